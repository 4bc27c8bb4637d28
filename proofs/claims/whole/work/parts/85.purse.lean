/-! words within a purse, the worst of some: both sides (walks by program: wip/whole/gen85.py) -/
/-- words on offer in their bounds -/
def IOf (a : Fl) : Prop := ∀ k, k < a 5 → a (126 + 4 * k) ≤ 1 ∧ 0 < a (126 + 4 * k + 1) ∧ a (126 + 4 * k + 1) < 2 ^ a 0 ∧ a (126 + 4 * k + 2) ≤ 999 ∧ a (126 + 4 * k + 3) ≤ 999
def sW (a : Fl) (c w : Nat) : Nat → Nat
  | 0 => 0
  | i + 1 => sW a c w i + (if w.testBit i = true then a (126 + 4 * i + c) else 0)
theorem sW_sub {a : Fl} {c x y : Nat} (h : sub x y) : ∀ i, sW a c x i ≤ sW a c y i := by
  intro i
  induction i with
  | zero => exact Nat.le_refl _
  | succ i ih =>
    show sW a c x i + (if _ then _ else _) ≤ sW a c y i + (if _ then _ else _)
    have := h i
    by_cases hx : x.testBit i = true
    · rw [if_pos hx, if_pos (this hx)]; omega
    · rw [if_neg hx]; omega
theorem sW_le {a : Fl} {c w : Nat} (ho : IOf a) (hc : c = 2 ∨ c = 3) : ∀ i, i ≤ a 5 → sW a c w i ≤ 999 * i := by
  intro i
  induction i with
  | zero => intro _; exact Nat.le_refl _
  | succ i ih =>
    intro hi
    have := ih (by omega)
    have q := (ho i (by omega)).2.2.2
    show sW a c w i + (if _ then _ else _) ≤ _
    rcases hc with rfl | rfl
    · split <;> omega
    · split <;> omega
def wsB (a : Fl) (k so : Nat) : Bool := metB (a (126 + 4 * k)) (a (126 + 4 * k + 1)) so
def wrM (a : Fl) (so : Nat) : Nat → Nat
  | 0 => 0
  | k + 1 => wrM a so k ||| (if wsB a k so = true then 0 else 2 ^ k)
theorem wrM_lt {a : Fl} {so : Nat} : ∀ k, wrM a so k < 2 ^ k := by
  intro k
  induction k with
  | zero => show 0 < 1; omega
  | succ k ih =>
    refine Nat.or_lt_two_pow (Nat.lt_trans ih (Nat.pow_lt_pow_right (by omega) (by omega))) ?_
    split
    · exact Nat.two_pow_pos _
    · exact Nat.pow_lt_pow_right (by omega) (by omega)
theorem wrM_0 {a : Fl} (ho : IOf a) {i : Nat} : ∀ k, k ≤ a 5 → i < k → (wrM a 0 k).testBit i = true := by
  intro k
  induction k with
  | zero => intro _ h; omega
  | succ k ih =>
    intro hk hi
    show (wrM a 0 k ||| (if _ then _ else _)).testBit i = true
    have hz : wsB a k 0 = false := met_zero (ho k (by omega)).2.1
    rw [if_neg (by rw [hz]; decide), Nat.testBit_or, Nat.testBit_two_pow]
    by_cases e : k = i
    · simp [e]
    · rw [ih (by omega) (by omega)]; rfl
def mWorst (a : Fl) (w : Int32) : Int32 := if vin w (2 ^ a 5) then nI (sW a 3 (nn w) (a 5)) else -1
def pB (a : Fl) (m : Nat) : Nat → Nat
  | 0 => 0
  | s + 1 => if 1 ≤ s ∧ sW a 2 (pB a m s) (a 5) < sW a 2 s (a 5) ∧ sW a 3 s (a 5) ≤ m + sW a 2 s (a 5) then s else pB a m s
theorem pB_le {a : Fl} {m : Nat} : ∀ s, pB a m s ≤ s := by
  intro s
  induction s with
  | zero => exact Nat.le_refl _
  | succ s ih =>
    show (if _ then _ else _) ≤ _
    split <;> omega
def mPurse (a : Fl) (m : Int32) (f : Nat) : Int32 := if inr m 0 9999 then (if f = 1 then nI (sW a 2 (pB a (nn m) (2 ^ a 5)) (a 5)) else nI (pB a (nn m) (2 ^ a 5))) else -1
theorem rm_row {s : Ms} {h : Hp} {k : Nat} {f : Nat → Int32} (hr : RM s h) (hk : 493 ≤ k) : RM s (sA h k f) := by
  obtain ⟨r1, r2, r3, r4, r5, r6, r7, r8, r9⟩ := hr
  refine ⟨r1, fun j hj => ?_, fun j hj => ?_, fun j hj => ?_, ?_, ?_, ?_, fun j hj => ?_, ?_⟩
  · rw [pI_sA_ne (by omega)]; exact r2 j hj
  · rw [pI_sA_ne (by omega)]; exact r3 j hj
  · rw [pI_sA_ne (by omega)]; exact r4 j hj
  · rw [pI_sA_ne (by omega)]; exact r5
  · rw [pI_sA_ne (by omega)]; exact r6
  · rw [pI_sA_ne (by omega)]; exact r7
  · rw [pI_sA_ne (by omega)]; exact r8 j hj
  · rw [pI_sA_ne (by omega)]; exact r9
def rw1 (g : Nat → Int32) (a : Fl) (i : Nat) : Nat → Int32 := fun j => if j < i then nI (wrM a j (a 5)) else g j
def rw2 (g : Nat → Int32) (a : Fl) (i k : Nat) : Nat → Int32 := fun j => if j < i then nI (wrM a j (a 5)) else if j = i then nI (wrM a i k) else g j
theorem rw2_end {g : Nat → Int32} {a : Fl} {i : Nat} : ∀ j, rw2 g a i (a 5) j = rw1 g a (i + 1) j := fun j => by
  unfold rw1 rw2
  by_cases h1 : j < i
  · rw [if_pos h1, if_pos (by omega)]
  · rw [if_neg h1]
    by_cases h2 : j = i
    · rw [if_pos h2, if_pos (by omega), h2]
    · rw [if_neg h2, if_neg (by omega)]
theorem rw2_at {g : Nat → Int32} {a : Fl} {i k : Nat} : rw2 g a i k i = nI (wrM a i k) := by
  unfold rw2
  rw [if_neg (by omega), if_pos rfl]
theorem rw2_step {g : Nat → Int32} {a : Fl} {i k v : Nat} : ∀ j, (if j = i then nI (wrM a i v) else rw2 g a i k j) = rw2 g a i v j := fun j => by
  unfold rw2
  by_cases h2 : j = i
  · rw [if_pos h2, if_neg (by omega), if_pos h2]
  · rw [if_neg h2, if_neg h2, if_neg h2]
theorem rw1_0 {g : Nat → Int32} {a : Fl} {i : Nat} : ∀ j, (if j = i then (0 : Int32) else rw1 g a i j) = rw2 g a i 0 j := fun j => by
  unfold rw1 rw2
  by_cases h2 : j = i
  · rw [if_pos h2, if_neg (by omega), if_pos h2]; rfl
  · rw [if_neg h2, if_neg h2]

theorem r_isWordSo {s : Ms} {h : Hp} {d : Nat} (hr : RM s h) (hv : IC s.1) (ho : IOf s.1) {k g : Nat} (hk : k < s.1 5) (hg : g < 256) (hd : 1 ≤ d) : Sp d mX9_isWordSo [.ref 488, .int (nI k), .int (nI g)] h (some (.int (bI (wsB s.1 k g = true)))) h := by
  have hm := hr.m
  have v0 := hv.1
  have v5 := hv.2.2.2.2.2.1
  have p8 : 2 ^ s.1 0 ≤ 2 ^ 8 := Nat.pow_le_pow_right (by omega) v0
  have p5 : 2 ^ s.1 5 ≤ 2 ^ 8 := Nat.pow_le_pow_right (by omega) v5
  have b1 := (ho k hk).1
  have b2 := (ho k hk).2.2.1
  have e0 : pI h 489 (126 + 4 * k) = nI (s.1 (126 + 4 * k)) := hr.at (by omega) (by omega)
  have e1 : pI h 489 (126 + 4 * k + 1) = nI (s.1 (126 + 4 * k + 1)) := hr.at (by omega) (by omega)
  intro N S Q hN hS hQ
  rcases (show s.1 (126 + 4 * k) = 0 ∨ s.1 (126 + 4 * k) = 1 by omega) with q | q
  · have hs := r_isSo (h := h) (d := 0) (al := 0) (f := s.1 (126 + 4 * k + 1)) (g := g) (Or.inl rfl) (by omega) hg
    unfold wsB at hQ
    rw [q] at hQ
    refine z_aload_n dX9_isWordSo_0 rfl rfl ?_
    refine y_getR FX9_7 dX9_isWordSo_1 rfl hm.o hm.f_a ?_
    refine z_bipush (v := 126) dX9_isWordSo_4 (by decide) ?_
    refine z_iconst (v := 4) dX9_isWordSo_6 (by decide) ?_
    refine z_iload_n dX9_isWordSo_7 rfl rfl ?_
    refine z_imul dX9_isWordSo_8 ?_
    refine z_iadd dX9_isWordSo_9 ?_
    refine y_ialN (126 + 4 * k) dX9_isWordSo_10 hm.A_a (Nat.le_of_ble_eq_true rfl) (by first | rfl | (simp only [← nI_add, ← pk_mul]; rfl)) (by omega) ?_
    refine z_eqi e0 ?_
    refine z_iconst (v := 1) dX9_isWordSo_11 (by decide) ?_
    refine z_icmp_ne dX9_isWordSo_12 rfl (fun _ => ?_) (fun c => absurd c (by rw [q]; decide))
    refine z_iconst (v := 0) dX9_isWordSo_19 (by decide) ?_
    refine z_aload_n dX9_isWordSo_20 rfl rfl ?_
    refine y_getR FX9_7 dX9_isWordSo_21 rfl hm.o hm.f_a ?_
    refine z_bipush (v := 126) dX9_isWordSo_24 (by decide) ?_
    refine z_iconst (v := 4) dX9_isWordSo_26 (by decide) ?_
    refine z_iload_n dX9_isWordSo_27 rfl rfl ?_
    refine z_imul dX9_isWordSo_28 ?_
    refine z_iadd dX9_isWordSo_29 ?_
    refine z_iconst (v := 1) dX9_isWordSo_30 (by decide) ?_
    refine z_iadd dX9_isWordSo_31 ?_
    refine y_ialN (126 + 4 * k + 1) dX9_isWordSo_32 hm.A_a (Nat.le_of_ble_eq_true rfl) (by first | rfl | (simp only [← nI_add, ← pk_mul]; rfl)) (by omega) ?_
    refine z_eqi e1 ?_
    refine z_iload_n dX9_isWordSo_33 rfl rfl ?_
    refine y_callS (as := [_, _, _]) CX9_isSo LX9_71 SX9_isSo dX9_isWordSo_34 rfl (Nat.le_of_ble_eq_true rfl) (Nat.le_of_ble_eq_true rfl) (by omega) hs (rok_z bI_01) ⟨Nat.le_refl _, Nat.le_refl _, hN, hS⟩ ?_
    refine z_iret dX9_isWordSo_37 ?_
    exact hQ
  · have hs := r_isSo (h := h) (d := 0) (al := 1) (f := s.1 (126 + 4 * k + 1)) (g := g) (Or.inr rfl) (by omega) hg
    unfold wsB at hQ
    rw [q] at hQ
    refine z_aload_n dX9_isWordSo_0 rfl rfl ?_
    refine y_getR FX9_7 dX9_isWordSo_1 rfl hm.o hm.f_a ?_
    refine z_bipush (v := 126) dX9_isWordSo_4 (by decide) ?_
    refine z_iconst (v := 4) dX9_isWordSo_6 (by decide) ?_
    refine z_iload_n dX9_isWordSo_7 rfl rfl ?_
    refine z_imul dX9_isWordSo_8 ?_
    refine z_iadd dX9_isWordSo_9 ?_
    refine y_ialN (126 + 4 * k) dX9_isWordSo_10 hm.A_a (Nat.le_of_ble_eq_true rfl) (by first | rfl | (simp only [← nI_add, ← pk_mul]; rfl)) (by omega) ?_
    refine z_eqi e0 ?_
    refine z_iconst (v := 1) dX9_isWordSo_11 (by decide) ?_
    refine z_icmp_ne dX9_isWordSo_12 rfl (fun c => absurd (by rw [q]; rfl) c) (fun _ => ?_)
    refine z_iconst (v := 1) dX9_isWordSo_15 (by decide) ?_
    refine z_goto dX9_isWordSo_16 rfl ?_
    refine z_aload_n dX9_isWordSo_20 rfl rfl ?_
    refine y_getR FX9_7 dX9_isWordSo_21 rfl hm.o hm.f_a ?_
    refine z_bipush (v := 126) dX9_isWordSo_24 (by decide) ?_
    refine z_iconst (v := 4) dX9_isWordSo_26 (by decide) ?_
    refine z_iload_n dX9_isWordSo_27 rfl rfl ?_
    refine z_imul dX9_isWordSo_28 ?_
    refine z_iadd dX9_isWordSo_29 ?_
    refine z_iconst (v := 1) dX9_isWordSo_30 (by decide) ?_
    refine z_iadd dX9_isWordSo_31 ?_
    refine y_ialN (126 + 4 * k + 1) dX9_isWordSo_32 hm.A_a (Nat.le_of_ble_eq_true rfl) (by first | rfl | (simp only [← nI_add, ← pk_mul]; rfl)) (by omega) ?_
    refine z_eqi e1 ?_
    refine z_iload_n dX9_isWordSo_33 rfl rfl ?_
    refine y_callS (as := [_, _, _]) CX9_isSo LX9_71 SX9_isSo dX9_isWordSo_34 rfl (Nat.le_of_ble_eq_true rfl) (Nat.le_of_ble_eq_true rfl) (by omega) hs (rok_z bI_01) ⟨Nat.le_refl _, Nat.le_refl _, hN, hS⟩ ?_
    refine z_iret dX9_isWordSo_37 ?_
    exact hQ

theorem r_sumOf_loop {s : Ms} {h : Hp} {d N S : Nat} {Q : Option Value → Hp → Prop} (hr : RM s h) (hv : IC s.1) (ho : IOf s.1) {w c : Nat} (hw : w < 256) (hc : c ≤ 3) (hN : pn h ≤ N) (hS : ps h ≤ S) (hd : 1 ≤ d) (hQ : Q (some (.int (nI (sW s.1 c w (s.1 5))))) h) : ∀ r i, i + r = s.1 5 → T d N S mX9_sumOf 5 [some (.ref 488), some (.int (nI w)), some (.int (nI c)), some (.int (nI (sW s.1 c w i))), some (.int (nI i))] [] h Q := by
  have hm := hr.m
  have v0 := hv.1
  have v5 := hv.2.2.2.2.2.1
  have p8 : 2 ^ s.1 0 ≤ 2 ^ 8 := Nat.pow_le_pow_right (by omega) v0
  have p5 : 2 ^ s.1 5 ≤ 2 ^ 8 := Nat.pow_le_pow_right (by omega) v5
  intro r
  induction r with
  | zero =>
    intro i hi
    have e : i = s.1 5 := by omega
    subst e
    refine z_iload dX9_sumOf_5 rfl ?_
    refine z_aload_n dX9_sumOf_7 rfl rfl ?_
    refine y_getR FX9_7 dX9_sumOf_8 rfl hm.o hm.f_a ?_
    refine z_iconst (v := 5) dX9_sumOf_11 (by decide) ?_
    refine y_ialN (5) dX9_sumOf_12 hm.A_a (Nat.le_of_ble_eq_true rfl) (rfl) (by omega) ?_
    refine z_eqi (show _ = nI (s.1 5) from hr.at (by omega) (by omega)) ?_
    refine z_icmp_ge dX9_sumOf_13 rfl (fun _ => ?_) (fun c => absurd (Int32.le_refl _) c)
    refine z_iload_n dX9_sumOf_52 rfl rfl ?_
    refine z_iret dX9_sumOf_53 ?_
    exact hQ
  | succ r ih =>
    intro i hi
    by_cases hb : w.testBit i = true
    · have e : sW s.1 c w (i + 1) = (sW s.1 c w i) + s.1 (126 + 4 * i + c) := by
        show _ + (if _ then _ else _) = _
        rw [if_pos hb]
      refine z_iload dX9_sumOf_5 rfl ?_
      refine z_aload_n dX9_sumOf_7 rfl rfl ?_
      refine y_getR FX9_7 dX9_sumOf_8 rfl hm.o hm.f_a ?_
      refine z_iconst (v := 5) dX9_sumOf_11 (by decide) ?_
      refine y_ialN (5) dX9_sumOf_12 hm.A_a (Nat.le_of_ble_eq_true rfl) (rfl) (by omega) ?_
      refine z_eqi (show _ = nI (s.1 5) from hr.at (by omega) (by omega)) ?_
      refine z_icmp_ge dX9_sumOf_13 rfl (fun c => absurd c (fun q => absurd ((nI_leI (by omega) (by omega)).mp q) (by omega))) (fun _ => ?_)
      refine z_iload_n dX9_sumOf_16 rfl rfl ?_
      refine z_iload_n dX9_sumOf_17 rfl rfl ?_
      refine z_iload dX9_sumOf_18 rfl ?_
      refine y_callS (as := [_, _]) CX9_has LX9_261 SX9_has dX9_sumOf_20 rfl (Nat.le_of_ble_eq_true rfl) (Nat.le_of_ble_eq_true rfl) (by omega) (r_has (n := w) (k := i) (by omega) (by omega)) (rok_z bI_01) ⟨Nat.le_refl _, Nat.le_refl _, hN, hS⟩ ?_
      refine z_if_eq dX9_sumOf_23 rfl (fun c => absurd c (bI_ne0.mpr hb)) (fun _ => ?_)
      refine z_aload_n dX9_sumOf_26 rfl rfl ?_
      refine y_getR FX9_7 dX9_sumOf_27 rfl hm.o hm.f_a ?_
      refine z_bipush (v := 126) dX9_sumOf_30 (by decide) ?_
      refine z_iconst (v := 4) dX9_sumOf_32 (by decide) ?_
      refine z_iload dX9_sumOf_33 rfl ?_
      refine z_imul dX9_sumOf_35 ?_
      refine z_iadd dX9_sumOf_36 ?_
      refine z_iload_n dX9_sumOf_37 rfl rfl ?_
      refine z_iadd dX9_sumOf_38 ?_
      refine y_ialN (126 + 4 * i + c) dX9_sumOf_39 hm.A_a (Nat.le_of_ble_eq_true rfl) (by first | rfl | (simp only [← nI_add, ← pk_mul]; rfl)) (by omega) ?_
      refine z_eqi (show _ = nI (s.1 (126 + 4 * i + c)) from hr.at (by omega) (by omega)) ?_
      refine z_goto dX9_sumOf_40 rfl ?_
      refine z_iadd dX9_sumOf_44 ?_
      refine z_eqi (nI_add _ _) ?_
      refine z_istore_n dX9_sumOf_45 rfl (Nat.le_of_ble_eq_true rfl) ?_
      refine z_iinc dX9_sumOf_46 rfl (nI_1 _) (Nat.le_of_ble_eq_true rfl) ?_
      refine z_goto dX9_sumOf_49 rfl ?_
      have K2 := ih (i + 1) (by omega)
      rw [e] at K2
      exact K2
    · have e : sW s.1 c w (i + 1) = (sW s.1 c w i) + 0 := by
        show _ + (if _ then _ else _) = _
        rw [if_neg hb]
      refine z_iload dX9_sumOf_5 rfl ?_
      refine z_aload_n dX9_sumOf_7 rfl rfl ?_
      refine y_getR FX9_7 dX9_sumOf_8 rfl hm.o hm.f_a ?_
      refine z_iconst (v := 5) dX9_sumOf_11 (by decide) ?_
      refine y_ialN (5) dX9_sumOf_12 hm.A_a (Nat.le_of_ble_eq_true rfl) (rfl) (by omega) ?_
      refine z_eqi (show _ = nI (s.1 5) from hr.at (by omega) (by omega)) ?_
      refine z_icmp_ge dX9_sumOf_13 rfl (fun c => absurd c (fun q => absurd ((nI_leI (by omega) (by omega)).mp q) (by omega))) (fun _ => ?_)
      refine z_iload_n dX9_sumOf_16 rfl rfl ?_
      refine z_iload_n dX9_sumOf_17 rfl rfl ?_
      refine z_iload dX9_sumOf_18 rfl ?_
      refine y_callS (as := [_, _]) CX9_has LX9_261 SX9_has dX9_sumOf_20 rfl (Nat.le_of_ble_eq_true rfl) (Nat.le_of_ble_eq_true rfl) (by omega) (r_has (n := w) (k := i) (by omega) (by omega)) (rok_z bI_01) ⟨Nat.le_refl _, Nat.le_refl _, hN, hS⟩ ?_
      refine z_if_eq dX9_sumOf_23 rfl (fun _ => ?_) (fun c => absurd (bI_eq0.mpr hb) c)
      refine z_iconst (v := 0) dX9_sumOf_43 (by decide) ?_
      refine z_iadd dX9_sumOf_44 ?_
      refine z_eqi (nI_add _ 0) ?_
      refine z_istore_n dX9_sumOf_45 rfl (Nat.le_of_ble_eq_true rfl) ?_
      refine z_iinc dX9_sumOf_46 rfl (nI_1 _) (Nat.le_of_ble_eq_true rfl) ?_
      refine z_goto dX9_sumOf_49 rfl ?_
      have K2 := ih (i + 1) (by omega)
      rw [e] at K2
      exact K2
theorem r_sumOf {s : Ms} {h : Hp} {d : Nat} (hr : RM s h) (hv : IC s.1) (ho : IOf s.1) {w c : Nat} (hw : w < 256) (hc : c ≤ 3) (hd : 1 ≤ d) : Sp d mX9_sumOf [.ref 488, .int (nI w), .int (nI c)] h (some (.int (nI (sW s.1 c w (s.1 5))))) h := by
  have hm := hr.m
  intro N S Q hN hS hQ
  refine z_iconst (v := 0) dX9_sumOf_0 (by decide) ?_
  refine z_istore_n dX9_sumOf_1 rfl (Nat.le_of_ble_eq_true rfl) ?_
  refine z_iconst (v := 0) dX9_sumOf_2 (by decide) ?_
  refine z_istore dX9_sumOf_3 (Nat.le_of_ble_eq_true rfl) ?_
  exact r_sumOf_loop hr hv ho hw hc hN hS hd hQ (s.1 5) 0 (by omega)

theorem r_lay_in {s : Ms} {h : Hp} {d N S : Nat} {Q : Option Value → Hp → Prop} (hr : RM s h) (hv : IC s.1) (ho : IOf s.1) {i : Nat} (hi8 : i < 256) (hN : pn h ≤ N) (hS : ps h ≤ S) (hd : 2 ≤ d) (K : ∀ o2, T d N S mX9_layWrong 60 [some (.ref 488), some (.int (nI i)), o2] [] (sA h 498 (rw2 (pI h 498) s.1 i (s.1 5))) Q) : ∀ r k, k + r = s.1 5 → T d N S mX9_layWrong 19 [some (.ref 488), some (.int (nI i)), some (.int (nI k))] [] (sA h 498 (rw2 (pI h 498) s.1 i k)) Q := by
  have hm := hr.m
  have v0 := hv.1
  have v5 := hv.2.2.2.2.2.1
  have p8 : 2 ^ s.1 0 ≤ 2 ^ 8 := Nat.pow_le_pow_right (by omega) v0
  have p5 : 2 ^ s.1 5 ≤ 2 ^ 8 := Nat.pow_le_pow_right (by omega) v5
  intro r
  induction r with
  | zero =>
    intro k hk
    have e : k = s.1 5 := by omega
    subst e
    refine z_iload_n dX9_layWrong_19 rfl rfl ?_
    refine z_aload_n dX9_layWrong_20 rfl rfl ?_
    refine y_getR FX9_7 dX9_layWrong_21 rfl hm.o hm.f_a ?_
    refine z_iconst (v := 5) dX9_layWrong_24 (by decide) ?_
    refine y_ialN (5) dX9_layWrong_25 hm.A_a (Nat.le_of_ble_eq_true rfl) (rfl) (by omega) ?_
    refine z_eqi (show _ = nI (s.1 5) by rw [pI_sA_ne (by omega)]; exact hr.at (by omega) (by omega)) ?_
    refine z_icmp_ge dX9_layWrong_26 rfl (fun _ => ?_) (fun c => absurd (Int32.le_refl _) c)
    exact K _
  | succ r ih =>
    intro k hk
    by_cases hb : wsB s.1 k i = true
    · have e : wrM s.1 i (k + 1) = wrM s.1 i k ||| 0 := by
        show _ ||| (if _ then _ else _) = _
        rw [if_pos hb]
      refine z_iload_n dX9_layWrong_19 rfl rfl ?_
      refine z_aload_n dX9_layWrong_20 rfl rfl ?_
      refine y_getR FX9_7 dX9_layWrong_21 rfl hm.o hm.f_a ?_
      refine z_iconst (v := 5) dX9_layWrong_24 (by decide) ?_
      refine y_ialN (5) dX9_layWrong_25 hm.A_a (Nat.le_of_ble_eq_true rfl) (rfl) (by omega) ?_
      refine z_eqi (show _ = nI (s.1 5) by rw [pI_sA_ne (by omega)]; exact hr.at (by omega) (by omega)) ?_
      refine z_icmp_ge dX9_layWrong_26 rfl (fun c => absurd c (fun q => absurd ((nI_leI (by omega) (by omega)).mp q) (by omega))) (fun _ => ?_)
      refine z_aload_n dX9_layWrong_29 rfl rfl ?_
      refine y_getR FX9_50 dX9_layWrong_30 rfl hm.o hm.f_wrongIn ?_
      refine z_iload_n dX9_layWrong_33 rfl rfl ?_
      refine z_dup2_11 dX9_layWrong_34 rfl rfl ?_
      refine y_ialN (i) dX9_layWrong_35 hm.A_wrongIn (Nat.le_of_ble_eq_true rfl) (rfl) (by omega) ?_
      refine z_eqi (show _ = nI (wrM s.1 i k) by rw [pI_sA, if_pos rfl]; exact rw2_at) ?_
      refine z_aload_n dX9_layWrong_36 rfl rfl ?_
      refine z_iload_n dX9_layWrong_37 rfl rfl ?_
      refine z_iload_n dX9_layWrong_38 rfl rfl ?_
      refine y_callV (as := [_, _]) CX9_isWordSo LX9_473 IX9_isWordSo VX9_isWordSo ⟨rfl, Nat.le_of_ble_eq_true rfl⟩ dX9_layWrong_39 hm.o rfl (Nat.le_of_ble_eq_true rfl) (Nat.le_of_ble_eq_true rfl) (by omega) (r_isWordSo (k := k) (g := i) (rm_row hr (by omega)) hv ho (by omega) hi8 (by omega)) (rok_z bI_01) ⟨Nat.le_refl _, Nat.le_refl _, hN, hS⟩ ?_
      refine z_if_eq dX9_layWrong_42 rfl (fun c => absurd c (bI_ne0.mpr hb)) (fun _ => ?_)
      refine z_iconst (v := 0) dX9_layWrong_45 (by decide) ?_
      refine z_goto dX9_layWrong_46 rfl ?_
      refine z_ior dX9_layWrong_52 ?_
      refine z_eqi (show _ = nI (wrM s.1 i (k + 1)) from (nI_or _ 0).trans (congrArg nI e.symm)) ?_
      refine y_iasN (i) dX9_layWrong_53 hm.A_wrongIn (Nat.le_of_ble_eq_true rfl) (rfl) (by omega) ?_
      refine z_iinc dX9_layWrong_54 rfl (nI_1 _) (Nat.le_of_ble_eq_true rfl) ?_
      refine z_goto dX9_layWrong_57 rfl ?_
      rw [sI_sA, sA_congr (rw2_step (v := k + 1))]
      exact ih (k + 1) (by omega)
    · have e : wrM s.1 i (k + 1) = wrM s.1 i k ||| 2 ^ k := by
        show _ ||| (if _ then _ else _) = _
        rw [if_neg hb]
      refine z_iload_n dX9_layWrong_19 rfl rfl ?_
      refine z_aload_n dX9_layWrong_20 rfl rfl ?_
      refine y_getR FX9_7 dX9_layWrong_21 rfl hm.o hm.f_a ?_
      refine z_iconst (v := 5) dX9_layWrong_24 (by decide) ?_
      refine y_ialN (5) dX9_layWrong_25 hm.A_a (Nat.le_of_ble_eq_true rfl) (rfl) (by omega) ?_
      refine z_eqi (show _ = nI (s.1 5) by rw [pI_sA_ne (by omega)]; exact hr.at (by omega) (by omega)) ?_
      refine z_icmp_ge dX9_layWrong_26 rfl (fun c => absurd c (fun q => absurd ((nI_leI (by omega) (by omega)).mp q) (by omega))) (fun _ => ?_)
      refine z_aload_n dX9_layWrong_29 rfl rfl ?_
      refine y_getR FX9_50 dX9_layWrong_30 rfl hm.o hm.f_wrongIn ?_
      refine z_iload_n dX9_layWrong_33 rfl rfl ?_
      refine z_dup2_11 dX9_layWrong_34 rfl rfl ?_
      refine y_ialN (i) dX9_layWrong_35 hm.A_wrongIn (Nat.le_of_ble_eq_true rfl) (rfl) (by omega) ?_
      refine z_eqi (show _ = nI (wrM s.1 i k) by rw [pI_sA, if_pos rfl]; exact rw2_at) ?_
      refine z_aload_n dX9_layWrong_36 rfl rfl ?_
      refine z_iload_n dX9_layWrong_37 rfl rfl ?_
      refine z_iload_n dX9_layWrong_38 rfl rfl ?_
      refine y_callV (as := [_, _]) CX9_isWordSo LX9_473 IX9_isWordSo VX9_isWordSo ⟨rfl, Nat.le_of_ble_eq_true rfl⟩ dX9_layWrong_39 hm.o rfl (Nat.le_of_ble_eq_true rfl) (Nat.le_of_ble_eq_true rfl) (by omega) (r_isWordSo (k := k) (g := i) (rm_row hr (by omega)) hv ho (by omega) hi8 (by omega)) (rok_z bI_01) ⟨Nat.le_refl _, Nat.le_refl _, hN, hS⟩ ?_
      refine z_if_eq dX9_layWrong_42 rfl (fun _ => ?_) (fun c => absurd (bI_eq0.mpr hb) c)
      refine z_iconst (v := 1) dX9_layWrong_49 (by decide) ?_
      refine z_iload_n dX9_layWrong_50 rfl rfl ?_
      refine z_ishl dX9_layWrong_51 ?_
      refine z_eqi (nI_bit (show k < 31 by omega)) ?_
      refine z_ior dX9_layWrong_52 ?_
      refine z_eqi (show _ = nI (wrM s.1 i (k + 1)) from (nI_or _ _).trans (congrArg nI e.symm)) ?_
      refine y_iasN (i) dX9_layWrong_53 hm.A_wrongIn (Nat.le_of_ble_eq_true rfl) (rfl) (by omega) ?_
      refine z_iinc dX9_layWrong_54 rfl (nI_1 _) (Nat.le_of_ble_eq_true rfl) ?_
      refine z_goto dX9_layWrong_57 rfl ?_
      rw [sI_sA, sA_congr (rw2_step (v := k + 1))]
      exact ih (k + 1) (by omega)

theorem r_lay_out {s : Ms} {h : Hp} {d N S : Nat} {Q : Option Value → Hp → Prop} (hr : RM s h) (hv : IC s.1) (ho : IOf s.1) (hN : pn h ≤ N) (hS : ps h ≤ S) (hd : 2 ≤ d) (hQ : Q none (sA h 498 (rw1 (pI h 498) s.1 (2 ^ s.1 0)))) : ∀ r i (o2 : Option Value), i + r = 2 ^ s.1 0 → T d N S mX9_layWrong 2 [some (.ref 488), some (.int (nI i)), o2] [] (sA h 498 (rw1 (pI h 498) s.1 i)) Q := by
  have hm := hr.m
  have v0 := hv.1
  have v5 := hv.2.2.2.2.2.1
  have p8 : 2 ^ s.1 0 ≤ 2 ^ 8 := Nat.pow_le_pow_right (by omega) v0
  have p5 : 2 ^ s.1 5 ≤ 2 ^ 8 := Nat.pow_le_pow_right (by omega) v5
  have p1 : 0 < 2 ^ s.1 0 := Nat.pow_pos (by omega)
  intro r
  induction r with
  | zero =>
    intro i o2 hi
    have e : i = 2 ^ s.1 0 := by omega
    subst e
    refine z_iload_n dX9_layWrong_2 rfl rfl ?_
    refine z_aload_n dX9_layWrong_3 rfl rfl ?_
    refine y_callV (as := []) CX9_allFacts LX9_464 IX9_allFacts VX9_allFacts ⟨rfl, Nat.le_of_ble_eq_true rfl⟩ dX9_layWrong_4 hm.o rfl (Nat.le_of_ble_eq_true rfl) (Nat.le_of_ble_eq_true rfl) (by omega) (r_allFacts (d := 0) (rm_row hr (by omega)) hv) rok_i ⟨Nat.le_refl _, Nat.le_refl _, hN, hS⟩ ?_
    refine z_icmp_gt dX9_layWrong_7 rfl (fun _ => ?_) (fun c => absurd ((nI_ltI (by omega) (by omega)).mpr (by omega)) c)
    refine z_vret dX9_layWrong_66 ?_
    exact hQ
  | succ r ih =>
    intro i o2 hi
    have K : ∀ o2, T d N S mX9_layWrong 60 [some (.ref 488), some (.int (nI i)), o2] [] (sA h 498 (rw2 (pI h 498) s.1 i (s.1 5))) Q := fun o2 => by
      rw [sA_congr rw2_end]
      refine z_iinc dX9_layWrong_60 rfl (nI_1 _) (Nat.le_of_ble_eq_true rfl) ?_
      refine z_goto dX9_layWrong_63 rfl ?_
      exact ih (i + 1) o2 (by omega)
    refine z_iload_n dX9_layWrong_2 rfl rfl ?_
    refine z_aload_n dX9_layWrong_3 rfl rfl ?_
    refine y_callV (as := []) CX9_allFacts LX9_464 IX9_allFacts VX9_allFacts ⟨rfl, Nat.le_of_ble_eq_true rfl⟩ dX9_layWrong_4 hm.o rfl (Nat.le_of_ble_eq_true rfl) (Nat.le_of_ble_eq_true rfl) (by omega) (r_allFacts (d := 0) (rm_row hr (by omega)) hv) rok_i ⟨Nat.le_refl _, Nat.le_refl _, hN, hS⟩ ?_
    refine z_icmp_gt dX9_layWrong_7 rfl (fun c => absurd c (fun q => absurd ((nI_ltI (by omega) (by omega)).mp q) (by omega))) (fun _ => ?_)
    refine z_aload_n dX9_layWrong_10 rfl rfl ?_
    refine y_getR FX9_50 dX9_layWrong_11 rfl hm.o hm.f_wrongIn ?_
    refine z_iload_n dX9_layWrong_14 rfl rfl ?_
    refine z_iconst (v := 0) dX9_layWrong_15 (by decide) ?_
    refine y_iasN (i) dX9_layWrong_16 hm.A_wrongIn (Nat.le_of_ble_eq_true rfl) (rfl) (by omega) ?_
    refine z_iconst (v := 0) dX9_layWrong_17 (by decide) ?_
    refine z_istore_n dX9_layWrong_18 rfl (Nat.le_of_ble_eq_true rfl) ?_
    rw [sI_sA, sA_congr rw1_0]
    exact r_lay_in hr hv ho (by omega) hN hS hd K (s.1 5) 0 (by omega)
theorem r_layWrong {s : Ms} {h : Hp} {d : Nat} (hr : RM s h) (hv : IC s.1) (ho : IOf s.1) (hd : 2 ≤ d) : ∃ h1, Sp d mX9_layWrong [.ref 488] h none h1 ∧ RM s h1 ∧ FM h h1 ∧ ∀ so, so < 2 ^ s.1 0 → pI h1 498 so = nI (wrM s.1 so (s.1 5)) := by
  have hm := hr.m
  refine ⟨(sA h 498 (rw1 (pI h 498) s.1 (2 ^ s.1 0))), ?_, rm_row hr (by omega), FM.rf.sA (by omega), fun so hs => ?_⟩
  · intro N S Q hN hS hQ
    have L := r_lay_out (d := d) (N := N) (S := S) (Q := Q) hr hv ho hN hS hd hQ (2 ^ s.1 0) 0 none (by omega)
    rw [show rw1 (pI h 498) s.1 0 = (pI h 498) from funext (fun j => if_neg (by omega)), sA_id] at L
    refine z_iconst (v := 0) dX9_layWrong_0 (by decide) ?_
    refine z_istore_n dX9_layWrong_1 rfl (Nat.le_of_ble_eq_true rfl) ?_
    exact L
  · rw [pI_sA, if_pos rfl]
    exact if_pos hs

theorem r_worst_loop {s : Ms} {h : Hp} {d N S : Nat} {Q : Option Value → Hp → Prop} (hr : RM s h) (hv : IC s.1) (ho : IOf s.1) {w : Nat} (hw : w < 2 ^ s.1 5) (hrow : ∀ so, so < 2 ^ s.1 0 → pI h 498 so = nI (wrM s.1 so (s.1 5))) (hN : pn h ≤ N) (hS : ps h ≤ S) (hd : 2 ≤ d) (hQ : Q (some (.int (nI (sW s.1 3 w (s.1 5))))) h) : ∀ r i (o4 : Option Value), i + r = 2 ^ s.1 0 → T d N S mX9_worstOf 4 [some (.ref 488), some (.int (nI w)), some (.int (nI (if i = 0 then 0 else sW s.1 3 w (s.1 5)))), some (.int (nI i)), o4] [] h Q := by
  have hm := hr.m
  have v0 := hv.1
  have v5 := hv.2.2.2.2.2.1
  have p8 : 2 ^ s.1 0 ≤ 2 ^ 8 := Nat.pow_le_pow_right (by omega) v0
  have p5 : 2 ^ s.1 5 ≤ 2 ^ 8 := Nat.pow_le_pow_right (by omega) v5
  have p1 : 0 < 2 ^ s.1 0 := Nat.pow_pos (by omega)
  have sl := sW_le (w := w) ho (Or.inr rfl : (3 : Nat) = 2 ∨ (3 : Nat) = 3) (s.1 5) (Nat.le_refl _)
  intro r
  induction r with
  | zero =>
    intro i o4 hi
    have e : i = 2 ^ s.1 0 := by omega
    subst e
    rw [if_neg (by omega)]
    refine z_iload_n dX9_worstOf_4 rfl rfl ?_
    refine z_aload_n dX9_worstOf_5 rfl rfl ?_
    refine y_callV (as := []) CX9_allFacts LX9_464 IX9_allFacts VX9_allFacts ⟨rfl, Nat.le_of_ble_eq_true rfl⟩ dX9_worstOf_6 hm.o rfl (Nat.le_of_ble_eq_true rfl) (Nat.le_of_ble_eq_true rfl) (by omega) (r_allFacts (d := 0) hr hv) rok_i ⟨Nat.le_refl _, Nat.le_refl _, hN, hS⟩ ?_
    refine z_icmp_gt dX9_worstOf_9 rfl (fun _ => ?_) (fun c => absurd ((nI_ltI (by omega) (by omega)).mpr (by omega)) c)
    refine z_iload_n dX9_worstOf_46 rfl rfl ?_
    refine z_iret dX9_worstOf_47 ?_
    exact hQ
  | succ r ih =>
    intro i o4 hi
    have hwm : w &&& wrM s.1 i (s.1 5) < 256 := Nat.lt_of_le_of_lt Nat.and_le_left (by omega)
    have vl : sW s.1 3 (w &&& wrM s.1 i (s.1 5)) (s.1 5) ≤ sW s.1 3 w (s.1 5) := sW_sub (fun j hj => by rw [Nat.testBit_and, Bool.and_eq_true] at hj; exact hj.1) _
    have K2 := fun o4 => ih (i + 1) o4 (by omega)
    rw [if_neg (show ¬ i + 1 = 0 by omega)] at K2
    by_cases h0 : i = 0
    · subst h0
      have ev : w &&& wrM s.1 0 (s.1 5) = w := by
        apply Nat.eq_of_testBit_eq
        intro j
        rw [Nat.testBit_and]
        by_cases q : j < s.1 5
        · rw [wrM_0 ho (s.1 5) (Nat.le_refl _) q, Bool.and_true]
        · rw [bit_hi hw (by omega)]; rfl
      rw [if_pos rfl]
      by_cases hz : sW s.1 3 w (s.1 5) = 0
      · rw [hz] at K2
        refine z_iload_n dX9_worstOf_4 rfl rfl ?_
        refine z_aload_n dX9_worstOf_5 rfl rfl ?_
        refine y_callV (as := []) CX9_allFacts LX9_464 IX9_allFacts VX9_allFacts ⟨rfl, Nat.le_of_ble_eq_true rfl⟩ dX9_worstOf_6 hm.o rfl (Nat.le_of_ble_eq_true rfl) (Nat.le_of_ble_eq_true rfl) (by omega) (r_allFacts (d := 0) hr hv) rok_i ⟨Nat.le_refl _, Nat.le_refl _, hN, hS⟩ ?_
        refine z_icmp_gt dX9_worstOf_9 rfl (fun c => absurd c (fun q => absurd ((nI_ltI (by omega) (by omega)).mp q) (by omega))) (fun _ => ?_)
        refine z_aload_n dX9_worstOf_12 rfl rfl ?_
        refine z_iload_n dX9_worstOf_13 rfl rfl ?_
        refine z_aload_n dX9_worstOf_14 rfl rfl ?_
        refine y_getR FX9_50 dX9_worstOf_15 rfl hm.o hm.f_wrongIn ?_
        refine z_iload_n dX9_worstOf_18 rfl rfl ?_
        refine y_ialN (0) dX9_worstOf_19 hm.A_wrongIn (Nat.le_of_ble_eq_true rfl) (rfl) (by omega) ?_
        refine z_eqi (hrow 0 (by omega)) ?_
        refine z_iand dX9_worstOf_20 ?_
        refine z_eqi (nI_and w (wrM s.1 0 (s.1 5))) ?_
        refine z_iconst (v := 3) dX9_worstOf_21 (by decide) ?_
        refine y_callV (as := [_, _]) CX9_sumOf LX9_476 IX9_sumOf VX9_sumOf ⟨rfl, Nat.le_of_ble_eq_true rfl⟩ dX9_worstOf_22 hm.o rfl (Nat.le_of_ble_eq_true rfl) (Nat.le_of_ble_eq_true rfl) (by omega) (r_sumOf (d := 1) (w := w &&& wrM s.1 0 (s.1 5)) (c := 3) hr hv ho hwm (by omega) (Nat.le_refl _)) rok_i ⟨Nat.le_refl _, Nat.le_refl _, hN, hS⟩ ?_
        refine z_istore dX9_worstOf_25 (Nat.le_of_ble_eq_true rfl) ?_
        refine z_iload dX9_worstOf_27 rfl ?_
        refine z_iload_n dX9_worstOf_29 rfl rfl ?_
        refine z_icmp_le dX9_worstOf_30 rfl (fun _ => ?_) (fun c => absurd (by rw [ev, hz]; exact Int32.le_refl _) c)
        refine z_iload_n dX9_worstOf_38 rfl rfl ?_
        refine z_istore_n dX9_worstOf_39 rfl (Nat.le_of_ble_eq_true rfl) ?_
        refine z_iinc dX9_worstOf_40 rfl (nI_1 0) (Nat.le_of_ble_eq_true rfl) ?_
        refine z_goto dX9_worstOf_43 rfl ?_
        exact K2 _
      · skip
        refine z_iload_n dX9_worstOf_4 rfl rfl ?_
        refine z_aload_n dX9_worstOf_5 rfl rfl ?_
        refine y_callV (as := []) CX9_allFacts LX9_464 IX9_allFacts VX9_allFacts ⟨rfl, Nat.le_of_ble_eq_true rfl⟩ dX9_worstOf_6 hm.o rfl (Nat.le_of_ble_eq_true rfl) (Nat.le_of_ble_eq_true rfl) (by omega) (r_allFacts (d := 0) hr hv) rok_i ⟨Nat.le_refl _, Nat.le_refl _, hN, hS⟩ ?_
        refine z_icmp_gt dX9_worstOf_9 rfl (fun c => absurd c (fun q => absurd ((nI_ltI (by omega) (by omega)).mp q) (by omega))) (fun _ => ?_)
        refine z_aload_n dX9_worstOf_12 rfl rfl ?_
        refine z_iload_n dX9_worstOf_13 rfl rfl ?_
        refine z_aload_n dX9_worstOf_14 rfl rfl ?_
        refine y_getR FX9_50 dX9_worstOf_15 rfl hm.o hm.f_wrongIn ?_
        refine z_iload_n dX9_worstOf_18 rfl rfl ?_
        refine y_ialN (0) dX9_worstOf_19 hm.A_wrongIn (Nat.le_of_ble_eq_true rfl) (rfl) (by omega) ?_
        refine z_eqi (hrow 0 (by omega)) ?_
        refine z_iand dX9_worstOf_20 ?_
        refine z_eqi (nI_and w (wrM s.1 0 (s.1 5))) ?_
        refine z_iconst (v := 3) dX9_worstOf_21 (by decide) ?_
        refine y_callV (as := [_, _]) CX9_sumOf LX9_476 IX9_sumOf VX9_sumOf ⟨rfl, Nat.le_of_ble_eq_true rfl⟩ dX9_worstOf_22 hm.o rfl (Nat.le_of_ble_eq_true rfl) (Nat.le_of_ble_eq_true rfl) (by omega) (r_sumOf (d := 1) (w := w &&& wrM s.1 0 (s.1 5)) (c := 3) hr hv ho hwm (by omega) (Nat.le_refl _)) rok_i ⟨Nat.le_refl _, Nat.le_refl _, hN, hS⟩ ?_
        refine z_istore dX9_worstOf_25 (Nat.le_of_ble_eq_true rfl) ?_
        refine z_iload dX9_worstOf_27 rfl ?_
        refine z_iload_n dX9_worstOf_29 rfl rfl ?_
        refine z_icmp_le dX9_worstOf_30 rfl (fun c => absurd c (fun q => by rw [ev] at q; exact absurd ((nI_leI (b := 0) (by omega) (by omega)).mp q) (by omega))) (fun _ => ?_)
        refine z_iload dX9_worstOf_33 rfl ?_
        refine z_goto dX9_worstOf_35 rfl ?_
        refine z_istore_n dX9_worstOf_39 rfl (Nat.le_of_ble_eq_true rfl) ?_
        refine z_iinc dX9_worstOf_40 rfl (nI_1 0) (Nat.le_of_ble_eq_true rfl) ?_
        refine z_goto dX9_worstOf_43 rfl ?_
        rw [ev]
        exact K2 _
    · rw [if_neg h0]
      refine z_iload_n dX9_worstOf_4 rfl rfl ?_
      refine z_aload_n dX9_worstOf_5 rfl rfl ?_
      refine y_callV (as := []) CX9_allFacts LX9_464 IX9_allFacts VX9_allFacts ⟨rfl, Nat.le_of_ble_eq_true rfl⟩ dX9_worstOf_6 hm.o rfl (Nat.le_of_ble_eq_true rfl) (Nat.le_of_ble_eq_true rfl) (by omega) (r_allFacts (d := 0) hr hv) rok_i ⟨Nat.le_refl _, Nat.le_refl _, hN, hS⟩ ?_
      refine z_icmp_gt dX9_worstOf_9 rfl (fun c => absurd c (fun q => absurd ((nI_ltI (by omega) (by omega)).mp q) (by omega))) (fun _ => ?_)
      refine z_aload_n dX9_worstOf_12 rfl rfl ?_
      refine z_iload_n dX9_worstOf_13 rfl rfl ?_
      refine z_aload_n dX9_worstOf_14 rfl rfl ?_
      refine y_getR FX9_50 dX9_worstOf_15 rfl hm.o hm.f_wrongIn ?_
      refine z_iload_n dX9_worstOf_18 rfl rfl ?_
      refine y_ialN (i) dX9_worstOf_19 hm.A_wrongIn (Nat.le_of_ble_eq_true rfl) (rfl) (by omega) ?_
      refine z_eqi (hrow i (by omega)) ?_
      refine z_iand dX9_worstOf_20 ?_
      refine z_eqi (nI_and w (wrM s.1 i (s.1 5))) ?_
      refine z_iconst (v := 3) dX9_worstOf_21 (by decide) ?_
      refine y_callV (as := [_, _]) CX9_sumOf LX9_476 IX9_sumOf VX9_sumOf ⟨rfl, Nat.le_of_ble_eq_true rfl⟩ dX9_worstOf_22 hm.o rfl (Nat.le_of_ble_eq_true rfl) (Nat.le_of_ble_eq_true rfl) (by omega) (r_sumOf (d := 1) (w := w &&& wrM s.1 i (s.1 5)) (c := 3) hr hv ho hwm (by omega) (Nat.le_refl _)) rok_i ⟨Nat.le_refl _, Nat.le_refl _, hN, hS⟩ ?_
      refine z_istore dX9_worstOf_25 (Nat.le_of_ble_eq_true rfl) ?_
      refine z_iload dX9_worstOf_27 rfl ?_
      refine z_iload_n dX9_worstOf_29 rfl rfl ?_
      refine z_icmp_le dX9_worstOf_30 rfl (fun _ => ?_) (fun c => absurd ((nI_leI (by omega) (by omega)).mpr vl) c)
      refine z_iload_n dX9_worstOf_38 rfl rfl ?_
      refine z_istore_n dX9_worstOf_39 rfl (Nat.le_of_ble_eq_true rfl) ?_
      refine z_iinc dX9_worstOf_40 rfl (nI_1 _) (Nat.le_of_ble_eq_true rfl) ?_
      refine z_goto dX9_worstOf_43 rfl ?_
      exact K2 _
theorem r_worstOf {s : Ms} {h : Hp} {d : Nat} (hr : RM s h) (hv : IC s.1) (ho : IOf s.1) {w : Nat} (hw : w < 2 ^ s.1 5) (hrow : ∀ so, so < 2 ^ s.1 0 → pI h 498 so = nI (wrM s.1 so (s.1 5))) (hd : 2 ≤ d) : Sp d mX9_worstOf [.ref 488, .int (nI w)] h (some (.int (nI (sW s.1 3 w (s.1 5))))) h := by
  have hm := hr.m
  intro N S Q hN hS hQ
  have L := r_worst_loop (d := d) hr hv ho hw hrow hN hS hd hQ (2 ^ s.1 0) 0 none (by omega)
  rw [if_pos rfl] at L
  refine z_iconst (v := 0) dX9_worstOf_0 (by decide) ?_
  refine z_istore_n dX9_worstOf_1 rfl (Nat.le_of_ble_eq_true rfl) ?_
  refine z_iconst (v := 0) dX9_worstOf_2 (by decide) ?_
  refine z_istore_n dX9_worstOf_3 rfl (Nat.le_of_ble_eq_true rfl) ?_
  exact L

theorem R_worst {s : Ms} {h : Hp} {d : Nat} (hr : RM s h) (hv : IC s.1) (ho : IOf s.1) (w : Int32) (hd : 3 ≤ d) : ∃ h1, Sp d mX9_worst [.ref 488, .int w] h (some (.int (mWorst s.1 w))) h1 ∧ RM s h1 ∧ FM h h1 := by
  have hm := hr.m
  have v0 := hv.1
  have v5 := hv.2.2.2.2.2.1
  have p8 : 2 ^ s.1 0 ≤ 2 ^ 8 := Nat.pow_le_pow_right (by omega) v0
  have p5 : 2 ^ s.1 5 ≤ 2 ^ 8 := Nat.pow_le_pow_right (by omega) v5
  by_cases hc : vin w (2 ^ s.1 5)
  · have eq : mWorst s.1 w = nI (sW s.1 3 (nn w) (s.1 5)) := if_pos hc
    rw [eq]
    have hc' := (le_pred (n := 2 ^ s.1 5) (by omega)).mpr hc
    obtain ⟨w, hw, rfl⟩ := vin_of (n := 2 ^ s.1 5) (by omega) hc
    rw [nn_nI (by omega)]
    obtain ⟨g, l1, l2, l3, l4⟩ := r_layWrong (d := 2) hr hv ho (Nat.le_refl _)
    refine ⟨g, ?_, l2, l3⟩
    intro N S Q hN hS hQ
    have hN1 := hN
    have hS1 := hS
    have hN : pn h ≤ N := by rw [← l3.1.n]; exact hN
    have hS : ps h ≤ S := by rw [← l3.1.s]; exact hS
    refine z_iload_n dX9_worst_0 rfl rfl ?_
    refine z_iconst (v := 0) dX9_worst_1 (by decide) ?_
    refine z_iconst (v := 1) dX9_worst_2 (by decide) ?_
    refine z_aload_n dX9_worst_3 rfl rfl ?_
    refine y_getR FX9_7 dX9_worst_4 rfl hm.o hm.f_a ?_
    refine z_iconst (v := 5) dX9_worst_7 (by decide) ?_
    refine y_ialN (5) dX9_worst_8 hm.A_a (Nat.le_of_ble_eq_true rfl) (rfl) (by omega) ?_
    refine z_eqi (show _ = nI (s.1 5) from hr.at (by omega) (by omega)) ?_
    refine z_ishl dX9_worst_9 ?_
    refine z_eqi (nI_bit (show s.1 5 < 31 by omega)) ?_
    refine z_iconst (v := 1) dX9_worst_10 (by decide) ?_
    refine z_isub dX9_worst_11 ?_
    refine y_callS (as := [_, _, _]) CX9_isIn LX9_63 SX9_isIn dX9_worst_12 rfl (Nat.le_of_ble_eq_true rfl) (Nat.le_of_ble_eq_true rfl) (by omega) (r_isIn _ _ _) (rok_z bI_01) ⟨Nat.le_refl _, Nat.le_refl _, hN, hS⟩ ?_
    refine z_if_ne dX9_worst_15 rfl (fun _ => ?_) (fun c => absurd c (bI_ne0.mpr hc'))
    refine z_aload_n dX9_worst_20 rfl rfl ?_
    refine y_callV (as := []) CX9_layWrong LX9_479 IX9_layWrong VX9_layWrong ⟨rfl, Nat.le_of_ble_eq_true rfl⟩ dX9_worst_21 hm.o rfl (Nat.le_of_ble_eq_true rfl) (Nat.le_of_ble_eq_true rfl) (by omega) l1 rok_v (hg_ss l3.1 hN hS) ?_
    refine z_aload_n dX9_worst_24 rfl rfl ?_
    refine z_iload_n dX9_worst_25 rfl rfl ?_
    refine y_callV (as := [_]) CX9_worstOf LX9_482 IX9_worstOf VX9_worstOf ⟨rfl, Nat.le_of_ble_eq_true rfl⟩ dX9_worst_26 (l3.1.O hm.o) rfl (Nat.le_of_ble_eq_true rfl) (Nat.le_of_ble_eq_true rfl) (by omega) (r_worstOf (d := 2) l2 hv ho hw l4 (Nat.le_refl _)) rok_i (hg_ss SS.rf hN1 hS1) ?_
    refine z_iret dX9_worst_29 ?_
    exact hQ
  · have eq : mWorst s.1 w = -1 := if_neg hc
    rw [eq]
    refine ⟨h, ?_, hr, FM.rf⟩
    intro N S Q hN hS hQ
    refine z_iload_n dX9_worst_0 rfl rfl ?_
    refine z_iconst (v := 0) dX9_worst_1 (by decide) ?_
    refine z_iconst (v := 1) dX9_worst_2 (by decide) ?_
    refine z_aload_n dX9_worst_3 rfl rfl ?_
    refine y_getR FX9_7 dX9_worst_4 rfl hm.o hm.f_a ?_
    refine z_iconst (v := 5) dX9_worst_7 (by decide) ?_
    refine y_ialN (5) dX9_worst_8 hm.A_a (Nat.le_of_ble_eq_true rfl) (rfl) (by omega) ?_
    refine z_eqi (show _ = nI (s.1 5) from hr.at (by omega) (by omega)) ?_
    refine z_ishl dX9_worst_9 ?_
    refine z_eqi (nI_bit (show s.1 5 < 31 by omega)) ?_
    refine z_iconst (v := 1) dX9_worst_10 (by decide) ?_
    refine z_isub dX9_worst_11 ?_
    refine y_callS (as := [_, _, _]) CX9_isIn LX9_63 SX9_isIn dX9_worst_12 rfl (Nat.le_of_ble_eq_true rfl) (Nat.le_of_ble_eq_true rfl) (by omega) (r_isIn _ _ _) (rok_z bI_01) ⟨Nat.le_refl _, Nat.le_refl _, hN, hS⟩ ?_
    refine z_if_ne dX9_worst_15 rfl (fun c => absurd (bI_eq0.mpr (fun q => hc ((le_pred (by omega)).mp q))) c) (fun _ => ?_)
    refine z_iconst (v := -1) dX9_worst_18 (by decide) ?_
    refine z_iret dX9_worst_19 ?_
    exact hQ

theorem r_purse_loop {s : Ms} {h : Hp} {d N S : Nat} {Q : Option Value → Hp → Prop} (hr : RM s h) (hv : IC s.1) (ho : IOf s.1) {m f : Nat} (hmm : m ≤ 9999) (hrow : ∀ so, so < 2 ^ s.1 0 → pI h 498 so = nI (wrM s.1 so (s.1 5))) (hN : pn h ≤ N) (hS : ps h ≤ S) (hd : 3 ≤ d) (K : T d N S mX9_purse 78 [some (.ref 488), some (.int (nI m)), some (.int (nI f)), some (.int (nI (pB s.1 m (2 ^ s.1 5)))), some (.int (nI (2 ^ s.1 5)))] [] h Q) : ∀ r i, i + r = 2 ^ s.1 5 → 1 ≤ i → T d N S mX9_purse 22 [some (.ref 488), some (.int (nI m)), some (.int (nI f)), some (.int (nI (pB s.1 m i))), some (.int (nI i))] [] h Q := by
  have hm := hr.m
  have v0 := hv.1
  have v5 := hv.2.2.2.2.2.1
  have p8 : 2 ^ s.1 0 ≤ 2 ^ 8 := Nat.pow_le_pow_right (by omega) v0
  have p5 : 2 ^ s.1 5 ≤ 2 ^ 8 := Nat.pow_le_pow_right (by omega) v5
  intro r
  induction r with
  | zero =>
    intro i hi h1
    have e : i = 2 ^ s.1 5 := by omega
    rw [e]
    refine z_iload dX9_purse_22 rfl ?_
    refine z_iconst (v := 1) dX9_purse_24 (by decide) ?_
    refine z_aload_n dX9_purse_25 rfl rfl ?_
    refine y_getR FX9_7 dX9_purse_26 rfl hm.o hm.f_a ?_
    refine z_iconst (v := 5) dX9_purse_29 (by decide) ?_
    refine y_ialN (5) dX9_purse_30 hm.A_a (Nat.le_of_ble_eq_true rfl) (rfl) (by omega) ?_
    refine z_eqi (show _ = nI (s.1 5) from hr.at (by omega) (by omega)) ?_
    refine z_ishl dX9_purse_31 ?_
    refine z_eqi (nI_bit (show s.1 5 < 31 by omega)) ?_
    refine z_icmp_ge dX9_purse_32 rfl (fun _ => ?_) (fun c => absurd (Int32.le_refl _) c)
    exact K
  | succ r ih =>
    intro i hi h1
    have bl := pB_le (a := s.1) (m := m) i
    have l1 := sW_le (w := i) ho (Or.inl rfl : (2 : Nat) = 2 ∨ (2 : Nat) = 3) (s.1 5) (Nat.le_refl _)
    have l2 := sW_le (w := (pB s.1 m i)) ho (Or.inl rfl : (2 : Nat) = 2 ∨ (2 : Nat) = 3) (s.1 5) (Nat.le_refl _)
    have l3 := sW_le (w := i) ho (Or.inr rfl : (3 : Nat) = 2 ∨ (3 : Nat) = 3) (s.1 5) (Nat.le_refl _)
    have es : pB s.1 m (i + 1) = if 1 ≤ i ∧ sW s.1 2 (pB s.1 m i) (s.1 5) < sW s.1 2 i (s.1 5) ∧ sW s.1 3 i (s.1 5) ≤ m + sW s.1 2 i (s.1 5) then i else (pB s.1 m i) := rfl
    have K2 := ih (i + 1) (by omega) (by omega)
    by_cases c1 : sW s.1 2 (pB s.1 m i) (s.1 5) < sW s.1 2 i (s.1 5)
    · by_cases c2 : sW s.1 3 i (s.1 5) ≤ m + sW s.1 2 i (s.1 5)
      · rw [es, if_pos ⟨h1, c1, c2⟩] at K2
        refine z_iload dX9_purse_22 rfl ?_
        refine z_iconst (v := 1) dX9_purse_24 (by decide) ?_
        refine z_aload_n dX9_purse_25 rfl rfl ?_
        refine y_getR FX9_7 dX9_purse_26 rfl hm.o hm.f_a ?_
        refine z_iconst (v := 5) dX9_purse_29 (by decide) ?_
        refine y_ialN (5) dX9_purse_30 hm.A_a (Nat.le_of_ble_eq_true rfl) (rfl) (by omega) ?_
        refine z_eqi (show _ = nI (s.1 5) from hr.at (by omega) (by omega)) ?_
        refine z_ishl dX9_purse_31 ?_
        refine z_eqi (nI_bit (show s.1 5 < 31 by omega)) ?_
        refine z_icmp_ge dX9_purse_32 rfl (fun c => absurd c (fun q => absurd ((nI_leI (by omega) (by omega)).mp q) (by omega))) (fun _ => ?_)
        refine z_aload_n dX9_purse_35 rfl rfl ?_
        refine z_iload dX9_purse_36 rfl ?_
        refine z_iconst (v := 2) dX9_purse_38 (by decide) ?_
        refine y_callV (as := [_, _]) CX9_sumOf LX9_476 IX9_sumOf VX9_sumOf ⟨rfl, Nat.le_of_ble_eq_true rfl⟩ dX9_purse_39 hm.o rfl (Nat.le_of_ble_eq_true rfl) (Nat.le_of_ble_eq_true rfl) (by omega) (r_sumOf (d := 1) (w := i) (c := 2) hr hv ho (by omega) (by omega) (Nat.le_refl _)) rok_i ⟨Nat.le_refl _, Nat.le_refl _, hN, hS⟩ ?_
        refine z_aload_n dX9_purse_42 rfl rfl ?_
        refine z_iload_n dX9_purse_43 rfl rfl ?_
        refine z_iconst (v := 2) dX9_purse_44 (by decide) ?_
        refine y_callV (as := [_, _]) CX9_sumOf LX9_476 IX9_sumOf VX9_sumOf ⟨rfl, Nat.le_of_ble_eq_true rfl⟩ dX9_purse_45 hm.o rfl (Nat.le_of_ble_eq_true rfl) (Nat.le_of_ble_eq_true rfl) (by omega) (r_sumOf (d := 1) (w := (pB s.1 m i)) (c := 2) hr hv ho (by omega) (by omega) (Nat.le_refl _)) rok_i ⟨Nat.le_refl _, Nat.le_refl _, hN, hS⟩ ?_
        refine z_icmp_le dX9_purse_48 rfl (fun c => absurd c (fun q => absurd ((nI_leI (by omega) (by omega)).mp q) (by omega))) (fun _ => ?_)
        refine z_aload_n dX9_purse_51 rfl rfl ?_
        refine z_iload dX9_purse_52 rfl ?_
        refine y_callV (as := [_]) CX9_worstOf LX9_482 IX9_worstOf VX9_worstOf ⟨rfl, Nat.le_of_ble_eq_true rfl⟩ dX9_purse_54 hm.o rfl (Nat.le_of_ble_eq_true rfl) (Nat.le_of_ble_eq_true rfl) (by omega) (r_worstOf (d := 2) (w := i) hr hv ho (by omega) hrow (Nat.le_refl _)) rok_i ⟨Nat.le_refl _, Nat.le_refl _, hN, hS⟩ ?_
        refine z_iload_n dX9_purse_57 rfl rfl ?_
        refine z_aload_n dX9_purse_58 rfl rfl ?_
        refine z_iload dX9_purse_59 rfl ?_
        refine z_iconst (v := 2) dX9_purse_61 (by decide) ?_
        refine y_callV (as := [_, _]) CX9_sumOf LX9_476 IX9_sumOf VX9_sumOf ⟨rfl, Nat.le_of_ble_eq_true rfl⟩ dX9_purse_62 hm.o rfl (Nat.le_of_ble_eq_true rfl) (Nat.le_of_ble_eq_true rfl) (by omega) (r_sumOf (d := 1) (w := i) (c := 2) hr hv ho (by omega) (by omega) (Nat.le_refl _)) rok_i ⟨Nat.le_refl _, Nat.le_refl _, hN, hS⟩ ?_
        refine z_iadd dX9_purse_65 ?_
        refine z_eqi (nI_add _ _) ?_
        refine z_icmp_gt dX9_purse_66 rfl (fun c => absurd c (fun q => absurd ((nI_ltI (by omega) (by omega)).mp q) (by omega))) (fun _ => ?_)
        refine z_iload dX9_purse_69 rfl ?_
        refine z_istore_n dX9_purse_71 rfl (Nat.le_of_ble_eq_true rfl) ?_
        refine z_iinc dX9_purse_72 rfl (nI_1 _) (Nat.le_of_ble_eq_true rfl) ?_
        refine z_goto dX9_purse_75 rfl ?_
        exact K2
      · rw [es, if_neg (fun q => c2 q.2.2)] at K2
        refine z_iload dX9_purse_22 rfl ?_
        refine z_iconst (v := 1) dX9_purse_24 (by decide) ?_
        refine z_aload_n dX9_purse_25 rfl rfl ?_
        refine y_getR FX9_7 dX9_purse_26 rfl hm.o hm.f_a ?_
        refine z_iconst (v := 5) dX9_purse_29 (by decide) ?_
        refine y_ialN (5) dX9_purse_30 hm.A_a (Nat.le_of_ble_eq_true rfl) (rfl) (by omega) ?_
        refine z_eqi (show _ = nI (s.1 5) from hr.at (by omega) (by omega)) ?_
        refine z_ishl dX9_purse_31 ?_
        refine z_eqi (nI_bit (show s.1 5 < 31 by omega)) ?_
        refine z_icmp_ge dX9_purse_32 rfl (fun c => absurd c (fun q => absurd ((nI_leI (by omega) (by omega)).mp q) (by omega))) (fun _ => ?_)
        refine z_aload_n dX9_purse_35 rfl rfl ?_
        refine z_iload dX9_purse_36 rfl ?_
        refine z_iconst (v := 2) dX9_purse_38 (by decide) ?_
        refine y_callV (as := [_, _]) CX9_sumOf LX9_476 IX9_sumOf VX9_sumOf ⟨rfl, Nat.le_of_ble_eq_true rfl⟩ dX9_purse_39 hm.o rfl (Nat.le_of_ble_eq_true rfl) (Nat.le_of_ble_eq_true rfl) (by omega) (r_sumOf (d := 1) (w := i) (c := 2) hr hv ho (by omega) (by omega) (Nat.le_refl _)) rok_i ⟨Nat.le_refl _, Nat.le_refl _, hN, hS⟩ ?_
        refine z_aload_n dX9_purse_42 rfl rfl ?_
        refine z_iload_n dX9_purse_43 rfl rfl ?_
        refine z_iconst (v := 2) dX9_purse_44 (by decide) ?_
        refine y_callV (as := [_, _]) CX9_sumOf LX9_476 IX9_sumOf VX9_sumOf ⟨rfl, Nat.le_of_ble_eq_true rfl⟩ dX9_purse_45 hm.o rfl (Nat.le_of_ble_eq_true rfl) (Nat.le_of_ble_eq_true rfl) (by omega) (r_sumOf (d := 1) (w := (pB s.1 m i)) (c := 2) hr hv ho (by omega) (by omega) (Nat.le_refl _)) rok_i ⟨Nat.le_refl _, Nat.le_refl _, hN, hS⟩ ?_
        refine z_icmp_le dX9_purse_48 rfl (fun c => absurd c (fun q => absurd ((nI_leI (by omega) (by omega)).mp q) (by omega))) (fun _ => ?_)
        refine z_aload_n dX9_purse_51 rfl rfl ?_
        refine z_iload dX9_purse_52 rfl ?_
        refine y_callV (as := [_]) CX9_worstOf LX9_482 IX9_worstOf VX9_worstOf ⟨rfl, Nat.le_of_ble_eq_true rfl⟩ dX9_purse_54 hm.o rfl (Nat.le_of_ble_eq_true rfl) (Nat.le_of_ble_eq_true rfl) (by omega) (r_worstOf (d := 2) (w := i) hr hv ho (by omega) hrow (Nat.le_refl _)) rok_i ⟨Nat.le_refl _, Nat.le_refl _, hN, hS⟩ ?_
        refine z_iload_n dX9_purse_57 rfl rfl ?_
        refine z_aload_n dX9_purse_58 rfl rfl ?_
        refine z_iload dX9_purse_59 rfl ?_
        refine z_iconst (v := 2) dX9_purse_61 (by decide) ?_
        refine y_callV (as := [_, _]) CX9_sumOf LX9_476 IX9_sumOf VX9_sumOf ⟨rfl, Nat.le_of_ble_eq_true rfl⟩ dX9_purse_62 hm.o rfl (Nat.le_of_ble_eq_true rfl) (Nat.le_of_ble_eq_true rfl) (by omega) (r_sumOf (d := 1) (w := i) (c := 2) hr hv ho (by omega) (by omega) (Nat.le_refl _)) rok_i ⟨Nat.le_refl _, Nat.le_refl _, hN, hS⟩ ?_
        refine z_iadd dX9_purse_65 ?_
        refine z_eqi (nI_add _ _) ?_
        refine z_icmp_gt dX9_purse_66 rfl (fun _ => ?_) (fun c => absurd ((nI_ltI (by omega) (by omega)).mpr (by omega)) c)
        refine z_iinc dX9_purse_72 rfl (nI_1 _) (Nat.le_of_ble_eq_true rfl) ?_
        refine z_goto dX9_purse_75 rfl ?_
        exact K2
    · rw [es, if_neg (fun q => c1 q.2.1)] at K2
      refine z_iload dX9_purse_22 rfl ?_
      refine z_iconst (v := 1) dX9_purse_24 (by decide) ?_
      refine z_aload_n dX9_purse_25 rfl rfl ?_
      refine y_getR FX9_7 dX9_purse_26 rfl hm.o hm.f_a ?_
      refine z_iconst (v := 5) dX9_purse_29 (by decide) ?_
      refine y_ialN (5) dX9_purse_30 hm.A_a (Nat.le_of_ble_eq_true rfl) (rfl) (by omega) ?_
      refine z_eqi (show _ = nI (s.1 5) from hr.at (by omega) (by omega)) ?_
      refine z_ishl dX9_purse_31 ?_
      refine z_eqi (nI_bit (show s.1 5 < 31 by omega)) ?_
      refine z_icmp_ge dX9_purse_32 rfl (fun c => absurd c (fun q => absurd ((nI_leI (by omega) (by omega)).mp q) (by omega))) (fun _ => ?_)
      refine z_aload_n dX9_purse_35 rfl rfl ?_
      refine z_iload dX9_purse_36 rfl ?_
      refine z_iconst (v := 2) dX9_purse_38 (by decide) ?_
      refine y_callV (as := [_, _]) CX9_sumOf LX9_476 IX9_sumOf VX9_sumOf ⟨rfl, Nat.le_of_ble_eq_true rfl⟩ dX9_purse_39 hm.o rfl (Nat.le_of_ble_eq_true rfl) (Nat.le_of_ble_eq_true rfl) (by omega) (r_sumOf (d := 1) (w := i) (c := 2) hr hv ho (by omega) (by omega) (Nat.le_refl _)) rok_i ⟨Nat.le_refl _, Nat.le_refl _, hN, hS⟩ ?_
      refine z_aload_n dX9_purse_42 rfl rfl ?_
      refine z_iload_n dX9_purse_43 rfl rfl ?_
      refine z_iconst (v := 2) dX9_purse_44 (by decide) ?_
      refine y_callV (as := [_, _]) CX9_sumOf LX9_476 IX9_sumOf VX9_sumOf ⟨rfl, Nat.le_of_ble_eq_true rfl⟩ dX9_purse_45 hm.o rfl (Nat.le_of_ble_eq_true rfl) (Nat.le_of_ble_eq_true rfl) (by omega) (r_sumOf (d := 1) (w := (pB s.1 m i)) (c := 2) hr hv ho (by omega) (by omega) (Nat.le_refl _)) rok_i ⟨Nat.le_refl _, Nat.le_refl _, hN, hS⟩ ?_
      refine z_icmp_le dX9_purse_48 rfl (fun _ => ?_) (fun c => absurd ((nI_leI (by omega) (by omega)).mpr (by omega)) c)
      refine z_iinc dX9_purse_72 rfl (nI_1 _) (Nat.le_of_ble_eq_true rfl) ?_
      refine z_goto dX9_purse_75 rfl ?_
      exact K2

theorem R_purse {s : Ms} {h : Hp} {d : Nat} (hr : RM s h) (hv : IC s.1) (ho : IOf s.1) {f : Nat} (hf : f = 0 ∨ f = 1) (m : Int32) (hd : 3 ≤ d) : ∃ h1, Sp d mX9_purse [.ref 488, .int m, .int (nI f)] h (some (.int (mPurse s.1 m f))) h1 ∧ RM s h1 ∧ FM h h1 := by
  have hm := hr.m
  have v0 := hv.1
  have v5 := hv.2.2.2.2.2.1
  have p8 : 2 ^ s.1 0 ≤ 2 ^ 8 := Nat.pow_le_pow_right (by omega) v0
  have p5 : 2 ^ s.1 5 ≤ 2 ^ 8 := Nat.pow_le_pow_right (by omega) v5
  by_cases hc : inr m 0 9999
  · have eq : mPurse s.1 m f = if f = 1 then nI (sW s.1 2 (pB s.1 (nn m) (2 ^ s.1 5)) (s.1 5)) else nI (pB s.1 (nn m) (2 ^ s.1 5)) := if_pos hc
    rw [eq]
    obtain ⟨m, hmm, rfl⟩ := inr_of (n := 9999) (by omega) hc
    rw [nn_nI (by omega)]
    obtain ⟨g, l1, l2, l3, l4⟩ := r_layWrong (d := 2) hr hv ho (Nat.le_refl _)
    refine ⟨g, ?_, l2, l3⟩
    have hm2 := l2.m
    have p1 : 0 < 2 ^ s.1 5 := Nat.pow_pos (by omega)
    have bl := pB_le (a := s.1) (m := m) (2 ^ s.1 5)
    have bl2 : pB s.1 m (2 ^ s.1 5) < 256 := by
      rcases (show 2 ^ s.1 5 = 256 ∨ 2 ^ s.1 5 < 256 by omega) with q | q
      · rw [q, show pB s.1 m 256 = if 1 ≤ 255 ∧ sW s.1 2 (pB s.1 m 255) (s.1 5) < sW s.1 2 255 (s.1 5) ∧ sW s.1 3 255 (s.1 5) ≤ m + sW s.1 2 255 (s.1 5) then 255 else pB s.1 m 255 from rfl]
        have := pB_le (a := s.1) (m := m) 255
        split <;> omega
      · omega
    intro N S Q hN hS hQ
    have K : T d N S mX9_purse 78 [some (.ref 488), some (.int (nI m)), some (.int (nI f)), some (.int (nI (pB s.1 m (2 ^ s.1 5)))), some (.int (nI (2 ^ s.1 5)))] [] g Q := by
      rcases hf with hf | hf
      · rw [if_neg (by omega)] at hQ
        refine z_iload_n dX9_purse_78 rfl rfl ?_
        refine z_if_eq dX9_purse_79 rfl (fun _ => ?_) (fun c => absurd (congrArg nI hf) c)
        refine z_iload_n dX9_purse_91 rfl rfl ?_
        refine z_iret dX9_purse_92 ?_
        exact hQ
      · rw [if_pos hf] at hQ
        refine z_iload_n dX9_purse_78 rfl rfl ?_
        refine z_if_eq dX9_purse_79 rfl (fun c => absurd c (fun q => absurd ((nI_eq (b := 0) (by omega) (by omega)).mp q) (by omega))) (fun _ => ?_)
        refine z_aload_n dX9_purse_82 rfl rfl ?_
        refine z_iload_n dX9_purse_83 rfl rfl ?_
        refine z_iconst (v := 2) dX9_purse_84 (by decide) ?_
        refine y_callV (as := [_, _]) CX9_sumOf LX9_476 IX9_sumOf VX9_sumOf ⟨rfl, Nat.le_of_ble_eq_true rfl⟩ dX9_purse_85 hm2.o rfl (Nat.le_of_ble_eq_true rfl) (Nat.le_of_ble_eq_true rfl) (by omega) (r_sumOf (d := 1) (c := 2) l2 hv ho bl2 (by omega) (Nat.le_refl _)) rok_i ⟨Nat.le_refl _, Nat.le_refl _, hN, hS⟩ ?_
        refine z_goto dX9_purse_88 rfl ?_
        refine z_iret dX9_purse_92 ?_
        exact hQ
    have L := r_purse_loop (d := d) (f := f) l2 hv ho hmm l4 hN hS hd K (2 ^ s.1 5 - 1) 1 (by omega) (Nat.le_refl _)
    rw [show pB s.1 m 1 = 0 from if_neg (fun q => absurd q.1 (by decide))] at L
    have hN : pn h ≤ N := by rw [← l3.1.n]; exact hN
    have hS : ps h ≤ S := by rw [← l3.1.s]; exact hS
    refine z_iload_n dX9_purse_0 rfl rfl ?_
    refine z_iconst (v := 0) dX9_purse_1 (by decide) ?_
    refine z_sipush (v := 9999) dX9_purse_2 (by decide) ?_
    refine y_callS (as := [_, _, _]) CX9_isIn LX9_63 SX9_isIn dX9_purse_5 rfl (Nat.le_of_ble_eq_true rfl) (Nat.le_of_ble_eq_true rfl) (by omega) (r_isIn _ _ _) (rok_z bI_01) ⟨Nat.le_refl _, Nat.le_refl _, hN, hS⟩ ?_
    refine z_if_ne dX9_purse_8 rfl (fun _ => ?_) (fun c => absurd c (bI_ne0.mpr hc))
    refine z_aload_n dX9_purse_13 rfl rfl ?_
    refine y_callV (as := []) CX9_layWrong LX9_479 IX9_layWrong VX9_layWrong ⟨rfl, Nat.le_of_ble_eq_true rfl⟩ dX9_purse_14 hm.o rfl (Nat.le_of_ble_eq_true rfl) (Nat.le_of_ble_eq_true rfl) (by omega) l1 rok_v (hg_ss l3.1 hN hS) ?_
    refine z_iconst (v := 0) dX9_purse_17 (by decide) ?_
    refine z_istore_n dX9_purse_18 rfl (Nat.le_of_ble_eq_true rfl) ?_
    refine z_iconst (v := 1) dX9_purse_19 (by decide) ?_
    refine z_istore dX9_purse_20 (Nat.le_of_ble_eq_true rfl) ?_
    exact L
  · have eq : mPurse s.1 m f = -1 := if_neg hc
    rw [eq]
    refine ⟨h, ?_, hr, FM.rf⟩
    intro N S Q hN hS hQ
    refine z_iload_n dX9_purse_0 rfl rfl ?_
    refine z_iconst (v := 0) dX9_purse_1 (by decide) ?_
    refine z_sipush (v := 9999) dX9_purse_2 (by decide) ?_
    refine y_callS (as := [_, _, _]) CX9_isIn LX9_63 SX9_isIn dX9_purse_5 rfl (Nat.le_of_ble_eq_true rfl) (Nat.le_of_ble_eq_true rfl) (by omega) (r_isIn _ _ _) (rok_z bI_01) ⟨Nat.le_refl _, Nat.le_refl _, hN, hS⟩ ?_
    refine z_if_ne dX9_purse_8 rfl (fun c => absurd (bI_eq0.mpr hc) c) (fun _ => ?_)
    refine z_iconst (v := -1) dX9_purse_11 (by decide) ?_
    refine z_iret dX9_purse_12 ?_
    exact hQ

theorem c_sumOf_loop {h : Hp} {a : Fl} {tf : Nat → Int32} {d N S : Nat} {Q : Option Value → Hp → Prop} (c1 : CZ h a tf) (hv : IC a) (ho : IOf a) {w c : Nat} (hw : w < 256) (hc : c ≤ 3) (hN : pn h ≤ N) (hS : ps h ≤ S) (hd : 1 ≤ d) (hQ : Q (some (.int (nI (sW a c w (a 5))))) h) : ∀ r i, i + r = a 5 → T d N S mX8_sumOf 5 [some (.ref 8), some (.int (nI w)), some (.int (nI c)), some (.int (nI (sW a c w i))), some (.int (nI i))] [] h Q := by
  have v5 := hv.2.2.2.2.2.1
  have p5 : 2 ^ a 5 ≤ 2 ^ 8 := Nat.pow_le_pow_right (by omega) v5
  have mv := c1.2.2.2.2.2.2.1
  intro r
  induction r with
  | zero =>
    intro i hi
    have e : i = a 5 := by omega
    subst e
    refine z_iload dX8_sumOf_5 rfl ?_
    refine z_aload_n dX8_sumOf_7 rfl rfl ?_
    refine y_getR FX8_10 dX8_sumOf_8 rfl c1.1.1 c1.1.2.1 ?_
    refine y_getR FX8_350 dX8_sumOf_11 rfl c1.1.2.2.2.2.1.o c1.1.2.2.2.2.1.f5 ?_
    refine y_getI FX8_130 dX8_sumOf_14 (Or.inl rfl) c1.1.2.2.2.2.1.offers.1 ?_
    refine z_eqi (y := nI (a 5)) (show _ = nI (a 5) from c1.2.2.2.2.2.2.1.1.2.2.1) ?_
    refine z_icmp_ge dX8_sumOf_17 rfl (fun _ => ?_) (fun c => absurd (Int32.le_refl _) c)
    refine z_iload_n dX8_sumOf_56 rfl rfl ?_
    refine z_iret dX8_sumOf_57 ?_
    exact hQ
  | succ r ih =>
    intro i hi
    have hzt : w.testBit i = true → ¬ nI w &&& (1 <<< (nI i &&& 31)) = 0 := fun hb q => by
      have := (and_bit (by omega) (by omega)).mp q
      rw [hb] at this
      exact absurd this (by decide)
    have hzf : ¬ w.testBit i = true → nI w &&& (1 <<< (nI i &&& 31)) = 0 := fun hb => (and_bit (by omega) (by omega)).mpr (by simpa using hb)
    by_cases hb : w.testBit i = true
    · have e : sW a c w (i + 1) = (sW a c w i) + a (126 + 4 * i + c) := by
        show _ + (if _ then _ else _) = _
        rw [if_pos hb]
      refine z_iload dX8_sumOf_5 rfl ?_
      refine z_aload_n dX8_sumOf_7 rfl rfl ?_
      refine y_getR FX8_10 dX8_sumOf_8 rfl c1.1.1 c1.1.2.1 ?_
      refine y_getR FX8_350 dX8_sumOf_11 rfl c1.1.2.2.2.2.1.o c1.1.2.2.2.2.1.f5 ?_
      refine y_getI FX8_130 dX8_sumOf_14 (Or.inl rfl) c1.1.2.2.2.2.1.offers.1 ?_
      refine z_eqi (y := nI (a 5)) (show _ = nI (a 5) from c1.2.2.2.2.2.2.1.1.2.2.1) ?_
      refine z_icmp_ge dX8_sumOf_17 rfl (fun c => absurd c (fun q => absurd ((nI_leI (by omega) (by omega)).mp q) (by omega))) (fun _ => ?_)
      refine z_iload_n dX8_sumOf_20 rfl rfl ?_
      refine z_iload_n dX8_sumOf_21 rfl rfl ?_
      refine z_iload dX8_sumOf_22 rfl ?_
      refine y_callS (as := [_]) CX8_bit LX8_163 SX8_bit dX8_sumOf_24 rfl (Nat.le_of_ble_eq_true rfl) (Nat.le_of_ble_eq_true rfl) (by omega) (s_bit _) rok_i ⟨Nat.le_refl _, Nat.le_refl _, hN, hS⟩ ?_
      refine z_iand dX8_sumOf_27 ?_
      refine z_if_ne dX8_sumOf_28 rfl (fun _ => ?_) (fun c => absurd c (hzt hb))
      refine z_aload_n dX8_sumOf_35 rfl rfl ?_
      refine y_getR FX8_10 dX8_sumOf_36 rfl c1.1.1 c1.1.2.1 ?_
      refine y_getR FX8_350 dX8_sumOf_39 rfl c1.1.2.2.2.2.1.o c1.1.2.2.2.2.1.f5 ?_
      refine z_iload dX8_sumOf_42 rfl ?_
      refine z_iload_n dX8_sumOf_44 rfl rfl ?_
      refine y_callV (as := [_, _]) CX4_get LX8_143 IX4_get VX4_get ⟨rfl, Nat.le_of_ble_eq_true rfl⟩ dX8_sumOf_45 c1.1.2.2.2.2.1.offers.1 rfl (Nat.le_of_ble_eq_true rfl) (Nat.le_of_ble_eq_true rfl) (by omega) (s_get (k := 20) (w := 4) (ms := 8) (i := i) (j := c) (by exact c1.1.2.2.2.2.1.offers) mv.1 (by omega) (by omega)) rok_i ⟨Nat.le_refl _, Nat.le_refl _, hN, hS⟩ ?_
      refine z_eqi (show _ = nI (a (126 + 4 * i + c)) from (mv.2 (i * 4 + c) (by omega)).trans (congrArg (fun u => nI (a u)) (by omega))) ?_
      refine z_iadd dX8_sumOf_48 ?_
      refine z_eqi (nI_add _ _) ?_
      refine z_istore_n dX8_sumOf_49 rfl (Nat.le_of_ble_eq_true rfl) ?_
      refine z_iinc dX8_sumOf_50 rfl (nI_1 _) (Nat.le_of_ble_eq_true rfl) ?_
      refine z_goto dX8_sumOf_53 rfl ?_
      have K2 := ih (i + 1) (by omega)
      rw [e] at K2
      exact K2
    · have e : sW a c w (i + 1) = (sW a c w i) + 0 := by
        show _ + (if _ then _ else _) = _
        rw [if_neg hb]
      refine z_iload dX8_sumOf_5 rfl ?_
      refine z_aload_n dX8_sumOf_7 rfl rfl ?_
      refine y_getR FX8_10 dX8_sumOf_8 rfl c1.1.1 c1.1.2.1 ?_
      refine y_getR FX8_350 dX8_sumOf_11 rfl c1.1.2.2.2.2.1.o c1.1.2.2.2.2.1.f5 ?_
      refine y_getI FX8_130 dX8_sumOf_14 (Or.inl rfl) c1.1.2.2.2.2.1.offers.1 ?_
      refine z_eqi (y := nI (a 5)) (show _ = nI (a 5) from c1.2.2.2.2.2.2.1.1.2.2.1) ?_
      refine z_icmp_ge dX8_sumOf_17 rfl (fun c => absurd c (fun q => absurd ((nI_leI (by omega) (by omega)).mp q) (by omega))) (fun _ => ?_)
      refine z_iload_n dX8_sumOf_20 rfl rfl ?_
      refine z_iload_n dX8_sumOf_21 rfl rfl ?_
      refine z_iload dX8_sumOf_22 rfl ?_
      refine y_callS (as := [_]) CX8_bit LX8_163 SX8_bit dX8_sumOf_24 rfl (Nat.le_of_ble_eq_true rfl) (Nat.le_of_ble_eq_true rfl) (by omega) (s_bit _) rok_i ⟨Nat.le_refl _, Nat.le_refl _, hN, hS⟩ ?_
      refine z_iand dX8_sumOf_27 ?_
      refine z_if_ne dX8_sumOf_28 rfl (fun c => absurd (hzf hb) c) (fun _ => ?_)
      refine z_iconst (v := 0) dX8_sumOf_31 (by decide) ?_
      refine z_goto dX8_sumOf_32 rfl ?_
      refine z_iadd dX8_sumOf_48 ?_
      refine z_eqi (nI_add _ 0) ?_
      refine z_istore_n dX8_sumOf_49 rfl (Nat.le_of_ble_eq_true rfl) ?_
      refine z_iinc dX8_sumOf_50 rfl (nI_1 _) (Nat.le_of_ble_eq_true rfl) ?_
      refine z_goto dX8_sumOf_53 rfl ?_
      have K2 := ih (i + 1) (by omega)
      rw [e] at K2
      exact K2
theorem c_sumOf {h : Hp} {a : Fl} {tf : Nat → Int32} {d : Nat} (c1 : CZ h a tf) (hv : IC a) (ho : IOf a) {w c : Nat} (hw : w < 256) (hc : c ≤ 3) (hd : 1 ≤ d) : Sp d mX8_sumOf [.ref 8, .int (nI w), .int (nI c)] h (some (.int (nI (sW a c w (a 5))))) h := by
  intro N S Q hN hS hQ
  refine z_iconst (v := 0) dX8_sumOf_0 (by decide) ?_
  refine z_istore_n dX8_sumOf_1 rfl (Nat.le_of_ble_eq_true rfl) ?_
  refine z_iconst (v := 0) dX8_sumOf_2 (by decide) ?_
  refine z_istore dX8_sumOf_3 (Nat.le_of_ble_eq_true rfl) ?_
  exact c_sumOf_loop c1 hv ho hw hc hN hS hd hQ (a 5) 0 (by omega)

theorem C_worst {h : Hp} {a : Fl} {tf : Nat → Int32} {d : Nat} (c1 : CZ h a tf) (hv : IC a) (ho : IOf a) (w : Int32) (hd : 2 ≤ d) : Sp d mX8_worst [.ref 8, .int w] h (some (.int (mWorst a w))) h := by
  have v5 := hv.2.2.2.2.2.1
  have p5 : 2 ^ a 5 ≤ 2 ^ 8 := Nat.pow_le_pow_right (by omega) v5
  have mv := c1.2.2.2.2.2.2.1
  intro N S Q hN hS hQ
  by_cases hc : vin w (2 ^ a 5)
  · have eq : mWorst a w = nI (sW a 3 (nn w) (a 5)) := if_pos hc
    rw [eq] at hQ
    have hc' := (le_pred (n := 2 ^ a 5) (by omega)).mpr hc
    obtain ⟨w, hw, rfl⟩ := vin_of (n := 2 ^ a 5) (by omega) hc
    rw [nn_nI (by omega)] at hQ
    refine z_iload_n dX8_worst_0 rfl rfl ?_
    refine z_iconst (v := 0) dX8_worst_1 (by decide) ?_
    refine z_aload_n dX8_worst_2 rfl rfl ?_
    refine y_getR FX8_10 dX8_worst_3 rfl c1.1.1 c1.1.2.1 ?_
    refine y_getR FX8_350 dX8_worst_6 rfl c1.1.2.2.2.2.1.o c1.1.2.2.2.2.1.f5 ?_
    refine y_getI FX8_130 dX8_worst_9 (Or.inl rfl) c1.1.2.2.2.2.1.offers.1 ?_
    refine z_eqi (y := nI (a 5)) (show _ = nI (a 5) from c1.2.2.2.2.2.2.1.1.2.2.1) ?_
    refine y_callS (as := [_]) CX8_bit LX8_163 SX8_bit dX8_worst_12 rfl (Nat.le_of_ble_eq_true rfl) (Nat.le_of_ble_eq_true rfl) (by omega) (s_bit _) rok_i ⟨Nat.le_refl _, Nat.le_refl _, hN, hS⟩ ?_
    refine z_eqi (nI_bit (show a 5 < 31 by omega)) ?_
    refine z_iconst (v := 1) dX8_worst_15 (by decide) ?_
    refine z_isub dX8_worst_16 ?_
    refine y_callS (as := [_, _, _]) CX8_within LX8_61 SX8_within dX8_worst_17 rfl (Nat.le_of_ble_eq_true rfl) (Nat.le_of_ble_eq_true rfl) (by omega) (s_within _ _ _) (rok_z bI_01) ⟨Nat.le_refl _, Nat.le_refl _, hN, hS⟩ ?_
    refine z_if_ne dX8_worst_20 rfl (fun _ => ?_) (fun c => absurd c (bI_ne0.mpr hc'))
    refine z_aload_n dX8_worst_25 rfl rfl ?_
    refine z_iload_n dX8_worst_26 rfl rfl ?_
    refine z_iconst (v := 3) dX8_worst_27 (by decide) ?_
    refine y_callV (as := [_, _]) CX8_sumOf LX8_356 IX8_sumOf VX8_sumOf ⟨rfl, Nat.le_of_ble_eq_true rfl⟩ dX8_worst_28 c1.1.1 rfl (Nat.le_of_ble_eq_true rfl) (Nat.le_of_ble_eq_true rfl) (by omega) (c_sumOf (d := 1) (w := w) (c := 3) c1 hv ho (by omega) (by omega) (Nat.le_refl _)) rok_i ⟨Nat.le_refl _, Nat.le_refl _, hN, hS⟩ ?_
    refine z_iret dX8_worst_31 ?_
    exact hQ
  · have eq : mWorst a w = -1 := if_neg hc
    rw [eq] at hQ
    refine z_iload_n dX8_worst_0 rfl rfl ?_
    refine z_iconst (v := 0) dX8_worst_1 (by decide) ?_
    refine z_aload_n dX8_worst_2 rfl rfl ?_
    refine y_getR FX8_10 dX8_worst_3 rfl c1.1.1 c1.1.2.1 ?_
    refine y_getR FX8_350 dX8_worst_6 rfl c1.1.2.2.2.2.1.o c1.1.2.2.2.2.1.f5 ?_
    refine y_getI FX8_130 dX8_worst_9 (Or.inl rfl) c1.1.2.2.2.2.1.offers.1 ?_
    refine z_eqi (y := nI (a 5)) (show _ = nI (a 5) from c1.2.2.2.2.2.2.1.1.2.2.1) ?_
    refine y_callS (as := [_]) CX8_bit LX8_163 SX8_bit dX8_worst_12 rfl (Nat.le_of_ble_eq_true rfl) (Nat.le_of_ble_eq_true rfl) (by omega) (s_bit _) rok_i ⟨Nat.le_refl _, Nat.le_refl _, hN, hS⟩ ?_
    refine z_eqi (nI_bit (show a 5 < 31 by omega)) ?_
    refine z_iconst (v := 1) dX8_worst_15 (by decide) ?_
    refine z_isub dX8_worst_16 ?_
    refine y_callS (as := [_, _, _]) CX8_within LX8_61 SX8_within dX8_worst_17 rfl (Nat.le_of_ble_eq_true rfl) (Nat.le_of_ble_eq_true rfl) (by omega) (s_within _ _ _) (rok_z bI_01) ⟨Nat.le_refl _, Nat.le_refl _, hN, hS⟩ ?_
    refine z_if_ne dX8_worst_20 rfl (fun c => absurd (bI_eq0.mpr (fun q => hc ((le_pred (by omega)).mp q))) c) (fun _ => ?_)
    refine z_iconst (v := -1) dX8_worst_23 (by decide) ?_
    refine z_iret dX8_worst_24 ?_
    exact hQ

theorem c_purse_loop {h : Hp} {a : Fl} {tf : Nat → Int32} {d N S : Nat} {Q : Option Value → Hp → Prop} (c1 : CZ h a tf) (hv : IC a) (ho : IOf a) {m f : Nat} (hmm : m ≤ 9999) (hN : pn h ≤ N) (hS : ps h ≤ S) (hd : 2 ≤ d) (K : ∀ o6, T d N S mX8_purse 82 [some (.ref 8), some (.int (nI m)), some (.int (nI f)), some (.int (nI (pB a m (2 ^ a 5)))), some (.int (nI (sW a 2 (pB a m (2 ^ a 5)) (a 5)))), some (.int (nI (2 ^ a 5))), o6] [] h Q) : ∀ r i (o6 : Option Value), i + r = 2 ^ a 5 → 1 ≤ i → T d N S mX8_purse 21 [some (.ref 8), some (.int (nI m)), some (.int (nI f)), some (.int (nI (pB a m i))), some (.int (nI (sW a 2 (pB a m i) (a 5)))), some (.int (nI i)), o6] [] h Q := by
  have v5 := hv.2.2.2.2.2.1
  have p5 : 2 ^ a 5 ≤ 2 ^ 8 := Nat.pow_le_pow_right (by omega) v5
  have mv := c1.2.2.2.2.2.2.1
  intro r
  induction r with
  | zero =>
    intro i o6 hi h1
    have e : i = 2 ^ a 5 := by omega
    rw [e]
    refine z_iload dX8_purse_21 rfl ?_
    refine z_aload_n dX8_purse_23 rfl rfl ?_
    refine y_getR FX8_10 dX8_purse_24 rfl c1.1.1 c1.1.2.1 ?_
    refine y_getR FX8_350 dX8_purse_27 rfl c1.1.2.2.2.2.1.o c1.1.2.2.2.2.1.f5 ?_
    refine y_getI FX8_130 dX8_purse_30 (Or.inl rfl) c1.1.2.2.2.2.1.offers.1 ?_
    refine z_eqi (y := nI (a 5)) (show _ = nI (a 5) from c1.2.2.2.2.2.2.1.1.2.2.1) ?_
    refine y_callS (as := [_]) CX8_bit LX8_163 SX8_bit dX8_purse_33 rfl (Nat.le_of_ble_eq_true rfl) (Nat.le_of_ble_eq_true rfl) (by omega) (s_bit _) rok_i ⟨Nat.le_refl _, Nat.le_refl _, hN, hS⟩ ?_
    refine z_eqi (nI_bit (show a 5 < 31 by omega)) ?_
    refine z_icmp_ge dX8_purse_36 rfl (fun _ => ?_) (fun c => absurd (Int32.le_refl _) c)
    exact K _
  | succ r ih =>
    intro i o6 hi h1
    have bl := pB_le (a := a) (m := m) i
    have l1 := sW_le (w := i) ho (Or.inl rfl : (2 : Nat) = 2 ∨ (2 : Nat) = 3) (a 5) (Nat.le_refl _)
    have l2 := sW_le (w := (pB a m i)) ho (Or.inl rfl : (2 : Nat) = 2 ∨ (2 : Nat) = 3) (a 5) (Nat.le_refl _)
    have l3 := sW_le (w := i) ho (Or.inr rfl : (3 : Nat) = 2 ∨ (3 : Nat) = 3) (a 5) (Nat.le_refl _)
    have es : pB a m (i + 1) = if 1 ≤ i ∧ sW a 2 (pB a m i) (a 5) < sW a 2 i (a 5) ∧ sW a 3 i (a 5) ≤ m + sW a 2 i (a 5) then i else (pB a m i) := rfl
    have K2 := fun o6 => ih (i + 1) o6 (by omega) (by omega)
    by_cases q1 : sW a 2 (pB a m i) (a 5) < sW a 2 i (a 5)
    · by_cases q2 : sW a 3 i (a 5) ≤ m + sW a 2 i (a 5)
      · rw [es, if_pos ⟨h1, q1, q2⟩] at K2
        refine z_iload dX8_purse_21 rfl ?_
        refine z_aload_n dX8_purse_23 rfl rfl ?_
        refine y_getR FX8_10 dX8_purse_24 rfl c1.1.1 c1.1.2.1 ?_
        refine y_getR FX8_350 dX8_purse_27 rfl c1.1.2.2.2.2.1.o c1.1.2.2.2.2.1.f5 ?_
        refine y_getI FX8_130 dX8_purse_30 (Or.inl rfl) c1.1.2.2.2.2.1.offers.1 ?_
        refine z_eqi (y := nI (a 5)) (show _ = nI (a 5) from c1.2.2.2.2.2.2.1.1.2.2.1) ?_
        refine y_callS (as := [_]) CX8_bit LX8_163 SX8_bit dX8_purse_33 rfl (Nat.le_of_ble_eq_true rfl) (Nat.le_of_ble_eq_true rfl) (by omega) (s_bit _) rok_i ⟨Nat.le_refl _, Nat.le_refl _, hN, hS⟩ ?_
        refine z_eqi (nI_bit (show a 5 < 31 by omega)) ?_
        refine z_icmp_ge dX8_purse_36 rfl (fun c => absurd c (fun q => absurd ((nI_leI (by omega) (by omega)).mp q) (by omega))) (fun _ => ?_)
        refine z_aload_n dX8_purse_39 rfl rfl ?_
        refine z_iload dX8_purse_40 rfl ?_
        refine z_iconst (v := 2) dX8_purse_42 (by decide) ?_
        refine y_callV (as := [_, _]) CX8_sumOf LX8_356 IX8_sumOf VX8_sumOf ⟨rfl, Nat.le_of_ble_eq_true rfl⟩ dX8_purse_43 c1.1.1 rfl (Nat.le_of_ble_eq_true rfl) (Nat.le_of_ble_eq_true rfl) (by omega) (c_sumOf (d := 1) (w := i) (c := 2) c1 hv ho (by omega) (by omega) (Nat.le_refl _)) rok_i ⟨Nat.le_refl _, Nat.le_refl _, hN, hS⟩ ?_
        refine z_istore dX8_purse_46 (Nat.le_of_ble_eq_true rfl) ?_
        refine z_iload dX8_purse_48 rfl ?_
        refine z_iload dX8_purse_50 rfl ?_
        refine z_icmp_le dX8_purse_52 rfl (fun c => absurd c (fun q => absurd ((nI_leI (by omega) (by omega)).mp q) (by omega))) (fun _ => ?_)
        refine z_aload_n dX8_purse_55 rfl rfl ?_
        refine z_iload dX8_purse_56 rfl ?_
        refine z_iconst (v := 3) dX8_purse_58 (by decide) ?_
        refine y_callV (as := [_, _]) CX8_sumOf LX8_356 IX8_sumOf VX8_sumOf ⟨rfl, Nat.le_of_ble_eq_true rfl⟩ dX8_purse_59 c1.1.1 rfl (Nat.le_of_ble_eq_true rfl) (Nat.le_of_ble_eq_true rfl) (by omega) (c_sumOf (d := 1) (w := i) (c := 3) c1 hv ho (by omega) (by omega) (Nat.le_refl _)) rok_i ⟨Nat.le_refl _, Nat.le_refl _, hN, hS⟩ ?_
        refine z_iload_n dX8_purse_62 rfl rfl ?_
        refine z_iload dX8_purse_63 rfl ?_
        refine z_iadd dX8_purse_65 ?_
        refine z_eqi (nI_add _ _) ?_
        refine z_icmp_gt dX8_purse_66 rfl (fun c => absurd c (fun q => absurd ((nI_ltI (by omega) (by omega)).mp q) (by omega))) (fun _ => ?_)
        refine z_iload dX8_purse_69 rfl ?_
        refine z_istore_n dX8_purse_71 rfl (Nat.le_of_ble_eq_true rfl) ?_
        refine z_iload dX8_purse_72 rfl ?_
        refine z_istore dX8_purse_74 (Nat.le_of_ble_eq_true rfl) ?_
        refine z_iinc dX8_purse_76 rfl (nI_1 _) (Nat.le_of_ble_eq_true rfl) ?_
        refine z_goto dX8_purse_79 rfl ?_
        exact K2 _
      · rw [es, if_neg (fun q => q2 q.2.2)] at K2
        refine z_iload dX8_purse_21 rfl ?_
        refine z_aload_n dX8_purse_23 rfl rfl ?_
        refine y_getR FX8_10 dX8_purse_24 rfl c1.1.1 c1.1.2.1 ?_
        refine y_getR FX8_350 dX8_purse_27 rfl c1.1.2.2.2.2.1.o c1.1.2.2.2.2.1.f5 ?_
        refine y_getI FX8_130 dX8_purse_30 (Or.inl rfl) c1.1.2.2.2.2.1.offers.1 ?_
        refine z_eqi (y := nI (a 5)) (show _ = nI (a 5) from c1.2.2.2.2.2.2.1.1.2.2.1) ?_
        refine y_callS (as := [_]) CX8_bit LX8_163 SX8_bit dX8_purse_33 rfl (Nat.le_of_ble_eq_true rfl) (Nat.le_of_ble_eq_true rfl) (by omega) (s_bit _) rok_i ⟨Nat.le_refl _, Nat.le_refl _, hN, hS⟩ ?_
        refine z_eqi (nI_bit (show a 5 < 31 by omega)) ?_
        refine z_icmp_ge dX8_purse_36 rfl (fun c => absurd c (fun q => absurd ((nI_leI (by omega) (by omega)).mp q) (by omega))) (fun _ => ?_)
        refine z_aload_n dX8_purse_39 rfl rfl ?_
        refine z_iload dX8_purse_40 rfl ?_
        refine z_iconst (v := 2) dX8_purse_42 (by decide) ?_
        refine y_callV (as := [_, _]) CX8_sumOf LX8_356 IX8_sumOf VX8_sumOf ⟨rfl, Nat.le_of_ble_eq_true rfl⟩ dX8_purse_43 c1.1.1 rfl (Nat.le_of_ble_eq_true rfl) (Nat.le_of_ble_eq_true rfl) (by omega) (c_sumOf (d := 1) (w := i) (c := 2) c1 hv ho (by omega) (by omega) (Nat.le_refl _)) rok_i ⟨Nat.le_refl _, Nat.le_refl _, hN, hS⟩ ?_
        refine z_istore dX8_purse_46 (Nat.le_of_ble_eq_true rfl) ?_
        refine z_iload dX8_purse_48 rfl ?_
        refine z_iload dX8_purse_50 rfl ?_
        refine z_icmp_le dX8_purse_52 rfl (fun c => absurd c (fun q => absurd ((nI_leI (by omega) (by omega)).mp q) (by omega))) (fun _ => ?_)
        refine z_aload_n dX8_purse_55 rfl rfl ?_
        refine z_iload dX8_purse_56 rfl ?_
        refine z_iconst (v := 3) dX8_purse_58 (by decide) ?_
        refine y_callV (as := [_, _]) CX8_sumOf LX8_356 IX8_sumOf VX8_sumOf ⟨rfl, Nat.le_of_ble_eq_true rfl⟩ dX8_purse_59 c1.1.1 rfl (Nat.le_of_ble_eq_true rfl) (Nat.le_of_ble_eq_true rfl) (by omega) (c_sumOf (d := 1) (w := i) (c := 3) c1 hv ho (by omega) (by omega) (Nat.le_refl _)) rok_i ⟨Nat.le_refl _, Nat.le_refl _, hN, hS⟩ ?_
        refine z_iload_n dX8_purse_62 rfl rfl ?_
        refine z_iload dX8_purse_63 rfl ?_
        refine z_iadd dX8_purse_65 ?_
        refine z_eqi (nI_add _ _) ?_
        refine z_icmp_gt dX8_purse_66 rfl (fun _ => ?_) (fun c => absurd ((nI_ltI (by omega) (by omega)).mpr (by omega)) c)
        refine z_iinc dX8_purse_76 rfl (nI_1 _) (Nat.le_of_ble_eq_true rfl) ?_
        refine z_goto dX8_purse_79 rfl ?_
        exact K2 _
    · rw [es, if_neg (fun q => q1 q.2.1)] at K2
      refine z_iload dX8_purse_21 rfl ?_
      refine z_aload_n dX8_purse_23 rfl rfl ?_
      refine y_getR FX8_10 dX8_purse_24 rfl c1.1.1 c1.1.2.1 ?_
      refine y_getR FX8_350 dX8_purse_27 rfl c1.1.2.2.2.2.1.o c1.1.2.2.2.2.1.f5 ?_
      refine y_getI FX8_130 dX8_purse_30 (Or.inl rfl) c1.1.2.2.2.2.1.offers.1 ?_
      refine z_eqi (y := nI (a 5)) (show _ = nI (a 5) from c1.2.2.2.2.2.2.1.1.2.2.1) ?_
      refine y_callS (as := [_]) CX8_bit LX8_163 SX8_bit dX8_purse_33 rfl (Nat.le_of_ble_eq_true rfl) (Nat.le_of_ble_eq_true rfl) (by omega) (s_bit _) rok_i ⟨Nat.le_refl _, Nat.le_refl _, hN, hS⟩ ?_
      refine z_eqi (nI_bit (show a 5 < 31 by omega)) ?_
      refine z_icmp_ge dX8_purse_36 rfl (fun c => absurd c (fun q => absurd ((nI_leI (by omega) (by omega)).mp q) (by omega))) (fun _ => ?_)
      refine z_aload_n dX8_purse_39 rfl rfl ?_
      refine z_iload dX8_purse_40 rfl ?_
      refine z_iconst (v := 2) dX8_purse_42 (by decide) ?_
      refine y_callV (as := [_, _]) CX8_sumOf LX8_356 IX8_sumOf VX8_sumOf ⟨rfl, Nat.le_of_ble_eq_true rfl⟩ dX8_purse_43 c1.1.1 rfl (Nat.le_of_ble_eq_true rfl) (Nat.le_of_ble_eq_true rfl) (by omega) (c_sumOf (d := 1) (w := i) (c := 2) c1 hv ho (by omega) (by omega) (Nat.le_refl _)) rok_i ⟨Nat.le_refl _, Nat.le_refl _, hN, hS⟩ ?_
      refine z_istore dX8_purse_46 (Nat.le_of_ble_eq_true rfl) ?_
      refine z_iload dX8_purse_48 rfl ?_
      refine z_iload dX8_purse_50 rfl ?_
      refine z_icmp_le dX8_purse_52 rfl (fun _ => ?_) (fun c => absurd ((nI_leI (by omega) (by omega)).mpr (by omega)) c)
      refine z_iinc dX8_purse_76 rfl (nI_1 _) (Nat.le_of_ble_eq_true rfl) ?_
      refine z_goto dX8_purse_79 rfl ?_
      exact K2 _
theorem C_purse {h : Hp} {a : Fl} {tf : Nat → Int32} {d : Nat} (c1 : CZ h a tf) (hv : IC a) (ho : IOf a) {f : Nat} (hf : f = 0 ∨ f = 1) (m : Int32) (hd : 2 ≤ d) : Sp d mX8_purse [.ref 8, .int m, .int (nI f)] h (some (.int (mPurse a m f))) h := by
  have v5 := hv.2.2.2.2.2.1
  have p5 : 2 ^ a 5 ≤ 2 ^ 8 := Nat.pow_le_pow_right (by omega) v5
  have mv := c1.2.2.2.2.2.2.1
  intro N S Q hN hS hQ
  by_cases hc : inr m 0 9999
  · have eq : mPurse a m f = if f = 1 then nI (sW a 2 (pB a (nn m) (2 ^ a 5)) (a 5)) else nI (pB a (nn m) (2 ^ a 5)) := if_pos hc
    rw [eq] at hQ
    obtain ⟨m, hmm, rfl⟩ := inr_of (n := 9999) (by omega) hc
    rw [nn_nI (by omega)] at hQ
    have p1 : 0 < 2 ^ a 5 := Nat.pow_pos (by omega)
    have z0 : sW a 2 0 (a 5) = 0 := by
      have L : ∀ i, sW a 2 0 i = 0 := by
        intro i
        induction i with
        | zero => rfl
        | succ i ih =>
          show sW a 2 0 i + (if _ then _ else _) = 0
          rw [ih, Nat.zero_testBit, if_neg (by decide)]
      exact L _
    have K : ∀ o6, T d N S mX8_purse 82 [some (.ref 8), some (.int (nI m)), some (.int (nI f)), some (.int (nI (pB a m (2 ^ a 5)))), some (.int (nI (sW a 2 (pB a m (2 ^ a 5)) (a 5)))), some (.int (nI (2 ^ a 5))), o6] [] h Q := fun o6 => by
      rcases hf with hf | hf
      · rw [if_neg (by omega)] at hQ
        refine z_iload_n dX8_purse_82 rfl rfl ?_
        refine z_if_eq dX8_purse_83 rfl (fun _ => ?_) (fun c => absurd (congrArg nI hf) c)
        refine z_iload_n dX8_purse_91 rfl rfl ?_
        refine z_iret dX8_purse_92 ?_
        exact hQ
      · rw [if_pos hf] at hQ
        refine z_iload_n dX8_purse_82 rfl rfl ?_
        refine z_if_eq dX8_purse_83 rfl (fun c => absurd c (fun q => absurd ((nI_eq (b := 0) (by omega) (by omega)).mp q) (by omega))) (fun _ => ?_)
        refine z_iload dX8_purse_86 rfl ?_
        refine z_goto dX8_purse_88 rfl ?_
        refine z_iret dX8_purse_92 ?_
        exact hQ
    have L := c_purse_loop (d := d) (f := f) c1 hv ho hmm hN hS hd K (2 ^ a 5 - 1) 1 none (by omega) (Nat.le_refl _)
    rw [show pB a m 1 = 0 from if_neg (fun q => absurd q.1 (by decide)), z0] at L
    refine z_iload_n dX8_purse_0 rfl rfl ?_
    refine z_iconst (v := 0) dX8_purse_1 (by decide) ?_
    refine z_sipush (v := 9999) dX8_purse_2 (by decide) ?_
    refine y_callS (as := [_, _, _]) CX8_within LX8_61 SX8_within dX8_purse_5 rfl (Nat.le_of_ble_eq_true rfl) (Nat.le_of_ble_eq_true rfl) (by omega) (s_within _ _ _) (rok_z bI_01) ⟨Nat.le_refl _, Nat.le_refl _, hN, hS⟩ ?_
    refine z_if_ne dX8_purse_8 rfl (fun _ => ?_) (fun c => absurd c (bI_ne0.mpr hc))
    refine z_iconst (v := 0) dX8_purse_13 (by decide) ?_
    refine z_istore_n dX8_purse_14 rfl (Nat.le_of_ble_eq_true rfl) ?_
    refine z_iconst (v := 0) dX8_purse_15 (by decide) ?_
    refine z_istore dX8_purse_16 (Nat.le_of_ble_eq_true rfl) ?_
    refine z_iconst (v := 1) dX8_purse_18 (by decide) ?_
    refine z_istore dX8_purse_19 (Nat.le_of_ble_eq_true rfl) ?_
    exact L
  · have eq : mPurse a m f = -1 := if_neg hc
    rw [eq] at hQ
    refine z_iload_n dX8_purse_0 rfl rfl ?_
    refine z_iconst (v := 0) dX8_purse_1 (by decide) ?_
    refine z_sipush (v := 9999) dX8_purse_2 (by decide) ?_
    refine y_callS (as := [_, _, _]) CX8_within LX8_61 SX8_within dX8_purse_5 rfl (Nat.le_of_ble_eq_true rfl) (Nat.le_of_ble_eq_true rfl) (by omega) (s_within _ _ _) (rok_z bI_01) ⟨Nat.le_refl _, Nat.le_refl _, hN, hS⟩ ?_
    refine z_if_ne dX8_purse_8 rfl (fun c => absurd (bI_eq0.mpr hc) c) (fun _ => ?_)
    refine z_iconst (v := -1) dX8_purse_11 (by decide) ?_
    refine z_iret dX8_purse_12 ?_
    exact hQ

