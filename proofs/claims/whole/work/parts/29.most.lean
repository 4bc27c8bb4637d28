/-! most, ruined, idle: both sides (walks by program: wip/whole/gen29.py) -/
def enc (x : Option Nat) : Int32 := match x with
  | none => -1
  | some b => nI b
theorem bstF_lt {f : Nat → Nat} : ∀ n b, bstF f n = some b → b < n := by
  intro n
  induction n with
  | zero => intro b h; cases h
  | succ n ih =>
    intro b h
    have e : bstF f (n + 1) = (match bstF f n with
      | none => some n
      | some b => if f b < f n then some n else some b) := rfl
    rw [e] at h
    cases hb : bstF f n with
    | none => rw [hb] at h; cases h; omega
    | some c =>
      rw [hb] at h
      have := ih c hb
      simp only at h
      split at h
      · cases h; omega
      · cases h; omega
theorem bstF_none {f : Nat → Nat} {n : Nat} (h : bstF f n = none) : bstF f (n + 1) = some n := by
  show (match bstF f n with
      | none => some n
      | some b => if f b < f n then some n else some b) = some n
  rw [h]
theorem bstF_some {f : Nat → Nat} {n b : Nat} (h : bstF f n = some b) : bstF f (n + 1) = if f b < f n then some n else some b := by
  show (match bstF f n with
      | none => some n
      | some b => if f b < f n then some n else some b) = _
  rw [h]
/-- prophets in their bounds -/
def IP (a : Fl) : Prop := ∀ p, p < a 1 → a (13 + 5 * p) ≤ 9999 ∧ a (13 + 5 * p + 1) ≤ 99 ∧ a (13 + 5 * p + 2) ≤ 1 ∧ a (13 + 5 * p + 3) ≤ 9999 ∧ a (13 + 5 * p + 4) ≤ 99
def mMost (a : Fl) (c : Nat) : Int32 := enc (bstF (fun p => a (13 + 5 * p + c)) (a 1))
theorem IP.le {a : Fl} {p c : Nat} (h : IP a) (hp : p < a 1) (hc : c < 3) : a (13 + 5 * p + c) ≤ 9999 := by
  obtain ⟨h0, h1, h2, -⟩ := h p hp
  rcases (show c = 0 ∨ c = 1 ∨ c = 2 by omega) with q | q | q <;> subst q <;> omega

theorem r_most_loop {h : Hp} {d N S n c : Nat} {f : Nat → Nat} {Q : Option Value → Hp → Prop} (hm : SM h) (e1 : pI h 489 1 = nI n) (hn : n ≤ 5) (hc : c < 3) (ef : ∀ p, p < n → pI h 489 (13 + 5 * p + c) = nI (f p)) (hb9 : ∀ p, p < n → f p ≤ 9999) (hd : 1 ≤ d) (hN : pn h ≤ N) (hS : ps h ≤ S) (hQ : Q (some (.int (enc (bstF f n)))) h) : ∀ r i : Nat, i + r = n → T d N S mX9_mostOf 4 [some (.ref 488), some (.int (nI c)), some (.int (enc (bstF f i))), some (.int (nI i))] [] h Q := by
  intro r
  induction r with
  | zero =>
    intro i hi
    have e : i = n := by omega
    rw [e]
    refine z_iload_n dX9_mostOf_4 rfl rfl ?_
    refine z_aload_n dX9_mostOf_5 rfl rfl ?_
    refine y_getR FX9_7 dX9_mostOf_6 rfl hm.o hm.f_a ?_
    refine z_iconst (v := 1) dX9_mostOf_9 (by decide) ?_
    refine y_ialN (1) dX9_mostOf_10 hm.A_a (Nat.le_of_ble_eq_true rfl) (by first | rfl | (simp only [← nI_add, ← pk_mul]; rfl)) (by omega) ?_
    refine z_eqi (y := nI (n)) e1 ?_
    refine z_icmp_ge dX9_mostOf_11 rfl (fun _ => ?_) (fun c => absurd ((nI_leI (by omega) (by omega)).mpr (Nat.le_refl _)) c)
    refine z_iload_n dX9_mostOf_42 rfl rfl ?_
    refine z_iret dX9_mostOf_43 ?_
    exact hQ
  | succ r ih =>
    intro i hi
    cases hb : bstF f i with
    | none =>
      have en := bstF_none hb
      refine z_iload_n dX9_mostOf_4 rfl rfl ?_
      refine z_aload_n dX9_mostOf_5 rfl rfl ?_
      refine y_getR FX9_7 dX9_mostOf_6 rfl hm.o hm.f_a ?_
      refine z_iconst (v := 1) dX9_mostOf_9 (by decide) ?_
      refine y_ialN (1) dX9_mostOf_10 hm.A_a (Nat.le_of_ble_eq_true rfl) (by first | rfl | (simp only [← nI_add, ← pk_mul]; rfl)) (by omega) ?_
      refine z_eqi (y := nI (n)) e1 ?_
      refine z_icmp_ge dX9_mostOf_11 rfl (fun c => absurd c (fun q => absurd ((nI_leI (by omega) (by omega)).mp q) (by omega))) (fun _ => ?_)
      refine z_iload_n dX9_mostOf_14 rfl rfl ?_
      refine z_iconst (v := -1) dX9_mostOf_15 (by decide) ?_
      refine z_icmp_eq dX9_mostOf_16 rfl (fun _ => ?_) (fun c => absurd (rfl) c)
      refine z_iload_n dX9_mostOf_34 rfl rfl ?_
      refine z_istore_n dX9_mostOf_35 rfl (Nat.le_of_ble_eq_true rfl) ?_
      refine z_iinc dX9_mostOf_36 rfl (nI_1 _) (Nat.le_of_ble_eq_true rfl) ?_
      refine z_goto dX9_mostOf_39 rfl ?_
      have hh := ih (i + 1) (by omega)
      rw [en] at hh
      exact hh
    | some b =>
      have hlt := bstF_lt _ _ hb
      have en := bstF_some hb
      have h9 := hb9 i (by omega)
      have h9b := hb9 b (by omega)
      by_cases hq : f b < f i
      · rw [if_pos hq] at en
        refine z_iload_n dX9_mostOf_4 rfl rfl ?_
        refine z_aload_n dX9_mostOf_5 rfl rfl ?_
        refine y_getR FX9_7 dX9_mostOf_6 rfl hm.o hm.f_a ?_
        refine z_iconst (v := 1) dX9_mostOf_9 (by decide) ?_
        refine y_ialN (1) dX9_mostOf_10 hm.A_a (Nat.le_of_ble_eq_true rfl) (by first | rfl | (simp only [← nI_add, ← pk_mul]; rfl)) (by omega) ?_
        refine z_eqi (y := nI (n)) e1 ?_
        refine z_icmp_ge dX9_mostOf_11 rfl (fun c => absurd c (fun q => absurd ((nI_leI (by omega) (by omega)).mp q) (by omega))) (fun _ => ?_)
        refine z_iload_n dX9_mostOf_14 rfl rfl ?_
        refine z_iconst (v := -1) dX9_mostOf_15 (by decide) ?_
        refine z_icmp_eq dX9_mostOf_16 rfl (fun c => absurd c (nI_ne1 (by omega))) (fun _ => ?_)
        refine z_aload_n dX9_mostOf_19 rfl rfl ?_
        refine z_iload_n dX9_mostOf_20 rfl rfl ?_
        refine z_iload_n dX9_mostOf_21 rfl rfl ?_
        refine y_callV (as := [_, _]) CX9_get LX9_87 IX9_get VX9_get ⟨rfl, Nat.le_of_ble_eq_true rfl⟩ dX9_mostOf_22 hm.o rfl (Nat.le_of_ble_eq_true rfl) (Nat.le_of_ble_eq_true rfl) (by omega) (r_get (by exact hm) (j := i) (w := c) (by omega) (by omega)) rok_i ⟨Nat.le_refl _, Nat.le_refl _, hN, hS⟩ ?_
        refine z_eqi (ef i (by omega)) ?_
        refine z_aload_n dX9_mostOf_25 rfl rfl ?_
        refine z_iload_n dX9_mostOf_26 rfl rfl ?_
        refine z_iload_n dX9_mostOf_27 rfl rfl ?_
        refine y_callV (as := [_, _]) CX9_get LX9_87 IX9_get VX9_get ⟨rfl, Nat.le_of_ble_eq_true rfl⟩ dX9_mostOf_28 hm.o rfl (Nat.le_of_ble_eq_true rfl) (Nat.le_of_ble_eq_true rfl) (by omega) (r_get (by exact hm) (j := b) (w := c) (by omega) (by omega)) rok_i ⟨Nat.le_refl _, Nat.le_refl _, hN, hS⟩ ?_
        refine z_eqi (ef b (by omega)) ?_
        refine z_icmp_le dX9_mostOf_31 rfl (fun c => absurd c (fun q => absurd ((nI_leI (by omega) (by omega)).mp q) (by omega))) (fun _ => ?_)
        refine z_iload_n dX9_mostOf_34 rfl rfl ?_
        refine z_istore_n dX9_mostOf_35 rfl (Nat.le_of_ble_eq_true rfl) ?_
        refine z_iinc dX9_mostOf_36 rfl (nI_1 _) (Nat.le_of_ble_eq_true rfl) ?_
        refine z_goto dX9_mostOf_39 rfl ?_
        have hh := ih (i + 1) (by omega)
        rw [en] at hh
        exact hh
      · rw [if_neg hq] at en
        refine z_iload_n dX9_mostOf_4 rfl rfl ?_
        refine z_aload_n dX9_mostOf_5 rfl rfl ?_
        refine y_getR FX9_7 dX9_mostOf_6 rfl hm.o hm.f_a ?_
        refine z_iconst (v := 1) dX9_mostOf_9 (by decide) ?_
        refine y_ialN (1) dX9_mostOf_10 hm.A_a (Nat.le_of_ble_eq_true rfl) (by first | rfl | (simp only [← nI_add, ← pk_mul]; rfl)) (by omega) ?_
        refine z_eqi (y := nI (n)) e1 ?_
        refine z_icmp_ge dX9_mostOf_11 rfl (fun c => absurd c (fun q => absurd ((nI_leI (by omega) (by omega)).mp q) (by omega))) (fun _ => ?_)
        refine z_iload_n dX9_mostOf_14 rfl rfl ?_
        refine z_iconst (v := -1) dX9_mostOf_15 (by decide) ?_
        refine z_icmp_eq dX9_mostOf_16 rfl (fun c => absurd c (nI_ne1 (by omega))) (fun _ => ?_)
        refine z_aload_n dX9_mostOf_19 rfl rfl ?_
        refine z_iload_n dX9_mostOf_20 rfl rfl ?_
        refine z_iload_n dX9_mostOf_21 rfl rfl ?_
        refine y_callV (as := [_, _]) CX9_get LX9_87 IX9_get VX9_get ⟨rfl, Nat.le_of_ble_eq_true rfl⟩ dX9_mostOf_22 hm.o rfl (Nat.le_of_ble_eq_true rfl) (Nat.le_of_ble_eq_true rfl) (by omega) (r_get (by exact hm) (j := i) (w := c) (by omega) (by omega)) rok_i ⟨Nat.le_refl _, Nat.le_refl _, hN, hS⟩ ?_
        refine z_eqi (ef i (by omega)) ?_
        refine z_aload_n dX9_mostOf_25 rfl rfl ?_
        refine z_iload_n dX9_mostOf_26 rfl rfl ?_
        refine z_iload_n dX9_mostOf_27 rfl rfl ?_
        refine y_callV (as := [_, _]) CX9_get LX9_87 IX9_get VX9_get ⟨rfl, Nat.le_of_ble_eq_true rfl⟩ dX9_mostOf_28 hm.o rfl (Nat.le_of_ble_eq_true rfl) (Nat.le_of_ble_eq_true rfl) (by omega) (r_get (by exact hm) (j := b) (w := c) (by omega) (by omega)) rok_i ⟨Nat.le_refl _, Nat.le_refl _, hN, hS⟩ ?_
        refine z_eqi (ef b (by omega)) ?_
        refine z_icmp_le dX9_mostOf_31 rfl (fun _ => ?_) (fun c => absurd ((nI_leI (by omega) (by omega)).mpr (by omega)) c)
        refine z_iinc dX9_mostOf_36 rfl (nI_1 _) (Nat.le_of_ble_eq_true rfl) ?_
        refine z_goto dX9_mostOf_39 rfl ?_
        have hh := ih (i + 1) (by omega)
        rw [en] at hh
        exact hh
theorem r_mostOf {s : Ms} {h : Hp} {d : Nat} (hr : RM s h) (hv : IC s.1) (hp : IP s.1) {c : Nat} (hc : c < 3) (hd : 1 ≤ d) : Sp d mX9_mostOf [.ref 488, .int (nI c)] h (some (.int (mMost s.1 c))) h := by
  intro N S Q hN hS hQ
  have hm := hr.m
  have e1 : pI h 489 1 = nI (s.1 1) := hr.at (by omega) (by omega)
  have v1 := hv.2.1
  refine z_iconst (v := -1) dX9_mostOf_0 (by decide) ?_
  refine z_istore_n dX9_mostOf_1 rfl (Nat.le_of_ble_eq_true rfl) ?_
  refine z_iconst (v := 0) dX9_mostOf_2 (by decide) ?_
  refine z_istore_n dX9_mostOf_3 rfl (Nat.le_of_ble_eq_true rfl) ?_
  exact r_most_loop (f := fun p => s.1 (13 + 5 * p + c)) hm e1 v1 hc (fun p q => hr.at (by omega) (by omega)) (fun p q => hp.le q hc) hd hN hS hQ (s.1 1) 0 (by omega)

theorem R_famous {s : Ms} {h : Hp} {d : Nat} (hr : RM s h) (hv : IC s.1) (hp : IP s.1) (hd : 2 ≤ d) : Sp d mX9_famous [.ref 488] h (some (.int (mMost s.1 1))) h := by
  intro N S Q hN hS hQ
  have hm := hr.m
  refine z_aload_n dX9_famous_0 rfl rfl ?_
  refine z_iconst (v := 1) dX9_famous_1 (by decide) ?_
  refine y_callV (as := [_]) CX9_mostOf LX9_435 IX9_mostOf VX9_mostOf ⟨rfl, Nat.le_of_ble_eq_true rfl⟩ dX9_famous_2 hm.o rfl (Nat.le_of_ble_eq_true rfl) (Nat.le_of_ble_eq_true rfl) (by omega) (r_mostOf (d := 1) (c := 1) hr hv hp (by omega) (Nat.le_refl _)) rok_i ⟨Nat.le_refl _, Nat.le_refl _, hN, hS⟩ ?_
  refine z_iret dX9_famous_5 ?_
  exact hQ

theorem R_richest {s : Ms} {h : Hp} {d : Nat} (hr : RM s h) (hv : IC s.1) (hp : IP s.1) (hd : 2 ≤ d) : Sp d mX9_richest [.ref 488] h (some (.int (mMost s.1 0))) h := by
  intro N S Q hN hS hQ
  have hm := hr.m
  refine z_aload_n dX9_richest_0 rfl rfl ?_
  refine z_iconst (v := 0) dX9_richest_1 (by decide) ?_
  refine y_callV (as := [_]) CX9_mostOf LX9_435 IX9_mostOf VX9_mostOf ⟨rfl, Nat.le_of_ble_eq_true rfl⟩ dX9_richest_2 hm.o rfl (Nat.le_of_ble_eq_true rfl) (Nat.le_of_ble_eq_true rfl) (by omega) (r_mostOf (d := 1) (c := 0) hr hv hp (by omega) (Nat.le_refl _)) rok_i ⟨Nat.le_refl _, Nat.le_refl _, hN, hS⟩ ?_
  refine z_iret dX9_richest_5 ?_
  exact hQ

theorem wv_p {h : Hp} {a : Fl} {i c : Nat} (hw : WV h 10 (snap a)) (h5 : a 1 ≤ 5) (hi : i < a 1) (hc : c < 3) : pI h 12 (i * 3 + c) = nI (a (13 + 5 * i + c)) := by
  have := hw.2.2.2.2.1 (i * 3 + c) (by rw [snap_0]; omega)
  rw [snap_p (by omega), show 13 + 5 * ((i * 3 + c) / 3) + (i * 3 + c) % 3 = 13 + 5 * i + c by omega] at this
  exact this

def mst (f : Nat → Nat) (x : Option Nat) : Int32 := match x with
  | none => -1
  | some b => nI (f b)

theorem c_most_loop {h : Hp} {d N S n c : Nat} {f : Nat → Nat} {Q : Option Value → Hp → Prop} (hR : RwS h 11 3 5) (hC : RwC h 11 3 5 n) (hc : c < 3) (ef : ∀ p, p < n → pI h 12 (p * 3 + c) = nI (f p)) (hb9 : ∀ p, p < n → f p ≤ 9999) (hd : 1 ≤ d) (hN : pn h ≤ N) (hS : ps h ≤ S) (hQ : Q (some (.int (enc (bstF f n)))) h) : ∀ r i : Nat, i + r = n → T d N S mX8_firstOfMost 19 [some (.ref 8), some (.int (nI c)), some (.ref 11), some (.int (enc (bstF f i))), some (.int (mst f (bstF f i))), some (.int (nI i))] [] h Q := by
  have hn : n ≤ 5 := hC.2.2.2.1
  intro r
  induction r with
  | zero =>
    intro i hi
    have e : i = n := by omega
    rw [e]
    refine z_iload dX8_firstOfMost_19 rfl ?_
    refine z_aload_n dX8_firstOfMost_21 rfl rfl ?_
    refine y_getI FX8_130 dX8_firstOfMost_22 (Or.inl rfl) hR.1 ?_
    refine z_eqi (y := nI (n)) hC.2.2.1 ?_
    refine z_icmp_ge dX8_firstOfMost_25 rfl (fun _ => ?_) (fun c => absurd ((nI_leI (by omega) (by omega)).mpr (Nat.le_refl _)) c)
    refine z_iload_n dX8_firstOfMost_58 rfl rfl ?_
    refine z_iret dX8_firstOfMost_59 ?_
    exact hQ
  | succ r ih =>
    intro i hi
    have h9 := hb9 i (by omega)
    cases hb : bstF f i with
    | none =>
      have en := bstF_none hb
      refine z_iload dX8_firstOfMost_19 rfl ?_
      refine z_aload_n dX8_firstOfMost_21 rfl rfl ?_
      refine y_getI FX8_130 dX8_firstOfMost_22 (Or.inl rfl) hR.1 ?_
      refine z_eqi (y := nI (n)) hC.2.2.1 ?_
      refine z_icmp_ge dX8_firstOfMost_25 rfl (fun c => absurd c (fun q => absurd ((nI_leI (by omega) (by omega)).mp q) (by omega))) (fun _ => ?_)
      refine z_aload_n dX8_firstOfMost_28 rfl rfl ?_
      refine z_iload dX8_firstOfMost_29 rfl ?_
      refine z_iload_n dX8_firstOfMost_31 rfl rfl ?_
      refine y_callV (as := [_, _]) CX4_get LX8_143 IX4_get VX4_get ⟨rfl, Nat.le_of_ble_eq_true rfl⟩ dX8_firstOfMost_32 hR.1 rfl (Nat.le_of_ble_eq_true rfl) (Nat.le_of_ble_eq_true rfl) (by omega) (s_get (k := 11) (w := 3) (ms := 5) (n := n) (i := i) (j := c) (by exact hR) hC (by omega) (by omega)) rok_i ⟨Nat.le_refl _, Nat.le_refl _, hN, hS⟩ ?_
      refine z_eqi (ef i (by omega)) ?_
      refine z_iload dX8_firstOfMost_35 rfl ?_
      refine z_icmp_le dX8_firstOfMost_37 rfl (fun c => absurd c (fun q => absurd (Int32.le_iff_toInt_le.mp q) (by rw [nI_toInt (by omega), show (mst f none).toInt = -1 by rfl]; omega))) (fun _ => ?_)
      refine z_iload dX8_firstOfMost_40 rfl ?_
      refine z_istore_n dX8_firstOfMost_42 rfl (Nat.le_of_ble_eq_true rfl) ?_
      refine z_aload_n dX8_firstOfMost_43 rfl rfl ?_
      refine z_iload dX8_firstOfMost_44 rfl ?_
      refine z_iload_n dX8_firstOfMost_46 rfl rfl ?_
      refine y_callV (as := [_, _]) CX4_get LX8_143 IX4_get VX4_get ⟨rfl, Nat.le_of_ble_eq_true rfl⟩ dX8_firstOfMost_47 hR.1 rfl (Nat.le_of_ble_eq_true rfl) (Nat.le_of_ble_eq_true rfl) (by omega) (s_get (k := 11) (w := 3) (ms := 5) (n := n) (i := i) (j := c) (by exact hR) hC (by omega) (by omega)) rok_i ⟨Nat.le_refl _, Nat.le_refl _, hN, hS⟩ ?_
      refine z_eqi (ef i (by omega)) ?_
      refine z_istore dX8_firstOfMost_50 (Nat.le_of_ble_eq_true rfl) ?_
      refine z_iinc dX8_firstOfMost_52 rfl (nI_1 _) (Nat.le_of_ble_eq_true rfl) ?_
      refine z_goto dX8_firstOfMost_55 rfl ?_
      have hh := ih (i + 1) (by omega)
      rw [en] at hh
      exact hh
    | some b =>
      have hlt := bstF_lt _ _ hb
      have en := bstF_some hb
      have h9b := hb9 b (by omega)
      by_cases hq : f b < f i
      · rw [if_pos hq] at en
        refine z_iload dX8_firstOfMost_19 rfl ?_
        refine z_aload_n dX8_firstOfMost_21 rfl rfl ?_
        refine y_getI FX8_130 dX8_firstOfMost_22 (Or.inl rfl) hR.1 ?_
        refine z_eqi (y := nI (n)) hC.2.2.1 ?_
        refine z_icmp_ge dX8_firstOfMost_25 rfl (fun c => absurd c (fun q => absurd ((nI_leI (by omega) (by omega)).mp q) (by omega))) (fun _ => ?_)
        refine z_aload_n dX8_firstOfMost_28 rfl rfl ?_
        refine z_iload dX8_firstOfMost_29 rfl ?_
        refine z_iload_n dX8_firstOfMost_31 rfl rfl ?_
        refine y_callV (as := [_, _]) CX4_get LX8_143 IX4_get VX4_get ⟨rfl, Nat.le_of_ble_eq_true rfl⟩ dX8_firstOfMost_32 hR.1 rfl (Nat.le_of_ble_eq_true rfl) (Nat.le_of_ble_eq_true rfl) (by omega) (s_get (k := 11) (w := 3) (ms := 5) (n := n) (i := i) (j := c) (by exact hR) hC (by omega) (by omega)) rok_i ⟨Nat.le_refl _, Nat.le_refl _, hN, hS⟩ ?_
        refine z_eqi (ef i (by omega)) ?_
        refine z_iload dX8_firstOfMost_35 rfl ?_
        refine z_icmp_le dX8_firstOfMost_37 rfl (fun c => absurd c (fun q => absurd ((nI_leI (by omega) (by omega)).mp q) (by omega))) (fun _ => ?_)
        refine z_iload dX8_firstOfMost_40 rfl ?_
        refine z_istore_n dX8_firstOfMost_42 rfl (Nat.le_of_ble_eq_true rfl) ?_
        refine z_aload_n dX8_firstOfMost_43 rfl rfl ?_
        refine z_iload dX8_firstOfMost_44 rfl ?_
        refine z_iload_n dX8_firstOfMost_46 rfl rfl ?_
        refine y_callV (as := [_, _]) CX4_get LX8_143 IX4_get VX4_get ⟨rfl, Nat.le_of_ble_eq_true rfl⟩ dX8_firstOfMost_47 hR.1 rfl (Nat.le_of_ble_eq_true rfl) (Nat.le_of_ble_eq_true rfl) (by omega) (s_get (k := 11) (w := 3) (ms := 5) (n := n) (i := i) (j := c) (by exact hR) hC (by omega) (by omega)) rok_i ⟨Nat.le_refl _, Nat.le_refl _, hN, hS⟩ ?_
        refine z_eqi (ef i (by omega)) ?_
        refine z_istore dX8_firstOfMost_50 (Nat.le_of_ble_eq_true rfl) ?_
        refine z_iinc dX8_firstOfMost_52 rfl (nI_1 _) (Nat.le_of_ble_eq_true rfl) ?_
        refine z_goto dX8_firstOfMost_55 rfl ?_
        have hh := ih (i + 1) (by omega)
        rw [en] at hh
        exact hh
      · rw [if_neg hq] at en
        refine z_iload dX8_firstOfMost_19 rfl ?_
        refine z_aload_n dX8_firstOfMost_21 rfl rfl ?_
        refine y_getI FX8_130 dX8_firstOfMost_22 (Or.inl rfl) hR.1 ?_
        refine z_eqi (y := nI (n)) hC.2.2.1 ?_
        refine z_icmp_ge dX8_firstOfMost_25 rfl (fun c => absurd c (fun q => absurd ((nI_leI (by omega) (by omega)).mp q) (by omega))) (fun _ => ?_)
        refine z_aload_n dX8_firstOfMost_28 rfl rfl ?_
        refine z_iload dX8_firstOfMost_29 rfl ?_
        refine z_iload_n dX8_firstOfMost_31 rfl rfl ?_
        refine y_callV (as := [_, _]) CX4_get LX8_143 IX4_get VX4_get ⟨rfl, Nat.le_of_ble_eq_true rfl⟩ dX8_firstOfMost_32 hR.1 rfl (Nat.le_of_ble_eq_true rfl) (Nat.le_of_ble_eq_true rfl) (by omega) (s_get (k := 11) (w := 3) (ms := 5) (n := n) (i := i) (j := c) (by exact hR) hC (by omega) (by omega)) rok_i ⟨Nat.le_refl _, Nat.le_refl _, hN, hS⟩ ?_
        refine z_eqi (ef i (by omega)) ?_
        refine z_iload dX8_firstOfMost_35 rfl ?_
        refine z_icmp_le dX8_firstOfMost_37 rfl (fun _ => ?_) (fun c => absurd ((nI_leI (by omega) (by omega)).mpr (by omega)) c)
        refine z_iinc dX8_firstOfMost_52 rfl (nI_1 _) (Nat.le_of_ble_eq_true rfl) ?_
        refine z_goto dX8_firstOfMost_55 rfl ?_
        have hh := ih (i + 1) (by omega)
        rw [en] at hh
        exact hh
theorem c_firstOfMost {h : Hp} {d : Nat} {a : Fl} {tx : Nat → Nat → Prop} (h8 : IO h 8 8) (hx0 : pR h 8 0 = some 9) (hs : MkS h 9) (hv : MV h 9 a tx) (hi : IC a) (hp : IP a) {c : Nat} (hc : c < 3) (hd : 1 ≤ d) : Sp d mX8_firstOfMost [.ref 8, .int (nI c)] h (some (.int (mMost a c))) h := by
  intro N S Q hN hS hQ
  have v1 := hi.2.1
  refine z_aload_n dX8_firstOfMost_0 rfl rfl ?_
  refine y_getR FX8_10 dX8_firstOfMost_1 rfl h8 hx0 ?_
  refine y_getR FX8_79 dX8_firstOfMost_4 rfl hs.o hs.f0 ?_
  refine y_getR FX8_82 dX8_firstOfMost_7 rfl hs.now.1 hs.now.2.1 ?_
  refine z_astore_n dX8_firstOfMost_10 rfl (Nat.le_of_ble_eq_true rfl) ?_
  refine z_iconst (v := -1) dX8_firstOfMost_11 (by decide) ?_
  refine z_istore_n dX8_firstOfMost_12 rfl (Nat.le_of_ble_eq_true rfl) ?_
  refine z_iconst (v := -1) dX8_firstOfMost_13 (by decide) ?_
  refine z_istore dX8_firstOfMost_14 (Nat.le_of_ble_eq_true rfl) ?_
  refine z_iconst (v := 0) dX8_firstOfMost_16 (by decide) ?_
  refine z_istore dX8_firstOfMost_17 (Nat.le_of_ble_eq_true rfl) ?_
  exact c_most_loop (f := fun p => a (13 + 5 * p + c)) hs.now.2.2.1 (show RwC h 11 3 5 (a 1) from hv.1.2.2.2.1) hc (fun p q => wv_p hv.1 v1 q hc) (fun p q => hp.le q hc) hd hN hS hQ (a 1) 0 (by omega)

theorem C_famous {h : Hp} {d : Nat} {a : Fl} {tx : Nat → Nat → Prop} (h8 : IO h 8 8) (hx0 : pR h 8 0 = some 9) (hs : MkS h 9) (hv : MV h 9 a tx) (hi : IC a) (hp : IP a) (hd : 2 ≤ d) : Sp d mX8_famous [.ref 8] h (some (.int (mMost a 1))) h := by
  intro N S Q hN hS hQ
  refine z_aload_n dX8_famous_0 rfl rfl ?_
  refine z_iconst (v := 1) dX8_famous_1 (by decide) ?_
  refine y_callV (as := [_]) CX8_firstOfMost LX8_406 IX8_firstOfMost VX8_firstOfMost ⟨rfl, Nat.le_of_ble_eq_true rfl⟩ dX8_famous_2 h8 rfl (Nat.le_of_ble_eq_true rfl) (Nat.le_of_ble_eq_true rfl) (by omega) (c_firstOfMost (d := 1) (c := 1) h8 hx0 (by exact hs) hv hi hp (by omega) (Nat.le_refl _)) rok_i ⟨Nat.le_refl _, Nat.le_refl _, hN, hS⟩ ?_
  refine z_iret dX8_famous_5 ?_
  exact hQ

theorem C_richest {h : Hp} {d : Nat} {a : Fl} {tx : Nat → Nat → Prop} (h8 : IO h 8 8) (hx0 : pR h 8 0 = some 9) (hs : MkS h 9) (hv : MV h 9 a tx) (hi : IC a) (hp : IP a) (hd : 2 ≤ d) : Sp d mX8_richest [.ref 8] h (some (.int (mMost a 0))) h := by
  intro N S Q hN hS hQ
  refine z_aload_n dX8_richest_0 rfl rfl ?_
  refine z_iconst (v := 0) dX8_richest_1 (by decide) ?_
  refine y_callV (as := [_]) CX8_firstOfMost LX8_406 IX8_firstOfMost VX8_firstOfMost ⟨rfl, Nat.le_of_ble_eq_true rfl⟩ dX8_richest_2 h8 rfl (Nat.le_of_ble_eq_true rfl) (Nat.le_of_ble_eq_true rfl) (by omega) (c_firstOfMost (d := 1) (c := 0) h8 hx0 (by exact hs) hv hi hp (by omega) (Nat.le_refl _)) rok_i ⟨Nat.le_refl _, Nat.le_refl _, hN, hS⟩ ?_
  refine z_iret dX8_richest_5 ?_
  exact hQ

