/-! ruined, idle: both sides (walks by program: wip/whole/gen30.py) -/
theorem orF_s {f : Nat → Nat} {n : Nat} : orF f (n + 1) = orF f n ||| f n := rfl
theorem sumF_s {f : Nat → Nat} {n : Nat} : sumF f (n + 1) = sumF f n + f n := rfl
theorem sumF_le {f : Nat → Nat} {m : Nat} (hf : ∀ i, f i ≤ m) : ∀ n, sumF f n ≤ n * m := by
  intro n
  induction n with
  | zero => exact Nat.zero_le _
  | succ n ih =>
    rw [sumF_s, Nat.add_mul]
    have := hf n
    omega
def mRuined (a : Fl) : Int32 := nI (orF (fun p => a (13 + 5 * p + 2) * 2 ^ p) (a 1))
/-- how many of the first n prophecies are open and p's -/
def opn (a : Fl) (p n : Nat) : Nat := sumF (fun k => if a (38 + 6 * k + 5) = 0 ∧ a (38 + 6 * k + 0) = p then 1 else 0) n
def mIdle (a : Fl) : Int32 := nI (orF (fun p => if opn a p (a 11) = 0 then 2 ^ p else 0) (a 1))
theorem opn_le {a : Fl} {p n : Nat} : opn a p n ≤ n := by
  have := sumF_le (f := fun k => if a (38 + 6 * k + 5) = 0 ∧ a (38 + 6 * k + 0) = p then 1 else 0) (m := 1) (fun i => by split <;> omega) n
  unfold opn
  omega
theorem sh_small {r p : Nat} (hr : r ≤ 1) (hp : p < 5) : r * 2 ^ p < 2 ^ 32 := by
  have h1 : 2 ^ p ≤ 2 ^ 5 := Nat.pow_le_pow_right (by omega) (by omega)
  have h2 : r * 2 ^ p ≤ 1 * 2 ^ 5 := Nat.mul_le_mul hr h1
  omega
/-- prophecies in their bounds -/
def IQ (a : Fl) : Prop := ∀ k, k < a 11 → a (38 + 6 * k + 0) < a 1 ∧ a (38 + 6 * k + 1) ≤ 1 ∧ 0 < a (38 + 6 * k + 2) ∧ a (38 + 6 * k + 2) < 2 ^ a 0 ∧ a (38 + 6 * k + 3) ≤ 10098 ∧ a (38 + 6 * k + 4) ≤ 999 ∧ a (38 + 6 * k + 5) ≤ 2

theorem r_ruined_loop {h : Hp} {d N S n : Nat} {g f : Nat → Nat} {Q : Option Value → Hp → Prop} (hm : SM h) (e1 : pI h 489 1 = nI n) (hn : n ≤ 5) (ef : ∀ p, p < n → pI h 489 (13 + 5 * p + 2) = nI (g p)) (hb : ∀ p, p < n → g p ≤ 1) (hf : f = fun p => g p * 2 ^ p) (hd : 1 ≤ d) (hN : pn h ≤ N) (hS : ps h ≤ S) (hQ : Q (some (.int (nI (orF f n)))) h) : ∀ r i : Nat, i + r = n → T d N S mX9_ruined 4 [some (.ref 488), some (.int (nI (orF f i))), some (.int (nI i))] [] h Q := by
  intro r
  induction r with
  | zero =>
    intro i hi
    have e : i = n := by omega
    rw [e]
    refine z_iload_n dX9_ruined_4 rfl rfl ?_
    refine z_aload_n dX9_ruined_5 rfl rfl ?_
    refine y_getR FX9_7 dX9_ruined_6 rfl hm.o hm.f_a ?_
    refine z_iconst (v := 1) dX9_ruined_9 (by decide) ?_
    refine y_ialN (1) dX9_ruined_10 hm.A_a (Nat.le_of_ble_eq_true rfl) (by first | rfl | (simp only [← nI_add, ← pk_mul]; rfl)) (by omega) ?_
    refine z_eqi (y := nI (n)) e1 ?_
    refine z_icmp_ge dX9_ruined_11 rfl (fun _ => ?_) (fun c => absurd ((nI_leI (by omega) (by omega)).mpr (Nat.le_refl _)) c)
    refine z_iload_n dX9_ruined_31 rfl rfl ?_
    refine z_iret dX9_ruined_32 ?_
    exact hQ
  | succ r ih =>
    intro i hi
    have hs := sh_small (hb i (by omega)) (show i < 5 by omega)
    have en : orF f (i + 1) = orF f i ||| g i * 2 ^ i := by rw [orF_s, hf]
    refine z_iload_n dX9_ruined_4 rfl rfl ?_
    refine z_aload_n dX9_ruined_5 rfl rfl ?_
    refine y_getR FX9_7 dX9_ruined_6 rfl hm.o hm.f_a ?_
    refine z_iconst (v := 1) dX9_ruined_9 (by decide) ?_
    refine y_ialN (1) dX9_ruined_10 hm.A_a (Nat.le_of_ble_eq_true rfl) (by first | rfl | (simp only [← nI_add, ← pk_mul]; rfl)) (by omega) ?_
    refine z_eqi (y := nI (n)) e1 ?_
    refine z_icmp_ge dX9_ruined_11 rfl (fun c => absurd c (fun q => absurd ((nI_leI (by omega) (by omega)).mp q) (by omega))) (fun _ => ?_)
    refine z_iload_n dX9_ruined_14 rfl rfl ?_
    refine z_aload_n dX9_ruined_15 rfl rfl ?_
    refine z_iload_n dX9_ruined_16 rfl rfl ?_
    refine z_iconst (v := 2) dX9_ruined_17 (by decide) ?_
    refine y_callV (as := [_, _]) CX9_get LX9_87 IX9_get VX9_get ⟨rfl, Nat.le_of_ble_eq_true rfl⟩ dX9_ruined_18 hm.o rfl (Nat.le_of_ble_eq_true rfl) (Nat.le_of_ble_eq_true rfl) (by omega) (r_get (by exact hm) (j := i) (w := 2) (by omega) (by omega)) rok_i ⟨Nat.le_refl _, Nat.le_refl _, hN, hS⟩ ?_
    refine z_eqi (ef i (by omega)) ?_
    refine z_iload_n dX9_ruined_21 rfl rfl ?_
    refine z_ishl dX9_ruined_22 ?_
    refine z_eqi (nI_shl (by omega) hs) ?_
    refine z_ior dX9_ruined_23 ?_
    refine z_eqi (nI_or _ _) ?_
    refine z_istore_n dX9_ruined_24 rfl (Nat.le_of_ble_eq_true rfl) ?_
    refine z_iinc dX9_ruined_25 rfl (nI_1 _) (Nat.le_of_ble_eq_true rfl) ?_
    refine z_goto dX9_ruined_28 rfl ?_
    have hh := ih (i + 1) (by omega)
    rw [en] at hh
    exact hh

theorem R_ruined {s : Ms} {h : Hp} {d : Nat} (hr : RM s h) (hv : IC s.1) (hp : IP s.1) (hd : 1 ≤ d) : Sp d mX9_ruined [.ref 488] h (some (.int (mRuined s.1))) h := by
  intro N S Q hN hS hQ
  have hm := hr.m
  have e1 : pI h 489 1 = nI (s.1 1) := hr.at (by omega) (by omega)
  have v1 := hv.2.1
  refine z_iconst (v := 0) dX9_ruined_0 (by decide) ?_
  refine z_istore_n dX9_ruined_1 rfl (Nat.le_of_ble_eq_true rfl) ?_
  refine z_iconst (v := 0) dX9_ruined_2 (by decide) ?_
  refine z_istore_n dX9_ruined_3 rfl (Nat.le_of_ble_eq_true rfl) ?_
  exact r_ruined_loop (g := fun p => s.1 (13 + 5 * p + 2)) hm e1 v1 (fun p q => hr.at (by omega) (by omega)) (fun p q => (hp p q).2.2.1) rfl hd hN hS hQ (s.1 1) 0 (by omega)

theorem c_ruined_loop {h : Hp} {d N S n : Nat} {g f : Nat → Nat} {Q : Option Value → Hp → Prop} (h8 : IO h 8 8) (hx0 : pR h 8 0 = some 9) (hs : MkS h 9) (hC : RwC h 11 3 5 n) (ef : ∀ p, p < n → pI h 12 (p * 3 + 2) = nI (g p)) (hb : ∀ p, p < n → g p ≤ 1) (hf : f = fun p => g p * 2 ^ p) (hd : 1 ≤ d) (hN : pn h ≤ N) (hS : ps h ≤ S) (hQ : Q (some (.int (nI (orF f n)))) h) : ∀ r i : Nat, i + r = n → T d N S mX8_ruined 4 [some (.ref 8), some (.int (nI (orF f i))), some (.int (nI i))] [] h Q := by
  intro r
  induction r with
  | zero =>
    intro i hi
    have e : i = n := by omega
    rw [e]
    have hn : n ≤ 5 := hC.2.2.2.1
    refine z_iload_n dX8_ruined_4 rfl rfl ?_
    refine z_aload_n dX8_ruined_5 rfl rfl ?_
    refine y_getR FX8_10 dX8_ruined_6 rfl h8 hx0 ?_
    refine y_getR FX8_79 dX8_ruined_9 rfl hs.o hs.f0 ?_
    refine y_getR FX8_82 dX8_ruined_12 rfl hs.now.1 hs.now.2.1 ?_
    refine y_getI FX8_130 dX8_ruined_15 (Or.inl rfl) hs.now.2.2.1.1 ?_
    refine z_eqi (y := nI (n)) hC.2.2.1 ?_
    refine z_icmp_ge dX8_ruined_18 rfl (fun _ => ?_) (fun c => absurd ((nI_leI (by omega) (by omega)).mpr (Nat.le_refl _)) c)
    refine z_iload_n dX8_ruined_57 rfl rfl ?_
    refine z_iret dX8_ruined_58 ?_
    exact hQ
  | succ r ih =>
    intro i hi
    have hn : n ≤ 5 := hC.2.2.2.1
    have hbi := hb i (by omega)
    rcases (show g i = 0 ∨ g i = 1 by omega) with hg | hg
    · have en : orF f (i + 1) = orF f i ||| 0 := by rw [orF_s, hf]; simp [hg]
      refine z_iload_n dX8_ruined_4 rfl rfl ?_
      refine z_aload_n dX8_ruined_5 rfl rfl ?_
      refine y_getR FX8_10 dX8_ruined_6 rfl h8 hx0 ?_
      refine y_getR FX8_79 dX8_ruined_9 rfl hs.o hs.f0 ?_
      refine y_getR FX8_82 dX8_ruined_12 rfl hs.now.1 hs.now.2.1 ?_
      refine y_getI FX8_130 dX8_ruined_15 (Or.inl rfl) hs.now.2.2.1.1 ?_
      refine z_eqi (y := nI (n)) hC.2.2.1 ?_
      refine z_icmp_ge dX8_ruined_18 rfl (fun c => absurd c (fun q => absurd ((nI_leI (by omega) (by omega)).mp q) (by omega))) (fun _ => ?_)
      refine z_iload_n dX8_ruined_21 rfl rfl ?_
      refine z_aload_n dX8_ruined_22 rfl rfl ?_
      refine y_getR FX8_10 dX8_ruined_23 rfl h8 hx0 ?_
      refine y_getR FX8_79 dX8_ruined_26 rfl hs.o hs.f0 ?_
      refine y_getR FX8_82 dX8_ruined_29 rfl hs.now.1 hs.now.2.1 ?_
      refine z_iload_n dX8_ruined_32 rfl rfl ?_
      refine z_iconst (v := 2) dX8_ruined_33 (by decide) ?_
      refine y_callV (as := [_, _]) CX4_get LX8_143 IX4_get VX4_get ⟨rfl, Nat.le_of_ble_eq_true rfl⟩ dX8_ruined_34 hs.now.2.2.1.1 rfl (Nat.le_of_ble_eq_true rfl) (Nat.le_of_ble_eq_true rfl) (by omega) (s_get (k := 11) (w := 3) (ms := 5) (n := n) (i := i) (j := 2) (by exact hs.now.2.2.1) hC (by omega) (by omega)) rok_i ⟨Nat.le_refl _, Nat.le_refl _, hN, hS⟩ ?_
      refine z_eqi (ef i (by omega)) ?_
      refine z_iconst (v := 1) dX8_ruined_37 (by decide) ?_
      refine z_icmp_ne dX8_ruined_38 rfl (fun _ => ?_) (fun c => absurd c (by rw [hg]; decide))
      refine z_iconst (v := 0) dX8_ruined_48 (by decide) ?_
      refine z_ior dX8_ruined_49 ?_
      refine z_eqi (nI_or _ 0) ?_
      refine z_istore_n dX8_ruined_50 rfl (Nat.le_of_ble_eq_true rfl) ?_
      refine z_iinc dX8_ruined_51 rfl (nI_1 _) (Nat.le_of_ble_eq_true rfl) ?_
      refine z_goto dX8_ruined_54 rfl ?_
      have hh := ih (i + 1) (by omega)
      rw [en] at hh
      exact hh
    · have en : orF f (i + 1) = orF f i ||| 2 ^ i := by rw [orF_s, hf]; simp [hg]
      refine z_iload_n dX8_ruined_4 rfl rfl ?_
      refine z_aload_n dX8_ruined_5 rfl rfl ?_
      refine y_getR FX8_10 dX8_ruined_6 rfl h8 hx0 ?_
      refine y_getR FX8_79 dX8_ruined_9 rfl hs.o hs.f0 ?_
      refine y_getR FX8_82 dX8_ruined_12 rfl hs.now.1 hs.now.2.1 ?_
      refine y_getI FX8_130 dX8_ruined_15 (Or.inl rfl) hs.now.2.2.1.1 ?_
      refine z_eqi (y := nI (n)) hC.2.2.1 ?_
      refine z_icmp_ge dX8_ruined_18 rfl (fun c => absurd c (fun q => absurd ((nI_leI (by omega) (by omega)).mp q) (by omega))) (fun _ => ?_)
      refine z_iload_n dX8_ruined_21 rfl rfl ?_
      refine z_aload_n dX8_ruined_22 rfl rfl ?_
      refine y_getR FX8_10 dX8_ruined_23 rfl h8 hx0 ?_
      refine y_getR FX8_79 dX8_ruined_26 rfl hs.o hs.f0 ?_
      refine y_getR FX8_82 dX8_ruined_29 rfl hs.now.1 hs.now.2.1 ?_
      refine z_iload_n dX8_ruined_32 rfl rfl ?_
      refine z_iconst (v := 2) dX8_ruined_33 (by decide) ?_
      refine y_callV (as := [_, _]) CX4_get LX8_143 IX4_get VX4_get ⟨rfl, Nat.le_of_ble_eq_true rfl⟩ dX8_ruined_34 hs.now.2.2.1.1 rfl (Nat.le_of_ble_eq_true rfl) (Nat.le_of_ble_eq_true rfl) (by omega) (s_get (k := 11) (w := 3) (ms := 5) (n := n) (i := i) (j := 2) (by exact hs.now.2.2.1) hC (by omega) (by omega)) rok_i ⟨Nat.le_refl _, Nat.le_refl _, hN, hS⟩ ?_
      refine z_eqi (ef i (by omega)) ?_
      refine z_iconst (v := 1) dX8_ruined_37 (by decide) ?_
      refine z_icmp_ne dX8_ruined_38 rfl (fun c => absurd (by rw [hg]; rfl) c) (fun _ => ?_)
      refine z_iload_n dX8_ruined_41 rfl rfl ?_
      refine y_callS (as := [_]) CX8_bit LX8_163 SX8_bit dX8_ruined_42 rfl (Nat.le_of_ble_eq_true rfl) (Nat.le_of_ble_eq_true rfl) (by omega) (s_bit _) rok_i ⟨Nat.le_refl _, Nat.le_refl _, hN, hS⟩ ?_
      refine z_eqi (nI_bit (by omega)) ?_
      refine z_goto dX8_ruined_45 rfl ?_
      refine z_ior dX8_ruined_49 ?_
      refine z_eqi (nI_or _ _) ?_
      refine z_istore_n dX8_ruined_50 rfl (Nat.le_of_ble_eq_true rfl) ?_
      refine z_iinc dX8_ruined_51 rfl (nI_1 _) (Nat.le_of_ble_eq_true rfl) ?_
      refine z_goto dX8_ruined_54 rfl ?_
      have hh := ih (i + 1) (by omega)
      rw [en] at hh
      exact hh

theorem C_ruined {h : Hp} {d : Nat} {a : Fl} {tx : Nat → Nat → Prop} (h8 : IO h 8 8) (hx0 : pR h 8 0 = some 9) (hs : MkS h 9) (hv : MV h 9 a tx) (hi : IC a) (hp : IP a) (hd : 1 ≤ d) : Sp d mX8_ruined [.ref 8] h (some (.int (mRuined a))) h := by
  intro N S Q hN hS hQ
  have v1 := hi.2.1
  refine z_iconst (v := 0) dX8_ruined_0 (by decide) ?_
  refine z_istore_n dX8_ruined_1 rfl (Nat.le_of_ble_eq_true rfl) ?_
  refine z_iconst (v := 0) dX8_ruined_2 (by decide) ?_
  refine z_istore_n dX8_ruined_3 rfl (Nat.le_of_ble_eq_true rfl) ?_
  exact c_ruined_loop (g := fun p => a (13 + 5 * p + 2)) h8 hx0 hs (show RwC h 11 3 5 (a 1) from hv.1.2.2.2.1) (fun p q => wv_p hv.1 v1 q (by omega)) (fun p q => (hp p q).2.2.1) rfl hd hN hS hQ (a 1) 0 (by omega)

theorem r_isOpenN {h : Hp} {d : Nat} (hm : SM h) {n k : Nat} (e : pI h 489 11 = nI n) (hn : n ≤ 12) (hk : k < n) (hd : 2 ≤ d) : Sp d mX9_isOpen [.ref 488, .int (nI k)] h (some (.int (bI (pI h 489 (38 + 6 * k + 5) = 0)))) h := by
  have := r_isOpen hm e hn (nI k) hd
  rw [nI_clamp (by omega), bI_congr (b := pI h 489 (38 + 6 * k + 5) = 0) ⟨fun q => q.2, fun q => ⟨(vin_nI (by omega) (by omega)).mpr hk, q⟩⟩] at this
  exact this

theorem r_openOf_loop {h : Hp} {d N S n p : Nat} {ho hw f : Nat → Nat} {Q : Option Value → Hp → Prop} (hm : SM h) (e1 : pI h 489 11 = nI n) (hn : n ≤ 12) (e5 : ∀ k, k < n → pI h 489 (38 + 6 * k + 5) = nI (ho k)) (e0 : ∀ k, k < n → pI h 489 (38 + 6 * k + 0) = nI (hw k)) (b5 : ∀ k, k < n → ho k ≤ 2) (b0 : ∀ k, k < n → hw k ≤ 5) (hp5 : p ≤ 5) (hf : f = fun k => if ho k = 0 ∧ hw k = p then 1 else 0) (hd : 3 ≤ d) (hN : pn h ≤ N) (hS : ps h ≤ S) (hQ : Q (some (.int (nI (sumF f n)))) h) : ∀ r i : Nat, i + r = n → T d N S mX9_openOf 4 [some (.ref 488), some (.int (nI p)), some (.int (nI (sumF f i))), some (.int (nI i))] [] h Q := by
  intro r
  induction r with
  | zero =>
    intro i hi
    have e : i = n := by omega
    rw [e]
    refine z_iload_n dX9_openOf_4 rfl rfl ?_
    refine z_aload_n dX9_openOf_5 rfl rfl ?_
    refine y_getR FX9_7 dX9_openOf_6 rfl hm.o hm.f_a ?_
    refine z_bipush (v := 11) dX9_openOf_9 (by decide) ?_
    refine y_ialN (11) dX9_openOf_11 hm.A_a (Nat.le_of_ble_eq_true rfl) (by first | rfl | (simp only [← nI_add, ← pk_mul]; rfl)) (by omega) ?_
    refine z_eqi (y := nI (n)) e1 ?_
    refine z_icmp_ge dX9_openOf_12 rfl (fun _ => ?_) (fun c => absurd ((nI_leI (by omega) (by omega)).mpr (Nat.le_refl _)) c)
    refine z_iload_n dX9_openOf_47 rfl rfl ?_
    refine z_iret dX9_openOf_48 ?_
    exact hQ
  | succ r ih =>
    intro i hi
    have h5 := b5 i (by omega)
    have h0 := b0 i (by omega)
    by_cases q5 : ho i = 0
    · by_cases q0 : hw i = p
      · have en : sumF f (i + 1) = sumF f i + 1 := by rw [sumF_s, hf]; simp [q5, q0]
        refine z_iload_n dX9_openOf_4 rfl rfl ?_
        refine z_aload_n dX9_openOf_5 rfl rfl ?_
        refine y_getR FX9_7 dX9_openOf_6 rfl hm.o hm.f_a ?_
        refine z_bipush (v := 11) dX9_openOf_9 (by decide) ?_
        refine y_ialN (11) dX9_openOf_11 hm.A_a (Nat.le_of_ble_eq_true rfl) (by first | rfl | (simp only [← nI_add, ← pk_mul]; rfl)) (by omega) ?_
        refine z_eqi (y := nI (n)) e1 ?_
        refine z_icmp_ge dX9_openOf_12 rfl (fun c => absurd c (fun q => absurd ((nI_leI (by omega) (by omega)).mp q) (by omega))) (fun _ => ?_)
        refine z_iload_n dX9_openOf_15 rfl rfl ?_
        refine z_aload_n dX9_openOf_16 rfl rfl ?_
        refine z_iload_n dX9_openOf_17 rfl rfl ?_
        refine y_callV (as := [_]) CX9_isOpen LX9_353 IX9_isOpen VX9_isOpen ⟨rfl, Nat.le_of_ble_eq_true rfl⟩ dX9_openOf_18 hm.o rfl (Nat.le_of_ble_eq_true rfl) (Nat.le_of_ble_eq_true rfl) (by omega) (r_isOpenN (d := 2) (by exact hm) e1 hn (k := i) (by omega) (Nat.le_refl _)) (rok_z bI_01) ⟨Nat.le_refl _, Nat.le_refl _, hN, hS⟩ ?_
        rw [e5 i (by omega)]
        refine z_if_eq dX9_openOf_21 rfl (fun c => absurd c (bI_ne0.mpr (by rw [q5]; rfl))) (fun _ => ?_)
        refine z_aload_n dX9_openOf_24 rfl rfl ?_
        refine z_iload_n dX9_openOf_25 rfl rfl ?_
        refine z_iconst (v := 0) dX9_openOf_26 (by decide) ?_
        refine y_callV (as := [_, _]) CX9_got LX9_67 IX9_got VX9_got ⟨rfl, Nat.le_of_ble_eq_true rfl⟩ dX9_openOf_27 hm.o rfl (Nat.le_of_ble_eq_true rfl) (Nat.le_of_ble_eq_true rfl) (by omega) (r_got (by exact hm) (j := i) (w := 0) (by omega) (by omega)) rok_i ⟨Nat.le_refl _, Nat.le_refl _, hN, hS⟩ ?_
        refine z_eqi (e0 i (by omega)) ?_
        refine z_iload_n dX9_openOf_30 rfl rfl ?_
        refine z_icmp_ne dX9_openOf_31 rfl (fun c => absurd (by rw [q0]) c) (fun _ => ?_)
        refine z_iconst (v := 1) dX9_openOf_34 (by decide) ?_
        refine z_goto dX9_openOf_35 rfl ?_
        refine z_iadd dX9_openOf_39 ?_
        refine z_eqi (nI_1 _) ?_
        refine z_istore_n dX9_openOf_40 rfl (Nat.le_of_ble_eq_true rfl) ?_
        refine z_iinc dX9_openOf_41 rfl (nI_1 _) (Nat.le_of_ble_eq_true rfl) ?_
        refine z_goto dX9_openOf_44 rfl ?_
        have hh := ih (i + 1) (by omega)
        rw [en] at hh
        exact hh
      · have en : sumF f (i + 1) = sumF f i + 0 := by rw [sumF_s, hf]; simp [q0]
        refine z_iload_n dX9_openOf_4 rfl rfl ?_
        refine z_aload_n dX9_openOf_5 rfl rfl ?_
        refine y_getR FX9_7 dX9_openOf_6 rfl hm.o hm.f_a ?_
        refine z_bipush (v := 11) dX9_openOf_9 (by decide) ?_
        refine y_ialN (11) dX9_openOf_11 hm.A_a (Nat.le_of_ble_eq_true rfl) (by first | rfl | (simp only [← nI_add, ← pk_mul]; rfl)) (by omega) ?_
        refine z_eqi (y := nI (n)) e1 ?_
        refine z_icmp_ge dX9_openOf_12 rfl (fun c => absurd c (fun q => absurd ((nI_leI (by omega) (by omega)).mp q) (by omega))) (fun _ => ?_)
        refine z_iload_n dX9_openOf_15 rfl rfl ?_
        refine z_aload_n dX9_openOf_16 rfl rfl ?_
        refine z_iload_n dX9_openOf_17 rfl rfl ?_
        refine y_callV (as := [_]) CX9_isOpen LX9_353 IX9_isOpen VX9_isOpen ⟨rfl, Nat.le_of_ble_eq_true rfl⟩ dX9_openOf_18 hm.o rfl (Nat.le_of_ble_eq_true rfl) (Nat.le_of_ble_eq_true rfl) (by omega) (r_isOpenN (d := 2) (by exact hm) e1 hn (k := i) (by omega) (Nat.le_refl _)) (rok_z bI_01) ⟨Nat.le_refl _, Nat.le_refl _, hN, hS⟩ ?_
        rw [e5 i (by omega)]
        refine z_if_eq dX9_openOf_21 rfl (fun c => absurd c (bI_ne0.mpr (by rw [q5]; rfl))) (fun _ => ?_)
        refine z_aload_n dX9_openOf_24 rfl rfl ?_
        refine z_iload_n dX9_openOf_25 rfl rfl ?_
        refine z_iconst (v := 0) dX9_openOf_26 (by decide) ?_
        refine y_callV (as := [_, _]) CX9_got LX9_67 IX9_got VX9_got ⟨rfl, Nat.le_of_ble_eq_true rfl⟩ dX9_openOf_27 hm.o rfl (Nat.le_of_ble_eq_true rfl) (Nat.le_of_ble_eq_true rfl) (by omega) (r_got (by exact hm) (j := i) (w := 0) (by omega) (by omega)) rok_i ⟨Nat.le_refl _, Nat.le_refl _, hN, hS⟩ ?_
        refine z_eqi (e0 i (by omega)) ?_
        refine z_iload_n dX9_openOf_30 rfl rfl ?_
        refine z_icmp_ne dX9_openOf_31 rfl (fun _ => ?_) (fun c => absurd c (fun q => q0 ((nI_eq (by omega) (by omega)).mp q)))
        refine z_iconst (v := 0) dX9_openOf_38 (by decide) ?_
        refine z_iadd dX9_openOf_39 ?_
        refine z_eqi (nI_add _ 0) ?_
        refine z_istore_n dX9_openOf_40 rfl (Nat.le_of_ble_eq_true rfl) ?_
        refine z_iinc dX9_openOf_41 rfl (nI_1 _) (Nat.le_of_ble_eq_true rfl) ?_
        refine z_goto dX9_openOf_44 rfl ?_
        have hh := ih (i + 1) (by omega)
        rw [en] at hh
        exact hh
    · have en : sumF f (i + 1) = sumF f i + 0 := by rw [sumF_s, hf]; simp [q5]
      refine z_iload_n dX9_openOf_4 rfl rfl ?_
      refine z_aload_n dX9_openOf_5 rfl rfl ?_
      refine y_getR FX9_7 dX9_openOf_6 rfl hm.o hm.f_a ?_
      refine z_bipush (v := 11) dX9_openOf_9 (by decide) ?_
      refine y_ialN (11) dX9_openOf_11 hm.A_a (Nat.le_of_ble_eq_true rfl) (by first | rfl | (simp only [← nI_add, ← pk_mul]; rfl)) (by omega) ?_
      refine z_eqi (y := nI (n)) e1 ?_
      refine z_icmp_ge dX9_openOf_12 rfl (fun c => absurd c (fun q => absurd ((nI_leI (by omega) (by omega)).mp q) (by omega))) (fun _ => ?_)
      refine z_iload_n dX9_openOf_15 rfl rfl ?_
      refine z_aload_n dX9_openOf_16 rfl rfl ?_
      refine z_iload_n dX9_openOf_17 rfl rfl ?_
      refine y_callV (as := [_]) CX9_isOpen LX9_353 IX9_isOpen VX9_isOpen ⟨rfl, Nat.le_of_ble_eq_true rfl⟩ dX9_openOf_18 hm.o rfl (Nat.le_of_ble_eq_true rfl) (Nat.le_of_ble_eq_true rfl) (by omega) (r_isOpenN (d := 2) (by exact hm) e1 hn (k := i) (by omega) (Nat.le_refl _)) (rok_z bI_01) ⟨Nat.le_refl _, Nat.le_refl _, hN, hS⟩ ?_
      rw [e5 i (by omega)]
      refine z_if_eq dX9_openOf_21 rfl (fun _ => ?_) (fun c => absurd (bI_eq0.mpr (fun q => q5 ((nI_eq (b := 0) (by omega) (by omega)).mp q))) c)
      refine z_iconst (v := 0) dX9_openOf_38 (by decide) ?_
      refine z_iadd dX9_openOf_39 ?_
      refine z_eqi (nI_add _ 0) ?_
      refine z_istore_n dX9_openOf_40 rfl (Nat.le_of_ble_eq_true rfl) ?_
      refine z_iinc dX9_openOf_41 rfl (nI_1 _) (Nat.le_of_ble_eq_true rfl) ?_
      refine z_goto dX9_openOf_44 rfl ?_
      have hh := ih (i + 1) (by omega)
      rw [en] at hh
      exact hh

theorem r_openOf {s : Ms} {h : Hp} {d : Nat} (hr : RM s h) (hv : IC s.1) (hp : IP s.1) (hq : IQ s.1) {p : Nat} (hp5 : p ≤ 5) (hd : 3 ≤ d) : Sp d mX9_openOf [.ref 488, .int (nI p)] h (some (.int (nI (opn s.1 p (s.1 11))))) h := by
  intro N S Q hN hS hQ
  have hm := hr.m
  have e1 : pI h 489 11 = nI (s.1 11) := hr.at (by omega) (by omega)
  have v1 := hv.2.1
  have v11 := hv.2.2.2.2.2.2.2.2.2.2.2.1
  refine z_iconst (v := 0) dX9_openOf_0 (by decide) ?_
  refine z_istore_n dX9_openOf_1 rfl (Nat.le_of_ble_eq_true rfl) ?_
  refine z_iconst (v := 0) dX9_openOf_2 (by decide) ?_
  refine z_istore_n dX9_openOf_3 rfl (Nat.le_of_ble_eq_true rfl) ?_
  exact r_openOf_loop (ho := fun k => s.1 (38 + 6 * k + 5)) (hw := fun k => s.1 (38 + 6 * k + 0)) hm e1 v11 (fun k q => hr.at (by omega) (by omega)) (fun k q => hr.at (by omega) (by omega)) (fun k q => (hq k q).2.2.2.2.2.2) (fun k q => by have := (hq k q).1; omega) hp5 rfl hd hN hS hQ (s.1 11) 0 (by omega)

