/-! least acts, what would stop all: the reference (walks by program: wip/whole/gen83.py) -/
theorem cT_s (r : Nat) : cT (r + 1) = nI r := if_neg (by omega)
theorem cT_dec (r : Nat) : nI r + Int32.ofInt (-1) = cT r := by
  cases r with
  | zero => decide
  | succ r =>
    rw [cT_s, ← nI_1, Int32.add_assoc, show (1 : Int32) + Int32.ofInt (-1) = 0 by decide, Int32.add_zero]
theorem sb_lt {a b : Nat} (ha : a < 2 ^ 30) (hb : b < 2 ^ 30) : nI a - nI b < 0 ↔ a < b := by
  rw [Int32.lt_iff_toInt_lt, pk_sub_toInt ha hb, show (0 : Int32).toInt = 0 from rfl]
  omega
theorem sb_eq {a b : Nat} (ha : a < 2 ^ 30) (hb : b < 2 ^ 30) : nI a - nI b = 0 ↔ a = b := by
  rw [← Int32.toInt_inj, pk_sub_toInt ha hb, show (0 : Int32).toInt = 0 from rfl]
  omega
theorem pcn8 : ∀ n, n < 256 → pcn n ≤ 8 := by decide +kernel
theorem bcn_top {p n : Nat} (h : p < 2 ^ n) (hn : n ≤ 12) : bcn p n = pcn p := by
  have L : ∀ j, n + j ≤ 12 → bcn p (n + j) = bcn p n := by
    intro j
    induction j with
    | zero => intro _; rfl
    | succ j ih =>
      intro hj
      rw [show n + (j + 1) = n + j + 1 by omega, bcn_s, ih (by omega), bit_hi h (by omega), if_neg (by decide)]
      rfl
  have := L (12 - n) (by omega)
  rw [show n + (12 - n) = 12 by omega] at this
  exact this.symm
theorem le_pred1 {x : Int32} {n : Nat} (hn : n < 2 ^ 31) : (1 ≤ x ∧ x ≤ nI n - 1) ↔ (1 ≤ x ∧ x < nI n) := by
  constructor
  · rintro ⟨h1, h2⟩
    exact ⟨h1, ((le_pred hn).mp ⟨Int32.le_trans (by decide) h1, h2⟩).2⟩
  · rintro ⟨h1, h2⟩
    exact ⟨h1, ((le_pred hn).mpr ⟨Int32.le_trans (by decide) h1, h2⟩).2⟩

theorem r_areOpen_loop {s : Ms} {h : Hp} {d N S : Nat} {Q : Option Value → Hp → Prop} (hr : RM s h) (hv : IC s.1) (hW : IW (s.1 0) (snap s.1)) {q : Nat} (hq : q < 2 ^ 31) (hN : pn h ≤ N) (hS : ps h ≤ S) (hd : 3 ≤ d) (hQ : Q (some (.int (bI (∀ k, k < s.1 11 → q.testBit k = true → snap s.1 (pcx k 5) = 0)))) h) : ∀ r i, i + r = s.1 11 → (∀ k, k < i → q.testBit k = true → snap s.1 (pcx k 5) = 0) → T d N S mX9_areOpen 23 [some (.ref 488), some (.int (nI q)), some (.int (nI i))] [] h Q := by
  have hm := hr.m
  have v0 := hv.1
  have v11 := hv.2.2.2.2.2.2.2.2.2.2.2.1
  intro r
  induction r with
  | zero =>
    intro i hi hb
    have e : i = s.1 11 := by omega
    subst e
    rw [bI_t hb] at hQ
    refine z_iload_n dX9_areOpen_23 rfl rfl ?_
    refine z_aload_n dX9_areOpen_24 rfl rfl ?_
    refine y_getR FX9_7 dX9_areOpen_25 rfl hm.o hm.f_a ?_
    refine z_bipush (v := 11) dX9_areOpen_28 (by decide) ?_
    refine y_ialN (11) dX9_areOpen_30 hm.A_a (Nat.le_of_ble_eq_true rfl) (rfl) (by omega) ?_
    refine z_eqi (show _ = nI (s.1 11) from hr.at (by omega) (by omega)) ?_
    refine z_icmp_ge dX9_areOpen_31 rfl (fun _ => ?_) (fun c => absurd (Int32.le_refl _) c)
    refine z_iconst (v := 1) dX9_areOpen_58 (by decide) ?_
    refine z_iret dX9_areOpen_59 ?_
    exact hQ
  | succ r ih =>
    intro i hi hb
    by_cases hbit : q.testBit i = true
    · by_cases ho : snap s.1 (pcx i 5) = 0
      · have hoo : opnW (snap s.1) (nI i) := ⟨(vin_nI (by omega) (by show s.1 11 < _; omega)).mpr (show i < s.1 11 by omega), by rw [nn_nI (by omega)]; exact ho⟩
        refine z_iload_n dX9_areOpen_23 rfl rfl ?_
        refine z_aload_n dX9_areOpen_24 rfl rfl ?_
        refine y_getR FX9_7 dX9_areOpen_25 rfl hm.o hm.f_a ?_
        refine z_bipush (v := 11) dX9_areOpen_28 (by decide) ?_
        refine y_ialN (11) dX9_areOpen_30 hm.A_a (Nat.le_of_ble_eq_true rfl) (rfl) (by omega) ?_
        refine z_eqi (show _ = nI (s.1 11) from hr.at (by omega) (by omega)) ?_
        refine z_icmp_ge dX9_areOpen_31 rfl (fun c => absurd c (fun q => absurd ((nI_leI (by omega) (by omega)).mp q) (by omega))) (fun _ => ?_)
        refine z_iload_n dX9_areOpen_34 rfl rfl ?_
        refine z_iload_n dX9_areOpen_35 rfl rfl ?_
        refine y_callS (as := [_, _]) CX9_has LX9_261 SX9_has dX9_areOpen_36 rfl (Nat.le_of_ble_eq_true rfl) (Nat.le_of_ble_eq_true rfl) (by omega) (r_has (n := q) (k := i) (by omega) hq) (rok_z bI_01) ⟨Nat.le_refl _, Nat.le_refl _, hN, hS⟩ ?_
        refine z_if_eq dX9_areOpen_39 rfl (fun c => absurd c (bI_ne0.mpr hbit)) (fun _ => ?_)
        refine z_aload_n dX9_areOpen_42 rfl rfl ?_
        refine z_iload_n dX9_areOpen_43 rfl rfl ?_
        refine y_callV (as := [_]) CX9_isOpen LX9_353 IX9_isOpen VX9_isOpen ⟨rfl, Nat.le_of_ble_eq_true rfl⟩ dX9_areOpen_44 hm.o rfl (Nat.le_of_ble_eq_true rfl) (Nat.le_of_ble_eq_true rfl) (by omega) (r_isOpenW hr.un.n.1 (show snap s.1 4 ≤ 12 from v11) (fun k hk => (hW.2.2.1 k hk).2.2.2.2.2.2) (nI i) (by omega)) (rok_z bI_01) ⟨Nat.le_refl _, Nat.le_refl _, hN, hS⟩ ?_
        refine z_if_ne dX9_areOpen_47 rfl (fun _ => ?_) (fun c => absurd c (bI_ne0.mpr hoo))
        refine z_iinc dX9_areOpen_52 rfl (nI_1 _) (Nat.le_of_ble_eq_true rfl) ?_
        refine z_goto dX9_areOpen_55 rfl ?_
        refine ih (i + 1) (by omega) (fun k hk hp => ?_)
        by_cases e : k = i
        · rw [e]; exact ho
        · exact hb k (by omega) hp
      · have hoo : ¬ opnW (snap s.1) (nI i) := fun c => ho (by have := c.2; rw [nn_nI (by omega)] at this; exact this)
        rw [bI_f (fun c => ho (c i (by omega) hbit))] at hQ
        refine z_iload_n dX9_areOpen_23 rfl rfl ?_
        refine z_aload_n dX9_areOpen_24 rfl rfl ?_
        refine y_getR FX9_7 dX9_areOpen_25 rfl hm.o hm.f_a ?_
        refine z_bipush (v := 11) dX9_areOpen_28 (by decide) ?_
        refine y_ialN (11) dX9_areOpen_30 hm.A_a (Nat.le_of_ble_eq_true rfl) (rfl) (by omega) ?_
        refine z_eqi (show _ = nI (s.1 11) from hr.at (by omega) (by omega)) ?_
        refine z_icmp_ge dX9_areOpen_31 rfl (fun c => absurd c (fun q => absurd ((nI_leI (by omega) (by omega)).mp q) (by omega))) (fun _ => ?_)
        refine z_iload_n dX9_areOpen_34 rfl rfl ?_
        refine z_iload_n dX9_areOpen_35 rfl rfl ?_
        refine y_callS (as := [_, _]) CX9_has LX9_261 SX9_has dX9_areOpen_36 rfl (Nat.le_of_ble_eq_true rfl) (Nat.le_of_ble_eq_true rfl) (by omega) (r_has (n := q) (k := i) (by omega) hq) (rok_z bI_01) ⟨Nat.le_refl _, Nat.le_refl _, hN, hS⟩ ?_
        refine z_if_eq dX9_areOpen_39 rfl (fun c => absurd c (bI_ne0.mpr hbit)) (fun _ => ?_)
        refine z_aload_n dX9_areOpen_42 rfl rfl ?_
        refine z_iload_n dX9_areOpen_43 rfl rfl ?_
        refine y_callV (as := [_]) CX9_isOpen LX9_353 IX9_isOpen VX9_isOpen ⟨rfl, Nat.le_of_ble_eq_true rfl⟩ dX9_areOpen_44 hm.o rfl (Nat.le_of_ble_eq_true rfl) (Nat.le_of_ble_eq_true rfl) (by omega) (r_isOpenW hr.un.n.1 (show snap s.1 4 ≤ 12 from v11) (fun k hk => (hW.2.2.1 k hk).2.2.2.2.2.2) (nI i) (by omega)) (rok_z bI_01) ⟨Nat.le_refl _, Nat.le_refl _, hN, hS⟩ ?_
        refine z_if_ne dX9_areOpen_47 rfl (fun c => absurd (bI_eq0.mpr hoo) c) (fun _ => ?_)
        refine z_iconst (v := 0) dX9_areOpen_50 (by decide) ?_
        refine z_iret dX9_areOpen_51 ?_
        exact hQ
    · skip
      refine z_iload_n dX9_areOpen_23 rfl rfl ?_
      refine z_aload_n dX9_areOpen_24 rfl rfl ?_
      refine y_getR FX9_7 dX9_areOpen_25 rfl hm.o hm.f_a ?_
      refine z_bipush (v := 11) dX9_areOpen_28 (by decide) ?_
      refine y_ialN (11) dX9_areOpen_30 hm.A_a (Nat.le_of_ble_eq_true rfl) (rfl) (by omega) ?_
      refine z_eqi (show _ = nI (s.1 11) from hr.at (by omega) (by omega)) ?_
      refine z_icmp_ge dX9_areOpen_31 rfl (fun c => absurd c (fun q => absurd ((nI_leI (by omega) (by omega)).mp q) (by omega))) (fun _ => ?_)
      refine z_iload_n dX9_areOpen_34 rfl rfl ?_
      refine z_iload_n dX9_areOpen_35 rfl rfl ?_
      refine y_callS (as := [_, _]) CX9_has LX9_261 SX9_has dX9_areOpen_36 rfl (Nat.le_of_ble_eq_true rfl) (Nat.le_of_ble_eq_true rfl) (by omega) (r_has (n := q) (k := i) (by omega) hq) (rok_z bI_01) ⟨Nat.le_refl _, Nat.le_refl _, hN, hS⟩ ?_
      refine z_if_eq dX9_areOpen_39 rfl (fun _ => ?_) (fun c => absurd (bI_eq0.mpr hbit) c)
      refine z_iinc dX9_areOpen_52 rfl (nI_1 _) (Nat.le_of_ble_eq_true rfl) ?_
      refine z_goto dX9_areOpen_55 rfl ?_
      refine ih (i + 1) (by omega) (fun k hk hp => ?_)
      by_cases e : k = i
      · rw [e] at hp; exact absurd hp hbit
      · exact hb k (by omega) hp

theorem r_areOpen {s : Ms} {h : Hp} {d : Nat} (hr : RM s h) (hv : IC s.1) (hW : IW (s.1 0) (snap s.1)) (p : Int32) (hd : 3 ≤ d) : Sp d mX9_areOpen [.ref 488, .int p] h (some (.int (bI (okP s.1 p)))) h := by
  have hm := hr.m
  have v0 := hv.1
  have v11 := hv.2.2.2.2.2.2.2.2.2.2.2.1
  have p12 : 2 ^ s.1 11 ≤ 2 ^ 12 := Nat.pow_le_pow_right (by omega) v11
  intro N S Q hN hS hQ
  by_cases h1 : 1 ≤ p ∧ p < nI (2 ^ s.1 11)
  · have h1' := (le_pred1 (n := 2 ^ s.1 11) (by omega)).mpr h1
    obtain ⟨q, hq, rfl⟩ := vin_of (n := 2 ^ s.1 11) (x := p) (by omega) ⟨Int32.le_trans (by decide) h1.1, h1.2⟩
    have hQ2 : Q (some (.int (bI (∀ k, k < s.1 11 → q.testBit k = true → snap s.1 (pcx k 5) = 0)))) h := by
      have e : okP s.1 (nI q) ↔ (∀ k, k < s.1 11 → q.testBit k = true → snap s.1 (pcx k 5) = 0) := by
        unfold okP
        rw [nn_nI (by omega)]
        exact ⟨fun c => c.2, fun c => ⟨h1, c⟩⟩
      rw [← bI_congr e]
      exact hQ
    refine z_iload_n dX9_areOpen_0 rfl rfl ?_
    refine z_iconst (v := 1) dX9_areOpen_1 (by decide) ?_
    refine z_iconst (v := 1) dX9_areOpen_2 (by decide) ?_
    refine z_aload_n dX9_areOpen_3 rfl rfl ?_
    refine y_getR FX9_7 dX9_areOpen_4 rfl hm.o hm.f_a ?_
    refine z_bipush (v := 11) dX9_areOpen_7 (by decide) ?_
    refine y_ialN (11) dX9_areOpen_9 hm.A_a (Nat.le_of_ble_eq_true rfl) (rfl) (by omega) ?_
    refine z_eqi (show _ = nI (s.1 11) from hr.at (by omega) (by omega)) ?_
    refine z_ishl dX9_areOpen_10 ?_
    refine z_eqi (nI_bit (show s.1 11 < 31 by omega)) ?_
    refine z_iconst (v := 1) dX9_areOpen_11 (by decide) ?_
    refine z_isub dX9_areOpen_12 ?_
    refine y_callS (as := [_, _, _]) CX9_isIn LX9_63 SX9_isIn dX9_areOpen_13 rfl (Nat.le_of_ble_eq_true rfl) (Nat.le_of_ble_eq_true rfl) (by omega) (r_isIn _ _ _) (rok_z bI_01) ⟨Nat.le_refl _, Nat.le_refl _, hN, hS⟩ ?_
    refine z_if_ne dX9_areOpen_16 rfl (fun _ => ?_) (fun c => absurd c (bI_ne0.mpr h1'))
    refine z_iconst (v := 0) dX9_areOpen_21 (by decide) ?_
    refine z_istore_n dX9_areOpen_22 rfl (Nat.le_of_ble_eq_true rfl) ?_
    exact r_areOpen_loop hr hv hW (by omega) hN hS hd hQ2 (s.1 11) 0 (by omega) (fun k hk => by omega)
  · rw [bI_f (fun c => h1 c.1)] at hQ
    refine z_iload_n dX9_areOpen_0 rfl rfl ?_
    refine z_iconst (v := 1) dX9_areOpen_1 (by decide) ?_
    refine z_iconst (v := 1) dX9_areOpen_2 (by decide) ?_
    refine z_aload_n dX9_areOpen_3 rfl rfl ?_
    refine y_getR FX9_7 dX9_areOpen_4 rfl hm.o hm.f_a ?_
    refine z_bipush (v := 11) dX9_areOpen_7 (by decide) ?_
    refine y_ialN (11) dX9_areOpen_9 hm.A_a (Nat.le_of_ble_eq_true rfl) (rfl) (by omega) ?_
    refine z_eqi (show _ = nI (s.1 11) from hr.at (by omega) (by omega)) ?_
    refine z_ishl dX9_areOpen_10 ?_
    refine z_eqi (nI_bit (show s.1 11 < 31 by omega)) ?_
    refine z_iconst (v := 1) dX9_areOpen_11 (by decide) ?_
    refine z_isub dX9_areOpen_12 ?_
    refine y_callS (as := [_, _, _]) CX9_isIn LX9_63 SX9_isIn dX9_areOpen_13 rfl (Nat.le_of_ble_eq_true rfl) (Nat.le_of_ble_eq_true rfl) (by omega) (r_isIn _ _ _) (rok_z bI_01) ⟨Nat.le_refl _, Nat.le_refl _, hN, hS⟩ ?_
    refine z_if_ne dX9_areOpen_16 rfl (fun c => absurd (bI_eq0.mpr (fun c => h1 ((le_pred1 (by omega)).mp c))) c) (fun _ => ?_)
    refine z_iconst (v := 0) dX9_areOpen_19 (by decide) ?_
    refine z_iret dX9_areOpen_20 ?_
    exact hQ

theorem r_soAmong_loop {s : Ms} {h : Hp} {d N S : Nat} {Q : Option Value → Hp → Prop} (hr : RM s h) (hv : IC s.1) (hW : IW (s.1 0) (snap s.1)) {p g : Nat} (hp : p < 4096) (hg : g < 256) (hN : pn h ≤ N) (hS : ps h ≤ S) (hd : 2 ≤ d) (hQ : Q (some (.int (nI (soA (snap s.1) p g (s.1 11))))) h) : ∀ r i, i + r = s.1 11 → T d N S mX9_soAmong 5 [some (.ref 488), some (.int (nI p)), some (.int (nI g)), some (.int (nI (soA (snap s.1) p g i))), some (.int (nI i))] [] h Q := by
  have hm := hr.m
  have v0 := hv.1
  have v11 := hv.2.2.2.2.2.2.2.2.2.2.2.1
  have p8 : 2 ^ s.1 0 ≤ 2 ^ 8 := Nat.pow_le_pow_right (by omega) v0
  intro r
  induction r with
  | zero =>
    intro i hi
    have e : i = s.1 11 := by omega
    subst e
    refine z_iload dX9_soAmong_5 rfl ?_
    refine z_aload_n dX9_soAmong_7 rfl rfl ?_
    refine y_getR FX9_7 dX9_soAmong_8 rfl hm.o hm.f_a ?_
    refine z_bipush (v := 11) dX9_soAmong_11 (by decide) ?_
    refine y_ialN (11) dX9_soAmong_13 hm.A_a (Nat.le_of_ble_eq_true rfl) (rfl) (by omega) ?_
    refine z_eqi (show _ = nI (s.1 11) from hr.at (by omega) (by omega)) ?_
    refine z_icmp_ge dX9_soAmong_14 rfl (fun _ => ?_) (fun c => absurd (Int32.le_refl _) c)
    refine z_iload_n dX9_soAmong_50 rfl rfl ?_
    refine z_iret dX9_soAmong_51 ?_
    exact hQ
  | succ r ih =>
    intro i hi
    have cc := hW.2.2.1 i (show i < s.1 11 by omega)
    have c1 := cc.2.1
    have c2 := cc.2.2.2.1
    by_cases hbit : p.testBit i = true
    · by_cases ho : hld (snap s.1) i g = true
      · have e : soA (snap s.1) p g (i + 1) = (soA (snap s.1) p g i) + 1 := by
          show _ + (if _ then _ else _) = _
          rw [if_pos ⟨hbit, ho⟩]
        refine z_iload dX9_soAmong_5 rfl ?_
        refine z_aload_n dX9_soAmong_7 rfl rfl ?_
        refine y_getR FX9_7 dX9_soAmong_8 rfl hm.o hm.f_a ?_
        refine z_bipush (v := 11) dX9_soAmong_11 (by decide) ?_
        refine y_ialN (11) dX9_soAmong_13 hm.A_a (Nat.le_of_ble_eq_true rfl) (rfl) (by omega) ?_
        refine z_eqi (show _ = nI (s.1 11) from hr.at (by omega) (by omega)) ?_
        refine z_icmp_ge dX9_soAmong_14 rfl (fun c => absurd c (fun q => absurd ((nI_leI (by omega) (by omega)).mp q) (by omega))) (fun _ => ?_)
        refine z_iload_n dX9_soAmong_17 rfl rfl ?_
        refine z_iload_n dX9_soAmong_18 rfl rfl ?_
        refine z_iload dX9_soAmong_19 rfl ?_
        refine y_callS (as := [_, _]) CX9_has LX9_261 SX9_has dX9_soAmong_21 rfl (Nat.le_of_ble_eq_true rfl) (Nat.le_of_ble_eq_true rfl) (by omega) (r_has (n := p) (k := i) (by omega) (by omega)) (rok_z bI_01) ⟨Nat.le_refl _, Nat.le_refl _, hN, hS⟩ ?_
        refine z_if_eq dX9_soAmong_24 rfl (fun c => absurd c (bI_ne0.mpr hbit)) (fun _ => ?_)
        refine z_aload_n dX9_soAmong_27 rfl rfl ?_
        refine z_iload dX9_soAmong_28 rfl ?_
        refine z_iload_n dX9_soAmong_30 rfl rfl ?_
        refine y_callV (as := [_, _]) CX9_isSoIn LX9_356 IX9_isSoIn VX9_isSoIn ⟨rfl, Nat.le_of_ble_eq_true rfl⟩ dX9_soAmong_31 hm.o rfl (Nat.le_of_ble_eq_true rfl) (Nat.le_of_ble_eq_true rfl) (by omega) (r_isSoIn (k := i) (al := snap s.1 (pcx i 1)) (f := snap s.1 (pcx i 2)) (g := g) (by exact hm) (by omega) (by rw [snap_pc (by omega) (by omega)]; exact hr.at (by omega) (by omega)) (by omega) (by rw [snap_pc (by omega) (by omega)]; exact hr.at (by omega) (by omega)) (by omega) hg (by omega)) (rok_z bI_01) ⟨Nat.le_refl _, Nat.le_refl _, hN, hS⟩ ?_
        refine z_if_eq dX9_soAmong_34 rfl (fun c => absurd c (bI_ne0.mpr ho)) (fun _ => ?_)
        refine z_iconst (v := 1) dX9_soAmong_37 (by decide) ?_
        refine z_goto dX9_soAmong_38 rfl ?_
        refine z_iadd dX9_soAmong_42 ?_
        refine z_eqi (nI_1 _) ?_
        refine z_istore_n dX9_soAmong_43 rfl (Nat.le_of_ble_eq_true rfl) ?_
        refine z_iinc dX9_soAmong_44 rfl (nI_1 _) (Nat.le_of_ble_eq_true rfl) ?_
        refine z_goto dX9_soAmong_47 rfl ?_
        have K2 := ih (i + 1) (by omega)
        rw [e] at K2
        exact K2
      · have e : soA (snap s.1) p g (i + 1) = (soA (snap s.1) p g i) + 0 := by
          show _ + (if _ then _ else _) = _
          rw [if_neg (fun c => ho c.2)]
        refine z_iload dX9_soAmong_5 rfl ?_
        refine z_aload_n dX9_soAmong_7 rfl rfl ?_
        refine y_getR FX9_7 dX9_soAmong_8 rfl hm.o hm.f_a ?_
        refine z_bipush (v := 11) dX9_soAmong_11 (by decide) ?_
        refine y_ialN (11) dX9_soAmong_13 hm.A_a (Nat.le_of_ble_eq_true rfl) (rfl) (by omega) ?_
        refine z_eqi (show _ = nI (s.1 11) from hr.at (by omega) (by omega)) ?_
        refine z_icmp_ge dX9_soAmong_14 rfl (fun c => absurd c (fun q => absurd ((nI_leI (by omega) (by omega)).mp q) (by omega))) (fun _ => ?_)
        refine z_iload_n dX9_soAmong_17 rfl rfl ?_
        refine z_iload_n dX9_soAmong_18 rfl rfl ?_
        refine z_iload dX9_soAmong_19 rfl ?_
        refine y_callS (as := [_, _]) CX9_has LX9_261 SX9_has dX9_soAmong_21 rfl (Nat.le_of_ble_eq_true rfl) (Nat.le_of_ble_eq_true rfl) (by omega) (r_has (n := p) (k := i) (by omega) (by omega)) (rok_z bI_01) ⟨Nat.le_refl _, Nat.le_refl _, hN, hS⟩ ?_
        refine z_if_eq dX9_soAmong_24 rfl (fun c => absurd c (bI_ne0.mpr hbit)) (fun _ => ?_)
        refine z_aload_n dX9_soAmong_27 rfl rfl ?_
        refine z_iload dX9_soAmong_28 rfl ?_
        refine z_iload_n dX9_soAmong_30 rfl rfl ?_
        refine y_callV (as := [_, _]) CX9_isSoIn LX9_356 IX9_isSoIn VX9_isSoIn ⟨rfl, Nat.le_of_ble_eq_true rfl⟩ dX9_soAmong_31 hm.o rfl (Nat.le_of_ble_eq_true rfl) (Nat.le_of_ble_eq_true rfl) (by omega) (r_isSoIn (k := i) (al := snap s.1 (pcx i 1)) (f := snap s.1 (pcx i 2)) (g := g) (by exact hm) (by omega) (by rw [snap_pc (by omega) (by omega)]; exact hr.at (by omega) (by omega)) (by omega) (by rw [snap_pc (by omega) (by omega)]; exact hr.at (by omega) (by omega)) (by omega) hg (by omega)) (rok_z bI_01) ⟨Nat.le_refl _, Nat.le_refl _, hN, hS⟩ ?_
        refine z_if_eq dX9_soAmong_34 rfl (fun _ => ?_) (fun c => absurd (bI_eq0.mpr ho) c)
        refine z_iconst (v := 0) dX9_soAmong_41 (by decide) ?_
        refine z_iadd dX9_soAmong_42 ?_
        refine z_eqi (nI_add _ 0) ?_
        refine z_istore_n dX9_soAmong_43 rfl (Nat.le_of_ble_eq_true rfl) ?_
        refine z_iinc dX9_soAmong_44 rfl (nI_1 _) (Nat.le_of_ble_eq_true rfl) ?_
        refine z_goto dX9_soAmong_47 rfl ?_
        have K2 := ih (i + 1) (by omega)
        rw [e] at K2
        exact K2
    · have e : soA (snap s.1) p g (i + 1) = (soA (snap s.1) p g i) + 0 := by
        show _ + (if _ then _ else _) = _
        rw [if_neg (fun c => hbit c.1)]
      refine z_iload dX9_soAmong_5 rfl ?_
      refine z_aload_n dX9_soAmong_7 rfl rfl ?_
      refine y_getR FX9_7 dX9_soAmong_8 rfl hm.o hm.f_a ?_
      refine z_bipush (v := 11) dX9_soAmong_11 (by decide) ?_
      refine y_ialN (11) dX9_soAmong_13 hm.A_a (Nat.le_of_ble_eq_true rfl) (rfl) (by omega) ?_
      refine z_eqi (show _ = nI (s.1 11) from hr.at (by omega) (by omega)) ?_
      refine z_icmp_ge dX9_soAmong_14 rfl (fun c => absurd c (fun q => absurd ((nI_leI (by omega) (by omega)).mp q) (by omega))) (fun _ => ?_)
      refine z_iload_n dX9_soAmong_17 rfl rfl ?_
      refine z_iload_n dX9_soAmong_18 rfl rfl ?_
      refine z_iload dX9_soAmong_19 rfl ?_
      refine y_callS (as := [_, _]) CX9_has LX9_261 SX9_has dX9_soAmong_21 rfl (Nat.le_of_ble_eq_true rfl) (Nat.le_of_ble_eq_true rfl) (by omega) (r_has (n := p) (k := i) (by omega) (by omega)) (rok_z bI_01) ⟨Nat.le_refl _, Nat.le_refl _, hN, hS⟩ ?_
      refine z_if_eq dX9_soAmong_24 rfl (fun _ => ?_) (fun c => absurd (bI_eq0.mpr hbit) c)
      refine z_iconst (v := 0) dX9_soAmong_41 (by decide) ?_
      refine z_iadd dX9_soAmong_42 ?_
      refine z_eqi (nI_add _ 0) ?_
      refine z_istore_n dX9_soAmong_43 rfl (Nat.le_of_ble_eq_true rfl) ?_
      refine z_iinc dX9_soAmong_44 rfl (nI_1 _) (Nat.le_of_ble_eq_true rfl) ?_
      refine z_goto dX9_soAmong_47 rfl ?_
      have K2 := ih (i + 1) (by omega)
      rw [e] at K2
      exact K2
theorem r_soAmong {s : Ms} {h : Hp} {d : Nat} (hr : RM s h) (hv : IC s.1) (hW : IW (s.1 0) (snap s.1)) {p g : Nat} (hp : p < 4096) (hg : g < 256) (hd : 2 ≤ d) : Sp d mX9_soAmong [.ref 488, .int (nI p), .int (nI g)] h (some (.int (nI (soA (snap s.1) p g (s.1 11))))) h := by
  have hm := hr.m
  intro N S Q hN hS hQ
  refine z_iconst (v := 0) dX9_soAmong_0 (by decide) ?_
  refine z_istore_n dX9_soAmong_1 rfl (Nat.le_of_ble_eq_true rfl) ?_
  refine z_iconst (v := 0) dX9_soAmong_2 (by decide) ?_
  refine z_istore dX9_soAmong_3 (Nat.le_of_ble_eq_true rfl) ?_
  exact r_soAmong_loop hr hv hW hp hg hN hS hd hQ (s.1 11) 0 (by omega)

theorem r_costOf_loop {s : Ms} {h : Hp} {d N S : Nat} {Q : Option Value → Hp → Prop} (hr : RM s h) (hv : IC s.1) {U : Nat} (hU : U < 256) (hN : pn h ≤ N) (hS : ps h ≤ S) (hd : 1 ≤ d) (hQ : Q (some (.int (nI (cst s.1 U (s.1 0))))) h) : ∀ r i, i + r = s.1 0 → T d N S mX9_costOf 4 [some (.ref 488), some (.int (nI U)), some (.int (nI (cst s.1 U i))), some (.int (nI i))] [] h Q := by
  have hm := hr.m
  have v0 := hv.1
  intro r
  induction r with
  | zero =>
    intro i hi
    have e : i = s.1 0 := by omega
    subst e
    refine z_iload_n dX9_costOf_4 rfl rfl ?_
    refine z_aload_n dX9_costOf_5 rfl rfl ?_
    refine y_getR FX9_7 dX9_costOf_6 rfl hm.o hm.f_a ?_
    refine z_iconst (v := 0) dX9_costOf_9 (by decide) ?_
    refine y_ialN (0) dX9_costOf_10 hm.A_a (Nat.le_of_ble_eq_true rfl) (rfl) (by omega) ?_
    refine z_eqi (show _ = nI (s.1 0) from hr.at (by omega) (by omega)) ?_
    refine z_icmp_ge dX9_costOf_11 rfl (fun _ => ?_) (fun c => absurd (Int32.le_refl _) c)
    refine z_iload_n dX9_costOf_48 rfl rfl ?_
    refine z_iret dX9_costOf_49 ?_
    exact hQ
  | succ r ih =>
    intro i hi
    by_cases hbit : U.testBit i = true
    · have e : cst s.1 U (i + 1) = (cst s.1 U i) + s.1 (110 + 2 * i + 1) := by
        show _ + (if _ then _ else _) = _
        rw [if_pos hbit]
      refine z_iload_n dX9_costOf_4 rfl rfl ?_
      refine z_aload_n dX9_costOf_5 rfl rfl ?_
      refine y_getR FX9_7 dX9_costOf_6 rfl hm.o hm.f_a ?_
      refine z_iconst (v := 0) dX9_costOf_9 (by decide) ?_
      refine y_ialN (0) dX9_costOf_10 hm.A_a (Nat.le_of_ble_eq_true rfl) (rfl) (by omega) ?_
      refine z_eqi (show _ = nI (s.1 0) from hr.at (by omega) (by omega)) ?_
      refine z_icmp_ge dX9_costOf_11 rfl (fun c => absurd c (fun q => absurd ((nI_leI (by omega) (by omega)).mp q) (by omega))) (fun _ => ?_)
      refine z_iload_n dX9_costOf_14 rfl rfl ?_
      refine z_iload_n dX9_costOf_15 rfl rfl ?_
      refine z_iload_n dX9_costOf_16 rfl rfl ?_
      refine y_callS (as := [_, _]) CX9_has LX9_261 SX9_has dX9_costOf_17 rfl (Nat.le_of_ble_eq_true rfl) (Nat.le_of_ble_eq_true rfl) (by omega) (r_has (n := U) (k := i) (by omega) (by omega)) (rok_z bI_01) ⟨Nat.le_refl _, Nat.le_refl _, hN, hS⟩ ?_
      refine z_if_eq dX9_costOf_20 rfl (fun c => absurd c (bI_ne0.mpr hbit)) (fun _ => ?_)
      refine z_aload_n dX9_costOf_23 rfl rfl ?_
      refine y_getR FX9_7 dX9_costOf_24 rfl hm.o hm.f_a ?_
      refine z_bipush (v := 110) dX9_costOf_27 (by decide) ?_
      refine z_iconst (v := 2) dX9_costOf_29 (by decide) ?_
      refine z_iload_n dX9_costOf_30 rfl rfl ?_
      refine z_imul dX9_costOf_31 ?_
      refine z_iadd dX9_costOf_32 ?_
      refine z_iconst (v := 1) dX9_costOf_33 (by decide) ?_
      refine z_iadd dX9_costOf_34 ?_
      refine y_ialN (110 + 2 * i + 1) dX9_costOf_35 hm.A_a (Nat.le_of_ble_eq_true rfl) (by first | rfl | (simp only [← nI_add, ← pk_mul]; rfl)) (by omega) ?_
      refine z_eqi (show _ = nI (s.1 (110 + 2 * i + 1)) from hr.at (by omega) (by omega)) ?_
      refine z_goto dX9_costOf_36 rfl ?_
      refine z_iadd dX9_costOf_40 ?_
      refine z_eqi (nI_add _ _) ?_
      refine z_istore_n dX9_costOf_41 rfl (Nat.le_of_ble_eq_true rfl) ?_
      refine z_iinc dX9_costOf_42 rfl (nI_1 _) (Nat.le_of_ble_eq_true rfl) ?_
      refine z_goto dX9_costOf_45 rfl ?_
      have K2 := ih (i + 1) (by omega)
      rw [e] at K2
      exact K2
    · have e : cst s.1 U (i + 1) = (cst s.1 U i) + 0 := by
        show _ + (if _ then _ else _) = _
        rw [if_neg hbit]
      refine z_iload_n dX9_costOf_4 rfl rfl ?_
      refine z_aload_n dX9_costOf_5 rfl rfl ?_
      refine y_getR FX9_7 dX9_costOf_6 rfl hm.o hm.f_a ?_
      refine z_iconst (v := 0) dX9_costOf_9 (by decide) ?_
      refine y_ialN (0) dX9_costOf_10 hm.A_a (Nat.le_of_ble_eq_true rfl) (rfl) (by omega) ?_
      refine z_eqi (show _ = nI (s.1 0) from hr.at (by omega) (by omega)) ?_
      refine z_icmp_ge dX9_costOf_11 rfl (fun c => absurd c (fun q => absurd ((nI_leI (by omega) (by omega)).mp q) (by omega))) (fun _ => ?_)
      refine z_iload_n dX9_costOf_14 rfl rfl ?_
      refine z_iload_n dX9_costOf_15 rfl rfl ?_
      refine z_iload_n dX9_costOf_16 rfl rfl ?_
      refine y_callS (as := [_, _]) CX9_has LX9_261 SX9_has dX9_costOf_17 rfl (Nat.le_of_ble_eq_true rfl) (Nat.le_of_ble_eq_true rfl) (by omega) (r_has (n := U) (k := i) (by omega) (by omega)) (rok_z bI_01) ⟨Nat.le_refl _, Nat.le_refl _, hN, hS⟩ ?_
      refine z_if_eq dX9_costOf_20 rfl (fun _ => ?_) (fun c => absurd (bI_eq0.mpr hbit) c)
      refine z_iconst (v := 0) dX9_costOf_39 (by decide) ?_
      refine z_iadd dX9_costOf_40 ?_
      refine z_eqi (nI_add _ 0) ?_
      refine z_istore_n dX9_costOf_41 rfl (Nat.le_of_ble_eq_true rfl) ?_
      refine z_iinc dX9_costOf_42 rfl (nI_1 _) (Nat.le_of_ble_eq_true rfl) ?_
      refine z_goto dX9_costOf_45 rfl ?_
      have K2 := ih (i + 1) (by omega)
      rw [e] at K2
      exact K2
theorem r_costOf {s : Ms} {h : Hp} {d : Nat} (hr : RM s h) (hv : IC s.1) {U : Nat} (hU : U < 256) (hd : 1 ≤ d) : Sp d mX9_costOf [.ref 488, .int (nI U)] h (some (.int (nI (cst s.1 U (s.1 0))))) h := by
  have hm := hr.m
  intro N S Q hN hS hQ
  refine z_iconst (v := 0) dX9_costOf_0 (by decide) ?_
  refine z_istore_n dX9_costOf_1 rfl (Nat.le_of_ble_eq_true rfl) ?_
  refine z_iconst (v := 0) dX9_costOf_2 (by decide) ?_
  refine z_istore_n dX9_costOf_3 rfl (Nat.le_of_ble_eq_true rfl) ?_
  exact r_costOf_loop hr hv hU hN hS hd hQ (s.1 0) 0 (by omega)
theorem r_allFacts {s : Ms} {h : Hp} {d : Nat} (hr : RM s h) (hv : IC s.1) : Sp d mX9_allFacts [.ref 488] h (some (.int (nI (2 ^ s.1 0 - 1)))) h := by
  have hm := hr.m
  have v0 := hv.1
  have h1 : 0 < 2 ^ s.1 0 := Nat.pow_pos (by omega)
  intro N S Q hN hS hQ
  refine z_iconst (v := 1) dX9_allFacts_0 (by decide) ?_
  refine z_aload_n dX9_allFacts_1 rfl rfl ?_
  refine y_getR FX9_7 dX9_allFacts_2 rfl hm.o hm.f_a ?_
  refine z_iconst (v := 0) dX9_allFacts_5 (by decide) ?_
  refine y_ialN (0) dX9_allFacts_6 hm.A_a (Nat.le_of_ble_eq_true rfl) (rfl) (by omega) ?_
  refine z_eqi (show _ = nI (s.1 0) from hr.at (by omega) (by omega)) ?_
  refine z_ishl dX9_allFacts_7 ?_
  refine z_eqi (nI_bit (show s.1 0 < 31 by omega)) ?_
  refine z_iconst (v := 1) dX9_allFacts_8 (by decide) ?_
  refine z_isub dX9_allFacts_9 ?_
  refine z_eqi (show _ = nI (2 ^ s.1 0 - 1) from pk_sub (a := 2 ^ s.1 0) (b := 1) h1) ?_
  refine z_iret dX9_allFacts_10 ?_
  exact hQ

theorem r_least_loop {s : Ms} {h : Hp} {d N S : Nat} {Q : Option Value → Hp → Prop} (hr : RM s h) (hv : IC s.1) (hW : IW (s.1 0) (snap s.1)) (hf : IFc s.1) {p c g0 : Nat} (hp0 : p < 2 ^ s.1 11) (hN : pn h ≤ N) (hS : ps h ≤ S) (hd : 3 ≤ d) (K : ∀ x o5, T d N S mX9_least 116 [some (.ref 488), some (.int (nI p)), some (.int (nI c)), some (.int (nI g0)), some (.int x), o5] [] h Q) : ∀ r b (o5 : Option Value), r ≤ 256 → b < 256 → rFold (PL s.1 p) (wgt s.1) r b = g0 → T d N S mX9_least 28 [some (.ref 488), some (.int (nI p)), some (.int (nI c)), some (.int (nI b)), some (.int (cT r)), o5] [] h Q := by
  have hm := hr.m
  have v0 := hv.1
  have v11 := hv.2.2.2.2.2.2.2.2.2.2.2.1
  have p12 : 2 ^ s.1 11 ≤ 2 ^ 12 := Nat.pow_le_pow_right (by omega) v11
  have v10 : s.1 10 < 256 := hv.2.2.2.2.2.2.2.2.2.2.1
  have hp : p < 4096 := by omega
  intro r
  induction r with
  | zero =>
    intro b o5 hr8 hb8 hg
    have hg : b = g0 := hg
    subst hg
    refine z_iload dX9_least_28 rfl ?_
    refine z_if_lt dX9_least_30 rfl (fun _ => ?_) (fun c => absurd (by decide) c)
    exact K _ _
  | succ r ih =>
    intro b o5 hrr hb8 hg0
    have hr8 : r < 256 := by omega
    have hg : s.1 10 ||| r < 256 := Nat.or_lt_two_pow (n := 8) v10 hr8
    have hg0 : rFold (PL s.1 p) (wgt s.1) r (if PL s.1 p r = true ∧ wgt s.1 r ≤ wgt s.1 b then r else b) = g0 := hg0
    have cr := cst_le (S := r) hf (s.1 0) (Nat.le_refl _)
    have cb := cst_le (S := b) hf (s.1 0) (Nat.le_refl _)
    have pr := pcn8 r hr8
    have pb := pcn8 b hb8
    have pp := pcn_le p
    have bt := bcn_top hp0 v11
    have sl := soA_le (W := snap s.1) (p := p) (g := s.1 10 ||| r) (s.1 11)
    have sa := soA_all (W := snap s.1) (p := p) (g := s.1 10 ||| r) (s.1 11)
    rw [bt] at sl sa
    rw [cT_s]
    by_cases hz : r &&& s.1 10 = 0
    · by_cases ha : allH (snap s.1) p (s.1 10 ||| r) (s.1 11) = true
      · have hP : PL s.1 p r = true := by
          unfold PL
          rw [Bool.and_eq_true, beq_iff_eq]
          exact ⟨hz, ha⟩
        have hs := sa.mpr ha
        have D : ∀ x, x = r ∨ x = b → True := fun _ _ => trivial
        by_cases h1 : cst s.1 r (s.1 0) < cst s.1 b (s.1 0)
        · have eg : rFold (PL s.1 p) (wgt s.1) r r = g0 := by
            rw [if_pos ⟨hP, by unfold wgt; omega⟩] at hg0
            exact hg0
          refine z_iload dX9_least_28 rfl ?_
          refine z_if_lt dX9_least_30 rfl (fun c => absurd c (nI_pos (by omega))) (fun _ => ?_)
          refine z_iload dX9_least_33 rfl ?_
          refine z_aload_n dX9_least_35 rfl rfl ?_
          refine y_getR FX9_7 dX9_least_36 rfl hm.o hm.f_a ?_
          refine z_bipush (v := 10) dX9_least_39 (by decide) ?_
          refine y_ialN (10) dX9_least_41 hm.A_a (Nat.le_of_ble_eq_true rfl) (rfl) (by omega) ?_
          refine z_eqi (show _ = nI (s.1 10) from hr.at (by omega) (by omega)) ?_
          refine z_iand dX9_least_42 ?_
          refine z_eqi (nI_and r (s.1 10)) ?_
          refine z_if_ne dX9_least_43 rfl (fun c => absurd (congrArg nI hz) c) (fun _ => ?_)
          refine z_aload_n dX9_least_46 rfl rfl ?_
          refine z_iload_n dX9_least_47 rfl rfl ?_
          refine z_aload_n dX9_least_48 rfl rfl ?_
          refine y_getR FX9_7 dX9_least_49 rfl hm.o hm.f_a ?_
          refine z_bipush (v := 10) dX9_least_52 (by decide) ?_
          refine y_ialN (10) dX9_least_54 hm.A_a (Nat.le_of_ble_eq_true rfl) (rfl) (by omega) ?_
          refine z_eqi (show _ = nI (s.1 10) from hr.at (by omega) (by omega)) ?_
          refine z_iload dX9_least_55 rfl ?_
          refine z_ior dX9_least_57 ?_
          refine z_eqi (nI_or (s.1 10) r) ?_
          refine y_callV (as := [_, _]) CX9_soAmong LX9_467 IX9_soAmong VX9_soAmong ⟨rfl, Nat.le_of_ble_eq_true rfl⟩ dX9_least_58 hm.o rfl (Nat.le_of_ble_eq_true rfl) (Nat.le_of_ble_eq_true rfl) (by omega) (r_soAmong (p := p) (g := s.1 10 ||| r) hr hv hW hp hg (by omega)) rok_i ⟨Nat.le_refl _, Nat.le_refl _, hN, hS⟩ ?_
          refine z_iload_n dX9_least_61 rfl rfl ?_
          refine y_callS (as := [_]) CX9_bits LX9_310 SX9_bits dX9_least_62 rfl (Nat.le_of_ble_eq_true rfl) (Nat.le_of_ble_eq_true rfl) (by omega) (r_bits (n := p) hp) rok_i ⟨Nat.le_refl _, Nat.le_refl _, hN, hS⟩ ?_
          refine z_icmp_ge dX9_least_65 rfl (fun _ => ?_) (fun c => absurd ((nI_leI (by omega) (by omega)).mpr (by omega)) c)
          refine z_aload_n dX9_least_71 rfl rfl ?_
          refine z_iload dX9_least_72 rfl ?_
          refine y_callV (as := [_]) CX9_costOf LX9_470 IX9_costOf VX9_costOf ⟨rfl, Nat.le_of_ble_eq_true rfl⟩ dX9_least_74 hm.o rfl (Nat.le_of_ble_eq_true rfl) (Nat.le_of_ble_eq_true rfl) (by omega) (r_costOf (U := r) hr hv hr8 (by omega)) rok_i ⟨Nat.le_refl _, Nat.le_refl _, hN, hS⟩ ?_
          refine z_aload_n dX9_least_77 rfl rfl ?_
          refine z_iload_n dX9_least_78 rfl rfl ?_
          refine y_callV (as := [_]) CX9_costOf LX9_470 IX9_costOf VX9_costOf ⟨rfl, Nat.le_of_ble_eq_true rfl⟩ dX9_least_79 hm.o rfl (Nat.le_of_ble_eq_true rfl) (Nat.le_of_ble_eq_true rfl) (by omega) (r_costOf (U := b) hr hv hb8 (by omega)) rok_i ⟨Nat.le_refl _, Nat.le_refl _, hN, hS⟩ ?_
          refine z_isub dX9_least_82 ?_
          refine z_istore dX9_least_83 (Nat.le_of_ble_eq_true rfl) ?_
          refine z_iload dX9_least_85 rfl ?_
          refine z_if_lt dX9_least_87 rfl (fun _ => ?_) (fun c => absurd ((sb_lt (by omega) (by omega)).mpr h1) c)
          refine z_iload dX9_least_107 rfl ?_
          refine z_istore_n dX9_least_109 rfl (Nat.le_of_ble_eq_true rfl) ?_
          refine z_iinc dX9_least_110 rfl (cT_dec r) (Nat.le_of_ble_eq_true rfl) ?_
          refine z_goto dX9_least_113 rfl ?_
          exact ih r _ (by omega) hr8 eg
        · have l87 : ¬ nI (cst s.1 r (s.1 0)) - nI (cst s.1 b (s.1 0)) < 0 := fun q => h1 ((sb_lt (by omega) (by omega)).mp q)
          by_cases h2 : cst s.1 r (s.1 0) = cst s.1 b (s.1 0)
          · have l92 : nI (cst s.1 r (s.1 0)) - nI (cst s.1 b (s.1 0)) = 0 := (sb_eq (by omega) (by omega)).mpr h2
            by_cases h3 : pcn r ≤ pcn b
            · have eg : rFold (PL s.1 p) (wgt s.1) r r = g0 := by
                rw [if_pos ⟨hP, by unfold wgt; omega⟩] at hg0
                exact hg0
              refine z_iload dX9_least_28 rfl ?_
              refine z_if_lt dX9_least_30 rfl (fun c => absurd c (nI_pos (by omega))) (fun _ => ?_)
              refine z_iload dX9_least_33 rfl ?_
              refine z_aload_n dX9_least_35 rfl rfl ?_
              refine y_getR FX9_7 dX9_least_36 rfl hm.o hm.f_a ?_
              refine z_bipush (v := 10) dX9_least_39 (by decide) ?_
              refine y_ialN (10) dX9_least_41 hm.A_a (Nat.le_of_ble_eq_true rfl) (rfl) (by omega) ?_
              refine z_eqi (show _ = nI (s.1 10) from hr.at (by omega) (by omega)) ?_
              refine z_iand dX9_least_42 ?_
              refine z_eqi (nI_and r (s.1 10)) ?_
              refine z_if_ne dX9_least_43 rfl (fun c => absurd (congrArg nI hz) c) (fun _ => ?_)
              refine z_aload_n dX9_least_46 rfl rfl ?_
              refine z_iload_n dX9_least_47 rfl rfl ?_
              refine z_aload_n dX9_least_48 rfl rfl ?_
              refine y_getR FX9_7 dX9_least_49 rfl hm.o hm.f_a ?_
              refine z_bipush (v := 10) dX9_least_52 (by decide) ?_
              refine y_ialN (10) dX9_least_54 hm.A_a (Nat.le_of_ble_eq_true rfl) (rfl) (by omega) ?_
              refine z_eqi (show _ = nI (s.1 10) from hr.at (by omega) (by omega)) ?_
              refine z_iload dX9_least_55 rfl ?_
              refine z_ior dX9_least_57 ?_
              refine z_eqi (nI_or (s.1 10) r) ?_
              refine y_callV (as := [_, _]) CX9_soAmong LX9_467 IX9_soAmong VX9_soAmong ⟨rfl, Nat.le_of_ble_eq_true rfl⟩ dX9_least_58 hm.o rfl (Nat.le_of_ble_eq_true rfl) (Nat.le_of_ble_eq_true rfl) (by omega) (r_soAmong (p := p) (g := s.1 10 ||| r) hr hv hW hp hg (by omega)) rok_i ⟨Nat.le_refl _, Nat.le_refl _, hN, hS⟩ ?_
              refine z_iload_n dX9_least_61 rfl rfl ?_
              refine y_callS (as := [_]) CX9_bits LX9_310 SX9_bits dX9_least_62 rfl (Nat.le_of_ble_eq_true rfl) (Nat.le_of_ble_eq_true rfl) (by omega) (r_bits (n := p) hp) rok_i ⟨Nat.le_refl _, Nat.le_refl _, hN, hS⟩ ?_
              refine z_icmp_ge dX9_least_65 rfl (fun _ => ?_) (fun c => absurd ((nI_leI (by omega) (by omega)).mpr (by omega)) c)
              refine z_aload_n dX9_least_71 rfl rfl ?_
              refine z_iload dX9_least_72 rfl ?_
              refine y_callV (as := [_]) CX9_costOf LX9_470 IX9_costOf VX9_costOf ⟨rfl, Nat.le_of_ble_eq_true rfl⟩ dX9_least_74 hm.o rfl (Nat.le_of_ble_eq_true rfl) (Nat.le_of_ble_eq_true rfl) (by omega) (r_costOf (U := r) hr hv hr8 (by omega)) rok_i ⟨Nat.le_refl _, Nat.le_refl _, hN, hS⟩ ?_
              refine z_aload_n dX9_least_77 rfl rfl ?_
              refine z_iload_n dX9_least_78 rfl rfl ?_
              refine y_callV (as := [_]) CX9_costOf LX9_470 IX9_costOf VX9_costOf ⟨rfl, Nat.le_of_ble_eq_true rfl⟩ dX9_least_79 hm.o rfl (Nat.le_of_ble_eq_true rfl) (Nat.le_of_ble_eq_true rfl) (by omega) (r_costOf (U := b) hr hv hb8 (by omega)) rok_i ⟨Nat.le_refl _, Nat.le_refl _, hN, hS⟩ ?_
              refine z_isub dX9_least_82 ?_
              refine z_istore dX9_least_83 (Nat.le_of_ble_eq_true rfl) ?_
              refine z_iload dX9_least_85 rfl ?_
              refine z_if_lt dX9_least_87 rfl (fun c => absurd c (l87)) (fun _ => ?_)
              refine z_iload dX9_least_90 rfl ?_
              refine z_if_ne dX9_least_92 rfl (fun c => absurd (l92) c) (fun _ => ?_)
              refine z_iload dX9_least_95 rfl ?_
              refine y_callS (as := [_]) CX9_bits LX9_310 SX9_bits dX9_least_97 rfl (Nat.le_of_ble_eq_true rfl) (Nat.le_of_ble_eq_true rfl) (by omega) (r_bits (n := r) (by omega)) rok_i ⟨Nat.le_refl _, Nat.le_refl _, hN, hS⟩ ?_
              refine z_iload_n dX9_least_100 rfl rfl ?_
              refine y_callS (as := [_]) CX9_bits LX9_310 SX9_bits dX9_least_101 rfl (Nat.le_of_ble_eq_true rfl) (Nat.le_of_ble_eq_true rfl) (by omega) (r_bits (n := b) (by omega)) rok_i ⟨Nat.le_refl _, Nat.le_refl _, hN, hS⟩ ?_
              refine z_icmp_gt dX9_least_104 rfl (fun c => absurd c (fun q => absurd ((nI_ltI (by omega) (by omega)).mp q) (by omega))) (fun _ => ?_)
              refine z_iload dX9_least_107 rfl ?_
              refine z_istore_n dX9_least_109 rfl (Nat.le_of_ble_eq_true rfl) ?_
              refine z_iinc dX9_least_110 rfl (cT_dec r) (Nat.le_of_ble_eq_true rfl) ?_
              refine z_goto dX9_least_113 rfl ?_
              exact ih r _ (by omega) hr8 eg
            · have eg : rFold (PL s.1 p) (wgt s.1) r b = g0 := by
                rw [if_neg (fun q => h3 (by have := q.2; unfold wgt at this; omega))] at hg0
                exact hg0
              refine z_iload dX9_least_28 rfl ?_
              refine z_if_lt dX9_least_30 rfl (fun c => absurd c (nI_pos (by omega))) (fun _ => ?_)
              refine z_iload dX9_least_33 rfl ?_
              refine z_aload_n dX9_least_35 rfl rfl ?_
              refine y_getR FX9_7 dX9_least_36 rfl hm.o hm.f_a ?_
              refine z_bipush (v := 10) dX9_least_39 (by decide) ?_
              refine y_ialN (10) dX9_least_41 hm.A_a (Nat.le_of_ble_eq_true rfl) (rfl) (by omega) ?_
              refine z_eqi (show _ = nI (s.1 10) from hr.at (by omega) (by omega)) ?_
              refine z_iand dX9_least_42 ?_
              refine z_eqi (nI_and r (s.1 10)) ?_
              refine z_if_ne dX9_least_43 rfl (fun c => absurd (congrArg nI hz) c) (fun _ => ?_)
              refine z_aload_n dX9_least_46 rfl rfl ?_
              refine z_iload_n dX9_least_47 rfl rfl ?_
              refine z_aload_n dX9_least_48 rfl rfl ?_
              refine y_getR FX9_7 dX9_least_49 rfl hm.o hm.f_a ?_
              refine z_bipush (v := 10) dX9_least_52 (by decide) ?_
              refine y_ialN (10) dX9_least_54 hm.A_a (Nat.le_of_ble_eq_true rfl) (rfl) (by omega) ?_
              refine z_eqi (show _ = nI (s.1 10) from hr.at (by omega) (by omega)) ?_
              refine z_iload dX9_least_55 rfl ?_
              refine z_ior dX9_least_57 ?_
              refine z_eqi (nI_or (s.1 10) r) ?_
              refine y_callV (as := [_, _]) CX9_soAmong LX9_467 IX9_soAmong VX9_soAmong ⟨rfl, Nat.le_of_ble_eq_true rfl⟩ dX9_least_58 hm.o rfl (Nat.le_of_ble_eq_true rfl) (Nat.le_of_ble_eq_true rfl) (by omega) (r_soAmong (p := p) (g := s.1 10 ||| r) hr hv hW hp hg (by omega)) rok_i ⟨Nat.le_refl _, Nat.le_refl _, hN, hS⟩ ?_
              refine z_iload_n dX9_least_61 rfl rfl ?_
              refine y_callS (as := [_]) CX9_bits LX9_310 SX9_bits dX9_least_62 rfl (Nat.le_of_ble_eq_true rfl) (Nat.le_of_ble_eq_true rfl) (by omega) (r_bits (n := p) hp) rok_i ⟨Nat.le_refl _, Nat.le_refl _, hN, hS⟩ ?_
              refine z_icmp_ge dX9_least_65 rfl (fun _ => ?_) (fun c => absurd ((nI_leI (by omega) (by omega)).mpr (by omega)) c)
              refine z_aload_n dX9_least_71 rfl rfl ?_
              refine z_iload dX9_least_72 rfl ?_
              refine y_callV (as := [_]) CX9_costOf LX9_470 IX9_costOf VX9_costOf ⟨rfl, Nat.le_of_ble_eq_true rfl⟩ dX9_least_74 hm.o rfl (Nat.le_of_ble_eq_true rfl) (Nat.le_of_ble_eq_true rfl) (by omega) (r_costOf (U := r) hr hv hr8 (by omega)) rok_i ⟨Nat.le_refl _, Nat.le_refl _, hN, hS⟩ ?_
              refine z_aload_n dX9_least_77 rfl rfl ?_
              refine z_iload_n dX9_least_78 rfl rfl ?_
              refine y_callV (as := [_]) CX9_costOf LX9_470 IX9_costOf VX9_costOf ⟨rfl, Nat.le_of_ble_eq_true rfl⟩ dX9_least_79 hm.o rfl (Nat.le_of_ble_eq_true rfl) (Nat.le_of_ble_eq_true rfl) (by omega) (r_costOf (U := b) hr hv hb8 (by omega)) rok_i ⟨Nat.le_refl _, Nat.le_refl _, hN, hS⟩ ?_
              refine z_isub dX9_least_82 ?_
              refine z_istore dX9_least_83 (Nat.le_of_ble_eq_true rfl) ?_
              refine z_iload dX9_least_85 rfl ?_
              refine z_if_lt dX9_least_87 rfl (fun c => absurd c (l87)) (fun _ => ?_)
              refine z_iload dX9_least_90 rfl ?_
              refine z_if_ne dX9_least_92 rfl (fun c => absurd (l92) c) (fun _ => ?_)
              refine z_iload dX9_least_95 rfl ?_
              refine y_callS (as := [_]) CX9_bits LX9_310 SX9_bits dX9_least_97 rfl (Nat.le_of_ble_eq_true rfl) (Nat.le_of_ble_eq_true rfl) (by omega) (r_bits (n := r) (by omega)) rok_i ⟨Nat.le_refl _, Nat.le_refl _, hN, hS⟩ ?_
              refine z_iload_n dX9_least_100 rfl rfl ?_
              refine y_callS (as := [_]) CX9_bits LX9_310 SX9_bits dX9_least_101 rfl (Nat.le_of_ble_eq_true rfl) (Nat.le_of_ble_eq_true rfl) (by omega) (r_bits (n := b) (by omega)) rok_i ⟨Nat.le_refl _, Nat.le_refl _, hN, hS⟩ ?_
              refine z_icmp_gt dX9_least_104 rfl (fun _ => ?_) (fun c => absurd ((nI_ltI (by omega) (by omega)).mpr (by omega)) c)
              refine z_iinc dX9_least_110 rfl (cT_dec r) (Nat.le_of_ble_eq_true rfl) ?_
              refine z_goto dX9_least_113 rfl ?_
              exact ih b _ (by omega) hb8 eg
          · have l92 : ¬ nI (cst s.1 r (s.1 0)) - nI (cst s.1 b (s.1 0)) = 0 := fun q => h2 ((sb_eq (by omega) (by omega)).mp q)
            have eg : rFold (PL s.1 p) (wgt s.1) r b = g0 := by
              rw [if_neg (fun q => h1 (by have := q.2; unfold wgt at this; omega))] at hg0
              exact hg0
            refine z_iload dX9_least_28 rfl ?_
            refine z_if_lt dX9_least_30 rfl (fun c => absurd c (nI_pos (by omega))) (fun _ => ?_)
            refine z_iload dX9_least_33 rfl ?_
            refine z_aload_n dX9_least_35 rfl rfl ?_
            refine y_getR FX9_7 dX9_least_36 rfl hm.o hm.f_a ?_
            refine z_bipush (v := 10) dX9_least_39 (by decide) ?_
            refine y_ialN (10) dX9_least_41 hm.A_a (Nat.le_of_ble_eq_true rfl) (rfl) (by omega) ?_
            refine z_eqi (show _ = nI (s.1 10) from hr.at (by omega) (by omega)) ?_
            refine z_iand dX9_least_42 ?_
            refine z_eqi (nI_and r (s.1 10)) ?_
            refine z_if_ne dX9_least_43 rfl (fun c => absurd (congrArg nI hz) c) (fun _ => ?_)
            refine z_aload_n dX9_least_46 rfl rfl ?_
            refine z_iload_n dX9_least_47 rfl rfl ?_
            refine z_aload_n dX9_least_48 rfl rfl ?_
            refine y_getR FX9_7 dX9_least_49 rfl hm.o hm.f_a ?_
            refine z_bipush (v := 10) dX9_least_52 (by decide) ?_
            refine y_ialN (10) dX9_least_54 hm.A_a (Nat.le_of_ble_eq_true rfl) (rfl) (by omega) ?_
            refine z_eqi (show _ = nI (s.1 10) from hr.at (by omega) (by omega)) ?_
            refine z_iload dX9_least_55 rfl ?_
            refine z_ior dX9_least_57 ?_
            refine z_eqi (nI_or (s.1 10) r) ?_
            refine y_callV (as := [_, _]) CX9_soAmong LX9_467 IX9_soAmong VX9_soAmong ⟨rfl, Nat.le_of_ble_eq_true rfl⟩ dX9_least_58 hm.o rfl (Nat.le_of_ble_eq_true rfl) (Nat.le_of_ble_eq_true rfl) (by omega) (r_soAmong (p := p) (g := s.1 10 ||| r) hr hv hW hp hg (by omega)) rok_i ⟨Nat.le_refl _, Nat.le_refl _, hN, hS⟩ ?_
            refine z_iload_n dX9_least_61 rfl rfl ?_
            refine y_callS (as := [_]) CX9_bits LX9_310 SX9_bits dX9_least_62 rfl (Nat.le_of_ble_eq_true rfl) (Nat.le_of_ble_eq_true rfl) (by omega) (r_bits (n := p) hp) rok_i ⟨Nat.le_refl _, Nat.le_refl _, hN, hS⟩ ?_
            refine z_icmp_ge dX9_least_65 rfl (fun _ => ?_) (fun c => absurd ((nI_leI (by omega) (by omega)).mpr (by omega)) c)
            refine z_aload_n dX9_least_71 rfl rfl ?_
            refine z_iload dX9_least_72 rfl ?_
            refine y_callV (as := [_]) CX9_costOf LX9_470 IX9_costOf VX9_costOf ⟨rfl, Nat.le_of_ble_eq_true rfl⟩ dX9_least_74 hm.o rfl (Nat.le_of_ble_eq_true rfl) (Nat.le_of_ble_eq_true rfl) (by omega) (r_costOf (U := r) hr hv hr8 (by omega)) rok_i ⟨Nat.le_refl _, Nat.le_refl _, hN, hS⟩ ?_
            refine z_aload_n dX9_least_77 rfl rfl ?_
            refine z_iload_n dX9_least_78 rfl rfl ?_
            refine y_callV (as := [_]) CX9_costOf LX9_470 IX9_costOf VX9_costOf ⟨rfl, Nat.le_of_ble_eq_true rfl⟩ dX9_least_79 hm.o rfl (Nat.le_of_ble_eq_true rfl) (Nat.le_of_ble_eq_true rfl) (by omega) (r_costOf (U := b) hr hv hb8 (by omega)) rok_i ⟨Nat.le_refl _, Nat.le_refl _, hN, hS⟩ ?_
            refine z_isub dX9_least_82 ?_
            refine z_istore dX9_least_83 (Nat.le_of_ble_eq_true rfl) ?_
            refine z_iload dX9_least_85 rfl ?_
            refine z_if_lt dX9_least_87 rfl (fun c => absurd c (l87)) (fun _ => ?_)
            refine z_iload dX9_least_90 rfl ?_
            refine z_if_ne dX9_least_92 rfl (fun _ => ?_) (fun c => absurd c (l92))
            refine z_iinc dX9_least_110 rfl (cT_dec r) (Nat.le_of_ble_eq_true rfl) ?_
            refine z_goto dX9_least_113 rfl ?_
            exact ih b _ (by omega) hb8 eg
      · have eg : rFold (PL s.1 p) (wgt s.1) r b = g0 := by
          rw [if_neg (fun q => ha (by have := q.1; unfold PL at this; rw [Bool.and_eq_true] at this; exact this.2))] at hg0
          exact hg0
        have hs : soA (snap s.1) p (s.1 10 ||| r) (s.1 11) < pcn p := Classical.byContradiction (fun q => ha (sa.mp q))
        refine z_iload dX9_least_28 rfl ?_
        refine z_if_lt dX9_least_30 rfl (fun c => absurd c (nI_pos (by omega))) (fun _ => ?_)
        refine z_iload dX9_least_33 rfl ?_
        refine z_aload_n dX9_least_35 rfl rfl ?_
        refine y_getR FX9_7 dX9_least_36 rfl hm.o hm.f_a ?_
        refine z_bipush (v := 10) dX9_least_39 (by decide) ?_
        refine y_ialN (10) dX9_least_41 hm.A_a (Nat.le_of_ble_eq_true rfl) (rfl) (by omega) ?_
        refine z_eqi (show _ = nI (s.1 10) from hr.at (by omega) (by omega)) ?_
        refine z_iand dX9_least_42 ?_
        refine z_eqi (nI_and r (s.1 10)) ?_
        refine z_if_ne dX9_least_43 rfl (fun c => absurd (congrArg nI hz) c) (fun _ => ?_)
        refine z_aload_n dX9_least_46 rfl rfl ?_
        refine z_iload_n dX9_least_47 rfl rfl ?_
        refine z_aload_n dX9_least_48 rfl rfl ?_
        refine y_getR FX9_7 dX9_least_49 rfl hm.o hm.f_a ?_
        refine z_bipush (v := 10) dX9_least_52 (by decide) ?_
        refine y_ialN (10) dX9_least_54 hm.A_a (Nat.le_of_ble_eq_true rfl) (rfl) (by omega) ?_
        refine z_eqi (show _ = nI (s.1 10) from hr.at (by omega) (by omega)) ?_
        refine z_iload dX9_least_55 rfl ?_
        refine z_ior dX9_least_57 ?_
        refine z_eqi (nI_or (s.1 10) r) ?_
        refine y_callV (as := [_, _]) CX9_soAmong LX9_467 IX9_soAmong VX9_soAmong ⟨rfl, Nat.le_of_ble_eq_true rfl⟩ dX9_least_58 hm.o rfl (Nat.le_of_ble_eq_true rfl) (Nat.le_of_ble_eq_true rfl) (by omega) (r_soAmong (p := p) (g := s.1 10 ||| r) hr hv hW hp hg (by omega)) rok_i ⟨Nat.le_refl _, Nat.le_refl _, hN, hS⟩ ?_
        refine z_iload_n dX9_least_61 rfl rfl ?_
        refine y_callS (as := [_]) CX9_bits LX9_310 SX9_bits dX9_least_62 rfl (Nat.le_of_ble_eq_true rfl) (Nat.le_of_ble_eq_true rfl) (by omega) (r_bits (n := p) hp) rok_i ⟨Nat.le_refl _, Nat.le_refl _, hN, hS⟩ ?_
        refine z_icmp_ge dX9_least_65 rfl (fun c => absurd c (fun q => absurd ((nI_leI (by omega) (by omega)).mp q) (by omega))) (fun _ => ?_)
        refine z_goto dX9_least_68 rfl ?_
        refine z_iinc dX9_least_110 rfl (cT_dec r) (Nat.le_of_ble_eq_true rfl) ?_
        refine z_goto dX9_least_113 rfl ?_
        exact ih b _ (by omega) hb8 eg
    · have eg : rFold (PL s.1 p) (wgt s.1) r b = g0 := by
        rw [if_neg (fun q => hz (by have := q.1; unfold PL at this; rw [Bool.and_eq_true, beq_iff_eq] at this; exact this.1))] at hg0
        exact hg0
      refine z_iload dX9_least_28 rfl ?_
      refine z_if_lt dX9_least_30 rfl (fun c => absurd c (nI_pos (by omega))) (fun _ => ?_)
      refine z_iload dX9_least_33 rfl ?_
      refine z_aload_n dX9_least_35 rfl rfl ?_
      refine y_getR FX9_7 dX9_least_36 rfl hm.o hm.f_a ?_
      refine z_bipush (v := 10) dX9_least_39 (by decide) ?_
      refine y_ialN (10) dX9_least_41 hm.A_a (Nat.le_of_ble_eq_true rfl) (rfl) (by omega) ?_
      refine z_eqi (show _ = nI (s.1 10) from hr.at (by omega) (by omega)) ?_
      refine z_iand dX9_least_42 ?_
      refine z_eqi (nI_and r (s.1 10)) ?_
      refine z_if_ne dX9_least_43 rfl (fun _ => ?_) (fun c => absurd c (fun q => hz ((nI_eq (b := 0) (Nat.lt_of_le_of_lt Nat.and_le_left (by omega)) (by omega)).mp q)))
      refine z_iinc dX9_least_110 rfl (cT_dec r) (Nat.le_of_ble_eq_true rfl) ?_
      refine z_goto dX9_least_113 rfl ?_
      exact ih b _ (by omega) hb8 eg

theorem rFold_le {P : Nat → Bool} {w : Nat → Nat} {m : Nat} : ∀ r b, r ≤ m → b < m → rFold P w r b < m := by
  intro r
  induction r with
  | zero => intro b _ hb; exact hb
  | succ r ih =>
    intro b hr hb
    show rFold P w r (if _ then _ else _) < m
    split
    · exact ih r (by omega) (by omega)
    · exact ih b (by omega) hb
theorem R_least {s : Ms} {h : Hp} {d : Nat} (hr : RM s h) (hv : IC s.1) (hW : IW (s.1 0) (snap s.1)) (hf : IFc s.1) {c : Nat} (hc : c = 0 ∨ c = 1) (p : Int32) (hd : 4 ≤ d) : Sp d mX9_least [.ref 488, .int p, .int (nI c)] h (some (.int (mLeast s.1 p c))) h := by
  have hm := hr.m
  have v0 := hv.1
  have v11 := hv.2.2.2.2.2.2.2.2.2.2.2.1
  have p12 : 2 ^ s.1 11 ≤ 2 ^ 12 := Nat.pow_le_pow_right (by omega) v11
  have p8 : 2 ^ s.1 0 ≤ 2 ^ 8 := Nat.pow_le_pow_right (by omega) v0
  have p1 : 0 < 2 ^ s.1 0 := Nat.pow_pos (by omega)
  intro N S Q hN hS hQ
  by_cases hk : okP s.1 p
  · have eq : mLeast s.1 p c = if c = 1 then nI (cst s.1 (lBest s.1 (nn p)) (s.1 0)) else nI (lBest s.1 (nn p)) := if_pos hk
    rw [eq] at hQ
    obtain ⟨q, hq, rfl⟩ := vin_of (n := 2 ^ s.1 11) (x := p) (by omega) ⟨Int32.le_trans (by decide) hk.1.1, hk.1.2⟩
    rw [nn_nI (by omega)] at hQ
    have lb : lB s.1 ≤ 2 ^ s.1 0 - 1 := dif_le _ _
    have hb8 : lBest s.1 q < 256 := rFold_le _ _ (by omega) (by omega)
    have K : ∀ x o5, T d N S mX9_least 116 [some (.ref 488), some (.int (nI q)), some (.int (nI c)), some (.int (nI (lBest s.1 q))), some (.int x), o5] [] h Q := fun x o5 => by
      rcases hc with hc | hc
      · rw [if_neg (by omega)] at hQ
        refine z_iload_n dX9_least_116 rfl rfl ?_
        refine z_if_eq dX9_least_117 rfl (fun _ => ?_) (fun c => absurd (congrArg nI hc) c)
        refine z_iload_n dX9_least_128 rfl rfl ?_
        refine z_iret dX9_least_129 ?_
        exact hQ
      · rw [if_pos hc] at hQ
        refine z_iload_n dX9_least_116 rfl rfl ?_
        refine z_if_eq dX9_least_117 rfl (fun c => absurd c (fun q => absurd ((nI_eq (b := 0) (by omega) (by omega)).mp q) (by omega))) (fun _ => ?_)
        refine z_aload_n dX9_least_120 rfl rfl ?_
        refine z_iload_n dX9_least_121 rfl rfl ?_
        refine y_callV (as := [_]) CX9_costOf LX9_470 IX9_costOf VX9_costOf ⟨rfl, Nat.le_of_ble_eq_true rfl⟩ dX9_least_122 hm.o rfl (Nat.le_of_ble_eq_true rfl) (Nat.le_of_ble_eq_true rfl) (by omega) (r_costOf (d := 1) (U := lBest s.1 q) hr hv hb8 (by omega)) rok_i ⟨Nat.le_refl _, Nat.le_refl _, hN, hS⟩ ?_
        refine z_goto dX9_least_125 rfl ?_
        refine z_iret dX9_least_129 ?_
        exact hQ
    have L := r_least_loop hr hv hW hf (c := c) hq hN hS (by omega) K (lB s.1 + 1) (lB s.1) none (by omega) (by omega) rfl
    rw [cT_s] at L
    refine z_aload_n dX9_least_0 rfl rfl ?_
    refine z_iload_n dX9_least_1 rfl rfl ?_
    refine y_callV (as := [_]) CX9_areOpen LX9_461 IX9_areOpen VX9_areOpen ⟨rfl, Nat.le_of_ble_eq_true rfl⟩ dX9_least_2 hm.o rfl (Nat.le_of_ble_eq_true rfl) (Nat.le_of_ble_eq_true rfl) (by omega) (r_areOpen (d := 3) hr hv hW _ (Nat.le_refl _)) (rok_z bI_01) ⟨Nat.le_refl _, Nat.le_refl _, hN, hS⟩ ?_
    refine z_if_ne dX9_least_5 rfl (fun _ => ?_) (fun c => absurd c (bI_ne0.mpr hk))
    refine z_aload_n dX9_least_10 rfl rfl ?_
    refine y_callV (as := []) CX9_allFacts LX9_464 IX9_allFacts VX9_allFacts ⟨rfl, Nat.le_of_ble_eq_true rfl⟩ dX9_least_11 hm.o rfl (Nat.le_of_ble_eq_true rfl) (Nat.le_of_ble_eq_true rfl) (by omega) (r_allFacts (d := 0) hr hv) rok_i ⟨Nat.le_refl _, Nat.le_refl _, hN, hS⟩ ?_
    refine z_aload_n dX9_least_14 rfl rfl ?_
    refine y_getR FX9_7 dX9_least_15 rfl hm.o hm.f_a ?_
    refine z_bipush (v := 10) dX9_least_18 (by decide) ?_
    refine y_ialN (10) dX9_least_20 hm.A_a (Nat.le_of_ble_eq_true rfl) (rfl) (by omega) ?_
    refine z_eqi (show _ = nI (s.1 10) from hr.at (by omega) (by omega)) ?_
    refine z_iconst (v := -1) dX9_least_21 (by decide) ?_
    refine z_ixor dX9_least_22 ?_
    refine z_iand dX9_least_23 ?_
    refine z_eqi (nI_dif (2 ^ s.1 0 - 1) (s.1 10)) ?_
    refine z_istore_n dX9_least_24 rfl (Nat.le_of_ble_eq_true rfl) ?_
    refine z_iload_n dX9_least_25 rfl rfl ?_
    refine z_istore dX9_least_26 (Nat.le_of_ble_eq_true rfl) ?_
    exact L
  · have eq : mLeast s.1 p c = -1 := if_neg hk
    rw [eq] at hQ
    refine z_aload_n dX9_least_0 rfl rfl ?_
    refine z_iload_n dX9_least_1 rfl rfl ?_
    refine y_callV (as := [_]) CX9_areOpen LX9_461 IX9_areOpen VX9_areOpen ⟨rfl, Nat.le_of_ble_eq_true rfl⟩ dX9_least_2 hm.o rfl (Nat.le_of_ble_eq_true rfl) (Nat.le_of_ble_eq_true rfl) (by omega) (r_areOpen (d := 3) hr hv hW _ (Nat.le_refl _)) (rok_z bI_01) ⟨Nat.le_refl _, Nat.le_refl _, hN, hS⟩ ?_
    refine z_if_ne dX9_least_5 rfl (fun c => absurd (bI_eq0.mpr hk) c) (fun _ => ?_)
    refine z_iconst (v := -1) dX9_least_8 (by decide) ?_
    refine z_iret dX9_least_9 ?_
    exact hQ

theorem r_stop_loop {s : Ms} {h : Hp} {d N S : Nat} {Q : Option Value → Hp → Prop} (hr : RM s h) (hv : IC s.1) (hW : IW (s.1 0) (snap s.1)) {p g0 : Nat} (hp0 : p < 2 ^ s.1 11) (hN : pn h ≤ N) (hS : ps h ≤ S) (hd : 3 ≤ d) (hQ : Q (some (.int (nI g0))) h) : ∀ r b, r ≤ 256 → b < 256 → rFold (PS s.1 p) pcn r b = g0 → T d N S mX9_stop 17 [some (.ref 488), some (.int (nI p)), some (.int (nI b)), some (.int (cT r))] [] h Q := by
  have hm := hr.m
  have v0 := hv.1
  have v11 := hv.2.2.2.2.2.2.2.2.2.2.2.1
  have p12 : 2 ^ s.1 11 ≤ 2 ^ 12 := Nat.pow_le_pow_right (by omega) v11
  have p8 : 2 ^ s.1 0 ≤ 2 ^ 8 := Nat.pow_le_pow_right (by omega) v0
  have hp : p < 4096 := by omega
  intro r
  induction r with
  | zero =>
    intro b hr8 hb8 hg
    have hg : b = g0 := hg
    subst hg
    refine z_iload_n dX9_stop_17 rfl rfl ?_
    refine z_if_lt dX9_stop_18 rfl (fun _ => ?_) (fun c => absurd (by decide) c)
    refine z_iload_n dX9_stop_56 rfl rfl ?_
    refine z_iret dX9_stop_57 ?_
    exact hQ
  | succ r ih =>
    intro b hrr hb8 hg0
    have hr8 : r < 256 := by omega
    have hg : dif (2 ^ s.1 0 - 1) r < 256 := Nat.lt_of_le_of_lt (dif_le _ _) (by omega)
    have hg0 : rFold (PS s.1 p) pcn r (if PS s.1 p r = true ∧ pcn r ≤ pcn b then r else b) = g0 := hg0
    have pr := pcn8 r hr8
    have pb := pcn8 b hb8
    have sl := soA_le (W := snap s.1) (p := p) (g := dif (2 ^ s.1 0 - 1) r) (s.1 11)
    have pp := pcn_le p
    have bt := bcn_top hp0 v11
    rw [bt] at sl
    have sa := soA_none (W := snap s.1) (p := p) (g := dif (2 ^ s.1 0 - 1) r) (s.1 11)
    rw [cT_s]
    by_cases h1 : pcn r ≤ pcn b
    · by_cases ha : PS s.1 p r = true
      · have eg : rFold (PS s.1 p) pcn r r = g0 := by
          rw [if_pos ⟨ha, h1⟩] at hg0
          exact hg0
        have hz := sa.mpr ha
        refine z_iload_n dX9_stop_17 rfl rfl ?_
        refine z_if_lt dX9_stop_18 rfl (fun c => absurd c (nI_pos (by omega))) (fun _ => ?_)
        refine z_iload_n dX9_stop_21 rfl rfl ?_
        refine y_callS (as := [_]) CX9_bits LX9_310 SX9_bits dX9_stop_22 rfl (Nat.le_of_ble_eq_true rfl) (Nat.le_of_ble_eq_true rfl) (by omega) (r_bits (n := r) (by omega)) rok_i ⟨Nat.le_refl _, Nat.le_refl _, hN, hS⟩ ?_
        refine z_iload_n dX9_stop_25 rfl rfl ?_
        refine y_callS (as := [_]) CX9_bits LX9_310 SX9_bits dX9_stop_26 rfl (Nat.le_of_ble_eq_true rfl) (Nat.le_of_ble_eq_true rfl) (by omega) (r_bits (n := b) (by omega)) rok_i ⟨Nat.le_refl _, Nat.le_refl _, hN, hS⟩ ?_
        refine z_icmp_gt dX9_stop_29 rfl (fun c => absurd c (fun q => absurd ((nI_ltI (by omega) (by omega)).mp q) (by omega))) (fun _ => ?_)
        refine z_aload_n dX9_stop_32 rfl rfl ?_
        refine z_iload_n dX9_stop_33 rfl rfl ?_
        refine z_aload_n dX9_stop_34 rfl rfl ?_
        refine y_callV (as := []) CX9_allFacts LX9_464 IX9_allFacts VX9_allFacts ⟨rfl, Nat.le_of_ble_eq_true rfl⟩ dX9_stop_35 hm.o rfl (Nat.le_of_ble_eq_true rfl) (Nat.le_of_ble_eq_true rfl) (by omega) (r_allFacts (d := 0) hr hv) rok_i ⟨Nat.le_refl _, Nat.le_refl _, hN, hS⟩ ?_
        refine z_iload_n dX9_stop_38 rfl rfl ?_
        refine z_iconst (v := -1) dX9_stop_39 (by decide) ?_
        refine z_ixor dX9_stop_40 ?_
        refine z_iand dX9_stop_41 ?_
        refine z_eqi (nI_dif (2 ^ s.1 0 - 1) r) ?_
        refine y_callV (as := [_, _]) CX9_soAmong LX9_467 IX9_soAmong VX9_soAmong ⟨rfl, Nat.le_of_ble_eq_true rfl⟩ dX9_stop_42 hm.o rfl (Nat.le_of_ble_eq_true rfl) (Nat.le_of_ble_eq_true rfl) (by omega) (r_soAmong (p := p) (g := dif (2 ^ s.1 0 - 1) r) hr hv hW hp hg (by omega)) rok_i ⟨Nat.le_refl _, Nat.le_refl _, hN, hS⟩ ?_
        refine z_if_ne dX9_stop_45 rfl (fun c => absurd (congrArg nI hz) c) (fun _ => ?_)
        refine z_iload_n dX9_stop_48 rfl rfl ?_
        refine z_istore_n dX9_stop_49 rfl (Nat.le_of_ble_eq_true rfl) ?_
        refine z_iinc dX9_stop_50 rfl (cT_dec r) (Nat.le_of_ble_eq_true rfl) ?_
        refine z_goto dX9_stop_53 rfl ?_
        exact ih r (by omega) hr8 eg
      · have eg : rFold (PS s.1 p) pcn r b = g0 := by
          rw [if_neg (fun q => ha q.1)] at hg0
          exact hg0
        have hz : ¬ soA (snap s.1) p (dif (2 ^ s.1 0 - 1) r) (s.1 11) = 0 := fun q => ha (sa.mp q)
        refine z_iload_n dX9_stop_17 rfl rfl ?_
        refine z_if_lt dX9_stop_18 rfl (fun c => absurd c (nI_pos (by omega))) (fun _ => ?_)
        refine z_iload_n dX9_stop_21 rfl rfl ?_
        refine y_callS (as := [_]) CX9_bits LX9_310 SX9_bits dX9_stop_22 rfl (Nat.le_of_ble_eq_true rfl) (Nat.le_of_ble_eq_true rfl) (by omega) (r_bits (n := r) (by omega)) rok_i ⟨Nat.le_refl _, Nat.le_refl _, hN, hS⟩ ?_
        refine z_iload_n dX9_stop_25 rfl rfl ?_
        refine y_callS (as := [_]) CX9_bits LX9_310 SX9_bits dX9_stop_26 rfl (Nat.le_of_ble_eq_true rfl) (Nat.le_of_ble_eq_true rfl) (by omega) (r_bits (n := b) (by omega)) rok_i ⟨Nat.le_refl _, Nat.le_refl _, hN, hS⟩ ?_
        refine z_icmp_gt dX9_stop_29 rfl (fun c => absurd c (fun q => absurd ((nI_ltI (by omega) (by omega)).mp q) (by omega))) (fun _ => ?_)
        refine z_aload_n dX9_stop_32 rfl rfl ?_
        refine z_iload_n dX9_stop_33 rfl rfl ?_
        refine z_aload_n dX9_stop_34 rfl rfl ?_
        refine y_callV (as := []) CX9_allFacts LX9_464 IX9_allFacts VX9_allFacts ⟨rfl, Nat.le_of_ble_eq_true rfl⟩ dX9_stop_35 hm.o rfl (Nat.le_of_ble_eq_true rfl) (Nat.le_of_ble_eq_true rfl) (by omega) (r_allFacts (d := 0) hr hv) rok_i ⟨Nat.le_refl _, Nat.le_refl _, hN, hS⟩ ?_
        refine z_iload_n dX9_stop_38 rfl rfl ?_
        refine z_iconst (v := -1) dX9_stop_39 (by decide) ?_
        refine z_ixor dX9_stop_40 ?_
        refine z_iand dX9_stop_41 ?_
        refine z_eqi (nI_dif (2 ^ s.1 0 - 1) r) ?_
        refine y_callV (as := [_, _]) CX9_soAmong LX9_467 IX9_soAmong VX9_soAmong ⟨rfl, Nat.le_of_ble_eq_true rfl⟩ dX9_stop_42 hm.o rfl (Nat.le_of_ble_eq_true rfl) (Nat.le_of_ble_eq_true rfl) (by omega) (r_soAmong (p := p) (g := dif (2 ^ s.1 0 - 1) r) hr hv hW hp hg (by omega)) rok_i ⟨Nat.le_refl _, Nat.le_refl _, hN, hS⟩ ?_
        refine z_if_ne dX9_stop_45 rfl (fun _ => ?_) (fun c => absurd c (fun q => hz ((nI_eq (b := 0) (by omega) (by omega)).mp q)))
        refine z_iinc dX9_stop_50 rfl (cT_dec r) (Nat.le_of_ble_eq_true rfl) ?_
        refine z_goto dX9_stop_53 rfl ?_
        exact ih b (by omega) hb8 eg
    · have eg : rFold (PS s.1 p) pcn r b = g0 := by
        rw [if_neg (fun q => h1 q.2)] at hg0
        exact hg0
      refine z_iload_n dX9_stop_17 rfl rfl ?_
      refine z_if_lt dX9_stop_18 rfl (fun c => absurd c (nI_pos (by omega))) (fun _ => ?_)
      refine z_iload_n dX9_stop_21 rfl rfl ?_
      refine y_callS (as := [_]) CX9_bits LX9_310 SX9_bits dX9_stop_22 rfl (Nat.le_of_ble_eq_true rfl) (Nat.le_of_ble_eq_true rfl) (by omega) (r_bits (n := r) (by omega)) rok_i ⟨Nat.le_refl _, Nat.le_refl _, hN, hS⟩ ?_
      refine z_iload_n dX9_stop_25 rfl rfl ?_
      refine y_callS (as := [_]) CX9_bits LX9_310 SX9_bits dX9_stop_26 rfl (Nat.le_of_ble_eq_true rfl) (Nat.le_of_ble_eq_true rfl) (by omega) (r_bits (n := b) (by omega)) rok_i ⟨Nat.le_refl _, Nat.le_refl _, hN, hS⟩ ?_
      refine z_icmp_gt dX9_stop_29 rfl (fun _ => ?_) (fun c => absurd ((nI_ltI (by omega) (by omega)).mpr (by omega)) c)
      refine z_iinc dX9_stop_50 rfl (cT_dec r) (Nat.le_of_ble_eq_true rfl) ?_
      refine z_goto dX9_stop_53 rfl ?_
      exact ih b (by omega) hb8 eg

theorem R_stop {s : Ms} {h : Hp} {d : Nat} (hr : RM s h) (hv : IC s.1) (hW : IW (s.1 0) (snap s.1)) (p : Int32) (hd : 4 ≤ d) : Sp d mX9_stop [.ref 488, .int p] h (some (.int (mStop s.1 p))) h := by
  have hm := hr.m
  have v0 := hv.1
  have v11 := hv.2.2.2.2.2.2.2.2.2.2.2.1
  have p12 : 2 ^ s.1 11 ≤ 2 ^ 12 := Nat.pow_le_pow_right (by omega) v11
  have p8 : 2 ^ s.1 0 ≤ 2 ^ 8 := Nat.pow_le_pow_right (by omega) v0
  have p1 : 0 < 2 ^ s.1 0 := Nat.pow_pos (by omega)
  intro N S Q hN hS hQ
  by_cases hk : okP s.1 p
  · have eq : mStop s.1 p = nI (sBest s.1 (nn p)) := if_pos hk
    rw [eq] at hQ
    obtain ⟨q, hq, rfl⟩ := vin_of (n := 2 ^ s.1 11) (x := p) (by omega) ⟨Int32.le_trans (by decide) hk.1.1, hk.1.2⟩
    rw [nn_nI (by omega)] at hQ
    have L := r_stop_loop (d := d) hr hv hW hq hN hS (by omega) hQ (2 ^ s.1 0 - 1 + 1) (2 ^ s.1 0 - 1) (by omega) (by omega) rfl
    rw [cT_s] at L
    refine z_aload_n dX9_stop_0 rfl rfl ?_
    refine z_iload_n dX9_stop_1 rfl rfl ?_
    refine y_callV (as := [_]) CX9_areOpen LX9_461 IX9_areOpen VX9_areOpen ⟨rfl, Nat.le_of_ble_eq_true rfl⟩ dX9_stop_2 hm.o rfl (Nat.le_of_ble_eq_true rfl) (Nat.le_of_ble_eq_true rfl) (by omega) (r_areOpen (d := 3) hr hv hW _ (Nat.le_refl _)) (rok_z bI_01) ⟨Nat.le_refl _, Nat.le_refl _, hN, hS⟩ ?_
    refine z_if_ne dX9_stop_5 rfl (fun _ => ?_) (fun c => absurd c (bI_ne0.mpr hk))
    refine z_aload_n dX9_stop_10 rfl rfl ?_
    refine y_callV (as := []) CX9_allFacts LX9_464 IX9_allFacts VX9_allFacts ⟨rfl, Nat.le_of_ble_eq_true rfl⟩ dX9_stop_11 hm.o rfl (Nat.le_of_ble_eq_true rfl) (Nat.le_of_ble_eq_true rfl) (by omega) (r_allFacts (d := 0) hr hv) rok_i ⟨Nat.le_refl _, Nat.le_refl _, hN, hS⟩ ?_
    refine z_istore_n dX9_stop_14 rfl (Nat.le_of_ble_eq_true rfl) ?_
    refine z_iload_n dX9_stop_15 rfl rfl ?_
    refine z_istore_n dX9_stop_16 rfl (Nat.le_of_ble_eq_true rfl) ?_
    exact L
  · have eq : mStop s.1 p = -1 := if_neg hk
    rw [eq] at hQ
    refine z_aload_n dX9_stop_0 rfl rfl ?_
    refine z_iload_n dX9_stop_1 rfl rfl ?_
    refine y_callV (as := [_]) CX9_areOpen LX9_461 IX9_areOpen VX9_areOpen ⟨rfl, Nat.le_of_ble_eq_true rfl⟩ dX9_stop_2 hm.o rfl (Nat.le_of_ble_eq_true rfl) (Nat.le_of_ble_eq_true rfl) (by omega) (r_areOpen (d := 3) hr hv hW _ (Nat.le_refl _)) (rok_z bI_01) ⟨Nat.le_refl _, Nat.le_refl _, hN, hS⟩ ?_
    refine z_if_ne dX9_stop_5 rfl (fun c => absurd (bI_eq0.mpr hk) c) (fun _ => ?_)
    refine z_iconst (v := -1) dX9_stop_8 (by decide) ?_
    refine z_iret dX9_stop_9 ?_
    exact hQ

