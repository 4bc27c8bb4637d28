/-! least acts, what would stop all: the class (walks by program: wip/whole/gen84.py) -/
def opm (W : Fl) : Nat → Nat
  | 0 => 0
  | i + 1 => opm W i ||| (if W (pcx i 5) = 0 then 2 ^ i else 0)
theorem opm_bit {W : Fl} {k : Nat} : ∀ i, (opm W i).testBit k = true ↔ k < i ∧ W (pcx k 5) = 0 := by
  intro i
  induction i with
  | zero =>
    show (0 : Nat).testBit k = true ↔ _
    rw [Nat.zero_testBit]
    exact ⟨fun h => absurd h (by decide), fun h => by omega⟩
  | succ i ih =>
    show (opm W i ||| (if _ then _ else _)).testBit k = true ↔ _
    rw [Nat.testBit_or, Bool.or_eq_true, ih]
    by_cases ho : W (pcx i 5) = 0
    · rw [if_pos ho, Nat.testBit_two_pow, decide_eq_true_eq]
      constructor
      · rintro (⟨h1, h2⟩ | h)
        · exact ⟨by omega, h2⟩
        · subst h; exact ⟨by omega, ho⟩
      · rintro ⟨h1, h2⟩
        by_cases e : i = k
        · exact Or.inr e
        · exact Or.inl ⟨by omega, h2⟩
    · rw [if_neg ho, Nat.zero_testBit]
      constructor
      · rintro (⟨h1, h2⟩ | h)
        · exact ⟨by omega, h2⟩
        · exact absurd h (by decide)
      · rintro ⟨h1, h2⟩
        by_cases e : i = k
        · subst e; exact absurd h2 ho
        · exact Or.inl ⟨by omega, h2⟩
theorem opm_lt {W : Fl} : ∀ i, opm W i < 2 ^ i := by
  intro i
  induction i with
  | zero => show 0 < 1; omega
  | succ i ih =>
    refine Nat.or_lt_two_pow (Nat.lt_trans ih (Nat.pow_lt_pow_right (by omega) (by omega))) ?_
    split
    · exact Nat.pow_lt_pow_right (by omega) (by omega)
    · exact Nat.two_pow_pos _
theorem pos_nI {p : Int32} (h : 0 ≤ p) : ∃ q, q < 2 ^ 31 ∧ p = nI q := by
  obtain ⟨j, hj, e⟩ := inr_of (x := p) (n := 2147483647) (by omega) ⟨h, by rw [Int32.le_iff_toInt_le, nI_toInt (by omega)]; have := Int32.toInt_lt p; omega⟩
  exact ⟨j, by omega, e⟩
theorem okP_sub {a : Fl} {q : Nat} (hq : q < 2 ^ 31) (h12 : a 11 ≤ 12) : okP a (nI q) ↔ 0 < q ∧ dif q (opm (snap a) (a 11)) = 0 := by
  have p12 : 2 ^ a 11 ≤ 2 ^ 12 := Nat.pow_le_pow_right (by omega) h12
  rw [dif0 (by omega)]
  unfold okP
  rw [nn_nI hq]
  constructor
  · rintro ⟨⟨h1, h2⟩, h3⟩
    refine ⟨(nI_leI (a := 1) (by omega) hq).mp h1, fun i hi => (opm_bit _).mpr ?_⟩
    have hl : q < 2 ^ a 11 := (nI_ltI hq (by omega)).mp h2
    have hk : i < a 11 := by
      by_cases c : i < a 11
      · exact c
      · rw [bit_hi hl (by omega)] at hi
        exact absurd hi (by decide)
    exact ⟨hk, h3 i hk hi⟩
  · rintro ⟨h1, h2⟩
    have hl : q < 2 ^ a 11 := Nat.lt_of_le_of_lt (sub_le h2) (opm_lt _)
    exact ⟨⟨(nI_leI (a := 1) (by omega) hq).mpr h1, (nI_ltI hq (by omega)).mpr hl⟩, fun k _ hb => ((opm_bit _).mp (h2 k hb)).2⟩

theorem c_allOpen_loop {h : Hp} {a : Fl} {tf : Nat → Int32} {d N S : Nat} {Q : Option Value → Hp → Prop} (c1 : CZ h a tf) (hv : IC a) (hW : IW (a 0) (snap a)) {p : Int32} (hN : pn h ≤ N) (hS : ps h ≤ S) (hd : 2 ≤ d) (K : T d N S mX8_allOpen 52 [some (.ref 8), some (.int p), some (.int (nI (opm (snap a) (a 11)))), some (.int (nI (a 11)))] [] h Q) : ∀ r i, i + r = a 11 → T d N S mX8_allOpen 4 [some (.ref 8), some (.int p), some (.int (nI (opm (snap a) i))), some (.int (nI i))] [] h Q := by
  have v0 := hv.1
  have v11 := hv.2.2.2.2.2.2.2.2.2.2.2.1
  have p8 : 2 ^ a 0 ≤ 2 ^ 8 := Nat.pow_le_pow_right (by omega) v0
  intro r
  induction r with
  | zero =>
    intro i hi
    have e : i = a 11 := by omega
    subst e
    refine z_iload_n dX8_allOpen_4 rfl rfl ?_
    refine z_aload_n dX8_allOpen_5 rfl rfl ?_
    refine y_getR FX8_10 dX8_allOpen_6 rfl c1.1.1 c1.1.2.1 ?_
    refine y_getR FX8_79 dX8_allOpen_9 rfl c1.1.2.2.2.2.1.o c1.1.2.2.2.2.1.f0 ?_
    refine y_getR FX8_127 dX8_allOpen_12 rfl c1.1.2.2.2.2.1.now.1 c1.1.2.2.2.2.1.now.2.2.2.1 ?_
    refine y_getI FX8_130 dX8_allOpen_15 (Or.inl rfl) c1.1.2.2.2.2.1.now.2.2.2.2.1.1 ?_
    refine z_eqi (y := nI (a 11)) (show _ = nI (a 11) from c1.2.1.2.2.2.2.2.1.2.2.1) ?_
    refine z_icmp_ge dX8_allOpen_18 rfl (fun _ => ?_) (fun c => absurd (Int32.le_refl _) c)
    exact K
  | succ r ih =>
    intro i hi
    by_cases ho : snap a (pcx i 5) = 0
    · have hoo : opnW (snap a) (nI i) := ⟨(vin_nI (by omega) (by show a 11 < _; omega)).mpr (show i < a 11 by omega), by rw [nn_nI (by omega)]; exact ho⟩
      have e : opm (snap a) (i + 1) = (opm (snap a) i) ||| 2 ^ i := by
        show _ ||| (if _ then _ else _) = _
        rw [if_pos ho]
      refine z_iload_n dX8_allOpen_4 rfl rfl ?_
      refine z_aload_n dX8_allOpen_5 rfl rfl ?_
      refine y_getR FX8_10 dX8_allOpen_6 rfl c1.1.1 c1.1.2.1 ?_
      refine y_getR FX8_79 dX8_allOpen_9 rfl c1.1.2.2.2.2.1.o c1.1.2.2.2.2.1.f0 ?_
      refine y_getR FX8_127 dX8_allOpen_12 rfl c1.1.2.2.2.2.1.now.1 c1.1.2.2.2.2.1.now.2.2.2.1 ?_
      refine y_getI FX8_130 dX8_allOpen_15 (Or.inl rfl) c1.1.2.2.2.2.1.now.2.2.2.2.1.1 ?_
      refine z_eqi (y := nI (a 11)) (show _ = nI (a 11) from c1.2.1.2.2.2.2.2.1.2.2.1) ?_
      refine z_icmp_ge dX8_allOpen_18 rfl (fun c => absurd c (fun q => absurd ((nI_leI (by omega) (by omega)).mp q) (by omega))) (fun _ => ?_)
      refine z_iload_n dX8_allOpen_21 rfl rfl ?_
      refine z_aload_n dX8_allOpen_22 rfl rfl ?_
      refine y_getR FX8_10 dX8_allOpen_23 rfl c1.1.1 c1.1.2.1 ?_
      refine y_getR FX8_79 dX8_allOpen_26 rfl c1.1.2.2.2.2.1.o c1.1.2.2.2.2.1.f0 ?_
      refine z_iload_n dX8_allOpen_29 rfl rfl ?_
      refine y_callV (as := [_]) CX7_isOpen LX8_167 IX7_isOpen VX7_isOpen ⟨rfl, Nat.le_of_ble_eq_true rfl⟩ dX8_allOpen_30 c1.1.2.2.2.2.1.now.1 rfl (Nat.le_of_ble_eq_true rfl) (Nat.le_of_ble_eq_true rfl) (by omega) (c_isOpenW (by exact c1.1.2.2.2.2.1.now) c1.2.1 (fun k hk => (hW.2.2.1 k hk).2.2.2.2.2.2) (nI i) (by omega)) (rok_z bI_01) ⟨Nat.le_refl _, Nat.le_refl _, hN, hS⟩ ?_
      refine z_if_eq dX8_allOpen_33 rfl (fun c => absurd c (bI_ne0.mpr hoo)) (fun _ => ?_)
      refine z_iload_n dX8_allOpen_36 rfl rfl ?_
      refine y_callS (as := [_]) CX8_bit LX8_163 SX8_bit dX8_allOpen_37 rfl (Nat.le_of_ble_eq_true rfl) (Nat.le_of_ble_eq_true rfl) (by omega) (s_bit _) rok_i ⟨Nat.le_refl _, Nat.le_refl _, hN, hS⟩ ?_
      refine z_eqi (nI_bit (show i < 31 by omega)) ?_
      refine z_goto dX8_allOpen_40 rfl ?_
      refine z_ior dX8_allOpen_44 ?_
      refine z_eqi (nI_or _ _) ?_
      refine z_istore_n dX8_allOpen_45 rfl (Nat.le_of_ble_eq_true rfl) ?_
      refine z_iinc dX8_allOpen_46 rfl (nI_1 _) (Nat.le_of_ble_eq_true rfl) ?_
      refine z_goto dX8_allOpen_49 rfl ?_
      have K2 := ih (i + 1) (by omega)
      rw [e] at K2
      exact K2
    · have hoo : ¬ opnW (snap a) (nI i) := fun c => ho (by have := c.2; rw [nn_nI (by omega)] at this; exact this)
      have e : opm (snap a) (i + 1) = (opm (snap a) i) ||| 0 := by
        show _ ||| (if _ then _ else _) = _
        rw [if_neg ho]
      refine z_iload_n dX8_allOpen_4 rfl rfl ?_
      refine z_aload_n dX8_allOpen_5 rfl rfl ?_
      refine y_getR FX8_10 dX8_allOpen_6 rfl c1.1.1 c1.1.2.1 ?_
      refine y_getR FX8_79 dX8_allOpen_9 rfl c1.1.2.2.2.2.1.o c1.1.2.2.2.2.1.f0 ?_
      refine y_getR FX8_127 dX8_allOpen_12 rfl c1.1.2.2.2.2.1.now.1 c1.1.2.2.2.2.1.now.2.2.2.1 ?_
      refine y_getI FX8_130 dX8_allOpen_15 (Or.inl rfl) c1.1.2.2.2.2.1.now.2.2.2.2.1.1 ?_
      refine z_eqi (y := nI (a 11)) (show _ = nI (a 11) from c1.2.1.2.2.2.2.2.1.2.2.1) ?_
      refine z_icmp_ge dX8_allOpen_18 rfl (fun c => absurd c (fun q => absurd ((nI_leI (by omega) (by omega)).mp q) (by omega))) (fun _ => ?_)
      refine z_iload_n dX8_allOpen_21 rfl rfl ?_
      refine z_aload_n dX8_allOpen_22 rfl rfl ?_
      refine y_getR FX8_10 dX8_allOpen_23 rfl c1.1.1 c1.1.2.1 ?_
      refine y_getR FX8_79 dX8_allOpen_26 rfl c1.1.2.2.2.2.1.o c1.1.2.2.2.2.1.f0 ?_
      refine z_iload_n dX8_allOpen_29 rfl rfl ?_
      refine y_callV (as := [_]) CX7_isOpen LX8_167 IX7_isOpen VX7_isOpen ⟨rfl, Nat.le_of_ble_eq_true rfl⟩ dX8_allOpen_30 c1.1.2.2.2.2.1.now.1 rfl (Nat.le_of_ble_eq_true rfl) (Nat.le_of_ble_eq_true rfl) (by omega) (c_isOpenW (by exact c1.1.2.2.2.2.1.now) c1.2.1 (fun k hk => (hW.2.2.1 k hk).2.2.2.2.2.2) (nI i) (by omega)) (rok_z bI_01) ⟨Nat.le_refl _, Nat.le_refl _, hN, hS⟩ ?_
      refine z_if_eq dX8_allOpen_33 rfl (fun _ => ?_) (fun c => absurd (bI_eq0.mpr hoo) c)
      refine z_iconst (v := 0) dX8_allOpen_43 (by decide) ?_
      refine z_ior dX8_allOpen_44 ?_
      refine z_eqi (show _ = nI ((opm (snap a) i) ||| 0) from nI_or _ 0) ?_
      refine z_istore_n dX8_allOpen_45 rfl (Nat.le_of_ble_eq_true rfl) ?_
      refine z_iinc dX8_allOpen_46 rfl (nI_1 _) (Nat.le_of_ble_eq_true rfl) ?_
      refine z_goto dX8_allOpen_49 rfl ?_
      have K2 := ih (i + 1) (by omega)
      rw [e] at K2
      exact K2

theorem c_allOpen {h : Hp} {a : Fl} {tf : Nat → Int32} {d : Nat} (c1 : CZ h a tf) (hv : IC a) (hW : IW (a 0) (snap a)) (p : Int32) (hd : 2 ≤ d) : Sp d mX8_allOpen [.ref 8, .int p] h (some (.int (bI (okP a p)))) h := by
  have v0 := hv.1
  have v11 := hv.2.2.2.2.2.2.2.2.2.2.2.1
  have p8 : 2 ^ a 0 ≤ 2 ^ 8 := Nat.pow_le_pow_right (by omega) v0
  intro N S Q hN hS hQ
  have K : T d N S mX8_allOpen 52 [some (.ref 8), some (.int p), some (.int (nI (opm (snap a) (a 11)))), some (.int (nI (a 11)))] [] h Q := by
    by_cases h0 : p ≤ 0
    · rw [bI_f (fun c => absurd (Int32.le_trans c.1.1 h0) (by decide))] at hQ
      refine z_iload_n dX8_allOpen_52 rfl rfl ?_
      refine z_if_le dX8_allOpen_53 rfl (fun _ => ?_) (fun c => absurd (h0) c)
      refine z_iconst (v := 0) dX8_allOpen_68 (by decide) ?_
      refine z_iret dX8_allOpen_69 ?_
      exact hQ
    · obtain ⟨q, hq, rfl⟩ := pos_nI (Int32.le_of_lt (Int32.not_le.mp h0))
      have iff := okP_sub (a := a) hq v11
      have q0 : 0 < q := by
        rcases Nat.eq_zero_or_pos q with e | e
        · subst e; exact absurd (by decide) h0
        · exact e
      have hl := dif_le q (opm (snap a) (a 11))
      by_cases hz : dif q (opm (snap a) (a 11)) = 0
      · rw [bI_t (iff.mpr ⟨q0, hz⟩)] at hQ
        refine z_iload_n dX8_allOpen_52 rfl rfl ?_
        refine z_if_le dX8_allOpen_53 rfl (fun c => absurd c (h0)) (fun _ => ?_)
        refine z_iload_n dX8_allOpen_56 rfl rfl ?_
        refine z_iload_n dX8_allOpen_57 rfl rfl ?_
        refine z_iconst (v := -1) dX8_allOpen_58 (by decide) ?_
        refine z_ixor dX8_allOpen_59 ?_
        refine z_iand dX8_allOpen_60 ?_
        refine z_eqi (nI_dif q (opm (snap a) (a 11))) ?_
        refine z_if_ne dX8_allOpen_61 rfl (fun c => absurd (congrArg nI hz) c) (fun _ => ?_)
        refine z_iconst (v := 1) dX8_allOpen_64 (by decide) ?_
        refine z_goto dX8_allOpen_65 rfl ?_
        refine z_iret dX8_allOpen_69 ?_
        exact hQ
      · rw [bI_f (fun c => hz (iff.mp c).2)] at hQ
        refine z_iload_n dX8_allOpen_52 rfl rfl ?_
        refine z_if_le dX8_allOpen_53 rfl (fun c => absurd c (h0)) (fun _ => ?_)
        refine z_iload_n dX8_allOpen_56 rfl rfl ?_
        refine z_iload_n dX8_allOpen_57 rfl rfl ?_
        refine z_iconst (v := -1) dX8_allOpen_58 (by decide) ?_
        refine z_ixor dX8_allOpen_59 ?_
        refine z_iand dX8_allOpen_60 ?_
        refine z_eqi (nI_dif q (opm (snap a) (a 11))) ?_
        refine z_if_ne dX8_allOpen_61 rfl (fun _ => ?_) (fun c => absurd c (fun c => hz ((nI_eq (b := 0) (by omega) (by omega)).mp c)))
        refine z_iconst (v := 0) dX8_allOpen_68 (by decide) ?_
        refine z_iret dX8_allOpen_69 ?_
        exact hQ
  refine z_iconst (v := 0) dX8_allOpen_0 (by decide) ?_
  refine z_istore_n dX8_allOpen_1 rfl (Nat.le_of_ble_eq_true rfl) ?_
  refine z_iconst (v := 0) dX8_allOpen_2 (by decide) ?_
  refine z_istore_n dX8_allOpen_3 rfl (Nat.le_of_ble_eq_true rfl) ?_
  exact c_allOpen_loop c1 hv hW hN hS hd K (a 11) 0 (by omega)

theorem c_factsOf_loop {h : Hp} {a : Fl} {tf : Nat → Int32} {d N S : Nat} {Q : Option Value → Hp → Prop} (c1 : CZ h a tf) (hv : IC a) (hW : IW (a 0) (snap a)) {p : Nat} (hp : p < 4096) (hN : pn h ≤ N) (hS : ps h ≤ S) (hd : 1 ≤ d) (hQ : Q (some (.int (nI (uni (snap a) p (a 11))))) h) : ∀ r i, i + r = a 11 → T d N S mX8_factsOf 4 [some (.ref 8), some (.int (nI p)), some (.int (nI (uni (snap a) p i))), some (.int (nI i))] [] h Q := by
  have v0 := hv.1
  have v11 := hv.2.2.2.2.2.2.2.2.2.2.2.1
  have p8 : 2 ^ a 0 ≤ 2 ^ 8 := Nat.pow_le_pow_right (by omega) v0
  intro r
  induction r with
  | zero =>
    intro i hi
    have e : i = a 11 := by omega
    subst e
    refine z_iload_n dX8_factsOf_4 rfl rfl ?_
    refine z_aload_n dX8_factsOf_5 rfl rfl ?_
    refine y_getR FX8_10 dX8_factsOf_6 rfl c1.1.1 c1.1.2.1 ?_
    refine y_getR FX8_79 dX8_factsOf_9 rfl c1.1.2.2.2.2.1.o c1.1.2.2.2.2.1.f0 ?_
    refine y_getR FX8_127 dX8_factsOf_12 rfl c1.1.2.2.2.2.1.now.1 c1.1.2.2.2.2.1.now.2.2.2.1 ?_
    refine y_getI FX8_130 dX8_factsOf_15 (Or.inl rfl) c1.1.2.2.2.2.1.now.2.2.2.2.1.1 ?_
    refine z_eqi (y := nI (a 11)) (show _ = nI (a 11) from c1.2.1.2.2.2.2.2.1.2.2.1) ?_
    refine z_icmp_ge dX8_factsOf_18 rfl (fun _ => ?_) (fun c => absurd (Int32.le_refl _) c)
    refine z_iload_n dX8_factsOf_58 rfl rfl ?_
    refine z_iret dX8_factsOf_59 ?_
    exact hQ
  | succ r ih =>
    intro i hi
    have hzt : p.testBit i = true → ¬ nI p &&& (1 <<< (nI i &&& 31)) = 0 := fun hb q => by
      have := (and_bit (by omega) (by omega)).mp q
      rw [hb] at this
      exact absurd this (by decide)
    have hzf : ¬ p.testBit i = true → nI p &&& (1 <<< (nI i &&& 31)) = 0 := fun hb => (and_bit (by omega) (by omega)).mpr (by simpa using hb)
    by_cases hb : p.testBit i = true
    · have e : uni (snap a) p (i + 1) = (uni (snap a) p i) ||| snap a (pcx i 2) := by
        show _ ||| (if _ then _ else _) = _
        rw [if_pos hb]
      refine z_iload_n dX8_factsOf_4 rfl rfl ?_
      refine z_aload_n dX8_factsOf_5 rfl rfl ?_
      refine y_getR FX8_10 dX8_factsOf_6 rfl c1.1.1 c1.1.2.1 ?_
      refine y_getR FX8_79 dX8_factsOf_9 rfl c1.1.2.2.2.2.1.o c1.1.2.2.2.2.1.f0 ?_
      refine y_getR FX8_127 dX8_factsOf_12 rfl c1.1.2.2.2.2.1.now.1 c1.1.2.2.2.2.1.now.2.2.2.1 ?_
      refine y_getI FX8_130 dX8_factsOf_15 (Or.inl rfl) c1.1.2.2.2.2.1.now.2.2.2.2.1.1 ?_
      refine z_eqi (y := nI (a 11)) (show _ = nI (a 11) from c1.2.1.2.2.2.2.2.1.2.2.1) ?_
      refine z_icmp_ge dX8_factsOf_18 rfl (fun c => absurd c (fun q => absurd ((nI_leI (by omega) (by omega)).mp q) (by omega))) (fun _ => ?_)
      refine z_iload_n dX8_factsOf_21 rfl rfl ?_
      refine z_iload_n dX8_factsOf_22 rfl rfl ?_
      refine z_iload_n dX8_factsOf_23 rfl rfl ?_
      refine y_callS (as := [_]) CX8_bit LX8_163 SX8_bit dX8_factsOf_24 rfl (Nat.le_of_ble_eq_true rfl) (Nat.le_of_ble_eq_true rfl) (by omega) (s_bit _) rok_i ⟨Nat.le_refl _, Nat.le_refl _, hN, hS⟩ ?_
      refine z_iand dX8_factsOf_27 ?_
      refine z_if_ne dX8_factsOf_28 rfl (fun _ => ?_) (fun c => absurd c (hzt hb))
      refine z_aload_n dX8_factsOf_35 rfl rfl ?_
      refine y_getR FX8_10 dX8_factsOf_36 rfl c1.1.1 c1.1.2.1 ?_
      refine y_getR FX8_79 dX8_factsOf_39 rfl c1.1.2.2.2.2.1.o c1.1.2.2.2.2.1.f0 ?_
      refine y_getR FX8_127 dX8_factsOf_42 rfl c1.1.2.2.2.2.1.now.1 c1.1.2.2.2.2.1.now.2.2.2.1 ?_
      refine z_iload_n dX8_factsOf_45 rfl rfl ?_
      refine z_iconst (v := 2) dX8_factsOf_46 (by decide) ?_
      refine y_callV (as := [_, _]) CX4_get LX8_143 IX4_get VX4_get ⟨rfl, Nat.le_of_ble_eq_true rfl⟩ dX8_factsOf_47 c1.1.2.2.2.2.1.now.2.2.2.2.1.1 rfl (Nat.le_of_ble_eq_true rfl) (Nat.le_of_ble_eq_true rfl) (by omega) (s_get (k := 13) (w := 6) (ms := 12) (i := i) (j := 2) (by exact c1.1.2.2.2.2.1.now.2.2.2.2.1) c1.2.1.2.2.2.2.2.1 (show i < a 11 by omega) (by omega)) rok_i ⟨Nat.le_refl _, Nat.le_refl _, hN, hS⟩ ?_
      refine z_eqi (show _ = nI (snap a (pcx i 2)) from c1.2.1.2.2.2.2.2.2.1 (i * 6 + 2) (by show _ < a 11 * 6; omega)) ?_
      refine z_ior dX8_factsOf_50 ?_
      refine z_eqi (nI_or _ _) ?_
      refine z_istore_n dX8_factsOf_51 rfl (Nat.le_of_ble_eq_true rfl) ?_
      refine z_iinc dX8_factsOf_52 rfl (nI_1 _) (Nat.le_of_ble_eq_true rfl) ?_
      refine z_goto dX8_factsOf_55 rfl ?_
      have K2 := ih (i + 1) (by omega)
      rw [e] at K2
      exact K2
    · have e : uni (snap a) p (i + 1) = (uni (snap a) p i) ||| 0 := by
        show _ ||| (if _ then _ else _) = _
        rw [if_neg hb]
      refine z_iload_n dX8_factsOf_4 rfl rfl ?_
      refine z_aload_n dX8_factsOf_5 rfl rfl ?_
      refine y_getR FX8_10 dX8_factsOf_6 rfl c1.1.1 c1.1.2.1 ?_
      refine y_getR FX8_79 dX8_factsOf_9 rfl c1.1.2.2.2.2.1.o c1.1.2.2.2.2.1.f0 ?_
      refine y_getR FX8_127 dX8_factsOf_12 rfl c1.1.2.2.2.2.1.now.1 c1.1.2.2.2.2.1.now.2.2.2.1 ?_
      refine y_getI FX8_130 dX8_factsOf_15 (Or.inl rfl) c1.1.2.2.2.2.1.now.2.2.2.2.1.1 ?_
      refine z_eqi (y := nI (a 11)) (show _ = nI (a 11) from c1.2.1.2.2.2.2.2.1.2.2.1) ?_
      refine z_icmp_ge dX8_factsOf_18 rfl (fun c => absurd c (fun q => absurd ((nI_leI (by omega) (by omega)).mp q) (by omega))) (fun _ => ?_)
      refine z_iload_n dX8_factsOf_21 rfl rfl ?_
      refine z_iload_n dX8_factsOf_22 rfl rfl ?_
      refine z_iload_n dX8_factsOf_23 rfl rfl ?_
      refine y_callS (as := [_]) CX8_bit LX8_163 SX8_bit dX8_factsOf_24 rfl (Nat.le_of_ble_eq_true rfl) (Nat.le_of_ble_eq_true rfl) (by omega) (s_bit _) rok_i ⟨Nat.le_refl _, Nat.le_refl _, hN, hS⟩ ?_
      refine z_iand dX8_factsOf_27 ?_
      refine z_if_ne dX8_factsOf_28 rfl (fun c => absurd (hzf hb) c) (fun _ => ?_)
      refine z_iconst (v := 0) dX8_factsOf_31 (by decide) ?_
      refine z_goto dX8_factsOf_32 rfl ?_
      refine z_ior dX8_factsOf_50 ?_
      refine z_eqi (show _ = nI ((uni (snap a) p i) ||| 0) from nI_or _ 0) ?_
      refine z_istore_n dX8_factsOf_51 rfl (Nat.le_of_ble_eq_true rfl) ?_
      refine z_iinc dX8_factsOf_52 rfl (nI_1 _) (Nat.le_of_ble_eq_true rfl) ?_
      refine z_goto dX8_factsOf_55 rfl ?_
      have K2 := ih (i + 1) (by omega)
      rw [e] at K2
      exact K2
theorem c_factsOf {h : Hp} {a : Fl} {tf : Nat → Int32} {d : Nat} (c1 : CZ h a tf) (hv : IC a) (hW : IW (a 0) (snap a)) {p : Nat} (hp : p < 4096) (hd : 1 ≤ d) : Sp d mX8_factsOf [.ref 8, .int (nI p)] h (some (.int (nI (uni (snap a) p (a 11))))) h := by
  intro N S Q hN hS hQ
  refine z_iconst (v := 0) dX8_factsOf_0 (by decide) ?_
  refine z_istore_n dX8_factsOf_1 rfl (Nat.le_of_ble_eq_true rfl) ?_
  refine z_iconst (v := 0) dX8_factsOf_2 (by decide) ?_
  refine z_istore_n dX8_factsOf_3 rfl (Nat.le_of_ble_eq_true rfl) ?_
  exact c_factsOf_loop c1 hv hW hp hN hS hd hQ (a 11) 0 (by omega)

theorem c_costOf_loop {h : Hp} {a : Fl} {tf : Nat → Int32} {d N S : Nat} {Q : Option Value → Hp → Prop} (c1 : CZ h a tf) (hv : IC a) {U : Nat} (hU : U < 256) (hN : pn h ≤ N) (hS : ps h ≤ S) (hd : 1 ≤ d) (hQ : Q (some (.int (nI (cst a U (a 0))))) h) : ∀ r i, i + r = a 0 → T d N S mX8_costOf 4 [some (.ref 8), some (.int (nI U)), some (.int (nI (cst a U i))), some (.int (nI i))] [] h Q := by
  have v0 := hv.1
  have v11 := hv.2.2.2.2.2.2.2.2.2.2.2.1
  have p8 : 2 ^ a 0 ≤ 2 ^ 8 := Nat.pow_le_pow_right (by omega) v0
  have mv := c1.2.2.2.2.2.1
  intro r
  induction r with
  | zero =>
    intro i hi
    have e : i = a 0 := by omega
    subst e
    refine z_iload_n dX8_costOf_4 rfl rfl ?_
    refine z_aload_n dX8_costOf_5 rfl rfl ?_
    refine y_getR FX8_10 dX8_costOf_6 rfl c1.1.1 c1.1.2.1 ?_
    refine y_getR FX8_65 dX8_costOf_9 rfl c1.1.2.2.2.2.1.o c1.1.2.2.2.2.1.f4 ?_
    refine y_getI FX8_130 dX8_costOf_12 (Or.inl rfl) c1.1.2.2.2.2.1.facts.1 ?_
    refine z_eqi (y := nI (a 0)) (show _ = nI (a 0) from c1.2.2.2.2.2.1.1.2.2.1) ?_
    refine z_icmp_ge dX8_costOf_15 rfl (fun _ => ?_) (fun c => absurd (Int32.le_refl _) c)
    refine z_iload_n dX8_costOf_52 rfl rfl ?_
    refine z_iret dX8_costOf_53 ?_
    exact hQ
  | succ r ih =>
    intro i hi
    have hzt : U.testBit i = true → ¬ nI U &&& (1 <<< (nI i &&& 31)) = 0 := fun hb q => by
      have := (and_bit (by omega) (by omega)).mp q
      rw [hb] at this
      exact absurd this (by decide)
    have hzf : ¬ U.testBit i = true → nI U &&& (1 <<< (nI i &&& 31)) = 0 := fun hb => (and_bit (by omega) (by omega)).mpr (by simpa using hb)
    by_cases hb : U.testBit i = true
    · have e : cst a U (i + 1) = (cst a U i) + a (110 + 2 * i + 1) := by
        show _ + (if _ then _ else _) = _
        rw [if_pos hb]
      refine z_iload_n dX8_costOf_4 rfl rfl ?_
      refine z_aload_n dX8_costOf_5 rfl rfl ?_
      refine y_getR FX8_10 dX8_costOf_6 rfl c1.1.1 c1.1.2.1 ?_
      refine y_getR FX8_65 dX8_costOf_9 rfl c1.1.2.2.2.2.1.o c1.1.2.2.2.2.1.f4 ?_
      refine y_getI FX8_130 dX8_costOf_12 (Or.inl rfl) c1.1.2.2.2.2.1.facts.1 ?_
      refine z_eqi (y := nI (a 0)) (show _ = nI (a 0) from c1.2.2.2.2.2.1.1.2.2.1) ?_
      refine z_icmp_ge dX8_costOf_15 rfl (fun c => absurd c (fun q => absurd ((nI_leI (by omega) (by omega)).mp q) (by omega))) (fun _ => ?_)
      refine z_iload_n dX8_costOf_18 rfl rfl ?_
      refine z_iload_n dX8_costOf_19 rfl rfl ?_
      refine z_iload_n dX8_costOf_20 rfl rfl ?_
      refine y_callS (as := [_]) CX8_bit LX8_163 SX8_bit dX8_costOf_21 rfl (Nat.le_of_ble_eq_true rfl) (Nat.le_of_ble_eq_true rfl) (by omega) (s_bit _) rok_i ⟨Nat.le_refl _, Nat.le_refl _, hN, hS⟩ ?_
      refine z_iand dX8_costOf_24 ?_
      refine z_if_ne dX8_costOf_25 rfl (fun _ => ?_) (fun c => absurd c (hzt hb))
      refine z_aload_n dX8_costOf_32 rfl rfl ?_
      refine y_getR FX8_10 dX8_costOf_33 rfl c1.1.1 c1.1.2.1 ?_
      refine y_getR FX8_65 dX8_costOf_36 rfl c1.1.2.2.2.2.1.o c1.1.2.2.2.2.1.f4 ?_
      refine z_iload_n dX8_costOf_39 rfl rfl ?_
      refine z_iconst (v := 1) dX8_costOf_40 (by decide) ?_
      refine y_callV (as := [_, _]) CX4_get LX8_143 IX4_get VX4_get ⟨rfl, Nat.le_of_ble_eq_true rfl⟩ dX8_costOf_41 c1.1.2.2.2.2.1.facts.1 rfl (Nat.le_of_ble_eq_true rfl) (Nat.le_of_ble_eq_true rfl) (by omega) (s_get (k := 18) (w := 2) (ms := 8) (i := i) (j := 1) (by exact c1.1.2.2.2.2.1.facts) mv.1 (by omega) (by omega)) rok_i ⟨Nat.le_refl _, Nat.le_refl _, hN, hS⟩ ?_
      refine z_eqi (show _ = nI (a (110 + 2 * i + 1)) from (mv.2 (i * 2 + 1) (by omega)).trans (congrArg (fun u => nI (a u)) (by omega))) ?_
      refine z_iadd dX8_costOf_44 ?_
      refine z_eqi (nI_add _ _) ?_
      refine z_istore_n dX8_costOf_45 rfl (Nat.le_of_ble_eq_true rfl) ?_
      refine z_iinc dX8_costOf_46 rfl (nI_1 _) (Nat.le_of_ble_eq_true rfl) ?_
      refine z_goto dX8_costOf_49 rfl ?_
      have K2 := ih (i + 1) (by omega)
      rw [e] at K2
      exact K2
    · have e : cst a U (i + 1) = (cst a U i) + 0 := by
        show _ + (if _ then _ else _) = _
        rw [if_neg hb]
      refine z_iload_n dX8_costOf_4 rfl rfl ?_
      refine z_aload_n dX8_costOf_5 rfl rfl ?_
      refine y_getR FX8_10 dX8_costOf_6 rfl c1.1.1 c1.1.2.1 ?_
      refine y_getR FX8_65 dX8_costOf_9 rfl c1.1.2.2.2.2.1.o c1.1.2.2.2.2.1.f4 ?_
      refine y_getI FX8_130 dX8_costOf_12 (Or.inl rfl) c1.1.2.2.2.2.1.facts.1 ?_
      refine z_eqi (y := nI (a 0)) (show _ = nI (a 0) from c1.2.2.2.2.2.1.1.2.2.1) ?_
      refine z_icmp_ge dX8_costOf_15 rfl (fun c => absurd c (fun q => absurd ((nI_leI (by omega) (by omega)).mp q) (by omega))) (fun _ => ?_)
      refine z_iload_n dX8_costOf_18 rfl rfl ?_
      refine z_iload_n dX8_costOf_19 rfl rfl ?_
      refine z_iload_n dX8_costOf_20 rfl rfl ?_
      refine y_callS (as := [_]) CX8_bit LX8_163 SX8_bit dX8_costOf_21 rfl (Nat.le_of_ble_eq_true rfl) (Nat.le_of_ble_eq_true rfl) (by omega) (s_bit _) rok_i ⟨Nat.le_refl _, Nat.le_refl _, hN, hS⟩ ?_
      refine z_iand dX8_costOf_24 ?_
      refine z_if_ne dX8_costOf_25 rfl (fun c => absurd (hzf hb) c) (fun _ => ?_)
      refine z_iconst (v := 0) dX8_costOf_28 (by decide) ?_
      refine z_goto dX8_costOf_29 rfl ?_
      refine z_iadd dX8_costOf_44 ?_
      refine z_eqi (nI_add _ 0) ?_
      refine z_istore_n dX8_costOf_45 rfl (Nat.le_of_ble_eq_true rfl) ?_
      refine z_iinc dX8_costOf_46 rfl (nI_1 _) (Nat.le_of_ble_eq_true rfl) ?_
      refine z_goto dX8_costOf_49 rfl ?_
      have K2 := ih (i + 1) (by omega)
      rw [e] at K2
      exact K2
theorem c_costOf {h : Hp} {a : Fl} {tf : Nat → Int32} {d : Nat} (c1 : CZ h a tf) (hv : IC a) {U : Nat} (hU : U < 256) (hd : 1 ≤ d) : Sp d mX8_costOf [.ref 8, .int (nI U)] h (some (.int (nI (cst a U (a 0))))) h := by
  intro N S Q hN hS hQ
  refine z_iconst (v := 0) dX8_costOf_0 (by decide) ?_
  refine z_istore_n dX8_costOf_1 rfl (Nat.le_of_ble_eq_true rfl) ?_
  refine z_iconst (v := 0) dX8_costOf_2 (by decide) ?_
  refine z_istore_n dX8_costOf_3 rfl (Nat.le_of_ble_eq_true rfl) ?_
  exact c_costOf_loop c1 hv hU hN hS hd hQ (a 0) 0 (by omega)
theorem c_weightOf {h : Hp} {a : Fl} {tf : Nat → Int32} {d : Nat} (c1 : CZ h a tf) (hv : IC a) {U : Nat} (hU : U < 256) (hd : 2 ≤ d) : Sp d mX8_weightOf [.ref 8, .int (nI U)] h (some (.int (nI (wgt a U)))) h := by
  intro N S Q hN hS hQ
  refine z_aload_n dX8_weightOf_0 rfl rfl ?_
  refine z_iload_n dX8_weightOf_1 rfl rfl ?_
  refine y_callV (as := [_]) CX8_costOf LX8_341 IX8_costOf VX8_costOf ⟨rfl, Nat.le_of_ble_eq_true rfl⟩ dX8_weightOf_2 c1.1.1 rfl (Nat.le_of_ble_eq_true rfl) (Nat.le_of_ble_eq_true rfl) (by omega) (c_costOf (d := 1) (U := U) c1 hv hU (by omega)) rok_i ⟨Nat.le_refl _, Nat.le_refl _, hN, hS⟩ ?_
  refine z_bipush (v := 9) dX8_weightOf_5 (by decide) ?_
  refine z_imul dX8_weightOf_7 ?_
  refine z_eqi (pk_mul _ 9) ?_
  refine z_iload_n dX8_weightOf_8 rfl rfl ?_
  refine y_callS (as := [_]) CJ6_bitCount_0f7a4 LX8_279 SJ6_bitCount_0f7a4 dX8_weightOf_9 rfl (Nat.le_of_ble_eq_true rfl) (Nat.le_of_ble_eq_true rfl) (by omega) (s_bitCount (n := U) hU) rok_i ⟨Nat.le_refl _, Nat.le_refl _, hN, hS⟩ ?_
  refine z_iadd dX8_weightOf_12 ?_
  refine z_eqi (show _ = nI (wgt a U) from nI_add _ _) ?_
  refine z_iret dX8_weightOf_13 ?_
  exact hQ

theorem c_eachHolds_loop {h : Hp} {a : Fl} {tf : Nat → Int32} {d N S : Nat} {Q : Option Value → Hp → Prop} (c1 : CZ h a tf) (hv : IC a) (hW : IW (a 0) (snap a)) {p g : Nat} (hp : p < 4096) (hg : g < 256) (hN : pn h ≤ N) (hS : ps h ≤ S) (hd : 2 ≤ d) (hQ : Q (some (.int (bI (allH (snap a) p g (a 11) = true)))) h) : ∀ r i, i + r = a 11 → (∀ k, k < i → p.testBit k = true → hld (snap a) k g = true) → T d N S mX8_eachHolds 2 [some (.ref 8), some (.int (nI p)), some (.int (nI g)), some (.int (nI i))] [] h Q := by
  have v0 := hv.1
  have v11 := hv.2.2.2.2.2.2.2.2.2.2.2.1
  have p8 : 2 ^ a 0 ≤ 2 ^ 8 := Nat.pow_le_pow_right (by omega) v0
  intro r
  induction r with
  | zero =>
    intro i hi ha
    have e : i = a 11 := by omega
    subst e
    rw [bI_t ((allH_iff _).mpr ha)] at hQ
    refine z_iload_n dX8_eachHolds_2 rfl rfl ?_
    refine z_aload_n dX8_eachHolds_3 rfl rfl ?_
    refine y_getR FX8_10 dX8_eachHolds_4 rfl c1.1.1 c1.1.2.1 ?_
    refine y_getR FX8_79 dX8_eachHolds_7 rfl c1.1.2.2.2.2.1.o c1.1.2.2.2.2.1.f0 ?_
    refine y_getR FX8_127 dX8_eachHolds_10 rfl c1.1.2.2.2.2.1.now.1 c1.1.2.2.2.2.1.now.2.2.2.1 ?_
    refine y_getI FX8_130 dX8_eachHolds_13 (Or.inl rfl) c1.1.2.2.2.2.1.now.2.2.2.2.1.1 ?_
    refine z_eqi (y := nI (a 11)) (show _ = nI (a 11) from c1.2.1.2.2.2.2.2.1.2.2.1) ?_
    refine z_icmp_ge dX8_eachHolds_16 rfl (fun _ => ?_) (fun c => absurd (Int32.le_refl _) c)
    refine z_iconst (v := 1) dX8_eachHolds_51 (by decide) ?_
    refine z_iret dX8_eachHolds_52 ?_
    exact hQ
  | succ r ih =>
    intro i hi ha
    have hzt : p.testBit i = true → ¬ nI p &&& (1 <<< (nI i &&& 31)) = 0 := fun hb q => by
      have := (and_bit (by omega) (by omega)).mp q
      rw [hb] at this
      exact absurd this (by decide)
    have hzf : ¬ p.testBit i = true → nI p &&& (1 <<< (nI i &&& 31)) = 0 := fun hb => (and_bit (by omega) (by omega)).mpr (by simpa using hb)
    by_cases hb : p.testBit i = true
    · by_cases ho : hld (snap a) i g = true
      · skip
        refine z_iload_n dX8_eachHolds_2 rfl rfl ?_
        refine z_aload_n dX8_eachHolds_3 rfl rfl ?_
        refine y_getR FX8_10 dX8_eachHolds_4 rfl c1.1.1 c1.1.2.1 ?_
        refine y_getR FX8_79 dX8_eachHolds_7 rfl c1.1.2.2.2.2.1.o c1.1.2.2.2.2.1.f0 ?_
        refine y_getR FX8_127 dX8_eachHolds_10 rfl c1.1.2.2.2.2.1.now.1 c1.1.2.2.2.2.1.now.2.2.2.1 ?_
        refine y_getI FX8_130 dX8_eachHolds_13 (Or.inl rfl) c1.1.2.2.2.2.1.now.2.2.2.2.1.1 ?_
        refine z_eqi (y := nI (a 11)) (show _ = nI (a 11) from c1.2.1.2.2.2.2.2.1.2.2.1) ?_
        refine z_icmp_ge dX8_eachHolds_16 rfl (fun c => absurd c (fun q => absurd ((nI_leI (by omega) (by omega)).mp q) (by omega))) (fun _ => ?_)
        refine z_iload_n dX8_eachHolds_19 rfl rfl ?_
        refine z_iload_n dX8_eachHolds_20 rfl rfl ?_
        refine y_callS (as := [_]) CX8_bit LX8_163 SX8_bit dX8_eachHolds_21 rfl (Nat.le_of_ble_eq_true rfl) (Nat.le_of_ble_eq_true rfl) (by omega) (s_bit _) rok_i ⟨Nat.le_refl _, Nat.le_refl _, hN, hS⟩ ?_
        refine z_iand dX8_eachHolds_24 ?_
        refine z_if_eq dX8_eachHolds_25 rfl (fun c => absurd c (hzt hb)) (fun _ => ?_)
        refine z_aload_n dX8_eachHolds_28 rfl rfl ?_
        refine y_getR FX8_10 dX8_eachHolds_29 rfl c1.1.1 c1.1.2.1 ?_
        refine y_getR FX8_79 dX8_eachHolds_32 rfl c1.1.2.2.2.2.1.o c1.1.2.2.2.2.1.f0 ?_
        refine z_iload_n dX8_eachHolds_35 rfl rfl ?_
        refine z_iload_n dX8_eachHolds_36 rfl rfl ?_
        refine y_callV (as := [_, _]) CX7_wouldHold LX8_344 IX7_wouldHold VX7_wouldHold ⟨rfl, Nat.le_of_ble_eq_true rfl⟩ dX8_eachHolds_37 c1.1.2.2.2.2.1.now.1 rfl (Nat.le_of_ble_eq_true rfl) (Nat.le_of_ble_eq_true rfl) (by omega) (c_wouldHold (k := i) (g := g) (by exact c1.1.2.2.2.2.1.now) c1.2.1 hW v0 (show i < a 11 by omega) hg (by omega)) (rok_z bI_01) ⟨Nat.le_refl _, Nat.le_refl _, hN, hS⟩ ?_
        refine z_if_ne dX8_eachHolds_40 rfl (fun _ => ?_) (fun c => absurd c (bI_ne0.mpr ho))
        refine z_iinc dX8_eachHolds_45 rfl (nI_1 _) (Nat.le_of_ble_eq_true rfl) ?_
        refine z_goto dX8_eachHolds_48 rfl ?_
        refine ih (i + 1) (by omega) (fun k hk hp => ?_)
        by_cases e : k = i
        · rw [e]; exact ho
        · exact ha k (by omega) hp
      · rw [bI_f (fun c => ho ((allH_iff _).mp c i (by omega) hb))] at hQ
        refine z_iload_n dX8_eachHolds_2 rfl rfl ?_
        refine z_aload_n dX8_eachHolds_3 rfl rfl ?_
        refine y_getR FX8_10 dX8_eachHolds_4 rfl c1.1.1 c1.1.2.1 ?_
        refine y_getR FX8_79 dX8_eachHolds_7 rfl c1.1.2.2.2.2.1.o c1.1.2.2.2.2.1.f0 ?_
        refine y_getR FX8_127 dX8_eachHolds_10 rfl c1.1.2.2.2.2.1.now.1 c1.1.2.2.2.2.1.now.2.2.2.1 ?_
        refine y_getI FX8_130 dX8_eachHolds_13 (Or.inl rfl) c1.1.2.2.2.2.1.now.2.2.2.2.1.1 ?_
        refine z_eqi (y := nI (a 11)) (show _ = nI (a 11) from c1.2.1.2.2.2.2.2.1.2.2.1) ?_
        refine z_icmp_ge dX8_eachHolds_16 rfl (fun c => absurd c (fun q => absurd ((nI_leI (by omega) (by omega)).mp q) (by omega))) (fun _ => ?_)
        refine z_iload_n dX8_eachHolds_19 rfl rfl ?_
        refine z_iload_n dX8_eachHolds_20 rfl rfl ?_
        refine y_callS (as := [_]) CX8_bit LX8_163 SX8_bit dX8_eachHolds_21 rfl (Nat.le_of_ble_eq_true rfl) (Nat.le_of_ble_eq_true rfl) (by omega) (s_bit _) rok_i ⟨Nat.le_refl _, Nat.le_refl _, hN, hS⟩ ?_
        refine z_iand dX8_eachHolds_24 ?_
        refine z_if_eq dX8_eachHolds_25 rfl (fun c => absurd c (hzt hb)) (fun _ => ?_)
        refine z_aload_n dX8_eachHolds_28 rfl rfl ?_
        refine y_getR FX8_10 dX8_eachHolds_29 rfl c1.1.1 c1.1.2.1 ?_
        refine y_getR FX8_79 dX8_eachHolds_32 rfl c1.1.2.2.2.2.1.o c1.1.2.2.2.2.1.f0 ?_
        refine z_iload_n dX8_eachHolds_35 rfl rfl ?_
        refine z_iload_n dX8_eachHolds_36 rfl rfl ?_
        refine y_callV (as := [_, _]) CX7_wouldHold LX8_344 IX7_wouldHold VX7_wouldHold ⟨rfl, Nat.le_of_ble_eq_true rfl⟩ dX8_eachHolds_37 c1.1.2.2.2.2.1.now.1 rfl (Nat.le_of_ble_eq_true rfl) (Nat.le_of_ble_eq_true rfl) (by omega) (c_wouldHold (k := i) (g := g) (by exact c1.1.2.2.2.2.1.now) c1.2.1 hW v0 (show i < a 11 by omega) hg (by omega)) (rok_z bI_01) ⟨Nat.le_refl _, Nat.le_refl _, hN, hS⟩ ?_
        refine z_if_ne dX8_eachHolds_40 rfl (fun c => absurd (bI_eq0.mpr ho) c) (fun _ => ?_)
        refine z_iconst (v := 0) dX8_eachHolds_43 (by decide) ?_
        refine z_iret dX8_eachHolds_44 ?_
        exact hQ
    · skip
      refine z_iload_n dX8_eachHolds_2 rfl rfl ?_
      refine z_aload_n dX8_eachHolds_3 rfl rfl ?_
      refine y_getR FX8_10 dX8_eachHolds_4 rfl c1.1.1 c1.1.2.1 ?_
      refine y_getR FX8_79 dX8_eachHolds_7 rfl c1.1.2.2.2.2.1.o c1.1.2.2.2.2.1.f0 ?_
      refine y_getR FX8_127 dX8_eachHolds_10 rfl c1.1.2.2.2.2.1.now.1 c1.1.2.2.2.2.1.now.2.2.2.1 ?_
      refine y_getI FX8_130 dX8_eachHolds_13 (Or.inl rfl) c1.1.2.2.2.2.1.now.2.2.2.2.1.1 ?_
      refine z_eqi (y := nI (a 11)) (show _ = nI (a 11) from c1.2.1.2.2.2.2.2.1.2.2.1) ?_
      refine z_icmp_ge dX8_eachHolds_16 rfl (fun c => absurd c (fun q => absurd ((nI_leI (by omega) (by omega)).mp q) (by omega))) (fun _ => ?_)
      refine z_iload_n dX8_eachHolds_19 rfl rfl ?_
      refine z_iload_n dX8_eachHolds_20 rfl rfl ?_
      refine y_callS (as := [_]) CX8_bit LX8_163 SX8_bit dX8_eachHolds_21 rfl (Nat.le_of_ble_eq_true rfl) (Nat.le_of_ble_eq_true rfl) (by omega) (s_bit _) rok_i ⟨Nat.le_refl _, Nat.le_refl _, hN, hS⟩ ?_
      refine z_iand dX8_eachHolds_24 ?_
      refine z_if_eq dX8_eachHolds_25 rfl (fun _ => ?_) (fun c => absurd (hzf hb) c)
      refine z_iinc dX8_eachHolds_45 rfl (nI_1 _) (Nat.le_of_ble_eq_true rfl) ?_
      refine z_goto dX8_eachHolds_48 rfl ?_
      refine ih (i + 1) (by omega) (fun k hk hp => ?_)
      by_cases e : k = i
      · rw [e] at hp; exact absurd hp hb
      · exact ha k (by omega) hp
theorem c_eachHolds {h : Hp} {a : Fl} {tf : Nat → Int32} {d : Nat} (c1 : CZ h a tf) (hv : IC a) (hW : IW (a 0) (snap a)) {p g : Nat} (hp : p < 4096) (hg : g < 256) (hd : 2 ≤ d) : Sp d mX8_eachHolds [.ref 8, .int (nI p), .int (nI g)] h (some (.int (bI (allH (snap a) p g (a 11) = true)))) h := by
  intro N S Q hN hS hQ
  refine z_iconst (v := 0) dX8_eachHolds_0 (by decide) ?_
  refine z_istore_n dX8_eachHolds_1 rfl (Nat.le_of_ble_eq_true rfl) ?_
  exact c_eachHolds_loop c1 hv hW hp hg hN hS hd hQ (a 11) 0 (by omega) (fun k hk => by omega)

theorem c_noneHolds_loop {h : Hp} {a : Fl} {tf : Nat → Int32} {d N S : Nat} {Q : Option Value → Hp → Prop} (c1 : CZ h a tf) (hv : IC a) (hW : IW (a 0) (snap a)) {p g : Nat} (hp : p < 4096) (hg : g < 256) (hN : pn h ≤ N) (hS : ps h ≤ S) (hd : 2 ≤ d) (hQ : Q (some (.int (bI (nonH (snap a) p g (a 11) = true)))) h) : ∀ r i, i + r = a 11 → (∀ k, k < i → p.testBit k = true → hld (snap a) k g = false) → T d N S mX8_noneHolds 2 [some (.ref 8), some (.int (nI p)), some (.int (nI g)), some (.int (nI i))] [] h Q := by
  have v0 := hv.1
  have v11 := hv.2.2.2.2.2.2.2.2.2.2.2.1
  have p8 : 2 ^ a 0 ≤ 2 ^ 8 := Nat.pow_le_pow_right (by omega) v0
  intro r
  induction r with
  | zero =>
    intro i hi ha
    have e : i = a 11 := by omega
    subst e
    rw [bI_t ((nonH_iff _).mpr ha)] at hQ
    refine z_iload_n dX8_noneHolds_2 rfl rfl ?_
    refine z_aload_n dX8_noneHolds_3 rfl rfl ?_
    refine y_getR FX8_10 dX8_noneHolds_4 rfl c1.1.1 c1.1.2.1 ?_
    refine y_getR FX8_79 dX8_noneHolds_7 rfl c1.1.2.2.2.2.1.o c1.1.2.2.2.2.1.f0 ?_
    refine y_getR FX8_127 dX8_noneHolds_10 rfl c1.1.2.2.2.2.1.now.1 c1.1.2.2.2.2.1.now.2.2.2.1 ?_
    refine y_getI FX8_130 dX8_noneHolds_13 (Or.inl rfl) c1.1.2.2.2.2.1.now.2.2.2.2.1.1 ?_
    refine z_eqi (y := nI (a 11)) (show _ = nI (a 11) from c1.2.1.2.2.2.2.2.1.2.2.1) ?_
    refine z_icmp_ge dX8_noneHolds_16 rfl (fun _ => ?_) (fun c => absurd (Int32.le_refl _) c)
    refine z_iconst (v := 1) dX8_noneHolds_51 (by decide) ?_
    refine z_iret dX8_noneHolds_52 ?_
    exact hQ
  | succ r ih =>
    intro i hi ha
    have hzt : p.testBit i = true → ¬ nI p &&& (1 <<< (nI i &&& 31)) = 0 := fun hb q => by
      have := (and_bit (by omega) (by omega)).mp q
      rw [hb] at this
      exact absurd this (by decide)
    have hzf : ¬ p.testBit i = true → nI p &&& (1 <<< (nI i &&& 31)) = 0 := fun hb => (and_bit (by omega) (by omega)).mpr (by simpa using hb)
    by_cases hb : p.testBit i = true
    · by_cases ho : hld (snap a) i g = true
      · rw [bI_f (fun c => by have := (nonH_iff _).mp c i (by omega) hb; rw [ho] at this; exact absurd this (by decide))] at hQ
        refine z_iload_n dX8_noneHolds_2 rfl rfl ?_
        refine z_aload_n dX8_noneHolds_3 rfl rfl ?_
        refine y_getR FX8_10 dX8_noneHolds_4 rfl c1.1.1 c1.1.2.1 ?_
        refine y_getR FX8_79 dX8_noneHolds_7 rfl c1.1.2.2.2.2.1.o c1.1.2.2.2.2.1.f0 ?_
        refine y_getR FX8_127 dX8_noneHolds_10 rfl c1.1.2.2.2.2.1.now.1 c1.1.2.2.2.2.1.now.2.2.2.1 ?_
        refine y_getI FX8_130 dX8_noneHolds_13 (Or.inl rfl) c1.1.2.2.2.2.1.now.2.2.2.2.1.1 ?_
        refine z_eqi (y := nI (a 11)) (show _ = nI (a 11) from c1.2.1.2.2.2.2.2.1.2.2.1) ?_
        refine z_icmp_ge dX8_noneHolds_16 rfl (fun c => absurd c (fun q => absurd ((nI_leI (by omega) (by omega)).mp q) (by omega))) (fun _ => ?_)
        refine z_iload_n dX8_noneHolds_19 rfl rfl ?_
        refine z_iload_n dX8_noneHolds_20 rfl rfl ?_
        refine y_callS (as := [_]) CX8_bit LX8_163 SX8_bit dX8_noneHolds_21 rfl (Nat.le_of_ble_eq_true rfl) (Nat.le_of_ble_eq_true rfl) (by omega) (s_bit _) rok_i ⟨Nat.le_refl _, Nat.le_refl _, hN, hS⟩ ?_
        refine z_iand dX8_noneHolds_24 ?_
        refine z_if_eq dX8_noneHolds_25 rfl (fun c => absurd c (hzt hb)) (fun _ => ?_)
        refine z_aload_n dX8_noneHolds_28 rfl rfl ?_
        refine y_getR FX8_10 dX8_noneHolds_29 rfl c1.1.1 c1.1.2.1 ?_
        refine y_getR FX8_79 dX8_noneHolds_32 rfl c1.1.2.2.2.2.1.o c1.1.2.2.2.2.1.f0 ?_
        refine z_iload_n dX8_noneHolds_35 rfl rfl ?_
        refine z_iload_n dX8_noneHolds_36 rfl rfl ?_
        refine y_callV (as := [_, _]) CX7_wouldHold LX8_344 IX7_wouldHold VX7_wouldHold ⟨rfl, Nat.le_of_ble_eq_true rfl⟩ dX8_noneHolds_37 c1.1.2.2.2.2.1.now.1 rfl (Nat.le_of_ble_eq_true rfl) (Nat.le_of_ble_eq_true rfl) (by omega) (c_wouldHold (k := i) (g := g) (by exact c1.1.2.2.2.2.1.now) c1.2.1 hW v0 (show i < a 11 by omega) hg (by omega)) (rok_z bI_01) ⟨Nat.le_refl _, Nat.le_refl _, hN, hS⟩ ?_
        refine z_if_eq dX8_noneHolds_40 rfl (fun c => absurd c (bI_ne0.mpr ho)) (fun _ => ?_)
        refine z_iconst (v := 0) dX8_noneHolds_43 (by decide) ?_
        refine z_iret dX8_noneHolds_44 ?_
        exact hQ
      · skip
        refine z_iload_n dX8_noneHolds_2 rfl rfl ?_
        refine z_aload_n dX8_noneHolds_3 rfl rfl ?_
        refine y_getR FX8_10 dX8_noneHolds_4 rfl c1.1.1 c1.1.2.1 ?_
        refine y_getR FX8_79 dX8_noneHolds_7 rfl c1.1.2.2.2.2.1.o c1.1.2.2.2.2.1.f0 ?_
        refine y_getR FX8_127 dX8_noneHolds_10 rfl c1.1.2.2.2.2.1.now.1 c1.1.2.2.2.2.1.now.2.2.2.1 ?_
        refine y_getI FX8_130 dX8_noneHolds_13 (Or.inl rfl) c1.1.2.2.2.2.1.now.2.2.2.2.1.1 ?_
        refine z_eqi (y := nI (a 11)) (show _ = nI (a 11) from c1.2.1.2.2.2.2.2.1.2.2.1) ?_
        refine z_icmp_ge dX8_noneHolds_16 rfl (fun c => absurd c (fun q => absurd ((nI_leI (by omega) (by omega)).mp q) (by omega))) (fun _ => ?_)
        refine z_iload_n dX8_noneHolds_19 rfl rfl ?_
        refine z_iload_n dX8_noneHolds_20 rfl rfl ?_
        refine y_callS (as := [_]) CX8_bit LX8_163 SX8_bit dX8_noneHolds_21 rfl (Nat.le_of_ble_eq_true rfl) (Nat.le_of_ble_eq_true rfl) (by omega) (s_bit _) rok_i ⟨Nat.le_refl _, Nat.le_refl _, hN, hS⟩ ?_
        refine z_iand dX8_noneHolds_24 ?_
        refine z_if_eq dX8_noneHolds_25 rfl (fun c => absurd c (hzt hb)) (fun _ => ?_)
        refine z_aload_n dX8_noneHolds_28 rfl rfl ?_
        refine y_getR FX8_10 dX8_noneHolds_29 rfl c1.1.1 c1.1.2.1 ?_
        refine y_getR FX8_79 dX8_noneHolds_32 rfl c1.1.2.2.2.2.1.o c1.1.2.2.2.2.1.f0 ?_
        refine z_iload_n dX8_noneHolds_35 rfl rfl ?_
        refine z_iload_n dX8_noneHolds_36 rfl rfl ?_
        refine y_callV (as := [_, _]) CX7_wouldHold LX8_344 IX7_wouldHold VX7_wouldHold ⟨rfl, Nat.le_of_ble_eq_true rfl⟩ dX8_noneHolds_37 c1.1.2.2.2.2.1.now.1 rfl (Nat.le_of_ble_eq_true rfl) (Nat.le_of_ble_eq_true rfl) (by omega) (c_wouldHold (k := i) (g := g) (by exact c1.1.2.2.2.2.1.now) c1.2.1 hW v0 (show i < a 11 by omega) hg (by omega)) (rok_z bI_01) ⟨Nat.le_refl _, Nat.le_refl _, hN, hS⟩ ?_
        refine z_if_eq dX8_noneHolds_40 rfl (fun _ => ?_) (fun c => absurd (bI_eq0.mpr ho) c)
        refine z_iinc dX8_noneHolds_45 rfl (nI_1 _) (Nat.le_of_ble_eq_true rfl) ?_
        refine z_goto dX8_noneHolds_48 rfl ?_
        refine ih (i + 1) (by omega) (fun k hk hp => ?_)
        by_cases e : k = i
        · rw [e]; simpa using ho
        · exact ha k (by omega) hp
    · skip
      refine z_iload_n dX8_noneHolds_2 rfl rfl ?_
      refine z_aload_n dX8_noneHolds_3 rfl rfl ?_
      refine y_getR FX8_10 dX8_noneHolds_4 rfl c1.1.1 c1.1.2.1 ?_
      refine y_getR FX8_79 dX8_noneHolds_7 rfl c1.1.2.2.2.2.1.o c1.1.2.2.2.2.1.f0 ?_
      refine y_getR FX8_127 dX8_noneHolds_10 rfl c1.1.2.2.2.2.1.now.1 c1.1.2.2.2.2.1.now.2.2.2.1 ?_
      refine y_getI FX8_130 dX8_noneHolds_13 (Or.inl rfl) c1.1.2.2.2.2.1.now.2.2.2.2.1.1 ?_
      refine z_eqi (y := nI (a 11)) (show _ = nI (a 11) from c1.2.1.2.2.2.2.2.1.2.2.1) ?_
      refine z_icmp_ge dX8_noneHolds_16 rfl (fun c => absurd c (fun q => absurd ((nI_leI (by omega) (by omega)).mp q) (by omega))) (fun _ => ?_)
      refine z_iload_n dX8_noneHolds_19 rfl rfl ?_
      refine z_iload_n dX8_noneHolds_20 rfl rfl ?_
      refine y_callS (as := [_]) CX8_bit LX8_163 SX8_bit dX8_noneHolds_21 rfl (Nat.le_of_ble_eq_true rfl) (Nat.le_of_ble_eq_true rfl) (by omega) (s_bit _) rok_i ⟨Nat.le_refl _, Nat.le_refl _, hN, hS⟩ ?_
      refine z_iand dX8_noneHolds_24 ?_
      refine z_if_eq dX8_noneHolds_25 rfl (fun _ => ?_) (fun c => absurd (hzf hb) c)
      refine z_iinc dX8_noneHolds_45 rfl (nI_1 _) (Nat.le_of_ble_eq_true rfl) ?_
      refine z_goto dX8_noneHolds_48 rfl ?_
      refine ih (i + 1) (by omega) (fun k hk hp => ?_)
      by_cases e : k = i
      · rw [e] at hp; exact absurd hp hb
      · exact ha k (by omega) hp
theorem c_noneHolds {h : Hp} {a : Fl} {tf : Nat → Int32} {d : Nat} (c1 : CZ h a tf) (hv : IC a) (hW : IW (a 0) (snap a)) {p g : Nat} (hp : p < 4096) (hg : g < 256) (hd : 2 ≤ d) : Sp d mX8_noneHolds [.ref 8, .int (nI p), .int (nI g)] h (some (.int (bI (nonH (snap a) p g (a 11) = true)))) h := by
  intro N S Q hN hS hQ
  refine z_iconst (v := 0) dX8_noneHolds_0 (by decide) ?_
  refine z_istore_n dX8_noneHolds_1 rfl (Nat.le_of_ble_eq_true rfl) ?_
  exact c_noneHolds_loop c1 hv hW hp hg hN hS hd hQ (a 11) 0 (by omega) (fun k hk => by omega)

theorem cFold_lt {P : Nat → Bool} {w : Nat → Nat} {b0 : Nat} : ∀ s, s ≤ b0 + 1 → cFold P w b0 s ≤ b0 := by
  intro s
  induction s with
  | zero => intro _; exact Nat.le_refl _
  | succ s ih =>
    intro hs
    rw [show cFold P w b0 (s + 1) = if P s = true ∧ w s < w (cFold P w b0 s) then s else cFold P w b0 s from rfl]
    split
    · omega
    · exact ih (by omega)
theorem wgt_lt {a : Fl} {U : Nat} (h0 : a 0 ≤ 8) (hf : IFc a) (hU : U < 256) : wgt a U < 8000 := by
  have := cst_le (S := U) hf (a 0) (Nat.le_refl _)
  have := pcn8 U hU
  unfold wgt
  omega
theorem c_least_loop {h : Hp} {a : Fl} {tf : Nat → Int32} {d N S : Nat} {Q : Option Value → Hp → Prop} (c1 : CZ h a tf) (hv : IC a) (hW : IW (a 0) (snap a)) (hf : IFc a) {p c : Nat} (hp : p < 4096) (hN : pn h ≤ N) (hS : ps h ≤ S) (hd : 3 ≤ d) (K : T d N S mX8_least 108 [some (.ref 8), some (.int (nI p)), some (.int (nI c)), some (.int (nI (lV_ a p))), some (.int (nI (cFold (PLc a p) (wgt a) (lV_ a p) (lV_ a p)))), some (.int (nI (wgt a (cFold (PLc a p) (wgt a) (lV_ a p) (lV_ a p))))), some (.int (nI (lV_ a p)))] [] h Q) : ∀ r i, i + r = lV_ a p → T d N S mX8_least 43 [some (.ref 8), some (.int (nI p)), some (.int (nI c)), some (.int (nI (lV_ a p))), some (.int (nI (cFold (PLc a p) (wgt a) (lV_ a p) i))), some (.int (nI (wgt a (cFold (PLc a p) (wgt a) (lV_ a p) i)))), some (.int (nI i))] [] h Q := by
  have v0 := hv.1
  have v11 := hv.2.2.2.2.2.2.2.2.2.2.2.1
  have p8 : 2 ^ a 0 ≤ 2 ^ 8 := Nat.pow_le_pow_right (by omega) v0
  have hu := uni_lt (p := p) hW (a 11) (Nat.le_refl _)
  have hV : lV_ a p < 256 := Nat.lt_of_le_of_lt (dif_le _ _) (by omega)
  have v10 : a 10 < 256 := hv.2.2.2.2.2.2.2.2.2.2.1
  intro r
  induction r with
  | zero =>
    intro i hi
    have e : i = lV_ a p := by omega
    rw [e]
    refine z_iload dX8_least_43 rfl ?_
    refine z_iload_n dX8_least_45 rfl rfl ?_
    refine z_icmp_ge dX8_least_46 rfl (fun _ => ?_) (fun c => absurd (Int32.le_refl _) c)
    exact K
  | succ r ih =>
    intro i hi
    have hi8 : i < 256 := by omega
    have hg : a 10 ||| i < 256 := Nat.or_lt_two_pow (n := 8) v10 hi8
    have bl := cFold_lt (P := PLc a p) (w := wgt a) (b0 := lV_ a p) i (by omega)
    have w1 := wgt_lt v0 hf hi8
    have w2 := wgt_lt (U := (cFold (PLc a p) (wgt a) (lV_ a p) i)) v0 hf (by omega)
    have dl := dif_le i (lV_ a p)
    have es : cFold (PLc a p) (wgt a) (lV_ a p) (i + 1) = if PLc a p i = true ∧ wgt a i < wgt a (cFold (PLc a p) (wgt a) (lV_ a p) i) then i else (cFold (PLc a p) (wgt a) (lV_ a p) i) := rfl
    have K2 := ih (i + 1) (by omega)
    by_cases hz : dif i (lV_ a p) = 0
    · by_cases hw : wgt a i < wgt a (cFold (PLc a p) (wgt a) (lV_ a p) i)
      · by_cases ha : allH (snap a) p (a 10 ||| i) (a 11) = true
        · rw [es, if_pos ⟨by unfold PLc; rw [Bool.and_eq_true, beq_iff_eq]; exact ⟨hz, ha⟩, hw⟩] at K2
          refine z_iload dX8_least_43 rfl ?_
          refine z_iload_n dX8_least_45 rfl rfl ?_
          refine z_icmp_ge dX8_least_46 rfl (fun c => absurd c (fun q => absurd ((nI_leI (by omega) (by omega)).mp q) (by omega))) (fun _ => ?_)
          refine z_iload dX8_least_49 rfl ?_
          refine z_iload_n dX8_least_51 rfl rfl ?_
          refine z_iconst (v := -1) dX8_least_52 (by decide) ?_
          refine z_ixor dX8_least_53 ?_
          refine z_iand dX8_least_54 ?_
          refine z_eqi (nI_dif i (lV_ a p)) ?_
          refine z_if_ne dX8_least_55 rfl (fun c => absurd (congrArg nI hz) c) (fun _ => ?_)
          refine z_aload_n dX8_least_58 rfl rfl ?_
          refine z_iload dX8_least_59 rfl ?_
          refine y_callV (as := [_]) CX8_weightOf LX8_335 IX8_weightOf VX8_weightOf ⟨rfl, Nat.le_of_ble_eq_true rfl⟩ dX8_least_61 c1.1.1 rfl (Nat.le_of_ble_eq_true rfl) (Nat.le_of_ble_eq_true rfl) (by omega) (c_weightOf (d := 2) (U := i) c1 hv hi8 (by omega)) rok_i ⟨Nat.le_refl _, Nat.le_refl _, hN, hS⟩ ?_
          refine z_iload dX8_least_64 rfl ?_
          refine z_icmp_ge dX8_least_66 rfl (fun c => absurd c (fun q => absurd ((nI_leI (by omega) (by omega)).mp q) (by omega))) (fun _ => ?_)
          refine z_aload_n dX8_least_69 rfl rfl ?_
          refine z_iload_n dX8_least_70 rfl rfl ?_
          refine z_aload_n dX8_least_71 rfl rfl ?_
          refine y_getR FX8_10 dX8_least_72 rfl c1.1.1 c1.1.2.1 ?_
          refine y_getR FX8_79 dX8_least_75 rfl c1.1.2.2.2.2.1.o c1.1.2.2.2.2.1.f0 ?_
          refine y_getI FX8_160 dX8_least_78 (Or.inl rfl) c1.1.2.2.2.2.1.now.1 ?_
          refine z_eqi (y := nI (a 10)) (show _ = nI (a 10) from c1.2.1.2.2.1) ?_
          refine z_iload dX8_least_81 rfl ?_
          refine z_ior dX8_least_83 ?_
          refine z_eqi (nI_or (a 10) i) ?_
          refine y_callV (as := [_, _]) CX8_eachHolds LX8_338 IX8_eachHolds VX8_eachHolds ⟨rfl, Nat.le_of_ble_eq_true rfl⟩ dX8_least_84 c1.1.1 rfl (Nat.le_of_ble_eq_true rfl) (Nat.le_of_ble_eq_true rfl) (by omega) (c_eachHolds (d := 2) (p := p) (g := a 10 ||| i) c1 hv hW hp hg (by omega)) (rok_z bI_01) ⟨Nat.le_refl _, Nat.le_refl _, hN, hS⟩ ?_
          refine z_if_eq dX8_least_87 rfl (fun c => absurd c (bI_ne0.mpr ha)) (fun _ => ?_)
          refine z_iload dX8_least_90 rfl ?_
          refine z_istore dX8_least_92 (Nat.le_of_ble_eq_true rfl) ?_
          refine z_aload_n dX8_least_94 rfl rfl ?_
          refine z_iload dX8_least_95 rfl ?_
          refine y_callV (as := [_]) CX8_weightOf LX8_335 IX8_weightOf VX8_weightOf ⟨rfl, Nat.le_of_ble_eq_true rfl⟩ dX8_least_97 c1.1.1 rfl (Nat.le_of_ble_eq_true rfl) (Nat.le_of_ble_eq_true rfl) (by omega) (c_weightOf (d := 2) (U := i) c1 hv hi8 (by omega)) rok_i ⟨Nat.le_refl _, Nat.le_refl _, hN, hS⟩ ?_
          refine z_istore dX8_least_100 (Nat.le_of_ble_eq_true rfl) ?_
          refine z_iinc dX8_least_102 rfl (nI_1 _) (Nat.le_of_ble_eq_true rfl) ?_
          refine z_goto dX8_least_105 rfl ?_
          exact K2
        · rw [es, if_neg (fun q => ha (by have := q.1; unfold PLc at this; rw [Bool.and_eq_true] at this; exact this.2))] at K2
          refine z_iload dX8_least_43 rfl ?_
          refine z_iload_n dX8_least_45 rfl rfl ?_
          refine z_icmp_ge dX8_least_46 rfl (fun c => absurd c (fun q => absurd ((nI_leI (by omega) (by omega)).mp q) (by omega))) (fun _ => ?_)
          refine z_iload dX8_least_49 rfl ?_
          refine z_iload_n dX8_least_51 rfl rfl ?_
          refine z_iconst (v := -1) dX8_least_52 (by decide) ?_
          refine z_ixor dX8_least_53 ?_
          refine z_iand dX8_least_54 ?_
          refine z_eqi (nI_dif i (lV_ a p)) ?_
          refine z_if_ne dX8_least_55 rfl (fun c => absurd (congrArg nI hz) c) (fun _ => ?_)
          refine z_aload_n dX8_least_58 rfl rfl ?_
          refine z_iload dX8_least_59 rfl ?_
          refine y_callV (as := [_]) CX8_weightOf LX8_335 IX8_weightOf VX8_weightOf ⟨rfl, Nat.le_of_ble_eq_true rfl⟩ dX8_least_61 c1.1.1 rfl (Nat.le_of_ble_eq_true rfl) (Nat.le_of_ble_eq_true rfl) (by omega) (c_weightOf (d := 2) (U := i) c1 hv hi8 (by omega)) rok_i ⟨Nat.le_refl _, Nat.le_refl _, hN, hS⟩ ?_
          refine z_iload dX8_least_64 rfl ?_
          refine z_icmp_ge dX8_least_66 rfl (fun c => absurd c (fun q => absurd ((nI_leI (by omega) (by omega)).mp q) (by omega))) (fun _ => ?_)
          refine z_aload_n dX8_least_69 rfl rfl ?_
          refine z_iload_n dX8_least_70 rfl rfl ?_
          refine z_aload_n dX8_least_71 rfl rfl ?_
          refine y_getR FX8_10 dX8_least_72 rfl c1.1.1 c1.1.2.1 ?_
          refine y_getR FX8_79 dX8_least_75 rfl c1.1.2.2.2.2.1.o c1.1.2.2.2.2.1.f0 ?_
          refine y_getI FX8_160 dX8_least_78 (Or.inl rfl) c1.1.2.2.2.2.1.now.1 ?_
          refine z_eqi (y := nI (a 10)) (show _ = nI (a 10) from c1.2.1.2.2.1) ?_
          refine z_iload dX8_least_81 rfl ?_
          refine z_ior dX8_least_83 ?_
          refine z_eqi (nI_or (a 10) i) ?_
          refine y_callV (as := [_, _]) CX8_eachHolds LX8_338 IX8_eachHolds VX8_eachHolds ⟨rfl, Nat.le_of_ble_eq_true rfl⟩ dX8_least_84 c1.1.1 rfl (Nat.le_of_ble_eq_true rfl) (Nat.le_of_ble_eq_true rfl) (by omega) (c_eachHolds (d := 2) (p := p) (g := a 10 ||| i) c1 hv hW hp hg (by omega)) (rok_z bI_01) ⟨Nat.le_refl _, Nat.le_refl _, hN, hS⟩ ?_
          refine z_if_eq dX8_least_87 rfl (fun _ => ?_) (fun c => absurd (bI_eq0.mpr ha) c)
          refine z_iinc dX8_least_102 rfl (nI_1 _) (Nat.le_of_ble_eq_true rfl) ?_
          refine z_goto dX8_least_105 rfl ?_
          exact K2
      · rw [es, if_neg (fun q => hw q.2)] at K2
        refine z_iload dX8_least_43 rfl ?_
        refine z_iload_n dX8_least_45 rfl rfl ?_
        refine z_icmp_ge dX8_least_46 rfl (fun c => absurd c (fun q => absurd ((nI_leI (by omega) (by omega)).mp q) (by omega))) (fun _ => ?_)
        refine z_iload dX8_least_49 rfl ?_
        refine z_iload_n dX8_least_51 rfl rfl ?_
        refine z_iconst (v := -1) dX8_least_52 (by decide) ?_
        refine z_ixor dX8_least_53 ?_
        refine z_iand dX8_least_54 ?_
        refine z_eqi (nI_dif i (lV_ a p)) ?_
        refine z_if_ne dX8_least_55 rfl (fun c => absurd (congrArg nI hz) c) (fun _ => ?_)
        refine z_aload_n dX8_least_58 rfl rfl ?_
        refine z_iload dX8_least_59 rfl ?_
        refine y_callV (as := [_]) CX8_weightOf LX8_335 IX8_weightOf VX8_weightOf ⟨rfl, Nat.le_of_ble_eq_true rfl⟩ dX8_least_61 c1.1.1 rfl (Nat.le_of_ble_eq_true rfl) (Nat.le_of_ble_eq_true rfl) (by omega) (c_weightOf (d := 2) (U := i) c1 hv hi8 (by omega)) rok_i ⟨Nat.le_refl _, Nat.le_refl _, hN, hS⟩ ?_
        refine z_iload dX8_least_64 rfl ?_
        refine z_icmp_ge dX8_least_66 rfl (fun _ => ?_) (fun c => absurd ((nI_leI (by omega) (by omega)).mpr (by omega)) c)
        refine z_iinc dX8_least_102 rfl (nI_1 _) (Nat.le_of_ble_eq_true rfl) ?_
        refine z_goto dX8_least_105 rfl ?_
        exact K2
    · rw [es, if_neg (fun q => hz (by have := q.1; unfold PLc at this; rw [Bool.and_eq_true, beq_iff_eq] at this; exact this.1))] at K2
      refine z_iload dX8_least_43 rfl ?_
      refine z_iload_n dX8_least_45 rfl rfl ?_
      refine z_icmp_ge dX8_least_46 rfl (fun c => absurd c (fun q => absurd ((nI_leI (by omega) (by omega)).mp q) (by omega))) (fun _ => ?_)
      refine z_iload dX8_least_49 rfl ?_
      refine z_iload_n dX8_least_51 rfl rfl ?_
      refine z_iconst (v := -1) dX8_least_52 (by decide) ?_
      refine z_ixor dX8_least_53 ?_
      refine z_iand dX8_least_54 ?_
      refine z_eqi (nI_dif i (lV_ a p)) ?_
      refine z_if_ne dX8_least_55 rfl (fun _ => ?_) (fun c => absurd c (fun q => hz ((nI_eq (b := 0) (by omega) (by omega)).mp q)))
      refine z_iinc dX8_least_102 rfl (nI_1 _) (Nat.le_of_ble_eq_true rfl) ?_
      refine z_goto dX8_least_105 rfl ?_
      exact K2

theorem C_least {h : Hp} {a : Fl} {tf : Nat → Int32} {d : Nat} (c1 : CZ h a tf) (hv : IC a) (hW : IW (a 0) (snap a)) (hf : IFc a) {c : Nat} (hc : c = 0 ∨ c = 1) (p : Int32) (hd : 3 ≤ d) : Sp d mX8_least [.ref 8, .int p, .int (nI c)] h (some (.int (mLeast a p c))) h := by
  have v0 := hv.1
  have v11 := hv.2.2.2.2.2.2.2.2.2.2.2.1
  have p8 : 2 ^ a 0 ≤ 2 ^ 8 := Nat.pow_le_pow_right (by omega) v0
  have p12 : 2 ^ a 11 ≤ 2 ^ 12 := Nat.pow_le_pow_right (by omega) v11
  intro N S Q hN hS hQ
  by_cases hk : okP a p
  · have eq : mLeast a p c = if c = 1 then nI (cst a (lBest a (nn p)) (a 0)) else nI (lBest a (nn p)) := if_pos hk
    rw [eq] at hQ
    obtain ⟨q, hq, rfl⟩ := vin_of (n := 2 ^ a 11) (x := p) (by omega) ⟨Int32.le_trans (by decide) hk.1.1, hk.1.2⟩
    rw [nn_nI (by omega)] at hQ
    have hu := uni_lt (p := q) hW (a 11) (Nat.le_refl _)
    have hV : lV_ a q < 256 := Nat.lt_of_le_of_lt (dif_le _ _) (by omega)
    have le := least_eq (p := q) v0 hW
    have bl := cFold_lt (P := PLc a q) (w := wgt a) (b0 := lV_ a q) (lV_ a q) (by omega)
    rw [← le] at hQ
    have K : T d N S mX8_least 108 [some (.ref 8), some (.int (nI q)), some (.int (nI c)), some (.int (nI (lV_ a q))), some (.int (nI (cFold (PLc a q) (wgt a) (lV_ a q) (lV_ a q)))), some (.int (nI (wgt a (cFold (PLc a q) (wgt a) (lV_ a q) (lV_ a q))))), some (.int (nI (lV_ a q)))] [] h Q := by
      rcases hc with hc | hc
      · rw [if_neg (by omega)] at hQ
        refine z_iload_n dX8_least_108 rfl rfl ?_
        refine z_if_eq dX8_least_109 rfl (fun _ => ?_) (fun c => absurd (congrArg nI hc) c)
        refine z_iload dX8_least_121 rfl ?_
        refine z_iret dX8_least_123 ?_
        exact hQ
      · rw [if_pos hc] at hQ
        refine z_iload_n dX8_least_108 rfl rfl ?_
        refine z_if_eq dX8_least_109 rfl (fun c => absurd c (fun q => absurd ((nI_eq (b := 0) (by omega) (by omega)).mp q) (by omega))) (fun _ => ?_)
        refine z_aload_n dX8_least_112 rfl rfl ?_
        refine z_iload dX8_least_113 rfl ?_
        refine y_callV (as := [_]) CX8_costOf LX8_341 IX8_costOf VX8_costOf ⟨rfl, Nat.le_of_ble_eq_true rfl⟩ dX8_least_115 c1.1.1 rfl (Nat.le_of_ble_eq_true rfl) (Nat.le_of_ble_eq_true rfl) (by omega) (c_costOf (d := 1) c1 hv (by omega) (Nat.le_refl _)) rok_i ⟨Nat.le_refl _, Nat.le_refl _, hN, hS⟩ ?_
        refine z_goto dX8_least_118 rfl ?_
        refine z_iret dX8_least_123 ?_
        exact hQ
    have L := c_least_loop c1 hv hW hf (c := c) (show q < 4096 by omega) hN hS hd K (lV_ a q) 0 (by omega)
    refine z_aload_n dX8_least_0 rfl rfl ?_
    refine z_iload_n dX8_least_1 rfl rfl ?_
    refine y_callV (as := [_]) CX8_allOpen LX8_329 IX8_allOpen VX8_allOpen ⟨rfl, Nat.le_of_ble_eq_true rfl⟩ dX8_least_2 c1.1.1 rfl (Nat.le_of_ble_eq_true rfl) (Nat.le_of_ble_eq_true rfl) (by omega) (c_allOpen (d := 2) c1 hv hW _ (Nat.le_refl _)) (rok_z bI_01) ⟨Nat.le_refl _, Nat.le_refl _, hN, hS⟩ ?_
    refine z_if_ne dX8_least_5 rfl (fun _ => ?_) (fun c => absurd c (bI_ne0.mpr hk))
    refine z_aload_n dX8_least_10 rfl rfl ?_
    refine z_iload_n dX8_least_11 rfl rfl ?_
    refine y_callV (as := [_]) CX8_factsOf LX8_332 IX8_factsOf VX8_factsOf ⟨rfl, Nat.le_of_ble_eq_true rfl⟩ dX8_least_12 c1.1.1 rfl (Nat.le_of_ble_eq_true rfl) (Nat.le_of_ble_eq_true rfl) (by omega) (c_factsOf (d := 1) (p := q) c1 hv hW (by omega) (Nat.le_refl _)) rok_i ⟨Nat.le_refl _, Nat.le_refl _, hN, hS⟩ ?_
    refine z_aload_n dX8_least_15 rfl rfl ?_
    refine y_getR FX8_10 dX8_least_16 rfl c1.1.1 c1.1.2.1 ?_
    refine y_getR FX8_79 dX8_least_19 rfl c1.1.2.2.2.2.1.o c1.1.2.2.2.2.1.f0 ?_
    refine y_getI FX8_160 dX8_least_22 (Or.inl rfl) c1.1.2.2.2.2.1.now.1 ?_
    refine z_eqi (y := nI (a 10)) (show _ = nI (a 10) from c1.2.1.2.2.1) ?_
    refine z_iconst (v := -1) dX8_least_25 (by decide) ?_
    refine z_ixor dX8_least_26 ?_
    refine z_iand dX8_least_27 ?_
    refine z_eqi (nI_dif (uni (snap a) q (a 11)) (a 10)) ?_
    refine z_istore_n dX8_least_28 rfl (Nat.le_of_ble_eq_true rfl) ?_
    refine z_iload_n dX8_least_29 rfl rfl ?_
    refine z_istore dX8_least_30 (Nat.le_of_ble_eq_true rfl) ?_
    refine z_aload_n dX8_least_32 rfl rfl ?_
    refine z_iload dX8_least_33 rfl ?_
    refine y_callV (as := [_]) CX8_weightOf LX8_335 IX8_weightOf VX8_weightOf ⟨rfl, Nat.le_of_ble_eq_true rfl⟩ dX8_least_35 c1.1.1 rfl (Nat.le_of_ble_eq_true rfl) (Nat.le_of_ble_eq_true rfl) (by omega) (c_weightOf (d := 2) (U := lV_ a q) c1 hv hV (Nat.le_refl _)) rok_i ⟨Nat.le_refl _, Nat.le_refl _, hN, hS⟩ ?_
    refine z_istore dX8_least_38 (Nat.le_of_ble_eq_true rfl) ?_
    refine z_iconst (v := 0) dX8_least_40 (by decide) ?_
    refine z_istore dX8_least_41 (Nat.le_of_ble_eq_true rfl) ?_
    exact L
  · have eq : mLeast a p c = -1 := if_neg hk
    rw [eq] at hQ
    refine z_aload_n dX8_least_0 rfl rfl ?_
    refine z_iload_n dX8_least_1 rfl rfl ?_
    refine y_callV (as := [_]) CX8_allOpen LX8_329 IX8_allOpen VX8_allOpen ⟨rfl, Nat.le_of_ble_eq_true rfl⟩ dX8_least_2 c1.1.1 rfl (Nat.le_of_ble_eq_true rfl) (Nat.le_of_ble_eq_true rfl) (by omega) (c_allOpen (d := 2) c1 hv hW _ (Nat.le_refl _)) (rok_z bI_01) ⟨Nat.le_refl _, Nat.le_refl _, hN, hS⟩ ?_
    refine z_if_ne dX8_least_5 rfl (fun c => absurd (bI_eq0.mpr hk) c) (fun _ => ?_)
    refine z_iconst (v := -1) dX8_least_8 (by decide) ?_
    refine z_iret dX8_least_9 ?_
    exact hQ

theorem c_stop_loop {h : Hp} {a : Fl} {tf : Nat → Int32} {d N S : Nat} {Q : Option Value → Hp → Prop} (c1 : CZ h a tf) (hv : IC a) (hW : IW (a 0) (snap a)) {p : Nat} (hp : p < 4096) (hN : pn h ≤ N) (hS : ps h ≤ S) (hd : 3 ≤ d) (hQ : Q (some (.int (nI (cFold (PSc a p) pcn (uni (snap a) p (a 11)) (uni (snap a) p (a 11)))))) h) : ∀ r i, i + r = (uni (snap a) p (a 11)) → T d N S mX8_stop 21 [some (.ref 8), some (.int (nI p)), some (.int (nI (uni (snap a) p (a 11)))), some (.int (nI (cFold (PSc a p) pcn (uni (snap a) p (a 11)) i))), some (.int (nI i))] [] h Q := by
  have v0 := hv.1
  have v11 := hv.2.2.2.2.2.2.2.2.2.2.2.1
  have p8 : 2 ^ a 0 ≤ 2 ^ 8 := Nat.pow_le_pow_right (by omega) v0
  have hu := uni_lt (p := p) hW (a 11) (Nat.le_refl _)
  intro r
  induction r with
  | zero =>
    intro i hi
    have e : i = (uni (snap a) p (a 11)) := by omega
    rw [e]
    refine z_iload dX8_stop_21 rfl ?_
    refine z_iload_n dX8_stop_23 rfl rfl ?_
    refine z_icmp_ge dX8_stop_24 rfl (fun _ => ?_) (fun c => absurd (Int32.le_refl _) c)
    refine z_iload_n dX8_stop_71 rfl rfl ?_
    refine z_iret dX8_stop_72 ?_
    exact hQ
  | succ r ih =>
    intro i hi
    have hi8 : i < 256 := by omega
    have hg : dif (uni (snap a) p (a 11)) i < 256 := Nat.lt_of_le_of_lt (dif_le _ _) (by omega)
    have bl := cFold_lt (P := PSc a p) (w := pcn) (b0 := (uni (snap a) p (a 11))) i (by omega)
    have w1 := pcn8 i hi8
    have w2 := pcn8 (cFold (PSc a p) pcn (uni (snap a) p (a 11)) i) (by omega)
    have dl := dif_le i (uni (snap a) p (a 11))
    have es : cFold (PSc a p) pcn (uni (snap a) p (a 11)) (i + 1) = if PSc a p i = true ∧ pcn i < pcn (cFold (PSc a p) pcn (uni (snap a) p (a 11)) i) then i else (cFold (PSc a p) pcn (uni (snap a) p (a 11)) i) := rfl
    have K2 := ih (i + 1) (by omega)
    by_cases hz : dif i (uni (snap a) p (a 11)) = 0
    · by_cases hw : pcn i < pcn (cFold (PSc a p) pcn (uni (snap a) p (a 11)) i)
      · by_cases ha : nonH (snap a) p (dif (uni (snap a) p (a 11)) i) (a 11) = true
        · rw [es, if_pos ⟨by unfold PSc; rw [Bool.and_eq_true, beq_iff_eq]; exact ⟨hz, ha⟩, hw⟩] at K2
          refine z_iload dX8_stop_21 rfl ?_
          refine z_iload_n dX8_stop_23 rfl rfl ?_
          refine z_icmp_ge dX8_stop_24 rfl (fun c => absurd c (fun q => absurd ((nI_leI (by omega) (by omega)).mp q) (by omega))) (fun _ => ?_)
          refine z_iload dX8_stop_27 rfl ?_
          refine z_iload_n dX8_stop_29 rfl rfl ?_
          refine z_iconst (v := -1) dX8_stop_30 (by decide) ?_
          refine z_ixor dX8_stop_31 ?_
          refine z_iand dX8_stop_32 ?_
          refine z_eqi (nI_dif i (uni (snap a) p (a 11))) ?_
          refine z_if_ne dX8_stop_33 rfl (fun c => absurd (congrArg nI hz) c) (fun _ => ?_)
          refine z_iload dX8_stop_36 rfl ?_
          refine y_callS (as := [_]) CJ6_bitCount_0f7a4 LX8_279 SJ6_bitCount_0f7a4 dX8_stop_38 rfl (Nat.le_of_ble_eq_true rfl) (Nat.le_of_ble_eq_true rfl) (by omega) (s_bitCount (n := i) hi8) rok_i ⟨Nat.le_refl _, Nat.le_refl _, hN, hS⟩ ?_
          refine z_iload_n dX8_stop_41 rfl rfl ?_
          refine y_callS (as := [_]) CJ6_bitCount_0f7a4 LX8_279 SJ6_bitCount_0f7a4 dX8_stop_42 rfl (Nat.le_of_ble_eq_true rfl) (Nat.le_of_ble_eq_true rfl) (by omega) (s_bitCount (by omega)) rok_i ⟨Nat.le_refl _, Nat.le_refl _, hN, hS⟩ ?_
          refine z_icmp_ge dX8_stop_45 rfl (fun c => absurd c (fun q => absurd ((nI_leI (by omega) (by omega)).mp q) (by omega))) (fun _ => ?_)
          refine z_aload_n dX8_stop_48 rfl rfl ?_
          refine z_iload_n dX8_stop_49 rfl rfl ?_
          refine z_iload_n dX8_stop_50 rfl rfl ?_
          refine z_iload dX8_stop_51 rfl ?_
          refine z_iconst (v := -1) dX8_stop_53 (by decide) ?_
          refine z_ixor dX8_stop_54 ?_
          refine z_iand dX8_stop_55 ?_
          refine z_eqi (nI_dif (uni (snap a) p (a 11)) i) ?_
          refine y_callV (as := [_, _]) CX8_noneHolds LX8_347 IX8_noneHolds VX8_noneHolds ⟨rfl, Nat.le_of_ble_eq_true rfl⟩ dX8_stop_56 c1.1.1 rfl (Nat.le_of_ble_eq_true rfl) (Nat.le_of_ble_eq_true rfl) (by omega) (c_noneHolds (d := 2) (p := p) (g := dif (uni (snap a) p (a 11)) i) c1 hv hW hp hg (by omega)) (rok_z bI_01) ⟨Nat.le_refl _, Nat.le_refl _, hN, hS⟩ ?_
          refine z_if_eq dX8_stop_59 rfl (fun c => absurd c (bI_ne0.mpr ha)) (fun _ => ?_)
          refine z_iload dX8_stop_62 rfl ?_
          refine z_istore_n dX8_stop_64 rfl (Nat.le_of_ble_eq_true rfl) ?_
          refine z_iinc dX8_stop_65 rfl (nI_1 _) (Nat.le_of_ble_eq_true rfl) ?_
          refine z_goto dX8_stop_68 rfl ?_
          exact K2
        · rw [es, if_neg (fun q => ha (by have := q.1; unfold PSc at this; rw [Bool.and_eq_true] at this; exact this.2))] at K2
          refine z_iload dX8_stop_21 rfl ?_
          refine z_iload_n dX8_stop_23 rfl rfl ?_
          refine z_icmp_ge dX8_stop_24 rfl (fun c => absurd c (fun q => absurd ((nI_leI (by omega) (by omega)).mp q) (by omega))) (fun _ => ?_)
          refine z_iload dX8_stop_27 rfl ?_
          refine z_iload_n dX8_stop_29 rfl rfl ?_
          refine z_iconst (v := -1) dX8_stop_30 (by decide) ?_
          refine z_ixor dX8_stop_31 ?_
          refine z_iand dX8_stop_32 ?_
          refine z_eqi (nI_dif i (uni (snap a) p (a 11))) ?_
          refine z_if_ne dX8_stop_33 rfl (fun c => absurd (congrArg nI hz) c) (fun _ => ?_)
          refine z_iload dX8_stop_36 rfl ?_
          refine y_callS (as := [_]) CJ6_bitCount_0f7a4 LX8_279 SJ6_bitCount_0f7a4 dX8_stop_38 rfl (Nat.le_of_ble_eq_true rfl) (Nat.le_of_ble_eq_true rfl) (by omega) (s_bitCount (n := i) hi8) rok_i ⟨Nat.le_refl _, Nat.le_refl _, hN, hS⟩ ?_
          refine z_iload_n dX8_stop_41 rfl rfl ?_
          refine y_callS (as := [_]) CJ6_bitCount_0f7a4 LX8_279 SJ6_bitCount_0f7a4 dX8_stop_42 rfl (Nat.le_of_ble_eq_true rfl) (Nat.le_of_ble_eq_true rfl) (by omega) (s_bitCount (by omega)) rok_i ⟨Nat.le_refl _, Nat.le_refl _, hN, hS⟩ ?_
          refine z_icmp_ge dX8_stop_45 rfl (fun c => absurd c (fun q => absurd ((nI_leI (by omega) (by omega)).mp q) (by omega))) (fun _ => ?_)
          refine z_aload_n dX8_stop_48 rfl rfl ?_
          refine z_iload_n dX8_stop_49 rfl rfl ?_
          refine z_iload_n dX8_stop_50 rfl rfl ?_
          refine z_iload dX8_stop_51 rfl ?_
          refine z_iconst (v := -1) dX8_stop_53 (by decide) ?_
          refine z_ixor dX8_stop_54 ?_
          refine z_iand dX8_stop_55 ?_
          refine z_eqi (nI_dif (uni (snap a) p (a 11)) i) ?_
          refine y_callV (as := [_, _]) CX8_noneHolds LX8_347 IX8_noneHolds VX8_noneHolds ⟨rfl, Nat.le_of_ble_eq_true rfl⟩ dX8_stop_56 c1.1.1 rfl (Nat.le_of_ble_eq_true rfl) (Nat.le_of_ble_eq_true rfl) (by omega) (c_noneHolds (d := 2) (p := p) (g := dif (uni (snap a) p (a 11)) i) c1 hv hW hp hg (by omega)) (rok_z bI_01) ⟨Nat.le_refl _, Nat.le_refl _, hN, hS⟩ ?_
          refine z_if_eq dX8_stop_59 rfl (fun _ => ?_) (fun c => absurd (bI_eq0.mpr ha) c)
          refine z_iinc dX8_stop_65 rfl (nI_1 _) (Nat.le_of_ble_eq_true rfl) ?_
          refine z_goto dX8_stop_68 rfl ?_
          exact K2
      · rw [es, if_neg (fun q => hw q.2)] at K2
        refine z_iload dX8_stop_21 rfl ?_
        refine z_iload_n dX8_stop_23 rfl rfl ?_
        refine z_icmp_ge dX8_stop_24 rfl (fun c => absurd c (fun q => absurd ((nI_leI (by omega) (by omega)).mp q) (by omega))) (fun _ => ?_)
        refine z_iload dX8_stop_27 rfl ?_
        refine z_iload_n dX8_stop_29 rfl rfl ?_
        refine z_iconst (v := -1) dX8_stop_30 (by decide) ?_
        refine z_ixor dX8_stop_31 ?_
        refine z_iand dX8_stop_32 ?_
        refine z_eqi (nI_dif i (uni (snap a) p (a 11))) ?_
        refine z_if_ne dX8_stop_33 rfl (fun c => absurd (congrArg nI hz) c) (fun _ => ?_)
        refine z_iload dX8_stop_36 rfl ?_
        refine y_callS (as := [_]) CJ6_bitCount_0f7a4 LX8_279 SJ6_bitCount_0f7a4 dX8_stop_38 rfl (Nat.le_of_ble_eq_true rfl) (Nat.le_of_ble_eq_true rfl) (by omega) (s_bitCount (n := i) hi8) rok_i ⟨Nat.le_refl _, Nat.le_refl _, hN, hS⟩ ?_
        refine z_iload_n dX8_stop_41 rfl rfl ?_
        refine y_callS (as := [_]) CJ6_bitCount_0f7a4 LX8_279 SJ6_bitCount_0f7a4 dX8_stop_42 rfl (Nat.le_of_ble_eq_true rfl) (Nat.le_of_ble_eq_true rfl) (by omega) (s_bitCount (by omega)) rok_i ⟨Nat.le_refl _, Nat.le_refl _, hN, hS⟩ ?_
        refine z_icmp_ge dX8_stop_45 rfl (fun _ => ?_) (fun c => absurd ((nI_leI (by omega) (by omega)).mpr (by omega)) c)
        refine z_iinc dX8_stop_65 rfl (nI_1 _) (Nat.le_of_ble_eq_true rfl) ?_
        refine z_goto dX8_stop_68 rfl ?_
        exact K2
    · rw [es, if_neg (fun q => hz (by have := q.1; unfold PSc at this; rw [Bool.and_eq_true, beq_iff_eq] at this; exact this.1))] at K2
      refine z_iload dX8_stop_21 rfl ?_
      refine z_iload_n dX8_stop_23 rfl rfl ?_
      refine z_icmp_ge dX8_stop_24 rfl (fun c => absurd c (fun q => absurd ((nI_leI (by omega) (by omega)).mp q) (by omega))) (fun _ => ?_)
      refine z_iload dX8_stop_27 rfl ?_
      refine z_iload_n dX8_stop_29 rfl rfl ?_
      refine z_iconst (v := -1) dX8_stop_30 (by decide) ?_
      refine z_ixor dX8_stop_31 ?_
      refine z_iand dX8_stop_32 ?_
      refine z_eqi (nI_dif i (uni (snap a) p (a 11))) ?_
      refine z_if_ne dX8_stop_33 rfl (fun _ => ?_) (fun c => absurd c (fun q => hz ((nI_eq (b := 0) (by omega) (by omega)).mp q)))
      refine z_iinc dX8_stop_65 rfl (nI_1 _) (Nat.le_of_ble_eq_true rfl) ?_
      refine z_goto dX8_stop_68 rfl ?_
      exact K2

theorem C_stop {h : Hp} {a : Fl} {tf : Nat → Int32} {d : Nat} (c1 : CZ h a tf) (hv : IC a) (hW : IW (a 0) (snap a)) (p : Int32) (hd : 3 ≤ d) : Sp d mX8_stop [.ref 8, .int p] h (some (.int (mStop a p))) h := by
  have v0 := hv.1
  have v11 := hv.2.2.2.2.2.2.2.2.2.2.2.1
  have p8 : 2 ^ a 0 ≤ 2 ^ 8 := Nat.pow_le_pow_right (by omega) v0
  have p12 : 2 ^ a 11 ≤ 2 ^ 12 := Nat.pow_le_pow_right (by omega) v11
  intro N S Q hN hS hQ
  by_cases hk : okP a p
  · have eq : mStop a p = nI (sBest a (nn p)) := if_pos hk
    rw [eq] at hQ
    obtain ⟨q, hq, rfl⟩ := vin_of (n := 2 ^ a 11) (x := p) (by omega) ⟨Int32.le_trans (by decide) hk.1.1, hk.1.2⟩
    rw [nn_nI (by omega), ← stop_eq v0 hW] at hQ
    have L := c_stop_loop (d := d) c1 hv hW (show q < 4096 by omega) hN hS hd hQ (uni (snap a) q (a 11)) 0 (by omega)
    refine z_aload_n dX8_stop_0 rfl rfl ?_
    refine z_iload_n dX8_stop_1 rfl rfl ?_
    refine y_callV (as := [_]) CX8_allOpen LX8_329 IX8_allOpen VX8_allOpen ⟨rfl, Nat.le_of_ble_eq_true rfl⟩ dX8_stop_2 c1.1.1 rfl (Nat.le_of_ble_eq_true rfl) (Nat.le_of_ble_eq_true rfl) (by omega) (c_allOpen (d := 2) c1 hv hW _ (Nat.le_refl _)) (rok_z bI_01) ⟨Nat.le_refl _, Nat.le_refl _, hN, hS⟩ ?_
    refine z_if_ne dX8_stop_5 rfl (fun _ => ?_) (fun c => absurd c (bI_ne0.mpr hk))
    refine z_aload_n dX8_stop_10 rfl rfl ?_
    refine z_iload_n dX8_stop_11 rfl rfl ?_
    refine y_callV (as := [_]) CX8_factsOf LX8_332 IX8_factsOf VX8_factsOf ⟨rfl, Nat.le_of_ble_eq_true rfl⟩ dX8_stop_12 c1.1.1 rfl (Nat.le_of_ble_eq_true rfl) (Nat.le_of_ble_eq_true rfl) (by omega) (c_factsOf (d := 1) (p := q) c1 hv hW (by omega) (Nat.le_refl _)) rok_i ⟨Nat.le_refl _, Nat.le_refl _, hN, hS⟩ ?_
    refine z_istore_n dX8_stop_15 rfl (Nat.le_of_ble_eq_true rfl) ?_
    refine z_iload_n dX8_stop_16 rfl rfl ?_
    refine z_istore_n dX8_stop_17 rfl (Nat.le_of_ble_eq_true rfl) ?_
    refine z_iconst (v := 0) dX8_stop_18 (by decide) ?_
    refine z_istore dX8_stop_19 (Nat.le_of_ble_eq_true rfl) ?_
    exact L
  · have eq : mStop a p = -1 := if_neg hk
    rw [eq] at hQ
    refine z_aload_n dX8_stop_0 rfl rfl ?_
    refine z_iload_n dX8_stop_1 rfl rfl ?_
    refine y_callV (as := [_]) CX8_allOpen LX8_329 IX8_allOpen VX8_allOpen ⟨rfl, Nat.le_of_ble_eq_true rfl⟩ dX8_stop_2 c1.1.1 rfl (Nat.le_of_ble_eq_true rfl) (Nat.le_of_ble_eq_true rfl) (by omega) (c_allOpen (d := 2) c1 hv hW _ (Nat.le_refl _)) (rok_z bI_01) ⟨Nat.le_refl _, Nat.le_refl _, hN, hS⟩ ?_
    refine z_if_ne dX8_stop_5 rfl (fun c => absurd (bI_eq0.mpr hk) c) (fun _ => ?_)
    refine z_iconst (v := -1) dX8_stop_8 (by decide) ?_
    refine z_iret dX8_stop_9 ?_
    exact hQ

