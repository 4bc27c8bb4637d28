/-! odds, a fair fee: the class (walks by program: wip/whole/gen81.py) -/
theorem X8_power_loop {h : Hp} {d N S n : Nat} {Q : Option Value → Hp → Prop} {x : Nat} (hx : x < 2 ^ 31) (hn : n < 2 ^ 31) (K : T d N S mX8_power 22 [some (.int (nI x)), some (.int (nI n)), some (.long (lN (x ^ n))), none, some (.int (nI n))] [] h Q) : ∀ r i : Nat, i + r = n → T d N S mX8_power 5 [some (.int (nI x)), some (.int (nI n)), some (.long (lN (x ^ i))), none, some (.int (nI i))] [] h Q := by
  intro r
  induction r with
  | zero =>
    intro i hi
    have e : i = n := by omega
    subst e
    refine z_iload dX8_power_5 rfl ?_
    refine z_iload_n dX8_power_7 rfl rfl ?_
    refine z_icmp_ge dX8_power_8 rfl (fun _ => ?_) (fun c => absurd ((nI_leI (by omega) (by omega)).mpr (Nat.le_refl _)) c)
    exact K
  | succ r ih =>
    intro i hi
    refine z_iload dX8_power_5 rfl ?_
    refine z_iload_n dX8_power_7 rfl rfl ?_
    refine z_icmp_ge dX8_power_8 rfl (fun c => absurd c (fun q => absurd ((nI_leI (by omega) (by omega)).mp q) (by omega))) (fun _ => ?_)
    refine z_lload_n dX8_power_11 rfl rfl ?_
    refine z_iload_n dX8_power_12 rfl rfl ?_
    refine z_i2l dX8_power_13 ?_
    refine z_eql (nI_l (by omega)) ?_
    refine z_lmul dX8_power_14 ?_
    refine z_eql (show _ = lN (x ^ (i + 1)) from (lN_mul _ _).trans (congrArg lN (Nat.pow_succ x i).symm)) ?_
    refine z_lstore_n dX8_power_15 rfl (Nat.le_of_ble_eq_true rfl) ?_
    refine z_iinc dX8_power_16 rfl (nI_1 _) (Nat.le_of_ble_eq_true rfl) ?_
    refine z_goto dX8_power_19 rfl ?_
    exact ih (i + 1) (by omega)

theorem p_X8_power {h : Hp} {d x n : Nat} (hx : x < 2 ^ 31) (hn : n < 2 ^ 31) : Sp d mX8_power [.int (nI x), .int (nI n)] h (some (.long (lN (x ^ n)))) h := by
  intro N S Q hN hS hQ
  have K : T d N S mX8_power 22 [some (.int (nI x)), some (.int (nI n)), some (.long (lN (x ^ n))), none, some (.int (nI n))] [] h Q := by
    refine z_lload_n dX8_power_22 rfl rfl ?_
    refine z_lret dX8_power_23 ?_
    exact hQ
  refine z_lconst (v := 1) dX8_power_0 (by decide) ?_
  refine z_eql (show _ = lN (x ^ 0) from rfl) ?_
  refine z_lstore_n dX8_power_1 rfl (Nat.le_of_ble_eq_true rfl) ?_
  refine z_iconst (v := 0) dX8_power_2 (by decide) ?_
  refine z_istore dX8_power_3 (Nat.le_of_ble_eq_true rfl) ?_
  exact X8_power_loop hx hn K n 0 (by omega)

theorem c_mayReckon {h : Hp} {a : Fl} {tf : Nat → Int32} {d : Nat} (c1 : CZ h a tf) (hv : IC a) (x y : Int32) (hd : 3 ≤ d) : Sp d mX8_mayReckonOdds [.ref 8, .int x, .int y] h (some (.int (bI (okO a x y)))) h := by
  have v0 := hv.1
  have p8 : 2 ^ a 0 ≤ 2 ^ 8 := Nat.pow_le_pow_right (by omega) v0
  intro N S Q hN hS hQ
  by_cases h1 : 1 ≤ x ∧ x < nI (2 ^ a 0)
  · by_cases h2 : inr y 1 4
    · obtain ⟨F, hF, rfl⟩ := vin_of (n := 2 ^ a 0) (by omega) ⟨Int32.le_trans (by decide) h1.1, h1.2⟩
      have hU := dif_le F (a 10)
      have hl := pcn_le (dif F (a 10))
      by_cases h3 : pcn (dif F (a 10)) ≤ 3
      · rw [bI_t ⟨h1, h2, by rw [nn_nI (by omega)]; exact h3⟩] at hQ
        refine z_aload_n dX8_mayReckonOdds_0 rfl rfl ?_
        refine z_iload_n dX8_mayReckonOdds_1 rfl rfl ?_
        refine y_callV (as := [_]) CX8_someFacts LX8_124 IX8_someFacts VX8_someFacts ⟨rfl, Nat.le_of_ble_eq_true rfl⟩ dX8_mayReckonOdds_2 c1.1.1 rfl (Nat.le_of_ble_eq_true rfl) (Nat.le_of_ble_eq_true rfl) (by omega) (s_someFacts (n := a 0) c1.1.1 c1.1.2.1 c1.1.2.2.2.2.1 (show _ = nI (a 0) from c1.2.2.2.2.2.1.1.2.2.1) v0 _ (by omega)) (rok_z bI_01) ⟨Nat.le_refl _, Nat.le_refl _, hN, hS⟩ ?_
        refine z_if_eq dX8_mayReckonOdds_5 rfl (fun c => absurd c (bI_ne0.mpr h1)) (fun _ => ?_)
        refine z_iload_n dX8_mayReckonOdds_8 rfl rfl ?_
        refine z_iconst (v := 1) dX8_mayReckonOdds_9 (by decide) ?_
        refine z_iconst (v := 4) dX8_mayReckonOdds_10 (by decide) ?_
        refine y_callS (as := [_, _, _]) CX8_within LX8_61 SX8_within dX8_mayReckonOdds_11 rfl (Nat.le_of_ble_eq_true rfl) (Nat.le_of_ble_eq_true rfl) (by omega) (s_within _ _ _) (rok_z bI_01) ⟨Nat.le_refl _, Nat.le_refl _, hN, hS⟩ ?_
        refine z_if_eq dX8_mayReckonOdds_14 rfl (fun c => absurd c (bI_ne0.mpr h2)) (fun _ => ?_)
        refine z_iload_n dX8_mayReckonOdds_17 rfl rfl ?_
        refine z_aload_n dX8_mayReckonOdds_18 rfl rfl ?_
        refine y_getR FX8_10 dX8_mayReckonOdds_19 rfl c1.1.1 c1.1.2.1 ?_
        refine y_getR FX8_79 dX8_mayReckonOdds_22 rfl c1.1.2.2.2.2.1.o c1.1.2.2.2.2.1.f0 ?_
        refine y_getI FX8_160 dX8_mayReckonOdds_25 (Or.inl rfl) c1.1.2.2.2.2.1.now.1 ?_
        refine z_eqi (y := nI (a 10)) (show _ = nI (a 10) from c1.2.1.2.2.1) ?_
        refine z_iconst (v := -1) dX8_mayReckonOdds_28 (by decide) ?_
        refine z_ixor dX8_mayReckonOdds_29 ?_
        refine z_iand dX8_mayReckonOdds_30 ?_
        refine z_eqi (nI_dif F (a 10)) ?_
        refine y_callS (as := [_]) CJ6_bitCount_0f7a4 LX8_279 SJ6_bitCount_0f7a4 dX8_mayReckonOdds_31 rfl (Nat.le_of_ble_eq_true rfl) (Nat.le_of_ble_eq_true rfl) (by omega) (s_bitCount (n := dif F (a 10)) (by omega)) rok_i ⟨Nat.le_refl _, Nat.le_refl _, hN, hS⟩ ?_
        refine z_iconst (v := 3) dX8_mayReckonOdds_34 (by decide) ?_
        refine z_icmp_gt dX8_mayReckonOdds_35 rfl (fun c => absurd c (fun q => absurd ((nI_ltI (a := 3) (by omega) (by omega)).mp q) (by omega))) (fun _ => ?_)
        refine z_iconst (v := 1) dX8_mayReckonOdds_38 (by decide) ?_
        refine z_goto dX8_mayReckonOdds_39 rfl ?_
        refine z_iret dX8_mayReckonOdds_43 ?_
        exact hQ
      · rw [bI_f (fun q => h3 (by have := q.2.2; rw [nn_nI (by omega)] at this; exact this))] at hQ
        refine z_aload_n dX8_mayReckonOdds_0 rfl rfl ?_
        refine z_iload_n dX8_mayReckonOdds_1 rfl rfl ?_
        refine y_callV (as := [_]) CX8_someFacts LX8_124 IX8_someFacts VX8_someFacts ⟨rfl, Nat.le_of_ble_eq_true rfl⟩ dX8_mayReckonOdds_2 c1.1.1 rfl (Nat.le_of_ble_eq_true rfl) (Nat.le_of_ble_eq_true rfl) (by omega) (s_someFacts (n := a 0) c1.1.1 c1.1.2.1 c1.1.2.2.2.2.1 (show _ = nI (a 0) from c1.2.2.2.2.2.1.1.2.2.1) v0 _ (by omega)) (rok_z bI_01) ⟨Nat.le_refl _, Nat.le_refl _, hN, hS⟩ ?_
        refine z_if_eq dX8_mayReckonOdds_5 rfl (fun c => absurd c (bI_ne0.mpr h1)) (fun _ => ?_)
        refine z_iload_n dX8_mayReckonOdds_8 rfl rfl ?_
        refine z_iconst (v := 1) dX8_mayReckonOdds_9 (by decide) ?_
        refine z_iconst (v := 4) dX8_mayReckonOdds_10 (by decide) ?_
        refine y_callS (as := [_, _, _]) CX8_within LX8_61 SX8_within dX8_mayReckonOdds_11 rfl (Nat.le_of_ble_eq_true rfl) (Nat.le_of_ble_eq_true rfl) (by omega) (s_within _ _ _) (rok_z bI_01) ⟨Nat.le_refl _, Nat.le_refl _, hN, hS⟩ ?_
        refine z_if_eq dX8_mayReckonOdds_14 rfl (fun c => absurd c (bI_ne0.mpr h2)) (fun _ => ?_)
        refine z_iload_n dX8_mayReckonOdds_17 rfl rfl ?_
        refine z_aload_n dX8_mayReckonOdds_18 rfl rfl ?_
        refine y_getR FX8_10 dX8_mayReckonOdds_19 rfl c1.1.1 c1.1.2.1 ?_
        refine y_getR FX8_79 dX8_mayReckonOdds_22 rfl c1.1.2.2.2.2.1.o c1.1.2.2.2.2.1.f0 ?_
        refine y_getI FX8_160 dX8_mayReckonOdds_25 (Or.inl rfl) c1.1.2.2.2.2.1.now.1 ?_
        refine z_eqi (y := nI (a 10)) (show _ = nI (a 10) from c1.2.1.2.2.1) ?_
        refine z_iconst (v := -1) dX8_mayReckonOdds_28 (by decide) ?_
        refine z_ixor dX8_mayReckonOdds_29 ?_
        refine z_iand dX8_mayReckonOdds_30 ?_
        refine z_eqi (nI_dif F (a 10)) ?_
        refine y_callS (as := [_]) CJ6_bitCount_0f7a4 LX8_279 SJ6_bitCount_0f7a4 dX8_mayReckonOdds_31 rfl (Nat.le_of_ble_eq_true rfl) (Nat.le_of_ble_eq_true rfl) (by omega) (s_bitCount (n := dif F (a 10)) (by omega)) rok_i ⟨Nat.le_refl _, Nat.le_refl _, hN, hS⟩ ?_
        refine z_iconst (v := 3) dX8_mayReckonOdds_34 (by decide) ?_
        refine z_icmp_gt dX8_mayReckonOdds_35 rfl (fun _ => ?_) (fun c => absurd ((nI_ltI (a := 3) (by omega) (by omega)).mpr (by omega)) c)
        refine z_iconst (v := 0) dX8_mayReckonOdds_42 (by decide) ?_
        refine z_iret dX8_mayReckonOdds_43 ?_
        exact hQ
    · rw [bI_f (fun q => h2 q.2.1)] at hQ
      refine z_aload_n dX8_mayReckonOdds_0 rfl rfl ?_
      refine z_iload_n dX8_mayReckonOdds_1 rfl rfl ?_
      refine y_callV (as := [_]) CX8_someFacts LX8_124 IX8_someFacts VX8_someFacts ⟨rfl, Nat.le_of_ble_eq_true rfl⟩ dX8_mayReckonOdds_2 c1.1.1 rfl (Nat.le_of_ble_eq_true rfl) (Nat.le_of_ble_eq_true rfl) (by omega) (s_someFacts (n := a 0) c1.1.1 c1.1.2.1 c1.1.2.2.2.2.1 (show _ = nI (a 0) from c1.2.2.2.2.2.1.1.2.2.1) v0 _ (by omega)) (rok_z bI_01) ⟨Nat.le_refl _, Nat.le_refl _, hN, hS⟩ ?_
      refine z_if_eq dX8_mayReckonOdds_5 rfl (fun c => absurd c (bI_ne0.mpr h1)) (fun _ => ?_)
      refine z_iload_n dX8_mayReckonOdds_8 rfl rfl ?_
      refine z_iconst (v := 1) dX8_mayReckonOdds_9 (by decide) ?_
      refine z_iconst (v := 4) dX8_mayReckonOdds_10 (by decide) ?_
      refine y_callS (as := [_, _, _]) CX8_within LX8_61 SX8_within dX8_mayReckonOdds_11 rfl (Nat.le_of_ble_eq_true rfl) (Nat.le_of_ble_eq_true rfl) (by omega) (s_within _ _ _) (rok_z bI_01) ⟨Nat.le_refl _, Nat.le_refl _, hN, hS⟩ ?_
      refine z_if_eq dX8_mayReckonOdds_14 rfl (fun _ => ?_) (fun c => absurd (bI_eq0.mpr h2) c)
      refine z_iconst (v := 0) dX8_mayReckonOdds_42 (by decide) ?_
      refine z_iret dX8_mayReckonOdds_43 ?_
      exact hQ
  · rw [bI_f (fun q => h1 q.1)] at hQ
    refine z_aload_n dX8_mayReckonOdds_0 rfl rfl ?_
    refine z_iload_n dX8_mayReckonOdds_1 rfl rfl ?_
    refine y_callV (as := [_]) CX8_someFacts LX8_124 IX8_someFacts VX8_someFacts ⟨rfl, Nat.le_of_ble_eq_true rfl⟩ dX8_mayReckonOdds_2 c1.1.1 rfl (Nat.le_of_ble_eq_true rfl) (Nat.le_of_ble_eq_true rfl) (by omega) (s_someFacts (n := a 0) c1.1.1 c1.1.2.1 c1.1.2.2.2.2.1 (show _ = nI (a 0) from c1.2.2.2.2.2.1.1.2.2.1) v0 _ (by omega)) (rok_z bI_01) ⟨Nat.le_refl _, Nat.le_refl _, hN, hS⟩ ?_
    refine z_if_eq dX8_mayReckonOdds_5 rfl (fun _ => ?_) (fun c => absurd (bI_eq0.mpr h1) c)
    refine z_iconst (v := 0) dX8_mayReckonOdds_42 (by decide) ?_
    refine z_iret dX8_mayReckonOdds_43 ?_
    exact hQ
theorem c_allChances {h : Hp} {a : Fl} {tf : Nat → Int32} {d : Nat} (c1 : CZ h a tf) (hv : IC a) {F dd : Nat} (hF : F < 256) (hd4 : dd ≤ 4) (hp : pcn (dif F (a 10)) ≤ 3) (hd : 1 ≤ d) : Sp d mX8_allChances [.ref 8, .int (nI F), .int (nI dd)] h (some (.long (lN (odW a F dd)))) h := by
  have hU := dif_le F (a 10)
  have hpw : dd * pcn (dif F (a 10)) < 2 ^ 31 := by
    have := Nat.mul_le_mul hd4 hp
    omega
  intro N S Q hN hS hQ
  refine z_bipush (v := 10) dX8_allChances_0 (by decide) ?_
  refine z_iload_n dX8_allChances_2 rfl rfl ?_
  refine z_iload_n dX8_allChances_3 rfl rfl ?_
  refine z_aload_n dX8_allChances_4 rfl rfl ?_
  refine y_getR FX8_10 dX8_allChances_5 rfl c1.1.1 c1.1.2.1 ?_
  refine y_getR FX8_79 dX8_allChances_8 rfl c1.1.2.2.2.2.1.o c1.1.2.2.2.2.1.f0 ?_
  refine y_getI FX8_160 dX8_allChances_11 (Or.inl rfl) c1.1.2.2.2.2.1.now.1 ?_
  refine z_eqi (y := nI (a 10)) (show _ = nI (a 10) from c1.2.1.2.2.1) ?_
  refine z_iconst (v := -1) dX8_allChances_14 (by decide) ?_
  refine z_ixor dX8_allChances_15 ?_
  refine z_iand dX8_allChances_16 ?_
  refine z_eqi (nI_dif F (a 10)) ?_
  refine y_callS (as := [_]) CJ6_bitCount_0f7a4 LX8_279 SJ6_bitCount_0f7a4 dX8_allChances_17 rfl (Nat.le_of_ble_eq_true rfl) (Nat.le_of_ble_eq_true rfl) (by omega) (s_bitCount (n := dif F (a 10)) (by omega)) rok_i ⟨Nat.le_refl _, Nat.le_refl _, hN, hS⟩ ?_
  refine z_imul dX8_allChances_20 ?_
  refine z_eqi (pk_mul dd (pcn (dif F (a 10)))) ?_
  refine y_callS (as := [_, _]) CX8_power LX8_326 SX8_power dX8_allChances_21 rfl (Nat.le_of_ble_eq_true rfl) (Nat.le_of_ble_eq_true rfl) (by omega) (p_X8_power (x := 10) (n := dd * pcn (dif F (a 10))) (by omega) hpw) rok_l ⟨Nat.le_refl _, Nat.le_refl _, hN, hS⟩ ?_
  refine z_lret dX8_allChances_24 ?_
  exact hQ

theorem c_chances_loop {h : Hp} {a : Fl} {tf : Nat → Int32} {d N S al F dd : Nat} {Q : Option Value → Hp → Prop} (c1 : CZ h a tf) (hv : IC a) (hf : IFc a) (hF : F < 256) (hdd : dd ≤ 4) (hN : pn h ≤ N) (hS : ps h ≤ S) (hd : 1 ≤ d) (K : ∀ o9, T d N S mX8_chances 96 [some (.ref 8), some (.int (nI al)), some (.int (nI F)), some (.int (nI dd)), some (.long (lN (odP 1 a (dif F (a 10)) dd (a 0)))), none, some (.long (lN (odP 0 a (dif F (a 10)) dd (a 0)))), none, some (.int (nI (a 0))), o9, none] [] h Q) : ∀ r i (o9 : Option Value), i + r = a 0 → T d N S mX8_chances 9 [some (.ref 8), some (.int (nI al)), some (.int (nI F)), some (.int (nI dd)), some (.long (lN (odP 1 a (dif F (a 10)) dd i))), none, some (.long (lN (odP 0 a (dif F (a 10)) dd i))), none, some (.int (nI i)), o9, none] [] h Q := by
  have v0 := hv.1
  have mv := c1.2.2.2.2.2.1
  have hU := dif_le F (a 10)
  intro r
  induction r with
  | zero =>
    intro i o9 hi
    have e : i = a 0 := by omega
    subst e
    refine z_iload dX8_chances_9 rfl ?_
    refine z_aload_n dX8_chances_11 rfl rfl ?_
    refine y_getR FX8_10 dX8_chances_12 rfl c1.1.1 c1.1.2.1 ?_
    refine y_getR FX8_65 dX8_chances_15 rfl c1.1.2.2.2.2.1.o c1.1.2.2.2.2.1.f4 ?_
    refine y_getI FX8_130 dX8_chances_18 (Or.inl rfl) c1.1.2.2.2.2.1.facts.1 ?_
    refine z_eqi (y := nI (a 0)) (show _ = nI (a 0) from c1.2.2.2.2.2.1.1.2.2.1) ?_
    refine z_icmp_ge dX8_chances_21 rfl (fun _ => ?_) (fun c => absurd (Int32.le_refl _) c)
    exact K _
  | succ r ih =>
    intro i o9 hi
    have hfi := (hf i (by omega)).1
    by_cases hb : (dif F (a 10)).testBit i = true
    · have e1 : odP 1 a (dif F (a 10)) dd (i + 1) = odP 1 a (dif F (a 10)) dd i * (10 ^ dd - nev a dd i) := by
        show (if _ then _ else _) = _
        rw [if_pos hb, if_pos rfl]
      have e0 : odP 0 a (dif F (a 10)) dd (i + 1) = odP 0 a (dif F (a 10)) dd i * nev a dd i := by
        show (if _ then _ else _) = _
        rw [if_pos hb, if_neg (by omega)]
      have hz : ¬ nI (dif F (a 10)) &&& (1 <<< (nI i &&& 31)) = 0 := fun q => by
        have := (and_bit (by omega) (by omega)).mp q
        rw [hb] at this
        exact absurd this (by decide)
      have K2 := ih (i + 1) (some (.long (lN (nev a dd i)))) (by omega)
      rw [e1, e0] at K2
      refine z_iload dX8_chances_9 rfl ?_
      refine z_aload_n dX8_chances_11 rfl rfl ?_
      refine y_getR FX8_10 dX8_chances_12 rfl c1.1.1 c1.1.2.1 ?_
      refine y_getR FX8_65 dX8_chances_15 rfl c1.1.2.2.2.2.1.o c1.1.2.2.2.2.1.f4 ?_
      refine y_getI FX8_130 dX8_chances_18 (Or.inl rfl) c1.1.2.2.2.2.1.facts.1 ?_
      refine z_eqi (y := nI (a 0)) (show _ = nI (a 0) from c1.2.2.2.2.2.1.1.2.2.1) ?_
      refine z_icmp_ge dX8_chances_21 rfl (fun c => absurd c (fun q => absurd ((nI_leI (by omega) (by omega)).mp q) (by omega))) (fun _ => ?_)
      refine z_iload_n dX8_chances_24 rfl rfl ?_
      refine z_aload_n dX8_chances_25 rfl rfl ?_
      refine y_getR FX8_10 dX8_chances_26 rfl c1.1.1 c1.1.2.1 ?_
      refine y_getR FX8_79 dX8_chances_29 rfl c1.1.2.2.2.2.1.o c1.1.2.2.2.2.1.f0 ?_
      refine y_getI FX8_160 dX8_chances_32 (Or.inl rfl) c1.1.2.2.2.2.1.now.1 ?_
      refine z_eqi (y := nI (a 10)) (show _ = nI (a 10) from c1.2.1.2.2.1) ?_
      refine z_iconst (v := -1) dX8_chances_35 (by decide) ?_
      refine z_ixor dX8_chances_36 ?_
      refine z_iand dX8_chances_37 ?_
      refine z_eqi (nI_dif F (a 10)) ?_
      refine z_iload dX8_chances_38 rfl ?_
      refine y_callS (as := [_]) CX8_bit LX8_163 SX8_bit dX8_chances_40 rfl (Nat.le_of_ble_eq_true rfl) (Nat.le_of_ble_eq_true rfl) (by omega) (s_bit _) rok_i ⟨Nat.le_refl _, Nat.le_refl _, hN, hS⟩ ?_
      refine z_iand dX8_chances_43 ?_
      refine z_if_eq dX8_chances_44 rfl (fun c => absurd c (hz)) (fun _ => ?_)
      refine z_bipush (v := 10) dX8_chances_47 (by decide) ?_
      refine z_aload_n dX8_chances_49 rfl rfl ?_
      refine y_getR FX8_10 dX8_chances_50 rfl c1.1.1 c1.1.2.1 ?_
      refine y_getR FX8_65 dX8_chances_53 rfl c1.1.2.2.2.2.1.o c1.1.2.2.2.2.1.f4 ?_
      refine z_iload dX8_chances_56 rfl ?_
      refine z_iconst (v := 0) dX8_chances_58 (by decide) ?_
      refine y_callV (as := [_, _]) CX4_get LX8_143 IX4_get VX4_get ⟨rfl, Nat.le_of_ble_eq_true rfl⟩ dX8_chances_59 c1.1.2.2.2.2.1.facts.1 rfl (Nat.le_of_ble_eq_true rfl) (Nat.le_of_ble_eq_true rfl) (by omega) (s_get (k := 18) (w := 2) (ms := 8) (i := i) (j := 0) (by exact c1.1.2.2.2.2.1.facts) mv.1 (by omega) (by omega)) rok_i ⟨Nat.le_refl _, Nat.le_refl _, hN, hS⟩ ?_
      refine z_eqi (show _ = nI (a (110 + 2 * i)) from (mv.2 (i * 2 + 0) (by omega)).trans (congrArg (fun u => nI (a u)) (by omega))) ?_
      refine z_isub dX8_chances_62 ?_
      refine z_eqi (show _ = nI (10 - a (110 + 2 * i)) from pk_sub hfi) ?_
      refine z_iload_n dX8_chances_63 rfl rfl ?_
      refine y_callS (as := [_, _]) CX8_power LX8_326 SX8_power dX8_chances_64 rfl (Nat.le_of_ble_eq_true rfl) (Nat.le_of_ble_eq_true rfl) (by omega) (p_X8_power (x := 10 - a (110 + 2 * i)) (n := dd) (by omega) (by omega)) rok_l ⟨Nat.le_refl _, Nat.le_refl _, hN, hS⟩ ?_
      refine z_lstore dX8_chances_67 (Nat.le_of_ble_eq_true rfl) ?_
      refine z_lload dX8_chances_69 rfl ?_
      refine z_bipush (v := 10) dX8_chances_71 (by decide) ?_
      refine z_iload_n dX8_chances_73 rfl rfl ?_
      refine y_callS (as := [_, _]) CX8_power LX8_326 SX8_power dX8_chances_74 rfl (Nat.le_of_ble_eq_true rfl) (Nat.le_of_ble_eq_true rfl) (by omega) (p_X8_power (x := 10) (n := dd) (by omega) (by omega)) rok_l ⟨Nat.le_refl _, Nat.le_refl _, hN, hS⟩ ?_
      refine z_lload dX8_chances_77 rfl ?_
      refine z_lsub dX8_chances_79 ?_
      refine z_eql (lN_sub (nev_le a dd i)) ?_
      refine z_lmul dX8_chances_80 ?_
      refine z_eql (lN_mul _ _) ?_
      refine z_lstore dX8_chances_81 (Nat.le_of_ble_eq_true rfl) ?_
      refine z_lload dX8_chances_83 rfl ?_
      refine z_lload dX8_chances_85 rfl ?_
      refine z_lmul dX8_chances_87 ?_
      refine z_eql (lN_mul _ _) ?_
      refine z_lstore dX8_chances_88 (Nat.le_of_ble_eq_true rfl) ?_
      refine z_iinc dX8_chances_90 rfl (nI_1 _) (Nat.le_of_ble_eq_true rfl) ?_
      refine z_goto dX8_chances_93 rfl ?_
      exact K2
    · have e1 : odP 1 a (dif F (a 10)) dd (i + 1) = odP 1 a (dif F (a 10)) dd i := by
        show (if _ then _ else _) = _
        rw [if_neg hb]
      have e0 : odP 0 a (dif F (a 10)) dd (i + 1) = odP 0 a (dif F (a 10)) dd i := by
        show (if _ then _ else _) = _
        rw [if_neg hb]
      have hz : nI (dif F (a 10)) &&& (1 <<< (nI i &&& 31)) = 0 := (and_bit (by omega) (by omega)).mpr (by simpa using hb)
      have K2 := ih (i + 1) o9 (by omega)
      rw [e1, e0] at K2
      refine z_iload dX8_chances_9 rfl ?_
      refine z_aload_n dX8_chances_11 rfl rfl ?_
      refine y_getR FX8_10 dX8_chances_12 rfl c1.1.1 c1.1.2.1 ?_
      refine y_getR FX8_65 dX8_chances_15 rfl c1.1.2.2.2.2.1.o c1.1.2.2.2.2.1.f4 ?_
      refine y_getI FX8_130 dX8_chances_18 (Or.inl rfl) c1.1.2.2.2.2.1.facts.1 ?_
      refine z_eqi (y := nI (a 0)) (show _ = nI (a 0) from c1.2.2.2.2.2.1.1.2.2.1) ?_
      refine z_icmp_ge dX8_chances_21 rfl (fun c => absurd c (fun q => absurd ((nI_leI (by omega) (by omega)).mp q) (by omega))) (fun _ => ?_)
      refine z_iload_n dX8_chances_24 rfl rfl ?_
      refine z_aload_n dX8_chances_25 rfl rfl ?_
      refine y_getR FX8_10 dX8_chances_26 rfl c1.1.1 c1.1.2.1 ?_
      refine y_getR FX8_79 dX8_chances_29 rfl c1.1.2.2.2.2.1.o c1.1.2.2.2.2.1.f0 ?_
      refine y_getI FX8_160 dX8_chances_32 (Or.inl rfl) c1.1.2.2.2.2.1.now.1 ?_
      refine z_eqi (y := nI (a 10)) (show _ = nI (a 10) from c1.2.1.2.2.1) ?_
      refine z_iconst (v := -1) dX8_chances_35 (by decide) ?_
      refine z_ixor dX8_chances_36 ?_
      refine z_iand dX8_chances_37 ?_
      refine z_eqi (nI_dif F (a 10)) ?_
      refine z_iload dX8_chances_38 rfl ?_
      refine y_callS (as := [_]) CX8_bit LX8_163 SX8_bit dX8_chances_40 rfl (Nat.le_of_ble_eq_true rfl) (Nat.le_of_ble_eq_true rfl) (by omega) (s_bit _) rok_i ⟨Nat.le_refl _, Nat.le_refl _, hN, hS⟩ ?_
      refine z_iand dX8_chances_43 ?_
      refine z_if_eq dX8_chances_44 rfl (fun _ => ?_) (fun c => absurd (hz) c)
      refine z_iinc dX8_chances_90 rfl (nI_1 _) (Nat.le_of_ble_eq_true rfl) ?_
      refine z_goto dX8_chances_93 rfl ?_
      exact K2

theorem c_chances {h : Hp} {a : Fl} {tf : Nat → Int32} {d : Nat} (c1 : CZ h a tf) (hv : IC a) {al F dd : Nat} (hal : al = 0 ∨ al = 1) (hf : IFc a) (hF : F < 256) (hd4 : dd ≤ 4) (hp : pcn (dif F (a 10)) ≤ 3) (hd : 2 ≤ d) : Sp d mX8_chances [.ref 8, .int (nI al), .int (nI F), .int (nI dd)] h (some (.long (lN (odU al a F dd)))) h := by
  have v0 := hv.1
  have hA := c_allChances (d := 1) c1 hv hF hd4 hp (Nat.le_refl _)
  intro N S Q hN hS hQ
  have K : ∀ o9, T d N S mX8_chances 96 [some (.ref 8), some (.int (nI al)), some (.int (nI F)), some (.int (nI dd)), some (.long (lN (odP 1 a (dif F (a 10)) dd (a 0)))), none, some (.long (lN (odP 0 a (dif F (a 10)) dd (a 0)))), none, some (.int (nI (a 0))), o9, none] [] h Q := fun o9 => by
    rcases hal with ha | ha
    · subst ha
      by_cases hz : F &&& a 10 = 0
      · have eu : odU 0 a F dd = odW a F dd - odP 0 a (dif F (a 10)) dd (a 0) := by
          unfold odU
          rw [if_neg (by omega), if_pos hz]
        rw [eu] at hQ
        refine z_iload_n dX8_chances_96 rfl rfl ?_
        refine z_if_eq dX8_chances_97 rfl (fun _ => ?_) (fun c => absurd (rfl) c)
        refine z_iload_n dX8_chances_103 rfl rfl ?_
        refine z_aload_n dX8_chances_104 rfl rfl ?_
        refine y_getR FX8_10 dX8_chances_105 rfl c1.1.1 c1.1.2.1 ?_
        refine y_getR FX8_79 dX8_chances_108 rfl c1.1.2.2.2.2.1.o c1.1.2.2.2.2.1.f0 ?_
        refine y_getI FX8_160 dX8_chances_111 (Or.inl rfl) c1.1.2.2.2.2.1.now.1 ?_
        refine z_eqi (y := nI (a 10)) (show _ = nI (a 10) from c1.2.1.2.2.1) ?_
        refine z_iand dX8_chances_114 ?_
        refine z_eqi (nI_and F (a 10)) ?_
        refine z_if_eq dX8_chances_115 rfl (fun _ => ?_) (fun c => absurd (congrArg nI hz) c)
        refine z_aload_n dX8_chances_127 rfl rfl ?_
        refine z_iload_n dX8_chances_128 rfl rfl ?_
        refine z_iload_n dX8_chances_129 rfl rfl ?_
        refine y_callV (as := [_, _]) CX8_allChances LX8_318 IX8_allChances VX8_allChances ⟨rfl, Nat.le_of_ble_eq_true rfl⟩ dX8_chances_130 c1.1.1 rfl (Nat.le_of_ble_eq_true rfl) (Nat.le_of_ble_eq_true rfl) (by omega) hA rok_l ⟨Nat.le_refl _, Nat.le_refl _, hN, hS⟩ ?_
        refine z_lload dX8_chances_133 rfl ?_
        refine z_lsub dX8_chances_135 ?_
        refine z_eql (lN_sub (odP_W v0)) ?_
        refine z_lret dX8_chances_136 ?_
        exact hQ
      · have eu : odU 0 a F dd = odW a F dd := by
          unfold odU
          rw [if_neg (by omega), if_neg hz]
        rw [eu] at hQ
        have hzz : ¬ nI (F &&& a 10) = 0 := fun q => hz ((nI_eq (b := 0) (Nat.lt_of_le_of_lt Nat.and_le_left (by omega)) (by omega)).mp q)
        refine z_iload_n dX8_chances_96 rfl rfl ?_
        refine z_if_eq dX8_chances_97 rfl (fun _ => ?_) (fun c => absurd (rfl) c)
        refine z_iload_n dX8_chances_103 rfl rfl ?_
        refine z_aload_n dX8_chances_104 rfl rfl ?_
        refine y_getR FX8_10 dX8_chances_105 rfl c1.1.1 c1.1.2.1 ?_
        refine y_getR FX8_79 dX8_chances_108 rfl c1.1.2.2.2.2.1.o c1.1.2.2.2.2.1.f0 ?_
        refine y_getI FX8_160 dX8_chances_111 (Or.inl rfl) c1.1.2.2.2.2.1.now.1 ?_
        refine z_eqi (y := nI (a 10)) (show _ = nI (a 10) from c1.2.1.2.2.1) ?_
        refine z_iand dX8_chances_114 ?_
        refine z_eqi (nI_and F (a 10)) ?_
        refine z_if_eq dX8_chances_115 rfl (fun c => absurd c (hzz)) (fun _ => ?_)
        refine z_aload_n dX8_chances_118 rfl rfl ?_
        refine z_iload_n dX8_chances_119 rfl rfl ?_
        refine z_iload_n dX8_chances_120 rfl rfl ?_
        refine y_callV (as := [_, _]) CX8_allChances LX8_318 IX8_allChances VX8_allChances ⟨rfl, Nat.le_of_ble_eq_true rfl⟩ dX8_chances_121 c1.1.1 rfl (Nat.le_of_ble_eq_true rfl) (Nat.le_of_ble_eq_true rfl) (by omega) hA rok_l ⟨Nat.le_refl _, Nat.le_refl _, hN, hS⟩ ?_
        refine z_goto dX8_chances_124 rfl ?_
        refine z_lret dX8_chances_136 ?_
        exact hQ
    · subst ha
      have eu : odU 1 a F dd = odP 1 a (dif F (a 10)) dd (a 0) := by
        unfold odU
        rw [if_pos rfl]
      rw [eu] at hQ
      refine z_iload_n dX8_chances_96 rfl rfl ?_
      refine z_if_eq dX8_chances_97 rfl (fun c => absurd c (by decide)) (fun _ => ?_)
      refine z_lload dX8_chances_100 rfl ?_
      refine z_lret dX8_chances_102 ?_
      exact hQ
  refine z_lconst (v := 1) dX8_chances_0 (by decide) ?_
  refine z_eql (show _ = lN 1 from rfl) ?_
  refine z_lstore dX8_chances_1 (Nat.le_of_ble_eq_true rfl) ?_
  refine z_lconst (v := 1) dX8_chances_3 (by decide) ?_
  refine z_eql (show _ = lN 1 from rfl) ?_
  refine z_lstore dX8_chances_4 (Nat.le_of_ble_eq_true rfl) ?_
  refine z_iconst (v := 0) dX8_chances_6 (by decide) ?_
  refine z_istore dX8_chances_7 (Nat.le_of_ble_eq_true rfl) ?_
  exact c_chances_loop c1 hv hf hF hd4 hN hS (by omega) K (a 0) 0 none (by omega)
def eFin : Nat → Nat → Nat → Prop
  | 0, _, rs => rs = 0
  | m + 1, dv, rs => rs = 0 ∨ eFin m rs (dv % rs)
theorem eFin_pow : ∀ k dv rs, rs < 2 ^ k → eFin (2 * k) dv rs := by
  intro k
  induction k with
  | zero => intro dv rs h; show rs = 0; omega
  | succ k ih =>
    intro dv rs h
    show rs = 0 ∨ (dv % rs = 0 ∨ eFin (2 * k) (dv % rs) (rs % (dv % rs)))
    by_cases h0 : rs = 0
    · exact Or.inl h0
    · refine Or.inr ?_
      have h1 : dv % rs < rs := Nat.mod_lt _ (by omega)
      generalize dv % rs = r at *
      by_cases h2 : r = 0
      · exact Or.inl h2
      · refine Or.inr (ih _ _ ?_)
        have h3 : rs % r < r := Nat.mod_lt _ (by omega)
        have h4 : rs % r ≤ rs - r := by
          rw [Nat.mod_eq_sub_mod (by omega)]
          exact Nat.mod_le _ _
        have h5 : 2 ^ (k + 1) = 2 * 2 ^ k := by rw [Nat.pow_succ]; omega
        omega

theorem c_low_loop {h : Hp} {d N S up lo low g : Nat} {Q : Option Value → Hp → Prop} (K : ∀ i o10, T d N S mX8_lowestTerm 44 [some (.long (lN up)), none, some (.long (lN lo)), none, some (.int (nI low)), some (.long (lN g)), none, some (.long (lN 0)), none, some (.int (nI i)), o10, none] [] h Q) : ∀ m i dv rs (o10 : Option Value), eFin m dv rs → i + m ≤ 100 → dv < 2 ^ 62 → rs < 2 ^ 62 → Nat.gcd dv rs = g → T d N S mX8_lowestTerm 9 [some (.long (lN up)), none, some (.long (lN lo)), none, some (.int (nI low)), some (.long (lN dv)), none, some (.long (lN rs)), none, some (.int (nI i)), o10, none] [] h Q := by
  intro m
  induction m with
  | zero =>
    intro i dv rs o10 he hi hv hr hg
    have e : rs = 0 := he
    subst e
    rw [Nat.gcd_zero_right] at hg
    subst hg
    by_cases h100 : i < 100
    · skip
      refine z_iload dX8_lowestTerm_9 rfl ?_
      refine z_bipush (v := 100) dX8_lowestTerm_11 (by decide) ?_
      refine z_icmp_ge dX8_lowestTerm_13 rfl (fun c => absurd c (fun q => absurd ((nI_leI (a := 100) (by omega) (by omega)).mp q) (by omega))) (fun _ => ?_)
      refine z_lload dX8_lowestTerm_16 rfl ?_
      refine z_lconst (v := 0) dX8_lowestTerm_18 (by decide) ?_
      refine z_lcmp dX8_lowestTerm_19 ?_
      refine z_if_eq dX8_lowestTerm_20 rfl (fun _ => ?_) (fun c => absurd ((lcmp0 hr).mpr rfl) c)
      exact K _ _
    · skip
      refine z_iload dX8_lowestTerm_9 rfl ?_
      refine z_bipush (v := 100) dX8_lowestTerm_11 (by decide) ?_
      refine z_icmp_ge dX8_lowestTerm_13 rfl (fun _ => ?_) (fun c => absurd ((nI_leI (a := 100) (by omega) (by omega)).mpr (by omega)) c)
      exact K _ _
  | succ m ih =>
    intro i dv rs o10 he hi hv hr hg
    by_cases h0 : rs = 0
    · subst h0
      rw [Nat.gcd_zero_right] at hg
      subst hg
      refine z_iload dX8_lowestTerm_9 rfl ?_
      refine z_bipush (v := 100) dX8_lowestTerm_11 (by decide) ?_
      refine z_icmp_ge dX8_lowestTerm_13 rfl (fun c => absurd c (fun q => absurd ((nI_leI (a := 100) (by omega) (by omega)).mp q) (by omega))) (fun _ => ?_)
      refine z_lload dX8_lowestTerm_16 rfl ?_
      refine z_lconst (v := 0) dX8_lowestTerm_18 (by decide) ?_
      refine z_lcmp dX8_lowestTerm_19 ?_
      refine z_if_eq dX8_lowestTerm_20 rfl (fun _ => ?_) (fun c => absurd ((lcmp0 hr).mpr rfl) c)
      exact K _ _
    · have hl : dv % rs < rs := Nat.mod_lt _ (by omega)
      have he : eFin m rs (dv % rs) := he.resolve_left h0
      rw [gcd_step] at hg
      refine z_iload dX8_lowestTerm_9 rfl ?_
      refine z_bipush (v := 100) dX8_lowestTerm_11 (by decide) ?_
      refine z_icmp_ge dX8_lowestTerm_13 rfl (fun c => absurd c (fun q => absurd ((nI_leI (a := 100) (by omega) (by omega)).mp q) (by omega))) (fun _ => ?_)
      refine z_lload dX8_lowestTerm_16 rfl ?_
      refine z_lconst (v := 0) dX8_lowestTerm_18 (by decide) ?_
      refine z_lcmp dX8_lowestTerm_19 ?_
      refine z_if_eq dX8_lowestTerm_20 rfl (fun c => absurd c (fun c => h0 ((lcmp0 hr).mp c))) (fun _ => ?_)
      refine z_lload dX8_lowestTerm_23 rfl ?_
      refine z_lload dX8_lowestTerm_25 rfl ?_
      refine z_lrem dX8_lowestTerm_27 (fun q => h0 ((lN_eq0 hr).mp q)) ?_
      refine z_eql (lN_rem hv hr) ?_
      refine z_lstore dX8_lowestTerm_28 (Nat.le_of_ble_eq_true rfl) ?_
      refine z_lload dX8_lowestTerm_30 rfl ?_
      refine z_lstore dX8_lowestTerm_32 (Nat.le_of_ble_eq_true rfl) ?_
      refine z_lload dX8_lowestTerm_34 rfl ?_
      refine z_lstore dX8_lowestTerm_36 (Nat.le_of_ble_eq_true rfl) ?_
      refine z_iinc dX8_lowestTerm_38 rfl (nI_1 _) (Nat.le_of_ble_eq_true rfl) ?_
      refine z_goto dX8_lowestTerm_41 rfl ?_
      exact ih (i + 1) rs (dv % rs) _ he (by omega) hr (by omega) hg
theorem c_lowestTerm {h : Hp} {d up lo low : Nat} (hlow : low = 0 ∨ low = 1) (hu : up < 2 ^ 50) (hl : lo < 2 ^ 50) (h0 : 0 < lo) : Sp d mX8_lowestTerm [.long (lN up), .long (lN lo), .int (nI low)] h (some (.long (lN ((if low = 1 then lo else up) / Nat.gcd up lo)))) h := by
  intro N S Q hN hS hQ
  have gl : Nat.gcd up lo < 2 ^ 62 := gcd_lt (by omega) (by omega)
  have g0 : ¬ Nat.gcd up lo = 0 := fun q => by
    have := Nat.gcd_pos_of_pos_right up h0
    omega
  have K : ∀ i o10, T d N S mX8_lowestTerm 44 [some (.long (lN up)), none, some (.long (lN lo)), none, some (.int (nI low)), some (.long (lN (Nat.gcd up lo))), none, some (.long (lN 0)), none, some (.int (nI i)), o10, none] [] h Q := fun i o10 => by
    rcases hlow with hw | hw
    · rw [if_neg (by omega)] at hQ
      refine z_iload dX8_lowestTerm_44 rfl ?_
      refine z_if_eq dX8_lowestTerm_46 rfl (fun _ => ?_) (fun c => absurd (congrArg nI hw) c)
      refine z_lload_n dX8_lowestTerm_53 rfl rfl ?_
      refine z_lstore dX8_lowestTerm_54 (Nat.le_of_ble_eq_true rfl) ?_
      refine z_lload dX8_lowestTerm_56 rfl ?_
      refine z_lconst (v := 0) dX8_lowestTerm_58 (by decide) ?_
      refine z_lcmp dX8_lowestTerm_59 ?_
      refine z_if_ne dX8_lowestTerm_60 rfl (fun _ => ?_) (fun c => absurd c (fun c => g0 ((lcmp0 gl).mp c)))
      refine z_lload dX8_lowestTerm_68 rfl ?_
      refine z_lload dX8_lowestTerm_70 rfl ?_
      refine z_ldiv dX8_lowestTerm_72 (fun q => g0 ((lN_eq0 gl).mp q)) ?_
      refine z_eql (lN_div (by omega) gl) ?_
      refine z_lret dX8_lowestTerm_73 ?_
      exact hQ
    · rw [if_pos hw] at hQ
      refine z_iload dX8_lowestTerm_44 rfl ?_
      refine z_if_eq dX8_lowestTerm_46 rfl (fun c => absurd c (fun q => absurd ((nI_eq (b := 0) (by omega) (by omega)).mp q) (by omega))) (fun _ => ?_)
      refine z_lload_n dX8_lowestTerm_49 rfl rfl ?_
      refine z_goto dX8_lowestTerm_50 rfl ?_
      refine z_lstore dX8_lowestTerm_54 (Nat.le_of_ble_eq_true rfl) ?_
      refine z_lload dX8_lowestTerm_56 rfl ?_
      refine z_lconst (v := 0) dX8_lowestTerm_58 (by decide) ?_
      refine z_lcmp dX8_lowestTerm_59 ?_
      refine z_if_ne dX8_lowestTerm_60 rfl (fun _ => ?_) (fun c => absurd c (fun c => g0 ((lcmp0 gl).mp c)))
      refine z_lload dX8_lowestTerm_68 rfl ?_
      refine z_lload dX8_lowestTerm_70 rfl ?_
      refine z_ldiv dX8_lowestTerm_72 (fun q => g0 ((lN_eq0 gl).mp q)) ?_
      refine z_eql (lN_div (by omega) gl) ?_
      refine z_lret dX8_lowestTerm_73 ?_
      exact hQ
  refine z_lload_n dX8_lowestTerm_0 rfl rfl ?_
  refine z_lstore dX8_lowestTerm_1 (Nat.le_of_ble_eq_true rfl) ?_
  refine z_lload_n dX8_lowestTerm_3 rfl rfl ?_
  refine z_lstore dX8_lowestTerm_4 (Nat.le_of_ble_eq_true rfl) ?_
  refine z_iconst (v := 0) dX8_lowestTerm_6 (by decide) ?_
  refine z_istore dX8_lowestTerm_7 (Nat.le_of_ble_eq_true rfl) ?_
  exact c_low_loop K 100 0 lo up none (eFin_pow 50 lo up hu) (by omega) (by omega) (by omega) (Nat.gcd_comm _ _)

theorem C_odds {h : Hp} {a : Fl} {tf : Nat → Int32} {d al low : Nat} (c1 : CZ h a tf) (hv : IC a) (hf : IFc a) (hal : al = 0 ∨ al = 1) (hlo : low = 0 ∨ low = 1) (x y : Int32) (hd : 4 ≤ d) : Sp d mX8_odds [.ref 8, .int (nI al), .int x, .int y, .int (nI low)] h (some (.long (mOdds a al x y low))) h := by
  have v0 := hv.1
  intro N S Q hN hS hQ
  by_cases hc : okO a x y
  · have eq : mOdds a al x y low = lN ((if low = 1 then odW a (nn x) (nn y) else odU al a (nn x) (nn y)) / Nat.gcd (odU al a (nn x) (nn y)) (odW a (nn x) (nn y))) := if_pos hc
    rw [eq] at hQ
    have p8 : 2 ^ a 0 ≤ 2 ^ 8 := Nat.pow_le_pow_right (by omega) v0
    obtain ⟨F, hF, rfl⟩ := vin_of (n := 2 ^ a 0) (x := x) (by omega) ⟨Int32.le_trans (by decide) hc.1.1, hc.1.2⟩
    obtain ⟨dd, hd4, rfl⟩ := inr_of (n := 4) (x := y) (by omega) ⟨Int32.le_trans (by decide) hc.2.1.1, hc.2.1.2⟩
    have h3 := hc.2.2
    rw [nn_nI (by omega)] at h3
    have lw := odW_le (a := a) (F := F) (dd := dd) hd4 h3
    have lu := odU_le (al := al) (F := F) (dd := dd) v0
    have w0 := odW_pos a F dd
    have hC := c_chances (d := 3) (al := al) c1 hv hal hf (by omega) hd4 h3 (by omega)
    have hA := c_allChances (d := 3) c1 hv (F := F) (dd := dd) (by omega) hd4 h3 (by omega)
    rw [nn_nI (by omega), nn_nI (by omega)] at hQ
    have hL := c_lowestTerm (h := h) (d := 3) hlo (up := odU al a F dd) (lo := odW a F dd) (by omega) (by omega) w0
    refine z_aload_n dX8_odds_0 rfl rfl ?_
    refine z_iload_n dX8_odds_1 rfl rfl ?_
    refine z_iload_n dX8_odds_2 rfl rfl ?_
    refine y_callV (as := [_, _]) CX8_mayReckonOdds LX8_309 IX8_mayReckonOdds VX8_mayReckonOdds ⟨rfl, Nat.le_of_ble_eq_true rfl⟩ dX8_odds_3 c1.1.1 rfl (Nat.le_of_ble_eq_true rfl) (Nat.le_of_ble_eq_true rfl) (by omega) (c_mayReckon (d := 3) c1 hv _ _ (Nat.le_refl _)) (rok_z bI_01) ⟨Nat.le_refl _, Nat.le_refl _, hN, hS⟩ ?_
    refine z_if_ne dX8_odds_6 rfl (fun _ => ?_) (fun c => absurd c (bI_ne0.mpr hc))
    refine z_aload_n dX8_odds_13 rfl rfl ?_
    refine z_iload_n dX8_odds_14 rfl rfl ?_
    refine z_iload_n dX8_odds_15 rfl rfl ?_
    refine z_iload_n dX8_odds_16 rfl rfl ?_
    refine y_callV (as := [_, _, _]) CX8_chances LX8_314 IX8_chances VX8_chances ⟨rfl, Nat.le_of_ble_eq_true rfl⟩ dX8_odds_17 c1.1.1 rfl (Nat.le_of_ble_eq_true rfl) (Nat.le_of_ble_eq_true rfl) (by omega) hC rok_l ⟨Nat.le_refl _, Nat.le_refl _, hN, hS⟩ ?_
    refine z_aload_n dX8_odds_20 rfl rfl ?_
    refine z_iload_n dX8_odds_21 rfl rfl ?_
    refine z_iload_n dX8_odds_22 rfl rfl ?_
    refine y_callV (as := [_, _]) CX8_allChances LX8_318 IX8_allChances VX8_allChances ⟨rfl, Nat.le_of_ble_eq_true rfl⟩ dX8_odds_23 c1.1.1 rfl (Nat.le_of_ble_eq_true rfl) (Nat.le_of_ble_eq_true rfl) (by omega) hA rok_l ⟨Nat.le_refl _, Nat.le_refl _, hN, hS⟩ ?_
    refine z_iload dX8_odds_26 rfl ?_
    refine y_callS (as := [_, _, _]) CX8_lowestTerm LX8_322 SX8_lowestTerm dX8_odds_28 rfl (Nat.le_of_ble_eq_true rfl) (Nat.le_of_ble_eq_true rfl) (by omega) hL rok_l ⟨Nat.le_refl _, Nat.le_refl _, hN, hS⟩ ?_
    refine z_lret dX8_odds_31 ?_
    exact hQ
  · have eq : mOdds a al x y low = -1 := if_neg hc
    rw [eq] at hQ
    refine z_aload_n dX8_odds_0 rfl rfl ?_
    refine z_iload_n dX8_odds_1 rfl rfl ?_
    refine z_iload_n dX8_odds_2 rfl rfl ?_
    refine y_callV (as := [_, _]) CX8_mayReckonOdds LX8_309 IX8_mayReckonOdds VX8_mayReckonOdds ⟨rfl, Nat.le_of_ble_eq_true rfl⟩ dX8_odds_3 c1.1.1 rfl (Nat.le_of_ble_eq_true rfl) (Nat.le_of_ble_eq_true rfl) (by omega) (c_mayReckon (d := 3) c1 hv _ _ (Nat.le_refl _)) (rok_z bI_01) ⟨Nat.le_refl _, Nat.le_refl _, hN, hS⟩ ?_
    refine z_if_ne dX8_odds_6 rfl (fun c => absurd (bI_eq0.mpr hc) c) (fun _ => ?_)
    refine z_ldc2 (v := -1) dX8_odds_9 Kc_X8_312 ?_
    refine z_lret dX8_odds_12 ?_
    exact hQ
theorem C_fair {h : Hp} {a : Fl} {tf : Nat → Int32} {d al low : Nat} (c1 : CZ h a tf) (hv : IC a) (hf : IFc a) (hal : al = 0 ∨ al = 1) (hlo : low = 0 ∨ low = 1) (x y z : Int32) (hd : 4 ≤ d) : Sp d mX8_fair [.ref 8, .int (nI al), .int x, .int y, .int z, .int (nI low)] h (some (.long (mFair a al x y z low))) h := by
  have v0 := hv.1
  intro N S Q hN hS hQ
  by_cases hzc : inr z 0 999 ∧ okO a x y
  · have eq : mFair a al x y z low = lN ((if low = 1 then odW a (nn x) (nn y) else faU al a (nn x) (nn y) (nn z)) / Nat.gcd (faU al a (nn x) (nn y) (nn z)) (odW a (nn x) (nn y))) := if_pos hzc
    rw [eq] at hQ
    obtain ⟨hz, hc⟩ := hzc
    obtain ⟨du, hdu, rfl⟩ := inr_of (n := 999) (x := z) (by omega) hz
    have p8 : 2 ^ a 0 ≤ 2 ^ 8 := Nat.pow_le_pow_right (by omega) v0
    obtain ⟨F, hF, rfl⟩ := vin_of (n := 2 ^ a 0) (x := x) (by omega) ⟨Int32.le_trans (by decide) hc.1.1, hc.1.2⟩
    obtain ⟨dd, hd4, rfl⟩ := inr_of (n := 4) (x := y) (by omega) ⟨Int32.le_trans (by decide) hc.2.1.1, hc.2.1.2⟩
    have h3 := hc.2.2
    rw [nn_nI (by omega)] at h3
    have lw := odW_le (a := a) (F := F) (dd := dd) hd4 h3
    have lu := odU_le (al := al) (F := F) (dd := dd) v0
    have w0 := odW_pos a F dd
    have hC := c_chances (d := 3) (al := al) c1 hv hal hf (by omega) hd4 h3 (by omega)
    have hA := c_allChances (d := 3) c1 hv (F := F) (dd := dd) (by omega) hd4 h3 (by omega)
    rw [nn_nI (by omega), nn_nI (by omega), nn_nI (by omega)] at hQ
    have fl := faU_le (al := al) (F := F) (dd := dd) (a := a) hdu lw
    have hL := c_lowestTerm (h := h) (d := 3) hlo (up := faU al a F dd du) (lo := odW a F dd) (by omega) (by omega) w0
    refine z_aload_n dX8_fair_0 rfl rfl ?_
    refine z_iload_n dX8_fair_1 rfl rfl ?_
    refine z_iload_n dX8_fair_2 rfl rfl ?_
    refine y_callV (as := [_, _]) CX8_mayReckonOdds LX8_309 IX8_mayReckonOdds VX8_mayReckonOdds ⟨rfl, Nat.le_of_ble_eq_true rfl⟩ dX8_fair_3 c1.1.1 rfl (Nat.le_of_ble_eq_true rfl) (Nat.le_of_ble_eq_true rfl) (by omega) (c_mayReckon (d := 3) c1 hv _ _ (Nat.le_refl _)) (rok_z bI_01) ⟨Nat.le_refl _, Nat.le_refl _, hN, hS⟩ ?_
    refine z_if_eq dX8_fair_6 rfl (fun c => absurd c (bI_ne0.mpr hc)) (fun _ => ?_)
    refine z_iload dX8_fair_9 rfl ?_
    refine z_iconst (v := 0) dX8_fair_11 (by decide) ?_
    refine z_sipush (v := 999) dX8_fair_12 (by decide) ?_
    refine y_callS (as := [_, _, _]) CX8_within LX8_61 SX8_within dX8_fair_15 rfl (Nat.le_of_ble_eq_true rfl) (Nat.le_of_ble_eq_true rfl) (by omega) (s_within _ _ _) (rok_z bI_01) ⟨Nat.le_refl _, Nat.le_refl _, hN, hS⟩ ?_
    refine z_if_ne dX8_fair_18 rfl (fun _ => ?_) (fun c => absurd c (bI_ne0.mpr hz))
    refine z_aload_n dX8_fair_25 rfl rfl ?_
    refine z_iload_n dX8_fair_26 rfl rfl ?_
    refine z_iload_n dX8_fair_27 rfl rfl ?_
    refine y_callV (as := [_, _]) CX8_allChances LX8_318 IX8_allChances VX8_allChances ⟨rfl, Nat.le_of_ble_eq_true rfl⟩ dX8_fair_28 c1.1.1 rfl (Nat.le_of_ble_eq_true rfl) (Nat.le_of_ble_eq_true rfl) (by omega) hA rok_l ⟨Nat.le_refl _, Nat.le_refl _, hN, hS⟩ ?_
    refine z_lstore dX8_fair_31 (Nat.le_of_ble_eq_true rfl) ?_
    refine z_iload dX8_fair_33 rfl ?_
    refine z_i2l dX8_fair_35 ?_
    refine z_eql (nI_l (by omega)) ?_
    refine z_lload dX8_fair_36 rfl ?_
    refine z_aload_n dX8_fair_38 rfl rfl ?_
    refine z_iload_n dX8_fair_39 rfl rfl ?_
    refine z_iload_n dX8_fair_40 rfl rfl ?_
    refine z_iload_n dX8_fair_41 rfl rfl ?_
    refine y_callV (as := [_, _, _]) CX8_chances LX8_314 IX8_chances VX8_chances ⟨rfl, Nat.le_of_ble_eq_true rfl⟩ dX8_fair_42 c1.1.1 rfl (Nat.le_of_ble_eq_true rfl) (Nat.le_of_ble_eq_true rfl) (by omega) hC rok_l ⟨Nat.le_refl _, Nat.le_refl _, hN, hS⟩ ?_
    refine z_lsub dX8_fair_45 ?_
    refine z_eql (lN_sub lu) ?_
    refine z_lmul dX8_fair_46 ?_
    refine z_eql (show _ = lN (faU al a F dd du) from lN_mul _ _) ?_
    refine z_lload dX8_fair_47 rfl ?_
    refine z_iload dX8_fair_49 rfl ?_
    refine y_callS (as := [_, _, _]) CX8_lowestTerm LX8_322 SX8_lowestTerm dX8_fair_51 rfl (Nat.le_of_ble_eq_true rfl) (Nat.le_of_ble_eq_true rfl) (by omega) hL rok_l ⟨Nat.le_refl _, Nat.le_refl _, hN, hS⟩ ?_
    refine z_lret dX8_fair_54 ?_
    exact hQ
  · have eq : mFair a al x y z low = -1 := if_neg hzc
    rw [eq] at hQ
    by_cases hc : okO a x y
    · skip
      refine z_aload_n dX8_fair_0 rfl rfl ?_
      refine z_iload_n dX8_fair_1 rfl rfl ?_
      refine z_iload_n dX8_fair_2 rfl rfl ?_
      refine y_callV (as := [_, _]) CX8_mayReckonOdds LX8_309 IX8_mayReckonOdds VX8_mayReckonOdds ⟨rfl, Nat.le_of_ble_eq_true rfl⟩ dX8_fair_3 c1.1.1 rfl (Nat.le_of_ble_eq_true rfl) (Nat.le_of_ble_eq_true rfl) (by omega) (c_mayReckon (d := 3) c1 hv _ _ (Nat.le_refl _)) (rok_z bI_01) ⟨Nat.le_refl _, Nat.le_refl _, hN, hS⟩ ?_
      refine z_if_eq dX8_fair_6 rfl (fun c => absurd c (bI_ne0.mpr hc)) (fun _ => ?_)
      refine z_iload dX8_fair_9 rfl ?_
      refine z_iconst (v := 0) dX8_fair_11 (by decide) ?_
      refine z_sipush (v := 999) dX8_fair_12 (by decide) ?_
      refine y_callS (as := [_, _, _]) CX8_within LX8_61 SX8_within dX8_fair_15 rfl (Nat.le_of_ble_eq_true rfl) (Nat.le_of_ble_eq_true rfl) (by omega) (s_within _ _ _) (rok_z bI_01) ⟨Nat.le_refl _, Nat.le_refl _, hN, hS⟩ ?_
      refine z_if_ne dX8_fair_18 rfl (fun c => absurd (bI_eq0.mpr (fun q => hzc ⟨q, hc⟩)) c) (fun _ => ?_)
      refine z_ldc2 (v := -1) dX8_fair_21 Kc_X8_312 ?_
      refine z_lret dX8_fair_24 ?_
      exact hQ
    · skip
      refine z_aload_n dX8_fair_0 rfl rfl ?_
      refine z_iload_n dX8_fair_1 rfl rfl ?_
      refine z_iload_n dX8_fair_2 rfl rfl ?_
      refine y_callV (as := [_, _]) CX8_mayReckonOdds LX8_309 IX8_mayReckonOdds VX8_mayReckonOdds ⟨rfl, Nat.le_of_ble_eq_true rfl⟩ dX8_fair_3 c1.1.1 rfl (Nat.le_of_ble_eq_true rfl) (Nat.le_of_ble_eq_true rfl) (by omega) (c_mayReckon (d := 3) c1 hv _ _ (Nat.le_refl _)) (rok_z bI_01) ⟨Nat.le_refl _, Nat.le_refl _, hN, hS⟩ ?_
      refine z_if_eq dX8_fair_6 rfl (fun _ => ?_) (fun c => absurd (bI_eq0.mpr hc) c)
      refine z_ldc2 (v := -1) dX8_fair_21 Kc_X8_312 ?_
      refine z_lret dX8_fair_24 ?_
      exact hQ

