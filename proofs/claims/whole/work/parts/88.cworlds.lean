/-! worlds, what would tell: the class (walks by program: wip/whole/gen88.py) -/
theorem c_heard_0 {h : Hp} {a : Fl} {tf : Nat → Int32} {d : Nat} (c1 : CZ h a tf) (hv : IC a) (hi : IH a) (hd : 1 ≤ d) : Sp d mX8_heardFacts [.ref 8, .int 0] h (some (.int (nI (knw a (a 6))))) h := by
  have v0 := hv.1
  have v6 := hv.2.2.2.2.2.2.1
  have v11 := hv.2.2.2.2.2.2.2.2.2.2.2.1
  have p8 : 2 ^ a 0 ≤ 2 ^ 8 := Nat.pow_le_pow_right (by omega) v0
  have p1 : 0 < 2 ^ a 0 := Nat.pow_pos (by omega)
  have mh := c1.2.2.2.2.2.2.2.1
  intro N S Q hN hS hQ
  have L : ∀ r k, k + r = a 6 → T d N S mX8_heardFacts 4 [some (.ref 8), some (.int 0), some (.int (nI (knw a k))), some (.int (nI k))] [] h Q := by
    intro r
    induction r with
    | zero =>
      intro k hk
      have e : k = a 6 := by omega
      subst e
      refine z_iload_n dX8_heardFacts_4 rfl rfl ?_
      refine z_aload_n dX8_heardFacts_5 rfl rfl ?_
      refine y_getR FX8_10 dX8_heardFacts_6 rfl c1.1.1 c1.1.2.1 ?_
      refine y_getR FX8_373 dX8_heardFacts_9 rfl c1.1.2.2.2.2.1.o c1.1.2.2.2.2.1.f6 ?_
      refine y_getI FX8_130 dX8_heardFacts_12 (Or.inl rfl) c1.1.2.2.2.2.1.heard.1 ?_
      refine z_eqi (y := nI (a 6)) (show _ = nI (a 6) from c1.2.2.2.2.2.2.2.1.1.2.2.1) ?_
      refine z_icmp_ge dX8_heardFacts_15 rfl (fun _ => ?_) (fun c => absurd (Int32.le_refl _) c)
      refine z_iload_n dX8_heardFacts_62 rfl rfl ?_
      refine z_iret dX8_heardFacts_63 ?_
      exact hQ
    | succ r ih =>
      intro k hk
      have b1 := (hi k (by omega)).1
      refine z_iload_n dX8_heardFacts_4 rfl rfl ?_
      refine z_aload_n dX8_heardFacts_5 rfl rfl ?_
      refine y_getR FX8_10 dX8_heardFacts_6 rfl c1.1.1 c1.1.2.1 ?_
      refine y_getR FX8_373 dX8_heardFacts_9 rfl c1.1.2.2.2.2.1.o c1.1.2.2.2.2.1.f6 ?_
      refine y_getI FX8_130 dX8_heardFacts_12 (Or.inl rfl) c1.1.2.2.2.2.1.heard.1 ?_
      refine z_eqi (y := nI (a 6)) (show _ = nI (a 6) from c1.2.2.2.2.2.2.2.1.1.2.2.1) ?_
      refine z_icmp_ge dX8_heardFacts_15 rfl (fun c => absurd c (fun q => absurd ((nI_leI (by omega) (by omega)).mp q) (by omega))) (fun _ => ?_)
      refine z_iload_n dX8_heardFacts_18 rfl rfl ?_
      refine z_if_eq dX8_heardFacts_19 rfl (fun _ => ?_) (fun c => absurd (by decide) c)
      refine z_iload_n dX8_heardFacts_38 rfl rfl ?_
      refine z_aload_n dX8_heardFacts_39 rfl rfl ?_
      refine y_getR FX8_10 dX8_heardFacts_40 rfl c1.1.1 c1.1.2.1 ?_
      refine y_getR FX8_373 dX8_heardFacts_43 rfl c1.1.2.2.2.2.1.o c1.1.2.2.2.2.1.f6 ?_
      refine z_iload_n dX8_heardFacts_46 rfl rfl ?_
      refine z_iconst (v := 0) dX8_heardFacts_47 (by decide) ?_
      refine y_callV (as := [_, _]) CX4_get LX8_143 IX4_get VX4_get ⟨rfl, Nat.le_of_ble_eq_true rfl⟩ dX8_heardFacts_48 c1.1.2.2.2.2.1.heard.1 rfl (Nat.le_of_ble_eq_true rfl) (Nat.le_of_ble_eq_true rfl) (by omega) (s_get (k := 22) (w := 2) (ms := 8) (i := k) (j := 0) (by exact c1.1.2.2.2.2.1.heard) mh.1 (by omega) (by omega)) rok_i ⟨Nat.le_refl _, Nat.le_refl _, hN, hS⟩ ?_
      refine z_eqi (show _ = nI (a (158 + 2 * k)) from (mh.2 (k * 2 + 0) (by omega)).trans (congrArg (fun u => nI (a u)) (by omega))) ?_
      refine y_callS (as := [_]) CX8_bit LX8_163 SX8_bit dX8_heardFacts_51 rfl (Nat.le_of_ble_eq_true rfl) (Nat.le_of_ble_eq_true rfl) (by omega) (s_bit _) rok_i ⟨Nat.le_refl _, Nat.le_refl _, hN, hS⟩ ?_
      refine z_eqi (nI_bit (show a (158 + 2 * k) < 31 by omega)) ?_
      refine z_ior dX8_heardFacts_54 ?_
      refine z_eqi (nI_or _ _) ?_
      refine z_istore_n dX8_heardFacts_55 rfl (Nat.le_of_ble_eq_true rfl) ?_
      refine z_iinc dX8_heardFacts_56 rfl (nI_1 _) (Nat.le_of_ble_eq_true rfl) ?_
      refine z_goto dX8_heardFacts_59 rfl ?_
      exact ih (k + 1) (by omega)
  refine z_iconst (v := 0) dX8_heardFacts_0 (by decide) ?_
  refine z_istore_n dX8_heardFacts_1 rfl (Nat.le_of_ble_eq_true rfl) ?_
  refine z_iconst (v := 0) dX8_heardFacts_2 (by decide) ?_
  refine z_istore_n dX8_heardFacts_3 rfl (Nat.le_of_ble_eq_true rfl) ?_
  exact L (a 6) 0 (by omega)

theorem c_heard_1 {h : Hp} {a : Fl} {tf : Nat → Int32} {d : Nat} (c1 : CZ h a tf) (hv : IC a) (hi : IH a) (hd : 1 ≤ d) : Sp d mX8_heardFacts [.ref 8, .int 1] h (some (.int (nI (kso a (a 6))))) h := by
  have v0 := hv.1
  have v6 := hv.2.2.2.2.2.2.1
  have v11 := hv.2.2.2.2.2.2.2.2.2.2.2.1
  have p8 : 2 ^ a 0 ≤ 2 ^ 8 := Nat.pow_le_pow_right (by omega) v0
  have p1 : 0 < 2 ^ a 0 := Nat.pow_pos (by omega)
  have mh := c1.2.2.2.2.2.2.2.1
  intro N S Q hN hS hQ
  have L : ∀ r k, k + r = a 6 → T d N S mX8_heardFacts 4 [some (.ref 8), some (.int 1), some (.int (nI (kso a k))), some (.int (nI k))] [] h Q := by
    intro r
    induction r with
    | zero =>
      intro k hk
      have e : k = a 6 := by omega
      subst e
      refine z_iload_n dX8_heardFacts_4 rfl rfl ?_
      refine z_aload_n dX8_heardFacts_5 rfl rfl ?_
      refine y_getR FX8_10 dX8_heardFacts_6 rfl c1.1.1 c1.1.2.1 ?_
      refine y_getR FX8_373 dX8_heardFacts_9 rfl c1.1.2.2.2.2.1.o c1.1.2.2.2.2.1.f6 ?_
      refine y_getI FX8_130 dX8_heardFacts_12 (Or.inl rfl) c1.1.2.2.2.2.1.heard.1 ?_
      refine z_eqi (y := nI (a 6)) (show _ = nI (a 6) from c1.2.2.2.2.2.2.2.1.1.2.2.1) ?_
      refine z_icmp_ge dX8_heardFacts_15 rfl (fun _ => ?_) (fun c => absurd (Int32.le_refl _) c)
      refine z_iload_n dX8_heardFacts_62 rfl rfl ?_
      refine z_iret dX8_heardFacts_63 ?_
      exact hQ
    | succ r ih =>
      intro k hk
      have b1 := (hi k (by omega)).1
      have b2 := (hi k (by omega)).2
      have K2 := ih (k + 1) (by omega)
      by_cases hv1 : a (158 + 2 * k + 1) = 1
      · have e : kso a (k + 1) = kso a k ||| 2 ^ a (158 + 2 * k) := by
          show _ ||| (if _ then _ else _) = _
          rw [if_pos hv1]
        rw [e] at K2
        refine z_iload_n dX8_heardFacts_4 rfl rfl ?_
        refine z_aload_n dX8_heardFacts_5 rfl rfl ?_
        refine y_getR FX8_10 dX8_heardFacts_6 rfl c1.1.1 c1.1.2.1 ?_
        refine y_getR FX8_373 dX8_heardFacts_9 rfl c1.1.2.2.2.2.1.o c1.1.2.2.2.2.1.f6 ?_
        refine y_getI FX8_130 dX8_heardFacts_12 (Or.inl rfl) c1.1.2.2.2.2.1.heard.1 ?_
        refine z_eqi (y := nI (a 6)) (show _ = nI (a 6) from c1.2.2.2.2.2.2.2.1.1.2.2.1) ?_
        refine z_icmp_ge dX8_heardFacts_15 rfl (fun c => absurd c (fun q => absurd ((nI_leI (by omega) (by omega)).mp q) (by omega))) (fun _ => ?_)
        refine z_iload_n dX8_heardFacts_18 rfl rfl ?_
        refine z_if_eq dX8_heardFacts_19 rfl (fun c => absurd c (by decide)) (fun _ => ?_)
        refine z_aload_n dX8_heardFacts_22 rfl rfl ?_
        refine y_getR FX8_10 dX8_heardFacts_23 rfl c1.1.1 c1.1.2.1 ?_
        refine y_getR FX8_373 dX8_heardFacts_26 rfl c1.1.2.2.2.2.1.o c1.1.2.2.2.2.1.f6 ?_
        refine z_iload_n dX8_heardFacts_29 rfl rfl ?_
        refine z_iconst (v := 1) dX8_heardFacts_30 (by decide) ?_
        refine y_callV (as := [_, _]) CX4_get LX8_143 IX4_get VX4_get ⟨rfl, Nat.le_of_ble_eq_true rfl⟩ dX8_heardFacts_31 c1.1.2.2.2.2.1.heard.1 rfl (Nat.le_of_ble_eq_true rfl) (Nat.le_of_ble_eq_true rfl) (by omega) (s_get (k := 22) (w := 2) (ms := 8) (i := k) (j := 1) (by exact c1.1.2.2.2.2.1.heard) mh.1 (by omega) (by omega)) rok_i ⟨Nat.le_refl _, Nat.le_refl _, hN, hS⟩ ?_
        refine z_eqi (show _ = nI (a (158 + 2 * k + 1)) from (mh.2 (k * 2 + 1) (by omega)).trans (congrArg (fun u => nI (a u)) (by omega))) ?_
        refine z_iconst (v := 1) dX8_heardFacts_34 (by decide) ?_
        refine z_icmp_ne dX8_heardFacts_35 rfl (fun c => absurd (congrArg nI hv1) c) (fun _ => ?_)
        refine z_iload_n dX8_heardFacts_38 rfl rfl ?_
        refine z_aload_n dX8_heardFacts_39 rfl rfl ?_
        refine y_getR FX8_10 dX8_heardFacts_40 rfl c1.1.1 c1.1.2.1 ?_
        refine y_getR FX8_373 dX8_heardFacts_43 rfl c1.1.2.2.2.2.1.o c1.1.2.2.2.2.1.f6 ?_
        refine z_iload_n dX8_heardFacts_46 rfl rfl ?_
        refine z_iconst (v := 0) dX8_heardFacts_47 (by decide) ?_
        refine y_callV (as := [_, _]) CX4_get LX8_143 IX4_get VX4_get ⟨rfl, Nat.le_of_ble_eq_true rfl⟩ dX8_heardFacts_48 c1.1.2.2.2.2.1.heard.1 rfl (Nat.le_of_ble_eq_true rfl) (Nat.le_of_ble_eq_true rfl) (by omega) (s_get (k := 22) (w := 2) (ms := 8) (i := k) (j := 0) (by exact c1.1.2.2.2.2.1.heard) mh.1 (by omega) (by omega)) rok_i ⟨Nat.le_refl _, Nat.le_refl _, hN, hS⟩ ?_
        refine z_eqi (show _ = nI (a (158 + 2 * k)) from (mh.2 (k * 2 + 0) (by omega)).trans (congrArg (fun u => nI (a u)) (by omega))) ?_
        refine y_callS (as := [_]) CX8_bit LX8_163 SX8_bit dX8_heardFacts_51 rfl (Nat.le_of_ble_eq_true rfl) (Nat.le_of_ble_eq_true rfl) (by omega) (s_bit _) rok_i ⟨Nat.le_refl _, Nat.le_refl _, hN, hS⟩ ?_
        refine z_eqi (nI_bit (show a (158 + 2 * k) < 31 by omega)) ?_
        refine z_ior dX8_heardFacts_54 ?_
        refine z_eqi (nI_or _ _) ?_
        refine z_istore_n dX8_heardFacts_55 rfl (Nat.le_of_ble_eq_true rfl) ?_
        refine z_iinc dX8_heardFacts_56 rfl (nI_1 _) (Nat.le_of_ble_eq_true rfl) ?_
        refine z_goto dX8_heardFacts_59 rfl ?_
        exact K2
      · have e : kso a (k + 1) = kso a k := by
          show _ ||| (if _ then _ else _) = _
          rw [if_neg hv1, Nat.or_zero]
        rw [e] at K2
        refine z_iload_n dX8_heardFacts_4 rfl rfl ?_
        refine z_aload_n dX8_heardFacts_5 rfl rfl ?_
        refine y_getR FX8_10 dX8_heardFacts_6 rfl c1.1.1 c1.1.2.1 ?_
        refine y_getR FX8_373 dX8_heardFacts_9 rfl c1.1.2.2.2.2.1.o c1.1.2.2.2.2.1.f6 ?_
        refine y_getI FX8_130 dX8_heardFacts_12 (Or.inl rfl) c1.1.2.2.2.2.1.heard.1 ?_
        refine z_eqi (y := nI (a 6)) (show _ = nI (a 6) from c1.2.2.2.2.2.2.2.1.1.2.2.1) ?_
        refine z_icmp_ge dX8_heardFacts_15 rfl (fun c => absurd c (fun q => absurd ((nI_leI (by omega) (by omega)).mp q) (by omega))) (fun _ => ?_)
        refine z_iload_n dX8_heardFacts_18 rfl rfl ?_
        refine z_if_eq dX8_heardFacts_19 rfl (fun c => absurd c (by decide)) (fun _ => ?_)
        refine z_aload_n dX8_heardFacts_22 rfl rfl ?_
        refine y_getR FX8_10 dX8_heardFacts_23 rfl c1.1.1 c1.1.2.1 ?_
        refine y_getR FX8_373 dX8_heardFacts_26 rfl c1.1.2.2.2.2.1.o c1.1.2.2.2.2.1.f6 ?_
        refine z_iload_n dX8_heardFacts_29 rfl rfl ?_
        refine z_iconst (v := 1) dX8_heardFacts_30 (by decide) ?_
        refine y_callV (as := [_, _]) CX4_get LX8_143 IX4_get VX4_get ⟨rfl, Nat.le_of_ble_eq_true rfl⟩ dX8_heardFacts_31 c1.1.2.2.2.2.1.heard.1 rfl (Nat.le_of_ble_eq_true rfl) (Nat.le_of_ble_eq_true rfl) (by omega) (s_get (k := 22) (w := 2) (ms := 8) (i := k) (j := 1) (by exact c1.1.2.2.2.2.1.heard) mh.1 (by omega) (by omega)) rok_i ⟨Nat.le_refl _, Nat.le_refl _, hN, hS⟩ ?_
        refine z_eqi (show _ = nI (a (158 + 2 * k + 1)) from (mh.2 (k * 2 + 1) (by omega)).trans (congrArg (fun u => nI (a u)) (by omega))) ?_
        refine z_iconst (v := 1) dX8_heardFacts_34 (by decide) ?_
        refine z_icmp_ne dX8_heardFacts_35 rfl (fun _ => ?_) (fun c => absurd c (fun q => hv1 ((nI_eq (b := 1) (by omega) (by omega)).mp q)))
        refine z_iinc dX8_heardFacts_56 rfl (nI_1 _) (Nat.le_of_ble_eq_true rfl) ?_
        refine z_goto dX8_heardFacts_59 rfl ?_
        exact K2
  refine z_iconst (v := 0) dX8_heardFacts_0 (by decide) ?_
  refine z_istore_n dX8_heardFacts_1 rfl (Nat.le_of_ble_eq_true rfl) ?_
  refine z_iconst (v := 0) dX8_heardFacts_2 (by decide) ?_
  refine z_istore_n dX8_heardFacts_3 rfl (Nat.le_of_ble_eq_true rfl) ?_
  exact L (a 6) 0 (by omega)

theorem c_isContradicted {h : Hp} {a : Fl} {tf : Nat → Int32} {d : Nat} (c1 : CZ h a tf) (hv : IC a) (hi : IH a) (hd : 2 ≤ d) : Sp d mX8_isContradicted [.ref 8] h (some (.int (bI (ctB a (a 6) = true)))) h := by
  have v0 := hv.1
  have v6 := hv.2.2.2.2.2.2.1
  have v11 := hv.2.2.2.2.2.2.2.2.2.2.2.1
  have p8 : 2 ^ a 0 ≤ 2 ^ 8 := Nat.pow_le_pow_right (by omega) v0
  have p1 : 0 < 2 ^ a 0 := Nat.pow_pos (by omega)
  have mh := c1.2.2.2.2.2.2.2.1
  have ks : kso a (a 6) < 256 := Nat.lt_of_le_of_lt (sub_le kso_sub) (by have := knw_lt hi (a 6) (Nat.le_refl _); omega)
  intro N S Q hN hS hQ
  have L : ∀ r k, k + r = a 6 → (∀ j, j < k → ¬ (a (158 + 2 * j + 1) = 0 ∧ (kso a (a 6)).testBit (a (158 + 2 * j)) = true)) → T d N S mX8_isContradicted 8 [some (.ref 8), some (.int (nI (kso a (a 6)))), some (.int (nI k))] [] h Q := by
    intro r
    induction r with
    | zero =>
      intro k hk ha
      have e : k = a 6 := by omega
      subst e
      rw [bI_f (fun c => by obtain ⟨j, hj, hq⟩ := (ctB_iff _).mp c; exact ha j hj hq)] at hQ
      refine z_iload_n dX8_isContradicted_8 rfl rfl ?_
      refine z_aload_n dX8_isContradicted_9 rfl rfl ?_
      refine y_getR FX8_10 dX8_isContradicted_10 rfl c1.1.1 c1.1.2.1 ?_
      refine y_getR FX8_373 dX8_isContradicted_13 rfl c1.1.2.2.2.2.1.o c1.1.2.2.2.2.1.f6 ?_
      refine y_getI FX8_130 dX8_isContradicted_16 (Or.inl rfl) c1.1.2.2.2.2.1.heard.1 ?_
      refine z_eqi (y := nI (a 6)) (show _ = nI (a 6) from c1.2.2.2.2.2.2.2.1.1.2.2.1) ?_
      refine z_icmp_ge dX8_isContradicted_19 rfl (fun _ => ?_) (fun c => absurd (Int32.le_refl _) c)
      refine z_iconst (v := 0) dX8_isContradicted_65 (by decide) ?_
      refine z_iret dX8_isContradicted_66 ?_
      exact hQ
    | succ r ih =>
      intro k hk ha
      have b1 := (hi k (by omega)).1
      have b2 := (hi k (by omega)).2
      by_cases h0 : a (158 + 2 * k + 1) = 0
      · by_cases hb : (kso a (a 6)).testBit (a (158 + 2 * k)) = true
        · have hz : ¬ nI (kso a (a 6)) &&& (1 <<< (nI (a (158 + 2 * k)) &&& 31)) = 0 := fun q => by
            have := (and_bit (by omega) (by omega)).mp q
            rw [hb] at this
            exact absurd this (by decide)
          rw [bI_t ((ctB_iff _).mpr ⟨k, by omega, h0, hb⟩)] at hQ
          refine z_iload_n dX8_isContradicted_8 rfl rfl ?_
          refine z_aload_n dX8_isContradicted_9 rfl rfl ?_
          refine y_getR FX8_10 dX8_isContradicted_10 rfl c1.1.1 c1.1.2.1 ?_
          refine y_getR FX8_373 dX8_isContradicted_13 rfl c1.1.2.2.2.2.1.o c1.1.2.2.2.2.1.f6 ?_
          refine y_getI FX8_130 dX8_isContradicted_16 (Or.inl rfl) c1.1.2.2.2.2.1.heard.1 ?_
          refine z_eqi (y := nI (a 6)) (show _ = nI (a 6) from c1.2.2.2.2.2.2.2.1.1.2.2.1) ?_
          refine z_icmp_ge dX8_isContradicted_19 rfl (fun c => absurd c (fun q => absurd ((nI_leI (by omega) (by omega)).mp q) (by omega))) (fun _ => ?_)
          refine z_aload_n dX8_isContradicted_22 rfl rfl ?_
          refine y_getR FX8_10 dX8_isContradicted_23 rfl c1.1.1 c1.1.2.1 ?_
          refine y_getR FX8_373 dX8_isContradicted_26 rfl c1.1.2.2.2.2.1.o c1.1.2.2.2.2.1.f6 ?_
          refine z_iload_n dX8_isContradicted_29 rfl rfl ?_
          refine z_iconst (v := 1) dX8_isContradicted_30 (by decide) ?_
          refine y_callV (as := [_, _]) CX4_get LX8_143 IX4_get VX4_get ⟨rfl, Nat.le_of_ble_eq_true rfl⟩ dX8_isContradicted_31 c1.1.2.2.2.2.1.heard.1 rfl (Nat.le_of_ble_eq_true rfl) (Nat.le_of_ble_eq_true rfl) (by omega) (s_get (k := 22) (w := 2) (ms := 8) (i := k) (j := 1) (by exact c1.1.2.2.2.2.1.heard) mh.1 (by omega) (by omega)) rok_i ⟨Nat.le_refl _, Nat.le_refl _, hN, hS⟩ ?_
          refine z_eqi (show _ = nI (a (158 + 2 * k + 1)) from (mh.2 (k * 2 + 1) (by omega)).trans (congrArg (fun u => nI (a u)) (by omega))) ?_
          refine z_if_ne dX8_isContradicted_34 rfl (fun c => absurd (congrArg nI h0) c) (fun _ => ?_)
          refine z_iload_n dX8_isContradicted_37 rfl rfl ?_
          refine z_aload_n dX8_isContradicted_38 rfl rfl ?_
          refine y_getR FX8_10 dX8_isContradicted_39 rfl c1.1.1 c1.1.2.1 ?_
          refine y_getR FX8_373 dX8_isContradicted_42 rfl c1.1.2.2.2.2.1.o c1.1.2.2.2.2.1.f6 ?_
          refine z_iload_n dX8_isContradicted_45 rfl rfl ?_
          refine z_iconst (v := 0) dX8_isContradicted_46 (by decide) ?_
          refine y_callV (as := [_, _]) CX4_get LX8_143 IX4_get VX4_get ⟨rfl, Nat.le_of_ble_eq_true rfl⟩ dX8_isContradicted_47 c1.1.2.2.2.2.1.heard.1 rfl (Nat.le_of_ble_eq_true rfl) (Nat.le_of_ble_eq_true rfl) (by omega) (s_get (k := 22) (w := 2) (ms := 8) (i := k) (j := 0) (by exact c1.1.2.2.2.2.1.heard) mh.1 (by omega) (by omega)) rok_i ⟨Nat.le_refl _, Nat.le_refl _, hN, hS⟩ ?_
          refine z_eqi (show _ = nI (a (158 + 2 * k)) from (mh.2 (k * 2 + 0) (by omega)).trans (congrArg (fun u => nI (a u)) (by omega))) ?_
          refine y_callS (as := [_]) CX8_bit LX8_163 SX8_bit dX8_isContradicted_50 rfl (Nat.le_of_ble_eq_true rfl) (Nat.le_of_ble_eq_true rfl) (by omega) (s_bit _) rok_i ⟨Nat.le_refl _, Nat.le_refl _, hN, hS⟩ ?_
          refine z_iand dX8_isContradicted_53 ?_
          refine z_if_eq dX8_isContradicted_54 rfl (fun c => absurd c (hz)) (fun _ => ?_)
          refine z_iconst (v := 1) dX8_isContradicted_57 (by decide) ?_
          refine z_iret dX8_isContradicted_58 ?_
          exact hQ
        · have hz : nI (kso a (a 6)) &&& (1 <<< (nI (a (158 + 2 * k)) &&& 31)) = 0 := (and_bit (by omega) (by omega)).mpr (by simpa using hb)
          refine z_iload_n dX8_isContradicted_8 rfl rfl ?_
          refine z_aload_n dX8_isContradicted_9 rfl rfl ?_
          refine y_getR FX8_10 dX8_isContradicted_10 rfl c1.1.1 c1.1.2.1 ?_
          refine y_getR FX8_373 dX8_isContradicted_13 rfl c1.1.2.2.2.2.1.o c1.1.2.2.2.2.1.f6 ?_
          refine y_getI FX8_130 dX8_isContradicted_16 (Or.inl rfl) c1.1.2.2.2.2.1.heard.1 ?_
          refine z_eqi (y := nI (a 6)) (show _ = nI (a 6) from c1.2.2.2.2.2.2.2.1.1.2.2.1) ?_
          refine z_icmp_ge dX8_isContradicted_19 rfl (fun c => absurd c (fun q => absurd ((nI_leI (by omega) (by omega)).mp q) (by omega))) (fun _ => ?_)
          refine z_aload_n dX8_isContradicted_22 rfl rfl ?_
          refine y_getR FX8_10 dX8_isContradicted_23 rfl c1.1.1 c1.1.2.1 ?_
          refine y_getR FX8_373 dX8_isContradicted_26 rfl c1.1.2.2.2.2.1.o c1.1.2.2.2.2.1.f6 ?_
          refine z_iload_n dX8_isContradicted_29 rfl rfl ?_
          refine z_iconst (v := 1) dX8_isContradicted_30 (by decide) ?_
          refine y_callV (as := [_, _]) CX4_get LX8_143 IX4_get VX4_get ⟨rfl, Nat.le_of_ble_eq_true rfl⟩ dX8_isContradicted_31 c1.1.2.2.2.2.1.heard.1 rfl (Nat.le_of_ble_eq_true rfl) (Nat.le_of_ble_eq_true rfl) (by omega) (s_get (k := 22) (w := 2) (ms := 8) (i := k) (j := 1) (by exact c1.1.2.2.2.2.1.heard) mh.1 (by omega) (by omega)) rok_i ⟨Nat.le_refl _, Nat.le_refl _, hN, hS⟩ ?_
          refine z_eqi (show _ = nI (a (158 + 2 * k + 1)) from (mh.2 (k * 2 + 1) (by omega)).trans (congrArg (fun u => nI (a u)) (by omega))) ?_
          refine z_if_ne dX8_isContradicted_34 rfl (fun c => absurd (congrArg nI h0) c) (fun _ => ?_)
          refine z_iload_n dX8_isContradicted_37 rfl rfl ?_
          refine z_aload_n dX8_isContradicted_38 rfl rfl ?_
          refine y_getR FX8_10 dX8_isContradicted_39 rfl c1.1.1 c1.1.2.1 ?_
          refine y_getR FX8_373 dX8_isContradicted_42 rfl c1.1.2.2.2.2.1.o c1.1.2.2.2.2.1.f6 ?_
          refine z_iload_n dX8_isContradicted_45 rfl rfl ?_
          refine z_iconst (v := 0) dX8_isContradicted_46 (by decide) ?_
          refine y_callV (as := [_, _]) CX4_get LX8_143 IX4_get VX4_get ⟨rfl, Nat.le_of_ble_eq_true rfl⟩ dX8_isContradicted_47 c1.1.2.2.2.2.1.heard.1 rfl (Nat.le_of_ble_eq_true rfl) (Nat.le_of_ble_eq_true rfl) (by omega) (s_get (k := 22) (w := 2) (ms := 8) (i := k) (j := 0) (by exact c1.1.2.2.2.2.1.heard) mh.1 (by omega) (by omega)) rok_i ⟨Nat.le_refl _, Nat.le_refl _, hN, hS⟩ ?_
          refine z_eqi (show _ = nI (a (158 + 2 * k)) from (mh.2 (k * 2 + 0) (by omega)).trans (congrArg (fun u => nI (a u)) (by omega))) ?_
          refine y_callS (as := [_]) CX8_bit LX8_163 SX8_bit dX8_isContradicted_50 rfl (Nat.le_of_ble_eq_true rfl) (Nat.le_of_ble_eq_true rfl) (by omega) (s_bit _) rok_i ⟨Nat.le_refl _, Nat.le_refl _, hN, hS⟩ ?_
          refine z_iand dX8_isContradicted_53 ?_
          refine z_if_eq dX8_isContradicted_54 rfl (fun _ => ?_) (fun c => absurd (hz) c)
          refine z_iinc dX8_isContradicted_59 rfl (nI_1 _) (Nat.le_of_ble_eq_true rfl) ?_
          refine z_goto dX8_isContradicted_62 rfl ?_
          refine ih (k + 1) (by omega) (fun j hj => ?_)
          by_cases e : j = k
          · rw [e]; exact fun c => hb c.2
          · exact ha j (by omega)
      · skip
        refine z_iload_n dX8_isContradicted_8 rfl rfl ?_
        refine z_aload_n dX8_isContradicted_9 rfl rfl ?_
        refine y_getR FX8_10 dX8_isContradicted_10 rfl c1.1.1 c1.1.2.1 ?_
        refine y_getR FX8_373 dX8_isContradicted_13 rfl c1.1.2.2.2.2.1.o c1.1.2.2.2.2.1.f6 ?_
        refine y_getI FX8_130 dX8_isContradicted_16 (Or.inl rfl) c1.1.2.2.2.2.1.heard.1 ?_
        refine z_eqi (y := nI (a 6)) (show _ = nI (a 6) from c1.2.2.2.2.2.2.2.1.1.2.2.1) ?_
        refine z_icmp_ge dX8_isContradicted_19 rfl (fun c => absurd c (fun q => absurd ((nI_leI (by omega) (by omega)).mp q) (by omega))) (fun _ => ?_)
        refine z_aload_n dX8_isContradicted_22 rfl rfl ?_
        refine y_getR FX8_10 dX8_isContradicted_23 rfl c1.1.1 c1.1.2.1 ?_
        refine y_getR FX8_373 dX8_isContradicted_26 rfl c1.1.2.2.2.2.1.o c1.1.2.2.2.2.1.f6 ?_
        refine z_iload_n dX8_isContradicted_29 rfl rfl ?_
        refine z_iconst (v := 1) dX8_isContradicted_30 (by decide) ?_
        refine y_callV (as := [_, _]) CX4_get LX8_143 IX4_get VX4_get ⟨rfl, Nat.le_of_ble_eq_true rfl⟩ dX8_isContradicted_31 c1.1.2.2.2.2.1.heard.1 rfl (Nat.le_of_ble_eq_true rfl) (Nat.le_of_ble_eq_true rfl) (by omega) (s_get (k := 22) (w := 2) (ms := 8) (i := k) (j := 1) (by exact c1.1.2.2.2.2.1.heard) mh.1 (by omega) (by omega)) rok_i ⟨Nat.le_refl _, Nat.le_refl _, hN, hS⟩ ?_
        refine z_eqi (show _ = nI (a (158 + 2 * k + 1)) from (mh.2 (k * 2 + 1) (by omega)).trans (congrArg (fun u => nI (a u)) (by omega))) ?_
        refine z_if_ne dX8_isContradicted_34 rfl (fun _ => ?_) (fun c => absurd c (fun q => h0 ((nI_eq (b := 0) (by omega) (by omega)).mp q)))
        refine z_iinc dX8_isContradicted_59 rfl (nI_1 _) (Nat.le_of_ble_eq_true rfl) ?_
        refine z_goto dX8_isContradicted_62 rfl ?_
        refine ih (k + 1) (by omega) (fun j hj => ?_)
        by_cases e : j = k
        · rw [e]; exact fun c => h0 c.1
        · exact ha j (by omega)
  refine z_aload_n dX8_isContradicted_0 rfl rfl ?_
  refine z_iconst (v := 1) dX8_isContradicted_1 (by decide) ?_
  refine y_callV (as := [_]) CX8_heardFacts LX8_384 IX8_heardFacts VX8_heardFacts ⟨rfl, Nat.le_of_ble_eq_true rfl⟩ dX8_isContradicted_2 c1.1.1 rfl (Nat.le_of_ble_eq_true rfl) (Nat.le_of_ble_eq_true rfl) (by omega) (c_heard_1 (d := 1) c1 hv hi (Nat.le_refl _)) rok_i ⟨Nat.le_refl _, Nat.le_refl _, hN, hS⟩ ?_
  refine z_istore_n dX8_isContradicted_5 rfl (Nat.le_of_ble_eq_true rfl) ?_
  refine z_iconst (v := 0) dX8_isContradicted_6 (by decide) ?_
  refine z_istore_n dX8_isContradicted_7 rfl (Nat.le_of_ble_eq_true rfl) ?_
  exact L (a 6) 0 (by omega) (fun j hj => by omega)
theorem c_countWorlds {h : Hp} {a : Fl} {tf : Nat → Int32} {d : Nat} (c1 : CZ h a tf) (hv : IC a) {K : Nat} (hd : 2 ≤ d) : Sp d mX8_countWorlds [.ref 8, .int (nI K)] h (some (.int (nI (cWo (a 0) K)))) h := by
  have v0 := hv.1
  have p8 : 2 ^ a 0 ≤ 2 ^ 8 := Nat.pow_le_pow_right (by omega) v0
  have p1 : 0 < 2 ^ a 0 := Nat.pow_pos (by omega)
  have dl := dif_le (2 ^ a 0 - 1) K
  have pl := pcn_le (dif (2 ^ a 0 - 1) K)
  intro N S Q hN hS hQ
  refine z_aload_n dX8_countWorlds_0 rfl rfl ?_
  refine y_callV (as := []) CX8_everyFact LX8_393 IX8_everyFact VX8_everyFact ⟨rfl, Nat.le_of_ble_eq_true rfl⟩ dX8_countWorlds_1 c1.1.1 rfl (Nat.le_of_ble_eq_true rfl) (Nat.le_of_ble_eq_true rfl) (by omega) (s_everyFact (n := a 0) (d := 1) c1.1.1 c1.1.2.1 c1.1.2.2.2.2.1 (show _ = nI (a 0) from c1.2.2.2.2.2.1.1.2.2.1) v0 (Nat.le_refl _)) rok_i ⟨Nat.le_refl _, Nat.le_refl _, hN, hS⟩ ?_
  refine z_eqi (show _ = nI (2 ^ a 0 - 1) from pk_sub (a := 2 ^ a 0) (b := 1) p1) ?_
  refine z_iload_n dX8_countWorlds_4 rfl rfl ?_
  refine z_iconst (v := -1) dX8_countWorlds_5 (by decide) ?_
  refine z_ixor dX8_countWorlds_6 ?_
  refine z_iand dX8_countWorlds_7 ?_
  refine z_eqi (nI_dif (2 ^ a 0 - 1) K) ?_
  refine y_callS (as := [_]) CJ6_bitCount_0f7a4 LX8_279 SJ6_bitCount_0f7a4 dX8_countWorlds_8 rfl (Nat.le_of_ble_eq_true rfl) (Nat.le_of_ble_eq_true rfl) (by omega) (s_bitCount (n := dif (2 ^ a 0 - 1) K) (by omega)) rok_i ⟨Nat.le_refl _, Nat.le_refl _, hN, hS⟩ ?_
  refine y_callS (as := [_]) CX8_bit LX8_163 SX8_bit dX8_countWorlds_11 rfl (Nat.le_of_ble_eq_true rfl) (Nat.le_of_ble_eq_true rfl) (by omega) (s_bit _) rok_i ⟨Nat.le_refl _, Nat.le_refl _, hN, hS⟩ ?_
  refine z_eqi (show _ = nI (cWo (a 0) K) from nI_bit (by omega)) ?_
  refine z_iret dX8_countWorlds_14 ?_
  exact hQ

theorem cSo_le {a : Fl} {k K A : Nat} : cSo a k K A ≤ max (cWo (a 0) K) (cWo (a 0) (K ||| (snap a (pcx k 2)))) := by
  unfold cSo
  split
  · split <;> omega
  · split <;> omega
theorem cWo_le {n K : Nat} (hn : n ≤ 8) : cWo n K ≤ 4096 := by
  unfold cWo
  exact Nat.le_trans (Nat.pow_le_pow_right (by omega) (pcn_le _)) (Nat.le_refl (2 ^ 12))
theorem cWo_mono {n K F : Nat} (hn : n ≤ 8) : cWo n (K ||| F) ≤ cWo n K := by
  have p8 : 2 ^ n ≤ 2 ^ 8 := Nat.pow_le_pow_right (by omega) hn
  unfold cWo
  refine Nat.pow_le_pow_right (by omega) (bcn_sub (fun i h => ?_) 12)
  rw [dif_hi (by omega), Nat.testBit_or, Bool.and_eq_true] at h
  rw [dif_hi (by omega), Bool.and_eq_true]
  refine ⟨h.1, ?_⟩
  have := h.2
  cases q : K.testBit i
  · rfl
  · rw [q] at this; exact this
theorem c_countSo {h : Hp} {a : Fl} {tf : Nat → Int32} {d : Nat} (c1 : CZ h a tf) (hv : IC a) (hW : IW (a 0) (snap a)) {k K A : Nat} (hk : k < a 11) (hK : K < 256) (hA : A < 256) (hd : 3 ≤ d) : Sp d mX8_countSo [.ref 8, .int (nI k), .int (nI K), .int (nI A)] h (some (.int (nI (cSo a k K A)))) h := by
  have v0 := hv.1
  have v11 := hv.2.2.2.2.2.2.2.2.2.2.2.1
  have p8 : 2 ^ a 0 ≤ 2 ^ 8 := Nat.pow_le_pow_right (by omega) v0
  have cc := hW.2.2.1 k hk
  have cf := cc.2.2.2.1
  have ca := cc.2.1
  have cw := cWo_le (n := a 0) (K := K ||| (snap a (pcx k 2))) v0
  have cm := cWo_mono (n := a 0) (K := K) (F := (snap a (pcx k 2))) v0
  intro N S Q hN hS hQ
  unfold cSo at hQ
  by_cases h1 : snap a (pcx k 1) = 1
  · rw [if_pos h1] at hQ
    have dl := dif_le ((snap a (pcx k 2)) &&& K) A
    have al : (snap a (pcx k 2)) &&& K ≤ (snap a (pcx k 2)) := Nat.and_le_left
    by_cases hz : dif ((snap a (pcx k 2)) &&& K) A = 0
    · rw [if_pos hz] at hQ
      refine z_aload_n dX8_countSo_0 rfl rfl ?_
      refine y_getR FX8_10 dX8_countSo_1 rfl c1.1.1 c1.1.2.1 ?_
      refine y_getR FX8_79 dX8_countSo_4 rfl c1.1.2.2.2.2.1.o c1.1.2.2.2.2.1.f0 ?_
      refine y_getR FX8_127 dX8_countSo_7 rfl c1.1.2.2.2.2.1.now.1 c1.1.2.2.2.2.1.now.2.2.2.1 ?_
      refine z_iload_n dX8_countSo_10 rfl rfl ?_
      refine z_iconst (v := 2) dX8_countSo_11 (by decide) ?_
      refine y_callV (as := [_, _]) CX4_get LX8_143 IX4_get VX4_get ⟨rfl, Nat.le_of_ble_eq_true rfl⟩ dX8_countSo_12 c1.1.2.2.2.2.1.now.2.2.2.2.1.1 rfl (Nat.le_of_ble_eq_true rfl) (Nat.le_of_ble_eq_true rfl) (by omega) (s_get (k := 13) (w := 6) (ms := 12) (i := k) (j := 2) (by exact c1.1.2.2.2.2.1.now.2.2.2.2.1) c1.2.1.2.2.2.2.2.1 (show k < a 11 by omega) (by omega)) rok_i ⟨Nat.le_refl _, Nat.le_refl _, hN, hS⟩ ?_
      refine z_eqi (show _ = nI (snap a (pcx k 2)) from c1.2.1.2.2.2.2.2.2.1 (k * 6 + 2) (by show _ < a 11 * 6; omega)) ?_
      refine z_istore dX8_countSo_15 (Nat.le_of_ble_eq_true rfl) ?_
      refine z_aload_n dX8_countSo_17 rfl rfl ?_
      refine z_iload_n dX8_countSo_18 rfl rfl ?_
      refine z_iload dX8_countSo_19 rfl ?_
      refine z_ior dX8_countSo_21 ?_
      refine z_eqi (nI_or K (snap a (pcx k 2))) ?_
      refine y_callV (as := [_]) CX8_countWorlds LX8_387 IX8_countWorlds VX8_countWorlds ⟨rfl, Nat.le_of_ble_eq_true rfl⟩ dX8_countSo_22 c1.1.1 rfl (Nat.le_of_ble_eq_true rfl) (Nat.le_of_ble_eq_true rfl) (by omega) (c_countWorlds (d := 2) (K := K ||| (snap a (pcx k 2))) c1 hv (Nat.le_refl _)) rok_i ⟨Nat.le_refl _, Nat.le_refl _, hN, hS⟩ ?_
      refine z_istore dX8_countSo_25 (Nat.le_of_ble_eq_true rfl) ?_
      refine z_aload_n dX8_countSo_27 rfl rfl ?_
      refine y_getR FX8_10 dX8_countSo_28 rfl c1.1.1 c1.1.2.1 ?_
      refine y_getR FX8_79 dX8_countSo_31 rfl c1.1.2.2.2.2.1.o c1.1.2.2.2.2.1.f0 ?_
      refine y_getR FX8_127 dX8_countSo_34 rfl c1.1.2.2.2.2.1.now.1 c1.1.2.2.2.2.1.now.2.2.2.1 ?_
      refine z_iload_n dX8_countSo_37 rfl rfl ?_
      refine z_iconst (v := 1) dX8_countSo_38 (by decide) ?_
      refine y_callV (as := [_, _]) CX4_get LX8_143 IX4_get VX4_get ⟨rfl, Nat.le_of_ble_eq_true rfl⟩ dX8_countSo_39 c1.1.2.2.2.2.1.now.2.2.2.2.1.1 rfl (Nat.le_of_ble_eq_true rfl) (Nat.le_of_ble_eq_true rfl) (by omega) (s_get (k := 13) (w := 6) (ms := 12) (i := k) (j := 1) (by exact c1.1.2.2.2.2.1.now.2.2.2.2.1) c1.2.1.2.2.2.2.2.1 (show k < a 11 by omega) (by omega)) rok_i ⟨Nat.le_refl _, Nat.le_refl _, hN, hS⟩ ?_
      refine z_eqi (show _ = nI (snap a (pcx k 1)) from c1.2.1.2.2.2.2.2.2.1 (k * 6 + 1) (by show _ < a 11 * 6; omega)) ?_
      refine z_iconst (v := 1) dX8_countSo_42 (by decide) ?_
      refine z_icmp_ne dX8_countSo_43 rfl (fun c => absurd (congrArg nI h1) c) (fun _ => ?_)
      refine z_iload dX8_countSo_46 rfl ?_
      refine z_iload_n dX8_countSo_48 rfl rfl ?_
      refine z_iand dX8_countSo_49 ?_
      refine z_eqi (nI_and (snap a (pcx k 2)) K) ?_
      refine z_iload_n dX8_countSo_50 rfl rfl ?_
      refine z_iconst (v := -1) dX8_countSo_51 (by decide) ?_
      refine z_ixor dX8_countSo_52 ?_
      refine z_iand dX8_countSo_53 ?_
      refine z_eqi (nI_dif ((snap a (pcx k 2)) &&& K) A) ?_
      refine z_if_ne dX8_countSo_54 rfl (fun c => absurd (congrArg nI hz) c) (fun _ => ?_)
      refine z_iload dX8_countSo_57 rfl ?_
      refine z_goto dX8_countSo_59 rfl ?_
      refine z_iret dX8_countSo_63 ?_
      exact hQ
    · rw [if_neg hz] at hQ
      refine z_aload_n dX8_countSo_0 rfl rfl ?_
      refine y_getR FX8_10 dX8_countSo_1 rfl c1.1.1 c1.1.2.1 ?_
      refine y_getR FX8_79 dX8_countSo_4 rfl c1.1.2.2.2.2.1.o c1.1.2.2.2.2.1.f0 ?_
      refine y_getR FX8_127 dX8_countSo_7 rfl c1.1.2.2.2.2.1.now.1 c1.1.2.2.2.2.1.now.2.2.2.1 ?_
      refine z_iload_n dX8_countSo_10 rfl rfl ?_
      refine z_iconst (v := 2) dX8_countSo_11 (by decide) ?_
      refine y_callV (as := [_, _]) CX4_get LX8_143 IX4_get VX4_get ⟨rfl, Nat.le_of_ble_eq_true rfl⟩ dX8_countSo_12 c1.1.2.2.2.2.1.now.2.2.2.2.1.1 rfl (Nat.le_of_ble_eq_true rfl) (Nat.le_of_ble_eq_true rfl) (by omega) (s_get (k := 13) (w := 6) (ms := 12) (i := k) (j := 2) (by exact c1.1.2.2.2.2.1.now.2.2.2.2.1) c1.2.1.2.2.2.2.2.1 (show k < a 11 by omega) (by omega)) rok_i ⟨Nat.le_refl _, Nat.le_refl _, hN, hS⟩ ?_
      refine z_eqi (show _ = nI (snap a (pcx k 2)) from c1.2.1.2.2.2.2.2.2.1 (k * 6 + 2) (by show _ < a 11 * 6; omega)) ?_
      refine z_istore dX8_countSo_15 (Nat.le_of_ble_eq_true rfl) ?_
      refine z_aload_n dX8_countSo_17 rfl rfl ?_
      refine z_iload_n dX8_countSo_18 rfl rfl ?_
      refine z_iload dX8_countSo_19 rfl ?_
      refine z_ior dX8_countSo_21 ?_
      refine z_eqi (nI_or K (snap a (pcx k 2))) ?_
      refine y_callV (as := [_]) CX8_countWorlds LX8_387 IX8_countWorlds VX8_countWorlds ⟨rfl, Nat.le_of_ble_eq_true rfl⟩ dX8_countSo_22 c1.1.1 rfl (Nat.le_of_ble_eq_true rfl) (Nat.le_of_ble_eq_true rfl) (by omega) (c_countWorlds (d := 2) (K := K ||| (snap a (pcx k 2))) c1 hv (Nat.le_refl _)) rok_i ⟨Nat.le_refl _, Nat.le_refl _, hN, hS⟩ ?_
      refine z_istore dX8_countSo_25 (Nat.le_of_ble_eq_true rfl) ?_
      refine z_aload_n dX8_countSo_27 rfl rfl ?_
      refine y_getR FX8_10 dX8_countSo_28 rfl c1.1.1 c1.1.2.1 ?_
      refine y_getR FX8_79 dX8_countSo_31 rfl c1.1.2.2.2.2.1.o c1.1.2.2.2.2.1.f0 ?_
      refine y_getR FX8_127 dX8_countSo_34 rfl c1.1.2.2.2.2.1.now.1 c1.1.2.2.2.2.1.now.2.2.2.1 ?_
      refine z_iload_n dX8_countSo_37 rfl rfl ?_
      refine z_iconst (v := 1) dX8_countSo_38 (by decide) ?_
      refine y_callV (as := [_, _]) CX4_get LX8_143 IX4_get VX4_get ⟨rfl, Nat.le_of_ble_eq_true rfl⟩ dX8_countSo_39 c1.1.2.2.2.2.1.now.2.2.2.2.1.1 rfl (Nat.le_of_ble_eq_true rfl) (Nat.le_of_ble_eq_true rfl) (by omega) (s_get (k := 13) (w := 6) (ms := 12) (i := k) (j := 1) (by exact c1.1.2.2.2.2.1.now.2.2.2.2.1) c1.2.1.2.2.2.2.2.1 (show k < a 11 by omega) (by omega)) rok_i ⟨Nat.le_refl _, Nat.le_refl _, hN, hS⟩ ?_
      refine z_eqi (show _ = nI (snap a (pcx k 1)) from c1.2.1.2.2.2.2.2.2.1 (k * 6 + 1) (by show _ < a 11 * 6; omega)) ?_
      refine z_iconst (v := 1) dX8_countSo_42 (by decide) ?_
      refine z_icmp_ne dX8_countSo_43 rfl (fun c => absurd (congrArg nI h1) c) (fun _ => ?_)
      refine z_iload dX8_countSo_46 rfl ?_
      refine z_iload_n dX8_countSo_48 rfl rfl ?_
      refine z_iand dX8_countSo_49 ?_
      refine z_eqi (nI_and (snap a (pcx k 2)) K) ?_
      refine z_iload_n dX8_countSo_50 rfl rfl ?_
      refine z_iconst (v := -1) dX8_countSo_51 (by decide) ?_
      refine z_ixor dX8_countSo_52 ?_
      refine z_iand dX8_countSo_53 ?_
      refine z_eqi (nI_dif ((snap a (pcx k 2)) &&& K) A) ?_
      refine z_if_ne dX8_countSo_54 rfl (fun _ => ?_) (fun c => absurd c (fun q => hz ((nI_eq (b := 0) (by omega) (by omega)).mp q)))
      refine z_iconst (v := 0) dX8_countSo_62 (by decide) ?_
      refine z_iret dX8_countSo_63 ?_
      exact hQ
  · rw [if_neg h1] at hQ
    have al : (snap a (pcx k 2)) &&& A ≤ (snap a (pcx k 2)) := Nat.and_le_left
    have n1 : ¬ nI (snap a (pcx k 1)) = 1 := fun q => h1 ((nI_eq (b := 1) (by omega) (by omega)).mp q)
    by_cases hz : (snap a (pcx k 2)) &&& A = 0
    · rw [if_pos hz] at hQ
      refine z_aload_n dX8_countSo_0 rfl rfl ?_
      refine y_getR FX8_10 dX8_countSo_1 rfl c1.1.1 c1.1.2.1 ?_
      refine y_getR FX8_79 dX8_countSo_4 rfl c1.1.2.2.2.2.1.o c1.1.2.2.2.2.1.f0 ?_
      refine y_getR FX8_127 dX8_countSo_7 rfl c1.1.2.2.2.2.1.now.1 c1.1.2.2.2.2.1.now.2.2.2.1 ?_
      refine z_iload_n dX8_countSo_10 rfl rfl ?_
      refine z_iconst (v := 2) dX8_countSo_11 (by decide) ?_
      refine y_callV (as := [_, _]) CX4_get LX8_143 IX4_get VX4_get ⟨rfl, Nat.le_of_ble_eq_true rfl⟩ dX8_countSo_12 c1.1.2.2.2.2.1.now.2.2.2.2.1.1 rfl (Nat.le_of_ble_eq_true rfl) (Nat.le_of_ble_eq_true rfl) (by omega) (s_get (k := 13) (w := 6) (ms := 12) (i := k) (j := 2) (by exact c1.1.2.2.2.2.1.now.2.2.2.2.1) c1.2.1.2.2.2.2.2.1 (show k < a 11 by omega) (by omega)) rok_i ⟨Nat.le_refl _, Nat.le_refl _, hN, hS⟩ ?_
      refine z_eqi (show _ = nI (snap a (pcx k 2)) from c1.2.1.2.2.2.2.2.2.1 (k * 6 + 2) (by show _ < a 11 * 6; omega)) ?_
      refine z_istore dX8_countSo_15 (Nat.le_of_ble_eq_true rfl) ?_
      refine z_aload_n dX8_countSo_17 rfl rfl ?_
      refine z_iload_n dX8_countSo_18 rfl rfl ?_
      refine z_iload dX8_countSo_19 rfl ?_
      refine z_ior dX8_countSo_21 ?_
      refine z_eqi (nI_or K (snap a (pcx k 2))) ?_
      refine y_callV (as := [_]) CX8_countWorlds LX8_387 IX8_countWorlds VX8_countWorlds ⟨rfl, Nat.le_of_ble_eq_true rfl⟩ dX8_countSo_22 c1.1.1 rfl (Nat.le_of_ble_eq_true rfl) (Nat.le_of_ble_eq_true rfl) (by omega) (c_countWorlds (d := 2) (K := K ||| (snap a (pcx k 2))) c1 hv (Nat.le_refl _)) rok_i ⟨Nat.le_refl _, Nat.le_refl _, hN, hS⟩ ?_
      refine z_istore dX8_countSo_25 (Nat.le_of_ble_eq_true rfl) ?_
      refine z_aload_n dX8_countSo_27 rfl rfl ?_
      refine y_getR FX8_10 dX8_countSo_28 rfl c1.1.1 c1.1.2.1 ?_
      refine y_getR FX8_79 dX8_countSo_31 rfl c1.1.2.2.2.2.1.o c1.1.2.2.2.2.1.f0 ?_
      refine y_getR FX8_127 dX8_countSo_34 rfl c1.1.2.2.2.2.1.now.1 c1.1.2.2.2.2.1.now.2.2.2.1 ?_
      refine z_iload_n dX8_countSo_37 rfl rfl ?_
      refine z_iconst (v := 1) dX8_countSo_38 (by decide) ?_
      refine y_callV (as := [_, _]) CX4_get LX8_143 IX4_get VX4_get ⟨rfl, Nat.le_of_ble_eq_true rfl⟩ dX8_countSo_39 c1.1.2.2.2.2.1.now.2.2.2.2.1.1 rfl (Nat.le_of_ble_eq_true rfl) (Nat.le_of_ble_eq_true rfl) (by omega) (s_get (k := 13) (w := 6) (ms := 12) (i := k) (j := 1) (by exact c1.1.2.2.2.2.1.now.2.2.2.2.1) c1.2.1.2.2.2.2.2.1 (show k < a 11 by omega) (by omega)) rok_i ⟨Nat.le_refl _, Nat.le_refl _, hN, hS⟩ ?_
      refine z_eqi (show _ = nI (snap a (pcx k 1)) from c1.2.1.2.2.2.2.2.2.1 (k * 6 + 1) (by show _ < a 11 * 6; omega)) ?_
      refine z_iconst (v := 1) dX8_countSo_42 (by decide) ?_
      refine z_icmp_ne dX8_countSo_43 rfl (fun _ => ?_) (fun c => absurd c (n1))
      refine z_iload dX8_countSo_64 rfl ?_
      refine z_iload_n dX8_countSo_66 rfl rfl ?_
      refine z_iand dX8_countSo_67 ?_
      refine z_eqi (nI_and (snap a (pcx k 2)) A) ?_
      refine z_if_eq dX8_countSo_68 rfl (fun _ => ?_) (fun c => absurd (congrArg nI hz) c)
      refine z_aload_n dX8_countSo_79 rfl rfl ?_
      refine z_iload_n dX8_countSo_80 rfl rfl ?_
      refine y_callV (as := [_]) CX8_countWorlds LX8_387 IX8_countWorlds VX8_countWorlds ⟨rfl, Nat.le_of_ble_eq_true rfl⟩ dX8_countSo_81 c1.1.1 rfl (Nat.le_of_ble_eq_true rfl) (Nat.le_of_ble_eq_true rfl) (by omega) (c_countWorlds (d := 2) (K := K) c1 hv (Nat.le_refl _)) rok_i ⟨Nat.le_refl _, Nat.le_refl _, hN, hS⟩ ?_
      refine z_iload dX8_countSo_84 rfl ?_
      refine z_isub dX8_countSo_86 ?_
      refine z_eqi (pk_sub cm) ?_
      refine z_iret dX8_countSo_87 ?_
      exact hQ
    · rw [if_neg hz] at hQ
      refine z_aload_n dX8_countSo_0 rfl rfl ?_
      refine y_getR FX8_10 dX8_countSo_1 rfl c1.1.1 c1.1.2.1 ?_
      refine y_getR FX8_79 dX8_countSo_4 rfl c1.1.2.2.2.2.1.o c1.1.2.2.2.2.1.f0 ?_
      refine y_getR FX8_127 dX8_countSo_7 rfl c1.1.2.2.2.2.1.now.1 c1.1.2.2.2.2.1.now.2.2.2.1 ?_
      refine z_iload_n dX8_countSo_10 rfl rfl ?_
      refine z_iconst (v := 2) dX8_countSo_11 (by decide) ?_
      refine y_callV (as := [_, _]) CX4_get LX8_143 IX4_get VX4_get ⟨rfl, Nat.le_of_ble_eq_true rfl⟩ dX8_countSo_12 c1.1.2.2.2.2.1.now.2.2.2.2.1.1 rfl (Nat.le_of_ble_eq_true rfl) (Nat.le_of_ble_eq_true rfl) (by omega) (s_get (k := 13) (w := 6) (ms := 12) (i := k) (j := 2) (by exact c1.1.2.2.2.2.1.now.2.2.2.2.1) c1.2.1.2.2.2.2.2.1 (show k < a 11 by omega) (by omega)) rok_i ⟨Nat.le_refl _, Nat.le_refl _, hN, hS⟩ ?_
      refine z_eqi (show _ = nI (snap a (pcx k 2)) from c1.2.1.2.2.2.2.2.2.1 (k * 6 + 2) (by show _ < a 11 * 6; omega)) ?_
      refine z_istore dX8_countSo_15 (Nat.le_of_ble_eq_true rfl) ?_
      refine z_aload_n dX8_countSo_17 rfl rfl ?_
      refine z_iload_n dX8_countSo_18 rfl rfl ?_
      refine z_iload dX8_countSo_19 rfl ?_
      refine z_ior dX8_countSo_21 ?_
      refine z_eqi (nI_or K (snap a (pcx k 2))) ?_
      refine y_callV (as := [_]) CX8_countWorlds LX8_387 IX8_countWorlds VX8_countWorlds ⟨rfl, Nat.le_of_ble_eq_true rfl⟩ dX8_countSo_22 c1.1.1 rfl (Nat.le_of_ble_eq_true rfl) (Nat.le_of_ble_eq_true rfl) (by omega) (c_countWorlds (d := 2) (K := K ||| (snap a (pcx k 2))) c1 hv (Nat.le_refl _)) rok_i ⟨Nat.le_refl _, Nat.le_refl _, hN, hS⟩ ?_
      refine z_istore dX8_countSo_25 (Nat.le_of_ble_eq_true rfl) ?_
      refine z_aload_n dX8_countSo_27 rfl rfl ?_
      refine y_getR FX8_10 dX8_countSo_28 rfl c1.1.1 c1.1.2.1 ?_
      refine y_getR FX8_79 dX8_countSo_31 rfl c1.1.2.2.2.2.1.o c1.1.2.2.2.2.1.f0 ?_
      refine y_getR FX8_127 dX8_countSo_34 rfl c1.1.2.2.2.2.1.now.1 c1.1.2.2.2.2.1.now.2.2.2.1 ?_
      refine z_iload_n dX8_countSo_37 rfl rfl ?_
      refine z_iconst (v := 1) dX8_countSo_38 (by decide) ?_
      refine y_callV (as := [_, _]) CX4_get LX8_143 IX4_get VX4_get ⟨rfl, Nat.le_of_ble_eq_true rfl⟩ dX8_countSo_39 c1.1.2.2.2.2.1.now.2.2.2.2.1.1 rfl (Nat.le_of_ble_eq_true rfl) (Nat.le_of_ble_eq_true rfl) (by omega) (s_get (k := 13) (w := 6) (ms := 12) (i := k) (j := 1) (by exact c1.1.2.2.2.2.1.now.2.2.2.2.1) c1.2.1.2.2.2.2.2.1 (show k < a 11 by omega) (by omega)) rok_i ⟨Nat.le_refl _, Nat.le_refl _, hN, hS⟩ ?_
      refine z_eqi (show _ = nI (snap a (pcx k 1)) from c1.2.1.2.2.2.2.2.2.1 (k * 6 + 1) (by show _ < a 11 * 6; omega)) ?_
      refine z_iconst (v := 1) dX8_countSo_42 (by decide) ?_
      refine z_icmp_ne dX8_countSo_43 rfl (fun _ => ?_) (fun c => absurd c (n1))
      refine z_iload dX8_countSo_64 rfl ?_
      refine z_iload_n dX8_countSo_66 rfl rfl ?_
      refine z_iand dX8_countSo_67 ?_
      refine z_eqi (nI_and (snap a (pcx k 2)) A) ?_
      refine z_if_eq dX8_countSo_68 rfl (fun c => absurd c (fun q => hz ((nI_eq (b := 0) (by omega) (by omega)).mp q))) (fun _ => ?_)
      refine z_aload_n dX8_countSo_71 rfl rfl ?_
      refine z_iload_n dX8_countSo_72 rfl rfl ?_
      refine y_callV (as := [_]) CX8_countWorlds LX8_387 IX8_countWorlds VX8_countWorlds ⟨rfl, Nat.le_of_ble_eq_true rfl⟩ dX8_countSo_73 c1.1.1 rfl (Nat.le_of_ble_eq_true rfl) (Nat.le_of_ble_eq_true rfl) (by omega) (c_countWorlds (d := 2) (K := K) c1 hv (Nat.le_refl _)) rok_i ⟨Nat.le_refl _, Nat.le_refl _, hN, hS⟩ ?_
      refine z_goto dX8_countSo_76 rfl ?_
      refine z_iret dX8_countSo_87 ?_
      exact hQ
theorem c_countWrong {h : Hp} {a : Fl} {tf : Nat → Int32} {d : Nat} (c1 : CZ h a tf) (hv : IC a) (hW : IW (a 0) (snap a)) {k K A : Nat} (hk : k < a 11) (hK : K < 256) (hA : sub A K) (hd : 4 ≤ d) : Sp d mX8_countWrong [.ref 8, .int (nI k), .int (nI K), .int (nI A)] h (some (.int (nI (min (cSo a k K A) (cWo (a 0) K - cSo a k K A))))) h := by
  have v0 := hv.1
  have cl : cSo a k K A ≤ cWo (a 0) K := by
    have := cSo_le (a := a) (k := k) (K := K) (A := A)
    have := cWo_mono (n := a 0) (K := K) (F := (snap a (pcx k 2))) v0
    omega
  have cw := cWo_le (n := a 0) (K := K) v0
  have hA2 := sub_le hA
  intro N S Q hN hS hQ
  refine z_aload_n dX8_countWrong_0 rfl rfl ?_
  refine z_iload_n dX8_countWrong_1 rfl rfl ?_
  refine z_iload_n dX8_countWrong_2 rfl rfl ?_
  refine z_iload_n dX8_countWrong_3 rfl rfl ?_
  refine y_callV (as := [_, _, _]) CX8_countSo LX8_390 IX8_countSo VX8_countSo ⟨rfl, Nat.le_of_ble_eq_true rfl⟩ dX8_countWrong_4 c1.1.1 rfl (Nat.le_of_ble_eq_true rfl) (Nat.le_of_ble_eq_true rfl) (by omega) (c_countSo (d := 3) (k := k) (K := K) (A := A) c1 hv hW hk hK (by omega) (Nat.le_refl _)) rok_i ⟨Nat.le_refl _, Nat.le_refl _, hN, hS⟩ ?_
  refine z_istore dX8_countWrong_7 (Nat.le_of_ble_eq_true rfl) ?_
  refine z_iload dX8_countWrong_9 rfl ?_
  refine z_aload_n dX8_countWrong_11 rfl rfl ?_
  refine z_iload_n dX8_countWrong_12 rfl rfl ?_
  refine y_callV (as := [_]) CX8_countWorlds LX8_387 IX8_countWorlds VX8_countWorlds ⟨rfl, Nat.le_of_ble_eq_true rfl⟩ dX8_countWrong_13 c1.1.1 rfl (Nat.le_of_ble_eq_true rfl) (Nat.le_of_ble_eq_true rfl) (by omega) (c_countWorlds (d := 3) (K := K) c1 hv (by omega)) rok_i ⟨Nat.le_refl _, Nat.le_refl _, hN, hS⟩ ?_
  refine z_iload dX8_countWrong_16 rfl ?_
  refine z_isub dX8_countWrong_18 ?_
  refine z_eqi (pk_sub cl) ?_
  refine z_mmin Kmin_X8_224 Kmin_static Kini_Math Kmin_code dX8_countWrong_19 (by omega) (Nat.le_of_ble_eq_true rfl) ?_
  refine z_eqi (mmin_n (x := cSo a k K A) (y := cWo (a 0) K - cSo a k K A) (by omega) (by omega)) ?_
  refine z_iret dX8_countWrong_22 ?_
  exact hQ

theorem C_worlds {h : Hp} {a : Fl} {tf : Nat → Int32} {d : Nat} (c1 : CZ h a tf) (hv : IC a) (hi : IH a) (hW : IW (a 0) (snap a)) (k w : Int32) (hd : 4 ≤ d) : Sp d mX8_worlds [.ref 8, .int k, .int w] h (some (.int (mWorlds a k w))) h := by
  have v0 := hv.1
  have v6 := hv.2.2.2.2.2.2.1
  have v11 := hv.2.2.2.2.2.2.2.2.2.2.2.1
  have p8 : 2 ^ a 0 ≤ 2 ^ 8 := Nat.pow_le_pow_right (by omega) v0
  have p1 : 0 < 2 ^ a 0 := Nat.pow_pos (by omega)
  have mh := c1.2.2.2.2.2.2.2.1
  have kl := knw_lt hi (a 6) (Nat.le_refl _)
  have ks : kso a (a 6) ≤ knw a (a 6) := sub_le kso_sub
  intro N S Q hN hS hQ
  by_cases hk : vin k (a 11)
  · by_cases hw : inr w 0 1
    · have eq : mWorlds a k w = nI (wcR a (nn k) (if w = 0 then 2 else 1) 0 0) := if_pos ⟨hk, hw⟩
      rw [eq] at hQ
      obtain ⟨k, hk1, rfl⟩ := vin_of (n := a 11) (by omega) hk
      rw [nn_nI (by omega)] at hQ
      cases hc : ctB a (a 6)
      · by_cases h0 : w = 0
        · rw [if_pos h0, worlds_2 v0 hi hc] at hQ
          refine z_aload_n dX8_worlds_0 rfl rfl ?_
          refine y_getR FX8_10 dX8_worlds_1 rfl c1.1.1 c1.1.2.1 ?_
          refine y_getR FX8_79 dX8_worlds_4 rfl c1.1.2.2.2.2.1.o c1.1.2.2.2.2.1.f0 ?_
          refine y_getR FX8_127 dX8_worlds_7 rfl c1.1.2.2.2.2.1.now.1 c1.1.2.2.2.2.1.now.2.2.2.1 ?_
          refine z_iload_n dX8_worlds_10 rfl rfl ?_
          refine y_callV (as := [_]) CX4_has LX8_140 IX4_has VX4_has ⟨rfl, Nat.le_of_ble_eq_true rfl⟩ dX8_worlds_11 c1.1.2.2.2.2.1.now.2.2.2.2.1.1 rfl (Nat.le_of_ble_eq_true rfl) (Nat.le_of_ble_eq_true rfl) (by omega) (s_has (n := a 11) (by exact c1.1.2.2.2.2.1.now.2.2.2.2.1) (show RwC h 13 6 12 (a 11) from c1.2.1.2.2.2.2.2.1) _) (rok_z bI_01) ⟨Nat.le_refl _, Nat.le_refl _, hN, hS⟩ ?_
          refine z_if_eq dX8_worlds_14 rfl (fun c => absurd c (bI_ne0.mpr hk)) (fun _ => ?_)
          refine z_iload_n dX8_worlds_17 rfl rfl ?_
          refine z_iconst (v := 0) dX8_worlds_18 (by decide) ?_
          refine z_iconst (v := 1) dX8_worlds_19 (by decide) ?_
          refine y_callS (as := [_, _, _]) CX8_within LX8_61 SX8_within dX8_worlds_20 rfl (Nat.le_of_ble_eq_true rfl) (Nat.le_of_ble_eq_true rfl) (by omega) (s_within _ _ _) (rok_z bI_01) ⟨Nat.le_refl _, Nat.le_refl _, hN, hS⟩ ?_
          refine z_if_ne dX8_worlds_23 rfl (fun _ => ?_) (fun c => absurd c (bI_ne0.mpr hw))
          refine z_aload_n dX8_worlds_28 rfl rfl ?_
          refine y_callV (as := []) CX8_isContradicted LX8_380 IX8_isContradicted VX8_isContradicted ⟨rfl, Nat.le_of_ble_eq_true rfl⟩ dX8_worlds_29 c1.1.1 rfl (Nat.le_of_ble_eq_true rfl) (Nat.le_of_ble_eq_true rfl) (by omega) (c_isContradicted (d := 2) c1 hv hi (Nat.le_refl _)) (rok_z bI_01) ⟨Nat.le_refl _, Nat.le_refl _, hN, hS⟩ ?_
          refine z_if_eq dX8_worlds_32 rfl (fun _ => ?_) (fun c => absurd (bI_eq0.mpr (by rw [hc]; decide)) c)
          refine z_aload_n dX8_worlds_37 rfl rfl ?_
          refine z_iconst (v := 0) dX8_worlds_38 (by decide) ?_
          refine y_callV (as := [_]) CX8_heardFacts LX8_384 IX8_heardFacts VX8_heardFacts ⟨rfl, Nat.le_of_ble_eq_true rfl⟩ dX8_worlds_39 c1.1.1 rfl (Nat.le_of_ble_eq_true rfl) (Nat.le_of_ble_eq_true rfl) (by omega) (c_heard_0 (d := 1) c1 hv hi (Nat.le_refl _)) rok_i ⟨Nat.le_refl _, Nat.le_refl _, hN, hS⟩ ?_
          refine z_istore_n dX8_worlds_42 rfl (Nat.le_of_ble_eq_true rfl) ?_
          refine z_iload_n dX8_worlds_43 rfl rfl ?_
          refine z_if_ne dX8_worlds_44 rfl (fun c => absurd (h0) c) (fun _ => ?_)
          refine z_aload_n dX8_worlds_47 rfl rfl ?_
          refine z_iload_n dX8_worlds_48 rfl rfl ?_
          refine y_callV (as := [_]) CX8_countWorlds LX8_387 IX8_countWorlds VX8_countWorlds ⟨rfl, Nat.le_of_ble_eq_true rfl⟩ dX8_worlds_49 c1.1.1 rfl (Nat.le_of_ble_eq_true rfl) (Nat.le_of_ble_eq_true rfl) (by omega) (c_countWorlds (d := 2) (K := knw a (a 6)) c1 hv (Nat.le_refl _)) rok_i ⟨Nat.le_refl _, Nat.le_refl _, hN, hS⟩ ?_
          refine z_goto dX8_worlds_52 rfl ?_
          refine z_iret dX8_worlds_66 ?_
          exact hQ
        · rw [if_neg h0, worlds_1 v0 hW hk1 hi hc] at hQ
          refine z_aload_n dX8_worlds_0 rfl rfl ?_
          refine y_getR FX8_10 dX8_worlds_1 rfl c1.1.1 c1.1.2.1 ?_
          refine y_getR FX8_79 dX8_worlds_4 rfl c1.1.2.2.2.2.1.o c1.1.2.2.2.2.1.f0 ?_
          refine y_getR FX8_127 dX8_worlds_7 rfl c1.1.2.2.2.2.1.now.1 c1.1.2.2.2.2.1.now.2.2.2.1 ?_
          refine z_iload_n dX8_worlds_10 rfl rfl ?_
          refine y_callV (as := [_]) CX4_has LX8_140 IX4_has VX4_has ⟨rfl, Nat.le_of_ble_eq_true rfl⟩ dX8_worlds_11 c1.1.2.2.2.2.1.now.2.2.2.2.1.1 rfl (Nat.le_of_ble_eq_true rfl) (Nat.le_of_ble_eq_true rfl) (by omega) (s_has (n := a 11) (by exact c1.1.2.2.2.2.1.now.2.2.2.2.1) (show RwC h 13 6 12 (a 11) from c1.2.1.2.2.2.2.2.1) _) (rok_z bI_01) ⟨Nat.le_refl _, Nat.le_refl _, hN, hS⟩ ?_
          refine z_if_eq dX8_worlds_14 rfl (fun c => absurd c (bI_ne0.mpr hk)) (fun _ => ?_)
          refine z_iload_n dX8_worlds_17 rfl rfl ?_
          refine z_iconst (v := 0) dX8_worlds_18 (by decide) ?_
          refine z_iconst (v := 1) dX8_worlds_19 (by decide) ?_
          refine y_callS (as := [_, _, _]) CX8_within LX8_61 SX8_within dX8_worlds_20 rfl (Nat.le_of_ble_eq_true rfl) (Nat.le_of_ble_eq_true rfl) (by omega) (s_within _ _ _) (rok_z bI_01) ⟨Nat.le_refl _, Nat.le_refl _, hN, hS⟩ ?_
          refine z_if_ne dX8_worlds_23 rfl (fun _ => ?_) (fun c => absurd c (bI_ne0.mpr hw))
          refine z_aload_n dX8_worlds_28 rfl rfl ?_
          refine y_callV (as := []) CX8_isContradicted LX8_380 IX8_isContradicted VX8_isContradicted ⟨rfl, Nat.le_of_ble_eq_true rfl⟩ dX8_worlds_29 c1.1.1 rfl (Nat.le_of_ble_eq_true rfl) (Nat.le_of_ble_eq_true rfl) (by omega) (c_isContradicted (d := 2) c1 hv hi (Nat.le_refl _)) (rok_z bI_01) ⟨Nat.le_refl _, Nat.le_refl _, hN, hS⟩ ?_
          refine z_if_eq dX8_worlds_32 rfl (fun _ => ?_) (fun c => absurd (bI_eq0.mpr (by rw [hc]; decide)) c)
          refine z_aload_n dX8_worlds_37 rfl rfl ?_
          refine z_iconst (v := 0) dX8_worlds_38 (by decide) ?_
          refine y_callV (as := [_]) CX8_heardFacts LX8_384 IX8_heardFacts VX8_heardFacts ⟨rfl, Nat.le_of_ble_eq_true rfl⟩ dX8_worlds_39 c1.1.1 rfl (Nat.le_of_ble_eq_true rfl) (Nat.le_of_ble_eq_true rfl) (by omega) (c_heard_0 (d := 1) c1 hv hi (Nat.le_refl _)) rok_i ⟨Nat.le_refl _, Nat.le_refl _, hN, hS⟩ ?_
          refine z_istore_n dX8_worlds_42 rfl (Nat.le_of_ble_eq_true rfl) ?_
          refine z_iload_n dX8_worlds_43 rfl rfl ?_
          refine z_if_ne dX8_worlds_44 rfl (fun _ => ?_) (fun c => absurd c (h0))
          refine z_aload_n dX8_worlds_55 rfl rfl ?_
          refine z_iload_n dX8_worlds_56 rfl rfl ?_
          refine z_iload_n dX8_worlds_57 rfl rfl ?_
          refine z_aload_n dX8_worlds_58 rfl rfl ?_
          refine z_iconst (v := 1) dX8_worlds_59 (by decide) ?_
          refine y_callV (as := [_]) CX8_heardFacts LX8_384 IX8_heardFacts VX8_heardFacts ⟨rfl, Nat.le_of_ble_eq_true rfl⟩ dX8_worlds_60 c1.1.1 rfl (Nat.le_of_ble_eq_true rfl) (Nat.le_of_ble_eq_true rfl) (by omega) (c_heard_1 (d := 1) c1 hv hi (Nat.le_refl _)) rok_i ⟨Nat.le_refl _, Nat.le_refl _, hN, hS⟩ ?_
          refine y_callV (as := [_, _, _]) CX8_countSo LX8_390 IX8_countSo VX8_countSo ⟨rfl, Nat.le_of_ble_eq_true rfl⟩ dX8_worlds_63 c1.1.1 rfl (Nat.le_of_ble_eq_true rfl) (Nat.le_of_ble_eq_true rfl) (by omega) (c_countSo (d := 3) (k := k) (K := knw a (a 6)) (A := kso a (a 6)) c1 hv hW hk1 (by omega) (by omega) (Nat.le_refl _)) rok_i ⟨Nat.le_refl _, Nat.le_refl _, hN, hS⟩ ?_
          refine z_iret dX8_worlds_66 ?_
          exact hQ
      · rw [worlds_0 hc] at hQ
        refine z_aload_n dX8_worlds_0 rfl rfl ?_
        refine y_getR FX8_10 dX8_worlds_1 rfl c1.1.1 c1.1.2.1 ?_
        refine y_getR FX8_79 dX8_worlds_4 rfl c1.1.2.2.2.2.1.o c1.1.2.2.2.2.1.f0 ?_
        refine y_getR FX8_127 dX8_worlds_7 rfl c1.1.2.2.2.2.1.now.1 c1.1.2.2.2.2.1.now.2.2.2.1 ?_
        refine z_iload_n dX8_worlds_10 rfl rfl ?_
        refine y_callV (as := [_]) CX4_has LX8_140 IX4_has VX4_has ⟨rfl, Nat.le_of_ble_eq_true rfl⟩ dX8_worlds_11 c1.1.2.2.2.2.1.now.2.2.2.2.1.1 rfl (Nat.le_of_ble_eq_true rfl) (Nat.le_of_ble_eq_true rfl) (by omega) (s_has (n := a 11) (by exact c1.1.2.2.2.2.1.now.2.2.2.2.1) (show RwC h 13 6 12 (a 11) from c1.2.1.2.2.2.2.2.1) _) (rok_z bI_01) ⟨Nat.le_refl _, Nat.le_refl _, hN, hS⟩ ?_
        refine z_if_eq dX8_worlds_14 rfl (fun c => absurd c (bI_ne0.mpr hk)) (fun _ => ?_)
        refine z_iload_n dX8_worlds_17 rfl rfl ?_
        refine z_iconst (v := 0) dX8_worlds_18 (by decide) ?_
        refine z_iconst (v := 1) dX8_worlds_19 (by decide) ?_
        refine y_callS (as := [_, _, _]) CX8_within LX8_61 SX8_within dX8_worlds_20 rfl (Nat.le_of_ble_eq_true rfl) (Nat.le_of_ble_eq_true rfl) (by omega) (s_within _ _ _) (rok_z bI_01) ⟨Nat.le_refl _, Nat.le_refl _, hN, hS⟩ ?_
        refine z_if_ne dX8_worlds_23 rfl (fun _ => ?_) (fun c => absurd c (bI_ne0.mpr hw))
        refine z_aload_n dX8_worlds_28 rfl rfl ?_
        refine y_callV (as := []) CX8_isContradicted LX8_380 IX8_isContradicted VX8_isContradicted ⟨rfl, Nat.le_of_ble_eq_true rfl⟩ dX8_worlds_29 c1.1.1 rfl (Nat.le_of_ble_eq_true rfl) (Nat.le_of_ble_eq_true rfl) (by omega) (c_isContradicted (d := 2) c1 hv hi (Nat.le_refl _)) (rok_z bI_01) ⟨Nat.le_refl _, Nat.le_refl _, hN, hS⟩ ?_
        refine z_if_eq dX8_worlds_32 rfl (fun c => absurd c (bI_ne0.mpr hc)) (fun _ => ?_)
        refine z_iconst (v := 0) dX8_worlds_35 (by decide) ?_
        refine z_iret dX8_worlds_36 ?_
        exact hQ
    · have eq : mWorlds a k w = -1 := if_neg (fun q => hw q.2)
      rw [eq] at hQ
      refine z_aload_n dX8_worlds_0 rfl rfl ?_
      refine y_getR FX8_10 dX8_worlds_1 rfl c1.1.1 c1.1.2.1 ?_
      refine y_getR FX8_79 dX8_worlds_4 rfl c1.1.2.2.2.2.1.o c1.1.2.2.2.2.1.f0 ?_
      refine y_getR FX8_127 dX8_worlds_7 rfl c1.1.2.2.2.2.1.now.1 c1.1.2.2.2.2.1.now.2.2.2.1 ?_
      refine z_iload_n dX8_worlds_10 rfl rfl ?_
      refine y_callV (as := [_]) CX4_has LX8_140 IX4_has VX4_has ⟨rfl, Nat.le_of_ble_eq_true rfl⟩ dX8_worlds_11 c1.1.2.2.2.2.1.now.2.2.2.2.1.1 rfl (Nat.le_of_ble_eq_true rfl) (Nat.le_of_ble_eq_true rfl) (by omega) (s_has (n := a 11) (by exact c1.1.2.2.2.2.1.now.2.2.2.2.1) (show RwC h 13 6 12 (a 11) from c1.2.1.2.2.2.2.2.1) _) (rok_z bI_01) ⟨Nat.le_refl _, Nat.le_refl _, hN, hS⟩ ?_
      refine z_if_eq dX8_worlds_14 rfl (fun c => absurd c (bI_ne0.mpr hk)) (fun _ => ?_)
      refine z_iload_n dX8_worlds_17 rfl rfl ?_
      refine z_iconst (v := 0) dX8_worlds_18 (by decide) ?_
      refine z_iconst (v := 1) dX8_worlds_19 (by decide) ?_
      refine y_callS (as := [_, _, _]) CX8_within LX8_61 SX8_within dX8_worlds_20 rfl (Nat.le_of_ble_eq_true rfl) (Nat.le_of_ble_eq_true rfl) (by omega) (s_within _ _ _) (rok_z bI_01) ⟨Nat.le_refl _, Nat.le_refl _, hN, hS⟩ ?_
      refine z_if_ne dX8_worlds_23 rfl (fun c => absurd (bI_eq0.mpr hw) c) (fun _ => ?_)
      refine z_iconst (v := -1) dX8_worlds_26 (by decide) ?_
      refine z_iret dX8_worlds_27 ?_
      exact hQ
  · have eq : mWorlds a k w = -1 := if_neg (fun q => hk q.1)
    rw [eq] at hQ
    refine z_aload_n dX8_worlds_0 rfl rfl ?_
    refine y_getR FX8_10 dX8_worlds_1 rfl c1.1.1 c1.1.2.1 ?_
    refine y_getR FX8_79 dX8_worlds_4 rfl c1.1.2.2.2.2.1.o c1.1.2.2.2.2.1.f0 ?_
    refine y_getR FX8_127 dX8_worlds_7 rfl c1.1.2.2.2.2.1.now.1 c1.1.2.2.2.2.1.now.2.2.2.1 ?_
    refine z_iload_n dX8_worlds_10 rfl rfl ?_
    refine y_callV (as := [_]) CX4_has LX8_140 IX4_has VX4_has ⟨rfl, Nat.le_of_ble_eq_true rfl⟩ dX8_worlds_11 c1.1.2.2.2.2.1.now.2.2.2.2.1.1 rfl (Nat.le_of_ble_eq_true rfl) (Nat.le_of_ble_eq_true rfl) (by omega) (s_has (n := a 11) (by exact c1.1.2.2.2.2.1.now.2.2.2.2.1) (show RwC h 13 6 12 (a 11) from c1.2.1.2.2.2.2.2.1) _) (rok_z bI_01) ⟨Nat.le_refl _, Nat.le_refl _, hN, hS⟩ ?_
    refine z_if_eq dX8_worlds_14 rfl (fun _ => ?_) (fun c => absurd (bI_eq0.mpr hk) c)
    refine z_iconst (v := -1) dX8_worlds_26 (by decide) ?_
    refine z_iret dX8_worlds_27 ?_
    exact hQ

theorem c_tells_loop {h : Hp} {a : Fl} {tf : Nat → Int32} {d N S : Nat} {Q : Option Value → Hp → Prop} (c1 : CZ h a tf) (hv : IC a) (hi : IH a) (hW : IW (a 0) (snap a)) {k : Nat} (hk : k < a 11) (hc : ctB a (a 6) = false) (hN : pn h ≤ N) (hS : ps h ≤ S) (hd : 5 ≤ d) (hQ : Q (some (.int (cT (tl a k (a 0)).1))) h) : ∀ r i (o7 : Option Value), i + r = a 0 → T d N S mX8_tells 47 [some (.ref 8), some (.int (nI k)), some (.int (nI (knw a (a 6)))), some (.int (nI (kso a (a 6)))), some (.int (cT (tl a k i).1)), some (.int (nI (if (tl a k i).1 = 0 then 0 else (tl a k i).2))), some (.int (nI i)), o7] [] h Q := by
  have v0 := hv.1
  have v6 := hv.2.2.2.2.2.2.1
  have v11 := hv.2.2.2.2.2.2.2.2.2.2.2.1
  have p8 : 2 ^ a 0 ≤ 2 ^ 8 := Nat.pow_le_pow_right (by omega) v0
  have p1 : 0 < 2 ^ a 0 := Nat.pow_pos (by omega)
  have mh := c1.2.2.2.2.2.2.2.1
  have kl := knw_lt hi (a 6) (Nat.le_refl _)
  have ks : kso a (a 6) ≤ knw a (a 6) := sub_le kso_sub
  intro r
  induction r with
  | zero =>
    intro i o7 hin
    have e : i = a 0 := by omega
    subst e
    refine z_iload dX8_tells_47 rfl ?_
    refine z_aload_n dX8_tells_49 rfl rfl ?_
    refine y_getR FX8_10 dX8_tells_50 rfl c1.1.1 c1.1.2.1 ?_
    refine y_getR FX8_65 dX8_tells_53 rfl c1.1.2.2.2.2.1.o c1.1.2.2.2.2.1.f4 ?_
    refine y_getI FX8_130 dX8_tells_56 (Or.inl rfl) c1.1.2.2.2.2.1.facts.1 ?_
    refine z_eqi (y := nI (a 0)) (show _ = nI (a 0) from c1.2.2.2.2.2.1.1.2.2.1) ?_
    refine z_icmp_ge dX8_tells_59 rfl (fun _ => ?_) (fun c => absurd (Int32.le_refl _) c)
    refine z_iload dX8_tells_134 rfl ?_
    refine z_iret dX8_tells_136 ?_
    exact hQ
  | succ r ih =>
    intro i o7 hin
    have pf : 2 ^ i < 256 := show 2 ^ i < 2 ^ 8 from Nat.pow_lt_pow_right (by omega) (by omega)
    have kl2 : (knw a (a 6) ||| 2 ^ i) < 256 := Nat.or_lt_two_pow (n := 8) (by omega) pf
    have vl := tlV_le (a := a) (k := k) (f := i) v0
    have ll := tl_le (a := a) (k := k) i
    have t1 := tl_1 (a := a) (k := k) i
    have es : tl a k (i + 1) = if tlV a k i < (tl a k i).2 then (i + 1, tlV a k i) else tl a k i := rfl
    have K2 := fun o7 => ih (i + 1) o7 (by omega)
    cases hb : (knw a (a 6)).testBit i
    · have hz : nI (knw a (a 6)) &&& (1 <<< (nI i &&& 31)) = 0 := (and_bit (by omega) (by omega)).mpr hb
      have w1 := wrong_c (b := 1) v0 hW hk hi hc (show i < a 0 by omega) hb (Or.inr rfl)
      have w0 := wrong_c (b := 0) v0 hW hk hi hc (show i < a 0 by omega) hb (Or.inl rfl)
      rw [Nat.one_mul] at w1
      rw [Nat.zero_mul, Nat.or_zero] at w0
      have ev : tlV a k i = min (cSo a k (knw a (a 6) ||| 2 ^ i) (kso a (a 6) ||| 2 ^ i)) (cWo (a 0) (knw a (a 6) ||| 2 ^ i) - cSo a k (knw a (a 6) ||| 2 ^ i) (kso a (a 6) ||| 2 ^ i)) + min (cSo a k (knw a (a 6) ||| 2 ^ i) (kso a (a 6))) (cWo (a 0) (knw a (a 6) ||| 2 ^ i) - cSo a k (knw a (a 6) ||| 2 ^ i) (kso a (a 6))) := by
        unfold tlV
        rw [if_neg (by rw [hb]; decide), w1, w0]
      have v5 : tlV a k i < 1000000000 := by
        have := cWo_le (n := a 0) (K := (knw a (a 6) ||| 2 ^ i)) v0
        omega
      have s1 : sub (kso a (a 6) ||| 2 ^ i) (knw a (a 6) ||| 2 ^ i) := fun j hj => by
        rw [Nat.testBit_or, Bool.or_eq_true] at hj ⊢
        rcases hj with q | q
        · exact Or.inl (kso_sub j q)
        · exact Or.inr q
      have s0 : sub (kso a (a 6)) (knw a (a 6) ||| 2 ^ i) := fun j hj => by
        rw [Nat.testBit_or, Bool.or_eq_true]
        exact Or.inl (kso_sub j hj)
      have UPD : tlV a k i < (tl a k i).2 → ∀ o7, T d N S mX8_tells 47 [some (.ref 8), some (.int (nI k)), some (.int (nI (knw a (a 6)))), some (.int (nI (kso a (a 6)))), some (.int (nI i)), some (.int (nI (tlV a k i))), some (.int (nI (i + 1))), o7] [] h Q := fun c o7 => by
        have := K2 o7
        rw [es, if_pos c] at this
        rw [show cT ((i + 1, tlV a k i) : Nat × Nat).1 = nI i from cT_s i, if_neg (show ¬ ((i + 1, tlV a k i) : Nat × Nat).1 = 0 from by show ¬ i + 1 = 0; omega)] at this
        exact this
      by_cases hn : (tl a k i).1 = 0
      · have U := UPD (by rw [t1.2 hn]; exact v5)
        refine z_iload dX8_tells_47 rfl ?_
        refine z_aload_n dX8_tells_49 rfl rfl ?_
        refine y_getR FX8_10 dX8_tells_50 rfl c1.1.1 c1.1.2.1 ?_
        refine y_getR FX8_65 dX8_tells_53 rfl c1.1.2.2.2.2.1.o c1.1.2.2.2.2.1.f4 ?_
        refine y_getI FX8_130 dX8_tells_56 (Or.inl rfl) c1.1.2.2.2.2.1.facts.1 ?_
        refine z_eqi (y := nI (a 0)) (show _ = nI (a 0) from c1.2.2.2.2.2.1.1.2.2.1) ?_
        refine z_icmp_ge dX8_tells_59 rfl (fun c => absurd c (fun q => absurd ((nI_leI (by omega) (by omega)).mp q) (by omega))) (fun _ => ?_)
        refine z_iload_n dX8_tells_62 rfl rfl ?_
        refine z_iload dX8_tells_63 rfl ?_
        refine y_callS (as := [_]) CX8_bit LX8_163 SX8_bit dX8_tells_65 rfl (Nat.le_of_ble_eq_true rfl) (Nat.le_of_ble_eq_true rfl) (by omega) (s_bit _) rok_i ⟨Nat.le_refl _, Nat.le_refl _, hN, hS⟩ ?_
        refine z_iand dX8_tells_68 ?_
        refine z_if_ne dX8_tells_69 rfl (fun c => absurd (hz) c) (fun _ => ?_)
        refine z_aload_n dX8_tells_72 rfl rfl ?_
        refine z_iload_n dX8_tells_73 rfl rfl ?_
        refine z_iload_n dX8_tells_74 rfl rfl ?_
        refine z_iload dX8_tells_75 rfl ?_
        refine y_callS (as := [_]) CX8_bit LX8_163 SX8_bit dX8_tells_77 rfl (Nat.le_of_ble_eq_true rfl) (Nat.le_of_ble_eq_true rfl) (by omega) (s_bit _) rok_i ⟨Nat.le_refl _, Nat.le_refl _, hN, hS⟩ ?_
        refine z_eqi (nI_bit (show i < 31 by omega)) ?_
        refine z_ior dX8_tells_80 ?_
        refine z_eqi (nI_or (knw a (a 6)) (2 ^ i)) ?_
        refine z_iload_n dX8_tells_81 rfl rfl ?_
        refine z_iload dX8_tells_82 rfl ?_
        refine y_callS (as := [_]) CX8_bit LX8_163 SX8_bit dX8_tells_84 rfl (Nat.le_of_ble_eq_true rfl) (Nat.le_of_ble_eq_true rfl) (by omega) (s_bit _) rok_i ⟨Nat.le_refl _, Nat.le_refl _, hN, hS⟩ ?_
        refine z_eqi (nI_bit (show i < 31 by omega)) ?_
        refine z_ior dX8_tells_87 ?_
        refine z_eqi (nI_or (kso a (a 6)) (2 ^ i)) ?_
        refine y_callV (as := [_, _, _]) CX8_countWrong LX8_396 IX8_countWrong VX8_countWrong ⟨rfl, Nat.le_of_ble_eq_true rfl⟩ dX8_tells_88 c1.1.1 rfl (Nat.le_of_ble_eq_true rfl) (Nat.le_of_ble_eq_true rfl) (by omega) (c_countWrong (d := 4) (k := k) (K := (knw a (a 6) ||| 2 ^ i)) (A := kso a (a 6) ||| 2 ^ i) c1 hv hW hk kl2 s1 (Nat.le_refl _)) rok_i ⟨Nat.le_refl _, Nat.le_refl _, hN, hS⟩ ?_
        refine z_aload_n dX8_tells_91 rfl rfl ?_
        refine z_iload_n dX8_tells_92 rfl rfl ?_
        refine z_iload_n dX8_tells_93 rfl rfl ?_
        refine z_iload dX8_tells_94 rfl ?_
        refine y_callS (as := [_]) CX8_bit LX8_163 SX8_bit dX8_tells_96 rfl (Nat.le_of_ble_eq_true rfl) (Nat.le_of_ble_eq_true rfl) (by omega) (s_bit _) rok_i ⟨Nat.le_refl _, Nat.le_refl _, hN, hS⟩ ?_
        refine z_eqi (nI_bit (show i < 31 by omega)) ?_
        refine z_ior dX8_tells_99 ?_
        refine z_eqi (nI_or (knw a (a 6)) (2 ^ i)) ?_
        refine z_iload_n dX8_tells_100 rfl rfl ?_
        refine y_callV (as := [_, _, _]) CX8_countWrong LX8_396 IX8_countWrong VX8_countWrong ⟨rfl, Nat.le_of_ble_eq_true rfl⟩ dX8_tells_101 c1.1.1 rfl (Nat.le_of_ble_eq_true rfl) (Nat.le_of_ble_eq_true rfl) (by omega) (c_countWrong (d := 4) (k := k) (K := (knw a (a 6) ||| 2 ^ i)) (A := kso a (a 6)) c1 hv hW hk kl2 s0 (Nat.le_refl _)) rok_i ⟨Nat.le_refl _, Nat.le_refl _, hN, hS⟩ ?_
        refine z_iadd dX8_tells_104 ?_
        refine z_eqi (show _ = nI (tlV a k i) from (nI_add _ _).trans (congrArg nI ev.symm)) ?_
        refine z_istore dX8_tells_105 (Nat.le_of_ble_eq_true rfl) ?_
        refine z_iload dX8_tells_107 rfl ?_
        refine z_iconst (v := -1) dX8_tells_109 (by decide) ?_
        refine z_icmp_eq dX8_tells_110 rfl (fun _ => ?_) (fun c => absurd (by rw [hn]; rfl) c)
        refine z_iload dX8_tells_120 rfl ?_
        refine z_istore dX8_tells_122 (Nat.le_of_ble_eq_true rfl) ?_
        refine z_iload dX8_tells_124 rfl ?_
        refine z_istore dX8_tells_126 (Nat.le_of_ble_eq_true rfl) ?_
        refine z_iinc dX8_tells_128 rfl (nI_1 _) (Nat.le_of_ble_eq_true rfl) ?_
        refine z_goto dX8_tells_131 rfl ?_
        exact U _
      · have nn1 : ¬ cT (tl a k i).1 = -1 := fun q => by
          rw [show cT (tl a k i).1 = nI ((tl a k i).1 - 1) from if_neg hn] at q
          have := nI_pos (n := (tl a k i).1 - 1) (by have := t1.1; omega)
          rw [q] at this
          exact this (by decide)
        rw [if_neg hn]
        by_cases c : tlV a k i < (tl a k i).2
        · have U := UPD c
          refine z_iload dX8_tells_47 rfl ?_
          refine z_aload_n dX8_tells_49 rfl rfl ?_
          refine y_getR FX8_10 dX8_tells_50 rfl c1.1.1 c1.1.2.1 ?_
          refine y_getR FX8_65 dX8_tells_53 rfl c1.1.2.2.2.2.1.o c1.1.2.2.2.2.1.f4 ?_
          refine y_getI FX8_130 dX8_tells_56 (Or.inl rfl) c1.1.2.2.2.2.1.facts.1 ?_
          refine z_eqi (y := nI (a 0)) (show _ = nI (a 0) from c1.2.2.2.2.2.1.1.2.2.1) ?_
          refine z_icmp_ge dX8_tells_59 rfl (fun c => absurd c (fun q => absurd ((nI_leI (by omega) (by omega)).mp q) (by omega))) (fun _ => ?_)
          refine z_iload_n dX8_tells_62 rfl rfl ?_
          refine z_iload dX8_tells_63 rfl ?_
          refine y_callS (as := [_]) CX8_bit LX8_163 SX8_bit dX8_tells_65 rfl (Nat.le_of_ble_eq_true rfl) (Nat.le_of_ble_eq_true rfl) (by omega) (s_bit _) rok_i ⟨Nat.le_refl _, Nat.le_refl _, hN, hS⟩ ?_
          refine z_iand dX8_tells_68 ?_
          refine z_if_ne dX8_tells_69 rfl (fun c => absurd (hz) c) (fun _ => ?_)
          refine z_aload_n dX8_tells_72 rfl rfl ?_
          refine z_iload_n dX8_tells_73 rfl rfl ?_
          refine z_iload_n dX8_tells_74 rfl rfl ?_
          refine z_iload dX8_tells_75 rfl ?_
          refine y_callS (as := [_]) CX8_bit LX8_163 SX8_bit dX8_tells_77 rfl (Nat.le_of_ble_eq_true rfl) (Nat.le_of_ble_eq_true rfl) (by omega) (s_bit _) rok_i ⟨Nat.le_refl _, Nat.le_refl _, hN, hS⟩ ?_
          refine z_eqi (nI_bit (show i < 31 by omega)) ?_
          refine z_ior dX8_tells_80 ?_
          refine z_eqi (nI_or (knw a (a 6)) (2 ^ i)) ?_
          refine z_iload_n dX8_tells_81 rfl rfl ?_
          refine z_iload dX8_tells_82 rfl ?_
          refine y_callS (as := [_]) CX8_bit LX8_163 SX8_bit dX8_tells_84 rfl (Nat.le_of_ble_eq_true rfl) (Nat.le_of_ble_eq_true rfl) (by omega) (s_bit _) rok_i ⟨Nat.le_refl _, Nat.le_refl _, hN, hS⟩ ?_
          refine z_eqi (nI_bit (show i < 31 by omega)) ?_
          refine z_ior dX8_tells_87 ?_
          refine z_eqi (nI_or (kso a (a 6)) (2 ^ i)) ?_
          refine y_callV (as := [_, _, _]) CX8_countWrong LX8_396 IX8_countWrong VX8_countWrong ⟨rfl, Nat.le_of_ble_eq_true rfl⟩ dX8_tells_88 c1.1.1 rfl (Nat.le_of_ble_eq_true rfl) (Nat.le_of_ble_eq_true rfl) (by omega) (c_countWrong (d := 4) (k := k) (K := (knw a (a 6) ||| 2 ^ i)) (A := kso a (a 6) ||| 2 ^ i) c1 hv hW hk kl2 s1 (Nat.le_refl _)) rok_i ⟨Nat.le_refl _, Nat.le_refl _, hN, hS⟩ ?_
          refine z_aload_n dX8_tells_91 rfl rfl ?_
          refine z_iload_n dX8_tells_92 rfl rfl ?_
          refine z_iload_n dX8_tells_93 rfl rfl ?_
          refine z_iload dX8_tells_94 rfl ?_
          refine y_callS (as := [_]) CX8_bit LX8_163 SX8_bit dX8_tells_96 rfl (Nat.le_of_ble_eq_true rfl) (Nat.le_of_ble_eq_true rfl) (by omega) (s_bit _) rok_i ⟨Nat.le_refl _, Nat.le_refl _, hN, hS⟩ ?_
          refine z_eqi (nI_bit (show i < 31 by omega)) ?_
          refine z_ior dX8_tells_99 ?_
          refine z_eqi (nI_or (knw a (a 6)) (2 ^ i)) ?_
          refine z_iload_n dX8_tells_100 rfl rfl ?_
          refine y_callV (as := [_, _, _]) CX8_countWrong LX8_396 IX8_countWrong VX8_countWrong ⟨rfl, Nat.le_of_ble_eq_true rfl⟩ dX8_tells_101 c1.1.1 rfl (Nat.le_of_ble_eq_true rfl) (Nat.le_of_ble_eq_true rfl) (by omega) (c_countWrong (d := 4) (k := k) (K := (knw a (a 6) ||| 2 ^ i)) (A := kso a (a 6)) c1 hv hW hk kl2 s0 (Nat.le_refl _)) rok_i ⟨Nat.le_refl _, Nat.le_refl _, hN, hS⟩ ?_
          refine z_iadd dX8_tells_104 ?_
          refine z_eqi (show _ = nI (tlV a k i) from (nI_add _ _).trans (congrArg nI ev.symm)) ?_
          refine z_istore dX8_tells_105 (Nat.le_of_ble_eq_true rfl) ?_
          refine z_iload dX8_tells_107 rfl ?_
          refine z_iconst (v := -1) dX8_tells_109 (by decide) ?_
          refine z_icmp_eq dX8_tells_110 rfl (fun c => absurd c (nn1)) (fun _ => ?_)
          refine z_iload dX8_tells_113 rfl ?_
          refine z_iload dX8_tells_115 rfl ?_
          refine z_icmp_ge dX8_tells_117 rfl (fun c => absurd c (fun q => absurd ((nI_leI (by omega) (by omega)).mp q) (by omega))) (fun _ => ?_)
          refine z_iload dX8_tells_120 rfl ?_
          refine z_istore dX8_tells_122 (Nat.le_of_ble_eq_true rfl) ?_
          refine z_iload dX8_tells_124 rfl ?_
          refine z_istore dX8_tells_126 (Nat.le_of_ble_eq_true rfl) ?_
          refine z_iinc dX8_tells_128 rfl (nI_1 _) (Nat.le_of_ble_eq_true rfl) ?_
          refine z_goto dX8_tells_131 rfl ?_
          exact U _
        · rw [es, if_neg c, if_neg hn] at K2
          refine z_iload dX8_tells_47 rfl ?_
          refine z_aload_n dX8_tells_49 rfl rfl ?_
          refine y_getR FX8_10 dX8_tells_50 rfl c1.1.1 c1.1.2.1 ?_
          refine y_getR FX8_65 dX8_tells_53 rfl c1.1.2.2.2.2.1.o c1.1.2.2.2.2.1.f4 ?_
          refine y_getI FX8_130 dX8_tells_56 (Or.inl rfl) c1.1.2.2.2.2.1.facts.1 ?_
          refine z_eqi (y := nI (a 0)) (show _ = nI (a 0) from c1.2.2.2.2.2.1.1.2.2.1) ?_
          refine z_icmp_ge dX8_tells_59 rfl (fun c => absurd c (fun q => absurd ((nI_leI (by omega) (by omega)).mp q) (by omega))) (fun _ => ?_)
          refine z_iload_n dX8_tells_62 rfl rfl ?_
          refine z_iload dX8_tells_63 rfl ?_
          refine y_callS (as := [_]) CX8_bit LX8_163 SX8_bit dX8_tells_65 rfl (Nat.le_of_ble_eq_true rfl) (Nat.le_of_ble_eq_true rfl) (by omega) (s_bit _) rok_i ⟨Nat.le_refl _, Nat.le_refl _, hN, hS⟩ ?_
          refine z_iand dX8_tells_68 ?_
          refine z_if_ne dX8_tells_69 rfl (fun c => absurd (hz) c) (fun _ => ?_)
          refine z_aload_n dX8_tells_72 rfl rfl ?_
          refine z_iload_n dX8_tells_73 rfl rfl ?_
          refine z_iload_n dX8_tells_74 rfl rfl ?_
          refine z_iload dX8_tells_75 rfl ?_
          refine y_callS (as := [_]) CX8_bit LX8_163 SX8_bit dX8_tells_77 rfl (Nat.le_of_ble_eq_true rfl) (Nat.le_of_ble_eq_true rfl) (by omega) (s_bit _) rok_i ⟨Nat.le_refl _, Nat.le_refl _, hN, hS⟩ ?_
          refine z_eqi (nI_bit (show i < 31 by omega)) ?_
          refine z_ior dX8_tells_80 ?_
          refine z_eqi (nI_or (knw a (a 6)) (2 ^ i)) ?_
          refine z_iload_n dX8_tells_81 rfl rfl ?_
          refine z_iload dX8_tells_82 rfl ?_
          refine y_callS (as := [_]) CX8_bit LX8_163 SX8_bit dX8_tells_84 rfl (Nat.le_of_ble_eq_true rfl) (Nat.le_of_ble_eq_true rfl) (by omega) (s_bit _) rok_i ⟨Nat.le_refl _, Nat.le_refl _, hN, hS⟩ ?_
          refine z_eqi (nI_bit (show i < 31 by omega)) ?_
          refine z_ior dX8_tells_87 ?_
          refine z_eqi (nI_or (kso a (a 6)) (2 ^ i)) ?_
          refine y_callV (as := [_, _, _]) CX8_countWrong LX8_396 IX8_countWrong VX8_countWrong ⟨rfl, Nat.le_of_ble_eq_true rfl⟩ dX8_tells_88 c1.1.1 rfl (Nat.le_of_ble_eq_true rfl) (Nat.le_of_ble_eq_true rfl) (by omega) (c_countWrong (d := 4) (k := k) (K := (knw a (a 6) ||| 2 ^ i)) (A := kso a (a 6) ||| 2 ^ i) c1 hv hW hk kl2 s1 (Nat.le_refl _)) rok_i ⟨Nat.le_refl _, Nat.le_refl _, hN, hS⟩ ?_
          refine z_aload_n dX8_tells_91 rfl rfl ?_
          refine z_iload_n dX8_tells_92 rfl rfl ?_
          refine z_iload_n dX8_tells_93 rfl rfl ?_
          refine z_iload dX8_tells_94 rfl ?_
          refine y_callS (as := [_]) CX8_bit LX8_163 SX8_bit dX8_tells_96 rfl (Nat.le_of_ble_eq_true rfl) (Nat.le_of_ble_eq_true rfl) (by omega) (s_bit _) rok_i ⟨Nat.le_refl _, Nat.le_refl _, hN, hS⟩ ?_
          refine z_eqi (nI_bit (show i < 31 by omega)) ?_
          refine z_ior dX8_tells_99 ?_
          refine z_eqi (nI_or (knw a (a 6)) (2 ^ i)) ?_
          refine z_iload_n dX8_tells_100 rfl rfl ?_
          refine y_callV (as := [_, _, _]) CX8_countWrong LX8_396 IX8_countWrong VX8_countWrong ⟨rfl, Nat.le_of_ble_eq_true rfl⟩ dX8_tells_101 c1.1.1 rfl (Nat.le_of_ble_eq_true rfl) (Nat.le_of_ble_eq_true rfl) (by omega) (c_countWrong (d := 4) (k := k) (K := (knw a (a 6) ||| 2 ^ i)) (A := kso a (a 6)) c1 hv hW hk kl2 s0 (Nat.le_refl _)) rok_i ⟨Nat.le_refl _, Nat.le_refl _, hN, hS⟩ ?_
          refine z_iadd dX8_tells_104 ?_
          refine z_eqi (show _ = nI (tlV a k i) from (nI_add _ _).trans (congrArg nI ev.symm)) ?_
          refine z_istore dX8_tells_105 (Nat.le_of_ble_eq_true rfl) ?_
          refine z_iload dX8_tells_107 rfl ?_
          refine z_iconst (v := -1) dX8_tells_109 (by decide) ?_
          refine z_icmp_eq dX8_tells_110 rfl (fun c => absurd c (nn1)) (fun _ => ?_)
          refine z_iload dX8_tells_113 rfl ?_
          refine z_iload dX8_tells_115 rfl ?_
          refine z_icmp_ge dX8_tells_117 rfl (fun _ => ?_) (fun c => absurd ((nI_leI (by omega) (by omega)).mpr (by omega)) c)
          refine z_iinc dX8_tells_128 rfl (nI_1 _) (Nat.le_of_ble_eq_true rfl) ?_
          refine z_goto dX8_tells_131 rfl ?_
          exact K2 _
    · have hz : ¬ nI (knw a (a 6)) &&& (1 <<< (nI i &&& 31)) = 0 := fun q => by
        have := (and_bit (by omega) (by omega)).mp q
        rw [hb] at this
        exact absurd this (by decide)
      have ev : tlV a k i = 1000000000 := if_pos hb
      rw [es, if_neg (by omega)] at K2
      refine z_iload dX8_tells_47 rfl ?_
      refine z_aload_n dX8_tells_49 rfl rfl ?_
      refine y_getR FX8_10 dX8_tells_50 rfl c1.1.1 c1.1.2.1 ?_
      refine y_getR FX8_65 dX8_tells_53 rfl c1.1.2.2.2.2.1.o c1.1.2.2.2.2.1.f4 ?_
      refine y_getI FX8_130 dX8_tells_56 (Or.inl rfl) c1.1.2.2.2.2.1.facts.1 ?_
      refine z_eqi (y := nI (a 0)) (show _ = nI (a 0) from c1.2.2.2.2.2.1.1.2.2.1) ?_
      refine z_icmp_ge dX8_tells_59 rfl (fun c => absurd c (fun q => absurd ((nI_leI (by omega) (by omega)).mp q) (by omega))) (fun _ => ?_)
      refine z_iload_n dX8_tells_62 rfl rfl ?_
      refine z_iload dX8_tells_63 rfl ?_
      refine y_callS (as := [_]) CX8_bit LX8_163 SX8_bit dX8_tells_65 rfl (Nat.le_of_ble_eq_true rfl) (Nat.le_of_ble_eq_true rfl) (by omega) (s_bit _) rok_i ⟨Nat.le_refl _, Nat.le_refl _, hN, hS⟩ ?_
      refine z_iand dX8_tells_68 ?_
      refine z_if_ne dX8_tells_69 rfl (fun _ => ?_) (fun c => absurd c (hz))
      refine z_iinc dX8_tells_128 rfl (nI_1 _) (Nat.le_of_ble_eq_true rfl) ?_
      refine z_goto dX8_tells_131 rfl ?_
      exact K2 _

theorem C_tells {h : Hp} {a : Fl} {tf : Nat → Int32} {d : Nat} (c1 : CZ h a tf) (hv : IC a) (hi : IH a) (hW : IW (a 0) (snap a)) (k : Int32) (hd : 5 ≤ d) : Sp d mX8_tells [.ref 8, .int k] h (some (.int (mTells a k))) h := by
  have v0 := hv.1
  have v6 := hv.2.2.2.2.2.2.1
  have v11 := hv.2.2.2.2.2.2.2.2.2.2.2.1
  have p8 : 2 ^ a 0 ≤ 2 ^ 8 := Nat.pow_le_pow_right (by omega) v0
  have p1 : 0 < 2 ^ a 0 := Nat.pow_pos (by omega)
  have mh := c1.2.2.2.2.2.2.2.1
  intro N S Q hN hS hQ
  by_cases hk : vin k (a 11)
  · obtain ⟨k, hk1, rfl⟩ := vin_of (n := a 11) (by omega) hk
    cases hc : ctB a (a 6)
    · have wz := worlds_2 (k := k) v0 hi hc
      have wp := cWo_pos (n := a 0) (K := knw a (a 6))
      have eq : mTells a (nI k) = cT (tl a (nn (nI k)) (a 0)).1 := if_pos ⟨hk, by rw [nn_nI (by omega), wz]; omega⟩
      rw [eq, nn_nI (by omega)] at hQ
      have L := c_tells_loop c1 hv hi hW hk1 hc hN hS hd hQ (a 0) 0 none (by omega)
      refine z_aload_n dX8_tells_0 rfl rfl ?_
      refine y_getR FX8_10 dX8_tells_1 rfl c1.1.1 c1.1.2.1 ?_
      refine y_getR FX8_79 dX8_tells_4 rfl c1.1.2.2.2.2.1.o c1.1.2.2.2.2.1.f0 ?_
      refine y_getR FX8_127 dX8_tells_7 rfl c1.1.2.2.2.2.1.now.1 c1.1.2.2.2.2.1.now.2.2.2.1 ?_
      refine z_iload_n dX8_tells_10 rfl rfl ?_
      refine y_callV (as := [_]) CX4_has LX8_140 IX4_has VX4_has ⟨rfl, Nat.le_of_ble_eq_true rfl⟩ dX8_tells_11 c1.1.2.2.2.2.1.now.2.2.2.2.1.1 rfl (Nat.le_of_ble_eq_true rfl) (Nat.le_of_ble_eq_true rfl) (by omega) (s_has (n := a 11) (by exact c1.1.2.2.2.2.1.now.2.2.2.2.1) (show RwC h 13 6 12 (a 11) from c1.2.1.2.2.2.2.2.1) _) (rok_z bI_01) ⟨Nat.le_refl _, Nat.le_refl _, hN, hS⟩ ?_
      refine z_if_eq dX8_tells_14 rfl (fun c => absurd c (bI_ne0.mpr hk)) (fun _ => ?_)
      refine z_aload_n dX8_tells_17 rfl rfl ?_
      refine y_callV (as := []) CX8_isContradicted LX8_380 IX8_isContradicted VX8_isContradicted ⟨rfl, Nat.le_of_ble_eq_true rfl⟩ dX8_tells_18 c1.1.1 rfl (Nat.le_of_ble_eq_true rfl) (Nat.le_of_ble_eq_true rfl) (by omega) (c_isContradicted (d := 2) c1 hv hi (Nat.le_refl _)) (rok_z bI_01) ⟨Nat.le_refl _, Nat.le_refl _, hN, hS⟩ ?_
      refine z_if_eq dX8_tells_21 rfl (fun _ => ?_) (fun c => absurd (bI_eq0.mpr (by rw [hc]; decide)) c)
      refine z_aload_n dX8_tells_26 rfl rfl ?_
      refine z_iconst (v := 0) dX8_tells_27 (by decide) ?_
      refine y_callV (as := [_]) CX8_heardFacts LX8_384 IX8_heardFacts VX8_heardFacts ⟨rfl, Nat.le_of_ble_eq_true rfl⟩ dX8_tells_28 c1.1.1 rfl (Nat.le_of_ble_eq_true rfl) (Nat.le_of_ble_eq_true rfl) (by omega) (c_heard_0 (d := 1) c1 hv hi (Nat.le_refl _)) rok_i ⟨Nat.le_refl _, Nat.le_refl _, hN, hS⟩ ?_
      refine z_istore_n dX8_tells_31 rfl (Nat.le_of_ble_eq_true rfl) ?_
      refine z_aload_n dX8_tells_32 rfl rfl ?_
      refine z_iconst (v := 1) dX8_tells_33 (by decide) ?_
      refine y_callV (as := [_]) CX8_heardFacts LX8_384 IX8_heardFacts VX8_heardFacts ⟨rfl, Nat.le_of_ble_eq_true rfl⟩ dX8_tells_34 c1.1.1 rfl (Nat.le_of_ble_eq_true rfl) (Nat.le_of_ble_eq_true rfl) (by omega) (c_heard_1 (d := 1) c1 hv hi (Nat.le_refl _)) rok_i ⟨Nat.le_refl _, Nat.le_refl _, hN, hS⟩ ?_
      refine z_istore_n dX8_tells_37 rfl (Nat.le_of_ble_eq_true rfl) ?_
      refine z_iconst (v := -1) dX8_tells_38 (by decide) ?_
      refine z_istore dX8_tells_39 (Nat.le_of_ble_eq_true rfl) ?_
      refine z_iconst (v := 0) dX8_tells_41 (by decide) ?_
      refine z_istore dX8_tells_42 (Nat.le_of_ble_eq_true rfl) ?_
      refine z_iconst (v := 0) dX8_tells_44 (by decide) ?_
      refine z_istore dX8_tells_45 (Nat.le_of_ble_eq_true rfl) ?_
      exact L
    · have eq : mTells a (nI k) = -1 := if_neg (fun q => q.2 (worlds_0 hc))
      rw [eq] at hQ
      refine z_aload_n dX8_tells_0 rfl rfl ?_
      refine y_getR FX8_10 dX8_tells_1 rfl c1.1.1 c1.1.2.1 ?_
      refine y_getR FX8_79 dX8_tells_4 rfl c1.1.2.2.2.2.1.o c1.1.2.2.2.2.1.f0 ?_
      refine y_getR FX8_127 dX8_tells_7 rfl c1.1.2.2.2.2.1.now.1 c1.1.2.2.2.2.1.now.2.2.2.1 ?_
      refine z_iload_n dX8_tells_10 rfl rfl ?_
      refine y_callV (as := [_]) CX4_has LX8_140 IX4_has VX4_has ⟨rfl, Nat.le_of_ble_eq_true rfl⟩ dX8_tells_11 c1.1.2.2.2.2.1.now.2.2.2.2.1.1 rfl (Nat.le_of_ble_eq_true rfl) (Nat.le_of_ble_eq_true rfl) (by omega) (s_has (n := a 11) (by exact c1.1.2.2.2.2.1.now.2.2.2.2.1) (show RwC h 13 6 12 (a 11) from c1.2.1.2.2.2.2.2.1) _) (rok_z bI_01) ⟨Nat.le_refl _, Nat.le_refl _, hN, hS⟩ ?_
      refine z_if_eq dX8_tells_14 rfl (fun c => absurd c (bI_ne0.mpr hk)) (fun _ => ?_)
      refine z_aload_n dX8_tells_17 rfl rfl ?_
      refine y_callV (as := []) CX8_isContradicted LX8_380 IX8_isContradicted VX8_isContradicted ⟨rfl, Nat.le_of_ble_eq_true rfl⟩ dX8_tells_18 c1.1.1 rfl (Nat.le_of_ble_eq_true rfl) (Nat.le_of_ble_eq_true rfl) (by omega) (c_isContradicted (d := 2) c1 hv hi (Nat.le_refl _)) (rok_z bI_01) ⟨Nat.le_refl _, Nat.le_refl _, hN, hS⟩ ?_
      refine z_if_eq dX8_tells_21 rfl (fun c => absurd c (bI_ne0.mpr hc)) (fun _ => ?_)
      refine z_iconst (v := -1) dX8_tells_24 (by decide) ?_
      refine z_iret dX8_tells_25 ?_
      exact hQ
  · have eq : mTells a k = -1 := if_neg (fun q => hk q.1)
    rw [eq] at hQ
    refine z_aload_n dX8_tells_0 rfl rfl ?_
    refine y_getR FX8_10 dX8_tells_1 rfl c1.1.1 c1.1.2.1 ?_
    refine y_getR FX8_79 dX8_tells_4 rfl c1.1.2.2.2.2.1.o c1.1.2.2.2.2.1.f0 ?_
    refine y_getR FX8_127 dX8_tells_7 rfl c1.1.2.2.2.2.1.now.1 c1.1.2.2.2.2.1.now.2.2.2.1 ?_
    refine z_iload_n dX8_tells_10 rfl rfl ?_
    refine y_callV (as := [_]) CX4_has LX8_140 IX4_has VX4_has ⟨rfl, Nat.le_of_ble_eq_true rfl⟩ dX8_tells_11 c1.1.2.2.2.2.1.now.2.2.2.2.1.1 rfl (Nat.le_of_ble_eq_true rfl) (Nat.le_of_ble_eq_true rfl) (by omega) (s_has (n := a 11) (by exact c1.1.2.2.2.2.1.now.2.2.2.2.1) (show RwC h 13 6 12 (a 11) from c1.2.1.2.2.2.2.2.1) _) (rok_z bI_01) ⟨Nat.le_refl _, Nat.le_refl _, hN, hS⟩ ?_
    refine z_if_eq dX8_tells_14 rfl (fun _ => ?_) (fun c => absurd (bI_eq0.mpr hk) c)
    refine z_iconst (v := -1) dX8_tells_24 (by decide) ?_
    refine z_iret dX8_tells_25 ?_
    exact hQ

