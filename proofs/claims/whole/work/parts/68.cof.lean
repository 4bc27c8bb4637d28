/-! ofFact, word, of: the class (walks by program: wip/whole/gen68.py) -/
theorem C_ofFact {h : Hp} {d : Nat} {a : Fl} {tf : Nat → Int32} (cl : CLW h a tf 10 (snap a)) (hi : IC a) (hp : IP a) (hq : IQ a) (hf : IFc a) (hW : IW (a 0) (snap a)) (hT : a 3 ≠ 0 → TXV tf (a 3 - 1)) (f w : Int32) (hd : 5 ≤ d) : ∃ h1, Sp d mX8_ofFact [.ref 8, .int f, .int w] h (some (.int (mOfFact tf a f w))) h1 ∧ FR 482 483 h h1 := by
  obtain ⟨h8, hx0, hx4, hk, hs, hz, mo, hw, hv, hwb⟩ := id cl
  have v0 := hi.1
  have v1 := hi.2.1
  have v2 := hi.2.2.1
  have v3 := hi.2.2.2.1
  have v10 := hi.2.2.2.2.2.2.2.2.2.2.1
  have v11 := hi.2.2.2.2.2.2.2.2.2.2.2.1
  unfold mOfFact
  by_cases hin : vin f (a 0)
  · by_cases hw4 : inr w 0 3
    · rw [if_pos ⟨hin, hw4⟩]
      obtain ⟨k, hk1, rfl⟩ := vin_of (by omega) hin
      obtain ⟨j, hj, rfl⟩ := inr_of (n := 3) (by omega) hw4
      rw [nn_nI (by omega), nn_nI (by omega)]
      rcases (show j = 0 ∨ j = 1 ∨ j = 2 ∨ j = 3 by omega) with rfl | rfl | rfl | rfl
      · refine ⟨h, ?_, FR.rf⟩
        intro N S Q hN hS hQ
        refine z_aload_n dX8_ofFact_0 rfl rfl ?_
        refine y_getR FX8_10 dX8_ofFact_1 rfl h8 hx0 ?_
        refine y_getR FX8_65 dX8_ofFact_4 rfl hs.o hs.f4 ?_
        refine z_iload_n dX8_ofFact_7 rfl rfl ?_
        refine y_callV (as := [_]) CX4_has LX8_140 IX4_has VX4_has ⟨rfl, Nat.le_of_ble_eq_true rfl⟩ dX8_ofFact_8 hs.facts.1 rfl (Nat.le_of_ble_eq_true rfl) (Nat.le_of_ble_eq_true rfl) (by omega) (s_has (k := 18) (w := 2) (ms := 8) (by exact (by exact hs.facts)) mo.1.1 _) (rok_z bI_01) ⟨Nat.le_refl _, Nat.le_refl _, hN, hS⟩ ?_
        refine z_if_eq dX8_ofFact_11 rfl (fun c => absurd c (bI_ne0.mpr hin)) (fun _ => ?_)
        refine z_iload_n dX8_ofFact_14 rfl rfl ?_
        refine z_iconst (v := 0) dX8_ofFact_15 (by decide) ?_
        refine z_iconst (v := 3) dX8_ofFact_16 (by decide) ?_
        refine y_callS (as := [_, _, _]) CX8_within LX8_61 SX8_within dX8_ofFact_17 rfl (Nat.le_of_ble_eq_true rfl) (Nat.le_of_ble_eq_true rfl) (by omega) (s_within _ _ _) (rok_z bI_01) ⟨Nat.le_refl _, Nat.le_refl _, hN, hS⟩ ?_
        refine z_if_ne dX8_ofFact_20 rfl (fun _ => ?_) (fun c => absurd c (bI_ne0.mpr hw4))
        refine z_iload_n dX8_ofFact_26 rfl rfl ?_
        refine z_iconst (v := 1) dX8_ofFact_27 (by decide) ?_
        refine z_icmp_gt dX8_ofFact_28 rfl (fun c => absurd c (by decide)) (fun _ => ?_)
        refine z_aload_n dX8_ofFact_31 rfl rfl ?_
        refine y_getR FX8_10 dX8_ofFact_32 rfl h8 hx0 ?_
        refine y_getR FX8_65 dX8_ofFact_35 rfl hs.o hs.f4 ?_
        refine z_iload_n dX8_ofFact_38 rfl rfl ?_
        refine z_iload_n dX8_ofFact_39 rfl rfl ?_
        refine y_callV (as := [_, _]) CX4_get LX8_143 IX4_get VX4_get ⟨rfl, Nat.le_of_ble_eq_true rfl⟩ dX8_ofFact_40 hs.facts.1 rfl (Nat.le_of_ble_eq_true rfl) (Nat.le_of_ble_eq_true rfl) (by omega) (s_get (k := 18) (w := 2) (ms := 8) (i := k) (j := 0) (by exact (by exact hs.facts)) mo.1.1 hk1 (by omega)) rok_i ⟨Nat.le_refl _, Nat.le_refl _, hN, hS⟩ ?_
        refine z_eqi (show _ = nI (a (110 + 2 * k + 0)) by rw [mo.1.2 (k * 2 + 0) (by omega)]; exact congrArg (fun i => nI (a i)) (by omega)) ?_
        refine z_iret dX8_ofFact_43 ?_
        exact hQ
      · refine ⟨h, ?_, FR.rf⟩
        intro N S Q hN hS hQ
        refine z_aload_n dX8_ofFact_0 rfl rfl ?_
        refine y_getR FX8_10 dX8_ofFact_1 rfl h8 hx0 ?_
        refine y_getR FX8_65 dX8_ofFact_4 rfl hs.o hs.f4 ?_
        refine z_iload_n dX8_ofFact_7 rfl rfl ?_
        refine y_callV (as := [_]) CX4_has LX8_140 IX4_has VX4_has ⟨rfl, Nat.le_of_ble_eq_true rfl⟩ dX8_ofFact_8 hs.facts.1 rfl (Nat.le_of_ble_eq_true rfl) (Nat.le_of_ble_eq_true rfl) (by omega) (s_has (k := 18) (w := 2) (ms := 8) (by exact (by exact hs.facts)) mo.1.1 _) (rok_z bI_01) ⟨Nat.le_refl _, Nat.le_refl _, hN, hS⟩ ?_
        refine z_if_eq dX8_ofFact_11 rfl (fun c => absurd c (bI_ne0.mpr hin)) (fun _ => ?_)
        refine z_iload_n dX8_ofFact_14 rfl rfl ?_
        refine z_iconst (v := 0) dX8_ofFact_15 (by decide) ?_
        refine z_iconst (v := 3) dX8_ofFact_16 (by decide) ?_
        refine y_callS (as := [_, _, _]) CX8_within LX8_61 SX8_within dX8_ofFact_17 rfl (Nat.le_of_ble_eq_true rfl) (Nat.le_of_ble_eq_true rfl) (by omega) (s_within _ _ _) (rok_z bI_01) ⟨Nat.le_refl _, Nat.le_refl _, hN, hS⟩ ?_
        refine z_if_ne dX8_ofFact_20 rfl (fun _ => ?_) (fun c => absurd c (bI_ne0.mpr hw4))
        refine z_iload_n dX8_ofFact_26 rfl rfl ?_
        refine z_iconst (v := 1) dX8_ofFact_27 (by decide) ?_
        refine z_icmp_gt dX8_ofFact_28 rfl (fun c => absurd c (by decide)) (fun _ => ?_)
        refine z_aload_n dX8_ofFact_31 rfl rfl ?_
        refine y_getR FX8_10 dX8_ofFact_32 rfl h8 hx0 ?_
        refine y_getR FX8_65 dX8_ofFact_35 rfl hs.o hs.f4 ?_
        refine z_iload_n dX8_ofFact_38 rfl rfl ?_
        refine z_iload_n dX8_ofFact_39 rfl rfl ?_
        refine y_callV (as := [_, _]) CX4_get LX8_143 IX4_get VX4_get ⟨rfl, Nat.le_of_ble_eq_true rfl⟩ dX8_ofFact_40 hs.facts.1 rfl (Nat.le_of_ble_eq_true rfl) (Nat.le_of_ble_eq_true rfl) (by omega) (s_get (k := 18) (w := 2) (ms := 8) (i := k) (j := 1) (by exact (by exact hs.facts)) mo.1.1 hk1 (by omega)) rok_i ⟨Nat.le_refl _, Nat.le_refl _, hN, hS⟩ ?_
        refine z_eqi (show _ = nI (a (110 + 2 * k + 1)) by rw [mo.1.2 (k * 2 + 1) (by omega)]; exact congrArg (fun i => nI (a i)) (by omega)) ?_
        refine z_iret dX8_ofFact_43 ?_
        exact hQ
      · refine ⟨h, ?_, FR.rf⟩
        intro N S Q hN hS hQ
        rw [show (if 2 ≤ 1 then nI (a (110 + 2 * k + 2)) else if 2 = 2 then nI (if (a 10).testBit k then 1 else 0) else nI (mComes tf a (snap a) k)) = nI (if (a 10).testBit k then 1 else 0) from rfl] at hQ
        refine z_aload_n dX8_ofFact_0 rfl rfl ?_
        refine y_getR FX8_10 dX8_ofFact_1 rfl h8 hx0 ?_
        refine y_getR FX8_65 dX8_ofFact_4 rfl hs.o hs.f4 ?_
        refine z_iload_n dX8_ofFact_7 rfl rfl ?_
        refine y_callV (as := [_]) CX4_has LX8_140 IX4_has VX4_has ⟨rfl, Nat.le_of_ble_eq_true rfl⟩ dX8_ofFact_8 hs.facts.1 rfl (Nat.le_of_ble_eq_true rfl) (Nat.le_of_ble_eq_true rfl) (by omega) (s_has (k := 18) (w := 2) (ms := 8) (by exact (by exact hs.facts)) mo.1.1 _) (rok_z bI_01) ⟨Nat.le_refl _, Nat.le_refl _, hN, hS⟩ ?_
        refine z_if_eq dX8_ofFact_11 rfl (fun c => absurd c (bI_ne0.mpr hin)) (fun _ => ?_)
        refine z_iload_n dX8_ofFact_14 rfl rfl ?_
        refine z_iconst (v := 0) dX8_ofFact_15 (by decide) ?_
        refine z_iconst (v := 3) dX8_ofFact_16 (by decide) ?_
        refine y_callS (as := [_, _, _]) CX8_within LX8_61 SX8_within dX8_ofFact_17 rfl (Nat.le_of_ble_eq_true rfl) (Nat.le_of_ble_eq_true rfl) (by omega) (s_within _ _ _) (rok_z bI_01) ⟨Nat.le_refl _, Nat.le_refl _, hN, hS⟩ ?_
        refine z_if_ne dX8_ofFact_20 rfl (fun _ => ?_) (fun c => absurd c (bI_ne0.mpr hw4))
        refine z_iload_n dX8_ofFact_26 rfl rfl ?_
        refine z_iconst (v := 1) dX8_ofFact_27 (by decide) ?_
        refine z_icmp_gt dX8_ofFact_28 rfl (fun _ => ?_) (fun c => absurd (by decide) c)
        refine z_iload_n dX8_ofFact_44 rfl rfl ?_
        refine z_iconst (v := 2) dX8_ofFact_45 (by decide) ?_
        refine z_icmp_ne dX8_ofFact_46 rfl (fun c => absurd (rfl) c) (fun _ => ?_)
        refine z_aload_n dX8_ofFact_49 rfl rfl ?_
        refine y_getR FX8_10 dX8_ofFact_50 rfl h8 hx0 ?_
        refine y_getR FX8_79 dX8_ofFact_53 rfl hs.o hs.f0 ?_
        refine z_iload_n dX8_ofFact_56 rfl rfl ?_
        refine y_callV (as := [_]) CX7_isSo LX8_154 IX7_isSo VX7_isSo ⟨rfl, Nat.le_of_ble_eq_true rfl⟩ dX8_ofFact_57 hw.1 rfl (Nat.le_of_ble_eq_true rfl) (Nat.le_of_ble_eq_true rfl) (by omega) (c_isSo (w := 10) (W := snap a) (f := k) (d := 1) hw hv (by omega) (by show a 10 < 256; omega) (Nat.le_refl _)) (rok_z bI_01) ⟨Nat.le_refl _, Nat.le_refl _, hN, hS⟩ ?_
        refine z_if_eq dX8_ofFact_60 rfl (fun c60 => ?_) (fun c60 => ?_)
        · -- to 67
          refine z_iconst (v := 0) dX8_ofFact_67 (by decide) ?_
          refine z_iret dX8_ofFact_68 ?_
          first | (rw [if_neg (show ¬ (a 10).testBit k = true from bI_eq0.mp c60)] at hQ; exact hQ) | (rw [if_pos (show (a 10).testBit k = true from bI_ne0.mp c60)] at hQ; exact hQ)
        · -- on
          refine z_iconst (v := 1) dX8_ofFact_63 (by decide) ?_
          refine z_goto dX8_ofFact_64 rfl ?_
          refine z_iret dX8_ofFact_68 ?_
          first | (rw [if_neg (show ¬ (a 10).testBit k = true from bI_eq0.mp c60)] at hQ; exact hQ) | (rw [if_pos (show (a 10).testBit k = true from bI_ne0.mp c60)] at hQ; exact hQ)
      · obtain ⟨g, r1, r2⟩ := c_comesNow (d := 4) (f := k) cl hW rfl v0 v2 v3 hk1 hf hT (Nat.le_refl _)
        refine ⟨g, ?_, r2⟩
        intro N S Q hN hS hQ
        have hN : pn h ≤ N := by rw [← r2.1.n]; exact hN
        have hS : ps h ≤ S := by rw [← r2.1.s]; exact hS
        refine z_aload_n dX8_ofFact_0 rfl rfl ?_
        refine y_getR FX8_10 dX8_ofFact_1 rfl h8 hx0 ?_
        refine y_getR FX8_65 dX8_ofFact_4 rfl hs.o hs.f4 ?_
        refine z_iload_n dX8_ofFact_7 rfl rfl ?_
        refine y_callV (as := [_]) CX4_has LX8_140 IX4_has VX4_has ⟨rfl, Nat.le_of_ble_eq_true rfl⟩ dX8_ofFact_8 hs.facts.1 rfl (Nat.le_of_ble_eq_true rfl) (Nat.le_of_ble_eq_true rfl) (by omega) (s_has (k := 18) (w := 2) (ms := 8) (by exact (by exact hs.facts)) mo.1.1 _) (rok_z bI_01) ⟨Nat.le_refl _, Nat.le_refl _, hN, hS⟩ ?_
        refine z_if_eq dX8_ofFact_11 rfl (fun c => absurd c (bI_ne0.mpr hin)) (fun _ => ?_)
        refine z_iload_n dX8_ofFact_14 rfl rfl ?_
        refine z_iconst (v := 0) dX8_ofFact_15 (by decide) ?_
        refine z_iconst (v := 3) dX8_ofFact_16 (by decide) ?_
        refine y_callS (as := [_, _, _]) CX8_within LX8_61 SX8_within dX8_ofFact_17 rfl (Nat.le_of_ble_eq_true rfl) (Nat.le_of_ble_eq_true rfl) (by omega) (s_within _ _ _) (rok_z bI_01) ⟨Nat.le_refl _, Nat.le_refl _, hN, hS⟩ ?_
        refine z_if_ne dX8_ofFact_20 rfl (fun _ => ?_) (fun c => absurd c (bI_ne0.mpr hw4))
        refine z_iload_n dX8_ofFact_26 rfl rfl ?_
        refine z_iconst (v := 1) dX8_ofFact_27 (by decide) ?_
        refine z_icmp_gt dX8_ofFact_28 rfl (fun _ => ?_) (fun c => absurd (by decide) c)
        refine z_iload_n dX8_ofFact_44 rfl rfl ?_
        refine z_iconst (v := 2) dX8_ofFact_45 (by decide) ?_
        refine z_icmp_ne dX8_ofFact_46 rfl (fun _ => ?_) (fun c => absurd c (by decide))
        refine z_aload_n dX8_ofFact_69 rfl rfl ?_
        refine z_aload_n dX8_ofFact_70 rfl rfl ?_
        refine y_getR FX8_10 dX8_ofFact_71 rfl h8 hx0 ?_
        refine y_getR FX8_79 dX8_ofFact_74 rfl hs.o hs.f0 ?_
        refine z_iload_n dX8_ofFact_77 rfl rfl ?_
        refine y_callV (as := [_, _]) CX8_comesNow LX8_180 IX8_comesNow VX8_comesNow ⟨rfl, Nat.le_of_ble_eq_true rfl⟩ dX8_ofFact_78 h8 rfl (Nat.le_of_ble_eq_true rfl) (Nat.le_of_ble_eq_true rfl) (by omega) r1 rok_i (hg_ss r2.1 hN hS) ?_
        refine z_iret dX8_ofFact_81 ?_
        exact hQ
    · rw [if_neg (fun q => hw4 q.2)]
      refine ⟨h, ?_, FR.rf⟩
      intro N S Q hN hS hQ
      refine z_aload_n dX8_ofFact_0 rfl rfl ?_
      refine y_getR FX8_10 dX8_ofFact_1 rfl h8 hx0 ?_
      refine y_getR FX8_65 dX8_ofFact_4 rfl hs.o hs.f4 ?_
      refine z_iload_n dX8_ofFact_7 rfl rfl ?_
      refine y_callV (as := [_]) CX4_has LX8_140 IX4_has VX4_has ⟨rfl, Nat.le_of_ble_eq_true rfl⟩ dX8_ofFact_8 hs.facts.1 rfl (Nat.le_of_ble_eq_true rfl) (Nat.le_of_ble_eq_true rfl) (by omega) (s_has (k := 18) (w := 2) (ms := 8) (by exact (by exact hs.facts)) mo.1.1 _) (rok_z bI_01) ⟨Nat.le_refl _, Nat.le_refl _, hN, hS⟩ ?_
      refine z_if_eq dX8_ofFact_11 rfl (fun c => absurd c (bI_ne0.mpr hin)) (fun _ => ?_)
      refine z_iload_n dX8_ofFact_14 rfl rfl ?_
      refine z_iconst (v := 0) dX8_ofFact_15 (by decide) ?_
      refine z_iconst (v := 3) dX8_ofFact_16 (by decide) ?_
      refine y_callS (as := [_, _, _]) CX8_within LX8_61 SX8_within dX8_ofFact_17 rfl (Nat.le_of_ble_eq_true rfl) (Nat.le_of_ble_eq_true rfl) (by omega) (s_within _ _ _) (rok_z bI_01) ⟨Nat.le_refl _, Nat.le_refl _, hN, hS⟩ ?_
      refine z_if_ne dX8_ofFact_20 rfl (fun c => absurd (bI_eq0.mpr hw4) c) (fun _ => ?_)
      refine z_bipush (v := -2) dX8_ofFact_23 (by decide) ?_
      refine z_iret dX8_ofFact_25 ?_
      exact hQ
  · rw [if_neg (fun q => hin q.1)]
    refine ⟨h, ?_, FR.rf⟩
    intro N S Q hN hS hQ
    refine z_aload_n dX8_ofFact_0 rfl rfl ?_
    refine y_getR FX8_10 dX8_ofFact_1 rfl h8 hx0 ?_
    refine y_getR FX8_65 dX8_ofFact_4 rfl hs.o hs.f4 ?_
    refine z_iload_n dX8_ofFact_7 rfl rfl ?_
    refine y_callV (as := [_]) CX4_has LX8_140 IX4_has VX4_has ⟨rfl, Nat.le_of_ble_eq_true rfl⟩ dX8_ofFact_8 hs.facts.1 rfl (Nat.le_of_ble_eq_true rfl) (Nat.le_of_ble_eq_true rfl) (by omega) (s_has (k := 18) (w := 2) (ms := 8) (by exact (by exact hs.facts)) mo.1.1 _) (rok_z bI_01) ⟨Nat.le_refl _, Nat.le_refl _, hN, hS⟩ ?_
    refine z_if_eq dX8_ofFact_11 rfl (fun _ => ?_) (fun c => absurd (bI_eq0.mpr hin) c)
    refine z_bipush (v := -2) dX8_ofFact_23 (by decide) ?_
    refine z_iret dX8_ofFact_25 ?_
    exact hQ

theorem C_word {h : Hp} {d : Nat} {a : Fl} {tf : Nat → Int32} (cl : CLW h a tf 10 (snap a)) (hi : IC a) (hp : IP a) (hq : IQ a) (hf : IFc a) (hW : IW (a 0) (snap a)) (hT : a 3 ≠ 0 → TXV tf (a 3 - 1)) (k0 w : Int32) (hd : 5 ≤ d) : ∃ h1, Sp d mX8_word [.ref 8, .int k0, .int w] h (some (.int (mWord tf a k0 w))) h1 ∧ FR 482 483 h h1 := by
  obtain ⟨h8, hx0, hx4, hk, hs, hz, mo, hw, hv, hwb⟩ := id cl
  have v0 := hi.1
  have v1 := hi.2.1
  have v2 := hi.2.2.1
  have v3 := hi.2.2.2.1
  have v10 := hi.2.2.2.2.2.2.2.2.2.2.1
  have v11 := hi.2.2.2.2.2.2.2.2.2.2.2.1
  unfold mWord
  by_cases hin : vin k0 (snap a 4)
  · by_cases hw4 : inr w 0 7
    · rw [if_pos ⟨hin, hw4⟩]
      have b12 : snap a 4 ≤ 12 := v11
      obtain ⟨k, hk1, rfl⟩ := vin_of (by omega) hin
      obtain ⟨j, hj, rfl⟩ := inr_of (n := 7) (by omega) hw4
      rw [nn_nI (by omega), nn_nI (by omega)]
      rcases (show j = 0 ∨ j = 1 ∨ j = 2 ∨ j = 3 ∨ j = 4 ∨ j = 5 ∨ j = 6 ∨ j = 7 by omega) with rfl | rfl | rfl | rfl | rfl | rfl | rfl | rfl
      · refine ⟨h, ?_, FR.rf⟩
        intro N S Q hN hS hQ
        refine z_aload_n dX8_word_0 rfl rfl ?_
        refine y_getR FX8_10 dX8_word_1 rfl h8 hx0 ?_
        refine y_getR FX8_79 dX8_word_4 rfl hs.o hs.f0 ?_
        refine z_astore_n dX8_word_7 rfl (Nat.le_of_ble_eq_true rfl) ?_
        refine z_aload_n dX8_word_8 rfl rfl ?_
        refine y_getR FX8_127 dX8_word_9 rfl hw.1 hw.2.2.2.1 ?_
        refine z_iload_n dX8_word_12 rfl rfl ?_
        refine y_callV (as := [_]) CX4_has LX8_140 IX4_has VX4_has ⟨rfl, Nat.le_of_ble_eq_true rfl⟩ dX8_word_13 hw.2.2.2.2.1.1 rfl (Nat.le_of_ble_eq_true rfl) (Nat.le_of_ble_eq_true rfl) (by omega) (s_has (k := 13) (w := 6) (ms := 12) (by exact hw.2.2.2.2.1) hv.2.2.2.2.2.1 _) (rok_z bI_01) ⟨Nat.le_refl _, Nat.le_refl _, hN, hS⟩ ?_
        refine z_if_eq dX8_word_16 rfl (fun c => absurd c (bI_ne0.mpr hin)) (fun _ => ?_)
        refine z_iload_n dX8_word_19 rfl rfl ?_
        refine z_iconst (v := 0) dX8_word_20 (by decide) ?_
        refine z_bipush (v := 7) dX8_word_21 (by decide) ?_
        refine y_callS (as := [_, _, _]) CX8_within LX8_61 SX8_within dX8_word_23 rfl (Nat.le_of_ble_eq_true rfl) (Nat.le_of_ble_eq_true rfl) (by omega) (s_within _ _ _) (rok_z bI_01) ⟨Nat.le_refl _, Nat.le_refl _, hN, hS⟩ ?_
        refine z_if_ne dX8_word_26 rfl (fun _ => ?_) (fun c => absurd c (bI_ne0.mpr hw4))
        refine z_iload_n dX8_word_32 rfl rfl ?_
        refine z_iconst (v := 5) dX8_word_33 (by decide) ?_
        refine z_icmp_gt dX8_word_34 rfl (fun c => absurd c (by decide)) (fun _ => ?_)
        refine z_aload_n dX8_word_37 rfl rfl ?_
        refine y_getR FX8_127 dX8_word_38 rfl hw.1 hw.2.2.2.1 ?_
        refine z_iload_n dX8_word_41 rfl rfl ?_
        refine z_iload_n dX8_word_42 rfl rfl ?_
        refine y_callV (as := [_, _]) CX4_get LX8_143 IX4_get VX4_get ⟨rfl, Nat.le_of_ble_eq_true rfl⟩ dX8_word_43 hw.2.2.2.2.1.1 rfl (Nat.le_of_ble_eq_true rfl) (Nat.le_of_ble_eq_true rfl) (by omega) (s_get (k := 13) (w := 6) (ms := 12) (i := k) (j := 0) (by exact hw.2.2.2.2.1) hv.2.2.2.2.2.1 hk1 (by omega)) rok_i ⟨Nat.le_refl _, Nat.le_refl _, hN, hS⟩ ?_
        refine z_eqi (show _ = nI (a (38 + 6 * k + 0)) from (hv.k hk1 (by omega)).trans (congrArg nI (snap_pc (by omega) (by omega)))) ?_
        refine z_iret dX8_word_46 ?_
        exact hQ
      · refine ⟨h, ?_, FR.rf⟩
        intro N S Q hN hS hQ
        refine z_aload_n dX8_word_0 rfl rfl ?_
        refine y_getR FX8_10 dX8_word_1 rfl h8 hx0 ?_
        refine y_getR FX8_79 dX8_word_4 rfl hs.o hs.f0 ?_
        refine z_astore_n dX8_word_7 rfl (Nat.le_of_ble_eq_true rfl) ?_
        refine z_aload_n dX8_word_8 rfl rfl ?_
        refine y_getR FX8_127 dX8_word_9 rfl hw.1 hw.2.2.2.1 ?_
        refine z_iload_n dX8_word_12 rfl rfl ?_
        refine y_callV (as := [_]) CX4_has LX8_140 IX4_has VX4_has ⟨rfl, Nat.le_of_ble_eq_true rfl⟩ dX8_word_13 hw.2.2.2.2.1.1 rfl (Nat.le_of_ble_eq_true rfl) (Nat.le_of_ble_eq_true rfl) (by omega) (s_has (k := 13) (w := 6) (ms := 12) (by exact hw.2.2.2.2.1) hv.2.2.2.2.2.1 _) (rok_z bI_01) ⟨Nat.le_refl _, Nat.le_refl _, hN, hS⟩ ?_
        refine z_if_eq dX8_word_16 rfl (fun c => absurd c (bI_ne0.mpr hin)) (fun _ => ?_)
        refine z_iload_n dX8_word_19 rfl rfl ?_
        refine z_iconst (v := 0) dX8_word_20 (by decide) ?_
        refine z_bipush (v := 7) dX8_word_21 (by decide) ?_
        refine y_callS (as := [_, _, _]) CX8_within LX8_61 SX8_within dX8_word_23 rfl (Nat.le_of_ble_eq_true rfl) (Nat.le_of_ble_eq_true rfl) (by omega) (s_within _ _ _) (rok_z bI_01) ⟨Nat.le_refl _, Nat.le_refl _, hN, hS⟩ ?_
        refine z_if_ne dX8_word_26 rfl (fun _ => ?_) (fun c => absurd c (bI_ne0.mpr hw4))
        refine z_iload_n dX8_word_32 rfl rfl ?_
        refine z_iconst (v := 5) dX8_word_33 (by decide) ?_
        refine z_icmp_gt dX8_word_34 rfl (fun c => absurd c (by decide)) (fun _ => ?_)
        refine z_aload_n dX8_word_37 rfl rfl ?_
        refine y_getR FX8_127 dX8_word_38 rfl hw.1 hw.2.2.2.1 ?_
        refine z_iload_n dX8_word_41 rfl rfl ?_
        refine z_iload_n dX8_word_42 rfl rfl ?_
        refine y_callV (as := [_, _]) CX4_get LX8_143 IX4_get VX4_get ⟨rfl, Nat.le_of_ble_eq_true rfl⟩ dX8_word_43 hw.2.2.2.2.1.1 rfl (Nat.le_of_ble_eq_true rfl) (Nat.le_of_ble_eq_true rfl) (by omega) (s_get (k := 13) (w := 6) (ms := 12) (i := k) (j := 1) (by exact hw.2.2.2.2.1) hv.2.2.2.2.2.1 hk1 (by omega)) rok_i ⟨Nat.le_refl _, Nat.le_refl _, hN, hS⟩ ?_
        refine z_eqi (show _ = nI (a (38 + 6 * k + 1)) from (hv.k hk1 (by omega)).trans (congrArg nI (snap_pc (by omega) (by omega)))) ?_
        refine z_iret dX8_word_46 ?_
        exact hQ
      · refine ⟨h, ?_, FR.rf⟩
        intro N S Q hN hS hQ
        refine z_aload_n dX8_word_0 rfl rfl ?_
        refine y_getR FX8_10 dX8_word_1 rfl h8 hx0 ?_
        refine y_getR FX8_79 dX8_word_4 rfl hs.o hs.f0 ?_
        refine z_astore_n dX8_word_7 rfl (Nat.le_of_ble_eq_true rfl) ?_
        refine z_aload_n dX8_word_8 rfl rfl ?_
        refine y_getR FX8_127 dX8_word_9 rfl hw.1 hw.2.2.2.1 ?_
        refine z_iload_n dX8_word_12 rfl rfl ?_
        refine y_callV (as := [_]) CX4_has LX8_140 IX4_has VX4_has ⟨rfl, Nat.le_of_ble_eq_true rfl⟩ dX8_word_13 hw.2.2.2.2.1.1 rfl (Nat.le_of_ble_eq_true rfl) (Nat.le_of_ble_eq_true rfl) (by omega) (s_has (k := 13) (w := 6) (ms := 12) (by exact hw.2.2.2.2.1) hv.2.2.2.2.2.1 _) (rok_z bI_01) ⟨Nat.le_refl _, Nat.le_refl _, hN, hS⟩ ?_
        refine z_if_eq dX8_word_16 rfl (fun c => absurd c (bI_ne0.mpr hin)) (fun _ => ?_)
        refine z_iload_n dX8_word_19 rfl rfl ?_
        refine z_iconst (v := 0) dX8_word_20 (by decide) ?_
        refine z_bipush (v := 7) dX8_word_21 (by decide) ?_
        refine y_callS (as := [_, _, _]) CX8_within LX8_61 SX8_within dX8_word_23 rfl (Nat.le_of_ble_eq_true rfl) (Nat.le_of_ble_eq_true rfl) (by omega) (s_within _ _ _) (rok_z bI_01) ⟨Nat.le_refl _, Nat.le_refl _, hN, hS⟩ ?_
        refine z_if_ne dX8_word_26 rfl (fun _ => ?_) (fun c => absurd c (bI_ne0.mpr hw4))
        refine z_iload_n dX8_word_32 rfl rfl ?_
        refine z_iconst (v := 5) dX8_word_33 (by decide) ?_
        refine z_icmp_gt dX8_word_34 rfl (fun c => absurd c (by decide)) (fun _ => ?_)
        refine z_aload_n dX8_word_37 rfl rfl ?_
        refine y_getR FX8_127 dX8_word_38 rfl hw.1 hw.2.2.2.1 ?_
        refine z_iload_n dX8_word_41 rfl rfl ?_
        refine z_iload_n dX8_word_42 rfl rfl ?_
        refine y_callV (as := [_, _]) CX4_get LX8_143 IX4_get VX4_get ⟨rfl, Nat.le_of_ble_eq_true rfl⟩ dX8_word_43 hw.2.2.2.2.1.1 rfl (Nat.le_of_ble_eq_true rfl) (Nat.le_of_ble_eq_true rfl) (by omega) (s_get (k := 13) (w := 6) (ms := 12) (i := k) (j := 2) (by exact hw.2.2.2.2.1) hv.2.2.2.2.2.1 hk1 (by omega)) rok_i ⟨Nat.le_refl _, Nat.le_refl _, hN, hS⟩ ?_
        refine z_eqi (show _ = nI (a (38 + 6 * k + 2)) from (hv.k hk1 (by omega)).trans (congrArg nI (snap_pc (by omega) (by omega)))) ?_
        refine z_iret dX8_word_46 ?_
        exact hQ
      · refine ⟨h, ?_, FR.rf⟩
        intro N S Q hN hS hQ
        refine z_aload_n dX8_word_0 rfl rfl ?_
        refine y_getR FX8_10 dX8_word_1 rfl h8 hx0 ?_
        refine y_getR FX8_79 dX8_word_4 rfl hs.o hs.f0 ?_
        refine z_astore_n dX8_word_7 rfl (Nat.le_of_ble_eq_true rfl) ?_
        refine z_aload_n dX8_word_8 rfl rfl ?_
        refine y_getR FX8_127 dX8_word_9 rfl hw.1 hw.2.2.2.1 ?_
        refine z_iload_n dX8_word_12 rfl rfl ?_
        refine y_callV (as := [_]) CX4_has LX8_140 IX4_has VX4_has ⟨rfl, Nat.le_of_ble_eq_true rfl⟩ dX8_word_13 hw.2.2.2.2.1.1 rfl (Nat.le_of_ble_eq_true rfl) (Nat.le_of_ble_eq_true rfl) (by omega) (s_has (k := 13) (w := 6) (ms := 12) (by exact hw.2.2.2.2.1) hv.2.2.2.2.2.1 _) (rok_z bI_01) ⟨Nat.le_refl _, Nat.le_refl _, hN, hS⟩ ?_
        refine z_if_eq dX8_word_16 rfl (fun c => absurd c (bI_ne0.mpr hin)) (fun _ => ?_)
        refine z_iload_n dX8_word_19 rfl rfl ?_
        refine z_iconst (v := 0) dX8_word_20 (by decide) ?_
        refine z_bipush (v := 7) dX8_word_21 (by decide) ?_
        refine y_callS (as := [_, _, _]) CX8_within LX8_61 SX8_within dX8_word_23 rfl (Nat.le_of_ble_eq_true rfl) (Nat.le_of_ble_eq_true rfl) (by omega) (s_within _ _ _) (rok_z bI_01) ⟨Nat.le_refl _, Nat.le_refl _, hN, hS⟩ ?_
        refine z_if_ne dX8_word_26 rfl (fun _ => ?_) (fun c => absurd c (bI_ne0.mpr hw4))
        refine z_iload_n dX8_word_32 rfl rfl ?_
        refine z_iconst (v := 5) dX8_word_33 (by decide) ?_
        refine z_icmp_gt dX8_word_34 rfl (fun c => absurd c (by decide)) (fun _ => ?_)
        refine z_aload_n dX8_word_37 rfl rfl ?_
        refine y_getR FX8_127 dX8_word_38 rfl hw.1 hw.2.2.2.1 ?_
        refine z_iload_n dX8_word_41 rfl rfl ?_
        refine z_iload_n dX8_word_42 rfl rfl ?_
        refine y_callV (as := [_, _]) CX4_get LX8_143 IX4_get VX4_get ⟨rfl, Nat.le_of_ble_eq_true rfl⟩ dX8_word_43 hw.2.2.2.2.1.1 rfl (Nat.le_of_ble_eq_true rfl) (Nat.le_of_ble_eq_true rfl) (by omega) (s_get (k := 13) (w := 6) (ms := 12) (i := k) (j := 3) (by exact hw.2.2.2.2.1) hv.2.2.2.2.2.1 hk1 (by omega)) rok_i ⟨Nat.le_refl _, Nat.le_refl _, hN, hS⟩ ?_
        refine z_eqi (show _ = nI (a (38 + 6 * k + 3)) from (hv.k hk1 (by omega)).trans (congrArg nI (snap_pc (by omega) (by omega)))) ?_
        refine z_iret dX8_word_46 ?_
        exact hQ
      · refine ⟨h, ?_, FR.rf⟩
        intro N S Q hN hS hQ
        refine z_aload_n dX8_word_0 rfl rfl ?_
        refine y_getR FX8_10 dX8_word_1 rfl h8 hx0 ?_
        refine y_getR FX8_79 dX8_word_4 rfl hs.o hs.f0 ?_
        refine z_astore_n dX8_word_7 rfl (Nat.le_of_ble_eq_true rfl) ?_
        refine z_aload_n dX8_word_8 rfl rfl ?_
        refine y_getR FX8_127 dX8_word_9 rfl hw.1 hw.2.2.2.1 ?_
        refine z_iload_n dX8_word_12 rfl rfl ?_
        refine y_callV (as := [_]) CX4_has LX8_140 IX4_has VX4_has ⟨rfl, Nat.le_of_ble_eq_true rfl⟩ dX8_word_13 hw.2.2.2.2.1.1 rfl (Nat.le_of_ble_eq_true rfl) (Nat.le_of_ble_eq_true rfl) (by omega) (s_has (k := 13) (w := 6) (ms := 12) (by exact hw.2.2.2.2.1) hv.2.2.2.2.2.1 _) (rok_z bI_01) ⟨Nat.le_refl _, Nat.le_refl _, hN, hS⟩ ?_
        refine z_if_eq dX8_word_16 rfl (fun c => absurd c (bI_ne0.mpr hin)) (fun _ => ?_)
        refine z_iload_n dX8_word_19 rfl rfl ?_
        refine z_iconst (v := 0) dX8_word_20 (by decide) ?_
        refine z_bipush (v := 7) dX8_word_21 (by decide) ?_
        refine y_callS (as := [_, _, _]) CX8_within LX8_61 SX8_within dX8_word_23 rfl (Nat.le_of_ble_eq_true rfl) (Nat.le_of_ble_eq_true rfl) (by omega) (s_within _ _ _) (rok_z bI_01) ⟨Nat.le_refl _, Nat.le_refl _, hN, hS⟩ ?_
        refine z_if_ne dX8_word_26 rfl (fun _ => ?_) (fun c => absurd c (bI_ne0.mpr hw4))
        refine z_iload_n dX8_word_32 rfl rfl ?_
        refine z_iconst (v := 5) dX8_word_33 (by decide) ?_
        refine z_icmp_gt dX8_word_34 rfl (fun c => absurd c (by decide)) (fun _ => ?_)
        refine z_aload_n dX8_word_37 rfl rfl ?_
        refine y_getR FX8_127 dX8_word_38 rfl hw.1 hw.2.2.2.1 ?_
        refine z_iload_n dX8_word_41 rfl rfl ?_
        refine z_iload_n dX8_word_42 rfl rfl ?_
        refine y_callV (as := [_, _]) CX4_get LX8_143 IX4_get VX4_get ⟨rfl, Nat.le_of_ble_eq_true rfl⟩ dX8_word_43 hw.2.2.2.2.1.1 rfl (Nat.le_of_ble_eq_true rfl) (Nat.le_of_ble_eq_true rfl) (by omega) (s_get (k := 13) (w := 6) (ms := 12) (i := k) (j := 4) (by exact hw.2.2.2.2.1) hv.2.2.2.2.2.1 hk1 (by omega)) rok_i ⟨Nat.le_refl _, Nat.le_refl _, hN, hS⟩ ?_
        refine z_eqi (show _ = nI (a (38 + 6 * k + 4)) from (hv.k hk1 (by omega)).trans (congrArg nI (snap_pc (by omega) (by omega)))) ?_
        refine z_iret dX8_word_46 ?_
        exact hQ
      · refine ⟨h, ?_, FR.rf⟩
        intro N S Q hN hS hQ
        refine z_aload_n dX8_word_0 rfl rfl ?_
        refine y_getR FX8_10 dX8_word_1 rfl h8 hx0 ?_
        refine y_getR FX8_79 dX8_word_4 rfl hs.o hs.f0 ?_
        refine z_astore_n dX8_word_7 rfl (Nat.le_of_ble_eq_true rfl) ?_
        refine z_aload_n dX8_word_8 rfl rfl ?_
        refine y_getR FX8_127 dX8_word_9 rfl hw.1 hw.2.2.2.1 ?_
        refine z_iload_n dX8_word_12 rfl rfl ?_
        refine y_callV (as := [_]) CX4_has LX8_140 IX4_has VX4_has ⟨rfl, Nat.le_of_ble_eq_true rfl⟩ dX8_word_13 hw.2.2.2.2.1.1 rfl (Nat.le_of_ble_eq_true rfl) (Nat.le_of_ble_eq_true rfl) (by omega) (s_has (k := 13) (w := 6) (ms := 12) (by exact hw.2.2.2.2.1) hv.2.2.2.2.2.1 _) (rok_z bI_01) ⟨Nat.le_refl _, Nat.le_refl _, hN, hS⟩ ?_
        refine z_if_eq dX8_word_16 rfl (fun c => absurd c (bI_ne0.mpr hin)) (fun _ => ?_)
        refine z_iload_n dX8_word_19 rfl rfl ?_
        refine z_iconst (v := 0) dX8_word_20 (by decide) ?_
        refine z_bipush (v := 7) dX8_word_21 (by decide) ?_
        refine y_callS (as := [_, _, _]) CX8_within LX8_61 SX8_within dX8_word_23 rfl (Nat.le_of_ble_eq_true rfl) (Nat.le_of_ble_eq_true rfl) (by omega) (s_within _ _ _) (rok_z bI_01) ⟨Nat.le_refl _, Nat.le_refl _, hN, hS⟩ ?_
        refine z_if_ne dX8_word_26 rfl (fun _ => ?_) (fun c => absurd c (bI_ne0.mpr hw4))
        refine z_iload_n dX8_word_32 rfl rfl ?_
        refine z_iconst (v := 5) dX8_word_33 (by decide) ?_
        refine z_icmp_gt dX8_word_34 rfl (fun c => absurd c (by decide)) (fun _ => ?_)
        refine z_aload_n dX8_word_37 rfl rfl ?_
        refine y_getR FX8_127 dX8_word_38 rfl hw.1 hw.2.2.2.1 ?_
        refine z_iload_n dX8_word_41 rfl rfl ?_
        refine z_iload_n dX8_word_42 rfl rfl ?_
        refine y_callV (as := [_, _]) CX4_get LX8_143 IX4_get VX4_get ⟨rfl, Nat.le_of_ble_eq_true rfl⟩ dX8_word_43 hw.2.2.2.2.1.1 rfl (Nat.le_of_ble_eq_true rfl) (Nat.le_of_ble_eq_true rfl) (by omega) (s_get (k := 13) (w := 6) (ms := 12) (i := k) (j := 5) (by exact hw.2.2.2.2.1) hv.2.2.2.2.2.1 hk1 (by omega)) rok_i ⟨Nat.le_refl _, Nat.le_refl _, hN, hS⟩ ?_
        refine z_eqi (show _ = nI (a (38 + 6 * k + 5)) from (hv.k hk1 (by omega)).trans (congrArg nI (snap_pc (by omega) (by omega)))) ?_
        refine z_iret dX8_word_46 ?_
        exact hQ
      · obtain ⟨v, rv1, rv2⟩ := c_rulingV hs mo v2 v3 hT
        obtain ⟨g, r1, r2⟩ := c_duesBy (d := 4) (k := k) (t1 := a 3) cl hW rfl v0 v2 v3 hk1 rv1 (Nat.le_refl _)
        refine ⟨g, ?_, r2⟩
        intro N S Q hN hS hQ
        have hN : pn h ≤ N := by rw [← r2.1.n]; exact hN
        have hS : ps h ≤ S := by rw [← r2.1.s]; exact hS
        rcases id rv1 with ⟨z0, rfl⟩ | ⟨z0, zT, x, rfl, zx⟩
        · skip
          refine z_aload_n dX8_word_0 rfl rfl ?_
          refine y_getR FX8_10 dX8_word_1 rfl h8 hx0 ?_
          refine y_getR FX8_79 dX8_word_4 rfl hs.o hs.f0 ?_
          refine z_astore_n dX8_word_7 rfl (Nat.le_of_ble_eq_true rfl) ?_
          refine z_aload_n dX8_word_8 rfl rfl ?_
          refine y_getR FX8_127 dX8_word_9 rfl hw.1 hw.2.2.2.1 ?_
          refine z_iload_n dX8_word_12 rfl rfl ?_
          refine y_callV (as := [_]) CX4_has LX8_140 IX4_has VX4_has ⟨rfl, Nat.le_of_ble_eq_true rfl⟩ dX8_word_13 hw.2.2.2.2.1.1 rfl (Nat.le_of_ble_eq_true rfl) (Nat.le_of_ble_eq_true rfl) (by omega) (s_has (k := 13) (w := 6) (ms := 12) (by exact hw.2.2.2.2.1) hv.2.2.2.2.2.1 _) (rok_z bI_01) ⟨Nat.le_refl _, Nat.le_refl _, hN, hS⟩ ?_
          refine z_if_eq dX8_word_16 rfl (fun c => absurd c (bI_ne0.mpr hin)) (fun _ => ?_)
          refine z_iload_n dX8_word_19 rfl rfl ?_
          refine z_iconst (v := 0) dX8_word_20 (by decide) ?_
          refine z_bipush (v := 7) dX8_word_21 (by decide) ?_
          refine y_callS (as := [_, _, _]) CX8_within LX8_61 SX8_within dX8_word_23 rfl (Nat.le_of_ble_eq_true rfl) (Nat.le_of_ble_eq_true rfl) (by omega) (s_within _ _ _) (rok_z bI_01) ⟨Nat.le_refl _, Nat.le_refl _, hN, hS⟩ ?_
          refine z_if_ne dX8_word_26 rfl (fun _ => ?_) (fun c => absurd c (bI_ne0.mpr hw4))
          refine z_iload_n dX8_word_32 rfl rfl ?_
          refine z_iconst (v := 5) dX8_word_33 (by decide) ?_
          refine z_icmp_gt dX8_word_34 rfl (fun _ => ?_) (fun c => absurd (by decide) c)
          refine z_iload_n dX8_word_47 rfl rfl ?_
          refine z_bipush (v := 6) dX8_word_48 (by decide) ?_
          refine z_icmp_ne dX8_word_50 rfl (fun c => absurd (rfl) c) (fun _ => ?_)
          refine z_aload_n dX8_word_53 rfl rfl ?_
          refine z_aload_n dX8_word_54 rfl rfl ?_
          refine y_getR FX8_10 dX8_word_55 rfl h8 hx0 ?_
          refine y_callV (as := []) CX1_ruling LX8_197 IX1_ruling VX1_ruling ⟨rfl, Nat.le_of_ble_eq_true rfl⟩ dX8_word_58 hs.o rfl (Nat.le_of_ble_eq_true rfl) (Nat.le_of_ble_eq_true rfl) (by omega) (rv2 1 (Nat.le_refl _)) (rv1.rok rfl) ⟨Nat.le_refl _, Nat.le_refl _, hN, hS⟩ ?_
          refine z_aload_n dX8_word_61 rfl rfl ?_
          refine z_iload_n dX8_word_62 rfl rfl ?_
          refine y_callV (as := [_, _, _]) CX8_duesBy LX8_201 IX8_duesBy VX8_duesBy ⟨rfl, Nat.le_of_ble_eq_true rfl⟩ dX8_word_63 h8 rfl (Nat.le_of_ble_eq_true rfl) (Nat.le_of_ble_eq_true rfl) (by omega) r1 rok_i (hg_ss r2.1 hN hS) ?_
          refine z_iret dX8_word_66 ?_
          exact hQ
        · skip
          refine z_aload_n dX8_word_0 rfl rfl ?_
          refine y_getR FX8_10 dX8_word_1 rfl h8 hx0 ?_
          refine y_getR FX8_79 dX8_word_4 rfl hs.o hs.f0 ?_
          refine z_astore_n dX8_word_7 rfl (Nat.le_of_ble_eq_true rfl) ?_
          refine z_aload_n dX8_word_8 rfl rfl ?_
          refine y_getR FX8_127 dX8_word_9 rfl hw.1 hw.2.2.2.1 ?_
          refine z_iload_n dX8_word_12 rfl rfl ?_
          refine y_callV (as := [_]) CX4_has LX8_140 IX4_has VX4_has ⟨rfl, Nat.le_of_ble_eq_true rfl⟩ dX8_word_13 hw.2.2.2.2.1.1 rfl (Nat.le_of_ble_eq_true rfl) (Nat.le_of_ble_eq_true rfl) (by omega) (s_has (k := 13) (w := 6) (ms := 12) (by exact hw.2.2.2.2.1) hv.2.2.2.2.2.1 _) (rok_z bI_01) ⟨Nat.le_refl _, Nat.le_refl _, hN, hS⟩ ?_
          refine z_if_eq dX8_word_16 rfl (fun c => absurd c (bI_ne0.mpr hin)) (fun _ => ?_)
          refine z_iload_n dX8_word_19 rfl rfl ?_
          refine z_iconst (v := 0) dX8_word_20 (by decide) ?_
          refine z_bipush (v := 7) dX8_word_21 (by decide) ?_
          refine y_callS (as := [_, _, _]) CX8_within LX8_61 SX8_within dX8_word_23 rfl (Nat.le_of_ble_eq_true rfl) (Nat.le_of_ble_eq_true rfl) (by omega) (s_within _ _ _) (rok_z bI_01) ⟨Nat.le_refl _, Nat.le_refl _, hN, hS⟩ ?_
          refine z_if_ne dX8_word_26 rfl (fun _ => ?_) (fun c => absurd c (bI_ne0.mpr hw4))
          refine z_iload_n dX8_word_32 rfl rfl ?_
          refine z_iconst (v := 5) dX8_word_33 (by decide) ?_
          refine z_icmp_gt dX8_word_34 rfl (fun _ => ?_) (fun c => absurd (by decide) c)
          refine z_iload_n dX8_word_47 rfl rfl ?_
          refine z_bipush (v := 6) dX8_word_48 (by decide) ?_
          refine z_icmp_ne dX8_word_50 rfl (fun c => absurd (rfl) c) (fun _ => ?_)
          refine z_aload_n dX8_word_53 rfl rfl ?_
          refine z_aload_n dX8_word_54 rfl rfl ?_
          refine y_getR FX8_10 dX8_word_55 rfl h8 hx0 ?_
          refine y_callV (as := []) CX1_ruling LX8_197 IX1_ruling VX1_ruling ⟨rfl, Nat.le_of_ble_eq_true rfl⟩ dX8_word_58 hs.o rfl (Nat.le_of_ble_eq_true rfl) (Nat.le_of_ble_eq_true rfl) (by omega) (rv2 1 (Nat.le_refl _)) (rv1.rok rfl) ⟨Nat.le_refl _, Nat.le_refl _, hN, hS⟩ ?_
          refine z_aload_n dX8_word_61 rfl rfl ?_
          refine z_iload_n dX8_word_62 rfl rfl ?_
          refine y_callV (as := [_, _, _]) CX8_duesBy LX8_201 IX8_duesBy VX8_duesBy ⟨rfl, Nat.le_of_ble_eq_true rfl⟩ dX8_word_63 h8 rfl (Nat.le_of_ble_eq_true rfl) (Nat.le_of_ble_eq_true rfl) (by omega) r1 rok_i (hg_ss r2.1 hN hS) ?_
          refine z_iret dX8_word_66 ?_
          exact hQ
      · refine ⟨h, ?_, FR.rf⟩
        intro N S Q hN hS hQ
        rw [show (if 7 ≤ 5 then nI (a (38 + 6 * k + 7)) else if 7 = 6 then nI (mDues tf (a 3) (snap a) k) else bI (metB (a (38 + 6 * k + 1)) (a (38 + 6 * k + 2)) (a 10) = true)) = bI (metB (a (38 + 6 * k + 1)) (a (38 + 6 * k + 2)) (a 10) = true) from rfl, ← snap_pc (a := a) (k := k) (c := 1) (by omega) (by omega), ← snap_pc (a := a) (k := k) (c := 2) (by omega) (by omega)] at hQ
        refine z_aload_n dX8_word_0 rfl rfl ?_
        refine y_getR FX8_10 dX8_word_1 rfl h8 hx0 ?_
        refine y_getR FX8_79 dX8_word_4 rfl hs.o hs.f0 ?_
        refine z_astore_n dX8_word_7 rfl (Nat.le_of_ble_eq_true rfl) ?_
        refine z_aload_n dX8_word_8 rfl rfl ?_
        refine y_getR FX8_127 dX8_word_9 rfl hw.1 hw.2.2.2.1 ?_
        refine z_iload_n dX8_word_12 rfl rfl ?_
        refine y_callV (as := [_]) CX4_has LX8_140 IX4_has VX4_has ⟨rfl, Nat.le_of_ble_eq_true rfl⟩ dX8_word_13 hw.2.2.2.2.1.1 rfl (Nat.le_of_ble_eq_true rfl) (Nat.le_of_ble_eq_true rfl) (by omega) (s_has (k := 13) (w := 6) (ms := 12) (by exact hw.2.2.2.2.1) hv.2.2.2.2.2.1 _) (rok_z bI_01) ⟨Nat.le_refl _, Nat.le_refl _, hN, hS⟩ ?_
        refine z_if_eq dX8_word_16 rfl (fun c => absurd c (bI_ne0.mpr hin)) (fun _ => ?_)
        refine z_iload_n dX8_word_19 rfl rfl ?_
        refine z_iconst (v := 0) dX8_word_20 (by decide) ?_
        refine z_bipush (v := 7) dX8_word_21 (by decide) ?_
        refine y_callS (as := [_, _, _]) CX8_within LX8_61 SX8_within dX8_word_23 rfl (Nat.le_of_ble_eq_true rfl) (Nat.le_of_ble_eq_true rfl) (by omega) (s_within _ _ _) (rok_z bI_01) ⟨Nat.le_refl _, Nat.le_refl _, hN, hS⟩ ?_
        refine z_if_ne dX8_word_26 rfl (fun _ => ?_) (fun c => absurd c (bI_ne0.mpr hw4))
        refine z_iload_n dX8_word_32 rfl rfl ?_
        refine z_iconst (v := 5) dX8_word_33 (by decide) ?_
        refine z_icmp_gt dX8_word_34 rfl (fun _ => ?_) (fun c => absurd (by decide) c)
        refine z_iload_n dX8_word_47 rfl rfl ?_
        refine z_bipush (v := 6) dX8_word_48 (by decide) ?_
        refine z_icmp_ne dX8_word_50 rfl (fun _ => ?_) (fun c => absurd c (by decide))
        refine z_aload_n dX8_word_67 rfl rfl ?_
        refine z_iload_n dX8_word_68 rfl rfl ?_
        refine y_callV (as := [_]) CX7_holds LX8_188 IX7_holds VX7_holds ⟨rfl, Nat.le_of_ble_eq_true rfl⟩ dX8_word_69 hw.1 rfl (Nat.le_of_ble_eq_true rfl) (Nat.le_of_ble_eq_true rfl) (by omega) (c_holds (d := 2) (w := 10) (W := snap a) hw hv hW (by omega) hk1 (Nat.le_refl _)) (rok_z bI_01) ⟨Nat.le_refl _, Nat.le_refl _, hN, hS⟩ ?_
        refine z_if_eq dX8_word_72 rfl (fun c72 => ?_) (fun c72 => ?_)
        · -- to 79
          refine z_iconst (v := 0) dX8_word_79 (by decide) ?_
          refine z_iret dX8_word_80 ?_
          first | (rw [bI_f (show ¬ metB (snap a (pcx k 1)) (snap a (pcx k 2)) (a 10) = true from bI_eq0.mp c72)] at hQ; exact hQ) | (rw [bI_t (show metB (snap a (pcx k 1)) (snap a (pcx k 2)) (a 10) = true from bI_ne0.mp c72)] at hQ; exact hQ)
        · -- on
          refine z_iconst (v := 1) dX8_word_75 (by decide) ?_
          refine z_goto dX8_word_76 rfl ?_
          refine z_iret dX8_word_80 ?_
          first | (rw [bI_f (show ¬ metB (snap a (pcx k 1)) (snap a (pcx k 2)) (a 10) = true from bI_eq0.mp c72)] at hQ; exact hQ) | (rw [bI_t (show metB (snap a (pcx k 1)) (snap a (pcx k 2)) (a 10) = true from bI_ne0.mp c72)] at hQ; exact hQ)
    · rw [if_neg (fun q => hw4 q.2)]
      refine ⟨h, ?_, FR.rf⟩
      intro N S Q hN hS hQ
      refine z_aload_n dX8_word_0 rfl rfl ?_
      refine y_getR FX8_10 dX8_word_1 rfl h8 hx0 ?_
      refine y_getR FX8_79 dX8_word_4 rfl hs.o hs.f0 ?_
      refine z_astore_n dX8_word_7 rfl (Nat.le_of_ble_eq_true rfl) ?_
      refine z_aload_n dX8_word_8 rfl rfl ?_
      refine y_getR FX8_127 dX8_word_9 rfl hw.1 hw.2.2.2.1 ?_
      refine z_iload_n dX8_word_12 rfl rfl ?_
      refine y_callV (as := [_]) CX4_has LX8_140 IX4_has VX4_has ⟨rfl, Nat.le_of_ble_eq_true rfl⟩ dX8_word_13 hw.2.2.2.2.1.1 rfl (Nat.le_of_ble_eq_true rfl) (Nat.le_of_ble_eq_true rfl) (by omega) (s_has (k := 13) (w := 6) (ms := 12) (by exact hw.2.2.2.2.1) hv.2.2.2.2.2.1 _) (rok_z bI_01) ⟨Nat.le_refl _, Nat.le_refl _, hN, hS⟩ ?_
      refine z_if_eq dX8_word_16 rfl (fun c => absurd c (bI_ne0.mpr hin)) (fun _ => ?_)
      refine z_iload_n dX8_word_19 rfl rfl ?_
      refine z_iconst (v := 0) dX8_word_20 (by decide) ?_
      refine z_bipush (v := 7) dX8_word_21 (by decide) ?_
      refine y_callS (as := [_, _, _]) CX8_within LX8_61 SX8_within dX8_word_23 rfl (Nat.le_of_ble_eq_true rfl) (Nat.le_of_ble_eq_true rfl) (by omega) (s_within _ _ _) (rok_z bI_01) ⟨Nat.le_refl _, Nat.le_refl _, hN, hS⟩ ?_
      refine z_if_ne dX8_word_26 rfl (fun c => absurd (bI_eq0.mpr hw4) c) (fun _ => ?_)
      refine z_bipush (v := -2) dX8_word_29 (by decide) ?_
      refine z_iret dX8_word_31 ?_
      exact hQ
  · rw [if_neg (fun q => hin q.1)]
    refine ⟨h, ?_, FR.rf⟩
    intro N S Q hN hS hQ
    refine z_aload_n dX8_word_0 rfl rfl ?_
    refine y_getR FX8_10 dX8_word_1 rfl h8 hx0 ?_
    refine y_getR FX8_79 dX8_word_4 rfl hs.o hs.f0 ?_
    refine z_astore_n dX8_word_7 rfl (Nat.le_of_ble_eq_true rfl) ?_
    refine z_aload_n dX8_word_8 rfl rfl ?_
    refine y_getR FX8_127 dX8_word_9 rfl hw.1 hw.2.2.2.1 ?_
    refine z_iload_n dX8_word_12 rfl rfl ?_
    refine y_callV (as := [_]) CX4_has LX8_140 IX4_has VX4_has ⟨rfl, Nat.le_of_ble_eq_true rfl⟩ dX8_word_13 hw.2.2.2.2.1.1 rfl (Nat.le_of_ble_eq_true rfl) (Nat.le_of_ble_eq_true rfl) (by omega) (s_has (k := 13) (w := 6) (ms := 12) (by exact hw.2.2.2.2.1) hv.2.2.2.2.2.1 _) (rok_z bI_01) ⟨Nat.le_refl _, Nat.le_refl _, hN, hS⟩ ?_
    refine z_if_eq dX8_word_16 rfl (fun _ => ?_) (fun c => absurd (bI_eq0.mpr hin) c)
    refine z_bipush (v := -2) dX8_word_29 (by decide) ?_
    refine z_iret dX8_word_31 ?_
    exact hQ

theorem CLW.lw {h h1 : Hp} {a : Fl} {tf : Nat → Int32} {w : Nat} {W : Fl} (c : CLW h a tf w W) (f : FR 482 483 h h1) (hw : w = 10 ∨ w = 465) : CLW h1 a tf w W := c.st f.l (c.wv f) hw
theorem c_owes {h : Hp} {d : Nat} {a : Fl} {tf : Nat → Int32} (cl : CLW h a tf 10 (snap a)) (hi : IC a) (hp : IP a) (hq : IQ a) (hf : IFc a) (hW : IW (a 0) (snap a)) (hT : a 3 ≠ 0 → TXV tf (a 3 - 1)) {p : Nat} (hp5 : p < 5) (hd : 5 ≤ d) : ∃ h1, Sp d mX8_owes [.ref 8, .int (nI p)] h (some (.int (nI (sumF (oweF tf a p) (a 11))))) h1 ∧ FR 482 483 h h1 := by
  have v0 := hi.1
  have v1 := hi.2.1
  have v2 := hi.2.2.1
  have v3 := hi.2.2.2.1
  have v11 := hi.2.2.2.2.2.2.2.2.2.2.2.1
  have L : ∀ r i (h1 : Hp), i + r = a 11 → FR 482 483 h h1 → ∃ h2, FR 482 483 h h2 ∧ ∀ (N S : Nat) (Q : Option Value → Hp → Prop), pn h ≤ N → ps h ≤ S → Q (some (.int (nI (sumF (oweF tf a p) (a 11))))) h2 → T d N S mX8_owes 13 [some (.ref 8), some (.int (nI p)), some (.ref 10), some (.int (nI (sumF (oweF tf a p) i))), some (.int (nI i))] [] h1 Q := by
    intro r
    induction r with
    | zero =>
      intro i h1 hi f1
      have e : i = a 11 := by omega
      rw [e]
      have cl := cl.lw f1 (Or.inl rfl)
      obtain ⟨h8, hx0, hx4, hk, hs, hz, mo, hw, hv, hwb⟩ := id cl
      refine ⟨h1, f1, fun N S Q hN hS hQ => ?_⟩
      refine z_iload dX8_owes_13 rfl ?_
      refine z_aload_n dX8_owes_15 rfl rfl ?_
      refine y_getR FX8_127 dX8_owes_16 rfl hw.1 hw.2.2.2.1 ?_
      refine y_getI FX8_130 dX8_owes_19 (Or.inl rfl) hw.2.2.2.2.1.1 ?_
      refine z_eqi (y := nI (a 11)) (show _ = nI (a 11) from hv.2.2.2.2.2.1.2.2.1) ?_
      refine z_icmp_ge dX8_owes_22 rfl (fun _ => ?_) (fun c => absurd (Int32.le_refl _) c)
      refine z_iload_n dX8_owes_71 rfl rfl ?_
      refine z_iret dX8_owes_72 ?_
      exact hQ
    | succ r ih =>
      intro i h1 hi f1
      have cl := cl.lw f1 (Or.inl rfl)
      obtain ⟨h8, hx0, hx4, hk, hs, hz, mo, hw, hv, hwb⟩ := id cl
      have cq := hq i (by omega)
      have hk1 : i < snap a 4 := by show i < a 11; omega
      have en : nn (nI i) = i := nn_nI (by omega)
      have op : opnW (snap a) (nI i) ↔ a (38 + 6 * i + 5) = 0 := by
        unfold opnW
        rw [en, snap_pc (by omega) (by omega)]
        exact ⟨fun q => q.2, fun q => ⟨(vin_nI (by omega) (by show a 11 < 2 ^ 31; omega)).mpr hk1, q⟩⟩
      have es : sumF (oweF tf a p) (i + 1) = sumF (oweF tf a p) i + oweF tf a p i := sumF_s
      by_cases ho : a (38 + 6 * i + 5) = 0
      · by_cases hwp : a (38 + 6 * i + 0) = p
        · have ev : oweF tf a p i = mDues tf (a 3) (snap a) i := if_pos ⟨ho, hwp⟩
          obtain ⟨v, rv1, rv2⟩ := c_rulingV hs mo v2 v3 hT
          obtain ⟨g, r1, r2⟩ := c_duesBy (d := 4) (k := i) (t1 := a 3) cl hW rfl v0 v2 v3 hk1 rv1 (Nat.le_refl _)
          obtain ⟨h2, k1, K⟩ := ih (i + 1) g (by omega) (f1.tr r2)
          rw [es, ev] at K
          refine ⟨h2, k1, fun N S Q hN hS hQ => ?_⟩
          have hN1 : pn h1 ≤ N := by rw [f1.1.n]; exact hN
          have hS1 : ps h1 ≤ S := by rw [f1.1.s]; exact hS
          rcases id rv1 with ⟨z0, rfl⟩ | ⟨z0, zT, x, rfl, zx⟩
          · skip
            refine z_iload dX8_owes_13 rfl ?_
            refine z_aload_n dX8_owes_15 rfl rfl ?_
            refine y_getR FX8_127 dX8_owes_16 rfl hw.1 hw.2.2.2.1 ?_
            refine y_getI FX8_130 dX8_owes_19 (Or.inl rfl) hw.2.2.2.2.1.1 ?_
            refine z_eqi (y := nI (a 11)) (show _ = nI (a 11) from hv.2.2.2.2.2.1.2.2.1) ?_
            refine z_icmp_ge dX8_owes_22 rfl (fun c => absurd c (fun q => absurd ((nI_leI (by omega) (by omega)).mp q) (by omega))) (fun _ => ?_)
            refine z_aload_n dX8_owes_25 rfl rfl ?_
            refine z_iload dX8_owes_26 rfl ?_
            refine y_callV (as := [_]) CX7_isOpen LX8_167 IX7_isOpen VX7_isOpen ⟨rfl, Nat.le_of_ble_eq_true rfl⟩ dX8_owes_28 hw.1 rfl (Nat.le_of_ble_eq_true rfl) (Nat.le_of_ble_eq_true rfl) (by omega) (c_isOpenW (w := 10) (d := 1) (W := snap a) hw hv (fun k hk => (hW.2.2.1 k hk).2.2.2.2.2.2) _ (Nat.le_refl _)) (rok_z bI_01) ⟨Nat.le_refl _, Nat.le_refl _, hN1, hS1⟩ ?_
            refine z_if_eq dX8_owes_31 rfl (fun c => absurd c (bI_ne0.mpr (op.mpr ho))) (fun _ => ?_)
            refine z_aload_n dX8_owes_34 rfl rfl ?_
            refine y_getR FX8_127 dX8_owes_35 rfl hw.1 hw.2.2.2.1 ?_
            refine z_iload dX8_owes_38 rfl ?_
            refine z_iconst (v := 0) dX8_owes_40 (by decide) ?_
            refine y_callV (as := [_, _]) CX4_get LX8_143 IX4_get VX4_get ⟨rfl, Nat.le_of_ble_eq_true rfl⟩ dX8_owes_41 hw.2.2.2.2.1.1 rfl (Nat.le_of_ble_eq_true rfl) (Nat.le_of_ble_eq_true rfl) (by omega) (s_get (k := 13) (w := 6) (ms := 12) (i := i) (j := 0) (by exact hw.2.2.2.2.1) hv.2.2.2.2.2.1 hk1 (by omega)) rok_i ⟨Nat.le_refl _, Nat.le_refl _, hN1, hS1⟩ ?_
            refine z_eqi (show _ = nI (a (38 + 6 * i + 0)) from (hv.k hk1 (by omega)).trans (congrArg nI (snap_pc (by omega) (by omega)))) ?_
            refine z_iload_n dX8_owes_44 rfl rfl ?_
            refine z_icmp_ne dX8_owes_45 rfl (fun c => absurd (congrArg nI hwp) c) (fun _ => ?_)
            refine z_iload_n dX8_owes_48 rfl rfl ?_
            refine z_aload_n dX8_owes_49 rfl rfl ?_
            refine z_aload_n dX8_owes_50 rfl rfl ?_
            refine y_getR FX8_10 dX8_owes_51 rfl h8 hx0 ?_
            refine y_callV (as := []) CX1_ruling LX8_197 IX1_ruling VX1_ruling ⟨rfl, Nat.le_of_ble_eq_true rfl⟩ dX8_owes_54 hs.o rfl (Nat.le_of_ble_eq_true rfl) (Nat.le_of_ble_eq_true rfl) (by omega) (rv2 1 (Nat.le_refl _)) (rv1.rok rfl) ⟨Nat.le_refl _, Nat.le_refl _, hN1, hS1⟩ ?_
            refine z_aload_n dX8_owes_57 rfl rfl ?_
            refine z_iload dX8_owes_58 rfl ?_
            refine y_callV (as := [_, _, _]) CX8_duesBy LX8_201 IX8_duesBy VX8_duesBy ⟨rfl, Nat.le_of_ble_eq_true rfl⟩ dX8_owes_60 h8 rfl (Nat.le_of_ble_eq_true rfl) (Nat.le_of_ble_eq_true rfl) (by omega) r1 rok_i (hg_ss r2.1 hN1 hS1) ?_
            refine z_iadd dX8_owes_63 ?_
            refine z_eqi (nI_add _ _) ?_
            refine z_istore_n dX8_owes_64 rfl (Nat.le_of_ble_eq_true rfl) ?_
            refine z_iinc dX8_owes_65 rfl (nI_1 _) (Nat.le_of_ble_eq_true rfl) ?_
            refine z_goto dX8_owes_68 rfl ?_
            exact K N S Q hN hS hQ
          · skip
            refine z_iload dX8_owes_13 rfl ?_
            refine z_aload_n dX8_owes_15 rfl rfl ?_
            refine y_getR FX8_127 dX8_owes_16 rfl hw.1 hw.2.2.2.1 ?_
            refine y_getI FX8_130 dX8_owes_19 (Or.inl rfl) hw.2.2.2.2.1.1 ?_
            refine z_eqi (y := nI (a 11)) (show _ = nI (a 11) from hv.2.2.2.2.2.1.2.2.1) ?_
            refine z_icmp_ge dX8_owes_22 rfl (fun c => absurd c (fun q => absurd ((nI_leI (by omega) (by omega)).mp q) (by omega))) (fun _ => ?_)
            refine z_aload_n dX8_owes_25 rfl rfl ?_
            refine z_iload dX8_owes_26 rfl ?_
            refine y_callV (as := [_]) CX7_isOpen LX8_167 IX7_isOpen VX7_isOpen ⟨rfl, Nat.le_of_ble_eq_true rfl⟩ dX8_owes_28 hw.1 rfl (Nat.le_of_ble_eq_true rfl) (Nat.le_of_ble_eq_true rfl) (by omega) (c_isOpenW (w := 10) (d := 1) (W := snap a) hw hv (fun k hk => (hW.2.2.1 k hk).2.2.2.2.2.2) _ (Nat.le_refl _)) (rok_z bI_01) ⟨Nat.le_refl _, Nat.le_refl _, hN1, hS1⟩ ?_
            refine z_if_eq dX8_owes_31 rfl (fun c => absurd c (bI_ne0.mpr (op.mpr ho))) (fun _ => ?_)
            refine z_aload_n dX8_owes_34 rfl rfl ?_
            refine y_getR FX8_127 dX8_owes_35 rfl hw.1 hw.2.2.2.1 ?_
            refine z_iload dX8_owes_38 rfl ?_
            refine z_iconst (v := 0) dX8_owes_40 (by decide) ?_
            refine y_callV (as := [_, _]) CX4_get LX8_143 IX4_get VX4_get ⟨rfl, Nat.le_of_ble_eq_true rfl⟩ dX8_owes_41 hw.2.2.2.2.1.1 rfl (Nat.le_of_ble_eq_true rfl) (Nat.le_of_ble_eq_true rfl) (by omega) (s_get (k := 13) (w := 6) (ms := 12) (i := i) (j := 0) (by exact hw.2.2.2.2.1) hv.2.2.2.2.2.1 hk1 (by omega)) rok_i ⟨Nat.le_refl _, Nat.le_refl _, hN1, hS1⟩ ?_
            refine z_eqi (show _ = nI (a (38 + 6 * i + 0)) from (hv.k hk1 (by omega)).trans (congrArg nI (snap_pc (by omega) (by omega)))) ?_
            refine z_iload_n dX8_owes_44 rfl rfl ?_
            refine z_icmp_ne dX8_owes_45 rfl (fun c => absurd (congrArg nI hwp) c) (fun _ => ?_)
            refine z_iload_n dX8_owes_48 rfl rfl ?_
            refine z_aload_n dX8_owes_49 rfl rfl ?_
            refine z_aload_n dX8_owes_50 rfl rfl ?_
            refine y_getR FX8_10 dX8_owes_51 rfl h8 hx0 ?_
            refine y_callV (as := []) CX1_ruling LX8_197 IX1_ruling VX1_ruling ⟨rfl, Nat.le_of_ble_eq_true rfl⟩ dX8_owes_54 hs.o rfl (Nat.le_of_ble_eq_true rfl) (Nat.le_of_ble_eq_true rfl) (by omega) (rv2 1 (Nat.le_refl _)) (rv1.rok rfl) ⟨Nat.le_refl _, Nat.le_refl _, hN1, hS1⟩ ?_
            refine z_aload_n dX8_owes_57 rfl rfl ?_
            refine z_iload dX8_owes_58 rfl ?_
            refine y_callV (as := [_, _, _]) CX8_duesBy LX8_201 IX8_duesBy VX8_duesBy ⟨rfl, Nat.le_of_ble_eq_true rfl⟩ dX8_owes_60 h8 rfl (Nat.le_of_ble_eq_true rfl) (Nat.le_of_ble_eq_true rfl) (by omega) r1 rok_i (hg_ss r2.1 hN1 hS1) ?_
            refine z_iadd dX8_owes_63 ?_
            refine z_eqi (nI_add _ _) ?_
            refine z_istore_n dX8_owes_64 rfl (Nat.le_of_ble_eq_true rfl) ?_
            refine z_iinc dX8_owes_65 rfl (nI_1 _) (Nat.le_of_ble_eq_true rfl) ?_
            refine z_goto dX8_owes_68 rfl ?_
            exact K N S Q hN hS hQ
        · have ev : oweF tf a p i = 0 := if_neg (fun q => hwp q.2)
          obtain ⟨h2, k1, K⟩ := ih (i + 1) h1 (by omega) f1
          rw [es, ev, Nat.add_zero] at K
          refine ⟨h2, k1, fun N S Q hN hS hQ => ?_⟩
          have hN1 : pn h1 ≤ N := by rw [f1.1.n]; exact hN
          have hS1 : ps h1 ≤ S := by rw [f1.1.s]; exact hS
          refine z_iload dX8_owes_13 rfl ?_
          refine z_aload_n dX8_owes_15 rfl rfl ?_
          refine y_getR FX8_127 dX8_owes_16 rfl hw.1 hw.2.2.2.1 ?_
          refine y_getI FX8_130 dX8_owes_19 (Or.inl rfl) hw.2.2.2.2.1.1 ?_
          refine z_eqi (y := nI (a 11)) (show _ = nI (a 11) from hv.2.2.2.2.2.1.2.2.1) ?_
          refine z_icmp_ge dX8_owes_22 rfl (fun c => absurd c (fun q => absurd ((nI_leI (by omega) (by omega)).mp q) (by omega))) (fun _ => ?_)
          refine z_aload_n dX8_owes_25 rfl rfl ?_
          refine z_iload dX8_owes_26 rfl ?_
          refine y_callV (as := [_]) CX7_isOpen LX8_167 IX7_isOpen VX7_isOpen ⟨rfl, Nat.le_of_ble_eq_true rfl⟩ dX8_owes_28 hw.1 rfl (Nat.le_of_ble_eq_true rfl) (Nat.le_of_ble_eq_true rfl) (by omega) (c_isOpenW (w := 10) (d := 1) (W := snap a) hw hv (fun k hk => (hW.2.2.1 k hk).2.2.2.2.2.2) _ (Nat.le_refl _)) (rok_z bI_01) ⟨Nat.le_refl _, Nat.le_refl _, hN1, hS1⟩ ?_
          refine z_if_eq dX8_owes_31 rfl (fun c => absurd c (bI_ne0.mpr (op.mpr ho))) (fun _ => ?_)
          refine z_aload_n dX8_owes_34 rfl rfl ?_
          refine y_getR FX8_127 dX8_owes_35 rfl hw.1 hw.2.2.2.1 ?_
          refine z_iload dX8_owes_38 rfl ?_
          refine z_iconst (v := 0) dX8_owes_40 (by decide) ?_
          refine y_callV (as := [_, _]) CX4_get LX8_143 IX4_get VX4_get ⟨rfl, Nat.le_of_ble_eq_true rfl⟩ dX8_owes_41 hw.2.2.2.2.1.1 rfl (Nat.le_of_ble_eq_true rfl) (Nat.le_of_ble_eq_true rfl) (by omega) (s_get (k := 13) (w := 6) (ms := 12) (i := i) (j := 0) (by exact hw.2.2.2.2.1) hv.2.2.2.2.2.1 hk1 (by omega)) rok_i ⟨Nat.le_refl _, Nat.le_refl _, hN1, hS1⟩ ?_
          refine z_eqi (show _ = nI (a (38 + 6 * i + 0)) from (hv.k hk1 (by omega)).trans (congrArg nI (snap_pc (by omega) (by omega)))) ?_
          refine z_iload_n dX8_owes_44 rfl rfl ?_
          refine z_icmp_ne dX8_owes_45 rfl (fun _ => ?_) (fun c => absurd c (fun q => hwp ((nI_eq (by omega) (by omega)).mp q)))
          refine z_iinc dX8_owes_65 rfl (nI_1 _) (Nat.le_of_ble_eq_true rfl) ?_
          refine z_goto dX8_owes_68 rfl ?_
          exact K N S Q hN hS hQ
      · have ev : oweF tf a p i = 0 := if_neg (fun q => ho q.1)
        obtain ⟨h2, k1, K⟩ := ih (i + 1) h1 (by omega) f1
        rw [es, ev, Nat.add_zero] at K
        refine ⟨h2, k1, fun N S Q hN hS hQ => ?_⟩
        have hN1 : pn h1 ≤ N := by rw [f1.1.n]; exact hN
        have hS1 : ps h1 ≤ S := by rw [f1.1.s]; exact hS
        refine z_iload dX8_owes_13 rfl ?_
        refine z_aload_n dX8_owes_15 rfl rfl ?_
        refine y_getR FX8_127 dX8_owes_16 rfl hw.1 hw.2.2.2.1 ?_
        refine y_getI FX8_130 dX8_owes_19 (Or.inl rfl) hw.2.2.2.2.1.1 ?_
        refine z_eqi (y := nI (a 11)) (show _ = nI (a 11) from hv.2.2.2.2.2.1.2.2.1) ?_
        refine z_icmp_ge dX8_owes_22 rfl (fun c => absurd c (fun q => absurd ((nI_leI (by omega) (by omega)).mp q) (by omega))) (fun _ => ?_)
        refine z_aload_n dX8_owes_25 rfl rfl ?_
        refine z_iload dX8_owes_26 rfl ?_
        refine y_callV (as := [_]) CX7_isOpen LX8_167 IX7_isOpen VX7_isOpen ⟨rfl, Nat.le_of_ble_eq_true rfl⟩ dX8_owes_28 hw.1 rfl (Nat.le_of_ble_eq_true rfl) (Nat.le_of_ble_eq_true rfl) (by omega) (c_isOpenW (w := 10) (d := 1) (W := snap a) hw hv (fun k hk => (hW.2.2.1 k hk).2.2.2.2.2.2) _ (Nat.le_refl _)) (rok_z bI_01) ⟨Nat.le_refl _, Nat.le_refl _, hN1, hS1⟩ ?_
        refine z_if_eq dX8_owes_31 rfl (fun _ => ?_) (fun c => absurd (bI_eq0.mpr (fun q => ho (op.mp q))) c)
        refine z_iinc dX8_owes_65 rfl (nI_1 _) (Nat.le_of_ble_eq_true rfl) ?_
        refine z_goto dX8_owes_68 rfl ?_
        exact K N S Q hN hS hQ
  obtain ⟨h2, k1, K⟩ := L (a 11) 0 h (by omega) FR.rf
  refine ⟨h2, ?_, k1⟩
  intro N S Q hN hS hQ
  have hN : pn h ≤ N := by rw [← k1.1.n]; exact hN
  have hS : ps h ≤ S := by rw [← k1.1.s]; exact hS
  obtain ⟨h8, hx0, hx4, hk, hs, hz, mo, hw, hv, hwb⟩ := id cl
  refine z_aload_n dX8_owes_0 rfl rfl ?_
  refine y_getR FX8_10 dX8_owes_1 rfl h8 hx0 ?_
  refine y_getR FX8_79 dX8_owes_4 rfl hs.o hs.f0 ?_
  refine z_astore_n dX8_owes_7 rfl (Nat.le_of_ble_eq_true rfl) ?_
  refine z_iconst (v := 0) dX8_owes_8 (by decide) ?_
  refine z_istore_n dX8_owes_9 rfl (Nat.le_of_ble_eq_true rfl) ?_
  refine z_iconst (v := 0) dX8_owes_10 (by decide) ?_
  refine z_istore dX8_owes_11 (Nat.le_of_ble_eq_true rfl) ?_
  exact K N S Q hN hS hQ

theorem C_of {h : Hp} {d : Nat} {a : Fl} {tf : Nat → Int32} (cl : CLW h a tf 10 (snap a)) (hi : IC a) (hp : IP a) (hq : IQ a) (hf : IFc a) (hW : IW (a 0) (snap a)) (hT : a 3 ≠ 0 → TXV tf (a 3 - 1)) (hwq : WQ (snap a)) (p0 w : Int32) (hd : 6 ≤ d) : ∃ h1, Sp d mX8_of [.ref 8, .int p0, .int w] h (some (.int (mOf tf a p0 w))) h1 ∧ FR 482 483 h h1 := by
  obtain ⟨h8, hx0, hx4, hk, hs, hz, mo, hw, hv, hwb⟩ := id cl
  have v0 := hi.1
  have v1 := hi.2.1
  have v2 := hi.2.2.1
  have v3 := hi.2.2.2.1
  have v10 := hi.2.2.2.2.2.2.2.2.2.2.1
  have v11 := hi.2.2.2.2.2.2.2.2.2.2.2.1
  unfold mOf
  by_cases hin : vin p0 (snap a 0)
  · by_cases hw4 : inr w 0 4
    · rw [if_pos ⟨hin, hw4⟩]
      have b5 : snap a 0 ≤ 5 := v1
      obtain ⟨p, hk1, rfl⟩ := vin_of (by omega) hin
      obtain ⟨j, hj, rfl⟩ := inr_of (n := 4) (by omega) hw4
      rw [nn_nI (by omega), nn_nI (by omega)]
      rcases (show j = 0 ∨ j = 1 ∨ j = 2 ∨ j = 3 ∨ j = 4 by omega) with rfl | rfl | rfl | rfl | rfl
      · refine ⟨h, ?_, FR.rf⟩
        intro N S Q hN hS hQ
        refine z_aload_n dX8_of_0 rfl rfl ?_
        refine y_getR FX8_10 dX8_of_1 rfl h8 hx0 ?_
        refine y_getR FX8_79 dX8_of_4 rfl hs.o hs.f0 ?_
        refine z_astore_n dX8_of_7 rfl (Nat.le_of_ble_eq_true rfl) ?_
        refine z_aload_n dX8_of_8 rfl rfl ?_
        refine y_getR FX8_82 dX8_of_9 rfl hw.1 hw.2.1 ?_
        refine z_iload_n dX8_of_12 rfl rfl ?_
        refine y_callV (as := [_]) CX4_has LX8_140 IX4_has VX4_has ⟨rfl, Nat.le_of_ble_eq_true rfl⟩ dX8_of_13 hw.2.2.1.1 rfl (Nat.le_of_ble_eq_true rfl) (Nat.le_of_ble_eq_true rfl) (by omega) (s_has (k := 11) (w := 3) (ms := 5) (by exact hw.2.2.1) hv.2.2.2.1 _) (rok_z bI_01) ⟨Nat.le_refl _, Nat.le_refl _, hN, hS⟩ ?_
        refine z_if_eq dX8_of_16 rfl (fun c => absurd c (bI_ne0.mpr hin)) (fun _ => ?_)
        refine z_iload_n dX8_of_19 rfl rfl ?_
        refine z_iconst (v := 0) dX8_of_20 (by decide) ?_
        refine z_iconst (v := 4) dX8_of_21 (by decide) ?_
        refine y_callS (as := [_, _, _]) CX8_within LX8_61 SX8_within dX8_of_22 rfl (Nat.le_of_ble_eq_true rfl) (Nat.le_of_ble_eq_true rfl) (by omega) (s_within _ _ _) (rok_z bI_01) ⟨Nat.le_refl _, Nat.le_refl _, hN, hS⟩ ?_
        refine z_if_ne dX8_of_25 rfl (fun _ => ?_) (fun c => absurd c (bI_ne0.mpr hw4))
        refine z_iload_n dX8_of_31 rfl rfl ?_
        refine z_iconst (v := 2) dX8_of_32 (by decide) ?_
        refine z_icmp_gt dX8_of_33 rfl (fun c => absurd c (by decide)) (fun _ => ?_)
        refine z_aload_n dX8_of_36 rfl rfl ?_
        refine y_getR FX8_82 dX8_of_37 rfl hw.1 hw.2.1 ?_
        refine z_iload_n dX8_of_40 rfl rfl ?_
        refine z_iload_n dX8_of_41 rfl rfl ?_
        refine y_callV (as := [_, _]) CX4_get LX8_143 IX4_get VX4_get ⟨rfl, Nat.le_of_ble_eq_true rfl⟩ dX8_of_42 hw.2.2.1.1 rfl (Nat.le_of_ble_eq_true rfl) (Nat.le_of_ble_eq_true rfl) (by omega) (s_get (k := 11) (w := 3) (ms := 5) (i := p) (j := 0) (by exact hw.2.2.1) hv.2.2.2.1 hk1 (by omega)) rok_i ⟨Nat.le_refl _, Nat.le_refl _, hN, hS⟩ ?_
        refine z_eqi (show _ = nI (a (13 + 5 * p + 0)) from (hv.p hk1 (by omega)).trans (congrArg nI (snap_pp (by omega) (by omega)))) ?_
        refine z_iret dX8_of_45 ?_
        exact hQ
      · refine ⟨h, ?_, FR.rf⟩
        intro N S Q hN hS hQ
        refine z_aload_n dX8_of_0 rfl rfl ?_
        refine y_getR FX8_10 dX8_of_1 rfl h8 hx0 ?_
        refine y_getR FX8_79 dX8_of_4 rfl hs.o hs.f0 ?_
        refine z_astore_n dX8_of_7 rfl (Nat.le_of_ble_eq_true rfl) ?_
        refine z_aload_n dX8_of_8 rfl rfl ?_
        refine y_getR FX8_82 dX8_of_9 rfl hw.1 hw.2.1 ?_
        refine z_iload_n dX8_of_12 rfl rfl ?_
        refine y_callV (as := [_]) CX4_has LX8_140 IX4_has VX4_has ⟨rfl, Nat.le_of_ble_eq_true rfl⟩ dX8_of_13 hw.2.2.1.1 rfl (Nat.le_of_ble_eq_true rfl) (Nat.le_of_ble_eq_true rfl) (by omega) (s_has (k := 11) (w := 3) (ms := 5) (by exact hw.2.2.1) hv.2.2.2.1 _) (rok_z bI_01) ⟨Nat.le_refl _, Nat.le_refl _, hN, hS⟩ ?_
        refine z_if_eq dX8_of_16 rfl (fun c => absurd c (bI_ne0.mpr hin)) (fun _ => ?_)
        refine z_iload_n dX8_of_19 rfl rfl ?_
        refine z_iconst (v := 0) dX8_of_20 (by decide) ?_
        refine z_iconst (v := 4) dX8_of_21 (by decide) ?_
        refine y_callS (as := [_, _, _]) CX8_within LX8_61 SX8_within dX8_of_22 rfl (Nat.le_of_ble_eq_true rfl) (Nat.le_of_ble_eq_true rfl) (by omega) (s_within _ _ _) (rok_z bI_01) ⟨Nat.le_refl _, Nat.le_refl _, hN, hS⟩ ?_
        refine z_if_ne dX8_of_25 rfl (fun _ => ?_) (fun c => absurd c (bI_ne0.mpr hw4))
        refine z_iload_n dX8_of_31 rfl rfl ?_
        refine z_iconst (v := 2) dX8_of_32 (by decide) ?_
        refine z_icmp_gt dX8_of_33 rfl (fun c => absurd c (by decide)) (fun _ => ?_)
        refine z_aload_n dX8_of_36 rfl rfl ?_
        refine y_getR FX8_82 dX8_of_37 rfl hw.1 hw.2.1 ?_
        refine z_iload_n dX8_of_40 rfl rfl ?_
        refine z_iload_n dX8_of_41 rfl rfl ?_
        refine y_callV (as := [_, _]) CX4_get LX8_143 IX4_get VX4_get ⟨rfl, Nat.le_of_ble_eq_true rfl⟩ dX8_of_42 hw.2.2.1.1 rfl (Nat.le_of_ble_eq_true rfl) (Nat.le_of_ble_eq_true rfl) (by omega) (s_get (k := 11) (w := 3) (ms := 5) (i := p) (j := 1) (by exact hw.2.2.1) hv.2.2.2.1 hk1 (by omega)) rok_i ⟨Nat.le_refl _, Nat.le_refl _, hN, hS⟩ ?_
        refine z_eqi (show _ = nI (a (13 + 5 * p + 1)) from (hv.p hk1 (by omega)).trans (congrArg nI (snap_pp (by omega) (by omega)))) ?_
        refine z_iret dX8_of_45 ?_
        exact hQ
      · refine ⟨h, ?_, FR.rf⟩
        intro N S Q hN hS hQ
        refine z_aload_n dX8_of_0 rfl rfl ?_
        refine y_getR FX8_10 dX8_of_1 rfl h8 hx0 ?_
        refine y_getR FX8_79 dX8_of_4 rfl hs.o hs.f0 ?_
        refine z_astore_n dX8_of_7 rfl (Nat.le_of_ble_eq_true rfl) ?_
        refine z_aload_n dX8_of_8 rfl rfl ?_
        refine y_getR FX8_82 dX8_of_9 rfl hw.1 hw.2.1 ?_
        refine z_iload_n dX8_of_12 rfl rfl ?_
        refine y_callV (as := [_]) CX4_has LX8_140 IX4_has VX4_has ⟨rfl, Nat.le_of_ble_eq_true rfl⟩ dX8_of_13 hw.2.2.1.1 rfl (Nat.le_of_ble_eq_true rfl) (Nat.le_of_ble_eq_true rfl) (by omega) (s_has (k := 11) (w := 3) (ms := 5) (by exact hw.2.2.1) hv.2.2.2.1 _) (rok_z bI_01) ⟨Nat.le_refl _, Nat.le_refl _, hN, hS⟩ ?_
        refine z_if_eq dX8_of_16 rfl (fun c => absurd c (bI_ne0.mpr hin)) (fun _ => ?_)
        refine z_iload_n dX8_of_19 rfl rfl ?_
        refine z_iconst (v := 0) dX8_of_20 (by decide) ?_
        refine z_iconst (v := 4) dX8_of_21 (by decide) ?_
        refine y_callS (as := [_, _, _]) CX8_within LX8_61 SX8_within dX8_of_22 rfl (Nat.le_of_ble_eq_true rfl) (Nat.le_of_ble_eq_true rfl) (by omega) (s_within _ _ _) (rok_z bI_01) ⟨Nat.le_refl _, Nat.le_refl _, hN, hS⟩ ?_
        refine z_if_ne dX8_of_25 rfl (fun _ => ?_) (fun c => absurd c (bI_ne0.mpr hw4))
        refine z_iload_n dX8_of_31 rfl rfl ?_
        refine z_iconst (v := 2) dX8_of_32 (by decide) ?_
        refine z_icmp_gt dX8_of_33 rfl (fun c => absurd c (by decide)) (fun _ => ?_)
        refine z_aload_n dX8_of_36 rfl rfl ?_
        refine y_getR FX8_82 dX8_of_37 rfl hw.1 hw.2.1 ?_
        refine z_iload_n dX8_of_40 rfl rfl ?_
        refine z_iload_n dX8_of_41 rfl rfl ?_
        refine y_callV (as := [_, _]) CX4_get LX8_143 IX4_get VX4_get ⟨rfl, Nat.le_of_ble_eq_true rfl⟩ dX8_of_42 hw.2.2.1.1 rfl (Nat.le_of_ble_eq_true rfl) (Nat.le_of_ble_eq_true rfl) (by omega) (s_get (k := 11) (w := 3) (ms := 5) (i := p) (j := 2) (by exact hw.2.2.1) hv.2.2.2.1 hk1 (by omega)) rok_i ⟨Nat.le_refl _, Nat.le_refl _, hN, hS⟩ ?_
        refine z_eqi (show _ = nI (a (13 + 5 * p + 2)) from (hv.p hk1 (by omega)).trans (congrArg nI (snap_pp (by omega) (by omega)))) ?_
        refine z_iret dX8_of_45 ?_
        exact hQ
      · refine ⟨h, ?_, FR.rf⟩
        intro N S Q hN hS hQ
        rw [show (if 3 ≤ 2 then nI (a (13 + 5 * p + 3)) else if 3 = 3 then nI (opn a p (a 11)) else nI (sumF (oweF tf a p) (a 11))) = nI (opn a p (a 11)) from rfl, ← opW_snap v11] at hQ
        refine z_aload_n dX8_of_0 rfl rfl ?_
        refine y_getR FX8_10 dX8_of_1 rfl h8 hx0 ?_
        refine y_getR FX8_79 dX8_of_4 rfl hs.o hs.f0 ?_
        refine z_astore_n dX8_of_7 rfl (Nat.le_of_ble_eq_true rfl) ?_
        refine z_aload_n dX8_of_8 rfl rfl ?_
        refine y_getR FX8_82 dX8_of_9 rfl hw.1 hw.2.1 ?_
        refine z_iload_n dX8_of_12 rfl rfl ?_
        refine y_callV (as := [_]) CX4_has LX8_140 IX4_has VX4_has ⟨rfl, Nat.le_of_ble_eq_true rfl⟩ dX8_of_13 hw.2.2.1.1 rfl (Nat.le_of_ble_eq_true rfl) (Nat.le_of_ble_eq_true rfl) (by omega) (s_has (k := 11) (w := 3) (ms := 5) (by exact hw.2.2.1) hv.2.2.2.1 _) (rok_z bI_01) ⟨Nat.le_refl _, Nat.le_refl _, hN, hS⟩ ?_
        refine z_if_eq dX8_of_16 rfl (fun c => absurd c (bI_ne0.mpr hin)) (fun _ => ?_)
        refine z_iload_n dX8_of_19 rfl rfl ?_
        refine z_iconst (v := 0) dX8_of_20 (by decide) ?_
        refine z_iconst (v := 4) dX8_of_21 (by decide) ?_
        refine y_callS (as := [_, _, _]) CX8_within LX8_61 SX8_within dX8_of_22 rfl (Nat.le_of_ble_eq_true rfl) (Nat.le_of_ble_eq_true rfl) (by omega) (s_within _ _ _) (rok_z bI_01) ⟨Nat.le_refl _, Nat.le_refl _, hN, hS⟩ ?_
        refine z_if_ne dX8_of_25 rfl (fun _ => ?_) (fun c => absurd c (bI_ne0.mpr hw4))
        refine z_iload_n dX8_of_31 rfl rfl ?_
        refine z_iconst (v := 2) dX8_of_32 (by decide) ?_
        refine z_icmp_gt dX8_of_33 rfl (fun _ => ?_) (fun c => absurd (by decide) c)
        refine z_iload_n dX8_of_46 rfl rfl ?_
        refine z_iconst (v := 3) dX8_of_47 (by decide) ?_
        refine z_icmp_ne dX8_of_48 rfl (fun c => absurd (rfl) c) (fun _ => ?_)
        refine z_aload_n dX8_of_51 rfl rfl ?_
        refine z_iload_n dX8_of_52 rfl rfl ?_
        refine y_callV (as := [_]) CX7_openOf LX8_260 IX7_openOf VX7_openOf ⟨rfl, Nat.le_of_ble_eq_true rfl⟩ dX8_of_53 hw.1 rfl (Nat.le_of_ble_eq_true rfl) (Nat.le_of_ble_eq_true rfl) (by omega) (c_openOf (w := 10) (W := snap a) (p := p) (d := 2) hw hv hwq (by omega) (Nat.le_refl _)) rok_i ⟨Nat.le_refl _, Nat.le_refl _, hN, hS⟩ ?_
        refine z_goto dX8_of_56 rfl ?_
        refine z_iret dX8_of_64 ?_
        exact hQ
      · obtain ⟨g, r1, r2⟩ := c_owes (d := 5) (p := p) cl hi hp hq hf hW hT (by omega) (Nat.le_refl _)
        refine ⟨g, ?_, r2⟩
        intro N S Q hN hS hQ
        have hN : pn h ≤ N := by rw [← r2.1.n]; exact hN
        have hS : ps h ≤ S := by rw [← r2.1.s]; exact hS
        refine z_aload_n dX8_of_0 rfl rfl ?_
        refine y_getR FX8_10 dX8_of_1 rfl h8 hx0 ?_
        refine y_getR FX8_79 dX8_of_4 rfl hs.o hs.f0 ?_
        refine z_astore_n dX8_of_7 rfl (Nat.le_of_ble_eq_true rfl) ?_
        refine z_aload_n dX8_of_8 rfl rfl ?_
        refine y_getR FX8_82 dX8_of_9 rfl hw.1 hw.2.1 ?_
        refine z_iload_n dX8_of_12 rfl rfl ?_
        refine y_callV (as := [_]) CX4_has LX8_140 IX4_has VX4_has ⟨rfl, Nat.le_of_ble_eq_true rfl⟩ dX8_of_13 hw.2.2.1.1 rfl (Nat.le_of_ble_eq_true rfl) (Nat.le_of_ble_eq_true rfl) (by omega) (s_has (k := 11) (w := 3) (ms := 5) (by exact hw.2.2.1) hv.2.2.2.1 _) (rok_z bI_01) ⟨Nat.le_refl _, Nat.le_refl _, hN, hS⟩ ?_
        refine z_if_eq dX8_of_16 rfl (fun c => absurd c (bI_ne0.mpr hin)) (fun _ => ?_)
        refine z_iload_n dX8_of_19 rfl rfl ?_
        refine z_iconst (v := 0) dX8_of_20 (by decide) ?_
        refine z_iconst (v := 4) dX8_of_21 (by decide) ?_
        refine y_callS (as := [_, _, _]) CX8_within LX8_61 SX8_within dX8_of_22 rfl (Nat.le_of_ble_eq_true rfl) (Nat.le_of_ble_eq_true rfl) (by omega) (s_within _ _ _) (rok_z bI_01) ⟨Nat.le_refl _, Nat.le_refl _, hN, hS⟩ ?_
        refine z_if_ne dX8_of_25 rfl (fun _ => ?_) (fun c => absurd c (bI_ne0.mpr hw4))
        refine z_iload_n dX8_of_31 rfl rfl ?_
        refine z_iconst (v := 2) dX8_of_32 (by decide) ?_
        refine z_icmp_gt dX8_of_33 rfl (fun _ => ?_) (fun c => absurd (by decide) c)
        refine z_iload_n dX8_of_46 rfl rfl ?_
        refine z_iconst (v := 3) dX8_of_47 (by decide) ?_
        refine z_icmp_ne dX8_of_48 rfl (fun _ => ?_) (fun c => absurd c (by decide))
        refine z_aload_n dX8_of_59 rfl rfl ?_
        refine z_iload_n dX8_of_60 rfl rfl ?_
        refine y_callV (as := [_]) CX8_owes LX8_263 IX8_owes VX8_owes ⟨rfl, Nat.le_of_ble_eq_true rfl⟩ dX8_of_61 h8 rfl (Nat.le_of_ble_eq_true rfl) (Nat.le_of_ble_eq_true rfl) (by omega) r1 rok_i (hg_ss r2.1 hN hS) ?_
        refine z_iret dX8_of_64 ?_
        exact hQ
    · rw [if_neg (fun q => hw4 q.2)]
      refine ⟨h, ?_, FR.rf⟩
      intro N S Q hN hS hQ
      refine z_aload_n dX8_of_0 rfl rfl ?_
      refine y_getR FX8_10 dX8_of_1 rfl h8 hx0 ?_
      refine y_getR FX8_79 dX8_of_4 rfl hs.o hs.f0 ?_
      refine z_astore_n dX8_of_7 rfl (Nat.le_of_ble_eq_true rfl) ?_
      refine z_aload_n dX8_of_8 rfl rfl ?_
      refine y_getR FX8_82 dX8_of_9 rfl hw.1 hw.2.1 ?_
      refine z_iload_n dX8_of_12 rfl rfl ?_
      refine y_callV (as := [_]) CX4_has LX8_140 IX4_has VX4_has ⟨rfl, Nat.le_of_ble_eq_true rfl⟩ dX8_of_13 hw.2.2.1.1 rfl (Nat.le_of_ble_eq_true rfl) (Nat.le_of_ble_eq_true rfl) (by omega) (s_has (k := 11) (w := 3) (ms := 5) (by exact hw.2.2.1) hv.2.2.2.1 _) (rok_z bI_01) ⟨Nat.le_refl _, Nat.le_refl _, hN, hS⟩ ?_
      refine z_if_eq dX8_of_16 rfl (fun c => absurd c (bI_ne0.mpr hin)) (fun _ => ?_)
      refine z_iload_n dX8_of_19 rfl rfl ?_
      refine z_iconst (v := 0) dX8_of_20 (by decide) ?_
      refine z_iconst (v := 4) dX8_of_21 (by decide) ?_
      refine y_callS (as := [_, _, _]) CX8_within LX8_61 SX8_within dX8_of_22 rfl (Nat.le_of_ble_eq_true rfl) (Nat.le_of_ble_eq_true rfl) (by omega) (s_within _ _ _) (rok_z bI_01) ⟨Nat.le_refl _, Nat.le_refl _, hN, hS⟩ ?_
      refine z_if_ne dX8_of_25 rfl (fun c => absurd (bI_eq0.mpr hw4) c) (fun _ => ?_)
      refine z_bipush (v := -2) dX8_of_28 (by decide) ?_
      refine z_iret dX8_of_30 ?_
      exact hQ
  · rw [if_neg (fun q => hin q.1)]
    refine ⟨h, ?_, FR.rf⟩
    intro N S Q hN hS hQ
    refine z_aload_n dX8_of_0 rfl rfl ?_
    refine y_getR FX8_10 dX8_of_1 rfl h8 hx0 ?_
    refine y_getR FX8_79 dX8_of_4 rfl hs.o hs.f0 ?_
    refine z_astore_n dX8_of_7 rfl (Nat.le_of_ble_eq_true rfl) ?_
    refine z_aload_n dX8_of_8 rfl rfl ?_
    refine y_getR FX8_82 dX8_of_9 rfl hw.1 hw.2.1 ?_
    refine z_iload_n dX8_of_12 rfl rfl ?_
    refine y_callV (as := [_]) CX4_has LX8_140 IX4_has VX4_has ⟨rfl, Nat.le_of_ble_eq_true rfl⟩ dX8_of_13 hw.2.2.1.1 rfl (Nat.le_of_ble_eq_true rfl) (Nat.le_of_ble_eq_true rfl) (by omega) (s_has (k := 11) (w := 3) (ms := 5) (by exact hw.2.2.1) hv.2.2.2.1 _) (rok_z bI_01) ⟨Nat.le_refl _, Nat.le_refl _, hN, hS⟩ ?_
    refine z_if_eq dX8_of_16 rfl (fun _ => ?_) (fun c => absurd (bI_eq0.mpr hin) c)
    refine z_bipush (v := -2) dX8_of_28 (by decide) ?_
    refine z_iret dX8_of_30 ?_
    exact hQ

