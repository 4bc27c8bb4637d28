/-! of: the reference; ofFact, word, of: the class (walks by program: wip/whole/gen67.py) -/
theorem lsw_o {x : Int} (h3 : ¬ x = 3) (h4 : ¬ x = 4) : Op.lookupswitch.offset #[(3, 28), (4, 34)].toList 40 x = 40 := by
  have g3 : ¬ (3 : Int) = x := fun q => h3 q.symm
  have g4 : ¬ (4 : Int) = x := fun q => h4 q.symm
  simp [Op.lookupswitch.offset, h3, h4, g3, g4]

theorem R_of {s : Ms} {h : Hp} {d : Nat} (hr : RM s h) (hv : IC s.1) (hp : IP s.1) (hq : IQ s.1) (hf : IFc s.1) (hW : IW (s.1 0) (snap s.1)) (hT : s.1 3 ≠ 0 → TXV s.2.2.2.2.2.2 (s.1 3 - 1)) (p0 w : Int32) (hd : 6 ≤ d) : ∃ h1, Sp d mX9_of [.ref 488, .int p0, .int w] h (some (.int (mOf s.2.2.2.2.2.2 s.1 p0 w))) h1 ∧ FY h h1 := by
  have hm := hr.m
  have v0 := hv.1
  have v1 := hv.2.1
  have v2 := hv.2.2.1
  have v3 := hv.2.2.2.1
  have v10 := hv.2.2.2.2.2.2.2.2.2.2.1
  have v11 := hv.2.2.2.2.2.2.2.2.2.2.2.1
  have hrn : RN (uns s.1 (snap s.1), s.2) h := hr.un.n.1
  have e0 : pI h 489 0 = nI (s.1 0) := hr.at (by omega) (by omega)
  have e1 : pI h 489 1 = nI (s.1 1) := hr.at (by omega) (by omega)
  have e11 : pI h 489 11 = nI (s.1 11) := hr.at (by omega) (by omega)
  unfold mOf
  by_cases hin : vin p0 (s.1 1)
  · by_cases hw : inr w 0 4
    · rw [if_pos ⟨hin, hw⟩]
      obtain ⟨p, hp1, rfl⟩ := vin_of (by omega) hin
      obtain ⟨j, hj, rfl⟩ := inr_of (n := 4) (by omega) hw
      rw [nn_nI (by omega), nn_nI (by omega)]
      rcases (show j = 0 ∨ j = 1 ∨ j = 2 ∨ j = 3 ∨ j = 4 by omega) with rfl | rfl | rfl | rfl | rfl
      · refine ⟨h, ?_, FY.rf⟩
        intro N S Q hN hS hQ
        refine z_aload_n dX9_of_0 rfl rfl ?_
        refine z_iload_n dX9_of_1 rfl rfl ?_
        refine y_callV (as := [_]) CX9_isProphet LX9_365 IX9_isProphet VX9_isProphet ⟨rfl, Nat.le_of_ble_eq_true rfl⟩ dX9_of_2 hm.o rfl (Nat.le_of_ble_eq_true rfl) (Nat.le_of_ble_eq_true rfl) (by omega) (r_isProphet (d := 1) (by exact (by exact hm)) e1 (by omega) _ (Nat.le_refl _)) (rok_z bI_01) ⟨Nat.le_refl _, Nat.le_refl _, hN, hS⟩ ?_
        refine z_if_ne dX9_of_5 rfl (fun _ => ?_) (fun c => absurd c (bI_ne0.mpr hin))
        refine z_iload_n dX9_of_11 rfl rfl ?_
        refine z_lookup (off := 40) (tgt := 52) dX9_of_12 (by decide) (rfl) rfl ?_
        refine z_iload_n dX9_of_52 rfl rfl ?_
        refine z_iconst (v := 0) dX9_of_53 (by decide) ?_
        refine z_iconst (v := 2) dX9_of_54 (by decide) ?_
        refine y_callS (as := [_, _, _]) CX9_isIn LX9_63 SX9_isIn dX9_of_55 rfl (Nat.le_of_ble_eq_true rfl) (Nat.le_of_ble_eq_true rfl) (by omega) (r_isIn _ _ _) (rok_z bI_01) ⟨Nat.le_refl _, Nat.le_refl _, hN, hS⟩ ?_
        refine z_if_eq dX9_of_58 rfl (fun c => absurd c (bI_ne0.mpr (by decide))) (fun _ => ?_)
        refine z_aload_n dX9_of_61 rfl rfl ?_
        refine z_iload_n dX9_of_62 rfl rfl ?_
        refine z_iload_n dX9_of_63 rfl rfl ?_
        refine y_callV (as := [_, _]) CX9_get LX9_87 IX9_get VX9_get ⟨rfl, Nat.le_of_ble_eq_true rfl⟩ dX9_of_64 hm.o rfl (Nat.le_of_ble_eq_true rfl) (Nat.le_of_ble_eq_true rfl) (by omega) (r_get (j := p) (w := 0) (by exact (by exact hm)) (by omega) (by omega)) rok_i ⟨Nat.le_refl _, Nat.le_refl _, hN, hS⟩ ?_
        refine z_eqi (show _ = nI (s.1 (13 + 5 * p + 0)) from hr.at (by omega) (by omega)) ?_
        refine z_goto dX9_of_67 rfl ?_
        refine z_iret dX9_of_72 ?_
        exact hQ
      · refine ⟨h, ?_, FY.rf⟩
        intro N S Q hN hS hQ
        refine z_aload_n dX9_of_0 rfl rfl ?_
        refine z_iload_n dX9_of_1 rfl rfl ?_
        refine y_callV (as := [_]) CX9_isProphet LX9_365 IX9_isProphet VX9_isProphet ⟨rfl, Nat.le_of_ble_eq_true rfl⟩ dX9_of_2 hm.o rfl (Nat.le_of_ble_eq_true rfl) (Nat.le_of_ble_eq_true rfl) (by omega) (r_isProphet (d := 1) (by exact (by exact hm)) e1 (by omega) _ (Nat.le_refl _)) (rok_z bI_01) ⟨Nat.le_refl _, Nat.le_refl _, hN, hS⟩ ?_
        refine z_if_ne dX9_of_5 rfl (fun _ => ?_) (fun c => absurd c (bI_ne0.mpr hin))
        refine z_iload_n dX9_of_11 rfl rfl ?_
        refine z_lookup (off := 40) (tgt := 52) dX9_of_12 (by decide) (rfl) rfl ?_
        refine z_iload_n dX9_of_52 rfl rfl ?_
        refine z_iconst (v := 0) dX9_of_53 (by decide) ?_
        refine z_iconst (v := 2) dX9_of_54 (by decide) ?_
        refine y_callS (as := [_, _, _]) CX9_isIn LX9_63 SX9_isIn dX9_of_55 rfl (Nat.le_of_ble_eq_true rfl) (Nat.le_of_ble_eq_true rfl) (by omega) (r_isIn _ _ _) (rok_z bI_01) ⟨Nat.le_refl _, Nat.le_refl _, hN, hS⟩ ?_
        refine z_if_eq dX9_of_58 rfl (fun c => absurd c (bI_ne0.mpr (by decide))) (fun _ => ?_)
        refine z_aload_n dX9_of_61 rfl rfl ?_
        refine z_iload_n dX9_of_62 rfl rfl ?_
        refine z_iload_n dX9_of_63 rfl rfl ?_
        refine y_callV (as := [_, _]) CX9_get LX9_87 IX9_get VX9_get ⟨rfl, Nat.le_of_ble_eq_true rfl⟩ dX9_of_64 hm.o rfl (Nat.le_of_ble_eq_true rfl) (Nat.le_of_ble_eq_true rfl) (by omega) (r_get (j := p) (w := 1) (by exact (by exact hm)) (by omega) (by omega)) rok_i ⟨Nat.le_refl _, Nat.le_refl _, hN, hS⟩ ?_
        refine z_eqi (show _ = nI (s.1 (13 + 5 * p + 1)) from hr.at (by omega) (by omega)) ?_
        refine z_goto dX9_of_67 rfl ?_
        refine z_iret dX9_of_72 ?_
        exact hQ
      · refine ⟨h, ?_, FY.rf⟩
        intro N S Q hN hS hQ
        refine z_aload_n dX9_of_0 rfl rfl ?_
        refine z_iload_n dX9_of_1 rfl rfl ?_
        refine y_callV (as := [_]) CX9_isProphet LX9_365 IX9_isProphet VX9_isProphet ⟨rfl, Nat.le_of_ble_eq_true rfl⟩ dX9_of_2 hm.o rfl (Nat.le_of_ble_eq_true rfl) (Nat.le_of_ble_eq_true rfl) (by omega) (r_isProphet (d := 1) (by exact (by exact hm)) e1 (by omega) _ (Nat.le_refl _)) (rok_z bI_01) ⟨Nat.le_refl _, Nat.le_refl _, hN, hS⟩ ?_
        refine z_if_ne dX9_of_5 rfl (fun _ => ?_) (fun c => absurd c (bI_ne0.mpr hin))
        refine z_iload_n dX9_of_11 rfl rfl ?_
        refine z_lookup (off := 40) (tgt := 52) dX9_of_12 (by decide) (rfl) rfl ?_
        refine z_iload_n dX9_of_52 rfl rfl ?_
        refine z_iconst (v := 0) dX9_of_53 (by decide) ?_
        refine z_iconst (v := 2) dX9_of_54 (by decide) ?_
        refine y_callS (as := [_, _, _]) CX9_isIn LX9_63 SX9_isIn dX9_of_55 rfl (Nat.le_of_ble_eq_true rfl) (Nat.le_of_ble_eq_true rfl) (by omega) (r_isIn _ _ _) (rok_z bI_01) ⟨Nat.le_refl _, Nat.le_refl _, hN, hS⟩ ?_
        refine z_if_eq dX9_of_58 rfl (fun c => absurd c (bI_ne0.mpr (by decide))) (fun _ => ?_)
        refine z_aload_n dX9_of_61 rfl rfl ?_
        refine z_iload_n dX9_of_62 rfl rfl ?_
        refine z_iload_n dX9_of_63 rfl rfl ?_
        refine y_callV (as := [_, _]) CX9_get LX9_87 IX9_get VX9_get ⟨rfl, Nat.le_of_ble_eq_true rfl⟩ dX9_of_64 hm.o rfl (Nat.le_of_ble_eq_true rfl) (Nat.le_of_ble_eq_true rfl) (by omega) (r_get (j := p) (w := 2) (by exact (by exact hm)) (by omega) (by omega)) rok_i ⟨Nat.le_refl _, Nat.le_refl _, hN, hS⟩ ?_
        refine z_eqi (show _ = nI (s.1 (13 + 5 * p + 2)) from hr.at (by omega) (by omega)) ?_
        refine z_goto dX9_of_67 rfl ?_
        refine z_iret dX9_of_72 ?_
        exact hQ
      · refine ⟨h, ?_, FY.rf⟩
        intro N S Q hN hS hQ
        refine z_aload_n dX9_of_0 rfl rfl ?_
        refine z_iload_n dX9_of_1 rfl rfl ?_
        refine y_callV (as := [_]) CX9_isProphet LX9_365 IX9_isProphet VX9_isProphet ⟨rfl, Nat.le_of_ble_eq_true rfl⟩ dX9_of_2 hm.o rfl (Nat.le_of_ble_eq_true rfl) (Nat.le_of_ble_eq_true rfl) (by omega) (r_isProphet (d := 1) (by exact (by exact hm)) e1 (by omega) _ (Nat.le_refl _)) (rok_z bI_01) ⟨Nat.le_refl _, Nat.le_refl _, hN, hS⟩ ?_
        refine z_if_ne dX9_of_5 rfl (fun _ => ?_) (fun c => absurd c (bI_ne0.mpr hin))
        refine z_iload_n dX9_of_11 rfl rfl ?_
        refine z_lookup (off := 28) (tgt := 40) dX9_of_12 (by decide) (rfl) rfl ?_
        refine z_aload_n dX9_of_40 rfl rfl ?_
        refine z_iload_n dX9_of_41 rfl rfl ?_
        refine y_callV (as := [_]) CX9_openOf LX9_425 IX9_openOf VX9_openOf ⟨rfl, Nat.le_of_ble_eq_true rfl⟩ dX9_of_42 hm.o rfl (Nat.le_of_ble_eq_true rfl) (Nat.le_of_ble_eq_true rfl) (by omega) (r_openOf (d := 3) (p := p) hr hv hp hq (by omega) (Nat.le_refl _)) rok_i ⟨Nat.le_refl _, Nat.le_refl _, hN, hS⟩ ?_
        refine z_iret dX9_of_45 ?_
        exact hQ
      · obtain ⟨g, r1, r2⟩ := r_owesOf (d := 5) (p := p) hr hv hp hq hf hW hT (by omega) (Nat.le_refl _)
        refine ⟨g, ?_, r2⟩
        intro N S Q hN hS hQ
        have hN : pn h ≤ N := by rw [← r2.1.n]; exact hN
        have hS : ps h ≤ S := by rw [← r2.1.s]; exact hS
        refine z_aload_n dX9_of_0 rfl rfl ?_
        refine z_iload_n dX9_of_1 rfl rfl ?_
        refine y_callV (as := [_]) CX9_isProphet LX9_365 IX9_isProphet VX9_isProphet ⟨rfl, Nat.le_of_ble_eq_true rfl⟩ dX9_of_2 hm.o rfl (Nat.le_of_ble_eq_true rfl) (Nat.le_of_ble_eq_true rfl) (by omega) (r_isProphet (d := 1) (by exact (by exact hm)) e1 (by omega) _ (Nat.le_refl _)) (rok_z bI_01) ⟨Nat.le_refl _, Nat.le_refl _, hN, hS⟩ ?_
        refine z_if_ne dX9_of_5 rfl (fun _ => ?_) (fun c => absurd c (bI_ne0.mpr hin))
        refine z_iload_n dX9_of_11 rfl rfl ?_
        refine z_lookup (off := 34) (tgt := 46) dX9_of_12 (by decide) (rfl) rfl ?_
        refine z_aload_n dX9_of_46 rfl rfl ?_
        refine z_iload_n dX9_of_47 rfl rfl ?_
        refine y_callV (as := [_]) CX9_owesOf LX9_428 IX9_owesOf VX9_owesOf ⟨rfl, Nat.le_of_ble_eq_true rfl⟩ dX9_of_48 hm.o rfl (Nat.le_of_ble_eq_true rfl) (Nat.le_of_ble_eq_true rfl) (by omega) r1 rok_i (hg_ss r2.1 hN hS) ?_
        refine z_iret dX9_of_51 ?_
        exact hQ
    · rw [if_neg (fun q => hw q.2)]
      refine ⟨h, ?_, FY.rf⟩
      intro N S Q hN hS hQ
      have n3 : ¬ w.toInt = 3 := fun q => hw (by rw [show w = 3 from Int32.toInt_inj.mp q]; decide)
      have n4 : ¬ w.toInt = 4 := fun q => hw (by rw [show w = 4 from Int32.toInt_inj.mp q]; decide)
      refine z_aload_n dX9_of_0 rfl rfl ?_
      refine z_iload_n dX9_of_1 rfl rfl ?_
      refine y_callV (as := [_]) CX9_isProphet LX9_365 IX9_isProphet VX9_isProphet ⟨rfl, Nat.le_of_ble_eq_true rfl⟩ dX9_of_2 hm.o rfl (Nat.le_of_ble_eq_true rfl) (Nat.le_of_ble_eq_true rfl) (by omega) (r_isProphet (d := 1) (by exact (by exact hm)) e1 (by omega) _ (Nat.le_refl _)) (rok_z bI_01) ⟨Nat.le_refl _, Nat.le_refl _, hN, hS⟩ ?_
      refine z_if_ne dX9_of_5 rfl (fun _ => ?_) (fun c => absurd c (bI_ne0.mpr hin))
      refine z_iload_n dX9_of_11 rfl rfl ?_
      refine z_lookup (off := 40) (tgt := 52) dX9_of_12 (by decide) (lsw_o n3 n4) rfl ?_
      refine z_iload_n dX9_of_52 rfl rfl ?_
      refine z_iconst (v := 0) dX9_of_53 (by decide) ?_
      refine z_iconst (v := 2) dX9_of_54 (by decide) ?_
      refine y_callS (as := [_, _, _]) CX9_isIn LX9_63 SX9_isIn dX9_of_55 rfl (Nat.le_of_ble_eq_true rfl) (Nat.le_of_ble_eq_true rfl) (by omega) (r_isIn _ _ _) (rok_z bI_01) ⟨Nat.le_refl _, Nat.le_refl _, hN, hS⟩ ?_
      refine z_if_eq dX9_of_58 rfl (fun _ => ?_) (fun c => absurd (bI_eq0.mpr (fun q => hw ⟨q.1, Int32.le_trans q.2 (by decide)⟩)) c)
      refine z_bipush (v := -2) dX9_of_70 (by decide) ?_
      refine z_iret dX9_of_72 ?_
      exact hQ
  · rw [if_neg (fun q => hin q.1)]
    refine ⟨h, ?_, FY.rf⟩
    intro N S Q hN hS hQ
    refine z_aload_n dX9_of_0 rfl rfl ?_
    refine z_iload_n dX9_of_1 rfl rfl ?_
    refine y_callV (as := [_]) CX9_isProphet LX9_365 IX9_isProphet VX9_isProphet ⟨rfl, Nat.le_of_ble_eq_true rfl⟩ dX9_of_2 hm.o rfl (Nat.le_of_ble_eq_true rfl) (Nat.le_of_ble_eq_true rfl) (by omega) (r_isProphet (d := 1) (by exact (by exact hm)) e1 (by omega) _ (Nat.le_refl _)) (rok_z bI_01) ⟨Nat.le_refl _, Nat.le_refl _, hN, hS⟩ ?_
    refine z_if_ne dX9_of_5 rfl (fun c => absurd (bI_eq0.mpr hin) c) (fun _ => ?_)
    refine z_bipush (v := -2) dX9_of_8 (by decide) ?_
    refine z_iret dX9_of_10 ?_
    exact hQ

