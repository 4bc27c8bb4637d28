/-! the reference: what is told, what is (walks by program: wip/whole/gen19.py) -/
/-- the counts are in their bounds -/
def IC (a : Fl) : Prop := a 0 ≤ 8 ∧ a 1 ≤ 5 ∧ a 2 ≤ 4 ∧ a 3 ≤ a 2 ∧ a 4 ≤ 30 ∧ a 5 ≤ 8 ∧ a 6 ≤ 8 ∧ a 7 ≤ 8 ∧ a 8 ≤ 9999 ∧ a 9 < 30553 ∧ a 10 < 256 ∧ a 11 ≤ 12 ∧ a 12 ≤ 30
def mFact (a : Fl) (o c : Int32) : Int32 × Fl := if inr o 0 10 ∧ inr c 0 99 ∧ a 0 < 8 then (nI (a 0), up (up (up a (110 + 2 * a 0) (nn o)) (110 + 2 * a 0 + 1) (nn c)) 0 (a 0 + 1)) else (-1, a)

theorem R_fact {s : Ms} {h : Hp} {d : Nat} (hr : RM s h) (hv : IC s.1) (o c : Int32) (hd : 1 ≤ d) : ∃ h1, Sp d mX9_fact [.ref 488, .int o, .int c] h (some (.int (mFact s.1 o c).1)) h1 ∧ RM ((mFact s.1 o c).2, s.2) h1 ∧ FM h h1 := by
  have hm := hr.m
  have e0 : pI h 489 0 = nI (s.1 0) := hr.at (by omega) (by omega)
  obtain ⟨v0, -⟩ := hv
  generalize hnf : s.1 0 = nf at *
  by_cases hc : inr o 0 10 ∧ inr c 0 99 ∧ nf < 8
  · obtain ⟨o', ho, rfl⟩ := inr_of (n := 10) (by omega) hc.1
    obtain ⟨c', hc', rfl⟩ := inr_of (n := 99) (by omega) hc.2.1
    have hf : mFact s.1 (nI o') (nI c') = (nI nf, up (up (up s.1 (110 + 2 * nf) o') (110 + 2 * nf + 1) c') 0 (nf + 1)) := by
      unfold mFact
      rw [hnf, if_pos hc, nn_nI (by omega), nn_nI (by omega)]
    rw [hf]
    refine ⟨sI (sI (sI h 489 (110 + 2 * nf) (nI o')) 489 (110 + 2 * nf + 1) (nI c')) 489 0 (nI nf + 1), ?_, ?_, ((FM.rf.sI (by omega)).sI (by omega)).sI (by omega)⟩
    · intro N S Q hN hS hQ
      refine z_iload_n dX9_fact_0 rfl rfl ?_
      refine z_iconst (v := 0) dX9_fact_1 (by decide) ?_
      refine z_bipush (v := 10) dX9_fact_2 (by decide) ?_
      refine y_callS (as := [_, _, _]) CX9_isIn LX9_63 SX9_isIn dX9_fact_4 rfl (Nat.le_of_ble_eq_true rfl) (Nat.le_of_ble_eq_true rfl) (by omega) (r_isIn _ _ _) (rok_z bI_01) ⟨Nat.le_refl _, Nat.le_refl _, hN, hS⟩ ?_
      refine z_if_eq dX9_fact_7 rfl (fun c => absurd c (bI_ne0.mpr hc.1)) (fun _ => ?_)
      refine z_iload_n dX9_fact_10 rfl rfl ?_
      refine z_iconst (v := 0) dX9_fact_11 (by decide) ?_
      refine z_bipush (v := 99) dX9_fact_12 (by decide) ?_
      refine y_callS (as := [_, _, _]) CX9_isIn LX9_63 SX9_isIn dX9_fact_14 rfl (Nat.le_of_ble_eq_true rfl) (Nat.le_of_ble_eq_true rfl) (by omega) (r_isIn _ _ _) (rok_z bI_01) ⟨Nat.le_refl _, Nat.le_refl _, hN, hS⟩ ?_
      refine z_if_eq dX9_fact_17 rfl (fun c => absurd c (bI_ne0.mpr hc.2.1)) (fun _ => ?_)
      refine z_aload_n dX9_fact_20 rfl rfl ?_
      refine y_getR FX9_7 dX9_fact_21 rfl hm.o hm.f_a ?_
      refine z_iconst (v := 0) dX9_fact_24 (by decide) ?_
      refine y_ialN (0) dX9_fact_25 hm.A_a (Nat.le_of_ble_eq_true rfl) (by first | rfl | (simp only [← nI_add, ← pk_mul]; rfl)) (by omega) ?_
      refine z_eqi (y := nI (nf)) (by (repeat rw [pI_sI, if_pos rfl, if_neg (by omega)]); exact e0) ?_
      refine z_bipush (v := 8) dX9_fact_26 (by decide) ?_
      refine z_icmp_ne dX9_fact_28 rfl (fun _ => ?_) (fun c => absurd c (by rw [show (8 : Int32) = nI 8 from rfl, nI_eq (by omega) (by omega)]; omega))
      refine z_aload_n dX9_fact_33 rfl rfl ?_
      refine y_getR FX9_7 dX9_fact_34 rfl hm.o hm.f_a ?_
      refine z_bipush (v := 110) dX9_fact_37 (by decide) ?_
      refine z_iconst (v := 2) dX9_fact_39 (by decide) ?_
      refine z_aload_n dX9_fact_40 rfl rfl ?_
      refine y_getR FX9_7 dX9_fact_41 rfl hm.o hm.f_a ?_
      refine z_iconst (v := 0) dX9_fact_44 (by decide) ?_
      refine y_ialN (0) dX9_fact_45 hm.A_a (Nat.le_of_ble_eq_true rfl) (by first | rfl | (simp only [← nI_add, ← pk_mul]; rfl)) (by omega) ?_
      refine z_eqi (y := nI (nf)) (by (repeat rw [pI_sI, if_pos rfl, if_neg (by omega)]); exact e0) ?_
      refine z_imul dX9_fact_46 ?_
      refine z_iadd dX9_fact_47 ?_
      refine z_iload_n dX9_fact_48 rfl rfl ?_
      refine y_iasN (110 + (2 * nf)) dX9_fact_49 hm.A_a (Nat.le_of_ble_eq_true rfl) (by first | rfl | (simp only [← nI_add, ← pk_mul]; rfl)) (by omega) ?_
      refine z_aload_n dX9_fact_50 rfl rfl ?_
      refine y_getR FX9_7 dX9_fact_51 rfl hm.o hm.f_a ?_
      refine z_bipush (v := 110) dX9_fact_54 (by decide) ?_
      refine z_iconst (v := 2) dX9_fact_56 (by decide) ?_
      refine z_aload_n dX9_fact_57 rfl rfl ?_
      refine y_getR FX9_7 dX9_fact_58 rfl hm.o hm.f_a ?_
      refine z_iconst (v := 0) dX9_fact_61 (by decide) ?_
      refine y_ialN (0) dX9_fact_62 hm.A_a (Nat.le_of_ble_eq_true rfl) (by first | rfl | (simp only [← nI_add, ← pk_mul]; rfl)) (by omega) ?_
      refine z_eqi (y := nI (nf)) (by (repeat rw [pI_sI, if_pos rfl, if_neg (by omega)]); exact e0) ?_
      refine z_imul dX9_fact_63 ?_
      refine z_iadd dX9_fact_64 ?_
      refine z_iconst (v := 1) dX9_fact_65 (by decide) ?_
      refine z_iadd dX9_fact_66 ?_
      refine z_iload_n dX9_fact_67 rfl rfl ?_
      refine y_iasN (110 + (2 * nf) + 1) dX9_fact_68 hm.A_a (Nat.le_of_ble_eq_true rfl) (by first | rfl | (simp only [← nI_add, ← pk_mul]; rfl)) (by omega) ?_
      refine z_aload_n dX9_fact_69 rfl rfl ?_
      refine y_getR FX9_7 dX9_fact_70 rfl hm.o hm.f_a ?_
      refine z_iconst (v := 0) dX9_fact_73 (by decide) ?_
      refine z_dup2_11 dX9_fact_74 rfl rfl ?_
      refine y_ialN (0) dX9_fact_75 hm.A_a (Nat.le_of_ble_eq_true rfl) (by first | rfl | (simp only [← nI_add, ← pk_mul]; rfl)) (by omega) ?_
      refine z_eqi (y := nI (nf)) (by (repeat rw [pI_sI, if_pos rfl, if_neg (by omega)]); exact e0) ?_
      refine z_iconst (v := 1) dX9_fact_76 (by decide) ?_
      refine z_iadd dX9_fact_77 ?_
      refine y_iasN (0) dX9_fact_78 hm.A_a (Nat.le_of_ble_eq_true rfl) (by first | rfl | (simp only [← nI_add, ← pk_mul]; rfl)) (by omega) ?_
      refine z_aload_n dX9_fact_79 rfl rfl ?_
      refine y_getR FX9_7 dX9_fact_80 rfl hm.o hm.f_a ?_
      refine z_iconst (v := 0) dX9_fact_83 (by decide) ?_
      refine y_ialN (0) dX9_fact_84 hm.A_a (Nat.le_of_ble_eq_true rfl) (rfl) (by omega) ?_
      refine z_eqi (show _ = nI nf + 1 by rw [pI_sI, if_pos rfl, if_pos rfl]) ?_
      refine z_iconst (v := 1) dX9_fact_85 (by decide) ?_
      refine z_isub dX9_fact_86 ?_
      refine z_iret dX9_fact_87 ?_
      rw [show nI nf + 1 - 1 = nI nf by rw [nI_1, nI_pred]]
      exact hQ
    · exact ((hr.aN (i := 110 + 2 * nf) (v := o') (by omega) rfl).aN (i := 110 + 2 * nf + 1) (v := c') (by omega) rfl).aN (i := 0) (v := nf + 1) (by omega) (nI_1 nf)
  · have hf : mFact s.1 o c = (-1, s.1) := by
      unfold mFact
      rw [hnf, if_neg hc]
    rw [hf]
    refine ⟨h, ?_, hr, FM.rf⟩
    intro N S Q hN hS hQ
    refine z_iload_n dX9_fact_0 rfl rfl ?_
    refine z_iconst (v := 0) dX9_fact_1 (by decide) ?_
    refine z_bipush (v := 10) dX9_fact_2 (by decide) ?_
    refine y_callS (as := [_, _, _]) CX9_isIn LX9_63 SX9_isIn dX9_fact_4 rfl (Nat.le_of_ble_eq_true rfl) (Nat.le_of_ble_eq_true rfl) (by omega) (r_isIn _ _ _) (rok_z bI_01) ⟨Nat.le_refl _, Nat.le_refl _, hN, hS⟩ ?_
    refine z_if_eq dX9_fact_7 rfl (fun c7 => ?_) (fun c7 => ?_)
    · -- to 31
      refine z_iconst (v := -1) dX9_fact_31 (by decide) ?_
      refine z_iret dX9_fact_32 ?_
      exact hQ
    · -- on
      refine z_iload_n dX9_fact_10 rfl rfl ?_
      refine z_iconst (v := 0) dX9_fact_11 (by decide) ?_
      refine z_bipush (v := 99) dX9_fact_12 (by decide) ?_
      refine y_callS (as := [_, _, _]) CX9_isIn LX9_63 SX9_isIn dX9_fact_14 rfl (Nat.le_of_ble_eq_true rfl) (Nat.le_of_ble_eq_true rfl) (by omega) (r_isIn _ _ _) (rok_z bI_01) ⟨Nat.le_refl _, Nat.le_refl _, hN, hS⟩ ?_
      refine z_if_eq dX9_fact_17 rfl (fun c17 => ?_) (fun c17 => ?_)
      · -- to 31
        refine z_iconst (v := -1) dX9_fact_31 (by decide) ?_
        refine z_iret dX9_fact_32 ?_
        exact hQ
      · -- on
        refine z_aload_n dX9_fact_20 rfl rfl ?_
        refine y_getR FX9_7 dX9_fact_21 rfl hm.o hm.f_a ?_
        refine z_iconst (v := 0) dX9_fact_24 (by decide) ?_
        refine y_ialN (0) dX9_fact_25 hm.A_a (Nat.le_of_ble_eq_true rfl) (by first | rfl | (simp only [← nI_add, ← pk_mul]; rfl)) (by omega) ?_
        refine z_eqi (y := nI (nf)) (by (repeat rw [pI_sI, if_pos rfl, if_neg (by omega)]); exact e0) ?_
        refine z_bipush (v := 8) dX9_fact_26 (by decide) ?_
        refine z_icmp_ne dX9_fact_28 rfl (fun c28 => ?_) (fun c28 => ?_)
        · -- to 33
          refine absurd ⟨bI_ne0.mp c7, bI_ne0.mp c17, ?_⟩ hc
          have : ¬ nf = 8 := fun q => c28 (by rw [q]; rfl)
          omega
        · -- on
          refine z_iconst (v := -1) dX9_fact_31 (by decide) ?_
          refine z_iret dX9_fact_32 ?_
          exact hQ
theorem r_begin {h : Hp} {d : Nat} (hm : SM h) {j : Nat} (hj : j < 5) (hd : 1 ≤ d) : Sp d mX9_begin [.ref 488, .int (nI j)] h none (sI (sI (sI h 489 (13 + 5 * j + 0) (pI h 489 (13 + 5 * j + 3))) 489 (13 + 5 * j + 1) (pI h 489 (13 + 5 * j + 4))) 489 (13 + 5 * j + 2) 0) := by
  intro N S Q hN hS hQ
  refine z_aload_n dX9_begin_0 rfl rfl ?_
  refine z_iload_n dX9_begin_1 rfl rfl ?_
  refine z_iconst (v := 0) dX9_begin_2 (by decide) ?_
  refine z_aload_n dX9_begin_3 rfl rfl ?_
  refine z_iload_n dX9_begin_4 rfl rfl ?_
  refine z_iconst (v := 3) dX9_begin_5 (by decide) ?_
  refine y_callV (as := [_, _]) CX9_get LX9_87 IX9_get VX9_get ⟨rfl, Nat.le_of_ble_eq_true rfl⟩ dX9_begin_6 hm.o rfl (Nat.le_of_ble_eq_true rfl) (Nat.le_of_ble_eq_true rfl) (by omega) (r_get (w := 3) (by exact hm) hj (Nat.le_of_ble_eq_true rfl)) rok_i ⟨Nat.le_refl _, Nat.le_refl _, hN, hS⟩ ?_
  refine y_callV (as := [_, _, _]) CX9_put LX9_79 IX9_put VX9_put ⟨rfl, Nat.le_of_ble_eq_true rfl⟩ dX9_begin_9 hm.o rfl (Nat.le_of_ble_eq_true rfl) (Nat.le_of_ble_eq_true rfl) (by omega) (r_put (w := 0) (by exact hm) hj (Nat.le_of_ble_eq_true rfl)) rok_v ⟨Nat.le_refl _, Nat.le_refl _, hN, hS⟩ ?_
  refine z_aload_n dX9_begin_12 rfl rfl ?_
  refine z_iload_n dX9_begin_13 rfl rfl ?_
  refine z_iconst (v := 1) dX9_begin_14 (by decide) ?_
  refine z_aload_n dX9_begin_15 rfl rfl ?_
  refine z_iload_n dX9_begin_16 rfl rfl ?_
  refine z_iconst (v := 4) dX9_begin_17 (by decide) ?_
  refine y_callV (as := [_, _]) CX9_get LX9_87 IX9_get VX9_get ⟨rfl, Nat.le_of_ble_eq_true rfl⟩ dX9_begin_18 hm.o rfl (Nat.le_of_ble_eq_true rfl) (Nat.le_of_ble_eq_true rfl) (by omega) (r_get (w := 4) (by exact hm) hj (Nat.le_of_ble_eq_true rfl)) rok_i ⟨Nat.le_refl _, Nat.le_refl _, hN, hS⟩ ?_
  refine z_eqi (show _ = pI h 489 (13 + 5 * j + 4) by rw [pI_sI, if_pos rfl, if_neg (by omega)]) ?_
  refine y_callV (as := [_, _, _]) CX9_put LX9_79 IX9_put VX9_put ⟨rfl, Nat.le_of_ble_eq_true rfl⟩ dX9_begin_21 hm.o rfl (Nat.le_of_ble_eq_true rfl) (Nat.le_of_ble_eq_true rfl) (by omega) (r_put (w := 1) (by exact hm) hj (Nat.le_of_ble_eq_true rfl)) rok_v ⟨Nat.le_refl _, Nat.le_refl _, hN, hS⟩ ?_
  refine z_aload_n dX9_begin_24 rfl rfl ?_
  refine z_iload_n dX9_begin_25 rfl rfl ?_
  refine z_iconst (v := 2) dX9_begin_26 (by decide) ?_
  refine z_iconst (v := 0) dX9_begin_27 (by decide) ?_
  refine y_callV (as := [_, _, _]) CX9_put LX9_79 IX9_put VX9_put ⟨rfl, Nat.le_of_ble_eq_true rfl⟩ dX9_begin_28 hm.o rfl (Nat.le_of_ble_eq_true rfl) (Nat.le_of_ble_eq_true rfl) (by omega) (r_put (w := 2) (by exact hm) hj (Nat.le_of_ble_eq_true rfl)) rok_v ⟨Nat.le_refl _, Nat.le_refl _, hN, hS⟩ ?_
  refine z_vret dX9_begin_31 ?_
  exact hQ

def mProphet (a : Fl) (u f : Int32) : Int32 × Fl := if inr u 0 9999 ∧ inr f 0 99 ∧ a 1 < 5 then (nI (a 1), up (up (up (up (up (up a (13 + 5 * a 1 + 3) (nn u)) (13 + 5 * a 1 + 4) (nn f)) (13 + 5 * a 1 + 0) (nn u)) (13 + 5 * a 1 + 1) (nn f)) (13 + 5 * a 1 + 2) 0) 1 (a 1 + 1)) else (-1, a)

theorem R_prophet {s : Ms} {h : Hp} {d : Nat} (hr : RM s h) (hv : IC s.1) (u f : Int32) (hd : 2 ≤ d) : ∃ h1, Sp d mX9_prophet [.ref 488, .int u, .int f] h (some (.int (mProphet s.1 u f).1)) h1 ∧ RM ((mProphet s.1 u f).2, s.2) h1 ∧ FM h h1 := by
  have hm := hr.m
  have e0 : pI h 489 1 = nI (s.1 1) := hr.at (by omega) (by omega)
  obtain ⟨-, v1, -⟩ := hv
  generalize hnp : s.1 1 = np at *
  by_cases hc : inr u 0 9999 ∧ inr f 0 99 ∧ np < 5
  · obtain ⟨u', hu, rfl⟩ := inr_of (n := 9999) (by omega) hc.1
    obtain ⟨f', hf', rfl⟩ := inr_of (n := 99) (by omega) hc.2.1
    have hf : mProphet s.1 (nI u') (nI f') = (nI np, up (up (up (up (up (up s.1 (13 + 5 * np + 3) u') (13 + 5 * np + 4) f') (13 + 5 * np + 0) u') (13 + 5 * np + 1) f') (13 + 5 * np + 2) 0) 1 (np + 1)) := by
      unfold mProphet
      rw [hnp, if_pos hc, nn_nI (by omega), nn_nI (by omega)]
    rw [hf]
    refine ⟨sI (sI (sI (sI (sI (sI h 489 (13 + 5 * np + 3) (nI u')) 489 (13 + 5 * np + 4) (nI f')) 489 (13 + 5 * np + 0) (nI u')) 489 (13 + 5 * np + 1) (nI f')) 489 (13 + 5 * np + 2) 0) 489 1 (nI np + 1), ?_, ?_, (((((FM.rf.sI (by omega)).sI (by omega)).sI (by omega)).sI (by omega)).sI (by omega)).sI (by omega)⟩
    · intro N S Q hN hS hQ
      have eb : sI (sI (sI (sI (sI h 489 (13 + 5 * np + 3) (nI u')) 489 (13 + 5 * np + 4) (nI f')) 489 (13 + 5 * np + 0) (pI (sI (sI h 489 (13 + 5 * np + 3) (nI u')) 489 (13 + 5 * np + 4) (nI f')) 489 (13 + 5 * np + 3))) 489 (13 + 5 * np + 1) (pI (sI (sI h 489 (13 + 5 * np + 3) (nI u')) 489 (13 + 5 * np + 4) (nI f')) 489 (13 + 5 * np + 4))) 489 (13 + 5 * np + 2) 0 = sI (sI (sI (sI (sI h 489 (13 + 5 * np + 3) (nI u')) 489 (13 + 5 * np + 4) (nI f')) 489 (13 + 5 * np + 0) (nI u')) 489 (13 + 5 * np + 1) (nI f')) 489 (13 + 5 * np + 2) 0 := by
        rw [pI_sI, if_pos rfl, if_neg (by omega), pI_sI, if_pos rfl, if_pos rfl, pI_sI, if_pos rfl, if_pos rfl]
      refine z_iload_n dX9_prophet_0 rfl rfl ?_
      refine z_iconst (v := 0) dX9_prophet_1 (by decide) ?_
      refine z_sipush (v := 9999) dX9_prophet_2 (by decide) ?_
      refine y_callS (as := [_, _, _]) CX9_isIn LX9_63 SX9_isIn dX9_prophet_5 rfl (Nat.le_of_ble_eq_true rfl) (Nat.le_of_ble_eq_true rfl) (by omega) (r_isIn _ _ _) (rok_z bI_01) ⟨Nat.le_refl _, Nat.le_refl _, hN, hS⟩ ?_
      refine z_if_eq dX9_prophet_8 rfl (fun c => absurd c (bI_ne0.mpr hc.1)) (fun _ => ?_)
      refine z_iload_n dX9_prophet_11 rfl rfl ?_
      refine z_iconst (v := 0) dX9_prophet_12 (by decide) ?_
      refine z_bipush (v := 99) dX9_prophet_13 (by decide) ?_
      refine y_callS (as := [_, _, _]) CX9_isIn LX9_63 SX9_isIn dX9_prophet_15 rfl (Nat.le_of_ble_eq_true rfl) (Nat.le_of_ble_eq_true rfl) (by omega) (r_isIn _ _ _) (rok_z bI_01) ⟨Nat.le_refl _, Nat.le_refl _, hN, hS⟩ ?_
      refine z_if_eq dX9_prophet_18 rfl (fun c => absurd c (bI_ne0.mpr hc.2.1)) (fun _ => ?_)
      refine z_aload_n dX9_prophet_21 rfl rfl ?_
      refine y_getR FX9_7 dX9_prophet_22 rfl hm.o hm.f_a ?_
      refine z_iconst (v := 1) dX9_prophet_25 (by decide) ?_
      refine y_ialN (1) dX9_prophet_26 hm.A_a (Nat.le_of_ble_eq_true rfl) (by first | rfl | (simp only [← nI_add, ← pk_mul]; rfl)) (by omega) ?_
      refine z_eqi (y := nI (np)) (by (repeat rw [pI_sI, if_pos rfl, if_neg (by omega)]); exact e0) ?_
      refine z_iconst (v := 5) dX9_prophet_27 (by decide) ?_
      refine z_icmp_ne dX9_prophet_28 rfl (fun _ => ?_) (fun c => absurd c (by rw [show (5 : Int32) = nI 5 from rfl, nI_eq (by omega) (by omega)]; omega))
      refine z_aload_n dX9_prophet_33 rfl rfl ?_
      refine y_getR FX9_7 dX9_prophet_34 rfl hm.o hm.f_a ?_
      refine z_iconst (v := 1) dX9_prophet_37 (by decide) ?_
      refine y_ialN (1) dX9_prophet_38 hm.A_a (Nat.le_of_ble_eq_true rfl) (by first | rfl | (simp only [← nI_add, ← pk_mul]; rfl)) (by omega) ?_
      refine z_eqi (y := nI (np)) (by (repeat rw [pI_sI, if_pos rfl, if_neg (by omega)]); exact e0) ?_
      refine z_istore_n dX9_prophet_39 rfl (Nat.le_of_ble_eq_true rfl) ?_
      refine z_aload_n dX9_prophet_40 rfl rfl ?_
      refine z_iload_n dX9_prophet_41 rfl rfl ?_
      refine z_iconst (v := 3) dX9_prophet_42 (by decide) ?_
      refine z_iload_n dX9_prophet_43 rfl rfl ?_
      refine y_callV (as := [_, _, _]) CX9_put LX9_79 IX9_put VX9_put ⟨rfl, Nat.le_of_ble_eq_true rfl⟩ dX9_prophet_44 hm.o rfl (Nat.le_of_ble_eq_true rfl) (Nat.le_of_ble_eq_true rfl) (by omega) (r_put (by exact hm) (j := np) (by omega) (Nat.le_of_ble_eq_true rfl)) rok_v ⟨Nat.le_refl _, Nat.le_refl _, hN, hS⟩ ?_
      refine z_aload_n dX9_prophet_47 rfl rfl ?_
      refine z_iload_n dX9_prophet_48 rfl rfl ?_
      refine z_iconst (v := 4) dX9_prophet_49 (by decide) ?_
      refine z_iload_n dX9_prophet_50 rfl rfl ?_
      refine y_callV (as := [_, _, _]) CX9_put LX9_79 IX9_put VX9_put ⟨rfl, Nat.le_of_ble_eq_true rfl⟩ dX9_prophet_51 hm.o rfl (Nat.le_of_ble_eq_true rfl) (Nat.le_of_ble_eq_true rfl) (by omega) (r_put (by exact hm) (j := np) (by omega) (Nat.le_of_ble_eq_true rfl)) rok_v ⟨Nat.le_refl _, Nat.le_refl _, hN, hS⟩ ?_
      refine z_aload_n dX9_prophet_54 rfl rfl ?_
      refine z_iload_n dX9_prophet_55 rfl rfl ?_
      refine y_callV (h1 := sI (sI (sI (sI (sI h 489 (13 + 5 * np + 3) (nI u')) 489 (13 + 5 * np + 4) (nI f')) 489 (13 + 5 * np + 0) (nI u')) 489 (13 + 5 * np + 1) (nI f')) 489 (13 + 5 * np + 2) 0) (as := [_]) CX9_begin LX9_83 IX9_begin VX9_begin ⟨rfl, Nat.le_of_ble_eq_true rfl⟩ dX9_prophet_56 hm.o rfl (Nat.le_of_ble_eq_true rfl) (Nat.le_of_ble_eq_true rfl) (by omega) (by rw [← eb]; exact r_begin (d := 1) (by exact hm) (j := np) (by omega) (Nat.le_refl _)) rok_v ⟨Nat.le_refl _, Nat.le_refl _, hN, hS⟩ ?_
      refine z_aload_n dX9_prophet_59 rfl rfl ?_
      refine y_getR FX9_7 dX9_prophet_60 rfl hm.o hm.f_a ?_
      refine z_iconst (v := 1) dX9_prophet_63 (by decide) ?_
      refine z_dup2_11 dX9_prophet_64 rfl rfl ?_
      refine y_ialN (1) dX9_prophet_65 hm.A_a (Nat.le_of_ble_eq_true rfl) (rfl) (by omega) ?_
      refine z_eqi (show _ = nI np by rw [pI_sI, if_pos rfl, if_neg (by omega), pI_sI, if_pos rfl, if_neg (by omega), pI_sI, if_pos rfl, if_neg (by omega), pI_sI, if_pos rfl, if_neg (by omega), pI_sI, if_pos rfl, if_neg (by omega)]; exact e0) ?_
      refine z_iconst (v := 1) dX9_prophet_66 (by decide) ?_
      refine z_iadd dX9_prophet_67 ?_
      refine y_iasN (1) dX9_prophet_68 hm.A_a (Nat.le_of_ble_eq_true rfl) (by first | rfl | (simp only [← nI_add, ← pk_mul]; rfl)) (by omega) ?_
      refine z_iload_n dX9_prophet_69 rfl rfl ?_
      refine z_iret dX9_prophet_70 ?_
      exact hQ
    · exact (((((hr.aN (i := 13 + 5 * np + 3) (v := u') (by omega) rfl).aN (i := 13 + 5 * np + 4) (v := f') (by omega) rfl).aN (i := 13 + 5 * np + 0) (v := u') (by omega) rfl).aN (i := 13 + 5 * np + 1) (v := f') (by omega) rfl).aN (i := 13 + 5 * np + 2) (v := 0) (by omega) rfl).aN (i := 1) (v := np + 1) (by omega) (nI_1 np)
  · have hf : mProphet s.1 u f = (-1, s.1) := by
      unfold mProphet
      rw [hnp, if_neg hc]
    rw [hf]
    refine ⟨h, ?_, hr, FM.rf⟩
    intro N S Q hN hS hQ
    refine z_iload_n dX9_prophet_0 rfl rfl ?_
    refine z_iconst (v := 0) dX9_prophet_1 (by decide) ?_
    refine z_sipush (v := 9999) dX9_prophet_2 (by decide) ?_
    refine y_callS (as := [_, _, _]) CX9_isIn LX9_63 SX9_isIn dX9_prophet_5 rfl (Nat.le_of_ble_eq_true rfl) (Nat.le_of_ble_eq_true rfl) (by omega) (r_isIn _ _ _) (rok_z bI_01) ⟨Nat.le_refl _, Nat.le_refl _, hN, hS⟩ ?_
    refine z_if_eq dX9_prophet_8 rfl (fun c8 => ?_) (fun c8 => ?_)
    · -- to 31
      refine z_iconst (v := -1) dX9_prophet_31 (by decide) ?_
      refine z_iret dX9_prophet_32 ?_
      exact hQ
    · -- on
      refine z_iload_n dX9_prophet_11 rfl rfl ?_
      refine z_iconst (v := 0) dX9_prophet_12 (by decide) ?_
      refine z_bipush (v := 99) dX9_prophet_13 (by decide) ?_
      refine y_callS (as := [_, _, _]) CX9_isIn LX9_63 SX9_isIn dX9_prophet_15 rfl (Nat.le_of_ble_eq_true rfl) (Nat.le_of_ble_eq_true rfl) (by omega) (r_isIn _ _ _) (rok_z bI_01) ⟨Nat.le_refl _, Nat.le_refl _, hN, hS⟩ ?_
      refine z_if_eq dX9_prophet_18 rfl (fun c18 => ?_) (fun c18 => ?_)
      · -- to 31
        refine z_iconst (v := -1) dX9_prophet_31 (by decide) ?_
        refine z_iret dX9_prophet_32 ?_
        exact hQ
      · -- on
        refine z_aload_n dX9_prophet_21 rfl rfl ?_
        refine y_getR FX9_7 dX9_prophet_22 rfl hm.o hm.f_a ?_
        refine z_iconst (v := 1) dX9_prophet_25 (by decide) ?_
        refine y_ialN (1) dX9_prophet_26 hm.A_a (Nat.le_of_ble_eq_true rfl) (by first | rfl | (simp only [← nI_add, ← pk_mul]; rfl)) (by omega) ?_
        refine z_eqi (y := nI (np)) (by (repeat rw [pI_sI, if_pos rfl, if_neg (by omega)]); exact e0) ?_
        refine z_iconst (v := 5) dX9_prophet_27 (by decide) ?_
        refine z_icmp_ne dX9_prophet_28 rfl (fun c28 => ?_) (fun c28 => ?_)
        · -- to 33
          refine absurd ⟨bI_ne0.mp c8, bI_ne0.mp c18, ?_⟩ hc
          have : ¬ np = 5 := fun q => c28 (by rw [q]; rfl)
          omega
        · -- on
          refine z_iconst (v := -1) dX9_prophet_31 (by decide) ?_
          refine z_iret dX9_prophet_32 ?_
          exact hQ
def mIs (a : Fl) (w : Int32) : Int32 := if inr w 0 3 then nI (a (8 + nn w)) else -2
def mAbout (s : Ms) (w : Int32) : Int32 := if inr w 0 7 then cI s.1 (nn w) else if w = 8 then nI s.2.2.2.1 else -2
def mFault (s : Ms) (w : Int32) : Int32 := if w = 0 then s.2.2.2.2.1 else if w = 1 then s.2.2.2.2.2.1 else -1

theorem R_is {s : Ms} {h : Hp} {d : Nat} (hr : RM s h) (w : Int32) (hd : 1 ≤ d) : Sp d mX9_is [.ref 488, .int w] h (some (.int (mIs s.1 w))) h := by
  intro N S Q hN hS hQ
  have hm := hr.m
  by_cases hc : inr w 0 3
  · obtain ⟨w', hw, rfl⟩ := inr_of (n := 3) (by omega) hc
    unfold mIs at hQ
    rw [if_pos hc, nn_nI (by omega), ← hr.at (by omega) (by omega)] at hQ
    refine z_iload_n dX9_is_0 rfl rfl ?_
    refine z_iconst (v := 0) dX9_is_1 (by decide) ?_
    refine z_iconst (v := 3) dX9_is_2 (by decide) ?_
    refine y_callS (as := [_, _, _]) CX9_isIn LX9_63 SX9_isIn dX9_is_3 rfl (Nat.le_of_ble_eq_true rfl) (Nat.le_of_ble_eq_true rfl) (by omega) (r_isIn _ _ _) (rok_z bI_01) ⟨Nat.le_refl _, Nat.le_refl _, hN, hS⟩ ?_
    refine z_if_eq dX9_is_6 rfl (fun c => absurd c (bI_ne0.mpr hc)) (fun _ => ?_)
    refine z_aload_n dX9_is_9 rfl rfl ?_
    refine y_getR FX9_7 dX9_is_10 rfl hm.o hm.f_a ?_
    refine z_bipush (v := 8) dX9_is_13 (by decide) ?_
    refine z_iload_n dX9_is_15 rfl rfl ?_
    refine z_iadd dX9_is_16 ?_
    refine y_ialN (8 + (w')) dX9_is_17 hm.A_a (Nat.le_of_ble_eq_true rfl) (by first | rfl | (simp only [← nI_add, ← pk_mul]; rfl)) (by omega) ?_
    refine z_goto dX9_is_18 rfl ?_
    refine z_iret dX9_is_23 ?_
    exact hQ
  · unfold mIs at hQ
    rw [if_neg hc] at hQ
    refine z_iload_n dX9_is_0 rfl rfl ?_
    refine z_iconst (v := 0) dX9_is_1 (by decide) ?_
    refine z_iconst (v := 3) dX9_is_2 (by decide) ?_
    refine y_callS (as := [_, _, _]) CX9_isIn LX9_63 SX9_isIn dX9_is_3 rfl (Nat.le_of_ble_eq_true rfl) (Nat.le_of_ble_eq_true rfl) (by omega) (r_isIn _ _ _) (rok_z bI_01) ⟨Nat.le_refl _, Nat.le_refl _, hN, hS⟩ ?_
    refine z_if_eq dX9_is_6 rfl (fun _ => ?_) (fun c => absurd (bI_eq0.mpr hc) c)
    refine z_bipush (v := -2) dX9_is_21 (by decide) ?_
    refine z_iret dX9_is_23 ?_
    exact hQ

theorem R_about {s : Ms} {h : Hp} {d : Nat} (hr : RM s h) (w : Int32) (hd : 1 ≤ d) : Sp d mX9_about [.ref 488, .int w] h (some (.int (mAbout s w))) h := by
  intro N S Q hN hS hQ
  have hm := hr.m
  unfold mAbout at hQ
  by_cases hc : inr w 0 7
  · obtain ⟨w', hw, rfl⟩ := inr_of (n := 7) (by omega) hc
    rw [if_pos hc, nn_nI (by omega), ← hr.2.1 w' (by omega)] at hQ
    refine z_iload_n dX9_about_0 rfl rfl ?_
    refine z_iconst (v := 0) dX9_about_1 (by decide) ?_
    refine z_bipush (v := 7) dX9_about_2 (by decide) ?_
    refine y_callS (as := [_, _, _]) CX9_isIn LX9_63 SX9_isIn dX9_about_4 rfl (Nat.le_of_ble_eq_true rfl) (Nat.le_of_ble_eq_true rfl) (by omega) (r_isIn _ _ _) (rok_z bI_01) ⟨Nat.le_refl _, Nat.le_refl _, hN, hS⟩ ?_
    refine z_if_eq dX9_about_7 rfl (fun c => absurd c (bI_ne0.mpr hc)) (fun _ => ?_)
    refine z_aload_n dX9_about_10 rfl rfl ?_
    refine y_getR FX9_7 dX9_about_11 rfl hm.o hm.f_a ?_
    refine z_iload_n dX9_about_14 rfl rfl ?_
    refine y_ialN (w') dX9_about_15 hm.A_a (Nat.le_of_ble_eq_true rfl) (by first | rfl | (simp only [← nI_add, ← pk_mul]; rfl)) (by omega) ?_
    refine z_goto dX9_about_16 rfl ?_
    refine z_iret dX9_about_34 ?_
    exact hQ
  · rw [if_neg hc, ← hr.2.2.2.2.1] at hQ
    refine z_iload_n dX9_about_0 rfl rfl ?_
    refine z_iconst (v := 0) dX9_about_1 (by decide) ?_
    refine z_bipush (v := 7) dX9_about_2 (by decide) ?_
    refine y_callS (as := [_, _, _]) CX9_isIn LX9_63 SX9_isIn dX9_about_4 rfl (Nat.le_of_ble_eq_true rfl) (Nat.le_of_ble_eq_true rfl) (by omega) (r_isIn _ _ _) (rok_z bI_01) ⟨Nat.le_refl _, Nat.le_refl _, hN, hS⟩ ?_
    refine z_if_eq dX9_about_7 rfl (fun _ => ?_) (fun c => absurd (bI_eq0.mpr hc) c)
    refine z_iload_n dX9_about_19 rfl rfl ?_
    refine z_bipush (v := 8) dX9_about_20 (by decide) ?_
    refine z_icmp_ne dX9_about_22 rfl (fun c22 => ?_) (fun c22 => ?_)
    · -- to 32
      refine z_bipush (v := -2) dX9_about_32 (by decide) ?_
      refine z_iret dX9_about_34 ?_
      first
        | (rw [if_pos (by assumption)] at hQ; exact hQ)
        | (rw [if_neg (by assumption)] at hQ; exact hQ)
    · -- on
      refine z_aload_n dX9_about_25 rfl rfl ?_
      refine y_getI FX9_90 dX9_about_26 (Or.inl rfl) hm.o ?_
      refine z_goto dX9_about_29 rfl ?_
      refine z_iret dX9_about_34 ?_
      first
        | (rw [if_pos (by assumption)] at hQ; exact hQ)
        | (rw [if_neg (by assumption)] at hQ; exact hQ)

theorem R_fault {s : Ms} {h : Hp} {d : Nat} (hr : RM s h) (w : Int32) : Sp d mX9_fault [.ref 488, .int w] h (some (.int (mFault s w))) h := by
  intro N S Q hN hS hQ
  have hm := hr.m
  unfold mFault at hQ
  rw [← hr.2.2.2.2.2.1, ← hr.2.2.2.2.2.2.1] at hQ
  refine z_iload_n dX9_fault_0 rfl rfl ?_
  refine z_if_ne dX9_fault_1 rfl (fun c1 => ?_) (fun c1 => ?_)
  · -- to 11
    refine z_iload_n dX9_fault_11 rfl rfl ?_
    refine z_iconst (v := 1) dX9_fault_12 (by decide) ?_
    refine z_icmp_ne dX9_fault_13 rfl (fun c13 => ?_) (fun c13 => ?_)
    · -- to 23
      refine z_iconst (v := -1) dX9_fault_23 (by decide) ?_
      refine z_iret dX9_fault_24 ?_
      first
        | (rw [if_pos (by assumption)] at hQ; exact hQ)
        | (rw [if_neg (by assumption), if_pos (by assumption)] at hQ; exact hQ)
        | (rw [if_neg (by assumption), if_neg (by assumption)] at hQ; exact hQ)
    · -- on
      refine z_aload_n dX9_fault_16 rfl rfl ?_
      refine y_getI FX9_26 dX9_fault_17 (Or.inl rfl) hm.o ?_
      refine z_goto dX9_fault_20 rfl ?_
      refine z_iret dX9_fault_24 ?_
      first
        | (rw [if_pos (by assumption)] at hQ; exact hQ)
        | (rw [if_neg (by assumption), if_pos (by assumption)] at hQ; exact hQ)
        | (rw [if_neg (by assumption), if_neg (by assumption)] at hQ; exact hQ)
  · -- on
    refine z_aload_n dX9_fault_4 rfl rfl ?_
    refine y_getI FX9_22 dX9_fault_5 (Or.inl rfl) hm.o ?_
    refine z_goto dX9_fault_8 rfl ?_
    refine z_iret dX9_fault_24 ?_
    first
      | (rw [if_pos (by assumption)] at hQ; exact hQ)
      | (rw [if_neg (by assumption), if_pos (by assumption)] at hQ; exact hQ)
      | (rw [if_neg (by assumption), if_neg (by assumption)] at hQ; exact hQ)

