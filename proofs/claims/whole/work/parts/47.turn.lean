/-! bring and spoil: both sides (walks by program: wip/whole/gen47.py) -/
theorem bI_so {P : Prop} [Decidable P] {so : Nat} (h : so = 0 ∨ so = 1) : bI P = nI so ↔ (P ↔ so = 1) := by
  rcases h with rfl | rfl
  · rw [show nI 0 = (0 : Int32) from rfl, bI_eq0]
    simp
  · rw [show nI 1 = (1 : Int32) from rfl, bI_eq1]
    simp
/-- facts in their bounds -/
def IFc (a : Fl) : Prop := ∀ f, f < a 0 → a (110 + 2 * f) ≤ 10 ∧ a (110 + 2 * f + 1) ≤ 99
abbrev okT (a : Fl) (p f : Int32) (so : Nat) : Prop := vin p (a 1) ∧ vin f (a 0) ∧ ((a 10).testBit (nn f) = true ↔ so = 1) ∧ a (110 + 2 * nn f + 1) ≤ a (13 + 5 * nn p + 0)
def wTurn (W : Fl) (p f c : Nat) : Fl := up (wLose W p c) 3 (W 3 ^^^ 2 ^ f)
def mTurn (a : Fl) (p f : Nat) : Fl := uns a (wTurn (snap a) p f (a (110 + 2 * f + 1)))
def mBring (a : Fl) (so : Nat) (p f : Int32) : Int32 × Fl := if okT a p f so then (1, mTurn (mKeep a) (nn p) (nn f)) else (0, a)

theorem r_canTurn {s : Ms} {h : Hp} {d : Nat} (hr : RM s h) (hv : IC s.1) (hp : IP s.1) (hf : IFc s.1) (p f : Int32) {so : Nat} (hso : so = 0 ∨ so = 1) (hd : 2 ≤ d) : Sp d mX9_canTurn [.ref 488, .int p, .int f, .int (nI so)] h (some (.int (bI (okT s.1 p f so)))) h := by
  intro N S Q hN hS hQ
  have hm := hr.m
  have v0 := hv.1
  have v1 := hv.2.1
  have v10 := hv.2.2.2.2.2.2.2.2.2.2.1
  have e0 : pI h 489 0 = nI (s.1 0) := hr.at (by omega) (by omega)
  have e1 : pI h 489 1 = nI (s.1 1) := hr.at (by omega) (by omega)
  by_cases hin : vin p (s.1 1)
  · by_cases hif : vin f (s.1 0)
    · obtain ⟨j, hj, rfl⟩ := vin_of (by omega) hin
      obtain ⟨k, hk, rfl⟩ := vin_of (by omega) hif
      have b1 : s.1 (13 + 5 * j + 0) ≤ 9999 := (hp j hj).1
      have b2 := (hf k hk).2
      by_cases ht : (s.1 10).testBit k = true ↔ so = 1
      · by_cases hc : s.1 (110 + 2 * k + 1) ≤ s.1 (13 + 5 * j + 0)
        · rw [bI_t ⟨hin, hif, by rw [nn_nI (by omega)]; exact ht, by rw [nn_nI (by omega), nn_nI (by omega)]; exact hc⟩] at hQ
          refine z_aload_n dX9_canTurn_0 rfl rfl ?_
          refine z_iload_n dX9_canTurn_1 rfl rfl ?_
          refine y_callV (as := [_]) CX9_isProphet LX9_365 IX9_isProphet VX9_isProphet ⟨rfl, Nat.le_of_ble_eq_true rfl⟩ dX9_canTurn_2 hm.o rfl (Nat.le_of_ble_eq_true rfl) (Nat.le_of_ble_eq_true rfl) (by omega) (r_isProphet (d := 1) (by exact (by exact hm)) e1 (by omega) _ (Nat.le_refl _)) (rok_z bI_01) ⟨Nat.le_refl _, Nat.le_refl _, hN, hS⟩ ?_
          refine z_if_eq dX9_canTurn_5 rfl (fun c => absurd c (bI_ne0.mpr hin)) (fun _ => ?_)
          refine z_aload_n dX9_canTurn_8 rfl rfl ?_
          refine z_iload_n dX9_canTurn_9 rfl rfl ?_
          refine y_callV (as := [_]) CX9_isFact LX9_381 IX9_isFact VX9_isFact ⟨rfl, Nat.le_of_ble_eq_true rfl⟩ dX9_canTurn_10 hm.o rfl (Nat.le_of_ble_eq_true rfl) (Nat.le_of_ble_eq_true rfl) (by omega) (r_isFact (d := 1) (by exact (by exact hm)) e0 (by omega) _ (Nat.le_refl _)) (rok_z bI_01) ⟨Nat.le_refl _, Nat.le_refl _, hN, hS⟩ ?_
          refine z_if_eq dX9_canTurn_13 rfl (fun c => absurd c (bI_ne0.mpr hif)) (fun _ => ?_)
          refine z_aload_n dX9_canTurn_16 rfl rfl ?_
          refine y_getR FX9_7 dX9_canTurn_17 rfl hm.o hm.f_a ?_
          refine z_bipush (v := 10) dX9_canTurn_20 (by decide) ?_
          refine y_ialN (10) dX9_canTurn_22 hm.A_a (Nat.le_of_ble_eq_true rfl) (rfl) (by omega) ?_
          refine z_eqi (show _ = nI (s.1 10) from hr.at (by omega) (by omega)) ?_
          refine z_iload_n dX9_canTurn_23 rfl rfl ?_
          refine y_callS (as := [_, _]) CX9_has LX9_261 SX9_has dX9_canTurn_24 rfl (Nat.le_of_ble_eq_true rfl) (Nat.le_of_ble_eq_true rfl) (by omega) (r_has (n := s.1 10) (k := k) (by omega) (by omega)) (rok_z bI_01) ⟨Nat.le_refl _, Nat.le_refl _, hN, hS⟩ ?_
          refine z_iload_n dX9_canTurn_27 rfl rfl ?_
          refine z_icmp_ne dX9_canTurn_28 rfl (fun c => absurd ((bI_so hso).mpr ht) c) (fun _ => ?_)
          refine z_aload_n dX9_canTurn_31 rfl rfl ?_
          refine z_iload_n dX9_canTurn_32 rfl rfl ?_
          refine z_iconst (v := 0) dX9_canTurn_33 (by decide) ?_
          refine y_callV (as := [_, _]) CX9_get LX9_87 IX9_get VX9_get ⟨rfl, Nat.le_of_ble_eq_true rfl⟩ dX9_canTurn_34 hm.o rfl (Nat.le_of_ble_eq_true rfl) (Nat.le_of_ble_eq_true rfl) (by omega) (r_get (j := j) (w := 0) (by exact (by exact hm)) (by omega) (by omega)) rok_i ⟨Nat.le_refl _, Nat.le_refl _, hN, hS⟩ ?_
          refine z_eqi (show _ = nI (s.1 (13 + 5 * j + 0)) from hr.at (by omega) (by omega)) ?_
          refine z_aload_n dX9_canTurn_37 rfl rfl ?_
          refine y_getR FX9_7 dX9_canTurn_38 rfl hm.o hm.f_a ?_
          refine z_bipush (v := 110) dX9_canTurn_41 (by decide) ?_
          refine z_iconst (v := 2) dX9_canTurn_43 (by decide) ?_
          refine z_iload_n dX9_canTurn_44 rfl rfl ?_
          refine z_imul dX9_canTurn_45 ?_
          refine z_iadd dX9_canTurn_46 ?_
          refine z_iconst (v := 1) dX9_canTurn_47 (by decide) ?_
          refine z_iadd dX9_canTurn_48 ?_
          refine y_ialN (110 + 2 * k + 1) dX9_canTurn_49 hm.A_a (Nat.le_of_ble_eq_true rfl) (by first | rfl | (simp only [← nI_add, ← pk_mul]; rfl)) (by omega) ?_
          refine z_eqi (show _ = nI (s.1 (110 + 2 * k + 1)) from hr.at (by omega) (by omega)) ?_
          refine z_icmp_lt dX9_canTurn_50 rfl (fun c => absurd c (fun q => absurd ((nI_ltI (by omega) (by omega)).mp q) (by omega))) (fun _ => ?_)
          refine z_iconst (v := 1) dX9_canTurn_53 (by decide) ?_
          refine z_goto dX9_canTurn_54 rfl ?_
          refine z_iret dX9_canTurn_58 ?_
          exact hQ
        · rw [bI_f (fun q => hc (by have := q.2.2.2; rw [nn_nI (by omega), nn_nI (by omega)] at this; exact this))] at hQ
          refine z_aload_n dX9_canTurn_0 rfl rfl ?_
          refine z_iload_n dX9_canTurn_1 rfl rfl ?_
          refine y_callV (as := [_]) CX9_isProphet LX9_365 IX9_isProphet VX9_isProphet ⟨rfl, Nat.le_of_ble_eq_true rfl⟩ dX9_canTurn_2 hm.o rfl (Nat.le_of_ble_eq_true rfl) (Nat.le_of_ble_eq_true rfl) (by omega) (r_isProphet (d := 1) (by exact (by exact hm)) e1 (by omega) _ (Nat.le_refl _)) (rok_z bI_01) ⟨Nat.le_refl _, Nat.le_refl _, hN, hS⟩ ?_
          refine z_if_eq dX9_canTurn_5 rfl (fun c => absurd c (bI_ne0.mpr hin)) (fun _ => ?_)
          refine z_aload_n dX9_canTurn_8 rfl rfl ?_
          refine z_iload_n dX9_canTurn_9 rfl rfl ?_
          refine y_callV (as := [_]) CX9_isFact LX9_381 IX9_isFact VX9_isFact ⟨rfl, Nat.le_of_ble_eq_true rfl⟩ dX9_canTurn_10 hm.o rfl (Nat.le_of_ble_eq_true rfl) (Nat.le_of_ble_eq_true rfl) (by omega) (r_isFact (d := 1) (by exact (by exact hm)) e0 (by omega) _ (Nat.le_refl _)) (rok_z bI_01) ⟨Nat.le_refl _, Nat.le_refl _, hN, hS⟩ ?_
          refine z_if_eq dX9_canTurn_13 rfl (fun c => absurd c (bI_ne0.mpr hif)) (fun _ => ?_)
          refine z_aload_n dX9_canTurn_16 rfl rfl ?_
          refine y_getR FX9_7 dX9_canTurn_17 rfl hm.o hm.f_a ?_
          refine z_bipush (v := 10) dX9_canTurn_20 (by decide) ?_
          refine y_ialN (10) dX9_canTurn_22 hm.A_a (Nat.le_of_ble_eq_true rfl) (rfl) (by omega) ?_
          refine z_eqi (show _ = nI (s.1 10) from hr.at (by omega) (by omega)) ?_
          refine z_iload_n dX9_canTurn_23 rfl rfl ?_
          refine y_callS (as := [_, _]) CX9_has LX9_261 SX9_has dX9_canTurn_24 rfl (Nat.le_of_ble_eq_true rfl) (Nat.le_of_ble_eq_true rfl) (by omega) (r_has (n := s.1 10) (k := k) (by omega) (by omega)) (rok_z bI_01) ⟨Nat.le_refl _, Nat.le_refl _, hN, hS⟩ ?_
          refine z_iload_n dX9_canTurn_27 rfl rfl ?_
          refine z_icmp_ne dX9_canTurn_28 rfl (fun c => absurd ((bI_so hso).mpr ht) c) (fun _ => ?_)
          refine z_aload_n dX9_canTurn_31 rfl rfl ?_
          refine z_iload_n dX9_canTurn_32 rfl rfl ?_
          refine z_iconst (v := 0) dX9_canTurn_33 (by decide) ?_
          refine y_callV (as := [_, _]) CX9_get LX9_87 IX9_get VX9_get ⟨rfl, Nat.le_of_ble_eq_true rfl⟩ dX9_canTurn_34 hm.o rfl (Nat.le_of_ble_eq_true rfl) (Nat.le_of_ble_eq_true rfl) (by omega) (r_get (j := j) (w := 0) (by exact (by exact hm)) (by omega) (by omega)) rok_i ⟨Nat.le_refl _, Nat.le_refl _, hN, hS⟩ ?_
          refine z_eqi (show _ = nI (s.1 (13 + 5 * j + 0)) from hr.at (by omega) (by omega)) ?_
          refine z_aload_n dX9_canTurn_37 rfl rfl ?_
          refine y_getR FX9_7 dX9_canTurn_38 rfl hm.o hm.f_a ?_
          refine z_bipush (v := 110) dX9_canTurn_41 (by decide) ?_
          refine z_iconst (v := 2) dX9_canTurn_43 (by decide) ?_
          refine z_iload_n dX9_canTurn_44 rfl rfl ?_
          refine z_imul dX9_canTurn_45 ?_
          refine z_iadd dX9_canTurn_46 ?_
          refine z_iconst (v := 1) dX9_canTurn_47 (by decide) ?_
          refine z_iadd dX9_canTurn_48 ?_
          refine y_ialN (110 + 2 * k + 1) dX9_canTurn_49 hm.A_a (Nat.le_of_ble_eq_true rfl) (by first | rfl | (simp only [← nI_add, ← pk_mul]; rfl)) (by omega) ?_
          refine z_eqi (show _ = nI (s.1 (110 + 2 * k + 1)) from hr.at (by omega) (by omega)) ?_
          refine z_icmp_lt dX9_canTurn_50 rfl (fun _ => ?_) (fun c => absurd ((nI_ltI (by omega) (by omega)).mpr (by omega)) c)
          refine z_iconst (v := 0) dX9_canTurn_57 (by decide) ?_
          refine z_iret dX9_canTurn_58 ?_
          exact hQ
      · rw [bI_f (fun q => ht (by have := q.2.2.1; rw [nn_nI (by omega)] at this; exact this))] at hQ
        refine z_aload_n dX9_canTurn_0 rfl rfl ?_
        refine z_iload_n dX9_canTurn_1 rfl rfl ?_
        refine y_callV (as := [_]) CX9_isProphet LX9_365 IX9_isProphet VX9_isProphet ⟨rfl, Nat.le_of_ble_eq_true rfl⟩ dX9_canTurn_2 hm.o rfl (Nat.le_of_ble_eq_true rfl) (Nat.le_of_ble_eq_true rfl) (by omega) (r_isProphet (d := 1) (by exact (by exact hm)) e1 (by omega) _ (Nat.le_refl _)) (rok_z bI_01) ⟨Nat.le_refl _, Nat.le_refl _, hN, hS⟩ ?_
        refine z_if_eq dX9_canTurn_5 rfl (fun c => absurd c (bI_ne0.mpr hin)) (fun _ => ?_)
        refine z_aload_n dX9_canTurn_8 rfl rfl ?_
        refine z_iload_n dX9_canTurn_9 rfl rfl ?_
        refine y_callV (as := [_]) CX9_isFact LX9_381 IX9_isFact VX9_isFact ⟨rfl, Nat.le_of_ble_eq_true rfl⟩ dX9_canTurn_10 hm.o rfl (Nat.le_of_ble_eq_true rfl) (Nat.le_of_ble_eq_true rfl) (by omega) (r_isFact (d := 1) (by exact (by exact hm)) e0 (by omega) _ (Nat.le_refl _)) (rok_z bI_01) ⟨Nat.le_refl _, Nat.le_refl _, hN, hS⟩ ?_
        refine z_if_eq dX9_canTurn_13 rfl (fun c => absurd c (bI_ne0.mpr hif)) (fun _ => ?_)
        refine z_aload_n dX9_canTurn_16 rfl rfl ?_
        refine y_getR FX9_7 dX9_canTurn_17 rfl hm.o hm.f_a ?_
        refine z_bipush (v := 10) dX9_canTurn_20 (by decide) ?_
        refine y_ialN (10) dX9_canTurn_22 hm.A_a (Nat.le_of_ble_eq_true rfl) (rfl) (by omega) ?_
        refine z_eqi (show _ = nI (s.1 10) from hr.at (by omega) (by omega)) ?_
        refine z_iload_n dX9_canTurn_23 rfl rfl ?_
        refine y_callS (as := [_, _]) CX9_has LX9_261 SX9_has dX9_canTurn_24 rfl (Nat.le_of_ble_eq_true rfl) (Nat.le_of_ble_eq_true rfl) (by omega) (r_has (n := s.1 10) (k := k) (by omega) (by omega)) (rok_z bI_01) ⟨Nat.le_refl _, Nat.le_refl _, hN, hS⟩ ?_
        refine z_iload_n dX9_canTurn_27 rfl rfl ?_
        refine z_icmp_ne dX9_canTurn_28 rfl (fun _ => ?_) (fun c => absurd c (fun q => ht ((bI_so hso).mp q)))
        refine z_iconst (v := 0) dX9_canTurn_57 (by decide) ?_
        refine z_iret dX9_canTurn_58 ?_
        exact hQ
    · rw [bI_f (fun q => hif q.2.1)] at hQ
      refine z_aload_n dX9_canTurn_0 rfl rfl ?_
      refine z_iload_n dX9_canTurn_1 rfl rfl ?_
      refine y_callV (as := [_]) CX9_isProphet LX9_365 IX9_isProphet VX9_isProphet ⟨rfl, Nat.le_of_ble_eq_true rfl⟩ dX9_canTurn_2 hm.o rfl (Nat.le_of_ble_eq_true rfl) (Nat.le_of_ble_eq_true rfl) (by omega) (r_isProphet (d := 1) (by exact (by exact hm)) e1 (by omega) _ (Nat.le_refl _)) (rok_z bI_01) ⟨Nat.le_refl _, Nat.le_refl _, hN, hS⟩ ?_
      refine z_if_eq dX9_canTurn_5 rfl (fun c => absurd c (bI_ne0.mpr hin)) (fun _ => ?_)
      refine z_aload_n dX9_canTurn_8 rfl rfl ?_
      refine z_iload_n dX9_canTurn_9 rfl rfl ?_
      refine y_callV (as := [_]) CX9_isFact LX9_381 IX9_isFact VX9_isFact ⟨rfl, Nat.le_of_ble_eq_true rfl⟩ dX9_canTurn_10 hm.o rfl (Nat.le_of_ble_eq_true rfl) (Nat.le_of_ble_eq_true rfl) (by omega) (r_isFact (d := 1) (by exact (by exact hm)) e0 (by omega) _ (Nat.le_refl _)) (rok_z bI_01) ⟨Nat.le_refl _, Nat.le_refl _, hN, hS⟩ ?_
      refine z_if_eq dX9_canTurn_13 rfl (fun _ => ?_) (fun c => absurd (bI_eq0.mpr hif) c)
      refine z_iconst (v := 0) dX9_canTurn_57 (by decide) ?_
      refine z_iret dX9_canTurn_58 ?_
      exact hQ
  · rw [bI_f (fun q => hin q.1)] at hQ
    refine z_aload_n dX9_canTurn_0 rfl rfl ?_
    refine z_iload_n dX9_canTurn_1 rfl rfl ?_
    refine y_callV (as := [_]) CX9_isProphet LX9_365 IX9_isProphet VX9_isProphet ⟨rfl, Nat.le_of_ble_eq_true rfl⟩ dX9_canTurn_2 hm.o rfl (Nat.le_of_ble_eq_true rfl) (Nat.le_of_ble_eq_true rfl) (by omega) (r_isProphet (d := 1) (by exact (by exact hm)) e1 (by omega) _ (Nat.le_refl _)) (rok_z bI_01) ⟨Nat.le_refl _, Nat.le_refl _, hN, hS⟩ ?_
    refine z_if_eq dX9_canTurn_5 rfl (fun _ => ?_) (fun c => absurd (bI_eq0.mpr hin) c)
    refine z_iconst (v := 0) dX9_canTurn_57 (by decide) ?_
    refine z_iret dX9_canTurn_58 ?_
    exact hQ

theorem r_turnNow {s : Ms} {h : Hp} {d j k : Nat} (hr : RM s h) (hj : j < 5) (hk : k < 8) (hc : s.1 (110 + 2 * k + 1) ≤ s.1 (13 + 5 * j + 0)) (hd : 1 ≤ d) : ∃ h1, Sp d mX9_turnNow [.ref 488, .int (nI j), .int (nI k)] h none h1 ∧ RM (mTurn s.1 j k, s.2) h1 ∧ FM h h1 := by
  have hm := hr.m
  refine ⟨sI (sI h 489 (13 + 5 * j + 0) (nI (s.1 (13 + 5 * j + 0) - s.1 (110 + 2 * k + 1)))) 489 10 (nI (s.1 10 ^^^ 2 ^ k)), ?_, ?_, (FM.rf.sI (by omega)).sI (by omega)⟩
  · intro N S Q hN hS hQ
    refine z_aload_n dX9_turnNow_0 rfl rfl ?_
    refine z_iload_n dX9_turnNow_1 rfl rfl ?_
    refine z_iconst (v := 0) dX9_turnNow_2 (by decide) ?_
    refine z_aload_n dX9_turnNow_3 rfl rfl ?_
    refine z_iload_n dX9_turnNow_4 rfl rfl ?_
    refine z_iconst (v := 0) dX9_turnNow_5 (by decide) ?_
    refine y_callV (as := [_, _]) CX9_get LX9_87 IX9_get VX9_get ⟨rfl, Nat.le_of_ble_eq_true rfl⟩ dX9_turnNow_6 hm.o rfl (Nat.le_of_ble_eq_true rfl) (Nat.le_of_ble_eq_true rfl) (by omega) (r_get (j := j) (w := 0) (by exact (by exact hm)) (by omega) (by omega)) rok_i ⟨Nat.le_refl _, Nat.le_refl _, hN, hS⟩ ?_
    refine z_eqi (show _ = nI (s.1 (13 + 5 * j + 0)) from hr.at (by omega) (by omega)) ?_
    refine z_aload_n dX9_turnNow_9 rfl rfl ?_
    refine y_getR FX9_7 dX9_turnNow_10 rfl hm.o hm.f_a ?_
    refine z_bipush (v := 110) dX9_turnNow_13 (by decide) ?_
    refine z_iconst (v := 2) dX9_turnNow_15 (by decide) ?_
    refine z_iload_n dX9_turnNow_16 rfl rfl ?_
    refine z_imul dX9_turnNow_17 ?_
    refine z_iadd dX9_turnNow_18 ?_
    refine z_iconst (v := 1) dX9_turnNow_19 (by decide) ?_
    refine z_iadd dX9_turnNow_20 ?_
    refine y_ialN (110 + 2 * k + 1) dX9_turnNow_21 hm.A_a (Nat.le_of_ble_eq_true rfl) (by first | rfl | (simp only [← nI_add, ← pk_mul]; rfl)) (by omega) ?_
    refine z_eqi (show _ = nI (s.1 (110 + 2 * k + 1)) from hr.at (by omega) (by omega)) ?_
    refine z_isub dX9_turnNow_22 ?_
    refine z_eqi (pk_sub hc) ?_
    refine y_callV (as := [_, _, _]) CX9_put LX9_79 IX9_put VX9_put ⟨rfl, Nat.le_of_ble_eq_true rfl⟩ dX9_turnNow_23 hm.o rfl (Nat.le_of_ble_eq_true rfl) (Nat.le_of_ble_eq_true rfl) (by omega) (r_put (j := j) (w := 0) (by exact (by exact hm)) (by omega) (by omega)) rok_v ⟨Nat.le_refl _, Nat.le_refl _, hN, hS⟩ ?_
    refine z_aload_n dX9_turnNow_26 rfl rfl ?_
    refine y_getR FX9_7 dX9_turnNow_27 rfl hm.o hm.f_a ?_
    refine z_bipush (v := 10) dX9_turnNow_30 (by decide) ?_
    refine z_dup2_11 dX9_turnNow_32 rfl rfl ?_
    refine y_ialN (10) dX9_turnNow_33 hm.A_a (Nat.le_of_ble_eq_true rfl) (rfl) (by omega) ?_
    refine z_eqi (show _ = nI (s.1 10) by rw [pI_sI, if_pos rfl, if_neg (by omega)]; exact hr.at (by omega) (by omega)) ?_
    refine z_iconst (v := 1) dX9_turnNow_34 (by decide) ?_
    refine z_iload_n dX9_turnNow_35 rfl rfl ?_
    refine z_ishl dX9_turnNow_36 ?_
    refine z_eqi (nI_bit (show k < 31 by omega)) ?_
    refine z_ixor dX9_turnNow_37 ?_
    refine z_eqi (nI_xor _ _) ?_
    refine y_iasN (10) dX9_turnNow_38 hm.A_a (Nat.le_of_ble_eq_true rfl) (rfl) (by omega) ?_
    refine z_vret dX9_turnNow_39 ?_
    exact hQ
  · have hu := hr.un
    have r1 := hu.w (wx_pp hj (by omega)).symm (show ppx j 0 < 153 by unfold ppx; omega) (v := snap s.1 (ppx j 0) - s.1 (110 + 2 * k + 1)) (by rw [snap_pp hj (by omega)])
    exact r1.w (i := 10) (j := 3) rfl (by omega) rfl

theorem R_bring {s : Ms} {h : Hp} {d : Nat} (hr : RM s h) (hv : IC s.1) (hp : IP s.1) (hf : IFc s.1) (p f : Int32) (hd : 3 ≤ d) : ∃ h1, Sp d mX9_bring [.ref 488, .int p, .int f] h (some (.int (mBring s.1 0 p f).1)) h1 ∧ RM ((mBring s.1 0 p f).2, s.2) h1 ∧ FM h h1 := by
  have hm := hr.m
  have v0 := hv.1
  have v1 := hv.2.1
  by_cases hc : okT s.1 p f 0
  · have eq : mBring s.1 0 p f = (1, mTurn (mKeep s.1) (nn p) (nn f)) := if_pos hc
    rw [eq]
    obtain ⟨h1, h2, h3, h4⟩ := id hc
    obtain ⟨j, hj, rfl⟩ := vin_of (by omega) h1
    obtain ⟨k, hk, rfl⟩ := vin_of (by omega) h2
    obtain ⟨k1h, k1, k2, k3⟩ := r_keep (d := 2) hr hv.2.2.2.2.1 (by omega)
    rw [nn_nI (by omega), nn_nI (by omega)] at h4 ⊢
    have hkp : mKeep s.1 (13 + 5 * j + 0) = s.1 (13 + 5 * j + 0) := mKeep_out hv.2.2.2.2.1 (by omega) (by omega)
    have hkf : mKeep s.1 (110 + 2 * k + 1) = s.1 (110 + 2 * k + 1) := mKeep_out hv.2.2.2.2.1 (by omega) (by omega)
    obtain ⟨fh, f1, f2, f3⟩ := r_turnNow (d := 1) (j := j) (k := k) k2 (by omega) (by omega) (by show mKeep s.1 _ ≤ mKeep s.1 _; rw [hkp, hkf]; exact h4) (Nat.le_refl _)
    refine ⟨fh, ?_, f2, k3.tr f3⟩
    intro N S Q hN hS hQ
    have hN : pn h ≤ N := by rw [← (k3.tr f3).1.n]; exact hN
    have hS : ps h ≤ S := by rw [← (k3.tr f3).1.s]; exact hS
    refine z_aload_n dX9_bring_0 rfl rfl ?_
    refine z_iload_n dX9_bring_1 rfl rfl ?_
    refine z_iload_n dX9_bring_2 rfl rfl ?_
    refine z_iconst (v := 0) dX9_bring_3 (by decide) ?_
    refine y_callV (as := [_, _, _]) CX9_canTurn LX9_384 IX9_canTurn VX9_canTurn ⟨rfl, Nat.le_of_ble_eq_true rfl⟩ dX9_bring_4 hm.o rfl (Nat.le_of_ble_eq_true rfl) (Nat.le_of_ble_eq_true rfl) (by omega) (r_canTurn (d := 2) hr hv hp hf _ _ (so := 0) (by omega) (Nat.le_refl _)) (rok_z bI_01) ⟨Nat.le_refl _, Nat.le_refl _, hN, hS⟩ ?_
    refine z_if_ne dX9_bring_7 rfl (fun _ => ?_) (fun c => absurd c (bI_ne0.mpr hc))
    refine z_aload_n dX9_bring_12 rfl rfl ?_
    refine y_callV (as := []) CX9_keep LX9_374 IX9_keep VX9_keep ⟨rfl, Nat.le_of_ble_eq_true rfl⟩ dX9_bring_13 hm.o rfl (Nat.le_of_ble_eq_true rfl) (Nat.le_of_ble_eq_true rfl) (by omega) k1 rok_v (hg_ss k3.1 hN hS) ?_
    refine z_aload_n dX9_bring_16 rfl rfl ?_
    refine z_iload_n dX9_bring_17 rfl rfl ?_
    refine z_iload_n dX9_bring_18 rfl rfl ?_
    refine y_callV (as := [_, _]) CX9_turnNow LX9_388 IX9_turnNow VX9_turnNow ⟨rfl, Nat.le_of_ble_eq_true rfl⟩ dX9_bring_19 (k3.1.O hm.o) rfl (Nat.le_of_ble_eq_true rfl) (Nat.le_of_ble_eq_true rfl) (by omega) f1 rok_v (hg_ss f3.1 (by rw [k3.1.n]; exact hN) (by rw [k3.1.s]; exact hS)) ?_
    refine z_iconst (v := 1) dX9_bring_22 (by decide) ?_
    refine z_iret dX9_bring_23 ?_
    exact hQ
  · have eq : mBring s.1 0 p f = (0, s.1) := if_neg hc
    rw [eq]
    refine ⟨h, ?_, hr, FM.rf⟩
    intro N S Q hN hS hQ
    refine z_aload_n dX9_bring_0 rfl rfl ?_
    refine z_iload_n dX9_bring_1 rfl rfl ?_
    refine z_iload_n dX9_bring_2 rfl rfl ?_
    refine z_iconst (v := 0) dX9_bring_3 (by decide) ?_
    refine y_callV (as := [_, _, _]) CX9_canTurn LX9_384 IX9_canTurn VX9_canTurn ⟨rfl, Nat.le_of_ble_eq_true rfl⟩ dX9_bring_4 hm.o rfl (Nat.le_of_ble_eq_true rfl) (Nat.le_of_ble_eq_true rfl) (by omega) (r_canTurn (d := 2) hr hv hp hf _ _ (so := 0) (by omega) (Nat.le_refl _)) (rok_z bI_01) ⟨Nat.le_refl _, Nat.le_refl _, hN, hS⟩ ?_
    refine z_if_ne dX9_bring_7 rfl (fun c => absurd (bI_eq0.mpr hc) c) (fun _ => ?_)
    refine z_iconst (v := 0) dX9_bring_10 (by decide) ?_
    refine z_iret dX9_bring_11 ?_
    exact hQ

theorem R_spoil {s : Ms} {h : Hp} {d : Nat} (hr : RM s h) (hv : IC s.1) (hp : IP s.1) (hf : IFc s.1) (p f : Int32) (hd : 3 ≤ d) : ∃ h1, Sp d mX9_spoil [.ref 488, .int p, .int f] h (some (.int (mBring s.1 1 p f).1)) h1 ∧ RM ((mBring s.1 1 p f).2, s.2) h1 ∧ FM h h1 := by
  have hm := hr.m
  have v0 := hv.1
  have v1 := hv.2.1
  by_cases hc : okT s.1 p f 1
  · have eq : mBring s.1 1 p f = (1, mTurn (mKeep s.1) (nn p) (nn f)) := if_pos hc
    rw [eq]
    obtain ⟨h1, h2, h3, h4⟩ := id hc
    obtain ⟨j, hj, rfl⟩ := vin_of (by omega) h1
    obtain ⟨k, hk, rfl⟩ := vin_of (by omega) h2
    obtain ⟨k1h, k1, k2, k3⟩ := r_keep (d := 2) hr hv.2.2.2.2.1 (by omega)
    rw [nn_nI (by omega), nn_nI (by omega)] at h4 ⊢
    have hkp : mKeep s.1 (13 + 5 * j + 0) = s.1 (13 + 5 * j + 0) := mKeep_out hv.2.2.2.2.1 (by omega) (by omega)
    have hkf : mKeep s.1 (110 + 2 * k + 1) = s.1 (110 + 2 * k + 1) := mKeep_out hv.2.2.2.2.1 (by omega) (by omega)
    obtain ⟨fh, f1, f2, f3⟩ := r_turnNow (d := 1) (j := j) (k := k) k2 (by omega) (by omega) (by show mKeep s.1 _ ≤ mKeep s.1 _; rw [hkp, hkf]; exact h4) (Nat.le_refl _)
    refine ⟨fh, ?_, f2, k3.tr f3⟩
    intro N S Q hN hS hQ
    have hN : pn h ≤ N := by rw [← (k3.tr f3).1.n]; exact hN
    have hS : ps h ≤ S := by rw [← (k3.tr f3).1.s]; exact hS
    refine z_aload_n dX9_spoil_0 rfl rfl ?_
    refine z_iload_n dX9_spoil_1 rfl rfl ?_
    refine z_iload_n dX9_spoil_2 rfl rfl ?_
    refine z_iconst (v := 1) dX9_spoil_3 (by decide) ?_
    refine y_callV (as := [_, _, _]) CX9_canTurn LX9_384 IX9_canTurn VX9_canTurn ⟨rfl, Nat.le_of_ble_eq_true rfl⟩ dX9_spoil_4 hm.o rfl (Nat.le_of_ble_eq_true rfl) (Nat.le_of_ble_eq_true rfl) (by omega) (r_canTurn (d := 2) hr hv hp hf _ _ (so := 1) (by omega) (Nat.le_refl _)) (rok_z bI_01) ⟨Nat.le_refl _, Nat.le_refl _, hN, hS⟩ ?_
    refine z_if_ne dX9_spoil_7 rfl (fun _ => ?_) (fun c => absurd c (bI_ne0.mpr hc))
    refine z_aload_n dX9_spoil_12 rfl rfl ?_
    refine y_callV (as := []) CX9_keep LX9_374 IX9_keep VX9_keep ⟨rfl, Nat.le_of_ble_eq_true rfl⟩ dX9_spoil_13 hm.o rfl (Nat.le_of_ble_eq_true rfl) (Nat.le_of_ble_eq_true rfl) (by omega) k1 rok_v (hg_ss k3.1 hN hS) ?_
    refine z_aload_n dX9_spoil_16 rfl rfl ?_
    refine z_iload_n dX9_spoil_17 rfl rfl ?_
    refine z_iload_n dX9_spoil_18 rfl rfl ?_
    refine y_callV (as := [_, _]) CX9_turnNow LX9_388 IX9_turnNow VX9_turnNow ⟨rfl, Nat.le_of_ble_eq_true rfl⟩ dX9_spoil_19 (k3.1.O hm.o) rfl (Nat.le_of_ble_eq_true rfl) (Nat.le_of_ble_eq_true rfl) (by omega) f1 rok_v (hg_ss f3.1 (by rw [k3.1.n]; exact hN) (by rw [k3.1.s]; exact hS)) ?_
    refine z_iconst (v := 1) dX9_spoil_22 (by decide) ?_
    refine z_iret dX9_spoil_23 ?_
    exact hQ
  · have eq : mBring s.1 1 p f = (0, s.1) := if_neg hc
    rw [eq]
    refine ⟨h, ?_, hr, FM.rf⟩
    intro N S Q hN hS hQ
    refine z_aload_n dX9_spoil_0 rfl rfl ?_
    refine z_iload_n dX9_spoil_1 rfl rfl ?_
    refine z_iload_n dX9_spoil_2 rfl rfl ?_
    refine z_iconst (v := 1) dX9_spoil_3 (by decide) ?_
    refine y_callV (as := [_, _, _]) CX9_canTurn LX9_384 IX9_canTurn VX9_canTurn ⟨rfl, Nat.le_of_ble_eq_true rfl⟩ dX9_spoil_4 hm.o rfl (Nat.le_of_ble_eq_true rfl) (Nat.le_of_ble_eq_true rfl) (by omega) (r_canTurn (d := 2) hr hv hp hf _ _ (so := 1) (by omega) (Nat.le_refl _)) (rok_z bI_01) ⟨Nat.le_refl _, Nat.le_refl _, hN, hS⟩ ?_
    refine z_if_ne dX9_spoil_7 rfl (fun c => absurd (bI_eq0.mpr hc) c) (fun _ => ?_)
    refine z_iconst (v := 0) dX9_spoil_10 (by decide) ?_
    refine z_iret dX9_spoil_11 ?_
    exact hQ

theorem mv_f {h : Hp} {a : Fl} {tx : Nat → Nat → Prop} {k c : Nat} (hv : MV h 9 a tx) (hk : k < a 0) (hc : c < 2) : pI h 19 (k * 2 + c) = nI (a (110 + 2 * k + c)) := by
  rw [hv.2.2.2.2.1.2 (k * 2 + c) (by omega)]
  exact congrArg (fun i => nI (a i)) (by omega)
theorem c_mayTurn {h : Hp} {d : Nat} {a : Fl} {tx : Nat → Nat → Prop} (h8 : IO h 8 8) (hx0 : pR h 8 0 = some 9) (hs : MkS h 9) (hv : MV h 9 a tx) (hi : IC a) (hp : IP a) (hf : IFc a) (p f : Int32) {so : Nat} (hso : so = 0 ∨ so = 1) (hd : 2 ≤ d) : Sp d mX8_mayTurn [.ref 8, .int p, .int f, .int (nI so)] h (some (.int (bI (okT a p f so)))) h := by
  intro N S Q hN hS hQ
  have v0 := hi.1
  have v1 := hi.2.1
  have v10 := hi.2.2.2.2.2.2.2.2.2.2.1
  have hP : RwC h 11 3 5 (a 1) := hv.1.2.2.2.1
  have hF : RwC h 18 2 8 (a 0) := hv.2.2.2.2.1.1
  by_cases hin : vin p (a 1)
  · by_cases hif : vin f (a 0)
    · obtain ⟨j, hj, rfl⟩ := vin_of (by omega) hin
      obtain ⟨k, hk, rfl⟩ := vin_of (by omega) hif
      have b1 : a (13 + 5 * j + 0) ≤ 9999 := (hp j hj).1
      have b2 := (hf k hk).2
      have eF : pI h 19 (k * 2 + 1) = nI (a (110 + 2 * k + 1)) := mv_f hv hk (by omega)
      by_cases ht : (a 10).testBit k = true ↔ so = 1
      · by_cases hc : a (110 + 2 * k + 1) ≤ a (13 + 5 * j + 0)
        · rw [bI_t ⟨hin, hif, by rw [nn_nI (by omega)]; exact ht, by rw [nn_nI (by omega), nn_nI (by omega)]; exact hc⟩] at hQ
          refine z_aload_n dX8_mayTurn_0 rfl rfl ?_
          refine y_getR FX8_10 dX8_mayTurn_1 rfl h8 hx0 ?_
          refine y_getR FX8_79 dX8_mayTurn_4 rfl hs.o hs.f0 ?_
          refine z_astore dX8_mayTurn_7 (Nat.le_of_ble_eq_true rfl) ?_
          refine z_aload dX8_mayTurn_9 rfl ?_
          refine y_getR FX8_82 dX8_mayTurn_11 rfl hs.now.1 hs.now.2.1 ?_
          refine z_iload_n dX8_mayTurn_14 rfl rfl ?_
          refine y_callV (as := [_]) CX4_has LX8_140 IX4_has VX4_has ⟨rfl, Nat.le_of_ble_eq_true rfl⟩ dX8_mayTurn_15 hs.now.2.2.1.1 rfl (Nat.le_of_ble_eq_true rfl) (Nat.le_of_ble_eq_true rfl) (by omega) (s_has (k := 11) (w := 3) (ms := 5) (by exact hs.now.2.2.1) hP _) (rok_z bI_01) ⟨Nat.le_refl _, Nat.le_refl _, hN, hS⟩ ?_
          refine z_if_eq dX8_mayTurn_18 rfl (fun c => absurd c (bI_ne0.mpr hin)) (fun _ => ?_)
          refine z_aload_n dX8_mayTurn_21 rfl rfl ?_
          refine y_getR FX8_10 dX8_mayTurn_22 rfl h8 hx0 ?_
          refine y_getR FX8_65 dX8_mayTurn_25 rfl hs.o hs.f4 ?_
          refine z_iload_n dX8_mayTurn_28 rfl rfl ?_
          refine y_callV (as := [_]) CX4_has LX8_140 IX4_has VX4_has ⟨rfl, Nat.le_of_ble_eq_true rfl⟩ dX8_mayTurn_29 hs.facts.1 rfl (Nat.le_of_ble_eq_true rfl) (Nat.le_of_ble_eq_true rfl) (by omega) (s_has (k := 18) (w := 2) (ms := 8) (by exact (by exact hs.facts)) hF _) (rok_z bI_01) ⟨Nat.le_refl _, Nat.le_refl _, hN, hS⟩ ?_
          refine z_if_eq dX8_mayTurn_32 rfl (fun c => absurd c (bI_ne0.mpr hif)) (fun _ => ?_)
          refine z_aload dX8_mayTurn_35 rfl ?_
          refine z_iload_n dX8_mayTurn_37 rfl rfl ?_
          refine y_callV (as := [_]) CX7_isSo LX8_154 IX7_isSo VX7_isSo ⟨rfl, Nat.le_of_ble_eq_true rfl⟩ dX8_mayTurn_38 hs.now.1 rfl (Nat.le_of_ble_eq_true rfl) (Nat.le_of_ble_eq_true rfl) (by omega) (c_isSo (w := 10) (W := snap a) (f := k) (d := 1) (by exact (by exact hs.now)) hv.1 (by omega) (by rw [snap_3]; omega) (Nat.le_refl _)) (rok_z bI_01) ⟨Nat.le_refl _, Nat.le_refl _, hN, hS⟩ ?_
          refine z_iload_n dX8_mayTurn_41 rfl rfl ?_
          refine z_icmp_ne dX8_mayTurn_42 rfl (fun c => absurd ((bI_so hso).mpr ht) c) (fun _ => ?_)
          refine z_aload dX8_mayTurn_45 rfl ?_
          refine y_getR FX8_82 dX8_mayTurn_47 rfl hs.now.1 hs.now.2.1 ?_
          refine z_iload_n dX8_mayTurn_50 rfl rfl ?_
          refine z_iconst (v := 0) dX8_mayTurn_51 (by decide) ?_
          refine y_callV (as := [_, _]) CX4_get LX8_143 IX4_get VX4_get ⟨rfl, Nat.le_of_ble_eq_true rfl⟩ dX8_mayTurn_52 hs.now.2.2.1.1 rfl (Nat.le_of_ble_eq_true rfl) (Nat.le_of_ble_eq_true rfl) (by omega) (s_get (k := 11) (w := 3) (ms := 5) (i := j) (j := 0) (by exact hs.now.2.2.1) hP hj (by omega)) rok_i ⟨Nat.le_refl _, Nat.le_refl _, hN, hS⟩ ?_
          refine z_eqi (show _ = nI (a (13 + 5 * j + 0)) from wv_p hv.1 v1 hj (by omega)) ?_
          refine z_aload_n dX8_mayTurn_55 rfl rfl ?_
          refine y_getR FX8_10 dX8_mayTurn_56 rfl h8 hx0 ?_
          refine y_getR FX8_65 dX8_mayTurn_59 rfl hs.o hs.f4 ?_
          refine z_iload_n dX8_mayTurn_62 rfl rfl ?_
          refine z_iconst (v := 1) dX8_mayTurn_63 (by decide) ?_
          refine y_callV (as := [_, _]) CX4_get LX8_143 IX4_get VX4_get ⟨rfl, Nat.le_of_ble_eq_true rfl⟩ dX8_mayTurn_64 hs.facts.1 rfl (Nat.le_of_ble_eq_true rfl) (Nat.le_of_ble_eq_true rfl) (by omega) (s_get (k := 18) (w := 2) (ms := 8) (i := k) (j := 1) (by exact (by exact hs.facts)) hF hk (by omega)) rok_i ⟨Nat.le_refl _, Nat.le_refl _, hN, hS⟩ ?_
          refine z_eqi (show _ = nI (a (110 + 2 * k + 1)) from eF) ?_
          refine z_icmp_lt dX8_mayTurn_67 rfl (fun c => absurd c (fun q => absurd ((nI_ltI (by omega) (by omega)).mp q) (by omega))) (fun _ => ?_)
          refine z_iconst (v := 1) dX8_mayTurn_70 (by decide) ?_
          refine z_goto dX8_mayTurn_71 rfl ?_
          refine z_iret dX8_mayTurn_75 ?_
          exact hQ
        · rw [bI_f (fun q => hc (by have := q.2.2.2; rw [nn_nI (by omega), nn_nI (by omega)] at this; exact this))] at hQ
          refine z_aload_n dX8_mayTurn_0 rfl rfl ?_
          refine y_getR FX8_10 dX8_mayTurn_1 rfl h8 hx0 ?_
          refine y_getR FX8_79 dX8_mayTurn_4 rfl hs.o hs.f0 ?_
          refine z_astore dX8_mayTurn_7 (Nat.le_of_ble_eq_true rfl) ?_
          refine z_aload dX8_mayTurn_9 rfl ?_
          refine y_getR FX8_82 dX8_mayTurn_11 rfl hs.now.1 hs.now.2.1 ?_
          refine z_iload_n dX8_mayTurn_14 rfl rfl ?_
          refine y_callV (as := [_]) CX4_has LX8_140 IX4_has VX4_has ⟨rfl, Nat.le_of_ble_eq_true rfl⟩ dX8_mayTurn_15 hs.now.2.2.1.1 rfl (Nat.le_of_ble_eq_true rfl) (Nat.le_of_ble_eq_true rfl) (by omega) (s_has (k := 11) (w := 3) (ms := 5) (by exact hs.now.2.2.1) hP _) (rok_z bI_01) ⟨Nat.le_refl _, Nat.le_refl _, hN, hS⟩ ?_
          refine z_if_eq dX8_mayTurn_18 rfl (fun c => absurd c (bI_ne0.mpr hin)) (fun _ => ?_)
          refine z_aload_n dX8_mayTurn_21 rfl rfl ?_
          refine y_getR FX8_10 dX8_mayTurn_22 rfl h8 hx0 ?_
          refine y_getR FX8_65 dX8_mayTurn_25 rfl hs.o hs.f4 ?_
          refine z_iload_n dX8_mayTurn_28 rfl rfl ?_
          refine y_callV (as := [_]) CX4_has LX8_140 IX4_has VX4_has ⟨rfl, Nat.le_of_ble_eq_true rfl⟩ dX8_mayTurn_29 hs.facts.1 rfl (Nat.le_of_ble_eq_true rfl) (Nat.le_of_ble_eq_true rfl) (by omega) (s_has (k := 18) (w := 2) (ms := 8) (by exact (by exact hs.facts)) hF _) (rok_z bI_01) ⟨Nat.le_refl _, Nat.le_refl _, hN, hS⟩ ?_
          refine z_if_eq dX8_mayTurn_32 rfl (fun c => absurd c (bI_ne0.mpr hif)) (fun _ => ?_)
          refine z_aload dX8_mayTurn_35 rfl ?_
          refine z_iload_n dX8_mayTurn_37 rfl rfl ?_
          refine y_callV (as := [_]) CX7_isSo LX8_154 IX7_isSo VX7_isSo ⟨rfl, Nat.le_of_ble_eq_true rfl⟩ dX8_mayTurn_38 hs.now.1 rfl (Nat.le_of_ble_eq_true rfl) (Nat.le_of_ble_eq_true rfl) (by omega) (c_isSo (w := 10) (W := snap a) (f := k) (d := 1) (by exact (by exact hs.now)) hv.1 (by omega) (by rw [snap_3]; omega) (Nat.le_refl _)) (rok_z bI_01) ⟨Nat.le_refl _, Nat.le_refl _, hN, hS⟩ ?_
          refine z_iload_n dX8_mayTurn_41 rfl rfl ?_
          refine z_icmp_ne dX8_mayTurn_42 rfl (fun c => absurd ((bI_so hso).mpr ht) c) (fun _ => ?_)
          refine z_aload dX8_mayTurn_45 rfl ?_
          refine y_getR FX8_82 dX8_mayTurn_47 rfl hs.now.1 hs.now.2.1 ?_
          refine z_iload_n dX8_mayTurn_50 rfl rfl ?_
          refine z_iconst (v := 0) dX8_mayTurn_51 (by decide) ?_
          refine y_callV (as := [_, _]) CX4_get LX8_143 IX4_get VX4_get ⟨rfl, Nat.le_of_ble_eq_true rfl⟩ dX8_mayTurn_52 hs.now.2.2.1.1 rfl (Nat.le_of_ble_eq_true rfl) (Nat.le_of_ble_eq_true rfl) (by omega) (s_get (k := 11) (w := 3) (ms := 5) (i := j) (j := 0) (by exact hs.now.2.2.1) hP hj (by omega)) rok_i ⟨Nat.le_refl _, Nat.le_refl _, hN, hS⟩ ?_
          refine z_eqi (show _ = nI (a (13 + 5 * j + 0)) from wv_p hv.1 v1 hj (by omega)) ?_
          refine z_aload_n dX8_mayTurn_55 rfl rfl ?_
          refine y_getR FX8_10 dX8_mayTurn_56 rfl h8 hx0 ?_
          refine y_getR FX8_65 dX8_mayTurn_59 rfl hs.o hs.f4 ?_
          refine z_iload_n dX8_mayTurn_62 rfl rfl ?_
          refine z_iconst (v := 1) dX8_mayTurn_63 (by decide) ?_
          refine y_callV (as := [_, _]) CX4_get LX8_143 IX4_get VX4_get ⟨rfl, Nat.le_of_ble_eq_true rfl⟩ dX8_mayTurn_64 hs.facts.1 rfl (Nat.le_of_ble_eq_true rfl) (Nat.le_of_ble_eq_true rfl) (by omega) (s_get (k := 18) (w := 2) (ms := 8) (i := k) (j := 1) (by exact (by exact hs.facts)) hF hk (by omega)) rok_i ⟨Nat.le_refl _, Nat.le_refl _, hN, hS⟩ ?_
          refine z_eqi (show _ = nI (a (110 + 2 * k + 1)) from eF) ?_
          refine z_icmp_lt dX8_mayTurn_67 rfl (fun _ => ?_) (fun c => absurd ((nI_ltI (by omega) (by omega)).mpr (by omega)) c)
          refine z_iconst (v := 0) dX8_mayTurn_74 (by decide) ?_
          refine z_iret dX8_mayTurn_75 ?_
          exact hQ
      · rw [bI_f (fun q => ht (by have := q.2.2.1; rw [nn_nI (by omega)] at this; exact this))] at hQ
        refine z_aload_n dX8_mayTurn_0 rfl rfl ?_
        refine y_getR FX8_10 dX8_mayTurn_1 rfl h8 hx0 ?_
        refine y_getR FX8_79 dX8_mayTurn_4 rfl hs.o hs.f0 ?_
        refine z_astore dX8_mayTurn_7 (Nat.le_of_ble_eq_true rfl) ?_
        refine z_aload dX8_mayTurn_9 rfl ?_
        refine y_getR FX8_82 dX8_mayTurn_11 rfl hs.now.1 hs.now.2.1 ?_
        refine z_iload_n dX8_mayTurn_14 rfl rfl ?_
        refine y_callV (as := [_]) CX4_has LX8_140 IX4_has VX4_has ⟨rfl, Nat.le_of_ble_eq_true rfl⟩ dX8_mayTurn_15 hs.now.2.2.1.1 rfl (Nat.le_of_ble_eq_true rfl) (Nat.le_of_ble_eq_true rfl) (by omega) (s_has (k := 11) (w := 3) (ms := 5) (by exact hs.now.2.2.1) hP _) (rok_z bI_01) ⟨Nat.le_refl _, Nat.le_refl _, hN, hS⟩ ?_
        refine z_if_eq dX8_mayTurn_18 rfl (fun c => absurd c (bI_ne0.mpr hin)) (fun _ => ?_)
        refine z_aload_n dX8_mayTurn_21 rfl rfl ?_
        refine y_getR FX8_10 dX8_mayTurn_22 rfl h8 hx0 ?_
        refine y_getR FX8_65 dX8_mayTurn_25 rfl hs.o hs.f4 ?_
        refine z_iload_n dX8_mayTurn_28 rfl rfl ?_
        refine y_callV (as := [_]) CX4_has LX8_140 IX4_has VX4_has ⟨rfl, Nat.le_of_ble_eq_true rfl⟩ dX8_mayTurn_29 hs.facts.1 rfl (Nat.le_of_ble_eq_true rfl) (Nat.le_of_ble_eq_true rfl) (by omega) (s_has (k := 18) (w := 2) (ms := 8) (by exact (by exact hs.facts)) hF _) (rok_z bI_01) ⟨Nat.le_refl _, Nat.le_refl _, hN, hS⟩ ?_
        refine z_if_eq dX8_mayTurn_32 rfl (fun c => absurd c (bI_ne0.mpr hif)) (fun _ => ?_)
        refine z_aload dX8_mayTurn_35 rfl ?_
        refine z_iload_n dX8_mayTurn_37 rfl rfl ?_
        refine y_callV (as := [_]) CX7_isSo LX8_154 IX7_isSo VX7_isSo ⟨rfl, Nat.le_of_ble_eq_true rfl⟩ dX8_mayTurn_38 hs.now.1 rfl (Nat.le_of_ble_eq_true rfl) (Nat.le_of_ble_eq_true rfl) (by omega) (c_isSo (w := 10) (W := snap a) (f := k) (d := 1) (by exact (by exact hs.now)) hv.1 (by omega) (by rw [snap_3]; omega) (Nat.le_refl _)) (rok_z bI_01) ⟨Nat.le_refl _, Nat.le_refl _, hN, hS⟩ ?_
        refine z_iload_n dX8_mayTurn_41 rfl rfl ?_
        refine z_icmp_ne dX8_mayTurn_42 rfl (fun _ => ?_) (fun c => absurd c (fun q => ht ((bI_so hso).mp q)))
        refine z_iconst (v := 0) dX8_mayTurn_74 (by decide) ?_
        refine z_iret dX8_mayTurn_75 ?_
        exact hQ
    · rw [bI_f (fun q => hif q.2.1)] at hQ
      refine z_aload_n dX8_mayTurn_0 rfl rfl ?_
      refine y_getR FX8_10 dX8_mayTurn_1 rfl h8 hx0 ?_
      refine y_getR FX8_79 dX8_mayTurn_4 rfl hs.o hs.f0 ?_
      refine z_astore dX8_mayTurn_7 (Nat.le_of_ble_eq_true rfl) ?_
      refine z_aload dX8_mayTurn_9 rfl ?_
      refine y_getR FX8_82 dX8_mayTurn_11 rfl hs.now.1 hs.now.2.1 ?_
      refine z_iload_n dX8_mayTurn_14 rfl rfl ?_
      refine y_callV (as := [_]) CX4_has LX8_140 IX4_has VX4_has ⟨rfl, Nat.le_of_ble_eq_true rfl⟩ dX8_mayTurn_15 hs.now.2.2.1.1 rfl (Nat.le_of_ble_eq_true rfl) (Nat.le_of_ble_eq_true rfl) (by omega) (s_has (k := 11) (w := 3) (ms := 5) (by exact hs.now.2.2.1) hP _) (rok_z bI_01) ⟨Nat.le_refl _, Nat.le_refl _, hN, hS⟩ ?_
      refine z_if_eq dX8_mayTurn_18 rfl (fun c => absurd c (bI_ne0.mpr hin)) (fun _ => ?_)
      refine z_aload_n dX8_mayTurn_21 rfl rfl ?_
      refine y_getR FX8_10 dX8_mayTurn_22 rfl h8 hx0 ?_
      refine y_getR FX8_65 dX8_mayTurn_25 rfl hs.o hs.f4 ?_
      refine z_iload_n dX8_mayTurn_28 rfl rfl ?_
      refine y_callV (as := [_]) CX4_has LX8_140 IX4_has VX4_has ⟨rfl, Nat.le_of_ble_eq_true rfl⟩ dX8_mayTurn_29 hs.facts.1 rfl (Nat.le_of_ble_eq_true rfl) (Nat.le_of_ble_eq_true rfl) (by omega) (s_has (k := 18) (w := 2) (ms := 8) (by exact (by exact hs.facts)) hF _) (rok_z bI_01) ⟨Nat.le_refl _, Nat.le_refl _, hN, hS⟩ ?_
      refine z_if_eq dX8_mayTurn_32 rfl (fun _ => ?_) (fun c => absurd (bI_eq0.mpr hif) c)
      refine z_iconst (v := 0) dX8_mayTurn_74 (by decide) ?_
      refine z_iret dX8_mayTurn_75 ?_
      exact hQ
  · rw [bI_f (fun q => hin q.1)] at hQ
    refine z_aload_n dX8_mayTurn_0 rfl rfl ?_
    refine y_getR FX8_10 dX8_mayTurn_1 rfl h8 hx0 ?_
    refine y_getR FX8_79 dX8_mayTurn_4 rfl hs.o hs.f0 ?_
    refine z_astore dX8_mayTurn_7 (Nat.le_of_ble_eq_true rfl) ?_
    refine z_aload dX8_mayTurn_9 rfl ?_
    refine y_getR FX8_82 dX8_mayTurn_11 rfl hs.now.1 hs.now.2.1 ?_
    refine z_iload_n dX8_mayTurn_14 rfl rfl ?_
    refine y_callV (as := [_]) CX4_has LX8_140 IX4_has VX4_has ⟨rfl, Nat.le_of_ble_eq_true rfl⟩ dX8_mayTurn_15 hs.now.2.2.1.1 rfl (Nat.le_of_ble_eq_true rfl) (Nat.le_of_ble_eq_true rfl) (by omega) (s_has (k := 11) (w := 3) (ms := 5) (by exact hs.now.2.2.1) hP _) (rok_z bI_01) ⟨Nat.le_refl _, Nat.le_refl _, hN, hS⟩ ?_
    refine z_if_eq dX8_mayTurn_18 rfl (fun _ => ?_) (fun c => absurd (bI_eq0.mpr hin) c)
    refine z_iconst (v := 0) dX8_mayTurn_74 (by decide) ?_
    refine z_iret dX8_mayTurn_75 ?_
    exact hQ

theorem c_doTurn {h : Hp} {d j k : Nat} {a : Fl} {tx : Nat → Nat → Prop} (h8 : IO h 8 8) (hx0 : pR h 8 0 = some 9) (hs : MkS h 9) (hv : MV h 9 a tx) (hi : IC a) (hj : j < a 1) (hk : k < a 0) (hc : a (110 + 2 * k + 1) ≤ snap a (ppx j 0)) (hd : 2 ≤ d) : ∃ h1, Sp d mX8_doTurn [.ref 8, .int (nI j), .int (nI k)] h none h1 ∧ MV h1 9 (mTurn a j k) tx ∧ FR 9 236 h h1 := by
  have v0 := hi.1
  have hF : RwC h 18 2 8 (a 0) := hv.2.2.2.2.1.1
  have eF : pI h 19 (k * 2 + 1) = nI (a (110 + 2 * k + 1)) := mv_f hv hk (by omega)
  refine ⟨sI (sI h 12 (j * 3 + 0) (nI (snap a (ppx j 0) - a (110 + 2 * k + 1)))) 10 2 (nI (a 10 ^^^ 2 ^ k)), ?_, ?_, (FR.rf.sI (by omega)).sI (by omega)⟩
  · intro N S Q hN hS hQ
    refine z_aload_n dX8_doTurn_0 rfl rfl ?_
    refine y_getR FX8_10 dX8_doTurn_1 rfl h8 hx0 ?_
    refine y_getR FX8_79 dX8_doTurn_4 rfl hs.o hs.f0 ?_
    refine z_astore_n dX8_doTurn_7 rfl (Nat.le_of_ble_eq_true rfl) ?_
    refine z_aload_n dX8_doTurn_8 rfl rfl ?_
    refine z_iload_n dX8_doTurn_9 rfl rfl ?_
    refine z_aload_n dX8_doTurn_10 rfl rfl ?_
    refine y_getR FX8_10 dX8_doTurn_11 rfl h8 hx0 ?_
    refine y_getR FX8_65 dX8_doTurn_14 rfl hs.o hs.f4 ?_
    refine z_iload_n dX8_doTurn_17 rfl rfl ?_
    refine z_iconst (v := 1) dX8_doTurn_18 (by decide) ?_
    refine y_callV (as := [_, _]) CX4_get LX8_143 IX4_get VX4_get ⟨rfl, Nat.le_of_ble_eq_true rfl⟩ dX8_doTurn_19 hs.facts.1 rfl (Nat.le_of_ble_eq_true rfl) (Nat.le_of_ble_eq_true rfl) (by omega) (s_get (k := 18) (w := 2) (ms := 8) (i := k) (j := 1) (by exact (by exact hs.facts)) hF hk (by omega)) rok_i ⟨Nat.le_refl _, Nat.le_refl _, hN, hS⟩ ?_
    refine z_eqi (show _ = nI (a (110 + 2 * k + 1)) from eF) ?_
    refine y_callV (as := [_, _]) CX7_lose LX8_157 IX7_lose VX7_lose ⟨rfl, Nat.le_of_ble_eq_true rfl⟩ dX8_doTurn_22 hs.now.1 rfl (Nat.le_of_ble_eq_true rfl) (Nat.le_of_ble_eq_true rfl) (by omega) (c_lose (w := 10) (W := snap a) (p := j) (m := a (110 + 2 * k + 1)) (d := 1) (by exact (by exact hs.now)) hv.1 hj hc (Nat.le_refl _)) rok_v ⟨Nat.le_refl _, Nat.le_refl _, hN, hS⟩ ?_
    refine z_aload_n dX8_doTurn_25 rfl rfl ?_
    refine z_dup dX8_doTurn_26 rfl ?_
    refine y_getI FX8_160 dX8_doTurn_27 (Or.inl rfl) hs.now.1 ?_
    refine z_eqi (show _ = nI (a 10) by rw [pI_sI_ne (by omega)]; exact hv.1.2.2.1) ?_
    refine z_iload_n dX8_doTurn_30 rfl rfl ?_
    refine y_callS (as := [_]) CX8_bit LX8_163 SX8_bit dX8_doTurn_31 rfl (Nat.le_of_ble_eq_true rfl) (Nat.le_of_ble_eq_true rfl) (by omega) (s_bit _) rok_i ⟨Nat.le_refl _, Nat.le_refl _, hN, hS⟩ ?_
    refine z_eqi (nI_bit (show k < 31 by omega)) ?_
    refine z_ixor dX8_doTurn_34 ?_
    refine z_eqi (nI_xor (a 10) (2 ^ k)) ?_
    refine y_putI FX8_160 dX8_doTurn_35 (Or.inl rfl) (Or.inl rfl) hs.now.1 ?_
    refine z_vret dX8_doTurn_38 ?_
    exact hQ
  · refine hv.now hi.2.2.2.2.1 rfl (fun k hk => ?_) (fun i hi => uns_o (by omega)) ?_
    · rw [pI_sI_ne (by omega), pI_sI_ne (by omega)]
    · have w1 := WV.setP (w := 10) hv.1 hj (show 0 < 3 by omega) (v := snap a (ppx j 0) - a (110 + 2 * k + 1)) rfl
      have w2 := w1.set (j := 2) (v := a 10 ^^^ 2 ^ k) (by omega) rfl
      exact w2.cg (fun i hi => (snap_uns hi).symm)

theorem C_bring {h : Hp} {d : Nat} {a : Fl} {tx : Nat → Nat → Prop} (h8 : IO h 8 8) (hx0 : pR h 8 0 = some 9) (hs : MkS h 9) (hv : MV h 9 a tx) (hi : IC a) (hp : IP a) (hf : IFc a) (p f : Int32) (hd : 4 ≤ d) : ∃ h1, Sp d mX8_bring [.ref 8, .int p, .int f] h (some (.int (mBring a 0 p f).1)) h1 ∧ MV h1 9 (mBring a 0 p f).2 tx ∧ FR 9 236 h h1 := by
  have v0 := hi.1
  have v1 := hi.2.1
  by_cases hc : okT a p f 0
  · have eq : mBring a 0 p f = (1, mTurn (mKeep a) (nn p) (nn f)) := if_pos hc
    rw [eq]
    obtain ⟨h1, h2, h3, h4⟩ := id hc
    obtain ⟨j, hj, rfl⟩ := vin_of (by omega) h1
    obtain ⟨k, hk, rfl⟩ := vin_of (by omega) h2
    obtain ⟨k1h, k1, k2, k3⟩ := c_remember (d := 3) hs hv hi.2.2.2.2.1 (by omega)
    rw [nn_nI (by omega), nn_nI (by omega)] at h4 ⊢
    have hk0 : mKeep a 0 = a 0 := mKeep_out hi.2.2.2.2.1 (by omega) (by omega)
    have hk1 : mKeep a 1 = a 1 := mKeep_out hi.2.2.2.2.1 (by omega) (by omega)
    have hkp : mKeep a (13 + 5 * j + 0) = a (13 + 5 * j + 0) := mKeep_out hi.2.2.2.2.1 (by omega) (by omega)
    have hkf : mKeep a (110 + 2 * k + 1) = a (110 + 2 * k + 1) := mKeep_out hi.2.2.2.2.1 (by omega) (by omega)
    obtain ⟨fh, f1, f2, f3⟩ := c_doTurn (d := 2) (j := j) (k := k) (k3.1.O h8) (by rw [k3.1.R]; exact hx0) (k3.1.mk hs) k2 (IC.keep hi) (by rw [hk1]; exact hj) (by rw [hk0]; exact hk) (by rw [snap_pp (by omega) (by omega), hkp, hkf]; exact h4) (Nat.le_refl _)
    refine ⟨fh, ?_, f2, k3.tr f3⟩
    intro N S Q hN hS hQ
    have hN : pn h ≤ N := by rw [← (k3.tr f3).1.n]; exact hN
    have hS : ps h ≤ S := by rw [← (k3.tr f3).1.s]; exact hS
    refine z_aload_n dX8_bring_0 rfl rfl ?_
    refine z_iload_n dX8_bring_1 rfl rfl ?_
    refine z_iload_n dX8_bring_2 rfl rfl ?_
    refine z_iconst (v := 0) dX8_bring_3 (by decide) ?_
    refine y_callV (as := [_, _, _]) CX8_mayTurn LX8_147 IX8_mayTurn VX8_mayTurn ⟨rfl, Nat.le_of_ble_eq_true rfl⟩ dX8_bring_4 h8 rfl (Nat.le_of_ble_eq_true rfl) (Nat.le_of_ble_eq_true rfl) (by omega) (c_mayTurn (d := 2) (by exact h8) (by exact hx0) (by exact hs) hv hi hp hf _ _ (so := 0) (by omega) (Nat.le_refl _)) (rok_z bI_01) ⟨Nat.le_refl _, Nat.le_refl _, hN, hS⟩ ?_
    refine z_if_ne dX8_bring_7 rfl (fun _ => ?_) (fun c => absurd c (bI_ne0.mpr hc))
    refine z_aload_n dX8_bring_12 rfl rfl ?_
    refine y_getR FX8_10 dX8_bring_13 rfl h8 hx0 ?_
    refine y_callV (as := []) CX1_remember LX8_113 IX1_remember VX1_remember ⟨rfl, Nat.le_of_ble_eq_true rfl⟩ dX8_bring_16 hs.o rfl (Nat.le_of_ble_eq_true rfl) (Nat.le_of_ble_eq_true rfl) (by omega) k1 rok_v (hg_ss k3.1 hN hS) ?_
    refine z_aload_n dX8_bring_19 rfl rfl ?_
    refine z_iload_n dX8_bring_20 rfl rfl ?_
    refine z_iload_n dX8_bring_21 rfl rfl ?_
    refine y_callV (as := [_, _]) CX8_doTurn LX8_151 IX8_doTurn VX8_doTurn ⟨rfl, Nat.le_of_ble_eq_true rfl⟩ dX8_bring_22 (k3.1.O h8) rfl (Nat.le_of_ble_eq_true rfl) (Nat.le_of_ble_eq_true rfl) (by omega) f1 rok_v (hg_ss f3.1 (by rw [k3.1.n]; exact hN) (by rw [k3.1.s]; exact hS)) ?_
    refine z_iconst (v := 1) dX8_bring_25 (by decide) ?_
    refine z_iret dX8_bring_26 ?_
    exact hQ
  · have eq : mBring a 0 p f = (0, a) := if_neg hc
    rw [eq]
    refine ⟨h, ?_, hv, FR.rf⟩
    intro N S Q hN hS hQ
    refine z_aload_n dX8_bring_0 rfl rfl ?_
    refine z_iload_n dX8_bring_1 rfl rfl ?_
    refine z_iload_n dX8_bring_2 rfl rfl ?_
    refine z_iconst (v := 0) dX8_bring_3 (by decide) ?_
    refine y_callV (as := [_, _, _]) CX8_mayTurn LX8_147 IX8_mayTurn VX8_mayTurn ⟨rfl, Nat.le_of_ble_eq_true rfl⟩ dX8_bring_4 h8 rfl (Nat.le_of_ble_eq_true rfl) (Nat.le_of_ble_eq_true rfl) (by omega) (c_mayTurn (d := 2) (by exact h8) (by exact hx0) (by exact hs) hv hi hp hf _ _ (so := 0) (by omega) (Nat.le_refl _)) (rok_z bI_01) ⟨Nat.le_refl _, Nat.le_refl _, hN, hS⟩ ?_
    refine z_if_ne dX8_bring_7 rfl (fun c => absurd (bI_eq0.mpr hc) c) (fun _ => ?_)
    refine z_iconst (v := 0) dX8_bring_10 (by decide) ?_
    refine z_iret dX8_bring_11 ?_
    exact hQ

theorem C_spoil {h : Hp} {d : Nat} {a : Fl} {tx : Nat → Nat → Prop} (h8 : IO h 8 8) (hx0 : pR h 8 0 = some 9) (hs : MkS h 9) (hv : MV h 9 a tx) (hi : IC a) (hp : IP a) (hf : IFc a) (p f : Int32) (hd : 4 ≤ d) : ∃ h1, Sp d mX8_spoil [.ref 8, .int p, .int f] h (some (.int (mBring a 1 p f).1)) h1 ∧ MV h1 9 (mBring a 1 p f).2 tx ∧ FR 9 236 h h1 := by
  have v0 := hi.1
  have v1 := hi.2.1
  by_cases hc : okT a p f 1
  · have eq : mBring a 1 p f = (1, mTurn (mKeep a) (nn p) (nn f)) := if_pos hc
    rw [eq]
    obtain ⟨h1, h2, h3, h4⟩ := id hc
    obtain ⟨j, hj, rfl⟩ := vin_of (by omega) h1
    obtain ⟨k, hk, rfl⟩ := vin_of (by omega) h2
    obtain ⟨k1h, k1, k2, k3⟩ := c_remember (d := 3) hs hv hi.2.2.2.2.1 (by omega)
    rw [nn_nI (by omega), nn_nI (by omega)] at h4 ⊢
    have hk0 : mKeep a 0 = a 0 := mKeep_out hi.2.2.2.2.1 (by omega) (by omega)
    have hk1 : mKeep a 1 = a 1 := mKeep_out hi.2.2.2.2.1 (by omega) (by omega)
    have hkp : mKeep a (13 + 5 * j + 0) = a (13 + 5 * j + 0) := mKeep_out hi.2.2.2.2.1 (by omega) (by omega)
    have hkf : mKeep a (110 + 2 * k + 1) = a (110 + 2 * k + 1) := mKeep_out hi.2.2.2.2.1 (by omega) (by omega)
    obtain ⟨fh, f1, f2, f3⟩ := c_doTurn (d := 2) (j := j) (k := k) (k3.1.O h8) (by rw [k3.1.R]; exact hx0) (k3.1.mk hs) k2 (IC.keep hi) (by rw [hk1]; exact hj) (by rw [hk0]; exact hk) (by rw [snap_pp (by omega) (by omega), hkp, hkf]; exact h4) (Nat.le_refl _)
    refine ⟨fh, ?_, f2, k3.tr f3⟩
    intro N S Q hN hS hQ
    have hN : pn h ≤ N := by rw [← (k3.tr f3).1.n]; exact hN
    have hS : ps h ≤ S := by rw [← (k3.tr f3).1.s]; exact hS
    refine z_aload_n dX8_spoil_0 rfl rfl ?_
    refine z_iload_n dX8_spoil_1 rfl rfl ?_
    refine z_iload_n dX8_spoil_2 rfl rfl ?_
    refine z_iconst (v := 1) dX8_spoil_3 (by decide) ?_
    refine y_callV (as := [_, _, _]) CX8_mayTurn LX8_147 IX8_mayTurn VX8_mayTurn ⟨rfl, Nat.le_of_ble_eq_true rfl⟩ dX8_spoil_4 h8 rfl (Nat.le_of_ble_eq_true rfl) (Nat.le_of_ble_eq_true rfl) (by omega) (c_mayTurn (d := 2) (by exact h8) (by exact hx0) (by exact hs) hv hi hp hf _ _ (so := 1) (by omega) (Nat.le_refl _)) (rok_z bI_01) ⟨Nat.le_refl _, Nat.le_refl _, hN, hS⟩ ?_
    refine z_if_ne dX8_spoil_7 rfl (fun _ => ?_) (fun c => absurd c (bI_ne0.mpr hc))
    refine z_aload_n dX8_spoil_12 rfl rfl ?_
    refine y_getR FX8_10 dX8_spoil_13 rfl h8 hx0 ?_
    refine y_callV (as := []) CX1_remember LX8_113 IX1_remember VX1_remember ⟨rfl, Nat.le_of_ble_eq_true rfl⟩ dX8_spoil_16 hs.o rfl (Nat.le_of_ble_eq_true rfl) (Nat.le_of_ble_eq_true rfl) (by omega) k1 rok_v (hg_ss k3.1 hN hS) ?_
    refine z_aload_n dX8_spoil_19 rfl rfl ?_
    refine z_iload_n dX8_spoil_20 rfl rfl ?_
    refine z_iload_n dX8_spoil_21 rfl rfl ?_
    refine y_callV (as := [_, _]) CX8_doTurn LX8_151 IX8_doTurn VX8_doTurn ⟨rfl, Nat.le_of_ble_eq_true rfl⟩ dX8_spoil_22 (k3.1.O h8) rfl (Nat.le_of_ble_eq_true rfl) (Nat.le_of_ble_eq_true rfl) (by omega) f1 rok_v (hg_ss f3.1 (by rw [k3.1.n]; exact hN) (by rw [k3.1.s]; exact hS)) ?_
    refine z_iconst (v := 1) dX8_spoil_25 (by decide) ?_
    refine z_iret dX8_spoil_26 ?_
    exact hQ
  · have eq : mBring a 1 p f = (0, a) := if_neg hc
    rw [eq]
    refine ⟨h, ?_, hv, FR.rf⟩
    intro N S Q hN hS hQ
    refine z_aload_n dX8_spoil_0 rfl rfl ?_
    refine z_iload_n dX8_spoil_1 rfl rfl ?_
    refine z_iload_n dX8_spoil_2 rfl rfl ?_
    refine z_iconst (v := 1) dX8_spoil_3 (by decide) ?_
    refine y_callV (as := [_, _, _]) CX8_mayTurn LX8_147 IX8_mayTurn VX8_mayTurn ⟨rfl, Nat.le_of_ble_eq_true rfl⟩ dX8_spoil_4 h8 rfl (Nat.le_of_ble_eq_true rfl) (Nat.le_of_ble_eq_true rfl) (by omega) (c_mayTurn (d := 2) (by exact h8) (by exact hx0) (by exact hs) hv hi hp hf _ _ (so := 1) (by omega) (Nat.le_refl _)) (rok_z bI_01) ⟨Nat.le_refl _, Nat.le_refl _, hN, hS⟩ ?_
    refine z_if_ne dX8_spoil_7 rfl (fun c => absurd (bI_eq0.mpr hc) c) (fun _ => ?_)
    refine z_iconst (v := 0) dX8_spoil_10 (by decide) ?_
    refine z_iret dX8_spoil_11 ?_
    exact hQ

