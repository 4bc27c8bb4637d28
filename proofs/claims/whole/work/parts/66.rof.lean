/-! ofFact, word, of: the reference (walks by program: wip/whole/gen66.py) -/
def mOfFact (tf : Nat → Int32) (a : Fl) (f w : Int32) : Int32 := if vin f (a 0) ∧ inr w 0 3 then (if nn w ≤ 1 then nI (a (110 + 2 * nn f + nn w)) else if nn w = 2 then nI (if (a 10).testBit (nn f) then 1 else 0) else nI (mComes tf a (snap a) (nn f))) else -2
def mWord (tf : Nat → Int32) (a : Fl) (k w : Int32) : Int32 := if vin k (a 11) ∧ inr w 0 7 then (if nn w ≤ 5 then nI (a (38 + 6 * nn k + nn w)) else if nn w = 6 then nI (mDues tf (a 3) (snap a) (nn k)) else bI (metB (a (38 + 6 * nn k + 1)) (a (38 + 6 * nn k + 2)) (a 10) = true)) else -2
def oweF (tf : Nat → Int32) (a : Fl) (p : Nat) : Nat → Nat := fun k => if a (38 + 6 * k + 5) = 0 ∧ a (38 + 6 * k + 0) = p then mDues tf (a 3) (snap a) k else 0
def mOf (tf : Nat → Int32) (a : Fl) (p w : Int32) : Int32 := if vin p (a 1) ∧ inr w 0 4 then (if nn w ≤ 2 then nI (a (13 + 5 * nn p + nn w)) else if nn w = 3 then nI (opn a (nn p) (a 11)) else nI (sumF (oweF tf a (nn p)) (a 11))) else -2
theorem mDues_le {tf : Nat → Int32} {t1 k n : Nat} {W : Fl} (hW : IW n W) (hk : k < W 4) : mDues tf t1 W k ≤ 9999 := mSays_le (by have := (hW.2.2.1 k hk).2.2.2.2.2.1; omega)

theorem R_ofFact {s : Ms} {h : Hp} {d : Nat} (hr : RM s h) (hv : IC s.1) (hp : IP s.1) (hq : IQ s.1) (hf : IFc s.1) (hW : IW (s.1 0) (snap s.1)) (hT : s.1 3 ≠ 0 → TXV s.2.2.2.2.2.2 (s.1 3 - 1)) (f w : Int32) (hd : 5 ≤ d) : ∃ h1, Sp d mX9_ofFact [.ref 488, .int f, .int w] h (some (.int (mOfFact s.2.2.2.2.2.2 s.1 f w))) h1 ∧ FY h h1 := by
  have hm := hr.m
  have v0 := hv.1
  have v1 := hv.2.1
  have v2 := hv.2.2.1
  have v3 := hv.2.2.2.1
  have v10 := hv.2.2.2.2.2.2.2.2.2.2.1
  have v11 := hv.2.2.2.2.2.2.2.2.2.2.2.1
  have hrn : RN (uns s.1 (snap s.1), s.2) h := hr.un.n.1
  have e0 : pI h 489 0 = nI (s.1 0) := hr.at (by omega) (by omega)
  have e1 : pI h 489 1 = nI (s.1 1) := hr.at (by omega) (by omega)
  have e11 : pI h 489 11 = nI (s.1 11) := hr.at (by omega) (by omega)
  unfold mOfFact
  by_cases hin : vin f (s.1 0)
  · by_cases hw : inr w 0 3
    · rw [if_pos ⟨hin, hw⟩]
      obtain ⟨k, hk, rfl⟩ := vin_of (by omega) hin
      obtain ⟨j, hj, rfl⟩ := inr_of (n := 3) (by omega) hw
      rw [nn_nI (by omega), nn_nI (by omega)]
      rcases (show j = 0 ∨ j = 1 ∨ j = 2 ∨ j = 3 by omega) with rfl | rfl | rfl | rfl
      · refine ⟨h, ?_, FY.rf⟩
        intro N S Q hN hS hQ
        refine z_aload_n dX9_ofFact_0 rfl rfl ?_
        refine z_iload_n dX9_ofFact_1 rfl rfl ?_
        refine y_callV (as := [_]) CX9_isFact LX9_381 IX9_isFact VX9_isFact ⟨rfl, Nat.le_of_ble_eq_true rfl⟩ dX9_ofFact_2 hm.o rfl (Nat.le_of_ble_eq_true rfl) (Nat.le_of_ble_eq_true rfl) (by omega) (r_isFact (d := 1) (by exact (by exact hm)) e0 (by omega) _ (Nat.le_refl _)) (rok_z bI_01) ⟨Nat.le_refl _, Nat.le_refl _, hN, hS⟩ ?_
        refine z_if_ne dX9_ofFact_5 rfl (fun _ => ?_) (fun c => absurd c (bI_ne0.mpr hin))
        refine z_iload_n dX9_ofFact_11 rfl rfl ?_
        refine z_iconst (v := 0) dX9_ofFact_12 (by decide) ?_
        refine z_iconst (v := 1) dX9_ofFact_13 (by decide) ?_
        refine y_callS (as := [_, _, _]) CX9_isIn LX9_63 SX9_isIn dX9_ofFact_14 rfl (Nat.le_of_ble_eq_true rfl) (Nat.le_of_ble_eq_true rfl) (by omega) (r_isIn _ _ _) (rok_z bI_01) ⟨Nat.le_refl _, Nat.le_refl _, hN, hS⟩ ?_
        refine z_if_eq dX9_ofFact_17 rfl (fun c => absurd c (bI_ne0.mpr (by decide))) (fun _ => ?_)
        refine z_aload_n dX9_ofFact_20 rfl rfl ?_
        refine y_getR FX9_7 dX9_ofFact_21 rfl hm.o hm.f_a ?_
        refine z_bipush (v := 110) dX9_ofFact_24 (by decide) ?_
        refine z_iconst (v := 2) dX9_ofFact_26 (by decide) ?_
        refine z_iload_n dX9_ofFact_27 rfl rfl ?_
        refine z_imul dX9_ofFact_28 ?_
        refine z_iadd dX9_ofFact_29 ?_
        refine z_iload_n dX9_ofFact_30 rfl rfl ?_
        refine z_iadd dX9_ofFact_31 ?_
        refine y_ialN (110 + 2 * k + 0) dX9_ofFact_32 hm.A_a (Nat.le_of_ble_eq_true rfl) (by simp only [← nI_add, ← pk_mul]; rfl) (by omega) ?_
        refine z_eqi (show _ = nI (s.1 (110 + 2 * k + 0)) from hr.at (by omega) (by omega)) ?_
        refine z_goto dX9_ofFact_33 rfl ?_
        refine z_iret dX9_ofFact_70 ?_
        exact hQ
      · refine ⟨h, ?_, FY.rf⟩
        intro N S Q hN hS hQ
        refine z_aload_n dX9_ofFact_0 rfl rfl ?_
        refine z_iload_n dX9_ofFact_1 rfl rfl ?_
        refine y_callV (as := [_]) CX9_isFact LX9_381 IX9_isFact VX9_isFact ⟨rfl, Nat.le_of_ble_eq_true rfl⟩ dX9_ofFact_2 hm.o rfl (Nat.le_of_ble_eq_true rfl) (Nat.le_of_ble_eq_true rfl) (by omega) (r_isFact (d := 1) (by exact (by exact hm)) e0 (by omega) _ (Nat.le_refl _)) (rok_z bI_01) ⟨Nat.le_refl _, Nat.le_refl _, hN, hS⟩ ?_
        refine z_if_ne dX9_ofFact_5 rfl (fun _ => ?_) (fun c => absurd c (bI_ne0.mpr hin))
        refine z_iload_n dX9_ofFact_11 rfl rfl ?_
        refine z_iconst (v := 0) dX9_ofFact_12 (by decide) ?_
        refine z_iconst (v := 1) dX9_ofFact_13 (by decide) ?_
        refine y_callS (as := [_, _, _]) CX9_isIn LX9_63 SX9_isIn dX9_ofFact_14 rfl (Nat.le_of_ble_eq_true rfl) (Nat.le_of_ble_eq_true rfl) (by omega) (r_isIn _ _ _) (rok_z bI_01) ⟨Nat.le_refl _, Nat.le_refl _, hN, hS⟩ ?_
        refine z_if_eq dX9_ofFact_17 rfl (fun c => absurd c (bI_ne0.mpr (by decide))) (fun _ => ?_)
        refine z_aload_n dX9_ofFact_20 rfl rfl ?_
        refine y_getR FX9_7 dX9_ofFact_21 rfl hm.o hm.f_a ?_
        refine z_bipush (v := 110) dX9_ofFact_24 (by decide) ?_
        refine z_iconst (v := 2) dX9_ofFact_26 (by decide) ?_
        refine z_iload_n dX9_ofFact_27 rfl rfl ?_
        refine z_imul dX9_ofFact_28 ?_
        refine z_iadd dX9_ofFact_29 ?_
        refine z_iload_n dX9_ofFact_30 rfl rfl ?_
        refine z_iadd dX9_ofFact_31 ?_
        refine y_ialN (110 + 2 * k + 1) dX9_ofFact_32 hm.A_a (Nat.le_of_ble_eq_true rfl) (by simp only [← nI_add, ← pk_mul]; rfl) (by omega) ?_
        refine z_eqi (show _ = nI (s.1 (110 + 2 * k + 1)) from hr.at (by omega) (by omega)) ?_
        refine z_goto dX9_ofFact_33 rfl ?_
        refine z_iret dX9_ofFact_70 ?_
        exact hQ
      · refine ⟨h, ?_, FY.rf⟩
        intro N S Q hN hS hQ
        refine z_aload_n dX9_ofFact_0 rfl rfl ?_
        refine z_iload_n dX9_ofFact_1 rfl rfl ?_
        refine y_callV (as := [_]) CX9_isFact LX9_381 IX9_isFact VX9_isFact ⟨rfl, Nat.le_of_ble_eq_true rfl⟩ dX9_ofFact_2 hm.o rfl (Nat.le_of_ble_eq_true rfl) (Nat.le_of_ble_eq_true rfl) (by omega) (r_isFact (d := 1) (by exact (by exact hm)) e0 (by omega) _ (Nat.le_refl _)) (rok_z bI_01) ⟨Nat.le_refl _, Nat.le_refl _, hN, hS⟩ ?_
        refine z_if_ne dX9_ofFact_5 rfl (fun _ => ?_) (fun c => absurd c (bI_ne0.mpr hin))
        refine z_iload_n dX9_ofFact_11 rfl rfl ?_
        refine z_iconst (v := 0) dX9_ofFact_12 (by decide) ?_
        refine z_iconst (v := 1) dX9_ofFact_13 (by decide) ?_
        refine y_callS (as := [_, _, _]) CX9_isIn LX9_63 SX9_isIn dX9_ofFact_14 rfl (Nat.le_of_ble_eq_true rfl) (Nat.le_of_ble_eq_true rfl) (by omega) (r_isIn _ _ _) (rok_z bI_01) ⟨Nat.le_refl _, Nat.le_refl _, hN, hS⟩ ?_
        refine z_if_eq dX9_ofFact_17 rfl (fun _ => ?_) (fun c => absurd (bI_eq0.mpr (by decide)) c)
        refine z_iload_n dX9_ofFact_36 rfl rfl ?_
        refine z_iconst (v := 2) dX9_ofFact_37 (by decide) ?_
        refine z_icmp_ne dX9_ofFact_38 rfl (fun c => absurd (rfl) c) (fun _ => ?_)
        refine z_aload_n dX9_ofFact_41 rfl rfl ?_
        refine y_getR FX9_7 dX9_ofFact_42 rfl hm.o hm.f_a ?_
        refine z_bipush (v := 10) dX9_ofFact_45 (by decide) ?_
        refine y_ialN (10) dX9_ofFact_47 hm.A_a (Nat.le_of_ble_eq_true rfl) (rfl) (by omega) ?_
        refine z_eqi (show _ = nI (s.1 10) from hr.at (by omega) (by omega)) ?_
        refine z_iload_n dX9_ofFact_48 rfl rfl ?_
        refine z_ishr dX9_ofFact_49 ?_
        refine z_iconst (v := 1) dX9_ofFact_50 (by decide) ?_
        refine z_iand dX9_ofFact_51 ?_
        refine z_eqi (show _ = nI (if (s.1 10).testBit k then 1 else 0) by rw [has_bit (by omega) (by omega), testBit_mod]) ?_
        refine z_goto dX9_ofFact_52 rfl ?_
        refine z_iret dX9_ofFact_70 ?_
        exact hQ
      · obtain ⟨g, r1, r2⟩ := r_comesOf (d := 4) (f := k) hrn hW rfl v0 (by omega) hk hf hT (Nat.le_refl _)
        refine ⟨g, ?_, r2⟩
        intro N S Q hN hS hQ
        have hN : pn h ≤ N := by rw [← r2.1.n]; exact hN
        have hS : ps h ≤ S := by rw [← r2.1.s]; exact hS
        refine z_aload_n dX9_ofFact_0 rfl rfl ?_
        refine z_iload_n dX9_ofFact_1 rfl rfl ?_
        refine y_callV (as := [_]) CX9_isFact LX9_381 IX9_isFact VX9_isFact ⟨rfl, Nat.le_of_ble_eq_true rfl⟩ dX9_ofFact_2 hm.o rfl (Nat.le_of_ble_eq_true rfl) (Nat.le_of_ble_eq_true rfl) (by omega) (r_isFact (d := 1) (by exact (by exact hm)) e0 (by omega) _ (Nat.le_refl _)) (rok_z bI_01) ⟨Nat.le_refl _, Nat.le_refl _, hN, hS⟩ ?_
        refine z_if_ne dX9_ofFact_5 rfl (fun _ => ?_) (fun c => absurd c (bI_ne0.mpr hin))
        refine z_iload_n dX9_ofFact_11 rfl rfl ?_
        refine z_iconst (v := 0) dX9_ofFact_12 (by decide) ?_
        refine z_iconst (v := 1) dX9_ofFact_13 (by decide) ?_
        refine y_callS (as := [_, _, _]) CX9_isIn LX9_63 SX9_isIn dX9_ofFact_14 rfl (Nat.le_of_ble_eq_true rfl) (Nat.le_of_ble_eq_true rfl) (by omega) (r_isIn _ _ _) (rok_z bI_01) ⟨Nat.le_refl _, Nat.le_refl _, hN, hS⟩ ?_
        refine z_if_eq dX9_ofFact_17 rfl (fun _ => ?_) (fun c => absurd (bI_eq0.mpr (by decide)) c)
        refine z_iload_n dX9_ofFact_36 rfl rfl ?_
        refine z_iconst (v := 2) dX9_ofFact_37 (by decide) ?_
        refine z_icmp_ne dX9_ofFact_38 rfl (fun _ => ?_) (fun c => absurd c (by decide))
        refine z_iload_n dX9_ofFact_55 rfl rfl ?_
        refine z_iconst (v := 3) dX9_ofFact_56 (by decide) ?_
        refine z_icmp_ne dX9_ofFact_57 rfl (fun c => absurd (rfl) c) (fun _ => ?_)
        refine z_aload_n dX9_ofFact_60 rfl rfl ?_
        refine z_iload_n dX9_ofFact_61 rfl rfl ?_
        refine y_callV (as := [_]) CX9_comesOf LX9_347 IX9_comesOf VX9_comesOf ⟨rfl, Nat.le_of_ble_eq_true rfl⟩ dX9_ofFact_62 hm.o rfl (Nat.le_of_ble_eq_true rfl) (Nat.le_of_ble_eq_true rfl) (by omega) r1 rok_i (hg_ss r2.1 hN hS) ?_
        refine z_goto dX9_ofFact_65 rfl ?_
        refine z_iret dX9_ofFact_70 ?_
        exact hQ
    · rw [if_neg (fun q => hw q.2)]
      refine ⟨h, ?_, FY.rf⟩
      intro N S Q hN hS hQ
      refine z_aload_n dX9_ofFact_0 rfl rfl ?_
      refine z_iload_n dX9_ofFact_1 rfl rfl ?_
      refine y_callV (as := [_]) CX9_isFact LX9_381 IX9_isFact VX9_isFact ⟨rfl, Nat.le_of_ble_eq_true rfl⟩ dX9_ofFact_2 hm.o rfl (Nat.le_of_ble_eq_true rfl) (Nat.le_of_ble_eq_true rfl) (by omega) (r_isFact (d := 1) (by exact (by exact hm)) e0 (by omega) _ (Nat.le_refl _)) (rok_z bI_01) ⟨Nat.le_refl _, Nat.le_refl _, hN, hS⟩ ?_
      refine z_if_ne dX9_ofFact_5 rfl (fun _ => ?_) (fun c => absurd c (bI_ne0.mpr hin))
      refine z_iload_n dX9_ofFact_11 rfl rfl ?_
      refine z_iconst (v := 0) dX9_ofFact_12 (by decide) ?_
      refine z_iconst (v := 1) dX9_ofFact_13 (by decide) ?_
      refine y_callS (as := [_, _, _]) CX9_isIn LX9_63 SX9_isIn dX9_ofFact_14 rfl (Nat.le_of_ble_eq_true rfl) (Nat.le_of_ble_eq_true rfl) (by omega) (r_isIn _ _ _) (rok_z bI_01) ⟨Nat.le_refl _, Nat.le_refl _, hN, hS⟩ ?_
      refine z_if_eq dX9_ofFact_17 rfl (fun _ => ?_) (fun c => absurd (bI_eq0.mpr (fun q => hw ⟨q.1, Int32.le_trans q.2 (by decide)⟩)) c)
      refine z_iload_n dX9_ofFact_36 rfl rfl ?_
      refine z_iconst (v := 2) dX9_ofFact_37 (by decide) ?_
      refine z_icmp_ne dX9_ofFact_38 rfl (fun _ => ?_) (fun c => absurd c (fun q => hw (by rw [q]; decide)))
      refine z_iload_n dX9_ofFact_55 rfl rfl ?_
      refine z_iconst (v := 3) dX9_ofFact_56 (by decide) ?_
      refine z_icmp_ne dX9_ofFact_57 rfl (fun _ => ?_) (fun c => absurd c (fun q => hw (by rw [q]; decide)))
      refine z_bipush (v := -2) dX9_ofFact_68 (by decide) ?_
      refine z_iret dX9_ofFact_70 ?_
      exact hQ
  · rw [if_neg (fun q => hin q.1)]
    refine ⟨h, ?_, FY.rf⟩
    intro N S Q hN hS hQ
    refine z_aload_n dX9_ofFact_0 rfl rfl ?_
    refine z_iload_n dX9_ofFact_1 rfl rfl ?_
    refine y_callV (as := [_]) CX9_isFact LX9_381 IX9_isFact VX9_isFact ⟨rfl, Nat.le_of_ble_eq_true rfl⟩ dX9_ofFact_2 hm.o rfl (Nat.le_of_ble_eq_true rfl) (Nat.le_of_ble_eq_true rfl) (by omega) (r_isFact (d := 1) (by exact (by exact hm)) e0 (by omega) _ (Nat.le_refl _)) (rok_z bI_01) ⟨Nat.le_refl _, Nat.le_refl _, hN, hS⟩ ?_
    refine z_if_ne dX9_ofFact_5 rfl (fun c => absurd (bI_eq0.mpr hin) c) (fun _ => ?_)
    refine z_bipush (v := -2) dX9_ofFact_8 (by decide) ?_
    refine z_iret dX9_ofFact_10 ?_
    exact hQ

theorem R_word {s : Ms} {h : Hp} {d : Nat} (hr : RM s h) (hv : IC s.1) (hp : IP s.1) (hq : IQ s.1) (hf : IFc s.1) (hW : IW (s.1 0) (snap s.1)) (hT : s.1 3 ≠ 0 → TXV s.2.2.2.2.2.2 (s.1 3 - 1)) (k0 w : Int32) (hd : 5 ≤ d) : ∃ h1, Sp d mX9_word [.ref 488, .int k0, .int w] h (some (.int (mWord s.2.2.2.2.2.2 s.1 k0 w))) h1 ∧ FY h h1 := by
  have hm := hr.m
  have v0 := hv.1
  have v1 := hv.2.1
  have v2 := hv.2.2.1
  have v3 := hv.2.2.2.1
  have v10 := hv.2.2.2.2.2.2.2.2.2.2.1
  have v11 := hv.2.2.2.2.2.2.2.2.2.2.2.1
  have hrn : RN (uns s.1 (snap s.1), s.2) h := hr.un.n.1
  have e0 : pI h 489 0 = nI (s.1 0) := hr.at (by omega) (by omega)
  have e1 : pI h 489 1 = nI (s.1 1) := hr.at (by omega) (by omega)
  have e11 : pI h 489 11 = nI (s.1 11) := hr.at (by omega) (by omega)
  unfold mWord
  by_cases hin : vin k0 (s.1 11)
  · by_cases hw : inr w 0 7
    · rw [if_pos ⟨hin, hw⟩]
      obtain ⟨k, hk, rfl⟩ := vin_of (by omega) hin
      obtain ⟨j, hj, rfl⟩ := inr_of (n := 7) (by omega) hw
      rw [nn_nI (by omega), nn_nI (by omega)]
      have cq := hq k hk
      have p2 : 2 ^ s.1 0 ≤ 2 ^ 8 := Nat.pow_le_pow_right (by omega) v0
      rcases (show j = 0 ∨ j = 1 ∨ j = 2 ∨ j = 3 ∨ j = 4 ∨ j = 5 ∨ j = 6 ∨ j = 7 by omega) with rfl | rfl | rfl | rfl | rfl | rfl | rfl | rfl
      · refine ⟨h, ?_, FY.rf⟩
        intro N S Q hN hS hQ
        refine z_aload_n dX9_word_0 rfl rfl ?_
        refine z_iload_n dX9_word_1 rfl rfl ?_
        refine y_callV (as := [_]) CX9_isProphecy LX9_75 IX9_isProphecy VX9_isProphecy ⟨rfl, Nat.le_of_ble_eq_true rfl⟩ dX9_word_2 hm.o rfl (Nat.le_of_ble_eq_true rfl) (Nat.le_of_ble_eq_true rfl) (by omega) (r_isProphecy (d := 1) (by exact (by exact hm)) e11 (by omega) _ (Nat.le_refl _)) (rok_z bI_01) ⟨Nat.le_refl _, Nat.le_refl _, hN, hS⟩ ?_
        refine z_if_ne dX9_word_5 rfl (fun _ => ?_) (fun c => absurd c (bI_ne0.mpr hin))
        refine z_iload_n dX9_word_11 rfl rfl ?_
        refine z_iconst (v := 0) dX9_word_12 (by decide) ?_
        refine z_iconst (v := 5) dX9_word_13 (by decide) ?_
        refine y_callS (as := [_, _, _]) CX9_isIn LX9_63 SX9_isIn dX9_word_14 rfl (Nat.le_of_ble_eq_true rfl) (Nat.le_of_ble_eq_true rfl) (by omega) (r_isIn _ _ _) (rok_z bI_01) ⟨Nat.le_refl _, Nat.le_refl _, hN, hS⟩ ?_
        refine z_if_eq dX9_word_17 rfl (fun c => absurd c (bI_ne0.mpr (by decide))) (fun _ => ?_)
        refine z_aload_n dX9_word_20 rfl rfl ?_
        refine z_iload_n dX9_word_21 rfl rfl ?_
        refine z_iload_n dX9_word_22 rfl rfl ?_
        refine y_callV (as := [_, _]) CX9_got LX9_67 IX9_got VX9_got ⟨rfl, Nat.le_of_ble_eq_true rfl⟩ dX9_word_23 hm.o rfl (Nat.le_of_ble_eq_true rfl) (Nat.le_of_ble_eq_true rfl) (by omega) (r_got (j := k) (w := 0) (by exact (by exact hm)) (by omega) (by omega)) rok_i ⟨Nat.le_refl _, Nat.le_refl _, hN, hS⟩ ?_
        refine z_eqi (show _ = nI (s.1 (38 + 6 * k + 0)) from hr.at (by omega) (by omega)) ?_
        refine z_goto dX9_word_26 rfl ?_
        refine z_iret dX9_word_80 ?_
        exact hQ
      · refine ⟨h, ?_, FY.rf⟩
        intro N S Q hN hS hQ
        refine z_aload_n dX9_word_0 rfl rfl ?_
        refine z_iload_n dX9_word_1 rfl rfl ?_
        refine y_callV (as := [_]) CX9_isProphecy LX9_75 IX9_isProphecy VX9_isProphecy ⟨rfl, Nat.le_of_ble_eq_true rfl⟩ dX9_word_2 hm.o rfl (Nat.le_of_ble_eq_true rfl) (Nat.le_of_ble_eq_true rfl) (by omega) (r_isProphecy (d := 1) (by exact (by exact hm)) e11 (by omega) _ (Nat.le_refl _)) (rok_z bI_01) ⟨Nat.le_refl _, Nat.le_refl _, hN, hS⟩ ?_
        refine z_if_ne dX9_word_5 rfl (fun _ => ?_) (fun c => absurd c (bI_ne0.mpr hin))
        refine z_iload_n dX9_word_11 rfl rfl ?_
        refine z_iconst (v := 0) dX9_word_12 (by decide) ?_
        refine z_iconst (v := 5) dX9_word_13 (by decide) ?_
        refine y_callS (as := [_, _, _]) CX9_isIn LX9_63 SX9_isIn dX9_word_14 rfl (Nat.le_of_ble_eq_true rfl) (Nat.le_of_ble_eq_true rfl) (by omega) (r_isIn _ _ _) (rok_z bI_01) ⟨Nat.le_refl _, Nat.le_refl _, hN, hS⟩ ?_
        refine z_if_eq dX9_word_17 rfl (fun c => absurd c (bI_ne0.mpr (by decide))) (fun _ => ?_)
        refine z_aload_n dX9_word_20 rfl rfl ?_
        refine z_iload_n dX9_word_21 rfl rfl ?_
        refine z_iload_n dX9_word_22 rfl rfl ?_
        refine y_callV (as := [_, _]) CX9_got LX9_67 IX9_got VX9_got ⟨rfl, Nat.le_of_ble_eq_true rfl⟩ dX9_word_23 hm.o rfl (Nat.le_of_ble_eq_true rfl) (Nat.le_of_ble_eq_true rfl) (by omega) (r_got (j := k) (w := 1) (by exact (by exact hm)) (by omega) (by omega)) rok_i ⟨Nat.le_refl _, Nat.le_refl _, hN, hS⟩ ?_
        refine z_eqi (show _ = nI (s.1 (38 + 6 * k + 1)) from hr.at (by omega) (by omega)) ?_
        refine z_goto dX9_word_26 rfl ?_
        refine z_iret dX9_word_80 ?_
        exact hQ
      · refine ⟨h, ?_, FY.rf⟩
        intro N S Q hN hS hQ
        refine z_aload_n dX9_word_0 rfl rfl ?_
        refine z_iload_n dX9_word_1 rfl rfl ?_
        refine y_callV (as := [_]) CX9_isProphecy LX9_75 IX9_isProphecy VX9_isProphecy ⟨rfl, Nat.le_of_ble_eq_true rfl⟩ dX9_word_2 hm.o rfl (Nat.le_of_ble_eq_true rfl) (Nat.le_of_ble_eq_true rfl) (by omega) (r_isProphecy (d := 1) (by exact (by exact hm)) e11 (by omega) _ (Nat.le_refl _)) (rok_z bI_01) ⟨Nat.le_refl _, Nat.le_refl _, hN, hS⟩ ?_
        refine z_if_ne dX9_word_5 rfl (fun _ => ?_) (fun c => absurd c (bI_ne0.mpr hin))
        refine z_iload_n dX9_word_11 rfl rfl ?_
        refine z_iconst (v := 0) dX9_word_12 (by decide) ?_
        refine z_iconst (v := 5) dX9_word_13 (by decide) ?_
        refine y_callS (as := [_, _, _]) CX9_isIn LX9_63 SX9_isIn dX9_word_14 rfl (Nat.le_of_ble_eq_true rfl) (Nat.le_of_ble_eq_true rfl) (by omega) (r_isIn _ _ _) (rok_z bI_01) ⟨Nat.le_refl _, Nat.le_refl _, hN, hS⟩ ?_
        refine z_if_eq dX9_word_17 rfl (fun c => absurd c (bI_ne0.mpr (by decide))) (fun _ => ?_)
        refine z_aload_n dX9_word_20 rfl rfl ?_
        refine z_iload_n dX9_word_21 rfl rfl ?_
        refine z_iload_n dX9_word_22 rfl rfl ?_
        refine y_callV (as := [_, _]) CX9_got LX9_67 IX9_got VX9_got ⟨rfl, Nat.le_of_ble_eq_true rfl⟩ dX9_word_23 hm.o rfl (Nat.le_of_ble_eq_true rfl) (Nat.le_of_ble_eq_true rfl) (by omega) (r_got (j := k) (w := 2) (by exact (by exact hm)) (by omega) (by omega)) rok_i ⟨Nat.le_refl _, Nat.le_refl _, hN, hS⟩ ?_
        refine z_eqi (show _ = nI (s.1 (38 + 6 * k + 2)) from hr.at (by omega) (by omega)) ?_
        refine z_goto dX9_word_26 rfl ?_
        refine z_iret dX9_word_80 ?_
        exact hQ
      · refine ⟨h, ?_, FY.rf⟩
        intro N S Q hN hS hQ
        refine z_aload_n dX9_word_0 rfl rfl ?_
        refine z_iload_n dX9_word_1 rfl rfl ?_
        refine y_callV (as := [_]) CX9_isProphecy LX9_75 IX9_isProphecy VX9_isProphecy ⟨rfl, Nat.le_of_ble_eq_true rfl⟩ dX9_word_2 hm.o rfl (Nat.le_of_ble_eq_true rfl) (Nat.le_of_ble_eq_true rfl) (by omega) (r_isProphecy (d := 1) (by exact (by exact hm)) e11 (by omega) _ (Nat.le_refl _)) (rok_z bI_01) ⟨Nat.le_refl _, Nat.le_refl _, hN, hS⟩ ?_
        refine z_if_ne dX9_word_5 rfl (fun _ => ?_) (fun c => absurd c (bI_ne0.mpr hin))
        refine z_iload_n dX9_word_11 rfl rfl ?_
        refine z_iconst (v := 0) dX9_word_12 (by decide) ?_
        refine z_iconst (v := 5) dX9_word_13 (by decide) ?_
        refine y_callS (as := [_, _, _]) CX9_isIn LX9_63 SX9_isIn dX9_word_14 rfl (Nat.le_of_ble_eq_true rfl) (Nat.le_of_ble_eq_true rfl) (by omega) (r_isIn _ _ _) (rok_z bI_01) ⟨Nat.le_refl _, Nat.le_refl _, hN, hS⟩ ?_
        refine z_if_eq dX9_word_17 rfl (fun c => absurd c (bI_ne0.mpr (by decide))) (fun _ => ?_)
        refine z_aload_n dX9_word_20 rfl rfl ?_
        refine z_iload_n dX9_word_21 rfl rfl ?_
        refine z_iload_n dX9_word_22 rfl rfl ?_
        refine y_callV (as := [_, _]) CX9_got LX9_67 IX9_got VX9_got ⟨rfl, Nat.le_of_ble_eq_true rfl⟩ dX9_word_23 hm.o rfl (Nat.le_of_ble_eq_true rfl) (Nat.le_of_ble_eq_true rfl) (by omega) (r_got (j := k) (w := 3) (by exact (by exact hm)) (by omega) (by omega)) rok_i ⟨Nat.le_refl _, Nat.le_refl _, hN, hS⟩ ?_
        refine z_eqi (show _ = nI (s.1 (38 + 6 * k + 3)) from hr.at (by omega) (by omega)) ?_
        refine z_goto dX9_word_26 rfl ?_
        refine z_iret dX9_word_80 ?_
        exact hQ
      · refine ⟨h, ?_, FY.rf⟩
        intro N S Q hN hS hQ
        refine z_aload_n dX9_word_0 rfl rfl ?_
        refine z_iload_n dX9_word_1 rfl rfl ?_
        refine y_callV (as := [_]) CX9_isProphecy LX9_75 IX9_isProphecy VX9_isProphecy ⟨rfl, Nat.le_of_ble_eq_true rfl⟩ dX9_word_2 hm.o rfl (Nat.le_of_ble_eq_true rfl) (Nat.le_of_ble_eq_true rfl) (by omega) (r_isProphecy (d := 1) (by exact (by exact hm)) e11 (by omega) _ (Nat.le_refl _)) (rok_z bI_01) ⟨Nat.le_refl _, Nat.le_refl _, hN, hS⟩ ?_
        refine z_if_ne dX9_word_5 rfl (fun _ => ?_) (fun c => absurd c (bI_ne0.mpr hin))
        refine z_iload_n dX9_word_11 rfl rfl ?_
        refine z_iconst (v := 0) dX9_word_12 (by decide) ?_
        refine z_iconst (v := 5) dX9_word_13 (by decide) ?_
        refine y_callS (as := [_, _, _]) CX9_isIn LX9_63 SX9_isIn dX9_word_14 rfl (Nat.le_of_ble_eq_true rfl) (Nat.le_of_ble_eq_true rfl) (by omega) (r_isIn _ _ _) (rok_z bI_01) ⟨Nat.le_refl _, Nat.le_refl _, hN, hS⟩ ?_
        refine z_if_eq dX9_word_17 rfl (fun c => absurd c (bI_ne0.mpr (by decide))) (fun _ => ?_)
        refine z_aload_n dX9_word_20 rfl rfl ?_
        refine z_iload_n dX9_word_21 rfl rfl ?_
        refine z_iload_n dX9_word_22 rfl rfl ?_
        refine y_callV (as := [_, _]) CX9_got LX9_67 IX9_got VX9_got ⟨rfl, Nat.le_of_ble_eq_true rfl⟩ dX9_word_23 hm.o rfl (Nat.le_of_ble_eq_true rfl) (Nat.le_of_ble_eq_true rfl) (by omega) (r_got (j := k) (w := 4) (by exact (by exact hm)) (by omega) (by omega)) rok_i ⟨Nat.le_refl _, Nat.le_refl _, hN, hS⟩ ?_
        refine z_eqi (show _ = nI (s.1 (38 + 6 * k + 4)) from hr.at (by omega) (by omega)) ?_
        refine z_goto dX9_word_26 rfl ?_
        refine z_iret dX9_word_80 ?_
        exact hQ
      · refine ⟨h, ?_, FY.rf⟩
        intro N S Q hN hS hQ
        refine z_aload_n dX9_word_0 rfl rfl ?_
        refine z_iload_n dX9_word_1 rfl rfl ?_
        refine y_callV (as := [_]) CX9_isProphecy LX9_75 IX9_isProphecy VX9_isProphecy ⟨rfl, Nat.le_of_ble_eq_true rfl⟩ dX9_word_2 hm.o rfl (Nat.le_of_ble_eq_true rfl) (Nat.le_of_ble_eq_true rfl) (by omega) (r_isProphecy (d := 1) (by exact (by exact hm)) e11 (by omega) _ (Nat.le_refl _)) (rok_z bI_01) ⟨Nat.le_refl _, Nat.le_refl _, hN, hS⟩ ?_
        refine z_if_ne dX9_word_5 rfl (fun _ => ?_) (fun c => absurd c (bI_ne0.mpr hin))
        refine z_iload_n dX9_word_11 rfl rfl ?_
        refine z_iconst (v := 0) dX9_word_12 (by decide) ?_
        refine z_iconst (v := 5) dX9_word_13 (by decide) ?_
        refine y_callS (as := [_, _, _]) CX9_isIn LX9_63 SX9_isIn dX9_word_14 rfl (Nat.le_of_ble_eq_true rfl) (Nat.le_of_ble_eq_true rfl) (by omega) (r_isIn _ _ _) (rok_z bI_01) ⟨Nat.le_refl _, Nat.le_refl _, hN, hS⟩ ?_
        refine z_if_eq dX9_word_17 rfl (fun c => absurd c (bI_ne0.mpr (by decide))) (fun _ => ?_)
        refine z_aload_n dX9_word_20 rfl rfl ?_
        refine z_iload_n dX9_word_21 rfl rfl ?_
        refine z_iload_n dX9_word_22 rfl rfl ?_
        refine y_callV (as := [_, _]) CX9_got LX9_67 IX9_got VX9_got ⟨rfl, Nat.le_of_ble_eq_true rfl⟩ dX9_word_23 hm.o rfl (Nat.le_of_ble_eq_true rfl) (Nat.le_of_ble_eq_true rfl) (by omega) (r_got (j := k) (w := 5) (by exact (by exact hm)) (by omega) (by omega)) rok_i ⟨Nat.le_refl _, Nat.le_refl _, hN, hS⟩ ?_
        refine z_eqi (show _ = nI (s.1 (38 + 6 * k + 5)) from hr.at (by omega) (by omega)) ?_
        refine z_goto dX9_word_26 rfl ?_
        refine z_iret dX9_word_80 ?_
        exact hQ
      · obtain ⟨g, r1, r2⟩ := r_duesOf (d := 4) (k := k) (t1 := s.1 3) hrn hW rfl v0 (by omega) hk hT (Nat.le_refl _)
        refine ⟨g, ?_, r2⟩
        intro N S Q hN hS hQ
        have hN : pn h ≤ N := by rw [← r2.1.n]; exact hN
        have hS : ps h ≤ S := by rw [← r2.1.s]; exact hS
        refine z_aload_n dX9_word_0 rfl rfl ?_
        refine z_iload_n dX9_word_1 rfl rfl ?_
        refine y_callV (as := [_]) CX9_isProphecy LX9_75 IX9_isProphecy VX9_isProphecy ⟨rfl, Nat.le_of_ble_eq_true rfl⟩ dX9_word_2 hm.o rfl (Nat.le_of_ble_eq_true rfl) (Nat.le_of_ble_eq_true rfl) (by omega) (r_isProphecy (d := 1) (by exact (by exact hm)) e11 (by omega) _ (Nat.le_refl _)) (rok_z bI_01) ⟨Nat.le_refl _, Nat.le_refl _, hN, hS⟩ ?_
        refine z_if_ne dX9_word_5 rfl (fun _ => ?_) (fun c => absurd c (bI_ne0.mpr hin))
        refine z_iload_n dX9_word_11 rfl rfl ?_
        refine z_iconst (v := 0) dX9_word_12 (by decide) ?_
        refine z_iconst (v := 5) dX9_word_13 (by decide) ?_
        refine y_callS (as := [_, _, _]) CX9_isIn LX9_63 SX9_isIn dX9_word_14 rfl (Nat.le_of_ble_eq_true rfl) (Nat.le_of_ble_eq_true rfl) (by omega) (r_isIn _ _ _) (rok_z bI_01) ⟨Nat.le_refl _, Nat.le_refl _, hN, hS⟩ ?_
        refine z_if_eq dX9_word_17 rfl (fun _ => ?_) (fun c => absurd (bI_eq0.mpr (by decide)) c)
        refine z_iload_n dX9_word_29 rfl rfl ?_
        refine z_bipush (v := 6) dX9_word_30 (by decide) ?_
        refine z_icmp_ne dX9_word_32 rfl (fun c => absurd (rfl) c) (fun _ => ?_)
        refine z_aload_n dX9_word_35 rfl rfl ?_
        refine z_aload_n dX9_word_36 rfl rfl ?_
        refine y_getR FX9_7 dX9_word_37 rfl hm.o hm.f_a ?_
        refine z_iconst (v := 3) dX9_word_40 (by decide) ?_
        refine y_ialN (3) dX9_word_41 hm.A_a (Nat.le_of_ble_eq_true rfl) (rfl) (by omega) ?_
        refine z_eqi (show _ = cT (s.1 3) by rw [hr.2.1 3 (by omega)]; exact cI_T s.1) ?_
        refine z_iload_n dX9_word_42 rfl rfl ?_
        refine y_callV (as := [_, _]) CX9_duesOf LX9_344 IX9_duesOf VX9_duesOf ⟨rfl, Nat.le_of_ble_eq_true rfl⟩ dX9_word_43 hm.o rfl (Nat.le_of_ble_eq_true rfl) (Nat.le_of_ble_eq_true rfl) (by omega) r1 rok_i (hg_ss r2.1 hN hS) ?_
        refine z_goto dX9_word_46 rfl ?_
        refine z_iret dX9_word_80 ?_
        exact hQ
      · refine ⟨h, ?_, FY.rf⟩
        intro N S Q hN hS hQ
        rw [show (if 7 ≤ 5 then nI (s.1 (38 + 6 * k + 7)) else if 7 = 6 then nI (mDues s.2.2.2.2.2.2 (s.1 3) (snap s.1) k) else bI (metB (s.1 (38 + 6 * k + 1)) (s.1 (38 + 6 * k + 2)) (s.1 10) = true)) = bI (metB (s.1 (38 + 6 * k + 1)) (s.1 (38 + 6 * k + 2)) (s.1 10) = true) from rfl] at hQ
        refine z_aload_n dX9_word_0 rfl rfl ?_
        refine z_iload_n dX9_word_1 rfl rfl ?_
        refine y_callV (as := [_]) CX9_isProphecy LX9_75 IX9_isProphecy VX9_isProphecy ⟨rfl, Nat.le_of_ble_eq_true rfl⟩ dX9_word_2 hm.o rfl (Nat.le_of_ble_eq_true rfl) (Nat.le_of_ble_eq_true rfl) (by omega) (r_isProphecy (d := 1) (by exact (by exact hm)) e11 (by omega) _ (Nat.le_refl _)) (rok_z bI_01) ⟨Nat.le_refl _, Nat.le_refl _, hN, hS⟩ ?_
        refine z_if_ne dX9_word_5 rfl (fun _ => ?_) (fun c => absurd c (bI_ne0.mpr hin))
        refine z_iload_n dX9_word_11 rfl rfl ?_
        refine z_iconst (v := 0) dX9_word_12 (by decide) ?_
        refine z_iconst (v := 5) dX9_word_13 (by decide) ?_
        refine y_callS (as := [_, _, _]) CX9_isIn LX9_63 SX9_isIn dX9_word_14 rfl (Nat.le_of_ble_eq_true rfl) (Nat.le_of_ble_eq_true rfl) (by omega) (r_isIn _ _ _) (rok_z bI_01) ⟨Nat.le_refl _, Nat.le_refl _, hN, hS⟩ ?_
        refine z_if_eq dX9_word_17 rfl (fun _ => ?_) (fun c => absurd (bI_eq0.mpr (by decide)) c)
        refine z_iload_n dX9_word_29 rfl rfl ?_
        refine z_bipush (v := 6) dX9_word_30 (by decide) ?_
        refine z_icmp_ne dX9_word_32 rfl (fun _ => ?_) (fun c => absurd c (by decide))
        refine z_iload_n dX9_word_49 rfl rfl ?_
        refine z_bipush (v := 7) dX9_word_50 (by decide) ?_
        refine z_icmp_ne dX9_word_52 rfl (fun c => absurd (rfl) c) (fun _ => ?_)
        refine z_aload_n dX9_word_55 rfl rfl ?_
        refine z_iload_n dX9_word_56 rfl rfl ?_
        refine z_aload_n dX9_word_57 rfl rfl ?_
        refine y_getR FX9_7 dX9_word_58 rfl hm.o hm.f_a ?_
        refine z_bipush (v := 10) dX9_word_61 (by decide) ?_
        refine y_ialN (10) dX9_word_63 hm.A_a (Nat.le_of_ble_eq_true rfl) (rfl) (by omega) ?_
        refine z_eqi (show _ = nI (s.1 10) from hr.at (by omega) (by omega)) ?_
        refine y_callV (as := [_, _]) CX9_isSoIn LX9_356 IX9_isSoIn VX9_isSoIn ⟨rfl, Nat.le_of_ble_eq_true rfl⟩ dX9_word_64 hm.o rfl (Nat.le_of_ble_eq_true rfl) (Nat.le_of_ble_eq_true rfl) (by omega) (r_isSoIn (d := 1) (k := k) (al := s.1 (38 + 6 * k + 1)) (f := s.1 (38 + 6 * k + 2)) (g := s.1 10) (by exact hm) (by omega) (hr.at (by omega) (by omega)) (by omega) (hr.at (by omega) (by omega)) (by omega) (by omega) (Nat.le_refl _)) (rok_z bI_01) ⟨Nat.le_refl _, Nat.le_refl _, hN, hS⟩ ?_
        refine z_if_eq dX9_word_67 rfl (fun c67 => ?_) (fun c67 => ?_)
        · -- to 74
          refine z_iconst (v := 0) dX9_word_74 (by decide) ?_
          refine z_goto dX9_word_75 rfl ?_
          refine z_iret dX9_word_80 ?_
          first | (rw [bI_f (bI_eq0.mp c67)] at hQ; exact hQ) | (rw [bI_t (bI_ne0.mp c67)] at hQ; exact hQ)
        · -- on
          refine z_iconst (v := 1) dX9_word_70 (by decide) ?_
          refine z_goto dX9_word_71 rfl ?_
          refine z_iret dX9_word_80 ?_
          first | (rw [bI_f (bI_eq0.mp c67)] at hQ; exact hQ) | (rw [bI_t (bI_ne0.mp c67)] at hQ; exact hQ)
    · rw [if_neg (fun q => hw q.2)]
      refine ⟨h, ?_, FY.rf⟩
      intro N S Q hN hS hQ
      refine z_aload_n dX9_word_0 rfl rfl ?_
      refine z_iload_n dX9_word_1 rfl rfl ?_
      refine y_callV (as := [_]) CX9_isProphecy LX9_75 IX9_isProphecy VX9_isProphecy ⟨rfl, Nat.le_of_ble_eq_true rfl⟩ dX9_word_2 hm.o rfl (Nat.le_of_ble_eq_true rfl) (Nat.le_of_ble_eq_true rfl) (by omega) (r_isProphecy (d := 1) (by exact (by exact hm)) e11 (by omega) _ (Nat.le_refl _)) (rok_z bI_01) ⟨Nat.le_refl _, Nat.le_refl _, hN, hS⟩ ?_
      refine z_if_ne dX9_word_5 rfl (fun _ => ?_) (fun c => absurd c (bI_ne0.mpr hin))
      refine z_iload_n dX9_word_11 rfl rfl ?_
      refine z_iconst (v := 0) dX9_word_12 (by decide) ?_
      refine z_iconst (v := 5) dX9_word_13 (by decide) ?_
      refine y_callS (as := [_, _, _]) CX9_isIn LX9_63 SX9_isIn dX9_word_14 rfl (Nat.le_of_ble_eq_true rfl) (Nat.le_of_ble_eq_true rfl) (by omega) (r_isIn _ _ _) (rok_z bI_01) ⟨Nat.le_refl _, Nat.le_refl _, hN, hS⟩ ?_
      refine z_if_eq dX9_word_17 rfl (fun _ => ?_) (fun c => absurd (bI_eq0.mpr (fun q => hw ⟨q.1, Int32.le_trans q.2 (by decide)⟩)) c)
      refine z_iload_n dX9_word_29 rfl rfl ?_
      refine z_bipush (v := 6) dX9_word_30 (by decide) ?_
      refine z_icmp_ne dX9_word_32 rfl (fun _ => ?_) (fun c => absurd c (fun q => hw (by rw [q]; decide)))
      refine z_iload_n dX9_word_49 rfl rfl ?_
      refine z_bipush (v := 7) dX9_word_50 (by decide) ?_
      refine z_icmp_ne dX9_word_52 rfl (fun _ => ?_) (fun c => absurd c (fun q => hw (by rw [q]; decide)))
      refine z_bipush (v := -2) dX9_word_78 (by decide) ?_
      refine z_iret dX9_word_80 ?_
      exact hQ
  · rw [if_neg (fun q => hin q.1)]
    refine ⟨h, ?_, FY.rf⟩
    intro N S Q hN hS hQ
    refine z_aload_n dX9_word_0 rfl rfl ?_
    refine z_iload_n dX9_word_1 rfl rfl ?_
    refine y_callV (as := [_]) CX9_isProphecy LX9_75 IX9_isProphecy VX9_isProphecy ⟨rfl, Nat.le_of_ble_eq_true rfl⟩ dX9_word_2 hm.o rfl (Nat.le_of_ble_eq_true rfl) (Nat.le_of_ble_eq_true rfl) (by omega) (r_isProphecy (d := 1) (by exact (by exact hm)) e11 (by omega) _ (Nat.le_refl _)) (rok_z bI_01) ⟨Nat.le_refl _, Nat.le_refl _, hN, hS⟩ ?_
    refine z_if_ne dX9_word_5 rfl (fun c => absurd (bI_eq0.mpr hin) c) (fun _ => ?_)
    refine z_bipush (v := -2) dX9_word_8 (by decide) ?_
    refine z_iret dX9_word_10 ?_
    exact hQ

theorem r_owesOf {s : Ms} {h : Hp} {d : Nat} (hr : RM s h) (hv : IC s.1) (hp : IP s.1) (hq : IQ s.1) (hf : IFc s.1) (hW : IW (s.1 0) (snap s.1)) (hT : s.1 3 ≠ 0 → TXV s.2.2.2.2.2.2 (s.1 3 - 1)) {p : Nat} (hp5 : p < 5) (hd : 5 ≤ d) : ∃ h1, Sp d mX9_owesOf [.ref 488, .int (nI p)] h (some (.int (nI (sumF (oweF s.2.2.2.2.2.2 s.1 p) (s.1 11))))) h1 ∧ FY h h1 := by
  have hm := hr.m
  have v0 := hv.1
  have v1 := hv.2.1
  have v2 := hv.2.2.1
  have v3 := hv.2.2.2.1
  have v10 := hv.2.2.2.2.2.2.2.2.2.2.1
  have v11 := hv.2.2.2.2.2.2.2.2.2.2.2.1
  have hrn : RN (uns s.1 (snap s.1), s.2) h := hr.un.n.1
  have e0 : pI h 489 0 = nI (s.1 0) := hr.at (by omega) (by omega)
  have e1 : pI h 489 1 = nI (s.1 1) := hr.at (by omega) (by omega)
  have e11 : pI h 489 11 = nI (s.1 11) := hr.at (by omega) (by omega)
  have L : ∀ r i (h1 : Hp), i + r = s.1 11 → FY h h1 → ∃ h2, FY h h2 ∧ ∀ (N S : Nat) (Q : Option Value → Hp → Prop), pn h ≤ N → ps h ≤ S → Q (some (.int (nI (sumF (oweF s.2.2.2.2.2.2 s.1 p) (s.1 11))))) h2 → T d N S mX9_owesOf 4 [some (.ref 488), some (.int (nI p)), some (.int (nI (sumF (oweF s.2.2.2.2.2.2 s.1 p) i))), some (.int (nI i))] [] h1 Q := by
    intro r
    induction r with
    | zero =>
      intro i h1 hi f1
      have e : i = s.1 11 := by omega
      rw [e]
      have hm := f1.1.M hm
      have E11 : pI h1 489 11 = nI (s.1 11) := by rw [f1.2.1 489 (by omega) (by omega)]; exact e11
      refine ⟨h1, f1, fun N S Q hN hS hQ => ?_⟩
      refine z_iload_n dX9_owesOf_4 rfl rfl ?_
      refine z_aload_n dX9_owesOf_5 rfl rfl ?_
      refine y_getR FX9_7 dX9_owesOf_6 rfl hm.o hm.f_a ?_
      refine z_bipush (v := 11) dX9_owesOf_9 (by decide) ?_
      refine y_ialN (11) dX9_owesOf_11 hm.A_a (Nat.le_of_ble_eq_true rfl) (rfl) (by omega) ?_
      refine z_eqi (show _ = nI (s.1 11) from E11) ?_
      refine z_icmp_ge dX9_owesOf_12 rfl (fun _ => ?_) (fun c => absurd (Int32.le_refl _) c)
      refine z_iload_n dX9_owesOf_57 rfl rfl ?_
      refine z_iret dX9_owesOf_58 ?_
      exact hQ
    | succ r ih =>
      intro i h1 hi f1
      have hm := f1.1.M hm
      have hr1 : RN (uns s.1 (snap s.1), s.2) h1 := f1.rn hrn
      have E11 : pI h1 489 11 = nI (s.1 11) := by rw [f1.2.1 489 (by omega) (by omega)]; exact e11
      have G0 : pI h1 489 (38 + 6 * i + 0) = nI (s.1 (38 + 6 * i + 0)) := by rw [f1.2.1 489 (by omega) (by omega)]; exact hr.at (by omega) (by omega)
      have cq := hq i (by omega)
      have en : nn (nI i) = i := nn_nI (by omega)
      have op : opnW (snap s.1) (nI i) ↔ s.1 (38 + 6 * i + 5) = 0 := by
        unfold opnW
        rw [en, snap_pc (by omega) (by omega)]
        exact ⟨fun q => q.2, fun q => ⟨(vin_nI (by omega) (by show s.1 11 < 2 ^ 31; omega)).mpr (by show i < s.1 11; omega), q⟩⟩
      have es : sumF (oweF s.2.2.2.2.2.2 s.1 p) (i + 1) = sumF (oweF s.2.2.2.2.2.2 s.1 p) i + oweF s.2.2.2.2.2.2 s.1 p i := sumF_s
      by_cases ho : s.1 (38 + 6 * i + 5) = 0
      · by_cases hw : s.1 (38 + 6 * i + 0) = p
        · have ev : oweF s.2.2.2.2.2.2 s.1 p i = mDues s.2.2.2.2.2.2 (s.1 3) (snap s.1) i := if_pos ⟨ho, hw⟩
          obtain ⟨g, r1, r2⟩ := r_duesOf (d := 4) (k := i) (t1 := s.1 3) hr1 hW rfl v0 (by omega) (by show i < s.1 11; omega) hT (Nat.le_refl _)
          obtain ⟨h2, k1, K⟩ := ih (i + 1) g (by omega) (f1.tr r2)
          rw [es, ev] at K
          refine ⟨h2, k1, fun N S Q hN hS hQ => ?_⟩
          have hN1 : pn h1 ≤ N := by rw [f1.1.n]; exact hN
          have hS1 : ps h1 ≤ S := by rw [f1.1.s]; exact hS
          refine z_iload_n dX9_owesOf_4 rfl rfl ?_
          refine z_aload_n dX9_owesOf_5 rfl rfl ?_
          refine y_getR FX9_7 dX9_owesOf_6 rfl hm.o hm.f_a ?_
          refine z_bipush (v := 11) dX9_owesOf_9 (by decide) ?_
          refine y_ialN (11) dX9_owesOf_11 hm.A_a (Nat.le_of_ble_eq_true rfl) (rfl) (by omega) ?_
          refine z_eqi (show _ = nI (s.1 11) from E11) ?_
          refine z_icmp_ge dX9_owesOf_12 rfl (fun c => absurd c (fun q => absurd ((nI_leI (by omega) (by omega)).mp q) (by omega))) (fun _ => ?_)
          refine z_iload_n dX9_owesOf_15 rfl rfl ?_
          refine z_aload_n dX9_owesOf_16 rfl rfl ?_
          refine z_iload_n dX9_owesOf_17 rfl rfl ?_
          refine y_callV (as := [_]) CX9_isOpen LX9_353 IX9_isOpen VX9_isOpen ⟨rfl, Nat.le_of_ble_eq_true rfl⟩ dX9_owesOf_18 hm.o rfl (Nat.le_of_ble_eq_true rfl) (Nat.le_of_ble_eq_true rfl) (by omega) (r_isOpenW (d := 2) hr1 (by show s.1 11 ≤ 12; omega) (fun k hk => (hW.2.2.1 k hk).2.2.2.2.2.2) _ (Nat.le_refl _)) (rok_z bI_01) ⟨Nat.le_refl _, Nat.le_refl _, hN1, hS1⟩ ?_
          refine z_if_eq dX9_owesOf_21 rfl (fun c => absurd c (bI_ne0.mpr (op.mpr ho))) (fun _ => ?_)
          refine z_aload_n dX9_owesOf_24 rfl rfl ?_
          refine z_iload_n dX9_owesOf_25 rfl rfl ?_
          refine z_iconst (v := 0) dX9_owesOf_26 (by decide) ?_
          refine y_callV (as := [_, _]) CX9_got LX9_67 IX9_got VX9_got ⟨rfl, Nat.le_of_ble_eq_true rfl⟩ dX9_owesOf_27 hm.o rfl (Nat.le_of_ble_eq_true rfl) (Nat.le_of_ble_eq_true rfl) (by omega) (r_got (j := i) (w := 0) (by exact (by exact hm)) (by omega) (by omega)) rok_i ⟨Nat.le_refl _, Nat.le_refl _, hN1, hS1⟩ ?_
          refine z_eqi (show _ = nI (s.1 (38 + 6 * i + 0)) from G0) ?_
          refine z_iload_n dX9_owesOf_30 rfl rfl ?_
          refine z_icmp_ne dX9_owesOf_31 rfl (fun c => absurd (congrArg nI hw) c) (fun _ => ?_)
          refine z_aload_n dX9_owesOf_34 rfl rfl ?_
          refine z_aload_n dX9_owesOf_35 rfl rfl ?_
          refine y_getR FX9_7 dX9_owesOf_36 rfl hm.o hm.f_a ?_
          refine z_iconst (v := 3) dX9_owesOf_39 (by decide) ?_
          refine y_ialN (3) dX9_owesOf_40 hm.A_a (Nat.le_of_ble_eq_true rfl) (rfl) (by omega) ?_
          refine z_eqi (show _ = cT (s.1 3) by rw [f1.2.1 489 (by omega) (by omega), hr.2.1 3 (by omega)]; exact cI_T s.1) ?_
          refine z_iload_n dX9_owesOf_41 rfl rfl ?_
          refine y_callV (as := [_, _]) CX9_duesOf LX9_344 IX9_duesOf VX9_duesOf ⟨rfl, Nat.le_of_ble_eq_true rfl⟩ dX9_owesOf_42 hm.o rfl (Nat.le_of_ble_eq_true rfl) (Nat.le_of_ble_eq_true rfl) (by omega) r1 rok_i (hg_ss r2.1 hN1 hS1) ?_
          refine z_goto dX9_owesOf_45 rfl ?_
          refine z_iadd dX9_owesOf_49 ?_
          refine z_eqi (nI_add _ _) ?_
          refine z_istore_n dX9_owesOf_50 rfl (Nat.le_of_ble_eq_true rfl) ?_
          refine z_iinc dX9_owesOf_51 rfl (nI_1 _) (Nat.le_of_ble_eq_true rfl) ?_
          refine z_goto dX9_owesOf_54 rfl ?_
          exact K N S Q hN hS hQ
        · have ev : oweF s.2.2.2.2.2.2 s.1 p i = 0 := if_neg (fun q => hw q.2)
          obtain ⟨h2, k1, K⟩ := ih (i + 1) h1 (by omega) f1
          rw [es, ev] at K
          refine ⟨h2, k1, fun N S Q hN hS hQ => ?_⟩
          have hN1 : pn h1 ≤ N := by rw [f1.1.n]; exact hN
          have hS1 : ps h1 ≤ S := by rw [f1.1.s]; exact hS
          refine z_iload_n dX9_owesOf_4 rfl rfl ?_
          refine z_aload_n dX9_owesOf_5 rfl rfl ?_
          refine y_getR FX9_7 dX9_owesOf_6 rfl hm.o hm.f_a ?_
          refine z_bipush (v := 11) dX9_owesOf_9 (by decide) ?_
          refine y_ialN (11) dX9_owesOf_11 hm.A_a (Nat.le_of_ble_eq_true rfl) (rfl) (by omega) ?_
          refine z_eqi (show _ = nI (s.1 11) from E11) ?_
          refine z_icmp_ge dX9_owesOf_12 rfl (fun c => absurd c (fun q => absurd ((nI_leI (by omega) (by omega)).mp q) (by omega))) (fun _ => ?_)
          refine z_iload_n dX9_owesOf_15 rfl rfl ?_
          refine z_aload_n dX9_owesOf_16 rfl rfl ?_
          refine z_iload_n dX9_owesOf_17 rfl rfl ?_
          refine y_callV (as := [_]) CX9_isOpen LX9_353 IX9_isOpen VX9_isOpen ⟨rfl, Nat.le_of_ble_eq_true rfl⟩ dX9_owesOf_18 hm.o rfl (Nat.le_of_ble_eq_true rfl) (Nat.le_of_ble_eq_true rfl) (by omega) (r_isOpenW (d := 2) hr1 (by show s.1 11 ≤ 12; omega) (fun k hk => (hW.2.2.1 k hk).2.2.2.2.2.2) _ (Nat.le_refl _)) (rok_z bI_01) ⟨Nat.le_refl _, Nat.le_refl _, hN1, hS1⟩ ?_
          refine z_if_eq dX9_owesOf_21 rfl (fun c => absurd c (bI_ne0.mpr (op.mpr ho))) (fun _ => ?_)
          refine z_aload_n dX9_owesOf_24 rfl rfl ?_
          refine z_iload_n dX9_owesOf_25 rfl rfl ?_
          refine z_iconst (v := 0) dX9_owesOf_26 (by decide) ?_
          refine y_callV (as := [_, _]) CX9_got LX9_67 IX9_got VX9_got ⟨rfl, Nat.le_of_ble_eq_true rfl⟩ dX9_owesOf_27 hm.o rfl (Nat.le_of_ble_eq_true rfl) (Nat.le_of_ble_eq_true rfl) (by omega) (r_got (j := i) (w := 0) (by exact (by exact hm)) (by omega) (by omega)) rok_i ⟨Nat.le_refl _, Nat.le_refl _, hN1, hS1⟩ ?_
          refine z_eqi (show _ = nI (s.1 (38 + 6 * i + 0)) from G0) ?_
          refine z_iload_n dX9_owesOf_30 rfl rfl ?_
          refine z_icmp_ne dX9_owesOf_31 rfl (fun _ => ?_) (fun c => absurd c (fun q => hw ((nI_eq (by omega) (by omega)).mp q)))
          refine z_iconst (v := 0) dX9_owesOf_48 (by decide) ?_
          refine z_iadd dX9_owesOf_49 ?_
          refine z_eqi (nI_add _ 0) ?_
          refine z_istore_n dX9_owesOf_50 rfl (Nat.le_of_ble_eq_true rfl) ?_
          refine z_iinc dX9_owesOf_51 rfl (nI_1 _) (Nat.le_of_ble_eq_true rfl) ?_
          refine z_goto dX9_owesOf_54 rfl ?_
          exact K N S Q hN hS hQ
      · have ev : oweF s.2.2.2.2.2.2 s.1 p i = 0 := if_neg (fun q => ho q.1)
        obtain ⟨h2, k1, K⟩ := ih (i + 1) h1 (by omega) f1
        rw [es, ev] at K
        refine ⟨h2, k1, fun N S Q hN hS hQ => ?_⟩
        have hN1 : pn h1 ≤ N := by rw [f1.1.n]; exact hN
        have hS1 : ps h1 ≤ S := by rw [f1.1.s]; exact hS
        refine z_iload_n dX9_owesOf_4 rfl rfl ?_
        refine z_aload_n dX9_owesOf_5 rfl rfl ?_
        refine y_getR FX9_7 dX9_owesOf_6 rfl hm.o hm.f_a ?_
        refine z_bipush (v := 11) dX9_owesOf_9 (by decide) ?_
        refine y_ialN (11) dX9_owesOf_11 hm.A_a (Nat.le_of_ble_eq_true rfl) (rfl) (by omega) ?_
        refine z_eqi (show _ = nI (s.1 11) from E11) ?_
        refine z_icmp_ge dX9_owesOf_12 rfl (fun c => absurd c (fun q => absurd ((nI_leI (by omega) (by omega)).mp q) (by omega))) (fun _ => ?_)
        refine z_iload_n dX9_owesOf_15 rfl rfl ?_
        refine z_aload_n dX9_owesOf_16 rfl rfl ?_
        refine z_iload_n dX9_owesOf_17 rfl rfl ?_
        refine y_callV (as := [_]) CX9_isOpen LX9_353 IX9_isOpen VX9_isOpen ⟨rfl, Nat.le_of_ble_eq_true rfl⟩ dX9_owesOf_18 hm.o rfl (Nat.le_of_ble_eq_true rfl) (Nat.le_of_ble_eq_true rfl) (by omega) (r_isOpenW (d := 2) hr1 (by show s.1 11 ≤ 12; omega) (fun k hk => (hW.2.2.1 k hk).2.2.2.2.2.2) _ (Nat.le_refl _)) (rok_z bI_01) ⟨Nat.le_refl _, Nat.le_refl _, hN1, hS1⟩ ?_
        refine z_if_eq dX9_owesOf_21 rfl (fun _ => ?_) (fun c => absurd (bI_eq0.mpr (fun q => ho (op.mp q))) c)
        refine z_iconst (v := 0) dX9_owesOf_48 (by decide) ?_
        refine z_iadd dX9_owesOf_49 ?_
        refine z_eqi (nI_add _ 0) ?_
        refine z_istore_n dX9_owesOf_50 rfl (Nat.le_of_ble_eq_true rfl) ?_
        refine z_iinc dX9_owesOf_51 rfl (nI_1 _) (Nat.le_of_ble_eq_true rfl) ?_
        refine z_goto dX9_owesOf_54 rfl ?_
        exact K N S Q hN hS hQ
  obtain ⟨h2, k1, K⟩ := L (s.1 11) 0 h (by omega) FY.rf
  refine ⟨h2, ?_, k1⟩
  intro N S Q hN hS hQ
  have hN : pn h ≤ N := by rw [← k1.1.n]; exact hN
  have hS : ps h ≤ S := by rw [← k1.1.s]; exact hS
  refine z_iconst (v := 0) dX9_owesOf_0 (by decide) ?_
  refine z_istore_n dX9_owesOf_1 rfl (Nat.le_of_ble_eq_true rfl) ?_
  refine z_iconst (v := 0) dX9_owesOf_2 (by decide) ?_
  refine z_istore_n dX9_owesOf_3 rfl (Nat.le_of_ble_eq_true rfl) ?_
  exact K N S Q hN hS hQ

