/-! the reference: small methods (walks by program: wip/whole/gen17.py) -/
theorem r_isIn {h : Hp} {d : Nat} (v lo hi : Int32) : Sp d mX9_isIn [.int v, .int lo, .int hi] h (some (.int (bI (lo ≤ v ∧ v ≤ hi)))) h := by
  intro N S Q hN hS hQ
  refine z_iload_n dX9_isIn_0 rfl rfl ?_
  refine z_iload_n dX9_isIn_1 rfl rfl ?_
  refine z_icmp_lt dX9_isIn_2 rfl (fun c2 => ?_) (fun c2 => ?_)
  · -- to 14
    refine z_iconst (v := 0) dX9_isIn_14 (by decide) ?_
    refine z_iret dX9_isIn_15 ?_
    first
      | (rw [bI_f (by simp only [Int32.lt_iff_toInt_lt, Int32.le_iff_toInt_le, Int32.not_lt, Int32.not_le] at *; omega)] at hQ; exact hQ)
      | (rw [bI_t (by simp only [Int32.lt_iff_toInt_lt, Int32.le_iff_toInt_le, Int32.not_lt, Int32.not_le] at *; omega)] at hQ; exact hQ)
  · -- on
    refine z_iload_n dX9_isIn_5 rfl rfl ?_
    refine z_iload_n dX9_isIn_6 rfl rfl ?_
    refine z_icmp_gt dX9_isIn_7 rfl (fun c7 => ?_) (fun c7 => ?_)
    · -- to 14
      refine z_iconst (v := 0) dX9_isIn_14 (by decide) ?_
      refine z_iret dX9_isIn_15 ?_
      first
        | (rw [bI_f (by simp only [Int32.lt_iff_toInt_lt, Int32.le_iff_toInt_le, Int32.not_lt, Int32.not_le] at *; omega)] at hQ; exact hQ)
        | (rw [bI_t (by simp only [Int32.lt_iff_toInt_lt, Int32.le_iff_toInt_le, Int32.not_lt, Int32.not_le] at *; omega)] at hQ; exact hQ)
    · -- on
      refine z_iconst (v := 1) dX9_isIn_10 (by decide) ?_
      refine z_goto dX9_isIn_11 rfl ?_
      refine z_iret dX9_isIn_15 ?_
      first
        | (rw [bI_f (by simp only [Int32.lt_iff_toInt_lt, Int32.le_iff_toInt_le, Int32.not_lt, Int32.not_le] at *; omega)] at hQ; exact hQ)
        | (rw [bI_t (by simp only [Int32.lt_iff_toInt_lt, Int32.le_iff_toInt_le, Int32.not_lt, Int32.not_le] at *; omega)] at hQ; exact hQ)

theorem r_has {h : Hp} {d : Nat} {n k : Nat} (hk : k < 31) (hn : n < 2 ^ 31) : Sp d mX9_has [.int (nI n), .int (nI k)] h (some (.int (bI (n.testBit k = true)))) h := by
  intro N S Q hN hS hQ
  refine z_iload_n dX9_has_0 rfl rfl ?_
  refine z_iload_n dX9_has_1 rfl rfl ?_
  refine z_ishr dX9_has_2 ?_
  refine z_iconst (v := 1) dX9_has_3 (by decide) ?_
  refine z_iand dX9_has_4 ?_
  refine z_iconst (v := 1) dX9_has_5 (by decide) ?_
  refine z_icmp_ne dX9_has_6 rfl (fun c6 => ?_) (fun c6 => ?_)
  · -- to 13
    refine z_iconst (v := 0) dX9_has_13 (by decide) ?_
    refine z_iret dX9_has_14 ?_
    first
      | (rw [bI_f (fun q => absurd ((has_iff hk hn).mpr q) (by assumption))] at hQ; exact hQ)
      | (rw [bI_t ((has_iff hk hn).mp (by simp_all))] at hQ; exact hQ)
  · -- on
    refine z_iconst (v := 1) dX9_has_9 (by decide) ?_
    refine z_goto dX9_has_10 rfl ?_
    refine z_iret dX9_has_14 ?_
    first
      | (rw [bI_f (fun q => absurd ((has_iff hk hn).mpr q) (by assumption))] at hQ; exact hQ)
      | (rw [bI_t ((has_iff hk hn).mp (by simp_all))] at hQ; exact hQ)

theorem r_isFact {h : Hp} {d : Nat} (hm : SM h) {n : Nat} (e : pI h 489 0 = nI n) (hn : n < 2 ^ 31) (x : Int32) (hd : 1 ≤ d) : Sp d mX9_isFact [.ref 488, .int x] h (some (.int (bI (vin x n)))) h := by
  intro N S Q hN hS hQ
  rw [← bI_congr (le_pred hn)] at hQ
  refine z_iload_n dX9_isFact_0 rfl rfl ?_
  refine z_iconst (v := 0) dX9_isFact_1 (by decide) ?_
  refine z_aload_n dX9_isFact_2 rfl rfl ?_
  refine y_getR FX9_7 dX9_isFact_3 rfl hm.o hm.f_a ?_
  refine z_iconst (v := 0) dX9_isFact_6 (by decide) ?_
  refine y_ialN (0) dX9_isFact_7 hm.A_a (Nat.le_of_ble_eq_true rfl) (rfl) (Nat.le_of_ble_eq_true rfl) ?_
  refine z_iconst (v := 1) dX9_isFact_8 (by decide) ?_
  refine z_isub dX9_isFact_9 ?_
  refine y_callS (as := [_, _, _]) CX9_isIn LX9_63 SX9_isIn dX9_isFact_10 rfl (Nat.le_of_ble_eq_true rfl) (Nat.le_of_ble_eq_true rfl) (by omega) (r_isIn _ _ _) (rok_z bI_01) ⟨Nat.le_refl _, Nat.le_refl _, hN, hS⟩ ?_
  refine z_iret dX9_isFact_13 ?_
  rw [e]
  exact hQ

theorem r_isProphet {h : Hp} {d : Nat} (hm : SM h) {n : Nat} (e : pI h 489 1 = nI n) (hn : n < 2 ^ 31) (x : Int32) (hd : 1 ≤ d) : Sp d mX9_isProphet [.ref 488, .int x] h (some (.int (bI (vin x n)))) h := by
  intro N S Q hN hS hQ
  rw [← bI_congr (le_pred hn)] at hQ
  refine z_iload_n dX9_isProphet_0 rfl rfl ?_
  refine z_iconst (v := 0) dX9_isProphet_1 (by decide) ?_
  refine z_aload_n dX9_isProphet_2 rfl rfl ?_
  refine y_getR FX9_7 dX9_isProphet_3 rfl hm.o hm.f_a ?_
  refine z_iconst (v := 1) dX9_isProphet_6 (by decide) ?_
  refine y_ialN (1) dX9_isProphet_7 hm.A_a (Nat.le_of_ble_eq_true rfl) (rfl) (Nat.le_of_ble_eq_true rfl) ?_
  refine z_iconst (v := 1) dX9_isProphet_8 (by decide) ?_
  refine z_isub dX9_isProphet_9 ?_
  refine y_callS (as := [_, _, _]) CX9_isIn LX9_63 SX9_isIn dX9_isProphet_10 rfl (Nat.le_of_ble_eq_true rfl) (Nat.le_of_ble_eq_true rfl) (by omega) (r_isIn _ _ _) (rok_z bI_01) ⟨Nat.le_refl _, Nat.le_refl _, hN, hS⟩ ?_
  refine z_iret dX9_isProphet_13 ?_
  rw [e]
  exact hQ

theorem r_isProphecy {h : Hp} {d : Nat} (hm : SM h) {n : Nat} (e : pI h 489 11 = nI n) (hn : n < 2 ^ 31) (x : Int32) (hd : 1 ≤ d) : Sp d mX9_isProphecy [.ref 488, .int x] h (some (.int (bI (vin x n)))) h := by
  intro N S Q hN hS hQ
  rw [← bI_congr (le_pred hn)] at hQ
  refine z_iload_n dX9_isProphecy_0 rfl rfl ?_
  refine z_iconst (v := 0) dX9_isProphecy_1 (by decide) ?_
  refine z_aload_n dX9_isProphecy_2 rfl rfl ?_
  refine y_getR FX9_7 dX9_isProphecy_3 rfl hm.o hm.f_a ?_
  refine z_bipush (v := 11) dX9_isProphecy_6 (by decide) ?_
  refine y_ialN (11) dX9_isProphecy_8 hm.A_a (Nat.le_of_ble_eq_true rfl) (rfl) (Nat.le_of_ble_eq_true rfl) ?_
  refine z_iconst (v := 1) dX9_isProphecy_9 (by decide) ?_
  refine z_isub dX9_isProphecy_10 ?_
  refine y_callS (as := [_, _, _]) CX9_isIn LX9_63 SX9_isIn dX9_isProphecy_11 rfl (Nat.le_of_ble_eq_true rfl) (Nat.le_of_ble_eq_true rfl) (by omega) (r_isIn _ _ _) (rok_z bI_01) ⟨Nat.le_refl _, Nat.le_refl _, hN, hS⟩ ?_
  refine z_iret dX9_isProphecy_14 ?_
  rw [e]
  exact hQ
