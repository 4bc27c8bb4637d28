/-! the reckoner of the class (walks by program: wip/whole/gen53.py) -/
abbrev b31 (x : Int) : Prop := -2147483648 ≤ x ∧ x ≤ 2147483647
theorem b31_62 {x : Int} (h : b31 x) : b62 x := ⟨by have := h.1; omega, by have := h.2; omega⟩
theorem iL_0 : iL 0 = 0 := rfl
theorem iL_1 : iL 1 = 1 := rfl
theorem b62_0 : b62 0 := ⟨by omega, by omega⟩
theorem iL_eq0 {x : Int} (hx : b62 x) : iL x = 0 ↔ x = 0 := iL_eq (y := 0) hx b62_0
theorem b31_of (x : Int32) : b31 x.toInt := ⟨by have := x.le_toInt; omega, by have := x.toInt_lt; omega⟩
theorem iI_of (x : Int32) : iI x.toInt = x := Int32.ofInt_toInt x
theorem l_of (x : Int32) : x.toInt64 = iL x.toInt := Int64.toInt_inj.mp (by rw [Int32.toInt_toInt64, iL_toInt (b31_62 (b31_of x))])

theorem neg_lt0 {t : Nat} (ht : t < 2 ^ 31) (h0 : 0 < t) : - nI t < 0 := by
  rw [Int32.lt_iff_toInt_lt, Int32.toInt_neg, nI_toInt ht]
  show Int.bmod (-(t : Int)) (2 ^ 32) < 0
  rw [Int.bmod_eq_of_le (by omega) (by omega)]
  omega
theorem nI_negeq {t : Nat} : - (- nI t) = nI t := Int32.neg_neg

theorem s_simple0 {h : Hp} {d : Nat} (ho : IO h 3 481) (hn : pR h 481 0 = some 482) (ha : IA h 10 36 482) (hk : pR h 481 1 = some 483) (hs : IA h 10 303 483) {v : Nat} (hv : v < 2 ^ 31) : Sp d mX3_simple [.ref 481, .int (nI v)] h (some (.int (nI v))) h := by
  intro N S Q hN hS hQ
  refine z_iload_n dX3_simple_0 rfl rfl ?_
  refine z_if_lt dX3_simple_1 rfl (fun c => absurd c (Int32.not_lt.mpr (nI_pos' hv))) (fun _ => ?_)
  refine z_iload_n dX3_simple_4 rfl rfl ?_
  refine z_iret dX3_simple_5 ?_
  exact hQ

theorem s_simple1 {h : Hp} {d : Nat} (ho : IO h 3 481) (hn : pR h 481 0 = some 482) (ha : IA h 10 36 482) (hk : pR h 481 1 = some 483) (hs : IA h 10 303 483) {t : Nat} (ht : t < 36) (h0 : 0 < t) : Sp d mX3_simple [.ref 481, .int (- nI t)] h (some (.int (pI h 482 t))) h := by
  intro N S Q hN hS hQ
  refine z_iload_n dX3_simple_0 rfl rfl ?_
  refine z_if_lt dX3_simple_1 rfl (fun _ => ?_) (fun c => absurd (neg_lt0 (by omega) h0) c)
  refine z_iload_n dX3_simple_6 rfl rfl ?_
  refine z_ineg dX3_simple_7 ?_
  refine z_aload_n dX3_simple_8 rfl rfl ?_
  refine y_getR FX3_9 dX3_simple_9 rfl ho hn ?_
  refine y_alen dX3_simple_12 ha ⟨Nat.le_of_ble_eq_true rfl, Nat.le_of_ble_eq_true rfl⟩ rfl ?_
  refine z_icmp_ge dX3_simple_13 rfl (fun c => absurd c (by rw [Int32.neg_neg]; exact fun q => absurd ((nI_leI (a := 36) (by omega) (by omega)).mp q) (by omega))) (fun _ => ?_)
  refine z_aload_n dX3_simple_16 rfl rfl ?_
  refine y_getR FX3_9 dX3_simple_17 rfl ho hn ?_
  refine z_iload_n dX3_simple_20 rfl rfl ?_
  refine z_ineg dX3_simple_21 ?_
  refine z_eqi (Int32.neg_neg) ?_
  refine y_ialN t dX3_simple_22 ha (Nat.le_of_ble_eq_true rfl) rfl (by omega) ?_
  refine z_goto dX3_simple_23 rfl ?_
  refine z_iret dX3_simple_27 ?_
  exact hQ

theorem lim_a {x : Int} (hx : b62 x) : (if iL x < 1000000 then iL x else 1000000) = iL (min 1000000 x) := by
  have h1 : (1000000 : Int64) = iL 1000000 := rfl
  rw [h1]
  by_cases h : x < 1000000
  · rw [if_pos ((iL_lt hx ⟨by omega, by omega⟩).mpr h), Int.min_eq_right (by omega)]
  · rw [if_neg (fun q => h ((iL_lt hx ⟨by omega, by omega⟩).mp q)), Int.min_eq_left (by omega)]
theorem lim_b {x : Int} (hx : b62 x) : (if iL (min 1000000 x) < (-1000000 : Int64) then (-1000000 : Int64) else iL (min 1000000 x)) = iL (clp x) := by
  have h1 : (-1000000 : Int64) = iL (-1000000) := rfl
  have hm : b62 (min 1000000 x) := ⟨by have := hx.1; omega, by omega⟩
  rw [h1]
  unfold clp
  by_cases h : min 1000000 x < -1000000
  · rw [if_pos ((iL_lt hm ⟨by omega, by omega⟩).mpr h), if_neg (by omega), if_pos (by omega)]
  · rw [if_neg (fun q => h ((iL_lt hm ⟨by omega, by omega⟩).mp q))]
    by_cases h2 : 1000000 < x
    · rw [if_pos h2, Int.min_eq_left (by omega)]
    · rw [if_neg h2, if_neg (by omega), Int.min_eq_right (by omega)]

theorem s_limit {h : Hp} {d : Nat} {x : Int} (hx : b62 x) (hd : 1 ≤ d) : Sp d mX3_limit [.long (iL x)] h (some (.int (iI (clp x)))) h := by
  intro N S Q hN hS hQ
  rw [← iL_i] at hQ
  refine z_ldc2 (v := -1000000) dX3_limit_0 Kc_X3_39 ?_
  refine z_ldc2 (v := 1000000) dX3_limit_3 Kc_X3_41 ?_
  refine z_lload_n dX3_limit_6 rfl rfl ?_
  refine z_mminL KminL_X3_43 KminL_static Kini_Math KminL_code dX3_limit_7 (by omega) (Nat.le_of_ble_eq_true rfl) ?_
  refine z_eql (show _ = iL (min 1000000 x) from lim_a hx) ?_
  refine z_mmaxL KmaxL_X3_47 KmaxL_static Kini_Math KmaxL_code dX3_limit_10 (by omega) (Nat.le_of_ble_eq_true rfl) ?_
  refine z_eql (show _ = iL (clp x) from lim_b hx) ?_
  refine z_l2i dX3_limit_13 ?_
  refine z_iret dX3_limit_14 ?_
  exact hQ

theorem s_takes_10 {h : Hp} {d : Nat} : Sp d mX3_takesOf [.int (- nI 10)] h (some (.int (nI 0))) h := by
  intro N S Q hN hS hQ
  refine z_iload_n dX3_takesOf_0 rfl rfl ?_
  refine z_ineg dX3_takesOf_1 ?_
  refine z_eqi (y := nI 10) Int32.neg_neg ?_
  refine z_istore_n dX3_takesOf_2 rfl (Nat.le_of_ble_eq_true rfl) ?_
  refine z_iload_n dX3_takesOf_3 rfl rfl ?_
  refine z_bipush (v := 35) dX3_takesOf_4 (by decide) ?_
  refine z_icmp_gt dX3_takesOf_6 rfl (fun c => absurd c (by decide)) (fun _ => ?_)
  refine z_iload_n dX3_takesOf_9 rfl rfl ?_
  refine z_bipush (v := 20) dX3_takesOf_10 (by decide) ?_
  refine z_icmp_lt dX3_takesOf_12 rfl (fun _ => ?_) (fun c => absurd (by decide) c)
  refine z_iconst (v := 1) dX3_takesOf_21 (by decide) ?_
  refine z_goto dX3_takesOf_22 rfl ?_
  refine z_istore_n dX3_takesOf_26 rfl (Nat.le_of_ble_eq_true rfl) ?_
  refine z_iload_n dX3_takesOf_27 rfl rfl ?_
  refine z_if_eq dX3_takesOf_28 rfl (fun c => absurd c (by decide)) (fun _ => ?_)
  refine z_iconst (v := 0) dX3_takesOf_31 (by decide) ?_
  refine z_iret dX3_takesOf_32 ?_
  exact hQ

theorem s_takes_30 {h : Hp} {d : Nat} : Sp d mX3_takesOf [.int (- nI 30)] h (some (.int (nI 0))) h := by
  intro N S Q hN hS hQ
  refine z_iload_n dX3_takesOf_0 rfl rfl ?_
  refine z_ineg dX3_takesOf_1 ?_
  refine z_eqi (y := nI 30) Int32.neg_neg ?_
  refine z_istore_n dX3_takesOf_2 rfl (Nat.le_of_ble_eq_true rfl) ?_
  refine z_iload_n dX3_takesOf_3 rfl rfl ?_
  refine z_bipush (v := 35) dX3_takesOf_4 (by decide) ?_
  refine z_icmp_gt dX3_takesOf_6 rfl (fun c => absurd c (by decide)) (fun _ => ?_)
  refine z_iload_n dX3_takesOf_9 rfl rfl ?_
  refine z_bipush (v := 20) dX3_takesOf_10 (by decide) ?_
  refine z_icmp_lt dX3_takesOf_12 rfl (fun c => absurd c (by decide)) (fun _ => ?_)
  refine z_iload_n dX3_takesOf_15 rfl rfl ?_
  refine z_bipush (v := 29) dX3_takesOf_16 (by decide) ?_
  refine z_icmp_le dX3_takesOf_18 rfl (fun c => absurd c (by decide)) (fun _ => ?_)
  refine z_iconst (v := 1) dX3_takesOf_21 (by decide) ?_
  refine z_goto dX3_takesOf_22 rfl ?_
  refine z_istore_n dX3_takesOf_26 rfl (Nat.le_of_ble_eq_true rfl) ?_
  refine z_iload_n dX3_takesOf_27 rfl rfl ?_
  refine z_if_eq dX3_takesOf_28 rfl (fun c => absurd c (by decide)) (fun _ => ?_)
  refine z_iconst (v := 0) dX3_takesOf_31 (by decide) ?_
  refine z_iret dX3_takesOf_32 ?_
  exact hQ

theorem s_takes_4 {h : Hp} {d : Nat} : Sp d mX3_takesOf [.int (- nI 4)] h (some (.int (nI 0))) h := by
  intro N S Q hN hS hQ
  refine z_iload_n dX3_takesOf_0 rfl rfl ?_
  refine z_ineg dX3_takesOf_1 ?_
  refine z_eqi (y := nI 4) Int32.neg_neg ?_
  refine z_istore_n dX3_takesOf_2 rfl (Nat.le_of_ble_eq_true rfl) ?_
  refine z_iload_n dX3_takesOf_3 rfl rfl ?_
  refine z_bipush (v := 35) dX3_takesOf_4 (by decide) ?_
  refine z_icmp_gt dX3_takesOf_6 rfl (fun c => absurd c (by decide)) (fun _ => ?_)
  refine z_iload_n dX3_takesOf_9 rfl rfl ?_
  refine z_bipush (v := 20) dX3_takesOf_10 (by decide) ?_
  refine z_icmp_lt dX3_takesOf_12 rfl (fun _ => ?_) (fun c => absurd (by decide) c)
  refine z_iconst (v := 1) dX3_takesOf_21 (by decide) ?_
  refine z_goto dX3_takesOf_22 rfl ?_
  refine z_istore_n dX3_takesOf_26 rfl (Nat.le_of_ble_eq_true rfl) ?_
  refine z_iload_n dX3_takesOf_27 rfl rfl ?_
  refine z_if_eq dX3_takesOf_28 rfl (fun c => absurd c (by decide)) (fun _ => ?_)
  refine z_iconst (v := 0) dX3_takesOf_31 (by decide) ?_
  refine z_iret dX3_takesOf_32 ?_
  exact hQ

theorem s_takes_31 {h : Hp} {d : Nat} : Sp d mX3_takesOf [.int (- nI 31)] h (some (.int (nI 0))) h := by
  intro N S Q hN hS hQ
  refine z_iload_n dX3_takesOf_0 rfl rfl ?_
  refine z_ineg dX3_takesOf_1 ?_
  refine z_eqi (y := nI 31) Int32.neg_neg ?_
  refine z_istore_n dX3_takesOf_2 rfl (Nat.le_of_ble_eq_true rfl) ?_
  refine z_iload_n dX3_takesOf_3 rfl rfl ?_
  refine z_bipush (v := 35) dX3_takesOf_4 (by decide) ?_
  refine z_icmp_gt dX3_takesOf_6 rfl (fun c => absurd c (by decide)) (fun _ => ?_)
  refine z_iload_n dX3_takesOf_9 rfl rfl ?_
  refine z_bipush (v := 20) dX3_takesOf_10 (by decide) ?_
  refine z_icmp_lt dX3_takesOf_12 rfl (fun c => absurd c (by decide)) (fun _ => ?_)
  refine z_iload_n dX3_takesOf_15 rfl rfl ?_
  refine z_bipush (v := 29) dX3_takesOf_16 (by decide) ?_
  refine z_icmp_le dX3_takesOf_18 rfl (fun c => absurd c (by decide)) (fun _ => ?_)
  refine z_iconst (v := 1) dX3_takesOf_21 (by decide) ?_
  refine z_goto dX3_takesOf_22 rfl ?_
  refine z_istore_n dX3_takesOf_26 rfl (Nat.le_of_ble_eq_true rfl) ?_
  refine z_iload_n dX3_takesOf_27 rfl rfl ?_
  refine z_if_eq dX3_takesOf_28 rfl (fun c => absurd c (by decide)) (fun _ => ?_)
  refine z_iconst (v := 0) dX3_takesOf_31 (by decide) ?_
  refine z_iret dX3_takesOf_32 ?_
  exact hQ

theorem s_takes_11 {h : Hp} {d : Nat} : Sp d mX3_takesOf [.int (- nI 11)] h (some (.int (nI 0))) h := by
  intro N S Q hN hS hQ
  refine z_iload_n dX3_takesOf_0 rfl rfl ?_
  refine z_ineg dX3_takesOf_1 ?_
  refine z_eqi (y := nI 11) Int32.neg_neg ?_
  refine z_istore_n dX3_takesOf_2 rfl (Nat.le_of_ble_eq_true rfl) ?_
  refine z_iload_n dX3_takesOf_3 rfl rfl ?_
  refine z_bipush (v := 35) dX3_takesOf_4 (by decide) ?_
  refine z_icmp_gt dX3_takesOf_6 rfl (fun c => absurd c (by decide)) (fun _ => ?_)
  refine z_iload_n dX3_takesOf_9 rfl rfl ?_
  refine z_bipush (v := 20) dX3_takesOf_10 (by decide) ?_
  refine z_icmp_lt dX3_takesOf_12 rfl (fun _ => ?_) (fun c => absurd (by decide) c)
  refine z_iconst (v := 1) dX3_takesOf_21 (by decide) ?_
  refine z_goto dX3_takesOf_22 rfl ?_
  refine z_istore_n dX3_takesOf_26 rfl (Nat.le_of_ble_eq_true rfl) ?_
  refine z_iload_n dX3_takesOf_27 rfl rfl ?_
  refine z_if_eq dX3_takesOf_28 rfl (fun c => absurd c (by decide)) (fun _ => ?_)
  refine z_iconst (v := 0) dX3_takesOf_31 (by decide) ?_
  refine z_iret dX3_takesOf_32 ?_
  exact hQ

theorem s_takes_32 {h : Hp} {d : Nat} : Sp d mX3_takesOf [.int (- nI 32)] h (some (.int (nI 0))) h := by
  intro N S Q hN hS hQ
  refine z_iload_n dX3_takesOf_0 rfl rfl ?_
  refine z_ineg dX3_takesOf_1 ?_
  refine z_eqi (y := nI 32) Int32.neg_neg ?_
  refine z_istore_n dX3_takesOf_2 rfl (Nat.le_of_ble_eq_true rfl) ?_
  refine z_iload_n dX3_takesOf_3 rfl rfl ?_
  refine z_bipush (v := 35) dX3_takesOf_4 (by decide) ?_
  refine z_icmp_gt dX3_takesOf_6 rfl (fun c => absurd c (by decide)) (fun _ => ?_)
  refine z_iload_n dX3_takesOf_9 rfl rfl ?_
  refine z_bipush (v := 20) dX3_takesOf_10 (by decide) ?_
  refine z_icmp_lt dX3_takesOf_12 rfl (fun c => absurd c (by decide)) (fun _ => ?_)
  refine z_iload_n dX3_takesOf_15 rfl rfl ?_
  refine z_bipush (v := 29) dX3_takesOf_16 (by decide) ?_
  refine z_icmp_le dX3_takesOf_18 rfl (fun c => absurd c (by decide)) (fun _ => ?_)
  refine z_iconst (v := 1) dX3_takesOf_21 (by decide) ?_
  refine z_goto dX3_takesOf_22 rfl ?_
  refine z_istore_n dX3_takesOf_26 rfl (Nat.le_of_ble_eq_true rfl) ?_
  refine z_iload_n dX3_takesOf_27 rfl rfl ?_
  refine z_if_eq dX3_takesOf_28 rfl (fun c => absurd c (by decide)) (fun _ => ?_)
  refine z_iconst (v := 0) dX3_takesOf_31 (by decide) ?_
  refine z_iret dX3_takesOf_32 ?_
  exact hQ

theorem s_takes_12 {h : Hp} {d : Nat} : Sp d mX3_takesOf [.int (- nI 12)] h (some (.int (nI 0))) h := by
  intro N S Q hN hS hQ
  refine z_iload_n dX3_takesOf_0 rfl rfl ?_
  refine z_ineg dX3_takesOf_1 ?_
  refine z_eqi (y := nI 12) Int32.neg_neg ?_
  refine z_istore_n dX3_takesOf_2 rfl (Nat.le_of_ble_eq_true rfl) ?_
  refine z_iload_n dX3_takesOf_3 rfl rfl ?_
  refine z_bipush (v := 35) dX3_takesOf_4 (by decide) ?_
  refine z_icmp_gt dX3_takesOf_6 rfl (fun c => absurd c (by decide)) (fun _ => ?_)
  refine z_iload_n dX3_takesOf_9 rfl rfl ?_
  refine z_bipush (v := 20) dX3_takesOf_10 (by decide) ?_
  refine z_icmp_lt dX3_takesOf_12 rfl (fun _ => ?_) (fun c => absurd (by decide) c)
  refine z_iconst (v := 1) dX3_takesOf_21 (by decide) ?_
  refine z_goto dX3_takesOf_22 rfl ?_
  refine z_istore_n dX3_takesOf_26 rfl (Nat.le_of_ble_eq_true rfl) ?_
  refine z_iload_n dX3_takesOf_27 rfl rfl ?_
  refine z_if_eq dX3_takesOf_28 rfl (fun c => absurd c (by decide)) (fun _ => ?_)
  refine z_iconst (v := 0) dX3_takesOf_31 (by decide) ?_
  refine z_iret dX3_takesOf_32 ?_
  exact hQ

theorem s_takes_33 {h : Hp} {d : Nat} : Sp d mX3_takesOf [.int (- nI 33)] h (some (.int (nI 0))) h := by
  intro N S Q hN hS hQ
  refine z_iload_n dX3_takesOf_0 rfl rfl ?_
  refine z_ineg dX3_takesOf_1 ?_
  refine z_eqi (y := nI 33) Int32.neg_neg ?_
  refine z_istore_n dX3_takesOf_2 rfl (Nat.le_of_ble_eq_true rfl) ?_
  refine z_iload_n dX3_takesOf_3 rfl rfl ?_
  refine z_bipush (v := 35) dX3_takesOf_4 (by decide) ?_
  refine z_icmp_gt dX3_takesOf_6 rfl (fun c => absurd c (by decide)) (fun _ => ?_)
  refine z_iload_n dX3_takesOf_9 rfl rfl ?_
  refine z_bipush (v := 20) dX3_takesOf_10 (by decide) ?_
  refine z_icmp_lt dX3_takesOf_12 rfl (fun c => absurd c (by decide)) (fun _ => ?_)
  refine z_iload_n dX3_takesOf_15 rfl rfl ?_
  refine z_bipush (v := 29) dX3_takesOf_16 (by decide) ?_
  refine z_icmp_le dX3_takesOf_18 rfl (fun c => absurd c (by decide)) (fun _ => ?_)
  refine z_iconst (v := 1) dX3_takesOf_21 (by decide) ?_
  refine z_goto dX3_takesOf_22 rfl ?_
  refine z_istore_n dX3_takesOf_26 rfl (Nat.le_of_ble_eq_true rfl) ?_
  refine z_iload_n dX3_takesOf_27 rfl rfl ?_
  refine z_if_eq dX3_takesOf_28 rfl (fun c => absurd c (by decide)) (fun _ => ?_)
  refine z_iconst (v := 0) dX3_takesOf_31 (by decide) ?_
  refine z_iret dX3_takesOf_32 ?_
  exact hQ

theorem s_takes_16 {h : Hp} {d : Nat} : Sp d mX3_takesOf [.int (- nI 16)] h (some (.int (nI 0))) h := by
  intro N S Q hN hS hQ
  refine z_iload_n dX3_takesOf_0 rfl rfl ?_
  refine z_ineg dX3_takesOf_1 ?_
  refine z_eqi (y := nI 16) Int32.neg_neg ?_
  refine z_istore_n dX3_takesOf_2 rfl (Nat.le_of_ble_eq_true rfl) ?_
  refine z_iload_n dX3_takesOf_3 rfl rfl ?_
  refine z_bipush (v := 35) dX3_takesOf_4 (by decide) ?_
  refine z_icmp_gt dX3_takesOf_6 rfl (fun c => absurd c (by decide)) (fun _ => ?_)
  refine z_iload_n dX3_takesOf_9 rfl rfl ?_
  refine z_bipush (v := 20) dX3_takesOf_10 (by decide) ?_
  refine z_icmp_lt dX3_takesOf_12 rfl (fun _ => ?_) (fun c => absurd (by decide) c)
  refine z_iconst (v := 1) dX3_takesOf_21 (by decide) ?_
  refine z_goto dX3_takesOf_22 rfl ?_
  refine z_istore_n dX3_takesOf_26 rfl (Nat.le_of_ble_eq_true rfl) ?_
  refine z_iload_n dX3_takesOf_27 rfl rfl ?_
  refine z_if_eq dX3_takesOf_28 rfl (fun c => absurd c (by decide)) (fun _ => ?_)
  refine z_iconst (v := 0) dX3_takesOf_31 (by decide) ?_
  refine z_iret dX3_takesOf_32 ?_
  exact hQ

theorem s_takes_34 {h : Hp} {d : Nat} : Sp d mX3_takesOf [.int (- nI 34)] h (some (.int (nI 0))) h := by
  intro N S Q hN hS hQ
  refine z_iload_n dX3_takesOf_0 rfl rfl ?_
  refine z_ineg dX3_takesOf_1 ?_
  refine z_eqi (y := nI 34) Int32.neg_neg ?_
  refine z_istore_n dX3_takesOf_2 rfl (Nat.le_of_ble_eq_true rfl) ?_
  refine z_iload_n dX3_takesOf_3 rfl rfl ?_
  refine z_bipush (v := 35) dX3_takesOf_4 (by decide) ?_
  refine z_icmp_gt dX3_takesOf_6 rfl (fun c => absurd c (by decide)) (fun _ => ?_)
  refine z_iload_n dX3_takesOf_9 rfl rfl ?_
  refine z_bipush (v := 20) dX3_takesOf_10 (by decide) ?_
  refine z_icmp_lt dX3_takesOf_12 rfl (fun c => absurd c (by decide)) (fun _ => ?_)
  refine z_iload_n dX3_takesOf_15 rfl rfl ?_
  refine z_bipush (v := 29) dX3_takesOf_16 (by decide) ?_
  refine z_icmp_le dX3_takesOf_18 rfl (fun c => absurd c (by decide)) (fun _ => ?_)
  refine z_iconst (v := 1) dX3_takesOf_21 (by decide) ?_
  refine z_goto dX3_takesOf_22 rfl ?_
  refine z_istore_n dX3_takesOf_26 rfl (Nat.le_of_ble_eq_true rfl) ?_
  refine z_iload_n dX3_takesOf_27 rfl rfl ?_
  refine z_if_eq dX3_takesOf_28 rfl (fun c => absurd c (by decide)) (fun _ => ?_)
  refine z_iconst (v := 0) dX3_takesOf_31 (by decide) ?_
  refine z_iret dX3_takesOf_32 ?_
  exact hQ

theorem s_takes_35 {h : Hp} {d : Nat} : Sp d mX3_takesOf [.int (- nI 35)] h (some (.int (nI 0))) h := by
  intro N S Q hN hS hQ
  refine z_iload_n dX3_takesOf_0 rfl rfl ?_
  refine z_ineg dX3_takesOf_1 ?_
  refine z_eqi (y := nI 35) Int32.neg_neg ?_
  refine z_istore_n dX3_takesOf_2 rfl (Nat.le_of_ble_eq_true rfl) ?_
  refine z_iload_n dX3_takesOf_3 rfl rfl ?_
  refine z_bipush (v := 35) dX3_takesOf_4 (by decide) ?_
  refine z_icmp_gt dX3_takesOf_6 rfl (fun c => absurd c (by decide)) (fun _ => ?_)
  refine z_iload_n dX3_takesOf_9 rfl rfl ?_
  refine z_bipush (v := 20) dX3_takesOf_10 (by decide) ?_
  refine z_icmp_lt dX3_takesOf_12 rfl (fun c => absurd c (by decide)) (fun _ => ?_)
  refine z_iload_n dX3_takesOf_15 rfl rfl ?_
  refine z_bipush (v := 29) dX3_takesOf_16 (by decide) ?_
  refine z_icmp_le dX3_takesOf_18 rfl (fun c => absurd c (by decide)) (fun _ => ?_)
  refine z_iconst (v := 1) dX3_takesOf_21 (by decide) ?_
  refine z_goto dX3_takesOf_22 rfl ?_
  refine z_istore_n dX3_takesOf_26 rfl (Nat.le_of_ble_eq_true rfl) ?_
  refine z_iload_n dX3_takesOf_27 rfl rfl ?_
  refine z_if_eq dX3_takesOf_28 rfl (fun c => absurd c (by decide)) (fun _ => ?_)
  refine z_iconst (v := 0) dX3_takesOf_31 (by decide) ?_
  refine z_iret dX3_takesOf_32 ?_
  exact hQ

theorem s_takes_20 {h : Hp} {d : Nat} : Sp d mX3_takesOf [.int (- nI 20)] h (some (.int (nI 2))) h := by
  intro N S Q hN hS hQ
  refine z_iload_n dX3_takesOf_0 rfl rfl ?_
  refine z_ineg dX3_takesOf_1 ?_
  refine z_eqi (y := nI 20) Int32.neg_neg ?_
  refine z_istore_n dX3_takesOf_2 rfl (Nat.le_of_ble_eq_true rfl) ?_
  refine z_iload_n dX3_takesOf_3 rfl rfl ?_
  refine z_bipush (v := 35) dX3_takesOf_4 (by decide) ?_
  refine z_icmp_gt dX3_takesOf_6 rfl (fun c => absurd c (by decide)) (fun _ => ?_)
  refine z_iload_n dX3_takesOf_9 rfl rfl ?_
  refine z_bipush (v := 20) dX3_takesOf_10 (by decide) ?_
  refine z_icmp_lt dX3_takesOf_12 rfl (fun c => absurd c (by decide)) (fun _ => ?_)
  refine z_iload_n dX3_takesOf_15 rfl rfl ?_
  refine z_bipush (v := 29) dX3_takesOf_16 (by decide) ?_
  refine z_icmp_le dX3_takesOf_18 rfl (fun _ => ?_) (fun c => absurd (by decide) c)
  refine z_iconst (v := 0) dX3_takesOf_25 (by decide) ?_
  refine z_istore_n dX3_takesOf_26 rfl (Nat.le_of_ble_eq_true rfl) ?_
  refine z_iload_n dX3_takesOf_27 rfl rfl ?_
  refine z_if_eq dX3_takesOf_28 rfl (fun _ => ?_) (fun c => absurd (by decide) c)
  refine z_iload_n dX3_takesOf_33 rfl rfl ?_
  refine z_bipush (v := 55) dX3_takesOf_34 (by decide) ?_
  refine z_icmp_eq dX3_takesOf_36 rfl (fun c => absurd c (by decide)) (fun _ => ?_)
  refine z_iload_n dX3_takesOf_39 rfl rfl ?_
  refine z_bipush (v := 22) dX3_takesOf_40 (by decide) ?_
  refine z_icmp_eq dX3_takesOf_42 rfl (fun c => absurd c (by decide)) (fun _ => ?_)
  refine z_iload_n dX3_takesOf_45 rfl rfl ?_
  refine z_bipush (v := 29) dX3_takesOf_46 (by decide) ?_
  refine z_icmp_ne dX3_takesOf_48 rfl (fun _ => ?_) (fun c => absurd c (by decide))
  refine z_iload_n dX3_takesOf_53 rfl rfl ?_
  refine z_bipush (v := 23) dX3_takesOf_54 (by decide) ?_
  refine z_icmp_ne dX3_takesOf_56 rfl (fun _ => ?_) (fun c => absurd c (by decide))
  refine z_iconst (v := 2) dX3_takesOf_63 (by decide) ?_
  refine z_iret dX3_takesOf_64 ?_
  exact hQ

theorem s_takes_22 {h : Hp} {d : Nat} : Sp d mX3_takesOf [.int (- nI 22)] h (some (.int (nI 1))) h := by
  intro N S Q hN hS hQ
  refine z_iload_n dX3_takesOf_0 rfl rfl ?_
  refine z_ineg dX3_takesOf_1 ?_
  refine z_eqi (y := nI 22) Int32.neg_neg ?_
  refine z_istore_n dX3_takesOf_2 rfl (Nat.le_of_ble_eq_true rfl) ?_
  refine z_iload_n dX3_takesOf_3 rfl rfl ?_
  refine z_bipush (v := 35) dX3_takesOf_4 (by decide) ?_
  refine z_icmp_gt dX3_takesOf_6 rfl (fun c => absurd c (by decide)) (fun _ => ?_)
  refine z_iload_n dX3_takesOf_9 rfl rfl ?_
  refine z_bipush (v := 20) dX3_takesOf_10 (by decide) ?_
  refine z_icmp_lt dX3_takesOf_12 rfl (fun c => absurd c (by decide)) (fun _ => ?_)
  refine z_iload_n dX3_takesOf_15 rfl rfl ?_
  refine z_bipush (v := 29) dX3_takesOf_16 (by decide) ?_
  refine z_icmp_le dX3_takesOf_18 rfl (fun _ => ?_) (fun c => absurd (by decide) c)
  refine z_iconst (v := 0) dX3_takesOf_25 (by decide) ?_
  refine z_istore_n dX3_takesOf_26 rfl (Nat.le_of_ble_eq_true rfl) ?_
  refine z_iload_n dX3_takesOf_27 rfl rfl ?_
  refine z_if_eq dX3_takesOf_28 rfl (fun _ => ?_) (fun c => absurd (by decide) c)
  refine z_iload_n dX3_takesOf_33 rfl rfl ?_
  refine z_bipush (v := 55) dX3_takesOf_34 (by decide) ?_
  refine z_icmp_eq dX3_takesOf_36 rfl (fun c => absurd c (by decide)) (fun _ => ?_)
  refine z_iload_n dX3_takesOf_39 rfl rfl ?_
  refine z_bipush (v := 22) dX3_takesOf_40 (by decide) ?_
  refine z_icmp_eq dX3_takesOf_42 rfl (fun _ => ?_) (fun c => absurd (rfl) c)
  refine z_iconst (v := 1) dX3_takesOf_51 (by decide) ?_
  refine z_iret dX3_takesOf_52 ?_
  exact hQ

theorem s_takes_23 {h : Hp} {d : Nat} : Sp d mX3_takesOf [.int (- nI 23)] h (some (.int (nI 3))) h := by
  intro N S Q hN hS hQ
  refine z_iload_n dX3_takesOf_0 rfl rfl ?_
  refine z_ineg dX3_takesOf_1 ?_
  refine z_eqi (y := nI 23) Int32.neg_neg ?_
  refine z_istore_n dX3_takesOf_2 rfl (Nat.le_of_ble_eq_true rfl) ?_
  refine z_iload_n dX3_takesOf_3 rfl rfl ?_
  refine z_bipush (v := 35) dX3_takesOf_4 (by decide) ?_
  refine z_icmp_gt dX3_takesOf_6 rfl (fun c => absurd c (by decide)) (fun _ => ?_)
  refine z_iload_n dX3_takesOf_9 rfl rfl ?_
  refine z_bipush (v := 20) dX3_takesOf_10 (by decide) ?_
  refine z_icmp_lt dX3_takesOf_12 rfl (fun c => absurd c (by decide)) (fun _ => ?_)
  refine z_iload_n dX3_takesOf_15 rfl rfl ?_
  refine z_bipush (v := 29) dX3_takesOf_16 (by decide) ?_
  refine z_icmp_le dX3_takesOf_18 rfl (fun _ => ?_) (fun c => absurd (by decide) c)
  refine z_iconst (v := 0) dX3_takesOf_25 (by decide) ?_
  refine z_istore_n dX3_takesOf_26 rfl (Nat.le_of_ble_eq_true rfl) ?_
  refine z_iload_n dX3_takesOf_27 rfl rfl ?_
  refine z_if_eq dX3_takesOf_28 rfl (fun _ => ?_) (fun c => absurd (by decide) c)
  refine z_iload_n dX3_takesOf_33 rfl rfl ?_
  refine z_bipush (v := 55) dX3_takesOf_34 (by decide) ?_
  refine z_icmp_eq dX3_takesOf_36 rfl (fun c => absurd c (by decide)) (fun _ => ?_)
  refine z_iload_n dX3_takesOf_39 rfl rfl ?_
  refine z_bipush (v := 22) dX3_takesOf_40 (by decide) ?_
  refine z_icmp_eq dX3_takesOf_42 rfl (fun c => absurd c (by decide)) (fun _ => ?_)
  refine z_iload_n dX3_takesOf_45 rfl rfl ?_
  refine z_bipush (v := 29) dX3_takesOf_46 (by decide) ?_
  refine z_icmp_ne dX3_takesOf_48 rfl (fun _ => ?_) (fun c => absurd c (by decide))
  refine z_iload_n dX3_takesOf_53 rfl rfl ?_
  refine z_bipush (v := 23) dX3_takesOf_54 (by decide) ?_
  refine z_icmp_ne dX3_takesOf_56 rfl (fun c => absurd (by decide) c) (fun _ => ?_)
  refine z_iconst (v := 3) dX3_takesOf_59 (by decide) ?_
  refine z_goto dX3_takesOf_60 rfl ?_
  refine z_iret dX3_takesOf_64 ?_
  exact hQ

theorem s_takes_27 {h : Hp} {d : Nat} : Sp d mX3_takesOf [.int (- nI 27)] h (some (.int (nI 2))) h := by
  intro N S Q hN hS hQ
  refine z_iload_n dX3_takesOf_0 rfl rfl ?_
  refine z_ineg dX3_takesOf_1 ?_
  refine z_eqi (y := nI 27) Int32.neg_neg ?_
  refine z_istore_n dX3_takesOf_2 rfl (Nat.le_of_ble_eq_true rfl) ?_
  refine z_iload_n dX3_takesOf_3 rfl rfl ?_
  refine z_bipush (v := 35) dX3_takesOf_4 (by decide) ?_
  refine z_icmp_gt dX3_takesOf_6 rfl (fun c => absurd c (by decide)) (fun _ => ?_)
  refine z_iload_n dX3_takesOf_9 rfl rfl ?_
  refine z_bipush (v := 20) dX3_takesOf_10 (by decide) ?_
  refine z_icmp_lt dX3_takesOf_12 rfl (fun c => absurd c (by decide)) (fun _ => ?_)
  refine z_iload_n dX3_takesOf_15 rfl rfl ?_
  refine z_bipush (v := 29) dX3_takesOf_16 (by decide) ?_
  refine z_icmp_le dX3_takesOf_18 rfl (fun _ => ?_) (fun c => absurd (by decide) c)
  refine z_iconst (v := 0) dX3_takesOf_25 (by decide) ?_
  refine z_istore_n dX3_takesOf_26 rfl (Nat.le_of_ble_eq_true rfl) ?_
  refine z_iload_n dX3_takesOf_27 rfl rfl ?_
  refine z_if_eq dX3_takesOf_28 rfl (fun _ => ?_) (fun c => absurd (by decide) c)
  refine z_iload_n dX3_takesOf_33 rfl rfl ?_
  refine z_bipush (v := 55) dX3_takesOf_34 (by decide) ?_
  refine z_icmp_eq dX3_takesOf_36 rfl (fun c => absurd c (by decide)) (fun _ => ?_)
  refine z_iload_n dX3_takesOf_39 rfl rfl ?_
  refine z_bipush (v := 22) dX3_takesOf_40 (by decide) ?_
  refine z_icmp_eq dX3_takesOf_42 rfl (fun c => absurd c (by decide)) (fun _ => ?_)
  refine z_iload_n dX3_takesOf_45 rfl rfl ?_
  refine z_bipush (v := 29) dX3_takesOf_46 (by decide) ?_
  refine z_icmp_ne dX3_takesOf_48 rfl (fun _ => ?_) (fun c => absurd c (by decide))
  refine z_iload_n dX3_takesOf_53 rfl rfl ?_
  refine z_bipush (v := 23) dX3_takesOf_54 (by decide) ?_
  refine z_icmp_ne dX3_takesOf_56 rfl (fun _ => ?_) (fun c => absurd c (by decide))
  refine z_iconst (v := 2) dX3_takesOf_63 (by decide) ?_
  refine z_iret dX3_takesOf_64 ?_
  exact hQ

theorem s_takes_28 {h : Hp} {d : Nat} : Sp d mX3_takesOf [.int (- nI 28)] h (some (.int (nI 2))) h := by
  intro N S Q hN hS hQ
  refine z_iload_n dX3_takesOf_0 rfl rfl ?_
  refine z_ineg dX3_takesOf_1 ?_
  refine z_eqi (y := nI 28) Int32.neg_neg ?_
  refine z_istore_n dX3_takesOf_2 rfl (Nat.le_of_ble_eq_true rfl) ?_
  refine z_iload_n dX3_takesOf_3 rfl rfl ?_
  refine z_bipush (v := 35) dX3_takesOf_4 (by decide) ?_
  refine z_icmp_gt dX3_takesOf_6 rfl (fun c => absurd c (by decide)) (fun _ => ?_)
  refine z_iload_n dX3_takesOf_9 rfl rfl ?_
  refine z_bipush (v := 20) dX3_takesOf_10 (by decide) ?_
  refine z_icmp_lt dX3_takesOf_12 rfl (fun c => absurd c (by decide)) (fun _ => ?_)
  refine z_iload_n dX3_takesOf_15 rfl rfl ?_
  refine z_bipush (v := 29) dX3_takesOf_16 (by decide) ?_
  refine z_icmp_le dX3_takesOf_18 rfl (fun _ => ?_) (fun c => absurd (by decide) c)
  refine z_iconst (v := 0) dX3_takesOf_25 (by decide) ?_
  refine z_istore_n dX3_takesOf_26 rfl (Nat.le_of_ble_eq_true rfl) ?_
  refine z_iload_n dX3_takesOf_27 rfl rfl ?_
  refine z_if_eq dX3_takesOf_28 rfl (fun _ => ?_) (fun c => absurd (by decide) c)
  refine z_iload_n dX3_takesOf_33 rfl rfl ?_
  refine z_bipush (v := 55) dX3_takesOf_34 (by decide) ?_
  refine z_icmp_eq dX3_takesOf_36 rfl (fun c => absurd c (by decide)) (fun _ => ?_)
  refine z_iload_n dX3_takesOf_39 rfl rfl ?_
  refine z_bipush (v := 22) dX3_takesOf_40 (by decide) ?_
  refine z_icmp_eq dX3_takesOf_42 rfl (fun c => absurd c (by decide)) (fun _ => ?_)
  refine z_iload_n dX3_takesOf_45 rfl rfl ?_
  refine z_bipush (v := 29) dX3_takesOf_46 (by decide) ?_
  refine z_icmp_ne dX3_takesOf_48 rfl (fun _ => ?_) (fun c => absurd c (by decide))
  refine z_iload_n dX3_takesOf_53 rfl rfl ?_
  refine z_bipush (v := 23) dX3_takesOf_54 (by decide) ?_
  refine z_icmp_ne dX3_takesOf_56 rfl (fun _ => ?_) (fun c => absurd c (by decide))
  refine z_iconst (v := 2) dX3_takesOf_63 (by decide) ?_
  refine z_iret dX3_takesOf_64 ?_
  exact hQ

theorem s_takes_29 {h : Hp} {d : Nat} : Sp d mX3_takesOf [.int (- nI 29)] h (some (.int (nI 1))) h := by
  intro N S Q hN hS hQ
  refine z_iload_n dX3_takesOf_0 rfl rfl ?_
  refine z_ineg dX3_takesOf_1 ?_
  refine z_eqi (y := nI 29) Int32.neg_neg ?_
  refine z_istore_n dX3_takesOf_2 rfl (Nat.le_of_ble_eq_true rfl) ?_
  refine z_iload_n dX3_takesOf_3 rfl rfl ?_
  refine z_bipush (v := 35) dX3_takesOf_4 (by decide) ?_
  refine z_icmp_gt dX3_takesOf_6 rfl (fun c => absurd c (by decide)) (fun _ => ?_)
  refine z_iload_n dX3_takesOf_9 rfl rfl ?_
  refine z_bipush (v := 20) dX3_takesOf_10 (by decide) ?_
  refine z_icmp_lt dX3_takesOf_12 rfl (fun c => absurd c (by decide)) (fun _ => ?_)
  refine z_iload_n dX3_takesOf_15 rfl rfl ?_
  refine z_bipush (v := 29) dX3_takesOf_16 (by decide) ?_
  refine z_icmp_le dX3_takesOf_18 rfl (fun _ => ?_) (fun c => absurd (by decide) c)
  refine z_iconst (v := 0) dX3_takesOf_25 (by decide) ?_
  refine z_istore_n dX3_takesOf_26 rfl (Nat.le_of_ble_eq_true rfl) ?_
  refine z_iload_n dX3_takesOf_27 rfl rfl ?_
  refine z_if_eq dX3_takesOf_28 rfl (fun _ => ?_) (fun c => absurd (by decide) c)
  refine z_iload_n dX3_takesOf_33 rfl rfl ?_
  refine z_bipush (v := 55) dX3_takesOf_34 (by decide) ?_
  refine z_icmp_eq dX3_takesOf_36 rfl (fun c => absurd c (by decide)) (fun _ => ?_)
  refine z_iload_n dX3_takesOf_39 rfl rfl ?_
  refine z_bipush (v := 22) dX3_takesOf_40 (by decide) ?_
  refine z_icmp_eq dX3_takesOf_42 rfl (fun c => absurd c (by decide)) (fun _ => ?_)
  refine z_iload_n dX3_takesOf_45 rfl rfl ?_
  refine z_bipush (v := 29) dX3_takesOf_46 (by decide) ?_
  refine z_icmp_ne dX3_takesOf_48 rfl (fun c => absurd (by decide) c) (fun _ => ?_)
  refine z_iconst (v := 1) dX3_takesOf_51 (by decide) ?_
  refine z_iret dX3_takesOf_52 ?_
  exact hQ

theorem s_takes_38 {h : Hp} {d : Nat} : Sp d mX3_takesOf [.int (- nI 38)] h (some (.int (nI 2))) h := by
  intro N S Q hN hS hQ
  refine z_iload_n dX3_takesOf_0 rfl rfl ?_
  refine z_ineg dX3_takesOf_1 ?_
  refine z_eqi (y := nI 38) Int32.neg_neg ?_
  refine z_istore_n dX3_takesOf_2 rfl (Nat.le_of_ble_eq_true rfl) ?_
  refine z_iload_n dX3_takesOf_3 rfl rfl ?_
  refine z_bipush (v := 35) dX3_takesOf_4 (by decide) ?_
  refine z_icmp_gt dX3_takesOf_6 rfl (fun _ => ?_) (fun c => absurd (by decide) c)
  refine z_iconst (v := 0) dX3_takesOf_25 (by decide) ?_
  refine z_istore_n dX3_takesOf_26 rfl (Nat.le_of_ble_eq_true rfl) ?_
  refine z_iload_n dX3_takesOf_27 rfl rfl ?_
  refine z_if_eq dX3_takesOf_28 rfl (fun _ => ?_) (fun c => absurd (by decide) c)
  refine z_iload_n dX3_takesOf_33 rfl rfl ?_
  refine z_bipush (v := 55) dX3_takesOf_34 (by decide) ?_
  refine z_icmp_eq dX3_takesOf_36 rfl (fun c => absurd c (by decide)) (fun _ => ?_)
  refine z_iload_n dX3_takesOf_39 rfl rfl ?_
  refine z_bipush (v := 22) dX3_takesOf_40 (by decide) ?_
  refine z_icmp_eq dX3_takesOf_42 rfl (fun c => absurd c (by decide)) (fun _ => ?_)
  refine z_iload_n dX3_takesOf_45 rfl rfl ?_
  refine z_bipush (v := 29) dX3_takesOf_46 (by decide) ?_
  refine z_icmp_ne dX3_takesOf_48 rfl (fun _ => ?_) (fun c => absurd c (by decide))
  refine z_iload_n dX3_takesOf_53 rfl rfl ?_
  refine z_bipush (v := 23) dX3_takesOf_54 (by decide) ?_
  refine z_icmp_ne dX3_takesOf_56 rfl (fun _ => ?_) (fun c => absurd c (by decide))
  refine z_iconst (v := 2) dX3_takesOf_63 (by decide) ?_
  refine z_iret dX3_takesOf_64 ?_
  exact hQ

theorem s_takes_39 {h : Hp} {d : Nat} : Sp d mX3_takesOf [.int (- nI 39)] h (some (.int (nI 2))) h := by
  intro N S Q hN hS hQ
  refine z_iload_n dX3_takesOf_0 rfl rfl ?_
  refine z_ineg dX3_takesOf_1 ?_
  refine z_eqi (y := nI 39) Int32.neg_neg ?_
  refine z_istore_n dX3_takesOf_2 rfl (Nat.le_of_ble_eq_true rfl) ?_
  refine z_iload_n dX3_takesOf_3 rfl rfl ?_
  refine z_bipush (v := 35) dX3_takesOf_4 (by decide) ?_
  refine z_icmp_gt dX3_takesOf_6 rfl (fun _ => ?_) (fun c => absurd (by decide) c)
  refine z_iconst (v := 0) dX3_takesOf_25 (by decide) ?_
  refine z_istore_n dX3_takesOf_26 rfl (Nat.le_of_ble_eq_true rfl) ?_
  refine z_iload_n dX3_takesOf_27 rfl rfl ?_
  refine z_if_eq dX3_takesOf_28 rfl (fun _ => ?_) (fun c => absurd (by decide) c)
  refine z_iload_n dX3_takesOf_33 rfl rfl ?_
  refine z_bipush (v := 55) dX3_takesOf_34 (by decide) ?_
  refine z_icmp_eq dX3_takesOf_36 rfl (fun c => absurd c (by decide)) (fun _ => ?_)
  refine z_iload_n dX3_takesOf_39 rfl rfl ?_
  refine z_bipush (v := 22) dX3_takesOf_40 (by decide) ?_
  refine z_icmp_eq dX3_takesOf_42 rfl (fun c => absurd c (by decide)) (fun _ => ?_)
  refine z_iload_n dX3_takesOf_45 rfl rfl ?_
  refine z_bipush (v := 29) dX3_takesOf_46 (by decide) ?_
  refine z_icmp_ne dX3_takesOf_48 rfl (fun _ => ?_) (fun c => absurd c (by decide))
  refine z_iload_n dX3_takesOf_53 rfl rfl ?_
  refine z_bipush (v := 23) dX3_takesOf_54 (by decide) ?_
  refine z_icmp_ne dX3_takesOf_56 rfl (fun _ => ?_) (fun c => absurd c (by decide))
  refine z_iconst (v := 2) dX3_takesOf_63 (by decide) ?_
  refine z_iret dX3_takesOf_64 ?_
  exact hQ

theorem s_takes_40 {h : Hp} {d : Nat} : Sp d mX3_takesOf [.int (- nI 40)] h (some (.int (nI 2))) h := by
  intro N S Q hN hS hQ
  refine z_iload_n dX3_takesOf_0 rfl rfl ?_
  refine z_ineg dX3_takesOf_1 ?_
  refine z_eqi (y := nI 40) Int32.neg_neg ?_
  refine z_istore_n dX3_takesOf_2 rfl (Nat.le_of_ble_eq_true rfl) ?_
  refine z_iload_n dX3_takesOf_3 rfl rfl ?_
  refine z_bipush (v := 35) dX3_takesOf_4 (by decide) ?_
  refine z_icmp_gt dX3_takesOf_6 rfl (fun _ => ?_) (fun c => absurd (by decide) c)
  refine z_iconst (v := 0) dX3_takesOf_25 (by decide) ?_
  refine z_istore_n dX3_takesOf_26 rfl (Nat.le_of_ble_eq_true rfl) ?_
  refine z_iload_n dX3_takesOf_27 rfl rfl ?_
  refine z_if_eq dX3_takesOf_28 rfl (fun _ => ?_) (fun c => absurd (by decide) c)
  refine z_iload_n dX3_takesOf_33 rfl rfl ?_
  refine z_bipush (v := 55) dX3_takesOf_34 (by decide) ?_
  refine z_icmp_eq dX3_takesOf_36 rfl (fun c => absurd c (by decide)) (fun _ => ?_)
  refine z_iload_n dX3_takesOf_39 rfl rfl ?_
  refine z_bipush (v := 22) dX3_takesOf_40 (by decide) ?_
  refine z_icmp_eq dX3_takesOf_42 rfl (fun c => absurd c (by decide)) (fun _ => ?_)
  refine z_iload_n dX3_takesOf_45 rfl rfl ?_
  refine z_bipush (v := 29) dX3_takesOf_46 (by decide) ?_
  refine z_icmp_ne dX3_takesOf_48 rfl (fun _ => ?_) (fun c => absurd c (by decide))
  refine z_iload_n dX3_takesOf_53 rfl rfl ?_
  refine z_bipush (v := 23) dX3_takesOf_54 (by decide) ?_
  refine z_icmp_ne dX3_takesOf_56 rfl (fun _ => ?_) (fun c => absurd c (by decide))
  refine z_iconst (v := 2) dX3_takesOf_63 (by decide) ?_
  refine z_iret dX3_takesOf_64 ?_
  exact hQ

theorem s_takes_41 {h : Hp} {d : Nat} : Sp d mX3_takesOf [.int (- nI 41)] h (some (.int (nI 2))) h := by
  intro N S Q hN hS hQ
  refine z_iload_n dX3_takesOf_0 rfl rfl ?_
  refine z_ineg dX3_takesOf_1 ?_
  refine z_eqi (y := nI 41) Int32.neg_neg ?_
  refine z_istore_n dX3_takesOf_2 rfl (Nat.le_of_ble_eq_true rfl) ?_
  refine z_iload_n dX3_takesOf_3 rfl rfl ?_
  refine z_bipush (v := 35) dX3_takesOf_4 (by decide) ?_
  refine z_icmp_gt dX3_takesOf_6 rfl (fun _ => ?_) (fun c => absurd (by decide) c)
  refine z_iconst (v := 0) dX3_takesOf_25 (by decide) ?_
  refine z_istore_n dX3_takesOf_26 rfl (Nat.le_of_ble_eq_true rfl) ?_
  refine z_iload_n dX3_takesOf_27 rfl rfl ?_
  refine z_if_eq dX3_takesOf_28 rfl (fun _ => ?_) (fun c => absurd (by decide) c)
  refine z_iload_n dX3_takesOf_33 rfl rfl ?_
  refine z_bipush (v := 55) dX3_takesOf_34 (by decide) ?_
  refine z_icmp_eq dX3_takesOf_36 rfl (fun c => absurd c (by decide)) (fun _ => ?_)
  refine z_iload_n dX3_takesOf_39 rfl rfl ?_
  refine z_bipush (v := 22) dX3_takesOf_40 (by decide) ?_
  refine z_icmp_eq dX3_takesOf_42 rfl (fun c => absurd c (by decide)) (fun _ => ?_)
  refine z_iload_n dX3_takesOf_45 rfl rfl ?_
  refine z_bipush (v := 29) dX3_takesOf_46 (by decide) ?_
  refine z_icmp_ne dX3_takesOf_48 rfl (fun _ => ?_) (fun c => absurd c (by decide))
  refine z_iload_n dX3_takesOf_53 rfl rfl ?_
  refine z_bipush (v := 23) dX3_takesOf_54 (by decide) ?_
  refine z_icmp_ne dX3_takesOf_56 rfl (fun _ => ?_) (fun c => absurd c (by decide))
  refine z_iconst (v := 2) dX3_takesOf_63 (by decide) ?_
  refine z_iret dX3_takesOf_64 ?_
  exact hQ

theorem s_takes_42 {h : Hp} {d : Nat} : Sp d mX3_takesOf [.int (- nI 42)] h (some (.int (nI 2))) h := by
  intro N S Q hN hS hQ
  refine z_iload_n dX3_takesOf_0 rfl rfl ?_
  refine z_ineg dX3_takesOf_1 ?_
  refine z_eqi (y := nI 42) Int32.neg_neg ?_
  refine z_istore_n dX3_takesOf_2 rfl (Nat.le_of_ble_eq_true rfl) ?_
  refine z_iload_n dX3_takesOf_3 rfl rfl ?_
  refine z_bipush (v := 35) dX3_takesOf_4 (by decide) ?_
  refine z_icmp_gt dX3_takesOf_6 rfl (fun _ => ?_) (fun c => absurd (by decide) c)
  refine z_iconst (v := 0) dX3_takesOf_25 (by decide) ?_
  refine z_istore_n dX3_takesOf_26 rfl (Nat.le_of_ble_eq_true rfl) ?_
  refine z_iload_n dX3_takesOf_27 rfl rfl ?_
  refine z_if_eq dX3_takesOf_28 rfl (fun _ => ?_) (fun c => absurd (by decide) c)
  refine z_iload_n dX3_takesOf_33 rfl rfl ?_
  refine z_bipush (v := 55) dX3_takesOf_34 (by decide) ?_
  refine z_icmp_eq dX3_takesOf_36 rfl (fun c => absurd c (by decide)) (fun _ => ?_)
  refine z_iload_n dX3_takesOf_39 rfl rfl ?_
  refine z_bipush (v := 22) dX3_takesOf_40 (by decide) ?_
  refine z_icmp_eq dX3_takesOf_42 rfl (fun c => absurd c (by decide)) (fun _ => ?_)
  refine z_iload_n dX3_takesOf_45 rfl rfl ?_
  refine z_bipush (v := 29) dX3_takesOf_46 (by decide) ?_
  refine z_icmp_ne dX3_takesOf_48 rfl (fun _ => ?_) (fun c => absurd c (by decide))
  refine z_iload_n dX3_takesOf_53 rfl rfl ?_
  refine z_bipush (v := 23) dX3_takesOf_54 (by decide) ?_
  refine z_icmp_ne dX3_takesOf_56 rfl (fun _ => ?_) (fun c => absurd c (by decide))
  refine z_iconst (v := 2) dX3_takesOf_63 (by decide) ?_
  refine z_iret dX3_takesOf_64 ?_
  exact hQ

theorem s_takes_43 {h : Hp} {d : Nat} : Sp d mX3_takesOf [.int (- nI 43)] h (some (.int (nI 2))) h := by
  intro N S Q hN hS hQ
  refine z_iload_n dX3_takesOf_0 rfl rfl ?_
  refine z_ineg dX3_takesOf_1 ?_
  refine z_eqi (y := nI 43) Int32.neg_neg ?_
  refine z_istore_n dX3_takesOf_2 rfl (Nat.le_of_ble_eq_true rfl) ?_
  refine z_iload_n dX3_takesOf_3 rfl rfl ?_
  refine z_bipush (v := 35) dX3_takesOf_4 (by decide) ?_
  refine z_icmp_gt dX3_takesOf_6 rfl (fun _ => ?_) (fun c => absurd (by decide) c)
  refine z_iconst (v := 0) dX3_takesOf_25 (by decide) ?_
  refine z_istore_n dX3_takesOf_26 rfl (Nat.le_of_ble_eq_true rfl) ?_
  refine z_iload_n dX3_takesOf_27 rfl rfl ?_
  refine z_if_eq dX3_takesOf_28 rfl (fun _ => ?_) (fun c => absurd (by decide) c)
  refine z_iload_n dX3_takesOf_33 rfl rfl ?_
  refine z_bipush (v := 55) dX3_takesOf_34 (by decide) ?_
  refine z_icmp_eq dX3_takesOf_36 rfl (fun c => absurd c (by decide)) (fun _ => ?_)
  refine z_iload_n dX3_takesOf_39 rfl rfl ?_
  refine z_bipush (v := 22) dX3_takesOf_40 (by decide) ?_
  refine z_icmp_eq dX3_takesOf_42 rfl (fun c => absurd c (by decide)) (fun _ => ?_)
  refine z_iload_n dX3_takesOf_45 rfl rfl ?_
  refine z_bipush (v := 29) dX3_takesOf_46 (by decide) ?_
  refine z_icmp_ne dX3_takesOf_48 rfl (fun _ => ?_) (fun c => absurd c (by decide))
  refine z_iload_n dX3_takesOf_53 rfl rfl ?_
  refine z_bipush (v := 23) dX3_takesOf_54 (by decide) ?_
  refine z_icmp_ne dX3_takesOf_56 rfl (fun _ => ?_) (fun c => absurd c (by decide))
  refine z_iconst (v := 2) dX3_takesOf_63 (by decide) ?_
  refine z_iret dX3_takesOf_64 ?_
  exact hQ

theorem s_takes_44 {h : Hp} {d : Nat} : Sp d mX3_takesOf [.int (- nI 44)] h (some (.int (nI 2))) h := by
  intro N S Q hN hS hQ
  refine z_iload_n dX3_takesOf_0 rfl rfl ?_
  refine z_ineg dX3_takesOf_1 ?_
  refine z_eqi (y := nI 44) Int32.neg_neg ?_
  refine z_istore_n dX3_takesOf_2 rfl (Nat.le_of_ble_eq_true rfl) ?_
  refine z_iload_n dX3_takesOf_3 rfl rfl ?_
  refine z_bipush (v := 35) dX3_takesOf_4 (by decide) ?_
  refine z_icmp_gt dX3_takesOf_6 rfl (fun _ => ?_) (fun c => absurd (by decide) c)
  refine z_iconst (v := 0) dX3_takesOf_25 (by decide) ?_
  refine z_istore_n dX3_takesOf_26 rfl (Nat.le_of_ble_eq_true rfl) ?_
  refine z_iload_n dX3_takesOf_27 rfl rfl ?_
  refine z_if_eq dX3_takesOf_28 rfl (fun _ => ?_) (fun c => absurd (by decide) c)
  refine z_iload_n dX3_takesOf_33 rfl rfl ?_
  refine z_bipush (v := 55) dX3_takesOf_34 (by decide) ?_
  refine z_icmp_eq dX3_takesOf_36 rfl (fun c => absurd c (by decide)) (fun _ => ?_)
  refine z_iload_n dX3_takesOf_39 rfl rfl ?_
  refine z_bipush (v := 22) dX3_takesOf_40 (by decide) ?_
  refine z_icmp_eq dX3_takesOf_42 rfl (fun c => absurd c (by decide)) (fun _ => ?_)
  refine z_iload_n dX3_takesOf_45 rfl rfl ?_
  refine z_bipush (v := 29) dX3_takesOf_46 (by decide) ?_
  refine z_icmp_ne dX3_takesOf_48 rfl (fun _ => ?_) (fun c => absurd c (by decide))
  refine z_iload_n dX3_takesOf_53 rfl rfl ?_
  refine z_bipush (v := 23) dX3_takesOf_54 (by decide) ?_
  refine z_icmp_ne dX3_takesOf_56 rfl (fun _ => ?_) (fun c => absurd c (by decide))
  refine z_iconst (v := 2) dX3_takesOf_63 (by decide) ?_
  refine z_iret dX3_takesOf_64 ?_
  exact hQ

theorem s_takes_45 {h : Hp} {d : Nat} : Sp d mX3_takesOf [.int (- nI 45)] h (some (.int (nI 2))) h := by
  intro N S Q hN hS hQ
  refine z_iload_n dX3_takesOf_0 rfl rfl ?_
  refine z_ineg dX3_takesOf_1 ?_
  refine z_eqi (y := nI 45) Int32.neg_neg ?_
  refine z_istore_n dX3_takesOf_2 rfl (Nat.le_of_ble_eq_true rfl) ?_
  refine z_iload_n dX3_takesOf_3 rfl rfl ?_
  refine z_bipush (v := 35) dX3_takesOf_4 (by decide) ?_
  refine z_icmp_gt dX3_takesOf_6 rfl (fun _ => ?_) (fun c => absurd (by decide) c)
  refine z_iconst (v := 0) dX3_takesOf_25 (by decide) ?_
  refine z_istore_n dX3_takesOf_26 rfl (Nat.le_of_ble_eq_true rfl) ?_
  refine z_iload_n dX3_takesOf_27 rfl rfl ?_
  refine z_if_eq dX3_takesOf_28 rfl (fun _ => ?_) (fun c => absurd (by decide) c)
  refine z_iload_n dX3_takesOf_33 rfl rfl ?_
  refine z_bipush (v := 55) dX3_takesOf_34 (by decide) ?_
  refine z_icmp_eq dX3_takesOf_36 rfl (fun c => absurd c (by decide)) (fun _ => ?_)
  refine z_iload_n dX3_takesOf_39 rfl rfl ?_
  refine z_bipush (v := 22) dX3_takesOf_40 (by decide) ?_
  refine z_icmp_eq dX3_takesOf_42 rfl (fun c => absurd c (by decide)) (fun _ => ?_)
  refine z_iload_n dX3_takesOf_45 rfl rfl ?_
  refine z_bipush (v := 29) dX3_takesOf_46 (by decide) ?_
  refine z_icmp_ne dX3_takesOf_48 rfl (fun _ => ?_) (fun c => absurd c (by decide))
  refine z_iload_n dX3_takesOf_53 rfl rfl ?_
  refine z_bipush (v := 23) dX3_takesOf_54 (by decide) ?_
  refine z_icmp_ne dX3_takesOf_56 rfl (fun _ => ?_) (fun c => absurd c (by decide))
  refine z_iconst (v := 2) dX3_takesOf_63 (by decide) ?_
  refine z_iret dX3_takesOf_64 ?_
  exact hQ

theorem s_takes_46 {h : Hp} {d : Nat} : Sp d mX3_takesOf [.int (- nI 46)] h (some (.int (nI 2))) h := by
  intro N S Q hN hS hQ
  refine z_iload_n dX3_takesOf_0 rfl rfl ?_
  refine z_ineg dX3_takesOf_1 ?_
  refine z_eqi (y := nI 46) Int32.neg_neg ?_
  refine z_istore_n dX3_takesOf_2 rfl (Nat.le_of_ble_eq_true rfl) ?_
  refine z_iload_n dX3_takesOf_3 rfl rfl ?_
  refine z_bipush (v := 35) dX3_takesOf_4 (by decide) ?_
  refine z_icmp_gt dX3_takesOf_6 rfl (fun _ => ?_) (fun c => absurd (by decide) c)
  refine z_iconst (v := 0) dX3_takesOf_25 (by decide) ?_
  refine z_istore_n dX3_takesOf_26 rfl (Nat.le_of_ble_eq_true rfl) ?_
  refine z_iload_n dX3_takesOf_27 rfl rfl ?_
  refine z_if_eq dX3_takesOf_28 rfl (fun _ => ?_) (fun c => absurd (by decide) c)
  refine z_iload_n dX3_takesOf_33 rfl rfl ?_
  refine z_bipush (v := 55) dX3_takesOf_34 (by decide) ?_
  refine z_icmp_eq dX3_takesOf_36 rfl (fun c => absurd c (by decide)) (fun _ => ?_)
  refine z_iload_n dX3_takesOf_39 rfl rfl ?_
  refine z_bipush (v := 22) dX3_takesOf_40 (by decide) ?_
  refine z_icmp_eq dX3_takesOf_42 rfl (fun c => absurd c (by decide)) (fun _ => ?_)
  refine z_iload_n dX3_takesOf_45 rfl rfl ?_
  refine z_bipush (v := 29) dX3_takesOf_46 (by decide) ?_
  refine z_icmp_ne dX3_takesOf_48 rfl (fun _ => ?_) (fun c => absurd c (by decide))
  refine z_iload_n dX3_takesOf_53 rfl rfl ?_
  refine z_bipush (v := 23) dX3_takesOf_54 (by decide) ?_
  refine z_icmp_ne dX3_takesOf_56 rfl (fun _ => ?_) (fun c => absurd c (by decide))
  refine z_iconst (v := 2) dX3_takesOf_63 (by decide) ?_
  refine z_iret dX3_takesOf_64 ?_
  exact hQ

theorem s_takes_47 {h : Hp} {d : Nat} : Sp d mX3_takesOf [.int (- nI 47)] h (some (.int (nI 2))) h := by
  intro N S Q hN hS hQ
  refine z_iload_n dX3_takesOf_0 rfl rfl ?_
  refine z_ineg dX3_takesOf_1 ?_
  refine z_eqi (y := nI 47) Int32.neg_neg ?_
  refine z_istore_n dX3_takesOf_2 rfl (Nat.le_of_ble_eq_true rfl) ?_
  refine z_iload_n dX3_takesOf_3 rfl rfl ?_
  refine z_bipush (v := 35) dX3_takesOf_4 (by decide) ?_
  refine z_icmp_gt dX3_takesOf_6 rfl (fun _ => ?_) (fun c => absurd (by decide) c)
  refine z_iconst (v := 0) dX3_takesOf_25 (by decide) ?_
  refine z_istore_n dX3_takesOf_26 rfl (Nat.le_of_ble_eq_true rfl) ?_
  refine z_iload_n dX3_takesOf_27 rfl rfl ?_
  refine z_if_eq dX3_takesOf_28 rfl (fun _ => ?_) (fun c => absurd (by decide) c)
  refine z_iload_n dX3_takesOf_33 rfl rfl ?_
  refine z_bipush (v := 55) dX3_takesOf_34 (by decide) ?_
  refine z_icmp_eq dX3_takesOf_36 rfl (fun c => absurd c (by decide)) (fun _ => ?_)
  refine z_iload_n dX3_takesOf_39 rfl rfl ?_
  refine z_bipush (v := 22) dX3_takesOf_40 (by decide) ?_
  refine z_icmp_eq dX3_takesOf_42 rfl (fun c => absurd c (by decide)) (fun _ => ?_)
  refine z_iload_n dX3_takesOf_45 rfl rfl ?_
  refine z_bipush (v := 29) dX3_takesOf_46 (by decide) ?_
  refine z_icmp_ne dX3_takesOf_48 rfl (fun _ => ?_) (fun c => absurd c (by decide))
  refine z_iload_n dX3_takesOf_53 rfl rfl ?_
  refine z_bipush (v := 23) dX3_takesOf_54 (by decide) ?_
  refine z_icmp_ne dX3_takesOf_56 rfl (fun _ => ?_) (fun c => absurd c (by decide))
  refine z_iconst (v := 2) dX3_takesOf_63 (by decide) ?_
  refine z_iret dX3_takesOf_64 ?_
  exact hQ

theorem s_takes_55 {h : Hp} {d : Nat} : Sp d mX3_takesOf [.int (- nI 55)] h (some (.int (nI 1))) h := by
  intro N S Q hN hS hQ
  refine z_iload_n dX3_takesOf_0 rfl rfl ?_
  refine z_ineg dX3_takesOf_1 ?_
  refine z_eqi (y := nI 55) Int32.neg_neg ?_
  refine z_istore_n dX3_takesOf_2 rfl (Nat.le_of_ble_eq_true rfl) ?_
  refine z_iload_n dX3_takesOf_3 rfl rfl ?_
  refine z_bipush (v := 35) dX3_takesOf_4 (by decide) ?_
  refine z_icmp_gt dX3_takesOf_6 rfl (fun _ => ?_) (fun c => absurd (by decide) c)
  refine z_iconst (v := 0) dX3_takesOf_25 (by decide) ?_
  refine z_istore_n dX3_takesOf_26 rfl (Nat.le_of_ble_eq_true rfl) ?_
  refine z_iload_n dX3_takesOf_27 rfl rfl ?_
  refine z_if_eq dX3_takesOf_28 rfl (fun _ => ?_) (fun c => absurd (by decide) c)
  refine z_iload_n dX3_takesOf_33 rfl rfl ?_
  refine z_bipush (v := 55) dX3_takesOf_34 (by decide) ?_
  refine z_icmp_eq dX3_takesOf_36 rfl (fun _ => ?_) (fun c => absurd (rfl) c)
  refine z_iconst (v := 1) dX3_takesOf_51 (by decide) ?_
  refine z_iret dX3_takesOf_52 ?_
  exact hQ

theorem neg_le0 {t : Nat} (ht : t < 2 ^ 31) : - nI t ≤ 0 := by
  rcases Nat.eq_zero_or_pos t with rfl | h0
  · exact Int32.le_refl _
  · exact Int32.le_of_lt (neg_lt0 ht h0)

theorem s_takes_n {h : Hp} {d v : Nat} (hv : v ≤ 9999) : Sp d mX3_takesOf [.int (nI v)] h (some (.int (nI 0))) h := by
  intro N S Q hN hS hQ
  refine z_iload_n dX3_takesOf_0 rfl rfl ?_
  refine z_ineg dX3_takesOf_1 ?_
  refine z_istore_n dX3_takesOf_2 rfl (Nat.le_of_ble_eq_true rfl) ?_
  refine z_iload_n dX3_takesOf_3 rfl rfl ?_
  refine z_bipush (v := 35) dX3_takesOf_4 (by decide) ?_
  refine z_icmp_gt dX3_takesOf_6 rfl (fun c => absurd c (Int32.not_lt.mpr (Int32.le_trans (neg_le0 (by omega)) (by decide)))) (fun _ => ?_)
  refine z_iload_n dX3_takesOf_9 rfl rfl ?_
  refine z_bipush (v := 20) dX3_takesOf_10 (by decide) ?_
  refine z_icmp_lt dX3_takesOf_12 rfl (fun _ => ?_) (fun c => absurd (Int32.lt_of_le_of_lt (neg_le0 (by omega)) (by decide)) c)
  refine z_iconst (v := 1) dX3_takesOf_21 (by decide) ?_
  refine z_goto dX3_takesOf_22 rfl ?_
  refine z_istore_n dX3_takesOf_26 rfl (Nat.le_of_ble_eq_true rfl) ?_
  refine z_iload_n dX3_takesOf_27 rfl rfl ?_
  refine z_if_eq dX3_takesOf_28 rfl (fun c => absurd c (by decide)) (fun _ => ?_)
  refine z_iconst (v := 0) dX3_takesOf_31 (by decide) ?_
  refine z_iret dX3_takesOf_32 ?_
  exact hQ

theorem s_takes {h : Hp} {d o v : Nat} {c : Prop} (ok : okI c o v) : Sp d mX3_takesOf [.int (cnv o v)] h (some (.int (nI (tkO o)))) h := by
  rcases ok with ⟨rfl, hv⟩ | ⟨rfl, hv, _⟩ | ho
  · exact s_takes_n hv
  · rcases (show v = 0 ∨ v = 1 ∨ v = 2 ∨ v = 3 ∨ v = 4 ∨ v = 5 ∨ v = 6 ∨ v = 7 ∨ v = 8 ∨ v = 9 ∨ v = 10 by omega) with rfl | rfl | rfl | rfl | rfl | rfl | rfl | rfl | rfl | rfl | rfl
    · exact s_takes_10
    · exact s_takes_30
    · exact s_takes_4
    · exact s_takes_31
    · exact s_takes_11
    · exact s_takes_32
    · exact s_takes_12
    · exact s_takes_33
    · exact s_takes_16
    · exact s_takes_34
    · exact s_takes_35
  rcases (show o = 2 ∨ o = 3 ∨ o = 4 ∨ o = 5 ∨ o = 6 ∨ o = 7 ∨ o = 8 ∨ o = 9 ∨ o = 10 ∨ o = 11 ∨ o = 12 ∨ o = 13 ∨ o = 14 ∨ o = 15 ∨ o = 20 ∨ o = 21 ∨ o = 22 by omega) with rfl | rfl | rfl | rfl | rfl | rfl | rfl | rfl | rfl | rfl | rfl | rfl | rfl | rfl | rfl | rfl | rfl
  · exact s_takes_22
  · exact s_takes_23
  · exact s_takes_20
  · exact s_takes_55
  · exact s_takes_44
  · exact s_takes_45
  · exact s_takes_46
  · exact s_takes_47
  · exact s_takes_40
  · exact s_takes_38
  · exact s_takes_41
  · exact s_takes_39
  · exact s_takes_42
  · exact s_takes_43
  · exact s_takes_29
  · exact s_takes_28
  · exact s_takes_27

theorem s_value_6 {h : Hp} {d so : Nat} {x y z : Int} (hx : b31 x) (hy : b31 y) (hz : b31 z) (hso : so < 256) : Sp d mX3_value [.int (nI 44), .long (iL x), .long (iL y), .long (iL z), .int (nI so)] h (some (.long (iL (rawV so 6 x y z)))) h := by
  intro N S Q hN hS hQ
  have bx := b31_62 hx
  have by_ := b31_62 hy
  refine z_iload_n dX3_value_0 rfl rfl ?_
  refine z_tableIn (off := 159) (tgt := 160) dX3_value_1 (by decide) (by decide) rfl rfl ?_
  refine z_lload_n dX3_value_160 rfl rfl ?_
  refine z_lload_n dX3_value_161 rfl rfl ?_
  refine z_ladd dX3_value_162 ?_
  refine z_lret dX3_value_163 ?_
  rw [show rawV so 6 x y z = x + y from rfl, ← iL_add] at hQ
  exact hQ

theorem s_value_7 {h : Hp} {d so : Nat} {x y z : Int} (hx : b31 x) (hy : b31 y) (hz : b31 z) (hso : so < 256) : Sp d mX3_value [.int (nI 45), .long (iL x), .long (iL y), .long (iL z), .int (nI so)] h (some (.long (iL (rawV so 7 x y z)))) h := by
  intro N S Q hN hS hQ
  have bx := b31_62 hx
  have by_ := b31_62 hy
  refine z_iload_n dX3_value_0 rfl rfl ?_
  refine z_tableIn (off := 163) (tgt := 164) dX3_value_1 (by decide) (by decide) rfl rfl ?_
  refine z_lload_n dX3_value_164 rfl rfl ?_
  refine z_lload_n dX3_value_165 rfl rfl ?_
  refine z_lsub dX3_value_166 ?_
  refine z_lret dX3_value_167 ?_
  rw [show rawV so 7 x y z = x - y from rfl, ← iL_sub] at hQ
  exact hQ

theorem s_value_8 {h : Hp} {d so : Nat} {x y z : Int} (hx : b31 x) (hy : b31 y) (hz : b31 z) (hso : so < 256) : Sp d mX3_value [.int (nI 46), .long (iL x), .long (iL y), .long (iL z), .int (nI so)] h (some (.long (iL (rawV so 8 x y z)))) h := by
  intro N S Q hN hS hQ
  have bx := b31_62 hx
  have by_ := b31_62 hy
  refine z_iload_n dX3_value_0 rfl rfl ?_
  refine z_tableIn (off := 167) (tgt := 168) dX3_value_1 (by decide) (by decide) rfl rfl ?_
  refine z_lload_n dX3_value_168 rfl rfl ?_
  refine z_lload_n dX3_value_169 rfl rfl ?_
  refine z_lmul dX3_value_170 ?_
  refine z_lret dX3_value_171 ?_
  rw [show rawV so 8 x y z = x * y from rfl, ← iL_mul] at hQ
  exact hQ

theorem s_value_5 {h : Hp} {d so : Nat} {x y z : Int} (hx : b31 x) (hy : b31 y) (hz : b31 z) (hso : so < 256) : Sp d mX3_value [.int (nI 55), .long (iL x), .long (iL y), .long (iL z), .int (nI so)] h (some (.long (iL (rawV so 5 x y z)))) h := by
  intro N S Q hN hS hQ
  have bx := b31_62 hx
  have by_ := b31_62 hy
  refine z_iload_n dX3_value_0 rfl rfl ?_
  refine z_tableIn (off := 203) (tgt := 204) dX3_value_1 (by decide) (by decide) rfl rfl ?_
  refine z_lload_n dX3_value_204 rfl rfl ?_
  refine z_lneg dX3_value_205 ?_
  refine z_lret dX3_value_206 ?_
  rw [show rawV so 5 x y z = - x from rfl, ← iL_neg] at hQ
  exact hQ

theorem s_value_10 {h : Hp} {d so : Nat} {x y z : Int} (hx : b31 x) (hy : b31 y) (hz : b31 z) (hso : so < 256) : Sp d mX3_value [.int (nI 40), .long (iL x), .long (iL y), .long (iL z), .int (nI so)] h (some (.long (iL (rawV so 10 x y z)))) h := by
  intro N S Q hN hS hQ
  have bx := b31_62 hx
  have by_ := b31_62 hy
  refine z_iload_n dX3_value_0 rfl rfl ?_
  refine z_tableIn (off := 246) (tgt := 247) dX3_value_1 (by decide) (by decide) rfl rfl ?_
  refine z_lload_n dX3_value_247 rfl rfl ?_
  refine z_lload_n dX3_value_248 rfl rfl ?_
  refine z_lcmp dX3_value_249 ?_
  refine z_if_ge dX3_value_250 rfl (fun c250 => ?_) (fun c250 => ?_)
  · -- to 257
    refine z_lconst (v := 0) dX3_value_257 (by decide) ?_
    refine z_lret dX3_value_258 ?_
    first
      | (rw [show rawV so 10 x y z = tb (x < y) from rfl, tb_f (p := x < y) (Int.not_lt.mpr ((iL_le by_ bx).mp ((lg_cmp_ge _ _).mp c250)))] at hQ; exact hQ)
      | (rw [show rawV so 10 x y z = tb (x < y) from rfl, tb_t (p := x < y) ((iL_lt bx by_).mp (Int64.not_le.mp (fun q => c250 ((lg_cmp_ge _ _).mpr q))))] at hQ; exact hQ)
  · -- on
    refine z_lconst (v := 1) dX3_value_253 (by decide) ?_
    refine z_goto dX3_value_254 rfl ?_
    refine z_lret dX3_value_258 ?_
    first
      | (rw [show rawV so 10 x y z = tb (x < y) from rfl, tb_f (p := x < y) (Int.not_lt.mpr ((iL_le by_ bx).mp ((lg_cmp_ge _ _).mp c250)))] at hQ; exact hQ)
      | (rw [show rawV so 10 x y z = tb (x < y) from rfl, tb_t (p := x < y) ((iL_lt bx by_).mp (Int64.not_le.mp (fun q => c250 ((lg_cmp_ge _ _).mpr q))))] at hQ; exact hQ)

theorem s_value_11 {h : Hp} {d so : Nat} {x y z : Int} (hx : b31 x) (hy : b31 y) (hz : b31 z) (hso : so < 256) : Sp d mX3_value [.int (nI 38), .long (iL x), .long (iL y), .long (iL z), .int (nI so)] h (some (.long (iL (rawV so 11 x y z)))) h := by
  intro N S Q hN hS hQ
  have bx := b31_62 hx
  have by_ := b31_62 hy
  refine z_iload_n dX3_value_0 rfl rfl ?_
  refine z_tableIn (off := 258) (tgt := 259) dX3_value_1 (by decide) (by decide) rfl rfl ?_
  refine z_lload_n dX3_value_259 rfl rfl ?_
  refine z_lload_n dX3_value_260 rfl rfl ?_
  refine z_lcmp dX3_value_261 ?_
  refine z_if_gt dX3_value_262 rfl (fun c262 => ?_) (fun c262 => ?_)
  · -- to 269
    refine z_lconst (v := 0) dX3_value_269 (by decide) ?_
    refine z_lret dX3_value_270 ?_
    first
      | (rw [show rawV so 11 x y z = tb (x ≤ y) from rfl, tb_f (p := x ≤ y) (Int.not_le.mpr ((iL_lt by_ bx).mp ((lg_cmp_gt _ _).mp c262)))] at hQ; exact hQ)
      | (rw [show rawV so 11 x y z = tb (x ≤ y) from rfl, tb_t (p := x ≤ y) ((iL_le bx by_).mp (Int64.not_lt.mp (fun q => c262 ((lg_cmp_gt _ _).mpr q))))] at hQ; exact hQ)
  · -- on
    refine z_lconst (v := 1) dX3_value_265 (by decide) ?_
    refine z_goto dX3_value_266 rfl ?_
    refine z_lret dX3_value_270 ?_
    first
      | (rw [show rawV so 11 x y z = tb (x ≤ y) from rfl, tb_f (p := x ≤ y) (Int.not_le.mpr ((iL_lt by_ bx).mp ((lg_cmp_gt _ _).mp c262)))] at hQ; exact hQ)
      | (rw [show rawV so 11 x y z = tb (x ≤ y) from rfl, tb_t (p := x ≤ y) ((iL_le bx by_).mp (Int64.not_lt.mp (fun q => c262 ((lg_cmp_gt _ _).mpr q))))] at hQ; exact hQ)

theorem s_value_12 {h : Hp} {d so : Nat} {x y z : Int} (hx : b31 x) (hy : b31 y) (hz : b31 z) (hso : so < 256) : Sp d mX3_value [.int (nI 41), .long (iL x), .long (iL y), .long (iL z), .int (nI so)] h (some (.long (iL (rawV so 12 x y z)))) h := by
  intro N S Q hN hS hQ
  have bx := b31_62 hx
  have by_ := b31_62 hy
  refine z_iload_n dX3_value_0 rfl rfl ?_
  refine z_tableIn (off := 270) (tgt := 271) dX3_value_1 (by decide) (by decide) rfl rfl ?_
  refine z_lload_n dX3_value_271 rfl rfl ?_
  refine z_lload_n dX3_value_272 rfl rfl ?_
  refine z_lcmp dX3_value_273 ?_
  refine z_if_le dX3_value_274 rfl (fun c274 => ?_) (fun c274 => ?_)
  · -- to 281
    refine z_lconst (v := 0) dX3_value_281 (by decide) ?_
    refine z_lret dX3_value_282 ?_
    first
      | (rw [show rawV so 12 x y z = tb (y < x) from rfl, tb_f (p := y < x) (Int.not_lt.mpr ((iL_le bx by_).mp ((lg_cmp_le _ _).mp c274)))] at hQ; exact hQ)
      | (rw [show rawV so 12 x y z = tb (y < x) from rfl, tb_t (p := y < x) ((iL_lt by_ bx).mp (Int64.not_le.mp (fun q => c274 ((lg_cmp_le _ _).mpr q))))] at hQ; exact hQ)
  · -- on
    refine z_lconst (v := 1) dX3_value_277 (by decide) ?_
    refine z_goto dX3_value_278 rfl ?_
    refine z_lret dX3_value_282 ?_
    first
      | (rw [show rawV so 12 x y z = tb (y < x) from rfl, tb_f (p := y < x) (Int.not_lt.mpr ((iL_le bx by_).mp ((lg_cmp_le _ _).mp c274)))] at hQ; exact hQ)
      | (rw [show rawV so 12 x y z = tb (y < x) from rfl, tb_t (p := y < x) ((iL_lt by_ bx).mp (Int64.not_le.mp (fun q => c274 ((lg_cmp_le _ _).mpr q))))] at hQ; exact hQ)

theorem s_value_13 {h : Hp} {d so : Nat} {x y z : Int} (hx : b31 x) (hy : b31 y) (hz : b31 z) (hso : so < 256) : Sp d mX3_value [.int (nI 39), .long (iL x), .long (iL y), .long (iL z), .int (nI so)] h (some (.long (iL (rawV so 13 x y z)))) h := by
  intro N S Q hN hS hQ
  have bx := b31_62 hx
  have by_ := b31_62 hy
  refine z_iload_n dX3_value_0 rfl rfl ?_
  refine z_tableIn (off := 282) (tgt := 283) dX3_value_1 (by decide) (by decide) rfl rfl ?_
  refine z_lload_n dX3_value_283 rfl rfl ?_
  refine z_lload_n dX3_value_284 rfl rfl ?_
  refine z_lcmp dX3_value_285 ?_
  refine z_if_lt dX3_value_286 rfl (fun c286 => ?_) (fun c286 => ?_)
  · -- to 293
    refine z_lconst (v := 0) dX3_value_293 (by decide) ?_
    refine z_lret dX3_value_294 ?_
    first
      | (rw [show rawV so 13 x y z = tb (y ≤ x) from rfl, tb_f (p := y ≤ x) (Int.not_le.mpr ((iL_lt bx by_).mp ((lg_cmp_lt _ _).mp c286)))] at hQ; exact hQ)
      | (rw [show rawV so 13 x y z = tb (y ≤ x) from rfl, tb_t (p := y ≤ x) ((iL_le by_ bx).mp (Int64.not_lt.mp (fun q => c286 ((lg_cmp_lt _ _).mpr q))))] at hQ; exact hQ)
  · -- on
    refine z_lconst (v := 1) dX3_value_289 (by decide) ?_
    refine z_goto dX3_value_290 rfl ?_
    refine z_lret dX3_value_294 ?_
    first
      | (rw [show rawV so 13 x y z = tb (y ≤ x) from rfl, tb_f (p := y ≤ x) (Int.not_le.mpr ((iL_lt bx by_).mp ((lg_cmp_lt _ _).mp c286)))] at hQ; exact hQ)
      | (rw [show rawV so 13 x y z = tb (y ≤ x) from rfl, tb_t (p := y ≤ x) ((iL_le by_ bx).mp (Int64.not_lt.mp (fun q => c286 ((lg_cmp_lt _ _).mpr q))))] at hQ; exact hQ)

theorem s_value_14 {h : Hp} {d so : Nat} {x y z : Int} (hx : b31 x) (hy : b31 y) (hz : b31 z) (hso : so < 256) : Sp d mX3_value [.int (nI 42), .long (iL x), .long (iL y), .long (iL z), .int (nI so)] h (some (.long (iL (rawV so 14 x y z)))) h := by
  intro N S Q hN hS hQ
  have bx := b31_62 hx
  have by_ := b31_62 hy
  refine z_iload_n dX3_value_0 rfl rfl ?_
  refine z_tableIn (off := 294) (tgt := 295) dX3_value_1 (by decide) (by decide) rfl rfl ?_
  refine z_lload_n dX3_value_295 rfl rfl ?_
  refine z_lload_n dX3_value_296 rfl rfl ?_
  refine z_lcmp dX3_value_297 ?_
  refine z_if_ne dX3_value_298 rfl (fun c298 => ?_) (fun c298 => ?_)
  · -- to 305
    refine z_lconst (v := 0) dX3_value_305 (by decide) ?_
    refine z_lret dX3_value_306 ?_
    first
      | (rw [show rawV so 14 x y z = tb (x = y) from rfl, tb_f (p := x = y) (fun q => c298 ((lg_cmp_eq _ _).mpr ((iL_eq bx by_).mpr q)))] at hQ; exact hQ)
      | (rw [show rawV so 14 x y z = tb (x = y) from rfl, tb_t (p := x = y) ((iL_eq bx by_).mp ((lg_cmp_eq _ _).mp c298))] at hQ; exact hQ)
  · -- on
    refine z_lconst (v := 1) dX3_value_301 (by decide) ?_
    refine z_goto dX3_value_302 rfl ?_
    refine z_lret dX3_value_306 ?_
    first
      | (rw [show rawV so 14 x y z = tb (x = y) from rfl, tb_f (p := x = y) (fun q => c298 ((lg_cmp_eq _ _).mpr ((iL_eq bx by_).mpr q)))] at hQ; exact hQ)
      | (rw [show rawV so 14 x y z = tb (x = y) from rfl, tb_t (p := x = y) ((iL_eq bx by_).mp ((lg_cmp_eq _ _).mp c298))] at hQ; exact hQ)

theorem s_value_15 {h : Hp} {d so : Nat} {x y z : Int} (hx : b31 x) (hy : b31 y) (hz : b31 z) (hso : so < 256) : Sp d mX3_value [.int (nI 43), .long (iL x), .long (iL y), .long (iL z), .int (nI so)] h (some (.long (iL (rawV so 15 x y z)))) h := by
  intro N S Q hN hS hQ
  have bx := b31_62 hx
  have by_ := b31_62 hy
  refine z_iload_n dX3_value_0 rfl rfl ?_
  refine z_tableIn (off := 306) (tgt := 307) dX3_value_1 (by decide) (by decide) rfl rfl ?_
  refine z_lload_n dX3_value_307 rfl rfl ?_
  refine z_lload_n dX3_value_308 rfl rfl ?_
  refine z_lcmp dX3_value_309 ?_
  refine z_if_eq dX3_value_310 rfl (fun c310 => ?_) (fun c310 => ?_)
  · -- to 317
    refine z_lconst (v := 0) dX3_value_317 (by decide) ?_
    refine z_lret dX3_value_318 ?_
    first
      | (rw [show rawV so 15 x y z = tb (¬ x = y) from rfl, tb_f (p := ¬ x = y) (fun q => q ((iL_eq bx by_).mp ((lg_cmp_eq _ _).mp c310)))] at hQ; exact hQ)
      | (rw [show rawV so 15 x y z = tb (¬ x = y) from rfl, tb_t (p := ¬ x = y) (fun q => c310 ((lg_cmp_eq _ _).mpr ((iL_eq bx by_).mpr q)))] at hQ; exact hQ)
  · -- on
    refine z_lconst (v := 1) dX3_value_313 (by decide) ?_
    refine z_goto dX3_value_314 rfl ?_
    refine z_lret dX3_value_318 ?_
    first
      | (rw [show rawV so 15 x y z = tb (¬ x = y) from rfl, tb_f (p := ¬ x = y) (fun q => q ((iL_eq bx by_).mp ((lg_cmp_eq _ _).mp c310)))] at hQ; exact hQ)
      | (rw [show rawV so 15 x y z = tb (¬ x = y) from rfl, tb_t (p := ¬ x = y) (fun q => c310 ((lg_cmp_eq _ _).mpr ((iL_eq bx by_).mpr q)))] at hQ; exact hQ)

theorem s_value_20 {h : Hp} {d so : Nat} {x y z : Int} (hx : b31 x) (hy : b31 y) (hz : b31 z) (hso : so < 256) : Sp d mX3_value [.int (nI 29), .long (iL x), .long (iL y), .long (iL z), .int (nI so)] h (some (.long (iL (rawV so 20 x y z)))) h := by
  intro N S Q hN hS hQ
  have bx := b31_62 hx
  have by_ := b31_62 hy
  refine z_iload_n dX3_value_0 rfl rfl ?_
  refine z_tableIn (off := 318) (tgt := 319) dX3_value_1 (by decide) (by decide) rfl rfl ?_
  refine z_lload_n dX3_value_319 rfl rfl ?_
  refine z_lconst (v := 0) dX3_value_320 (by decide) ?_
  refine z_lcmp dX3_value_321 ?_
  refine z_if_ne dX3_value_322 rfl (fun c322 => ?_) (fun c322 => ?_)
  · -- to 329
    refine z_lconst (v := 0) dX3_value_329 (by decide) ?_
    refine z_lret dX3_value_330 ?_
    first
      | (rw [show rawV so 20 x y z = tb (x = 0) from rfl, tb_f (p := x = 0) (fun q => c322 ((lg_cmp_eq _ _).mpr ((iL_eq0 bx).mpr q)))] at hQ; exact hQ)
      | (rw [show rawV so 20 x y z = tb (x = 0) from rfl, tb_t (p := x = 0) ((iL_eq0 bx).mp ((lg_cmp_eq _ _).mp c322))] at hQ; exact hQ)
  · -- on
    refine z_lconst (v := 1) dX3_value_325 (by decide) ?_
    refine z_goto dX3_value_326 rfl ?_
    refine z_lret dX3_value_330 ?_
    first
      | (rw [show rawV so 20 x y z = tb (x = 0) from rfl, tb_f (p := x = 0) (fun q => c322 ((lg_cmp_eq _ _).mpr ((iL_eq0 bx).mpr q)))] at hQ; exact hQ)
      | (rw [show rawV so 20 x y z = tb (x = 0) from rfl, tb_t (p := x = 0) ((iL_eq0 bx).mp ((lg_cmp_eq _ _).mp c322))] at hQ; exact hQ)

theorem s_value_21 {h : Hp} {d so : Nat} {x y z : Int} (hx : b31 x) (hy : b31 y) (hz : b31 z) (hso : so < 256) : Sp d mX3_value [.int (nI 28), .long (iL x), .long (iL y), .long (iL z), .int (nI so)] h (some (.long (iL (rawV so 21 x y z)))) h := by
  intro N S Q hN hS hQ
  have bx := b31_62 hx
  have by_ := b31_62 hy
  refine z_iload_n dX3_value_0 rfl rfl ?_
  refine z_tableIn (off := 330) (tgt := 331) dX3_value_1 (by decide) (by decide) rfl rfl ?_
  refine z_lload_n dX3_value_331 rfl rfl ?_
  refine z_lconst (v := 0) dX3_value_332 (by decide) ?_
  refine z_lcmp dX3_value_333 ?_
  refine z_if_eq dX3_value_334 rfl (fun c334 => ?_) (fun c334 => ?_)
  · -- to 347
    refine z_lconst (v := 0) dX3_value_347 (by decide) ?_
    refine z_lret dX3_value_348 ?_
    first
      | (rw [show rawV so 21 x y z = tb (¬ x = 0 ∧ ¬ y = 0) from rfl, tb_f (p := ¬ x = 0 ∧ ¬ y = 0) (fun q => q.1 ((iL_eq0 bx).mp ((lg_cmp_eq _ _).mp c334)))] at hQ; exact hQ)
      | (rw [show rawV so 21 x y z = tb (¬ x = 0 ∧ ¬ y = 0) from rfl, tb_f (p := ¬ x = 0 ∧ ¬ y = 0) (fun q => q.2 ((iL_eq0 by_).mp ((lg_cmp_eq _ _).mp c340)))] at hQ; exact hQ)
      | (rw [show rawV so 21 x y z = tb (¬ x = 0 ∧ ¬ y = 0) from rfl, tb_t (p := ¬ x = 0 ∧ ¬ y = 0) ⟨(fun q => c334 ((lg_cmp_eq _ _).mpr ((iL_eq0 bx).mpr q))), (fun q => c340 ((lg_cmp_eq _ _).mpr ((iL_eq0 by_).mpr q)))⟩] at hQ; exact hQ)
  · -- on
    refine z_lload_n dX3_value_337 rfl rfl ?_
    refine z_lconst (v := 0) dX3_value_338 (by decide) ?_
    refine z_lcmp dX3_value_339 ?_
    refine z_if_eq dX3_value_340 rfl (fun c340 => ?_) (fun c340 => ?_)
    · -- to 347
      refine z_lconst (v := 0) dX3_value_347 (by decide) ?_
      refine z_lret dX3_value_348 ?_
      first
        | (rw [show rawV so 21 x y z = tb (¬ x = 0 ∧ ¬ y = 0) from rfl, tb_f (p := ¬ x = 0 ∧ ¬ y = 0) (fun q => q.1 ((iL_eq0 bx).mp ((lg_cmp_eq _ _).mp c334)))] at hQ; exact hQ)
        | (rw [show rawV so 21 x y z = tb (¬ x = 0 ∧ ¬ y = 0) from rfl, tb_f (p := ¬ x = 0 ∧ ¬ y = 0) (fun q => q.2 ((iL_eq0 by_).mp ((lg_cmp_eq _ _).mp c340)))] at hQ; exact hQ)
        | (rw [show rawV so 21 x y z = tb (¬ x = 0 ∧ ¬ y = 0) from rfl, tb_t (p := ¬ x = 0 ∧ ¬ y = 0) ⟨(fun q => c334 ((lg_cmp_eq _ _).mpr ((iL_eq0 bx).mpr q))), (fun q => c340 ((lg_cmp_eq _ _).mpr ((iL_eq0 by_).mpr q)))⟩] at hQ; exact hQ)
    · -- on
      refine z_lconst (v := 1) dX3_value_343 (by decide) ?_
      refine z_goto dX3_value_344 rfl ?_
      refine z_lret dX3_value_348 ?_
      first
        | (rw [show rawV so 21 x y z = tb (¬ x = 0 ∧ ¬ y = 0) from rfl, tb_f (p := ¬ x = 0 ∧ ¬ y = 0) (fun q => q.1 ((iL_eq0 bx).mp ((lg_cmp_eq _ _).mp c334)))] at hQ; exact hQ)
        | (rw [show rawV so 21 x y z = tb (¬ x = 0 ∧ ¬ y = 0) from rfl, tb_f (p := ¬ x = 0 ∧ ¬ y = 0) (fun q => q.2 ((iL_eq0 by_).mp ((lg_cmp_eq _ _).mp c340)))] at hQ; exact hQ)
        | (rw [show rawV so 21 x y z = tb (¬ x = 0 ∧ ¬ y = 0) from rfl, tb_t (p := ¬ x = 0 ∧ ¬ y = 0) ⟨(fun q => c334 ((lg_cmp_eq _ _).mpr ((iL_eq0 bx).mpr q))), (fun q => c340 ((lg_cmp_eq _ _).mpr ((iL_eq0 by_).mpr q)))⟩] at hQ; exact hQ)

theorem s_value_22 {h : Hp} {d so : Nat} {x y z : Int} (hx : b31 x) (hy : b31 y) (hz : b31 z) (hso : so < 256) : Sp d mX3_value [.int (nI 27), .long (iL x), .long (iL y), .long (iL z), .int (nI so)] h (some (.long (iL (rawV so 22 x y z)))) h := by
  intro N S Q hN hS hQ
  have bx := b31_62 hx
  have by_ := b31_62 hy
  refine z_iload_n dX3_value_0 rfl rfl ?_
  refine z_tableIn (off := 348) (tgt := 349) dX3_value_1 (by decide) (by decide) rfl rfl ?_
  refine z_lload_n dX3_value_349 rfl rfl ?_
  refine z_lconst (v := 0) dX3_value_350 (by decide) ?_
  refine z_lcmp dX3_value_351 ?_
  refine z_if_ne dX3_value_352 rfl (fun c352 => ?_) (fun c352 => ?_)
  · -- to 361
    refine z_lconst (v := 1) dX3_value_361 (by decide) ?_
    refine z_goto dX3_value_362 rfl ?_
    refine z_lret dX3_value_366 ?_
    first
      | (rw [show rawV so 22 x y z = tb (¬ x = 0 ∨ ¬ y = 0) from rfl, tb_t (p := ¬ x = 0 ∨ ¬ y = 0) (Or.inl (fun q => c352 ((lg_cmp_eq _ _).mpr ((iL_eq0 bx).mpr q))))] at hQ; exact hQ)
      | (rw [show rawV so 22 x y z = tb (¬ x = 0 ∨ ¬ y = 0) from rfl, tb_f (p := ¬ x = 0 ∨ ¬ y = 0) (fun q => q.elim (fun e => e ((iL_eq0 bx).mp ((lg_cmp_eq _ _).mp c352))) (fun e => e ((iL_eq0 by_).mp ((lg_cmp_eq _ _).mp c358))))] at hQ; exact hQ)
      | (rw [show rawV so 22 x y z = tb (¬ x = 0 ∨ ¬ y = 0) from rfl, tb_t (p := ¬ x = 0 ∨ ¬ y = 0) (Or.inr (fun q => c358 ((lg_cmp_eq _ _).mpr ((iL_eq0 by_).mpr q))))] at hQ; exact hQ)
  · -- on
    refine z_lload_n dX3_value_355 rfl rfl ?_
    refine z_lconst (v := 0) dX3_value_356 (by decide) ?_
    refine z_lcmp dX3_value_357 ?_
    refine z_if_eq dX3_value_358 rfl (fun c358 => ?_) (fun c358 => ?_)
    · -- to 365
      refine z_lconst (v := 0) dX3_value_365 (by decide) ?_
      refine z_lret dX3_value_366 ?_
      first
        | (rw [show rawV so 22 x y z = tb (¬ x = 0 ∨ ¬ y = 0) from rfl, tb_t (p := ¬ x = 0 ∨ ¬ y = 0) (Or.inl (fun q => c352 ((lg_cmp_eq _ _).mpr ((iL_eq0 bx).mpr q))))] at hQ; exact hQ)
        | (rw [show rawV so 22 x y z = tb (¬ x = 0 ∨ ¬ y = 0) from rfl, tb_f (p := ¬ x = 0 ∨ ¬ y = 0) (fun q => q.elim (fun e => e ((iL_eq0 bx).mp ((lg_cmp_eq _ _).mp c352))) (fun e => e ((iL_eq0 by_).mp ((lg_cmp_eq _ _).mp c358))))] at hQ; exact hQ)
        | (rw [show rawV so 22 x y z = tb (¬ x = 0 ∨ ¬ y = 0) from rfl, tb_t (p := ¬ x = 0 ∨ ¬ y = 0) (Or.inr (fun q => c358 ((lg_cmp_eq _ _).mpr ((iL_eq0 by_).mpr q))))] at hQ; exact hQ)
    · -- on
      refine z_lconst (v := 1) dX3_value_361 (by decide) ?_
      refine z_goto dX3_value_362 rfl ?_
      refine z_lret dX3_value_366 ?_
      first
        | (rw [show rawV so 22 x y z = tb (¬ x = 0 ∨ ¬ y = 0) from rfl, tb_t (p := ¬ x = 0 ∨ ¬ y = 0) (Or.inl (fun q => c352 ((lg_cmp_eq _ _).mpr ((iL_eq0 bx).mpr q))))] at hQ; exact hQ)
        | (rw [show rawV so 22 x y z = tb (¬ x = 0 ∨ ¬ y = 0) from rfl, tb_f (p := ¬ x = 0 ∨ ¬ y = 0) (fun q => q.elim (fun e => e ((iL_eq0 bx).mp ((lg_cmp_eq _ _).mp c352))) (fun e => e ((iL_eq0 by_).mp ((lg_cmp_eq _ _).mp c358))))] at hQ; exact hQ)
        | (rw [show rawV so 22 x y z = tb (¬ x = 0 ∨ ¬ y = 0) from rfl, tb_t (p := ¬ x = 0 ∨ ¬ y = 0) (Or.inr (fun q => c358 ((lg_cmp_eq _ _).mpr ((iL_eq0 by_).mpr q))))] at hQ; exact hQ)

theorem s_value_3 {h : Hp} {d so : Nat} {x y z : Int} (hx : b31 x) (hy : b31 y) (hz : b31 z) (hso : so < 256) : Sp d mX3_value [.int (nI 23), .long (iL x), .long (iL y), .long (iL z), .int (nI so)] h (some (.long (iL (rawV so 3 x y z)))) h := by
  intro N S Q hN hS hQ
  have bx := b31_62 hx
  have by_ := b31_62 hy
  refine z_iload_n dX3_value_0 rfl rfl ?_
  refine z_tableIn (off := 233) (tgt := 234) dX3_value_1 (by decide) (by decide) rfl rfl ?_
  refine z_lload_n dX3_value_234 rfl rfl ?_
  refine z_lconst (v := 0) dX3_value_235 (by decide) ?_
  refine z_lcmp dX3_value_236 ?_
  refine z_if_eq dX3_value_237 rfl (fun c237 => ?_) (fun c237 => ?_)
  · -- to 244
    refine z_lload dX3_value_244 rfl ?_
    refine z_lret dX3_value_246 ?_
    first
      | (rw [show rawV so 3 x y z = (if x = 0 then z else y) from rfl, if_pos ((iL_eq0 bx).mp ((lg_cmp_eq _ _).mp c237))] at hQ; exact hQ)
      | (rw [show rawV so 3 x y z = (if x = 0 then z else y) from rfl, if_neg (fun q => c237 ((lg_cmp_eq _ _).mpr ((iL_eq0 bx).mpr q)))] at hQ; exact hQ)
  · -- on
    refine z_lload_n dX3_value_240 rfl rfl ?_
    refine z_goto dX3_value_241 rfl ?_
    refine z_lret dX3_value_246 ?_
    first
      | (rw [show rawV so 3 x y z = (if x = 0 then z else y) from rfl, if_pos ((iL_eq0 bx).mp ((lg_cmp_eq _ _).mp c237))] at hQ; exact hQ)
      | (rw [show rawV so 3 x y z = (if x = 0 then z else y) from rfl, if_neg (fun q => c237 ((lg_cmp_eq _ _).mpr ((iL_eq0 bx).mpr q)))] at hQ; exact hQ)

theorem s_value_9 {h : Hp} {d so : Nat} {x y z : Int} (hx : b31 x) (hy : b31 y) (hz : b31 z) (hso : so < 256) : Sp d mX3_value [.int (nI 47), .long (iL x), .long (iL y), .long (iL z), .int (nI so)] h (some (.long (iL (rawV so 9 x y z)))) h := by
  intro N S Q hN hS hQ
  have bx := b31_62 hx
  have by_ := b31_62 hy
  refine z_iload_n dX3_value_0 rfl rfl ?_
  refine z_tableIn (off := 171) (tgt := 172) dX3_value_1 (by decide) (by decide) rfl rfl ?_
  refine z_lload_n dX3_value_172 rfl rfl ?_
  refine z_lconst (v := 0) dX3_value_173 (by decide) ?_
  refine z_lcmp dX3_value_174 ?_
  refine z_if_ne dX3_value_175 rfl (fun c175 => ?_) (fun c175 => ?_)
  · -- to 182
    refine z_lload_n dX3_value_182 rfl rfl ?_
    refine z_lload_n dX3_value_183 rfl rfl ?_
    refine z_ldiv dX3_value_184 (fun q => c175 ((lg_cmp_eq _ _).mpr q)) ?_
    refine z_lret dX3_value_185 ?_
    first
      | (rw [show rawV so 9 x y z = (if y = 0 then 0 else x.tdiv y) from rfl, if_pos ((iL_eq0 by_).mp ((lg_cmp_eq _ _).mp c175))] at hQ; exact hQ)
      | (rw [show rawV so 9 x y z = (if y = 0 then 0 else x.tdiv y) from rfl, if_neg (fun q => c175 ((lg_cmp_eq _ _).mpr ((iL_eq0 by_).mpr q))), ← iL_div bx by_] at hQ; exact hQ)
  · -- on
    refine z_lconst (v := 0) dX3_value_178 (by decide) ?_
    refine z_goto dX3_value_179 rfl ?_
    refine z_lret dX3_value_185 ?_
    first
      | (rw [show rawV so 9 x y z = (if y = 0 then 0 else x.tdiv y) from rfl, if_pos ((iL_eq0 by_).mp ((lg_cmp_eq _ _).mp c175))] at hQ; exact hQ)
      | (rw [show rawV so 9 x y z = (if y = 0 then 0 else x.tdiv y) from rfl, if_neg (fun q => c175 ((lg_cmp_eq _ _).mpr ((iL_eq0 by_).mpr q))), ← iL_div bx by_] at hQ; exact hQ)

theorem s_value_4 {h : Hp} {d so : Nat} {x y z : Int} (hx : b31 x) (hy : b31 y) (hz : b31 z) (hso : so < 256) : Sp d mX3_value [.int (nI 20), .long (iL x), .long (iL y), .long (iL z), .int (nI so)] h (some (.long (iL (rawV so 4 x y z)))) h := by
  intro N S Q hN hS hQ
  have bx := b31_62 hx
  have by_ := b31_62 hy
  refine z_iload_n dX3_value_0 rfl rfl ?_
  refine z_tableIn (off := 185) (tgt := 186) dX3_value_1 (by decide) (by decide) rfl rfl ?_
  refine z_lload_n dX3_value_186 rfl rfl ?_
  refine z_lconst (v := 0) dX3_value_187 (by decide) ?_
  refine z_lcmp dX3_value_188 ?_
  refine z_if_ne dX3_value_189 rfl (fun c189 => ?_) (fun c189 => ?_)
  · -- to 196
    refine z_ldc2 (v := 100) dX3_value_196 Kc_X3_49 ?_
    refine z_lload_n dX3_value_199 rfl rfl ?_
    refine z_lmul dX3_value_200 ?_
    refine z_lload_n dX3_value_201 rfl rfl ?_
    refine z_ldiv dX3_value_202 (fun q => c189 ((lg_cmp_eq _ _).mpr q)) ?_
    refine z_lret dX3_value_203 ?_
    first
      | (rw [show rawV so 4 x y z = (if y = 0 then 0 else (100 * x).tdiv y) from rfl, if_pos ((iL_eq0 by_).mp ((lg_cmp_eq _ _).mp c189))] at hQ; exact hQ)
      | (rw [show rawV so 4 x y z = (if y = 0 then 0 else (100 * x).tdiv y) from rfl, if_neg (fun q => c189 ((lg_cmp_eq _ _).mpr ((iL_eq0 by_).mpr q))), ← iL_div ⟨by have := hx.1; omega, by have := hx.2; omega⟩ by_, ← iL_mul] at hQ; exact hQ)
  · -- on
    refine z_lconst (v := 0) dX3_value_192 (by decide) ?_
    refine z_goto dX3_value_193 rfl ?_
    refine z_lret dX3_value_203 ?_
    first
      | (rw [show rawV so 4 x y z = (if y = 0 then 0 else (100 * x).tdiv y) from rfl, if_pos ((iL_eq0 by_).mp ((lg_cmp_eq _ _).mp c189))] at hQ; exact hQ)
      | (rw [show rawV so 4 x y z = (if y = 0 then 0 else (100 * x).tdiv y) from rfl, if_neg (fun q => c189 ((lg_cmp_eq _ _).mpr ((iL_eq0 by_).mpr q))), ← iL_div ⟨by have := hx.1; omega, by have := hx.2; omega⟩ by_, ← iL_mul] at hQ; exact hQ)

theorem s_value_2 {h : Hp} {d so : Nat} {x y z : Int} (hx : b31 x) (hy : b31 y) (hz : b31 z) (hso : so < 256) : Sp d mX3_value [.int (nI 22), .long (iL x), .long (iL y), .long (iL z), .int (nI so)] h (some (.long (iL (rawV so 2 x y z)))) h := by
  intro N S Q hN hS hQ
  have bx := b31_62 hx
  have by_ := b31_62 hy
  refine z_iload_n dX3_value_0 rfl rfl ?_
  refine z_tableIn (off := 206) (tgt := 207) dX3_value_1 (by decide) (by decide) rfl rfl ?_
  refine z_lload_n dX3_value_207 rfl rfl ?_
  refine z_lconst (v := 0) dX3_value_208 (by decide) ?_
  refine z_lcmp dX3_value_209 ?_
  refine z_if_lt dX3_value_210 rfl (fun c210 => ?_) (fun c210 => ?_)
  · -- to 232
    refine z_lconst (v := 0) dX3_value_232 (by decide) ?_
    refine z_lret dX3_value_233 ?_
    first
      | (rw [show rawV so 2 x y z = (if 0 ≤ x ∧ x < 8 then tb (so.testBit x.toNat = true) else 0) from rfl, if_neg (fun q => absurd ((iL_lt bx b62_0).mp ((lg_cmp_lt _ _).mp c210)) (Int.not_lt.mpr q.1))] at hQ; exact hQ)
      | (rw [show rawV so 2 x y z = (if 0 ≤ x ∧ x < 8 then tb (so.testBit x.toNat = true) else 0) from rfl, if_neg (fun q => absurd ((iL_le (x := 8) ⟨by omega, by omega⟩ bx).mp ((lg_cmp_ge _ _).mp c218)) (Int.not_le.mpr q.2))] at hQ; exact hQ)
      | (have q0 : 0 ≤ x := (iL_le b62_0 bx).mp (Int64.not_lt.mp (fun q => c210 ((lg_cmp_lt _ _).mpr q)))
         have q8 : x < 8 := (iL_lt (y := 8) bx ⟨by omega, by omega⟩).mp (Int64.not_le.mp (fun q => c218 ((lg_cmp_ge _ _).mpr q)))
         rw [show rawV so 2 x y z = (if 0 ≤ x ∧ x < 8 then tb (so.testBit x.toNat = true) else 0) from rfl, if_pos ⟨q0, q8⟩] at hQ
         obtain ⟨k, rfl⟩ := Int.eq_ofNat_of_zero_le q0
         rw [Int.toNat_natCast] at hQ
         rw [iL_i, ← nI_i, has_bit (by omega) (by omega), nI_l (by omega), testBit_mod, ← iL_n]
         by_cases hb : so.testBit k = true
         · rw [tb_t hb] at hQ
           rw [if_pos hb]
           exact hQ
         · rw [tb_f hb] at hQ
           rw [if_neg hb]
           exact hQ)
  · -- on
    refine z_lload_n dX3_value_213 rfl rfl ?_
    refine z_ldc2 (v := 8) dX3_value_214 Kc_X3_51 ?_
    refine z_lcmp dX3_value_217 ?_
    refine z_if_ge dX3_value_218 rfl (fun c218 => ?_) (fun c218 => ?_)
    · -- to 232
      refine z_lconst (v := 0) dX3_value_232 (by decide) ?_
      refine z_lret dX3_value_233 ?_
      first
        | (rw [show rawV so 2 x y z = (if 0 ≤ x ∧ x < 8 then tb (so.testBit x.toNat = true) else 0) from rfl, if_neg (fun q => absurd ((iL_lt bx b62_0).mp ((lg_cmp_lt _ _).mp c210)) (Int.not_lt.mpr q.1))] at hQ; exact hQ)
        | (rw [show rawV so 2 x y z = (if 0 ≤ x ∧ x < 8 then tb (so.testBit x.toNat = true) else 0) from rfl, if_neg (fun q => absurd ((iL_le (x := 8) ⟨by omega, by omega⟩ bx).mp ((lg_cmp_ge _ _).mp c218)) (Int.not_le.mpr q.2))] at hQ; exact hQ)
        | (have q0 : 0 ≤ x := (iL_le b62_0 bx).mp (Int64.not_lt.mp (fun q => c210 ((lg_cmp_lt _ _).mpr q)))
           have q8 : x < 8 := (iL_lt (y := 8) bx ⟨by omega, by omega⟩).mp (Int64.not_le.mp (fun q => c218 ((lg_cmp_ge _ _).mpr q)))
           rw [show rawV so 2 x y z = (if 0 ≤ x ∧ x < 8 then tb (so.testBit x.toNat = true) else 0) from rfl, if_pos ⟨q0, q8⟩] at hQ
           obtain ⟨k, rfl⟩ := Int.eq_ofNat_of_zero_le q0
           rw [Int.toNat_natCast] at hQ
           rw [iL_i, ← nI_i, has_bit (by omega) (by omega), nI_l (by omega), testBit_mod, ← iL_n]
           by_cases hb : so.testBit k = true
           · rw [tb_t hb] at hQ
             rw [if_pos hb]
             exact hQ
           · rw [tb_f hb] at hQ
             rw [if_neg hb]
             exact hQ)
    · -- on
      refine z_iload dX3_value_221 rfl ?_
      refine z_lload_n dX3_value_223 rfl rfl ?_
      refine z_l2i dX3_value_224 ?_
      refine z_ishr dX3_value_225 ?_
      refine z_iconst (v := 1) dX3_value_226 (by decide) ?_
      refine z_iand dX3_value_227 ?_
      refine z_i2l dX3_value_228 ?_
      refine z_goto dX3_value_229 rfl ?_
      refine z_lret dX3_value_233 ?_
      first
        | (rw [show rawV so 2 x y z = (if 0 ≤ x ∧ x < 8 then tb (so.testBit x.toNat = true) else 0) from rfl, if_neg (fun q => absurd ((iL_lt bx b62_0).mp ((lg_cmp_lt _ _).mp c210)) (Int.not_lt.mpr q.1))] at hQ; exact hQ)
        | (rw [show rawV so 2 x y z = (if 0 ≤ x ∧ x < 8 then tb (so.testBit x.toNat = true) else 0) from rfl, if_neg (fun q => absurd ((iL_le (x := 8) ⟨by omega, by omega⟩ bx).mp ((lg_cmp_ge _ _).mp c218)) (Int.not_le.mpr q.2))] at hQ; exact hQ)
        | (have q0 : 0 ≤ x := (iL_le b62_0 bx).mp (Int64.not_lt.mp (fun q => c210 ((lg_cmp_lt _ _).mpr q)))
           have q8 : x < 8 := (iL_lt (y := 8) bx ⟨by omega, by omega⟩).mp (Int64.not_le.mp (fun q => c218 ((lg_cmp_ge _ _).mpr q)))
           rw [show rawV so 2 x y z = (if 0 ≤ x ∧ x < 8 then tb (so.testBit x.toNat = true) else 0) from rfl, if_pos ⟨q0, q8⟩] at hQ
           obtain ⟨k, rfl⟩ := Int.eq_ofNat_of_zero_le q0
           rw [Int.toNat_natCast] at hQ
           rw [iL_i, ← nI_i, has_bit (by omega) (by omega), nI_l (by omega), testBit_mod, ← iL_n]
           by_cases hb : so.testBit k = true
           · rw [tb_t hb] at hQ
             rw [if_pos hb]
             exact hQ
           · rw [tb_f hb] at hQ
             rw [if_neg hb]
             exact hQ)

theorem s_value {h : Hp} {d so : Nat} {x y z : Int} (hx : b31 x) (hy : b31 y) (hz : b31 z) (hso : so < 256) {o : Nat} (ho : (2 ≤ o ∧ o ≤ 15) ∨ (20 ≤ o ∧ o ≤ 22)) : Sp d mX3_value [.int (nI (opT o)), .long (iL x), .long (iL y), .long (iL z), .int (nI so)] h (some (.long (iL (rawV so o x y z)))) h := by
  rcases (show o = 2 ∨ o = 3 ∨ o = 4 ∨ o = 5 ∨ o = 6 ∨ o = 7 ∨ o = 8 ∨ o = 9 ∨ o = 10 ∨ o = 11 ∨ o = 12 ∨ o = 13 ∨ o = 14 ∨ o = 15 ∨ o = 20 ∨ o = 21 ∨ o = 22 by omega) with rfl | rfl | rfl | rfl | rfl | rfl | rfl | rfl | rfl | rfl | rfl | rfl | rfl | rfl | rfl | rfl | rfl
  · exact s_value_2 hx hy hz hso
  · exact s_value_3 hx hy hz hso
  · exact s_value_4 hx hy hz hso
  · exact s_value_5 hx hy hz hso
  · exact s_value_6 hx hy hz hso
  · exact s_value_7 hx hy hz hso
  · exact s_value_8 hx hy hz hso
  · exact s_value_9 hx hy hz hso
  · exact s_value_10 hx hy hz hso
  · exact s_value_11 hx hy hz hso
  · exact s_value_12 hx hy hz hso
  · exact s_value_13 hx hy hz hso
  · exact s_value_14 hx hy hz hso
  · exact s_value_15 hx hy hz hso
  · exact s_value_20 hx hy hz hso
  · exact s_value_21 hx hy hz hso
  · exact s_value_22 hx hy hz hso

