/-! the rows (walks by program: wip/whole/gen20.py) -/
/-- the rows at k, their cells behind it: width w, room for ms rows -/
def RwS (h : Hp) (k w ms : Nat) : Prop := IO h 4 k ∧ pR h k 2 = some (k + 1) ∧ IA h 10 (ms * w) (k + 1)
def RwC (h : Hp) (k w ms n : Nat) : Prop := pI h k 0 = nI ms ∧ pI h k 1 = nI w ∧ pI h k 3 = nI n ∧ n ≤ ms ∧ 0 < w ∧ w ≤ 6 ∧ ms ≤ 30
theorem SS.rw {h h1 : Hp} {k w ms : Nat} (hs : SS h h1) (hr : RwS h k w ms) : RwS h1 k w ms := ⟨hs.O hr.1, by rw [hs.R]; exact hr.2.1, hs.A hr.2.2⟩
theorem mul_lt_rows {i j w n ms : Nat} (hi : i < n) (hn : n ≤ ms) (hj : j < w) : i * w + j < ms * w := by
  have h1 : (i + 1) * w ≤ ms * w := Nat.mul_le_mul_right w (by omega)
  rw [Nat.add_mul] at h1
  omega
theorem rows_small {ms w : Nat} (h1 : ms ≤ 30) (h2 : w ≤ 6) : ms * w ≤ 180 := Nat.le_trans (Nat.mul_le_mul h1 h2) (by omega)

theorem s_has {h : Hp} {d k w ms n : Nat} (hR : RwS h k w ms) (hC : RwC h k w ms n) (row : Int32) : Sp d mX4_has [.ref k, .int row] h (some (.int (bI (vin row n)))) h := by
  intro N S Q hN hS hQ
  obtain ⟨hR1, hR2, hR3⟩ := hR
  obtain ⟨hC0, hC1, hC3, hn, hw0, hw6, hms⟩ := hC
  have hsm := rows_small hms hw6
  refine z_iload_n dX4_has_0 rfl rfl ?_
  refine z_if_lt dX4_has_1 rfl (fun c1 => ?_) (fun c1 => ?_)
  · -- to 16
    refine z_iconst (v := 0) dX4_has_16 (by decide) ?_
    refine z_iret dX4_has_17 ?_
    first
      | (rw [bI_f (fun q => absurd q.1 (Int32.not_le.mpr c1))] at hQ; exact hQ)
      | (rw [bI_f (fun q => absurd q.2 (Int32.not_lt.mpr c9))] at hQ; exact hQ)
      | (rw [bI_t ⟨Int32.not_lt.mp c1, Int32.not_le.mp c9⟩] at hQ; exact hQ)
  · -- on
    refine z_iload_n dX4_has_4 rfl rfl ?_
    refine z_aload_n dX4_has_5 rfl rfl ?_
    refine y_getI FX4_28 dX4_has_6 (Or.inl rfl) hR1 ?_
    refine z_eqi (y := nI (n)) hC3 ?_
    refine z_icmp_ge dX4_has_9 rfl (fun c9 => ?_) (fun c9 => ?_)
    · -- to 16
      refine z_iconst (v := 0) dX4_has_16 (by decide) ?_
      refine z_iret dX4_has_17 ?_
      first
        | (rw [bI_f (fun q => absurd q.1 (Int32.not_le.mpr c1))] at hQ; exact hQ)
        | (rw [bI_f (fun q => absurd q.2 (Int32.not_lt.mpr c9))] at hQ; exact hQ)
        | (rw [bI_t ⟨Int32.not_lt.mp c1, Int32.not_le.mp c9⟩] at hQ; exact hQ)
    · -- on
      refine z_iconst (v := 1) dX4_has_12 (by decide) ?_
      refine z_goto dX4_has_13 rfl ?_
      refine z_iret dX4_has_17 ?_
      first
        | (rw [bI_f (fun q => absurd q.1 (Int32.not_le.mpr c1))] at hQ; exact hQ)
        | (rw [bI_f (fun q => absurd q.2 (Int32.not_lt.mpr c9))] at hQ; exact hQ)
        | (rw [bI_t ⟨Int32.not_lt.mp c1, Int32.not_le.mp c9⟩] at hQ; exact hQ)

theorem s_get {h : Hp} {d k w ms n : Nat} (hR : RwS h k w ms) (hC : RwC h k w ms n) {i j : Nat} (hi : i < n) (hj : j < w) : Sp d mX4_get [.ref k, .int (nI i), .int (nI j)] h (some (.int (pI h (k + 1) (i * w + j)))) h := by
  intro N S Q hN hS hQ
  obtain ⟨hR1, hR2, hR3⟩ := hR
  obtain ⟨hC0, hC1, hC3, hn, hw0, hw6, hms⟩ := hC
  have hsm := rows_small hms hw6
  have hb := mul_lt_rows hi hn hj
  refine z_iload_n dX4_get_0 rfl rfl ?_
  refine z_aload_n dX4_get_1 rfl rfl ?_
  refine y_getI FX4_21 dX4_get_2 (Or.inl rfl) hR1 ?_
  refine z_eqi (y := nI (w)) hC1 ?_
  refine z_imul dX4_get_5 ?_
  refine z_iload_n dX4_get_6 rfl rfl ?_
  refine z_iadd dX4_get_7 ?_
  refine z_eqi (show nI i * nI w + nI j = nI (i * w + j) by rw [pk_mul, nI_add]) ?_
  refine z_istore_n dX4_get_8 rfl (Nat.le_of_ble_eq_true rfl) ?_
  refine z_iload_n dX4_get_9 rfl rfl ?_
  refine z_if_lt dX4_get_10 rfl (fun c => absurd c (nI_pos (by omega))) (fun _ => ?_)
  refine z_iload_n dX4_get_13 rfl rfl ?_
  refine z_aload_n dX4_get_14 rfl rfl ?_
  refine y_getI FX4_28 dX4_get_15 (Or.inl rfl) hR1 ?_
  refine z_eqi (y := nI (n)) hC3 ?_
  refine z_icmp_ge dX4_get_18 rfl (fun c => absurd c (fun q => absurd ((nI_leI (by omega) (by omega)).mp q) (by omega))) (fun _ => ?_)
  refine z_iload_n dX4_get_21 rfl rfl ?_
  refine z_if_lt dX4_get_22 rfl (fun c => absurd c (nI_pos (by omega))) (fun _ => ?_)
  refine z_iload_n dX4_get_25 rfl rfl ?_
  refine z_aload_n dX4_get_26 rfl rfl ?_
  refine y_getI FX4_21 dX4_get_27 (Or.inl rfl) hR1 ?_
  refine z_eqi (y := nI (w)) hC1 ?_
  refine z_icmp_ge dX4_get_30 rfl (fun c => absurd c (fun q => absurd ((nI_leI (by omega) (by omega)).mp q) (by omega))) (fun _ => ?_)
  refine z_iconst (v := 1) dX4_get_33 (by decide) ?_
  refine z_goto dX4_get_34 rfl ?_
  refine z_istore dX4_get_38 (Nat.le_of_ble_eq_true rfl) ?_
  refine z_iload dX4_get_40 rfl ?_
  refine z_if_eq dX4_get_42 rfl (fun c => absurd c (by decide)) (fun _ => ?_)
  refine z_iload_n dX4_get_45 rfl rfl ?_
  refine z_if_lt dX4_get_46 rfl (fun c => absurd c (nI_pos (by omega))) (fun _ => ?_)
  refine z_iload_n dX4_get_49 rfl rfl ?_
  refine z_aload_n dX4_get_50 rfl rfl ?_
  refine y_getR FX4_24 dX4_get_51 rfl hR1 hR2 ?_
  refine y_alen dX4_get_54 hR3 ⟨Nat.le_of_ble_eq_true rfl, Nat.le_of_ble_eq_true rfl⟩ rfl ?_
  refine z_icmp_ge dX4_get_55 rfl (fun c => absurd c (fun q => absurd ((nI_leI (by omega) (by omega)).mp q) (by omega))) (fun _ => ?_)
  refine z_aload_n dX4_get_58 rfl rfl ?_
  refine y_getR FX4_24 dX4_get_59 rfl hR1 hR2 ?_
  refine z_iload_n dX4_get_62 rfl rfl ?_
  refine y_ialN (i * w + j) dX4_get_63 hR3 (by omega) (by first | rfl | (simp only [← nI_add, ← pk_mul]; rfl)) (by omega) ?_
  refine z_goto dX4_get_64 rfl ?_
  refine z_iret dX4_get_68 ?_
  exact hQ

theorem s_get0 {h : Hp} {d k w ms n : Nat} (hR : RwS h k w ms) (hC : RwC h k w ms n) (row : Int32) (j : Int32) (hrow : ¬ vin row n) : Sp d mX4_get [.ref k, .int row, .int j] h (some (.int 0)) h := by
  intro N S Q hN hS hQ
  obtain ⟨hR1, hR2, hR3⟩ := hR
  obtain ⟨hC0, hC1, hC3, hn, hw0, hw6, hms⟩ := hC
  have hsm := rows_small hms hw6
  refine z_iload_n dX4_get_0 rfl rfl ?_
  refine z_aload_n dX4_get_1 rfl rfl ?_
  refine y_getI FX4_21 dX4_get_2 (Or.inl rfl) hR1 ?_
  refine z_eqi (y := nI (w)) hC1 ?_
  refine z_imul dX4_get_5 ?_
  refine z_iload_n dX4_get_6 rfl rfl ?_
  refine z_iadd dX4_get_7 ?_
  refine z_istore_n dX4_get_8 rfl (Nat.le_of_ble_eq_true rfl) ?_
  refine z_iload_n dX4_get_9 rfl rfl ?_
  refine z_if_lt dX4_get_10 rfl (fun c10 => ?_) (fun c10 => ?_)
  · -- to 37
    refine z_iconst (v := 0) dX4_get_37 (by decide) ?_
    refine z_istore dX4_get_38 (Nat.le_of_ble_eq_true rfl) ?_
    refine z_iload dX4_get_40 rfl ?_
    refine z_if_eq dX4_get_42 rfl (fun _ => ?_) (fun c => absurd (by decide) c)
    refine z_iconst (v := 0) dX4_get_67 (by decide) ?_
    refine z_iret dX4_get_68 ?_
    exact hQ
  · -- on
    refine z_iload_n dX4_get_13 rfl rfl ?_
    refine z_aload_n dX4_get_14 rfl rfl ?_
    refine y_getI FX4_28 dX4_get_15 (Or.inl rfl) hR1 ?_
    refine z_eqi (y := nI (n)) hC3 ?_
    refine z_icmp_ge dX4_get_18 rfl (fun c18 => ?_) (fun c18 => ?_)
    · -- to 37
      refine z_iconst (v := 0) dX4_get_37 (by decide) ?_
      refine z_istore dX4_get_38 (Nat.le_of_ble_eq_true rfl) ?_
      refine z_iload dX4_get_40 rfl ?_
      refine z_if_eq dX4_get_42 rfl (fun _ => ?_) (fun c => absurd (by decide) c)
      refine z_iconst (v := 0) dX4_get_67 (by decide) ?_
      refine z_iret dX4_get_68 ?_
      exact hQ
    · -- on
      exact absurd ⟨Int32.not_lt.mp c10, Int32.not_le.mp c18⟩ hrow

theorem s_set {h : Hp} {d k w ms n : Nat} (hR : RwS h k w ms) (hC : RwC h k w ms n) {i j : Nat} {v : Int32} (hi : i < n) (hj : j < w) : Sp d mX4_set [.ref k, .int (nI i), .int (nI j), .int v] h none (sI h (k + 1) (i * w + j) v) := by
  intro N S Q hN hS hQ
  obtain ⟨hR1, hR2, hR3⟩ := hR
  obtain ⟨hC0, hC1, hC3, hn, hw0, hw6, hms⟩ := hC
  have hsm := rows_small hms hw6
  have hb := mul_lt_rows hi hn hj
  refine z_iload_n dX4_set_0 rfl rfl ?_
  refine z_aload_n dX4_set_1 rfl rfl ?_
  refine y_getI FX4_21 dX4_set_2 (Or.inl rfl) hR1 ?_
  refine z_eqi (y := nI (w)) hC1 ?_
  refine z_imul dX4_set_5 ?_
  refine z_iload_n dX4_set_6 rfl rfl ?_
  refine z_iadd dX4_set_7 ?_
  refine z_eqi (show nI i * nI w + nI j = nI (i * w + j) by rw [pk_mul, nI_add]) ?_
  refine z_istore dX4_set_8 (Nat.le_of_ble_eq_true rfl) ?_
  refine z_iload_n dX4_set_10 rfl rfl ?_
  refine z_if_lt dX4_set_11 rfl (fun c => absurd c (nI_pos (by omega))) (fun _ => ?_)
  refine z_iload_n dX4_set_14 rfl rfl ?_
  refine z_aload_n dX4_set_15 rfl rfl ?_
  refine y_getI FX4_28 dX4_set_16 (Or.inl rfl) hR1 ?_
  refine z_eqi (y := nI (n)) hC3 ?_
  refine z_icmp_ge dX4_set_19 rfl (fun c => absurd c (fun q => absurd ((nI_leI (by omega) (by omega)).mp q) (by omega))) (fun _ => ?_)
  refine z_iload_n dX4_set_22 rfl rfl ?_
  refine z_if_lt dX4_set_23 rfl (fun c => absurd c (nI_pos (by omega))) (fun _ => ?_)
  refine z_iload_n dX4_set_26 rfl rfl ?_
  refine z_aload_n dX4_set_27 rfl rfl ?_
  refine y_getI FX4_21 dX4_set_28 (Or.inl rfl) hR1 ?_
  refine z_eqi (y := nI (w)) hC1 ?_
  refine z_icmp_ge dX4_set_31 rfl (fun c => absurd c (fun q => absurd ((nI_leI (by omega) (by omega)).mp q) (by omega))) (fun _ => ?_)
  refine z_iconst (v := 1) dX4_set_34 (by decide) ?_
  refine z_goto dX4_set_35 rfl ?_
  refine z_istore dX4_set_39 (Nat.le_of_ble_eq_true rfl) ?_
  refine z_iload dX4_set_41 rfl ?_
  refine z_if_eq dX4_set_43 rfl (fun c => absurd c (by decide)) (fun _ => ?_)
  refine z_iload dX4_set_46 rfl ?_
  refine z_if_lt dX4_set_48 rfl (fun c => absurd c (nI_pos (by omega))) (fun _ => ?_)
  refine z_iload dX4_set_51 rfl ?_
  refine z_aload_n dX4_set_53 rfl rfl ?_
  refine y_getR FX4_24 dX4_set_54 rfl hR1 hR2 ?_
  refine y_alen dX4_set_57 hR3 ⟨Nat.le_of_ble_eq_true rfl, Nat.le_of_ble_eq_true rfl⟩ rfl ?_
  refine z_icmp_ge dX4_set_58 rfl (fun c => absurd c (fun q => absurd ((nI_leI (by omega) (by omega)).mp q) (by omega))) (fun _ => ?_)
  refine z_aload_n dX4_set_61 rfl rfl ?_
  refine y_getR FX4_24 dX4_set_62 rfl hR1 hR2 ?_
  refine z_iload dX4_set_65 rfl ?_
  refine z_iload_n dX4_set_67 rfl rfl ?_
  refine y_iasN (i * w + j) dX4_set_68 hR3 (by omega) (by first | rfl | (simp only [← nI_add, ← pk_mul]; rfl)) (by omega) ?_
  refine z_vret dX4_set_69 ?_
  exact hQ

theorem s_set0 {h : Hp} {d k w ms n : Nat} (hR : RwS h k w ms) (hC : RwC h k w ms n) (row : Int32) (j v : Int32) (hrow : ¬ vin row n) : Sp d mX4_set [.ref k, .int row, .int j, .int v] h none h := by
  intro N S Q hN hS hQ
  obtain ⟨hR1, hR2, hR3⟩ := hR
  obtain ⟨hC0, hC1, hC3, hn, hw0, hw6, hms⟩ := hC
  have hsm := rows_small hms hw6
  refine z_iload_n dX4_set_0 rfl rfl ?_
  refine z_aload_n dX4_set_1 rfl rfl ?_
  refine y_getI FX4_21 dX4_set_2 (Or.inl rfl) hR1 ?_
  refine z_eqi (y := nI (w)) hC1 ?_
  refine z_imul dX4_set_5 ?_
  refine z_iload_n dX4_set_6 rfl rfl ?_
  refine z_iadd dX4_set_7 ?_
  refine z_istore dX4_set_8 (Nat.le_of_ble_eq_true rfl) ?_
  refine z_iload_n dX4_set_10 rfl rfl ?_
  refine z_if_lt dX4_set_11 rfl (fun c11 => ?_) (fun c11 => ?_)
  · -- to 38
    refine z_iconst (v := 0) dX4_set_38 (by decide) ?_
    refine z_istore dX4_set_39 (Nat.le_of_ble_eq_true rfl) ?_
    refine z_iload dX4_set_41 rfl ?_
    refine z_if_eq dX4_set_43 rfl (fun _ => ?_) (fun c => absurd (by decide) c)
    refine z_vret dX4_set_69 ?_
    exact hQ
  · -- on
    refine z_iload_n dX4_set_14 rfl rfl ?_
    refine z_aload_n dX4_set_15 rfl rfl ?_
    refine y_getI FX4_28 dX4_set_16 (Or.inl rfl) hR1 ?_
    refine z_eqi (y := nI (n)) hC3 ?_
    refine z_icmp_ge dX4_set_19 rfl (fun c19 => ?_) (fun c19 => ?_)
    · -- to 38
      refine z_iconst (v := 0) dX4_set_38 (by decide) ?_
      refine z_istore dX4_set_39 (Nat.le_of_ble_eq_true rfl) ?_
      refine z_iload dX4_set_41 rfl ?_
      refine z_if_eq dX4_set_43 rfl (fun _ => ?_) (fun c => absurd (by decide) c)
      refine z_vret dX4_set_69 ?_
      exact hQ
    · -- on
      exact absurd ⟨Int32.not_lt.mp c11, Int32.not_le.mp c19⟩ hrow

theorem s_clear {h : Hp} {d k w ms : Nat} (hR : RwS h k w ms) : Sp d mX4_clear [.ref k] h none (sI h k 3 0) := by
  intro N S Q hN hS hQ
  obtain ⟨hR1, hR2, hR3⟩ := hR
  refine z_aload_n dX4_clear_0 rfl rfl ?_
  refine z_iconst (v := 0) dX4_clear_1 (by decide) ?_
  refine y_putI FX4_28 dX4_clear_2 (Or.inl rfl) (Or.inl rfl) hR1 ?_
  refine z_vret dX4_clear_5 ?_
  exact hQ

theorem s_rangeCheck {h : Hp} {d a b m : Nat} (h1 : a ≤ b) (h2 : b ≤ m) (hm : m < 2 ^ 31) : Sp d mJ7_rangeCheck_23922 [.int (nI m), .int (nI a), .int (nI b)] h none h := by
  intro N S Q hN hS hQ
  refine z_iload_n dJ7_rangeCheck_23922_0 rfl rfl ?_
  refine z_iload_n dJ7_rangeCheck_23922_1 rfl rfl ?_
  refine z_icmp_le dJ7_rangeCheck_23922_2 rfl (fun _ => ?_) (fun c => absurd ((nI_leI (by omega) (by omega)).mpr h1) c)
  refine z_iload_n dJ7_rangeCheck_23922_46 rfl rfl ?_
  refine z_if_ge dJ7_rangeCheck_23922_47 rfl (fun _ => ?_) (fun c => absurd (nI_pos' (by omega)) c)
  refine z_iload_n dJ7_rangeCheck_23922_59 rfl rfl ?_
  refine z_iload_n dJ7_rangeCheck_23922_60 rfl rfl ?_
  refine z_icmp_le dJ7_rangeCheck_23922_61 rfl (fun _ => ?_) (fun c => absurd ((nI_leI (by omega) (by omega)).mpr h2) c)
  refine z_vret dJ7_rangeCheck_23922_73 ?_
  exact hQ

/-- a row of whole numbers, from a to b all v -/
def fillF (f : Nat → Int32) (a b : Nat) (v : Int32) : Nat → Int32 := fun j => if a ≤ j ∧ j < b then v else f j
theorem fillF_0 {f : Nat → Int32} {a : Nat} {v : Int32} : fillF f a a v = f := by
  funext j
  unfold fillF
  rw [if_neg (by omega)]
theorem fillF_s {f : Nat → Int32} {a b : Nat} {v : Int32} (h : a ≤ b) (j : Nat) : (if j = b then v else fillF f a b v j) = fillF f a (b + 1) v j := by
  unfold fillF
  by_cases hj : j = b
  · subst hj; rw [if_pos rfl, if_pos (by omega)]
  · rw [if_neg hj]
    by_cases hx : a ≤ j ∧ j < b
    · rw [if_pos hx, if_pos (by omega)]
    · rw [if_neg hx, if_neg (by omega)]

theorem s_fill_loop {h : Hp} {d N S x m a b : Nat} {v : Int32} {Q : Option Value → Hp → Prop} (hx : IA h 10 m x) (hb : b ≤ m) (hm : m < 2 ^ 31) : ∀ r i : Nat, a ≤ i → i + r = b → Q none (sA h x (fillF (pI h x) a b v)) → T d N S mJ7_fill_fda19 10 [some (.ref x), some (.int (nI a)), some (.int (nI b)), some (.int v), some (.int (nI i))] [] (sA h x (fillF (pI h x) a i v)) Q := by
  intro r
  induction r with
  | zero =>
    intro i hi hr hQ
    have e : i = b := by omega
    subst e
    refine z_iload dJ7_fill_fda19_10 rfl ?_
    refine z_iload_n dJ7_fill_fda19_12 rfl rfl ?_
    refine z_icmp_ge dJ7_fill_fda19_13 rfl (fun _ => ?_) (fun c => absurd ((nI_leI (by omega) (by omega)).mpr (Nat.le_refl _)) c)
    refine z_vret dJ7_fill_fda19_27 ?_
    exact hQ
  | succ r ih =>
    intro i hi hr hQ
    refine z_iload dJ7_fill_fda19_10 rfl ?_
    refine z_iload_n dJ7_fill_fda19_12 rfl rfl ?_
    refine z_icmp_ge dJ7_fill_fda19_13 rfl (fun c => absurd c (fun q => absurd ((nI_leI (by omega) (by omega)).mp q) (by omega))) (fun _ => ?_)
    refine z_aload_n dJ7_fill_fda19_16 rfl rfl ?_
    refine z_iload dJ7_fill_fda19_17 rfl ?_
    refine z_iload_n dJ7_fill_fda19_19 rfl rfl ?_
    refine y_iasN (i) dJ7_fill_fda19_20 hx (hm) (by first | rfl | (simp only [← nI_add, ← pk_mul]; rfl)) (by omega) ?_
    refine z_iinc dJ7_fill_fda19_21 rfl (nI_1 _) (Nat.le_of_ble_eq_true rfl) ?_
    refine z_goto dJ7_fill_fda19_24 rfl ?_
    rw [sI_sA, sA_congr (fillF_s hi)]
    exact ih (i + 1) (by omega) (by omega) hQ

theorem s_fill {h : Hp} {d x m a b : Nat} {v : Int32} (hx : IA h 10 m x) (hab : a ≤ b) (hb : b ≤ m) (hm : m < 2 ^ 31) (hd : 1 ≤ d) : Sp d mJ7_fill_fda19 [.ref x, .int (nI a), .int (nI b), .int v] h none (sA h x (fillF (pI h x) a b v)) := by
  intro N S Q hN hS hQ
  refine z_aload_n dJ7_fill_fda19_0 rfl rfl ?_
  refine y_alen dJ7_fill_fda19_1 hx ⟨Nat.le_of_ble_eq_true rfl, Nat.le_of_ble_eq_true rfl⟩ rfl ?_
  refine z_iload_n dJ7_fill_fda19_2 rfl rfl ?_
  refine z_iload_n dJ7_fill_fda19_3 rfl rfl ?_
  refine y_callS (as := [_, _, _]) CJ7_rangeCheck_23922 LJ7_13 SJ7_rangeCheck_23922 dJ7_fill_fda19_4 rfl (Nat.le_of_ble_eq_true rfl) (Nat.le_of_ble_eq_true rfl) (by omega) (s_rangeCheck hab hb (by exact hm)) rok_v ⟨Nat.le_refl _, Nat.le_refl _, hN, hS⟩ ?_
  refine z_iload_n dJ7_fill_fda19_7 rfl rfl ?_
  refine z_istore dJ7_fill_fda19_8 (Nat.le_of_ble_eq_true rfl) ?_
  have hl := s_fill_loop (d := d) (N := N) (S := S) (Q := Q) (v := v) hx hb hm (b - a) a (Nat.le_refl _) (by omega) hQ
  rw [fillF_0, sA_id] at hl
  exact hl

theorem rows_row {n ms w : Nat} (h : n < ms) : n * w + w ≤ ms * w := by
  have h1 : (n + 1) * w ≤ ms * w := Nat.mul_le_mul_right w (by omega)
  rw [Nat.add_mul] at h1
  omega
/-- one row more -/
def growH (h : Hp) (k w n : Nat) : Hp := sA (sI h k 3 (nI (n + 1))) (k + 1) (fillF (pI (sI h k 3 (nI (n + 1))) (k + 1)) (n * w) (n * w + w) 0)

theorem s_growN {h : Hp} {d k w ms n : Nat} (hR : RwS h k w ms) (hC : RwC h k w ms n) (hf : n = ms) : Sp d mX4_grow [.ref k] h (some (.int (-1))) h := by
  intro N S Q hN hS hQ
  obtain ⟨hR1, hR2, hR3⟩ := hR
  obtain ⟨hC0, hC1, hC3, hn, hw0, hw6, hms⟩ := hC
  have hsm := rows_small hms hw6
  refine z_aload_n dX4_grow_0 rfl rfl ?_
  refine y_getI FX4_28 dX4_grow_1 (Or.inl rfl) hR1 ?_
  refine z_eqi (y := nI (n)) hC3 ?_
  refine z_aload_n dX4_grow_4 rfl rfl ?_
  refine y_getI FX4_15 dX4_grow_5 (Or.inl rfl) hR1 ?_
  refine z_eqi (y := nI (ms)) hC0 ?_
  refine z_icmp_lt dX4_grow_8 rfl (fun c => absurd c (fun q => absurd ((nI_ltI (by omega) (by omega)).mp q) (by omega))) (fun _ => ?_)
  refine z_iconst (v := -1) dX4_grow_11 (by decide) ?_
  refine z_iret dX4_grow_12 ?_
  exact hQ

theorem s_grow {h : Hp} {d k w ms n : Nat} (hR : RwS h k w ms) (hC : RwC h k w ms n) (hf : n < ms) (hd : 2 ≤ d) : Sp d mX4_grow [.ref k] h (some (.int (nI n))) (growH h k w n) := by
  intro N S Q hN hS hQ
  obtain ⟨hR1, hR2, hR3⟩ := hR
  obtain ⟨hC0, hC1, hC3, hn, hw0, hw6, hms⟩ := hC
  have hsm := rows_small hms hw6
  have hb := rows_row (w := w) hf
  refine z_aload_n dX4_grow_0 rfl rfl ?_
  refine y_getI FX4_28 dX4_grow_1 (Or.inl rfl) hR1 ?_
  refine z_eqi (y := nI (n)) hC3 ?_
  refine z_aload_n dX4_grow_4 rfl rfl ?_
  refine y_getI FX4_15 dX4_grow_5 (Or.inl rfl) hR1 ?_
  refine z_eqi (y := nI (ms)) (by first | exact hC0 | (rw [pI_sI, if_pos rfl, if_neg (by omega)]; exact hC0)) ?_
  refine z_icmp_lt dX4_grow_8 rfl (fun _ => ?_) (fun c => absurd ((nI_ltI (by omega) (by omega)).mpr hf) c)
  refine z_aload_n dX4_grow_13 rfl rfl ?_
  refine y_getI FX4_28 dX4_grow_14 (Or.inl rfl) hR1 ?_
  refine z_eqi (y := nI (n)) hC3 ?_
  refine z_istore_n dX4_grow_17 rfl (Nat.le_of_ble_eq_true rfl) ?_
  refine z_aload_n dX4_grow_18 rfl rfl ?_
  refine z_dup dX4_grow_19 rfl ?_
  refine y_getI FX4_28 dX4_grow_20 (Or.inl rfl) hR1 ?_
  refine z_eqi (y := nI (n)) hC3 ?_
  refine z_iconst (v := 1) dX4_grow_23 (by decide) ?_
  refine z_iadd dX4_grow_24 ?_
  refine z_eqi (nI_1 n) ?_
  refine y_putI FX4_28 dX4_grow_25 (Or.inl rfl) (Or.inl rfl) hR1 ?_
  refine z_iload_n dX4_grow_28 rfl rfl ?_
  refine z_aload_n dX4_grow_29 rfl rfl ?_
  refine y_getI FX4_21 dX4_grow_30 (Or.inl rfl) hR1 ?_
  refine z_eqi (y := nI (w)) (by first | exact hC1 | (rw [pI_sI, if_pos rfl, if_neg (by omega)]; exact hC1)) ?_
  refine z_imul dX4_grow_33 ?_
  refine z_eqi (pk_mul n w) ?_
  refine z_istore_n dX4_grow_34 rfl (Nat.le_of_ble_eq_true rfl) ?_
  refine z_iload_n dX4_grow_35 rfl rfl ?_
  refine z_if_lt dX4_grow_36 rfl (fun c => absurd c (nI_pos (by omega))) (fun _ => ?_)
  refine z_iload_n dX4_grow_39 rfl rfl ?_
  refine z_aload_n dX4_grow_40 rfl rfl ?_
  refine y_getI FX4_21 dX4_grow_41 (Or.inl rfl) hR1 ?_
  refine z_eqi (y := nI (w)) (by first | exact hC1 | (rw [pI_sI, if_pos rfl, if_neg (by omega)]; exact hC1)) ?_
  refine z_iadd dX4_grow_44 ?_
  refine z_eqi (nI_add (n * w) w) ?_
  refine z_aload_n dX4_grow_45 rfl rfl ?_
  refine y_getR FX4_24 dX4_grow_46 rfl hR1 hR2 ?_
  refine y_alen dX4_grow_49 hR3 ⟨Nat.le_of_ble_eq_true rfl, Nat.le_of_ble_eq_true rfl⟩ rfl ?_
  refine z_icmp_gt dX4_grow_50 rfl (fun c => absurd c (fun q => absurd ((nI_ltI (by omega) (by omega)).mp q) (by omega))) (fun _ => ?_)
  refine z_aload_n dX4_grow_53 rfl rfl ?_
  refine y_getR FX4_24 dX4_grow_54 rfl hR1 hR2 ?_
  refine z_iload_n dX4_grow_57 rfl rfl ?_
  refine z_iload_n dX4_grow_58 rfl rfl ?_
  refine z_aload_n dX4_grow_59 rfl rfl ?_
  refine y_getI FX4_21 dX4_grow_60 (Or.inl rfl) hR1 ?_
  refine z_eqi (y := nI (w)) (by first | exact hC1 | (rw [pI_sI, if_pos rfl, if_neg (by omega)]; exact hC1)) ?_
  refine z_iadd dX4_grow_63 ?_
  refine z_eqi (nI_add (n * w) w) ?_
  refine z_iconst (v := 0) dX4_grow_64 (by decide) ?_
  refine y_callS (as := [_, _, _, _]) CJ7_fill_fda19 LX4_31 SJ7_fill_fda19 dX4_grow_65 rfl (Nat.le_of_ble_eq_true rfl) (Nat.le_of_ble_eq_true rfl) (by omega) (s_fill (d := 1) (a := n * w) (b := n * w + w) (v := 0) (by exact hR3) (by omega) hb (by omega) (Nat.le_refl _)) rok_v ⟨Nat.le_refl _, Nat.le_refl _, hN, hS⟩ ?_
  refine z_iload_n dX4_grow_68 rfl rfl ?_
  refine z_iret dX4_grow_69 ?_
  exact hQ

