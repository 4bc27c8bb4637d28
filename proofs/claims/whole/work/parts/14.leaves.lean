/-! leaves: the small methods, the rows (walks by program: wip/whole/gen14.py) -/
def bI (b : Prop) [Decidable b] : Int32 := if b then 1 else 0
theorem bI_t {b : Prop} [Decidable b] (h : b) : bI b = 1 := if_pos h
theorem bI_f {b : Prop} [Decidable b] (h : ¬ b) : bI b = 0 := if_neg h
theorem bI_01 {b : Prop} [Decidable b] : bI b = 0 ∨ bI b = 1 := by
  by_cases h : b
  · exact Or.inr (bI_t h)
  · exact Or.inl (bI_f h)

theorem s_within {h : Hp} {d : Nat} (v lo hi : Int32) : Sp d mX8_within [.int v, .int lo, .int hi] h (some (.int (bI (lo ≤ v ∧ v ≤ hi)))) h := by
  intro N S Q hN hS hQ
  refine z_iload_n dX8_within_0 rfl rfl ?_
  refine z_iload_n dX8_within_1 rfl rfl ?_
  refine z_icmp_lt dX8_within_2 rfl (fun c2 => ?_) (fun c2 => ?_)
  · -- to 14
    refine z_iconst (v := 0) dX8_within_14 (by decide) ?_
    refine z_iret dX8_within_15 ?_
    first
      | (rw [bI_f (by simp only [Int32.lt_iff_toInt_lt, Int32.le_iff_toInt_le, Int32.not_lt, Int32.not_le] at *; omega)] at hQ; exact hQ)
      | (rw [bI_t (by simp only [Int32.lt_iff_toInt_lt, Int32.le_iff_toInt_le, Int32.not_lt, Int32.not_le] at *; omega)] at hQ; exact hQ)
  · -- on
    refine z_iload_n dX8_within_5 rfl rfl ?_
    refine z_iload_n dX8_within_6 rfl rfl ?_
    refine z_icmp_gt dX8_within_7 rfl (fun c7 => ?_) (fun c7 => ?_)
    · -- to 14
      refine z_iconst (v := 0) dX8_within_14 (by decide) ?_
      refine z_iret dX8_within_15 ?_
      first
        | (rw [bI_f (by simp only [Int32.lt_iff_toInt_lt, Int32.le_iff_toInt_le, Int32.not_lt, Int32.not_le] at *; omega)] at hQ; exact hQ)
        | (rw [bI_t (by simp only [Int32.lt_iff_toInt_lt, Int32.le_iff_toInt_le, Int32.not_lt, Int32.not_le] at *; omega)] at hQ; exact hQ)
    · -- on
      refine z_iconst (v := 1) dX8_within_10 (by decide) ?_
      refine z_goto dX8_within_11 rfl ?_
      refine z_iret dX8_within_15 ?_
      first
        | (rw [bI_f (by simp only [Int32.lt_iff_toInt_lt, Int32.le_iff_toInt_le, Int32.not_lt, Int32.not_le] at *; omega)] at hQ; exact hQ)
        | (rw [bI_t (by simp only [Int32.lt_iff_toInt_lt, Int32.le_iff_toInt_le, Int32.not_lt, Int32.not_le] at *; omega)] at hQ; exact hQ)

theorem s_bit {h : Hp} {d : Nat} (v : Int32) : Sp d mX8_bit [.int v] h (some (.int (1 <<< (v &&& 31)))) h := by
  intro N S Q hN hS hQ
  refine z_iconst (v := 1) dX8_bit_0 (by decide) ?_
  refine z_iload_n dX8_bit_1 rfl rfl ?_
  refine z_ishl dX8_bit_2 ?_
  refine z_iret dX8_bit_3 ?_
  exact hQ
