/-! the reference goes from token to token (walks by program: wip/whole/gen96.py) -/
theorem lN_bv0 (n : Nat) : (lN n).toBitVec = BitVec.ofNat 64 n := rfl
theorem lN_shl8 (n : Nat) : lN n <<< ((8 : Int32).toInt64 &&& 63) = lN (n * 2 ^ 8) := by
  apply Int64.toBitVec_inj.mp
  rw [Int64.toBitVec_shiftLeft, show ((8 : Int32).toInt64 &&& 63).toBitVec.smod 64 = BitVec.ofNat 64 8 by decide, lN_bv0, lN_bv0]
  apply BitVec.eq_of_toNat_eq
  rw [BitVec.shiftLeft_eq', BitVec.toNat_shiftLeft, BitVec.toNat_ofNat, BitVec.toNat_ofNat, BitVec.toNat_ofNat, Nat.mod_eq_of_lt (show 8 < 2 ^ 64 by omega), Nat.shiftLeft_eq, Nat.mul_mod, Nat.mod_mod, ← Nat.mul_mod]
theorem lN_shr48 {a : Nat} (h : a < 2 ^ 62) : lN a >>> ((48 : Int32).toInt64 &&& 63) = lN (a / 2 ^ 48) := by
  have hd : a / 2 ^ 48 ≤ a := Nat.div_le_self _ _
  apply Int64.toInt_inj.mp
  have e : (lN a >>> ((48 : Int32).toInt64 &&& 63)).toInt = (lN a).toInt >>> 48 := by
    show ((lN a).toBitVec.sshiftRight ((((48 : Int32).toInt64 &&& 63).toBitVec.smod 64).toNat)).toInt = _
    rw [show ((((48 : Int32).toInt64 &&& 63).toBitVec.smod 64).toNat) = 48 by decide]
    exact BitVec.toInt_sshiftRight ..
  rw [e, Int.shiftRight_eq_div_pow, ← iL_n, iL_toInt (lN_b h), ← iL_n, iL_toInt (lN_b (by omega))]
  rfl
theorem lN_or (a b : Nat) : lN a ||| lN b = lN (a ||| b) := by
  apply Int64.toBitVec_inj.mp
  rw [Int64.toBitVec_or, lN_bv0, lN_bv0, lN_bv0]
  apply BitVec.eq_of_getLsbD_eq
  intro i hi
  simp [BitVec.getLsbD_ofNat, Nat.testBit_or, hi]
theorem or_add {v b : Nat} (hb : b < 256) : v * 2 ^ 8 ||| b = v * 256 + b := by
  rw [Nat.mul_comm, ← Nat.two_pow_add_eq_or_of_lt (i := 8) hb v]
/-- what w2 to w6 do with one letter more -/
theorem lN_w {v b : Nat} (hb : b < 256) : lN v <<< ((8 : Int32).toInt64 &&& 63) ||| (nI b).toInt64 = lN (v * 256 + b) := by
  rw [lN_shl8, nI_l (by omega), lN_or, or_add hb]
/-- a tape in its bounds -/
def ITp (s : Ms) : Prop := s.2.2.2.1 ≤ 300 ∧ ∀ i, i < 300 → s.2.2.1 i < 256
abbrev TPs (s : Ms) : Fl := s.2.2.1
abbrev TNs (s : Ms) : Nat := s.2.2.2.1
def bA (tp : Fl) (n k : Nat) : Int32 := if k < n then nI (tp k) else -1

theorem r_byteAt {s : Ms} {h : Hp} {d : Nat} (hr : RM s h) (ht : ITp s) {k : Nat} (hk : k ≤ 300) : Sp d mX9_byteAt [.ref 488, .int (nI k)] h (some (.int (bA (TPs s) (TNs s) k))) h := by
  have hm := hr.m
  have n3 : TNs s ≤ 300 := ht.1
  intro N S Q hN hS hQ
  unfold bA at hQ
  by_cases c : k < TNs s
  · rw [if_pos c] at hQ
    refine z_iload_n dX9_byteAt_0 rfl rfl ?_
    refine z_aload_n dX9_byteAt_1 rfl rfl ?_
    refine y_getI FX9_90 dX9_byteAt_2 (Or.inl rfl) hm.o ?_
    refine z_eqi (y := nI (TNs s)) hr.2.2.2.2.1 ?_
    refine z_icmp_ge dX9_byteAt_5 rfl (fun c => absurd c (fun q => absurd ((nI_leI (by omega) (by omega)).mp q) (by omega))) (fun _ => ?_)
    refine z_aload_n dX9_byteAt_8 rfl rfl ?_
    refine y_getR FX9_19 dX9_byteAt_9 rfl hm.o hm.f_tape ?_
    refine z_iload_n dX9_byteAt_12 rfl rfl ?_
    refine y_ialN (k) dX9_byteAt_13 hm.A_tape (Nat.le_of_ble_eq_true rfl) (rfl) (by omega) ?_
    refine z_eqi (hr.2.2.2.1 k (by omega)) ?_
    refine z_goto dX9_byteAt_14 rfl ?_
    refine z_iret dX9_byteAt_18 ?_
    exact hQ
  · rw [if_neg c] at hQ
    refine z_iload_n dX9_byteAt_0 rfl rfl ?_
    refine z_aload_n dX9_byteAt_1 rfl rfl ?_
    refine y_getI FX9_90 dX9_byteAt_2 (Or.inl rfl) hm.o ?_
    refine z_eqi (y := nI (TNs s)) hr.2.2.2.2.1 ?_
    refine z_icmp_ge dX9_byteAt_5 rfl (fun _ => ?_) (fun c => absurd ((nI_leI (by omega) (by omega)).mpr (by omega)) c)
    refine z_iconst (v := -1) dX9_byteAt_17 (by decide) ?_
    refine z_iret dX9_byteAt_18 ?_
    exact hQ

theorem isL_iff {c : Nat} : isL c = true ↔ (97 ≤ c ∧ c ≤ 122) ∨ (65 ≤ c ∧ c ≤ 90) := by
  unfold isL
  rw [Bool.or_eq_true, Bool.and_eq_true, Bool.and_eq_true, decide_eq_true_eq, decide_eq_true_eq, decide_eq_true_eq, decide_eq_true_eq]
theorem r_isLetterN {h : Hp} {d c : Nat} (hc : c < 256) : Sp d mX9_isLetterByte [.int (nI c)] h (some (.int (bI (isL c = true)))) h := by
  intro N S Q hN hS hQ
  by_cases a : 97 ≤ c
  · by_cases b : c ≤ 122
    · rw [bI_t (isL_iff.mpr (by omega))] at hQ
      refine z_iload_n dX9_isLetterByte_0 rfl rfl ?_
      refine z_bipush (v := 97) dX9_isLetterByte_1 (by decide) ?_
      refine z_icmp_lt dX9_isLetterByte_3 rfl (fun c => absurd c (fun q => absurd ((nI_ltI (b := 97) (by omega) (by omega)).mp q) (by omega))) (fun _ => ?_)
      refine z_iload_n dX9_isLetterByte_6 rfl rfl ?_
      refine z_bipush (v := 122) dX9_isLetterByte_7 (by decide) ?_
      refine z_icmp_le dX9_isLetterByte_9 rfl (fun _ => ?_) (fun c => absurd ((nI_leI (b := 122) (by omega) (by omega)).mpr (by omega)) c)
      refine z_iconst (v := 1) dX9_isLetterByte_24 (by decide) ?_
      refine z_goto dX9_isLetterByte_25 rfl ?_
      refine z_iret dX9_isLetterByte_29 ?_
      exact hQ
    · rw [bI_f (fun q => absurd (isL_iff.mp q) (by omega))] at hQ
      refine z_iload_n dX9_isLetterByte_0 rfl rfl ?_
      refine z_bipush (v := 97) dX9_isLetterByte_1 (by decide) ?_
      refine z_icmp_lt dX9_isLetterByte_3 rfl (fun c => absurd c (fun q => absurd ((nI_ltI (b := 97) (by omega) (by omega)).mp q) (by omega))) (fun _ => ?_)
      refine z_iload_n dX9_isLetterByte_6 rfl rfl ?_
      refine z_bipush (v := 122) dX9_isLetterByte_7 (by decide) ?_
      refine z_icmp_le dX9_isLetterByte_9 rfl (fun c => absurd c (fun q => absurd ((nI_leI (b := 122) (by omega) (by omega)).mp q) (by omega))) (fun _ => ?_)
      refine z_iload_n dX9_isLetterByte_12 rfl rfl ?_
      refine z_bipush (v := 65) dX9_isLetterByte_13 (by decide) ?_
      refine z_icmp_lt dX9_isLetterByte_15 rfl (fun c => absurd c (fun q => absurd ((nI_ltI (b := 65) (by omega) (by omega)).mp q) (by omega))) (fun _ => ?_)
      refine z_iload_n dX9_isLetterByte_18 rfl rfl ?_
      refine z_bipush (v := 90) dX9_isLetterByte_19 (by decide) ?_
      refine z_icmp_gt dX9_isLetterByte_21 rfl (fun _ => ?_) (fun c => absurd ((nI_ltI (a := 90) (by omega) (by omega)).mpr (by omega)) c)
      refine z_iconst (v := 0) dX9_isLetterByte_28 (by decide) ?_
      refine z_iret dX9_isLetterByte_29 ?_
      exact hQ
  · by_cases b : 65 ≤ c
    · by_cases e : c ≤ 90
      · rw [bI_t (isL_iff.mpr (by omega))] at hQ
        refine z_iload_n dX9_isLetterByte_0 rfl rfl ?_
        refine z_bipush (v := 97) dX9_isLetterByte_1 (by decide) ?_
        refine z_icmp_lt dX9_isLetterByte_3 rfl (fun _ => ?_) (fun c => absurd ((nI_ltI (b := 97) (by omega) (by omega)).mpr (by omega)) c)
        refine z_iload_n dX9_isLetterByte_12 rfl rfl ?_
        refine z_bipush (v := 65) dX9_isLetterByte_13 (by decide) ?_
        refine z_icmp_lt dX9_isLetterByte_15 rfl (fun c => absurd c (fun q => absurd ((nI_ltI (b := 65) (by omega) (by omega)).mp q) (by omega))) (fun _ => ?_)
        refine z_iload_n dX9_isLetterByte_18 rfl rfl ?_
        refine z_bipush (v := 90) dX9_isLetterByte_19 (by decide) ?_
        refine z_icmp_gt dX9_isLetterByte_21 rfl (fun c => absurd c (fun q => absurd ((nI_ltI (a := 90) (by omega) (by omega)).mp q) (by omega))) (fun _ => ?_)
        refine z_iconst (v := 1) dX9_isLetterByte_24 (by decide) ?_
        refine z_goto dX9_isLetterByte_25 rfl ?_
        refine z_iret dX9_isLetterByte_29 ?_
        exact hQ
      · rw [bI_f (fun q => absurd (isL_iff.mp q) (by omega))] at hQ
        refine z_iload_n dX9_isLetterByte_0 rfl rfl ?_
        refine z_bipush (v := 97) dX9_isLetterByte_1 (by decide) ?_
        refine z_icmp_lt dX9_isLetterByte_3 rfl (fun _ => ?_) (fun c => absurd ((nI_ltI (b := 97) (by omega) (by omega)).mpr (by omega)) c)
        refine z_iload_n dX9_isLetterByte_12 rfl rfl ?_
        refine z_bipush (v := 65) dX9_isLetterByte_13 (by decide) ?_
        refine z_icmp_lt dX9_isLetterByte_15 rfl (fun c => absurd c (fun q => absurd ((nI_ltI (b := 65) (by omega) (by omega)).mp q) (by omega))) (fun _ => ?_)
        refine z_iload_n dX9_isLetterByte_18 rfl rfl ?_
        refine z_bipush (v := 90) dX9_isLetterByte_19 (by decide) ?_
        refine z_icmp_gt dX9_isLetterByte_21 rfl (fun _ => ?_) (fun c => absurd ((nI_ltI (a := 90) (by omega) (by omega)).mpr (by omega)) c)
        refine z_iconst (v := 0) dX9_isLetterByte_28 (by decide) ?_
        refine z_iret dX9_isLetterByte_29 ?_
        exact hQ
    · rw [bI_f (fun q => absurd (isL_iff.mp q) (by omega))] at hQ
      refine z_iload_n dX9_isLetterByte_0 rfl rfl ?_
      refine z_bipush (v := 97) dX9_isLetterByte_1 (by decide) ?_
      refine z_icmp_lt dX9_isLetterByte_3 rfl (fun _ => ?_) (fun c => absurd ((nI_ltI (b := 97) (by omega) (by omega)).mpr (by omega)) c)
      refine z_iload_n dX9_isLetterByte_12 rfl rfl ?_
      refine z_bipush (v := 65) dX9_isLetterByte_13 (by decide) ?_
      refine z_icmp_lt dX9_isLetterByte_15 rfl (fun _ => ?_) (fun c => absurd ((nI_ltI (b := 65) (by omega) (by omega)).mpr (by omega)) c)
      refine z_iconst (v := 0) dX9_isLetterByte_28 (by decide) ?_
      refine z_iret dX9_isLetterByte_29 ?_
      exact hQ
theorem r_isLetterM {h : Hp} {d : Nat} : Sp d mX9_isLetterByte [.int (-1)] h (some (.int 0)) h := by
  intro N S Q hN hS hQ
  refine z_iload_n dX9_isLetterByte_0 rfl rfl ?_
  refine z_bipush (v := 97) dX9_isLetterByte_1 (by decide) ?_
  refine z_icmp_lt dX9_isLetterByte_3 rfl (fun _ => ?_) (fun c => absurd (by decide) c)
  refine z_iload_n dX9_isLetterByte_12 rfl rfl ?_
  refine z_bipush (v := 65) dX9_isLetterByte_13 (by decide) ?_
  refine z_icmp_lt dX9_isLetterByte_15 rfl (fun _ => ?_) (fun c => absurd (by decide) c)
  refine z_iconst (v := 0) dX9_isLetterByte_28 (by decide) ?_
  refine z_iret dX9_isLetterByte_29 ?_
  exact hQ
theorem r_isFigureN {h : Hp} {d c : Nat} (hc : c < 256) : Sp d mX9_isFigure [.int (nI c)] h (some (.int (bI (isD c = true)))) h := by
  intro N S Q hN hS hQ
  by_cases a : 48 ≤ c
  · by_cases b : c ≤ 57
    · rw [bI_t (isD_b.mpr (by omega))] at hQ
      refine z_iload_n dX9_isFigure_0 rfl rfl ?_
      refine z_bipush (v := 48) dX9_isFigure_1 (by decide) ?_
      refine z_icmp_lt dX9_isFigure_3 rfl (fun c => absurd c (fun q => absurd ((nI_ltI (b := 48) (by omega) (by omega)).mp q) (by omega))) (fun _ => ?_)
      refine z_iload_n dX9_isFigure_6 rfl rfl ?_
      refine z_bipush (v := 57) dX9_isFigure_7 (by decide) ?_
      refine z_icmp_gt dX9_isFigure_9 rfl (fun c => absurd c (fun q => absurd ((nI_ltI (a := 57) (by omega) (by omega)).mp q) (by omega))) (fun _ => ?_)
      refine z_iconst (v := 1) dX9_isFigure_12 (by decide) ?_
      refine z_goto dX9_isFigure_13 rfl ?_
      refine z_iret dX9_isFigure_17 ?_
      exact hQ
    · rw [bI_f (fun q => absurd (isD_b.mp q) (by omega))] at hQ
      refine z_iload_n dX9_isFigure_0 rfl rfl ?_
      refine z_bipush (v := 48) dX9_isFigure_1 (by decide) ?_
      refine z_icmp_lt dX9_isFigure_3 rfl (fun c => absurd c (fun q => absurd ((nI_ltI (b := 48) (by omega) (by omega)).mp q) (by omega))) (fun _ => ?_)
      refine z_iload_n dX9_isFigure_6 rfl rfl ?_
      refine z_bipush (v := 57) dX9_isFigure_7 (by decide) ?_
      refine z_icmp_gt dX9_isFigure_9 rfl (fun _ => ?_) (fun c => absurd ((nI_ltI (a := 57) (by omega) (by omega)).mpr (by omega)) c)
      refine z_iconst (v := 0) dX9_isFigure_16 (by decide) ?_
      refine z_iret dX9_isFigure_17 ?_
      exact hQ
  · rw [bI_f (fun q => absurd (isD_b.mp q) (by omega))] at hQ
    refine z_iload_n dX9_isFigure_0 rfl rfl ?_
    refine z_bipush (v := 48) dX9_isFigure_1 (by decide) ?_
    refine z_icmp_lt dX9_isFigure_3 rfl (fun _ => ?_) (fun c => absurd ((nI_ltI (b := 48) (by omega) (by omega)).mpr (by omega)) c)
    refine z_iconst (v := 0) dX9_isFigure_16 (by decide) ?_
    refine z_iret dX9_isFigure_17 ?_
    exact hQ
theorem r_isFigureM {h : Hp} {d : Nat} : Sp d mX9_isFigure [.int (-1)] h (some (.int 0)) h := by
  intro N S Q hN hS hQ
  refine z_iload_n dX9_isFigure_0 rfl rfl ?_
  refine z_bipush (v := 48) dX9_isFigure_1 (by decide) ?_
  refine z_icmp_lt dX9_isFigure_3 rfl (fun _ => ?_) (fun c => absurd (by decide) c)
  refine z_iconst (v := 0) dX9_isFigure_16 (by decide) ?_
  refine z_iret dX9_isFigure_17 ?_
  exact hQ
theorem r_letA {s : Ms} {h : Hp} {d k : Nat} (ht : ITp s) : Sp d mX9_isLetterByte [.int (bA (TPs s) (TNs s) k)] h (some (.int (bI (k < TNs s ∧ isL (TPs s k) = true)))) h := by
  have n3 : TNs s ≤ 300 := ht.1
  unfold bA
  by_cases c : k < TNs s
  · rw [if_pos c, bI_congr (b := isL (TPs s k) = true) ⟨fun q => q.2, fun q => ⟨c, q⟩⟩]
    exact r_isLetterN (ht.2 k (by omega))
  · rw [if_neg c, bI_f (fun q => c q.1)]
    exact r_isLetterM
theorem r_figA {s : Ms} {h : Hp} {d k : Nat} (ht : ITp s) : Sp d mX9_isFigure [.int (bA (TPs s) (TNs s) k)] h (some (.int (bI (k < TNs s ∧ isD (TPs s k) = true)))) h := by
  have n3 : TNs s ≤ 300 := ht.1
  unfold bA
  by_cases c : k < TNs s
  · rw [if_pos c, bI_congr (b := isD (TPs s k) = true) ⟨fun q => q.2, fun q => ⟨c, q⟩⟩]
    exact r_isFigureN (ht.2 k (by omega))
  · rw [if_neg c, bI_f (fun q => c q.1)]
    exact r_isFigureM

theorem r_isSign {h : Hp} {d c : Nat} (hc : c < 256) : Sp d mX9_isSign [.int (nI c)] h (some (.int (bI (¬ sgK c = 53)))) h := by
  intro N S Q hN hS hQ
  by_cases o : c < 35 ∨ 62 < c
  · have e : sgK c = 53 := by
      unfold sgK
      repeat rw [if_neg (by omega)]
    rw [bI_f (fun q => q e)] at hQ
    have ho : (nI c).toInt < 35 ∨ (62 : Int) < (nI c).toInt := by rw [nI_toInt (by omega)]; omega
    refine z_iload_n dX9_isSign_0 rfl rfl ?_
    refine z_tableOut (tgt := 130) dX9_isSign_1 (ho) rfl ?_
    refine z_iconst (v := 0) dX9_isSign_130 (by decide) ?_
    refine z_iret dX9_isSign_131 ?_
    exact hQ
  · rcases (show c = 35 ∨ c = 36 ∨ c = 37 ∨ c = 38 ∨ c = 39 ∨ c = 40 ∨ c = 41 ∨ c = 42 ∨ c = 43 ∨ c = 44 ∨ c = 45 ∨ c = 46 ∨ c = 47 ∨ c = 48 ∨ c = 49 ∨ c = 50 ∨ c = 51 ∨ c = 52 ∨ c = 53 ∨ c = 54 ∨ c = 55 ∨ c = 56 ∨ c = 57 ∨ c = 58 ∨ c = 59 ∨ c = 60 ∨ c = 61 ∨ c = 62 by omega) with rfl | rfl | rfl | rfl | rfl | rfl | rfl | rfl | rfl | rfl | rfl | rfl | rfl | rfl | rfl | rfl | rfl | rfl | rfl | rfl | rfl | rfl | rfl | rfl | rfl | rfl | rfl | rfl
    · rw [bI_t (by decide)] at hQ
      refine z_iload_n dX9_isSign_0 rfl rfl ?_
      refine z_tableIn (off := 127) (tgt := 128) dX9_isSign_1 (by decide) (by decide) rfl rfl ?_
      refine z_iconst (v := 1) dX9_isSign_128 (by decide) ?_
      refine z_iret dX9_isSign_129 ?_
      exact hQ
    · rw [bI_f (by decide)] at hQ
      refine z_iload_n dX9_isSign_0 rfl rfl ?_
      refine z_tableIn (off := 129) (tgt := 130) dX9_isSign_1 (by decide) (by decide) rfl rfl ?_
      refine z_iconst (v := 0) dX9_isSign_130 (by decide) ?_
      refine z_iret dX9_isSign_131 ?_
      exact hQ
    · rw [bI_f (by decide)] at hQ
      refine z_iload_n dX9_isSign_0 rfl rfl ?_
      refine z_tableIn (off := 129) (tgt := 130) dX9_isSign_1 (by decide) (by decide) rfl rfl ?_
      refine z_iconst (v := 0) dX9_isSign_130 (by decide) ?_
      refine z_iret dX9_isSign_131 ?_
      exact hQ
    · rw [bI_f (by decide)] at hQ
      refine z_iload_n dX9_isSign_0 rfl rfl ?_
      refine z_tableIn (off := 129) (tgt := 130) dX9_isSign_1 (by decide) (by decide) rfl rfl ?_
      refine z_iconst (v := 0) dX9_isSign_130 (by decide) ?_
      refine z_iret dX9_isSign_131 ?_
      exact hQ
    · rw [bI_f (by decide)] at hQ
      refine z_iload_n dX9_isSign_0 rfl rfl ?_
      refine z_tableIn (off := 129) (tgt := 130) dX9_isSign_1 (by decide) (by decide) rfl rfl ?_
      refine z_iconst (v := 0) dX9_isSign_130 (by decide) ?_
      refine z_iret dX9_isSign_131 ?_
      exact hQ
    · rw [bI_t (by decide)] at hQ
      refine z_iload_n dX9_isSign_0 rfl rfl ?_
      refine z_tableIn (off := 127) (tgt := 128) dX9_isSign_1 (by decide) (by decide) rfl rfl ?_
      refine z_iconst (v := 1) dX9_isSign_128 (by decide) ?_
      refine z_iret dX9_isSign_129 ?_
      exact hQ
    · rw [bI_t (by decide)] at hQ
      refine z_iload_n dX9_isSign_0 rfl rfl ?_
      refine z_tableIn (off := 127) (tgt := 128) dX9_isSign_1 (by decide) (by decide) rfl rfl ?_
      refine z_iconst (v := 1) dX9_isSign_128 (by decide) ?_
      refine z_iret dX9_isSign_129 ?_
      exact hQ
    · rw [bI_t (by decide)] at hQ
      refine z_iload_n dX9_isSign_0 rfl rfl ?_
      refine z_tableIn (off := 127) (tgt := 128) dX9_isSign_1 (by decide) (by decide) rfl rfl ?_
      refine z_iconst (v := 1) dX9_isSign_128 (by decide) ?_
      refine z_iret dX9_isSign_129 ?_
      exact hQ
    · rw [bI_t (by decide)] at hQ
      refine z_iload_n dX9_isSign_0 rfl rfl ?_
      refine z_tableIn (off := 127) (tgt := 128) dX9_isSign_1 (by decide) (by decide) rfl rfl ?_
      refine z_iconst (v := 1) dX9_isSign_128 (by decide) ?_
      refine z_iret dX9_isSign_129 ?_
      exact hQ
    · rw [bI_t (by decide)] at hQ
      refine z_iload_n dX9_isSign_0 rfl rfl ?_
      refine z_tableIn (off := 127) (tgt := 128) dX9_isSign_1 (by decide) (by decide) rfl rfl ?_
      refine z_iconst (v := 1) dX9_isSign_128 (by decide) ?_
      refine z_iret dX9_isSign_129 ?_
      exact hQ
    · rw [bI_t (by decide)] at hQ
      refine z_iload_n dX9_isSign_0 rfl rfl ?_
      refine z_tableIn (off := 127) (tgt := 128) dX9_isSign_1 (by decide) (by decide) rfl rfl ?_
      refine z_iconst (v := 1) dX9_isSign_128 (by decide) ?_
      refine z_iret dX9_isSign_129 ?_
      exact hQ
    · rw [bI_f (by decide)] at hQ
      refine z_iload_n dX9_isSign_0 rfl rfl ?_
      refine z_tableIn (off := 129) (tgt := 130) dX9_isSign_1 (by decide) (by decide) rfl rfl ?_
      refine z_iconst (v := 0) dX9_isSign_130 (by decide) ?_
      refine z_iret dX9_isSign_131 ?_
      exact hQ
    · rw [bI_t (by decide)] at hQ
      refine z_iload_n dX9_isSign_0 rfl rfl ?_
      refine z_tableIn (off := 127) (tgt := 128) dX9_isSign_1 (by decide) (by decide) rfl rfl ?_
      refine z_iconst (v := 1) dX9_isSign_128 (by decide) ?_
      refine z_iret dX9_isSign_129 ?_
      exact hQ
    · rw [bI_f (by decide)] at hQ
      refine z_iload_n dX9_isSign_0 rfl rfl ?_
      refine z_tableIn (off := 129) (tgt := 130) dX9_isSign_1 (by decide) (by decide) rfl rfl ?_
      refine z_iconst (v := 0) dX9_isSign_130 (by decide) ?_
      refine z_iret dX9_isSign_131 ?_
      exact hQ
    · rw [bI_f (by decide)] at hQ
      refine z_iload_n dX9_isSign_0 rfl rfl ?_
      refine z_tableIn (off := 129) (tgt := 130) dX9_isSign_1 (by decide) (by decide) rfl rfl ?_
      refine z_iconst (v := 0) dX9_isSign_130 (by decide) ?_
      refine z_iret dX9_isSign_131 ?_
      exact hQ
    · rw [bI_f (by decide)] at hQ
      refine z_iload_n dX9_isSign_0 rfl rfl ?_
      refine z_tableIn (off := 129) (tgt := 130) dX9_isSign_1 (by decide) (by decide) rfl rfl ?_
      refine z_iconst (v := 0) dX9_isSign_130 (by decide) ?_
      refine z_iret dX9_isSign_131 ?_
      exact hQ
    · rw [bI_f (by decide)] at hQ
      refine z_iload_n dX9_isSign_0 rfl rfl ?_
      refine z_tableIn (off := 129) (tgt := 130) dX9_isSign_1 (by decide) (by decide) rfl rfl ?_
      refine z_iconst (v := 0) dX9_isSign_130 (by decide) ?_
      refine z_iret dX9_isSign_131 ?_
      exact hQ
    · rw [bI_f (by decide)] at hQ
      refine z_iload_n dX9_isSign_0 rfl rfl ?_
      refine z_tableIn (off := 129) (tgt := 130) dX9_isSign_1 (by decide) (by decide) rfl rfl ?_
      refine z_iconst (v := 0) dX9_isSign_130 (by decide) ?_
      refine z_iret dX9_isSign_131 ?_
      exact hQ
    · rw [bI_f (by decide)] at hQ
      refine z_iload_n dX9_isSign_0 rfl rfl ?_
      refine z_tableIn (off := 129) (tgt := 130) dX9_isSign_1 (by decide) (by decide) rfl rfl ?_
      refine z_iconst (v := 0) dX9_isSign_130 (by decide) ?_
      refine z_iret dX9_isSign_131 ?_
      exact hQ
    · rw [bI_f (by decide)] at hQ
      refine z_iload_n dX9_isSign_0 rfl rfl ?_
      refine z_tableIn (off := 129) (tgt := 130) dX9_isSign_1 (by decide) (by decide) rfl rfl ?_
      refine z_iconst (v := 0) dX9_isSign_130 (by decide) ?_
      refine z_iret dX9_isSign_131 ?_
      exact hQ
    · rw [bI_f (by decide)] at hQ
      refine z_iload_n dX9_isSign_0 rfl rfl ?_
      refine z_tableIn (off := 129) (tgt := 130) dX9_isSign_1 (by decide) (by decide) rfl rfl ?_
      refine z_iconst (v := 0) dX9_isSign_130 (by decide) ?_
      refine z_iret dX9_isSign_131 ?_
      exact hQ
    · rw [bI_f (by decide)] at hQ
      refine z_iload_n dX9_isSign_0 rfl rfl ?_
      refine z_tableIn (off := 129) (tgt := 130) dX9_isSign_1 (by decide) (by decide) rfl rfl ?_
      refine z_iconst (v := 0) dX9_isSign_130 (by decide) ?_
      refine z_iret dX9_isSign_131 ?_
      exact hQ
    · rw [bI_f (by decide)] at hQ
      refine z_iload_n dX9_isSign_0 rfl rfl ?_
      refine z_tableIn (off := 129) (tgt := 130) dX9_isSign_1 (by decide) (by decide) rfl rfl ?_
      refine z_iconst (v := 0) dX9_isSign_130 (by decide) ?_
      refine z_iret dX9_isSign_131 ?_
      exact hQ
    · rw [bI_f (by decide)] at hQ
      refine z_iload_n dX9_isSign_0 rfl rfl ?_
      refine z_tableIn (off := 129) (tgt := 130) dX9_isSign_1 (by decide) (by decide) rfl rfl ?_
      refine z_iconst (v := 0) dX9_isSign_130 (by decide) ?_
      refine z_iret dX9_isSign_131 ?_
      exact hQ
    · rw [bI_t (by decide)] at hQ
      refine z_iload_n dX9_isSign_0 rfl rfl ?_
      refine z_tableIn (off := 127) (tgt := 128) dX9_isSign_1 (by decide) (by decide) rfl rfl ?_
      refine z_iconst (v := 1) dX9_isSign_128 (by decide) ?_
      refine z_iret dX9_isSign_129 ?_
      exact hQ
    · rw [bI_t (by decide)] at hQ
      refine z_iload_n dX9_isSign_0 rfl rfl ?_
      refine z_tableIn (off := 127) (tgt := 128) dX9_isSign_1 (by decide) (by decide) rfl rfl ?_
      refine z_iconst (v := 1) dX9_isSign_128 (by decide) ?_
      refine z_iret dX9_isSign_129 ?_
      exact hQ
    · rw [bI_t (by decide)] at hQ
      refine z_iload_n dX9_isSign_0 rfl rfl ?_
      refine z_tableIn (off := 127) (tgt := 128) dX9_isSign_1 (by decide) (by decide) rfl rfl ?_
      refine z_iconst (v := 1) dX9_isSign_128 (by decide) ?_
      refine z_iret dX9_isSign_129 ?_
      exact hQ
    · rw [bI_t (by decide)] at hQ
      refine z_iload_n dX9_isSign_0 rfl rfl ?_
      refine z_tableIn (off := 127) (tgt := 128) dX9_isSign_1 (by decide) (by decide) rfl rfl ?_
      refine z_iconst (v := 1) dX9_isSign_128 (by decide) ?_
      refine z_iret dX9_isSign_129 ?_
      exact hQ

