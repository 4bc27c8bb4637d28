/-! the reference sums a law up: its small words (walks by program: wip/whole/gen55.py) -/
theorem bm : b62 1000000 := ⟨by omega, by omega⟩
theorem bmm : b62 (-1000000) := ⟨by omega, by omega⟩
theorem b6_31 {x : Int} (h : b6 x) : b31 x := ⟨by have := h.1; omega, by have := h.2; omega⟩
theorem b6_62 {x : Int} (h : b6 x) : b62 x := b31_62 (b6_31 h)
theorem b6_30 {x : Int} (h : b6 x) : b30 x := ⟨by have := h.1; omega, by have := h.2; omega⟩

theorem r_clip {h : Hp} {d : Nat} {x : Int} (hx : b62 x) : Sp d mX9_clip [.long (iL x)] h (some (.long (iL (clp x)))) h := by
  intro N S Q hN hS hQ
  refine z_lload_n dX9_clip_0 rfl rfl ?_
  refine z_ldc2 (v := 1000000) dX9_clip_1 Kc_X9_274 ?_
  refine z_lcmp dX9_clip_4 ?_
  refine z_if_le dX9_clip_5 rfl (fun c5 => ?_) (fun c5 => ?_)
  · -- to 14
    refine z_lload_n dX9_clip_14 rfl rfl ?_
    refine z_ldc2 (v := -1000000) dX9_clip_15 Kc_X9_276 ?_
    refine z_lcmp dX9_clip_18 ?_
    refine z_if_ge dX9_clip_19 rfl (fun c19 => ?_) (fun c19 => ?_)
    · -- to 28
      refine z_lload_n dX9_clip_28 rfl rfl ?_
      refine z_lret dX9_clip_29 ?_
      first
        | (rw [show clp x = 1000000 from if_pos ((iL_lt bm hx).mp (Int64.not_le.mp (fun q => c5 ((lg_cmp_le _ _).mpr q))))] at hQ; exact hQ)
        | (rw [show clp x = x by unfold clp; rw [if_neg (Int.not_lt.mpr ((iL_le hx bm).mp ((lg_cmp_le _ _).mp c5))), if_neg (Int.not_lt.mpr ((iL_le bmm hx).mp ((lg_cmp_ge _ _).mp c19)))]] at hQ; exact hQ)
        | (rw [show clp x = -1000000 by unfold clp; rw [if_neg (Int.not_lt.mpr ((iL_le hx bm).mp ((lg_cmp_le _ _).mp c5))), if_pos ((iL_lt hx bmm).mp (Int64.not_le.mp (fun q => c19 ((lg_cmp_ge _ _).mpr q))))]] at hQ; exact hQ)
    · -- on
      refine z_ldc2 (v := -1000000) dX9_clip_22 Kc_X9_276 ?_
      refine z_goto dX9_clip_25 rfl ?_
      refine z_lret dX9_clip_29 ?_
      first
        | (rw [show clp x = 1000000 from if_pos ((iL_lt bm hx).mp (Int64.not_le.mp (fun q => c5 ((lg_cmp_le _ _).mpr q))))] at hQ; exact hQ)
        | (rw [show clp x = x by unfold clp; rw [if_neg (Int.not_lt.mpr ((iL_le hx bm).mp ((lg_cmp_le _ _).mp c5))), if_neg (Int.not_lt.mpr ((iL_le bmm hx).mp ((lg_cmp_ge _ _).mp c19)))]] at hQ; exact hQ)
        | (rw [show clp x = -1000000 by unfold clp; rw [if_neg (Int.not_lt.mpr ((iL_le hx bm).mp ((lg_cmp_le _ _).mp c5))), if_pos ((iL_lt hx bmm).mp (Int64.not_le.mp (fun q => c19 ((lg_cmp_ge _ _).mpr q))))]] at hQ; exact hQ)
  · -- on
    refine z_ldc2 (v := 1000000) dX9_clip_8 Kc_X9_274 ?_
    refine z_goto dX9_clip_11 rfl ?_
    refine z_lret dX9_clip_29 ?_
    first
      | (rw [show clp x = 1000000 from if_pos ((iL_lt bm hx).mp (Int64.not_le.mp (fun q => c5 ((lg_cmp_le _ _).mpr q))))] at hQ; exact hQ)
      | (rw [show clp x = x by unfold clp; rw [if_neg (Int.not_lt.mpr ((iL_le hx bm).mp ((lg_cmp_le _ _).mp c5))), if_neg (Int.not_lt.mpr ((iL_le bmm hx).mp ((lg_cmp_ge _ _).mp c19)))]] at hQ; exact hQ)
      | (rw [show clp x = -1000000 by unfold clp; rw [if_neg (Int.not_lt.mpr ((iL_le hx bm).mp ((lg_cmp_le _ _).mp c5))), if_pos ((iL_lt hx bmm).mp (Int64.not_le.mp (fun q => c19 ((lg_cmp_ge _ _).mpr q))))]] at hQ; exact hQ)

theorem r_two_6 {h : Hp} {d so : Nat} {x y z : Int} (hx : b31 x) (hy : b31 y) (hd : 1 ≤ d) : Sp d mX9_two [.int (nI 6), .long (iL x), .long (iL y)] h (some (.long (iL (clp (rawV so 6 x y z))))) h := by
  intro N S Q hN hS hQ
  have bx := b31_62 hx
  have by_ := b31_62 hy
  refine z_iload_n dX9_two_0 rfl rfl ?_
  refine z_tableIn (off := 27) (tgt := 28) dX9_two_1 (by decide) (by decide) rfl rfl ?_
  refine z_lload_n dX9_two_28 rfl rfl ?_
  refine z_lload_n dX9_two_29 rfl rfl ?_
  refine z_ladd dX9_two_30 ?_
  refine y_callS (as := [_]) CX9_clip LX9_278 SX9_clip dX9_two_31 rfl (Nat.le_of_ble_eq_true rfl) (Nat.le_of_ble_eq_true rfl) (by omega) (by rw [iL_add]; exact r_clip (x := x + y) (⟨by have := hx.1; have := hy.1; have := hx.2; have := hy.2; omega, by have := hx.1; have := hy.1; have := hx.2; have := hy.2; omega⟩)) rok_l ⟨Nat.le_refl _, Nat.le_refl _, hN, hS⟩ ?_
  refine z_lret dX9_two_34 ?_
  exact hQ

theorem r_two_7 {h : Hp} {d so : Nat} {x y z : Int} (hx : b31 x) (hy : b31 y) (hd : 1 ≤ d) : Sp d mX9_two [.int (nI 7), .long (iL x), .long (iL y)] h (some (.long (iL (clp (rawV so 7 x y z))))) h := by
  intro N S Q hN hS hQ
  have bx := b31_62 hx
  have by_ := b31_62 hy
  refine z_iload_n dX9_two_0 rfl rfl ?_
  refine z_tableIn (off := 34) (tgt := 35) dX9_two_1 (by decide) (by decide) rfl rfl ?_
  refine z_lload_n dX9_two_35 rfl rfl ?_
  refine z_lload_n dX9_two_36 rfl rfl ?_
  refine z_lsub dX9_two_37 ?_
  refine y_callS (as := [_]) CX9_clip LX9_278 SX9_clip dX9_two_38 rfl (Nat.le_of_ble_eq_true rfl) (Nat.le_of_ble_eq_true rfl) (by omega) (by rw [iL_sub]; exact r_clip (x := x - y) (⟨by have := hx.1; have := hy.1; have := hx.2; have := hy.2; omega, by have := hx.1; have := hy.1; have := hx.2; have := hy.2; omega⟩)) rok_l ⟨Nat.le_refl _, Nat.le_refl _, hN, hS⟩ ?_
  refine z_lret dX9_two_41 ?_
  exact hQ

theorem r_two_8 {h : Hp} {d so : Nat} {x y z : Int} (hx : b31 x) (hy : b31 y) (hd : 1 ≤ d) : Sp d mX9_two [.int (nI 8), .long (iL x), .long (iL y)] h (some (.long (iL (clp (rawV so 8 x y z))))) h := by
  intro N S Q hN hS hQ
  have bx := b31_62 hx
  have by_ := b31_62 hy
  refine z_iload_n dX9_two_0 rfl rfl ?_
  refine z_tableIn (off := 41) (tgt := 42) dX9_two_1 (by decide) (by decide) rfl rfl ?_
  refine z_lload_n dX9_two_42 rfl rfl ?_
  refine z_lload_n dX9_two_43 rfl rfl ?_
  refine z_lmul dX9_two_44 ?_
  refine y_callS (as := [_]) CX9_clip LX9_278 SX9_clip dX9_two_45 rfl (Nat.le_of_ble_eq_true rfl) (Nat.le_of_ble_eq_true rfl) (by omega) (by rw [iL_mul]; exact r_clip (x := x * y) (mul_b hx hy)) rok_l ⟨Nat.le_refl _, Nat.le_refl _, hN, hS⟩ ?_
  refine z_lret dX9_two_48 ?_
  exact hQ

theorem r_two_9 {h : Hp} {d so : Nat} {x y z : Int} (hx : b31 x) (hy : b31 y) (hd : 1 ≤ d) : Sp d mX9_two [.int (nI 9), .long (iL x), .long (iL y)] h (some (.long (iL (clp (rawV so 9 x y z))))) h := by
  intro N S Q hN hS hQ
  have bx := b31_62 hx
  have by_ := b31_62 hy
  refine z_iload_n dX9_two_0 rfl rfl ?_
  refine z_tableOut (tgt := 49) dX9_two_1 (by decide) rfl ?_
  refine z_lload_n dX9_two_49 rfl rfl ?_
  refine z_lconst (v := 0) dX9_two_50 (by decide) ?_
  refine z_lcmp dX9_two_51 ?_
  refine z_if_ne dX9_two_52 rfl (fun c52 => ?_) (fun c52 => ?_)
  · -- to 59
    refine z_lload_n dX9_two_59 rfl rfl ?_
    refine z_lload_n dX9_two_60 rfl rfl ?_
    refine z_ldiv dX9_two_61 (fun q => c52 ((lg_cmp_eq _ _).mpr q)) ?_
    refine y_callS (as := [_]) CX9_clip LX9_278 SX9_clip dX9_two_62 rfl (Nat.le_of_ble_eq_true rfl) (Nat.le_of_ble_eq_true rfl) (by omega) (by rw [iL_div bx by_]; exact r_clip (x := x.tdiv y) (tdiv_b bx)) rok_l ⟨Nat.le_refl _, Nat.le_refl _, hN, hS⟩ ?_
    refine z_lret dX9_two_65 ?_
    first
      | (rw [show rawV so 9 x y z = (if y = 0 then 0 else x.tdiv y) from rfl, if_pos ((iL_eq0 by_).mp ((lg_cmp_eq _ _).mp c52))] at hQ; exact hQ)
      | (rw [show rawV so 9 x y z = (if y = 0 then 0 else x.tdiv y) from rfl, if_neg (fun q => c52 ((lg_cmp_eq _ _).mpr ((iL_eq0 by_).mpr q)))] at hQ; exact hQ)
  · -- on
    refine z_lconst (v := 0) dX9_two_55 (by decide) ?_
    refine z_goto dX9_two_56 rfl ?_
    refine z_lret dX9_two_65 ?_
    first
      | (rw [show rawV so 9 x y z = (if y = 0 then 0 else x.tdiv y) from rfl, if_pos ((iL_eq0 by_).mp ((lg_cmp_eq _ _).mp c52))] at hQ; exact hQ)
      | (rw [show rawV so 9 x y z = (if y = 0 then 0 else x.tdiv y) from rfl, if_neg (fun q => c52 ((lg_cmp_eq _ _).mpr ((iL_eq0 by_).mpr q)))] at hQ; exact hQ)

theorem r_two {h : Hp} {d so o : Nat} {x y z : Int} (hx : b31 x) (hy : b31 y) (ho : 6 ≤ o ∧ o ≤ 9) (hd : 1 ≤ d) : Sp d mX9_two [.int (nI o), .long (iL x), .long (iL y)] h (some (.long (iL (clp (rawV so o x y z))))) h := by
  rcases (show o = 6 ∨ o = 7 ∨ o = 8 ∨ o = 9 by omega) with rfl | rfl | rfl | rfl
  · exact r_two_6 hx hy hd
  · exact r_two_7 hx hy hd
  · exact r_two_8 hx hy hd
  · exact r_two_9 hx hy hd

theorem r_pc_tail {h : Hp} {d N S : Nat} {Q : Option Value → Hp → Prop} {x : Int} {v w : Int64} (hx : b62 x) (hQ : Q (some (.long (iL (clp x)))) h) : T d N S mX9_percentOf 17 [some (.long v), none, some (.long w), none, none, none] [.long (iL x)] h Q := by
  refine z_lstore dX9_percentOf_17 (Nat.le_of_ble_eq_true rfl) ?_
  refine z_lload dX9_percentOf_19 rfl ?_
  refine z_ldc2 (v := 1000000) dX9_percentOf_21 Kc_X9_274 ?_
  refine z_lcmp dX9_percentOf_24 ?_
  refine z_if_le dX9_percentOf_25 rfl (fun c25 => ?_) (fun c25 => ?_)
  · -- to 34
    refine z_lload dX9_percentOf_34 rfl ?_
    refine z_ldc2 (v := -1000000) dX9_percentOf_36 Kc_X9_276 ?_
    refine z_lcmp dX9_percentOf_39 ?_
    refine z_if_ge dX9_percentOf_40 rfl (fun c40 => ?_) (fun c40 => ?_)
    · -- to 49
      refine z_lload dX9_percentOf_49 rfl ?_
      refine z_lret dX9_percentOf_51 ?_
      first
        | (rw [show clp x = 1000000 from if_pos ((iL_lt bm hx).mp (Int64.not_le.mp (fun q => c25 ((lg_cmp_le _ _).mpr q))))] at hQ; exact hQ)
        | (rw [show clp x = x by unfold clp; rw [if_neg (Int.not_lt.mpr ((iL_le hx bm).mp ((lg_cmp_le _ _).mp c25))), if_neg (Int.not_lt.mpr ((iL_le bmm hx).mp ((lg_cmp_ge _ _).mp c40)))]] at hQ; exact hQ)
        | (rw [show clp x = -1000000 by unfold clp; rw [if_neg (Int.not_lt.mpr ((iL_le hx bm).mp ((lg_cmp_le _ _).mp c25))), if_pos ((iL_lt hx bmm).mp (Int64.not_le.mp (fun q => c40 ((lg_cmp_ge _ _).mpr q))))]] at hQ; exact hQ)
    · -- on
      refine z_ldc2 (v := -1000000) dX9_percentOf_43 Kc_X9_276 ?_
      refine z_goto dX9_percentOf_46 rfl ?_
      refine z_lret dX9_percentOf_51 ?_
      first
        | (rw [show clp x = 1000000 from if_pos ((iL_lt bm hx).mp (Int64.not_le.mp (fun q => c25 ((lg_cmp_le _ _).mpr q))))] at hQ; exact hQ)
        | (rw [show clp x = x by unfold clp; rw [if_neg (Int.not_lt.mpr ((iL_le hx bm).mp ((lg_cmp_le _ _).mp c25))), if_neg (Int.not_lt.mpr ((iL_le bmm hx).mp ((lg_cmp_ge _ _).mp c40)))]] at hQ; exact hQ)
        | (rw [show clp x = -1000000 by unfold clp; rw [if_neg (Int.not_lt.mpr ((iL_le hx bm).mp ((lg_cmp_le _ _).mp c25))), if_pos ((iL_lt hx bmm).mp (Int64.not_le.mp (fun q => c40 ((lg_cmp_ge _ _).mpr q))))]] at hQ; exact hQ)
  · -- on
    refine z_ldc2 (v := 1000000) dX9_percentOf_28 Kc_X9_274 ?_
    refine z_goto dX9_percentOf_31 rfl ?_
    refine z_lret dX9_percentOf_51 ?_
    first
      | (rw [show clp x = 1000000 from if_pos ((iL_lt bm hx).mp (Int64.not_le.mp (fun q => c25 ((lg_cmp_le _ _).mpr q))))] at hQ; exact hQ)
      | (rw [show clp x = x by unfold clp; rw [if_neg (Int.not_lt.mpr ((iL_le hx bm).mp ((lg_cmp_le _ _).mp c25))), if_neg (Int.not_lt.mpr ((iL_le bmm hx).mp ((lg_cmp_ge _ _).mp c40)))]] at hQ; exact hQ)
      | (rw [show clp x = -1000000 by unfold clp; rw [if_neg (Int.not_lt.mpr ((iL_le hx bm).mp ((lg_cmp_le _ _).mp c25))), if_pos ((iL_lt hx bmm).mp (Int64.not_le.mp (fun q => c40 ((lg_cmp_ge _ _).mpr q))))]] at hQ; exact hQ)

theorem r_percentOf {h : Hp} {d so : Nat} {x y z : Int} (hx : b31 x) (hy : b31 y) : Sp d mX9_percentOf [.long (iL x), .long (iL y)] h (some (.long (iL (clp (rawV so 4 x y z))))) h := by
  intro N S Q hN hS hQ
  have bx := b31_62 hx
  have by_ := b31_62 hy
  refine z_lload_n dX9_percentOf_0 rfl rfl ?_
  refine z_lconst (v := 0) dX9_percentOf_1 (by decide) ?_
  refine z_lcmp dX9_percentOf_2 ?_
  refine z_if_ne dX9_percentOf_3 rfl (fun c3 => ?_) (fun c3 => ?_)
  · -- to 10
    refine z_ldc2 (v := 100) dX9_percentOf_10 Kc_X9_282 ?_
    refine z_lload_n dX9_percentOf_13 rfl rfl ?_
    refine z_lmul dX9_percentOf_14 ?_
    refine z_lload_n dX9_percentOf_15 rfl rfl ?_
    refine z_ldiv dX9_percentOf_16 (fun q => c3 ((lg_cmp_eq _ _).mpr q)) ?_
    first
      | (have e0 : rawV so 4 x y z = 0 := if_pos ((iL_eq0 by_).mp ((lg_cmp_eq _ _).mp c3))
         rw [e0] at hQ
         exact r_pc_tail b62_0 hQ)
      | (have e0 : rawV so 4 x y z = (100 * x).tdiv y := if_neg (fun q => c3 ((lg_cmp_eq _ _).mpr ((iL_eq0 by_).mpr q)))
         rw [e0] at hQ
         have e1 : (100 : Int64) * iL x / iL y = iL ((100 * x).tdiv y) := by
           rw [show (100 : Int64) = iL 100 from rfl, iL_mul, iL_div ⟨by have := hx.1; omega, by have := hx.2; omega⟩ by_]
         rw [e1]
         exact r_pc_tail (tdiv_b ⟨by have := hx.1; omega, by have := hx.2; omega⟩) hQ)
  · -- on
    refine z_lconst (v := 0) dX9_percentOf_6 (by decide) ?_
    refine z_goto dX9_percentOf_7 rfl ?_
    first
      | (have e0 : rawV so 4 x y z = 0 := if_pos ((iL_eq0 by_).mp ((lg_cmp_eq _ _).mp c3))
         rw [e0] at hQ
         exact r_pc_tail b62_0 hQ)
      | (have e0 : rawV so 4 x y z = (100 * x).tdiv y := if_neg (fun q => c3 ((lg_cmp_eq _ _).mpr ((iL_eq0 by_).mpr q)))
         rw [e0] at hQ
         have e1 : (100 : Int64) * iL x / iL y = iL ((100 * x).tdiv y) := by
           rw [show (100 : Int64) = iL 100 from rfl, iL_mul, iL_div ⟨by have := hx.1; omega, by have := hx.2; omega⟩ by_]
         rw [e1]
         exact r_pc_tail (tdiv_b ⟨by have := hx.1; omega, by have := hx.2; omega⟩) hQ)

theorem r_asked_10 {h : Hp} {d so : Nat} {x y z : Int} (hx : b31 x) (hy : b31 y) : Sp d mX9_isAsked [.int (nI 10), .long (iL x), .long (iL y)] h (some (.int (iI (clp (rawV so 10 x y z))))) h := by
  intro N S Q hN hS hQ
  have bx := b31_62 hx
  have by_ := b31_62 hy
  refine z_iload_n dX9_isAsked_0 rfl rfl ?_
  refine z_bipush (v := 10) dX9_isAsked_1 (by decide) ?_
  refine z_icmp_ne dX9_isAsked_3 rfl (fun c => absurd (rfl) c) (fun _ => ?_)
  refine z_lload_n dX9_isAsked_6 rfl rfl ?_
  refine z_lload_n dX9_isAsked_7 rfl rfl ?_
  refine z_lcmp dX9_isAsked_8 ?_
  refine z_if_ge dX9_isAsked_9 rfl (fun c9 => ?_) (fun c9 => ?_)
  · -- to 16
    refine z_iconst (v := 0) dX9_isAsked_16 (by decide) ?_
    refine z_goto dX9_isAsked_17 rfl ?_
    refine z_iret dX9_isAsked_111 ?_
    first
      | (rw [show rawV so 10 x y z = tb (x < y) from rfl, tb_f (p := x < y) (Int.not_lt.mpr ((iL_le by_ bx).mp ((lg_cmp_ge _ _).mp c9)))] at hQ; exact hQ)
      | (rw [show rawV so 10 x y z = tb (x < y) from rfl, tb_t (p := x < y) ((iL_lt bx by_).mp (Int64.not_le.mp (fun q => c9 ((lg_cmp_ge _ _).mpr q))))] at hQ; exact hQ)
  · -- on
    refine z_iconst (v := 1) dX9_isAsked_12 (by decide) ?_
    refine z_goto dX9_isAsked_13 rfl ?_
    refine z_iret dX9_isAsked_111 ?_
    first
      | (rw [show rawV so 10 x y z = tb (x < y) from rfl, tb_f (p := x < y) (Int.not_lt.mpr ((iL_le by_ bx).mp ((lg_cmp_ge _ _).mp c9)))] at hQ; exact hQ)
      | (rw [show rawV so 10 x y z = tb (x < y) from rfl, tb_t (p := x < y) ((iL_lt bx by_).mp (Int64.not_le.mp (fun q => c9 ((lg_cmp_ge _ _).mpr q))))] at hQ; exact hQ)

theorem r_asked_11 {h : Hp} {d so : Nat} {x y z : Int} (hx : b31 x) (hy : b31 y) : Sp d mX9_isAsked [.int (nI 11), .long (iL x), .long (iL y)] h (some (.int (iI (clp (rawV so 11 x y z))))) h := by
  intro N S Q hN hS hQ
  have bx := b31_62 hx
  have by_ := b31_62 hy
  refine z_iload_n dX9_isAsked_0 rfl rfl ?_
  refine z_bipush (v := 10) dX9_isAsked_1 (by decide) ?_
  refine z_icmp_ne dX9_isAsked_3 rfl (fun _ => ?_) (fun c => absurd c (by decide))
  refine z_iload_n dX9_isAsked_20 rfl rfl ?_
  refine z_bipush (v := 11) dX9_isAsked_21 (by decide) ?_
  refine z_icmp_ne dX9_isAsked_23 rfl (fun c => absurd (rfl) c) (fun _ => ?_)
  refine z_lload_n dX9_isAsked_26 rfl rfl ?_
  refine z_lload_n dX9_isAsked_27 rfl rfl ?_
  refine z_lcmp dX9_isAsked_28 ?_
  refine z_if_gt dX9_isAsked_29 rfl (fun c29 => ?_) (fun c29 => ?_)
  · -- to 36
    refine z_iconst (v := 0) dX9_isAsked_36 (by decide) ?_
    refine z_goto dX9_isAsked_37 rfl ?_
    refine z_iret dX9_isAsked_111 ?_
    first
      | (rw [show rawV so 11 x y z = tb (x ≤ y) from rfl, tb_f (p := x ≤ y) (Int.not_le.mpr ((iL_lt by_ bx).mp ((lg_cmp_gt _ _).mp c29)))] at hQ; exact hQ)
      | (rw [show rawV so 11 x y z = tb (x ≤ y) from rfl, tb_t (p := x ≤ y) ((iL_le bx by_).mp (Int64.not_lt.mp (fun q => c29 ((lg_cmp_gt _ _).mpr q))))] at hQ; exact hQ)
  · -- on
    refine z_iconst (v := 1) dX9_isAsked_32 (by decide) ?_
    refine z_goto dX9_isAsked_33 rfl ?_
    refine z_iret dX9_isAsked_111 ?_
    first
      | (rw [show rawV so 11 x y z = tb (x ≤ y) from rfl, tb_f (p := x ≤ y) (Int.not_le.mpr ((iL_lt by_ bx).mp ((lg_cmp_gt _ _).mp c29)))] at hQ; exact hQ)
      | (rw [show rawV so 11 x y z = tb (x ≤ y) from rfl, tb_t (p := x ≤ y) ((iL_le bx by_).mp (Int64.not_lt.mp (fun q => c29 ((lg_cmp_gt _ _).mpr q))))] at hQ; exact hQ)

theorem r_asked_12 {h : Hp} {d so : Nat} {x y z : Int} (hx : b31 x) (hy : b31 y) : Sp d mX9_isAsked [.int (nI 12), .long (iL x), .long (iL y)] h (some (.int (iI (clp (rawV so 12 x y z))))) h := by
  intro N S Q hN hS hQ
  have bx := b31_62 hx
  have by_ := b31_62 hy
  refine z_iload_n dX9_isAsked_0 rfl rfl ?_
  refine z_bipush (v := 10) dX9_isAsked_1 (by decide) ?_
  refine z_icmp_ne dX9_isAsked_3 rfl (fun _ => ?_) (fun c => absurd c (by decide))
  refine z_iload_n dX9_isAsked_20 rfl rfl ?_
  refine z_bipush (v := 11) dX9_isAsked_21 (by decide) ?_
  refine z_icmp_ne dX9_isAsked_23 rfl (fun _ => ?_) (fun c => absurd c (by decide))
  refine z_iload_n dX9_isAsked_40 rfl rfl ?_
  refine z_bipush (v := 12) dX9_isAsked_41 (by decide) ?_
  refine z_icmp_ne dX9_isAsked_43 rfl (fun c => absurd (rfl) c) (fun _ => ?_)
  refine z_lload_n dX9_isAsked_46 rfl rfl ?_
  refine z_lload_n dX9_isAsked_47 rfl rfl ?_
  refine z_lcmp dX9_isAsked_48 ?_
  refine z_if_le dX9_isAsked_49 rfl (fun c49 => ?_) (fun c49 => ?_)
  · -- to 56
    refine z_iconst (v := 0) dX9_isAsked_56 (by decide) ?_
    refine z_goto dX9_isAsked_57 rfl ?_
    refine z_iret dX9_isAsked_111 ?_
    first
      | (rw [show rawV so 12 x y z = tb (y < x) from rfl, tb_f (p := y < x) (Int.not_lt.mpr ((iL_le bx by_).mp ((lg_cmp_le _ _).mp c49)))] at hQ; exact hQ)
      | (rw [show rawV so 12 x y z = tb (y < x) from rfl, tb_t (p := y < x) ((iL_lt by_ bx).mp (Int64.not_le.mp (fun q => c49 ((lg_cmp_le _ _).mpr q))))] at hQ; exact hQ)
  · -- on
    refine z_iconst (v := 1) dX9_isAsked_52 (by decide) ?_
    refine z_goto dX9_isAsked_53 rfl ?_
    refine z_iret dX9_isAsked_111 ?_
    first
      | (rw [show rawV so 12 x y z = tb (y < x) from rfl, tb_f (p := y < x) (Int.not_lt.mpr ((iL_le bx by_).mp ((lg_cmp_le _ _).mp c49)))] at hQ; exact hQ)
      | (rw [show rawV so 12 x y z = tb (y < x) from rfl, tb_t (p := y < x) ((iL_lt by_ bx).mp (Int64.not_le.mp (fun q => c49 ((lg_cmp_le _ _).mpr q))))] at hQ; exact hQ)

theorem r_asked_13 {h : Hp} {d so : Nat} {x y z : Int} (hx : b31 x) (hy : b31 y) : Sp d mX9_isAsked [.int (nI 13), .long (iL x), .long (iL y)] h (some (.int (iI (clp (rawV so 13 x y z))))) h := by
  intro N S Q hN hS hQ
  have bx := b31_62 hx
  have by_ := b31_62 hy
  refine z_iload_n dX9_isAsked_0 rfl rfl ?_
  refine z_bipush (v := 10) dX9_isAsked_1 (by decide) ?_
  refine z_icmp_ne dX9_isAsked_3 rfl (fun _ => ?_) (fun c => absurd c (by decide))
  refine z_iload_n dX9_isAsked_20 rfl rfl ?_
  refine z_bipush (v := 11) dX9_isAsked_21 (by decide) ?_
  refine z_icmp_ne dX9_isAsked_23 rfl (fun _ => ?_) (fun c => absurd c (by decide))
  refine z_iload_n dX9_isAsked_40 rfl rfl ?_
  refine z_bipush (v := 12) dX9_isAsked_41 (by decide) ?_
  refine z_icmp_ne dX9_isAsked_43 rfl (fun _ => ?_) (fun c => absurd c (by decide))
  refine z_iload_n dX9_isAsked_60 rfl rfl ?_
  refine z_bipush (v := 13) dX9_isAsked_61 (by decide) ?_
  refine z_icmp_ne dX9_isAsked_63 rfl (fun c => absurd (rfl) c) (fun _ => ?_)
  refine z_lload_n dX9_isAsked_66 rfl rfl ?_
  refine z_lload_n dX9_isAsked_67 rfl rfl ?_
  refine z_lcmp dX9_isAsked_68 ?_
  refine z_if_lt dX9_isAsked_69 rfl (fun c69 => ?_) (fun c69 => ?_)
  · -- to 76
    refine z_iconst (v := 0) dX9_isAsked_76 (by decide) ?_
    refine z_goto dX9_isAsked_77 rfl ?_
    refine z_iret dX9_isAsked_111 ?_
    first
      | (rw [show rawV so 13 x y z = tb (y ≤ x) from rfl, tb_f (p := y ≤ x) (Int.not_le.mpr ((iL_lt bx by_).mp ((lg_cmp_lt _ _).mp c69)))] at hQ; exact hQ)
      | (rw [show rawV so 13 x y z = tb (y ≤ x) from rfl, tb_t (p := y ≤ x) ((iL_le by_ bx).mp (Int64.not_lt.mp (fun q => c69 ((lg_cmp_lt _ _).mpr q))))] at hQ; exact hQ)
  · -- on
    refine z_iconst (v := 1) dX9_isAsked_72 (by decide) ?_
    refine z_goto dX9_isAsked_73 rfl ?_
    refine z_iret dX9_isAsked_111 ?_
    first
      | (rw [show rawV so 13 x y z = tb (y ≤ x) from rfl, tb_f (p := y ≤ x) (Int.not_le.mpr ((iL_lt bx by_).mp ((lg_cmp_lt _ _).mp c69)))] at hQ; exact hQ)
      | (rw [show rawV so 13 x y z = tb (y ≤ x) from rfl, tb_t (p := y ≤ x) ((iL_le by_ bx).mp (Int64.not_lt.mp (fun q => c69 ((lg_cmp_lt _ _).mpr q))))] at hQ; exact hQ)

theorem r_asked_14 {h : Hp} {d so : Nat} {x y z : Int} (hx : b31 x) (hy : b31 y) : Sp d mX9_isAsked [.int (nI 14), .long (iL x), .long (iL y)] h (some (.int (iI (clp (rawV so 14 x y z))))) h := by
  intro N S Q hN hS hQ
  have bx := b31_62 hx
  have by_ := b31_62 hy
  refine z_iload_n dX9_isAsked_0 rfl rfl ?_
  refine z_bipush (v := 10) dX9_isAsked_1 (by decide) ?_
  refine z_icmp_ne dX9_isAsked_3 rfl (fun _ => ?_) (fun c => absurd c (by decide))
  refine z_iload_n dX9_isAsked_20 rfl rfl ?_
  refine z_bipush (v := 11) dX9_isAsked_21 (by decide) ?_
  refine z_icmp_ne dX9_isAsked_23 rfl (fun _ => ?_) (fun c => absurd c (by decide))
  refine z_iload_n dX9_isAsked_40 rfl rfl ?_
  refine z_bipush (v := 12) dX9_isAsked_41 (by decide) ?_
  refine z_icmp_ne dX9_isAsked_43 rfl (fun _ => ?_) (fun c => absurd c (by decide))
  refine z_iload_n dX9_isAsked_60 rfl rfl ?_
  refine z_bipush (v := 13) dX9_isAsked_61 (by decide) ?_
  refine z_icmp_ne dX9_isAsked_63 rfl (fun _ => ?_) (fun c => absurd c (by decide))
  refine z_iload_n dX9_isAsked_80 rfl rfl ?_
  refine z_bipush (v := 14) dX9_isAsked_81 (by decide) ?_
  refine z_icmp_ne dX9_isAsked_83 rfl (fun c => absurd (rfl) c) (fun _ => ?_)
  refine z_lload_n dX9_isAsked_86 rfl rfl ?_
  refine z_lload_n dX9_isAsked_87 rfl rfl ?_
  refine z_lcmp dX9_isAsked_88 ?_
  refine z_if_ne dX9_isAsked_89 rfl (fun c89 => ?_) (fun c89 => ?_)
  · -- to 96
    refine z_iconst (v := 0) dX9_isAsked_96 (by decide) ?_
    refine z_goto dX9_isAsked_97 rfl ?_
    refine z_iret dX9_isAsked_111 ?_
    first
      | (rw [show rawV so 14 x y z = tb (x = y) from rfl, tb_f (p := x = y) (fun q => c89 ((lg_cmp_eq _ _).mpr ((iL_eq bx by_).mpr q)))] at hQ; exact hQ)
      | (rw [show rawV so 14 x y z = tb (x = y) from rfl, tb_t (p := x = y) ((iL_eq bx by_).mp ((lg_cmp_eq _ _).mp c89))] at hQ; exact hQ)
  · -- on
    refine z_iconst (v := 1) dX9_isAsked_92 (by decide) ?_
    refine z_goto dX9_isAsked_93 rfl ?_
    refine z_iret dX9_isAsked_111 ?_
    first
      | (rw [show rawV so 14 x y z = tb (x = y) from rfl, tb_f (p := x = y) (fun q => c89 ((lg_cmp_eq _ _).mpr ((iL_eq bx by_).mpr q)))] at hQ; exact hQ)
      | (rw [show rawV so 14 x y z = tb (x = y) from rfl, tb_t (p := x = y) ((iL_eq bx by_).mp ((lg_cmp_eq _ _).mp c89))] at hQ; exact hQ)

theorem r_asked_15 {h : Hp} {d so : Nat} {x y z : Int} (hx : b31 x) (hy : b31 y) : Sp d mX9_isAsked [.int (nI 15), .long (iL x), .long (iL y)] h (some (.int (iI (clp (rawV so 15 x y z))))) h := by
  intro N S Q hN hS hQ
  have bx := b31_62 hx
  have by_ := b31_62 hy
  refine z_iload_n dX9_isAsked_0 rfl rfl ?_
  refine z_bipush (v := 10) dX9_isAsked_1 (by decide) ?_
  refine z_icmp_ne dX9_isAsked_3 rfl (fun _ => ?_) (fun c => absurd c (by decide))
  refine z_iload_n dX9_isAsked_20 rfl rfl ?_
  refine z_bipush (v := 11) dX9_isAsked_21 (by decide) ?_
  refine z_icmp_ne dX9_isAsked_23 rfl (fun _ => ?_) (fun c => absurd c (by decide))
  refine z_iload_n dX9_isAsked_40 rfl rfl ?_
  refine z_bipush (v := 12) dX9_isAsked_41 (by decide) ?_
  refine z_icmp_ne dX9_isAsked_43 rfl (fun _ => ?_) (fun c => absurd c (by decide))
  refine z_iload_n dX9_isAsked_60 rfl rfl ?_
  refine z_bipush (v := 13) dX9_isAsked_61 (by decide) ?_
  refine z_icmp_ne dX9_isAsked_63 rfl (fun _ => ?_) (fun c => absurd c (by decide))
  refine z_iload_n dX9_isAsked_80 rfl rfl ?_
  refine z_bipush (v := 14) dX9_isAsked_81 (by decide) ?_
  refine z_icmp_ne dX9_isAsked_83 rfl (fun _ => ?_) (fun c => absurd c (by decide))
  refine z_lload_n dX9_isAsked_100 rfl rfl ?_
  refine z_lload_n dX9_isAsked_101 rfl rfl ?_
  refine z_lcmp dX9_isAsked_102 ?_
  refine z_if_eq dX9_isAsked_103 rfl (fun c103 => ?_) (fun c103 => ?_)
  · -- to 110
    refine z_iconst (v := 0) dX9_isAsked_110 (by decide) ?_
    refine z_iret dX9_isAsked_111 ?_
    first
      | (rw [show rawV so 15 x y z = tb (¬ x = y) from rfl, tb_f (p := ¬ x = y) (fun q => q ((iL_eq bx by_).mp ((lg_cmp_eq _ _).mp c103)))] at hQ; exact hQ)
      | (rw [show rawV so 15 x y z = tb (¬ x = y) from rfl, tb_t (p := ¬ x = y) (fun q => c103 ((lg_cmp_eq _ _).mpr ((iL_eq bx by_).mpr q)))] at hQ; exact hQ)
  · -- on
    refine z_iconst (v := 1) dX9_isAsked_106 (by decide) ?_
    refine z_goto dX9_isAsked_107 rfl ?_
    refine z_iret dX9_isAsked_111 ?_
    first
      | (rw [show rawV so 15 x y z = tb (¬ x = y) from rfl, tb_f (p := ¬ x = y) (fun q => q ((iL_eq bx by_).mp ((lg_cmp_eq _ _).mp c103)))] at hQ; exact hQ)
      | (rw [show rawV so 15 x y z = tb (¬ x = y) from rfl, tb_t (p := ¬ x = y) (fun q => c103 ((lg_cmp_eq _ _).mpr ((iL_eq bx by_).mpr q)))] at hQ; exact hQ)

theorem r_asked {h : Hp} {d so o : Nat} {x y z : Int} (hx : b31 x) (hy : b31 y) (ho : 10 ≤ o ∧ o ≤ 15) : Sp d mX9_isAsked [.int (nI o), .long (iL x), .long (iL y)] h (some (.int (iI (clp (rawV so o x y z))))) h := by
  rcases (show o = 10 ∨ o = 11 ∨ o = 12 ∨ o = 13 ∨ o = 14 ∨ o = 15 by omega) with rfl | rfl | rfl | rfl | rfl | rfl
  · exact r_asked_10 hx hy
  · exact r_asked_11 hx hy
  · exact r_asked_12 hx hy
  · exact r_asked_13 hx hy
  · exact r_asked_14 hx hy
  · exact r_asked_15 hx hy

theorem r_joined_2100 {h : Hp} {d so : Nat} {z : Int} : Sp d mX9_joined [.int (nI 21), .int (iI 0), .int (iI 0)] h (some (.int (iI (clp (rawV so 21 0 0 z))))) h := by
  intro N S Q hN hS hQ
  refine z_iload_n dX9_joined_0 rfl rfl ?_
  refine z_bipush (v := 21) dX9_joined_1 (by decide) ?_
  refine z_icmp_ne dX9_joined_3 rfl (fun c => absurd (rfl) c) (fun _ => ?_)
  refine z_iload_n dX9_joined_6 rfl rfl ?_
  refine z_if_eq dX9_joined_7 rfl (fun _ => ?_) (fun c => absurd (rfl) c)
  refine z_iconst (v := 0) dX9_joined_18 (by decide) ?_
  refine z_goto dX9_joined_19 rfl ?_
  refine z_iret dX9_joined_35 ?_
  exact hQ

theorem r_joined_2101 {h : Hp} {d so : Nat} {z : Int} : Sp d mX9_joined [.int (nI 21), .int (iI 0), .int (iI 1)] h (some (.int (iI (clp (rawV so 21 0 1 z))))) h := by
  intro N S Q hN hS hQ
  refine z_iload_n dX9_joined_0 rfl rfl ?_
  refine z_bipush (v := 21) dX9_joined_1 (by decide) ?_
  refine z_icmp_ne dX9_joined_3 rfl (fun c => absurd (rfl) c) (fun _ => ?_)
  refine z_iload_n dX9_joined_6 rfl rfl ?_
  refine z_if_eq dX9_joined_7 rfl (fun _ => ?_) (fun c => absurd (rfl) c)
  refine z_iconst (v := 0) dX9_joined_18 (by decide) ?_
  refine z_goto dX9_joined_19 rfl ?_
  refine z_iret dX9_joined_35 ?_
  exact hQ

theorem r_joined_2110 {h : Hp} {d so : Nat} {z : Int} : Sp d mX9_joined [.int (nI 21), .int (iI 1), .int (iI 0)] h (some (.int (iI (clp (rawV so 21 1 0 z))))) h := by
  intro N S Q hN hS hQ
  refine z_iload_n dX9_joined_0 rfl rfl ?_
  refine z_bipush (v := 21) dX9_joined_1 (by decide) ?_
  refine z_icmp_ne dX9_joined_3 rfl (fun c => absurd (rfl) c) (fun _ => ?_)
  refine z_iload_n dX9_joined_6 rfl rfl ?_
  refine z_if_eq dX9_joined_7 rfl (fun c => absurd c (by decide)) (fun _ => ?_)
  refine z_iload_n dX9_joined_10 rfl rfl ?_
  refine z_if_eq dX9_joined_11 rfl (fun _ => ?_) (fun c => absurd (rfl) c)
  refine z_iconst (v := 0) dX9_joined_18 (by decide) ?_
  refine z_goto dX9_joined_19 rfl ?_
  refine z_iret dX9_joined_35 ?_
  exact hQ

theorem r_joined_2111 {h : Hp} {d so : Nat} {z : Int} : Sp d mX9_joined [.int (nI 21), .int (iI 1), .int (iI 1)] h (some (.int (iI (clp (rawV so 21 1 1 z))))) h := by
  intro N S Q hN hS hQ
  refine z_iload_n dX9_joined_0 rfl rfl ?_
  refine z_bipush (v := 21) dX9_joined_1 (by decide) ?_
  refine z_icmp_ne dX9_joined_3 rfl (fun c => absurd (rfl) c) (fun _ => ?_)
  refine z_iload_n dX9_joined_6 rfl rfl ?_
  refine z_if_eq dX9_joined_7 rfl (fun c => absurd c (by decide)) (fun _ => ?_)
  refine z_iload_n dX9_joined_10 rfl rfl ?_
  refine z_if_eq dX9_joined_11 rfl (fun c => absurd c (by decide)) (fun _ => ?_)
  refine z_iconst (v := 1) dX9_joined_14 (by decide) ?_
  refine z_goto dX9_joined_15 rfl ?_
  refine z_iret dX9_joined_35 ?_
  exact hQ

theorem r_joined_2200 {h : Hp} {d so : Nat} {z : Int} : Sp d mX9_joined [.int (nI 22), .int (iI 0), .int (iI 0)] h (some (.int (iI (clp (rawV so 22 0 0 z))))) h := by
  intro N S Q hN hS hQ
  refine z_iload_n dX9_joined_0 rfl rfl ?_
  refine z_bipush (v := 21) dX9_joined_1 (by decide) ?_
  refine z_icmp_ne dX9_joined_3 rfl (fun _ => ?_) (fun c => absurd c (by decide))
  refine z_iload_n dX9_joined_22 rfl rfl ?_
  refine z_if_ne dX9_joined_23 rfl (fun c => absurd (rfl) c) (fun _ => ?_)
  refine z_iload_n dX9_joined_26 rfl rfl ?_
  refine z_if_eq dX9_joined_27 rfl (fun _ => ?_) (fun c => absurd (rfl) c)
  refine z_iconst (v := 0) dX9_joined_34 (by decide) ?_
  refine z_iret dX9_joined_35 ?_
  exact hQ

theorem r_joined_2201 {h : Hp} {d so : Nat} {z : Int} : Sp d mX9_joined [.int (nI 22), .int (iI 0), .int (iI 1)] h (some (.int (iI (clp (rawV so 22 0 1 z))))) h := by
  intro N S Q hN hS hQ
  refine z_iload_n dX9_joined_0 rfl rfl ?_
  refine z_bipush (v := 21) dX9_joined_1 (by decide) ?_
  refine z_icmp_ne dX9_joined_3 rfl (fun _ => ?_) (fun c => absurd c (by decide))
  refine z_iload_n dX9_joined_22 rfl rfl ?_
  refine z_if_ne dX9_joined_23 rfl (fun c => absurd (rfl) c) (fun _ => ?_)
  refine z_iload_n dX9_joined_26 rfl rfl ?_
  refine z_if_eq dX9_joined_27 rfl (fun c => absurd c (by decide)) (fun _ => ?_)
  refine z_iconst (v := 1) dX9_joined_30 (by decide) ?_
  refine z_goto dX9_joined_31 rfl ?_
  refine z_iret dX9_joined_35 ?_
  exact hQ

theorem r_joined_2210 {h : Hp} {d so : Nat} {z : Int} : Sp d mX9_joined [.int (nI 22), .int (iI 1), .int (iI 0)] h (some (.int (iI (clp (rawV so 22 1 0 z))))) h := by
  intro N S Q hN hS hQ
  refine z_iload_n dX9_joined_0 rfl rfl ?_
  refine z_bipush (v := 21) dX9_joined_1 (by decide) ?_
  refine z_icmp_ne dX9_joined_3 rfl (fun _ => ?_) (fun c => absurd c (by decide))
  refine z_iload_n dX9_joined_22 rfl rfl ?_
  refine z_if_ne dX9_joined_23 rfl (fun _ => ?_) (fun c => absurd c (by decide))
  refine z_iconst (v := 1) dX9_joined_30 (by decide) ?_
  refine z_goto dX9_joined_31 rfl ?_
  refine z_iret dX9_joined_35 ?_
  exact hQ

theorem r_joined_2211 {h : Hp} {d so : Nat} {z : Int} : Sp d mX9_joined [.int (nI 22), .int (iI 1), .int (iI 1)] h (some (.int (iI (clp (rawV so 22 1 1 z))))) h := by
  intro N S Q hN hS hQ
  refine z_iload_n dX9_joined_0 rfl rfl ?_
  refine z_bipush (v := 21) dX9_joined_1 (by decide) ?_
  refine z_icmp_ne dX9_joined_3 rfl (fun _ => ?_) (fun c => absurd c (by decide))
  refine z_iload_n dX9_joined_22 rfl rfl ?_
  refine z_if_ne dX9_joined_23 rfl (fun _ => ?_) (fun c => absurd c (by decide))
  refine z_iconst (v := 1) dX9_joined_30 (by decide) ?_
  refine z_goto dX9_joined_31 rfl ?_
  refine z_iret dX9_joined_35 ?_
  exact hQ

theorem r_joined {h : Hp} {d so o : Nat} {x y z : Int} (hx : x = 0 ∨ x = 1) (hy : y = 0 ∨ y = 1) (ho : o = 21 ∨ o = 22) : Sp d mX9_joined [.int (nI o), .int (iI x), .int (iI y)] h (some (.int (iI (clp (rawV so o x y z))))) h := by
  rcases ho with rfl | rfl <;> rcases hx with rfl | rfl <;> rcases hy with rfl | rfl
  · exact r_joined_2100
  · exact r_joined_2101
  · exact r_joined_2110
  · exact r_joined_2111
  · exact r_joined_2200
  · exact r_joined_2201
  · exact r_joined_2210
  · exact r_joined_2211

theorem r_soOf {h : Hp} {d so f : Nat} {x y z : Int} (hm : SM h) (e0 : pI h 489 0 = nI f) (e10 : pI h 489 10 = nI so) (hf : f ≤ 8) (hso : so < 2 ^ f) (hx : b31 x) (hd : 1 ≤ d) : Sp d mX9_soOf [.ref 488, .long (iL x)] h (some (.long (iL (clp (rawV so 2 x y z))))) h := by
  intro N S Q hN hS hQ
  have bx := b31_62 hx
  have p2 : 2 ^ f ≤ 2 ^ 8 := Nat.pow_le_pow_right (by omega) hf
  have bf : b62 (f : Int) := ⟨by omega, by omega⟩
  by_cases h0 : 0 ≤ x
  · by_cases h1 : x < f
    · obtain ⟨k, rfl⟩ := Int.eq_ofNat_of_zero_le h0
      rw [show rawV so 2 (k : Int) y z = (if 0 ≤ (k : Int) ∧ (k : Int) < 8 then tb (so.testBit (k : Int).toNat = true) else 0) from rfl, if_pos ⟨h0, by omega⟩, Int.toNat_natCast, clp_id tb_b] at hQ
      by_cases hb : so.testBit k = true
      · rw [tb_t hb] at hQ
        refine z_lload_n dX9_soOf_0 rfl rfl ?_
        refine z_lconst (v := 0) dX9_soOf_1 (by decide) ?_
        refine z_lcmp dX9_soOf_2 ?_
        refine z_if_lt dX9_soOf_3 rfl (fun c => absurd c (fun q => absurd ((iL_lt bx b62_0).mp ((lg_cmp_lt _ _).mp q)) (Int.not_lt.mpr h0))) (fun _ => ?_)
        refine z_lload_n dX9_soOf_6 rfl rfl ?_
        refine z_aload_n dX9_soOf_7 rfl rfl ?_
        refine y_getR FX9_7 dX9_soOf_8 rfl hm.o hm.f_a ?_
        refine z_iconst (v := 0) dX9_soOf_11 (by decide) ?_
        refine y_ialN (0) dX9_soOf_12 hm.A_a (Nat.le_of_ble_eq_true rfl) (rfl) (by omega) ?_
        refine z_eqi e0 ?_
        refine z_i2l dX9_soOf_13 ?_
        refine z_eql (show _ = iL (f : Int) by rw [nI_l (by omega), iL_n]) ?_
        refine z_lcmp dX9_soOf_14 ?_
        refine z_if_ge dX9_soOf_15 rfl (fun c => absurd c (fun q => absurd ((iL_le bf bx).mp ((lg_cmp_ge _ _).mp q)) (Int.not_le.mpr h1))) (fun _ => ?_)
        refine z_aload_n dX9_soOf_18 rfl rfl ?_
        refine y_getR FX9_7 dX9_soOf_19 rfl hm.o hm.f_a ?_
        refine z_bipush (v := 10) dX9_soOf_22 (by decide) ?_
        refine y_ialN (10) dX9_soOf_24 hm.A_a (Nat.le_of_ble_eq_true rfl) (rfl) (by omega) ?_
        refine z_eqi e10 ?_
        refine z_lload_n dX9_soOf_25 rfl rfl ?_
        refine z_l2i dX9_soOf_26 ?_
        refine z_eqi (show _ = nI k by rw [iL_i, ← nI_i]) ?_
        refine y_callS (as := [_, _]) CX9_has LX9_261 SX9_has dX9_soOf_27 rfl (Nat.le_of_ble_eq_true rfl) (Nat.le_of_ble_eq_true rfl) (by omega) (r_has (n := so) (k := k) (by omega) (by omega)) (rok_z bI_01) ⟨Nat.le_refl _, Nat.le_refl _, hN, hS⟩ ?_
        refine z_if_eq dX9_soOf_30 rfl (fun c => absurd c (bI_ne0.mpr hb)) (fun _ => ?_)
        refine z_lconst (v := 1) dX9_soOf_33 (by decide) ?_
        refine z_goto dX9_soOf_34 rfl ?_
        refine z_lret dX9_soOf_38 ?_
        exact hQ
      · rw [tb_f hb] at hQ
        refine z_lload_n dX9_soOf_0 rfl rfl ?_
        refine z_lconst (v := 0) dX9_soOf_1 (by decide) ?_
        refine z_lcmp dX9_soOf_2 ?_
        refine z_if_lt dX9_soOf_3 rfl (fun c => absurd c (fun q => absurd ((iL_lt bx b62_0).mp ((lg_cmp_lt _ _).mp q)) (Int.not_lt.mpr h0))) (fun _ => ?_)
        refine z_lload_n dX9_soOf_6 rfl rfl ?_
        refine z_aload_n dX9_soOf_7 rfl rfl ?_
        refine y_getR FX9_7 dX9_soOf_8 rfl hm.o hm.f_a ?_
        refine z_iconst (v := 0) dX9_soOf_11 (by decide) ?_
        refine y_ialN (0) dX9_soOf_12 hm.A_a (Nat.le_of_ble_eq_true rfl) (rfl) (by omega) ?_
        refine z_eqi e0 ?_
        refine z_i2l dX9_soOf_13 ?_
        refine z_eql (show _ = iL (f : Int) by rw [nI_l (by omega), iL_n]) ?_
        refine z_lcmp dX9_soOf_14 ?_
        refine z_if_ge dX9_soOf_15 rfl (fun c => absurd c (fun q => absurd ((iL_le bf bx).mp ((lg_cmp_ge _ _).mp q)) (Int.not_le.mpr h1))) (fun _ => ?_)
        refine z_aload_n dX9_soOf_18 rfl rfl ?_
        refine y_getR FX9_7 dX9_soOf_19 rfl hm.o hm.f_a ?_
        refine z_bipush (v := 10) dX9_soOf_22 (by decide) ?_
        refine y_ialN (10) dX9_soOf_24 hm.A_a (Nat.le_of_ble_eq_true rfl) (rfl) (by omega) ?_
        refine z_eqi e10 ?_
        refine z_lload_n dX9_soOf_25 rfl rfl ?_
        refine z_l2i dX9_soOf_26 ?_
        refine z_eqi (show _ = nI k by rw [iL_i, ← nI_i]) ?_
        refine y_callS (as := [_, _]) CX9_has LX9_261 SX9_has dX9_soOf_27 rfl (Nat.le_of_ble_eq_true rfl) (Nat.le_of_ble_eq_true rfl) (by omega) (r_has (n := so) (k := k) (by omega) (by omega)) (rok_z bI_01) ⟨Nat.le_refl _, Nat.le_refl _, hN, hS⟩ ?_
        refine z_if_eq dX9_soOf_30 rfl (fun _ => ?_) (fun c => absurd (bI_eq0.mpr hb) c)
        refine z_lconst (v := 0) dX9_soOf_37 (by decide) ?_
        refine z_lret dX9_soOf_38 ?_
        exact hQ
    · have ez : rawV so 2 x y z = 0 := by
        rw [show rawV so 2 x y z = (if 0 ≤ x ∧ x < 8 then tb (so.testBit x.toNat = true) else 0) from rfl]
        split
        · refine tb_f (fun q => ?_)
          have := Nat.testBit_lt_two_pow (x := so) (i := x.toNat) (Nat.lt_of_lt_of_le hso (Nat.pow_le_pow_right (by omega) (by omega)))
          rw [this] at q
          exact absurd q (by decide)
        · rfl
      rw [ez] at hQ
      refine z_lload_n dX9_soOf_0 rfl rfl ?_
      refine z_lconst (v := 0) dX9_soOf_1 (by decide) ?_
      refine z_lcmp dX9_soOf_2 ?_
      refine z_if_lt dX9_soOf_3 rfl (fun c => absurd c (fun q => absurd ((iL_lt bx b62_0).mp ((lg_cmp_lt _ _).mp q)) (Int.not_lt.mpr h0))) (fun _ => ?_)
      refine z_lload_n dX9_soOf_6 rfl rfl ?_
      refine z_aload_n dX9_soOf_7 rfl rfl ?_
      refine y_getR FX9_7 dX9_soOf_8 rfl hm.o hm.f_a ?_
      refine z_iconst (v := 0) dX9_soOf_11 (by decide) ?_
      refine y_ialN (0) dX9_soOf_12 hm.A_a (Nat.le_of_ble_eq_true rfl) (rfl) (by omega) ?_
      refine z_eqi e0 ?_
      refine z_i2l dX9_soOf_13 ?_
      refine z_eql (show _ = iL (f : Int) by rw [nI_l (by omega), iL_n]) ?_
      refine z_lcmp dX9_soOf_14 ?_
      refine z_if_ge dX9_soOf_15 rfl (fun _ => ?_) (fun c => absurd ((lg_cmp_ge _ _).mpr ((iL_le bf bx).mpr (Int.not_lt.mp h1))) c)
      refine z_lconst (v := 0) dX9_soOf_37 (by decide) ?_
      refine z_lret dX9_soOf_38 ?_
      exact hQ
  · have ez : rawV so 2 x y z = 0 := by
      rw [show rawV so 2 x y z = (if 0 ≤ x ∧ x < 8 then tb (so.testBit x.toNat = true) else 0) from rfl, if_neg (fun q => h0 q.1)]
    rw [ez] at hQ
    refine z_lload_n dX9_soOf_0 rfl rfl ?_
    refine z_lconst (v := 0) dX9_soOf_1 (by decide) ?_
    refine z_lcmp dX9_soOf_2 ?_
    refine z_if_lt dX9_soOf_3 rfl (fun _ => ?_) (fun c => absurd ((lg_cmp_lt _ _).mpr ((iL_lt bx b62_0).mpr (Int.not_le.mp h0))) c)
    refine z_lconst (v := 0) dX9_soOf_37 (by decide) ?_
    refine z_lret dX9_soOf_38 ?_
    exact hQ

