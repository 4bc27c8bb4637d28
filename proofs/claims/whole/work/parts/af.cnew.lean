/-! the class makes a text, reads one (wip/whole/genaf.py) -/
def rowsH (h : Hp) (k ms w : Nat) : Hp := sR (nw (sI (sI h k 0 (nI ms)) k 1 (nI w)) 10 (ms * w)) k 2 (some (pn h))
theorem s_rowsI {h : Hp} {d k ms w : Nat} (ho : IO h 4 k) (h1 : ms ≤ 30) (h2 : w ≤ 6) (hd : 1 ≤ d) : Sp d mX4_init [.ref k, .int (nI ms), .int (nI w)] h none (rowsH h k ms w) := by
  have sm := rows_small h1 h2
  intro N S Q hN hS hQ
  have hN : pn h + 1 ≤ N := hN
  have hS : ps h + ms * w ≤ S := hS
  have hk := ho.2.1
  refine z_aload_n dX4_init_0 rfl rfl ?_
  refine z_objInit Kobj_X4_3 Kobj_instanceMethod Kobj_code dX4_init_1 (by omega) (Nat.le_of_ble_eq_true rfl) ?_
  refine z_aload_n dX4_init_4 rfl rfl ?_
  refine z_iconst (v := 0) dX4_init_5 (by decide) ?_
  refine z_iload_n dX4_init_6 rfl rfl ?_
  refine z_mmax Kmax_X4_9 Kmax_static Kini_Math Kmax_code dX4_init_7 (by omega) (Nat.le_of_ble_eq_true rfl) ?_
  refine z_eqi (show _ = nI ms from max0_nI (by omega)) ?_
  refine y_putI FX4_15 dX4_init_10 (by first | exact Or.inl rfl | exact Or.inr ⟨rfl, rfl⟩) (Or.inl rfl) ho ?_
  refine z_aload_n dX4_init_13 rfl rfl ?_
  refine z_iconst (v := 0) dX4_init_14 (by decide) ?_
  refine z_iload_n dX4_init_15 rfl rfl ?_
  refine z_mmax Kmax_X4_9 Kmax_static Kini_Math Kmax_code dX4_init_16 (by omega) (Nat.le_of_ble_eq_true rfl) ?_
  refine z_eqi (show _ = nI w from max0_nI (by omega)) ?_
  refine y_putI FX4_21 dX4_init_19 (by first | exact Or.inl rfl | exact Or.inr ⟨rfl, rfl⟩) (Or.inl rfl) ho ?_
  refine z_aload_n dX4_init_22 rfl rfl ?_
  refine z_aload_n dX4_init_23 rfl rfl ?_
  refine y_getI FX4_15 dX4_init_24 (Or.inl rfl) ho ?_
  refine z_eqi (show _ = nI ms by rw [pI_sI, if_pos rfl, if_neg (by omega), pI_sI, if_pos rfl, if_pos rfl]) ?_
  refine z_aload_n dX4_init_27 rfl rfl ?_
  refine y_getI FX4_21 dX4_init_28 (Or.inl rfl) ho ?_
  refine z_eqi (show _ = nI w by rw [pI_sI, if_pos rfl, if_pos rfl]) ?_
  refine z_imul dX4_init_31 ?_
  refine z_eqi (pk_mul ms w) ?_
  refine z_newI (m0 := ms * w) dX4_init_32 Karr_int (nI_pos (by omega)) (nI_clamp (by omega)) (by omega) hN hS ?_
  refine y_putR FX4_24 dX4_init_34 (by first | exact Or.inl rfl | exact Or.inr ⟨rfl, rfl⟩) rfl (EX.nw.O (h := sI (sI h k 0 (nI ms)) k 1 (nI w)) ho) ?_
  refine z_vret dX4_init_37 ?_
  exact hQ

def textH (h : Hp) (x : Nat) : Hp := (sR (sR (sR (sR (rowsH (nw h 4 (nC 4)) (pn h) 24 6) x 0 (some (pn h))) x 1 (some 0)) x 2 (some 0)) x 3 (some 0))
theorem textH_n {h : Hp} {x : Nat} : pn (textH h x) = pn h + 2 ∧ ps (textH h x) = ps h + nC 4 + 144 := ⟨rfl, rfl⟩
theorem ex_rows {h : Hp} {k ms w : Nat} : EX h (rowsH h k ms w) := ⟨Nat.le_succ _, fun a ha => by show pK (nw (sI (sI h k 0 (nI ms)) k 1 (nI w)) 10 (ms * w)) a = _; rw [pK_nw, if_neg (by show ¬ a = pn h; omega)]; rfl⟩
theorem ex_text {h : Hp} {x : Nat} : EX h (textH h x) := (EX.nw (h := h) (c := 4) (n := nC 4)).tr (ex_rows (h := (nw h 4 (nC 4))) (k := pn h) (ms := 24) (w := 6))
theorem s_textI {h : Hp} {d x : Nat} (ho : IO h 5 x) (hd : 2 ≤ d) : Sp d mX5_init [.ref x] h none (textH h x) := by
  have hn8 : 8 ≤ pn h := by have := ho.1; have := ho.2.1; omega
  have o1 : IO (nw h 4 (nC 4)) 4 (pn h) := ⟨hn8, Nat.lt_succ_self _, by show (pK (nw h 4 (nC 4)) (pn h)).1 = 4; rw [pK_nw, if_pos rfl]⟩
  intro N S Q hN hS hQ
  have hN : pn h + 2 ≤ N := hN
  have hS : ps h + nC 4 + 144 ≤ S := hS
  have ox : IO (rowsH (nw h 4 (nC 4)) (pn h) 24 6) 5 x := ex_rows.O (EX.nw.O ho)
  refine z_aload_n dX5_init_0 rfl rfl ?_
  refine z_objInit Kobj_X5_3 Kobj_instanceMethod Kobj_code dX5_init_1 (by omega) (Nat.le_of_ble_eq_true rfl) ?_
  refine z_aload_n dX5_init_4 rfl rfl ?_
  refine z_new NX5_9 dX5_init_5 (by omega) (by omega) ?_
  refine z_dup dX5_init_8 rfl ?_
  refine z_bipush (v := 24) dX5_init_9 (by decide) ?_
  refine z_bipush (v := 6) dX5_init_11 (by decide) ?_
  refine y_callI (as := [_, _]) CX4_init LX5_11 IX4_init rfl rfl dX5_init_13 rfl (Nat.le_of_ble_eq_true rfl) (Nat.le_of_ble_eq_true rfl) (by omega) (s_rowsI (d := 1) (ms := 24) (w := 6) o1 (by omega) (by omega) (Nat.le_refl _)) ⟨Nat.le_succ _, Nat.le_add_right _ _, hN, hS⟩ ?_
  refine y_putR FX5_14 dX5_init_16 (by first | exact Or.inl rfl | exact Or.inr ⟨rfl, rfl⟩) rfl ox ?_
  refine z_aload_n dX5_init_19 rfl rfl ?_
  refine z_noLaw Kno_X5_20 dX5_init_20 ?_
  refine y_putR FX5_24 dX5_init_23 (by first | exact Or.inl rfl | exact Or.inr ⟨rfl, rfl⟩) rfl ox ?_
  refine z_aload_n dX5_init_26 rfl rfl ?_
  refine z_noLaw Kno_X5_20 dX5_init_27 ?_
  refine y_putR FX5_27 dX5_init_30 (by first | exact Or.inl rfl | exact Or.inr ⟨rfl, rfl⟩) rfl ox ?_
  refine z_aload_n dX5_init_33 rfl rfl ?_
  refine z_noLaw Kno_X5_20 dX5_init_34 ?_
  refine y_putR FX5_30 dX5_init_37 (by first | exact Or.inl rfl | exact Or.inr ⟨rfl, rfl⟩) rfl ox ?_
  refine z_vret dX5_init_40 ?_
  exact hQ
/-- what a new text is -/
theorem text_I {h : Hp} {x k : Nat} (h1 : k ≠ pn h) (h2 : k ≠ pn h + 1) : pI (textH h x) k = pI h k := by
  show pI (nw (sI (sI (nw h 4 (nC 4)) (pn h) 0 (nI 24)) (pn h) 1 (nI 6)) 10 (24 * 6)) k = pI h k
  rw [pI_nw, if_neg (by show ¬ k = pn h + 1; omega), pI_sI_ne h1, pI_sI_ne h1, pI_nw, if_neg h1]
theorem text_J {h : Hp} {x k : Nat} (h1 : k ≠ pn h) (h2 : k ≠ pn h + 1) : pJ (textH h x) k = pJ h k := by
  show pJ (nw (sI (sI (nw h 4 (nC 4)) (pn h) 0 (nI 24)) (pn h) 1 (nI 6)) 10 (24 * 6)) k = pJ h k
  rw [pJ_nw, if_neg (by show ¬ k = pn h + 1; omega)]
  show pJ (nw h 4 (nC 4)) k = pJ h k
  rw [pJ_nw, if_neg h1]
theorem text_R {h : Hp} {x k : Nat} (h0 : k ≠ x) (h1 : k ≠ pn h) (h2 : k ≠ pn h + 1) : pR (textH h x) k = pR h k := by
  unfold textH
  rw [pR_sR_ne h0, pR_sR_ne h0, pR_sR_ne h0, pR_sR_ne h0]
  unfold rowsH
  rw [pR_sR_ne h1, pR_nw, if_neg (by show ¬ k = pn h + 1; omega)]
  show pR (nw h 4 (nC 4)) k = pR h k
  rw [pR_nw, if_neg h1]
theorem text_sh {h : Hp} (h5 : 501 ≤ pn h) (z0 : I0 h 0) : DSh (textH (nw h 5 (nC 5)) (pn h)) (pn h) 0 [] ∧ DLw (textH (nw h 5 (nC 5)) (pn h)) (pn h) [] := by
  have on : IO (nw h 5 (nC 5)) 5 (pn h) := ⟨by omega, Nat.lt_succ_self _, by rw [pK_nw, if_pos rfl]⟩
  have pn1 : pn (nw h 5 (nC 5)) = pn h + 1 := rfl
  have o4 : IO (textH (nw h 5 (nC 5)) (pn h)) 4 (pn h + 1) := by
    refine (ex_rows (h := nw (nw h 5 (nC 5)) 4 (nC 4)) (k := pn h + 1) (ms := 24) (w := 6)).O (h1 := rowsH (nw (nw h 5 (nC 5)) 4 (nC 4)) (pn h + 1) 24 6) ⟨by omega, Nat.lt_succ_self _, ?_⟩
    rw [pK_nw]
    exact congrArg Prod.fst (if_pos rfl)
  refine ⟨⟨h5, ex_text.O on, ?_, ⟨o4, ?_, ⟨by omega, Nat.lt_succ_self _, ?_⟩⟩, ⟨?_, ?_, ?_, by omega, by omega, by omega, by omega⟩, Nat.le_refl _, fun k q hk => by cases hk⟩, fun s hs => ⟨0, ?_, Or.inr ⟨rfl, rfl, ex_text.Z (EX.nw.Z z0)⟩⟩⟩
  · unfold textH
    rw [pR_sR_s, if_neg (by omega), pR_sR_s, if_neg (by omega), pR_sR_s, if_neg (by omega), pR_sR_s, if_pos rfl]
    rfl
  · unfold textH
    rw [pR_sR_ne (by omega), pR_sR_ne (by omega), pR_sR_ne (by omega), pR_sR_ne (by omega)]
    unfold rowsH
    rw [pR_sR, if_pos rfl]
    exact if_pos rfl
  · show pK (nw (sI (sI (nw (nw h 5 (nC 5)) 4 (nC 4)) (pn h + 1) 0 (nI 24)) (pn h + 1) 1 (nI 6)) 10 (24 * 6)) (pn h + 1 + 1) = _
    rw [pK_nw]
    exact if_pos rfl
  · show pI (nw (sI (sI (nw (nw h 5 (nC 5)) 4 (nC 4)) (pn h + 1) 0 (nI 24)) (pn h + 1) 1 (nI 6)) 10 (24 * 6)) (pn h + 1) 0 = _
    rw [pI_nw, if_neg (by show ¬ pn h + 1 = pn h + 2; omega), pI_sI, if_pos rfl, if_neg (by omega), pI_sI, if_pos rfl, if_pos rfl]
  · show pI (nw (sI (sI (nw (nw h 5 (nC 5)) 4 (nC 4)) (pn h + 1) 0 (nI 24)) (pn h + 1) 1 (nI 6)) 10 (24 * 6)) (pn h + 1) 1 = _
    rw [pI_nw, if_neg (by show ¬ pn h + 1 = pn h + 2; omega), pI_sI, if_pos rfl, if_pos rfl]
  · show pI (nw (sI (sI (nw (nw h 5 (nC 5)) 4 (nC 4)) (pn h + 1) 0 (nI 24)) (pn h + 1) 1 (nI 6)) 10 (24 * 6)) (pn h + 1) 3 = _
    rw [pI_nw, if_neg (by show ¬ pn h + 1 = pn h + 2; omega), pI_sI, if_pos rfl, if_neg (by omega), pI_sI, if_pos rfl, if_neg (by omega), pI_nw]
    exact congrFun (if_pos rfl) 3
  · unfold textH
    have sc : s = 0 ∨ s = 1 ∨ s = 2 := by omega
    rcases sc with rfl | rfl | rfl
    · rw [pR_sR_s, if_neg (by omega), pR_sR_s, if_neg (by omega), pR_sR_s, if_pos rfl]
    · rw [pR_sR_s, if_neg (by omega), pR_sR_s, if_pos rfl]
    · rw [pR_sR_s, if_pos rfl]
theorem sg_le (c : Nat) : sgK c ≤ 53 := (sg_ne c).2.1
theorem tK_le {tp : Fl} {n j : Nat} : tK tp n j ≤ 54 := by
  show tkK tp n (tP tp n j) ≤ 54
  unfold tkK
  split
  · exact Nat.le_refl _
  · split
    · have := kdW_le (tp := tp) (p := tP tp n j) (e := rnF isL tp n (tP tp n j))
      omega
    · split
      · omega
      · split
        · split <;> omega
        · have := sg_le (tp (tP tp n j)); omega
abbrev wNt (tp : Fl) (n : Nat) : Nat → Nat := fun i => nmR tp (tP tp n i) (tkE tp n (tP tp n i) - tP tp n i)
theorem TK4.ct {h0 h : Hp} {tp : Fl} {n m : Nat} (q : TK4 h0 tp n (m + 1) h) (cr : CR h0) (n3 : n ≤ 300) (mn : m ≤ n) (k5 : tK tp n m = 54) : CT h (tK tp n) (wNt tp n) m := by
  refine ⟨q.cr cr, q.2.2.2.2.1, by omega, fun j hj => (q.2.2.2.2.2 j (by omega)).1, fun j hj => ?_, fun j hj w => ?_, fun j => tK_le⟩
  · have up : ∀ r, tK tp n (m + r) = 54 := by
      intro r
      induction r with
      | zero => exact k5
      | succ r ih => exact tK_stay ih
    have := up (j - m)
    rw [show m + (j - m) = j by omega] at this
    exact this
  · rw [(q.2.2.2.2.2 j (by omega)).2.1 w, nmC_R]

