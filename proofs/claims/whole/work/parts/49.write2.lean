/-! the book is written by the class; sell (walks by program: wip/whole/gen49.py) -/
theorem cvB_w {k what much : Nat} (hk : k < 12) (hw : what < 4) (hm : much < 10000) : cvB ((k * 4 + what) * 10000 + much) = (what * 12 + k) * 10000 + much := by
  unfold cvB
  rw [show ((k * 4 + what) * 10000 + much) / 10000 % 4 = what by omega, show ((k * 4 + what) * 10000 + much) / 40000 = k by omega, show ((k * 4 + what) * 10000 + much) % 10000 = much by omega]
/-- a world whose book alone is another one -/
theorem WV.book {h h1 : Hp} {w : Nat} {W W' : Fl} (hv : WV h w W) (fr : ∀ k, w ≤ k → k ≤ w + 4 → pI h1 k = pI h k) (e : ∀ i, i < 93 → i ≠ 5 → W' i = W i) (hc : RwC h1 (w + 5) 2 30 (W' 5)) (hb : ∀ i, i < W' 5 → pI h1 (w + 6) (i * 2) = nI (W' (93 + 2 * i)) ∧ pI h1 (w + 6) (i * 2 + 1) = nI (cvB (W' (94 + 2 * i)))) : WV h1 w W' := by
  obtain ⟨w1, w2, w3, w4, w5, w6, w7, w8, w9⟩ := hv
  have b0 := w4.2.2.2.1
  have b4 := w6.2.2.2.1
  refine ⟨?_, ?_, ?_, ?_, fun i hi => ?_, ?_, fun i hi => ?_, hc, hb⟩
  · rw [fr w (by omega) (by omega), e 1 (by omega) (by omega)]; exact w1
  · rw [fr w (by omega) (by omega), e 2 (by omega) (by omega)]; exact w2
  · rw [fr w (by omega) (by omega), e 3 (by omega) (by omega)]; exact w3
  · rw [e 0 (by omega) (by omega)]; exact w4.fr (fr _ (by omega) (by omega))
  · rw [e 0 (by omega) (by omega)] at hi
    rw [fr _ (by omega) (by omega), e _ (by omega) (by omega)]; exact w5 i hi
  · rw [e 4 (by omega) (by omega)]; exact w6.fr (fr _ (by omega) (by omega))
  · rw [e 4 (by omega) (by omega)] at hi
    rw [fr _ (by omega) (by omega), e _ (by omega) (by omega)]; exact w7 i hi
/-- the eldest entry gone -/
def roomH (h : Hp) (k : Nat) : Hp := sI (sA h (k + 1) (va_cpy (pI h (k + 1)) (pI h (k + 1)) 2 0 58)) k 3 (nI 29)

theorem s_roomY {h : Hp} {d k : Nat} (hR : RwS h k 2 30) (hC : RwC h k 2 30 30) (hd : 1 ≤ d) : Sp d mX4_makeRoom [.ref k] h none (roomH h k) := by
  intro N S Q hN hS hQ
  obtain ⟨hR1, hR2, hR3⟩ := hR
  obtain ⟨h0, h1, h3, h4, h5, h6, h7⟩ := hC
  refine z_aload_n dX4_makeRoom_0 rfl rfl ?_
  refine y_getI FX4_28 dX4_makeRoom_1 (Or.inl rfl) hR1 ?_
  refine z_eqi (show _ = nI 30 by first | exact h3 | (rw [pI_sA_ne (by omega)]; exact h3)) ?_
  refine z_aload_n dX4_makeRoom_4 rfl rfl ?_
  refine y_getI FX4_15 dX4_makeRoom_5 (Or.inl rfl) hR1 ?_
  refine z_eqi (show _ = nI 30 from h0) ?_
  refine z_icmp_lt dX4_makeRoom_8 rfl (fun c => absurd c (by decide)) (fun _ => ?_)
  refine z_aload_n dX4_makeRoom_11 rfl rfl ?_
  refine y_getI FX4_28 dX4_makeRoom_12 (Or.inl rfl) hR1 ?_
  refine z_eqi (show _ = nI 30 by first | exact h3 | (rw [pI_sA_ne (by omega)]; exact h3)) ?_
  refine z_if_le dX4_makeRoom_15 rfl (fun c => absurd c (by decide)) (fun _ => ?_)
  refine z_aload_n dX4_makeRoom_18 rfl rfl ?_
  refine y_getI FX4_21 dX4_makeRoom_19 (Or.inl rfl) hR1 ?_
  refine z_eqi (show _ = nI 2 from h1) ?_
  refine z_aload_n dX4_makeRoom_22 rfl rfl ?_
  refine y_getR FX4_24 dX4_makeRoom_23 rfl hR1 hR2 ?_
  refine y_alen dX4_makeRoom_26 hR3 ⟨Nat.le_of_ble_eq_true rfl, Nat.le_of_ble_eq_true rfl⟩ rfl ?_
  refine z_icmp_gt dX4_makeRoom_27 rfl (fun c => absurd c (by decide)) (fun _ => ?_)
  refine z_aload_n dX4_makeRoom_30 rfl rfl ?_
  refine y_getR FX4_24 dX4_makeRoom_31 rfl hR1 hR2 ?_
  refine z_aload_n dX4_makeRoom_34 rfl rfl ?_
  refine y_getI FX4_21 dX4_makeRoom_35 (Or.inl rfl) hR1 ?_
  refine z_eqi (show _ = nI 2 from h1) ?_
  refine z_aload_n dX4_makeRoom_38 rfl rfl ?_
  refine y_getR FX4_24 dX4_makeRoom_39 rfl hR1 hR2 ?_
  refine z_iconst (v := 0) dX4_makeRoom_42 (by decide) ?_
  refine z_aload_n dX4_makeRoom_43 rfl rfl ?_
  refine y_getR FX4_24 dX4_makeRoom_44 rfl hR1 hR2 ?_
  refine y_alen dX4_makeRoom_47 hR3 ⟨Nat.le_of_ble_eq_true rfl, Nat.le_of_ble_eq_true rfl⟩ rfl ?_
  refine z_aload_n dX4_makeRoom_48 rfl rfl ?_
  refine y_getI FX4_21 dX4_makeRoom_49 (Or.inl rfl) hR1 ?_
  refine z_eqi (show _ = nI 2 from h1) ?_
  refine z_isub dX4_makeRoom_52 ?_
  refine y_copyN 2 0 58 Kcopy_X4_37 dX4_makeRoom_53 (by omega) (Nat.le_of_ble_eq_true rfl) hR3 hR3 rfl rfl rfl (by omega) (by omega) ⟨by omega, by omega⟩ ?_
  refine z_aload_n dX4_makeRoom_56 rfl rfl ?_
  refine z_dup dX4_makeRoom_57 rfl ?_
  refine y_getI FX4_28 dX4_makeRoom_58 (Or.inl rfl) hR1 ?_
  refine z_eqi (show _ = nI 30 by first | exact h3 | (rw [pI_sA_ne (by omega)]; exact h3)) ?_
  refine z_iconst (v := 1) dX4_makeRoom_61 (by decide) ?_
  refine z_isub dX4_makeRoom_62 ?_
  refine y_putI FX4_28 dX4_makeRoom_63 (Or.inl rfl) (Or.inl rfl) hR1 ?_
  refine z_vret dX4_makeRoom_66 ?_
  exact hQ

theorem s_roomN {h : Hp} {d k n : Nat} (hR : RwS h k 2 30) (hC : RwC h k 2 30 n) (hn : n < 30) : Sp d mX4_makeRoom [.ref k] h none h := by
  intro N S Q hN hS hQ
  obtain ⟨hR1, hR2, hR3⟩ := hR
  obtain ⟨h0, h1, h3, h4, h5, h6, h7⟩ := hC
  refine z_aload_n dX4_makeRoom_0 rfl rfl ?_
  refine y_getI FX4_28 dX4_makeRoom_1 (Or.inl rfl) hR1 ?_
  refine z_eqi (y := nI (n)) h3 ?_
  refine z_aload_n dX4_makeRoom_4 rfl rfl ?_
  refine y_getI FX4_15 dX4_makeRoom_5 (Or.inl rfl) hR1 ?_
  refine z_eqi (show _ = nI 30 from h0) ?_
  refine z_icmp_lt dX4_makeRoom_8 rfl (fun _ => ?_) (fun c => absurd ((nI_ltI (by omega) (by omega)).mpr hn) c)
  refine z_vret dX4_makeRoom_66 ?_
  exact hQ

theorem roomH_ne {h : Hp} {k a : Nat} (h1 : a ≠ k) (h2 : a ≠ k + 1) : pI (roomH h k) a = pI h a := by
  unfold roomH
  rw [pI_sI_ne h1, pI_sA_ne h2]
theorem roomH_at {h : Hp} {k j : Nat} (hj : j < 58) : pI (roomH h k) (k + 1) j = pI h (k + 1) (j + 2) := by
  unfold roomH
  rw [pI_sI_ne (by omega), pI_sA, if_pos rfl]
  unfold va_cpy
  rw [if_pos ⟨by omega, by omega⟩]
  congr 1
  omega
theorem WV.room {h : Hp} {w : Nat} {W : Fl} (hv : WV h w W) (h5 : W 5 = 30) : WV (roomH h (w + 5)) w (shB W) := by
  have hv0 := hv
  obtain ⟨w1, w2, w3, w4, w5, w6, w7, w8, w9⟩ := hv
  have b5 : shB W 5 = 29 := by unfold shB; rw [if_pos h5]; rfl
  refine hv0.book (fun k h1 h2 => roomH_ne (by omega) (by omega)) (fun i h1 h2 => shB_o h2 (by omega)) ?_ (fun i hi => ?_)
  · rw [b5]
    obtain ⟨c0, c1, c3, c4, c5, c6, c7⟩ := w8
    unfold roomH RwC
    refine ⟨?_, ?_, ?_, by omega, c5, c6, c7⟩
    · rw [pI_sI, if_pos rfl, if_neg (by omega), pI_sA_ne (by omega)]; exact c0
    · rw [pI_sI, if_pos rfl, if_neg (by omega), pI_sA_ne (by omega)]; exact c1
    · rw [pI_sI, if_pos rfl, if_pos rfl]
  · rw [b5] at hi
    have sh : ∀ j, 93 ≤ j → j < 151 → shB W j = W (j + 2) := fun j h1 h2 => by
      unfold shB
      rw [if_pos h5]
      show (if j = 5 then 29 else cpG W 93 95 58 j) = _
      rw [if_neg (by omega)]
      unfold cpG
      rw [if_pos (by omega)]
      congr 1
      omega
    have := w9 (i + 1) (by omega)
    rw [show w + 6 = w + 5 + 1 by omega, roomH_at (by omega), roomH_at (by omega), sh _ (by omega) (by omega), sh _ (by omega) (by omega)]
    rw [show w + 6 = w + 5 + 1 by omega, show (i + 1) * 2 = i * 2 + 2 by omega] at this
    exact this
/-- one more entry -/
def putH (h : Hp) (w n v1 v2 : Nat) : Hp := sI (sI (growH h (w + 5) 2 n) (w + 5 + 1) (n * 2 + 0) (nI v1)) (w + 5 + 1) (n * 2 + 1) (nI v2)
theorem WV.put {h : Hp} {w v2 : Nat} {W : Fl} (hv : WV h w W) (h5 : W 5 < 30) : WV (putH h w (W 5) (W 1) (cvB v2)) w (up (up (up W (93 + 2 * W 5) (W 1)) (93 + 2 * W 5 + 1) v2) 5 (W 5 + 1)) := by
  have w8 := hv.2.2.2.2.2.2.2.1
  have w9 := hv.2.2.2.2.2.2.2.2
  refine hv.book (fun k h1 h2 => ?_) (fun i h1 h2 => ?_) ?_ (fun i hi => ?_)
  · unfold putH
    rw [pI_sI_ne (by omega), pI_sI_ne (by omega), growH_ne (by omega) (by omega)]
  · rw [up_n h2, up_n (by omega), up_n (by omega)]
  · rw [up_s]
    unfold putH
    exact ((w8.grow h5).fr (pI_sI_ne (by omega))).fr (pI_sI_ne (by omega))
  · rw [up_s] at hi
    unfold putH
    rw [show w + 6 = w + 5 + 1 by omega]
    by_cases hn : i = W 5
    · subst hn
      constructor
      · rw [pI_sI, if_pos rfl, if_neg (by omega), pI_sI, if_pos rfl, if_pos (by omega), up_n (by omega), up_n (by omega), up_s]
      · rw [pI_sI, if_pos rfl, if_pos (by omega), up_n (by omega), show 94 + 2 * W 5 = 93 + 2 * W 5 + 1 by omega, up_s]
    · have := w9 i (by omega)
      constructor
      · rw [pI_sI, if_pos rfl, if_neg (by omega), pI_sI, if_pos rfl, if_neg (by omega), growH_at, if_neg (by omega), up_n (by omega), up_n (by omega), up_n (by omega)]
        exact this.1
      · rw [pI_sI, if_pos rfl, if_neg (by omega), pI_sI, if_pos rfl, if_neg (by omega), growH_at, if_neg (by omega), up_n (by omega), up_n (by omega), up_n (by omega)]
        exact this.2
theorem WV.wr {h : Hp} {w v2 : Nat} {W : Fl} (hv : WV h w W) (h5 : W 5 ≤ 30) : WV (if W 5 = 30 then putH (roomH h (w + 5)) w 29 (W 1) (cvB v2) else putH h w (W 5) (W 1) (cvB v2)) w (wBook W v2) := by
  unfold wBook
  by_cases hc : W 5 = 30
  · have b5 : shB W 5 = 29 := by unfold shB; rw [if_pos hc]; rfl
    have b1 : shB W 1 = W 1 := shB_o (by omega) (by omega)
    have := WV.put (v2 := v2) (hv.room hc) (by omega)
    rw [if_pos hc]
    rw [b5, b1] at this
    rw [b5]
    exact this
  · have eB : shB W = W := by unfold shB; rw [if_neg hc]
    rw [if_neg hc, eB]
    exact hv.put (by omega)

theorem c_write {h : Hp} {d w : Nat} {W : Fl} (hw : WoS h w) (hv : WV h w W) {k what much : Nat} (hk : k < 12) (hwh : what < 4) (hmu : much < 10000) (hd : 3 ≤ d) : ∃ h1, Sp d mX7_write [.ref w, .int (nI what), .int (nI k), .int (nI much)] h none h1 ∧ WV h1 w (wWrite W k what much) ∧ FR w (w + 6) h h1 := by
  have h5 := hv.2.2.2.2.2.2.2.1.2.2.2.1
  refine ⟨_, ?_, hv.wr h5, ?_⟩
  · rw [cvB_w hk hwh hmu]
    intro N S Q hN hS hQ
    by_cases hc : W 5 = 30
    · rw [if_pos hc] at hQ hN hS
      have b1 : shB W 1 = W 1 := shB_o (by omega) (by omega)
      have b5 : shB W 5 = 29 := by unfold shB; rw [if_pos hc]; rfl
      have hC : RwC (roomH h (w + 5)) (w + 5) 2 30 29 := by rw [← b5]; exact (hv.room hc).2.2.2.2.2.2.2.1
      have hC0 : RwC h (w + 5) 2 30 30 := by have := hv.2.2.2.2.2.2.2.1; rw [hc] at this; exact this
      have tr : SS h (roomH h (w + 5)) := rfl
      refine z_aload_n dX7_write_0 rfl rfl ?_
      refine y_getR FX7_27 dX7_write_1 rfl hw.1 hw.2.2.2.2.2.1 ?_
      refine y_callV (as := []) CX4_makeRoom LX7_81 IX4_makeRoom VX4_makeRoom ⟨rfl, Nat.le_of_ble_eq_true rfl⟩ dX7_write_4 hw.2.2.2.2.2.2.1 rfl (Nat.le_of_ble_eq_true rfl) (Nat.le_of_ble_eq_true rfl) (by omega) (s_roomY (d := 2) (by exact hw.2.2.2.2.2.2) hC0 (by omega)) rok_v ⟨Nat.le_refl _, Nat.le_refl _, hN, hS⟩ ?_
      refine z_aload_n dX7_write_7 rfl rfl ?_
      refine y_getR FX7_27 dX7_write_8 rfl hw.1 hw.2.2.2.2.2.1 ?_
      refine y_callV (as := []) CX4_grow LX7_84 IX4_grow VX4_grow ⟨rfl, Nat.le_of_ble_eq_true rfl⟩ dX7_write_11 hw.2.2.2.2.2.2.1 rfl (Nat.le_of_ble_eq_true rfl) (Nat.le_of_ble_eq_true rfl) (by omega) (s_grow (w := 2) (ms := 30) (n := 29) (d := 2) (by exact hw.2.2.2.2.2.2) hC (by omega) (Nat.le_refl _)) rok_i ⟨Nat.le_refl _, Nat.le_refl _, hN, hS⟩ ?_
      refine z_istore dX7_write_14 (Nat.le_of_ble_eq_true rfl) ?_
      refine z_aload_n dX7_write_16 rfl rfl ?_
      refine y_getR FX7_27 dX7_write_17 rfl hw.1 hw.2.2.2.2.2.1 ?_
      refine z_iload dX7_write_20 rfl ?_
      refine z_iconst (v := 0) dX7_write_22 (by decide) ?_
      refine z_aload_n dX7_write_23 rfl rfl ?_
      refine y_getI FX7_30 dX7_write_24 (Or.inl rfl) hw.1 ?_
      refine z_eqi (show _ = nI (W 1) by rw [growH_ne (by omega) (by omega)]; exact (hv.room hc).1.trans (by rw [b1])) ?_
      refine y_callV (as := [_, _, _]) CX4_set LX7_71 IX4_set VX4_set ⟨rfl, Nat.le_of_ble_eq_true rfl⟩ dX7_write_27 hw.2.2.2.2.2.2.1 rfl (Nat.le_of_ble_eq_true rfl) (Nat.le_of_ble_eq_true rfl) (by omega) (s_set (w := 2) (ms := 30) (n := 29 + 1) (i := 29) (j := 0) (by exact hw.2.2.2.2.2.2) (hC.grow (by omega)) (by omega) (by omega)) rok_v ⟨Nat.le_refl _, Nat.le_refl _, hN, hS⟩ ?_
      refine z_aload_n dX7_write_30 rfl rfl ?_
      refine y_getR FX7_27 dX7_write_31 rfl hw.1 hw.2.2.2.2.2.1 ?_
      refine z_iload dX7_write_34 rfl ?_
      refine z_iconst (v := 1) dX7_write_36 (by decide) ?_
      refine z_iload_n dX7_write_37 rfl rfl ?_
      refine z_bipush (v := 12) dX7_write_38 (by decide) ?_
      refine z_imul dX7_write_40 ?_
      refine z_iload_n dX7_write_41 rfl rfl ?_
      refine z_iadd dX7_write_42 ?_
      refine z_sipush (v := 10000) dX7_write_43 (by decide) ?_
      refine z_imul dX7_write_46 ?_
      refine z_iload_n dX7_write_47 rfl rfl ?_
      refine z_iadd dX7_write_48 ?_
      refine z_eqi (show _ = nI ((what * 12 + k) * 10000 + much) by simp only [← nI_add, ← pk_mul]; rfl) ?_
      refine y_callV (as := [_, _, _]) CX4_set LX7_71 IX4_set VX4_set ⟨rfl, Nat.le_of_ble_eq_true rfl⟩ dX7_write_49 hw.2.2.2.2.2.2.1 rfl (Nat.le_of_ble_eq_true rfl) (Nat.le_of_ble_eq_true rfl) (by omega) (s_set (w := 2) (ms := 30) (n := 29 + 1) (i := 29) (j := 1) (by exact hw.2.2.2.2.2.2) ((hC.grow (by omega)).fr (pI_sI_ne (by omega))) (by omega) (by omega)) rok_v ⟨Nat.le_refl _, Nat.le_refl _, hN, hS⟩ ?_
      refine z_vret dX7_write_52 ?_
      exact hQ
    · rw [if_neg hc] at hQ hN hS
      have hC : RwC h (w + 5) 2 30 (W 5) := hv.2.2.2.2.2.2.2.1
      refine z_aload_n dX7_write_0 rfl rfl ?_
      refine y_getR FX7_27 dX7_write_1 rfl hw.1 hw.2.2.2.2.2.1 ?_
      refine y_callV (as := []) CX4_makeRoom LX7_81 IX4_makeRoom VX4_makeRoom ⟨rfl, Nat.le_of_ble_eq_true rfl⟩ dX7_write_4 hw.2.2.2.2.2.2.1 rfl (Nat.le_of_ble_eq_true rfl) (Nat.le_of_ble_eq_true rfl) (by omega) (s_roomN (d := 2) (by exact hw.2.2.2.2.2.2) hC (by omega)) rok_v ⟨Nat.le_refl _, Nat.le_refl _, hN, hS⟩ ?_
      refine z_aload_n dX7_write_7 rfl rfl ?_
      refine y_getR FX7_27 dX7_write_8 rfl hw.1 hw.2.2.2.2.2.1 ?_
      refine y_callV (as := []) CX4_grow LX7_84 IX4_grow VX4_grow ⟨rfl, Nat.le_of_ble_eq_true rfl⟩ dX7_write_11 hw.2.2.2.2.2.2.1 rfl (Nat.le_of_ble_eq_true rfl) (Nat.le_of_ble_eq_true rfl) (by omega) (s_grow (w := 2) (ms := 30) (n := (W 5)) (d := 2) (by exact hw.2.2.2.2.2.2) hC (by omega) (Nat.le_refl _)) rok_i ⟨Nat.le_refl _, Nat.le_refl _, hN, hS⟩ ?_
      refine z_istore dX7_write_14 (Nat.le_of_ble_eq_true rfl) ?_
      refine z_aload_n dX7_write_16 rfl rfl ?_
      refine y_getR FX7_27 dX7_write_17 rfl hw.1 hw.2.2.2.2.2.1 ?_
      refine z_iload dX7_write_20 rfl ?_
      refine z_iconst (v := 0) dX7_write_22 (by decide) ?_
      refine z_aload_n dX7_write_23 rfl rfl ?_
      refine y_getI FX7_30 dX7_write_24 (Or.inl rfl) hw.1 ?_
      refine z_eqi (show _ = nI (W 1) by rw [growH_ne (by omega) (by omega)]; exact hv.1) ?_
      refine y_callV (as := [_, _, _]) CX4_set LX7_71 IX4_set VX4_set ⟨rfl, Nat.le_of_ble_eq_true rfl⟩ dX7_write_27 hw.2.2.2.2.2.2.1 rfl (Nat.le_of_ble_eq_true rfl) (Nat.le_of_ble_eq_true rfl) (by omega) (s_set (w := 2) (ms := 30) (n := (W 5) + 1) (i := (W 5)) (j := 0) (by exact hw.2.2.2.2.2.2) (hC.grow (by omega)) (by omega) (by omega)) rok_v ⟨Nat.le_refl _, Nat.le_refl _, hN, hS⟩ ?_
      refine z_aload_n dX7_write_30 rfl rfl ?_
      refine y_getR FX7_27 dX7_write_31 rfl hw.1 hw.2.2.2.2.2.1 ?_
      refine z_iload dX7_write_34 rfl ?_
      refine z_iconst (v := 1) dX7_write_36 (by decide) ?_
      refine z_iload_n dX7_write_37 rfl rfl ?_
      refine z_bipush (v := 12) dX7_write_38 (by decide) ?_
      refine z_imul dX7_write_40 ?_
      refine z_iload_n dX7_write_41 rfl rfl ?_
      refine z_iadd dX7_write_42 ?_
      refine z_sipush (v := 10000) dX7_write_43 (by decide) ?_
      refine z_imul dX7_write_46 ?_
      refine z_iload_n dX7_write_47 rfl rfl ?_
      refine z_iadd dX7_write_48 ?_
      refine z_eqi (show _ = nI ((what * 12 + k) * 10000 + much) by simp only [← nI_add, ← pk_mul]; rfl) ?_
      refine y_callV (as := [_, _, _]) CX4_set LX7_71 IX4_set VX4_set ⟨rfl, Nat.le_of_ble_eq_true rfl⟩ dX7_write_49 hw.2.2.2.2.2.2.1 rfl (Nat.le_of_ble_eq_true rfl) (Nat.le_of_ble_eq_true rfl) (by omega) (s_set (w := 2) (ms := 30) (n := (W 5) + 1) (i := (W 5)) (j := 1) (by exact hw.2.2.2.2.2.2) ((hC.grow (by omega)).fr (pI_sI_ne (by omega))) (by omega) (by omega)) rok_v ⟨Nat.le_refl _, Nat.le_refl _, hN, hS⟩ ?_
      refine z_vret dX7_write_52 ?_
      exact hQ
  · by_cases hc : W 5 = 30
    · rw [if_pos hc]
      unfold putH roomH
      exact ((((FR.rf.sA (by omega)).sI (by omega)).grow (by omega)).sI (by omega)).sI (by omega)
    · rw [if_neg hc]
      unfold putH
      exact ((FR.rf.grow (by omega)).sI (by omega)).sI (by omega)

