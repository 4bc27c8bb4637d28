/-! a world is taken from another; worlds within the flat row (walks by program: wip/whole/gen37.py) -/
theorem WV.cg2 {h : Hp} {w : Nat} {W W' : Fl} (hw : WV h w W) (e0 : ∀ i, i < 6 → W i = W' i) (e1 : ∀ i, i < W 0 * 3 → W (6 + i) = W' (6 + i)) (e2 : ∀ i, i < W 4 * 6 → W (21 + i) = W' (21 + i)) (e3 : ∀ i, i < W 5 * 2 → W (93 + i) = W' (93 + i)) : WV h w W' := by
  obtain ⟨w1, w2, w3, w4, w5, w6, w7, w8, w9⟩ := hw
  refine ⟨by rw [← e0 1 (by omega)]; exact w1, by rw [← e0 2 (by omega)]; exact w2, by rw [← e0 3 (by omega)]; exact w3, by rw [← e0 0 (by omega)]; exact w4, ?_, by rw [← e0 4 (by omega)]; exact w6, ?_, by rw [← e0 5 (by omega)]; exact w8, ?_⟩
  · rw [← e0 0 (by omega)]
    intro i hi
    rw [w5 i hi, e1 i hi]
  · rw [← e0 4 (by omega)]
    intro i hi
    rw [w7 i hi, e2 i hi]
  · rw [← e0 5 (by omega)]
    intro i hi
    have a1 := e3 (2 * i) (by omega)
    have a2 := e3 (2 * i + 1) (by omega)
    rw [(w9 i hi).1, (w9 i hi).2, a1, show 94 + 2 * i = 93 + (2 * i + 1) by omega, a2]
    exact ⟨rfl, rfl⟩
/-- the world W taken over V, of the first kp prophets those that V does not know stay -/
def tkF (W V : Fl) (kp : Nat) : Fl := fun i => if i = 0 then max kp (V 0) else if 6 + 3 * V 0 ≤ i ∧ i < 21 then W i else V i
theorem FR.take {lo hi k k2 w n2 m : Nat} {h h1 : Hp} (hf : FR lo hi h h1) (hk : lo ≤ k ∧ k + 1 ≤ hi) : FR lo hi h (takeH h1 k k2 w n2 m) := ⟨hf.1.tr takeH_ss, hf.2.1, fun j hj => by rw [takeH_ne (by omega) (by omega)]; exact hf.2.2 j hj⟩

theorem c_take {h : Hp} {d w v kp : Nat} {W V : Fl} (hw : WoS h w) (hv : WV h w W) (gw : WoS h v) (gv : WV h v V) (hkp : kp ≤ 5) (hkW : kp ≤ W 0) (hne : v + 6 < w ∨ w + 6 < v) (hd : 2 ≤ d) : ∃ h1, Sp d mX7_take [.ref w, .ref v, .int (nI kp)] h none h1 ∧ WV h1 w (tkF W V kp) ∧ FR w (w + 6) h h1 := by
  refine ⟨takeH (takeH (takeH (sI (sI (sI h w 0 (pI h v 0)) w 1 (pI (sI h w 0 (pI h v 0)) v 1)) w 2 (pI (sI (sI h w 0 (pI h v 0)) w 1 (pI (sI h w 0 (pI h v 0)) v 1)) v 2)) (w + 1) (v + 1) 3 (V 0) (max kp (V 0))) (w + 3) (v + 3) 6 (V 4) (max 0 (V 4))) (w + 5) (v + 5) 2 (V 5) (max 0 (V 5)), ?_, ?_, ?_⟩
  · intro N S Q hN hS hQ
    refine z_aload_n dX7_take_0 rfl rfl ?_
    refine z_aload_n dX7_take_1 rfl rfl ?_
    refine y_getI FX7_30 dX7_take_2 (Or.inl rfl) gw.1 ?_
    refine y_putI FX7_30 dX7_take_5 (Or.inl rfl) (Or.inl rfl) hw.1 ?_
    refine z_aload_n dX7_take_8 rfl rfl ?_
    refine z_aload_n dX7_take_9 rfl rfl ?_
    refine y_getI FX7_9 dX7_take_10 (Or.inl rfl) gw.1 ?_
    refine y_putI FX7_9 dX7_take_13 (Or.inl rfl) (Or.inl rfl) hw.1 ?_
    refine z_aload_n dX7_take_16 rfl rfl ?_
    refine z_aload_n dX7_take_17 rfl rfl ?_
    refine y_getI FX7_33 dX7_take_18 (Or.inl rfl) gw.1 ?_
    refine y_putI FX7_33 dX7_take_21 (Or.inl rfl) (Or.inl rfl) hw.1 ?_
    refine z_aload_n dX7_take_24 rfl rfl ?_
    refine y_getR FX7_20 dX7_take_25 rfl hw.1 hw.2.1 ?_
    refine z_aload_n dX7_take_28 rfl rfl ?_
    refine y_getR FX7_20 dX7_take_29 rfl gw.1 gw.2.1 ?_
    refine z_iload_n dX7_take_32 rfl rfl ?_
    refine y_callV (as := [_, _]) CX4_take LX7_36 IX4_take VX4_take ⟨rfl, Nat.le_of_ble_eq_true rfl⟩ dX7_take_33 hw.2.2.1.1 rfl (Nat.le_of_ble_eq_true rfl) (Nat.le_of_ble_eq_true rfl) (by omega) (s_take (k := w + 1) (k2 := v + 1) (w := 3) (ms := 5) (n := W 0) (n2 := V 0) (kp := kp) (by exact hw.2.2.1) (RwC.fr hv.2.2.2.1 (by (repeat (first | rw [takeH_ne (by omega) (by omega)] | rw [pI_sI_ne (by omega)])))) (by exact gw.2.2.1) (RwC.fr gv.2.2.2.1 (by (repeat (first | rw [takeH_ne (by omega) (by omega)] | rw [pI_sI_ne (by omega)])))) (by omega) ⟨by omega, by omega⟩ (by omega)) rok_v ⟨Nat.le_refl _, Nat.le_refl _, hN, hS⟩ ?_
    refine z_aload_n dX7_take_36 rfl rfl ?_
    refine y_getR FX7_24 dX7_take_37 rfl hw.1 hw.2.2.2.1 ?_
    refine z_aload_n dX7_take_40 rfl rfl ?_
    refine y_getR FX7_24 dX7_take_41 rfl gw.1 gw.2.2.2.1 ?_
    refine z_iconst (v := 0) dX7_take_44 (by decide) ?_
    refine y_callV (as := [_, _]) CX4_take LX7_36 IX4_take VX4_take ⟨rfl, Nat.le_of_ble_eq_true rfl⟩ dX7_take_45 hw.2.2.2.2.1.1 rfl (Nat.le_of_ble_eq_true rfl) (Nat.le_of_ble_eq_true rfl) (by omega) (s_take (k := w + 3) (k2 := v + 3) (w := 6) (ms := 12) (n := W 4) (n2 := V 4) (kp := 0) (by exact hw.2.2.2.2.1) (RwC.fr hv.2.2.2.2.2.1 (by (repeat (first | rw [takeH_ne (by omega) (by omega)] | rw [pI_sI_ne (by omega)])))) (by exact gw.2.2.2.2.1) (RwC.fr gv.2.2.2.2.2.1 (by (repeat (first | rw [takeH_ne (by omega) (by omega)] | rw [pI_sI_ne (by omega)])))) (by omega) ⟨by omega, by omega⟩ (by omega)) rok_v ⟨Nat.le_refl _, Nat.le_refl _, hN, hS⟩ ?_
    refine z_aload_n dX7_take_48 rfl rfl ?_
    refine y_getR FX7_27 dX7_take_49 rfl hw.1 hw.2.2.2.2.2.1 ?_
    refine z_aload_n dX7_take_52 rfl rfl ?_
    refine y_getR FX7_27 dX7_take_53 rfl gw.1 gw.2.2.2.2.2.1 ?_
    refine z_iconst (v := 0) dX7_take_56 (by decide) ?_
    refine y_callV (as := [_, _]) CX4_take LX7_36 IX4_take VX4_take ⟨rfl, Nat.le_of_ble_eq_true rfl⟩ dX7_take_57 hw.2.2.2.2.2.2.1 rfl (Nat.le_of_ble_eq_true rfl) (Nat.le_of_ble_eq_true rfl) (by omega) (s_take (k := w + 5) (k2 := v + 5) (w := 2) (ms := 30) (n := W 5) (n2 := V 5) (kp := 0) (by exact hw.2.2.2.2.2.2) (RwC.fr hv.2.2.2.2.2.2.2.1 (by (repeat (first | rw [takeH_ne (by omega) (by omega)] | rw [pI_sI_ne (by omega)])))) (by exact gw.2.2.2.2.2.2) (RwC.fr gv.2.2.2.2.2.2.2.1 (by (repeat (first | rw [takeH_ne (by omega) (by omega)] | rw [pI_sI_ne (by omega)])))) (by omega) ⟨by omega, by omega⟩ (by omega)) rok_v ⟨Nat.le_refl _, Nat.le_refl _, hN, hS⟩ ?_
    refine z_vret dX7_take_60 ?_
    exact hQ
  · obtain ⟨w1, w2, w3, w4, w5, w6, w7, w8, w9⟩ := hv
    obtain ⟨v1, v2, v3, v4, v5, v6, v7, v8, v9⟩ := gv
    have b0 := v4.2.2.2.1
    have b4 := v6.2.2.2.1
    have b5 := v8.2.2.2.1
    have f1 : ∀ i, i ≠ 0 → i < 6 → tkF W V kp i = V i := fun i hi h6 => by unfold tkF; rw [if_neg hi, if_neg (by omega)]
    have f2 : ∀ i, 21 ≤ i → tkF W V kp i = V i := fun i hi => by unfold tkF; rw [if_neg (by omega), if_neg (by omega)]
    have f0 : tkF W V kp 0 = max kp (V 0) := rfl
    refine ⟨?_, ?_, ?_, ?_, ?_, ?_, ?_, ?_, ?_⟩
    · rw [takeH_ne (by omega) (by omega), takeH_ne (by omega) (by omega), takeH_ne (by omega) (by omega), pI_sI, if_pos rfl, if_neg (by omega), pI_sI, if_pos rfl, if_neg (by omega), pI_sI, if_pos rfl, if_pos rfl, f1 1 (by omega) (by omega)]; exact v1
    · rw [takeH_ne (by omega) (by omega), takeH_ne (by omega) (by omega), takeH_ne (by omega) (by omega), pI_sI, if_pos rfl, if_neg (by omega), pI_sI, if_pos rfl, if_pos rfl, pI_sI_ne (by omega), f1 2 (by omega) (by omega)]; exact v2
    · rw [takeH_ne (by omega) (by omega), takeH_ne (by omega) (by omega), takeH_ne (by omega) (by omega), pI_sI, if_pos rfl, if_pos rfl, pI_sI_ne (by omega), pI_sI_ne (by omega), f1 3 (by omega) (by omega)]; exact v3
    · refine RwC.fr (takeH_c (h := (sI (sI (sI h w 0 (pI h v 0)) w 1 (pI (sI h w 0 (pI h v 0)) v 1)) w 2 (pI (sI (sI h w 0 (pI h v 0)) w 1 (pI (sI h w 0 (pI h v 0)) v 1)) v 2))) (k2 := v + 1) (n2 := V 0) (n := W 0) (RwC.fr w4 (by (repeat (first | rw [takeH_ne (by omega) (by omega)] | rw [pI_sI_ne (by omega)])))) ?_) ?_
      · rw [f0]; omega
      · rw [takeH_ne (by omega) (by omega), takeH_ne (by omega) (by omega), f0]
    · intro i hi
      rw [f0] at hi
      rw [takeH_ne (by omega) (by omega), takeH_ne (by omega) (by omega), show w + 2 = w + 1 + 1 by omega, takeH_at]
      unfold tkF
      rw [if_neg (show ¬ 6 + i = 0 by omega)]
      by_cases hj : i < V 0 * 3
      · rw [if_pos hj, if_neg (show ¬ (6 + 3 * V 0 ≤ 6 + i ∧ 6 + i < 21) by omega), pI_sI_ne (by omega), pI_sI_ne (by omega), pI_sI_ne (by omega)]
        exact v5 i hj
      · rw [if_neg hj, if_pos (show 6 + 3 * V 0 ≤ 6 + i ∧ 6 + i < 21 by omega), pI_sI_ne (by omega), pI_sI_ne (by omega), pI_sI_ne (by omega)]
        exact w5 i (by omega)
    · refine RwC.fr (takeH_c (h := (takeH (sI (sI (sI h w 0 (pI h v 0)) w 1 (pI (sI h w 0 (pI h v 0)) v 1)) w 2 (pI (sI (sI h w 0 (pI h v 0)) w 1 (pI (sI h w 0 (pI h v 0)) v 1)) v 2)) (w + 1) (v + 1) 3 (V 0) (max kp (V 0)))) (k2 := v + 3) (n2 := V 4) (n := W 4) (RwC.fr w6 (by (repeat (first | rw [takeH_ne (by omega) (by omega)] | rw [pI_sI_ne (by omega)])))) ?_) ?_
      · rw [f1 4 (by omega) (by omega)]; exact b4
      · rw [takeH_ne (by omega) (by omega), f1 4 (by omega) (by omega), Nat.max_eq_right (Nat.zero_le _)]
    · intro i hi
      rw [f1 4 (by omega) (by omega)] at hi
      rw [takeH_ne (by omega) (by omega), show w + 4 = w + 3 + 1 by omega, takeH_at, if_pos hi, takeH_ne (by omega) (by omega), pI_sI_ne (by omega), pI_sI_ne (by omega), pI_sI_ne (by omega), f2 _ (by omega)]
      exact v7 i hi
    · refine RwC.fr (takeH_c (h := (takeH (takeH (sI (sI (sI h w 0 (pI h v 0)) w 1 (pI (sI h w 0 (pI h v 0)) v 1)) w 2 (pI (sI (sI h w 0 (pI h v 0)) w 1 (pI (sI h w 0 (pI h v 0)) v 1)) v 2)) (w + 1) (v + 1) 3 (V 0) (max kp (V 0))) (w + 3) (v + 3) 6 (V 4) (max 0 (V 4)))) (k2 := v + 5) (n2 := V 5) (n := W 5) (RwC.fr w8 (by (repeat (first | rw [takeH_ne (by omega) (by omega)] | rw [pI_sI_ne (by omega)])))) ?_) ?_
      · rw [f1 5 (by omega) (by omega)]; exact b5
      · rw [f1 5 (by omega) (by omega), Nat.max_eq_right (Nat.zero_le (V 5))]
    · intro i hi
      rw [f1 5 (by omega) (by omega)] at hi
      rw [show w + 6 = w + 5 + 1 by omega, takeH_at, takeH_at, if_pos (by omega), if_pos (by omega), takeH_ne (by omega) (by omega), takeH_ne (by omega) (by omega), pI_sI_ne (by omega), pI_sI_ne (by omega), pI_sI_ne (by omega), f2 _ (by omega), f2 _ (by omega)]
      exact v9 i hi
  · exact ((((((FR.rf.sI (by omega)).sI (by omega)).sI (by omega)).take (by omega)).take (by omega)).take (by omega))

/-- all of it -/
theorem c_take0 {h : Hp} {d w v : Nat} {W V : Fl} (hw : WoS h w) (hv : WV h w W) (gw : WoS h v) (gv : WV h v V) (hne : v + 6 < w ∨ w + 6 < v) (hd : 2 ≤ d) : ∃ h1, Sp d mX7_take [.ref w, .ref v, .int 0] h none h1 ∧ WV h1 w V ∧ FR w (w + 6) h h1 := by
  obtain ⟨h1, s1, s2, s3⟩ := c_take hw hv gw gv (Nat.zero_le 5) (Nat.zero_le _) hne hd
  have b0 := gv.2.2.2.1.2.2.2.1
  have t0 : tkF W V 0 0 = V 0 := by unfold tkF; rw [if_pos rfl]; omega
  have f1 : ∀ i, i ≠ 0 → i < 6 + V 0 * 3 → tkF W V 0 i = V i := fun i hi h6 => by unfold tkF; rw [if_neg hi, if_neg (by omega)]
  have f2 : ∀ i, 21 ≤ i → tkF W V 0 i = V i := fun i hi => by unfold tkF; rw [if_neg (by omega), if_neg (by omega)]
  refine ⟨h1, s1, s2.cg2 (fun i hi => ?_) (fun i hi => ?_) (fun i _ => f2 _ (by omega)) (fun i _ => f2 _ (by omega)), s3⟩
  · by_cases h0 : i = 0
    · subst h0; exact t0
    · exact f1 i h0 (by omega)
  · rw [t0] at hi
    exact f1 _ (by omega) (by omega)

theorem c_pastAt {h : Hp} {d b n : Nat} (hs : MkS h b) (hn : n < 2 ^ 31) : Sp d mX1_pastAt [.ref b, .int (nI n)] h (some (.ref (b + 18 + 7 * (n % 30)))) h := by
  intro N S Q hN hS hQ
  have hlt : n % 30 < 30 := Nat.mod_lt _ (by omega)
  refine z_iload_n dX1_pastAt_0 rfl rfl ?_
  refine z_bipush (v := 30) dX1_pastAt_1 (by decide) ?_
  refine z_irem dX1_pastAt_3 (by decide) ?_
  refine z_eqi (pk_rem (a := n) (d := 30) (by omega) (by omega) (by omega)) ?_
  refine z_istore_n dX1_pastAt_4 rfl (Nat.le_of_ble_eq_true rfl) ?_
  refine z_iload_n dX1_pastAt_5 rfl rfl ?_
  refine z_if_lt dX1_pastAt_6 rfl (fun c => absurd c (nI_pos (by omega))) (fun _ => ?_)
  refine z_iload_n dX1_pastAt_9 rfl rfl ?_
  refine z_aload_n dX1_pastAt_10 rfl rfl ?_
  refine y_getR FX1_18 dX1_pastAt_11 rfl hs.o hs.f1 ?_
  refine y_alen dX1_pastAt_14 hs.past ⟨Nat.le_of_ble_eq_true rfl, Nat.le_of_ble_eq_true rfl⟩ rfl ?_
  refine z_icmp_ge dX1_pastAt_15 rfl (fun c => absurd c (fun q => absurd ((nI_leI (a := 30) (by omega) (by omega)).mp q) (by omega))) (fun _ => ?_)
  refine z_aload_n dX1_pastAt_18 rfl rfl ?_
  refine y_getR FX1_18 dX1_pastAt_19 rfl hs.o hs.f1 ?_
  refine z_iload_n dX1_pastAt_22 rfl rfl ?_
  refine y_aaldW (x := b + 18 + 7 * (n % 30)) dX1_pastAt_23 hs.past (vp_in_nI (by omega) (by omega)) (by rw [nI_clamp (by omega)]; exact hs.w (by omega)) ?_
  refine z_goto dX1_pastAt_24 rfl ?_
  refine z_aret dX1_pastAt_28 ?_
  exact hQ

theorem rok_o {t : FieldType} {x : Nat} (ht : isR t = true) : rok (some t) (some (.ref x)) := ⟨_, rfl, ht⟩
/-- where the world's numbers lie in the flat row -/
def wx (j : Nat) : Nat := if j = 0 then 1 else if j < 6 then 7 + j else if j < 21 then 13 + 5 * ((j - 6) / 3) + (j - 6) % 3 else if j < 93 then 38 + (j - 21) else 4810 + (j - 93)
theorem snap_wx {a : Fl} {j : Nat} : snap a j = a (wx j) := by
  unfold snap wx
  split
  · rfl
  · split
    · rfl
    · split
      · rfl
      · split <;> rfl
/-- the flat row with another world in it -/
def uns (a W : Fl) : Fl := fun i => if i = 1 then W 0 else if 8 ≤ i ∧ i < 13 then W (i - 7) else if 13 ≤ i ∧ i < 38 ∧ (i - 13) % 5 < 3 then W (6 + 3 * ((i - 13) / 5) + (i - 13) % 5) else if 38 ≤ i ∧ i < 110 then W (21 + (i - 38)) else if 4810 ≤ i ∧ i < 4870 then W (93 + (i - 4810)) else a i
theorem uns_wx {a W : Fl} {j : Nat} (hj : j < 153) : uns a W (wx j) = W j := by
  unfold uns wx
  by_cases h0 : j = 0
  · subst h0; rfl
  · rw [if_neg h0]
    by_cases h6 : j < 6
    · rw [if_pos h6, if_neg (by omega), if_pos (by omega)]; congr 1; omega
    · rw [if_neg h6]
      by_cases h21 : j < 21
      · have hm := Nat.mod_lt (j - 6) (show 0 < 3 by omega)
        rw [if_pos h21, if_neg (by omega), if_neg (by omega), if_pos ⟨by omega, by omega, by omega⟩]
        congr 1
        omega
      · rw [if_neg h21]
        by_cases h93 : j < 93
        · rw [if_pos h93, if_neg (by omega), if_neg (by omega), if_neg (by omega), if_pos (by omega)]; congr 1; omega
        · rw [if_neg h93, if_neg (by omega), if_neg (by omega), if_neg (by omega), if_neg (by omega), if_pos (by omega)]; exact congrArg W (by omega)
theorem uns_out {a W : Fl} {i : Nat} (h : ∀ j, j < 153 → i ≠ wx j) : uns a W i = a i := by
  unfold uns
  rw [if_neg (show ¬ i = 1 from fun q => h 0 (by omega) q), if_neg (fun q => h (i - 7) (by omega) (by unfold wx; rw [if_neg (by omega), if_pos (by omega)]; omega)), if_neg ?_, if_neg (fun q => h (i - 17) (by omega) (by unfold wx; rw [if_neg (by omega), if_neg (by omega), if_neg (by omega), if_pos (by omega)]; omega)), if_neg (fun q => h (i - 4717) (by omega) (by unfold wx; rw [if_neg (by omega), if_neg (by omega), if_neg (by omega), if_neg (by omega)]; omega))]
  intro q
  have hm := Nat.mod_lt (i - 13) (show 0 < 5 by omega)
  refine h (6 + 3 * ((i - 13) / 5) + (i - 13) % 5) (by omega) ?_
  unfold wx
  rw [if_neg (by omega), if_neg (by omega), if_pos (by omega)]
  omega
theorem wx_inj {i j : Nat} (hi : i < 153) (hj : j < 153) (h : wx i = wx j) : i = j := by
  have e := uns_wx (a := fun _ => 0) (W := fun k => k) hi
  rw [h, uns_wx hj] at e
  exact e.symm
theorem uns_snap {a : Fl} : uns a (snap a) = a := by
  funext i
  by_cases h : ∃ j, j < 153 ∧ i = wx j
  · obtain ⟨j, hj, rfl⟩ := h
    rw [uns_wx hj, snap_wx]
  · exact uns_out (fun j hj q => h ⟨j, hj, q⟩)
theorem snap_uns {a W : Fl} {j : Nat} (hj : j < 153) : snap (uns a W) j = W j := by rw [snap_wx, uns_wx hj]
theorem uns_up {a W : Fl} {j v : Nat} (hj : j < 153) : up (uns a W) (wx j) v = uns a (up W j v) := by
  funext i
  by_cases h : ∃ k, k < 153 ∧ i = wx k
  · obtain ⟨k, hk, rfl⟩ := h
    rw [uns_wx hk]
    by_cases hkj : k = j
    · subst hkj; rw [up_s, up_s]
    · rw [up_n hkj, up_n (fun q => hkj (wx_inj hk hj q)), uns_wx hk]
  · have h' : ∀ k, k < 153 → i ≠ wx k := fun k hk q => h ⟨k, hk, q⟩
    rw [up_n (h' j hj), uns_out h', uns_out h']
theorem uns_uns {a W V : Fl} : uns (uns a W) V = uns a V := by
  funext i
  by_cases h : ∃ k, k < 153 ∧ i = wx k
  · obtain ⟨k, hk, rfl⟩ := h
    rw [uns_wx hk, uns_wx hk]
  · have h' : ∀ k, k < 153 → i ≠ wx k := fun k hk q => h ⟨k, hk, q⟩
    rw [uns_out h', uns_out h', uns_out h']
theorem uns_cg {a W V : Fl} (h : ∀ j, j < 153 → W j = V j) : uns a W = uns a V := by
  funext i
  by_cases h1 : ∃ k, k < 153 ∧ i = wx k
  · obtain ⟨k, hk, rfl⟩ := h1
    rw [uns_wx hk, uns_wx hk, h k hk]
  · have h' : ∀ k, k < 153 → i ≠ wx k := fun k hk q => h1 ⟨k, hk, q⟩
    rw [uns_out h', uns_out h']
theorem wx_p {p k : Nat} (hp : p < 5) (hk : k < 3) : wx (6 + 3 * p + k) = 13 + 5 * p + k := by
  unfold wx
  rw [if_neg (by omega), if_neg (by omega), if_pos (by omega)]
  omega
theorem wx_c {i : Nat} (hi : i < 72) : wx (21 + i) = 38 + i := by
  unfold wx
  rw [if_neg (by omega), if_neg (by omega), if_neg (by omega), if_pos (by omega)]
  omega
theorem wx_b {i : Nat} : wx (93 + i) = 4810 + i := by
  unfold wx
  rw [if_neg (by omega), if_neg (by omega), if_neg (by omega), if_neg (by omega)]
  omega
theorem wx_s {i : Nat} (h0 : 0 < i) (hi : i < 6) : wx i = 7 + i := by
  unfold wx
  rw [if_neg (by omega), if_pos (by omega)]
theorem wx_lt {j : Nat} (hj : j < 153) : wx j < 4870 ∧ wx j ≠ 3 := by
  unfold wx
  split
  · omega
  · split
    · omega
    · split
      · omega
      · split <;> omega

