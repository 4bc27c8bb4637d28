/-! the reference reads laws and what stands behind a clause's word (wip/whole/gena7.py) -/
theorem rp_of {s : Ms} {t : Nat} {tf : Nat → Int32} {i w on : Nat} {h : Hp} {so1 : Nat} (q : RTs s t tf i w (nI so1) on h) : RP (wTf s tf) t w so1 i [] 0 0 [] (sI (sI (sI h 488 16 0) 488 17 0) 488 18 0) := by
  refine ⟨tf, rm_f (rm_f (rm_f q.1 (by omega)) (by omega)) (by omega), fun j y hy => (by cases hy), fun _ _ => rfl, q.2.1.fr (fun j q1 q2 => by rw [pI_sI, if_pos rfl, if_neg (by omega), pI_sI, if_pos rfl, if_neg (by omega), pI_sI, if_pos rfl, if_neg (by omega)]) rfl, ?_, ?_, ?_, ?_, ?_, ?_, True.intro⟩
  · rw [pI_sI, if_pos rfl, if_neg (by omega), pI_sI, if_pos rfl, if_neg (by omega), pI_sI, if_pos rfl, if_neg (by omega)]; exact q.2.2.1
  · rw [pI_sI, if_pos rfl, if_neg (by omega), pI_sI, if_pos rfl, if_neg (by omega), pI_sI, if_pos rfl, if_neg (by omega)]; exact q.2.2.2.1
  · rw [pI_sI, if_pos rfl, if_neg (by omega), pI_sI, if_pos rfl, if_neg (by omega), pI_sI, if_pos rfl, if_neg (by omega)]; exact q.2.2.2.2.1
  · rw [pI_sI, if_pos rfl, if_neg (by omega), pI_sI, if_pos rfl, if_neg (by omega), pI_sI, if_pos rfl, if_pos rfl]; rfl
  · rw [pI_sI, if_pos rfl, if_neg (by omega), pI_sI, if_pos rfl, if_pos rfl]; rfl
  · rw [pI_sI, if_pos rfl, if_pos rfl]; rfl
theorem sm_start2 {s : Ms} {t : Nat} {tf : Nat → Int32} {i w on : Nat} {h : Hp} {d : Nat} {N S : Nat} {Q : Option Value → Hp → Prop} {so1 : Nat} (q : RTs s t tf i w (nI so1) on h) (k : GO h d N S Q (wTf s tf) t w so1 i [] 0 0 []) : T d N S mX9_summed 0 (lap mX9_summed [.ref 488]) [] h Q := by
  have hm := q.1.m
  have f1 : FQ h (sI (sI (sI h 488 16 0) 488 17 0) 488 18 0) := ((FQ.rf.f (by omega)).f (by omega)).f (by omega)
  refine z_aload_n dX9_summed_0 rfl rfl ?_
  refine z_iconst (v := 0) dX9_summed_1 (by decide) ?_
  refine y_putI FX9_153 dX9_summed_2 (Or.inl rfl) (Or.inl rfl) hm.o ?_
  refine z_aload_n dX9_summed_5 rfl rfl ?_
  refine z_iconst (v := 0) dX9_summed_6 (by decide) ?_
  refine y_putI FX9_163 dX9_summed_7 (Or.inl rfl) (Or.inl rfl) hm.o ?_
  refine z_aload_n dX9_summed_10 rfl rfl ?_
  refine z_iconst (v := 0) dX9_summed_11 (by decide) ?_
  refine y_putI FX9_203 dX9_summed_12 (Or.inl rfl) (Or.inr ⟨rfl, by decide⟩) hm.o ?_
  exact k _ none (rp_of q) f1
/-- what comes of a sum -/
def SMD (s : Ms) (t : Nat) (tf : Nat → Int32) (w so1 on : Nat) (h : Hp) (z j : Nat) (e : Cd) (r : Option Value) (h' : Hp) : Prop := r = some (.int (nI z)) ∧ FQ h h' ∧ ∃ tf1 c, RTs s t tf1 j (w + c.length) (nI so1) on h' ∧ (∀ a, (a < 753 * t + 145 + 2 * w ∨ 753 * t + 753 ≤ a) → tf1 a = tf a) ∧ (z = 0 → c = e ∧ EM tf1 t w e)
theorem SMD.of {s : Ms} {t : Nat} {tf : Nat → Int32} {i w so1 on : Nat} {h h' : Hp} {z j op wh : Nat} {ro : List Nat} {e c : Cd} (q : RTs s t tf i w (nI so1) on h) (rp : RP (wTf s tf) t w so1 j ro op wh c h') (f : FQ h h') (hz : z = 0 → c = e) : SMD s t tf w so1 on h z j e (some (.int (nI z))) h' := by
  obtain ⟨tf1, hr, em, fr, nt, e12, e13, e14, _⟩ := rp
  exact ⟨rfl, f, tf1, c, ⟨hr, nt, e12, e13, e14, by rw [f.2.2.1 19 (by omega)]; exact q.2.2.2.2.2⟩, fr, fun w0 => ⟨hz w0, by rw [← hz w0]; exact em⟩⟩
theorem r_sum2 {s : Ms} {t : Nat} {tf : Nat → Int32} {i w on : Nat} {h : Hp} {d : Nat} {so1 n f z j : Nat} {e : Cd} (q : RTs s t tf i w (nI so1) on h) (ht : ITp s) (ht4 : t < 4) (hK : ∀ j, (tK (TPs s) (TNs s)) j < 53 → j < n) (n3 : n ≤ 300) (hso : so1 ≤ 9) (hw : w ≤ i) (hi : i ≤ n) (hr : rdK s so1 f 3 0 i [] = some (z, j, e)) (hd : 6 ≤ d) : Sq d mX9_summed [.ref 488] h (SMD s t tf w so1 on h z j e) := by
  intro N S Q hN hS hQ
  have cx : CXr h d N S (wTf s tf) t so1 n := ⟨ht, ht4, hN, hS, hd, hK, n3, hso⟩
  obtain ⟨f1, f2, f3, f4⟩ := rd_f (s := wTf s tf) hK (by omega) hi (pre_t (by omega)) hr
  have f3 : e.length + i ≤ 0 + j := f3
  have kF : z ≠ 0 → FLT h Q (wTf s tf) t w so1 z j := fun z0 h' ro op wh c rp f => hQ _ _ (SMD.of q rp f (fun w0 => absurd w0 z0))
  have kD : z = 0 → DNE h Q (wTf s tf) t w so1 j e := fun z0 h' op rp f => by
    have := SMD.of (z := z) (e := e) q rp f (fun _ => rfl)
    rw [z0] at this
    have h2 := hQ
    rw [z0] at h2
    exact h2 _ _ this
  refine sm_start2 q ((a_all (h0 := h) (Q := Q) (w0 := w) cx f).2.2.2.1 [] 0 i [] z j e ⟨by show w + 0 + 0 ≤ i; omega, hi, Nat.le_refl _, by omega⟩ (by show 0 ≤ _; omega) True.intro True.intro (fun _ q => q) hr kF (fun z0 => ?_))
  have st : STP 3 ((tK (TPs s) (TNs s)) j) := f4 z0
  have st4 : (tK (TPs s) (TNs s)) j ≠ 44 ∧ (tK (TPs s) (TNs s)) j ≠ 45 ∧ (tK (TPs s) (TNs s)) j ≠ 46 ∧ (tK (TPs s) (TNs s)) j ≠ 47 := by unfold STP at st; omega
  intro p c' h1 h2 h3 h4 h5
  have h1' : ∀ x ∈ p, 1 ≤ rk x ∧ rk x ≤ 6 := fun x hx => ⟨by have := (h1 x hx).1; omega, (h1 x hx).2⟩
  have ovp : opV (p ++ []) = -1 := opV_lo p [] h1'
  have el : (p ++ ([] : List Nat)).length = p.length + 0 := List.length_append ..
  have ec : c'.length + p.length = e.length := by rw [← h5, List.length_append, List.length_map]
  have h3 : p.length + 0 ≤ 6 * (0 + nOp p) + 6 := h3
  exact go_d (s := wTf s tf) ht (btw_n st4 (by rw [ovp]; decide)) (by rw [ovp]; rfl) (by rw [ovp]; decide) (by rw [stl_lag (l := 1) (ro := []) True.intro p c' h1', h5]) ht4 (by omega) (by omega) (by rw [nOp_app]; show nOp p + 0 ≤ 0 + nOp p; omega) (by omega) hN hS hd (kD z0)

/-- what comes of a law -/
def LWD (s : Ms) (t : Nat) (tf : Nat → Int32) (x w so1 on : Nat) (h : Hp) (z j : Nat) (e : Cd) (r : Option Value) (h' : Hp) : Prop := r = some (.int (nI z)) ∧ ∃ tf1 w1, RTs s t tf1 j w1 (nI so1) on h' ∧ FR4 h h' ∧ (∀ a, (a < x + 1 ∨ (x + 6 ≤ a ∧ (a < 753 * t + 145 + 2 * w ∨ 753 * t + 753 ≤ a))) → tf1 a = tf a) ∧ (z = 0 → w1 = w + e.length ∧ tf1 (x + 1) = nI w ∧ tf1 (x + 2) = nI (w + e.length) ∧ EM tf1 t w e)
theorem r_lawC {s : Ms} {t : Nat} {tf : Nat → Int32} {i w on : Nat} {h : Hp} {d : Nat} {so1 n f z j x : Nat} {e : Cd} (q : RTs s t tf i w (nI so1) on h) (ht : ITp s) (ht4 : t < 4) (hK : ∀ j, (tK (TPs s) (TNs s)) j < 53 → j < n) (n3 : n ≤ 300) (hso : so1 ≤ 9) (hw : w ≤ i) (hi : i ≤ n) (hx : 753 * t ≤ x ∧ x + 6 ≤ 753 * t + 145) (hr : rdK s so1 f 3 0 i [] = some (z, j, e)) (hd : 7 ≤ d) : Sq d mX9_lawClause [.ref 488, .int (nI x)] h (LWD s t tf x w so1 on h z j e) := by
  have hm := q.1.m
  have q1 := q.wr (x + 1) (nI w)
  have sq := r_sum2 (d := 6) q1 ht ht4 hK n3 hso hw hi hr (Nat.le_refl _)
  intro N S Q hN hS hQ
  refine z_aload_n dX9_lawClause_0 rfl rfl ?_
  refine y_getR FX9_16 dX9_lawClause_1 rfl hm.o hm.f_texts ?_
  refine z_iload_n dX9_lawClause_4 rfl rfl ?_
  refine z_iconst (v := 1) dX9_lawClause_5 (by decide) ?_
  refine z_iadd dX9_lawClause_6 ?_
  refine z_eqi (nI_1 x) ?_
  refine z_aload_n dX9_lawClause_7 rfl rfl ?_
  refine y_getI FX9_147 dX9_lawClause_8 (Or.inl rfl) hm.o ?_
  refine z_eqi (y := nI (w)) q.2.2.2.1 ?_
  refine y_iasN (x + 1) dX9_lawClause_11 hm.A_texts (Nat.le_of_ble_eq_true rfl) (rfl) (by omega) ?_
  refine z_aload_n dX9_lawClause_12 rfl rfl ?_
  refine y_callVQ (as := []) CX9_summed LX9_228 IX9_summed VX9_summed ⟨rfl, (Nat.le_of_ble_eq_true rfl)⟩ dX9_lawClause_13 hm.o rfl (Nat.le_of_ble_eq_true rfl) (Nat.le_of_ble_eq_true rfl) (by omega) sq (fun r h2 p2 => ⟨by rw [p2.1]; exact rok_i, p2.2.1.1⟩) ?_
  intro r h2 p2
  obtain ⟨rfl, f2, tf1, c, q2, g2, e2⟩ := p2
  have hm2 := q2.1.m
  have q3 := q2.wr (x + 2) (nI (w + c.length))
  have f3 : FR4 h (sI h2 491 (x + 2) (nI (w + c.length))) := ((FR4.rf.i (Or.inr rfl)).tr f2.x).i (Or.inr rfl)
  have fin := hQ (some (.int (nI z))) _ ⟨rfl, _, _, q3, f3, fun a ha => by rw [upT_n (by omega), g2 a (by omega), upT_n (by omega)], fun z0 => by
    obtain ⟨rfl, em⟩ := e2 z0
    refine ⟨rfl, ?_, upT_s, fun k y hy => ?_⟩
    · rw [upT_n (by omega), g2 _ (by omega)]; exact upT_s
    · rw [upT_n (by omega), upT_n (by omega)]; exact em k y hy⟩
  refine z_istore_n dX9_lawClause_16 rfl (Nat.le_of_ble_eq_true rfl) ?_
  refine z_aload_n dX9_lawClause_17 rfl rfl ?_
  refine y_getR FX9_16 dX9_lawClause_18 rfl hm2.o hm2.f_texts ?_
  refine z_iload_n dX9_lawClause_21 rfl rfl ?_
  refine z_iconst (v := 2) dX9_lawClause_22 (by decide) ?_
  refine z_iadd dX9_lawClause_23 ?_
  refine z_eqi (show _ = nI (x + 2) from nI_add x 2) ?_
  refine z_aload_n dX9_lawClause_24 rfl rfl ?_
  refine y_getI FX9_147 dX9_lawClause_25 (Or.inl rfl) hm2.o ?_
  refine z_eqi (y := nI (w + c.length)) q2.2.2.2.1 ?_
  refine y_iasN (x + 2) dX9_lawClause_28 hm2.A_texts (Nat.le_of_ble_eq_true rfl) (rfl) (by omega) ?_
  refine z_iload_n dX9_lawClause_29 rfl rfl ?_
  refine z_iret dX9_lawClause_30 ?_
  exact fin

/-- what comes of what stands behind a clause's word -/
def BDD (s : Ms) (t : Nat) (tf : Nat → Int32) (x w so1 on : Nat) (h : Hp) (y : Nat × Nat × List Nat × Cd) (r : Option Value) (h' : Hp) : Prop := r = some (.int (nI y.1)) ∧ ∃ tf1 w1, RTs s t tf1 y.2.1 w1 (nI so1) on h' ∧ FR4 h h' ∧ (∀ a, (a < x + 1 ∨ (x + 6 ≤ a ∧ (a < 753 * t + 145 + 2 * w ∨ 753 * t + 753 ≤ a))) → tf1 a = tf a) ∧ (y.1 = 0 → w1 = w + y.2.2.2.length ∧ (∀ c v, y.2.2.1[c]? = some v → tf1 (x + 1 + c) = nI v) ∧ (so1 ≤ 2 → tf1 (x + 1) = nI w ∧ tf1 (x + 2) = nI (w + y.2.2.2.length) ∧ EM tf1 t w y.2.2.2))
theorem bar_of {s : Ms} {t : Nat} {tf : Nat → Int32} {w on : Nat} {so : Int32} {h : Hp} {d : Nat} {x : Nat} {M : Mi} {as : List Value} {y : Nat × Nat × List Nat} (hl : y.2.2.length ≤ 5) (a : ∃ h1, Sp d M as h (some (.int (nI y.1))) h1 ∧ RTs s t (wrN tf (x + 1) y.2.2) y.2.1 w so on h1 ∧ FR4 h h1) : BAr s t tf x w so on d M as h y := by
  obtain ⟨h1, s1, q1, f1⟩ := a
  exact ⟨h1, _, s1, q1, f1, fun j hj => wrN_n _ _ _ (by omega), fun _ c v hc => wrN_y _ _ _ _ hc⟩
theorem bdd_of {s : Ms} {t : Nat} {tf : Nat → Int32} {w on : Nat} {h : Hp} {d : Nat} {x so1 : Nat} {M : Mi} {as : List Value} {y : Nat × Nat × List Nat} {y' : Nat × Nat × List Nat × Cd} (h3 : 3 ≤ so1) (ey : y' = (y.1, y.2.1, y.2.2, [])) (a : BAr s t tf x w (nI so1) on d M as h y) : ∃ h1, Sp d M as h (some (.int (nI y'.1))) h1 ∧ SS h h1 ∧ BDD s t tf x w so1 on h y' (some (.int (nI y'.1))) h1 := by
  obtain ⟨h1, tf1, s1, q1, f1, g1, n1⟩ := a
  subst ey
  exact ⟨h1, s1, f1.1, rfl, tf1, w, q1, f1, fun a ha => g1 a (by omega), fun z0 => ⟨rfl, fun c v hc => n1 z0 c v hc, fun h2 => absurd h2 (by omega)⟩⟩
theorem rdA_ln {K W : Nat → Nat} {lo hi i : Nat} {r : List (Nat × Nat × Nat)} : (rdA K W lo hi r i).2.2.length ≤ 1 + r.length := by
  have y1 := rdA_1 (K := K) (W := W) (lo := lo) (hi := hi) (i := i)
  rw [rdA_c]
  split
  · exact Nat.le_trans rdW_ln (by omega)
  · omega

theorem rdA_l2 {K W : Nat → Nat} {lo hi i : Nat} {u : Nat × Nat × Nat} : (rdA K W lo hi [u] i).2.2.length ≤ 5 := Nat.le_trans rdA_ln (by show 1 + 1 ≤ 5; omega)
theorem rdA_l3 {K W : Nat → Nat} {lo hi i : Nat} {u v : Nat × Nat × Nat} : (rdA K W lo hi [u, v] i).2.2.length ≤ 5 := Nat.le_trans rdA_ln (by show 1 + 2 ≤ 5; omega)
theorem rdA_l0 {K W : Nat → Nat} {lo hi i : Nat} : (rdA K W lo hi [] i).2.2.length ≤ 5 := Nat.le_trans rdA_ln (by show 1 + 0 ≤ 5; omega)
theorem r_bodyA {s : Ms} {t : Nat} {tf : Nat → Int32} {i w on : Nat} {h : Hp} {d : Nat} {so1 x : Nat} (q : RTs s t tf i w (nI so1) on h) (ht : ITp s) (hso : 3 ≤ so1 ∧ so1 ≤ 9) (hx : x + 6 < 3012) (hd : 6 ≤ d) : Sq d mX9_body [.ref 488, .int (nI so1), .int (nI x)] h (BDD s t tf x w so1 on h (rdB (tK (TPs s) (TNs s)) (wN s) so1 i)) := by
  have hm := q.1.m
  have sc : so1 = 3 ∨ so1 = 4 ∨ so1 = 5 ∨ so1 = 6 ∨ so1 = 7 ∨ so1 = 8 ∨ so1 = 9 := by omega
  rcases sc with rfl | rfl | rfl | rfl | rfl | rfl | rfl
  · obtain ⟨h1, s1, f1, b1⟩ := bdd_of (y' := (rdB (tK (TPs s) (TNs s)) (wN s) 3 i)) (by omega) rfl (bar_of rdA_l2 (r_pair (d := 4) (x := x) (hi := 10) (hi2 := 99) (v := 1668248436) (k := 11) q ht (fun p => wd_11 (ht.b p)) (by omega) (by omega) (by omega) (Nat.le_refl _)))
    intro N S Q hN hS hQ
    refine z_iload_n dX9_body_0 rfl rfl ?_
    refine z_tableIn (off := 43) (tgt := 44) dX9_body_1 (by decide) (by decide) rfl rfl ?_
    refine z_aload_n dX9_body_44 rfl rfl ?_
    refine z_iload_n dX9_body_45 rfl rfl ?_
    refine z_bipush (v := 10) dX9_body_46 (by decide) ?_
    refine z_bipush (v := 99) dX9_body_48 (by decide) ?_
    refine z_bipush (v := 111) dX9_body_50 (by decide) ?_
    refine z_bipush (v := 115) dX9_body_52 (by decide) ?_
    refine z_bipush (v := 116) dX9_body_54 (by decide) ?_
    refine y_callS (as := [_, _, _, _]) CX9_w4 LX9_136 SX9_w4 dX9_body_56 rfl (Nat.le_of_ble_eq_true rfl) (Nat.le_of_ble_eq_true rfl) (by omega) (r_w4 (d := 2) (a0 := 99) (a1 := 111) (a2 := 115) (a3 := 116) (by omega) (by omega) (by omega) (by omega) (Nat.le_refl _)) rok_l ⟨Nat.le_refl _, Nat.le_refl _, hN, hS⟩ ?_
    refine z_eql (show _ = lN 1668248436 from rfl) ?_
    refine z_bipush (v := 99) dX9_body_59 (by decide) ?_
    refine y_callV (as := [_, _, _, _]) CX9_pair LX9_238 IX9_pair VX9_pair ⟨rfl, Nat.le_of_ble_eq_true rfl⟩ dX9_body_61 hm.o rfl (Nat.le_of_ble_eq_true rfl) (Nat.le_of_ble_eq_true rfl) (by omega) s1 rok_i (hg_ss f1 hN hS) ?_
    refine z_iret dX9_body_64 ?_
    exact hQ _ _ b1
  · obtain ⟨h1, s1, f1, b1⟩ := bdd_of (y' := (rdB (tK (TPs s) (TNs s)) (wN s) 4 i)) (by omega) rfl (bar_of rdA_l2 (r_pair (d := 4) (x := x) (hi := 9999) (hi2 := 99) (v := 1717661029) (k := 12) q ht (fun p => wd_12 (ht.b p)) (by omega) (by omega) (by omega) (Nat.le_refl _)))
    intro N S Q hN hS hQ
    refine z_iload_n dX9_body_0 rfl rfl ?_
    refine z_tableIn (off := 64) (tgt := 65) dX9_body_1 (by decide) (by decide) rfl rfl ?_
    refine z_aload_n dX9_body_65 rfl rfl ?_
    refine z_iload_n dX9_body_66 rfl rfl ?_
    refine z_sipush (v := 9999) dX9_body_67 (by decide) ?_
    refine z_bipush (v := 102) dX9_body_70 (by decide) ?_
    refine z_bipush (v := 97) dX9_body_72 (by decide) ?_
    refine z_bipush (v := 109) dX9_body_74 (by decide) ?_
    refine z_bipush (v := 101) dX9_body_76 (by decide) ?_
    refine y_callS (as := [_, _, _, _]) CX9_w4 LX9_136 SX9_w4 dX9_body_78 rfl (Nat.le_of_ble_eq_true rfl) (Nat.le_of_ble_eq_true rfl) (by omega) (r_w4 (d := 2) (a0 := 102) (a1 := 97) (a2 := 109) (a3 := 101) (by omega) (by omega) (by omega) (by omega) (Nat.le_refl _)) rok_l ⟨Nat.le_refl _, Nat.le_refl _, hN, hS⟩ ?_
    refine z_eql (show _ = lN 1717661029 from rfl) ?_
    refine z_bipush (v := 99) dX9_body_81 (by decide) ?_
    refine y_callV (as := [_, _, _, _]) CX9_pair LX9_238 IX9_pair VX9_pair ⟨rfl, Nat.le_of_ble_eq_true rfl⟩ dX9_body_83 hm.o rfl (Nat.le_of_ble_eq_true rfl) (Nat.le_of_ble_eq_true rfl) (by omega) s1 rok_i (hg_ss f1 hN hS) ?_
    refine z_iret dX9_body_86 ?_
    exact hQ _ _ b1
  · obtain ⟨h1, s1, f1, b1⟩ := bdd_of (y' := (rdB (tK (TPs s) (TNs s)) (wN s) 5 i)) (by omega) rfl (r_foretellC (d := 5) (x := x) q ht hx (Nat.le_refl _))
    intro N S Q hN hS hQ
    refine z_iload_n dX9_body_0 rfl rfl ?_
    refine z_tableIn (off := 86) (tgt := 87) dX9_body_1 (by decide) (by decide) rfl rfl ?_
    refine z_aload_n dX9_body_87 rfl rfl ?_
    refine z_iload_n dX9_body_88 rfl rfl ?_
    refine y_callV (as := [_]) CX9_foretellClause LX9_242 IX9_foretellClause VX9_foretellClause ⟨rfl, Nat.le_of_ble_eq_true rfl⟩ dX9_body_89 hm.o rfl (Nat.le_of_ble_eq_true rfl) (Nat.le_of_ble_eq_true rfl) (by omega) s1 rok_i (hg_ss f1 hN hS) ?_
    refine z_iret dX9_body_92 ?_
    exact hQ _ _ b1
  · obtain ⟨h1, s1, f1, b1⟩ := bdd_of (y' := (rdB (tK (TPs s) (TNs s)) (wN s) 6 i)) (by omega) rfl (bar_of rdA_l2 (r_pair (d := 4) (x := x) (hi := 7) (hi2 := 4) (v := 25209) (k := 17) q ht (fun p => wd_17 (ht.b p)) (by omega) (by omega) (by omega) (Nat.le_refl _)))
    intro N S Q hN hS hQ
    refine z_iload_n dX9_body_0 rfl rfl ?_
    refine z_tableIn (off := 109) (tgt := 110) dX9_body_1 (by decide) (by decide) rfl rfl ?_
    refine z_iload_n dX9_body_110 rfl rfl ?_
    refine z_iconst (v := 2) dX9_body_111 (by decide) ?_
    refine z_icmp_gt dX9_body_112 rfl (fun _ => ?_) (fun c => absurd (by decide) c)
    refine z_aload_n dX9_body_123 rfl rfl ?_
    refine z_iload_n dX9_body_124 rfl rfl ?_
    refine z_bipush (v := 7) dX9_body_125 (by decide) ?_
    refine z_bipush (v := 98) dX9_body_127 (by decide) ?_
    refine z_bipush (v := 121) dX9_body_129 (by decide) ?_
    refine y_callS (as := [_, _]) CX9_w2 LX9_128 SX9_w2 dX9_body_131 rfl (Nat.le_of_ble_eq_true rfl) (Nat.le_of_ble_eq_true rfl) (by omega) (r_w2 (d := 0) (a0 := 98) (a1 := 121) (by omega) (by omega) (Nat.le_refl _)) rok_l ⟨Nat.le_refl _, Nat.le_refl _, hN, hS⟩ ?_
    refine z_eql (show _ = lN 25209 from rfl) ?_
    refine z_iconst (v := 4) dX9_body_134 (by decide) ?_
    refine y_callV (as := [_, _, _, _]) CX9_pair LX9_238 IX9_pair VX9_pair ⟨rfl, Nat.le_of_ble_eq_true rfl⟩ dX9_body_135 hm.o rfl (Nat.le_of_ble_eq_true rfl) (Nat.le_of_ble_eq_true rfl) (by omega) s1 rok_i (hg_ss f1 hN hS) ?_
    refine z_iret dX9_body_138 ?_
    exact hQ _ _ b1
  · obtain ⟨h1, s1, f1, b1⟩ := bdd_of (y' := (rdB (tK (TPs s) (TNs s)) (wN s) 7 i)) (by omega) rfl (bar_of rdA_l2 (r_pair (d := 4) (x := x) (hi := 7) (hi2 := 4) (v := 25209) (k := 17) q ht (fun p => wd_17 (ht.b p)) (by omega) (by omega) (by omega) (Nat.le_refl _)))
    intro N S Q hN hS hQ
    refine z_iload_n dX9_body_0 rfl rfl ?_
    refine z_tableIn (off := 109) (tgt := 110) dX9_body_1 (by decide) (by decide) rfl rfl ?_
    refine z_iload_n dX9_body_110 rfl rfl ?_
    refine z_iconst (v := 2) dX9_body_111 (by decide) ?_
    refine z_icmp_gt dX9_body_112 rfl (fun _ => ?_) (fun c => absurd (by decide) c)
    refine z_aload_n dX9_body_123 rfl rfl ?_
    refine z_iload_n dX9_body_124 rfl rfl ?_
    refine z_bipush (v := 7) dX9_body_125 (by decide) ?_
    refine z_bipush (v := 98) dX9_body_127 (by decide) ?_
    refine z_bipush (v := 121) dX9_body_129 (by decide) ?_
    refine y_callS (as := [_, _]) CX9_w2 LX9_128 SX9_w2 dX9_body_131 rfl (Nat.le_of_ble_eq_true rfl) (Nat.le_of_ble_eq_true rfl) (by omega) (r_w2 (d := 0) (a0 := 98) (a1 := 121) (by omega) (by omega) (Nat.le_refl _)) rok_l ⟨Nat.le_refl _, Nat.le_refl _, hN, hS⟩ ?_
    refine z_eql (show _ = lN 25209 from rfl) ?_
    refine z_iconst (v := 4) dX9_body_134 (by decide) ?_
    refine y_callV (as := [_, _, _, _]) CX9_pair LX9_238 IX9_pair VX9_pair ⟨rfl, Nat.le_of_ble_eq_true rfl⟩ dX9_body_135 hm.o rfl (Nat.le_of_ble_eq_true rfl) (Nat.le_of_ble_eq_true rfl) (by omega) s1 rok_i (hg_ss f1 hN hS) ?_
    refine z_iret dX9_body_138 ?_
    exact hQ _ _ b1
  · obtain ⟨h1, s1, f1, b1⟩ := bdd_of (y' := (rdB (tK (TPs s) (TNs s)) (wN s) 8 i)) (by omega) rfl (bar_of rdA_l3 (r_sell (d := 5) (x := x) q ht hx (Nat.le_refl _)))
    intro N S Q hN hS hQ
    refine z_iload_n dX9_body_0 rfl rfl ?_
    refine z_tableIn (off := 92) (tgt := 93) dX9_body_1 (by decide) (by decide) rfl rfl ?_
    refine z_aload_n dX9_body_93 rfl rfl ?_
    refine z_iload_n dX9_body_94 rfl rfl ?_
    refine y_callV (as := [_]) CX9_sellClause LX9_245 IX9_sellClause VX9_sellClause ⟨rfl, Nat.le_of_ble_eq_true rfl⟩ dX9_body_95 hm.o rfl (Nat.le_of_ble_eq_true rfl) (Nat.le_of_ble_eq_true rfl) (by omega) s1 rok_i (hg_ss f1 hN hS) ?_
    refine z_iret dX9_body_98 ?_
    exact hQ _ _ b1
  · obtain ⟨h1, s1, f1, b1⟩ := bdd_of (y' := (rdB (tK (TPs s) (TNs s)) (wN s) 9 i)) (by omega) rfl (bar_of rdA_l0 (g_fig (d := 2) (x := x + 1) (lo := 1) (hi := 60) q ht (by omega) (by omega) (Nat.le_refl _)))
    intro N S Q hN hS hQ
    refine z_iload_n dX9_body_0 rfl rfl ?_
    refine z_tableIn (off := 98) (tgt := 99) dX9_body_1 (by decide) (by decide) rfl rfl ?_
    refine z_aload_n dX9_body_99 rfl rfl ?_
    refine z_iload_n dX9_body_100 rfl rfl ?_
    refine z_iconst (v := 1) dX9_body_101 (by decide) ?_
    refine z_iadd dX9_body_102 ?_
    refine z_eqi (nI_1 x) ?_
    refine z_iconst (v := 1) dX9_body_103 (by decide) ?_
    refine z_bipush (v := 60) dX9_body_104 (by decide) ?_
    refine y_callV (as := [_, _, _]) CX9_figure LX9_224 IX9_figure VX9_figure ⟨rfl, Nat.le_of_ble_eq_true rfl⟩ dX9_body_106 hm.o rfl (Nat.le_of_ble_eq_true rfl) (Nat.le_of_ble_eq_true rfl) (by omega) s1 rok_i (hg_ss f1 hN hS) ?_
    refine z_iret dX9_body_109 ?_
    exact hQ _ _ b1

theorem r_bodyL {s : Ms} {t : Nat} {tf : Nat → Int32} {i w on : Nat} {h : Hp} {d : Nat} {so1 n x : Nat} (q : RTs s t tf i w (nI so1) on h) (ht : ITp s) (ht4 : t < 4) (hK : ∀ j, (tK (TPs s) (TNs s)) j < 53 → j < n) (n3 : n ≤ 300) (hso : so1 ≤ 2) (hw : w ≤ i) (hi : i ≤ n) (hx : 753 * t ≤ x ∧ x + 6 ≤ 753 * t + 145) (hd : 8 ≤ d) : Sq d mX9_body [.ref 488, .int (nI so1), .int (nI x)] h (BDD s t tf x w so1 on h (rdB (tK (TPs s) (TNs s)) (wN s) so1 i)) := by
  have hm := q.1.m
  obtain ⟨z, j, e, er, _⟩ := rd_end (K := (tK (TPs s) (TNs s))) (W := (wN s)) (so := so1) hK 5000 3 0 i [] (by omega) (by show 16 * (n - i) + 4 < 5000; omega)
  have eY : (rdB (tK (TPs s) (TNs s)) (wN s) so1 i) = (z, j, [], e) := by
    unfold rdB
    rw [if_pos hso, er]
    rfl
  rw [eY]
  have sq := r_lawC (d := 7) q ht ht4 hK n3 (by omega) hw hi hx er (Nat.le_refl _)
  have ob : (nI so1).toInt < 3 := by
    have sc : so1 = 0 ∨ so1 = 1 ∨ so1 = 2 := by omega
    rcases sc with rfl | rfl | rfl <;> decide
  intro N S Q hN hS hQ
  refine z_iload_n dX9_body_0 rfl rfl ?_
  refine z_tableOut (tgt := 110) dX9_body_1 (Or.inl ob) rfl ?_
  refine z_iload_n dX9_body_110 rfl rfl ?_
  refine z_iconst (v := 2) dX9_body_111 (by decide) ?_
  refine z_icmp_gt dX9_body_112 rfl (fun c => absurd c (fun w => absurd ((nI_ltI (a := 2) (by omega) (by omega)).mp w) (by omega))) (fun _ => ?_)
  refine z_aload_n dX9_body_115 rfl rfl ?_
  refine z_iload_n dX9_body_116 rfl rfl ?_
  refine y_callVQ (as := [_]) CX9_lawClause LX9_248 IX9_lawClause VX9_lawClause ⟨rfl, (Nat.le_of_ble_eq_true rfl)⟩ dX9_body_117 hm.o rfl (Nat.le_of_ble_eq_true rfl) (Nat.le_of_ble_eq_true rfl) (by omega) sq (fun r h2 p2 => ⟨by rw [p2.1]; exact rok_i, by obtain ⟨_, _, _, _, f, _⟩ := p2; exact f.1⟩) ?_
  intro r h2 p2
  obtain ⟨rfl, tf1, w1, q2, f2, g2, e2⟩ := p2
  refine z_goto dX9_body_120 rfl ?_
  refine z_iret dX9_body_138 ?_
  exact hQ _ _ ⟨rfl, tf1, w1, q2, f2, g2, fun z0 => ⟨(e2 z0).1, fun c v hc => (by cases hc), fun _ => ⟨(e2 z0).2.1, (e2 z0).2.2.1, (e2 z0).2.2.2⟩⟩⟩

