/-! a day passes: the reference (walks by program: wip/whole/gen62.py) -/
theorem lrem_n {a d : Nat} (ha : a < 2 ^ 60) (hd : d < 2 ^ 60) : iL a - iL a / iL d * iL d = iL ((a % d : Nat) : Int) := by
  rw [iL_div ⟨by omega, by omega⟩ ⟨by omega, by omega⟩, iL_mul, iL_sub]
  refine congrArg iL ?_
  rw [← Int.ofNat_tdiv, Int.natCast_emod, Int.emod_def, Int.natCast_ediv, Int.mul_comm]
/-- the reference in the midst of a day: the world, whether the book is written, how many ended -/
def PX (g : Nat → Int32) (s : Mr) (a : Fl) (b : Nat) (W : Fl) (e : Nat) (h : Hp) : Prop := RN (uns a W, s) h ∧ pI h 488 23 = nI b ∧ pI h 488 24 = nI e ∧ pI h 497 = g
theorem PX.w {g : Nat → Int32} {s : Mr} {a W : Fl} {h : Hp} {b e i j v : Nat} {x : Int32} (hp : PX g s a b W e h) (hi : i = wx j) (hj : j < 153) (hx : x = nI v) : PX g s a b (up W j v) e (sI h 489 i x) := ⟨hp.1.w hi hj hx, by rw [pI_sI_ne (by omega)]; exact hp.2.1, by rw [pI_sI_ne (by omega)]; exact hp.2.2.1, by rw [pI_sI_ne (by omega)]; exact hp.2.2.2⟩
theorem PX.y {g : Nat → Int32} {s : Mr} {a W : Fl} {h h1 : Hp} {b e : Nat} (hp : PX g s a b W e h) (f : FY h h1) : PX g s a b W e h1 := ⟨f.rn hp.1, by rw [f.2.1 488 (by omega) (by omega)]; exact hp.2.1, by rw [f.2.1 488 (by omega) (by omega)]; exact hp.2.2.1, by rw [f.2.1 497 (by omega) (by omega)]; exact hp.2.2.2⟩
theorem PX.e {g : Nat → Int32} {s : Mr} {a W : Fl} {h : Hp} {b e e' : Nat} {x : Int32} (hp : PX g s a b W e h) (hx : x = nI e') : PX g s a b W e' (sI h 488 24 x) := ⟨hp.1.sS (by omega), by rw [pI_sI, if_pos rfl, if_neg (by omega)]; exact hp.2.1, by rw [pI_sI, if_pos rfl, if_pos rfl, hx], by rw [pI_sI_ne (by omega)]; exact hp.2.2.2⟩

theorem anew_v {x : Nat} (hx : x < 30553) : (nI x).toInt64 * 431 + 311 - ((nI x).toInt64 * 431 + 311) / 30553 * 30553 = iL ((x * 431 + 311) % 30553 : Nat) := by
  have e : (nI x).toInt64 * 431 + 311 = iL ((x * 431 + 311 : Nat) : Int) := by
    rw [nI_l (by omega), show (431 : Int64) = lN 431 from rfl, show (311 : Int64) = lN 311 from rfl, lN_mul, lN_add, iL_n]
  rw [e, show (30553 : Int64) = iL ((30553 : Nat) : Int) from rfl]
  exact lrem_n (by omega) (by omega)

theorem r_anew {h : Hp} {d x : Nat} (hm : SM h) (e : pI h 489 9 = nI x) (hx : x < 30553) : Sp d mX9_anew [.ref 488] h none (sI h 489 9 (nI (nxD x))) := by
  intro N S Q hN hS hQ
  refine z_aload_n dX9_anew_0 rfl rfl ?_
  refine y_getR FX9_7 dX9_anew_1 rfl hm.o hm.f_a ?_
  refine z_bipush (v := 9) dX9_anew_4 (by decide) ?_
  refine z_aload_n dX9_anew_6 rfl rfl ?_
  refine y_getR FX9_7 dX9_anew_7 rfl hm.o hm.f_a ?_
  refine z_bipush (v := 9) dX9_anew_10 (by decide) ?_
  refine y_ialN (9) dX9_anew_12 hm.A_a (Nat.le_of_ble_eq_true rfl) (rfl) (by omega) ?_
  refine z_eqi e ?_
  refine z_i2l dX9_anew_13 ?_
  refine z_ldc2 (v := 431) dX9_anew_14 Kc_X9_323 ?_
  refine z_lmul dX9_anew_17 ?_
  refine z_ldc2 (v := 311) dX9_anew_18 Kc_X9_325 ?_
  refine z_ladd dX9_anew_21 ?_
  refine z_ldc2 (v := 30553) dX9_anew_22 Kc_X9_327 ?_
  refine z_lrem dX9_anew_25 (by decide) ?_
  refine z_eql (show _ = iL ((x * 431 + 311) % 30553 : Nat) from anew_v hx) ?_
  refine z_l2i dX9_anew_26 ?_
  refine z_eqi (show _ = nI (nxD x) by rw [iL_i, ← nI_i]; rfl) ?_
  refine y_iasN (9) dX9_anew_27 hm.A_a (Nat.le_of_ble_eq_true rfl) (rfl) (by omega) ?_
  refine z_vret dX9_anew_28 ?_
  exact hQ

theorem r_drawn {h : Hp} {d x : Nat} (hm : SM h) (e : pI h 489 9 = nI x) (hx : x < 30553) (hd : 1 ≤ d) : Sp d mX9_drawn [.ref 488] h (some (.int (nI (x % 10)))) (sI h 489 9 (nI (nxD x))) := by
  intro N S Q hN hS hQ
  refine z_aload_n dX9_drawn_0 rfl rfl ?_
  refine y_getR FX9_7 dX9_drawn_1 rfl hm.o hm.f_a ?_
  refine z_bipush (v := 9) dX9_drawn_4 (by decide) ?_
  refine y_ialN (9) dX9_drawn_6 hm.A_a (Nat.le_of_ble_eq_true rfl) (rfl) (by omega) ?_
  refine z_eqi e ?_
  refine z_bipush (v := 10) dX9_drawn_7 (by decide) ?_
  refine z_irem dX9_drawn_9 (by decide) ?_
  refine z_eqi (irem_n (a := x) (d := 10) (by omega) (by omega) (by omega)) ?_
  refine z_istore_n dX9_drawn_10 rfl (Nat.le_of_ble_eq_true rfl) ?_
  refine z_aload_n dX9_drawn_11 rfl rfl ?_
  refine y_callV (as := []) CX9_anew LX9_320 IX9_anew VX9_anew ⟨rfl, Nat.le_of_ble_eq_true rfl⟩ dX9_drawn_12 hm.o rfl (Nat.le_of_ble_eq_true rfl) (Nat.le_of_ble_eq_true rfl) (by omega) (r_anew (by exact (by exact hm)) e (by exact hx)) rok_v ⟨Nat.le_refl _, Nat.le_refl _, hN, hS⟩ ?_
  refine z_iload_n dX9_drawn_15 rfl rfl ?_
  refine z_iret dX9_drawn_16 ?_
  exact hQ

theorem r_endNow {g : Nat → Int32} {s : Mr} {a W : Fl} {h : Hp} {d b e k how much : Nat} (hp : PX g s a b W e h) (hb : b = 0 ∨ b = 1) (hk : k < 12) (h1 : 1 ≤ how) (h5 : W 5 ≤ 30) (hd : 2 ≤ d) : ∃ h1, Sp d mX9_endNow [.ref 488, .int (nI k), .int (nI how), .int (nI much)] h none h1 ∧ PX g s a b (wr b (up W (pcx k 5) how) k (how - 1) much) (e + 1) h1 ∧ FM h h1 := by
  have hm := hp.1.m
  have p1 := hp.w (x := nI how) (wx_pc (c := 5) hk (by omega)).symm (by unfold pcx; omega) rfl
  have p2 := p1.e (e' := e + 1) rfl
  have f2 : FM h (sI (sI h 489 (38 + 6 * k + 5) (nI how)) 488 24 (nI (e + 1))) := (FM.rf.sI (by omega)).sI (by omega)
  have key : ∃ h1, Sp 1 mX9_write [.ref 488, .int (nI k), .int (nI (how - 1)), .int (nI much)] (sI (sI h 489 (38 + 6 * k + 5) (nI how)) 488 24 (nI (e + 1))) none h1 ∧ PX g s a b (wr b (up W (pcx k 5) how) k (how - 1) much) (e + 1) h1 ∧ FM (sI (sI h 489 (38 + 6 * k + 5) (nI how)) 488 24 (nI (e + 1))) h1 := by
    rcases hb with rfl | rfl
    · exact ⟨_, r_write0 p2.1.m p2.2.1, p2, FM.rf⟩
    · obtain ⟨g0, w1, w2, w3, w4⟩ := r_write (d := 1) (k := k) (what := how - 1) (much := much) p2.1 p2.2.1 (by rw [up_n (by unfold pcx; omega)]; exact h5) (Nat.le_refl _)
      exact ⟨g0, w1, ⟨w2, by rw [w4 488 (by omega)]; exact p2.2.1, by rw [w4 488 (by omega)]; exact p2.2.2.1, by rw [w4 497 (by omega)]; exact p2.2.2.2⟩, w3⟩
  obtain ⟨g0, w1, w2, w3⟩ := key
  refine ⟨g0, ?_, w2, f2.tr w3⟩
  intro N S Q hN hS hQ
  have hN0 : pn h ≤ N := by rw [← (f2.tr w3).1.n]; exact hN
  have hS0 : ps h ≤ S := by rw [← (f2.tr w3).1.s]; exact hS
  refine z_aload_n dX9_endNow_0 rfl rfl ?_
  refine z_iload_n dX9_endNow_1 rfl rfl ?_
  refine z_iconst (v := 5) dX9_endNow_2 (by decide) ?_
  refine z_iload_n dX9_endNow_3 rfl rfl ?_
  refine y_callV (as := [_, _, _]) CX9_lay LX9_329 IX9_lay VX9_lay ⟨rfl, Nat.le_of_ble_eq_true rfl⟩ dX9_endNow_4 hm.o rfl (Nat.le_of_ble_eq_true rfl) (Nat.le_of_ble_eq_true rfl) (by omega) (r_lay (j := k) (w := 5) (by exact (by exact hm)) (by omega) (by omega)) rok_v ⟨Nat.le_refl _, Nat.le_refl _, hN0, hS0⟩ ?_
  refine z_aload_n dX9_endNow_7 rfl rfl ?_
  refine z_dup dX9_endNow_8 rfl ?_
  refine y_getI FX9_332 dX9_endNow_9 (Or.inl rfl) hm.o ?_
  refine z_eqi (show _ = nI e by rw [pI_sI_ne (by omega)]; exact hp.2.2.1) ?_
  refine z_iconst (v := 1) dX9_endNow_12 (by decide) ?_
  refine z_iadd dX9_endNow_13 ?_
  refine z_eqi (nI_1 e) ?_
  refine y_putI FX9_332 dX9_endNow_14 (Or.inl rfl) (Or.inl rfl) hm.o ?_
  refine z_aload_n dX9_endNow_17 rfl rfl ?_
  refine z_iload_n dX9_endNow_18 rfl rfl ?_
  refine z_iload_n dX9_endNow_19 rfl rfl ?_
  refine z_iconst (v := 1) dX9_endNow_20 (by decide) ?_
  refine z_isub dX9_endNow_21 ?_
  refine z_eqi (pk_sub (a := how) (b := 1) h1) ?_
  refine z_iload_n dX9_endNow_22 rfl rfl ?_
  refine y_callV (as := [_, _, _]) CX9_write LX9_335 IX9_write VX9_write ⟨rfl, Nat.le_of_ble_eq_true rfl⟩ dX9_endNow_23 hm.o rfl (Nat.le_of_ble_eq_true rfl) (Nat.le_of_ble_eq_true rfl) (by omega) w1 rok_v (hg_ss w3.1 hN0 hS0) ?_
  refine z_vret dX9_endNow_26 ?_
  exact hQ

theorem r_comeTrue {g : Nat → Int32} {s : Mr} {a W : Fl} {h : Hp} {d b e k n : Nat} (hp : PX g s a b W e h) (hb : b = 0 ∨ b = 1) (hW : IW n W) (hn : n = a 0) (h0 : a 0 ≤ 8) (h3 : a 3 ≤ 4) (hk : k < W 4) (hT : a 3 ≠ 0 → TXV s.2.2.2.2.2 (a 3 - 1)) (hd : 5 ≤ d) : ∃ h1, Sp d mX9_comeTrue [.ref 488, .int (nI k)] h none h1 ∧ PX g s a b (wTrue b W k (mRen s.2.2.2.2.2 (a 3) W k)) (e + 1) h1 ∧ FM h h1 := by
  have hm := hp.1.m
  obtain ⟨⟨b0, b1, b2, b3, b4, b5⟩, bp, bc, bb⟩ := id hW
  have cc := bc k hk
  have pp := bp _ cc.1
  have q2 := pcn_le (W (pcx k 2))
  obtain ⟨g1, r1, r2⟩ := r_renownOf (d := 4) hp.1 hW hn h0 h3 hk hT rfl (Nat.le_refl _)
  unfold wTrue
  have br : mRen s.2.2.2.2.2 (a 3) W k ≤ 99 := mSays_le (by omega)
  generalize mRen s.2.2.2.2.2 (a 3) W k = r at *
  have p1 := hp.y r2
  have hm1 := r2.1.M hm
  have p2 := p1.w (x := nI (min 99 (W (ppx (W (pcx k 0)) 1) + r))) (wx_pp (p := (W (pcx k 0))) (c := 1) (by omega) (by omega)).symm (by unfold ppx; omega) rfl
  obtain ⟨g2, w1, w2, w3⟩ := r_endNow (d := 4) (k := k) (how := 1) (much := r) p2 hb (by omega) (by omega) (by rw [up_n (by unfold ppx; omega)]; exact b5) (by omega)
  have ff : FM h g2 := (r2.fm.sI (by omega)).tr w3
  refine ⟨g2, ?_, w2, ff⟩
  intro N S Q hN hS hQ
  have hN0 : pn h ≤ N := by rw [← ff.1.n]; exact hN
  have hS0 : ps h ≤ S := by rw [← ff.1.s]; exact hS
  have hN1 : pn g1 ≤ N := by rw [r2.1.n]; exact hN0
  have hS1 : ps g1 ≤ S := by rw [r2.1.s]; exact hS0
  refine z_aload_n dX9_comeTrue_0 rfl rfl ?_
  refine z_iload_n dX9_comeTrue_1 rfl rfl ?_
  refine z_iconst (v := 0) dX9_comeTrue_2 (by decide) ?_
  refine y_callV (as := [_, _]) CX9_got LX9_67 IX9_got VX9_got ⟨rfl, Nat.le_of_ble_eq_true rfl⟩ dX9_comeTrue_3 hm.o rfl (Nat.le_of_ble_eq_true rfl) (Nat.le_of_ble_eq_true rfl) (by omega) (r_got (j := k) (w := 0) (by exact (by exact hm)) (by omega) (by omega)) rok_i ⟨Nat.le_refl _, Nat.le_refl _, hN0, hS0⟩ ?_
  refine z_eqi (show _ = nI (W (pcx k 0)) from hp.1.wat _ (wx_pc (by omega) (by omega)).symm (by unfold pcx; omega)) ?_
  refine z_istore_n dX9_comeTrue_6 rfl (Nat.le_of_ble_eq_true rfl) ?_
  refine z_aload_n dX9_comeTrue_7 rfl rfl ?_
  refine z_iload_n dX9_comeTrue_8 rfl rfl ?_
  refine y_callV (as := [_]) CX9_renownOf LX9_338 IX9_renownOf VX9_renownOf ⟨rfl, Nat.le_of_ble_eq_true rfl⟩ dX9_comeTrue_9 hm.o rfl (Nat.le_of_ble_eq_true rfl) (Nat.le_of_ble_eq_true rfl) (by omega) r1 rok_i (hg_ss r2.1 hN0 hS0) ?_
  refine z_istore_n dX9_comeTrue_12 rfl (Nat.le_of_ble_eq_true rfl) ?_
  refine z_aload_n dX9_comeTrue_13 rfl rfl ?_
  refine z_iload_n dX9_comeTrue_14 rfl rfl ?_
  refine z_iconst (v := 1) dX9_comeTrue_15 (by decide) ?_
  refine z_aload_n dX9_comeTrue_16 rfl rfl ?_
  refine z_iload_n dX9_comeTrue_17 rfl rfl ?_
  refine z_iconst (v := 1) dX9_comeTrue_18 (by decide) ?_
  refine y_callV (as := [_, _]) CX9_get LX9_87 IX9_get VX9_get ⟨rfl, Nat.le_of_ble_eq_true rfl⟩ dX9_comeTrue_19 (r2.1.O hm.o) rfl (Nat.le_of_ble_eq_true rfl) (Nat.le_of_ble_eq_true rfl) (by omega) (r_get (j := (W (pcx k 0))) (w := 1) (by exact hm1) (by omega) (by omega)) rok_i ⟨Nat.le_refl _, Nat.le_refl _, hN1, hS1⟩ ?_
  refine z_eqi (show _ = nI (W (ppx (W (pcx k 0)) 1)) from p1.1.wat _ (wx_pp (by omega) (by omega)).symm (by unfold ppx; omega)) ?_
  refine z_iload_n dX9_comeTrue_22 rfl rfl ?_
  refine z_iadd dX9_comeTrue_23 ?_
  refine z_eqi (nI_add (W (ppx (W (pcx k 0)) 1)) r) ?_
  refine z_i2l dX9_comeTrue_24 ?_
  refine z_iconst (v := 0) dX9_comeTrue_25 (by decide) ?_
  refine z_bipush (v := 99) dX9_comeTrue_26 (by decide) ?_
  refine y_callS (as := [_, _, _]) CX9_cut LX9_306 SX9_cut dX9_comeTrue_28 rfl (Nat.le_of_ble_eq_true rfl) (Nat.le_of_ble_eq_true rfl) (by omega) (r_cutN (n := W (ppx (W (pcx k 0)) 1) + r) (t := 99) (by omega) (by omega)) rok_i ⟨Nat.le_refl _, Nat.le_refl _, hN1, hS1⟩ ?_
  refine y_callV (as := [_, _, _]) CX9_put LX9_79 IX9_put VX9_put ⟨rfl, Nat.le_of_ble_eq_true rfl⟩ dX9_comeTrue_31 (r2.1.O hm.o) rfl (Nat.le_of_ble_eq_true rfl) (Nat.le_of_ble_eq_true rfl) (by omega) (r_put (j := (W (pcx k 0))) (w := 1) (by exact hm1) (by omega) (by omega)) rok_v ⟨Nat.le_refl _, Nat.le_refl _, hN1, hS1⟩ ?_
  refine z_aload_n dX9_comeTrue_34 rfl rfl ?_
  refine z_iload_n dX9_comeTrue_35 rfl rfl ?_
  refine z_iconst (v := 1) dX9_comeTrue_36 (by decide) ?_
  refine z_iload_n dX9_comeTrue_37 rfl rfl ?_
  refine y_callV (as := [_, _, _]) CX9_endNow LX9_341 IX9_endNow VX9_endNow ⟨rfl, Nat.le_of_ble_eq_true rfl⟩ dX9_comeTrue_38 (r2.1.O hm.o) rfl (Nat.le_of_ble_eq_true rfl) (Nat.le_of_ble_eq_true rfl) (by omega) w1 rok_v (hg_ss w3.1 hN1 hS1) ?_
  refine z_vret dX9_comeTrue_41 ?_
  exact hQ

theorem r_fail {g : Nat → Int32} {s : Mr} {a W : Fl} {h : Hp} {d b e k n : Nat} (hp : PX g s a b W e h) (hb : b = 0 ∨ b = 1) (hW : IW n W) (hn : n = a 0) (h0 : a 0 ≤ 8) (h3 : a 3 ≤ 4) (hk : k < W 4) (hT : a 3 ≠ 0 → TXV s.2.2.2.2.2 (a 3 - 1)) (hd : 5 ≤ d) : ∃ h1, Sp d mX9_fail [.ref 488, .int (nI k)] h none h1 ∧ PX g s a b (wFail b W k (mDues s.2.2.2.2.2 (a 3) W k)) (e + 1) h1 ∧ FM h h1 := by
  have hm := hp.1.m
  obtain ⟨⟨b0, b1, b2, b3, b4, b5⟩, bp, bc, bb⟩ := id hW
  have cc := bc k hk
  have pp := bp _ cc.1
  obtain ⟨g1, r1, r2⟩ := r_duesOf (d := 4) (t1 := a 3) hp.1 hW hn h0 h3 hk hT (Nat.le_refl _)
  unfold wFail
  have br : mDues s.2.2.2.2.2 (a 3) W k ≤ 9999 := mSays_le (by omega)
  generalize mDues s.2.2.2.2.2 (a 3) W k = dd at *
  have p1 := hp.y r2
  have hm1 := r2.1.M hm
  obtain ⟨pd, hpd⟩ : ∃ pd, min dd (W (ppx (W (pcx k 0)) 0)) = pd := ⟨_, rfl⟩
  have p2 := p1.w (x := nI ((W (ppx (W (pcx k 0)) 0)) - pd)) (wx_pp (p := (W (pcx k 0))) (c := 0) (by omega) (by omega)).symm (by unfold ppx; omega) rfl
  unfold wFail1
  rw [hpd]
  by_cases hru : pd < dd
  · rw [if_pos hru]
    have p3 := p2.w (v := 1) (x := 1) (wx_pp (p := (W (pcx k 0))) (c := 2) (by omega) (by omega)).symm (by unfold ppx; omega) rfl
    obtain ⟨g2, w1, w2, w3⟩ := r_endNow (d := 4) (k := k) (how := 2) (much := pd) p3 hb (by omega) (by omega) (by rw [up_n (by unfold ppx; omega), up_n (by unfold ppx; omega)]; exact b5) (by omega)
    have ff : FM h g2 := ((r2.fm.sI (by omega)).sI (by omega)).tr w3
    refine ⟨g2, ?_, w2, ff⟩
    intro N S Q hN hS hQ
    have hN0 : pn h ≤ N := by rw [← ff.1.n]; exact hN
    have hS0 : ps h ≤ S := by rw [← ff.1.s]; exact hS
    have hN1 : pn g1 ≤ N := by rw [r2.1.n]; exact hN0
    have hS1 : ps g1 ≤ S := by rw [r2.1.s]; exact hS0
    refine z_aload_n dX9_fail_0 rfl rfl ?_
    refine z_iload_n dX9_fail_1 rfl rfl ?_
    refine z_iconst (v := 0) dX9_fail_2 (by decide) ?_
    refine y_callV (as := [_, _]) CX9_got LX9_67 IX9_got VX9_got ⟨rfl, Nat.le_of_ble_eq_true rfl⟩ dX9_fail_3 hm.o rfl (Nat.le_of_ble_eq_true rfl) (Nat.le_of_ble_eq_true rfl) (by omega) (r_got (j := k) (w := 0) (by exact (by exact hm)) (by omega) (by omega)) rok_i ⟨Nat.le_refl _, Nat.le_refl _, hN0, hS0⟩ ?_
    refine z_eqi (show _ = nI (W (pcx k 0)) from hp.1.wat _ (wx_pc (by omega) (by omega)).symm (by unfold pcx; omega)) ?_
    refine z_istore_n dX9_fail_6 rfl (Nat.le_of_ble_eq_true rfl) ?_
    refine z_aload_n dX9_fail_7 rfl rfl ?_
    refine z_aload_n dX9_fail_8 rfl rfl ?_
    refine y_getR FX9_7 dX9_fail_9 rfl hm.o hm.f_a ?_
    refine z_iconst (v := 3) dX9_fail_12 (by decide) ?_
    refine y_ialN (3) dX9_fail_13 hm.A_a (Nat.le_of_ble_eq_true rfl) (rfl) (by omega) ?_
    refine z_eqi (show _ = cT (a 3) by rw [hp.1.2.1 3 (by omega)]; exact (congrArg (fun z => nI z - 1) (uns_o (W := W) (by omega))).trans (cI_T a)) ?_
    refine z_iload_n dX9_fail_14 rfl rfl ?_
    refine y_callV (as := [_, _]) CX9_duesOf LX9_344 IX9_duesOf VX9_duesOf ⟨rfl, Nat.le_of_ble_eq_true rfl⟩ dX9_fail_15 hm.o rfl (Nat.le_of_ble_eq_true rfl) (Nat.le_of_ble_eq_true rfl) (by omega) r1 rok_i (hg_ss r2.1 hN0 hS0) ?_
    refine z_istore_n dX9_fail_18 rfl (Nat.le_of_ble_eq_true rfl) ?_
    refine z_iload_n dX9_fail_19 rfl rfl ?_
    refine z_aload_n dX9_fail_20 rfl rfl ?_
    refine z_iload_n dX9_fail_21 rfl rfl ?_
    refine z_iconst (v := 0) dX9_fail_22 (by decide) ?_
    refine y_callV (as := [_, _]) CX9_get LX9_87 IX9_get VX9_get ⟨rfl, Nat.le_of_ble_eq_true rfl⟩ dX9_fail_23 (r2.1.O hm.o) rfl (Nat.le_of_ble_eq_true rfl) (Nat.le_of_ble_eq_true rfl) (by omega) (r_get (j := (W (pcx k 0))) (w := 0) (by exact hm1) (by omega) (by omega)) rok_i ⟨Nat.le_refl _, Nat.le_refl _, hN1, hS1⟩ ?_
    refine z_eqi (show _ = nI (W (ppx (W (pcx k 0)) 0)) from p1.1.wat _ (wx_pp (by omega) (by omega)).symm (by unfold ppx; omega)) ?_
    refine z_icmp_ge dX9_fail_26 rfl (fun _ => ?_) (fun c => absurd ((nI_leI (by omega) (by omega)).mpr (by omega)) c)
    refine z_aload_n dX9_fail_33 rfl rfl ?_
    refine z_iload_n dX9_fail_34 rfl rfl ?_
    refine z_iconst (v := 0) dX9_fail_35 (by decide) ?_
    refine y_callV (as := [_, _]) CX9_get LX9_87 IX9_get VX9_get ⟨rfl, Nat.le_of_ble_eq_true rfl⟩ dX9_fail_36 (r2.1.O hm.o) rfl (Nat.le_of_ble_eq_true rfl) (Nat.le_of_ble_eq_true rfl) (by omega) (r_get (j := (W (pcx k 0))) (w := 0) (by exact hm1) (by omega) (by omega)) rok_i ⟨Nat.le_refl _, Nat.le_refl _, hN1, hS1⟩ ?_
    refine z_eqi (show _ = nI (W (ppx (W (pcx k 0)) 0)) from p1.1.wat _ (wx_pp (by omega) (by omega)).symm (by unfold ppx; omega)) ?_
    refine z_eqi (y := nI pd) (congrArg nI (by omega)) ?_
    refine z_istore dX9_fail_39 (Nat.le_of_ble_eq_true rfl) ?_
    refine z_aload_n dX9_fail_41 rfl rfl ?_
    refine z_iload_n dX9_fail_42 rfl rfl ?_
    refine z_iconst (v := 0) dX9_fail_43 (by decide) ?_
    refine z_aload_n dX9_fail_44 rfl rfl ?_
    refine z_iload_n dX9_fail_45 rfl rfl ?_
    refine z_iconst (v := 0) dX9_fail_46 (by decide) ?_
    refine y_callV (as := [_, _]) CX9_get LX9_87 IX9_get VX9_get ⟨rfl, Nat.le_of_ble_eq_true rfl⟩ dX9_fail_47 (r2.1.O hm.o) rfl (Nat.le_of_ble_eq_true rfl) (Nat.le_of_ble_eq_true rfl) (by omega) (r_get (j := (W (pcx k 0))) (w := 0) (by exact hm1) (by omega) (by omega)) rok_i ⟨Nat.le_refl _, Nat.le_refl _, hN1, hS1⟩ ?_
    refine z_eqi (show _ = nI (W (ppx (W (pcx k 0)) 0)) from p1.1.wat _ (wx_pp (by omega) (by omega)).symm (by unfold ppx; omega)) ?_
    refine z_iload dX9_fail_50 rfl ?_
    refine z_isub dX9_fail_52 ?_
    refine z_eqi (pk_sub (by omega)) ?_
    refine y_callV (as := [_, _, _]) CX9_put LX9_79 IX9_put VX9_put ⟨rfl, Nat.le_of_ble_eq_true rfl⟩ dX9_fail_53 (r2.1.O hm.o) rfl (Nat.le_of_ble_eq_true rfl) (Nat.le_of_ble_eq_true rfl) (by omega) (r_put (j := (W (pcx k 0))) (w := 0) (by exact hm1) (by omega) (by omega)) rok_v ⟨Nat.le_refl _, Nat.le_refl _, hN1, hS1⟩ ?_
    refine z_iload dX9_fail_56 rfl ?_
    refine z_iload_n dX9_fail_58 rfl rfl ?_
    refine z_icmp_ge dX9_fail_59 rfl (fun c => absurd c (fun q => absurd ((nI_leI (by omega) (by omega)).mp q) (by omega))) (fun _ => ?_)
    refine z_aload_n dX9_fail_62 rfl rfl ?_
    refine z_iload_n dX9_fail_63 rfl rfl ?_
    refine z_iconst (v := 2) dX9_fail_64 (by decide) ?_
    refine z_iconst (v := 1) dX9_fail_65 (by decide) ?_
    refine y_callV (as := [_, _, _]) CX9_put LX9_79 IX9_put VX9_put ⟨rfl, Nat.le_of_ble_eq_true rfl⟩ dX9_fail_66 (r2.1.O hm.o) rfl (Nat.le_of_ble_eq_true rfl) (Nat.le_of_ble_eq_true rfl) (by omega) (r_put (j := (W (pcx k 0))) (w := 2) (by exact hm1) (by omega) (by omega)) rok_v ⟨Nat.le_refl _, Nat.le_refl _, hN1, hS1⟩ ?_
    refine z_aload_n dX9_fail_69 rfl rfl ?_
    refine z_iload_n dX9_fail_70 rfl rfl ?_
    refine z_iconst (v := 2) dX9_fail_71 (by decide) ?_
    refine z_iload dX9_fail_72 rfl ?_
    refine y_callV (as := [_, _, _]) CX9_endNow LX9_341 IX9_endNow VX9_endNow ⟨rfl, Nat.le_of_ble_eq_true rfl⟩ dX9_fail_74 (r2.1.O hm.o) rfl (Nat.le_of_ble_eq_true rfl) (Nat.le_of_ble_eq_true rfl) (by omega) w1 rok_v (hg_ss w3.1 hN1 hS1) ?_
    refine z_vret dX9_fail_77 ?_
    exact hQ
  · rw [if_neg hru]
    obtain ⟨g2, w1, w2, w3⟩ := r_endNow (d := 4) (k := k) (how := 2) (much := pd) p2 hb (by omega) (by omega) (by rw [up_n (by unfold ppx; omega)]; exact b5) (by omega)
    have ff : FM h g2 := (r2.fm.sI (by omega)).tr w3
    refine ⟨g2, ?_, w2, ff⟩
    intro N S Q hN hS hQ
    have hN0 : pn h ≤ N := by rw [← ff.1.n]; exact hN
    have hS0 : ps h ≤ S := by rw [← ff.1.s]; exact hS
    have hN1 : pn g1 ≤ N := by rw [r2.1.n]; exact hN0
    have hS1 : ps g1 ≤ S := by rw [r2.1.s]; exact hS0
    by_cases hlt : dd < (W (ppx (W (pcx k 0)) 0))
    · skip
      refine z_aload_n dX9_fail_0 rfl rfl ?_
      refine z_iload_n dX9_fail_1 rfl rfl ?_
      refine z_iconst (v := 0) dX9_fail_2 (by decide) ?_
      refine y_callV (as := [_, _]) CX9_got LX9_67 IX9_got VX9_got ⟨rfl, Nat.le_of_ble_eq_true rfl⟩ dX9_fail_3 hm.o rfl (Nat.le_of_ble_eq_true rfl) (Nat.le_of_ble_eq_true rfl) (by omega) (r_got (j := k) (w := 0) (by exact (by exact hm)) (by omega) (by omega)) rok_i ⟨Nat.le_refl _, Nat.le_refl _, hN0, hS0⟩ ?_
      refine z_eqi (show _ = nI (W (pcx k 0)) from hp.1.wat _ (wx_pc (by omega) (by omega)).symm (by unfold pcx; omega)) ?_
      refine z_istore_n dX9_fail_6 rfl (Nat.le_of_ble_eq_true rfl) ?_
      refine z_aload_n dX9_fail_7 rfl rfl ?_
      refine z_aload_n dX9_fail_8 rfl rfl ?_
      refine y_getR FX9_7 dX9_fail_9 rfl hm.o hm.f_a ?_
      refine z_iconst (v := 3) dX9_fail_12 (by decide) ?_
      refine y_ialN (3) dX9_fail_13 hm.A_a (Nat.le_of_ble_eq_true rfl) (rfl) (by omega) ?_
      refine z_eqi (show _ = cT (a 3) by rw [hp.1.2.1 3 (by omega)]; exact (congrArg (fun z => nI z - 1) (uns_o (W := W) (by omega))).trans (cI_T a)) ?_
      refine z_iload_n dX9_fail_14 rfl rfl ?_
      refine y_callV (as := [_, _]) CX9_duesOf LX9_344 IX9_duesOf VX9_duesOf ⟨rfl, Nat.le_of_ble_eq_true rfl⟩ dX9_fail_15 hm.o rfl (Nat.le_of_ble_eq_true rfl) (Nat.le_of_ble_eq_true rfl) (by omega) r1 rok_i (hg_ss r2.1 hN0 hS0) ?_
      refine z_istore_n dX9_fail_18 rfl (Nat.le_of_ble_eq_true rfl) ?_
      refine z_iload_n dX9_fail_19 rfl rfl ?_
      refine z_aload_n dX9_fail_20 rfl rfl ?_
      refine z_iload_n dX9_fail_21 rfl rfl ?_
      refine z_iconst (v := 0) dX9_fail_22 (by decide) ?_
      refine y_callV (as := [_, _]) CX9_get LX9_87 IX9_get VX9_get ⟨rfl, Nat.le_of_ble_eq_true rfl⟩ dX9_fail_23 (r2.1.O hm.o) rfl (Nat.le_of_ble_eq_true rfl) (Nat.le_of_ble_eq_true rfl) (by omega) (r_get (j := (W (pcx k 0))) (w := 0) (by exact hm1) (by omega) (by omega)) rok_i ⟨Nat.le_refl _, Nat.le_refl _, hN1, hS1⟩ ?_
      refine z_eqi (show _ = nI (W (ppx (W (pcx k 0)) 0)) from p1.1.wat _ (wx_pp (by omega) (by omega)).symm (by unfold ppx; omega)) ?_
      refine z_icmp_ge dX9_fail_26 rfl (fun c => absurd c (fun q => absurd ((nI_leI (by omega) (by omega)).mp q) (by omega))) (fun _ => ?_)
      refine z_iload_n dX9_fail_29 rfl rfl ?_
      refine z_goto dX9_fail_30 rfl ?_
      refine z_eqi (y := nI pd) (congrArg nI (by omega)) ?_
      refine z_istore dX9_fail_39 (Nat.le_of_ble_eq_true rfl) ?_
      refine z_aload_n dX9_fail_41 rfl rfl ?_
      refine z_iload_n dX9_fail_42 rfl rfl ?_
      refine z_iconst (v := 0) dX9_fail_43 (by decide) ?_
      refine z_aload_n dX9_fail_44 rfl rfl ?_
      refine z_iload_n dX9_fail_45 rfl rfl ?_
      refine z_iconst (v := 0) dX9_fail_46 (by decide) ?_
      refine y_callV (as := [_, _]) CX9_get LX9_87 IX9_get VX9_get ⟨rfl, Nat.le_of_ble_eq_true rfl⟩ dX9_fail_47 (r2.1.O hm.o) rfl (Nat.le_of_ble_eq_true rfl) (Nat.le_of_ble_eq_true rfl) (by omega) (r_get (j := (W (pcx k 0))) (w := 0) (by exact hm1) (by omega) (by omega)) rok_i ⟨Nat.le_refl _, Nat.le_refl _, hN1, hS1⟩ ?_
      refine z_eqi (show _ = nI (W (ppx (W (pcx k 0)) 0)) from p1.1.wat _ (wx_pp (by omega) (by omega)).symm (by unfold ppx; omega)) ?_
      refine z_iload dX9_fail_50 rfl ?_
      refine z_isub dX9_fail_52 ?_
      refine z_eqi (pk_sub (by omega)) ?_
      refine y_callV (as := [_, _, _]) CX9_put LX9_79 IX9_put VX9_put ⟨rfl, Nat.le_of_ble_eq_true rfl⟩ dX9_fail_53 (r2.1.O hm.o) rfl (Nat.le_of_ble_eq_true rfl) (Nat.le_of_ble_eq_true rfl) (by omega) (r_put (j := (W (pcx k 0))) (w := 0) (by exact hm1) (by omega) (by omega)) rok_v ⟨Nat.le_refl _, Nat.le_refl _, hN1, hS1⟩ ?_
      refine z_iload dX9_fail_56 rfl ?_
      refine z_iload_n dX9_fail_58 rfl rfl ?_
      refine z_icmp_ge dX9_fail_59 rfl (fun _ => ?_) (fun c => absurd ((nI_leI (by omega) (by omega)).mpr (by omega)) c)
      refine z_aload_n dX9_fail_69 rfl rfl ?_
      refine z_iload_n dX9_fail_70 rfl rfl ?_
      refine z_iconst (v := 2) dX9_fail_71 (by decide) ?_
      refine z_iload dX9_fail_72 rfl ?_
      refine y_callV (as := [_, _, _]) CX9_endNow LX9_341 IX9_endNow VX9_endNow ⟨rfl, Nat.le_of_ble_eq_true rfl⟩ dX9_fail_74 (r2.1.O hm.o) rfl (Nat.le_of_ble_eq_true rfl) (Nat.le_of_ble_eq_true rfl) (by omega) w1 rok_v (hg_ss w3.1 hN1 hS1) ?_
      refine z_vret dX9_fail_77 ?_
      exact hQ
    · skip
      refine z_aload_n dX9_fail_0 rfl rfl ?_
      refine z_iload_n dX9_fail_1 rfl rfl ?_
      refine z_iconst (v := 0) dX9_fail_2 (by decide) ?_
      refine y_callV (as := [_, _]) CX9_got LX9_67 IX9_got VX9_got ⟨rfl, Nat.le_of_ble_eq_true rfl⟩ dX9_fail_3 hm.o rfl (Nat.le_of_ble_eq_true rfl) (Nat.le_of_ble_eq_true rfl) (by omega) (r_got (j := k) (w := 0) (by exact (by exact hm)) (by omega) (by omega)) rok_i ⟨Nat.le_refl _, Nat.le_refl _, hN0, hS0⟩ ?_
      refine z_eqi (show _ = nI (W (pcx k 0)) from hp.1.wat _ (wx_pc (by omega) (by omega)).symm (by unfold pcx; omega)) ?_
      refine z_istore_n dX9_fail_6 rfl (Nat.le_of_ble_eq_true rfl) ?_
      refine z_aload_n dX9_fail_7 rfl rfl ?_
      refine z_aload_n dX9_fail_8 rfl rfl ?_
      refine y_getR FX9_7 dX9_fail_9 rfl hm.o hm.f_a ?_
      refine z_iconst (v := 3) dX9_fail_12 (by decide) ?_
      refine y_ialN (3) dX9_fail_13 hm.A_a (Nat.le_of_ble_eq_true rfl) (rfl) (by omega) ?_
      refine z_eqi (show _ = cT (a 3) by rw [hp.1.2.1 3 (by omega)]; exact (congrArg (fun z => nI z - 1) (uns_o (W := W) (by omega))).trans (cI_T a)) ?_
      refine z_iload_n dX9_fail_14 rfl rfl ?_
      refine y_callV (as := [_, _]) CX9_duesOf LX9_344 IX9_duesOf VX9_duesOf ⟨rfl, Nat.le_of_ble_eq_true rfl⟩ dX9_fail_15 hm.o rfl (Nat.le_of_ble_eq_true rfl) (Nat.le_of_ble_eq_true rfl) (by omega) r1 rok_i (hg_ss r2.1 hN0 hS0) ?_
      refine z_istore_n dX9_fail_18 rfl (Nat.le_of_ble_eq_true rfl) ?_
      refine z_iload_n dX9_fail_19 rfl rfl ?_
      refine z_aload_n dX9_fail_20 rfl rfl ?_
      refine z_iload_n dX9_fail_21 rfl rfl ?_
      refine z_iconst (v := 0) dX9_fail_22 (by decide) ?_
      refine y_callV (as := [_, _]) CX9_get LX9_87 IX9_get VX9_get ⟨rfl, Nat.le_of_ble_eq_true rfl⟩ dX9_fail_23 (r2.1.O hm.o) rfl (Nat.le_of_ble_eq_true rfl) (Nat.le_of_ble_eq_true rfl) (by omega) (r_get (j := (W (pcx k 0))) (w := 0) (by exact hm1) (by omega) (by omega)) rok_i ⟨Nat.le_refl _, Nat.le_refl _, hN1, hS1⟩ ?_
      refine z_eqi (show _ = nI (W (ppx (W (pcx k 0)) 0)) from p1.1.wat _ (wx_pp (by omega) (by omega)).symm (by unfold ppx; omega)) ?_
      refine z_icmp_ge dX9_fail_26 rfl (fun _ => ?_) (fun c => absurd ((nI_leI (by omega) (by omega)).mpr (by omega)) c)
      refine z_aload_n dX9_fail_33 rfl rfl ?_
      refine z_iload_n dX9_fail_34 rfl rfl ?_
      refine z_iconst (v := 0) dX9_fail_35 (by decide) ?_
      refine y_callV (as := [_, _]) CX9_get LX9_87 IX9_get VX9_get ⟨rfl, Nat.le_of_ble_eq_true rfl⟩ dX9_fail_36 (r2.1.O hm.o) rfl (Nat.le_of_ble_eq_true rfl) (Nat.le_of_ble_eq_true rfl) (by omega) (r_get (j := (W (pcx k 0))) (w := 0) (by exact hm1) (by omega) (by omega)) rok_i ⟨Nat.le_refl _, Nat.le_refl _, hN1, hS1⟩ ?_
      refine z_eqi (show _ = nI (W (ppx (W (pcx k 0)) 0)) from p1.1.wat _ (wx_pp (by omega) (by omega)).symm (by unfold ppx; omega)) ?_
      refine z_eqi (y := nI pd) (congrArg nI (by omega)) ?_
      refine z_istore dX9_fail_39 (Nat.le_of_ble_eq_true rfl) ?_
      refine z_aload_n dX9_fail_41 rfl rfl ?_
      refine z_iload_n dX9_fail_42 rfl rfl ?_
      refine z_iconst (v := 0) dX9_fail_43 (by decide) ?_
      refine z_aload_n dX9_fail_44 rfl rfl ?_
      refine z_iload_n dX9_fail_45 rfl rfl ?_
      refine z_iconst (v := 0) dX9_fail_46 (by decide) ?_
      refine y_callV (as := [_, _]) CX9_get LX9_87 IX9_get VX9_get ⟨rfl, Nat.le_of_ble_eq_true rfl⟩ dX9_fail_47 (r2.1.O hm.o) rfl (Nat.le_of_ble_eq_true rfl) (Nat.le_of_ble_eq_true rfl) (by omega) (r_get (j := (W (pcx k 0))) (w := 0) (by exact hm1) (by omega) (by omega)) rok_i ⟨Nat.le_refl _, Nat.le_refl _, hN1, hS1⟩ ?_
      refine z_eqi (show _ = nI (W (ppx (W (pcx k 0)) 0)) from p1.1.wat _ (wx_pp (by omega) (by omega)).symm (by unfold ppx; omega)) ?_
      refine z_iload dX9_fail_50 rfl ?_
      refine z_isub dX9_fail_52 ?_
      refine z_eqi (pk_sub (by omega)) ?_
      refine y_callV (as := [_, _, _]) CX9_put LX9_79 IX9_put VX9_put ⟨rfl, Nat.le_of_ble_eq_true rfl⟩ dX9_fail_53 (r2.1.O hm.o) rfl (Nat.le_of_ble_eq_true rfl) (Nat.le_of_ble_eq_true rfl) (by omega) (r_put (j := (W (pcx k 0))) (w := 0) (by exact hm1) (by omega) (by omega)) rok_v ⟨Nat.le_refl _, Nat.le_refl _, hN1, hS1⟩ ?_
      refine z_iload dX9_fail_56 rfl ?_
      refine z_iload_n dX9_fail_58 rfl rfl ?_
      refine z_icmp_ge dX9_fail_59 rfl (fun _ => ?_) (fun c => absurd ((nI_leI (by omega) (by omega)).mpr (by omega)) c)
      refine z_aload_n dX9_fail_69 rfl rfl ?_
      refine z_iload_n dX9_fail_70 rfl rfl ?_
      refine z_iconst (v := 2) dX9_fail_71 (by decide) ?_
      refine z_iload dX9_fail_72 rfl ?_
      refine y_callV (as := [_, _, _]) CX9_endNow LX9_341 IX9_endNow VX9_endNow ⟨rfl, Nat.le_of_ble_eq_true rfl⟩ dX9_fail_74 (r2.1.O hm.o) rfl (Nat.le_of_ble_eq_true rfl) (Nat.le_of_ble_eq_true rfl) (by omega) w1 rok_v (hg_ss w3.1 hN1 hS1) ?_
      refine z_vret dX9_fail_77 ?_
      exact hQ

