/-! a day passes: the class, its pieces (walks by program: wip/whole/gen64.py) -/
/-- what a day may change of the class: the world w, the reckoner -/
def FD (w : Nat) (h h1 : Hp) : Prop := SS h h1 ∧ pJ h1 = pJ h ∧ ∀ k, (k < w ∨ w + 6 < k) → k ≠ 482 → k ≠ 483 → pI h1 k = pI h k
theorem FD.rf {w : Nat} {h : Hp} : FD w h h := ⟨rfl, rfl, fun _ _ _ _ => rfl⟩
theorem FD.tr {w : Nat} {a b c : Hp} (h1 : FD w a b) (h2 : FD w b c) : FD w a c := ⟨h1.1.tr h2.1, h2.2.1.trans h1.2.1, fun k e1 e2 e3 => (h2.2.2 k e1 e2 e3).trans (h1.2.2 k e1 e2 e3)⟩
theorem FR.d {w : Nat} {h h1 : Hp} (f : FR w (w + 6) h h1) : FD w h h1 := ⟨f.1, f.2.1, fun k e _ _ => f.2.2 k e⟩
theorem FR.l {w : Nat} {h h1 : Hp} (f : FR 482 483 h h1) : FD w h h1 := ⟨f.1, f.2.1, fun k _ e1 e2 => f.2.2 k (by omega)⟩
theorem CLW.st {h h1 : Hp} {a : Fl} {tf : Nat → Int32} {w : Nat} {W W' : Fl} (c : CLW h a tf w W) (f : FD w h h1) (hv : WV h1 w W') (hw : w = 10 ∨ w = 465) : CLW h1 a tf w W' := by
  obtain ⟨h8, hx0, hx4, hk, hs, hz, mo, hww, _, hwb⟩ := c
  exact ⟨f.1.O h8, by rw [f.1.R]; exact hx0, by rw [f.1.R]; exact hx4, f.1.rk hk, f.1.mk hs, f.1.Z hz, mo.fr f.1 (f.2.2 9 (by omega) (by omega) (by omega)) (f.2.2 18 (by omega) (by omega) (by omega)) (f.2.2 19 (by omega) (by omega) (by omega)) (fun k hk => f.2.2 k (by omega) (by omega) (by omega)), f.1.wo hww, hv, hwb⟩
theorem CLW.wv {h h1 : Hp} {a : Fl} {tf : Nat → Int32} {w : Nat} {W : Fl} (c : CLW h a tf w W) (f : FR 482 483 h h1) : WV h1 w W := c.2.2.2.2.2.2.2.2.1.fr (fun k h1 h2 => f.2.2 k (by have := c.2.2.2.2.2.2.2.2.2; omega))

theorem c_draw {h : Hp} {d w : Nat} {W : Fl} (hw : WoS h w) (hv : WV h w W) (hx : W 2 < 30553) : Sp d mX7_draw [.ref w] h (some (.int (nI (W 2)))) (sI h w 1 (nI (nxD (W 2)))) := by
  intro N S Q hN hS hQ
  refine z_aload_n dX7_draw_0 rfl rfl ?_
  refine y_getI FX7_9 dX7_draw_1 (Or.inl rfl) hw.1 ?_
  refine z_eqi (y := nI (W 2)) hv.2.1 ?_
  refine z_istore_n dX7_draw_4 rfl (Nat.le_of_ble_eq_true rfl) ?_
  refine z_aload_n dX7_draw_5 rfl rfl ?_
  refine z_aload_n dX7_draw_6 rfl rfl ?_
  refine y_getI FX7_9 dX7_draw_7 (Or.inl rfl) hw.1 ?_
  refine z_eqi (y := nI (W 2)) hv.2.1 ?_
  refine z_sipush (v := 431) dX7_draw_10 (by decide) ?_
  refine z_imul dX7_draw_13 ?_
  refine z_eqi (pk_mul (W 2) 431) ?_
  refine z_sipush (v := 311) dX7_draw_14 (by decide) ?_
  refine z_iadd dX7_draw_17 ?_
  refine z_eqi (nI_add (W 2 * 431) 311) ?_
  refine z_sipush (v := 30553) dX7_draw_18 (by decide) ?_
  refine z_irem dX7_draw_21 (by decide) ?_
  refine z_eqi (irem_n (a := W 2 * 431 + 311) (d := 30553) (by omega) (by omega) (by omega)) ?_
  refine y_putI FX7_9 dX7_draw_22 (Or.inl rfl) (Or.inl rfl) hw.1 ?_
  refine z_iload_n dX7_draw_25 rfl rfl ?_
  refine z_iret dX7_draw_26 ?_
  exact hQ

theorem s_met {h : Hp} {d al f g : Nat} (ha : al = 0 ∨ al = 1) (hf : f < 256) (hg : g < 256) : Sp d mX8_met [.int (nI al), .int (nI f), .int (nI g)] h (some (.int (bI (metB al f g = true)))) h := by
  intro N S Q hN hS hQ
  rcases ha with rfl | rfl
  · have e : metB 0 f g = true ↔ ¬ f &&& g = 0 := by unfold metB; simp
    refine z_iload_n dX8_met_0 rfl rfl ?_
    refine z_if_eq dX8_met_1 rfl (fun _ => ?_) (fun c => absurd (rfl) c)
    refine z_iload_n dX8_met_20 rfl rfl ?_
    refine z_iload_n dX8_met_21 rfl rfl ?_
    refine z_iand dX8_met_22 ?_
    refine z_if_eq dX8_met_23 rfl (fun c23 => ?_) (fun c23 => ?_)
    · -- to 30
      refine z_iconst (v := 0) dX8_met_30 (by decide) ?_
      refine z_iret dX8_met_31 ?_
      first
        | (rw [bI_f (fun q => (e.mp q) ((nI_meet_iff (by omega)).mp c23))] at hQ; exact hQ)
        | (rw [bI_t (e.mpr (fun q => c23 ((nI_meet_iff (by omega)).mpr q)))] at hQ; exact hQ)
    · -- on
      refine z_iconst (v := 1) dX8_met_26 (by decide) ?_
      refine z_goto dX8_met_27 rfl ?_
      refine z_iret dX8_met_31 ?_
      first
        | (rw [bI_f (fun q => (e.mp q) ((nI_meet_iff (by omega)).mp c23))] at hQ; exact hQ)
        | (rw [bI_t (e.mpr (fun q => c23 ((nI_meet_iff (by omega)).mpr q)))] at hQ; exact hQ)
  · have e : metB 1 f g = true ↔ f &&& g = f := by unfold metB; simp
    refine z_iload_n dX8_met_0 rfl rfl ?_
    refine z_if_eq dX8_met_1 rfl (fun c => absurd c (by decide)) (fun _ => ?_)
    refine z_iload_n dX8_met_4 rfl rfl ?_
    refine z_iload_n dX8_met_5 rfl rfl ?_
    refine z_iconst (v := -1) dX8_met_6 (by decide) ?_
    refine z_ixor dX8_met_7 ?_
    refine z_iand dX8_met_8 ?_
    refine z_if_ne dX8_met_9 rfl (fun c9 => ?_) (fun c9 => ?_)
    · -- to 16
      refine z_iconst (v := 0) dX8_met_16 (by decide) ?_
      refine z_goto dX8_met_17 rfl ?_
      refine z_iret dX8_met_31 ?_
      first
        | (rw [bI_f (fun q => c9 ((nI_sub_iff hf hg).mpr (e.mp q)))] at hQ; exact hQ)
        | (rw [bI_t (e.mpr ((nI_sub_iff hf hg).mp c9))] at hQ; exact hQ)
        | (rw [bI_t (e.mpr ((nI_sub_iff hf hg).mp (Classical.not_not.mp c9)))] at hQ; exact hQ)
    · -- on
      refine z_iconst (v := 1) dX8_met_12 (by decide) ?_
      refine z_goto dX8_met_13 rfl ?_
      refine z_iret dX8_met_31 ?_
      first
        | (rw [bI_f (fun q => c9 ((nI_sub_iff hf hg).mpr (e.mp q)))] at hQ; exact hQ)
        | (rw [bI_t (e.mpr ((nI_sub_iff hf hg).mp c9))] at hQ; exact hQ)
        | (rw [bI_t (e.mpr ((nI_sub_iff hf hg).mp (Classical.not_not.mp c9)))] at hQ; exact hQ)

theorem c_wouldHold {h : Hp} {d w : Nat} {W : Fl} (hw : WoS h w) (hv : WV h w W) {k g n : Nat} (hW : IW n W) (hn : n ≤ 8) (hk : k < W 4) (hg : g < 256) (hd : 1 ≤ d) : Sp d mX7_wouldHold [.ref w, .int (nI k), .int (nI g)] h (some (.int (bI (metB (W (pcx k 1)) (W (pcx k 2)) g = true)))) h := by
  intro N S Q hN hS hQ
  have cc := hW.2.2.1 k hk
  have p2 : 2 ^ n ≤ 2 ^ 8 := Nat.pow_le_pow_right (by omega) (by omega)
  rcases (show W (pcx k 1) = 0 ∨ W (pcx k 1) = 1 by omega) with e | e
  · rw [e] at hQ
    refine z_aload_n dX7_wouldHold_0 rfl rfl ?_
    refine y_getR FX7_24 dX7_wouldHold_1 rfl hw.1 hw.2.2.2.1 ?_
    refine z_iload_n dX7_wouldHold_4 rfl rfl ?_
    refine z_iconst (v := 1) dX7_wouldHold_5 (by decide) ?_
    refine y_callV (as := [_, _]) CX4_get LX7_48 IX4_get VX4_get ⟨rfl, Nat.le_of_ble_eq_true rfl⟩ dX7_wouldHold_6 hw.2.2.2.2.1.1 rfl (Nat.le_of_ble_eq_true rfl) (Nat.le_of_ble_eq_true rfl) (by omega) (s_get (w := 6) (ms := 12) (i := k) (j := 1) (by exact hw.2.2.2.2.1) hv.2.2.2.2.2.1 hk (by omega)) rok_i ⟨Nat.le_refl _, Nat.le_refl _, hN, hS⟩ ?_
    refine z_eqi (show _ = nI (W (pcx k 1)) from hv.k hk (by omega)) ?_
    refine z_iconst (v := 1) dX7_wouldHold_9 (by decide) ?_
    refine z_icmp_ne dX7_wouldHold_10 rfl (fun _ => ?_) (fun c => absurd c (by rw [e]; decide))
    refine z_iconst (v := 0) dX7_wouldHold_17 (by decide) ?_
    refine z_aload_n dX7_wouldHold_18 rfl rfl ?_
    refine y_getR FX7_24 dX7_wouldHold_19 rfl hw.1 hw.2.2.2.1 ?_
    refine z_iload_n dX7_wouldHold_22 rfl rfl ?_
    refine z_iconst (v := 2) dX7_wouldHold_23 (by decide) ?_
    refine y_callV (as := [_, _]) CX4_get LX7_48 IX4_get VX4_get ⟨rfl, Nat.le_of_ble_eq_true rfl⟩ dX7_wouldHold_24 hw.2.2.2.2.1.1 rfl (Nat.le_of_ble_eq_true rfl) (Nat.le_of_ble_eq_true rfl) (by omega) (s_get (w := 6) (ms := 12) (i := k) (j := 2) (by exact hw.2.2.2.2.1) hv.2.2.2.2.2.1 hk (by omega)) rok_i ⟨Nat.le_refl _, Nat.le_refl _, hN, hS⟩ ?_
    refine z_eqi (show _ = nI (W (pcx k 2)) from hv.k hk (by omega)) ?_
    refine z_iload_n dX7_wouldHold_27 rfl rfl ?_
    refine y_callS (as := [_, _, _]) CX8_met LX7_62 SX8_met dX7_wouldHold_28 rfl (Nat.le_of_ble_eq_true rfl) (Nat.le_of_ble_eq_true rfl) (by omega) (s_met (al := 0) (f := W (pcx k 2)) (g := g) (by omega) (by omega) hg) (rok_z bI_01) ⟨Nat.le_refl _, Nat.le_refl _, hN, hS⟩ ?_
    refine z_iret dX7_wouldHold_31 ?_
    exact hQ
  · rw [e] at hQ
    refine z_aload_n dX7_wouldHold_0 rfl rfl ?_
    refine y_getR FX7_24 dX7_wouldHold_1 rfl hw.1 hw.2.2.2.1 ?_
    refine z_iload_n dX7_wouldHold_4 rfl rfl ?_
    refine z_iconst (v := 1) dX7_wouldHold_5 (by decide) ?_
    refine y_callV (as := [_, _]) CX4_get LX7_48 IX4_get VX4_get ⟨rfl, Nat.le_of_ble_eq_true rfl⟩ dX7_wouldHold_6 hw.2.2.2.2.1.1 rfl (Nat.le_of_ble_eq_true rfl) (Nat.le_of_ble_eq_true rfl) (by omega) (s_get (w := 6) (ms := 12) (i := k) (j := 1) (by exact hw.2.2.2.2.1) hv.2.2.2.2.2.1 hk (by omega)) rok_i ⟨Nat.le_refl _, Nat.le_refl _, hN, hS⟩ ?_
    refine z_eqi (show _ = nI (W (pcx k 1)) from hv.k hk (by omega)) ?_
    refine z_iconst (v := 1) dX7_wouldHold_9 (by decide) ?_
    refine z_icmp_ne dX7_wouldHold_10 rfl (fun c => absurd (by rw [e]; rfl) c) (fun _ => ?_)
    refine z_iconst (v := 1) dX7_wouldHold_13 (by decide) ?_
    refine z_goto dX7_wouldHold_14 rfl ?_
    refine z_aload_n dX7_wouldHold_18 rfl rfl ?_
    refine y_getR FX7_24 dX7_wouldHold_19 rfl hw.1 hw.2.2.2.1 ?_
    refine z_iload_n dX7_wouldHold_22 rfl rfl ?_
    refine z_iconst (v := 2) dX7_wouldHold_23 (by decide) ?_
    refine y_callV (as := [_, _]) CX4_get LX7_48 IX4_get VX4_get ⟨rfl, Nat.le_of_ble_eq_true rfl⟩ dX7_wouldHold_24 hw.2.2.2.2.1.1 rfl (Nat.le_of_ble_eq_true rfl) (Nat.le_of_ble_eq_true rfl) (by omega) (s_get (w := 6) (ms := 12) (i := k) (j := 2) (by exact hw.2.2.2.2.1) hv.2.2.2.2.2.1 hk (by omega)) rok_i ⟨Nat.le_refl _, Nat.le_refl _, hN, hS⟩ ?_
    refine z_eqi (show _ = nI (W (pcx k 2)) from hv.k hk (by omega)) ?_
    refine z_iload_n dX7_wouldHold_27 rfl rfl ?_
    refine y_callS (as := [_, _, _]) CX8_met LX7_62 SX8_met dX7_wouldHold_28 rfl (Nat.le_of_ble_eq_true rfl) (Nat.le_of_ble_eq_true rfl) (by omega) (s_met (al := 1) (f := W (pcx k 2)) (g := g) (by omega) (by omega) hg) (rok_z bI_01) ⟨Nat.le_refl _, Nat.le_refl _, hN, hS⟩ ?_
    refine z_iret dX7_wouldHold_31 ?_
    exact hQ

theorem c_holds {h : Hp} {d w : Nat} {W : Fl} (hw : WoS h w) (hv : WV h w W) {k n : Nat} (hW : IW n W) (hn : n ≤ 8) (hk : k < W 4) (hd : 2 ≤ d) : Sp d mX7_holds [.ref w, .int (nI k)] h (some (.int (bI (metB (W (pcx k 1)) (W (pcx k 2)) (W 3) = true)))) h := by
  intro N S Q hN hS hQ
  have p2 : 2 ^ n ≤ 2 ^ 8 := Nat.pow_le_pow_right (by omega) (by omega)
  have b3 := hW.1.2.2.2.1
  refine z_aload_n dX7_holds_0 rfl rfl ?_
  refine z_iload_n dX7_holds_1 rfl rfl ?_
  refine z_aload_n dX7_holds_2 rfl rfl ?_
  refine y_getI FX7_33 dX7_holds_3 (Or.inl rfl) hw.1 ?_
  refine z_eqi (y := nI (W 3)) hv.2.2.1 ?_
  refine y_callV (as := [_, _]) CX7_wouldHold LX7_58 IX7_wouldHold VX7_wouldHold ⟨rfl, Nat.le_of_ble_eq_true rfl⟩ dX7_holds_6 hw.1 rfl (Nat.le_of_ble_eq_true rfl) (Nat.le_of_ble_eq_true rfl) (by omega) (c_wouldHold (d := 1) (by exact hw) hv hW hn hk (by omega) (Nat.le_refl _)) (rok_z bI_01) ⟨Nat.le_refl _, Nat.le_refl _, hN, hS⟩ ?_
  refine z_iret dX7_holds_9 ?_
  exact hQ

theorem c_comeTrue {h : Hp} {d w : Nat} {W : Fl} (hw : WoS h w) (hv : WV h w W) {k r n : Nat} (hW : IW n W) (hk : k < W 4) (hr : r ≤ 9999) (hd : 4 ≤ d) : ∃ h1, Sp d mX7_comeTrue [.ref w, .int (nI k), .int (nI r)] h none h1 ∧ WV h1 w (wTrue 1 W k r) ∧ FR w (w + 6) h h1 := by
  have cc := hW.2.2.1 k hk
  have pp := hW.2.1 _ cc.1
  have b0 := hW.1.1
  have b4 := hW.1.2.2.2.2.1
  have v1 := WV.setP hv cc.1 (show 1 < 3 by omega) (v := min 99 (W (ppx (W (pcx k 0)) 1) + r)) rfl
  have v2 := WV.setC v1 (k := k) (by rw [up_n (by unfold ppx; omega)]; exact hk) (show 5 < 6 by omega) (v := 1) rfl
  obtain ⟨g, w1, w2, w3⟩ := c_write (d := 3) (k := k) (what := 0) (much := r) (by exact hw) v2 (by omega) (by omega) (by omega) (by omega)
  have ff : FR w (w + 6) h g := ((FR.rf.sI (by omega)).sI (by omega)).tr w3
  refine ⟨g, ?_, w2, ff⟩
  intro N S Q hN hS hQ
  have hN0 : pn h ≤ N := by rw [← ff.1.n]; exact hN
  have hS0 : ps h ≤ S := by rw [← ff.1.s]; exact hS
  have hN := hN0
  have hS := hS0
  refine z_aload_n dX7_comeTrue_0 rfl rfl ?_
  refine y_getR FX7_24 dX7_comeTrue_1 rfl hw.1 hw.2.2.2.1 ?_
  refine z_iload_n dX7_comeTrue_4 rfl rfl ?_
  refine z_iconst (v := 0) dX7_comeTrue_5 (by decide) ?_
  refine y_callV (as := [_, _]) CX4_get LX7_48 IX4_get VX4_get ⟨rfl, Nat.le_of_ble_eq_true rfl⟩ dX7_comeTrue_6 hw.2.2.2.2.1.1 rfl (Nat.le_of_ble_eq_true rfl) (Nat.le_of_ble_eq_true rfl) (by omega) (s_get (w := 6) (ms := 12) (i := k) (j := 0) (by exact hw.2.2.2.2.1) hv.2.2.2.2.2.1 hk (by omega)) rok_i ⟨Nat.le_refl _, Nat.le_refl _, hN, hS⟩ ?_
  refine z_eqi (show _ = nI (W (pcx k 0)) from hv.k hk (by omega)) ?_
  refine z_istore_n dX7_comeTrue_9 rfl (Nat.le_of_ble_eq_true rfl) ?_
  refine z_aload_n dX7_comeTrue_10 rfl rfl ?_
  refine y_getR FX7_20 dX7_comeTrue_11 rfl hw.1 hw.2.1 ?_
  refine z_iload_n dX7_comeTrue_14 rfl rfl ?_
  refine z_iconst (v := 1) dX7_comeTrue_15 (by decide) ?_
  refine y_callV (as := [_, _]) CX4_get LX7_48 IX4_get VX4_get ⟨rfl, Nat.le_of_ble_eq_true rfl⟩ dX7_comeTrue_16 hw.2.2.1.1 rfl (Nat.le_of_ble_eq_true rfl) (Nat.le_of_ble_eq_true rfl) (by omega) (s_get (w := 3) (ms := 5) (i := (W (pcx k 0))) (j := 1) (by exact hw.2.2.1) hv.2.2.2.1 cc.1 (by omega)) rok_i ⟨Nat.le_refl _, Nat.le_refl _, hN, hS⟩ ?_
  refine z_eqi (show _ = nI (W (ppx (W (pcx k 0)) 1)) from hv.p cc.1 (by omega)) ?_
  refine z_iload_n dX7_comeTrue_19 rfl rfl ?_
  refine z_iadd dX7_comeTrue_20 ?_
  refine z_eqi (nI_add (W (ppx (W (pcx k 0)) 1)) r) ?_
  refine z_istore dX7_comeTrue_21 (Nat.le_of_ble_eq_true rfl) ?_
  refine z_aload_n dX7_comeTrue_23 rfl rfl ?_
  refine y_getR FX7_20 dX7_comeTrue_24 rfl hw.1 hw.2.1 ?_
  refine z_iload_n dX7_comeTrue_27 rfl rfl ?_
  refine z_iconst (v := 1) dX7_comeTrue_28 (by decide) ?_
  refine z_bipush (v := 99) dX7_comeTrue_29 (by decide) ?_
  refine z_iload dX7_comeTrue_31 rfl ?_
  refine z_mmin Kmin_X7_66 Kmin_static Kini_Math Kmin_code dX7_comeTrue_33 (by omega) (Nat.le_of_ble_eq_true rfl) ?_
  refine z_eqi (show _ = nI (min 99 (W (ppx (W (pcx k 0)) 1) + r)) from mmin_n (x := 99) (y := W (ppx (W (pcx k 0)) 1) + r) (by omega) (by omega)) ?_
  refine y_callV (as := [_, _, _]) CX4_set LX7_71 IX4_set VX4_set ⟨rfl, Nat.le_of_ble_eq_true rfl⟩ dX7_comeTrue_36 hw.2.2.1.1 rfl (Nat.le_of_ble_eq_true rfl) (Nat.le_of_ble_eq_true rfl) (by omega) (s_set (w := 3) (ms := 5) (i := (W (pcx k 0))) (j := 1) (by exact hw.2.2.1) hv.2.2.2.1 cc.1 (by omega)) rok_v ⟨Nat.le_refl _, Nat.le_refl _, hN, hS⟩ ?_
  refine z_aload_n dX7_comeTrue_39 rfl rfl ?_
  refine y_getR FX7_24 dX7_comeTrue_40 rfl hw.1 hw.2.2.2.1 ?_
  refine z_iload_n dX7_comeTrue_43 rfl rfl ?_
  refine z_iconst (v := 5) dX7_comeTrue_44 (by decide) ?_
  refine z_iconst (v := 1) dX7_comeTrue_45 (by decide) ?_
  refine y_callV (as := [_, _, _]) CX4_set LX7_71 IX4_set VX4_set ⟨rfl, Nat.le_of_ble_eq_true rfl⟩ dX7_comeTrue_46 hw.2.2.2.2.1.1 rfl (Nat.le_of_ble_eq_true rfl) (Nat.le_of_ble_eq_true rfl) (by omega) (s_set (w := 6) (ms := 12) (i := k) (j := 5) (by exact hw.2.2.2.2.1) (hv.2.2.2.2.2.1.fr (pI_sI_ne (by omega))) hk (by omega)) rok_v ⟨Nat.le_refl _, Nat.le_refl _, hN, hS⟩ ?_
  refine z_aload_n dX7_comeTrue_49 rfl rfl ?_
  refine z_iconst (v := 0) dX7_comeTrue_50 (by decide) ?_
  refine z_iload_n dX7_comeTrue_51 rfl rfl ?_
  refine z_iload_n dX7_comeTrue_52 rfl rfl ?_
  refine y_callV (as := [_, _, _]) CX7_write LX7_75 IX7_write VX7_write ⟨rfl, Nat.le_of_ble_eq_true rfl⟩ dX7_comeTrue_53 hw.1 rfl (Nat.le_of_ble_eq_true rfl) (Nat.le_of_ble_eq_true rfl) (by omega) w1 rok_v (hg_ss w3.1 hN0 hS0) ?_
  refine z_vret dX7_comeTrue_56 ?_
  exact hQ

theorem c_fail {h : Hp} {d w : Nat} {W : Fl} (hw : WoS h w) (hv : WV h w W) {k dd n : Nat} (hW : IW n W) (hk : k < W 4) (hr : dd ≤ 9999) (hd : 4 ≤ d) : ∃ h1, Sp d mX7_fail [.ref w, .int (nI k), .int (nI dd)] h none h1 ∧ WV h1 w (wFail 1 W k dd) ∧ FR w (w + 6) h h1 := by
  have cc := hW.2.2.1 k hk
  have pp := hW.2.1 _ cc.1
  have b0 := hW.1.1
  have b4 := hW.1.2.2.2.2.1
  unfold wFail wFail1
  obtain ⟨pd, hpd⟩ : ∃ pd, min dd (W (ppx (W (pcx k 0)) 0)) = pd := ⟨_, rfl⟩
  rw [hpd]
  have v1 := WV.setP hv cc.1 (show 0 < 3 by omega) (v := (W (ppx (W (pcx k 0)) 0)) - pd) rfl
  by_cases hru : pd < dd
  · rw [if_pos hru]
    have v2 := WV.setP v1 (p := (W (pcx k 0))) (by rw [up_n (by unfold ppx; omega)]; exact cc.1) (show 2 < 3 by omega) (v := 1) (x := 1) rfl
    have v3 := WV.setC v2 (k := k) (by rw [up_n (by unfold ppx; omega), up_n (by unfold ppx; omega)]; exact hk) (show 5 < 6 by omega) (v := 2) (x := 2) rfl
    obtain ⟨g, w1, w2, w3⟩ := c_write (d := 3) (k := k) (what := 1) (much := pd) (by exact hw) v3 (by omega) (by omega) (by omega) (by omega)
    have ff : FR w (w + 6) h g := (((FR.rf.sI (by omega)).sI (by omega)).sI (by omega)).tr w3
    refine ⟨g, ?_, w2, ff⟩
    intro N S Q hN hS hQ
    have hN0 : pn h ≤ N := by rw [← ff.1.n]; exact hN
    have hS0 : ps h ≤ S := by rw [← ff.1.s]; exact hS
    have hN := hN0
    have hS := hS0
    refine z_aload_n dX7_fail_0 rfl rfl ?_
    refine y_getR FX7_24 dX7_fail_1 rfl hw.1 hw.2.2.2.1 ?_
    refine z_iload_n dX7_fail_4 rfl rfl ?_
    refine z_iconst (v := 0) dX7_fail_5 (by decide) ?_
    refine y_callV (as := [_, _]) CX4_get LX7_48 IX4_get VX4_get ⟨rfl, Nat.le_of_ble_eq_true rfl⟩ dX7_fail_6 hw.2.2.2.2.1.1 rfl (Nat.le_of_ble_eq_true rfl) (Nat.le_of_ble_eq_true rfl) (by omega) (s_get (w := 6) (ms := 12) (i := k) (j := 0) (by exact hw.2.2.2.2.1) hv.2.2.2.2.2.1 hk (by omega)) rok_i ⟨Nat.le_refl _, Nat.le_refl _, hN, hS⟩ ?_
    refine z_eqi (show _ = nI (W (pcx k 0)) from hv.k hk (by omega)) ?_
    refine z_istore_n dX7_fail_9 rfl (Nat.le_of_ble_eq_true rfl) ?_
    refine z_iload_n dX7_fail_10 rfl rfl ?_
    refine z_aload_n dX7_fail_11 rfl rfl ?_
    refine y_getR FX7_20 dX7_fail_12 rfl hw.1 hw.2.1 ?_
    refine z_iload_n dX7_fail_15 rfl rfl ?_
    refine z_iconst (v := 0) dX7_fail_16 (by decide) ?_
    refine y_callV (as := [_, _]) CX4_get LX7_48 IX4_get VX4_get ⟨rfl, Nat.le_of_ble_eq_true rfl⟩ dX7_fail_17 hw.2.2.1.1 rfl (Nat.le_of_ble_eq_true rfl) (Nat.le_of_ble_eq_true rfl) (by omega) (s_get (w := 3) (ms := 5) (i := (W (pcx k 0))) (j := 0) (by exact hw.2.2.1) hv.2.2.2.1 cc.1 (by omega)) rok_i ⟨Nat.le_refl _, Nat.le_refl _, hN, hS⟩ ?_
    refine z_eqi (show _ = nI (W (ppx (W (pcx k 0)) 0)) from hv.p cc.1 (by omega)) ?_
    refine z_mmin Kmin_X7_66 Kmin_static Kini_Math Kmin_code dX7_fail_20 (by omega) (Nat.le_of_ble_eq_true rfl) ?_
    refine z_eqi (show _ = nI pd by rw [← hpd]; exact mmin_n (x := dd) (y := (W (ppx (W (pcx k 0)) 0))) (by omega) (by omega)) ?_
    refine z_istore dX7_fail_23 (Nat.le_of_ble_eq_true rfl) ?_
    refine z_aload_n dX7_fail_25 rfl rfl ?_
    refine z_iload_n dX7_fail_26 rfl rfl ?_
    refine z_iload dX7_fail_27 rfl ?_
    refine y_callV (as := [_, _]) CX7_lose LX7_78 IX7_lose VX7_lose ⟨rfl, Nat.le_of_ble_eq_true rfl⟩ dX7_fail_29 hw.1 rfl (Nat.le_of_ble_eq_true rfl) (Nat.le_of_ble_eq_true rfl) (by omega) (c_lose (W := W) (p := (W (pcx k 0))) (m := pd) (d := 1) (by exact hw) hv cc.1 (by omega) (Nat.le_refl _)) rok_v ⟨Nat.le_refl _, Nat.le_refl _, hN, hS⟩ ?_
    refine z_iload dX7_fail_32 rfl ?_
    refine z_iload_n dX7_fail_34 rfl rfl ?_
    refine z_icmp_ge dX7_fail_35 rfl (fun c => absurd c (fun q => absurd ((nI_leI (by omega) (by omega)).mp q) (by omega))) (fun _ => ?_)
    refine z_aload_n dX7_fail_38 rfl rfl ?_
    refine y_getR FX7_20 dX7_fail_39 rfl hw.1 hw.2.1 ?_
    refine z_iload_n dX7_fail_42 rfl rfl ?_
    refine z_iconst (v := 2) dX7_fail_43 (by decide) ?_
    refine z_iconst (v := 1) dX7_fail_44 (by decide) ?_
    refine y_callV (as := [_, _, _]) CX4_set LX7_71 IX4_set VX4_set ⟨rfl, Nat.le_of_ble_eq_true rfl⟩ dX7_fail_45 hw.2.2.1.1 rfl (Nat.le_of_ble_eq_true rfl) (Nat.le_of_ble_eq_true rfl) (by omega) (s_set (w := 3) (ms := 5) (i := (W (pcx k 0))) (j := 2) (by exact hw.2.2.1) (hv.2.2.2.1.fr (pI_sI_ne (by omega))) cc.1 (by omega)) rok_v ⟨Nat.le_refl _, Nat.le_refl _, hN, hS⟩ ?_
    refine z_aload_n dX7_fail_48 rfl rfl ?_
    refine y_getR FX7_24 dX7_fail_49 rfl hw.1 hw.2.2.2.1 ?_
    refine z_iload_n dX7_fail_52 rfl rfl ?_
    refine z_iconst (v := 5) dX7_fail_53 (by decide) ?_
    refine z_iconst (v := 2) dX7_fail_54 (by decide) ?_
    refine y_callV (as := [_, _, _]) CX4_set LX7_71 IX4_set VX4_set ⟨rfl, Nat.le_of_ble_eq_true rfl⟩ dX7_fail_55 hw.2.2.2.2.1.1 rfl (Nat.le_of_ble_eq_true rfl) (Nat.le_of_ble_eq_true rfl) (by omega) (s_set (w := 6) (ms := 12) (i := k) (j := 5) (by exact hw.2.2.2.2.1) (hv.2.2.2.2.2.1.fr (by (repeat rw [pI_sI_ne (by omega)]) <;> rfl)) hk (by omega)) rok_v ⟨Nat.le_refl _, Nat.le_refl _, hN, hS⟩ ?_
    refine z_aload_n dX7_fail_58 rfl rfl ?_
    refine z_iconst (v := 1) dX7_fail_59 (by decide) ?_
    refine z_iload_n dX7_fail_60 rfl rfl ?_
    refine z_iload dX7_fail_61 rfl ?_
    refine y_callV (as := [_, _, _]) CX7_write LX7_75 IX7_write VX7_write ⟨rfl, Nat.le_of_ble_eq_true rfl⟩ dX7_fail_63 hw.1 rfl (Nat.le_of_ble_eq_true rfl) (Nat.le_of_ble_eq_true rfl) (by omega) w1 rok_v (hg_ss w3.1 hN0 hS0) ?_
    refine z_vret dX7_fail_66 ?_
    exact hQ
  · rw [if_neg hru]
    have v3 := WV.setC v1 (k := k) (by rw [up_n (by unfold ppx; omega)]; exact hk) (show 5 < 6 by omega) (v := 2) (x := 2) rfl
    obtain ⟨g, w1, w2, w3⟩ := c_write (d := 3) (k := k) (what := 1) (much := pd) (by exact hw) v3 (by omega) (by omega) (by omega) (by omega)
    have ff : FR w (w + 6) h g := ((FR.rf.sI (by omega)).sI (by omega)).tr w3
    refine ⟨g, ?_, w2, ff⟩
    intro N S Q hN hS hQ
    have hN0 : pn h ≤ N := by rw [← ff.1.n]; exact hN
    have hS0 : ps h ≤ S := by rw [← ff.1.s]; exact hS
    have hN := hN0
    have hS := hS0
    refine z_aload_n dX7_fail_0 rfl rfl ?_
    refine y_getR FX7_24 dX7_fail_1 rfl hw.1 hw.2.2.2.1 ?_
    refine z_iload_n dX7_fail_4 rfl rfl ?_
    refine z_iconst (v := 0) dX7_fail_5 (by decide) ?_
    refine y_callV (as := [_, _]) CX4_get LX7_48 IX4_get VX4_get ⟨rfl, Nat.le_of_ble_eq_true rfl⟩ dX7_fail_6 hw.2.2.2.2.1.1 rfl (Nat.le_of_ble_eq_true rfl) (Nat.le_of_ble_eq_true rfl) (by omega) (s_get (w := 6) (ms := 12) (i := k) (j := 0) (by exact hw.2.2.2.2.1) hv.2.2.2.2.2.1 hk (by omega)) rok_i ⟨Nat.le_refl _, Nat.le_refl _, hN, hS⟩ ?_
    refine z_eqi (show _ = nI (W (pcx k 0)) from hv.k hk (by omega)) ?_
    refine z_istore_n dX7_fail_9 rfl (Nat.le_of_ble_eq_true rfl) ?_
    refine z_iload_n dX7_fail_10 rfl rfl ?_
    refine z_aload_n dX7_fail_11 rfl rfl ?_
    refine y_getR FX7_20 dX7_fail_12 rfl hw.1 hw.2.1 ?_
    refine z_iload_n dX7_fail_15 rfl rfl ?_
    refine z_iconst (v := 0) dX7_fail_16 (by decide) ?_
    refine y_callV (as := [_, _]) CX4_get LX7_48 IX4_get VX4_get ⟨rfl, Nat.le_of_ble_eq_true rfl⟩ dX7_fail_17 hw.2.2.1.1 rfl (Nat.le_of_ble_eq_true rfl) (Nat.le_of_ble_eq_true rfl) (by omega) (s_get (w := 3) (ms := 5) (i := (W (pcx k 0))) (j := 0) (by exact hw.2.2.1) hv.2.2.2.1 cc.1 (by omega)) rok_i ⟨Nat.le_refl _, Nat.le_refl _, hN, hS⟩ ?_
    refine z_eqi (show _ = nI (W (ppx (W (pcx k 0)) 0)) from hv.p cc.1 (by omega)) ?_
    refine z_mmin Kmin_X7_66 Kmin_static Kini_Math Kmin_code dX7_fail_20 (by omega) (Nat.le_of_ble_eq_true rfl) ?_
    refine z_eqi (show _ = nI pd by rw [← hpd]; exact mmin_n (x := dd) (y := (W (ppx (W (pcx k 0)) 0))) (by omega) (by omega)) ?_
    refine z_istore dX7_fail_23 (Nat.le_of_ble_eq_true rfl) ?_
    refine z_aload_n dX7_fail_25 rfl rfl ?_
    refine z_iload_n dX7_fail_26 rfl rfl ?_
    refine z_iload dX7_fail_27 rfl ?_
    refine y_callV (as := [_, _]) CX7_lose LX7_78 IX7_lose VX7_lose ⟨rfl, Nat.le_of_ble_eq_true rfl⟩ dX7_fail_29 hw.1 rfl (Nat.le_of_ble_eq_true rfl) (Nat.le_of_ble_eq_true rfl) (by omega) (c_lose (W := W) (p := (W (pcx k 0))) (m := pd) (d := 1) (by exact hw) hv cc.1 (by omega) (Nat.le_refl _)) rok_v ⟨Nat.le_refl _, Nat.le_refl _, hN, hS⟩ ?_
    refine z_iload dX7_fail_32 rfl ?_
    refine z_iload_n dX7_fail_34 rfl rfl ?_
    refine z_icmp_ge dX7_fail_35 rfl (fun _ => ?_) (fun c => absurd ((nI_leI (by omega) (by omega)).mpr (by omega)) c)
    refine z_aload_n dX7_fail_48 rfl rfl ?_
    refine y_getR FX7_24 dX7_fail_49 rfl hw.1 hw.2.2.2.1 ?_
    refine z_iload_n dX7_fail_52 rfl rfl ?_
    refine z_iconst (v := 5) dX7_fail_53 (by decide) ?_
    refine z_iconst (v := 2) dX7_fail_54 (by decide) ?_
    refine y_callV (as := [_, _, _]) CX4_set LX7_71 IX4_set VX4_set ⟨rfl, Nat.le_of_ble_eq_true rfl⟩ dX7_fail_55 hw.2.2.2.2.1.1 rfl (Nat.le_of_ble_eq_true rfl) (Nat.le_of_ble_eq_true rfl) (by omega) (s_set (w := 6) (ms := 12) (i := k) (j := 5) (by exact hw.2.2.2.2.1) (hv.2.2.2.2.2.1.fr (by (repeat rw [pI_sI_ne (by omega)]) <;> rfl)) hk (by omega)) rok_v ⟨Nat.le_refl _, Nat.le_refl _, hN, hS⟩ ?_
    refine z_aload_n dX7_fail_58 rfl rfl ?_
    refine z_iconst (v := 1) dX7_fail_59 (by decide) ?_
    refine z_iload_n dX7_fail_60 rfl rfl ?_
    refine z_iload dX7_fail_61 rfl ?_
    refine y_callV (as := [_, _, _]) CX7_write LX7_75 IX7_write VX7_write ⟨rfl, Nat.le_of_ble_eq_true rfl⟩ dX7_fail_63 hw.1 rfl (Nat.le_of_ble_eq_true rfl) (Nat.le_of_ble_eq_true rfl) (by omega) w1 rok_v (hg_ss w3.1 hN0 hS0) ?_
    refine z_vret dX7_fail_66 ?_
    exact hQ

