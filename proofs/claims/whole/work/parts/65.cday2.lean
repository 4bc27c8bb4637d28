/-! a day passes: the class (walks by program: wip/whole/gen65.py) -/
theorem mComes_2 {tf : Nat → Int32} {a V : Fl} {v f : Nat} : mComes tf a (up V 2 v) f = mComes tf a V f := by
  unfold mComes
  have e3 : up V 2 v 3 = V 3 := up_n (by omega)
  have e1 : up V 2 v 1 = V 1 := up_n (by omega)
  have ee : envC a (up V 2 v) f = envC a V f := by
    funext j
    unfold envC
    rw [e1, e3]
  rw [ee, e3]

theorem c_settle {h : Hp} {d w n : Nat} {a W : Fl} {tf : Nat → Int32} (cl : CLW h a tf w W) (hw2 : w = 10 ∨ w = 465) (hW : IW n W) (hn : n = a 0) (h0 : a 0 ≤ 8) (h2 : a 2 ≤ 4) (h3 : a 3 ≤ a 2) (hT : a 3 ≠ 0 → TXV tf (a 3 - 1)) {k : Nat} (hk1 : k < W 4) (ho : W (pcx k 5) = 0) (hd : 5 ≤ d) : ∃ h1, Sp d mX8_settle [.ref 8, .ref w, .int (nI k)] h (some (.int (nI (enK W k)))) h1 ∧ WV h1 w (stK 1 tf (a 3) k W) ∧ FD w h h1 := by
  obtain ⟨h8, hx0, hx4, hk, hs, hz, mo, hw, hv, hwb⟩ := id cl
  obtain ⟨⟨b0, b1, b2, b3, b4, b5⟩, bp, bc, bb⟩ := id hW
  have cc := bc k hk1
  have q2 := pcn_le (W (pcx k 2))
  by_cases hmt : metB (W (pcx k 1)) (W (pcx k 2)) (W 3) = true
  · have e1 : stK 1 tf (a 3) k W = wTrue 1 W k (mRen tf (a 3) W k) := by unfold stK; rw [if_pos ho, if_pos hmt]
    have e2 : enK W k = 1 := if_pos ⟨ho, Or.inl hmt⟩
    rw [e1, e2]
    obtain ⟨g1, r1, r2⟩ := c_renownNow (d := 4) cl hW hn h0 h2 h3 hk1 hT (Nat.le_refl _)
    have br : mRen tf (a 3) W k ≤ 99 := mSays_le (by omega)
    obtain ⟨g2, t1, t2, t3⟩ := c_comeTrue (d := 4) (k := k) (r := mRen tf (a 3) W k) (r2.1.wo hw) (cl.wv r2) hW hk1 (by omega) (Nat.le_refl _)
    have ff : FD w h g2 := r2.l.tr t3.d
    refine ⟨g2, ?_, t2, ff⟩
    intro N S Q hN hS hQ
    have hN0 : pn h ≤ N := by rw [← ff.1.n]; exact hN
    have hS0 : ps h ≤ S := by rw [← ff.1.s]; exact hS
    have hN1 : pn g1 ≤ N := by rw [r2.1.n]; exact hN0
    have hS1 : ps g1 ≤ S := by rw [r2.1.s]; exact hS0
    refine z_aload_n dX8_settle_0 rfl rfl ?_
    refine z_iload_n dX8_settle_1 rfl rfl ?_
    refine y_callV (as := [_]) CX7_holds LX8_188 IX7_holds VX7_holds ⟨rfl, Nat.le_of_ble_eq_true rfl⟩ dX8_settle_2 hw.1 rfl (Nat.le_of_ble_eq_true rfl) (Nat.le_of_ble_eq_true rfl) (by omega) (c_holds (d := 2) hw hv hW (by omega) hk1 (Nat.le_refl _)) (rok_z bI_01) ⟨Nat.le_refl _, Nat.le_refl _, hN0, hS0⟩ ?_
    refine z_istore_n dX8_settle_5 rfl (Nat.le_of_ble_eq_true rfl) ?_
    refine z_iload_n dX8_settle_6 rfl rfl ?_
    refine z_if_ne dX8_settle_7 rfl (fun _ => ?_) (fun c => absurd c (bI_ne0.mpr hmt))
    refine z_iload_n dX8_settle_28 rfl rfl ?_
    refine z_if_eq dX8_settle_29 rfl (fun c => absurd c (bI_ne0.mpr hmt)) (fun _ => ?_)
    refine z_aload_n dX8_settle_32 rfl rfl ?_
    refine z_iload_n dX8_settle_33 rfl rfl ?_
    refine z_aload_n dX8_settle_34 rfl rfl ?_
    refine z_aload_n dX8_settle_35 rfl rfl ?_
    refine z_iload_n dX8_settle_36 rfl rfl ?_
    refine y_callV (as := [_, _]) CX8_renownNow LX8_191 IX8_renownNow VX8_renownNow ⟨rfl, Nat.le_of_ble_eq_true rfl⟩ dX8_settle_37 h8 rfl (Nat.le_of_ble_eq_true rfl) (Nat.le_of_ble_eq_true rfl) (by omega) r1 rok_i (hg_ss r2.1 hN0 hS0) ?_
    refine y_callV (as := [_, _]) CX7_comeTrue LX8_194 IX7_comeTrue VX7_comeTrue ⟨rfl, Nat.le_of_ble_eq_true rfl⟩ dX8_settle_40 (r2.1.O hw.1) rfl (Nat.le_of_ble_eq_true rfl) (Nat.le_of_ble_eq_true rfl) (by omega) t1 rok_v (hg_ss t3.1 hN1 hS1) ?_
    refine z_goto dX8_settle_43 rfl ?_
    refine z_iconst (v := 1) dX8_settle_64 (by decide) ?_
    refine z_iret dX8_settle_65 ?_
    exact hQ
  · by_cases hdu : W (pcx k 3) ≤ W 1
    · have e1 : stK 1 tf (a 3) k W = wFail 1 W k (mDues tf (a 3) W k) := by unfold stK; rw [if_pos ho, if_neg hmt, if_pos hdu]
      have e2 : enK W k = 1 := if_pos ⟨ho, Or.inr hdu⟩
      rw [e1, e2]
      obtain ⟨v, rv1, rv2⟩ := c_rulingV hs mo h2 h3 hT
      obtain ⟨g1, r1, r2⟩ := c_duesBy (d := 4) (t1 := a 3) cl hW hn h0 h2 h3 hk1 rv1 (Nat.le_refl _)
      have br : mDues tf (a 3) W k ≤ 9999 := mSays_le (by omega)
      obtain ⟨g2, t1, t2, t3⟩ := c_fail (d := 4) (k := k) (dd := mDues tf (a 3) W k) (r2.1.wo hw) (cl.wv r2) hW hk1 (by omega) (Nat.le_refl _)
      have ff : FD w h g2 := r2.l.tr t3.d
      refine ⟨g2, ?_, t2, ff⟩
      intro N S Q hN hS hQ
      have hN0 : pn h ≤ N := by rw [← ff.1.n]; exact hN
      have hS0 : ps h ≤ S := by rw [← ff.1.s]; exact hS
      have hN1 : pn g1 ≤ N := by rw [r2.1.n]; exact hN0
      have hS1 : ps g1 ≤ S := by rw [r2.1.s]; exact hS0
      rcases id rv1 with ⟨z0, rfl⟩ | ⟨z0, zT, x, rfl, zx⟩
      · skip
        refine z_aload_n dX8_settle_0 rfl rfl ?_
        refine z_iload_n dX8_settle_1 rfl rfl ?_
        refine y_callV (as := [_]) CX7_holds LX8_188 IX7_holds VX7_holds ⟨rfl, Nat.le_of_ble_eq_true rfl⟩ dX8_settle_2 hw.1 rfl (Nat.le_of_ble_eq_true rfl) (Nat.le_of_ble_eq_true rfl) (by omega) (c_holds (d := 2) hw hv hW (by omega) hk1 (Nat.le_refl _)) (rok_z bI_01) ⟨Nat.le_refl _, Nat.le_refl _, hN0, hS0⟩ ?_
        refine z_istore_n dX8_settle_5 rfl (Nat.le_of_ble_eq_true rfl) ?_
        refine z_iload_n dX8_settle_6 rfl rfl ?_
        refine z_if_ne dX8_settle_7 rfl (fun c => absurd (bI_eq0.mpr hmt) c) (fun _ => ?_)
        refine z_aload_n dX8_settle_10 rfl rfl ?_
        refine y_getI FX8_133 dX8_settle_11 (Or.inl rfl) hw.1 ?_
        refine z_eqi (y := nI (W 1)) hv.1 ?_
        refine z_aload_n dX8_settle_14 rfl rfl ?_
        refine y_getR FX8_127 dX8_settle_15 rfl hw.1 hw.2.2.2.1 ?_
        refine z_iload_n dX8_settle_18 rfl rfl ?_
        refine z_iconst (v := 3) dX8_settle_19 (by decide) ?_
        refine y_callV (as := [_, _]) CX4_get LX8_143 IX4_get VX4_get ⟨rfl, Nat.le_of_ble_eq_true rfl⟩ dX8_settle_20 hw.2.2.2.2.1.1 rfl (Nat.le_of_ble_eq_true rfl) (Nat.le_of_ble_eq_true rfl) (by omega) (s_get (w := 6) (ms := 12) (i := k) (j := 3) (by exact hw.2.2.2.2.1) hv.2.2.2.2.2.1 hk1 (by omega)) rok_i ⟨Nat.le_refl _, Nat.le_refl _, hN0, hS0⟩ ?_
        refine z_eqi (show _ = nI (W (pcx k 3)) from hv.k hk1 (by omega)) ?_
        refine z_icmp_ge dX8_settle_23 rfl (fun _ => ?_) (fun c => absurd ((nI_leI (by omega) (by omega)).mpr (by omega)) c)
        refine z_iload_n dX8_settle_28 rfl rfl ?_
        refine z_if_eq dX8_settle_29 rfl (fun _ => ?_) (fun c => absurd (bI_eq0.mpr hmt) c)
        refine z_aload_n dX8_settle_46 rfl rfl ?_
        refine z_iload_n dX8_settle_47 rfl rfl ?_
        refine z_aload_n dX8_settle_48 rfl rfl ?_
        refine z_aload_n dX8_settle_49 rfl rfl ?_
        refine y_getR FX8_10 dX8_settle_50 rfl h8 hx0 ?_
        refine y_callV (as := []) CX1_ruling LX8_197 IX1_ruling VX1_ruling ⟨rfl, Nat.le_of_ble_eq_true rfl⟩ dX8_settle_53 hs.o rfl (Nat.le_of_ble_eq_true rfl) (Nat.le_of_ble_eq_true rfl) (by omega) (rv2 1 (Nat.le_refl _)) (rv1.rok rfl) ⟨Nat.le_refl _, Nat.le_refl _, hN0, hS0⟩ ?_
        refine z_aload_n dX8_settle_56 rfl rfl ?_
        refine z_iload_n dX8_settle_57 rfl rfl ?_
        refine y_callV (as := [_, _, _]) CX8_duesBy LX8_201 IX8_duesBy VX8_duesBy ⟨rfl, Nat.le_of_ble_eq_true rfl⟩ dX8_settle_58 h8 rfl (Nat.le_of_ble_eq_true rfl) (Nat.le_of_ble_eq_true rfl) (by omega) r1 rok_i (hg_ss r2.1 hN0 hS0) ?_
        refine y_callV (as := [_, _]) CX7_fail LX8_205 IX7_fail VX7_fail ⟨rfl, Nat.le_of_ble_eq_true rfl⟩ dX8_settle_61 (r2.1.O hw.1) rfl (Nat.le_of_ble_eq_true rfl) (Nat.le_of_ble_eq_true rfl) (by omega) t1 rok_v (hg_ss t3.1 hN1 hS1) ?_
        refine z_iconst (v := 1) dX8_settle_64 (by decide) ?_
        refine z_iret dX8_settle_65 ?_
        exact hQ
      · skip
        refine z_aload_n dX8_settle_0 rfl rfl ?_
        refine z_iload_n dX8_settle_1 rfl rfl ?_
        refine y_callV (as := [_]) CX7_holds LX8_188 IX7_holds VX7_holds ⟨rfl, Nat.le_of_ble_eq_true rfl⟩ dX8_settle_2 hw.1 rfl (Nat.le_of_ble_eq_true rfl) (Nat.le_of_ble_eq_true rfl) (by omega) (c_holds (d := 2) hw hv hW (by omega) hk1 (Nat.le_refl _)) (rok_z bI_01) ⟨Nat.le_refl _, Nat.le_refl _, hN0, hS0⟩ ?_
        refine z_istore_n dX8_settle_5 rfl (Nat.le_of_ble_eq_true rfl) ?_
        refine z_iload_n dX8_settle_6 rfl rfl ?_
        refine z_if_ne dX8_settle_7 rfl (fun c => absurd (bI_eq0.mpr hmt) c) (fun _ => ?_)
        refine z_aload_n dX8_settle_10 rfl rfl ?_
        refine y_getI FX8_133 dX8_settle_11 (Or.inl rfl) hw.1 ?_
        refine z_eqi (y := nI (W 1)) hv.1 ?_
        refine z_aload_n dX8_settle_14 rfl rfl ?_
        refine y_getR FX8_127 dX8_settle_15 rfl hw.1 hw.2.2.2.1 ?_
        refine z_iload_n dX8_settle_18 rfl rfl ?_
        refine z_iconst (v := 3) dX8_settle_19 (by decide) ?_
        refine y_callV (as := [_, _]) CX4_get LX8_143 IX4_get VX4_get ⟨rfl, Nat.le_of_ble_eq_true rfl⟩ dX8_settle_20 hw.2.2.2.2.1.1 rfl (Nat.le_of_ble_eq_true rfl) (Nat.le_of_ble_eq_true rfl) (by omega) (s_get (w := 6) (ms := 12) (i := k) (j := 3) (by exact hw.2.2.2.2.1) hv.2.2.2.2.2.1 hk1 (by omega)) rok_i ⟨Nat.le_refl _, Nat.le_refl _, hN0, hS0⟩ ?_
        refine z_eqi (show _ = nI (W (pcx k 3)) from hv.k hk1 (by omega)) ?_
        refine z_icmp_ge dX8_settle_23 rfl (fun _ => ?_) (fun c => absurd ((nI_leI (by omega) (by omega)).mpr (by omega)) c)
        refine z_iload_n dX8_settle_28 rfl rfl ?_
        refine z_if_eq dX8_settle_29 rfl (fun _ => ?_) (fun c => absurd (bI_eq0.mpr hmt) c)
        refine z_aload_n dX8_settle_46 rfl rfl ?_
        refine z_iload_n dX8_settle_47 rfl rfl ?_
        refine z_aload_n dX8_settle_48 rfl rfl ?_
        refine z_aload_n dX8_settle_49 rfl rfl ?_
        refine y_getR FX8_10 dX8_settle_50 rfl h8 hx0 ?_
        refine y_callV (as := []) CX1_ruling LX8_197 IX1_ruling VX1_ruling ⟨rfl, Nat.le_of_ble_eq_true rfl⟩ dX8_settle_53 hs.o rfl (Nat.le_of_ble_eq_true rfl) (Nat.le_of_ble_eq_true rfl) (by omega) (rv2 1 (Nat.le_refl _)) (rv1.rok rfl) ⟨Nat.le_refl _, Nat.le_refl _, hN0, hS0⟩ ?_
        refine z_aload_n dX8_settle_56 rfl rfl ?_
        refine z_iload_n dX8_settle_57 rfl rfl ?_
        refine y_callV (as := [_, _, _]) CX8_duesBy LX8_201 IX8_duesBy VX8_duesBy ⟨rfl, Nat.le_of_ble_eq_true rfl⟩ dX8_settle_58 h8 rfl (Nat.le_of_ble_eq_true rfl) (Nat.le_of_ble_eq_true rfl) (by omega) r1 rok_i (hg_ss r2.1 hN0 hS0) ?_
        refine y_callV (as := [_, _]) CX7_fail LX8_205 IX7_fail VX7_fail ⟨rfl, Nat.le_of_ble_eq_true rfl⟩ dX8_settle_61 (r2.1.O hw.1) rfl (Nat.le_of_ble_eq_true rfl) (Nat.le_of_ble_eq_true rfl) (by omega) t1 rok_v (hg_ss t3.1 hN1 hS1) ?_
        refine z_iconst (v := 1) dX8_settle_64 (by decide) ?_
        refine z_iret dX8_settle_65 ?_
        exact hQ
    · have e1 : stK 1 tf (a 3) k W = W := by unfold stK; rw [if_pos ho, if_neg hmt, if_neg hdu]
      have e2 : enK W k = 0 := if_neg (fun q => q.2.elim hmt hdu)
      rw [e1, e2]
      refine ⟨h, ?_, hv, FD.rf⟩
      intro N S Q hN hS hQ
      have hN0 := hN
      have hS0 := hS
      refine z_aload_n dX8_settle_0 rfl rfl ?_
      refine z_iload_n dX8_settle_1 rfl rfl ?_
      refine y_callV (as := [_]) CX7_holds LX8_188 IX7_holds VX7_holds ⟨rfl, Nat.le_of_ble_eq_true rfl⟩ dX8_settle_2 hw.1 rfl (Nat.le_of_ble_eq_true rfl) (Nat.le_of_ble_eq_true rfl) (by omega) (c_holds (d := 2) hw hv hW (by omega) hk1 (Nat.le_refl _)) (rok_z bI_01) ⟨Nat.le_refl _, Nat.le_refl _, hN0, hS0⟩ ?_
      refine z_istore_n dX8_settle_5 rfl (Nat.le_of_ble_eq_true rfl) ?_
      refine z_iload_n dX8_settle_6 rfl rfl ?_
      refine z_if_ne dX8_settle_7 rfl (fun c => absurd (bI_eq0.mpr hmt) c) (fun _ => ?_)
      refine z_aload_n dX8_settle_10 rfl rfl ?_
      refine y_getI FX8_133 dX8_settle_11 (Or.inl rfl) hw.1 ?_
      refine z_eqi (y := nI (W 1)) hv.1 ?_
      refine z_aload_n dX8_settle_14 rfl rfl ?_
      refine y_getR FX8_127 dX8_settle_15 rfl hw.1 hw.2.2.2.1 ?_
      refine z_iload_n dX8_settle_18 rfl rfl ?_
      refine z_iconst (v := 3) dX8_settle_19 (by decide) ?_
      refine y_callV (as := [_, _]) CX4_get LX8_143 IX4_get VX4_get ⟨rfl, Nat.le_of_ble_eq_true rfl⟩ dX8_settle_20 hw.2.2.2.2.1.1 rfl (Nat.le_of_ble_eq_true rfl) (Nat.le_of_ble_eq_true rfl) (by omega) (s_get (w := 6) (ms := 12) (i := k) (j := 3) (by exact hw.2.2.2.2.1) hv.2.2.2.2.2.1 hk1 (by omega)) rok_i ⟨Nat.le_refl _, Nat.le_refl _, hN0, hS0⟩ ?_
      refine z_eqi (show _ = nI (W (pcx k 3)) from hv.k hk1 (by omega)) ?_
      refine z_icmp_ge dX8_settle_23 rfl (fun c => absurd c (fun q => absurd ((nI_leI (by omega) (by omega)).mp q) (by omega))) (fun _ => ?_)
      refine z_iconst (v := 0) dX8_settle_26 (by decide) ?_
      refine z_iret dX8_settle_27 ?_
      exact hQ

theorem c_pass_f {h : Hp} {d w n : Nat} {a W : Fl} {tf : Nat → Int32} (hw2 : w = 10 ∨ w = 465) (hW : IW n W) (hn : n = a 0) (h0 : a 0 ≤ 8) (h2 : a 2 ≤ 4) (h3 : a 3 ≤ a 2) (hT : a 3 ≠ 0 → TXV tf (a 3 - 1)) (hF : IFc a) (hd : 5 ≤ d) : ∀ r i (h1 : Hp), i + r = a 0 → CLW h1 a tf w (pF tf a i W) → FD w h h1 → ∃ h2, CLW h2 a tf w (pF tf a (a 0) W) ∧ FD w h h2 ∧ ∀ (N S : Nat) (Q : Option Value → Hp → Prop), pn h ≤ N → ps h ≤ S → T d N S mX8_passDay 59 [some (.ref 8), some (.ref w), some (.int (nI (a 0))), none] [] h2 Q → T d N S mX8_passDay 2 [some (.ref 8), some (.ref w), some (.int (nI i)), none] [] h1 Q := by
  intro r
  induction r with
  | zero =>
    intro i h1 hi cl fd
    have e : i = a 0 := by omega
    rw [e] at cl ⊢
    refine ⟨h1, cl, fd, fun N S Q hN hS K => ?_⟩
    obtain ⟨h8, hx0, hx4, hk, hs, hz, mo, hw, hv, hwb⟩ := id cl
    refine z_iload_n dX8_passDay_2 rfl rfl ?_
    refine z_aload_n dX8_passDay_3 rfl rfl ?_
    refine y_getR FX8_10 dX8_passDay_4 rfl h8 hx0 ?_
    refine y_getR FX8_65 dX8_passDay_7 rfl hs.o hs.f4 ?_
    refine y_getI FX8_130 dX8_passDay_10 (Or.inl rfl) hs.facts.1 ?_
    refine z_eqi (y := nI (a 0)) (show _ = nI (a 0) from mo.1.1.2.2.1) ?_
    refine z_icmp_ge dX8_passDay_13 rfl (fun _ => ?_) (fun c => absurd (Int32.le_refl _) c)
    exact K
  | succ r ih =>
    intro i h1 hi cl fd
    have iv := iw_pF (tf := tf) (a := a) hW i (by omega)
    have p2 : 2 ^ n ≤ 2 ^ 8 := Nat.pow_le_pow_right (by omega) (by omega)
    have es : pF tf a (i + 1) W = stF tf a i (pF tf a i W) := rfl
    obtain ⟨V, hV⟩ : ∃ V, pF tf a i W = V := ⟨_, rfl⟩
    rw [hV] at cl iv es
    obtain ⟨h8, hx0, hx4, hk, hs, hz, mo, hw, hv, hwb⟩ := id cl
    have iv3 := iv.1.2.2.2.1
    have iv2 := iv.1.2.2.1
    by_cases hb : (V 3).testBit i = true
    · have e1 : stF tf a i V = V := if_pos hb
      obtain ⟨h2, k1, k2, K⟩ := ih (i + 1) h1 (by omega) (by rw [es, e1]; exact cl) fd
      refine ⟨h2, k1, k2, fun N S Q hN hS KK => ?_⟩
      have hN1 : pn h1 ≤ N := by rw [fd.1.n]; exact hN
      have hS1 : ps h1 ≤ S := by rw [fd.1.s]; exact hS
      refine z_iload_n dX8_passDay_2 rfl rfl ?_
      refine z_aload_n dX8_passDay_3 rfl rfl ?_
      refine y_getR FX8_10 dX8_passDay_4 rfl h8 hx0 ?_
      refine y_getR FX8_65 dX8_passDay_7 rfl hs.o hs.f4 ?_
      refine y_getI FX8_130 dX8_passDay_10 (Or.inl rfl) hs.facts.1 ?_
      refine z_eqi (y := nI (a 0)) (show _ = nI (a 0) from mo.1.1.2.2.1) ?_
      refine z_icmp_ge dX8_passDay_13 rfl (fun c => absurd c (fun q => absurd ((nI_leI (by omega) (by omega)).mp q) (by omega))) (fun _ => ?_)
      refine z_aload_n dX8_passDay_16 rfl rfl ?_
      refine z_iload_n dX8_passDay_17 rfl rfl ?_
      refine y_callV (as := [_]) CX7_isSo LX8_154 IX7_isSo VX7_isSo ⟨rfl, Nat.le_of_ble_eq_true rfl⟩ dX8_passDay_18 hw.1 rfl (Nat.le_of_ble_eq_true rfl) (Nat.le_of_ble_eq_true rfl) (by omega) (c_isSo (W := V) (f := i) (d := 1) hw hv (by omega) (by omega) (Nat.le_refl _)) (rok_z bI_01) ⟨Nat.le_refl _, Nat.le_refl _, hN1, hS1⟩ ?_
      refine z_if_ne dX8_passDay_21 rfl (fun _ => ?_) (fun c => absurd c (bI_ne0.mpr hb))
      refine z_iinc dX8_passDay_53 rfl (nI_1 _) (Nat.le_of_ble_eq_true rfl) ?_
      refine z_goto dX8_passDay_56 rfl ?_
      exact K N S Q hN hS KK
    · have vd := hv.set (j := 1) (v := nxD (V 2)) (by omega) rfl
      have fA : FD w h1 (sI h1 w 1 (nI (nxD (V 2)))) := ((FR.rf (lo := w) (hi := w + 6)).sI (by omega)).d
      have ivd : IW n (up V 2 (nxD (V 2))) := iv.u (i := 2) (v := nxD (V 2)) (Or.inr (Or.inl ⟨rfl, Nat.mod_lt _ (by omega)⟩))
      have cd := cl.st fA vd hw2
      obtain ⟨g1, r1, r2⟩ := c_comesNow (d := 4) (f := i) cd ivd hn h0 h2 h3 (by omega) hF hT (Nat.le_refl _)
      rw [mComes_2] at r1
      have vg := cd.wv r2
      have bcm : mComes tf a V i ≤ 10 := mSays_le (hF i (by omega)).1
      have e1 : stF tf a i V = if V 2 % 10 < mComes tf a V i then up (up V 2 (nxD (V 2))) 3 (V 3 ||| 2 ^ i) else up V 2 (nxD (V 2)) := if_neg hb
      generalize mComes tf a V i = cm at *
      have f2 : FD w h1 g1 := fA.tr r2.l
      by_cases hc : V 2 % 10 < cm
      · rw [if_pos hc] at e1
        have vh := vg.set (j := 2) (v := V 3 ||| 2 ^ i) (by omega) rfl
        have f3 : FD w h1 (sI g1 w 2 (nI (V 3 ||| 2 ^ i))) := f2.tr ((FR.rf (lo := w) (hi := w + 6)).sI (by omega)).d
        obtain ⟨h2, k1, k2, K⟩ := ih (i + 1) _ (by omega) (by rw [es, e1]; exact cl.st f3 vh hw2) (fd.tr f3)
        refine ⟨h2, k1, k2, fun N S Q hN hS KK => ?_⟩
        have hN1 : pn h1 ≤ N := by rw [fd.1.n]; exact hN
        have hS1 : ps h1 ≤ S := by rw [fd.1.s]; exact hS
        have hN2 : pn g1 ≤ N := by rw [f2.1.n]; exact hN1
        have hS2 : ps g1 ≤ S := by rw [f2.1.s]; exact hS1
        refine z_iload_n dX8_passDay_2 rfl rfl ?_
        refine z_aload_n dX8_passDay_3 rfl rfl ?_
        refine y_getR FX8_10 dX8_passDay_4 rfl h8 hx0 ?_
        refine y_getR FX8_65 dX8_passDay_7 rfl hs.o hs.f4 ?_
        refine y_getI FX8_130 dX8_passDay_10 (Or.inl rfl) hs.facts.1 ?_
        refine z_eqi (y := nI (a 0)) (show _ = nI (a 0) from mo.1.1.2.2.1) ?_
        refine z_icmp_ge dX8_passDay_13 rfl (fun c => absurd c (fun q => absurd ((nI_leI (by omega) (by omega)).mp q) (by omega))) (fun _ => ?_)
        refine z_aload_n dX8_passDay_16 rfl rfl ?_
        refine z_iload_n dX8_passDay_17 rfl rfl ?_
        refine y_callV (as := [_]) CX7_isSo LX8_154 IX7_isSo VX7_isSo ⟨rfl, Nat.le_of_ble_eq_true rfl⟩ dX8_passDay_18 hw.1 rfl (Nat.le_of_ble_eq_true rfl) (Nat.le_of_ble_eq_true rfl) (by omega) (c_isSo (W := V) (f := i) (d := 1) hw hv (by omega) (by omega) (Nat.le_refl _)) (rok_z bI_01) ⟨Nat.le_refl _, Nat.le_refl _, hN1, hS1⟩ ?_
        refine z_if_ne dX8_passDay_21 rfl (fun c => absurd (bI_eq0.mpr hb) c) (fun _ => ?_)
        refine z_aload_n dX8_passDay_24 rfl rfl ?_
        refine y_callV (as := []) CX7_draw LX8_177 IX7_draw VX7_draw ⟨rfl, Nat.le_of_ble_eq_true rfl⟩ dX8_passDay_25 hw.1 rfl (Nat.le_of_ble_eq_true rfl) (Nat.le_of_ble_eq_true rfl) (by omega) (c_draw (W := V) hw hv iv2) rok_i ⟨Nat.le_refl _, Nat.le_refl _, hN1, hS1⟩ ?_
        refine z_bipush (v := 10) dX8_passDay_28 (by decide) ?_
        refine z_irem dX8_passDay_30 (by decide) ?_
        refine z_eqi (irem_n (a := V 2) (d := 10) (by omega) (by omega) (by omega)) ?_
        refine z_aload_n dX8_passDay_31 rfl rfl ?_
        refine z_aload_n dX8_passDay_32 rfl rfl ?_
        refine z_iload_n dX8_passDay_33 rfl rfl ?_
        refine y_callV (as := [_, _]) CX8_comesNow LX8_180 IX8_comesNow VX8_comesNow ⟨rfl, Nat.le_of_ble_eq_true rfl⟩ dX8_passDay_34 h8 rfl (Nat.le_of_ble_eq_true rfl) (Nat.le_of_ble_eq_true rfl) (by omega) r1 rok_i (hg_ss r2.1 hN1 hS1) ?_
        refine z_icmp_ge dX8_passDay_37 rfl (fun c => absurd c (fun q => absurd ((nI_leI (by omega) (by omega)).mp q) (by omega))) (fun _ => ?_)
        refine z_aload_n dX8_passDay_40 rfl rfl ?_
        refine z_dup dX8_passDay_41 rfl ?_
        refine y_getI FX8_160 dX8_passDay_42 (Or.inl rfl) (r2.1.O hw.1) ?_
        refine z_eqi (y := nI (V 3)) (show _ = nI (V 3) from vg.2.2.1.trans (congrArg nI (up_n (by omega)))) ?_
        refine z_iload_n dX8_passDay_45 rfl rfl ?_
        refine y_callS (as := [_]) CX8_bit LX8_163 SX8_bit dX8_passDay_46 rfl (Nat.le_of_ble_eq_true rfl) (Nat.le_of_ble_eq_true rfl) (by omega) (s_bit _) rok_i ⟨Nat.le_refl _, Nat.le_refl _, hN2, hS2⟩ ?_
        refine z_eqi (nI_bit (show i < 31 by omega)) ?_
        refine z_ior dX8_passDay_49 ?_
        refine z_eqi (nI_or _ _) ?_
        refine y_putI FX8_160 dX8_passDay_50 (Or.inl rfl) (Or.inl rfl) (r2.1.O hw.1) ?_
        refine z_iinc dX8_passDay_53 rfl (nI_1 _) (Nat.le_of_ble_eq_true rfl) ?_
        refine z_goto dX8_passDay_56 rfl ?_
        exact K N S Q hN hS KK
      · rw [if_neg hc] at e1
        obtain ⟨h2, k1, k2, K⟩ := ih (i + 1) g1 (by omega) (by rw [es, e1]; exact cl.st f2 vg hw2) (fd.tr f2)
        refine ⟨h2, k1, k2, fun N S Q hN hS KK => ?_⟩
        have hN1 : pn h1 ≤ N := by rw [fd.1.n]; exact hN
        have hS1 : ps h1 ≤ S := by rw [fd.1.s]; exact hS
        refine z_iload_n dX8_passDay_2 rfl rfl ?_
        refine z_aload_n dX8_passDay_3 rfl rfl ?_
        refine y_getR FX8_10 dX8_passDay_4 rfl h8 hx0 ?_
        refine y_getR FX8_65 dX8_passDay_7 rfl hs.o hs.f4 ?_
        refine y_getI FX8_130 dX8_passDay_10 (Or.inl rfl) hs.facts.1 ?_
        refine z_eqi (y := nI (a 0)) (show _ = nI (a 0) from mo.1.1.2.2.1) ?_
        refine z_icmp_ge dX8_passDay_13 rfl (fun c => absurd c (fun q => absurd ((nI_leI (by omega) (by omega)).mp q) (by omega))) (fun _ => ?_)
        refine z_aload_n dX8_passDay_16 rfl rfl ?_
        refine z_iload_n dX8_passDay_17 rfl rfl ?_
        refine y_callV (as := [_]) CX7_isSo LX8_154 IX7_isSo VX7_isSo ⟨rfl, Nat.le_of_ble_eq_true rfl⟩ dX8_passDay_18 hw.1 rfl (Nat.le_of_ble_eq_true rfl) (Nat.le_of_ble_eq_true rfl) (by omega) (c_isSo (W := V) (f := i) (d := 1) hw hv (by omega) (by omega) (Nat.le_refl _)) (rok_z bI_01) ⟨Nat.le_refl _, Nat.le_refl _, hN1, hS1⟩ ?_
        refine z_if_ne dX8_passDay_21 rfl (fun c => absurd (bI_eq0.mpr hb) c) (fun _ => ?_)
        refine z_aload_n dX8_passDay_24 rfl rfl ?_
        refine y_callV (as := []) CX7_draw LX8_177 IX7_draw VX7_draw ⟨rfl, Nat.le_of_ble_eq_true rfl⟩ dX8_passDay_25 hw.1 rfl (Nat.le_of_ble_eq_true rfl) (Nat.le_of_ble_eq_true rfl) (by omega) (c_draw (W := V) hw hv iv2) rok_i ⟨Nat.le_refl _, Nat.le_refl _, hN1, hS1⟩ ?_
        refine z_bipush (v := 10) dX8_passDay_28 (by decide) ?_
        refine z_irem dX8_passDay_30 (by decide) ?_
        refine z_eqi (irem_n (a := V 2) (d := 10) (by omega) (by omega) (by omega)) ?_
        refine z_aload_n dX8_passDay_31 rfl rfl ?_
        refine z_aload_n dX8_passDay_32 rfl rfl ?_
        refine z_iload_n dX8_passDay_33 rfl rfl ?_
        refine y_callV (as := [_, _]) CX8_comesNow LX8_180 IX8_comesNow VX8_comesNow ⟨rfl, Nat.le_of_ble_eq_true rfl⟩ dX8_passDay_34 h8 rfl (Nat.le_of_ble_eq_true rfl) (Nat.le_of_ble_eq_true rfl) (by omega) r1 rok_i (hg_ss r2.1 hN1 hS1) ?_
        refine z_icmp_ge dX8_passDay_37 rfl (fun _ => ?_) (fun c => absurd ((nI_leI (by omega) (by omega)).mpr (by omega)) c)
        refine z_iinc dX8_passDay_53 rfl (nI_1 _) (Nat.le_of_ble_eq_true rfl) ?_
        refine z_goto dX8_passDay_56 rfl ?_
        exact K N S Q hN hS KK

theorem c_pass_k {h : Hp} {d w n : Nat} {a W : Fl} {tf : Nat → Int32} (hw2 : w = 10 ∨ w = 465) (hW : IW n W) (hn : n = a 0) (h0 : a 0 ≤ 8) (h2 : a 2 ≤ 4) (h3 : a 3 ≤ a 2) (hT : a 3 ≠ 0 → TXV tf (a 3 - 1)) {m : Nat} (hm4 : W 4 = m) (hd : 6 ≤ d) : ∀ r i (h1 : Hp), i + r = m → CLW h1 a tf w (pKs 1 tf (a 3) i W) → FD w h h1 → ∃ h2, CLW h2 a tf w (pKs 1 tf (a 3) m W) ∧ FD w h h2 ∧ ∀ (N S : Nat) (Q : Option Value → Hp → Prop), pn h ≤ N → ps h ≤ S → T d N S mX8_passDay 100 [some (.ref 8), some (.ref w), some (.int (nI (eK 1 tf (a 3) m W))), some (.int (nI m))] [] h2 Q → T d N S mX8_passDay 63 [some (.ref 8), some (.ref w), some (.int (nI (eK 1 tf (a 3) i W))), some (.int (nI i))] [] h1 Q := by
  intro r
  induction r with
  | zero =>
    intro i h1 hi cl fd
    have ee : i = m := by omega
    rw [ee] at cl ⊢
    have e4 : pKs 1 tf (a 3) m W 4 = m := by rw [(iw_pK hW m (by omega)).2 4 (by omega)]; exact hm4
    refine ⟨h1, cl, fd, fun N S Q hN hS K => ?_⟩
    obtain ⟨h8, hx0, hx4, hk, hs, hz, mo, hw, hv, hwb⟩ := id cl
    refine z_iload_n dX8_passDay_63 rfl rfl ?_
    refine z_aload_n dX8_passDay_64 rfl rfl ?_
    refine y_getR FX8_127 dX8_passDay_65 rfl hw.1 hw.2.2.2.1 ?_
    refine y_getI FX8_130 dX8_passDay_68 (Or.inl rfl) hw.2.2.2.2.1.1 ?_
    refine z_eqi (y := nI (m)) (show _ = nI m from hv.2.2.2.2.2.1.2.2.1.trans (congrArg nI e4)) ?_
    refine z_icmp_ge dX8_passDay_71 rfl (fun _ => ?_) (fun c => absurd (Int32.le_refl _) c)
    exact K
  | succ r ih =>
    intro i h1 hi cl fd
    obtain ⟨iv, io⟩ := iw_pK (b := 1) (tf := tf) (t1 := a 3) hW i (by omega)
    have es : pKs 1 tf (a 3) (i + 1) W = stK 1 tf (a 3) i (pKs 1 tf (a 3) i W) := rfl
    have ee : eK 1 tf (a 3) (i + 1) W = eK 1 tf (a 3) i W + enK (pKs 1 tf (a 3) i W) i := rfl
    have e4 : (pKs 1 tf (a 3) i W) 4 = m := by rw [io 4 (by omega)]; exact hm4
    obtain ⟨V, hV⟩ : ∃ V, (pKs 1 tf (a 3) i W) = V := ⟨_, rfl⟩
    rw [hV] at cl iv es e4 ee
    obtain ⟨ek, hek⟩ : ∃ ek, eK 1 tf (a 3) i W = ek := ⟨_, rfl⟩
    rw [hek] at ee ⊢
    obtain ⟨h8, hx0, hx4, hk, hs, hz, mo, hw, hv, hwb⟩ := id cl
    have b4 := iv.1.2.2.2.2.1
    have cc := iv.2.2.1 i (by omega)
    have en : nn (nI i) = i := nn_nI (by omega)
    have op : opnW V (nI i) ↔ V (pcx i 5) = 0 := by
      unfold opnW
      rw [en]
      exact ⟨fun q => q.2, fun q => ⟨(vin_nI (by omega) (by omega)).mpr (by omega), q⟩⟩
    by_cases ho : V (pcx i 5) = 0
    · obtain ⟨g1, r1, r2, r3⟩ := c_settle (d := 5) (k := i) cl hw2 iv hn h0 h2 h3 hT (by omega) ho (Nat.le_refl _)
      have en01 : nI (enK V i) = 0 ∨ nI (enK V i) = 1 := by
        unfold enK
        split
        · exact Or.inr rfl
        · exact Or.inl rfl
      obtain ⟨h2, k1, k2, K⟩ := ih (i + 1) g1 (by omega) (by rw [es]; exact cl.st r3 r2 hw2) (fd.tr r3)
      rw [ee] at K
      rcases (show enK V i = 0 ∨ enK V i = 1 by unfold enK; split <;> omega) with e0 | e0
      · rw [e0] at r1 en01 K
        refine ⟨h2, k1, k2, fun N S Q hN hS KK => ?_⟩
        have hN1 : pn h1 ≤ N := by rw [fd.1.n]; exact hN
        have hS1 : ps h1 ≤ S := by rw [fd.1.s]; exact hS
        refine z_iload_n dX8_passDay_63 rfl rfl ?_
        refine z_aload_n dX8_passDay_64 rfl rfl ?_
        refine y_getR FX8_127 dX8_passDay_65 rfl hw.1 hw.2.2.2.1 ?_
        refine y_getI FX8_130 dX8_passDay_68 (Or.inl rfl) hw.2.2.2.2.1.1 ?_
        refine z_eqi (y := nI (m)) (show _ = nI m from hv.2.2.2.2.2.1.2.2.1.trans (congrArg nI e4)) ?_
        refine z_icmp_ge dX8_passDay_71 rfl (fun c => absurd c (fun q => absurd ((nI_leI (by omega) (by omega)).mp q) (by omega))) (fun _ => ?_)
        refine z_aload_n dX8_passDay_74 rfl rfl ?_
        refine z_iload_n dX8_passDay_75 rfl rfl ?_
        refine y_callV (as := [_]) CX7_isOpen LX8_167 IX7_isOpen VX7_isOpen ⟨rfl, Nat.le_of_ble_eq_true rfl⟩ dX8_passDay_76 hw.1 rfl (Nat.le_of_ble_eq_true rfl) (Nat.le_of_ble_eq_true rfl) (by omega) (c_isOpenW (d := 1) (W := V) hw hv (fun k hk => (iv.2.2.1 k hk).2.2.2.2.2.2) _ (Nat.le_refl _)) (rok_z bI_01) ⟨Nat.le_refl _, Nat.le_refl _, hN1, hS1⟩ ?_
        refine z_if_eq dX8_passDay_79 rfl (fun c => absurd c (bI_ne0.mpr (op.mpr ho))) (fun _ => ?_)
        refine z_aload_n dX8_passDay_82 rfl rfl ?_
        refine z_aload_n dX8_passDay_83 rfl rfl ?_
        refine z_iload_n dX8_passDay_84 rfl rfl ?_
        refine y_callV (as := [_, _]) CX8_settle LX8_184 IX8_settle VX8_settle ⟨rfl, Nat.le_of_ble_eq_true rfl⟩ dX8_passDay_85 h8 rfl (Nat.le_of_ble_eq_true rfl) (Nat.le_of_ble_eq_true rfl) (by omega) r1 (rok_z en01) (hg_ss r3.1 hN1 hS1) ?_
        refine z_if_eq dX8_passDay_88 rfl (fun _ => ?_) (fun c => absurd (rfl) c)
        refine z_iinc dX8_passDay_94 rfl (nI_1 _) (Nat.le_of_ble_eq_true rfl) ?_
        refine z_goto dX8_passDay_97 rfl ?_
        exact K N S Q hN hS KK
      · rw [e0] at r1 en01 K
        refine ⟨h2, k1, k2, fun N S Q hN hS KK => ?_⟩
        have hN1 : pn h1 ≤ N := by rw [fd.1.n]; exact hN
        have hS1 : ps h1 ≤ S := by rw [fd.1.s]; exact hS
        refine z_iload_n dX8_passDay_63 rfl rfl ?_
        refine z_aload_n dX8_passDay_64 rfl rfl ?_
        refine y_getR FX8_127 dX8_passDay_65 rfl hw.1 hw.2.2.2.1 ?_
        refine y_getI FX8_130 dX8_passDay_68 (Or.inl rfl) hw.2.2.2.2.1.1 ?_
        refine z_eqi (y := nI (m)) (show _ = nI m from hv.2.2.2.2.2.1.2.2.1.trans (congrArg nI e4)) ?_
        refine z_icmp_ge dX8_passDay_71 rfl (fun c => absurd c (fun q => absurd ((nI_leI (by omega) (by omega)).mp q) (by omega))) (fun _ => ?_)
        refine z_aload_n dX8_passDay_74 rfl rfl ?_
        refine z_iload_n dX8_passDay_75 rfl rfl ?_
        refine y_callV (as := [_]) CX7_isOpen LX8_167 IX7_isOpen VX7_isOpen ⟨rfl, Nat.le_of_ble_eq_true rfl⟩ dX8_passDay_76 hw.1 rfl (Nat.le_of_ble_eq_true rfl) (Nat.le_of_ble_eq_true rfl) (by omega) (c_isOpenW (d := 1) (W := V) hw hv (fun k hk => (iv.2.2.1 k hk).2.2.2.2.2.2) _ (Nat.le_refl _)) (rok_z bI_01) ⟨Nat.le_refl _, Nat.le_refl _, hN1, hS1⟩ ?_
        refine z_if_eq dX8_passDay_79 rfl (fun c => absurd c (bI_ne0.mpr (op.mpr ho))) (fun _ => ?_)
        refine z_aload_n dX8_passDay_82 rfl rfl ?_
        refine z_aload_n dX8_passDay_83 rfl rfl ?_
        refine z_iload_n dX8_passDay_84 rfl rfl ?_
        refine y_callV (as := [_, _]) CX8_settle LX8_184 IX8_settle VX8_settle ⟨rfl, Nat.le_of_ble_eq_true rfl⟩ dX8_passDay_85 h8 rfl (Nat.le_of_ble_eq_true rfl) (Nat.le_of_ble_eq_true rfl) (by omega) r1 (rok_z en01) (hg_ss r3.1 hN1 hS1) ?_
        refine z_if_eq dX8_passDay_88 rfl (fun c => absurd c (by decide)) (fun _ => ?_)
        refine z_iinc dX8_passDay_91 rfl (nI_1 _) (Nat.le_of_ble_eq_true rfl) ?_
        refine z_iinc dX8_passDay_94 rfl (nI_1 _) (Nat.le_of_ble_eq_true rfl) ?_
        refine z_goto dX8_passDay_97 rfl ?_
        exact K N S Q hN hS KK
    · have e1 : stK 1 tf (a 3) i V = V := by unfold stK; rw [if_neg ho]
      have e2 : enK V i = 0 := if_neg (fun q => ho q.1)
      obtain ⟨h2, k1, k2, K⟩ := ih (i + 1) h1 (by omega) (by rw [es, e1]; exact cl) fd
      rw [ee, e2] at K
      refine ⟨h2, k1, k2, fun N S Q hN hS KK => ?_⟩
      have hN1 : pn h1 ≤ N := by rw [fd.1.n]; exact hN
      have hS1 : ps h1 ≤ S := by rw [fd.1.s]; exact hS
      refine z_iload_n dX8_passDay_63 rfl rfl ?_
      refine z_aload_n dX8_passDay_64 rfl rfl ?_
      refine y_getR FX8_127 dX8_passDay_65 rfl hw.1 hw.2.2.2.1 ?_
      refine y_getI FX8_130 dX8_passDay_68 (Or.inl rfl) hw.2.2.2.2.1.1 ?_
      refine z_eqi (y := nI (m)) (show _ = nI m from hv.2.2.2.2.2.1.2.2.1.trans (congrArg nI e4)) ?_
      refine z_icmp_ge dX8_passDay_71 rfl (fun c => absurd c (fun q => absurd ((nI_leI (by omega) (by omega)).mp q) (by omega))) (fun _ => ?_)
      refine z_aload_n dX8_passDay_74 rfl rfl ?_
      refine z_iload_n dX8_passDay_75 rfl rfl ?_
      refine y_callV (as := [_]) CX7_isOpen LX8_167 IX7_isOpen VX7_isOpen ⟨rfl, Nat.le_of_ble_eq_true rfl⟩ dX8_passDay_76 hw.1 rfl (Nat.le_of_ble_eq_true rfl) (Nat.le_of_ble_eq_true rfl) (by omega) (c_isOpenW (d := 1) (W := V) hw hv (fun k hk => (iv.2.2.1 k hk).2.2.2.2.2.2) _ (Nat.le_refl _)) (rok_z bI_01) ⟨Nat.le_refl _, Nat.le_refl _, hN1, hS1⟩ ?_
      refine z_if_eq dX8_passDay_79 rfl (fun _ => ?_) (fun c => absurd (bI_eq0.mpr (fun q => ho (op.mp q))) c)
      refine z_iinc dX8_passDay_94 rfl (nI_1 _) (Nat.le_of_ble_eq_true rfl) ?_
      refine z_goto dX8_passDay_97 rfl ?_
      exact K N S Q hN hS KK

theorem c_passDay {h : Hp} {d w n : Nat} {a W : Fl} {tf : Nat → Int32} (cl : CLW h a tf w W) (hw2 : w = 10 ∨ w = 465) (hW : IW n W) (hn : n = a 0) (h0 : a 0 ≤ 8) (h2 : a 2 ≤ 4) (h3 : a 3 ≤ a 2) (hT : a 3 ≠ 0 → TXV tf (a 3 - 1)) (hF : IFc a) (hd : 6 ≤ d) : ∃ h1, Sp d mX8_passDay [.ref 8, .ref w] h (some (.int (nI (ePass 1 tf a W)))) h1 ∧ CLW h1 a tf w (wPass 1 tf a W) ∧ FD w h h1 := by
  obtain ⟨g1, f1, f2, K1⟩ := c_pass_f (h := h) (d := d) hw2 hW hn h0 h2 h3 hT hF (by omega) (a 0) 0 h (by omega) cl FD.rf
  have iv := iw_pF (tf := tf) (a := a) hW (a 0) (by omega)
  have e4 : pF tf a (a 0) W 4 = W 4 := pF_o (by omega) (by omega) _
  obtain ⟨g2, k1, k2, K2⟩ := c_pass_k (h := g1) (d := d) hw2 iv hn h0 h2 h3 hT e4 hd (W 4) 0 g1 (by omega) f1 FD.rf
  have k1 : CLW g2 a tf w (wPass0 1 tf a W) := k1
  have K2 : ∀ (N S : Nat) (Q : Option Value → Hp → Prop), pn g1 ≤ N → ps g1 ≤ S → T d N S mX8_passDay 100 [some (.ref 8), some (.ref w), some (.int (nI (ePass 1 tf a W))), some (.int (nI (W 4)))] [] g2 Q → T d N S mX8_passDay 63 [some (.ref 8), some (.ref w), some (.int (nI 0)), some (.int (nI 0))] [] g1 Q := K2
  unfold wPass
  generalize ePass 1 tf a W = ep at *
  generalize wPass0 1 tf a W = X at *
  obtain ⟨h8, hx0, hx4, hk, hs, hz, mo, hw, hv, hwb⟩ := id k1
  have vx := hv.set (j := 0) (v := X 1 + 1) (by omega) rfl
  have fx : FD w g2 (sI g2 w 0 (nI (X 1 + 1))) := ((FR.rf (lo := w) (hi := w + 6)).sI (by omega)).d
  have ff := (f2.tr k2).tr fx
  refine ⟨_, ?_, k1.st fx vx hw2, ff⟩
  intro N S Q hN hS hQ
  have hN0 : pn h ≤ N := by rw [← ff.1.n]; exact hN
  have hS0 : ps h ≤ S := by rw [← ff.1.s]; exact hS
  have hN2 : pn g1 ≤ N := by rw [f2.1.n]; exact hN0
  have hS2 : ps g1 ≤ S := by rw [f2.1.s]; exact hS0
  refine z_iconst (v := 0) dX8_passDay_0 (by decide) ?_
  refine z_istore_n dX8_passDay_1 rfl (Nat.le_of_ble_eq_true rfl) ?_
  refine K1 N S Q hN0 hS0 ?_
  refine z_iconst (v := 0) dX8_passDay_59 (by decide) ?_
  refine z_istore_n dX8_passDay_60 rfl (Nat.le_of_ble_eq_true rfl) ?_
  refine z_iconst (v := 0) dX8_passDay_61 (by decide) ?_
  refine z_istore_n dX8_passDay_62 rfl (Nat.le_of_ble_eq_true rfl) ?_
  refine K2 N S Q hN2 hS2 ?_
  refine z_aload_n dX8_passDay_100 rfl rfl ?_
  refine z_dup dX8_passDay_101 rfl ?_
  refine y_getI FX8_133 dX8_passDay_102 (Or.inl rfl) hw.1 ?_
  refine z_eqi (y := nI (X 1)) hv.1 ?_
  refine z_iconst (v := 1) dX8_passDay_105 (by decide) ?_
  refine z_iadd dX8_passDay_106 ?_
  refine z_eqi (nI_1 (X 1)) ?_
  refine y_putI FX8_133 dX8_passDay_107 (Or.inl rfl) (Or.inl rfl) hw.1 ?_
  refine z_iload_n dX8_passDay_110 rfl rfl ?_
  refine z_iret dX8_passDay_111 ?_
  exact hQ

