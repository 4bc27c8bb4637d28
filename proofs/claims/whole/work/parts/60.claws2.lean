/-! the three laws of the class (walks by program: wip/whole/gen60.py) -/
/-- a value that is the text t1 (0: none) -/
def txv (h : Hp) (tf : Nat → Int32) (t1 : Nat) (v : Value) : Prop := (t1 = 0 ∧ v = .null) ∨ (t1 ≠ 0 ∧ TXV tf (t1 - 1) ∧ ∃ x, v = .ref x ∧ TXC h tf (t1 - 1) x)
/-- the law of a text: there, or an empty row -/
def lwc (h : Hp) (tf : Nat → Int32) (t1 s c : Nat) : Prop := (t1 ≠ 0 ∧ fK tf (t1 - 1) s < cnt tf (t1 - 1) ∧ 501 ≤ c ∧ LC h (s = 0) (lO tf (t1 - 1) (fK tf (t1 - 1) s)) (lV tf (t1 - 1) (fK tf (t1 - 1) s)) (lM tf (t1 - 1) (fK tf (t1 - 1) s)) c ∧ WF (lO tf (t1 - 1) (fK tf (t1 - 1) s)) (lV tf (t1 - 1) (fK tf (t1 - 1) s)) (lM tf (t1 - 1) (fK tf (t1 - 1) s))) ∨ ((t1 = 0 ∨ ¬ fK tf (t1 - 1) s < cnt tf (t1 - 1)) ∧ I0 h c)
theorem LC.be {h : Hp} {C : Prop} {O V : Nat → Nat} {m c : Nat} {env : Nat → Int} (hl : LC h C O V m c) (he : ∀ v, b6 (env v)) (so : Nat) : b6 (evV env so O V m) := ev_b he (fun i hi q0 => by rcases hl.2.2.2.2 i hi with q | q | q <;> omega)
theorem scn_spec {tf : Nat → Int32} {t s : Nat} : ∀ r k, k ≤ scn tf t s r k ∧ scn tf t s r k ≤ k + r ∧ (scn tf t s r k < k + r → tf (753 * t + 1 + 6 * scn tf t s r k) = nI s) := by
  intro r
  induction r with
  | zero => intro k; exact ⟨Nat.le_refl _, Nat.le_refl _, fun q => absurd q (Nat.lt_irrefl _)⟩
  | succ r ih =>
    intro k
    by_cases hq : tf (753 * t + 1 + 6 * k) = nI s
    · have es : scn tf t s (r + 1) k = k := if_pos hq
      rw [es]
      exact ⟨Nat.le_refl _, by omega, fun _ => hq⟩
    · have es : scn tf t s (r + 1) k = scn tf t s r (k + 1) := if_neg hq
      rw [es]
      have := ih (k + 1)
      exact ⟨by omega, by omega, fun q => this.2.2 (by omega)⟩
theorem fK_sort {tf : Nat → Int32} {t s : Nat} (h : fK tf t s < cnt tf t) : tf (753 * t + 1 + 6 * fK tf t s) = nI s := (scn_spec (cnt tf t) 0).2.2 (by unfold fK at h; omega)
theorem s_lawV {h : Hp} {tf : Nat → Int32} {t1 s : Nat} {v : Value} (hv : txv h tf t1 v) (hs : s ≤ 2) (hz : I0 h 0) : ∃ c, (∀ d, 1 ≤ d → Sp d mX8_lawOf [v, .int (nI (s + 1))] h (some (.ref c)) h) ∧ lwc h tf t1 s c := by
  rcases hv with ⟨h0, rfl⟩ | ⟨h0, hT, x, rfl, hx⟩
  · exact ⟨0, fun d hd => s_lawOfN, Or.inr ⟨Or.inl h0, hz⟩⟩
  · obtain ⟨c, hc, q⟩ := hx.2.2.2 s hs
    refine ⟨c, fun d hd => s_lawOf hx.2.1 hs hc hd, ?_⟩
    rcases q with ⟨q1, q2, q3⟩ | ⟨q1, q2⟩
    · obtain ⟨ty, hty⟩ := (hT.2.2.2 _ s q1 hs (fK_sort q1)).2.2.2.2
      exact Or.inl ⟨h0, q1, q2, q3, hty.wf⟩
    · exact Or.inr ⟨Or.inr q1, q2⟩
theorem mSays_y {tf : Nat → Int32} {t1 s so w top : Nat} {env : Nat → Int} (h0 : t1 ≠ 0) (h1 : fK tf (t1 - 1) s < cnt tf (t1 - 1)) : mSays tf t1 s env so w top = cutZ top (evV env so (lO tf (t1 - 1) (fK tf (t1 - 1) s)) (lV tf (t1 - 1) (fK tf (t1 - 1) s)) (lM tf (t1 - 1) (fK tf (t1 - 1) s))) := by
  unfold mSays
  rw [if_neg h0, if_pos h1]
  rfl
theorem mSays_n {tf : Nat → Int32} {t1 s so w top : Nat} {env : Nat → Int} (h : t1 = 0 ∨ ¬ fK tf (t1 - 1) s < cnt tf (t1 - 1)) : mSays tf t1 s env so w top = w := by
  unfold mSays
  by_cases h0 : t1 = 0
  · rw [if_pos h0]
  · rw [if_neg h0, if_neg (h.resolve_left h0)]
theorem c_rulingV {h : Hp} {a : Fl} {tf : Nat → Int32} (hs : MkS h 9) (mo : MO h a tf) (h2 : a 2 ≤ 4) (h3 : a 3 ≤ a 2) (hT : a 3 ≠ 0 → TXV tf (a 3 - 1)) : ∃ v, txv h tf (a 3) v ∧ (∀ d, 1 ≤ d → Sp d mX1_ruling [.ref 9] h (some v) h) := by
  by_cases h0 : a 3 = 0
  · refine ⟨.null, Or.inl ⟨h0, rfl⟩, fun d hd => ?_⟩
    exact c_rulingN hs mo.2.1 (by rw [mo.2.2.1]; show nI (a 3) - 1 = -1; rw [h0]; rfl) hd
  · obtain ⟨x, hx, q⟩ := mo.2.2.2 (a 3 - 1) (by omega)
    refine ⟨.ref x, Or.inr ⟨h0, hT h0, x, rfl, q⟩, fun d hd => ?_⟩
    refine c_ruling (b := 9) (j := a 3 - 1) hs mo.2.1 h2 (by omega) ?_ hx hd
    rw [mo.2.2.1, cI_T]
    exact if_neg h0
theorem txv.rok {h : Hp} {tf : Nat → Int32} {t1 : Nat} {v : Value} {t : FieldType} (hv : txv h tf t1 v) (ht : isR t = true) : rok (some t) (some v) := by
  rcases hv with ⟨_, rfl⟩ | ⟨_, _, x, rfl, _⟩
  · exact rok_n ht
  · exact rok_o ht
/-- a class that can reckon laws over a world -/
def CLW (h : Hp) (a : Fl) (tf : Nat → Int32) (w : Nat) (W : Fl) : Prop := IO h 8 8 ∧ pR h 8 0 = some 9 ∧ pR h 8 4 = some 481 ∧ RK h ∧ MkS h 9 ∧ I0 h 0 ∧ MO h a tf ∧ WoS h w ∧ WV h w W ∧ w + 6 < 482

theorem c_comesNow {h : Hp} {d w n : Nat} {a W : Fl} {tf : Nat → Int32} (cl : CLW h a tf w W) (hW : IW n W) (hn : n = a 0) (h0 : a 0 ≤ 8) (h2 : a 2 ≤ 4) (h3 : a 3 ≤ a 2) {f : Nat} (hf : f < a 0) (hF : IFc a) (hT : a 3 ≠ 0 → TXV tf (a 3 - 1)) (hd : 4 ≤ d) : ∃ h1, Sp d mX8_comesNow [.ref 8, .ref w, .int (nI f)] h (some (.int (nI (mComes tf a W f)))) h1 ∧ FR 482 483 h h1 := by
  obtain ⟨h8, hx0, hx4, hk, hs, hz, mo, hw, hv, hwb⟩ := id cl
  obtain ⟨⟨b0, b1, b2, b3, b4, b5⟩, bp, bc, bb⟩ := id hW
  have p2 : 2 ^ n ≤ 2 ^ 8 := Nat.pow_le_pow_right (by omega) (by omega)
  obtain ⟨g1, g2⟩ := hF f hf
  obtain ⟨v, rv1, rv2⟩ := c_rulingV hs mo h2 h3 hT
  obtain ⟨c, lw1, lw2⟩ := s_lawV (s := 0) rv1 (by omega) hz
  unfold mComes
  rcases lw2 with ⟨t0, tk, tc, lc, wf⟩ | ⟨tn, lz⟩
  · have he : NE (sI (sI (sI (sI (sI h 482 10 (nI (W 1))) 482 30 (nI (pcn (W 3)))) 482 4 (nI f)) 482 31 (nI (a (110 + 2 * f + 0)))) 482 11 (nI (a (110 + 2 * f + 1)))) (0 = 0) (envC a W f) := by
      refine ⟨envC_b (n := n) b1 (by omega) g1 g2, fun v hv hc => ?_⟩
      have hv5 : v < 5 := by
        rcases hc with q | q
        · omega
        · exact q.mpr rfl
      rcases (show v = 0 ∨ v = 1 ∨ v = 2 ∨ v = 3 ∨ v = 4 by omega) with rfl | rfl | rfl | rfl | rfl
      · show pI _ 482 10 = _; rw [pI_sI, if_pos rfl, if_neg (by omega), pI_sI, if_pos rfl, if_neg (by omega), pI_sI, if_pos rfl, if_neg (by omega), pI_sI, if_pos rfl, if_neg (by omega), pI_sI, if_pos rfl, if_pos rfl]; exact nI_i _
      · show pI _ 482 30 = _; rw [pI_sI, if_pos rfl, if_neg (by omega), pI_sI, if_pos rfl, if_neg (by omega), pI_sI, if_pos rfl, if_neg (by omega), pI_sI, if_pos rfl, if_pos rfl]; exact nI_i _
      · show pI _ 482 4 = _; rw [pI_sI, if_pos rfl, if_neg (by omega), pI_sI, if_pos rfl, if_neg (by omega), pI_sI, if_pos rfl, if_pos rfl]; exact nI_i _
      · show pI _ 482 31 = _; rw [pI_sI, if_pos rfl, if_neg (by omega), pI_sI, if_pos rfl, if_pos rfl]; exact nI_i _
      · show pI _ 482 11 = _; rw [pI_sI, if_pos rfl, if_pos rfl]; exact nI_i _
    rw [mSays_y t0 tk]
    have hlm := lc.2.1
    have hlm2 := lc.2.2.1
    obtain ⟨F, run⟩ := s_run (h := (sI (sI (sI (sI (sI h 482 10 (nI (W 1))) 482 30 (nI (pcn (W 3)))) 482 4 (nI f)) 482 31 (nI (a (110 + 2 * f + 0)))) 482 11 (nI (a (110 + 2 * f + 1))))) (d := 2) (so := W 3) (by exact hk.1) (by exact hk.2.1) (by exact hk.2.2.1) (by exact hk.2.2.2.1) (by exact hk.2.2.2.2) (lc.fr (h1 := (sI (sI (sI (sI (sI h 482 10 (nI (W 1))) 482 30 (nI (pcn (W 3)))) 482 4 (nI f)) 482 31 (nI (a (110 + 2 * f + 0)))) 482 11 (nI (a (110 + 2 * f + 1))))) rfl (by (repeat rw [pI_sI_ne (by omega)]) <;> rfl)) wf he (by omega) (by omega) (by omega) (Nat.le_refl _)
    have be := lc.be he.1 (W 3)
    refine ⟨sA (sI (sI (sI (sI (sI h 482 10 (nI (W 1))) 482 30 (nI (pcn (W 3)))) 482 4 (nI f)) 482 31 (nI (a (110 + 2 * f + 0)))) 482 11 (nI (a (110 + 2 * f + 1)))) 483 F, ?_, (((((FR.rf.sI (by omega)).sI (by omega)).sI (by omega)).sI (by omega)).sI (by omega)).sA (by omega)⟩
    intro N S Q hN hS hQ
    have hN : pn h ≤ N := hN
    have hS : ps h ≤ S := hS
    rcases id rv1 with ⟨z0, rfl⟩ | ⟨z0, zT, x, rfl, zx⟩
    · exact absurd z0 t0
    · skip
      refine z_aload_n dX8_comesNow_0 rfl rfl ?_
      refine y_getR FX8_10 dX8_comesNow_1 rfl h8 hx0 ?_
      refine y_callV (as := []) CX1_ruling LX8_197 IX1_ruling VX1_ruling ⟨rfl, Nat.le_of_ble_eq_true rfl⟩ dX8_comesNow_4 hs.o rfl (Nat.le_of_ble_eq_true rfl) (Nat.le_of_ble_eq_true rfl) (by omega) (rv2 1 (Nat.le_refl _)) (rv1.rok rfl) ⟨Nat.le_refl _, Nat.le_refl _, hN, hS⟩ ?_
      refine z_iconst (v := 1) dX8_comesNow_7 (by decide) ?_
      refine y_callS (as := [_, _]) CX8_lawOf LX8_272 SX8_lawOf dX8_comesNow_8 rfl (Nat.le_of_ble_eq_true rfl) (Nat.le_of_ble_eq_true rfl) (by omega) (lw1 1 (Nat.le_refl _)) (rok_o rfl) ⟨Nat.le_refl _, Nat.le_refl _, hN, hS⟩ ?_
      refine z_astore_n dX8_comesNow_11 rfl (Nat.le_of_ble_eq_true rfl) ?_
      refine z_aload_n dX8_comesNow_12 rfl rfl ?_
      refine y_getR FX8_10 dX8_comesNow_13 rfl h8 hx0 ?_
      refine y_getR FX8_65 dX8_comesNow_16 rfl hs.o hs.f4 ?_
      refine z_iload_n dX8_comesNow_19 rfl rfl ?_
      refine z_iconst (v := 0) dX8_comesNow_20 (by decide) ?_
      refine y_callV (as := [_, _]) CX4_get LX8_143 IX4_get VX4_get ⟨rfl, Nat.le_of_ble_eq_true rfl⟩ dX8_comesNow_21 hs.facts.1 rfl (Nat.le_of_ble_eq_true rfl) (Nat.le_of_ble_eq_true rfl) (by omega) (s_get (k := 18) (w := 2) (ms := 8) (i := f) (j := 0) (by exact (by exact hs.facts)) (mo.1.1.fr (by (repeat rw [pI_sI_ne (by omega)]) <;> rfl)) hf (by omega)) rok_i ⟨Nat.le_refl _, Nat.le_refl _, hN, hS⟩ ?_
      refine z_eqi (show _ = nI (a (110 + 2 * f + 0)) by (repeat rw [pI_sI_ne (by omega)]); rw [mo.1.2 (f * 2 + 0) (by omega)]; exact congrArg (fun i => nI (a i)) (by omega)) ?_
      refine z_istore dX8_comesNow_24 (Nat.le_of_ble_eq_true rfl) ?_
      refine z_aload_n dX8_comesNow_26 rfl rfl ?_
      refine y_alen dX8_comesNow_27 (by exact lc.1) ⟨Nat.le_of_ble_eq_true rfl, Nat.le_of_ble_eq_true rfl⟩ rfl ?_
      refine z_if_ne dX8_comesNow_28 rfl (fun _ => ?_) (fun c => absurd c (fun q => absurd ((nI_eq (b := 0) (by omega) (by omega)).mp q) (by omega)))
      refine z_aload_n dX8_comesNow_34 rfl rfl ?_
      refine y_getR FX8_36 dX8_comesNow_35 rfl h8 hx4 ?_
      refine z_bipush (v := 10) dX8_comesNow_38 (by decide) ?_
      refine z_aload_n dX8_comesNow_40 rfl rfl ?_
      refine y_getI FX8_133 dX8_comesNow_41 (Or.inl rfl) hw.1 ?_
      refine z_eqi (y := nI (W 1)) (show _ = nI (W 1) by (repeat rw [pI_sI_ne (by omega)]); exact hv.1) ?_
      refine y_callV (as := [_, _]) CX3_tell LX8_276 IX3_tell VX3_tell ⟨rfl, Nat.le_of_ble_eq_true rfl⟩ dX8_comesNow_44 hk.1 rfl (Nat.le_of_ble_eq_true rfl) (Nat.le_of_ble_eq_true rfl) (by omega) (s_tell (t := 10) (by exact hk) (by omega)) rok_v ⟨Nat.le_refl _, Nat.le_refl _, hN, hS⟩ ?_
      refine z_aload_n dX8_comesNow_47 rfl rfl ?_
      refine y_getR FX8_36 dX8_comesNow_48 rfl h8 hx4 ?_
      refine z_bipush (v := 30) dX8_comesNow_51 (by decide) ?_
      refine z_aload_n dX8_comesNow_53 rfl rfl ?_
      refine y_getI FX8_160 dX8_comesNow_54 (Or.inl rfl) hw.1 ?_
      refine z_eqi (y := nI (W 3)) (show _ = nI (W 3) by (repeat rw [pI_sI_ne (by omega)]); exact hv.2.2.1) ?_
      refine y_callS (as := [_]) CJ6_bitCount_0f7a4 LX8_279 SJ6_bitCount_0f7a4 dX8_comesNow_57 rfl (Nat.le_of_ble_eq_true rfl) (Nat.le_of_ble_eq_true rfl) (by omega) (s_bitCount (n := W 3) (by omega)) rok_i ⟨Nat.le_refl _, Nat.le_refl _, hN, hS⟩ ?_
      refine y_callV (as := [_, _]) CX3_tell LX8_276 IX3_tell VX3_tell ⟨rfl, Nat.le_of_ble_eq_true rfl⟩ dX8_comesNow_60 hk.1 rfl (Nat.le_of_ble_eq_true rfl) (Nat.le_of_ble_eq_true rfl) (by omega) (s_tell (t := 30) (by exact hk) (by omega)) rok_v ⟨Nat.le_refl _, Nat.le_refl _, hN, hS⟩ ?_
      refine z_aload_n dX8_comesNow_63 rfl rfl ?_
      refine y_getR FX8_36 dX8_comesNow_64 rfl h8 hx4 ?_
      refine z_iconst (v := 4) dX8_comesNow_67 (by decide) ?_
      refine z_iload_n dX8_comesNow_68 rfl rfl ?_
      refine y_callV (as := [_, _]) CX3_tell LX8_276 IX3_tell VX3_tell ⟨rfl, Nat.le_of_ble_eq_true rfl⟩ dX8_comesNow_69 hk.1 rfl (Nat.le_of_ble_eq_true rfl) (Nat.le_of_ble_eq_true rfl) (by omega) (s_tell (t := 4) (by exact hk) (by omega)) rok_v ⟨Nat.le_refl _, Nat.le_refl _, hN, hS⟩ ?_
      refine z_aload_n dX8_comesNow_72 rfl rfl ?_
      refine y_getR FX8_36 dX8_comesNow_73 rfl h8 hx4 ?_
      refine z_bipush (v := 31) dX8_comesNow_76 (by decide) ?_
      refine z_iload dX8_comesNow_78 rfl ?_
      refine y_callV (as := [_, _]) CX3_tell LX8_276 IX3_tell VX3_tell ⟨rfl, Nat.le_of_ble_eq_true rfl⟩ dX8_comesNow_80 hk.1 rfl (Nat.le_of_ble_eq_true rfl) (Nat.le_of_ble_eq_true rfl) (by omega) (s_tell (t := 31) (by exact hk) (by omega)) rok_v ⟨Nat.le_refl _, Nat.le_refl _, hN, hS⟩ ?_
      refine z_aload_n dX8_comesNow_83 rfl rfl ?_
      refine y_getR FX8_36 dX8_comesNow_84 rfl h8 hx4 ?_
      refine z_bipush (v := 11) dX8_comesNow_87 (by decide) ?_
      refine z_aload_n dX8_comesNow_89 rfl rfl ?_
      refine y_getR FX8_10 dX8_comesNow_90 rfl h8 hx0 ?_
      refine y_getR FX8_65 dX8_comesNow_93 rfl hs.o hs.f4 ?_
      refine z_iload_n dX8_comesNow_96 rfl rfl ?_
      refine z_iconst (v := 1) dX8_comesNow_97 (by decide) ?_
      refine y_callV (as := [_, _]) CX4_get LX8_143 IX4_get VX4_get ⟨rfl, Nat.le_of_ble_eq_true rfl⟩ dX8_comesNow_98 hs.facts.1 rfl (Nat.le_of_ble_eq_true rfl) (Nat.le_of_ble_eq_true rfl) (by omega) (s_get (k := 18) (w := 2) (ms := 8) (i := f) (j := 1) (by exact (by exact hs.facts)) (mo.1.1.fr (by (repeat rw [pI_sI_ne (by omega)]) <;> rfl)) hf (by omega)) rok_i ⟨Nat.le_refl _, Nat.le_refl _, hN, hS⟩ ?_
      refine z_eqi (show _ = nI (a (110 + 2 * f + 1)) by (repeat rw [pI_sI_ne (by omega)]); rw [mo.1.2 (f * 2 + 1) (by omega)]; exact congrArg (fun i => nI (a i)) (by omega)) ?_
      refine y_callV (as := [_, _]) CX3_tell LX8_276 IX3_tell VX3_tell ⟨rfl, Nat.le_of_ble_eq_true rfl⟩ dX8_comesNow_101 hk.1 rfl (Nat.le_of_ble_eq_true rfl) (Nat.le_of_ble_eq_true rfl) (by omega) (s_tell (t := 11) (by exact hk) (by omega)) rok_v ⟨Nat.le_refl _, Nat.le_refl _, hN, hS⟩ ?_
      refine z_aload_n dX8_comesNow_104 rfl rfl ?_
      refine y_getR FX8_36 dX8_comesNow_105 rfl h8 hx4 ?_
      refine z_aload_n dX8_comesNow_108 rfl rfl ?_
      refine z_aload_n dX8_comesNow_109 rfl rfl ?_
      refine y_getI FX8_160 dX8_comesNow_110 (Or.inl rfl) hw.1 ?_
      refine z_eqi (y := nI (W 3)) (show _ = nI (W 3) by (repeat rw [pI_sI_ne (by omega)]); exact hv.2.2.1) ?_
      refine y_callV (as := [_, _]) CX3_run LX8_284 IX3_run VX3_run ⟨rfl, Nat.le_of_ble_eq_true rfl⟩ dX8_comesNow_113 hk.1 rfl (Nat.le_of_ble_eq_true rfl) (Nat.le_of_ble_eq_true rfl) (by omega) run rok_i ⟨Nat.le_refl _, Nat.le_refl _, hN, hS⟩ ?_
      refine z_iconst (v := 0) dX8_comesNow_116 (by decide) ?_
      refine z_bipush (v := 10) dX8_comesNow_117 (by decide) ?_
      refine y_callS (as := [_, _, _]) CX8_clamp LX8_288 SX8_clamp dX8_comesNow_119 rfl (Nat.le_of_ble_eq_true rfl) (Nat.le_of_ble_eq_true rfl) (by omega) (s_clampZ (d := 1) (top := 10) (b6_30 be) (by omega) (Nat.le_refl _)) rok_i ⟨Nat.le_refl _, Nat.le_refl _, hN, hS⟩ ?_
      refine z_iret dX8_comesNow_122 ?_
      exact hQ
  · rw [mSays_n tn]
    refine ⟨h, ?_, FR.rf⟩
    intro N S Q hN hS hQ
    rcases id rv1 with ⟨z0, rfl⟩ | ⟨z0, zT, x, rfl, zx⟩
    · skip
      refine z_aload_n dX8_comesNow_0 rfl rfl ?_
      refine y_getR FX8_10 dX8_comesNow_1 rfl h8 hx0 ?_
      refine y_callV (as := []) CX1_ruling LX8_197 IX1_ruling VX1_ruling ⟨rfl, Nat.le_of_ble_eq_true rfl⟩ dX8_comesNow_4 hs.o rfl (Nat.le_of_ble_eq_true rfl) (Nat.le_of_ble_eq_true rfl) (by omega) (rv2 1 (Nat.le_refl _)) (rv1.rok rfl) ⟨Nat.le_refl _, Nat.le_refl _, hN, hS⟩ ?_
      refine z_iconst (v := 1) dX8_comesNow_7 (by decide) ?_
      refine y_callS (as := [_, _]) CX8_lawOf LX8_272 SX8_lawOf dX8_comesNow_8 rfl (Nat.le_of_ble_eq_true rfl) (Nat.le_of_ble_eq_true rfl) (by omega) (lw1 1 (Nat.le_refl _)) (rok_o rfl) ⟨Nat.le_refl _, Nat.le_refl _, hN, hS⟩ ?_
      refine z_astore_n dX8_comesNow_11 rfl (Nat.le_of_ble_eq_true rfl) ?_
      refine z_aload_n dX8_comesNow_12 rfl rfl ?_
      refine y_getR FX8_10 dX8_comesNow_13 rfl h8 hx0 ?_
      refine y_getR FX8_65 dX8_comesNow_16 rfl hs.o hs.f4 ?_
      refine z_iload_n dX8_comesNow_19 rfl rfl ?_
      refine z_iconst (v := 0) dX8_comesNow_20 (by decide) ?_
      refine y_callV (as := [_, _]) CX4_get LX8_143 IX4_get VX4_get ⟨rfl, Nat.le_of_ble_eq_true rfl⟩ dX8_comesNow_21 hs.facts.1 rfl (Nat.le_of_ble_eq_true rfl) (Nat.le_of_ble_eq_true rfl) (by omega) (s_get (k := 18) (w := 2) (ms := 8) (i := f) (j := 0) (by exact (by exact hs.facts)) (mo.1.1.fr (by (repeat rw [pI_sI_ne (by omega)]) <;> rfl)) hf (by omega)) rok_i ⟨Nat.le_refl _, Nat.le_refl _, hN, hS⟩ ?_
      refine z_eqi (show _ = nI (a (110 + 2 * f + 0)) by (repeat rw [pI_sI_ne (by omega)]); rw [mo.1.2 (f * 2 + 0) (by omega)]; exact congrArg (fun i => nI (a i)) (by omega)) ?_
      refine z_istore dX8_comesNow_24 (Nat.le_of_ble_eq_true rfl) ?_
      refine z_aload_n dX8_comesNow_26 rfl rfl ?_
      refine z_alen dX8_comesNow_27 lz.1 lz.2 ⟨Nat.le_of_ble_eq_true rfl, Nat.le_of_ble_eq_true rfl⟩ rfl ?_
      refine z_if_ne dX8_comesNow_28 rfl (fun c => absurd (rfl) c) (fun _ => ?_)
      refine z_iload dX8_comesNow_31 rfl ?_
      refine z_iret dX8_comesNow_33 ?_
      exact hQ
    · skip
      refine z_aload_n dX8_comesNow_0 rfl rfl ?_
      refine y_getR FX8_10 dX8_comesNow_1 rfl h8 hx0 ?_
      refine y_callV (as := []) CX1_ruling LX8_197 IX1_ruling VX1_ruling ⟨rfl, Nat.le_of_ble_eq_true rfl⟩ dX8_comesNow_4 hs.o rfl (Nat.le_of_ble_eq_true rfl) (Nat.le_of_ble_eq_true rfl) (by omega) (rv2 1 (Nat.le_refl _)) (rv1.rok rfl) ⟨Nat.le_refl _, Nat.le_refl _, hN, hS⟩ ?_
      refine z_iconst (v := 1) dX8_comesNow_7 (by decide) ?_
      refine y_callS (as := [_, _]) CX8_lawOf LX8_272 SX8_lawOf dX8_comesNow_8 rfl (Nat.le_of_ble_eq_true rfl) (Nat.le_of_ble_eq_true rfl) (by omega) (lw1 1 (Nat.le_refl _)) (rok_o rfl) ⟨Nat.le_refl _, Nat.le_refl _, hN, hS⟩ ?_
      refine z_astore_n dX8_comesNow_11 rfl (Nat.le_of_ble_eq_true rfl) ?_
      refine z_aload_n dX8_comesNow_12 rfl rfl ?_
      refine y_getR FX8_10 dX8_comesNow_13 rfl h8 hx0 ?_
      refine y_getR FX8_65 dX8_comesNow_16 rfl hs.o hs.f4 ?_
      refine z_iload_n dX8_comesNow_19 rfl rfl ?_
      refine z_iconst (v := 0) dX8_comesNow_20 (by decide) ?_
      refine y_callV (as := [_, _]) CX4_get LX8_143 IX4_get VX4_get ⟨rfl, Nat.le_of_ble_eq_true rfl⟩ dX8_comesNow_21 hs.facts.1 rfl (Nat.le_of_ble_eq_true rfl) (Nat.le_of_ble_eq_true rfl) (by omega) (s_get (k := 18) (w := 2) (ms := 8) (i := f) (j := 0) (by exact (by exact hs.facts)) (mo.1.1.fr (by (repeat rw [pI_sI_ne (by omega)]) <;> rfl)) hf (by omega)) rok_i ⟨Nat.le_refl _, Nat.le_refl _, hN, hS⟩ ?_
      refine z_eqi (show _ = nI (a (110 + 2 * f + 0)) by (repeat rw [pI_sI_ne (by omega)]); rw [mo.1.2 (f * 2 + 0) (by omega)]; exact congrArg (fun i => nI (a i)) (by omega)) ?_
      refine z_istore dX8_comesNow_24 (Nat.le_of_ble_eq_true rfl) ?_
      refine z_aload_n dX8_comesNow_26 rfl rfl ?_
      refine z_alen dX8_comesNow_27 lz.1 lz.2 ⟨Nat.le_of_ble_eq_true rfl, Nat.le_of_ble_eq_true rfl⟩ rfl ?_
      refine z_if_ne dX8_comesNow_28 rfl (fun c => absurd (rfl) c) (fun _ => ?_)
      refine z_iload dX8_comesNow_31 rfl ?_
      refine z_iret dX8_comesNow_33 ?_
      exact hQ

theorem c_tellProphecy {h : Hp} {d w n : Nat} {a W : Fl} {tf : Nat → Int32} (cl : CLW h a tf w W) (hW : IW n W) (hn : n = a 0) (h0 : a 0 ≤ 8) (h2 : a 2 ≤ 4) (h3 : a 3 ≤ a 2) {k : Nat} (hk1 : k < W 4) (hd : 1 ≤ d) : ∃ h1, Sp d mX8_tellProphecy [.ref 8, .ref w, .int (nI k)] h none h1 ∧ FR 482 482 h h1 ∧ (∀ C : Prop, ¬ C → NE h1 C (envP W k)) := by
  obtain ⟨h8, hx0, hx4, hk, hs, hz, mo, hw, hv, hwb⟩ := id cl
  obtain ⟨⟨b0, b1, b2, b3, b4, b5⟩, bp, bc, bb⟩ := id hW
  have p2 : 2 ^ n ≤ 2 ^ 8 := Nat.pow_le_pow_right (by omega) (by omega)
  have cc := bc k hk1
  have eb := envP_b hW hk1
  refine ⟨(sI (sI (sI (sI (sI (sI (sI (sI h 482 10 (nI (W 1))) 482 30 (nI (pcn (W 3)))) 482 32 (nI (W (pcx k 0)))) 482 12 (nI (W (ppx (W (pcx k 0)) 1)))) 482 33 (nI (W (ppx (W (pcx k 0)) 0)))) 482 16 (nI (W (pcx k 4)))) 482 34 (nI (pcn (W (pcx k 2))))) 482 35 (iI ((W (pcx k 3) : Int) - (W 1 : Int)))), ?_, (((((((FR.rf.sI (by omega)).sI (by omega)).sI (by omega)).sI (by omega)).sI (by omega)).sI (by omega)).sI (by omega)).sI (by omega), ?_⟩
  · intro N S Q hN hS hQ
    have hN : pn h ≤ N := hN
    have hS : ps h ≤ S := hS
    refine z_aload_n dX8_tellProphecy_0 rfl rfl ?_
    refine y_getR FX8_127 dX8_tellProphecy_1 rfl hw.1 hw.2.2.2.1 ?_
    refine z_astore_n dX8_tellProphecy_4 rfl (Nat.le_of_ble_eq_true rfl) ?_
    refine z_aload_n dX8_tellProphecy_5 rfl rfl ?_
    refine z_iload_n dX8_tellProphecy_6 rfl rfl ?_
    refine z_iconst (v := 0) dX8_tellProphecy_7 (by decide) ?_
    refine y_callV (as := [_, _]) CX4_get LX8_143 IX4_get VX4_get ⟨rfl, Nat.le_of_ble_eq_true rfl⟩ dX8_tellProphecy_8 hw.2.2.2.2.1.1 rfl (Nat.le_of_ble_eq_true rfl) (Nat.le_of_ble_eq_true rfl) (by omega) (s_get (w := 6) (ms := 12) (i := k) (j := 0) (by exact hw.2.2.2.2.1) (hv.2.2.2.2.2.1.fr (by (repeat rw [pI_sI_ne (by omega)]) <;> rfl)) hk1 (by omega)) rok_i ⟨Nat.le_refl _, Nat.le_refl _, hN, hS⟩ ?_
    refine z_eqi (show _ = nI (W (pcx k 0)) by (repeat rw [pI_sI_ne (by omega)]); exact hv.k hk1 (by omega)) ?_
    refine z_istore dX8_tellProphecy_11 (Nat.le_of_ble_eq_true rfl) ?_
    refine z_aload_n dX8_tellProphecy_13 rfl rfl ?_
    refine y_getR FX8_36 dX8_tellProphecy_14 rfl h8 hx4 ?_
    refine z_bipush (v := 10) dX8_tellProphecy_17 (by decide) ?_
    refine z_aload_n dX8_tellProphecy_19 rfl rfl ?_
    refine y_getI FX8_133 dX8_tellProphecy_20 (Or.inl rfl) hw.1 ?_
    refine z_eqi (y := nI (W 1)) (show _ = nI (W 1) by (repeat rw [pI_sI_ne (by omega)]); exact hv.1) ?_
    refine y_callV (as := [_, _]) CX3_tell LX8_276 IX3_tell VX3_tell ⟨rfl, Nat.le_of_ble_eq_true rfl⟩ dX8_tellProphecy_23 hk.1 rfl (Nat.le_of_ble_eq_true rfl) (Nat.le_of_ble_eq_true rfl) (by omega) (s_tell (t := 10) (by exact hk) (by omega)) rok_v ⟨Nat.le_refl _, Nat.le_refl _, hN, hS⟩ ?_
    refine z_aload_n dX8_tellProphecy_26 rfl rfl ?_
    refine y_getR FX8_36 dX8_tellProphecy_27 rfl h8 hx4 ?_
    refine z_bipush (v := 30) dX8_tellProphecy_30 (by decide) ?_
    refine z_aload_n dX8_tellProphecy_32 rfl rfl ?_
    refine y_getI FX8_160 dX8_tellProphecy_33 (Or.inl rfl) hw.1 ?_
    refine z_eqi (y := nI (W 3)) (show _ = nI (W 3) by (repeat rw [pI_sI_ne (by omega)]); exact hv.2.2.1) ?_
    refine y_callS (as := [_]) CJ6_bitCount_0f7a4 LX8_279 SJ6_bitCount_0f7a4 dX8_tellProphecy_36 rfl (Nat.le_of_ble_eq_true rfl) (Nat.le_of_ble_eq_true rfl) (by omega) (s_bitCount (n := W 3) (by omega)) rok_i ⟨Nat.le_refl _, Nat.le_refl _, hN, hS⟩ ?_
    refine y_callV (as := [_, _]) CX3_tell LX8_276 IX3_tell VX3_tell ⟨rfl, Nat.le_of_ble_eq_true rfl⟩ dX8_tellProphecy_39 hk.1 rfl (Nat.le_of_ble_eq_true rfl) (Nat.le_of_ble_eq_true rfl) (by omega) (s_tell (t := 30) (by exact hk) (by omega)) rok_v ⟨Nat.le_refl _, Nat.le_refl _, hN, hS⟩ ?_
    refine z_aload_n dX8_tellProphecy_42 rfl rfl ?_
    refine y_getR FX8_36 dX8_tellProphecy_43 rfl h8 hx4 ?_
    refine z_bipush (v := 32) dX8_tellProphecy_46 (by decide) ?_
    refine z_iload dX8_tellProphecy_48 rfl ?_
    refine y_callV (as := [_, _]) CX3_tell LX8_276 IX3_tell VX3_tell ⟨rfl, Nat.le_of_ble_eq_true rfl⟩ dX8_tellProphecy_50 hk.1 rfl (Nat.le_of_ble_eq_true rfl) (Nat.le_of_ble_eq_true rfl) (by omega) (s_tell (t := 32) (by exact hk) (by omega)) rok_v ⟨Nat.le_refl _, Nat.le_refl _, hN, hS⟩ ?_
    refine z_aload_n dX8_tellProphecy_53 rfl rfl ?_
    refine y_getR FX8_36 dX8_tellProphecy_54 rfl h8 hx4 ?_
    refine z_bipush (v := 12) dX8_tellProphecy_57 (by decide) ?_
    refine z_aload_n dX8_tellProphecy_59 rfl rfl ?_
    refine y_getR FX8_82 dX8_tellProphecy_60 rfl hw.1 hw.2.1 ?_
    refine z_iload dX8_tellProphecy_63 rfl ?_
    refine z_iconst (v := 1) dX8_tellProphecy_65 (by decide) ?_
    refine y_callV (as := [_, _]) CX4_get LX8_143 IX4_get VX4_get ⟨rfl, Nat.le_of_ble_eq_true rfl⟩ dX8_tellProphecy_66 hw.2.2.1.1 rfl (Nat.le_of_ble_eq_true rfl) (Nat.le_of_ble_eq_true rfl) (by omega) (s_get (w := 3) (ms := 5) (i := W (pcx k 0)) (j := 1) (by exact hw.2.2.1) (hv.2.2.2.1.fr (by (repeat rw [pI_sI_ne (by omega)]) <;> rfl)) cc.1 (by omega)) rok_i ⟨Nat.le_refl _, Nat.le_refl _, hN, hS⟩ ?_
    refine z_eqi (show _ = nI (W (ppx (W (pcx k 0)) 1)) by (repeat rw [pI_sI_ne (by omega)]); exact hv.p cc.1 (by omega)) ?_
    refine y_callV (as := [_, _]) CX3_tell LX8_276 IX3_tell VX3_tell ⟨rfl, Nat.le_of_ble_eq_true rfl⟩ dX8_tellProphecy_69 hk.1 rfl (Nat.le_of_ble_eq_true rfl) (Nat.le_of_ble_eq_true rfl) (by omega) (s_tell (t := 12) (by exact hk) (by omega)) rok_v ⟨Nat.le_refl _, Nat.le_refl _, hN, hS⟩ ?_
    refine z_aload_n dX8_tellProphecy_72 rfl rfl ?_
    refine y_getR FX8_36 dX8_tellProphecy_73 rfl h8 hx4 ?_
    refine z_bipush (v := 33) dX8_tellProphecy_76 (by decide) ?_
    refine z_aload_n dX8_tellProphecy_78 rfl rfl ?_
    refine y_getR FX8_82 dX8_tellProphecy_79 rfl hw.1 hw.2.1 ?_
    refine z_iload dX8_tellProphecy_82 rfl ?_
    refine z_iconst (v := 0) dX8_tellProphecy_84 (by decide) ?_
    refine y_callV (as := [_, _]) CX4_get LX8_143 IX4_get VX4_get ⟨rfl, Nat.le_of_ble_eq_true rfl⟩ dX8_tellProphecy_85 hw.2.2.1.1 rfl (Nat.le_of_ble_eq_true rfl) (Nat.le_of_ble_eq_true rfl) (by omega) (s_get (w := 3) (ms := 5) (i := W (pcx k 0)) (j := 0) (by exact hw.2.2.1) (hv.2.2.2.1.fr (by (repeat rw [pI_sI_ne (by omega)]) <;> rfl)) cc.1 (by omega)) rok_i ⟨Nat.le_refl _, Nat.le_refl _, hN, hS⟩ ?_
    refine z_eqi (show _ = nI (W (ppx (W (pcx k 0)) 0)) by (repeat rw [pI_sI_ne (by omega)]); exact hv.p cc.1 (by omega)) ?_
    refine y_callV (as := [_, _]) CX3_tell LX8_276 IX3_tell VX3_tell ⟨rfl, Nat.le_of_ble_eq_true rfl⟩ dX8_tellProphecy_88 hk.1 rfl (Nat.le_of_ble_eq_true rfl) (Nat.le_of_ble_eq_true rfl) (by omega) (s_tell (t := 33) (by exact hk) (by omega)) rok_v ⟨Nat.le_refl _, Nat.le_refl _, hN, hS⟩ ?_
    refine z_aload_n dX8_tellProphecy_91 rfl rfl ?_
    refine y_getR FX8_36 dX8_tellProphecy_92 rfl h8 hx4 ?_
    refine z_bipush (v := 16) dX8_tellProphecy_95 (by decide) ?_
    refine z_aload_n dX8_tellProphecy_97 rfl rfl ?_
    refine z_iload_n dX8_tellProphecy_98 rfl rfl ?_
    refine z_iconst (v := 4) dX8_tellProphecy_99 (by decide) ?_
    refine y_callV (as := [_, _]) CX4_get LX8_143 IX4_get VX4_get ⟨rfl, Nat.le_of_ble_eq_true rfl⟩ dX8_tellProphecy_100 hw.2.2.2.2.1.1 rfl (Nat.le_of_ble_eq_true rfl) (Nat.le_of_ble_eq_true rfl) (by omega) (s_get (w := 6) (ms := 12) (i := k) (j := 4) (by exact hw.2.2.2.2.1) (hv.2.2.2.2.2.1.fr (by (repeat rw [pI_sI_ne (by omega)]) <;> rfl)) hk1 (by omega)) rok_i ⟨Nat.le_refl _, Nat.le_refl _, hN, hS⟩ ?_
    refine z_eqi (show _ = nI (W (pcx k 4)) by (repeat rw [pI_sI_ne (by omega)]); exact hv.k hk1 (by omega)) ?_
    refine y_callV (as := [_, _]) CX3_tell LX8_276 IX3_tell VX3_tell ⟨rfl, Nat.le_of_ble_eq_true rfl⟩ dX8_tellProphecy_103 hk.1 rfl (Nat.le_of_ble_eq_true rfl) (Nat.le_of_ble_eq_true rfl) (by omega) (s_tell (t := 16) (by exact hk) (by omega)) rok_v ⟨Nat.le_refl _, Nat.le_refl _, hN, hS⟩ ?_
    refine z_aload_n dX8_tellProphecy_106 rfl rfl ?_
    refine y_getR FX8_36 dX8_tellProphecy_107 rfl h8 hx4 ?_
    refine z_bipush (v := 34) dX8_tellProphecy_110 (by decide) ?_
    refine z_aload_n dX8_tellProphecy_112 rfl rfl ?_
    refine z_iload_n dX8_tellProphecy_113 rfl rfl ?_
    refine z_iconst (v := 2) dX8_tellProphecy_114 (by decide) ?_
    refine y_callV (as := [_, _]) CX4_get LX8_143 IX4_get VX4_get ⟨rfl, Nat.le_of_ble_eq_true rfl⟩ dX8_tellProphecy_115 hw.2.2.2.2.1.1 rfl (Nat.le_of_ble_eq_true rfl) (Nat.le_of_ble_eq_true rfl) (by omega) (s_get (w := 6) (ms := 12) (i := k) (j := 2) (by exact hw.2.2.2.2.1) (hv.2.2.2.2.2.1.fr (by (repeat rw [pI_sI_ne (by omega)]) <;> rfl)) hk1 (by omega)) rok_i ⟨Nat.le_refl _, Nat.le_refl _, hN, hS⟩ ?_
    refine z_eqi (show _ = nI (W (pcx k 2)) by (repeat rw [pI_sI_ne (by omega)]); exact hv.k hk1 (by omega)) ?_
    refine y_callS (as := [_]) CJ6_bitCount_0f7a4 LX8_279 SJ6_bitCount_0f7a4 dX8_tellProphecy_118 rfl (Nat.le_of_ble_eq_true rfl) (Nat.le_of_ble_eq_true rfl) (by omega) (s_bitCount (n := W (pcx k 2)) (by omega)) rok_i ⟨Nat.le_refl _, Nat.le_refl _, hN, hS⟩ ?_
    refine y_callV (as := [_, _]) CX3_tell LX8_276 IX3_tell VX3_tell ⟨rfl, Nat.le_of_ble_eq_true rfl⟩ dX8_tellProphecy_121 hk.1 rfl (Nat.le_of_ble_eq_true rfl) (Nat.le_of_ble_eq_true rfl) (by omega) (s_tell (t := 34) (by exact hk) (by omega)) rok_v ⟨Nat.le_refl _, Nat.le_refl _, hN, hS⟩ ?_
    refine z_aload_n dX8_tellProphecy_124 rfl rfl ?_
    refine y_getR FX8_36 dX8_tellProphecy_125 rfl h8 hx4 ?_
    refine z_bipush (v := 35) dX8_tellProphecy_128 (by decide) ?_
    refine z_aload_n dX8_tellProphecy_130 rfl rfl ?_
    refine z_iload_n dX8_tellProphecy_131 rfl rfl ?_
    refine z_iconst (v := 3) dX8_tellProphecy_132 (by decide) ?_
    refine y_callV (as := [_, _]) CX4_get LX8_143 IX4_get VX4_get ⟨rfl, Nat.le_of_ble_eq_true rfl⟩ dX8_tellProphecy_133 hw.2.2.2.2.1.1 rfl (Nat.le_of_ble_eq_true rfl) (Nat.le_of_ble_eq_true rfl) (by omega) (s_get (w := 6) (ms := 12) (i := k) (j := 3) (by exact hw.2.2.2.2.1) (hv.2.2.2.2.2.1.fr (by (repeat rw [pI_sI_ne (by omega)]) <;> rfl)) hk1 (by omega)) rok_i ⟨Nat.le_refl _, Nat.le_refl _, hN, hS⟩ ?_
    refine z_eqi (show _ = nI (W (pcx k 3)) by (repeat rw [pI_sI_ne (by omega)]); exact hv.k hk1 (by omega)) ?_
    refine z_aload_n dX8_tellProphecy_136 rfl rfl ?_
    refine y_getI FX8_133 dX8_tellProphecy_137 (Or.inl rfl) hw.1 ?_
    refine z_eqi (y := nI (W 1)) (show _ = nI (W 1) by (repeat rw [pI_sI_ne (by omega)]); exact hv.1) ?_
    refine z_isub dX8_tellProphecy_140 ?_
    refine z_eqi (iI_sub _ _) ?_
    refine y_callV (as := [_, _]) CX3_tell LX8_276 IX3_tell VX3_tell ⟨rfl, Nat.le_of_ble_eq_true rfl⟩ dX8_tellProphecy_141 hk.1 rfl (Nat.le_of_ble_eq_true rfl) (Nat.le_of_ble_eq_true rfl) (by omega) (s_tell (t := 35) (by exact hk) (by omega)) rok_v ⟨Nat.le_refl _, Nat.le_refl _, hN, hS⟩ ?_
    refine z_vret dX8_tellProphecy_144 ?_
    exact hQ
  · intro C hC
    refine ⟨eb, fun v hv hc => ?_⟩
    have hv5 : v = 0 ∨ v = 1 ∨ v = 5 ∨ v = 6 ∨ v = 7 ∨ v = 8 ∨ v = 9 ∨ v = 10 := by
      rcases hc with q | q
      · omega
      · have : ¬ v < 5 := fun z => hC (q.mp z)
        omega
    rcases hv5 with rfl | rfl | rfl | rfl | rfl | rfl | rfl | rfl
    · show pI _ 482 10 = _; rw [pI_sI, if_pos rfl, if_neg (by omega), pI_sI, if_pos rfl, if_neg (by omega), pI_sI, if_pos rfl, if_neg (by omega), pI_sI, if_pos rfl, if_neg (by omega), pI_sI, if_pos rfl, if_neg (by omega), pI_sI, if_pos rfl, if_neg (by omega), pI_sI, if_pos rfl, if_neg (by omega), pI_sI, if_pos rfl, if_pos rfl]; exact nI_i _
    · show pI _ 482 30 = _; rw [pI_sI, if_pos rfl, if_neg (by omega), pI_sI, if_pos rfl, if_neg (by omega), pI_sI, if_pos rfl, if_neg (by omega), pI_sI, if_pos rfl, if_neg (by omega), pI_sI, if_pos rfl, if_neg (by omega), pI_sI, if_pos rfl, if_neg (by omega), pI_sI, if_pos rfl, if_pos rfl]; exact nI_i _
    · show pI _ 482 32 = _; rw [pI_sI, if_pos rfl, if_neg (by omega), pI_sI, if_pos rfl, if_neg (by omega), pI_sI, if_pos rfl, if_neg (by omega), pI_sI, if_pos rfl, if_neg (by omega), pI_sI, if_pos rfl, if_neg (by omega), pI_sI, if_pos rfl, if_pos rfl]; exact nI_i _
    · show pI _ 482 12 = _; rw [pI_sI, if_pos rfl, if_neg (by omega), pI_sI, if_pos rfl, if_neg (by omega), pI_sI, if_pos rfl, if_neg (by omega), pI_sI, if_pos rfl, if_neg (by omega), pI_sI, if_pos rfl, if_pos rfl]; exact nI_i _
    · show pI _ 482 33 = _; rw [pI_sI, if_pos rfl, if_neg (by omega), pI_sI, if_pos rfl, if_neg (by omega), pI_sI, if_pos rfl, if_neg (by omega), pI_sI, if_pos rfl, if_pos rfl]; exact nI_i _
    · show pI _ 482 16 = _; rw [pI_sI, if_pos rfl, if_neg (by omega), pI_sI, if_pos rfl, if_neg (by omega), pI_sI, if_pos rfl, if_pos rfl]; exact nI_i _
    · show pI _ 482 34 = _; rw [pI_sI, if_pos rfl, if_neg (by omega), pI_sI, if_pos rfl, if_pos rfl]; exact nI_i _
    · show pI _ 482 35 = _; rw [pI_sI, if_pos rfl, if_pos rfl]; rfl

theorem c_duesBy {h : Hp} {d w n : Nat} {a W : Fl} {tf : Nat → Int32} (cl : CLW h a tf w W) (hW : IW n W) (hn : n = a 0) (h0 : a 0 ≤ 8) (h2 : a 2 ≤ 4) (h3 : a 3 ≤ a 2) {k : Nat} (hk1 : k < W 4) {t1 : Nat} {v : Value} (rv1 : txv h tf t1 v) (hd : 4 ≤ d) : ∃ h1, Sp d mX8_duesBy [.ref 8, v, .ref w, .int (nI k)] h (some (.int (nI (mDues tf t1 W k)))) h1 ∧ FR 482 483 h h1 := by
  obtain ⟨h8, hx0, hx4, hk, hs, hz, mo, hw, hv, hwb⟩ := id cl
  obtain ⟨⟨b0, b1, b2, b3, b4, b5⟩, bp, bc, bb⟩ := id hW
  have p2 : 2 ^ n ≤ 2 ^ 8 := Nat.pow_le_pow_right (by omega) (by omega)
  have cc := bc k hk1
  obtain ⟨c, lw1, lw2⟩ := s_lawV (s := 1) rv1 (by omega) hz
  unfold mDues
  rcases lw2 with ⟨t0, tk, tc, lc, wf⟩ | ⟨tn, lz⟩
  · obtain ⟨h1, tp, fr, he⟩ := c_tellProphecy (d := 3) cl hW hn h0 h2 h3 hk1 (by omega)
    rw [mSays_y t0 tk]
    have hlm := lc.2.1
    have hlm2 := lc.2.2.1
    have hk' := fr.1.rk hk
    obtain ⟨F, run⟩ := s_run (h := h1) (d := 2) (so := W 3) hk'.1 hk'.2.1 hk'.2.2.1 hk'.2.2.2.1 hk'.2.2.2.2 (lc.fr fr.1 (fr.2.2 c (by omega))) wf (he _ (by omega)) (by omega) (by omega) (by omega) (Nat.le_refl _)
    have be := lc.be (envP_b hW hk1) (W 3)
    refine ⟨sA h1 483 F, ?_, (fr.wide (by omega) (by omega)).sA (by omega)⟩
    intro N S Q hN hS hQ
    have hN1 : pn h1 ≤ N := hN
    have hS1 : ps h1 ≤ S := hS
    have hN : pn h ≤ N := by rw [← fr.1.n]; exact hN1
    have hS : ps h ≤ S := by rw [← fr.1.s]; exact hS1
    rcases id rv1 with ⟨z0, rfl⟩ | ⟨z0, zT, x, rfl, zx⟩
    · exact absurd z0 t0
    · skip
      refine z_aload_n dX8_duesBy_0 rfl rfl ?_
      refine z_iconst (v := 2) dX8_duesBy_1 (by decide) ?_
      refine y_callS (as := [_, _]) CX8_lawOf LX8_272 SX8_lawOf dX8_duesBy_2 rfl (Nat.le_of_ble_eq_true rfl) (Nat.le_of_ble_eq_true rfl) (by omega) (lw1 1 (Nat.le_refl _)) (rok_o rfl) ⟨Nat.le_refl _, Nat.le_refl _, hN, hS⟩ ?_
      refine z_astore dX8_duesBy_5 (Nat.le_of_ble_eq_true rfl) ?_
      refine z_aload dX8_duesBy_7 rfl ?_
      refine y_alen dX8_duesBy_9 (by exact lc.1) ⟨Nat.le_of_ble_eq_true rfl, Nat.le_of_ble_eq_true rfl⟩ rfl ?_
      refine z_if_ne dX8_duesBy_10 rfl (fun _ => ?_) (fun c => absurd c (fun q => absurd ((nI_eq (b := 0) (by omega) (by omega)).mp q) (by omega)))
      refine z_aload_n dX8_duesBy_26 rfl rfl ?_
      refine z_aload_n dX8_duesBy_27 rfl rfl ?_
      refine z_iload_n dX8_duesBy_28 rfl rfl ?_
      refine y_callV (as := [_, _]) CX8_tellProphecy LX8_292 IX8_tellProphecy VX8_tellProphecy ⟨rfl, Nat.le_of_ble_eq_true rfl⟩ dX8_duesBy_29 h8 rfl (Nat.le_of_ble_eq_true rfl) (Nat.le_of_ble_eq_true rfl) (by omega) tp rok_v (hg_ss fr.1 hN hS) ?_
      refine z_aload_n dX8_duesBy_32 rfl rfl ?_
      refine y_getR FX8_36 dX8_duesBy_33 rfl (fr.1.O h8) (by first | (rw [fr.1.R]; exact hx4) | exact (congrFun (congrFun fr.1.R _) _).trans hx4) ?_
      refine z_aload dX8_duesBy_36 rfl ?_
      refine z_aload_n dX8_duesBy_38 rfl rfl ?_
      refine y_getI FX8_160 dX8_duesBy_39 (Or.inl rfl) (fr.1.O hw.1) ?_
      refine z_eqi (y := nI (W 3)) (show _ = nI (W 3) by rw [fr.2.2 w (by omega)]; exact hv.2.2.1) ?_
      refine y_callV (as := [_, _]) CX3_run LX8_284 IX3_run VX3_run ⟨rfl, Nat.le_of_ble_eq_true rfl⟩ dX8_duesBy_42 (fr.1.O hk.1) rfl (Nat.le_of_ble_eq_true rfl) (Nat.le_of_ble_eq_true rfl) (by omega) run rok_i ⟨Nat.le_refl _, Nat.le_refl _, hN1, hS1⟩ ?_
      refine z_iconst (v := 0) dX8_duesBy_45 (by decide) ?_
      refine z_sipush (v := 9999) dX8_duesBy_46 (by decide) ?_
      refine y_callS (as := [_, _, _]) CX8_clamp LX8_288 SX8_clamp dX8_duesBy_49 rfl (Nat.le_of_ble_eq_true rfl) (Nat.le_of_ble_eq_true rfl) (by omega) (s_clampZ (d := 1) (top := 9999) (b6_30 be) (by omega) (Nat.le_refl _)) rok_i ⟨Nat.le_refl _, Nat.le_refl _, hN1, hS1⟩ ?_
      refine z_iret dX8_duesBy_52 ?_
      exact hQ
  · rw [mSays_n tn]
    refine ⟨h, ?_, FR.rf⟩
    intro N S Q hN hS hQ
    have fr : FR 482 482 h h := FR.rf
    rcases id rv1 with ⟨z0, rfl⟩ | ⟨z0, zT, x, rfl, zx⟩
    · skip
      refine z_aload_nN dX8_duesBy_0 rfl rfl ?_
      refine z_iconst (v := 2) dX8_duesBy_1 (by decide) ?_
      refine y_callS (as := [_, _]) CX8_lawOf LX8_272 SX8_lawOf dX8_duesBy_2 rfl (Nat.le_of_ble_eq_true rfl) (Nat.le_of_ble_eq_true rfl) (by omega) (lw1 1 (Nat.le_refl _)) (rok_o rfl) ⟨Nat.le_refl _, Nat.le_refl _, hN, hS⟩ ?_
      refine z_astore dX8_duesBy_5 (Nat.le_of_ble_eq_true rfl) ?_
      refine z_aload dX8_duesBy_7 rfl ?_
      refine z_alen dX8_duesBy_9 lz.1 lz.2 ⟨Nat.le_of_ble_eq_true rfl, Nat.le_of_ble_eq_true rfl⟩ rfl ?_
      refine z_if_ne dX8_duesBy_10 rfl (fun c => absurd (rfl) c) (fun _ => ?_)
      refine z_bipush (v := 10) dX8_duesBy_13 (by decide) ?_
      refine z_aload_n dX8_duesBy_15 rfl rfl ?_
      refine y_getR FX8_127 dX8_duesBy_16 rfl hw.1 hw.2.2.2.1 ?_
      refine z_iload_n dX8_duesBy_19 rfl rfl ?_
      refine z_iconst (v := 4) dX8_duesBy_20 (by decide) ?_
      refine y_callV (as := [_, _]) CX4_get LX8_143 IX4_get VX4_get ⟨rfl, Nat.le_of_ble_eq_true rfl⟩ dX8_duesBy_21 hw.2.2.2.2.1.1 rfl (Nat.le_of_ble_eq_true rfl) (Nat.le_of_ble_eq_true rfl) (by omega) (s_get (w := 6) (ms := 12) (i := k) (j := 4) (by exact hw.2.2.2.2.1) hv.2.2.2.2.2.1 hk1 (by omega)) rok_i ⟨Nat.le_refl _, Nat.le_refl _, hN, hS⟩ ?_
      refine z_eqi (show _ = nI (W (pcx k 4)) from hv.k hk1 (by omega)) ?_
      refine z_imul dX8_duesBy_24 ?_
      refine z_eqi (pk_mul 10 (W (pcx k 4))) ?_
      refine z_iret dX8_duesBy_25 ?_
      exact hQ
    · skip
      refine z_aload_n dX8_duesBy_0 rfl rfl ?_
      refine z_iconst (v := 2) dX8_duesBy_1 (by decide) ?_
      refine y_callS (as := [_, _]) CX8_lawOf LX8_272 SX8_lawOf dX8_duesBy_2 rfl (Nat.le_of_ble_eq_true rfl) (Nat.le_of_ble_eq_true rfl) (by omega) (lw1 1 (Nat.le_refl _)) (rok_o rfl) ⟨Nat.le_refl _, Nat.le_refl _, hN, hS⟩ ?_
      refine z_astore dX8_duesBy_5 (Nat.le_of_ble_eq_true rfl) ?_
      refine z_aload dX8_duesBy_7 rfl ?_
      refine z_alen dX8_duesBy_9 lz.1 lz.2 ⟨Nat.le_of_ble_eq_true rfl, Nat.le_of_ble_eq_true rfl⟩ rfl ?_
      refine z_if_ne dX8_duesBy_10 rfl (fun c => absurd (rfl) c) (fun _ => ?_)
      refine z_bipush (v := 10) dX8_duesBy_13 (by decide) ?_
      refine z_aload_n dX8_duesBy_15 rfl rfl ?_
      refine y_getR FX8_127 dX8_duesBy_16 rfl hw.1 hw.2.2.2.1 ?_
      refine z_iload_n dX8_duesBy_19 rfl rfl ?_
      refine z_iconst (v := 4) dX8_duesBy_20 (by decide) ?_
      refine y_callV (as := [_, _]) CX4_get LX8_143 IX4_get VX4_get ⟨rfl, Nat.le_of_ble_eq_true rfl⟩ dX8_duesBy_21 hw.2.2.2.2.1.1 rfl (Nat.le_of_ble_eq_true rfl) (Nat.le_of_ble_eq_true rfl) (by omega) (s_get (w := 6) (ms := 12) (i := k) (j := 4) (by exact hw.2.2.2.2.1) hv.2.2.2.2.2.1 hk1 (by omega)) rok_i ⟨Nat.le_refl _, Nat.le_refl _, hN, hS⟩ ?_
      refine z_eqi (show _ = nI (W (pcx k 4)) from hv.k hk1 (by omega)) ?_
      refine z_imul dX8_duesBy_24 ?_
      refine z_eqi (pk_mul 10 (W (pcx k 4))) ?_
      refine z_iret dX8_duesBy_25 ?_
      exact hQ

theorem c_renownNow {h : Hp} {d w n : Nat} {a W : Fl} {tf : Nat → Int32} (cl : CLW h a tf w W) (hW : IW n W) (hn : n = a 0) (h0 : a 0 ≤ 8) (h2 : a 2 ≤ 4) (h3 : a 3 ≤ a 2) {k : Nat} (hk1 : k < W 4) (hT : a 3 ≠ 0 → TXV tf (a 3 - 1)) (hd : 4 ≤ d) : ∃ h1, Sp d mX8_renownNow [.ref 8, .ref w, .int (nI k)] h (some (.int (nI (mRen tf (a 3) W k)))) h1 ∧ FR 482 483 h h1 := by
  obtain ⟨h8, hx0, hx4, hk, hs, hz, mo, hw, hv, hwb⟩ := id cl
  obtain ⟨⟨b0, b1, b2, b3, b4, b5⟩, bp, bc, bb⟩ := id hW
  have p2 : 2 ^ n ≤ 2 ^ 8 := Nat.pow_le_pow_right (by omega) (by omega)
  have cc := bc k hk1
  obtain ⟨v, rv1, rv2⟩ := c_rulingV hs mo h2 h3 hT
  obtain ⟨c, lw1, lw2⟩ := s_lawV (s := 2) rv1 (by omega) hz
  unfold mRen
  rcases lw2 with ⟨t0, tk, tc, lc, wf⟩ | ⟨tn, lz⟩
  · obtain ⟨h1, tp, fr, he⟩ := c_tellProphecy (d := 3) cl hW hn h0 h2 h3 hk1 (by omega)
    rw [mSays_y t0 tk]
    have hlm := lc.2.1
    have hlm2 := lc.2.2.1
    have hk' := fr.1.rk hk
    obtain ⟨F, run⟩ := s_run (h := h1) (d := 2) (so := W 3) hk'.1 hk'.2.1 hk'.2.2.1 hk'.2.2.2.1 hk'.2.2.2.2 (lc.fr fr.1 (fr.2.2 c (by omega))) wf (he _ (by omega)) (by omega) (by omega) (by omega) (Nat.le_refl _)
    have be := lc.be (envP_b hW hk1) (W 3)
    refine ⟨sA h1 483 F, ?_, (fr.wide (by omega) (by omega)).sA (by omega)⟩
    intro N S Q hN hS hQ
    have hN1 : pn h1 ≤ N := hN
    have hS1 : ps h1 ≤ S := hS
    have hN : pn h ≤ N := by rw [← fr.1.n]; exact hN1
    have hS : ps h ≤ S := by rw [← fr.1.s]; exact hS1
    rcases id rv1 with ⟨z0, rfl⟩ | ⟨z0, zT, x, rfl, zx⟩
    · exact absurd z0 t0
    · skip
      refine z_aload_n dX8_renownNow_0 rfl rfl ?_
      refine y_getR FX8_10 dX8_renownNow_1 rfl h8 hx0 ?_
      refine y_callV (as := []) CX1_ruling LX8_197 IX1_ruling VX1_ruling ⟨rfl, Nat.le_of_ble_eq_true rfl⟩ dX8_renownNow_4 hs.o rfl (Nat.le_of_ble_eq_true rfl) (Nat.le_of_ble_eq_true rfl) (by omega) (rv2 1 (Nat.le_refl _)) (rv1.rok rfl) ⟨Nat.le_refl _, Nat.le_refl _, hN, hS⟩ ?_
      refine z_iconst (v := 3) dX8_renownNow_7 (by decide) ?_
      refine y_callS (as := [_, _]) CX8_lawOf LX8_272 SX8_lawOf dX8_renownNow_8 rfl (Nat.le_of_ble_eq_true rfl) (Nat.le_of_ble_eq_true rfl) (by omega) (lw1 1 (Nat.le_refl _)) (rok_o rfl) ⟨Nat.le_refl _, Nat.le_refl _, hN, hS⟩ ?_
      refine z_astore_n dX8_renownNow_11 rfl (Nat.le_of_ble_eq_true rfl) ?_
      refine z_aload_n dX8_renownNow_12 rfl rfl ?_
      refine y_alen dX8_renownNow_13 (by exact lc.1) ⟨Nat.le_of_ble_eq_true rfl, Nat.le_of_ble_eq_true rfl⟩ rfl ?_
      refine z_if_ne dX8_renownNow_14 rfl (fun _ => ?_) (fun c => absurd c (fun q => absurd ((nI_eq (b := 0) (by omega) (by omega)).mp q) (by omega)))
      refine z_aload_n dX8_renownNow_30 rfl rfl ?_
      refine z_aload_n dX8_renownNow_31 rfl rfl ?_
      refine z_iload_n dX8_renownNow_32 rfl rfl ?_
      refine y_callV (as := [_, _]) CX8_tellProphecy LX8_292 IX8_tellProphecy VX8_tellProphecy ⟨rfl, Nat.le_of_ble_eq_true rfl⟩ dX8_renownNow_33 h8 rfl (Nat.le_of_ble_eq_true rfl) (Nat.le_of_ble_eq_true rfl) (by omega) tp rok_v (hg_ss fr.1 hN hS) ?_
      refine z_aload_n dX8_renownNow_36 rfl rfl ?_
      refine y_getR FX8_36 dX8_renownNow_37 rfl (fr.1.O h8) (by first | (rw [fr.1.R]; exact hx4) | exact (congrFun (congrFun fr.1.R _) _).trans hx4) ?_
      refine z_aload_n dX8_renownNow_40 rfl rfl ?_
      refine z_aload_n dX8_renownNow_41 rfl rfl ?_
      refine y_getI FX8_160 dX8_renownNow_42 (Or.inl rfl) (fr.1.O hw.1) ?_
      refine z_eqi (y := nI (W 3)) (show _ = nI (W 3) by rw [fr.2.2 w (by omega)]; exact hv.2.2.1) ?_
      refine y_callV (as := [_, _]) CX3_run LX8_284 IX3_run VX3_run ⟨rfl, Nat.le_of_ble_eq_true rfl⟩ dX8_renownNow_45 (fr.1.O hk.1) rfl (Nat.le_of_ble_eq_true rfl) (Nat.le_of_ble_eq_true rfl) (by omega) run rok_i ⟨Nat.le_refl _, Nat.le_refl _, hN1, hS1⟩ ?_
      refine z_iconst (v := 0) dX8_renownNow_48 (by decide) ?_
      refine z_bipush (v := 99) dX8_renownNow_49 (by decide) ?_
      refine y_callS (as := [_, _, _]) CX8_clamp LX8_288 SX8_clamp dX8_renownNow_51 rfl (Nat.le_of_ble_eq_true rfl) (Nat.le_of_ble_eq_true rfl) (by omega) (s_clampZ (d := 1) (top := 99) (b6_30 be) (by omega) (Nat.le_refl _)) rok_i ⟨Nat.le_refl _, Nat.le_refl _, hN1, hS1⟩ ?_
      refine z_iret dX8_renownNow_54 ?_
      exact hQ
  · rw [mSays_n tn]
    refine ⟨h, ?_, FR.rf⟩
    intro N S Q hN hS hQ
    have fr : FR 482 482 h h := FR.rf
    rcases id rv1 with ⟨z0, rfl⟩ | ⟨z0, zT, x, rfl, zx⟩
    · skip
      refine z_aload_n dX8_renownNow_0 rfl rfl ?_
      refine y_getR FX8_10 dX8_renownNow_1 rfl h8 hx0 ?_
      refine y_callV (as := []) CX1_ruling LX8_197 IX1_ruling VX1_ruling ⟨rfl, Nat.le_of_ble_eq_true rfl⟩ dX8_renownNow_4 hs.o rfl (Nat.le_of_ble_eq_true rfl) (Nat.le_of_ble_eq_true rfl) (by omega) (rv2 1 (Nat.le_refl _)) (rv1.rok rfl) ⟨Nat.le_refl _, Nat.le_refl _, hN, hS⟩ ?_
      refine z_iconst (v := 3) dX8_renownNow_7 (by decide) ?_
      refine y_callS (as := [_, _]) CX8_lawOf LX8_272 SX8_lawOf dX8_renownNow_8 rfl (Nat.le_of_ble_eq_true rfl) (Nat.le_of_ble_eq_true rfl) (by omega) (lw1 1 (Nat.le_refl _)) (rok_o rfl) ⟨Nat.le_refl _, Nat.le_refl _, hN, hS⟩ ?_
      refine z_astore_n dX8_renownNow_11 rfl (Nat.le_of_ble_eq_true rfl) ?_
      refine z_aload_n dX8_renownNow_12 rfl rfl ?_
      refine z_alen dX8_renownNow_13 lz.1 lz.2 ⟨Nat.le_of_ble_eq_true rfl, Nat.le_of_ble_eq_true rfl⟩ rfl ?_
      refine z_if_ne dX8_renownNow_14 rfl (fun c => absurd (rfl) c) (fun _ => ?_)
      refine z_aload_n dX8_renownNow_17 rfl rfl ?_
      refine y_getR FX8_127 dX8_renownNow_18 rfl hw.1 hw.2.2.2.1 ?_
      refine z_iload_n dX8_renownNow_21 rfl rfl ?_
      refine z_iconst (v := 2) dX8_renownNow_22 (by decide) ?_
      refine y_callV (as := [_, _]) CX4_get LX8_143 IX4_get VX4_get ⟨rfl, Nat.le_of_ble_eq_true rfl⟩ dX8_renownNow_23 hw.2.2.2.2.1.1 rfl (Nat.le_of_ble_eq_true rfl) (Nat.le_of_ble_eq_true rfl) (by omega) (s_get (w := 6) (ms := 12) (i := k) (j := 2) (by exact hw.2.2.2.2.1) hv.2.2.2.2.2.1 hk1 (by omega)) rok_i ⟨Nat.le_refl _, Nat.le_refl _, hN, hS⟩ ?_
      refine z_eqi (show _ = nI (W (pcx k 2)) from hv.k hk1 (by omega)) ?_
      refine y_callS (as := [_]) CJ6_bitCount_0f7a4 LX8_279 SJ6_bitCount_0f7a4 dX8_renownNow_26 rfl (Nat.le_of_ble_eq_true rfl) (Nat.le_of_ble_eq_true rfl) (by omega) (s_bitCount (n := W (pcx k 2)) (by omega)) rok_i ⟨Nat.le_refl _, Nat.le_refl _, hN, hS⟩ ?_
      refine z_iret dX8_renownNow_29 ?_
      exact hQ
    · skip
      refine z_aload_n dX8_renownNow_0 rfl rfl ?_
      refine y_getR FX8_10 dX8_renownNow_1 rfl h8 hx0 ?_
      refine y_callV (as := []) CX1_ruling LX8_197 IX1_ruling VX1_ruling ⟨rfl, Nat.le_of_ble_eq_true rfl⟩ dX8_renownNow_4 hs.o rfl (Nat.le_of_ble_eq_true rfl) (Nat.le_of_ble_eq_true rfl) (by omega) (rv2 1 (Nat.le_refl _)) (rv1.rok rfl) ⟨Nat.le_refl _, Nat.le_refl _, hN, hS⟩ ?_
      refine z_iconst (v := 3) dX8_renownNow_7 (by decide) ?_
      refine y_callS (as := [_, _]) CX8_lawOf LX8_272 SX8_lawOf dX8_renownNow_8 rfl (Nat.le_of_ble_eq_true rfl) (Nat.le_of_ble_eq_true rfl) (by omega) (lw1 1 (Nat.le_refl _)) (rok_o rfl) ⟨Nat.le_refl _, Nat.le_refl _, hN, hS⟩ ?_
      refine z_astore_n dX8_renownNow_11 rfl (Nat.le_of_ble_eq_true rfl) ?_
      refine z_aload_n dX8_renownNow_12 rfl rfl ?_
      refine z_alen dX8_renownNow_13 lz.1 lz.2 ⟨Nat.le_of_ble_eq_true rfl, Nat.le_of_ble_eq_true rfl⟩ rfl ?_
      refine z_if_ne dX8_renownNow_14 rfl (fun c => absurd (rfl) c) (fun _ => ?_)
      refine z_aload_n dX8_renownNow_17 rfl rfl ?_
      refine y_getR FX8_127 dX8_renownNow_18 rfl hw.1 hw.2.2.2.1 ?_
      refine z_iload_n dX8_renownNow_21 rfl rfl ?_
      refine z_iconst (v := 2) dX8_renownNow_22 (by decide) ?_
      refine y_callV (as := [_, _]) CX4_get LX8_143 IX4_get VX4_get ⟨rfl, Nat.le_of_ble_eq_true rfl⟩ dX8_renownNow_23 hw.2.2.2.2.1.1 rfl (Nat.le_of_ble_eq_true rfl) (Nat.le_of_ble_eq_true rfl) (by omega) (s_get (w := 6) (ms := 12) (i := k) (j := 2) (by exact hw.2.2.2.2.1) hv.2.2.2.2.2.1 hk1 (by omega)) rok_i ⟨Nat.le_refl _, Nat.le_refl _, hN, hS⟩ ?_
      refine z_eqi (show _ = nI (W (pcx k 2)) from hv.k hk1 (by omega)) ?_
      refine y_callS (as := [_]) CJ6_bitCount_0f7a4 LX8_279 SJ6_bitCount_0f7a4 dX8_renownNow_26 rfl (Nat.le_of_ble_eq_true rfl) (Nat.le_of_ble_eq_true rfl) (by omega) (s_bitCount (n := W (pcx k 2)) (by omega)) rok_i ⟨Nat.le_refl _, Nat.le_refl _, hN, hS⟩ ?_
      refine z_iret dX8_renownNow_29 ?_
      exact hQ

