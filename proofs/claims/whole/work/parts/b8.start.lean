/-! the law's beginning (wip/whole/genb8.py) -/
theorem nc8v : nC 8 = 10 := by decide +kernel
theorem nc9v : nC 9 = 31 := by decide +kernel
theorem ST8.g {k : Nat} {h h1 : Hp} (s : ST8 h k) (f : FG (k + 480) h h1) : ST8 h1 k := by
  have n : FN2 (k + 480) (k + 480) h h1 := ⟨f.1, fun a a1 _ => f.2.2 a a1⟩
  obtain ⟨s1, ⟨r0, r1, r2, r3, r4, r5, r6⟩, ⟨m1, m2⟩, ⟨m3, m4⟩, ⟨w1, w2⟩, v4, v5, v6, ⟨t1, t2⟩, ⟨i1, i2, i3⟩⟩ := s
  have ek := f.2.2 k (by omega)
  exact ⟨n.1.O s1, ⟨by rw [ek.2.2]; exact r0, by rw [ek.2.2]; exact r1, by rw [ek.2.2]; exact r2, by rw [ek.2.2]; exact r3, by rw [ek.2.2]; exact r4, by rw [ek.2.2]; exact r5, by rw [ek.2.2]; exact r6⟩, ⟨n.mk m1 (by omega) (by omega), n.mv m2 (by omega) (by omega)⟩, ⟨n.mk m3 (by omega) (by omega), n.mv m4 (by omega) (by omega)⟩, ⟨n.wo w1 (by omega) (by omega), n.wv w2 (by omega) (by omega)⟩, ⟨n.1.O v4.1, by rw [(n.2 (k + 464) (by omega) (by omega)).2.2]; exact v4.2.1, n.1.O v4.2.2.1, ⟨by rw [(n.2 (k + 465) (by omega) (by omega)).2.2]; exact v4.2.2.2.1.1, n.1.A v4.2.2.2.1.2⟩, ⟨by rw [(n.2 (k + 465) (by omega) (by omega)).2.2]; exact v4.2.2.2.2.1.1, n.1.A v4.2.2.2.2.1.2⟩, ⟨by rw [(n.2 (k + 465) (by omega) (by omega)).2.2]; exact v4.2.2.2.2.2.1.1, n.1.A v4.2.2.2.2.2.1.2⟩, ⟨by rw [(n.2 (k + 464) (by omega) (by omega)).2.2]; exact v4.2.2.2.2.2.2.1, n.1.A v4.2.2.2.2.2.2.2⟩⟩, ⟨n.1.O v5.1, by rw [(n.2 (k + 473) (by omega) (by omega)).2.2]; exact v5.2.1, n.1.A v5.2.2.1, by rw [(n.2 (k + 473) (by omega) (by omega)).2.2]; exact v5.2.2.2.1, n.1.A v5.2.2.2.2⟩, ⟨n.1.O v6.1, by rw [(n.2 (k + 476) (by omega) (by omega)).2.2]; exact v6.2.1, n.1.A v6.2.2.1, by rw [(n.2 (k + 476) (by omega) (by omega)).2.2]; exact v6.2.2.2.1, n.1.A v6.2.2.2.2⟩, ⟨n.ia t1, by rw [(n.2 (k + 479) (by omega) (by omega)).1]; exact t2⟩, ⟨by rw [ek.1]; exact i1, by rw [ek.1]; exact i2, by rw [ek.1]; exact i3⟩⟩
set_option maxHeartbeats 1000000 in
theorem law_start {N S L : Nat} {xs : Nat → Int32} {I : Nat → Hp → Prop} {h : Hp} (hp : pn h = 8) (hN : 501 ≤ N) (hS : ps h + 33969 ≤ S) (hL : L ≤ 3072) (hI : ∀ c h, I c h → IO h 8 8 ∧ SCR h L xs) (hx : ∀ c h, I c h → I (c + 1) h) (hs : ∀ c h, c < 512 → 6 * c + 5 < L → I c h → ALLp L xs I N S c (6 * c) h) (h0 : ∀ h1, ST8 h1 8 → ST9 h1 488 → FG 8 h h1 → pn h1 = 501 → ps h1 = ps h + 33969 → I 0 h1) : T 140 N S mL_law 0 (lap mL_law [.ref 1]) [] h (fun r _ => r = some (.int 1)) := by
  obtain ⟨g, eg⟩ : ∃ g, g = nw h 8 (nC 8) := ⟨_, rfl⟩
  have fa : FG 8 h g := by rw [eg, ← hp]; exact fg_nw
  have pa : pn g = 8 + 1 := by rw [eg, pn_nw, hp]
  have ba : ps g = ps h + 10 := by rw [eg]; show ps h + nC 8 = _; rw [nc8v]
  have oa : IO g 8 8 := by rw [eg]; exact ⟨by decide, by rw [pn_nw]; omega, by rw [pK_nw, if_pos (by omega)]⟩
  obtain ⟨h1, s1, st8, f1, p1, b1⟩ := c_mainI (d := 139) oa pa (by decide)
  have p1 : pn h1 = 488 := p1
  obtain ⟨g2, eg2⟩ : ∃ g, g = nw h1 9 (nC 9) := ⟨_, rfl⟩
  have fb : FG 488 h1 g2 := by rw [eg2, ← p1]; exact fg_nw
  have pb : pn g2 = 488 + 1 := by rw [eg2, pn_nw, p1]
  have bb : ps g2 = ps h1 + 31 := by rw [eg2]; show ps h1 + nC 9 = _; rw [nc9v]
  have ob : IO g2 9 488 := by rw [eg2]; exact ⟨by decide, by rw [pn_nw]; omega, by rw [pK_nw, if_pos (by omega)]⟩
  have zb : pI g2 488 = fun _ => 0 := by rw [eg2, pI_nw, if_pos (by omega)]
  obtain ⟨h2, s2, st9, f2, p2, b2⟩ := c_modelI (d := 139) ob pb zb (by decide)
  have p2 : pn h2 = 501 := p2
  have k0 : I 0 h2 := h0 h2 (st8.g (fb.tr f2)) st9 (fa.tr (f1.tr ((fb.tr f2).le (by decide)))) p2 (by omega)
  refine z_new NL_7 dL_law_0 (by omega) (by rw [nc8v]; omega) ?_
  rw [← eg]
  refine z_dup dL_law_3 rfl ?_
  rw [hp]
  refine y_callI (as := []) CX8_init LL_9 IX8_init rfl rfl dL_law_4 rfl (Nat.le_of_ble_eq_true rfl) (Nat.le_of_ble_eq_true rfl) (Nat.le_refl _) s1 ⟨f1.1.1, f1.2.1, by omega, by omega⟩ ?_
  refine z_astore_n dL_law_7 rfl (Nat.le_of_ble_eq_true rfl) ?_
  refine z_new NL_10 dL_law_8 (by omega) (by rw [nc9v]; omega) ?_
  rw [← eg2]
  refine z_dup dL_law_11 rfl ?_
  rw [p1]
  refine y_callI (as := []) CX9_init LL_12 IX9_init rfl rfl dL_law_12 rfl (Nat.le_of_ble_eq_true rfl) (Nat.le_of_ble_eq_true rfl) (Nat.le_refl _) s2 ⟨f2.1.1, f2.2.1, by omega, by omega⟩ ?_
  refine z_astore_n dL_law_15 rfl (Nat.le_of_ble_eq_true rfl) ?_
  refine z_iconst (v := 0) dL_law_16 (by decide) ?_
  refine z_istore_n dL_law_17 rfl (Nat.le_of_ble_eq_true rfl) ?_
  exact law_loop hL hI hx hs 512 0 h2 rfl (Nat.zero_le _) k0

