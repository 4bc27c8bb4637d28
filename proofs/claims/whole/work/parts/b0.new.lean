/-! constructors: frames, worlds (wip/whole/genb0.py) -/
/-- cells below k stay -/
def FG (k : Nat) (h h1 : Hp) : Prop := EX h h1 ∧ ps h ≤ ps h1 ∧ ∀ a, a < k → pI h1 a = pI h a ∧ pJ h1 a = pJ h a ∧ pR h1 a = pR h a
theorem FG.rf {k : Nat} {h : Hp} : FG k h h := ⟨EX.rf, Nat.le_refl _, fun _ _ => ⟨rfl, rfl, rfl⟩⟩
theorem FG.tr {k : Nat} {a b c : Hp} (p : FG k a b) (q : FG k b c) : FG k a c := ⟨p.1.tr q.1, Nat.le_trans p.2.1 q.2.1, fun x hx => ⟨(q.2.2 x hx).1.trans (p.2.2 x hx).1, (q.2.2 x hx).2.1.trans (p.2.2 x hx).2.1, (q.2.2 x hx).2.2.trans (p.2.2 x hx).2.2⟩⟩
theorem FG.le {k k1 : Nat} {h h1 : Hp} (f : FG k h h1) (hk : k1 ≤ k) : FG k1 h h1 := ⟨f.1, f.2.1, fun a ha => f.2.2 a (by omega)⟩
theorem fg_nw {h : Hp} {c n : Nat} : FG (pn h) h (nw h c n) := ⟨EX.nw, by show ps h ≤ ps h + n; omega, fun a ha => ⟨by rw [pI_nw, if_neg (by omega)], by rw [pJ_nw, if_neg (by omega)], by rw [pR_nw, if_neg (by omega)]⟩⟩
theorem FG.I {k a j : Nat} {h h1 : Hp} {v : Int32} (f : FG k h h1) (ha : k ≤ a) : FG k h (sI h1 a j v) := ⟨f.1, f.2.1, fun x hx => ⟨by rw [pI_sI_ne (by omega)]; exact (f.2.2 x hx).1, (f.2.2 x hx).2⟩⟩
theorem FG.R {k a j : Nat} {h h1 : Hp} {v : Option Nat} (f : FG k h h1) (ha : k ≤ a) : FG k h (sR h1 a j v) := ⟨f.1, f.2.1, fun x hx => ⟨(f.2.2 x hx).1, (f.2.2 x hx).2.1, by rw [pR_sR_ne (by omega)]; exact (f.2.2 x hx).2.2⟩⟩
/-- cells below b but for k stay -/
def FN2 (k b : Nat) (h h1 : Hp) : Prop := EX h h1 ∧ ∀ a, a < b → a ≠ k → pI h1 a = pI h a ∧ pJ h1 a = pJ h a ∧ pR h1 a = pR h a
theorem FN2.rf {k b : Nat} {h : Hp} : FN2 k b h h := ⟨EX.rf, fun _ _ _ => ⟨rfl, rfl, rfl⟩⟩
theorem FN2.I {k b j : Nat} {h h1 : Hp} {v : Int32} (f : FN2 k b h h1) : FN2 k b h (sI h1 k j v) := ⟨f.1, fun a h1 h2 => ⟨by rw [pI_sI_ne h2]; exact (f.2 a h1 h2).1, (f.2 a h1 h2).2⟩⟩
theorem FN2.R {k b j : Nat} {h h1 : Hp} {v : Option Nat} (f : FN2 k b h h1) : FN2 k b h (sR h1 k j v) := ⟨f.1, fun a h1 h2 => ⟨(f.2 a h1 h2).1, (f.2 a h1 h2).2.1, by rw [pR_sR_ne h2]; exact (f.2 a h1 h2).2.2⟩⟩
theorem FN2.g {k b c : Nat} {h h1 h2 : Hp} (f : FN2 k b h h1) (q : FG c h1 h2) (hb : b ≤ c) : FN2 k b h h2 := ⟨f.1.tr q.1, fun a a1 a2 => ⟨((q.2.2 a (by omega)).1).trans (f.2 a a1 a2).1, ((q.2.2 a (by omega)).2.1).trans (f.2 a a1 a2).2.1, ((q.2.2 a (by omega)).2.2).trans (f.2 a a1 a2).2.2⟩⟩
theorem FN2.rw {k b x w ms : Nat} {h h1 : Hp} (f : FN2 k b h h1) (hr : RwS h x w ms) (hx : x + 1 < b) (hk : x ≠ k) : RwS h1 x w ms := f.1.rw hr (by rw [(f.2 x (by omega) hk).2.2])
theorem FN2.rc {k b x w ms n : Nat} {h h1 : Hp} (f : FN2 k b h h1) (hr : RwC h x w ms n) (hx : x < b) (hk : x ≠ k) : RwC h1 x w ms n := by
  unfold RwC
  rw [(f.2 x hx hk).1]
  exact hr
theorem FN2.wo {k b w : Nat} {h h1 : Hp} (f : FN2 k b h h1) (s : WoS h w) (hx : w + 6 < b) (hk : k < w ∨ w + 6 < k) : WoS h1 w := by
  obtain ⟨s1, s2, s3, s4, s5, s6, s7⟩ := s
  have e := (f.2 w (by omega) (by omega)).2.2
  exact ⟨f.1.O s1, by rw [e]; exact s2, f.rw s3 (by omega) (by omega), by rw [e]; exact s4, f.rw s5 (by omega) (by omega), by rw [e]; exact s6, f.rw s7 (by omega) (by omega)⟩
theorem FN2.wv {k b w : Nat} {W : Fl} {h h1 : Hp} (f : FN2 k b h h1) (s : WV h w W) (hx : w + 6 < b) (hk : k < w ∨ w + 6 < k) : WV h1 w W := s.fr (fun a a1 a2 => (f.2 a (by omega) (by omega)).1)
theorem nc4v : nC 4 = 4 := by decide +kernel
theorem nc5v : nC 5 = 4 := by decide +kernel
theorem new_rows {h : Hp} {ms w : Nat} (h8 : 8 ≤ pn h) (m3 : ms ≤ 30) (w6 : 0 < w ∧ w ≤ 6) : RwS (rowsH (nw h 4 (nC 4)) (pn h) ms w) (pn h) w ms ∧ RwC (rowsH (nw h 4 (nC 4)) (pn h) ms w) (pn h) w ms 0 ∧ FG (pn h) h (rowsH (nw h 4 (nC 4)) (pn h) ms w) ∧ pn (rowsH (nw h 4 (nC 4)) (pn h) ms w) = pn h + 2 ∧ ps (rowsH (nw h 4 (nC 4)) (pn h) ms w) = ps h + 4 + ms * w := by
  have o4 : IO (nw h 4 (nC 4)) 4 (pn h) := ⟨h8, Nat.lt_succ_self _, by rw [pK_nw, if_pos rfl]⟩
  have p1 : ∀ a, a ≠ pn h + 1 → pI (rowsH (nw h 4 (nC 4)) (pn h) ms w) a = pI (sI (sI (nw h 4 (nC 4)) (pn h) 0 (nI ms)) (pn h) 1 (nI w)) a := fun a ha => by
    show pI (nw (sI (sI (nw h 4 (nC 4)) (pn h) 0 (nI ms)) (pn h) 1 (nI w)) 10 (ms * w)) a = _
    rw [pI_nw]
    exact if_neg ha
  refine ⟨⟨ex_rows.O o4, ?_, ⟨by omega, Nat.lt_succ_self _, ?_⟩⟩, ⟨?_, ?_, ?_, by omega, w6.1, w6.2, m3⟩, ⟨EX.nw.tr ex_rows, by show ps h ≤ ps h + nC 4 + ms * w; exact Nat.le_trans (Nat.le_add_right _ _) (Nat.le_add_right _ _), fun a ha => ⟨?_, ?_, ?_⟩⟩, rfl, by show ps h + nC 4 + ms * w = _; rw [nc4v]⟩
  · unfold rowsH
    rw [pR_sR, if_pos rfl, if_pos rfl]
    rfl
  · show pK (nw (sI (sI (nw h 4 (nC 4)) (pn h) 0 (nI ms)) (pn h) 1 (nI w)) 10 (ms * w)) (pn h + 1) = _
    rw [pK_nw]
    exact if_pos rfl
  · rw [p1 _ (by omega), pI_sI, if_pos rfl, if_neg (by omega), pI_sI, if_pos rfl, if_pos rfl]
  · rw [p1 _ (by omega), pI_sI, if_pos rfl, if_pos rfl]
  · rw [p1 _ (by omega), pI_sI, if_pos rfl, if_neg (by omega), pI_sI, if_pos rfl, if_neg (by omega), pI_nw, if_pos rfl]
    rfl
  · rw [p1 _ (by omega), pI_sI_ne (by omega), pI_sI_ne (by omega), pI_nw, if_neg (by omega)]
  · show pJ (nw (sI (sI (nw h 4 (nC 4)) (pn h) 0 (nI ms)) (pn h) 1 (nI w)) 10 (ms * w)) a = _
    rw [pJ_nw, if_neg (by show ¬ a = pn h + 1; omega)]
    show pJ (nw h 4 (nC 4)) a = _
    rw [pJ_nw, if_neg (by omega)]
  · unfold rowsH
    rw [pR_sR_ne (by omega), pR_nw, if_neg (by show ¬ a = pn h + 1; omega)]
    show pR (nw h 4 (nC 4)) a = _
    rw [pR_nw, if_neg (by omega)]
def W0 : Fl := fun i => if i = 2 then 191 else 0

theorem c_worldI {h : Hp} {k d : Nat} (ho : IO h 7 k) (hk : pn h = k + 1) (z : pI h k = fun _ => 0) (hd : 2 ≤ d) : ∃ h1, Sp d mX7_init [.ref k] h none h1 ∧ WoS h1 k ∧ WV h1 k W0 ∧ FG k h h1 ∧ pn h1 = k + 7 ∧ ps h1 = ps h + (159) := by
  have h8 := ho.1
  obtain ⟨h1, e1⟩ : ∃ hh, hh = sI h k 1 191 := ⟨_, rfl⟩
  have p1 : pn h1 = k + 1 := by rw [e1]; exact hk
  have b1 : ps h1 = ps h := by rw [e1]; rfl
  have o1 : IO h1 7 k := by rw [e1]; exact ho
  obtain ⟨g2, c2⟩ : ∃ g, g = rowsH (nw h1 4 (nC 4)) (pn h1) 5 3 := ⟨_, rfl⟩
  obtain ⟨r2, rc2, f2, q2, s2⟩ := new_rows (h := h1) (ms := 5) (w := 3) (by omega) (by omega) (by omega)
  rw [← c2] at r2 rc2 f2 q2 s2
  obtain ⟨h2, e2⟩ : ∃ hh, hh = sR g2 k 3 (some (pn h1)) := ⟨_, rfl⟩
  have p2 : pn h2 = k + 3 := by rw [e2]; show pn g2 = _; omega
  have b2 : ps h2 = ps h + (19) := by rw [e2]; show ps g2 = _; omega
  have og2 : IO g2 7 k := f2.1.O o1
  have o2 : IO h2 7 k := by rw [e2]; exact og2
  obtain ⟨g3, c3⟩ : ∃ g, g = rowsH (nw h2 4 (nC 4)) (pn h2) 12 6 := ⟨_, rfl⟩
  obtain ⟨r3, rc3, f3, q3, s3⟩ := new_rows (h := h2) (ms := 12) (w := 6) (by omega) (by omega) (by omega)
  rw [← c3] at r3 rc3 f3 q3 s3
  obtain ⟨h3, e3⟩ : ∃ hh, hh = sR g3 k 4 (some (pn h2)) := ⟨_, rfl⟩
  have p3 : pn h3 = k + 5 := by rw [e3]; show pn g3 = _; omega
  have b3 : ps h3 = ps h + (95) := by rw [e3]; show ps g3 = _; omega
  have og3 : IO g3 7 k := f3.1.O o2
  have o3 : IO h3 7 k := by rw [e3]; exact og3
  obtain ⟨g4, c4⟩ : ∃ g, g = rowsH (nw h3 4 (nC 4)) (pn h3) 30 2 := ⟨_, rfl⟩
  obtain ⟨r4, rc4, f4, q4, s4⟩ := new_rows (h := h3) (ms := 30) (w := 2) (by omega) (by omega) (by omega)
  rw [← c4] at r4 rc4 f4 q4 s4
  obtain ⟨h4, e4⟩ : ∃ hh, hh = sR g4 k 5 (some (pn h3)) := ⟨_, rfl⟩
  have p4 : pn h4 = k + 7 := by rw [e4]; show pn g4 = _; omega
  have b4 : ps h4 = ps h + (159) := by rw [e4]; show ps g4 = _; omega
  have og4 : IO g4 7 k := f4.1.O o3
  have o4 : IO h4 7 k := by rw [e4]; exact og4
  have i4 : pI h4 k = pI h1 k := by
    rw [e4]
    show pI g4 k = _
    rw [(f4.2.2 k (by omega)).1, e3]
    show pI g3 k = _
    rw [(f3.2.2 k (by omega)).1, e2]
    show pI g2 k = _
    rw [(f2.2.2 k (by omega)).1]
  have n24 : FN2 k (pn g2) g2 h4 := by
    rw [e4]
    refine FN2.R (FN2.g ?_ f4 (by omega))
    rw [e3]
    refine FN2.R (FN2.g ?_ f3 (by rw [e2]; exact Nat.le_refl _))
    rw [e2]
    exact FN2.R FN2.rf
  have n34 : FN2 k (pn g3) g3 h4 := by
    rw [e4]
    refine FN2.R (FN2.g ?_ f4 (by rw [e3]; exact Nat.le_refl _))
    rw [e3]
    exact FN2.R FN2.rf
  have n44 : FN2 k (pn g4) g4 h4 := by
    rw [e4]
    exact FN2.R FN2.rf
  have x2 : pn h1 = k + 1 := p1
  have x3 : pn h2 = k + 3 := p2
  have x4 : pn h3 = k + 5 := p3
  rw [x2] at r2 rc2
  rw [x3] at r3 rc3
  rw [x4] at r4 rc4
  refine ⟨h4, ?_, ⟨o4, ?_, n24.rw r2 (by omega) (by omega), ?_, n34.rw r3 (by omega) (by omega), ?_, n44.rw r4 (by omega) (by omega)⟩, ⟨?_, ?_, ?_, n24.rc rc2 (by omega) (by omega), fun i hi => absurd hi (by show ¬ i < 0 * 3; omega), n34.rc rc3 (by omega) (by omega), fun i hi => absurd hi (by show ¬ i < 0 * 6; omega), n44.rc rc4 (by omega) (by omega), fun i hi => absurd hi (by show ¬ i < 0; omega)⟩, ?_, by omega, b4⟩
  · intro N S Q hN hS hQ
    refine z_aload_n dX7_init_0 rfl rfl ?_
    refine z_objInit Kobj_X7_3 Kobj_instanceMethod Kobj_code dX7_init_1 (by omega) (Nat.le_of_ble_eq_true rfl) ?_
    refine z_aload_n dX7_init_4 rfl rfl ?_
    refine z_sipush (v := 191) dX7_init_5 (by decide) ?_
    refine y_putI FX7_9 dX7_init_8 (by first | exact Or.inl rfl | exact Or.inr ⟨rfl, rfl⟩) (Or.inl rfl) ho ?_
    rw [← e1]
    refine z_aload_n dX7_init_11 rfl rfl ?_
    refine z_new NX7_15 dX7_init_12 (by omega) (by rw [nc4v]; omega) ?_
    refine z_dup dX7_init_15 rfl ?_
    refine z_iconst (v := 5) dX7_init_16 (by decide) ?_
    refine z_iconst (v := 3) dX7_init_17 (by decide) ?_
    refine y_callI (as := [_, _]) CX4_init LX7_17 IX4_init rfl rfl dX7_init_18 rfl (Nat.le_of_ble_eq_true rfl) (Nat.le_of_ble_eq_true rfl) (by omega) (s_rowsI (d := 1) (ms := 5) (w := 3) ⟨by omega, Nat.lt_succ_self _, by rw [pK_nw, if_pos rfl]⟩ (by omega) (by omega) (Nat.le_refl _)) ⟨Nat.le_succ _, Nat.le_add_right _ _, by show pn h1 + 2 ≤ N; omega, by show ps h1 + nC 4 + 5 * 3 ≤ S; rw [nc4v]; omega⟩ ?_
    rw [← c2]
    refine y_putR FX7_20 dX7_init_21 (by first | exact Or.inl rfl | exact Or.inr ⟨rfl, rfl⟩) rfl og2 ?_
    rw [← e2]
    refine z_aload_n dX7_init_24 rfl rfl ?_
    refine z_new NX7_15 dX7_init_25 (by omega) (by rw [nc4v]; omega) ?_
    refine z_dup dX7_init_28 rfl ?_
    refine z_bipush (v := 12) dX7_init_29 (by decide) ?_
    refine z_bipush (v := 6) dX7_init_31 (by decide) ?_
    refine y_callI (as := [_, _]) CX4_init LX7_17 IX4_init rfl rfl dX7_init_33 rfl (Nat.le_of_ble_eq_true rfl) (Nat.le_of_ble_eq_true rfl) (by omega) (s_rowsI (d := 1) (ms := 12) (w := 6) ⟨by omega, Nat.lt_succ_self _, by rw [pK_nw, if_pos rfl]⟩ (by omega) (by omega) (Nat.le_refl _)) ⟨Nat.le_succ _, Nat.le_add_right _ _, by show pn h2 + 2 ≤ N; omega, by show ps h2 + nC 4 + 12 * 6 ≤ S; rw [nc4v]; omega⟩ ?_
    rw [← c3]
    refine y_putR FX7_24 dX7_init_36 (by first | exact Or.inl rfl | exact Or.inr ⟨rfl, rfl⟩) rfl og3 ?_
    rw [← e3]
    refine z_aload_n dX7_init_39 rfl rfl ?_
    refine z_new NX7_15 dX7_init_40 (by omega) (by rw [nc4v]; omega) ?_
    refine z_dup dX7_init_43 rfl ?_
    refine z_bipush (v := 30) dX7_init_44 (by decide) ?_
    refine z_iconst (v := 2) dX7_init_46 (by decide) ?_
    refine y_callI (as := [_, _]) CX4_init LX7_17 IX4_init rfl rfl dX7_init_47 rfl (Nat.le_of_ble_eq_true rfl) (Nat.le_of_ble_eq_true rfl) (by omega) (s_rowsI (d := 1) (ms := 30) (w := 2) ⟨by omega, Nat.lt_succ_self _, by rw [pK_nw, if_pos rfl]⟩ (by omega) (by omega) (Nat.le_refl _)) ⟨Nat.le_succ _, Nat.le_add_right _ _, by show pn h3 + 2 ≤ N; omega, by show ps h3 + nC 4 + 30 * 2 ≤ S; rw [nc4v]; omega⟩ ?_
    rw [← c4]
    refine y_putR FX7_27 dX7_init_50 (by first | exact Or.inl rfl | exact Or.inr ⟨rfl, rfl⟩) rfl og4 ?_
    rw [← e4]
    refine z_vret dX7_init_53 ?_
    exact hQ
  · rw [e4, pR_sR_s, if_neg (by omega), (f4.2.2 k (by omega)).2.2, e3, pR_sR_s, if_neg (by omega), (f3.2.2 k (by omega)).2.2, e2, pR_sR_s, if_pos rfl, x2]
  · rw [e4, pR_sR_s, if_neg (by omega), (f4.2.2 k (by omega)).2.2, e3, pR_sR_s, if_pos rfl, x3]
  · rw [e4, pR_sR_s, if_pos rfl, x4]
  · rw [i4, e1, pI_sI, if_pos rfl, if_neg (by omega), z]; rfl
  · rw [i4, e1, pI_sI, if_pos rfl, if_pos rfl]; rfl
  · rw [i4, e1, pI_sI, if_pos rfl, if_neg (by omega), z]; rfl
  · rw [e4]
    refine FG.R (FG.tr ?_ (f4.le (by omega))) (Nat.le_refl _)
    rw [e3]
    refine FG.R (FG.tr ?_ (f3.le (by omega))) (Nat.le_refl _)
    rw [e2]
    refine FG.R (FG.tr ?_ (f2.le (by omega))) (Nat.le_refl _)
    rw [e1]
    exact FG.I FG.rf (Nat.le_refl _)

