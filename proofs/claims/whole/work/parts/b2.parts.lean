/-! constructors: the reader, the reckoner, the contest (wip/whole/genb2.py) -/
theorem nc6v : nC 6 = 4 := by decide +kernel
theorem FN2.ia {k b x t n : Nat} {h h1 : Hp} (f : FN2 k b h h1) (a : IA h t n x) : IA h1 t n x := f.1.A a

theorem c_tokI {h : Hp} {k d : Nat} (ho : IO h 6 k) (hk : pn h = k + 1) (hd : 1 ≤ d) : ∃ h1, Sp d mX6_init [.ref k] h none h1 ∧ (IO h1 6 k ∧ pR h1 k 0 = some (k + 1) ∧ pR h1 k 1 = some (k + 2) ∧ pR h1 k 2 = some (k + 3) ∧ IA h1 10 301 (k + 1) ∧ IA h1 10 301 (k + 2) ∧ IA h1 10 301 (k + 3)) ∧ FG k h h1 ∧ pn h1 = k + 4 ∧ ps h1 = ps h + 903 := by
  have k8 := ho.1
  obtain ⟨g1, c1⟩ : ∃ g, g = nw h 10 301 := ⟨_, rfl⟩
  have f1 : FG (pn h) h g1 := by rw [c1]; exact fg_nw
  have q1 : pn g1 = pn h + 1 := by rw [c1]; rfl
  have s1 : ps g1 = ps h + 301 := by rw [c1]; rfl
  have a1 : IA g1 10 301 (k + 1) := by rw [c1]; exact ⟨by omega, by rw [pn_nw]; omega, by rw [pK_nw, if_pos (by omega)]⟩
  have z1 : pI g1 (k + 1) = fun _ => 0 := by rw [c1, pI_nw, if_pos (by omega)]
  obtain ⟨h1, e1⟩ : ∃ hh, hh = sR g1 k 0 (some (pn h)) := ⟨_, rfl⟩
  have p1 : pn h1 = k + 2 := by rw [e1]; show pn g1 = _; omega
  have b1 : ps h1 = ps h + 301 := by rw [e1]; show ps g1 = _; omega
  have og1 : IO g1 6 k := f1.1.O ho
  have o1 : IO h1 6 k := by rw [e1]; exact og1
  obtain ⟨g2, c2⟩ : ∃ g, g = nw h1 10 301 := ⟨_, rfl⟩
  have f2 : FG (pn h1) h1 g2 := by rw [c2]; exact fg_nw
  have q2 : pn g2 = pn h1 + 1 := by rw [c2]; rfl
  have s2 : ps g2 = ps h1 + 301 := by rw [c2]; rfl
  have a2 : IA g2 10 301 (k + 2) := by rw [c2]; exact ⟨by omega, by rw [pn_nw]; omega, by rw [pK_nw, if_pos (by omega)]⟩
  have z2 : pI g2 (k + 2) = fun _ => 0 := by rw [c2, pI_nw, if_pos (by omega)]
  obtain ⟨h2, e2⟩ : ∃ hh, hh = sR g2 k 1 (some (pn h1)) := ⟨_, rfl⟩
  have p2 : pn h2 = k + 3 := by rw [e2]; show pn g2 = _; omega
  have b2 : ps h2 = ps h + 602 := by rw [e2]; show ps g2 = _; omega
  have og2 : IO g2 6 k := f2.1.O o1
  have o2 : IO h2 6 k := by rw [e2]; exact og2
  obtain ⟨g3, c3⟩ : ∃ g, g = nw h2 10 301 := ⟨_, rfl⟩
  have f3 : FG (pn h2) h2 g3 := by rw [c3]; exact fg_nw
  have q3 : pn g3 = pn h2 + 1 := by rw [c3]; rfl
  have s3 : ps g3 = ps h2 + 301 := by rw [c3]; rfl
  have a3 : IA g3 10 301 (k + 3) := by rw [c3]; exact ⟨by omega, by rw [pn_nw]; omega, by rw [pK_nw, if_pos (by omega)]⟩
  have z3 : pI g3 (k + 3) = fun _ => 0 := by rw [c3, pI_nw, if_pos (by omega)]
  obtain ⟨h3, e3⟩ : ∃ hh, hh = sR g3 k 2 (some (pn h2)) := ⟨_, rfl⟩
  have p3 : pn h3 = k + 4 := by rw [e3]; show pn g3 = _; omega
  have b3 : ps h3 = ps h + 903 := by rw [e3]; show ps g3 = _; omega
  have og3 : IO g3 6 k := f3.1.O o2
  have o3 : IO h3 6 k := by rw [e3]; exact og3
  have n1 : FN2 k (pn g1) g1 h3 := by
    rw [e3]
    refine FN2.R (FN2.g ?_ f3 (by omega))
    rw [e2]
    refine FN2.R (FN2.g ?_ f2 (by omega))
    rw [e1]
    exact FN2.R FN2.rf
  have n2 : FN2 k (pn g2) g2 h3 := by
    rw [e3]
    refine FN2.R (FN2.g ?_ f3 (by omega))
    rw [e2]
    exact FN2.R FN2.rf
  have n3 : FN2 k (pn g3) g3 h3 := by
    rw [e3]
    exact FN2.R FN2.rf
  have FGa : FG k h h3 := by
    rw [e3]
    refine FG.R (FG.tr ?_ (f3.le (by omega))) (Nat.le_refl _)
    rw [e2]
    refine FG.R (FG.tr ?_ (f2.le (by omega))) (Nat.le_refl _)
    rw [e1]
    refine FG.R (FG.tr ?_ (f1.le (by omega))) (Nat.le_refl _)
    exact FG.rf
  have R0 : pR h3 k 0 = some (k + 1) := by
    rw [e3]
    rw [pR_sR_s, if_neg (by omega), (f3.2.2 k (by omega)).2.2]
    rw [e2]
    rw [pR_sR_s, if_neg (by omega), (f2.2.2 k (by omega)).2.2]
    rw [e1, pR_sR_s, if_pos rfl, show pn h = k + 1 by omega]
  have R1 : pR h3 k 1 = some (k + 2) := by
    rw [e3]
    rw [pR_sR_s, if_neg (by omega), (f3.2.2 k (by omega)).2.2]
    rw [e2, pR_sR_s, if_pos rfl, show pn h1 = k + 2 by omega]
  have R2 : pR h3 k 2 = some (k + 3) := by
    rw [e3, pR_sR_s, if_pos rfl, show pn h2 = k + 3 by omega]
  have I0k : ∀ j, pI h3 k j = pI h k j := fun j => by
    rw [e3]
    show pI g3 k j = _
    rw [(f3.2.2 k (by omega)).1]
    rw [e2]
    show pI g2 k j = _
    rw [(f2.2.2 k (by omega)).1]
    rw [e1]
    show pI g1 k j = _
    rw [(f1.2.2 k (by omega)).1]
  refine ⟨h3, ?_, ⟨o3, R0, R1, R2, n1.ia a1, n2.ia a2, n3.ia a3⟩, FGa, p3, b3⟩
  intro N S Q hN hS hQ
  refine z_aload_n dX6_init_0 rfl rfl ?_
  refine z_objInit Kobj_X6_3 Kobj_instanceMethod Kobj_code dX6_init_1 (by omega) (Nat.le_of_ble_eq_true rfl) ?_
  refine z_aload_n dX6_init_4 rfl rfl ?_
  refine z_sipush (v := 301) dX6_init_5 (by decide) ?_
  refine z_newI (m0 := 301) dX6_init_8 Karr_int (by decide) rfl (by omega) (by omega) (by omega) ?_
  rw [← c1]
  refine y_putR FX6_9 dX6_init_10 (by first | exact Or.inl rfl | exact Or.inr ⟨rfl, rfl⟩) rfl og1 ?_
  rw [← e1]
  refine z_aload_n dX6_init_13 rfl rfl ?_
  refine z_sipush (v := 301) dX6_init_14 (by decide) ?_
  refine z_newI (m0 := 301) dX6_init_17 Karr_int (by decide) rfl (by omega) (by omega) (by omega) ?_
  rw [← c2]
  refine y_putR FX6_15 dX6_init_19 (by first | exact Or.inl rfl | exact Or.inr ⟨rfl, rfl⟩) rfl og2 ?_
  rw [← e2]
  refine z_aload_n dX6_init_22 rfl rfl ?_
  refine z_sipush (v := 301) dX6_init_23 (by decide) ?_
  refine z_newI (m0 := 301) dX6_init_26 Karr_int (by decide) rfl (by omega) (by omega) (by omega) ?_
  rw [← c3]
  refine y_putR FX6_18 dX6_init_28 (by first | exact Or.inl rfl | exact Or.inr ⟨rfl, rfl⟩) rfl og3 ?_
  rw [← e3]
  refine z_vret dX6_init_31 ?_
  exact hQ

theorem c_reckI {h : Hp} {k d : Nat} (ho : IO h 3 k) (hk : pn h = k + 1) (hd : 1 ≤ d) : ∃ h1, Sp d mX3_init [.ref k] h none h1 ∧ (IO h1 3 k ∧ pR h1 k 0 = some (k + 1) ∧ pR h1 k 1 = some (k + 2) ∧ IA h1 10 36 (k + 1) ∧ IA h1 10 303 (k + 2)) ∧ FG k h h1 ∧ pn h1 = k + 3 ∧ ps h1 = ps h + 339 := by
  have k8 := ho.1
  obtain ⟨g1, c1⟩ : ∃ g, g = nw h 10 36 := ⟨_, rfl⟩
  have f1 : FG (pn h) h g1 := by rw [c1]; exact fg_nw
  have q1 : pn g1 = pn h + 1 := by rw [c1]; rfl
  have s1 : ps g1 = ps h + 36 := by rw [c1]; rfl
  have a1 : IA g1 10 36 (k + 1) := by rw [c1]; exact ⟨by omega, by rw [pn_nw]; omega, by rw [pK_nw, if_pos (by omega)]⟩
  have z1 : pI g1 (k + 1) = fun _ => 0 := by rw [c1, pI_nw, if_pos (by omega)]
  obtain ⟨h1, e1⟩ : ∃ hh, hh = sR g1 k 0 (some (pn h)) := ⟨_, rfl⟩
  have p1 : pn h1 = k + 2 := by rw [e1]; show pn g1 = _; omega
  have b1 : ps h1 = ps h + 36 := by rw [e1]; show ps g1 = _; omega
  have og1 : IO g1 3 k := f1.1.O ho
  have o1 : IO h1 3 k := by rw [e1]; exact og1
  obtain ⟨g2, c2⟩ : ∃ g, g = nw h1 10 303 := ⟨_, rfl⟩
  have f2 : FG (pn h1) h1 g2 := by rw [c2]; exact fg_nw
  have q2 : pn g2 = pn h1 + 1 := by rw [c2]; rfl
  have s2 : ps g2 = ps h1 + 303 := by rw [c2]; rfl
  have a2 : IA g2 10 303 (k + 2) := by rw [c2]; exact ⟨by omega, by rw [pn_nw]; omega, by rw [pK_nw, if_pos (by omega)]⟩
  have z2 : pI g2 (k + 2) = fun _ => 0 := by rw [c2, pI_nw, if_pos (by omega)]
  obtain ⟨h2, e2⟩ : ∃ hh, hh = sR g2 k 1 (some (pn h1)) := ⟨_, rfl⟩
  have p2 : pn h2 = k + 3 := by rw [e2]; show pn g2 = _; omega
  have b2 : ps h2 = ps h + 339 := by rw [e2]; show ps g2 = _; omega
  have og2 : IO g2 3 k := f2.1.O o1
  have o2 : IO h2 3 k := by rw [e2]; exact og2
  have n1 : FN2 k (pn g1) g1 h2 := by
    rw [e2]
    refine FN2.R (FN2.g ?_ f2 (by omega))
    rw [e1]
    exact FN2.R FN2.rf
  have n2 : FN2 k (pn g2) g2 h2 := by
    rw [e2]
    exact FN2.R FN2.rf
  have FGa : FG k h h2 := by
    rw [e2]
    refine FG.R (FG.tr ?_ (f2.le (by omega))) (Nat.le_refl _)
    rw [e1]
    refine FG.R (FG.tr ?_ (f1.le (by omega))) (Nat.le_refl _)
    exact FG.rf
  have R0 : pR h2 k 0 = some (k + 1) := by
    rw [e2]
    rw [pR_sR_s, if_neg (by omega), (f2.2.2 k (by omega)).2.2]
    rw [e1, pR_sR_s, if_pos rfl, show pn h = k + 1 by omega]
  have R1 : pR h2 k 1 = some (k + 2) := by
    rw [e2, pR_sR_s, if_pos rfl, show pn h1 = k + 2 by omega]
  have I0k : ∀ j, pI h2 k j = pI h k j := fun j => by
    rw [e2]
    show pI g2 k j = _
    rw [(f2.2.2 k (by omega)).1]
    rw [e1]
    show pI g1 k j = _
    rw [(f1.2.2 k (by omega)).1]
  refine ⟨h2, ?_, ⟨o2, R0, R1, n1.ia a1, n2.ia a2⟩, FGa, p2, b2⟩
  intro N S Q hN hS hQ
  refine z_aload_n dX3_init_0 rfl rfl ?_
  refine z_objInit Kobj_X3_3 Kobj_instanceMethod Kobj_code dX3_init_1 (by omega) (Nat.le_of_ble_eq_true rfl) ?_
  refine z_aload_n dX3_init_4 rfl rfl ?_
  refine z_bipush (v := 36) dX3_init_5 (by decide) ?_
  refine z_newI (m0 := 36) dX3_init_7 Karr_int (by decide) rfl (by omega) (by omega) (by omega) ?_
  rw [← c1]
  refine y_putR FX3_9 dX3_init_9 (by first | exact Or.inl rfl | exact Or.inr ⟨rfl, rfl⟩) rfl og1 ?_
  rw [← e1]
  refine z_aload_n dX3_init_12 rfl rfl ?_
  refine z_sipush (v := 303) dX3_init_13 (by decide) ?_
  refine z_newI (m0 := 303) dX3_init_16 Karr_int (by decide) rfl (by omega) (by omega) (by omega) ?_
  rw [← c2]
  refine y_putR FX3_15 dX3_init_18 (by first | exact Or.inl rfl | exact Or.inr ⟨rfl, rfl⟩) rfl og2 ?_
  rw [← e2]
  refine z_vret dX3_init_21 ?_
  exact hQ

theorem c_contI {h : Hp} {k d : Nat} (ho : IO h 0 k) (hk : pn h = k + 1) (hd : 1 ≤ d) : ∃ h1, Sp d mX0_init [.ref k] h none h1 ∧ (IO h1 0 k ∧ pR h1 k 0 = some (k + 1) ∧ pR h1 k 4 = some (k + 2) ∧ IA h1 10 8 (k + 1) ∧ IA h1 10 411 (k + 2)) ∧ FG k h h1 ∧ pn h1 = k + 3 ∧ ps h1 = ps h + 419 := by
  have k8 := ho.1
  obtain ⟨g1, c1⟩ : ∃ g, g = nw h 10 8 := ⟨_, rfl⟩
  have f1 : FG (pn h) h g1 := by rw [c1]; exact fg_nw
  have q1 : pn g1 = pn h + 1 := by rw [c1]; rfl
  have s1 : ps g1 = ps h + 8 := by rw [c1]; rfl
  have a1 : IA g1 10 8 (k + 1) := by rw [c1]; exact ⟨by omega, by rw [pn_nw]; omega, by rw [pK_nw, if_pos (by omega)]⟩
  have z1 : pI g1 (k + 1) = fun _ => 0 := by rw [c1, pI_nw, if_pos (by omega)]
  obtain ⟨h1, e1⟩ : ∃ hh, hh = sR g1 k 0 (some (pn h)) := ⟨_, rfl⟩
  have p1 : pn h1 = k + 2 := by rw [e1]; show pn g1 = _; omega
  have b1 : ps h1 = ps h + 8 := by rw [e1]; show ps g1 = _; omega
  have og1 : IO g1 0 k := f1.1.O ho
  have o1 : IO h1 0 k := by rw [e1]; exact og1
  obtain ⟨g2, c2⟩ : ∃ g, g = nw h1 10 411 := ⟨_, rfl⟩
  have f2 : FG (pn h1) h1 g2 := by rw [c2]; exact fg_nw
  have q2 : pn g2 = pn h1 + 1 := by rw [c2]; rfl
  have s2 : ps g2 = ps h1 + 411 := by rw [c2]; rfl
  have a2 : IA g2 10 411 (k + 2) := by rw [c2]; exact ⟨by omega, by rw [pn_nw]; omega, by rw [pK_nw, if_pos (by omega)]⟩
  have z2 : pI g2 (k + 2) = fun _ => 0 := by rw [c2, pI_nw, if_pos (by omega)]
  obtain ⟨h2, e2⟩ : ∃ hh, hh = sR g2 k 4 (some (pn h1)) := ⟨_, rfl⟩
  have p2 : pn h2 = k + 3 := by rw [e2]; show pn g2 = _; omega
  have b2 : ps h2 = ps h + 419 := by rw [e2]; show ps g2 = _; omega
  have og2 : IO g2 0 k := f2.1.O o1
  have o2 : IO h2 0 k := by rw [e2]; exact og2
  have n1 : FN2 k (pn g1) g1 h2 := by
    rw [e2]
    refine FN2.R (FN2.g ?_ f2 (by omega))
    rw [e1]
    exact FN2.R FN2.rf
  have n2 : FN2 k (pn g2) g2 h2 := by
    rw [e2]
    exact FN2.R FN2.rf
  have FGa : FG k h h2 := by
    rw [e2]
    refine FG.R (FG.tr ?_ (f2.le (by omega))) (Nat.le_refl _)
    rw [e1]
    refine FG.R (FG.tr ?_ (f1.le (by omega))) (Nat.le_refl _)
    exact FG.rf
  have R0 : pR h2 k 0 = some (k + 1) := by
    rw [e2]
    rw [pR_sR_s, if_neg (by omega), (f2.2.2 k (by omega)).2.2]
    rw [e1, pR_sR_s, if_pos rfl, show pn h = k + 1 by omega]
  have R4 : pR h2 k 4 = some (k + 2) := by
    rw [e2, pR_sR_s, if_pos rfl, show pn h1 = k + 2 by omega]
  have I0k : ∀ j, pI h2 k j = pI h k j := fun j => by
    rw [e2]
    show pI g2 k j = _
    rw [(f2.2.2 k (by omega)).1]
    rw [e1]
    show pI g1 k j = _
    rw [(f1.2.2 k (by omega)).1]
  refine ⟨h2, ?_, ⟨o2, R0, R4, n1.ia a1, n2.ia a2⟩, FGa, p2, b2⟩
  intro N S Q hN hS hQ
  refine z_aload_n dX0_init_0 rfl rfl ?_
  refine z_objInit Kobj_X0_3 Kobj_instanceMethod Kobj_code dX0_init_1 (by omega) (Nat.le_of_ble_eq_true rfl) ?_
  refine z_aload_n dX0_init_4 rfl rfl ?_
  refine z_bipush (v := 8) dX0_init_5 (by decide) ?_
  refine z_newI (m0 := 8) dX0_init_7 Karr_int (by decide) rfl (by omega) (by omega) (by omega) ?_
  rw [← c1]
  refine y_putR FX0_9 dX0_init_9 (by first | exact Or.inl rfl | exact Or.inr ⟨rfl, rfl⟩) rfl og1 ?_
  rw [← e1]
  refine z_aload_n dX0_init_12 rfl rfl ?_
  refine z_sipush (v := 411) dX0_init_13 (by decide) ?_
  refine z_newI (m0 := 411) dX0_init_16 Karr_int (by decide) rfl (by omega) (by omega) (by omega) ?_
  rw [← c2]
  refine y_putR FX0_15 dX0_init_18 (by first | exact Or.inl rfl | exact Or.inr ⟨rfl, rfl⟩) rfl og2 ?_
  rw [← e2]
  refine z_vret dX0_init_21 ?_
  exact hQ

theorem c_textI {h : Hp} {x d : Nat} (ho : IO h 5 x) (hk : pn h = x + 1) (hd : 2 ≤ d) : ∃ h1, Sp d mX5_init [.ref x] h none h1 ∧ IO h1 5 x ∧ FG x h h1 ∧ pn h1 = x + 3 ∧ ps h1 = ps h + 148 := by
  refine ⟨textH h x, s_textI ho hd, ex_text.O ho, ⟨ex_text, by show ps h ≤ ps h + nC 4 + 144; exact Nat.le_trans (Nat.le_add_right _ _) (Nat.le_add_right _ _), fun a ha => ⟨text_I (by omega) (by omega), text_J (by omega) (by omega), text_R (by omega) (by omega) (by omega)⟩⟩, by show pn h + 2 = _; omega, by show ps h + nC 4 + 144 = _; rw [nc4v]⟩

theorem c_readI {h : Hp} {k d : Nat} (ho : IO h 2 k) (hk : pn h = k + 1) (hd : 3 ≤ d) : ∃ h1, Sp d mX2_init [.ref k] h none h1 ∧ (IO h1 2 k ∧ pR h1 k 0 = some (k + 1) ∧ IO h1 6 (k + 1) ∧ (pR h1 (k + 1) 0 = some (k + 2) ∧ IA h1 10 301 (k + 2)) ∧ (pR h1 (k + 1) 1 = some (k + 3) ∧ IA h1 10 301 (k + 3)) ∧ (pR h1 (k + 1) 2 = some (k + 4) ∧ IA h1 10 301 (k + 4)) ∧ (pR h1 k 1 = some (k + 5) ∧ IA h1 10 300 (k + 5))) ∧ FG k h h1 ∧ pn h1 = k + 9 ∧ ps h1 = ps h + 1359 := by
  have k8 := ho.1
  obtain ⟨g01, c1⟩ : ∃ g, g = nw h 6 (nC 6) := ⟨_, rfl⟩
  have fa1 : FG (pn h) h g01 := by rw [c1]; exact fg_nw
  have pa1 : pn g01 = k + 1 + 1 := by rw [c1, pn_nw]; omega
  have ba1 : ps g01 = ps h + 4 := by rw [c1]; show ps h + nC 6 = _; rw [nc6v]
  have oa1 : IO g01 6 (k + 1) := by rw [c1]; exact ⟨by omega, by rw [pn_nw]; omega, by rw [pK_nw, if_pos (by omega)]⟩
  have za1 : pI g01 (k + 1) = fun _ => 0 := by rw [c1, pI_nw, if_pos (by omega)]
  obtain ⟨g1, s1, t1, fb1, q1, m1⟩ := c_tokI (d := 1) oa1 pa1 (Nat.le_refl _)
  have f1 : FG (pn h) h g1 := fa1.tr (fb1.le (by omega))
  have pe1 : pn h = k + 1 := by omega
  obtain ⟨h1, e1⟩ : ∃ hh, hh = sR g1 k 0 (some (k + 1)) := ⟨_, rfl⟩
  have p1 : pn h1 = k + 5 := by rw [e1]; show pn g1 = _; omega
  have b1 : ps h1 = ps h + 907 := by rw [e1]; show ps g1 = _; omega
  have og1 : IO g1 2 k := f1.1.O ho
  have o1 : IO h1 2 k := by rw [e1]; exact og1
  obtain ⟨g2, c2⟩ : ∃ g, g = nw h1 10 300 := ⟨_, rfl⟩
  have f2 : FG (pn h1) h1 g2 := by rw [c2]; exact fg_nw
  have q2 : pn g2 = pn h1 + 1 := by rw [c2]; rfl
  have s2 : ps g2 = ps h1 + 300 := by rw [c2]; rfl
  have a2 : IA g2 10 300 (k + 5) := by rw [c2]; exact ⟨by omega, by rw [pn_nw]; omega, by rw [pK_nw, if_pos (by omega)]⟩
  have z2 : pI g2 (k + 5) = fun _ => 0 := by rw [c2, pI_nw, if_pos (by omega)]
  obtain ⟨h2, e2⟩ : ∃ hh, hh = sR g2 k 1 (some (pn h1)) := ⟨_, rfl⟩
  have p2 : pn h2 = k + 6 := by rw [e2]; show pn g2 = _; omega
  have b2 : ps h2 = ps h + 1207 := by rw [e2]; show ps g2 = _; omega
  have og2 : IO g2 2 k := f2.1.O o1
  have o2 : IO h2 2 k := by rw [e2]; exact og2
  obtain ⟨g03, c3⟩ : ∃ g, g = nw h2 5 (nC 5) := ⟨_, rfl⟩
  have fa3 : FG (pn h2) h2 g03 := by rw [c3]; exact fg_nw
  have pa3 : pn g03 = k + 6 + 1 := by rw [c3, pn_nw]; omega
  have ba3 : ps g03 = ps h2 + 4 := by rw [c3]; show ps h2 + nC 5 = _; rw [nc5v]
  have oa3 : IO g03 5 (k + 6) := by rw [c3]; exact ⟨by omega, by rw [pn_nw]; omega, by rw [pK_nw, if_pos (by omega)]⟩
  have za3 : pI g03 (k + 6) = fun _ => 0 := by rw [c3, pI_nw, if_pos (by omega)]
  obtain ⟨g3, s3, t3, fb3, q3, m3⟩ := c_textI (d := 2) oa3 pa3 (Nat.le_refl _)
  have f3 : FG (pn h2) h2 g3 := fa3.tr (fb3.le (by omega))
  have pe3 : pn h2 = k + 6 := by omega
  obtain ⟨h3, e3⟩ : ∃ hh, hh = sR g3 k 7 (some (k + 6)) := ⟨_, rfl⟩
  have p3 : pn h3 = k + 9 := by rw [e3]; show pn g3 = _; omega
  have b3 : ps h3 = ps h + 1359 := by rw [e3]; show ps g3 = _; omega
  have og3 : IO g3 2 k := f3.1.O o2
  have o3 : IO h3 2 k := by rw [e3]; exact og3
  have n1 : FN2 k (pn g1) g1 h3 := by
    rw [e3]
    refine FN2.R (FN2.g ?_ f3 (by omega))
    rw [e2]
    refine FN2.R (FN2.g ?_ f2 (by omega))
    rw [e1]
    exact FN2.R FN2.rf
  have n2 : FN2 k (pn g2) g2 h3 := by
    rw [e3]
    refine FN2.R (FN2.g ?_ f3 (by omega))
    rw [e2]
    exact FN2.R FN2.rf
  have n3 : FN2 k (pn g3) g3 h3 := by
    rw [e3]
    exact FN2.R FN2.rf
  have FGa : FG k h h3 := by
    rw [e3]
    refine FG.R (FG.tr ?_ (f3.le (by omega))) (Nat.le_refl _)
    rw [e2]
    refine FG.R (FG.tr ?_ (f2.le (by omega))) (Nat.le_refl _)
    rw [e1]
    refine FG.R (FG.tr ?_ (f1.le (by omega))) (Nat.le_refl _)
    exact FG.rf
  have R0 : pR h3 k 0 = some (k + 1) := by
    rw [e3]
    rw [pR_sR_s, if_neg (by omega), (f3.2.2 k (by omega)).2.2]
    rw [e2]
    rw [pR_sR_s, if_neg (by omega), (f2.2.2 k (by omega)).2.2]
    rw [e1, pR_sR_s, if_pos rfl]
  have R1 : pR h3 k 1 = some (k + 5) := by
    rw [e3]
    rw [pR_sR_s, if_neg (by omega), (f3.2.2 k (by omega)).2.2]
    rw [e2, pR_sR_s, if_pos rfl, show pn h1 = k + 5 by omega]
  have R7 : pR h3 k 7 = some (k + 6) := by
    rw [e3, pR_sR_s, if_pos rfl]
  have I0k : ∀ j, pI h3 k j = pI h k j := fun j => by
    rw [e3]
    show pI g3 k j = _
    rw [(f3.2.2 k (by omega)).1]
    rw [e2]
    show pI g2 k j = _
    rw [(f2.2.2 k (by omega)).1]
    rw [e1]
    show pI g1 k j = _
    rw [(f1.2.2 k (by omega)).1]
  obtain ⟨u1, u2, u3, u4, u5, u6, u7⟩ := t1
  have er := (n1.2 (k + 1) (by omega) (by omega)).2.2
  refine ⟨h3, ?_, ⟨o3, R0, n1.1.O u1, ⟨by rw [er]; exact u2, n1.1.A u5⟩, ⟨by rw [er]; exact u3, n1.1.A u6⟩, ⟨by rw [er]; exact u4, n1.1.A u7⟩, ⟨R1, n2.ia a2⟩⟩, FGa, p3, b3⟩
  intro N S Q hN hS hQ
  refine z_aload_n dX2_init_0 rfl rfl ?_
  refine z_objInit Kobj_X2_3 Kobj_instanceMethod Kobj_code dX2_init_1 (by omega) (Nat.le_of_ble_eq_true rfl) ?_
  refine z_aload_n dX2_init_4 rfl rfl ?_
  refine z_new NX2_9 dX2_init_5 (by omega) (by rw [nc6v]; omega) ?_
  rw [← c1]
  refine z_dup dX2_init_8 rfl ?_
  rw [pe1]
  refine y_callI (as := []) CX6_init LX2_11 IX6_init rfl rfl dX2_init_9 rfl (Nat.le_of_ble_eq_true rfl) (Nat.le_of_ble_eq_true rfl) (by omega) s1 ⟨fb1.1.1, fb1.2.1, by omega, by omega⟩ ?_
  refine y_putR FX2_12 dX2_init_12 (by first | exact Or.inl rfl | exact Or.inr ⟨rfl, rfl⟩) rfl og1 ?_
  rw [← e1]
  refine z_aload_n dX2_init_15 rfl rfl ?_
  refine z_sipush (v := 300) dX2_init_16 (by decide) ?_
  refine z_newI (m0 := 300) dX2_init_19 Karr_int (by decide) rfl (by omega) (by omega) (by omega) ?_
  rw [← c2]
  refine y_putR FX2_18 dX2_init_21 (by first | exact Or.inl rfl | exact Or.inr ⟨rfl, rfl⟩) rfl og2 ?_
  rw [← e2]
  refine z_aload_n dX2_init_24 rfl rfl ?_
  refine z_new NX2_22 dX2_init_25 (by omega) (by rw [nc5v]; omega) ?_
  rw [← c3]
  refine z_dup dX2_init_28 rfl ?_
  rw [pe3]
  refine y_callI (as := []) CX5_init LX2_24 IX5_init rfl rfl dX2_init_29 rfl (Nat.le_of_ble_eq_true rfl) (Nat.le_of_ble_eq_true rfl) (by omega) s3 ⟨fb3.1.1, fb3.2.1, by omega, by omega⟩ ?_
  refine y_putR FX2_25 dX2_init_32 (by first | exact Or.inl rfl | exact Or.inr ⟨rfl, rfl⟩) rfl og3 ?_
  rw [← e3]
  refine z_vret dX2_init_35 ?_
  exact hQ

