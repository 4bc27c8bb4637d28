/-! constructors: the reference (wip/whole/genb4.py) -/
set_option maxHeartbeats 2000000 in
theorem c_modS1 {h : Hp} {k d : Nat} (ho : IO h 9 k) (hk : pn h = k + 1) : ∃ h1, (∀ N S Q, pn h1 ≤ N → ps h1 ≤ S → T d N S mX9_init 13 (lap mX9_init [.ref k]) [] h1 Q → T d N S mX9_init 4 (lap mX9_init [.ref k]) [] h Q) ∧ (IA h1 10 4870 (k + 1) ∧ pI h1 (k + 1) = fun _ => 0) ∧ IO h1 9 k ∧ FN2 k (pn h) h h1 ∧ (∀ j, j ≠ 0 → pR h1 k j = pR h k j) ∧ pR h1 k 0 = some (k + 1) ∧ pI h1 k = pI h k ∧ pn h1 = k + 2 ∧ ps h1 = ps h + 4870 := by
  have k8 := ho.1
  obtain ⟨g1, c1⟩ : ∃ g, g = nw h 10 4870 := ⟨_, rfl⟩
  have f1 : FG (pn h) h g1 := by rw [c1]; exact fg_nw
  have q1 : pn g1 = pn h + 1 := by rw [c1]; rfl
  have s1 : ps g1 = ps h + 4870 := by rw [c1]; rfl
  have a1 : IA g1 10 4870 (k + 1) := by rw [c1]; exact ⟨by omega, by rw [pn_nw]; omega, by rw [pK_nw, if_pos (by omega)]⟩
  have z1 : pI g1 (k + 1) = fun _ => 0 := by rw [c1, pI_nw, if_pos (by omega)]
  obtain ⟨h1, e1⟩ : ∃ hh, hh = sR g1 k 0 (some (pn h)) := ⟨_, rfl⟩
  have p1 : pn h1 = k + 2 := by rw [e1]; show pn g1 = _; omega
  have b1 : ps h1 = ps h + 4870 := by rw [e1]; show ps g1 = _; omega
  have og1 : IO g1 9 k := f1.1.O ho
  have o1 : IO h1 9 k := by rw [e1]; exact og1
  have n1 : FN2 k (pn h) h h1 := by
    rw [e1]
    exact FN2.R (FN2.g FN2.rf f1 (Nat.le_refl _))
  have ng : FN2 k (pn g1) g1 h1 := by
    rw [e1]
    exact FN2.R FN2.rf
  refine ⟨h1, ?_, ⟨ng.ia a1, by rw [(ng.2 (k + 1) (by omega) (by omega)).1]; exact z1⟩, o1, n1, fun j hj => by rw [e1, pR_sR_s, if_neg hj, (f1.2.2 k (by omega)).2.2], by rw [e1, pR_sR_s, if_pos rfl, hk], by rw [e1]; show pI g1 k = _; rw [(f1.2.2 k (by omega)).1], p1, b1⟩
  intro N S Q hN hS hQ
  refine z_aload_n dX9_init_4 rfl rfl ?_
  refine z_sipush (v := 4870) dX9_init_5 (by decide) ?_
  refine z_newI (m0 := 4870) dX9_init_8 Karr_int (by decide) rfl (by omega) (by omega) (by omega) ?_
  rw [← c1]
  refine y_putR FX9_7 dX9_init_10 (by first | exact Or.inl rfl | exact Or.inr ⟨rfl, rfl⟩) rfl og1 ?_
  rw [← e1]
  exact hQ

set_option maxHeartbeats 2000000 in
theorem c_modS2 {h : Hp} {k d : Nat} (ho : IO h 9 k) (hk : pn h = k + 2) : ∃ h1, (∀ N S Q, pn h1 ≤ N → ps h1 ≤ S → T d N S mX9_init 22 (lap mX9_init [.ref k]) [] h1 Q → T d N S mX9_init 13 (lap mX9_init [.ref k]) [] h Q) ∧ (IA h1 10 4870 (k + 2) ∧ pI h1 (k + 2) = fun _ => 0) ∧ IO h1 9 k ∧ FN2 k (pn h) h h1 ∧ (∀ j, j ≠ 1 → pR h1 k j = pR h k j) ∧ pR h1 k 1 = some (k + 2) ∧ pI h1 k = pI h k ∧ pn h1 = k + 3 ∧ ps h1 = ps h + 4870 := by
  have k8 := ho.1
  obtain ⟨g1, c1⟩ : ∃ g, g = nw h 10 4870 := ⟨_, rfl⟩
  have f1 : FG (pn h) h g1 := by rw [c1]; exact fg_nw
  have q1 : pn g1 = pn h + 1 := by rw [c1]; rfl
  have s1 : ps g1 = ps h + 4870 := by rw [c1]; rfl
  have a1 : IA g1 10 4870 (k + 2) := by rw [c1]; exact ⟨by omega, by rw [pn_nw]; omega, by rw [pK_nw, if_pos (by omega)]⟩
  have z1 : pI g1 (k + 2) = fun _ => 0 := by rw [c1, pI_nw, if_pos (by omega)]
  obtain ⟨h1, e1⟩ : ∃ hh, hh = sR g1 k 1 (some (pn h)) := ⟨_, rfl⟩
  have p1 : pn h1 = k + 3 := by rw [e1]; show pn g1 = _; omega
  have b1 : ps h1 = ps h + 4870 := by rw [e1]; show ps g1 = _; omega
  have og1 : IO g1 9 k := f1.1.O ho
  have o1 : IO h1 9 k := by rw [e1]; exact og1
  have n1 : FN2 k (pn h) h h1 := by
    rw [e1]
    exact FN2.R (FN2.g FN2.rf f1 (Nat.le_refl _))
  have ng : FN2 k (pn g1) g1 h1 := by
    rw [e1]
    exact FN2.R FN2.rf
  refine ⟨h1, ?_, ⟨ng.ia a1, by rw [(ng.2 (k + 2) (by omega) (by omega)).1]; exact z1⟩, o1, n1, fun j hj => by rw [e1, pR_sR_s, if_neg hj, (f1.2.2 k (by omega)).2.2], by rw [e1, pR_sR_s, if_pos rfl, hk], by rw [e1]; show pI g1 k = _; rw [(f1.2.2 k (by omega)).1], p1, b1⟩
  intro N S Q hN hS hQ
  refine z_aload_n dX9_init_13 rfl rfl ?_
  refine z_sipush (v := 4870) dX9_init_14 (by decide) ?_
  refine z_newI (m0 := 4870) dX9_init_17 Karr_int (by decide) rfl (by omega) (by omega) (by omega) ?_
  rw [← c1]
  refine y_putR FX9_13 dX9_init_19 (by first | exact Or.inl rfl | exact Or.inr ⟨rfl, rfl⟩) rfl og1 ?_
  rw [← e1]
  exact hQ

set_option maxHeartbeats 2000000 in
theorem c_modS3 {h : Hp} {k d : Nat} (ho : IO h 9 k) (hk : pn h = k + 3) : ∃ h1, (∀ N S Q, pn h1 ≤ N → ps h1 ≤ S → T d N S mX9_init 31 (lap mX9_init [.ref k]) [] h1 Q → T d N S mX9_init 22 (lap mX9_init [.ref k]) [] h Q) ∧ (IA h1 10 3012 (k + 3) ∧ pI h1 (k + 3) = fun _ => 0) ∧ IO h1 9 k ∧ FN2 k (pn h) h h1 ∧ (∀ j, j ≠ 2 → pR h1 k j = pR h k j) ∧ pR h1 k 2 = some (k + 3) ∧ pI h1 k = pI h k ∧ pn h1 = k + 4 ∧ ps h1 = ps h + 3012 := by
  have k8 := ho.1
  obtain ⟨g1, c1⟩ : ∃ g, g = nw h 10 3012 := ⟨_, rfl⟩
  have f1 : FG (pn h) h g1 := by rw [c1]; exact fg_nw
  have q1 : pn g1 = pn h + 1 := by rw [c1]; rfl
  have s1 : ps g1 = ps h + 3012 := by rw [c1]; rfl
  have a1 : IA g1 10 3012 (k + 3) := by rw [c1]; exact ⟨by omega, by rw [pn_nw]; omega, by rw [pK_nw, if_pos (by omega)]⟩
  have z1 : pI g1 (k + 3) = fun _ => 0 := by rw [c1, pI_nw, if_pos (by omega)]
  obtain ⟨h1, e1⟩ : ∃ hh, hh = sR g1 k 2 (some (pn h)) := ⟨_, rfl⟩
  have p1 : pn h1 = k + 4 := by rw [e1]; show pn g1 = _; omega
  have b1 : ps h1 = ps h + 3012 := by rw [e1]; show ps g1 = _; omega
  have og1 : IO g1 9 k := f1.1.O ho
  have o1 : IO h1 9 k := by rw [e1]; exact og1
  have n1 : FN2 k (pn h) h h1 := by
    rw [e1]
    exact FN2.R (FN2.g FN2.rf f1 (Nat.le_refl _))
  have ng : FN2 k (pn g1) g1 h1 := by
    rw [e1]
    exact FN2.R FN2.rf
  refine ⟨h1, ?_, ⟨ng.ia a1, by rw [(ng.2 (k + 3) (by omega) (by omega)).1]; exact z1⟩, o1, n1, fun j hj => by rw [e1, pR_sR_s, if_neg hj, (f1.2.2 k (by omega)).2.2], by rw [e1, pR_sR_s, if_pos rfl, hk], by rw [e1]; show pI g1 k = _; rw [(f1.2.2 k (by omega)).1], p1, b1⟩
  intro N S Q hN hS hQ
  refine z_aload_n dX9_init_22 rfl rfl ?_
  refine z_sipush (v := 3012) dX9_init_23 (by decide) ?_
  refine z_newI (m0 := 3012) dX9_init_26 Karr_int (by decide) rfl (by omega) (by omega) (by omega) ?_
  rw [← c1]
  refine y_putR FX9_16 dX9_init_28 (by first | exact Or.inl rfl | exact Or.inr ⟨rfl, rfl⟩) rfl og1 ?_
  rw [← e1]
  exact hQ

set_option maxHeartbeats 2000000 in
theorem c_modS4 {h : Hp} {k d : Nat} (ho : IO h 9 k) (hk : pn h = k + 4) : ∃ h1, (∀ N S Q, pn h1 ≤ N → ps h1 ≤ S → T d N S mX9_init 40 (lap mX9_init [.ref k]) [] h1 Q → T d N S mX9_init 31 (lap mX9_init [.ref k]) [] h Q) ∧ (IA h1 10 300 (k + 4) ∧ pI h1 (k + 4) = fun _ => 0) ∧ IO h1 9 k ∧ FN2 k (pn h) h h1 ∧ (∀ j, j ≠ 3 → pR h1 k j = pR h k j) ∧ pR h1 k 3 = some (k + 4) ∧ pI h1 k = pI h k ∧ pn h1 = k + 5 ∧ ps h1 = ps h + 300 := by
  have k8 := ho.1
  obtain ⟨g1, c1⟩ : ∃ g, g = nw h 10 300 := ⟨_, rfl⟩
  have f1 : FG (pn h) h g1 := by rw [c1]; exact fg_nw
  have q1 : pn g1 = pn h + 1 := by rw [c1]; rfl
  have s1 : ps g1 = ps h + 300 := by rw [c1]; rfl
  have a1 : IA g1 10 300 (k + 4) := by rw [c1]; exact ⟨by omega, by rw [pn_nw]; omega, by rw [pK_nw, if_pos (by omega)]⟩
  have z1 : pI g1 (k + 4) = fun _ => 0 := by rw [c1, pI_nw, if_pos (by omega)]
  obtain ⟨h1, e1⟩ : ∃ hh, hh = sR g1 k 3 (some (pn h)) := ⟨_, rfl⟩
  have p1 : pn h1 = k + 5 := by rw [e1]; show pn g1 = _; omega
  have b1 : ps h1 = ps h + 300 := by rw [e1]; show ps g1 = _; omega
  have og1 : IO g1 9 k := f1.1.O ho
  have o1 : IO h1 9 k := by rw [e1]; exact og1
  have n1 : FN2 k (pn h) h h1 := by
    rw [e1]
    exact FN2.R (FN2.g FN2.rf f1 (Nat.le_refl _))
  have ng : FN2 k (pn g1) g1 h1 := by
    rw [e1]
    exact FN2.R FN2.rf
  refine ⟨h1, ?_, ⟨ng.ia a1, by rw [(ng.2 (k + 4) (by omega) (by omega)).1]; exact z1⟩, o1, n1, fun j hj => by rw [e1, pR_sR_s, if_neg hj, (f1.2.2 k (by omega)).2.2], by rw [e1, pR_sR_s, if_pos rfl, hk], by rw [e1]; show pI g1 k = _; rw [(f1.2.2 k (by omega)).1], p1, b1⟩
  intro N S Q hN hS hQ
  refine z_aload_n dX9_init_31 rfl rfl ?_
  refine z_sipush (v := 300) dX9_init_32 (by decide) ?_
  refine z_newI (m0 := 300) dX9_init_35 Karr_int (by decide) rfl (by omega) (by omega) (by omega) ?_
  rw [← c1]
  refine y_putR FX9_19 dX9_init_37 (by first | exact Or.inl rfl | exact Or.inr ⟨rfl, rfl⟩) rfl og1 ?_
  rw [← e1]
  exact hQ

set_option maxHeartbeats 2000000 in
theorem c_modS7 {h : Hp} {k d : Nat} (ho : IO h 9 k) (hk : pn h = k + 5) : ∃ h1, (∀ N S Q, pn h1 ≤ N → ps h1 ≤ S → T d N S mX9_init 59 (lap mX9_init [.ref k]) [] h1 Q → T d N S mX9_init 50 (lap mX9_init [.ref k]) [] h Q) ∧ (IA h1 10 160 (k + 5) ∧ pI h1 (k + 5) = fun _ => 0) ∧ IO h1 9 k ∧ FN2 k (pn h) h h1 ∧ (∀ j, j ≠ 15 → pR h1 k j = pR h k j) ∧ pR h1 k 15 = some (k + 5) ∧ pI h1 k = pI h k ∧ pn h1 = k + 6 ∧ ps h1 = ps h + 160 := by
  have k8 := ho.1
  obtain ⟨g1, c1⟩ : ∃ g, g = nw h 10 160 := ⟨_, rfl⟩
  have f1 : FG (pn h) h g1 := by rw [c1]; exact fg_nw
  have q1 : pn g1 = pn h + 1 := by rw [c1]; rfl
  have s1 : ps g1 = ps h + 160 := by rw [c1]; rfl
  have a1 : IA g1 10 160 (k + 5) := by rw [c1]; exact ⟨by omega, by rw [pn_nw]; omega, by rw [pK_nw, if_pos (by omega)]⟩
  have z1 : pI g1 (k + 5) = fun _ => 0 := by rw [c1, pI_nw, if_pos (by omega)]
  obtain ⟨h1, e1⟩ : ∃ hh, hh = sR g1 k 15 (some (pn h)) := ⟨_, rfl⟩
  have p1 : pn h1 = k + 6 := by rw [e1]; show pn g1 = _; omega
  have b1 : ps h1 = ps h + 160 := by rw [e1]; show ps g1 = _; omega
  have og1 : IO g1 9 k := f1.1.O ho
  have o1 : IO h1 9 k := by rw [e1]; exact og1
  have n1 : FN2 k (pn h) h h1 := by
    rw [e1]
    exact FN2.R (FN2.g FN2.rf f1 (Nat.le_refl _))
  have ng : FN2 k (pn g1) g1 h1 := by
    rw [e1]
    exact FN2.R FN2.rf
  refine ⟨h1, ?_, ⟨ng.ia a1, by rw [(ng.2 (k + 5) (by omega) (by omega)).1]; exact z1⟩, o1, n1, fun j hj => by rw [e1, pR_sR_s, if_neg hj, (f1.2.2 k (by omega)).2.2], by rw [e1, pR_sR_s, if_pos rfl, hk], by rw [e1]; show pI g1 k = _; rw [(f1.2.2 k (by omega)).1], p1, b1⟩
  intro N S Q hN hS hQ
  refine z_aload_n dX9_init_50 rfl rfl ?_
  refine z_sipush (v := 160) dX9_init_51 (by decide) ?_
  refine z_newI (m0 := 160) dX9_init_54 Karr_int (by decide) rfl (by omega) (by omega) (by omega) ?_
  rw [← c1]
  refine y_putR FX9_29 dX9_init_56 (by first | exact Or.inl rfl | exact Or.inr ⟨rfl, rfl⟩) rfl og1 ?_
  rw [← e1]
  exact hQ

set_option maxHeartbeats 2000000 in
theorem c_modS8 {h : Hp} {k d : Nat} (ho : IO h 9 k) (hk : pn h = k + 6) : ∃ h1, (∀ N S Q, pn h1 ≤ N → ps h1 ≤ S → T d N S mX9_init 67 (lap mX9_init [.ref k]) [] h1 Q → T d N S mX9_init 59 (lap mX9_init [.ref k]) [] h Q) ∧ (IA h1 10 11 (k + 6) ∧ pI h1 (k + 6) = fun _ => 0) ∧ IO h1 9 k ∧ FN2 k (pn h) h h1 ∧ (∀ j, j ≠ 20 → pR h1 k j = pR h k j) ∧ pR h1 k 20 = some (k + 6) ∧ pI h1 k = pI h k ∧ pn h1 = k + 7 ∧ ps h1 = ps h + 11 := by
  have k8 := ho.1
  obtain ⟨g1, c1⟩ : ∃ g, g = nw h 10 11 := ⟨_, rfl⟩
  have f1 : FG (pn h) h g1 := by rw [c1]; exact fg_nw
  have q1 : pn g1 = pn h + 1 := by rw [c1]; rfl
  have s1 : ps g1 = ps h + 11 := by rw [c1]; rfl
  have a1 : IA g1 10 11 (k + 6) := by rw [c1]; exact ⟨by omega, by rw [pn_nw]; omega, by rw [pK_nw, if_pos (by omega)]⟩
  have z1 : pI g1 (k + 6) = fun _ => 0 := by rw [c1, pI_nw, if_pos (by omega)]
  obtain ⟨h1, e1⟩ : ∃ hh, hh = sR g1 k 20 (some (pn h)) := ⟨_, rfl⟩
  have p1 : pn h1 = k + 7 := by rw [e1]; show pn g1 = _; omega
  have b1 : ps h1 = ps h + 11 := by rw [e1]; show ps g1 = _; omega
  have og1 : IO g1 9 k := f1.1.O ho
  have o1 : IO h1 9 k := by rw [e1]; exact og1
  have n1 : FN2 k (pn h) h h1 := by
    rw [e1]
    exact FN2.R (FN2.g FN2.rf f1 (Nat.le_refl _))
  have ng : FN2 k (pn g1) g1 h1 := by
    rw [e1]
    exact FN2.R FN2.rf
  refine ⟨h1, ?_, ⟨ng.ia a1, by rw [(ng.2 (k + 6) (by omega) (by omega)).1]; exact z1⟩, o1, n1, fun j hj => by rw [e1, pR_sR_s, if_neg hj, (f1.2.2 k (by omega)).2.2], by rw [e1, pR_sR_s, if_pos rfl, hk], by rw [e1]; show pI g1 k = _; rw [(f1.2.2 k (by omega)).1], p1, b1⟩
  intro N S Q hN hS hQ
  refine z_aload_n dX9_init_59 rfl rfl ?_
  refine z_bipush (v := 11) dX9_init_60 (by decide) ?_
  refine z_newI (m0 := 11) dX9_init_62 Karr_int (by decide) rfl (by omega) (by omega) (by omega) ?_
  rw [← c1]
  refine y_putR FX9_32 dX9_init_64 (by first | exact Or.inl rfl | exact Or.inr ⟨rfl, rfl⟩) rfl og1 ?_
  rw [← e1]
  exact hQ

set_option maxHeartbeats 2000000 in
theorem c_modS9 {h : Hp} {k d : Nat} (ho : IO h 9 k) (hk : pn h = k + 7) : ∃ h1, (∀ N S Q, pn h1 ≤ N → ps h1 ≤ S → T d N S mX9_init 76 (lap mX9_init [.ref k]) [] h1 Q → T d N S mX9_init 67 (lap mX9_init [.ref k]) [] h Q) ∧ (IA h1 11 330 (k + 7) ∧ True) ∧ IO h1 9 k ∧ FN2 k (pn h) h h1 ∧ (∀ j, j ≠ 21 → pR h1 k j = pR h k j) ∧ pR h1 k 21 = some (k + 7) ∧ pI h1 k = pI h k ∧ pn h1 = k + 8 ∧ ps h1 = ps h + 330 := by
  have k8 := ho.1
  obtain ⟨g1, c1⟩ : ∃ g, g = nw h 11 330 := ⟨_, rfl⟩
  have f1 : FG (pn h) h g1 := by rw [c1]; exact fg_nw
  have q1 : pn g1 = pn h + 1 := by rw [c1]; rfl
  have s1 : ps g1 = ps h + 330 := by rw [c1]; rfl
  have a1 : IA g1 11 330 (k + 7) := by rw [c1]; exact ⟨by omega, by rw [pn_nw]; omega, by rw [pK_nw, if_pos (by omega)]⟩
  have z1 : pI g1 (k + 7) = fun _ => 0 := by rw [c1, pI_nw, if_pos (by omega)]
  obtain ⟨h1, e1⟩ : ∃ hh, hh = sR g1 k 21 (some (pn h)) := ⟨_, rfl⟩
  have p1 : pn h1 = k + 8 := by rw [e1]; show pn g1 = _; omega
  have b1 : ps h1 = ps h + 330 := by rw [e1]; show ps g1 = _; omega
  have og1 : IO g1 9 k := f1.1.O ho
  have o1 : IO h1 9 k := by rw [e1]; exact og1
  have n1 : FN2 k (pn h) h h1 := by
    rw [e1]
    exact FN2.R (FN2.g FN2.rf f1 (Nat.le_refl _))
  have ng : FN2 k (pn g1) g1 h1 := by
    rw [e1]
    exact FN2.R FN2.rf
  refine ⟨h1, ?_, ⟨ng.ia a1, trivial⟩, o1, n1, fun j hj => by rw [e1, pR_sR_s, if_neg hj, (f1.2.2 k (by omega)).2.2], by rw [e1, pR_sR_s, if_pos rfl, hk], by rw [e1]; show pI g1 k = _; rw [(f1.2.2 k (by omega)).1], p1, b1⟩
  intro N S Q hN hS hQ
  refine z_aload_n dX9_init_67 rfl rfl ?_
  refine z_sipush (v := 330) dX9_init_68 (by decide) ?_
  refine z_newJ (m0 := 330) dX9_init_71 Karr_long (by decide) rfl (by omega) (by omega) (by omega) ?_
  rw [← c1]
  refine y_putR FX9_35 dX9_init_73 (by first | exact Or.inl rfl | exact Or.inr ⟨rfl, rfl⟩) rfl og1 ?_
  rw [← e1]
  exact hQ

set_option maxHeartbeats 2000000 in
theorem c_modS10 {h : Hp} {k d : Nat} (ho : IO h 9 k) (hk : pn h = k + 8) : ∃ h1, (∀ N S Q, pn h1 ≤ N → ps h1 ≤ S → T d N S mX9_init 85 (lap mX9_init [.ref k]) [] h1 Q → T d N S mX9_init 76 (lap mX9_init [.ref k]) [] h Q) ∧ (IA h1 12 330 (k + 8) ∧ True) ∧ IO h1 9 k ∧ FN2 k (pn h) h h1 ∧ (∀ j, j ≠ 22 → pR h1 k j = pR h k j) ∧ pR h1 k 22 = some (k + 8) ∧ pI h1 k = pI h k ∧ pn h1 = k + 9 ∧ ps h1 = ps h + 330 := by
  have k8 := ho.1
  obtain ⟨g1, c1⟩ : ∃ g, g = nw h 12 330 := ⟨_, rfl⟩
  have f1 : FG (pn h) h g1 := by rw [c1]; exact fg_nw
  have q1 : pn g1 = pn h + 1 := by rw [c1]; rfl
  have s1 : ps g1 = ps h + 330 := by rw [c1]; rfl
  have a1 : IA g1 12 330 (k + 8) := by rw [c1]; exact ⟨by omega, by rw [pn_nw]; omega, by rw [pK_nw, if_pos (by omega)]⟩
  have z1 : pI g1 (k + 8) = fun _ => 0 := by rw [c1, pI_nw, if_pos (by omega)]
  obtain ⟨h1, e1⟩ : ∃ hh, hh = sR g1 k 22 (some (pn h)) := ⟨_, rfl⟩
  have p1 : pn h1 = k + 9 := by rw [e1]; show pn g1 = _; omega
  have b1 : ps h1 = ps h + 330 := by rw [e1]; show ps g1 = _; omega
  have og1 : IO g1 9 k := f1.1.O ho
  have o1 : IO h1 9 k := by rw [e1]; exact og1
  have n1 : FN2 k (pn h) h h1 := by
    rw [e1]
    exact FN2.R (FN2.g FN2.rf f1 (Nat.le_refl _))
  have ng : FN2 k (pn g1) g1 h1 := by
    rw [e1]
    exact FN2.R FN2.rf
  refine ⟨h1, ?_, ⟨ng.ia a1, trivial⟩, o1, n1, fun j hj => by rw [e1, pR_sR_s, if_neg hj, (f1.2.2 k (by omega)).2.2], by rw [e1, pR_sR_s, if_pos rfl, hk], by rw [e1]; show pI g1 k = _; rw [(f1.2.2 k (by omega)).1], p1, b1⟩
  intro N S Q hN hS hQ
  refine z_aload_n dX9_init_76 rfl rfl ?_
  refine z_sipush (v := 330) dX9_init_77 (by decide) ?_
  refine z_newZ (m0 := 330) dX9_init_80 Karr_boolean (by decide) rfl (by omega) (by omega) (by omega) ?_
  rw [← c1]
  refine y_putR FX9_39 dX9_init_82 (by first | exact Or.inl rfl | exact Or.inr ⟨rfl, rfl⟩) rfl og1 ?_
  rw [← e1]
  exact hQ

set_option maxHeartbeats 2000000 in
theorem c_modS12 {h : Hp} {k d : Nat} (ho : IO h 9 k) (hk : pn h = k + 9) : ∃ h1, (∀ N S Q, pn h1 ≤ N → ps h1 ≤ S → T d N S mX9_init 98 (lap mX9_init [.ref k]) [] h1 Q → T d N S mX9_init 90 (lap mX9_init [.ref k]) [] h Q) ∧ (IA h1 10 110 (k + 9) ∧ pI h1 (k + 9) = fun _ => 0) ∧ IO h1 9 k ∧ FN2 k (pn h) h h1 ∧ (∀ j, j ≠ 25 → pR h1 k j = pR h k j) ∧ pR h1 k 25 = some (k + 9) ∧ pI h1 k = pI h k ∧ pn h1 = k + 10 ∧ ps h1 = ps h + 110 := by
  have k8 := ho.1
  obtain ⟨g1, c1⟩ : ∃ g, g = nw h 10 110 := ⟨_, rfl⟩
  have f1 : FG (pn h) h g1 := by rw [c1]; exact fg_nw
  have q1 : pn g1 = pn h + 1 := by rw [c1]; rfl
  have s1 : ps g1 = ps h + 110 := by rw [c1]; rfl
  have a1 : IA g1 10 110 (k + 9) := by rw [c1]; exact ⟨by omega, by rw [pn_nw]; omega, by rw [pK_nw, if_pos (by omega)]⟩
  have z1 : pI g1 (k + 9) = fun _ => 0 := by rw [c1, pI_nw, if_pos (by omega)]
  obtain ⟨h1, e1⟩ : ∃ hh, hh = sR g1 k 25 (some (pn h)) := ⟨_, rfl⟩
  have p1 : pn h1 = k + 10 := by rw [e1]; show pn g1 = _; omega
  have b1 : ps h1 = ps h + 110 := by rw [e1]; show ps g1 = _; omega
  have og1 : IO g1 9 k := f1.1.O ho
  have o1 : IO h1 9 k := by rw [e1]; exact og1
  have n1 : FN2 k (pn h) h h1 := by
    rw [e1]
    exact FN2.R (FN2.g FN2.rf f1 (Nat.le_refl _))
  have ng : FN2 k (pn g1) g1 h1 := by
    rw [e1]
    exact FN2.R FN2.rf
  refine ⟨h1, ?_, ⟨ng.ia a1, by rw [(ng.2 (k + 9) (by omega) (by omega)).1]; exact z1⟩, o1, n1, fun j hj => by rw [e1, pR_sR_s, if_neg hj, (f1.2.2 k (by omega)).2.2], by rw [e1, pR_sR_s, if_pos rfl, hk], by rw [e1]; show pI g1 k = _; rw [(f1.2.2 k (by omega)).1], p1, b1⟩
  intro N S Q hN hS hQ
  refine z_aload_n dX9_init_90 rfl rfl ?_
  refine z_bipush (v := 110) dX9_init_91 (by decide) ?_
  refine z_newI (m0 := 110) dX9_init_93 Karr_int (by decide) rfl (by omega) (by omega) (by omega) ?_
  rw [← c1]
  refine y_putR FX9_47 dX9_init_95 (by first | exact Or.inl rfl | exact Or.inr ⟨rfl, rfl⟩) rfl og1 ?_
  rw [← e1]
  exact hQ

set_option maxHeartbeats 2000000 in
theorem c_modS13 {h : Hp} {k d : Nat} (ho : IO h 9 k) (hk : pn h = k + 10) : ∃ h1, (∀ N S Q, pn h1 ≤ N → ps h1 ≤ S → T d N S mX9_init 107 (lap mX9_init [.ref k]) [] h1 Q → T d N S mX9_init 98 (lap mX9_init [.ref k]) [] h Q) ∧ (IA h1 10 256 (k + 10) ∧ pI h1 (k + 10) = fun _ => 0) ∧ IO h1 9 k ∧ FN2 k (pn h) h h1 ∧ (∀ j, j ≠ 28 → pR h1 k j = pR h k j) ∧ pR h1 k 28 = some (k + 10) ∧ pI h1 k = pI h k ∧ pn h1 = k + 11 ∧ ps h1 = ps h + 256 := by
  have k8 := ho.1
  obtain ⟨g1, c1⟩ : ∃ g, g = nw h 10 256 := ⟨_, rfl⟩
  have f1 : FG (pn h) h g1 := by rw [c1]; exact fg_nw
  have q1 : pn g1 = pn h + 1 := by rw [c1]; rfl
  have s1 : ps g1 = ps h + 256 := by rw [c1]; rfl
  have a1 : IA g1 10 256 (k + 10) := by rw [c1]; exact ⟨by omega, by rw [pn_nw]; omega, by rw [pK_nw, if_pos (by omega)]⟩
  have z1 : pI g1 (k + 10) = fun _ => 0 := by rw [c1, pI_nw, if_pos (by omega)]
  obtain ⟨h1, e1⟩ : ∃ hh, hh = sR g1 k 28 (some (pn h)) := ⟨_, rfl⟩
  have p1 : pn h1 = k + 11 := by rw [e1]; show pn g1 = _; omega
  have b1 : ps h1 = ps h + 256 := by rw [e1]; show ps g1 = _; omega
  have og1 : IO g1 9 k := f1.1.O ho
  have o1 : IO h1 9 k := by rw [e1]; exact og1
  have n1 : FN2 k (pn h) h h1 := by
    rw [e1]
    exact FN2.R (FN2.g FN2.rf f1 (Nat.le_refl _))
  have ng : FN2 k (pn g1) g1 h1 := by
    rw [e1]
    exact FN2.R FN2.rf
  refine ⟨h1, ?_, ⟨ng.ia a1, by rw [(ng.2 (k + 10) (by omega) (by omega)).1]; exact z1⟩, o1, n1, fun j hj => by rw [e1, pR_sR_s, if_neg hj, (f1.2.2 k (by omega)).2.2], by rw [e1, pR_sR_s, if_pos rfl, hk], by rw [e1]; show pI g1 k = _; rw [(f1.2.2 k (by omega)).1], p1, b1⟩
  intro N S Q hN hS hQ
  refine z_aload_n dX9_init_98 rfl rfl ?_
  refine z_sipush (v := 256) dX9_init_99 (by decide) ?_
  refine z_newI (m0 := 256) dX9_init_102 Karr_int (by decide) rfl (by omega) (by omega) (by omega) ?_
  rw [← c1]
  refine y_putR FX9_50 dX9_init_104 (by first | exact Or.inl rfl | exact Or.inr ⟨rfl, rfl⟩) rfl og1 ?_
  rw [← e1]
  exact hQ

set_option maxHeartbeats 2000000 in
theorem c_modS14 {h : Hp} {k d : Nat} (ho : IO h 9 k) (hk : pn h = k + 11) : ∃ h1, (∀ N S Q, pn h1 ≤ N → ps h1 ≤ S → T d N S mX9_init 116 (lap mX9_init [.ref k]) [] h1 Q → T d N S mX9_init 107 (lap mX9_init [.ref k]) [] h Q) ∧ (IA h1 12 6561 (k + 11) ∧ True) ∧ IO h1 9 k ∧ FN2 k (pn h) h h1 ∧ (∀ j, j ≠ 29 → pR h1 k j = pR h k j) ∧ pR h1 k 29 = some (k + 11) ∧ pI h1 k = pI h k ∧ pn h1 = k + 12 ∧ ps h1 = ps h + 6561 := by
  have k8 := ho.1
  obtain ⟨g1, c1⟩ : ∃ g, g = nw h 12 6561 := ⟨_, rfl⟩
  have f1 : FG (pn h) h g1 := by rw [c1]; exact fg_nw
  have q1 : pn g1 = pn h + 1 := by rw [c1]; rfl
  have s1 : ps g1 = ps h + 6561 := by rw [c1]; rfl
  have a1 : IA g1 12 6561 (k + 11) := by rw [c1]; exact ⟨by omega, by rw [pn_nw]; omega, by rw [pK_nw, if_pos (by omega)]⟩
  have z1 : pI g1 (k + 11) = fun _ => 0 := by rw [c1, pI_nw, if_pos (by omega)]
  obtain ⟨h1, e1⟩ : ∃ hh, hh = sR g1 k 29 (some (pn h)) := ⟨_, rfl⟩
  have p1 : pn h1 = k + 12 := by rw [e1]; show pn g1 = _; omega
  have b1 : ps h1 = ps h + 6561 := by rw [e1]; show ps g1 = _; omega
  have og1 : IO g1 9 k := f1.1.O ho
  have o1 : IO h1 9 k := by rw [e1]; exact og1
  have n1 : FN2 k (pn h) h h1 := by
    rw [e1]
    exact FN2.R (FN2.g FN2.rf f1 (Nat.le_refl _))
  have ng : FN2 k (pn g1) g1 h1 := by
    rw [e1]
    exact FN2.R FN2.rf
  refine ⟨h1, ?_, ⟨ng.ia a1, trivial⟩, o1, n1, fun j hj => by rw [e1, pR_sR_s, if_neg hj, (f1.2.2 k (by omega)).2.2], by rw [e1, pR_sR_s, if_pos rfl, hk], by rw [e1]; show pI g1 k = _; rw [(f1.2.2 k (by omega)).1], p1, b1⟩
  intro N S Q hN hS hQ
  refine z_aload_n dX9_init_107 rfl rfl ?_
  refine z_sipush (v := 6561) dX9_init_108 (by decide) ?_
  refine z_newZ (m0 := 6561) dX9_init_111 Karr_boolean (by decide) rfl (by omega) (by omega) (by omega) ?_
  rw [← c1]
  refine y_putR FX9_53 dX9_init_113 (by first | exact Or.inl rfl | exact Or.inr ⟨rfl, rfl⟩) rfl og1 ?_
  rw [← e1]
  exact hQ

set_option maxHeartbeats 2000000 in
theorem c_modS15 {h : Hp} {k d : Nat} (ho : IO h 9 k) (hk : pn h = k + 12) : ∃ h1, (∀ N S Q, pn h1 ≤ N → ps h1 ≤ S → T d N S mX9_init 124 (lap mX9_init [.ref k]) [] h1 Q → T d N S mX9_init 116 (lap mX9_init [.ref k]) [] h Q) ∧ (IA h1 10 9 (k + 12) ∧ pI h1 (k + 12) = fun _ => 0) ∧ IO h1 9 k ∧ FN2 k (pn h) h h1 ∧ (∀ j, j ≠ 30 → pR h1 k j = pR h k j) ∧ pR h1 k 30 = some (k + 12) ∧ pI h1 k = pI h k ∧ pn h1 = k + 13 ∧ ps h1 = ps h + 9 := by
  have k8 := ho.1
  obtain ⟨g1, c1⟩ : ∃ g, g = nw h 10 9 := ⟨_, rfl⟩
  have f1 : FG (pn h) h g1 := by rw [c1]; exact fg_nw
  have q1 : pn g1 = pn h + 1 := by rw [c1]; rfl
  have s1 : ps g1 = ps h + 9 := by rw [c1]; rfl
  have a1 : IA g1 10 9 (k + 12) := by rw [c1]; exact ⟨by omega, by rw [pn_nw]; omega, by rw [pK_nw, if_pos (by omega)]⟩
  have z1 : pI g1 (k + 12) = fun _ => 0 := by rw [c1, pI_nw, if_pos (by omega)]
  obtain ⟨h1, e1⟩ : ∃ hh, hh = sR g1 k 30 (some (pn h)) := ⟨_, rfl⟩
  have p1 : pn h1 = k + 13 := by rw [e1]; show pn g1 = _; omega
  have b1 : ps h1 = ps h + 9 := by rw [e1]; show ps g1 = _; omega
  have og1 : IO g1 9 k := f1.1.O ho
  have o1 : IO h1 9 k := by rw [e1]; exact og1
  have n1 : FN2 k (pn h) h h1 := by
    rw [e1]
    exact FN2.R (FN2.g FN2.rf f1 (Nat.le_refl _))
  have ng : FN2 k (pn g1) g1 h1 := by
    rw [e1]
    exact FN2.R FN2.rf
  refine ⟨h1, ?_, ⟨ng.ia a1, by rw [(ng.2 (k + 12) (by omega) (by omega)).1]; exact z1⟩, o1, n1, fun j hj => by rw [e1, pR_sR_s, if_neg hj, (f1.2.2 k (by omega)).2.2], by rw [e1, pR_sR_s, if_pos rfl, hk], by rw [e1]; show pI g1 k = _; rw [(f1.2.2 k (by omega)).1], p1, b1⟩
  intro N S Q hN hS hQ
  refine z_aload_n dX9_init_116 rfl rfl ?_
  refine z_bipush (v := 9) dX9_init_117 (by decide) ?_
  refine z_newI (m0 := 9) dX9_init_119 Karr_int (by decide) rfl (by omega) (by omega) (by omega) ?_
  rw [← c1]
  refine y_putR FX9_56 dX9_init_121 (by first | exact Or.inl rfl | exact Or.inr ⟨rfl, rfl⟩) rfl og1 ?_
  rw [← e1]
  exact hQ

