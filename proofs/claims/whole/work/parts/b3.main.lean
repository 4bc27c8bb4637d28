/-! constructors: the class (wip/whole/genb3.py) -/
theorem FN2.tr {k b c : Nat} {h h1 h2 : Hp} (f : FN2 k b h h1) (g : FN2 k c h1 h2) (hb : b ≤ c) : FN2 k b h h2 := ⟨f.1.tr g.1, fun a a1 a2 => ⟨((g.2 a (by omega) a2).1).trans (f.2 a a1 a2).1, ((g.2 a (by omega) a2).2.1).trans (f.2 a a1 a2).2.1, ((g.2 a (by omega) a2).2.2).trans (f.2 a a1 a2).2.2⟩⟩
theorem nc0v : nC 0 = 5 := by decide +kernel
theorem nc1v : nC 1 = 11 := by decide +kernel
theorem nc2v : nC 2 = 8 := by decide +kernel
theorem nc3v : nC 3 = 2 := by decide +kernel
theorem FN2.mk {k bd b : Nat} {h h1 : Hp} (f : FN2 k bd h h1) (s : MkS h b) (hb : b + 227 < bd) (hk : k < b ∨ b + 227 < k) : MkS h1 b := by
  obtain ⟨s1, ⟨s2, s3⟩, ⟨s4, s5⟩, s6, ⟨s7, s8⟩, ⟨s9, s10⟩, ⟨s11, s12⟩, ⟨s13, s14⟩, ⟨s15, s16⟩⟩ := s
  have e := (f.2 b (by omega) (by omega)).2.2
  have e8 := (f.2 (b + 8) (by omega) (by omega)).2.2
  exact ⟨f.1.O s1, ⟨by rw [e]; exact s2, f.wo s3 (by omega) (by omega)⟩, ⟨by rw [e]; exact s4, f.1.A s5⟩, fun i hi => ⟨by rw [e8]; exact (s6 i hi).1, f.wo (s6 i hi).2 (by omega) (by omega)⟩, ⟨by rw [e]; exact s7, f.rw s8 (by omega) (by omega)⟩, ⟨by rw [e]; exact s9, f.rw s10 (by omega) (by omega)⟩, ⟨by rw [e]; exact s11, f.rw s12 (by omega) (by omega)⟩, ⟨by rw [e]; exact s13, f.rw s14 (by omega) (by omega)⟩, ⟨by rw [e]; exact s15, f.1.A s16⟩⟩
theorem FN2.mv {k bd b : Nat} {h h1 : Hp} (f : FN2 k bd h h1) (s : ∀ tx, MV h b a00 tx) (hb : b + 227 < bd) (hk : k < b ∨ b + 227 < k) : ∀ tx, MV h1 b a00 tx := by
  intro tx
  obtain ⟨v1, ⟨e, e1, e2, e3⟩, v3, v4, v5, v6, v7, v8, v9, v10, v11⟩ := s tx
  have ei : ∀ a, b ≤ a → a ≤ b + 227 → pI h1 a = pI h a := fun a a1 a2 => (f.2 a (by omega) (by omega)).1
  exact ⟨f.wv v1 (by omega) (by omega), ⟨e, e1, by rw [ei b (by omega) (by omega)]; exact e2, fun t ht => absurd ht (by show ¬ t < 0; omega)⟩, by rw [ei b (by omega) (by omega)]; exact v3, fun i hi => by
    obtain ⟨W, w⟩ := v4 i hi
    exact ⟨W, f.wv w (by omega) (by omega)⟩, v5.fr (ei _ (by omega) (by omega)) (ei _ (by omega) (by omega)), v6.fr (ei _ (by omega) (by omega)) (ei _ (by omega) (by omega)), v7.fr (ei _ (by omega) (by omega)) (ei _ (by omega) (by omega)), v8.fr (ei _ (by omega) (by omega)) (ei _ (by omega) (by omega)), by rw [ei b (by omega) (by omega)]; exact v9, by rw [ei b (by omega) (by omega)]; exact v10, fun t ht => absurd ht (by show ¬ t < 0; omega)⟩

set_option maxHeartbeats 2000000 in
theorem c_mainS1 {h : Hp} {k d : Nat} (ho : IO h 8 k) (hk : pn h = k + 1) (hd : 6 ≤ d) : ∃ h1, (∀ N S Q, pn h1 ≤ N → ps h1 ≤ S → T d N S mX8_init 15 (lap mX8_init [.ref k]) [] h1 Q → T d N S mX8_init 4 (lap mX8_init [.ref k]) [] h Q) ∧ (MkS h1 (k + 1) ∧ ∀ tx, MV h1 (k + 1) a00 tx) ∧ IO h1 8 k ∧ FN2 k (pn h) h h1 ∧ (∀ j, j ≠ 0 → pR h1 k j = pR h k j) ∧ pR h1 k 0 = some (k + 1) ∧ pI h1 k = pI h k ∧ pn h1 = k + 229 ∧ ps h1 = ps h + 5256 := by
  have k8 := ho.1
  obtain ⟨g01, c1⟩ : ∃ g, g = nw h 1 (nC 1) := ⟨_, rfl⟩
  have fa1 : FG (pn h) h g01 := by rw [c1]; exact fg_nw
  have pa1 : pn g01 = k + 1 + 1 := by rw [c1, pn_nw]; omega
  have ba1 : ps g01 = ps h + 11 := by rw [c1]; show ps h + nC 1 = _; rw [nc1v]
  have oa1 : IO g01 1 (k + 1) := by rw [c1]; exact ⟨by omega, by rw [pn_nw]; omega, by rw [pK_nw, if_pos (by omega)]⟩
  have za1 : pI g01 (k + 1) = fun _ => 0 := by rw [c1, pI_nw, if_pos (by omega)]
  obtain ⟨g1, s1, mk1, mv1, fb1, q1, m1⟩ := c_marketI (d := 5) oa1 pa1 za1 (Nat.le_refl _)
  have f1 : FG (pn h) h g1 := fa1.tr (fb1.le (by omega))
  have pe1 : pn h = k + 1 := by omega
  obtain ⟨h1, e1⟩ : ∃ hh, hh = sR g1 k 0 (some (k + 1)) := ⟨_, rfl⟩
  have p1 : pn h1 = k + 229 := by rw [e1]; show pn g1 = _; omega
  have b1 : ps h1 = ps h + 5256 := by rw [e1]; show ps g1 = _; omega
  have og1 : IO g1 8 k := f1.1.O ho
  have o1 : IO h1 8 k := by rw [e1]; exact og1
  have n1 : FN2 k (pn h) h h1 := by
    rw [e1]
    exact FN2.R (FN2.g FN2.rf f1 (Nat.le_refl _))
  have ng : FN2 k (pn g1) g1 h1 := by
    rw [e1]
    exact FN2.R FN2.rf
  refine ⟨h1, ?_, ⟨ng.mk mk1 (by omega) (by omega), ng.mv mv1 (by omega) (by omega)⟩, o1, n1, fun j hj => by rw [e1, pR_sR_s, if_neg hj, (f1.2.2 k (by omega)).2.2], by rw [e1, pR_sR_s, if_pos rfl], by rw [e1]; show pI g1 k = _; rw [(f1.2.2 k (by omega)).1], p1, b1⟩
  intro N S Q hN hS hQ
  refine z_aload_n dX8_init_4 rfl rfl ?_
  refine z_new NX8_7 dX8_init_5 (by omega) (by rw [nc1v]; omega) ?_
  rw [← c1]
  refine z_dup dX8_init_8 rfl ?_
  rw [pe1]
  refine y_callI (as := []) CX1_init LX8_9 IX1_init rfl rfl dX8_init_9 rfl (Nat.le_of_ble_eq_true rfl) (Nat.le_of_ble_eq_true rfl) (by omega) s1 ⟨fb1.1.1, fb1.2.1, by omega, by omega⟩ ?_
  refine y_putR FX8_10 dX8_init_12 (by first | exact Or.inl rfl | exact Or.inr ⟨rfl, rfl⟩) rfl og1 ?_
  rw [← e1]
  exact hQ

set_option maxHeartbeats 2000000 in
theorem c_mainS2 {h : Hp} {k d : Nat} (ho : IO h 8 k) (hk : pn h = k + 229) (hd : 6 ≤ d) : ∃ h1, (∀ N S Q, pn h1 ≤ N → ps h1 ≤ S → T d N S mX8_init 26 (lap mX8_init [.ref k]) [] h1 Q → T d N S mX8_init 15 (lap mX8_init [.ref k]) [] h Q) ∧ (MkS h1 (k + 229) ∧ ∀ tx, MV h1 (k + 229) a00 tx) ∧ IO h1 8 k ∧ FN2 k (pn h) h h1 ∧ (∀ j, j ≠ 1 → pR h1 k j = pR h k j) ∧ pR h1 k 1 = some (k + 229) ∧ pI h1 k = pI h k ∧ pn h1 = k + 457 ∧ ps h1 = ps h + 5256 := by
  have k8 := ho.1
  obtain ⟨g01, c1⟩ : ∃ g, g = nw h 1 (nC 1) := ⟨_, rfl⟩
  have fa1 : FG (pn h) h g01 := by rw [c1]; exact fg_nw
  have pa1 : pn g01 = k + 229 + 1 := by rw [c1, pn_nw]; omega
  have ba1 : ps g01 = ps h + 11 := by rw [c1]; show ps h + nC 1 = _; rw [nc1v]
  have oa1 : IO g01 1 (k + 229) := by rw [c1]; exact ⟨by omega, by rw [pn_nw]; omega, by rw [pK_nw, if_pos (by omega)]⟩
  have za1 : pI g01 (k + 229) = fun _ => 0 := by rw [c1, pI_nw, if_pos (by omega)]
  obtain ⟨g1, s1, mk1, mv1, fb1, q1, m1⟩ := c_marketI (d := 5) oa1 pa1 za1 (Nat.le_refl _)
  have f1 : FG (pn h) h g1 := fa1.tr (fb1.le (by omega))
  have pe1 : pn h = k + 229 := by omega
  obtain ⟨h1, e1⟩ : ∃ hh, hh = sR g1 k 1 (some (k + 229)) := ⟨_, rfl⟩
  have p1 : pn h1 = k + 457 := by rw [e1]; show pn g1 = _; omega
  have b1 : ps h1 = ps h + 5256 := by rw [e1]; show ps g1 = _; omega
  have og1 : IO g1 8 k := f1.1.O ho
  have o1 : IO h1 8 k := by rw [e1]; exact og1
  have n1 : FN2 k (pn h) h h1 := by
    rw [e1]
    exact FN2.R (FN2.g FN2.rf f1 (Nat.le_refl _))
  have ng : FN2 k (pn g1) g1 h1 := by
    rw [e1]
    exact FN2.R FN2.rf
  refine ⟨h1, ?_, ⟨ng.mk mk1 (by omega) (by omega), ng.mv mv1 (by omega) (by omega)⟩, o1, n1, fun j hj => by rw [e1, pR_sR_s, if_neg hj, (f1.2.2 k (by omega)).2.2], by rw [e1, pR_sR_s, if_pos rfl], by rw [e1]; show pI g1 k = _; rw [(f1.2.2 k (by omega)).1], p1, b1⟩
  intro N S Q hN hS hQ
  refine z_aload_n dX8_init_15 rfl rfl ?_
  refine z_new NX8_7 dX8_init_16 (by omega) (by rw [nc1v]; omega) ?_
  rw [← c1]
  refine z_dup dX8_init_19 rfl ?_
  rw [pe1]
  refine y_callI (as := []) CX1_init LX8_9 IX1_init rfl rfl dX8_init_20 rfl (Nat.le_of_ble_eq_true rfl) (Nat.le_of_ble_eq_true rfl) (by omega) s1 ⟨fb1.1.1, fb1.2.1, by omega, by omega⟩ ?_
  refine y_putR FX8_16 dX8_init_23 (by first | exact Or.inl rfl | exact Or.inr ⟨rfl, rfl⟩) rfl og1 ?_
  rw [← e1]
  exact hQ

set_option maxHeartbeats 2000000 in
theorem c_mainS3 {h : Hp} {k d : Nat} (ho : IO h 8 k) (hk : pn h = k + 457) (hd : 6 ≤ d) : ∃ h1, (∀ N S Q, pn h1 ≤ N → ps h1 ≤ S → T d N S mX8_init 37 (lap mX8_init [.ref k]) [] h1 Q → T d N S mX8_init 26 (lap mX8_init [.ref k]) [] h Q) ∧ (WoS h1 (k + 457) ∧ WV h1 (k + 457) W0) ∧ IO h1 8 k ∧ FN2 k (pn h) h h1 ∧ (∀ j, j ≠ 2 → pR h1 k j = pR h k j) ∧ pR h1 k 2 = some (k + 457) ∧ pI h1 k = pI h k ∧ pn h1 = k + 464 ∧ ps h1 = ps h + 165 := by
  have k8 := ho.1
  obtain ⟨g01, c1⟩ : ∃ g, g = nw h 7 (nC 7) := ⟨_, rfl⟩
  have fa1 : FG (pn h) h g01 := by rw [c1]; exact fg_nw
  have pa1 : pn g01 = k + 457 + 1 := by rw [c1, pn_nw]; omega
  have ba1 : ps g01 = ps h + 6 := by rw [c1]; show ps h + nC 7 = _; rw [nc7v]
  have oa1 : IO g01 7 (k + 457) := by rw [c1]; exact ⟨by omega, by rw [pn_nw]; omega, by rw [pK_nw, if_pos (by omega)]⟩
  have za1 : pI g01 (k + 457) = fun _ => 0 := by rw [c1, pI_nw, if_pos (by omega)]
  obtain ⟨g1, s1, w3, v3, fb1, q1, m1⟩ := c_worldI (d := 2) oa1 pa1 za1 (Nat.le_refl _)
  have f1 : FG (pn h) h g1 := fa1.tr (fb1.le (by omega))
  have pe1 : pn h = k + 457 := by omega
  obtain ⟨h1, e1⟩ : ∃ hh, hh = sR g1 k 2 (some (k + 457)) := ⟨_, rfl⟩
  have p1 : pn h1 = k + 464 := by rw [e1]; show pn g1 = _; omega
  have b1 : ps h1 = ps h + 165 := by rw [e1]; show ps g1 = _; omega
  have og1 : IO g1 8 k := f1.1.O ho
  have o1 : IO h1 8 k := by rw [e1]; exact og1
  have n1 : FN2 k (pn h) h h1 := by
    rw [e1]
    exact FN2.R (FN2.g FN2.rf f1 (Nat.le_refl _))
  have ng : FN2 k (pn g1) g1 h1 := by
    rw [e1]
    exact FN2.R FN2.rf
  refine ⟨h1, ?_, ⟨ng.wo w3 (by omega) (by omega), ng.wv v3 (by omega) (by omega)⟩, o1, n1, fun j hj => by rw [e1, pR_sR_s, if_neg hj, (f1.2.2 k (by omega)).2.2], by rw [e1, pR_sR_s, if_pos rfl], by rw [e1]; show pI g1 k = _; rw [(f1.2.2 k (by omega)).1], p1, b1⟩
  intro N S Q hN hS hQ
  refine z_aload_n dX8_init_26 rfl rfl ?_
  refine z_new NX8_19 dX8_init_27 (by omega) (by rw [nc7v]; omega) ?_
  rw [← c1]
  refine z_dup dX8_init_30 rfl ?_
  rw [pe1]
  refine y_callI (as := []) CX7_init LX8_21 IX7_init rfl rfl dX8_init_31 rfl (Nat.le_of_ble_eq_true rfl) (Nat.le_of_ble_eq_true rfl) (by omega) s1 ⟨fb1.1.1, fb1.2.1, by omega, by omega⟩ ?_
  refine y_putR FX8_22 dX8_init_34 (by first | exact Or.inl rfl | exact Or.inr ⟨rfl, rfl⟩) rfl og1 ?_
  rw [← e1]
  exact hQ

set_option maxHeartbeats 2000000 in
theorem c_mainS4 {h : Hp} {k d : Nat} (ho : IO h 8 k) (hk : pn h = k + 464) (hd : 6 ≤ d) : ∃ h1, (∀ N S Q, pn h1 ≤ N → ps h1 ≤ S → T d N S mX8_init 48 (lap mX8_init [.ref k]) [] h1 Q → T d N S mX8_init 37 (lap mX8_init [.ref k]) [] h Q) ∧ (IO h1 2 (k + 464) ∧ pR h1 (k + 464) 0 = some (k + 465) ∧ IO h1 6 (k + 465) ∧ (pR h1 (k + 465) 0 = some (k + 466) ∧ IA h1 10 301 (k + 466)) ∧ (pR h1 (k + 465) 1 = some (k + 467) ∧ IA h1 10 301 (k + 467)) ∧ (pR h1 (k + 465) 2 = some (k + 468) ∧ IA h1 10 301 (k + 468)) ∧ (pR h1 (k + 464) 1 = some (k + 469) ∧ IA h1 10 300 (k + 469))) ∧ IO h1 8 k ∧ FN2 k (pn h) h h1 ∧ (∀ j, j ≠ 3 → pR h1 k j = pR h k j) ∧ pR h1 k 3 = some (k + 464) ∧ pI h1 k = pI h k ∧ pn h1 = k + 473 ∧ ps h1 = ps h + 1367 := by
  have k8 := ho.1
  obtain ⟨g01, c1⟩ : ∃ g, g = nw h 2 (nC 2) := ⟨_, rfl⟩
  have fa1 : FG (pn h) h g01 := by rw [c1]; exact fg_nw
  have pa1 : pn g01 = k + 464 + 1 := by rw [c1, pn_nw]; omega
  have ba1 : ps g01 = ps h + 8 := by rw [c1]; show ps h + nC 2 = _; rw [nc2v]
  have oa1 : IO g01 2 (k + 464) := by rw [c1]; exact ⟨by omega, by rw [pn_nw]; omega, by rw [pK_nw, if_pos (by omega)]⟩
  have za1 : pI g01 (k + 464) = fun _ => 0 := by rw [c1, pI_nw, if_pos (by omega)]
  obtain ⟨g1, s1, t4, fb1, q1, m1⟩ := c_readI (d := 3) oa1 pa1 (Nat.le_refl _)
  have f1 : FG (pn h) h g1 := fa1.tr (fb1.le (by omega))
  have pe1 : pn h = k + 464 := by omega
  obtain ⟨h1, e1⟩ : ∃ hh, hh = sR g1 k 3 (some (k + 464)) := ⟨_, rfl⟩
  have p1 : pn h1 = k + 473 := by rw [e1]; show pn g1 = _; omega
  have b1 : ps h1 = ps h + 1367 := by rw [e1]; show ps g1 = _; omega
  have og1 : IO g1 8 k := f1.1.O ho
  have o1 : IO h1 8 k := by rw [e1]; exact og1
  have n1 : FN2 k (pn h) h h1 := by
    rw [e1]
    exact FN2.R (FN2.g FN2.rf f1 (Nat.le_refl _))
  have ng : FN2 k (pn g1) g1 h1 := by
    rw [e1]
    exact FN2.R FN2.rf
  refine ⟨h1, ?_, ⟨ng.1.O t4.1, by rw [(ng.2 (k + 464) (by omega) (by omega)).2.2]; exact t4.2.1, ng.1.O t4.2.2.1, ⟨by rw [(ng.2 (k + 465) (by omega) (by omega)).2.2]; exact t4.2.2.2.1.1, ng.1.A t4.2.2.2.1.2⟩, ⟨by rw [(ng.2 (k + 465) (by omega) (by omega)).2.2]; exact t4.2.2.2.2.1.1, ng.1.A t4.2.2.2.2.1.2⟩, ⟨by rw [(ng.2 (k + 465) (by omega) (by omega)).2.2]; exact t4.2.2.2.2.2.1.1, ng.1.A t4.2.2.2.2.2.1.2⟩, ⟨by rw [(ng.2 (k + 464) (by omega) (by omega)).2.2]; exact t4.2.2.2.2.2.2.1, ng.1.A t4.2.2.2.2.2.2.2⟩⟩, o1, n1, fun j hj => by rw [e1, pR_sR_s, if_neg hj, (f1.2.2 k (by omega)).2.2], by rw [e1, pR_sR_s, if_pos rfl], by rw [e1]; show pI g1 k = _; rw [(f1.2.2 k (by omega)).1], p1, b1⟩
  intro N S Q hN hS hQ
  refine z_aload_n dX8_init_37 rfl rfl ?_
  refine z_new NX8_26 dX8_init_38 (by omega) (by rw [nc2v]; omega) ?_
  rw [← c1]
  refine z_dup dX8_init_41 rfl ?_
  rw [pe1]
  refine y_callI (as := []) CX2_init LX8_28 IX2_init rfl rfl dX8_init_42 rfl (Nat.le_of_ble_eq_true rfl) (Nat.le_of_ble_eq_true rfl) (by omega) s1 ⟨fb1.1.1, fb1.2.1, by omega, by omega⟩ ?_
  refine y_putR FX8_29 dX8_init_45 (by first | exact Or.inl rfl | exact Or.inr ⟨rfl, rfl⟩) rfl og1 ?_
  rw [← e1]
  exact hQ

set_option maxHeartbeats 2000000 in
theorem c_mainS5 {h : Hp} {k d : Nat} (ho : IO h 8 k) (hk : pn h = k + 473) (hd : 6 ≤ d) : ∃ h1, (∀ N S Q, pn h1 ≤ N → ps h1 ≤ S → T d N S mX8_init 59 (lap mX8_init [.ref k]) [] h1 Q → T d N S mX8_init 48 (lap mX8_init [.ref k]) [] h Q) ∧ (IO h1 3 (k + 473) ∧ pR h1 (k + 473) 0 = some (k + 474) ∧ IA h1 10 36 (k + 474) ∧ pR h1 (k + 473) 1 = some (k + 475) ∧ IA h1 10 303 (k + 475)) ∧ IO h1 8 k ∧ FN2 k (pn h) h h1 ∧ (∀ j, j ≠ 4 → pR h1 k j = pR h k j) ∧ pR h1 k 4 = some (k + 473) ∧ pI h1 k = pI h k ∧ pn h1 = k + 476 ∧ ps h1 = ps h + 341 := by
  have k8 := ho.1
  obtain ⟨g01, c1⟩ : ∃ g, g = nw h 3 (nC 3) := ⟨_, rfl⟩
  have fa1 : FG (pn h) h g01 := by rw [c1]; exact fg_nw
  have pa1 : pn g01 = k + 473 + 1 := by rw [c1, pn_nw]; omega
  have ba1 : ps g01 = ps h + 2 := by rw [c1]; show ps h + nC 3 = _; rw [nc3v]
  have oa1 : IO g01 3 (k + 473) := by rw [c1]; exact ⟨by omega, by rw [pn_nw]; omega, by rw [pK_nw, if_pos (by omega)]⟩
  have za1 : pI g01 (k + 473) = fun _ => 0 := by rw [c1, pI_nw, if_pos (by omega)]
  obtain ⟨g1, s1, t5, fb1, q1, m1⟩ := c_reckI (d := 1) oa1 pa1 (Nat.le_refl _)
  have f1 : FG (pn h) h g1 := fa1.tr (fb1.le (by omega))
  have pe1 : pn h = k + 473 := by omega
  obtain ⟨h1, e1⟩ : ∃ hh, hh = sR g1 k 4 (some (k + 473)) := ⟨_, rfl⟩
  have p1 : pn h1 = k + 476 := by rw [e1]; show pn g1 = _; omega
  have b1 : ps h1 = ps h + 341 := by rw [e1]; show ps g1 = _; omega
  have og1 : IO g1 8 k := f1.1.O ho
  have o1 : IO h1 8 k := by rw [e1]; exact og1
  have n1 : FN2 k (pn h) h h1 := by
    rw [e1]
    exact FN2.R (FN2.g FN2.rf f1 (Nat.le_refl _))
  have ng : FN2 k (pn g1) g1 h1 := by
    rw [e1]
    exact FN2.R FN2.rf
  refine ⟨h1, ?_, ⟨ng.1.O t5.1, by rw [(ng.2 (k + 473) (by omega) (by omega)).2.2]; exact t5.2.1, ng.1.A t5.2.2.2.1, by rw [(ng.2 (k + 473) (by omega) (by omega)).2.2]; exact t5.2.2.1, ng.1.A t5.2.2.2.2⟩, o1, n1, fun j hj => by rw [e1, pR_sR_s, if_neg hj, (f1.2.2 k (by omega)).2.2], by rw [e1, pR_sR_s, if_pos rfl], by rw [e1]; show pI g1 k = _; rw [(f1.2.2 k (by omega)).1], p1, b1⟩
  intro N S Q hN hS hQ
  refine z_aload_n dX8_init_48 rfl rfl ?_
  refine z_new NX8_33 dX8_init_49 (by omega) (by rw [nc3v]; omega) ?_
  rw [← c1]
  refine z_dup dX8_init_52 rfl ?_
  rw [pe1]
  refine y_callI (as := []) CX3_init LX8_35 IX3_init rfl rfl dX8_init_53 rfl (Nat.le_of_ble_eq_true rfl) (Nat.le_of_ble_eq_true rfl) (by omega) s1 ⟨fb1.1.1, fb1.2.1, by omega, by omega⟩ ?_
  refine y_putR FX8_36 dX8_init_56 (by first | exact Or.inl rfl | exact Or.inr ⟨rfl, rfl⟩) rfl og1 ?_
  rw [← e1]
  exact hQ

set_option maxHeartbeats 2000000 in
theorem c_mainS6 {h : Hp} {k d : Nat} (ho : IO h 8 k) (hk : pn h = k + 476) (hd : 6 ≤ d) : ∃ h1, (∀ N S Q, pn h1 ≤ N → ps h1 ≤ S → T d N S mX8_init 70 (lap mX8_init [.ref k]) [] h1 Q → T d N S mX8_init 59 (lap mX8_init [.ref k]) [] h Q) ∧ (IO h1 0 (k + 476) ∧ pR h1 (k + 476) 0 = some (k + 477) ∧ IA h1 10 8 (k + 477) ∧ pR h1 (k + 476) 4 = some (k + 478) ∧ IA h1 10 411 (k + 478)) ∧ IO h1 8 k ∧ FN2 k (pn h) h h1 ∧ (∀ j, j ≠ 5 → pR h1 k j = pR h k j) ∧ pR h1 k 5 = some (k + 476) ∧ pI h1 k = pI h k ∧ pn h1 = k + 479 ∧ ps h1 = ps h + 424 := by
  have k8 := ho.1
  obtain ⟨g01, c1⟩ : ∃ g, g = nw h 0 (nC 0) := ⟨_, rfl⟩
  have fa1 : FG (pn h) h g01 := by rw [c1]; exact fg_nw
  have pa1 : pn g01 = k + 476 + 1 := by rw [c1, pn_nw]; omega
  have ba1 : ps g01 = ps h + 5 := by rw [c1]; show ps h + nC 0 = _; rw [nc0v]
  have oa1 : IO g01 0 (k + 476) := by rw [c1]; exact ⟨by omega, by rw [pn_nw]; omega, by rw [pK_nw, if_pos (by omega)]⟩
  have za1 : pI g01 (k + 476) = fun _ => 0 := by rw [c1, pI_nw, if_pos (by omega)]
  obtain ⟨g1, s1, t6, fb1, q1, m1⟩ := c_contI (d := 1) oa1 pa1 (Nat.le_refl _)
  have f1 : FG (pn h) h g1 := fa1.tr (fb1.le (by omega))
  have pe1 : pn h = k + 476 := by omega
  obtain ⟨h1, e1⟩ : ∃ hh, hh = sR g1 k 5 (some (k + 476)) := ⟨_, rfl⟩
  have p1 : pn h1 = k + 479 := by rw [e1]; show pn g1 = _; omega
  have b1 : ps h1 = ps h + 424 := by rw [e1]; show ps g1 = _; omega
  have og1 : IO g1 8 k := f1.1.O ho
  have o1 : IO h1 8 k := by rw [e1]; exact og1
  have n1 : FN2 k (pn h) h h1 := by
    rw [e1]
    exact FN2.R (FN2.g FN2.rf f1 (Nat.le_refl _))
  have ng : FN2 k (pn g1) g1 h1 := by
    rw [e1]
    exact FN2.R FN2.rf
  refine ⟨h1, ?_, ⟨ng.1.O t6.1, by rw [(ng.2 (k + 476) (by omega) (by omega)).2.2]; exact t6.2.1, ng.1.A t6.2.2.2.1, by rw [(ng.2 (k + 476) (by omega) (by omega)).2.2]; exact t6.2.2.1, ng.1.A t6.2.2.2.2⟩, o1, n1, fun j hj => by rw [e1, pR_sR_s, if_neg hj, (f1.2.2 k (by omega)).2.2], by rw [e1, pR_sR_s, if_pos rfl], by rw [e1]; show pI g1 k = _; rw [(f1.2.2 k (by omega)).1], p1, b1⟩
  intro N S Q hN hS hQ
  refine z_aload_n dX8_init_59 rfl rfl ?_
  refine z_new NX8_40 dX8_init_60 (by omega) (by rw [nc0v]; omega) ?_
  rw [← c1]
  refine z_dup dX8_init_63 rfl ?_
  rw [pe1]
  refine y_callI (as := []) CX0_init LX8_42 IX0_init rfl rfl dX8_init_64 rfl (Nat.le_of_ble_eq_true rfl) (Nat.le_of_ble_eq_true rfl) (by omega) s1 ⟨fb1.1.1, fb1.2.1, by omega, by omega⟩ ?_
  refine y_putR FX8_43 dX8_init_67 (by first | exact Or.inl rfl | exact Or.inr ⟨rfl, rfl⟩) rfl og1 ?_
  rw [← e1]
  exact hQ

set_option maxHeartbeats 2000000 in
theorem c_mainS7 {h : Hp} {k d : Nat} (ho : IO h 8 k) (hk : pn h = k + 479) (hd : 6 ≤ d) : ∃ h1, (∀ N S Q, pn h1 ≤ N → ps h1 ≤ S → T d N S mX8_init 79 (lap mX8_init [.ref k]) [] h1 Q → T d N S mX8_init 70 (lap mX8_init [.ref k]) [] h Q) ∧ (IA h1 10 300 (k + 479) ∧ pI h1 (k + 479) = fun _ => 0) ∧ IO h1 8 k ∧ FN2 k (pn h) h h1 ∧ (∀ j, j ≠ 6 → pR h1 k j = pR h k j) ∧ pR h1 k 6 = some (k + 479) ∧ pI h1 k = pI h k ∧ pn h1 = k + 480 ∧ ps h1 = ps h + 300 := by
  have k8 := ho.1
  obtain ⟨g1, c1⟩ : ∃ g, g = nw h 10 300 := ⟨_, rfl⟩
  have f1 : FG (pn h) h g1 := by rw [c1]; exact fg_nw
  have q1 : pn g1 = pn h + 1 := by rw [c1]; rfl
  have s1 : ps g1 = ps h + 300 := by rw [c1]; rfl
  have a1 : IA g1 10 300 (k + 479) := by rw [c1]; exact ⟨by omega, by rw [pn_nw]; omega, by rw [pK_nw, if_pos (by omega)]⟩
  have z1 : pI g1 (k + 479) = fun _ => 0 := by rw [c1, pI_nw, if_pos (by omega)]
  obtain ⟨h1, e1⟩ : ∃ hh, hh = sR g1 k 6 (some (pn h)) := ⟨_, rfl⟩
  have p1 : pn h1 = k + 480 := by rw [e1]; show pn g1 = _; omega
  have b1 : ps h1 = ps h + 300 := by rw [e1]; show ps g1 = _; omega
  have og1 : IO g1 8 k := f1.1.O ho
  have o1 : IO h1 8 k := by rw [e1]; exact og1
  have n1 : FN2 k (pn h) h h1 := by
    rw [e1]
    exact FN2.R (FN2.g FN2.rf f1 (Nat.le_refl _))
  have ng : FN2 k (pn g1) g1 h1 := by
    rw [e1]
    exact FN2.R FN2.rf
  refine ⟨h1, ?_, ⟨ng.ia a1, by rw [(ng.2 (k + 479) (by omega) (by omega)).1]; exact z1⟩, o1, n1, fun j hj => by rw [e1, pR_sR_s, if_neg hj, (f1.2.2 k (by omega)).2.2], by rw [e1, pR_sR_s, if_pos rfl, hk], by rw [e1]; show pI g1 k = _; rw [(f1.2.2 k (by omega)).1], p1, b1⟩
  intro N S Q hN hS hQ
  refine z_aload_n dX8_init_70 rfl rfl ?_
  refine z_sipush (v := 300) dX8_init_71 (by decide) ?_
  refine z_newI (m0 := 300) dX8_init_74 Karr_int (by decide) rfl (by omega) (by omega) (by omega) ?_
  rw [← c1]
  refine y_putR FX8_47 dX8_init_76 (by first | exact Or.inl rfl | exact Or.inr ⟨rfl, rfl⟩) rfl og1 ?_
  rw [← e1]
  exact hQ

/-- the class as it is made -/
def ST8 (h1 : Hp) (k : Nat) : Prop := IO h1 8 k ∧ (pR h1 k 0 = some (k + 1) ∧ pR h1 k 1 = some (k + 229) ∧ pR h1 k 2 = some (k + 457) ∧ pR h1 k 3 = some (k + 464) ∧ pR h1 k 4 = some (k + 473) ∧ pR h1 k 5 = some (k + 476) ∧ pR h1 k 6 = some (k + 479)) ∧ (MkS h1 (k + 1) ∧ ∀ tx, MV h1 (k + 1) a00 tx) ∧ (MkS h1 (k + 229) ∧ ∀ tx, MV h1 (k + 229) a00 tx) ∧ (WoS h1 (k + 457) ∧ WV h1 (k + 457) W0) ∧ (IO h1 2 (k + 464) ∧ pR h1 (k + 464) 0 = some (k + 465) ∧ IO h1 6 (k + 465) ∧ (pR h1 (k + 465) 0 = some (k + 466) ∧ IA h1 10 301 (k + 466)) ∧ (pR h1 (k + 465) 1 = some (k + 467) ∧ IA h1 10 301 (k + 467)) ∧ (pR h1 (k + 465) 2 = some (k + 468) ∧ IA h1 10 301 (k + 468)) ∧ (pR h1 (k + 464) 1 = some (k + 469) ∧ IA h1 10 300 (k + 469))) ∧ (IO h1 3 (k + 473) ∧ pR h1 (k + 473) 0 = some (k + 474) ∧ IA h1 10 36 (k + 474) ∧ pR h1 (k + 473) 1 = some (k + 475) ∧ IA h1 10 303 (k + 475)) ∧ (IO h1 0 (k + 476) ∧ pR h1 (k + 476) 0 = some (k + 477) ∧ IA h1 10 8 (k + 477) ∧ pR h1 (k + 476) 4 = some (k + 478) ∧ IA h1 10 411 (k + 478)) ∧ (IA h1 10 300 (k + 479) ∧ pI h1 (k + 479) = fun _ => 0) ∧ (pI h1 k 7 = 0 ∧ pI h1 k 8 = -1 ∧ pI h1 k 9 = -1)

set_option maxHeartbeats 4000000 in
theorem c_mainI {h : Hp} {k d : Nat} (ho : IO h 8 k) (hk : pn h = k + 1) (hd : 6 ≤ d) : ∃ h1, Sp d mX8_init [.ref k] h none h1 ∧ ST8 h1 k ∧ FG k h h1 ∧ pn h1 = k + 480 ∧ ps h1 = ps h + 13109 := by
  obtain ⟨h1, t1, v1, o1, n1, r1, q1, i1, p1, b1⟩ := c_mainS1 ho hk hd
  obtain ⟨h2, t2, v2, o2, n2, r2, q2, i2, p2, b2⟩ := c_mainS2 o1 p1 hd
  obtain ⟨h3, t3, v3, o3, n3, r3, q3, i3, p3, b3⟩ := c_mainS3 o2 p2 hd
  obtain ⟨h4, t4, v4, o4, n4, r4, q4, i4, p4, b4⟩ := c_mainS4 o3 p3 hd
  obtain ⟨h5, t5, v5, o5, n5, r5, q5, i5, p5, b5⟩ := c_mainS5 o4 p4 hd
  obtain ⟨h6, t6, v6, o6, n6, r6, q6, i6, p6, b6⟩ := c_mainS6 o5 p5 hd
  obtain ⟨h7, t7, v7, o7, n7, r7, q7, i7, p7, b7⟩ := c_mainS7 o6 p6 hd
  have m6 : FN2 k (pn h6) h6 h7 := n7
  have m5 : FN2 k (pn h5) h5 h7 := n6.tr m6 (by omega)
  have m4 : FN2 k (pn h4) h4 h7 := n5.tr m5 (by omega)
  have m3 : FN2 k (pn h3) h3 h7 := n4.tr m4 (by omega)
  have m2 : FN2 k (pn h2) h2 h7 := n3.tr m3 (by omega)
  have m1 : FN2 k (pn h1) h1 h7 := n2.tr m2 (by omega)
  have m0 : FN2 k (pn h) h h7 := n1.tr m1 (by omega)
  have R0 : pR h7 k 0 = some (k + 1) := by rw [r7 _ (by decide), r6 _ (by decide), r5 _ (by decide), r4 _ (by decide), r3 _ (by decide), r2 _ (by decide), q1]
  have R1 : pR h7 k 1 = some (k + 229) := by rw [r7 _ (by decide), r6 _ (by decide), r5 _ (by decide), r4 _ (by decide), r3 _ (by decide), q2]
  have R2 : pR h7 k 2 = some (k + 457) := by rw [r7 _ (by decide), r6 _ (by decide), r5 _ (by decide), r4 _ (by decide), q3]
  have R3 : pR h7 k 3 = some (k + 464) := by rw [r7 _ (by decide), r6 _ (by decide), r5 _ (by decide), q4]
  have R4 : pR h7 k 4 = some (k + 473) := by rw [r7 _ (by decide), r6 _ (by decide), q5]
  have R5 : pR h7 k 5 = some (k + 476) := by rw [r7 _ (by decide), q6]
  have R6 : pR h7 k 6 = some (k + 479) := by rw [q7]
  obtain ⟨h8, e8⟩ : ∃ hh, hh = sI h7 k 7 0 := ⟨_, rfl⟩
  obtain ⟨h9, e9⟩ : ∃ hh, hh = sI h8 k 8 (-1) := ⟨_, rfl⟩
  obtain ⟨h10, e10⟩ : ∃ hh, hh = sI h9 k 9 (-1) := ⟨_, rfl⟩
  have o8 : IO h8 8 k := by rw [e8]; exact o7
  have o9 : IO h9 8 k := by rw [e9]; exact o8
  have o10 : IO h10 8 k := by rw [e10]; exact o9
  have w : ∀ b, FN2 k b h7 h10 := fun b => by
    rw [e10]
    refine FN2.I ?_
    rw [e9]
    refine FN2.I ?_
    rw [e8]
    exact FN2.I FN2.rf
  have p10 : pn h10 = k + 480 := by rw [e10, e9, e8]; exact p7
  have b10 : ps h10 = ps h + 13109 := by rw [e10, e9, e8]; show ps h7 = _; omega
  have rr : pR h10 k = pR h7 k := by rw [e10, e9, e8]; rfl
  have l1 := m1.tr (w _) (Nat.le_refl _)
  have l2 := m2.tr (w _) (Nat.le_refl _)
  have l3 := m3.tr (w _) (Nat.le_refl _)
  have l4 := m4.tr (w _) (Nat.le_refl _)
  have l5 := m5.tr (w _) (Nat.le_refl _)
  have l6 := m6.tr (w _) (Nat.le_refl _)
  have l7 := w (pn h7)
  have l0 := m0.tr (w _) (Nat.le_refl _)
  refine ⟨h10, ?_, ⟨o10, ⟨by rw [rr]; exact R0, by rw [rr]; exact R1, by rw [rr]; exact R2, by rw [rr]; exact R3, by rw [rr]; exact R4, by rw [rr]; exact R5, by rw [rr]; exact R6⟩, ⟨l1.mk v1.1 (by omega) (by omega), l1.mv v1.2 (by omega) (by omega)⟩, ⟨l2.mk v2.1 (by omega) (by omega), l2.mv v2.2 (by omega) (by omega)⟩, ⟨l3.wo v3.1 (by omega) (by omega), l3.wv v3.2 (by omega) (by omega)⟩, ⟨l4.1.O v4.1, by rw [(l4.2 (k + 464) (by omega) (by omega)).2.2]; exact v4.2.1, l4.1.O v4.2.2.1, ⟨by rw [(l4.2 (k + 465) (by omega) (by omega)).2.2]; exact v4.2.2.2.1.1, l4.1.A v4.2.2.2.1.2⟩, ⟨by rw [(l4.2 (k + 465) (by omega) (by omega)).2.2]; exact v4.2.2.2.2.1.1, l4.1.A v4.2.2.2.2.1.2⟩, ⟨by rw [(l4.2 (k + 465) (by omega) (by omega)).2.2]; exact v4.2.2.2.2.2.1.1, l4.1.A v4.2.2.2.2.2.1.2⟩, ⟨by rw [(l4.2 (k + 464) (by omega) (by omega)).2.2]; exact v4.2.2.2.2.2.2.1, l4.1.A v4.2.2.2.2.2.2.2⟩⟩, ⟨l5.1.O v5.1, by rw [(l5.2 (k + 473) (by omega) (by omega)).2.2]; exact v5.2.1, l5.1.A v5.2.2.1, by rw [(l5.2 (k + 473) (by omega) (by omega)).2.2]; exact v5.2.2.2.1, l5.1.A v5.2.2.2.2⟩, ⟨l6.1.O v6.1, by rw [(l6.2 (k + 476) (by omega) (by omega)).2.2]; exact v6.2.1, l6.1.A v6.2.2.1, by rw [(l6.2 (k + 476) (by omega) (by omega)).2.2]; exact v6.2.2.2.1, l6.1.A v6.2.2.2.2⟩, ⟨l7.ia v7.1, by rw [(l7.2 (k + 479) (by omega) (by omega)).1]; exact v7.2⟩, ⟨by rw [e10, pI_sI, if_pos rfl, if_neg (by decide), e9, pI_sI, if_pos rfl, if_neg (by decide), e8, pI_sI, if_pos rfl, if_pos rfl], by rw [e10, pI_sI, if_pos rfl, if_neg (by decide), e9, pI_sI, if_pos rfl, if_pos rfl], by rw [e10, pI_sI, if_pos rfl, if_pos rfl]⟩⟩, ⟨l0.1, by omega, fun a ha => l0.2 a (by omega) (by omega)⟩, p10, b10⟩
  intro N S Q hN hS hQ
  refine z_aload_n dX8_init_0 rfl rfl ?_
  refine z_objInit Kobj_X8_1 Kobj_instanceMethod Kobj_code dX8_init_1 (by omega) (Nat.le_of_ble_eq_true rfl) ?_
  refine t1 N S Q (by omega) (by omega) ?_
  refine t2 N S Q (by omega) (by omega) ?_
  refine t3 N S Q (by omega) (by omega) ?_
  refine t4 N S Q (by omega) (by omega) ?_
  refine t5 N S Q (by omega) (by omega) ?_
  refine t6 N S Q (by omega) (by omega) ?_
  refine t7 N S Q (by omega) (by omega) ?_
  refine z_aload_n dX8_init_79 rfl rfl ?_
  refine z_iconst (v := 0) dX8_init_80 (by decide) ?_
  refine y_putI FX8_51 dX8_init_81 (by first | exact Or.inl rfl | exact Or.inr ⟨rfl, rfl⟩) (Or.inl rfl) o7 ?_
  rw [← e8]
  refine z_aload_n dX8_init_84 rfl rfl ?_
  refine z_iconst (v := -1) dX8_init_85 (by decide) ?_
  refine y_putI FX8_55 dX8_init_86 (by first | exact Or.inl rfl | exact Or.inr ⟨rfl, rfl⟩) (Or.inl rfl) o8 ?_
  rw [← e9]
  refine z_aload_n dX8_init_89 rfl rfl ?_
  refine z_iconst (v := -1) dX8_init_90 (by decide) ?_
  refine y_putI FX8_58 dX8_init_91 (by first | exact Or.inl rfl | exact Or.inr ⟨rfl, rfl⟩) (Or.inl rfl) o9 ?_
  rw [← e10]
  refine z_vret dX8_init_94 ?_
  exact hQ

