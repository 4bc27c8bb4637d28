/-! constructors: the market (wip/whole/genb1.py) -/
theorem nc7v : nC 7 = 6 := by decide +kernel
def a00 : Fl := fun i => if i = 9 then 191 else 0
theorem snap_00 : snap a00 = W0 := by
  funext i
  unfold snap a00 W0
  by_cases h2 : i = 2
  · subst h2; rfl
  · rw [if_neg h2]
    split
    · rfl
    · split
      · rw [if_neg (by omega)]
      · split
        · rw [if_neg (by omega)]
        · split
          · rw [if_neg (by omega)]
          · rw [if_neg (by omega)]

/-- a world is made and laid among the past ones -/
theorem l_past {k d : Nat} (k8 : 8 ≤ k) (hd : 4 ≤ d) : ∀ r i (h : Hp), i + r = 30 → pn h = k + 18 + 7 * i → IO h 1 k → pR h k 1 = some (k + 8) → IA h 14 30 (k + 8) → (∀ j, j < i → pR h (k + 8) j = some (k + 18 + 7 * j) ∧ WoS h (k + 18 + 7 * j) ∧ WV h (k + 18 + 7 * j) W0) → ∃ h1, pn h1 = k + 228 ∧ ps h1 = ps h + 165 * r ∧ FN2 (k + 8) (k + 18) h h1 ∧ (∀ j, j < 30 → pR h1 (k + 8) j = some (k + 18 + 7 * j) ∧ WoS h1 (k + 18 + 7 * j) ∧ WV h1 (k + 18 + 7 * j) W0) ∧ ps h ≤ ps h1 ∧ ∀ N S Q, pn h1 ≤ N → ps h1 ≤ S → Q none h1 → T d N S mX1_init 95 [some (.ref k), some (.int (nI i))] [] h Q := by
  intro r
  induction r with
  | zero =>
    intro i h hi hp ho hR hA al
    have i30 : i = 30 := by omega
    subst i30
    refine ⟨h, by omega, by omega, FN2.rf, fun j hj => al j (by omega), Nat.le_refl _, fun N S Q hN hS hQ => ?_⟩
    refine z_iload_n dX1_init_95 rfl rfl ?_
    refine z_aload_n dX1_init_96 rfl rfl ?_
    refine y_getR FX1_18 dX1_init_97 rfl ho hR ?_
    refine y_alen dX1_init_100 hA ⟨(Nat.le_of_ble_eq_true rfl), (Nat.le_of_ble_eq_true rfl)⟩ rfl ?_
    refine z_icmp_ge dX1_init_101 rfl (fun _ => ?_) (fun c => absurd (by decide) c)
    refine z_vret dX1_init_123 ?_
    exact hQ
  | succ r ih =>
    intro i h hi hp ho hR hA al
    obtain ⟨g1, c1⟩ : ∃ g, g = nw h 7 (nC 7) := ⟨_, rfl⟩
    have f1 : FG (pn h) h g1 := by rw [c1]; exact fg_nw
    have p1 : pn g1 = pn h + 1 := by rw [c1]; rfl
    have b1 : ps g1 = ps h + 6 := by rw [c1]; show ps h + nC 7 = _; rw [nc7v]
    have o1 : IO g1 7 (pn h) := by rw [c1]; exact ⟨by omega, Nat.lt_succ_self _, by rw [pK_nw, if_pos rfl]⟩
    have z1 : pI g1 (pn h) = fun _ => 0 := by rw [c1, pI_nw, if_pos rfl]
    obtain ⟨g2, s2, w2, v2, f2, p2, b2⟩ := c_worldI (d := 2) o1 p1 z1 (Nat.le_refl _)
    obtain ⟨h3, e3⟩ : ∃ hh, hh = sR g2 (k + 8) i (some (pn h)) := ⟨_, rfl⟩
    have f12 : FG (pn h) h g2 := f1.tr f2
    have n3 : FN2 (k + 8) (pn h) h h3 := by rw [e3]; exact FN2.R (FN2.g FN2.rf f12 (Nat.le_refl _))
    have ex3 : EX g2 h3 := by rw [e3]; exact EX.rf
    have p3 : pn h3 = k + 18 + 7 * (i + 1) := by rw [e3]; show pn g2 = _; omega
    have b3 : ps h3 = ps h + 165 := by rw [e3]; show ps g2 = _; omega
    have n23 : FN2 (k + 8) (pn g2) g2 h3 := by rw [e3]; exact FN2.R FN2.rf
    obtain ⟨h4, p4, b4, n4, al4, le4, t4⟩ := ih (i + 1) h3 (by omega) p3 (n3.1.O ho) (by rw [(n3.2 k (by omega) (by omega)).2.2]; exact hR) (n3.1.A hA) (fun j hj => by
      by_cases e : j = i
      · subst e
        refine ⟨by rw [e3, pR_sR_s, if_pos rfl, hp], ?_, ?_⟩
        · rw [← hp]; exact n23.wo w2 (by omega) (by omega)
        · rw [← hp]; exact n23.wv v2 (by omega) (by omega)
      · obtain ⟨a1, a2, a3⟩ := al j (by omega)
        refine ⟨?_, n3.wo a2 (by omega) (by omega), n3.wv a3 (by omega) (by omega)⟩
        rw [e3, pR_sR_s, if_neg e, (f12.2.2 (k + 8) (by omega)).2.2]; exact a1)
    refine ⟨h4, p4, by omega, ⟨n3.1.tr n4.1, fun a a1 a2 => ⟨((n4.2 a a1 a2).1).trans (n3.2 a (by omega) a2).1, ((n4.2 a a1 a2).2.1).trans (n3.2 a (by omega) a2).2.1, ((n4.2 a a1 a2).2.2).trans (n3.2 a (by omega) a2).2.2⟩⟩, al4, by omega, fun N S Q hN hS hQ => ?_⟩
    have hN3 : pn h3 ≤ N := Nat.le_trans n4.1.1 hN
    have hS3 : ps h3 ≤ S := Nat.le_trans le4 hS
    have hN2 : pn g2 ≤ N := by omega
    have hS2 : ps g2 ≤ S := by omega
    refine z_iload_n dX1_init_95 rfl rfl ?_
    refine z_aload_n dX1_init_96 rfl rfl ?_
    refine y_getR FX1_18 dX1_init_97 rfl ho hR ?_
    refine y_alen dX1_init_100 hA ⟨(Nat.le_of_ble_eq_true rfl), (Nat.le_of_ble_eq_true rfl)⟩ rfl ?_
    refine z_icmp_ge dX1_init_101 rfl (fun c => absurd ((nI_leI (a := 30) (by omega) (by omega)).mp c) (by omega)) (fun _ => ?_)
    refine z_aload_n dX1_init_104 rfl rfl ?_
    refine y_getR FX1_18 dX1_init_105 rfl ho hR ?_
    refine z_iload_n dX1_init_108 rfl rfl ?_
    refine z_new NX1_9 dX1_init_109 (by omega) (by rw [nc7v]; omega) ?_
    rw [← c1]
    refine z_dup dX1_init_112 rfl ?_
    refine y_callI (as := []) CX7_init LX1_11 IX7_init rfl rfl dX1_init_113 rfl (Nat.le_of_ble_eq_true rfl) (Nat.le_of_ble_eq_true rfl) (by omega) s2 ⟨f2.1.1, f2.2.1, hN2, hS2⟩ ?_
    refine z_aast dX1_init_116 (by omega) (by have := f12.1.1; omega) (Or.inr ⟨rfl, w2.1.2.2⟩) (by omega) (by omega) (f12.1.A hA).2.2 ((vp_in_lt (by omega)).mp ⟨nI_pos' (by omega), (nI_ltI (b := 30) (by omega) (by omega)).mpr (by omega)⟩) ?_
    rw [nI_clamp (by omega), ← e3]
    refine z_iinc dX1_init_117 rfl (nI_1 i) (Nat.le_of_ble_eq_true rfl) ?_
    refine z_goto dX1_init_120 rfl ?_
    exact t4 N S Q hN hS hQ

set_option maxHeartbeats 6000000 in
theorem c_marketI {h : Hp} {k d : Nat} (ho : IO h 1 k) (hk : pn h = k + 1) (z : pI h k = fun _ => 0) (hd : 5 ≤ d) : ∃ h1, Sp d mX1_init [.ref k] h none h1 ∧ MkS h1 k ∧ (∀ tx, MV h1 k a00 tx) ∧ FG k h h1 ∧ pn h1 = k + 228 ∧ ps h1 = ps h + 5245 := by
  have k8 := ho.1
  obtain ⟨g0, c0⟩ : ∃ g, g = nw h 7 (nC 7) := ⟨_, rfl⟩
  have fa : FG (pn h) h g0 := by rw [c0]; exact fg_nw
  have pa : pn g0 = k + 1 + 1 := by rw [c0]; show pn h + 1 = _; omega
  have ba : ps g0 = ps h + 6 := by rw [c0]; show ps h + nC 7 = _; rw [nc7v]
  have oa : IO g0 7 (k + 1) := by rw [c0, ← hk]; exact ⟨by omega, Nat.lt_succ_self _, by rw [pK_nw, if_pos rfl]⟩
  have za : pI g0 (k + 1) = fun _ => 0 := by rw [c0, ← hk, pI_nw, if_pos rfl]
  obtain ⟨g1, s1, w1, v1, f1', q1, m1⟩ := c_worldI (d := 2) oa pa za (Nat.le_refl _)
  have f1 : FG (pn h) h g1 := fa.tr (by rw [hk]; exact f1')
  have og1 : IO g1 1 k := f1.1.O ho
  obtain ⟨h1, e1⟩ : ∃ hh, hh = sR g1 k 0 (some (k + 1)) := ⟨_, rfl⟩
  have p1 : pn h1 = k + 8 := by rw [e1]; show pn g1 = _; omega
  have b1 : ps h1 = ps h + 165 := by rw [e1]; show ps g1 = _; omega
  have o1 : IO h1 1 k := by rw [e1]; exact og1
  obtain ⟨g2, c2⟩ : ∃ g, g = nw h1 14 30 := ⟨_, rfl⟩
  have f2 : FG (pn h1) h1 g2 := by rw [c2]; exact fg_nw
  have q2 : pn g2 = pn h1 + 1 := by rw [c2]; rfl
  have s2 : ps g2 = ps h1 + 30 := by rw [c2]; rfl
  have a2 : IA g2 14 30 (pn h1) := by rw [c2]; exact ⟨by omega, Nat.lt_succ_self _, by rw [pK_nw, if_pos rfl]⟩
  obtain ⟨h2, e2⟩ : ∃ hh, hh = sR g2 k 1 (some (pn h1)) := ⟨_, rfl⟩
  have p2 : pn h2 = k + 9 := by rw [e2]; show pn g2 = _; omega
  have b2 : ps h2 = ps h + 195 := by rw [e2]; show ps g2 = _; omega
  have og2 : IO g2 1 k := f2.1.O o1
  have o2 : IO h2 1 k := by rw [e2]; exact og2
  obtain ⟨g3, c3⟩ : ∃ g, g = rowsH (nw h2 4 (nC 4)) (pn h2) 8 2 := ⟨_, rfl⟩
  obtain ⟨r3, rc3, f3, q3, s3⟩ := new_rows (h := h2) (ms := 8) (w := 2) (by omega) (by omega) (by omega)
  rw [← c3] at r3 rc3 f3 q3 s3
  obtain ⟨h3, e3⟩ : ∃ hh, hh = sR g3 k 4 (some (pn h2)) := ⟨_, rfl⟩
  have p3 : pn h3 = k + 11 := by rw [e3]; show pn g3 = _; omega
  have b3 : ps h3 = ps h + 215 := by rw [e3]; show ps g3 = _; omega
  have og3 : IO g3 1 k := f3.1.O o2
  have o3 : IO h3 1 k := by rw [e3]; exact og3
  obtain ⟨g4, c4⟩ : ∃ g, g = rowsH (nw h3 4 (nC 4)) (pn h3) 8 4 := ⟨_, rfl⟩
  obtain ⟨r4, rc4, f4, q4, s4⟩ := new_rows (h := h3) (ms := 8) (w := 4) (by omega) (by omega) (by omega)
  rw [← c4] at r4 rc4 f4 q4 s4
  obtain ⟨h4, e4⟩ : ∃ hh, hh = sR g4 k 5 (some (pn h3)) := ⟨_, rfl⟩
  have p4 : pn h4 = k + 13 := by rw [e4]; show pn g4 = _; omega
  have b4 : ps h4 = ps h + 251 := by rw [e4]; show ps g4 = _; omega
  have og4 : IO g4 1 k := f4.1.O o3
  have o4 : IO h4 1 k := by rw [e4]; exact og4
  obtain ⟨g5, c5⟩ : ∃ g, g = rowsH (nw h4 4 (nC 4)) (pn h4) 8 2 := ⟨_, rfl⟩
  obtain ⟨r5, rc5, f5, q5, s5⟩ := new_rows (h := h4) (ms := 8) (w := 2) (by omega) (by omega) (by omega)
  rw [← c5] at r5 rc5 f5 q5 s5
  obtain ⟨h5, e5⟩ : ∃ hh, hh = sR g5 k 6 (some (pn h4)) := ⟨_, rfl⟩
  have p5 : pn h5 = k + 15 := by rw [e5]; show pn g5 = _; omega
  have b5 : ps h5 = ps h + 271 := by rw [e5]; show ps g5 = _; omega
  have og5 : IO g5 1 k := f5.1.O o4
  have o5 : IO h5 1 k := by rw [e5]; exact og5
  obtain ⟨g6, c6⟩ : ∃ g, g = rowsH (nw h5 4 (nC 4)) (pn h5) 8 2 := ⟨_, rfl⟩
  obtain ⟨r6, rc6, f6, q6, s6⟩ := new_rows (h := h5) (ms := 8) (w := 2) (by omega) (by omega) (by omega)
  rw [← c6] at r6 rc6 f6 q6 s6
  obtain ⟨h6, e6⟩ : ∃ hh, hh = sR g6 k 7 (some (pn h5)) := ⟨_, rfl⟩
  have p6 : pn h6 = k + 17 := by rw [e6]; show pn g6 = _; omega
  have b6 : ps h6 = ps h + 291 := by rw [e6]; show ps g6 = _; omega
  have og6 : IO g6 1 k := f6.1.O o5
  have o6 : IO h6 1 k := by rw [e6]; exact og6
  obtain ⟨g7, c7⟩ : ∃ g, g = nw h6 13 4 := ⟨_, rfl⟩
  have f7 : FG (pn h6) h6 g7 := by rw [c7]; exact fg_nw
  have q7 : pn g7 = pn h6 + 1 := by rw [c7]; rfl
  have s7 : ps g7 = ps h6 + 4 := by rw [c7]; rfl
  have a7 : IA g7 13 4 (pn h6) := by rw [c7]; exact ⟨by omega, Nat.lt_succ_self _, by rw [pK_nw, if_pos rfl]⟩
  obtain ⟨h7, e7⟩ : ∃ hh, hh = sR g7 k 8 (some (pn h6)) := ⟨_, rfl⟩
  have p7 : pn h7 = k + 18 := by rw [e7]; show pn g7 = _; omega
  have b7 : ps h7 = ps h + 295 := by rw [e7]; show ps g7 = _; omega
  have og7 : IO g7 1 k := f7.1.O o6
  have o7 : IO h7 1 k := by rw [e7]; exact og7
  obtain ⟨h8', e8⟩ : ∃ hh, hh = sI h7 k 10 (-1) := ⟨_, rfl⟩
  have p8 : pn h8' = k + 18 := by rw [e8]; show pn h7 = _; omega
  have b8 : ps h8' = ps h7 := by rw [e8]; rfl
  have o8 : IO h8' 1 k := by rw [e8]; exact o7
  have R0 : pR h8' k 0 = some (k + 1) := by rw [e8]; show pR h7 k 0 = _; rw [e7, pR_sR_s, if_neg (by omega), (f7.2.2 k (by omega)).2.2, e6, pR_sR_s, if_neg (by omega), (f6.2.2 k (by omega)).2.2, e5, pR_sR_s, if_neg (by omega), (f5.2.2 k (by omega)).2.2, e4, pR_sR_s, if_neg (by omega), (f4.2.2 k (by omega)).2.2, e3, pR_sR_s, if_neg (by omega), (f3.2.2 k (by omega)).2.2, e2, pR_sR_s, if_neg (by omega), (f2.2.2 k (by omega)).2.2, e1, pR_sR_s, if_pos rfl]
  have R1 : pR h8' k 1 = some (k + 8) := by rw [e8]; show pR h7 k 1 = _; rw [e7, pR_sR_s, if_neg (by omega), (f7.2.2 k (by omega)).2.2, e6, pR_sR_s, if_neg (by omega), (f6.2.2 k (by omega)).2.2, e5, pR_sR_s, if_neg (by omega), (f5.2.2 k (by omega)).2.2, e4, pR_sR_s, if_neg (by omega), (f4.2.2 k (by omega)).2.2, e3, pR_sR_s, if_neg (by omega), (f3.2.2 k (by omega)).2.2, e2, pR_sR_s, if_pos rfl]; rw [p1]
  have R4 : pR h8' k 4 = some (k + 9) := by rw [e8]; show pR h7 k 4 = _; rw [e7, pR_sR_s, if_neg (by omega), (f7.2.2 k (by omega)).2.2, e6, pR_sR_s, if_neg (by omega), (f6.2.2 k (by omega)).2.2, e5, pR_sR_s, if_neg (by omega), (f5.2.2 k (by omega)).2.2, e4, pR_sR_s, if_neg (by omega), (f4.2.2 k (by omega)).2.2, e3, pR_sR_s, if_pos rfl]; rw [p2]
  have R5 : pR h8' k 5 = some (k + 11) := by rw [e8]; show pR h7 k 5 = _; rw [e7, pR_sR_s, if_neg (by omega), (f7.2.2 k (by omega)).2.2, e6, pR_sR_s, if_neg (by omega), (f6.2.2 k (by omega)).2.2, e5, pR_sR_s, if_neg (by omega), (f5.2.2 k (by omega)).2.2, e4, pR_sR_s, if_pos rfl]; rw [p3]
  have R6 : pR h8' k 6 = some (k + 13) := by rw [e8]; show pR h7 k 6 = _; rw [e7, pR_sR_s, if_neg (by omega), (f7.2.2 k (by omega)).2.2, e6, pR_sR_s, if_neg (by omega), (f6.2.2 k (by omega)).2.2, e5, pR_sR_s, if_pos rfl]; rw [p4]
  have R7 : pR h8' k 7 = some (k + 15) := by rw [e8]; show pR h7 k 7 = _; rw [e7, pR_sR_s, if_neg (by omega), (f7.2.2 k (by omega)).2.2, e6, pR_sR_s, if_pos rfl]; rw [p5]
  have R8 : pR h8' k 8 = some (k + 17) := by rw [e8]; show pR h7 k 8 = _; rw [e7, pR_sR_s, if_pos rfl]; rw [p6]
  have I8 : ∀ j, j ≠ 10 → pI h8' k j = pI h k j := fun j hj => by
    rw [e8, pI_sI, if_pos rfl, if_neg hj]
    rw [e7]
    show pI g7 k j = _
    rw [(f7.2.2 k (by omega)).1]
    rw [e6]
    show pI g6 k j = _
    rw [(f6.2.2 k (by omega)).1]
    rw [e5]
    show pI g5 k j = _
    rw [(f5.2.2 k (by omega)).1]
    rw [e4]
    show pI g4 k j = _
    rw [(f4.2.2 k (by omega)).1]
    rw [e3]
    show pI g3 k j = _
    rw [(f3.2.2 k (by omega)).1]
    rw [e2]
    show pI g2 k j = _
    rw [(f2.2.2 k (by omega)).1]
    rw [e1]
    show pI g1 k j = _
    rw [(f1.2.2 k (by omega)).1]
  have I10 : pI h8' k 10 = -1 := by rw [e8, pI_sI, if_pos rfl, if_pos rfl]
  have n1 : FN2 k (pn g1) g1 h8' := by
    rw [e8]
    refine FN2.I ?_
    rw [e7]
    refine FN2.R (FN2.g ?_ f7 (by omega))
    rw [e6]
    refine FN2.R (FN2.g ?_ f6 (by omega))
    rw [e5]
    refine FN2.R (FN2.g ?_ f5 (by omega))
    rw [e4]
    refine FN2.R (FN2.g ?_ f4 (by omega))
    rw [e3]
    refine FN2.R (FN2.g ?_ f3 (by omega))
    rw [e2]
    refine FN2.R (FN2.g ?_ f2 (by omega))
    rw [e1]
    exact FN2.R FN2.rf
  have n2 : FN2 k (pn g2) g2 h8' := by
    rw [e8]
    refine FN2.I ?_
    rw [e7]
    refine FN2.R (FN2.g ?_ f7 (by omega))
    rw [e6]
    refine FN2.R (FN2.g ?_ f6 (by omega))
    rw [e5]
    refine FN2.R (FN2.g ?_ f5 (by omega))
    rw [e4]
    refine FN2.R (FN2.g ?_ f4 (by omega))
    rw [e3]
    refine FN2.R (FN2.g ?_ f3 (by omega))
    rw [e2]
    exact FN2.R FN2.rf
  have n3 : FN2 k (pn g3) g3 h8' := by
    rw [e8]
    refine FN2.I ?_
    rw [e7]
    refine FN2.R (FN2.g ?_ f7 (by omega))
    rw [e6]
    refine FN2.R (FN2.g ?_ f6 (by omega))
    rw [e5]
    refine FN2.R (FN2.g ?_ f5 (by omega))
    rw [e4]
    refine FN2.R (FN2.g ?_ f4 (by omega))
    rw [e3]
    exact FN2.R FN2.rf
  have n4 : FN2 k (pn g4) g4 h8' := by
    rw [e8]
    refine FN2.I ?_
    rw [e7]
    refine FN2.R (FN2.g ?_ f7 (by omega))
    rw [e6]
    refine FN2.R (FN2.g ?_ f6 (by omega))
    rw [e5]
    refine FN2.R (FN2.g ?_ f5 (by omega))
    rw [e4]
    exact FN2.R FN2.rf
  have n5 : FN2 k (pn g5) g5 h8' := by
    rw [e8]
    refine FN2.I ?_
    rw [e7]
    refine FN2.R (FN2.g ?_ f7 (by omega))
    rw [e6]
    refine FN2.R (FN2.g ?_ f6 (by omega))
    rw [e5]
    exact FN2.R FN2.rf
  have n6 : FN2 k (pn g6) g6 h8' := by
    rw [e8]
    refine FN2.I ?_
    rw [e7]
    refine FN2.R (FN2.g ?_ f7 (by omega))
    rw [e6]
    exact FN2.R FN2.rf
  have n7 : FN2 k (pn g7) g7 h8' := by
    rw [e8]
    refine FN2.I ?_
    rw [e7]
    exact FN2.R FN2.rf
  have FGa : FG k h h8' := by
    rw [e8]
    refine FG.I ?_ (Nat.le_refl _)
    rw [e7]
    refine FG.R (FG.tr ?_ (f7.le (by omega))) (Nat.le_refl _)
    rw [e6]
    refine FG.R (FG.tr ?_ (f6.le (by omega))) (Nat.le_refl _)
    rw [e5]
    refine FG.R (FG.tr ?_ (f5.le (by omega))) (Nat.le_refl _)
    rw [e4]
    refine FG.R (FG.tr ?_ (f4.le (by omega))) (Nat.le_refl _)
    rw [e3]
    refine FG.R (FG.tr ?_ (f3.le (by omega))) (Nat.le_refl _)
    rw [e2]
    refine FG.R (FG.tr ?_ (f2.le (by omega))) (Nat.le_refl _)
    rw [e1]
    exact FG.R (f1.le (by omega)) (Nat.le_refl _)
  have A2 : IA h8' 14 30 (k + 8) := by rw [← p1]; exact n2.1.A a2
  have A7 : IA h8' 13 4 (k + 17) := by rw [← p6]; exact n7.1.A a7
  obtain ⟨h9, p9, b9, n9, al9, le9, t9⟩ := l_past (k := k) (d := d) k8 (by omega) 30 0 h8' rfl (by omega) o8 R1 A2 (fun j hj => absurd hj (by omega))
  have E9 := (n9.2 k (by omega) (by omega)).2.2
  have J9 := (n9.2 k (by omega) (by omega)).1
  have wS : WoS h9 (k + 1) := n9.wo (n1.wo w1 (by omega) (by omega)) (by omega) (by omega)
  have wV : WV h9 (k + 1) W0 := n9.wv (n1.wv v1 (by omega) (by omega)) (by omega) (by omega)
  rw [p2] at r3 rc3
  rw [p3] at r4 rc4
  rw [p4] at r5 rc5
  rw [p5] at r6 rc6
  have rs3 := n9.rw (n3.rw r3 (by omega) (by omega)) (by omega) (by omega)
  have rs4 := n9.rw (n4.rw r4 (by omega) (by omega)) (by omega) (by omega)
  have rs5 := n9.rw (n5.rw r5 (by omega) (by omega)) (by omega) (by omega)
  have rs6 := n9.rw (n6.rw r6 (by omega) (by omega)) (by omega) (by omega)
  have rv3 := n9.rc (n3.rc rc3 (by omega) (by omega)) (by omega) (by omega)
  have rv4 := n9.rc (n4.rc rc4 (by omega) (by omega)) (by omega) (by omega)
  have rv5 := n9.rc (n5.rc rc5 (by omega) (by omega)) (by omega) (by omega)
  have rv6 := n9.rc (n6.rc rc6 (by omega) (by omega)) (by omega) (by omega)
  refine ⟨h9, ?_, ⟨n9.1.O o8, ⟨by rw [E9]; exact R0, wS⟩, ⟨by rw [E9]; exact R1, n9.1.A A2⟩, fun i hi => ⟨(al9 i hi).1, (al9 i hi).2.1⟩, ⟨by rw [E9]; exact R4, rs3⟩, ⟨by rw [E9]; exact R5, rs4⟩, ⟨by rw [E9]; exact R6, rs5⟩, ⟨by rw [E9]; exact R7, rs6⟩, ⟨by rw [E9]; exact R8, n9.1.A A7⟩⟩, fun tx => ⟨by rw [snap_00]; exact wV, ⟨0, by omega, by rw [J9, I8 2 (by omega), z]; rfl, fun t ht => absurd ht (by show ¬ t < 0; omega)⟩, by rw [J9, I8 3 (by omega), z]; rfl, fun i hi => ⟨W0, (al9 i hi).2.2⟩, ⟨rv3, fun i hi => absurd hi (by show ¬ i < 0 * 2; omega)⟩, ⟨rv4, fun i hi => absurd hi (by show ¬ i < 0 * 4; omega)⟩, ⟨rv5, fun i hi => absurd hi (by show ¬ i < 0 * 2; omega)⟩, ⟨rv6, fun i hi => absurd hi (by show ¬ i < 0 * 2; omega)⟩, by rw [J9, I8 9 (by omega), z]; rfl, by rw [J9, I10]; rfl, fun t ht => absurd ht (by show ¬ t < 0; omega)⟩, ⟨FGa.1.tr n9.1, Nat.le_trans FGa.2.1 le9, fun a ha => ⟨((n9.2 a (by omega) (by omega)).1).trans (FGa.2.2 a ha).1, ((n9.2 a (by omega) (by omega)).2.1).trans (FGa.2.2 a ha).2.1, ((n9.2 a (by omega) (by omega)).2.2).trans (FGa.2.2 a ha).2.2⟩⟩, p9, by omega⟩
  intro N S Q hN hS hQ
  refine z_aload_n dX1_init_0 rfl rfl ?_
  refine z_objInit Kobj_X1_3 Kobj_instanceMethod Kobj_code dX1_init_1 (by omega) (Nat.le_of_ble_eq_true rfl) ?_
  refine z_aload_n dX1_init_4 rfl rfl ?_
  refine z_new NX1_9 dX1_init_5 (by omega) (by rw [nc7v]; omega) ?_
  rw [← c0]
  refine z_dup dX1_init_8 rfl ?_
  rw [hk]
  refine y_callI (as := []) CX7_init LX1_11 IX7_init rfl rfl dX1_init_9 rfl (Nat.le_of_ble_eq_true rfl) (Nat.le_of_ble_eq_true rfl) (by omega) s1 ⟨f1'.1.1, f1'.2.1, by omega, by omega⟩ ?_
  refine y_putR FX1_12 dX1_init_12 (by first | exact Or.inl rfl | exact Or.inr ⟨rfl, rfl⟩) rfl og1 ?_
  rw [← e1]
  refine z_aload_n dX1_init_15 rfl rfl ?_
  refine z_bipush (v := 30) dX1_init_16 (by decide) ?_
  refine z_newA (t := 14) (m0 := 30) dX1_init_18 (Or.inr ⟨rfl, rfl⟩) Kcls_X1_9 Kover_X7 (by decide) rfl (by omega) (by omega) (by omega) ?_
  rw [← c2]
  refine y_putR FX1_18 dX1_init_21 (by first | exact Or.inl rfl | exact Or.inr ⟨rfl, rfl⟩) rfl og2 ?_
  rw [← e2]
  refine z_aload_n dX1_init_24 rfl rfl ?_
  refine z_new NX1_22 dX1_init_25 (by omega) (by rw [nc4v]; omega) ?_
  refine z_dup dX1_init_28 rfl ?_
  refine z_bipush (v := 8) dX1_init_29 (by decide) ?_
  refine z_iconst (v := 2) dX1_init_31 (by decide) ?_
  refine y_callI (as := [_, _]) CX4_init LX1_24 IX4_init rfl rfl dX1_init_32 rfl (Nat.le_of_ble_eq_true rfl) (Nat.le_of_ble_eq_true rfl) (by omega) (s_rowsI (d := 1) (ms := 8) (w := 2) ⟨by omega, Nat.lt_succ_self _, by rw [pK_nw, if_pos rfl]⟩ (by omega) (by omega) (Nat.le_refl _)) ⟨Nat.le_succ _, Nat.le_add_right _ _, by show pn h2 + 2 ≤ N; omega, by show ps h2 + nC 4 + 8 * 2 ≤ S; rw [nc4v]; omega⟩ ?_
  rw [← c3]
  refine y_putR FX1_27 dX1_init_35 (by first | exact Or.inl rfl | exact Or.inr ⟨rfl, rfl⟩) rfl og3 ?_
  rw [← e3]
  refine z_aload_n dX1_init_38 rfl rfl ?_
  refine z_new NX1_22 dX1_init_39 (by omega) (by rw [nc4v]; omega) ?_
  refine z_dup dX1_init_42 rfl ?_
  refine z_bipush (v := 8) dX1_init_43 (by decide) ?_
  refine z_iconst (v := 4) dX1_init_45 (by decide) ?_
  refine y_callI (as := [_, _]) CX4_init LX1_24 IX4_init rfl rfl dX1_init_46 rfl (Nat.le_of_ble_eq_true rfl) (Nat.le_of_ble_eq_true rfl) (by omega) (s_rowsI (d := 1) (ms := 8) (w := 4) ⟨by omega, Nat.lt_succ_self _, by rw [pK_nw, if_pos rfl]⟩ (by omega) (by omega) (Nat.le_refl _)) ⟨Nat.le_succ _, Nat.le_add_right _ _, by show pn h3 + 2 ≤ N; omega, by show ps h3 + nC 4 + 8 * 4 ≤ S; rw [nc4v]; omega⟩ ?_
  rw [← c4]
  refine y_putR FX1_31 dX1_init_49 (by first | exact Or.inl rfl | exact Or.inr ⟨rfl, rfl⟩) rfl og4 ?_
  rw [← e4]
  refine z_aload_n dX1_init_52 rfl rfl ?_
  refine z_new NX1_22 dX1_init_53 (by omega) (by rw [nc4v]; omega) ?_
  refine z_dup dX1_init_56 rfl ?_
  refine z_bipush (v := 8) dX1_init_57 (by decide) ?_
  refine z_iconst (v := 2) dX1_init_59 (by decide) ?_
  refine y_callI (as := [_, _]) CX4_init LX1_24 IX4_init rfl rfl dX1_init_60 rfl (Nat.le_of_ble_eq_true rfl) (Nat.le_of_ble_eq_true rfl) (by omega) (s_rowsI (d := 1) (ms := 8) (w := 2) ⟨by omega, Nat.lt_succ_self _, by rw [pK_nw, if_pos rfl]⟩ (by omega) (by omega) (Nat.le_refl _)) ⟨Nat.le_succ _, Nat.le_add_right _ _, by show pn h4 + 2 ≤ N; omega, by show ps h4 + nC 4 + 8 * 2 ≤ S; rw [nc4v]; omega⟩ ?_
  rw [← c5]
  refine y_putR FX1_34 dX1_init_63 (by first | exact Or.inl rfl | exact Or.inr ⟨rfl, rfl⟩) rfl og5 ?_
  rw [← e5]
  refine z_aload_n dX1_init_66 rfl rfl ?_
  refine z_new NX1_22 dX1_init_67 (by omega) (by rw [nc4v]; omega) ?_
  refine z_dup dX1_init_70 rfl ?_
  refine z_bipush (v := 8) dX1_init_71 (by decide) ?_
  refine z_iconst (v := 2) dX1_init_73 (by decide) ?_
  refine y_callI (as := [_, _]) CX4_init LX1_24 IX4_init rfl rfl dX1_init_74 rfl (Nat.le_of_ble_eq_true rfl) (Nat.le_of_ble_eq_true rfl) (by omega) (s_rowsI (d := 1) (ms := 8) (w := 2) ⟨by omega, Nat.lt_succ_self _, by rw [pK_nw, if_pos rfl]⟩ (by omega) (by omega) (Nat.le_refl _)) ⟨Nat.le_succ _, Nat.le_add_right _ _, by show pn h5 + 2 ≤ N; omega, by show ps h5 + nC 4 + 8 * 2 ≤ S; rw [nc4v]; omega⟩ ?_
  rw [← c6]
  refine y_putR FX1_37 dX1_init_77 (by first | exact Or.inl rfl | exact Or.inr ⟨rfl, rfl⟩) rfl og6 ?_
  rw [← e6]
  refine z_aload_n dX1_init_80 rfl rfl ?_
  refine z_iconst (v := 4) dX1_init_81 (by decide) ?_
  refine z_newA (t := 13) (m0 := 4) dX1_init_82 (Or.inl ⟨rfl, rfl⟩) Kcls_X1_40 Kover_X5 (by decide) rfl (by omega) (by omega) (by omega) ?_
  rw [← c7]
  refine y_putR FX1_42 dX1_init_85 (by first | exact Or.inl rfl | exact Or.inr ⟨rfl, rfl⟩) rfl og7 ?_
  rw [← e7]
  refine z_aload_n dX1_init_88 rfl rfl ?_
  refine z_iconst (v := -1) dX1_init_89 (by decide) ?_
  refine y_putI FX1_46 dX1_init_90 (by first | exact Or.inl rfl | exact Or.inr ⟨rfl, rfl⟩) (Or.inl rfl) o7 ?_
  rw [← e8]
  refine z_iconst (v := 0) dX1_init_93 (by decide) ?_
  refine z_istore_n dX1_init_94 rfl (Nat.le_of_ble_eq_true rfl) ?_
  exact t9 N S Q hN hS hQ

