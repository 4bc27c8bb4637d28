/-! the reference as it is made (wip/whole/genb4.py) -/
/-- the reference's shape at k -/
def SM9 (h1 : Hp) (k : Nat) : Prop := IO h1 9 k ∧ (pR h1 k 0 = some (k + 1) ∧ IA h1 10 4870 (k + 1)) ∧ (pR h1 k 1 = some (k + 2) ∧ IA h1 10 4870 (k + 2)) ∧ (pR h1 k 2 = some (k + 3) ∧ IA h1 10 3012 (k + 3)) ∧ (pR h1 k 3 = some (k + 4) ∧ IA h1 10 300 (k + 4)) ∧ (pR h1 k 15 = some (k + 5) ∧ IA h1 10 160 (k + 5)) ∧ (pR h1 k 20 = some (k + 6) ∧ IA h1 10 11 (k + 6)) ∧ (pR h1 k 21 = some (k + 7) ∧ IA h1 11 330 (k + 7)) ∧ (pR h1 k 22 = some (k + 8) ∧ IA h1 12 330 (k + 8)) ∧ (pR h1 k 25 = some (k + 9) ∧ IA h1 10 110 (k + 9)) ∧ (pR h1 k 28 = some (k + 10) ∧ IA h1 10 256 (k + 10)) ∧ (pR h1 k 29 = some (k + 11) ∧ IA h1 12 6561 (k + 11)) ∧ (pR h1 k 30 = some (k + 12) ∧ IA h1 10 9 (k + 12))
/-- the reference as it is made -/
def ST9 (h1 : Hp) (k : Nat) : Prop := SM9 h1 k ∧ (∀ i, i < 4870 → pI h1 (k + 1) i = cI a00 i) ∧ (∀ i, i < 4870 → pI h1 (k + 2) i = cI a00 i) ∧ (pI h1 (k + 4) = fun _ => 0) ∧ pI h1 k 4 = 0 ∧ pI h1 k 5 = -1 ∧ pI h1 k 6 = -1 ∧ (pI h1 (k + 3) = fun _ => 0) ∧ pI h1 k 23 = 1
theorem c_modsum (x : Nat) : x + 4870 + 4870 + 3012 + 300 + 160 + 11 + 330 + 330 + 110 + 256 + 6561 + 9 = x + 20819 := by omega
theorem nsk {k n : Nat} (h : 0 < n) : k + n ≠ k := by omega
theorem fg_of {k : Nat} {h h1 : Hp} (f : FN2 k (pn h) h h1) (hk : pn h = k + 1) (hs : ps h ≤ ps h1) : FG k h h1 := ⟨f.1, hs, fun a ha => f.2 a (by omega) (by omega)⟩
set_option maxHeartbeats 1000000 in
theorem c_modA {h : Hp} {k d : Nat} (ho : IO h 9 k) (hk : pn h = k + 1) (z : pI h k = fun _ => 0) (hd : 2 ≤ d) : ∃ h1, (∀ N S Q, pn h1 ≤ N → ps h1 ≤ S → T d N S mX9_init 124 (lap mX9_init [.ref k]) [] h1 Q → T d N S mX9_init 0 (lap mX9_init [.ref k]) [] h Q) ∧ SM9 h1 k ∧ (pI h1 (k + 1) = (fun _ => 0) ∧ pI h1 (k + 3) = (fun _ => 0) ∧ pI h1 (k + 4) = fun _ => 0) ∧ (pI h1 k 4 = 0 ∧ pI h1 k 5 = -1 ∧ pI h1 k 6 = -1 ∧ pI h1 k 23 = 1) ∧ FG k h h1 ∧ pn h1 = k + 13 ∧ ps h1 = ps h + 20819 := by
  have k8 := ho.1
  obtain ⟨h1, t1, v1, o1, n1, r1, q1, i1, p1, b1⟩ := c_modS1 (d := d) ho hk
  obtain ⟨h2, t2, v2, o2, n2, r2, q2, i2, p2, b2⟩ := c_modS2 (d := d) o1 p1
  obtain ⟨h3, t3, v3, o3, n3, r3, q3, i3, p3, b3⟩ := c_modS3 (d := d) o2 p2
  obtain ⟨h4, t4, v4, o4, n4, r4, q4, i4, p4, b4⟩ := c_modS4 (d := d) o3 p3
  obtain ⟨h5, e5⟩ : ∃ hh, hh = sI h4 k 5 (-1) := ⟨_, rfl⟩
  have o5 : IO h5 9 k := by rw [e5]; exact o4
  have p5 : pn h5 = k + 5 := by rw [e5]; exact p4
  have b5 : ps h5 = ps h4 := by rw [e5]; rfl
  have n5 : FN2 k (pn h4) h4 h5 := by rw [e5]; exact FN2.I FN2.rf
  have r5 : pR h5 k = pR h4 k := by rw [e5]; rfl
  obtain ⟨h6, e6⟩ : ∃ hh, hh = sI h5 k 6 (-1) := ⟨_, rfl⟩
  have o6 : IO h6 9 k := by rw [e6]; exact o5
  have p6 : pn h6 = k + 5 := by rw [e6]; exact p5
  have b6 : ps h6 = ps h5 := by rw [e6]; rfl
  have n6 : FN2 k (pn h5) h5 h6 := by rw [e6]; exact FN2.I FN2.rf
  have r6 : pR h6 k = pR h5 k := by rw [e6]; rfl
  obtain ⟨h7, t7, v7, o7, n7, r7, q7, i7, p7, b7⟩ := c_modS7 (d := d) o6 p6
  obtain ⟨h8, t8, v8, o8, n8, r8, q8, i8, p8, b8⟩ := c_modS8 (d := d) o7 p7
  obtain ⟨h9, t9, v9, o9, n9, r9, q9, i9, p9, b9⟩ := c_modS9 (d := d) o8 p8
  obtain ⟨h10, t10, v10, o10, n10, r10, q10, i10, p10, b10⟩ := c_modS10 (d := d) o9 p9
  obtain ⟨h11, e11⟩ : ∃ hh, hh = sI h10 k 23 1 := ⟨_, rfl⟩
  have o11 : IO h11 9 k := by rw [e11]; exact o10
  have p11 : pn h11 = k + 9 := by rw [e11]; exact p10
  have b11 : ps h11 = ps h10 := by rw [e11]; rfl
  have n11 : FN2 k (pn h10) h10 h11 := by rw [e11]; exact FN2.I FN2.rf
  have r11 : pR h11 k = pR h10 k := by rw [e11]; rfl
  obtain ⟨h12, t12, v12, o12, n12, r12, q12, i12, p12, b12⟩ := c_modS12 (d := d) o11 p11
  obtain ⟨h13, t13, v13, o13, n13, r13, q13, i13, p13, b13⟩ := c_modS13 (d := d) o12 p12
  obtain ⟨h14, t14, v14, o14, n14, r14, q14, i14, p14, b14⟩ := c_modS14 (d := d) o13 p13
  obtain ⟨h15, t15, v15, o15, n15, r15, q15, i15, p15, b15⟩ := c_modS15 (d := d) o14 p14
  have m15 : FN2 k (pn h15) h15 h15 := FN2.rf
  have c15 : ps h15 ≤ ps h15 := Nat.le_refl _
  have m14 : FN2 k (pn h14) h14 h15 := n15.tr m15 n15.1.1
  have c14 : ps h14 ≤ ps h15 := Nat.le_trans (by rw [b15]; exact Nat.le_add_right _ _) c15
  have m13 : FN2 k (pn h13) h13 h15 := n14.tr m14 n14.1.1
  have c13 : ps h13 ≤ ps h15 := Nat.le_trans (by rw [b14]; exact Nat.le_add_right _ _) c14
  have m12 : FN2 k (pn h12) h12 h15 := n13.tr m13 n13.1.1
  have c12 : ps h12 ≤ ps h15 := Nat.le_trans (by rw [b13]; exact Nat.le_add_right _ _) c13
  have m11 : FN2 k (pn h11) h11 h15 := n12.tr m12 n12.1.1
  have c11 : ps h11 ≤ ps h15 := Nat.le_trans (by rw [b12]; exact Nat.le_add_right _ _) c12
  have m10 : FN2 k (pn h10) h10 h15 := n11.tr m11 n11.1.1
  have c10 : ps h10 ≤ ps h15 := Nat.le_trans (Nat.le_of_eq b11.symm) c11
  have m9 : FN2 k (pn h9) h9 h15 := n10.tr m10 n10.1.1
  have c9 : ps h9 ≤ ps h15 := Nat.le_trans (by rw [b10]; exact Nat.le_add_right _ _) c10
  have m8 : FN2 k (pn h8) h8 h15 := n9.tr m9 n9.1.1
  have c8 : ps h8 ≤ ps h15 := Nat.le_trans (by rw [b9]; exact Nat.le_add_right _ _) c9
  have m7 : FN2 k (pn h7) h7 h15 := n8.tr m8 n8.1.1
  have c7 : ps h7 ≤ ps h15 := Nat.le_trans (by rw [b8]; exact Nat.le_add_right _ _) c8
  have m6 : FN2 k (pn h6) h6 h15 := n7.tr m7 n7.1.1
  have c6 : ps h6 ≤ ps h15 := Nat.le_trans (by rw [b7]; exact Nat.le_add_right _ _) c7
  have m5 : FN2 k (pn h5) h5 h15 := n6.tr m6 n6.1.1
  have c5 : ps h5 ≤ ps h15 := Nat.le_trans (Nat.le_of_eq b6.symm) c6
  have m4 : FN2 k (pn h4) h4 h15 := n5.tr m5 n5.1.1
  have c4 : ps h4 ≤ ps h15 := Nat.le_trans (Nat.le_of_eq b5.symm) c5
  have m3 : FN2 k (pn h3) h3 h15 := n4.tr m4 n4.1.1
  have c3 : ps h3 ≤ ps h15 := Nat.le_trans (by rw [b4]; exact Nat.le_add_right _ _) c4
  have m2 : FN2 k (pn h2) h2 h15 := n3.tr m3 n3.1.1
  have c2 : ps h2 ≤ ps h15 := Nat.le_trans (by rw [b3]; exact Nat.le_add_right _ _) c3
  have m1 : FN2 k (pn h1) h1 h15 := n2.tr m2 n2.1.1
  have c1 : ps h1 ≤ ps h15 := Nat.le_trans (by rw [b2]; exact Nat.le_add_right _ _) c2
  have m0 : FN2 k (pn h) h h15 := n1.tr m1 n1.1.1
  have c0 : ps h ≤ ps h15 := Nat.le_trans (by rw [b1]; exact Nat.le_add_right _ _) c1
  have R0 : pR h15 k 0 = some (k + 1) := by rw [r15 _ (by decide), r14 _ (by decide), r13 _ (by decide), r12 _ (by decide), r11, r10 _ (by decide), r9 _ (by decide), r8 _ (by decide), r7 _ (by decide), r6, r5, r4 _ (by decide), r3 _ (by decide), r2 _ (by decide), q1]
  have R1 : pR h15 k 1 = some (k + 2) := by rw [r15 _ (by decide), r14 _ (by decide), r13 _ (by decide), r12 _ (by decide), r11, r10 _ (by decide), r9 _ (by decide), r8 _ (by decide), r7 _ (by decide), r6, r5, r4 _ (by decide), r3 _ (by decide), q2]
  have R2 : pR h15 k 2 = some (k + 3) := by rw [r15 _ (by decide), r14 _ (by decide), r13 _ (by decide), r12 _ (by decide), r11, r10 _ (by decide), r9 _ (by decide), r8 _ (by decide), r7 _ (by decide), r6, r5, r4 _ (by decide), q3]
  have R3 : pR h15 k 3 = some (k + 4) := by rw [r15 _ (by decide), r14 _ (by decide), r13 _ (by decide), r12 _ (by decide), r11, r10 _ (by decide), r9 _ (by decide), r8 _ (by decide), r7 _ (by decide), r6, r5, q4]
  have R15 : pR h15 k 15 = some (k + 5) := by rw [r15 _ (by decide), r14 _ (by decide), r13 _ (by decide), r12 _ (by decide), r11, r10 _ (by decide), r9 _ (by decide), r8 _ (by decide), q7]
  have R20 : pR h15 k 20 = some (k + 6) := by rw [r15 _ (by decide), r14 _ (by decide), r13 _ (by decide), r12 _ (by decide), r11, r10 _ (by decide), r9 _ (by decide), q8]
  have R21 : pR h15 k 21 = some (k + 7) := by rw [r15 _ (by decide), r14 _ (by decide), r13 _ (by decide), r12 _ (by decide), r11, r10 _ (by decide), q9]
  have R22 : pR h15 k 22 = some (k + 8) := by rw [r15 _ (by decide), r14 _ (by decide), r13 _ (by decide), r12 _ (by decide), r11, q10]
  have R25 : pR h15 k 25 = some (k + 9) := by rw [r15 _ (by decide), r14 _ (by decide), r13 _ (by decide), q12]
  have R28 : pR h15 k 28 = some (k + 10) := by rw [r15 _ (by decide), r14 _ (by decide), q13]
  have R29 : pR h15 k 29 = some (k + 11) := by rw [r15 _ (by decide), q14]
  have R30 : pR h15 k 30 = some (k + 12) := by rw [q15]
  have V5 : pI h15 k 5 = (-1) := by rw [i15, i14, i13, i12, e11, pI_sI, if_pos rfl, if_neg (by decide), i10, i9, i8, i7, e6, pI_sI, if_pos rfl, if_neg (by decide), e5, pI_sI, if_pos rfl, if_pos rfl]
  have V6 : pI h15 k 6 = (-1) := by rw [i15, i14, i13, i12, e11, pI_sI, if_pos rfl, if_neg (by decide), i10, i9, i8, i7, e6, pI_sI, if_pos rfl, if_pos rfl]
  have V23 : pI h15 k 23 = 1 := by rw [i15, i14, i13, i12, e11, pI_sI, if_pos rfl, if_pos rfl]
  have V4 : pI h15 k 4 = 0 := by rw [i15, i14, i13, i12, e11, pI_sI, if_pos rfl, if_neg (by decide), i10, i9, i8, i7, e6, pI_sI, if_pos rfl, if_neg (by decide), e5, pI_sI, if_pos rfl, if_neg (by decide), i4, i3, i2, i1, z]
  have FGa : FG k h h15 := fg_of m0 hk c0
  have bz : ps h15 = ps h + 20819 := by refine Eq.trans ?_ (c_modsum _); rw [b15, b14, b13, b12, b11, b10, b9, b8, b7, b6, b5, b4, b3, b2, b1]
  refine ⟨h15, ?_, ⟨o15, ⟨R0, m1.ia v1.1⟩, ⟨R1, m2.ia v2.1⟩, ⟨R2, m3.ia v3.1⟩, ⟨R3, m4.ia v4.1⟩, ⟨R15, m7.ia v7.1⟩, ⟨R20, m8.ia v8.1⟩, ⟨R21, m9.ia v9.1⟩, ⟨R22, m10.ia v10.1⟩, ⟨R25, m12.ia v12.1⟩, ⟨R28, m13.ia v13.1⟩, ⟨R29, m14.ia v14.1⟩, ⟨R30, m15.ia v15.1⟩⟩, ⟨by rw [(m1.2 (k + 1) (by rw [p1]; exact Nat.lt_succ_self _) (nsk (by decide))).1]; exact v1.2, by rw [(m3.2 (k + 3) (by rw [p3]; exact Nat.lt_succ_self _) (nsk (by decide))).1]; exact v3.2, by rw [(m4.2 (k + 4) (by rw [p4]; exact Nat.lt_succ_self _) (nsk (by decide))).1]; exact v4.2⟩, ⟨V4, V5, V6, V23⟩, FGa, p15, bz⟩
  intro N S Q hN hS hQ
  refine z_aload_n dX9_init_0 rfl rfl ?_
  refine z_objInit Kobj_X9_1 Kobj_instanceMethod Kobj_code dX9_init_1 (Nat.le_trans (by decide) hd) (Nat.le_of_ble_eq_true rfl) ?_
  refine t1 N S Q (Nat.le_trans m1.1.1 hN) (Nat.le_trans c1 hS) ?_
  refine t2 N S Q (Nat.le_trans m2.1.1 hN) (Nat.le_trans c2 hS) ?_
  refine t3 N S Q (Nat.le_trans m3.1.1 hN) (Nat.le_trans c3 hS) ?_
  refine t4 N S Q (Nat.le_trans m4.1.1 hN) (Nat.le_trans c4 hS) ?_
  refine z_aload_n dX9_init_40 rfl rfl ?_
  refine z_iconst (v := -1) dX9_init_41 (by decide) ?_
  refine y_putI FX9_22 dX9_init_42 (by first | exact Or.inl rfl | exact Or.inr ⟨rfl, rfl⟩) (Or.inl rfl) o4 ?_
  rw [← e5]
  refine z_aload_n dX9_init_45 rfl rfl ?_
  refine z_iconst (v := -1) dX9_init_46 (by decide) ?_
  refine y_putI FX9_26 dX9_init_47 (by first | exact Or.inl rfl | exact Or.inr ⟨rfl, rfl⟩) (Or.inl rfl) o5 ?_
  rw [← e6]
  refine t7 N S Q (Nat.le_trans m7.1.1 hN) (Nat.le_trans c7 hS) ?_
  refine t8 N S Q (Nat.le_trans m8.1.1 hN) (Nat.le_trans c8 hS) ?_
  refine t9 N S Q (Nat.le_trans m9.1.1 hN) (Nat.le_trans c9 hS) ?_
  refine t10 N S Q (Nat.le_trans m10.1.1 hN) (Nat.le_trans c10 hS) ?_
  refine z_aload_n dX9_init_85 rfl rfl ?_
  refine z_iconst (v := 1) dX9_init_86 (by decide) ?_
  refine y_putI FX9_43 dX9_init_87 (by first | exact Or.inl rfl | exact Or.inr ⟨rfl, rfl⟩) (Or.inr ⟨rfl, by decide⟩) o10 ?_
  rw [← e11]
  refine t12 N S Q (Nat.le_trans m12.1.1 hN) (Nat.le_trans c12 hS) ?_
  refine t13 N S Q (Nat.le_trans m13.1.1 hN) (Nat.le_trans c13 hS) ?_
  refine t14 N S Q (Nat.le_trans m14.1.1 hN) (Nat.le_trans c14 hS) ?_
  refine t15 N S Q (Nat.le_trans m15.1.1 hN) (Nat.le_trans c15 hS) ?_
  exact hQ

set_option maxHeartbeats 1000000 in
theorem c_modelI {h : Hp} {k d : Nat} (ho : IO h 9 k) (hk : pn h = k + 1) (z : pI h k = fun _ => 0) (hd : 2 ≤ d) : ∃ h1, Sp d mX9_init [.ref k] h none h1 ∧ ST9 h1 k ∧ FG k h h1 ∧ pn h1 = k + 13 ∧ ps h1 = ps h + 20819 := by
  have k8 := ho.1
  obtain ⟨ha, ta, sa, ⟨Z1, Z3, Z4⟩, ⟨V4, V5, V6, V23⟩, FGa, pa, ba⟩ := c_modA (d := d) ho hk z hd
  have oA := sa.1
  have R0 := sa.2.1.1
  have A1 := sa.2.1.2
  have R1 := sa.2.2.1.1
  have A2 := sa.2.2.1.2
  obtain ⟨h8, e8⟩ : ∃ hh, hh = sI ha (k + 1) 9 191 := ⟨_, rfl⟩
  obtain ⟨hb, eb⟩ : ∃ hh, hh = sI h8 (k + 1) 3 (-1) := ⟨_, rfl⟩
  have s8 : SS ha h8 := by rw [e8]; rfl
  have sb : SS ha hb := by rw [eb, e8]; rfl
  have B1 : ∀ i, i < 4870 → pI hb (k + 1) i = cI a00 i := fun i hi => by
    rw [eb, pI_sI, if_pos rfl]
    by_cases i3 : i = 3
    · subst i3; rw [if_pos rfl]; rfl
    · rw [if_neg i3, e8, pI_sI, if_pos rfl, cI_n i3]
      by_cases i9 : i = 9
      · subst i9; rw [if_pos rfl]; rfl
      · rw [if_neg i9, Z1]
        show (0 : Int32) = nI (if i = 9 then 191 else 0)
        rw [if_neg i9]; rfl
  have Bn : ∀ a, a ≠ k + 1 → pI hb a = pI ha a := fun a ha => by rw [eb, pI_sI_ne ha, e8, pI_sI_ne ha]
  have Bj : pJ hb = pJ ha := by rw [eb, e8]; rfl
  obtain ⟨hc, ec⟩ : ∃ hh, hh = sA hb (k + 2) (cpyF (pI hb (k + 1)) (pI hb (k + 2)) 4870) := ⟨_, rfl⟩
  have sbc : SS hb hc := by rw [ec]; rfl
  have sc : SS ha hc := sb.tr sbc
  have Cn : ∀ a, a ≠ k + 2 → pI hc a = pI hb a := fun a ha => by rw [ec, pI_sA, if_neg ha]
  have C2 : ∀ i, i < 4870 → pI hc (k + 2) i = cI a00 i := fun i hi => by
    rw [ec, pI_sA, if_pos rfl]
    unfold cpyF
    rw [if_pos hi]
    exact B1 i hi
  have Cj : pJ hc = pJ ha := by rw [← Bj, ec]; rfl
  have s5 := r_copy (d := 0) (sb.A A1) (sb.A A2) (show k + 1 ≠ k + 2 by omega)
  rw [← ec] at s5
  have CB2 : ∀ a, a ≠ k + 1 → a ≠ k + 2 → pI hc a = pI ha a := fun a a1 a2 => (Cn a a2).trans (Bn a a1)
  refine ⟨hc, ?_, ⟨⟨sc.O oA, ⟨by rw [sc.R]; exact sa.2.1.1, sc.A sa.2.1.2⟩, ⟨by rw [sc.R]; exact sa.2.2.1.1, sc.A sa.2.2.1.2⟩, ⟨by rw [sc.R]; exact sa.2.2.2.1.1, sc.A sa.2.2.2.1.2⟩, ⟨by rw [sc.R]; exact sa.2.2.2.2.1.1, sc.A sa.2.2.2.2.1.2⟩, ⟨by rw [sc.R]; exact sa.2.2.2.2.2.1.1, sc.A sa.2.2.2.2.2.1.2⟩, ⟨by rw [sc.R]; exact sa.2.2.2.2.2.2.1.1, sc.A sa.2.2.2.2.2.2.1.2⟩, ⟨by rw [sc.R]; exact sa.2.2.2.2.2.2.2.1.1, sc.A sa.2.2.2.2.2.2.2.1.2⟩, ⟨by rw [sc.R]; exact sa.2.2.2.2.2.2.2.2.1.1, sc.A sa.2.2.2.2.2.2.2.2.1.2⟩, ⟨by rw [sc.R]; exact sa.2.2.2.2.2.2.2.2.2.1.1, sc.A sa.2.2.2.2.2.2.2.2.2.1.2⟩, ⟨by rw [sc.R]; exact sa.2.2.2.2.2.2.2.2.2.2.1.1, sc.A sa.2.2.2.2.2.2.2.2.2.2.1.2⟩, ⟨by rw [sc.R]; exact sa.2.2.2.2.2.2.2.2.2.2.2.1.1, sc.A sa.2.2.2.2.2.2.2.2.2.2.2.1.2⟩, ⟨by rw [sc.R]; exact sa.2.2.2.2.2.2.2.2.2.2.2.2.1, sc.A sa.2.2.2.2.2.2.2.2.2.2.2.2.2⟩⟩, fun i hi => by rw [Cn _ (by omega)]; exact B1 i hi, C2, by rw [CB2 _ (by omega) (by omega)]; exact Z4, by rw [CB2 _ (by omega) (by omega)]; exact V4, by rw [CB2 _ (by omega) (by omega)]; exact V5, by rw [CB2 _ (by omega) (by omega)]; exact V6, by rw [CB2 _ (by omega) (by omega)]; exact Z3, by rw [CB2 _ (by omega) (by omega)]; exact V23⟩, ⟨FGa.1.tr (EX.ss sc), by rw [sc.s]; exact FGa.2.1, fun a h0 => ⟨by rw [CB2 _ (by omega) (by omega)]; exact (FGa.2.2 a h0).1, by rw [Cj]; exact (FGa.2.2 a h0).2.1, by rw [sc.R]; exact (FGa.2.2 a h0).2.2⟩⟩, by rw [sc.n]; exact pa, by rw [sc.s]; exact ba⟩
  intro N S Q hN hS hQ
  rw [sc.n] at hN
  rw [sc.s] at hS
  refine ta N S Q hN hS ?_
  refine z_aload_n dX9_init_124 rfl rfl ?_
  refine y_getR FX9_7 dX9_init_125 rfl oA R0 ?_
  refine z_bipush (v := 9) dX9_init_128 (by decide) ?_
  refine z_sipush (v := 191) dX9_init_130 (by decide) ?_
  refine y_iasN 9 dX9_init_133 A1 (Nat.le_of_ble_eq_true rfl) rfl (by omega) ?_
  rw [← e8]
  refine z_aload_n dX9_init_134 rfl rfl ?_
  refine y_getR FX9_7 dX9_init_135 rfl (s8.O oA) (by rw [s8.R]; exact R0) ?_
  refine z_iconst (v := 3) dX9_init_138 (by decide) ?_
  refine z_iconst (v := -1) dX9_init_139 (by decide) ?_
  refine y_iasN 3 dX9_init_140 (s8.A A1) (Nat.le_of_ble_eq_true rfl) rfl (by omega) ?_
  rw [← eb]
  refine z_aload_n dX9_init_141 rfl rfl ?_
  refine y_getR FX9_7 dX9_init_142 rfl (sb.O oA) (by rw [sb.R]; exact R0) ?_
  refine z_aload_n dX9_init_145 rfl rfl ?_
  refine y_getR FX9_13 dX9_init_146 rfl (sb.O oA) (by rw [sb.R]; exact R1) ?_
  refine y_callS (as := [_, _]) CX9_copy LX9_59 SX9_copy dX9_init_149 rfl (Nat.le_of_ble_eq_true rfl) (Nat.le_of_ble_eq_true rfl) (by omega) s5 rok_v ⟨by rw [sbc.n]; exact Nat.le_refl _, by rw [sbc.s]; exact Nat.le_refl _, by rw [sc.n]; exact hN, by rw [sc.s]; exact hS⟩ ?_
  refine z_vret dX9_init_152 ?_
  exact hQ

