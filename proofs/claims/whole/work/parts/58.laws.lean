/-! the three laws of the reference (walks by program: wip/whole/gen58.py) -/
/-- the names of a fact's law; of a prophecy's -/
def envC (a W : Fl) (f v : Nat) : Int := if v = 0 then (W 1 : Int) else if v = 1 then (pcn (W 3) : Int) else if v = 2 then (f : Int) else if v = 3 then (a (110 + 2 * f) : Int) else if v = 4 then (a (110 + 2 * f + 1) : Int) else 0
def envP (W : Fl) (k v : Nat) : Int := if v = 0 then (W 1 : Int) else if v = 1 then (pcn (W 3) : Int) else if v = 5 then (W (pcx k 0) : Int) else if v = 6 then (W (ppx (W (pcx k 0)) 1) : Int) else if v = 7 then (W (ppx (W (pcx k 0)) 0) : Int) else if v = 8 then (W (pcx k 4) : Int) else if v = 9 then (pcn (W (pcx k 2)) : Int) else if v = 10 then (W (pcx k 3) : Int) - (W 1 : Int) else 0
def mComes (tf : Nat → Int32) (a W : Fl) (f : Nat) : Nat := mSays tf (a 3) 0 (envC a W f) (W 3) (a (110 + 2 * f)) 10
def mDues (tf : Nat → Int32) (t1 : Nat) (W : Fl) (k : Nat) : Nat := mSays tf t1 1 (envP W k) (W 3) (10 * W (pcx k 4)) 9999
def mRen (tf : Nat → Int32) (t1 : Nat) (W : Fl) (k : Nat) : Nat := mSays tf t1 2 (envP W k) (W 3) (pcn (W (pcx k 2))) 99
theorem b6_n {n : Nat} (h : n ≤ 1000000) : b6 (n : Int) := ⟨by omega, by omega⟩
theorem envC_b {a W : Fl} {f n : Nat} (h1 : W 1 ≤ 9999) (hf : f ≤ 8) (ho : a (110 + 2 * f) ≤ 10) (hc : a (110 + 2 * f + 1) ≤ 99) : ∀ v, b6 (envC a W f v) := by
  intro v
  have := pcn_le (W 3)
  unfold envC
  repeat' split
  all_goals first | exact b6_n (by omega) | exact ⟨by omega, by omega⟩
theorem envP_b {W : Fl} {k n : Nat} (hW : IW n W) (hk : k < W 4) : ∀ v, b6 (envP W k v) := by
  intro v
  obtain ⟨⟨b0, b1, b2, b3, b4, b5⟩, bp, bc, bb⟩ := hW
  have c := bc k hk
  have p := bp _ c.1
  have q1 := pcn_le (W 3)
  have q2 := pcn_le (W (pcx k 2))
  unfold envP
  repeat' split
  all_goals first | exact b6_n (by omega) | exact ⟨by omega, by omega⟩
/-- what a law of the reference may change -/
def FY (h h1 : Hp) : Prop := SS h h1 ∧ (∀ k, k ≠ 494 → k ≠ 496 → pI h1 k = pI h k) ∧ (∀ k, k ≠ 495 → pJ h1 k = pJ h k)
theorem FY.rf {h : Hp} : FY h h := ⟨rfl, fun _ _ _ => rfl, fun _ _ => rfl⟩
theorem FY.tr {a b c : Hp} (h1 : FY a b) (h2 : FY b c) : FY a c := ⟨h1.1.tr h2.1, fun k e1 e2 => (h2.2.1 k e1 e2).trans (h1.2.1 k e1 e2), fun k e => (h2.2.2 k e).trans (h1.2.2 k e)⟩
theorem FV.y {h h1 : Hp} (f : FV h h1) : FY h h1 := ⟨f.1, fun k _ e => f.2.1 k e, f.2.2⟩
theorem FY.sI {h h1 : Hp} {i : Nat} {v : Int32} (f : FY h h1) : FY h (sI h1 494 i v) := ⟨f.1, fun k e1 e2 => by rw [pI_sI_ne e1]; exact f.2.1 k e1 e2, f.2.2⟩
theorem FY.fm {h h1 : Hp} (f : FY h h1) : FM h h1 := ⟨f.1, fun k hk => ⟨f.2.1 k (by omega) (by omega), f.2.2 k (by omega)⟩⟩
theorem FY.rn {s : Ms} {h h1 : Hp} (f : FY h h1) (hr : RN s h) : RN s h1 := by
  obtain ⟨r1, r2, r3, r4, r5, r6, r7, r8⟩ := hr
  have e : ∀ k, k = 488 ∨ k = 489 ∨ k = 490 ∨ k = 491 ∨ k = 492 → pI h1 k = pI h k := fun k hk => f.2.1 k (by omega) (by omega)
  refine ⟨f.1.M r1, ?_, ?_, ?_, ?_, ?_, ?_, ?_⟩
  · rw [e 489 (by omega)]; exact r2
  · rw [e 490 (by omega)]; exact r3
  · rw [e 492 (by omega)]; exact r4
  · rw [e 488 (by omega)]; exact r5
  · rw [e 488 (by omega)]; exact r6
  · rw [e 488 (by omega)]; exact r7
  · rw [e 491 (by omega)]; exact r8
theorem iI_sub (a b : Nat) : nI a - nI b = iI ((a : Int) - b) := by
  rw [nI_i, nI_i]
  exact (Int32.ofInt_sub a b).symm
theorem RN.tf {s : Mr} {a : Fl} {h : Hp} (hr : RN (a, s) h) : ∀ i, i < 3012 → pI h 491 i = s.2.2.2.2.2 i := hr.2.2.2.2.2.2.2

theorem r_comesOf {s : Mr} {a W : Fl} {h : Hp} {d f n : Nat} (hr : RN (uns a W, s) h) (hW : IW n W) (hn : n = a 0) (h0 : a 0 ≤ 8) (h3 : a 3 ≤ 4) (hf : f < a 0) (hF : IFc a) (hT : a 3 ≠ 0 → TXV s.2.2.2.2.2 (a 3 - 1)) (hd : 4 ≤ d) : ∃ h1, Sp d mX9_comesOf [.ref 488, .int (nI f)] h (some (.int (nI (mComes s.2.2.2.2.2 a W f)))) h1 ∧ FY h h1 := by
  have hm := hr.m
  obtain ⟨⟨b0, b1, b2, b3, b4, b5⟩, bp, bc, bb⟩ := id hW
  obtain ⟨g1, g2⟩ := hF f hf
  have p2 : 2 ^ n ≤ 2 ^ 8 := Nat.pow_le_pow_right (by omega) (by omega)
  have fy : FY h (sI (sI (sI (sI (sI h 494 0 (nI (W 1))) 494 1 (nI (pcn (W 3)))) 494 2 (nI f)) 494 3 (nI (a (110 + 2 * f)))) 494 4 (nI (a (110 + 2 * f + 1)))) := ((((FY.rf.sI).sI).sI).sI).sI
  have he : NR (sI (sI (sI (sI (sI h 494 0 (nI (W 1))) 494 1 (nI (pcn (W 3)))) 494 2 (nI f)) 494 3 (nI (a (110 + 2 * f)))) 494 4 (nI (a (110 + 2 * f + 1)))) (0 = 0) (envC a W f) := by
    refine ⟨envC_b (n := n) b1 (by omega) g1 g2, fun v hv hc => ?_⟩
    have hv5 : v < 5 := by
      rcases hc with q | q
      · omega
      · exact q.mpr rfl
    rcases (show v = 0 ∨ v = 1 ∨ v = 2 ∨ v = 3 ∨ v = 4 by omega) with rfl | rfl | rfl | rfl | rfl
    · rw [pI_sI, if_pos rfl, if_neg (by omega), pI_sI, if_pos rfl, if_neg (by omega), pI_sI, if_pos rfl, if_neg (by omega), pI_sI, if_pos rfl, if_neg (by omega), pI_sI, if_pos rfl, if_pos rfl]; exact nI_i _
    · rw [pI_sI, if_pos rfl, if_neg (by omega), pI_sI, if_pos rfl, if_neg (by omega), pI_sI, if_pos rfl, if_neg (by omega), pI_sI, if_pos rfl, if_pos rfl]; exact nI_i _
    · rw [pI_sI, if_pos rfl, if_neg (by omega), pI_sI, if_pos rfl, if_neg (by omega), pI_sI, if_pos rfl, if_pos rfl]; exact nI_i _
    · rw [pI_sI, if_pos rfl, if_neg (by omega), pI_sI, if_pos rfl, if_pos rfl]; exact nI_i _
    · rw [pI_sI, if_pos rfl, if_pos rfl]; exact nI_i _
  obtain ⟨h2, f2, sp⟩ := r_says (d := 3) (t1 := a 3) (s := 0) (w := a (110 + 2 * f)) (top := 10) (tf := s.2.2.2.2.2) (fy.1.M hm) (fun i hi => by rw [fy.2.1 491 (by omega) (by omega)]; exact hr.tf i hi) h3 (by omega) hT he (f := a 0) (so := W 3) (by rw [fy.2.1 489 (by omega) (by omega)]; exact hr.oat (by omega)) (by rw [fy.2.1 489 (by omega) (by omega)]; exact hr.wat 3 rfl (by omega)) h0 (by rw [← hn]; exact b3) g1 (by omega) (Nat.le_refl _)
  refine ⟨h2, ?_, fy.tr f2.y⟩
  intro N S Q hN hS hQ
  have hN0 : pn (sI (sI (sI (sI (sI h 494 0 (nI (W 1))) 494 1 (nI (pcn (W 3)))) 494 2 (nI f)) 494 3 (nI (a (110 + 2 * f)))) 494 4 (nI (a (110 + 2 * f + 1)))) ≤ N := by rw [← f2.1.n]; exact hN
  have hS0 : ps (sI (sI (sI (sI (sI h 494 0 (nI (W 1))) 494 1 (nI (pcn (W 3)))) 494 2 (nI f)) 494 3 (nI (a (110 + 2 * f)))) 494 4 (nI (a (110 + 2 * f + 1)))) ≤ S := by rw [← f2.1.s]; exact hS
  have hN : pn h ≤ N := hN0
  have hS : ps h ≤ S := hS0
  refine z_aload_n dX9_comesOf_0 rfl rfl ?_
  refine y_getR FX9_32 dX9_comesOf_1 rfl hm.o hm.f_named ?_
  refine z_iconst (v := 0) dX9_comesOf_4 (by decide) ?_
  refine z_aload_n dX9_comesOf_5 rfl rfl ?_
  refine y_getR FX9_7 dX9_comesOf_6 rfl hm.o hm.f_a ?_
  refine z_bipush (v := 8) dX9_comesOf_9 (by decide) ?_
  refine y_ialN (8) dX9_comesOf_11 (by exact hm.A_a) (Nat.le_of_ble_eq_true rfl) (rfl) (by omega) ?_
  refine z_eqi (show _ = nI (W 1) from hr.wat 1 rfl (by omega)) ?_
  refine y_iasN 0 dX9_comesOf_12 (by exact hm.A_named) (Nat.le_of_ble_eq_true rfl) rfl (by omega) ?_
  refine z_aload_n dX9_comesOf_13 rfl rfl ?_
  refine y_getR FX9_32 dX9_comesOf_14 rfl hm.o hm.f_named ?_
  refine z_iconst (v := 1) dX9_comesOf_17 (by decide) ?_
  refine z_aload_n dX9_comesOf_18 rfl rfl ?_
  refine y_getR FX9_7 dX9_comesOf_19 rfl hm.o hm.f_a ?_
  refine z_bipush (v := 10) dX9_comesOf_22 (by decide) ?_
  refine y_ialN (10) dX9_comesOf_24 (by exact hm.A_a) (Nat.le_of_ble_eq_true rfl) (rfl) (by omega) ?_
  refine z_eqi (show _ = nI (W 3) by (repeat rw [pI_sI_ne (by omega)]); exact hr.wat 3 rfl (by omega)) ?_
  refine y_callS (as := [_]) CX9_bits LX9_310 SX9_bits dX9_comesOf_25 rfl (Nat.le_of_ble_eq_true rfl) (Nat.le_of_ble_eq_true rfl) (by omega) (r_bits (n := W 3) (by omega)) rok_i ⟨Nat.le_refl _, Nat.le_refl _, hN, hS⟩ ?_
  refine y_iasN 1 dX9_comesOf_28 (by exact hm.A_named) (Nat.le_of_ble_eq_true rfl) rfl (by omega) ?_
  refine z_aload_n dX9_comesOf_29 rfl rfl ?_
  refine y_getR FX9_32 dX9_comesOf_30 rfl hm.o hm.f_named ?_
  refine z_iconst (v := 2) dX9_comesOf_33 (by decide) ?_
  refine z_iload_n dX9_comesOf_34 rfl rfl ?_
  refine y_iasN 2 dX9_comesOf_35 (by exact hm.A_named) (Nat.le_of_ble_eq_true rfl) rfl (by omega) ?_
  refine z_aload_n dX9_comesOf_36 rfl rfl ?_
  refine y_getR FX9_32 dX9_comesOf_37 rfl hm.o hm.f_named ?_
  refine z_iconst (v := 3) dX9_comesOf_40 (by decide) ?_
  refine z_aload_n dX9_comesOf_41 rfl rfl ?_
  refine y_getR FX9_7 dX9_comesOf_42 rfl hm.o hm.f_a ?_
  refine z_bipush (v := 110) dX9_comesOf_45 (by decide) ?_
  refine z_iconst (v := 2) dX9_comesOf_47 (by decide) ?_
  refine z_iload_n dX9_comesOf_48 rfl rfl ?_
  refine z_imul dX9_comesOf_49 ?_
  refine z_iadd dX9_comesOf_50 ?_
  refine y_ialN (110 + 2 * f) dX9_comesOf_51 (by exact hm.A_a) (Nat.le_of_ble_eq_true rfl) (by first | rfl | (simp only [← nI_add, ← pk_mul]; rfl)) (by omega) ?_
  refine z_eqi (show _ = nI (a (110 + 2 * f)) by (repeat rw [pI_sI_ne (by omega)]); exact hr.oat (by omega)) ?_
  refine y_iasN 3 dX9_comesOf_52 (by exact hm.A_named) (Nat.le_of_ble_eq_true rfl) rfl (by omega) ?_
  refine z_aload_n dX9_comesOf_53 rfl rfl ?_
  refine y_getR FX9_32 dX9_comesOf_54 rfl hm.o hm.f_named ?_
  refine z_iconst (v := 4) dX9_comesOf_57 (by decide) ?_
  refine z_aload_n dX9_comesOf_58 rfl rfl ?_
  refine y_getR FX9_7 dX9_comesOf_59 rfl hm.o hm.f_a ?_
  refine z_bipush (v := 110) dX9_comesOf_62 (by decide) ?_
  refine z_iconst (v := 2) dX9_comesOf_64 (by decide) ?_
  refine z_iload_n dX9_comesOf_65 rfl rfl ?_
  refine z_imul dX9_comesOf_66 ?_
  refine z_iadd dX9_comesOf_67 ?_
  refine z_iconst (v := 1) dX9_comesOf_68 (by decide) ?_
  refine z_iadd dX9_comesOf_69 ?_
  refine y_ialN (110 + 2 * f + 1) dX9_comesOf_70 (by exact hm.A_a) (Nat.le_of_ble_eq_true rfl) (by first | rfl | (simp only [← nI_add, ← pk_mul]; rfl)) (by omega) ?_
  refine z_eqi (show _ = nI (a (110 + 2 * f + 1)) by (repeat rw [pI_sI_ne (by omega)]); exact hr.oat (by omega)) ?_
  refine y_iasN 4 dX9_comesOf_71 (by exact hm.A_named) (Nat.le_of_ble_eq_true rfl) rfl (by omega) ?_
  refine z_aload_n dX9_comesOf_72 rfl rfl ?_
  refine z_aload_n dX9_comesOf_73 rfl rfl ?_
  refine y_getR FX9_7 dX9_comesOf_74 rfl hm.o hm.f_a ?_
  refine z_iconst (v := 3) dX9_comesOf_77 (by decide) ?_
  refine y_ialN (3) dX9_comesOf_78 (by exact hm.A_a) (Nat.le_of_ble_eq_true rfl) (rfl) (by omega) ?_
  refine z_eqi (show _ = cT (a 3) by (repeat rw [pI_sI_ne (by omega)]); rw [hr.2.1 3 (by omega)]; exact (congrArg (fun z => nI z - 1) (uns_o (W := W) (by omega))).trans (cI_T a)) ?_
  refine z_iconst (v := 0) dX9_comesOf_79 (by decide) ?_
  refine z_aload_n dX9_comesOf_80 rfl rfl ?_
  refine y_getR FX9_32 dX9_comesOf_81 rfl hm.o hm.f_named ?_
  refine z_iconst (v := 3) dX9_comesOf_84 (by decide) ?_
  refine y_ialN 3 dX9_comesOf_85 (by exact hm.A_named) (Nat.le_of_ble_eq_true rfl) rfl (by omega) ?_
  refine z_eqi (show _ = nI (a (110 + 2 * f)) by rw [pI_sI, if_pos rfl, if_neg (by omega), pI_sI, if_pos rfl, if_pos rfl]) ?_
  refine z_bipush (v := 10) dX9_comesOf_86 (by decide) ?_
  refine y_callV (as := [_, _, _, _]) CX9_says LX9_313 IX9_says VX9_says ⟨rfl, Nat.le_of_ble_eq_true rfl⟩ dX9_comesOf_88 hm.o rfl (Nat.le_of_ble_eq_true rfl) (Nat.le_of_ble_eq_true rfl) (by omega) sp rok_i (hg_ss f2.1 hN0 hS0) ?_
  refine z_iret dX9_comesOf_91 ?_
  exact hQ

theorem r_nameProphecy {s : Mr} {a W : Fl} {h : Hp} {d k n : Nat} (hr : RN (uns a W, s) h) (hW : IW n W) (hn : n ≤ 8) (hk : k < W 4) (hd : 1 ≤ d) : ∃ h1, Sp d mX9_nameProphecy [.ref 488, .int (nI k)] h none h1 ∧ FY h h1 ∧ (∀ C : Prop, ¬ C → NR h1 C (envP W k)) ∧ pI h1 494 8 = nI (W (pcx k 4)) ∧ pI h1 494 9 = nI (pcn (W (pcx k 2))) := by
  have hm := hr.m
  have eb := envP_b hW hk
  obtain ⟨⟨b0, b1, b2, b3, b4, b5⟩, bp, bc, bb⟩ := id hW
  have cc := bc k hk
  have p2 : 2 ^ n ≤ 2 ^ 8 := Nat.pow_le_pow_right (by omega) (by omega)
  refine ⟨(sI (sI (sI (sI (sI (sI (sI (sI h 494 0 (nI (W 1))) 494 1 (nI (pcn (W 3)))) 494 5 (nI (W (pcx k 0)))) 494 6 (nI (W (ppx (W (pcx k 0)) 1)))) 494 7 (nI (W (ppx (W (pcx k 0)) 0)))) 494 8 (nI (W (pcx k 4)))) 494 9 (nI (pcn (W (pcx k 2))))) 494 10 (iI ((W (pcx k 3) : Int) - (W 1 : Int)))), ?_, (((((((FY.rf.sI).sI).sI).sI).sI).sI).sI).sI, ?_, ?_, ?_⟩
  · intro N S Q hN hS hQ
    have hN : pn h ≤ N := hN
    have hS : ps h ≤ S := hS
    refine z_aload_n dX9_nameProphecy_0 rfl rfl ?_
    refine z_iload_n dX9_nameProphecy_1 rfl rfl ?_
    refine z_iconst (v := 0) dX9_nameProphecy_2 (by decide) ?_
    refine y_callV (as := [_, _]) CX9_got LX9_67 IX9_got VX9_got ⟨rfl, Nat.le_of_ble_eq_true rfl⟩ dX9_nameProphecy_3 hm.o rfl (Nat.le_of_ble_eq_true rfl) (Nat.le_of_ble_eq_true rfl) (by omega) (r_got (j := k) (w := 0) (by exact (by exact hm)) (by omega) (by omega)) rok_i ⟨Nat.le_refl _, Nat.le_refl _, hN, hS⟩ ?_
    refine z_eqi (show _ = nI (W (pcx k 0)) by (repeat rw [pI_sI_ne (by omega)]); exact hr.wat _ (wx_pc (by omega) (by omega)).symm (by unfold pcx; omega)) ?_
    refine z_istore_n dX9_nameProphecy_6 rfl (Nat.le_of_ble_eq_true rfl) ?_
    refine z_aload_n dX9_nameProphecy_7 rfl rfl ?_
    refine y_getR FX9_32 dX9_nameProphecy_8 rfl hm.o hm.f_named ?_
    refine z_iconst (v := 0) dX9_nameProphecy_11 (by decide) ?_
    refine z_aload_n dX9_nameProphecy_12 rfl rfl ?_
    refine y_getR FX9_7 dX9_nameProphecy_13 rfl hm.o hm.f_a ?_
    refine z_bipush (v := 8) dX9_nameProphecy_16 (by decide) ?_
    refine y_ialN (8) dX9_nameProphecy_18 (by exact hm.A_a) (Nat.le_of_ble_eq_true rfl) (rfl) (by omega) ?_
    refine z_eqi (show _ = nI (W 1) from hr.wat 1 rfl (by omega)) ?_
    refine y_iasN 0 dX9_nameProphecy_19 (by exact hm.A_named) (Nat.le_of_ble_eq_true rfl) rfl (by omega) ?_
    refine z_aload_n dX9_nameProphecy_20 rfl rfl ?_
    refine y_getR FX9_32 dX9_nameProphecy_21 rfl hm.o hm.f_named ?_
    refine z_iconst (v := 1) dX9_nameProphecy_24 (by decide) ?_
    refine z_aload_n dX9_nameProphecy_25 rfl rfl ?_
    refine y_getR FX9_7 dX9_nameProphecy_26 rfl hm.o hm.f_a ?_
    refine z_bipush (v := 10) dX9_nameProphecy_29 (by decide) ?_
    refine y_ialN (10) dX9_nameProphecy_31 (by exact hm.A_a) (Nat.le_of_ble_eq_true rfl) (rfl) (by omega) ?_
    refine z_eqi (show _ = nI (W 3) by (repeat rw [pI_sI_ne (by omega)]); exact hr.wat 3 rfl (by omega)) ?_
    refine y_callS (as := [_]) CX9_bits LX9_310 SX9_bits dX9_nameProphecy_32 rfl (Nat.le_of_ble_eq_true rfl) (Nat.le_of_ble_eq_true rfl) (by omega) (r_bits (n := W 3) (by omega)) rok_i ⟨Nat.le_refl _, Nat.le_refl _, hN, hS⟩ ?_
    refine y_iasN 1 dX9_nameProphecy_35 (by exact hm.A_named) (Nat.le_of_ble_eq_true rfl) rfl (by omega) ?_
    refine z_aload_n dX9_nameProphecy_36 rfl rfl ?_
    refine y_getR FX9_32 dX9_nameProphecy_37 rfl hm.o hm.f_named ?_
    refine z_iconst (v := 5) dX9_nameProphecy_40 (by decide) ?_
    refine z_iload_n dX9_nameProphecy_41 rfl rfl ?_
    refine y_iasN 5 dX9_nameProphecy_42 (by exact hm.A_named) (Nat.le_of_ble_eq_true rfl) rfl (by omega) ?_
    refine z_aload_n dX9_nameProphecy_43 rfl rfl ?_
    refine y_getR FX9_32 dX9_nameProphecy_44 rfl hm.o hm.f_named ?_
    refine z_bipush (v := 6) dX9_nameProphecy_47 (by decide) ?_
    refine z_aload_n dX9_nameProphecy_49 rfl rfl ?_
    refine z_iload_n dX9_nameProphecy_50 rfl rfl ?_
    refine z_iconst (v := 1) dX9_nameProphecy_51 (by decide) ?_
    refine y_callV (as := [_, _]) CX9_get LX9_87 IX9_get VX9_get ⟨rfl, Nat.le_of_ble_eq_true rfl⟩ dX9_nameProphecy_52 hm.o rfl (Nat.le_of_ble_eq_true rfl) (Nat.le_of_ble_eq_true rfl) (by omega) (r_get (j := W (pcx k 0)) (w := 1) (by exact (by exact hm)) (by omega) (by omega)) rok_i ⟨Nat.le_refl _, Nat.le_refl _, hN, hS⟩ ?_
    refine z_eqi (show _ = nI (W (ppx (W (pcx k 0)) 1)) by (repeat rw [pI_sI_ne (by omega)]); exact hr.wat _ (wx_pp (by omega) (by omega)).symm (by unfold ppx; omega)) ?_
    refine y_iasN 6 dX9_nameProphecy_55 (by exact hm.A_named) (Nat.le_of_ble_eq_true rfl) rfl (by omega) ?_
    refine z_aload_n dX9_nameProphecy_56 rfl rfl ?_
    refine y_getR FX9_32 dX9_nameProphecy_57 rfl hm.o hm.f_named ?_
    refine z_bipush (v := 7) dX9_nameProphecy_60 (by decide) ?_
    refine z_aload_n dX9_nameProphecy_62 rfl rfl ?_
    refine z_iload_n dX9_nameProphecy_63 rfl rfl ?_
    refine z_iconst (v := 0) dX9_nameProphecy_64 (by decide) ?_
    refine y_callV (as := [_, _]) CX9_get LX9_87 IX9_get VX9_get ⟨rfl, Nat.le_of_ble_eq_true rfl⟩ dX9_nameProphecy_65 hm.o rfl (Nat.le_of_ble_eq_true rfl) (Nat.le_of_ble_eq_true rfl) (by omega) (r_get (j := W (pcx k 0)) (w := 0) (by exact (by exact hm)) (by omega) (by omega)) rok_i ⟨Nat.le_refl _, Nat.le_refl _, hN, hS⟩ ?_
    refine z_eqi (show _ = nI (W (ppx (W (pcx k 0)) 0)) by (repeat rw [pI_sI_ne (by omega)]); exact hr.wat _ (wx_pp (by omega) (by omega)).symm (by unfold ppx; omega)) ?_
    refine y_iasN 7 dX9_nameProphecy_68 (by exact hm.A_named) (Nat.le_of_ble_eq_true rfl) rfl (by omega) ?_
    refine z_aload_n dX9_nameProphecy_69 rfl rfl ?_
    refine y_getR FX9_32 dX9_nameProphecy_70 rfl hm.o hm.f_named ?_
    refine z_bipush (v := 8) dX9_nameProphecy_73 (by decide) ?_
    refine z_aload_n dX9_nameProphecy_75 rfl rfl ?_
    refine z_iload_n dX9_nameProphecy_76 rfl rfl ?_
    refine z_iconst (v := 4) dX9_nameProphecy_77 (by decide) ?_
    refine y_callV (as := [_, _]) CX9_got LX9_67 IX9_got VX9_got ⟨rfl, Nat.le_of_ble_eq_true rfl⟩ dX9_nameProphecy_78 hm.o rfl (Nat.le_of_ble_eq_true rfl) (Nat.le_of_ble_eq_true rfl) (by omega) (r_got (j := k) (w := 4) (by exact (by exact hm)) (by omega) (by omega)) rok_i ⟨Nat.le_refl _, Nat.le_refl _, hN, hS⟩ ?_
    refine z_eqi (show _ = nI (W (pcx k 4)) by (repeat rw [pI_sI_ne (by omega)]); exact hr.wat _ (wx_pc (by omega) (by omega)).symm (by unfold pcx; omega)) ?_
    refine y_iasN 8 dX9_nameProphecy_81 (by exact hm.A_named) (Nat.le_of_ble_eq_true rfl) rfl (by omega) ?_
    refine z_aload_n dX9_nameProphecy_82 rfl rfl ?_
    refine y_getR FX9_32 dX9_nameProphecy_83 rfl hm.o hm.f_named ?_
    refine z_bipush (v := 9) dX9_nameProphecy_86 (by decide) ?_
    refine z_aload_n dX9_nameProphecy_88 rfl rfl ?_
    refine z_iload_n dX9_nameProphecy_89 rfl rfl ?_
    refine z_iconst (v := 2) dX9_nameProphecy_90 (by decide) ?_
    refine y_callV (as := [_, _]) CX9_got LX9_67 IX9_got VX9_got ⟨rfl, Nat.le_of_ble_eq_true rfl⟩ dX9_nameProphecy_91 hm.o rfl (Nat.le_of_ble_eq_true rfl) (Nat.le_of_ble_eq_true rfl) (by omega) (r_got (j := k) (w := 2) (by exact (by exact hm)) (by omega) (by omega)) rok_i ⟨Nat.le_refl _, Nat.le_refl _, hN, hS⟩ ?_
    refine z_eqi (show _ = nI (W (pcx k 2)) by (repeat rw [pI_sI_ne (by omega)]); exact hr.wat _ (wx_pc (by omega) (by omega)).symm (by unfold pcx; omega)) ?_
    refine y_callS (as := [_]) CX9_bits LX9_310 SX9_bits dX9_nameProphecy_94 rfl (Nat.le_of_ble_eq_true rfl) (Nat.le_of_ble_eq_true rfl) (by omega) (r_bits (n := W (pcx k 2)) (by omega)) rok_i ⟨Nat.le_refl _, Nat.le_refl _, hN, hS⟩ ?_
    refine y_iasN 9 dX9_nameProphecy_97 (by exact hm.A_named) (Nat.le_of_ble_eq_true rfl) rfl (by omega) ?_
    refine z_aload_n dX9_nameProphecy_98 rfl rfl ?_
    refine y_getR FX9_32 dX9_nameProphecy_99 rfl hm.o hm.f_named ?_
    refine z_bipush (v := 10) dX9_nameProphecy_102 (by decide) ?_
    refine z_aload_n dX9_nameProphecy_104 rfl rfl ?_
    refine z_iload_n dX9_nameProphecy_105 rfl rfl ?_
    refine z_iconst (v := 3) dX9_nameProphecy_106 (by decide) ?_
    refine y_callV (as := [_, _]) CX9_got LX9_67 IX9_got VX9_got ⟨rfl, Nat.le_of_ble_eq_true rfl⟩ dX9_nameProphecy_107 hm.o rfl (Nat.le_of_ble_eq_true rfl) (Nat.le_of_ble_eq_true rfl) (by omega) (r_got (j := k) (w := 3) (by exact (by exact hm)) (by omega) (by omega)) rok_i ⟨Nat.le_refl _, Nat.le_refl _, hN, hS⟩ ?_
    refine z_eqi (show _ = nI (W (pcx k 3)) by (repeat rw [pI_sI_ne (by omega)]); exact hr.wat _ (wx_pc (by omega) (by omega)).symm (by unfold pcx; omega)) ?_
    refine z_aload_n dX9_nameProphecy_110 rfl rfl ?_
    refine y_getR FX9_7 dX9_nameProphecy_111 rfl hm.o hm.f_a ?_
    refine z_bipush (v := 8) dX9_nameProphecy_114 (by decide) ?_
    refine y_ialN (8) dX9_nameProphecy_116 (by exact hm.A_a) (Nat.le_of_ble_eq_true rfl) (rfl) (by omega) ?_
    refine z_eqi (show _ = nI (W 1) by (repeat rw [pI_sI_ne (by omega)]); exact hr.wat 1 rfl (by omega)) ?_
    refine z_isub dX9_nameProphecy_117 ?_
    refine z_eqi (iI_sub _ _) ?_
    refine y_iasN 10 dX9_nameProphecy_118 (by exact hm.A_named) (Nat.le_of_ble_eq_true rfl) rfl (by omega) ?_
    refine z_vret dX9_nameProphecy_119 ?_
    exact hQ
  · intro C hC
    refine ⟨eb, fun v hv hc => ?_⟩
    have hv5 : v = 0 ∨ v = 1 ∨ v = 5 ∨ v = 6 ∨ v = 7 ∨ v = 8 ∨ v = 9 ∨ v = 10 := by
      rcases hc with q | q
      · omega
      · have : ¬ v < 5 := fun z => hC (q.mp z)
        omega
    rcases hv5 with rfl | rfl | rfl | rfl | rfl | rfl | rfl | rfl
    · rw [pI_sI, if_pos rfl, if_neg (by omega), pI_sI, if_pos rfl, if_neg (by omega), pI_sI, if_pos rfl, if_neg (by omega), pI_sI, if_pos rfl, if_neg (by omega), pI_sI, if_pos rfl, if_neg (by omega), pI_sI, if_pos rfl, if_neg (by omega), pI_sI, if_pos rfl, if_neg (by omega), pI_sI, if_pos rfl, if_pos rfl]; exact nI_i _
    · rw [pI_sI, if_pos rfl, if_neg (by omega), pI_sI, if_pos rfl, if_neg (by omega), pI_sI, if_pos rfl, if_neg (by omega), pI_sI, if_pos rfl, if_neg (by omega), pI_sI, if_pos rfl, if_neg (by omega), pI_sI, if_pos rfl, if_neg (by omega), pI_sI, if_pos rfl, if_pos rfl]; exact nI_i _
    · rw [pI_sI, if_pos rfl, if_neg (by omega), pI_sI, if_pos rfl, if_neg (by omega), pI_sI, if_pos rfl, if_neg (by omega), pI_sI, if_pos rfl, if_neg (by omega), pI_sI, if_pos rfl, if_neg (by omega), pI_sI, if_pos rfl, if_pos rfl]; exact nI_i _
    · rw [pI_sI, if_pos rfl, if_neg (by omega), pI_sI, if_pos rfl, if_neg (by omega), pI_sI, if_pos rfl, if_neg (by omega), pI_sI, if_pos rfl, if_neg (by omega), pI_sI, if_pos rfl, if_pos rfl]; exact nI_i _
    · rw [pI_sI, if_pos rfl, if_neg (by omega), pI_sI, if_pos rfl, if_neg (by omega), pI_sI, if_pos rfl, if_neg (by omega), pI_sI, if_pos rfl, if_pos rfl]; exact nI_i _
    · rw [pI_sI, if_pos rfl, if_neg (by omega), pI_sI, if_pos rfl, if_neg (by omega), pI_sI, if_pos rfl, if_pos rfl]; exact nI_i _
    · rw [pI_sI, if_pos rfl, if_neg (by omega), pI_sI, if_pos rfl, if_pos rfl]; exact nI_i _
    · rw [pI_sI, if_pos rfl, if_pos rfl]; rfl
  · rw [pI_sI, if_pos rfl, if_neg (by omega), pI_sI, if_pos rfl, if_neg (by omega), pI_sI, if_pos rfl, if_pos rfl]
  · rw [pI_sI, if_pos rfl, if_neg (by omega), pI_sI, if_pos rfl, if_pos rfl]

theorem r_duesOf {s : Mr} {a W : Fl} {h : Hp} {d k n t1 : Nat} (hr : RN (uns a W, s) h) (hW : IW n W) (hn : n = a 0) (h0 : a 0 ≤ 8) (h3 : t1 ≤ 4) (hk : k < W 4) (hT : t1 ≠ 0 → TXV s.2.2.2.2.2 (t1 - 1)) (hd : 4 ≤ d) : ∃ h1, Sp d mX9_duesOf [.ref 488, .int (cT t1), .int (nI k)] h (some (.int (nI (mDues s.2.2.2.2.2 t1 W k)))) h1 ∧ FY h h1 := by
  have hm := hr.m
  have b3 := hW.1.2.2.2.1
  have c4 := hW.2.2.1 k hk
  have q2 := pcn_le (W (pcx k 2))
  obtain ⟨h1, sp1, fy, he, e8, e9⟩ := r_nameProphecy (d := 3) hr hW (by omega) hk (by omega)
  have hm1 := fy.1.M hm
  obtain ⟨h2, f2, sp⟩ := r_says (d := 3) (t1 := t1) (s := 1) (w := 10 * W (pcx k 4)) (top := 9999) (tf := s.2.2.2.2.2) hm1 (fun i hi => by rw [fy.2.1 491 (by omega) (by omega)]; exact hr.tf i hi) h3 (by omega) hT (he _ (by omega)) (f := a 0) (so := W 3) (by rw [fy.2.1 489 (by omega) (by omega)]; exact hr.oat (by omega)) (by rw [fy.2.1 489 (by omega) (by omega)]; exact hr.wat 3 rfl (by omega)) h0 (by rw [← hn]; exact b3) (by omega) (by omega) (Nat.le_refl _)
  refine ⟨h2, ?_, fy.tr f2.y⟩
  intro N S Q hN hS hQ
  have hN1 : pn h1 ≤ N := by rw [← f2.1.n]; exact hN
  have hS1 : ps h1 ≤ S := by rw [← f2.1.s]; exact hS
  have hN : pn h ≤ N := by rw [← fy.1.n]; exact hN1
  have hS : ps h ≤ S := by rw [← fy.1.s]; exact hS1
  refine z_aload_n dX9_duesOf_0 rfl rfl ?_
  refine z_iload_n dX9_duesOf_1 rfl rfl ?_
  refine y_callV (as := [_]) CX9_nameProphecy LX9_317 IX9_nameProphecy VX9_nameProphecy ⟨rfl, Nat.le_of_ble_eq_true rfl⟩ dX9_duesOf_2 hm.o rfl (Nat.le_of_ble_eq_true rfl) (Nat.le_of_ble_eq_true rfl) (by omega) sp1 rok_v (hg_ss fy.1 hN hS) ?_
  refine z_aload_n dX9_duesOf_5 rfl rfl ?_
  refine z_iload_n dX9_duesOf_6 rfl rfl ?_
  refine z_iconst (v := 1) dX9_duesOf_7 (by decide) ?_
  refine z_bipush (v := 10) dX9_duesOf_8 (by decide) ?_
  refine z_aload_n dX9_duesOf_10 rfl rfl ?_
  refine y_getR FX9_32 dX9_duesOf_11 rfl (fy.1.O hm.o) (by first | (rw [fy.1.R]; exact hm.f_named) | exact (congrFun (congrFun fy.1.R _) _).trans hm.f_named) ?_
  refine z_bipush (v := 8) dX9_duesOf_14 (by decide) ?_
  refine y_ialN 8 dX9_duesOf_16 (by exact hm1.A_named) (Nat.le_of_ble_eq_true rfl) rfl (by omega) ?_
  refine z_eqi e8 ?_
  refine z_imul dX9_duesOf_17 ?_
  refine z_eqi (pk_mul 10 (W (pcx k 4))) ?_
  refine z_sipush (v := 9999) dX9_duesOf_18 (by decide) ?_
  refine y_callV (as := [_, _, _, _]) CX9_says LX9_313 IX9_says VX9_says ⟨rfl, Nat.le_of_ble_eq_true rfl⟩ dX9_duesOf_21 (fy.1.O hm.o) rfl (Nat.le_of_ble_eq_true rfl) (Nat.le_of_ble_eq_true rfl) (by omega) sp rok_i (hg_ss f2.1 hN1 hS1) ?_
  refine z_iret dX9_duesOf_24 ?_
  exact hQ

theorem r_renownOf {s : Mr} {a W : Fl} {h : Hp} {d k n t1 : Nat} (hr : RN (uns a W, s) h) (hW : IW n W) (hn : n = a 0) (h0 : a 0 ≤ 8) (h3 : t1 ≤ 4) (hk : k < W 4) (hT : t1 ≠ 0 → TXV s.2.2.2.2.2 (t1 - 1)) (ht1 : t1 = a 3) (hd : 4 ≤ d) : ∃ h1, Sp d mX9_renownOf [.ref 488, .int (nI k)] h (some (.int (nI (mRen s.2.2.2.2.2 t1 W k)))) h1 ∧ FY h h1 := by
  have hm := hr.m
  have b3 := hW.1.2.2.2.1
  have c4 := hW.2.2.1 k hk
  have q2 := pcn_le (W (pcx k 2))
  obtain ⟨h1, sp1, fy, he, e8, e9⟩ := r_nameProphecy (d := 3) hr hW (by omega) hk (by omega)
  have hm1 := fy.1.M hm
  obtain ⟨h2, f2, sp⟩ := r_says (d := 3) (t1 := t1) (s := 2) (w := pcn (W (pcx k 2))) (top := 99) (tf := s.2.2.2.2.2) hm1 (fun i hi => by rw [fy.2.1 491 (by omega) (by omega)]; exact hr.tf i hi) h3 (by omega) hT (he _ (by omega)) (f := a 0) (so := W 3) (by rw [fy.2.1 489 (by omega) (by omega)]; exact hr.oat (by omega)) (by rw [fy.2.1 489 (by omega) (by omega)]; exact hr.wat 3 rfl (by omega)) h0 (by rw [← hn]; exact b3) (by omega) (by omega) (Nat.le_refl _)
  refine ⟨h2, ?_, fy.tr f2.y⟩
  intro N S Q hN hS hQ
  have hN1 : pn h1 ≤ N := by rw [← f2.1.n]; exact hN
  have hS1 : ps h1 ≤ S := by rw [← f2.1.s]; exact hS
  have hN : pn h ≤ N := by rw [← fy.1.n]; exact hN1
  have hS : ps h ≤ S := by rw [← fy.1.s]; exact hS1
  refine z_aload_n dX9_renownOf_0 rfl rfl ?_
  refine z_iload_n dX9_renownOf_1 rfl rfl ?_
  refine y_callV (as := [_]) CX9_nameProphecy LX9_317 IX9_nameProphecy VX9_nameProphecy ⟨rfl, Nat.le_of_ble_eq_true rfl⟩ dX9_renownOf_2 hm.o rfl (Nat.le_of_ble_eq_true rfl) (Nat.le_of_ble_eq_true rfl) (by omega) sp1 rok_v (hg_ss fy.1 hN hS) ?_
  refine z_aload_n dX9_renownOf_5 rfl rfl ?_
  refine z_aload_n dX9_renownOf_6 rfl rfl ?_
  refine y_getR FX9_7 dX9_renownOf_7 rfl (fy.1.O hm.o) (by first | (rw [fy.1.R]; exact hm.f_a) | exact (congrFun (congrFun fy.1.R _) _).trans hm.f_a) ?_
  refine z_iconst (v := 3) dX9_renownOf_10 (by decide) ?_
  refine y_ialN 3 dX9_renownOf_11 (by exact hm1.A_a) (Nat.le_of_ble_eq_true rfl) rfl (by omega) ?_
  refine z_eqi (show _ = cT t1 by rw [ht1, fy.2.1 489 (by omega) (by omega), hr.2.1 3 (by omega)]; exact (congrArg (fun z => nI z - 1) (uns_o (W := W) (by omega))).trans (cI_T a)) ?_
  refine z_iconst (v := 2) dX9_renownOf_12 (by decide) ?_
  refine z_aload_n dX9_renownOf_13 rfl rfl ?_
  refine y_getR FX9_32 dX9_renownOf_14 rfl (fy.1.O hm.o) (by first | (rw [fy.1.R]; exact hm.f_named) | exact (congrFun (congrFun fy.1.R _) _).trans hm.f_named) ?_
  refine z_bipush (v := 9) dX9_renownOf_17 (by decide) ?_
  refine y_ialN 9 dX9_renownOf_19 (by exact hm1.A_named) (Nat.le_of_ble_eq_true rfl) rfl (by omega) ?_
  refine z_eqi e9 ?_
  refine z_bipush (v := 99) dX9_renownOf_20 (by decide) ?_
  refine y_callV (as := [_, _, _, _]) CX9_says LX9_313 IX9_says VX9_says ⟨rfl, Nat.le_of_ble_eq_true rfl⟩ dX9_renownOf_22 (fy.1.O hm.o) rfl (Nat.le_of_ble_eq_true rfl) (Nat.le_of_ble_eq_true rfl) (by omega) sp rok_i (hg_ss f2.1 hN1 hS1) ?_
  refine z_iret dX9_renownOf_25 ?_
  exact hQ

