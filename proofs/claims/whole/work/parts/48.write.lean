/-! the book is written: both sides (walks by program: wip/whole/gen48.py) -/
abbrev Mr : Type := Fl × Fl × Nat × Int32 × Int32 × (Nat → Int32)
/-- as RM, but for whether the book is written -/
def RN (s : Ms) (h : Hp) : Prop := SM h ∧ (∀ i, i < 4870 → pI h 489 i = cI s.1 i) ∧ (∀ i, i < 4870 → pI h 490 i = cI s.2.1 i) ∧ (∀ i, i < 300 → pI h 492 i = nI (s.2.2.1 i)) ∧ pI h 488 4 = nI s.2.2.2.1 ∧ pI h 488 5 = s.2.2.2.2.1 ∧ pI h 488 6 = s.2.2.2.2.2.1 ∧ (∀ i, i < 3012 → pI h 491 i = s.2.2.2.2.2.2 i)
theorem RM.n {s : Ms} {h : Hp} (hr : RM s h) : RN s h ∧ pI h 488 23 = nI 1 := ⟨⟨hr.1, hr.2.1, hr.2.2.1, hr.2.2.2.1, hr.2.2.2.2.1, hr.2.2.2.2.2.1, hr.2.2.2.2.2.2.1, hr.2.2.2.2.2.2.2.1⟩, hr.2.2.2.2.2.2.2.2⟩
theorem RN.rm {s : Ms} {h : Hp} (hr : RN s h) (e : pI h 488 23 = nI 1) : RM s h := ⟨hr.1, hr.2.1, hr.2.2.1, hr.2.2.2.1, hr.2.2.2.2.1, hr.2.2.2.2.2.1, hr.2.2.2.2.2.2.1, hr.2.2.2.2.2.2.2, e⟩
theorem RN.m {s : Ms} {h : Hp} (hr : RN s h) : SM h := hr.1
theorem RN.at {s : Ms} {h : Hp} {i : Nat} (hr : RN s h) (hi : i < 4870) (h3 : i ≠ 3) : pI h 489 i = nI (s.1 i) := by rw [hr.2.1 i hi, cI_n h3]
theorem RN.sA {s : Ms} {h : Hp} {a' : Fl} {F : Nat → Int32} (hr : RN s h) (hF : ∀ j, j < 4870 → F j = cI a' j) : RN (a', s.2) (sA h 489 F) := by
  obtain ⟨r1, r2, r3, r4, r5, r6, r7, r8⟩ := hr
  refine ⟨r1, fun j hj => ?_, fun j hj => ?_, fun j hj => ?_, ?_, ?_, ?_, fun j hj => ?_⟩
  · rw [pI_sA_s]; exact hF j hj
  · rw [pI_sA_ne (by omega)]; exact r3 j hj
  · rw [pI_sA_ne (by omega)]; exact r4 j hj
  · rw [pI_sA_ne (by omega)]; exact r5
  · rw [pI_sA_ne (by omega)]; exact r6
  · rw [pI_sA_ne (by omega)]; exact r7
  · rw [pI_sA_ne (by omega)]; exact r8 j hj
theorem RN.aN {s : Ms} {h : Hp} {i v : Nat} {x : Int32} (hr : RN s h) (hi : i ≠ 3) (hx : x = nI v) : RN (up s.1 i v, s.2) (sI h 489 i x) := by
  rw [sI_row]
  refine hr.sA (fun j hj => ?_)
  rw [cI_up hi]
  by_cases h1 : j = i
  · rw [if_pos h1, if_pos h1, hx]
  · rw [if_neg h1, if_neg h1]; exact hr.2.1 j hj
theorem RN.w {s : Mr} {a W : Fl} {h : Hp} {i j v : Nat} {x : Int32} (hr : RN (uns a W, s) h) (hi : i = wx j) (hj : j < 153) (hx : x = nI v) : RN (uns a (up W j v), s) (sI h 489 i x) := by
  subst hi
  have := hr.aN (i := wx j) (v := v) (x := x) (wx_lt hj).2 hx
  show RN (uns a (up W j v), s) _
  rw [← uns_up hj]
  exact this
theorem RN.wat {s : Mr} {a W : Fl} {h : Hp} {i : Nat} (hr : RN (uns a W, s) h) (j : Nat) (hi : i = wx j) (hj : j < 153) : pI h 489 i = nI (W j) := by
  subst hi
  rw [hr.at (wx_lt hj).1 (wx_lt hj).2]
  show nI (uns a W (wx j)) = _
  rw [uns_wx hj]
theorem RN.un {s : Ms} {h : Hp} (hr : RN s h) : RN (uns s.1 (snap s.1), s.2) h := by rw [uns_snap]; exact hr
theorem RN.oat {s : Mr} {a W : Fl} {h : Hp} {i : Nat} (hr : RN (uns a W, s) h) (hi : i ≠ 1 ∧ i ≠ 3 ∧ (i < 8 ∨ (110 ≤ i ∧ i < 4810))) : pI h 489 i = nI (a i) := by
  rw [hr.at (by omega) (by omega)]
  show nI (uns a W i) = _
  rw [uns_o (by omega)]
theorem RN.sS {s : Ms} {h : Hp} {i : Nat} {v : Int32} (hr : RN s h) (hi : i ≠ 4 ∧ i ≠ 5 ∧ i ≠ 6) : RN s (sI h 488 i v) := by
  obtain ⟨r1, r2, r3, r4, r5, r6, r7, r8⟩ := hr
  refine ⟨r1, fun j hj => ?_, fun j hj => ?_, fun j hj => ?_, ?_, ?_, ?_, fun j hj => ?_⟩
  · rw [pI_sI_ne (by omega)]; exact r2 j hj
  · rw [pI_sI_ne (by omega)]; exact r3 j hj
  · rw [pI_sI_ne (by omega)]; exact r4 j hj
  · rw [pI_sI, if_pos rfl, if_neg (by omega)]; exact r5
  · rw [pI_sI, if_pos rfl, if_neg (by omega)]; exact r6
  · rw [pI_sI, if_pos rfl, if_neg (by omega)]; exact r7
  · rw [pI_sI_ne (by omega)]; exact r8 j hj
/-- room for one more entry -/
def shB (W : Fl) : Fl := if W 5 = 30 then (fun i => if i = 5 then 29 else cpG W 93 95 58 i) else W
def wBook (W : Fl) (v : Nat) : Fl := up (up (up (shB W) (93 + 2 * shB W 5) (W 1)) (93 + 2 * shB W 5 + 1) v) 5 (shB W 5 + 1)
def wWrite (W : Fl) (k what much : Nat) : Fl := wBook W ((k * 4 + what) * 10000 + much)
theorem shB_5 {W : Fl} (h : W 5 ≤ 30) : shB W 5 ≤ 29 := by
  unfold shB
  split
  · show (if (5 : Nat) = 5 then 29 else _) ≤ 29
    rw [if_pos rfl]
    exact Nat.le_refl _
  · omega
theorem shB_o {W : Fl} {i : Nat} (h5 : i ≠ 5) (h : ¬ (93 ≤ i ∧ i < 151)) : shB W i = W i := by
  unfold shB
  split
  · show (if i = 5 then 29 else cpG W 93 95 58 i) = W i
    rw [if_neg h5, cpG_out (by omega)]
  · rfl
theorem wWrite_o {W : Fl} {k what much i : Nat} (h30 : W 5 ≤ 30) (h5 : i ≠ 5) (h : ¬ (93 ≤ i ∧ i < 153)) : wWrite W k what much i = W i := by
  have := shB_5 h30
  unfold wWrite wBook
  rw [up_n h5, up_n (by omega), up_n (by omega), shB_o h5 (by omega)]
theorem uns_shB {a W : Fl} (hW : W 5 = 30) : uns a (shB W) = fun j => if j = 12 then 29 else cpG (uns a W) 4810 4812 58 j := by
  funext j
  by_cases h : ∃ k, k < 153 ∧ j = wx k
  · obtain ⟨k, hk, rfl⟩ := h
    rw [uns_wx hk]
    unfold shB
    rw [if_pos hW]
    show (if k = 5 then 29 else cpG W 93 95 58 k) = _
    by_cases h5 : k = 5
    · subst h5; rfl
    · rw [if_neg h5, if_neg (show ¬ wx k = 12 from fun q => h5 (wx_inj hk (show 5 < 153 by omega) q))]
      by_cases hb : 93 ≤ k ∧ k < 93 + 58
      · have e := wx_b (i := k - 93)
        rw [show 93 + (k - 93) = k by omega] at e
        rw [cpG_in hb, e, cpG_in (by omega)]
        have e2 := wx_b (i := k - 93 + 2)
        rw [show 4812 + (4810 + (k - 93) - 4810) = wx (95 + (k - 93)) by rw [show 95 + (k - 93) = 93 + (k - 93 + 2) by omega, e2]; omega, uns_wx (by omega)]
      · rw [cpG_out hb, cpG_out, uns_wx hk]
        intro q
        apply hb
        unfold wx at q
        split at q
        · omega
        · split at q
          · omega
          · split at q
            · omega
            · split at q <;> omega
  · have h' : ∀ k, k < 153 → j ≠ wx k := fun k hk q => h ⟨k, hk, q⟩
    rw [uns_out h', if_neg (show ¬ j = 12 from h' 5 (by omega)), cpG_out, uns_out h']
    intro q
    refine h' (93 + (j - 4810)) (by omega) ?_
    rw [wx_b]
    omega

theorem r_write_l {h : Hp} {f : Nat → Int32} {d N S : Nat} {o1 o2 : Option Value} {x3 : Int32} {Q : Option Value → Hp → Prop} (hm : SM h) (K : T d N S mX9_write 60 [some (.ref 488), o1, o2, some (.int x3), some (.int (nI (58 + 2)))] [] (sA h 489 (cpG f 4810 4812 58)) Q) : ∀ r i : Nat, i + r = 58 → T d N S mX9_write 23 [some (.ref 488), o1, o2, some (.int x3), some (.int (nI (i + 2)))] [] (sA h 489 (cpG f 4810 4812 i)) Q := by
  intro r
  induction r with
  | zero =>
    intro i hi
    have e : i = 58 := by omega
    rw [e]
    refine z_iload dX9_write_23 rfl ?_
    refine z_bipush (v := 60) dX9_write_25 (by decide) ?_
    refine z_icmp_ge dX9_write_27 rfl (fun _ => ?_) (fun c => absurd (by decide) c)
    exact K
  | succ r ih =>
    intro i hi
    refine z_iload dX9_write_23 rfl ?_
    refine z_bipush (v := 60) dX9_write_25 (by decide) ?_
    refine z_icmp_ge dX9_write_27 rfl (fun c => absurd c (fun q => absurd ((nI_leI (a := 60) (by omega) (by omega)).mp q) (by omega))) (fun _ => ?_)
    refine z_aload_n dX9_write_30 rfl rfl ?_
    refine y_getR FX9_7 dX9_write_31 rfl hm.o hm.f_a ?_
    refine z_sipush (v := 4810) dX9_write_34 (by decide) ?_
    refine z_iload dX9_write_37 rfl ?_
    refine z_iadd dX9_write_39 ?_
    refine z_iconst (v := 2) dX9_write_40 (by decide) ?_
    refine z_isub dX9_write_41 ?_
    refine z_eqi (show nI 4810 + nI (i + 2) - nI 2 = nI (4810 + i) by rw [nI_add, pk_sub (by omega)]; exact congrArg nI (by omega)) ?_
    refine z_aload_n dX9_write_42 rfl rfl ?_
    refine y_getR FX9_7 dX9_write_43 rfl hm.o hm.f_a ?_
    refine z_sipush (v := 4810) dX9_write_46 (by decide) ?_
    refine z_iload dX9_write_49 rfl ?_
    refine z_iadd dX9_write_51 ?_
    refine y_ialN (4812 + i) dX9_write_52 hm.A_a (Nat.le_of_ble_eq_true rfl) ((nI_add 4810 (i + 2)).trans (congrArg nI (by omega))) (by omega) ?_
    refine z_eqi (show _ = f (4812 + i) by rw [pI_sA_s]; exact cpG_rd (by omega)) ?_
    refine y_iasN (4810 + i) dX9_write_53 hm.A_a (Nat.le_of_ble_eq_true rfl) (rfl) (by omega) ?_
    refine z_iinc dX9_write_54 rfl (nI_1 _) (Nat.le_of_ble_eq_true rfl) ?_
    refine z_goto dX9_write_57 rfl ?_
    rw [cp_step]
    have hh := ih (i + 1) (by omega)
    rw [show i + 1 + 2 = i + 2 + 1 by omega] at hh
    exact hh

theorem r_write_tail {s : Mr} {a V : Fl} {h : Hp} {d N S k what much : Nat} {Q : Option Value → Hp → Prop} (hr : RN (uns a V, s) h) (h5 : V 5 ≤ 29) (hQ : Q none (sI (sI (sI h 489 (4810 + 2 * V 5) (nI (V 1))) 489 (4810 + 2 * V 5 + 1) (nI ((k * 4 + what) * 10000 + much))) 489 12 (nI (V 5 + 1)))) (o4 : Option Value) : T d N S mX9_write 71 [some (.ref 488), some (.int (nI k)), some (.int (nI what)), some (.int (nI much)), o4] [] h Q := by
  have hm := hr.m
  refine z_aload_n dX9_write_71 rfl rfl ?_
  refine y_getR FX9_7 dX9_write_72 rfl hm.o hm.f_a ?_
  refine z_sipush (v := 4810) dX9_write_75 (by decide) ?_
  refine z_iconst (v := 2) dX9_write_78 (by decide) ?_
  refine z_aload_n dX9_write_79 rfl rfl ?_
  refine y_getR FX9_7 dX9_write_80 rfl hm.o hm.f_a ?_
  refine z_bipush (v := 12) dX9_write_83 (by decide) ?_
  refine y_ialN (12) dX9_write_85 hm.A_a (Nat.le_of_ble_eq_true rfl) (rfl) (by omega) ?_
  refine z_eqi (show _ = nI (V 5) by (repeat rw [pI_sI, if_pos rfl, if_neg (by omega)]); exact hr.wat 5 rfl (by omega)) ?_
  refine z_imul dX9_write_86 ?_
  refine z_iadd dX9_write_87 ?_
  refine z_aload_n dX9_write_88 rfl rfl ?_
  refine y_getR FX9_7 dX9_write_89 rfl hm.o hm.f_a ?_
  refine z_bipush (v := 8) dX9_write_92 (by decide) ?_
  refine y_ialN (8) dX9_write_94 hm.A_a (Nat.le_of_ble_eq_true rfl) (rfl) (by omega) ?_
  refine z_eqi (show _ = nI (V 1) from hr.wat 1 rfl (by omega)) ?_
  refine y_iasN (4810 + 2 * V 5) dX9_write_95 hm.A_a (Nat.le_of_ble_eq_true rfl) (by first | rfl | (simp only [← nI_add, ← pk_mul]; rfl)) (by omega) ?_
  refine z_aload_n dX9_write_96 rfl rfl ?_
  refine y_getR FX9_7 dX9_write_97 rfl hm.o hm.f_a ?_
  refine z_sipush (v := 4810) dX9_write_100 (by decide) ?_
  refine z_iconst (v := 2) dX9_write_103 (by decide) ?_
  refine z_aload_n dX9_write_104 rfl rfl ?_
  refine y_getR FX9_7 dX9_write_105 rfl hm.o hm.f_a ?_
  refine z_bipush (v := 12) dX9_write_108 (by decide) ?_
  refine y_ialN (12) dX9_write_110 hm.A_a (Nat.le_of_ble_eq_true rfl) (rfl) (by omega) ?_
  refine z_eqi (show _ = nI (V 5) by (repeat rw [pI_sI, if_pos rfl, if_neg (by omega)]); exact hr.wat 5 rfl (by omega)) ?_
  refine z_imul dX9_write_111 ?_
  refine z_iadd dX9_write_112 ?_
  refine z_iconst (v := 1) dX9_write_113 (by decide) ?_
  refine z_iadd dX9_write_114 ?_
  refine z_iload_n dX9_write_115 rfl rfl ?_
  refine z_iconst (v := 4) dX9_write_116 (by decide) ?_
  refine z_imul dX9_write_117 ?_
  refine z_iload_n dX9_write_118 rfl rfl ?_
  refine z_iadd dX9_write_119 ?_
  refine z_sipush (v := 10000) dX9_write_120 (by decide) ?_
  refine z_imul dX9_write_123 ?_
  refine z_iload_n dX9_write_124 rfl rfl ?_
  refine z_iadd dX9_write_125 ?_
  refine z_eqi (show _ = nI ((k * 4 + what) * 10000 + much) by simp only [← nI_add, ← pk_mul]; rfl) ?_
  refine y_iasN (4810 + 2 * V 5 + 1) dX9_write_126 hm.A_a (Nat.le_of_ble_eq_true rfl) (by first | rfl | (simp only [← nI_add, ← pk_mul]; rfl)) (by omega) ?_
  refine z_aload_n dX9_write_127 rfl rfl ?_
  refine y_getR FX9_7 dX9_write_128 rfl hm.o hm.f_a ?_
  refine z_bipush (v := 12) dX9_write_131 (by decide) ?_
  refine z_dup2_11 dX9_write_133 rfl rfl ?_
  refine y_ialN (12) dX9_write_134 hm.A_a (Nat.le_of_ble_eq_true rfl) (rfl) (by omega) ?_
  refine z_eqi (show _ = nI (V 5) by (repeat rw [pI_sI, if_pos rfl, if_neg (by omega)]); exact hr.wat 5 rfl (by omega)) ?_
  refine z_iconst (v := 1) dX9_write_135 (by decide) ?_
  refine z_iadd dX9_write_136 ?_
  refine z_eqi (nI_1 (V 5)) ?_
  refine y_iasN (12) dX9_write_137 hm.A_a (Nat.le_of_ble_eq_true rfl) (rfl) (by omega) ?_
  refine z_vret dX9_write_138 ?_
  exact hQ
theorem r_write {s : Mr} {a W : Fl} {h : Hp} {d k what much : Nat} (hr : RN (uns a W, s) h) (hw : pI h 488 23 = nI 1) (h5 : W 5 ≤ 30) (hd : 1 ≤ d) : ∃ h1, Sp d mX9_write [.ref 488, .int (nI k), .int (nI what), .int (nI much)] h none h1 ∧ RN (uns a (wWrite W k what much), s) h1 ∧ FM h h1 ∧ ∀ k, k ≠ 489 → pI h1 k = pI h k := by
  have hm := hr.m
  have fin : ∀ {g : Hp} {V : Fl}, RN (uns a V, s) g → V 5 ≤ 29 → RN (uns a (up (up (up V (93 + 2 * V 5) (V 1)) (93 + 2 * V 5 + 1) ((k * 4 + what) * 10000 + much)) 5 (V 5 + 1)), s) (sI (sI (sI g 489 (4810 + 2 * V 5) (nI (V 1))) 489 (4810 + 2 * V 5 + 1) (nI ((k * 4 + what) * 10000 + much))) 489 12 (nI (V 5 + 1))) := fun {g V} hg hV => ((hg.w (by rw [wx_b]) (by omega) rfl).w (by rw [show 93 + 2 * V 5 + 1 = 93 + (2 * V 5 + 1) by omega, wx_b]; omega) (by omega) rfl).w (i := 12) (j := 5) rfl (by omega) rfl
  by_cases hc : W 5 = 30
  · have hB : RN (uns a (shB W), s) (sA h 489 (fun j => if j = 12 then nI 29 else cpG (pI h 489) 4810 4812 58 j)) := by
      refine RN.sA (s := (uns a W, s)) hr (fun j hj => ?_)
      rw [uns_shB hc]
      by_cases h3 : j = 3
      · subst h3
        rw [if_neg (by omega), cpG_out (by omega), hr.2.1 3 (by omega)]
        rfl
      · rw [cI_n h3]
        show _ = nI (if j = 12 then 29 else cpG (uns a W) 4810 4812 58 j)
        by_cases h12 : j = 12
        · rw [if_pos h12, if_pos h12]
        · rw [if_neg h12, if_neg h12]
          by_cases hq : 4810 ≤ j ∧ j < 4810 + 58
          · rw [cpG_in hq, cpG_in hq]
            obtain ⟨z, hz⟩ : ∃ z, z = 4812 + (j - 4810) := ⟨_, rfl⟩
            rw [← hz]
            exact RN.at (s := (uns a W, s)) hr (by omega) (by omega)
          · rw [cpG_out hq, cpG_out hq]; exact hr.at hj h3
    have b5 : shB W 5 = 29 := by unfold shB; rw [if_pos hc]; rfl
    have b1 : shB W 1 = W 1 := shB_o (by omega) (by omega)
    have fB := fin hB (by omega)
    rw [b1] at fB
    refine ⟨_, ?_, (show RN (uns a (wWrite W k what much), s) _ from fB), ?_, ?_⟩
    rotate_left
    · exact (((FM.rf.sA (by omega)).sI (by omega)).sI (by omega)).sI (by omega)
    · intro i hi
      rw [pI_sI_ne hi, pI_sI_ne hi, pI_sI_ne hi, pI_sA_ne hi]
    · intro N S Q hN hS hQ
      rw [← b1] at hQ
      refine z_aload_n dX9_write_0 rfl rfl ?_
      refine y_getI FX9_43 dX9_write_1 (Or.inr rfl) hm.o ?_
      refine z_eqi hw ?_
      refine z_if_ne dX9_write_4 rfl (fun _ => ?_) (fun c => absurd c (by decide))
      refine z_aload_n dX9_write_8 rfl rfl ?_
      refine y_getR FX9_7 dX9_write_9 rfl hm.o hm.f_a ?_
      refine z_bipush (v := 12) dX9_write_12 (by decide) ?_
      refine y_ialN (12) dX9_write_14 hm.A_a (Nat.le_of_ble_eq_true rfl) (rfl) (by omega) ?_
      refine z_eqi (show _ = nI 30 by rw [← hc]; exact hr.wat 5 rfl (by omega)) ?_
      refine z_bipush (v := 30) dX9_write_15 (by decide) ?_
      refine z_icmp_ne dX9_write_17 rfl (fun c => absurd (rfl) c) (fun _ => ?_)
      refine z_iconst (v := 2) dX9_write_20 (by decide) ?_
      refine z_istore dX9_write_21 (Nat.le_of_ble_eq_true rfl) ?_
      have h1 := r_write_l (d := d) (N := N) (S := S) (Q := Q) (o1 := some (.int (nI k))) (o2 := some (.int (nI what))) (x3 := nI much) (f := pI h 489) hm ?_ 58 0 rfl
      rw [cpG_0, sA_id] at h1
      exact h1
      refine z_aload_n dX9_write_60 rfl rfl ?_
      refine y_getR FX9_7 dX9_write_61 rfl hm.o hm.f_a ?_
      refine z_bipush (v := 12) dX9_write_64 (by decide) ?_
      refine z_dup2_11 dX9_write_66 rfl rfl ?_
      refine y_ialN (12) dX9_write_67 hm.A_a (Nat.le_of_ble_eq_true rfl) (rfl) (by omega) ?_
      refine z_eqi (show _ = nI 30 by rw [pI_sA_s, cpG_out (by omega), ← hc]; exact hr.wat 5 rfl (by omega)) ?_
      refine z_iconst (v := 1) dX9_write_68 (by decide) ?_
      refine z_isub dX9_write_69 ?_
      refine z_eqi (show _ = nI 29 from rfl) ?_
      refine y_iasN (12) dX9_write_70 hm.A_a (Nat.le_of_ble_eq_true rfl) (rfl) (by omega) ?_
      rw [sI_sA]
      exact r_write_tail hB (by omega) hQ _
  · have eB : shB W = W := by unfold shB; rw [if_neg hc]
    have eW : wWrite W k what much = up (up (up W (93 + 2 * W 5) (W 1)) (93 + 2 * W 5 + 1) ((k * 4 + what) * 10000 + much)) 5 (W 5 + 1) := by unfold wWrite wBook; rw [eB]
    rw [eW]
    refine ⟨_, ?_, fin hr (by omega), ?_, ?_⟩
    rotate_left
    · exact ((FM.rf.sI (by omega)).sI (by omega)).sI (by omega)
    · intro i hi
      rw [pI_sI_ne hi, pI_sI_ne hi, pI_sI_ne hi]
    · intro N S Q hN hS hQ
      refine z_aload_n dX9_write_0 rfl rfl ?_
      refine y_getI FX9_43 dX9_write_1 (Or.inr rfl) hm.o ?_
      refine z_eqi hw ?_
      refine z_if_ne dX9_write_4 rfl (fun _ => ?_) (fun c => absurd c (by decide))
      refine z_aload_n dX9_write_8 rfl rfl ?_
      refine y_getR FX9_7 dX9_write_9 rfl hm.o hm.f_a ?_
      refine z_bipush (v := 12) dX9_write_12 (by decide) ?_
      refine y_ialN (12) dX9_write_14 hm.A_a (Nat.le_of_ble_eq_true rfl) (rfl) (by omega) ?_
      refine z_eqi (show _ = nI (W 5) from hr.wat 5 rfl (by omega)) ?_
      refine z_bipush (v := 30) dX9_write_15 (by decide) ?_
      refine z_icmp_ne dX9_write_17 rfl (fun _ => ?_) (fun c => absurd c (fun q => hc ((nI_eq (b := 30) (by omega) (by omega)).mp q)))
      exact r_write_tail hr (by omega) hQ _
theorem r_write0 {h : Hp} {d : Nat} {x y z : Int32} (hm : SM h) (hw : pI h 488 23 = nI 0) : Sp d mX9_write [.ref 488, .int x, .int y, .int z] h none h := by
  intro N S Q hN hS hQ
  refine z_aload_n dX9_write_0 rfl rfl ?_
  refine y_getI FX9_43 dX9_write_1 (Or.inr rfl) hm.o ?_
  refine z_eqi hw ?_
  refine z_if_ne dX9_write_4 rfl (fun c => absurd (rfl) c) (fun _ => ?_)
  refine z_vret dX9_write_7 ?_
  exact hQ

