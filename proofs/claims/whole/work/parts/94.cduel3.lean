/-! duels: the class begins one, the first fact, duel (walks by program: wip/whole/gen94.py) -/
theorem s_fill2 {h : Hp} {d x m : Nat} {v : Int32} (hx : IA h 10 m x) (hm : m < 2 ^ 31) : Sp d mJ7_fill_53178 [.ref x, .int v] h none (sA h x (fillF (pI h x) 0 m v)) := by
  intro N S Q hN hS hQ
  have X : ∀ r i, i + r = m → T d N S mJ7_fill_53178 5 [some (.ref x), some (.int v), some (.int (nI i)), some (.int (nI m))] [] (sA h x (fillF (pI h x) 0 i v)) Q := by
    intro r
    induction r with
    | zero =>
      intro i hi
      have e : i = m := by omega
      subst e
      refine z_iload_n dJ7_fill_53178_5 rfl rfl ?_
      refine z_iload_n dJ7_fill_53178_6 rfl rfl ?_
      refine z_icmp_ge dJ7_fill_53178_7 rfl (fun _ => ?_) (fun c => absurd (Int32.le_refl _) c)
      refine z_vret dJ7_fill_53178_20 ?_
      exact hQ
    | succ r ih =>
      intro i hi
      refine z_iload_n dJ7_fill_53178_5 rfl rfl ?_
      refine z_iload_n dJ7_fill_53178_6 rfl rfl ?_
      refine z_icmp_ge dJ7_fill_53178_7 rfl (fun c => absurd c (fun q => absurd ((nI_leI (by omega) (by omega)).mp q) (by omega))) (fun _ => ?_)
      refine z_aload_n dJ7_fill_53178_10 rfl rfl ?_
      refine z_iload_n dJ7_fill_53178_11 rfl rfl ?_
      refine z_iload_n dJ7_fill_53178_12 rfl rfl ?_
      refine y_iasN (i) dJ7_fill_53178_13 hx (hm) (rfl) (by omega) ?_
      refine z_iinc dJ7_fill_53178_14 rfl (nI_1 _) (Nat.le_of_ble_eq_true rfl) ?_
      refine z_goto dJ7_fill_53178_17 rfl ?_
      rw [sI_sA, sA_congr (fillF_s (by omega))]
      exact ih (i + 1) (by omega)
  have X0 := X m 0 (by omega)
  rw [fillF_0, sA_id] at X0
  refine z_iconst (v := 0) dJ7_fill_53178_0 (by decide) ?_
  refine z_istore_n dJ7_fill_53178_1 rfl (Nat.le_of_ble_eq_true rfl) ?_
  refine z_aload_n dJ7_fill_53178_2 rfl rfl ?_
  refine y_alen dJ7_fill_53178_3 hx ⟨Nat.le_of_ble_eq_true rfl, Nat.le_of_ble_eq_true rfl⟩ rfl ?_
  refine z_istore_n dJ7_fill_53178_4 rfl (Nat.le_of_ble_eq_true rfl) ?_
  exact X0
theorem en_zero {k : Nat} : en 0 k = 0 := by
  unfold en
  rw [show (0 : Int32).toBitVec = BitVec.ofNat 32 0 from rfl, BitVec.getLsbD_ofNat, BitVec.getLsbD_ofNat, Nat.zero_testBit, Nat.zero_testBit, Bool.and_false, Bool.and_false]
  rfl
theorem winB_s {a : Fl} {so n : Nat} : winB a so (n + 1) = (winB a so n && wsB a n so) := rfl
theorem sub_or_iff {x y z : Nat} : sub (x ||| y) z ↔ sub x z ∧ sub y z := by
  constructor
  · intro h
    exact ⟨fun i hi => h i (by rw [Nat.testBit_or, hi, Bool.true_or]), fun i hi => h i (by rw [Nat.testBit_or, hi, Bool.or_true])⟩
  · rintro ⟨h1, h2⟩ i hi
    rw [Nat.testBit_or, Bool.or_eq_true] at hi
    rcases hi with q | q
    · exact h1 i q
    · exact h2 i q
/-- of the first n words all is told -/
def BG (h : Hp) (a : Fl) (n : Nat) : Prop := CK h ∧ (∃ mm c w, CWd h a n mm c w) ∧ pI h 484 3 = nI (dF a n) ∧ ∀ j, j < 411 → pI h 486 j = 0

theorem c_begin_loop {h : Hp} {a : Fl} {d : Nat} (ho : IOf a) (h0 : a 0 ≤ 8) (v5 : a 5 ≤ 8) (hof0 : RwS h 20 4 8) (mv0 : RwV h 20 4 8 (a 5) a 126) (hd : 1 ≤ d) : ∀ r i (h1 : Hp), i + r = a 5 → BG h1 a i → FR 484 486 h h1 → ∃ h2, BG h2 a (a 5) ∧ FR 484 486 h h2 ∧ ∀ (o3 : Option Value) (N S : Nat) (Q : Option Value → Hp → Prop), pn h ≤ N → ps h ≤ S → Q none h2 → T d N S mX0_begin 25 [some (.ref 484), some (.ref 20), some (.int (nI i)), o3] [] h1 Q := by
  have p8 : 2 ^ a 0 ≤ 2 ^ 8 := Nat.pow_le_pow_right (by omega) h0
  intro r
  induction r with
  | zero =>
    intro i h1 hi bg f1
    have e : i = a 5 := by omega
    subst e
    have ck := bg.1
    have hof : RwS h1 20 4 8 := f1.1.rw hof0
    have mv1 : RwV h1 20 4 8 (a 5) a 126 := mv0.fr (f1.2.2 20 (by omega)) (f1.2.2 21 (by omega))
    refine ⟨h1, bg, f1, fun o3 N S Q hN hS hQ => ?_⟩
    refine z_iload_n dX0_begin_25 rfl rfl ?_
    refine z_aload_n dX0_begin_26 rfl rfl ?_
    refine y_getI FX0_34 dX0_begin_27 (Or.inl rfl) hof.1 ?_
    refine z_eqi (y := nI (a 5)) mv1.1.2.2.1 ?_
    refine z_icmp_ge dX0_begin_30 rfl (fun _ => ?_) (fun c => absurd (Int32.le_refl _) c)
    refine z_vret dX0_begin_111 ?_
    exact hQ
  | succ r ih =>
    intro i h1 hi bg f1
    obtain ⟨ck, ⟨mm, c, w, cw⟩, e3, ez⟩ := bg
    have hof : RwS h1 20 4 8 := f1.1.rw hof0
    have mv1 : RwV h1 20 4 8 (a 5) a 126 := mv0.fr (f1.2.2 20 (by omega)) (f1.2.2 21 (by omega))
    have b := ho i (by omega)
    have b0 := b.1
    have fl : (a (126 + 4 * i + 1)) < 256 := by have := b.2.2.1; omega
    have cl := cw.2.2.2.1
    have iff := cw.2.2.2.2.2
    by_cases h1a : a (126 + 4 * i) = 1
    · have bg2 : BG (sI (sI h1 484 3 (nI (dF a i ||| a (126 + 4 * i + 1)))) 484 2 (nI (mm ||| (a (126 + 4 * i + 1))))) a (i + 1) := by
        refine ⟨ck, ⟨mm ||| (a (126 + 4 * i + 1)), c, w, ?_, Nat.or_lt_two_pow (n := 8) cw.2.1 fl, ?_, by omega, fun j hj => ?_, fun so hso => ?_⟩, ?_, fun j hj => ?_⟩
        · rw [pI_sI, if_pos rfl, if_pos rfl]
        · rw [pI_sI, if_pos rfl, if_neg (by omega), pI_sI, if_pos rfl, if_neg (by omega)]; exact cw.2.2.1
        · rw [pI_sI_ne (by omega), pI_sI_ne (by omega)]; exact cw.2.2.2.2.1 j hj
        · rw [winB_s, Bool.and_eq_true, iff so hso, sub_or_iff, show (wsB a i so = true ↔ sub (a (126 + 4 * i + 1)) so) by unfold wsB; rw [h1a]; exact met_1]
          constructor
          · rintro ⟨⟨q1, q2⟩, q3⟩; exact ⟨⟨q1, q3⟩, q2⟩
          · rintro ⟨⟨q1, q3⟩, q2⟩; exact ⟨⟨q1, q2⟩, q3⟩
        · rw [pI_sI, if_pos rfl, if_neg (by omega), pI_sI, if_pos rfl, if_pos rfl]; rfl
        · rw [pI_sI_ne (by omega), pI_sI_ne (by omega)]; exact ez j hj
      obtain ⟨h2, k1, k2, K⟩ := ih (i + 1) _ (by omega) bg2 ((f1.sI (by omega)).sI (by omega))
      refine ⟨h2, k1, k2, fun o3 N S Q hN hS hQ => ?_⟩
      have hN1 : pn h1 ≤ N := by rw [f1.1.n]; exact hN
      have hS1 : ps h1 ≤ S := by rw [f1.1.s]; exact hS
      refine z_iload_n dX0_begin_25 rfl rfl ?_
      refine z_aload_n dX0_begin_26 rfl rfl ?_
      refine y_getI FX0_34 dX0_begin_27 (Or.inl rfl) hof.1 ?_
      refine z_eqi (y := nI (a 5)) mv1.1.2.2.1 ?_
      refine z_icmp_ge dX0_begin_30 rfl (fun c => absurd c (fun q => absurd ((nI_leI (by omega) (by omega)).mp q) (by omega))) (fun _ => ?_)
      refine z_aload_n dX0_begin_33 rfl rfl ?_
      refine z_iload_n dX0_begin_34 rfl rfl ?_
      refine z_iconst (v := 1) dX0_begin_35 (by decide) ?_
      refine y_callV (as := [_, _]) CX4_get LX0_39 IX4_get VX4_get ⟨rfl, Nat.le_of_ble_eq_true rfl⟩ dX0_begin_36 hof.1 rfl (Nat.le_of_ble_eq_true rfl) (Nat.le_of_ble_eq_true rfl) (by omega) (s_get (k := 20) (w := 4) (ms := 8) (i := i) (j := 1) (by exact hof) mv1.1 (by omega) (by omega)) rok_i ⟨Nat.le_refl _, Nat.le_refl _, hN1, hS1⟩ ?_
      refine z_eqi (show _ = nI (a (126 + 4 * i + 1)) from (mv1.2 (i * 4 + 1) (by omega)).trans (congrArg (fun u => nI (a u)) (by omega))) ?_
      refine z_istore_n dX0_begin_39 rfl (Nat.le_of_ble_eq_true rfl) ?_
      refine z_aload_n dX0_begin_40 rfl rfl ?_
      refine z_dup dX0_begin_41 rfl ?_
      refine y_getI FX0_31 dX0_begin_42 (Or.inl rfl) ck.1 ?_
      refine z_eqi (y := nI (dF a i)) e3 ?_
      refine z_iload_n dX0_begin_45 rfl rfl ?_
      refine z_ior dX0_begin_46 ?_
      refine z_eqi (nI_or (dF a i) (a (126 + 4 * i + 1))) ?_
      refine y_putI FX0_31 dX0_begin_47 (Or.inl rfl) (Or.inl rfl) ck.1 ?_
      refine z_aload_n dX0_begin_50 rfl rfl ?_
      refine z_iload_n dX0_begin_51 rfl rfl ?_
      refine z_iconst (v := 0) dX0_begin_52 (by decide) ?_
      refine y_callV (as := [_, _]) CX4_get LX0_39 IX4_get VX4_get ⟨rfl, Nat.le_of_ble_eq_true rfl⟩ dX0_begin_53 hof.1 rfl (Nat.le_of_ble_eq_true rfl) (Nat.le_of_ble_eq_true rfl) (by omega) (s_get (k := 20) (w := 4) (ms := 8) (i := i) (j := 0) (by exact hof) (mv1.1.fr (pI_sI_ne (by omega))) (by omega) (by omega)) rok_i ⟨Nat.le_refl _, Nat.le_refl _, hN1, hS1⟩ ?_
      refine z_eqi (show _ = nI (a (126 + 4 * i)) by rw [pI_sI_ne (by omega)]; exact (mv1.2 (i * 4 + 0) (by omega)).trans (congrArg (fun u => nI (a u)) (by omega))) ?_
      refine z_iconst (v := 1) dX0_begin_56 (by decide) ?_
      refine z_icmp_ne dX0_begin_57 rfl (fun c => absurd (congrArg nI h1a) c) (fun _ => ?_)
      refine z_aload_n dX0_begin_60 rfl rfl ?_
      refine z_dup dX0_begin_61 rfl ?_
      refine y_getI FX0_28 dX0_begin_62 (Or.inl rfl) ck.1 ?_
      refine z_eqi (y := nI (mm)) (show _ = nI mm by rw [pI_sI, if_pos rfl, if_neg (by omega)]; exact cw.1) ?_
      refine z_iload_n dX0_begin_65 rfl rfl ?_
      refine z_ior dX0_begin_66 ?_
      refine z_eqi (nI_or mm (a (126 + 4 * i + 1))) ?_
      refine y_putI FX0_28 dX0_begin_67 (Or.inl rfl) (Or.inl rfl) ck.1 ?_
      refine z_goto dX0_begin_70 rfl ?_
      refine z_iinc dX0_begin_105 rfl (nI_1 _) (Nat.le_of_ble_eq_true rfl) ?_
      refine z_goto dX0_begin_108 rfl ?_
      exact K _ N S Q hN hS hQ
    · have bg2 : BG (sI (sI (sI h1 484 3 (nI (dF a i ||| a (126 + 4 * i + 1)))) 485 c (nI (a (126 + 4 * i + 1)))) 484 1 (nI (c + 1))) a (i + 1) := by
        refine ⟨ck, ⟨mm, c + 1, (fun j => if j = c then (a (126 + 4 * i + 1)) else w j), ?_, cw.2.1, ?_, by omega, fun j hj => ?_, fun so hso => ?_⟩, ?_, fun j hj => ?_⟩
        · rw [pI_sI, if_pos rfl, if_neg (by omega), pI_sI_ne (by omega), pI_sI, if_pos rfl, if_neg (by omega)]; exact cw.1
        · rw [pI_sI, if_pos rfl, if_pos rfl]
        · rw [pI_sI_ne (by omega), pI_sI, if_pos rfl]
          show (if j = c then _ else _) = nI (if j = c then _ else _) ∧ (if j = c then _ else _) < 256
          by_cases e : j = c
          · rw [if_pos e, if_pos e]; exact ⟨rfl, fl⟩
          · rw [if_neg e, if_neg e, pI_sI_ne (by omega)]; exact cw.2.2.2.2.1 j (by omega)
        · have ws : wsB a i so = true ↔ ¬ (a (126 + 4 * i + 1)) &&& so = 0 := by
            unfold wsB
            have := met_0 (al := a (126 + 4 * i)) (f := (a (126 + 4 * i + 1))) (g := so) h1a
            constructor
            · intro q z
              rw [this.mpr z] at q
              exact absurd q (by decide)
            · intro z
              cases q : metB (a (126 + 4 * i)) (a (126 + 4 * i + 1)) so
              · exact absurd (this.mp q) z
              · rfl
          rw [winB_s, Bool.and_eq_true, iff so hso, ws]
          constructor
          · rintro ⟨⟨q1, q2⟩, q3⟩
            refine ⟨q1, fun j hj => ?_⟩
            show ¬ (if j = c then _ else _) &&& so = 0
            by_cases e : j = c
            · rw [if_pos e]; exact q3
            · rw [if_neg e]; exact q2 j (by omega)
          · rintro ⟨q1, q2⟩
            refine ⟨⟨q1, fun j hj => ?_⟩, ?_⟩
            · have q3 : ¬ (if j = c then (a (126 + 4 * i + 1)) else w j) &&& so = 0 := q2 j (by omega)
              rw [if_neg (by omega)] at q3
              exact q3
            · have q3 : ¬ (if c = c then (a (126 + 4 * i + 1)) else w c) &&& so = 0 := q2 c (by omega)
              rw [if_pos rfl] at q3
              exact q3
        · rw [pI_sI, if_pos rfl, if_neg (by omega), pI_sI_ne (by omega), pI_sI, if_pos rfl, if_pos rfl]; rfl
        · rw [pI_sI_ne (by omega), pI_sI_ne (by omega), pI_sI_ne (by omega)]; exact ez j hj
      obtain ⟨h2, k1, k2, K⟩ := ih (i + 1) _ (by omega) bg2 (((f1.sI (by omega)).sI (by omega)).sI (by omega))
      refine ⟨h2, k1, k2, fun o3 N S Q hN hS hQ => ?_⟩
      have hN1 : pn h1 ≤ N := by rw [f1.1.n]; exact hN
      have hS1 : ps h1 ≤ S := by rw [f1.1.s]; exact hS
      refine z_iload_n dX0_begin_25 rfl rfl ?_
      refine z_aload_n dX0_begin_26 rfl rfl ?_
      refine y_getI FX0_34 dX0_begin_27 (Or.inl rfl) hof.1 ?_
      refine z_eqi (y := nI (a 5)) mv1.1.2.2.1 ?_
      refine z_icmp_ge dX0_begin_30 rfl (fun c => absurd c (fun q => absurd ((nI_leI (by omega) (by omega)).mp q) (by omega))) (fun _ => ?_)
      refine z_aload_n dX0_begin_33 rfl rfl ?_
      refine z_iload_n dX0_begin_34 rfl rfl ?_
      refine z_iconst (v := 1) dX0_begin_35 (by decide) ?_
      refine y_callV (as := [_, _]) CX4_get LX0_39 IX4_get VX4_get ⟨rfl, Nat.le_of_ble_eq_true rfl⟩ dX0_begin_36 hof.1 rfl (Nat.le_of_ble_eq_true rfl) (Nat.le_of_ble_eq_true rfl) (by omega) (s_get (k := 20) (w := 4) (ms := 8) (i := i) (j := 1) (by exact hof) mv1.1 (by omega) (by omega)) rok_i ⟨Nat.le_refl _, Nat.le_refl _, hN1, hS1⟩ ?_
      refine z_eqi (show _ = nI (a (126 + 4 * i + 1)) from (mv1.2 (i * 4 + 1) (by omega)).trans (congrArg (fun u => nI (a u)) (by omega))) ?_
      refine z_istore_n dX0_begin_39 rfl (Nat.le_of_ble_eq_true rfl) ?_
      refine z_aload_n dX0_begin_40 rfl rfl ?_
      refine z_dup dX0_begin_41 rfl ?_
      refine y_getI FX0_31 dX0_begin_42 (Or.inl rfl) ck.1 ?_
      refine z_eqi (y := nI (dF a i)) e3 ?_
      refine z_iload_n dX0_begin_45 rfl rfl ?_
      refine z_ior dX0_begin_46 ?_
      refine z_eqi (nI_or (dF a i) (a (126 + 4 * i + 1))) ?_
      refine y_putI FX0_31 dX0_begin_47 (Or.inl rfl) (Or.inl rfl) ck.1 ?_
      refine z_aload_n dX0_begin_50 rfl rfl ?_
      refine z_iload_n dX0_begin_51 rfl rfl ?_
      refine z_iconst (v := 0) dX0_begin_52 (by decide) ?_
      refine y_callV (as := [_, _]) CX4_get LX0_39 IX4_get VX4_get ⟨rfl, Nat.le_of_ble_eq_true rfl⟩ dX0_begin_53 hof.1 rfl (Nat.le_of_ble_eq_true rfl) (Nat.le_of_ble_eq_true rfl) (by omega) (s_get (k := 20) (w := 4) (ms := 8) (i := i) (j := 0) (by exact hof) (mv1.1.fr (pI_sI_ne (by omega))) (by omega) (by omega)) rok_i ⟨Nat.le_refl _, Nat.le_refl _, hN1, hS1⟩ ?_
      refine z_eqi (show _ = nI (a (126 + 4 * i)) by rw [pI_sI_ne (by omega)]; exact (mv1.2 (i * 4 + 0) (by omega)).trans (congrArg (fun u => nI (a u)) (by omega))) ?_
      refine z_iconst (v := 1) dX0_begin_56 (by decide) ?_
      refine z_icmp_ne dX0_begin_57 rfl (fun _ => ?_) (fun c => absurd c (fun q => h1a ((nI_eq (b := 1) (by omega) (by omega)).mp q)))
      refine z_aload_n dX0_begin_73 rfl rfl ?_
      refine y_getI FX0_24 dX0_begin_74 (Or.inl rfl) ck.1 ?_
      refine z_eqi (y := nI (c)) (show _ = nI c by first | exact cw.2.2.1 | (rw [pI_sI, if_pos rfl, if_neg (by omega)]; exact cw.2.2.1) | (rw [pI_sI, if_neg (by omega), pI_sI, if_pos rfl, if_neg (by omega)]; exact cw.2.2.1)) ?_
      refine z_aload_n dX0_begin_77 rfl rfl ?_
      refine y_getR FX0_9 dX0_begin_78 rfl ck.1 ck.2.1 ?_
      refine y_alen dX0_begin_81 ck.2.2.1 ⟨Nat.le_of_ble_eq_true rfl, Nat.le_of_ble_eq_true rfl⟩ rfl ?_
      refine z_icmp_ge dX0_begin_82 rfl (fun c => absurd c (fun q => absurd ((nI_leI (a := 8) (by omega) (by omega)).mp q) (by omega))) (fun _ => ?_)
      refine z_aload_n dX0_begin_85 rfl rfl ?_
      refine y_getR FX0_9 dX0_begin_86 rfl ck.1 ck.2.1 ?_
      refine z_aload_n dX0_begin_89 rfl rfl ?_
      refine y_getI FX0_24 dX0_begin_90 (Or.inl rfl) ck.1 ?_
      refine z_eqi (y := nI (c)) (show _ = nI c by first | exact cw.2.2.1 | (rw [pI_sI, if_pos rfl, if_neg (by omega)]; exact cw.2.2.1) | (rw [pI_sI, if_neg (by omega), pI_sI, if_pos rfl, if_neg (by omega)]; exact cw.2.2.1)) ?_
      refine z_iload_n dX0_begin_93 rfl rfl ?_
      refine y_iasN (c) dX0_begin_94 ck.2.2.1 (Nat.le_of_ble_eq_true rfl) (rfl) (by omega) ?_
      refine z_aload_n dX0_begin_95 rfl rfl ?_
      refine z_dup dX0_begin_96 rfl ?_
      refine y_getI FX0_24 dX0_begin_97 (Or.inl rfl) ck.1 ?_
      refine z_eqi (y := nI (c)) (show _ = nI c by first | exact cw.2.2.1 | (rw [pI_sI, if_pos rfl, if_neg (by omega)]; exact cw.2.2.1) | (rw [pI_sI, if_neg (by omega), pI_sI, if_pos rfl, if_neg (by omega)]; exact cw.2.2.1)) ?_
      refine z_iconst (v := 1) dX0_begin_100 (by decide) ?_
      refine z_iadd dX0_begin_101 ?_
      refine z_eqi (nI_1 c) ?_
      refine y_putI FX0_24 dX0_begin_102 (Or.inl rfl) (Or.inl rfl) ck.1 ?_
      refine z_iinc dX0_begin_105 rfl (nI_1 _) (Nat.le_of_ble_eq_true rfl) ?_
      refine z_goto dX0_begin_108 rfl ?_
      exact K _ N S Q hN hS hQ

theorem c_begin {h : Hp} {a : Fl} {d : Nat} (m : Bool) (ck : CK h) (ho : IOf a) (h0 : a 0 ≤ 8) (v5 : a 5 ≤ 8) (hof0 : RwS h 20 4 8) (mv0 : RwV h 20 4 8 (a 5) a 126) (hd : 1 ≤ d) : ∃ h1, Sp d mX0_begin [.ref 484, .ref 20] h none h1 ∧ CD h1 a m ∧ FR 484 486 h h1 := by
  have ff : FR 484 486 h (sI (sI (sI (sA h 486 (fillF (pI h 486) 0 411 0)) 484 1 0) 484 2 0) 484 3 0) := (((FR.rf.sA (by omega)).sI (by omega)).sI (by omega)).sI (by omega)
  have bg0 : BG (sI (sI (sI (sA h 486 (fillF (pI h 486) 0 411 0)) 484 1 0) 484 2 0) 484 3 0) a 0 := by
    refine ⟨ck, ⟨0, 0, fun _ => 0, ?_, by omega, ?_, by omega, fun j hj => by omega, fun so hso => ?_⟩, ?_, fun j hj => ?_⟩
    · rw [pI_sI, if_pos rfl, if_neg (by omega), pI_sI, if_pos rfl, if_pos rfl]; rfl
    · rw [pI_sI, if_pos rfl, if_neg (by omega), pI_sI, if_pos rfl, if_neg (by omega), pI_sI, if_pos rfl, if_pos rfl]; rfl
    · exact ⟨fun _ => ⟨fun i hi => by rw [Nat.zero_testBit] at hi; exact absurd hi (by decide), fun j hj => by omega⟩, fun _ => rfl⟩
    · rw [pI_sI, if_pos rfl, if_pos rfl]; rfl
    · rw [pI_sI_ne (by omega), pI_sI_ne (by omega), pI_sI_ne (by omega), pI_sA, if_pos rfl]
      exact if_pos ⟨by omega, hj⟩
  obtain ⟨h2, k1, k2, K⟩ := c_begin_loop (h := (sI (sI (sI (sA h 486 (fillF (pI h 486) 0 411 0)) 484 1 0) 484 2 0) 484 3 0)) (d := d) ho h0 v5 (ff.1.rw hof0) (mv0.fr (ff.2.2 20 (by omega)) (ff.2.2 21 (by omega))) hd (a 5) 0 _ (by omega) bg0 FR.rf
  refine ⟨h2, ?_, ⟨k1.1, k1.2.1, k1.2.2.1, fun _ => 0, fun p hp => ?_, fun _ _ _ _ _ => Or.inl rfl⟩, ff.tr k2⟩
  · intro N S Q hN hS hQ
    have hN : pn h ≤ N := by rw [← (ff.tr k2).1.n]; exact hN
    have hS : ps h ≤ S := by rw [← (ff.tr k2).1.s]; exact hS
    refine z_aload_n dX0_begin_0 rfl rfl ?_
    refine y_getR FX0_15 dX0_begin_1 rfl ck.1 ck.2.2.2.1 ?_
    refine z_iconst (v := 0) dX0_begin_4 (by decide) ?_
    refine y_callS (as := [_, _]) CJ7_fill_53178 LX0_18 SJ7_fill_53178 dX0_begin_5 rfl (Nat.le_of_ble_eq_true rfl) (Nat.le_of_ble_eq_true rfl) (by omega) (s_fill2 (d := 0) (v := 0) ck.2.2.2.2 (by omega)) rok_v ⟨Nat.le_refl _, Nat.le_refl _, hN, hS⟩ ?_
    refine z_aload_n dX0_begin_8 rfl rfl ?_
    refine z_iconst (v := 0) dX0_begin_9 (by decide) ?_
    refine y_putI FX0_24 dX0_begin_10 (Or.inl rfl) (Or.inl rfl) ck.1 ?_
    refine z_aload_n dX0_begin_13 rfl rfl ?_
    refine z_iconst (v := 0) dX0_begin_14 (by decide) ?_
    refine y_putI FX0_28 dX0_begin_15 (Or.inl rfl) (Or.inl rfl) ck.1 ?_
    refine z_aload_n dX0_begin_18 rfl rfl ?_
    refine z_iconst (v := 0) dX0_begin_19 (by decide) ?_
    refine y_putI FX0_31 dX0_begin_20 (Or.inl rfl) (Or.inl rfl) ck.1 ?_
    refine z_iconst (v := 0) dX0_begin_23 (by decide) ?_
    refine z_istore_n dX0_begin_24 rfl (Nat.le_of_ble_eq_true rfl) ?_
    exact K none N S Q hN hS hQ
  · rw [k1.2.2.2 (p / 16) (by omega)]
    exact en_zero

theorem mkL_F {F : Nat} {m : Bool} : mkL F m F = m := by
  unfold mkL
  rw [if_pos (by omega)]
theorem c_firstFact {h : Hp} {a : Fl} {m : Bool} {d : Nat} (hF : (dF a (a 5)) < 256) (v5 : a 5 ≤ 8) (hd : 20 ≤ d) : ∀ r i (h1 : Hp), i + r = 8 → CD h1 a m → FR 486 486 h h1 → ∃ h2, CD h2 a m ∧ FR 486 486 h h2 ∧ ∀ (N S : Nat) (Q : Option Value → Hp → Prop), pn h ≤ N → ps h ≤ S → Q (some (.int (duF a m r i))) h2 → T d N S mX0_firstFact 2 [some (.ref 484), some (.int (bI (m = true))), some (.int (nI i))] [] h1 Q := by
  have pF := pcn8 (dF a (a 5)) hF
  intro r
  induction r with
  | zero =>
    intro i h1 hi c1 f1
    have e : i = 8 := by omega
    subst e
    refine ⟨h1, c1, f1, fun N S Q hN hS hQ => ?_⟩
    have hQ : Q (some (.int (-1))) h1 := hQ
    refine z_iload_n dX0_firstFact_2 rfl rfl ?_
    refine z_bipush (v := 8) dX0_firstFact_3 (by decide) ?_
    refine z_icmp_ge dX0_firstFact_5 rfl (fun _ => ?_) (fun c => absurd (by decide) c)
    refine z_iconst (v := -1) dX0_firstFact_45 (by decide) ?_
    refine z_iret dX0_firstFact_46 ?_
    exact hQ
  | succ r ih =>
    intro i h1 hi c1 f1
    have es : duF a m (r + 1) i = if (dF a (a 5)).testBit i = true ∧ gV (win a) (pcn (dF a (a 5)) - 1) (!m) (dif (dF a (a 5)) (2 ^ i)) (mvS m 0 i) = m then nI i else duF a m r (i + 1) := rfl
    by_cases hb : (dF a (a 5)).testBit i = true
    · have hz : ¬ nI (dF a (a 5)) &&& (1 <<< (nI i &&& 31)) = 0 := fun q => by
        have := (and_bit (by omega) (by omega)).mp q
        rw [hb] at this
        exact absurd this (by decide)
      have pn0 := pcn_rm (dF a (a 5)) hF i (by omega) hb
      obtain ⟨g, q1, q2, q3⟩ := c_byOne (n := pcn (dF a (a 5)) - 1) (s := 0) (t := 8) (d := 19) (c_comesAbout hF v5 _) hF (fun _ h => h) (by omega) (Nat.and_zero _) (by omega) (by omega) (by omega) mkL_F.symm c1 (show i < 8 by omega) hb (by omega)
      by_cases hg : gV (win a) (pcn (dF a (a 5)) - 1) (!m) (dif (dF a (a 5)) (2 ^ i)) (mvS m 0 i) = m
      · refine ⟨g, q2, f1.tr q3, fun N S Q hN hS hQ => ?_⟩
        have hN1 : pn h1 ≤ N := by rw [f1.1.n]; exact hN
        have hS1 : ps h1 ≤ S := by rw [f1.1.s]; exact hS
        rw [es, if_pos ⟨hb, hg⟩] at hQ
        have hgi : bI ((gV (win a) (pcn (dF a (a 5)) - 1) (!m) (dif (dF a (a 5)) (2 ^ i)) (mvS m 0 i)) = true) = bI (m = true) := by rw [hg]
        refine z_iload_n dX0_firstFact_2 rfl rfl ?_
        refine z_bipush (v := 8) dX0_firstFact_3 (by decide) ?_
        refine z_icmp_ge dX0_firstFact_5 rfl (fun c => absurd c (fun q => absurd ((nI_leI (a := 8) (by omega) (by omega)).mp q) (by omega))) (fun _ => ?_)
        refine z_aload_n dX0_firstFact_8 rfl rfl ?_
        refine y_getI FX0_31 dX0_firstFact_9 (Or.inl rfl) c1.1.1 ?_
        refine z_eqi (y := nI (dF a (a 5))) c1.2.2.1 ?_
        refine z_iload_n dX0_firstFact_12 rfl rfl ?_
        refine y_callS (as := [_]) CX8_bit LX0_43 SX8_bit dX0_firstFact_13 rfl (Nat.le_of_ble_eq_true rfl) (Nat.le_of_ble_eq_true rfl) (by omega) (s_bit _) rok_i ⟨Nat.le_refl _, Nat.le_refl _, hN1, hS1⟩ ?_
        refine z_iand dX0_firstFact_16 ?_
        refine z_if_eq dX0_firstFact_17 rfl (fun c => absurd c (hz)) (fun _ => ?_)
        refine z_aload_n dX0_firstFact_20 rfl rfl ?_
        refine z_iload_n dX0_firstFact_21 rfl rfl ?_
        refine z_aload_n dX0_firstFact_22 rfl rfl ?_
        refine y_getI FX0_31 dX0_firstFact_23 (Or.inl rfl) c1.1.1 ?_
        refine z_eqi (y := nI (dF a (a 5))) c1.2.2.1 ?_
        refine z_iconst (v := 0) dX0_firstFact_26 (by decide) ?_
        refine z_iload_n dX0_firstFact_27 rfl rfl ?_
        refine z_bipush (v := 8) dX0_firstFact_28 (by decide) ?_
        refine y_callV (as := [_, _, _, _, _]) CX0_comesAboutBy LX0_47 IX0_comesAboutBy VX0_comesAboutBy ⟨rfl, Nat.le_of_ble_eq_true rfl⟩ dX0_firstFact_30 c1.1.1 rfl (Nat.le_of_ble_eq_true rfl) (Nat.le_of_ble_eq_true rfl) (by omega) q1 (rok_z bI_01) (hg_ss q3.1 hN1 hS1) ?_
        refine z_iload_n dX0_firstFact_33 rfl rfl ?_
        refine z_icmp_ne dX0_firstFact_34 rfl (fun c => absurd (hgi) c) (fun _ => ?_)
        refine z_iload_n dX0_firstFact_37 rfl rfl ?_
        refine z_iret dX0_firstFact_38 ?_
        exact hQ
      · obtain ⟨h2, k1, k2, K⟩ := ih (i + 1) g (by omega) q2 (f1.tr q3)
        refine ⟨h2, k1, k2, fun N S Q hN hS hQ => ?_⟩
        have hN1 : pn h1 ≤ N := by rw [f1.1.n]; exact hN
        have hS1 : ps h1 ≤ S := by rw [f1.1.s]; exact hS
        rw [es, if_neg (fun q => hg q.2)] at hQ
        have hgi : ¬ bI ((gV (win a) (pcn (dF a (a 5)) - 1) (!m) (dif (dF a (a 5)) (2 ^ i)) (mvS m 0 i)) = true) = bI (m = true) := by
          cases q : gV (win a) (pcn (dF a (a 5)) - 1) (!m) (dif (dF a (a 5)) (2 ^ i)) (mvS m 0 i) <;> cases m <;> first | decide | exact absurd q hg
        refine z_iload_n dX0_firstFact_2 rfl rfl ?_
        refine z_bipush (v := 8) dX0_firstFact_3 (by decide) ?_
        refine z_icmp_ge dX0_firstFact_5 rfl (fun c => absurd c (fun q => absurd ((nI_leI (a := 8) (by omega) (by omega)).mp q) (by omega))) (fun _ => ?_)
        refine z_aload_n dX0_firstFact_8 rfl rfl ?_
        refine y_getI FX0_31 dX0_firstFact_9 (Or.inl rfl) c1.1.1 ?_
        refine z_eqi (y := nI (dF a (a 5))) c1.2.2.1 ?_
        refine z_iload_n dX0_firstFact_12 rfl rfl ?_
        refine y_callS (as := [_]) CX8_bit LX0_43 SX8_bit dX0_firstFact_13 rfl (Nat.le_of_ble_eq_true rfl) (Nat.le_of_ble_eq_true rfl) (by omega) (s_bit _) rok_i ⟨Nat.le_refl _, Nat.le_refl _, hN1, hS1⟩ ?_
        refine z_iand dX0_firstFact_16 ?_
        refine z_if_eq dX0_firstFact_17 rfl (fun c => absurd c (hz)) (fun _ => ?_)
        refine z_aload_n dX0_firstFact_20 rfl rfl ?_
        refine z_iload_n dX0_firstFact_21 rfl rfl ?_
        refine z_aload_n dX0_firstFact_22 rfl rfl ?_
        refine y_getI FX0_31 dX0_firstFact_23 (Or.inl rfl) c1.1.1 ?_
        refine z_eqi (y := nI (dF a (a 5))) c1.2.2.1 ?_
        refine z_iconst (v := 0) dX0_firstFact_26 (by decide) ?_
        refine z_iload_n dX0_firstFact_27 rfl rfl ?_
        refine z_bipush (v := 8) dX0_firstFact_28 (by decide) ?_
        refine y_callV (as := [_, _, _, _, _]) CX0_comesAboutBy LX0_47 IX0_comesAboutBy VX0_comesAboutBy ⟨rfl, Nat.le_of_ble_eq_true rfl⟩ dX0_firstFact_30 c1.1.1 rfl (Nat.le_of_ble_eq_true rfl) (Nat.le_of_ble_eq_true rfl) (by omega) q1 (rok_z bI_01) (hg_ss q3.1 hN1 hS1) ?_
        refine z_iload_n dX0_firstFact_33 rfl rfl ?_
        refine z_icmp_ne dX0_firstFact_34 rfl (fun _ => ?_) (fun c => absurd c (hgi))
        refine z_iinc dX0_firstFact_39 rfl (nI_1 _) (Nat.le_of_ble_eq_true rfl) ?_
        refine z_goto dX0_firstFact_42 rfl ?_
        exact K N S Q hN hS hQ
    · have hz : nI (dF a (a 5)) &&& (1 <<< (nI i &&& 31)) = 0 := (and_bit (by omega) (by omega)).mpr (by simpa using hb)
      obtain ⟨h2, k1, k2, K⟩ := ih (i + 1) h1 (by omega) c1 f1
      refine ⟨h2, k1, k2, fun N S Q hN hS hQ => ?_⟩
      have hN1 : pn h1 ≤ N := by rw [f1.1.n]; exact hN
      have hS1 : ps h1 ≤ S := by rw [f1.1.s]; exact hS
      rw [es, if_neg (fun q => hb q.1)] at hQ
      refine z_iload_n dX0_firstFact_2 rfl rfl ?_
      refine z_bipush (v := 8) dX0_firstFact_3 (by decide) ?_
      refine z_icmp_ge dX0_firstFact_5 rfl (fun c => absurd c (fun q => absurd ((nI_leI (a := 8) (by omega) (by omega)).mp q) (by omega))) (fun _ => ?_)
      refine z_aload_n dX0_firstFact_8 rfl rfl ?_
      refine y_getI FX0_31 dX0_firstFact_9 (Or.inl rfl) c1.1.1 ?_
      refine z_eqi (y := nI (dF a (a 5))) c1.2.2.1 ?_
      refine z_iload_n dX0_firstFact_12 rfl rfl ?_
      refine y_callS (as := [_]) CX8_bit LX0_43 SX8_bit dX0_firstFact_13 rfl (Nat.le_of_ble_eq_true rfl) (Nat.le_of_ble_eq_true rfl) (by omega) (s_bit _) rok_i ⟨Nat.le_refl _, Nat.le_refl _, hN1, hS1⟩ ?_
      refine z_iand dX0_firstFact_16 ?_
      refine z_if_eq dX0_firstFact_17 rfl (fun _ => ?_) (fun c => absurd (hz) c)
      refine z_iinc dX0_firstFact_39 rfl (nI_1 _) (Nat.le_of_ble_eq_true rfl) ?_
      refine z_goto dX0_firstFact_42 rfl ?_
      exact K N S Q hN hS hQ

theorem C_duel {h : Hp} {a : Fl} {tf : Nat → Int32} {d : Nat} (c1 : CZ h a tf) (ck : CK h) (h5 : pR h 8 5 = some 484) (hv : IC a) (ho : IOf a) {m : Bool} {f : Nat} (hf : f = 0 ∨ f = 1) (hd : 21 ≤ d) : ∃ h1, Sp d mX8_duel [.ref 8, .int (bI (m = true)), .int (nI f)] h (some (.int (mDuel a m f))) h1 ∧ FR 484 486 h h1 := by
  have v0 := hv.1
  have v5 := hv.2.2.2.2.2.1
  have hF := dF_lt ho v0 (a 5) (Nat.le_refl _)
  have pF := pcn8 (dF a (a 5)) hF
  by_cases h0 : a 5 = 0
  · have eq : mDuel a m f = -2 := if_pos h0
    rw [eq]
    refine ⟨h, ?_, FR.rf⟩
    intro N S Q hN hS hQ
    refine z_aload_n dX8_duel_0 rfl rfl ?_
    refine y_getR FX8_10 dX8_duel_1 rfl c1.1.1 c1.1.2.1 ?_
    refine y_getR FX8_350 dX8_duel_4 rfl c1.1.2.2.2.2.1.o c1.1.2.2.2.2.1.f5 ?_
    refine y_getI FX8_130 dX8_duel_7 (Or.inl rfl) c1.1.2.2.2.2.1.offers.1 ?_
    refine z_eqi (y := nI (a 5)) (show _ = nI (a 5) from c1.2.2.2.2.2.2.1.1.2.2.1) ?_
    refine z_if_ne dX8_duel_10 rfl (fun c => absurd (congrArg nI h0) c) (fun _ => ?_)
    refine z_bipush (v := -2) dX8_duel_13 (by decide) ?_
    refine z_iret dX8_duel_15 ?_
    exact hQ
  · have eq : mDuel a m f = if f = 0 then bI (gV (win a) (pcn (dF a (a 5))) m (dF a (a 5)) 0 = true) else duF a m 8 0 := if_neg h0
    rw [eq]
    have n0 : ¬ nI (a 5) = 0 := fun q => h0 ((nI_eq (b := 0) (by omega) (by omega)).mp q)
    obtain ⟨g, b1, b2, b3⟩ := c_begin (d := 1) m ck ho v0 v5 c1.1.2.2.2.2.1.offers c1.2.2.2.2.2.2.1 (Nat.le_refl _)
    rcases hf with hf | hf
    · rw [if_pos hf]
      obtain ⟨g2, q1, q2, q3⟩ := c_comesAbout hF v5 (pcn (dF a (a 5))) (dF a (a 5)) 0 8 20 m g (fun _ h => h) (by omega) (Nat.and_zero _) rfl (by omega) (by omega) mkL_F.symm b2 (by omega)
      have ff : FR 484 486 h g2 := b3.tr (q3.wide (by omega) (by omega))
      refine ⟨g2, ?_, ff⟩
      intro N S Q hN hS hQ
      have hN : pn h ≤ N := by rw [← ff.1.n]; exact hN
      have hS : ps h ≤ S := by rw [← ff.1.s]; exact hS
      have hN1 : pn g ≤ N := by rw [b3.1.n]; exact hN
      have hS1 : ps g ≤ S := by rw [b3.1.s]; exact hS
      by_cases hg : gV (win a) (pcn (dF a (a 5))) m (dF a (a 5)) 0 = true
      · rw [bI_t hg] at hQ
        refine z_aload_n dX8_duel_0 rfl rfl ?_
        refine y_getR FX8_10 dX8_duel_1 rfl c1.1.1 c1.1.2.1 ?_
        refine y_getR FX8_350 dX8_duel_4 rfl c1.1.2.2.2.2.1.o c1.1.2.2.2.2.1.f5 ?_
        refine y_getI FX8_130 dX8_duel_7 (Or.inl rfl) c1.1.2.2.2.2.1.offers.1 ?_
        refine z_eqi (y := nI (a 5)) (show _ = nI (a 5) from c1.2.2.2.2.2.2.1.1.2.2.1) ?_
        refine z_if_ne dX8_duel_10 rfl (fun _ => ?_) (fun c => absurd c (n0))
        refine z_aload_n dX8_duel_16 rfl rfl ?_
        refine y_getR FX8_43 dX8_duel_17 rfl c1.1.1 h5 ?_
        refine z_aload_n dX8_duel_20 rfl rfl ?_
        refine y_getR FX8_10 dX8_duel_21 rfl c1.1.1 c1.1.2.1 ?_
        refine y_getR FX8_350 dX8_duel_24 rfl c1.1.2.2.2.2.1.o c1.1.2.2.2.2.1.f5 ?_
        refine y_callV (as := [_]) CX0_begin LX8_359 IX0_begin VX0_begin ⟨rfl, Nat.le_of_ble_eq_true rfl⟩ dX8_duel_27 ck.1 rfl (Nat.le_of_ble_eq_true rfl) (Nat.le_of_ble_eq_true rfl) (by omega) b1 rok_v (hg_ss b3.1 hN hS) ?_
        refine z_iload_n dX8_duel_30 rfl rfl ?_
        refine z_if_eq dX8_duel_31 rfl (fun _ => ?_) (fun c => absurd (congrArg nI hf) c)
        refine z_aload_n dX8_duel_43 rfl rfl ?_
        refine y_getR FX8_43 dX8_duel_44 rfl (b3.1.O c1.1.1) (by first | (rw [b3.1.R]; exact h5) | exact (congrFun (congrFun b3.1.R _) _).trans h5) ?_
        refine z_aload_n dX8_duel_47 rfl rfl ?_
        refine y_getR FX8_43 dX8_duel_48 rfl (b3.1.O c1.1.1) (by first | (rw [b3.1.R]; exact h5) | exact (congrFun (congrFun b3.1.R _) _).trans h5) ?_
        refine y_getI FX8_367 dX8_duel_51 (Or.inl rfl) (b3.1.O ck.1) ?_
        refine z_eqi (y := nI (dF a (a 5))) b2.2.2.1 ?_
        refine z_iconst (v := 0) dX8_duel_54 (by decide) ?_
        refine z_iload_n dX8_duel_55 rfl rfl ?_
        refine z_bipush (v := 8) dX8_duel_56 (by decide) ?_
        refine y_callV (as := [_, _, _, _]) CX0_comesAbout LX8_369 IX0_comesAbout VX0_comesAbout ⟨rfl, Nat.le_of_ble_eq_true rfl⟩ dX8_duel_58 (b3.1.O ck.1) rfl (Nat.le_of_ble_eq_true rfl) (Nat.le_of_ble_eq_true rfl) (by omega) q1 (rok_z bI_01) (hg_ss q3.1 hN1 hS1) ?_
        refine z_if_eq dX8_duel_61 rfl (fun c => absurd c (bI_ne0.mpr hg)) (fun _ => ?_)
        refine z_iconst (v := 1) dX8_duel_64 (by decide) ?_
        refine z_goto dX8_duel_65 rfl ?_
        refine z_iret dX8_duel_69 ?_
        exact hQ
      · rw [bI_f hg] at hQ
        refine z_aload_n dX8_duel_0 rfl rfl ?_
        refine y_getR FX8_10 dX8_duel_1 rfl c1.1.1 c1.1.2.1 ?_
        refine y_getR FX8_350 dX8_duel_4 rfl c1.1.2.2.2.2.1.o c1.1.2.2.2.2.1.f5 ?_
        refine y_getI FX8_130 dX8_duel_7 (Or.inl rfl) c1.1.2.2.2.2.1.offers.1 ?_
        refine z_eqi (y := nI (a 5)) (show _ = nI (a 5) from c1.2.2.2.2.2.2.1.1.2.2.1) ?_
        refine z_if_ne dX8_duel_10 rfl (fun _ => ?_) (fun c => absurd c (n0))
        refine z_aload_n dX8_duel_16 rfl rfl ?_
        refine y_getR FX8_43 dX8_duel_17 rfl c1.1.1 h5 ?_
        refine z_aload_n dX8_duel_20 rfl rfl ?_
        refine y_getR FX8_10 dX8_duel_21 rfl c1.1.1 c1.1.2.1 ?_
        refine y_getR FX8_350 dX8_duel_24 rfl c1.1.2.2.2.2.1.o c1.1.2.2.2.2.1.f5 ?_
        refine y_callV (as := [_]) CX0_begin LX8_359 IX0_begin VX0_begin ⟨rfl, Nat.le_of_ble_eq_true rfl⟩ dX8_duel_27 ck.1 rfl (Nat.le_of_ble_eq_true rfl) (Nat.le_of_ble_eq_true rfl) (by omega) b1 rok_v (hg_ss b3.1 hN hS) ?_
        refine z_iload_n dX8_duel_30 rfl rfl ?_
        refine z_if_eq dX8_duel_31 rfl (fun _ => ?_) (fun c => absurd (congrArg nI hf) c)
        refine z_aload_n dX8_duel_43 rfl rfl ?_
        refine y_getR FX8_43 dX8_duel_44 rfl (b3.1.O c1.1.1) (by first | (rw [b3.1.R]; exact h5) | exact (congrFun (congrFun b3.1.R _) _).trans h5) ?_
        refine z_aload_n dX8_duel_47 rfl rfl ?_
        refine y_getR FX8_43 dX8_duel_48 rfl (b3.1.O c1.1.1) (by first | (rw [b3.1.R]; exact h5) | exact (congrFun (congrFun b3.1.R _) _).trans h5) ?_
        refine y_getI FX8_367 dX8_duel_51 (Or.inl rfl) (b3.1.O ck.1) ?_
        refine z_eqi (y := nI (dF a (a 5))) b2.2.2.1 ?_
        refine z_iconst (v := 0) dX8_duel_54 (by decide) ?_
        refine z_iload_n dX8_duel_55 rfl rfl ?_
        refine z_bipush (v := 8) dX8_duel_56 (by decide) ?_
        refine y_callV (as := [_, _, _, _]) CX0_comesAbout LX8_369 IX0_comesAbout VX0_comesAbout ⟨rfl, Nat.le_of_ble_eq_true rfl⟩ dX8_duel_58 (b3.1.O ck.1) rfl (Nat.le_of_ble_eq_true rfl) (Nat.le_of_ble_eq_true rfl) (by omega) q1 (rok_z bI_01) (hg_ss q3.1 hN1 hS1) ?_
        refine z_if_eq dX8_duel_61 rfl (fun _ => ?_) (fun c => absurd (bI_eq0.mpr hg) c)
        refine z_iconst (v := 0) dX8_duel_68 (by decide) ?_
        refine z_iret dX8_duel_69 ?_
        exact hQ
    · rw [if_neg (by omega)]
      have n1 : ¬ nI f = 0 := fun q => absurd ((nI_eq (b := 0) (by omega) (by omega)).mp q) (by omega)
      obtain ⟨g2, k1, q3, K⟩ := c_firstFact (h := g) (d := 20) hF v5 (Nat.le_refl _) 8 0 g (by omega) b2 FR.rf
      have ff : FR 484 486 h g2 := b3.tr (q3.wide (by omega) (by omega))
      have ckg := b2.1
      have q1 : Sp 20 mX0_firstFact [.ref 484, .int (bI (m = true))] g (some (.int (duF a m 8 0))) g2 := by
        intro N S Q hN hS hQ
        have hN : pn g ≤ N := by rw [← q3.1.n]; exact hN
        have hS : ps g ≤ S := by rw [← q3.1.s]; exact hS
        refine z_iconst (v := 0) dX0_firstFact_0 (by decide) ?_
        refine z_istore_n dX0_firstFact_1 rfl (Nat.le_of_ble_eq_true rfl) ?_
        exact K N S Q hN hS hQ
      refine ⟨g2, ?_, ff⟩
      intro N S Q hN hS hQ
      have hN : pn h ≤ N := by rw [← ff.1.n]; exact hN
      have hS : ps h ≤ S := by rw [← ff.1.s]; exact hS
      have hN1 : pn g ≤ N := by rw [b3.1.n]; exact hN
      have hS1 : ps g ≤ S := by rw [b3.1.s]; exact hS
      refine z_aload_n dX8_duel_0 rfl rfl ?_
      refine y_getR FX8_10 dX8_duel_1 rfl c1.1.1 c1.1.2.1 ?_
      refine y_getR FX8_350 dX8_duel_4 rfl c1.1.2.2.2.2.1.o c1.1.2.2.2.2.1.f5 ?_
      refine y_getI FX8_130 dX8_duel_7 (Or.inl rfl) c1.1.2.2.2.2.1.offers.1 ?_
      refine z_eqi (y := nI (a 5)) (show _ = nI (a 5) from c1.2.2.2.2.2.2.1.1.2.2.1) ?_
      refine z_if_ne dX8_duel_10 rfl (fun _ => ?_) (fun c => absurd c (n0))
      refine z_aload_n dX8_duel_16 rfl rfl ?_
      refine y_getR FX8_43 dX8_duel_17 rfl c1.1.1 h5 ?_
      refine z_aload_n dX8_duel_20 rfl rfl ?_
      refine y_getR FX8_10 dX8_duel_21 rfl c1.1.1 c1.1.2.1 ?_
      refine y_getR FX8_350 dX8_duel_24 rfl c1.1.2.2.2.2.1.o c1.1.2.2.2.2.1.f5 ?_
      refine y_callV (as := [_]) CX0_begin LX8_359 IX0_begin VX0_begin ⟨rfl, Nat.le_of_ble_eq_true rfl⟩ dX8_duel_27 ck.1 rfl (Nat.le_of_ble_eq_true rfl) (Nat.le_of_ble_eq_true rfl) (by omega) b1 rok_v (hg_ss b3.1 hN hS) ?_
      refine z_iload_n dX8_duel_30 rfl rfl ?_
      refine z_if_eq dX8_duel_31 rfl (fun c => absurd c (n1)) (fun _ => ?_)
      refine z_aload_n dX8_duel_34 rfl rfl ?_
      refine y_getR FX8_43 dX8_duel_35 rfl (b3.1.O c1.1.1) (by first | (rw [b3.1.R]; exact h5) | exact (congrFun (congrFun b3.1.R _) _).trans h5) ?_
      refine z_iload_n dX8_duel_38 rfl rfl ?_
      refine y_callV (as := [_]) CX0_firstFact LX8_363 IX0_firstFact VX0_firstFact ⟨rfl, Nat.le_of_ble_eq_true rfl⟩ dX8_duel_39 (b3.1.O ck.1) rfl (Nat.le_of_ble_eq_true rfl) (Nat.le_of_ble_eq_true rfl) (by omega) q1 rok_i (hg_ss q3.1 hN1 hS1) ?_
      refine z_iret dX8_duel_42 ?_
      exact hQ

