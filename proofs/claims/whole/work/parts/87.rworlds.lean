/-! worlds, what would tell: the reference (walks by program: wip/whole/gen87.py) -/
theorem bv_eq {b : Bool} {v : Nat} (hv : v ≤ 1) : nI (if b = true then 1 else 0) = nI v ↔ b = decide (v = 1) := by
  rcases (show v = 0 ∨ v = 1 by omega) with rfl | rfl <;> cases b <;> decide
theorem tl_le {a : Fl} {k : Nat} : ∀ i, (tl a k i).2 ≤ 1000000000 := by
  intro i
  induction i with
  | zero => exact Nat.le_refl _
  | succ i ih =>
    rw [show tl a k (i + 1) = if tlV a k i < (tl a k i).2 then (i + 1, tlV a k i) else tl a k i from rfl]
    split
    · show tlV a k i ≤ _
      omega
    · exact ih
theorem tl_1 {a : Fl} {k : Nat} : ∀ i, (tl a k i).1 ≤ i ∧ ((tl a k i).1 = 0 → (tl a k i).2 = 1000000000) := by
  intro i
  induction i with
  | zero => exact ⟨Nat.le_refl _, fun _ => rfl⟩
  | succ i ih =>
    rw [show tl a k (i + 1) = if tlV a k i < (tl a k i).2 then (i + 1, tlV a k i) else tl a k i from rfl]
    split
    · exact ⟨Nat.le_refl _, fun h => absurd (show i + 1 = 0 from h) (by omega)⟩
    · exact ⟨by have := ih.1; omega, ih.2⟩

theorem r_isWorld_loop {s : Ms} {h : Hp} {d N S : Nat} {Q : Option Value → Hp → Prop} (hr : RM s h) (hv : IC s.1) (hi : IH s.1) {g : Nat} (hg : g < 256) (hN : pn h ≤ N) (hS : ps h ≤ S) (hQ : Q (some (.int (bI (isW s.1 g (s.1 6) = true)))) h) : ∀ r k, k + r = s.1 6 → (∀ j, j < k → g.testBit (s.1 (158 + 2 * j)) = decide (s.1 (158 + 2 * j + 1) = 1)) → T d N S mX9_isWorld 2 [some (.ref 488), some (.int (nI g)), some (.int (nI k))] [] h Q := by
  have hm := hr.m
  have v0 := hv.1
  have v6 := hv.2.2.2.2.2.2.1
  have v11 := hv.2.2.2.2.2.2.2.2.2.2.2.1
  have p8 : 2 ^ s.1 0 ≤ 2 ^ 8 := Nat.pow_le_pow_right (by omega) v0
  have p1 : 0 < 2 ^ s.1 0 := Nat.pow_pos (by omega)
  intro r
  induction r with
  | zero =>
    intro k hk ha
    have e : k = s.1 6 := by omega
    subst e
    rw [bI_t ((isW_iff _).mpr ha)] at hQ
    refine z_iload_n dX9_isWorld_2 rfl rfl ?_
    refine z_aload_n dX9_isWorld_3 rfl rfl ?_
    refine y_getR FX9_7 dX9_isWorld_4 rfl hm.o hm.f_a ?_
    refine z_bipush (v := 6) dX9_isWorld_7 (by decide) ?_
    refine y_ialN (6) dX9_isWorld_9 hm.A_a (Nat.le_of_ble_eq_true rfl) (rfl) (by omega) ?_
    refine z_eqi (show _ = nI (s.1 6) from hr.at (by omega) (by omega)) ?_
    refine z_icmp_ge dX9_isWorld_10 rfl (fun _ => ?_) (fun c => absurd (Int32.le_refl _) c)
    refine z_iconst (v := 1) dX9_isWorld_54 (by decide) ?_
    refine z_iret dX9_isWorld_55 ?_
    exact hQ
  | succ r ih =>
    intro k hk ha
    have b1 := (hi k (by omega)).1
    have b2 := (hi k (by omega)).2
    by_cases q : g.testBit (s.1 (158 + 2 * k)) = decide (s.1 (158 + 2 * k + 1) = 1)
    · skip
      refine z_iload_n dX9_isWorld_2 rfl rfl ?_
      refine z_aload_n dX9_isWorld_3 rfl rfl ?_
      refine y_getR FX9_7 dX9_isWorld_4 rfl hm.o hm.f_a ?_
      refine z_bipush (v := 6) dX9_isWorld_7 (by decide) ?_
      refine y_ialN (6) dX9_isWorld_9 hm.A_a (Nat.le_of_ble_eq_true rfl) (rfl) (by omega) ?_
      refine z_eqi (show _ = nI (s.1 6) from hr.at (by omega) (by omega)) ?_
      refine z_icmp_ge dX9_isWorld_10 rfl (fun c => absurd c (fun q => absurd ((nI_leI (by omega) (by omega)).mp q) (by omega))) (fun _ => ?_)
      refine z_iload_n dX9_isWorld_13 rfl rfl ?_
      refine z_aload_n dX9_isWorld_14 rfl rfl ?_
      refine y_getR FX9_7 dX9_isWorld_15 rfl hm.o hm.f_a ?_
      refine z_sipush (v := 158) dX9_isWorld_18 (by decide) ?_
      refine z_iconst (v := 2) dX9_isWorld_21 (by decide) ?_
      refine z_iload_n dX9_isWorld_22 rfl rfl ?_
      refine z_imul dX9_isWorld_23 ?_
      refine z_iadd dX9_isWorld_24 ?_
      refine y_ialN (158 + 2 * k) dX9_isWorld_25 hm.A_a (Nat.le_of_ble_eq_true rfl) (by first | rfl | (simp only [← nI_add, ← pk_mul]; rfl)) (by omega) ?_
      refine z_eqi (show _ = nI (s.1 (158 + 2 * k)) from hr.at (by omega) (by omega)) ?_
      refine z_ishr dX9_isWorld_26 ?_
      refine z_iconst (v := 1) dX9_isWorld_27 (by decide) ?_
      refine z_iand dX9_isWorld_28 ?_
      refine z_eqi (show _ = nI (if g.testBit (s.1 (158 + 2 * k)) = true then 1 else 0) from (has_bit (by omega) (by omega)).trans (congrArg nI testBit_mod)) ?_
      refine z_aload_n dX9_isWorld_29 rfl rfl ?_
      refine y_getR FX9_7 dX9_isWorld_30 rfl hm.o hm.f_a ?_
      refine z_sipush (v := 158) dX9_isWorld_33 (by decide) ?_
      refine z_iconst (v := 2) dX9_isWorld_36 (by decide) ?_
      refine z_iload_n dX9_isWorld_37 rfl rfl ?_
      refine z_imul dX9_isWorld_38 ?_
      refine z_iadd dX9_isWorld_39 ?_
      refine z_iconst (v := 1) dX9_isWorld_40 (by decide) ?_
      refine z_iadd dX9_isWorld_41 ?_
      refine y_ialN (158 + 2 * k + 1) dX9_isWorld_42 hm.A_a (Nat.le_of_ble_eq_true rfl) (by first | rfl | (simp only [← nI_add, ← pk_mul]; rfl)) (by omega) ?_
      refine z_eqi (show _ = nI (s.1 (158 + 2 * k + 1)) from hr.at (by omega) (by omega)) ?_
      refine z_icmp_eq dX9_isWorld_43 rfl (fun _ => ?_) (fun c => absurd ((bv_eq b2).mpr q) c)
      refine z_iinc dX9_isWorld_48 rfl (nI_1 _) (Nat.le_of_ble_eq_true rfl) ?_
      refine z_goto dX9_isWorld_51 rfl ?_
      refine ih (k + 1) (by omega) (fun j hj => ?_)
      by_cases e : j = k
      · rw [e]; exact q
      · exact ha j (by omega)
    · rw [bI_f (fun c => q ((isW_iff _).mp c k (by omega)))] at hQ
      refine z_iload_n dX9_isWorld_2 rfl rfl ?_
      refine z_aload_n dX9_isWorld_3 rfl rfl ?_
      refine y_getR FX9_7 dX9_isWorld_4 rfl hm.o hm.f_a ?_
      refine z_bipush (v := 6) dX9_isWorld_7 (by decide) ?_
      refine y_ialN (6) dX9_isWorld_9 hm.A_a (Nat.le_of_ble_eq_true rfl) (rfl) (by omega) ?_
      refine z_eqi (show _ = nI (s.1 6) from hr.at (by omega) (by omega)) ?_
      refine z_icmp_ge dX9_isWorld_10 rfl (fun c => absurd c (fun q => absurd ((nI_leI (by omega) (by omega)).mp q) (by omega))) (fun _ => ?_)
      refine z_iload_n dX9_isWorld_13 rfl rfl ?_
      refine z_aload_n dX9_isWorld_14 rfl rfl ?_
      refine y_getR FX9_7 dX9_isWorld_15 rfl hm.o hm.f_a ?_
      refine z_sipush (v := 158) dX9_isWorld_18 (by decide) ?_
      refine z_iconst (v := 2) dX9_isWorld_21 (by decide) ?_
      refine z_iload_n dX9_isWorld_22 rfl rfl ?_
      refine z_imul dX9_isWorld_23 ?_
      refine z_iadd dX9_isWorld_24 ?_
      refine y_ialN (158 + 2 * k) dX9_isWorld_25 hm.A_a (Nat.le_of_ble_eq_true rfl) (by first | rfl | (simp only [← nI_add, ← pk_mul]; rfl)) (by omega) ?_
      refine z_eqi (show _ = nI (s.1 (158 + 2 * k)) from hr.at (by omega) (by omega)) ?_
      refine z_ishr dX9_isWorld_26 ?_
      refine z_iconst (v := 1) dX9_isWorld_27 (by decide) ?_
      refine z_iand dX9_isWorld_28 ?_
      refine z_eqi (show _ = nI (if g.testBit (s.1 (158 + 2 * k)) = true then 1 else 0) from (has_bit (by omega) (by omega)).trans (congrArg nI testBit_mod)) ?_
      refine z_aload_n dX9_isWorld_29 rfl rfl ?_
      refine y_getR FX9_7 dX9_isWorld_30 rfl hm.o hm.f_a ?_
      refine z_sipush (v := 158) dX9_isWorld_33 (by decide) ?_
      refine z_iconst (v := 2) dX9_isWorld_36 (by decide) ?_
      refine z_iload_n dX9_isWorld_37 rfl rfl ?_
      refine z_imul dX9_isWorld_38 ?_
      refine z_iadd dX9_isWorld_39 ?_
      refine z_iconst (v := 1) dX9_isWorld_40 (by decide) ?_
      refine z_iadd dX9_isWorld_41 ?_
      refine y_ialN (158 + 2 * k + 1) dX9_isWorld_42 hm.A_a (Nat.le_of_ble_eq_true rfl) (by first | rfl | (simp only [← nI_add, ← pk_mul]; rfl)) (by omega) ?_
      refine z_eqi (show _ = nI (s.1 (158 + 2 * k + 1)) from hr.at (by omega) (by omega)) ?_
      refine z_icmp_eq dX9_isWorld_43 rfl (fun c => absurd c (fun c => q ((bv_eq b2).mp c))) (fun _ => ?_)
      refine z_iconst (v := 0) dX9_isWorld_46 (by decide) ?_
      refine z_iret dX9_isWorld_47 ?_
      exact hQ
theorem r_isWorld {s : Ms} {h : Hp} {d : Nat} (hr : RM s h) (hv : IC s.1) (hi : IH s.1) {g : Nat} (hg : g < 256) : Sp d mX9_isWorld [.ref 488, .int (nI g)] h (some (.int (bI (isW s.1 g (s.1 6) = true)))) h := by
  have hm := hr.m
  intro N S Q hN hS hQ
  refine z_iconst (v := 0) dX9_isWorld_0 (by decide) ?_
  refine z_istore_n dX9_isWorld_1 rfl (Nat.le_of_ble_eq_true rfl) ?_
  exact r_isWorld_loop hr hv hi hg hN hS hQ (s.1 6) 0 (by omega) (fun j hj => by omega)

theorem r_wo_loop_2 {s : Ms} {h : Hp} {d N S : Nat} {Q : Option Value → Hp → Prop} (hr : RM s h) (hv : IC s.1) (hi : IH s.1) (hW : IW (s.1 0) (snap s.1)) {k fx ax : Nat} (hk : k < s.1 11) (hfx : fx < 256) (hax : ax < 256) (hN : pn h ≤ N) (hS : ps h ≤ S) (hd : 2 ≤ d) (hQ : Q (some (.int (nI (wcR s.1 k 2 fx ax)))) h) : ∀ r i, i + r = 2 ^ s.1 0 → T d N S mX9_worldsOf 6 [some (.ref 488), some (.int (nI k)), some (.int (-1)), some (.int (nI fx)), some (.int (nI ax)), some (.int (nI (cntP (wPr s.1 k 2 fx ax) i))), some (.int (nI i))] [] h Q := by
  have hm := hr.m
  have v0 := hv.1
  have v6 := hv.2.2.2.2.2.2.1
  have v11 := hv.2.2.2.2.2.2.2.2.2.2.2.1
  have p8 : 2 ^ s.1 0 ≤ 2 ^ 8 := Nat.pow_le_pow_right (by omega) v0
  have p1 : 0 < 2 ^ s.1 0 := Nat.pow_pos (by omega)
  have cc := hW.2.2.1 k hk
  have c1 := cc.2.1
  have c2 := cc.2.2.2.1
  intro r
  induction r with
  | zero =>
    intro i hin
    have e : i = 2 ^ s.1 0 := by omega
    rw [e]
    refine z_iload dX9_worldsOf_6 rfl ?_
    refine z_aload_n dX9_worldsOf_8 rfl rfl ?_
    refine y_callV (as := []) CX9_allFacts LX9_464 IX9_allFacts VX9_allFacts ⟨rfl, Nat.le_of_ble_eq_true rfl⟩ dX9_worldsOf_9 hm.o rfl (Nat.le_of_ble_eq_true rfl) (Nat.le_of_ble_eq_true rfl) (by omega) (r_allFacts (d := 0) hr hv) rok_i ⟨Nat.le_refl _, Nat.le_refl _, hN, hS⟩ ?_
    refine z_icmp_gt dX9_worldsOf_12 rfl (fun _ => ?_) (fun c => absurd ((nI_ltI (by omega) (by omega)).mpr (by omega)) c)
    refine z_iload dX9_worldsOf_74 rfl ?_
    refine z_iret dX9_worldsOf_76 ?_
    exact hQ
  | succ r ih =>
    intro i hin
    cases h1 : isW s.1 i (s.1 6)
    · skip
      have hP : wPr s.1 k 2 fx ax i = false := by
        unfold wPr
        rw [h1]
        rfl
      have e : cntP (wPr s.1 k 2 fx ax) (i + 1) = cntP (wPr s.1 k 2 fx ax) i + 0 := by
        show _ + (if _ then _ else _) = _
        rw [if_neg (by rw [hP]; decide)]
      refine z_iload dX9_worldsOf_6 rfl ?_
      refine z_aload_n dX9_worldsOf_8 rfl rfl ?_
      refine y_callV (as := []) CX9_allFacts LX9_464 IX9_allFacts VX9_allFacts ⟨rfl, Nat.le_of_ble_eq_true rfl⟩ dX9_worldsOf_9 hm.o rfl (Nat.le_of_ble_eq_true rfl) (Nat.le_of_ble_eq_true rfl) (by omega) (r_allFacts (d := 0) hr hv) rok_i ⟨Nat.le_refl _, Nat.le_refl _, hN, hS⟩ ?_
      refine z_icmp_gt dX9_worldsOf_12 rfl (fun c => absurd c (fun q => absurd ((nI_ltI (by omega) (by omega)).mp q) (by omega))) (fun _ => ?_)
      refine z_iload dX9_worldsOf_15 rfl ?_
      refine z_aload_n dX9_worldsOf_17 rfl rfl ?_
      refine z_iload dX9_worldsOf_18 rfl ?_
      refine y_callV (as := [_]) CX9_isWorld LX9_485 IX9_isWorld VX9_isWorld ⟨rfl, Nat.le_of_ble_eq_true rfl⟩ dX9_worldsOf_20 hm.o rfl (Nat.le_of_ble_eq_true rfl) (Nat.le_of_ble_eq_true rfl) (by omega) (r_isWorld (d := 0) (g := i) hr hv hi (by omega)) (rok_z bI_01) ⟨Nat.le_refl _, Nat.le_refl _, hN, hS⟩ ?_
      refine z_if_eq dX9_worldsOf_23 rfl (fun _ => ?_) (fun c => absurd (bI_eq0.mpr (by rw [h1]; decide)) c)
      refine z_iconst (v := 0) dX9_worldsOf_64 (by decide) ?_
      refine z_iadd dX9_worldsOf_65 ?_
      refine z_eqi (nI_add _ 0) ?_
      refine z_istore dX9_worldsOf_66 (Nat.le_of_ble_eq_true rfl) ?_
      refine z_iinc dX9_worldsOf_68 rfl (nI_1 _) (Nat.le_of_ble_eq_true rfl) ?_
      refine z_goto dX9_worldsOf_71 rfl ?_
      have K2 := ih (i + 1) (by omega)
      rw [e] at K2
      exact K2
    · cases h2 : (i &&& fx == ax)
      · have h2' : ¬ i &&& fx = ax := fun c => by rw [beq_iff_eq.mpr c] at h2; exact absurd h2 (by decide)
        have l2 : i &&& fx < 256 := Nat.lt_of_le_of_lt Nat.and_le_right hfx
        have hP : wPr s.1 k 2 fx ax i = false := by
          unfold wPr
          rw [h1, h2]
          rfl
        have e : cntP (wPr s.1 k 2 fx ax) (i + 1) = cntP (wPr s.1 k 2 fx ax) i + 0 := by
          show _ + (if _ then _ else _) = _
          rw [if_neg (by rw [hP]; decide)]
        refine z_iload dX9_worldsOf_6 rfl ?_
        refine z_aload_n dX9_worldsOf_8 rfl rfl ?_
        refine y_callV (as := []) CX9_allFacts LX9_464 IX9_allFacts VX9_allFacts ⟨rfl, Nat.le_of_ble_eq_true rfl⟩ dX9_worldsOf_9 hm.o rfl (Nat.le_of_ble_eq_true rfl) (Nat.le_of_ble_eq_true rfl) (by omega) (r_allFacts (d := 0) hr hv) rok_i ⟨Nat.le_refl _, Nat.le_refl _, hN, hS⟩ ?_
        refine z_icmp_gt dX9_worldsOf_12 rfl (fun c => absurd c (fun q => absurd ((nI_ltI (by omega) (by omega)).mp q) (by omega))) (fun _ => ?_)
        refine z_iload dX9_worldsOf_15 rfl ?_
        refine z_aload_n dX9_worldsOf_17 rfl rfl ?_
        refine z_iload dX9_worldsOf_18 rfl ?_
        refine y_callV (as := [_]) CX9_isWorld LX9_485 IX9_isWorld VX9_isWorld ⟨rfl, Nat.le_of_ble_eq_true rfl⟩ dX9_worldsOf_20 hm.o rfl (Nat.le_of_ble_eq_true rfl) (Nat.le_of_ble_eq_true rfl) (by omega) (r_isWorld (d := 0) (g := i) hr hv hi (by omega)) (rok_z bI_01) ⟨Nat.le_refl _, Nat.le_refl _, hN, hS⟩ ?_
        refine z_if_eq dX9_worldsOf_23 rfl (fun c => absurd c (bI_ne0.mpr h1)) (fun _ => ?_)
        refine z_iload dX9_worldsOf_26 rfl ?_
        refine z_iload_n dX9_worldsOf_28 rfl rfl ?_
        refine z_iand dX9_worldsOf_29 ?_
        refine z_eqi (nI_and i fx) ?_
        refine z_iload dX9_worldsOf_30 rfl ?_
        refine z_icmp_ne dX9_worldsOf_32 rfl (fun _ => ?_) (fun c => absurd c (fun c => h2' ((nI_eq (by omega) (by omega)).mp c)))
        refine z_iconst (v := 0) dX9_worldsOf_64 (by decide) ?_
        refine z_iadd dX9_worldsOf_65 ?_
        refine z_eqi (nI_add _ 0) ?_
        refine z_istore dX9_worldsOf_66 (Nat.le_of_ble_eq_true rfl) ?_
        refine z_iinc dX9_worldsOf_68 rfl (nI_1 _) (Nat.le_of_ble_eq_true rfl) ?_
        refine z_goto dX9_worldsOf_71 rfl ?_
        have K2 := ih (i + 1) (by omega)
        rw [e] at K2
        exact K2
      · skip
        have hP : wPr s.1 k 2 fx ax i = true := by
          unfold wPr
          rw [h1, h2]
          rfl
        have e : cntP (wPr s.1 k 2 fx ax) (i + 1) = cntP (wPr s.1 k 2 fx ax) i + 1 := by
          show _ + (if _ then _ else _) = _
          rw [if_pos hP]
        refine z_iload dX9_worldsOf_6 rfl ?_
        refine z_aload_n dX9_worldsOf_8 rfl rfl ?_
        refine y_callV (as := []) CX9_allFacts LX9_464 IX9_allFacts VX9_allFacts ⟨rfl, Nat.le_of_ble_eq_true rfl⟩ dX9_worldsOf_9 hm.o rfl (Nat.le_of_ble_eq_true rfl) (Nat.le_of_ble_eq_true rfl) (by omega) (r_allFacts (d := 0) hr hv) rok_i ⟨Nat.le_refl _, Nat.le_refl _, hN, hS⟩ ?_
        refine z_icmp_gt dX9_worldsOf_12 rfl (fun c => absurd c (fun q => absurd ((nI_ltI (by omega) (by omega)).mp q) (by omega))) (fun _ => ?_)
        refine z_iload dX9_worldsOf_15 rfl ?_
        refine z_aload_n dX9_worldsOf_17 rfl rfl ?_
        refine z_iload dX9_worldsOf_18 rfl ?_
        refine y_callV (as := [_]) CX9_isWorld LX9_485 IX9_isWorld VX9_isWorld ⟨rfl, Nat.le_of_ble_eq_true rfl⟩ dX9_worldsOf_20 hm.o rfl (Nat.le_of_ble_eq_true rfl) (Nat.le_of_ble_eq_true rfl) (by omega) (r_isWorld (d := 0) (g := i) hr hv hi (by omega)) (rok_z bI_01) ⟨Nat.le_refl _, Nat.le_refl _, hN, hS⟩ ?_
        refine z_if_eq dX9_worldsOf_23 rfl (fun c => absurd c (bI_ne0.mpr h1)) (fun _ => ?_)
        refine z_iload dX9_worldsOf_26 rfl ?_
        refine z_iload_n dX9_worldsOf_28 rfl rfl ?_
        refine z_iand dX9_worldsOf_29 ?_
        refine z_eqi (nI_and i fx) ?_
        refine z_iload dX9_worldsOf_30 rfl ?_
        refine z_icmp_ne dX9_worldsOf_32 rfl (fun c => absurd (congrArg nI (beq_iff_eq.mp h2)) c) (fun _ => ?_)
        refine z_iload_n dX9_worldsOf_35 rfl rfl ?_
        refine z_iconst (v := -1) dX9_worldsOf_36 (by decide) ?_
        refine z_icmp_eq dX9_worldsOf_37 rfl (fun _ => ?_) (fun c => absurd (by decide) c)
        refine z_iconst (v := 1) dX9_worldsOf_60 (by decide) ?_
        refine z_goto dX9_worldsOf_61 rfl ?_
        refine z_iadd dX9_worldsOf_65 ?_
        refine z_eqi (nI_1 _) ?_
        refine z_istore dX9_worldsOf_66 (Nat.le_of_ble_eq_true rfl) ?_
        refine z_iinc dX9_worldsOf_68 rfl (nI_1 _) (Nat.le_of_ble_eq_true rfl) ?_
        refine z_goto dX9_worldsOf_71 rfl ?_
        have K2 := ih (i + 1) (by omega)
        rw [e] at K2
        exact K2
theorem r_worldsOf_2 {s : Ms} {h : Hp} {d : Nat} (hr : RM s h) (hv : IC s.1) (hi : IH s.1) (hW : IW (s.1 0) (snap s.1)) {k fx ax : Nat} (hk : k < s.1 11) (hfx : fx < 256) (hax : ax < 256) (hd : 2 ≤ d) : Sp d mX9_worldsOf [.ref 488, .int (nI k), .int (-1), .int (nI fx), .int (nI ax)] h (some (.int (nI (wcR s.1 k 2 fx ax)))) h := by
  have hm := hr.m
  intro N S Q hN hS hQ
  refine z_iconst (v := 0) dX9_worldsOf_0 (by decide) ?_
  refine z_istore dX9_worldsOf_1 (Nat.le_of_ble_eq_true rfl) ?_
  refine z_iconst (v := 0) dX9_worldsOf_3 (by decide) ?_
  refine z_istore dX9_worldsOf_4 (Nat.le_of_ble_eq_true rfl) ?_
  exact r_wo_loop_2 hr hv hi hW hk hfx hax hN hS hd hQ (2 ^ s.1 0) 0 (by omega)

theorem r_wo_loop_1 {s : Ms} {h : Hp} {d N S : Nat} {Q : Option Value → Hp → Prop} (hr : RM s h) (hv : IC s.1) (hi : IH s.1) (hW : IW (s.1 0) (snap s.1)) {k fx ax : Nat} (hk : k < s.1 11) (hfx : fx < 256) (hax : ax < 256) (hN : pn h ≤ N) (hS : ps h ≤ S) (hd : 2 ≤ d) (hQ : Q (some (.int (nI (wcR s.1 k 1 fx ax)))) h) : ∀ r i, i + r = 2 ^ s.1 0 → T d N S mX9_worldsOf 6 [some (.ref 488), some (.int (nI k)), some (.int 1), some (.int (nI fx)), some (.int (nI ax)), some (.int (nI (cntP (wPr s.1 k 1 fx ax) i))), some (.int (nI i))] [] h Q := by
  have hm := hr.m
  have v0 := hv.1
  have v6 := hv.2.2.2.2.2.2.1
  have v11 := hv.2.2.2.2.2.2.2.2.2.2.2.1
  have p8 : 2 ^ s.1 0 ≤ 2 ^ 8 := Nat.pow_le_pow_right (by omega) v0
  have p1 : 0 < 2 ^ s.1 0 := Nat.pow_pos (by omega)
  have cc := hW.2.2.1 k hk
  have c1 := cc.2.1
  have c2 := cc.2.2.2.1
  intro r
  induction r with
  | zero =>
    intro i hin
    have e : i = 2 ^ s.1 0 := by omega
    rw [e]
    refine z_iload dX9_worldsOf_6 rfl ?_
    refine z_aload_n dX9_worldsOf_8 rfl rfl ?_
    refine y_callV (as := []) CX9_allFacts LX9_464 IX9_allFacts VX9_allFacts ⟨rfl, Nat.le_of_ble_eq_true rfl⟩ dX9_worldsOf_9 hm.o rfl (Nat.le_of_ble_eq_true rfl) (Nat.le_of_ble_eq_true rfl) (by omega) (r_allFacts (d := 0) hr hv) rok_i ⟨Nat.le_refl _, Nat.le_refl _, hN, hS⟩ ?_
    refine z_icmp_gt dX9_worldsOf_12 rfl (fun _ => ?_) (fun c => absurd ((nI_ltI (by omega) (by omega)).mpr (by omega)) c)
    refine z_iload dX9_worldsOf_74 rfl ?_
    refine z_iret dX9_worldsOf_76 ?_
    exact hQ
  | succ r ih =>
    intro i hin
    cases h1 : isW s.1 i (s.1 6)
    · skip
      have hP : wPr s.1 k 1 fx ax i = false := by
        unfold wPr
        rw [h1]
        rfl
      have e : cntP (wPr s.1 k 1 fx ax) (i + 1) = cntP (wPr s.1 k 1 fx ax) i + 0 := by
        show _ + (if _ then _ else _) = _
        rw [if_neg (by rw [hP]; decide)]
      refine z_iload dX9_worldsOf_6 rfl ?_
      refine z_aload_n dX9_worldsOf_8 rfl rfl ?_
      refine y_callV (as := []) CX9_allFacts LX9_464 IX9_allFacts VX9_allFacts ⟨rfl, Nat.le_of_ble_eq_true rfl⟩ dX9_worldsOf_9 hm.o rfl (Nat.le_of_ble_eq_true rfl) (Nat.le_of_ble_eq_true rfl) (by omega) (r_allFacts (d := 0) hr hv) rok_i ⟨Nat.le_refl _, Nat.le_refl _, hN, hS⟩ ?_
      refine z_icmp_gt dX9_worldsOf_12 rfl (fun c => absurd c (fun q => absurd ((nI_ltI (by omega) (by omega)).mp q) (by omega))) (fun _ => ?_)
      refine z_iload dX9_worldsOf_15 rfl ?_
      refine z_aload_n dX9_worldsOf_17 rfl rfl ?_
      refine z_iload dX9_worldsOf_18 rfl ?_
      refine y_callV (as := [_]) CX9_isWorld LX9_485 IX9_isWorld VX9_isWorld ⟨rfl, Nat.le_of_ble_eq_true rfl⟩ dX9_worldsOf_20 hm.o rfl (Nat.le_of_ble_eq_true rfl) (Nat.le_of_ble_eq_true rfl) (by omega) (r_isWorld (d := 0) (g := i) hr hv hi (by omega)) (rok_z bI_01) ⟨Nat.le_refl _, Nat.le_refl _, hN, hS⟩ ?_
      refine z_if_eq dX9_worldsOf_23 rfl (fun _ => ?_) (fun c => absurd (bI_eq0.mpr (by rw [h1]; decide)) c)
      refine z_iconst (v := 0) dX9_worldsOf_64 (by decide) ?_
      refine z_iadd dX9_worldsOf_65 ?_
      refine z_eqi (nI_add _ 0) ?_
      refine z_istore dX9_worldsOf_66 (Nat.le_of_ble_eq_true rfl) ?_
      refine z_iinc dX9_worldsOf_68 rfl (nI_1 _) (Nat.le_of_ble_eq_true rfl) ?_
      refine z_goto dX9_worldsOf_71 rfl ?_
      have K2 := ih (i + 1) (by omega)
      rw [e] at K2
      exact K2
    · cases h2 : (i &&& fx == ax)
      · have h2' : ¬ i &&& fx = ax := fun c => by rw [beq_iff_eq.mpr c] at h2; exact absurd h2 (by decide)
        have l2 : i &&& fx < 256 := Nat.lt_of_le_of_lt Nat.and_le_right hfx
        have hP : wPr s.1 k 1 fx ax i = false := by
          unfold wPr
          rw [h1, h2]
          rfl
        have e : cntP (wPr s.1 k 1 fx ax) (i + 1) = cntP (wPr s.1 k 1 fx ax) i + 0 := by
          show _ + (if _ then _ else _) = _
          rw [if_neg (by rw [hP]; decide)]
        refine z_iload dX9_worldsOf_6 rfl ?_
        refine z_aload_n dX9_worldsOf_8 rfl rfl ?_
        refine y_callV (as := []) CX9_allFacts LX9_464 IX9_allFacts VX9_allFacts ⟨rfl, Nat.le_of_ble_eq_true rfl⟩ dX9_worldsOf_9 hm.o rfl (Nat.le_of_ble_eq_true rfl) (Nat.le_of_ble_eq_true rfl) (by omega) (r_allFacts (d := 0) hr hv) rok_i ⟨Nat.le_refl _, Nat.le_refl _, hN, hS⟩ ?_
        refine z_icmp_gt dX9_worldsOf_12 rfl (fun c => absurd c (fun q => absurd ((nI_ltI (by omega) (by omega)).mp q) (by omega))) (fun _ => ?_)
        refine z_iload dX9_worldsOf_15 rfl ?_
        refine z_aload_n dX9_worldsOf_17 rfl rfl ?_
        refine z_iload dX9_worldsOf_18 rfl ?_
        refine y_callV (as := [_]) CX9_isWorld LX9_485 IX9_isWorld VX9_isWorld ⟨rfl, Nat.le_of_ble_eq_true rfl⟩ dX9_worldsOf_20 hm.o rfl (Nat.le_of_ble_eq_true rfl) (Nat.le_of_ble_eq_true rfl) (by omega) (r_isWorld (d := 0) (g := i) hr hv hi (by omega)) (rok_z bI_01) ⟨Nat.le_refl _, Nat.le_refl _, hN, hS⟩ ?_
        refine z_if_eq dX9_worldsOf_23 rfl (fun c => absurd c (bI_ne0.mpr h1)) (fun _ => ?_)
        refine z_iload dX9_worldsOf_26 rfl ?_
        refine z_iload_n dX9_worldsOf_28 rfl rfl ?_
        refine z_iand dX9_worldsOf_29 ?_
        refine z_eqi (nI_and i fx) ?_
        refine z_iload dX9_worldsOf_30 rfl ?_
        refine z_icmp_ne dX9_worldsOf_32 rfl (fun _ => ?_) (fun c => absurd c (fun c => h2' ((nI_eq (by omega) (by omega)).mp c)))
        refine z_iconst (v := 0) dX9_worldsOf_64 (by decide) ?_
        refine z_iadd dX9_worldsOf_65 ?_
        refine z_eqi (nI_add _ 0) ?_
        refine z_istore dX9_worldsOf_66 (Nat.le_of_ble_eq_true rfl) ?_
        refine z_iinc dX9_worldsOf_68 rfl (nI_1 _) (Nat.le_of_ble_eq_true rfl) ?_
        refine z_goto dX9_worldsOf_71 rfl ?_
        have K2 := ih (i + 1) (by omega)
        rw [e] at K2
        exact K2
      · cases h3 : hld (snap s.1) k i
        · have n57 : ¬ bI (metB (snap s.1 (pcx k 1)) (snap s.1 (pcx k 2)) i = true) = 1 := fun c => by rw [bI_f (fun c2 => by rw [show metB (snap s.1 (pcx k 1)) (snap s.1 (pcx k 2)) i = false from h3] at c2; exact absurd c2 (by decide))] at c; exact absurd c (by decide)
          have hP : wPr s.1 k 1 fx ax i = false := by
            unfold wPr
            rw [h1, h2, h3]
            rfl
          have e : cntP (wPr s.1 k 1 fx ax) (i + 1) = cntP (wPr s.1 k 1 fx ax) i + 0 := by
            show _ + (if _ then _ else _) = _
            rw [if_neg (by rw [hP]; decide)]
          refine z_iload dX9_worldsOf_6 rfl ?_
          refine z_aload_n dX9_worldsOf_8 rfl rfl ?_
          refine y_callV (as := []) CX9_allFacts LX9_464 IX9_allFacts VX9_allFacts ⟨rfl, Nat.le_of_ble_eq_true rfl⟩ dX9_worldsOf_9 hm.o rfl (Nat.le_of_ble_eq_true rfl) (Nat.le_of_ble_eq_true rfl) (by omega) (r_allFacts (d := 0) hr hv) rok_i ⟨Nat.le_refl _, Nat.le_refl _, hN, hS⟩ ?_
          refine z_icmp_gt dX9_worldsOf_12 rfl (fun c => absurd c (fun q => absurd ((nI_ltI (by omega) (by omega)).mp q) (by omega))) (fun _ => ?_)
          refine z_iload dX9_worldsOf_15 rfl ?_
          refine z_aload_n dX9_worldsOf_17 rfl rfl ?_
          refine z_iload dX9_worldsOf_18 rfl ?_
          refine y_callV (as := [_]) CX9_isWorld LX9_485 IX9_isWorld VX9_isWorld ⟨rfl, Nat.le_of_ble_eq_true rfl⟩ dX9_worldsOf_20 hm.o rfl (Nat.le_of_ble_eq_true rfl) (Nat.le_of_ble_eq_true rfl) (by omega) (r_isWorld (d := 0) (g := i) hr hv hi (by omega)) (rok_z bI_01) ⟨Nat.le_refl _, Nat.le_refl _, hN, hS⟩ ?_
          refine z_if_eq dX9_worldsOf_23 rfl (fun c => absurd c (bI_ne0.mpr h1)) (fun _ => ?_)
          refine z_iload dX9_worldsOf_26 rfl ?_
          refine z_iload_n dX9_worldsOf_28 rfl rfl ?_
          refine z_iand dX9_worldsOf_29 ?_
          refine z_eqi (nI_and i fx) ?_
          refine z_iload dX9_worldsOf_30 rfl ?_
          refine z_icmp_ne dX9_worldsOf_32 rfl (fun c => absurd (congrArg nI (beq_iff_eq.mp h2)) c) (fun _ => ?_)
          refine z_iload_n dX9_worldsOf_35 rfl rfl ?_
          refine z_iconst (v := -1) dX9_worldsOf_36 (by decide) ?_
          refine z_icmp_eq dX9_worldsOf_37 rfl (fun c => absurd c (by decide)) (fun _ => ?_)
          refine z_aload_n dX9_worldsOf_40 rfl rfl ?_
          refine z_iload_n dX9_worldsOf_41 rfl rfl ?_
          refine z_iload dX9_worldsOf_42 rfl ?_
          refine y_callV (as := [_, _]) CX9_isSoIn LX9_356 IX9_isSoIn VX9_isSoIn ⟨rfl, Nat.le_of_ble_eq_true rfl⟩ dX9_worldsOf_44 hm.o rfl (Nat.le_of_ble_eq_true rfl) (Nat.le_of_ble_eq_true rfl) (by omega) (r_isSoIn (k := k) (al := snap s.1 (pcx k 1)) (f := snap s.1 (pcx k 2)) (g := i) (by exact hm) (by omega) (by rw [snap_pc (by omega) (by omega)]; exact hr.at (by omega) (by omega)) (by omega) (by rw [snap_pc (by omega) (by omega)]; exact hr.at (by omega) (by omega)) (by omega) (by omega) (by omega)) (rok_z bI_01) ⟨Nat.le_refl _, Nat.le_refl _, hN, hS⟩ ?_
          refine z_iload_n dX9_worldsOf_47 rfl rfl ?_
          refine z_iconst (v := 1) dX9_worldsOf_48 (by decide) ?_
          refine z_icmp_ne dX9_worldsOf_49 rfl (fun c => absurd (by decide) c) (fun _ => ?_)
          refine z_iconst (v := 1) dX9_worldsOf_52 (by decide) ?_
          refine z_goto dX9_worldsOf_53 rfl ?_
          refine z_icmp_ne dX9_worldsOf_57 rfl (fun _ => ?_) (fun c => absurd c (n57))
          refine z_iconst (v := 0) dX9_worldsOf_64 (by decide) ?_
          refine z_iadd dX9_worldsOf_65 ?_
          refine z_eqi (nI_add _ 0) ?_
          refine z_istore dX9_worldsOf_66 (Nat.le_of_ble_eq_true rfl) ?_
          refine z_iinc dX9_worldsOf_68 rfl (nI_1 _) (Nat.le_of_ble_eq_true rfl) ?_
          refine z_goto dX9_worldsOf_71 rfl ?_
          have K2 := ih (i + 1) (by omega)
          rw [e] at K2
          exact K2
        · skip
          have hP : wPr s.1 k 1 fx ax i = true := by
            unfold wPr
            rw [h1, h2, h3]
            rfl
          have e : cntP (wPr s.1 k 1 fx ax) (i + 1) = cntP (wPr s.1 k 1 fx ax) i + 1 := by
            show _ + (if _ then _ else _) = _
            rw [if_pos hP]
          refine z_iload dX9_worldsOf_6 rfl ?_
          refine z_aload_n dX9_worldsOf_8 rfl rfl ?_
          refine y_callV (as := []) CX9_allFacts LX9_464 IX9_allFacts VX9_allFacts ⟨rfl, Nat.le_of_ble_eq_true rfl⟩ dX9_worldsOf_9 hm.o rfl (Nat.le_of_ble_eq_true rfl) (Nat.le_of_ble_eq_true rfl) (by omega) (r_allFacts (d := 0) hr hv) rok_i ⟨Nat.le_refl _, Nat.le_refl _, hN, hS⟩ ?_
          refine z_icmp_gt dX9_worldsOf_12 rfl (fun c => absurd c (fun q => absurd ((nI_ltI (by omega) (by omega)).mp q) (by omega))) (fun _ => ?_)
          refine z_iload dX9_worldsOf_15 rfl ?_
          refine z_aload_n dX9_worldsOf_17 rfl rfl ?_
          refine z_iload dX9_worldsOf_18 rfl ?_
          refine y_callV (as := [_]) CX9_isWorld LX9_485 IX9_isWorld VX9_isWorld ⟨rfl, Nat.le_of_ble_eq_true rfl⟩ dX9_worldsOf_20 hm.o rfl (Nat.le_of_ble_eq_true rfl) (Nat.le_of_ble_eq_true rfl) (by omega) (r_isWorld (d := 0) (g := i) hr hv hi (by omega)) (rok_z bI_01) ⟨Nat.le_refl _, Nat.le_refl _, hN, hS⟩ ?_
          refine z_if_eq dX9_worldsOf_23 rfl (fun c => absurd c (bI_ne0.mpr h1)) (fun _ => ?_)
          refine z_iload dX9_worldsOf_26 rfl ?_
          refine z_iload_n dX9_worldsOf_28 rfl rfl ?_
          refine z_iand dX9_worldsOf_29 ?_
          refine z_eqi (nI_and i fx) ?_
          refine z_iload dX9_worldsOf_30 rfl ?_
          refine z_icmp_ne dX9_worldsOf_32 rfl (fun c => absurd (congrArg nI (beq_iff_eq.mp h2)) c) (fun _ => ?_)
          refine z_iload_n dX9_worldsOf_35 rfl rfl ?_
          refine z_iconst (v := -1) dX9_worldsOf_36 (by decide) ?_
          refine z_icmp_eq dX9_worldsOf_37 rfl (fun c => absurd c (by decide)) (fun _ => ?_)
          refine z_aload_n dX9_worldsOf_40 rfl rfl ?_
          refine z_iload_n dX9_worldsOf_41 rfl rfl ?_
          refine z_iload dX9_worldsOf_42 rfl ?_
          refine y_callV (as := [_, _]) CX9_isSoIn LX9_356 IX9_isSoIn VX9_isSoIn ⟨rfl, Nat.le_of_ble_eq_true rfl⟩ dX9_worldsOf_44 hm.o rfl (Nat.le_of_ble_eq_true rfl) (Nat.le_of_ble_eq_true rfl) (by omega) (r_isSoIn (k := k) (al := snap s.1 (pcx k 1)) (f := snap s.1 (pcx k 2)) (g := i) (by exact hm) (by omega) (by rw [snap_pc (by omega) (by omega)]; exact hr.at (by omega) (by omega)) (by omega) (by rw [snap_pc (by omega) (by omega)]; exact hr.at (by omega) (by omega)) (by omega) (by omega) (by omega)) (rok_z bI_01) ⟨Nat.le_refl _, Nat.le_refl _, hN, hS⟩ ?_
          refine z_iload_n dX9_worldsOf_47 rfl rfl ?_
          refine z_iconst (v := 1) dX9_worldsOf_48 (by decide) ?_
          refine z_icmp_ne dX9_worldsOf_49 rfl (fun c => absurd (by decide) c) (fun _ => ?_)
          refine z_iconst (v := 1) dX9_worldsOf_52 (by decide) ?_
          refine z_goto dX9_worldsOf_53 rfl ?_
          refine z_icmp_ne dX9_worldsOf_57 rfl (fun c => absurd (bI_t h3) c) (fun _ => ?_)
          refine z_iconst (v := 1) dX9_worldsOf_60 (by decide) ?_
          refine z_goto dX9_worldsOf_61 rfl ?_
          refine z_iadd dX9_worldsOf_65 ?_
          refine z_eqi (nI_1 _) ?_
          refine z_istore dX9_worldsOf_66 (Nat.le_of_ble_eq_true rfl) ?_
          refine z_iinc dX9_worldsOf_68 rfl (nI_1 _) (Nat.le_of_ble_eq_true rfl) ?_
          refine z_goto dX9_worldsOf_71 rfl ?_
          have K2 := ih (i + 1) (by omega)
          rw [e] at K2
          exact K2
theorem r_worldsOf_1 {s : Ms} {h : Hp} {d : Nat} (hr : RM s h) (hv : IC s.1) (hi : IH s.1) (hW : IW (s.1 0) (snap s.1)) {k fx ax : Nat} (hk : k < s.1 11) (hfx : fx < 256) (hax : ax < 256) (hd : 2 ≤ d) : Sp d mX9_worldsOf [.ref 488, .int (nI k), .int 1, .int (nI fx), .int (nI ax)] h (some (.int (nI (wcR s.1 k 1 fx ax)))) h := by
  have hm := hr.m
  intro N S Q hN hS hQ
  refine z_iconst (v := 0) dX9_worldsOf_0 (by decide) ?_
  refine z_istore dX9_worldsOf_1 (Nat.le_of_ble_eq_true rfl) ?_
  refine z_iconst (v := 0) dX9_worldsOf_3 (by decide) ?_
  refine z_istore dX9_worldsOf_4 (Nat.le_of_ble_eq_true rfl) ?_
  exact r_wo_loop_1 hr hv hi hW hk hfx hax hN hS hd hQ (2 ^ s.1 0) 0 (by omega)

theorem r_wo_loop_0 {s : Ms} {h : Hp} {d N S : Nat} {Q : Option Value → Hp → Prop} (hr : RM s h) (hv : IC s.1) (hi : IH s.1) (hW : IW (s.1 0) (snap s.1)) {k fx ax : Nat} (hk : k < s.1 11) (hfx : fx < 256) (hax : ax < 256) (hN : pn h ≤ N) (hS : ps h ≤ S) (hd : 2 ≤ d) (hQ : Q (some (.int (nI (wcR s.1 k 0 fx ax)))) h) : ∀ r i, i + r = 2 ^ s.1 0 → T d N S mX9_worldsOf 6 [some (.ref 488), some (.int (nI k)), some (.int 0), some (.int (nI fx)), some (.int (nI ax)), some (.int (nI (cntP (wPr s.1 k 0 fx ax) i))), some (.int (nI i))] [] h Q := by
  have hm := hr.m
  have v0 := hv.1
  have v6 := hv.2.2.2.2.2.2.1
  have v11 := hv.2.2.2.2.2.2.2.2.2.2.2.1
  have p8 : 2 ^ s.1 0 ≤ 2 ^ 8 := Nat.pow_le_pow_right (by omega) v0
  have p1 : 0 < 2 ^ s.1 0 := Nat.pow_pos (by omega)
  have cc := hW.2.2.1 k hk
  have c1 := cc.2.1
  have c2 := cc.2.2.2.1
  intro r
  induction r with
  | zero =>
    intro i hin
    have e : i = 2 ^ s.1 0 := by omega
    rw [e]
    refine z_iload dX9_worldsOf_6 rfl ?_
    refine z_aload_n dX9_worldsOf_8 rfl rfl ?_
    refine y_callV (as := []) CX9_allFacts LX9_464 IX9_allFacts VX9_allFacts ⟨rfl, Nat.le_of_ble_eq_true rfl⟩ dX9_worldsOf_9 hm.o rfl (Nat.le_of_ble_eq_true rfl) (Nat.le_of_ble_eq_true rfl) (by omega) (r_allFacts (d := 0) hr hv) rok_i ⟨Nat.le_refl _, Nat.le_refl _, hN, hS⟩ ?_
    refine z_icmp_gt dX9_worldsOf_12 rfl (fun _ => ?_) (fun c => absurd ((nI_ltI (by omega) (by omega)).mpr (by omega)) c)
    refine z_iload dX9_worldsOf_74 rfl ?_
    refine z_iret dX9_worldsOf_76 ?_
    exact hQ
  | succ r ih =>
    intro i hin
    cases h1 : isW s.1 i (s.1 6)
    · skip
      have hP : wPr s.1 k 0 fx ax i = false := by
        unfold wPr
        rw [h1]
        rfl
      have e : cntP (wPr s.1 k 0 fx ax) (i + 1) = cntP (wPr s.1 k 0 fx ax) i + 0 := by
        show _ + (if _ then _ else _) = _
        rw [if_neg (by rw [hP]; decide)]
      refine z_iload dX9_worldsOf_6 rfl ?_
      refine z_aload_n dX9_worldsOf_8 rfl rfl ?_
      refine y_callV (as := []) CX9_allFacts LX9_464 IX9_allFacts VX9_allFacts ⟨rfl, Nat.le_of_ble_eq_true rfl⟩ dX9_worldsOf_9 hm.o rfl (Nat.le_of_ble_eq_true rfl) (Nat.le_of_ble_eq_true rfl) (by omega) (r_allFacts (d := 0) hr hv) rok_i ⟨Nat.le_refl _, Nat.le_refl _, hN, hS⟩ ?_
      refine z_icmp_gt dX9_worldsOf_12 rfl (fun c => absurd c (fun q => absurd ((nI_ltI (by omega) (by omega)).mp q) (by omega))) (fun _ => ?_)
      refine z_iload dX9_worldsOf_15 rfl ?_
      refine z_aload_n dX9_worldsOf_17 rfl rfl ?_
      refine z_iload dX9_worldsOf_18 rfl ?_
      refine y_callV (as := [_]) CX9_isWorld LX9_485 IX9_isWorld VX9_isWorld ⟨rfl, Nat.le_of_ble_eq_true rfl⟩ dX9_worldsOf_20 hm.o rfl (Nat.le_of_ble_eq_true rfl) (Nat.le_of_ble_eq_true rfl) (by omega) (r_isWorld (d := 0) (g := i) hr hv hi (by omega)) (rok_z bI_01) ⟨Nat.le_refl _, Nat.le_refl _, hN, hS⟩ ?_
      refine z_if_eq dX9_worldsOf_23 rfl (fun _ => ?_) (fun c => absurd (bI_eq0.mpr (by rw [h1]; decide)) c)
      refine z_iconst (v := 0) dX9_worldsOf_64 (by decide) ?_
      refine z_iadd dX9_worldsOf_65 ?_
      refine z_eqi (nI_add _ 0) ?_
      refine z_istore dX9_worldsOf_66 (Nat.le_of_ble_eq_true rfl) ?_
      refine z_iinc dX9_worldsOf_68 rfl (nI_1 _) (Nat.le_of_ble_eq_true rfl) ?_
      refine z_goto dX9_worldsOf_71 rfl ?_
      have K2 := ih (i + 1) (by omega)
      rw [e] at K2
      exact K2
    · cases h2 : (i &&& fx == ax)
      · have h2' : ¬ i &&& fx = ax := fun c => by rw [beq_iff_eq.mpr c] at h2; exact absurd h2 (by decide)
        have l2 : i &&& fx < 256 := Nat.lt_of_le_of_lt Nat.and_le_right hfx
        have hP : wPr s.1 k 0 fx ax i = false := by
          unfold wPr
          rw [h1, h2]
          rfl
        have e : cntP (wPr s.1 k 0 fx ax) (i + 1) = cntP (wPr s.1 k 0 fx ax) i + 0 := by
          show _ + (if _ then _ else _) = _
          rw [if_neg (by rw [hP]; decide)]
        refine z_iload dX9_worldsOf_6 rfl ?_
        refine z_aload_n dX9_worldsOf_8 rfl rfl ?_
        refine y_callV (as := []) CX9_allFacts LX9_464 IX9_allFacts VX9_allFacts ⟨rfl, Nat.le_of_ble_eq_true rfl⟩ dX9_worldsOf_9 hm.o rfl (Nat.le_of_ble_eq_true rfl) (Nat.le_of_ble_eq_true rfl) (by omega) (r_allFacts (d := 0) hr hv) rok_i ⟨Nat.le_refl _, Nat.le_refl _, hN, hS⟩ ?_
        refine z_icmp_gt dX9_worldsOf_12 rfl (fun c => absurd c (fun q => absurd ((nI_ltI (by omega) (by omega)).mp q) (by omega))) (fun _ => ?_)
        refine z_iload dX9_worldsOf_15 rfl ?_
        refine z_aload_n dX9_worldsOf_17 rfl rfl ?_
        refine z_iload dX9_worldsOf_18 rfl ?_
        refine y_callV (as := [_]) CX9_isWorld LX9_485 IX9_isWorld VX9_isWorld ⟨rfl, Nat.le_of_ble_eq_true rfl⟩ dX9_worldsOf_20 hm.o rfl (Nat.le_of_ble_eq_true rfl) (Nat.le_of_ble_eq_true rfl) (by omega) (r_isWorld (d := 0) (g := i) hr hv hi (by omega)) (rok_z bI_01) ⟨Nat.le_refl _, Nat.le_refl _, hN, hS⟩ ?_
        refine z_if_eq dX9_worldsOf_23 rfl (fun c => absurd c (bI_ne0.mpr h1)) (fun _ => ?_)
        refine z_iload dX9_worldsOf_26 rfl ?_
        refine z_iload_n dX9_worldsOf_28 rfl rfl ?_
        refine z_iand dX9_worldsOf_29 ?_
        refine z_eqi (nI_and i fx) ?_
        refine z_iload dX9_worldsOf_30 rfl ?_
        refine z_icmp_ne dX9_worldsOf_32 rfl (fun _ => ?_) (fun c => absurd c (fun c => h2' ((nI_eq (by omega) (by omega)).mp c)))
        refine z_iconst (v := 0) dX9_worldsOf_64 (by decide) ?_
        refine z_iadd dX9_worldsOf_65 ?_
        refine z_eqi (nI_add _ 0) ?_
        refine z_istore dX9_worldsOf_66 (Nat.le_of_ble_eq_true rfl) ?_
        refine z_iinc dX9_worldsOf_68 rfl (nI_1 _) (Nat.le_of_ble_eq_true rfl) ?_
        refine z_goto dX9_worldsOf_71 rfl ?_
        have K2 := ih (i + 1) (by omega)
        rw [e] at K2
        exact K2
      · cases h3 : hld (snap s.1) k i
        · have n57 : bI (metB (snap s.1 (pcx k 1)) (snap s.1 (pcx k 2)) i = true) = 0 := bI_f (fun c2 => by rw [show metB (snap s.1 (pcx k 1)) (snap s.1 (pcx k 2)) i = false from h3] at c2; exact absurd c2 (by decide))
          have hP : wPr s.1 k 0 fx ax i = true := by
            unfold wPr
            rw [h1, h2, h3]
            rfl
          have e : cntP (wPr s.1 k 0 fx ax) (i + 1) = cntP (wPr s.1 k 0 fx ax) i + 1 := by
            show _ + (if _ then _ else _) = _
            rw [if_pos hP]
          refine z_iload dX9_worldsOf_6 rfl ?_
          refine z_aload_n dX9_worldsOf_8 rfl rfl ?_
          refine y_callV (as := []) CX9_allFacts LX9_464 IX9_allFacts VX9_allFacts ⟨rfl, Nat.le_of_ble_eq_true rfl⟩ dX9_worldsOf_9 hm.o rfl (Nat.le_of_ble_eq_true rfl) (Nat.le_of_ble_eq_true rfl) (by omega) (r_allFacts (d := 0) hr hv) rok_i ⟨Nat.le_refl _, Nat.le_refl _, hN, hS⟩ ?_
          refine z_icmp_gt dX9_worldsOf_12 rfl (fun c => absurd c (fun q => absurd ((nI_ltI (by omega) (by omega)).mp q) (by omega))) (fun _ => ?_)
          refine z_iload dX9_worldsOf_15 rfl ?_
          refine z_aload_n dX9_worldsOf_17 rfl rfl ?_
          refine z_iload dX9_worldsOf_18 rfl ?_
          refine y_callV (as := [_]) CX9_isWorld LX9_485 IX9_isWorld VX9_isWorld ⟨rfl, Nat.le_of_ble_eq_true rfl⟩ dX9_worldsOf_20 hm.o rfl (Nat.le_of_ble_eq_true rfl) (Nat.le_of_ble_eq_true rfl) (by omega) (r_isWorld (d := 0) (g := i) hr hv hi (by omega)) (rok_z bI_01) ⟨Nat.le_refl _, Nat.le_refl _, hN, hS⟩ ?_
          refine z_if_eq dX9_worldsOf_23 rfl (fun c => absurd c (bI_ne0.mpr h1)) (fun _ => ?_)
          refine z_iload dX9_worldsOf_26 rfl ?_
          refine z_iload_n dX9_worldsOf_28 rfl rfl ?_
          refine z_iand dX9_worldsOf_29 ?_
          refine z_eqi (nI_and i fx) ?_
          refine z_iload dX9_worldsOf_30 rfl ?_
          refine z_icmp_ne dX9_worldsOf_32 rfl (fun c => absurd (congrArg nI (beq_iff_eq.mp h2)) c) (fun _ => ?_)
          refine z_iload_n dX9_worldsOf_35 rfl rfl ?_
          refine z_iconst (v := -1) dX9_worldsOf_36 (by decide) ?_
          refine z_icmp_eq dX9_worldsOf_37 rfl (fun c => absurd c (by decide)) (fun _ => ?_)
          refine z_aload_n dX9_worldsOf_40 rfl rfl ?_
          refine z_iload_n dX9_worldsOf_41 rfl rfl ?_
          refine z_iload dX9_worldsOf_42 rfl ?_
          refine y_callV (as := [_, _]) CX9_isSoIn LX9_356 IX9_isSoIn VX9_isSoIn ⟨rfl, Nat.le_of_ble_eq_true rfl⟩ dX9_worldsOf_44 hm.o rfl (Nat.le_of_ble_eq_true rfl) (Nat.le_of_ble_eq_true rfl) (by omega) (r_isSoIn (k := k) (al := snap s.1 (pcx k 1)) (f := snap s.1 (pcx k 2)) (g := i) (by exact hm) (by omega) (by rw [snap_pc (by omega) (by omega)]; exact hr.at (by omega) (by omega)) (by omega) (by rw [snap_pc (by omega) (by omega)]; exact hr.at (by omega) (by omega)) (by omega) (by omega) (by omega)) (rok_z bI_01) ⟨Nat.le_refl _, Nat.le_refl _, hN, hS⟩ ?_
          refine z_iload_n dX9_worldsOf_47 rfl rfl ?_
          refine z_iconst (v := 1) dX9_worldsOf_48 (by decide) ?_
          refine z_icmp_ne dX9_worldsOf_49 rfl (fun _ => ?_) (fun c => absurd c (by decide))
          refine z_iconst (v := 0) dX9_worldsOf_56 (by decide) ?_
          refine z_icmp_ne dX9_worldsOf_57 rfl (fun c => absurd (n57) c) (fun _ => ?_)
          refine z_iconst (v := 1) dX9_worldsOf_60 (by decide) ?_
          refine z_goto dX9_worldsOf_61 rfl ?_
          refine z_iadd dX9_worldsOf_65 ?_
          refine z_eqi (nI_1 _) ?_
          refine z_istore dX9_worldsOf_66 (Nat.le_of_ble_eq_true rfl) ?_
          refine z_iinc dX9_worldsOf_68 rfl (nI_1 _) (Nat.le_of_ble_eq_true rfl) ?_
          refine z_goto dX9_worldsOf_71 rfl ?_
          have K2 := ih (i + 1) (by omega)
          rw [e] at K2
          exact K2
        · skip
          have hP : wPr s.1 k 0 fx ax i = false := by
            unfold wPr
            rw [h1, h2, h3]
            rfl
          have e : cntP (wPr s.1 k 0 fx ax) (i + 1) = cntP (wPr s.1 k 0 fx ax) i + 0 := by
            show _ + (if _ then _ else _) = _
            rw [if_neg (by rw [hP]; decide)]
          refine z_iload dX9_worldsOf_6 rfl ?_
          refine z_aload_n dX9_worldsOf_8 rfl rfl ?_
          refine y_callV (as := []) CX9_allFacts LX9_464 IX9_allFacts VX9_allFacts ⟨rfl, Nat.le_of_ble_eq_true rfl⟩ dX9_worldsOf_9 hm.o rfl (Nat.le_of_ble_eq_true rfl) (Nat.le_of_ble_eq_true rfl) (by omega) (r_allFacts (d := 0) hr hv) rok_i ⟨Nat.le_refl _, Nat.le_refl _, hN, hS⟩ ?_
          refine z_icmp_gt dX9_worldsOf_12 rfl (fun c => absurd c (fun q => absurd ((nI_ltI (by omega) (by omega)).mp q) (by omega))) (fun _ => ?_)
          refine z_iload dX9_worldsOf_15 rfl ?_
          refine z_aload_n dX9_worldsOf_17 rfl rfl ?_
          refine z_iload dX9_worldsOf_18 rfl ?_
          refine y_callV (as := [_]) CX9_isWorld LX9_485 IX9_isWorld VX9_isWorld ⟨rfl, Nat.le_of_ble_eq_true rfl⟩ dX9_worldsOf_20 hm.o rfl (Nat.le_of_ble_eq_true rfl) (Nat.le_of_ble_eq_true rfl) (by omega) (r_isWorld (d := 0) (g := i) hr hv hi (by omega)) (rok_z bI_01) ⟨Nat.le_refl _, Nat.le_refl _, hN, hS⟩ ?_
          refine z_if_eq dX9_worldsOf_23 rfl (fun c => absurd c (bI_ne0.mpr h1)) (fun _ => ?_)
          refine z_iload dX9_worldsOf_26 rfl ?_
          refine z_iload_n dX9_worldsOf_28 rfl rfl ?_
          refine z_iand dX9_worldsOf_29 ?_
          refine z_eqi (nI_and i fx) ?_
          refine z_iload dX9_worldsOf_30 rfl ?_
          refine z_icmp_ne dX9_worldsOf_32 rfl (fun c => absurd (congrArg nI (beq_iff_eq.mp h2)) c) (fun _ => ?_)
          refine z_iload_n dX9_worldsOf_35 rfl rfl ?_
          refine z_iconst (v := -1) dX9_worldsOf_36 (by decide) ?_
          refine z_icmp_eq dX9_worldsOf_37 rfl (fun c => absurd c (by decide)) (fun _ => ?_)
          refine z_aload_n dX9_worldsOf_40 rfl rfl ?_
          refine z_iload_n dX9_worldsOf_41 rfl rfl ?_
          refine z_iload dX9_worldsOf_42 rfl ?_
          refine y_callV (as := [_, _]) CX9_isSoIn LX9_356 IX9_isSoIn VX9_isSoIn ⟨rfl, Nat.le_of_ble_eq_true rfl⟩ dX9_worldsOf_44 hm.o rfl (Nat.le_of_ble_eq_true rfl) (Nat.le_of_ble_eq_true rfl) (by omega) (r_isSoIn (k := k) (al := snap s.1 (pcx k 1)) (f := snap s.1 (pcx k 2)) (g := i) (by exact hm) (by omega) (by rw [snap_pc (by omega) (by omega)]; exact hr.at (by omega) (by omega)) (by omega) (by rw [snap_pc (by omega) (by omega)]; exact hr.at (by omega) (by omega)) (by omega) (by omega) (by omega)) (rok_z bI_01) ⟨Nat.le_refl _, Nat.le_refl _, hN, hS⟩ ?_
          refine z_iload_n dX9_worldsOf_47 rfl rfl ?_
          refine z_iconst (v := 1) dX9_worldsOf_48 (by decide) ?_
          refine z_icmp_ne dX9_worldsOf_49 rfl (fun _ => ?_) (fun c => absurd c (by decide))
          refine z_iconst (v := 0) dX9_worldsOf_56 (by decide) ?_
          refine z_icmp_ne dX9_worldsOf_57 rfl (fun _ => ?_) (fun c => absurd c (bI_ne0.mpr h3))
          refine z_iconst (v := 0) dX9_worldsOf_64 (by decide) ?_
          refine z_iadd dX9_worldsOf_65 ?_
          refine z_eqi (nI_add _ 0) ?_
          refine z_istore dX9_worldsOf_66 (Nat.le_of_ble_eq_true rfl) ?_
          refine z_iinc dX9_worldsOf_68 rfl (nI_1 _) (Nat.le_of_ble_eq_true rfl) ?_
          refine z_goto dX9_worldsOf_71 rfl ?_
          have K2 := ih (i + 1) (by omega)
          rw [e] at K2
          exact K2
theorem r_worldsOf_0 {s : Ms} {h : Hp} {d : Nat} (hr : RM s h) (hv : IC s.1) (hi : IH s.1) (hW : IW (s.1 0) (snap s.1)) {k fx ax : Nat} (hk : k < s.1 11) (hfx : fx < 256) (hax : ax < 256) (hd : 2 ≤ d) : Sp d mX9_worldsOf [.ref 488, .int (nI k), .int 0, .int (nI fx), .int (nI ax)] h (some (.int (nI (wcR s.1 k 0 fx ax)))) h := by
  have hm := hr.m
  intro N S Q hN hS hQ
  refine z_iconst (v := 0) dX9_worldsOf_0 (by decide) ?_
  refine z_istore dX9_worldsOf_1 (Nat.le_of_ble_eq_true rfl) ?_
  refine z_iconst (v := 0) dX9_worldsOf_3 (by decide) ?_
  refine z_istore dX9_worldsOf_4 (Nat.le_of_ble_eq_true rfl) ?_
  exact r_wo_loop_0 hr hv hi hW hk hfx hax hN hS hd hQ (2 ^ s.1 0) 0 (by omega)

theorem R_worlds {s : Ms} {h : Hp} {d : Nat} (hr : RM s h) (hv : IC s.1) (hi : IH s.1) (hW : IW (s.1 0) (snap s.1)) (k w : Int32) (hd : 3 ≤ d) : Sp d mX9_worlds [.ref 488, .int k, .int w] h (some (.int (mWorlds s.1 k w))) h := by
  have hm := hr.m
  have v0 := hv.1
  have v6 := hv.2.2.2.2.2.2.1
  have v11 := hv.2.2.2.2.2.2.2.2.2.2.2.1
  have p8 : 2 ^ s.1 0 ≤ 2 ^ 8 := Nat.pow_le_pow_right (by omega) v0
  have p1 : 0 < 2 ^ s.1 0 := Nat.pow_pos (by omega)
  intro N S Q hN hS hQ
  by_cases hk : vin k (s.1 11)
  · by_cases hw : inr w 0 1
    · have eq : mWorlds s.1 k w = nI (wcR s.1 (nn k) (if w = 0 then 2 else 1) 0 0) := if_pos ⟨hk, hw⟩
      rw [eq] at hQ
      obtain ⟨k, hk1, rfl⟩ := vin_of (n := s.1 11) (by omega) hk
      rw [nn_nI (by omega)] at hQ
      by_cases h0 : w = 0
      · rw [if_pos h0] at hQ
        have hwo := r_worldsOf_2 (d := 2) (k := k) (fx := 0) (ax := 0) hr hv hi hW hk1 (by omega) (by omega) (Nat.le_refl _)
        refine z_aload_n dX9_worlds_0 rfl rfl ?_
        refine z_iload_n dX9_worlds_1 rfl rfl ?_
        refine y_callV (as := [_]) CX9_isProphecy LX9_75 IX9_isProphecy VX9_isProphecy ⟨rfl, Nat.le_of_ble_eq_true rfl⟩ dX9_worlds_2 hm.o rfl (Nat.le_of_ble_eq_true rfl) (Nat.le_of_ble_eq_true rfl) (by omega) (r_isProphecy (n := s.1 11) (by exact hm) (hr.at (by omega) (by omega)) (by omega) _ (by omega)) (rok_z bI_01) ⟨Nat.le_refl _, Nat.le_refl _, hN, hS⟩ ?_
        refine z_if_eq dX9_worlds_5 rfl (fun c => absurd c (bI_ne0.mpr hk)) (fun _ => ?_)
        refine z_iload_n dX9_worlds_8 rfl rfl ?_
        refine z_iconst (v := 0) dX9_worlds_9 (by decide) ?_
        refine z_iconst (v := 1) dX9_worlds_10 (by decide) ?_
        refine y_callS (as := [_, _, _]) CX9_isIn LX9_63 SX9_isIn dX9_worlds_11 rfl (Nat.le_of_ble_eq_true rfl) (Nat.le_of_ble_eq_true rfl) (by omega) (r_isIn _ _ _) (rok_z bI_01) ⟨Nat.le_refl _, Nat.le_refl _, hN, hS⟩ ?_
        refine z_if_eq dX9_worlds_14 rfl (fun c => absurd c (bI_ne0.mpr hw)) (fun _ => ?_)
        refine z_aload_n dX9_worlds_17 rfl rfl ?_
        refine z_iload_n dX9_worlds_18 rfl rfl ?_
        refine z_iload_n dX9_worlds_19 rfl rfl ?_
        refine z_if_ne dX9_worlds_20 rfl (fun c => absurd (h0) c) (fun _ => ?_)
        refine z_iconst (v := -1) dX9_worlds_23 (by decide) ?_
        refine z_goto dX9_worlds_24 rfl ?_
        refine z_iconst (v := 0) dX9_worlds_28 (by decide) ?_
        refine z_iconst (v := 0) dX9_worlds_29 (by decide) ?_
        refine y_callV (as := [_, _, _, _]) CX9_worldsOf LX9_488 IX9_worldsOf VX9_worldsOf ⟨rfl, Nat.le_of_ble_eq_true rfl⟩ dX9_worlds_30 hm.o rfl (Nat.le_of_ble_eq_true rfl) (Nat.le_of_ble_eq_true rfl) (by omega) hwo rok_i ⟨Nat.le_refl _, Nat.le_refl _, hN, hS⟩ ?_
        refine z_goto dX9_worlds_33 rfl ?_
        refine z_iret dX9_worlds_37 ?_
        exact hQ
      · rw [if_neg h0] at hQ
        have hwo := r_worldsOf_1 (d := 2) (k := k) (fx := 0) (ax := 0) hr hv hi hW hk1 (by omega) (by omega) (Nat.le_refl _)
        refine z_aload_n dX9_worlds_0 rfl rfl ?_
        refine z_iload_n dX9_worlds_1 rfl rfl ?_
        refine y_callV (as := [_]) CX9_isProphecy LX9_75 IX9_isProphecy VX9_isProphecy ⟨rfl, Nat.le_of_ble_eq_true rfl⟩ dX9_worlds_2 hm.o rfl (Nat.le_of_ble_eq_true rfl) (Nat.le_of_ble_eq_true rfl) (by omega) (r_isProphecy (n := s.1 11) (by exact hm) (hr.at (by omega) (by omega)) (by omega) _ (by omega)) (rok_z bI_01) ⟨Nat.le_refl _, Nat.le_refl _, hN, hS⟩ ?_
        refine z_if_eq dX9_worlds_5 rfl (fun c => absurd c (bI_ne0.mpr hk)) (fun _ => ?_)
        refine z_iload_n dX9_worlds_8 rfl rfl ?_
        refine z_iconst (v := 0) dX9_worlds_9 (by decide) ?_
        refine z_iconst (v := 1) dX9_worlds_10 (by decide) ?_
        refine y_callS (as := [_, _, _]) CX9_isIn LX9_63 SX9_isIn dX9_worlds_11 rfl (Nat.le_of_ble_eq_true rfl) (Nat.le_of_ble_eq_true rfl) (by omega) (r_isIn _ _ _) (rok_z bI_01) ⟨Nat.le_refl _, Nat.le_refl _, hN, hS⟩ ?_
        refine z_if_eq dX9_worlds_14 rfl (fun c => absurd c (bI_ne0.mpr hw)) (fun _ => ?_)
        refine z_aload_n dX9_worlds_17 rfl rfl ?_
        refine z_iload_n dX9_worlds_18 rfl rfl ?_
        refine z_iload_n dX9_worlds_19 rfl rfl ?_
        refine z_if_ne dX9_worlds_20 rfl (fun _ => ?_) (fun c => absurd c (h0))
        refine z_iconst (v := 1) dX9_worlds_27 (by decide) ?_
        refine z_iconst (v := 0) dX9_worlds_28 (by decide) ?_
        refine z_iconst (v := 0) dX9_worlds_29 (by decide) ?_
        refine y_callV (as := [_, _, _, _]) CX9_worldsOf LX9_488 IX9_worldsOf VX9_worldsOf ⟨rfl, Nat.le_of_ble_eq_true rfl⟩ dX9_worlds_30 hm.o rfl (Nat.le_of_ble_eq_true rfl) (Nat.le_of_ble_eq_true rfl) (by omega) hwo rok_i ⟨Nat.le_refl _, Nat.le_refl _, hN, hS⟩ ?_
        refine z_goto dX9_worlds_33 rfl ?_
        refine z_iret dX9_worlds_37 ?_
        exact hQ
    · have eq : mWorlds s.1 k w = -1 := if_neg (fun q => hw q.2)
      rw [eq] at hQ
      refine z_aload_n dX9_worlds_0 rfl rfl ?_
      refine z_iload_n dX9_worlds_1 rfl rfl ?_
      refine y_callV (as := [_]) CX9_isProphecy LX9_75 IX9_isProphecy VX9_isProphecy ⟨rfl, Nat.le_of_ble_eq_true rfl⟩ dX9_worlds_2 hm.o rfl (Nat.le_of_ble_eq_true rfl) (Nat.le_of_ble_eq_true rfl) (by omega) (r_isProphecy (n := s.1 11) (by exact hm) (hr.at (by omega) (by omega)) (by omega) _ (by omega)) (rok_z bI_01) ⟨Nat.le_refl _, Nat.le_refl _, hN, hS⟩ ?_
      refine z_if_eq dX9_worlds_5 rfl (fun c => absurd c (bI_ne0.mpr hk)) (fun _ => ?_)
      refine z_iload_n dX9_worlds_8 rfl rfl ?_
      refine z_iconst (v := 0) dX9_worlds_9 (by decide) ?_
      refine z_iconst (v := 1) dX9_worlds_10 (by decide) ?_
      refine y_callS (as := [_, _, _]) CX9_isIn LX9_63 SX9_isIn dX9_worlds_11 rfl (Nat.le_of_ble_eq_true rfl) (Nat.le_of_ble_eq_true rfl) (by omega) (r_isIn _ _ _) (rok_z bI_01) ⟨Nat.le_refl _, Nat.le_refl _, hN, hS⟩ ?_
      refine z_if_eq dX9_worlds_14 rfl (fun _ => ?_) (fun c => absurd (bI_eq0.mpr hw) c)
      refine z_iconst (v := -1) dX9_worlds_36 (by decide) ?_
      refine z_iret dX9_worlds_37 ?_
      exact hQ
  · have eq : mWorlds s.1 k w = -1 := if_neg (fun q => hk q.1)
    rw [eq] at hQ
    refine z_aload_n dX9_worlds_0 rfl rfl ?_
    refine z_iload_n dX9_worlds_1 rfl rfl ?_
    refine y_callV (as := [_]) CX9_isProphecy LX9_75 IX9_isProphecy VX9_isProphecy ⟨rfl, Nat.le_of_ble_eq_true rfl⟩ dX9_worlds_2 hm.o rfl (Nat.le_of_ble_eq_true rfl) (Nat.le_of_ble_eq_true rfl) (by omega) (r_isProphecy (n := s.1 11) (by exact hm) (hr.at (by omega) (by omega)) (by omega) _ (by omega)) (rok_z bI_01) ⟨Nat.le_refl _, Nat.le_refl _, hN, hS⟩ ?_
    refine z_if_eq dX9_worlds_5 rfl (fun _ => ?_) (fun c => absurd (bI_eq0.mpr hk) c)
    refine z_iconst (v := -1) dX9_worlds_36 (by decide) ?_
    refine z_iret dX9_worlds_37 ?_
    exact hQ

theorem r_heardOf {s : Ms} {h : Hp} {d : Nat} (hr : RM s h) (hv : IC s.1) (hi : IH s.1) : Sp d mX9_heardOf [.ref 488] h (some (.int (nI (knw s.1 (s.1 6))))) h := by
  have hm := hr.m
  have v0 := hv.1
  have v6 := hv.2.2.2.2.2.2.1
  have v11 := hv.2.2.2.2.2.2.2.2.2.2.2.1
  have p8 : 2 ^ s.1 0 ≤ 2 ^ 8 := Nat.pow_le_pow_right (by omega) v0
  have p1 : 0 < 2 ^ s.1 0 := Nat.pow_pos (by omega)
  intro N S Q hN hS hQ
  have L : ∀ r k, k + r = s.1 6 → T d N S mX9_heardOf 4 [some (.ref 488), some (.int (nI (knw s.1 k))), some (.int (nI k))] [] h Q := by
    intro r
    induction r with
    | zero =>
      intro k hk
      have e : k = s.1 6 := by omega
      subst e
      refine z_iload_n dX9_heardOf_4 rfl rfl ?_
      refine z_aload_n dX9_heardOf_5 rfl rfl ?_
      refine y_getR FX9_7 dX9_heardOf_6 rfl hm.o hm.f_a ?_
      refine z_bipush (v := 6) dX9_heardOf_9 (by decide) ?_
      refine y_ialN (6) dX9_heardOf_11 hm.A_a (Nat.le_of_ble_eq_true rfl) (rfl) (by omega) ?_
      refine z_eqi (show _ = nI (s.1 6) from hr.at (by omega) (by omega)) ?_
      refine z_icmp_ge dX9_heardOf_12 rfl (fun _ => ?_) (fun c => absurd (Int32.le_refl _) c)
      refine z_iload_n dX9_heardOf_38 rfl rfl ?_
      refine z_iret dX9_heardOf_39 ?_
      exact hQ
    | succ r ih =>
      intro k hk
      have b1 := (hi k (by omega)).1
      refine z_iload_n dX9_heardOf_4 rfl rfl ?_
      refine z_aload_n dX9_heardOf_5 rfl rfl ?_
      refine y_getR FX9_7 dX9_heardOf_6 rfl hm.o hm.f_a ?_
      refine z_bipush (v := 6) dX9_heardOf_9 (by decide) ?_
      refine y_ialN (6) dX9_heardOf_11 hm.A_a (Nat.le_of_ble_eq_true rfl) (rfl) (by omega) ?_
      refine z_eqi (show _ = nI (s.1 6) from hr.at (by omega) (by omega)) ?_
      refine z_icmp_ge dX9_heardOf_12 rfl (fun c => absurd c (fun q => absurd ((nI_leI (by omega) (by omega)).mp q) (by omega))) (fun _ => ?_)
      refine z_iload_n dX9_heardOf_15 rfl rfl ?_
      refine z_iconst (v := 1) dX9_heardOf_16 (by decide) ?_
      refine z_aload_n dX9_heardOf_17 rfl rfl ?_
      refine y_getR FX9_7 dX9_heardOf_18 rfl hm.o hm.f_a ?_
      refine z_sipush (v := 158) dX9_heardOf_21 (by decide) ?_
      refine z_iconst (v := 2) dX9_heardOf_24 (by decide) ?_
      refine z_iload_n dX9_heardOf_25 rfl rfl ?_
      refine z_imul dX9_heardOf_26 ?_
      refine z_iadd dX9_heardOf_27 ?_
      refine y_ialN (158 + 2 * k) dX9_heardOf_28 hm.A_a (Nat.le_of_ble_eq_true rfl) (by first | rfl | (simp only [← nI_add, ← pk_mul]; rfl)) (by omega) ?_
      refine z_eqi (show _ = nI (s.1 (158 + 2 * k)) from hr.at (by omega) (by omega)) ?_
      refine z_ishl dX9_heardOf_29 ?_
      refine z_eqi (nI_bit (show s.1 (158 + 2 * k) < 31 by omega)) ?_
      refine z_ior dX9_heardOf_30 ?_
      refine z_eqi (nI_or _ _) ?_
      refine z_istore_n dX9_heardOf_31 rfl (Nat.le_of_ble_eq_true rfl) ?_
      refine z_iinc dX9_heardOf_32 rfl (nI_1 _) (Nat.le_of_ble_eq_true rfl) ?_
      refine z_goto dX9_heardOf_35 rfl ?_
      exact ih (k + 1) (by omega)
  refine z_iconst (v := 0) dX9_heardOf_0 (by decide) ?_
  refine z_istore_n dX9_heardOf_1 rfl (Nat.le_of_ble_eq_true rfl) ?_
  refine z_iconst (v := 0) dX9_heardOf_2 (by decide) ?_
  refine z_istore_n dX9_heardOf_3 rfl (Nat.le_of_ble_eq_true rfl) ?_
  exact L (s.1 6) 0 (by omega)
theorem r_wrongBy {s : Ms} {h : Hp} {d : Nat} (hr : RM s h) (hv : IC s.1) (hi : IH s.1) (hW : IW (s.1 0) (snap s.1)) {k fx ax : Nat} (hk : k < s.1 11) (hfx : fx < 256) (hax : ax < 256) (hd : 3 ≤ d) : Sp d mX9_wrongBy [.ref 488, .int (nI k), .int (nI fx), .int (nI ax)] h (some (.int (nI (wbR s.1 k fx ax)))) h := by
  have hm := hr.m
  have v0 := hv.1
  have v6 := hv.2.2.2.2.2.2.1
  have v11 := hv.2.2.2.2.2.2.2.2.2.2.2.1
  have p8 : 2 ^ s.1 0 ≤ 2 ^ 8 := Nat.pow_le_pow_right (by omega) v0
  have p1 : 0 < 2 ^ s.1 0 := Nat.pow_pos (by omega)
  have w1 := wcR_le (a := s.1) (k := k) (is := 1) (fx := fx) (as := ax)
  have w0 := wcR_le (a := s.1) (k := k) (is := 0) (fx := fx) (as := ax)
  intro N S Q hN hS hQ
  unfold wbR at hQ
  by_cases c : wcR s.1 k 1 fx ax < wcR s.1 k 0 fx ax
  · rw [Nat.min_eq_left (by omega)] at hQ
    refine z_aload_n dX9_wrongBy_0 rfl rfl ?_
    refine z_iload_n dX9_wrongBy_1 rfl rfl ?_
    refine z_iconst (v := 1) dX9_wrongBy_2 (by decide) ?_
    refine z_iload_n dX9_wrongBy_3 rfl rfl ?_
    refine z_iload_n dX9_wrongBy_4 rfl rfl ?_
    refine y_callV (as := [_, _, _, _]) CX9_worldsOf LX9_488 IX9_worldsOf VX9_worldsOf ⟨rfl, Nat.le_of_ble_eq_true rfl⟩ dX9_wrongBy_5 hm.o rfl (Nat.le_of_ble_eq_true rfl) (Nat.le_of_ble_eq_true rfl) (by omega) (r_worldsOf_1 (d := 2) (k := k) (fx := fx) (ax := ax) hr hv hi hW hk hfx hax (Nat.le_refl _)) rok_i ⟨Nat.le_refl _, Nat.le_refl _, hN, hS⟩ ?_
    refine z_istore dX9_wrongBy_8 (Nat.le_of_ble_eq_true rfl) ?_
    refine z_aload_n dX9_wrongBy_10 rfl rfl ?_
    refine z_iload_n dX9_wrongBy_11 rfl rfl ?_
    refine z_iconst (v := 0) dX9_wrongBy_12 (by decide) ?_
    refine z_iload_n dX9_wrongBy_13 rfl rfl ?_
    refine z_iload_n dX9_wrongBy_14 rfl rfl ?_
    refine y_callV (as := [_, _, _, _]) CX9_worldsOf LX9_488 IX9_worldsOf VX9_worldsOf ⟨rfl, Nat.le_of_ble_eq_true rfl⟩ dX9_wrongBy_15 hm.o rfl (Nat.le_of_ble_eq_true rfl) (Nat.le_of_ble_eq_true rfl) (by omega) (r_worldsOf_0 (d := 2) (k := k) (fx := fx) (ax := ax) hr hv hi hW hk hfx hax (Nat.le_refl _)) rok_i ⟨Nat.le_refl _, Nat.le_refl _, hN, hS⟩ ?_
    refine z_istore dX9_wrongBy_18 (Nat.le_of_ble_eq_true rfl) ?_
    refine z_iload dX9_wrongBy_20 rfl ?_
    refine z_iload dX9_wrongBy_22 rfl ?_
    refine z_icmp_ge dX9_wrongBy_24 rfl (fun c => absurd c (fun q => absurd ((nI_leI (by omega) (by omega)).mp q) (by omega))) (fun _ => ?_)
    refine z_iload dX9_wrongBy_27 rfl ?_
    refine z_goto dX9_wrongBy_29 rfl ?_
    refine z_iret dX9_wrongBy_34 ?_
    exact hQ
  · rw [Nat.min_eq_right (by omega)] at hQ
    refine z_aload_n dX9_wrongBy_0 rfl rfl ?_
    refine z_iload_n dX9_wrongBy_1 rfl rfl ?_
    refine z_iconst (v := 1) dX9_wrongBy_2 (by decide) ?_
    refine z_iload_n dX9_wrongBy_3 rfl rfl ?_
    refine z_iload_n dX9_wrongBy_4 rfl rfl ?_
    refine y_callV (as := [_, _, _, _]) CX9_worldsOf LX9_488 IX9_worldsOf VX9_worldsOf ⟨rfl, Nat.le_of_ble_eq_true rfl⟩ dX9_wrongBy_5 hm.o rfl (Nat.le_of_ble_eq_true rfl) (Nat.le_of_ble_eq_true rfl) (by omega) (r_worldsOf_1 (d := 2) (k := k) (fx := fx) (ax := ax) hr hv hi hW hk hfx hax (Nat.le_refl _)) rok_i ⟨Nat.le_refl _, Nat.le_refl _, hN, hS⟩ ?_
    refine z_istore dX9_wrongBy_8 (Nat.le_of_ble_eq_true rfl) ?_
    refine z_aload_n dX9_wrongBy_10 rfl rfl ?_
    refine z_iload_n dX9_wrongBy_11 rfl rfl ?_
    refine z_iconst (v := 0) dX9_wrongBy_12 (by decide) ?_
    refine z_iload_n dX9_wrongBy_13 rfl rfl ?_
    refine z_iload_n dX9_wrongBy_14 rfl rfl ?_
    refine y_callV (as := [_, _, _, _]) CX9_worldsOf LX9_488 IX9_worldsOf VX9_worldsOf ⟨rfl, Nat.le_of_ble_eq_true rfl⟩ dX9_wrongBy_15 hm.o rfl (Nat.le_of_ble_eq_true rfl) (Nat.le_of_ble_eq_true rfl) (by omega) (r_worldsOf_0 (d := 2) (k := k) (fx := fx) (ax := ax) hr hv hi hW hk hfx hax (Nat.le_refl _)) rok_i ⟨Nat.le_refl _, Nat.le_refl _, hN, hS⟩ ?_
    refine z_istore dX9_wrongBy_18 (Nat.le_of_ble_eq_true rfl) ?_
    refine z_iload dX9_wrongBy_20 rfl ?_
    refine z_iload dX9_wrongBy_22 rfl ?_
    refine z_icmp_ge dX9_wrongBy_24 rfl (fun _ => ?_) (fun c => absurd ((nI_leI (by omega) (by omega)).mpr (by omega)) c)
    refine z_iload dX9_wrongBy_32 rfl ?_
    refine z_iret dX9_wrongBy_34 ?_
    exact hQ

theorem tlV_le {a : Fl} {k f : Nat} (h0 : a 0 ≤ 8) : tlV a k f ≤ 1000000000 := by
  have p8 : 2 ^ a 0 ≤ 2 ^ 8 := Nat.pow_le_pow_right (by omega) h0
  have w1 := wcR_le (a := a) (k := k) (is := 1) (fx := 2 ^ f) (as := 2 ^ f)
  have w0 := wcR_le (a := a) (k := k) (is := 1) (fx := 2 ^ f) (as := 0)
  unfold tlV wbR
  split <;> omega
theorem r_tells_loop {s : Ms} {h : Hp} {d N S : Nat} {Q : Option Value → Hp → Prop} (hr : RM s h) (hv : IC s.1) (hi : IH s.1) (hW : IW (s.1 0) (snap s.1)) {k : Nat} (hk : k < s.1 11) (hN : pn h ≤ N) (hS : ps h ≤ S) (hd : 4 ≤ d) (hQ : Q (some (.int (cT (tl s.1 k (s.1 0)).1))) h) : ∀ r i (o5 : Option Value), i + r = s.1 0 → T d N S mX9_tells 30 [some (.ref 488), some (.int (nI k)), some (.int (cT (tl s.1 k i).1)), some (.int (nI (tl s.1 k i).2)), some (.int (nI i)), o5] [] h Q := by
  have hm := hr.m
  have v0 := hv.1
  have v6 := hv.2.2.2.2.2.2.1
  have v11 := hv.2.2.2.2.2.2.2.2.2.2.2.1
  have p8 : 2 ^ s.1 0 ≤ 2 ^ 8 := Nat.pow_le_pow_right (by omega) v0
  have p1 : 0 < 2 ^ s.1 0 := Nat.pow_pos (by omega)
  have kl := knw_lt hi (s.1 6) (Nat.le_refl _)
  intro r
  induction r with
  | zero =>
    intro i o5 hin
    have e : i = s.1 0 := by omega
    subst e
    refine z_iload dX9_tells_30 rfl ?_
    refine z_aload_n dX9_tells_32 rfl rfl ?_
    refine y_getR FX9_7 dX9_tells_33 rfl hm.o hm.f_a ?_
    refine z_iconst (v := 0) dX9_tells_36 (by decide) ?_
    refine y_ialN (0) dX9_tells_37 hm.A_a (Nat.le_of_ble_eq_true rfl) (rfl) (by omega) ?_
    refine z_eqi (show _ = nI (s.1 0) from hr.at (by omega) (by omega)) ?_
    refine z_icmp_ge dX9_tells_38 rfl (fun _ => ?_) (fun c => absurd (Int32.le_refl _) c)
    refine z_iload_n dX9_tells_106 rfl rfl ?_
    refine z_iret dX9_tells_107 ?_
    exact hQ
  | succ r ih =>
    intro i o5 hin
    have pf : 2 ^ i < 256 := show 2 ^ i < 2 ^ 8 from Nat.pow_lt_pow_right (by omega) (by omega)
    have vl := tlV_le (a := s.1) (k := k) (f := i) v0
    have ll := tl_le (a := s.1) (k := k) i
    have es : tl s.1 k (i + 1) = if tlV s.1 k i < (tl s.1 k i).2 then (i + 1, tlV s.1 k i) else tl s.1 k i := rfl
    have K2 := fun o5 => ih (i + 1) o5 (by omega)
    by_cases hb : (knw s.1 (s.1 6)).testBit i = true
    · have ev : tlV s.1 k i = 1000000000 := if_pos hb
      rw [es, if_neg (by omega)] at K2
      refine z_iload dX9_tells_30 rfl ?_
      refine z_aload_n dX9_tells_32 rfl rfl ?_
      refine y_getR FX9_7 dX9_tells_33 rfl hm.o hm.f_a ?_
      refine z_iconst (v := 0) dX9_tells_36 (by decide) ?_
      refine y_ialN (0) dX9_tells_37 hm.A_a (Nat.le_of_ble_eq_true rfl) (rfl) (by omega) ?_
      refine z_eqi (show _ = nI (s.1 0) from hr.at (by omega) (by omega)) ?_
      refine z_icmp_ge dX9_tells_38 rfl (fun c => absurd c (fun q => absurd ((nI_leI (by omega) (by omega)).mp q) (by omega))) (fun _ => ?_)
      refine z_aload_n dX9_tells_41 rfl rfl ?_
      refine y_callV (as := []) CX9_heardOf LX9_492 IX9_heardOf VX9_heardOf ⟨rfl, Nat.le_of_ble_eq_true rfl⟩ dX9_tells_42 hm.o rfl (Nat.le_of_ble_eq_true rfl) (Nat.le_of_ble_eq_true rfl) (by omega) (r_heardOf (d := 0) hr hv hi) rok_i ⟨Nat.le_refl _, Nat.le_refl _, hN, hS⟩ ?_
      refine z_iload dX9_tells_45 rfl ?_
      refine y_callS (as := [_, _]) CX9_has LX9_261 SX9_has dX9_tells_47 rfl (Nat.le_of_ble_eq_true rfl) (Nat.le_of_ble_eq_true rfl) (by omega) (r_has (n := knw s.1 (s.1 6)) (k := i) (by omega) (by omega)) (rok_z bI_01) ⟨Nat.le_refl _, Nat.le_refl _, hN, hS⟩ ?_
      refine z_if_eq dX9_tells_50 rfl (fun c => absurd c (bI_ne0.mpr hb)) (fun _ => ?_)
      refine z_ldcw (v := 1000000000) dX9_tells_53 Kc_X9_491 ?_
      refine z_goto dX9_tells_56 rfl ?_
      refine z_istore dX9_tells_83 (Nat.le_of_ble_eq_true rfl) ?_
      refine z_iload dX9_tells_85 rfl ?_
      refine z_iload_n dX9_tells_87 rfl rfl ?_
      refine z_icmp_lt dX9_tells_88 rfl (fun c => absurd c (fun q => absurd ((nI_ltI (a := 1000000000) (by omega) (by omega)).mp q) (by omega))) (fun _ => ?_)
      refine z_goto dX9_tells_91 rfl ?_
      refine z_iinc dX9_tells_100 rfl (nI_1 _) (Nat.le_of_ble_eq_true rfl) ?_
      refine z_goto dX9_tells_103 rfl ?_
      exact K2 _
    · have ev : tlV s.1 k i = wbR s.1 k (2 ^ i) (2 ^ i) + wbR s.1 k (2 ^ i) 0 := if_neg hb
      by_cases c : tlV s.1 k i < (tl s.1 k i).2
      · rw [es, if_pos c] at K2
        have c' := c
        have vl' := vl
        rw [ev] at K2 c' vl'
        have K3 : ∀ o5, T d N S mX9_tells 30 [some (.ref 488), some (.int (nI k)), some (.int (nI i)), some (.int (nI (wbR s.1 k (2 ^ i) (2 ^ i) + wbR s.1 k (2 ^ i) 0))), some (.int (nI (i + 1))), o5] [] h Q := fun o5 => by
          have := K2 o5
          rw [show cT ((i + 1, wbR s.1 k (2 ^ i) (2 ^ i) + wbR s.1 k (2 ^ i) 0) : Nat × Nat).1 = nI i from cT_s i] at this
          exact this
        refine z_iload dX9_tells_30 rfl ?_
        refine z_aload_n dX9_tells_32 rfl rfl ?_
        refine y_getR FX9_7 dX9_tells_33 rfl hm.o hm.f_a ?_
        refine z_iconst (v := 0) dX9_tells_36 (by decide) ?_
        refine y_ialN (0) dX9_tells_37 hm.A_a (Nat.le_of_ble_eq_true rfl) (rfl) (by omega) ?_
        refine z_eqi (show _ = nI (s.1 0) from hr.at (by omega) (by omega)) ?_
        refine z_icmp_ge dX9_tells_38 rfl (fun c => absurd c (fun q => absurd ((nI_leI (by omega) (by omega)).mp q) (by omega))) (fun _ => ?_)
        refine z_aload_n dX9_tells_41 rfl rfl ?_
        refine y_callV (as := []) CX9_heardOf LX9_492 IX9_heardOf VX9_heardOf ⟨rfl, Nat.le_of_ble_eq_true rfl⟩ dX9_tells_42 hm.o rfl (Nat.le_of_ble_eq_true rfl) (Nat.le_of_ble_eq_true rfl) (by omega) (r_heardOf (d := 0) hr hv hi) rok_i ⟨Nat.le_refl _, Nat.le_refl _, hN, hS⟩ ?_
        refine z_iload dX9_tells_45 rfl ?_
        refine y_callS (as := [_, _]) CX9_has LX9_261 SX9_has dX9_tells_47 rfl (Nat.le_of_ble_eq_true rfl) (Nat.le_of_ble_eq_true rfl) (by omega) (r_has (n := knw s.1 (s.1 6)) (k := i) (by omega) (by omega)) (rok_z bI_01) ⟨Nat.le_refl _, Nat.le_refl _, hN, hS⟩ ?_
        refine z_if_eq dX9_tells_50 rfl (fun _ => ?_) (fun c => absurd (bI_eq0.mpr hb) c)
        refine z_aload_n dX9_tells_59 rfl rfl ?_
        refine z_iload_n dX9_tells_60 rfl rfl ?_
        refine z_iconst (v := 1) dX9_tells_61 (by decide) ?_
        refine z_iload dX9_tells_62 rfl ?_
        refine z_ishl dX9_tells_64 ?_
        refine z_eqi (nI_bit (show i < 31 by omega)) ?_
        refine z_iconst (v := 1) dX9_tells_65 (by decide) ?_
        refine z_iload dX9_tells_66 rfl ?_
        refine z_ishl dX9_tells_68 ?_
        refine z_eqi (nI_bit (show i < 31 by omega)) ?_
        refine y_callV (as := [_, _, _]) CX9_wrongBy LX9_495 IX9_wrongBy VX9_wrongBy ⟨rfl, Nat.le_of_ble_eq_true rfl⟩ dX9_tells_69 hm.o rfl (Nat.le_of_ble_eq_true rfl) (Nat.le_of_ble_eq_true rfl) (by omega) (r_wrongBy (d := 3) (k := k) (fx := 2 ^ i) (ax := 2 ^ i) hr hv hi hW hk pf (by omega) (Nat.le_refl _)) rok_i ⟨Nat.le_refl _, Nat.le_refl _, hN, hS⟩ ?_
        refine z_aload_n dX9_tells_72 rfl rfl ?_
        refine z_iload_n dX9_tells_73 rfl rfl ?_
        refine z_iconst (v := 1) dX9_tells_74 (by decide) ?_
        refine z_iload dX9_tells_75 rfl ?_
        refine z_ishl dX9_tells_77 ?_
        refine z_eqi (nI_bit (show i < 31 by omega)) ?_
        refine z_iconst (v := 0) dX9_tells_78 (by decide) ?_
        refine y_callV (as := [_, _, _]) CX9_wrongBy LX9_495 IX9_wrongBy VX9_wrongBy ⟨rfl, Nat.le_of_ble_eq_true rfl⟩ dX9_tells_79 hm.o rfl (Nat.le_of_ble_eq_true rfl) (Nat.le_of_ble_eq_true rfl) (by omega) (r_wrongBy (d := 3) (k := k) (fx := 2 ^ i) (ax := 0) hr hv hi hW hk pf (by omega) (Nat.le_refl _)) rok_i ⟨Nat.le_refl _, Nat.le_refl _, hN, hS⟩ ?_
        refine z_iadd dX9_tells_82 ?_
        refine z_eqi (nI_add _ _) ?_
        refine z_istore dX9_tells_83 (Nat.le_of_ble_eq_true rfl) ?_
        refine z_iload dX9_tells_85 rfl ?_
        refine z_iload_n dX9_tells_87 rfl rfl ?_
        refine z_icmp_lt dX9_tells_88 rfl (fun _ => ?_) (fun c => absurd ((nI_ltI (by omega) (by omega)).mpr c') c)
        refine z_iload dX9_tells_94 rfl ?_
        refine z_istore_n dX9_tells_96 rfl (Nat.le_of_ble_eq_true rfl) ?_
        refine z_iload dX9_tells_97 rfl ?_
        refine z_istore_n dX9_tells_99 rfl (Nat.le_of_ble_eq_true rfl) ?_
        refine z_iinc dX9_tells_100 rfl (nI_1 _) (Nat.le_of_ble_eq_true rfl) ?_
        refine z_goto dX9_tells_103 rfl ?_
        exact K3 _
      · rw [es, if_neg c] at K2
        have c' := c
        have vl' := vl
        rw [ev] at c' vl'
        refine z_iload dX9_tells_30 rfl ?_
        refine z_aload_n dX9_tells_32 rfl rfl ?_
        refine y_getR FX9_7 dX9_tells_33 rfl hm.o hm.f_a ?_
        refine z_iconst (v := 0) dX9_tells_36 (by decide) ?_
        refine y_ialN (0) dX9_tells_37 hm.A_a (Nat.le_of_ble_eq_true rfl) (rfl) (by omega) ?_
        refine z_eqi (show _ = nI (s.1 0) from hr.at (by omega) (by omega)) ?_
        refine z_icmp_ge dX9_tells_38 rfl (fun c => absurd c (fun q => absurd ((nI_leI (by omega) (by omega)).mp q) (by omega))) (fun _ => ?_)
        refine z_aload_n dX9_tells_41 rfl rfl ?_
        refine y_callV (as := []) CX9_heardOf LX9_492 IX9_heardOf VX9_heardOf ⟨rfl, Nat.le_of_ble_eq_true rfl⟩ dX9_tells_42 hm.o rfl (Nat.le_of_ble_eq_true rfl) (Nat.le_of_ble_eq_true rfl) (by omega) (r_heardOf (d := 0) hr hv hi) rok_i ⟨Nat.le_refl _, Nat.le_refl _, hN, hS⟩ ?_
        refine z_iload dX9_tells_45 rfl ?_
        refine y_callS (as := [_, _]) CX9_has LX9_261 SX9_has dX9_tells_47 rfl (Nat.le_of_ble_eq_true rfl) (Nat.le_of_ble_eq_true rfl) (by omega) (r_has (n := knw s.1 (s.1 6)) (k := i) (by omega) (by omega)) (rok_z bI_01) ⟨Nat.le_refl _, Nat.le_refl _, hN, hS⟩ ?_
        refine z_if_eq dX9_tells_50 rfl (fun _ => ?_) (fun c => absurd (bI_eq0.mpr hb) c)
        refine z_aload_n dX9_tells_59 rfl rfl ?_
        refine z_iload_n dX9_tells_60 rfl rfl ?_
        refine z_iconst (v := 1) dX9_tells_61 (by decide) ?_
        refine z_iload dX9_tells_62 rfl ?_
        refine z_ishl dX9_tells_64 ?_
        refine z_eqi (nI_bit (show i < 31 by omega)) ?_
        refine z_iconst (v := 1) dX9_tells_65 (by decide) ?_
        refine z_iload dX9_tells_66 rfl ?_
        refine z_ishl dX9_tells_68 ?_
        refine z_eqi (nI_bit (show i < 31 by omega)) ?_
        refine y_callV (as := [_, _, _]) CX9_wrongBy LX9_495 IX9_wrongBy VX9_wrongBy ⟨rfl, Nat.le_of_ble_eq_true rfl⟩ dX9_tells_69 hm.o rfl (Nat.le_of_ble_eq_true rfl) (Nat.le_of_ble_eq_true rfl) (by omega) (r_wrongBy (d := 3) (k := k) (fx := 2 ^ i) (ax := 2 ^ i) hr hv hi hW hk pf (by omega) (Nat.le_refl _)) rok_i ⟨Nat.le_refl _, Nat.le_refl _, hN, hS⟩ ?_
        refine z_aload_n dX9_tells_72 rfl rfl ?_
        refine z_iload_n dX9_tells_73 rfl rfl ?_
        refine z_iconst (v := 1) dX9_tells_74 (by decide) ?_
        refine z_iload dX9_tells_75 rfl ?_
        refine z_ishl dX9_tells_77 ?_
        refine z_eqi (nI_bit (show i < 31 by omega)) ?_
        refine z_iconst (v := 0) dX9_tells_78 (by decide) ?_
        refine y_callV (as := [_, _, _]) CX9_wrongBy LX9_495 IX9_wrongBy VX9_wrongBy ⟨rfl, Nat.le_of_ble_eq_true rfl⟩ dX9_tells_79 hm.o rfl (Nat.le_of_ble_eq_true rfl) (Nat.le_of_ble_eq_true rfl) (by omega) (r_wrongBy (d := 3) (k := k) (fx := 2 ^ i) (ax := 0) hr hv hi hW hk pf (by omega) (Nat.le_refl _)) rok_i ⟨Nat.le_refl _, Nat.le_refl _, hN, hS⟩ ?_
        refine z_iadd dX9_tells_82 ?_
        refine z_eqi (nI_add _ _) ?_
        refine z_istore dX9_tells_83 (Nat.le_of_ble_eq_true rfl) ?_
        refine z_iload dX9_tells_85 rfl ?_
        refine z_iload_n dX9_tells_87 rfl rfl ?_
        refine z_icmp_lt dX9_tells_88 rfl (fun c => absurd c (fun q => c' ((nI_ltI (by omega) (by omega)).mp q))) (fun _ => ?_)
        refine z_goto dX9_tells_91 rfl ?_
        refine z_iinc dX9_tells_100 rfl (nI_1 _) (Nat.le_of_ble_eq_true rfl) ?_
        refine z_goto dX9_tells_103 rfl ?_
        exact K2 _

theorem R_tells {s : Ms} {h : Hp} {d : Nat} (hr : RM s h) (hv : IC s.1) (hi : IH s.1) (hW : IW (s.1 0) (snap s.1)) (k : Int32) (hd : 4 ≤ d) : Sp d mX9_tells [.ref 488, .int k] h (some (.int (mTells s.1 k))) h := by
  have hm := hr.m
  have v0 := hv.1
  have v6 := hv.2.2.2.2.2.2.1
  have v11 := hv.2.2.2.2.2.2.2.2.2.2.2.1
  have p8 : 2 ^ s.1 0 ≤ 2 ^ 8 := Nat.pow_le_pow_right (by omega) v0
  have p1 : 0 < 2 ^ s.1 0 := Nat.pow_pos (by omega)
  intro N S Q hN hS hQ
  by_cases hk : vin k (s.1 11)
  · obtain ⟨k, hk1, rfl⟩ := vin_of (n := s.1 11) (by omega) hk
    have hwo := r_worldsOf_2 (d := 3) (k := k) (fx := 0) (ax := 0) hr hv hi hW hk1 (by omega) (by omega) (by omega)
    have wl := wcR_le (a := s.1) (k := k) (is := 2) (fx := 0) (as := 0)
    by_cases hz : wcR s.1 k 2 0 0 = 0
    · have eq : mTells s.1 (nI k) = -1 := if_neg (fun q => q.2 (by rw [nn_nI (by omega)]; exact hz))
      rw [eq] at hQ
      refine z_aload_n dX9_tells_0 rfl rfl ?_
      refine z_iload_n dX9_tells_1 rfl rfl ?_
      refine y_callV (as := [_]) CX9_isProphecy LX9_75 IX9_isProphecy VX9_isProphecy ⟨rfl, Nat.le_of_ble_eq_true rfl⟩ dX9_tells_2 hm.o rfl (Nat.le_of_ble_eq_true rfl) (Nat.le_of_ble_eq_true rfl) (by omega) (r_isProphecy (n := s.1 11) (by exact hm) (hr.at (by omega) (by omega)) (by omega) _ (by omega)) (rok_z bI_01) ⟨Nat.le_refl _, Nat.le_refl _, hN, hS⟩ ?_
      refine z_if_eq dX9_tells_5 rfl (fun c => absurd c (bI_ne0.mpr hk)) (fun _ => ?_)
      refine z_aload_n dX9_tells_8 rfl rfl ?_
      refine z_iload_n dX9_tells_9 rfl rfl ?_
      refine z_iconst (v := -1) dX9_tells_10 (by decide) ?_
      refine z_iconst (v := 0) dX9_tells_11 (by decide) ?_
      refine z_iconst (v := 0) dX9_tells_12 (by decide) ?_
      refine y_callV (as := [_, _, _, _]) CX9_worldsOf LX9_488 IX9_worldsOf VX9_worldsOf ⟨rfl, Nat.le_of_ble_eq_true rfl⟩ dX9_tells_13 hm.o rfl (Nat.le_of_ble_eq_true rfl) (Nat.le_of_ble_eq_true rfl) (by omega) hwo rok_i ⟨Nat.le_refl _, Nat.le_refl _, hN, hS⟩ ?_
      refine z_if_ne dX9_tells_16 rfl (fun c => absurd (congrArg nI hz) c) (fun _ => ?_)
      refine z_iconst (v := -1) dX9_tells_19 (by decide) ?_
      refine z_iret dX9_tells_20 ?_
      exact hQ
    · have eq : mTells s.1 (nI k) = cT (tl s.1 (nn (nI k)) (s.1 0)).1 := if_pos ⟨hk, by rw [nn_nI (by omega)]; exact hz⟩
      rw [eq, nn_nI (by omega)] at hQ
      refine z_aload_n dX9_tells_0 rfl rfl ?_
      refine z_iload_n dX9_tells_1 rfl rfl ?_
      refine y_callV (as := [_]) CX9_isProphecy LX9_75 IX9_isProphecy VX9_isProphecy ⟨rfl, Nat.le_of_ble_eq_true rfl⟩ dX9_tells_2 hm.o rfl (Nat.le_of_ble_eq_true rfl) (Nat.le_of_ble_eq_true rfl) (by omega) (r_isProphecy (n := s.1 11) (by exact hm) (hr.at (by omega) (by omega)) (by omega) _ (by omega)) (rok_z bI_01) ⟨Nat.le_refl _, Nat.le_refl _, hN, hS⟩ ?_
      refine z_if_eq dX9_tells_5 rfl (fun c => absurd c (bI_ne0.mpr hk)) (fun _ => ?_)
      refine z_aload_n dX9_tells_8 rfl rfl ?_
      refine z_iload_n dX9_tells_9 rfl rfl ?_
      refine z_iconst (v := -1) dX9_tells_10 (by decide) ?_
      refine z_iconst (v := 0) dX9_tells_11 (by decide) ?_
      refine z_iconst (v := 0) dX9_tells_12 (by decide) ?_
      refine y_callV (as := [_, _, _, _]) CX9_worldsOf LX9_488 IX9_worldsOf VX9_worldsOf ⟨rfl, Nat.le_of_ble_eq_true rfl⟩ dX9_tells_13 hm.o rfl (Nat.le_of_ble_eq_true rfl) (Nat.le_of_ble_eq_true rfl) (by omega) hwo rok_i ⟨Nat.le_refl _, Nat.le_refl _, hN, hS⟩ ?_
      refine z_if_ne dX9_tells_16 rfl (fun _ => ?_) (fun c => absurd c (fun q => hz ((nI_eq (b := 0) (by omega) (by omega)).mp q)))
      refine z_iconst (v := -1) dX9_tells_21 (by decide) ?_
      refine z_istore_n dX9_tells_22 rfl (Nat.le_of_ble_eq_true rfl) ?_
      refine z_ldcw (v := 1000000000) dX9_tells_23 Kc_X9_491 ?_
      refine z_istore_n dX9_tells_26 rfl (Nat.le_of_ble_eq_true rfl) ?_
      refine z_iconst (v := 0) dX9_tells_27 (by decide) ?_
      refine z_istore dX9_tells_28 (Nat.le_of_ble_eq_true rfl) ?_
      exact r_tells_loop hr hv hi hW hk1 hN hS hd hQ (s.1 0) 0 none (by omega)
  · have eq : mTells s.1 k = -1 := if_neg (fun q => hk q.1)
    rw [eq] at hQ
    refine z_aload_n dX9_tells_0 rfl rfl ?_
    refine z_iload_n dX9_tells_1 rfl rfl ?_
    refine y_callV (as := [_]) CX9_isProphecy LX9_75 IX9_isProphecy VX9_isProphecy ⟨rfl, Nat.le_of_ble_eq_true rfl⟩ dX9_tells_2 hm.o rfl (Nat.le_of_ble_eq_true rfl) (Nat.le_of_ble_eq_true rfl) (by omega) (r_isProphecy (n := s.1 11) (by exact hm) (hr.at (by omega) (by omega)) (by omega) _ (by omega)) (rok_z bI_01) ⟨Nat.le_refl _, Nat.le_refl _, hN, hS⟩ ?_
    refine z_if_eq dX9_tells_5 rfl (fun _ => ?_) (fun c => absurd (bI_eq0.mpr hk) c)
    refine z_iconst (v := -1) dX9_tells_19 (by decide) ?_
    refine z_iret dX9_tells_20 ?_
    exact hQ

