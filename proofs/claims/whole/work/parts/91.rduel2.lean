/-! duels: the reference, whole (walks by program: wip/whole/gen91.py) -/
def tF (g : Nat → Int32) (i : Nat) : Nat → Int32 := fun j => if j ≤ i then nI (3 ^ j) else g j
theorem tF_s {g : Nat → Int32} {i : Nat} : ∀ j, (if j = i + 1 then nI (3 ^ (i + 1)) else tF g i j) = tF g (i + 1) j := fun j => by
  unfold tF
  by_cases h : j = i + 1
  · rw [if_pos h, if_pos (by omega), h]
  · rw [if_neg h]
    by_cases q : j ≤ i
    · rw [if_pos q, if_pos (by omega)]
    · rw [if_neg q, if_neg (by omega)]
theorem tF_0 {g : Nat → Int32} : ∀ j, (if j = 0 then (1 : Int32) else g j) = tF g 0 j := fun j => by
  unfold tF
  by_cases h : j = 0
  · rw [if_pos h, if_pos (by omega), h]; rfl
  · rw [if_neg h, if_neg (by omega)]

theorem r_du_facts {s : Ms} {h : Hp} {d N S : Nat} {Q : Option Value → Hp → Prop} (hr : RM s h) (hv : IC s.1) {x1 x2 : Int32} (K : T d N S mX9_duel 51 [some (.ref 488), some (.int x1), some (.int x2), some (.int (nI (dF s.1 (s.1 5)))), some (.int (nI (s.1 5)))] [] h Q) : ∀ r k, k + r = s.1 5 → T d N S mX9_duel 17 [some (.ref 488), some (.int x1), some (.int x2), some (.int (nI (dF s.1 k))), some (.int (nI k))] [] h Q := by
  have hm := hr.m
  have v0 := hv.1
  have v5 := hv.2.2.2.2.2.1
  intro r
  induction r with
  | zero =>
    intro k hk
    have e : k = s.1 5 := by omega
    subst e
    refine z_iload dX9_duel_17 rfl ?_
    refine z_aload_n dX9_duel_19 rfl rfl ?_
    refine y_getR FX9_7 dX9_duel_20 rfl hm.o hm.f_a ?_
    refine z_iconst (v := 5) dX9_duel_23 (by decide) ?_
    refine y_ialN (5) dX9_duel_24 hm.A_a (Nat.le_of_ble_eq_true rfl) (rfl) (by omega) ?_
    refine z_eqi (show _ = nI (s.1 5) from hr.at (by omega) (by omega)) ?_
    refine z_icmp_ge dX9_duel_25 rfl (fun _ => ?_) (fun c => absurd (Int32.le_refl _) c)
    exact K
  | succ r ih =>
    intro k hk
    refine z_iload dX9_duel_17 rfl ?_
    refine z_aload_n dX9_duel_19 rfl rfl ?_
    refine y_getR FX9_7 dX9_duel_20 rfl hm.o hm.f_a ?_
    refine z_iconst (v := 5) dX9_duel_23 (by decide) ?_
    refine y_ialN (5) dX9_duel_24 hm.A_a (Nat.le_of_ble_eq_true rfl) (rfl) (by omega) ?_
    refine z_eqi (show _ = nI (s.1 5) from hr.at (by omega) (by omega)) ?_
    refine z_icmp_ge dX9_duel_25 rfl (fun c => absurd c (fun q => absurd ((nI_leI (by omega) (by omega)).mp q) (by omega))) (fun _ => ?_)
    refine z_iload_n dX9_duel_28 rfl rfl ?_
    refine z_aload_n dX9_duel_29 rfl rfl ?_
    refine y_getR FX9_7 dX9_duel_30 rfl hm.o hm.f_a ?_
    refine z_bipush (v := 126) dX9_duel_33 (by decide) ?_
    refine z_iconst (v := 4) dX9_duel_35 (by decide) ?_
    refine z_iload dX9_duel_36 rfl ?_
    refine z_imul dX9_duel_38 ?_
    refine z_iadd dX9_duel_39 ?_
    refine z_iconst (v := 1) dX9_duel_40 (by decide) ?_
    refine z_iadd dX9_duel_41 ?_
    refine y_ialN (126 + 4 * k + 1) dX9_duel_42 hm.A_a (Nat.le_of_ble_eq_true rfl) (by first | rfl | (simp only [← nI_add, ← pk_mul]; rfl)) (by omega) ?_
    refine z_eqi (show _ = nI (s.1 (126 + 4 * k + 1)) from hr.at (by omega) (by omega)) ?_
    refine z_ior dX9_duel_43 ?_
    refine z_eqi (nI_or _ _) ?_
    refine z_istore_n dX9_duel_44 rfl (Nat.le_of_ble_eq_true rfl) ?_
    refine z_iinc dX9_duel_45 rfl (nI_1 _) (Nat.le_of_ble_eq_true rfl) ?_
    refine z_goto dX9_duel_48 rfl ?_
    exact ih (k + 1) (by omega)

theorem r_du_threes {h : Hp} {d N S F : Nat} {x1 x2 : Int32} {Q : Option Value → Hp → Prop} (hm : SM h) (K : T d N S mX9_duel 92 [some (.ref 488), some (.int x1), some (.int x2), some (.int (nI F)), some (.int (nI 8))] [] (sA h 500 (tF (pI h 500) 8)) Q) : ∀ r i, i + r = 8 → T d N S mX9_duel 61 [some (.ref 488), some (.int x1), some (.int x2), some (.int (nI F)), some (.int (nI i))] [] (sA h 500 (tF (pI h 500) i)) Q := by
  intro r
  induction r with
  | zero =>
    intro i hi
    have e : i = 8 := by omega
    subst e
    refine z_iload dX9_duel_61 rfl ?_
    refine z_bipush (v := 8) dX9_duel_63 (by decide) ?_
    refine z_icmp_ge dX9_duel_65 rfl (fun _ => ?_) (fun c => absurd (by decide) c)
    exact K
  | succ r ih =>
    intro i hi
    refine z_iload dX9_duel_61 rfl ?_
    refine z_bipush (v := 8) dX9_duel_63 (by decide) ?_
    refine z_icmp_ge dX9_duel_65 rfl (fun c => absurd c (fun q => absurd ((nI_leI (a := 8) (by omega) (by omega)).mp q) (by omega))) (fun _ => ?_)
    refine z_aload_n dX9_duel_68 rfl rfl ?_
    refine y_getR FX9_56 dX9_duel_69 rfl hm.o hm.f_threes ?_
    refine z_iload dX9_duel_72 rfl ?_
    refine z_iconst (v := 1) dX9_duel_74 (by decide) ?_
    refine z_iadd dX9_duel_75 ?_
    refine z_iconst (v := 3) dX9_duel_76 (by decide) ?_
    refine z_aload_n dX9_duel_77 rfl rfl ?_
    refine y_getR FX9_56 dX9_duel_78 rfl hm.o hm.f_threes ?_
    refine z_iload dX9_duel_81 rfl ?_
    refine y_ialN (i) dX9_duel_83 hm.A_threes (Nat.le_of_ble_eq_true rfl) (rfl) (by omega) ?_
    refine z_eqi (show _ = nI (3 ^ i) by rw [pI_sA, if_pos rfl]; exact if_pos (Nat.le_refl _)) ?_
    refine z_imul dX9_duel_84 ?_
    refine z_eqi (show _ = nI (3 ^ (i + 1)) from (pk_mul 3 (3 ^ i)).trans (congrArg nI (by rw [Nat.pow_succ, Nat.mul_comm]))) ?_
    refine y_iasN (i + 1) dX9_duel_85 hm.A_threes (Nat.le_of_ble_eq_true rfl) (nI_1 i) (by omega) ?_
    refine z_iinc dX9_duel_86 rfl (nI_1 _) (Nat.le_of_ble_eq_true rfl) ?_
    refine z_goto dX9_duel_89 rfl ?_
    rw [sI_sA, sA_congr tF_s]
    exact ih (i + 1) (by omega)

def dT (w : Nat → Bool) (F : Nat) (m : Bool) (g : Nat → Int32) (r : Nat) : Nat → Int32 := fun c => if r ≤ c ∧ c < 6561 ∧ wth F c = true then bI (gC w F m c = true) else g c
theorem dT_y {w : Nat → Bool} {F r : Nat} {m : Bool} {g : Nat → Int32} (hr : r < 6561) (hw : wth F r = true) : ∀ j, (if j = r then bI (gC w F m r = true) else dT w F m g (r + 1) j) = dT w F m g r j := fun j => by
  unfold dT
  by_cases e : j = r
  · rw [if_pos e, e, if_pos ⟨Nat.le_refl _, hr, hw⟩]
  · rw [if_neg e]
    by_cases q : r + 1 ≤ j ∧ j < 6561 ∧ wth F j = true
    · rw [if_pos q, if_pos ⟨by omega, q.2⟩]
    · rw [if_neg q, if_neg (fun c => q ⟨by omega, c.2⟩)]
theorem dT_n {w : Nat → Bool} {F r : Nat} {m : Bool} {g : Nat → Int32} (hw : ¬ wth F r = true) : ∀ j, dT w F m g (r + 1) j = dT w F m g r j := fun j => by
  unfold dT
  by_cases q : r + 1 ≤ j ∧ j < 6561 ∧ wth F j = true
  · rw [if_pos q, if_pos ⟨by omega, q.2⟩]
  · rw [if_neg q, if_neg (fun c => q ⟨by
      by_cases e : j = r
      · rw [e] at c; exact absurd c.2.2 hw
      · omega, c.2⟩)]

theorem dT_end {w : Nat → Bool} {F : Nat} {m : Bool} {g : Nat → Int32} : dT w F m g 6561 = g := funext (fun c => by
  unfold dT
  rw [if_neg (fun q => by omega)])

theorem r_du_table {s : Ms} {h : Hp} {d N S : Nat} {Q : Option Value → Hp → Prop} (hr : RM s h) (hv : IC s.1) (ho : IOf s.1) (ht : ∀ f, f < 9 → pI h 500 f = nI (3 ^ f)) {F : Nat} {m : Bool} {x2 : Int32} (hF : F < 256) (hN : pn h ≤ N) (hS : ps h ≤ S) (hd : 4 ≤ d) (K : ∀ x4, T d N S mX9_duel 132 [some (.ref 488), some (.int (bI (m = true))), some (.int x2), some (.int (nI F)), some (.int x4)] [] (sA h 499 (dT (win s.1) F m (pI h 499) 0)) Q) : ∀ r, r ≤ 6561 → T d N S mX9_duel 97 [some (.ref 488), some (.int (bI (m = true))), some (.int x2), some (.int (nI F)), some (.int (cT r))] [] (sA h 499 (dT (win s.1) F m (pI h 499) r)) Q := by
  have hm := hr.m
  have v0 := hv.1
  have v5 := hv.2.2.2.2.2.1
  intro r
  induction r with
  | zero =>
    intro hr0
    refine z_iload dX9_duel_97 rfl ?_
    refine z_if_lt dX9_duel_99 rfl (fun _ => ?_) (fun c => absurd (by decide) c)
    exact K _
  | succ r ih =>
    intro hr0
    rw [cT_s]
    have r2 : RM s (sA h 499 (dT (win s.1) F m (pI h 499) (r + 1))) := rm_row hr (by omega)
    by_cases hw : wth F r = true
    · have ht2 : ∀ j, j < 9 → pI (sA h 499 (dT (win s.1) F m (pI h 499) (r + 1))) 500 j = nI (3 ^ j) := fun j hj => by rw [pI_sA_ne (by omega)]; exact ht j hj
      have iv := r_isValued (d := 3) (c := r) (F := F) (m := m) r2 hv ho ht2 (by omega) hF hw (fun c2 h1 h2 h3 => by rw [pI_sA, if_pos rfl]; exact if_pos ⟨h1, h2, h3⟩) (Nat.le_refl _)
      refine z_iload dX9_duel_97 rfl ?_
      refine z_if_lt dX9_duel_99 rfl (fun c => absurd c (nI_pos (by omega))) (fun _ => ?_)
      refine z_iload dX9_duel_102 rfl ?_
      refine z_iload_n dX9_duel_104 rfl rfl ?_
      refine y_callS (as := [_, _]) CX9_isWithin LX9_507 SX9_isWithin dX9_duel_105 rfl (Nat.le_of_ble_eq_true rfl) (Nat.le_of_ble_eq_true rfl) (by omega) (r_isWithin (d := 1) (c := r) (F := F) (by omega) hF (Nat.le_refl _)) (rok_z bI_01) ⟨Nat.le_refl _, Nat.le_refl _, hN, hS⟩ ?_
      refine z_if_eq dX9_duel_108 rfl (fun c => absurd c (bI_ne0.mpr hw)) (fun _ => ?_)
      refine z_aload_n dX9_duel_111 rfl rfl ?_
      refine y_getR FX9_53 dX9_duel_112 rfl hm.o hm.f_comesAbout ?_
      refine z_iload dX9_duel_115 rfl ?_
      refine z_aload_n dX9_duel_117 rfl rfl ?_
      refine z_iload dX9_duel_118 rfl ?_
      refine z_iload_n dX9_duel_120 rfl rfl ?_
      refine z_iload_n dX9_duel_121 rfl rfl ?_
      refine y_callV (as := [_, _, _]) CX9_isValued LX9_510 IX9_isValued VX9_isValued ⟨rfl, Nat.le_of_ble_eq_true rfl⟩ dX9_duel_122 hm.o rfl (Nat.le_of_ble_eq_true rfl) (Nat.le_of_ble_eq_true rfl) (by omega) iv (rok_z bI_01) ⟨Nat.le_refl _, Nat.le_refl _, hN, hS⟩ ?_
      refine y_zasN (r) dX9_duel_125 hm.A_comesAbout (Nat.le_of_ble_eq_true rfl) (rfl) (by omega) (bI_01) ?_
      refine z_iinc dX9_duel_126 rfl (cT_dec r) (Nat.le_of_ble_eq_true rfl) ?_
      refine z_goto dX9_duel_129 rfl ?_
      rw [sI_sA, sA_congr (dT_y (by omega) hw)]
      exact ih (by omega)
    · rw [sA_congr (dT_n hw)]
      refine z_iload dX9_duel_97 rfl ?_
      refine z_if_lt dX9_duel_99 rfl (fun c => absurd c (nI_pos (by omega))) (fun _ => ?_)
      refine z_iload dX9_duel_102 rfl ?_
      refine z_iload_n dX9_duel_104 rfl rfl ?_
      refine y_callS (as := [_, _]) CX9_isWithin LX9_507 SX9_isWithin dX9_duel_105 rfl (Nat.le_of_ble_eq_true rfl) (Nat.le_of_ble_eq_true rfl) (by omega) (r_isWithin (d := 1) (c := r) (F := F) (by omega) hF (Nat.le_refl _)) (rok_z bI_01) ⟨Nat.le_refl _, Nat.le_refl _, hN, hS⟩ ?_
      refine z_if_eq dX9_duel_108 rfl (fun _ => ?_) (fun c => absurd (bI_eq0.mpr hw) c)
      refine z_iinc dX9_duel_126 rfl (cT_dec r) (Nat.le_of_ble_eq_true rfl) ?_
      refine z_goto dX9_duel_129 rfl ?_
      exact ih (by omega)

theorem dg_zero (f : Nat) : dg 0 f = 0 := by
  unfold dg
  rw [Nat.zero_div]
theorem lfC_zero {F : Nat} (hF : F < 256) : lfC F 0 = F := by
  apply Nat.eq_of_testBit_eq
  intro j
  unfold lfC
  rw [mskF_bit]
  by_cases hj : j < 8
  · rw [decide_eq_true hj, dg_zero, Bool.true_and]
    simp
  · rw [decide_eq_false hj, bit_hi (n := 8) hF (by omega)]
    rfl
theorem soC_zero : soC 0 = 0 := by
  apply Nat.eq_of_testBit_eq
  intro j
  unfold soC
  rw [mskF_bit, dg_zero, Nat.zero_testBit]
  simp
theorem wth_zero {F : Nat} : wth F 0 = true := wth_iff.mpr (fun j _ => by rw [dg_zero]; rfl)
theorem mkC_zero {F : Nat} {m : Bool} (hF : F < 256) : mkC F m 0 = m := by
  unfold mkC
  have := dcn_eq (c := 0) hF
  rw [lfC_zero hF] at this
  rw [if_pos (by omega)]
theorem gC_zero {w : Nat → Bool} {F : Nat} {m : Bool} (hF : F < 256) : gC w F m 0 = gV w (pcn F) m F 0 := by
  unfold gC
  rw [lfC_zero hF, mkC_zero hF, soC_zero]
theorem gC_one {w : Nat → Bool} {F i : Nat} {m : Bool} (hF : F < 256) (hi : i < 8) (hb : F.testBit i = true) : gC w F m ((if m = true then 1 else 2) * 3 ^ i) = gV w (pcn F - 1) (!m) (dif F (2 ^ i)) (mvS m 0 i) := by
  have := gC_child (w := w) (c := 0) (m := m) hF hi hb (dg_zero i)
  rw [lfC_zero hF, mkC_zero hF, soC_zero, Nat.zero_add] at this
  exact this

theorem r_du_first_1 {s : Ms} {h : Hp} {d N S : Nat} {Q : Option Value → Hp → Prop} (hr : RM s h) (hv : IC s.1) (ho : IOf s.1) (ht : ∀ f, f < 9 → pI h 500 f = nI (3 ^ f)) {x2 : Int32} (hF : (dF s.1 (s.1 5)) < 256) (hrow : ∀ c2, c2 < 6561 → wth (dF s.1 (s.1 5)) c2 = true → pI h 499 c2 = bI (gC (win s.1) (dF s.1 (s.1 5)) true c2 = true)) (hN : pn h ≤ N) (hS : ps h ≤ S) (hd : 1 ≤ d) (hQ : Q (some (.int (duF s.1 true 8 0))) h) : ∀ r i, i + r = 8 → duF s.1 true 8 0 = duF s.1 true r i → T d N S mX9_duel 154 [some (.ref 488), some (.int (bI (true = true))), some (.int x2), some (.int (nI (dF s.1 (s.1 5)))), some (.int (nI i))] [] h Q := by
  have hm := hr.m
  have v0 := hv.1
  have v5 := hv.2.2.2.2.2.1
  intro r
  induction r with
  | zero =>
    intro i hi hq
    have e : i = 8 := by omega
    subst e
    rw [hq, show duF s.1 true 0 8 = -1 from rfl] at hQ
    refine z_iload dX9_duel_154 rfl ?_
    refine z_bipush (v := 8) dX9_duel_156 (by decide) ?_
    refine z_icmp_ge dX9_duel_158 rfl (fun _ => ?_) (fun c => absurd (by decide) c)
    refine z_iconst (v := -1) dX9_duel_205 (by decide) ?_
    refine z_iret dX9_duel_206 ?_
    exact hQ
  | succ r ih =>
    intro i hi hq
    have p3 := p3_lt (show i < 9 by omega)
    have es : duF s.1 true (r + 1) i = if (dF s.1 (s.1 5)).testBit i = true ∧ gV (win s.1) (pcn (dF s.1 (s.1 5)) - 1) (!true) (dif (dF s.1 (s.1 5)) (2 ^ i)) (mvS true 0 i) = true then nI i else duF s.1 true r (i + 1) := rfl
    by_cases hb : (dF s.1 (s.1 5)).testBit i = true
    · have lim := dg_lim (c := 0) (x := 1) (show i < 8 by omega) (by omega) (by omega) (dg_zero i)
      rw [Nat.zero_add] at lim
      have wt := wth_put (c := 0) (x := 1) (show i < 8 by omega) (by omega) (dg_zero i) hb wth_zero
      rw [Nat.zero_add] at wt
      have hv1 := hrow (1 * 3 ^ i) lim wt
      have g1 := gC_one (w := win s.1) (m := true) hF (show i < 8 by omega) hb
      rw [show gC (win s.1) (dF s.1 (s.1 5)) true (1 * 3 ^ i) = gV (win s.1) (pcn (dF s.1 (s.1 5)) - 1) (!true) (dif (dF s.1 (s.1 5)) (2 ^ i)) (mvS true 0 i) from g1] at hv1
      by_cases hg : gV (win s.1) (pcn (dF s.1 (s.1 5)) - 1) (!true) (dif (dF s.1 (s.1 5)) (2 ^ i)) (mvS true 0 i) = true
      · rw [hq, es, if_pos ⟨hb, hg⟩] at hQ
        have hgi : bI ((gV (win s.1) (pcn (dF s.1 (s.1 5)) - 1) (!true) (dif (dF s.1 (s.1 5)) (2 ^ i)) (mvS true 0 i)) = true) = (bI (true = true)) := by rw [hg]
        refine z_iload dX9_duel_154 rfl ?_
        refine z_bipush (v := 8) dX9_duel_156 (by decide) ?_
        refine z_icmp_ge dX9_duel_158 rfl (fun c => absurd c (fun q => absurd ((nI_leI (a := 8) (by omega) (by omega)).mp q) (by omega))) (fun _ => ?_)
        refine z_iload_n dX9_duel_161 rfl rfl ?_
        refine z_iload dX9_duel_162 rfl ?_
        refine y_callS (as := [_, _]) CX9_has LX9_261 SX9_has dX9_duel_164 rfl (Nat.le_of_ble_eq_true rfl) (Nat.le_of_ble_eq_true rfl) (by omega) (r_has (n := (dF s.1 (s.1 5))) (k := i) (by omega) (by omega)) (rok_z bI_01) ⟨Nat.le_refl _, Nat.le_refl _, hN, hS⟩ ?_
        refine z_if_eq dX9_duel_167 rfl (fun c => absurd c (bI_ne0.mpr hb)) (fun _ => ?_)
        refine z_aload_n dX9_duel_170 rfl rfl ?_
        refine y_getR FX9_53 dX9_duel_171 rfl hm.o hm.f_comesAbout ?_
        refine z_iload_n dX9_duel_174 rfl rfl ?_
        refine z_if_eq dX9_duel_175 rfl (fun c => absurd c (by decide)) (fun _ => ?_)
        refine z_iconst (v := 1) dX9_duel_178 (by decide) ?_
        refine z_goto dX9_duel_179 rfl ?_
        refine z_aload_n dX9_duel_183 rfl rfl ?_
        refine y_getR FX9_56 dX9_duel_184 rfl hm.o hm.f_threes ?_
        refine z_iload dX9_duel_187 rfl ?_
        refine y_ialN (i) dX9_duel_189 hm.A_threes (Nat.le_of_ble_eq_true rfl) (rfl) (by omega) ?_
        refine z_eqi (ht i (by omega)) ?_
        refine z_imul dX9_duel_190 ?_
        refine z_eqi (pk_mul 1 (3 ^ i)) ?_
        refine y_zalN (1 * 3 ^ i) dX9_duel_191 hm.A_comesAbout (Nat.le_of_ble_eq_true rfl) (rfl) (by omega) ?_
        refine z_eqi hv1 ?_
        refine z_iload_n dX9_duel_192 rfl rfl ?_
        refine z_icmp_ne dX9_duel_193 rfl (fun c => absurd (hgi) c) (fun _ => ?_)
        refine z_iload dX9_duel_196 rfl ?_
        refine z_iret dX9_duel_198 ?_
        exact hQ
      · have hq2 := hq
        rw [es, if_neg (fun q => hg q.2)] at hq2
        have hgi : ¬ bI ((gV (win s.1) (pcn (dF s.1 (s.1 5)) - 1) (!true) (dif (dF s.1 (s.1 5)) (2 ^ i)) (mvS true 0 i)) = true) = (bI (true = true)) := by
          cases q : gV (win s.1) (pcn (dF s.1 (s.1 5)) - 1) (!true) (dif (dF s.1 (s.1 5)) (2 ^ i)) (mvS true 0 i)
          · decide
          · exact absurd q hg
        refine z_iload dX9_duel_154 rfl ?_
        refine z_bipush (v := 8) dX9_duel_156 (by decide) ?_
        refine z_icmp_ge dX9_duel_158 rfl (fun c => absurd c (fun q => absurd ((nI_leI (a := 8) (by omega) (by omega)).mp q) (by omega))) (fun _ => ?_)
        refine z_iload_n dX9_duel_161 rfl rfl ?_
        refine z_iload dX9_duel_162 rfl ?_
        refine y_callS (as := [_, _]) CX9_has LX9_261 SX9_has dX9_duel_164 rfl (Nat.le_of_ble_eq_true rfl) (Nat.le_of_ble_eq_true rfl) (by omega) (r_has (n := (dF s.1 (s.1 5))) (k := i) (by omega) (by omega)) (rok_z bI_01) ⟨Nat.le_refl _, Nat.le_refl _, hN, hS⟩ ?_
        refine z_if_eq dX9_duel_167 rfl (fun c => absurd c (bI_ne0.mpr hb)) (fun _ => ?_)
        refine z_aload_n dX9_duel_170 rfl rfl ?_
        refine y_getR FX9_53 dX9_duel_171 rfl hm.o hm.f_comesAbout ?_
        refine z_iload_n dX9_duel_174 rfl rfl ?_
        refine z_if_eq dX9_duel_175 rfl (fun c => absurd c (by decide)) (fun _ => ?_)
        refine z_iconst (v := 1) dX9_duel_178 (by decide) ?_
        refine z_goto dX9_duel_179 rfl ?_
        refine z_aload_n dX9_duel_183 rfl rfl ?_
        refine y_getR FX9_56 dX9_duel_184 rfl hm.o hm.f_threes ?_
        refine z_iload dX9_duel_187 rfl ?_
        refine y_ialN (i) dX9_duel_189 hm.A_threes (Nat.le_of_ble_eq_true rfl) (rfl) (by omega) ?_
        refine z_eqi (ht i (by omega)) ?_
        refine z_imul dX9_duel_190 ?_
        refine z_eqi (pk_mul 1 (3 ^ i)) ?_
        refine y_zalN (1 * 3 ^ i) dX9_duel_191 hm.A_comesAbout (Nat.le_of_ble_eq_true rfl) (rfl) (by omega) ?_
        refine z_eqi hv1 ?_
        refine z_iload_n dX9_duel_192 rfl rfl ?_
        refine z_icmp_ne dX9_duel_193 rfl (fun _ => ?_) (fun c => absurd c (hgi))
        refine z_iinc dX9_duel_199 rfl (nI_1 _) (Nat.le_of_ble_eq_true rfl) ?_
        refine z_goto dX9_duel_202 rfl ?_
        exact ih (i + 1) (by omega) hq2
    · rw [es, if_neg (fun q => hb q.1)] at hq
      refine z_iload dX9_duel_154 rfl ?_
      refine z_bipush (v := 8) dX9_duel_156 (by decide) ?_
      refine z_icmp_ge dX9_duel_158 rfl (fun c => absurd c (fun q => absurd ((nI_leI (a := 8) (by omega) (by omega)).mp q) (by omega))) (fun _ => ?_)
      refine z_iload_n dX9_duel_161 rfl rfl ?_
      refine z_iload dX9_duel_162 rfl ?_
      refine y_callS (as := [_, _]) CX9_has LX9_261 SX9_has dX9_duel_164 rfl (Nat.le_of_ble_eq_true rfl) (Nat.le_of_ble_eq_true rfl) (by omega) (r_has (n := (dF s.1 (s.1 5))) (k := i) (by omega) (by omega)) (rok_z bI_01) ⟨Nat.le_refl _, Nat.le_refl _, hN, hS⟩ ?_
      refine z_if_eq dX9_duel_167 rfl (fun _ => ?_) (fun c => absurd (bI_eq0.mpr hb) c)
      refine z_iinc dX9_duel_199 rfl (nI_1 _) (Nat.le_of_ble_eq_true rfl) ?_
      refine z_goto dX9_duel_202 rfl ?_
      exact ih (i + 1) (by omega) hq

theorem r_du_first_0 {s : Ms} {h : Hp} {d N S : Nat} {Q : Option Value → Hp → Prop} (hr : RM s h) (hv : IC s.1) (ho : IOf s.1) (ht : ∀ f, f < 9 → pI h 500 f = nI (3 ^ f)) {x2 : Int32} (hF : (dF s.1 (s.1 5)) < 256) (hrow : ∀ c2, c2 < 6561 → wth (dF s.1 (s.1 5)) c2 = true → pI h 499 c2 = bI (gC (win s.1) (dF s.1 (s.1 5)) false c2 = true)) (hN : pn h ≤ N) (hS : ps h ≤ S) (hd : 1 ≤ d) (hQ : Q (some (.int (duF s.1 false 8 0))) h) : ∀ r i, i + r = 8 → duF s.1 false 8 0 = duF s.1 false r i → T d N S mX9_duel 154 [some (.ref 488), some (.int (bI (false = true))), some (.int x2), some (.int (nI (dF s.1 (s.1 5)))), some (.int (nI i))] [] h Q := by
  have hm := hr.m
  have v0 := hv.1
  have v5 := hv.2.2.2.2.2.1
  intro r
  induction r with
  | zero =>
    intro i hi hq
    have e : i = 8 := by omega
    subst e
    rw [hq, show duF s.1 false 0 8 = -1 from rfl] at hQ
    refine z_iload dX9_duel_154 rfl ?_
    refine z_bipush (v := 8) dX9_duel_156 (by decide) ?_
    refine z_icmp_ge dX9_duel_158 rfl (fun _ => ?_) (fun c => absurd (by decide) c)
    refine z_iconst (v := -1) dX9_duel_205 (by decide) ?_
    refine z_iret dX9_duel_206 ?_
    exact hQ
  | succ r ih =>
    intro i hi hq
    have p3 := p3_lt (show i < 9 by omega)
    have es : duF s.1 false (r + 1) i = if (dF s.1 (s.1 5)).testBit i = true ∧ gV (win s.1) (pcn (dF s.1 (s.1 5)) - 1) (!false) (dif (dF s.1 (s.1 5)) (2 ^ i)) (mvS false 0 i) = false then nI i else duF s.1 false r (i + 1) := rfl
    by_cases hb : (dF s.1 (s.1 5)).testBit i = true
    · have lim := dg_lim (c := 0) (x := 2) (show i < 8 by omega) (by omega) (by omega) (dg_zero i)
      rw [Nat.zero_add] at lim
      have wt := wth_put (c := 0) (x := 2) (show i < 8 by omega) (by omega) (dg_zero i) hb wth_zero
      rw [Nat.zero_add] at wt
      have hv1 := hrow (2 * 3 ^ i) lim wt
      have g1 := gC_one (w := win s.1) (m := false) hF (show i < 8 by omega) hb
      rw [show gC (win s.1) (dF s.1 (s.1 5)) false (2 * 3 ^ i) = gV (win s.1) (pcn (dF s.1 (s.1 5)) - 1) (!false) (dif (dF s.1 (s.1 5)) (2 ^ i)) (mvS false 0 i) from g1] at hv1
      by_cases hg : gV (win s.1) (pcn (dF s.1 (s.1 5)) - 1) (!false) (dif (dF s.1 (s.1 5)) (2 ^ i)) (mvS false 0 i) = false
      · rw [hq, es, if_pos ⟨hb, hg⟩] at hQ
        have hgi : bI ((gV (win s.1) (pcn (dF s.1 (s.1 5)) - 1) (!false) (dif (dF s.1 (s.1 5)) (2 ^ i)) (mvS false 0 i)) = true) = (bI (false = true)) := by rw [hg]
        refine z_iload dX9_duel_154 rfl ?_
        refine z_bipush (v := 8) dX9_duel_156 (by decide) ?_
        refine z_icmp_ge dX9_duel_158 rfl (fun c => absurd c (fun q => absurd ((nI_leI (a := 8) (by omega) (by omega)).mp q) (by omega))) (fun _ => ?_)
        refine z_iload_n dX9_duel_161 rfl rfl ?_
        refine z_iload dX9_duel_162 rfl ?_
        refine y_callS (as := [_, _]) CX9_has LX9_261 SX9_has dX9_duel_164 rfl (Nat.le_of_ble_eq_true rfl) (Nat.le_of_ble_eq_true rfl) (by omega) (r_has (n := (dF s.1 (s.1 5))) (k := i) (by omega) (by omega)) (rok_z bI_01) ⟨Nat.le_refl _, Nat.le_refl _, hN, hS⟩ ?_
        refine z_if_eq dX9_duel_167 rfl (fun c => absurd c (bI_ne0.mpr hb)) (fun _ => ?_)
        refine z_aload_n dX9_duel_170 rfl rfl ?_
        refine y_getR FX9_53 dX9_duel_171 rfl hm.o hm.f_comesAbout ?_
        refine z_iload_n dX9_duel_174 rfl rfl ?_
        refine z_if_eq dX9_duel_175 rfl (fun _ => ?_) (fun c => absurd (by decide) c)
        refine z_iconst (v := 2) dX9_duel_182 (by decide) ?_
        refine z_aload_n dX9_duel_183 rfl rfl ?_
        refine y_getR FX9_56 dX9_duel_184 rfl hm.o hm.f_threes ?_
        refine z_iload dX9_duel_187 rfl ?_
        refine y_ialN (i) dX9_duel_189 hm.A_threes (Nat.le_of_ble_eq_true rfl) (rfl) (by omega) ?_
        refine z_eqi (ht i (by omega)) ?_
        refine z_imul dX9_duel_190 ?_
        refine z_eqi (pk_mul 2 (3 ^ i)) ?_
        refine y_zalN (2 * 3 ^ i) dX9_duel_191 hm.A_comesAbout (Nat.le_of_ble_eq_true rfl) (rfl) (by omega) ?_
        refine z_eqi hv1 ?_
        refine z_iload_n dX9_duel_192 rfl rfl ?_
        refine z_icmp_ne dX9_duel_193 rfl (fun c => absurd (hgi) c) (fun _ => ?_)
        refine z_iload dX9_duel_196 rfl ?_
        refine z_iret dX9_duel_198 ?_
        exact hQ
      · have hq2 := hq
        rw [es, if_neg (fun q => hg q.2)] at hq2
        have hgi : ¬ bI ((gV (win s.1) (pcn (dF s.1 (s.1 5)) - 1) (!false) (dif (dF s.1 (s.1 5)) (2 ^ i)) (mvS false 0 i)) = true) = (bI (false = true)) := by
          cases q : gV (win s.1) (pcn (dF s.1 (s.1 5)) - 1) (!false) (dif (dF s.1 (s.1 5)) (2 ^ i)) (mvS false 0 i)
          · exact absurd q hg
          · decide
        refine z_iload dX9_duel_154 rfl ?_
        refine z_bipush (v := 8) dX9_duel_156 (by decide) ?_
        refine z_icmp_ge dX9_duel_158 rfl (fun c => absurd c (fun q => absurd ((nI_leI (a := 8) (by omega) (by omega)).mp q) (by omega))) (fun _ => ?_)
        refine z_iload_n dX9_duel_161 rfl rfl ?_
        refine z_iload dX9_duel_162 rfl ?_
        refine y_callS (as := [_, _]) CX9_has LX9_261 SX9_has dX9_duel_164 rfl (Nat.le_of_ble_eq_true rfl) (Nat.le_of_ble_eq_true rfl) (by omega) (r_has (n := (dF s.1 (s.1 5))) (k := i) (by omega) (by omega)) (rok_z bI_01) ⟨Nat.le_refl _, Nat.le_refl _, hN, hS⟩ ?_
        refine z_if_eq dX9_duel_167 rfl (fun c => absurd c (bI_ne0.mpr hb)) (fun _ => ?_)
        refine z_aload_n dX9_duel_170 rfl rfl ?_
        refine y_getR FX9_53 dX9_duel_171 rfl hm.o hm.f_comesAbout ?_
        refine z_iload_n dX9_duel_174 rfl rfl ?_
        refine z_if_eq dX9_duel_175 rfl (fun _ => ?_) (fun c => absurd (by decide) c)
        refine z_iconst (v := 2) dX9_duel_182 (by decide) ?_
        refine z_aload_n dX9_duel_183 rfl rfl ?_
        refine y_getR FX9_56 dX9_duel_184 rfl hm.o hm.f_threes ?_
        refine z_iload dX9_duel_187 rfl ?_
        refine y_ialN (i) dX9_duel_189 hm.A_threes (Nat.le_of_ble_eq_true rfl) (rfl) (by omega) ?_
        refine z_eqi (ht i (by omega)) ?_
        refine z_imul dX9_duel_190 ?_
        refine z_eqi (pk_mul 2 (3 ^ i)) ?_
        refine y_zalN (2 * 3 ^ i) dX9_duel_191 hm.A_comesAbout (Nat.le_of_ble_eq_true rfl) (rfl) (by omega) ?_
        refine z_eqi hv1 ?_
        refine z_iload_n dX9_duel_192 rfl rfl ?_
        refine z_icmp_ne dX9_duel_193 rfl (fun _ => ?_) (fun c => absurd c (hgi))
        refine z_iinc dX9_duel_199 rfl (nI_1 _) (Nat.le_of_ble_eq_true rfl) ?_
        refine z_goto dX9_duel_202 rfl ?_
        exact ih (i + 1) (by omega) hq2
    · rw [es, if_neg (fun q => hb q.1)] at hq
      refine z_iload dX9_duel_154 rfl ?_
      refine z_bipush (v := 8) dX9_duel_156 (by decide) ?_
      refine z_icmp_ge dX9_duel_158 rfl (fun c => absurd c (fun q => absurd ((nI_leI (a := 8) (by omega) (by omega)).mp q) (by omega))) (fun _ => ?_)
      refine z_iload_n dX9_duel_161 rfl rfl ?_
      refine z_iload dX9_duel_162 rfl ?_
      refine y_callS (as := [_, _]) CX9_has LX9_261 SX9_has dX9_duel_164 rfl (Nat.le_of_ble_eq_true rfl) (Nat.le_of_ble_eq_true rfl) (by omega) (r_has (n := (dF s.1 (s.1 5))) (k := i) (by omega) (by omega)) (rok_z bI_01) ⟨Nat.le_refl _, Nat.le_refl _, hN, hS⟩ ?_
      refine z_if_eq dX9_duel_167 rfl (fun _ => ?_) (fun c => absurd (bI_eq0.mpr hb) c)
      refine z_iinc dX9_duel_199 rfl (nI_1 _) (Nat.le_of_ble_eq_true rfl) ?_
      refine z_goto dX9_duel_202 rfl ?_
      exact ih (i + 1) (by omega) hq

theorem R_duel {s : Ms} {h : Hp} {d : Nat} (hr : RM s h) (hv : IC s.1) (ho : IOf s.1) {m : Bool} {f : Nat} (hf : f = 0 ∨ f = 1) (hd : 4 ≤ d) : ∃ h1, Sp d mX9_duel [.ref 488, .int (bI (m = true)), .int (nI f)] h (some (.int (mDuel s.1 m f))) h1 ∧ RM s h1 ∧ FM h h1 := by
  have hm := hr.m
  have v0 := hv.1
  have v5 := hv.2.2.2.2.2.1
  by_cases h0 : s.1 5 = 0
  · have eq : mDuel s.1 m f = -2 := if_pos h0
    rw [eq]
    refine ⟨h, ?_, hr, FM.rf⟩
    intro N S Q hN hS hQ
    refine z_aload_n dX9_duel_0 rfl rfl ?_
    refine y_getR FX9_7 dX9_duel_1 rfl hm.o hm.f_a ?_
    refine z_iconst (v := 5) dX9_duel_4 (by decide) ?_
    refine y_ialN (5) dX9_duel_5 hm.A_a (Nat.le_of_ble_eq_true rfl) (rfl) (by omega) ?_
    refine z_eqi (show _ = nI (s.1 5) from hr.at (by omega) (by omega)) ?_
    refine z_if_ne dX9_duel_6 rfl (fun c => absurd (congrArg nI h0) c) (fun _ => ?_)
    refine z_bipush (v := -2) dX9_duel_9 (by decide) ?_
    refine z_iret dX9_duel_11 ?_
    exact hQ
  · have eq : mDuel s.1 m f = if f = 0 then bI (gV (win s.1) (pcn (dF s.1 (s.1 5))) m (dF s.1 (s.1 5)) 0 = true) else duF s.1 m 8 0 := if_neg h0
    rw [eq]
    have hF := dF_lt ho v0 (s.1 5) (Nat.le_refl _)
    have r2 : RM s (sA h 500 (tF (pI h 500) 8)) := rm_row hr (by omega)
    have r3 : RM s (sA (sA h 500 (tF (pI h 500) 8)) 499 (dT (win s.1) (dF s.1 (s.1 5)) m (pI (sA h 500 (tF (pI h 500) 8)) 499) 0)) := rm_row r2 (by omega)
    have hm3 := r3.m
    have ht : ∀ j, j < 9 → pI (sA h 500 (tF (pI h 500) 8)) 500 j = nI (3 ^ j) := fun j hj => by rw [pI_sA, if_pos rfl]; exact if_pos (by omega)
    have ht3 : ∀ j, j < 9 → pI (sA (sA h 500 (tF (pI h 500) 8)) 499 (dT (win s.1) (dF s.1 (s.1 5)) m (pI (sA h 500 (tF (pI h 500) 8)) 499) 0)) 500 j = nI (3 ^ j) := fun j hj => by rw [pI_sA_ne (by omega)]; exact ht j hj
    have hrow : ∀ c2, c2 < 6561 → wth (dF s.1 (s.1 5)) c2 = true → pI (sA (sA h 500 (tF (pI h 500) 8)) 499 (dT (win s.1) (dF s.1 (s.1 5)) m (pI (sA h 500 (tF (pI h 500) 8)) 499) 0)) 499 c2 = bI (gC (win s.1) (dF s.1 (s.1 5)) m c2 = true) := fun c2 h1 h2 => by rw [pI_sA, if_pos rfl]; exact if_pos ⟨by omega, h1, h2⟩
    refine ⟨(sA (sA h 500 (tF (pI h 500) 8)) 499 (dT (win s.1) (dF s.1 (s.1 5)) m (pI (sA h 500 (tF (pI h 500) 8)) 499) 0)), ?_, r3, (FM.rf.sA (by omega)).sA (by omega)⟩
    intro N S Q hN hS hQ
    have hN : pn h ≤ N := hN
    have hS : ps h ≤ S := hS
    have n0 : ¬ nI (s.1 5) = 0 := fun q => h0 ((nI_eq (b := 0) (by omega) (by omega)).mp q)
    have K : ∀ x4, T d N S mX9_duel 132 [some (.ref 488), some (.int (bI (m = true))), some (.int (nI f)), some (.int (nI (dF s.1 (s.1 5)))), some (.int x4)] [] (sA (sA h 500 (tF (pI h 500) 8)) 499 (dT (win s.1) (dF s.1 (s.1 5)) m (pI (sA h 500 (tF (pI h 500) 8)) 499) 0)) Q := fun x4 => by
      rcases hf with hf | hf
      · rw [if_pos hf, ← gC_zero hF] at hQ
        have hv0 := hrow 0 (by omega) wth_zero
        by_cases hg : gC (win s.1) (dF s.1 (s.1 5)) m 0 = true
        · rw [bI_t hg] at hQ
          refine z_iload_n dX9_duel_132 rfl rfl ?_
          refine z_if_ne dX9_duel_133 rfl (fun c => absurd (congrArg nI hf) c) (fun _ => ?_)
          refine z_aload_n dX9_duel_136 rfl rfl ?_
          refine y_getR FX9_53 dX9_duel_137 rfl hm3.o hm3.f_comesAbout ?_
          refine z_iconst (v := 0) dX9_duel_140 (by decide) ?_
          refine y_zalN (0) dX9_duel_141 hm3.A_comesAbout (Nat.le_of_ble_eq_true rfl) (rfl) (by omega) ?_
          refine z_eqi hv0 ?_
          refine z_if_eq dX9_duel_142 rfl (fun c => absurd c (bI_ne0.mpr hg)) (fun _ => ?_)
          refine z_iconst (v := 1) dX9_duel_145 (by decide) ?_
          refine z_goto dX9_duel_146 rfl ?_
          refine z_iret dX9_duel_150 ?_
          exact hQ
        · rw [bI_f hg] at hQ
          refine z_iload_n dX9_duel_132 rfl rfl ?_
          refine z_if_ne dX9_duel_133 rfl (fun c => absurd (congrArg nI hf) c) (fun _ => ?_)
          refine z_aload_n dX9_duel_136 rfl rfl ?_
          refine y_getR FX9_53 dX9_duel_137 rfl hm3.o hm3.f_comesAbout ?_
          refine z_iconst (v := 0) dX9_duel_140 (by decide) ?_
          refine y_zalN (0) dX9_duel_141 hm3.A_comesAbout (Nat.le_of_ble_eq_true rfl) (rfl) (by omega) ?_
          refine z_eqi hv0 ?_
          refine z_if_eq dX9_duel_142 rfl (fun _ => ?_) (fun c => absurd (bI_eq0.mpr hg) c)
          refine z_iconst (v := 0) dX9_duel_149 (by decide) ?_
          refine z_iret dX9_duel_150 ?_
          exact hQ
      · rw [if_neg (by omega)] at hQ
        have n1 : ¬ nI f = 0 := fun q => absurd ((nI_eq (b := 0) (by omega) (by omega)).mp q) (by omega)
        cases m
        · skip
          refine z_iload_n dX9_duel_132 rfl rfl ?_
          refine z_if_ne dX9_duel_133 rfl (fun _ => ?_) (fun c => absurd c (n1))
          refine z_iconst (v := 0) dX9_duel_151 (by decide) ?_
          refine z_istore dX9_duel_152 (Nat.le_of_ble_eq_true rfl) ?_
          exact r_du_first_0 r3 hv ho ht3 hF hrow hN hS (by omega) hQ 8 0 (by omega) rfl
        · skip
          refine z_iload_n dX9_duel_132 rfl rfl ?_
          refine z_if_ne dX9_duel_133 rfl (fun _ => ?_) (fun c => absurd c (n1))
          refine z_iconst (v := 0) dX9_duel_151 (by decide) ?_
          refine z_istore dX9_duel_152 (Nat.le_of_ble_eq_true rfl) ?_
          exact r_du_first_1 r3 hv ho ht3 hF hrow hN hS (by omega) hQ 8 0 (by omega) rfl
    have T1 := r_du_table (d := d) (h := (sA h 500 (tF (pI h 500) 8))) (F := (dF s.1 (s.1 5))) (m := m) r2 hv ho ht hF hN hS hd K 6561 (Nat.le_refl _)
    rw [dT_end, sA_id] at T1
    have T2 : T d N S mX9_duel 92 [some (.ref 488), some (.int (bI (m = true))), some (.int (nI f)), some (.int (nI (dF s.1 (s.1 5)))), some (.int (nI 8))] [] (sA h 500 (tF (pI h 500) 8)) Q := by
      refine z_sipush (v := 6560) dX9_duel_92 (by decide) ?_
      refine z_istore dX9_duel_95 (Nat.le_of_ble_eq_true rfl) ?_
      exact T1
    have T3 := r_du_threes (x1 := (bI (m = true))) (x2 := nI f) (F := (dF s.1 (s.1 5))) hm T2 8 0 (by omega)
    have T4 : T d N S mX9_duel 51 [some (.ref 488), some (.int (bI (m = true))), some (.int (nI f)), some (.int (nI (dF s.1 (s.1 5)))), some (.int (nI (s.1 5)))] [] h Q := by
      refine z_aload_n dX9_duel_51 rfl rfl ?_
      refine y_getR FX9_56 dX9_duel_52 rfl hm.o hm.f_threes ?_
      refine z_iconst (v := 0) dX9_duel_55 (by decide) ?_
      refine z_iconst (v := 1) dX9_duel_56 (by decide) ?_
      refine y_iasN (0) dX9_duel_57 hm.A_threes (Nat.le_of_ble_eq_true rfl) (rfl) (by omega) ?_
      refine z_iconst (v := 0) dX9_duel_58 (by decide) ?_
      refine z_istore dX9_duel_59 (Nat.le_of_ble_eq_true rfl) ?_
      rw [sI_row, sA_congr tF_0]
      exact T3
    have T5 := r_du_facts (x1 := (bI (m = true))) (x2 := nI f) hr hv T4 (s.1 5) 0 (by omega)
    refine z_aload_n dX9_duel_0 rfl rfl ?_
    refine y_getR FX9_7 dX9_duel_1 rfl hm.o hm.f_a ?_
    refine z_iconst (v := 5) dX9_duel_4 (by decide) ?_
    refine y_ialN (5) dX9_duel_5 hm.A_a (Nat.le_of_ble_eq_true rfl) (rfl) (by omega) ?_
    refine z_eqi (show _ = nI (s.1 5) from hr.at (by omega) (by omega)) ?_
    refine z_if_ne dX9_duel_6 rfl (fun _ => ?_) (fun c => absurd c (n0))
    refine z_iconst (v := 0) dX9_duel_12 (by decide) ?_
    refine z_istore_n dX9_duel_13 rfl (Nat.le_of_ble_eq_true rfl) ?_
    refine z_iconst (v := 0) dX9_duel_14 (by decide) ?_
    refine z_istore dX9_duel_15 (Nat.le_of_ble_eq_true rfl) ?_
    exact T5

