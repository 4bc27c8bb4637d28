/-! the reference keeps a step and takes one back, whole (walks by program: wip/whole/gen39.py) -/
theorem cpG_out {α : Type} {f : Nat → α} {p q n j : Nat} (h : ¬ (p ≤ j ∧ j < p + n)) : cpG f p q n j = f j := if_neg h
theorem cpG_in {α : Type} {f : Nat → α} {p q n j : Nat} (h : p ≤ j ∧ j < p + n) : cpG f p q n j = f (q + (j - p)) := if_pos h
theorem prK_out {f : Nat → Int32} {x n j : Nat} (h : ¬ (x + 6 ≤ j ∧ j < x + 6 + 3 * n)) : prK f x n j = f j := if_neg h
theorem prK_in {f : Nat → Int32} {x n j : Nat} (h : x + 6 ≤ j ∧ j < x + 6 + 3 * n) : prK f x n j = f (13 + 5 * ((j - (x + 6)) / 3) + (j - (x + 6)) % 3) := if_pos h
/-- the world is laid at the step t -/
def kpG {α : Type} (v : α) (g : Nat → α) (t : Nat) : Nat → α := fun j => if j = 4 then v else if 190 + 154 * t ≤ j ∧ j < 190 + 154 * t + 153 then g (wx (j - (190 + 154 * t))) else g j
def kp6 (g : Nat → Int32) (x : Nat) : Nat → Int32 := cpG (cpG (prK (cpG (fun j => if j = x then g 1 else g j) (x + 1) 8 5) x 5) (x + 21) 38 72) (x + 93) 4810 60
theorem kp6_out {g : Nat → Int32} {x j : Nat} (h : ¬ (x ≤ j ∧ j < x + 153)) : kp6 g x j = g j := by
  unfold kp6
  rw [cpG_out (by omega), cpG_out (by omega), prK_out (by omega), cpG_out (by omega), if_neg (by omega)]
theorem kp6_in {g : Nat → Int32} {x i : Nat} (hx : 190 ≤ x) (hx2 : x + 153 ≤ 4810) (hi : i < 153) : kp6 g x (x + i) = g (wx i) := by
  unfold kp6
  by_cases h0 : i = 0
  · subst h0
    rw [cpG_out (by omega), cpG_out (by omega), prK_out (by omega), cpG_out (by omega), if_pos (by omega)]
    rfl
  · by_cases h6 : i < 6
    · rw [cpG_out (by omega), cpG_out (by omega), prK_out (by omega), cpG_in (by omega), if_neg (by omega), wx_s (by omega) h6]
      congr 1; omega
    · by_cases h21 : i < 21
      · rw [cpG_out (by omega), cpG_out (by omega), prK_in (by omega), cpG_out (by omega), if_neg (by omega)]
        have e := wx_p (p := (i - 6) / 3) (k := (i - 6) % 3) (by omega) (by omega)
        rw [show 6 + 3 * ((i - 6) / 3) + (i - 6) % 3 = i by omega] at e
        rw [e]
        congr 1; omega
      · by_cases h93 : i < 93
        · rw [cpG_out (by omega), cpG_in (by omega), prK_out (by omega), cpG_out (by omega), if_neg (by omega)]
          have e := wx_c (i := i - 21) (by omega)
          rw [show 21 + (i - 21) = i by omega] at e
          rw [e]
          congr 1; omega
        · rw [cpG_in (by omega), cpG_out (by omega), prK_out (by omega), cpG_out (by omega), if_neg (by omega)]
          have e := wx_b (i := i - 93)
          rw [show 93 + (i - 93) = i by omega] at e
          rw [e]
          exact congrArg g (by omega)
theorem kp6_all {g : Nat → Int32} {t : Nat} {v : Int32} (ht : t ≤ 29) (j : Nat) : (if j = 4 then v else kp6 g (190 + 154 * t) j) = kpG v g t j := by
  unfold kpG
  by_cases h4 : j = 4
  · rw [if_pos h4, if_pos h4]
  · rw [if_neg h4, if_neg h4]
    by_cases hc : 190 + 154 * t ≤ j ∧ j < 190 + 154 * t + 153
    · rw [if_pos hc]
      have e := kp6_in (g := g) (x := 190 + 154 * t) (i := j - (190 + 154 * t)) (by omega) (by omega) (by omega)
      rw [show 190 + 154 * t + (j - (190 + 154 * t)) = j by omega] at e
      exact e
    · rw [if_neg hc, kp6_out hc]

theorem r_keep_tail {h : Hp} {g : Nat → Int32} {d N S t : Nat} {Q : Option Value → Hp → Prop} (hm : SM h) (e4 : g 4 = nI t) (ht : t ≤ 29) (hd : 1 ≤ d) (hN : pn h ≤ N) (hS : ps h ≤ S) (hQ : Q none (sA h 489 (kpG (nI (t + 1)) g t))) (o1 : Option Value) : T d N S mX9_keep 56 [some (.ref 488), o1, none, none] [] (sA h 489 g) Q := by
  refine z_sipush (v := 190) dX9_keep_56 (by decide) ?_
  refine z_sipush (v := 154) dX9_keep_59 (by decide) ?_
  refine z_aload_n dX9_keep_62 rfl rfl ?_
  refine y_getR FX9_7 dX9_keep_63 rfl hm.o hm.f_a ?_
  refine z_iconst (v := 4) dX9_keep_66 (by decide) ?_
  refine y_ialN (4) dX9_keep_67 hm.A_a (Nat.le_of_ble_eq_true rfl) (rfl) (by omega) ?_
  refine z_eqi (show _ = nI t by rw [pI_sA_s]; exact e4) ?_
  refine z_imul dX9_keep_68 ?_
  refine z_iadd dX9_keep_69 ?_
  refine z_eqi (show _ = nI (190 + 154 * t) by simp only [← nI_add, ← pk_mul]; rfl) ?_
  refine z_istore_n dX9_keep_70 rfl (Nat.le_of_ble_eq_true rfl) ?_
  refine z_aload_n dX9_keep_71 rfl rfl ?_
  refine y_getR FX9_7 dX9_keep_72 rfl hm.o hm.f_a ?_
  refine z_iload_n dX9_keep_75 rfl rfl ?_
  refine z_aload_n dX9_keep_76 rfl rfl ?_
  refine y_getR FX9_7 dX9_keep_77 rfl hm.o hm.f_a ?_
  refine z_iconst (v := 1) dX9_keep_80 (by decide) ?_
  refine y_ialN (1) dX9_keep_81 hm.A_a (Nat.le_of_ble_eq_true rfl) (rfl) (by omega) ?_
  refine z_eqi (show _ = g 1 by rw [pI_sA_s]) ?_
  refine y_iasN (190 + 154 * t) dX9_keep_82 hm.A_a (Nat.le_of_ble_eq_true rfl) (rfl) (by omega) ?_
  refine z_iconst (v := 0) dX9_keep_83 (by decide) ?_
  refine z_eqi (show _ = nI 0 from rfl) ?_
  refine z_istore_n dX9_keep_84 rfl (Nat.le_of_ble_eq_true rfl) ?_
  rw [sI_sA]
  have h2 := r_keep_l2 (d := d) (N := N) (S := S) (Q := Q) (x := (190 + 154 * t)) (f := fun j => if j = (190 + 154 * t) then g 1 else g j) hm (by omega) (by omega) ?_ 5 0 rfl
  rw [cpG_0] at h2
  exact h2
  refine z_iconst (v := 0) dX9_keep_115 (by decide) ?_
  refine z_eqi (show _ = nI 0 from rfl) ?_
  refine z_istore_n dX9_keep_116 rfl (Nat.le_of_ble_eq_true rfl) ?_
  have h3 := r_keep_l3 (d := d) (N := N) (S := S) (Q := Q) (x := (190 + 154 * t)) (f := cpG (fun j => if j = (190 + 154 * t) then g 1 else g j) ((190 + 154 * t) + 1) 8 5) hm (by omega) (by omega) hd hN hS 5 0 rfl none ?_ (fun q => absurd q (by omega))
  rw [prK_0] at h3
  exact h3
  refine z_iconst (v := 0) dX9_keep_162 (by decide) ?_
  refine z_eqi (show _ = nI 0 from rfl) ?_
  refine z_istore_n dX9_keep_163 rfl (Nat.le_of_ble_eq_true rfl) ?_
  have h4 := r_keep_l4 (d := d) (N := N) (S := S) (Q := Q) (x := (190 + 154 * t)) (f := prK (cpG (fun j => if j = (190 + 154 * t) then g 1 else g j) ((190 + 154 * t) + 1) 8 5) (190 + 154 * t) 5) hm (by omega) (by omega) ?_ 72 0 rfl
  rw [cpG_0] at h4
  exact h4
  refine z_iconst (v := 0) dX9_keep_196 (by decide) ?_
  refine z_eqi (show _ = nI 0 from rfl) ?_
  refine z_istore_n dX9_keep_197 rfl (Nat.le_of_ble_eq_true rfl) ?_
  have h5 := r_keep_l5 (d := d) (N := N) (S := S) (Q := Q) (x := (190 + 154 * t)) (f := cpG (prK (cpG (fun j => if j = (190 + 154 * t) then g 1 else g j) ((190 + 154 * t) + 1) 8 5) (190 + 154 * t) 5) ((190 + 154 * t) + 21) 38 72) hm (by omega) (by omega) ?_ 60 0 rfl
  rw [cpG_0] at h5
  exact h5
  refine z_aload_n dX9_keep_231 rfl rfl ?_
  refine y_getR FX9_7 dX9_keep_232 rfl hm.o hm.f_a ?_
  refine z_iconst (v := 4) dX9_keep_235 (by decide) ?_
  refine z_dup2_11 dX9_keep_236 rfl rfl ?_
  refine y_ialN (4) dX9_keep_237 hm.A_a (Nat.le_of_ble_eq_true rfl) (rfl) (by omega) ?_
  refine z_eqi (show _ = nI t by rw [pI_sA_s]; exact (kp6_out (x := (190 + 154 * t)) (by omega)).trans e4) ?_
  refine z_iconst (v := 1) dX9_keep_238 (by decide) ?_
  refine z_iadd dX9_keep_239 ?_
  refine z_eqi (nI_1 t) ?_
  refine y_iasN (4) dX9_keep_240 hm.A_a (Nat.le_of_ble_eq_true rfl) (rfl) (by omega) ?_
  refine z_vret dX9_keep_241 ?_
  rw [sI_sA]
  show Q none (sA h 489 (fun j => if j = 4 then nI (t + 1) else kp6 g (190 + 154 * t) j))
  rw [sA_congr (kp6_all ht)]
  exact hQ

/-- room for one more step -/
def shK (a : Fl) : Fl := if a 4 = 30 then (fun j => if j = 4 then 29 else cpG a 190 344 4466 j) else a
def mKeep (a : Fl) : Fl := kpG (shK a 4 + 1) (shK a) (shK a 4)
theorem RM.sA {s : Ms} {h : Hp} {a' : Fl} {F : Nat → Int32} (hr : RM s h) (hF : ∀ j, j < 4870 → F j = cI a' j) : RM (a', s.2) (sA h 489 F) := by
  obtain ⟨r1, r2, r3, r4, r5, r6, r7, r8, r9⟩ := hr
  refine ⟨r1, fun j hj => ?_, fun j hj => ?_, fun j hj => ?_, ?_, ?_, ?_, fun j hj => ?_, ?_⟩
  · rw [pI_sA_s]; exact hF j hj
  · rw [pI_sA_ne (by omega)]; exact r3 j hj
  · rw [pI_sA_ne (by omega)]; exact r4 j hj
  · rw [pI_sA_ne (by omega)]; exact r5
  · rw [pI_sA_ne (by omega)]; exact r6
  · rw [pI_sA_ne (by omega)]; exact r7
  · rw [pI_sA_ne (by omega)]; exact r8 j hj
  · rw [pI_sA_ne (by omega)]; exact r9
theorem cI_kpG {a : Fl} {g : Nat → Int32} {t j : Nat} (ht : t ≤ 29) (hg : ∀ j, j < 4870 → g j = cI a j) (hj : j < 4870) : kpG (nI (t + 1)) g t j = cI (kpG (t + 1) a t) j := by
  by_cases h3 : j = 3
  · subst h3
    have e : kpG (t + 1) a t 3 = a 3 := by unfold kpG; rw [if_neg (by omega), if_neg (by omega)]
    have e2 : kpG (nI (t + 1)) g t 3 = g 3 := by unfold kpG; rw [if_neg (by omega), if_neg (by omega)]
    rw [e2, hg 3 hj]
    unfold cI
    rw [if_pos rfl, if_pos rfl, e]
  · rw [cI_n h3]
    unfold kpG
    by_cases h4 : j = 4
    · rw [if_pos h4, if_pos h4]
    · rw [if_neg h4, if_neg h4]
      by_cases hc : 190 + 154 * t ≤ j ∧ j < 190 + 154 * t + 153
      · rw [if_pos hc, if_pos hc]
        have q := wx_lt (j := j - (190 + 154 * t)) (by omega)
        rw [hg _ q.1, cI_n q.2]
      · rw [if_neg hc, if_neg hc, hg j hj, cI_n h3]
theorem shK_4 {a : Fl} (h : a 4 ≤ 30) : shK a 4 ≤ 29 := by
  unfold shK
  split
  · show (if (4 : Nat) = 4 then 29 else _) ≤ 29
    rw [if_pos rfl]
    exact Nat.le_refl _
  · omega

theorem r_keep {s : Ms} {h : Hp} {d : Nat} (hr : RM s h) (h4 : s.1 4 ≤ 30) (hd : 1 ≤ d) : ∃ h1, Sp d mX9_keep [.ref 488] h none h1 ∧ RM (mKeep s.1, s.2) h1 ∧ FM h h1 := by
  have hm := hr.m
  have e4 : pI h 489 4 = nI (s.1 4) := hr.at (by omega) (by omega)
  by_cases hc : s.1 4 = 30
  · have h29 : shK s.1 4 = 29 := by unfold shK; rw [if_pos hc]; rfl
    refine ⟨sA h 489 (kpG (nI (29 + 1)) (fun j => if j = 4 then nI 29 else cpG (pI h 489) 190 344 4466 j) 29), ?_, ?_, FM.rf.sA (by omega)⟩
    · intro N S Q hN hS hQ
      refine z_aload_n dX9_keep_0 rfl rfl ?_
      refine y_getR FX9_7 dX9_keep_1 rfl hm.o hm.f_a ?_
      refine z_iconst (v := 4) dX9_keep_4 (by decide) ?_
      refine y_ialN (4) dX9_keep_5 hm.A_a (Nat.le_of_ble_eq_true rfl) (rfl) (by omega) ?_
      refine z_eqi (show _ = nI 30 by rw [e4, hc]) ?_
      refine z_bipush (v := 30) dX9_keep_6 (by decide) ?_
      refine z_icmp_ne dX9_keep_8 rfl (fun c => absurd (rfl) c) (fun _ => ?_)
      refine z_iconst (v := 0) dX9_keep_11 (by decide) ?_
      refine z_eqi (show _ = nI 0 from rfl) ?_
      refine z_istore_n dX9_keep_12 rfl (Nat.le_of_ble_eq_true rfl) ?_
      have h1 := r_keep_l1 (d := d) (N := N) (S := S) (Q := Q) (x := 0) (f := pI h 489) hm ?_ 4466 0 rfl
      rw [cpG_0, sA_id] at h1
      exact h1
      refine z_aload_n dX9_keep_46 rfl rfl ?_
      refine y_getR FX9_7 dX9_keep_47 rfl hm.o hm.f_a ?_
      refine z_iconst (v := 4) dX9_keep_50 (by decide) ?_
      refine z_dup2_11 dX9_keep_51 rfl rfl ?_
      refine y_ialN (4) dX9_keep_52 hm.A_a (Nat.le_of_ble_eq_true rfl) (rfl) (by omega) ?_
      refine z_eqi (show _ = nI 30 by rw [pI_sA_s, cpG_out (by omega), e4, hc]) ?_
      refine z_iconst (v := 1) dX9_keep_53 (by decide) ?_
      refine z_isub dX9_keep_54 ?_
      refine z_eqi (show _ = nI 29 from rfl) ?_
      refine y_iasN (4) dX9_keep_55 hm.A_a (Nat.le_of_ble_eq_true rfl) (rfl) (by omega) ?_
      rw [sI_sA]
      exact r_keep_tail (g := fun j => if j = 4 then nI 29 else cpG (pI h 489) 190 344 4466 j) hm (t := 29) (if_pos rfl) (by omega) hd hN hS hQ _
    · refine hr.sA (fun j hj => ?_)
      unfold mKeep
      rw [h29]
      refine cI_kpG (by omega) (fun i hi => ?_) hj
      unfold shK
      rw [if_pos hc]
      show (if i = 4 then nI 29 else cpG (pI h 489) 190 344 4466 i) = _
      by_cases i3 : i = 3
      · subst i3
        rw [if_neg (show ¬ (3 : Nat) = 4 by omega), cpG_out (by omega), hr.2.1 3 (by omega)]
        rfl
      · rw [cI_n i3]
        show (if i = 4 then nI 29 else cpG (pI h 489) 190 344 4466 i) = nI (if i = 4 then 29 else cpG s.1 190 344 4466 i)
        by_cases i4 : i = 4
        · rw [if_pos i4, if_pos i4]
        · rw [if_neg i4, if_neg i4]
          by_cases hq : 190 ≤ i ∧ i < 190 + 4466
          · rw [cpG_in hq, cpG_in hq]; exact hr.at (by omega) (by omega)
          · rw [cpG_out hq, cpG_out hq]; exact hr.at hi i3
  · have h29 : shK s.1 = s.1 := by unfold shK; rw [if_neg hc]
    refine ⟨sA h 489 (kpG (nI (s.1 4 + 1)) (pI h 489) (s.1 4)), ?_, ?_, FM.rf.sA (by omega)⟩
    · intro N S Q hN hS hQ
      refine z_aload_n dX9_keep_0 rfl rfl ?_
      refine y_getR FX9_7 dX9_keep_1 rfl hm.o hm.f_a ?_
      refine z_iconst (v := 4) dX9_keep_4 (by decide) ?_
      refine y_ialN (4) dX9_keep_5 hm.A_a (Nat.le_of_ble_eq_true rfl) (rfl) (by omega) ?_
      refine z_eqi e4 ?_
      refine z_bipush (v := 30) dX9_keep_6 (by decide) ?_
      refine z_icmp_ne dX9_keep_8 rfl (fun _ => ?_) (fun c => absurd c (by intro q; exact hc ((nI_eq (b := 30) (by omega) (by omega)).mp q)))
      have h1 := r_keep_tail (d := d) (N := N) (S := S) (Q := Q) (g := pI h 489) (t := s.1 4) hm e4 (by omega) hd hN hS hQ none
      rw [sA_id] at h1
      exact h1
    · refine hr.sA (fun j hj => ?_)
      unfold mKeep
      rw [h29]
      exact cI_kpG (by omega) hr.2.1 hj

