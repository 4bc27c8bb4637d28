/-! day: both sides (walks by program: wip/whole/gen70.py) -/
theorem r_keep2 {s : Ms} {h : Hp} {d : Nat} (hr : RM s h) (h4 : s.1 4 ≤ 30) (hd : 1 ≤ d) : ∃ h1, Sp d mX9_keep [.ref 488] h none h1 ∧ RM (mKeep s.1, s.2) h1 ∧ FM h h1 ∧ ∀ i, pI h1 488 i = pI h 488 i := by
  have hm := hr.m
  have e4 : pI h 489 4 = nI (s.1 4) := hr.at (by omega) (by omega)
  by_cases hc : s.1 4 = 30
  · have h29 : shK s.1 4 = 29 := by unfold shK; rw [if_pos hc]; rfl
    refine ⟨sA h 489 (kpG (nI (29 + 1)) (fun j => if j = 4 then nI 29 else cpG (pI h 489) 190 344 4466 j) 29), ?_, ?_, FM.rf.sA (by omega), fun i => by rw [pI_sA_ne (by omega)]⟩
    · intro N S Q hN hS hQ
      refine z_aload_n dX9_keep_0 rfl rfl ?_
      refine y_getR FX9_7 dX9_keep_1 rfl hm.o hm.f_a ?_
      refine z_iconst (v := 4) dX9_keep_4 (by decide) ?_
      refine y_ialN (4) dX9_keep_5 hm.A_a (Nat.le_of_ble_eq_true rfl) (rfl) (by omega) ?_
      refine z_eqi (show _ = nI 30 by rw [e4, hc]) ?_
      refine z_bipush (v := 30) dX9_keep_6 (by decide) ?_
      refine z_icmp_ne dX9_keep_8 rfl (fun c => absurd (rfl) c) (fun _ => ?_)
      refine z_iconst (v := 0) dX9_keep_11 (by decide) ?_
      refine z_eqi (show _ = nI 0 from rfl) ?_
      refine z_istore_n dX9_keep_12 rfl (Nat.le_of_ble_eq_true rfl) ?_
      have h1 := r_keep_l1 (d := d) (N := N) (S := S) (Q := Q) (x := 0) (f := pI h 489) hm ?_ 4466 0 rfl
      rw [cpG_0, sA_id] at h1
      exact h1
      refine z_aload_n dX9_keep_46 rfl rfl ?_
      refine y_getR FX9_7 dX9_keep_47 rfl hm.o hm.f_a ?_
      refine z_iconst (v := 4) dX9_keep_50 (by decide) ?_
      refine z_dup2_11 dX9_keep_51 rfl rfl ?_
      refine y_ialN (4) dX9_keep_52 hm.A_a (Nat.le_of_ble_eq_true rfl) (rfl) (by omega) ?_
      refine z_eqi (show _ = nI 30 by rw [pI_sA_s, cpG_out (by omega), e4, hc]) ?_
      refine z_iconst (v := 1) dX9_keep_53 (by decide) ?_
      refine z_isub dX9_keep_54 ?_
      refine z_eqi (show _ = nI 29 from rfl) ?_
      refine y_iasN (4) dX9_keep_55 hm.A_a (Nat.le_of_ble_eq_true rfl) (rfl) (by omega) ?_
      rw [sI_sA]
      exact r_keep_tail (g := fun j => if j = 4 then nI 29 else cpG (pI h 489) 190 344 4466 j) hm (t := 29) (if_pos rfl) (by omega) hd hN hS hQ _
    · refine hr.sA (fun j hj => ?_)
      unfold mKeep
      rw [h29]
      refine cI_kpG (by omega) (fun i hi => ?_) hj
      unfold shK
      rw [if_pos hc]
      show (if i = 4 then nI 29 else cpG (pI h 489) 190 344 4466 i) = _
      by_cases i3 : i = 3
      · subst i3
        rw [if_neg (show ¬ (3 : Nat) = 4 by omega), cpG_out (by omega), hr.2.1 3 (by omega)]
        rfl
      · rw [cI_n i3]
        show (if i = 4 then nI 29 else cpG (pI h 489) 190 344 4466 i) = nI (if i = 4 then 29 else cpG s.1 190 344 4466 i)
        by_cases i4 : i = 4
        · rw [if_pos i4, if_pos i4]
        · rw [if_neg i4, if_neg i4]
          by_cases hq : 190 ≤ i ∧ i < 190 + 4466
          · rw [cpG_in hq, cpG_in hq]; exact hr.at (by omega) (by omega)
          · rw [cpG_out hq, cpG_out hq]; exact hr.at hi i3
  · have h29 : shK s.1 = s.1 := by unfold shK; rw [if_neg hc]
    refine ⟨sA h 489 (kpG (nI (s.1 4 + 1)) (pI h 489) (s.1 4)), ?_, ?_, FM.rf.sA (by omega), fun i => by rw [pI_sA_ne (by omega)]⟩
    · intro N S Q hN hS hQ
      refine z_aload_n dX9_keep_0 rfl rfl ?_
      refine y_getR FX9_7 dX9_keep_1 rfl hm.o hm.f_a ?_
      refine z_iconst (v := 4) dX9_keep_4 (by decide) ?_
      refine y_ialN (4) dX9_keep_5 hm.A_a (Nat.le_of_ble_eq_true rfl) (rfl) (by omega) ?_
      refine z_eqi e4 ?_
      refine z_bipush (v := 30) dX9_keep_6 (by decide) ?_
      refine z_icmp_ne dX9_keep_8 rfl (fun _ => ?_) (fun c => absurd c (by intro q; exact hc ((nI_eq (b := 30) (by omega) (by omega)).mp q)))
      have h1 := r_keep_tail (d := d) (N := N) (S := S) (Q := Q) (g := pI h 489) (t := s.1 4) hm e4 (by omega) hd hN hS hQ none
      rw [sA_id] at h1
      exact h1
    · refine hr.sA (fun j hj => ?_)
      unfold mKeep
      rw [h29]
      exact cI_kpG (by omega) hr.2.1 hj


theorem r_step {s2 : Mr} {a : Fl} {h : Hp} {d e : Nat} (hr : RM (a, s2) h) (he : pI h 488 24 = nI e) (hj : JD s2.2.2.2.2.2 a) (hd : 7 ≤ d) : ∃ h1 h2, Sp 6 mX9_keep [.ref 488] h none h1 ∧ FM h h1 ∧ Sp 6 mX9_pass [.ref 488] h1 none h2 ∧ FM h1 h2 ∧ RM (mPass s2.2.2.2.2.2 (mKeep a), s2) h2 ∧ pI h2 488 24 = nI (e + mPassE s2.2.2.2.2.2 (mKeep a)) := by
  have q4 := hj.1.2.2.2.2.1
  obtain ⟨h1, k1, k2, k3, k4⟩ := r_keep2 (d := 6) hr q4 (by omega)
  have jk := hj.keep
  have px : PX (pI h1 497) s2 (mKeep a) 1 (snap (mKeep a)) e h1 := ⟨k2.un.n.1, k2.n.2, by rw [k4]; exact he, rfl⟩
  have c3 : mKeep a 3 ≤ 4 := Nat.le_trans jk.1.2.2.2.1 jk.1.2.2.1
  obtain ⟨h2, p1, p2, p3⟩ := r_pass (d := 6) (h := h1) (e := e) (Or.inr rfl) jk.2.1 rfl jk.1.1 c3 jk.2.2.1 jk.2.2.2 (Nat.le_refl _) px
  exact ⟨h1, h2, k1, k3, p1, p3, p2.1.rm p2.2.1, p2.2.2.1⟩

theorem r_arePassed {s : Ms} {h : Hp} {d n : Nat} (hr : RM s h) (hj : JD s.2.2.2.2.2.2 s.1) (hn : n ≤ 60) (hd : 7 ≤ d) : ∃ h1, Sp d mX9_arePassed [.ref 488, .int (nI n)] h (some (.int (bI (s.1 8 + n ≤ 9999)))) h1 ∧ RM (dyA s.2.2.2.2.2.2 (min n (9999 - s.1 8)) s.1, s.2) h1 ∧ pI h1 488 24 = nI (dyE s.2.2.2.2.2.2 (min n (9999 - s.1 8)) s.1) ∧ FM h h1 := by
  have v8 := hj.1.2.2.2.2.2.2.2.2.1
  have L : ∀ r i (h1 : Hp), i + r = n → s.1 8 + i ≤ 9999 → RM (dyA s.2.2.2.2.2.2 i s.1, s.2) h1 → pI h1 488 24 = nI (dyE s.2.2.2.2.2.2 i s.1) → FM h h1 → ∃ h2, RM (dyA s.2.2.2.2.2.2 (min n (9999 - s.1 8)) s.1, s.2) h2 ∧ pI h2 488 24 = nI (dyE s.2.2.2.2.2.2 (min n (9999 - s.1 8)) s.1) ∧ FM h h2 ∧ ∀ (N S : Nat) (Q : Option Value → Hp → Prop), pn h ≤ N → ps h ≤ S → Q (some (.int (bI (s.1 8 + n ≤ 9999)))) h2 → T d N S mX9_arePassed 7 [some (.ref 488), some (.int (nI n)), some (.int (nI i))] [] h1 Q := by
    intro r
    induction r with
    | zero =>
      intro i h1 hi h8 hr1 he1 f1
      have e : i = n := by omega
      rw [e] at hr1 he1 ⊢
      have em : (min n (9999 - s.1 8)) = n := by omega
      rw [em]
      have hm := hr1.m
      refine ⟨h1, hr1, he1, f1, fun N S Q hN hS hQ => ?_⟩
      rw [bI_t (by omega)] at hQ
      refine z_iload_n dX9_arePassed_7 rfl rfl ?_
      refine z_iload_n dX9_arePassed_8 rfl rfl ?_
      refine z_icmp_ge dX9_arePassed_9 rfl (fun _ => ?_) (fun c => absurd (Int32.le_refl _) c)
      refine z_iconst (v := 1) dX9_arePassed_41 (by decide) ?_
      refine z_iret dX9_arePassed_42 ?_
      exact hQ
    | succ r ih =>
      intro i h1 hi h8 hr1 he1 f1
      obtain ⟨j1, j8⟩ := hj.days i h8
      have hm := hr1.m
      have IN9 : ¬ nI n ≤ nI i := fun q => absurd ((nI_leI (by omega) (by omega)).mp q) (by omega)
      by_cases h99 : s.1 8 + i = 9999
      · have em : (min n (9999 - s.1 8)) = i := by omega
        rw [em]
        refine ⟨h1, hr1, he1, f1, fun N S Q hN hS hQ => ?_⟩
        rw [bI_f (by omega)] at hQ
        refine z_iload_n dX9_arePassed_7 rfl rfl ?_
        refine z_iload_n dX9_arePassed_8 rfl rfl ?_
        refine z_icmp_ge dX9_arePassed_9 rfl (fun c => absurd c (IN9)) (fun _ => ?_)
        refine z_aload_n dX9_arePassed_12 rfl rfl ?_
        refine y_getR FX9_7 dX9_arePassed_13 rfl hm.o hm.f_a ?_
        refine z_bipush (v := 8) dX9_arePassed_16 (by decide) ?_
        refine y_ialN (8) dX9_arePassed_18 hm.A_a (Nat.le_of_ble_eq_true rfl) (rfl) (by omega) ?_
        refine z_eqi (show _ = nI (s.1 8 + i) from (hr1.at (by omega) (by omega)).trans (congrArg nI j8)) ?_
        refine z_sipush (v := 9999) dX9_arePassed_19 (by decide) ?_
        refine z_icmp_ne dX9_arePassed_22 rfl (fun c => absurd (congrArg nI h99) c) (fun _ => ?_)
        refine z_iconst (v := 0) dX9_arePassed_25 (by decide) ?_
        refine z_iret dX9_arePassed_26 ?_
        exact hQ
      · obtain ⟨g1, g2, k1, k3, p1, p3, p4, p5⟩ := r_step (d := d) hr1 he1 j1 hd
        obtain ⟨h2, q1, q2, q3, K⟩ := ih (i + 1) g2 (by omega) (by omega) p4 p5 ((f1.tr k3).tr p3)
        refine ⟨h2, q1, q2, q3, fun N S Q hN hS hQ => ?_⟩
        have hN1 : pn h1 ≤ N := by rw [f1.1.n]; exact hN
        have hS1 : ps h1 ≤ S := by rw [f1.1.s]; exact hS
        have hN2 : pn g1 ≤ N := by rw [k3.1.n]; exact hN1
        have hS2 : ps g1 ≤ S := by rw [k3.1.s]; exact hS1
        refine z_iload_n dX9_arePassed_7 rfl rfl ?_
        refine z_iload_n dX9_arePassed_8 rfl rfl ?_
        refine z_icmp_ge dX9_arePassed_9 rfl (fun c => absurd c (IN9)) (fun _ => ?_)
        refine z_aload_n dX9_arePassed_12 rfl rfl ?_
        refine y_getR FX9_7 dX9_arePassed_13 rfl hm.o hm.f_a ?_
        refine z_bipush (v := 8) dX9_arePassed_16 (by decide) ?_
        refine y_ialN (8) dX9_arePassed_18 hm.A_a (Nat.le_of_ble_eq_true rfl) (rfl) (by omega) ?_
        refine z_eqi (show _ = nI (s.1 8 + i) from (hr1.at (by omega) (by omega)).trans (congrArg nI j8)) ?_
        refine z_sipush (v := 9999) dX9_arePassed_19 (by decide) ?_
        refine z_icmp_ne dX9_arePassed_22 rfl (fun _ => ?_) (fun c => absurd c (fun q => h99 ((nI_eq (b := 9999) (by omega) (by omega)).mp q)))
        refine z_aload_n dX9_arePassed_27 rfl rfl ?_
        refine y_callV (as := []) CX9_keep LX9_374 IX9_keep VX9_keep ⟨rfl, Nat.le_of_ble_eq_true rfl⟩ dX9_arePassed_28 hm.o rfl (Nat.le_of_ble_eq_true rfl) (Nat.le_of_ble_eq_true rfl) (by omega) k1 rok_v (hg_ss k3.1 hN1 hS1) ?_
        refine z_aload_n dX9_arePassed_31 rfl rfl ?_
        refine y_callV (as := []) CX9_pass LX9_394 IX9_pass VX9_pass ⟨rfl, Nat.le_of_ble_eq_true rfl⟩ dX9_arePassed_32 (k3.1.O hm.o) rfl (Nat.le_of_ble_eq_true rfl) (Nat.le_of_ble_eq_true rfl) (by omega) p1 rok_v (hg_ss p3.1 hN2 hS2) ?_
        refine z_iinc dX9_arePassed_35 rfl (nI_1 _) (Nat.le_of_ble_eq_true rfl) ?_
        refine z_goto dX9_arePassed_38 rfl ?_
        exact K N S Q hN hS hQ
  have hm := hr.m
  have r0 : RM (s.1, s.2) (sI h 488 24 0) := hr.n.1.sS (by omega) |>.rm (by rw [pI_sI, if_pos rfl, if_neg (by omega)]; exact hr.n.2)
  obtain ⟨h2, q1, q2, q3, K⟩ := L n 0 (sI h 488 24 0) (by omega) (by omega) r0 (by rw [pI_sI, if_pos rfl, if_pos rfl]; rfl) (FM.rf.sI (by omega))
  refine ⟨h2, ?_, q1, q2, q3⟩
  intro N S Q hN hS hQ
  have hN : pn h ≤ N := by rw [← q3.1.n]; exact hN
  have hS : ps h ≤ S := by rw [← q3.1.s]; exact hS
  refine z_aload_n dX9_arePassed_0 rfl rfl ?_
  refine z_iconst (v := 0) dX9_arePassed_1 (by decide) ?_
  refine y_putI FX9_332 dX9_arePassed_2 (Or.inl rfl) (Or.inl rfl) hm.o ?_
  refine z_iconst (v := 0) dX9_arePassed_5 (by decide) ?_
  refine z_istore_n dX9_arePassed_6 rfl (Nat.le_of_ble_eq_true rfl) ?_
  exact K N S Q hN hS hQ

theorem R_day {s : Ms} {h : Hp} {d : Nat} (hr : RM s h) (hj : JD s.2.2.2.2.2.2 s.1) (n : Int32) (hd : 8 ≤ d) : ∃ h1, Sp d mX9_day [.ref 488, .int n] h (some (.int (mDay s.2.2.2.2.2.2 s.1 n).1)) h1 ∧ RM ((mDay s.2.2.2.2.2.2 s.1 n).2, s.2) h1 ∧ FM h h1 := by
  have hm := hr.m
  have v8 := hj.1.2.2.2.2.2.2.2.2.1
  by_cases hc : inr n 1 60
  · obtain ⟨n, hn, rfl⟩ := inr_of (n := 60) (x := n) (by omega) ⟨Int32.le_trans (by decide) hc.1, hc.2⟩
    by_cases h9 : s.1 8 + n ≤ 9999
    · have eq : mDay s.2.2.2.2.2.2 s.1 (nI n) = (nI (dyE s.2.2.2.2.2.2 n s.1), dyA s.2.2.2.2.2.2 n s.1) := by
        unfold mDay
        rw [nn_nI (by omega), if_pos ⟨hc, h9⟩]
      rw [eq]
      obtain ⟨g, a1, a2, a3, a4⟩ := r_arePassed (d := 7) hr hj hn (Nat.le_refl _)
      rw [show min n (9999 - s.1 8) = n by omega] at a2 a3
      refine ⟨g, ?_, a2, a4⟩
      intro N S Q hN hS hQ
      have hN : pn h ≤ N := by rw [← a4.1.n]; exact hN
      have hS : ps h ≤ S := by rw [← a4.1.s]; exact hS
      refine z_iload_n dX9_day_0 rfl rfl ?_
      refine z_iconst (v := 1) dX9_day_1 (by decide) ?_
      refine z_bipush (v := 60) dX9_day_2 (by decide) ?_
      refine y_callS (as := [_, _, _]) CX9_isIn LX9_63 SX9_isIn dX9_day_4 rfl (Nat.le_of_ble_eq_true rfl) (Nat.le_of_ble_eq_true rfl) (by omega) (r_isIn _ _ _) (rok_z bI_01) ⟨Nat.le_refl _, Nat.le_refl _, hN, hS⟩ ?_
      refine z_if_eq dX9_day_7 rfl (fun c => absurd c (bI_ne0.mpr hc)) (fun _ => ?_)
      refine z_aload_n dX9_day_10 rfl rfl ?_
      refine y_getR FX9_7 dX9_day_11 rfl hm.o hm.f_a ?_
      refine z_bipush (v := 8) dX9_day_14 (by decide) ?_
      refine y_ialN (8) dX9_day_16 hm.A_a (Nat.le_of_ble_eq_true rfl) (rfl) (by omega) ?_
      refine z_eqi (show _ = nI (s.1 8) from hr.at (by omega) (by omega)) ?_
      refine z_iload_n dX9_day_17 rfl rfl ?_
      refine z_iadd dX9_day_18 ?_
      refine z_eqi (nI_add (s.1 8) n) ?_
      refine z_sipush (v := 9999) dX9_day_19 (by decide) ?_
      refine z_icmp_gt dX9_day_22 rfl (fun c => absurd c (fun q => absurd ((nI_ltI (a := 9999) (by omega) (by omega)).mp q) (by omega))) (fun _ => ?_)
      refine z_aload_n dX9_day_25 rfl rfl ?_
      refine z_iload_n dX9_day_26 rfl rfl ?_
      refine y_callV (as := [_]) CX9_arePassed LX9_397 IX9_arePassed VX9_arePassed ⟨rfl, Nat.le_of_ble_eq_true rfl⟩ dX9_day_27 hm.o rfl (Nat.le_of_ble_eq_true rfl) (Nat.le_of_ble_eq_true rfl) (by omega) a1 (rok_z bI_01) (hg_ss a4.1 hN hS) ?_
      refine z_if_eq dX9_day_30 rfl (fun c => absurd c (bI_ne0.mpr h9)) (fun _ => ?_)
      refine z_aload_n dX9_day_33 rfl rfl ?_
      refine y_getI FX9_332 dX9_day_34 (Or.inl rfl) (a4.1.O hm.o) ?_
      refine z_eqi a3 ?_
      refine z_goto dX9_day_37 rfl ?_
      refine z_iret dX9_day_41 ?_
      exact hQ
    · have eq : mDay s.2.2.2.2.2.2 s.1 (nI n) = (-1, s.1) := by
        unfold mDay
        rw [nn_nI (by omega), if_neg (fun q => h9 q.2)]
      rw [eq]
      refine ⟨h, ?_, hr, FM.rf⟩
      intro N S Q hN hS hQ
      refine z_iload_n dX9_day_0 rfl rfl ?_
      refine z_iconst (v := 1) dX9_day_1 (by decide) ?_
      refine z_bipush (v := 60) dX9_day_2 (by decide) ?_
      refine y_callS (as := [_, _, _]) CX9_isIn LX9_63 SX9_isIn dX9_day_4 rfl (Nat.le_of_ble_eq_true rfl) (Nat.le_of_ble_eq_true rfl) (by omega) (r_isIn _ _ _) (rok_z bI_01) ⟨Nat.le_refl _, Nat.le_refl _, hN, hS⟩ ?_
      refine z_if_eq dX9_day_7 rfl (fun c => absurd c (bI_ne0.mpr hc)) (fun _ => ?_)
      refine z_aload_n dX9_day_10 rfl rfl ?_
      refine y_getR FX9_7 dX9_day_11 rfl hm.o hm.f_a ?_
      refine z_bipush (v := 8) dX9_day_14 (by decide) ?_
      refine y_ialN (8) dX9_day_16 hm.A_a (Nat.le_of_ble_eq_true rfl) (rfl) (by omega) ?_
      refine z_eqi (show _ = nI (s.1 8) from hr.at (by omega) (by omega)) ?_
      refine z_iload_n dX9_day_17 rfl rfl ?_
      refine z_iadd dX9_day_18 ?_
      refine z_eqi (nI_add (s.1 8) n) ?_
      refine z_sipush (v := 9999) dX9_day_19 (by decide) ?_
      refine z_icmp_gt dX9_day_22 rfl (fun _ => ?_) (fun c => absurd ((nI_ltI (a := 9999) (by omega) (by omega)).mpr (by omega)) c)
      refine z_iconst (v := -1) dX9_day_40 (by decide) ?_
      refine z_iret dX9_day_41 ?_
      exact hQ
  · have eq : mDay s.2.2.2.2.2.2 s.1 n = (-1, s.1) := if_neg (fun q => hc q.1)
    rw [eq]
    refine ⟨h, ?_, hr, FM.rf⟩
    intro N S Q hN hS hQ
    refine z_iload_n dX9_day_0 rfl rfl ?_
    refine z_iconst (v := 1) dX9_day_1 (by decide) ?_
    refine z_bipush (v := 60) dX9_day_2 (by decide) ?_
    refine y_callS (as := [_, _, _]) CX9_isIn LX9_63 SX9_isIn dX9_day_4 rfl (Nat.le_of_ble_eq_true rfl) (Nat.le_of_ble_eq_true rfl) (by omega) (r_isIn _ _ _) (rok_z bI_01) ⟨Nat.le_refl _, Nat.le_refl _, hN, hS⟩ ?_
    refine z_if_eq dX9_day_7 rfl (fun _ => ?_) (fun c => absurd (bI_eq0.mpr hc) c)
    refine z_iconst (v := -1) dX9_day_40 (by decide) ?_
    refine z_iret dX9_day_41 ?_
    exact hQ

/-- the class's shape, as far as laws, steps and days need it -/
def CB (h : Hp) : Prop := IO h 8 8 ∧ pR h 8 0 = some 9 ∧ pR h 8 4 = some 481 ∧ RK h ∧ MkS h 9 ∧ I0 h 0
theorem SS.cb {h h1 : Hp} (hs : SS h h1) (c : CB h) : CB h1 := ⟨hs.O c.1, by rw [hs.R]; exact c.2.1, by rw [hs.R]; exact c.2.2.1, hs.rk c.2.2.2.1, hs.mk c.2.2.2.2.1, hs.Z c.2.2.2.2.2⟩
def CZ (h : Hp) (a : Fl) (tf : Nat → Int32) : Prop := CB h ∧ MV h 9 a (TXC h tf)
theorem CZ.l {h : Hp} {a : Fl} {tf : Nat → Int32} (c : CZ h a tf) : CLW h a tf 10 (snap a) := ⟨c.1.1, c.1.2.1, c.1.2.2.1, c.1.2.2.2.1, c.1.2.2.2.2.1, c.1.2.2.2.2.2, c.2.mo, c.1.2.2.2.2.1.now, c.2.1, by omega⟩
def FZ (h h1 : Hp) : Prop := SS h h1 ∧ pJ h1 = pJ h ∧ ∀ k, (k < 9 ∨ 236 < k) → k ≠ 482 → k ≠ 483 → pI h1 k = pI h k
theorem FZ.rf {h : Hp} : FZ h h := ⟨rfl, rfl, fun _ _ _ _ => rfl⟩
theorem FZ.tr {a b c : Hp} (h1 : FZ a b) (h2 : FZ b c) : FZ a c := ⟨h1.1.tr h2.1, h2.2.1.trans h1.2.1, fun k e1 e2 e3 => (h2.2.2 k e1 e2 e3).trans (h1.2.2 k e1 e2 e3)⟩
theorem FR.z {h h1 : Hp} (f : FR 9 236 h h1) : FZ h h1 := ⟨f.1, f.2.1, fun k e _ _ => f.2.2 k e⟩
theorem FD.z {h h1 : Hp} (f : FD 10 h h1) : FZ h h1 := ⟨f.1, f.2.1, fun k e e1 e2 => f.2.2 k (by omega) e1 e2⟩
theorem FR.zl {h h1 : Hp} (f : FR 482 483 h h1) : FZ h h1 := ⟨f.1, f.2.1, fun k _ e1 e2 => f.2.2 k (by omega)⟩
theorem txc_fz {h h1 : Hp} {tf : Nat → Int32} (f : FZ h h1) : ∀ t x, TXC h tf t x → TXC h1 tf t x := fun t x q => q.fr f.1 (fun k hk => f.2.2 k (by omega) (by omega) (by omega))
theorem CZ.of {h h1 : Hp} {a a' : Fl} {tf : Nat → Int32} (c : CZ h a tf) (f : FR 9 236 h h1) (m : MV h1 9 a' (TXC h tf)) (h4 : a' 4 ≤ 30) : CZ h1 a' tf := ⟨f.1.cb c.1, m.fr h4 rfl (fun _ _ _ => rfl) (txc_fz f.z)⟩
theorem CZ.lw {h h1 : Hp} {a : Fl} {tf : Nat → Int32} (c : CZ h a tf) (f : FR 482 483 h h1) (h4 : a 4 ≤ 30) : CZ h1 a tf := ⟨f.1.cb c.1, c.2.fr h4 f.1.R (fun k q1 q2 => f.2.2 k (by omega)) (txc_fz f.zl)⟩
theorem c_rem {h : Hp} {a : Fl} {tf : Nat → Int32} {d : Nat} (c : CZ h a tf) (h4 : a 4 ≤ 30) (hd : 3 ≤ d) : ∃ h1, Sp d mX1_remember [.ref 9] h none h1 ∧ CZ h1 (mKeep a) tf ∧ FZ h h1 := by
  obtain ⟨h1, k1, k2, k3⟩ := c_remember c.1.2.2.2.2.1 c.2 h4 hd
  have k3 : FR 9 236 h h1 := k3
  exact ⟨h1, k1, c.of k3 k2 (by rw [mKeep_4]; split <;> omega), k3.z⟩
theorem c_passN {h : Hp} {a : Fl} {tf : Nat → Int32} {d : Nat} (c : CZ h a tf) (hj : JD tf a) (hd : 6 ≤ d) : ∃ h1, Sp d mX8_passDay [.ref 8, .ref 10] h (some (.int (nI (mPassE tf a)))) h1 ∧ CZ h1 (mPass tf a) tf ∧ FZ h h1 := by
  obtain ⟨h1, p1, p2, p3⟩ := c_passDay (d := d) c.l (Or.inl rfl) hj.2.1 rfl hj.1.1 hj.1.2.2.1 hj.1.2.2.2.1 hj.2.2.2 hj.2.2.1 hd
  have h4 := hj.1.2.2.2.2.1
  refine ⟨h1, p1, ⟨p3.1.cb c.1, ?_⟩, p3.z⟩
  refine c.2.now2 h4 p3.1.R (fun k q1 q2 q3 => p3.2.2 k (by omega) (by omega) (by omega)) (txc_fz p3.z) (fun i hi => uns_o (by omega)) ?_
  exact p2.2.2.2.2.2.2.2.2.1.cg (fun i hi => (snap_uns hi).symm)
theorem dyE_le {tf : Nat → Int32} {a : Fl} (h : JD tf a) : ∀ i, a 8 + i ≤ 9999 → dyE tf i a ≤ 12 * i := by
  intro i
  induction i with
  | zero => intro _; exact Nat.le_refl _
  | succ i ih =>
    intro hi
    have := mPassE_le (tf := tf) (h.days i (by omega)).1.keep.1.2.2.2.2.2.2.2.2.2.2.2.1
    show dyE tf i a + mPassE tf _ ≤ _
    have := ih (by omega)
    omega

theorem c_day_loop {h : Hp} {a : Fl} {tf : Nat → Int32} {d n : Nat} (hj : JD tf a) (h9 : a 8 + n ≤ 9999) (hn : n ≤ 60) (hd : 7 ≤ d) : ∀ r i (h1 : Hp), i + r = n → CZ h1 (dyA tf i a) tf → FZ h h1 → ∃ h2, CZ h2 (dyA tf n a) tf ∧ FZ h h2 ∧ ∀ (N S : Nat) (Q : Option Value → Hp → Prop), pn h ≤ N → ps h ≤ S → Q (some (.int (nI (dyE tf n a)))) h2 → T d N S mX8_day 34 [some (.ref 8), some (.int (nI n)), some (.int (nI (dyE tf i a))), some (.int (nI i))] [] h1 Q := by
  intro r
  induction r with
  | zero =>
    intro i h1 hi c1 f1
    have e : i = n := by omega
    rw [e] at c1 ⊢
    refine ⟨h1, c1, f1, fun N S Q hN hS hQ => ?_⟩
    refine z_iload_n dX8_day_34 rfl rfl ?_
    refine z_iload_n dX8_day_35 rfl rfl ?_
    refine z_icmp_ge dX8_day_36 rfl (fun _ => ?_) (fun c => absurd (Int32.le_refl _) c)
    refine z_iload_n dX8_day_66 rfl rfl ?_
    refine z_iret dX8_day_67 ?_
    exact hQ
  | succ r ih =>
    intro i h1 hi c1 f1
    obtain ⟨j1, j8⟩ := hj.days i (by omega)
    obtain ⟨g1, k1, k2, k3⟩ := c_rem (d := 6) c1 j1.1.2.2.2.2.1 (by omega)
    obtain ⟨g2, p1, p2, p3⟩ := c_passN (d := 6) k2 j1.keep (by omega)
    obtain ⟨h2, q1, q2, K⟩ := ih (i + 1) g2 (by omega) p2 ((f1.tr k3).tr p3)
    refine ⟨h2, q1, q2, fun N S Q hN hS hQ => ?_⟩
    have hN1 : pn h1 ≤ N := by rw [f1.1.n]; exact hN
    have hS1 : ps h1 ≤ S := by rw [f1.1.s]; exact hS
    have hN2 : pn g1 ≤ N := by rw [k3.1.n]; exact hN1
    have hS2 : ps g1 ≤ S := by rw [k3.1.s]; exact hS1
    refine z_iload_n dX8_day_34 rfl rfl ?_
    refine z_iload_n dX8_day_35 rfl rfl ?_
    refine z_icmp_ge dX8_day_36 rfl (fun c => absurd c (fun q => absurd ((nI_leI (by omega) (by omega)).mp q) (by omega))) (fun _ => ?_)
    refine z_aload_n dX8_day_39 rfl rfl ?_
    refine y_getR FX8_10 dX8_day_40 rfl c1.1.1 c1.1.2.1 ?_
    refine y_callV (as := []) CX1_remember LX8_113 IX1_remember VX1_remember ⟨rfl, Nat.le_of_ble_eq_true rfl⟩ dX8_day_43 c1.1.2.2.2.2.1.o rfl (Nat.le_of_ble_eq_true rfl) (Nat.le_of_ble_eq_true rfl) (by omega) k1 rok_v (hg_ss k3.1 hN1 hS1) ?_
    refine z_iload_n dX8_day_46 rfl rfl ?_
    refine z_aload_n dX8_day_47 rfl rfl ?_
    refine z_aload_n dX8_day_48 rfl rfl ?_
    refine y_getR FX8_10 dX8_day_49 rfl (k3.1.O c1.1.1) (by first | (rw [k3.1.R]; exact c1.1.2.1) | exact (congrFun (congrFun k3.1.R _) _).trans c1.1.2.1) ?_
    refine y_getR FX8_79 dX8_day_52 rfl (k3.1.O c1.1.2.2.2.2.1.o) (by first | (rw [k3.1.R]; exact c1.1.2.2.2.2.1.f0) | exact (congrFun (congrFun k3.1.R _) _).trans c1.1.2.2.2.2.1.f0) ?_
    refine y_callV (as := [_]) CX8_passDay LX8_173 IX8_passDay VX8_passDay ⟨rfl, Nat.le_of_ble_eq_true rfl⟩ dX8_day_55 (k3.1.O c1.1.1) rfl (Nat.le_of_ble_eq_true rfl) (Nat.le_of_ble_eq_true rfl) (by omega) p1 rok_i (hg_ss p3.1 hN2 hS2) ?_
    refine z_iadd dX8_day_58 ?_
    refine z_eqi (nI_add _ _) ?_
    refine z_istore_n dX8_day_59 rfl (Nat.le_of_ble_eq_true rfl) ?_
    refine z_iinc dX8_day_60 rfl (nI_1 _) (Nat.le_of_ble_eq_true rfl) ?_
    refine z_goto dX8_day_63 rfl ?_
    exact K N S Q hN hS hQ

theorem C_day {h : Hp} {a : Fl} {tf : Nat → Int32} {d : Nat} (c1 : CZ h a tf) (hj : JD tf a) (n : Int32) (hd : 7 ≤ d) : ∃ h1, Sp d mX8_day [.ref 8, .int n] h (some (.int (mDay tf a n).1)) h1 ∧ CZ h1 (mDay tf a n).2 tf ∧ FZ h h1 := by
  have v8 := hj.1.2.2.2.2.2.2.2.2.1
  by_cases hc : inr n 1 60
  · obtain ⟨n, hn, rfl⟩ := inr_of (n := 60) (x := n) (by omega) ⟨Int32.le_trans (by decide) hc.1, hc.2⟩
    by_cases h9 : a 8 + n ≤ 9999
    · have eq : mDay tf a (nI n) = (nI (dyE tf n a), dyA tf n a) := by
        unfold mDay
        rw [nn_nI (by omega), if_pos ⟨hc, h9⟩]
      rw [eq]
      obtain ⟨h2, q1, q2, K⟩ := c_day_loop (h := h) hj h9 hn hd n 0 h (by omega) c1 FZ.rf
      refine ⟨h2, ?_, q1, q2⟩
      intro N S Q hN hS hQ
      have hN : pn h ≤ N := by rw [← q2.1.n]; exact hN
      have hS : ps h ≤ S := by rw [← q2.1.s]; exact hS
      refine z_iload_n dX8_day_0 rfl rfl ?_
      refine z_iconst (v := 1) dX8_day_1 (by decide) ?_
      refine z_bipush (v := 60) dX8_day_2 (by decide) ?_
      refine y_callS (as := [_, _, _]) CX8_within LX8_61 SX8_within dX8_day_4 rfl (Nat.le_of_ble_eq_true rfl) (Nat.le_of_ble_eq_true rfl) (by omega) (s_within _ _ _) (rok_z bI_01) ⟨Nat.le_refl _, Nat.le_refl _, hN, hS⟩ ?_
      refine z_if_eq dX8_day_7 rfl (fun c => absurd c (bI_ne0.mpr hc)) (fun _ => ?_)
      refine z_aload_n dX8_day_10 rfl rfl ?_
      refine y_getR FX8_10 dX8_day_11 rfl c1.1.1 c1.1.2.1 ?_
      refine y_getR FX8_79 dX8_day_14 rfl c1.1.2.2.2.2.1.o c1.1.2.2.2.2.1.f0 ?_
      refine y_getI FX8_133 dX8_day_17 (Or.inl rfl) c1.1.2.2.2.2.1.now.1 ?_
      refine z_eqi (y := nI (a 8)) (show _ = nI (a 8) from c1.2.1.1) ?_
      refine z_iload_n dX8_day_20 rfl rfl ?_
      refine z_iadd dX8_day_21 ?_
      refine z_eqi (nI_add (a 8) n) ?_
      refine z_sipush (v := 9999) dX8_day_22 (by decide) ?_
      refine z_icmp_le dX8_day_25 rfl (fun _ => ?_) (fun c => absurd ((nI_leI (b := 9999) (by omega) (by omega)).mpr (by omega)) c)
      refine z_iconst (v := 0) dX8_day_30 (by decide) ?_
      refine z_istore_n dX8_day_31 rfl (Nat.le_of_ble_eq_true rfl) ?_
      refine z_iconst (v := 0) dX8_day_32 (by decide) ?_
      refine z_istore_n dX8_day_33 rfl (Nat.le_of_ble_eq_true rfl) ?_
      exact K N S Q hN hS hQ
    · have eq : mDay tf a (nI n) = (-1, a) := by
        unfold mDay
        rw [nn_nI (by omega), if_neg (fun q => h9 q.2)]
      rw [eq]
      refine ⟨h, ?_, c1, FZ.rf⟩
      intro N S Q hN hS hQ
      refine z_iload_n dX8_day_0 rfl rfl ?_
      refine z_iconst (v := 1) dX8_day_1 (by decide) ?_
      refine z_bipush (v := 60) dX8_day_2 (by decide) ?_
      refine y_callS (as := [_, _, _]) CX8_within LX8_61 SX8_within dX8_day_4 rfl (Nat.le_of_ble_eq_true rfl) (Nat.le_of_ble_eq_true rfl) (by omega) (s_within _ _ _) (rok_z bI_01) ⟨Nat.le_refl _, Nat.le_refl _, hN, hS⟩ ?_
      refine z_if_eq dX8_day_7 rfl (fun c => absurd c (bI_ne0.mpr hc)) (fun _ => ?_)
      refine z_aload_n dX8_day_10 rfl rfl ?_
      refine y_getR FX8_10 dX8_day_11 rfl c1.1.1 c1.1.2.1 ?_
      refine y_getR FX8_79 dX8_day_14 rfl c1.1.2.2.2.2.1.o c1.1.2.2.2.2.1.f0 ?_
      refine y_getI FX8_133 dX8_day_17 (Or.inl rfl) c1.1.2.2.2.2.1.now.1 ?_
      refine z_eqi (y := nI (a 8)) (show _ = nI (a 8) from c1.2.1.1) ?_
      refine z_iload_n dX8_day_20 rfl rfl ?_
      refine z_iadd dX8_day_21 ?_
      refine z_eqi (nI_add (a 8) n) ?_
      refine z_sipush (v := 9999) dX8_day_22 (by decide) ?_
      refine z_icmp_le dX8_day_25 rfl (fun c => absurd c (fun q => absurd ((nI_leI (b := 9999) (by omega) (by omega)).mp q) (by omega))) (fun _ => ?_)
      refine z_iconst (v := -1) dX8_day_28 (by decide) ?_
      refine z_iret dX8_day_29 ?_
      exact hQ
  · have eq : mDay tf a n = (-1, a) := if_neg (fun q => hc q.1)
    rw [eq]
    refine ⟨h, ?_, c1, FZ.rf⟩
    intro N S Q hN hS hQ
    refine z_iload_n dX8_day_0 rfl rfl ?_
    refine z_iconst (v := 1) dX8_day_1 (by decide) ?_
    refine z_bipush (v := 60) dX8_day_2 (by decide) ?_
    refine y_callS (as := [_, _, _]) CX8_within LX8_61 SX8_within dX8_day_4 rfl (Nat.le_of_ble_eq_true rfl) (Nat.le_of_ble_eq_true rfl) (by omega) (s_within _ _ _) (rok_z bI_01) ⟨Nat.le_refl _, Nat.le_refl _, hN, hS⟩ ?_
    refine z_if_eq dX8_day_7 rfl (fun _ => ?_) (fun c => absurd (bI_eq0.mpr hc) c)
    refine z_iconst (v := -1) dX8_day_28 (by decide) ?_
    refine z_iret dX8_day_29 ?_
    exact hQ

