/-! the class's reader: comparisons and asks along the descent (wip/whole/gen9x.py) -/
theorem cm_op {k : Nat} (h : 38 ≤ k ∧ k ≤ 43) : - nI k = cnv (cm1 k) 0 := by
  have q : k = 38 ∨ k = 39 ∨ k = 40 ∨ k = 41 ∨ k = 42 ∨ k = 43 := by omega
  rcases q with rfl | rfl | rfl | rfl | rfl | rfl <;> rfl
theorem c_mComparison {h0 : Hp} {K W : Nat → Nat} {so n f : Nat} (ct : CT h0 K W n) (b : BM h0 K W so n f 3 mX2_readSum 5) : BM h0 K W so n (f + 1) 5 mX2_readComparison 6 := by
  intro op i c a z j e h ho q' hr
  have q := q'.1.1
  have n3 := ct.2.2.1
  have cr := q.cr ct
  have k54 := ct.2.2.2.2.2.2 i
  have in1 := q.2.2.2.2.2.2.2.1
  have z9 := q.2.2.2.2.2.2.2.2
  have hr : rdCm K (rd K W so f) op i c = some (z, j, e) := hr
  unfold rdCm at hr
  obtain ⟨z1, i1, c1, e1⟩ := bnd_sm hr
  rw [e1] at hr
  obtain ⟨h1, s1, q1⟩ := b op i c a z1 i1 c1 h ho q' e1
  have k541 := ct.2.2.2.2.2.2 i1
  have z91 := q1.1.1.2.2.2.2.2.2.2.2
  by_cases hz : z1 = 0
  · subst hz
    rw [bnd_0] at hr
    by_cases hc : 38 ≤ K i1 ∧ K i1 ≤ 43
    · rw [if_pos hc] at hr
      obtain ⟨h2, s2, q2, k2⟩ := a_adv (d := 0) ct q1.1.1 (ct.lt i1 (by omega))
      have qA : RQ h0 K n (a + 1) 0 (i1 + 1) c1 h2 := q1.mv q2 k2 (by have := q1.2; omega)
      obtain ⟨z3, i3, c3, e3⟩ := bnd_sm hr
      rw [e3] at hr
      obtain ⟨h3, s3, q3⟩ := b op (i1 + 1) c1 (a + 1) z3 i3 c3 h2 ho qA e3
      obtain ⟨h4, s4, q4⟩ := x_put (d := 0) ct q3 hr (cm_op hc)
      refine ⟨h4, ?_, q4⟩
      intro N S Q hN hS hQ
      have hN : pn h0 ≤ N := ss_n q4.1.1.1 hN
      have hS : ps h0 ≤ S := ss_s q4.1.1.1 hS
      refine z_aload_n dX2_readComparison_0 rfl rfl ?_
      refine z_iload_n dX2_readComparison_1 rfl rfl ?_
      refine y_callV (as := [_]) CX2_readSum LX2_108 IX2_readSum VX2_readSum ⟨rfl, Nat.le_of_ble_eq_true rfl⟩ dX2_readComparison_2 cr.1 rfl (Nat.le_of_ble_eq_true rfl) (Nat.le_of_ble_eq_true rfl) (by omega) s1 rok_v (q.hg q1.1.1 hN hS) ?_
      refine z_aload_n dX2_readComparison_5 rfl rfl ?_
      refine y_getI FX2_43 dX2_readComparison_6 (Or.inl rfl) ((q.ss q1.1.1).O cr.1) ?_
      refine z_eqi (y := nI (K i1)) q1.1.1.2.2.2.2.2.1 ?_
      refine z_istore_n dX2_readComparison_9 rfl (Nat.le_of_ble_eq_true rfl) ?_
      refine z_iload_n dX2_readComparison_10 rfl rfl ?_
      refine z_bipush (v := 38) dX2_readComparison_11 (by decide) ?_
      refine z_bipush (v := 43) dX2_readComparison_13 (by decide) ?_
      refine y_callS (as := [_, _, _]) CX8_within LX2_66 SX8_within dX2_readComparison_15 rfl (Nat.le_of_ble_eq_true rfl) (Nat.le_of_ble_eq_true rfl) (by omega) (s_within (d := 0) _ _ _) (rok_z bI_01) ⟨Nat.le_refl _, Nat.le_refl _, ss_n' q1.1.1.1 hN, ss_s' q1.1.1.1 hS⟩ ?_
      refine z_if_ne dX2_readComparison_18 rfl (fun _ => ?_) (fun c => absurd c (bI_ne0.mpr ⟨(nI_leI (a := 38) (by omega) (by omega)).mpr hc.1, (nI_leI (b := 43) (by omega) (by omega)).mpr hc.2⟩))
      refine z_aload_n dX2_readComparison_26 rfl rfl ?_
      refine y_getI FX2_40 dX2_readComparison_27 (Or.inl rfl) ((q.ss q1.1.1).O cr.1) ?_
      refine z_eqi (y := nI (0)) q1.1.1.2.2.2.2.2.2.1 ?_
      refine z_if_ne dX2_readComparison_30 rfl (fun c => absurd (rfl) c) (fun _ => ?_)
      refine z_aload_n dX2_readComparison_33 rfl rfl ?_
      refine y_callV (as := []) CX2_advance LX2_37 IX2_advance VX2_advance ⟨rfl, Nat.le_of_ble_eq_true rfl⟩ dX2_readComparison_34 ((q.ss q1.1.1).O cr.1) rfl (Nat.le_of_ble_eq_true rfl) (Nat.le_of_ble_eq_true rfl) (by omega) s2 rok_v (q1.1.1.hg q2 hN hS) ?_
      refine z_aload_n dX2_readComparison_37 rfl rfl ?_
      refine z_iload_n dX2_readComparison_38 rfl rfl ?_
      refine y_callV (as := [_]) CX2_readSum LX2_108 IX2_readSum VX2_readSum ⟨rfl, Nat.le_of_ble_eq_true rfl⟩ dX2_readComparison_39 ((q.ss q2).O cr.1) rfl (Nat.le_of_ble_eq_true rfl) (Nat.le_of_ble_eq_true rfl) (by omega) s3 rok_v (q2.hg q3.1.1 hN hS) ?_
      refine z_aload_n dX2_readComparison_42 rfl rfl ?_
      refine z_iload_n dX2_readComparison_43 rfl rfl ?_
      refine z_ineg dX2_readComparison_44 ?_
      refine y_callV (as := [_]) CX2_emit LX2_134 IX2_emit VX2_emit ⟨rfl, Nat.le_of_ble_eq_true rfl⟩ dX2_readComparison_45 ((q.ss q3.1.1).O cr.1) rfl (Nat.le_of_ble_eq_true rfl) (Nat.le_of_ble_eq_true rfl) (by omega) s4 rok_v (q3.1.1.hg q4.1.1 hN hS) ?_
      refine z_vret dX2_readComparison_48 ?_
      exact hQ
    · rw [if_neg hc] at hr
      have e3 : 1 = z ∧ i1 = j ∧ c1 = e := by cases hr; exact ⟨rfl, rfl, rfl⟩
      obtain ⟨rfl, rfl, rfl⟩ := e3
      obtain ⟨h2, s2, q2, k2⟩ := a_bl0 (d := 0) (w := 1) ct q1.1.1 (by omega)
      refine ⟨h2, ?_, q1.mv q2 k2 q1.2⟩
      intro N S Q hN hS hQ
      have hN : pn h0 ≤ N := ss_n q2.1 hN
      have hS : ps h0 ≤ S := ss_s q2.1 hS
      refine z_aload_n dX2_readComparison_0 rfl rfl ?_
      refine z_iload_n dX2_readComparison_1 rfl rfl ?_
      refine y_callV (as := [_]) CX2_readSum LX2_108 IX2_readSum VX2_readSum ⟨rfl, Nat.le_of_ble_eq_true rfl⟩ dX2_readComparison_2 cr.1 rfl (Nat.le_of_ble_eq_true rfl) (Nat.le_of_ble_eq_true rfl) (by omega) s1 rok_v (q.hg q1.1.1 hN hS) ?_
      refine z_aload_n dX2_readComparison_5 rfl rfl ?_
      refine y_getI FX2_43 dX2_readComparison_6 (Or.inl rfl) ((q.ss q1.1.1).O cr.1) ?_
      refine z_eqi (y := nI (K i1)) q1.1.1.2.2.2.2.2.1 ?_
      refine z_istore_n dX2_readComparison_9 rfl (Nat.le_of_ble_eq_true rfl) ?_
      refine z_iload_n dX2_readComparison_10 rfl rfl ?_
      refine z_bipush (v := 38) dX2_readComparison_11 (by decide) ?_
      refine z_bipush (v := 43) dX2_readComparison_13 (by decide) ?_
      refine y_callS (as := [_, _, _]) CX8_within LX2_66 SX8_within dX2_readComparison_15 rfl (Nat.le_of_ble_eq_true rfl) (Nat.le_of_ble_eq_true rfl) (by omega) (s_within (d := 0) _ _ _) (rok_z bI_01) ⟨Nat.le_refl _, Nat.le_refl _, ss_n' q1.1.1.1 hN, ss_s' q1.1.1.1 hS⟩ ?_
      refine z_if_ne dX2_readComparison_18 rfl (fun c => absurd (bI_eq0.mpr (fun w => hc ⟨(nI_leI (a := 38) (by omega) (by omega)).mp w.1, (nI_leI (b := 43) (by omega) (by omega)).mp w.2⟩)) c) (fun _ => ?_)
      refine z_aload_n dX2_readComparison_21 rfl rfl ?_
      refine z_iconst (v := 1) dX2_readComparison_22 (by decide) ?_
      refine y_callV (as := [_]) CX2_blame LX2_59 IX2_blame VX2_blame ⟨rfl, Nat.le_of_ble_eq_true rfl⟩ dX2_readComparison_23 ((q.ss q1.1.1).O cr.1) rfl (Nat.le_of_ble_eq_true rfl) (Nat.le_of_ble_eq_true rfl) (by omega) s2 rok_v (q1.1.1.hg q2 hN hS) ?_
      refine z_aload_n dX2_readComparison_26 rfl rfl ?_
      refine y_getI FX2_40 dX2_readComparison_27 (Or.inl rfl) ((q.ss q2).O cr.1) ?_
      refine z_eqi (y := nI (1)) q2.2.2.2.2.2.2.1 ?_
      refine z_if_ne dX2_readComparison_30 rfl (fun _ => ?_) (fun c => absurd c (by decide))
      refine z_vret dX2_readComparison_48 ?_
      exact hQ
  · rw [bnd_z hz] at hr
    have e3 : z1 = z ∧ i1 = j ∧ c1 = e := by cases hr; exact ⟨rfl, rfl, rfl⟩
    obtain ⟨rfl, rfl, rfl⟩ := e3
    refine ⟨h1, ?_, q1⟩
    intro N S Q hN hS hQ
    have hN : pn h0 ≤ N := ss_n q1.1.1.1 hN
    have hS : ps h0 ≤ S := ss_s q1.1.1.1 hS
    by_cases hc : 38 ≤ K i1 ∧ K i1 ≤ 43
    · skip
      refine z_aload_n dX2_readComparison_0 rfl rfl ?_
      refine z_iload_n dX2_readComparison_1 rfl rfl ?_
      refine y_callV (as := [_]) CX2_readSum LX2_108 IX2_readSum VX2_readSum ⟨rfl, Nat.le_of_ble_eq_true rfl⟩ dX2_readComparison_2 cr.1 rfl (Nat.le_of_ble_eq_true rfl) (Nat.le_of_ble_eq_true rfl) (by omega) s1 rok_v (q.hg q1.1.1 hN hS) ?_
      refine z_aload_n dX2_readComparison_5 rfl rfl ?_
      refine y_getI FX2_43 dX2_readComparison_6 (Or.inl rfl) ((q.ss q1.1.1).O cr.1) ?_
      refine z_eqi (y := nI (K i1)) q1.1.1.2.2.2.2.2.1 ?_
      refine z_istore_n dX2_readComparison_9 rfl (Nat.le_of_ble_eq_true rfl) ?_
      refine z_iload_n dX2_readComparison_10 rfl rfl ?_
      refine z_bipush (v := 38) dX2_readComparison_11 (by decide) ?_
      refine z_bipush (v := 43) dX2_readComparison_13 (by decide) ?_
      refine y_callS (as := [_, _, _]) CX8_within LX2_66 SX8_within dX2_readComparison_15 rfl (Nat.le_of_ble_eq_true rfl) (Nat.le_of_ble_eq_true rfl) (by omega) (s_within (d := 0) _ _ _) (rok_z bI_01) ⟨Nat.le_refl _, Nat.le_refl _, ss_n' q1.1.1.1 hN, ss_s' q1.1.1.1 hS⟩ ?_
      refine z_if_ne dX2_readComparison_18 rfl (fun _ => ?_) (fun c => absurd c (bI_ne0.mpr ⟨(nI_leI (a := 38) (by omega) (by omega)).mpr hc.1, (nI_leI (b := 43) (by omega) (by omega)).mpr hc.2⟩))
      refine z_aload_n dX2_readComparison_26 rfl rfl ?_
      refine y_getI FX2_40 dX2_readComparison_27 (Or.inl rfl) ((q.ss q1.1.1).O cr.1) ?_
      refine z_eqi (y := nI (z1)) q1.1.1.2.2.2.2.2.2.1 ?_
      refine z_if_ne dX2_readComparison_30 rfl (fun _ => ?_) (fun c => absurd c (fun w => absurd ((nI_eq (a := z1) (b := 0) (by omega) (by omega)).mp w) (by omega)))
      refine z_vret dX2_readComparison_48 ?_
      exact hQ
    · have s2 := a_bl1 (d := 0) (w := 1) ct q1.1.1 (by omega)
      refine z_aload_n dX2_readComparison_0 rfl rfl ?_
      refine z_iload_n dX2_readComparison_1 rfl rfl ?_
      refine y_callV (as := [_]) CX2_readSum LX2_108 IX2_readSum VX2_readSum ⟨rfl, Nat.le_of_ble_eq_true rfl⟩ dX2_readComparison_2 cr.1 rfl (Nat.le_of_ble_eq_true rfl) (Nat.le_of_ble_eq_true rfl) (by omega) s1 rok_v (q.hg q1.1.1 hN hS) ?_
      refine z_aload_n dX2_readComparison_5 rfl rfl ?_
      refine y_getI FX2_43 dX2_readComparison_6 (Or.inl rfl) ((q.ss q1.1.1).O cr.1) ?_
      refine z_eqi (y := nI (K i1)) q1.1.1.2.2.2.2.2.1 ?_
      refine z_istore_n dX2_readComparison_9 rfl (Nat.le_of_ble_eq_true rfl) ?_
      refine z_iload_n dX2_readComparison_10 rfl rfl ?_
      refine z_bipush (v := 38) dX2_readComparison_11 (by decide) ?_
      refine z_bipush (v := 43) dX2_readComparison_13 (by decide) ?_
      refine y_callS (as := [_, _, _]) CX8_within LX2_66 SX8_within dX2_readComparison_15 rfl (Nat.le_of_ble_eq_true rfl) (Nat.le_of_ble_eq_true rfl) (by omega) (s_within (d := 0) _ _ _) (rok_z bI_01) ⟨Nat.le_refl _, Nat.le_refl _, ss_n' q1.1.1.1 hN, ss_s' q1.1.1.1 hS⟩ ?_
      refine z_if_ne dX2_readComparison_18 rfl (fun c => absurd (bI_eq0.mpr (fun w => hc ⟨(nI_leI (a := 38) (by omega) (by omega)).mp w.1, (nI_leI (b := 43) (by omega) (by omega)).mp w.2⟩)) c) (fun _ => ?_)
      refine z_aload_n dX2_readComparison_21 rfl rfl ?_
      refine z_iconst (v := 1) dX2_readComparison_22 (by decide) ?_
      refine y_callV (as := [_]) CX2_blame LX2_59 IX2_blame VX2_blame ⟨rfl, Nat.le_of_ble_eq_true rfl⟩ dX2_readComparison_23 ((q.ss q1.1.1).O cr.1) rfl (Nat.le_of_ble_eq_true rfl) (Nat.le_of_ble_eq_true rfl) (by omega) s2 rok_v (q1.1.1.hg q1.1.1 hN hS) ?_
      refine z_aload_n dX2_readComparison_26 rfl rfl ?_
      refine y_getI FX2_40 dX2_readComparison_27 (Or.inl rfl) ((q.ss q1.1.1).O cr.1) ?_
      refine z_eqi (y := nI (z1)) q1.1.1.2.2.2.2.2.2.1 ?_
      refine z_if_ne dX2_readComparison_30 rfl (fun _ => ?_) (fun c => absurd c (fun w => absurd ((nI_eq (a := z1) (b := 0) (by omega) (by omega)).mp w) (by omega)))
      refine z_vret dX2_readComparison_48 ?_
      exact hQ

theorem c_mAsk {h0 : Hp} {K W : Nat → Nat} {so n f : Nat} (ct : CT h0 K W n) (b5 : BM h0 K W so n f 5 mX2_readComparison 6) (b6 : BM h0 K W so n f 6 mX2_readAsk 7) : BM h0 K W so n (f + 1) 6 mX2_readAsk 7 := by
  intro op i c a z j e h ho q' hr
  have q := q'.1.1
  have n3 := ct.2.2.1
  have cr := q.cr ct
  have k54 := ct.2.2.2.2.2.2 i
  have in1 := q.2.2.2.2.2.2.2.1
  have z9 := q.2.2.2.2.2.2.2.2
  have hr : rdAs K (rd K W so f) op i c = some (z, j, e) := hr
  unfold rdAs at hr
  by_cases hc : K i = 29
  · rw [if_pos hc] at hr
    by_cases h8 : 8 ≤ op
    · rw [if_pos h8] at hr
      cases hr
      obtain ⟨h2, s2, q2, k2⟩ := a_bl0 (d := 0) (w := 3) ct q (by omega)
      refine ⟨h2, ?_, q'.mv q2 k2 q'.2⟩
      intro N S Q hN hS hQ
      have hN : pn h0 ≤ N := ss_n q2.1 hN
      have hS : ps h0 ≤ S := ss_s q2.1 hS
      refine z_aload_n dX2_readAsk_0 rfl rfl ?_
      refine y_getI FX2_40 dX2_readAsk_1 (Or.inl rfl) cr.1 ?_
      refine z_eqi (y := nI (0)) q.2.2.2.2.2.2.1 ?_
      refine z_if_eq dX2_readAsk_4 rfl (fun _ => ?_) (fun c => absurd (rfl) c)
      refine z_aload_n dX2_readAsk_8 rfl rfl ?_
      refine y_getI FX2_43 dX2_readAsk_9 (Or.inl rfl) cr.1 ?_
      refine z_eqi (y := nI (K i)) q.2.2.2.2.2.1 ?_
      refine z_bipush (v := 29) dX2_readAsk_12 (by decide) ?_
      refine z_icmp_eq dX2_readAsk_14 rfl (fun _ => ?_) (fun c => absurd (congrArg nI hc) c)
      refine z_iload_n dX2_readAsk_25 rfl rfl ?_
      refine z_bipush (v := 8) dX2_readAsk_26 (by decide) ?_
      refine z_icmp_lt dX2_readAsk_28 rfl (fun c => absurd c (fun w => absurd ((nI_ltI (b := 8) (by omega) (by omega)).mp w) (by omega))) (fun _ => ?_)
      refine z_aload_n dX2_readAsk_31 rfl rfl ?_
      refine z_iconst (v := 3) dX2_readAsk_32 (by decide) ?_
      refine y_callV (as := [_]) CX2_blame LX2_59 IX2_blame VX2_blame ⟨rfl, Nat.le_of_ble_eq_true rfl⟩ dX2_readAsk_33 cr.1 rfl (Nat.le_of_ble_eq_true rfl) (Nat.le_of_ble_eq_true rfl) (by omega) s2 rok_v (q.hg q2 hN hS) ?_
      refine z_goto dX2_readAsk_36 rfl ?_
      refine z_vret dX2_readAsk_56 ?_
      exact hQ
    · rw [if_neg h8] at hr
      obtain ⟨h2, s2, q2, k2⟩ := a_adv (d := 0) ct q (ct.lt i (by omega))
      have qA : RQ h0 K n (a + 1) 0 (i + 1) c h2 := q'.mv q2 k2 (by have := q'.2; omega)
      obtain ⟨z3, i3, c3, e3⟩ := bnd_sm hr
      rw [e3] at hr
      obtain ⟨h3, s3, q3⟩ := b6 (op + 1) (i + 1) c (a + 1) z3 i3 c3 h2 (by omega) qA e3
      obtain ⟨h4, s4, q4⟩ := x_put (d := 0) (v := -29) ct q3 hr (by decide)
      refine ⟨h4, ?_, q4⟩
      intro N S Q hN hS hQ
      have hN : pn h0 ≤ N := ss_n q4.1.1.1 hN
      have hS : ps h0 ≤ S := ss_s q4.1.1.1 hS
      refine z_aload_n dX2_readAsk_0 rfl rfl ?_
      refine y_getI FX2_40 dX2_readAsk_1 (Or.inl rfl) cr.1 ?_
      refine z_eqi (y := nI (0)) q.2.2.2.2.2.2.1 ?_
      refine z_if_eq dX2_readAsk_4 rfl (fun _ => ?_) (fun c => absurd (rfl) c)
      refine z_aload_n dX2_readAsk_8 rfl rfl ?_
      refine y_getI FX2_43 dX2_readAsk_9 (Or.inl rfl) cr.1 ?_
      refine z_eqi (y := nI (K i)) q.2.2.2.2.2.1 ?_
      refine z_bipush (v := 29) dX2_readAsk_12 (by decide) ?_
      refine z_icmp_eq dX2_readAsk_14 rfl (fun _ => ?_) (fun c => absurd (congrArg nI hc) c)
      refine z_iload_n dX2_readAsk_25 rfl rfl ?_
      refine z_bipush (v := 8) dX2_readAsk_26 (by decide) ?_
      refine z_icmp_lt dX2_readAsk_28 rfl (fun _ => ?_) (fun c => absurd ((nI_ltI (b := 8) (by omega) (by omega)).mpr (by omega)) c)
      refine z_aload_n dX2_readAsk_39 rfl rfl ?_
      refine y_callV (as := []) CX2_advance LX2_37 IX2_advance VX2_advance ⟨rfl, Nat.le_of_ble_eq_true rfl⟩ dX2_readAsk_40 cr.1 rfl (Nat.le_of_ble_eq_true rfl) (Nat.le_of_ble_eq_true rfl) (by omega) s2 rok_v (q.hg q2 hN hS) ?_
      refine z_aload_n dX2_readAsk_43 rfl rfl ?_
      refine z_iload_n dX2_readAsk_44 rfl rfl ?_
      refine z_iconst (v := 1) dX2_readAsk_45 (by decide) ?_
      refine z_iadd dX2_readAsk_46 ?_
      refine z_eqi (nI_1 op) ?_
      refine y_callV (as := [_]) CX2_readAsk LX2_162 IX2_readAsk VX2_readAsk ⟨rfl, Nat.le_of_ble_eq_true rfl⟩ dX2_readAsk_47 ((q.ss q2).O cr.1) rfl (Nat.le_of_ble_eq_true rfl) (Nat.le_of_ble_eq_true rfl) (by omega) s3 rok_v (q2.hg q3.1.1 hN hS) ?_
      refine z_aload_n dX2_readAsk_50 rfl rfl ?_
      refine z_bipush (v := -29) dX2_readAsk_51 (by decide) ?_
      refine y_callV (as := [_]) CX2_emit LX2_134 IX2_emit VX2_emit ⟨rfl, Nat.le_of_ble_eq_true rfl⟩ dX2_readAsk_53 ((q.ss q3.1.1).O cr.1) rfl (Nat.le_of_ble_eq_true rfl) (Nat.le_of_ble_eq_true rfl) (by omega) s4 rok_v (q3.1.1.hg q4.1.1 hN hS) ?_
      refine z_vret dX2_readAsk_56 ?_
      exact hQ
  · rw [if_neg hc] at hr
    obtain ⟨h1, s1, q1⟩ := b5 op i c a z j e h ho q' hr
    refine ⟨h1, ?_, q1⟩
    intro N S Q hN hS hQ
    have hN : pn h0 ≤ N := ss_n q1.1.1.1 hN
    have hS : ps h0 ≤ S := ss_s q1.1.1.1 hS
    refine z_aload_n dX2_readAsk_0 rfl rfl ?_
    refine y_getI FX2_40 dX2_readAsk_1 (Or.inl rfl) cr.1 ?_
    refine z_eqi (y := nI (0)) q.2.2.2.2.2.2.1 ?_
    refine z_if_eq dX2_readAsk_4 rfl (fun _ => ?_) (fun c => absurd (rfl) c)
    refine z_aload_n dX2_readAsk_8 rfl rfl ?_
    refine y_getI FX2_43 dX2_readAsk_9 (Or.inl rfl) cr.1 ?_
    refine z_eqi (y := nI (K i)) q.2.2.2.2.2.1 ?_
    refine z_bipush (v := 29) dX2_readAsk_12 (by decide) ?_
    refine z_icmp_eq dX2_readAsk_14 rfl (fun c => absurd c (fun w => hc ((nI_eq (b := 29) (by omega) (by omega)).mp w))) (fun _ => ?_)
    refine z_aload_n dX2_readAsk_17 rfl rfl ?_
    refine z_iload_n dX2_readAsk_18 rfl rfl ?_
    refine y_callV (as := [_]) CX2_readComparison LX2_165 IX2_readComparison VX2_readComparison ⟨rfl, Nat.le_of_ble_eq_true rfl⟩ dX2_readAsk_19 cr.1 rfl (Nat.le_of_ble_eq_true rfl) (Nat.le_of_ble_eq_true rfl) (by omega) s1 rok_v (q.hg q1.1.1 hN hS) ?_
    refine z_goto dX2_readAsk_22 rfl ?_
    refine z_vret dX2_readAsk_56 ?_
    exact hQ

