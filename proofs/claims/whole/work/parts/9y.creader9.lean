/-! the class's reader: one along the descent (wip/whole/gen9y.py) -/
theorem c_mName {h0 : Hp} {K W : Nat → Nat} {so n f : Nat} (ct : CT h0 K W n) (hso : so ≤ 2) (hcl : pI h0 472 6 = nI (so + 1)) {i a z j d : Nat} {c e : Cd} {h : Hp} (q' : RQ h0 K n a 0 i c h) (hn : nm1 (K i) < 11) (hr : (if nm1 (K i) < 2 ∨ (nm1 (K i) < 5 ↔ so = 0) then some (0, i + 1, c ++ [(1, nm1 (K i))]) else some (5, i, c)) = some (z, j, e)) (hd : 1 ≤ d) : ∃ h1, Sp d mX2_readName [.ref 472, .int (nI (K i))] h none h1 ∧ RQ h0 K n a z j e h1 := by
  have q := q'.1.1
  have n3 := ct.2.2.1
  have cr := q.cr ct
  have k54 := ct.2.2.2.2.2.2 i
  have in1 := q.2.2.2.2.2.2.2.1
  have z9 := q.2.2.2.2.2.2.2.2
  have iN : i < n := ct.lt i (nm1_lt hn)
  have kc : K i = 10 ∨ K i = 30 ∨ K i = 4 ∨ K i = 31 ∨ K i = 11 ∨ K i = 32 ∨ K i = 12 ∨ K i = 33 ∨ K i = 16 ∨ K i = 34 ∨ K i = 35 := by
    by_cases w : K i = 10 ∨ K i = 30 ∨ K i = 4 ∨ K i = 31 ∨ K i = 11 ∨ K i = 32 ∨ K i = 12 ∨ K i = 33 ∨ K i = 16 ∨ K i = 34 ∨ K i = 35
    · exact w
    · exact absurd hn (nm1_no (by omega) (by omega))
  rcases kc with hk | hk | hk | hk | hk | hk | hk | hk | hk | hk | hk <;> rw [hk] at hr ⊢
  · have hv : nm1 10 = 0 := rfl
    rw [if_pos (Or.inl (by decide))] at hr
    cases hr
    obtain ⟨h1, s1, q1⟩ := c_em0 (d := 0) (o := 1) (v := 0) (x := - nI 10) ct q'.1 (by have := q'.2; omega) (by decide)
    obtain ⟨h2, s2, q2, k2⟩ := a_adv (d := 0) ct q1.1 iN
    have qe := (q1.mv q2 k2)
    refine ⟨h2, ?_, qe, by rw [len1]; have := q'.2; omega⟩
    intro N S Q hN hS hQ
    have hN : pn h0 ≤ N := ss_n q2.1 hN
    have hS : ps h0 ≤ S := ss_s q2.1 hS
    refine z_iload_n dX2_readName_0 rfl rfl ?_
    refine z_iconst (v := 4) dX2_readName_1 (by decide) ?_
    refine z_icmp_eq dX2_readName_2 rfl (fun c => absurd c (by decide)) (fun _ => ?_)
    refine z_iload_n dX2_readName_5 rfl rfl ?_
    refine z_bipush (v := 31) dX2_readName_6 (by decide) ?_
    refine z_icmp_eq dX2_readName_8 rfl (fun c => absurd c (by decide)) (fun _ => ?_)
    refine z_iload_n dX2_readName_11 rfl rfl ?_
    refine z_bipush (v := 11) dX2_readName_12 (by decide) ?_
    refine z_icmp_ne dX2_readName_14 rfl (fun _ => ?_) (fun c => absurd c (by decide))
    refine z_iconst (v := 0) dX2_readName_21 (by decide) ?_
    refine z_istore_n dX2_readName_22 rfl (Nat.le_of_ble_eq_true rfl) ?_
    refine z_iload_n dX2_readName_23 rfl rfl ?_
    refine z_bipush (v := 10) dX2_readName_24 (by decide) ?_
    refine z_icmp_eq dX2_readName_26 rfl (fun _ => ?_) (fun c => absurd (by decide) c)
    refine z_aload_n dX2_readName_60 rfl rfl ?_
    refine z_iload_n dX2_readName_61 rfl rfl ?_
    refine z_ineg dX2_readName_62 ?_
    refine y_callV (as := [_]) CX2_emit LX2_134 IX2_emit VX2_emit ⟨rfl, Nat.le_of_ble_eq_true rfl⟩ dX2_readName_63 cr.1 rfl (Nat.le_of_ble_eq_true rfl) (Nat.le_of_ble_eq_true rfl) (by omega) s1 rok_v (q.hg q1.1 hN hS) ?_
    refine z_aload_n dX2_readName_66 rfl rfl ?_
    refine y_callV (as := []) CX2_advance LX2_37 IX2_advance VX2_advance ⟨rfl, Nat.le_of_ble_eq_true rfl⟩ dX2_readName_67 ((q.ss q1.1).O cr.1) rfl (Nat.le_of_ble_eq_true rfl) (Nat.le_of_ble_eq_true rfl) (by omega) s2 rok_v (q1.1.hg q2 hN hS) ?_
    refine z_vret dX2_readName_70 ?_
    exact hQ
  · have hv : nm1 30 = 1 := rfl
    rw [if_pos (Or.inl (by decide))] at hr
    cases hr
    obtain ⟨h1, s1, q1⟩ := c_em0 (d := 0) (o := 1) (v := 1) (x := - nI 30) ct q'.1 (by have := q'.2; omega) (by decide)
    obtain ⟨h2, s2, q2, k2⟩ := a_adv (d := 0) ct q1.1 iN
    have qe := (q1.mv q2 k2)
    refine ⟨h2, ?_, qe, by rw [len1]; have := q'.2; omega⟩
    intro N S Q hN hS hQ
    have hN : pn h0 ≤ N := ss_n q2.1 hN
    have hS : ps h0 ≤ S := ss_s q2.1 hS
    refine z_iload_n dX2_readName_0 rfl rfl ?_
    refine z_iconst (v := 4) dX2_readName_1 (by decide) ?_
    refine z_icmp_eq dX2_readName_2 rfl (fun c => absurd c (by decide)) (fun _ => ?_)
    refine z_iload_n dX2_readName_5 rfl rfl ?_
    refine z_bipush (v := 31) dX2_readName_6 (by decide) ?_
    refine z_icmp_eq dX2_readName_8 rfl (fun c => absurd c (by decide)) (fun _ => ?_)
    refine z_iload_n dX2_readName_11 rfl rfl ?_
    refine z_bipush (v := 11) dX2_readName_12 (by decide) ?_
    refine z_icmp_ne dX2_readName_14 rfl (fun _ => ?_) (fun c => absurd c (by decide))
    refine z_iconst (v := 0) dX2_readName_21 (by decide) ?_
    refine z_istore_n dX2_readName_22 rfl (Nat.le_of_ble_eq_true rfl) ?_
    refine z_iload_n dX2_readName_23 rfl rfl ?_
    refine z_bipush (v := 10) dX2_readName_24 (by decide) ?_
    refine z_icmp_eq dX2_readName_26 rfl (fun c => absurd c (by decide)) (fun _ => ?_)
    refine z_iload_n dX2_readName_29 rfl rfl ?_
    refine z_bipush (v := 30) dX2_readName_30 (by decide) ?_
    refine z_icmp_eq dX2_readName_32 rfl (fun _ => ?_) (fun c => absurd (by decide) c)
    refine z_aload_n dX2_readName_60 rfl rfl ?_
    refine z_iload_n dX2_readName_61 rfl rfl ?_
    refine z_ineg dX2_readName_62 ?_
    refine y_callV (as := [_]) CX2_emit LX2_134 IX2_emit VX2_emit ⟨rfl, Nat.le_of_ble_eq_true rfl⟩ dX2_readName_63 cr.1 rfl (Nat.le_of_ble_eq_true rfl) (Nat.le_of_ble_eq_true rfl) (by omega) s1 rok_v (q.hg q1.1 hN hS) ?_
    refine z_aload_n dX2_readName_66 rfl rfl ?_
    refine y_callV (as := []) CX2_advance LX2_37 IX2_advance VX2_advance ⟨rfl, Nat.le_of_ble_eq_true rfl⟩ dX2_readName_67 ((q.ss q1.1).O cr.1) rfl (Nat.le_of_ble_eq_true rfl) (Nat.le_of_ble_eq_true rfl) (by omega) s2 rok_v (q1.1.hg q2 hN hS) ?_
    refine z_vret dX2_readName_70 ?_
    exact hQ
  · have hv : nm1 4 = 2 := rfl
    by_cases s0 : so = 0
    · rw [if_pos (Or.inr (by omega))] at hr
      cases hr
      obtain ⟨h1, s1, q1⟩ := c_em0 (d := 0) (o := 1) (v := 2) (x := - nI 4) ct q'.1 (by have := q'.2; omega) (by decide)
      obtain ⟨h2, s2, q2, k2⟩ := a_adv (d := 0) ct q1.1 iN
      have qe := (q1.mv q2 k2)
      refine ⟨h2, ?_, qe, by rw [len1]; have := q'.2; omega⟩
      intro N S Q hN hS hQ
      have hN : pn h0 ≤ N := ss_n q2.1 hN
      have hS : ps h0 ≤ S := ss_s q2.1 hS
      refine z_iload_n dX2_readName_0 rfl rfl ?_
      refine z_iconst (v := 4) dX2_readName_1 (by decide) ?_
      refine z_icmp_eq dX2_readName_2 rfl (fun _ => ?_) (fun c => absurd (by decide) c)
      refine z_iconst (v := 1) dX2_readName_17 (by decide) ?_
      refine z_goto dX2_readName_18 rfl ?_
      refine z_istore_n dX2_readName_22 rfl (Nat.le_of_ble_eq_true rfl) ?_
      refine z_iload_n dX2_readName_23 rfl rfl ?_
      refine z_bipush (v := 10) dX2_readName_24 (by decide) ?_
      refine z_icmp_eq dX2_readName_26 rfl (fun c => absurd c (by decide)) (fun _ => ?_)
      refine z_iload_n dX2_readName_29 rfl rfl ?_
      refine z_bipush (v := 30) dX2_readName_30 (by decide) ?_
      refine z_icmp_eq dX2_readName_32 rfl (fun c => absurd c (by decide)) (fun _ => ?_)
      refine z_iload_n dX2_readName_35 rfl rfl ?_
      refine z_aload_n dX2_readName_36 rfl rfl ?_
      refine y_getI FX2_102 dX2_readName_37 (Or.inl rfl) cr.1 ?_
      refine z_eqi (y := nI (so + 1)) (show _ = nI (so + 1) by rw [q.2.2.2.1 6 (by omega)]; exact hcl) ?_
      refine z_iconst (v := 1) dX2_readName_40 (by decide) ?_
      refine z_icmp_ne dX2_readName_41 rfl (fun c => absurd (congrArg (fun x => nI (x + 1)) s0) c) (fun _ => ?_)
      refine z_iconst (v := 1) dX2_readName_44 (by decide) ?_
      refine z_goto dX2_readName_45 rfl ?_
      refine z_icmp_eq dX2_readName_49 rfl (fun _ => ?_) (fun c => absurd (by decide) c)
      refine z_aload_n dX2_readName_60 rfl rfl ?_
      refine z_iload_n dX2_readName_61 rfl rfl ?_
      refine z_ineg dX2_readName_62 ?_
      refine y_callV (as := [_]) CX2_emit LX2_134 IX2_emit VX2_emit ⟨rfl, Nat.le_of_ble_eq_true rfl⟩ dX2_readName_63 cr.1 rfl (Nat.le_of_ble_eq_true rfl) (Nat.le_of_ble_eq_true rfl) (by omega) s1 rok_v (q.hg q1.1 hN hS) ?_
      refine z_aload_n dX2_readName_66 rfl rfl ?_
      refine y_callV (as := []) CX2_advance LX2_37 IX2_advance VX2_advance ⟨rfl, Nat.le_of_ble_eq_true rfl⟩ dX2_readName_67 ((q.ss q1.1).O cr.1) rfl (Nat.le_of_ble_eq_true rfl) (Nat.le_of_ble_eq_true rfl) (by omega) s2 rok_v (q1.1.hg q2 hN hS) ?_
      refine z_vret dX2_readName_70 ?_
      exact hQ
    · rw [if_neg (by omega)] at hr
      cases hr
      obtain ⟨h1, s1, q1, k1⟩ := a_bl0 (d := 0) (w := 5) ct q (by omega)
      refine ⟨h1, ?_, q'.mv q1 k1 q'.2⟩
      intro N S Q hN hS hQ
      have hN : pn h0 ≤ N := ss_n q1.1 hN
      have hS : ps h0 ≤ S := ss_s q1.1 hS
      refine z_iload_n dX2_readName_0 rfl rfl ?_
      refine z_iconst (v := 4) dX2_readName_1 (by decide) ?_
      refine z_icmp_eq dX2_readName_2 rfl (fun _ => ?_) (fun c => absurd (by decide) c)
      refine z_iconst (v := 1) dX2_readName_17 (by decide) ?_
      refine z_goto dX2_readName_18 rfl ?_
      refine z_istore_n dX2_readName_22 rfl (Nat.le_of_ble_eq_true rfl) ?_
      refine z_iload_n dX2_readName_23 rfl rfl ?_
      refine z_bipush (v := 10) dX2_readName_24 (by decide) ?_
      refine z_icmp_eq dX2_readName_26 rfl (fun c => absurd c (by decide)) (fun _ => ?_)
      refine z_iload_n dX2_readName_29 rfl rfl ?_
      refine z_bipush (v := 30) dX2_readName_30 (by decide) ?_
      refine z_icmp_eq dX2_readName_32 rfl (fun c => absurd c (by decide)) (fun _ => ?_)
      refine z_iload_n dX2_readName_35 rfl rfl ?_
      refine z_aload_n dX2_readName_36 rfl rfl ?_
      refine y_getI FX2_102 dX2_readName_37 (Or.inl rfl) cr.1 ?_
      refine z_eqi (y := nI (so + 1)) (show _ = nI (so + 1) by rw [q.2.2.2.1 6 (by omega)]; exact hcl) ?_
      refine z_iconst (v := 1) dX2_readName_40 (by decide) ?_
      refine z_icmp_ne dX2_readName_41 rfl (fun _ => ?_) (fun c => absurd c (fun w => s0 (by have := (nI_eq (b := 1) (by omega) (by omega)).mp w; omega)))
      refine z_iconst (v := 0) dX2_readName_48 (by decide) ?_
      refine z_icmp_eq dX2_readName_49 rfl (fun c => absurd c (by decide)) (fun _ => ?_)
      refine z_aload_n dX2_readName_52 rfl rfl ?_
      refine z_iconst (v := 5) dX2_readName_53 (by decide) ?_
      refine y_callV (as := [_]) CX2_blame LX2_59 IX2_blame VX2_blame ⟨rfl, Nat.le_of_ble_eq_true rfl⟩ dX2_readName_54 cr.1 rfl (Nat.le_of_ble_eq_true rfl) (Nat.le_of_ble_eq_true rfl) (by omega) s1 rok_v (q.hg q1 hN hS) ?_
      refine z_goto dX2_readName_57 rfl ?_
      refine z_vret dX2_readName_70 ?_
      exact hQ
  · have hv : nm1 31 = 3 := rfl
    by_cases s0 : so = 0
    · rw [if_pos (Or.inr (by omega))] at hr
      cases hr
      obtain ⟨h1, s1, q1⟩ := c_em0 (d := 0) (o := 1) (v := 3) (x := - nI 31) ct q'.1 (by have := q'.2; omega) (by decide)
      obtain ⟨h2, s2, q2, k2⟩ := a_adv (d := 0) ct q1.1 iN
      have qe := (q1.mv q2 k2)
      refine ⟨h2, ?_, qe, by rw [len1]; have := q'.2; omega⟩
      intro N S Q hN hS hQ
      have hN : pn h0 ≤ N := ss_n q2.1 hN
      have hS : ps h0 ≤ S := ss_s q2.1 hS
      refine z_iload_n dX2_readName_0 rfl rfl ?_
      refine z_iconst (v := 4) dX2_readName_1 (by decide) ?_
      refine z_icmp_eq dX2_readName_2 rfl (fun c => absurd c (by decide)) (fun _ => ?_)
      refine z_iload_n dX2_readName_5 rfl rfl ?_
      refine z_bipush (v := 31) dX2_readName_6 (by decide) ?_
      refine z_icmp_eq dX2_readName_8 rfl (fun _ => ?_) (fun c => absurd (by decide) c)
      refine z_iconst (v := 1) dX2_readName_17 (by decide) ?_
      refine z_goto dX2_readName_18 rfl ?_
      refine z_istore_n dX2_readName_22 rfl (Nat.le_of_ble_eq_true rfl) ?_
      refine z_iload_n dX2_readName_23 rfl rfl ?_
      refine z_bipush (v := 10) dX2_readName_24 (by decide) ?_
      refine z_icmp_eq dX2_readName_26 rfl (fun c => absurd c (by decide)) (fun _ => ?_)
      refine z_iload_n dX2_readName_29 rfl rfl ?_
      refine z_bipush (v := 30) dX2_readName_30 (by decide) ?_
      refine z_icmp_eq dX2_readName_32 rfl (fun c => absurd c (by decide)) (fun _ => ?_)
      refine z_iload_n dX2_readName_35 rfl rfl ?_
      refine z_aload_n dX2_readName_36 rfl rfl ?_
      refine y_getI FX2_102 dX2_readName_37 (Or.inl rfl) cr.1 ?_
      refine z_eqi (y := nI (so + 1)) (show _ = nI (so + 1) by rw [q.2.2.2.1 6 (by omega)]; exact hcl) ?_
      refine z_iconst (v := 1) dX2_readName_40 (by decide) ?_
      refine z_icmp_ne dX2_readName_41 rfl (fun c => absurd (congrArg (fun x => nI (x + 1)) s0) c) (fun _ => ?_)
      refine z_iconst (v := 1) dX2_readName_44 (by decide) ?_
      refine z_goto dX2_readName_45 rfl ?_
      refine z_icmp_eq dX2_readName_49 rfl (fun _ => ?_) (fun c => absurd (by decide) c)
      refine z_aload_n dX2_readName_60 rfl rfl ?_
      refine z_iload_n dX2_readName_61 rfl rfl ?_
      refine z_ineg dX2_readName_62 ?_
      refine y_callV (as := [_]) CX2_emit LX2_134 IX2_emit VX2_emit ⟨rfl, Nat.le_of_ble_eq_true rfl⟩ dX2_readName_63 cr.1 rfl (Nat.le_of_ble_eq_true rfl) (Nat.le_of_ble_eq_true rfl) (by omega) s1 rok_v (q.hg q1.1 hN hS) ?_
      refine z_aload_n dX2_readName_66 rfl rfl ?_
      refine y_callV (as := []) CX2_advance LX2_37 IX2_advance VX2_advance ⟨rfl, Nat.le_of_ble_eq_true rfl⟩ dX2_readName_67 ((q.ss q1.1).O cr.1) rfl (Nat.le_of_ble_eq_true rfl) (Nat.le_of_ble_eq_true rfl) (by omega) s2 rok_v (q1.1.hg q2 hN hS) ?_
      refine z_vret dX2_readName_70 ?_
      exact hQ
    · rw [if_neg (by omega)] at hr
      cases hr
      obtain ⟨h1, s1, q1, k1⟩ := a_bl0 (d := 0) (w := 5) ct q (by omega)
      refine ⟨h1, ?_, q'.mv q1 k1 q'.2⟩
      intro N S Q hN hS hQ
      have hN : pn h0 ≤ N := ss_n q1.1 hN
      have hS : ps h0 ≤ S := ss_s q1.1 hS
      refine z_iload_n dX2_readName_0 rfl rfl ?_
      refine z_iconst (v := 4) dX2_readName_1 (by decide) ?_
      refine z_icmp_eq dX2_readName_2 rfl (fun c => absurd c (by decide)) (fun _ => ?_)
      refine z_iload_n dX2_readName_5 rfl rfl ?_
      refine z_bipush (v := 31) dX2_readName_6 (by decide) ?_
      refine z_icmp_eq dX2_readName_8 rfl (fun _ => ?_) (fun c => absurd (by decide) c)
      refine z_iconst (v := 1) dX2_readName_17 (by decide) ?_
      refine z_goto dX2_readName_18 rfl ?_
      refine z_istore_n dX2_readName_22 rfl (Nat.le_of_ble_eq_true rfl) ?_
      refine z_iload_n dX2_readName_23 rfl rfl ?_
      refine z_bipush (v := 10) dX2_readName_24 (by decide) ?_
      refine z_icmp_eq dX2_readName_26 rfl (fun c => absurd c (by decide)) (fun _ => ?_)
      refine z_iload_n dX2_readName_29 rfl rfl ?_
      refine z_bipush (v := 30) dX2_readName_30 (by decide) ?_
      refine z_icmp_eq dX2_readName_32 rfl (fun c => absurd c (by decide)) (fun _ => ?_)
      refine z_iload_n dX2_readName_35 rfl rfl ?_
      refine z_aload_n dX2_readName_36 rfl rfl ?_
      refine y_getI FX2_102 dX2_readName_37 (Or.inl rfl) cr.1 ?_
      refine z_eqi (y := nI (so + 1)) (show _ = nI (so + 1) by rw [q.2.2.2.1 6 (by omega)]; exact hcl) ?_
      refine z_iconst (v := 1) dX2_readName_40 (by decide) ?_
      refine z_icmp_ne dX2_readName_41 rfl (fun _ => ?_) (fun c => absurd c (fun w => s0 (by have := (nI_eq (b := 1) (by omega) (by omega)).mp w; omega)))
      refine z_iconst (v := 0) dX2_readName_48 (by decide) ?_
      refine z_icmp_eq dX2_readName_49 rfl (fun c => absurd c (by decide)) (fun _ => ?_)
      refine z_aload_n dX2_readName_52 rfl rfl ?_
      refine z_iconst (v := 5) dX2_readName_53 (by decide) ?_
      refine y_callV (as := [_]) CX2_blame LX2_59 IX2_blame VX2_blame ⟨rfl, Nat.le_of_ble_eq_true rfl⟩ dX2_readName_54 cr.1 rfl (Nat.le_of_ble_eq_true rfl) (Nat.le_of_ble_eq_true rfl) (by omega) s1 rok_v (q.hg q1 hN hS) ?_
      refine z_goto dX2_readName_57 rfl ?_
      refine z_vret dX2_readName_70 ?_
      exact hQ
  · have hv : nm1 11 = 4 := rfl
    by_cases s0 : so = 0
    · rw [if_pos (Or.inr (by omega))] at hr
      cases hr
      obtain ⟨h1, s1, q1⟩ := c_em0 (d := 0) (o := 1) (v := 4) (x := - nI 11) ct q'.1 (by have := q'.2; omega) (by decide)
      obtain ⟨h2, s2, q2, k2⟩ := a_adv (d := 0) ct q1.1 iN
      have qe := (q1.mv q2 k2)
      refine ⟨h2, ?_, qe, by rw [len1]; have := q'.2; omega⟩
      intro N S Q hN hS hQ
      have hN : pn h0 ≤ N := ss_n q2.1 hN
      have hS : ps h0 ≤ S := ss_s q2.1 hS
      refine z_iload_n dX2_readName_0 rfl rfl ?_
      refine z_iconst (v := 4) dX2_readName_1 (by decide) ?_
      refine z_icmp_eq dX2_readName_2 rfl (fun c => absurd c (by decide)) (fun _ => ?_)
      refine z_iload_n dX2_readName_5 rfl rfl ?_
      refine z_bipush (v := 31) dX2_readName_6 (by decide) ?_
      refine z_icmp_eq dX2_readName_8 rfl (fun c => absurd c (by decide)) (fun _ => ?_)
      refine z_iload_n dX2_readName_11 rfl rfl ?_
      refine z_bipush (v := 11) dX2_readName_12 (by decide) ?_
      refine z_icmp_ne dX2_readName_14 rfl (fun c => absurd (by decide) c) (fun _ => ?_)
      refine z_iconst (v := 1) dX2_readName_17 (by decide) ?_
      refine z_goto dX2_readName_18 rfl ?_
      refine z_istore_n dX2_readName_22 rfl (Nat.le_of_ble_eq_true rfl) ?_
      refine z_iload_n dX2_readName_23 rfl rfl ?_
      refine z_bipush (v := 10) dX2_readName_24 (by decide) ?_
      refine z_icmp_eq dX2_readName_26 rfl (fun c => absurd c (by decide)) (fun _ => ?_)
      refine z_iload_n dX2_readName_29 rfl rfl ?_
      refine z_bipush (v := 30) dX2_readName_30 (by decide) ?_
      refine z_icmp_eq dX2_readName_32 rfl (fun c => absurd c (by decide)) (fun _ => ?_)
      refine z_iload_n dX2_readName_35 rfl rfl ?_
      refine z_aload_n dX2_readName_36 rfl rfl ?_
      refine y_getI FX2_102 dX2_readName_37 (Or.inl rfl) cr.1 ?_
      refine z_eqi (y := nI (so + 1)) (show _ = nI (so + 1) by rw [q.2.2.2.1 6 (by omega)]; exact hcl) ?_
      refine z_iconst (v := 1) dX2_readName_40 (by decide) ?_
      refine z_icmp_ne dX2_readName_41 rfl (fun c => absurd (congrArg (fun x => nI (x + 1)) s0) c) (fun _ => ?_)
      refine z_iconst (v := 1) dX2_readName_44 (by decide) ?_
      refine z_goto dX2_readName_45 rfl ?_
      refine z_icmp_eq dX2_readName_49 rfl (fun _ => ?_) (fun c => absurd (by decide) c)
      refine z_aload_n dX2_readName_60 rfl rfl ?_
      refine z_iload_n dX2_readName_61 rfl rfl ?_
      refine z_ineg dX2_readName_62 ?_
      refine y_callV (as := [_]) CX2_emit LX2_134 IX2_emit VX2_emit ⟨rfl, Nat.le_of_ble_eq_true rfl⟩ dX2_readName_63 cr.1 rfl (Nat.le_of_ble_eq_true rfl) (Nat.le_of_ble_eq_true rfl) (by omega) s1 rok_v (q.hg q1.1 hN hS) ?_
      refine z_aload_n dX2_readName_66 rfl rfl ?_
      refine y_callV (as := []) CX2_advance LX2_37 IX2_advance VX2_advance ⟨rfl, Nat.le_of_ble_eq_true rfl⟩ dX2_readName_67 ((q.ss q1.1).O cr.1) rfl (Nat.le_of_ble_eq_true rfl) (Nat.le_of_ble_eq_true rfl) (by omega) s2 rok_v (q1.1.hg q2 hN hS) ?_
      refine z_vret dX2_readName_70 ?_
      exact hQ
    · rw [if_neg (by omega)] at hr
      cases hr
      obtain ⟨h1, s1, q1, k1⟩ := a_bl0 (d := 0) (w := 5) ct q (by omega)
      refine ⟨h1, ?_, q'.mv q1 k1 q'.2⟩
      intro N S Q hN hS hQ
      have hN : pn h0 ≤ N := ss_n q1.1 hN
      have hS : ps h0 ≤ S := ss_s q1.1 hS
      refine z_iload_n dX2_readName_0 rfl rfl ?_
      refine z_iconst (v := 4) dX2_readName_1 (by decide) ?_
      refine z_icmp_eq dX2_readName_2 rfl (fun c => absurd c (by decide)) (fun _ => ?_)
      refine z_iload_n dX2_readName_5 rfl rfl ?_
      refine z_bipush (v := 31) dX2_readName_6 (by decide) ?_
      refine z_icmp_eq dX2_readName_8 rfl (fun c => absurd c (by decide)) (fun _ => ?_)
      refine z_iload_n dX2_readName_11 rfl rfl ?_
      refine z_bipush (v := 11) dX2_readName_12 (by decide) ?_
      refine z_icmp_ne dX2_readName_14 rfl (fun c => absurd (by decide) c) (fun _ => ?_)
      refine z_iconst (v := 1) dX2_readName_17 (by decide) ?_
      refine z_goto dX2_readName_18 rfl ?_
      refine z_istore_n dX2_readName_22 rfl (Nat.le_of_ble_eq_true rfl) ?_
      refine z_iload_n dX2_readName_23 rfl rfl ?_
      refine z_bipush (v := 10) dX2_readName_24 (by decide) ?_
      refine z_icmp_eq dX2_readName_26 rfl (fun c => absurd c (by decide)) (fun _ => ?_)
      refine z_iload_n dX2_readName_29 rfl rfl ?_
      refine z_bipush (v := 30) dX2_readName_30 (by decide) ?_
      refine z_icmp_eq dX2_readName_32 rfl (fun c => absurd c (by decide)) (fun _ => ?_)
      refine z_iload_n dX2_readName_35 rfl rfl ?_
      refine z_aload_n dX2_readName_36 rfl rfl ?_
      refine y_getI FX2_102 dX2_readName_37 (Or.inl rfl) cr.1 ?_
      refine z_eqi (y := nI (so + 1)) (show _ = nI (so + 1) by rw [q.2.2.2.1 6 (by omega)]; exact hcl) ?_
      refine z_iconst (v := 1) dX2_readName_40 (by decide) ?_
      refine z_icmp_ne dX2_readName_41 rfl (fun _ => ?_) (fun c => absurd c (fun w => s0 (by have := (nI_eq (b := 1) (by omega) (by omega)).mp w; omega)))
      refine z_iconst (v := 0) dX2_readName_48 (by decide) ?_
      refine z_icmp_eq dX2_readName_49 rfl (fun c => absurd c (by decide)) (fun _ => ?_)
      refine z_aload_n dX2_readName_52 rfl rfl ?_
      refine z_iconst (v := 5) dX2_readName_53 (by decide) ?_
      refine y_callV (as := [_]) CX2_blame LX2_59 IX2_blame VX2_blame ⟨rfl, Nat.le_of_ble_eq_true rfl⟩ dX2_readName_54 cr.1 rfl (Nat.le_of_ble_eq_true rfl) (Nat.le_of_ble_eq_true rfl) (by omega) s1 rok_v (q.hg q1 hN hS) ?_
      refine z_goto dX2_readName_57 rfl ?_
      refine z_vret dX2_readName_70 ?_
      exact hQ
  · have hv : nm1 32 = 5 := rfl
    by_cases s0 : so = 0
    · rw [if_neg (by omega)] at hr
      cases hr
      obtain ⟨h1, s1, q1, k1⟩ := a_bl0 (d := 0) (w := 5) ct q (by omega)
      refine ⟨h1, ?_, q'.mv q1 k1 q'.2⟩
      intro N S Q hN hS hQ
      have hN : pn h0 ≤ N := ss_n q1.1 hN
      have hS : ps h0 ≤ S := ss_s q1.1 hS
      refine z_iload_n dX2_readName_0 rfl rfl ?_
      refine z_iconst (v := 4) dX2_readName_1 (by decide) ?_
      refine z_icmp_eq dX2_readName_2 rfl (fun c => absurd c (by decide)) (fun _ => ?_)
      refine z_iload_n dX2_readName_5 rfl rfl ?_
      refine z_bipush (v := 31) dX2_readName_6 (by decide) ?_
      refine z_icmp_eq dX2_readName_8 rfl (fun c => absurd c (by decide)) (fun _ => ?_)
      refine z_iload_n dX2_readName_11 rfl rfl ?_
      refine z_bipush (v := 11) dX2_readName_12 (by decide) ?_
      refine z_icmp_ne dX2_readName_14 rfl (fun _ => ?_) (fun c => absurd c (by decide))
      refine z_iconst (v := 0) dX2_readName_21 (by decide) ?_
      refine z_istore_n dX2_readName_22 rfl (Nat.le_of_ble_eq_true rfl) ?_
      refine z_iload_n dX2_readName_23 rfl rfl ?_
      refine z_bipush (v := 10) dX2_readName_24 (by decide) ?_
      refine z_icmp_eq dX2_readName_26 rfl (fun c => absurd c (by decide)) (fun _ => ?_)
      refine z_iload_n dX2_readName_29 rfl rfl ?_
      refine z_bipush (v := 30) dX2_readName_30 (by decide) ?_
      refine z_icmp_eq dX2_readName_32 rfl (fun c => absurd c (by decide)) (fun _ => ?_)
      refine z_iload_n dX2_readName_35 rfl rfl ?_
      refine z_aload_n dX2_readName_36 rfl rfl ?_
      refine y_getI FX2_102 dX2_readName_37 (Or.inl rfl) cr.1 ?_
      refine z_eqi (y := nI (so + 1)) (show _ = nI (so + 1) by rw [q.2.2.2.1 6 (by omega)]; exact hcl) ?_
      refine z_iconst (v := 1) dX2_readName_40 (by decide) ?_
      refine z_icmp_ne dX2_readName_41 rfl (fun c => absurd (congrArg (fun x => nI (x + 1)) s0) c) (fun _ => ?_)
      refine z_iconst (v := 1) dX2_readName_44 (by decide) ?_
      refine z_goto dX2_readName_45 rfl ?_
      refine z_icmp_eq dX2_readName_49 rfl (fun c => absurd c (by decide)) (fun _ => ?_)
      refine z_aload_n dX2_readName_52 rfl rfl ?_
      refine z_iconst (v := 5) dX2_readName_53 (by decide) ?_
      refine y_callV (as := [_]) CX2_blame LX2_59 IX2_blame VX2_blame ⟨rfl, Nat.le_of_ble_eq_true rfl⟩ dX2_readName_54 cr.1 rfl (Nat.le_of_ble_eq_true rfl) (Nat.le_of_ble_eq_true rfl) (by omega) s1 rok_v (q.hg q1 hN hS) ?_
      refine z_goto dX2_readName_57 rfl ?_
      refine z_vret dX2_readName_70 ?_
      exact hQ
    · rw [if_pos (Or.inr (by omega))] at hr
      cases hr
      obtain ⟨h1, s1, q1⟩ := c_em0 (d := 0) (o := 1) (v := 5) (x := - nI 32) ct q'.1 (by have := q'.2; omega) (by decide)
      obtain ⟨h2, s2, q2, k2⟩ := a_adv (d := 0) ct q1.1 iN
      have qe := (q1.mv q2 k2)
      refine ⟨h2, ?_, qe, by rw [len1]; have := q'.2; omega⟩
      intro N S Q hN hS hQ
      have hN : pn h0 ≤ N := ss_n q2.1 hN
      have hS : ps h0 ≤ S := ss_s q2.1 hS
      refine z_iload_n dX2_readName_0 rfl rfl ?_
      refine z_iconst (v := 4) dX2_readName_1 (by decide) ?_
      refine z_icmp_eq dX2_readName_2 rfl (fun c => absurd c (by decide)) (fun _ => ?_)
      refine z_iload_n dX2_readName_5 rfl rfl ?_
      refine z_bipush (v := 31) dX2_readName_6 (by decide) ?_
      refine z_icmp_eq dX2_readName_8 rfl (fun c => absurd c (by decide)) (fun _ => ?_)
      refine z_iload_n dX2_readName_11 rfl rfl ?_
      refine z_bipush (v := 11) dX2_readName_12 (by decide) ?_
      refine z_icmp_ne dX2_readName_14 rfl (fun _ => ?_) (fun c => absurd c (by decide))
      refine z_iconst (v := 0) dX2_readName_21 (by decide) ?_
      refine z_istore_n dX2_readName_22 rfl (Nat.le_of_ble_eq_true rfl) ?_
      refine z_iload_n dX2_readName_23 rfl rfl ?_
      refine z_bipush (v := 10) dX2_readName_24 (by decide) ?_
      refine z_icmp_eq dX2_readName_26 rfl (fun c => absurd c (by decide)) (fun _ => ?_)
      refine z_iload_n dX2_readName_29 rfl rfl ?_
      refine z_bipush (v := 30) dX2_readName_30 (by decide) ?_
      refine z_icmp_eq dX2_readName_32 rfl (fun c => absurd c (by decide)) (fun _ => ?_)
      refine z_iload_n dX2_readName_35 rfl rfl ?_
      refine z_aload_n dX2_readName_36 rfl rfl ?_
      refine y_getI FX2_102 dX2_readName_37 (Or.inl rfl) cr.1 ?_
      refine z_eqi (y := nI (so + 1)) (show _ = nI (so + 1) by rw [q.2.2.2.1 6 (by omega)]; exact hcl) ?_
      refine z_iconst (v := 1) dX2_readName_40 (by decide) ?_
      refine z_icmp_ne dX2_readName_41 rfl (fun _ => ?_) (fun c => absurd c (fun w => s0 (by have := (nI_eq (b := 1) (by omega) (by omega)).mp w; omega)))
      refine z_iconst (v := 0) dX2_readName_48 (by decide) ?_
      refine z_icmp_eq dX2_readName_49 rfl (fun _ => ?_) (fun c => absurd (by decide) c)
      refine z_aload_n dX2_readName_60 rfl rfl ?_
      refine z_iload_n dX2_readName_61 rfl rfl ?_
      refine z_ineg dX2_readName_62 ?_
      refine y_callV (as := [_]) CX2_emit LX2_134 IX2_emit VX2_emit ⟨rfl, Nat.le_of_ble_eq_true rfl⟩ dX2_readName_63 cr.1 rfl (Nat.le_of_ble_eq_true rfl) (Nat.le_of_ble_eq_true rfl) (by omega) s1 rok_v (q.hg q1.1 hN hS) ?_
      refine z_aload_n dX2_readName_66 rfl rfl ?_
      refine y_callV (as := []) CX2_advance LX2_37 IX2_advance VX2_advance ⟨rfl, Nat.le_of_ble_eq_true rfl⟩ dX2_readName_67 ((q.ss q1.1).O cr.1) rfl (Nat.le_of_ble_eq_true rfl) (Nat.le_of_ble_eq_true rfl) (by omega) s2 rok_v (q1.1.hg q2 hN hS) ?_
      refine z_vret dX2_readName_70 ?_
      exact hQ
  · have hv : nm1 12 = 6 := rfl
    by_cases s0 : so = 0
    · rw [if_neg (by omega)] at hr
      cases hr
      obtain ⟨h1, s1, q1, k1⟩ := a_bl0 (d := 0) (w := 5) ct q (by omega)
      refine ⟨h1, ?_, q'.mv q1 k1 q'.2⟩
      intro N S Q hN hS hQ
      have hN : pn h0 ≤ N := ss_n q1.1 hN
      have hS : ps h0 ≤ S := ss_s q1.1 hS
      refine z_iload_n dX2_readName_0 rfl rfl ?_
      refine z_iconst (v := 4) dX2_readName_1 (by decide) ?_
      refine z_icmp_eq dX2_readName_2 rfl (fun c => absurd c (by decide)) (fun _ => ?_)
      refine z_iload_n dX2_readName_5 rfl rfl ?_
      refine z_bipush (v := 31) dX2_readName_6 (by decide) ?_
      refine z_icmp_eq dX2_readName_8 rfl (fun c => absurd c (by decide)) (fun _ => ?_)
      refine z_iload_n dX2_readName_11 rfl rfl ?_
      refine z_bipush (v := 11) dX2_readName_12 (by decide) ?_
      refine z_icmp_ne dX2_readName_14 rfl (fun _ => ?_) (fun c => absurd c (by decide))
      refine z_iconst (v := 0) dX2_readName_21 (by decide) ?_
      refine z_istore_n dX2_readName_22 rfl (Nat.le_of_ble_eq_true rfl) ?_
      refine z_iload_n dX2_readName_23 rfl rfl ?_
      refine z_bipush (v := 10) dX2_readName_24 (by decide) ?_
      refine z_icmp_eq dX2_readName_26 rfl (fun c => absurd c (by decide)) (fun _ => ?_)
      refine z_iload_n dX2_readName_29 rfl rfl ?_
      refine z_bipush (v := 30) dX2_readName_30 (by decide) ?_
      refine z_icmp_eq dX2_readName_32 rfl (fun c => absurd c (by decide)) (fun _ => ?_)
      refine z_iload_n dX2_readName_35 rfl rfl ?_
      refine z_aload_n dX2_readName_36 rfl rfl ?_
      refine y_getI FX2_102 dX2_readName_37 (Or.inl rfl) cr.1 ?_
      refine z_eqi (y := nI (so + 1)) (show _ = nI (so + 1) by rw [q.2.2.2.1 6 (by omega)]; exact hcl) ?_
      refine z_iconst (v := 1) dX2_readName_40 (by decide) ?_
      refine z_icmp_ne dX2_readName_41 rfl (fun c => absurd (congrArg (fun x => nI (x + 1)) s0) c) (fun _ => ?_)
      refine z_iconst (v := 1) dX2_readName_44 (by decide) ?_
      refine z_goto dX2_readName_45 rfl ?_
      refine z_icmp_eq dX2_readName_49 rfl (fun c => absurd c (by decide)) (fun _ => ?_)
      refine z_aload_n dX2_readName_52 rfl rfl ?_
      refine z_iconst (v := 5) dX2_readName_53 (by decide) ?_
      refine y_callV (as := [_]) CX2_blame LX2_59 IX2_blame VX2_blame ⟨rfl, Nat.le_of_ble_eq_true rfl⟩ dX2_readName_54 cr.1 rfl (Nat.le_of_ble_eq_true rfl) (Nat.le_of_ble_eq_true rfl) (by omega) s1 rok_v (q.hg q1 hN hS) ?_
      refine z_goto dX2_readName_57 rfl ?_
      refine z_vret dX2_readName_70 ?_
      exact hQ
    · rw [if_pos (Or.inr (by omega))] at hr
      cases hr
      obtain ⟨h1, s1, q1⟩ := c_em0 (d := 0) (o := 1) (v := 6) (x := - nI 12) ct q'.1 (by have := q'.2; omega) (by decide)
      obtain ⟨h2, s2, q2, k2⟩ := a_adv (d := 0) ct q1.1 iN
      have qe := (q1.mv q2 k2)
      refine ⟨h2, ?_, qe, by rw [len1]; have := q'.2; omega⟩
      intro N S Q hN hS hQ
      have hN : pn h0 ≤ N := ss_n q2.1 hN
      have hS : ps h0 ≤ S := ss_s q2.1 hS
      refine z_iload_n dX2_readName_0 rfl rfl ?_
      refine z_iconst (v := 4) dX2_readName_1 (by decide) ?_
      refine z_icmp_eq dX2_readName_2 rfl (fun c => absurd c (by decide)) (fun _ => ?_)
      refine z_iload_n dX2_readName_5 rfl rfl ?_
      refine z_bipush (v := 31) dX2_readName_6 (by decide) ?_
      refine z_icmp_eq dX2_readName_8 rfl (fun c => absurd c (by decide)) (fun _ => ?_)
      refine z_iload_n dX2_readName_11 rfl rfl ?_
      refine z_bipush (v := 11) dX2_readName_12 (by decide) ?_
      refine z_icmp_ne dX2_readName_14 rfl (fun _ => ?_) (fun c => absurd c (by decide))
      refine z_iconst (v := 0) dX2_readName_21 (by decide) ?_
      refine z_istore_n dX2_readName_22 rfl (Nat.le_of_ble_eq_true rfl) ?_
      refine z_iload_n dX2_readName_23 rfl rfl ?_
      refine z_bipush (v := 10) dX2_readName_24 (by decide) ?_
      refine z_icmp_eq dX2_readName_26 rfl (fun c => absurd c (by decide)) (fun _ => ?_)
      refine z_iload_n dX2_readName_29 rfl rfl ?_
      refine z_bipush (v := 30) dX2_readName_30 (by decide) ?_
      refine z_icmp_eq dX2_readName_32 rfl (fun c => absurd c (by decide)) (fun _ => ?_)
      refine z_iload_n dX2_readName_35 rfl rfl ?_
      refine z_aload_n dX2_readName_36 rfl rfl ?_
      refine y_getI FX2_102 dX2_readName_37 (Or.inl rfl) cr.1 ?_
      refine z_eqi (y := nI (so + 1)) (show _ = nI (so + 1) by rw [q.2.2.2.1 6 (by omega)]; exact hcl) ?_
      refine z_iconst (v := 1) dX2_readName_40 (by decide) ?_
      refine z_icmp_ne dX2_readName_41 rfl (fun _ => ?_) (fun c => absurd c (fun w => s0 (by have := (nI_eq (b := 1) (by omega) (by omega)).mp w; omega)))
      refine z_iconst (v := 0) dX2_readName_48 (by decide) ?_
      refine z_icmp_eq dX2_readName_49 rfl (fun _ => ?_) (fun c => absurd (by decide) c)
      refine z_aload_n dX2_readName_60 rfl rfl ?_
      refine z_iload_n dX2_readName_61 rfl rfl ?_
      refine z_ineg dX2_readName_62 ?_
      refine y_callV (as := [_]) CX2_emit LX2_134 IX2_emit VX2_emit ⟨rfl, Nat.le_of_ble_eq_true rfl⟩ dX2_readName_63 cr.1 rfl (Nat.le_of_ble_eq_true rfl) (Nat.le_of_ble_eq_true rfl) (by omega) s1 rok_v (q.hg q1.1 hN hS) ?_
      refine z_aload_n dX2_readName_66 rfl rfl ?_
      refine y_callV (as := []) CX2_advance LX2_37 IX2_advance VX2_advance ⟨rfl, Nat.le_of_ble_eq_true rfl⟩ dX2_readName_67 ((q.ss q1.1).O cr.1) rfl (Nat.le_of_ble_eq_true rfl) (Nat.le_of_ble_eq_true rfl) (by omega) s2 rok_v (q1.1.hg q2 hN hS) ?_
      refine z_vret dX2_readName_70 ?_
      exact hQ
  · have hv : nm1 33 = 7 := rfl
    by_cases s0 : so = 0
    · rw [if_neg (by omega)] at hr
      cases hr
      obtain ⟨h1, s1, q1, k1⟩ := a_bl0 (d := 0) (w := 5) ct q (by omega)
      refine ⟨h1, ?_, q'.mv q1 k1 q'.2⟩
      intro N S Q hN hS hQ
      have hN : pn h0 ≤ N := ss_n q1.1 hN
      have hS : ps h0 ≤ S := ss_s q1.1 hS
      refine z_iload_n dX2_readName_0 rfl rfl ?_
      refine z_iconst (v := 4) dX2_readName_1 (by decide) ?_
      refine z_icmp_eq dX2_readName_2 rfl (fun c => absurd c (by decide)) (fun _ => ?_)
      refine z_iload_n dX2_readName_5 rfl rfl ?_
      refine z_bipush (v := 31) dX2_readName_6 (by decide) ?_
      refine z_icmp_eq dX2_readName_8 rfl (fun c => absurd c (by decide)) (fun _ => ?_)
      refine z_iload_n dX2_readName_11 rfl rfl ?_
      refine z_bipush (v := 11) dX2_readName_12 (by decide) ?_
      refine z_icmp_ne dX2_readName_14 rfl (fun _ => ?_) (fun c => absurd c (by decide))
      refine z_iconst (v := 0) dX2_readName_21 (by decide) ?_
      refine z_istore_n dX2_readName_22 rfl (Nat.le_of_ble_eq_true rfl) ?_
      refine z_iload_n dX2_readName_23 rfl rfl ?_
      refine z_bipush (v := 10) dX2_readName_24 (by decide) ?_
      refine z_icmp_eq dX2_readName_26 rfl (fun c => absurd c (by decide)) (fun _ => ?_)
      refine z_iload_n dX2_readName_29 rfl rfl ?_
      refine z_bipush (v := 30) dX2_readName_30 (by decide) ?_
      refine z_icmp_eq dX2_readName_32 rfl (fun c => absurd c (by decide)) (fun _ => ?_)
      refine z_iload_n dX2_readName_35 rfl rfl ?_
      refine z_aload_n dX2_readName_36 rfl rfl ?_
      refine y_getI FX2_102 dX2_readName_37 (Or.inl rfl) cr.1 ?_
      refine z_eqi (y := nI (so + 1)) (show _ = nI (so + 1) by rw [q.2.2.2.1 6 (by omega)]; exact hcl) ?_
      refine z_iconst (v := 1) dX2_readName_40 (by decide) ?_
      refine z_icmp_ne dX2_readName_41 rfl (fun c => absurd (congrArg (fun x => nI (x + 1)) s0) c) (fun _ => ?_)
      refine z_iconst (v := 1) dX2_readName_44 (by decide) ?_
      refine z_goto dX2_readName_45 rfl ?_
      refine z_icmp_eq dX2_readName_49 rfl (fun c => absurd c (by decide)) (fun _ => ?_)
      refine z_aload_n dX2_readName_52 rfl rfl ?_
      refine z_iconst (v := 5) dX2_readName_53 (by decide) ?_
      refine y_callV (as := [_]) CX2_blame LX2_59 IX2_blame VX2_blame ⟨rfl, Nat.le_of_ble_eq_true rfl⟩ dX2_readName_54 cr.1 rfl (Nat.le_of_ble_eq_true rfl) (Nat.le_of_ble_eq_true rfl) (by omega) s1 rok_v (q.hg q1 hN hS) ?_
      refine z_goto dX2_readName_57 rfl ?_
      refine z_vret dX2_readName_70 ?_
      exact hQ
    · rw [if_pos (Or.inr (by omega))] at hr
      cases hr
      obtain ⟨h1, s1, q1⟩ := c_em0 (d := 0) (o := 1) (v := 7) (x := - nI 33) ct q'.1 (by have := q'.2; omega) (by decide)
      obtain ⟨h2, s2, q2, k2⟩ := a_adv (d := 0) ct q1.1 iN
      have qe := (q1.mv q2 k2)
      refine ⟨h2, ?_, qe, by rw [len1]; have := q'.2; omega⟩
      intro N S Q hN hS hQ
      have hN : pn h0 ≤ N := ss_n q2.1 hN
      have hS : ps h0 ≤ S := ss_s q2.1 hS
      refine z_iload_n dX2_readName_0 rfl rfl ?_
      refine z_iconst (v := 4) dX2_readName_1 (by decide) ?_
      refine z_icmp_eq dX2_readName_2 rfl (fun c => absurd c (by decide)) (fun _ => ?_)
      refine z_iload_n dX2_readName_5 rfl rfl ?_
      refine z_bipush (v := 31) dX2_readName_6 (by decide) ?_
      refine z_icmp_eq dX2_readName_8 rfl (fun c => absurd c (by decide)) (fun _ => ?_)
      refine z_iload_n dX2_readName_11 rfl rfl ?_
      refine z_bipush (v := 11) dX2_readName_12 (by decide) ?_
      refine z_icmp_ne dX2_readName_14 rfl (fun _ => ?_) (fun c => absurd c (by decide))
      refine z_iconst (v := 0) dX2_readName_21 (by decide) ?_
      refine z_istore_n dX2_readName_22 rfl (Nat.le_of_ble_eq_true rfl) ?_
      refine z_iload_n dX2_readName_23 rfl rfl ?_
      refine z_bipush (v := 10) dX2_readName_24 (by decide) ?_
      refine z_icmp_eq dX2_readName_26 rfl (fun c => absurd c (by decide)) (fun _ => ?_)
      refine z_iload_n dX2_readName_29 rfl rfl ?_
      refine z_bipush (v := 30) dX2_readName_30 (by decide) ?_
      refine z_icmp_eq dX2_readName_32 rfl (fun c => absurd c (by decide)) (fun _ => ?_)
      refine z_iload_n dX2_readName_35 rfl rfl ?_
      refine z_aload_n dX2_readName_36 rfl rfl ?_
      refine y_getI FX2_102 dX2_readName_37 (Or.inl rfl) cr.1 ?_
      refine z_eqi (y := nI (so + 1)) (show _ = nI (so + 1) by rw [q.2.2.2.1 6 (by omega)]; exact hcl) ?_
      refine z_iconst (v := 1) dX2_readName_40 (by decide) ?_
      refine z_icmp_ne dX2_readName_41 rfl (fun _ => ?_) (fun c => absurd c (fun w => s0 (by have := (nI_eq (b := 1) (by omega) (by omega)).mp w; omega)))
      refine z_iconst (v := 0) dX2_readName_48 (by decide) ?_
      refine z_icmp_eq dX2_readName_49 rfl (fun _ => ?_) (fun c => absurd (by decide) c)
      refine z_aload_n dX2_readName_60 rfl rfl ?_
      refine z_iload_n dX2_readName_61 rfl rfl ?_
      refine z_ineg dX2_readName_62 ?_
      refine y_callV (as := [_]) CX2_emit LX2_134 IX2_emit VX2_emit ⟨rfl, Nat.le_of_ble_eq_true rfl⟩ dX2_readName_63 cr.1 rfl (Nat.le_of_ble_eq_true rfl) (Nat.le_of_ble_eq_true rfl) (by omega) s1 rok_v (q.hg q1.1 hN hS) ?_
      refine z_aload_n dX2_readName_66 rfl rfl ?_
      refine y_callV (as := []) CX2_advance LX2_37 IX2_advance VX2_advance ⟨rfl, Nat.le_of_ble_eq_true rfl⟩ dX2_readName_67 ((q.ss q1.1).O cr.1) rfl (Nat.le_of_ble_eq_true rfl) (Nat.le_of_ble_eq_true rfl) (by omega) s2 rok_v (q1.1.hg q2 hN hS) ?_
      refine z_vret dX2_readName_70 ?_
      exact hQ
  · have hv : nm1 16 = 8 := rfl
    by_cases s0 : so = 0
    · rw [if_neg (by omega)] at hr
      cases hr
      obtain ⟨h1, s1, q1, k1⟩ := a_bl0 (d := 0) (w := 5) ct q (by omega)
      refine ⟨h1, ?_, q'.mv q1 k1 q'.2⟩
      intro N S Q hN hS hQ
      have hN : pn h0 ≤ N := ss_n q1.1 hN
      have hS : ps h0 ≤ S := ss_s q1.1 hS
      refine z_iload_n dX2_readName_0 rfl rfl ?_
      refine z_iconst (v := 4) dX2_readName_1 (by decide) ?_
      refine z_icmp_eq dX2_readName_2 rfl (fun c => absurd c (by decide)) (fun _ => ?_)
      refine z_iload_n dX2_readName_5 rfl rfl ?_
      refine z_bipush (v := 31) dX2_readName_6 (by decide) ?_
      refine z_icmp_eq dX2_readName_8 rfl (fun c => absurd c (by decide)) (fun _ => ?_)
      refine z_iload_n dX2_readName_11 rfl rfl ?_
      refine z_bipush (v := 11) dX2_readName_12 (by decide) ?_
      refine z_icmp_ne dX2_readName_14 rfl (fun _ => ?_) (fun c => absurd c (by decide))
      refine z_iconst (v := 0) dX2_readName_21 (by decide) ?_
      refine z_istore_n dX2_readName_22 rfl (Nat.le_of_ble_eq_true rfl) ?_
      refine z_iload_n dX2_readName_23 rfl rfl ?_
      refine z_bipush (v := 10) dX2_readName_24 (by decide) ?_
      refine z_icmp_eq dX2_readName_26 rfl (fun c => absurd c (by decide)) (fun _ => ?_)
      refine z_iload_n dX2_readName_29 rfl rfl ?_
      refine z_bipush (v := 30) dX2_readName_30 (by decide) ?_
      refine z_icmp_eq dX2_readName_32 rfl (fun c => absurd c (by decide)) (fun _ => ?_)
      refine z_iload_n dX2_readName_35 rfl rfl ?_
      refine z_aload_n dX2_readName_36 rfl rfl ?_
      refine y_getI FX2_102 dX2_readName_37 (Or.inl rfl) cr.1 ?_
      refine z_eqi (y := nI (so + 1)) (show _ = nI (so + 1) by rw [q.2.2.2.1 6 (by omega)]; exact hcl) ?_
      refine z_iconst (v := 1) dX2_readName_40 (by decide) ?_
      refine z_icmp_ne dX2_readName_41 rfl (fun c => absurd (congrArg (fun x => nI (x + 1)) s0) c) (fun _ => ?_)
      refine z_iconst (v := 1) dX2_readName_44 (by decide) ?_
      refine z_goto dX2_readName_45 rfl ?_
      refine z_icmp_eq dX2_readName_49 rfl (fun c => absurd c (by decide)) (fun _ => ?_)
      refine z_aload_n dX2_readName_52 rfl rfl ?_
      refine z_iconst (v := 5) dX2_readName_53 (by decide) ?_
      refine y_callV (as := [_]) CX2_blame LX2_59 IX2_blame VX2_blame ⟨rfl, Nat.le_of_ble_eq_true rfl⟩ dX2_readName_54 cr.1 rfl (Nat.le_of_ble_eq_true rfl) (Nat.le_of_ble_eq_true rfl) (by omega) s1 rok_v (q.hg q1 hN hS) ?_
      refine z_goto dX2_readName_57 rfl ?_
      refine z_vret dX2_readName_70 ?_
      exact hQ
    · rw [if_pos (Or.inr (by omega))] at hr
      cases hr
      obtain ⟨h1, s1, q1⟩ := c_em0 (d := 0) (o := 1) (v := 8) (x := - nI 16) ct q'.1 (by have := q'.2; omega) (by decide)
      obtain ⟨h2, s2, q2, k2⟩ := a_adv (d := 0) ct q1.1 iN
      have qe := (q1.mv q2 k2)
      refine ⟨h2, ?_, qe, by rw [len1]; have := q'.2; omega⟩
      intro N S Q hN hS hQ
      have hN : pn h0 ≤ N := ss_n q2.1 hN
      have hS : ps h0 ≤ S := ss_s q2.1 hS
      refine z_iload_n dX2_readName_0 rfl rfl ?_
      refine z_iconst (v := 4) dX2_readName_1 (by decide) ?_
      refine z_icmp_eq dX2_readName_2 rfl (fun c => absurd c (by decide)) (fun _ => ?_)
      refine z_iload_n dX2_readName_5 rfl rfl ?_
      refine z_bipush (v := 31) dX2_readName_6 (by decide) ?_
      refine z_icmp_eq dX2_readName_8 rfl (fun c => absurd c (by decide)) (fun _ => ?_)
      refine z_iload_n dX2_readName_11 rfl rfl ?_
      refine z_bipush (v := 11) dX2_readName_12 (by decide) ?_
      refine z_icmp_ne dX2_readName_14 rfl (fun _ => ?_) (fun c => absurd c (by decide))
      refine z_iconst (v := 0) dX2_readName_21 (by decide) ?_
      refine z_istore_n dX2_readName_22 rfl (Nat.le_of_ble_eq_true rfl) ?_
      refine z_iload_n dX2_readName_23 rfl rfl ?_
      refine z_bipush (v := 10) dX2_readName_24 (by decide) ?_
      refine z_icmp_eq dX2_readName_26 rfl (fun c => absurd c (by decide)) (fun _ => ?_)
      refine z_iload_n dX2_readName_29 rfl rfl ?_
      refine z_bipush (v := 30) dX2_readName_30 (by decide) ?_
      refine z_icmp_eq dX2_readName_32 rfl (fun c => absurd c (by decide)) (fun _ => ?_)
      refine z_iload_n dX2_readName_35 rfl rfl ?_
      refine z_aload_n dX2_readName_36 rfl rfl ?_
      refine y_getI FX2_102 dX2_readName_37 (Or.inl rfl) cr.1 ?_
      refine z_eqi (y := nI (so + 1)) (show _ = nI (so + 1) by rw [q.2.2.2.1 6 (by omega)]; exact hcl) ?_
      refine z_iconst (v := 1) dX2_readName_40 (by decide) ?_
      refine z_icmp_ne dX2_readName_41 rfl (fun _ => ?_) (fun c => absurd c (fun w => s0 (by have := (nI_eq (b := 1) (by omega) (by omega)).mp w; omega)))
      refine z_iconst (v := 0) dX2_readName_48 (by decide) ?_
      refine z_icmp_eq dX2_readName_49 rfl (fun _ => ?_) (fun c => absurd (by decide) c)
      refine z_aload_n dX2_readName_60 rfl rfl ?_
      refine z_iload_n dX2_readName_61 rfl rfl ?_
      refine z_ineg dX2_readName_62 ?_
      refine y_callV (as := [_]) CX2_emit LX2_134 IX2_emit VX2_emit ⟨rfl, Nat.le_of_ble_eq_true rfl⟩ dX2_readName_63 cr.1 rfl (Nat.le_of_ble_eq_true rfl) (Nat.le_of_ble_eq_true rfl) (by omega) s1 rok_v (q.hg q1.1 hN hS) ?_
      refine z_aload_n dX2_readName_66 rfl rfl ?_
      refine y_callV (as := []) CX2_advance LX2_37 IX2_advance VX2_advance ⟨rfl, Nat.le_of_ble_eq_true rfl⟩ dX2_readName_67 ((q.ss q1.1).O cr.1) rfl (Nat.le_of_ble_eq_true rfl) (Nat.le_of_ble_eq_true rfl) (by omega) s2 rok_v (q1.1.hg q2 hN hS) ?_
      refine z_vret dX2_readName_70 ?_
      exact hQ
  · have hv : nm1 34 = 9 := rfl
    by_cases s0 : so = 0
    · rw [if_neg (by omega)] at hr
      cases hr
      obtain ⟨h1, s1, q1, k1⟩ := a_bl0 (d := 0) (w := 5) ct q (by omega)
      refine ⟨h1, ?_, q'.mv q1 k1 q'.2⟩
      intro N S Q hN hS hQ
      have hN : pn h0 ≤ N := ss_n q1.1 hN
      have hS : ps h0 ≤ S := ss_s q1.1 hS
      refine z_iload_n dX2_readName_0 rfl rfl ?_
      refine z_iconst (v := 4) dX2_readName_1 (by decide) ?_
      refine z_icmp_eq dX2_readName_2 rfl (fun c => absurd c (by decide)) (fun _ => ?_)
      refine z_iload_n dX2_readName_5 rfl rfl ?_
      refine z_bipush (v := 31) dX2_readName_6 (by decide) ?_
      refine z_icmp_eq dX2_readName_8 rfl (fun c => absurd c (by decide)) (fun _ => ?_)
      refine z_iload_n dX2_readName_11 rfl rfl ?_
      refine z_bipush (v := 11) dX2_readName_12 (by decide) ?_
      refine z_icmp_ne dX2_readName_14 rfl (fun _ => ?_) (fun c => absurd c (by decide))
      refine z_iconst (v := 0) dX2_readName_21 (by decide) ?_
      refine z_istore_n dX2_readName_22 rfl (Nat.le_of_ble_eq_true rfl) ?_
      refine z_iload_n dX2_readName_23 rfl rfl ?_
      refine z_bipush (v := 10) dX2_readName_24 (by decide) ?_
      refine z_icmp_eq dX2_readName_26 rfl (fun c => absurd c (by decide)) (fun _ => ?_)
      refine z_iload_n dX2_readName_29 rfl rfl ?_
      refine z_bipush (v := 30) dX2_readName_30 (by decide) ?_
      refine z_icmp_eq dX2_readName_32 rfl (fun c => absurd c (by decide)) (fun _ => ?_)
      refine z_iload_n dX2_readName_35 rfl rfl ?_
      refine z_aload_n dX2_readName_36 rfl rfl ?_
      refine y_getI FX2_102 dX2_readName_37 (Or.inl rfl) cr.1 ?_
      refine z_eqi (y := nI (so + 1)) (show _ = nI (so + 1) by rw [q.2.2.2.1 6 (by omega)]; exact hcl) ?_
      refine z_iconst (v := 1) dX2_readName_40 (by decide) ?_
      refine z_icmp_ne dX2_readName_41 rfl (fun c => absurd (congrArg (fun x => nI (x + 1)) s0) c) (fun _ => ?_)
      refine z_iconst (v := 1) dX2_readName_44 (by decide) ?_
      refine z_goto dX2_readName_45 rfl ?_
      refine z_icmp_eq dX2_readName_49 rfl (fun c => absurd c (by decide)) (fun _ => ?_)
      refine z_aload_n dX2_readName_52 rfl rfl ?_
      refine z_iconst (v := 5) dX2_readName_53 (by decide) ?_
      refine y_callV (as := [_]) CX2_blame LX2_59 IX2_blame VX2_blame ⟨rfl, Nat.le_of_ble_eq_true rfl⟩ dX2_readName_54 cr.1 rfl (Nat.le_of_ble_eq_true rfl) (Nat.le_of_ble_eq_true rfl) (by omega) s1 rok_v (q.hg q1 hN hS) ?_
      refine z_goto dX2_readName_57 rfl ?_
      refine z_vret dX2_readName_70 ?_
      exact hQ
    · rw [if_pos (Or.inr (by omega))] at hr
      cases hr
      obtain ⟨h1, s1, q1⟩ := c_em0 (d := 0) (o := 1) (v := 9) (x := - nI 34) ct q'.1 (by have := q'.2; omega) (by decide)
      obtain ⟨h2, s2, q2, k2⟩ := a_adv (d := 0) ct q1.1 iN
      have qe := (q1.mv q2 k2)
      refine ⟨h2, ?_, qe, by rw [len1]; have := q'.2; omega⟩
      intro N S Q hN hS hQ
      have hN : pn h0 ≤ N := ss_n q2.1 hN
      have hS : ps h0 ≤ S := ss_s q2.1 hS
      refine z_iload_n dX2_readName_0 rfl rfl ?_
      refine z_iconst (v := 4) dX2_readName_1 (by decide) ?_
      refine z_icmp_eq dX2_readName_2 rfl (fun c => absurd c (by decide)) (fun _ => ?_)
      refine z_iload_n dX2_readName_5 rfl rfl ?_
      refine z_bipush (v := 31) dX2_readName_6 (by decide) ?_
      refine z_icmp_eq dX2_readName_8 rfl (fun c => absurd c (by decide)) (fun _ => ?_)
      refine z_iload_n dX2_readName_11 rfl rfl ?_
      refine z_bipush (v := 11) dX2_readName_12 (by decide) ?_
      refine z_icmp_ne dX2_readName_14 rfl (fun _ => ?_) (fun c => absurd c (by decide))
      refine z_iconst (v := 0) dX2_readName_21 (by decide) ?_
      refine z_istore_n dX2_readName_22 rfl (Nat.le_of_ble_eq_true rfl) ?_
      refine z_iload_n dX2_readName_23 rfl rfl ?_
      refine z_bipush (v := 10) dX2_readName_24 (by decide) ?_
      refine z_icmp_eq dX2_readName_26 rfl (fun c => absurd c (by decide)) (fun _ => ?_)
      refine z_iload_n dX2_readName_29 rfl rfl ?_
      refine z_bipush (v := 30) dX2_readName_30 (by decide) ?_
      refine z_icmp_eq dX2_readName_32 rfl (fun c => absurd c (by decide)) (fun _ => ?_)
      refine z_iload_n dX2_readName_35 rfl rfl ?_
      refine z_aload_n dX2_readName_36 rfl rfl ?_
      refine y_getI FX2_102 dX2_readName_37 (Or.inl rfl) cr.1 ?_
      refine z_eqi (y := nI (so + 1)) (show _ = nI (so + 1) by rw [q.2.2.2.1 6 (by omega)]; exact hcl) ?_
      refine z_iconst (v := 1) dX2_readName_40 (by decide) ?_
      refine z_icmp_ne dX2_readName_41 rfl (fun _ => ?_) (fun c => absurd c (fun w => s0 (by have := (nI_eq (b := 1) (by omega) (by omega)).mp w; omega)))
      refine z_iconst (v := 0) dX2_readName_48 (by decide) ?_
      refine z_icmp_eq dX2_readName_49 rfl (fun _ => ?_) (fun c => absurd (by decide) c)
      refine z_aload_n dX2_readName_60 rfl rfl ?_
      refine z_iload_n dX2_readName_61 rfl rfl ?_
      refine z_ineg dX2_readName_62 ?_
      refine y_callV (as := [_]) CX2_emit LX2_134 IX2_emit VX2_emit ⟨rfl, Nat.le_of_ble_eq_true rfl⟩ dX2_readName_63 cr.1 rfl (Nat.le_of_ble_eq_true rfl) (Nat.le_of_ble_eq_true rfl) (by omega) s1 rok_v (q.hg q1.1 hN hS) ?_
      refine z_aload_n dX2_readName_66 rfl rfl ?_
      refine y_callV (as := []) CX2_advance LX2_37 IX2_advance VX2_advance ⟨rfl, Nat.le_of_ble_eq_true rfl⟩ dX2_readName_67 ((q.ss q1.1).O cr.1) rfl (Nat.le_of_ble_eq_true rfl) (Nat.le_of_ble_eq_true rfl) (by omega) s2 rok_v (q1.1.hg q2 hN hS) ?_
      refine z_vret dX2_readName_70 ?_
      exact hQ
  · have hv : nm1 35 = 10 := rfl
    by_cases s0 : so = 0
    · rw [if_neg (by omega)] at hr
      cases hr
      obtain ⟨h1, s1, q1, k1⟩ := a_bl0 (d := 0) (w := 5) ct q (by omega)
      refine ⟨h1, ?_, q'.mv q1 k1 q'.2⟩
      intro N S Q hN hS hQ
      have hN : pn h0 ≤ N := ss_n q1.1 hN
      have hS : ps h0 ≤ S := ss_s q1.1 hS
      refine z_iload_n dX2_readName_0 rfl rfl ?_
      refine z_iconst (v := 4) dX2_readName_1 (by decide) ?_
      refine z_icmp_eq dX2_readName_2 rfl (fun c => absurd c (by decide)) (fun _ => ?_)
      refine z_iload_n dX2_readName_5 rfl rfl ?_
      refine z_bipush (v := 31) dX2_readName_6 (by decide) ?_
      refine z_icmp_eq dX2_readName_8 rfl (fun c => absurd c (by decide)) (fun _ => ?_)
      refine z_iload_n dX2_readName_11 rfl rfl ?_
      refine z_bipush (v := 11) dX2_readName_12 (by decide) ?_
      refine z_icmp_ne dX2_readName_14 rfl (fun _ => ?_) (fun c => absurd c (by decide))
      refine z_iconst (v := 0) dX2_readName_21 (by decide) ?_
      refine z_istore_n dX2_readName_22 rfl (Nat.le_of_ble_eq_true rfl) ?_
      refine z_iload_n dX2_readName_23 rfl rfl ?_
      refine z_bipush (v := 10) dX2_readName_24 (by decide) ?_
      refine z_icmp_eq dX2_readName_26 rfl (fun c => absurd c (by decide)) (fun _ => ?_)
      refine z_iload_n dX2_readName_29 rfl rfl ?_
      refine z_bipush (v := 30) dX2_readName_30 (by decide) ?_
      refine z_icmp_eq dX2_readName_32 rfl (fun c => absurd c (by decide)) (fun _ => ?_)
      refine z_iload_n dX2_readName_35 rfl rfl ?_
      refine z_aload_n dX2_readName_36 rfl rfl ?_
      refine y_getI FX2_102 dX2_readName_37 (Or.inl rfl) cr.1 ?_
      refine z_eqi (y := nI (so + 1)) (show _ = nI (so + 1) by rw [q.2.2.2.1 6 (by omega)]; exact hcl) ?_
      refine z_iconst (v := 1) dX2_readName_40 (by decide) ?_
      refine z_icmp_ne dX2_readName_41 rfl (fun c => absurd (congrArg (fun x => nI (x + 1)) s0) c) (fun _ => ?_)
      refine z_iconst (v := 1) dX2_readName_44 (by decide) ?_
      refine z_goto dX2_readName_45 rfl ?_
      refine z_icmp_eq dX2_readName_49 rfl (fun c => absurd c (by decide)) (fun _ => ?_)
      refine z_aload_n dX2_readName_52 rfl rfl ?_
      refine z_iconst (v := 5) dX2_readName_53 (by decide) ?_
      refine y_callV (as := [_]) CX2_blame LX2_59 IX2_blame VX2_blame ⟨rfl, Nat.le_of_ble_eq_true rfl⟩ dX2_readName_54 cr.1 rfl (Nat.le_of_ble_eq_true rfl) (Nat.le_of_ble_eq_true rfl) (by omega) s1 rok_v (q.hg q1 hN hS) ?_
      refine z_goto dX2_readName_57 rfl ?_
      refine z_vret dX2_readName_70 ?_
      exact hQ
    · rw [if_pos (Or.inr (by omega))] at hr
      cases hr
      obtain ⟨h1, s1, q1⟩ := c_em0 (d := 0) (o := 1) (v := 10) (x := - nI 35) ct q'.1 (by have := q'.2; omega) (by decide)
      obtain ⟨h2, s2, q2, k2⟩ := a_adv (d := 0) ct q1.1 iN
      have qe := (q1.mv q2 k2)
      refine ⟨h2, ?_, qe, by rw [len1]; have := q'.2; omega⟩
      intro N S Q hN hS hQ
      have hN : pn h0 ≤ N := ss_n q2.1 hN
      have hS : ps h0 ≤ S := ss_s q2.1 hS
      refine z_iload_n dX2_readName_0 rfl rfl ?_
      refine z_iconst (v := 4) dX2_readName_1 (by decide) ?_
      refine z_icmp_eq dX2_readName_2 rfl (fun c => absurd c (by decide)) (fun _ => ?_)
      refine z_iload_n dX2_readName_5 rfl rfl ?_
      refine z_bipush (v := 31) dX2_readName_6 (by decide) ?_
      refine z_icmp_eq dX2_readName_8 rfl (fun c => absurd c (by decide)) (fun _ => ?_)
      refine z_iload_n dX2_readName_11 rfl rfl ?_
      refine z_bipush (v := 11) dX2_readName_12 (by decide) ?_
      refine z_icmp_ne dX2_readName_14 rfl (fun _ => ?_) (fun c => absurd c (by decide))
      refine z_iconst (v := 0) dX2_readName_21 (by decide) ?_
      refine z_istore_n dX2_readName_22 rfl (Nat.le_of_ble_eq_true rfl) ?_
      refine z_iload_n dX2_readName_23 rfl rfl ?_
      refine z_bipush (v := 10) dX2_readName_24 (by decide) ?_
      refine z_icmp_eq dX2_readName_26 rfl (fun c => absurd c (by decide)) (fun _ => ?_)
      refine z_iload_n dX2_readName_29 rfl rfl ?_
      refine z_bipush (v := 30) dX2_readName_30 (by decide) ?_
      refine z_icmp_eq dX2_readName_32 rfl (fun c => absurd c (by decide)) (fun _ => ?_)
      refine z_iload_n dX2_readName_35 rfl rfl ?_
      refine z_aload_n dX2_readName_36 rfl rfl ?_
      refine y_getI FX2_102 dX2_readName_37 (Or.inl rfl) cr.1 ?_
      refine z_eqi (y := nI (so + 1)) (show _ = nI (so + 1) by rw [q.2.2.2.1 6 (by omega)]; exact hcl) ?_
      refine z_iconst (v := 1) dX2_readName_40 (by decide) ?_
      refine z_icmp_ne dX2_readName_41 rfl (fun _ => ?_) (fun c => absurd c (fun w => s0 (by have := (nI_eq (b := 1) (by omega) (by omega)).mp w; omega)))
      refine z_iconst (v := 0) dX2_readName_48 (by decide) ?_
      refine z_icmp_eq dX2_readName_49 rfl (fun _ => ?_) (fun c => absurd (by decide) c)
      refine z_aload_n dX2_readName_60 rfl rfl ?_
      refine z_iload_n dX2_readName_61 rfl rfl ?_
      refine z_ineg dX2_readName_62 ?_
      refine y_callV (as := [_]) CX2_emit LX2_134 IX2_emit VX2_emit ⟨rfl, Nat.le_of_ble_eq_true rfl⟩ dX2_readName_63 cr.1 rfl (Nat.le_of_ble_eq_true rfl) (Nat.le_of_ble_eq_true rfl) (by omega) s1 rok_v (q.hg q1.1 hN hS) ?_
      refine z_aload_n dX2_readName_66 rfl rfl ?_
      refine y_callV (as := []) CX2_advance LX2_37 IX2_advance VX2_advance ⟨rfl, Nat.le_of_ble_eq_true rfl⟩ dX2_readName_67 ((q.ss q1.1).O cr.1) rfl (Nat.le_of_ble_eq_true rfl) (Nat.le_of_ble_eq_true rfl) (by omega) s2 rok_v (q1.1.hg q2 hN hS) ?_
      refine z_vret dX2_readName_70 ?_
      exact hQ

theorem c_mIf {h0 : Hp} {K W : Nat → Nat} {so n f : Nat} (ct : CT h0 K W n) (b3 : BM h0 K W so n f 3 mX2_readSum 5) (b9 : BM h0 K W so n f 9 mX2_readEither 9) {op i a : Nat} {c : Cd} {r : Nat × Nat × Cd} {h : Hp} (ho : op ≤ 8) (q' : RQ h0 K n (a + 1) 0 i c h) (hr : bnd (rd K W so f 9 op i c) (fun j e => exq K 24 j e fun j e => bnd (rd K W so f 3 op j e) fun j e => exq K 25 j e fun j e => bnd (rd K W so f 3 op j e) fun j e => exq K 26 j e (put 3)) = some r) : ∃ h1, Sp (16 * (8 - op) + 10) mX2_readIf [.ref 472, .int (nI op)] h none h1 ∧ RQ h0 K n a r.1 r.2.1 r.2.2 h1 := by
  have q := q'.1.1
  have n3 := ct.2.2.1
  have cr := q.cr ct
  have k54 := ct.2.2.2.2.2.2 i
  have in1 := q.2.2.2.2.2.2.2.1
  have z9 := q.2.2.2.2.2.2.2.2
  have b1 := c_sum1 (r0 := 5) ct (by omega)
  obtain ⟨z1, i1, c1, e1⟩ := bnd_sm hr
  rw [e1] at hr
  obtain ⟨h1, s1, q1⟩ := b9 op i c (a + 1) z1 i1 c1 h ho q' e1
  obtain ⟨z2, i2, h2, s2, q2, hr⟩ := x_exp (d := 1) ct q1 hr (by omega) (by omega)
  obtain ⟨z3, i3, c3, h3, s3, q3, hr⟩ := x_call b3 b1 ho q2 hr
  obtain ⟨z4, i4, h4, s4, q4, hr⟩ := x_exp (d := 1) ct q3 hr (by omega) (by omega)
  obtain ⟨z5, i5, c5, h5, s5, q5, hr⟩ := x_call b3 b1 ho q4 hr
  obtain ⟨z6, i6, h6, s6, q6, hr⟩ := x_exp (d := 1) ct q5 hr (by omega) (by omega)
  obtain ⟨h7, s7, q7⟩ := x_put (d := 0) (v := -23) ct q6 hr (by decide)
  refine ⟨h7, ?_, q7⟩
  intro N S Q hN hS hQ
  have hN : pn h0 ≤ N := ss_n q7.1.1.1 hN
  have hS : ps h0 ≤ S := ss_s q7.1.1.1 hS
  refine z_aload_n dX2_readIf_0 rfl rfl ?_
  refine z_iload_n dX2_readIf_1 rfl rfl ?_
  refine y_callV (as := [_]) CX2_readEither LX2_156 IX2_readEither VX2_readEither ⟨rfl, Nat.le_of_ble_eq_true rfl⟩ dX2_readIf_2 cr.1 rfl (Nat.le_of_ble_eq_true rfl) (Nat.le_of_ble_eq_true rfl) (by omega) s1 rok_v (q.hg q1.1.1 hN hS) ?_
  refine z_aload_n dX2_readIf_5 rfl rfl ?_
  refine z_bipush (v := 24) dX2_readIf_6 (by decide) ?_
  refine y_callV (as := [_]) CX2_expect LX2_99 IX2_expect VX2_expect ⟨rfl, Nat.le_of_ble_eq_true rfl⟩ dX2_readIf_8 ((q.ss q1.1.1).O cr.1) rfl (Nat.le_of_ble_eq_true rfl) (Nat.le_of_ble_eq_true rfl) (by omega) s2 rok_v (q1.1.1.hg q2.1.1 hN hS) ?_
  refine z_aload_n dX2_readIf_11 rfl rfl ?_
  refine z_iload_n dX2_readIf_12 rfl rfl ?_
  refine y_callV (as := [_]) CX2_readSum LX2_108 IX2_readSum VX2_readSum ⟨rfl, Nat.le_of_ble_eq_true rfl⟩ dX2_readIf_13 ((q.ss q2.1.1).O cr.1) rfl (Nat.le_of_ble_eq_true rfl) (Nat.le_of_ble_eq_true rfl) (by omega) s3 rok_v (q2.1.1.hg q3.1.1 hN hS) ?_
  refine z_aload_n dX2_readIf_16 rfl rfl ?_
  refine z_bipush (v := 25) dX2_readIf_17 (by decide) ?_
  refine y_callV (as := [_]) CX2_expect LX2_99 IX2_expect VX2_expect ⟨rfl, Nat.le_of_ble_eq_true rfl⟩ dX2_readIf_19 ((q.ss q3.1.1).O cr.1) rfl (Nat.le_of_ble_eq_true rfl) (Nat.le_of_ble_eq_true rfl) (by omega) s4 rok_v (q3.1.1.hg q4.1.1 hN hS) ?_
  refine z_aload_n dX2_readIf_22 rfl rfl ?_
  refine z_iload_n dX2_readIf_23 rfl rfl ?_
  refine y_callV (as := [_]) CX2_readSum LX2_108 IX2_readSum VX2_readSum ⟨rfl, Nat.le_of_ble_eq_true rfl⟩ dX2_readIf_24 ((q.ss q4.1.1).O cr.1) rfl (Nat.le_of_ble_eq_true rfl) (Nat.le_of_ble_eq_true rfl) (by omega) s5 rok_v (q4.1.1.hg q5.1.1 hN hS) ?_
  refine z_aload_n dX2_readIf_27 rfl rfl ?_
  refine z_bipush (v := 26) dX2_readIf_28 (by decide) ?_
  refine y_callV (as := [_]) CX2_expect LX2_99 IX2_expect VX2_expect ⟨rfl, Nat.le_of_ble_eq_true rfl⟩ dX2_readIf_30 ((q.ss q5.1.1).O cr.1) rfl (Nat.le_of_ble_eq_true rfl) (Nat.le_of_ble_eq_true rfl) (by omega) s6 rok_v (q5.1.1.hg q6.1.1 hN hS) ?_
  refine z_aload_n dX2_readIf_33 rfl rfl ?_
  refine z_bipush (v := -23) dX2_readIf_34 (by decide) ?_
  refine y_callV (as := [_]) CX2_emit LX2_134 IX2_emit VX2_emit ⟨rfl, Nat.le_of_ble_eq_true rfl⟩ dX2_readIf_36 ((q.ss q6.1.1).O cr.1) rfl (Nat.le_of_ble_eq_true rfl) (Nat.le_of_ble_eq_true rfl) (by omega) s7 rok_v (q6.1.1.hg q7.1.1 hN hS) ?_
  refine z_vret dX2_readIf_39 ?_
  exact hQ

theorem c_mInside {h0 : Hp} {K W : Nat → Nat} {so n f : Nat} (ct : CT h0 K W n) (b0 : BM h0 K W so n f 0 mX2_readOne 3) (b3 : BM h0 K W so n f 3 mX2_readSum 5) (b9 : BM h0 K W so n f 9 mX2_readEither 9) {op i a : Nat} {c : Cd} {r : Nat × Nat × Cd} {h : Hp} (ho : op < 8) (q' : RQ h0 K n (a + 1) 0 (i + 1) c h) (hk : K i = 48 ∨ K i = 45 ∨ K i = 20 ∨ K i = 22 ∨ K i = 23) (hr : rdIn K (rd K W so f) op i c = some r) : ∃ h1, Sp (16 * (8 - (op + 1)) + 11) mX2_readInside [.ref 472, .int (nI (K i)), .int (nI (op + 1))] h none h1 ∧ RQ h0 K n a r.1 r.2.1 r.2.2 h1 := by
  have q := q'.1.1
  have n3 := ct.2.2.1
  have cr := q.cr ct
  have b1 := c_one1 (r0 := 3) ct
  unfold rdIn at hr
  rcases hk with hk | hk | hk | hk | hk
  · rw [if_pos hk] at hr
    obtain ⟨z1, i1, c1, e1⟩ := bnd_sm hr
    rw [e1] at hr
    obtain ⟨h1, s1, q1⟩ := b3 (op + 1) (i + 1) c (a + 1) z1 i1 c1 h (by omega) q' e1
    obtain ⟨z2, i2, h2, s2, q2, hr⟩ := x_exp (d := 1) ct q1 hr (by omega) (by omega)
    refine ⟨h2, ?_, (x_fall (W := W) (d := 0) q2 hr).le (by omega)⟩
    intro N S Q hN hS hQ
    have hN : pn h0 ≤ N := ss_n q2.1.1.1 hN
    have hS : ps h0 ≤ S := ss_s q2.1.1.1 hS
    refine z_iload_n dX2_readInside_0 rfl rfl ?_
    refine z_lookup (off := 43) (tgt := 44) dX2_readInside_1 (by decide) (by rw [hk]; first | rfl | decide) rfl ?_
    refine z_aload_n dX2_readInside_44 rfl rfl ?_
    refine z_iload_n dX2_readInside_45 rfl rfl ?_
    refine y_callV (as := [_]) CX2_readSum LX2_108 IX2_readSum VX2_readSum ⟨rfl, Nat.le_of_ble_eq_true rfl⟩ dX2_readInside_46 cr.1 rfl (Nat.le_of_ble_eq_true rfl) (Nat.le_of_ble_eq_true rfl) (by omega) s1 rok_v (q.hg q1.1.1 hN hS) ?_
    refine z_aload_n dX2_readInside_49 rfl rfl ?_
    refine z_bipush (v := 49) dX2_readInside_50 (by decide) ?_
    refine y_callV (as := [_]) CX2_expect LX2_99 IX2_expect VX2_expect ⟨rfl, Nat.le_of_ble_eq_true rfl⟩ dX2_readInside_52 ((q.ss q1.1.1).O cr.1) rfl (Nat.le_of_ble_eq_true rfl) (Nat.le_of_ble_eq_true rfl) (by omega) s2 rok_v (q1.1.1.hg q2.1.1 hN hS) ?_
    refine z_goto dX2_readInside_55 rfl ?_
    refine z_vret dX2_readInside_116 ?_
    exact hQ
  · rw [if_neg (by omega), if_pos hk] at hr
    obtain ⟨z1, i1, c1, e1⟩ := bnd_sm hr
    rw [e1] at hr
    obtain ⟨h1, s1, q1⟩ := b0 (op + 1) (i + 1) c (a + 1) z1 i1 c1 h (by omega) q' e1
    obtain ⟨h2, s2, q2⟩ := x_put (d := 0) (v := -55) ct q1 hr (by decide)
    refine ⟨h2, ?_, q2⟩
    intro N S Q hN hS hQ
    have hN : pn h0 ≤ N := ss_n q2.1.1.1 hN
    have hS : ps h0 ≤ S := ss_s q2.1.1.1 hS
    refine z_iload_n dX2_readInside_0 rfl rfl ?_
    refine z_lookup (off := 57) (tgt := 58) dX2_readInside_1 (by decide) (by rw [hk]; first | rfl | decide) rfl ?_
    refine z_aload_n dX2_readInside_58 rfl rfl ?_
    refine z_iload_n dX2_readInside_59 rfl rfl ?_
    refine y_callV (as := [_]) CX2_readOne LX2_137 IX2_readOne VX2_readOne ⟨rfl, Nat.le_of_ble_eq_true rfl⟩ dX2_readInside_60 cr.1 rfl (Nat.le_of_ble_eq_true rfl) (Nat.le_of_ble_eq_true rfl) (by omega) s1 rok_v (q.hg q1.1.1 hN hS) ?_
    refine z_aload_n dX2_readInside_63 rfl rfl ?_
    refine z_bipush (v := -55) dX2_readInside_64 (by decide) ?_
    refine y_callV (as := [_]) CX2_emit LX2_134 IX2_emit VX2_emit ⟨rfl, Nat.le_of_ble_eq_true rfl⟩ dX2_readInside_66 ((q.ss q1.1.1).O cr.1) rfl (Nat.le_of_ble_eq_true rfl) (Nat.le_of_ble_eq_true rfl) (by omega) s2 rok_v (q1.1.1.hg q2.1.1 hN hS) ?_
    refine z_goto dX2_readInside_69 rfl ?_
    refine z_vret dX2_readInside_116 ?_
    exact hQ
  · rw [if_neg (by omega), if_neg (by omega), if_neg (by omega), if_pos hk] at hr
    obtain ⟨z1, i1, c1, e1⟩ := bnd_sm hr
    rw [e1] at hr
    obtain ⟨h1, s1, q1⟩ := b0 (op + 1) (i + 1) c (a + 1) z1 i1 c1 h (by omega) q' e1
    obtain ⟨z2, i2, h2, s2, q2, hr⟩ := x_exp (d := 1) ct q1 hr (by omega) (by omega)
    obtain ⟨z3, i3, c3, h3, s3, q3, hr⟩ := x_call b0 b1 (by omega) q2 hr
    obtain ⟨h4, s4, q4⟩ := x_put (d := 0) (v := -20) ct q3 hr (by decide)
    refine ⟨h4, ?_, q4⟩
    intro N S Q hN hS hQ
    have hN : pn h0 ≤ N := ss_n q4.1.1.1 hN
    have hS : ps h0 ≤ S := ss_s q4.1.1.1 hS
    refine z_iload_n dX2_readInside_0 rfl rfl ?_
    refine z_lookup (off := 85) (tgt := 86) dX2_readInside_1 (by decide) (by rw [hk]; first | rfl | decide) rfl ?_
    refine z_aload_n dX2_readInside_86 rfl rfl ?_
    refine z_iload_n dX2_readInside_87 rfl rfl ?_
    refine y_callV (as := [_]) CX2_readOne LX2_137 IX2_readOne VX2_readOne ⟨rfl, Nat.le_of_ble_eq_true rfl⟩ dX2_readInside_88 cr.1 rfl (Nat.le_of_ble_eq_true rfl) (Nat.le_of_ble_eq_true rfl) (by omega) s1 rok_v (q.hg q1.1.1 hN hS) ?_
    refine z_aload_n dX2_readInside_91 rfl rfl ?_
    refine z_bipush (v := 21) dX2_readInside_92 (by decide) ?_
    refine y_callV (as := [_]) CX2_expect LX2_99 IX2_expect VX2_expect ⟨rfl, Nat.le_of_ble_eq_true rfl⟩ dX2_readInside_94 ((q.ss q1.1.1).O cr.1) rfl (Nat.le_of_ble_eq_true rfl) (Nat.le_of_ble_eq_true rfl) (by omega) s2 rok_v (q1.1.1.hg q2.1.1 hN hS) ?_
    refine z_aload_n dX2_readInside_97 rfl rfl ?_
    refine z_iload_n dX2_readInside_98 rfl rfl ?_
    refine y_callV (as := [_]) CX2_readOne LX2_137 IX2_readOne VX2_readOne ⟨rfl, Nat.le_of_ble_eq_true rfl⟩ dX2_readInside_99 ((q.ss q2.1.1).O cr.1) rfl (Nat.le_of_ble_eq_true rfl) (Nat.le_of_ble_eq_true rfl) (by omega) s3 rok_v (q2.1.1.hg q3.1.1 hN hS) ?_
    refine z_aload_n dX2_readInside_102 rfl rfl ?_
    refine z_bipush (v := -20) dX2_readInside_103 (by decide) ?_
    refine y_callV (as := [_]) CX2_emit LX2_134 IX2_emit VX2_emit ⟨rfl, Nat.le_of_ble_eq_true rfl⟩ dX2_readInside_105 ((q.ss q3.1.1).O cr.1) rfl (Nat.le_of_ble_eq_true rfl) (Nat.le_of_ble_eq_true rfl) (by omega) s4 rok_v (q3.1.1.hg q4.1.1 hN hS) ?_
    refine z_goto dX2_readInside_108 rfl ?_
    refine z_vret dX2_readInside_116 ?_
    exact hQ
  · rw [if_neg (by omega), if_neg (by omega), if_pos hk] at hr
    obtain ⟨z1, i1, c1, e1⟩ := bnd_sm hr
    rw [e1] at hr
    obtain ⟨h1, s1, q1⟩ := b0 (op + 1) (i + 1) c (a + 1) z1 i1 c1 h (by omega) q' e1
    obtain ⟨h2, s2, q2⟩ := x_put (d := 0) (v := -22) ct q1 hr (by decide)
    refine ⟨h2, ?_, q2⟩
    intro N S Q hN hS hQ
    have hN : pn h0 ≤ N := ss_n q2.1.1.1 hN
    have hS : ps h0 ≤ S := ss_s q2.1.1.1 hS
    refine z_iload_n dX2_readInside_0 rfl rfl ?_
    refine z_lookup (off := 71) (tgt := 72) dX2_readInside_1 (by decide) (by rw [hk]; first | rfl | decide) rfl ?_
    refine z_aload_n dX2_readInside_72 rfl rfl ?_
    refine z_iload_n dX2_readInside_73 rfl rfl ?_
    refine y_callV (as := [_]) CX2_readOne LX2_137 IX2_readOne VX2_readOne ⟨rfl, Nat.le_of_ble_eq_true rfl⟩ dX2_readInside_74 cr.1 rfl (Nat.le_of_ble_eq_true rfl) (Nat.le_of_ble_eq_true rfl) (by omega) s1 rok_v (q.hg q1.1.1 hN hS) ?_
    refine z_aload_n dX2_readInside_77 rfl rfl ?_
    refine z_bipush (v := -22) dX2_readInside_78 (by decide) ?_
    refine y_callV (as := [_]) CX2_emit LX2_134 IX2_emit VX2_emit ⟨rfl, Nat.le_of_ble_eq_true rfl⟩ dX2_readInside_80 ((q.ss q1.1.1).O cr.1) rfl (Nat.le_of_ble_eq_true rfl) (Nat.le_of_ble_eq_true rfl) (by omega) s2 rok_v (q1.1.1.hg q2.1.1 hN hS) ?_
    refine z_goto dX2_readInside_83 rfl ?_
    refine z_vret dX2_readInside_116 ?_
    exact hQ
  · rw [if_neg (by omega), if_neg (by omega), if_neg (by omega), if_neg (by omega)] at hr
    obtain ⟨h1, s1, q1⟩ := c_mIf ct b3 b9 (by omega) q' hr
    refine ⟨h1, ?_, q1⟩
    intro N S Q hN hS hQ
    have hN : pn h0 ≤ N := ss_n q1.1.1.1 hN
    have hS : ps h0 ≤ S := ss_s q1.1.1.1 hS
    refine z_iload_n dX2_readInside_0 rfl rfl ?_
    refine z_lookup (off := 110) (tgt := 111) dX2_readInside_1 (by decide) (by rw [hk]; first | rfl | decide) rfl ?_
    refine z_aload_n dX2_readInside_111 rfl rfl ?_
    refine z_iload_n dX2_readInside_112 rfl rfl ?_
    refine y_callV (as := [_]) CX2_readIf LX2_153 IX2_readIf VX2_readIf ⟨rfl, Nat.le_of_ble_eq_true rfl⟩ dX2_readInside_113 cr.1 rfl (Nat.le_of_ble_eq_true rfl) (Nat.le_of_ble_eq_true rfl) (by omega) s1 rok_v (q.hg q1.1.1 hN hS) ?_
    refine z_vret dX2_readInside_116 ?_
    exact hQ

theorem c_mOne {h0 : Hp} {K W : Nat → Nat} {so n f : Nat} (ct : CT h0 K W n) (hso : so ≤ 2) (hcl : pI h0 472 6 = nI (so + 1)) (b0 : BM h0 K W so n f 0 mX2_readOne 3) (b3 : BM h0 K W so n f 3 mX2_readSum 5) (b9 : BM h0 K W so n f 9 mX2_readEither 9) : BM h0 K W so n (f + 1) 0 mX2_readOne 3 := by
  intro op i c a z j e h ho q' hr
  have q := q'.1.1
  have n3 := ct.2.2.1
  have cr := q.cr ct
  have k54 := ct.2.2.2.2.2.2 i
  have in1 := q.2.2.2.2.2.2.2.1
  have z9 := q.2.2.2.2.2.2.2.2
  have bd := q'.2
  have hr : rdOne K W so (rd K W so f) op i c = some (z, j, e) := hr
  unfold rdOne at hr
  by_cases h52 : K i = 52
  · rw [if_pos h52] at hr
    by_cases h9 : 9999 < W i
    · rw [if_pos h9] at hr
      cases hr
      obtain ⟨h1, s1, q1, k1⟩ := a_numN (d := 1) (lo := 0) (hi := 9999) ct q h52 (by omega) (by omega) (by omega)
      have s2 := q_em1 (d := 0) (x := 0) ct q1 (by omega)
      refine ⟨h1, ?_, q'.mv q1 k1 bd⟩
      intro N S Q hN hS hQ
      have hN : pn h0 ≤ N := ss_n q1.1 hN
      have hS : ps h0 ≤ S := ss_s q1.1 hS
      refine z_aload_n dX2_readOne_0 rfl rfl ?_
      refine y_getI FX2_40 dX2_readOne_1 (Or.inl rfl) cr.1 ?_
      refine z_eqi (y := nI (0)) q.2.2.2.2.2.2.1 ?_
      refine z_if_eq dX2_readOne_4 rfl (fun _ => ?_) (fun c => absurd (rfl) c)
      refine z_aload_n dX2_readOne_8 rfl rfl ?_
      refine y_getI FX2_43 dX2_readOne_9 (Or.inl rfl) cr.1 ?_
      refine z_eqi (y := nI (K i)) q.2.2.2.2.2.1 ?_
      refine z_istore_n dX2_readOne_12 rfl (Nat.le_of_ble_eq_true rfl) ?_
      refine z_iload_n dX2_readOne_13 rfl rfl ?_
      refine z_bipush (v := 52) dX2_readOne_14 (by decide) ?_
      refine z_icmp_ne dX2_readOne_16 rfl (fun c => absurd (congrArg nI h52) c) (fun _ => ?_)
      refine z_aload_n dX2_readOne_19 rfl rfl ?_
      refine z_aload_n dX2_readOne_20 rfl rfl ?_
      refine z_iconst (v := 0) dX2_readOne_21 (by decide) ?_
      refine z_sipush (v := 9999) dX2_readOne_22 (by decide) ?_
      refine y_callV (as := [_, _]) CX2_readNumber LX2_121 IX2_readNumber VX2_readNumber ⟨rfl, Nat.le_of_ble_eq_true rfl⟩ dX2_readOne_25 cr.1 rfl (Nat.le_of_ble_eq_true rfl) (Nat.le_of_ble_eq_true rfl) (by omega) s1 rok_i (q.hg q1 hN hS) ?_
      refine y_callV (as := [_]) CX2_emit LX2_134 IX2_emit VX2_emit ⟨rfl, Nat.le_of_ble_eq_true rfl⟩ dX2_readOne_28 ((q.ss q1).O cr.1) rfl (Nat.le_of_ble_eq_true rfl) (Nat.le_of_ble_eq_true rfl) (by omega) s2 rok_v (q1.hg q1 hN hS) ?_
      refine z_goto dX2_readOne_31 rfl ?_
      refine z_vret dX2_readOne_90 ?_
      exact hQ
    · rw [if_neg h9] at hr
      cases hr
      have iN := ct.lt i (by omega)
      obtain ⟨h1, s1, q1, k1⟩ := a_numY (d := 1) (lo := 0) (hi := 9999) ct q h52 (by omega) (by omega) (by omega)
      obtain ⟨h2, s2, q2⟩ := c_em0 (d := 0) (o := 0) (v := W i) (x := nI (W i)) ct (q'.1.mv q1 k1) (by omega) rfl
      refine ⟨h2, ?_, q2, by rw [len1]; omega⟩
      intro N S Q hN hS hQ
      have hN : pn h0 ≤ N := ss_n q2.1.1 hN
      have hS : ps h0 ≤ S := ss_s q2.1.1 hS
      refine z_aload_n dX2_readOne_0 rfl rfl ?_
      refine y_getI FX2_40 dX2_readOne_1 (Or.inl rfl) cr.1 ?_
      refine z_eqi (y := nI (0)) q.2.2.2.2.2.2.1 ?_
      refine z_if_eq dX2_readOne_4 rfl (fun _ => ?_) (fun c => absurd (rfl) c)
      refine z_aload_n dX2_readOne_8 rfl rfl ?_
      refine y_getI FX2_43 dX2_readOne_9 (Or.inl rfl) cr.1 ?_
      refine z_eqi (y := nI (K i)) q.2.2.2.2.2.1 ?_
      refine z_istore_n dX2_readOne_12 rfl (Nat.le_of_ble_eq_true rfl) ?_
      refine z_iload_n dX2_readOne_13 rfl rfl ?_
      refine z_bipush (v := 52) dX2_readOne_14 (by decide) ?_
      refine z_icmp_ne dX2_readOne_16 rfl (fun c => absurd (congrArg nI h52) c) (fun _ => ?_)
      refine z_aload_n dX2_readOne_19 rfl rfl ?_
      refine z_aload_n dX2_readOne_20 rfl rfl ?_
      refine z_iconst (v := 0) dX2_readOne_21 (by decide) ?_
      refine z_sipush (v := 9999) dX2_readOne_22 (by decide) ?_
      refine y_callV (as := [_, _]) CX2_readNumber LX2_121 IX2_readNumber VX2_readNumber ⟨rfl, Nat.le_of_ble_eq_true rfl⟩ dX2_readOne_25 cr.1 rfl (Nat.le_of_ble_eq_true rfl) (Nat.le_of_ble_eq_true rfl) (by omega) s1 rok_i (q.hg q1 hN hS) ?_
      refine y_callV (as := [_]) CX2_emit LX2_134 IX2_emit VX2_emit ⟨rfl, Nat.le_of_ble_eq_true rfl⟩ dX2_readOne_28 ((q.ss q1).O cr.1) rfl (Nat.le_of_ble_eq_true rfl) (Nat.le_of_ble_eq_true rfl) (by omega) s2 rok_v (q1.hg q2.1 hN hS) ?_
      refine z_goto dX2_readOne_31 rfl ?_
      refine z_vret dX2_readOne_90 ?_
      exact hQ
  · rw [if_neg h52] at hr
    by_cases hn : nm1 (K i) < 11
    · rw [if_pos hn] at hr
      obtain ⟨h1, s1, q1⟩ := c_mName (d := 1) (f := 0) ct hso hcl q' hn hr (by omega)
      refine ⟨h1, ?_, q1⟩
      intro N S Q hN hS hQ
      have hN : pn h0 ≤ N := ss_n q1.1.1.1 hN
      have hS : ps h0 ≤ S := ss_s q1.1.1.1 hS
      refine z_aload_n dX2_readOne_0 rfl rfl ?_
      refine y_getI FX2_40 dX2_readOne_1 (Or.inl rfl) cr.1 ?_
      refine z_eqi (y := nI (0)) q.2.2.2.2.2.2.1 ?_
      refine z_if_eq dX2_readOne_4 rfl (fun _ => ?_) (fun c => absurd (rfl) c)
      refine z_aload_n dX2_readOne_8 rfl rfl ?_
      refine y_getI FX2_43 dX2_readOne_9 (Or.inl rfl) cr.1 ?_
      refine z_eqi (y := nI (K i)) q.2.2.2.2.2.1 ?_
      refine z_istore_n dX2_readOne_12 rfl (Nat.le_of_ble_eq_true rfl) ?_
      refine z_iload_n dX2_readOne_13 rfl rfl ?_
      refine z_bipush (v := 52) dX2_readOne_14 (by decide) ?_
      refine z_icmp_ne dX2_readOne_16 rfl (fun _ => ?_) (fun c => absurd c (fun w => h52 ((nI_eq (b := 52) (by omega) (by omega)).mp w)))
      refine z_iload_n dX2_readOne_34 rfl rfl ?_
      refine y_callS (as := [_]) CX2_isName LX2_140 SX2_isName dX2_readOne_35 rfl (Nat.le_of_ble_eq_true rfl) (Nat.le_of_ble_eq_true rfl) (by omega) (c_isName (d := 1) (by omega) (Nat.le_refl _)) (rok_z bI_01) (q.hg q hN hS) ?_
      refine z_if_eq dX2_readOne_38 rfl (fun c => absurd c (bI_ne0.mpr hn)) (fun _ => ?_)
      refine z_aload_n dX2_readOne_41 rfl rfl ?_
      refine z_iload_n dX2_readOne_42 rfl rfl ?_
      refine y_callV (as := [_]) CX2_readName LX2_144 IX2_readName VX2_readName ⟨rfl, Nat.le_of_ble_eq_true rfl⟩ dX2_readOne_43 cr.1 rfl (Nat.le_of_ble_eq_true rfl) (Nat.le_of_ble_eq_true rfl) (by omega) s1 rok_v (q.hg q1.1.1 hN hS) ?_
      refine z_goto dX2_readOne_46 rfl ?_
      refine z_vret dX2_readOne_90 ?_
      exact hQ
    · rw [if_neg hn] at hr
      by_cases hk : K i = 48 ∨ K i = 45 ∨ K i = 20 ∨ K i = 22 ∨ K i = 23
      · rw [if_pos hk] at hr
        by_cases h8 : 8 ≤ op
        · rw [if_pos h8] at hr
          cases hr
          obtain ⟨h1, s1, q1, k1⟩ := a_bl0 (d := 0) (w := 3) ct q (by omega)
          refine ⟨h1, ?_, q'.mv q1 k1 bd⟩
          intro N S Q hN hS hQ
          have hN : pn h0 ≤ N := ss_n q1.1 hN
          have hS : ps h0 ≤ S := ss_s q1.1 hS
          refine z_aload_n dX2_readOne_0 rfl rfl ?_
          refine y_getI FX2_40 dX2_readOne_1 (Or.inl rfl) cr.1 ?_
          refine z_eqi (y := nI (0)) q.2.2.2.2.2.2.1 ?_
          refine z_if_eq dX2_readOne_4 rfl (fun _ => ?_) (fun c => absurd (rfl) c)
          refine z_aload_n dX2_readOne_8 rfl rfl ?_
          refine y_getI FX2_43 dX2_readOne_9 (Or.inl rfl) cr.1 ?_
          refine z_eqi (y := nI (K i)) q.2.2.2.2.2.1 ?_
          refine z_istore_n dX2_readOne_12 rfl (Nat.le_of_ble_eq_true rfl) ?_
          refine z_iload_n dX2_readOne_13 rfl rfl ?_
          refine z_bipush (v := 52) dX2_readOne_14 (by decide) ?_
          refine z_icmp_ne dX2_readOne_16 rfl (fun _ => ?_) (fun c => absurd c (fun w => h52 ((nI_eq (b := 52) (by omega) (by omega)).mp w)))
          refine z_iload_n dX2_readOne_34 rfl rfl ?_
          refine y_callS (as := [_]) CX2_isName LX2_140 SX2_isName dX2_readOne_35 rfl (Nat.le_of_ble_eq_true rfl) (Nat.le_of_ble_eq_true rfl) (by omega) (c_isName (d := 1) (by omega) (Nat.le_refl _)) (rok_z bI_01) (q.hg q hN hS) ?_
          refine z_if_eq dX2_readOne_38 rfl (fun _ => ?_) (fun c => absurd (bI_eq0.mpr hn) c)
          refine z_iload_n dX2_readOne_49 rfl rfl ?_
          refine y_callS (as := [_]) CX2_opensOne LX2_147 SX2_opensOne dX2_readOne_50 rfl (Nat.le_of_ble_eq_true rfl) (Nat.le_of_ble_eq_true rfl) (by omega) (c_opensOne (d := 0) (by omega)) (rok_z bI_01) (q.hg q hN hS) ?_
          refine z_if_ne dX2_readOne_53 rfl (fun _ => ?_) (fun c => absurd c (bI_ne0.mpr hk))
          refine z_iload_n dX2_readOne_64 rfl rfl ?_
          refine z_bipush (v := 8) dX2_readOne_65 (by decide) ?_
          refine z_icmp_lt dX2_readOne_67 rfl (fun c => absurd c (fun w => absurd ((nI_ltI (b := 8) (by omega) (by omega)).mp w) (by omega))) (fun _ => ?_)
          refine z_aload_n dX2_readOne_70 rfl rfl ?_
          refine z_iconst (v := 3) dX2_readOne_71 (by decide) ?_
          refine y_callV (as := [_]) CX2_blame LX2_59 IX2_blame VX2_blame ⟨rfl, Nat.le_of_ble_eq_true rfl⟩ dX2_readOne_72 cr.1 rfl (Nat.le_of_ble_eq_true rfl) (Nat.le_of_ble_eq_true rfl) (by omega) s1 rok_v (q.hg q1 hN hS) ?_
          refine z_goto dX2_readOne_75 rfl ?_
          refine z_vret dX2_readOne_90 ?_
          exact hQ
        · rw [if_neg h8] at hr
          obtain ⟨h1, s1, q1, k1⟩ := a_adv (d := 0) ct q (ct.lt i (by omega))
          obtain ⟨h2, s2, q2⟩ := c_mInside ct b0 b3 b9 (by omega) (q'.mv (a1 := a + 1) q1 k1 (by omega)) hk hr
          refine ⟨h2, ?_, q2⟩
          intro N S Q hN hS hQ
          have hN : pn h0 ≤ N := ss_n q2.1.1.1 hN
          have hS : ps h0 ≤ S := ss_s q2.1.1.1 hS
          refine z_aload_n dX2_readOne_0 rfl rfl ?_
          refine y_getI FX2_40 dX2_readOne_1 (Or.inl rfl) cr.1 ?_
          refine z_eqi (y := nI (0)) q.2.2.2.2.2.2.1 ?_
          refine z_if_eq dX2_readOne_4 rfl (fun _ => ?_) (fun c => absurd (rfl) c)
          refine z_aload_n dX2_readOne_8 rfl rfl ?_
          refine y_getI FX2_43 dX2_readOne_9 (Or.inl rfl) cr.1 ?_
          refine z_eqi (y := nI (K i)) q.2.2.2.2.2.1 ?_
          refine z_istore_n dX2_readOne_12 rfl (Nat.le_of_ble_eq_true rfl) ?_
          refine z_iload_n dX2_readOne_13 rfl rfl ?_
          refine z_bipush (v := 52) dX2_readOne_14 (by decide) ?_
          refine z_icmp_ne dX2_readOne_16 rfl (fun _ => ?_) (fun c => absurd c (fun w => h52 ((nI_eq (b := 52) (by omega) (by omega)).mp w)))
          refine z_iload_n dX2_readOne_34 rfl rfl ?_
          refine y_callS (as := [_]) CX2_isName LX2_140 SX2_isName dX2_readOne_35 rfl (Nat.le_of_ble_eq_true rfl) (Nat.le_of_ble_eq_true rfl) (by omega) (c_isName (d := 1) (by omega) (Nat.le_refl _)) (rok_z bI_01) (q.hg q hN hS) ?_
          refine z_if_eq dX2_readOne_38 rfl (fun _ => ?_) (fun c => absurd (bI_eq0.mpr hn) c)
          refine z_iload_n dX2_readOne_49 rfl rfl ?_
          refine y_callS (as := [_]) CX2_opensOne LX2_147 SX2_opensOne dX2_readOne_50 rfl (Nat.le_of_ble_eq_true rfl) (Nat.le_of_ble_eq_true rfl) (by omega) (c_opensOne (d := 0) (by omega)) (rok_z bI_01) (q.hg q hN hS) ?_
          refine z_if_ne dX2_readOne_53 rfl (fun _ => ?_) (fun c => absurd c (bI_ne0.mpr hk))
          refine z_iload_n dX2_readOne_64 rfl rfl ?_
          refine z_bipush (v := 8) dX2_readOne_65 (by decide) ?_
          refine z_icmp_lt dX2_readOne_67 rfl (fun _ => ?_) (fun c => absurd ((nI_ltI (b := 8) (by omega) (by omega)).mpr (by omega)) c)
          refine z_aload_n dX2_readOne_78 rfl rfl ?_
          refine y_callV (as := []) CX2_advance LX2_37 IX2_advance VX2_advance ⟨rfl, Nat.le_of_ble_eq_true rfl⟩ dX2_readOne_79 cr.1 rfl (Nat.le_of_ble_eq_true rfl) (Nat.le_of_ble_eq_true rfl) (by omega) s1 rok_v (q.hg q1 hN hS) ?_
          refine z_aload_n dX2_readOne_82 rfl rfl ?_
          refine z_iload_n dX2_readOne_83 rfl rfl ?_
          refine z_iload_n dX2_readOne_84 rfl rfl ?_
          refine z_iconst (v := 1) dX2_readOne_85 (by decide) ?_
          refine z_iadd dX2_readOne_86 ?_
          refine z_eqi (nI_1 op) ?_
          refine y_callV (as := [_, _]) CX2_readInside LX2_150 IX2_readInside VX2_readInside ⟨rfl, Nat.le_of_ble_eq_true rfl⟩ dX2_readOne_87 ((q.ss q1).O cr.1) rfl (Nat.le_of_ble_eq_true rfl) (Nat.le_of_ble_eq_true rfl) (by omega) s2 rok_v (q1.hg q2.1.1 hN hS) ?_
          refine z_vret dX2_readOne_90 ?_
          exact hQ
      · rw [if_neg hk] at hr
        cases hr
        obtain ⟨h1, s1, q1, k1⟩ := a_bl0 (d := 0) (w := 1) ct q (by omega)
        refine ⟨h1, ?_, q'.mv q1 k1 bd⟩
        intro N S Q hN hS hQ
        have hN : pn h0 ≤ N := ss_n q1.1 hN
        have hS : ps h0 ≤ S := ss_s q1.1 hS
        refine z_aload_n dX2_readOne_0 rfl rfl ?_
        refine y_getI FX2_40 dX2_readOne_1 (Or.inl rfl) cr.1 ?_
        refine z_eqi (y := nI (0)) q.2.2.2.2.2.2.1 ?_
        refine z_if_eq dX2_readOne_4 rfl (fun _ => ?_) (fun c => absurd (rfl) c)
        refine z_aload_n dX2_readOne_8 rfl rfl ?_
        refine y_getI FX2_43 dX2_readOne_9 (Or.inl rfl) cr.1 ?_
        refine z_eqi (y := nI (K i)) q.2.2.2.2.2.1 ?_
        refine z_istore_n dX2_readOne_12 rfl (Nat.le_of_ble_eq_true rfl) ?_
        refine z_iload_n dX2_readOne_13 rfl rfl ?_
        refine z_bipush (v := 52) dX2_readOne_14 (by decide) ?_
        refine z_icmp_ne dX2_readOne_16 rfl (fun _ => ?_) (fun c => absurd c (fun w => h52 ((nI_eq (b := 52) (by omega) (by omega)).mp w)))
        refine z_iload_n dX2_readOne_34 rfl rfl ?_
        refine y_callS (as := [_]) CX2_isName LX2_140 SX2_isName dX2_readOne_35 rfl (Nat.le_of_ble_eq_true rfl) (Nat.le_of_ble_eq_true rfl) (by omega) (c_isName (d := 1) (by omega) (Nat.le_refl _)) (rok_z bI_01) (q.hg q hN hS) ?_
        refine z_if_eq dX2_readOne_38 rfl (fun _ => ?_) (fun c => absurd (bI_eq0.mpr hn) c)
        refine z_iload_n dX2_readOne_49 rfl rfl ?_
        refine y_callS (as := [_]) CX2_opensOne LX2_147 SX2_opensOne dX2_readOne_50 rfl (Nat.le_of_ble_eq_true rfl) (Nat.le_of_ble_eq_true rfl) (by omega) (c_opensOne (d := 0) (by omega)) (rok_z bI_01) (q.hg q hN hS) ?_
        refine z_if_ne dX2_readOne_53 rfl (fun c => absurd (bI_eq0.mpr hk) c) (fun _ => ?_)
        refine z_aload_n dX2_readOne_56 rfl rfl ?_
        refine z_iconst (v := 1) dX2_readOne_57 (by decide) ?_
        refine y_callV (as := [_]) CX2_blame LX2_59 IX2_blame VX2_blame ⟨rfl, Nat.le_of_ble_eq_true rfl⟩ dX2_readOne_58 cr.1 rfl (Nat.le_of_ble_eq_true rfl) (Nat.le_of_ble_eq_true rfl) (by omega) s1 rok_v (q.hg q1 hN hS) ?_
        refine z_goto dX2_readOne_61 rfl ?_
        refine z_vret dX2_readOne_90 ?_
        exact hQ

