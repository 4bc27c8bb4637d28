/-! the class's reader: its loops along the descent (wip/whole/gen9w.py) -/
def BLProduct (h0 : Hp) (K W : Nat → Nat) (so n f : Nat) : Prop := ∀ op i c a z j e h k (v : Option Value), op ≤ 8 → k ≤ i → RQ h0 K n a 0 i c h → rd K W so f 2 op i c = some (z, j, e) → ∃ h1, RQ h0 K n a z j e h1 ∧ ∀ N S Q, pn h0 ≤ N → ps h0 ≤ S → Q none h1 → T (16 * (8 - op) + 4) N S mX2_readProduct 7 [some (.ref 472), some (.int (nI op)), some (.int (nI k)), v] [] h Q
theorem c_mProduct {h0 : Hp} {K W : Nat → Nat} {so n f : Nat} (ct : CT h0 K W n) (b : BM h0 K W so n f 0 mX2_readOne 3) (bl : BLProduct h0 K W so n f) : BM h0 K W so n (f + 1) 1 mX2_readProduct 4 := by
  intro op i c a z j e h ho q' hr
  have q := q'.1.1
  have n3 := ct.2.2.1
  have cr := q.cr ct
  have k54 := ct.2.2.2.2.2.2 i
  have in1 := q.2.2.2.2.2.2.2.1
  have z9 := q.2.2.2.2.2.2.2.2
  have hr : bnd (rd K W so f 0 op i c) (rd K W so f 2 op) = some (z, j, e) := hr
  obtain ⟨z1, i1, c1, e1⟩ := bnd_sm hr
  rw [e1] at hr
  obtain ⟨h1, s1, q1⟩ := b op i c a z1 i1 c1 h ho q' e1
  by_cases hz : z1 = 0
  · subst hz
    rw [bnd_0] at hr
    obtain ⟨h2, q2, t2⟩ := bl op i1 c1 a z j e h1 0 none ho (Nat.zero_le _) q1 hr
    refine ⟨h2, ?_, q2⟩
    intro N S Q hN hS hQ
    have hN : pn h0 ≤ N := ss_n q2.1.1.1 hN
    have hS : ps h0 ≤ S := ss_s q2.1.1.1 hS
    refine z_aload_n dX2_readProduct_0 rfl rfl ?_
    refine z_iload_n dX2_readProduct_1 rfl rfl ?_
    refine y_callV (as := [_]) CX2_readOne LX2_137 IX2_readOne VX2_readOne ⟨rfl, Nat.le_of_ble_eq_true rfl⟩ dX2_readProduct_2 cr.1 rfl (Nat.le_of_ble_eq_true rfl) (Nat.le_of_ble_eq_true rfl) (by omega) s1 rok_v (q.hg q1.1.1 hN hS) ?_
    refine z_iconst (v := 0) dX2_readProduct_5 (by decide) ?_
    refine z_istore_n dX2_readProduct_6 rfl (Nat.le_of_ble_eq_true rfl) ?_
    exact t2 N S Q hN hS hQ
  · rw [bnd_z hz] at hr
    cases hr
    refine ⟨h1, ?_, q1⟩
    intro N S Q hN hS hQ
    have hN : pn h0 ≤ N := ss_n q1.1.1.1 hN
    have hS : ps h0 ≤ S := ss_s q1.1.1.1 hS
    refine z_aload_n dX2_readProduct_0 rfl rfl ?_
    refine z_iload_n dX2_readProduct_1 rfl rfl ?_
    refine y_callV (as := [_]) CX2_readOne LX2_137 IX2_readOne VX2_readOne ⟨rfl, Nat.le_of_ble_eq_true rfl⟩ dX2_readProduct_2 cr.1 rfl (Nat.le_of_ble_eq_true rfl) (Nat.le_of_ble_eq_true rfl) (by omega) s1 rok_v (q.hg q1.1.1 hN hS) ?_
    refine z_iconst (v := 0) dX2_readProduct_5 (by decide) ?_
    refine z_istore_n dX2_readProduct_6 rfl (Nat.le_of_ble_eq_true rfl) ?_
    exact l_zProduct (k := 0) ct q1.1.1 (by omega) (by omega) hQ

theorem c_lProduct {h0 : Hp} {K W : Nat → Nat} {so n f : Nat} (ct : CT h0 K W n) (b : BM h0 K W so n f 0 mX2_readOne 3) (bl : BLProduct h0 K W so n f) : BLProduct h0 K W so n (f + 1) := by
  intro op i c a z j e h k v ho hk q' hr
  have q := q'.1.1
  have n3 := ct.2.2.1
  have cr := q.cr ct
  have k54 := ct.2.2.2.2.2.2 i
  have in1 := q.2.2.2.2.2.2.2.1
  have z9 := q.2.2.2.2.2.2.2.2
  have hr : rdPL K (rd K W so f) op i c = some (z, j, e) := hr
  unfold rdPL at hr
  by_cases hc : K i = 46 ∨ K i = 47
  · rw [if_pos hc] at hr
    have iN : i < n := ct.lt i (by omega)
    obtain ⟨ha, sa, qa, ka⟩ := a_adv (d := 0) ct q iN
    have qA : RQ h0 K n (a + 1) 0 (i + 1) c ha := q'.mv qa ka (by have := q'.2; omega)
    obtain ⟨z1, i1, c1, e1⟩ := bnd_sm hr
    rw [e1] at hr
    obtain ⟨f1, f2, f3, f4⟩ := rd_fact (so := so) (W := W) ct.lt f 0 op (i + 1) c (by omega) (by omega) (pre_t (by omega)) _ _ _ e1
    obtain ⟨h1, s1, q1⟩ := b op (i + 1) c (a + 1) z1 i1 c1 ha ho qA e1
    by_cases hz : z1 = 0
    · subst hz
      rw [bnd_0] at hr
      obtain ⟨h2, s2, q2⟩ := q_em0 (d := 0) (x := (- nI (K i))) ct q1 (show _ = cnv (K i - 38) 0 by rcases hc with hc | hc <;> rw [hc] <;> rfl)
      obtain ⟨h3, q3, t3⟩ := bl op i1 _ a z j e h2 (k + 1) (some (.int (nI (K i)))) ho (by omega) q2 hr
      refine ⟨h3, q3, ?_⟩
      intro N S Q hN hS hQ
      rcases hc with hc | hc
      · skip
        refine z_iload_n dX2_readProduct_7 rfl rfl ?_
        refine z_sipush (v := 300) dX2_readProduct_8 (by decide) ?_
        refine z_icmp_ge dX2_readProduct_11 rfl (fun c => absurd c (fun w => absurd ((nI_leI (a := 300) (by omega) (by omega)).mp w) (by omega))) (fun _ => ?_)
        refine z_aload_n dX2_readProduct_14 rfl rfl ?_
        refine y_getI FX2_40 dX2_readProduct_15 (Or.inl rfl) cr.1 ?_
        refine z_eqi (y := nI (0)) q.2.2.2.2.2.2.1 ?_
        refine z_if_ne dX2_readProduct_18 rfl (fun c => absurd (rfl) c) (fun _ => ?_)
        refine z_aload_n dX2_readProduct_21 rfl rfl ?_
        refine y_getI FX2_43 dX2_readProduct_22 (Or.inl rfl) cr.1 ?_
        refine z_eqi (y := nI (K i)) q.2.2.2.2.2.1 ?_
        refine z_bipush (v := 46) dX2_readProduct_25 (by decide) ?_
        refine z_icmp_eq dX2_readProduct_27 rfl (fun _ => ?_) (fun c => absurd (congrArg nI hc) c)
        refine z_aload_n dX2_readProduct_39 rfl rfl ?_
        refine y_getI FX2_43 dX2_readProduct_40 (Or.inl rfl) cr.1 ?_
        refine z_eqi (y := nI (K i)) q.2.2.2.2.2.1 ?_
        refine z_istore_n dX2_readProduct_43 rfl (Nat.le_of_ble_eq_true rfl) ?_
        refine z_aload_n dX2_readProduct_44 rfl rfl ?_
        refine y_callV (as := []) CX2_advance LX2_37 IX2_advance VX2_advance ⟨rfl, Nat.le_of_ble_eq_true rfl⟩ dX2_readProduct_45 cr.1 rfl (Nat.le_of_ble_eq_true rfl) (Nat.le_of_ble_eq_true rfl) (by omega) sa rok_v (q.hg qa hN hS) ?_
        refine z_aload_n dX2_readProduct_48 rfl rfl ?_
        refine z_iload_n dX2_readProduct_49 rfl rfl ?_
        refine y_callV (as := [_]) CX2_readOne LX2_137 IX2_readOne VX2_readOne ⟨rfl, Nat.le_of_ble_eq_true rfl⟩ dX2_readProduct_50 ((q.ss qa).O cr.1) rfl (Nat.le_of_ble_eq_true rfl) (Nat.le_of_ble_eq_true rfl) (by omega) s1 rok_v (qa.hg q1.1.1 hN hS) ?_
        refine z_aload_n dX2_readProduct_53 rfl rfl ?_
        refine z_iload_n dX2_readProduct_54 rfl rfl ?_
        refine z_ineg dX2_readProduct_55 ?_
        refine y_callV (as := [_]) CX2_emit LX2_134 IX2_emit VX2_emit ⟨rfl, Nat.le_of_ble_eq_true rfl⟩ dX2_readProduct_56 ((q.ss q1.1.1).O cr.1) rfl (Nat.le_of_ble_eq_true rfl) (Nat.le_of_ble_eq_true rfl) (by omega) s2 rok_v (q1.1.1.hg q2.1.1 hN hS) ?_
        refine z_iinc dX2_readProduct_59 rfl (nI_1 k) (Nat.le_of_ble_eq_true rfl) ?_
        refine z_goto dX2_readProduct_62 rfl ?_
        exact t3 N S Q hN hS hQ
      · skip
        refine z_iload_n dX2_readProduct_7 rfl rfl ?_
        refine z_sipush (v := 300) dX2_readProduct_8 (by decide) ?_
        refine z_icmp_ge dX2_readProduct_11 rfl (fun c => absurd c (fun w => absurd ((nI_leI (a := 300) (by omega) (by omega)).mp w) (by omega))) (fun _ => ?_)
        refine z_aload_n dX2_readProduct_14 rfl rfl ?_
        refine y_getI FX2_40 dX2_readProduct_15 (Or.inl rfl) cr.1 ?_
        refine z_eqi (y := nI (0)) q.2.2.2.2.2.2.1 ?_
        refine z_if_ne dX2_readProduct_18 rfl (fun c => absurd (rfl) c) (fun _ => ?_)
        refine z_aload_n dX2_readProduct_21 rfl rfl ?_
        refine y_getI FX2_43 dX2_readProduct_22 (Or.inl rfl) cr.1 ?_
        refine z_eqi (y := nI (K i)) q.2.2.2.2.2.1 ?_
        refine z_bipush (v := 46) dX2_readProduct_25 (by decide) ?_
        refine z_icmp_eq dX2_readProduct_27 rfl (fun c => absurd c (fun w => absurd ((nI_eq (b := 46) (by omega) (by omega)).mp w) (by omega))) (fun _ => ?_)
        refine z_aload_n dX2_readProduct_30 rfl rfl ?_
        refine y_getI FX2_43 dX2_readProduct_31 (Or.inl rfl) cr.1 ?_
        refine z_eqi (y := nI (K i)) q.2.2.2.2.2.1 ?_
        refine z_bipush (v := 47) dX2_readProduct_34 (by decide) ?_
        refine z_icmp_ne dX2_readProduct_36 rfl (fun c => absurd (congrArg nI hc) c) (fun _ => ?_)
        refine z_aload_n dX2_readProduct_39 rfl rfl ?_
        refine y_getI FX2_43 dX2_readProduct_40 (Or.inl rfl) cr.1 ?_
        refine z_eqi (y := nI (K i)) q.2.2.2.2.2.1 ?_
        refine z_istore_n dX2_readProduct_43 rfl (Nat.le_of_ble_eq_true rfl) ?_
        refine z_aload_n dX2_readProduct_44 rfl rfl ?_
        refine y_callV (as := []) CX2_advance LX2_37 IX2_advance VX2_advance ⟨rfl, Nat.le_of_ble_eq_true rfl⟩ dX2_readProduct_45 cr.1 rfl (Nat.le_of_ble_eq_true rfl) (Nat.le_of_ble_eq_true rfl) (by omega) sa rok_v (q.hg qa hN hS) ?_
        refine z_aload_n dX2_readProduct_48 rfl rfl ?_
        refine z_iload_n dX2_readProduct_49 rfl rfl ?_
        refine y_callV (as := [_]) CX2_readOne LX2_137 IX2_readOne VX2_readOne ⟨rfl, Nat.le_of_ble_eq_true rfl⟩ dX2_readProduct_50 ((q.ss qa).O cr.1) rfl (Nat.le_of_ble_eq_true rfl) (Nat.le_of_ble_eq_true rfl) (by omega) s1 rok_v (qa.hg q1.1.1 hN hS) ?_
        refine z_aload_n dX2_readProduct_53 rfl rfl ?_
        refine z_iload_n dX2_readProduct_54 rfl rfl ?_
        refine z_ineg dX2_readProduct_55 ?_
        refine y_callV (as := [_]) CX2_emit LX2_134 IX2_emit VX2_emit ⟨rfl, Nat.le_of_ble_eq_true rfl⟩ dX2_readProduct_56 ((q.ss q1.1.1).O cr.1) rfl (Nat.le_of_ble_eq_true rfl) (Nat.le_of_ble_eq_true rfl) (by omega) s2 rok_v (q1.1.1.hg q2.1.1 hN hS) ?_
        refine z_iinc dX2_readProduct_59 rfl (nI_1 k) (Nat.le_of_ble_eq_true rfl) ?_
        refine z_goto dX2_readProduct_62 rfl ?_
        exact t3 N S Q hN hS hQ
    · rw [bnd_z hz] at hr
      cases hr
      have s2 := q_em1 (d := 0) (x := (- nI (K i))) ct q1.1.1 (by omega)
      have q2 := q1
      refine ⟨h1, q1.le (by omega), ?_⟩
      intro N S Q hN hS hQ
      rcases hc with hc | hc
      · skip
        refine z_iload_n dX2_readProduct_7 rfl rfl ?_
        refine z_sipush (v := 300) dX2_readProduct_8 (by decide) ?_
        refine z_icmp_ge dX2_readProduct_11 rfl (fun c => absurd c (fun w => absurd ((nI_leI (a := 300) (by omega) (by omega)).mp w) (by omega))) (fun _ => ?_)
        refine z_aload_n dX2_readProduct_14 rfl rfl ?_
        refine y_getI FX2_40 dX2_readProduct_15 (Or.inl rfl) cr.1 ?_
        refine z_eqi (y := nI (0)) q.2.2.2.2.2.2.1 ?_
        refine z_if_ne dX2_readProduct_18 rfl (fun c => absurd (rfl) c) (fun _ => ?_)
        refine z_aload_n dX2_readProduct_21 rfl rfl ?_
        refine y_getI FX2_43 dX2_readProduct_22 (Or.inl rfl) cr.1 ?_
        refine z_eqi (y := nI (K i)) q.2.2.2.2.2.1 ?_
        refine z_bipush (v := 46) dX2_readProduct_25 (by decide) ?_
        refine z_icmp_eq dX2_readProduct_27 rfl (fun _ => ?_) (fun c => absurd (congrArg nI hc) c)
        refine z_aload_n dX2_readProduct_39 rfl rfl ?_
        refine y_getI FX2_43 dX2_readProduct_40 (Or.inl rfl) cr.1 ?_
        refine z_eqi (y := nI (K i)) q.2.2.2.2.2.1 ?_
        refine z_istore_n dX2_readProduct_43 rfl (Nat.le_of_ble_eq_true rfl) ?_
        refine z_aload_n dX2_readProduct_44 rfl rfl ?_
        refine y_callV (as := []) CX2_advance LX2_37 IX2_advance VX2_advance ⟨rfl, Nat.le_of_ble_eq_true rfl⟩ dX2_readProduct_45 cr.1 rfl (Nat.le_of_ble_eq_true rfl) (Nat.le_of_ble_eq_true rfl) (by omega) sa rok_v (q.hg qa hN hS) ?_
        refine z_aload_n dX2_readProduct_48 rfl rfl ?_
        refine z_iload_n dX2_readProduct_49 rfl rfl ?_
        refine y_callV (as := [_]) CX2_readOne LX2_137 IX2_readOne VX2_readOne ⟨rfl, Nat.le_of_ble_eq_true rfl⟩ dX2_readProduct_50 ((q.ss qa).O cr.1) rfl (Nat.le_of_ble_eq_true rfl) (Nat.le_of_ble_eq_true rfl) (by omega) s1 rok_v (qa.hg q1.1.1 hN hS) ?_
        refine z_aload_n dX2_readProduct_53 rfl rfl ?_
        refine z_iload_n dX2_readProduct_54 rfl rfl ?_
        refine z_ineg dX2_readProduct_55 ?_
        refine y_callV (as := [_]) CX2_emit LX2_134 IX2_emit VX2_emit ⟨rfl, Nat.le_of_ble_eq_true rfl⟩ dX2_readProduct_56 ((q.ss q1.1.1).O cr.1) rfl (Nat.le_of_ble_eq_true rfl) (Nat.le_of_ble_eq_true rfl) (by omega) s2 rok_v (q1.1.1.hg q2.1.1 hN hS) ?_
        refine z_iinc dX2_readProduct_59 rfl (nI_1 k) (Nat.le_of_ble_eq_true rfl) ?_
        refine z_goto dX2_readProduct_62 rfl ?_
        exact l_zProduct (k := k + 1) ct q1.1.1 (by omega) (by omega) hQ
      · skip
        refine z_iload_n dX2_readProduct_7 rfl rfl ?_
        refine z_sipush (v := 300) dX2_readProduct_8 (by decide) ?_
        refine z_icmp_ge dX2_readProduct_11 rfl (fun c => absurd c (fun w => absurd ((nI_leI (a := 300) (by omega) (by omega)).mp w) (by omega))) (fun _ => ?_)
        refine z_aload_n dX2_readProduct_14 rfl rfl ?_
        refine y_getI FX2_40 dX2_readProduct_15 (Or.inl rfl) cr.1 ?_
        refine z_eqi (y := nI (0)) q.2.2.2.2.2.2.1 ?_
        refine z_if_ne dX2_readProduct_18 rfl (fun c => absurd (rfl) c) (fun _ => ?_)
        refine z_aload_n dX2_readProduct_21 rfl rfl ?_
        refine y_getI FX2_43 dX2_readProduct_22 (Or.inl rfl) cr.1 ?_
        refine z_eqi (y := nI (K i)) q.2.2.2.2.2.1 ?_
        refine z_bipush (v := 46) dX2_readProduct_25 (by decide) ?_
        refine z_icmp_eq dX2_readProduct_27 rfl (fun c => absurd c (fun w => absurd ((nI_eq (b := 46) (by omega) (by omega)).mp w) (by omega))) (fun _ => ?_)
        refine z_aload_n dX2_readProduct_30 rfl rfl ?_
        refine y_getI FX2_43 dX2_readProduct_31 (Or.inl rfl) cr.1 ?_
        refine z_eqi (y := nI (K i)) q.2.2.2.2.2.1 ?_
        refine z_bipush (v := 47) dX2_readProduct_34 (by decide) ?_
        refine z_icmp_ne dX2_readProduct_36 rfl (fun c => absurd (congrArg nI hc) c) (fun _ => ?_)
        refine z_aload_n dX2_readProduct_39 rfl rfl ?_
        refine y_getI FX2_43 dX2_readProduct_40 (Or.inl rfl) cr.1 ?_
        refine z_eqi (y := nI (K i)) q.2.2.2.2.2.1 ?_
        refine z_istore_n dX2_readProduct_43 rfl (Nat.le_of_ble_eq_true rfl) ?_
        refine z_aload_n dX2_readProduct_44 rfl rfl ?_
        refine y_callV (as := []) CX2_advance LX2_37 IX2_advance VX2_advance ⟨rfl, Nat.le_of_ble_eq_true rfl⟩ dX2_readProduct_45 cr.1 rfl (Nat.le_of_ble_eq_true rfl) (Nat.le_of_ble_eq_true rfl) (by omega) sa rok_v (q.hg qa hN hS) ?_
        refine z_aload_n dX2_readProduct_48 rfl rfl ?_
        refine z_iload_n dX2_readProduct_49 rfl rfl ?_
        refine y_callV (as := [_]) CX2_readOne LX2_137 IX2_readOne VX2_readOne ⟨rfl, Nat.le_of_ble_eq_true rfl⟩ dX2_readProduct_50 ((q.ss qa).O cr.1) rfl (Nat.le_of_ble_eq_true rfl) (Nat.le_of_ble_eq_true rfl) (by omega) s1 rok_v (qa.hg q1.1.1 hN hS) ?_
        refine z_aload_n dX2_readProduct_53 rfl rfl ?_
        refine z_iload_n dX2_readProduct_54 rfl rfl ?_
        refine z_ineg dX2_readProduct_55 ?_
        refine y_callV (as := [_]) CX2_emit LX2_134 IX2_emit VX2_emit ⟨rfl, Nat.le_of_ble_eq_true rfl⟩ dX2_readProduct_56 ((q.ss q1.1.1).O cr.1) rfl (Nat.le_of_ble_eq_true rfl) (Nat.le_of_ble_eq_true rfl) (by omega) s2 rok_v (q1.1.1.hg q2.1.1 hN hS) ?_
        refine z_iinc dX2_readProduct_59 rfl (nI_1 k) (Nat.le_of_ble_eq_true rfl) ?_
        refine z_goto dX2_readProduct_62 rfl ?_
        exact l_zProduct (k := k + 1) ct q1.1.1 (by omega) (by omega) hQ
  · rw [if_neg hc] at hr
    cases hr
    refine ⟨h, q', ?_⟩
    intro N S Q hN hS hQ
    by_cases hk3 : k < 300
    · skip
      refine z_iload_n dX2_readProduct_7 rfl rfl ?_
      refine z_sipush (v := 300) dX2_readProduct_8 (by decide) ?_
      refine z_icmp_ge dX2_readProduct_11 rfl (fun c => absurd c (fun w => absurd ((nI_leI (a := 300) (by omega) (by omega)).mp w) (by omega))) (fun _ => ?_)
      refine z_aload_n dX2_readProduct_14 rfl rfl ?_
      refine y_getI FX2_40 dX2_readProduct_15 (Or.inl rfl) cr.1 ?_
      refine z_eqi (y := nI (0)) q.2.2.2.2.2.2.1 ?_
      refine z_if_ne dX2_readProduct_18 rfl (fun c => absurd (rfl) c) (fun _ => ?_)
      refine z_aload_n dX2_readProduct_21 rfl rfl ?_
      refine y_getI FX2_43 dX2_readProduct_22 (Or.inl rfl) cr.1 ?_
      refine z_eqi (y := nI (K i)) q.2.2.2.2.2.1 ?_
      refine z_bipush (v := 46) dX2_readProduct_25 (by decide) ?_
      refine z_icmp_eq dX2_readProduct_27 rfl (fun c => absurd c (fun w => hc (Or.inl ((nI_eq (b := 46) (by omega) (by omega)).mp w)))) (fun _ => ?_)
      refine z_aload_n dX2_readProduct_30 rfl rfl ?_
      refine y_getI FX2_43 dX2_readProduct_31 (Or.inl rfl) cr.1 ?_
      refine z_eqi (y := nI (K i)) q.2.2.2.2.2.1 ?_
      refine z_bipush (v := 47) dX2_readProduct_34 (by decide) ?_
      refine z_icmp_ne dX2_readProduct_36 rfl (fun _ => ?_) (fun c => absurd c (fun w => hc (Or.inr ((nI_eq (b := 47) (by omega) (by omega)).mp w))))
      refine z_vret dX2_readProduct_65 ?_
      exact hQ
    · skip
      refine z_iload_n dX2_readProduct_7 rfl rfl ?_
      refine z_sipush (v := 300) dX2_readProduct_8 (by decide) ?_
      refine z_icmp_ge dX2_readProduct_11 rfl (fun _ => ?_) (fun c => absurd ((nI_leI (a := 300) (by omega) (by omega)).mpr (by omega)) c)
      refine z_vret dX2_readProduct_65 ?_
      exact hQ

def BLSum (h0 : Hp) (K W : Nat → Nat) (so n f : Nat) : Prop := ∀ op i c a z j e h k (v : Option Value), op ≤ 8 → k ≤ i → RQ h0 K n a 0 i c h → rd K W so f 4 op i c = some (z, j, e) → ∃ h1, RQ h0 K n a z j e h1 ∧ ∀ N S Q, pn h0 ≤ N → ps h0 ≤ S → Q none h1 → T (16 * (8 - op) + 5) N S mX2_readSum 7 [some (.ref 472), some (.int (nI op)), some (.int (nI k)), v] [] h Q
theorem c_mSum {h0 : Hp} {K W : Nat → Nat} {so n f : Nat} (ct : CT h0 K W n) (b : BM h0 K W so n f 1 mX2_readProduct 4) (bl : BLSum h0 K W so n f) : BM h0 K W so n (f + 1) 3 mX2_readSum 5 := by
  intro op i c a z j e h ho q' hr
  have q := q'.1.1
  have n3 := ct.2.2.1
  have cr := q.cr ct
  have k54 := ct.2.2.2.2.2.2 i
  have in1 := q.2.2.2.2.2.2.2.1
  have z9 := q.2.2.2.2.2.2.2.2
  have hr : bnd (rd K W so f 1 op i c) (rd K W so f 4 op) = some (z, j, e) := hr
  obtain ⟨z1, i1, c1, e1⟩ := bnd_sm hr
  rw [e1] at hr
  obtain ⟨h1, s1, q1⟩ := b op i c a z1 i1 c1 h ho q' e1
  by_cases hz : z1 = 0
  · subst hz
    rw [bnd_0] at hr
    obtain ⟨h2, q2, t2⟩ := bl op i1 c1 a z j e h1 0 none ho (Nat.zero_le _) q1 hr
    refine ⟨h2, ?_, q2⟩
    intro N S Q hN hS hQ
    have hN : pn h0 ≤ N := ss_n q2.1.1.1 hN
    have hS : ps h0 ≤ S := ss_s q2.1.1.1 hS
    refine z_aload_n dX2_readSum_0 rfl rfl ?_
    refine z_iload_n dX2_readSum_1 rfl rfl ?_
    refine y_callV (as := [_]) CX2_readProduct LX2_131 IX2_readProduct VX2_readProduct ⟨rfl, Nat.le_of_ble_eq_true rfl⟩ dX2_readSum_2 cr.1 rfl (Nat.le_of_ble_eq_true rfl) (Nat.le_of_ble_eq_true rfl) (by omega) s1 rok_v (q.hg q1.1.1 hN hS) ?_
    refine z_iconst (v := 0) dX2_readSum_5 (by decide) ?_
    refine z_istore_n dX2_readSum_6 rfl (Nat.le_of_ble_eq_true rfl) ?_
    exact t2 N S Q hN hS hQ
  · rw [bnd_z hz] at hr
    cases hr
    refine ⟨h1, ?_, q1⟩
    intro N S Q hN hS hQ
    have hN : pn h0 ≤ N := ss_n q1.1.1.1 hN
    have hS : ps h0 ≤ S := ss_s q1.1.1.1 hS
    refine z_aload_n dX2_readSum_0 rfl rfl ?_
    refine z_iload_n dX2_readSum_1 rfl rfl ?_
    refine y_callV (as := [_]) CX2_readProduct LX2_131 IX2_readProduct VX2_readProduct ⟨rfl, Nat.le_of_ble_eq_true rfl⟩ dX2_readSum_2 cr.1 rfl (Nat.le_of_ble_eq_true rfl) (Nat.le_of_ble_eq_true rfl) (by omega) s1 rok_v (q.hg q1.1.1 hN hS) ?_
    refine z_iconst (v := 0) dX2_readSum_5 (by decide) ?_
    refine z_istore_n dX2_readSum_6 rfl (Nat.le_of_ble_eq_true rfl) ?_
    exact l_zSum (k := 0) ct q1.1.1 (by omega) (by omega) hQ

theorem c_lSum {h0 : Hp} {K W : Nat → Nat} {so n f : Nat} (ct : CT h0 K W n) (b : BM h0 K W so n f 1 mX2_readProduct 4) (bl : BLSum h0 K W so n f) : BLSum h0 K W so n (f + 1) := by
  intro op i c a z j e h k v ho hk q' hr
  have q := q'.1.1
  have n3 := ct.2.2.1
  have cr := q.cr ct
  have k54 := ct.2.2.2.2.2.2 i
  have in1 := q.2.2.2.2.2.2.2.1
  have z9 := q.2.2.2.2.2.2.2.2
  have hr : rdSL K (rd K W so f) op i c = some (z, j, e) := hr
  unfold rdSL at hr
  by_cases hc : K i = 44 ∨ K i = 45
  · rw [if_pos hc] at hr
    have iN : i < n := ct.lt i (by omega)
    obtain ⟨ha, sa, qa, ka⟩ := a_adv (d := 0) ct q iN
    have qA : RQ h0 K n (a + 1) 0 (i + 1) c ha := q'.mv qa ka (by have := q'.2; omega)
    obtain ⟨z1, i1, c1, e1⟩ := bnd_sm hr
    rw [e1] at hr
    obtain ⟨f1, f2, f3, f4⟩ := rd_fact (so := so) (W := W) ct.lt f 1 op (i + 1) c (by omega) (by omega) (pre_t (by omega)) _ _ _ e1
    obtain ⟨h1, s1, q1⟩ := b op (i + 1) c (a + 1) z1 i1 c1 ha ho qA e1
    by_cases hz : z1 = 0
    · subst hz
      rw [bnd_0] at hr
      obtain ⟨h2, s2, q2⟩ := q_em0 (d := 0) (x := (- nI (K i))) ct q1 (show _ = cnv (K i - 38) 0 by rcases hc with hc | hc <;> rw [hc] <;> rfl)
      obtain ⟨h3, q3, t3⟩ := bl op i1 _ a z j e h2 (k + 1) (some (.int (nI (K i)))) ho (by omega) q2 hr
      refine ⟨h3, q3, ?_⟩
      intro N S Q hN hS hQ
      rcases hc with hc | hc
      · skip
        refine z_iload_n dX2_readSum_7 rfl rfl ?_
        refine z_sipush (v := 300) dX2_readSum_8 (by decide) ?_
        refine z_icmp_ge dX2_readSum_11 rfl (fun c => absurd c (fun w => absurd ((nI_leI (a := 300) (by omega) (by omega)).mp w) (by omega))) (fun _ => ?_)
        refine z_aload_n dX2_readSum_14 rfl rfl ?_
        refine y_getI FX2_40 dX2_readSum_15 (Or.inl rfl) cr.1 ?_
        refine z_eqi (y := nI (0)) q.2.2.2.2.2.2.1 ?_
        refine z_if_ne dX2_readSum_18 rfl (fun c => absurd (rfl) c) (fun _ => ?_)
        refine z_aload_n dX2_readSum_21 rfl rfl ?_
        refine y_getI FX2_43 dX2_readSum_22 (Or.inl rfl) cr.1 ?_
        refine z_eqi (y := nI (K i)) q.2.2.2.2.2.1 ?_
        refine z_bipush (v := 44) dX2_readSum_25 (by decide) ?_
        refine z_icmp_eq dX2_readSum_27 rfl (fun _ => ?_) (fun c => absurd (congrArg nI hc) c)
        refine z_aload_n dX2_readSum_39 rfl rfl ?_
        refine y_getI FX2_43 dX2_readSum_40 (Or.inl rfl) cr.1 ?_
        refine z_eqi (y := nI (K i)) q.2.2.2.2.2.1 ?_
        refine z_istore_n dX2_readSum_43 rfl (Nat.le_of_ble_eq_true rfl) ?_
        refine z_aload_n dX2_readSum_44 rfl rfl ?_
        refine y_callV (as := []) CX2_advance LX2_37 IX2_advance VX2_advance ⟨rfl, Nat.le_of_ble_eq_true rfl⟩ dX2_readSum_45 cr.1 rfl (Nat.le_of_ble_eq_true rfl) (Nat.le_of_ble_eq_true rfl) (by omega) sa rok_v (q.hg qa hN hS) ?_
        refine z_aload_n dX2_readSum_48 rfl rfl ?_
        refine z_iload_n dX2_readSum_49 rfl rfl ?_
        refine y_callV (as := [_]) CX2_readProduct LX2_131 IX2_readProduct VX2_readProduct ⟨rfl, Nat.le_of_ble_eq_true rfl⟩ dX2_readSum_50 ((q.ss qa).O cr.1) rfl (Nat.le_of_ble_eq_true rfl) (Nat.le_of_ble_eq_true rfl) (by omega) s1 rok_v (qa.hg q1.1.1 hN hS) ?_
        refine z_aload_n dX2_readSum_53 rfl rfl ?_
        refine z_iload_n dX2_readSum_54 rfl rfl ?_
        refine z_ineg dX2_readSum_55 ?_
        refine y_callV (as := [_]) CX2_emit LX2_134 IX2_emit VX2_emit ⟨rfl, Nat.le_of_ble_eq_true rfl⟩ dX2_readSum_56 ((q.ss q1.1.1).O cr.1) rfl (Nat.le_of_ble_eq_true rfl) (Nat.le_of_ble_eq_true rfl) (by omega) s2 rok_v (q1.1.1.hg q2.1.1 hN hS) ?_
        refine z_iinc dX2_readSum_59 rfl (nI_1 k) (Nat.le_of_ble_eq_true rfl) ?_
        refine z_goto dX2_readSum_62 rfl ?_
        exact t3 N S Q hN hS hQ
      · skip
        refine z_iload_n dX2_readSum_7 rfl rfl ?_
        refine z_sipush (v := 300) dX2_readSum_8 (by decide) ?_
        refine z_icmp_ge dX2_readSum_11 rfl (fun c => absurd c (fun w => absurd ((nI_leI (a := 300) (by omega) (by omega)).mp w) (by omega))) (fun _ => ?_)
        refine z_aload_n dX2_readSum_14 rfl rfl ?_
        refine y_getI FX2_40 dX2_readSum_15 (Or.inl rfl) cr.1 ?_
        refine z_eqi (y := nI (0)) q.2.2.2.2.2.2.1 ?_
        refine z_if_ne dX2_readSum_18 rfl (fun c => absurd (rfl) c) (fun _ => ?_)
        refine z_aload_n dX2_readSum_21 rfl rfl ?_
        refine y_getI FX2_43 dX2_readSum_22 (Or.inl rfl) cr.1 ?_
        refine z_eqi (y := nI (K i)) q.2.2.2.2.2.1 ?_
        refine z_bipush (v := 44) dX2_readSum_25 (by decide) ?_
        refine z_icmp_eq dX2_readSum_27 rfl (fun c => absurd c (fun w => absurd ((nI_eq (b := 44) (by omega) (by omega)).mp w) (by omega))) (fun _ => ?_)
        refine z_aload_n dX2_readSum_30 rfl rfl ?_
        refine y_getI FX2_43 dX2_readSum_31 (Or.inl rfl) cr.1 ?_
        refine z_eqi (y := nI (K i)) q.2.2.2.2.2.1 ?_
        refine z_bipush (v := 45) dX2_readSum_34 (by decide) ?_
        refine z_icmp_ne dX2_readSum_36 rfl (fun c => absurd (congrArg nI hc) c) (fun _ => ?_)
        refine z_aload_n dX2_readSum_39 rfl rfl ?_
        refine y_getI FX2_43 dX2_readSum_40 (Or.inl rfl) cr.1 ?_
        refine z_eqi (y := nI (K i)) q.2.2.2.2.2.1 ?_
        refine z_istore_n dX2_readSum_43 rfl (Nat.le_of_ble_eq_true rfl) ?_
        refine z_aload_n dX2_readSum_44 rfl rfl ?_
        refine y_callV (as := []) CX2_advance LX2_37 IX2_advance VX2_advance ⟨rfl, Nat.le_of_ble_eq_true rfl⟩ dX2_readSum_45 cr.1 rfl (Nat.le_of_ble_eq_true rfl) (Nat.le_of_ble_eq_true rfl) (by omega) sa rok_v (q.hg qa hN hS) ?_
        refine z_aload_n dX2_readSum_48 rfl rfl ?_
        refine z_iload_n dX2_readSum_49 rfl rfl ?_
        refine y_callV (as := [_]) CX2_readProduct LX2_131 IX2_readProduct VX2_readProduct ⟨rfl, Nat.le_of_ble_eq_true rfl⟩ dX2_readSum_50 ((q.ss qa).O cr.1) rfl (Nat.le_of_ble_eq_true rfl) (Nat.le_of_ble_eq_true rfl) (by omega) s1 rok_v (qa.hg q1.1.1 hN hS) ?_
        refine z_aload_n dX2_readSum_53 rfl rfl ?_
        refine z_iload_n dX2_readSum_54 rfl rfl ?_
        refine z_ineg dX2_readSum_55 ?_
        refine y_callV (as := [_]) CX2_emit LX2_134 IX2_emit VX2_emit ⟨rfl, Nat.le_of_ble_eq_true rfl⟩ dX2_readSum_56 ((q.ss q1.1.1).O cr.1) rfl (Nat.le_of_ble_eq_true rfl) (Nat.le_of_ble_eq_true rfl) (by omega) s2 rok_v (q1.1.1.hg q2.1.1 hN hS) ?_
        refine z_iinc dX2_readSum_59 rfl (nI_1 k) (Nat.le_of_ble_eq_true rfl) ?_
        refine z_goto dX2_readSum_62 rfl ?_
        exact t3 N S Q hN hS hQ
    · rw [bnd_z hz] at hr
      cases hr
      have s2 := q_em1 (d := 0) (x := (- nI (K i))) ct q1.1.1 (by omega)
      have q2 := q1
      refine ⟨h1, q1.le (by omega), ?_⟩
      intro N S Q hN hS hQ
      rcases hc with hc | hc
      · skip
        refine z_iload_n dX2_readSum_7 rfl rfl ?_
        refine z_sipush (v := 300) dX2_readSum_8 (by decide) ?_
        refine z_icmp_ge dX2_readSum_11 rfl (fun c => absurd c (fun w => absurd ((nI_leI (a := 300) (by omega) (by omega)).mp w) (by omega))) (fun _ => ?_)
        refine z_aload_n dX2_readSum_14 rfl rfl ?_
        refine y_getI FX2_40 dX2_readSum_15 (Or.inl rfl) cr.1 ?_
        refine z_eqi (y := nI (0)) q.2.2.2.2.2.2.1 ?_
        refine z_if_ne dX2_readSum_18 rfl (fun c => absurd (rfl) c) (fun _ => ?_)
        refine z_aload_n dX2_readSum_21 rfl rfl ?_
        refine y_getI FX2_43 dX2_readSum_22 (Or.inl rfl) cr.1 ?_
        refine z_eqi (y := nI (K i)) q.2.2.2.2.2.1 ?_
        refine z_bipush (v := 44) dX2_readSum_25 (by decide) ?_
        refine z_icmp_eq dX2_readSum_27 rfl (fun _ => ?_) (fun c => absurd (congrArg nI hc) c)
        refine z_aload_n dX2_readSum_39 rfl rfl ?_
        refine y_getI FX2_43 dX2_readSum_40 (Or.inl rfl) cr.1 ?_
        refine z_eqi (y := nI (K i)) q.2.2.2.2.2.1 ?_
        refine z_istore_n dX2_readSum_43 rfl (Nat.le_of_ble_eq_true rfl) ?_
        refine z_aload_n dX2_readSum_44 rfl rfl ?_
        refine y_callV (as := []) CX2_advance LX2_37 IX2_advance VX2_advance ⟨rfl, Nat.le_of_ble_eq_true rfl⟩ dX2_readSum_45 cr.1 rfl (Nat.le_of_ble_eq_true rfl) (Nat.le_of_ble_eq_true rfl) (by omega) sa rok_v (q.hg qa hN hS) ?_
        refine z_aload_n dX2_readSum_48 rfl rfl ?_
        refine z_iload_n dX2_readSum_49 rfl rfl ?_
        refine y_callV (as := [_]) CX2_readProduct LX2_131 IX2_readProduct VX2_readProduct ⟨rfl, Nat.le_of_ble_eq_true rfl⟩ dX2_readSum_50 ((q.ss qa).O cr.1) rfl (Nat.le_of_ble_eq_true rfl) (Nat.le_of_ble_eq_true rfl) (by omega) s1 rok_v (qa.hg q1.1.1 hN hS) ?_
        refine z_aload_n dX2_readSum_53 rfl rfl ?_
        refine z_iload_n dX2_readSum_54 rfl rfl ?_
        refine z_ineg dX2_readSum_55 ?_
        refine y_callV (as := [_]) CX2_emit LX2_134 IX2_emit VX2_emit ⟨rfl, Nat.le_of_ble_eq_true rfl⟩ dX2_readSum_56 ((q.ss q1.1.1).O cr.1) rfl (Nat.le_of_ble_eq_true rfl) (Nat.le_of_ble_eq_true rfl) (by omega) s2 rok_v (q1.1.1.hg q2.1.1 hN hS) ?_
        refine z_iinc dX2_readSum_59 rfl (nI_1 k) (Nat.le_of_ble_eq_true rfl) ?_
        refine z_goto dX2_readSum_62 rfl ?_
        exact l_zSum (k := k + 1) ct q1.1.1 (by omega) (by omega) hQ
      · skip
        refine z_iload_n dX2_readSum_7 rfl rfl ?_
        refine z_sipush (v := 300) dX2_readSum_8 (by decide) ?_
        refine z_icmp_ge dX2_readSum_11 rfl (fun c => absurd c (fun w => absurd ((nI_leI (a := 300) (by omega) (by omega)).mp w) (by omega))) (fun _ => ?_)
        refine z_aload_n dX2_readSum_14 rfl rfl ?_
        refine y_getI FX2_40 dX2_readSum_15 (Or.inl rfl) cr.1 ?_
        refine z_eqi (y := nI (0)) q.2.2.2.2.2.2.1 ?_
        refine z_if_ne dX2_readSum_18 rfl (fun c => absurd (rfl) c) (fun _ => ?_)
        refine z_aload_n dX2_readSum_21 rfl rfl ?_
        refine y_getI FX2_43 dX2_readSum_22 (Or.inl rfl) cr.1 ?_
        refine z_eqi (y := nI (K i)) q.2.2.2.2.2.1 ?_
        refine z_bipush (v := 44) dX2_readSum_25 (by decide) ?_
        refine z_icmp_eq dX2_readSum_27 rfl (fun c => absurd c (fun w => absurd ((nI_eq (b := 44) (by omega) (by omega)).mp w) (by omega))) (fun _ => ?_)
        refine z_aload_n dX2_readSum_30 rfl rfl ?_
        refine y_getI FX2_43 dX2_readSum_31 (Or.inl rfl) cr.1 ?_
        refine z_eqi (y := nI (K i)) q.2.2.2.2.2.1 ?_
        refine z_bipush (v := 45) dX2_readSum_34 (by decide) ?_
        refine z_icmp_ne dX2_readSum_36 rfl (fun c => absurd (congrArg nI hc) c) (fun _ => ?_)
        refine z_aload_n dX2_readSum_39 rfl rfl ?_
        refine y_getI FX2_43 dX2_readSum_40 (Or.inl rfl) cr.1 ?_
        refine z_eqi (y := nI (K i)) q.2.2.2.2.2.1 ?_
        refine z_istore_n dX2_readSum_43 rfl (Nat.le_of_ble_eq_true rfl) ?_
        refine z_aload_n dX2_readSum_44 rfl rfl ?_
        refine y_callV (as := []) CX2_advance LX2_37 IX2_advance VX2_advance ⟨rfl, Nat.le_of_ble_eq_true rfl⟩ dX2_readSum_45 cr.1 rfl (Nat.le_of_ble_eq_true rfl) (Nat.le_of_ble_eq_true rfl) (by omega) sa rok_v (q.hg qa hN hS) ?_
        refine z_aload_n dX2_readSum_48 rfl rfl ?_
        refine z_iload_n dX2_readSum_49 rfl rfl ?_
        refine y_callV (as := [_]) CX2_readProduct LX2_131 IX2_readProduct VX2_readProduct ⟨rfl, Nat.le_of_ble_eq_true rfl⟩ dX2_readSum_50 ((q.ss qa).O cr.1) rfl (Nat.le_of_ble_eq_true rfl) (Nat.le_of_ble_eq_true rfl) (by omega) s1 rok_v (qa.hg q1.1.1 hN hS) ?_
        refine z_aload_n dX2_readSum_53 rfl rfl ?_
        refine z_iload_n dX2_readSum_54 rfl rfl ?_
        refine z_ineg dX2_readSum_55 ?_
        refine y_callV (as := [_]) CX2_emit LX2_134 IX2_emit VX2_emit ⟨rfl, Nat.le_of_ble_eq_true rfl⟩ dX2_readSum_56 ((q.ss q1.1.1).O cr.1) rfl (Nat.le_of_ble_eq_true rfl) (Nat.le_of_ble_eq_true rfl) (by omega) s2 rok_v (q1.1.1.hg q2.1.1 hN hS) ?_
        refine z_iinc dX2_readSum_59 rfl (nI_1 k) (Nat.le_of_ble_eq_true rfl) ?_
        refine z_goto dX2_readSum_62 rfl ?_
        exact l_zSum (k := k + 1) ct q1.1.1 (by omega) (by omega) hQ
  · rw [if_neg hc] at hr
    cases hr
    refine ⟨h, q', ?_⟩
    intro N S Q hN hS hQ
    by_cases hk3 : k < 300
    · skip
      refine z_iload_n dX2_readSum_7 rfl rfl ?_
      refine z_sipush (v := 300) dX2_readSum_8 (by decide) ?_
      refine z_icmp_ge dX2_readSum_11 rfl (fun c => absurd c (fun w => absurd ((nI_leI (a := 300) (by omega) (by omega)).mp w) (by omega))) (fun _ => ?_)
      refine z_aload_n dX2_readSum_14 rfl rfl ?_
      refine y_getI FX2_40 dX2_readSum_15 (Or.inl rfl) cr.1 ?_
      refine z_eqi (y := nI (0)) q.2.2.2.2.2.2.1 ?_
      refine z_if_ne dX2_readSum_18 rfl (fun c => absurd (rfl) c) (fun _ => ?_)
      refine z_aload_n dX2_readSum_21 rfl rfl ?_
      refine y_getI FX2_43 dX2_readSum_22 (Or.inl rfl) cr.1 ?_
      refine z_eqi (y := nI (K i)) q.2.2.2.2.2.1 ?_
      refine z_bipush (v := 44) dX2_readSum_25 (by decide) ?_
      refine z_icmp_eq dX2_readSum_27 rfl (fun c => absurd c (fun w => hc (Or.inl ((nI_eq (b := 44) (by omega) (by omega)).mp w)))) (fun _ => ?_)
      refine z_aload_n dX2_readSum_30 rfl rfl ?_
      refine y_getI FX2_43 dX2_readSum_31 (Or.inl rfl) cr.1 ?_
      refine z_eqi (y := nI (K i)) q.2.2.2.2.2.1 ?_
      refine z_bipush (v := 45) dX2_readSum_34 (by decide) ?_
      refine z_icmp_ne dX2_readSum_36 rfl (fun _ => ?_) (fun c => absurd c (fun w => hc (Or.inr ((nI_eq (b := 45) (by omega) (by omega)).mp w))))
      refine z_vret dX2_readSum_65 ?_
      exact hQ
    · skip
      refine z_iload_n dX2_readSum_7 rfl rfl ?_
      refine z_sipush (v := 300) dX2_readSum_8 (by decide) ?_
      refine z_icmp_ge dX2_readSum_11 rfl (fun _ => ?_) (fun c => absurd ((nI_leI (a := 300) (by omega) (by omega)).mpr (by omega)) c)
      refine z_vret dX2_readSum_65 ?_
      exact hQ

def BLBoth (h0 : Hp) (K W : Nat → Nat) (so n f : Nat) : Prop := ∀ op i c a z j e h k, op ≤ 8 → k ≤ i → RQ h0 K n a 0 i c h → rd K W so f 8 op i c = some (z, j, e) → ∃ h1, RQ h0 K n a z j e h1 ∧ ∀ N S Q, pn h0 ≤ N → ps h0 ≤ S → Q none h1 → T (16 * (8 - op) + 8) N S mX2_readBoth 7 [some (.ref 472), some (.int (nI op)), some (.int (nI k))] [] h Q
theorem c_mBoth {h0 : Hp} {K W : Nat → Nat} {so n f : Nat} (ct : CT h0 K W n) (b : BM h0 K W so n f 6 mX2_readAsk 7) (bl : BLBoth h0 K W so n f) : BM h0 K W so n (f + 1) 7 mX2_readBoth 8 := by
  intro op i c a z j e h ho q' hr
  have q := q'.1.1
  have n3 := ct.2.2.1
  have cr := q.cr ct
  have k54 := ct.2.2.2.2.2.2 i
  have in1 := q.2.2.2.2.2.2.2.1
  have z9 := q.2.2.2.2.2.2.2.2
  have hr : bnd (rd K W so f 6 op i c) (rd K W so f 8 op) = some (z, j, e) := hr
  obtain ⟨z1, i1, c1, e1⟩ := bnd_sm hr
  rw [e1] at hr
  obtain ⟨h1, s1, q1⟩ := b op i c a z1 i1 c1 h ho q' e1
  by_cases hz : z1 = 0
  · subst hz
    rw [bnd_0] at hr
    obtain ⟨h2, q2, t2⟩ := bl op i1 c1 a z j e h1 0 ho (Nat.zero_le _) q1 hr
    refine ⟨h2, ?_, q2⟩
    intro N S Q hN hS hQ
    have hN : pn h0 ≤ N := ss_n q2.1.1.1 hN
    have hS : ps h0 ≤ S := ss_s q2.1.1.1 hS
    refine z_aload_n dX2_readBoth_0 rfl rfl ?_
    refine z_iload_n dX2_readBoth_1 rfl rfl ?_
    refine y_callV (as := [_]) CX2_readAsk LX2_162 IX2_readAsk VX2_readAsk ⟨rfl, Nat.le_of_ble_eq_true rfl⟩ dX2_readBoth_2 cr.1 rfl (Nat.le_of_ble_eq_true rfl) (Nat.le_of_ble_eq_true rfl) (by omega) s1 rok_v (q.hg q1.1.1 hN hS) ?_
    refine z_iconst (v := 0) dX2_readBoth_5 (by decide) ?_
    refine z_istore_n dX2_readBoth_6 rfl (Nat.le_of_ble_eq_true rfl) ?_
    exact t2 N S Q hN hS hQ
  · rw [bnd_z hz] at hr
    cases hr
    refine ⟨h1, ?_, q1⟩
    intro N S Q hN hS hQ
    have hN : pn h0 ≤ N := ss_n q1.1.1.1 hN
    have hS : ps h0 ≤ S := ss_s q1.1.1.1 hS
    refine z_aload_n dX2_readBoth_0 rfl rfl ?_
    refine z_iload_n dX2_readBoth_1 rfl rfl ?_
    refine y_callV (as := [_]) CX2_readAsk LX2_162 IX2_readAsk VX2_readAsk ⟨rfl, Nat.le_of_ble_eq_true rfl⟩ dX2_readBoth_2 cr.1 rfl (Nat.le_of_ble_eq_true rfl) (Nat.le_of_ble_eq_true rfl) (by omega) s1 rok_v (q.hg q1.1.1 hN hS) ?_
    refine z_iconst (v := 0) dX2_readBoth_5 (by decide) ?_
    refine z_istore_n dX2_readBoth_6 rfl (Nat.le_of_ble_eq_true rfl) ?_
    exact l_zBoth (k := 0) ct q1.1.1 (by omega) (by omega) hQ

theorem c_lBoth {h0 : Hp} {K W : Nat → Nat} {so n f : Nat} (ct : CT h0 K W n) (b : BM h0 K W so n f 6 mX2_readAsk 7) (bl : BLBoth h0 K W so n f) : BLBoth h0 K W so n (f + 1) := by
  intro op i c a z j e h k ho hk q' hr
  have q := q'.1.1
  have n3 := ct.2.2.1
  have cr := q.cr ct
  have k54 := ct.2.2.2.2.2.2 i
  have in1 := q.2.2.2.2.2.2.2.1
  have z9 := q.2.2.2.2.2.2.2.2
  have hr : rdBL K (rd K W so f) op i c = some (z, j, e) := hr
  unfold rdBL at hr
  by_cases hc : K i = 28
  · rw [if_pos hc] at hr
    have iN : i < n := ct.lt i (by omega)
    obtain ⟨ha, sa, qa, ka⟩ := a_adv (d := 0) ct q iN
    have qA : RQ h0 K n (a + 1) 0 (i + 1) c ha := q'.mv qa ka (by have := q'.2; omega)
    obtain ⟨z1, i1, c1, e1⟩ := bnd_sm hr
    rw [e1] at hr
    obtain ⟨f1, f2, f3, f4⟩ := rd_fact (so := so) (W := W) ct.lt f 6 op (i + 1) c (by omega) (by omega) (pre_t (by omega)) _ _ _ e1
    obtain ⟨h1, s1, q1⟩ := b op (i + 1) c (a + 1) z1 i1 c1 ha ho qA e1
    by_cases hz : z1 = 0
    · subst hz
      rw [bnd_0] at hr
      obtain ⟨h2, s2, q2⟩ := q_em0 (d := 0) (x := (-28)) ct q1 (show _ = cnv 21 0 by decide)
      obtain ⟨h3, q3, t3⟩ := bl op i1 _ a z j e h2 (k + 1) ho (by omega) q2 hr
      refine ⟨h3, q3, ?_⟩
      intro N S Q hN hS hQ
      refine z_iload_n dX2_readBoth_7 rfl rfl ?_
      refine z_sipush (v := 300) dX2_readBoth_8 (by decide) ?_
      refine z_icmp_ge dX2_readBoth_11 rfl (fun c => absurd c (fun w => absurd ((nI_leI (a := 300) (by omega) (by omega)).mp w) (by omega))) (fun _ => ?_)
      refine z_aload_n dX2_readBoth_14 rfl rfl ?_
      refine y_getI FX2_40 dX2_readBoth_15 (Or.inl rfl) cr.1 ?_
      refine z_eqi (y := nI (0)) q.2.2.2.2.2.2.1 ?_
      refine z_if_ne dX2_readBoth_18 rfl (fun c => absurd (rfl) c) (fun _ => ?_)
      refine z_aload_n dX2_readBoth_21 rfl rfl ?_
      refine y_getI FX2_43 dX2_readBoth_22 (Or.inl rfl) cr.1 ?_
      refine z_eqi (y := nI (K i)) q.2.2.2.2.2.1 ?_
      refine z_bipush (v := 28) dX2_readBoth_25 (by decide) ?_
      refine z_icmp_ne dX2_readBoth_27 rfl (fun c => absurd (congrArg nI hc) c) (fun _ => ?_)
      refine z_aload_n dX2_readBoth_30 rfl rfl ?_
      refine y_callV (as := []) CX2_advance LX2_37 IX2_advance VX2_advance ⟨rfl, Nat.le_of_ble_eq_true rfl⟩ dX2_readBoth_31 cr.1 rfl (Nat.le_of_ble_eq_true rfl) (Nat.le_of_ble_eq_true rfl) (by omega) sa rok_v (q.hg qa hN hS) ?_
      refine z_aload_n dX2_readBoth_34 rfl rfl ?_
      refine z_iload_n dX2_readBoth_35 rfl rfl ?_
      refine y_callV (as := [_]) CX2_readAsk LX2_162 IX2_readAsk VX2_readAsk ⟨rfl, Nat.le_of_ble_eq_true rfl⟩ dX2_readBoth_36 ((q.ss qa).O cr.1) rfl (Nat.le_of_ble_eq_true rfl) (Nat.le_of_ble_eq_true rfl) (by omega) s1 rok_v (qa.hg q1.1.1 hN hS) ?_
      refine z_aload_n dX2_readBoth_39 rfl rfl ?_
      refine z_bipush (v := -28) dX2_readBoth_40 (by decide) ?_
      refine y_callV (as := [_]) CX2_emit LX2_134 IX2_emit VX2_emit ⟨rfl, Nat.le_of_ble_eq_true rfl⟩ dX2_readBoth_42 ((q.ss q1.1.1).O cr.1) rfl (Nat.le_of_ble_eq_true rfl) (Nat.le_of_ble_eq_true rfl) (by omega) s2 rok_v (q1.1.1.hg q2.1.1 hN hS) ?_
      refine z_iinc dX2_readBoth_45 rfl (nI_1 k) (Nat.le_of_ble_eq_true rfl) ?_
      refine z_goto dX2_readBoth_48 rfl ?_
      exact t3 N S Q hN hS hQ
    · rw [bnd_z hz] at hr
      cases hr
      have s2 := q_em1 (d := 0) (x := (-28)) ct q1.1.1 (by omega)
      have q2 := q1
      refine ⟨h1, q1.le (by omega), ?_⟩
      intro N S Q hN hS hQ
      refine z_iload_n dX2_readBoth_7 rfl rfl ?_
      refine z_sipush (v := 300) dX2_readBoth_8 (by decide) ?_
      refine z_icmp_ge dX2_readBoth_11 rfl (fun c => absurd c (fun w => absurd ((nI_leI (a := 300) (by omega) (by omega)).mp w) (by omega))) (fun _ => ?_)
      refine z_aload_n dX2_readBoth_14 rfl rfl ?_
      refine y_getI FX2_40 dX2_readBoth_15 (Or.inl rfl) cr.1 ?_
      refine z_eqi (y := nI (0)) q.2.2.2.2.2.2.1 ?_
      refine z_if_ne dX2_readBoth_18 rfl (fun c => absurd (rfl) c) (fun _ => ?_)
      refine z_aload_n dX2_readBoth_21 rfl rfl ?_
      refine y_getI FX2_43 dX2_readBoth_22 (Or.inl rfl) cr.1 ?_
      refine z_eqi (y := nI (K i)) q.2.2.2.2.2.1 ?_
      refine z_bipush (v := 28) dX2_readBoth_25 (by decide) ?_
      refine z_icmp_ne dX2_readBoth_27 rfl (fun c => absurd (congrArg nI hc) c) (fun _ => ?_)
      refine z_aload_n dX2_readBoth_30 rfl rfl ?_
      refine y_callV (as := []) CX2_advance LX2_37 IX2_advance VX2_advance ⟨rfl, Nat.le_of_ble_eq_true rfl⟩ dX2_readBoth_31 cr.1 rfl (Nat.le_of_ble_eq_true rfl) (Nat.le_of_ble_eq_true rfl) (by omega) sa rok_v (q.hg qa hN hS) ?_
      refine z_aload_n dX2_readBoth_34 rfl rfl ?_
      refine z_iload_n dX2_readBoth_35 rfl rfl ?_
      refine y_callV (as := [_]) CX2_readAsk LX2_162 IX2_readAsk VX2_readAsk ⟨rfl, Nat.le_of_ble_eq_true rfl⟩ dX2_readBoth_36 ((q.ss qa).O cr.1) rfl (Nat.le_of_ble_eq_true rfl) (Nat.le_of_ble_eq_true rfl) (by omega) s1 rok_v (qa.hg q1.1.1 hN hS) ?_
      refine z_aload_n dX2_readBoth_39 rfl rfl ?_
      refine z_bipush (v := -28) dX2_readBoth_40 (by decide) ?_
      refine y_callV (as := [_]) CX2_emit LX2_134 IX2_emit VX2_emit ⟨rfl, Nat.le_of_ble_eq_true rfl⟩ dX2_readBoth_42 ((q.ss q1.1.1).O cr.1) rfl (Nat.le_of_ble_eq_true rfl) (Nat.le_of_ble_eq_true rfl) (by omega) s2 rok_v (q1.1.1.hg q2.1.1 hN hS) ?_
      refine z_iinc dX2_readBoth_45 rfl (nI_1 k) (Nat.le_of_ble_eq_true rfl) ?_
      refine z_goto dX2_readBoth_48 rfl ?_
      exact l_zBoth (k := k + 1) ct q1.1.1 (by omega) (by omega) hQ
  · rw [if_neg hc] at hr
    cases hr
    refine ⟨h, q', ?_⟩
    intro N S Q hN hS hQ
    by_cases hk3 : k < 300
    · skip
      refine z_iload_n dX2_readBoth_7 rfl rfl ?_
      refine z_sipush (v := 300) dX2_readBoth_8 (by decide) ?_
      refine z_icmp_ge dX2_readBoth_11 rfl (fun c => absurd c (fun w => absurd ((nI_leI (a := 300) (by omega) (by omega)).mp w) (by omega))) (fun _ => ?_)
      refine z_aload_n dX2_readBoth_14 rfl rfl ?_
      refine y_getI FX2_40 dX2_readBoth_15 (Or.inl rfl) cr.1 ?_
      refine z_eqi (y := nI (0)) q.2.2.2.2.2.2.1 ?_
      refine z_if_ne dX2_readBoth_18 rfl (fun c => absurd (rfl) c) (fun _ => ?_)
      refine z_aload_n dX2_readBoth_21 rfl rfl ?_
      refine y_getI FX2_43 dX2_readBoth_22 (Or.inl rfl) cr.1 ?_
      refine z_eqi (y := nI (K i)) q.2.2.2.2.2.1 ?_
      refine z_bipush (v := 28) dX2_readBoth_25 (by decide) ?_
      refine z_icmp_ne dX2_readBoth_27 rfl (fun _ => ?_) (fun c => absurd c (fun w => hc ((nI_eq (b := 28) (by omega) (by omega)).mp w)))
      refine z_vret dX2_readBoth_51 ?_
      exact hQ
    · skip
      refine z_iload_n dX2_readBoth_7 rfl rfl ?_
      refine z_sipush (v := 300) dX2_readBoth_8 (by decide) ?_
      refine z_icmp_ge dX2_readBoth_11 rfl (fun _ => ?_) (fun c => absurd ((nI_leI (a := 300) (by omega) (by omega)).mpr (by omega)) c)
      refine z_vret dX2_readBoth_51 ?_
      exact hQ

def BLEither (h0 : Hp) (K W : Nat → Nat) (so n f : Nat) : Prop := ∀ op i c a z j e h k, op ≤ 8 → k ≤ i → RQ h0 K n a 0 i c h → rd K W so f 10 op i c = some (z, j, e) → ∃ h1, RQ h0 K n a z j e h1 ∧ ∀ N S Q, pn h0 ≤ N → ps h0 ≤ S → Q none h1 → T (16 * (8 - op) + 9) N S mX2_readEither 7 [some (.ref 472), some (.int (nI op)), some (.int (nI k))] [] h Q
theorem c_mEither {h0 : Hp} {K W : Nat → Nat} {so n f : Nat} (ct : CT h0 K W n) (b : BM h0 K W so n f 7 mX2_readBoth 8) (bl : BLEither h0 K W so n f) : BM h0 K W so n (f + 1) 9 mX2_readEither 9 := by
  intro op i c a z j e h ho q' hr
  have q := q'.1.1
  have n3 := ct.2.2.1
  have cr := q.cr ct
  have k54 := ct.2.2.2.2.2.2 i
  have in1 := q.2.2.2.2.2.2.2.1
  have z9 := q.2.2.2.2.2.2.2.2
  have hr : bnd (rd K W so f 7 op i c) (rd K W so f 10 op) = some (z, j, e) := hr
  obtain ⟨z1, i1, c1, e1⟩ := bnd_sm hr
  rw [e1] at hr
  obtain ⟨h1, s1, q1⟩ := b op i c a z1 i1 c1 h ho q' e1
  by_cases hz : z1 = 0
  · subst hz
    rw [bnd_0] at hr
    obtain ⟨h2, q2, t2⟩ := bl op i1 c1 a z j e h1 0 ho (Nat.zero_le _) q1 hr
    refine ⟨h2, ?_, q2⟩
    intro N S Q hN hS hQ
    have hN : pn h0 ≤ N := ss_n q2.1.1.1 hN
    have hS : ps h0 ≤ S := ss_s q2.1.1.1 hS
    refine z_aload_n dX2_readEither_0 rfl rfl ?_
    refine z_iload_n dX2_readEither_1 rfl rfl ?_
    refine y_callV (as := [_]) CX2_readBoth LX2_159 IX2_readBoth VX2_readBoth ⟨rfl, Nat.le_of_ble_eq_true rfl⟩ dX2_readEither_2 cr.1 rfl (Nat.le_of_ble_eq_true rfl) (Nat.le_of_ble_eq_true rfl) (by omega) s1 rok_v (q.hg q1.1.1 hN hS) ?_
    refine z_iconst (v := 0) dX2_readEither_5 (by decide) ?_
    refine z_istore_n dX2_readEither_6 rfl (Nat.le_of_ble_eq_true rfl) ?_
    exact t2 N S Q hN hS hQ
  · rw [bnd_z hz] at hr
    cases hr
    refine ⟨h1, ?_, q1⟩
    intro N S Q hN hS hQ
    have hN : pn h0 ≤ N := ss_n q1.1.1.1 hN
    have hS : ps h0 ≤ S := ss_s q1.1.1.1 hS
    refine z_aload_n dX2_readEither_0 rfl rfl ?_
    refine z_iload_n dX2_readEither_1 rfl rfl ?_
    refine y_callV (as := [_]) CX2_readBoth LX2_159 IX2_readBoth VX2_readBoth ⟨rfl, Nat.le_of_ble_eq_true rfl⟩ dX2_readEither_2 cr.1 rfl (Nat.le_of_ble_eq_true rfl) (Nat.le_of_ble_eq_true rfl) (by omega) s1 rok_v (q.hg q1.1.1 hN hS) ?_
    refine z_iconst (v := 0) dX2_readEither_5 (by decide) ?_
    refine z_istore_n dX2_readEither_6 rfl (Nat.le_of_ble_eq_true rfl) ?_
    exact l_zEither (k := 0) ct q1.1.1 (by omega) (by omega) hQ

theorem c_lEither {h0 : Hp} {K W : Nat → Nat} {so n f : Nat} (ct : CT h0 K W n) (b : BM h0 K W so n f 7 mX2_readBoth 8) (bl : BLEither h0 K W so n f) : BLEither h0 K W so n (f + 1) := by
  intro op i c a z j e h k ho hk q' hr
  have q := q'.1.1
  have n3 := ct.2.2.1
  have cr := q.cr ct
  have k54 := ct.2.2.2.2.2.2 i
  have in1 := q.2.2.2.2.2.2.2.1
  have z9 := q.2.2.2.2.2.2.2.2
  have hr : rdEL K (rd K W so f) op i c = some (z, j, e) := hr
  unfold rdEL at hr
  by_cases hc : K i = 27
  · rw [if_pos hc] at hr
    have iN : i < n := ct.lt i (by omega)
    obtain ⟨ha, sa, qa, ka⟩ := a_adv (d := 0) ct q iN
    have qA : RQ h0 K n (a + 1) 0 (i + 1) c ha := q'.mv qa ka (by have := q'.2; omega)
    obtain ⟨z1, i1, c1, e1⟩ := bnd_sm hr
    rw [e1] at hr
    obtain ⟨f1, f2, f3, f4⟩ := rd_fact (so := so) (W := W) ct.lt f 7 op (i + 1) c (by omega) (by omega) (pre_t (by omega)) _ _ _ e1
    obtain ⟨h1, s1, q1⟩ := b op (i + 1) c (a + 1) z1 i1 c1 ha ho qA e1
    by_cases hz : z1 = 0
    · subst hz
      rw [bnd_0] at hr
      obtain ⟨h2, s2, q2⟩ := q_em0 (d := 0) (x := (-27)) ct q1 (show _ = cnv 22 0 by decide)
      obtain ⟨h3, q3, t3⟩ := bl op i1 _ a z j e h2 (k + 1) ho (by omega) q2 hr
      refine ⟨h3, q3, ?_⟩
      intro N S Q hN hS hQ
      refine z_iload_n dX2_readEither_7 rfl rfl ?_
      refine z_sipush (v := 300) dX2_readEither_8 (by decide) ?_
      refine z_icmp_ge dX2_readEither_11 rfl (fun c => absurd c (fun w => absurd ((nI_leI (a := 300) (by omega) (by omega)).mp w) (by omega))) (fun _ => ?_)
      refine z_aload_n dX2_readEither_14 rfl rfl ?_
      refine y_getI FX2_40 dX2_readEither_15 (Or.inl rfl) cr.1 ?_
      refine z_eqi (y := nI (0)) q.2.2.2.2.2.2.1 ?_
      refine z_if_ne dX2_readEither_18 rfl (fun c => absurd (rfl) c) (fun _ => ?_)
      refine z_aload_n dX2_readEither_21 rfl rfl ?_
      refine y_getI FX2_43 dX2_readEither_22 (Or.inl rfl) cr.1 ?_
      refine z_eqi (y := nI (K i)) q.2.2.2.2.2.1 ?_
      refine z_bipush (v := 27) dX2_readEither_25 (by decide) ?_
      refine z_icmp_ne dX2_readEither_27 rfl (fun c => absurd (congrArg nI hc) c) (fun _ => ?_)
      refine z_aload_n dX2_readEither_30 rfl rfl ?_
      refine y_callV (as := []) CX2_advance LX2_37 IX2_advance VX2_advance ⟨rfl, Nat.le_of_ble_eq_true rfl⟩ dX2_readEither_31 cr.1 rfl (Nat.le_of_ble_eq_true rfl) (Nat.le_of_ble_eq_true rfl) (by omega) sa rok_v (q.hg qa hN hS) ?_
      refine z_aload_n dX2_readEither_34 rfl rfl ?_
      refine z_iload_n dX2_readEither_35 rfl rfl ?_
      refine y_callV (as := [_]) CX2_readBoth LX2_159 IX2_readBoth VX2_readBoth ⟨rfl, Nat.le_of_ble_eq_true rfl⟩ dX2_readEither_36 ((q.ss qa).O cr.1) rfl (Nat.le_of_ble_eq_true rfl) (Nat.le_of_ble_eq_true rfl) (by omega) s1 rok_v (qa.hg q1.1.1 hN hS) ?_
      refine z_aload_n dX2_readEither_39 rfl rfl ?_
      refine z_bipush (v := -27) dX2_readEither_40 (by decide) ?_
      refine y_callV (as := [_]) CX2_emit LX2_134 IX2_emit VX2_emit ⟨rfl, Nat.le_of_ble_eq_true rfl⟩ dX2_readEither_42 ((q.ss q1.1.1).O cr.1) rfl (Nat.le_of_ble_eq_true rfl) (Nat.le_of_ble_eq_true rfl) (by omega) s2 rok_v (q1.1.1.hg q2.1.1 hN hS) ?_
      refine z_iinc dX2_readEither_45 rfl (nI_1 k) (Nat.le_of_ble_eq_true rfl) ?_
      refine z_goto dX2_readEither_48 rfl ?_
      exact t3 N S Q hN hS hQ
    · rw [bnd_z hz] at hr
      cases hr
      have s2 := q_em1 (d := 0) (x := (-27)) ct q1.1.1 (by omega)
      have q2 := q1
      refine ⟨h1, q1.le (by omega), ?_⟩
      intro N S Q hN hS hQ
      refine z_iload_n dX2_readEither_7 rfl rfl ?_
      refine z_sipush (v := 300) dX2_readEither_8 (by decide) ?_
      refine z_icmp_ge dX2_readEither_11 rfl (fun c => absurd c (fun w => absurd ((nI_leI (a := 300) (by omega) (by omega)).mp w) (by omega))) (fun _ => ?_)
      refine z_aload_n dX2_readEither_14 rfl rfl ?_
      refine y_getI FX2_40 dX2_readEither_15 (Or.inl rfl) cr.1 ?_
      refine z_eqi (y := nI (0)) q.2.2.2.2.2.2.1 ?_
      refine z_if_ne dX2_readEither_18 rfl (fun c => absurd (rfl) c) (fun _ => ?_)
      refine z_aload_n dX2_readEither_21 rfl rfl ?_
      refine y_getI FX2_43 dX2_readEither_22 (Or.inl rfl) cr.1 ?_
      refine z_eqi (y := nI (K i)) q.2.2.2.2.2.1 ?_
      refine z_bipush (v := 27) dX2_readEither_25 (by decide) ?_
      refine z_icmp_ne dX2_readEither_27 rfl (fun c => absurd (congrArg nI hc) c) (fun _ => ?_)
      refine z_aload_n dX2_readEither_30 rfl rfl ?_
      refine y_callV (as := []) CX2_advance LX2_37 IX2_advance VX2_advance ⟨rfl, Nat.le_of_ble_eq_true rfl⟩ dX2_readEither_31 cr.1 rfl (Nat.le_of_ble_eq_true rfl) (Nat.le_of_ble_eq_true rfl) (by omega) sa rok_v (q.hg qa hN hS) ?_
      refine z_aload_n dX2_readEither_34 rfl rfl ?_
      refine z_iload_n dX2_readEither_35 rfl rfl ?_
      refine y_callV (as := [_]) CX2_readBoth LX2_159 IX2_readBoth VX2_readBoth ⟨rfl, Nat.le_of_ble_eq_true rfl⟩ dX2_readEither_36 ((q.ss qa).O cr.1) rfl (Nat.le_of_ble_eq_true rfl) (Nat.le_of_ble_eq_true rfl) (by omega) s1 rok_v (qa.hg q1.1.1 hN hS) ?_
      refine z_aload_n dX2_readEither_39 rfl rfl ?_
      refine z_bipush (v := -27) dX2_readEither_40 (by decide) ?_
      refine y_callV (as := [_]) CX2_emit LX2_134 IX2_emit VX2_emit ⟨rfl, Nat.le_of_ble_eq_true rfl⟩ dX2_readEither_42 ((q.ss q1.1.1).O cr.1) rfl (Nat.le_of_ble_eq_true rfl) (Nat.le_of_ble_eq_true rfl) (by omega) s2 rok_v (q1.1.1.hg q2.1.1 hN hS) ?_
      refine z_iinc dX2_readEither_45 rfl (nI_1 k) (Nat.le_of_ble_eq_true rfl) ?_
      refine z_goto dX2_readEither_48 rfl ?_
      exact l_zEither (k := k + 1) ct q1.1.1 (by omega) (by omega) hQ
  · rw [if_neg hc] at hr
    cases hr
    refine ⟨h, q', ?_⟩
    intro N S Q hN hS hQ
    by_cases hk3 : k < 300
    · skip
      refine z_iload_n dX2_readEither_7 rfl rfl ?_
      refine z_sipush (v := 300) dX2_readEither_8 (by decide) ?_
      refine z_icmp_ge dX2_readEither_11 rfl (fun c => absurd c (fun w => absurd ((nI_leI (a := 300) (by omega) (by omega)).mp w) (by omega))) (fun _ => ?_)
      refine z_aload_n dX2_readEither_14 rfl rfl ?_
      refine y_getI FX2_40 dX2_readEither_15 (Or.inl rfl) cr.1 ?_
      refine z_eqi (y := nI (0)) q.2.2.2.2.2.2.1 ?_
      refine z_if_ne dX2_readEither_18 rfl (fun c => absurd (rfl) c) (fun _ => ?_)
      refine z_aload_n dX2_readEither_21 rfl rfl ?_
      refine y_getI FX2_43 dX2_readEither_22 (Or.inl rfl) cr.1 ?_
      refine z_eqi (y := nI (K i)) q.2.2.2.2.2.1 ?_
      refine z_bipush (v := 27) dX2_readEither_25 (by decide) ?_
      refine z_icmp_ne dX2_readEither_27 rfl (fun _ => ?_) (fun c => absurd c (fun w => hc ((nI_eq (b := 27) (by omega) (by omega)).mp w)))
      refine z_vret dX2_readEither_51 ?_
      exact hQ
    · skip
      refine z_iload_n dX2_readEither_7 rfl rfl ?_
      refine z_sipush (v := 300) dX2_readEither_8 (by decide) ?_
      refine z_icmp_ge dX2_readEither_11 rfl (fun _ => ?_) (fun c => absurd ((nI_leI (a := 300) (by omega) (by omega)).mpr (by omega)) c)
      refine z_vret dX2_readEither_51 ?_
      exact hQ

