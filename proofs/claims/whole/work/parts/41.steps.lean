/-! the market of the class: steps kept and taken back (walks by program: wip/whole/gen41.py) -/
theorem MV.past {h h1 : Hp} {b : Nat} {a a' : Fl} {tx : Nat → Nat → Prop} (hv : MV h b a tx) (hR : pR h1 = pR h) (fr : ∀ k, b + 1 ≤ k → k ≤ b + 17 → pI h1 k = pI h k) (f9 : pI h1 b 9 = pI h b 9) (f10 : pI h1 b 10 = pI h b 10) (g : ∀ i, (i < 190 ∧ i ≠ 4) ∨ 4810 ≤ i → a' i = a i) (he : ∃ e, e < 30 ∧ pI h1 b 2 = nI e ∧ ∀ t, t < a' 4 → WV h1 (b + 18 + 7 * ((e + t) % 30)) (fun i => a' (190 + 154 * t + i))) (h3 : pI h1 b 3 = nI (a' 4)) (hw : ∀ i, i < 30 → ∃ W, WV h1 (b + 18 + 7 * i) W) : MV h1 b a' tx := by
  obtain ⟨m1, m2, m3, m4, m5, m6, m7, m8, m9, m10, m11⟩ := hv
  refine ⟨?_, he, h3, hw, ?_, ?_, ?_, ?_, ?_, ?_, ?_⟩
  · refine (m1.fr (fun k h1 h2 => fr k (by omega) (by omega))).cg (fun i hi => ?_)
    rw [snap_wx, snap_wx]
    refine (g _ ?_).symm
    have q := wx_lt hi
    unfold wx at *
    split
    · omega
    · split
      · omega
      · split
        · omega
        · split <;> omega
  · exact m5.keep (fr _ (by omega) (by omega)) (fr _ (by omega) (by omega)) (g 0 (by omega)) (fun i h1 h2 => g i (by omega))
  · exact m6.keep (fr _ (by omega) (by omega)) (fr _ (by omega) (by omega)) (g 5 (by omega)) (fun i h1 h2 => g i (by omega))
  · exact m7.keep (fr _ (by omega) (by omega)) (fr _ (by omega) (by omega)) (g 6 (by omega)) (fun i h1 h2 => g i (by omega))
  · exact m8.keep (fr _ (by omega) (by omega)) (fr _ (by omega) (by omega)) (g 7 (by omega)) (fun i h1 h2 => g i (by omega))
  · rw [f9, g 2 (by omega)]; exact m9
  · rw [f10, m10]; unfold cI; rw [if_pos rfl, if_pos rfl, g 3 (by omega)]
  · rw [g 2 (by omega), hR]; exact m11
theorem mKeep_out {a : Fl} {j : Nat} (h4 : a 4 ≤ 30) (hj : j ≠ 4) (hr : ¬ (190 ≤ j ∧ j < 4810)) : mKeep a j = a j := by
  have := shK_4 h4
  unfold mKeep kpG
  rw [if_neg hj, if_neg (by omega)]
  unfold shK
  split
  · show (if j = 4 then 29 else cpG a 190 344 4466 j) = a j
    rw [if_neg hj, cpG_out (by omega)]
  · rfl
theorem mKeep_4 {a : Fl} : mKeep a 4 = if a 4 = 30 then 30 else a 4 + 1 := by
  unfold mKeep kpG
  rw [if_pos rfl]
  unfold shK
  by_cases h : a 4 = 30
  · rw [if_pos h, if_pos h]; rfl
  · rw [if_neg h, if_neg h]
theorem mKeep_new {a : Fl} {i : Nat} (h4 : a 4 ≤ 30) (hi : i < 153) : mKeep a (190 + 154 * (mKeep a 4 - 1) + i) = snap a i := by
  have e : mKeep a 4 = shK a 4 + 1 := rfl
  rw [e, Nat.add_sub_cancel]
  have hs := shK_4 h4
  unfold mKeep kpG
  rw [if_neg (by omega), if_pos (by omega), show 190 + 154 * shK a 4 + i - (190 + 154 * shK a 4) = i by omega, snap_wx]
  have q := wx_lt hi
  have q4 : wx i ≠ 4 ∧ ¬ (190 ≤ wx i ∧ wx i < 4810) := by
    unfold wx
    split
    · omega
    · split
      · omega
      · split
        · omega
        · split <;> omega
  unfold shK
  split
  · show (if wx i = 4 then 29 else cpG a 190 344 4466 (wx i)) = a (wx i)
    rw [if_neg q4.1, cpG_out (by omega)]
  · rfl
theorem mKeep_old {a : Fl} {t i : Nat} (h4 : a 4 < 30) (ht : t < a 4) (hi : i < 153) : mKeep a (190 + 154 * t + i) = a (190 + 154 * t + i) := by
  unfold mKeep kpG
  have e : shK a = a := by unfold shK; rw [if_neg (by omega)]
  rw [e, if_neg (by omega), if_neg (by omega)]
theorem mKeep_full {a : Fl} {t i : Nat} (h4 : a 4 = 30) (ht : t < 29) (hi : i < 153) : mKeep a (190 + 154 * t + i) = a (190 + 154 * (t + 1) + i) := by
  have e4 : shK a 4 = 29 := by unfold shK; rw [if_pos h4]; rfl
  unfold mKeep kpG
  rw [e4, if_neg (by omega), if_neg (by omega)]
  unfold shK
  rw [if_pos h4]
  show (if 190 + 154 * t + i = 4 then 29 else cpG a 190 344 4466 (190 + 154 * t + i)) = _
  rw [if_neg (by omega), cpG_in (by omega)]
  exact congrArg a (by omega)

theorem c_remember {h : Hp} {d b : Nat} {a : Fl} {tx : Nat → Nat → Prop} (hs : MkS h b) (hv : MV h b a tx) (h4 : a 4 ≤ 30) (hd : 3 ≤ d) : ∃ h1, Sp d mX1_remember [.ref b] h none h1 ∧ MV h1 b (mKeep a) tx ∧ FR b (b + 227) h h1 := by
  obtain ⟨e, he, e2, hst⟩ := hv.2.1
  have e3 := hv.2.2.1
  have hj : (e + a 4) % 30 < 30 := Nat.mod_lt _ (by omega)
  obtain ⟨W0, hW0⟩ := hv.2.2.2.1 _ hj
  obtain ⟨h1, t1, s2, s3⟩ := c_take0 (d := 2) (hs.wS hj) hW0 hs.now hv.1 (by omega) (Nat.le_refl _)
  have e2' : pI h1 b 2 = nI e := by rw [s3.2.2 b (by omega)]; exact e2
  have e3' : pI h1 b 3 = nI (a 4) := by rw [s3.2.2 b (by omega)]; exact e3
  have g0 : ∀ i, (i < 190 ∧ i ≠ 4) ∨ 4810 ≤ i → mKeep a i = a i := fun i q => mKeep_out h4 (by omega) (by omega)
  by_cases hc : a 4 < 30
  · refine ⟨sI h1 b 3 (nI (a 4 + 1)), ?_, ?_, (s3.wide (by omega) (by omega)).sI (by omega)⟩
    · intro N S Q hN hS hQ
      have hN : pn h ≤ N := by rw [← s3.1.n]; exact hN
      have hS : ps h ≤ S := by rw [← s3.1.s]; exact hS
      refine z_aload_n dX1_remember_0 rfl rfl ?_
      refine z_aload_n dX1_remember_1 rfl rfl ?_
      refine y_getI FX1_50 dX1_remember_2 (Or.inl rfl) hs.o ?_
      refine z_eqi (y := nI (e)) (show _ = nI (e) by first | exact e2 | exact e2') ?_
      refine z_aload_n dX1_remember_5 rfl rfl ?_
      refine y_getI FX1_53 dX1_remember_6 (Or.inl rfl) hs.o ?_
      refine z_eqi (y := nI (a 4)) (show _ = nI (a 4) by first | exact e3 | exact e3') ?_
      refine z_iadd dX1_remember_9 ?_
      refine z_eqi (nI_add e (a 4)) ?_
      refine y_callV (as := [_]) CX1_pastAt LX1_56 IX1_pastAt VX1_pastAt ⟨rfl, Nat.le_of_ble_eq_true rfl⟩ dX1_remember_10 hs.o rfl (Nat.le_of_ble_eq_true rfl) (Nat.le_of_ble_eq_true rfl) (by omega) (c_pastAt (n := e + a 4) (by exact hs) (by omega)) (rok_o rfl) ⟨Nat.le_refl _, Nat.le_refl _, hN, hS⟩ ?_
      refine z_astore_n dX1_remember_13 rfl (Nat.le_of_ble_eq_true rfl) ?_
      refine z_aload_n dX1_remember_14 rfl rfl ?_
      refine z_ifnull dX1_remember_15 ?_
      refine z_aload_n dX1_remember_18 rfl rfl ?_
      refine z_aload_n dX1_remember_19 rfl rfl ?_
      refine y_getR FX1_12 dX1_remember_20 rfl hs.o hs.f0 ?_
      refine z_iconst (v := 0) dX1_remember_23 (by decide) ?_
      refine y_callV (as := [_, _]) CX7_take LX1_60 IX7_take VX7_take ⟨rfl, Nat.le_of_ble_eq_true rfl⟩ dX1_remember_24 (hs.wS hj).1 rfl (Nat.le_of_ble_eq_true rfl) (Nat.le_of_ble_eq_true rfl) (by omega) t1 rok_v (hg_ss s3.1 hN hS) ?_
      refine z_aload_n dX1_remember_27 rfl rfl ?_
      refine y_getI FX1_53 dX1_remember_28 (Or.inl rfl) (s3.1.O hs.o) ?_
      refine z_eqi (y := nI (a 4)) (show _ = nI (a 4) by first | exact e3 | exact e3') ?_
      refine z_bipush (v := 30) dX1_remember_31 (by decide) ?_
      refine z_icmp_ge dX1_remember_33 rfl (fun c => absurd c (fun q => absurd ((nI_leI (a := 30) (by omega) (by omega)).mp q) (by omega))) (fun _ => ?_)
      refine z_aload_n dX1_remember_36 rfl rfl ?_
      refine z_dup dX1_remember_37 rfl ?_
      refine y_getI FX1_53 dX1_remember_38 (Or.inl rfl) (s3.1.O hs.o) ?_
      refine z_eqi (y := nI (a 4)) (show _ = nI (a 4) by first | exact e3 | exact e3') ?_
      refine z_iconst (v := 1) dX1_remember_41 (by decide) ?_
      refine z_iadd dX1_remember_42 ?_
      refine z_eqi (nI_1 _) ?_
      refine y_putI FX1_53 dX1_remember_43 (Or.inl rfl) (Or.inl rfl) (s3.1.O hs.o) ?_
      refine z_goto dX1_remember_46 rfl ?_
      refine z_vret dX1_remember_62 ?_
      exact hQ
    · have m4 : mKeep a 4 = a 4 + 1 := by rw [mKeep_4, if_neg (by omega)]
      refine hv.past (s3.1.R) (fun k q1 q2 => ?_) ?_ ?_ g0 ⟨e, he, ?_, fun t ht => ?_⟩ ?_ (fun i hi => ?_)
      · rw [pI_sI_ne (by omega)]; exact s3.2.2 k (by omega)
      · rw [pI_sI, if_pos rfl, if_neg (by omega), s3.2.2 b (by omega)]
      · rw [pI_sI, if_pos rfl, if_neg (by omega), s3.2.2 b (by omega)]
      · rw [pI_sI, if_pos rfl, if_neg (by omega)]; exact e2'
      · rw [m4] at ht
        by_cases hl : t = a 4
        · subst hl
          refine (s2.fr (fun k _ _ => pI_sI_ne (by omega))).cg (fun i hi => ?_)
          have := mKeep_new (i := i) h4 hi
          rw [m4, Nat.add_sub_cancel] at this
          exact this.symm
        · have hm : (e + t) % 30 < 30 := Nat.mod_lt _ (by omega)
          have hne : (e + t) % 30 ≠ (e + a 4) % 30 := by omega
          refine ((hst t (by omega)).fr (fun k _ _ => ?_)).cg (fun i hi => (mKeep_old hc (by omega) hi).symm)
          rw [pI_sI_ne (by omega)]
          exact s3.2.2 k (by omega)
      · rw [pI_sI, if_pos rfl, if_pos rfl, m4]
      · by_cases hl : i = (e + a 4) % 30
        · subst hl
          exact ⟨_, s2.fr (fun k _ _ => pI_sI_ne (by omega))⟩
        · obtain ⟨W1, hW1⟩ := hv.2.2.2.1 i hi
          exact ⟨W1, hW1.fr (fun k _ _ => by rw [pI_sI_ne (by omega)]; exact s3.2.2 k (by omega))⟩
  · have h30 : a 4 = 30 := by omega
    refine ⟨sI h1 b 2 (nI ((e + 1) % 30)), ?_, ?_, (s3.wide (by omega) (by omega)).sI (by omega)⟩
    · intro N S Q hN hS hQ
      have hN : pn h ≤ N := by rw [← s3.1.n]; exact hN
      have hS : ps h ≤ S := by rw [← s3.1.s]; exact hS
      refine z_aload_n dX1_remember_0 rfl rfl ?_
      refine z_aload_n dX1_remember_1 rfl rfl ?_
      refine y_getI FX1_50 dX1_remember_2 (Or.inl rfl) hs.o ?_
      refine z_eqi (y := nI (e)) (show _ = nI (e) by first | exact e2 | exact e2') ?_
      refine z_aload_n dX1_remember_5 rfl rfl ?_
      refine y_getI FX1_53 dX1_remember_6 (Or.inl rfl) hs.o ?_
      refine z_eqi (y := nI (a 4)) (show _ = nI (a 4) by first | exact e3 | exact e3') ?_
      refine z_iadd dX1_remember_9 ?_
      refine z_eqi (nI_add e (a 4)) ?_
      refine y_callV (as := [_]) CX1_pastAt LX1_56 IX1_pastAt VX1_pastAt ⟨rfl, Nat.le_of_ble_eq_true rfl⟩ dX1_remember_10 hs.o rfl (Nat.le_of_ble_eq_true rfl) (Nat.le_of_ble_eq_true rfl) (by omega) (c_pastAt (n := e + a 4) (by exact hs) (by omega)) (rok_o rfl) ⟨Nat.le_refl _, Nat.le_refl _, hN, hS⟩ ?_
      refine z_astore_n dX1_remember_13 rfl (Nat.le_of_ble_eq_true rfl) ?_
      refine z_aload_n dX1_remember_14 rfl rfl ?_
      refine z_ifnull dX1_remember_15 ?_
      refine z_aload_n dX1_remember_18 rfl rfl ?_
      refine z_aload_n dX1_remember_19 rfl rfl ?_
      refine y_getR FX1_12 dX1_remember_20 rfl hs.o hs.f0 ?_
      refine z_iconst (v := 0) dX1_remember_23 (by decide) ?_
      refine y_callV (as := [_, _]) CX7_take LX1_60 IX7_take VX7_take ⟨rfl, Nat.le_of_ble_eq_true rfl⟩ dX1_remember_24 (hs.wS hj).1 rfl (Nat.le_of_ble_eq_true rfl) (Nat.le_of_ble_eq_true rfl) (by omega) t1 rok_v (hg_ss s3.1 hN hS) ?_
      refine z_aload_n dX1_remember_27 rfl rfl ?_
      refine y_getI FX1_53 dX1_remember_28 (Or.inl rfl) (s3.1.O hs.o) ?_
      refine z_eqi (y := nI (a 4)) (show _ = nI (a 4) by first | exact e3 | exact e3') ?_
      refine z_bipush (v := 30) dX1_remember_31 (by decide) ?_
      refine z_icmp_ge dX1_remember_33 rfl (fun _ => ?_) (fun c => absurd ((nI_leI (a := 30) (by omega) (by omega)).mpr (by omega)) c)
      refine z_aload_n dX1_remember_49 rfl rfl ?_
      refine z_aload_n dX1_remember_50 rfl rfl ?_
      refine y_getI FX1_50 dX1_remember_51 (Or.inl rfl) (s3.1.O hs.o) ?_
      refine z_eqi (y := nI (e)) (show _ = nI (e) by first | exact e2 | exact e2') ?_
      refine z_iconst (v := 1) dX1_remember_54 (by decide) ?_
      refine z_iadd dX1_remember_55 ?_
      refine z_eqi (nI_1 e) ?_
      refine z_bipush (v := 30) dX1_remember_56 (by decide) ?_
      refine z_irem dX1_remember_58 (by decide) ?_
      refine z_eqi (pk_rem (a := e + 1) (d := 30) (by omega) (by omega) (by omega)) ?_
      refine y_putI FX1_50 dX1_remember_59 (Or.inl rfl) (Or.inl rfl) (s3.1.O hs.o) ?_
      refine z_vret dX1_remember_62 ?_
      exact hQ
    · have m4 : mKeep a 4 = 30 := by rw [mKeep_4, if_pos h30]
      refine hv.past (s3.1.R) (fun k q1 q2 => ?_) ?_ ?_ g0 ⟨(e + 1) % 30, Nat.mod_lt _ (by omega), ?_, fun t ht => ?_⟩ ?_ (fun i hi => ?_)
      · rw [pI_sI_ne (by omega)]; exact s3.2.2 k (by omega)
      · rw [pI_sI, if_pos rfl, if_neg (by omega), s3.2.2 b (by omega)]
      · rw [pI_sI, if_pos rfl, if_neg (by omega), s3.2.2 b (by omega)]
      · rw [pI_sI, if_pos rfl, if_pos rfl]
      · rw [m4] at ht
        by_cases hl : t = 29
        · subst hl
          have em : ((e + 1) % 30 + 29) % 30 = (e + a 4) % 30 := by omega
          rw [em]
          refine (s2.fr (fun k _ _ => pI_sI_ne (by omega))).cg (fun i hi => ?_)
          have := mKeep_new (i := i) h4 hi
          rw [m4] at this
          exact this.symm
        · have em : ((e + 1) % 30 + t) % 30 = (e + (t + 1)) % 30 := by omega
          have hm : (e + (t + 1)) % 30 < 30 := Nat.mod_lt _ (by omega)
          have hne : (e + (t + 1)) % 30 ≠ (e + a 4) % 30 := by omega
          rw [em]
          refine ((hst (t + 1) (by omega)).fr (fun k _ _ => ?_)).cg (fun i hi => (mKeep_full h30 (by omega) hi).symm)
          rw [pI_sI_ne (by omega)]
          exact s3.2.2 k (by omega)
      · rw [pI_sI, if_pos rfl, if_neg (by omega), m4, ← h30]; exact e3'
      · by_cases hl : i = (e + a 4) % 30
        · subst hl
          exact ⟨_, s2.fr (fun k _ _ => pI_sI_ne (by omega))⟩
        · obtain ⟨W1, hW1⟩ := hv.2.2.2.1 i hi
          exact ⟨W1, hW1.fr (fun k _ _ => by rw [pI_sI_ne (by omega)]; exact s3.2.2 k (by omega))⟩

