/-! the class: what is told (walks by program: wip/whole/gen22.py) -/
/-- the facts' rows are told anew, all else stays -/
theorem MV_fact {h h1 : Hp} {a : Fl} {tx : Nat → Nat → Prop} {nf o c : Nat} (hnf : a 0 = nf) (h8 : nf ≤ 8) (hlt : nf < 8) (hv : MV h 9 a tx) (fr : ∀ k, (k ≠ 18 ∧ k ≠ 19) → pI h1 k = pI h k) (hR : pR h1 = pR h) (hF : RwV h1 18 2 8 (nf + 1) (up (up (up a (110 + 2 * nf) o) (110 + 2 * nf + 1) c) 0 (nf + 1)) 110) : MV h1 9 (up (up (up a (110 + 2 * nf) o) (110 + 2 * nf + 1) c) 0 (nf + 1)) tx := by
  obtain ⟨v1, ⟨e, v2, v2b, v2c⟩, v3, v4, vF, v6, v7, v8, v9, v10, v11⟩ := hv
  have g : ∀ i, i ≠ 0 → (i < 110 ∨ 126 ≤ i) → up (up (up a (110 + 2 * nf) o) (110 + 2 * nf + 1) c) 0 (nf + 1) i = a i := fun i h0 hi => by
    simp only [up]
    rw [if_neg h0, if_neg (by omega), if_neg (by omega)]
  have g0 : up (up (up a (110 + 2 * nf) o) (110 + 2 * nf + 1) c) 0 (nf + 1) 0 = nf + 1 := by simp [up]
  have w4 := v1.2.2.2.1.2.2.2.1
  have c5 := v6.1.2.2.2.1
  have c6 := v7.1.2.2.2.1
  have c7 := v8.1.2.2.2.1
  refine ⟨(v1.fr (fun k q1 q2 => fr k (by omega))).cg (fun i hi => ?_), ⟨e, v2, by rw [fr _ (by omega)]; exact v2b, fun t ht => ?_⟩, ?_, fun i hi => ?_, by rw [g0]; exact hF, ?_, ?_, ?_, ?_, ?_, fun t ht => ?_⟩
  · unfold snap
    split
    · rw [g 1 (by omega) (by omega)]
    · split
      · rw [g _ (by omega) (by omega)]
      · split
        · rw [g _ (by omega) (by omega)]
        · split
          · rw [g _ (by omega) (by omega)]
          · rw [g _ (by omega) (by omega)]
  · rw [g 4 (by omega) (by omega)] at ht
    refine ((v2c t ht).fr (fun k q1 q2 => fr k (by omega))).cg (fun i hi => ?_)
    rw [g _ (by omega) (by omega)]
  · rw [fr _ (by omega), g 4 (by omega) (by omega)]; exact v3
  · obtain ⟨W, hW⟩ := v4 i hi
    exact ⟨W, hW.fr (fun k q1 q2 => fr k (by omega))⟩
  · rw [g 5 (by omega) (by omega)]
    exact (v6.fr (fr _ (by omega)) (fr _ (by omega))).cg (fun i hi => by rw [g _ (by omega) (by omega)])
  · rw [g 6 (by omega) (by omega)]
    exact (v7.fr (fr _ (by omega)) (fr _ (by omega))).cg (fun i hi => by rw [g _ (by omega) (by omega)])
  · rw [g 7 (by omega) (by omega)]
    exact (v8.fr (fr _ (by omega)) (fr _ (by omega))).cg (fun i hi => by rw [g _ (by omega) (by omega)])
  · rw [fr _ (by omega), g 2 (by omega) (by omega)]; exact v9
  · rw [fr _ (by omega), v10]
    unfold cI
    rw [if_pos rfl, if_pos rfl, g 3 (by omega) (by omega)]
  · rw [g 2 (by omega) (by omega)] at ht
    rw [hR]
    exact v11 t ht

theorem C_fact {h : Hp} {d : Nat} {a : Fl} {tx : Nat → Nat → Prop} (h8 : IO h 8 8) (hx0 : pR h 8 0 = some 9) (hs : MkS h 9) (hv : MV h 9 a tx) (hi : IC a) (o c : Int32) (hd : 3 ≤ d) : ∃ h1, Sp d mX8_fact [.ref 8, .int o, .int c] h (some (.int (mFact a o c).1)) h1 ∧ MV h1 9 (mFact a o c).2 tx ∧ FR 9 236 h h1 := by
  have hv0 := hv
  obtain ⟨v1, v2, v3, v4, vF, v6, v7, v8, v9, v10, v11⟩ := hv
  obtain ⟨i0, -⟩ := hi
  generalize hnf : a 0 = nf at *
  by_cases hc : inr o 0 10 ∧ inr c 0 99
  · by_cases hfull : nf < 8
    · obtain ⟨o', ho, rfl⟩ := inr_of (n := 10) (by omega) hc.1
      obtain ⟨c', hc', rfl⟩ := inr_of (n := 99) (by omega) hc.2
      have hf : mFact a (nI o') (nI c') = (nI nf, up (up (up a (110 + 2 * nf) o') (110 + 2 * nf + 1) c') 0 (nf + 1)) := by
        unfold mFact
        rw [hnf, if_pos ⟨hc.1, hc.2, hfull⟩, nn_nI (by omega), nn_nI (by omega)]
      rw [hf]
      have hC1 : RwC (growH h 18 2 nf) 18 2 8 (nf + 1) := vF.1.grow hfull
      have hC2 : RwC (sI (growH h 18 2 nf) 19 (nf * 2 + 0) (nI o')) 18 2 8 (nf + 1) := hC1.fr (pI_sI_ne (by omega))
      refine ⟨sI (sI (growH h 18 2 nf) 19 (nf * 2 + 0) (nI o')) 19 (nf * 2 + 1) (nI c'), ?_, ?_, ((FR.rf.grow (by omega)).sI (by omega)).sI (by omega)⟩
      · intro N S Q hN hS hQ
        refine z_iload_n dX8_fact_0 rfl rfl ?_
        refine z_iconst (v := 0) dX8_fact_1 (by decide) ?_
        refine z_bipush (v := 10) dX8_fact_2 (by decide) ?_
        refine y_callS (as := [_, _, _]) CX8_within LX8_61 SX8_within dX8_fact_4 rfl (Nat.le_of_ble_eq_true rfl) (Nat.le_of_ble_eq_true rfl) (by omega) (s_within _ _ _) (rok_z bI_01) ⟨Nat.le_refl _, Nat.le_refl _, hN, hS⟩ ?_
        refine z_if_eq dX8_fact_7 rfl (fun c => absurd c (bI_ne0.mpr hc.1)) (fun _ => ?_)
        refine z_iload_n dX8_fact_10 rfl rfl ?_
        refine z_iconst (v := 0) dX8_fact_11 (by decide) ?_
        refine z_bipush (v := 99) dX8_fact_12 (by decide) ?_
        refine y_callS (as := [_, _, _]) CX8_within LX8_61 SX8_within dX8_fact_14 rfl (Nat.le_of_ble_eq_true rfl) (Nat.le_of_ble_eq_true rfl) (by omega) (s_within _ _ _) (rok_z bI_01) ⟨Nat.le_refl _, Nat.le_refl _, hN, hS⟩ ?_
        refine z_if_ne dX8_fact_17 rfl (fun _ => ?_) (fun c => absurd c (bI_ne0.mpr hc.2))
        refine z_aload_n dX8_fact_22 rfl rfl ?_
        refine y_getR FX8_10 dX8_fact_23 rfl h8 hx0 ?_
        refine y_getR FX8_65 dX8_fact_26 rfl hs.o hs.f4 ?_
        refine y_callV (as := []) CX4_grow LX8_69 IX4_grow VX4_grow ⟨rfl, Nat.le_of_ble_eq_true rfl⟩ dX8_fact_29 hs.facts.1 rfl (Nat.le_of_ble_eq_true rfl) (Nat.le_of_ble_eq_true rfl) (by omega) (s_grow (d := 2) (k := 18) (w := 2) (by exact hs.facts) vF.1 hfull (Nat.le_refl _)) rok_i ⟨Nat.le_refl _, Nat.le_refl _, hN, hS⟩ ?_
        refine z_istore_n dX8_fact_32 rfl (Nat.le_of_ble_eq_true rfl) ?_
        refine z_aload_n dX8_fact_33 rfl rfl ?_
        refine y_getR FX8_10 dX8_fact_34 rfl h8 hx0 ?_
        refine y_getR FX8_65 dX8_fact_37 rfl hs.o hs.f4 ?_
        refine z_iload_n dX8_fact_40 rfl rfl ?_
        refine z_iconst (v := 0) dX8_fact_41 (by decide) ?_
        refine z_iload_n dX8_fact_42 rfl rfl ?_
        refine y_callV (as := [_, _, _]) CX4_set LX8_75 IX4_set VX4_set ⟨rfl, Nat.le_of_ble_eq_true rfl⟩ dX8_fact_43 hs.facts.1 rfl (Nat.le_of_ble_eq_true rfl) (Nat.le_of_ble_eq_true rfl) (by omega) (s_set (d := 2) (k := 18) (w := 2) (ms := 8) (n := nf + 1) (i := nf) (j := 0) (by exact hs.facts) hC1 (by omega) (Nat.le_of_ble_eq_true rfl)) rok_v ⟨Nat.le_refl _, Nat.le_refl _, hN, hS⟩ ?_
        refine z_aload_n dX8_fact_46 rfl rfl ?_
        refine y_getR FX8_10 dX8_fact_47 rfl h8 hx0 ?_
        refine y_getR FX8_65 dX8_fact_50 rfl hs.o hs.f4 ?_
        refine z_iload_n dX8_fact_53 rfl rfl ?_
        refine z_iconst (v := 1) dX8_fact_54 (by decide) ?_
        refine z_iload_n dX8_fact_55 rfl rfl ?_
        refine y_callV (as := [_, _, _]) CX4_set LX8_75 IX4_set VX4_set ⟨rfl, Nat.le_of_ble_eq_true rfl⟩ dX8_fact_56 hs.facts.1 rfl (Nat.le_of_ble_eq_true rfl) (Nat.le_of_ble_eq_true rfl) (by omega) (s_set (d := 2) (k := 18) (w := 2) (ms := 8) (n := nf + 1) (i := nf) (j := 1) (by exact hs.facts) hC2 (by omega) (Nat.le_of_ble_eq_true rfl)) rok_v ⟨Nat.le_refl _, Nat.le_refl _, hN, hS⟩ ?_
        refine z_iload_n dX8_fact_59 rfl rfl ?_
        refine z_iret dX8_fact_60 ?_
        exact hQ
      · have fr : ∀ k, (k ≠ 18 ∧ k ≠ 19) → pI (sI (sI (growH h 18 2 nf) 19 (nf * 2 + 0) (nI o')) 19 (nf * 2 + 1) (nI c')) k = pI h k := fun k hk => by rw [pI_sI_ne hk.2, pI_sI_ne hk.2, growH_ne hk.1 hk.2]
        exact MV_fact hnf (by omega) hfull ⟨v1, v2, v3, v4, by rw [hnf]; exact vF, v6, v7, v8, v9, v10, v11⟩ fr rfl (vF.add2 hfull (fun i hi => by simp only [up]; rw [if_neg (by omega), if_neg (by omega), if_neg (by omega)]) (by simp only [up]; rw [if_neg (by omega), if_neg (by omega), if_pos (by omega)]) (by simp only [up]; rw [if_neg (by omega), if_pos (by omega)]))
    · have hf : mFact a o c = (-1, a) := by
        unfold mFact
        rw [hnf, if_neg (fun q => hfull q.2.2)]
      rw [hf]
      refine ⟨h, ?_, hv0, FR.rf⟩
      intro N S Q hN hS hQ
      refine z_iload_n dX8_fact_0 rfl rfl ?_
      refine z_iconst (v := 0) dX8_fact_1 (by decide) ?_
      refine z_bipush (v := 10) dX8_fact_2 (by decide) ?_
      refine y_callS (as := [_, _, _]) CX8_within LX8_61 SX8_within dX8_fact_4 rfl (Nat.le_of_ble_eq_true rfl) (Nat.le_of_ble_eq_true rfl) (by omega) (s_within _ _ _) (rok_z bI_01) ⟨Nat.le_refl _, Nat.le_refl _, hN, hS⟩ ?_
      refine z_if_eq dX8_fact_7 rfl (fun c => absurd c (bI_ne0.mpr hc.1)) (fun _ => ?_)
      refine z_iload_n dX8_fact_10 rfl rfl ?_
      refine z_iconst (v := 0) dX8_fact_11 (by decide) ?_
      refine z_bipush (v := 99) dX8_fact_12 (by decide) ?_
      refine y_callS (as := [_, _, _]) CX8_within LX8_61 SX8_within dX8_fact_14 rfl (Nat.le_of_ble_eq_true rfl) (Nat.le_of_ble_eq_true rfl) (by omega) (s_within _ _ _) (rok_z bI_01) ⟨Nat.le_refl _, Nat.le_refl _, hN, hS⟩ ?_
      refine z_if_ne dX8_fact_17 rfl (fun _ => ?_) (fun c => absurd c (bI_ne0.mpr hc.2))
      refine z_aload_n dX8_fact_22 rfl rfl ?_
      refine y_getR FX8_10 dX8_fact_23 rfl h8 hx0 ?_
      refine y_getR FX8_65 dX8_fact_26 rfl hs.o hs.f4 ?_
      refine y_callV (as := []) CX4_grow LX8_69 IX4_grow VX4_grow ⟨rfl, Nat.le_of_ble_eq_true rfl⟩ dX8_fact_29 hs.facts.1 rfl (Nat.le_of_ble_eq_true rfl) (Nat.le_of_ble_eq_true rfl) (by omega) (s_growN (d := 2) (k := 18) (w := 2) (by exact hs.facts) vF.1 (by omega)) rok_i ⟨Nat.le_refl _, Nat.le_refl _, hN, hS⟩ ?_
      refine z_istore_n dX8_fact_32 rfl (Nat.le_of_ble_eq_true rfl) ?_
      refine z_aload_n dX8_fact_33 rfl rfl ?_
      refine y_getR FX8_10 dX8_fact_34 rfl h8 hx0 ?_
      refine y_getR FX8_65 dX8_fact_37 rfl hs.o hs.f4 ?_
      refine z_iload_n dX8_fact_40 rfl rfl ?_
      refine z_iconst (v := 0) dX8_fact_41 (by decide) ?_
      refine z_iload_n dX8_fact_42 rfl rfl ?_
      refine y_callV (as := [_, _, _]) CX4_set LX8_75 IX4_set VX4_set ⟨rfl, Nat.le_of_ble_eq_true rfl⟩ dX8_fact_43 hs.facts.1 rfl (Nat.le_of_ble_eq_true rfl) (Nat.le_of_ble_eq_true rfl) (by omega) (s_set0 (d := 2) (k := 18) (w := 2) (ms := 8) (n := nf) (by exact hs.facts) vF.1 (-1) 0 _ (fun q => absurd q.1 (by decide))) rok_v ⟨Nat.le_refl _, Nat.le_refl _, hN, hS⟩ ?_
      refine z_aload_n dX8_fact_46 rfl rfl ?_
      refine y_getR FX8_10 dX8_fact_47 rfl h8 hx0 ?_
      refine y_getR FX8_65 dX8_fact_50 rfl hs.o hs.f4 ?_
      refine z_iload_n dX8_fact_53 rfl rfl ?_
      refine z_iconst (v := 1) dX8_fact_54 (by decide) ?_
      refine z_iload_n dX8_fact_55 rfl rfl ?_
      refine y_callV (as := [_, _, _]) CX4_set LX8_75 IX4_set VX4_set ⟨rfl, Nat.le_of_ble_eq_true rfl⟩ dX8_fact_56 hs.facts.1 rfl (Nat.le_of_ble_eq_true rfl) (Nat.le_of_ble_eq_true rfl) (by omega) (s_set0 (d := 2) (k := 18) (w := 2) (ms := 8) (n := nf) (by exact hs.facts) vF.1 (-1) 1 _ (fun q => absurd q.1 (by decide))) rok_v ⟨Nat.le_refl _, Nat.le_refl _, hN, hS⟩ ?_
      refine z_iload_n dX8_fact_59 rfl rfl ?_
      refine z_iret dX8_fact_60 ?_
      exact hQ
  · have hf : mFact a o c = (-1, a) := by
      unfold mFact
      rw [hnf, if_neg (fun q => hc ⟨q.1, q.2.1⟩)]
    rw [hf]
    refine ⟨h, ?_, hv0, FR.rf⟩
    intro N S Q hN hS hQ
    refine z_iload_n dX8_fact_0 rfl rfl ?_
    refine z_iconst (v := 0) dX8_fact_1 (by decide) ?_
    refine z_bipush (v := 10) dX8_fact_2 (by decide) ?_
    refine y_callS (as := [_, _, _]) CX8_within LX8_61 SX8_within dX8_fact_4 rfl (Nat.le_of_ble_eq_true rfl) (Nat.le_of_ble_eq_true rfl) (by omega) (s_within _ _ _) (rok_z bI_01) ⟨Nat.le_refl _, Nat.le_refl _, hN, hS⟩ ?_
    refine z_if_eq dX8_fact_7 rfl (fun c7 => ?_) (fun c7 => ?_)
    · -- to 20
      refine z_iconst (v := -1) dX8_fact_20 (by decide) ?_
      refine z_iret dX8_fact_21 ?_
      exact hQ
    · -- on
      refine z_iload_n dX8_fact_10 rfl rfl ?_
      refine z_iconst (v := 0) dX8_fact_11 (by decide) ?_
      refine z_bipush (v := 99) dX8_fact_12 (by decide) ?_
      refine y_callS (as := [_, _, _]) CX8_within LX8_61 SX8_within dX8_fact_14 rfl (Nat.le_of_ble_eq_true rfl) (Nat.le_of_ble_eq_true rfl) (by omega) (s_within _ _ _) (rok_z bI_01) ⟨Nat.le_refl _, Nat.le_refl _, hN, hS⟩ ?_
      refine z_if_ne dX8_fact_17 rfl (fun c17 => ?_) (fun c17 => ?_)
      · -- to 22
        exact absurd ⟨bI_ne0.mp c7, bI_ne0.mp c17⟩ hc
      · -- on
        refine z_iconst (v := -1) dX8_fact_20 (by decide) ?_
        refine z_iret dX8_fact_21 ?_
        exact hQ
