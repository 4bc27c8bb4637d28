/-! the class: owed, offer, prophet, by, end (walks by program: wip/whole/gen25.py) -/
theorem snap_0 {a : Fl} : snap a 0 = a 1 := rfl
theorem snap_1 {a : Fl} : snap a 1 = a 8 := rfl
theorem snap_2 {a : Fl} : snap a 2 = a 9 := rfl
theorem snap_3 {a : Fl} : snap a 3 = a 10 := rfl
theorem snap_4 {a : Fl} : snap a 4 = a 11 := rfl
theorem snap_5 {a : Fl} : snap a 5 = a 12 := rfl
theorem snap_p {a : Fl} {i : Nat} (h : i < 15) : snap a (6 + i) = a (13 + 5 * (i / 3) + i % 3) := by
  unfold snap
  rw [if_neg (by omega), if_neg (by omega), if_pos (by omega), show 6 + i - 6 = i by omega]
theorem snap_c {a : Fl} {i : Nat} (h : i < 72) : snap a (21 + i) = a (38 + i) := by
  unfold snap
  rw [if_neg (by omega), if_neg (by omega), if_neg (by omega), if_pos (by omega), show 21 + i - 21 = i by omega]
theorem snap_b {a : Fl} {i : Nat} : snap a (93 + i) = a (4810 + i) := by
  unfold snap
  rw [if_neg (by omega), if_neg (by omega), if_neg (by omega), if_neg (by omega), show 93 + i - 93 = i by omega]
/-- a market whose world of now alone is told anew -/
theorem MV.now {h h1 : Hp} {b : Nat} {a a' : Fl} {tx : Nat → Nat → Prop} (hv : MV h b a tx) (h4 : a 4 ≤ 30) (hR : pR h1 = pR h) (fr : ∀ k, (k < b + 1 ∨ b + 7 < k) → pI h1 k = pI h k) (g : ∀ i, (i = 0 ∨ (2 ≤ i ∧ i ≤ 7) ∨ (110 ≤ i ∧ i < 4810)) → a' i = a i) (hn : WV h1 (b + 1) (snap a')) : MV h1 b a' tx := by
  obtain ⟨v1, ⟨e, v2, v2b, v2c⟩, v3, v4, vF, v6, v7, v8, v9, v10, v11⟩ := hv
  refine ⟨hn, ⟨e, v2, by rw [fr _ (by omega)]; exact v2b, fun t ht => ?_⟩, ?_, fun i hi => ?_, vF.keep (fr _ (by omega)) (fr _ (by omega)) (g 0 (by omega)) (fun i q1 q2 => g i (by omega)), v6.keep (fr _ (by omega)) (fr _ (by omega)) (g 5 (by omega)) (fun i q1 q2 => g i (by omega)), v7.keep (fr _ (by omega)) (fr _ (by omega)) (g 6 (by omega)) (fun i q1 q2 => g i (by omega)), v8.keep (fr _ (by omega)) (fr _ (by omega)) (g 7 (by omega)) (fun i q1 q2 => g i (by omega)), ?_, ?_, fun t ht => ?_⟩
  · rw [g 4 (by omega)] at ht
    refine ((v2c t ht).fr (fun k q1 q2 => fr k (by omega))).cg (fun i hi => ?_)
    rw [g _ (by omega)]
  · rw [fr _ (by omega), g 4 (by omega)]; exact v3
  · obtain ⟨W, hW⟩ := v4 i hi
    exact ⟨W, hW.fr (fun k q1 q2 => fr k (by omega))⟩
  · rw [fr _ (by omega), g 2 (by omega)]; exact v9
  · rw [fr _ (by omega), v10]
    unfold cI
    rw [if_pos rfl, if_pos rfl, g 3 (by omega)]
  · rw [g 2 (by omega)] at ht
    rw [hR]
    exact v11 t ht
/-- one more row of four numbers -/
theorem RwV.add4 {h : Hp} {k ms n p x y z u : Nat} {a a' : Fl} (hv : RwV h k 4 ms n a p) (hn : n < ms) (e : ∀ i, i < n * 4 → a' (p + i) = a (p + i)) (ex : a' (p + n * 4) = x) (ey : a' (p + (n * 4 + 1)) = y) (ez : a' (p + (n * 4 + 2)) = z) (eu : a' (p + (n * 4 + 3)) = u) : RwV (sI (sI (sI (sI (growH h k 4 n) (k + 1) (n * 4 + 0) (nI x)) (k + 1) (n * 4 + 1) (nI y)) (k + 1) (n * 4 + 2) (nI z)) (k + 1) (n * 4 + 3) (nI u)) k 4 ms (n + 1) a' p := by
  refine ⟨?_, fun i hi => ?_⟩
  · refine (hv.1.grow hn).fr ?_
    rw [pI_sI_ne (by omega), pI_sI_ne (by omega), pI_sI_ne (by omega), pI_sI_ne (by omega)]
  · rw [pI_sI, if_pos rfl]
    by_cases h3 : i = n * 4 + 3
    · rw [if_pos h3, h3, eu]
    · rw [if_neg h3, pI_sI, if_pos rfl]
      by_cases h2 : i = n * 4 + 2
      · rw [if_pos h2, h2, ez]
      · rw [if_neg h2, pI_sI, if_pos rfl]
        by_cases h1 : i = n * 4 + 1
        · rw [if_pos h1, h1, ey]
        · rw [if_neg h1, pI_sI, if_pos rfl]
          by_cases h0 : i = n * 4 + 0
          · rw [if_pos h0, h0, Nat.add_zero, ex]
          · rw [if_neg h0, growH_at, if_neg (by omega), hv.2 i (by omega), e i (by omega)]

theorem C_owed {h : Hp} {d : Nat} {a : Fl} {tx : Nat → Nat → Prop} (h8 : IO h 8 8) (hx0 : pR h 8 0 = some 9) (hs : MkS h 9) (hv : MV h 9 a tx) (hi : IC a) (k u : Int32) (hd : 4 ≤ d) : ∃ h1, Sp d mX8_owed [.ref 8, .int k, .int u] h (some (.int (mOwed a k u).1)) h1 ∧ MV h1 9 (mOwed a k u).2 tx ∧ FR 9 236 h h1 := by
  have hv0 := hv
  obtain ⟨v1, v2, v3, v4, vF, v6, v7, v8, v9, v10, v11⟩ := hv
  obtain ⟨-, -, -, -, i4, -, -, i7, -, -, -, i11, -⟩ := hi
  have vP : RwC h 13 6 12 (a 11) := v1.2.2.2.2.2.1
  by_cases hc : k = -1
  · subst hc
    have hf : mOwed a (-1) u = (0, up a 7 0) := by unfold mOwed; rw [if_pos rfl]
    rw [hf]
    have fr2 : ∀ k, k ≠ 24 → pI (sI h 24 3 0) k = pI h k := fun k hk => pI_sI_ne hk
    have gg : ∀ i, i ≠ 7 → up a 7 0 i = a i := fun i hi => up_n hi
    refine ⟨sI h 24 3 0, ?_, show MV (sI h 24 3 0) 9 (up a 7 0) tx from hv0.rows i4 rfl (fun k hk => fr2 k (by omega)) (fun i hi => gg i (by omega)) (vF.keep (fr2 18 (by omega)) (fr2 19 (by omega)) (gg 0 (by omega)) (fun i q1 q2 => gg i (by omega))) (v6.keep (fr2 20 (by omega)) (fr2 21 (by omega)) (gg 5 (by omega)) (fun i q1 q2 => gg i (by omega))) (v7.keep (fr2 22 (by omega)) (fr2 23 (by omega)) (gg 6 (by omega)) (fun i q1 q2 => gg i (by omega))) (by rw [up_s]; exact (v8.nil rfl).cg (fun i hi => by omega)), FR.rf.sI (by omega)⟩
    intro N S Q hN hS hQ
    refine z_iload_n dX8_owed_0 rfl rfl ?_
    refine z_iconst (v := -1) dX8_owed_1 (by decide) ?_
    refine z_icmp_ne dX8_owed_2 rfl (fun c => absurd (rfl) c) (fun _ => ?_)
    refine z_aload_n dX8_owed_5 rfl rfl ?_
    refine y_getR FX8_10 dX8_owed_6 rfl h8 hx0 ?_
    refine y_getR FX8_399 dX8_owed_9 rfl hs.o hs.f7 ?_
    refine y_callV (as := []) CX4_clear LX8_353 IX4_clear VX4_clear ⟨rfl, Nat.le_of_ble_eq_true rfl⟩ dX8_owed_12 hs.owed.1 rfl (Nat.le_of_ble_eq_true rfl) (Nat.le_of_ble_eq_true rfl) (by omega) (s_clear (by exact hs.owed)) rok_v ⟨Nat.le_refl _, Nat.le_refl _, hN, hS⟩ ?_
    refine z_iconst (v := 0) dX8_owed_15 (by decide) ?_
    refine z_iret dX8_owed_16 ?_
    exact hQ
  · by_cases hg : vin k (a 11) ∧ inr u 0 9999
    · obtain ⟨k', hk', rfl⟩ := vin_of (by omega) hg.1
      obtain ⟨u', hu', rfl⟩ := inr_of (n := 9999) (by omega) hg.2
      by_cases h78 : a 7 < 8
      · have hf : mOwed a (nI k') (nI u') = (nI (a 7 + 1), up (up (up a (174 + 2 * a 7) k') (174 + 2 * a 7 + 1) u') 7 (a 7 + 1)) := by
          unfold mOwed
          rw [if_neg hc, if_pos ⟨hg.1, hg.2, h78⟩, nn_nI (by omega), nn_nI (by omega)]
        rw [hf]
        have fr2 : ∀ k, (k ≠ 24 ∧ k ≠ 25) → pI (pairH h 24 (a 7) (nI k') (nI u')) k = pI h k := fun k hk => by unfold pairH; rw [pI_sI_ne hk.2, pI_sI_ne hk.2, growH_ne hk.1 hk.2]
        have gg : ∀ i, (i ≠ 7 ∧ (i < 174 ∨ 190 ≤ i)) → up (up (up a (174 + 2 * a 7) k') (174 + 2 * a 7 + 1) u') 7 (a 7 + 1) i = a i := fun i hi => by simp only [up]; rw [if_neg hi.1, if_neg (by omega), if_neg (by omega)]
        refine ⟨pairH h 24 (a 7) (nI k') (nI u'), ?_, show MV (pairH h 24 (a 7) (nI k') (nI u')) 9 (up (up (up a (174 + 2 * a 7) k') (174 + 2 * a 7 + 1) u') 7 (a 7 + 1)) tx from hv0.rows i4 rfl (fun k hk => fr2 k (by omega)) (fun i hi => gg i (by omega)) (vF.keep (fr2 18 (by omega)) (fr2 19 (by omega)) (gg 0 (by omega)) (fun i q1 q2 => gg i (by omega))) (v6.keep (fr2 20 (by omega)) (fr2 21 (by omega)) (gg 5 (by omega)) (fun i q1 q2 => gg i (by omega))) (v7.keep (fr2 22 (by omega)) (fr2 23 (by omega)) (gg 6 (by omega)) (fun i q1 q2 => gg i (by omega))) (by rw [up_s]; exact v8.add2 h78 (fun i hi => by simp only [up]; rw [if_neg (by omega), if_neg (by omega), if_neg (by omega)]) (by simp only [up]; rw [if_neg (by omega), if_neg (by omega), if_pos (by omega)]) (by simp only [up]; rw [if_neg (by omega), if_pos (by omega)])), ((FR.rf.grow (by omega)).sI (by omega)).sI (by omega)⟩
        intro N S Q hN hS hQ
        refine z_iload_n dX8_owed_0 rfl rfl ?_
        refine z_iconst (v := -1) dX8_owed_1 (by decide) ?_
        refine z_icmp_ne dX8_owed_2 rfl (fun _ => ?_) (fun c => absurd c (hc))
        refine z_aload_n dX8_owed_17 rfl rfl ?_
        refine y_getR FX8_10 dX8_owed_18 rfl h8 hx0 ?_
        refine y_getR FX8_79 dX8_owed_21 rfl hs.o hs.f0 ?_
        refine y_getR FX8_127 dX8_owed_24 rfl hs.now.1 hs.now.2.2.2.1 ?_
        refine z_iload_n dX8_owed_27 rfl rfl ?_
        refine y_callV (as := [_]) CX4_has LX8_140 IX4_has VX4_has ⟨rfl, Nat.le_of_ble_eq_true rfl⟩ dX8_owed_28 hs.now.2.2.2.2.1.1 rfl (Nat.le_of_ble_eq_true rfl) (Nat.le_of_ble_eq_true rfl) (by omega) (s_has (d := 3) (by exact hs.now.2.2.2.2.1) vP _) (rok_z bI_01) ⟨Nat.le_refl _, Nat.le_refl _, hN, hS⟩ ?_
        refine z_if_eq dX8_owed_31 rfl (fun c => absurd c (bI_ne0.mpr hg.1)) (fun _ => ?_)
        refine z_iload_n dX8_owed_34 rfl rfl ?_
        refine z_iconst (v := 0) dX8_owed_35 (by decide) ?_
        refine z_sipush (v := 9999) dX8_owed_36 (by decide) ?_
        refine y_callS (as := [_, _, _]) CX8_within LX8_61 SX8_within dX8_owed_39 rfl (Nat.le_of_ble_eq_true rfl) (Nat.le_of_ble_eq_true rfl) (by omega) (s_within _ _ _) (rok_z bI_01) ⟨Nat.le_refl _, Nat.le_refl _, hN, hS⟩ ?_
        refine z_if_ne dX8_owed_42 rfl (fun _ => ?_) (fun c => absurd c (bI_ne0.mpr hg.2))
        refine z_aload_n dX8_owed_48 rfl rfl ?_
        refine y_getR FX8_10 dX8_owed_49 rfl h8 hx0 ?_
        refine y_getR FX8_399 dX8_owed_52 rfl hs.o hs.f7 ?_
        refine z_iload_n dX8_owed_55 rfl rfl ?_
        refine z_iload_n dX8_owed_56 rfl rfl ?_
        refine y_callS (as := [_, _, _]) CX8_addPair LX8_376 SX8_addPair dX8_owed_57 rfl (Nat.le_of_ble_eq_true rfl) (Nat.le_of_ble_eq_true rfl) (by omega) (s_addPair (d := 3) (by exact hs.owed) v8.1 h78 (Nat.le_refl _)) rok_i ⟨Nat.le_refl _, Nat.le_refl _, hN, hS⟩ ?_
        refine z_iret dX8_owed_60 ?_
        exact hQ
      · have hf : mOwed a (nI k') (nI u') = (-2, a) := by
          unfold mOwed
          rw [if_neg hc, if_neg (fun q => h78 q.2.2)]
        rw [hf]
        refine ⟨h, ?_, hv0, FR.rf⟩
        intro N S Q hN hS hQ
        refine z_iload_n dX8_owed_0 rfl rfl ?_
        refine z_iconst (v := -1) dX8_owed_1 (by decide) ?_
        refine z_icmp_ne dX8_owed_2 rfl (fun _ => ?_) (fun c => absurd c (hc))
        refine z_aload_n dX8_owed_17 rfl rfl ?_
        refine y_getR FX8_10 dX8_owed_18 rfl h8 hx0 ?_
        refine y_getR FX8_79 dX8_owed_21 rfl hs.o hs.f0 ?_
        refine y_getR FX8_127 dX8_owed_24 rfl hs.now.1 hs.now.2.2.2.1 ?_
        refine z_iload_n dX8_owed_27 rfl rfl ?_
        refine y_callV (as := [_]) CX4_has LX8_140 IX4_has VX4_has ⟨rfl, Nat.le_of_ble_eq_true rfl⟩ dX8_owed_28 hs.now.2.2.2.2.1.1 rfl (Nat.le_of_ble_eq_true rfl) (Nat.le_of_ble_eq_true rfl) (by omega) (s_has (d := 3) (by exact hs.now.2.2.2.2.1) vP _) (rok_z bI_01) ⟨Nat.le_refl _, Nat.le_refl _, hN, hS⟩ ?_
        refine z_if_eq dX8_owed_31 rfl (fun c => absurd c (bI_ne0.mpr hg.1)) (fun _ => ?_)
        refine z_iload_n dX8_owed_34 rfl rfl ?_
        refine z_iconst (v := 0) dX8_owed_35 (by decide) ?_
        refine z_sipush (v := 9999) dX8_owed_36 (by decide) ?_
        refine y_callS (as := [_, _, _]) CX8_within LX8_61 SX8_within dX8_owed_39 rfl (Nat.le_of_ble_eq_true rfl) (Nat.le_of_ble_eq_true rfl) (by omega) (s_within _ _ _) (rok_z bI_01) ⟨Nat.le_refl _, Nat.le_refl _, hN, hS⟩ ?_
        refine z_if_ne dX8_owed_42 rfl (fun _ => ?_) (fun c => absurd c (bI_ne0.mpr hg.2))
        refine z_aload_n dX8_owed_48 rfl rfl ?_
        refine y_getR FX8_10 dX8_owed_49 rfl h8 hx0 ?_
        refine y_getR FX8_399 dX8_owed_52 rfl hs.o hs.f7 ?_
        refine z_iload_n dX8_owed_55 rfl rfl ?_
        refine z_iload_n dX8_owed_56 rfl rfl ?_
        refine y_callS (as := [_, _, _]) CX8_addPair LX8_376 SX8_addPair dX8_owed_57 rfl (Nat.le_of_ble_eq_true rfl) (Nat.le_of_ble_eq_true rfl) (by omega) (s_addPairN (d := 3) (by exact hs.owed) v8.1 (by omega) (Nat.le_refl _)) rok_i ⟨Nat.le_refl _, Nat.le_refl _, hN, hS⟩ ?_
        refine z_iret dX8_owed_60 ?_
        exact hQ
    · have hf : mOwed a k u = (-2, a) := by
        unfold mOwed
        rw [if_neg hc, if_neg (fun q => hg ⟨q.1, q.2.1⟩)]
      rw [hf]
      refine ⟨h, ?_, hv0, FR.rf⟩
      intro N S Q hN hS hQ
      refine z_iload_n dX8_owed_0 rfl rfl ?_
      refine z_iconst (v := -1) dX8_owed_1 (by decide) ?_
      refine z_icmp_ne dX8_owed_2 rfl (fun _ => ?_) (fun c => absurd c (hc))
      refine z_aload_n dX8_owed_17 rfl rfl ?_
      refine y_getR FX8_10 dX8_owed_18 rfl h8 hx0 ?_
      refine y_getR FX8_79 dX8_owed_21 rfl hs.o hs.f0 ?_
      refine y_getR FX8_127 dX8_owed_24 rfl hs.now.1 hs.now.2.2.2.1 ?_
      refine z_iload_n dX8_owed_27 rfl rfl ?_
      refine y_callV (as := [_]) CX4_has LX8_140 IX4_has VX4_has ⟨rfl, Nat.le_of_ble_eq_true rfl⟩ dX8_owed_28 hs.now.2.2.2.2.1.1 rfl (Nat.le_of_ble_eq_true rfl) (Nat.le_of_ble_eq_true rfl) (by omega) (s_has (d := 3) (by exact hs.now.2.2.2.2.1) vP _) (rok_z bI_01) ⟨Nat.le_refl _, Nat.le_refl _, hN, hS⟩ ?_
      refine z_if_eq dX8_owed_31 rfl (fun c31 => ?_) (fun c31 => ?_)
      · -- to 45
        refine z_bipush (v := -2) dX8_owed_45 (by decide) ?_
        refine z_iret dX8_owed_47 ?_
        exact hQ
      · -- on
        refine z_iload_n dX8_owed_34 rfl rfl ?_
        refine z_iconst (v := 0) dX8_owed_35 (by decide) ?_
        refine z_sipush (v := 9999) dX8_owed_36 (by decide) ?_
        refine y_callS (as := [_, _, _]) CX8_within LX8_61 SX8_within dX8_owed_39 rfl (Nat.le_of_ble_eq_true rfl) (Nat.le_of_ble_eq_true rfl) (by omega) (s_within _ _ _) (rok_z bI_01) ⟨Nat.le_refl _, Nat.le_refl _, hN, hS⟩ ?_
        refine z_if_ne dX8_owed_42 rfl (fun c42 => ?_) (fun c42 => ?_)
        · -- to 48
          exact absurd ⟨bI_ne0.mp c31, bI_ne0.mp c42⟩ hg
        · -- on
          refine z_bipush (v := -2) dX8_owed_45 (by decide) ?_
          refine z_iret dX8_owed_47 ?_
          exact hQ

theorem C_offer {h : Hp} {d : Nat} {a : Fl} {tx : Nat → Nat → Prop} (h8 : IO h 8 8) (hx0 : pR h 8 0 = some 9) (hs : MkS h 9) (hv : MV h 9 a tx) (hi : IC a) {b : Nat} (hb : b = 0 ∨ b = 1) (f e u : Int32) (hd : 4 ≤ d) : ∃ h1, Sp d mX8_offer [.ref 8, .int (nI b), .int f, .int e, .int u] h (some (.int (mOffer a b f e u).1)) h1 ∧ MV h1 9 (mOffer a b f e u).2 tx ∧ FR 9 236 h h1 := by
  have hv0 := hv
  obtain ⟨v1, v2, v3, v4, vF, v6, v7, v8, v9, v10, v11⟩ := hv
  obtain ⟨i0, -, -, -, i4, i5, -⟩ := hi
  have eF : pI h 18 3 = nI (a 0) := vF.1.2.2.1
  have e5 : pI h 20 3 = nI (a 5) := v6.1.2.2.1
  have hp8 := pow_le8 i0
  by_cases hc : e = -1
  · subst hc
    have hf : mOffer a b f (-1) u = (0, up a 5 0) := by unfold mOffer; rw [if_pos rfl]
    rw [hf]
    have fr2 : ∀ k, k ≠ 20 → pI (sI h 20 3 0) k = pI h k := fun k hk => pI_sI_ne hk
    have gg : ∀ i, i ≠ 5 → up a 5 0 i = a i := fun i hi => up_n hi
    refine ⟨sI h 20 3 0, ?_, show MV (sI h 20 3 0) 9 (up a 5 0) tx from hv0.rows i4 rfl (fun k hk => fr2 k (by omega)) (fun i hi => gg i (by omega)) (vF.keep (fr2 18 (by omega)) (fr2 19 (by omega)) (gg 0 (by omega)) (fun i q1 q2 => gg i (by omega))) (by rw [up_s]; exact (v6.nil rfl).cg (fun i hi => by omega)) (v7.keep (fr2 22 (by omega)) (fr2 23 (by omega)) (gg 6 (by omega)) (fun i q1 q2 => gg i (by omega))) (v8.keep (fr2 24 (by omega)) (fr2 25 (by omega)) (gg 7 (by omega)) (fun i q1 q2 => gg i (by omega))), FR.rf.sI (by omega)⟩
    intro N S Q hN hS hQ
    refine z_aload_n dX8_offer_0 rfl rfl ?_
    refine y_getR FX8_10 dX8_offer_1 rfl h8 hx0 ?_
    refine y_getR FX8_350 dX8_offer_4 rfl hs.o hs.f5 ?_
    refine z_astore dX8_offer_7 (Nat.le_of_ble_eq_true rfl) ?_
    refine z_iload_n dX8_offer_9 rfl rfl ?_
    refine z_iconst (v := -1) dX8_offer_10 (by decide) ?_
    refine z_icmp_ne dX8_offer_11 rfl (fun c => absurd (rfl) c) (fun _ => ?_)
    refine z_aload dX8_offer_14 rfl ?_
    refine y_callV (as := []) CX4_clear LX8_353 IX4_clear VX4_clear ⟨rfl, Nat.le_of_ble_eq_true rfl⟩ dX8_offer_16 hs.offers.1 rfl (Nat.le_of_ble_eq_true rfl) (Nat.le_of_ble_eq_true rfl) (by omega) (s_clear (by exact hs.offers)) rok_v ⟨Nat.le_refl _, Nat.le_refl _, hN, hS⟩ ?_
    refine z_iconst (v := 0) dX8_offer_19 (by decide) ?_
    refine z_iret dX8_offer_20 ?_
    exact hQ
  · by_cases hg : (1 ≤ f ∧ f < nI (2 ^ a 0)) ∧ inr e 0 999 ∧ inr u 0 999 ∧ a 5 < 8
    · obtain ⟨f', hf0, hf', rfl⟩ := fs_of hp8.2 hg.1
      obtain ⟨e', he', rfl⟩ := inr_of (n := 999) (by omega) hg.2.1
      obtain ⟨u', hu', rfl⟩ := inr_of (n := 999) (by omega) hg.2.2.1
      have h58 := hg.2.2.2
      have hf : mOffer a b (nI f') (nI e') (nI u') = (nI (a 5 + 1), up (up (up (up (up a (126 + 4 * a 5) b) (126 + 4 * a 5 + 1) f') (126 + 4 * a 5 + 2) e') (126 + 4 * a 5 + 3) u') 5 (a 5 + 1)) := by
        unfold mOffer
        rw [if_neg hc, if_pos hg, nn_nI (by omega), nn_nI (by omega), nn_nI (by omega)]
      rw [hf]
      have hC1 : RwC (growH h 20 4 (a 5)) 20 4 8 (a 5 + 1) := v6.1.grow h58
      have hC2 : RwC (sI (growH h 20 4 (a 5)) 21 (a 5 * 4 + 0) (nI b)) 20 4 8 (a 5 + 1) := hC1.fr (pI_sI_ne (by omega))
      have hC3 : RwC (sI (sI (growH h 20 4 (a 5)) 21 (a 5 * 4 + 0) (nI b)) 21 (a 5 * 4 + 1) (nI f')) 20 4 8 (a 5 + 1) := hC2.fr (pI_sI_ne (by omega))
      have hC4 : RwC (sI (sI (sI (growH h 20 4 (a 5)) 21 (a 5 * 4 + 0) (nI b)) 21 (a 5 * 4 + 1) (nI f')) 21 (a 5 * 4 + 2) (nI e')) 20 4 8 (a 5 + 1) := hC3.fr (pI_sI_ne (by omega))
      have hC5 : RwC (sI (sI (sI (sI (growH h 20 4 (a 5)) 21 (a 5 * 4 + 0) (nI b)) 21 (a 5 * 4 + 1) (nI f')) 21 (a 5 * 4 + 2) (nI e')) 21 (a 5 * 4 + 3) (nI u')) 20 4 8 (a 5 + 1) := hC4.fr (pI_sI_ne (by omega))
      have fr2 : ∀ k, (k ≠ 20 ∧ k ≠ 21) → pI (sI (sI (sI (sI (growH h 20 4 (a 5)) 21 (a 5 * 4 + 0) (nI b)) 21 (a 5 * 4 + 1) (nI f')) 21 (a 5 * 4 + 2) (nI e')) 21 (a 5 * 4 + 3) (nI u')) k = pI h k := fun k hk => by rw [pI_sI_ne hk.2, pI_sI_ne hk.2, pI_sI_ne hk.2, pI_sI_ne hk.2, growH_ne hk.1 hk.2]
      have gg : ∀ i, (i ≠ 5 ∧ (i < 126 ∨ 158 ≤ i)) → up (up (up (up (up a (126 + 4 * a 5) b) (126 + 4 * a 5 + 1) f') (126 + 4 * a 5 + 2) e') (126 + 4 * a 5 + 3) u') 5 (a 5 + 1) i = a i := fun i hi => by simp only [up]; rw [if_neg hi.1, if_neg (by omega), if_neg (by omega), if_neg (by omega), if_neg (by omega)]
      refine ⟨sI (sI (sI (sI (growH h 20 4 (a 5)) 21 (a 5 * 4 + 0) (nI b)) 21 (a 5 * 4 + 1) (nI f')) 21 (a 5 * 4 + 2) (nI e')) 21 (a 5 * 4 + 3) (nI u'), ?_, show MV (sI (sI (sI (sI (growH h 20 4 (a 5)) 21 (a 5 * 4 + 0) (nI b)) 21 (a 5 * 4 + 1) (nI f')) 21 (a 5 * 4 + 2) (nI e')) 21 (a 5 * 4 + 3) (nI u')) 9 (up (up (up (up (up a (126 + 4 * a 5) b) (126 + 4 * a 5 + 1) f') (126 + 4 * a 5 + 2) e') (126 + 4 * a 5 + 3) u') 5 (a 5 + 1)) tx from hv0.rows i4 rfl (fun k hk => fr2 k (by omega)) (fun i hi => gg i (by omega)) (vF.keep (fr2 18 (by omega)) (fr2 19 (by omega)) (gg 0 (by omega)) (fun i q1 q2 => gg i (by omega))) (by rw [up_s]; exact v6.add4 h58 (fun i hi => by simp only [up]; rw [if_neg (by omega), if_neg (by omega), if_neg (by omega), if_neg (by omega), if_neg (by omega)]) (by simp only [up]; rw [if_neg (by omega), if_neg (by omega), if_neg (by omega), if_neg (by omega), if_pos (by omega)]) (by simp only [up]; rw [if_neg (by omega), if_neg (by omega), if_neg (by omega), if_pos (by omega)]) (by simp only [up]; rw [if_neg (by omega), if_neg (by omega), if_pos (by omega)]) (by simp only [up]; rw [if_neg (by omega), if_pos (by omega)])) (v7.keep (fr2 22 (by omega)) (fr2 23 (by omega)) (gg 6 (by omega)) (fun i q1 q2 => gg i (by omega))) (v8.keep (fr2 24 (by omega)) (fr2 25 (by omega)) (gg 7 (by omega)) (fun i q1 q2 => gg i (by omega))), ((((FR.rf.grow (by omega)).sI (by omega)).sI (by omega)).sI (by omega)).sI (by omega)⟩
      intro N S Q hN hS hQ
      rcases hb with rfl | rfl
      · -- b
        refine z_aload_n dX8_offer_0 rfl rfl ?_
        refine y_getR FX8_10 dX8_offer_1 rfl h8 hx0 ?_
        refine y_getR FX8_350 dX8_offer_4 rfl hs.o hs.f5 ?_
        refine z_astore dX8_offer_7 (Nat.le_of_ble_eq_true rfl) ?_
        refine z_iload_n dX8_offer_9 rfl rfl ?_
        refine z_iconst (v := -1) dX8_offer_10 (by decide) ?_
        refine z_icmp_ne dX8_offer_11 rfl (fun _ => ?_) (fun c => absurd c (hc))
        refine z_aload_n dX8_offer_21 rfl rfl ?_
        refine z_iload_n dX8_offer_22 rfl rfl ?_
        refine y_callV (as := [_]) CX8_someFacts LX8_124 IX8_someFacts VX8_someFacts ⟨rfl, Nat.le_of_ble_eq_true rfl⟩ dX8_offer_23 h8 rfl (Nat.le_of_ble_eq_true rfl) (Nat.le_of_ble_eq_true rfl) (by omega) (s_someFacts (d := 3) h8 hx0 (by exact hs) eF i0 _ (by omega)) (rok_z bI_01) ⟨Nat.le_refl _, Nat.le_refl _, hN, hS⟩ ?_
        refine z_if_eq dX8_offer_26 rfl (fun c => absurd c (bI_ne0.mpr hg.1)) (fun _ => ?_)
        refine z_iload_n dX8_offer_29 rfl rfl ?_
        refine z_iconst (v := 0) dX8_offer_30 (by decide) ?_
        refine z_sipush (v := 999) dX8_offer_31 (by decide) ?_
        refine y_callS (as := [_, _, _]) CX8_within LX8_61 SX8_within dX8_offer_34 rfl (Nat.le_of_ble_eq_true rfl) (Nat.le_of_ble_eq_true rfl) (by omega) (s_within _ _ _) (rok_z bI_01) ⟨Nat.le_refl _, Nat.le_refl _, hN, hS⟩ ?_
        refine z_if_eq dX8_offer_37 rfl (fun c => absurd c (bI_ne0.mpr hg.2.1)) (fun _ => ?_)
        refine z_iload dX8_offer_40 rfl ?_
        refine z_iconst (v := 0) dX8_offer_42 (by decide) ?_
        refine z_sipush (v := 999) dX8_offer_43 (by decide) ?_
        refine y_callS (as := [_, _, _]) CX8_within LX8_61 SX8_within dX8_offer_46 rfl (Nat.le_of_ble_eq_true rfl) (Nat.le_of_ble_eq_true rfl) (by omega) (s_within _ _ _) (rok_z bI_01) ⟨Nat.le_refl _, Nat.le_refl _, hN, hS⟩ ?_
        refine z_if_eq dX8_offer_49 rfl (fun c => absurd c (bI_ne0.mpr hg.2.2.1)) (fun _ => ?_)
        refine z_aload dX8_offer_52 rfl ?_
        refine y_getI FX8_130 dX8_offer_54 (Or.inl rfl) hs.offers.1 ?_
        refine z_eqi (y := nI (a 5)) e5 ?_
        refine z_bipush (v := 8) dX8_offer_57 (by decide) ?_
        refine z_icmp_lt dX8_offer_59 rfl (fun _ => ?_) (fun c => absurd ((nI_ltI (b := 8) (by omega) (by omega)).mpr h58) c)
        refine z_aload dX8_offer_65 rfl ?_
        refine y_callV (as := []) CX4_grow LX8_69 IX4_grow VX4_grow ⟨rfl, Nat.le_of_ble_eq_true rfl⟩ dX8_offer_67 hs.offers.1 rfl (Nat.le_of_ble_eq_true rfl) (Nat.le_of_ble_eq_true rfl) (by omega) (s_grow (d := 3) (k := 20) (w := 4) (by exact hs.offers) v6.1 h58 (by omega)) rok_i ⟨Nat.le_refl _, Nat.le_refl _, hN, hS⟩ ?_
        refine z_istore dX8_offer_70 (Nat.le_of_ble_eq_true rfl) ?_
        refine z_aload dX8_offer_72 rfl ?_
        refine z_iload dX8_offer_74 rfl ?_
        refine z_iconst (v := 0) dX8_offer_76 (by decide) ?_
        refine z_iload_n dX8_offer_77 rfl rfl ?_
        refine z_if_eq dX8_offer_78 rfl (fun _ => ?_) (fun c => absurd (rfl) c)
        refine z_iconst (v := 0) dX8_offer_85 (by decide) ?_
        refine y_callV (as := [_, _, _]) CX4_set LX8_75 IX4_set VX4_set ⟨rfl, Nat.le_of_ble_eq_true rfl⟩ dX8_offer_86 hs.offers.1 rfl (Nat.le_of_ble_eq_true rfl) (Nat.le_of_ble_eq_true rfl) (by omega) (s_set (d := 3) (k := 20) (w := 4) (ms := 8) (n := a 5 + 1) (i := a 5) (j := 0) (by exact (by exact hs.offers)) hC1 (by omega) (Nat.le_of_ble_eq_true rfl)) rok_v ⟨Nat.le_refl _, Nat.le_refl _, hN, hS⟩ ?_
        refine z_aload dX8_offer_89 rfl ?_
        refine z_iload dX8_offer_91 rfl ?_
        refine z_iconst (v := 1) dX8_offer_93 (by decide) ?_
        refine z_iload_n dX8_offer_94 rfl rfl ?_
        refine y_callV (as := [_, _, _]) CX4_set LX8_75 IX4_set VX4_set ⟨rfl, Nat.le_of_ble_eq_true rfl⟩ dX8_offer_95 hs.offers.1 rfl (Nat.le_of_ble_eq_true rfl) (Nat.le_of_ble_eq_true rfl) (by omega) (s_set (d := 3) (k := 20) (w := 4) (ms := 8) (n := a 5 + 1) (i := a 5) (j := 1) (by exact (by exact hs.offers)) hC2 (by omega) (Nat.le_of_ble_eq_true rfl)) rok_v ⟨Nat.le_refl _, Nat.le_refl _, hN, hS⟩ ?_
        refine z_aload dX8_offer_98 rfl ?_
        refine z_iload dX8_offer_100 rfl ?_
        refine z_iconst (v := 2) dX8_offer_102 (by decide) ?_
        refine z_iload_n dX8_offer_103 rfl rfl ?_
        refine y_callV (as := [_, _, _]) CX4_set LX8_75 IX4_set VX4_set ⟨rfl, Nat.le_of_ble_eq_true rfl⟩ dX8_offer_104 hs.offers.1 rfl (Nat.le_of_ble_eq_true rfl) (Nat.le_of_ble_eq_true rfl) (by omega) (s_set (d := 3) (k := 20) (w := 4) (ms := 8) (n := a 5 + 1) (i := a 5) (j := 2) (by exact (by exact hs.offers)) hC3 (by omega) (Nat.le_of_ble_eq_true rfl)) rok_v ⟨Nat.le_refl _, Nat.le_refl _, hN, hS⟩ ?_
        refine z_aload dX8_offer_107 rfl ?_
        refine z_iload dX8_offer_109 rfl ?_
        refine z_iconst (v := 3) dX8_offer_111 (by decide) ?_
        refine z_iload dX8_offer_112 rfl ?_
        refine y_callV (as := [_, _, _]) CX4_set LX8_75 IX4_set VX4_set ⟨rfl, Nat.le_of_ble_eq_true rfl⟩ dX8_offer_114 hs.offers.1 rfl (Nat.le_of_ble_eq_true rfl) (Nat.le_of_ble_eq_true rfl) (by omega) (s_set (d := 3) (k := 20) (w := 4) (ms := 8) (n := a 5 + 1) (i := a 5) (j := 3) (by exact (by exact hs.offers)) hC4 (by omega) (Nat.le_of_ble_eq_true rfl)) rok_v ⟨Nat.le_refl _, Nat.le_refl _, hN, hS⟩ ?_
        refine z_aload dX8_offer_117 rfl ?_
        refine y_getI FX8_130 dX8_offer_119 (Or.inl rfl) hs.offers.1 ?_
        refine z_eqi hC5.2.2.1 ?_
        refine z_iret dX8_offer_122 ?_
        exact hQ
      · -- b
        refine z_aload_n dX8_offer_0 rfl rfl ?_
        refine y_getR FX8_10 dX8_offer_1 rfl h8 hx0 ?_
        refine y_getR FX8_350 dX8_offer_4 rfl hs.o hs.f5 ?_
        refine z_astore dX8_offer_7 (Nat.le_of_ble_eq_true rfl) ?_
        refine z_iload_n dX8_offer_9 rfl rfl ?_
        refine z_iconst (v := -1) dX8_offer_10 (by decide) ?_
        refine z_icmp_ne dX8_offer_11 rfl (fun _ => ?_) (fun c => absurd c (hc))
        refine z_aload_n dX8_offer_21 rfl rfl ?_
        refine z_iload_n dX8_offer_22 rfl rfl ?_
        refine y_callV (as := [_]) CX8_someFacts LX8_124 IX8_someFacts VX8_someFacts ⟨rfl, Nat.le_of_ble_eq_true rfl⟩ dX8_offer_23 h8 rfl (Nat.le_of_ble_eq_true rfl) (Nat.le_of_ble_eq_true rfl) (by omega) (s_someFacts (d := 3) h8 hx0 (by exact hs) eF i0 _ (by omega)) (rok_z bI_01) ⟨Nat.le_refl _, Nat.le_refl _, hN, hS⟩ ?_
        refine z_if_eq dX8_offer_26 rfl (fun c => absurd c (bI_ne0.mpr hg.1)) (fun _ => ?_)
        refine z_iload_n dX8_offer_29 rfl rfl ?_
        refine z_iconst (v := 0) dX8_offer_30 (by decide) ?_
        refine z_sipush (v := 999) dX8_offer_31 (by decide) ?_
        refine y_callS (as := [_, _, _]) CX8_within LX8_61 SX8_within dX8_offer_34 rfl (Nat.le_of_ble_eq_true rfl) (Nat.le_of_ble_eq_true rfl) (by omega) (s_within _ _ _) (rok_z bI_01) ⟨Nat.le_refl _, Nat.le_refl _, hN, hS⟩ ?_
        refine z_if_eq dX8_offer_37 rfl (fun c => absurd c (bI_ne0.mpr hg.2.1)) (fun _ => ?_)
        refine z_iload dX8_offer_40 rfl ?_
        refine z_iconst (v := 0) dX8_offer_42 (by decide) ?_
        refine z_sipush (v := 999) dX8_offer_43 (by decide) ?_
        refine y_callS (as := [_, _, _]) CX8_within LX8_61 SX8_within dX8_offer_46 rfl (Nat.le_of_ble_eq_true rfl) (Nat.le_of_ble_eq_true rfl) (by omega) (s_within _ _ _) (rok_z bI_01) ⟨Nat.le_refl _, Nat.le_refl _, hN, hS⟩ ?_
        refine z_if_eq dX8_offer_49 rfl (fun c => absurd c (bI_ne0.mpr hg.2.2.1)) (fun _ => ?_)
        refine z_aload dX8_offer_52 rfl ?_
        refine y_getI FX8_130 dX8_offer_54 (Or.inl rfl) hs.offers.1 ?_
        refine z_eqi (y := nI (a 5)) e5 ?_
        refine z_bipush (v := 8) dX8_offer_57 (by decide) ?_
        refine z_icmp_lt dX8_offer_59 rfl (fun _ => ?_) (fun c => absurd ((nI_ltI (b := 8) (by omega) (by omega)).mpr h58) c)
        refine z_aload dX8_offer_65 rfl ?_
        refine y_callV (as := []) CX4_grow LX8_69 IX4_grow VX4_grow ⟨rfl, Nat.le_of_ble_eq_true rfl⟩ dX8_offer_67 hs.offers.1 rfl (Nat.le_of_ble_eq_true rfl) (Nat.le_of_ble_eq_true rfl) (by omega) (s_grow (d := 3) (k := 20) (w := 4) (by exact hs.offers) v6.1 h58 (by omega)) rok_i ⟨Nat.le_refl _, Nat.le_refl _, hN, hS⟩ ?_
        refine z_istore dX8_offer_70 (Nat.le_of_ble_eq_true rfl) ?_
        refine z_aload dX8_offer_72 rfl ?_
        refine z_iload dX8_offer_74 rfl ?_
        refine z_iconst (v := 0) dX8_offer_76 (by decide) ?_
        refine z_iload_n dX8_offer_77 rfl rfl ?_
        refine z_if_eq dX8_offer_78 rfl (fun c => absurd c (by decide)) (fun _ => ?_)
        refine z_iconst (v := 1) dX8_offer_81 (by decide) ?_
        refine z_goto dX8_offer_82 rfl ?_
        refine y_callV (as := [_, _, _]) CX4_set LX8_75 IX4_set VX4_set ⟨rfl, Nat.le_of_ble_eq_true rfl⟩ dX8_offer_86 hs.offers.1 rfl (Nat.le_of_ble_eq_true rfl) (Nat.le_of_ble_eq_true rfl) (by omega) (s_set (d := 3) (k := 20) (w := 4) (ms := 8) (n := a 5 + 1) (i := a 5) (j := 0) (by exact (by exact hs.offers)) hC1 (by omega) (Nat.le_of_ble_eq_true rfl)) rok_v ⟨Nat.le_refl _, Nat.le_refl _, hN, hS⟩ ?_
        refine z_aload dX8_offer_89 rfl ?_
        refine z_iload dX8_offer_91 rfl ?_
        refine z_iconst (v := 1) dX8_offer_93 (by decide) ?_
        refine z_iload_n dX8_offer_94 rfl rfl ?_
        refine y_callV (as := [_, _, _]) CX4_set LX8_75 IX4_set VX4_set ⟨rfl, Nat.le_of_ble_eq_true rfl⟩ dX8_offer_95 hs.offers.1 rfl (Nat.le_of_ble_eq_true rfl) (Nat.le_of_ble_eq_true rfl) (by omega) (s_set (d := 3) (k := 20) (w := 4) (ms := 8) (n := a 5 + 1) (i := a 5) (j := 1) (by exact (by exact hs.offers)) hC2 (by omega) (Nat.le_of_ble_eq_true rfl)) rok_v ⟨Nat.le_refl _, Nat.le_refl _, hN, hS⟩ ?_
        refine z_aload dX8_offer_98 rfl ?_
        refine z_iload dX8_offer_100 rfl ?_
        refine z_iconst (v := 2) dX8_offer_102 (by decide) ?_
        refine z_iload_n dX8_offer_103 rfl rfl ?_
        refine y_callV (as := [_, _, _]) CX4_set LX8_75 IX4_set VX4_set ⟨rfl, Nat.le_of_ble_eq_true rfl⟩ dX8_offer_104 hs.offers.1 rfl (Nat.le_of_ble_eq_true rfl) (Nat.le_of_ble_eq_true rfl) (by omega) (s_set (d := 3) (k := 20) (w := 4) (ms := 8) (n := a 5 + 1) (i := a 5) (j := 2) (by exact (by exact hs.offers)) hC3 (by omega) (Nat.le_of_ble_eq_true rfl)) rok_v ⟨Nat.le_refl _, Nat.le_refl _, hN, hS⟩ ?_
        refine z_aload dX8_offer_107 rfl ?_
        refine z_iload dX8_offer_109 rfl ?_
        refine z_iconst (v := 3) dX8_offer_111 (by decide) ?_
        refine z_iload dX8_offer_112 rfl ?_
        refine y_callV (as := [_, _, _]) CX4_set LX8_75 IX4_set VX4_set ⟨rfl, Nat.le_of_ble_eq_true rfl⟩ dX8_offer_114 hs.offers.1 rfl (Nat.le_of_ble_eq_true rfl) (Nat.le_of_ble_eq_true rfl) (by omega) (s_set (d := 3) (k := 20) (w := 4) (ms := 8) (n := a 5 + 1) (i := a 5) (j := 3) (by exact (by exact hs.offers)) hC4 (by omega) (Nat.le_of_ble_eq_true rfl)) rok_v ⟨Nat.le_refl _, Nat.le_refl _, hN, hS⟩ ?_
        refine z_aload dX8_offer_117 rfl ?_
        refine y_getI FX8_130 dX8_offer_119 (Or.inl rfl) hs.offers.1 ?_
        refine z_eqi hC5.2.2.1 ?_
        refine z_iret dX8_offer_122 ?_
        exact hQ
    · have hf : mOffer a b f e u = (-2, a) := by
        unfold mOffer
        rw [if_neg hc, if_neg hg]
      rw [hf]
      refine ⟨h, ?_, hv0, FR.rf⟩
      intro N S Q hN hS hQ
      refine z_aload_n dX8_offer_0 rfl rfl ?_
      refine y_getR FX8_10 dX8_offer_1 rfl h8 hx0 ?_
      refine y_getR FX8_350 dX8_offer_4 rfl hs.o hs.f5 ?_
      refine z_astore dX8_offer_7 (Nat.le_of_ble_eq_true rfl) ?_
      refine z_iload_n dX8_offer_9 rfl rfl ?_
      refine z_iconst (v := -1) dX8_offer_10 (by decide) ?_
      refine z_icmp_ne dX8_offer_11 rfl (fun _ => ?_) (fun c => absurd c (hc))
      refine z_aload_n dX8_offer_21 rfl rfl ?_
      refine z_iload_n dX8_offer_22 rfl rfl ?_
      refine y_callV (as := [_]) CX8_someFacts LX8_124 IX8_someFacts VX8_someFacts ⟨rfl, Nat.le_of_ble_eq_true rfl⟩ dX8_offer_23 h8 rfl (Nat.le_of_ble_eq_true rfl) (Nat.le_of_ble_eq_true rfl) (by omega) (s_someFacts (d := 3) h8 hx0 (by exact hs) eF i0 _ (by omega)) (rok_z bI_01) ⟨Nat.le_refl _, Nat.le_refl _, hN, hS⟩ ?_
      refine z_if_eq dX8_offer_26 rfl (fun c26 => ?_) (fun c26 => ?_)
      · -- to 62
        refine z_bipush (v := -2) dX8_offer_62 (by decide) ?_
        refine z_iret dX8_offer_64 ?_
        exact hQ
      · -- on
        refine z_iload_n dX8_offer_29 rfl rfl ?_
        refine z_iconst (v := 0) dX8_offer_30 (by decide) ?_
        refine z_sipush (v := 999) dX8_offer_31 (by decide) ?_
        refine y_callS (as := [_, _, _]) CX8_within LX8_61 SX8_within dX8_offer_34 rfl (Nat.le_of_ble_eq_true rfl) (Nat.le_of_ble_eq_true rfl) (by omega) (s_within _ _ _) (rok_z bI_01) ⟨Nat.le_refl _, Nat.le_refl _, hN, hS⟩ ?_
        refine z_if_eq dX8_offer_37 rfl (fun c37 => ?_) (fun c37 => ?_)
        · -- to 62
          refine z_bipush (v := -2) dX8_offer_62 (by decide) ?_
          refine z_iret dX8_offer_64 ?_
          exact hQ
        · -- on
          refine z_iload dX8_offer_40 rfl ?_
          refine z_iconst (v := 0) dX8_offer_42 (by decide) ?_
          refine z_sipush (v := 999) dX8_offer_43 (by decide) ?_
          refine y_callS (as := [_, _, _]) CX8_within LX8_61 SX8_within dX8_offer_46 rfl (Nat.le_of_ble_eq_true rfl) (Nat.le_of_ble_eq_true rfl) (by omega) (s_within _ _ _) (rok_z bI_01) ⟨Nat.le_refl _, Nat.le_refl _, hN, hS⟩ ?_
          refine z_if_eq dX8_offer_49 rfl (fun c49 => ?_) (fun c49 => ?_)
          · -- to 62
            refine z_bipush (v := -2) dX8_offer_62 (by decide) ?_
            refine z_iret dX8_offer_64 ?_
            exact hQ
          · -- on
            refine z_aload dX8_offer_52 rfl ?_
            refine y_getI FX8_130 dX8_offer_54 (Or.inl rfl) hs.offers.1 ?_
            refine z_eqi (y := nI (a 5)) e5 ?_
            refine z_bipush (v := 8) dX8_offer_57 (by decide) ?_
            refine z_icmp_lt dX8_offer_59 rfl (fun c59 => ?_) (fun c59 => ?_)
            · -- to 65
              exact absurd ⟨bI_ne0.mp c26, bI_ne0.mp c37, bI_ne0.mp c49, (nI_ltI (b := 8) (by omega) (by omega)).mp c59⟩ hg
            · -- on
              refine z_bipush (v := -2) dX8_offer_62 (by decide) ?_
              refine z_iret dX8_offer_64 ?_
              exact hQ

