/-! the class: prophets are told (walks by program: wip/whole/gen28.py) -/
theorem C_prophet {h : Hp} {d : Nat} {a : Fl} {tx : Nat → Nat → Prop} (h8 : IO h 8 8) (hx0 : pR h 8 0 = some 9) (hs : MkS h 9) (hv : MV h 9 a tx) (hi : IC a) (u f : Int32) (hd : 3 ≤ d) : ∃ h1, Sp d mX8_prophet [.ref 8, .int u, .int f] h (some (.int (mProphet a u f).1)) h1 ∧ MV h1 9 (mProphet a u f).2 tx ∧ FR 9 236 h h1 := by
  have hv0 := hv
  obtain ⟨v1, v2, v3, v4, vF, v6, v7, v8, v9, v10, v11⟩ := hv
  obtain ⟨-, i1, -, -, i4, -⟩ := hi
  have vP : RwC h 11 3 5 (a 1) := v1.2.2.2.1
  by_cases hc : inr u 0 9999 ∧ inr f 0 99
  · by_cases hfull : a 1 < 5
    · obtain ⟨u', hu, rfl⟩ := inr_of (n := 9999) (by omega) hc.1
      obtain ⟨f', hf', rfl⟩ := inr_of (n := 99) (by omega) hc.2
      have hf : mProphet a (nI u') (nI f') = (nI (a 1), up (up (up (up (up (up a (13 + 5 * a 1 + 3) u') (13 + 5 * a 1 + 4) f') (13 + 5 * a 1 + 0) u') (13 + 5 * a 1 + 1) f') (13 + 5 * a 1 + 2) 0) 1 (a 1 + 1)) := by
        unfold mProphet
        rw [if_pos ⟨hc.1, hc.2, hfull⟩, nn_nI (by omega), nn_nI (by omega)]
      rw [hf]
      have hC1 : RwC (growH h 11 3 (a 1)) 11 3 5 (a 1 + 1) := vP.grow hfull
      have hC2 : RwC (sI (growH h 11 3 (a 1)) 12 (a 1 * 3 + 0) (nI u')) 11 3 5 (a 1 + 1) := hC1.fr (pI_sI_ne (by omega))
      have hC3 : RwC (sI (sI (growH h 11 3 (a 1)) 12 (a 1 * 3 + 0) (nI u')) 12 (a 1 * 3 + 1) (nI f')) 11 3 5 (a 1 + 1) := hC2.fr (pI_sI_ne (by omega))
      refine ⟨sI (sI (growH h 11 3 (a 1)) 12 (a 1 * 3 + 0) (nI u')) 12 (a 1 * 3 + 1) (nI f'), ?_, ?_, ((FR.rf.grow (by omega)).sI (by omega)).sI (by omega)⟩
      · intro N S Q hN hS hQ
        refine z_iload_n dX8_prophet_0 rfl rfl ?_
        refine z_iconst (v := 0) dX8_prophet_1 (by decide) ?_
        refine z_sipush (v := 9999) dX8_prophet_2 (by decide) ?_
        refine y_callS (as := [_, _, _]) CX8_within LX8_61 SX8_within dX8_prophet_5 rfl (Nat.le_of_ble_eq_true rfl) (Nat.le_of_ble_eq_true rfl) (by omega) (s_within _ _ _) (rok_z bI_01) ⟨Nat.le_refl _, Nat.le_refl _, hN, hS⟩ ?_
        refine z_if_eq dX8_prophet_8 rfl (fun c => absurd c (bI_ne0.mpr hc.1)) (fun _ => ?_)
        refine z_iload_n dX8_prophet_11 rfl rfl ?_
        refine z_iconst (v := 0) dX8_prophet_12 (by decide) ?_
        refine z_bipush (v := 99) dX8_prophet_13 (by decide) ?_
        refine y_callS (as := [_, _, _]) CX8_within LX8_61 SX8_within dX8_prophet_15 rfl (Nat.le_of_ble_eq_true rfl) (Nat.le_of_ble_eq_true rfl) (by omega) (s_within _ _ _) (rok_z bI_01) ⟨Nat.le_refl _, Nat.le_refl _, hN, hS⟩ ?_
        refine z_if_ne dX8_prophet_18 rfl (fun _ => ?_) (fun c => absurd c (bI_ne0.mpr hc.2))
        refine z_aload_n dX8_prophet_23 rfl rfl ?_
        refine y_getR FX8_10 dX8_prophet_24 rfl h8 hx0 ?_
        refine y_getR FX8_79 dX8_prophet_27 rfl hs.o hs.f0 ?_
        refine y_getR FX8_82 dX8_prophet_30 rfl hs.now.1 hs.now.2.1 ?_
        refine y_callV (as := []) CX4_grow LX8_69 IX4_grow VX4_grow ⟨rfl, Nat.le_of_ble_eq_true rfl⟩ dX8_prophet_33 hs.now.2.2.1.1 rfl (Nat.le_of_ble_eq_true rfl) (Nat.le_of_ble_eq_true rfl) (by omega) (s_grow (d := 2) (k := 11) (w := 3) (by exact hs.now.2.2.1) vP hfull (Nat.le_refl _)) rok_i ⟨Nat.le_refl _, Nat.le_refl _, hN, hS⟩ ?_
        refine z_istore_n dX8_prophet_36 rfl (Nat.le_of_ble_eq_true rfl) ?_
        refine z_aload_n dX8_prophet_37 rfl rfl ?_
        refine y_getR FX8_10 dX8_prophet_38 rfl h8 hx0 ?_
        refine y_getR FX8_79 dX8_prophet_41 rfl hs.o hs.f0 ?_
        refine y_getR FX8_82 dX8_prophet_44 rfl hs.now.1 hs.now.2.1 ?_
        refine z_iload_n dX8_prophet_47 rfl rfl ?_
        refine z_iconst (v := 0) dX8_prophet_48 (by decide) ?_
        refine z_iload_n dX8_prophet_49 rfl rfl ?_
        refine y_callV (as := [_, _, _]) CX4_set LX8_75 IX4_set VX4_set ⟨rfl, Nat.le_of_ble_eq_true rfl⟩ dX8_prophet_50 hs.now.2.2.1.1 rfl (Nat.le_of_ble_eq_true rfl) (Nat.le_of_ble_eq_true rfl) (by omega) (s_set (d := 2) (k := 11) (w := 3) (ms := 5) (n := a 1 + 1) (i := a 1) (j := 0) (by exact hs.now.2.2.1) hC1 (by omega) (Nat.le_of_ble_eq_true rfl)) rok_v ⟨Nat.le_refl _, Nat.le_refl _, hN, hS⟩ ?_
        refine z_aload_n dX8_prophet_53 rfl rfl ?_
        refine y_getR FX8_10 dX8_prophet_54 rfl h8 hx0 ?_
        refine y_getR FX8_79 dX8_prophet_57 rfl hs.o hs.f0 ?_
        refine y_getR FX8_82 dX8_prophet_60 rfl hs.now.1 hs.now.2.1 ?_
        refine z_iload_n dX8_prophet_63 rfl rfl ?_
        refine z_iconst (v := 1) dX8_prophet_64 (by decide) ?_
        refine z_iload_n dX8_prophet_65 rfl rfl ?_
        refine y_callV (as := [_, _, _]) CX4_set LX8_75 IX4_set VX4_set ⟨rfl, Nat.le_of_ble_eq_true rfl⟩ dX8_prophet_66 hs.now.2.2.1.1 rfl (Nat.le_of_ble_eq_true rfl) (Nat.le_of_ble_eq_true rfl) (by omega) (s_set (d := 2) (k := 11) (w := 3) (ms := 5) (n := a 1 + 1) (i := a 1) (j := 1) (by exact hs.now.2.2.1) hC2 (by omega) (Nat.le_of_ble_eq_true rfl)) rok_v ⟨Nat.le_refl _, Nat.le_refl _, hN, hS⟩ ?_
        refine z_iload_n dX8_prophet_69 rfl rfl ?_
        refine z_iret dX8_prophet_70 ?_
        exact hQ
      · show MV (sI (sI (growH h 11 3 (a 1)) 12 (a 1 * 3 + 0) (nI u')) 12 (a 1 * 3 + 1) (nI f')) 9 (up (up (up (up (up (up a (13 + 5 * a 1 + 3) u') (13 + 5 * a 1 + 4) f') (13 + 5 * a 1 + 0) u') (13 + 5 * a 1 + 1) f') (13 + 5 * a 1 + 2) 0) 1 (a 1 + 1)) tx
        have fr : ∀ k, (k ≠ 11 ∧ k ≠ 12) → pI (sI (sI (growH h 11 3 (a 1)) 12 (a 1 * 3 + 0) (nI u')) 12 (a 1 * 3 + 1) (nI f')) k = pI h k := fun k hk => by rw [pI_sI_ne hk.2, pI_sI_ne hk.2, growH_ne hk.1 hk.2]
        have gg : ∀ i, (i ≠ 1 ∧ (i < 13 + 5 * a 1 ∨ 18 + 5 * a 1 ≤ i)) → (up (up (up (up (up (up a (13 + 5 * a 1 + 3) u') (13 + 5 * a 1 + 4) f') (13 + 5 * a 1 + 0) u') (13 + 5 * a 1 + 1) f') (13 + 5 * a 1 + 2) 0) 1 (a 1 + 1)) i = a i := fun i hi => by simp only [up]; rw [if_neg (by omega), if_neg (by omega), if_neg (by omega), if_neg (by omega), if_neg (by omega), if_neg (by omega)]
        refine hv0.now i4 rfl (fun k hk => fr k (by omega)) (fun i hi => gg i (by omega)) ?_
        obtain ⟨w1, w2, w3, w4, w5, w6, w7, w8, w9⟩ := v1
        have b4 : a 11 ≤ 12 := w6.2.2.2.1
        have b5 : a 12 ≤ 30 := w8.2.2.2.1
        refine ⟨?_, ?_, ?_, ?_, fun i hi => ?_, ?_, fun i hi => ?_, ?_, fun i hi => ?_⟩
        · rw [fr _ (by omega), snap_1, gg 8 (by omega)]; exact w1
        · rw [fr _ (by omega), snap_2, gg 9 (by omega)]; exact w2
        · rw [fr _ (by omega), snap_3, gg 10 (by omega)]; exact w3
        · rw [snap_0, show (up (up (up (up (up (up a (13 + 5 * a 1 + 3) u') (13 + 5 * a 1 + 4) f') (13 + 5 * a 1 + 0) u') (13 + 5 * a 1 + 1) f') (13 + 5 * a 1 + 2) 0) 1 (a 1 + 1)) 1 = a 1 + 1 from up_s]
          exact hC3
        · rw [snap_0, show (up (up (up (up (up (up a (13 + 5 * a 1 + 3) u') (13 + 5 * a 1 + 4) f') (13 + 5 * a 1 + 0) u') (13 + 5 * a 1 + 1) f') (13 + 5 * a 1 + 2) 0) 1 (a 1 + 1)) 1 = a 1 + 1 from up_s] at hi
          rw [snap_p (by omega)]
          show pI (sI (sI (growH h 11 3 (a 1)) 12 (a 1 * 3 + 0) (nI u')) 12 (a 1 * 3 + 1) (nI f')) 12 i = _
          rw [pI_sI, if_pos rfl]
          by_cases q1 : i = a 1 * 3 + 1
          · rw [if_pos q1, show 13 + 5 * (i / 3) + i % 3 = 13 + 5 * a 1 + 1 by omega]
            rw [up_n (by omega), up_n (by omega), up_s]
          · rw [if_neg q1, pI_sI, if_pos rfl]
            by_cases q0 : i = a 1 * 3 + 0
            · rw [if_pos q0, show 13 + 5 * (i / 3) + i % 3 = 13 + 5 * a 1 + 0 by omega]
              rw [up_n (by omega), up_n (by omega), up_n (by omega), up_s]
            · rw [if_neg q0]
              show pI (growH h 11 3 (a 1)) (11 + 1) i = _
              rw [growH_at]
              by_cases q2 : i = a 1 * 3 + 2
              · rw [if_pos (by omega), show 13 + 5 * (i / 3) + i % 3 = 13 + 5 * a 1 + 2 by omega]
                have : (up (up (up (up (up (up a (13 + 5 * a 1 + 3) u') (13 + 5 * a 1 + 4) f') (13 + 5 * a 1 + 0) u') (13 + 5 * a 1 + 1) f') (13 + 5 * a 1 + 2) 0) 1 (a 1 + 1)) (13 + 5 * a 1 + 2) = 0 := by
                  rw [up_n (by omega), up_s]
                rw [this]
                rfl
              · rw [if_neg (by omega), gg _ (by omega), ← snap_p (a := a) (i := i) (by omega)]
                exact w5 i (by rw [snap_0]; omega)
        · rw [snap_4, gg 11 (by omega)]; exact w6.fr (fr _ (by omega))
        · rw [snap_4, gg 11 (by omega)] at hi
          rw [fr _ (by omega), snap_c (by omega), gg _ (by omega), ← snap_c (a := a) (i := i) (by omega)]
          exact w7 i (by rw [snap_4]; omega)
        · rw [snap_5, gg 12 (by omega)]; exact w8.fr (fr _ (by omega))
        · rw [snap_5, gg 12 (by omega)] at hi
          rw [fr _ (by omega), snap_b, show 94 + 2 * i = 93 + (2 * i + 1) by omega, snap_b, gg _ (by omega), gg _ (by omega)]
          have := w9 i (by rw [snap_5]; omega)
          rw [snap_b, show 94 + 2 * i = 93 + (2 * i + 1) by omega, snap_b] at this
          exact this
    · have hf : mProphet a u f = (-1, a) := by
        unfold mProphet
        rw [if_neg (fun q => hfull q.2.2)]
      rw [hf]
      refine ⟨h, ?_, hv0, FR.rf⟩
      intro N S Q hN hS hQ
      refine z_iload_n dX8_prophet_0 rfl rfl ?_
      refine z_iconst (v := 0) dX8_prophet_1 (by decide) ?_
      refine z_sipush (v := 9999) dX8_prophet_2 (by decide) ?_
      refine y_callS (as := [_, _, _]) CX8_within LX8_61 SX8_within dX8_prophet_5 rfl (Nat.le_of_ble_eq_true rfl) (Nat.le_of_ble_eq_true rfl) (by omega) (s_within _ _ _) (rok_z bI_01) ⟨Nat.le_refl _, Nat.le_refl _, hN, hS⟩ ?_
      refine z_if_eq dX8_prophet_8 rfl (fun c => absurd c (bI_ne0.mpr hc.1)) (fun _ => ?_)
      refine z_iload_n dX8_prophet_11 rfl rfl ?_
      refine z_iconst (v := 0) dX8_prophet_12 (by decide) ?_
      refine z_bipush (v := 99) dX8_prophet_13 (by decide) ?_
      refine y_callS (as := [_, _, _]) CX8_within LX8_61 SX8_within dX8_prophet_15 rfl (Nat.le_of_ble_eq_true rfl) (Nat.le_of_ble_eq_true rfl) (by omega) (s_within _ _ _) (rok_z bI_01) ⟨Nat.le_refl _, Nat.le_refl _, hN, hS⟩ ?_
      refine z_if_ne dX8_prophet_18 rfl (fun _ => ?_) (fun c => absurd c (bI_ne0.mpr hc.2))
      refine z_aload_n dX8_prophet_23 rfl rfl ?_
      refine y_getR FX8_10 dX8_prophet_24 rfl h8 hx0 ?_
      refine y_getR FX8_79 dX8_prophet_27 rfl hs.o hs.f0 ?_
      refine y_getR FX8_82 dX8_prophet_30 rfl hs.now.1 hs.now.2.1 ?_
      refine y_callV (as := []) CX4_grow LX8_69 IX4_grow VX4_grow ⟨rfl, Nat.le_of_ble_eq_true rfl⟩ dX8_prophet_33 hs.now.2.2.1.1 rfl (Nat.le_of_ble_eq_true rfl) (Nat.le_of_ble_eq_true rfl) (by omega) (s_growN (d := 2) (k := 11) (w := 3) (by exact hs.now.2.2.1) vP (by omega)) rok_i ⟨Nat.le_refl _, Nat.le_refl _, hN, hS⟩ ?_
      refine z_istore_n dX8_prophet_36 rfl (Nat.le_of_ble_eq_true rfl) ?_
      refine z_aload_n dX8_prophet_37 rfl rfl ?_
      refine y_getR FX8_10 dX8_prophet_38 rfl h8 hx0 ?_
      refine y_getR FX8_79 dX8_prophet_41 rfl hs.o hs.f0 ?_
      refine y_getR FX8_82 dX8_prophet_44 rfl hs.now.1 hs.now.2.1 ?_
      refine z_iload_n dX8_prophet_47 rfl rfl ?_
      refine z_iconst (v := 0) dX8_prophet_48 (by decide) ?_
      refine z_iload_n dX8_prophet_49 rfl rfl ?_
      refine y_callV (as := [_, _, _]) CX4_set LX8_75 IX4_set VX4_set ⟨rfl, Nat.le_of_ble_eq_true rfl⟩ dX8_prophet_50 hs.now.2.2.1.1 rfl (Nat.le_of_ble_eq_true rfl) (Nat.le_of_ble_eq_true rfl) (by omega) (s_set0 (d := 2) (k := 11) (w := 3) (ms := 5) (n := a 1) (by exact hs.now.2.2.1) vP (-1) 0 _ vin_neg) rok_v ⟨Nat.le_refl _, Nat.le_refl _, hN, hS⟩ ?_
      refine z_aload_n dX8_prophet_53 rfl rfl ?_
      refine y_getR FX8_10 dX8_prophet_54 rfl h8 hx0 ?_
      refine y_getR FX8_79 dX8_prophet_57 rfl hs.o hs.f0 ?_
      refine y_getR FX8_82 dX8_prophet_60 rfl hs.now.1 hs.now.2.1 ?_
      refine z_iload_n dX8_prophet_63 rfl rfl ?_
      refine z_iconst (v := 1) dX8_prophet_64 (by decide) ?_
      refine z_iload_n dX8_prophet_65 rfl rfl ?_
      refine y_callV (as := [_, _, _]) CX4_set LX8_75 IX4_set VX4_set ⟨rfl, Nat.le_of_ble_eq_true rfl⟩ dX8_prophet_66 hs.now.2.2.1.1 rfl (Nat.le_of_ble_eq_true rfl) (Nat.le_of_ble_eq_true rfl) (by omega) (s_set0 (d := 2) (k := 11) (w := 3) (ms := 5) (n := a 1) (by exact hs.now.2.2.1) vP (-1) 1 _ vin_neg) rok_v ⟨Nat.le_refl _, Nat.le_refl _, hN, hS⟩ ?_
      refine z_iload_n dX8_prophet_69 rfl rfl ?_
      refine z_iret dX8_prophet_70 ?_
      exact hQ
  · have hf : mProphet a u f = (-1, a) := by
      unfold mProphet
      rw [if_neg (fun q => hc ⟨q.1, q.2.1⟩)]
    rw [hf]
    refine ⟨h, ?_, hv0, FR.rf⟩
    intro N S Q hN hS hQ
    refine z_iload_n dX8_prophet_0 rfl rfl ?_
    refine z_iconst (v := 0) dX8_prophet_1 (by decide) ?_
    refine z_sipush (v := 9999) dX8_prophet_2 (by decide) ?_
    refine y_callS (as := [_, _, _]) CX8_within LX8_61 SX8_within dX8_prophet_5 rfl (Nat.le_of_ble_eq_true rfl) (Nat.le_of_ble_eq_true rfl) (by omega) (s_within _ _ _) (rok_z bI_01) ⟨Nat.le_refl _, Nat.le_refl _, hN, hS⟩ ?_
    refine z_if_eq dX8_prophet_8 rfl (fun c8 => ?_) (fun c8 => ?_)
    · -- to 21
      refine z_iconst (v := -1) dX8_prophet_21 (by decide) ?_
      refine z_iret dX8_prophet_22 ?_
      exact hQ
    · -- on
      refine z_iload_n dX8_prophet_11 rfl rfl ?_
      refine z_iconst (v := 0) dX8_prophet_12 (by decide) ?_
      refine z_bipush (v := 99) dX8_prophet_13 (by decide) ?_
      refine y_callS (as := [_, _, _]) CX8_within LX8_61 SX8_within dX8_prophet_15 rfl (Nat.le_of_ble_eq_true rfl) (Nat.le_of_ble_eq_true rfl) (by omega) (s_within _ _ _) (rok_z bI_01) ⟨Nat.le_refl _, Nat.le_refl _, hN, hS⟩ ?_
      refine z_if_ne dX8_prophet_18 rfl (fun c18 => ?_) (fun c18 => ?_)
      · -- to 23
        exact absurd ⟨bI_ne0.mp c8, bI_ne0.mp c18⟩ hc
      · -- on
        refine z_iconst (v := -1) dX8_prophet_21 (by decide) ?_
        refine z_iret dX8_prophet_22 ?_
        exact hQ

