/-! sell of the class (walks by program: wip/whole/gen51.py) -/
theorem c_mayHoldW {h : Hp} {d : Nat} {a : Fl} {tx : Nat → Nat → Prop} (h8 : IO h 8 8) (hx0 : pR h 8 0 = some 9) (hs : MkS h 9) (hv : MV h 9 a tx) (hi : IC a) {n : Nat} (hW : IW n (snap a)) (hn : n ≤ 8) (p : Int32) (hd : 1 ≤ d) : Sp d mX8_mayHold [.ref 8, .int p] h (some (.int (bI (vin p (snap a 0) ∧ snap a (ppx (nn p) 2) = 0)))) h := by
  intro N S Q hN hS hQ
  have v1 := hi.2.1
  have hP : RwC h 11 3 5 (snap a 0) := hv.1.2.2.2.1
  have v0 : snap a 0 ≤ 5 := v1
  by_cases hin : vin p (snap a 0)
  · obtain ⟨j, hj, rfl⟩ := vin_of (by omega) hin
    have hb := (hW.2.1 j hj).2.2
    refine z_aload_n dX8_mayHold_0 rfl rfl ?_
    refine y_getR FX8_10 dX8_mayHold_1 rfl h8 hx0 ?_
    refine y_getR FX8_79 dX8_mayHold_4 rfl hs.o hs.f0 ?_
    refine y_getR FX8_82 dX8_mayHold_7 rfl hs.now.1 hs.now.2.1 ?_
    refine z_astore_n dX8_mayHold_10 rfl (Nat.le_of_ble_eq_true rfl) ?_
    refine z_aload_n dX8_mayHold_11 rfl rfl ?_
    refine z_iload_n dX8_mayHold_12 rfl rfl ?_
    refine y_callV (as := [_]) CX4_has LX8_140 IX4_has VX4_has ⟨rfl, Nat.le_of_ble_eq_true rfl⟩ dX8_mayHold_13 hs.now.2.2.1.1 rfl (Nat.le_of_ble_eq_true rfl) (Nat.le_of_ble_eq_true rfl) (by omega) (s_has (k := 11) (w := 3) (ms := 5) (by exact hs.now.2.2.1) hP _) (rok_z bI_01) ⟨Nat.le_refl _, Nat.le_refl _, hN, hS⟩ ?_
    refine z_if_eq dX8_mayHold_16 rfl (fun c => absurd c (bI_ne0.mpr hin)) (fun _ => ?_)
    refine z_aload_n dX8_mayHold_19 rfl rfl ?_
    refine z_iload_n dX8_mayHold_20 rfl rfl ?_
    refine z_iconst (v := 2) dX8_mayHold_21 (by decide) ?_
    refine y_callV (as := [_, _]) CX4_get LX8_143 IX4_get VX4_get ⟨rfl, Nat.le_of_ble_eq_true rfl⟩ dX8_mayHold_22 hs.now.2.2.1.1 rfl (Nat.le_of_ble_eq_true rfl) (Nat.le_of_ble_eq_true rfl) (by omega) (s_get (k := 11) (w := 3) (ms := 5) (i := j) (j := 2) (by exact hs.now.2.2.1) hP hj (by omega)) rok_i ⟨Nat.le_refl _, Nat.le_refl _, hN, hS⟩ ?_
    refine z_eqi (show _ = nI (snap a (ppx j 2)) from hv.1.p hj (by omega)) ?_
    refine z_if_ne dX8_mayHold_25 rfl (fun c25 => ?_) (fun c25 => ?_)
    · -- to 32
      refine z_iconst (v := 0) dX8_mayHold_32 (by decide) ?_
      refine z_iret dX8_mayHold_33 ?_
      first
        | (rw [bI_f (fun q => c25 (by have := q.2; rw [nn_nI (by omega)] at this; rw [this]; rfl))] at hQ; exact hQ)
        | (rw [bI_t ⟨hin, by rw [nn_nI (by omega)]; exact (nI_eq (b := 0) (by omega) (by omega)).mp (Classical.not_not.mp c25)⟩] at hQ; exact hQ)
        | (rw [bI_t ⟨hin, by rw [nn_nI (by omega)]; exact (nI_eq (b := 0) (by omega) (by omega)).mp c25⟩] at hQ; exact hQ)
    · -- on
      refine z_iconst (v := 1) dX8_mayHold_28 (by decide) ?_
      refine z_goto dX8_mayHold_29 rfl ?_
      refine z_iret dX8_mayHold_33 ?_
      first
        | (rw [bI_f (fun q => c25 (by have := q.2; rw [nn_nI (by omega)] at this; rw [this]; rfl))] at hQ; exact hQ)
        | (rw [bI_t ⟨hin, by rw [nn_nI (by omega)]; exact (nI_eq (b := 0) (by omega) (by omega)).mp (Classical.not_not.mp c25)⟩] at hQ; exact hQ)
        | (rw [bI_t ⟨hin, by rw [nn_nI (by omega)]; exact (nI_eq (b := 0) (by omega) (by omega)).mp c25⟩] at hQ; exact hQ)
  · rw [bI_f (fun q => hin q.1)] at hQ
    refine z_aload_n dX8_mayHold_0 rfl rfl ?_
    refine y_getR FX8_10 dX8_mayHold_1 rfl h8 hx0 ?_
    refine y_getR FX8_79 dX8_mayHold_4 rfl hs.o hs.f0 ?_
    refine y_getR FX8_82 dX8_mayHold_7 rfl hs.now.1 hs.now.2.1 ?_
    refine z_astore_n dX8_mayHold_10 rfl (Nat.le_of_ble_eq_true rfl) ?_
    refine z_aload_n dX8_mayHold_11 rfl rfl ?_
    refine z_iload_n dX8_mayHold_12 rfl rfl ?_
    refine y_callV (as := [_]) CX4_has LX8_140 IX4_has VX4_has ⟨rfl, Nat.le_of_ble_eq_true rfl⟩ dX8_mayHold_13 hs.now.2.2.1.1 rfl (Nat.le_of_ble_eq_true rfl) (Nat.le_of_ble_eq_true rfl) (by omega) (s_has (k := 11) (w := 3) (ms := 5) (by exact hs.now.2.2.1) hP _) (rok_z bI_01) ⟨Nat.le_refl _, Nat.le_refl _, hN, hS⟩ ?_
    refine z_if_eq dX8_mayHold_16 rfl (fun _ => ?_) (fun c => absurd (bI_eq0.mpr hin) c)
    refine z_iconst (v := 0) dX8_mayHold_32 (by decide) ?_
    refine z_iret dX8_mayHold_33 ?_
    exact hQ

theorem C_sell {h : Hp} {d : Nat} {a : Fl} {tx : Nat → Nat → Prop} (h8 : IO h 8 8) (hx0 : pR h 8 0 = some 9) (hs : MkS h 9) (hv : MV h 9 a tx) (hi : IC a) {n : Nat} (hW : IW n (snap a)) (hn : n ≤ 8) (k0 t0 m0 : Int32) (hd : 4 ≤ d) : ∃ h1, Sp d mX8_sell [.ref 8, .int k0, .int t0, .int m0] h (some (.int (mSell a k0 t0 m0).1)) h1 ∧ MV h1 9 (mSell a k0 t0 m0).2 tx ∧ FR 9 236 h h1 := by
  have h4 := hi.2.2.2.2.1
  have hP : RwC h 11 3 5 (snap a 0) := hv.1.2.2.2.1
  have hC : RwC h 13 6 12 (snap a 4) := hv.1.2.2.2.2.2.1
  have b0 := hW.1.1
  have b4 := hW.1.2.2.2.2.1
  by_cases hc : okS (snap a) k0 t0 m0
  · have eq : mSell a k0 t0 m0 = (1, uns (mKeep a) (wSell (snap (mKeep a)) (nn k0) (nn t0) (nn m0))) := if_pos hc
    rw [eq]
    obtain ⟨k, t, m, f, rfl, hk, rfl, ht, rfl, hmm, ef, hf, hft, hmf, bf, bt⟩ := okS_b hW hc
    obtain ⟨k1h, k1, k2, k3⟩ := c_remember (d := 3) hs hv h4 (by omega)
    rw [nn_nI (by omega), nn_nI (by omega), nn_nI (by omega)]
    have kv : ∀ i, i < 153 → snap (mKeep a) i = snap a i := fun i hi => snap_keep h4 hi
    have hs1 := k3.1.mk hs
    have hv1 := k2.1
    have k4 : mKeep a 4 ≤ 30 := (IC.keep hi).2.2.2.2.1
    show ∃ h1, _ ∧ MV h1 9 (uns (mKeep a) (wSell (snap (mKeep a)) k t m)) tx ∧ _
    obtain ⟨V, hV⟩ : ∃ V, V = snap (mKeep a) := ⟨_, rfl⟩
    rw [← hV] at hv1 kv ⊢
    have hf1 : f < V 0 := by rw [kv 0 (by omega)]; exact hf
    have hmV : m ≤ V (ppx f 0) := by rw [kv _ (by unfold ppx; omega)]; exact hmf
    have btV : V (ppx t 0) ≤ 9999 := by rw [kv _ (by unfold ppx; omega)]; exact bt
    have vA := WV.setP (w := 10) hv1 hf1 (show 0 < 3 by omega) (v := V (ppx f 0) - m) rfl
    have eT : up V (ppx f 0) (V (ppx f 0) - m) (ppx t 0) = V (ppx t 0) := up_n (by unfold ppx; omega)
    have ht1 : t < up V (ppx f 0) (V (ppx f 0) - m) 0 := by rw [up_n (by unfold ppx; omega), kv 0 (by omega)]; exact ht
    have vB := WV.setP (w := 10) vA ht1 (show 0 < 3 by omega) (v := min 9999 (V (ppx t 0) + m)) rfl
    have e4 : up (up V (ppx f 0) (V (ppx f 0) - m)) (ppx t 0) (min 9999 (V (ppx t 0) + m)) 4 = V 4 := by rw [up_n (by unfold ppx; omega), up_n (by unfold ppx; omega)]
    have hk1 : k < V 4 := by rw [kv 4 (by omega)]; exact hk
    have vC := WV.setC (w := 10) vB (show k < _ by rw [e4]; exact hk1) (show 0 < 6 by omega) (v := t) rfl
    have hC3 : RwC (sI (sI k1h 12 (f * 3 + 0) (nI (V (ppx f 0) - m))) 12 (t * 3 + 0) (nI (min 9999 (V (ppx t 0) + m)))) 13 6 12 (V 4) := by rw [← e4]; exact vB.2.2.2.2.2.1
    obtain ⟨wh, w1, w2, w3⟩ := c_write (d := 3) (w := 10) (k := k) (what := 2) (much := m) (by exact hs1.now) vC (by omega) (by omega) (by omega) (by omega)
    have f1 : FR 9 236 k1h wh := (((FR.rf.sI (by omega)).sI (by omega)).sI (by omega)).tr (w3.wide (by omega) (by omega))
    refine ⟨wh, ?_, ?_, k3.tr f1⟩
    · intro N S Q hN hS hQ
      have hN1 : pn k1h ≤ N := by rw [w3.1.n] at hN; exact hN
      have hS1 : ps k1h ≤ S := by rw [w3.1.s] at hS; exact hS
      have hN : pn h ≤ N := by rw [← (k3.tr f1).1.n]; exact hN
      have hS : ps h ≤ S := by rw [← (k3.tr f1).1.s]; exact hS
      refine z_aload_n dX8_sell_0 rfl rfl ?_
      refine y_getR FX8_10 dX8_sell_1 rfl h8 hx0 ?_
      refine y_getR FX8_79 dX8_sell_4 rfl hs.o hs.f0 ?_
      refine z_astore dX8_sell_7 (Nat.le_of_ble_eq_true rfl) ?_
      refine z_aload dX8_sell_9 rfl ?_
      refine y_getR FX8_127 dX8_sell_11 rfl hs.now.1 hs.now.2.2.2.1 ?_
      refine z_iload_n dX8_sell_14 rfl rfl ?_
      refine z_iconst (v := 0) dX8_sell_15 (by decide) ?_
      refine y_callV (as := [_, _]) CX4_get LX8_143 IX4_get VX4_get ⟨rfl, Nat.le_of_ble_eq_true rfl⟩ dX8_sell_16 hs.now.2.2.2.2.1.1 rfl (Nat.le_of_ble_eq_true rfl) (Nat.le_of_ble_eq_true rfl) (by omega) (s_get (k := 13) (w := 6) (ms := 12) (i := k) (j := 0) (by exact hs.now.2.2.2.2.1) hC hk (by omega)) rok_i ⟨Nat.le_refl _, Nat.le_refl _, hN, hS⟩ ?_
      refine z_eqi (show _ = nI f from (hv.1.k hk (by omega)).trans (congrArg nI ef)) ?_
      refine z_istore dX8_sell_19 (Nat.le_of_ble_eq_true rfl) ?_
      refine z_aload dX8_sell_21 rfl ?_
      refine z_iload_n dX8_sell_23 rfl rfl ?_
      refine y_callV (as := [_]) CX7_isOpen LX8_167 IX7_isOpen VX7_isOpen ⟨rfl, Nat.le_of_ble_eq_true rfl⟩ dX8_sell_24 hs.now.1 rfl (Nat.le_of_ble_eq_true rfl) (Nat.le_of_ble_eq_true rfl) (by omega) (c_isOpenW (w := 10) (d := 1) (W := snap a) (by exact (by exact hs.now)) hv.1 (fun k hk => (hW.2.2.1 k hk).2.2.2.2.2.2) _ (Nat.le_refl _)) (rok_z bI_01) ⟨Nat.le_refl _, Nat.le_refl _, hN, hS⟩ ?_
      refine z_if_eq dX8_sell_27 rfl (fun c => absurd c (bI_ne0.mpr hc.1)) (fun _ => ?_)
      refine z_aload_n dX8_sell_30 rfl rfl ?_
      refine z_iload_n dX8_sell_31 rfl rfl ?_
      refine y_callV (as := [_]) CX8_mayHold LX8_120 IX8_mayHold VX8_mayHold ⟨rfl, Nat.le_of_ble_eq_true rfl⟩ dX8_sell_32 h8 rfl (Nat.le_of_ble_eq_true rfl) (Nat.le_of_ble_eq_true rfl) (by omega) (c_mayHoldW (d := 1) (by exact h8) (by exact hx0) (by exact hs) hv hi hW hn _ (Nat.le_refl _)) (rok_z bI_01) ⟨Nat.le_refl _, Nat.le_refl _, hN, hS⟩ ?_
      refine z_if_eq dX8_sell_35 rfl (fun c => absurd c (bI_ne0.mpr ⟨hc.2.1, hc.2.2.2.1⟩)) (fun _ => ?_)
      refine z_iload dX8_sell_38 rfl ?_
      refine z_iload_n dX8_sell_40 rfl rfl ?_
      refine z_icmp_eq dX8_sell_41 rfl (fun c => absurd c (fun q => hft ((nI_eq (by omega) (by omega)).mp q))) (fun _ => ?_)
      refine z_iload_n dX8_sell_44 rfl rfl ?_
      refine z_iconst (v := 0) dX8_sell_45 (by decide) ?_
      refine z_sipush (v := 999) dX8_sell_46 (by decide) ?_
      refine y_callS (as := [_, _, _]) CX8_within LX8_61 SX8_within dX8_sell_49 rfl (Nat.le_of_ble_eq_true rfl) (Nat.le_of_ble_eq_true rfl) (by omega) (s_within _ _ _) (rok_z bI_01) ⟨Nat.le_refl _, Nat.le_refl _, hN, hS⟩ ?_
      refine z_if_eq dX8_sell_52 rfl (fun c => absurd c (bI_ne0.mpr hc.2.2.2.2.1)) (fun _ => ?_)
      refine z_aload dX8_sell_55 rfl ?_
      refine y_getR FX8_82 dX8_sell_57 rfl hs.now.1 hs.now.2.1 ?_
      refine z_iload dX8_sell_60 rfl ?_
      refine z_iconst (v := 0) dX8_sell_62 (by decide) ?_
      refine y_callV (as := [_, _]) CX4_get LX8_143 IX4_get VX4_get ⟨rfl, Nat.le_of_ble_eq_true rfl⟩ dX8_sell_63 hs.now.2.2.1.1 rfl (Nat.le_of_ble_eq_true rfl) (Nat.le_of_ble_eq_true rfl) (by omega) (s_get (k := 11) (w := 3) (ms := 5) (i := f) (j := 0) (by exact hs.now.2.2.1) hP hf (by omega)) rok_i ⟨Nat.le_refl _, Nat.le_refl _, hN, hS⟩ ?_
      refine z_eqi (show _ = nI (snap a (ppx f 0)) from hv.1.p hf (by omega)) ?_
      refine z_iload_n dX8_sell_66 rfl rfl ?_
      refine z_icmp_ge dX8_sell_67 rfl (fun _ => ?_) (fun c => absurd ((nI_leI (by omega) (by omega)).mpr hmf) c)
      refine z_aload_n dX8_sell_72 rfl rfl ?_
      refine y_getR FX8_10 dX8_sell_73 rfl h8 hx0 ?_
      refine y_callV (as := []) CX1_remember LX8_113 IX1_remember VX1_remember ⟨rfl, Nat.le_of_ble_eq_true rfl⟩ dX8_sell_76 hs.o rfl (Nat.le_of_ble_eq_true rfl) (Nat.le_of_ble_eq_true rfl) (by omega) k1 rok_v (hg_ss k3.1 hN hS) ?_
      refine z_aload dX8_sell_79 rfl ?_
      refine z_iload dX8_sell_81 rfl ?_
      refine z_iload_n dX8_sell_83 rfl rfl ?_
      refine y_callV (as := [_, _]) CX7_lose LX8_157 IX7_lose VX7_lose ⟨rfl, Nat.le_of_ble_eq_true rfl⟩ dX8_sell_84 (k3.1.O hs.now.1) rfl (Nat.le_of_ble_eq_true rfl) (Nat.le_of_ble_eq_true rfl) (by omega) (c_lose (w := 10) (W := V) (p := f) (m := m) (d := 1) (by exact hs1.now) hv1 hf1 hmV (Nat.le_refl _)) rok_v ⟨Nat.le_refl _, Nat.le_refl _, hN1, hS1⟩ ?_
      refine z_aload dX8_sell_87 rfl ?_
      refine z_iload_n dX8_sell_89 rfl rfl ?_
      refine z_iload_n dX8_sell_90 rfl rfl ?_
      refine y_callV (as := [_, _]) CX7_gain LX8_136 IX7_gain VX7_gain ⟨rfl, Nat.le_of_ble_eq_true rfl⟩ dX8_sell_91 (k3.1.O hs.now.1) rfl (Nat.le_of_ble_eq_true rfl) (Nat.le_of_ble_eq_true rfl) (by omega) (c_gain (w := 10) (W := up V (ppx f 0) (V (ppx f 0) - m)) (p := t) (m := m) (d := 1) (by exact hs1.now) vA ht1 (by rw [eT]; exact btV) (by omega) (Nat.le_refl _)) rok_v ⟨Nat.le_refl _, Nat.le_refl _, hN1, hS1⟩ ?_
      rw [eT]
      refine z_aload dX8_sell_94 rfl ?_
      refine y_getR FX8_127 dX8_sell_96 rfl (k3.1.O hs.now.1) (by first | (rw [k3.1.R]; exact hs.now.2.2.2.1) | exact (congrFun (congrFun k3.1.R _) _).trans hs.now.2.2.2.1) ?_
      refine z_iload_n dX8_sell_99 rfl rfl ?_
      refine z_iconst (v := 0) dX8_sell_100 (by decide) ?_
      refine z_iload_n dX8_sell_101 rfl rfl ?_
      refine y_callV (as := [_, _, _]) CX4_set LX8_75 IX4_set VX4_set ⟨rfl, Nat.le_of_ble_eq_true rfl⟩ dX8_sell_102 (k3.1.O hs.now.2.2.2.2.1.1) rfl (Nat.le_of_ble_eq_true rfl) (Nat.le_of_ble_eq_true rfl) (by omega) (s_set (k := 13) (w := 6) (ms := 12) (i := k) (j := 0) (by exact hs1.now.2.2.2.2.1) hC3 hk1 (by omega)) rok_v ⟨Nat.le_refl _, Nat.le_refl _, hN1, hS1⟩ ?_
      refine z_aload dX8_sell_105 rfl ?_
      refine z_iconst (v := 2) dX8_sell_107 (by decide) ?_
      refine z_iload_n dX8_sell_108 rfl rfl ?_
      refine z_iload_n dX8_sell_109 rfl rfl ?_
      refine y_callV (as := [_, _, _]) CX7_write LX8_170 IX7_write VX7_write ⟨rfl, Nat.le_of_ble_eq_true rfl⟩ dX8_sell_110 (k3.1.O hs.now.1) rfl (Nat.le_of_ble_eq_true rfl) (Nat.le_of_ble_eq_true rfl) (by omega) w1 rok_v (hg_ss w3.1 hN1 hS1) ?_
      refine z_iconst (v := 1) dX8_sell_113 (by decide) ?_
      refine z_iret dX8_sell_114 ?_
      exact hQ
    · refine k2.now k4 ?_ (fun k hk => ?_) (fun i hi => uns_o (by omega)) ?_
      · rw [w3.1.R]; rfl
      · rw [w3.2.2 k (by omega), pI_sI_ne (by omega), pI_sI_ne (by omega), pI_sI_ne (by omega)]
      · refine w2.cg (fun i hi => ?_)
        rw [snap_uns hi]
        unfold wSell wGain wLose
        rw [kv (pcx k 0) (by unfold pcx; omega), ef, eT]
  · have eq : mSell a k0 t0 m0 = (0, a) := if_neg hc
    rw [eq]
    refine ⟨h, ?_, hv, FR.rf⟩
    intro N S Q hN hS hQ
    by_cases hk0 : opnW (snap a) k0
    · obtain ⟨k, hk, rfl⟩ := vin_of (show snap a 4 < 2 ^ 31 by omega) hk0.1
      have ek : nn (nI k) = k := nn_nI (by omega)
      obtain ⟨f, ef⟩ : ∃ f, snap a (pcx k 0) = f := ⟨_, rfl⟩
      have hf : f < snap a 0 := by rw [← ef]; exact (hW.2.2.1 k hk).1
      by_cases hh : vin t0 (snap a 0) ∧ snap a (ppx (nn t0) 2) = 0
      · obtain ⟨t, ht, rfl⟩ := vin_of (show snap a 0 < 2 ^ 31 by omega) hh.1
        have et : nn (nI t) = t := nn_nI (by omega)
        by_cases hft : f = t
        · refine z_aload_n dX8_sell_0 rfl rfl ?_
          refine y_getR FX8_10 dX8_sell_1 rfl h8 hx0 ?_
          refine y_getR FX8_79 dX8_sell_4 rfl hs.o hs.f0 ?_
          refine z_astore dX8_sell_7 (Nat.le_of_ble_eq_true rfl) ?_
          refine z_aload dX8_sell_9 rfl ?_
          refine y_getR FX8_127 dX8_sell_11 rfl hs.now.1 hs.now.2.2.2.1 ?_
          refine z_iload_n dX8_sell_14 rfl rfl ?_
          refine z_iconst (v := 0) dX8_sell_15 (by decide) ?_
          refine y_callV (as := [_, _]) CX4_get LX8_143 IX4_get VX4_get ⟨rfl, Nat.le_of_ble_eq_true rfl⟩ dX8_sell_16 hs.now.2.2.2.2.1.1 rfl (Nat.le_of_ble_eq_true rfl) (Nat.le_of_ble_eq_true rfl) (by omega) (s_get (k := 13) (w := 6) (ms := 12) (i := k) (j := 0) (by exact hs.now.2.2.2.2.1) hC hk (by omega)) rok_i ⟨Nat.le_refl _, Nat.le_refl _, hN, hS⟩ ?_
          refine z_eqi (show _ = nI f from (hv.1.k hk (by omega)).trans (congrArg nI ef)) ?_
          refine z_istore dX8_sell_19 (Nat.le_of_ble_eq_true rfl) ?_
          refine z_aload dX8_sell_21 rfl ?_
          refine z_iload_n dX8_sell_23 rfl rfl ?_
          refine y_callV (as := [_]) CX7_isOpen LX8_167 IX7_isOpen VX7_isOpen ⟨rfl, Nat.le_of_ble_eq_true rfl⟩ dX8_sell_24 hs.now.1 rfl (Nat.le_of_ble_eq_true rfl) (Nat.le_of_ble_eq_true rfl) (by omega) (c_isOpenW (w := 10) (d := 1) (W := snap a) (by exact (by exact hs.now)) hv.1 (fun k hk => (hW.2.2.1 k hk).2.2.2.2.2.2) _ (Nat.le_refl _)) (rok_z bI_01) ⟨Nat.le_refl _, Nat.le_refl _, hN, hS⟩ ?_
          refine z_if_eq dX8_sell_27 rfl (fun c => absurd c (bI_ne0.mpr hk0)) (fun _ => ?_)
          refine z_aload_n dX8_sell_30 rfl rfl ?_
          refine z_iload_n dX8_sell_31 rfl rfl ?_
          refine y_callV (as := [_]) CX8_mayHold LX8_120 IX8_mayHold VX8_mayHold ⟨rfl, Nat.le_of_ble_eq_true rfl⟩ dX8_sell_32 h8 rfl (Nat.le_of_ble_eq_true rfl) (Nat.le_of_ble_eq_true rfl) (by omega) (c_mayHoldW (d := 1) (by exact h8) (by exact hx0) (by exact hs) hv hi hW hn _ (Nat.le_refl _)) (rok_z bI_01) ⟨Nat.le_refl _, Nat.le_refl _, hN, hS⟩ ?_
          refine z_if_eq dX8_sell_35 rfl (fun c => absurd c (bI_ne0.mpr hh)) (fun _ => ?_)
          refine z_iload dX8_sell_38 rfl ?_
          refine z_iload_n dX8_sell_40 rfl rfl ?_
          refine z_icmp_eq dX8_sell_41 rfl (fun _ => ?_) (fun c => absurd (congrArg nI hft) c)
          refine z_iconst (v := 0) dX8_sell_70 (by decide) ?_
          refine z_iret dX8_sell_71 ?_
          exact hQ
        · by_cases hin : inr m0 0 999
          · obtain ⟨m, hm1, rfl⟩ := inr_of (n := 999) (by omega) hin
            have em : nn (nI m) = m := nn_nI (by omega)
            have bf := (hW.2.1 f hf).1
            have hpu : ¬ m ≤ snap a (ppx f 0) := fun q => hc ⟨hk0, hh.1, by rw [ek, et, ef]; exact hft, hh.2, hin, by rw [ek, em, ef]; exact q⟩
            refine z_aload_n dX8_sell_0 rfl rfl ?_
            refine y_getR FX8_10 dX8_sell_1 rfl h8 hx0 ?_
            refine y_getR FX8_79 dX8_sell_4 rfl hs.o hs.f0 ?_
            refine z_astore dX8_sell_7 (Nat.le_of_ble_eq_true rfl) ?_
            refine z_aload dX8_sell_9 rfl ?_
            refine y_getR FX8_127 dX8_sell_11 rfl hs.now.1 hs.now.2.2.2.1 ?_
            refine z_iload_n dX8_sell_14 rfl rfl ?_
            refine z_iconst (v := 0) dX8_sell_15 (by decide) ?_
            refine y_callV (as := [_, _]) CX4_get LX8_143 IX4_get VX4_get ⟨rfl, Nat.le_of_ble_eq_true rfl⟩ dX8_sell_16 hs.now.2.2.2.2.1.1 rfl (Nat.le_of_ble_eq_true rfl) (Nat.le_of_ble_eq_true rfl) (by omega) (s_get (k := 13) (w := 6) (ms := 12) (i := k) (j := 0) (by exact hs.now.2.2.2.2.1) hC hk (by omega)) rok_i ⟨Nat.le_refl _, Nat.le_refl _, hN, hS⟩ ?_
            refine z_eqi (show _ = nI f from (hv.1.k hk (by omega)).trans (congrArg nI ef)) ?_
            refine z_istore dX8_sell_19 (Nat.le_of_ble_eq_true rfl) ?_
            refine z_aload dX8_sell_21 rfl ?_
            refine z_iload_n dX8_sell_23 rfl rfl ?_
            refine y_callV (as := [_]) CX7_isOpen LX8_167 IX7_isOpen VX7_isOpen ⟨rfl, Nat.le_of_ble_eq_true rfl⟩ dX8_sell_24 hs.now.1 rfl (Nat.le_of_ble_eq_true rfl) (Nat.le_of_ble_eq_true rfl) (by omega) (c_isOpenW (w := 10) (d := 1) (W := snap a) (by exact (by exact hs.now)) hv.1 (fun k hk => (hW.2.2.1 k hk).2.2.2.2.2.2) _ (Nat.le_refl _)) (rok_z bI_01) ⟨Nat.le_refl _, Nat.le_refl _, hN, hS⟩ ?_
            refine z_if_eq dX8_sell_27 rfl (fun c => absurd c (bI_ne0.mpr hk0)) (fun _ => ?_)
            refine z_aload_n dX8_sell_30 rfl rfl ?_
            refine z_iload_n dX8_sell_31 rfl rfl ?_
            refine y_callV (as := [_]) CX8_mayHold LX8_120 IX8_mayHold VX8_mayHold ⟨rfl, Nat.le_of_ble_eq_true rfl⟩ dX8_sell_32 h8 rfl (Nat.le_of_ble_eq_true rfl) (Nat.le_of_ble_eq_true rfl) (by omega) (c_mayHoldW (d := 1) (by exact h8) (by exact hx0) (by exact hs) hv hi hW hn _ (Nat.le_refl _)) (rok_z bI_01) ⟨Nat.le_refl _, Nat.le_refl _, hN, hS⟩ ?_
            refine z_if_eq dX8_sell_35 rfl (fun c => absurd c (bI_ne0.mpr hh)) (fun _ => ?_)
            refine z_iload dX8_sell_38 rfl ?_
            refine z_iload_n dX8_sell_40 rfl rfl ?_
            refine z_icmp_eq dX8_sell_41 rfl (fun c => absurd c (fun q => hft ((nI_eq (by omega) (by omega)).mp q))) (fun _ => ?_)
            refine z_iload_n dX8_sell_44 rfl rfl ?_
            refine z_iconst (v := 0) dX8_sell_45 (by decide) ?_
            refine z_sipush (v := 999) dX8_sell_46 (by decide) ?_
            refine y_callS (as := [_, _, _]) CX8_within LX8_61 SX8_within dX8_sell_49 rfl (Nat.le_of_ble_eq_true rfl) (Nat.le_of_ble_eq_true rfl) (by omega) (s_within _ _ _) (rok_z bI_01) ⟨Nat.le_refl _, Nat.le_refl _, hN, hS⟩ ?_
            refine z_if_eq dX8_sell_52 rfl (fun c => absurd c (bI_ne0.mpr hin)) (fun _ => ?_)
            refine z_aload dX8_sell_55 rfl ?_
            refine y_getR FX8_82 dX8_sell_57 rfl hs.now.1 hs.now.2.1 ?_
            refine z_iload dX8_sell_60 rfl ?_
            refine z_iconst (v := 0) dX8_sell_62 (by decide) ?_
            refine y_callV (as := [_, _]) CX4_get LX8_143 IX4_get VX4_get ⟨rfl, Nat.le_of_ble_eq_true rfl⟩ dX8_sell_63 hs.now.2.2.1.1 rfl (Nat.le_of_ble_eq_true rfl) (Nat.le_of_ble_eq_true rfl) (by omega) (s_get (k := 11) (w := 3) (ms := 5) (i := f) (j := 0) (by exact hs.now.2.2.1) hP hf (by omega)) rok_i ⟨Nat.le_refl _, Nat.le_refl _, hN, hS⟩ ?_
            refine z_eqi (show _ = nI (snap a (ppx f 0)) from hv.1.p hf (by omega)) ?_
            refine z_iload_n dX8_sell_66 rfl rfl ?_
            refine z_icmp_ge dX8_sell_67 rfl (fun c => absurd c (fun q => hpu ((nI_leI (by omega) (by omega)).mp q))) (fun _ => ?_)
            refine z_iconst (v := 0) dX8_sell_70 (by decide) ?_
            refine z_iret dX8_sell_71 ?_
            exact hQ
          · refine z_aload_n dX8_sell_0 rfl rfl ?_
            refine y_getR FX8_10 dX8_sell_1 rfl h8 hx0 ?_
            refine y_getR FX8_79 dX8_sell_4 rfl hs.o hs.f0 ?_
            refine z_astore dX8_sell_7 (Nat.le_of_ble_eq_true rfl) ?_
            refine z_aload dX8_sell_9 rfl ?_
            refine y_getR FX8_127 dX8_sell_11 rfl hs.now.1 hs.now.2.2.2.1 ?_
            refine z_iload_n dX8_sell_14 rfl rfl ?_
            refine z_iconst (v := 0) dX8_sell_15 (by decide) ?_
            refine y_callV (as := [_, _]) CX4_get LX8_143 IX4_get VX4_get ⟨rfl, Nat.le_of_ble_eq_true rfl⟩ dX8_sell_16 hs.now.2.2.2.2.1.1 rfl (Nat.le_of_ble_eq_true rfl) (Nat.le_of_ble_eq_true rfl) (by omega) (s_get (k := 13) (w := 6) (ms := 12) (i := k) (j := 0) (by exact hs.now.2.2.2.2.1) hC hk (by omega)) rok_i ⟨Nat.le_refl _, Nat.le_refl _, hN, hS⟩ ?_
            refine z_eqi (show _ = nI f from (hv.1.k hk (by omega)).trans (congrArg nI ef)) ?_
            refine z_istore dX8_sell_19 (Nat.le_of_ble_eq_true rfl) ?_
            refine z_aload dX8_sell_21 rfl ?_
            refine z_iload_n dX8_sell_23 rfl rfl ?_
            refine y_callV (as := [_]) CX7_isOpen LX8_167 IX7_isOpen VX7_isOpen ⟨rfl, Nat.le_of_ble_eq_true rfl⟩ dX8_sell_24 hs.now.1 rfl (Nat.le_of_ble_eq_true rfl) (Nat.le_of_ble_eq_true rfl) (by omega) (c_isOpenW (w := 10) (d := 1) (W := snap a) (by exact (by exact hs.now)) hv.1 (fun k hk => (hW.2.2.1 k hk).2.2.2.2.2.2) _ (Nat.le_refl _)) (rok_z bI_01) ⟨Nat.le_refl _, Nat.le_refl _, hN, hS⟩ ?_
            refine z_if_eq dX8_sell_27 rfl (fun c => absurd c (bI_ne0.mpr hk0)) (fun _ => ?_)
            refine z_aload_n dX8_sell_30 rfl rfl ?_
            refine z_iload_n dX8_sell_31 rfl rfl ?_
            refine y_callV (as := [_]) CX8_mayHold LX8_120 IX8_mayHold VX8_mayHold ⟨rfl, Nat.le_of_ble_eq_true rfl⟩ dX8_sell_32 h8 rfl (Nat.le_of_ble_eq_true rfl) (Nat.le_of_ble_eq_true rfl) (by omega) (c_mayHoldW (d := 1) (by exact h8) (by exact hx0) (by exact hs) hv hi hW hn _ (Nat.le_refl _)) (rok_z bI_01) ⟨Nat.le_refl _, Nat.le_refl _, hN, hS⟩ ?_
            refine z_if_eq dX8_sell_35 rfl (fun c => absurd c (bI_ne0.mpr hh)) (fun _ => ?_)
            refine z_iload dX8_sell_38 rfl ?_
            refine z_iload_n dX8_sell_40 rfl rfl ?_
            refine z_icmp_eq dX8_sell_41 rfl (fun c => absurd c (fun q => hft ((nI_eq (by omega) (by omega)).mp q))) (fun _ => ?_)
            refine z_iload_n dX8_sell_44 rfl rfl ?_
            refine z_iconst (v := 0) dX8_sell_45 (by decide) ?_
            refine z_sipush (v := 999) dX8_sell_46 (by decide) ?_
            refine y_callS (as := [_, _, _]) CX8_within LX8_61 SX8_within dX8_sell_49 rfl (Nat.le_of_ble_eq_true rfl) (Nat.le_of_ble_eq_true rfl) (by omega) (s_within _ _ _) (rok_z bI_01) ⟨Nat.le_refl _, Nat.le_refl _, hN, hS⟩ ?_
            refine z_if_eq dX8_sell_52 rfl (fun _ => ?_) (fun c => absurd (bI_eq0.mpr hin) c)
            refine z_iconst (v := 0) dX8_sell_70 (by decide) ?_
            refine z_iret dX8_sell_71 ?_
            exact hQ
      · refine z_aload_n dX8_sell_0 rfl rfl ?_
        refine y_getR FX8_10 dX8_sell_1 rfl h8 hx0 ?_
        refine y_getR FX8_79 dX8_sell_4 rfl hs.o hs.f0 ?_
        refine z_astore dX8_sell_7 (Nat.le_of_ble_eq_true rfl) ?_
        refine z_aload dX8_sell_9 rfl ?_
        refine y_getR FX8_127 dX8_sell_11 rfl hs.now.1 hs.now.2.2.2.1 ?_
        refine z_iload_n dX8_sell_14 rfl rfl ?_
        refine z_iconst (v := 0) dX8_sell_15 (by decide) ?_
        refine y_callV (as := [_, _]) CX4_get LX8_143 IX4_get VX4_get ⟨rfl, Nat.le_of_ble_eq_true rfl⟩ dX8_sell_16 hs.now.2.2.2.2.1.1 rfl (Nat.le_of_ble_eq_true rfl) (Nat.le_of_ble_eq_true rfl) (by omega) (s_get (k := 13) (w := 6) (ms := 12) (i := k) (j := 0) (by exact hs.now.2.2.2.2.1) hC hk (by omega)) rok_i ⟨Nat.le_refl _, Nat.le_refl _, hN, hS⟩ ?_
        refine z_eqi (show _ = nI f from (hv.1.k hk (by omega)).trans (congrArg nI ef)) ?_
        refine z_istore dX8_sell_19 (Nat.le_of_ble_eq_true rfl) ?_
        refine z_aload dX8_sell_21 rfl ?_
        refine z_iload_n dX8_sell_23 rfl rfl ?_
        refine y_callV (as := [_]) CX7_isOpen LX8_167 IX7_isOpen VX7_isOpen ⟨rfl, Nat.le_of_ble_eq_true rfl⟩ dX8_sell_24 hs.now.1 rfl (Nat.le_of_ble_eq_true rfl) (Nat.le_of_ble_eq_true rfl) (by omega) (c_isOpenW (w := 10) (d := 1) (W := snap a) (by exact (by exact hs.now)) hv.1 (fun k hk => (hW.2.2.1 k hk).2.2.2.2.2.2) _ (Nat.le_refl _)) (rok_z bI_01) ⟨Nat.le_refl _, Nat.le_refl _, hN, hS⟩ ?_
        refine z_if_eq dX8_sell_27 rfl (fun c => absurd c (bI_ne0.mpr hk0)) (fun _ => ?_)
        refine z_aload_n dX8_sell_30 rfl rfl ?_
        refine z_iload_n dX8_sell_31 rfl rfl ?_
        refine y_callV (as := [_]) CX8_mayHold LX8_120 IX8_mayHold VX8_mayHold ⟨rfl, Nat.le_of_ble_eq_true rfl⟩ dX8_sell_32 h8 rfl (Nat.le_of_ble_eq_true rfl) (Nat.le_of_ble_eq_true rfl) (by omega) (c_mayHoldW (d := 1) (by exact h8) (by exact hx0) (by exact hs) hv hi hW hn _ (Nat.le_refl _)) (rok_z bI_01) ⟨Nat.le_refl _, Nat.le_refl _, hN, hS⟩ ?_
        refine z_if_eq dX8_sell_35 rfl (fun _ => ?_) (fun c => absurd (bI_eq0.mpr hh) c)
        refine z_iconst (v := 0) dX8_sell_70 (by decide) ?_
        refine z_iret dX8_sell_71 ?_
        exact hQ
    · by_cases hk1 : vin k0 (snap a 4)
      · obtain ⟨k, hk, rfl⟩ := vin_of (show snap a 4 < 2 ^ 31 by omega) hk1
        obtain ⟨f, ef⟩ : ∃ f, snap a (pcx k 0) = f := ⟨_, rfl⟩
        refine z_aload_n dX8_sell_0 rfl rfl ?_
        refine y_getR FX8_10 dX8_sell_1 rfl h8 hx0 ?_
        refine y_getR FX8_79 dX8_sell_4 rfl hs.o hs.f0 ?_
        refine z_astore dX8_sell_7 (Nat.le_of_ble_eq_true rfl) ?_
        refine z_aload dX8_sell_9 rfl ?_
        refine y_getR FX8_127 dX8_sell_11 rfl hs.now.1 hs.now.2.2.2.1 ?_
        refine z_iload_n dX8_sell_14 rfl rfl ?_
        refine z_iconst (v := 0) dX8_sell_15 (by decide) ?_
        refine y_callV (as := [_, _]) CX4_get LX8_143 IX4_get VX4_get ⟨rfl, Nat.le_of_ble_eq_true rfl⟩ dX8_sell_16 hs.now.2.2.2.2.1.1 rfl (Nat.le_of_ble_eq_true rfl) (Nat.le_of_ble_eq_true rfl) (by omega) (s_get (k := 13) (w := 6) (ms := 12) (i := k) (j := 0) (by exact hs.now.2.2.2.2.1) hC hk (by omega)) rok_i ⟨Nat.le_refl _, Nat.le_refl _, hN, hS⟩ ?_
        refine z_eqi (show _ = nI f from (hv.1.k hk (by omega)).trans (congrArg nI ef)) ?_
        refine z_istore dX8_sell_19 (Nat.le_of_ble_eq_true rfl) ?_
        refine z_aload dX8_sell_21 rfl ?_
        refine z_iload_n dX8_sell_23 rfl rfl ?_
        refine y_callV (as := [_]) CX7_isOpen LX8_167 IX7_isOpen VX7_isOpen ⟨rfl, Nat.le_of_ble_eq_true rfl⟩ dX8_sell_24 hs.now.1 rfl (Nat.le_of_ble_eq_true rfl) (Nat.le_of_ble_eq_true rfl) (by omega) (c_isOpenW (w := 10) (d := 1) (W := snap a) (by exact (by exact hs.now)) hv.1 (fun k hk => (hW.2.2.1 k hk).2.2.2.2.2.2) _ (Nat.le_refl _)) (rok_z bI_01) ⟨Nat.le_refl _, Nat.le_refl _, hN, hS⟩ ?_
        refine z_if_eq dX8_sell_27 rfl (fun _ => ?_) (fun c => absurd (bI_eq0.mpr hk0) c)
        refine z_iconst (v := 0) dX8_sell_70 (by decide) ?_
        refine z_iret dX8_sell_71 ?_
        exact hQ
      · refine z_aload_n dX8_sell_0 rfl rfl ?_
        refine y_getR FX8_10 dX8_sell_1 rfl h8 hx0 ?_
        refine y_getR FX8_79 dX8_sell_4 rfl hs.o hs.f0 ?_
        refine z_astore dX8_sell_7 (Nat.le_of_ble_eq_true rfl) ?_
        refine z_aload dX8_sell_9 rfl ?_
        refine y_getR FX8_127 dX8_sell_11 rfl hs.now.1 hs.now.2.2.2.1 ?_
        refine z_iload_n dX8_sell_14 rfl rfl ?_
        refine z_iconst (v := 0) dX8_sell_15 (by decide) ?_
        refine y_callV (as := [_, _]) CX4_get LX8_143 IX4_get VX4_get ⟨rfl, Nat.le_of_ble_eq_true rfl⟩ dX8_sell_16 hs.now.2.2.2.2.1.1 rfl (Nat.le_of_ble_eq_true rfl) (Nat.le_of_ble_eq_true rfl) (by omega) (s_get0 (k := 13) (w := 6) (ms := 12) (by exact hs.now.2.2.2.2.1) hC _ _ hk1) rok_i ⟨Nat.le_refl _, Nat.le_refl _, hN, hS⟩ ?_
        refine z_istore dX8_sell_19 (Nat.le_of_ble_eq_true rfl) ?_
        refine z_aload dX8_sell_21 rfl ?_
        refine z_iload_n dX8_sell_23 rfl rfl ?_
        refine y_callV (as := [_]) CX7_isOpen LX8_167 IX7_isOpen VX7_isOpen ⟨rfl, Nat.le_of_ble_eq_true rfl⟩ dX8_sell_24 hs.now.1 rfl (Nat.le_of_ble_eq_true rfl) (Nat.le_of_ble_eq_true rfl) (by omega) (c_isOpenW (w := 10) (d := 1) (W := snap a) (by exact (by exact hs.now)) hv.1 (fun k hk => (hW.2.2.1 k hk).2.2.2.2.2.2) _ (Nat.le_refl _)) (rok_z bI_01) ⟨Nat.le_refl _, Nat.le_refl _, hN, hS⟩ ?_
        refine z_if_eq dX8_sell_27 rfl (fun _ => ?_) (fun c => absurd (bI_eq0.mpr hk0) c)
        refine z_iconst (v := 0) dX8_sell_70 (by decide) ?_
        refine z_iret dX8_sell_71 ?_
        exact hQ

