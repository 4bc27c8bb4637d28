/-! the world in its bounds; sell (walks by program: wip/whole/gen50.py) -/
/-- a world in its bounds, n facts -/
def IW (n : Nat) (W : Fl) : Prop := (W 0 ≤ 5 ∧ W 1 ≤ 9999 ∧ W 2 < 30553 ∧ W 3 < 2 ^ n ∧ W 4 ≤ 12 ∧ W 5 ≤ 30) ∧ (∀ p, p < W 0 → W (ppx p 0) ≤ 9999 ∧ W (ppx p 1) ≤ 99 ∧ W (ppx p 2) ≤ 1) ∧ (∀ k, k < W 4 → W (pcx k 0) < W 0 ∧ W (pcx k 1) ≤ 1 ∧ 0 < W (pcx k 2) ∧ W (pcx k 2) < 2 ^ n ∧ W (pcx k 3) ≤ 10098 ∧ W (pcx k 4) ≤ 999 ∧ W (pcx k 5) ≤ 2) ∧ (∀ i, i < W 5 → W (93 + 2 * i) ≤ 9999 ∧ W (93 + 2 * i + 1) < 480000 ∧ W (93 + 2 * i + 1) / 10000 % 4 ≤ 2)
abbrev opnW (W : Fl) (x : Int32) : Prop := vin x (W 4) ∧ W (pcx (nn x) 5) = 0
theorem r_isOpenW {s : Mr} {a W : Fl} {h : Hp} {d : Nat} (hr : RN (uns a W, s) h) (h4 : W 4 ≤ 12) (hb : ∀ k, k < W 4 → W (pcx k 5) ≤ 2) (x : Int32) (hd : 2 ≤ d) : Sp d mX9_isOpen [.ref 488, .int x] h (some (.int (bI (opnW W x)))) h := by
  have e : pI h 489 11 = nI (W 4) := hr.wat 4 rfl (by omega)
  have := r_isOpen hr.m e h4 x hd
  have g : bI (vin x (W 4) ∧ pI h 489 (38 + 6 * x.toNatClampNeg + 5) = 0) = bI (opnW W x) := by
    by_cases hx : vin x (W 4)
    · obtain ⟨k, hk, rfl⟩ := vin_of (by omega) hx
      have hb' := hb k hk
      have e5 : pI h 489 (38 + 6 * k + 5) = nI (W (pcx k 5)) := hr.wat (pcx k 5) (wx_pc (by omega) (by omega)).symm (by unfold pcx; omega)
      have ek : (nI k).toNatClampNeg = k := nI_clamp (by omega)
      unfold opnW nn
      rw [ek, e5]
      by_cases q : W (pcx k 5) = 0
      · exact (bI_t ⟨hx, by rw [q]; rfl⟩).trans (bI_t ⟨hx, q⟩).symm
      · exact (bI_f (fun z => q ((nI_eq (b := 0) (by omega) (by omega)).mp z.2))).trans (bI_f (fun z => q z.2)).symm
    · rw [bI_f (fun q => hx q.1), bI_f (fun q => hx q.1)]
  rw [g] at this
  exact this
theorem c_isOpenW {h : Hp} {d w : Nat} {W : Fl} (hw : WoS h w) (hv : WV h w W) (hb : ∀ k, k < W 4 → W (pcx k 5) ≤ 2) (x : Int32) (hd : 1 ≤ d) : Sp d mX7_isOpen [.ref w, .int x] h (some (.int (bI (opnW W x)))) h := by
  have h4 := hv.2.2.2.2.2.1.2.2.2.1
  by_cases hx : vin x (W 4)
  · obtain ⟨k, hk, rfl⟩ := vin_of (by omega) hx
    have := c_isOpenN hw hv hk (hb k hk) hd
    have g : bI (W (21 + (k * 6 + 5)) = 0) = bI (opnW W (nI k)) := by
      unfold opnW
      rw [nn_nI (by omega)]
      by_cases q : W (pcx k 5) = 0
      · exact (bI_t q).trans (bI_t ⟨hx, q⟩).symm
      · exact (bI_f q).trans (bI_f (fun z => q z.2)).symm
    rw [g] at this
    exact this
  · have := c_isOpen0 hw hv hx hd
    rw [bI_f (fun q => hx q.1)]
    exact this
abbrev okS (W : Fl) (k to m : Int32) : Prop := opnW W k ∧ vin to (W 0) ∧ W (pcx (nn k) 0) ≠ nn to ∧ W (ppx (nn to) 2) = 0 ∧ inr m 0 999 ∧ nn m ≤ W (ppx (W (pcx (nn k) 0)) 0)
def wSell (W : Fl) (k to m : Nat) : Fl := wWrite (up (wGain (wLose W (W (pcx k 0)) m) to m) (pcx k 0) to) k 2 m
def mSell (a : Fl) (k to m : Int32) : Int32 × Fl := if okS (snap a) k to m then (1, uns (mKeep a) (wSell (snap (mKeep a)) (nn k) (nn to) (nn m))) else (0, a)
theorem snap_keep {a : Fl} {i : Nat} (h4 : a 4 ≤ 30) (hi : i < 153) : snap (mKeep a) i = snap a i := by
  rw [snap_wx, snap_wx]
  refine mKeep_out h4 ?_ ?_
  · intro q
    unfold wx at q
    split at q
    · omega
    · split at q
      · omega
      · split at q
        · omega
        · split at q <;> omega
  · unfold wx
    split
    · omega
    · split
      · omega
      · split
        · omega
        · split <;> omega
theorem okS_b {W : Fl} {n : Nat} {k to m : Int32} (hW : IW n W) (hc : okS W k to m) : ∃ k' t' m' f, k = nI k' ∧ k' < W 4 ∧ to = nI t' ∧ t' < W 0 ∧ m = nI m' ∧ m' ≤ 999 ∧ W (pcx k' 0) = f ∧ f < W 0 ∧ f ≠ t' ∧ m' ≤ W (ppx f 0) ∧ W (ppx f 0) ≤ 9999 ∧ W (ppx t' 0) ≤ 9999 := by
  obtain ⟨⟨b0, b1, b2, b3, b4, b5⟩, bp, bc, bb⟩ := hW
  obtain ⟨⟨h1, h2⟩, h3, h4, h5, h6, h7⟩ := hc
  obtain ⟨k', hk, rfl⟩ := vin_of (by omega) h1
  obtain ⟨t', ht, rfl⟩ := vin_of (by omega) h3
  obtain ⟨m', hm, rfl⟩ := inr_of (n := 999) (by omega) h6
  rw [nn_nI (by omega)] at h2 h4 h7
  rw [nn_nI (by omega)] at h4 h5 h7
  exact ⟨k', t', m', W (pcx k' 0), rfl, hk, rfl, ht, rfl, hm, rfl, (bc k' hk).1, h4, h7, (bp _ (bc k' hk).1).1, (bp t' ht).1⟩

theorem r_canSell {s : Mr} {a W : Fl} {h : Hp} {d n : Nat} (hr : RN (uns a W, s) h) (hW : IW n W) (hn : n ≤ 8) (k0 t0 m0 : Int32) (hd : 3 ≤ d) : Sp d mX9_canSell [.ref 488, .int k0, .int t0, .int m0] h (some (.int (bI (okS W k0 t0 m0)))) h := by
  intro N S Q hN hS hQ
  have hm := hr.m
  have b0 := hW.1.1
  have b4 := hW.1.2.2.2.2.1
  have e1 : pI h 489 1 = nI (W 0) := hr.wat 0 rfl (by omega)
  by_cases hk : opnW W k0
  · obtain ⟨k, hk1, rfl⟩ := vin_of (show W 4 < 2 ^ 31 by omega) hk.1
    have bk := (hW.2.2.1 k hk1).1
    have ek : nn (nI k) = k := nn_nI (by omega)
    by_cases ht : vin t0 (W 0)
    · obtain ⟨t, ht1, rfl⟩ := vin_of (show W 0 < 2 ^ 31 by omega) ht
      have bt := (hW.2.1 t ht1)
      have et : nn (nI t) = t := nn_nI (by omega)
      by_cases hne : W (pcx k 0) ≠ t
      · skip
        by_cases hru : W (ppx t 2) = 0
        · skip
          by_cases hin : inr m0 0 999
          · obtain ⟨m, hm1, rfl⟩ := inr_of (n := 999) (by omega) hin
            have em : nn (nI m) = m := nn_nI (by omega)
            by_cases hpu : m ≤ W (ppx (W (pcx k 0)) 0)
            · have bf := (hW.2.1 _ bk).1
              rw [bI_t ⟨hk, ht, by rw [ek, et]; exact hne, by rw [et]; exact hru, hin, by rw [ek, em]; exact hpu⟩] at hQ
              refine z_aload_n dX9_canSell_0 rfl rfl ?_
              refine z_iload_n dX9_canSell_1 rfl rfl ?_
              refine y_callV (as := [_]) CX9_isOpen LX9_353 IX9_isOpen VX9_isOpen ⟨rfl, Nat.le_of_ble_eq_true rfl⟩ dX9_canSell_2 hm.o rfl (Nat.le_of_ble_eq_true rfl) (Nat.le_of_ble_eq_true rfl) (by omega) (r_isOpenW (d := 2) hr b4 (fun k hk => (hW.2.2.1 k hk).2.2.2.2.2.2) _ (Nat.le_refl _)) (rok_z bI_01) ⟨Nat.le_refl _, Nat.le_refl _, hN, hS⟩ ?_
              refine z_if_eq dX9_canSell_5 rfl (fun c => absurd c (bI_ne0.mpr hk)) (fun _ => ?_)
              refine z_aload_n dX9_canSell_8 rfl rfl ?_
              refine z_iload_n dX9_canSell_9 rfl rfl ?_
              refine y_callV (as := [_]) CX9_isProphet LX9_365 IX9_isProphet VX9_isProphet ⟨rfl, Nat.le_of_ble_eq_true rfl⟩ dX9_canSell_10 hm.o rfl (Nat.le_of_ble_eq_true rfl) (Nat.le_of_ble_eq_true rfl) (by omega) (r_isProphet (d := 1) (by exact (by exact hm)) e1 (by omega) _ (Nat.le_refl _)) (rok_z bI_01) ⟨Nat.le_refl _, Nat.le_refl _, hN, hS⟩ ?_
              refine z_if_eq dX9_canSell_13 rfl (fun c => absurd c (bI_ne0.mpr ht)) (fun _ => ?_)
              refine z_iload_n dX9_canSell_16 rfl rfl ?_
              refine z_aload_n dX9_canSell_17 rfl rfl ?_
              refine z_iload_n dX9_canSell_18 rfl rfl ?_
              refine z_iconst (v := 0) dX9_canSell_19 (by decide) ?_
              refine y_callV (as := [_, _]) CX9_got LX9_67 IX9_got VX9_got ⟨rfl, Nat.le_of_ble_eq_true rfl⟩ dX9_canSell_20 hm.o rfl (Nat.le_of_ble_eq_true rfl) (Nat.le_of_ble_eq_true rfl) (by omega) (r_got (j := k) (w := 0) (by exact (by exact hm)) (by omega) (by omega)) rok_i ⟨Nat.le_refl _, Nat.le_refl _, hN, hS⟩ ?_
              refine z_eqi (show _ = nI (W (pcx k 0)) from hr.wat (pcx k 0) (wx_pc (by omega) (by omega)).symm (by unfold pcx; omega)) ?_
              refine z_icmp_eq dX9_canSell_23 rfl (fun c => absurd c (fun q => hne ((nI_eq (by omega) (by omega)).mp q).symm)) (fun _ => ?_)
              refine z_aload_n dX9_canSell_26 rfl rfl ?_
              refine z_iload_n dX9_canSell_27 rfl rfl ?_
              refine z_iconst (v := 2) dX9_canSell_28 (by decide) ?_
              refine y_callV (as := [_, _]) CX9_get LX9_87 IX9_get VX9_get ⟨rfl, Nat.le_of_ble_eq_true rfl⟩ dX9_canSell_29 hm.o rfl (Nat.le_of_ble_eq_true rfl) (Nat.le_of_ble_eq_true rfl) (by omega) (r_get (j := t) (w := 2) (by exact (by exact hm)) (by omega) (by omega)) rok_i ⟨Nat.le_refl _, Nat.le_refl _, hN, hS⟩ ?_
              refine z_eqi (show _ = nI (W (ppx t 2)) from hr.wat (ppx t 2) (wx_pp (by omega) (by omega)).symm (by unfold ppx; omega)) ?_
              refine z_if_ne dX9_canSell_32 rfl (fun c => absurd (by rw [hru]; rfl) c) (fun _ => ?_)
              refine z_iload_n dX9_canSell_35 rfl rfl ?_
              refine z_iconst (v := 0) dX9_canSell_36 (by decide) ?_
              refine z_sipush (v := 999) dX9_canSell_37 (by decide) ?_
              refine y_callS (as := [_, _, _]) CX9_isIn LX9_63 SX9_isIn dX9_canSell_40 rfl (Nat.le_of_ble_eq_true rfl) (Nat.le_of_ble_eq_true rfl) (by omega) (r_isIn _ _ _) (rok_z bI_01) ⟨Nat.le_refl _, Nat.le_refl _, hN, hS⟩ ?_
              refine z_if_eq dX9_canSell_43 rfl (fun c => absurd c (bI_ne0.mpr hin)) (fun _ => ?_)
              refine z_aload_n dX9_canSell_46 rfl rfl ?_
              refine z_aload_n dX9_canSell_47 rfl rfl ?_
              refine z_iload_n dX9_canSell_48 rfl rfl ?_
              refine z_iconst (v := 0) dX9_canSell_49 (by decide) ?_
              refine y_callV (as := [_, _]) CX9_got LX9_67 IX9_got VX9_got ⟨rfl, Nat.le_of_ble_eq_true rfl⟩ dX9_canSell_50 hm.o rfl (Nat.le_of_ble_eq_true rfl) (Nat.le_of_ble_eq_true rfl) (by omega) (r_got (j := k) (w := 0) (by exact (by exact hm)) (by omega) (by omega)) rok_i ⟨Nat.le_refl _, Nat.le_refl _, hN, hS⟩ ?_
              refine z_eqi (show _ = nI (W (pcx k 0)) from hr.wat (pcx k 0) (wx_pc (by omega) (by omega)).symm (by unfold pcx; omega)) ?_
              refine z_iconst (v := 0) dX9_canSell_53 (by decide) ?_
              refine y_callV (as := [_, _]) CX9_get LX9_87 IX9_get VX9_get ⟨rfl, Nat.le_of_ble_eq_true rfl⟩ dX9_canSell_54 hm.o rfl (Nat.le_of_ble_eq_true rfl) (Nat.le_of_ble_eq_true rfl) (by omega) (r_get (j := W (pcx k 0)) (w := 0) (by exact (by exact hm)) (by omega) (by omega)) rok_i ⟨Nat.le_refl _, Nat.le_refl _, hN, hS⟩ ?_
              refine z_eqi (show _ = nI (W (ppx (W (pcx k 0)) 0)) from hr.wat (ppx (W (pcx k 0)) 0) (wx_pp (by omega) (by omega)).symm (by unfold ppx; omega)) ?_
              refine z_iload_n dX9_canSell_57 rfl rfl ?_
              refine z_icmp_lt dX9_canSell_58 rfl (fun c => absurd c (fun q => absurd ((nI_ltI (by omega) (by omega)).mp q) (by omega))) (fun _ => ?_)
              refine z_iconst (v := 1) dX9_canSell_61 (by decide) ?_
              refine z_goto dX9_canSell_62 rfl ?_
              refine z_iret dX9_canSell_66 ?_
              exact hQ
            · rw [bI_f (fun q => hpu (by have := q.2.2.2.2.2; rw [ek, em] at this; exact this))] at hQ
              refine z_aload_n dX9_canSell_0 rfl rfl ?_
              refine z_iload_n dX9_canSell_1 rfl rfl ?_
              refine y_callV (as := [_]) CX9_isOpen LX9_353 IX9_isOpen VX9_isOpen ⟨rfl, Nat.le_of_ble_eq_true rfl⟩ dX9_canSell_2 hm.o rfl (Nat.le_of_ble_eq_true rfl) (Nat.le_of_ble_eq_true rfl) (by omega) (r_isOpenW (d := 2) hr b4 (fun k hk => (hW.2.2.1 k hk).2.2.2.2.2.2) _ (Nat.le_refl _)) (rok_z bI_01) ⟨Nat.le_refl _, Nat.le_refl _, hN, hS⟩ ?_
              refine z_if_eq dX9_canSell_5 rfl (fun c => absurd c (bI_ne0.mpr hk)) (fun _ => ?_)
              refine z_aload_n dX9_canSell_8 rfl rfl ?_
              refine z_iload_n dX9_canSell_9 rfl rfl ?_
              refine y_callV (as := [_]) CX9_isProphet LX9_365 IX9_isProphet VX9_isProphet ⟨rfl, Nat.le_of_ble_eq_true rfl⟩ dX9_canSell_10 hm.o rfl (Nat.le_of_ble_eq_true rfl) (Nat.le_of_ble_eq_true rfl) (by omega) (r_isProphet (d := 1) (by exact (by exact hm)) e1 (by omega) _ (Nat.le_refl _)) (rok_z bI_01) ⟨Nat.le_refl _, Nat.le_refl _, hN, hS⟩ ?_
              refine z_if_eq dX9_canSell_13 rfl (fun c => absurd c (bI_ne0.mpr ht)) (fun _ => ?_)
              refine z_iload_n dX9_canSell_16 rfl rfl ?_
              refine z_aload_n dX9_canSell_17 rfl rfl ?_
              refine z_iload_n dX9_canSell_18 rfl rfl ?_
              refine z_iconst (v := 0) dX9_canSell_19 (by decide) ?_
              refine y_callV (as := [_, _]) CX9_got LX9_67 IX9_got VX9_got ⟨rfl, Nat.le_of_ble_eq_true rfl⟩ dX9_canSell_20 hm.o rfl (Nat.le_of_ble_eq_true rfl) (Nat.le_of_ble_eq_true rfl) (by omega) (r_got (j := k) (w := 0) (by exact (by exact hm)) (by omega) (by omega)) rok_i ⟨Nat.le_refl _, Nat.le_refl _, hN, hS⟩ ?_
              refine z_eqi (show _ = nI (W (pcx k 0)) from hr.wat (pcx k 0) (wx_pc (by omega) (by omega)).symm (by unfold pcx; omega)) ?_
              refine z_icmp_eq dX9_canSell_23 rfl (fun c => absurd c (fun q => hne ((nI_eq (by omega) (by omega)).mp q).symm)) (fun _ => ?_)
              refine z_aload_n dX9_canSell_26 rfl rfl ?_
              refine z_iload_n dX9_canSell_27 rfl rfl ?_
              refine z_iconst (v := 2) dX9_canSell_28 (by decide) ?_
              refine y_callV (as := [_, _]) CX9_get LX9_87 IX9_get VX9_get ⟨rfl, Nat.le_of_ble_eq_true rfl⟩ dX9_canSell_29 hm.o rfl (Nat.le_of_ble_eq_true rfl) (Nat.le_of_ble_eq_true rfl) (by omega) (r_get (j := t) (w := 2) (by exact (by exact hm)) (by omega) (by omega)) rok_i ⟨Nat.le_refl _, Nat.le_refl _, hN, hS⟩ ?_
              refine z_eqi (show _ = nI (W (ppx t 2)) from hr.wat (ppx t 2) (wx_pp (by omega) (by omega)).symm (by unfold ppx; omega)) ?_
              refine z_if_ne dX9_canSell_32 rfl (fun c => absurd (by rw [hru]; rfl) c) (fun _ => ?_)
              refine z_iload_n dX9_canSell_35 rfl rfl ?_
              refine z_iconst (v := 0) dX9_canSell_36 (by decide) ?_
              refine z_sipush (v := 999) dX9_canSell_37 (by decide) ?_
              refine y_callS (as := [_, _, _]) CX9_isIn LX9_63 SX9_isIn dX9_canSell_40 rfl (Nat.le_of_ble_eq_true rfl) (Nat.le_of_ble_eq_true rfl) (by omega) (r_isIn _ _ _) (rok_z bI_01) ⟨Nat.le_refl _, Nat.le_refl _, hN, hS⟩ ?_
              refine z_if_eq dX9_canSell_43 rfl (fun c => absurd c (bI_ne0.mpr hin)) (fun _ => ?_)
              refine z_aload_n dX9_canSell_46 rfl rfl ?_
              refine z_aload_n dX9_canSell_47 rfl rfl ?_
              refine z_iload_n dX9_canSell_48 rfl rfl ?_
              refine z_iconst (v := 0) dX9_canSell_49 (by decide) ?_
              refine y_callV (as := [_, _]) CX9_got LX9_67 IX9_got VX9_got ⟨rfl, Nat.le_of_ble_eq_true rfl⟩ dX9_canSell_50 hm.o rfl (Nat.le_of_ble_eq_true rfl) (Nat.le_of_ble_eq_true rfl) (by omega) (r_got (j := k) (w := 0) (by exact (by exact hm)) (by omega) (by omega)) rok_i ⟨Nat.le_refl _, Nat.le_refl _, hN, hS⟩ ?_
              refine z_eqi (show _ = nI (W (pcx k 0)) from hr.wat (pcx k 0) (wx_pc (by omega) (by omega)).symm (by unfold pcx; omega)) ?_
              refine z_iconst (v := 0) dX9_canSell_53 (by decide) ?_
              refine y_callV (as := [_, _]) CX9_get LX9_87 IX9_get VX9_get ⟨rfl, Nat.le_of_ble_eq_true rfl⟩ dX9_canSell_54 hm.o rfl (Nat.le_of_ble_eq_true rfl) (Nat.le_of_ble_eq_true rfl) (by omega) (r_get (j := W (pcx k 0)) (w := 0) (by exact (by exact hm)) (by omega) (by omega)) rok_i ⟨Nat.le_refl _, Nat.le_refl _, hN, hS⟩ ?_
              refine z_eqi (show _ = nI (W (ppx (W (pcx k 0)) 0)) from hr.wat (ppx (W (pcx k 0)) 0) (wx_pp (by omega) (by omega)).symm (by unfold ppx; omega)) ?_
              refine z_iload_n dX9_canSell_57 rfl rfl ?_
              refine z_icmp_lt dX9_canSell_58 rfl (fun _ => ?_) (fun c => absurd ((nI_ltI (by have := (hW.2.1 _ bk).1; omega) (by omega)).mpr (by omega)) c)
              refine z_iconst (v := 0) dX9_canSell_65 (by decide) ?_
              refine z_iret dX9_canSell_66 ?_
              exact hQ
          · rw [bI_f (fun q => hin q.2.2.2.2.1)] at hQ
            refine z_aload_n dX9_canSell_0 rfl rfl ?_
            refine z_iload_n dX9_canSell_1 rfl rfl ?_
            refine y_callV (as := [_]) CX9_isOpen LX9_353 IX9_isOpen VX9_isOpen ⟨rfl, Nat.le_of_ble_eq_true rfl⟩ dX9_canSell_2 hm.o rfl (Nat.le_of_ble_eq_true rfl) (Nat.le_of_ble_eq_true rfl) (by omega) (r_isOpenW (d := 2) hr b4 (fun k hk => (hW.2.2.1 k hk).2.2.2.2.2.2) _ (Nat.le_refl _)) (rok_z bI_01) ⟨Nat.le_refl _, Nat.le_refl _, hN, hS⟩ ?_
            refine z_if_eq dX9_canSell_5 rfl (fun c => absurd c (bI_ne0.mpr hk)) (fun _ => ?_)
            refine z_aload_n dX9_canSell_8 rfl rfl ?_
            refine z_iload_n dX9_canSell_9 rfl rfl ?_
            refine y_callV (as := [_]) CX9_isProphet LX9_365 IX9_isProphet VX9_isProphet ⟨rfl, Nat.le_of_ble_eq_true rfl⟩ dX9_canSell_10 hm.o rfl (Nat.le_of_ble_eq_true rfl) (Nat.le_of_ble_eq_true rfl) (by omega) (r_isProphet (d := 1) (by exact (by exact hm)) e1 (by omega) _ (Nat.le_refl _)) (rok_z bI_01) ⟨Nat.le_refl _, Nat.le_refl _, hN, hS⟩ ?_
            refine z_if_eq dX9_canSell_13 rfl (fun c => absurd c (bI_ne0.mpr ht)) (fun _ => ?_)
            refine z_iload_n dX9_canSell_16 rfl rfl ?_
            refine z_aload_n dX9_canSell_17 rfl rfl ?_
            refine z_iload_n dX9_canSell_18 rfl rfl ?_
            refine z_iconst (v := 0) dX9_canSell_19 (by decide) ?_
            refine y_callV (as := [_, _]) CX9_got LX9_67 IX9_got VX9_got ⟨rfl, Nat.le_of_ble_eq_true rfl⟩ dX9_canSell_20 hm.o rfl (Nat.le_of_ble_eq_true rfl) (Nat.le_of_ble_eq_true rfl) (by omega) (r_got (j := k) (w := 0) (by exact (by exact hm)) (by omega) (by omega)) rok_i ⟨Nat.le_refl _, Nat.le_refl _, hN, hS⟩ ?_
            refine z_eqi (show _ = nI (W (pcx k 0)) from hr.wat (pcx k 0) (wx_pc (by omega) (by omega)).symm (by unfold pcx; omega)) ?_
            refine z_icmp_eq dX9_canSell_23 rfl (fun c => absurd c (fun q => hne ((nI_eq (by omega) (by omega)).mp q).symm)) (fun _ => ?_)
            refine z_aload_n dX9_canSell_26 rfl rfl ?_
            refine z_iload_n dX9_canSell_27 rfl rfl ?_
            refine z_iconst (v := 2) dX9_canSell_28 (by decide) ?_
            refine y_callV (as := [_, _]) CX9_get LX9_87 IX9_get VX9_get ⟨rfl, Nat.le_of_ble_eq_true rfl⟩ dX9_canSell_29 hm.o rfl (Nat.le_of_ble_eq_true rfl) (Nat.le_of_ble_eq_true rfl) (by omega) (r_get (j := t) (w := 2) (by exact (by exact hm)) (by omega) (by omega)) rok_i ⟨Nat.le_refl _, Nat.le_refl _, hN, hS⟩ ?_
            refine z_eqi (show _ = nI (W (ppx t 2)) from hr.wat (ppx t 2) (wx_pp (by omega) (by omega)).symm (by unfold ppx; omega)) ?_
            refine z_if_ne dX9_canSell_32 rfl (fun c => absurd (by rw [hru]; rfl) c) (fun _ => ?_)
            refine z_iload_n dX9_canSell_35 rfl rfl ?_
            refine z_iconst (v := 0) dX9_canSell_36 (by decide) ?_
            refine z_sipush (v := 999) dX9_canSell_37 (by decide) ?_
            refine y_callS (as := [_, _, _]) CX9_isIn LX9_63 SX9_isIn dX9_canSell_40 rfl (Nat.le_of_ble_eq_true rfl) (Nat.le_of_ble_eq_true rfl) (by omega) (r_isIn _ _ _) (rok_z bI_01) ⟨Nat.le_refl _, Nat.le_refl _, hN, hS⟩ ?_
            refine z_if_eq dX9_canSell_43 rfl (fun _ => ?_) (fun c => absurd (bI_eq0.mpr hin) c)
            refine z_iconst (v := 0) dX9_canSell_65 (by decide) ?_
            refine z_iret dX9_canSell_66 ?_
            exact hQ
        · rw [bI_f (fun q => hru (by have := q.2.2.2.1; rw [et] at this; exact this))] at hQ
          refine z_aload_n dX9_canSell_0 rfl rfl ?_
          refine z_iload_n dX9_canSell_1 rfl rfl ?_
          refine y_callV (as := [_]) CX9_isOpen LX9_353 IX9_isOpen VX9_isOpen ⟨rfl, Nat.le_of_ble_eq_true rfl⟩ dX9_canSell_2 hm.o rfl (Nat.le_of_ble_eq_true rfl) (Nat.le_of_ble_eq_true rfl) (by omega) (r_isOpenW (d := 2) hr b4 (fun k hk => (hW.2.2.1 k hk).2.2.2.2.2.2) _ (Nat.le_refl _)) (rok_z bI_01) ⟨Nat.le_refl _, Nat.le_refl _, hN, hS⟩ ?_
          refine z_if_eq dX9_canSell_5 rfl (fun c => absurd c (bI_ne0.mpr hk)) (fun _ => ?_)
          refine z_aload_n dX9_canSell_8 rfl rfl ?_
          refine z_iload_n dX9_canSell_9 rfl rfl ?_
          refine y_callV (as := [_]) CX9_isProphet LX9_365 IX9_isProphet VX9_isProphet ⟨rfl, Nat.le_of_ble_eq_true rfl⟩ dX9_canSell_10 hm.o rfl (Nat.le_of_ble_eq_true rfl) (Nat.le_of_ble_eq_true rfl) (by omega) (r_isProphet (d := 1) (by exact (by exact hm)) e1 (by omega) _ (Nat.le_refl _)) (rok_z bI_01) ⟨Nat.le_refl _, Nat.le_refl _, hN, hS⟩ ?_
          refine z_if_eq dX9_canSell_13 rfl (fun c => absurd c (bI_ne0.mpr ht)) (fun _ => ?_)
          refine z_iload_n dX9_canSell_16 rfl rfl ?_
          refine z_aload_n dX9_canSell_17 rfl rfl ?_
          refine z_iload_n dX9_canSell_18 rfl rfl ?_
          refine z_iconst (v := 0) dX9_canSell_19 (by decide) ?_
          refine y_callV (as := [_, _]) CX9_got LX9_67 IX9_got VX9_got ⟨rfl, Nat.le_of_ble_eq_true rfl⟩ dX9_canSell_20 hm.o rfl (Nat.le_of_ble_eq_true rfl) (Nat.le_of_ble_eq_true rfl) (by omega) (r_got (j := k) (w := 0) (by exact (by exact hm)) (by omega) (by omega)) rok_i ⟨Nat.le_refl _, Nat.le_refl _, hN, hS⟩ ?_
          refine z_eqi (show _ = nI (W (pcx k 0)) from hr.wat (pcx k 0) (wx_pc (by omega) (by omega)).symm (by unfold pcx; omega)) ?_
          refine z_icmp_eq dX9_canSell_23 rfl (fun c => absurd c (fun q => hne ((nI_eq (by omega) (by omega)).mp q).symm)) (fun _ => ?_)
          refine z_aload_n dX9_canSell_26 rfl rfl ?_
          refine z_iload_n dX9_canSell_27 rfl rfl ?_
          refine z_iconst (v := 2) dX9_canSell_28 (by decide) ?_
          refine y_callV (as := [_, _]) CX9_get LX9_87 IX9_get VX9_get ⟨rfl, Nat.le_of_ble_eq_true rfl⟩ dX9_canSell_29 hm.o rfl (Nat.le_of_ble_eq_true rfl) (Nat.le_of_ble_eq_true rfl) (by omega) (r_get (j := t) (w := 2) (by exact (by exact hm)) (by omega) (by omega)) rok_i ⟨Nat.le_refl _, Nat.le_refl _, hN, hS⟩ ?_
          refine z_eqi (show _ = nI (W (ppx t 2)) from hr.wat (ppx t 2) (wx_pp (by omega) (by omega)).symm (by unfold ppx; omega)) ?_
          refine z_if_ne dX9_canSell_32 rfl (fun _ => ?_) (fun c => absurd c (fun q => hru ((nI_eq (b := 0) (by omega) (by omega)).mp q)))
          refine z_iconst (v := 0) dX9_canSell_65 (by decide) ?_
          refine z_iret dX9_canSell_66 ?_
          exact hQ
      · rw [bI_f (fun q => hne (by have := q.2.2.1; rw [ek, et] at this; exact this))] at hQ
        refine z_aload_n dX9_canSell_0 rfl rfl ?_
        refine z_iload_n dX9_canSell_1 rfl rfl ?_
        refine y_callV (as := [_]) CX9_isOpen LX9_353 IX9_isOpen VX9_isOpen ⟨rfl, Nat.le_of_ble_eq_true rfl⟩ dX9_canSell_2 hm.o rfl (Nat.le_of_ble_eq_true rfl) (Nat.le_of_ble_eq_true rfl) (by omega) (r_isOpenW (d := 2) hr b4 (fun k hk => (hW.2.2.1 k hk).2.2.2.2.2.2) _ (Nat.le_refl _)) (rok_z bI_01) ⟨Nat.le_refl _, Nat.le_refl _, hN, hS⟩ ?_
        refine z_if_eq dX9_canSell_5 rfl (fun c => absurd c (bI_ne0.mpr hk)) (fun _ => ?_)
        refine z_aload_n dX9_canSell_8 rfl rfl ?_
        refine z_iload_n dX9_canSell_9 rfl rfl ?_
        refine y_callV (as := [_]) CX9_isProphet LX9_365 IX9_isProphet VX9_isProphet ⟨rfl, Nat.le_of_ble_eq_true rfl⟩ dX9_canSell_10 hm.o rfl (Nat.le_of_ble_eq_true rfl) (Nat.le_of_ble_eq_true rfl) (by omega) (r_isProphet (d := 1) (by exact (by exact hm)) e1 (by omega) _ (Nat.le_refl _)) (rok_z bI_01) ⟨Nat.le_refl _, Nat.le_refl _, hN, hS⟩ ?_
        refine z_if_eq dX9_canSell_13 rfl (fun c => absurd c (bI_ne0.mpr ht)) (fun _ => ?_)
        refine z_iload_n dX9_canSell_16 rfl rfl ?_
        refine z_aload_n dX9_canSell_17 rfl rfl ?_
        refine z_iload_n dX9_canSell_18 rfl rfl ?_
        refine z_iconst (v := 0) dX9_canSell_19 (by decide) ?_
        refine y_callV (as := [_, _]) CX9_got LX9_67 IX9_got VX9_got ⟨rfl, Nat.le_of_ble_eq_true rfl⟩ dX9_canSell_20 hm.o rfl (Nat.le_of_ble_eq_true rfl) (Nat.le_of_ble_eq_true rfl) (by omega) (r_got (j := k) (w := 0) (by exact (by exact hm)) (by omega) (by omega)) rok_i ⟨Nat.le_refl _, Nat.le_refl _, hN, hS⟩ ?_
        refine z_eqi (show _ = nI (W (pcx k 0)) from hr.wat (pcx k 0) (wx_pc (by omega) (by omega)).symm (by unfold pcx; omega)) ?_
        refine z_icmp_eq dX9_canSell_23 rfl (fun _ => ?_) (fun c => absurd (congrArg nI (Classical.not_not.mp hne).symm) c)
        refine z_iconst (v := 0) dX9_canSell_65 (by decide) ?_
        refine z_iret dX9_canSell_66 ?_
        exact hQ
    · rw [bI_f (fun q => ht q.2.1)] at hQ
      refine z_aload_n dX9_canSell_0 rfl rfl ?_
      refine z_iload_n dX9_canSell_1 rfl rfl ?_
      refine y_callV (as := [_]) CX9_isOpen LX9_353 IX9_isOpen VX9_isOpen ⟨rfl, Nat.le_of_ble_eq_true rfl⟩ dX9_canSell_2 hm.o rfl (Nat.le_of_ble_eq_true rfl) (Nat.le_of_ble_eq_true rfl) (by omega) (r_isOpenW (d := 2) hr b4 (fun k hk => (hW.2.2.1 k hk).2.2.2.2.2.2) _ (Nat.le_refl _)) (rok_z bI_01) ⟨Nat.le_refl _, Nat.le_refl _, hN, hS⟩ ?_
      refine z_if_eq dX9_canSell_5 rfl (fun c => absurd c (bI_ne0.mpr hk)) (fun _ => ?_)
      refine z_aload_n dX9_canSell_8 rfl rfl ?_
      refine z_iload_n dX9_canSell_9 rfl rfl ?_
      refine y_callV (as := [_]) CX9_isProphet LX9_365 IX9_isProphet VX9_isProphet ⟨rfl, Nat.le_of_ble_eq_true rfl⟩ dX9_canSell_10 hm.o rfl (Nat.le_of_ble_eq_true rfl) (Nat.le_of_ble_eq_true rfl) (by omega) (r_isProphet (d := 1) (by exact (by exact hm)) e1 (by omega) _ (Nat.le_refl _)) (rok_z bI_01) ⟨Nat.le_refl _, Nat.le_refl _, hN, hS⟩ ?_
      refine z_if_eq dX9_canSell_13 rfl (fun _ => ?_) (fun c => absurd (bI_eq0.mpr ht) c)
      refine z_iconst (v := 0) dX9_canSell_65 (by decide) ?_
      refine z_iret dX9_canSell_66 ?_
      exact hQ
  · rw [bI_f (fun q => hk q.1)] at hQ
    refine z_aload_n dX9_canSell_0 rfl rfl ?_
    refine z_iload_n dX9_canSell_1 rfl rfl ?_
    refine y_callV (as := [_]) CX9_isOpen LX9_353 IX9_isOpen VX9_isOpen ⟨rfl, Nat.le_of_ble_eq_true rfl⟩ dX9_canSell_2 hm.o rfl (Nat.le_of_ble_eq_true rfl) (Nat.le_of_ble_eq_true rfl) (by omega) (r_isOpenW (d := 2) hr b4 (fun k hk => (hW.2.2.1 k hk).2.2.2.2.2.2) _ (Nat.le_refl _)) (rok_z bI_01) ⟨Nat.le_refl _, Nat.le_refl _, hN, hS⟩ ?_
    refine z_if_eq dX9_canSell_5 rfl (fun _ => ?_) (fun c => absurd (bI_eq0.mpr hk) c)
    refine z_iconst (v := 0) dX9_canSell_65 (by decide) ?_
    refine z_iret dX9_canSell_66 ?_
    exact hQ

theorem R_sell {s : Ms} {h : Hp} {d n : Nat} (hr : RM s h) (h4 : s.1 4 ≤ 30) (hW : IW n (snap s.1)) (hn : n ≤ 8) (k0 t0 m0 : Int32) (hd : 4 ≤ d) : ∃ h1, Sp d mX9_sell [.ref 488, .int k0, .int t0, .int m0] h (some (.int (mSell s.1 k0 t0 m0).1)) h1 ∧ RM ((mSell s.1 k0 t0 m0).2, s.2) h1 ∧ FM h h1 := by
  have hm := hr.m
  have hr0 := hr.un
  by_cases hc : okS (snap s.1) k0 t0 m0
  · have eq : mSell s.1 k0 t0 m0 = (1, uns (mKeep s.1) (wSell (snap (mKeep s.1)) (nn k0) (nn t0) (nn m0))) := if_pos hc
    rw [eq]
    obtain ⟨k, t, m, f, rfl, hk, rfl, ht, rfl, hmm, ef, hf, hft, hmf, bf, bt⟩ := okS_b hW hc
    have b0 := hW.1.1
    have b4 := hW.1.2.2.2.2.1
    have b5 := hW.1.2.2.2.2.2
    obtain ⟨k1h, k1, k2, k3⟩ := r_keep (d := 3) hr h4 (by omega)
    rw [nn_nI (by omega), nn_nI (by omega), nn_nI (by omega)]
    have kv : ∀ i, i < 153 → snap (mKeep s.1) i = snap s.1 i := fun i hi => snap_keep h4 hi
    have hm1 := k2.m
    have hu := k2.un
    show ∃ h1, _ ∧ RM (uns (mKeep s.1) (wSell (snap (mKeep s.1)) k t m), s.2) h1 ∧ _
    have hu : RM (uns (mKeep s.1) (snap (mKeep s.1)), s.2) k1h := hu
    rw [← kv _ (by unfold pcx; omega)] at ef
    rw [← kv _ (by unfold ppx; omega)] at hmf bf bt
    have b5 : snap (mKeep s.1) 5 ≤ 30 := by rw [kv 5 (by omega)]; exact b5
    clear kv
    generalize snap (mKeep s.1) = V at *
    have q0 : pI k1h 489 (38 + 6 * k + 0) = nI f := by rw [← ef]; exact hu.wat _ (wx_pc (by omega) (by omega)).symm (by unfold pcx; omega)
    have qf : pI k1h 489 (13 + 5 * f + 0) = nI (V (ppx f 0)) := hu.wat _ (wx_pp (by omega) (by omega)).symm (by unfold ppx; omega)
    have qt : pI k1h 489 (13 + 5 * t + 0) = nI (V (ppx t 0)) := hu.wat _ (wx_pp (by omega) (by omega)).symm (by unfold ppx; omega)
    have r1 := hu.w (wx_pp (p := f) (by omega) (show 0 < 3 by omega)).symm (by unfold ppx; omega) (v := V (ppx f 0) - m) rfl
    have r2 := r1.w (wx_pp (p := t) (by omega) (show 0 < 3 by omega)).symm (by unfold ppx; omega) (v := min 9999 (V (ppx t 0) + m)) rfl
    have r3 := r2.w (wx_pc (k := k) (by omega) (show 0 < 6 by omega)).symm (by unfold pcx; omega) (v := t) rfl
    obtain ⟨wh, w1, w2, w3, w4⟩ := r_write (d := 3) (k := k) (what := 2) (much := m) r3.n.1 r3.n.2 (by rw [up_n (by unfold pcx; omega), up_n (by unfold ppx; omega), up_n (by unfold ppx; omega)]; exact b5) (by omega)
    have ft : FM h wh := (((k3.sI (by omega)).sI (by omega)).sI (by omega)).tr w3
    refine ⟨wh, ?_, ?_, ft⟩
    · intro N S Q hN hS hQ
      have hN1 : pn k1h ≤ N := by rw [w3.1.n] at hN; exact hN
      have hS1 : ps k1h ≤ S := by rw [w3.1.s] at hS; exact hS
      have hN : pn h ≤ N := by rw [← ft.1.n]; exact hN
      have hS : ps h ≤ S := by rw [← ft.1.s]; exact hS
      refine z_aload_n dX9_sell_0 rfl rfl ?_
      refine z_iload_n dX9_sell_1 rfl rfl ?_
      refine z_iload_n dX9_sell_2 rfl rfl ?_
      refine z_iload_n dX9_sell_3 rfl rfl ?_
      refine y_callV (as := [_, _, _]) CX9_canSell LX9_391 IX9_canSell VX9_canSell ⟨rfl, Nat.le_of_ble_eq_true rfl⟩ dX9_sell_4 hm.o rfl (Nat.le_of_ble_eq_true rfl) (Nat.le_of_ble_eq_true rfl) (by omega) (r_canSell (d := 3) hr0.n.1 hW hn _ _ _ (Nat.le_refl _)) (rok_z bI_01) ⟨Nat.le_refl _, Nat.le_refl _, hN, hS⟩ ?_
      refine z_if_ne dX9_sell_7 rfl (fun _ => ?_) (fun c => absurd c (bI_ne0.mpr hc))
      refine z_aload_n dX9_sell_12 rfl rfl ?_
      refine y_callV (as := []) CX9_keep LX9_374 IX9_keep VX9_keep ⟨rfl, Nat.le_of_ble_eq_true rfl⟩ dX9_sell_13 hm.o rfl (Nat.le_of_ble_eq_true rfl) (Nat.le_of_ble_eq_true rfl) (by omega) k1 rok_v (hg_ss k3.1 hN hS) ?_
      refine z_aload_n dX9_sell_16 rfl rfl ?_
      refine z_iload_n dX9_sell_17 rfl rfl ?_
      refine z_iconst (v := 0) dX9_sell_18 (by decide) ?_
      refine y_callV (as := [_, _]) CX9_got LX9_67 IX9_got VX9_got ⟨rfl, Nat.le_of_ble_eq_true rfl⟩ dX9_sell_19 (k3.1.O hm.o) rfl (Nat.le_of_ble_eq_true rfl) (Nat.le_of_ble_eq_true rfl) (by omega) (r_got (j := k) (w := 0) (by exact hm1) (by omega) (by omega)) rok_i ⟨Nat.le_refl _, Nat.le_refl _, hN1, hS1⟩ ?_
      refine z_eqi (show _ = nI f from q0) ?_
      refine z_istore dX9_sell_22 (Nat.le_of_ble_eq_true rfl) ?_
      refine z_aload_n dX9_sell_24 rfl rfl ?_
      refine z_iload dX9_sell_25 rfl ?_
      refine z_iconst (v := 0) dX9_sell_27 (by decide) ?_
      refine z_aload_n dX9_sell_28 rfl rfl ?_
      refine z_iload dX9_sell_29 rfl ?_
      refine z_iconst (v := 0) dX9_sell_31 (by decide) ?_
      refine y_callV (as := [_, _]) CX9_get LX9_87 IX9_get VX9_get ⟨rfl, Nat.le_of_ble_eq_true rfl⟩ dX9_sell_32 (k3.1.O hm.o) rfl (Nat.le_of_ble_eq_true rfl) (Nat.le_of_ble_eq_true rfl) (by omega) (r_get (j := f) (w := 0) (by exact hm1) (by omega) (by omega)) rok_i ⟨Nat.le_refl _, Nat.le_refl _, hN1, hS1⟩ ?_
      refine z_eqi (show _ = nI (V (ppx f 0)) from qf) ?_
      refine z_iload_n dX9_sell_35 rfl rfl ?_
      refine z_isub dX9_sell_36 ?_
      refine z_eqi (pk_sub hmf) ?_
      refine y_callV (as := [_, _, _]) CX9_put LX9_79 IX9_put VX9_put ⟨rfl, Nat.le_of_ble_eq_true rfl⟩ dX9_sell_37 (k3.1.O hm.o) rfl (Nat.le_of_ble_eq_true rfl) (Nat.le_of_ble_eq_true rfl) (by omega) (r_put (j := f) (w := 0) (by exact hm1) (by omega) (by omega)) rok_v ⟨Nat.le_refl _, Nat.le_refl _, hN1, hS1⟩ ?_
      refine z_aload_n dX9_sell_40 rfl rfl ?_
      refine z_iload_n dX9_sell_41 rfl rfl ?_
      refine z_iconst (v := 0) dX9_sell_42 (by decide) ?_
      refine z_aload_n dX9_sell_43 rfl rfl ?_
      refine z_iload_n dX9_sell_44 rfl rfl ?_
      refine z_iconst (v := 0) dX9_sell_45 (by decide) ?_
      refine y_callV (as := [_, _]) CX9_get LX9_87 IX9_get VX9_get ⟨rfl, Nat.le_of_ble_eq_true rfl⟩ dX9_sell_46 (k3.1.O hm.o) rfl (Nat.le_of_ble_eq_true rfl) (Nat.le_of_ble_eq_true rfl) (by omega) (r_get (j := t) (w := 0) (by exact hm1) (by omega) (by omega)) rok_i ⟨Nat.le_refl _, Nat.le_refl _, hN1, hS1⟩ ?_
      refine z_eqi (show _ = nI (V (ppx t 0)) by rw [pI_sI, if_pos rfl, if_neg (by omega)]; exact qt) ?_
      refine z_iload_n dX9_sell_49 rfl rfl ?_
      refine z_iadd dX9_sell_50 ?_
      refine z_eqi (nI_add (V (ppx t 0)) m) ?_
      refine z_i2l dX9_sell_51 ?_
      refine z_iconst (v := 0) dX9_sell_52 (by decide) ?_
      refine z_sipush (v := 9999) dX9_sell_53 (by decide) ?_
      refine y_callS (as := [_, _, _]) CX9_cut LX9_306 SX9_cut dX9_sell_56 rfl (Nat.le_of_ble_eq_true rfl) (Nat.le_of_ble_eq_true rfl) (by omega) (r_cutN (n := V (ppx t 0) + m) (t := 9999) (by omega) (by omega)) rok_i ⟨Nat.le_refl _, Nat.le_refl _, hN1, hS1⟩ ?_
      refine y_callV (as := [_, _, _]) CX9_put LX9_79 IX9_put VX9_put ⟨rfl, Nat.le_of_ble_eq_true rfl⟩ dX9_sell_59 (k3.1.O hm.o) rfl (Nat.le_of_ble_eq_true rfl) (Nat.le_of_ble_eq_true rfl) (by omega) (r_put (j := t) (w := 0) (by exact hm1) (by omega) (by omega)) rok_v ⟨Nat.le_refl _, Nat.le_refl _, hN1, hS1⟩ ?_
      refine z_aload_n dX9_sell_62 rfl rfl ?_
      refine z_iload_n dX9_sell_63 rfl rfl ?_
      refine z_iconst (v := 0) dX9_sell_64 (by decide) ?_
      refine z_iload_n dX9_sell_65 rfl rfl ?_
      refine y_callV (as := [_, _, _]) CX9_lay LX9_329 IX9_lay VX9_lay ⟨rfl, Nat.le_of_ble_eq_true rfl⟩ dX9_sell_66 (k3.1.O hm.o) rfl (Nat.le_of_ble_eq_true rfl) (Nat.le_of_ble_eq_true rfl) (by omega) (r_lay (j := k) (w := 0) (by exact hm1) (by omega) (by omega)) rok_v ⟨Nat.le_refl _, Nat.le_refl _, hN1, hS1⟩ ?_
      refine z_aload_n dX9_sell_69 rfl rfl ?_
      refine z_iload_n dX9_sell_70 rfl rfl ?_
      refine z_iconst (v := 2) dX9_sell_71 (by decide) ?_
      refine z_iload_n dX9_sell_72 rfl rfl ?_
      refine y_callV (as := [_, _, _]) CX9_write LX9_335 IX9_write VX9_write ⟨rfl, Nat.le_of_ble_eq_true rfl⟩ dX9_sell_73 (k3.1.O hm.o) rfl (Nat.le_of_ble_eq_true rfl) (Nat.le_of_ble_eq_true rfl) (by omega) w1 rok_v (hg_ss w3.1 hN1 hS1) ?_
      refine z_iconst (v := 1) dX9_sell_76 (by decide) ?_
      refine z_iret dX9_sell_77 ?_
      exact hQ
    · have e := w2.rm (by rw [w4 488 (by omega)]; exact r3.n.2)
      have eg : wSell V k t m = wWrite (up (up (up V (ppx f 0) (V (ppx f 0) - m)) (ppx t 0) (min 9999 (V (ppx t 0) + m))) (pcx k 0) t) k 2 m := by
        unfold wSell wGain wLose
        rw [ef, up_n (show ppx t 0 ≠ ppx f 0 by unfold ppx; omega)]
      rw [eg]
      exact e
  · have eq : mSell s.1 k0 t0 m0 = (0, s.1) := if_neg hc
    rw [eq]
    refine ⟨h, ?_, hr, FM.rf⟩
    intro N S Q hN hS hQ
    refine z_aload_n dX9_sell_0 rfl rfl ?_
    refine z_iload_n dX9_sell_1 rfl rfl ?_
    refine z_iload_n dX9_sell_2 rfl rfl ?_
    refine z_iload_n dX9_sell_3 rfl rfl ?_
    refine y_callV (as := [_, _, _]) CX9_canSell LX9_391 IX9_canSell VX9_canSell ⟨rfl, Nat.le_of_ble_eq_true rfl⟩ dX9_sell_4 hm.o rfl (Nat.le_of_ble_eq_true rfl) (Nat.le_of_ble_eq_true rfl) (by omega) (r_canSell (d := 3) hr0.n.1 hW hn _ _ _ (Nat.le_refl _)) (rok_z bI_01) ⟨Nat.le_refl _, Nat.le_refl _, hN, hS⟩ ?_
    refine z_if_ne dX9_sell_7 rfl (fun c => absurd (bI_eq0.mpr hc) c) (fun _ => ?_)
    refine z_iconst (v := 0) dX9_sell_10 (by decide) ?_
    refine z_iret dX9_sell_11 ?_
    exact hQ

