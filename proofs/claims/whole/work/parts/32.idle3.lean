/-! idle of the class; the book: both sides (walks by program: wip/whole/gen32.py) -/
def opW (W : Fl) (p n : Nat) : Nat := sumF (fun k => if W (21 + (k * 6 + 5)) = 0 ∧ W (21 + (k * 6 + 0)) = p then 1 else 0) n
theorem sumF_cg {f g : Nat → Nat} : ∀ n, (∀ i, i < n → f i = g i) → sumF f n = sumF g n := by
  intro n
  induction n with
  | zero => intro _; rfl
  | succ n ih => intro h; rw [sumF_s, sumF_s, ih (fun i hi => h i (by omega)), h n (by omega)]
theorem orF_cg {f g : Nat → Nat} : ∀ n, (∀ i, i < n → f i = g i) → orF f n = orF g n := by
  intro n
  induction n with
  | zero => intro _; rfl
  | succ n ih => intro h; rw [orF_s, orF_s, ih (fun i hi => h i (by omega)), h n (by omega)]
/-- the prophecies of a world in their bounds -/
def WQ (W : Fl) : Prop := ∀ k, k < W 4 → W (21 + (k * 6 + 0)) ≤ 5 ∧ W (21 + (k * 6 + 1)) ≤ 1 ∧ W (21 + (k * 6 + 2)) < 256 ∧ W (21 + (k * 6 + 3)) ≤ 10098 ∧ W (21 + (k * 6 + 4)) ≤ 999 ∧ W (21 + (k * 6 + 5)) ≤ 2

theorem c_openOf_loop {h : Hp} {d N S w n p : Nat} {W : Fl} {f : Nat → Nat} {Q : Option Value → Hp → Prop} (hw : WoS h w) (hv : WV h w W) (hq : WQ W) (hn : W 4 = n) (hp5 : p ≤ 5) (hf : f = fun k => if W (21 + (k * 6 + 5)) = 0 ∧ W (21 + (k * 6 + 0)) = p then 1 else 0) (hd : 2 ≤ d) (hN : pn h ≤ N) (hS : ps h ≤ S) (hQ : Q (some (.int (nI (sumF f n)))) h) : ∀ r i : Nat, i + r = n → T d N S mX7_openOf 4 [some (.ref w), some (.int (nI p)), some (.int (nI (sumF f i))), some (.int (nI i))] [] h Q := by
  intro r
  induction r with
  | zero =>
    intro i hi
    have e : i = n := by omega
    rw [e]
    have hC : RwC h (w + 3) 6 12 n := by rw [← hn]; exact hv.2.2.2.2.2.1
    have h12 := hC.2.2.2.1
    refine z_iload_n dX7_openOf_4 rfl rfl ?_
    refine z_aload_n dX7_openOf_5 rfl rfl ?_
    refine y_getR FX7_24 dX7_openOf_6 rfl hw.1 hw.2.2.2.1 ?_
    refine y_getI FX7_52 dX7_openOf_9 (Or.inl rfl) hw.2.2.2.2.1.1 ?_
    refine z_eqi (y := nI (n)) hC.2.2.1 ?_
    refine z_icmp_ge dX7_openOf_12 rfl (fun _ => ?_) (fun c => absurd ((nI_leI (by omega) (by omega)).mpr (Nat.le_refl _)) c)
    refine z_iload_n dX7_openOf_45 rfl rfl ?_
    refine z_iret dX7_openOf_46 ?_
    exact hQ
  | succ r ih =>
    intro i hi
    have hC : RwC h (w + 3) 6 12 n := by rw [← hn]; exact hv.2.2.2.2.2.1
    have h12 := hC.2.2.2.1
    have qi := hq i (by omega)
    by_cases q5 : W (21 + (i * 6 + 5)) = 0
    · by_cases q0 : W (21 + (i * 6 + 0)) = p
      · have en : sumF f (i + 1) = sumF f i + 1 := by rw [sumF_s, hf]; simp only [q5, q0]; rfl
        refine z_iload_n dX7_openOf_4 rfl rfl ?_
        refine z_aload_n dX7_openOf_5 rfl rfl ?_
        refine y_getR FX7_24 dX7_openOf_6 rfl hw.1 hw.2.2.2.1 ?_
        refine y_getI FX7_52 dX7_openOf_9 (Or.inl rfl) hw.2.2.2.2.1.1 ?_
        refine z_eqi (y := nI (n)) hC.2.2.1 ?_
        refine z_icmp_ge dX7_openOf_12 rfl (fun c => absurd c (fun q => absurd ((nI_leI (by omega) (by omega)).mp q) (by omega))) (fun _ => ?_)
        refine z_aload_n dX7_openOf_15 rfl rfl ?_
        refine z_iload_n dX7_openOf_16 rfl rfl ?_
        refine y_callV (as := [_]) CX7_isOpen LX7_55 IX7_isOpen VX7_isOpen ⟨rfl, Nat.le_of_ble_eq_true rfl⟩ dX7_openOf_17 hw.1 rfl (Nat.le_of_ble_eq_true rfl) (Nat.le_of_ble_eq_true rfl) (by omega) (c_isOpenN (d := 1) (k := i) (by exact hw) hv (by omega) qi.2.2.2.2.2 (Nat.le_refl _)) (rok_z bI_01) ⟨Nat.le_refl _, Nat.le_refl _, hN, hS⟩ ?_
        refine z_if_eq dX7_openOf_20 rfl (fun c => absurd c (bI_ne0.mpr q5)) (fun _ => ?_)
        refine z_aload_n dX7_openOf_23 rfl rfl ?_
        refine y_getR FX7_24 dX7_openOf_24 rfl hw.1 hw.2.2.2.1 ?_
        refine z_iload_n dX7_openOf_27 rfl rfl ?_
        refine z_iconst (v := 0) dX7_openOf_28 (by decide) ?_
        refine y_callV (as := [_, _]) CX4_get LX7_48 IX4_get VX4_get ⟨rfl, Nat.le_of_ble_eq_true rfl⟩ dX7_openOf_29 hw.2.2.2.2.1.1 rfl (Nat.le_of_ble_eq_true rfl) (Nat.le_of_ble_eq_true rfl) (by omega) (s_get (w := 6) (ms := 12) (i := i) (j := 0) (by exact hw.2.2.2.2.1) hC (by omega) (by omega)) rok_i ⟨Nat.le_refl _, Nat.le_refl _, hN, hS⟩ ?_
        refine z_eqi (hv.c (by omega) (by omega)) ?_
        refine z_iload_n dX7_openOf_32 rfl rfl ?_
        refine z_icmp_ne dX7_openOf_33 rfl (fun c => absurd (by rw [q0]) c) (fun _ => ?_)
        refine z_iinc dX7_openOf_36 rfl (nI_1 _) (Nat.le_of_ble_eq_true rfl) ?_
        refine z_iinc dX7_openOf_39 rfl (nI_1 _) (Nat.le_of_ble_eq_true rfl) ?_
        refine z_goto dX7_openOf_42 rfl ?_
        have hh := ih (i + 1) (by omega)
        rw [en] at hh
        exact hh
      · have en : sumF f (i + 1) = sumF f i := by rw [sumF_s, hf]; simp only [q0]; simp
        refine z_iload_n dX7_openOf_4 rfl rfl ?_
        refine z_aload_n dX7_openOf_5 rfl rfl ?_
        refine y_getR FX7_24 dX7_openOf_6 rfl hw.1 hw.2.2.2.1 ?_
        refine y_getI FX7_52 dX7_openOf_9 (Or.inl rfl) hw.2.2.2.2.1.1 ?_
        refine z_eqi (y := nI (n)) hC.2.2.1 ?_
        refine z_icmp_ge dX7_openOf_12 rfl (fun c => absurd c (fun q => absurd ((nI_leI (by omega) (by omega)).mp q) (by omega))) (fun _ => ?_)
        refine z_aload_n dX7_openOf_15 rfl rfl ?_
        refine z_iload_n dX7_openOf_16 rfl rfl ?_
        refine y_callV (as := [_]) CX7_isOpen LX7_55 IX7_isOpen VX7_isOpen ⟨rfl, Nat.le_of_ble_eq_true rfl⟩ dX7_openOf_17 hw.1 rfl (Nat.le_of_ble_eq_true rfl) (Nat.le_of_ble_eq_true rfl) (by omega) (c_isOpenN (d := 1) (k := i) (by exact hw) hv (by omega) qi.2.2.2.2.2 (Nat.le_refl _)) (rok_z bI_01) ⟨Nat.le_refl _, Nat.le_refl _, hN, hS⟩ ?_
        refine z_if_eq dX7_openOf_20 rfl (fun c => absurd c (bI_ne0.mpr q5)) (fun _ => ?_)
        refine z_aload_n dX7_openOf_23 rfl rfl ?_
        refine y_getR FX7_24 dX7_openOf_24 rfl hw.1 hw.2.2.2.1 ?_
        refine z_iload_n dX7_openOf_27 rfl rfl ?_
        refine z_iconst (v := 0) dX7_openOf_28 (by decide) ?_
        refine y_callV (as := [_, _]) CX4_get LX7_48 IX4_get VX4_get ⟨rfl, Nat.le_of_ble_eq_true rfl⟩ dX7_openOf_29 hw.2.2.2.2.1.1 rfl (Nat.le_of_ble_eq_true rfl) (Nat.le_of_ble_eq_true rfl) (by omega) (s_get (w := 6) (ms := 12) (i := i) (j := 0) (by exact hw.2.2.2.2.1) hC (by omega) (by omega)) rok_i ⟨Nat.le_refl _, Nat.le_refl _, hN, hS⟩ ?_
        refine z_eqi (hv.c (by omega) (by omega)) ?_
        refine z_iload_n dX7_openOf_32 rfl rfl ?_
        refine z_icmp_ne dX7_openOf_33 rfl (fun _ => ?_) (fun c => absurd c (fun q => q0 ((nI_eq (by omega) (by omega)).mp q)))
        refine z_iinc dX7_openOf_39 rfl (nI_1 _) (Nat.le_of_ble_eq_true rfl) ?_
        refine z_goto dX7_openOf_42 rfl ?_
        have hh := ih (i + 1) (by omega)
        rw [en] at hh
        exact hh
    · have en : sumF f (i + 1) = sumF f i := by rw [sumF_s, hf]; simp only [q5]; simp
      refine z_iload_n dX7_openOf_4 rfl rfl ?_
      refine z_aload_n dX7_openOf_5 rfl rfl ?_
      refine y_getR FX7_24 dX7_openOf_6 rfl hw.1 hw.2.2.2.1 ?_
      refine y_getI FX7_52 dX7_openOf_9 (Or.inl rfl) hw.2.2.2.2.1.1 ?_
      refine z_eqi (y := nI (n)) hC.2.2.1 ?_
      refine z_icmp_ge dX7_openOf_12 rfl (fun c => absurd c (fun q => absurd ((nI_leI (by omega) (by omega)).mp q) (by omega))) (fun _ => ?_)
      refine z_aload_n dX7_openOf_15 rfl rfl ?_
      refine z_iload_n dX7_openOf_16 rfl rfl ?_
      refine y_callV (as := [_]) CX7_isOpen LX7_55 IX7_isOpen VX7_isOpen ⟨rfl, Nat.le_of_ble_eq_true rfl⟩ dX7_openOf_17 hw.1 rfl (Nat.le_of_ble_eq_true rfl) (Nat.le_of_ble_eq_true rfl) (by omega) (c_isOpenN (d := 1) (k := i) (by exact hw) hv (by omega) qi.2.2.2.2.2 (Nat.le_refl _)) (rok_z bI_01) ⟨Nat.le_refl _, Nat.le_refl _, hN, hS⟩ ?_
      refine z_if_eq dX7_openOf_20 rfl (fun _ => ?_) (fun c => absurd (bI_eq0.mpr q5) c)
      refine z_iinc dX7_openOf_39 rfl (nI_1 _) (Nat.le_of_ble_eq_true rfl) ?_
      refine z_goto dX7_openOf_42 rfl ?_
      have hh := ih (i + 1) (by omega)
      rw [en] at hh
      exact hh

theorem c_openOf {h : Hp} {d w : Nat} {W : Fl} (hw : WoS h w) (hv : WV h w W) (hq : WQ W) {p : Nat} (hp5 : p ≤ 5) (hd : 2 ≤ d) : Sp d mX7_openOf [.ref w, .int (nI p)] h (some (.int (nI (opW W p (W 4))))) h := by
  intro N S Q hN hS hQ
  refine z_iconst (v := 0) dX7_openOf_0 (by decide) ?_
  refine z_istore_n dX7_openOf_1 rfl (Nat.le_of_ble_eq_true rfl) ?_
  refine z_iconst (v := 0) dX7_openOf_2 (by decide) ?_
  refine z_istore_n dX7_openOf_3 rfl (Nat.le_of_ble_eq_true rfl) ?_
  exact c_openOf_loop hw hv hq rfl hp5 rfl hd hN hS hQ (W 4) 0 (by omega)

theorem IQ.w {a : Fl} (h : IQ a) (h0 : a 0 ≤ 8) (h1 : a 1 ≤ 5) (h12 : a 11 ≤ 12) : WQ (snap a) := by
  intro k hk
  rw [snap_4] at hk
  obtain ⟨q0, q1, q2, q3, q4, q5, q6⟩ := h k hk
  have hp := pow_le8 h0
  rw [snap_c (by omega), snap_c (by omega), snap_c (by omega), snap_c (by omega), snap_c (by omega), snap_c (by omega), show 38 + (k * 6 + 0) = 38 + 6 * k + 0 by omega, show 38 + (k * 6 + 1) = 38 + 6 * k + 1 by omega, show 38 + (k * 6 + 2) = 38 + 6 * k + 2 by omega, show 38 + (k * 6 + 3) = 38 + 6 * k + 3 by omega, show 38 + (k * 6 + 4) = 38 + 6 * k + 4 by omega, show 38 + (k * 6 + 5) = 38 + 6 * k + 5 by omega]
  exact ⟨by omega, q1, by omega, q4, q5, q6⟩
theorem opW_snap {a : Fl} {p : Nat} (h12 : a 11 ≤ 12) : opW (snap a) p (snap a 4) = opn a p (a 11) := by
  unfold opW opn
  rw [snap_4]
  refine sumF_cg _ (fun k hk => ?_)
  rw [snap_c (by omega), snap_c (by omega), show 38 + (k * 6 + 0) = 38 + 6 * k + 0 by omega, show 38 + (k * 6 + 5) = 38 + 6 * k + 5 by omega]

theorem c_idle_loop {h : Hp} {d N S n : Nat} {a : Fl} {tx : Nat → Nat → Prop} {f : Nat → Nat} {Q : Option Value → Hp → Prop} (h8 : IO h 8 8) (hx0 : pR h 8 0 = some 9) (hs : MkS h 9) (hv : MV h 9 a tx) (hic : IC a) (hq : IQ a) (hn : a 1 = n) (hf : f = fun p => if opn a p (a 11) = 0 then 2 ^ p else 0) (hd : 3 ≤ d) (hN : pn h ≤ N) (hS : ps h ≤ S) (hQ : Q (some (.int (nI (orF f n)))) h) : ∀ r i : Nat, i + r = n → T d N S mX8_idle 4 [some (.ref 8), some (.int (nI (orF f i))), some (.int (nI i))] [] h Q := by
  intro r
  induction r with
  | zero =>
    intro i hi
    have e : i = n := by omega
    rw [e]
    have hC : RwC h 11 3 5 n := by rw [← hn]; exact hv.1.2.2.2.1
    have h5 : n ≤ 5 := hC.2.2.2.1
    have h12 := hic.2.2.2.2.2.2.2.2.2.2.2.1
    have hWQ := hq.w hic.1 hic.2.1 h12
    refine z_iload_n dX8_idle_4 rfl rfl ?_
    refine z_aload_n dX8_idle_5 rfl rfl ?_
    refine y_getR FX8_10 dX8_idle_6 rfl h8 hx0 ?_
    refine y_getR FX8_79 dX8_idle_9 rfl hs.o hs.f0 ?_
    refine y_getR FX8_82 dX8_idle_12 rfl hs.now.1 hs.now.2.1 ?_
    refine y_getI FX8_130 dX8_idle_15 (Or.inl rfl) hs.now.2.2.1.1 ?_
    refine z_eqi (y := nI (n)) hC.2.2.1 ?_
    refine z_icmp_ge dX8_idle_18 rfl (fun _ => ?_) (fun c => absurd ((nI_leI (by omega) (by omega)).mpr (Nat.le_refl _)) c)
    refine z_iload_n dX8_idle_52 rfl rfl ?_
    refine z_iret dX8_idle_53 ?_
    exact hQ
  | succ r ih =>
    intro i hi
    have hC : RwC h 11 3 5 n := by rw [← hn]; exact hv.1.2.2.2.1
    have h5 : n ≤ 5 := hC.2.2.2.1
    have h12 := hic.2.2.2.2.2.2.2.2.2.2.2.1
    have hWQ := hq.w hic.1 hic.2.1 h12
    have hle := opn_le (a := a) (p := i) (n := a 11)
    by_cases q : opn a i (a 11) = 0
    · have en : orF f (i + 1) = orF f i ||| 2 ^ i := by rw [orF_s, hf]; simp [q]
      refine z_iload_n dX8_idle_4 rfl rfl ?_
      refine z_aload_n dX8_idle_5 rfl rfl ?_
      refine y_getR FX8_10 dX8_idle_6 rfl h8 hx0 ?_
      refine y_getR FX8_79 dX8_idle_9 rfl hs.o hs.f0 ?_
      refine y_getR FX8_82 dX8_idle_12 rfl hs.now.1 hs.now.2.1 ?_
      refine y_getI FX8_130 dX8_idle_15 (Or.inl rfl) hs.now.2.2.1.1 ?_
      refine z_eqi (y := nI (n)) hC.2.2.1 ?_
      refine z_icmp_ge dX8_idle_18 rfl (fun c => absurd c (fun q => absurd ((nI_leI (by omega) (by omega)).mp q) (by omega))) (fun _ => ?_)
      refine z_iload_n dX8_idle_21 rfl rfl ?_
      refine z_aload_n dX8_idle_22 rfl rfl ?_
      refine y_getR FX8_10 dX8_idle_23 rfl h8 hx0 ?_
      refine y_getR FX8_79 dX8_idle_26 rfl hs.o hs.f0 ?_
      refine z_iload_n dX8_idle_29 rfl rfl ?_
      refine y_callV (as := [_]) CX7_openOf LX8_260 IX7_openOf VX7_openOf ⟨rfl, Nat.le_of_ble_eq_true rfl⟩ dX8_idle_30 hs.now.1 rfl (Nat.le_of_ble_eq_true rfl) (Nat.le_of_ble_eq_true rfl) (by omega) (c_openOf (d := 2) (w := 10) (p := i) (by exact (by exact hs.now)) hv.1 hWQ (by omega) (Nat.le_refl _)) rok_i ⟨Nat.le_refl _, Nat.le_refl _, hN, hS⟩ ?_
      rw [opW_snap h12]
      refine z_if_ne dX8_idle_33 rfl (fun c => absurd (by rw [q]; rfl) c) (fun _ => ?_)
      refine z_iload_n dX8_idle_36 rfl rfl ?_
      refine y_callS (as := [_]) CX8_bit LX8_163 SX8_bit dX8_idle_37 rfl (Nat.le_of_ble_eq_true rfl) (Nat.le_of_ble_eq_true rfl) (by omega) (s_bit _) rok_i ⟨Nat.le_refl _, Nat.le_refl _, hN, hS⟩ ?_
      refine z_eqi (nI_bit (by omega)) ?_
      refine z_goto dX8_idle_40 rfl ?_
      refine z_ior dX8_idle_44 ?_
      refine z_eqi (nI_or _ _) ?_
      refine z_istore_n dX8_idle_45 rfl (Nat.le_of_ble_eq_true rfl) ?_
      refine z_iinc dX8_idle_46 rfl (nI_1 _) (Nat.le_of_ble_eq_true rfl) ?_
      refine z_goto dX8_idle_49 rfl ?_
      have hh := ih (i + 1) (by omega)
      rw [en] at hh
      exact hh
    · have en : orF f (i + 1) = orF f i ||| 0 := by rw [orF_s, hf]; simp [q]
      refine z_iload_n dX8_idle_4 rfl rfl ?_
      refine z_aload_n dX8_idle_5 rfl rfl ?_
      refine y_getR FX8_10 dX8_idle_6 rfl h8 hx0 ?_
      refine y_getR FX8_79 dX8_idle_9 rfl hs.o hs.f0 ?_
      refine y_getR FX8_82 dX8_idle_12 rfl hs.now.1 hs.now.2.1 ?_
      refine y_getI FX8_130 dX8_idle_15 (Or.inl rfl) hs.now.2.2.1.1 ?_
      refine z_eqi (y := nI (n)) hC.2.2.1 ?_
      refine z_icmp_ge dX8_idle_18 rfl (fun c => absurd c (fun q => absurd ((nI_leI (by omega) (by omega)).mp q) (by omega))) (fun _ => ?_)
      refine z_iload_n dX8_idle_21 rfl rfl ?_
      refine z_aload_n dX8_idle_22 rfl rfl ?_
      refine y_getR FX8_10 dX8_idle_23 rfl h8 hx0 ?_
      refine y_getR FX8_79 dX8_idle_26 rfl hs.o hs.f0 ?_
      refine z_iload_n dX8_idle_29 rfl rfl ?_
      refine y_callV (as := [_]) CX7_openOf LX8_260 IX7_openOf VX7_openOf ⟨rfl, Nat.le_of_ble_eq_true rfl⟩ dX8_idle_30 hs.now.1 rfl (Nat.le_of_ble_eq_true rfl) (Nat.le_of_ble_eq_true rfl) (by omega) (c_openOf (d := 2) (w := 10) (p := i) (by exact (by exact hs.now)) hv.1 hWQ (by omega) (Nat.le_refl _)) rok_i ⟨Nat.le_refl _, Nat.le_refl _, hN, hS⟩ ?_
      rw [opW_snap h12]
      refine z_if_ne dX8_idle_33 rfl (fun _ => ?_) (fun c => absurd c (fun c => q ((nI_eq (b := 0) (by omega) (by omega)).mp c)))
      refine z_iconst (v := 0) dX8_idle_43 (by decide) ?_
      refine z_ior dX8_idle_44 ?_
      refine z_eqi (nI_or _ 0) ?_
      refine z_istore_n dX8_idle_45 rfl (Nat.le_of_ble_eq_true rfl) ?_
      refine z_iinc dX8_idle_46 rfl (nI_1 _) (Nat.le_of_ble_eq_true rfl) ?_
      refine z_goto dX8_idle_49 rfl ?_
      have hh := ih (i + 1) (by omega)
      rw [en] at hh
      exact hh

theorem C_idle {h : Hp} {d : Nat} {a : Fl} {tx : Nat → Nat → Prop} (h8 : IO h 8 8) (hx0 : pR h 8 0 = some 9) (hs : MkS h 9) (hv : MV h 9 a tx) (hi : IC a) (hp : IP a) (hq : IQ a) (hd : 3 ≤ d) : Sp d mX8_idle [.ref 8] h (some (.int (mIdle a))) h := by
  intro N S Q hN hS hQ
  refine z_iconst (v := 0) dX8_idle_0 (by decide) ?_
  refine z_istore_n dX8_idle_1 rfl (Nat.le_of_ble_eq_true rfl) ?_
  refine z_iconst (v := 0) dX8_idle_2 (by decide) ?_
  refine z_istore_n dX8_idle_3 rfl (Nat.le_of_ble_eq_true rfl) ?_
  exact c_idle_loop h8 hx0 hs hv hi hq rfl rfl hd hN hS hQ (a 1) 0 (by omega)

