/-! idle: both sides; the worlds of the class (walks by program: wip/whole/gen31.py) -/
theorem r_idle_loop {s : Ms} {h : Hp} {d N S n : Nat} {f : Nat → Nat} {Q : Option Value → Hp → Prop} (hr : RM s h) (hv : IC s.1) (hp : IP s.1) (hq : IQ s.1) (hn : s.1 1 = n) (hf : f = fun p => if opn s.1 p (s.1 11) = 0 then 2 ^ p else 0) (hd : 4 ≤ d) (hN : pn h ≤ N) (hS : ps h ≤ S) (hQ : Q (some (.int (nI (orF f n)))) h) : ∀ r i : Nat, i + r = n → T d N S mX9_idle 4 [some (.ref 488), some (.int (nI (orF f i))), some (.int (nI i))] [] h Q := by
  intro r
  induction r with
  | zero =>
    intro i hi
    have e : i = n := by omega
    rw [e]
    have hm := hr.m
    have e1 : pI h 489 1 = nI n := by rw [← hn]; exact hr.at (by omega) (by omega)
    have h5 : n ≤ 5 := by rw [← hn]; exact hv.2.1
    have h12 := hv.2.2.2.2.2.2.2.2.2.2.2.1
    refine z_iload_n dX9_idle_4 rfl rfl ?_
    refine z_aload_n dX9_idle_5 rfl rfl ?_
    refine y_getR FX9_7 dX9_idle_6 rfl hm.o hm.f_a ?_
    refine z_iconst (v := 1) dX9_idle_9 (by decide) ?_
    refine y_ialN (1) dX9_idle_10 hm.A_a (Nat.le_of_ble_eq_true rfl) (by first | rfl | (simp only [← nI_add, ← pk_mul]; rfl)) (by omega) ?_
    refine z_eqi (y := nI (n)) e1 ?_
    refine z_icmp_ge dX9_idle_11 rfl (fun _ => ?_) (fun c => absurd ((nI_leI (by omega) (by omega)).mpr (Nat.le_refl _)) c)
    refine z_iload_n dX9_idle_38 rfl rfl ?_
    refine z_iret dX9_idle_39 ?_
    exact hQ
  | succ r ih =>
    intro i hi
    have hm := hr.m
    have e1 : pI h 489 1 = nI n := by rw [← hn]; exact hr.at (by omega) (by omega)
    have h5 : n ≤ 5 := by rw [← hn]; exact hv.2.1
    have h12 := hv.2.2.2.2.2.2.2.2.2.2.2.1
    have hle := opn_le (a := s.1) (p := i) (n := s.1 11)
    by_cases q : opn s.1 i (s.1 11) = 0
    · have en : orF f (i + 1) = orF f i ||| 2 ^ i := by rw [orF_s, hf]; simp [q]
      refine z_iload_n dX9_idle_4 rfl rfl ?_
      refine z_aload_n dX9_idle_5 rfl rfl ?_
      refine y_getR FX9_7 dX9_idle_6 rfl hm.o hm.f_a ?_
      refine z_iconst (v := 1) dX9_idle_9 (by decide) ?_
      refine y_ialN (1) dX9_idle_10 hm.A_a (Nat.le_of_ble_eq_true rfl) (by first | rfl | (simp only [← nI_add, ← pk_mul]; rfl)) (by omega) ?_
      refine z_eqi (y := nI (n)) e1 ?_
      refine z_icmp_ge dX9_idle_11 rfl (fun c => absurd c (fun q => absurd ((nI_leI (by omega) (by omega)).mp q) (by omega))) (fun _ => ?_)
      refine z_iload_n dX9_idle_14 rfl rfl ?_
      refine z_aload_n dX9_idle_15 rfl rfl ?_
      refine z_iload_n dX9_idle_16 rfl rfl ?_
      refine y_callV (as := [_]) CX9_openOf LX9_425 IX9_openOf VX9_openOf ⟨rfl, Nat.le_of_ble_eq_true rfl⟩ dX9_idle_17 hm.o rfl (Nat.le_of_ble_eq_true rfl) (Nat.le_of_ble_eq_true rfl) (by omega) (r_openOf (d := 3) (p := i) hr hv hp hq (by omega) (Nat.le_refl _)) rok_i ⟨Nat.le_refl _, Nat.le_refl _, hN, hS⟩ ?_
      refine z_if_ne dX9_idle_20 rfl (fun c => absurd (by rw [q]; rfl) c) (fun _ => ?_)
      refine z_iconst (v := 1) dX9_idle_23 (by decide) ?_
      refine z_iload_n dX9_idle_24 rfl rfl ?_
      refine z_ishl dX9_idle_25 ?_
      refine z_eqi (nI_bit (by omega)) ?_
      refine z_goto dX9_idle_26 rfl ?_
      refine z_ior dX9_idle_30 ?_
      refine z_eqi (nI_or _ _) ?_
      refine z_istore_n dX9_idle_31 rfl (Nat.le_of_ble_eq_true rfl) ?_
      refine z_iinc dX9_idle_32 rfl (nI_1 _) (Nat.le_of_ble_eq_true rfl) ?_
      refine z_goto dX9_idle_35 rfl ?_
      have hh := ih (i + 1) (by omega)
      rw [en] at hh
      exact hh
    · have en : orF f (i + 1) = orF f i ||| 0 := by rw [orF_s, hf]; simp [q]
      refine z_iload_n dX9_idle_4 rfl rfl ?_
      refine z_aload_n dX9_idle_5 rfl rfl ?_
      refine y_getR FX9_7 dX9_idle_6 rfl hm.o hm.f_a ?_
      refine z_iconst (v := 1) dX9_idle_9 (by decide) ?_
      refine y_ialN (1) dX9_idle_10 hm.A_a (Nat.le_of_ble_eq_true rfl) (by first | rfl | (simp only [← nI_add, ← pk_mul]; rfl)) (by omega) ?_
      refine z_eqi (y := nI (n)) e1 ?_
      refine z_icmp_ge dX9_idle_11 rfl (fun c => absurd c (fun q => absurd ((nI_leI (by omega) (by omega)).mp q) (by omega))) (fun _ => ?_)
      refine z_iload_n dX9_idle_14 rfl rfl ?_
      refine z_aload_n dX9_idle_15 rfl rfl ?_
      refine z_iload_n dX9_idle_16 rfl rfl ?_
      refine y_callV (as := [_]) CX9_openOf LX9_425 IX9_openOf VX9_openOf ⟨rfl, Nat.le_of_ble_eq_true rfl⟩ dX9_idle_17 hm.o rfl (Nat.le_of_ble_eq_true rfl) (Nat.le_of_ble_eq_true rfl) (by omega) (r_openOf (d := 3) (p := i) hr hv hp hq (by omega) (Nat.le_refl _)) rok_i ⟨Nat.le_refl _, Nat.le_refl _, hN, hS⟩ ?_
      refine z_if_ne dX9_idle_20 rfl (fun _ => ?_) (fun c => absurd c (fun c => q ((nI_eq (b := 0) (by omega) (by omega)).mp c)))
      refine z_iconst (v := 0) dX9_idle_29 (by decide) ?_
      refine z_ior dX9_idle_30 ?_
      refine z_eqi (nI_or _ 0) ?_
      refine z_istore_n dX9_idle_31 rfl (Nat.le_of_ble_eq_true rfl) ?_
      refine z_iinc dX9_idle_32 rfl (nI_1 _) (Nat.le_of_ble_eq_true rfl) ?_
      refine z_goto dX9_idle_35 rfl ?_
      have hh := ih (i + 1) (by omega)
      rw [en] at hh
      exact hh

theorem R_idle {s : Ms} {h : Hp} {d : Nat} (hr : RM s h) (hv : IC s.1) (hp : IP s.1) (hq : IQ s.1) (hd : 4 ≤ d) : Sp d mX9_idle [.ref 488] h (some (.int (mIdle s.1))) h := by
  intro N S Q hN hS hQ
  have hm := hr.m
  refine z_iconst (v := 0) dX9_idle_0 (by decide) ?_
  refine z_istore_n dX9_idle_1 rfl (Nat.le_of_ble_eq_true rfl) ?_
  refine z_iconst (v := 0) dX9_idle_2 (by decide) ?_
  refine z_istore_n dX9_idle_3 rfl (Nat.le_of_ble_eq_true rfl) ?_
  exact r_idle_loop hr hv hp hq rfl rfl hd hN hS hQ (s.1 1) 0 (by omega)

theorem WV.c {h : Hp} {w k j : Nat} {W : Fl} (hv : WV h w W) (hk : k < W 4) (hj : j < 6) : pI h (w + 3 + 1) (k * 6 + j) = nI (W (21 + (k * 6 + j))) := hv.2.2.2.2.2.2.1 (k * 6 + j) (by have := Nat.mul_le_mul_right 6 (show k + 1 ≤ W 4 by omega); rw [Nat.add_mul] at this; omega)

theorem c_isOpenN {h : Hp} {d w : Nat} {W : Fl} (hw : WoS h w) (hv : WV h w W) {k : Nat} (hk : k < W 4) (hb : W (21 + (k * 6 + 5)) ≤ 2) (hd : 1 ≤ d) : Sp d mX7_isOpen [.ref w, .int (nI k)] h (some (.int (bI (W (21 + (k * 6 + 5)) = 0)))) h := by
  intro N S Q hN hS hQ
  have hC := hv.2.2.2.2.2.1
  have h12 := hC.2.2.2.1
  refine z_aload_n dX7_isOpen_0 rfl rfl ?_
  refine y_getR FX7_24 dX7_isOpen_1 rfl hw.1 hw.2.2.2.1 ?_
  refine z_iload_n dX7_isOpen_4 rfl rfl ?_
  refine y_callV (as := [_]) CX4_has LX7_44 IX4_has VX4_has ⟨rfl, Nat.le_of_ble_eq_true rfl⟩ dX7_isOpen_5 hw.2.2.2.2.1.1 rfl (Nat.le_of_ble_eq_true rfl) (Nat.le_of_ble_eq_true rfl) (by omega) (s_has (w := 6) (ms := 12) (by exact hw.2.2.2.2.1) hC _) (rok_z bI_01) ⟨Nat.le_refl _, Nat.le_refl _, hN, hS⟩ ?_
  refine z_if_eq dX7_isOpen_8 rfl (fun c => absurd c (bI_ne0.mpr ((vin_nI (by omega) (by omega)).mpr hk))) (fun _ => ?_)
  refine z_aload_n dX7_isOpen_11 rfl rfl ?_
  refine y_getR FX7_24 dX7_isOpen_12 rfl hw.1 hw.2.2.2.1 ?_
  refine z_iload_n dX7_isOpen_15 rfl rfl ?_
  refine z_iconst (v := 5) dX7_isOpen_16 (by decide) ?_
  refine y_callV (as := [_, _]) CX4_get LX7_48 IX4_get VX4_get ⟨rfl, Nat.le_of_ble_eq_true rfl⟩ dX7_isOpen_17 hw.2.2.2.2.1.1 rfl (Nat.le_of_ble_eq_true rfl) (Nat.le_of_ble_eq_true rfl) (by omega) (s_get (w := 6) (ms := 12) (i := k) (j := 5) (by exact hw.2.2.2.2.1) hC hk (by omega)) rok_i ⟨Nat.le_refl _, Nat.le_refl _, hN, hS⟩ ?_
  refine z_eqi (hv.c hk (by omega)) ?_
  refine z_if_ne dX7_isOpen_20 rfl (fun c20 => ?_) (fun c20 => ?_)
  · -- to 27
    refine z_iconst (v := 0) dX7_isOpen_27 (by decide) ?_
    refine z_iret dX7_isOpen_28 ?_
    first
      | (rw [bI_t ((nI_eq (b := 0) (by omega) (by omega)).mp c20)] at hQ; exact hQ)
      | (rw [bI_f (fun q => c20 (by rw [q]; rfl))] at hQ; exact hQ)
  · -- on
    refine z_iconst (v := 1) dX7_isOpen_23 (by decide) ?_
    refine z_goto dX7_isOpen_24 rfl ?_
    refine z_iret dX7_isOpen_28 ?_
    first
      | (rw [bI_t ((nI_eq (b := 0) (by omega) (by omega)).mp c20)] at hQ; exact hQ)
      | (rw [bI_f (fun q => c20 (by rw [q]; rfl))] at hQ; exact hQ)

theorem c_isOpen0 {h : Hp} {d w : Nat} {W : Fl} (hw : WoS h w) (hv : WV h w W) {x : Int32} (hx : ¬ vin x (W 4)) (hd : 1 ≤ d) : Sp d mX7_isOpen [.ref w, .int x] h (some (.int 0)) h := by
  intro N S Q hN hS hQ
  have hC := hv.2.2.2.2.2.1
  refine z_aload_n dX7_isOpen_0 rfl rfl ?_
  refine y_getR FX7_24 dX7_isOpen_1 rfl hw.1 hw.2.2.2.1 ?_
  refine z_iload_n dX7_isOpen_4 rfl rfl ?_
  refine y_callV (as := [_]) CX4_has LX7_44 IX4_has VX4_has ⟨rfl, Nat.le_of_ble_eq_true rfl⟩ dX7_isOpen_5 hw.2.2.2.2.1.1 rfl (Nat.le_of_ble_eq_true rfl) (Nat.le_of_ble_eq_true rfl) (by omega) (s_has (w := 6) (ms := 12) (by exact hw.2.2.2.2.1) hC _) (rok_z bI_01) ⟨Nat.le_refl _, Nat.le_refl _, hN, hS⟩ ?_
  refine z_if_eq dX7_isOpen_8 rfl (fun _ => ?_) (fun c => absurd (bI_eq0.mpr hx) c)
  refine z_iconst (v := 0) dX7_isOpen_27 (by decide) ?_
  refine z_iret dX7_isOpen_28 ?_
  exact hQ

