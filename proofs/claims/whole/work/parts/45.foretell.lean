/-! foretell: both sides (walks by program: wip/whole/gen45.py) -/
def wFore (W : Fl) (p al f dd fee : Nat) : Fl := wGain (up (up (up (up (up (up (up W (pcx (W 4) 0) p) (pcx (W 4) 1) al) (pcx (W 4) 2) f) (pcx (W 4) 3) (W 1 + dd)) (pcx (W 4) 4) fee) (pcx (W 4) 5) 0) 4 (W 4 + 1)) p fee
def mFore (a : Fl) (p al f dd fee : Nat) : Fl := uns a (wFore (snap a) p al f dd fee)
abbrev okF (a : Fl) (p : Int32) : Prop := vin p (a 1) ∧ a (13 + 5 * nn p + 2) = 0 ∧ a 11 < 12
abbrev okG (a : Fl) (f d e : Int32) : Prop := (1 ≤ f ∧ f < nI (2 ^ a 0)) ∧ inr d 1 99 ∧ inr e 0 999
def mForetell (a : Fl) (p : Int32) (al : Nat) (f d e : Int32) : Int32 × Fl := if okF a p ∧ okG a f d e then (nI (a 11), mFore (mKeep a) (nn p) al (nn f) (nn d) (nn e)) else (-1, a)

theorem r_canForetell {s : Ms} {h : Hp} {d : Nat} (hr : RM s h) (hv : IC s.1) (hp : IP s.1) (p : Int32) (hd : 2 ≤ d) : Sp d mX9_canForetell [.ref 488, .int p] h (some (.int (bI (okF s.1 p)))) h := by
  intro N S Q hN hS hQ
  have hm := hr.m
  have v1 := hv.2.1
  have v11 := hv.2.2.2.2.2.2.2.2.2.2.2.1
  have e1 : pI h 489 1 = nI (s.1 1) := hr.at (by omega) (by omega)
  by_cases hin : vin p (s.1 1)
  · obtain ⟨j, hj, rfl⟩ := vin_of (by omega) hin
    have hb := (hp j hj).2.2.1
    refine z_aload_n dX9_canForetell_0 rfl rfl ?_
    refine z_iload_n dX9_canForetell_1 rfl rfl ?_
    refine y_callV (as := [_]) CX9_isProphet LX9_365 IX9_isProphet VX9_isProphet ⟨rfl, Nat.le_of_ble_eq_true rfl⟩ dX9_canForetell_2 hm.o rfl (Nat.le_of_ble_eq_true rfl) (Nat.le_of_ble_eq_true rfl) (by omega) (r_isProphet (d := 1) (by exact (by exact hm)) e1 (by omega) _ (Nat.le_refl _)) (rok_z bI_01) ⟨Nat.le_refl _, Nat.le_refl _, hN, hS⟩ ?_
    refine z_if_eq dX9_canForetell_5 rfl (fun c => absurd c (bI_ne0.mpr hin)) (fun _ => ?_)
    refine z_aload_n dX9_canForetell_8 rfl rfl ?_
    refine z_iload_n dX9_canForetell_9 rfl rfl ?_
    refine z_iconst (v := 2) dX9_canForetell_10 (by decide) ?_
    refine y_callV (as := [_, _]) CX9_get LX9_87 IX9_get VX9_get ⟨rfl, Nat.le_of_ble_eq_true rfl⟩ dX9_canForetell_11 hm.o rfl (Nat.le_of_ble_eq_true rfl) (Nat.le_of_ble_eq_true rfl) (by omega) (r_get (j := j) (w := 2) (by exact (by exact hm)) (by omega) (by omega)) rok_i ⟨Nat.le_refl _, Nat.le_refl _, hN, hS⟩ ?_
    refine z_eqi (show _ = nI (s.1 (13 + 5 * j + 2)) from hr.at (by omega) (by omega)) ?_
    refine z_if_ne dX9_canForetell_14 rfl (fun c14 => ?_) (fun c14 => ?_)
    · -- to 33
      refine z_iconst (v := 0) dX9_canForetell_33 (by decide) ?_
      refine z_iret dX9_canForetell_34 ?_
      first
        | (rw [bI_t ⟨hin, by rw [nn_nI (by omega)]; exact (nI_eq (b := 0) (by omega) (by omega)).mp (Classical.not_not.mp c14), Nat.lt_of_not_le (fun q => c26 ((nI_leI (a := 12) (by omega) (by omega)).mpr q))⟩] at hQ; exact hQ)
        | (rw [bI_t ⟨hin, by rw [nn_nI (by omega)]; exact (nI_eq (b := 0) (by omega) (by omega)).mp c14, Nat.lt_of_not_le (fun q => c26 ((nI_leI (a := 12) (by omega) (by omega)).mpr q))⟩] at hQ; exact hQ)
        | (rw [bI_f (fun q => absurd q.2.2 (Nat.not_lt.mpr ((nI_leI (a := 12) (by omega) (by omega)).mp c26)))] at hQ; exact hQ)
        | (rw [bI_f (fun q => c14 (by have := q.2.1; rw [nn_nI (by omega)] at this; rw [this]; rfl))] at hQ; exact hQ)
    · -- on
      refine z_aload_n dX9_canForetell_17 rfl rfl ?_
      refine y_getR FX9_7 dX9_canForetell_18 rfl hm.o hm.f_a ?_
      refine z_bipush (v := 11) dX9_canForetell_21 (by decide) ?_
      refine y_ialN (11) dX9_canForetell_23 hm.A_a (Nat.le_of_ble_eq_true rfl) (rfl) (by omega) ?_
      refine z_eqi (show _ = nI (s.1 11) from hr.at (by omega) (by omega)) ?_
      refine z_bipush (v := 12) dX9_canForetell_24 (by decide) ?_
      refine z_icmp_ge dX9_canForetell_26 rfl (fun c26 => ?_) (fun c26 => ?_)
      · -- to 33
        refine z_iconst (v := 0) dX9_canForetell_33 (by decide) ?_
        refine z_iret dX9_canForetell_34 ?_
        first
          | (rw [bI_t ⟨hin, by rw [nn_nI (by omega)]; exact (nI_eq (b := 0) (by omega) (by omega)).mp (Classical.not_not.mp c14), Nat.lt_of_not_le (fun q => c26 ((nI_leI (a := 12) (by omega) (by omega)).mpr q))⟩] at hQ; exact hQ)
          | (rw [bI_t ⟨hin, by rw [nn_nI (by omega)]; exact (nI_eq (b := 0) (by omega) (by omega)).mp c14, Nat.lt_of_not_le (fun q => c26 ((nI_leI (a := 12) (by omega) (by omega)).mpr q))⟩] at hQ; exact hQ)
          | (rw [bI_f (fun q => absurd q.2.2 (Nat.not_lt.mpr ((nI_leI (a := 12) (by omega) (by omega)).mp c26)))] at hQ; exact hQ)
          | (rw [bI_f (fun q => c14 (by have := q.2.1; rw [nn_nI (by omega)] at this; rw [this]; rfl))] at hQ; exact hQ)
      · -- on
        refine z_iconst (v := 1) dX9_canForetell_29 (by decide) ?_
        refine z_goto dX9_canForetell_30 rfl ?_
        refine z_iret dX9_canForetell_34 ?_
        first
          | (rw [bI_t ⟨hin, by rw [nn_nI (by omega)]; exact (nI_eq (b := 0) (by omega) (by omega)).mp (Classical.not_not.mp c14), Nat.lt_of_not_le (fun q => c26 ((nI_leI (a := 12) (by omega) (by omega)).mpr q))⟩] at hQ; exact hQ)
          | (rw [bI_t ⟨hin, by rw [nn_nI (by omega)]; exact (nI_eq (b := 0) (by omega) (by omega)).mp c14, Nat.lt_of_not_le (fun q => c26 ((nI_leI (a := 12) (by omega) (by omega)).mpr q))⟩] at hQ; exact hQ)
          | (rw [bI_f (fun q => absurd q.2.2 (Nat.not_lt.mpr ((nI_leI (a := 12) (by omega) (by omega)).mp c26)))] at hQ; exact hQ)
          | (rw [bI_f (fun q => c14 (by have := q.2.1; rw [nn_nI (by omega)] at this; rw [this]; rfl))] at hQ; exact hQ)
  · rw [bI_f (fun q => hin q.1)] at hQ
    refine z_aload_n dX9_canForetell_0 rfl rfl ?_
    refine z_iload_n dX9_canForetell_1 rfl rfl ?_
    refine y_callV (as := [_]) CX9_isProphet LX9_365 IX9_isProphet VX9_isProphet ⟨rfl, Nat.le_of_ble_eq_true rfl⟩ dX9_canForetell_2 hm.o rfl (Nat.le_of_ble_eq_true rfl) (Nat.le_of_ble_eq_true rfl) (by omega) (r_isProphet (d := 1) (by exact (by exact hm)) e1 (by omega) _ (Nat.le_refl _)) (rok_z bI_01) ⟨Nat.le_refl _, Nat.le_refl _, hN, hS⟩ ?_
    refine z_if_eq dX9_canForetell_5 rfl (fun _ => ?_) (fun c => absurd (bI_eq0.mpr hin) c)
    refine z_iconst (v := 0) dX9_canForetell_33 (by decide) ?_
    refine z_iret dX9_canForetell_34 ?_
    exact hQ

theorem snap_pp {a : Fl} {p c : Nat} (hp : p < 5) (hc : c < 3) : snap a (ppx p c) = a (13 + 5 * p + c) := by rw [snap_wx, wx_pp hp hc]
theorem snap_pc {a : Fl} {k c : Nat} (hk : k < 12) (hc : c < 6) : snap a (pcx k c) = a (38 + 6 * k + c) := by rw [snap_wx, wx_pc hk hc]
theorem r_foreNow {s : Ms} {h : Hp} {d p al f dd fee : Nat} (hr : RM s h) (hp : p < 5) (hk : s.1 11 < 12) (hb : s.1 (13 + 5 * p + 0) ≤ 9999) (hfee : fee ≤ 9999) (hal : al = 0 ∨ al = 1) (hd : 1 ≤ d) : ∃ h1, Sp d mX9_foretellNow [.ref 488, .int (nI p), .int (nI al), .int (nI f), .int (nI dd), .int (nI fee)] h none h1 ∧ RM (mFore s.1 p al f dd fee, s.2) h1 ∧ FM h h1 := by
  have hm := hr.m
  refine ⟨(sI (sI (sI (sI (sI (sI (sI (sI h 489 (38 + 6 * (s.1 11) + 0) (nI p)) 489 (38 + 6 * (s.1 11) + 1) (nI al)) 489 (38 + 6 * (s.1 11) + 2) (nI f)) 489 (38 + 6 * (s.1 11) + 3) (nI (s.1 8 + dd))) 489 (38 + 6 * (s.1 11) + 4) (nI fee)) 489 (38 + 6 * (s.1 11) + 5) 0) 489 11 (nI ((s.1 11) + 1))) 489 (13 + 5 * p + 0) (nI (min 9999 (s.1 (13 + 5 * p + 0) + fee)))), ?_, ?_, ((((((((FM.rf.sI (by omega)).sI (by omega)).sI (by omega)).sI (by omega)).sI (by omega)).sI (by omega)).sI (by omega)).sI (by omega))⟩
  · intro N S Q hN hS hQ
    rcases hal with rfl | rfl
    · refine z_aload_n dX9_foretellNow_0 rfl rfl ?_
      refine y_getR FX9_7 dX9_foretellNow_1 rfl hm.o hm.f_a ?_
      refine z_bipush (v := 11) dX9_foretellNow_4 (by decide) ?_
      refine y_ialN (11) dX9_foretellNow_6 hm.A_a (Nat.le_of_ble_eq_true rfl) (rfl) (by omega) ?_
      refine z_eqi (show _ = nI (s.1 11) from hr.at (by omega) (by omega)) ?_
      refine z_istore dX9_foretellNow_7 (Nat.le_of_ble_eq_true rfl) ?_
      refine z_aload_n dX9_foretellNow_9 rfl rfl ?_
      refine z_iload dX9_foretellNow_10 rfl ?_
      refine z_iconst (v := 0) dX9_foretellNow_12 (by decide) ?_
      refine z_iload_n dX9_foretellNow_13 rfl rfl ?_
      refine y_callV (as := [_, _, _]) CX9_lay LX9_329 IX9_lay VX9_lay ⟨rfl, Nat.le_of_ble_eq_true rfl⟩ dX9_foretellNow_14 hm.o rfl (Nat.le_of_ble_eq_true rfl) (Nat.le_of_ble_eq_true rfl) (by omega) (r_lay (j := (s.1 11)) (w := 0) (by exact (by exact hm)) (by omega) (by omega)) rok_v ⟨Nat.le_refl _, Nat.le_refl _, hN, hS⟩ ?_
      refine z_aload_n dX9_foretellNow_17 rfl rfl ?_
      refine z_iload dX9_foretellNow_18 rfl ?_
      refine z_iconst (v := 1) dX9_foretellNow_20 (by decide) ?_
      refine z_iload_n dX9_foretellNow_21 rfl rfl ?_
      refine z_if_eq dX9_foretellNow_22 rfl (fun _ => ?_) (fun c => absurd (rfl) c)
      refine z_iconst (v := 0) dX9_foretellNow_29 (by decide) ?_
      refine y_callV (as := [_, _, _]) CX9_lay LX9_329 IX9_lay VX9_lay ⟨rfl, Nat.le_of_ble_eq_true rfl⟩ dX9_foretellNow_30 hm.o rfl (Nat.le_of_ble_eq_true rfl) (Nat.le_of_ble_eq_true rfl) (by omega) (r_lay (j := (s.1 11)) (w := 1) (by exact (by exact hm)) (by omega) (by omega)) rok_v ⟨Nat.le_refl _, Nat.le_refl _, hN, hS⟩ ?_
      refine z_aload_n dX9_foretellNow_33 rfl rfl ?_
      refine z_iload dX9_foretellNow_34 rfl ?_
      refine z_iconst (v := 2) dX9_foretellNow_36 (by decide) ?_
      refine z_iload_n dX9_foretellNow_37 rfl rfl ?_
      refine y_callV (as := [_, _, _]) CX9_lay LX9_329 IX9_lay VX9_lay ⟨rfl, Nat.le_of_ble_eq_true rfl⟩ dX9_foretellNow_38 hm.o rfl (Nat.le_of_ble_eq_true rfl) (Nat.le_of_ble_eq_true rfl) (by omega) (r_lay (j := (s.1 11)) (w := 2) (by exact (by exact hm)) (by omega) (by omega)) rok_v ⟨Nat.le_refl _, Nat.le_refl _, hN, hS⟩ ?_
      refine z_aload_n dX9_foretellNow_41 rfl rfl ?_
      refine z_iload dX9_foretellNow_42 rfl ?_
      refine z_iconst (v := 3) dX9_foretellNow_44 (by decide) ?_
      refine z_aload_n dX9_foretellNow_45 rfl rfl ?_
      refine y_getR FX9_7 dX9_foretellNow_46 rfl hm.o hm.f_a ?_
      refine z_bipush (v := 8) dX9_foretellNow_49 (by decide) ?_
      refine y_ialN (8) dX9_foretellNow_51 hm.A_a (Nat.le_of_ble_eq_true rfl) (rfl) (by omega) ?_
      refine z_eqi (show _ = nI (s.1 8) by (repeat rw [pI_sI, if_pos rfl, if_neg (by omega)]); exact hr.at (by omega) (by omega)) ?_
      refine z_iload dX9_foretellNow_52 rfl ?_
      refine z_iadd dX9_foretellNow_54 ?_
      refine z_eqi (nI_add (s.1 8) dd) ?_
      refine y_callV (as := [_, _, _]) CX9_lay LX9_329 IX9_lay VX9_lay ⟨rfl, Nat.le_of_ble_eq_true rfl⟩ dX9_foretellNow_55 hm.o rfl (Nat.le_of_ble_eq_true rfl) (Nat.le_of_ble_eq_true rfl) (by omega) (r_lay (j := (s.1 11)) (w := 3) (by exact (by exact hm)) (by omega) (by omega)) rok_v ⟨Nat.le_refl _, Nat.le_refl _, hN, hS⟩ ?_
      refine z_aload_n dX9_foretellNow_58 rfl rfl ?_
      refine z_iload dX9_foretellNow_59 rfl ?_
      refine z_iconst (v := 4) dX9_foretellNow_61 (by decide) ?_
      refine z_iload dX9_foretellNow_62 rfl ?_
      refine y_callV (as := [_, _, _]) CX9_lay LX9_329 IX9_lay VX9_lay ⟨rfl, Nat.le_of_ble_eq_true rfl⟩ dX9_foretellNow_64 hm.o rfl (Nat.le_of_ble_eq_true rfl) (Nat.le_of_ble_eq_true rfl) (by omega) (r_lay (j := (s.1 11)) (w := 4) (by exact (by exact hm)) (by omega) (by omega)) rok_v ⟨Nat.le_refl _, Nat.le_refl _, hN, hS⟩ ?_
      refine z_aload_n dX9_foretellNow_67 rfl rfl ?_
      refine z_iload dX9_foretellNow_68 rfl ?_
      refine z_iconst (v := 5) dX9_foretellNow_70 (by decide) ?_
      refine z_iconst (v := 0) dX9_foretellNow_71 (by decide) ?_
      refine y_callV (as := [_, _, _]) CX9_lay LX9_329 IX9_lay VX9_lay ⟨rfl, Nat.le_of_ble_eq_true rfl⟩ dX9_foretellNow_72 hm.o rfl (Nat.le_of_ble_eq_true rfl) (Nat.le_of_ble_eq_true rfl) (by omega) (r_lay (j := (s.1 11)) (w := 5) (by exact (by exact hm)) (by omega) (by omega)) rok_v ⟨Nat.le_refl _, Nat.le_refl _, hN, hS⟩ ?_
      refine z_aload_n dX9_foretellNow_75 rfl rfl ?_
      refine y_getR FX9_7 dX9_foretellNow_76 rfl hm.o hm.f_a ?_
      refine z_bipush (v := 11) dX9_foretellNow_79 (by decide) ?_
      refine z_dup2_11 dX9_foretellNow_81 rfl rfl ?_
      refine y_ialN (11) dX9_foretellNow_82 hm.A_a (Nat.le_of_ble_eq_true rfl) (rfl) (by omega) ?_
      refine z_eqi (show _ = nI (s.1 11) by (repeat rw [pI_sI, if_pos rfl, if_neg (by omega)]); exact hr.at (by omega) (by omega)) ?_
      refine z_iconst (v := 1) dX9_foretellNow_83 (by decide) ?_
      refine z_iadd dX9_foretellNow_84 ?_
      refine z_eqi (nI_1 (s.1 11)) ?_
      refine y_iasN (11) dX9_foretellNow_85 hm.A_a (Nat.le_of_ble_eq_true rfl) (rfl) (by omega) ?_
      refine z_aload_n dX9_foretellNow_86 rfl rfl ?_
      refine z_iload_n dX9_foretellNow_87 rfl rfl ?_
      refine z_iconst (v := 0) dX9_foretellNow_88 (by decide) ?_
      refine z_aload_n dX9_foretellNow_89 rfl rfl ?_
      refine z_iload_n dX9_foretellNow_90 rfl rfl ?_
      refine z_iconst (v := 0) dX9_foretellNow_91 (by decide) ?_
      refine y_callV (as := [_, _]) CX9_get LX9_87 IX9_get VX9_get ⟨rfl, Nat.le_of_ble_eq_true rfl⟩ dX9_foretellNow_92 hm.o rfl (Nat.le_of_ble_eq_true rfl) (Nat.le_of_ble_eq_true rfl) (by omega) (r_get (j := p) (w := 0) (by exact (by exact hm)) (by omega) (by omega)) rok_i ⟨Nat.le_refl _, Nat.le_refl _, hN, hS⟩ ?_
      refine z_eqi (show _ = nI (s.1 (13 + 5 * p + 0)) by (repeat rw [pI_sI, if_pos rfl, if_neg (by omega)]); exact hr.at (by omega) (by omega)) ?_
      refine z_iload dX9_foretellNow_95 rfl ?_
      refine z_iadd dX9_foretellNow_97 ?_
      refine z_eqi (nI_add (s.1 (13 + 5 * p + 0)) fee) ?_
      refine z_i2l dX9_foretellNow_98 ?_
      refine z_iconst (v := 0) dX9_foretellNow_99 (by decide) ?_
      refine z_sipush (v := 9999) dX9_foretellNow_100 (by decide) ?_
      refine y_callS (as := [_, _, _]) CX9_cut LX9_306 SX9_cut dX9_foretellNow_103 rfl (Nat.le_of_ble_eq_true rfl) (Nat.le_of_ble_eq_true rfl) (by omega) (r_cutN (n := s.1 (13 + 5 * p + 0) + fee) (t := 9999) (by omega) (by omega)) rok_i ⟨Nat.le_refl _, Nat.le_refl _, hN, hS⟩ ?_
      refine y_callV (as := [_, _, _]) CX9_put LX9_79 IX9_put VX9_put ⟨rfl, Nat.le_of_ble_eq_true rfl⟩ dX9_foretellNow_106 hm.o rfl (Nat.le_of_ble_eq_true rfl) (Nat.le_of_ble_eq_true rfl) (by omega) (r_put (j := p) (w := 0) (by exact (by exact hm)) (by omega) (by omega)) rok_v ⟨Nat.le_refl _, Nat.le_refl _, hN, hS⟩ ?_
      refine z_vret dX9_foretellNow_109 ?_
      exact hQ
    · refine z_aload_n dX9_foretellNow_0 rfl rfl ?_
      refine y_getR FX9_7 dX9_foretellNow_1 rfl hm.o hm.f_a ?_
      refine z_bipush (v := 11) dX9_foretellNow_4 (by decide) ?_
      refine y_ialN (11) dX9_foretellNow_6 hm.A_a (Nat.le_of_ble_eq_true rfl) (rfl) (by omega) ?_
      refine z_eqi (show _ = nI (s.1 11) from hr.at (by omega) (by omega)) ?_
      refine z_istore dX9_foretellNow_7 (Nat.le_of_ble_eq_true rfl) ?_
      refine z_aload_n dX9_foretellNow_9 rfl rfl ?_
      refine z_iload dX9_foretellNow_10 rfl ?_
      refine z_iconst (v := 0) dX9_foretellNow_12 (by decide) ?_
      refine z_iload_n dX9_foretellNow_13 rfl rfl ?_
      refine y_callV (as := [_, _, _]) CX9_lay LX9_329 IX9_lay VX9_lay ⟨rfl, Nat.le_of_ble_eq_true rfl⟩ dX9_foretellNow_14 hm.o rfl (Nat.le_of_ble_eq_true rfl) (Nat.le_of_ble_eq_true rfl) (by omega) (r_lay (j := (s.1 11)) (w := 0) (by exact (by exact hm)) (by omega) (by omega)) rok_v ⟨Nat.le_refl _, Nat.le_refl _, hN, hS⟩ ?_
      refine z_aload_n dX9_foretellNow_17 rfl rfl ?_
      refine z_iload dX9_foretellNow_18 rfl ?_
      refine z_iconst (v := 1) dX9_foretellNow_20 (by decide) ?_
      refine z_iload_n dX9_foretellNow_21 rfl rfl ?_
      refine z_if_eq dX9_foretellNow_22 rfl (fun c => absurd c (by decide)) (fun _ => ?_)
      refine z_iconst (v := 1) dX9_foretellNow_25 (by decide) ?_
      refine z_goto dX9_foretellNow_26 rfl ?_
      refine y_callV (as := [_, _, _]) CX9_lay LX9_329 IX9_lay VX9_lay ⟨rfl, Nat.le_of_ble_eq_true rfl⟩ dX9_foretellNow_30 hm.o rfl (Nat.le_of_ble_eq_true rfl) (Nat.le_of_ble_eq_true rfl) (by omega) (r_lay (j := (s.1 11)) (w := 1) (by exact (by exact hm)) (by omega) (by omega)) rok_v ⟨Nat.le_refl _, Nat.le_refl _, hN, hS⟩ ?_
      refine z_aload_n dX9_foretellNow_33 rfl rfl ?_
      refine z_iload dX9_foretellNow_34 rfl ?_
      refine z_iconst (v := 2) dX9_foretellNow_36 (by decide) ?_
      refine z_iload_n dX9_foretellNow_37 rfl rfl ?_
      refine y_callV (as := [_, _, _]) CX9_lay LX9_329 IX9_lay VX9_lay ⟨rfl, Nat.le_of_ble_eq_true rfl⟩ dX9_foretellNow_38 hm.o rfl (Nat.le_of_ble_eq_true rfl) (Nat.le_of_ble_eq_true rfl) (by omega) (r_lay (j := (s.1 11)) (w := 2) (by exact (by exact hm)) (by omega) (by omega)) rok_v ⟨Nat.le_refl _, Nat.le_refl _, hN, hS⟩ ?_
      refine z_aload_n dX9_foretellNow_41 rfl rfl ?_
      refine z_iload dX9_foretellNow_42 rfl ?_
      refine z_iconst (v := 3) dX9_foretellNow_44 (by decide) ?_
      refine z_aload_n dX9_foretellNow_45 rfl rfl ?_
      refine y_getR FX9_7 dX9_foretellNow_46 rfl hm.o hm.f_a ?_
      refine z_bipush (v := 8) dX9_foretellNow_49 (by decide) ?_
      refine y_ialN (8) dX9_foretellNow_51 hm.A_a (Nat.le_of_ble_eq_true rfl) (rfl) (by omega) ?_
      refine z_eqi (show _ = nI (s.1 8) by (repeat rw [pI_sI, if_pos rfl, if_neg (by omega)]); exact hr.at (by omega) (by omega)) ?_
      refine z_iload dX9_foretellNow_52 rfl ?_
      refine z_iadd dX9_foretellNow_54 ?_
      refine z_eqi (nI_add (s.1 8) dd) ?_
      refine y_callV (as := [_, _, _]) CX9_lay LX9_329 IX9_lay VX9_lay ⟨rfl, Nat.le_of_ble_eq_true rfl⟩ dX9_foretellNow_55 hm.o rfl (Nat.le_of_ble_eq_true rfl) (Nat.le_of_ble_eq_true rfl) (by omega) (r_lay (j := (s.1 11)) (w := 3) (by exact (by exact hm)) (by omega) (by omega)) rok_v ⟨Nat.le_refl _, Nat.le_refl _, hN, hS⟩ ?_
      refine z_aload_n dX9_foretellNow_58 rfl rfl ?_
      refine z_iload dX9_foretellNow_59 rfl ?_
      refine z_iconst (v := 4) dX9_foretellNow_61 (by decide) ?_
      refine z_iload dX9_foretellNow_62 rfl ?_
      refine y_callV (as := [_, _, _]) CX9_lay LX9_329 IX9_lay VX9_lay ⟨rfl, Nat.le_of_ble_eq_true rfl⟩ dX9_foretellNow_64 hm.o rfl (Nat.le_of_ble_eq_true rfl) (Nat.le_of_ble_eq_true rfl) (by omega) (r_lay (j := (s.1 11)) (w := 4) (by exact (by exact hm)) (by omega) (by omega)) rok_v ⟨Nat.le_refl _, Nat.le_refl _, hN, hS⟩ ?_
      refine z_aload_n dX9_foretellNow_67 rfl rfl ?_
      refine z_iload dX9_foretellNow_68 rfl ?_
      refine z_iconst (v := 5) dX9_foretellNow_70 (by decide) ?_
      refine z_iconst (v := 0) dX9_foretellNow_71 (by decide) ?_
      refine y_callV (as := [_, _, _]) CX9_lay LX9_329 IX9_lay VX9_lay ⟨rfl, Nat.le_of_ble_eq_true rfl⟩ dX9_foretellNow_72 hm.o rfl (Nat.le_of_ble_eq_true rfl) (Nat.le_of_ble_eq_true rfl) (by omega) (r_lay (j := (s.1 11)) (w := 5) (by exact (by exact hm)) (by omega) (by omega)) rok_v ⟨Nat.le_refl _, Nat.le_refl _, hN, hS⟩ ?_
      refine z_aload_n dX9_foretellNow_75 rfl rfl ?_
      refine y_getR FX9_7 dX9_foretellNow_76 rfl hm.o hm.f_a ?_
      refine z_bipush (v := 11) dX9_foretellNow_79 (by decide) ?_
      refine z_dup2_11 dX9_foretellNow_81 rfl rfl ?_
      refine y_ialN (11) dX9_foretellNow_82 hm.A_a (Nat.le_of_ble_eq_true rfl) (rfl) (by omega) ?_
      refine z_eqi (show _ = nI (s.1 11) by (repeat rw [pI_sI, if_pos rfl, if_neg (by omega)]); exact hr.at (by omega) (by omega)) ?_
      refine z_iconst (v := 1) dX9_foretellNow_83 (by decide) ?_
      refine z_iadd dX9_foretellNow_84 ?_
      refine z_eqi (nI_1 (s.1 11)) ?_
      refine y_iasN (11) dX9_foretellNow_85 hm.A_a (Nat.le_of_ble_eq_true rfl) (rfl) (by omega) ?_
      refine z_aload_n dX9_foretellNow_86 rfl rfl ?_
      refine z_iload_n dX9_foretellNow_87 rfl rfl ?_
      refine z_iconst (v := 0) dX9_foretellNow_88 (by decide) ?_
      refine z_aload_n dX9_foretellNow_89 rfl rfl ?_
      refine z_iload_n dX9_foretellNow_90 rfl rfl ?_
      refine z_iconst (v := 0) dX9_foretellNow_91 (by decide) ?_
      refine y_callV (as := [_, _]) CX9_get LX9_87 IX9_get VX9_get ⟨rfl, Nat.le_of_ble_eq_true rfl⟩ dX9_foretellNow_92 hm.o rfl (Nat.le_of_ble_eq_true rfl) (Nat.le_of_ble_eq_true rfl) (by omega) (r_get (j := p) (w := 0) (by exact (by exact hm)) (by omega) (by omega)) rok_i ⟨Nat.le_refl _, Nat.le_refl _, hN, hS⟩ ?_
      refine z_eqi (show _ = nI (s.1 (13 + 5 * p + 0)) by (repeat rw [pI_sI, if_pos rfl, if_neg (by omega)]); exact hr.at (by omega) (by omega)) ?_
      refine z_iload dX9_foretellNow_95 rfl ?_
      refine z_iadd dX9_foretellNow_97 ?_
      refine z_eqi (nI_add (s.1 (13 + 5 * p + 0)) fee) ?_
      refine z_i2l dX9_foretellNow_98 ?_
      refine z_iconst (v := 0) dX9_foretellNow_99 (by decide) ?_
      refine z_sipush (v := 9999) dX9_foretellNow_100 (by decide) ?_
      refine y_callS (as := [_, _, _]) CX9_cut LX9_306 SX9_cut dX9_foretellNow_103 rfl (Nat.le_of_ble_eq_true rfl) (Nat.le_of_ble_eq_true rfl) (by omega) (r_cutN (n := s.1 (13 + 5 * p + 0) + fee) (t := 9999) (by omega) (by omega)) rok_i ⟨Nat.le_refl _, Nat.le_refl _, hN, hS⟩ ?_
      refine y_callV (as := [_, _, _]) CX9_put LX9_79 IX9_put VX9_put ⟨rfl, Nat.le_of_ble_eq_true rfl⟩ dX9_foretellNow_106 hm.o rfl (Nat.le_of_ble_eq_true rfl) (Nat.le_of_ble_eq_true rfl) (by omega) (r_put (j := p) (w := 0) (by exact (by exact hm)) (by omega) (by omega)) rok_v ⟨Nat.le_refl _, Nat.le_refl _, hN, hS⟩ ?_
      refine z_vret dX9_foretellNow_109 ?_
      exact hQ
  · have hu := hr.un
    have q : ∀ c, c < 6 → 38 + 6 * s.1 11 + c = wx (pcx (snap s.1 4) c) := fun c hc => (wx_pc hk hc).symm
    have l : ∀ c, c < 6 → pcx (snap s.1 4) c < 153 := fun c hc => by have : snap s.1 4 = s.1 11 := rfl; unfold pcx; omega
    have r7 := ((((((hu.w (q 0 (by omega)) (l 0 (by omega)) (v := p) rfl).w (q 1 (by omega)) (l 1 (by omega)) (v := al) rfl).w (q 2 (by omega)) (l 2 (by omega)) (v := f) rfl).w (q 3 (by omega)) (l 3 (by omega)) (v := snap s.1 1 + dd) rfl).w (q 4 (by omega)) (l 4 (by omega)) (v := fee) rfl).w (q 5 (by omega)) (l 5 (by omega)) (v := 0) rfl).w (i := 11) (j := 4) rfl (by omega) (v := snap s.1 4 + 1) rfl
    refine r7.w (wx_pp hp (by omega)).symm (by unfold ppx; omega) ?_
    have e : ∀ c v U, up U (pcx (snap s.1 4) c) v (ppx p 0) = U (ppx p 0) := fun c v U => up_n (by unfold pcx ppx; omega)
    rw [up_n (show ppx p 0 ≠ 4 by unfold ppx; omega), e, e, e, e, e, e, snap_pp hp (by omega)]

theorem R_foretell {s : Ms} {h : Hp} {d : Nat} (hr : RM s h) (hv : IC s.1) (hp : IP s.1) (p : Int32) {al : Nat} (hal : al = 0 ∨ al = 1) (f e g : Int32) (hd : 3 ≤ d) : ∃ h1, Sp d mX9_foretell [.ref 488, .int p, .int (nI al), .int f, .int e, .int g] h (some (.int (mForetell s.1 p al f e g).1)) h1 ∧ RM ((mForetell s.1 p al f e g).2, s.2) h1 ∧ FM h h1 := by
  have hm := hr.m
  have v0 := hv.1
  have v1 := hv.2.1
  have e0 : pI h 489 0 = nI (s.1 0) := hr.at (by omega) (by omega)
  by_cases hc : okF s.1 p ∧ okG s.1 f e g
  · have eq : mForetell s.1 p al f e g = (nI (s.1 11), mFore (mKeep s.1) (nn p) al (nn f) (nn e) (nn g)) := if_pos hc
    rw [eq]
    obtain ⟨hF, hf1, he1, hg1⟩ := id hc
    obtain ⟨j, hj, rfl⟩ := vin_of (by omega) hF.1
    obtain ⟨k1h, k1, k2, k3⟩ := r_keep (d := 2) hr hv.2.2.2.2.1 (by omega)
    have p2 : 2 ^ s.1 0 ≤ 2 ^ 8 := Nat.pow_le_pow_right (by omega) v0
    obtain ⟨f', hf', rfl⟩ := inr_of (n := 256) (x := f) (by omega) ⟨Int32.le_trans (by decide) hf1.1, Int32.le_of_lt (Int32.lt_of_lt_of_le hf1.2 (nI_le (by omega) (by omega)))⟩
    obtain ⟨e', he', rfl⟩ := inr_of (n := 99) (x := e) (by omega) ⟨Int32.le_trans (by decide) he1.1, he1.2⟩
    obtain ⟨g', hg', rfl⟩ := inr_of (n := 999) (x := g) (by omega) hg1
    rw [nn_nI (by omega), nn_nI (by omega), nn_nI (by omega), nn_nI (by omega)]
    have hk11 : mKeep s.1 11 = s.1 11 := mKeep_out hv.2.2.2.2.1 (by omega) (by omega)
    have hkp : mKeep s.1 (13 + 5 * j + 0) = s.1 (13 + 5 * j + 0) := mKeep_out hv.2.2.2.2.1 (by omega) (by omega)
    obtain ⟨fh, f1, f2, f3⟩ := r_foreNow (d := 1) (p := j) (al := al) (f := f') (dd := e') (fee := g') k2 (by omega) (by show mKeep s.1 11 < 12; rw [hk11]; exact hF.2.2) (by show mKeep s.1 _ ≤ 9999; rw [hkp]; exact (hp j hj).1) (by omega) hal (Nat.le_refl _)
    have e11 : pI fh 489 11 = nI (s.1 11 + 1) := by
      rw [RM.wat (i := 11) f2 4 rfl (by omega)]
      show nI (up _ (ppx j 0) _ 4) = _
      rw [up_n (show 4 ≠ ppx j 0 by unfold ppx; omega), up_s]
      show nI (mKeep s.1 11 + 1) = _
      rw [hk11]
    refine ⟨fh, ?_, f2, k3.tr f3⟩
    intro N S Q hN hS hQ
    have hN : pn h ≤ N := by rw [← (k3.tr f3).1.n]; exact hN
    have hS : ps h ≤ S := by rw [← (k3.tr f3).1.s]; exact hS
    refine z_aload_n dX9_foretell_0 rfl rfl ?_
    refine z_iload_n dX9_foretell_1 rfl rfl ?_
    refine y_callV (as := [_]) CX9_canForetell LX9_368 IX9_canForetell VX9_canForetell ⟨rfl, Nat.le_of_ble_eq_true rfl⟩ dX9_foretell_2 hm.o rfl (Nat.le_of_ble_eq_true rfl) (Nat.le_of_ble_eq_true rfl) (by omega) (r_canForetell (d := 2) hr hv hp _ (Nat.le_refl _)) (rok_z bI_01) ⟨Nat.le_refl _, Nat.le_refl _, hN, hS⟩ ?_
    refine z_if_eq dX9_foretell_5 rfl (fun c => absurd c (bI_ne0.mpr hc.1)) (fun _ => ?_)
    refine z_aload_n dX9_foretell_8 rfl rfl ?_
    refine z_iload_n dX9_foretell_9 rfl rfl ?_
    refine y_callV (as := [_]) CX9_areFacts LX9_371 IX9_areFacts VX9_areFacts ⟨rfl, Nat.le_of_ble_eq_true rfl⟩ dX9_foretell_10 hm.o rfl (Nat.le_of_ble_eq_true rfl) (Nat.le_of_ble_eq_true rfl) (by omega) (r_areFacts (d := 1) (by exact hm) e0 v0 _ (Nat.le_refl _)) (rok_z bI_01) ⟨Nat.le_refl _, Nat.le_refl _, hN, hS⟩ ?_
    refine z_if_eq dX9_foretell_13 rfl (fun c => absurd c (bI_ne0.mpr hc.2.1)) (fun _ => ?_)
    refine z_iload dX9_foretell_16 rfl ?_
    refine z_iconst (v := 1) dX9_foretell_18 (by decide) ?_
    refine z_bipush (v := 99) dX9_foretell_19 (by decide) ?_
    refine y_callS (as := [_, _, _]) CX9_isIn LX9_63 SX9_isIn dX9_foretell_21 rfl (Nat.le_of_ble_eq_true rfl) (Nat.le_of_ble_eq_true rfl) (by omega) (r_isIn _ _ _) (rok_z bI_01) ⟨Nat.le_refl _, Nat.le_refl _, hN, hS⟩ ?_
    refine z_if_eq dX9_foretell_24 rfl (fun c => absurd c (bI_ne0.mpr hc.2.2.1)) (fun _ => ?_)
    refine z_iload dX9_foretell_27 rfl ?_
    refine z_iconst (v := 0) dX9_foretell_29 (by decide) ?_
    refine z_sipush (v := 999) dX9_foretell_30 (by decide) ?_
    refine y_callS (as := [_, _, _]) CX9_isIn LX9_63 SX9_isIn dX9_foretell_33 rfl (Nat.le_of_ble_eq_true rfl) (Nat.le_of_ble_eq_true rfl) (by omega) (r_isIn _ _ _) (rok_z bI_01) ⟨Nat.le_refl _, Nat.le_refl _, hN, hS⟩ ?_
    refine z_if_ne dX9_foretell_36 rfl (fun _ => ?_) (fun c => absurd c (bI_ne0.mpr hc.2.2.2))
    refine z_aload_n dX9_foretell_41 rfl rfl ?_
    refine y_callV (as := []) CX9_keep LX9_374 IX9_keep VX9_keep ⟨rfl, Nat.le_of_ble_eq_true rfl⟩ dX9_foretell_42 hm.o rfl (Nat.le_of_ble_eq_true rfl) (Nat.le_of_ble_eq_true rfl) (by omega) k1 rok_v (hg_ss k3.1 hN hS) ?_
    refine z_aload_n dX9_foretell_45 rfl rfl ?_
    refine z_iload_n dX9_foretell_46 rfl rfl ?_
    refine z_iload_n dX9_foretell_47 rfl rfl ?_
    refine z_iload_n dX9_foretell_48 rfl rfl ?_
    refine z_iload dX9_foretell_49 rfl ?_
    refine z_iload dX9_foretell_51 rfl ?_
    refine y_callV (as := [_, _, _, _, _]) CX9_foretellNow LX9_377 IX9_foretellNow VX9_foretellNow ⟨rfl, Nat.le_of_ble_eq_true rfl⟩ dX9_foretell_53 (k3.1.O hm.o) rfl (Nat.le_of_ble_eq_true rfl) (Nat.le_of_ble_eq_true rfl) (by omega) f1 rok_v (hg_ss f3.1 (by rw [k3.1.n]; exact hN) (by rw [k3.1.s]; exact hS)) ?_
    refine z_aload_n dX9_foretell_56 rfl rfl ?_
    refine y_getR FX9_7 dX9_foretell_57 rfl ((k3.1.tr f3.1).O hm.o) (by rw [(k3.1.tr f3.1).R]; exact hm.f_a) ?_
    refine z_bipush (v := 11) dX9_foretell_60 (by decide) ?_
    refine y_ialN (11) dX9_foretell_62 ((k3.1.tr f3.1).A hm.A_a) (Nat.le_of_ble_eq_true rfl) (rfl) (by omega) ?_
    refine z_eqi (show _ = nI (s.1 11 + 1) from e11) ?_
    refine z_iconst (v := 1) dX9_foretell_63 (by decide) ?_
    refine z_isub dX9_foretell_64 ?_
    refine z_eqi (nI_pred _) ?_
    refine z_iret dX9_foretell_65 ?_
    exact hQ
  · have eq : mForetell s.1 p al f e g = (-1, s.1) := if_neg hc
    rw [eq]
    refine ⟨h, ?_, hr, FM.rf⟩
    intro N S Q hN hS hQ
    have hc : ¬ (okF s.1 p ∧ (1 ≤ f ∧ f < nI (2 ^ s.1 0)) ∧ (1 ≤ e ∧ e ≤ 99) ∧ (0 ≤ g ∧ g ≤ 999)) := hc
    refine z_aload_n dX9_foretell_0 rfl rfl ?_
    refine z_iload_n dX9_foretell_1 rfl rfl ?_
    refine y_callV (as := [_]) CX9_canForetell LX9_368 IX9_canForetell VX9_canForetell ⟨rfl, Nat.le_of_ble_eq_true rfl⟩ dX9_foretell_2 hm.o rfl (Nat.le_of_ble_eq_true rfl) (Nat.le_of_ble_eq_true rfl) (by omega) (r_canForetell (d := 2) hr hv hp _ (Nat.le_refl _)) (rok_z bI_01) ⟨Nat.le_refl _, Nat.le_refl _, hN, hS⟩ ?_
    refine z_if_eq dX9_foretell_5 rfl (fun c5 => ?_) (fun c5 => ?_)
    · -- to 39
      refine z_iconst (v := -1) dX9_foretell_39 (by decide) ?_
      refine z_iret dX9_foretell_40 ?_
      exact hQ
    · -- on
      refine z_aload_n dX9_foretell_8 rfl rfl ?_
      refine z_iload_n dX9_foretell_9 rfl rfl ?_
      refine y_callV (as := [_]) CX9_areFacts LX9_371 IX9_areFacts VX9_areFacts ⟨rfl, Nat.le_of_ble_eq_true rfl⟩ dX9_foretell_10 hm.o rfl (Nat.le_of_ble_eq_true rfl) (Nat.le_of_ble_eq_true rfl) (by omega) (r_areFacts (d := 1) (by exact hm) e0 v0 _ (Nat.le_refl _)) (rok_z bI_01) ⟨Nat.le_refl _, Nat.le_refl _, hN, hS⟩ ?_
      refine z_if_eq dX9_foretell_13 rfl (fun c13 => ?_) (fun c13 => ?_)
      · -- to 39
        refine z_iconst (v := -1) dX9_foretell_39 (by decide) ?_
        refine z_iret dX9_foretell_40 ?_
        exact hQ
      · -- on
        refine z_iload dX9_foretell_16 rfl ?_
        refine z_iconst (v := 1) dX9_foretell_18 (by decide) ?_
        refine z_bipush (v := 99) dX9_foretell_19 (by decide) ?_
        refine y_callS (as := [_, _, _]) CX9_isIn LX9_63 SX9_isIn dX9_foretell_21 rfl (Nat.le_of_ble_eq_true rfl) (Nat.le_of_ble_eq_true rfl) (by omega) (r_isIn _ _ _) (rok_z bI_01) ⟨Nat.le_refl _, Nat.le_refl _, hN, hS⟩ ?_
        refine z_if_eq dX9_foretell_24 rfl (fun c24 => ?_) (fun c24 => ?_)
        · -- to 39
          refine z_iconst (v := -1) dX9_foretell_39 (by decide) ?_
          refine z_iret dX9_foretell_40 ?_
          exact hQ
        · -- on
          refine z_iload dX9_foretell_27 rfl ?_
          refine z_iconst (v := 0) dX9_foretell_29 (by decide) ?_
          refine z_sipush (v := 999) dX9_foretell_30 (by decide) ?_
          refine y_callS (as := [_, _, _]) CX9_isIn LX9_63 SX9_isIn dX9_foretell_33 rfl (Nat.le_of_ble_eq_true rfl) (Nat.le_of_ble_eq_true rfl) (by omega) (r_isIn _ _ _) (rok_z bI_01) ⟨Nat.le_refl _, Nat.le_refl _, hN, hS⟩ ?_
          refine z_if_ne dX9_foretell_36 rfl (fun c36 => ?_) (fun c36 => ?_)
          · -- to 41
            exact absurd ⟨bI_ne0.mp c5, bI_ne0.mp c13, bI_ne0.mp c24, bI_ne0.mp c36⟩ hc
          · -- on
            refine z_iconst (v := -1) dX9_foretell_39 (by decide) ?_
            refine z_iret dX9_foretell_40 ?_
            exact hQ

