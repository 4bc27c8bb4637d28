/-! words on offer, what was heard, what was owed: both sides (walks by program: wip/whole/gen23.py) -/
def mHeard (a : Fl) (f : Int32) (b : Nat) : Int32 × Fl := if f = -1 then (0, up a 6 0) else if vin f (a 0) ∧ a 6 < 8 then (nI (a 6 + 1), up (up (up a (158 + 2 * a 6) (nn f)) (158 + 2 * a 6 + 1) b) 6 (a 6 + 1)) else (-2, a)
def mOwed (a : Fl) (k u : Int32) : Int32 × Fl := if k = -1 then (0, up a 7 0) else if vin k (a 11) ∧ inr u 0 9999 ∧ a 7 < 8 then (nI (a 7 + 1), up (up (up a (174 + 2 * a 7) (nn k)) (174 + 2 * a 7 + 1) (nn u)) 7 (a 7 + 1)) else (-2, a)
def mOffer (a : Fl) (b : Nat) (f e u : Int32) : Int32 × Fl := if e = -1 then (0, up a 5 0) else if (1 ≤ f ∧ f < nI (2 ^ a 0)) ∧ inr e 0 999 ∧ inr u 0 999 ∧ a 5 < 8 then (nI (a 5 + 1), up (up (up (up (up a (126 + 4 * a 5) b) (126 + 4 * a 5 + 1) (nn f)) (126 + 4 * a 5 + 2) (nn e)) (126 + 4 * a 5 + 3) (nn u)) 5 (a 5 + 1)) else (-2, a)
theorem vin_neg {n : Nat} : ¬ vin (-1) n := fun q => absurd q.1 (by decide)

theorem R_heard {s : Ms} {h : Hp} {d : Nat} (hr : RM s h) (hv : IC s.1) (f : Int32) {b : Nat} (hb : b = 0 ∨ b = 1) (hd : 2 ≤ d) : ∃ h1, Sp d mX9_heard [.ref 488, .int f, .int (nI b)] h (some (.int (mHeard s.1 f b).1)) h1 ∧ RM ((mHeard s.1 f b).2, s.2) h1 ∧ FM h h1 := by
  have hm := hr.m
  have e0 : pI h 489 0 = nI (s.1 0) := hr.at (by omega) (by omega)
  have e6 : pI h 489 6 = nI (s.1 6) := hr.at (by omega) (by omega)
  obtain ⟨v0, -, -, -, -, -, v6, -⟩ := hv
  generalize hnf : s.1 0 = nf at *
  generalize hn6 : s.1 6 = n6 at *
  by_cases hc : f = -1
  · subst hc
    have hf : mHeard s.1 (-1) b = (0, up s.1 6 0) := by unfold mHeard; rw [if_pos rfl]
    rw [hf]
    refine ⟨sI h 489 6 0, ?_, hr.aN (by omega) rfl, FM.rf.sI (by omega)⟩
    intro N S Q hN hS hQ
    refine z_iload_n dX9_heard_0 rfl rfl ?_
    refine z_iconst (v := -1) dX9_heard_1 (by decide) ?_
    refine z_icmp_ne dX9_heard_2 rfl (fun c => absurd (rfl) c) (fun _ => ?_)
    refine z_aload_n dX9_heard_5 rfl rfl ?_
    refine y_getR FX9_7 dX9_heard_6 rfl hm.o hm.f_a ?_
    refine z_bipush (v := 6) dX9_heard_9 (by decide) ?_
    refine z_iconst (v := 0) dX9_heard_11 (by decide) ?_
    refine y_iasN (6) dX9_heard_12 hm.A_a (Nat.le_of_ble_eq_true rfl) (by first | rfl | (simp only [← nI_add, ← pk_mul]; rfl)) (by omega) ?_
    refine z_iconst (v := 0) dX9_heard_13 (by decide) ?_
    refine z_iret dX9_heard_14 ?_
    exact hQ
  · by_cases hg : vin f nf ∧ n6 < 8
    · obtain ⟨f', hf', rfl⟩ := vin_of (by omega) hg.1
      have hf : mHeard s.1 (nI f') b = (nI (n6 + 1), up (up (up s.1 (158 + 2 * n6) f') (158 + 2 * n6 + 1) b) 6 (n6 + 1)) := by
        unfold mHeard
        rw [if_neg hc, hnf, hn6, if_pos hg, nn_nI (by omega)]
      rw [hf]
      refine ⟨sI (sI (sI h 489 (158 + 2 * n6) (nI f')) 489 (158 + 2 * n6 + 1) (nI b)) 489 6 (nI (n6 + 1)), ?_, ((hr.aN (i := 158 + 2 * n6) (v := f') (by omega) rfl).aN (i := 158 + 2 * n6 + 1) (v := b) (by omega) rfl).aN (i := 6) (v := n6 + 1) (by omega) rfl, ((FM.rf.sI (by omega)).sI (by omega)).sI (by omega)⟩
      intro N S Q hN hS hQ
      rcases hb with rfl | rfl
      · -- b
        refine z_iload_n dX9_heard_0 rfl rfl ?_
        refine z_iconst (v := -1) dX9_heard_1 (by decide) ?_
        refine z_icmp_ne dX9_heard_2 rfl (fun _ => ?_) (fun c => absurd c (hc))
        refine z_aload_n dX9_heard_15 rfl rfl ?_
        refine z_iload_n dX9_heard_16 rfl rfl ?_
        refine y_callV (as := [_]) CX9_isFact LX9_381 IX9_isFact VX9_isFact ⟨rfl, Nat.le_of_ble_eq_true rfl⟩ dX9_heard_17 hm.o rfl (Nat.le_of_ble_eq_true rfl) (Nat.le_of_ble_eq_true rfl) (by omega) (r_isFact (d := 1) (by exact hm) (n := nf) (by exact e0) (by omega) _ (Nat.le_refl _)) (rok_z bI_01) ⟨Nat.le_refl _, Nat.le_refl _, hN, hS⟩ ?_
        refine z_if_eq dX9_heard_20 rfl (fun c => absurd c (bI_ne0.mpr hg.1)) (fun _ => ?_)
        refine z_aload_n dX9_heard_23 rfl rfl ?_
        refine y_getR FX9_7 dX9_heard_24 rfl hm.o hm.f_a ?_
        refine z_bipush (v := 6) dX9_heard_27 (by decide) ?_
        refine y_ialN (6) dX9_heard_29 hm.A_a (Nat.le_of_ble_eq_true rfl) (by first | rfl | (simp only [← nI_add, ← pk_mul]; rfl)) (by omega) ?_
        refine z_eqi (y := nI (n6)) (by (repeat rw [pI_sI, if_pos rfl, if_neg (by omega)]); exact e6) ?_
        refine z_bipush (v := 8) dX9_heard_30 (by decide) ?_
        refine z_icmp_ne dX9_heard_32 rfl (fun _ => ?_) (fun c => absurd c (by rw [show (8 : Int32) = nI 8 from rfl, nI_eq (by omega) (by omega)]; omega))
        refine z_aload_n dX9_heard_38 rfl rfl ?_
        refine y_getR FX9_7 dX9_heard_39 rfl hm.o hm.f_a ?_
        refine z_sipush (v := 158) dX9_heard_42 (by decide) ?_
        refine z_iconst (v := 2) dX9_heard_45 (by decide) ?_
        refine z_aload_n dX9_heard_46 rfl rfl ?_
        refine y_getR FX9_7 dX9_heard_47 rfl hm.o hm.f_a ?_
        refine z_bipush (v := 6) dX9_heard_50 (by decide) ?_
        refine y_ialN (6) dX9_heard_52 hm.A_a (Nat.le_of_ble_eq_true rfl) (by first | rfl | (simp only [← nI_add, ← pk_mul]; rfl)) (by omega) ?_
        refine z_eqi (y := nI (n6)) (by (repeat rw [pI_sI, if_pos rfl, if_neg (by omega)]); exact e6) ?_
        refine z_imul dX9_heard_53 ?_
        refine z_iadd dX9_heard_54 ?_
        refine z_iload_n dX9_heard_55 rfl rfl ?_
        refine y_iasN (158 + (2 * n6)) dX9_heard_56 hm.A_a (Nat.le_of_ble_eq_true rfl) (by first | rfl | (simp only [← nI_add, ← pk_mul]; rfl)) (by omega) ?_
        refine z_aload_n dX9_heard_57 rfl rfl ?_
        refine y_getR FX9_7 dX9_heard_58 rfl hm.o hm.f_a ?_
        refine z_sipush (v := 158) dX9_heard_61 (by decide) ?_
        refine z_iconst (v := 2) dX9_heard_64 (by decide) ?_
        refine z_aload_n dX9_heard_65 rfl rfl ?_
        refine y_getR FX9_7 dX9_heard_66 rfl hm.o hm.f_a ?_
        refine z_bipush (v := 6) dX9_heard_69 (by decide) ?_
        refine y_ialN (6) dX9_heard_71 hm.A_a (Nat.le_of_ble_eq_true rfl) (by first | rfl | (simp only [← nI_add, ← pk_mul]; rfl)) (by omega) ?_
        refine z_eqi (y := nI (n6)) (by (repeat rw [pI_sI, if_pos rfl, if_neg (by omega)]); exact e6) ?_
        refine z_imul dX9_heard_72 ?_
        refine z_iadd dX9_heard_73 ?_
        refine z_iconst (v := 1) dX9_heard_74 (by decide) ?_
        refine z_iadd dX9_heard_75 ?_
        refine z_iload_n dX9_heard_76 rfl rfl ?_
        refine z_if_eq dX9_heard_77 rfl (fun _ => ?_) (fun c => absurd (rfl) c)
        refine z_iconst (v := 0) dX9_heard_84 (by decide) ?_
        refine y_iasN (158 + (2 * n6) + 1) dX9_heard_85 hm.A_a (Nat.le_of_ble_eq_true rfl) (by first | rfl | (simp only [← nI_add, ← pk_mul]; rfl)) (by omega) ?_
        refine z_aload_n dX9_heard_86 rfl rfl ?_
        refine y_getR FX9_7 dX9_heard_87 rfl hm.o hm.f_a ?_
        refine z_bipush (v := 6) dX9_heard_90 (by decide) ?_
        refine z_dup2_11 dX9_heard_92 rfl rfl ?_
        refine y_ialN (6) dX9_heard_93 hm.A_a (Nat.le_of_ble_eq_true rfl) (by first | rfl | (simp only [← nI_add, ← pk_mul]; rfl)) (by omega) ?_
        refine z_eqi (y := nI (n6)) (by (repeat rw [pI_sI, if_pos rfl, if_neg (by omega)]); exact e6) ?_
        refine z_iconst (v := 1) dX9_heard_94 (by decide) ?_
        refine z_iadd dX9_heard_95 ?_
        refine z_eqi (nI_1 n6) ?_
        refine y_iasN (6) dX9_heard_96 hm.A_a (Nat.le_of_ble_eq_true rfl) (by first | rfl | (simp only [← nI_add, ← pk_mul]; rfl)) (by omega) ?_
        refine z_aload_n dX9_heard_97 rfl rfl ?_
        refine y_getR FX9_7 dX9_heard_98 rfl hm.o hm.f_a ?_
        refine z_bipush (v := 6) dX9_heard_101 (by decide) ?_
        refine y_ialN (6) dX9_heard_103 hm.A_a (Nat.le_of_ble_eq_true rfl) (rfl) (by omega) ?_
        refine z_eqi (show _ = nI (n6 + 1) by rw [pI_sI, if_pos rfl, if_pos rfl]) ?_
        refine z_iret dX9_heard_104 ?_
        exact hQ
      · -- b
        refine z_iload_n dX9_heard_0 rfl rfl ?_
        refine z_iconst (v := -1) dX9_heard_1 (by decide) ?_
        refine z_icmp_ne dX9_heard_2 rfl (fun _ => ?_) (fun c => absurd c (hc))
        refine z_aload_n dX9_heard_15 rfl rfl ?_
        refine z_iload_n dX9_heard_16 rfl rfl ?_
        refine y_callV (as := [_]) CX9_isFact LX9_381 IX9_isFact VX9_isFact ⟨rfl, Nat.le_of_ble_eq_true rfl⟩ dX9_heard_17 hm.o rfl (Nat.le_of_ble_eq_true rfl) (Nat.le_of_ble_eq_true rfl) (by omega) (r_isFact (d := 1) (by exact hm) (n := nf) (by exact e0) (by omega) _ (Nat.le_refl _)) (rok_z bI_01) ⟨Nat.le_refl _, Nat.le_refl _, hN, hS⟩ ?_
        refine z_if_eq dX9_heard_20 rfl (fun c => absurd c (bI_ne0.mpr hg.1)) (fun _ => ?_)
        refine z_aload_n dX9_heard_23 rfl rfl ?_
        refine y_getR FX9_7 dX9_heard_24 rfl hm.o hm.f_a ?_
        refine z_bipush (v := 6) dX9_heard_27 (by decide) ?_
        refine y_ialN (6) dX9_heard_29 hm.A_a (Nat.le_of_ble_eq_true rfl) (by first | rfl | (simp only [← nI_add, ← pk_mul]; rfl)) (by omega) ?_
        refine z_eqi (y := nI (n6)) (by (repeat rw [pI_sI, if_pos rfl, if_neg (by omega)]); exact e6) ?_
        refine z_bipush (v := 8) dX9_heard_30 (by decide) ?_
        refine z_icmp_ne dX9_heard_32 rfl (fun _ => ?_) (fun c => absurd c (by rw [show (8 : Int32) = nI 8 from rfl, nI_eq (by omega) (by omega)]; omega))
        refine z_aload_n dX9_heard_38 rfl rfl ?_
        refine y_getR FX9_7 dX9_heard_39 rfl hm.o hm.f_a ?_
        refine z_sipush (v := 158) dX9_heard_42 (by decide) ?_
        refine z_iconst (v := 2) dX9_heard_45 (by decide) ?_
        refine z_aload_n dX9_heard_46 rfl rfl ?_
        refine y_getR FX9_7 dX9_heard_47 rfl hm.o hm.f_a ?_
        refine z_bipush (v := 6) dX9_heard_50 (by decide) ?_
        refine y_ialN (6) dX9_heard_52 hm.A_a (Nat.le_of_ble_eq_true rfl) (by first | rfl | (simp only [← nI_add, ← pk_mul]; rfl)) (by omega) ?_
        refine z_eqi (y := nI (n6)) (by (repeat rw [pI_sI, if_pos rfl, if_neg (by omega)]); exact e6) ?_
        refine z_imul dX9_heard_53 ?_
        refine z_iadd dX9_heard_54 ?_
        refine z_iload_n dX9_heard_55 rfl rfl ?_
        refine y_iasN (158 + (2 * n6)) dX9_heard_56 hm.A_a (Nat.le_of_ble_eq_true rfl) (by first | rfl | (simp only [← nI_add, ← pk_mul]; rfl)) (by omega) ?_
        refine z_aload_n dX9_heard_57 rfl rfl ?_
        refine y_getR FX9_7 dX9_heard_58 rfl hm.o hm.f_a ?_
        refine z_sipush (v := 158) dX9_heard_61 (by decide) ?_
        refine z_iconst (v := 2) dX9_heard_64 (by decide) ?_
        refine z_aload_n dX9_heard_65 rfl rfl ?_
        refine y_getR FX9_7 dX9_heard_66 rfl hm.o hm.f_a ?_
        refine z_bipush (v := 6) dX9_heard_69 (by decide) ?_
        refine y_ialN (6) dX9_heard_71 hm.A_a (Nat.le_of_ble_eq_true rfl) (by first | rfl | (simp only [← nI_add, ← pk_mul]; rfl)) (by omega) ?_
        refine z_eqi (y := nI (n6)) (by (repeat rw [pI_sI, if_pos rfl, if_neg (by omega)]); exact e6) ?_
        refine z_imul dX9_heard_72 ?_
        refine z_iadd dX9_heard_73 ?_
        refine z_iconst (v := 1) dX9_heard_74 (by decide) ?_
        refine z_iadd dX9_heard_75 ?_
        refine z_iload_n dX9_heard_76 rfl rfl ?_
        refine z_if_eq dX9_heard_77 rfl (fun c => absurd c (by decide)) (fun _ => ?_)
        refine z_iconst (v := 1) dX9_heard_80 (by decide) ?_
        refine z_goto dX9_heard_81 rfl ?_
        refine y_iasN (158 + (2 * n6) + 1) dX9_heard_85 hm.A_a (Nat.le_of_ble_eq_true rfl) (by first | rfl | (simp only [← nI_add, ← pk_mul]; rfl)) (by omega) ?_
        refine z_aload_n dX9_heard_86 rfl rfl ?_
        refine y_getR FX9_7 dX9_heard_87 rfl hm.o hm.f_a ?_
        refine z_bipush (v := 6) dX9_heard_90 (by decide) ?_
        refine z_dup2_11 dX9_heard_92 rfl rfl ?_
        refine y_ialN (6) dX9_heard_93 hm.A_a (Nat.le_of_ble_eq_true rfl) (by first | rfl | (simp only [← nI_add, ← pk_mul]; rfl)) (by omega) ?_
        refine z_eqi (y := nI (n6)) (by (repeat rw [pI_sI, if_pos rfl, if_neg (by omega)]); exact e6) ?_
        refine z_iconst (v := 1) dX9_heard_94 (by decide) ?_
        refine z_iadd dX9_heard_95 ?_
        refine z_eqi (nI_1 n6) ?_
        refine y_iasN (6) dX9_heard_96 hm.A_a (Nat.le_of_ble_eq_true rfl) (by first | rfl | (simp only [← nI_add, ← pk_mul]; rfl)) (by omega) ?_
        refine z_aload_n dX9_heard_97 rfl rfl ?_
        refine y_getR FX9_7 dX9_heard_98 rfl hm.o hm.f_a ?_
        refine z_bipush (v := 6) dX9_heard_101 (by decide) ?_
        refine y_ialN (6) dX9_heard_103 hm.A_a (Nat.le_of_ble_eq_true rfl) (rfl) (by omega) ?_
        refine z_eqi (show _ = nI (n6 + 1) by rw [pI_sI, if_pos rfl, if_pos rfl]) ?_
        refine z_iret dX9_heard_104 ?_
        exact hQ
    · have hf : mHeard s.1 f b = (-2, s.1) := by
        unfold mHeard
        rw [if_neg hc, hnf, hn6, if_neg hg]
      rw [hf]
      refine ⟨h, ?_, hr, FM.rf⟩
      intro N S Q hN hS hQ
      refine z_iload_n dX9_heard_0 rfl rfl ?_
      refine z_iconst (v := -1) dX9_heard_1 (by decide) ?_
      refine z_icmp_ne dX9_heard_2 rfl (fun _ => ?_) (fun c => absurd c (hc))
      refine z_aload_n dX9_heard_15 rfl rfl ?_
      refine z_iload_n dX9_heard_16 rfl rfl ?_
      refine y_callV (as := [_]) CX9_isFact LX9_381 IX9_isFact VX9_isFact ⟨rfl, Nat.le_of_ble_eq_true rfl⟩ dX9_heard_17 hm.o rfl (Nat.le_of_ble_eq_true rfl) (Nat.le_of_ble_eq_true rfl) (by omega) (r_isFact (d := 1) (by exact hm) (n := nf) (by exact e0) (by omega) _ (Nat.le_refl _)) (rok_z bI_01) ⟨Nat.le_refl _, Nat.le_refl _, hN, hS⟩ ?_
      refine z_if_eq dX9_heard_20 rfl (fun c20 => ?_) (fun c20 => ?_)
      · -- to 35
        refine z_bipush (v := -2) dX9_heard_35 (by decide) ?_
        refine z_iret dX9_heard_37 ?_
        exact hQ
      · -- on
        refine z_aload_n dX9_heard_23 rfl rfl ?_
        refine y_getR FX9_7 dX9_heard_24 rfl hm.o hm.f_a ?_
        refine z_bipush (v := 6) dX9_heard_27 (by decide) ?_
        refine y_ialN (6) dX9_heard_29 hm.A_a (Nat.le_of_ble_eq_true rfl) (by first | rfl | (simp only [← nI_add, ← pk_mul]; rfl)) (by omega) ?_
        refine z_eqi (y := nI (n6)) (by (repeat rw [pI_sI, if_pos rfl, if_neg (by omega)]); exact e6) ?_
        refine z_bipush (v := 8) dX9_heard_30 (by decide) ?_
        refine z_icmp_ne dX9_heard_32 rfl (fun c32 => ?_) (fun c32 => ?_)
        · -- to 38
          refine absurd ⟨bI_ne0.mp c20, ?_⟩ hg
          have : ¬ n6 = 8 := fun q => c32 (by rw [q]; rfl)
          omega
        · -- on
          refine z_bipush (v := -2) dX9_heard_35 (by decide) ?_
          refine z_iret dX9_heard_37 ?_
          exact hQ

theorem R_owed {s : Ms} {h : Hp} {d : Nat} (hr : RM s h) (hv : IC s.1) (k u : Int32) (hd : 2 ≤ d) : ∃ h1, Sp d mX9_owed [.ref 488, .int k, .int u] h (some (.int (mOwed s.1 k u).1)) h1 ∧ RM ((mOwed s.1 k u).2, s.2) h1 ∧ FM h h1 := by
  have hm := hr.m
  have e0 : pI h 489 11 = nI (s.1 11) := hr.at (by omega) (by omega)
  have e7 : pI h 489 7 = nI (s.1 7) := hr.at (by omega) (by omega)
  obtain ⟨-, -, -, -, -, -, -, v7, -, -, -, v11, -⟩ := hv
  generalize hnp : s.1 11 = np at *
  generalize hn7 : s.1 7 = n7 at *
  by_cases hc : k = -1
  · subst hc
    have hf : mOwed s.1 (-1) u = (0, up s.1 7 0) := by unfold mOwed; rw [if_pos rfl]
    rw [hf]
    refine ⟨sI h 489 7 0, ?_, hr.aN (by omega) rfl, FM.rf.sI (by omega)⟩
    intro N S Q hN hS hQ
    refine z_iload_n dX9_owed_0 rfl rfl ?_
    refine z_iconst (v := -1) dX9_owed_1 (by decide) ?_
    refine z_icmp_ne dX9_owed_2 rfl (fun c => absurd (rfl) c) (fun _ => ?_)
    refine z_aload_n dX9_owed_5 rfl rfl ?_
    refine y_getR FX9_7 dX9_owed_6 rfl hm.o hm.f_a ?_
    refine z_bipush (v := 7) dX9_owed_9 (by decide) ?_
    refine z_iconst (v := 0) dX9_owed_11 (by decide) ?_
    refine y_iasN (7) dX9_owed_12 hm.A_a (Nat.le_of_ble_eq_true rfl) (by first | rfl | (simp only [← nI_add, ← pk_mul]; rfl)) (by omega) ?_
    refine z_iconst (v := 0) dX9_owed_13 (by decide) ?_
    refine z_iret dX9_owed_14 ?_
    exact hQ
  · by_cases hg : vin k np ∧ inr u 0 9999 ∧ n7 < 8
    · obtain ⟨k', hk', rfl⟩ := vin_of (by omega) hg.1
      obtain ⟨u', hu', rfl⟩ := inr_of (n := 9999) (by omega) hg.2.1
      have hf : mOwed s.1 (nI k') (nI u') = (nI (n7 + 1), up (up (up s.1 (174 + 2 * n7) k') (174 + 2 * n7 + 1) u') 7 (n7 + 1)) := by
        unfold mOwed
        rw [if_neg hc, hnp, hn7, if_pos hg, nn_nI (by omega), nn_nI (by omega)]
      rw [hf]
      refine ⟨sI (sI (sI h 489 (174 + 2 * n7) (nI k')) 489 (174 + 2 * n7 + 1) (nI u')) 489 7 (nI (n7 + 1)), ?_, ((hr.aN (i := 174 + 2 * n7) (v := k') (by omega) rfl).aN (i := 174 + 2 * n7 + 1) (v := u') (by omega) rfl).aN (i := 7) (v := n7 + 1) (by omega) rfl, ((FM.rf.sI (by omega)).sI (by omega)).sI (by omega)⟩
      intro N S Q hN hS hQ
      refine z_iload_n dX9_owed_0 rfl rfl ?_
      refine z_iconst (v := -1) dX9_owed_1 (by decide) ?_
      refine z_icmp_ne dX9_owed_2 rfl (fun _ => ?_) (fun c => absurd c (hc))
      refine z_aload_n dX9_owed_15 rfl rfl ?_
      refine z_iload_n dX9_owed_16 rfl rfl ?_
      refine y_callV (as := [_]) CX9_isProphecy LX9_75 IX9_isProphecy VX9_isProphecy ⟨rfl, Nat.le_of_ble_eq_true rfl⟩ dX9_owed_17 hm.o rfl (Nat.le_of_ble_eq_true rfl) (Nat.le_of_ble_eq_true rfl) (by omega) (r_isProphecy (d := 1) (by exact hm) (n := np) (by exact e0) (by omega) _ (Nat.le_refl _)) (rok_z bI_01) ⟨Nat.le_refl _, Nat.le_refl _, hN, hS⟩ ?_
      refine z_if_eq dX9_owed_20 rfl (fun c => absurd c (bI_ne0.mpr hg.1)) (fun _ => ?_)
      refine z_iload_n dX9_owed_23 rfl rfl ?_
      refine z_iconst (v := 0) dX9_owed_24 (by decide) ?_
      refine z_sipush (v := 9999) dX9_owed_25 (by decide) ?_
      refine y_callS (as := [_, _, _]) CX9_isIn LX9_63 SX9_isIn dX9_owed_28 rfl (Nat.le_of_ble_eq_true rfl) (Nat.le_of_ble_eq_true rfl) (by omega) (r_isIn _ _ _) (rok_z bI_01) ⟨Nat.le_refl _, Nat.le_refl _, hN, hS⟩ ?_
      refine z_if_eq dX9_owed_31 rfl (fun c => absurd c (bI_ne0.mpr hg.2.1)) (fun _ => ?_)
      refine z_aload_n dX9_owed_34 rfl rfl ?_
      refine y_getR FX9_7 dX9_owed_35 rfl hm.o hm.f_a ?_
      refine z_bipush (v := 7) dX9_owed_38 (by decide) ?_
      refine y_ialN (7) dX9_owed_40 hm.A_a (Nat.le_of_ble_eq_true rfl) (by first | rfl | (simp only [← nI_add, ← pk_mul]; rfl)) (by omega) ?_
      refine z_eqi (y := nI (n7)) (by (repeat rw [pI_sI, if_pos rfl, if_neg (by omega)]); exact e7) ?_
      refine z_bipush (v := 8) dX9_owed_41 (by decide) ?_
      refine z_icmp_ne dX9_owed_43 rfl (fun _ => ?_) (fun c => absurd c (by rw [show (8 : Int32) = nI 8 from rfl, nI_eq (by omega) (by omega)]; omega))
      refine z_aload_n dX9_owed_49 rfl rfl ?_
      refine y_getR FX9_7 dX9_owed_50 rfl hm.o hm.f_a ?_
      refine z_sipush (v := 174) dX9_owed_53 (by decide) ?_
      refine z_iconst (v := 2) dX9_owed_56 (by decide) ?_
      refine z_aload_n dX9_owed_57 rfl rfl ?_
      refine y_getR FX9_7 dX9_owed_58 rfl hm.o hm.f_a ?_
      refine z_bipush (v := 7) dX9_owed_61 (by decide) ?_
      refine y_ialN (7) dX9_owed_63 hm.A_a (Nat.le_of_ble_eq_true rfl) (by first | rfl | (simp only [← nI_add, ← pk_mul]; rfl)) (by omega) ?_
      refine z_eqi (y := nI (n7)) (by (repeat rw [pI_sI, if_pos rfl, if_neg (by omega)]); exact e7) ?_
      refine z_imul dX9_owed_64 ?_
      refine z_iadd dX9_owed_65 ?_
      refine z_iload_n dX9_owed_66 rfl rfl ?_
      refine y_iasN (174 + (2 * n7)) dX9_owed_67 hm.A_a (Nat.le_of_ble_eq_true rfl) (by first | rfl | (simp only [← nI_add, ← pk_mul]; rfl)) (by omega) ?_
      refine z_aload_n dX9_owed_68 rfl rfl ?_
      refine y_getR FX9_7 dX9_owed_69 rfl hm.o hm.f_a ?_
      refine z_sipush (v := 174) dX9_owed_72 (by decide) ?_
      refine z_iconst (v := 2) dX9_owed_75 (by decide) ?_
      refine z_aload_n dX9_owed_76 rfl rfl ?_
      refine y_getR FX9_7 dX9_owed_77 rfl hm.o hm.f_a ?_
      refine z_bipush (v := 7) dX9_owed_80 (by decide) ?_
      refine y_ialN (7) dX9_owed_82 hm.A_a (Nat.le_of_ble_eq_true rfl) (by first | rfl | (simp only [← nI_add, ← pk_mul]; rfl)) (by omega) ?_
      refine z_eqi (y := nI (n7)) (by (repeat rw [pI_sI, if_pos rfl, if_neg (by omega)]); exact e7) ?_
      refine z_imul dX9_owed_83 ?_
      refine z_iadd dX9_owed_84 ?_
      refine z_iconst (v := 1) dX9_owed_85 (by decide) ?_
      refine z_iadd dX9_owed_86 ?_
      refine z_iload_n dX9_owed_87 rfl rfl ?_
      refine y_iasN (174 + (2 * n7) + 1) dX9_owed_88 hm.A_a (Nat.le_of_ble_eq_true rfl) (by first | rfl | (simp only [← nI_add, ← pk_mul]; rfl)) (by omega) ?_
      refine z_aload_n dX9_owed_89 rfl rfl ?_
      refine y_getR FX9_7 dX9_owed_90 rfl hm.o hm.f_a ?_
      refine z_bipush (v := 7) dX9_owed_93 (by decide) ?_
      refine z_dup2_11 dX9_owed_95 rfl rfl ?_
      refine y_ialN (7) dX9_owed_96 hm.A_a (Nat.le_of_ble_eq_true rfl) (by first | rfl | (simp only [← nI_add, ← pk_mul]; rfl)) (by omega) ?_
      refine z_eqi (y := nI (n7)) (by (repeat rw [pI_sI, if_pos rfl, if_neg (by omega)]); exact e7) ?_
      refine z_iconst (v := 1) dX9_owed_97 (by decide) ?_
      refine z_iadd dX9_owed_98 ?_
      refine z_eqi (nI_1 n7) ?_
      refine y_iasN (7) dX9_owed_99 hm.A_a (Nat.le_of_ble_eq_true rfl) (by first | rfl | (simp only [← nI_add, ← pk_mul]; rfl)) (by omega) ?_
      refine z_aload_n dX9_owed_100 rfl rfl ?_
      refine y_getR FX9_7 dX9_owed_101 rfl hm.o hm.f_a ?_
      refine z_bipush (v := 7) dX9_owed_104 (by decide) ?_
      refine y_ialN (7) dX9_owed_106 hm.A_a (Nat.le_of_ble_eq_true rfl) (rfl) (by omega) ?_
      refine z_eqi (show _ = nI (n7 + 1) by rw [pI_sI, if_pos rfl, if_pos rfl]) ?_
      refine z_iret dX9_owed_107 ?_
      exact hQ
    · have hf : mOwed s.1 k u = (-2, s.1) := by
        unfold mOwed
        rw [if_neg hc, hnp, hn7, if_neg hg]
      rw [hf]
      refine ⟨h, ?_, hr, FM.rf⟩
      intro N S Q hN hS hQ
      refine z_iload_n dX9_owed_0 rfl rfl ?_
      refine z_iconst (v := -1) dX9_owed_1 (by decide) ?_
      refine z_icmp_ne dX9_owed_2 rfl (fun _ => ?_) (fun c => absurd c (hc))
      refine z_aload_n dX9_owed_15 rfl rfl ?_
      refine z_iload_n dX9_owed_16 rfl rfl ?_
      refine y_callV (as := [_]) CX9_isProphecy LX9_75 IX9_isProphecy VX9_isProphecy ⟨rfl, Nat.le_of_ble_eq_true rfl⟩ dX9_owed_17 hm.o rfl (Nat.le_of_ble_eq_true rfl) (Nat.le_of_ble_eq_true rfl) (by omega) (r_isProphecy (d := 1) (by exact hm) (n := np) (by exact e0) (by omega) _ (Nat.le_refl _)) (rok_z bI_01) ⟨Nat.le_refl _, Nat.le_refl _, hN, hS⟩ ?_
      refine z_if_eq dX9_owed_20 rfl (fun c20 => ?_) (fun c20 => ?_)
      · -- to 46
        refine z_bipush (v := -2) dX9_owed_46 (by decide) ?_
        refine z_iret dX9_owed_48 ?_
        exact hQ
      · -- on
        refine z_iload_n dX9_owed_23 rfl rfl ?_
        refine z_iconst (v := 0) dX9_owed_24 (by decide) ?_
        refine z_sipush (v := 9999) dX9_owed_25 (by decide) ?_
        refine y_callS (as := [_, _, _]) CX9_isIn LX9_63 SX9_isIn dX9_owed_28 rfl (Nat.le_of_ble_eq_true rfl) (Nat.le_of_ble_eq_true rfl) (by omega) (r_isIn _ _ _) (rok_z bI_01) ⟨Nat.le_refl _, Nat.le_refl _, hN, hS⟩ ?_
        refine z_if_eq dX9_owed_31 rfl (fun c31 => ?_) (fun c31 => ?_)
        · -- to 46
          refine z_bipush (v := -2) dX9_owed_46 (by decide) ?_
          refine z_iret dX9_owed_48 ?_
          exact hQ
        · -- on
          refine z_aload_n dX9_owed_34 rfl rfl ?_
          refine y_getR FX9_7 dX9_owed_35 rfl hm.o hm.f_a ?_
          refine z_bipush (v := 7) dX9_owed_38 (by decide) ?_
          refine y_ialN (7) dX9_owed_40 hm.A_a (Nat.le_of_ble_eq_true rfl) (by first | rfl | (simp only [← nI_add, ← pk_mul]; rfl)) (by omega) ?_
          refine z_eqi (y := nI (n7)) (by (repeat rw [pI_sI, if_pos rfl, if_neg (by omega)]); exact e7) ?_
          refine z_bipush (v := 8) dX9_owed_41 (by decide) ?_
          refine z_icmp_ne dX9_owed_43 rfl (fun c43 => ?_) (fun c43 => ?_)
          · -- to 49
            refine absurd ⟨bI_ne0.mp c20, bI_ne0.mp c31, ?_⟩ hg
            have : ¬ n7 = 8 := fun q => c43 (by rw [q]; rfl)
            omega
          · -- on
            refine z_bipush (v := -2) dX9_owed_46 (by decide) ?_
            refine z_iret dX9_owed_48 ?_
            exact hQ

theorem pow_le8 {n : Nat} (h : n ≤ 8) : 0 < 2 ^ n ∧ 2 ^ n ≤ 256 := ⟨Nat.pow_pos (by omega), show 2 ^ n ≤ 2 ^ 8 from Nat.pow_le_pow_right (by omega) h⟩
/-- a set of facts, as a natural -/
theorem fs_of {x : Int32} {n : Nat} (hn : n ≤ 256) (h : 1 ≤ x ∧ x < nI n) : ∃ j : Nat, 0 < j ∧ j < n ∧ x = nI j := by
  have h0 : (0 : Int32) ≤ x := by
    have := h.1
    rw [Int32.le_iff_toInt_le] at *
    have e : (1 : Int32).toInt = 1 := by decide
    have e0 : (0 : Int32).toInt = 0 := by decide
    omega
  obtain ⟨j, hj, rfl⟩ := vin_of (n := n) (by omega) ⟨h0, h.2⟩
  refine ⟨j, ?_, hj, rfl⟩
  have := (nI_leI (a := 1) (b := j) (by omega) (by omega)).mp h.1
  omega

theorem R_offer {s : Ms} {h : Hp} {d : Nat} (hr : RM s h) (hv : IC s.1) {b : Nat} (hb : b = 0 ∨ b = 1) (f e u : Int32) (hd : 2 ≤ d) : ∃ h1, Sp d mX9_offer [.ref 488, .int (nI b), .int f, .int e, .int u] h (some (.int (mOffer s.1 b f e u).1)) h1 ∧ RM ((mOffer s.1 b f e u).2, s.2) h1 ∧ FM h h1 := by
  have hm := hr.m
  have e0 : pI h 489 0 = nI (s.1 0) := hr.at (by omega) (by omega)
  have e5 : pI h 489 5 = nI (s.1 5) := hr.at (by omega) (by omega)
  obtain ⟨v0, -, -, -, -, v5, -⟩ := hv
  generalize hnf : s.1 0 = nf at *
  generalize hn5 : s.1 5 = n5 at *
  have hp8 := pow_le8 v0
  by_cases hc : e = -1
  · subst hc
    have hf : mOffer s.1 b f (-1) u = (0, up s.1 5 0) := by unfold mOffer; rw [if_pos rfl]
    rw [hf]
    refine ⟨sI h 489 5 0, ?_, hr.aN (by omega) rfl, FM.rf.sI (by omega)⟩
    intro N S Q hN hS hQ
    refine z_iload_n dX9_offer_0 rfl rfl ?_
    refine z_iconst (v := -1) dX9_offer_1 (by decide) ?_
    refine z_icmp_ne dX9_offer_2 rfl (fun c => absurd (rfl) c) (fun _ => ?_)
    refine z_aload_n dX9_offer_5 rfl rfl ?_
    refine y_getR FX9_7 dX9_offer_6 rfl hm.o hm.f_a ?_
    refine z_iconst (v := 5) dX9_offer_9 (by decide) ?_
    refine z_iconst (v := 0) dX9_offer_10 (by decide) ?_
    refine y_iasN (5) dX9_offer_11 hm.A_a (Nat.le_of_ble_eq_true rfl) (by first | rfl | (simp only [← nI_add, ← pk_mul]; rfl)) (by omega) ?_
    refine z_iconst (v := 0) dX9_offer_12 (by decide) ?_
    refine z_iret dX9_offer_13 ?_
    exact hQ
  · by_cases hg : (1 ≤ f ∧ f < nI (2 ^ nf)) ∧ inr e 0 999 ∧ inr u 0 999 ∧ n5 < 8
    · obtain ⟨f', hf0, hf', rfl⟩ := fs_of hp8.2 hg.1
      obtain ⟨e', he', rfl⟩ := inr_of (n := 999) (by omega) hg.2.1
      obtain ⟨u', hu', rfl⟩ := inr_of (n := 999) (by omega) hg.2.2.1
      have hf : mOffer s.1 b (nI f') (nI e') (nI u') = (nI (n5 + 1), up (up (up (up (up s.1 (126 + 4 * n5) b) (126 + 4 * n5 + 1) f') (126 + 4 * n5 + 2) e') (126 + 4 * n5 + 3) u') 5 (n5 + 1)) := by
        unfold mOffer
        rw [if_neg hc, hnf, hn5, if_pos hg, nn_nI (by omega), nn_nI (by omega), nn_nI (by omega)]
      rw [hf]
      refine ⟨sI (sI (sI (sI (sI h 489 (126 + 4 * n5) (nI b)) 489 (126 + 4 * n5 + 1) (nI f')) 489 (126 + 4 * n5 + 2) (nI e')) 489 (126 + 4 * n5 + 3) (nI u')) 489 5 (nI (n5 + 1)), ?_, ((((hr.aN (i := 126 + 4 * n5) (v := b) (by omega) rfl).aN (i := 126 + 4 * n5 + 1) (v := f') (by omega) rfl).aN (i := 126 + 4 * n5 + 2) (v := e') (by omega) rfl).aN (i := 126 + 4 * n5 + 3) (v := u') (by omega) rfl).aN (i := 5) (v := n5 + 1) (by omega) rfl, ((((FM.rf.sI (by omega)).sI (by omega)).sI (by omega)).sI (by omega)).sI (by omega)⟩
      intro N S Q hN hS hQ
      rcases hb with rfl | rfl
      · -- b
        refine z_iload_n dX9_offer_0 rfl rfl ?_
        refine z_iconst (v := -1) dX9_offer_1 (by decide) ?_
        refine z_icmp_ne dX9_offer_2 rfl (fun _ => ?_) (fun c => absurd c (hc))
        refine z_aload_n dX9_offer_14 rfl rfl ?_
        refine z_iload_n dX9_offer_15 rfl rfl ?_
        refine y_callV (as := [_]) CX9_areFacts LX9_371 IX9_areFacts VX9_areFacts ⟨rfl, Nat.le_of_ble_eq_true rfl⟩ dX9_offer_16 hm.o rfl (Nat.le_of_ble_eq_true rfl) (Nat.le_of_ble_eq_true rfl) (by omega) (r_areFacts (d := 1) (by exact hm) (n := nf) (by exact e0) v0 _ (Nat.le_refl _)) (rok_z bI_01) ⟨Nat.le_refl _, Nat.le_refl _, hN, hS⟩ ?_
        refine z_if_eq dX9_offer_19 rfl (fun c => absurd c (bI_ne0.mpr hg.1)) (fun _ => ?_)
        refine z_iload_n dX9_offer_22 rfl rfl ?_
        refine z_iconst (v := 0) dX9_offer_23 (by decide) ?_
        refine z_sipush (v := 999) dX9_offer_24 (by decide) ?_
        refine y_callS (as := [_, _, _]) CX9_isIn LX9_63 SX9_isIn dX9_offer_27 rfl (Nat.le_of_ble_eq_true rfl) (Nat.le_of_ble_eq_true rfl) (by omega) (r_isIn _ _ _) (rok_z bI_01) ⟨Nat.le_refl _, Nat.le_refl _, hN, hS⟩ ?_
        refine z_if_eq dX9_offer_30 rfl (fun c => absurd c (bI_ne0.mpr hg.2.1)) (fun _ => ?_)
        refine z_iload dX9_offer_33 rfl ?_
        refine z_iconst (v := 0) dX9_offer_35 (by decide) ?_
        refine z_sipush (v := 999) dX9_offer_36 (by decide) ?_
        refine y_callS (as := [_, _, _]) CX9_isIn LX9_63 SX9_isIn dX9_offer_39 rfl (Nat.le_of_ble_eq_true rfl) (Nat.le_of_ble_eq_true rfl) (by omega) (r_isIn _ _ _) (rok_z bI_01) ⟨Nat.le_refl _, Nat.le_refl _, hN, hS⟩ ?_
        refine z_if_eq dX9_offer_42 rfl (fun c => absurd c (bI_ne0.mpr hg.2.2.1)) (fun _ => ?_)
        refine z_aload_n dX9_offer_45 rfl rfl ?_
        refine y_getR FX9_7 dX9_offer_46 rfl hm.o hm.f_a ?_
        refine z_iconst (v := 5) dX9_offer_49 (by decide) ?_
        refine y_ialN (5) dX9_offer_50 hm.A_a (Nat.le_of_ble_eq_true rfl) (by first | rfl | (simp only [← nI_add, ← pk_mul]; rfl)) (by omega) ?_
        refine z_eqi (y := nI (n5)) (by (repeat rw [pI_sI, if_pos rfl, if_neg (by omega)]); exact e5) ?_
        refine z_bipush (v := 8) dX9_offer_51 (by decide) ?_
        refine z_icmp_ne dX9_offer_53 rfl (fun _ => ?_) (fun c => absurd c (by rw [show (8 : Int32) = nI 8 from rfl, nI_eq (by omega) (by omega)]; omega))
        refine z_bipush (v := 126) dX9_offer_59 (by decide) ?_
        refine z_iconst (v := 4) dX9_offer_61 (by decide) ?_
        refine z_aload_n dX9_offer_62 rfl rfl ?_
        refine y_getR FX9_7 dX9_offer_63 rfl hm.o hm.f_a ?_
        refine z_iconst (v := 5) dX9_offer_66 (by decide) ?_
        refine y_ialN (5) dX9_offer_67 hm.A_a (Nat.le_of_ble_eq_true rfl) (by first | rfl | (simp only [← nI_add, ← pk_mul]; rfl)) (by omega) ?_
        refine z_eqi (y := nI (n5)) (by (repeat rw [pI_sI, if_pos rfl, if_neg (by omega)]); exact e5) ?_
        refine z_imul dX9_offer_68 ?_
        refine z_iadd dX9_offer_69 ?_
        refine z_istore dX9_offer_70 (Nat.le_of_ble_eq_true rfl) ?_
        refine z_aload_n dX9_offer_72 rfl rfl ?_
        refine y_getR FX9_7 dX9_offer_73 rfl hm.o hm.f_a ?_
        refine z_iload dX9_offer_76 rfl ?_
        refine z_iload_n dX9_offer_78 rfl rfl ?_
        refine z_if_eq dX9_offer_79 rfl (fun _ => ?_) (fun c => absurd (rfl) c)
        refine z_iconst (v := 0) dX9_offer_86 (by decide) ?_
        refine y_iasN (126 + (4 * n5)) dX9_offer_87 hm.A_a (Nat.le_of_ble_eq_true rfl) (by first | rfl | (simp only [← nI_add, ← pk_mul]; rfl)) (by omega) ?_
        refine z_aload_n dX9_offer_88 rfl rfl ?_
        refine y_getR FX9_7 dX9_offer_89 rfl hm.o hm.f_a ?_
        refine z_iload dX9_offer_92 rfl ?_
        refine z_iconst (v := 1) dX9_offer_94 (by decide) ?_
        refine z_iadd dX9_offer_95 ?_
        refine z_iload_n dX9_offer_96 rfl rfl ?_
        refine y_iasN (126 + (4 * n5) + 1) dX9_offer_97 hm.A_a (Nat.le_of_ble_eq_true rfl) (by first | rfl | (simp only [← nI_add, ← pk_mul]; rfl)) (by omega) ?_
        refine z_aload_n dX9_offer_98 rfl rfl ?_
        refine y_getR FX9_7 dX9_offer_99 rfl hm.o hm.f_a ?_
        refine z_iload dX9_offer_102 rfl ?_
        refine z_iconst (v := 2) dX9_offer_104 (by decide) ?_
        refine z_iadd dX9_offer_105 ?_
        refine z_iload_n dX9_offer_106 rfl rfl ?_
        refine y_iasN (126 + (4 * n5) + 2) dX9_offer_107 hm.A_a (Nat.le_of_ble_eq_true rfl) (by first | rfl | (simp only [← nI_add, ← pk_mul]; rfl)) (by omega) ?_
        refine z_aload_n dX9_offer_108 rfl rfl ?_
        refine y_getR FX9_7 dX9_offer_109 rfl hm.o hm.f_a ?_
        refine z_iload dX9_offer_112 rfl ?_
        refine z_iconst (v := 3) dX9_offer_114 (by decide) ?_
        refine z_iadd dX9_offer_115 ?_
        refine z_iload dX9_offer_116 rfl ?_
        refine y_iasN (126 + (4 * n5) + 3) dX9_offer_118 hm.A_a (Nat.le_of_ble_eq_true rfl) (by first | rfl | (simp only [← nI_add, ← pk_mul]; rfl)) (by omega) ?_
        refine z_aload_n dX9_offer_119 rfl rfl ?_
        refine y_getR FX9_7 dX9_offer_120 rfl hm.o hm.f_a ?_
        refine z_iconst (v := 5) dX9_offer_123 (by decide) ?_
        refine z_dup2_11 dX9_offer_124 rfl rfl ?_
        refine y_ialN (5) dX9_offer_125 hm.A_a (Nat.le_of_ble_eq_true rfl) (by first | rfl | (simp only [← nI_add, ← pk_mul]; rfl)) (by omega) ?_
        refine z_eqi (y := nI (n5)) (by (repeat rw [pI_sI, if_pos rfl, if_neg (by omega)]); exact e5) ?_
        refine z_iconst (v := 1) dX9_offer_126 (by decide) ?_
        refine z_iadd dX9_offer_127 ?_
        refine z_eqi (nI_1 n5) ?_
        refine y_iasN (5) dX9_offer_128 hm.A_a (Nat.le_of_ble_eq_true rfl) (by first | rfl | (simp only [← nI_add, ← pk_mul]; rfl)) (by omega) ?_
        refine z_aload_n dX9_offer_129 rfl rfl ?_
        refine y_getR FX9_7 dX9_offer_130 rfl hm.o hm.f_a ?_
        refine z_iconst (v := 5) dX9_offer_133 (by decide) ?_
        refine y_ialN (5) dX9_offer_134 hm.A_a (Nat.le_of_ble_eq_true rfl) (rfl) (by omega) ?_
        refine z_eqi (show _ = nI (n5 + 1) by rw [pI_sI, if_pos rfl, if_pos rfl]) ?_
        refine z_iret dX9_offer_135 ?_
        exact hQ
      · -- b
        refine z_iload_n dX9_offer_0 rfl rfl ?_
        refine z_iconst (v := -1) dX9_offer_1 (by decide) ?_
        refine z_icmp_ne dX9_offer_2 rfl (fun _ => ?_) (fun c => absurd c (hc))
        refine z_aload_n dX9_offer_14 rfl rfl ?_
        refine z_iload_n dX9_offer_15 rfl rfl ?_
        refine y_callV (as := [_]) CX9_areFacts LX9_371 IX9_areFacts VX9_areFacts ⟨rfl, Nat.le_of_ble_eq_true rfl⟩ dX9_offer_16 hm.o rfl (Nat.le_of_ble_eq_true rfl) (Nat.le_of_ble_eq_true rfl) (by omega) (r_areFacts (d := 1) (by exact hm) (n := nf) (by exact e0) v0 _ (Nat.le_refl _)) (rok_z bI_01) ⟨Nat.le_refl _, Nat.le_refl _, hN, hS⟩ ?_
        refine z_if_eq dX9_offer_19 rfl (fun c => absurd c (bI_ne0.mpr hg.1)) (fun _ => ?_)
        refine z_iload_n dX9_offer_22 rfl rfl ?_
        refine z_iconst (v := 0) dX9_offer_23 (by decide) ?_
        refine z_sipush (v := 999) dX9_offer_24 (by decide) ?_
        refine y_callS (as := [_, _, _]) CX9_isIn LX9_63 SX9_isIn dX9_offer_27 rfl (Nat.le_of_ble_eq_true rfl) (Nat.le_of_ble_eq_true rfl) (by omega) (r_isIn _ _ _) (rok_z bI_01) ⟨Nat.le_refl _, Nat.le_refl _, hN, hS⟩ ?_
        refine z_if_eq dX9_offer_30 rfl (fun c => absurd c (bI_ne0.mpr hg.2.1)) (fun _ => ?_)
        refine z_iload dX9_offer_33 rfl ?_
        refine z_iconst (v := 0) dX9_offer_35 (by decide) ?_
        refine z_sipush (v := 999) dX9_offer_36 (by decide) ?_
        refine y_callS (as := [_, _, _]) CX9_isIn LX9_63 SX9_isIn dX9_offer_39 rfl (Nat.le_of_ble_eq_true rfl) (Nat.le_of_ble_eq_true rfl) (by omega) (r_isIn _ _ _) (rok_z bI_01) ⟨Nat.le_refl _, Nat.le_refl _, hN, hS⟩ ?_
        refine z_if_eq dX9_offer_42 rfl (fun c => absurd c (bI_ne0.mpr hg.2.2.1)) (fun _ => ?_)
        refine z_aload_n dX9_offer_45 rfl rfl ?_
        refine y_getR FX9_7 dX9_offer_46 rfl hm.o hm.f_a ?_
        refine z_iconst (v := 5) dX9_offer_49 (by decide) ?_
        refine y_ialN (5) dX9_offer_50 hm.A_a (Nat.le_of_ble_eq_true rfl) (by first | rfl | (simp only [← nI_add, ← pk_mul]; rfl)) (by omega) ?_
        refine z_eqi (y := nI (n5)) (by (repeat rw [pI_sI, if_pos rfl, if_neg (by omega)]); exact e5) ?_
        refine z_bipush (v := 8) dX9_offer_51 (by decide) ?_
        refine z_icmp_ne dX9_offer_53 rfl (fun _ => ?_) (fun c => absurd c (by rw [show (8 : Int32) = nI 8 from rfl, nI_eq (by omega) (by omega)]; omega))
        refine z_bipush (v := 126) dX9_offer_59 (by decide) ?_
        refine z_iconst (v := 4) dX9_offer_61 (by decide) ?_
        refine z_aload_n dX9_offer_62 rfl rfl ?_
        refine y_getR FX9_7 dX9_offer_63 rfl hm.o hm.f_a ?_
        refine z_iconst (v := 5) dX9_offer_66 (by decide) ?_
        refine y_ialN (5) dX9_offer_67 hm.A_a (Nat.le_of_ble_eq_true rfl) (by first | rfl | (simp only [← nI_add, ← pk_mul]; rfl)) (by omega) ?_
        refine z_eqi (y := nI (n5)) (by (repeat rw [pI_sI, if_pos rfl, if_neg (by omega)]); exact e5) ?_
        refine z_imul dX9_offer_68 ?_
        refine z_iadd dX9_offer_69 ?_
        refine z_istore dX9_offer_70 (Nat.le_of_ble_eq_true rfl) ?_
        refine z_aload_n dX9_offer_72 rfl rfl ?_
        refine y_getR FX9_7 dX9_offer_73 rfl hm.o hm.f_a ?_
        refine z_iload dX9_offer_76 rfl ?_
        refine z_iload_n dX9_offer_78 rfl rfl ?_
        refine z_if_eq dX9_offer_79 rfl (fun c => absurd c (by decide)) (fun _ => ?_)
        refine z_iconst (v := 1) dX9_offer_82 (by decide) ?_
        refine z_goto dX9_offer_83 rfl ?_
        refine y_iasN (126 + (4 * n5)) dX9_offer_87 hm.A_a (Nat.le_of_ble_eq_true rfl) (by first | rfl | (simp only [← nI_add, ← pk_mul]; rfl)) (by omega) ?_
        refine z_aload_n dX9_offer_88 rfl rfl ?_
        refine y_getR FX9_7 dX9_offer_89 rfl hm.o hm.f_a ?_
        refine z_iload dX9_offer_92 rfl ?_
        refine z_iconst (v := 1) dX9_offer_94 (by decide) ?_
        refine z_iadd dX9_offer_95 ?_
        refine z_iload_n dX9_offer_96 rfl rfl ?_
        refine y_iasN (126 + (4 * n5) + 1) dX9_offer_97 hm.A_a (Nat.le_of_ble_eq_true rfl) (by first | rfl | (simp only [← nI_add, ← pk_mul]; rfl)) (by omega) ?_
        refine z_aload_n dX9_offer_98 rfl rfl ?_
        refine y_getR FX9_7 dX9_offer_99 rfl hm.o hm.f_a ?_
        refine z_iload dX9_offer_102 rfl ?_
        refine z_iconst (v := 2) dX9_offer_104 (by decide) ?_
        refine z_iadd dX9_offer_105 ?_
        refine z_iload_n dX9_offer_106 rfl rfl ?_
        refine y_iasN (126 + (4 * n5) + 2) dX9_offer_107 hm.A_a (Nat.le_of_ble_eq_true rfl) (by first | rfl | (simp only [← nI_add, ← pk_mul]; rfl)) (by omega) ?_
        refine z_aload_n dX9_offer_108 rfl rfl ?_
        refine y_getR FX9_7 dX9_offer_109 rfl hm.o hm.f_a ?_
        refine z_iload dX9_offer_112 rfl ?_
        refine z_iconst (v := 3) dX9_offer_114 (by decide) ?_
        refine z_iadd dX9_offer_115 ?_
        refine z_iload dX9_offer_116 rfl ?_
        refine y_iasN (126 + (4 * n5) + 3) dX9_offer_118 hm.A_a (Nat.le_of_ble_eq_true rfl) (by first | rfl | (simp only [← nI_add, ← pk_mul]; rfl)) (by omega) ?_
        refine z_aload_n dX9_offer_119 rfl rfl ?_
        refine y_getR FX9_7 dX9_offer_120 rfl hm.o hm.f_a ?_
        refine z_iconst (v := 5) dX9_offer_123 (by decide) ?_
        refine z_dup2_11 dX9_offer_124 rfl rfl ?_
        refine y_ialN (5) dX9_offer_125 hm.A_a (Nat.le_of_ble_eq_true rfl) (by first | rfl | (simp only [← nI_add, ← pk_mul]; rfl)) (by omega) ?_
        refine z_eqi (y := nI (n5)) (by (repeat rw [pI_sI, if_pos rfl, if_neg (by omega)]); exact e5) ?_
        refine z_iconst (v := 1) dX9_offer_126 (by decide) ?_
        refine z_iadd dX9_offer_127 ?_
        refine z_eqi (nI_1 n5) ?_
        refine y_iasN (5) dX9_offer_128 hm.A_a (Nat.le_of_ble_eq_true rfl) (by first | rfl | (simp only [← nI_add, ← pk_mul]; rfl)) (by omega) ?_
        refine z_aload_n dX9_offer_129 rfl rfl ?_
        refine y_getR FX9_7 dX9_offer_130 rfl hm.o hm.f_a ?_
        refine z_iconst (v := 5) dX9_offer_133 (by decide) ?_
        refine y_ialN (5) dX9_offer_134 hm.A_a (Nat.le_of_ble_eq_true rfl) (rfl) (by omega) ?_
        refine z_eqi (show _ = nI (n5 + 1) by rw [pI_sI, if_pos rfl, if_pos rfl]) ?_
        refine z_iret dX9_offer_135 ?_
        exact hQ
    · have hf : mOffer s.1 b f e u = (-2, s.1) := by
        unfold mOffer
        rw [if_neg hc, hnf, hn5, if_neg hg]
      rw [hf]
      refine ⟨h, ?_, hr, FM.rf⟩
      intro N S Q hN hS hQ
      refine z_iload_n dX9_offer_0 rfl rfl ?_
      refine z_iconst (v := -1) dX9_offer_1 (by decide) ?_
      refine z_icmp_ne dX9_offer_2 rfl (fun _ => ?_) (fun c => absurd c (hc))
      refine z_aload_n dX9_offer_14 rfl rfl ?_
      refine z_iload_n dX9_offer_15 rfl rfl ?_
      refine y_callV (as := [_]) CX9_areFacts LX9_371 IX9_areFacts VX9_areFacts ⟨rfl, Nat.le_of_ble_eq_true rfl⟩ dX9_offer_16 hm.o rfl (Nat.le_of_ble_eq_true rfl) (Nat.le_of_ble_eq_true rfl) (by omega) (r_areFacts (d := 1) (by exact hm) (n := nf) (by exact e0) v0 _ (Nat.le_refl _)) (rok_z bI_01) ⟨Nat.le_refl _, Nat.le_refl _, hN, hS⟩ ?_
      refine z_if_eq dX9_offer_19 rfl (fun c19 => ?_) (fun c19 => ?_)
      · -- to 56
        refine z_bipush (v := -2) dX9_offer_56 (by decide) ?_
        refine z_iret dX9_offer_58 ?_
        exact hQ
      · -- on
        refine z_iload_n dX9_offer_22 rfl rfl ?_
        refine z_iconst (v := 0) dX9_offer_23 (by decide) ?_
        refine z_sipush (v := 999) dX9_offer_24 (by decide) ?_
        refine y_callS (as := [_, _, _]) CX9_isIn LX9_63 SX9_isIn dX9_offer_27 rfl (Nat.le_of_ble_eq_true rfl) (Nat.le_of_ble_eq_true rfl) (by omega) (r_isIn _ _ _) (rok_z bI_01) ⟨Nat.le_refl _, Nat.le_refl _, hN, hS⟩ ?_
        refine z_if_eq dX9_offer_30 rfl (fun c30 => ?_) (fun c30 => ?_)
        · -- to 56
          refine z_bipush (v := -2) dX9_offer_56 (by decide) ?_
          refine z_iret dX9_offer_58 ?_
          exact hQ
        · -- on
          refine z_iload dX9_offer_33 rfl ?_
          refine z_iconst (v := 0) dX9_offer_35 (by decide) ?_
          refine z_sipush (v := 999) dX9_offer_36 (by decide) ?_
          refine y_callS (as := [_, _, _]) CX9_isIn LX9_63 SX9_isIn dX9_offer_39 rfl (Nat.le_of_ble_eq_true rfl) (Nat.le_of_ble_eq_true rfl) (by omega) (r_isIn _ _ _) (rok_z bI_01) ⟨Nat.le_refl _, Nat.le_refl _, hN, hS⟩ ?_
          refine z_if_eq dX9_offer_42 rfl (fun c42 => ?_) (fun c42 => ?_)
          · -- to 56
            refine z_bipush (v := -2) dX9_offer_56 (by decide) ?_
            refine z_iret dX9_offer_58 ?_
            exact hQ
          · -- on
            refine z_aload_n dX9_offer_45 rfl rfl ?_
            refine y_getR FX9_7 dX9_offer_46 rfl hm.o hm.f_a ?_
            refine z_iconst (v := 5) dX9_offer_49 (by decide) ?_
            refine y_ialN (5) dX9_offer_50 hm.A_a (Nat.le_of_ble_eq_true rfl) (by first | rfl | (simp only [← nI_add, ← pk_mul]; rfl)) (by omega) ?_
            refine z_eqi (y := nI (n5)) (by (repeat rw [pI_sI, if_pos rfl, if_neg (by omega)]); exact e5) ?_
            refine z_bipush (v := 8) dX9_offer_51 (by decide) ?_
            refine z_icmp_ne dX9_offer_53 rfl (fun c53 => ?_) (fun c53 => ?_)
            · -- to 59
              refine absurd ⟨bI_ne0.mp c19, bI_ne0.mp c30, bI_ne0.mp c42, ?_⟩ hg
              have : ¬ n5 = 8 := fun q => c53 (by rw [q]; rfl)
              omega
            · -- on
              refine z_bipush (v := -2) dX9_offer_56 (by decide) ?_
              refine z_iret dX9_offer_58 ?_
              exact hQ

