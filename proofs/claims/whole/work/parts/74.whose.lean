/-! whose law it was: both sides (walks by program: wip/whole/gen74.py) -/
/-- what was told of dues, in its bounds -/
def IO7 (a : Fl) : Prop := ∀ i, i < a 7 → a (174 + 2 * i) < 12 ∧ a (174 + 2 * i + 1) ≤ 9999
abbrev ag1 (tf : Nat → Int32) (a : Fl) (t i : Nat) : Prop := a (174 + 2 * i) < a 11 → mDues tf (t + 1) (snap a) (a (174 + 2 * i)) = a (174 + 2 * i + 1)
def agB (tf : Nat → Int32) (a : Fl) (t : Nat) : Nat → Bool
  | 0 => true
  | i + 1 => agB tf a t i && decide (ag1 tf a t i)
theorem agB_t {tf : Nat → Int32} {a : Fl} {t i : Nat} (h : agB tf a t i = true) (h1 : ag1 tf a t i) : agB tf a t (i + 1) = true := by
  show (agB tf a t i && decide (ag1 tf a t i)) = true
  rw [h, decide_eq_true h1]; rfl
theorem agB_f {tf : Nat → Int32} {a : Fl} {t i : Nat} (h : agB tf a t i = true → ¬ ag1 tf a t i) : ¬ agB tf a t (i + 1) = true := by
  show ¬ (agB tf a t i && decide (ag1 tf a t i)) = true
  intro q
  rw [Bool.and_eq_true] at q
  exact h q.1 (of_decide_eq_true q.2)
theorem agB_F {tf : Nat → Int32} {a : Fl} {t i : Nat} (h : ¬ agB tf a t i = true) : ∀ r, ¬ agB tf a t (i + r) = true := by
  intro r
  induction r with
  | zero => exact h
  | succ r ih => exact agB_f (fun q => absurd q ih)
def whoF (tf : Nat → Int32) (a : Fl) : Nat → Nat
  | 0 => 0
  | t + 1 => whoF tf a t ||| (if agB tf a t (a 7) = true then 2 ^ t else 0)
def mWhose (tf : Nat → Int32) (a : Fl) : Int32 := nI (whoF tf a (a 2))
def IT (tf : Nat → Int32) (a : Fl) : Prop := ∀ t, t < a 2 → TXV tf t
theorem FY.rm {s : Ms} {h h1 : Hp} (f : FY h h1) (hr : RM s h) : RM s h1 := (f.rn hr.n.1).rm (by rw [f.2.1 488 (by omega) (by omega)]; exact hr.n.2)

theorem r_wh_in {s : Ms} {h : Hp} {d : Nat} (hj : JD s.2.2.2.2.2.2 s.1) (ht : IT s.2.2.2.2.2.2 s.1) (ho : IO7 s.1) (hd : 5 ≤ d) {t : Nat} (htt : t < s.1 2) {st : Int32} : ∀ r i (h1 : Hp), i + r = s.1 7 → RM s h1 → FY h h1 → ∃ h2, RM s h2 ∧ FY h h2 ∧ ∀ (N S : Nat) (Q : Option Value → Hp → Prop), pn h ≤ N → ps h ≤ S → (∀ o4, T d N S mX9_whose 93 [some (.ref 488), some (.int st), some (.int (nI t)), some (.int (bI (agB s.2.2.2.2.2.2 s.1 t (s.1 7) = true))), o4] [] h2 Q) → T d N S mX9_whose 21 [some (.ref 488), some (.int st), some (.int (nI t)), some (.int (bI (agB s.2.2.2.2.2.2 s.1 t i = true))), some (.int (nI (174 + 2 * i)))] [] h1 Q := by
  have v7 := hj.1.2.2.2.2.2.2.2.1
  have v2 := hj.1.2.2.1
  have v11 := hj.1.2.2.2.2.2.2.2.2.2.2.2.1
  intro r
  induction r with
  | zero =>
    intro i h1 hi hr f1
    have e : i = s.1 7 := by omega
    subst e
    have hm := hr.m
    refine ⟨h1, hr, f1, fun N S Q hN hS K => ?_⟩
    refine z_iload dX9_whose_21 rfl ?_
    refine z_sipush (v := 174) dX9_whose_23 (by decide) ?_
    refine z_iconst (v := 2) dX9_whose_26 (by decide) ?_
    refine z_aload_n dX9_whose_27 rfl rfl ?_
    refine y_getR FX9_7 dX9_whose_28 rfl hm.o hm.f_a ?_
    refine z_bipush (v := 7) dX9_whose_31 (by decide) ?_
    refine y_ialN (7) dX9_whose_33 hm.A_a (Nat.le_of_ble_eq_true rfl) (rfl) (by omega) ?_
    refine z_eqi (show _ = nI (s.1 7) from hr.at (by omega) (by omega)) ?_
    refine z_imul dX9_whose_34 ?_
    refine z_eqi (pk_mul 2 (s.1 7)) ?_
    refine z_iadd dX9_whose_35 ?_
    refine z_eqi (nI_add 174 (2 * s.1 7)) ?_
    refine z_icmp_ge dX9_whose_36 rfl (fun _ => ?_) (fun c => absurd (Int32.le_refl _) c)
    exact K _
  | succ r ih =>
    intro i h1 hi hr f1
    have hm := hr.m
    have b1 := (ho i (by omega)).1
    have b2 := (ho i (by omega)).2
    by_cases ha : agB s.2.2.2.2.2.2 s.1 t i = true
    · by_cases hv : s.1 (174 + 2 * i) < s.1 11
      · obtain ⟨g1, r1, r2⟩ := r_duesOf (d := 4) (t1 := t + 1) (k := s.1 (174 + 2 * i)) hr.n.1.un hj.2.1 rfl hj.1.1 (by omega) hv (fun _ => ht t htt) (Nat.le_refl _)
        have bd : mDues s.2.2.2.2.2.2 (t + 1) (snap s.1) (s.1 (174 + 2 * i)) ≤ 9999 := mDues_le hj.2.1 hv
        obtain ⟨h2, k0, k1, K⟩ := ih (i + 1) g1 (by omega) (r2.rm hr) (f1.tr r2)
        refine ⟨h2, k0, k1, fun N S Q hN hS KK => ?_⟩
        have hN1 : pn h1 ≤ N := by rw [f1.1.n]; exact hN
        have hS1 : ps h1 ≤ S := by rw [f1.1.s]; exact hS
        have hvv := bI_ne0.mpr ((vin_nI (j := s.1 (174 + 2 * i)) (n := s.1 11) (by omega) (by omega)).mpr hv)
        by_cases hq : mDues s.2.2.2.2.2.2 (t + 1) (snap s.1) (s.1 (174 + 2 * i)) = s.1 (174 + 2 * i + 1)
        · have e2 : bI (agB s.2.2.2.2.2.2 s.1 t (i + 1) = true) = 1 := bI_t (agB_t ha (fun _ => hq))
          refine z_iload dX9_whose_21 rfl ?_
          refine z_sipush (v := 174) dX9_whose_23 (by decide) ?_
          refine z_iconst (v := 2) dX9_whose_26 (by decide) ?_
          refine z_aload_n dX9_whose_27 rfl rfl ?_
          refine y_getR FX9_7 dX9_whose_28 rfl hm.o hm.f_a ?_
          refine z_bipush (v := 7) dX9_whose_31 (by decide) ?_
          refine y_ialN (7) dX9_whose_33 hm.A_a (Nat.le_of_ble_eq_true rfl) (rfl) (by omega) ?_
          refine z_eqi (show _ = nI (s.1 7) from hr.at (by omega) (by omega)) ?_
          refine z_imul dX9_whose_34 ?_
          refine z_eqi (pk_mul 2 (s.1 7)) ?_
          refine z_iadd dX9_whose_35 ?_
          refine z_eqi (nI_add 174 (2 * s.1 7)) ?_
          refine z_icmp_ge dX9_whose_36 rfl (fun c => absurd c (fun q => absurd ((nI_leI (by omega) (by omega)).mp q) (by omega))) (fun _ => ?_)
          refine z_iload_n dX9_whose_39 rfl rfl ?_
          refine z_if_eq dX9_whose_40 rfl (fun c => absurd c (bI_ne0.mpr ha)) (fun _ => ?_)
          refine z_aload_n dX9_whose_43 rfl rfl ?_
          refine z_aload_n dX9_whose_44 rfl rfl ?_
          refine y_getR FX9_7 dX9_whose_45 rfl hm.o hm.f_a ?_
          refine z_iload dX9_whose_48 rfl ?_
          refine y_ialN (174 + 2 * i) dX9_whose_50 hm.A_a (Nat.le_of_ble_eq_true rfl) (rfl) (by omega) ?_
          refine z_eqi (show _ = nI (s.1 (174 + 2 * i)) from hr.at (by omega) (by omega)) ?_
          refine y_callV (as := [_]) CX9_isProphecy LX9_75 IX9_isProphecy VX9_isProphecy ⟨rfl, Nat.le_of_ble_eq_true rfl⟩ dX9_whose_51 hm.o rfl (Nat.le_of_ble_eq_true rfl) (Nat.le_of_ble_eq_true rfl) (by omega) (r_isProphecy (d := 1) (by exact (by exact hm)) (hr.at (by omega) (by omega)) (by omega) _ (Nat.le_refl _)) (rok_z bI_01) ⟨Nat.le_refl _, Nat.le_refl _, hN1, hS1⟩ ?_
          refine z_if_eq dX9_whose_54 rfl (fun c => absurd c (hvv)) (fun _ => ?_)
          refine z_aload_n dX9_whose_57 rfl rfl ?_
          refine z_iload_n dX9_whose_58 rfl rfl ?_
          refine z_eqi (show _ = cT (t + 1) from (if_neg (by omega)).symm) ?_
          refine z_aload_n dX9_whose_59 rfl rfl ?_
          refine y_getR FX9_7 dX9_whose_60 rfl hm.o hm.f_a ?_
          refine z_iload dX9_whose_63 rfl ?_
          refine y_ialN (174 + 2 * i) dX9_whose_65 hm.A_a (Nat.le_of_ble_eq_true rfl) (rfl) (by omega) ?_
          refine z_eqi (show _ = nI (s.1 (174 + 2 * i)) from hr.at (by omega) (by omega)) ?_
          refine y_callV (as := [_, _]) CX9_duesOf LX9_344 IX9_duesOf VX9_duesOf ⟨rfl, Nat.le_of_ble_eq_true rfl⟩ dX9_whose_66 hm.o rfl (Nat.le_of_ble_eq_true rfl) (Nat.le_of_ble_eq_true rfl) (by omega) r1 rok_i (hg_ss r2.1 hN1 hS1) ?_
          refine z_aload_n dX9_whose_69 rfl rfl ?_
          refine y_getR FX9_7 dX9_whose_70 rfl (r2.1.O hm.o) (by first | (rw [r2.1.R]; exact hm.f_a) | exact (congrFun (congrFun r2.1.R _) _).trans hm.f_a) ?_
          refine z_iload dX9_whose_73 rfl ?_
          refine z_iconst (v := 1) dX9_whose_75 (by decide) ?_
          refine z_iadd dX9_whose_76 ?_
          refine z_eqi (nI_add (174 + 2 * i) 1) ?_
          refine y_ialN (174 + 2 * i + 1) dX9_whose_77 (r2.1.A hm.A_a) (Nat.le_of_ble_eq_true rfl) (rfl) (by omega) ?_
          refine z_eqi (show _ = nI (s.1 (174 + 2 * i + 1)) from (r2.rm hr).at (by omega) (by omega)) ?_
          refine z_icmp_ne dX9_whose_78 rfl (fun c => absurd (congrArg nI hq) c) (fun _ => ?_)
          refine z_iconst (v := 1) dX9_whose_81 (by decide) ?_
          refine z_goto dX9_whose_82 rfl ?_
          refine z_istore_n dX9_whose_86 rfl (Nat.le_of_ble_eq_true rfl) ?_
          refine z_iinc dX9_whose_87 rfl (nI_add (174 + 2 * i) 2) (Nat.le_of_ble_eq_true rfl) ?_
          refine z_goto dX9_whose_90 rfl ?_
          have K := K N S Q hN hS KK
          rw [e2] at K
          exact K
        · have e2 : bI (agB s.2.2.2.2.2.2 s.1 t (i + 1) = true) = 0 := bI_f (agB_f (fun _ q => hq (q hv)))
          refine z_iload dX9_whose_21 rfl ?_
          refine z_sipush (v := 174) dX9_whose_23 (by decide) ?_
          refine z_iconst (v := 2) dX9_whose_26 (by decide) ?_
          refine z_aload_n dX9_whose_27 rfl rfl ?_
          refine y_getR FX9_7 dX9_whose_28 rfl hm.o hm.f_a ?_
          refine z_bipush (v := 7) dX9_whose_31 (by decide) ?_
          refine y_ialN (7) dX9_whose_33 hm.A_a (Nat.le_of_ble_eq_true rfl) (rfl) (by omega) ?_
          refine z_eqi (show _ = nI (s.1 7) from hr.at (by omega) (by omega)) ?_
          refine z_imul dX9_whose_34 ?_
          refine z_eqi (pk_mul 2 (s.1 7)) ?_
          refine z_iadd dX9_whose_35 ?_
          refine z_eqi (nI_add 174 (2 * s.1 7)) ?_
          refine z_icmp_ge dX9_whose_36 rfl (fun c => absurd c (fun q => absurd ((nI_leI (by omega) (by omega)).mp q) (by omega))) (fun _ => ?_)
          refine z_iload_n dX9_whose_39 rfl rfl ?_
          refine z_if_eq dX9_whose_40 rfl (fun c => absurd c (bI_ne0.mpr ha)) (fun _ => ?_)
          refine z_aload_n dX9_whose_43 rfl rfl ?_
          refine z_aload_n dX9_whose_44 rfl rfl ?_
          refine y_getR FX9_7 dX9_whose_45 rfl hm.o hm.f_a ?_
          refine z_iload dX9_whose_48 rfl ?_
          refine y_ialN (174 + 2 * i) dX9_whose_50 hm.A_a (Nat.le_of_ble_eq_true rfl) (rfl) (by omega) ?_
          refine z_eqi (show _ = nI (s.1 (174 + 2 * i)) from hr.at (by omega) (by omega)) ?_
          refine y_callV (as := [_]) CX9_isProphecy LX9_75 IX9_isProphecy VX9_isProphecy ⟨rfl, Nat.le_of_ble_eq_true rfl⟩ dX9_whose_51 hm.o rfl (Nat.le_of_ble_eq_true rfl) (Nat.le_of_ble_eq_true rfl) (by omega) (r_isProphecy (d := 1) (by exact (by exact hm)) (hr.at (by omega) (by omega)) (by omega) _ (Nat.le_refl _)) (rok_z bI_01) ⟨Nat.le_refl _, Nat.le_refl _, hN1, hS1⟩ ?_
          refine z_if_eq dX9_whose_54 rfl (fun c => absurd c (hvv)) (fun _ => ?_)
          refine z_aload_n dX9_whose_57 rfl rfl ?_
          refine z_iload_n dX9_whose_58 rfl rfl ?_
          refine z_eqi (show _ = cT (t + 1) from (if_neg (by omega)).symm) ?_
          refine z_aload_n dX9_whose_59 rfl rfl ?_
          refine y_getR FX9_7 dX9_whose_60 rfl hm.o hm.f_a ?_
          refine z_iload dX9_whose_63 rfl ?_
          refine y_ialN (174 + 2 * i) dX9_whose_65 hm.A_a (Nat.le_of_ble_eq_true rfl) (rfl) (by omega) ?_
          refine z_eqi (show _ = nI (s.1 (174 + 2 * i)) from hr.at (by omega) (by omega)) ?_
          refine y_callV (as := [_, _]) CX9_duesOf LX9_344 IX9_duesOf VX9_duesOf ⟨rfl, Nat.le_of_ble_eq_true rfl⟩ dX9_whose_66 hm.o rfl (Nat.le_of_ble_eq_true rfl) (Nat.le_of_ble_eq_true rfl) (by omega) r1 rok_i (hg_ss r2.1 hN1 hS1) ?_
          refine z_aload_n dX9_whose_69 rfl rfl ?_
          refine y_getR FX9_7 dX9_whose_70 rfl (r2.1.O hm.o) (by first | (rw [r2.1.R]; exact hm.f_a) | exact (congrFun (congrFun r2.1.R _) _).trans hm.f_a) ?_
          refine z_iload dX9_whose_73 rfl ?_
          refine z_iconst (v := 1) dX9_whose_75 (by decide) ?_
          refine z_iadd dX9_whose_76 ?_
          refine z_eqi (nI_add (174 + 2 * i) 1) ?_
          refine y_ialN (174 + 2 * i + 1) dX9_whose_77 (r2.1.A hm.A_a) (Nat.le_of_ble_eq_true rfl) (rfl) (by omega) ?_
          refine z_eqi (show _ = nI (s.1 (174 + 2 * i + 1)) from (r2.rm hr).at (by omega) (by omega)) ?_
          refine z_icmp_ne dX9_whose_78 rfl (fun _ => ?_) (fun c => absurd c (fun q => hq ((nI_eq (by omega) (by omega)).mp q)))
          refine z_iconst (v := 0) dX9_whose_85 (by decide) ?_
          refine z_istore_n dX9_whose_86 rfl (Nat.le_of_ble_eq_true rfl) ?_
          refine z_iinc dX9_whose_87 rfl (nI_add (174 + 2 * i) 2) (Nat.le_of_ble_eq_true rfl) ?_
          refine z_goto dX9_whose_90 rfl ?_
          have K := K N S Q hN hS KK
          rw [e2] at K
          exact K
      · obtain ⟨h2, k0, k1, K⟩ := ih (i + 1) h1 (by omega) hr f1
        refine ⟨h2, k0, k1, fun N S Q hN hS KK => ?_⟩
        have hN1 : pn h1 ≤ N := by rw [f1.1.n]; exact hN
        have hS1 : ps h1 ≤ S := by rw [f1.1.s]; exact hS
        have e2 : bI (agB s.2.2.2.2.2.2 s.1 t (i + 1) = true) = 1 := bI_t (agB_t ha (fun q => absurd q hv))
        refine z_iload dX9_whose_21 rfl ?_
        refine z_sipush (v := 174) dX9_whose_23 (by decide) ?_
        refine z_iconst (v := 2) dX9_whose_26 (by decide) ?_
        refine z_aload_n dX9_whose_27 rfl rfl ?_
        refine y_getR FX9_7 dX9_whose_28 rfl hm.o hm.f_a ?_
        refine z_bipush (v := 7) dX9_whose_31 (by decide) ?_
        refine y_ialN (7) dX9_whose_33 hm.A_a (Nat.le_of_ble_eq_true rfl) (rfl) (by omega) ?_
        refine z_eqi (show _ = nI (s.1 7) from hr.at (by omega) (by omega)) ?_
        refine z_imul dX9_whose_34 ?_
        refine z_eqi (pk_mul 2 (s.1 7)) ?_
        refine z_iadd dX9_whose_35 ?_
        refine z_eqi (nI_add 174 (2 * s.1 7)) ?_
        refine z_icmp_ge dX9_whose_36 rfl (fun c => absurd c (fun q => absurd ((nI_leI (by omega) (by omega)).mp q) (by omega))) (fun _ => ?_)
        refine z_iload_n dX9_whose_39 rfl rfl ?_
        refine z_if_eq dX9_whose_40 rfl (fun c => absurd c (bI_ne0.mpr ha)) (fun _ => ?_)
        refine z_aload_n dX9_whose_43 rfl rfl ?_
        refine z_aload_n dX9_whose_44 rfl rfl ?_
        refine y_getR FX9_7 dX9_whose_45 rfl hm.o hm.f_a ?_
        refine z_iload dX9_whose_48 rfl ?_
        refine y_ialN (174 + 2 * i) dX9_whose_50 hm.A_a (Nat.le_of_ble_eq_true rfl) (rfl) (by omega) ?_
        refine z_eqi (show _ = nI (s.1 (174 + 2 * i)) from hr.at (by omega) (by omega)) ?_
        refine y_callV (as := [_]) CX9_isProphecy LX9_75 IX9_isProphecy VX9_isProphecy ⟨rfl, Nat.le_of_ble_eq_true rfl⟩ dX9_whose_51 hm.o rfl (Nat.le_of_ble_eq_true rfl) (Nat.le_of_ble_eq_true rfl) (by omega) (r_isProphecy (d := 1) (by exact (by exact hm)) (hr.at (by omega) (by omega)) (by omega) _ (Nat.le_refl _)) (rok_z bI_01) ⟨Nat.le_refl _, Nat.le_refl _, hN1, hS1⟩ ?_
        refine z_if_eq dX9_whose_54 rfl (fun _ => ?_) (fun c => absurd (bI_eq0.mpr (fun q => hv ((vin_nI (by omega) (by omega)).mp q))) c)
        refine z_iconst (v := 1) dX9_whose_81 (by decide) ?_
        refine z_goto dX9_whose_82 rfl ?_
        refine z_istore_n dX9_whose_86 rfl (Nat.le_of_ble_eq_true rfl) ?_
        refine z_iinc dX9_whose_87 rfl (nI_add (174 + 2 * i) 2) (Nat.le_of_ble_eq_true rfl) ?_
        refine z_goto dX9_whose_90 rfl ?_
        have K := K N S Q hN hS KK
        rw [e2] at K
        exact K
    · obtain ⟨h2, k0, k1, K⟩ := ih (i + 1) h1 (by omega) hr f1
      refine ⟨h2, k0, k1, fun N S Q hN hS KK => ?_⟩
      have hN1 : pn h1 ≤ N := by rw [f1.1.n]; exact hN
      have hS1 : ps h1 ≤ S := by rw [f1.1.s]; exact hS
      have e2 : bI (agB s.2.2.2.2.2.2 s.1 t (i + 1) = true) = 0 := bI_f (agB_F ha 1)
      refine z_iload dX9_whose_21 rfl ?_
      refine z_sipush (v := 174) dX9_whose_23 (by decide) ?_
      refine z_iconst (v := 2) dX9_whose_26 (by decide) ?_
      refine z_aload_n dX9_whose_27 rfl rfl ?_
      refine y_getR FX9_7 dX9_whose_28 rfl hm.o hm.f_a ?_
      refine z_bipush (v := 7) dX9_whose_31 (by decide) ?_
      refine y_ialN (7) dX9_whose_33 hm.A_a (Nat.le_of_ble_eq_true rfl) (rfl) (by omega) ?_
      refine z_eqi (show _ = nI (s.1 7) from hr.at (by omega) (by omega)) ?_
      refine z_imul dX9_whose_34 ?_
      refine z_eqi (pk_mul 2 (s.1 7)) ?_
      refine z_iadd dX9_whose_35 ?_
      refine z_eqi (nI_add 174 (2 * s.1 7)) ?_
      refine z_icmp_ge dX9_whose_36 rfl (fun c => absurd c (fun q => absurd ((nI_leI (by omega) (by omega)).mp q) (by omega))) (fun _ => ?_)
      refine z_iload_n dX9_whose_39 rfl rfl ?_
      refine z_if_eq dX9_whose_40 rfl (fun _ => ?_) (fun c => absurd (bI_eq0.mpr ha) c)
      refine z_iconst (v := 0) dX9_whose_85 (by decide) ?_
      refine z_istore_n dX9_whose_86 rfl (Nat.le_of_ble_eq_true rfl) ?_
      refine z_iinc dX9_whose_87 rfl (nI_add (174 + 2 * i) 2) (Nat.le_of_ble_eq_true rfl) ?_
      refine z_goto dX9_whose_90 rfl ?_
      have K := K N S Q hN hS KK
      rw [e2] at K
      exact K

theorem r_wh_out {s : Ms} {h : Hp} {d : Nat} (hj : JD s.2.2.2.2.2.2 s.1) (ht : IT s.2.2.2.2.2.2 s.1) (ho : IO7 s.1) (hd : 5 ≤ d) : ∀ r t (h1 : Hp), t + r = s.1 2 → RM s h1 → FY h h1 → ∃ h2, RM s h2 ∧ FY h h2 ∧ ∀ (o3 o4 : Option Value) (N S : Nat) (Q : Option Value → Hp → Prop), pn h ≤ N → ps h ≤ S → Q (some (.int (mWhose s.2.2.2.2.2.2 s.1))) h2 → T d N S mX9_whose 4 [some (.ref 488), some (.int (nI (whoF s.2.2.2.2.2.2 s.1 t))), some (.int (nI t)), o3, o4] [] h1 Q := by
  have v2 := hj.1.2.2.1
  intro r
  induction r with
  | zero =>
    intro t h1 hi hr f1
    have e : t = s.1 2 := by omega
    subst e
    have hm := hr.m
    refine ⟨h1, hr, f1, fun o3 o4 N S Q hN hS hQ => ?_⟩
    refine z_iload_n dX9_whose_4 rfl rfl ?_
    refine z_aload_n dX9_whose_5 rfl rfl ?_
    refine y_getR FX9_7 dX9_whose_6 rfl hm.o hm.f_a ?_
    refine z_iconst (v := 2) dX9_whose_9 (by decide) ?_
    refine y_ialN (2) dX9_whose_10 hm.A_a (Nat.le_of_ble_eq_true rfl) (rfl) (by omega) ?_
    refine z_eqi (show _ = nI (s.1 2) from hr.at (by omega) (by omega)) ?_
    refine z_icmp_ge dX9_whose_11 rfl (fun _ => ?_) (fun c => absurd (Int32.le_refl _) c)
    refine z_iload_n dX9_whose_113 rfl rfl ?_
    refine z_iret dX9_whose_114 ?_
    exact hQ
  | succ r ih =>
    intro t h1 hi hr f1
    have hm := hr.m
    obtain ⟨g1, p0, p1, P⟩ := r_wh_in (h := h1) (st := nI (whoF s.2.2.2.2.2.2 s.1 t)) hj ht ho hd (show t < s.1 2 by omega) (s.1 7) 0 h1 (by omega) hr FY.rf
    obtain ⟨h2, k0, k1, K⟩ := ih (t + 1) g1 (by omega) p0 (f1.tr p1)
    refine ⟨h2, k0, k1, fun o3 o4 N S Q hN hS hQ => ?_⟩
    have hN1 : pn h1 ≤ N := by rw [f1.1.n]; exact hN
    have hS1 : ps h1 ≤ S := by rw [f1.1.s]; exact hS
    have KK : ∀ o4, T d N S mX9_whose 93 [some (.ref 488), some (.int (nI (whoF s.2.2.2.2.2.2 s.1 t))), some (.int (nI t)), some (.int (bI (agB s.2.2.2.2.2.2 s.1 t (s.1 7) = true))), o4] [] g1 Q := fun o4 => by
      have hm := p0.m
      by_cases q : agB s.2.2.2.2.2.2 s.1 t (s.1 7) = true
      · have e : whoF s.2.2.2.2.2.2 s.1 (t + 1) = whoF s.2.2.2.2.2.2 s.1 t ||| 2 ^ t := by show _ ||| (if _ then _ else _) = _; rw [if_pos q]
        have K := fun o3 o4 => K o3 o4 N S Q hN hS hQ
        rw [e] at K
        refine z_iload_n dX9_whose_93 rfl rfl ?_
        refine z_iload_n dX9_whose_94 rfl rfl ?_
        refine z_if_eq dX9_whose_95 rfl (fun c => absurd c (bI_ne0.mpr q)) (fun _ => ?_)
        refine z_iconst (v := 1) dX9_whose_98 (by decide) ?_
        refine z_iload_n dX9_whose_99 rfl rfl ?_
        refine z_ishl dX9_whose_100 ?_
        refine z_eqi (nI_bit (show t < 31 by omega)) ?_
        refine z_goto dX9_whose_101 rfl ?_
        refine z_ior dX9_whose_105 ?_
        refine z_eqi (nI_or _ _) ?_
        refine z_istore_n dX9_whose_106 rfl (Nat.le_of_ble_eq_true rfl) ?_
        refine z_iinc dX9_whose_107 rfl (nI_1 _) (Nat.le_of_ble_eq_true rfl) ?_
        refine z_goto dX9_whose_110 rfl ?_
        exact K _ _
      · have e : whoF s.2.2.2.2.2.2 s.1 (t + 1) = whoF s.2.2.2.2.2.2 s.1 t ||| 0 := by show _ ||| (if _ then _ else _) = _; rw [if_neg q]
        have K := fun o3 o4 => K o3 o4 N S Q hN hS hQ
        rw [e] at K
        refine z_iload_n dX9_whose_93 rfl rfl ?_
        refine z_iload_n dX9_whose_94 rfl rfl ?_
        refine z_if_eq dX9_whose_95 rfl (fun _ => ?_) (fun c => absurd (bI_eq0.mpr q) c)
        refine z_iconst (v := 0) dX9_whose_104 (by decide) ?_
        refine z_ior dX9_whose_105 ?_
        refine z_eqi (show _ = nI (whoF s.2.2.2.2.2.2 s.1 t ||| 0) from nI_or _ 0) ?_
        refine z_istore_n dX9_whose_106 rfl (Nat.le_of_ble_eq_true rfl) ?_
        refine z_iinc dX9_whose_107 rfl (nI_1 _) (Nat.le_of_ble_eq_true rfl) ?_
        refine z_goto dX9_whose_110 rfl ?_
        exact K _ _
    refine z_iload_n dX9_whose_4 rfl rfl ?_
    refine z_aload_n dX9_whose_5 rfl rfl ?_
    refine y_getR FX9_7 dX9_whose_6 rfl hm.o hm.f_a ?_
    refine z_iconst (v := 2) dX9_whose_9 (by decide) ?_
    refine y_ialN (2) dX9_whose_10 hm.A_a (Nat.le_of_ble_eq_true rfl) (rfl) (by omega) ?_
    refine z_eqi (show _ = nI (s.1 2) from hr.at (by omega) (by omega)) ?_
    refine z_icmp_ge dX9_whose_11 rfl (fun c => absurd c (fun q => absurd ((nI_leI (by omega) (by omega)).mp q) (by omega))) (fun _ => ?_)
    refine z_iconst (v := 1) dX9_whose_14 (by decide) ?_
    refine z_istore_n dX9_whose_15 rfl (Nat.le_of_ble_eq_true rfl) ?_
    refine z_sipush (v := 174) dX9_whose_16 (by decide) ?_
    refine z_istore dX9_whose_19 (Nat.le_of_ble_eq_true rfl) ?_
    exact P N S Q hN1 hS1 KK
theorem R_whose {s : Ms} {h : Hp} {d : Nat} (hr : RM s h) (hj : JD s.2.2.2.2.2.2 s.1) (ht : IT s.2.2.2.2.2.2 s.1) (ho : IO7 s.1) (hd : 5 ≤ d) : ∃ h1, Sp d mX9_whose [.ref 488] h (some (.int (mWhose s.2.2.2.2.2.2 s.1))) h1 ∧ RM s h1 ∧ FM h h1 := by
  have hm := hr.m
  obtain ⟨h2, k0, k1, K⟩ := r_wh_out (h := h) hj ht ho hd (s.1 2) 0 h (by omega) hr FY.rf
  refine ⟨h2, ?_, k0, k1.fm⟩
  intro N S Q hN hS hQ
  have hN : pn h ≤ N := by rw [← k1.1.n]; exact hN
  have hS : ps h ≤ S := by rw [← k1.1.s]; exact hS
  refine z_iconst (v := 0) dX9_whose_0 (by decide) ?_
  refine z_istore_n dX9_whose_1 rfl (Nat.le_of_ble_eq_true rfl) ?_
  refine z_iconst (v := 0) dX9_whose_2 (by decide) ?_
  refine z_istore_n dX9_whose_3 rfl (Nat.le_of_ble_eq_true rfl) ?_
  exact K none none N S Q hN hS hQ

theorem txv.fr {h h1 : Hp} {tf : Nat → Int32} {t1 : Nat} {v : Value} (q : txv h tf t1 v) (f : FR 482 483 h h1) : txv h1 tf t1 v := by
  rcases q with q | ⟨q1, q2, x, q3, q4⟩
  · exact Or.inl q
  · exact Or.inr ⟨q1, q2, x, q3, q4.fr f.1 (fun k hk => f.2.2 k (by omega))⟩
theorem c_agrees {h : Hp} {a : Fl} {tf : Nat → Int32} {d t x : Nat} (c1 : CZ h a tf) (hj : JD tf a) (ho : IO7 a) (tv : txv h tf (t + 1) (.ref x)) (hd : 5 ≤ d) : ∃ h1, Sp d mX8_agrees [.ref 8, .ref x] h (some (.int (bI (agB tf a t (a 7) = true)))) h1 ∧ FR 482 483 h h1 := by
  have v0 := hj.1.1
  have v7 := hj.1.2.2.2.2.2.2.2.1
  have v2 := hj.1.2.2.1
  have v3 := hj.1.2.2.2.1
  have v4 := hj.1.2.2.2.2.1
  have v11 : snap a 4 ≤ 12 := hj.1.2.2.2.2.2.2.2.2.2.2.2.1
  have L : ∀ r i (h1 : Hp), i + r = a 7 → agB tf a t i = true → FR 482 483 h h1 → ∃ h2, FR 482 483 h h2 ∧ ∀ (o3 : Option Value) (N S : Nat) (Q : Option Value → Hp → Prop), pn h ≤ N → ps h ≤ S → Q (some (.int (bI (agB tf a t (a 7) = true)))) h2 → T d N S mX8_agrees 2 [some (.ref 8), some (.ref x), some (.int (nI i)), o3] [] h1 Q := by
    intro r
    induction r with
    | zero =>
      intro i h1 hi ha f1
      have e : i = a 7 := by omega
      subst e
      have c2 := c1.lw f1 v4
      have mv := c2.2.2.2.2.2.2.2.2.1
      refine ⟨h1, f1, fun o3 N S Q hN hS hQ => ?_⟩
      rw [bI_t ha] at hQ
      refine z_iload_n dX8_agrees_2 rfl rfl ?_
      refine z_aload_n dX8_agrees_3 rfl rfl ?_
      refine y_getR FX8_10 dX8_agrees_4 rfl c2.1.1 c2.1.2.1 ?_
      refine y_getR FX8_399 dX8_agrees_7 rfl c2.1.2.2.2.2.1.o c2.1.2.2.2.2.1.f7 ?_
      refine y_getI FX8_130 dX8_agrees_10 (Or.inl rfl) c2.1.2.2.2.2.1.owed.1 ?_
      refine z_eqi (y := nI (a 7)) (show _ = nI (a 7) from mv.1.2.2.1) ?_
      refine z_icmp_ge dX8_agrees_13 rfl (fun _ => ?_) (fun c => absurd (Int32.le_refl _) c)
      refine z_iconst (v := 1) dX8_agrees_82 (by decide) ?_
      refine z_iret dX8_agrees_83 ?_
      exact hQ
    | succ r ih =>
      intro i h1 hi ha f1
      have c2 := c1.lw f1 v4
      have mv := c2.2.2.2.2.2.2.2.2.1
      have b1 := (ho i (by omega)).1
      have b2 := (ho i (by omega)).2
      by_cases hv : a (174 + 2 * i) < snap a 4
      · obtain ⟨g1, r1, r2⟩ := c_duesBy (d := 4) c2.l hj.2.1 rfl v0 v2 v3 hv (tv.fr f1) (Nat.le_refl _)
        have bd : mDues tf (t + 1) (snap a) (a (174 + 2 * i)) ≤ 9999 := mDues_le hj.2.1 hv
        have hvv := bI_ne0.mpr ((vin_nI (j := a (174 + 2 * i)) (n := snap a 4) (by omega) (by omega)).mpr hv)
        by_cases hq : mDues tf (t + 1) (snap a) (a (174 + 2 * i)) = a (174 + 2 * i + 1)
        · obtain ⟨h2, k1, K⟩ := ih (i + 1) g1 (by omega) (agB_t ha (fun _ => hq)) (f1.tr r2)
          refine ⟨h2, k1, fun o3 N S Q hN hS hQ => ?_⟩
          have hN1 : pn h1 ≤ N := by rw [f1.1.n]; exact hN
          have hS1 : ps h1 ≤ S := by rw [f1.1.s]; exact hS
          have hN2 : pn g1 ≤ N := by rw [r2.1.n]; exact hN1
          have hS2 : ps g1 ≤ S := by rw [r2.1.s]; exact hS1
          refine z_iload_n dX8_agrees_2 rfl rfl ?_
          refine z_aload_n dX8_agrees_3 rfl rfl ?_
          refine y_getR FX8_10 dX8_agrees_4 rfl c2.1.1 c2.1.2.1 ?_
          refine y_getR FX8_399 dX8_agrees_7 rfl c2.1.2.2.2.2.1.o c2.1.2.2.2.2.1.f7 ?_
          refine y_getI FX8_130 dX8_agrees_10 (Or.inl rfl) c2.1.2.2.2.2.1.owed.1 ?_
          refine z_eqi (y := nI (a 7)) (show _ = nI (a 7) from mv.1.2.2.1) ?_
          refine z_icmp_ge dX8_agrees_13 rfl (fun c => absurd c (fun q => absurd ((nI_leI (by omega) (by omega)).mp q) (by omega))) (fun _ => ?_)
          refine z_aload_n dX8_agrees_16 rfl rfl ?_
          refine y_getR FX8_10 dX8_agrees_17 rfl c2.1.1 c2.1.2.1 ?_
          refine y_getR FX8_399 dX8_agrees_20 rfl c2.1.2.2.2.2.1.o c2.1.2.2.2.2.1.f7 ?_
          refine z_iload_n dX8_agrees_23 rfl rfl ?_
          refine z_iconst (v := 0) dX8_agrees_24 (by decide) ?_
          refine y_callV (as := [_, _]) CX4_get LX8_143 IX4_get VX4_get ⟨rfl, Nat.le_of_ble_eq_true rfl⟩ dX8_agrees_25 c2.1.2.2.2.2.1.owed.1 rfl (Nat.le_of_ble_eq_true rfl) (Nat.le_of_ble_eq_true rfl) (by omega) (s_get (k := 24) (w := 2) (ms := 8) (i := i) (j := 0) (by exact c2.1.2.2.2.2.1.owed) mv.1 (by omega) (by omega)) rok_i ⟨Nat.le_refl _, Nat.le_refl _, hN1, hS1⟩ ?_
          refine z_eqi (show _ = nI (a (174 + 2 * i)) from (mv.2 (i * 2 + 0) (by omega)).trans (congrArg (fun u => nI (a u)) (by omega))) ?_
          refine z_istore_n dX8_agrees_28 rfl (Nat.le_of_ble_eq_true rfl) ?_
          refine z_aload_n dX8_agrees_29 rfl rfl ?_
          refine y_getR FX8_10 dX8_agrees_30 rfl c2.1.1 c2.1.2.1 ?_
          refine y_getR FX8_79 dX8_agrees_33 rfl c2.1.2.2.2.2.1.o c2.1.2.2.2.2.1.f0 ?_
          refine y_getR FX8_127 dX8_agrees_36 rfl c2.1.2.2.2.2.1.now.1 c2.1.2.2.2.2.1.now.2.2.2.1 ?_
          refine z_iload_n dX8_agrees_39 rfl rfl ?_
          refine y_callV (as := [_]) CX4_has LX8_140 IX4_has VX4_has ⟨rfl, Nat.le_of_ble_eq_true rfl⟩ dX8_agrees_40 c2.1.2.2.2.2.1.now.2.2.2.2.1.1 rfl (Nat.le_of_ble_eq_true rfl) (Nat.le_of_ble_eq_true rfl) (by omega) (s_has c2.1.2.2.2.2.1.now.2.2.2.2.1 c2.2.1.2.2.2.2.2.1 _) (rok_z bI_01) ⟨Nat.le_refl _, Nat.le_refl _, hN1, hS1⟩ ?_
          refine z_if_eq dX8_agrees_43 rfl (fun c => absurd c (hvv)) (fun _ => ?_)
          refine z_aload_n dX8_agrees_46 rfl rfl ?_
          refine z_aload_n dX8_agrees_47 rfl rfl ?_
          refine z_aload_n dX8_agrees_48 rfl rfl ?_
          refine y_getR FX8_10 dX8_agrees_49 rfl c2.1.1 c2.1.2.1 ?_
          refine y_getR FX8_79 dX8_agrees_52 rfl c2.1.2.2.2.2.1.o c2.1.2.2.2.2.1.f0 ?_
          refine z_iload_n dX8_agrees_55 rfl rfl ?_
          refine y_callV (as := [_, _, _]) CX8_duesBy LX8_201 IX8_duesBy VX8_duesBy ⟨rfl, Nat.le_of_ble_eq_true rfl⟩ dX8_agrees_56 c2.1.1 rfl (Nat.le_of_ble_eq_true rfl) (Nat.le_of_ble_eq_true rfl) (by omega) r1 rok_i (hg_ss r2.1 hN1 hS1) ?_
          refine z_aload_n dX8_agrees_59 rfl rfl ?_
          refine y_getR FX8_10 dX8_agrees_60 rfl (r2.1.O c2.1.1) (by first | (rw [r2.1.R]; exact c2.1.2.1) | exact (congrFun (congrFun r2.1.R _) _).trans c2.1.2.1) ?_
          refine y_getR FX8_399 dX8_agrees_63 rfl (r2.1.O c2.1.2.2.2.2.1.o) (by first | (rw [r2.1.R]; exact c2.1.2.2.2.2.1.f7) | exact (congrFun (congrFun r2.1.R _) _).trans c2.1.2.2.2.2.1.f7) ?_
          refine z_iload_n dX8_agrees_66 rfl rfl ?_
          refine z_iconst (v := 1) dX8_agrees_67 (by decide) ?_
          refine y_callV (as := [_, _]) CX4_get LX8_143 IX4_get VX4_get ⟨rfl, Nat.le_of_ble_eq_true rfl⟩ dX8_agrees_68 (r2.1.O c2.1.2.2.2.2.1.owed.1) rfl (Nat.le_of_ble_eq_true rfl) (Nat.le_of_ble_eq_true rfl) (by omega) (s_get (k := 24) (w := 2) (ms := 8) (i := i) (j := 1) (by exact r2.1.mk c2.1.2.2.2.2.1 |>.owed) (mv.1.fr (r2.2.2 24 (by omega))) (by omega) (by omega)) rok_i ⟨Nat.le_refl _, Nat.le_refl _, hN2, hS2⟩ ?_
          refine z_eqi (show _ = nI (a (174 + 2 * i + 1)) by rw [show pI g1 (24 + 1) = pI h1 (24 + 1) from r2.2.2 25 (by omega)]; exact (mv.2 (i * 2 + 1) (by omega)).trans (congrArg (fun u => nI (a u)) (by omega))) ?_
          refine z_icmp_eq dX8_agrees_71 rfl (fun _ => ?_) (fun c => absurd (congrArg nI hq) c)
          refine z_iinc dX8_agrees_76 rfl (nI_1 _) (Nat.le_of_ble_eq_true rfl) ?_
          refine z_goto dX8_agrees_79 rfl ?_
          exact K _ N S Q hN hS hQ
        · refine ⟨g1, f1.tr r2, fun o3 N S Q hN hS hQ => ?_⟩
          have hN1 : pn h1 ≤ N := by rw [f1.1.n]; exact hN
          have hS1 : ps h1 ≤ S := by rw [f1.1.s]; exact hS
          have hN2 : pn g1 ≤ N := by rw [r2.1.n]; exact hN1
          have hS2 : ps g1 ≤ S := by rw [r2.1.s]; exact hS1
          have nf := agB_F (agB_f (tf := tf) (a := a) (t := t) (i := i) (fun _ q => hq (q hv))) r
          rw [bI_f (by rw [← hi, show i + (r + 1) = i + 1 + r by omega]; exact nf)] at hQ
          refine z_iload_n dX8_agrees_2 rfl rfl ?_
          refine z_aload_n dX8_agrees_3 rfl rfl ?_
          refine y_getR FX8_10 dX8_agrees_4 rfl c2.1.1 c2.1.2.1 ?_
          refine y_getR FX8_399 dX8_agrees_7 rfl c2.1.2.2.2.2.1.o c2.1.2.2.2.2.1.f7 ?_
          refine y_getI FX8_130 dX8_agrees_10 (Or.inl rfl) c2.1.2.2.2.2.1.owed.1 ?_
          refine z_eqi (y := nI (a 7)) (show _ = nI (a 7) from mv.1.2.2.1) ?_
          refine z_icmp_ge dX8_agrees_13 rfl (fun c => absurd c (fun q => absurd ((nI_leI (by omega) (by omega)).mp q) (by omega))) (fun _ => ?_)
          refine z_aload_n dX8_agrees_16 rfl rfl ?_
          refine y_getR FX8_10 dX8_agrees_17 rfl c2.1.1 c2.1.2.1 ?_
          refine y_getR FX8_399 dX8_agrees_20 rfl c2.1.2.2.2.2.1.o c2.1.2.2.2.2.1.f7 ?_
          refine z_iload_n dX8_agrees_23 rfl rfl ?_
          refine z_iconst (v := 0) dX8_agrees_24 (by decide) ?_
          refine y_callV (as := [_, _]) CX4_get LX8_143 IX4_get VX4_get ⟨rfl, Nat.le_of_ble_eq_true rfl⟩ dX8_agrees_25 c2.1.2.2.2.2.1.owed.1 rfl (Nat.le_of_ble_eq_true rfl) (Nat.le_of_ble_eq_true rfl) (by omega) (s_get (k := 24) (w := 2) (ms := 8) (i := i) (j := 0) (by exact c2.1.2.2.2.2.1.owed) mv.1 (by omega) (by omega)) rok_i ⟨Nat.le_refl _, Nat.le_refl _, hN1, hS1⟩ ?_
          refine z_eqi (show _ = nI (a (174 + 2 * i)) from (mv.2 (i * 2 + 0) (by omega)).trans (congrArg (fun u => nI (a u)) (by omega))) ?_
          refine z_istore_n dX8_agrees_28 rfl (Nat.le_of_ble_eq_true rfl) ?_
          refine z_aload_n dX8_agrees_29 rfl rfl ?_
          refine y_getR FX8_10 dX8_agrees_30 rfl c2.1.1 c2.1.2.1 ?_
          refine y_getR FX8_79 dX8_agrees_33 rfl c2.1.2.2.2.2.1.o c2.1.2.2.2.2.1.f0 ?_
          refine y_getR FX8_127 dX8_agrees_36 rfl c2.1.2.2.2.2.1.now.1 c2.1.2.2.2.2.1.now.2.2.2.1 ?_
          refine z_iload_n dX8_agrees_39 rfl rfl ?_
          refine y_callV (as := [_]) CX4_has LX8_140 IX4_has VX4_has ⟨rfl, Nat.le_of_ble_eq_true rfl⟩ dX8_agrees_40 c2.1.2.2.2.2.1.now.2.2.2.2.1.1 rfl (Nat.le_of_ble_eq_true rfl) (Nat.le_of_ble_eq_true rfl) (by omega) (s_has c2.1.2.2.2.2.1.now.2.2.2.2.1 c2.2.1.2.2.2.2.2.1 _) (rok_z bI_01) ⟨Nat.le_refl _, Nat.le_refl _, hN1, hS1⟩ ?_
          refine z_if_eq dX8_agrees_43 rfl (fun c => absurd c (hvv)) (fun _ => ?_)
          refine z_aload_n dX8_agrees_46 rfl rfl ?_
          refine z_aload_n dX8_agrees_47 rfl rfl ?_
          refine z_aload_n dX8_agrees_48 rfl rfl ?_
          refine y_getR FX8_10 dX8_agrees_49 rfl c2.1.1 c2.1.2.1 ?_
          refine y_getR FX8_79 dX8_agrees_52 rfl c2.1.2.2.2.2.1.o c2.1.2.2.2.2.1.f0 ?_
          refine z_iload_n dX8_agrees_55 rfl rfl ?_
          refine y_callV (as := [_, _, _]) CX8_duesBy LX8_201 IX8_duesBy VX8_duesBy ⟨rfl, Nat.le_of_ble_eq_true rfl⟩ dX8_agrees_56 c2.1.1 rfl (Nat.le_of_ble_eq_true rfl) (Nat.le_of_ble_eq_true rfl) (by omega) r1 rok_i (hg_ss r2.1 hN1 hS1) ?_
          refine z_aload_n dX8_agrees_59 rfl rfl ?_
          refine y_getR FX8_10 dX8_agrees_60 rfl (r2.1.O c2.1.1) (by first | (rw [r2.1.R]; exact c2.1.2.1) | exact (congrFun (congrFun r2.1.R _) _).trans c2.1.2.1) ?_
          refine y_getR FX8_399 dX8_agrees_63 rfl (r2.1.O c2.1.2.2.2.2.1.o) (by first | (rw [r2.1.R]; exact c2.1.2.2.2.2.1.f7) | exact (congrFun (congrFun r2.1.R _) _).trans c2.1.2.2.2.2.1.f7) ?_
          refine z_iload_n dX8_agrees_66 rfl rfl ?_
          refine z_iconst (v := 1) dX8_agrees_67 (by decide) ?_
          refine y_callV (as := [_, _]) CX4_get LX8_143 IX4_get VX4_get ⟨rfl, Nat.le_of_ble_eq_true rfl⟩ dX8_agrees_68 (r2.1.O c2.1.2.2.2.2.1.owed.1) rfl (Nat.le_of_ble_eq_true rfl) (Nat.le_of_ble_eq_true rfl) (by omega) (s_get (k := 24) (w := 2) (ms := 8) (i := i) (j := 1) (by exact r2.1.mk c2.1.2.2.2.2.1 |>.owed) (mv.1.fr (r2.2.2 24 (by omega))) (by omega) (by omega)) rok_i ⟨Nat.le_refl _, Nat.le_refl _, hN2, hS2⟩ ?_
          refine z_eqi (show _ = nI (a (174 + 2 * i + 1)) by rw [show pI g1 (24 + 1) = pI h1 (24 + 1) from r2.2.2 25 (by omega)]; exact (mv.2 (i * 2 + 1) (by omega)).trans (congrArg (fun u => nI (a u)) (by omega))) ?_
          refine z_icmp_eq dX8_agrees_71 rfl (fun c => absurd c (fun q => hq ((nI_eq (by omega) (by omega)).mp q))) (fun _ => ?_)
          refine z_iconst (v := 0) dX8_agrees_74 (by decide) ?_
          refine z_iret dX8_agrees_75 ?_
          exact hQ
      · obtain ⟨h2, k1, K⟩ := ih (i + 1) h1 (by omega) (agB_t ha (fun q => absurd q hv)) f1
        refine ⟨h2, k1, fun o3 N S Q hN hS hQ => ?_⟩
        have hN1 : pn h1 ≤ N := by rw [f1.1.n]; exact hN
        have hS1 : ps h1 ≤ S := by rw [f1.1.s]; exact hS
        refine z_iload_n dX8_agrees_2 rfl rfl ?_
        refine z_aload_n dX8_agrees_3 rfl rfl ?_
        refine y_getR FX8_10 dX8_agrees_4 rfl c2.1.1 c2.1.2.1 ?_
        refine y_getR FX8_399 dX8_agrees_7 rfl c2.1.2.2.2.2.1.o c2.1.2.2.2.2.1.f7 ?_
        refine y_getI FX8_130 dX8_agrees_10 (Or.inl rfl) c2.1.2.2.2.2.1.owed.1 ?_
        refine z_eqi (y := nI (a 7)) (show _ = nI (a 7) from mv.1.2.2.1) ?_
        refine z_icmp_ge dX8_agrees_13 rfl (fun c => absurd c (fun q => absurd ((nI_leI (by omega) (by omega)).mp q) (by omega))) (fun _ => ?_)
        refine z_aload_n dX8_agrees_16 rfl rfl ?_
        refine y_getR FX8_10 dX8_agrees_17 rfl c2.1.1 c2.1.2.1 ?_
        refine y_getR FX8_399 dX8_agrees_20 rfl c2.1.2.2.2.2.1.o c2.1.2.2.2.2.1.f7 ?_
        refine z_iload_n dX8_agrees_23 rfl rfl ?_
        refine z_iconst (v := 0) dX8_agrees_24 (by decide) ?_
        refine y_callV (as := [_, _]) CX4_get LX8_143 IX4_get VX4_get ⟨rfl, Nat.le_of_ble_eq_true rfl⟩ dX8_agrees_25 c2.1.2.2.2.2.1.owed.1 rfl (Nat.le_of_ble_eq_true rfl) (Nat.le_of_ble_eq_true rfl) (by omega) (s_get (k := 24) (w := 2) (ms := 8) (i := i) (j := 0) (by exact c2.1.2.2.2.2.1.owed) mv.1 (by omega) (by omega)) rok_i ⟨Nat.le_refl _, Nat.le_refl _, hN1, hS1⟩ ?_
        refine z_eqi (show _ = nI (a (174 + 2 * i)) from (mv.2 (i * 2 + 0) (by omega)).trans (congrArg (fun u => nI (a u)) (by omega))) ?_
        refine z_istore_n dX8_agrees_28 rfl (Nat.le_of_ble_eq_true rfl) ?_
        refine z_aload_n dX8_agrees_29 rfl rfl ?_
        refine y_getR FX8_10 dX8_agrees_30 rfl c2.1.1 c2.1.2.1 ?_
        refine y_getR FX8_79 dX8_agrees_33 rfl c2.1.2.2.2.2.1.o c2.1.2.2.2.2.1.f0 ?_
        refine y_getR FX8_127 dX8_agrees_36 rfl c2.1.2.2.2.2.1.now.1 c2.1.2.2.2.2.1.now.2.2.2.1 ?_
        refine z_iload_n dX8_agrees_39 rfl rfl ?_
        refine y_callV (as := [_]) CX4_has LX8_140 IX4_has VX4_has ⟨rfl, Nat.le_of_ble_eq_true rfl⟩ dX8_agrees_40 c2.1.2.2.2.2.1.now.2.2.2.2.1.1 rfl (Nat.le_of_ble_eq_true rfl) (Nat.le_of_ble_eq_true rfl) (by omega) (s_has c2.1.2.2.2.2.1.now.2.2.2.2.1 c2.2.1.2.2.2.2.2.1 _) (rok_z bI_01) ⟨Nat.le_refl _, Nat.le_refl _, hN1, hS1⟩ ?_
        refine z_if_eq dX8_agrees_43 rfl (fun _ => ?_) (fun c => absurd (bI_eq0.mpr (fun q => hv ((vin_nI (by omega) (by omega)).mp q))) c)
        refine z_iinc dX8_agrees_76 rfl (nI_1 _) (Nat.le_of_ble_eq_true rfl) ?_
        refine z_goto dX8_agrees_79 rfl ?_
        exact K _ N S Q hN hS hQ
  obtain ⟨h2, k1, K⟩ := L (a 7) 0 h (by omega) rfl FR.rf
  refine ⟨h2, ?_, k1⟩
  intro N S Q hN hS hQ
  have hN : pn h ≤ N := by rw [← k1.1.n]; exact hN
  have hS : ps h ≤ S := by rw [← k1.1.s]; exact hS
  refine z_iconst (v := 0) dX8_agrees_0 (by decide) ?_
  refine z_istore_n dX8_agrees_1 rfl (Nat.le_of_ble_eq_true rfl) ?_
  exact K none N S Q hN hS hQ

theorem C_whose {h : Hp} {a : Fl} {tf : Nat → Int32} {d : Nat} (c1 : CZ h a tf) (hj : JD tf a) (ht : IT tf a) (ho : IO7 a) (hd : 6 ≤ d) : ∃ h1, Sp d mX8_whose [.ref 8] h (some (.int (mWhose tf a))) h1 ∧ CZ h1 a tf ∧ FR 482 483 h h1 := by
  have v2 := hj.1.2.2.1
  have v4 := hj.1.2.2.2.2.1
  have L : ∀ r t (h1 : Hp), t + r = a 2 → FR 482 483 h h1 → ∃ h2, FR 482 483 h h2 ∧ ∀ (N S : Nat) (Q : Option Value → Hp → Prop), pn h ≤ N → ps h ≤ S → Q (some (.int (mWhose tf a))) h2 → T d N S mX8_whose 4 [some (.ref 8), some (.int (nI (whoF tf a t))), some (.int (nI t))] [] h1 Q := by
    intro r
    induction r with
    | zero =>
      intro t h1 hi f1
      have e : t = a 2 := by omega
      subst e
      have c2 := c1.lw f1 v4
      refine ⟨h1, f1, fun N S Q hN hS hQ => ?_⟩
      refine z_iload_n dX8_whose_4 rfl rfl ?_
      refine z_aload_n dX8_whose_5 rfl rfl ?_
      refine y_getR FX8_10 dX8_whose_6 rfl c2.1.1 c2.1.2.1 ?_
      refine y_getI FX8_89 dX8_whose_9 (Or.inl rfl) c2.1.2.2.2.2.1.o ?_
      refine z_eqi (y := nI (a 2)) (show _ = nI (a 2) from c2.2.2.2.2.2.2.2.2.2.1) ?_
      refine z_icmp_ge dX8_whose_12 rfl (fun _ => ?_) (fun c => absurd (Int32.le_refl _) c)
      refine z_iload_n dX8_whose_47 rfl rfl ?_
      refine z_iret dX8_whose_48 ?_
      exact hQ
    | succ r ih =>
      intro t h1 hi f1
      have c2 := c1.lw f1 v4
      obtain ⟨x, q1, q2⟩ := c2.2.2.2.2.2.2.2.2.2.2.2 t (by omega)
      obtain ⟨g1, r1, r2⟩ := c_agrees (d := 5) (t := t) (x := x) c2 hj ho (Or.inr ⟨by omega, ht t (by omega), x, rfl, q2⟩) (Nat.le_refl _)
      obtain ⟨h2, k1, K⟩ := ih (t + 1) g1 (by omega) (f1.tr r2)
      refine ⟨h2, k1, fun N S Q hN hS hQ => ?_⟩
      have hN1 : pn h1 ≤ N := by rw [f1.1.n]; exact hN
      have hS1 : ps h1 ≤ S := by rw [f1.1.s]; exact hS
      have hN2 : pn g1 ≤ N := by rw [r2.1.n]; exact hN1
      have hS2 : ps g1 ≤ S := by rw [r2.1.s]; exact hS1
      have K := K N S Q hN hS hQ
      by_cases q : agB tf a t (a 7) = true
      · have e : whoF tf a (t + 1) = whoF tf a t ||| 2 ^ t := by show _ ||| (if _ then _ else _) = _; rw [if_pos q]
        rw [e] at K
        refine z_iload_n dX8_whose_4 rfl rfl ?_
        refine z_aload_n dX8_whose_5 rfl rfl ?_
        refine y_getR FX8_10 dX8_whose_6 rfl c2.1.1 c2.1.2.1 ?_
        refine y_getI FX8_89 dX8_whose_9 (Or.inl rfl) c2.1.2.2.2.2.1.o ?_
        refine z_eqi (y := nI (a 2)) (show _ = nI (a 2) from c2.2.2.2.2.2.2.2.2.2.1) ?_
        refine z_icmp_ge dX8_whose_12 rfl (fun c => absurd c (fun q => absurd ((nI_leI (by omega) (by omega)).mp q) (by omega))) (fun _ => ?_)
        refine z_iload_n dX8_whose_15 rfl rfl ?_
        refine z_aload_n dX8_whose_16 rfl rfl ?_
        refine z_aload_n dX8_whose_17 rfl rfl ?_
        refine y_getR FX8_10 dX8_whose_18 rfl c2.1.1 c2.1.2.1 ?_
        refine z_iload_n dX8_whose_21 rfl rfl ?_
        refine y_callV (as := [_]) CX1_textAt LX8_208 IX1_textAt VX1_textAt ⟨rfl, Nat.le_of_ble_eq_true rfl⟩ dX8_whose_22 c2.1.2.2.2.2.1.o rfl (Nat.le_of_ble_eq_true rfl) (Nat.le_of_ble_eq_true rfl) (by omega) (c_textAt (d := 0) (by exact c2.1.2.2.2.2.1) (show _ = nI (a 2) from c2.2.2.2.2.2.2.2.2.2.1) v2 (by omega) q1) (rok_o rfl) ⟨Nat.le_refl _, Nat.le_refl _, hN1, hS1⟩ ?_
        refine y_callV (as := [_]) CX8_agrees LX8_402 IX8_agrees VX8_agrees ⟨rfl, Nat.le_of_ble_eq_true rfl⟩ dX8_whose_25 c2.1.1 rfl (Nat.le_of_ble_eq_true rfl) (Nat.le_of_ble_eq_true rfl) (by omega) r1 (rok_z bI_01) (hg_ss r2.1 hN1 hS1) ?_
        refine z_if_eq dX8_whose_28 rfl (fun c => absurd c (bI_ne0.mpr q)) (fun _ => ?_)
        refine z_iload_n dX8_whose_31 rfl rfl ?_
        refine y_callS (as := [_]) CX8_bit LX8_163 SX8_bit dX8_whose_32 rfl (Nat.le_of_ble_eq_true rfl) (Nat.le_of_ble_eq_true rfl) (by omega) (s_bit _) rok_i ⟨Nat.le_refl _, Nat.le_refl _, hN2, hS2⟩ ?_
        refine z_eqi (nI_bit (by omega)) ?_
        refine z_goto dX8_whose_35 rfl ?_
        refine z_ior dX8_whose_39 ?_
        refine z_eqi (nI_or _ _) ?_
        refine z_istore_n dX8_whose_40 rfl (Nat.le_of_ble_eq_true rfl) ?_
        refine z_iinc dX8_whose_41 rfl (nI_1 _) (Nat.le_of_ble_eq_true rfl) ?_
        refine z_goto dX8_whose_44 rfl ?_
        exact K
      · have e : whoF tf a (t + 1) = whoF tf a t ||| 0 := by show _ ||| (if _ then _ else _) = _; rw [if_neg q]
        rw [e] at K
        refine z_iload_n dX8_whose_4 rfl rfl ?_
        refine z_aload_n dX8_whose_5 rfl rfl ?_
        refine y_getR FX8_10 dX8_whose_6 rfl c2.1.1 c2.1.2.1 ?_
        refine y_getI FX8_89 dX8_whose_9 (Or.inl rfl) c2.1.2.2.2.2.1.o ?_
        refine z_eqi (y := nI (a 2)) (show _ = nI (a 2) from c2.2.2.2.2.2.2.2.2.2.1) ?_
        refine z_icmp_ge dX8_whose_12 rfl (fun c => absurd c (fun q => absurd ((nI_leI (by omega) (by omega)).mp q) (by omega))) (fun _ => ?_)
        refine z_iload_n dX8_whose_15 rfl rfl ?_
        refine z_aload_n dX8_whose_16 rfl rfl ?_
        refine z_aload_n dX8_whose_17 rfl rfl ?_
        refine y_getR FX8_10 dX8_whose_18 rfl c2.1.1 c2.1.2.1 ?_
        refine z_iload_n dX8_whose_21 rfl rfl ?_
        refine y_callV (as := [_]) CX1_textAt LX8_208 IX1_textAt VX1_textAt ⟨rfl, Nat.le_of_ble_eq_true rfl⟩ dX8_whose_22 c2.1.2.2.2.2.1.o rfl (Nat.le_of_ble_eq_true rfl) (Nat.le_of_ble_eq_true rfl) (by omega) (c_textAt (d := 0) (by exact c2.1.2.2.2.2.1) (show _ = nI (a 2) from c2.2.2.2.2.2.2.2.2.2.1) v2 (by omega) q1) (rok_o rfl) ⟨Nat.le_refl _, Nat.le_refl _, hN1, hS1⟩ ?_
        refine y_callV (as := [_]) CX8_agrees LX8_402 IX8_agrees VX8_agrees ⟨rfl, Nat.le_of_ble_eq_true rfl⟩ dX8_whose_25 c2.1.1 rfl (Nat.le_of_ble_eq_true rfl) (Nat.le_of_ble_eq_true rfl) (by omega) r1 (rok_z bI_01) (hg_ss r2.1 hN1 hS1) ?_
        refine z_if_eq dX8_whose_28 rfl (fun _ => ?_) (fun c => absurd (bI_eq0.mpr q) c)
        refine z_iconst (v := 0) dX8_whose_38 (by decide) ?_
        refine z_ior dX8_whose_39 ?_
        refine z_eqi (show _ = nI (whoF tf a t ||| 0) from nI_or _ 0) ?_
        refine z_istore_n dX8_whose_40 rfl (Nat.le_of_ble_eq_true rfl) ?_
        refine z_iinc dX8_whose_41 rfl (nI_1 _) (Nat.le_of_ble_eq_true rfl) ?_
        refine z_goto dX8_whose_44 rfl ?_
        exact K
  obtain ⟨h2, k1, K⟩ := L (a 2) 0 h (by omega) FR.rf
  refine ⟨h2, ?_, c1.lw k1 v4, k1⟩
  intro N S Q hN hS hQ
  have hN : pn h ≤ N := by rw [← k1.1.n]; exact hN
  have hS : ps h ≤ S := by rw [← k1.1.s]; exact hS
  refine z_iconst (v := 0) dX8_whose_0 (by decide) ?_
  refine z_istore_n dX8_whose_1 rfl (Nat.le_of_ble_eq_true rfl) ?_
  refine z_iconst (v := 0) dX8_whose_2 (by decide) ?_
  refine z_istore_n dX8_whose_3 rfl (Nat.le_of_ble_eq_true rfl) ?_
  exact K N S Q hN hS hQ

