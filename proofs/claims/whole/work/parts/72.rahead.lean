/-! ahead, until: the reference (walks by program: wip/whole/gen72.py) -/
def asF (f g : Nat → Int32) (i j : Nat) : Int32 := if 8 ≤ j ∧ j < i then f j else g j
theorem asF_0 {h : Hp} {k : Nat} {f : Nat → Int32} : sA h k (asF f (pI h k) 8) = h := by
  refine (sA_congr (fun j => ?_)).trans sA_id
  exact if_neg (by omega)
theorem asF_st {h : Hp} {k i : Nat} {f g : Nat → Int32} (hi : 8 ≤ i) : sI (sA h k (asF f g i)) k i (f i) = sA h k (asF f g (i + 1)) := by
  rw [sI_sA]
  refine sA_congr (fun j => ?_)
  unfold asF
  by_cases e : j = i
  · rw [if_pos e, if_pos (by omega), e]
  · rw [if_neg e]
    by_cases q : 8 ≤ j ∧ j < i
    · rw [if_pos q, if_pos (by omega)]
    · rw [if_neg q, if_neg (by omega)]
theorem nI_any (x : Int32) : ∃ e, x = nI e := ⟨x.toBitVec.toNat, by unfold nI; apply Int32.toBitVec.inj; simp [Int32.ofNat]⟩
theorem cI_cg {a b : Fl} {j : Nat} (e : b j = a j) : cI b j = cI a j := by
  unfold cI
  by_cases h : j = 3
  · subst h; rw [if_pos rfl, if_pos rfl, e]
  · rw [if_neg h, if_neg h, e]
theorem rn_as {s : Ms} {h : Hp} {F : Nat → Int32} (hr : RN s h) : RN s (sA h 497 F) := by
  obtain ⟨r1, r2, r3, r4, r5, r6, r7, r8⟩ := hr
  have e : ∀ k, k ≠ 497 → pI (sA h 497 F) k = pI h k := fun k hk => pI_sA_ne hk
  exact ⟨r1, by rw [e 489 (by omega)]; exact r2, by rw [e 490 (by omega)]; exact r3, by rw [e 492 (by omega)]; exact r4, by rw [e 488 (by omega)]; exact r5, by rw [e 488 (by omega)]; exact r6, by rw [e 488 (by omega)]; exact r7, by rw [e 491 (by omega)]; exact r8⟩

theorem r_setAside {h : Hp} {d : Nat} (hm0 : SM h) : Sp d mX9_setAside [.ref 488] h none (sI (sA h 497 (asF (pI h 489) (pI h 497) 110)) 488 23 0) := by
  intro N S Q hN hS hQ
  have L : ∀ r i, i + r = 110 → 8 ≤ i → T d N S mX9_setAside 3 [some (.ref 488), some (.int (nI i))] [] (sA h 497 (asF (pI h 489) (pI h 497) i)) Q := by
    intro r
    induction r with
    | zero =>
      intro i hi h8
      have e : i = 110 := by omega
      subst e
      have hm : SM (sA h 497 (asF (pI h 489) (pI h 497) 110)) := hm0
      refine z_iload_n dX9_setAside_3 rfl rfl ?_
      refine z_bipush (v := 110) dX9_setAside_4 (by decide) ?_
      refine z_icmp_ge dX9_setAside_6 rfl (fun _ => ?_) (fun c => absurd (Int32.le_refl _) c)
      refine z_aload_n dX9_setAside_27 rfl rfl ?_
      refine z_iconst (v := 0) dX9_setAside_28 (by decide) ?_
      refine y_putI FX9_43 dX9_setAside_29 (Or.inl rfl) (Or.inr ⟨rfl, by decide⟩) hm.o ?_
      refine z_vret dX9_setAside_32 ?_
      exact hQ
    | succ r ih =>
      intro i hi h8
      have hm : SM (sA h 497 (asF (pI h 489) (pI h 497) i)) := hm0
      refine z_iload_n dX9_setAside_3 rfl rfl ?_
      refine z_bipush (v := 110) dX9_setAside_4 (by decide) ?_
      refine z_icmp_ge dX9_setAside_6 rfl (fun c => absurd c (fun q => absurd ((nI_leI (a := 110) (by omega) (by omega)).mp q) (by omega))) (fun _ => ?_)
      refine z_aload_n dX9_setAside_9 rfl rfl ?_
      refine y_getR FX9_47 dX9_setAside_10 rfl hm.o hm.f_aside ?_
      refine z_iload_n dX9_setAside_13 rfl rfl ?_
      refine z_aload_n dX9_setAside_14 rfl rfl ?_
      refine y_getR FX9_7 dX9_setAside_15 rfl hm.o hm.f_a ?_
      refine z_iload_n dX9_setAside_18 rfl rfl ?_
      refine y_ialN (i) dX9_setAside_19 hm.A_a (Nat.le_of_ble_eq_true rfl) (by first | rfl | (simp only [← nI_add, ← pk_mul]; rfl)) (by omega) ?_
      refine z_eqi (show _ = pI h 489 i by rw [pI_sA_ne (by omega)]) ?_
      refine y_iasN (i) dX9_setAside_20 hm.A_aside (Nat.le_of_ble_eq_true rfl) (by first | rfl | (simp only [← nI_add, ← pk_mul]; rfl)) (by omega) ?_
      refine z_iinc dX9_setAside_21 rfl (nI_1 _) (Nat.le_of_ble_eq_true rfl) ?_
      refine z_goto dX9_setAside_24 rfl ?_
      rw [asF_st h8]; exact ih (i + 1) (by omega) (by omega)
  have L0 := L 102 8 rfl (Nat.le_refl _)
  rw [asF_0] at L0
  refine z_bipush (v := 8) dX9_setAside_0 (by decide) ?_
  refine z_istore_n dX9_setAside_2 rfl (Nat.le_of_ble_eq_true rfl) ?_
  exact L0

theorem r_putBack {h : Hp} {d : Nat} (hm0 : SM h) : Sp d mX9_putBack [.ref 488] h none (sI (sA h 489 (asF (pI h 497) (pI h 489) 110)) 488 23 1) := by
  intro N S Q hN hS hQ
  have L : ∀ r i, i + r = 110 → 8 ≤ i → T d N S mX9_putBack 3 [some (.ref 488), some (.int (nI i))] [] (sA h 489 (asF (pI h 497) (pI h 489) i)) Q := by
    intro r
    induction r with
    | zero =>
      intro i hi h8
      have e : i = 110 := by omega
      subst e
      have hm : SM (sA h 489 (asF (pI h 497) (pI h 489) 110)) := hm0
      refine z_iload_n dX9_putBack_3 rfl rfl ?_
      refine z_bipush (v := 110) dX9_putBack_4 (by decide) ?_
      refine z_icmp_ge dX9_putBack_6 rfl (fun _ => ?_) (fun c => absurd (Int32.le_refl _) c)
      refine z_aload_n dX9_putBack_27 rfl rfl ?_
      refine z_iconst (v := 1) dX9_putBack_28 (by decide) ?_
      refine y_putI FX9_43 dX9_putBack_29 (Or.inl rfl) (Or.inr ⟨rfl, by decide⟩) hm.o ?_
      refine z_vret dX9_putBack_32 ?_
      exact hQ
    | succ r ih =>
      intro i hi h8
      have hm : SM (sA h 489 (asF (pI h 497) (pI h 489) i)) := hm0
      refine z_iload_n dX9_putBack_3 rfl rfl ?_
      refine z_bipush (v := 110) dX9_putBack_4 (by decide) ?_
      refine z_icmp_ge dX9_putBack_6 rfl (fun c => absurd c (fun q => absurd ((nI_leI (a := 110) (by omega) (by omega)).mp q) (by omega))) (fun _ => ?_)
      refine z_aload_n dX9_putBack_9 rfl rfl ?_
      refine y_getR FX9_7 dX9_putBack_10 rfl hm.o hm.f_a ?_
      refine z_iload_n dX9_putBack_13 rfl rfl ?_
      refine z_aload_n dX9_putBack_14 rfl rfl ?_
      refine y_getR FX9_47 dX9_putBack_15 rfl hm.o hm.f_aside ?_
      refine z_iload_n dX9_putBack_18 rfl rfl ?_
      refine y_ialN (i) dX9_putBack_19 hm.A_aside (Nat.le_of_ble_eq_true rfl) (by first | rfl | (simp only [← nI_add, ← pk_mul]; rfl)) (by omega) ?_
      refine z_eqi (show _ = pI h 497 i by rw [pI_sA_ne (by omega)]) ?_
      refine y_iasN (i) dX9_putBack_20 hm.A_a (Nat.le_of_ble_eq_true rfl) (by first | rfl | (simp only [← nI_add, ← pk_mul]; rfl)) (by omega) ?_
      refine z_iinc dX9_putBack_21 rfl (nI_1 _) (Nat.le_of_ble_eq_true rfl) ?_
      refine z_goto dX9_putBack_24 rfl ?_
      rw [asF_st h8]; exact ih (i + 1) (by omega) (by omega)
  have L0 := L 102 8 rfl (Nat.le_refl _)
  rw [asF_0] at L0
  refine z_bipush (v := 8) dX9_putBack_0 (by decide) ?_
  refine z_istore_n dX9_putBack_2 rfl (Nat.le_of_ble_eq_true rfl) ?_
  exact L0

/-- what was set aside comes back: the market as it was -/
theorem px_back {s : Mr} {a W : Fl} {h : Hp} {b e : Nat} {g : Nat → Int32} (hp : PX g s a b W e h) (hg : ∀ j, 8 ≤ j → j < 110 → g j = cI a j) (hW : ∀ j, (j = 0 ∨ 93 ≤ j) → W j = snap a j) : RM (a, s) (sI (sA h 489 (asF (pI h 497) (pI h 489) 110)) 488 23 1) := by
  have q : RN (a, s) (sA h 489 (asF (pI h 497) (pI h 489) 110)) := by
    refine RN.sA (s := (uns a W, s)) hp.1 (fun j hj => ?_)
    unfold asF
    by_cases c : 8 ≤ j ∧ j < 110
    · rw [if_pos c, hp.2.2.2]; exact hg j c.1 c.2
    · rw [if_neg c, hp.1.2.1 j hj]
      refine cI_cg ?_
      show uns a W j = a j
      by_cases h1 : j = 1
      · subst h1
        show W 0 = a 1
        rw [hW 0 (by omega)]; rfl
      · by_cases h2 : j < 4810
        · exact uns_o ⟨h1, by omega⟩
        · have e2 : j = wx (93 + (j - 4810)) := by rw [wx_b]; omega
          rw [e2, uns_wx (by omega), hW _ (by omega), snap_wx]
  refine RN.rm (q.sS (by omega)) ?_
  rw [pI_sI, if_pos rfl, if_pos rfl]; rfl
theorem px_aside {s : Ms} {h : Hp} (hr : RM s h) : ∃ e, PX (asF (pI h 489) (pI h 497) 110) s.2 s.1 0 (snap s.1) e (sI (sA h 497 (asF (pI h 489) (pI h 497) 110)) 488 23 0) := by
  obtain ⟨e, he⟩ := nI_any (pI h 488 24)
  refine ⟨e, ?_, ?_, ?_, ?_⟩
  · exact (rn_as hr.n.1.un).sS (by omega)
  · rw [pI_sI, if_pos rfl, if_pos rfl]; rfl
  · rw [pI_sI, if_pos rfl, if_neg (by omega), pI_sA_ne (by omega)]; exact he
  · rw [pI_sI_ne (by omega), pI_sA, if_pos rfl]
theorem as_g {s : Ms} {h : Hp} (hr : RM s h) : ∀ j, 8 ≤ j → j < 110 → asF (pI h 489) (pI h 497) 110 j = cI s.1 j := fun j h1 h2 => by
  unfold asF
  rw [if_pos ⟨h1, h2⟩]
  exact hr.2.1 j (by omega)

theorem r_ah_loop {g : Nat → Int32} {n : Nat} {w z : Int32} {s : Mr} {a : Fl} {h : Hp} {d : Nat} (hj : JD s.2.2.2.2.2 a) (hd : 7 ≤ d) (hn : n ≤ 60) : ∀ r i (h1 : Hp) (e : Nat), i + r = n → PX g s a 0 (ahW 0 s.2.2.2.2.2 a i) e h1 → FM h h1 → ∃ h2 e2, PX g s a 0 (ahW 0 s.2.2.2.2.2 a n) e2 h2 ∧ FM h h2 ∧ ∀ (N S : Nat) (Q : Option Value → Hp → Prop), pn h ≤ N → ps h ≤ S → T d N S mX9_ahead 83 [some (.ref 488), some (.int (nI n)), some (.int w), some (.int z), some (.int (nI n))] [] h2 Q → T d N S mX9_ahead 54 [some (.ref 488), some (.int (nI n)), some (.int w), some (.int z), some (.int (nI i))] [] h1 Q := by
  intro r
  induction r with
  | zero =>
    intro i h1 e hi hp fm
    have ee : i = n := by omega
    subst ee
    have hm := hp.1.m
    refine ⟨h1, e, hp, fm, fun N S Q hN hS K => ?_⟩
    refine z_iload dX9_ahead_54 rfl ?_
    refine z_iload_n dX9_ahead_56 rfl rfl ?_
    refine z_icmp_ge dX9_ahead_57 rfl (fun _ => ?_) (fun c => absurd (Int32.le_refl _) c)
    exact K
  | succ r ih =>
    intro i h1 e hi hp fm
    have hm := hp.1.m
    have iv := iw_ah (b := 0) (tf := s.2.2.2.2.2) hj.2.1 i
    have iv1 := iv.1.2.1
    by_cases h9 : ahW 0 s.2.2.2.2.2 a i 1 < 9999
    · have es : ahW 0 s.2.2.2.2.2 a (i + 1) = wPass 0 s.2.2.2.2.2 a (ahW 0 s.2.2.2.2.2 a i) := if_pos h9
      obtain ⟨g1, p1, p2, p3⟩ := r_pass (d := 6) (Or.inl rfl) iv rfl hj.1.1 (Nat.le_trans hj.1.2.2.2.1 hj.1.2.2.1) hj.2.2.1 hj.2.2.2 (Nat.le_refl _) hp
      obtain ⟨h2, e2, q1, q2, K⟩ := ih (i + 1) g1 _ (by omega) (by rw [es]; exact p2) (fm.tr p3)
      refine ⟨h2, e2, q1, q2, fun N S Q hN hS KK => ?_⟩
      have hN1 : pn h1 ≤ N := by rw [fm.1.n]; exact hN
      have hS1 : ps h1 ≤ S := by rw [fm.1.s]; exact hS
      refine z_iload dX9_ahead_54 rfl ?_
      refine z_iload_n dX9_ahead_56 rfl rfl ?_
      refine z_icmp_ge dX9_ahead_57 rfl (fun c => absurd c (fun q => absurd ((nI_leI (by omega) (by omega)).mp q) (by omega))) (fun _ => ?_)
      refine z_aload_n dX9_ahead_60 rfl rfl ?_
      refine y_getR FX9_7 dX9_ahead_61 rfl hm.o hm.f_a ?_
      refine z_bipush (v := 8) dX9_ahead_64 (by decide) ?_
      refine y_ialN (8) dX9_ahead_66 hm.A_a (Nat.le_of_ble_eq_true rfl) (rfl) (by omega) ?_
      refine z_eqi (show _ = nI (ahW 0 s.2.2.2.2.2 a i 1) from hp.1.wat 1 rfl (by omega)) ?_
      refine z_sipush (v := 9999) dX9_ahead_67 (by decide) ?_
      refine z_icmp_ge dX9_ahead_70 rfl (fun c => absurd c (fun q => absurd ((nI_leI (a := 9999) (by omega) (by omega)).mp q) (by omega))) (fun _ => ?_)
      refine z_aload_n dX9_ahead_73 rfl rfl ?_
      refine y_callV (as := []) CX9_pass LX9_394 IX9_pass VX9_pass ⟨rfl, Nat.le_of_ble_eq_true rfl⟩ dX9_ahead_74 hm.o rfl (Nat.le_of_ble_eq_true rfl) (Nat.le_of_ble_eq_true rfl) (by omega) p1 rok_v (hg_ss p3.1 hN1 hS1) ?_
      refine z_iinc dX9_ahead_77 rfl (nI_1 _) (Nat.le_of_ble_eq_true rfl) ?_
      refine z_goto dX9_ahead_80 rfl ?_
      exact K N S Q hN hS KK
    · have es : ahW 0 s.2.2.2.2.2 a (i + 1) = ahW 0 s.2.2.2.2.2 a i := if_neg h9
      obtain ⟨h2, e2, q1, q2, K⟩ := ih (i + 1) h1 e (by omega) (by rw [es]; exact hp) fm
      refine ⟨h2, e2, q1, q2, fun N S Q hN hS KK => ?_⟩
      refine z_iload dX9_ahead_54 rfl ?_
      refine z_iload_n dX9_ahead_56 rfl rfl ?_
      refine z_icmp_ge dX9_ahead_57 rfl (fun c => absurd c (fun q => absurd ((nI_leI (by omega) (by omega)).mp q) (by omega))) (fun _ => ?_)
      refine z_aload_n dX9_ahead_60 rfl rfl ?_
      refine y_getR FX9_7 dX9_ahead_61 rfl hm.o hm.f_a ?_
      refine z_bipush (v := 8) dX9_ahead_64 (by decide) ?_
      refine y_ialN (8) dX9_ahead_66 hm.A_a (Nat.le_of_ble_eq_true rfl) (rfl) (by omega) ?_
      refine z_eqi (show _ = nI (ahW 0 s.2.2.2.2.2 a i 1) from hp.1.wat 1 rfl (by omega)) ?_
      refine z_sipush (v := 9999) dX9_ahead_67 (by decide) ?_
      refine z_icmp_ge dX9_ahead_70 rfl (fun _ => ?_) (fun c => absurd ((nI_leI (a := 9999) (by omega) (by omega)).mpr (by omega)) c)
      refine z_iinc dX9_ahead_77 rfl (nI_1 _) (Nat.le_of_ble_eq_true rfl) ?_
      refine z_goto dX9_ahead_80 rfl ?_
      exact K N S Q hN hS KK

theorem R_ahead {s : Ms} {h : Hp} {d : Nat} (hr : RM s h) (hj : JD s.2.2.2.2.2.2 s.1) (n w z : Int32) (hd : 7 ≤ d) : ∃ h1, Sp d mX9_ahead [.ref 488, .int n, .int w, .int z] h (some (.int (mAhead s.2.2.2.2.2.2 s.1 n w z))) h1 ∧ RM s h1 ∧ FM h h1 := by
  have hm := hr.m
  have c1 := hj.1.2.1
  have c11 := hj.1.2.2.2.2.2.2.2.2.2.2.2.1
  by_cases hc : okA s.1 n w z
  · obtain ⟨e0, p0⟩ := px_aside hr
    have f0 : FM h (sI (sA h 497 (asF (pI h 489) (pI h 497) 110)) 488 23 0) := (FM.rf.sA (by omega)).sI (by omega)
    obtain ⟨n, hn, rfl⟩ := inr_of (n := 60) (x := n) (by omega) ⟨Int32.le_trans (by decide) hc.1.1, hc.1.2⟩
    obtain ⟨j, hj2, rfl⟩ := inr_of (n := 2) (x := w) (by omega) hc.2.1
    rcases (show j = 0 ∨ j = 1 ∨ j = 2 by omega) with rfl | rfl | rfl
    · skip
      have eq : mAhead s.2.2.2.2.2.2 s.1 (nI n) (nI 0) z = nI (ahW 0 s.2.2.2.2.2.2 s.1 n 3) := by
        unfold mAhead
        rw [if_pos hc, nn_nI (by omega)]
        unfold ahV
        rw [if_pos (show nI 0 = (0 : Int32) from rfl), ag_ah hj.2.1 n 3 (by omega) (by omega)]
      rw [eq]
      obtain ⟨h2, e2, q1, q2, K⟩ := r_ah_loop (h := sI (sA h 497 (asF (pI h 489) (pI h 497) 110)) 488 23 0) (d := d) (n := n) (w := nI 0) (z := z) hj hd hn n 0 _ e0 (by omega) p0 FM.rf
      have fm : FM h h2 := f0.tr q2
      have hm2 := q1.1.m
      have rb := px_back q1 (as_g hr) (fun j hj' => bk_ah hj.2.1 (by omega) n)
      have fe : FM h2 (sI (sA h2 489 (asF (pI h2 497) (pI h2 489) 110)) 488 23 1) := (FM.rf.sA (by omega)).sI (by omega)
      refine ⟨_, ?_, rb, fm.tr fe⟩
      intro N S Q hN hS hQ
      have hN : pn h ≤ N := by rw [← fm.1.n]; exact hN
      have hS : ps h ≤ S := by rw [← fm.1.s]; exact hS
      have hN2 : pn h2 ≤ N := by rw [fm.1.n]; exact hN
      have hS2 : ps h2 ≤ S := by rw [fm.1.s]; exact hS
      have KK : T d N S mX9_ahead 83 [some (.ref 488), some (.int (nI n)), some (.int (nI 0)), some (.int z), some (.int (nI n))] [] h2 Q := by
        refine z_iload_n dX9_ahead_83 rfl rfl ?_
        refine z_if_ne dX9_ahead_84 rfl (fun c => absurd (by decide) c) (fun _ => ?_)
        refine z_aload_n dX9_ahead_87 rfl rfl ?_
        refine y_getR FX9_7 dX9_ahead_88 rfl hm2.o hm2.f_a ?_
        refine z_bipush (v := 10) dX9_ahead_91 (by decide) ?_
        refine y_ialN (10) dX9_ahead_93 hm2.A_a (Nat.le_of_ble_eq_true rfl) (rfl) (by omega) ?_
        refine z_eqi (show _ = nI (ahW 0 s.2.2.2.2.2.2 s.1 n 3) from q1.1.wat 3 rfl (by omega)) ?_
        refine z_goto dX9_ahead_94 rfl ?_
        refine z_istore dX9_ahead_117 (Nat.le_of_ble_eq_true rfl) ?_
        refine z_aload_n dX9_ahead_119 rfl rfl ?_
        refine y_callV (as := []) CX9_putBack LX9_441 IX9_putBack VX9_putBack ⟨rfl, Nat.le_of_ble_eq_true rfl⟩ dX9_ahead_120 hm2.o rfl (Nat.le_of_ble_eq_true rfl) (Nat.le_of_ble_eq_true rfl) (by omega) (r_putBack (by exact hm2)) rok_v ⟨Nat.le_refl _, Nat.le_refl _, hN2, hS2⟩ ?_
        refine z_iload dX9_ahead_123 rfl ?_
        refine z_iret dX9_ahead_125 ?_
        exact hQ
      refine z_iload_n dX9_ahead_0 rfl rfl ?_
      refine z_iconst (v := 1) dX9_ahead_1 (by decide) ?_
      refine z_bipush (v := 60) dX9_ahead_2 (by decide) ?_
      refine y_callS (as := [_, _, _]) CX9_isIn LX9_63 SX9_isIn dX9_ahead_4 rfl (Nat.le_of_ble_eq_true rfl) (Nat.le_of_ble_eq_true rfl) (by omega) (r_isIn _ _ _) (rok_z bI_01) ⟨Nat.le_refl _, Nat.le_refl _, hN, hS⟩ ?_
      refine z_if_eq dX9_ahead_7 rfl (fun c => absurd c (bI_ne0.mpr hc.1)) (fun _ => ?_)
      refine z_iload_n dX9_ahead_10 rfl rfl ?_
      refine z_iconst (v := 0) dX9_ahead_11 (by decide) ?_
      refine z_iconst (v := 2) dX9_ahead_12 (by decide) ?_
      refine y_callS (as := [_, _, _]) CX9_isIn LX9_63 SX9_isIn dX9_ahead_13 rfl (Nat.le_of_ble_eq_true rfl) (Nat.le_of_ble_eq_true rfl) (by omega) (r_isIn _ _ _) (rok_z bI_01) ⟨Nat.le_refl _, Nat.le_refl _, hN, hS⟩ ?_
      refine z_if_eq dX9_ahead_16 rfl (fun c => absurd c (bI_ne0.mpr hc.2.1)) (fun _ => ?_)
      refine z_iload_n dX9_ahead_19 rfl rfl ?_
      refine z_iconst (v := 1) dX9_ahead_20 (by decide) ?_
      refine z_icmp_ne dX9_ahead_21 rfl (fun _ => ?_) (fun c => absurd c (by decide))
      refine z_iload_n dX9_ahead_32 rfl rfl ?_
      refine z_iconst (v := 2) dX9_ahead_33 (by decide) ?_
      refine z_icmp_ne dX9_ahead_34 rfl (fun _ => ?_) (fun c => absurd c (by decide))
      refine z_aload_n dX9_ahead_47 rfl rfl ?_
      refine y_callV (as := []) CX9_setAside LX9_438 IX9_setAside VX9_setAside ⟨rfl, Nat.le_of_ble_eq_true rfl⟩ dX9_ahead_48 hm.o rfl (Nat.le_of_ble_eq_true rfl) (Nat.le_of_ble_eq_true rfl) (by omega) (r_setAside (by exact (by exact hm))) rok_v ⟨Nat.le_refl _, Nat.le_refl _, hN, hS⟩ ?_
      refine z_iconst (v := 0) dX9_ahead_51 (by decide) ?_
      refine z_istore dX9_ahead_52 (Nat.le_of_ble_eq_true rfl) ?_
      exact K N S Q hN hS KK
    · skip
      obtain ⟨zz, hz, rfl⟩ := vin_of (by omega) (hc.2.2.1 rfl)
      have eq : mAhead s.2.2.2.2.2.2 s.1 (nI n) (nI 1) (nI zz) = nI (ahW 0 s.2.2.2.2.2.2 s.1 n (ppx zz 0)) := by
        unfold mAhead
        rw [if_pos hc, nn_nI (by omega)]
        unfold ahV
        rw [nn_nI (by omega), if_neg (show ¬ nI 1 = (0 : Int32) by decide), if_pos (show nI 1 = (1 : Int32) from rfl), ag_ah hj.2.1 n (ppx zz 0) (by unfold ppx; omega) (by unfold ppx; omega)]
      rw [eq]
      obtain ⟨h2, e2, q1, q2, K⟩ := r_ah_loop (h := sI (sA h 497 (asF (pI h 489) (pI h 497) 110)) 488 23 0) (d := d) (n := n) (w := nI 1) (z := (nI zz)) hj hd hn n 0 _ e0 (by omega) p0 FM.rf
      have fm : FM h h2 := f0.tr q2
      have hm2 := q1.1.m
      have rb := px_back q1 (as_g hr) (fun j hj' => bk_ah hj.2.1 (by omega) n)
      have fe : FM h2 (sI (sA h2 489 (asF (pI h2 497) (pI h2 489) 110)) 488 23 1) := (FM.rf.sA (by omega)).sI (by omega)
      refine ⟨_, ?_, rb, fm.tr fe⟩
      intro N S Q hN hS hQ
      have hN : pn h ≤ N := by rw [← fm.1.n]; exact hN
      have hS : ps h ≤ S := by rw [← fm.1.s]; exact hS
      have hN2 : pn h2 ≤ N := by rw [fm.1.n]; exact hN
      have hS2 : ps h2 ≤ S := by rw [fm.1.s]; exact hS
      have KK : T d N S mX9_ahead 83 [some (.ref 488), some (.int (nI n)), some (.int (nI 1)), some (.int (nI zz)), some (.int (nI n))] [] h2 Q := by
        refine z_iload_n dX9_ahead_83 rfl rfl ?_
        refine z_if_ne dX9_ahead_84 rfl (fun _ => ?_) (fun c => absurd c (by decide))
        refine z_iload_n dX9_ahead_97 rfl rfl ?_
        refine z_iconst (v := 1) dX9_ahead_98 (by decide) ?_
        refine z_icmp_ne dX9_ahead_99 rfl (fun c => absurd (by decide) c) (fun _ => ?_)
        refine z_aload_n dX9_ahead_102 rfl rfl ?_
        refine z_iload_n dX9_ahead_103 rfl rfl ?_
        refine z_iconst (v := 0) dX9_ahead_104 (by decide) ?_
        refine y_callV (as := [_, _]) CX9_get LX9_87 IX9_get VX9_get ⟨rfl, Nat.le_of_ble_eq_true rfl⟩ dX9_ahead_105 hm2.o rfl (Nat.le_of_ble_eq_true rfl) (Nat.le_of_ble_eq_true rfl) (by omega) (r_get (j := zz) (w := 0) (by exact hm2) (by omega) (by omega)) rok_i ⟨Nat.le_refl _, Nat.le_refl _, hN2, hS2⟩ ?_
        refine z_eqi (show _ = nI (ahW 0 s.2.2.2.2.2.2 s.1 n (ppx zz 0)) from q1.1.wat _ (wx_pp (by omega) (by omega)).symm (by unfold ppx; omega)) ?_
        refine z_goto dX9_ahead_108 rfl ?_
        refine z_istore dX9_ahead_117 (Nat.le_of_ble_eq_true rfl) ?_
        refine z_aload_n dX9_ahead_119 rfl rfl ?_
        refine y_callV (as := []) CX9_putBack LX9_441 IX9_putBack VX9_putBack ⟨rfl, Nat.le_of_ble_eq_true rfl⟩ dX9_ahead_120 hm2.o rfl (Nat.le_of_ble_eq_true rfl) (Nat.le_of_ble_eq_true rfl) (by omega) (r_putBack (by exact hm2)) rok_v ⟨Nat.le_refl _, Nat.le_refl _, hN2, hS2⟩ ?_
        refine z_iload dX9_ahead_123 rfl ?_
        refine z_iret dX9_ahead_125 ?_
        exact hQ
      refine z_iload_n dX9_ahead_0 rfl rfl ?_
      refine z_iconst (v := 1) dX9_ahead_1 (by decide) ?_
      refine z_bipush (v := 60) dX9_ahead_2 (by decide) ?_
      refine y_callS (as := [_, _, _]) CX9_isIn LX9_63 SX9_isIn dX9_ahead_4 rfl (Nat.le_of_ble_eq_true rfl) (Nat.le_of_ble_eq_true rfl) (by omega) (r_isIn _ _ _) (rok_z bI_01) ⟨Nat.le_refl _, Nat.le_refl _, hN, hS⟩ ?_
      refine z_if_eq dX9_ahead_7 rfl (fun c => absurd c (bI_ne0.mpr hc.1)) (fun _ => ?_)
      refine z_iload_n dX9_ahead_10 rfl rfl ?_
      refine z_iconst (v := 0) dX9_ahead_11 (by decide) ?_
      refine z_iconst (v := 2) dX9_ahead_12 (by decide) ?_
      refine y_callS (as := [_, _, _]) CX9_isIn LX9_63 SX9_isIn dX9_ahead_13 rfl (Nat.le_of_ble_eq_true rfl) (Nat.le_of_ble_eq_true rfl) (by omega) (r_isIn _ _ _) (rok_z bI_01) ⟨Nat.le_refl _, Nat.le_refl _, hN, hS⟩ ?_
      refine z_if_eq dX9_ahead_16 rfl (fun c => absurd c (bI_ne0.mpr hc.2.1)) (fun _ => ?_)
      refine z_iload_n dX9_ahead_19 rfl rfl ?_
      refine z_iconst (v := 1) dX9_ahead_20 (by decide) ?_
      refine z_icmp_ne dX9_ahead_21 rfl (fun c => absurd (by decide) c) (fun _ => ?_)
      refine z_aload_n dX9_ahead_24 rfl rfl ?_
      refine z_iload_n dX9_ahead_25 rfl rfl ?_
      refine y_callV (as := [_]) CX9_isProphet LX9_365 IX9_isProphet VX9_isProphet ⟨rfl, Nat.le_of_ble_eq_true rfl⟩ dX9_ahead_26 hm.o rfl (Nat.le_of_ble_eq_true rfl) (Nat.le_of_ble_eq_true rfl) (by omega) (r_isProphet (d := 1) (by exact (by exact hm)) (hr.at (by omega) (by omega)) (by omega) _ (Nat.le_refl _)) (rok_z bI_01) ⟨Nat.le_refl _, Nat.le_refl _, hN, hS⟩ ?_
      refine z_if_eq dX9_ahead_29 rfl (fun c => absurd c (bI_ne0.mpr (hc.2.2.1 rfl))) (fun _ => ?_)
      refine z_iload_n dX9_ahead_32 rfl rfl ?_
      refine z_iconst (v := 2) dX9_ahead_33 (by decide) ?_
      refine z_icmp_ne dX9_ahead_34 rfl (fun _ => ?_) (fun c => absurd c (by decide))
      refine z_aload_n dX9_ahead_47 rfl rfl ?_
      refine y_callV (as := []) CX9_setAside LX9_438 IX9_setAside VX9_setAside ⟨rfl, Nat.le_of_ble_eq_true rfl⟩ dX9_ahead_48 hm.o rfl (Nat.le_of_ble_eq_true rfl) (Nat.le_of_ble_eq_true rfl) (by omega) (r_setAside (by exact (by exact hm))) rok_v ⟨Nat.le_refl _, Nat.le_refl _, hN, hS⟩ ?_
      refine z_iconst (v := 0) dX9_ahead_51 (by decide) ?_
      refine z_istore dX9_ahead_52 (Nat.le_of_ble_eq_true rfl) ?_
      exact K N S Q hN hS KK
    · skip
      obtain ⟨zz, hz, rfl⟩ := vin_of (by omega) (hc.2.2.2 rfl)
      have eq : mAhead s.2.2.2.2.2.2 s.1 (nI n) (nI 2) (nI zz) = nI (ahW 0 s.2.2.2.2.2.2 s.1 n (pcx zz 5)) := by
        unfold mAhead
        rw [if_pos hc, nn_nI (by omega)]
        unfold ahV
        rw [nn_nI (by omega), if_neg (show ¬ nI 2 = (0 : Int32) by decide), if_neg (show ¬ nI 2 = (1 : Int32) by decide), ag_ah hj.2.1 n (pcx zz 5) (by unfold pcx; omega) (by unfold pcx; omega)]
      rw [eq]
      obtain ⟨h2, e2, q1, q2, K⟩ := r_ah_loop (h := sI (sA h 497 (asF (pI h 489) (pI h 497) 110)) 488 23 0) (d := d) (n := n) (w := nI 2) (z := (nI zz)) hj hd hn n 0 _ e0 (by omega) p0 FM.rf
      have fm : FM h h2 := f0.tr q2
      have hm2 := q1.1.m
      have rb := px_back q1 (as_g hr) (fun j hj' => bk_ah hj.2.1 (by omega) n)
      have fe : FM h2 (sI (sA h2 489 (asF (pI h2 497) (pI h2 489) 110)) 488 23 1) := (FM.rf.sA (by omega)).sI (by omega)
      refine ⟨_, ?_, rb, fm.tr fe⟩
      intro N S Q hN hS hQ
      have hN : pn h ≤ N := by rw [← fm.1.n]; exact hN
      have hS : ps h ≤ S := by rw [← fm.1.s]; exact hS
      have hN2 : pn h2 ≤ N := by rw [fm.1.n]; exact hN
      have hS2 : ps h2 ≤ S := by rw [fm.1.s]; exact hS
      have KK : T d N S mX9_ahead 83 [some (.ref 488), some (.int (nI n)), some (.int (nI 2)), some (.int (nI zz)), some (.int (nI n))] [] h2 Q := by
        refine z_iload_n dX9_ahead_83 rfl rfl ?_
        refine z_if_ne dX9_ahead_84 rfl (fun _ => ?_) (fun c => absurd c (by decide))
        refine z_iload_n dX9_ahead_97 rfl rfl ?_
        refine z_iconst (v := 1) dX9_ahead_98 (by decide) ?_
        refine z_icmp_ne dX9_ahead_99 rfl (fun _ => ?_) (fun c => absurd c (by decide))
        refine z_aload_n dX9_ahead_111 rfl rfl ?_
        refine z_iload_n dX9_ahead_112 rfl rfl ?_
        refine z_iconst (v := 5) dX9_ahead_113 (by decide) ?_
        refine y_callV (as := [_, _]) CX9_got LX9_67 IX9_got VX9_got ⟨rfl, Nat.le_of_ble_eq_true rfl⟩ dX9_ahead_114 hm2.o rfl (Nat.le_of_ble_eq_true rfl) (Nat.le_of_ble_eq_true rfl) (by omega) (r_got (j := zz) (w := 5) (by exact hm2) (by omega) (by omega)) rok_i ⟨Nat.le_refl _, Nat.le_refl _, hN2, hS2⟩ ?_
        refine z_eqi (show _ = nI (ahW 0 s.2.2.2.2.2.2 s.1 n (pcx zz 5)) from q1.1.wat _ (wx_pc (by omega) (by omega)).symm (by unfold pcx; omega)) ?_
        refine z_istore dX9_ahead_117 (Nat.le_of_ble_eq_true rfl) ?_
        refine z_aload_n dX9_ahead_119 rfl rfl ?_
        refine y_callV (as := []) CX9_putBack LX9_441 IX9_putBack VX9_putBack ⟨rfl, Nat.le_of_ble_eq_true rfl⟩ dX9_ahead_120 hm2.o rfl (Nat.le_of_ble_eq_true rfl) (Nat.le_of_ble_eq_true rfl) (by omega) (r_putBack (by exact hm2)) rok_v ⟨Nat.le_refl _, Nat.le_refl _, hN2, hS2⟩ ?_
        refine z_iload dX9_ahead_123 rfl ?_
        refine z_iret dX9_ahead_125 ?_
        exact hQ
      refine z_iload_n dX9_ahead_0 rfl rfl ?_
      refine z_iconst (v := 1) dX9_ahead_1 (by decide) ?_
      refine z_bipush (v := 60) dX9_ahead_2 (by decide) ?_
      refine y_callS (as := [_, _, _]) CX9_isIn LX9_63 SX9_isIn dX9_ahead_4 rfl (Nat.le_of_ble_eq_true rfl) (Nat.le_of_ble_eq_true rfl) (by omega) (r_isIn _ _ _) (rok_z bI_01) ⟨Nat.le_refl _, Nat.le_refl _, hN, hS⟩ ?_
      refine z_if_eq dX9_ahead_7 rfl (fun c => absurd c (bI_ne0.mpr hc.1)) (fun _ => ?_)
      refine z_iload_n dX9_ahead_10 rfl rfl ?_
      refine z_iconst (v := 0) dX9_ahead_11 (by decide) ?_
      refine z_iconst (v := 2) dX9_ahead_12 (by decide) ?_
      refine y_callS (as := [_, _, _]) CX9_isIn LX9_63 SX9_isIn dX9_ahead_13 rfl (Nat.le_of_ble_eq_true rfl) (Nat.le_of_ble_eq_true rfl) (by omega) (r_isIn _ _ _) (rok_z bI_01) ⟨Nat.le_refl _, Nat.le_refl _, hN, hS⟩ ?_
      refine z_if_eq dX9_ahead_16 rfl (fun c => absurd c (bI_ne0.mpr hc.2.1)) (fun _ => ?_)
      refine z_iload_n dX9_ahead_19 rfl rfl ?_
      refine z_iconst (v := 1) dX9_ahead_20 (by decide) ?_
      refine z_icmp_ne dX9_ahead_21 rfl (fun _ => ?_) (fun c => absurd c (by decide))
      refine z_iload_n dX9_ahead_32 rfl rfl ?_
      refine z_iconst (v := 2) dX9_ahead_33 (by decide) ?_
      refine z_icmp_ne dX9_ahead_34 rfl (fun c => absurd (by decide) c) (fun _ => ?_)
      refine z_aload_n dX9_ahead_37 rfl rfl ?_
      refine z_iload_n dX9_ahead_38 rfl rfl ?_
      refine y_callV (as := [_]) CX9_isProphecy LX9_75 IX9_isProphecy VX9_isProphecy ⟨rfl, Nat.le_of_ble_eq_true rfl⟩ dX9_ahead_39 hm.o rfl (Nat.le_of_ble_eq_true rfl) (Nat.le_of_ble_eq_true rfl) (by omega) (r_isProphecy (d := 1) (by exact (by exact hm)) (hr.at (by omega) (by omega)) (by omega) _ (Nat.le_refl _)) (rok_z bI_01) ⟨Nat.le_refl _, Nat.le_refl _, hN, hS⟩ ?_
      refine z_if_ne dX9_ahead_42 rfl (fun _ => ?_) (fun c => absurd c (bI_ne0.mpr (hc.2.2.2 rfl)))
      refine z_aload_n dX9_ahead_47 rfl rfl ?_
      refine y_callV (as := []) CX9_setAside LX9_438 IX9_setAside VX9_setAside ⟨rfl, Nat.le_of_ble_eq_true rfl⟩ dX9_ahead_48 hm.o rfl (Nat.le_of_ble_eq_true rfl) (Nat.le_of_ble_eq_true rfl) (by omega) (r_setAside (by exact (by exact hm))) rok_v ⟨Nat.le_refl _, Nat.le_refl _, hN, hS⟩ ?_
      refine z_iconst (v := 0) dX9_ahead_51 (by decide) ?_
      refine z_istore dX9_ahead_52 (Nat.le_of_ble_eq_true rfl) ?_
      exact K N S Q hN hS KK
  · have eq : mAhead s.2.2.2.2.2.2 s.1 n w z = -1 := if_neg hc
    rw [eq]
    refine ⟨h, ?_, hr, FM.rf⟩
    intro N S Q hN hS hQ
    by_cases k1 : inr n 1 60
    · by_cases k2 : inr w 0 2
      · by_cases k3 : w = 1
        · subst k3
          have k4 : ¬ vin z (s.1 1) := fun q => hc ⟨k1, k2, fun _ => q, fun e => absurd e (by decide)⟩
          refine z_iload_n dX9_ahead_0 rfl rfl ?_
          refine z_iconst (v := 1) dX9_ahead_1 (by decide) ?_
          refine z_bipush (v := 60) dX9_ahead_2 (by decide) ?_
          refine y_callS (as := [_, _, _]) CX9_isIn LX9_63 SX9_isIn dX9_ahead_4 rfl (Nat.le_of_ble_eq_true rfl) (Nat.le_of_ble_eq_true rfl) (by omega) (r_isIn _ _ _) (rok_z bI_01) ⟨Nat.le_refl _, Nat.le_refl _, hN, hS⟩ ?_
          refine z_if_eq dX9_ahead_7 rfl (fun c => absurd c (bI_ne0.mpr k1)) (fun _ => ?_)
          refine z_iload_n dX9_ahead_10 rfl rfl ?_
          refine z_iconst (v := 0) dX9_ahead_11 (by decide) ?_
          refine z_iconst (v := 2) dX9_ahead_12 (by decide) ?_
          refine y_callS (as := [_, _, _]) CX9_isIn LX9_63 SX9_isIn dX9_ahead_13 rfl (Nat.le_of_ble_eq_true rfl) (Nat.le_of_ble_eq_true rfl) (by omega) (r_isIn _ _ _) (rok_z bI_01) ⟨Nat.le_refl _, Nat.le_refl _, hN, hS⟩ ?_
          refine z_if_eq dX9_ahead_16 rfl (fun c => absurd c (bI_ne0.mpr k2)) (fun _ => ?_)
          refine z_iload_n dX9_ahead_19 rfl rfl ?_
          refine z_iconst (v := 1) dX9_ahead_20 (by decide) ?_
          refine z_icmp_ne dX9_ahead_21 rfl (fun c => absurd (by decide) c) (fun _ => ?_)
          refine z_aload_n dX9_ahead_24 rfl rfl ?_
          refine z_iload_n dX9_ahead_25 rfl rfl ?_
          refine y_callV (as := [_]) CX9_isProphet LX9_365 IX9_isProphet VX9_isProphet ⟨rfl, Nat.le_of_ble_eq_true rfl⟩ dX9_ahead_26 hm.o rfl (Nat.le_of_ble_eq_true rfl) (Nat.le_of_ble_eq_true rfl) (by omega) (r_isProphet (d := 1) (by exact (by exact hm)) (hr.at (by omega) (by omega)) (by omega) _ (Nat.le_refl _)) (rok_z bI_01) ⟨Nat.le_refl _, Nat.le_refl _, hN, hS⟩ ?_
          refine z_if_eq dX9_ahead_29 rfl (fun _ => ?_) (fun c => absurd (bI_eq0.mpr k4) c)
          refine z_iconst (v := -1) dX9_ahead_45 (by decide) ?_
          refine z_iret dX9_ahead_46 ?_
          exact hQ
        · by_cases k4 : w = 2
          · subst k4
            have k5 : ¬ vin z (s.1 11) := fun q => hc ⟨k1, k2, fun e => absurd e (by decide), fun _ => q⟩
            refine z_iload_n dX9_ahead_0 rfl rfl ?_
            refine z_iconst (v := 1) dX9_ahead_1 (by decide) ?_
            refine z_bipush (v := 60) dX9_ahead_2 (by decide) ?_
            refine y_callS (as := [_, _, _]) CX9_isIn LX9_63 SX9_isIn dX9_ahead_4 rfl (Nat.le_of_ble_eq_true rfl) (Nat.le_of_ble_eq_true rfl) (by omega) (r_isIn _ _ _) (rok_z bI_01) ⟨Nat.le_refl _, Nat.le_refl _, hN, hS⟩ ?_
            refine z_if_eq dX9_ahead_7 rfl (fun c => absurd c (bI_ne0.mpr k1)) (fun _ => ?_)
            refine z_iload_n dX9_ahead_10 rfl rfl ?_
            refine z_iconst (v := 0) dX9_ahead_11 (by decide) ?_
            refine z_iconst (v := 2) dX9_ahead_12 (by decide) ?_
            refine y_callS (as := [_, _, _]) CX9_isIn LX9_63 SX9_isIn dX9_ahead_13 rfl (Nat.le_of_ble_eq_true rfl) (Nat.le_of_ble_eq_true rfl) (by omega) (r_isIn _ _ _) (rok_z bI_01) ⟨Nat.le_refl _, Nat.le_refl _, hN, hS⟩ ?_
            refine z_if_eq dX9_ahead_16 rfl (fun c => absurd c (bI_ne0.mpr k2)) (fun _ => ?_)
            refine z_iload_n dX9_ahead_19 rfl rfl ?_
            refine z_iconst (v := 1) dX9_ahead_20 (by decide) ?_
            refine z_icmp_ne dX9_ahead_21 rfl (fun _ => ?_) (fun c => absurd c (by decide))
            refine z_iload_n dX9_ahead_32 rfl rfl ?_
            refine z_iconst (v := 2) dX9_ahead_33 (by decide) ?_
            refine z_icmp_ne dX9_ahead_34 rfl (fun c => absurd (by decide) c) (fun _ => ?_)
            refine z_aload_n dX9_ahead_37 rfl rfl ?_
            refine z_iload_n dX9_ahead_38 rfl rfl ?_
            refine y_callV (as := [_]) CX9_isProphecy LX9_75 IX9_isProphecy VX9_isProphecy ⟨rfl, Nat.le_of_ble_eq_true rfl⟩ dX9_ahead_39 hm.o rfl (Nat.le_of_ble_eq_true rfl) (Nat.le_of_ble_eq_true rfl) (by omega) (r_isProphecy (d := 1) (by exact (by exact hm)) (hr.at (by omega) (by omega)) (by omega) _ (Nat.le_refl _)) (rok_z bI_01) ⟨Nat.le_refl _, Nat.le_refl _, hN, hS⟩ ?_
            refine z_if_ne dX9_ahead_42 rfl (fun c => absurd (bI_eq0.mpr k5) c) (fun _ => ?_)
            refine z_iconst (v := -1) dX9_ahead_45 (by decide) ?_
            refine z_iret dX9_ahead_46 ?_
            exact hQ
          · exact absurd ⟨k1, k2, fun e => absurd e k3, fun e => absurd e k4⟩ hc
      · skip
        refine z_iload_n dX9_ahead_0 rfl rfl ?_
        refine z_iconst (v := 1) dX9_ahead_1 (by decide) ?_
        refine z_bipush (v := 60) dX9_ahead_2 (by decide) ?_
        refine y_callS (as := [_, _, _]) CX9_isIn LX9_63 SX9_isIn dX9_ahead_4 rfl (Nat.le_of_ble_eq_true rfl) (Nat.le_of_ble_eq_true rfl) (by omega) (r_isIn _ _ _) (rok_z bI_01) ⟨Nat.le_refl _, Nat.le_refl _, hN, hS⟩ ?_
        refine z_if_eq dX9_ahead_7 rfl (fun c => absurd c (bI_ne0.mpr k1)) (fun _ => ?_)
        refine z_iload_n dX9_ahead_10 rfl rfl ?_
        refine z_iconst (v := 0) dX9_ahead_11 (by decide) ?_
        refine z_iconst (v := 2) dX9_ahead_12 (by decide) ?_
        refine y_callS (as := [_, _, _]) CX9_isIn LX9_63 SX9_isIn dX9_ahead_13 rfl (Nat.le_of_ble_eq_true rfl) (Nat.le_of_ble_eq_true rfl) (by omega) (r_isIn _ _ _) (rok_z bI_01) ⟨Nat.le_refl _, Nat.le_refl _, hN, hS⟩ ?_
        refine z_if_eq dX9_ahead_16 rfl (fun _ => ?_) (fun c => absurd (bI_eq0.mpr k2) c)
        refine z_iconst (v := -1) dX9_ahead_45 (by decide) ?_
        refine z_iret dX9_ahead_46 ?_
        exact hQ
    · skip
      refine z_iload_n dX9_ahead_0 rfl rfl ?_
      refine z_iconst (v := 1) dX9_ahead_1 (by decide) ?_
      refine z_bipush (v := 60) dX9_ahead_2 (by decide) ?_
      refine y_callS (as := [_, _, _]) CX9_isIn LX9_63 SX9_isIn dX9_ahead_4 rfl (Nat.le_of_ble_eq_true rfl) (Nat.le_of_ble_eq_true rfl) (by omega) (r_isIn _ _ _) (rok_z bI_01) ⟨Nat.le_refl _, Nat.le_refl _, hN, hS⟩ ?_
      refine z_if_eq dX9_ahead_7 rfl (fun _ => ?_) (fun c => absurd (bI_eq0.mpr k1) c)
      refine z_iconst (v := -1) dX9_ahead_45 (by decide) ?_
      refine z_iret dX9_ahead_46 ?_
      exact hQ

theorem r_un_loop {g : Nat → Int32} {k : Nat} {s : Mr} {a : Fl} {h : Hp} {d : Nat} (hj : JD s.2.2.2.2.2 a) (hd : 7 ≤ d) (hk : k < snap a 4) : ∀ r i (W : Fl) (h1 : Hp) (e : Nat) (o3 : Option Value), i + r = 60 → IW (a 0) W → W 4 = snap a 4 → (∀ j, (j = 0 ∨ 93 ≤ j) → W j = snap a j) → W (pcx k 5) = 0 → PX g s a 0 W e h1 → FM h h1 → ∃ h2 W2 e2, PX g s a 0 W2 e2 h2 ∧ (∀ j, (j = 0 ∨ 93 ≤ j) → W2 j = snap a j) ∧ FM h h2 ∧ ∀ (N S : Nat) (Q : Option Value → Hp → Prop), pn h ≤ N → ps h ≤ S → (∀ o2, T d N S mX9_until 67 [some (.ref 488), some (.int (nI k)), o2, some (.int (utl 0 s.2.2.2.2.2 a k r i W))] [] h2 Q) → T d N S mX9_until 16 [some (.ref 488), some (.int (nI k)), some (.int (nI i)), o3] [] h1 Q := by
  have k12 : k < 12 := by have := hj.2.1.1.2.2.2.2.1; omega
  have en : nn (nI k) = k := nn_nI (by omega)
  have op : ∀ V : Fl, V 4 = snap a 4 → (opnW V (nI k) ↔ V (pcx k 5) = 0) := fun V hV => by
    unfold opnW
    rw [en, hV]
    exact ⟨fun q => q.2, fun q => ⟨(vin_nI (by omega) (by have := hj.2.1.1.2.2.2.2.1; omega)).mpr hk, q⟩⟩
  intro r
  induction r with
  | zero =>
    intro i W h1 e o3 hi iv w4 wb wk hp fm
    have ee : i = 60 := by omega
    subst ee
    have hm1 := hp.1.m
    refine ⟨h1, W, e, hp, wb, fm, fun N S Q hN hS K => ?_⟩
    have hN1 : pn h1 ≤ N := by rw [fm.1.n]; exact hN
    have hS1 : ps h1 ≤ S := by rw [fm.1.s]; exact hS
    refine z_iload_n dX9_until_16 rfl rfl ?_
    refine z_bipush (v := 60) dX9_until_17 (by decide) ?_
    refine z_icmp_ge dX9_until_19 rfl (fun _ => ?_) (fun c => absurd (Int32.le_refl _) c)
    refine z_aload_n dX9_until_53 rfl rfl ?_
    refine z_iload_n dX9_until_54 rfl rfl ?_
    refine y_callV (as := [_]) CX9_isOpen LX9_353 IX9_isOpen VX9_isOpen ⟨rfl, Nat.le_of_ble_eq_true rfl⟩ dX9_until_55 hm1.o rfl (Nat.le_of_ble_eq_true rfl) (Nat.le_of_ble_eq_true rfl) (by omega) (r_isOpenW (d := 2) hp.1 iv.1.2.2.2.2.1 (fun k hk => (iv.2.2.1 k hk).2.2.2.2.2.2) _ (Nat.le_refl _)) (rok_z bI_01) ⟨Nat.le_refl _, Nat.le_refl _, hN1, hS1⟩ ?_
    refine z_if_eq dX9_until_58 rfl (fun c => absurd c (bI_ne0.mpr ((op W w4).mpr wk))) (fun _ => ?_)
    refine z_iconst (v := -1) dX9_until_61 (by decide) ?_
    refine z_goto dX9_until_62 rfl ?_
    refine z_istore_n dX9_until_66 rfl (Nat.le_of_ble_eq_true rfl) ?_
    exact K _
  | succ r ih =>
    intro i W h1 e o3 hi iv w4 wb wk hp fm
    have hm1 := hp.1.m
    have iv1 := iv.1.2.1
    by_cases h9 : W 1 < 9999
    · obtain ⟨g1, p1, p2, p3⟩ := r_pass (d := 6) (Or.inl rfl) iv rfl hj.1.1 (Nat.le_trans hj.1.2.2.2.1 hj.1.2.2.1) hj.2.2.1 hj.2.2.2 (Nat.le_refl _) hp
      have iw2 := (iw_pass (b := 0) (tf := s.2.2.2.2.2) iv rfl h9).1
      have ws : wPass 0 s.2.2.2.2.2 a W 4 = W 4 := by
        unfold wPass wPass0
        rw [up_n (by omega), (iw_pK (iw_pF iv (a 0) (Nat.le_refl _)) _ (by rw [pF_o (by omega) (by omega)]; exact Nat.le_refl _)).2 4 (by omega), pF_o (by omega) (by omega)]
      have wb2 : ∀ j, (j = 0 ∨ 93 ≤ j) → wPass 0 s.2.2.2.2.2 a W j = snap a j := fun j hj => by rw [bk0_pass iv rfl (by omega)]; exact wb j hj
      have w42 := ws.trans w4
      have hm2 := p2.1.m
      have eu : utl 0 s.2.2.2.2.2 a k (r + 1) i W = if wPass 0 s.2.2.2.2.2 a W (pcx k 5) = 0 then utl 0 s.2.2.2.2.2 a k r (i + 1) (wPass 0 s.2.2.2.2.2 a W) else nI (i + 1) := if_pos h9
      by_cases hk2 : wPass 0 s.2.2.2.2.2 a W (pcx k 5) = 0
      · rw [eu, if_pos hk2]
        obtain ⟨h2, W2, e2, q1, q2, q3, K⟩ := ih (i + 1) _ g1 _ o3 (by omega) iw2 w42 wb2 hk2 p2 (fm.tr p3)
        refine ⟨h2, W2, e2, q1, q2, q3, fun N S Q hN hS KK => ?_⟩
        have hN1 : pn h1 ≤ N := by rw [fm.1.n]; exact hN
        have hS1 : ps h1 ≤ S := by rw [fm.1.s]; exact hS
        refine z_iload_n dX9_until_16 rfl rfl ?_
        refine z_bipush (v := 60) dX9_until_17 (by decide) ?_
        refine z_icmp_ge dX9_until_19 rfl (fun c => absurd c (fun q => absurd ((nI_leI (a := 60) (by omega) (by omega)).mp q) (by omega))) (fun _ => ?_)
        refine z_aload_n dX9_until_22 rfl rfl ?_
        refine y_getR FX9_7 dX9_until_23 rfl hm1.o hm1.f_a ?_
        refine z_bipush (v := 8) dX9_until_26 (by decide) ?_
        refine y_ialN (8) dX9_until_28 hm1.A_a (Nat.le_of_ble_eq_true rfl) (rfl) (by omega) ?_
        refine z_eqi (show _ = nI (W 1) from hp.1.wat 1 rfl (by omega)) ?_
        refine z_sipush (v := 9999) dX9_until_29 (by decide) ?_
        refine z_icmp_ge dX9_until_32 rfl (fun c => absurd c (fun q => absurd ((nI_leI (a := 9999) (by omega) (by omega)).mp q) (by omega))) (fun _ => ?_)
        refine z_aload_n dX9_until_35 rfl rfl ?_
        refine z_iload_n dX9_until_36 rfl rfl ?_
        refine y_callV (as := [_]) CX9_isOpen LX9_353 IX9_isOpen VX9_isOpen ⟨rfl, Nat.le_of_ble_eq_true rfl⟩ dX9_until_37 hm1.o rfl (Nat.le_of_ble_eq_true rfl) (Nat.le_of_ble_eq_true rfl) (by omega) (r_isOpenW (d := 2) hp.1 iv.1.2.2.2.2.1 (fun k hk => (iv.2.2.1 k hk).2.2.2.2.2.2) _ (Nat.le_refl _)) (rok_z bI_01) ⟨Nat.le_refl _, Nat.le_refl _, hN1, hS1⟩ ?_
        refine z_if_eq dX9_until_40 rfl (fun c => absurd c (bI_ne0.mpr ((op W w4).mpr wk))) (fun _ => ?_)
        refine z_aload_n dX9_until_43 rfl rfl ?_
        refine y_callV (as := []) CX9_pass LX9_394 IX9_pass VX9_pass ⟨rfl, Nat.le_of_ble_eq_true rfl⟩ dX9_until_44 hm1.o rfl (Nat.le_of_ble_eq_true rfl) (Nat.le_of_ble_eq_true rfl) (by omega) p1 rok_v (hg_ss p3.1 hN1 hS1) ?_
        refine z_iinc dX9_until_47 rfl (nI_1 _) (Nat.le_of_ble_eq_true rfl) ?_
        refine z_goto dX9_until_50 rfl ?_
        exact K N S Q hN hS KK
      · rw [eu, if_neg hk2]
        refine ⟨g1, _, _, p2, wb2, fm.tr p3, fun N S Q hN hS K => ?_⟩
        have hN1 : pn h1 ≤ N := by rw [fm.1.n]; exact hN
        have hS1 : ps h1 ≤ S := by rw [fm.1.s]; exact hS
        have hN2 : pn g1 ≤ N := by rw [p3.1.n]; exact hN1
        have hS2 : ps g1 ≤ S := by rw [p3.1.s]; exact hS1
        generalize wPass 0 s.2.2.2.2.2 a W = V at *
        have E : T d N S mX9_until 16 [some (.ref 488), some (.int (nI k)), some (.int (nI (i + 1))), o3] [] g1 Q := by
          refine z_iload_n dX9_until_16 rfl rfl ?_
          refine z_bipush (v := 60) dX9_until_17 (by decide) ?_
          refine z_icmp_ge dX9_until_19 rfl (fun c19 => ?_) (fun c19 => ?_)
          · -- to 53
            refine z_aload_n dX9_until_53 rfl rfl ?_
            refine z_iload_n dX9_until_54 rfl rfl ?_
            refine y_callV (as := [_]) CX9_isOpen LX9_353 IX9_isOpen VX9_isOpen ⟨rfl, Nat.le_of_ble_eq_true rfl⟩ dX9_until_55 hm2.o rfl (Nat.le_of_ble_eq_true rfl) (Nat.le_of_ble_eq_true rfl) (by omega) (r_isOpenW (d := 2) p2.1 iw2.1.2.2.2.2.1 (fun k hk => (iw2.2.2.1 k hk).2.2.2.2.2.2) _ (Nat.le_refl _)) (rok_z bI_01) ⟨Nat.le_refl _, Nat.le_refl _, hN2, hS2⟩ ?_
            refine z_if_eq dX9_until_58 rfl (fun _ => ?_) (fun c => absurd (bI_eq0.mpr (fun q => hk2 ((op V w42).mp q))) c)
            refine z_iload_n dX9_until_65 rfl rfl ?_
            refine z_istore_n dX9_until_66 rfl (Nat.le_of_ble_eq_true rfl) ?_
            exact K _
          · -- on
            refine z_aload_n dX9_until_22 rfl rfl ?_
            refine y_getR FX9_7 dX9_until_23 rfl hm2.o hm2.f_a ?_
            refine z_bipush (v := 8) dX9_until_26 (by decide) ?_
            refine y_ialN (8) dX9_until_28 hm2.A_a (Nat.le_of_ble_eq_true rfl) (rfl) (by omega) ?_
            refine z_eqi (show _ = nI (V 1) from p2.1.wat 1 rfl (by omega)) ?_
            refine z_sipush (v := 9999) dX9_until_29 (by decide) ?_
            refine z_icmp_ge dX9_until_32 rfl (fun c32 => ?_) (fun c32 => ?_)
            · -- to 53
              refine z_aload_n dX9_until_53 rfl rfl ?_
              refine z_iload_n dX9_until_54 rfl rfl ?_
              refine y_callV (as := [_]) CX9_isOpen LX9_353 IX9_isOpen VX9_isOpen ⟨rfl, Nat.le_of_ble_eq_true rfl⟩ dX9_until_55 hm2.o rfl (Nat.le_of_ble_eq_true rfl) (Nat.le_of_ble_eq_true rfl) (by omega) (r_isOpenW (d := 2) p2.1 iw2.1.2.2.2.2.1 (fun k hk => (iw2.2.2.1 k hk).2.2.2.2.2.2) _ (Nat.le_refl _)) (rok_z bI_01) ⟨Nat.le_refl _, Nat.le_refl _, hN2, hS2⟩ ?_
              refine z_if_eq dX9_until_58 rfl (fun _ => ?_) (fun c => absurd (bI_eq0.mpr (fun q => hk2 ((op V w42).mp q))) c)
              refine z_iload_n dX9_until_65 rfl rfl ?_
              refine z_istore_n dX9_until_66 rfl (Nat.le_of_ble_eq_true rfl) ?_
              exact K _
            · -- on
              refine z_aload_n dX9_until_35 rfl rfl ?_
              refine z_iload_n dX9_until_36 rfl rfl ?_
              refine y_callV (as := [_]) CX9_isOpen LX9_353 IX9_isOpen VX9_isOpen ⟨rfl, Nat.le_of_ble_eq_true rfl⟩ dX9_until_37 hm2.o rfl (Nat.le_of_ble_eq_true rfl) (Nat.le_of_ble_eq_true rfl) (by omega) (r_isOpenW (d := 2) p2.1 iw2.1.2.2.2.2.1 (fun k hk => (iw2.2.2.1 k hk).2.2.2.2.2.2) _ (Nat.le_refl _)) (rok_z bI_01) ⟨Nat.le_refl _, Nat.le_refl _, hN2, hS2⟩ ?_
              refine z_if_eq dX9_until_40 rfl (fun _ => ?_) (fun c => absurd (bI_eq0.mpr (fun q => hk2 ((op V w42).mp q))) c)
              refine z_aload_n dX9_until_53 rfl rfl ?_
              refine z_iload_n dX9_until_54 rfl rfl ?_
              refine y_callV (as := [_]) CX9_isOpen LX9_353 IX9_isOpen VX9_isOpen ⟨rfl, Nat.le_of_ble_eq_true rfl⟩ dX9_until_55 hm2.o rfl (Nat.le_of_ble_eq_true rfl) (Nat.le_of_ble_eq_true rfl) (by omega) (r_isOpenW (d := 2) p2.1 iw2.1.2.2.2.2.1 (fun k hk => (iw2.2.2.1 k hk).2.2.2.2.2.2) _ (Nat.le_refl _)) (rok_z bI_01) ⟨Nat.le_refl _, Nat.le_refl _, hN2, hS2⟩ ?_
              refine z_if_eq dX9_until_58 rfl (fun _ => ?_) (fun c => absurd (bI_eq0.mpr (fun q => hk2 ((op V w42).mp q))) c)
              refine z_iload_n dX9_until_65 rfl rfl ?_
              refine z_istore_n dX9_until_66 rfl (Nat.le_of_ble_eq_true rfl) ?_
              exact K _
        refine z_iload_n dX9_until_16 rfl rfl ?_
        refine z_bipush (v := 60) dX9_until_17 (by decide) ?_
        refine z_icmp_ge dX9_until_19 rfl (fun c => absurd c (fun q => absurd ((nI_leI (a := 60) (by omega) (by omega)).mp q) (by omega))) (fun _ => ?_)
        refine z_aload_n dX9_until_22 rfl rfl ?_
        refine y_getR FX9_7 dX9_until_23 rfl hm1.o hm1.f_a ?_
        refine z_bipush (v := 8) dX9_until_26 (by decide) ?_
        refine y_ialN (8) dX9_until_28 hm1.A_a (Nat.le_of_ble_eq_true rfl) (rfl) (by omega) ?_
        refine z_eqi (show _ = nI (W 1) from hp.1.wat 1 rfl (by omega)) ?_
        refine z_sipush (v := 9999) dX9_until_29 (by decide) ?_
        refine z_icmp_ge dX9_until_32 rfl (fun c => absurd c (fun q => absurd ((nI_leI (a := 9999) (by omega) (by omega)).mp q) (by omega))) (fun _ => ?_)
        refine z_aload_n dX9_until_35 rfl rfl ?_
        refine z_iload_n dX9_until_36 rfl rfl ?_
        refine y_callV (as := [_]) CX9_isOpen LX9_353 IX9_isOpen VX9_isOpen ⟨rfl, Nat.le_of_ble_eq_true rfl⟩ dX9_until_37 hm1.o rfl (Nat.le_of_ble_eq_true rfl) (Nat.le_of_ble_eq_true rfl) (by omega) (r_isOpenW (d := 2) hp.1 iv.1.2.2.2.2.1 (fun k hk => (iv.2.2.1 k hk).2.2.2.2.2.2) _ (Nat.le_refl _)) (rok_z bI_01) ⟨Nat.le_refl _, Nat.le_refl _, hN1, hS1⟩ ?_
        refine z_if_eq dX9_until_40 rfl (fun c => absurd c (bI_ne0.mpr ((op W w4).mpr wk))) (fun _ => ?_)
        refine z_aload_n dX9_until_43 rfl rfl ?_
        refine y_callV (as := []) CX9_pass LX9_394 IX9_pass VX9_pass ⟨rfl, Nat.le_of_ble_eq_true rfl⟩ dX9_until_44 hm1.o rfl (Nat.le_of_ble_eq_true rfl) (Nat.le_of_ble_eq_true rfl) (by omega) p1 rok_v (hg_ss p3.1 hN1 hS1) ?_
        refine z_iinc dX9_until_47 rfl (nI_1 _) (Nat.le_of_ble_eq_true rfl) ?_
        refine z_goto dX9_until_50 rfl ?_
        exact E
    · have eu : utl 0 s.2.2.2.2.2 a k (r + 1) i W = -1 := if_neg h9
      rw [eu]
      refine ⟨h1, W, e, hp, wb, fm, fun N S Q hN hS K => ?_⟩
      have hN1 : pn h1 ≤ N := by rw [fm.1.n]; exact hN
      have hS1 : ps h1 ≤ S := by rw [fm.1.s]; exact hS
      refine z_iload_n dX9_until_16 rfl rfl ?_
      refine z_bipush (v := 60) dX9_until_17 (by decide) ?_
      refine z_icmp_ge dX9_until_19 rfl (fun c => absurd c (fun q => absurd ((nI_leI (a := 60) (by omega) (by omega)).mp q) (by omega))) (fun _ => ?_)
      refine z_aload_n dX9_until_22 rfl rfl ?_
      refine y_getR FX9_7 dX9_until_23 rfl hm1.o hm1.f_a ?_
      refine z_bipush (v := 8) dX9_until_26 (by decide) ?_
      refine y_ialN (8) dX9_until_28 hm1.A_a (Nat.le_of_ble_eq_true rfl) (rfl) (by omega) ?_
      refine z_eqi (show _ = nI (W 1) from hp.1.wat 1 rfl (by omega)) ?_
      refine z_sipush (v := 9999) dX9_until_29 (by decide) ?_
      refine z_icmp_ge dX9_until_32 rfl (fun _ => ?_) (fun c => absurd ((nI_leI (a := 9999) (by omega) (by omega)).mpr (by omega)) c)
      refine z_aload_n dX9_until_53 rfl rfl ?_
      refine z_iload_n dX9_until_54 rfl rfl ?_
      refine y_callV (as := [_]) CX9_isOpen LX9_353 IX9_isOpen VX9_isOpen ⟨rfl, Nat.le_of_ble_eq_true rfl⟩ dX9_until_55 hm1.o rfl (Nat.le_of_ble_eq_true rfl) (Nat.le_of_ble_eq_true rfl) (by omega) (r_isOpenW (d := 2) hp.1 iv.1.2.2.2.2.1 (fun k hk => (iv.2.2.1 k hk).2.2.2.2.2.2) _ (Nat.le_refl _)) (rok_z bI_01) ⟨Nat.le_refl _, Nat.le_refl _, hN1, hS1⟩ ?_
      refine z_if_eq dX9_until_58 rfl (fun c => absurd c (bI_ne0.mpr ((op W w4).mpr wk))) (fun _ => ?_)
      refine z_iconst (v := -1) dX9_until_61 (by decide) ?_
      refine z_goto dX9_until_62 rfl ?_
      refine z_istore_n dX9_until_66 rfl (Nat.le_of_ble_eq_true rfl) ?_
      exact K _

theorem R_until {s : Ms} {h : Hp} {d : Nat} (hr : RM s h) (hj : JD s.2.2.2.2.2.2 s.1) (k : Int32) (hd : 7 ≤ d) : ∃ h1, Sp d mX9_until [.ref 488, .int k] h (some (.int (mUntil s.2.2.2.2.2.2 s.1 k))) h1 ∧ RM s h1 ∧ FM h h1 := by
  have hm := hr.m
  have h4 : snap s.1 4 ≤ 12 := hj.2.1.1.2.2.2.2.1
  have hb2 : ∀ k, k < snap s.1 4 → snap s.1 (pcx k 5) ≤ 2 := fun k hk => (hj.2.1.2.2.1 k hk).2.2.2.2.2.2
  by_cases hc : opnW (snap s.1) k
  · obtain ⟨k, hk, rfl⟩ := vin_of (by omega) hc.1
    have hk5 := hc.2
    rw [nn_nI (by omega)] at hk5
    have eq : mUntil s.2.2.2.2.2.2 s.1 (nI k) = utl 0 s.2.2.2.2.2.2 s.1 k 60 0 (snap s.1) := by
      unfold mUntil
      rw [if_pos hc, nn_nI (by omega)]
      exact (utl_ag (by omega) 60 0 _ _ AG.rf hj.2.1 hj.2.1).symm
    rw [eq]
    obtain ⟨e0, p0⟩ := px_aside hr
    have f0 : FM h (sI (sA h 497 (asF (pI h 489) (pI h 497) 110)) 488 23 0) := (FM.rf.sA (by omega)).sI (by omega)
    obtain ⟨h2, W2, e2, q1, qb, q2, K⟩ := r_un_loop (h := sI (sA h 497 (asF (pI h 489) (pI h 497) 110)) 488 23 0) (d := d) hj hd hk 60 0 _ _ e0 none (by omega) hj.2.1 rfl (fun _ _ => rfl) hk5 p0 FM.rf
    have fm : FM h h2 := f0.tr q2
    have hm2 := q1.1.m
    have rb := px_back q1 (as_g hr) qb
    have fe : FM h2 (sI (sA h2 489 (asF (pI h2 497) (pI h2 489) 110)) 488 23 1) := (FM.rf.sA (by omega)).sI (by omega)
    refine ⟨_, ?_, rb, fm.tr fe⟩
    intro N S Q hN hS hQ
    have hN : pn h ≤ N := by rw [← fm.1.n]; exact hN
    have hS : ps h ≤ S := by rw [← fm.1.s]; exact hS
    have hN2 : pn h2 ≤ N := by rw [fm.1.n]; exact hN
    have hS2 : ps h2 ≤ S := by rw [fm.1.s]; exact hS
    have KK : ∀ o2, T d N S mX9_until 67 [some (.ref 488), some (.int (nI k)), o2, some (.int (utl 0 s.2.2.2.2.2.2 s.1 k 60 0 (snap s.1)))] [] h2 Q := fun o2 => by
      refine z_aload_n dX9_until_67 rfl rfl ?_
      refine y_callV (as := []) CX9_putBack LX9_441 IX9_putBack VX9_putBack ⟨rfl, Nat.le_of_ble_eq_true rfl⟩ dX9_until_68 hm2.o rfl (Nat.le_of_ble_eq_true rfl) (Nat.le_of_ble_eq_true rfl) (by omega) (r_putBack (by exact hm2)) rok_v ⟨Nat.le_refl _, Nat.le_refl _, hN2, hS2⟩ ?_
      refine z_iload_n dX9_until_71 rfl rfl ?_
      refine z_iret dX9_until_72 ?_
      exact hQ
    refine z_aload_n dX9_until_0 rfl rfl ?_
    refine z_iload_n dX9_until_1 rfl rfl ?_
    refine y_callV (as := [_]) CX9_isOpen LX9_353 IX9_isOpen VX9_isOpen ⟨rfl, Nat.le_of_ble_eq_true rfl⟩ dX9_until_2 hm.o rfl (Nat.le_of_ble_eq_true rfl) (Nat.le_of_ble_eq_true rfl) (by omega) (r_isOpenW (d := 2) hr.n.1.un h4 hb2 _ (Nat.le_refl _)) (rok_z bI_01) ⟨Nat.le_refl _, Nat.le_refl _, hN, hS⟩ ?_
    refine z_if_ne dX9_until_5 rfl (fun _ => ?_) (fun c => absurd c (bI_ne0.mpr hc))
    refine z_aload_n dX9_until_10 rfl rfl ?_
    refine y_callV (as := []) CX9_setAside LX9_438 IX9_setAside VX9_setAside ⟨rfl, Nat.le_of_ble_eq_true rfl⟩ dX9_until_11 hm.o rfl (Nat.le_of_ble_eq_true rfl) (Nat.le_of_ble_eq_true rfl) (by omega) (r_setAside (by exact (by exact hm))) rok_v ⟨Nat.le_refl _, Nat.le_refl _, hN, hS⟩ ?_
    refine z_iconst (v := 0) dX9_until_14 (by decide) ?_
    refine z_istore_n dX9_until_15 rfl (Nat.le_of_ble_eq_true rfl) ?_
    exact K N S Q hN hS KK
  · have eq : mUntil s.2.2.2.2.2.2 s.1 k = -1 := if_neg hc
    rw [eq]
    refine ⟨h, ?_, hr, FM.rf⟩
    intro N S Q hN hS hQ
    refine z_aload_n dX9_until_0 rfl rfl ?_
    refine z_iload_n dX9_until_1 rfl rfl ?_
    refine y_callV (as := [_]) CX9_isOpen LX9_353 IX9_isOpen VX9_isOpen ⟨rfl, Nat.le_of_ble_eq_true rfl⟩ dX9_until_2 hm.o rfl (Nat.le_of_ble_eq_true rfl) (Nat.le_of_ble_eq_true rfl) (by omega) (r_isOpenW (d := 2) hr.n.1.un h4 hb2 _ (Nat.le_refl _)) (rok_z bI_01) ⟨Nat.le_refl _, Nat.le_refl _, hN, hS⟩ ?_
    refine z_if_ne dX9_until_5 rfl (fun c => absurd (bI_eq0.mpr hc) c) (fun _ => ?_)
    refine z_iconst (v := -1) dX9_until_8 (by decide) ?_
    refine z_iret dX9_until_9 ?_
    exact hQ

