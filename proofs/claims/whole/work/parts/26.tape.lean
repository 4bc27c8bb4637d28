/-! the tape, who rules, prophets: both sides (walks by program: wip/whole/gen26.py) -/
def mBy (a : Fl) (t : Int32) : Int32 × Fl := if -1 ≤ t ∧ t ≤ nI (a 2) - 1 then (1, up a 3 (nn (t + 1))) else (0, a)
theorem by_of {t : Int32} {n : Nat} (hn : n ≤ 4) (h : -1 ≤ t ∧ t ≤ nI n - 1) : t = nI (nn (t + 1)) - 1 ∧ nn (t + 1) ≤ n := by
  have e1 : (-1 : Int32).toInt = -1 := by decide
  have e2 : ∀ n, n ≤ 4 → (nI n - 1).toInt = (n : Int) - 1 := by decide +kernel
  have h1 := h.1
  have h2 := h.2
  rw [Int32.le_iff_toInt_le, e1] at h1
  rw [Int32.le_iff_toInt_le, e2 n hn] at h2
  have ht : ∃ j : Nat, j ≤ n ∧ t = nI j - 1 := by
    refine ⟨(t.toInt + 1).toNat, by omega, Int32.toInt_inj.mp ?_⟩
    rw [e2 _ (by omega)]
    omega
  obtain ⟨j, hj, rfl⟩ := ht
  rw [Int32.sub_add_cancel, nn_nI (by omega)]
  exact ⟨rfl, hj⟩
theorem RM.tape {s : Ms} {h : Hp} {i v : Nat} (hr : RM s h) : RM (s.1, s.2.1, up s.2.2.1 i v, s.2.2.2) (sI h 492 i (nI v)) := by
  obtain ⟨r1, r2, r3, r4, r5, r6, r7, r8, r9⟩ := hr
  refine ⟨r1, fun j hj => ?_, fun j hj => ?_, fun j hj => ?_, ?_, ?_, ?_, fun j hj => ?_, ?_⟩
  · rw [pI_sI, if_neg (by omega)]; exact r2 j hj
  · rw [pI_sI, if_neg (by omega)]; exact r3 j hj
  · rw [pI_sI, if_pos rfl]
    show _ = nI (up s.2.2.1 i v j)
    by_cases hji : j = i
    · subst hji; rw [if_pos rfl, up_s]
    · rw [if_neg hji, up_n hji]; exact r4 j hj
  · rw [pI_sI, if_neg (by omega)]; exact r5
  · rw [pI_sI, if_neg (by omega)]; exact r6
  · rw [pI_sI, if_neg (by omega)]; exact r7
  · rw [pI_sI, if_neg (by omega)]; exact r8 j hj
  · rw [pI_sI, if_neg (by omega)]; exact r9
theorem RM.tap {s : Ms} {h : Hp} {v : Nat} (hr : RM s h) : RM (s.1, s.2.1, s.2.2.1, v, s.2.2.2.2) (sI h 488 4 (nI v)) := by
  obtain ⟨r1, r2, r3, r4, r5, r6, r7, r8, r9⟩ := hr
  refine ⟨r1, fun j hj => ?_, fun j hj => ?_, fun j hj => ?_, ?_, ?_, ?_, fun j hj => ?_, ?_⟩
  · rw [pI_sI, if_neg (by omega)]; exact r2 j hj
  · rw [pI_sI, if_neg (by omega)]; exact r3 j hj
  · rw [pI_sI, if_neg (by omega)]; exact r4 j hj
  · rw [pI_sI, if_pos rfl, if_pos rfl]
  · rw [pI_sI, if_pos rfl, if_neg (by omega)]; exact r6
  · rw [pI_sI, if_pos rfl, if_neg (by omega)]; exact r7
  · rw [pI_sI, if_neg (by omega)]; exact r8 j hj
  · rw [pI_sI, if_pos rfl, if_neg (by omega)]; exact r9
theorem RM.four {s : Ms} {h : Hp} {v : Int32} (hr : RM s h) : RM (s.1, s.2.1, mFour s.2.2.1 s.2.2.2.1 v, s.2.2.2.1 + 4, s.2.2.2.2) (fourH h s.2.2.2.1 v) :=
  ((((((hr.tape.tap).tape).tap).tape).tap).tape).tap
theorem FM.four {h h1 : Hp} {t : Nat} {v : Int32} (hf : FM h h1) : FM h (fourH h1 t v) :=
  (((((((hf.sI (by omega)).sI (by omega)).sI (by omega)).sI (by omega)).sI (by omega)).sI (by omega)).sI (by omega)).sI (by omega)
theorem fourH_t {h : Hp} {t : Nat} {v : Int32} : pI (fourH h t v) 488 4 = nI (t + 4) := by
  unfold fourH
  rw [pI_sI, if_pos rfl, if_pos rfl]
def mFeed (s : Ms) (a b c d e : Int32) : Int32 × Ms := if s.2.2.2.1 + 20 ≤ 300 then (nI (s.2.2.2.1 + 20), (s.1, s.2.1, mFour (mFour (mFour (mFour (mFour s.2.2.1 s.2.2.2.1 a) (s.2.2.2.1 + 4) b) (s.2.2.2.1 + 4 + 4) c) (s.2.2.2.1 + 4 + 4 + 4) d) (s.2.2.2.1 + 4 + 4 + 4 + 4) e, s.2.2.2.1 + 4 + 4 + 4 + 4 + 4, s.2.2.2.2)) else (-1, s)
def mEnd (s : Ms) (n : Int32) : Int32 × Ms := if inr n 0 (nI s.2.2.2.1) then (n, (s.1, s.2.1, s.2.2.1, nn n, s.2.2.2.2)) else (-1, s)

theorem R_by {s : Ms} {h : Hp} {d : Nat} (hr : RM s h) (hv : IC s.1) (t : Int32) (hd : 1 ≤ d) : ∃ h1, Sp d mX9_by [.ref 488, .int t] h (some (.int (mBy s.1 t).1)) h1 ∧ RM ((mBy s.1 t).2, s.2) h1 ∧ FM h h1 := by
  have hm := hr.m
  have e2 : pI h 489 2 = nI (s.1 2) := hr.at (by omega) (by omega)
  obtain ⟨-, -, v2, -⟩ := hv
  generalize hn2 : s.1 2 = n2 at *
  by_cases hc : -1 ≤ t ∧ t ≤ nI n2 - 1
  · have hf : mBy s.1 t = (1, up s.1 3 (nn (t + 1))) := by
      unfold mBy
      rw [hn2, if_pos hc]
    rw [hf]
    have hb := by_of v2 hc
    refine ⟨sI h 489 3 t, ?_, hr.a (by unfold cI; rw [if_pos rfl, up_s]; exact hb.1), FM.rf.sI (by omega)⟩
    intro N S Q hN hS hQ
    refine z_iload_n dX9_by_0 rfl rfl ?_
    refine z_iconst (v := -1) dX9_by_1 (by decide) ?_
    refine z_aload_n dX9_by_2 rfl rfl ?_
    refine y_getR FX9_7 dX9_by_3 rfl hm.o hm.f_a ?_
    refine z_iconst (v := 2) dX9_by_6 (by decide) ?_
    refine y_ialN (2) dX9_by_7 hm.A_a (Nat.le_of_ble_eq_true rfl) (by first | rfl | (simp only [← nI_add, ← pk_mul]; rfl)) (by omega) ?_
    refine z_eqi (y := nI (n2)) e2 ?_
    refine z_iconst (v := 1) dX9_by_8 (by decide) ?_
    refine z_isub dX9_by_9 ?_
    refine y_callS (as := [_, _, _]) CX9_isIn LX9_63 SX9_isIn dX9_by_10 rfl (Nat.le_of_ble_eq_true rfl) (Nat.le_of_ble_eq_true rfl) (by omega) (r_isIn _ _ _) (rok_z bI_01) ⟨Nat.le_refl _, Nat.le_refl _, hN, hS⟩ ?_
    refine z_if_ne dX9_by_13 rfl (fun _ => ?_) (fun c => absurd c (bI_ne0.mpr hc))
    refine z_aload_n dX9_by_18 rfl rfl ?_
    refine y_getR FX9_7 dX9_by_19 rfl hm.o hm.f_a ?_
    refine z_iconst (v := 3) dX9_by_22 (by decide) ?_
    refine z_iload_n dX9_by_23 rfl rfl ?_
    refine y_iasN (3) dX9_by_24 hm.A_a (Nat.le_of_ble_eq_true rfl) (by first | rfl | (simp only [← nI_add, ← pk_mul]; rfl)) (by omega) ?_
    refine z_iconst (v := 1) dX9_by_25 (by decide) ?_
    refine z_iret dX9_by_26 ?_
    exact hQ
  · have hf : mBy s.1 t = (0, s.1) := by
      unfold mBy
      rw [hn2, if_neg hc]
    rw [hf]
    refine ⟨h, ?_, hr, FM.rf⟩
    intro N S Q hN hS hQ
    refine z_iload_n dX9_by_0 rfl rfl ?_
    refine z_iconst (v := -1) dX9_by_1 (by decide) ?_
    refine z_aload_n dX9_by_2 rfl rfl ?_
    refine y_getR FX9_7 dX9_by_3 rfl hm.o hm.f_a ?_
    refine z_iconst (v := 2) dX9_by_6 (by decide) ?_
    refine y_ialN (2) dX9_by_7 hm.A_a (Nat.le_of_ble_eq_true rfl) (by first | rfl | (simp only [← nI_add, ← pk_mul]; rfl)) (by omega) ?_
    refine z_eqi (y := nI (n2)) e2 ?_
    refine z_iconst (v := 1) dX9_by_8 (by decide) ?_
    refine z_isub dX9_by_9 ?_
    refine y_callS (as := [_, _, _]) CX9_isIn LX9_63 SX9_isIn dX9_by_10 rfl (Nat.le_of_ble_eq_true rfl) (Nat.le_of_ble_eq_true rfl) (by omega) (r_isIn _ _ _) (rok_z bI_01) ⟨Nat.le_refl _, Nat.le_refl _, hN, hS⟩ ?_
    refine z_if_ne dX9_by_13 rfl (fun c => absurd (bI_eq0.mpr hc) c) (fun _ => ?_)
    refine z_iconst (v := 0) dX9_by_16 (by decide) ?_
    refine z_iret dX9_by_17 ?_
    exact hQ

theorem R_end {s : Ms} {h : Hp} {d : Nat} (hr : RM s h) (ht : s.2.2.2.1 ≤ 300) (n : Int32) (hd : 1 ≤ d) : ∃ h1, Sp d mX9_end [.ref 488, .int n] h (some (.int (mEnd s n).1)) h1 ∧ RM (mEnd s n).2 h1 ∧ FM h h1 := by
  have hm := hr.m
  have e4 : pI h 488 4 = nI s.2.2.2.1 := hr.2.2.2.2.1
  by_cases hc : inr n 0 (nI s.2.2.2.1)
  · have hf : mEnd s n = (n, (s.1, s.2.1, s.2.2.1, nn n, s.2.2.2.2)) := by
      unfold mEnd
      rw [if_pos hc]
    rw [hf]
    obtain ⟨j, hj, rfl⟩ := inr_of (by omega) hc
    refine ⟨sI h 488 4 (nI j), ?_, by rw [nn_nI (by omega)]; exact hr.tap, FM.rf.sI (by omega)⟩
    intro N S Q hN hS hQ
    refine z_iload_n dX9_end_0 rfl rfl ?_
    refine z_iconst (v := 0) dX9_end_1 (by decide) ?_
    refine z_aload_n dX9_end_2 rfl rfl ?_
    refine y_getI FX9_90 dX9_end_3 (Or.inl rfl) hm.o ?_
    refine z_eqi (y := nI (s.2.2.2.1)) e4 ?_
    refine y_callS (as := [_, _, _]) CX9_isIn LX9_63 SX9_isIn dX9_end_6 rfl (Nat.le_of_ble_eq_true rfl) (Nat.le_of_ble_eq_true rfl) (by omega) (r_isIn _ _ _) (rok_z bI_01) ⟨Nat.le_refl _, Nat.le_refl _, hN, hS⟩ ?_
    refine z_if_ne dX9_end_9 rfl (fun _ => ?_) (fun c => absurd c (bI_ne0.mpr hc))
    refine z_aload_n dX9_end_14 rfl rfl ?_
    refine z_iload_n dX9_end_15 rfl rfl ?_
    refine y_putI FX9_90 dX9_end_16 (Or.inl rfl) (Or.inl rfl) hm.o ?_
    refine z_iload_n dX9_end_19 rfl rfl ?_
    refine z_iret dX9_end_20 ?_
    exact hQ
  · have hf : mEnd s n = (-1, s) := by
      unfold mEnd
      rw [if_neg hc]
    rw [hf]
    refine ⟨h, ?_, hr, FM.rf⟩
    intro N S Q hN hS hQ
    refine z_iload_n dX9_end_0 rfl rfl ?_
    refine z_iconst (v := 0) dX9_end_1 (by decide) ?_
    refine z_aload_n dX9_end_2 rfl rfl ?_
    refine y_getI FX9_90 dX9_end_3 (Or.inl rfl) hm.o ?_
    refine z_eqi (y := nI (s.2.2.2.1)) e4 ?_
    refine y_callS (as := [_, _, _]) CX9_isIn LX9_63 SX9_isIn dX9_end_6 rfl (Nat.le_of_ble_eq_true rfl) (Nat.le_of_ble_eq_true rfl) (by omega) (r_isIn _ _ _) (rok_z bI_01) ⟨Nat.le_refl _, Nat.le_refl _, hN, hS⟩ ?_
    refine z_if_ne dX9_end_9 rfl (fun c => absurd (bI_eq0.mpr hc) c) (fun _ => ?_)
    refine z_iconst (v := -1) dX9_end_12 (by decide) ?_
    refine z_iret dX9_end_13 ?_
    exact hQ

theorem fourH_ss {h : Hp} {t : Nat} {v : Int32} : SS h (fourH h t v) := rfl
theorem SS.leN {h h1 : Hp} {N : Nat} (hs : SS h h1) (hn : pn h ≤ N) : pn h1 ≤ N := by rw [hs.n]; exact hn
theorem SS.leS {h h1 : Hp} {S : Nat} (hs : SS h h1) (hn : ps h ≤ S) : ps h1 ≤ S := by rw [hs.s]; exact hn
theorem SS.geN {h h1 : Hp} {N : Nat} (hs : SS h h1) (hn : pn h1 ≤ N) : pn h ≤ N := by rw [← hs.n]; exact hn
theorem SS.geS {h h1 : Hp} {S : Nat} (hs : SS h h1) (hn : ps h1 ≤ S) : ps h ≤ S := by rw [← hs.s]; exact hn

theorem R_feed {s : Ms} {h : Hp} {d : Nat} (hr : RM s h) (ht : s.2.2.2.1 ≤ 300) (a b c dd e : Int32) (hd : 1 ≤ d) : ∃ h1, Sp d mX9_feed [.ref 488, .int a, .int b, .int c, .int dd, .int e] h (some (.int (mFeed s a b c dd e).1)) h1 ∧ RM (mFeed s a b c dd e).2 h1 ∧ FM h h1 := by
  have hm := hr.m
  have e4 : pI h 488 4 = nI s.2.2.2.1 := hr.2.2.2.2.1
  by_cases hc : s.2.2.2.1 + 20 ≤ 300
  · unfold mFeed
    rw [if_pos hc]
    refine ⟨fourH (fourH (fourH (fourH (fourH h s.2.2.2.1 a) (s.2.2.2.1 + 4) b) (s.2.2.2.1 + 4 + 4) c) (s.2.2.2.1 + 4 + 4 + 4) dd) (s.2.2.2.1 + 4 + 4 + 4 + 4) e, ?_, hr.four.four.four.four.four, FM.rf.four.four.four.four.four⟩
    generalize s.2.2.2.1 = t at *
    intro N S Q hN hS hQ
    have hss : SS h (fourH (fourH (fourH (fourH (fourH h t a) (t + 4) b) (t + 4 + 4) c) (t + 4 + 4 + 4) dd) (t + 4 + 4 + 4 + 4) e) := (((fourH_ss.tr fourH_ss).tr fourH_ss).tr fourH_ss).tr fourH_ss
    have hN := hss.geN hN
    have hS := hss.geS hS
    refine z_aload_n dX9_feed_0 rfl rfl ?_
    refine y_getI FX9_90 dX9_feed_1 (Or.inl rfl) hm.o ?_
    refine z_eqi (y := nI (t)) e4 ?_
    refine z_bipush (v := 20) dX9_feed_4 (by decide) ?_
    refine z_iadd dX9_feed_6 ?_
    refine z_sipush (v := 300) dX9_feed_7 (by decide) ?_
    refine z_icmp_le dX9_feed_10 rfl (fun _ => ?_) (fun c => absurd (by rw [show (20 : Int32) = nI 20 from rfl, nI_add]; exact (nI_leI (b := 300) (by omega) (by omega)).mpr hc) c)
    refine z_aload_n dX9_feed_15 rfl rfl ?_
    refine z_iload_n dX9_feed_16 rfl rfl ?_
    refine y_callV (as := [_]) CX9_four LX9_93 IX9_four VX9_four ⟨rfl, Nat.le_of_ble_eq_true rfl⟩ dX9_feed_17 hm.o rfl (Nat.le_of_ble_eq_true rfl) (Nat.le_of_ble_eq_true rfl) (by omega) (r_four (t := t) (v := a) (by exact hm) e4 (by omega)) rok_v (hg_ss fourH_ss hN hS) ?_
    have hN := SS.leN (fourH_ss (t := t) (v := a)) hN
    have hS := SS.leS (fourH_ss (t := t) (v := a)) hS
    have hm := SS.M (fourH_ss (t := t) (v := a)) hm
    refine z_aload_n dX9_feed_20 rfl rfl ?_
    refine z_iload_n dX9_feed_21 rfl rfl ?_
    refine y_callV (as := [_]) CX9_four LX9_93 IX9_four VX9_four ⟨rfl, Nat.le_of_ble_eq_true rfl⟩ dX9_feed_22 hm.o rfl (Nat.le_of_ble_eq_true rfl) (Nat.le_of_ble_eq_true rfl) (by omega) (r_four (t := t + 4) (v := b) (by exact hm) fourH_t (by omega)) rok_v (hg_ss fourH_ss hN hS) ?_
    have hN := SS.leN (fourH_ss (t := t + 4) (v := b)) hN
    have hS := SS.leS (fourH_ss (t := t + 4) (v := b)) hS
    have hm := SS.M (fourH_ss (t := t + 4) (v := b)) hm
    refine z_aload_n dX9_feed_25 rfl rfl ?_
    refine z_iload_n dX9_feed_26 rfl rfl ?_
    refine y_callV (as := [_]) CX9_four LX9_93 IX9_four VX9_four ⟨rfl, Nat.le_of_ble_eq_true rfl⟩ dX9_feed_27 hm.o rfl (Nat.le_of_ble_eq_true rfl) (Nat.le_of_ble_eq_true rfl) (by omega) (r_four (t := t + 4 + 4) (v := c) (by exact hm) fourH_t (by omega)) rok_v (hg_ss fourH_ss hN hS) ?_
    have hN := SS.leN (fourH_ss (t := t + 4 + 4) (v := c)) hN
    have hS := SS.leS (fourH_ss (t := t + 4 + 4) (v := c)) hS
    have hm := SS.M (fourH_ss (t := t + 4 + 4) (v := c)) hm
    refine z_aload_n dX9_feed_30 rfl rfl ?_
    refine z_iload dX9_feed_31 rfl ?_
    refine y_callV (as := [_]) CX9_four LX9_93 IX9_four VX9_four ⟨rfl, Nat.le_of_ble_eq_true rfl⟩ dX9_feed_33 hm.o rfl (Nat.le_of_ble_eq_true rfl) (Nat.le_of_ble_eq_true rfl) (by omega) (r_four (t := t + 4 + 4 + 4) (v := dd) (by exact hm) fourH_t (by omega)) rok_v (hg_ss fourH_ss hN hS) ?_
    have hN := SS.leN (fourH_ss (t := t + 4 + 4 + 4) (v := dd)) hN
    have hS := SS.leS (fourH_ss (t := t + 4 + 4 + 4) (v := dd)) hS
    have hm := SS.M (fourH_ss (t := t + 4 + 4 + 4) (v := dd)) hm
    refine z_aload_n dX9_feed_36 rfl rfl ?_
    refine z_iload dX9_feed_37 rfl ?_
    refine y_callV (as := [_]) CX9_four LX9_93 IX9_four VX9_four ⟨rfl, Nat.le_of_ble_eq_true rfl⟩ dX9_feed_39 hm.o rfl (Nat.le_of_ble_eq_true rfl) (Nat.le_of_ble_eq_true rfl) (by omega) (r_four (t := t + 4 + 4 + 4 + 4) (v := e) (by exact hm) fourH_t (by omega)) rok_v (hg_ss fourH_ss hN hS) ?_
    have hN := SS.leN (fourH_ss (t := t + 4 + 4 + 4 + 4) (v := e)) hN
    have hS := SS.leS (fourH_ss (t := t + 4 + 4 + 4 + 4) (v := e)) hS
    have hm := SS.M (fourH_ss (t := t + 4 + 4 + 4 + 4) (v := e)) hm
    refine z_aload_n dX9_feed_42 rfl rfl ?_
    refine y_getI FX9_90 dX9_feed_43 (Or.inl rfl) hm.o ?_
    refine z_eqi (y := nI (t + 4 + 4 + 4 + 4 + 4)) fourH_t ?_
    refine z_iret dX9_feed_46 ?_
    exact hQ
  · unfold mFeed
    rw [if_neg hc]
    refine ⟨h, ?_, hr, FM.rf⟩
    generalize s.2.2.2.1 = t at *
    intro N S Q hN hS hQ
    refine z_aload_n dX9_feed_0 rfl rfl ?_
    refine y_getI FX9_90 dX9_feed_1 (Or.inl rfl) hm.o ?_
    refine z_eqi (y := nI (t)) e4 ?_
    refine z_bipush (v := 20) dX9_feed_4 (by decide) ?_
    refine z_iadd dX9_feed_6 ?_
    refine z_sipush (v := 300) dX9_feed_7 (by decide) ?_
    refine z_icmp_le dX9_feed_10 rfl (fun c => absurd c (by rw [show (20 : Int32) = nI 20 from rfl, nI_add]; exact fun q => hc ((nI_leI (b := 300) (by omega) (by omega)).mp q))) (fun _ => ?_)
    refine z_iconst (v := -1) dX9_feed_13 (by decide) ?_
    refine z_iret dX9_feed_14 ?_
    exact hQ

