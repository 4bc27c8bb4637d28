/-! the class: the tape, who rules, prophets (walks by program: wip/whole/gen27.py) -/
/-- the tape as the class keeps it -/
def TV (h : Hp) (tp : Fl) (t : Nat) : Prop := (∀ i, i < 300 → pI h 487 i = nI (tp i)) ∧ pI h 8 7 = nI t
theorem TV.byte {h : Hp} {tp : Fl} {t i v : Nat} (ht : TV h tp t) : TV (sI h 487 i (nI v)) (up tp i v) t := by
  refine ⟨fun j hj => ?_, by rw [pI_sI, if_neg (by omega)]; exact ht.2⟩
  rw [pI_sI, if_pos rfl]
  by_cases hji : j = i
  · subst hji; rw [if_pos rfl, up_s]
  · rw [if_neg hji, up_n hji]; exact ht.1 j hj
theorem TV.len {h : Hp} {tp : Fl} {t v : Nat} (ht : TV h tp t) : TV (sI h 8 7 (nI v)) tp v :=
  ⟨fun j hj => by rw [pI_sI, if_neg (by omega)]; exact ht.1 j hj, by rw [pI_sI, if_pos rfl, if_pos rfl]⟩
def fourC (h : Hp) (t : Nat) (v : Int32) : Hp := sI (sI (sI (sI (sI (sI (sI (sI h 487 t (nI (bt v 24))) 8 7 (nI (t + 1))) 487 (t + 1) (nI (bt v 16))) 8 7 (nI (t + 1 + 1))) 487 (t + 1 + 1) (nI (bt v 8))) 8 7 (nI (t + 1 + 1 + 1))) 487 (t + 1 + 1 + 1) (nI (bt v 0))) 8 7 (nI (t + 1 + 1 + 1 + 1))
theorem fourC_ss {h : Hp} {t : Nat} {v : Int32} : SS h (fourC h t v) := rfl
theorem fourC_j {h : Hp} {t : Nat} {v : Int32} : pJ (fourC h t v) = pJ h := rfl
theorem fourC_t {h : Hp} {t : Nat} {v : Int32} : pI (fourC h t v) 8 7 = nI (t + 4) := by
  unfold fourC
  rw [pI_sI, if_pos rfl, if_pos rfl]
theorem TV.four {h : Hp} {tp : Fl} {t : Nat} {v : Int32} (ht : TV h tp t) : TV (fourC h t v) (mFour tp t v) (t + 4) := (((((((ht.byte).len).byte).len).byte).len).byte).len
/-- of the class's own cells the tape and its numbers alone have changed -/
def FT (h h1 : Hp) : Prop := SS h h1 ∧ pJ h1 = pJ h ∧ (∀ k, (k ≠ 8 ∧ k ≠ 487) → pI h1 k = pI h k) ∧ pI h1 8 8 = pI h 8 8 ∧ pI h1 8 9 = pI h 8 9
theorem FT.rf {h : Hp} : FT h h := ⟨rfl, rfl, fun _ _ => rfl, rfl, rfl⟩
theorem FT.tr {a b c : Hp} (h1 : FT a b) (h2 : FT b c) : FT a c := ⟨h1.1.tr h2.1, h2.2.1.trans h1.2.1, fun k hk => (h2.2.2.1 k hk).trans (h1.2.2.1 k hk), h2.2.2.2.1.trans h1.2.2.2.1, h2.2.2.2.2.trans h1.2.2.2.2⟩
theorem FT.b {h h1 : Hp} {i : Nat} {v : Int32} (hf : FT h h1) : FT h (sI h1 487 i v) := ⟨hf.1, hf.2.1, fun k hk => by rw [pI_sI_ne hk.2]; exact hf.2.2.1 k hk, by rw [pI_sI_ne (by omega)]; exact hf.2.2.2.1, by rw [pI_sI_ne (by omega)]; exact hf.2.2.2.2⟩
theorem FT.l {h h1 : Hp} {v : Int32} (hf : FT h h1) : FT h (sI h1 8 7 v) := ⟨hf.1, hf.2.1, fun k hk => by rw [pI_sI_ne hk.1]; exact hf.2.2.1 k hk, by rw [pI_sI, if_pos rfl, if_neg (by omega)]; exact hf.2.2.2.1, by rw [pI_sI, if_pos rfl, if_neg (by omega)]; exact hf.2.2.2.2⟩
theorem FT.four {h h1 : Hp} {t : Nat} {v : Int32} (hf : FT h h1) : FT h (fourC h1 t v) := (((((((hf.b).l).b).l).b).l).b).l

theorem c_four_it {h : Hp} {d N S t kk : Nat} {v : Int32} {Q : Option Value → Hp → Prop} (h8 : IO h 8 8) (hx6 : pR h 8 6 = some 487) (ht : IA h 10 300 487) (e : pI h 8 7 = nI t) (htt : t < 300) (hk : kk < 32) (K : T d N S mX8_putFour 3 [some (.ref 8), some (.int v), some (.int (nI kk + Int32.ofInt (-8)))] [] (sI (sI h 487 t (nI (bt v kk))) 8 7 (nI (t + 1))) Q) : T d N S mX8_putFour 3 [some (.ref 8), some (.int v), some (.int (nI kk))] [] h Q := by
  refine z_iload_n dX8_putFour_3 rfl rfl ?_
  refine z_if_lt dX8_putFour_4 rfl (fun c => absurd c (nI_pos (by omega))) (fun _ => ?_)
  refine z_aload_n dX8_putFour_7 rfl rfl ?_
  refine y_getI FX8_51 dX8_putFour_8 (Or.inl rfl) h8 ?_
  refine z_eqi (y := nI (t)) (by first | exact e | (rw [pI_sI_ne9 (by omega)]; exact e)) ?_
  refine z_if_lt dX8_putFour_11 rfl (fun c => absurd c (nI_pos (by omega))) (fun _ => ?_)
  refine z_aload_n dX8_putFour_14 rfl rfl ?_
  refine y_getI FX8_51 dX8_putFour_15 (Or.inl rfl) h8 ?_
  refine z_eqi (y := nI (t)) (by first | exact e | (rw [pI_sI_ne9 (by omega)]; exact e)) ?_
  refine z_aload_n dX8_putFour_18 rfl rfl ?_
  refine y_getR FX8_47 dX8_putFour_19 rfl h8 hx6 ?_
  refine y_alen dX8_putFour_22 ht ⟨Nat.le_of_ble_eq_true rfl, Nat.le_of_ble_eq_true rfl⟩ rfl ?_
  refine z_icmp_ge dX8_putFour_23 rfl (fun c => absurd c (fun q => absurd ((nI_leI (a := 300) (by omega) (by omega)).mp q) (by omega))) (fun _ => ?_)
  refine z_aload_n dX8_putFour_26 rfl rfl ?_
  refine y_getR FX8_47 dX8_putFour_27 rfl h8 hx6 ?_
  refine z_aload_n dX8_putFour_30 rfl rfl ?_
  refine y_getI FX8_51 dX8_putFour_31 (Or.inl rfl) h8 ?_
  refine z_eqi (y := nI (t)) (by first | exact e | (rw [pI_sI_ne9 (by omega)]; exact e)) ?_
  refine z_iload_n dX8_putFour_34 rfl rfl ?_
  refine z_iload_n dX8_putFour_35 rfl rfl ?_
  refine z_ishr dX8_putFour_36 ?_
  refine z_sipush (v := 255) dX8_putFour_37 (by decide) ?_
  refine z_iand dX8_putFour_40 ?_
  refine z_eqi (bt_eq v kk).1 ?_
  refine y_iasN (t) dX8_putFour_41 ht (Nat.le_of_ble_eq_true rfl) (by first | rfl | (simp only [← nI_add, ← pk_mul]; rfl)) (by omega) ?_
  refine z_aload_n dX8_putFour_42 rfl rfl ?_
  refine z_dup dX8_putFour_43 rfl ?_
  refine y_getI FX8_51 dX8_putFour_44 (Or.inl rfl) h8 ?_
  refine z_eqi (y := nI (t)) (by first | exact e | (rw [pI_sI_ne9 (by omega)]; exact e)) ?_
  refine z_iconst (v := 1) dX8_putFour_47 (by decide) ?_
  refine z_iadd dX8_putFour_48 ?_
  refine z_eqi (nI_1 t) ?_
  refine y_putI FX8_51 dX8_putFour_49 (Or.inl rfl) (Or.inl rfl) h8 ?_
  refine z_iinc dX8_putFour_52 rfl rfl (Nat.le_of_ble_eq_true rfl) ?_
  refine z_goto dX8_putFour_55 rfl ?_
  exact K
theorem c_four {h : Hp} {d : Nat} (h8 : IO h 8 8) (hx6 : pR h 8 6 = some 487) (ht : IA h 10 300 487) {t : Nat} {v : Int32} (e : pI h 8 7 = nI t) (htt : t + 4 ≤ 300) : Sp d mX8_putFour [.ref 8, .int v] h none (fourC h t v) := by
  intro N S Q hN hS hQ
  refine z_bipush (v := 24) dX8_putFour_0 (by decide) ?_
  refine z_istore_n dX8_putFour_2 rfl (Nat.le_of_ble_eq_true rfl) ?_
  refine c_four_it (t := t) (kk := 24) h8 hx6 ht e (by omega) (by omega) ?_
  rw [four_k.1]
  refine c_four_it (t := t + 1) (kk := 16) h8 hx6 ht (by rw [pI_sI, if_pos rfl, if_pos rfl]) (by omega) (by omega) ?_
  rw [four_k.2.1]
  refine c_four_it (t := t + 1 + 1) (kk := 8) h8 hx6 ht (by rw [pI_sI, if_pos rfl, if_pos rfl]) (by omega) (by omega) ?_
  rw [four_k.2.2.1]
  refine c_four_it (t := t + 1 + 1 + 1) (kk := 0) h8 hx6 ht (by rw [pI_sI, if_pos rfl, if_pos rfl]) (by omega) (by omega) ?_
  refine z_iload_n dX8_putFour_3 rfl rfl ?_
  refine z_if_lt dX8_putFour_4 rfl (fun _ => ?_) (fun c => absurd (four_k.2.2.2) c)
  refine z_vret dX8_putFour_58 ?_
  exact hQ

theorem C_end {s : Ms} {h : Hp} {d : Nat} (h8 : IO h 8 8) (hx6 : pR h 8 6 = some 487) (ht : IA h 10 300 487) (hv : TV h s.2.2.1 s.2.2.2.1) (h300 : s.2.2.2.1 ≤ 300) (n : Int32) (hd : 1 ≤ d) : ∃ h1, Sp d mX8_end [.ref 8, .int n] h (some (.int (mEnd s n).1)) h1 ∧ TV h1 (mEnd s n).2.2.2.1 (mEnd s n).2.2.2.2.1 ∧ FT h h1 := by
  have e4 : pI h 8 7 = nI s.2.2.2.1 := hv.2
  by_cases hc : inr n 0 (nI s.2.2.2.1)
  · have hf : mEnd s n = (n, (s.1, s.2.1, s.2.2.1, nn n, s.2.2.2.2)) := by
      unfold mEnd
      rw [if_pos hc]
    rw [hf]
    obtain ⟨j, hj, rfl⟩ := inr_of (by omega) hc
    refine ⟨sI h 8 7 (nI j), ?_, by rw [nn_nI (by omega)]; exact hv.len, FT.rf.l⟩
    intro N S Q hN hS hQ
    refine z_iload_n dX8_end_0 rfl rfl ?_
    refine z_iconst (v := 0) dX8_end_1 (by decide) ?_
    refine z_aload_n dX8_end_2 rfl rfl ?_
    refine y_getI FX8_51 dX8_end_3 (Or.inl rfl) h8 ?_
    refine z_eqi (y := nI (s.2.2.2.1)) e4 ?_
    refine y_callS (as := [_, _, _]) CX8_within LX8_61 SX8_within dX8_end_6 rfl (Nat.le_of_ble_eq_true rfl) (Nat.le_of_ble_eq_true rfl) (by omega) (s_within _ _ _) (rok_z bI_01) ⟨Nat.le_refl _, Nat.le_refl _, hN, hS⟩ ?_
    refine z_if_ne dX8_end_9 rfl (fun _ => ?_) (fun c => absurd c (bI_ne0.mpr hc))
    refine z_aload_n dX8_end_14 rfl rfl ?_
    refine z_iload_n dX8_end_15 rfl rfl ?_
    refine y_putI FX8_51 dX8_end_16 (Or.inl rfl) (Or.inl rfl) h8 ?_
    refine z_iload_n dX8_end_19 rfl rfl ?_
    refine z_iret dX8_end_20 ?_
    exact hQ
  · have hf : mEnd s n = (-1, s) := by
      unfold mEnd
      rw [if_neg hc]
    rw [hf]
    refine ⟨h, ?_, hv, FT.rf⟩
    intro N S Q hN hS hQ
    refine z_iload_n dX8_end_0 rfl rfl ?_
    refine z_iconst (v := 0) dX8_end_1 (by decide) ?_
    refine z_aload_n dX8_end_2 rfl rfl ?_
    refine y_getI FX8_51 dX8_end_3 (Or.inl rfl) h8 ?_
    refine z_eqi (y := nI (s.2.2.2.1)) e4 ?_
    refine y_callS (as := [_, _, _]) CX8_within LX8_61 SX8_within dX8_end_6 rfl (Nat.le_of_ble_eq_true rfl) (Nat.le_of_ble_eq_true rfl) (by omega) (s_within _ _ _) (rok_z bI_01) ⟨Nat.le_refl _, Nat.le_refl _, hN, hS⟩ ?_
    refine z_if_ne dX8_end_9 rfl (fun c => absurd (bI_eq0.mpr hc) c) (fun _ => ?_)
    refine z_iconst (v := -1) dX8_end_12 (by decide) ?_
    refine z_iret dX8_end_13 ?_
    exact hQ

theorem C_feed {s : Ms} {h : Hp} {d : Nat} (h8 : IO h 8 8) (hx6 : pR h 8 6 = some 487) (ht : IA h 10 300 487) (hv : TV h s.2.2.1 s.2.2.2.1) (h300 : s.2.2.2.1 ≤ 300) (a b c dd e : Int32) (hd : 1 ≤ d) : ∃ h1, Sp d mX8_feed [.ref 8, .int a, .int b, .int c, .int dd, .int e] h (some (.int (mFeed s a b c dd e).1)) h1 ∧ TV h1 (mFeed s a b c dd e).2.2.2.1 (mFeed s a b c dd e).2.2.2.2.1 ∧ FT h h1 := by
  have e4 : pI h 8 7 = nI s.2.2.2.1 := hv.2
  by_cases hc : s.2.2.2.1 + 20 ≤ 300
  · unfold mFeed
    rw [if_pos hc]
    refine ⟨fourC (fourC (fourC (fourC (fourC h s.2.2.2.1 a) (s.2.2.2.1 + 4) b) (s.2.2.2.1 + 4 + 4) c) (s.2.2.2.1 + 4 + 4 + 4) dd) (s.2.2.2.1 + 4 + 4 + 4 + 4) e, ?_, hv.four.four.four.four.four, FT.rf.four.four.four.four.four⟩
    generalize s.2.2.2.1 = t at *
    intro N S Q hN hS hQ
    have hss : SS h (fourC (fourC (fourC (fourC (fourC h t a) (t + 4) b) (t + 4 + 4) c) (t + 4 + 4 + 4) dd) (t + 4 + 4 + 4 + 4) e) := (((fourC_ss.tr fourC_ss).tr fourC_ss).tr fourC_ss).tr fourC_ss
    have hN := hss.geN hN
    have hS := hss.geS hS
    refine z_aload_n dX8_feed_0 rfl rfl ?_
    refine y_getI FX8_51 dX8_feed_1 (Or.inl rfl) h8 ?_
    refine z_eqi (y := nI (t)) e4 ?_
    refine z_bipush (v := 20) dX8_feed_4 (by decide) ?_
    refine z_iadd dX8_feed_6 ?_
    refine z_sipush (v := 300) dX8_feed_7 (by decide) ?_
    refine z_icmp_le dX8_feed_10 rfl (fun _ => ?_) (fun c => absurd (by rw [show (20 : Int32) = nI 20 from rfl, nI_add]; exact (nI_leI (b := 300) (by omega) (by omega)).mpr hc) c)
    refine z_aload_n dX8_feed_15 rfl rfl ?_
    refine z_iload_n dX8_feed_16 rfl rfl ?_
    refine y_callV (as := [_]) CX8_putFour LX8_85 IX8_putFour VX8_putFour ⟨rfl, Nat.le_of_ble_eq_true rfl⟩ dX8_feed_17 h8 rfl (Nat.le_of_ble_eq_true rfl) (Nat.le_of_ble_eq_true rfl) (by omega) (c_four (t := t) (v := a) h8 hx6 ht e4 (by omega)) rok_v (hg_ss fourC_ss hN hS) ?_
    have hN := SS.leN (fourC_ss (t := t) (v := a)) hN
    have hS := SS.leS (fourC_ss (t := t) (v := a)) hS
    have h8 := SS.O (fourC_ss (t := t) (v := a)) h8
    have ht := SS.A (fourC_ss (t := t) (v := a)) ht
    have hx6 := (congrFun (congrFun (SS.R (fourC_ss (t := t) (v := a))) 8) 6).trans hx6
    refine z_aload_n dX8_feed_20 rfl rfl ?_
    refine z_iload_n dX8_feed_21 rfl rfl ?_
    refine y_callV (as := [_]) CX8_putFour LX8_85 IX8_putFour VX8_putFour ⟨rfl, Nat.le_of_ble_eq_true rfl⟩ dX8_feed_22 h8 rfl (Nat.le_of_ble_eq_true rfl) (Nat.le_of_ble_eq_true rfl) (by omega) (c_four (t := t + 4) (v := b) h8 hx6 ht fourC_t (by omega)) rok_v (hg_ss fourC_ss hN hS) ?_
    have hN := SS.leN (fourC_ss (t := t + 4) (v := b)) hN
    have hS := SS.leS (fourC_ss (t := t + 4) (v := b)) hS
    have h8 := SS.O (fourC_ss (t := t + 4) (v := b)) h8
    have ht := SS.A (fourC_ss (t := t + 4) (v := b)) ht
    have hx6 := (congrFun (congrFun (SS.R (fourC_ss (t := t + 4) (v := b))) 8) 6).trans hx6
    refine z_aload_n dX8_feed_25 rfl rfl ?_
    refine z_iload_n dX8_feed_26 rfl rfl ?_
    refine y_callV (as := [_]) CX8_putFour LX8_85 IX8_putFour VX8_putFour ⟨rfl, Nat.le_of_ble_eq_true rfl⟩ dX8_feed_27 h8 rfl (Nat.le_of_ble_eq_true rfl) (Nat.le_of_ble_eq_true rfl) (by omega) (c_four (t := t + 4 + 4) (v := c) h8 hx6 ht fourC_t (by omega)) rok_v (hg_ss fourC_ss hN hS) ?_
    have hN := SS.leN (fourC_ss (t := t + 4 + 4) (v := c)) hN
    have hS := SS.leS (fourC_ss (t := t + 4 + 4) (v := c)) hS
    have h8 := SS.O (fourC_ss (t := t + 4 + 4) (v := c)) h8
    have ht := SS.A (fourC_ss (t := t + 4 + 4) (v := c)) ht
    have hx6 := (congrFun (congrFun (SS.R (fourC_ss (t := t + 4 + 4) (v := c))) 8) 6).trans hx6
    refine z_aload_n dX8_feed_30 rfl rfl ?_
    refine z_iload dX8_feed_31 rfl ?_
    refine y_callV (as := [_]) CX8_putFour LX8_85 IX8_putFour VX8_putFour ⟨rfl, Nat.le_of_ble_eq_true rfl⟩ dX8_feed_33 h8 rfl (Nat.le_of_ble_eq_true rfl) (Nat.le_of_ble_eq_true rfl) (by omega) (c_four (t := t + 4 + 4 + 4) (v := dd) h8 hx6 ht fourC_t (by omega)) rok_v (hg_ss fourC_ss hN hS) ?_
    have hN := SS.leN (fourC_ss (t := t + 4 + 4 + 4) (v := dd)) hN
    have hS := SS.leS (fourC_ss (t := t + 4 + 4 + 4) (v := dd)) hS
    have h8 := SS.O (fourC_ss (t := t + 4 + 4 + 4) (v := dd)) h8
    have ht := SS.A (fourC_ss (t := t + 4 + 4 + 4) (v := dd)) ht
    have hx6 := (congrFun (congrFun (SS.R (fourC_ss (t := t + 4 + 4 + 4) (v := dd))) 8) 6).trans hx6
    refine z_aload_n dX8_feed_36 rfl rfl ?_
    refine z_iload dX8_feed_37 rfl ?_
    refine y_callV (as := [_]) CX8_putFour LX8_85 IX8_putFour VX8_putFour ⟨rfl, Nat.le_of_ble_eq_true rfl⟩ dX8_feed_39 h8 rfl (Nat.le_of_ble_eq_true rfl) (Nat.le_of_ble_eq_true rfl) (by omega) (c_four (t := t + 4 + 4 + 4 + 4) (v := e) h8 hx6 ht fourC_t (by omega)) rok_v (hg_ss fourC_ss hN hS) ?_
    have hN := SS.leN (fourC_ss (t := t + 4 + 4 + 4 + 4) (v := e)) hN
    have hS := SS.leS (fourC_ss (t := t + 4 + 4 + 4 + 4) (v := e)) hS
    have h8 := SS.O (fourC_ss (t := t + 4 + 4 + 4 + 4) (v := e)) h8
    have ht := SS.A (fourC_ss (t := t + 4 + 4 + 4 + 4) (v := e)) ht
    have hx6 := (congrFun (congrFun (SS.R (fourC_ss (t := t + 4 + 4 + 4 + 4) (v := e))) 8) 6).trans hx6
    refine z_aload_n dX8_feed_42 rfl rfl ?_
    refine y_getI FX8_51 dX8_feed_43 (Or.inl rfl) h8 ?_
    refine z_eqi (y := nI (t + 4 + 4 + 4 + 4 + 4)) fourC_t ?_
    refine z_iret dX8_feed_46 ?_
    exact hQ
  · unfold mFeed
    rw [if_neg hc]
    refine ⟨h, ?_, hv, FT.rf⟩
    generalize s.2.2.2.1 = t at *
    intro N S Q hN hS hQ
    refine z_aload_n dX8_feed_0 rfl rfl ?_
    refine y_getI FX8_51 dX8_feed_1 (Or.inl rfl) h8 ?_
    refine z_eqi (y := nI (t)) e4 ?_
    refine z_bipush (v := 20) dX8_feed_4 (by decide) ?_
    refine z_iadd dX8_feed_6 ?_
    refine z_sipush (v := 300) dX8_feed_7 (by decide) ?_
    refine z_icmp_le dX8_feed_10 rfl (fun c => absurd c (by rw [show (20 : Int32) = nI 20 from rfl, nI_add]; exact fun q => hc ((nI_leI (b := 300) (by omega) (by omega)).mp q))) (fun _ => ?_)
    refine z_iconst (v := -1) dX8_feed_13 (by decide) ?_
    refine z_iret dX8_feed_14 ?_
    exact hQ

theorem C_by {h : Hp} {d : Nat} {a : Fl} {tx : Nat → Nat → Prop} (h8 : IO h 8 8) (hx0 : pR h 8 0 = some 9) (hs : MkS h 9) (hv : MV h 9 a tx) (hi : IC a) (t : Int32) (hd : 1 ≤ d) : ∃ h1, Sp d mX8_by [.ref 8, .int t] h (some (.int (mBy a t).1)) h1 ∧ MV h1 9 (mBy a t).2 tx ∧ FR 9 236 h h1 := by
  have hv0 := hv
  obtain ⟨v1, v2, v3, v4, vF, v6, v7, v8, v9, v10, v11⟩ := hv
  obtain ⟨-, -, i2, i3, i4, -⟩ := hi
  by_cases hc : -1 ≤ t ∧ t ≤ nI (a 2) - 1
  · have hf : mBy a t = (1, up a 3 (nn (t + 1))) := by
      unfold mBy
      rw [if_pos hc]
    rw [hf]
    have hb := by_of i2 hc
    refine ⟨sI h 9 10 t, ?_, ?_, FR.rf.sI (by omega)⟩
    · intro N S Q hN hS hQ
      refine z_iload_n dX8_by_0 rfl rfl ?_
      refine z_iconst (v := -1) dX8_by_1 (by decide) ?_
      refine z_aload_n dX8_by_2 rfl rfl ?_
      refine y_getR FX8_10 dX8_by_3 rfl h8 hx0 ?_
      refine y_getI FX8_89 dX8_by_6 (Or.inl rfl) hs.o ?_
      refine z_eqi (y := nI (a 2)) v9 ?_
      refine z_iconst (v := 1) dX8_by_9 (by decide) ?_
      refine z_isub dX8_by_10 ?_
      refine y_callS (as := [_, _, _]) CX8_within LX8_61 SX8_within dX8_by_11 rfl (Nat.le_of_ble_eq_true rfl) (Nat.le_of_ble_eq_true rfl) (by omega) (s_within _ _ _) (rok_z bI_01) ⟨Nat.le_refl _, Nat.le_refl _, hN, hS⟩ ?_
      refine z_if_ne dX8_by_14 rfl (fun _ => ?_) (fun c => absurd c (bI_ne0.mpr hc))
      refine z_aload_n dX8_by_19 rfl rfl ?_
      refine y_getR FX8_10 dX8_by_20 rfl h8 hx0 ?_
      refine z_iload_n dX8_by_23 rfl rfl ?_
      refine y_putI FX8_106 dX8_by_24 (Or.inl rfl) (Or.inl rfl) hs.o ?_
      refine z_iconst (v := 1) dX8_by_27 (by decide) ?_
      refine z_iret dX8_by_28 ?_
      exact hQ
    · show MV (sI h 9 10 t) 9 (up a 3 (nn (t + 1))) tx
      have fr : ∀ k, k ≠ 9 → pI (sI h 9 10 t) k = pI h k := fun k hk => pI_sI_ne hk
      have gg : ∀ i, i ≠ 3 → up a 3 (nn (t + 1)) i = a i := fun i hi => up_n hi
      obtain ⟨e, v2, v2b, v2c⟩ := v2
      refine ⟨(v1.fr (fun k q1 q2 => fr k (by omega))).cg (fun i hi => ?_), ⟨e, v2, by rw [pI_sI, if_pos rfl, if_neg (by omega)]; exact v2b, fun t' ht => ?_⟩, ?_, fun i hi => ?_, vF.keep (fr _ (by omega)) (fr _ (by omega)) (gg 0 (by omega)) (fun i q1 q2 => gg i (by omega)), v6.keep (fr _ (by omega)) (fr _ (by omega)) (gg 5 (by omega)) (fun i q1 q2 => gg i (by omega)), v7.keep (fr _ (by omega)) (fr _ (by omega)) (gg 6 (by omega)) (fun i q1 q2 => gg i (by omega)), v8.keep (fr _ (by omega)) (fr _ (by omega)) (gg 7 (by omega)) (fun i q1 q2 => gg i (by omega)), ?_, ?_, fun t' ht => ?_⟩
      · unfold snap
        split
        · rw [gg 1 (by omega)]
        · split
          · rw [gg _ (by omega)]
          · split
            · rw [gg _ (by omega)]
            · split
              · rw [gg _ (by omega)]
              · rw [gg _ (by omega)]
      · rw [gg 4 (by omega)] at ht
        refine ((v2c t' ht).fr (fun k q1 q2 => fr k (by omega))).cg (fun i hi => ?_)
        rw [gg _ (by omega)]
      · rw [pI_sI, if_pos rfl, if_neg (by omega), gg 4 (by omega)]; exact v3
      · obtain ⟨W, hW⟩ := v4 i hi
        exact ⟨W, hW.fr (fun k q1 q2 => fr k (by omega))⟩
      · rw [pI_sI, if_pos rfl, if_neg (by omega), gg 2 (by omega)]; exact v9
      · rw [pI_sI, if_pos rfl, if_pos rfl]
        unfold cI
        rw [if_pos rfl, up_s]
        exact hb.1
      · rw [gg 2 (by omega)] at ht
        exact v11 t' ht
  · have hf : mBy a t = (0, a) := by
      unfold mBy
      rw [if_neg hc]
    rw [hf]
    refine ⟨h, ?_, hv0, FR.rf⟩
    intro N S Q hN hS hQ
    refine z_iload_n dX8_by_0 rfl rfl ?_
    refine z_iconst (v := -1) dX8_by_1 (by decide) ?_
    refine z_aload_n dX8_by_2 rfl rfl ?_
    refine y_getR FX8_10 dX8_by_3 rfl h8 hx0 ?_
    refine y_getI FX8_89 dX8_by_6 (Or.inl rfl) hs.o ?_
    refine z_eqi (y := nI (a 2)) v9 ?_
    refine z_iconst (v := 1) dX8_by_9 (by decide) ?_
    refine z_isub dX8_by_10 ?_
    refine y_callS (as := [_, _, _]) CX8_within LX8_61 SX8_within dX8_by_11 rfl (Nat.le_of_ble_eq_true rfl) (Nat.le_of_ble_eq_true rfl) (by omega) (s_within _ _ _) (rok_z bI_01) ⟨Nat.le_refl _, Nat.le_refl _, hN, hS⟩ ?_
    refine z_if_ne dX8_by_14 rfl (fun c => absurd (bI_eq0.mpr hc) c) (fun _ => ?_)
    refine z_iconst (v := 0) dX8_by_17 (by decide) ?_
    refine z_iret dX8_by_18 ?_
    exact hQ

