/-! a step is taken back by the class (walks by program: wip/whole/gen42.py) -/
def stN (a : Fl) (t p k : Nat) : Nat := if t = a 4 then a (13 + 5 * p + k) else a (190 + 154 * t + (6 + 3 * p + k))
def stC (a : Fl) (t : Nat) : Nat := if t = a 4 then a 1 else a (190 + 154 * t)
/-- prophets that a step does not know are as told in the next -/
def IU (a : Fl) : Prop := ∀ t, t < a 4 → stC a t ≤ stC a (t + 1) ∧ ∀ p, stC a t ≤ p → p < stC a (t + 1) → stN a (t + 1) p 0 = a (13 + 5 * p + 3) ∧ stN a (t + 1) p 1 = a (13 + 5 * p + 4) ∧ stN a (t + 1) p 2 = 0
theorem IU.last {a : Fl} {t : Nat} (hu : IU a) (ht : a 4 = t + 1) : a (190 + 154 * t) ≤ a 1 ∧ ∀ p, a (190 + 154 * t) ≤ p → p < a 1 → a (13 + 5 * p + 0) = a (13 + 5 * p + 3) ∧ a (13 + 5 * p + 1) = a (13 + 5 * p + 4) ∧ a (13 + 5 * p + 2) = 0 := by
  have q := hu t (by omega)
  have e1 : stC a t = a (190 + 154 * t) := by unfold stC; rw [if_neg (by omega)]
  have e2 : stC a (t + 1) = a 1 := by unfold stC; rw [if_pos ht.symm]
  have e3 : ∀ p k, stN a (t + 1) p k = a (13 + 5 * p + k) := fun p k => by unfold stN; rw [if_pos ht.symm]
  rw [e1, e2] at q
  refine ⟨q.1, fun p h1 h2 => ?_⟩
  have := q.2 p h1 h2
  rw [e3, e3, e3] at this
  exact this
theorem c_pastAtN {h : Hp} {d b : Nat} (hs : MkS h b) : Sp d mX1_pastAt [.ref b, .int (-1)] h (some .null) h := by
  intro N S Q hN hS hQ
  refine z_iload_n dX1_pastAt_0 rfl rfl ?_
  refine z_bipush (v := 30) dX1_pastAt_1 (by decide) ?_
  refine z_irem dX1_pastAt_3 (by decide) ?_
  refine z_istore_n dX1_pastAt_4 rfl (Nat.le_of_ble_eq_true rfl) ?_
  refine z_iload_n dX1_pastAt_5 rfl rfl ?_
  refine z_if_lt dX1_pastAt_6 rfl (fun _ => ?_) (fun c => absurd (by decide) c)
  refine z_null dX1_pastAt_27 ?_
  refine z_aretN dX1_pastAt_28 ?_
  exact hQ
theorem rok_n {t : FieldType} (ht : isR t = true) : rok (some t) (some .null) := ⟨_, rfl, ht⟩

theorem c_takeBack0 {h : Hp} {d b e : Nat} (hs : MkS h b) (he : e < 30) (e2 : pI h b 2 = nI e) (e30 : pI h b 3 = nI 0) (hd : 1 ≤ d) : Sp d mX1_takeBack [.ref b] h (some (.int (-1))) h := by
  intro N S Q hN hS hQ
  by_cases he0 : e = 0
  · refine z_aload_n dX1_takeBack_0 rfl rfl ?_
    refine z_aload_n dX1_takeBack_1 rfl rfl ?_
    refine y_getI FX1_50 dX1_takeBack_2 (Or.inl rfl) hs.o ?_
    refine z_eqi (y := nI (e)) (show _ = nI (e) by first | exact e2) ?_
    refine z_aload_n dX1_takeBack_5 rfl rfl ?_
    refine y_getI FX1_53 dX1_takeBack_6 (Or.inl rfl) hs.o ?_
    refine z_eqi (y := nI (0)) (show _ = nI (0) by first | exact e30) ?_
    refine z_iadd dX1_takeBack_9 ?_
    refine z_eqi (show _ = nI e from nI_add e 0) ?_
    refine z_iconst (v := 1) dX1_takeBack_10 (by decide) ?_
    refine z_isub dX1_takeBack_11 ?_
    refine z_eqi (show _ = (-1 : Int32) by rw [he0]; rfl) ?_
    refine y_callV (as := [_]) CX1_pastAt LX1_56 IX1_pastAt VX1_pastAt ⟨rfl, Nat.le_of_ble_eq_true rfl⟩ dX1_takeBack_12 hs.o rfl (Nat.le_of_ble_eq_true rfl) (Nat.le_of_ble_eq_true rfl) (by omega) (c_pastAtN (by exact hs)) (rok_n rfl) ⟨Nat.le_refl _, Nat.le_refl _, hN, hS⟩ ?_
    refine z_astore_nN dX1_takeBack_15 rfl (Nat.le_of_ble_eq_true rfl) ?_
    refine z_aload_n dX1_takeBack_16 rfl rfl ?_
    refine y_getI FX1_53 dX1_takeBack_17 (Or.inl rfl) hs.o ?_
    refine z_eqi (y := nI (0)) (show _ = nI (0) by first | exact e30) ?_
    refine z_if_eq dX1_takeBack_20 rfl (fun _ => ?_) (fun c => absurd (rfl) c)
    refine z_iconst (v := -1) dX1_takeBack_27 (by decide) ?_
    refine z_iret dX1_takeBack_28 ?_
    exact hQ
  · refine z_aload_n dX1_takeBack_0 rfl rfl ?_
    refine z_aload_n dX1_takeBack_1 rfl rfl ?_
    refine y_getI FX1_50 dX1_takeBack_2 (Or.inl rfl) hs.o ?_
    refine z_eqi (y := nI (e)) (show _ = nI (e) by first | exact e2) ?_
    refine z_aload_n dX1_takeBack_5 rfl rfl ?_
    refine y_getI FX1_53 dX1_takeBack_6 (Or.inl rfl) hs.o ?_
    refine z_eqi (y := nI (0)) (show _ = nI (0) by first | exact e30) ?_
    refine z_iadd dX1_takeBack_9 ?_
    refine z_eqi (show _ = nI e from nI_add e 0) ?_
    refine z_iconst (v := 1) dX1_takeBack_10 (by decide) ?_
    refine z_isub dX1_takeBack_11 ?_
    refine z_eqi (show _ = nI (e - 1) from pk_sub (b := 1) (by omega)) ?_
    refine y_callV (as := [_]) CX1_pastAt LX1_56 IX1_pastAt VX1_pastAt ⟨rfl, Nat.le_of_ble_eq_true rfl⟩ dX1_takeBack_12 hs.o rfl (Nat.le_of_ble_eq_true rfl) (Nat.le_of_ble_eq_true rfl) (by omega) (c_pastAt (n := e - 1) (by exact hs) (by omega)) (rok_o rfl) ⟨Nat.le_refl _, Nat.le_refl _, hN, hS⟩ ?_
    refine z_astore_n dX1_takeBack_15 rfl (Nat.le_of_ble_eq_true rfl) ?_
    refine z_aload_n dX1_takeBack_16 rfl rfl ?_
    refine y_getI FX1_53 dX1_takeBack_17 (Or.inl rfl) hs.o ?_
    refine z_eqi (y := nI (0)) (show _ = nI (0) by first | exact e30) ?_
    refine z_if_eq dX1_takeBack_20 rfl (fun _ => ?_) (fun c => absurd (rfl) c)
    refine z_iconst (v := -1) dX1_takeBack_27 (by decide) ?_
    refine z_iret dX1_takeBack_28 ?_
    exact hQ
/-- what the model lays at a world's places -/
theorem unG_w {a : Fl} {x v0 n j : Nat} (hx : 190 ≤ x) (hx2 : x + 153 ≤ 4810) (hn : n ≤ 5) (hj : j < 153) : unG 0 a x v0 n (wx j) = if j = 0 then a 1 else if 6 ≤ j ∧ j < 21 then (if (j - 6) / 3 < n then (if (j - 6) / 3 < v0 then a (x + j) else if (j - 6) % 3 = 2 then 0 else a (wx j + 3)) else a (wx j)) else a (x + j) := by
  unfold unG
  by_cases h0 : j = 0
  · subst h0
    rw [if_pos rfl, show wx 0 = 1 from rfl, cpG_out (by omega), cpG_out (by omega), unP_out (by omega), cpG_out (by omega)]
  · rw [if_neg h0]
    by_cases h6 : j < 6
    · rw [if_neg (by omega), wx_s (by omega) h6, cpG_out (by omega), cpG_out (by omega), unP_out (by omega), cpG_in (by omega)]
      exact congrArg a (by omega)
    · by_cases h21 : j < 21
      · rw [if_pos (by omega)]
        have e := wx_p (p := (j - 6) / 3) (k := (j - 6) % 3) (by omega) (by omega)
        rw [show 6 + 3 * ((j - 6) / 3) + (j - 6) % 3 = j by omega] at e
        have hm := Nat.mod_lt (j - 6) (show 0 < 3 by omega)
        have hw : 13 ≤ wx j ∧ wx j < 38 ∧ (wx j - 13) / 5 = (j - 6) / 3 ∧ (wx j - 13) % 5 = (j - 6) % 3 := by omega
        rw [cpG_out (by omega), cpG_out (by omega)]
        by_cases hp : (j - 6) / 3 < n
        · rw [if_pos hp]
          unfold unP
          rw [if_pos (by omega), hw.2.2.1, hw.2.2.2]
          by_cases hq : (j - 6) / 3 < v0
          · rw [if_pos hq, if_pos hq, cpG_out (by omega)]
            exact congrArg a (by omega)
          · rw [if_neg hq, if_neg hq]
            by_cases h2 : (j - 6) % 3 = 2
            · rw [if_pos h2, if_pos h2]
            · rw [if_neg h2, if_neg h2, cpG_out (by omega)]
        · rw [if_neg hp, unP_out (by omega), cpG_out (by omega)]
      · rw [if_neg (by omega)]
        by_cases h93 : j < 93
        · have e := wx_c (i := j - 21) (by omega)
          rw [show 21 + (j - 21) = j by omega] at e
          rw [e, cpG_out (by omega), cpG_in (by omega), unP_out (by omega), cpG_out (by omega)]
          exact congrArg a (by omega)
        · have e := wx_b (i := j - 93)
          rw [show 93 + (j - 93) = j by omega] at e
          rw [e, cpG_in (by omega), cpG_out (by omega), unP_out (by omega), cpG_out (by omega)]
          exact congrArg a (by omega)
theorem unG_out {a : Fl} {x v0 n i : Nat} (hn : n ≤ 5) (h : i < 8 ∨ (110 ≤ i ∧ i < 4810)) : unG 0 a x v0 n i = a i := by
  unfold unG
  rw [cpG_out (by omega), cpG_out (by omega), unP_out (by omega), cpG_out (by omega)]
theorem c_takeBack {h : Hp} {d b t : Nat} {a : Fl} {tx : Nat → Nat → Prop} (hs : MkS h b) (hv : MV h b a tx) (hi : IC a) (hu : IU a) (ht : a 4 = t + 1) (hd : 3 ≤ d) : ∃ h1, Sp d mX1_takeBack [.ref b] h (some (.int (nI t))) h1 ∧ MV h1 b (unG 0 (up a 4 t) (190 + 154 * t) (a (190 + 154 * t)) (a 1)) tx ∧ FR b (b + 227) h h1 := by
  have h4 := hi.2.2.2.2.1
  have v1 := hi.2.1
  obtain ⟨uc, up'⟩ := hu.last ht
  obtain ⟨e, he, e2, hst⟩ := hv.2.1
  have e3 : pI h b 3 = nI (t + 1) := by rw [← ht]; exact hv.2.2.1
  have eP : pI h (b + 2) 3 = nI (a 1) := hv.1.2.2.2.1.2.2.1
  have hj : (e + t) % 30 < 30 := Nat.mod_lt _ (by omega)
  obtain ⟨h1, t1, s2, s3⟩ := c_take (d := 2) hs.now hv.1 (hs.wS hj) (hst t (by omega)) (kp := a 1) v1 (Nat.le_refl _) (by omega) (Nat.le_refl _)
  have e3' : pI h1 b 3 = nI (t + 1) := by rw [s3.2.2 b (by omega)]; exact e3
  have uo : ∀ i, i < 8 ∨ (110 ≤ i ∧ i < 4810) → unG 0 (up a 4 t) (190 + 154 * t) (a (190 + 154 * t)) (a 1) i = up a 4 t i := fun i q => unG_out v1 q
  have uw : ∀ j, j < 153 → unG 0 (up a 4 t) (190 + 154 * t) (a (190 + 154 * t)) (a 1) (wx j) = _ := fun j hj => unG_w (by omega) (by omega) v1 hj
  generalize hA : unG 0 (up a 4 t) (190 + 154 * t) (a (190 + 154 * t)) (a 1) = A at uo uw ⊢
  have hnow : WV h1 (b + 1) (snap A) := by
    have hm0 : tkF (snap a) (fun i => a (190 + 154 * t + i)) (a 1) 0 = a 1 := by
      unfold tkF
      rw [if_pos rfl]
      show max (a 1) (a (190 + 154 * t)) = a 1
      omega
    have hbig : ∀ i, 21 ≤ i → i < 153 → tkF (snap a) (fun i => a (190 + 154 * t + i)) (a 1) i = snap A i := by
      intro i h21 h153
      rw [snap_wx, uw i h153, if_neg (by omega), if_neg (by omega), up_n (by omega)]
      unfold tkF
      rw [if_neg (by omega), if_neg (by omega)]
    have b4 : tkF (snap a) (fun i => a (190 + 154 * t + i)) (a 1) 4 ≤ 12 := s2.2.2.2.2.2.1.2.2.2.1
    have b5 : tkF (snap a) (fun i => a (190 + 154 * t + i)) (a 1) 5 ≤ 30 := s2.2.2.2.2.2.2.2.1.2.2.2.1
    refine s2.cg2 (fun i hi => ?_) (fun i hi => ?_) (fun i hi => hbig _ (by omega) (by omega)) (fun i hi => hbig _ (by omega) (by omega))
    · rw [snap_wx, uw i (by omega)]
      by_cases h0 : i = 0
      · subst h0
        rw [hm0, if_pos rfl, up_n (by omega)]
      · rw [if_neg h0, if_neg (by omega), up_n (by omega)]
        unfold tkF
        rw [if_neg h0, if_neg (by omega)]
    · rw [hm0] at hi
      have hw := wx_p (p := i / 3) (k := i % 3) (by omega) (Nat.mod_lt _ (by omega))
      rw [show 6 + 3 * (i / 3) + i % 3 = 6 + i by omega] at hw
      rw [snap_wx, uw (6 + i) (by omega), if_neg (by omega), if_pos (by omega), show 6 + i - 6 = i by omega, if_pos (show i / 3 < a 1 by omega), hw, up_n (by omega), up_n (by omega)]
      unfold tkF
      rw [if_neg (by omega)]
      show (if 6 + 3 * a (190 + 154 * t) ≤ 6 + i ∧ 6 + i < 21 then snap a (6 + i) else a (190 + 154 * t + (6 + i))) = _
      by_cases hk : i / 3 < a (190 + 154 * t)
      · rw [if_pos hk, if_neg (by omega)]
      · rw [if_neg hk, if_pos (by omega), snap_wx, hw]
        obtain ⟨u0, u1, u2⟩ := up' (i / 3) (by omega) (by omega)
        rcases (show i % 3 = 0 ∨ i % 3 = 1 ∨ i % 3 = 2 by omega) with hr | hr | hr
        · rw [hr, if_neg (by omega)]; exact u0
        · rw [hr, if_neg (by omega)]; exact u1
        · rw [hr, if_pos rfl]; exact u2
  refine ⟨sI h1 b 3 (nI t), ?_, ?_, (s3.wide (by omega) (by omega)).sI (by omega)⟩
  · intro N S Q hN hS hQ
    have hN : pn h ≤ N := by rw [← s3.1.n]; exact hN
    have hS : ps h ≤ S := by rw [← s3.1.s]; exact hS
    refine z_aload_n dX1_takeBack_0 rfl rfl ?_
    refine z_aload_n dX1_takeBack_1 rfl rfl ?_
    refine y_getI FX1_50 dX1_takeBack_2 (Or.inl rfl) hs.o ?_
    refine z_eqi (y := nI (e)) (show _ = nI (e) by first | exact e2) ?_
    refine z_aload_n dX1_takeBack_5 rfl rfl ?_
    refine y_getI FX1_53 dX1_takeBack_6 (Or.inl rfl) hs.o ?_
    refine z_eqi (show _ = nI (t + 1) by first | exact e3 | exact e3') ?_
    refine z_iadd dX1_takeBack_9 ?_
    refine z_iconst (v := 1) dX1_takeBack_10 (by decide) ?_
    refine z_isub dX1_takeBack_11 ?_
    refine z_eqi (show _ = nI (e + t) by rw [nI_add]; exact pk_sub (b := 1) (by omega)) ?_
    refine y_callV (as := [_]) CX1_pastAt LX1_56 IX1_pastAt VX1_pastAt ⟨rfl, Nat.le_of_ble_eq_true rfl⟩ dX1_takeBack_12 hs.o rfl (Nat.le_of_ble_eq_true rfl) (Nat.le_of_ble_eq_true rfl) (by omega) (c_pastAt (n := e + t) (by exact hs) (by omega)) (rok_o rfl) ⟨Nat.le_refl _, Nat.le_refl _, hN, hS⟩ ?_
    refine z_astore_n dX1_takeBack_15 rfl (Nat.le_of_ble_eq_true rfl) ?_
    refine z_aload_n dX1_takeBack_16 rfl rfl ?_
    refine y_getI FX1_53 dX1_takeBack_17 (Or.inl rfl) hs.o ?_
    refine z_eqi (show _ = nI (t + 1) by first | exact e3 | exact e3') ?_
    refine z_if_eq dX1_takeBack_20 rfl (fun c => absurd c (nI_ne0 (by omega) (by omega))) (fun _ => ?_)
    refine z_aload_n dX1_takeBack_23 rfl rfl ?_
    refine z_ifnonnull dX1_takeBack_24 rfl ?_
    refine z_aload_n dX1_takeBack_29 rfl rfl ?_
    refine y_getR FX1_12 dX1_takeBack_30 rfl hs.o hs.f0 ?_
    refine z_aload_n dX1_takeBack_33 rfl rfl ?_
    refine z_aload_n dX1_takeBack_34 rfl rfl ?_
    refine y_getR FX1_12 dX1_takeBack_35 rfl hs.o hs.f0 ?_
    refine y_getR FX1_64 dX1_takeBack_38 rfl hs.now.1 hs.now.2.1 ?_
    refine y_getI FX1_67 dX1_takeBack_41 (Or.inl rfl) hs.now.2.2.1.1 ?_
    refine z_eqi (y := nI (a 1)) (show _ = nI (a 1) by first | exact eP) ?_
    refine y_callV (as := [_, _]) CX7_take LX1_60 IX7_take VX7_take ⟨rfl, Nat.le_of_ble_eq_true rfl⟩ dX1_takeBack_44 hs.now.1 rfl (Nat.le_of_ble_eq_true rfl) (Nat.le_of_ble_eq_true rfl) (by omega) t1 rok_v (hg_ss s3.1 hN hS) ?_
    refine z_aload_n dX1_takeBack_47 rfl rfl ?_
    refine z_dup dX1_takeBack_48 rfl ?_
    refine y_getI FX1_53 dX1_takeBack_49 (Or.inl rfl) (s3.1.O hs.o) ?_
    refine z_eqi (show _ = nI (t + 1) by first | exact e3 | exact e3') ?_
    refine z_iconst (v := 1) dX1_takeBack_52 (by decide) ?_
    refine z_isub dX1_takeBack_53 ?_
    refine z_eqi (nI_pred t) ?_
    refine y_putI FX1_53 dX1_takeBack_54 (Or.inl rfl) (Or.inl rfl) (s3.1.O hs.o) ?_
    refine z_aload_n dX1_takeBack_57 rfl rfl ?_
    refine y_getI FX1_53 dX1_takeBack_58 (Or.inl rfl) (s3.1.O hs.o) ?_
    refine z_eqi (show _ = nI t by rw [pI_sI, if_pos rfl, if_pos rfl]) ?_
    refine z_iret dX1_takeBack_61 ?_
    exact hQ
  · have hmid : MV h1 b (up A 4 (t + 1)) tx := by
      refine hv.now h4 s3.1.R (fun k hk => s3.2.2 k (by omega)) (fun i hi => ?_) (hnow.cg (fun i hi => ?_))
      · by_cases i4 : i = 4
        · subst i4; rw [up_s, ht]
        · rw [up_n i4, uo i (by omega), up_n i4]
      · rw [snap_wx, snap_wx, up_n]
        unfold wx
        split
        · omega
        · split
          · omega
          · split
            · omega
            · split <;> omega
    have A4 : A 4 = t := by rw [uo 4 (by omega), up_s]
    refine hmid.past rfl (fun k _ _ => pI_sI_ne (by omega)) ?_ ?_ (fun i q => (up_n (by omega)).symm) ?_ ?_ ?_
    · rw [pI_sI, if_pos rfl, if_neg (by omega)]
    · rw [pI_sI, if_pos rfl, if_neg (by omega)]
    · obtain ⟨e', he', e2', hst'⟩ := hmid.2.1
      refine ⟨e', he', by rw [pI_sI, if_pos rfl, if_neg (by omega)]; exact e2', fun t' ht' => ?_⟩
      refine ((hst' t' (by rw [up_s]; omega)).fr (fun k _ _ => pI_sI_ne (by omega))).cg (fun i _ => ?_)
      exact up_n (by omega)
    · rw [pI_sI, if_pos rfl, if_pos rfl, A4]
    · intro i hi
      obtain ⟨W1, hW1⟩ := hmid.2.2.2.1 i hi
      exact ⟨W1, hW1.fr (fun k _ _ => pI_sI_ne (by omega))⟩

theorem C_undo {h : Hp} {d : Nat} {a : Fl} {tx : Nat → Nat → Prop} (h8 : IO h 8 8) (hx0 : pR h 8 0 = some 9) (hs : MkS h 9) (hv : MV h 9 a tx) (hi : IC a) (hu : IU a) (hd : 4 ≤ d) : ∃ h1, Sp d mX8_undo [.ref 8] h (some (.int (mUndo a).1)) h1 ∧ MV h1 9 (mUndo a).2 tx ∧ FR 9 236 h h1 := by
  have key : ∃ h1, Sp 3 mX1_takeBack [.ref 9] h (some (.int (mUndo a).1)) h1 ∧ MV h1 9 (mUndo a).2 tx ∧ FR 9 236 h h1 := by
    by_cases hc : a 4 = 0
    · have eu : mUndo a = (-1, a) := by unfold mUndo; rw [if_pos hc]
      rw [eu]
      obtain ⟨e, he, e2, hst⟩ := hv.2.1
      exact ⟨h, c_takeBack0 hs he e2 (by rw [hv.2.2.1, hc]) (by omega), hv, FR.rf⟩
    · obtain ⟨t, ht1⟩ : ∃ t, a 4 = t + 1 := ⟨a 4 - 1, by omega⟩
      have eu : mUndo a = (nI t, unG 0 (up a 4 t) (190 + 154 * t) (a (190 + 154 * t)) (a 1)) := by unfold mUndo; rw [if_neg hc, ht1]; rfl
      rw [eu]
      exact c_takeBack hs hv hi hu ht1 (by omega)
  obtain ⟨h1, tb, s2, s3⟩ := key
  refine ⟨h1, ?_, s2, s3⟩
  intro N S Q hN hS hQ
  have hN : pn h ≤ N := by rw [← s3.1.n]; exact hN
  have hS : ps h ≤ S := by rw [← s3.1.s]; exact hS
  refine z_aload_n dX8_undo_0 rfl rfl ?_
  refine y_getR FX8_10 dX8_undo_1 rfl h8 hx0 ?_
  refine y_callV (as := []) CX1_takeBack LX8_257 IX1_takeBack VX1_takeBack ⟨rfl, Nat.le_of_ble_eq_true rfl⟩ dX8_undo_4 hs.o rfl (Nat.le_of_ble_eq_true rfl) (Nat.le_of_ble_eq_true rfl) (by omega) tb rok_i (hg_ss s3.1 hN hS) ?_
  refine z_iret dX8_undo_7 ?_
  exact hQ

