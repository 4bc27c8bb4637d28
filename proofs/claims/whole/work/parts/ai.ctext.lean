/-! text: the class (wip/whole/genai.py) -/
theorem c_place {x n d : Nat} {K W : Nat → Nat} {y : Nat × Nat × List Cl} {h : Hp} {P : Nat → Nat} (q : CDs x K W n y h) (hP : ∀ j, j ≤ n → pI h 476 j = nI (P j)) (hd : 1 ≤ d) : Sp d mX2_place [.ref 472] h (some (.int (nI (P y.2.1)))) h := by
  have ct := q.1.1
  have cr := ct.1
  have n3 := ct.2.2.1
  have jn := q.1.2.2.2.2.2.2.2.2.1
  have pA := c_placeAt (d := 0) (i := y.2.1) cr ct.2.1 (by omega) (by omega)
  rw [hP _ jn] at pA
  intro N S Q hN hS hQ
  refine z_aload_n dX2_place_0 rfl rfl ?_
  refine y_getR FX2_12 dX2_place_1 rfl cr.1 cr.2.1 ?_
  refine z_aload_n dX2_place_4 rfl rfl ?_
  refine y_getI FX2_33 dX2_place_5 (Or.inl rfl) cr.1 ?_
  refine z_eqi (y := nI (y.2.1)) q.1.2.2.2.2.2.1 ?_
  refine y_callV (as := [_]) CX6_placeAt LX2_49 IX6_placeAt VX6_placeAt ⟨rfl, Nat.le_of_ble_eq_true rfl⟩ dX2_place_8 cr.2.2.1 rfl (Nat.le_of_ble_eq_true rfl) (Nat.le_of_ble_eq_true rfl) (by omega) pA rok_i ⟨Nat.le_refl _, Nat.le_refl _, hN, hS⟩ ?_
  refine z_iret dX2_place_11 ?_
  exact hQ

theorem C_text4 {h : Hp} {tp : Fl} {tn d t : Nat} (h8 : IO h 8 8) (hx0 : pR h 8 0 = some 9) (hx3 : pR h 8 3 = some 472) (hx6 : pR h 8 6 = some 487) (mk : MkS h 9) (cr : CR h) (e9 : pI h 9 9 = nI t) (ht : t = 4) : Sp d mX8_text [.ref 8] h (some (.int (-1))) h := by
  intro N S Q hN hS hQ
  refine z_aload_n dX8_text_0 rfl rfl ?_
  refine y_getR FX8_10 dX8_text_1 rfl h8 hx0 ?_
  refine y_getI FX8_89 dX8_text_4 (Or.inl rfl) mk.o ?_
  refine z_eqi (y := nI (t)) e9 ?_
  refine z_iconst (v := 4) dX8_text_7 (by decide) ?_
  refine z_icmp_lt dX8_text_8 rfl (fun c => absurd c (fun w => absurd ((nI_ltI (b := 4) (by omega) (by omega)).mp w) (by omega))) (fun _ => ?_)
  refine z_iconst (v := -1) dX8_text_11 (by decide) ?_
  refine z_iret dX8_text_12 ?_
  exact hQ
/-- what text leaves alone -/
def FTx (t : Nat) (h h1 : Hp) : Prop := EX h h1 ∧ ps h ≤ ps h1 ∧ ∀ k, k < pn h → pJ h1 k = pJ h k ∧ ((k < 472 ∨ 477 < k) → ∀ j, (k ≠ 8 ∨ j < 7 ∨ 9 < j) → (k ≠ 9 ∨ j ≠ 9) → pI h1 k j = pI h k j) ∧ ∀ j, (k ≠ 472 ∨ j ≠ 7) → (k ≠ 26 ∨ j ≠ t) → pR h1 k j = pR h k j
theorem C_textF {h : Hp} {tp : Fl} {tn d t : Nat} (h8 : IO h 8 8) (hx0 : pR h 8 0 = some 9) (hx3 : pR h 8 3 = some 472) (hx6 : pR h 8 6 = some 487) (mk : MkS h 9) (cr : CR h) (e9 : pI h 9 9 = nI t) (tb : TB4 h tp) (e7 : pI h 8 7 = nI tn) (n3 : tn ≤ 300) (h5 : 501 ≤ pn h) (z0 : I0 h 0) (ht : t < 4) (hd : 138 ≤ d) (hz : ¬ (rdT (tK tp tn) (wNt tp tn) 25 [] 0).1 = 0) : ∃ h2, Sp d mX8_text [.ref 8] h (some (.int (-1))) h2 ∧ FTx t h h2 ∧ pI h2 9 9 = nI t ∧ pR h2 26 t = pR h 26 t ∧ pI h2 8 7 = 0 ∧ pI h2 8 8 = nI (rdT (tK tp tn) (wNt tp tn) 25 [] 0).1 ∧ pI h2 8 9 = nI (tP tp tn (rdT (tK tp tn) (wNt tp tn) 25 [] 0).2.1) ∧ CR h2 ∧ pn h2 ≤ pn h + 28 ∧ ps h2 ≤ ps h + 7700 := by
  obtain ⟨m, h1, m1, q1, f1, p1, b1, b2, _, sr⟩ := c_read (d := 137) cr tb n3 h5 z0 (Nat.le_refl _)
  have sr := sr hz
  have z9 := rdT_z (K := (tK tp tn)) (W := (wNt tp tn)) 25 [] 0
  have q2 : CDs (pn h) (tK tp tn) (wNt tp tn) m (rdT (tK tp tn) (wNt tp tn) 25 [] 0) (sI (sI h1 8 7 0) 8 8 (nI (rdT (tK tp tn) (wNt tp tn) 25 [] 0).1)) := ⟨q1.1.fr rfl (fun k k1 k2 => by rw [pI_sI_ne (by omega), pI_sI_ne (by omega)]), q1.2.1, fun w => absurd w hz⟩
  have p2 : ∀ j, j ≤ m → pI (sI (sI h1 8 7 0) 8 8 (nI (rdT (tK tp tn) (wNt tp tn) 25 [] 0).1)) 476 j = nI (tP tp tn j) := fun j hj => by rw [pI_sI_ne (by omega), pI_sI_ne (by omega)]; exact p1 j hj
  refine ⟨(sI (sI (sI h1 8 7 0) 8 8 (nI (rdT (tK tp tn) (wNt tp tn) 25 [] 0).1)) 8 9 (nI (tP tp tn (rdT (tK tp tn) (wNt tp tn) 25 [] 0).2.1))), ?_, ⟨f1.1, f1.2.1, fun k hk => ⟨(f1.2.2 k hk).1, fun k1 j j1 j2 => ?_, fun j j1 j2 => (f1.2.2 k hk).2.2 j j1⟩⟩, ?_, (f1.2.2 26 (by omega)).2.2 t (by omega), ?_, ?_, ?_, q1.1.1.1, b1, b2⟩
  · intro N S Q hN1 hS1 hQ
    have hN1 : pn h1 ≤ N := hN1
    have hS1 : ps h1 ≤ S := hS1
    have hN : pn h ≤ N := Nat.le_trans f1.1.1 hN1
    have hS : ps h ≤ S := Nat.le_trans f1.2.1 hS1
    refine z_aload_n dX8_text_0 rfl rfl ?_
    refine y_getR FX8_10 dX8_text_1 rfl h8 hx0 ?_
    refine y_getI FX8_89 dX8_text_4 (Or.inl rfl) mk.o ?_
    refine z_eqi (y := nI (t)) e9 ?_
    refine z_iconst (v := 4) dX8_text_7 (by decide) ?_
    refine z_icmp_lt dX8_text_8 rfl (fun _ => ?_) (fun c => absurd ((nI_ltI (b := 4) (by omega) (by omega)).mpr ht) c)
    refine z_aload_n dX8_text_13 rfl rfl ?_
    refine y_getR FX8_29 dX8_text_14 rfl h8 hx3 ?_
    refine z_aload_n dX8_text_17 rfl rfl ?_
    refine y_getR FX8_47 dX8_text_18 rfl h8 hx6 ?_
    refine z_aload_n dX8_text_21 rfl rfl ?_
    refine y_getI FX8_51 dX8_text_22 (Or.inl rfl) h8 ?_
    refine z_eqi (y := nI (tn)) e7 ?_
    refine y_callV (as := [_, _]) CX2_read LX8_92 IX2_read VX2_read ⟨rfl, (Nat.le_of_ble_eq_true rfl)⟩ dX8_text_25 cr.1 rfl (Nat.le_of_ble_eq_true rfl) (Nat.le_of_ble_eq_true rfl) (by omega) sr (rok_n rfl) ⟨f1.1.1, f1.2.1, hN1, hS1⟩ ?_
    refine z_astore_nN dX8_text_28 rfl (Nat.le_of_ble_eq_true rfl) ?_
    refine z_aload_n dX8_text_29 rfl rfl ?_
    refine z_iconst (v := 0) dX8_text_30 (by decide) ?_
    refine y_putI FX8_51 dX8_text_31 (Or.inl rfl) (Or.inl rfl) (f1.1.O h8) ?_
    refine z_aload_n dX8_text_34 rfl rfl ?_
    refine z_aload_n dX8_text_35 rfl rfl ?_
    refine y_getR FX8_29 dX8_text_36 rfl (f1.1.O h8) (show pR h1 8 3 = some 472 by rw [(f1.2.2 8 (by omega)).2.2 3 (by omega)]; exact hx3) ?_
    refine y_getI FX8_96 dX8_text_39 (Or.inl rfl) q1.1.1.1.1 ?_
    refine z_eqi (y := nI (rdT (tK tp tn) (wNt tp tn) 25 [] 0).1) (show _ = nI (rdT (tK tp tn) (wNt tp tn) 25 [] 0).1 by rw [pI_sI_ne (by omega)]; exact q1.1.2.2.2.2.2.2.2.1) ?_
    refine y_putI FX8_55 dX8_text_42 (Or.inl rfl) (Or.inl rfl) (f1.1.O h8) ?_
    refine z_aload_n dX8_text_45 rfl rfl ?_
    refine z_aload_n dX8_text_46 rfl rfl ?_
    refine y_getR FX8_29 dX8_text_47 rfl (f1.1.O h8) (show pR h1 8 3 = some 472 by rw [(f1.2.2 8 (by omega)).2.2 3 (by omega)]; exact hx3) ?_
    refine y_getI FX8_96 dX8_text_50 (Or.inl rfl) q1.1.1.1.1 ?_
    refine z_eqi (y := nI (rdT (tK tp tn) (wNt tp tn) 25 [] 0).1) (show _ = nI (rdT (tK tp tn) (wNt tp tn) 25 [] 0).1 by rw [pI_sI_ne (by omega), pI_sI_ne (by omega)]; exact q1.1.2.2.2.2.2.2.2.1) ?_
    refine z_if_ne dX8_text_53 rfl (fun _ => ?_) (fun c => absurd c (fun w => hz ((nI_eq (b := 0) (by omega) (by omega)).mp w)))
    refine z_aload_n dX8_text_60 rfl rfl ?_
    refine y_getR FX8_29 dX8_text_61 rfl (f1.1.O h8) (show pR h1 8 3 = some 472 by rw [(f1.2.2 8 (by omega)).2.2 3 (by omega)]; exact hx3) ?_
    refine y_callV (as := []) CX2_place LX8_99 IX2_place VX2_place ⟨rfl, (Nat.le_of_ble_eq_true rfl)⟩ dX8_text_64 q2.1.1.1.1 rfl (Nat.le_of_ble_eq_true rfl) (Nat.le_of_ble_eq_true rfl) (by omega) (c_place (d := 1) q2 p2 (Nat.le_refl _)) rok_i ⟨Nat.le_refl _, Nat.le_refl _, hN1, hS1⟩ ?_
    refine y_putI FX8_58 dX8_text_67 (Or.inl rfl) (Or.inl rfl) (f1.1.O h8) ?_
    refine z_aload_nN dX8_text_70 rfl rfl ?_
    refine z_ifnonnullN dX8_text_71 ?_
    refine z_iconst (v := -1) dX8_text_74 (by decide) ?_
    refine z_goto dX8_text_75 rfl ?_
    refine z_iret dX8_text_86 ?_
    exact hQ
  · rw [← (f1.2.2 k hk).2.1 k1]
    by_cases k8 : k = 8
    · subst k8
      rw [pI_sI, if_pos rfl, if_neg (by omega), pI_sI, if_pos rfl, if_neg (by omega), pI_sI, if_pos rfl, if_neg (by omega)]
    · rw [pI_sI_ne k8, pI_sI_ne k8, pI_sI_ne k8]
  · rw [pI_sI_ne (by omega), pI_sI_ne (by omega), pI_sI_ne (by omega), (f1.2.2 9 (by omega)).2.1 (by omega)]; exact e9
  · rw [pI_sI, if_pos rfl, if_neg (by omega), pI_sI, if_pos rfl, if_neg (by omega), pI_sI, if_pos rfl, if_pos rfl]
  · rw [pI_sI, if_pos rfl, if_neg (by omega), pI_sI, if_pos rfl, if_pos rfl]
  · rw [pI_sI, if_pos rfl, if_pos rfl]

theorem ex_wo {h h1 : Hp} {w : Nat} (e : EX h h1) (s : WoS h w) (eR : ∀ k j, k < 472 → pR h1 k j = pR h k j) (hw : w + 6 < 472) : WoS h1 w := by
  obtain ⟨s1, s2, s3, s4, s5, s6, s7⟩ := s
  exact ⟨e.O s1, by rw [eR _ _ (by omega)]; exact s2, e.rw s3 (eR _ _ (by omega)), by rw [eR _ _ (by omega)]; exact s4, e.rw s5 (eR _ _ (by omega)), by rw [eR _ _ (by omega)]; exact s6, e.rw s7 (eR _ _ (by omega))⟩
theorem ex_mk {h h1 : Hp} {b : Nat} (e : EX h h1) (s : MkS h b) (eR : ∀ k j, k < 472 → pR h1 k j = pR h k j) (h5 : 501 ≤ pn h) (hb : b = 9 ∨ b = 237) : MkS h1 b := by
  obtain ⟨s1, ⟨s2, s3⟩, ⟨s4, s5⟩, s6, ⟨s7, s8⟩, ⟨s9, s10⟩, ⟨s11, s12⟩, ⟨s13, s14⟩, ⟨s15, s16⟩⟩ := s
  exact ⟨e.O s1, ⟨by rw [eR _ _ (by omega)]; exact s2, ex_wo e s3 eR (by omega)⟩, ⟨by rw [eR _ _ (by omega)]; exact s4, e.A s5⟩, fun i hi => ⟨by rw [eR _ _ (by omega)]; exact (s6 i hi).1, ex_wo e (s6 i hi).2 eR (by omega)⟩, ⟨by rw [eR _ _ (by omega)]; exact s7, e.rw s8 (eR _ _ (by omega))⟩, ⟨by rw [eR _ _ (by omega)]; exact s9, e.rw s10 (eR _ _ (by omega))⟩, ⟨by rw [eR _ _ (by omega)]; exact s11, e.rw s12 (eR _ _ (by omega))⟩, ⟨by rw [eR _ _ (by omega)]; exact s13, e.rw s14 (eR _ _ (by omega))⟩, ⟨by rw [eR _ _ (by omega)]; exact s15, e.A s16⟩⟩

theorem C_textY {h : Hp} {tp : Fl} {tn d t : Nat} (h8 : IO h 8 8) (hx0 : pR h 8 0 = some 9) (hx3 : pR h 8 3 = some 472) (hx6 : pR h 8 6 = some 487) (mk : MkS h 9) (cr : CR h) (e9 : pI h 9 9 = nI t) (tb : TB4 h tp) (e7 : pI h 8 7 = nI tn) (n3 : tn ≤ 300) (h5 : 501 ≤ pn h) (z0 : I0 h 0) (ht : t < 4) (hd : 138 ≤ d) (hz : (rdT (tK tp tn) (wNt tp tn) 25 [] 0).1 = 0) : ∃ h2, Sp d mX8_text [.ref 8] h (some (.int (nI t))) h2 ∧ FTx t h h2 ∧ pI h2 9 9 = nI (t + 1) ∧ pR h2 26 t = some (pn h) ∧ pI h2 8 7 = 0 ∧ pI h2 8 8 = 0 ∧ pI h2 8 9 = -1 ∧ CR h2 ∧ DSh h2 (pn h) (rdT (tK tp tn) (wNt tp tn) 25 [] 0).2.2.length (rdT (tK tp tn) (wNt tp tn) 25 [] 0).2.2 ∧ DLw h2 (pn h) (rdT (tK tp tn) (wNt tp tn) 25 [] 0).2.2 ∧ pn h2 ≤ pn h + 28 ∧ ps h2 ≤ ps h + 7700 := by
  obtain ⟨m, h1, m1, q1, f1, p1, b1, b2, sr, _⟩ := c_read (d := 137) cr tb n3 h5 z0 (Nat.le_refl _)
  have sr := sr hz
  have z9 := rdT_z (K := (tK tp tn)) (W := (wNt tp tn)) 25 [] 0
  obtain ⟨ds, dl⟩ := q1.2.2 hz
  have x5 : IO (sI (sI (sI h1 8 7 0) 8 8 (nI (rdT (tK tp tn) (wNt tp tn) 25 [] 0).1)) 8 9 (-1)) 5 (pn h) := ds.2.1
  have eR1 : ∀ k j, k < 472 → pR h1 k j = pR h k j := fun k j hk => (f1.2.2 k (by omega)).2.2 j (by omega)
  have mk1 : MkS (sI (sI (sI h1 8 7 0) 8 8 (nI (rdT (tK tp tn) (wNt tp tn) 25 [] 0).1)) 8 9 (-1)) 9 := ex_mk (h1 := (sI (sI (sI h1 8 7 0) 8 8 (nI (rdT (tK tp tn) (wNt tp tn) 25 [] 0).1)) 8 9 (-1))) f1.1 mk (fun k j hk => eR1 k j hk) (by omega) (Or.inl rfl)
  have e91 : pI (sI (sI (sI h1 8 7 0) 8 8 (nI (rdT (tK tp tn) (wNt tp tn) 25 [] 0).1)) 8 9 (-1)) 9 9 = nI t := by rw [pI_sI_ne (by omega), pI_sI_ne (by omega), pI_sI_ne (by omega), (f1.2.2 9 (by omega)).2.1 (by omega)]; exact e9
  have eI2 : ∀ k, k ≠ 8 → k ≠ 9 → pI (addH (sI (sI (sI h1 8 7 0) 8 8 (nI (rdT (tK tp tn) (wNt tp tn) 25 [] 0).1)) 8 9 (-1)) 9 t (pn h)) k = pI h1 k := fun k k1 k2 => by
    show pI (sI (sI (sI (sI h1 8 7 0) 8 8 (nI (rdT (tK tp tn) (wNt tp tn) 25 [] 0).1)) 8 9 (-1)) 9 9 (nI (t + 1))) k = pI h1 k
    rw [pI_sI_ne k2, pI_sI_ne k1, pI_sI_ne k1, pI_sI_ne k1]
  have eR2 : ∀ k, k ≠ 26 → pR (addH (sI (sI (sI h1 8 7 0) 8 8 (nI (rdT (tK tp tn) (wNt tp tn) 25 [] 0).1)) 8 9 (-1)) 9 t (pn h)) k = pR h1 k := fun k hk => by
    show pR (sR (sI (sI (sI h1 8 7 0) 8 8 (nI (rdT (tK tp tn) (wNt tp tn) 25 [] 0).1)) 8 9 (-1)) 26 t (some (pn h))) k = pR h1 k
    rw [pR_sR_ne hk]
    rfl
  refine ⟨addH (sI (sI (sI h1 8 7 0) 8 8 (nI (rdT (tK tp tn) (wNt tp tn) 25 [] 0).1)) 8 9 (-1)) 9 t (pn h), ?_, ⟨f1.1, f1.2.1, fun k hk => ⟨(f1.2.2 k hk).1, fun k1 j j1 j2 => ?_, fun j j1 j2 => ?_⟩⟩, ?_, ?_, ?_, ?_, ?_, ?_, ?_, ?_, b1, b2⟩
  · intro N S Q hN1 hS1 hQ
    have hN1 : pn h1 ≤ N := hN1
    have hS1 : ps h1 ≤ S := hS1
    have hN : pn h ≤ N := Nat.le_trans f1.1.1 hN1
    have hS : ps h ≤ S := Nat.le_trans f1.2.1 hS1
    refine z_aload_n dX8_text_0 rfl rfl ?_
    refine y_getR FX8_10 dX8_text_1 rfl h8 hx0 ?_
    refine y_getI FX8_89 dX8_text_4 (Or.inl rfl) mk.o ?_
    refine z_eqi (y := nI (t)) e9 ?_
    refine z_iconst (v := 4) dX8_text_7 (by decide) ?_
    refine z_icmp_lt dX8_text_8 rfl (fun _ => ?_) (fun c => absurd ((nI_ltI (b := 4) (by omega) (by omega)).mpr ht) c)
    refine z_aload_n dX8_text_13 rfl rfl ?_
    refine y_getR FX8_29 dX8_text_14 rfl h8 hx3 ?_
    refine z_aload_n dX8_text_17 rfl rfl ?_
    refine y_getR FX8_47 dX8_text_18 rfl h8 hx6 ?_
    refine z_aload_n dX8_text_21 rfl rfl ?_
    refine y_getI FX8_51 dX8_text_22 (Or.inl rfl) h8 ?_
    refine z_eqi (y := nI (tn)) e7 ?_
    refine y_callV (as := [_, _]) CX2_read LX8_92 IX2_read VX2_read ⟨rfl, (Nat.le_of_ble_eq_true rfl)⟩ dX8_text_25 cr.1 rfl (Nat.le_of_ble_eq_true rfl) (Nat.le_of_ble_eq_true rfl) (by omega) sr (rok_o rfl) ⟨f1.1.1, f1.2.1, hN1, hS1⟩ ?_
    refine z_astore_n dX8_text_28 rfl (Nat.le_of_ble_eq_true rfl) ?_
    refine z_aload_n dX8_text_29 rfl rfl ?_
    refine z_iconst (v := 0) dX8_text_30 (by decide) ?_
    refine y_putI FX8_51 dX8_text_31 (Or.inl rfl) (Or.inl rfl) (f1.1.O h8) ?_
    refine z_aload_n dX8_text_34 rfl rfl ?_
    refine z_aload_n dX8_text_35 rfl rfl ?_
    refine y_getR FX8_29 dX8_text_36 rfl (f1.1.O h8) (show pR h1 8 3 = some 472 by rw [(f1.2.2 8 (by omega)).2.2 3 (by omega)]; exact hx3) ?_
    refine y_getI FX8_96 dX8_text_39 (Or.inl rfl) q1.1.1.1.1 ?_
    refine z_eqi (y := nI (rdT (tK tp tn) (wNt tp tn) 25 [] 0).1) (show _ = nI (rdT (tK tp tn) (wNt tp tn) 25 [] 0).1 by rw [pI_sI_ne (by omega)]; exact q1.1.2.2.2.2.2.2.2.1) ?_
    refine y_putI FX8_55 dX8_text_42 (Or.inl rfl) (Or.inl rfl) (f1.1.O h8) ?_
    refine z_aload_n dX8_text_45 rfl rfl ?_
    refine z_aload_n dX8_text_46 rfl rfl ?_
    refine y_getR FX8_29 dX8_text_47 rfl (f1.1.O h8) (show pR h1 8 3 = some 472 by rw [(f1.2.2 8 (by omega)).2.2 3 (by omega)]; exact hx3) ?_
    refine y_getI FX8_96 dX8_text_50 (Or.inl rfl) q1.1.1.1.1 ?_
    refine z_eqi (y := nI (rdT (tK tp tn) (wNt tp tn) 25 [] 0).1) (show _ = nI (rdT (tK tp tn) (wNt tp tn) 25 [] 0).1 by rw [pI_sI_ne (by omega), pI_sI_ne (by omega)]; exact q1.1.2.2.2.2.2.2.2.1) ?_
    refine z_if_ne dX8_text_53 rfl (fun c => absurd (congrArg nI hz) c) (fun _ => ?_)
    refine z_iconst (v := -1) dX8_text_56 (by decide) ?_
    refine z_goto dX8_text_57 rfl ?_
    refine y_putI FX8_58 dX8_text_67 (Or.inl rfl) (Or.inl rfl) (f1.1.O h8) ?_
    refine z_aload_n dX8_text_70 rfl rfl ?_
    refine z_ifnonnull dX8_text_71 rfl ?_
    refine z_aload_n dX8_text_78 rfl rfl ?_
    refine y_getR FX8_10 dX8_text_79 rfl (f1.1.O h8) (show pR h1 8 0 = some 9 by rw [(f1.2.2 8 (by omega)).2.2 0 (by omega)]; exact hx0) ?_
    refine z_aload_n dX8_text_82 rfl rfl ?_
    refine y_callV (as := [_]) CX1_addText LX8_102 IX1_addText VX1_addText ⟨rfl, (Nat.le_of_ble_eq_true rfl)⟩ dX8_text_83 mk1.o rfl (Nat.le_of_ble_eq_true rfl) (Nat.le_of_ble_eq_true rfl) (by omega) (c_addText (d := 0) (b := 9) mk1 e91 ht x5) rok_i ⟨Nat.le_refl _, Nat.le_refl _, hN1, hS1⟩ ?_
    refine z_iret dX8_text_86 ?_
    exact hQ
  · rw [← (f1.2.2 k hk).2.1 k1]
    show pI (sI (sI (sI (sI h1 8 7 0) 8 8 (nI (rdT (tK tp tn) (wNt tp tn) 25 [] 0).1)) 8 9 (-1)) 9 9 (nI (t + 1))) k j = pI h1 k j
    by_cases k9 : k = 9
    · subst k9
      rw [pI_sI, if_pos rfl, if_neg (by omega), pI_sI_ne (by omega), pI_sI_ne (by omega), pI_sI_ne (by omega)]
    · rw [pI_sI_ne k9]
      by_cases k8 : k = 8
      · subst k8
        rw [pI_sI, if_pos rfl, if_neg (by omega), pI_sI, if_pos rfl, if_neg (by omega), pI_sI, if_pos rfl, if_neg (by omega)]
      · rw [pI_sI_ne k8, pI_sI_ne k8, pI_sI_ne k8]
  · rw [← (f1.2.2 k hk).2.2 j j1]
    show pR (sR (sI (sI (sI h1 8 7 0) 8 8 (nI (rdT (tK tp tn) (wNt tp tn) 25 [] 0).1)) 8 9 (-1)) 26 t (some (pn h))) k j = pR h1 k j
    by_cases k26 : k = 26
    · subst k26
      rw [pR_sR_s, if_neg (by omega)]
      rfl
    · rw [pR_sR_ne k26]
      rfl
  · show pI (sI (sI (sI (sI h1 8 7 0) 8 8 (nI (rdT (tK tp tn) (wNt tp tn) 25 [] 0).1)) 8 9 (-1)) 9 9 (nI (t + 1))) 9 9 = _
    rw [pI_sI, if_pos rfl, if_pos rfl]
  · show pR (sR (sI (sI (sI h1 8 7 0) 8 8 (nI (rdT (tK tp tn) (wNt tp tn) 25 [] 0).1)) 8 9 (-1)) 26 t (some (pn h))) 26 t = _
    rw [pR_sR_s, if_pos rfl]
  · show pI (sI (sI (sI (sI h1 8 7 0) 8 8 (nI (rdT (tK tp tn) (wNt tp tn) 25 [] 0).1)) 8 9 (-1)) 9 9 (nI (t + 1))) 8 7 = _
    rw [pI_sI_ne (by omega), pI_sI, if_pos rfl, if_neg (by omega), pI_sI, if_pos rfl, if_neg (by omega), pI_sI, if_pos rfl, if_pos rfl]
  · show pI (sI (sI (sI (sI h1 8 7 0) 8 8 (nI (rdT (tK tp tn) (wNt tp tn) 25 [] 0).1)) 8 9 (-1)) 9 9 (nI (t + 1))) 8 8 = _
    rw [pI_sI_ne (by omega), pI_sI, if_pos rfl, if_neg (by omega), pI_sI, if_pos rfl, if_pos rfl, hz]
    rfl
  · show pI (sI (sI (sI (sI h1 8 7 0) 8 8 (nI (rdT (tK tp tn) (wNt tp tn) 25 [] 0).1)) 8 9 (-1)) 9 9 (nI (t + 1))) 8 9 = _
    rw [pI_sI_ne (by omega), pI_sI, if_pos rfl, if_pos rfl]
  · exact (EX.rf (h := h1)).cr (h1 := addH (sI (sI (sI h1 8 7 0) 8 8 (nI (rdT (tK tp tn) (wNt tp tn) 25 [] 0).1)) 8 9 (-1)) 9 t (pn h)) q1.1.1.1 (fun k j k1 j1 => by rw [eR2 k (by omega)])
  · obtain ⟨d1, d2, d3, d4, d5, d6, d7⟩ := ds
    refine ⟨d1, d2, by rw [eR2 _ (by omega)]; exact d3, ⟨d4.1, by rw [eR2 _ (by omega)]; exact d4.2.1, d4.2.2⟩, ?_, d6, fun k p hk => by rw [eI2 _ (by omega) (by omega)]; exact d7 k p hk⟩
    unfold RwC
    rw [eI2 _ (by omega) (by omega)]
    exact d5
  · intro s hs
    obtain ⟨c, c1, c2⟩ := dl s hs
    refine ⟨c, by rw [eR2 _ (by omega)]; exact c1, ?_⟩
    rcases c2 with ⟨a1, a2, a3, a4⟩ | ⟨a1, a2, a3⟩
    · exact Or.inl ⟨a1, a2, a3, fun p hp e1 => ⟨(a4 p hp e1).1, by rw [eI2 _ (by omega) (by omega)]; exact (a4 p hp e1).2⟩⟩
    · exact Or.inr ⟨a1, a2, a3⟩

