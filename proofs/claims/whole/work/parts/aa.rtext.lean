/-! the reference reads a text (wip/whole/genaa.py) -/
theorem tk_lt {s : Ms} (ht : ITp s) : ∀ j, (tK (TPs s) (TNs s)) j < 53 → j < TNs s := by
  intro j hj
  have al : ∀ i, i ≤ j → (tK (TPs s) (TNs s)) i ≠ 54 := by
    intro i hi w
    have up : ∀ m, (tK (TPs s) (TNs s)) (i + m) = 54 := by
      intro m
      induction m with
      | zero => exact w
      | succ m ih => exact tK_stay ih
    have := up (j - i)
    rw [show i + (j - i) = j by omega] at this
    omega
  have h1 := tP_i (tp := TPs s) (n := TNs s) j (fun i hi => al i (by omega))
  have h2 := tA_gt (al j (Nat.le_refl _))
  have h3 : tA (TPs s) (TNs s) j ≤ tP (TPs s) (TNs s) j := rnF_ge
  omega
theorem rdC_z {K W : Nat → Nat} {L : List Cl} {i : Nat} : (rdC K W L i).1 ≤ 9 := by
  unfold rdC
  split
  · split
    · exact (by omega : 4 ≤ 9)
    · split
      · exact (by omega : 6 ≤ 9)
      · unfold rdC2
        split
        · split
          · exact (by omega : 0 ≤ 9)
          · exact (by omega : 1 ≤ 9)
        · exact rdB_z (by omega)
  · exact (by omega : 1 ≤ 9)
theorem rdT_z {K W : Nat → Nat} : ∀ f (L : List Cl) i, (rdT K W f L i).1 ≤ 9 := by
  intro f
  induction f with
  | zero => intro L i; exact Nat.zero_le _
  | succ f ih =>
    intro L i
    rw [show rdT K W (f + 1) L i = if K i = 54 then (0, i, L) else rdT2 (rdT K W f) (rdC K W L i) from rfl]
    split
    · exact Nat.zero_le _
    · unfold rdT2
      split
      · exact ih _ _
      · exact rdC_z
/-- what comes of reading a text -/
def RDD (s : Ms) (t : Nat) (tf : Nat → Int32) (h : Hp) (y : Nat × Nat × List Cl) (r : Option Value) (h' : Hp) : Prop := r = some (.int (nI y.1)) ∧ ∃ tf1 w1 so1 on1, RTs s t tf1 y.2.1 w1 so1 on1 h' ∧ FR4 h h' ∧ (∀ a, (a < 753 * t ∨ 753 * t + 753 ≤ a) → tf1 a = tf a) ∧ (y.1 = 0 → TXm tf1 t y.2.2)
theorem l_rt {s : Ms} {t n d N S : Nat} {tf0 : Nat → Int32} {h0 : Hp} {Q : Option Value → Hp → Prop} (ht : ITp s) (ht4 : t < 4) (hK : ∀ j, (tK (TPs s) (TNs s)) j < 53 → j < n) (n3 : n ≤ 300) (hd : 10 ≤ d) (hN : pn h0 ≤ N) (hS : ps h0 ≤ S) : ∀ f (L : List Cl) i (tf : Nat → Int32) w so on h, L.length + f = 25 → L.length ≤ 24 → (∀ p ∈ L, WFq p) → wof L ≤ i → i ≤ n → RTs s t tf i w so on h → TXm tf t L → w = wof L → ONs on L → FR4 h0 h → (∀ a, (a < 753 * t ∨ 753 * t + 753 ≤ a) → tf a = tf0 a) → (∀ r h', RDD s t tf0 h0 (rdT (tK (TPs s) (TNs s)) (wN s) f L i) r h' → Q r h') → ∀ v1 : Option Value, T d N S mX9_readText 43 [some (.ref 488), v1] [] h Q := by
  intro f
  induction f with
  | zero => intro L i tf w so on h h1 h2; omega
  | succ f ih =>
    intro L i tf w so on h h1 h2 wf hwi hi q tx hw ho f0 fr hQ v1
    have hm := q.1.m
    have rb := rtk_lt (tp := TPs s) (n := TNs s) (p := tP (TPs s) (TNs s) i) (ht.b _)
    by_cases k54 : (tK (TPs s) (TNs s)) i = 54
    · have r0 : rtk (TPs s) (TNs s) (tP (TPs s) (TNs s) i) = 0 := rt_small.1.mpr k54
      have fin := hQ (some (.int (nI 0))) h (by
        rw [show rdT (tK (TPs s) (TNs s)) (wN s) (f + 1) L i = (0, i, L) from if_pos k54]
        exact ⟨rfl, tf, w, so, on, q, f0, fr, fun _ => tx⟩)
      refine z_aload_n dX9_readText_43 rfl rfl ?_
      refine y_getI FX9_106 dX9_readText_44 (Or.inl rfl) hm.o ?_
      refine z_eqi (y := nI (rtk (TPs s) (TNs s) (tP (TPs s) (TNs s) i))) q.tk ?_
      refine z_if_eq dX9_readText_47 rfl (fun _ => ?_) (fun c => absurd (congrArg nI r0) c)
      refine z_iconst (v := 0) dX9_readText_64 (by decide) ?_
      refine z_iret dX9_readText_65 ?_
      exact fin
    · have r0 : ¬ rtk (TPs s) (TNs s) (tP (TPs s) (TNs s) i) = 0 := fun w => k54 (rt_small.1.mp w)
      have eT : rdT (tK (TPs s) (TNs s)) (wN s) (f + 1) L i = rdT2 (rdT (tK (TPs s) (TNs s)) (wN s) f) (rdC (tK (TPs s) (TNs s)) (wN s) L i) := if_neg k54
      rw [eT] at hQ
      have sq := r_clause (d := 9) q ht ht4 hK n3 hi tx h2 wf hw hwi ho (Nat.le_refl _)
      have zc := rdC_z (K := (tK (TPs s) (TNs s))) (W := (wN s)) (L := L) (i := i)
      obtain ⟨c1, c2⟩ := rdC_ok hK n3 (W := (wN s)) hi h2 wf hwi
      refine z_aload_n dX9_readText_43 rfl rfl ?_
      refine y_getI FX9_106 dX9_readText_44 (Or.inl rfl) hm.o ?_
      refine z_eqi (y := nI (rtk (TPs s) (TNs s) (tP (TPs s) (TNs s) i))) q.tk ?_
      refine z_if_eq dX9_readText_47 rfl (fun c => absurd c (fun w => r0 ((nI_eq (b := 0) (by omega) (by omega)).mp w))) (fun _ => ?_)
      refine z_aload_n dX9_readText_50 rfl rfl ?_
      refine y_callVQ (as := []) CX9_clause LX9_268 IX9_clause VX9_clause ⟨rfl, (Nat.le_of_ble_eq_true rfl)⟩ dX9_readText_51 hm.o rfl (Nat.le_of_ble_eq_true rfl) (Nat.le_of_ble_eq_true rfl) (by omega) sq (fun r h2 p2 => ⟨by rw [p2.1]; exact rok_i, by obtain ⟨_, _, _, _, _, _, f, _⟩ := p2; exact f.1⟩) ?_
      intro r h2 p2
      obtain ⟨rfl, tf2, w2, so2, on2, q2, f2, g2, e2⟩ := p2
      by_cases hz : (rdC (tK (TPs s) (TNs s)) (wN s) L i).1 = 0
      · obtain ⟨d1, d2, d3, d4⟩ := c2 hz
        obtain ⟨t2, b1, b2⟩ := e2 hz
        have go := ih (rdC (tK (TPs s) (TNs s)) (wN s) L i).2.2 (rdC (tK (TPs s) (TNs s)) (wN s) L i).2.1 tf2 w2 so2 on2 h2 (by omega) (by omega) d3 d4 c1 q2 t2 b1 b2 (f0.tr f2) (fun a ha => by rw [g2 a ha]; exact fr a ha) (fun r h' hr => hQ r h' (by unfold rdT2; rw [if_pos hz]; exact hr))
        refine z_istore_n dX9_readText_54 rfl (Nat.le_of_ble_eq_true rfl) ?_
        refine z_iload_n dX9_readText_55 rfl rfl ?_
        refine z_if_eq dX9_readText_56 rfl (fun _ => ?_) (fun c => absurd (congrArg nI hz) c)
        refine z_goto dX9_readText_61 rfl ?_
        exact go _
      · have fin := hQ _ h2 (by
          unfold rdT2
          rw [if_neg hz]
          exact ⟨rfl, tf2, w2, so2, on2, q2, f0.tr f2, fun a ha => by rw [g2 a ha]; exact fr a ha, fun w => absurd w hz⟩)
        refine z_istore_n dX9_readText_54 rfl (Nat.le_of_ble_eq_true rfl) ?_
        refine z_iload_n dX9_readText_55 rfl rfl ?_
        refine z_if_eq dX9_readText_56 rfl (fun c => absurd c (fun w => hz ((nI_eq (b := 0) (by omega) (by omega)).mp w))) (fun _ => ?_)
        refine z_iload_n dX9_readText_59 rfl rfl ?_
        refine z_iret dX9_readText_60 ?_
        exact fin

theorem r_readText {s : Ms} {h : Hp} {d : Nat} (hr : RM s h) (ht : ITp s) (h4 : s.1 2 < 4) (hd : 10 ≤ d) : Sq d mX9_readText [.ref 488] h (RDD s (s.1 2) s.2.2.2.2.2.2 h (rdT (tK (TPs s) (TNs s)) (wN s) 25 [] 0)) := by
  have hm := hr.m
  have ea : pI h 489 2 = nI (s.1 2) := hr.at (by omega) (by omega)
  have r5 : RM (wTf s (upT s.2.2.2.2.2.2 (753 * s.1 2) 0)) (sI (sI (sI (sI (sI h 488 12 (nI (753 * s.1 2))) 491 (753 * s.1 2) 0) 488 13 0) 488 19 0) 488 7 0) := rm_f (rm_f (rm_f (rm_t (tf := s.2.2.2.2.2.2) (rm_f hr (by omega))) (by omega)) (by omega)) (by omega)
  obtain ⟨h6, s6, k2, k3⟩ := r_nextToken (s := wTf s (upT s.2.2.2.2.2.2 (753 * s.1 2) 0)) (x := 0) (d := 1) r5 ht (Nat.zero_le _) (by rw [pI_sI, if_pos rfl, if_pos rfl]; rfl) (Nat.le_refl _)
  have q6 : RTs s (s.1 2) (upT s.2.2.2.2.2.2 (753 * s.1 2) 0) 0 0 (pI h6 488 14) 0 h6 := by
    refine ⟨k2.rm r5, k3, ?_, ?_, rfl, ?_⟩
    · rw [k2.2.2.1 12 (by omega), pI_sI, if_pos rfl, if_neg (by omega), pI_sI, if_pos rfl, if_neg (by omega), pI_sI, if_pos rfl, if_neg (by omega), pI_sI_ne (by omega), pI_sI, if_pos rfl, if_pos rfl]
    · rw [k2.2.2.1 13 (by omega), pI_sI, if_pos rfl, if_neg (by omega), pI_sI, if_pos rfl, if_neg (by omega), pI_sI, if_pos rfl, if_pos rfl]; rfl
    · rw [k2.2.2.1 19 (by omega), pI_sI, if_pos rfl, if_neg (by omega), pI_sI, if_pos rfl, if_pos rfl]; rfl
  have f5 : FR4 h (sI (sI (sI (sI (sI h 488 12 (nI (753 * s.1 2))) 491 (753 * s.1 2) 0) 488 13 0) 488 19 0) 488 7 0) := ((((FR4.rf.i (Or.inl rfl)).i (Or.inr rfl)).i (Or.inl rfl)).i (Or.inl rfl)).i (Or.inl rfl)
  have f6 : FR4 h h6 := f5.tr k2.q.x
  have tx : TXm (upT s.2.2.2.2.2.2 (753 * s.1 2) 0) (s.1 2) [] := ⟨upT_s, fun k q hk => (by cases hk)⟩
  have on0 : ONs 0 [] := ⟨by omega, fun s _ => ⟨fun w => (by rw [Nat.zero_testBit] at w; cases w), fun w => (by cases w)⟩⟩
  intro N S Q hN hS hQ
  have go := l_rt (d := d) (N := N) (S := S) (Q := Q) (tf0 := s.2.2.2.2.2.2) ht h4 (tk_lt ht) ht.1 hd hN hS 25 [] 0 _ 0 _ 0 h6 rfl (Nat.zero_le _) (fun p hp => absurd hp List.not_mem_nil) (Nat.le_refl _) (Nat.zero_le _) q6 tx rfl on0 f6 (fun a ha => upT_n (by omega)) hQ none
  refine z_aload_n dX9_readText_0 rfl rfl ?_
  refine z_sipush (v := 753) dX9_readText_1 (by decide) ?_
  refine z_aload_n dX9_readText_4 rfl rfl ?_
  refine y_getR FX9_7 dX9_readText_5 rfl hm.o hm.f_a ?_
  refine z_iconst (v := 2) dX9_readText_8 (by decide) ?_
  refine y_ialN (2) dX9_readText_9 hm.A_a (Nat.le_of_ble_eq_true rfl) (rfl) (by omega) ?_
  refine z_eqi ea ?_
  refine z_imul dX9_readText_10 ?_
  refine z_eqi (show _ = nI (753 * s.1 2) from pk_mul 753 (s.1 2)) ?_
  refine y_putI FX9_144 dX9_readText_11 (Or.inl rfl) (Or.inl rfl) hm.o ?_
  refine z_aload_n dX9_readText_14 rfl rfl ?_
  refine y_getR FX9_16 dX9_readText_15 rfl hm.o hm.f_texts ?_
  refine z_aload_n dX9_readText_18 rfl rfl ?_
  refine y_getI FX9_144 dX9_readText_19 (Or.inl rfl) hm.o ?_
  refine z_eqi (y := nI (753 * s.1 2)) (show _ = nI (753 * s.1 2) by rw [pI_sI, if_pos rfl, if_pos rfl]) ?_
  refine z_iconst (v := 0) dX9_readText_22 (by decide) ?_
  refine y_iasN (753 * s.1 2) dX9_readText_23 hm.A_texts (Nat.le_of_ble_eq_true rfl) (rfl) (by omega) ?_
  refine z_aload_n dX9_readText_24 rfl rfl ?_
  refine z_iconst (v := 0) dX9_readText_25 (by decide) ?_
  refine y_putI FX9_147 dX9_readText_26 (Or.inl rfl) (Or.inl rfl) hm.o ?_
  refine z_aload_n dX9_readText_29 rfl rfl ?_
  refine z_iconst (v := 0) dX9_readText_30 (by decide) ?_
  refine y_putI FX9_258 dX9_readText_31 (Or.inl rfl) (Or.inl rfl) hm.o ?_
  refine z_aload_n dX9_readText_34 rfl rfl ?_
  refine z_iconst (v := 0) dX9_readText_35 (by decide) ?_
  refine y_putI FX9_96 dX9_readText_36 (Or.inl rfl) (Or.inl rfl) hm.o ?_
  refine z_aload_n dX9_readText_39 rfl rfl ?_
  refine y_callV (as := []) CX9_nextToken LX9_173 IX9_nextToken VX9_nextToken ⟨rfl, Nat.le_of_ble_eq_true rfl⟩ dX9_readText_40 hm.o rfl (Nat.le_of_ble_eq_true rfl) (Nat.le_of_ble_eq_true rfl) (by omega) s6 rok_v (hg_ss k2.q.1 hN hS) ?_
  exact go

/-- what comes of text in the reference: a fault, or one text more -/
def TXR (s : Ms) (h : Hp) (y : Nat × Nat × List Cl) (r : Option Value) (h' : Hp) : Prop := FM h h' ∧ ∃ tf1, (∀ a, (a < 753 * s.1 2 ∨ 753 * s.1 2 + 753 ≤ a) → tf1 a = s.2.2.2.2.2.2 a) ∧ ((y.1 = 0 ∧ r = some (.int (nI (s.1 2))) ∧ TXm tf1 (s.1 2) y.2.2 ∧ RM (up s.1 2 (s.1 2 + 1), s.2.1, s.2.2.1, 0, 0, -1, tf1) h') ∨ (¬ y.1 = 0 ∧ r = some (.int (-1)) ∧ RM (s.1, s.2.1, s.2.2.1, 0, nI y.1, nI (tP (TPs s) (TNs s) y.2.1), tf1) h'))
theorem R_text {s : Ms} {h : Hp} {d : Nat} (hr : RM s h) (ht : ITp s) (h4 : s.1 2 < 4) (hd : 11 ≤ d) : Sq d mX9_text [.ref 488] h (TXR s h (rdT (tK (TPs s) (TNs s)) (wN s) 25 [] 0)) := by
  have hm := hr.m
  have ea : pI h 489 2 = nI (s.1 2) := hr.at (by omega) (by omega)
  have sq := r_readText (d := 10) hr ht h4 (Nat.le_refl _)
  have z9 := rdT_z (K := (tK (TPs s) (TNs s))) (W := (wN s)) 25 [] 0
  intro N S Q hN hS hQ
  refine z_aload_n dX9_text_0 rfl rfl ?_
  refine y_getR FX9_7 dX9_text_1 rfl hm.o hm.f_a ?_
  refine z_iconst (v := 2) dX9_text_4 (by decide) ?_
  refine y_ialN (2) dX9_text_5 hm.A_a (Nat.le_of_ble_eq_true rfl) (rfl) (by omega) ?_
  refine z_eqi ea ?_
  refine z_iconst (v := 4) dX9_text_6 (by decide) ?_
  refine z_icmp_ne dX9_text_7 rfl (fun _ => ?_) (fun c => absurd c (fun w => absurd ((nI_eq (b := 4) (by omega) (by omega)).mp w) (by omega)))
  refine z_aload_n dX9_text_12 rfl rfl ?_
  refine z_aload_n dX9_text_13 rfl rfl ?_
  refine y_callVQ (as := []) CX9_readText LX9_271 IX9_readText VX9_readText ⟨rfl, (Nat.le_of_ble_eq_true rfl)⟩ dX9_text_14 hm.o rfl (Nat.le_of_ble_eq_true rfl) (Nat.le_of_ble_eq_true rfl) (by omega) sq (fun r h2 p2 => ⟨by rw [p2.1]; exact rok_i, by obtain ⟨_, _, _, _, _, _, f, _⟩ := p2; exact f.1⟩) ?_
  intro r h2 p2
  obtain ⟨rfl, tf1, w1, so1, on1, q2, f2, g2, e2⟩ := p2
  have hm2 := q2.1.m
  by_cases hz : (rdT (tK (TPs s) (TNs s)) (wN s) 25 [] 0).1 = 0
  · skip
    have r3 : RM (s.1, s.2.1, s.2.2.1, 0, nI (rdT (tK (TPs s) (TNs s)) (wN s) 25 [] 0).1, (-1), tf1) (sI (sI (sI h2 488 5 (nI (rdT (tK (TPs s) (TNs s)) (wN s) 25 [] 0).1)) 488 6 (-1)) 488 4 0) := by
      obtain ⟨r1, r2, r3, r4, r5, r6, r7, r8, r9⟩ := q2.1
      refine ⟨r1, fun i hi => ?_, fun i hi => ?_, fun i hi => ?_, ?_, ?_, ?_, fun i hi => ?_, ?_⟩
      · rw [pI_sI_ne (by omega), pI_sI_ne (by omega), pI_sI_ne (by omega)]; exact r2 i hi
      · rw [pI_sI_ne (by omega), pI_sI_ne (by omega), pI_sI_ne (by omega)]; exact r3 i hi
      · rw [pI_sI_ne (by omega), pI_sI_ne (by omega), pI_sI_ne (by omega)]; exact r4 i hi
      · rw [pI_sI, if_pos rfl, if_pos rfl]; rfl
      · rw [pI_sI, if_pos rfl, if_neg (by omega), pI_sI, if_pos rfl, if_neg (by omega), pI_sI, if_pos rfl, if_pos rfl]
      · rw [pI_sI, if_pos rfl, if_neg (by omega), pI_sI, if_pos rfl, if_pos rfl]
      · rw [pI_sI_ne (by omega), pI_sI_ne (by omega), pI_sI_ne (by omega)]; exact r8 i hi
      · rw [pI_sI, if_pos rfl, if_neg (by omega), pI_sI, if_pos rfl, if_neg (by omega), pI_sI, if_pos rfl, if_neg (by omega)]; exact r9
    have f3 : FR4 h (sI (sI (sI h2 488 5 (nI (rdT (tK (TPs s) (TNs s)) (wN s) 25 [] 0).1)) 488 6 (-1)) 488 4 0) := ((f2.i (Or.inl rfl)).i (Or.inl rfl)).i (Or.inl rfl)
    have ea3 : pI (sI (sI (sI h2 488 5 (nI (rdT (tK (TPs s) (TNs s)) (wN s) 25 [] 0).1)) 488 6 (-1)) 488 4 0) 489 2 = nI (s.1 2) := r3.at (by omega) (by omega)
    have r4 := r3.aN (i := 2) (v := s.1 2 + 1) (by omega) rfl
    have fin : Q (some (.int (nI (s.1 2)))) (sI (sI (sI (sI h2 488 5 (nI (rdT (tK (TPs s) (TNs s)) (wN s) 25 [] 0).1)) 488 6 (-1)) 488 4 0) 489 2 (nI (s.1 2 + 1))) := by
      refine hQ _ _ ⟨⟨f3.1, fun k hk => ?_⟩, tf1, g2, Or.inl ⟨hz, rfl, e2 hz, ?_⟩⟩
      · rw [pI_sI_ne (by omega)]
        exact f3.fm.2 k hk
      · rw [hz] at r4
        rw [hz]
        exact r4
    refine y_putI FX9_22 dX9_text_17 (Or.inl rfl) (Or.inl rfl) hm2.o ?_
    refine z_aload_n dX9_text_20 rfl rfl ?_
    refine z_aload_n dX9_text_21 rfl rfl ?_
    refine y_getI FX9_22 dX9_text_22 (Or.inl rfl) hm2.o ?_
    refine z_eqi (y := nI ((rdT (tK (TPs s) (TNs s)) (wN s) 25 [] 0).1)) (show _ = nI (rdT (tK (TPs s) (TNs s)) (wN s) 25 [] 0).1 by rw [pI_sI, if_pos rfl, if_pos rfl]) ?_
    refine z_if_ne dX9_text_25 rfl (fun c => absurd (congrArg nI hz) c) (fun _ => ?_)
    refine z_iconst (v := -1) dX9_text_28 (by decide) ?_
    refine z_goto dX9_text_29 rfl ?_
    refine y_putI FX9_26 dX9_text_36 (Or.inl rfl) (Or.inl rfl) hm2.o ?_
    refine z_aload_n dX9_text_39 rfl rfl ?_
    refine z_iconst (v := 0) dX9_text_40 (by decide) ?_
    refine y_putI FX9_90 dX9_text_41 (Or.inl rfl) (Or.inl rfl) hm2.o ?_
    refine z_aload_n dX9_text_44 rfl rfl ?_
    refine y_getI FX9_22 dX9_text_45 (Or.inl rfl) hm2.o ?_
    refine z_eqi (y := nI ((rdT (tK (TPs s) (TNs s)) (wN s) 25 [] 0).1)) (show _ = nI (rdT (tK (TPs s) (TNs s)) (wN s) 25 [] 0).1 by rw [pI_sI, if_pos rfl, if_neg (by omega), pI_sI, if_pos rfl, if_neg (by omega), pI_sI, if_pos rfl, if_pos rfl]) ?_
    refine z_if_eq dX9_text_48 rfl (fun _ => ?_) (fun c => absurd (congrArg nI hz) c)
    refine z_aload_n dX9_text_53 rfl rfl ?_
    refine y_getR FX9_7 dX9_text_54 rfl hm2.o hm2.f_a ?_
    refine z_iconst (v := 2) dX9_text_57 (by decide) ?_
    refine z_dup2_11 dX9_text_58 rfl rfl ?_
    refine y_ialN (2) dX9_text_59 hm2.A_a (Nat.le_of_ble_eq_true rfl) (rfl) (by omega) ?_
    refine z_eqi ea3 ?_
    refine z_iconst (v := 1) dX9_text_60 (by decide) ?_
    refine z_iadd dX9_text_61 ?_
    refine z_eqi (nI_1 (s.1 2)) ?_
    refine y_iasN (2) dX9_text_62 hm2.A_a (Nat.le_of_ble_eq_true rfl) (rfl) (by omega) ?_
    refine z_aload_n dX9_text_63 rfl rfl ?_
    refine y_getR FX9_7 dX9_text_64 rfl hm2.o hm2.f_a ?_
    refine z_iconst (v := 2) dX9_text_67 (by decide) ?_
    refine y_ialN (2) dX9_text_68 hm2.A_a (Nat.le_of_ble_eq_true rfl) (rfl) (by omega) ?_
    refine z_eqi (show _ = nI (s.1 2 + 1) by rw [pI_sI, if_pos rfl, if_pos rfl]) ?_
    refine z_iconst (v := 1) dX9_text_69 (by decide) ?_
    refine z_isub dX9_text_70 ?_
    refine z_eqi (show _ = nI (s.1 2) from nI_pred (s.1 2)) ?_
    refine z_iret dX9_text_71 ?_
    exact fin
  · skip
    have r3 : RM (s.1, s.2.1, s.2.2.1, 0, nI (rdT (tK (TPs s) (TNs s)) (wN s) 25 [] 0).1, (nI (tP (TPs s) (TNs s) (rdT (tK (TPs s) (TNs s)) (wN s) 25 [] 0).2.1)), tf1) (sI (sI (sI h2 488 5 (nI (rdT (tK (TPs s) (TNs s)) (wN s) 25 [] 0).1)) 488 6 (nI (tP (TPs s) (TNs s) (rdT (tK (TPs s) (TNs s)) (wN s) 25 [] 0).2.1))) 488 4 0) := by
      obtain ⟨r1, r2, r3, r4, r5, r6, r7, r8, r9⟩ := q2.1
      refine ⟨r1, fun i hi => ?_, fun i hi => ?_, fun i hi => ?_, ?_, ?_, ?_, fun i hi => ?_, ?_⟩
      · rw [pI_sI_ne (by omega), pI_sI_ne (by omega), pI_sI_ne (by omega)]; exact r2 i hi
      · rw [pI_sI_ne (by omega), pI_sI_ne (by omega), pI_sI_ne (by omega)]; exact r3 i hi
      · rw [pI_sI_ne (by omega), pI_sI_ne (by omega), pI_sI_ne (by omega)]; exact r4 i hi
      · rw [pI_sI, if_pos rfl, if_pos rfl]; rfl
      · rw [pI_sI, if_pos rfl, if_neg (by omega), pI_sI, if_pos rfl, if_neg (by omega), pI_sI, if_pos rfl, if_pos rfl]
      · rw [pI_sI, if_pos rfl, if_neg (by omega), pI_sI, if_pos rfl, if_pos rfl]
      · rw [pI_sI_ne (by omega), pI_sI_ne (by omega), pI_sI_ne (by omega)]; exact r8 i hi
      · rw [pI_sI, if_pos rfl, if_neg (by omega), pI_sI, if_pos rfl, if_neg (by omega), pI_sI, if_pos rfl, if_neg (by omega)]; exact r9
    have f3 : FR4 h (sI (sI (sI h2 488 5 (nI (rdT (tK (TPs s) (TNs s)) (wN s) 25 [] 0).1)) 488 6 (nI (tP (TPs s) (TNs s) (rdT (tK (TPs s) (TNs s)) (wN s) 25 [] 0).2.1))) 488 4 0) := ((f2.i (Or.inl rfl)).i (Or.inl rfl)).i (Or.inl rfl)
    have fin : Q (some (.int (-1))) (sI (sI (sI h2 488 5 (nI (rdT (tK (TPs s) (TNs s)) (wN s) 25 [] 0).1)) 488 6 (nI (tP (TPs s) (TNs s) (rdT (tK (TPs s) (TNs s)) (wN s) 25 [] 0).2.1))) 488 4 0) := hQ _ _ ⟨f3.fm, tf1, g2, Or.inr ⟨hz, rfl, r3⟩⟩
    refine y_putI FX9_22 dX9_text_17 (Or.inl rfl) (Or.inl rfl) hm2.o ?_
    refine z_aload_n dX9_text_20 rfl rfl ?_
    refine z_aload_n dX9_text_21 rfl rfl ?_
    refine y_getI FX9_22 dX9_text_22 (Or.inl rfl) hm2.o ?_
    refine z_eqi (y := nI ((rdT (tK (TPs s) (TNs s)) (wN s) 25 [] 0).1)) (show _ = nI (rdT (tK (TPs s) (TNs s)) (wN s) 25 [] 0).1 by rw [pI_sI, if_pos rfl, if_pos rfl]) ?_
    refine z_if_ne dX9_text_25 rfl (fun _ => ?_) (fun c => absurd c (fun w => hz ((nI_eq (b := 0) (by omega) (by omega)).mp w)))
    refine z_aload_n dX9_text_32 rfl rfl ?_
    refine y_getI FX9_103 dX9_text_33 (Or.inl rfl) hm2.o ?_
    refine z_eqi (show _ = (nI (tP (TPs s) (TNs s) (rdT (tK (TPs s) (TNs s)) (wN s) 25 [] 0).2.1)) by rw [pI_sI, if_pos rfl, if_neg (by omega)]; exact q2.2.1.2.1) ?_
    refine y_putI FX9_26 dX9_text_36 (Or.inl rfl) (Or.inl rfl) hm2.o ?_
    refine z_aload_n dX9_text_39 rfl rfl ?_
    refine z_iconst (v := 0) dX9_text_40 (by decide) ?_
    refine y_putI FX9_90 dX9_text_41 (Or.inl rfl) (Or.inl rfl) hm2.o ?_
    refine z_aload_n dX9_text_44 rfl rfl ?_
    refine y_getI FX9_22 dX9_text_45 (Or.inl rfl) hm2.o ?_
    refine z_eqi (y := nI ((rdT (tK (TPs s) (TNs s)) (wN s) 25 [] 0).1)) (show _ = nI (rdT (tK (TPs s) (TNs s)) (wN s) 25 [] 0).1 by rw [pI_sI, if_pos rfl, if_neg (by omega), pI_sI, if_pos rfl, if_neg (by omega), pI_sI, if_pos rfl, if_pos rfl]) ?_
    refine z_if_eq dX9_text_48 rfl (fun c => absurd c (fun w => hz ((nI_eq (b := 0) (by omega) (by omega)).mp w))) (fun _ => ?_)
    refine z_iconst (v := -1) dX9_text_51 (by decide) ?_
    refine z_iret dX9_text_52 ?_
    exact fin
theorem R_text4 {s : Ms} {h : Hp} {d : Nat} (hr : RM s h) (h4 : s.1 2 = 4) : Sp d mX9_text [.ref 488] h (some (.int (-1))) h := by
  have hm := hr.m
  have ea : pI h 489 2 = nI (s.1 2) := hr.at (by omega) (by omega)
  intro N S Q hN hS hQ
  refine z_aload_n dX9_text_0 rfl rfl ?_
  refine y_getR FX9_7 dX9_text_1 rfl hm.o hm.f_a ?_
  refine z_iconst (v := 2) dX9_text_4 (by decide) ?_
  refine y_ialN (2) dX9_text_5 hm.A_a (Nat.le_of_ble_eq_true rfl) (rfl) (by omega) ?_
  refine z_eqi ea ?_
  refine z_iconst (v := 4) dX9_text_6 (by decide) ?_
  refine z_icmp_ne dX9_text_7 rfl (fun c => absurd (congrArg nI h4) c) (fun _ => ?_)
  refine z_iconst (v := -1) dX9_text_10 (by decide) ?_
  refine z_iret dX9_text_11 ?_
  exact hQ

