/-! the class reads a text (wip/whole/genag.py) -/
theorem l_rdz {x n d N S k : Nat} {K W : Nat → Nat} {y : Nat × Nat × List Cl} {h : Hp} {tl : Int32} {Q : Option Value → Hp → Prop} (q : CDs x K W n y h) (hz : ¬ y.1 = 0) (hk : k ≤ 100) (kk : T d N S mX2_read 68 [some (.ref 472), some (.ref 487), some (.int tl), some (.int (nI k))] [] h Q) : T d N S mX2_read 36 [some (.ref 472), some (.ref 487), some (.int tl), some (.int (nI k))] [] h Q := by
  have z9 := q.1.2.2.2.2.2.2.2.2.2
  by_cases k24 : k ≤ 24
  · skip
    refine z_iload_n dX2_read_36 rfl rfl ?_
    refine z_bipush (v := 24) dX2_read_37 (by decide) ?_
    refine z_icmp_gt dX2_read_39 rfl (fun c => absurd c (fun w => absurd ((nI_ltI (a := 24) (by omega) (by omega)).mp w) (by omega))) (fun _ => ?_)
    refine z_aload_n dX2_read_42 rfl rfl ?_
    refine y_getI FX2_40 dX2_read_43 (Or.inl rfl) q.1.1.1.1 ?_
    refine z_eqi (y := nI (y.1)) q.1.2.2.2.2.2.2.2.1 ?_
    refine z_if_ne dX2_read_46 rfl (fun _ => ?_) (fun c => absurd c (fun w => hz ((nI_eq (b := 0) (by omega) (by omega)).mp w)))
    exact kk
  · skip
    refine z_iload_n dX2_read_36 rfl rfl ?_
    refine z_bipush (v := 24) dX2_read_37 (by decide) ?_
    refine z_icmp_gt dX2_read_39 rfl (fun _ => ?_) (fun c => absurd ((nI_ltI (a := 24) (by omega) (by omega)).mpr (by omega)) c)
    exact kk
/-- the loop over clauses -/
theorem l_read {x n d : Nat} {K W : Nat → Nat} {tl : Int32} (hd : 136 ≤ d) : ∀ f (L : List Cl) i h k, L.length + f = 25 → L.length ≤ 24 → k = L.length → (∀ p ∈ L, WFq p) → wof L ≤ i → CDs x K W n (0, i, L) h → ∃ h1 k1, CDs x K W n (rdT K W f L i) h1 ∧ FW x h h1 ∧ pn h1 ≤ pn h + f ∧ ps h1 ≤ ps h + 300 * f ∧ ∀ N S Q, pn h1 ≤ N → ps h1 ≤ S → T d N S mX2_read 68 [some (.ref 472), some (.ref 487), some (.int tl), some (.int (nI k1))] [] h1 Q → T d N S mX2_read 36 [some (.ref 472), some (.ref 487), some (.int tl), some (.int (nI k))] [] h Q := by
  intro f
  induction f with
  | zero => intro L i h k h1 h2; omega
  | succ f ih =>
    intro L i h k h1 h2 hk wf hw q
    have ct := q.1.1
    have n3 := ct.2.2.1
    have iN : i ≤ n := q.1.2.2.2.2.2.2.2.2.1
    have k54 : K i ≤ 54 := ct.2.2.2.2.2.2 i
    have e0 : pI h 472 5 = nI 0 := q.1.2.2.2.2.2.2.2.1
    have e4 : pI h 472 4 = nI (K i) := q.1.2.2.2.2.2.2.1
    by_cases k5 : K i = 54
    · rw [show rdT K W (f + 1) L i = (0, i, L) from if_pos k5]
      refine ⟨h, k, q, FW.rf, by omega, by omega, fun N S Q hN hS kk => ?_⟩
      refine z_iload_n dX2_read_36 rfl rfl ?_
      refine z_bipush (v := 24) dX2_read_37 (by decide) ?_
      refine z_icmp_gt dX2_read_39 rfl (fun c => absurd c (fun w => absurd ((nI_ltI (a := 24) (by omega) (by omega)).mp w) (by omega))) (fun _ => ?_)
      refine z_aload_n dX2_read_42 rfl rfl ?_
      refine y_getI FX2_40 dX2_read_43 (Or.inl rfl) q.1.1.1.1 ?_
      refine z_eqi (y := nI (0)) e0 ?_
      refine z_if_ne dX2_read_46 rfl (fun c => absurd (rfl) c) (fun _ => ?_)
      refine z_aload_n dX2_read_49 rfl rfl ?_
      refine y_getI FX2_43 dX2_read_50 (Or.inl rfl) q.1.1.1.1 ?_
      refine z_eqi (y := nI (K i)) e4 ?_
      refine z_bipush (v := 54) dX2_read_53 (by decide) ?_
      refine z_icmp_eq dX2_read_55 rfl (fun _ => ?_) (fun c => absurd (congrArg nI k5) c)
      exact kk
    · have eT : rdT K W (f + 1) L i = rdT2 (rdT K W f) (rdC K W L i) := if_neg k5
      rw [eT]
      obtain ⟨c1, c2⟩ := rdC_ok ct.lt n3 (W := W) iN h2 wf hw
      obtain ⟨h2', s2, q2, f2, p2, m2⟩ := c_readClause (d := 135) q wf h2 (by omega) (Nat.le_refl _)
      by_cases hz : (rdC K W L i).1 = 0
      · obtain ⟨d1, d2, d3, d4⟩ := c2 hz
        have q3 : CDs x K W n (0, (rdC K W L i).2.1, (rdC K W L i).2.2) h2' := by rw [← hz]; exact q2
        obtain ⟨h3, k1, q4, f4, p4, m4, t4⟩ := ih (rdC K W L i).2.2 (rdC K W L i).2.1 h2' (k + 1) (by omega) (by omega) (by omega) d3 d4 q3
        have e4' : rdT2 (rdT K W f) (rdC K W L i) = rdT K W f (rdC K W L i).2.2 (rdC K W L i).2.1 := if_pos hz
        rw [e4']
        refine ⟨h3, k1, q4, f2.tr f4, Nat.le_trans p4 (by omega), Nat.le_trans m4 (by omega), fun N S Q hN hS kk => ?_⟩
        have go := t4 N S Q hN hS kk
        have hN2 : pn h2' ≤ N := Nat.le_trans f4.1.1 hN
        have hS2 : ps h2' ≤ S := Nat.le_trans f4.2.1 hS
        refine z_iload_n dX2_read_36 rfl rfl ?_
        refine z_bipush (v := 24) dX2_read_37 (by decide) ?_
        refine z_icmp_gt dX2_read_39 rfl (fun c => absurd c (fun w => absurd ((nI_ltI (a := 24) (by omega) (by omega)).mp w) (by omega))) (fun _ => ?_)
        refine z_aload_n dX2_read_42 rfl rfl ?_
        refine y_getI FX2_40 dX2_read_43 (Or.inl rfl) q.1.1.1.1 ?_
        refine z_eqi (y := nI (0)) e0 ?_
        refine z_if_ne dX2_read_46 rfl (fun c => absurd (rfl) c) (fun _ => ?_)
        refine z_aload_n dX2_read_49 rfl rfl ?_
        refine y_getI FX2_43 dX2_read_50 (Or.inl rfl) q.1.1.1.1 ?_
        refine z_eqi (y := nI (K i)) e4 ?_
        refine z_bipush (v := 54) dX2_read_53 (by decide) ?_
        refine z_icmp_eq dX2_read_55 rfl (fun c => absurd c (fun w => k5 ((nI_eq (b := 54) (by omega) (by omega)).mp w))) (fun _ => ?_)
        refine z_aload_n dX2_read_58 rfl rfl ?_
        refine y_callV (as := []) CX2_readClause LX2_46 IX2_readClause VX2_readClause ⟨rfl, Nat.le_of_ble_eq_true rfl⟩ dX2_read_59 q.1.1.1.1 rfl (Nat.le_of_ble_eq_true rfl) (Nat.le_of_ble_eq_true rfl) (by omega) s2 rok_v ⟨f2.1.1, f2.2.1, hN2, hS2⟩ ?_
        refine z_iinc dX2_read_62 rfl (nI_1 k) (Nat.le_of_ble_eq_true rfl) ?_
        refine z_goto dX2_read_65 rfl ?_
        exact go
      · have e4' : rdT2 (rdT K W f) (rdC K W L i) = rdC K W L i := if_neg hz
        rw [e4']
        refine ⟨h2', k + 1, q2, f2, Nat.le_trans p2 (by omega), Nat.le_trans m2 (by omega), fun N S Q hN hS kk => ?_⟩
        refine z_iload_n dX2_read_36 rfl rfl ?_
        refine z_bipush (v := 24) dX2_read_37 (by decide) ?_
        refine z_icmp_gt dX2_read_39 rfl (fun c => absurd c (fun w => absurd ((nI_ltI (a := 24) (by omega) (by omega)).mp w) (by omega))) (fun _ => ?_)
        refine z_aload_n dX2_read_42 rfl rfl ?_
        refine y_getI FX2_40 dX2_read_43 (Or.inl rfl) q.1.1.1.1 ?_
        refine z_eqi (y := nI (0)) e0 ?_
        refine z_if_ne dX2_read_46 rfl (fun c => absurd (rfl) c) (fun _ => ?_)
        refine z_aload_n dX2_read_49 rfl rfl ?_
        refine y_getI FX2_43 dX2_read_50 (Or.inl rfl) q.1.1.1.1 ?_
        refine z_eqi (y := nI (K i)) e4 ?_
        refine z_bipush (v := 54) dX2_read_53 (by decide) ?_
        refine z_icmp_eq dX2_read_55 rfl (fun c => absurd c (fun w => k5 ((nI_eq (b := 54) (by omega) (by omega)).mp w))) (fun _ => ?_)
        refine z_aload_n dX2_read_58 rfl rfl ?_
        refine y_callV (as := []) CX2_readClause LX2_46 IX2_readClause VX2_readClause ⟨rfl, Nat.le_of_ble_eq_true rfl⟩ dX2_read_59 q.1.1.1.1 rfl (Nat.le_of_ble_eq_true rfl) (Nat.le_of_ble_eq_true rfl) (by omega) s2 rok_v ⟨f2.1.1, f2.2.1, hN, hS⟩ ?_
        refine z_iinc dX2_read_62 rfl (nI_1 k) (Nat.le_of_ble_eq_true rfl) ?_
        refine z_goto dX2_read_65 rfl ?_
        exact l_rdz q2 hz (by omega) kk

/-- reading leaves the cells below x alone, but for the reader's own -/
def FWr (x : Nat) (h h1 : Hp) : Prop := EX h h1 ∧ ps h ≤ ps h1 ∧ ∀ k, k < x → pJ h1 k = pJ h k ∧ ((k < 472 ∨ 477 < k) → pI h1 k = pI h k) ∧ ∀ j, (k ≠ 472 ∨ j ≠ 7) → pR h1 k j = pR h k j
theorem rd_start {h : Hp} {tp : Fl} {tn d : Nat} (cr : CR h) (tb : TB4 h tp) (n3 : tn ≤ 300) (h5 : 501 ≤ pn h) (z0 : I0 h 0) (hd : 137 ≤ d) : ∃ m h7, m ≤ tn ∧ CDs (pn h) (tK tp tn) (wNt tp tn) m (0, 0, []) h7 ∧ FWr (pn h) h h7 ∧ (∀ j, j ≤ m → pI h7 476 j = nI (tP tp tn j)) ∧ pn h7 = pn h + 3 ∧ ps h7 = ps h + nC 5 + nC 4 + 144 ∧ ∀ N S Q, pn h7 ≤ N → ps h7 ≤ S → T d N S mX2_read 36 [some (.ref 472), some (.ref 487), some (.int (nI tn)), some (.int (nI 0))] [] h7 Q → T d N S mX2_read 0 (lap mX2_read [.ref 472, .ref 487, .int (nI tn)]) [] h Q := by
  obtain ⟨m, h1, m1, m2, m3, tk, s1⟩ := c_split (d := 7) cr tb n3 (Nat.le_refl _)
  have ct := tk.ct cr n3 m1 m2
  have cr1 := ct.1
  have pn1 : pn (sI (sI (sI (sI h1 472 3 (-1)) 472 3 (nI 0)) 472 4 (pI (sI h1 472 3 (-1)) 474 0)) 472 5 0) = pn h := by show pn h1 = pn h; rw [tk.1.n]
  have ps1 : ps (sI (sI (sI (sI h1 472 3 (-1)) 472 3 (nI 0)) 472 4 (pI (sI h1 472 3 (-1)) 474 0)) 472 5 0) = ps h := by show ps h1 = ps h; rw [tk.1.s]
  have nc5 : nC 5 ≤ 10 := by decide
  have nc4 : nC 4 ≤ 10 := by decide
  have pn7 : pn (sR (textH (nw (sI (sI (sI (sI h1 472 3 (-1)) 472 3 (nI 0)) 472 4 (pI (sI h1 472 3 (-1)) 474 0)) 472 5 0) 5 (nC 5)) (pn (sI (sI (sI (sI h1 472 3 (-1)) 472 3 (nI 0)) 472 4 (pI (sI h1 472 3 (-1)) 474 0)) 472 5 0))) 472 7 (some (pn (sI (sI (sI (sI h1 472 3 (-1)) 472 3 (nI 0)) 472 4 (pI (sI h1 472 3 (-1)) 474 0)) 472 5 0)))) = pn h + 3 := by show pn h1 + 1 + 2 = pn h + 3; rw [tk.1.n]
  have ps7 : ps (sR (textH (nw (sI (sI (sI (sI h1 472 3 (-1)) 472 3 (nI 0)) 472 4 (pI (sI h1 472 3 (-1)) 474 0)) 472 5 0) 5 (nC 5)) (pn (sI (sI (sI (sI h1 472 3 (-1)) 472 3 (nI 0)) 472 4 (pI (sI h1 472 3 (-1)) 474 0)) 472 5 0))) 472 7 (some (pn (sI (sI (sI (sI h1 472 3 (-1)) 472 3 (nI 0)) 472 4 (pI (sI h1 472 3 (-1)) 474 0)) 472 5 0)))) = ps h + nC 5 + nC 4 + 144 := by show ps h1 + nC 5 + nC 4 + 144 = _; rw [tk.1.s]
  have on : IO (nw (sI (sI (sI (sI h1 472 3 (-1)) 472 3 (nI 0)) 472 4 (pI (sI h1 472 3 (-1)) 474 0)) 472 5 0) 5 (nC 5)) 5 (pn (sI (sI (sI (sI h1 472 3 (-1)) 472 3 (nI 0)) 472 4 (pI (sI h1 472 3 (-1)) 474 0)) 472 5 0)) := ⟨by rw [pn1]; omega, Nat.lt_succ_self _, by rw [pK_nw, if_pos rfl]⟩
  have ex7 : EX h1 (sR (textH (nw (sI (sI (sI (sI h1 472 3 (-1)) 472 3 (nI 0)) 472 4 (pI (sI h1 472 3 (-1)) 474 0)) 472 5 0) 5 (nC 5)) (pn (sI (sI (sI (sI h1 472 3 (-1)) 472 3 (nI 0)) 472 4 (pI (sI h1 472 3 (-1)) 474 0)) 472 5 0))) 472 7 (some (pn (sI (sI (sI (sI h1 472 3 (-1)) 472 3 (nI 0)) 472 4 (pI (sI h1 472 3 (-1)) 474 0)) 472 5 0)))) := (EX.nw (h := (sI (sI (sI (sI h1 472 3 (-1)) 472 3 (nI 0)) 472 4 (pI (sI h1 472 3 (-1)) 474 0)) 472 5 0))).tr (ex_text (h := (nw (sI (sI (sI (sI h1 472 3 (-1)) 472 3 (nI 0)) 472 4 (pI (sI h1 472 3 (-1)) 474 0)) 472 5 0) 5 (nC 5))) (x := pn (sI (sI (sI (sI h1 472 3 (-1)) 472 3 (nI 0)) 472 4 (pI (sI h1 472 3 (-1)) 474 0)) 472 5 0)))
  have z1 : I0 (sI (sI (sI (sI h1 472 3 (-1)) 472 3 (nI 0)) 472 4 (pI (sI h1 472 3 (-1)) 474 0)) 472 5 0) 0 := by
    have : I0 h1 0 := tk.1.Z z0
    exact this
  have eI4 : ∀ k, k ≠ 472 → pI (sI (sI (sI (sI h1 472 3 (-1)) 472 3 (nI 0)) 472 4 (pI (sI h1 472 3 (-1)) 474 0)) 472 5 0) k = pI h1 k := fun k hk => by rw [pI_sI_ne hk, pI_sI_ne hk, pI_sI_ne hk, pI_sI_ne hk]
  have eI7 : ∀ k, k < pn h → k ≠ 472 → pI (sR (textH (nw (sI (sI (sI (sI h1 472 3 (-1)) 472 3 (nI 0)) 472 4 (pI (sI h1 472 3 (-1)) 474 0)) 472 5 0) 5 (nC 5)) (pn (sI (sI (sI (sI h1 472 3 (-1)) 472 3 (nI 0)) 472 4 (pI (sI h1 472 3 (-1)) 474 0)) 472 5 0))) 472 7 (some (pn (sI (sI (sI (sI h1 472 3 (-1)) 472 3 (nI 0)) 472 4 (pI (sI h1 472 3 (-1)) 474 0)) 472 5 0)))) k = pI h1 k := fun k k1 k2 => by
    show pI (textH (nw (sI (sI (sI (sI h1 472 3 (-1)) 472 3 (nI 0)) 472 4 (pI (sI h1 472 3 (-1)) 474 0)) 472 5 0) 5 (nC 5)) (pn (sI (sI (sI (sI h1 472 3 (-1)) 472 3 (nI 0)) 472 4 (pI (sI h1 472 3 (-1)) 474 0)) 472 5 0))) k = pI h1 k
    rw [text_I (by show k ≠ pn h1 + 1; rw [tk.1.n]; show k ≠ pn h + 1; omega) (by show k ≠ pn h1 + 1 + 1; rw [tk.1.n]; show k ≠ pn h + 1 + 1; omega), pI_nw, if_neg (by rw [pn1]; omega)]
    exact eI4 k k2
  have eF7 : ∀ j, pI (sR (textH (nw (sI (sI (sI (sI h1 472 3 (-1)) 472 3 (nI 0)) 472 4 (pI (sI h1 472 3 (-1)) 474 0)) 472 5 0) 5 (nC 5)) (pn (sI (sI (sI (sI h1 472 3 (-1)) 472 3 (nI 0)) 472 4 (pI (sI h1 472 3 (-1)) 474 0)) 472 5 0))) 472 7 (some (pn (sI (sI (sI (sI h1 472 3 (-1)) 472 3 (nI 0)) 472 4 (pI (sI h1 472 3 (-1)) 474 0)) 472 5 0)))) 472 j = pI (sI (sI (sI (sI h1 472 3 (-1)) 472 3 (nI 0)) 472 4 (pI (sI h1 472 3 (-1)) 474 0)) 472 5 0) 472 j := fun j => by
    show pI (textH (nw (sI (sI (sI (sI h1 472 3 (-1)) 472 3 (nI 0)) 472 4 (pI (sI h1 472 3 (-1)) 474 0)) 472 5 0) 5 (nC 5)) (pn (sI (sI (sI (sI h1 472 3 (-1)) 472 3 (nI 0)) 472 4 (pI (sI h1 472 3 (-1)) 474 0)) 472 5 0))) 472 j = pI (sI (sI (sI (sI h1 472 3 (-1)) 472 3 (nI 0)) 472 4 (pI (sI h1 472 3 (-1)) 474 0)) 472 5 0) 472 j
    rw [text_I (by show 472 ≠ pn h1 + 1; rw [tk.1.n]; show 472 ≠ pn h + 1; omega) (by show 472 ≠ pn h1 + 1 + 1; rw [tk.1.n]; show 472 ≠ pn h + 1 + 1; omega), pI_nw, if_neg (by rw [pn1]; omega)]
  have eR7 : ∀ k j, k < pn h → (k ≠ 472 ∨ j ≠ 7) → pR (sR (textH (nw (sI (sI (sI (sI h1 472 3 (-1)) 472 3 (nI 0)) 472 4 (pI (sI h1 472 3 (-1)) 474 0)) 472 5 0) 5 (nC 5)) (pn (sI (sI (sI (sI h1 472 3 (-1)) 472 3 (nI 0)) 472 4 (pI (sI h1 472 3 (-1)) 474 0)) 472 5 0))) 472 7 (some (pn (sI (sI (sI (sI h1 472 3 (-1)) 472 3 (nI 0)) 472 4 (pI (sI h1 472 3 (-1)) 474 0)) 472 5 0)))) k j = pR h1 k j := fun k j k1 k2 => by
    have e1 : pR (textH (nw (sI (sI (sI (sI h1 472 3 (-1)) 472 3 (nI 0)) 472 4 (pI (sI h1 472 3 (-1)) 474 0)) 472 5 0) 5 (nC 5)) (pn (sI (sI (sI (sI h1 472 3 (-1)) 472 3 (nI 0)) 472 4 (pI (sI h1 472 3 (-1)) 474 0)) 472 5 0))) k = pR h1 k := by
      rw [text_R (by rw [pn1]; omega) (by show k ≠ pn h1 + 1; rw [tk.1.n]; show k ≠ pn h + 1; omega) (by show k ≠ pn h1 + 1 + 1; rw [tk.1.n]; show k ≠ pn h + 1 + 1; omega), pR_nw, if_neg (by rw [pn1]; omega)]
      rfl
    rw [pR_sR]
    by_cases k3 : k = 472
    · subst k3
      rw [if_pos rfl, if_neg (by omega), e1]
    · rw [if_neg k3, e1]
  have eJ7 : ∀ k, k < pn h → pJ (sR (textH (nw (sI (sI (sI (sI h1 472 3 (-1)) 472 3 (nI 0)) 472 4 (pI (sI h1 472 3 (-1)) 474 0)) 472 5 0) 5 (nC 5)) (pn (sI (sI (sI (sI h1 472 3 (-1)) 472 3 (nI 0)) 472 4 (pI (sI h1 472 3 (-1)) 474 0)) 472 5 0))) 472 7 (some (pn (sI (sI (sI (sI h1 472 3 (-1)) 472 3 (nI 0)) 472 4 (pI (sI h1 472 3 (-1)) 474 0)) 472 5 0)))) k = pJ h1 k := fun k k1 => by
    show pJ (textH (nw (sI (sI (sI (sI h1 472 3 (-1)) 472 3 (nI 0)) 472 4 (pI (sI h1 472 3 (-1)) 474 0)) 472 5 0) 5 (nC 5)) (pn (sI (sI (sI (sI h1 472 3 (-1)) 472 3 (nI 0)) 472 4 (pI (sI h1 472 3 (-1)) 474 0)) 472 5 0))) k = pJ h1 k
    rw [text_J (by show k ≠ pn h1 + 1; rw [tk.1.n]; show k ≠ pn h + 1; omega) (by show k ≠ pn h1 + 1 + 1; rw [tk.1.n]; show k ≠ pn h + 1 + 1; omega), pJ_nw, if_neg (by rw [pn1]; omega)]
    rfl
  have k0 : pI (sI h1 472 3 (-1)) 474 0 = nI ((tK tp tn) 0) := by rw [pI_sI_ne (by omega)]; exact ct.2.2.2.1 0 (Nat.zero_le _)
  have sh := text_sh (h := (sI (sI (sI (sI h1 472 3 (-1)) 472 3 (nI 0)) 472 4 (pI (sI h1 472 3 (-1)) 474 0)) 472 5 0)) (by rw [pn1]; exact h5) z1
  have q7 : CDs (pn (sI (sI (sI (sI h1 472 3 (-1)) 472 3 (nI 0)) 472 4 (pI (sI h1 472 3 (-1)) 474 0)) 472 5 0)) (tK tp tn) (wNt tp tn) m (0, 0, []) (sR (textH (nw (sI (sI (sI (sI h1 472 3 (-1)) 472 3 (nI 0)) 472 4 (pI (sI h1 472 3 (-1)) 474 0)) 472 5 0) 5 (nC 5)) (pn (sI (sI (sI (sI h1 472 3 (-1)) 472 3 (nI 0)) 472 4 (pI (sI h1 472 3 (-1)) 474 0)) 472 5 0))) 472 7 (some (pn (sI (sI (sI (sI h1 472 3 (-1)) 472 3 (nI 0)) 472 4 (pI (sI h1 472 3 (-1)) 474 0)) 472 5 0)))) := by
    refine ⟨⟨ex7.ct ct (fun k j hk hj => eR7 k j (by omega) (by omega)) (fun k hk => eI7 k (by omega) (by omega)), rfl, fun _ _ _ => rfl, rfl, fun _ _ => rfl, ?_, ?_, ?_, Nat.zero_le _, by show 0 ≤ 9; omega⟩, by rw [pR_sR, if_pos rfl, if_pos rfl], fun _ => ⟨?_, ?_⟩⟩
    · rw [eF7, pI_sI, if_pos rfl, if_neg (by omega), pI_sI, if_pos rfl, if_neg (by omega), pI_sI, if_pos rfl, if_pos rfl]
    · rw [eF7, pI_sI, if_pos rfl, if_neg (by omega), pI_sI, if_pos rfl, if_pos rfl]; exact k0
    · rw [eF7, pI_sI, if_pos rfl, if_pos rfl]; rfl
    · obtain ⟨d1, d2, d3, d4, d5, d6, d7⟩ := sh.1
      exact ⟨d1, d2, by rw [pR_sR_ne (by rw [pn1]; omega)]; exact d3, ⟨d4.1, by rw [pR_sR_ne (by rw [pn1]; omega)]; exact d4.2.1, d4.2.2⟩, d5, d6, d7⟩
    · intro s hs
      obtain ⟨c, c1, c2⟩ := sh.2 s hs
      refine ⟨c, by rw [pR_sR_ne (by rw [pn1]; omega)]; exact c1, ?_⟩
      rcases c2 with ⟨a1, _⟩ | ⟨a1, a2, a3⟩
      · cases a1
      · exact Or.inr ⟨a1, a2, a3⟩
  refine ⟨m, (sR (textH (nw (sI (sI (sI (sI h1 472 3 (-1)) 472 3 (nI 0)) 472 4 (pI (sI h1 472 3 (-1)) 474 0)) 472 5 0) 5 (nC 5)) (pn (sI (sI (sI (sI h1 472 3 (-1)) 472 3 (nI 0)) 472 4 (pI (sI h1 472 3 (-1)) 474 0)) 472 5 0))) 472 7 (some (pn (sI (sI (sI (sI h1 472 3 (-1)) 472 3 (nI 0)) 472 4 (pI (sI h1 472 3 (-1)) 474 0)) 472 5 0)))), m1, Eq.subst (motive := fun a => CDs a (tK tp tn) (wNt tp tn) m (0, 0, []) (sR (textH (nw (sI (sI (sI (sI h1 472 3 (-1)) 472 3 (nI 0)) 472 4 (pI (sI h1 472 3 (-1)) 474 0)) 472 5 0) 5 (nC 5)) (pn (sI (sI (sI (sI h1 472 3 (-1)) 472 3 (nI 0)) 472 4 (pI (sI h1 472 3 (-1)) 474 0)) 472 5 0))) 472 7 (some (pn (sI (sI (sI (sI h1 472 3 (-1)) 472 3 (nI 0)) 472 4 (pI (sI h1 472 3 (-1)) 474 0)) 472 5 0))))) pn1 q7, ⟨(EX.ss tk.1).tr ex7, by rw [ps7]; omega, fun k hk => ⟨?_, fun k1 => ?_, fun j hj => ?_⟩⟩, fun j hj => ?_, pn7, ps7, ?_⟩
  · rw [eJ7 k hk, tk.2.1]
  · rw [eI7 k hk (by omega), tk.2.2.1 k (by omega) (by omega) (by omega) (by omega)]
  · rw [eR7 k j hk hj, tk.1.R]
  · rw [eI7 476 (by omega) (by omega)]
    exact (tk.2.2.2.2.2 j (by omega)).2.2
  · intro N S Q hN7 hS7 go
    have hN0 : pn h + 3 ≤ N := by rw [pn7] at hN7; exact hN7
    have hS0 : ps h + nC 5 + nC 4 + 144 ≤ S := by rw [ps7] at hS7; exact hS7
    have hN : pn h ≤ N := by omega
    have hS : ps h ≤ S := by omega
    have hNa : pn (sI (sI (sI (sI h1 472 3 (-1)) 472 3 (nI 0)) 472 4 (pI (sI h1 472 3 (-1)) 474 0)) 472 5 0) + 1 ≤ N := by rw [pn1]; omega
    have hSa : ps (sI (sI (sI (sI h1 472 3 (-1)) 472 3 (nI 0)) 472 4 (pI (sI h1 472 3 (-1)) 474 0)) 472 5 0) + nC 5 ≤ S := by rw [ps1]; omega
    refine z_aload_n dX2_read_0 rfl rfl ?_
    refine y_getR FX2_12 dX2_read_1 rfl cr.1 cr.2.1 ?_
    refine z_aload_n dX2_read_4 rfl rfl ?_
    refine z_iload_n dX2_read_5 rfl rfl ?_
    refine y_callV (as := [_, _]) CX6_split LX2_29 IX6_split VX6_split ⟨rfl, Nat.le_of_ble_eq_true rfl⟩ dX2_read_6 cr.2.2.1 rfl (Nat.le_of_ble_eq_true rfl) (Nat.le_of_ble_eq_true rfl) (by omega) s1 rok_v (hg_ss tk.1 hN hS) ?_
    refine z_aload_n dX2_read_9 rfl rfl ?_
    refine z_iconst (v := -1) dX2_read_10 (by decide) ?_
    refine y_putI FX2_33 dX2_read_11 (Or.inl rfl) (Or.inl rfl) (tk.1.O cr.1) ?_
    refine z_aload_n dX2_read_14 rfl rfl ?_
    refine y_callV (as := []) CX2_advance LX2_37 IX2_advance VX2_advance ⟨rfl, Nat.le_of_ble_eq_true rfl⟩ dX2_read_15 (tk.1.O cr.1) rfl (Nat.le_of_ble_eq_true rfl) (Nat.le_of_ble_eq_true rfl) (by omega) (c_advance (d := 0) (i := 0) (n := m + 1) (h := (sI h1 472 3 (-1))) cr1 (show _ = (-1 : Int32) by rw [pI_sI, if_pos rfl, if_pos rfl]) (show (-1 : Int32) + 1 = nI 0 by decide) (by rw [pI_sI_ne (by omega)]; exact ct.2.1) (by omega) (by omega)) rok_v ⟨Nat.le_refl _, Nat.le_refl _, ss_n' tk.1 hN, ss_s' tk.1 hS⟩ ?_
    refine z_aload_n dX2_read_18 rfl rfl ?_
    refine z_iconst (v := 0) dX2_read_19 (by decide) ?_
    refine y_putI FX2_40 dX2_read_20 (Or.inl rfl) (Or.inl rfl) (tk.1.O cr.1) ?_
    refine z_aload_n dX2_read_23 rfl rfl ?_
    refine z_new NX2_22 dX2_read_24 hNa hSa ?_
    refine z_dup dX2_read_27 rfl ?_
    refine y_callI (as := []) CX5_init LX2_24 IX5_init rfl rfl dX2_read_28 rfl (Nat.le_of_ble_eq_true rfl) (Nat.le_of_ble_eq_true rfl) (by omega) (s_textI (d := 2) on (Nat.le_refl _)) ⟨ex_text.1, Nat.le_trans (Nat.le_add_right _ _) (Nat.le_add_right _ _), hN7, hS7⟩ ?_
    refine y_putR FX2_25 dX2_read_31 (Or.inl rfl) rfl (ex_text.O (EX.nw.O cr1.1)) ?_
    refine z_iconst (v := 0) dX2_read_34 (by decide) ?_
    refine z_istore_n dX2_read_35 rfl (Nat.le_of_ble_eq_true rfl) ?_
    exact go
theorem c_read {h : Hp} {tp : Fl} {tn d : Nat} (cr : CR h) (tb : TB4 h tp) (n3 : tn ≤ 300) (h5 : 501 ≤ pn h) (z0 : I0 h 0) (hd : 137 ≤ d) : ∃ m h1, m ≤ tn ∧ CDs (pn h) (tK tp tn) (wNt tp tn) m (rdT (tK tp tn) (wNt tp tn) 25 [] 0) h1 ∧ FWr (pn h) h h1 ∧ (∀ j, j ≤ m → pI h1 476 j = nI (tP tp tn j)) ∧ pn h1 ≤ pn h + 28 ∧ ps h1 ≤ ps h + 7700 ∧ ((rdT (tK tp tn) (wNt tp tn) 25 [] 0).1 = 0 → Sp d mX2_read [.ref 472, .ref 487, .int (nI tn)] h (some (.ref (pn h))) h1) ∧ (¬ (rdT (tK tp tn) (wNt tp tn) 25 [] 0).1 = 0 → Sp d mX2_read [.ref 472, .ref 487, .int (nI tn)] h (some .null) h1) := by
  obtain ⟨m, h7, m1, q7, f7, e7, pn7, ps7, t7⟩ := rd_start (d := d) cr tb n3 h5 z0 hd
  obtain ⟨h8, k8, q8, f8, p8, b8, t8⟩ := l_read (d := d) (tl := nI tn) (by omega) 25 [] 0 _ 0 rfl (Nat.zero_le _) rfl (fun p hp => absurd hp List.not_mem_nil) (Nat.le_refl _) q7
  have z9 := rdT_z (K := (tK tp tn)) (W := (wNt tp tn)) 25 [] 0
  have nc5 : nC 5 ≤ 10 := by decide
  have nc4 : nC 4 ≤ 10 := by decide
  refine ⟨m, h8, m1, q8, ⟨f7.1.tr f8.1, Nat.le_trans f7.2.1 f8.2.1, fun k hk => ⟨?_, fun k1 => ?_, fun j hj => ?_⟩⟩, fun j hj => ?_, by rw [pn7] at p8; omega, by rw [ps7] at b8; omega, ?_, ?_⟩
  · rw [(f8.2.2 k hk).1]; exact (f7.2.2 k hk).1
  · rw [(f8.2.2 k hk).2.1 (by omega) (by omega)]; exact (f7.2.2 k hk).2.1 k1
  · rw [(f8.2.2 k hk).2.2 j hj]; exact (f7.2.2 k hk).2.2 j hj
  · rw [(f8.2.2 476 (by omega)).2.1 (by omega) (by omega)]; exact e7 j hj
  · intro hz N S Q hN hS hQ
    refine t7 N S Q (Nat.le_trans f8.1.1 hN) (Nat.le_trans f8.2.1 hS) (t8 N S Q hN hS ?_)
    refine z_aload_n dX2_read_68 rfl rfl ?_
    refine y_getI FX2_40 dX2_read_69 (Or.inl rfl) q8.1.1.1.1 ?_
    refine z_eqi (y := nI ((rdT (tK tp tn) (wNt tp tn) 25 [] 0).1)) q8.1.2.2.2.2.2.2.2.1 ?_
    refine z_if_ne dX2_read_72 rfl (fun c => absurd (congrArg nI hz) c) (fun _ => ?_)
    refine z_aload_n dX2_read_75 rfl rfl ?_
    refine y_getR FX2_25 dX2_read_76 rfl q8.1.1.1.1 q8.2.1 ?_
    refine z_goto dX2_read_79 rfl ?_
    refine z_aret dX2_read_83 ?_
    exact hQ
  · intro hz N S Q hN hS hQ
    refine t7 N S Q (Nat.le_trans f8.1.1 hN) (Nat.le_trans f8.2.1 hS) (t8 N S Q hN hS ?_)
    refine z_aload_n dX2_read_68 rfl rfl ?_
    refine y_getI FX2_40 dX2_read_69 (Or.inl rfl) q8.1.1.1.1 ?_
    refine z_eqi (y := nI ((rdT (tK tp tn) (wNt tp tn) 25 [] 0).1)) q8.1.2.2.2.2.2.2.2.1 ?_
    refine z_if_ne dX2_read_72 rfl (fun _ => ?_) (fun c => absurd c (fun w => hz ((nI_eq (b := 0) (by omega) (by omega)).mp w)))
    refine z_null dX2_read_82 ?_
    refine z_aretN dX2_read_83 ?_
    exact hQ

