/-! the reference's next token, whole; its words (walks by program: wip/whole/gen98.py) -/
def NTK (s : Ms) (p : Nat) (h : Hp) : Prop := pI h 488 7 = nI (tkE (TPs s) (TNs s) p) ∧ pI h 488 8 = nI p ∧ pI h 488 9 = nI (rtk (TPs s) (TNs s) p) ∧ (p < TNs s → isL (TPs s p) = true → pJ h 488 11 = lN (spR (TPs s) p (tkE (TPs s) (TNs s) p - p))) ∧ (p < TNs s → isD (TPs s p) = true → pI h 488 10 = nI (nmR (TPs s) p (tkE (TPs s) (TNs s) p - p)))
theorem isLD {c : Nat} (h : isD c = true) : isL c = false := by
  have := isD_b.mp h
  cases q : isL c
  · rfl
  · have := isL_b q; omega

theorem r_nt_0 {s : Ms} {h1 : Hp} {d p : Nat} (r1 : RM s h1) (ht : ITp s) (e7 : pI h1 488 7 = nI p) (hd : 1 ≤ d) (hp : p ≤ 300) (he : TNs s ≤ p) : ∃ h2, FN h1 h2 ∧ NTK s p h2 ∧ ∀ (o1 : Option Value) (N S : Nat) (Q : Option Value → Hp → Prop), pn h1 ≤ N → ps h1 ≤ S → Q none h2 → T d N S mX9_nextToken 39 [some (.ref 488), o1] [] h1 Q := by
  have n3 : TNs s ≤ 300 := ht.1
  have bb : ∀ k, k < TNs s → TPs s k < 256 := fun k hk => ht.2 k (by omega)
  have f8 : FN h1 (sI h1 488 8 (nI p)) := FN.rf.sI (by omega)
  have r8 := f8.rm r1
  have ba : bA (TPs s) (TNs s) p = -1 := if_neg (by omega)
  refine ⟨sI (sI h1 488 8 (nI p)) 488 9 0, f8.sI (by omega), ⟨?_, ?_, ?_, fun q => by omega, fun q => by omega⟩, fun o1 N S Q hN1 hS1 hQ => ?_⟩
  · rw [pI_sI, if_pos rfl, if_neg (by omega), pI_sI, if_pos rfl, if_neg (by omega), e7, show tkE (TPs s) (TNs s) p = p from if_pos he]
  · rw [pI_sI, if_pos rfl, if_neg (by omega), pI_sI, if_pos rfl, if_pos rfl]
  · rw [pI_sI, if_pos rfl, if_pos rfl, show rtk (TPs s) (TNs s) p = 0 from if_pos he]; rfl
  refine z_aload_n dX9_nextToken_39 rfl rfl ?_
  refine z_aload_n dX9_nextToken_40 rfl rfl ?_
  refine y_getI FX9_96 dX9_nextToken_41 (Or.inl rfl) r1.m.o ?_
  refine z_eqi (y := nI (p)) (show _ = nI p by first | exact e7 | (rw [pI_sI, if_pos rfl, if_neg (by omega)]; exact e7) | (rw [pI_sI, if_pos rfl, if_neg (by omega), pI_sI, if_pos rfl, if_neg (by omega)]; exact e7)) ?_
  refine y_putI FX9_103 dX9_nextToken_44 (Or.inl rfl) (Or.inl rfl) r1.m.o ?_
  refine z_aload_n dX9_nextToken_47 rfl rfl ?_
  refine z_aload_n dX9_nextToken_48 rfl rfl ?_
  refine y_getI FX9_96 dX9_nextToken_49 (Or.inl rfl) r1.m.o ?_
  refine z_eqi (y := nI (p)) (show _ = nI p by first | exact e7 | (rw [pI_sI, if_pos rfl, if_neg (by omega)]; exact e7) | (rw [pI_sI, if_pos rfl, if_neg (by omega), pI_sI, if_pos rfl, if_neg (by omega)]; exact e7)) ?_
  refine y_callV (as := [_]) CX9_byteAt LX9_99 IX9_byteAt VX9_byteAt ⟨rfl, Nat.le_of_ble_eq_true rfl⟩ dX9_nextToken_52 r1.m.o rfl (Nat.le_of_ble_eq_true rfl) (Nat.le_of_ble_eq_true rfl) (by omega) (r_byteAt (d := 0) (k := p) r8 ht (by omega)) rok_i ⟨Nat.le_refl _, Nat.le_refl _, hN1, hS1⟩ ?_
  refine z_eqi ba ?_
  refine z_istore_n dX9_nextToken_55 rfl (Nat.le_of_ble_eq_true rfl) ?_
  refine z_iload_n dX9_nextToken_56 rfl rfl ?_
  refine z_if_ge dX9_nextToken_57 rfl (fun c => absurd c (by decide)) (fun _ => ?_)
  refine z_aload_n dX9_nextToken_60 rfl rfl ?_
  refine z_iconst (v := 0) dX9_nextToken_61 (by decide) ?_
  refine y_putI FX9_106 dX9_nextToken_62 (Or.inl rfl) (Or.inl rfl) r1.m.o ?_
  refine z_goto dX9_nextToken_65 rfl ?_
  refine z_vret dX9_nextToken_310 ?_
  exact hQ

theorem r_nt_1 {s : Ms} {h1 : Hp} {d p : Nat} (r1 : RM s h1) (ht : ITp s) (e7 : pI h1 488 7 = nI p) (hd : 1 ≤ d) (hp : p < TNs s) (hD : isD (TPs s p) = true) : ∃ h2, FN h1 h2 ∧ NTK s p h2 ∧ ∀ (o1 : Option Value) (N S : Nat) (Q : Option Value → Hp → Prop), pn h1 ≤ N → ps h1 ≤ S → Q none h2 → T d N S mX9_nextToken 39 [some (.ref 488), o1] [] h1 Q := by
  have n3 : TNs s ≤ 300 := ht.1
  have bb : ∀ k, k < TNs s → TPs s k < 256 := fun k hk => ht.2 k (by omega)
  have f8 : FN h1 (sI h1 488 8 (nI p)) := FN.rf.sI (by omega)
  have r8 := f8.rm r1
  have hb := bb p (by omega)
  have ba : bA (TPs s) (TNs s) p = nI (TPs s p) := if_pos (by omega)
  have figN := r_isFigureN (h := (sI h1 488 8 (nI p))) (d := 0) (c := TPs s p) hb
  have letN := r_isLetterN (h := (sI h1 488 8 (nI p))) (d := 0) (c := TPs s p) hb
  have sgN := r_isSign (h := (sI h1 488 8 (nI p))) (d := 0) (c := TPs s p) hb
  have hL := isLD hD
  have fd : FN h1 (sI (sI (sI h1 488 8 (nI p)) 488 9 1) 488 10 0) := (f8.sI (by omega)).sI (by omega)
  obtain ⟨h2, k1, k2, k3, k4, k5, K⟩ := r_nt_dig (h := (sI (sI (sI h1 488 8 (nI p)) 488 9 1) 488 10 0)) (d := d) (p := p) (fd.rm r1) ht (TNs s - p) p (sI (sI (sI h1 488 8 (nI p)) 488 9 1) 488 10 0) rfl (Nat.le_refl _) (by omega) (fun j q1 q2 => by omega) FN.rf (by rw [pI_sI, if_pos rfl, if_neg (by omega), pI_sI, if_pos rfl, if_neg (by omega), pI_sI, if_pos rfl, if_neg (by omega)]; exact e7) (by rw [pI_sI, if_pos rfl, if_pos rfl, Nat.sub_self]; rfl)
  have ee : tkE (TPs s) (TNs s) p = rnF isD (TPs s) (TNs s) p := by
    unfold tkE
    rw [if_neg (by omega), if_neg (by rw [hL]; decide), if_pos hD]
  refine ⟨h2, fd.tr k1, ⟨by rw [ee]; exact k2, ?_, ?_, fun _ q => by rw [hL] at q; exact absurd q (by decide), fun _ _ => by rw [ee]; exact k3⟩, fun o1 N S Q hN1 hS1 hQ => ?_⟩
  · rw [k4, pI_sI, if_pos rfl, if_neg (by omega), pI_sI, if_pos rfl, if_neg (by omega), pI_sI, if_pos rfl, if_pos rfl]
  · rw [k5, pI_sI, if_pos rfl, if_neg (by omega), pI_sI, if_pos rfl, if_pos rfl, show rtk (TPs s) (TNs s) p = 1 by unfold rtk; rw [if_neg (by omega), if_neg (by rw [hL]; decide), if_pos hD]]; rfl
  refine z_aload_n dX9_nextToken_39 rfl rfl ?_
  refine z_aload_n dX9_nextToken_40 rfl rfl ?_
  refine y_getI FX9_96 dX9_nextToken_41 (Or.inl rfl) r1.m.o ?_
  refine z_eqi (y := nI (p)) (show _ = nI p by first | exact e7 | (rw [pI_sI, if_pos rfl, if_neg (by omega)]; exact e7) | (rw [pI_sI, if_pos rfl, if_neg (by omega), pI_sI, if_pos rfl, if_neg (by omega)]; exact e7)) ?_
  refine y_putI FX9_103 dX9_nextToken_44 (Or.inl rfl) (Or.inl rfl) r1.m.o ?_
  refine z_aload_n dX9_nextToken_47 rfl rfl ?_
  refine z_aload_n dX9_nextToken_48 rfl rfl ?_
  refine y_getI FX9_96 dX9_nextToken_49 (Or.inl rfl) r1.m.o ?_
  refine z_eqi (y := nI (p)) (show _ = nI p by first | exact e7 | (rw [pI_sI, if_pos rfl, if_neg (by omega)]; exact e7) | (rw [pI_sI, if_pos rfl, if_neg (by omega), pI_sI, if_pos rfl, if_neg (by omega)]; exact e7)) ?_
  refine y_callV (as := [_]) CX9_byteAt LX9_99 IX9_byteAt VX9_byteAt ⟨rfl, Nat.le_of_ble_eq_true rfl⟩ dX9_nextToken_52 r1.m.o rfl (Nat.le_of_ble_eq_true rfl) (Nat.le_of_ble_eq_true rfl) (by omega) (r_byteAt (d := 0) (k := p) r8 ht (by omega)) rok_i ⟨Nat.le_refl _, Nat.le_refl _, hN1, hS1⟩ ?_
  refine z_eqi ba ?_
  refine z_istore_n dX9_nextToken_55 rfl (Nat.le_of_ble_eq_true rfl) ?_
  refine z_iload_n dX9_nextToken_56 rfl rfl ?_
  refine z_if_ge dX9_nextToken_57 rfl (fun _ => ?_) (fun c => absurd (nI_pos' (by omega)) c)
  refine z_iload_n dX9_nextToken_68 rfl rfl ?_
  refine y_callS (as := [_]) CX9_isFigure LX9_109 SX9_isFigure dX9_nextToken_69 rfl (Nat.le_of_ble_eq_true rfl) (Nat.le_of_ble_eq_true rfl) (by omega) figN (rok_z bI_01) ⟨Nat.le_refl _, Nat.le_refl _, hN1, hS1⟩ ?_
  refine z_if_eq dX9_nextToken_72 rfl (fun c => absurd c (bI_ne0.mpr hD)) (fun _ => ?_)
  refine z_aload_n dX9_nextToken_75 rfl rfl ?_
  refine z_iconst (v := 1) dX9_nextToken_76 (by decide) ?_
  refine y_putI FX9_106 dX9_nextToken_77 (Or.inl rfl) (Or.inl rfl) r1.m.o ?_
  refine z_aload_n dX9_nextToken_80 rfl rfl ?_
  refine z_iconst (v := 0) dX9_nextToken_81 (by decide) ?_
  refine y_putI FX9_112 dX9_nextToken_82 (Or.inl rfl) (Or.inl rfl) r1.m.o ?_
  exact K _ N S Q hN1 hS1 hd hQ

theorem r_nt_2 {s : Ms} {h1 : Hp} {d p : Nat} (r1 : RM s h1) (ht : ITp s) (e7 : pI h1 488 7 = nI p) (hd : 1 ≤ d) (hp : p < TNs s) (hL : isL (TPs s p) = true) : ∃ h2, FN h1 h2 ∧ NTK s p h2 ∧ ∀ (o1 : Option Value) (N S : Nat) (Q : Option Value → Hp → Prop), pn h1 ≤ N → ps h1 ≤ S → Q none h2 → T d N S mX9_nextToken 39 [some (.ref 488), o1] [] h1 Q := by
  have n3 : TNs s ≤ 300 := ht.1
  have bb : ∀ k, k < TNs s → TPs s k < 256 := fun k hk => ht.2 k (by omega)
  have f8 : FN h1 (sI h1 488 8 (nI p)) := FN.rf.sI (by omega)
  have r8 := f8.rm r1
  have hb := bb p (by omega)
  have ba : bA (TPs s) (TNs s) p = nI (TPs s p) := if_pos (by omega)
  have figN := r_isFigureN (h := (sI h1 488 8 (nI p))) (d := 0) (c := TPs s p) hb
  have letN := r_isLetterN (h := (sI h1 488 8 (nI p))) (d := 0) (c := TPs s p) hb
  have sgN := r_isSign (h := (sI h1 488 8 (nI p))) (d := 0) (c := TPs s p) hb
  have hD : ¬ isD (TPs s p) = true := fun q => by rw [isLD q] at hL; exact absurd hL (by decide)
  have fd : FN h1 (sJ (sI (sI h1 488 8 (nI p)) 488 9 2) 488 11 0) := (f8.sI (by omega)).sJ
  obtain ⟨h2, k1, k2, k3, k4, k5, K⟩ := r_nt_let (h := (sJ (sI (sI h1 488 8 (nI p)) 488 9 2) 488 11 0)) (d := d) (p := p) (fd.rm r1) ht (TNs s - p) p (sJ (sI (sI h1 488 8 (nI p)) 488 9 2) 488 11 0) rfl (Nat.le_refl _) (by omega) (fun j q1 q2 => by omega) FN.rf (by rw [pI_sJ, pI_sI, if_pos rfl, if_neg (by omega), pI_sI, if_pos rfl, if_neg (by omega)]; exact e7) (by rw [pJ_sJ, if_pos rfl, if_pos rfl, Nat.sub_self]; rfl)
  have ee : tkE (TPs s) (TNs s) p = rnF isL (TPs s) (TNs s) p := by
    unfold tkE
    rw [if_neg (by omega), if_pos hL]
  refine ⟨h2, fd.tr k1, ⟨by rw [ee]; exact k2, ?_, ?_, fun _ _ => by rw [ee]; exact k3, fun _ q => absurd q hD⟩, fun o1 N S Q hN1 hS1 hQ => ?_⟩
  · rw [k4, pI_sJ, pI_sI, if_pos rfl, if_neg (by omega), pI_sI, if_pos rfl, if_pos rfl]
  · rw [k5, pI_sJ, pI_sI, if_pos rfl, if_pos rfl, show rtk (TPs s) (TNs s) p = 2 by unfold rtk; rw [if_neg (by omega), if_pos hL]]; rfl
  refine z_aload_n dX9_nextToken_39 rfl rfl ?_
  refine z_aload_n dX9_nextToken_40 rfl rfl ?_
  refine y_getI FX9_96 dX9_nextToken_41 (Or.inl rfl) r1.m.o ?_
  refine z_eqi (y := nI (p)) (show _ = nI p by first | exact e7 | (rw [pI_sI, if_pos rfl, if_neg (by omega)]; exact e7) | (rw [pI_sI, if_pos rfl, if_neg (by omega), pI_sI, if_pos rfl, if_neg (by omega)]; exact e7)) ?_
  refine y_putI FX9_103 dX9_nextToken_44 (Or.inl rfl) (Or.inl rfl) r1.m.o ?_
  refine z_aload_n dX9_nextToken_47 rfl rfl ?_
  refine z_aload_n dX9_nextToken_48 rfl rfl ?_
  refine y_getI FX9_96 dX9_nextToken_49 (Or.inl rfl) r1.m.o ?_
  refine z_eqi (y := nI (p)) (show _ = nI p by first | exact e7 | (rw [pI_sI, if_pos rfl, if_neg (by omega)]; exact e7) | (rw [pI_sI, if_pos rfl, if_neg (by omega), pI_sI, if_pos rfl, if_neg (by omega)]; exact e7)) ?_
  refine y_callV (as := [_]) CX9_byteAt LX9_99 IX9_byteAt VX9_byteAt ⟨rfl, Nat.le_of_ble_eq_true rfl⟩ dX9_nextToken_52 r1.m.o rfl (Nat.le_of_ble_eq_true rfl) (Nat.le_of_ble_eq_true rfl) (by omega) (r_byteAt (d := 0) (k := p) r8 ht (by omega)) rok_i ⟨Nat.le_refl _, Nat.le_refl _, hN1, hS1⟩ ?_
  refine z_eqi ba ?_
  refine z_istore_n dX9_nextToken_55 rfl (Nat.le_of_ble_eq_true rfl) ?_
  refine z_iload_n dX9_nextToken_56 rfl rfl ?_
  refine z_if_ge dX9_nextToken_57 rfl (fun _ => ?_) (fun c => absurd (nI_pos' (by omega)) c)
  refine z_iload_n dX9_nextToken_68 rfl rfl ?_
  refine y_callS (as := [_]) CX9_isFigure LX9_109 SX9_isFigure dX9_nextToken_69 rfl (Nat.le_of_ble_eq_true rfl) (Nat.le_of_ble_eq_true rfl) (by omega) figN (rok_z bI_01) ⟨Nat.le_refl _, Nat.le_refl _, hN1, hS1⟩ ?_
  refine z_if_eq dX9_nextToken_72 rfl (fun _ => ?_) (fun c => absurd (bI_eq0.mpr hD) c)
  refine z_iload_n dX9_nextToken_151 rfl rfl ?_
  refine y_callS (as := [_]) CX9_isLetterByte LX9_116 SX9_isLetterByte dX9_nextToken_152 rfl (Nat.le_of_ble_eq_true rfl) (Nat.le_of_ble_eq_true rfl) (by omega) letN (rok_z bI_01) ⟨Nat.le_refl _, Nat.le_refl _, hN1, hS1⟩ ?_
  refine z_if_eq dX9_nextToken_155 rfl (fun c => absurd c (bI_ne0.mpr hL)) (fun _ => ?_)
  refine z_aload_n dX9_nextToken_158 rfl rfl ?_
  refine z_iconst (v := 2) dX9_nextToken_159 (by decide) ?_
  refine y_putI FX9_106 dX9_nextToken_160 (Or.inl rfl) (Or.inl rfl) r1.m.o ?_
  refine z_aload_n dX9_nextToken_163 rfl rfl ?_
  refine z_lconst (v := 0) dX9_nextToken_164 (by decide) ?_
  refine y_putJ FX9_119 dX9_nextToken_165 (Or.inl rfl) rfl r1.m.o ?_
  exact K _ N S Q hN1 hS1 hd hQ

theorem r_nt_30 {s : Ms} {h1 : Hp} {d p : Nat} (r1 : RM s h1) (ht : ITp s) (e7 : pI h1 488 7 = nI p) (hd : 1 ≤ d) (hp : p < TNs s) (hL : isL (TPs s p) = false) (hD : isD (TPs s p) = false) (hs : ¬ sgK (TPs s p) = 53) (h60 : ¬ TPs s p = 60) (h62 : ¬ TPs s p = 62) (h2n : ¬ two2 (TPs s) (TNs s) p) : ∃ h2, FN h1 h2 ∧ NTK s p h2 ∧ ∀ (o1 : Option Value) (N S : Nat) (Q : Option Value → Hp → Prop), pn h1 ≤ N → ps h1 ≤ S → Q none h2 → T d N S mX9_nextToken 39 [some (.ref 488), o1] [] h1 Q := by
  have n3 : TNs s ≤ 300 := ht.1
  have bb : ∀ k, k < TNs s → TPs s k < 256 := fun k hk => ht.2 k (by omega)
  have f8 : FN h1 (sI h1 488 8 (nI p)) := FN.rf.sI (by omega)
  have r8 := f8.rm r1
  have hb := bb p (by omega)
  have ba : bA (TPs s) (TNs s) p = nI (TPs s p) := if_pos (by omega)
  have figN := r_isFigureN (h := (sI h1 488 8 (nI p))) (d := 0) (c := TPs s p) hb
  have letN := r_isLetterN (h := (sI h1 488 8 (nI p))) (d := 0) (c := TPs s p) hb
  have sgN := r_isSign (h := (sI h1 488 8 (nI p))) (d := 0) (c := TPs s p) hb
  have te0 : tkE (TPs s) (TNs s) p = if two2 (TPs s) (TNs s) p then p + 2 else p + 1 := by
    unfold tkE
    rw [if_neg (by omega), if_neg (by rw [hL]; decide), if_neg (by rw [hD]; decide)]
  have tr0 : rtk (TPs s) (TNs s) p = if two2 (TPs s) (TNs s) p then (if TPs s p = 60 then 4 else 5) else if sgK (TPs s p) = 53 then 3 else TPs s p := by
    unfold rtk
    rw [if_neg (by omega), if_neg (by rw [hL]; decide), if_neg (by rw [hD]; decide)]
  have nL : ¬ isL (TPs s p) = true := by rw [hL]; decide
  have nD : ¬ isD (TPs s p) = true := by rw [hD]; decide
  have te : tkE (TPs s) (TNs s) p = p + 1 := by rw [te0, if_neg h2n]
  have tr : rtk (TPs s) (TNs s) p = TPs s p := by rw [tr0, if_neg h2n, if_neg hs]
  have f9 : FN h1 (sI (sI (sI h1 488 8 (nI p)) 488 9 (nI (TPs s p))) 488 7 (nI (p + 1))) := (f8.sI (by omega)).sI (by omega)
  have r9 := f9.rm r1
  refine ⟨(sI (sI (sI h1 488 8 (nI p)) 488 9 (nI (TPs s p))) 488 7 (nI (p + 1))), f9, ⟨?_, ?_, ?_, fun _ q => absurd q nL, fun _ q => absurd q nD⟩, fun o1 N S Q hN1 hS1 hQ => ?_⟩
  · rw [pI_sI, if_pos rfl, if_pos rfl, show tkE (TPs s) (TNs s) p = p + 1 from te]
  · rw [pI_sI, if_pos rfl, if_neg (by omega), pI_sI, if_pos rfl, if_neg (by omega), pI_sI, if_pos rfl, if_pos rfl]
  · rw [pI_sI, if_pos rfl, if_neg (by omega), pI_sI, if_pos rfl, if_pos rfl, show rtk (TPs s) (TNs s) p = TPs s p from tr]
  refine z_aload_n dX9_nextToken_39 rfl rfl ?_
  refine z_aload_n dX9_nextToken_40 rfl rfl ?_
  refine y_getI FX9_96 dX9_nextToken_41 (Or.inl rfl) r1.m.o ?_
  refine z_eqi (y := nI (p)) (show _ = nI p by first | exact e7 | (rw [pI_sI, if_pos rfl, if_neg (by omega)]; exact e7) | (rw [pI_sI, if_pos rfl, if_neg (by omega), pI_sI, if_pos rfl, if_neg (by omega)]; exact e7)) ?_
  refine y_putI FX9_103 dX9_nextToken_44 (Or.inl rfl) (Or.inl rfl) r1.m.o ?_
  refine z_aload_n dX9_nextToken_47 rfl rfl ?_
  refine z_aload_n dX9_nextToken_48 rfl rfl ?_
  refine y_getI FX9_96 dX9_nextToken_49 (Or.inl rfl) r1.m.o ?_
  refine z_eqi (y := nI (p)) (show _ = nI p by first | exact e7 | (rw [pI_sI, if_pos rfl, if_neg (by omega)]; exact e7) | (rw [pI_sI, if_pos rfl, if_neg (by omega), pI_sI, if_pos rfl, if_neg (by omega)]; exact e7)) ?_
  refine y_callV (as := [_]) CX9_byteAt LX9_99 IX9_byteAt VX9_byteAt ⟨rfl, Nat.le_of_ble_eq_true rfl⟩ dX9_nextToken_52 r1.m.o rfl (Nat.le_of_ble_eq_true rfl) (Nat.le_of_ble_eq_true rfl) (by omega) (r_byteAt (d := 0) (k := p) r8 ht (by omega)) rok_i ⟨Nat.le_refl _, Nat.le_refl _, hN1, hS1⟩ ?_
  refine z_eqi ba ?_
  refine z_istore_n dX9_nextToken_55 rfl (Nat.le_of_ble_eq_true rfl) ?_
  refine z_iload_n dX9_nextToken_56 rfl rfl ?_
  refine z_if_ge dX9_nextToken_57 rfl (fun _ => ?_) (fun c => absurd (nI_pos' (by omega)) c)
  refine z_iload_n dX9_nextToken_68 rfl rfl ?_
  refine y_callS (as := [_]) CX9_isFigure LX9_109 SX9_isFigure dX9_nextToken_69 rfl (Nat.le_of_ble_eq_true rfl) (Nat.le_of_ble_eq_true rfl) (by omega) figN (rok_z bI_01) ⟨Nat.le_refl _, Nat.le_refl _, hN1, hS1⟩ ?_
  refine z_if_eq dX9_nextToken_72 rfl (fun _ => ?_) (fun c => absurd (bI_eq0.mpr nD) c)
  refine z_iload_n dX9_nextToken_151 rfl rfl ?_
  refine y_callS (as := [_]) CX9_isLetterByte LX9_116 SX9_isLetterByte dX9_nextToken_152 rfl (Nat.le_of_ble_eq_true rfl) (Nat.le_of_ble_eq_true rfl) (by omega) letN (rok_z bI_01) ⟨Nat.le_refl _, Nat.le_refl _, hN1, hS1⟩ ?_
  refine z_if_eq dX9_nextToken_155 rfl (fun _ => ?_) (fun c => absurd (bI_eq0.mpr nL) c)
  refine z_aload_n dX9_nextToken_234 rfl rfl ?_
  refine z_iload_n dX9_nextToken_235 rfl rfl ?_
  refine y_callS (as := [_]) CX9_isSign LX9_125 SX9_isSign dX9_nextToken_236 rfl (Nat.le_of_ble_eq_true rfl) (Nat.le_of_ble_eq_true rfl) (by omega) sgN (rok_z bI_01) ⟨Nat.le_refl _, Nat.le_refl _, hN1, hS1⟩ ?_
  refine z_if_eq dX9_nextToken_239 rfl (fun c => absurd c (bI_ne0.mpr hs)) (fun _ => ?_)
  refine z_iload_n dX9_nextToken_242 rfl rfl ?_
  refine z_goto dX9_nextToken_243 rfl ?_
  refine y_putI FX9_106 dX9_nextToken_247 (Or.inl rfl) (Or.inl rfl) r1.m.o ?_
  refine z_aload_n dX9_nextToken_250 rfl rfl ?_
  refine z_dup dX9_nextToken_251 rfl ?_
  refine y_getI FX9_96 dX9_nextToken_252 (Or.inl rfl) r1.m.o ?_
  refine z_eqi (y := nI (p)) (show _ = nI p by first | exact e7 | (rw [pI_sI, if_pos rfl, if_neg (by omega)]; exact e7) | (rw [pI_sI, if_pos rfl, if_neg (by omega), pI_sI, if_pos rfl, if_neg (by omega)]; exact e7)) ?_
  refine z_iconst (v := 1) dX9_nextToken_255 (by decide) ?_
  refine z_iadd dX9_nextToken_256 ?_
  refine z_eqi (nI_1 p) ?_
  refine y_putI FX9_96 dX9_nextToken_257 (Or.inl rfl) (Or.inl rfl) r1.m.o ?_
  refine z_iload_n dX9_nextToken_260 rfl rfl ?_
  refine z_bipush (v := 60) dX9_nextToken_261 (by decide) ?_
  refine z_icmp_eq dX9_nextToken_263 rfl (fun c => absurd c (fun q => h60 ((nI_eq (b := 60) (by omega) (by omega)).mp q))) (fun _ => ?_)
  refine z_iload_n dX9_nextToken_266 rfl rfl ?_
  refine z_bipush (v := 62) dX9_nextToken_267 (by decide) ?_
  refine z_icmp_ne dX9_nextToken_269 rfl (fun _ => ?_) (fun c => absurd c (fun q => h62 ((nI_eq (b := 62) (by omega) (by omega)).mp q)))
  refine z_vret dX9_nextToken_310 ?_
  exact hQ

theorem r_nt_31 {s : Ms} {h1 : Hp} {d p : Nat} (r1 : RM s h1) (ht : ITp s) (e7 : pI h1 488 7 = nI p) (hd : 1 ≤ d) (hp : p < TNs s) (hL : isL (TPs s p) = false) (hD : isD (TPs s p) = false) (hs : sgK (TPs s p) = 53) (h60 : ¬ TPs s p = 60) (h62 : ¬ TPs s p = 62) (h2n : ¬ two2 (TPs s) (TNs s) p) : ∃ h2, FN h1 h2 ∧ NTK s p h2 ∧ ∀ (o1 : Option Value) (N S : Nat) (Q : Option Value → Hp → Prop), pn h1 ≤ N → ps h1 ≤ S → Q none h2 → T d N S mX9_nextToken 39 [some (.ref 488), o1] [] h1 Q := by
  have n3 : TNs s ≤ 300 := ht.1
  have bb : ∀ k, k < TNs s → TPs s k < 256 := fun k hk => ht.2 k (by omega)
  have f8 : FN h1 (sI h1 488 8 (nI p)) := FN.rf.sI (by omega)
  have r8 := f8.rm r1
  have hb := bb p (by omega)
  have ba : bA (TPs s) (TNs s) p = nI (TPs s p) := if_pos (by omega)
  have figN := r_isFigureN (h := (sI h1 488 8 (nI p))) (d := 0) (c := TPs s p) hb
  have letN := r_isLetterN (h := (sI h1 488 8 (nI p))) (d := 0) (c := TPs s p) hb
  have sgN := r_isSign (h := (sI h1 488 8 (nI p))) (d := 0) (c := TPs s p) hb
  have te0 : tkE (TPs s) (TNs s) p = if two2 (TPs s) (TNs s) p then p + 2 else p + 1 := by
    unfold tkE
    rw [if_neg (by omega), if_neg (by rw [hL]; decide), if_neg (by rw [hD]; decide)]
  have tr0 : rtk (TPs s) (TNs s) p = if two2 (TPs s) (TNs s) p then (if TPs s p = 60 then 4 else 5) else if sgK (TPs s p) = 53 then 3 else TPs s p := by
    unfold rtk
    rw [if_neg (by omega), if_neg (by rw [hL]; decide), if_neg (by rw [hD]; decide)]
  have nL : ¬ isL (TPs s p) = true := by rw [hL]; decide
  have nD : ¬ isD (TPs s p) = true := by rw [hD]; decide
  have te : tkE (TPs s) (TNs s) p = p + 1 := by rw [te0, if_neg h2n]
  have tr : rtk (TPs s) (TNs s) p = 3 := by rw [tr0, if_neg h2n, if_pos hs]
  have f9 : FN h1 (sI (sI (sI h1 488 8 (nI p)) 488 9 (nI 3)) 488 7 (nI (p + 1))) := (f8.sI (by omega)).sI (by omega)
  have r9 := f9.rm r1
  refine ⟨(sI (sI (sI h1 488 8 (nI p)) 488 9 (nI 3)) 488 7 (nI (p + 1))), f9, ⟨?_, ?_, ?_, fun _ q => absurd q nL, fun _ q => absurd q nD⟩, fun o1 N S Q hN1 hS1 hQ => ?_⟩
  · rw [pI_sI, if_pos rfl, if_pos rfl, show tkE (TPs s) (TNs s) p = p + 1 from te]
  · rw [pI_sI, if_pos rfl, if_neg (by omega), pI_sI, if_pos rfl, if_neg (by omega), pI_sI, if_pos rfl, if_pos rfl]
  · rw [pI_sI, if_pos rfl, if_neg (by omega), pI_sI, if_pos rfl, if_pos rfl, show rtk (TPs s) (TNs s) p = 3 from tr]
  refine z_aload_n dX9_nextToken_39 rfl rfl ?_
  refine z_aload_n dX9_nextToken_40 rfl rfl ?_
  refine y_getI FX9_96 dX9_nextToken_41 (Or.inl rfl) r1.m.o ?_
  refine z_eqi (y := nI (p)) (show _ = nI p by first | exact e7 | (rw [pI_sI, if_pos rfl, if_neg (by omega)]; exact e7) | (rw [pI_sI, if_pos rfl, if_neg (by omega), pI_sI, if_pos rfl, if_neg (by omega)]; exact e7)) ?_
  refine y_putI FX9_103 dX9_nextToken_44 (Or.inl rfl) (Or.inl rfl) r1.m.o ?_
  refine z_aload_n dX9_nextToken_47 rfl rfl ?_
  refine z_aload_n dX9_nextToken_48 rfl rfl ?_
  refine y_getI FX9_96 dX9_nextToken_49 (Or.inl rfl) r1.m.o ?_
  refine z_eqi (y := nI (p)) (show _ = nI p by first | exact e7 | (rw [pI_sI, if_pos rfl, if_neg (by omega)]; exact e7) | (rw [pI_sI, if_pos rfl, if_neg (by omega), pI_sI, if_pos rfl, if_neg (by omega)]; exact e7)) ?_
  refine y_callV (as := [_]) CX9_byteAt LX9_99 IX9_byteAt VX9_byteAt ⟨rfl, Nat.le_of_ble_eq_true rfl⟩ dX9_nextToken_52 r1.m.o rfl (Nat.le_of_ble_eq_true rfl) (Nat.le_of_ble_eq_true rfl) (by omega) (r_byteAt (d := 0) (k := p) r8 ht (by omega)) rok_i ⟨Nat.le_refl _, Nat.le_refl _, hN1, hS1⟩ ?_
  refine z_eqi ba ?_
  refine z_istore_n dX9_nextToken_55 rfl (Nat.le_of_ble_eq_true rfl) ?_
  refine z_iload_n dX9_nextToken_56 rfl rfl ?_
  refine z_if_ge dX9_nextToken_57 rfl (fun _ => ?_) (fun c => absurd (nI_pos' (by omega)) c)
  refine z_iload_n dX9_nextToken_68 rfl rfl ?_
  refine y_callS (as := [_]) CX9_isFigure LX9_109 SX9_isFigure dX9_nextToken_69 rfl (Nat.le_of_ble_eq_true rfl) (Nat.le_of_ble_eq_true rfl) (by omega) figN (rok_z bI_01) ⟨Nat.le_refl _, Nat.le_refl _, hN1, hS1⟩ ?_
  refine z_if_eq dX9_nextToken_72 rfl (fun _ => ?_) (fun c => absurd (bI_eq0.mpr nD) c)
  refine z_iload_n dX9_nextToken_151 rfl rfl ?_
  refine y_callS (as := [_]) CX9_isLetterByte LX9_116 SX9_isLetterByte dX9_nextToken_152 rfl (Nat.le_of_ble_eq_true rfl) (Nat.le_of_ble_eq_true rfl) (by omega) letN (rok_z bI_01) ⟨Nat.le_refl _, Nat.le_refl _, hN1, hS1⟩ ?_
  refine z_if_eq dX9_nextToken_155 rfl (fun _ => ?_) (fun c => absurd (bI_eq0.mpr nL) c)
  refine z_aload_n dX9_nextToken_234 rfl rfl ?_
  refine z_iload_n dX9_nextToken_235 rfl rfl ?_
  refine y_callS (as := [_]) CX9_isSign LX9_125 SX9_isSign dX9_nextToken_236 rfl (Nat.le_of_ble_eq_true rfl) (Nat.le_of_ble_eq_true rfl) (by omega) sgN (rok_z bI_01) ⟨Nat.le_refl _, Nat.le_refl _, hN1, hS1⟩ ?_
  refine z_if_eq dX9_nextToken_239 rfl (fun _ => ?_) (fun c => absurd (bI_eq0.mpr (fun q => q hs)) c)
  refine z_iconst (v := 3) dX9_nextToken_246 (by decide) ?_
  refine y_putI FX9_106 dX9_nextToken_247 (Or.inl rfl) (Or.inl rfl) r1.m.o ?_
  refine z_aload_n dX9_nextToken_250 rfl rfl ?_
  refine z_dup dX9_nextToken_251 rfl ?_
  refine y_getI FX9_96 dX9_nextToken_252 (Or.inl rfl) r1.m.o ?_
  refine z_eqi (y := nI (p)) (show _ = nI p by first | exact e7 | (rw [pI_sI, if_pos rfl, if_neg (by omega)]; exact e7) | (rw [pI_sI, if_pos rfl, if_neg (by omega), pI_sI, if_pos rfl, if_neg (by omega)]; exact e7)) ?_
  refine z_iconst (v := 1) dX9_nextToken_255 (by decide) ?_
  refine z_iadd dX9_nextToken_256 ?_
  refine z_eqi (nI_1 p) ?_
  refine y_putI FX9_96 dX9_nextToken_257 (Or.inl rfl) (Or.inl rfl) r1.m.o ?_
  refine z_iload_n dX9_nextToken_260 rfl rfl ?_
  refine z_bipush (v := 60) dX9_nextToken_261 (by decide) ?_
  refine z_icmp_eq dX9_nextToken_263 rfl (fun c => absurd c (fun q => h60 ((nI_eq (b := 60) (by omega) (by omega)).mp q))) (fun _ => ?_)
  refine z_iload_n dX9_nextToken_266 rfl rfl ?_
  refine z_bipush (v := 62) dX9_nextToken_267 (by decide) ?_
  refine z_icmp_ne dX9_nextToken_269 rfl (fun _ => ?_) (fun c => absurd c (fun q => h62 ((nI_eq (b := 62) (by omega) (by omega)).mp q)))
  refine z_vret dX9_nextToken_310 ?_
  exact hQ

theorem r_nt_60 {s : Ms} {h1 : Hp} {d p : Nat} (r1 : RM s h1) (ht : ITp s) (e7 : pI h1 488 7 = nI p) (hd : 1 ≤ d) (hp : p < TNs s) (h6 : TPs s p = 60) : ∃ h2, FN h1 h2 ∧ NTK s p h2 ∧ ∀ (o1 : Option Value) (N S : Nat) (Q : Option Value → Hp → Prop), pn h1 ≤ N → ps h1 ≤ S → Q none h2 → T d N S mX9_nextToken 39 [some (.ref 488), o1] [] h1 Q := by
  have n3 : TNs s ≤ 300 := ht.1
  have bb : ∀ k, k < TNs s → TPs s k < 256 := fun k hk => ht.2 k (by omega)
  have f8 : FN h1 (sI h1 488 8 (nI p)) := FN.rf.sI (by omega)
  have r8 := f8.rm r1
  have hb := bb p (by omega)
  have ba : bA (TPs s) (TNs s) p = nI (TPs s p) := if_pos (by omega)
  have figN := r_isFigureN (h := (sI h1 488 8 (nI p))) (d := 0) (c := TPs s p) hb
  have letN := r_isLetterN (h := (sI h1 488 8 (nI p))) (d := 0) (c := TPs s p) hb
  have sgN := r_isSign (h := (sI h1 488 8 (nI p))) (d := 0) (c := TPs s p) hb
  have hL : isL (TPs s p) = false := by rw [h6]; rfl
  have hD : isD (TPs s p) = false := by rw [h6]; rfl
  have hs : ¬ sgK (TPs s p) = 53 := by rw [h6]; decide
  have te0 : tkE (TPs s) (TNs s) p = if two2 (TPs s) (TNs s) p then p + 2 else p + 1 := by
    unfold tkE
    rw [if_neg (by omega), if_neg (by rw [hL]; decide), if_neg (by rw [hD]; decide)]
  have tr0 : rtk (TPs s) (TNs s) p = if two2 (TPs s) (TNs s) p then (if TPs s p = 60 then 4 else 5) else if sgK (TPs s p) = 53 then 3 else TPs s p := by
    unfold rtk
    rw [if_neg (by omega), if_neg (by rw [hL]; decide), if_neg (by rw [hD]; decide)]
  have nL : ¬ isL (TPs s p) = true := by rw [hL]; decide
  have nD : ¬ isD (TPs s p) = true := by rw [hD]; decide
  have f9 : FN h1 (sI (sI (sI h1 488 8 (nI p)) 488 9 (nI (TPs s p))) 488 7 (nI (p + 1))) := (f8.sI (by omega)).sI (by omega)
  have r9 := f9.rm r1
  by_cases h2n : two2 (TPs s) (TNs s) p
  · have te : tkE (TPs s) (TNs s) p = p + 2 := by rw [te0, if_pos h2n]
    have tr : rtk (TPs s) (TNs s) p = 4 := by rw [tr0, if_pos h2n, if_pos h6]
    have b61 : bA (TPs s) (TNs s) (p + 1) = 61 := (bA_eq (c := 61) (by omega) (bb (p + 1))).mpr ⟨h2n.1, h2n.2.1⟩
    refine ⟨(sI (sI (sI (sI (sI h1 488 8 (nI p)) 488 9 (nI (TPs s p))) 488 7 (nI (p + 1))) 488 9 (nI 4)) 488 7 (nI (p + 2))), (f9.sI (by omega)).sI (by omega), ⟨?_, ?_, ?_, fun _ q => absurd q nL, fun _ q => absurd q nD⟩, fun o1 N S Q hN1 hS1 hQ => ?_⟩
    · rw [pI_sI, if_pos rfl, if_pos rfl, te]
    · rw [pI_sI, if_pos rfl, if_neg (by omega), pI_sI, if_pos rfl, if_neg (by omega), pI_sI, if_pos rfl, if_neg (by omega), pI_sI, if_pos rfl, if_neg (by omega), pI_sI, if_pos rfl, if_pos rfl]
    · rw [pI_sI, if_pos rfl, if_neg (by omega), pI_sI, if_pos rfl, if_pos rfl, tr]
    have E : T d N S mX9_nextToken 260 [some (.ref 488), some (.int (nI (TPs s p)))] [] (sI (sI (sI h1 488 8 (nI p)) 488 9 (nI (TPs s p))) 488 7 (nI (p + 1))) Q := by
      refine z_iload_n dX9_nextToken_260 rfl rfl ?_
      refine z_bipush (v := 60) dX9_nextToken_261 (by decide) ?_
      refine z_icmp_eq dX9_nextToken_263 rfl (fun _ => ?_) (fun c => absurd (congrArg nI h6) c)
      refine z_aload_n dX9_nextToken_272 rfl rfl ?_
      refine z_aload_n dX9_nextToken_273 rfl rfl ?_
      refine y_getI FX9_96 dX9_nextToken_274 (Or.inl rfl) r1.m.o ?_
      refine z_eqi (y := nI (p + 1)) (show _ = nI (p + 1) by first | (rw [pI_sI, if_pos rfl, if_pos rfl]) | (rw [pI_sI, if_pos rfl, if_neg (by omega), pI_sI, if_pos rfl, if_pos rfl])) ?_
      refine y_callV (as := [_]) CX9_byteAt LX9_99 IX9_byteAt VX9_byteAt ⟨rfl, Nat.le_of_ble_eq_true rfl⟩ dX9_nextToken_277 r1.m.o rfl (Nat.le_of_ble_eq_true rfl) (Nat.le_of_ble_eq_true rfl) (by omega) (r_byteAt (d := 0) (k := p + 1) r9 ht (by omega)) rok_i ⟨Nat.le_refl _, Nat.le_refl _, hN1, hS1⟩ ?_
      refine z_bipush (v := 61) dX9_nextToken_280 (by decide) ?_
      refine z_icmp_ne dX9_nextToken_282 rfl (fun c => absurd (b61) c) (fun _ => ?_)
      refine z_aload_n dX9_nextToken_285 rfl rfl ?_
      refine z_iload_n dX9_nextToken_286 rfl rfl ?_
      refine z_bipush (v := 60) dX9_nextToken_287 (by decide) ?_
      refine z_icmp_ne dX9_nextToken_289 rfl (fun c => absurd (congrArg nI h6) c) (fun _ => ?_)
      refine z_iconst (v := 4) dX9_nextToken_292 (by decide) ?_
      refine z_goto dX9_nextToken_293 rfl ?_
      refine y_putI FX9_106 dX9_nextToken_297 (Or.inl rfl) (Or.inl rfl) r1.m.o ?_
      refine z_aload_n dX9_nextToken_300 rfl rfl ?_
      refine z_dup dX9_nextToken_301 rfl ?_
      refine y_getI FX9_96 dX9_nextToken_302 (Or.inl rfl) r1.m.o ?_
      refine z_eqi (y := nI (p + 1)) (show _ = nI (p + 1) by first | (rw [pI_sI, if_pos rfl, if_pos rfl]) | (rw [pI_sI, if_pos rfl, if_neg (by omega), pI_sI, if_pos rfl, if_pos rfl])) ?_
      refine z_iconst (v := 1) dX9_nextToken_305 (by decide) ?_
      refine z_iadd dX9_nextToken_306 ?_
      refine z_eqi (nI_1 (p + 1)) ?_
      refine y_putI FX9_96 dX9_nextToken_307 (Or.inl rfl) (Or.inl rfl) r1.m.o ?_
      refine z_vret dX9_nextToken_310 ?_
      exact hQ
    refine z_aload_n dX9_nextToken_39 rfl rfl ?_
    refine z_aload_n dX9_nextToken_40 rfl rfl ?_
    refine y_getI FX9_96 dX9_nextToken_41 (Or.inl rfl) r1.m.o ?_
    refine z_eqi (y := nI (p)) (show _ = nI p by first | exact e7 | (rw [pI_sI, if_pos rfl, if_neg (by omega)]; exact e7) | (rw [pI_sI, if_pos rfl, if_neg (by omega), pI_sI, if_pos rfl, if_neg (by omega)]; exact e7)) ?_
    refine y_putI FX9_103 dX9_nextToken_44 (Or.inl rfl) (Or.inl rfl) r1.m.o ?_
    refine z_aload_n dX9_nextToken_47 rfl rfl ?_
    refine z_aload_n dX9_nextToken_48 rfl rfl ?_
    refine y_getI FX9_96 dX9_nextToken_49 (Or.inl rfl) r1.m.o ?_
    refine z_eqi (y := nI (p)) (show _ = nI p by first | exact e7 | (rw [pI_sI, if_pos rfl, if_neg (by omega)]; exact e7) | (rw [pI_sI, if_pos rfl, if_neg (by omega), pI_sI, if_pos rfl, if_neg (by omega)]; exact e7)) ?_
    refine y_callV (as := [_]) CX9_byteAt LX9_99 IX9_byteAt VX9_byteAt ⟨rfl, Nat.le_of_ble_eq_true rfl⟩ dX9_nextToken_52 r1.m.o rfl (Nat.le_of_ble_eq_true rfl) (Nat.le_of_ble_eq_true rfl) (by omega) (r_byteAt (d := 0) (k := p) r8 ht (by omega)) rok_i ⟨Nat.le_refl _, Nat.le_refl _, hN1, hS1⟩ ?_
    refine z_eqi ba ?_
    refine z_istore_n dX9_nextToken_55 rfl (Nat.le_of_ble_eq_true rfl) ?_
    refine z_iload_n dX9_nextToken_56 rfl rfl ?_
    refine z_if_ge dX9_nextToken_57 rfl (fun _ => ?_) (fun c => absurd (nI_pos' (by omega)) c)
    refine z_iload_n dX9_nextToken_68 rfl rfl ?_
    refine y_callS (as := [_]) CX9_isFigure LX9_109 SX9_isFigure dX9_nextToken_69 rfl (Nat.le_of_ble_eq_true rfl) (Nat.le_of_ble_eq_true rfl) (by omega) figN (rok_z bI_01) ⟨Nat.le_refl _, Nat.le_refl _, hN1, hS1⟩ ?_
    refine z_if_eq dX9_nextToken_72 rfl (fun _ => ?_) (fun c => absurd (bI_eq0.mpr nD) c)
    refine z_iload_n dX9_nextToken_151 rfl rfl ?_
    refine y_callS (as := [_]) CX9_isLetterByte LX9_116 SX9_isLetterByte dX9_nextToken_152 rfl (Nat.le_of_ble_eq_true rfl) (Nat.le_of_ble_eq_true rfl) (by omega) letN (rok_z bI_01) ⟨Nat.le_refl _, Nat.le_refl _, hN1, hS1⟩ ?_
    refine z_if_eq dX9_nextToken_155 rfl (fun _ => ?_) (fun c => absurd (bI_eq0.mpr nL) c)
    refine z_aload_n dX9_nextToken_234 rfl rfl ?_
    refine z_iload_n dX9_nextToken_235 rfl rfl ?_
    refine y_callS (as := [_]) CX9_isSign LX9_125 SX9_isSign dX9_nextToken_236 rfl (Nat.le_of_ble_eq_true rfl) (Nat.le_of_ble_eq_true rfl) (by omega) sgN (rok_z bI_01) ⟨Nat.le_refl _, Nat.le_refl _, hN1, hS1⟩ ?_
    refine z_if_eq dX9_nextToken_239 rfl (fun c => absurd c (bI_ne0.mpr hs)) (fun _ => ?_)
    refine z_iload_n dX9_nextToken_242 rfl rfl ?_
    refine z_goto dX9_nextToken_243 rfl ?_
    refine y_putI FX9_106 dX9_nextToken_247 (Or.inl rfl) (Or.inl rfl) r1.m.o ?_
    refine z_aload_n dX9_nextToken_250 rfl rfl ?_
    refine z_dup dX9_nextToken_251 rfl ?_
    refine y_getI FX9_96 dX9_nextToken_252 (Or.inl rfl) r1.m.o ?_
    refine z_eqi (y := nI (p)) (show _ = nI p by first | exact e7 | (rw [pI_sI, if_pos rfl, if_neg (by omega)]; exact e7) | (rw [pI_sI, if_pos rfl, if_neg (by omega), pI_sI, if_pos rfl, if_neg (by omega)]; exact e7)) ?_
    refine z_iconst (v := 1) dX9_nextToken_255 (by decide) ?_
    refine z_iadd dX9_nextToken_256 ?_
    refine z_eqi (nI_1 p) ?_
    refine y_putI FX9_96 dX9_nextToken_257 (Or.inl rfl) (Or.inl rfl) r1.m.o ?_
    exact E
  · have te : tkE (TPs s) (TNs s) p = p + 1 := by rw [te0, if_neg h2n]
    have tr : rtk (TPs s) (TNs s) p = TPs s p := by rw [tr0, if_neg h2n, if_neg hs]
    have b61 : ¬ bA (TPs s) (TNs s) (p + 1) = 61 := fun q => h2n (by
      have := (bA_eq (c := 61) (by omega) (bb (p + 1))).mp q
      exact ⟨this.1, this.2, Or.inl h6⟩)
    refine ⟨(sI (sI (sI h1 488 8 (nI p)) 488 9 (nI (TPs s p))) 488 7 (nI (p + 1))), f9, ⟨?_, ?_, ?_, fun _ q => absurd q nL, fun _ q => absurd q nD⟩, fun o1 N S Q hN1 hS1 hQ => ?_⟩
    · rw [pI_sI, if_pos rfl, if_pos rfl, show tkE (TPs s) (TNs s) p = p + 1 from te]
    · rw [pI_sI, if_pos rfl, if_neg (by omega), pI_sI, if_pos rfl, if_neg (by omega), pI_sI, if_pos rfl, if_pos rfl]
    · rw [pI_sI, if_pos rfl, if_neg (by omega), pI_sI, if_pos rfl, if_pos rfl, show rtk (TPs s) (TNs s) p = TPs s p from tr]
    have E : T d N S mX9_nextToken 260 [some (.ref 488), some (.int (nI (TPs s p)))] [] (sI (sI (sI h1 488 8 (nI p)) 488 9 (nI (TPs s p))) 488 7 (nI (p + 1))) Q := by
      refine z_iload_n dX9_nextToken_260 rfl rfl ?_
      refine z_bipush (v := 60) dX9_nextToken_261 (by decide) ?_
      refine z_icmp_eq dX9_nextToken_263 rfl (fun _ => ?_) (fun c => absurd (congrArg nI h6) c)
      refine z_aload_n dX9_nextToken_272 rfl rfl ?_
      refine z_aload_n dX9_nextToken_273 rfl rfl ?_
      refine y_getI FX9_96 dX9_nextToken_274 (Or.inl rfl) r1.m.o ?_
      refine z_eqi (y := nI (p + 1)) (show _ = nI (p + 1) by first | (rw [pI_sI, if_pos rfl, if_pos rfl]) | (rw [pI_sI, if_pos rfl, if_neg (by omega), pI_sI, if_pos rfl, if_pos rfl])) ?_
      refine y_callV (as := [_]) CX9_byteAt LX9_99 IX9_byteAt VX9_byteAt ⟨rfl, Nat.le_of_ble_eq_true rfl⟩ dX9_nextToken_277 r1.m.o rfl (Nat.le_of_ble_eq_true rfl) (Nat.le_of_ble_eq_true rfl) (by omega) (r_byteAt (d := 0) (k := p + 1) r9 ht (by omega)) rok_i ⟨Nat.le_refl _, Nat.le_refl _, hN1, hS1⟩ ?_
      refine z_bipush (v := 61) dX9_nextToken_280 (by decide) ?_
      refine z_icmp_ne dX9_nextToken_282 rfl (fun _ => ?_) (fun c => absurd c (b61))
      refine z_vret dX9_nextToken_310 ?_
      exact hQ
    refine z_aload_n dX9_nextToken_39 rfl rfl ?_
    refine z_aload_n dX9_nextToken_40 rfl rfl ?_
    refine y_getI FX9_96 dX9_nextToken_41 (Or.inl rfl) r1.m.o ?_
    refine z_eqi (y := nI (p)) (show _ = nI p by first | exact e7 | (rw [pI_sI, if_pos rfl, if_neg (by omega)]; exact e7) | (rw [pI_sI, if_pos rfl, if_neg (by omega), pI_sI, if_pos rfl, if_neg (by omega)]; exact e7)) ?_
    refine y_putI FX9_103 dX9_nextToken_44 (Or.inl rfl) (Or.inl rfl) r1.m.o ?_
    refine z_aload_n dX9_nextToken_47 rfl rfl ?_
    refine z_aload_n dX9_nextToken_48 rfl rfl ?_
    refine y_getI FX9_96 dX9_nextToken_49 (Or.inl rfl) r1.m.o ?_
    refine z_eqi (y := nI (p)) (show _ = nI p by first | exact e7 | (rw [pI_sI, if_pos rfl, if_neg (by omega)]; exact e7) | (rw [pI_sI, if_pos rfl, if_neg (by omega), pI_sI, if_pos rfl, if_neg (by omega)]; exact e7)) ?_
    refine y_callV (as := [_]) CX9_byteAt LX9_99 IX9_byteAt VX9_byteAt ⟨rfl, Nat.le_of_ble_eq_true rfl⟩ dX9_nextToken_52 r1.m.o rfl (Nat.le_of_ble_eq_true rfl) (Nat.le_of_ble_eq_true rfl) (by omega) (r_byteAt (d := 0) (k := p) r8 ht (by omega)) rok_i ⟨Nat.le_refl _, Nat.le_refl _, hN1, hS1⟩ ?_
    refine z_eqi ba ?_
    refine z_istore_n dX9_nextToken_55 rfl (Nat.le_of_ble_eq_true rfl) ?_
    refine z_iload_n dX9_nextToken_56 rfl rfl ?_
    refine z_if_ge dX9_nextToken_57 rfl (fun _ => ?_) (fun c => absurd (nI_pos' (by omega)) c)
    refine z_iload_n dX9_nextToken_68 rfl rfl ?_
    refine y_callS (as := [_]) CX9_isFigure LX9_109 SX9_isFigure dX9_nextToken_69 rfl (Nat.le_of_ble_eq_true rfl) (Nat.le_of_ble_eq_true rfl) (by omega) figN (rok_z bI_01) ⟨Nat.le_refl _, Nat.le_refl _, hN1, hS1⟩ ?_
    refine z_if_eq dX9_nextToken_72 rfl (fun _ => ?_) (fun c => absurd (bI_eq0.mpr nD) c)
    refine z_iload_n dX9_nextToken_151 rfl rfl ?_
    refine y_callS (as := [_]) CX9_isLetterByte LX9_116 SX9_isLetterByte dX9_nextToken_152 rfl (Nat.le_of_ble_eq_true rfl) (Nat.le_of_ble_eq_true rfl) (by omega) letN (rok_z bI_01) ⟨Nat.le_refl _, Nat.le_refl _, hN1, hS1⟩ ?_
    refine z_if_eq dX9_nextToken_155 rfl (fun _ => ?_) (fun c => absurd (bI_eq0.mpr nL) c)
    refine z_aload_n dX9_nextToken_234 rfl rfl ?_
    refine z_iload_n dX9_nextToken_235 rfl rfl ?_
    refine y_callS (as := [_]) CX9_isSign LX9_125 SX9_isSign dX9_nextToken_236 rfl (Nat.le_of_ble_eq_true rfl) (Nat.le_of_ble_eq_true rfl) (by omega) sgN (rok_z bI_01) ⟨Nat.le_refl _, Nat.le_refl _, hN1, hS1⟩ ?_
    refine z_if_eq dX9_nextToken_239 rfl (fun c => absurd c (bI_ne0.mpr hs)) (fun _ => ?_)
    refine z_iload_n dX9_nextToken_242 rfl rfl ?_
    refine z_goto dX9_nextToken_243 rfl ?_
    refine y_putI FX9_106 dX9_nextToken_247 (Or.inl rfl) (Or.inl rfl) r1.m.o ?_
    refine z_aload_n dX9_nextToken_250 rfl rfl ?_
    refine z_dup dX9_nextToken_251 rfl ?_
    refine y_getI FX9_96 dX9_nextToken_252 (Or.inl rfl) r1.m.o ?_
    refine z_eqi (y := nI (p)) (show _ = nI p by first | exact e7 | (rw [pI_sI, if_pos rfl, if_neg (by omega)]; exact e7) | (rw [pI_sI, if_pos rfl, if_neg (by omega), pI_sI, if_pos rfl, if_neg (by omega)]; exact e7)) ?_
    refine z_iconst (v := 1) dX9_nextToken_255 (by decide) ?_
    refine z_iadd dX9_nextToken_256 ?_
    refine z_eqi (nI_1 p) ?_
    refine y_putI FX9_96 dX9_nextToken_257 (Or.inl rfl) (Or.inl rfl) r1.m.o ?_
    exact E

theorem r_nt_62 {s : Ms} {h1 : Hp} {d p : Nat} (r1 : RM s h1) (ht : ITp s) (e7 : pI h1 488 7 = nI p) (hd : 1 ≤ d) (hp : p < TNs s) (h6 : TPs s p = 62) : ∃ h2, FN h1 h2 ∧ NTK s p h2 ∧ ∀ (o1 : Option Value) (N S : Nat) (Q : Option Value → Hp → Prop), pn h1 ≤ N → ps h1 ≤ S → Q none h2 → T d N S mX9_nextToken 39 [some (.ref 488), o1] [] h1 Q := by
  have n3 : TNs s ≤ 300 := ht.1
  have bb : ∀ k, k < TNs s → TPs s k < 256 := fun k hk => ht.2 k (by omega)
  have f8 : FN h1 (sI h1 488 8 (nI p)) := FN.rf.sI (by omega)
  have r8 := f8.rm r1
  have hb := bb p (by omega)
  have ba : bA (TPs s) (TNs s) p = nI (TPs s p) := if_pos (by omega)
  have figN := r_isFigureN (h := (sI h1 488 8 (nI p))) (d := 0) (c := TPs s p) hb
  have letN := r_isLetterN (h := (sI h1 488 8 (nI p))) (d := 0) (c := TPs s p) hb
  have sgN := r_isSign (h := (sI h1 488 8 (nI p))) (d := 0) (c := TPs s p) hb
  have hL : isL (TPs s p) = false := by rw [h6]; rfl
  have hD : isD (TPs s p) = false := by rw [h6]; rfl
  have hs : ¬ sgK (TPs s p) = 53 := by rw [h6]; decide
  have te0 : tkE (TPs s) (TNs s) p = if two2 (TPs s) (TNs s) p then p + 2 else p + 1 := by
    unfold tkE
    rw [if_neg (by omega), if_neg (by rw [hL]; decide), if_neg (by rw [hD]; decide)]
  have tr0 : rtk (TPs s) (TNs s) p = if two2 (TPs s) (TNs s) p then (if TPs s p = 60 then 4 else 5) else if sgK (TPs s p) = 53 then 3 else TPs s p := by
    unfold rtk
    rw [if_neg (by omega), if_neg (by rw [hL]; decide), if_neg (by rw [hD]; decide)]
  have nL : ¬ isL (TPs s p) = true := by rw [hL]; decide
  have nD : ¬ isD (TPs s p) = true := by rw [hD]; decide
  have f9 : FN h1 (sI (sI (sI h1 488 8 (nI p)) 488 9 (nI (TPs s p))) 488 7 (nI (p + 1))) := (f8.sI (by omega)).sI (by omega)
  have r9 := f9.rm r1
  by_cases h2n : two2 (TPs s) (TNs s) p
  · have te : tkE (TPs s) (TNs s) p = p + 2 := by rw [te0, if_pos h2n]
    have tr : rtk (TPs s) (TNs s) p = 5 := by rw [tr0, if_pos h2n, if_neg (by omega)]
    have b61 : bA (TPs s) (TNs s) (p + 1) = 61 := (bA_eq (c := 61) (by omega) (bb (p + 1))).mpr ⟨h2n.1, h2n.2.1⟩
    refine ⟨(sI (sI (sI (sI (sI h1 488 8 (nI p)) 488 9 (nI (TPs s p))) 488 7 (nI (p + 1))) 488 9 (nI 5)) 488 7 (nI (p + 2))), (f9.sI (by omega)).sI (by omega), ⟨?_, ?_, ?_, fun _ q => absurd q nL, fun _ q => absurd q nD⟩, fun o1 N S Q hN1 hS1 hQ => ?_⟩
    · rw [pI_sI, if_pos rfl, if_pos rfl, te]
    · rw [pI_sI, if_pos rfl, if_neg (by omega), pI_sI, if_pos rfl, if_neg (by omega), pI_sI, if_pos rfl, if_neg (by omega), pI_sI, if_pos rfl, if_neg (by omega), pI_sI, if_pos rfl, if_pos rfl]
    · rw [pI_sI, if_pos rfl, if_neg (by omega), pI_sI, if_pos rfl, if_pos rfl, tr]
    have E : T d N S mX9_nextToken 260 [some (.ref 488), some (.int (nI (TPs s p)))] [] (sI (sI (sI h1 488 8 (nI p)) 488 9 (nI (TPs s p))) 488 7 (nI (p + 1))) Q := by
      refine z_iload_n dX9_nextToken_260 rfl rfl ?_
      refine z_bipush (v := 60) dX9_nextToken_261 (by decide) ?_
      refine z_icmp_eq dX9_nextToken_263 rfl (fun c => absurd c (fun q => absurd ((nI_eq (b := 60) (by omega) (by omega)).mp q) (by omega))) (fun _ => ?_)
      refine z_iload_n dX9_nextToken_266 rfl rfl ?_
      refine z_bipush (v := 62) dX9_nextToken_267 (by decide) ?_
      refine z_icmp_ne dX9_nextToken_269 rfl (fun c => absurd (congrArg nI h6) c) (fun _ => ?_)
      refine z_aload_n dX9_nextToken_272 rfl rfl ?_
      refine z_aload_n dX9_nextToken_273 rfl rfl ?_
      refine y_getI FX9_96 dX9_nextToken_274 (Or.inl rfl) r1.m.o ?_
      refine z_eqi (y := nI (p + 1)) (show _ = nI (p + 1) by first | (rw [pI_sI, if_pos rfl, if_pos rfl]) | (rw [pI_sI, if_pos rfl, if_neg (by omega), pI_sI, if_pos rfl, if_pos rfl])) ?_
      refine y_callV (as := [_]) CX9_byteAt LX9_99 IX9_byteAt VX9_byteAt ⟨rfl, Nat.le_of_ble_eq_true rfl⟩ dX9_nextToken_277 r1.m.o rfl (Nat.le_of_ble_eq_true rfl) (Nat.le_of_ble_eq_true rfl) (by omega) (r_byteAt (d := 0) (k := p + 1) r9 ht (by omega)) rok_i ⟨Nat.le_refl _, Nat.le_refl _, hN1, hS1⟩ ?_
      refine z_bipush (v := 61) dX9_nextToken_280 (by decide) ?_
      refine z_icmp_ne dX9_nextToken_282 rfl (fun c => absurd (b61) c) (fun _ => ?_)
      refine z_aload_n dX9_nextToken_285 rfl rfl ?_
      refine z_iload_n dX9_nextToken_286 rfl rfl ?_
      refine z_bipush (v := 60) dX9_nextToken_287 (by decide) ?_
      refine z_icmp_ne dX9_nextToken_289 rfl (fun _ => ?_) (fun c => absurd c (fun q => absurd ((nI_eq (b := 60) (by omega) (by omega)).mp q) (by omega)))
      refine z_iconst (v := 5) dX9_nextToken_296 (by decide) ?_
      refine y_putI FX9_106 dX9_nextToken_297 (Or.inl rfl) (Or.inl rfl) r1.m.o ?_
      refine z_aload_n dX9_nextToken_300 rfl rfl ?_
      refine z_dup dX9_nextToken_301 rfl ?_
      refine y_getI FX9_96 dX9_nextToken_302 (Or.inl rfl) r1.m.o ?_
      refine z_eqi (y := nI (p + 1)) (show _ = nI (p + 1) by first | (rw [pI_sI, if_pos rfl, if_pos rfl]) | (rw [pI_sI, if_pos rfl, if_neg (by omega), pI_sI, if_pos rfl, if_pos rfl])) ?_
      refine z_iconst (v := 1) dX9_nextToken_305 (by decide) ?_
      refine z_iadd dX9_nextToken_306 ?_
      refine z_eqi (nI_1 (p + 1)) ?_
      refine y_putI FX9_96 dX9_nextToken_307 (Or.inl rfl) (Or.inl rfl) r1.m.o ?_
      refine z_vret dX9_nextToken_310 ?_
      exact hQ
    refine z_aload_n dX9_nextToken_39 rfl rfl ?_
    refine z_aload_n dX9_nextToken_40 rfl rfl ?_
    refine y_getI FX9_96 dX9_nextToken_41 (Or.inl rfl) r1.m.o ?_
    refine z_eqi (y := nI (p)) (show _ = nI p by first | exact e7 | (rw [pI_sI, if_pos rfl, if_neg (by omega)]; exact e7) | (rw [pI_sI, if_pos rfl, if_neg (by omega), pI_sI, if_pos rfl, if_neg (by omega)]; exact e7)) ?_
    refine y_putI FX9_103 dX9_nextToken_44 (Or.inl rfl) (Or.inl rfl) r1.m.o ?_
    refine z_aload_n dX9_nextToken_47 rfl rfl ?_
    refine z_aload_n dX9_nextToken_48 rfl rfl ?_
    refine y_getI FX9_96 dX9_nextToken_49 (Or.inl rfl) r1.m.o ?_
    refine z_eqi (y := nI (p)) (show _ = nI p by first | exact e7 | (rw [pI_sI, if_pos rfl, if_neg (by omega)]; exact e7) | (rw [pI_sI, if_pos rfl, if_neg (by omega), pI_sI, if_pos rfl, if_neg (by omega)]; exact e7)) ?_
    refine y_callV (as := [_]) CX9_byteAt LX9_99 IX9_byteAt VX9_byteAt ⟨rfl, Nat.le_of_ble_eq_true rfl⟩ dX9_nextToken_52 r1.m.o rfl (Nat.le_of_ble_eq_true rfl) (Nat.le_of_ble_eq_true rfl) (by omega) (r_byteAt (d := 0) (k := p) r8 ht (by omega)) rok_i ⟨Nat.le_refl _, Nat.le_refl _, hN1, hS1⟩ ?_
    refine z_eqi ba ?_
    refine z_istore_n dX9_nextToken_55 rfl (Nat.le_of_ble_eq_true rfl) ?_
    refine z_iload_n dX9_nextToken_56 rfl rfl ?_
    refine z_if_ge dX9_nextToken_57 rfl (fun _ => ?_) (fun c => absurd (nI_pos' (by omega)) c)
    refine z_iload_n dX9_nextToken_68 rfl rfl ?_
    refine y_callS (as := [_]) CX9_isFigure LX9_109 SX9_isFigure dX9_nextToken_69 rfl (Nat.le_of_ble_eq_true rfl) (Nat.le_of_ble_eq_true rfl) (by omega) figN (rok_z bI_01) ⟨Nat.le_refl _, Nat.le_refl _, hN1, hS1⟩ ?_
    refine z_if_eq dX9_nextToken_72 rfl (fun _ => ?_) (fun c => absurd (bI_eq0.mpr nD) c)
    refine z_iload_n dX9_nextToken_151 rfl rfl ?_
    refine y_callS (as := [_]) CX9_isLetterByte LX9_116 SX9_isLetterByte dX9_nextToken_152 rfl (Nat.le_of_ble_eq_true rfl) (Nat.le_of_ble_eq_true rfl) (by omega) letN (rok_z bI_01) ⟨Nat.le_refl _, Nat.le_refl _, hN1, hS1⟩ ?_
    refine z_if_eq dX9_nextToken_155 rfl (fun _ => ?_) (fun c => absurd (bI_eq0.mpr nL) c)
    refine z_aload_n dX9_nextToken_234 rfl rfl ?_
    refine z_iload_n dX9_nextToken_235 rfl rfl ?_
    refine y_callS (as := [_]) CX9_isSign LX9_125 SX9_isSign dX9_nextToken_236 rfl (Nat.le_of_ble_eq_true rfl) (Nat.le_of_ble_eq_true rfl) (by omega) sgN (rok_z bI_01) ⟨Nat.le_refl _, Nat.le_refl _, hN1, hS1⟩ ?_
    refine z_if_eq dX9_nextToken_239 rfl (fun c => absurd c (bI_ne0.mpr hs)) (fun _ => ?_)
    refine z_iload_n dX9_nextToken_242 rfl rfl ?_
    refine z_goto dX9_nextToken_243 rfl ?_
    refine y_putI FX9_106 dX9_nextToken_247 (Or.inl rfl) (Or.inl rfl) r1.m.o ?_
    refine z_aload_n dX9_nextToken_250 rfl rfl ?_
    refine z_dup dX9_nextToken_251 rfl ?_
    refine y_getI FX9_96 dX9_nextToken_252 (Or.inl rfl) r1.m.o ?_
    refine z_eqi (y := nI (p)) (show _ = nI p by first | exact e7 | (rw [pI_sI, if_pos rfl, if_neg (by omega)]; exact e7) | (rw [pI_sI, if_pos rfl, if_neg (by omega), pI_sI, if_pos rfl, if_neg (by omega)]; exact e7)) ?_
    refine z_iconst (v := 1) dX9_nextToken_255 (by decide) ?_
    refine z_iadd dX9_nextToken_256 ?_
    refine z_eqi (nI_1 p) ?_
    refine y_putI FX9_96 dX9_nextToken_257 (Or.inl rfl) (Or.inl rfl) r1.m.o ?_
    exact E
  · have te : tkE (TPs s) (TNs s) p = p + 1 := by rw [te0, if_neg h2n]
    have tr : rtk (TPs s) (TNs s) p = TPs s p := by rw [tr0, if_neg h2n, if_neg hs]
    have b61 : ¬ bA (TPs s) (TNs s) (p + 1) = 61 := fun q => h2n (by
      have := (bA_eq (c := 61) (by omega) (bb (p + 1))).mp q
      exact ⟨this.1, this.2, Or.inr h6⟩)
    refine ⟨(sI (sI (sI h1 488 8 (nI p)) 488 9 (nI (TPs s p))) 488 7 (nI (p + 1))), f9, ⟨?_, ?_, ?_, fun _ q => absurd q nL, fun _ q => absurd q nD⟩, fun o1 N S Q hN1 hS1 hQ => ?_⟩
    · rw [pI_sI, if_pos rfl, if_pos rfl, show tkE (TPs s) (TNs s) p = p + 1 from te]
    · rw [pI_sI, if_pos rfl, if_neg (by omega), pI_sI, if_pos rfl, if_neg (by omega), pI_sI, if_pos rfl, if_pos rfl]
    · rw [pI_sI, if_pos rfl, if_neg (by omega), pI_sI, if_pos rfl, if_pos rfl, show rtk (TPs s) (TNs s) p = TPs s p from tr]
    have E : T d N S mX9_nextToken 260 [some (.ref 488), some (.int (nI (TPs s p)))] [] (sI (sI (sI h1 488 8 (nI p)) 488 9 (nI (TPs s p))) 488 7 (nI (p + 1))) Q := by
      refine z_iload_n dX9_nextToken_260 rfl rfl ?_
      refine z_bipush (v := 60) dX9_nextToken_261 (by decide) ?_
      refine z_icmp_eq dX9_nextToken_263 rfl (fun c => absurd c (fun q => absurd ((nI_eq (b := 60) (by omega) (by omega)).mp q) (by omega))) (fun _ => ?_)
      refine z_iload_n dX9_nextToken_266 rfl rfl ?_
      refine z_bipush (v := 62) dX9_nextToken_267 (by decide) ?_
      refine z_icmp_ne dX9_nextToken_269 rfl (fun c => absurd (congrArg nI h6) c) (fun _ => ?_)
      refine z_aload_n dX9_nextToken_272 rfl rfl ?_
      refine z_aload_n dX9_nextToken_273 rfl rfl ?_
      refine y_getI FX9_96 dX9_nextToken_274 (Or.inl rfl) r1.m.o ?_
      refine z_eqi (y := nI (p + 1)) (show _ = nI (p + 1) by first | (rw [pI_sI, if_pos rfl, if_pos rfl]) | (rw [pI_sI, if_pos rfl, if_neg (by omega), pI_sI, if_pos rfl, if_pos rfl])) ?_
      refine y_callV (as := [_]) CX9_byteAt LX9_99 IX9_byteAt VX9_byteAt ⟨rfl, Nat.le_of_ble_eq_true rfl⟩ dX9_nextToken_277 r1.m.o rfl (Nat.le_of_ble_eq_true rfl) (Nat.le_of_ble_eq_true rfl) (by omega) (r_byteAt (d := 0) (k := p + 1) r9 ht (by omega)) rok_i ⟨Nat.le_refl _, Nat.le_refl _, hN1, hS1⟩ ?_
      refine z_bipush (v := 61) dX9_nextToken_280 (by decide) ?_
      refine z_icmp_ne dX9_nextToken_282 rfl (fun _ => ?_) (fun c => absurd c (b61))
      refine z_vret dX9_nextToken_310 ?_
      exact hQ
    refine z_aload_n dX9_nextToken_39 rfl rfl ?_
    refine z_aload_n dX9_nextToken_40 rfl rfl ?_
    refine y_getI FX9_96 dX9_nextToken_41 (Or.inl rfl) r1.m.o ?_
    refine z_eqi (y := nI (p)) (show _ = nI p by first | exact e7 | (rw [pI_sI, if_pos rfl, if_neg (by omega)]; exact e7) | (rw [pI_sI, if_pos rfl, if_neg (by omega), pI_sI, if_pos rfl, if_neg (by omega)]; exact e7)) ?_
    refine y_putI FX9_103 dX9_nextToken_44 (Or.inl rfl) (Or.inl rfl) r1.m.o ?_
    refine z_aload_n dX9_nextToken_47 rfl rfl ?_
    refine z_aload_n dX9_nextToken_48 rfl rfl ?_
    refine y_getI FX9_96 dX9_nextToken_49 (Or.inl rfl) r1.m.o ?_
    refine z_eqi (y := nI (p)) (show _ = nI p by first | exact e7 | (rw [pI_sI, if_pos rfl, if_neg (by omega)]; exact e7) | (rw [pI_sI, if_pos rfl, if_neg (by omega), pI_sI, if_pos rfl, if_neg (by omega)]; exact e7)) ?_
    refine y_callV (as := [_]) CX9_byteAt LX9_99 IX9_byteAt VX9_byteAt ⟨rfl, Nat.le_of_ble_eq_true rfl⟩ dX9_nextToken_52 r1.m.o rfl (Nat.le_of_ble_eq_true rfl) (Nat.le_of_ble_eq_true rfl) (by omega) (r_byteAt (d := 0) (k := p) r8 ht (by omega)) rok_i ⟨Nat.le_refl _, Nat.le_refl _, hN1, hS1⟩ ?_
    refine z_eqi ba ?_
    refine z_istore_n dX9_nextToken_55 rfl (Nat.le_of_ble_eq_true rfl) ?_
    refine z_iload_n dX9_nextToken_56 rfl rfl ?_
    refine z_if_ge dX9_nextToken_57 rfl (fun _ => ?_) (fun c => absurd (nI_pos' (by omega)) c)
    refine z_iload_n dX9_nextToken_68 rfl rfl ?_
    refine y_callS (as := [_]) CX9_isFigure LX9_109 SX9_isFigure dX9_nextToken_69 rfl (Nat.le_of_ble_eq_true rfl) (Nat.le_of_ble_eq_true rfl) (by omega) figN (rok_z bI_01) ⟨Nat.le_refl _, Nat.le_refl _, hN1, hS1⟩ ?_
    refine z_if_eq dX9_nextToken_72 rfl (fun _ => ?_) (fun c => absurd (bI_eq0.mpr nD) c)
    refine z_iload_n dX9_nextToken_151 rfl rfl ?_
    refine y_callS (as := [_]) CX9_isLetterByte LX9_116 SX9_isLetterByte dX9_nextToken_152 rfl (Nat.le_of_ble_eq_true rfl) (Nat.le_of_ble_eq_true rfl) (by omega) letN (rok_z bI_01) ⟨Nat.le_refl _, Nat.le_refl _, hN1, hS1⟩ ?_
    refine z_if_eq dX9_nextToken_155 rfl (fun _ => ?_) (fun c => absurd (bI_eq0.mpr nL) c)
    refine z_aload_n dX9_nextToken_234 rfl rfl ?_
    refine z_iload_n dX9_nextToken_235 rfl rfl ?_
    refine y_callS (as := [_]) CX9_isSign LX9_125 SX9_isSign dX9_nextToken_236 rfl (Nat.le_of_ble_eq_true rfl) (Nat.le_of_ble_eq_true rfl) (by omega) sgN (rok_z bI_01) ⟨Nat.le_refl _, Nat.le_refl _, hN1, hS1⟩ ?_
    refine z_if_eq dX9_nextToken_239 rfl (fun c => absurd c (bI_ne0.mpr hs)) (fun _ => ?_)
    refine z_iload_n dX9_nextToken_242 rfl rfl ?_
    refine z_goto dX9_nextToken_243 rfl ?_
    refine y_putI FX9_106 dX9_nextToken_247 (Or.inl rfl) (Or.inl rfl) r1.m.o ?_
    refine z_aload_n dX9_nextToken_250 rfl rfl ?_
    refine z_dup dX9_nextToken_251 rfl ?_
    refine y_getI FX9_96 dX9_nextToken_252 (Or.inl rfl) r1.m.o ?_
    refine z_eqi (y := nI (p)) (show _ = nI p by first | exact e7 | (rw [pI_sI, if_pos rfl, if_neg (by omega)]; exact e7) | (rw [pI_sI, if_pos rfl, if_neg (by omega), pI_sI, if_pos rfl, if_neg (by omega)]; exact e7)) ?_
    refine z_iconst (v := 1) dX9_nextToken_255 (by decide) ?_
    refine z_iadd dX9_nextToken_256 ?_
    refine z_eqi (nI_1 p) ?_
    refine y_putI FX9_96 dX9_nextToken_257 (Or.inl rfl) (Or.inl rfl) r1.m.o ?_
    exact E

theorem r_nt_end {s : Ms} {h1 : Hp} {d p : Nat} (r1 : RM s h1) (ht : ITp s) (e7 : pI h1 488 7 = nI p) (hd : 1 ≤ d) (hp : p ≤ TNs s) : ∃ h2, FN h1 h2 ∧ NTK s p h2 ∧ ∀ (o1 : Option Value) (N S : Nat) (Q : Option Value → Hp → Prop), pn h1 ≤ N → ps h1 ≤ S → Q none h2 → T d N S mX9_nextToken 39 [some (.ref 488), o1] [] h1 Q := by
  have n3 : TNs s ≤ 300 := ht.1
  have bb : ∀ k, k < TNs s → TPs s k < 256 := fun k hk => ht.2 k (by omega)
  by_cases he : TNs s ≤ p
  · exact r_nt_0 r1 ht e7 hd (by omega) he
  · cases hL : isL (TPs s p)
    · cases hD : isD (TPs s p)
      · by_cases h60 : TPs s p = 60
        · exact r_nt_60 r1 ht e7 hd (by omega) h60
        · by_cases h62 : TPs s p = 62
          · exact r_nt_62 r1 ht e7 hd (by omega) h62
          · have h2n : ¬ two2 (TPs s) (TNs s) p := fun q => by rcases q.2.2 with c | c <;> omega
            by_cases hs : sgK (TPs s p) = 53
            · exact r_nt_31 r1 ht e7 hd (by omega) hL hD hs h60 h62 h2n
            · exact r_nt_30 r1 ht e7 hd (by omega) hL hD hs h60 h62 h2n
      · exact r_nt_1 r1 ht e7 hd (by omega) hD
    · exact r_nt_2 r1 ht e7 hd (by omega) hL
theorem r_nextToken {s : Ms} {h : Hp} {d x : Nat} (hr : RM s h) (ht : ITp s) (hx : x ≤ TNs s) (e7 : pI h 488 7 = nI x) (hd : 1 ≤ d) : ∃ h1, Sp d mX9_nextToken [.ref 488] h none h1 ∧ FN h h1 ∧ NTK s (rnF isSp (TPs s) (TNs s) x) h1 := by
  obtain ⟨h2, k1, k2, K1⟩ := r_nt_sp (d := d) hr ht (TNs s - x) x h rfl hx FN.rf e7
  obtain ⟨h3, l1, l2, K2⟩ := r_nt_end (d := d) (k1.rm hr) ht k2 hd (rnF_le hx)
  refine ⟨h3, ?_, k1.tr l1, l2⟩
  intro N S Q hN hS hQ
  have hN : pn h ≤ N := by rw [← (k1.tr l1).1.n]; exact hN
  have hS : ps h ≤ S := by rw [← (k1.tr l1).1.s]; exact hS
  exact K1 none N S Q hN hS hd (K2 none N S Q (by rw [k1.1.n]; exact hN) (by rw [k1.1.s]; exact hS) hQ)

