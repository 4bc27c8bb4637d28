/-! text keeps what holds (wip/whole/gend6.py) -/
theorem k_text {L P0 N S c : Nat} {xs : Nat → Int32} {h : Hp} (i : INV L xs P0 c h) (hN : 501 + 28 * (c + 1) ≤ N) (hS : P0 + 7700 * (c + 1) ≤ S) : PrI L xs (INV L xs P0) N S c mX8_text mX9_text [] h := by
  obtain ⟨s, hr, cl, p, sr, n5, nc, sc⟩ := i
  obtain ⟨o8, x0, x4, rk, mk, z0⟩ := cl.1.1
  obtain ⟨x1, x3, x5, x6⟩ := cl.2.2.2.2.2.1
  have cr := cl.2.2.2.1
  have tp := p.2.2.1
  have e9 : pI h 9 9 = nI (s.1 2) := cl.1.2.2.2.2.2.2.2.2.2.1
  by_cases q4 : s.1 2 = 4
  · exact pr_I (C_text4 (tp := s.2.2.1) (tn := s.2.2.2.1) o8 x0 x3 x6 mk cr e9 q4) rok_i rfl rfl n5 nc sc (by omega) (by omega) hr.1.o sr cl p ⟨h, R_text4 hr q4, hr, FM.rf⟩
  have q4 : s.1 2 < 4 := by have := p.c.1.2.2.1; omega
  have tb : TB4 h s.2.2.1 := ⟨cl.2.2.2.2.2.2.1, cl.2.2.2.2.2.2.2.2.1.1, tp.2⟩
  have e7 : pI h 8 7 = nI s.2.2.2.1 := cl.2.2.2.2.2.2.2.2.1.2
  have fin : ∀ (h2 : Hp) (s' : Ms), FTx (s.1 2) h h2 → pn h2 ≤ pn h + 28 → ps h2 ≤ ps h + 7700 → CLS s' h2 → PI s' → ∀ h3, FM h2 h3 → RM s' h3 → INV L xs P0 (c + 1) h3 := fun h2 s' f b1 b2 c2 p2 h3 f3 r3 => by
    have s1 := sr.1
    have ex := f.1.1
    have m1 : 501 ≤ pn h2 := Nat.le_trans n5 ex
    have m2 : pn h2 ≤ 501 + 28 * (c + 1) := by omega
    have m3 : ps h2 ≤ P0 + 7700 * (c + 1) := Nat.le_trans b2 (Nat.le_trans (Nat.add_le_add_right sc 7700) (Nat.le_of_eq (by rw [Nat.mul_add, Nat.mul_one, Nat.add_assoc])))
    refine ⟨s', r3, c2.fm p2.c.1.2.2.2.2.1 p2.c.2.2.2.2.2.1 f3, p2, SCR.fr (h := h2) ⟨by omega, by rw [f.1.2 1 (by omega)]; exact sr.2.1, fun j hj => by rw [f.I (by omega) (by omega) (by omega) (by omega)]; exact sr.2.2 j hj⟩ f3.1.n f3.1.K (f3.2 1 (by omega)).1, Nat.le_trans m1 (Nat.le_of_eq f3.1.n.symm), Nat.le_trans (Nat.le_of_eq f3.1.n) m2, Nat.le_trans (Nat.le_of_eq f3.1.s) m3⟩
  by_cases hz : (rdT (tK (TPs s) (TNs s)) (wN s) 25 [] 0).1 = 0
  · obtain ⟨h2, s1, f, g9, g26, g7, g8, gp, cr2, ds, dl, b1, b2⟩ := C_textY (d := 139) o8 x0 x3 x6 mk cr e9 tb e7 tp.1 n5 z0 q4 (Nat.le_of_ble_eq_true rfl) hz
    have ex := f.1.1
    have sr1 := sr.1
    refine ⟨nI (s.1 2), h2, s1, rok_i, ⟨ex, f.2.1, by omega, by omega⟩, f.1.O hr.1.o, ⟨by omega, by rw [f.1.2 1 (by omega)]; exact sr.2.1, fun j hj => by rw [f.I (by omega) (by omega) (by omega) (by omega)]; exact sr.2.2 j hj⟩, ?_⟩
    have hr2 : RM s h2 := hr.fr (f.sm n5 hr.1) (fun k k1 k2 => f.I (by omega) (by omega) (by omega) (by omega))
    have rt := R_text (d := 139) hr2 tp q4 (Nat.le_of_ble_eq_true rfl)
    intro N' S' Q hN' hS' hQ
    refine rt N' S' Q hN' hS' (fun r h3 q => ?_)
    obtain ⟨fm, tf1, ag, ⟨_, rr, xm, r3⟩ | ⟨nz, _⟩⟩ := q
    · have ok := rdT_ok (K := tK (TPs s) (TNs s)) (W := wN s) (n := TNs s) (tk_lt tp) tp.1 25 [] 0 (Nat.zero_le _) rfl (Nat.zero_le _) (fun p hp => absurd hp List.not_mem_nil) (Nat.zero_le _)
      obtain ⟨l24, wf, w3⟩ := ok.2 hz
      have z2 := rdT_v (K := tK (TPs s) (TNs s)) (W := wN s) 25 [] 0 (fun p hp => absurd hp List.not_mem_nil)
      have tv := txm_v xm l24 w3 wf z2
      have tbb := txm_b xm l24 wf
      have tc := txm_c xm l24 w3 wf z2 ds dl
      have ea : ∀ i, i ≠ 2 → up s.1 2 (s.1 2 + 1) i = s.1 i := fun i hi => up_n hi
      have e2 : up s.1 2 (s.1 2 + 1) 2 = s.1 2 + 1 := up_s
      have pa := (p.1.tfx (Nat.le_refl _) ag).up2 q4 ea e2 tv tbb
      have pi := p.2.1.tfx p.2.2.2 ag
      have c2 := f.cls (tf1 := tf1) n5 cl p rfl cr2 g7 g8 gp ea (by rw [e2]; exact g9) (Or.inr ⟨e2, _, g26, tc⟩) ag
      exact hQ _ _ ⟨rr, fm.1, fin h2 _ f b1 b2 c2 ⟨pa, pi, ⟨Nat.zero_le _, tp.2⟩, by show s.2.1 2 ≤ up s.1 2 (s.1 2 + 1) 2; rw [e2]; have := p.2.2.2; omega⟩ h3 fm r3⟩
    · exact absurd hz nz
  · obtain ⟨h2, s1, f, g9, g26, g7, g8, gp, cr2, b1, b2⟩ := C_textF (d := 139) o8 x0 x3 x6 mk cr e9 tb e7 tp.1 n5 z0 q4 (Nat.le_of_ble_eq_true rfl) hz
    have ex := f.1.1
    have sr1 := sr.1
    refine ⟨-1, h2, s1, rok_i, ⟨ex, f.2.1, by omega, by omega⟩, f.1.O hr.1.o, ⟨by omega, by rw [f.1.2 1 (by omega)]; exact sr.2.1, fun j hj => by rw [f.I (by omega) (by omega) (by omega) (by omega)]; exact sr.2.2 j hj⟩, ?_⟩
    have hr2 : RM s h2 := hr.fr (f.sm n5 hr.1) (fun k k1 k2 => f.I (by omega) (by omega) (by omega) (by omega))
    have rt := R_text (d := 139) hr2 tp q4 (Nat.le_of_ble_eq_true rfl)
    intro N' S' Q hN' hS' hQ
    refine rt N' S' Q hN' hS' (fun r h3 q => ?_)
    obtain ⟨fm, tf1, ag, ⟨yz, _⟩ | ⟨_, rr, r3⟩⟩ := q
    · exact absurd yz hz
    · have pa := p.1.tfx (Nat.le_refl _) ag
      have pi := p.2.1.tfx p.2.2.2 ag
      have c2 := f.cls (tf1 := tf1) n5 cl p rfl cr2 g7 g8 gp (fun i _ => rfl) g9 (Or.inl rfl) ag
      exact hQ _ _ ⟨rr, fm.1, fin h2 _ f b1 b2 c2 ⟨pa, pi, ⟨Nat.zero_le _, tp.2⟩, p.2.2.2⟩ h3 fm r3⟩

