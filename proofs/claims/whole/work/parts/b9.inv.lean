/-! what holds between the law's steps (wip/whole/genb9.py) -/
theorem SCR.fr {h h1 : Hp} {L : Nat} {xs : Nat → Int32} (c : SCR h L xs) (n : pn h1 = pn h) (k : pK h1 = pK h) (e : pI h1 1 = pI h 1) : SCR h1 L xs := ⟨by rw [n]; exact c.1, by rw [k]; exact c.2.1, fun i hi => by rw [e]; exact c.2.2 i hi⟩
theorem CS.fr {h h1 : Hp} (c : CS h) (hs : SS h h1) (e : ∀ k, 465 ≤ k → k ≤ 471 → pI h1 k = pI h k) : CS h1 := by
  obtain ⟨W, w⟩ := c.2.2
  exact c.sc hs (w.fr e)
theorem RM.fr {s : Ms} {h h1 : Hp} (hr : RM s h) (m : SM h1) (e : ∀ k, 488 ≤ k → k ≤ 492 → pI h1 k = pI h k) : RM s h1 := by
  obtain ⟨_, r1, r2, r3, r4, r5, r6, r7, r8⟩ := hr
  exact ⟨m, fun i hi => by rw [e 489 (by omega) (by omega)]; exact r1 i hi, fun i hi => by rw [e 490 (by omega) (by omega)]; exact r2 i hi, fun i hi => by rw [e 492 (by omega) (by omega)]; exact r3 i hi, by rw [e 488 (by omega) (by omega)]; exact r4, by rw [e 488 (by omega) (by omega)]; exact r5, by rw [e 488 (by omega) (by omega)]; exact r6, fun i hi => by rw [e 491 (by omega) (by omega)]; exact r7 i hi, by rw [e 488 (by omega) (by omega)]; exact r8⟩
theorem MV.fb {h h1 : Hp} {b : Nat} {a : Fl} {tx tx2 : Nat → Nat → Prop} (hv : MV h b a tx) (h4 : a 4 ≤ 30) (hR : pR h1 = pR h) (fr : ∀ k, b ≤ k → k ≤ b + 227 → pI h1 k = pI h k) (ht2 : ∀ t x, tx t x → tx2 t x) : MV h1 b a tx2 := by
  obtain ⟨v1, ⟨e, e1, e2, e3⟩, v3, v4, v5, v6, v7, v8, v9, v10, v11⟩ := hv
  exact ⟨v1.fr (fun k k1 k2 => fr k (by omega) (by omega)), ⟨e, e1, by rw [fr b (by omega) (by omega)]; exact e2, fun t ht => (e3 t ht).fr (fun k k1 k2 => fr k (by omega) (by have := Nat.mod_lt (e + t) (show 0 < 30 by omega); omega))⟩, by rw [fr b (by omega) (by omega)]; exact v3, fun i hi => by
    obtain ⟨W, w⟩ := v4 i hi
    exact ⟨W, w.fr (fun k k1 k2 => fr k (by omega) (by omega))⟩, v5.fr (fr _ (by omega) (by omega)) (fr _ (by omega) (by omega)), v6.fr (fr _ (by omega) (by omega)) (fr _ (by omega) (by omega)), v7.fr (fr _ (by omega) (by omega)) (fr _ (by omega) (by omega)), v8.fr (fr _ (by omega) (by omega)) (fr _ (by omega) (by omega)), by rw [fr b (by omega) (by omega)]; exact v9, by rw [fr b (by omega) (by omega)]; exact v10, fun t ht => by
    obtain ⟨x, x1, x2⟩ := v11 t ht
    exact ⟨x, by rw [hR]; exact x1, ht2 _ _ x2⟩⟩
/-- the class but for its own market -/
def CO (q : Fl × Fl × Nat × Int32 × Int32 × (Nat → Int32)) (h : Hp) : Prop := CS h ∧ CK h ∧ CR h ∧ MkS h 237 ∧ (pR h 8 1 = some 237 ∧ pR h 8 3 = some 472 ∧ pR h 8 5 = some 484 ∧ pR h 8 6 = some 487) ∧ IA h 10 300 487 ∧ MV h 237 q.1 (TXC h q.2.2.2.2.2) ∧ TV h q.2.1 q.2.2.1 ∧ pI h 8 8 = q.2.2.2.1 ∧ pI h 8 9 = q.2.2.2.2.1
theorem CO.fr {q : Fl × Fl × Nat × Int32 × Int32 × (Nat → Int32)} {h h1 : Hp} (c : CO q h) (hs : SS h h1) (h4 : q.1 4 ≤ 30) (cs : CS h1) (e8 : pI h1 8 = pI h 8) (e : ∀ k, 237 ≤ k → k ≤ 464 → pI h1 k = pI h k) (et : pI h1 487 = pI h 487) (ex : ∀ k, 501 ≤ k → pI h1 k = pI h k) : CO q h1 := by
  obtain ⟨_, c2, c3, c4, ⟨r1, r2, r3, r4⟩, c5, c6, c7, c8, c9⟩ := c
  exact ⟨cs, hs.ck c2, hs.cr c3, hs.mk c4, ⟨by rw [hs.R]; exact r1, by rw [hs.R]; exact r2, by rw [hs.R]; exact r3, by rw [hs.R]; exact r4⟩, hs.A c5, c6.fb h4 hs.R (fun k k1 k2 => e k k1 (by omega)) (fun t x q => q.fr hs ex), ⟨fun i hi => by rw [et]; exact c7.1 i hi, by rw [e8]; exact c7.2⟩, by rw [e8]; exact c8, by rw [e8]; exact c9⟩
/-- the class -/
def CLS (s : Ms) (h : Hp) : Prop := CZ h s.1 s.2.2.2.2.2.2 ∧ CO s.2 h
theorem CLS.fm {s : Ms} {h h1 : Hp} (c : CLS s h) (h4 : s.1 4 ≤ 30) (h4i : s.2.1 4 ≤ 30) (f : FM h h1) : CLS s h1 :=
  ⟨⟨f.1.cb c.1.1, c.1.2.fr h4 f.1.R (fun k k1 k2 => (f.2 k (by omega)).1) (fun t x q => q.fr f.1 (fun k hk => (f.2 k (by omega)).1))⟩, c.2.fr f.1 h4i (c.2.1.fr f.1 (fun k k1 k2 => (f.2 k (by omega)).1)) (f.2 8 (by omega)).1 (fun k k1 k2 => (f.2 k (by omega)).1) (f.2 487 (by omega)).1 (fun k hk => (f.2 k (by omega)).1)⟩
/-- what holds of a row, whatever was done -/
def PA (tf : Nat → Int32) (a : Fl) : Prop := JY tf a ∧ IU a ∧ IOf a ∧ IH a ∧ IO7 a ∧ (∀ t, t < a 4 → IW (a 0) (fun i => a (190 + 154 * t + i))) ∧ IT tf a ∧ ∀ t, t < a 2 → TXB tf t
def PI (s : Ms) : Prop := PA s.2.2.2.2.2.2 s.1 ∧ PA s.2.2.2.2.2.2 s.2.1 ∧ ITp s ∧ s.2.1 2 ≤ s.1 2
theorem PI.c {s : Ms} (p : PI s) : IC s.1 ∧ IC s.2.1 := ⟨p.1.1.1.1, p.2.1.1.1.1⟩
/-- what holds after c steps -/
def INV (L : Nat) (xs : Nat → Int32) (P0 c : Nat) (h : Hp) : Prop := ∃ s : Ms, RM s h ∧ CLS s h ∧ PI s ∧ SCR h L xs ∧ 501 ≤ pn h ∧ pn h ≤ 501 + 28 * c ∧ ps h ≤ P0 + 7700 * c
theorem INV.s {L P0 : Nat} {xs : Nat → Int32} (c : Nat) (h : Hp) (i : INV L xs P0 c h) : INV L xs P0 (c + 1) h := by
  obtain ⟨s, i1, i2, i3, i4, i5, i6, i7⟩ := i
  exact ⟨s, i1, i2, i3, i4, i5, by omega, by omega⟩
theorem INV.o {L P0 : Nat} {xs : Nat → Int32} (c : Nat) (h : Hp) (i : INV L xs P0 c h) : IO h 8 8 ∧ SCR h L xs := by
  obtain ⟨s, i1, i2, i3, i4, i5, i6, i7⟩ := i
  exact ⟨i2.1.1.1, i4⟩
/-- a step out of the class's contract and the reference's -/
theorem pr_I {L P0 N S c : Nat} {xs : Nat → Int32} {s' : Ms} {M8 M9 : Mi} {as : List Value} {x : Int32} {h h1 : Hp} (sp : Sp 139 M8 (.ref 8 :: as) h (some (.int x)) h1) (rk : rok M8.2.2.2 (some (.int x))) (en : pn h1 = pn h) (es : ps h1 = ps h) (n5 : 501 ≤ pn h) (nc : pn h ≤ 501 + 28 * c) (sc : ps h ≤ P0 + 7700 * c) (hN : pn h ≤ N) (hS : ps h ≤ S) (m9 : IO h1 9 488) (sr : SCR h1 L xs) (cl : CLS s' h1) (p : PI s') (rf : ∃ h2, Sp 139 M9 (.ref 488 :: as) h1 (some (.int x)) h2 ∧ RM s' h2 ∧ FM h1 h2) : PrI L xs (INV L xs P0) N S c M8 M9 as h := by
  obtain ⟨h2, s2, r2, f2⟩ := rf
  refine ⟨x, h1, sp, rk, ⟨by omega, by omega, by omega, by omega⟩, m9, sr, ?_⟩
  intro N' S' Q hN' hS' hQ
  refine s2 N' S' Q (by rw [f2.1.n]; exact hN') (by rw [f2.1.s]; exact hS') (hQ _ _ ⟨rfl, f2.1, s', r2, cl.fm p.c.1.2.2.2.2.1 p.c.2.2.2.2.2.1 f2, p, sr.fr f2.1.n f2.1.K (f2.2 1 (by omega)).1, by rw [f2.1.n]; omega, by rw [f2.1.n]; omega, by rw [f2.1.s]; omega⟩)

