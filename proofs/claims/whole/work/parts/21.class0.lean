/-! the class's cells: shapes, and what they tell -/
/-- a world at w: three rows behind it -/
def WoS (h : Hp) (w : Nat) : Prop := IO h 7 w ∧ pR h w 3 = some (w + 1) ∧ RwS h (w + 1) 3 5 ∧ pR h w 4 = some (w + 3) ∧ RwS h (w + 3) 6 12 ∧ pR h w 5 = some (w + 5) ∧ RwS h (w + 5) 2 30
/-- a market at b -/
def MkS (h : Hp) (b : Nat) : Prop := IO h 1 b ∧ (pR h b 0 = some (b + 1) ∧ WoS h (b + 1)) ∧ (pR h b 1 = some (b + 8) ∧ IA h 14 30 (b + 8)) ∧ (∀ i, i < 30 → pR h (b + 8) i = some (b + 18 + 7 * i) ∧ WoS h (b + 18 + 7 * i)) ∧ (pR h b 4 = some (b + 9) ∧ RwS h (b + 9) 2 8) ∧ (pR h b 5 = some (b + 11) ∧ RwS h (b + 11) 4 8) ∧ (pR h b 6 = some (b + 13) ∧ RwS h (b + 13) 2 8) ∧ (pR h b 7 = some (b + 15) ∧ RwS h (b + 15) 2 8) ∧ (pR h b 8 = some (b + 17) ∧ IA h 13 4 (b + 17))
/-- the class at 8 -/
def SC (h : Hp) : Prop := IO h 8 8 ∧ (pR h 8 0 = some 9 ∧ MkS h 9) ∧ (pR h 8 1 = some 237 ∧ MkS h 237) ∧ (pR h 8 2 = some 465 ∧ WoS h 465) ∧ (pR h 8 6 = some 487 ∧ IA h 10 300 487)
/-- an entry of the book as the class keeps it -/
def cvB (v : Nat) : Nat := ((v / 10000 % 4) * 12 + v / 40000) * 10000 + v % 10000
/-- a world's numbers: 0 how many prophets, 1 day, 2 drawn, 3 so, 4 prophecies, 5 the book's; then prophets, prophecies, book -/
def WV (h : Hp) (w : Nat) (W : Fl) : Prop := pI h w 0 = nI (W 1) ∧ pI h w 1 = nI (W 2) ∧ pI h w 2 = nI (W 3) ∧ RwC h (w + 1) 3 5 (W 0) ∧ (∀ i, i < W 0 * 3 → pI h (w + 2) i = nI (W (6 + i))) ∧ RwC h (w + 3) 6 12 (W 4) ∧ (∀ i, i < W 4 * 6 → pI h (w + 4) i = nI (W (21 + i))) ∧ RwC h (w + 5) 2 30 (W 5) ∧ (∀ i, i < W 5 → pI h (w + 6) (i * 2) = nI (W (93 + 2 * i)) ∧ pI h (w + 6) (i * 2 + 1) = nI (cvB (W (94 + 2 * i))))
/-- the world of the reference's row -/
def snap (a : Fl) (i : Nat) : Nat := if i = 0 then a 1 else if i < 6 then a (7 + i) else if i < 21 then a (13 + 5 * ((i - 6) / 3) + (i - 6) % 3) else if i < 93 then a (38 + (i - 21)) else a (4810 + (i - 93))
theorem pI_sI_ne {h : Hp} {k a i : Nat} {v : Int32} (hne : a ≠ k) : pI (sI h k i v) a = pI h a := by
  funext b
  rw [pI_sI, if_neg hne]
theorem pI_sA_ne {h : Hp} {k a : Nat} {f : Nat → Int32} (hne : a ≠ k) : pI (sA h k f) a = pI h a := by
  rw [pI_sA, if_neg hne]
theorem RwC.fr {h h1 : Hp} {k w ms n : Nat} (hc : RwC h k w ms n) (e : pI h1 k = pI h k) : RwC h1 k w ms n := by
  unfold RwC
  rw [e]
  exact hc
theorem RwC.grow {h : Hp} {k w ms n : Nat} (hc : RwC h k w ms n) (hn : n < ms) : RwC (growH h k w n) k w ms (n + 1) := by
  obtain ⟨c0, c1, c3, c4, c5, c6, c7⟩ := hc
  unfold growH RwC
  rw [pI_sA_ne (by omega)]
  refine ⟨?_, ?_, ?_, by omega, c5, c6, c7⟩
  · rw [pI_sI, if_pos rfl, if_neg (by omega)]; exact c0
  · rw [pI_sI, if_pos rfl, if_neg (by omega)]; exact c1
  · rw [pI_sI, if_pos rfl, if_pos rfl]
theorem growH_ss {h : Hp} {k w n : Nat} : SS h (growH h k w n) := rfl
theorem growH_ne {h : Hp} {k w n a : Nat} (h1 : a ≠ k) (h2 : a ≠ k + 1) : pI (growH h k w n) a = pI h a := by
  unfold growH
  rw [pI_sA_ne h2, pI_sI_ne h1]
theorem growH_at {h : Hp} {k w n j : Nat} : pI (growH h k w n) (k + 1) j = if n * w ≤ j ∧ j < n * w + w then 0 else pI h (k + 1) j := by
  unfold growH
  rw [pI_sA, if_pos rfl]
  unfold fillF
  rw [pI_sI_ne (by omega)]
theorem WV.fr {h h1 : Hp} {w : Nat} {W : Fl} (hw : WV h w W) (e : ∀ k, w ≤ k → k ≤ w + 6 → pI h1 k = pI h k) : WV h1 w W := by
  obtain ⟨w1, w2, w3, w4, w5, w6, w7, w8, w9⟩ := hw
  unfold WV
  rw [e w (by omega) (by omega), e (w + 2) (by omega) (by omega), e (w + 4) (by omega) (by omega), e (w + 6) (by omega) (by omega)]
  exact ⟨w1, w2, w3, w4.fr (e _ (by omega) (by omega)), w5, w6.fr (e _ (by omega) (by omega)), w7, w8.fr (e _ (by omega) (by omega)), w9⟩
theorem WV.cg {h : Hp} {w : Nat} {W W' : Fl} (hw : WV h w W) (e : ∀ i, i < 153 → W i = W' i) : WV h w W' := by
  obtain ⟨w1, w2, w3, w4, w5, w6, w7, w8, w9⟩ := hw
  have b0 := w4.2.2.2.1
  have b4 := w6.2.2.2.1
  have b5 := w8.2.2.2.1
  rw [e 0 (by omega)] at w4 w5 b0
  rw [e 1 (by omega)] at w1
  rw [e 2 (by omega)] at w2
  rw [e 3 (by omega)] at w3
  rw [e 4 (by omega)] at w6 w7 b4
  rw [e 5 (by omega)] at w8 w9 b5
  exact ⟨w1, w2, w3, w4, fun i hi => by rw [w5 i hi, e _ (by omega)], w6, fun i hi => by rw [w7 i hi, e _ (by omega)], w8, fun i hi => by rw [(w9 i hi).1, (w9 i hi).2, e (93 + 2 * i) (by omega), e (94 + 2 * i) (by omega)]; exact ⟨rfl, rfl⟩⟩
/-- rows that hold numbers from p on -/
def RwV (h : Hp) (k w ms n : Nat) (a : Fl) (p : Nat) : Prop := RwC h k w ms n ∧ ∀ i, i < n * w → pI h (k + 1) i = nI (a (p + i))
theorem RwV.fr {h h1 : Hp} {k w ms n p : Nat} {a : Fl} (hv : RwV h k w ms n a p) (e0 : pI h1 k = pI h k) (e1 : pI h1 (k + 1) = pI h (k + 1)) : RwV h1 k w ms n a p :=
  ⟨hv.1.fr e0, fun i hi => by rw [e1]; exact hv.2 i hi⟩
theorem RwV.cg {h : Hp} {k w ms n p : Nat} {a a' : Fl} (hv : RwV h k w ms n a p) (e : ∀ i, i < n * w → a (p + i) = a' (p + i)) : RwV h k w ms n a' p :=
  ⟨hv.1, fun i hi => by rw [hv.2 i hi, e i hi]⟩
/-- a market tells the reference's row a; its texts: what tx says of each text -/
def MV (h : Hp) (b : Nat) (a : Fl) (tx : Nat → Nat → Prop) : Prop := WV h (b + 1) (snap a) ∧ (∃ e, e < 30 ∧ pI h b 2 = nI e ∧ ∀ t, t < a 4 → WV h (b + 18 + 7 * ((e + t) % 30)) (fun i => a (190 + 154 * t + i))) ∧ pI h b 3 = nI (a 4) ∧ (∀ i, i < 30 → ∃ W, WV h (b + 18 + 7 * i) W) ∧ RwV h (b + 9) 2 8 (a 0) a 110 ∧ RwV h (b + 11) 4 8 (a 5) a 126 ∧ RwV h (b + 13) 2 8 (a 6) a 158 ∧ RwV h (b + 15) 2 8 (a 7) a 174 ∧ pI h b 9 = nI (a 2) ∧ pI h b 10 = cI a 3 ∧ (∀ t, t < a 2 → ∃ x, pR h (b + 17) t = some x ∧ tx t x)
theorem MkS.o {h : Hp} {b : Nat} (m : MkS h b) : IO h 1 b := m.1
theorem MkS.f0 {h : Hp} {b : Nat} (m : MkS h b) : pR h b 0 = some (b + 1) := m.2.1.1
theorem MkS.now {h : Hp} {b : Nat} (m : MkS h b) : WoS h (b + 1) := m.2.1.2
theorem MkS.f1 {h : Hp} {b : Nat} (m : MkS h b) : pR h b 1 = some (b + 8) := m.2.2.1.1
theorem MkS.past {h : Hp} {b : Nat} (m : MkS h b) : IA h 14 30 (b + 8) := m.2.2.1.2
theorem MkS.w {h : Hp} {b i : Nat} (m : MkS h b) (hi : i < 30) : pR h (b + 8) i = some (b + 18 + 7 * i) := (m.2.2.2.1 i hi).1
theorem MkS.wS {h : Hp} {b i : Nat} (m : MkS h b) (hi : i < 30) : WoS h (b + 18 + 7 * i) := (m.2.2.2.1 i hi).2
theorem MkS.f4 {h : Hp} {b : Nat} (m : MkS h b) : pR h b 4 = some (b + 9) := m.2.2.2.2.1.1
theorem MkS.facts {h : Hp} {b : Nat} (m : MkS h b) : RwS h (b + 9) 2 8 := m.2.2.2.2.1.2
theorem MkS.f5 {h : Hp} {b : Nat} (m : MkS h b) : pR h b 5 = some (b + 11) := m.2.2.2.2.2.1.1
theorem MkS.offers {h : Hp} {b : Nat} (m : MkS h b) : RwS h (b + 11) 4 8 := m.2.2.2.2.2.1.2
theorem MkS.f6 {h : Hp} {b : Nat} (m : MkS h b) : pR h b 6 = some (b + 13) := m.2.2.2.2.2.2.1.1
theorem MkS.heard {h : Hp} {b : Nat} (m : MkS h b) : RwS h (b + 13) 2 8 := m.2.2.2.2.2.2.1.2
theorem MkS.f7 {h : Hp} {b : Nat} (m : MkS h b) : pR h b 7 = some (b + 15) := m.2.2.2.2.2.2.2.1.1
theorem MkS.owed {h : Hp} {b : Nat} (m : MkS h b) : RwS h (b + 15) 2 8 := m.2.2.2.2.2.2.2.1.2
theorem MkS.f8 {h : Hp} {b : Nat} (m : MkS h b) : pR h b 8 = some (b + 17) := m.2.2.2.2.2.2.2.2.1
theorem MkS.texts {h : Hp} {b : Nat} (m : MkS h b) : IA h 13 4 (b + 17) := m.2.2.2.2.2.2.2.2.2
theorem SS.wo {h h1 : Hp} {w : Nat} (hs : SS h h1) (hw : WoS h w) : WoS h1 w := by
  obtain ⟨w1, w2, w3, w4, w5, w6, w7⟩ := hw
  exact ⟨hs.O w1, by rw [hs.R]; exact w2, hs.rw w3, by rw [hs.R]; exact w4, hs.rw w5, by rw [hs.R]; exact w6, hs.rw w7⟩
theorem SS.mk {h h1 : Hp} {b : Nat} (hs : SS h h1) (hm : MkS h b) : MkS h1 b := by
  obtain ⟨m1, m2, m3, m4, m5, m6, m7, m8, m9⟩ := hm
  have e := hs.R
  exact ⟨hs.O m1, ⟨by rw [e]; exact m2.1, hs.wo m2.2⟩, ⟨by rw [e]; exact m3.1, hs.A m3.2⟩, fun i hi => ⟨by rw [e]; exact (m4 i hi).1, hs.wo (m4 i hi).2⟩, ⟨by rw [e]; exact m5.1, hs.rw m5.2⟩, ⟨by rw [e]; exact m6.1, hs.rw m6.2⟩, ⟨by rw [e]; exact m7.1, hs.rw m7.2⟩, ⟨by rw [e]; exact m8.1, hs.rw m8.2⟩, ⟨by rw [e]; exact m9.1, hs.A m9.2⟩⟩
/-- only cells from lo to hi have changed, in whole numbers alone -/
def FR (lo hi : Nat) (h h1 : Hp) : Prop := SS h h1 ∧ pJ h1 = pJ h ∧ ∀ k, (k < lo ∨ hi < k) → pI h1 k = pI h k
theorem FR.rf {lo hi : Nat} {h : Hp} : FR lo hi h h := ⟨rfl, rfl, fun _ _ => rfl⟩
theorem FR.tr {lo hi : Nat} {a b c : Hp} (h1 : FR lo hi a b) (h2 : FR lo hi b c) : FR lo hi a c := ⟨h1.1.tr h2.1, h2.2.1.trans h1.2.1, fun k hk => (h2.2.2 k hk).trans (h1.2.2 k hk)⟩
theorem FR.sI {lo hi k i : Nat} {v : Int32} {h h1 : Hp} (hf : FR lo hi h h1) (hk : lo ≤ k ∧ k ≤ hi) : FR lo hi h (sI h1 k i v) := ⟨hf.1, hf.2.1, fun j hj => by rw [pI_sI_ne (by omega)]; exact hf.2.2 j hj⟩
theorem FR.sA {lo hi k : Nat} {f : Nat → Int32} {h h1 : Hp} (hf : FR lo hi h h1) (hk : lo ≤ k ∧ k ≤ hi) : FR lo hi h (sA h1 k f) := ⟨hf.1, hf.2.1, fun j hj => by rw [pI_sA_ne (by omega)]; exact hf.2.2 j hj⟩
theorem FR.grow {lo hi k w n : Nat} {h h1 : Hp} (hf : FR lo hi h h1) (hk : lo ≤ k ∧ k + 1 ≤ hi) : FR lo hi h (growH h1 k w n) := (hf.sI (by omega)).sA (by omega)
theorem FR.wide {lo hi lo' hi' : Nat} {h h1 : Hp} (hf : FR lo hi h h1) (h1' : lo' ≤ lo) (h2 : hi ≤ hi') : FR lo' hi' h h1 := ⟨hf.1, hf.2.1, fun k hk => hf.2.2 k (by omega)⟩
/-- one more row of two numbers -/
theorem RwV.add2 {h : Hp} {k ms n p x y : Nat} {a a' : Fl} (hv : RwV h k 2 ms n a p) (hn : n < ms) (e : ∀ i, i < n * 2 → a' (p + i) = a (p + i)) (ex : a' (p + n * 2) = x) (ey : a' (p + (n * 2 + 1)) = y) : RwV (sI (sI (growH h k 2 n) (k + 1) (n * 2 + 0) (nI x)) (k + 1) (n * 2 + 1) (nI y)) k 2 ms (n + 1) a' p := by
  refine ⟨?_, fun i hi => ?_⟩
  · refine (hv.1.grow hn).fr ?_
    rw [pI_sI_ne (by omega), pI_sI_ne (by omega)]
  · rw [pI_sI, if_pos rfl]
    by_cases h1 : i = n * 2 + 1
    · rw [if_pos h1, h1, ey]
    · rw [if_neg h1, pI_sI, if_pos rfl]
      by_cases h2 : i = n * 2 + 0
      · rw [if_pos h2, h2, Nat.add_zero, ex]
      · rw [if_neg h2, growH_at, if_neg (by omega), hv.2 i (by omega), e i (by omega)]
