/-! days: what stays in its bounds (wip/whole/gen69.py) -/
theorem MV.now2 {h h1 : Hp} {b : Nat} {a a' : Fl} {tx tx2 : Nat → Nat → Prop} (hv : MV h b a tx) (h4 : a 4 ≤ 30) (hR : pR h1 = pR h) (fr : ∀ k, (k < b + 1 ∨ b + 7 < k) → b ≤ k → k ≤ b + 227 → pI h1 k = pI h k) (ht2 : ∀ t x, tx t x → tx2 t x) (g : ∀ i, (i = 0 ∨ (2 ≤ i ∧ i ≤ 7) ∨ (110 ≤ i ∧ i < 4810)) → a' i = a i) (hn : WV h1 (b + 1) (snap a')) : MV h1 b a' tx2 := by
  obtain ⟨v1, ⟨e, v2, v2b, v2c⟩, v3, v4, vF, v6, v7, v8, v9, v10, v11⟩ := hv
  refine ⟨hn, ⟨e, v2, by rw [fr _ (by omega) (by omega) (by omega)]; exact v2b, fun t ht => ?_⟩, ?_, fun i hi => ?_, vF.keep (fr _ (by omega) (by omega) (by omega)) (fr _ (by omega) (by omega) (by omega)) (g 0 (by omega)) (fun i q1 q2 => g i (by omega)), v6.keep (fr _ (by omega) (by omega) (by omega)) (fr _ (by omega) (by omega) (by omega)) (g 5 (by omega)) (fun i q1 q2 => g i (by omega)), v7.keep (fr _ (by omega) (by omega) (by omega)) (fr _ (by omega) (by omega) (by omega)) (g 6 (by omega)) (fun i q1 q2 => g i (by omega)), v8.keep (fr _ (by omega) (by omega) (by omega)) (fr _ (by omega) (by omega) (by omega)) (g 7 (by omega)) (fun i q1 q2 => g i (by omega)), ?_, ?_, fun t ht => ?_⟩
  · rw [g 4 (by omega)] at ht
    refine ((v2c t ht).fr (fun k q1 q2 => fr k (by omega) (by omega) (by omega))).cg (fun i hi => ?_)
    rw [g _ (by omega)]
  · rw [fr _ (by omega) (by omega) (by omega), g 4 (by omega)]; exact v3
  · obtain ⟨W, hW⟩ := v4 i hi
    exact ⟨W, hW.fr (fun k q1 q2 => fr k (by omega) (by omega) (by omega))⟩
  · rw [fr _ (by omega) (by omega) (by omega), g 2 (by omega)]; exact v9
  · rw [fr _ (by omega) (by omega) (by omega), v10]
    unfold cI
    rw [if_pos rfl, if_pos rfl, g 3 (by omega)]
  · rw [g 2 (by omega)] at ht
    rw [hR]
    obtain ⟨x, q1, q2⟩ := v11 t ht
    exact ⟨x, q1, ht2 t x q2⟩

theorem MV.fr {h h1 : Hp} {a : Fl} {tx tx2 : Nat → Nat → Prop} (hv : MV h 9 a tx) (h4 : a 4 ≤ 30) (hR : pR h1 = pR h) (fr : ∀ k, 9 ≤ k → k ≤ 236 → pI h1 k = pI h k) (ht2 : ∀ t x, tx t x → tx2 t x) : MV h1 9 a tx2 := hv.now2 h4 hR (fun k _ h1 h2 => fr k h1 h2) ht2 (fun _ _ => rfl) (hv.1.fr (fun k h1 h2 => fr k (by omega) (by omega)))
theorem IW.cg {n : Nat} {W W' : Fl} (h : IW n W) (e : ∀ i, i < 153 → W' i = W i) : IW n W' := by
  obtain ⟨⟨b0, b1, b2, b3, b4, b5⟩, bp, bc, bb⟩ := h
  refine ⟨⟨?_, ?_, ?_, ?_, ?_, ?_⟩, fun p hp => ?_, fun k hk => ?_, fun j hj => ?_⟩
  · rw [e 0 (by omega)]; exact b0
  · rw [e 1 (by omega)]; exact b1
  · rw [e 2 (by omega)]; exact b2
  · rw [e 3 (by omega)]; exact b3
  · rw [e 4 (by omega)]; exact b4
  · rw [e 5 (by omega)]; exact b5
  · rw [e 0 (by omega)] at hp
    rw [e _ (by unfold ppx; omega), e _ (by unfold ppx; omega), e _ (by unfold ppx; omega)]; exact bp p hp
  · rw [e 4 (by omega)] at hk
    have g : ∀ c, c < 6 → W' (pcx k c) = W (pcx k c) := fun c hc => e _ (by unfold pcx; omega)
    rw [e 0 (by omega), g 0 (by omega), g 1 (by omega), g 2 (by omega), g 3 (by omega), g 4 (by omega), g 5 (by omega)]
    exact bc k hk
  · rw [e 5 (by omega)] at hj
    rw [e _ (by omega), e _ (by omega)]; exact bb j hj
theorem IW.mono {n m : Nat} {W : Fl} (h : IW n W) (hm : n ≤ m) : IW m W := by
  obtain ⟨⟨b0, b1, b2, b3, b4, b5⟩, bp, bc, bb⟩ := h
  have p := Nat.pow_le_pow_right (n := 2) (by omega) hm
  refine ⟨⟨b0, b1, b2, by omega, b4, b5⟩, bp, fun k hk => ?_, bb⟩
  have := bc k hk
  exact ⟨this.1, this.2.1, this.2.2.1, by omega, this.2.2.2.2.1, this.2.2.2.2.2⟩
/-- what days need: counts, the world, facts, the text that rules -/
def JD (tf : Nat → Int32) (a : Fl) : Prop := IC a ∧ IW (a 0) (snap a) ∧ IFc a ∧ (a 3 ≠ 0 → TXV tf (a 3 - 1))
theorem JD.keep {tf : Nat → Int32} {a : Fl} (h : JD tf a) : JD tf (mKeep a) := by
  obtain ⟨h1, h2, h3, h4⟩ := h
  have q4 := h1.2.2.2.2.1
  have g : ∀ i, i < 190 → i ≠ 4 → mKeep a i = a i := fun i hi h4 => mKeep_out q4 h4 (by omega)
  have b0 := h1.1
  refine ⟨IC.keep h1, ?_, ?_, ?_⟩
  · rw [g 0 (by omega) (by omega)]
    exact h2.cg (fun i hi => snap_keep q4 hi)
  · intro f hf
    rw [g 0 (by omega) (by omega)] at hf
    rw [g _ (by omega) (by omega), g _ (by omega) (by omega)]
    exact h3 f hf
  · rw [g 3 (by omega) (by omega)]; exact h4
theorem JD.un {tf : Nat → Int32} {a W : Fl} (h : JD tf a) (hW : IW (a 0) W) : JD tf (uns a W) := by
  obtain ⟨h1, h2, h3, h4⟩ := h
  have o : ∀ i, i ≠ 1 ∧ (i < 8 ∨ (110 ≤ i ∧ i < 4810)) → uns a W i = a i := fun i hi => uns_o hi
  have w : ∀ j, j < 153 → uns a W (wx j) = W j := fun j hj => uns_wx hj
  have b0 := h1.1
  have p2 : 2 ^ a 0 ≤ 2 ^ 8 := Nat.pow_le_pow_right (by omega) b0
  have e0 := o 0 (by omega)
  refine ⟨?_, ?_, ?_, ?_⟩
  · obtain ⟨c0, c1, c2, c3, c4, c5, c6, c7, c8, c9, c10, c11, c12⟩ := h1
    obtain ⟨⟨d0, d1, d2, d3, d4, d5⟩, _, _, _⟩ := hW
    unfold IC
    rw [e0, o 2 (by omega), o 3 (by omega), o 4 (by omega), o 5 (by omega), o 6 (by omega), o 7 (by omega), show uns a W 1 = W 0 from w 0 (by omega), show uns a W 8 = W 1 from w 1 (by omega), show uns a W 9 = W 2 from w 2 (by omega), show uns a W 10 = W 3 from w 3 (by omega), show uns a W 11 = W 4 from w 4 (by omega), show uns a W 12 = W 5 from w 5 (by omega)]
    exact ⟨c0, d0, c2, c3, c4, c5, c6, c7, d1, d2, by omega, d4, d5⟩
  · rw [e0]
    exact hW.cg (fun i hi => snap_uns hi)
  · intro f hf
    rw [e0] at hf
    rw [o _ (by omega), o _ (by omega)]
    exact h3 f hf
  · rw [o 3 (by omega)]; exact h4
def mPass (tf : Nat → Int32) (a : Fl) : Fl := uns a (wPass 1 tf a (snap a))
def mPassE (tf : Nat → Int32) (a : Fl) : Nat := ePass 1 tf a (snap a)
theorem mPass_8 {tf : Nat → Int32} {a : Fl} : mPass tf a 8 = wPass 1 tf a (snap a) 1 := uns_wx (j := 1) (by omega)
theorem JD.pass {tf : Nat → Int32} {a : Fl} (h : JD tf a) (hd : a 8 < 9999) : JD tf (mPass tf a) ∧ mPass tf a 8 = a 8 + 1 := by
  obtain ⟨p1, p2⟩ := iw_pass (b := 1) (tf := tf) (a := a) h.2.1 rfl hd
  exact ⟨h.un p1, by rw [mPass_8, p2]; rfl⟩
def dyA (tf : Nat → Int32) : Nat → Fl → Fl
  | 0, a => a
  | i + 1, a => mPass tf (mKeep (dyA tf i a))
def dyE (tf : Nat → Int32) : Nat → Fl → Nat
  | 0, _ => 0
  | i + 1, a => dyE tf i a + mPassE tf (mKeep (dyA tf i a))
theorem mKeep_8 {a : Fl} (h4 : a 4 ≤ 30) : mKeep a 8 = a 8 := mKeep_out h4 (by omega) (by omega)
theorem JD.days {tf : Nat → Int32} {a : Fl} (h : JD tf a) : ∀ i, a 8 + i ≤ 9999 → JD tf (dyA tf i a) ∧ dyA tf i a 8 = a 8 + i := by
  intro i
  induction i with
  | zero => intro _; exact ⟨h, rfl⟩
  | succ i ih =>
    intro hi
    obtain ⟨h1, h2⟩ := ih (by omega)
    have k8 := mKeep_8 h1.1.2.2.2.2.1
    obtain ⟨p1, p2⟩ := h1.keep.pass (by rw [k8, h2]; omega)
    exact ⟨p1, by show mPass tf (mKeep (dyA tf i a)) 8 = _; rw [p2, k8, h2]; omega⟩
theorem enK_le {W : Fl} {k : Nat} : enK W k ≤ 1 := by unfold enK; split <;> omega
theorem eK_le {b t1 : Nat} {tf : Nat → Int32} {W : Fl} : ∀ i, eK b tf t1 i W ≤ i := by
  intro i
  induction i with
  | zero => exact Nat.le_refl _
  | succ i ih => show eK b tf t1 i W + enK _ i ≤ i + 1; have := enK_le (W := pKs b tf t1 i W) (k := i); omega
theorem mPassE_le {tf : Nat → Int32} {a : Fl} (h : a 11 ≤ 12) : mPassE tf a ≤ 12 := Nat.le_trans (eK_le _) h
def mDay (tf : Nat → Int32) (a : Fl) (n : Int32) : Int32 × Fl := if inr n 1 60 ∧ a 8 + nn n ≤ 9999 then (nI (dyE tf (nn n) a), dyA tf (nn n) a) else (-1, a)

