/-! what stays in its bounds when facts, prophets, words are told; the model of played (wip/whole/gen77.py) -/
theorem vin_nn {x : Int32} {n : Nat} (hn : n < 2 ^ 31) (h : vin x n) : nn x < n ∧ x = nI (nn x) := by
  obtain ⟨j, hj, rfl⟩ := vin_of hn h
  rw [nn_nI (by omega)]
  exact ⟨hj, rfl⟩
theorem inr_nn {x : Int32} {n : Nat} (hn : n < 2 ^ 31) (h : inr x 0 (nI n)) : nn x ≤ n ∧ x = nI (nn x) := by
  obtain ⟨j, hj, rfl⟩ := inr_of hn h
  rw [nn_nI (by omega)]
  exact ⟨hj, rfl⟩
theorem JD.cg {tf : Nat → Int32} {a a' : Fl} (h : JD tf a) (e : ∀ i, (i < 110 ∨ 4810 ≤ i) → i ≠ 4 → i ≠ 5 → i ≠ 6 → i ≠ 7 → i ≠ 0 → a' i = a i) (c : a' 4 ≤ 30 ∧ a' 5 ≤ 8 ∧ a' 6 ≤ 8 ∧ a' 7 ≤ 8) (h0 : a 0 ≤ a' 0 ∧ a' 0 ≤ 8) (hf : IFc a') : JD tf a' := by
  obtain ⟨h1, h2, h3, h4⟩ := h
  obtain ⟨c0, c1, c2, c3, c4, c5, c6, c7, c8, c9, c10, c11, c12⟩ := h1
  have g : ∀ i, (i < 110 ∨ 4810 ≤ i) → i ≠ 4 → i ≠ 5 → i ≠ 6 → i ≠ 7 → i ≠ 0 → a' i = a i := e
  refine ⟨?_, ?_, hf, ?_⟩
  · unfold IC
    rw [g 1 (by omega) (by omega) (by omega) (by omega) (by omega) (by omega), g 2 (by omega) (by omega) (by omega) (by omega) (by omega) (by omega), g 3 (by omega) (by omega) (by omega) (by omega) (by omega) (by omega), g 8 (by omega) (by omega) (by omega) (by omega) (by omega) (by omega), g 9 (by omega) (by omega) (by omega) (by omega) (by omega) (by omega), g 10 (by omega) (by omega) (by omega) (by omega) (by omega) (by omega), g 11 (by omega) (by omega) (by omega) (by omega) (by omega) (by omega), g 12 (by omega) (by omega) (by omega) (by omega) (by omega) (by omega)]
    exact ⟨h0.2, c1, c2, c3, c.1, c.2.1, c.2.2.1, c.2.2.2, c8, c9, c10, c11, c12⟩
  · refine (h2.mono h0.1).cg (fun i hi => ?_)
    rw [snap_wx, snap_wx]
    unfold wx
    split
    · exact g _ (by omega) (by omega) (by omega) (by omega) (by omega) (by omega)
    · split
      · exact g _ (by omega) (by omega) (by omega) (by omega) (by omega) (by omega)
      · split
        · exact g _ (by omega) (by omega) (by omega) (by omega) (by omega) (by omega)
        · split
          · exact g _ (by omega) (by omega) (by omega) (by omega) (by omega) (by omega)
          · exact g _ (by omega) (by omega) (by omega) (by omega) (by omega) (by omega)
  · rw [g 3 (by omega) (by omega) (by omega) (by omega) (by omega) (by omega)]
    exact h4
theorem JY.fact {tf : Nat → Int32} {a : Fl} (h : JY tf a) (o c : Int32) : JY tf (mFact a o c).2 := by
  unfold mFact
  split
  · rename_i hc
    show JY tf (up (up (up a (110 + 2 * a 0) (nn o)) (110 + 2 * a 0 + 1) (nn c)) 0 (a 0 + 1))
    have b0 := h.1.1.1
    have q4 := h.1.1
    have u1 : up (up (up a (110 + 2 * a 0) (nn o)) (110 + 2 * a 0 + 1) (nn c)) 0 (a 0 + 1) (110 + 2 * a 0) = nn o := by
      rw [up_n (i := 0) (by omega), up_n (i := 110 + 2 * a 0 + 1) (by omega), up_s]
    have u2 : up (up (up a (110 + 2 * a 0) (nn o)) (110 + 2 * a 0 + 1) (nn c)) 0 (a 0 + 1) (110 + 2 * a 0 + 1) = nn c := by
      rw [up_n (i := 0) (by omega), up_s]
    have u : ∀ i, i ≠ 0 → i ≠ 110 + 2 * a 0 → i ≠ 110 + 2 * a 0 + 1 → up (up (up a (110 + 2 * a 0) (nn o)) (110 + 2 * a 0 + 1) (nn c)) 0 (a 0 + 1) i = a i := fun i h1 h2 h3 => by rw [up_n h1, up_n h3, up_n h2]
    have u0 : up (up (up a (110 + 2 * a 0) (nn o)) (110 + 2 * a 0 + 1) (nn c)) 0 (a 0 + 1) 0 = a 0 + 1 := up_s
    have h8 := hc.2.2
    refine ⟨h.1.cg (fun i h1 h2 h3 h4 h5 h6 => u i h6 (by omega) (by omega)) ?_ ?_ ?_, ?_⟩
    · rw [u 4 (by omega) (by omega) (by omega), u 5 (by omega) (by omega) (by omega), u 6 (by omega) (by omega) (by omega), u 7 (by omega) (by omega) (by omega)]
      exact ⟨q4.2.2.2.2.1, q4.2.2.2.2.2.1, q4.2.2.2.2.2.2.1, q4.2.2.2.2.2.2.2.1⟩
    · show a 0 ≤ up _ _ _ 0 ∧ up _ _ _ 0 ≤ 8
      rw [u0]
      omega
    · intro f hf
      have hf : f < a 0 + 1 := by rw [← u0]; exact hf
      show up _ _ _ (110 + 2 * f) ≤ 10 ∧ up _ _ _ (110 + 2 * f + 1) ≤ 99
      by_cases e : f = a 0
      · subst e
        rw [u1, u2]
        exact ⟨(inr_nn (n := 10) (by omega) hc.1).1, (inr_nn (n := 99) (by omega) hc.2.1).1⟩
      · rw [u _ (by omega) (by omega) (by omega), u _ (by omega) (by omega) (by omega)]
        exact h.1.2.2.1 f (by omega)
    · intro p hp
      have h5 := q4.2.1
      have hp : p < a 1 := by rw [← u 1 (by omega) (by omega) (by omega)]; exact hp
      show up _ _ _ (13 + 5 * p + 3) ≤ 9999 ∧ up _ _ _ (13 + 5 * p + 4) ≤ 99
      rw [u _ (by omega) (by omega) (by omega), u _ (by omega) (by omega) (by omega)]
      exact h.2 p hp
  · exact h
theorem IW.newp {n u f : Nat} {W W' : Fl} (h : IW n W) (h5 : W 0 < 5) (hu : u ≤ 9999) (hf : f ≤ 99) (e0 : W' 0 = W 0 + 1) (ep : W' (ppx (W 0) 0) = u ∧ W' (ppx (W 0) 1) = f ∧ W' (ppx (W 0) 2) = 0) (e : ∀ i, i < 153 → i ≠ 0 → (i < 6 + 3 * W 0 ∨ 9 + 3 * W 0 ≤ i) → W' i = W i) : IW n W' := by
  obtain ⟨⟨b0, b1, b2, b3, b4, b5⟩, bp, bc, bb⟩ := h
  refine ⟨⟨?_, ?_, ?_, ?_, ?_, ?_⟩, fun p hp => ?_, fun k hk => ?_, fun j hj => ?_⟩
  · omega
  · rw [e 1 (by omega) (by omega) (by omega)]; exact b1
  · rw [e 2 (by omega) (by omega) (by omega)]; exact b2
  · rw [e 3 (by omega) (by omega) (by omega)]; exact b3
  · rw [e 4 (by omega) (by omega) (by omega)]; exact b4
  · rw [e 5 (by omega) (by omega) (by omega)]; exact b5
  · by_cases q : p = W 0
    · rw [q, ep.1, ep.2.1, ep.2.2]
      exact ⟨hu, hf, by omega⟩
    · have g : ∀ c, c < 3 → W' (ppx p c) = W (ppx p c) := fun c hc => e _ (by unfold ppx; omega) (by unfold ppx; omega) (by unfold ppx; omega)
      rw [g 0 (by omega), g 1 (by omega), g 2 (by omega)]
      exact bp p (by omega)
  · rw [e 4 (by omega) (by omega) (by omega)] at hk
    have g : ∀ c, c < 6 → W' (pcx k c) = W (pcx k c) := fun c hc => e _ (by unfold pcx; omega) (by unfold pcx; omega) (by unfold pcx; omega)
    rw [e0, g 0 (by omega), g 1 (by omega), g 2 (by omega), g 3 (by omega), g 4 (by omega), g 5 (by omega)]
    have := bc k hk
    exact ⟨by omega, this.2⟩
  · rw [e 5 (by omega) (by omega) (by omega)] at hj
    rw [e _ (by omega) (by omega) (by omega), e _ (by omega) (by omega) (by omega)]; exact bb j hj
theorem JY.prophet {tf : Nat → Int32} {a : Fl} (h : JY tf a) (o c : Int32) : JY tf (mProphet a o c).2 := by
  unfold mProphet
  split
  · rename_i hc
    have h5 := hc.2.2
    have hu := (inr_nn (n := 9999) (by omega) hc.1).1
    have hf := (inr_nn (n := 99) (by omega) hc.2.1).1
    generalize nn o = u at *
    generalize nn c = f at *
    show JY tf (up (up (up (up (up (up a (13 + 5 * a 1 + 3) u) (13 + 5 * a 1 + 4) f) (13 + 5 * a 1 + 0) u) (13 + 5 * a 1 + 1) f) (13 + 5 * a 1 + 2) 0) 1 (a 1 + 1))
    have g : ∀ i, i ≠ 1 → (i < 13 + 5 * a 1 ∨ 13 + 5 * a 1 + 4 < i) → up (up (up (up (up (up a (13 + 5 * a 1 + 3) u) (13 + 5 * a 1 + 4) f) (13 + 5 * a 1 + 0) u) (13 + 5 * a 1 + 1) f) (13 + 5 * a 1 + 2) 0) 1 (a 1 + 1) i = a i := fun i h1 h2 => by
      rw [up_n h1, up_n (by omega), up_n (by omega), up_n (by omega), up_n (by omega), up_n (by omega)]
    have g1 : up (up (up (up (up (up a (13 + 5 * a 1 + 3) u) (13 + 5 * a 1 + 4) f) (13 + 5 * a 1 + 0) u) (13 + 5 * a 1 + 1) f) (13 + 5 * a 1 + 2) 0) 1 (a 1 + 1) 1 = a 1 + 1 := up_s
    have gp : ∀ c, c < 5 → up (up (up (up (up (up a (13 + 5 * a 1 + 3) u) (13 + 5 * a 1 + 4) f) (13 + 5 * a 1 + 0) u) (13 + 5 * a 1 + 1) f) (13 + 5 * a 1 + 2) 0) 1 (a 1 + 1) (13 + 5 * a 1 + c) = if c = 0 then u else if c = 1 then f else if c = 2 then 0 else if c = 3 then u else f := fun c hc => by
      rw [up_n (by omega)]
      rcases (show c = 0 ∨ c = 1 ∨ c = 2 ∨ c = 3 ∨ c = 4 by omega) with rfl | rfl | rfl | rfl | rfl
      · rw [up_n (by omega), up_n (by omega), up_s]; rfl
      · rw [up_n (by omega), up_s]; rfl
      · rw [up_s]; rfl
      · rw [up_n (by omega), up_n (by omega), up_n (by omega), up_n (by omega), up_s]; rfl
      · rw [up_n (by omega), up_n (by omega), up_n (by omega), up_s]; rfl
    generalize up (up (up (up (up (up a (13 + 5 * a 1 + 3) u) (13 + 5 * a 1 + 4) f) (13 + 5 * a 1 + 0) u) (13 + 5 * a 1 + 1) f) (13 + 5 * a 1 + 2) 0) 1 (a 1 + 1) = a' at *
    obtain ⟨⟨i1, i2, i3, i4⟩, it⟩ := h
    obtain ⟨c0, c1, c2, c3, c4, c5, c6, c7, c8, c9, c10, c11, c12⟩ := i1
    refine ⟨⟨?_, ?_, ?_, ?_⟩, ?_⟩
    · unfold IC
      rw [g1, g 0 (by omega) (by omega), g 2 (by omega) (by omega), g 3 (by omega) (by omega), g 4 (by omega) (by omega), g 5 (by omega) (by omega), g 6 (by omega) (by omega), g 7 (by omega) (by omega), g 8 (by omega) (by omega), g 9 (by omega) (by omega), g 10 (by omega) (by omega), g 11 (by omega) (by omega), g 12 (by omega) (by omega)]
      exact ⟨c0, by omega, c2, c3, c4, c5, c6, c7, c8, c9, c10, c11, c12⟩
    · rw [g 0 (by omega) (by omega)]
      refine i2.newp (W' := snap a') h5 hu hf g1 ?_ (fun i hi h0 hr => ?_)
      · show snap a' (ppx (a 1) 0) = u ∧ snap a' (ppx (a 1) 1) = f ∧ snap a' (ppx (a 1) 2) = 0
        rw [snap_pp h5 (by omega), snap_pp h5 (by omega), snap_pp h5 (by omega), gp 0 (by omega), gp 1 (by omega), gp 2 (by omega)]
        exact ⟨rfl, rfl, rfl⟩
      · have hr : i < 6 + 3 * a 1 ∨ 9 + 3 * a 1 ≤ i := hr
        rw [snap_wx, snap_wx]
        unfold wx
        rw [if_neg h0]
        split
        · exact g _ (by omega) (by omega)
        · split
          · exact g _ (by omega) (by omega)
          · split
            · exact g _ (by omega) (by omega)
            · exact g _ (by omega) (by omega)
    · intro q hq
      rw [g 0 (by omega) (by omega)] at hq
      rw [g _ (by omega) (by omega), g _ (by omega) (by omega)]
      exact i3 q hq
    · rw [g 3 (by omega) (by omega)]; exact i4
    · intro p hp
      rw [g1] at hp
      by_cases e : p = a 1
      · subst e
        rw [gp 3 (by omega), gp 4 (by omega)]
        exact ⟨hu, hf⟩
      · rw [g _ (by omega) (by omega), g _ (by omega) (by omega)]
        exact it p (by omega)
  · exact h
theorem okG_nn {a : Fl} {f d e : Int32} (h8 : a 0 ≤ 8) (hg : okG a f d e) : 0 < nn f ∧ nn f < 2 ^ a 0 ∧ nn d ≤ 99 ∧ nn e ≤ 999 := by
  obtain ⟨⟨f1, f2⟩, d1, e1⟩ := hg
  have p8 : 2 ^ a 0 ≤ 2 ^ 8 := Nat.pow_le_pow_right (by omega) h8
  have q := vin_nn (x := f) (n := 2 ^ a 0) (by omega) ⟨Int32.le_trans (by decide) f1, f2⟩
  refine ⟨?_, q.1, (inr_nn (n := 99) (x := d) (by omega) ⟨Int32.le_trans (by decide) d1.1, d1.2⟩).1, (inr_nn (n := 999) (by omega) e1).1⟩
  rw [q.2] at f1
  exact (nI_leI (a := 1) (by omega) (by omega)).mp f1
theorem JY.foretell {tf : Nat → Int32} {a : Fl} (h : JY tf a) (p : Int32) {al : Nat} (hal : al ≤ 1) (f d e : Int32) : JY tf (mForetell a p al f d e).2 := by
  unfold mForetell
  split
  · rename_i hc
    obtain ⟨⟨p1, p2, p3⟩, hg⟩ := hc
    have c := h.1.1
    have q4 := c.2.2.2.2.1
    obtain ⟨g1, g2, g3, g4⟩ := okG_nn c.1 hg
    have c1 := c.2.1
    have q := (vin_nn (n := a 1) (by omega) p1).1
    refine h.keep.fore ?_ hal g1 ?_ g3 g4 ?_
    · rw [mKeep_out q4 (by omega) (by omega)]; exact q
    · rw [mKeep_out q4 (by omega) (by omega)]; exact g2
    · rw [mKeep_out q4 (by omega) (by omega)]; exact p3
  · exact h
theorem JY.bring {tf : Nat → Int32} {a : Fl} (h : JY tf a) (so : Nat) (p f : Int32) : JY tf (mBring a so p f).2 := by
  unfold mBring
  split
  · rename_i hc
    obtain ⟨p1, p2, _⟩ := hc
    have c := h.1.1
    have q4 := c.2.2.2.2.1
    have c1 := c.2.1
    have c0 := c.1
    refine h.keep.turn ?_ ?_
    · rw [mKeep_out q4 (by omega) (by omega)]; exact (vin_nn (n := a 1) (by omega) p1).1
    · rw [mKeep_out q4 (by omega) (by omega)]; exact (vin_nn (n := a 0) (by omega) p2).1
  · exact h
theorem iw_sell {n k t m : Nat} {W : Fl} (h : IW n W) (hk : k < W 4) (ht : t < W 0) (hm : m ≤ 999) : IW n (wSell W k t m) ∧ wSell W k t m 0 = W 0 := by
  unfold wSell
  have hp := (h.2.2.1 k hk).1
  have h4 := h.1.2.2.2.2.1
  have h5 := h.1.2.2.2.2.2
  have i1 := iw_lose (m := m) h hp
  have e1 : ∀ i, i < 6 → wLose W (W (pcx k 0)) m i = W i := fun i hi => by unfold wLose; rw [up_n (by unfold ppx; omega)]
  have i2 := iw_gain (p := t) (m := m) i1 (by rw [e1 0 (by omega)]; exact ht)
  have e2 : ∀ i, i < 6 → wGain (wLose W (W (pcx k 0)) m) t m i = W i := fun i hi => by
    unfold wGain
    rw [up_n (by unfold ppx; omega), e1 i hi]
  have i3 := i2.pc (k := k) (c := 0) (v := t) (by rw [e2 4 (by omega)]; exact hk) (Or.inr ⟨rfl, by rw [e2 0 (by omega)]; exact ht⟩)
  refine ⟨iw_wr i3 (by omega) (by omega) (by omega), ?_⟩
  rw [wWrite_o (by rw [up_n (by unfold pcx; omega), e2 5 (by omega)]; exact h5) (by omega) (by omega), up_n (by unfold pcx; omega), e2 0 (by omega)]
theorem JY.sell {tf : Nat → Int32} {a : Fl} (h : JY tf a) (k t m : Int32) : JY tf (mSell a k t m).2 := by
  unfold mSell
  split
  · rename_i hc
    obtain ⟨⟨o1, o2⟩, t1, t2, t3, m1, m2⟩ := hc
    have hk := h.keep
    have q4 := h.1.1.2.2.2.2.1
    have c4 := h.1.2.1.1.2.2.2.2.1
    have c0 := h.1.2.1.1.1
    have e0 : snap (mKeep a) 0 = snap a 0 := snap_keep q4 (by omega)
    have e4 : snap (mKeep a) 4 = snap a 4 := snap_keep q4 (by omega)
    have q := iw_sell (k := nn k) (t := nn t) (m := nn m) hk.1.2.1 (by rw [e4]; exact (vin_nn (by omega) o1).1) (by rw [e0]; exact (vin_nn (by omega) t1).1) (inr_nn (n := 999) (by omega) m1).1
    exact hk.un q.1 q.2
  · exact h
theorem JY.days {tf : Nat → Int32} {a : Fl} (h : JY tf a) : ∀ i, a 8 + i ≤ 9999 → JY tf (dyA tf i a) := by
  intro i
  induction i with
  | zero => intro _; exact h
  | succ i ih =>
    intro hi
    have h1 := ih (by omega)
    have e := (h.1.days i (by omega)).2
    exact h1.keep.pass (by rw [mKeep_8 h1.1.1.2.2.2.2.1, e]; omega)
/-- the text t says of days what it must -/
def TXB (tf : Nat → Int32) (t : Nat) : Prop := ∀ k, k < cnt tf t → tf (753 * t + 1 + 6 * k) = nI 9 → ∃ n, n ≤ 60 ∧ tf (753 * t + 1 + 6 * k + 1) = nI n
def plS (tf : Nat → Int32) (t k : Nat) (a : Fl) : Int32 × Fl :=
  if tf (753 * t + 1 + 6 * k) = nI 3 then (bI (¬ (mFact a (tf (753 * t + 1 + 6 * k + 1)) (tf (753 * t + 1 + 6 * k + 2))).1 = -1), (mFact a (tf (753 * t + 1 + 6 * k + 1)) (tf (753 * t + 1 + 6 * k + 2))).2)
  else if tf (753 * t + 1 + 6 * k) = nI 4 then (bI (¬ (mProphet a (tf (753 * t + 1 + 6 * k + 1)) (tf (753 * t + 1 + 6 * k + 2))).1 = -1), (mProphet a (tf (753 * t + 1 + 6 * k + 1)) (tf (753 * t + 1 + 6 * k + 2))).2)
  else if tf (753 * t + 1 + 6 * k) = nI 5 then (bI (¬ (mForetell a (tf (753 * t + 1 + 6 * k + 1)) (if tf (753 * t + 1 + 6 * k + 2) = 1 then 1 else 0) (tf (753 * t + 1 + 6 * k + 3)) (tf (753 * t + 1 + 6 * k + 4)) (tf (753 * t + 1 + 6 * k + 5))).1 = -1), (mForetell a (tf (753 * t + 1 + 6 * k + 1)) (if tf (753 * t + 1 + 6 * k + 2) = 1 then 1 else 0) (tf (753 * t + 1 + 6 * k + 3)) (tf (753 * t + 1 + 6 * k + 4)) (tf (753 * t + 1 + 6 * k + 5))).2)
  else if tf (753 * t + 1 + 6 * k) = nI 6 then mBring a 0 (tf (753 * t + 1 + 6 * k + 2)) (tf (753 * t + 1 + 6 * k + 1))
  else if tf (753 * t + 1 + 6 * k) = nI 7 then mBring a 1 (tf (753 * t + 1 + 6 * k + 2)) (tf (753 * t + 1 + 6 * k + 1))
  else if tf (753 * t + 1 + 6 * k) = nI 8 then mSell a (tf (753 * t + 1 + 6 * k + 1)) (tf (753 * t + 1 + 6 * k + 2)) (tf (753 * t + 1 + 6 * k + 3))
  else if tf (753 * t + 1 + 6 * k) = nI 9 then (bI (a 8 + nn (tf (753 * t + 1 + 6 * k + 1)) ≤ 9999), dyA tf (min (nn (tf (753 * t + 1 + 6 * k + 1))) (9999 - a 8)) a)
  else (1, a)
theorem plS_01 {tf : Nat → Int32} {t k : Nat} {a : Fl} : (plS tf t k a).1 = 0 ∨ (plS tf t k a).1 = 1 := by
  unfold plS mBring mSell
  split
  · exact bI_01
  · split
    · exact bI_01
    · split
      · exact bI_01
      · split
        · split
          · exact Or.inr rfl
          · exact Or.inl rfl
        · split
          · split
            · exact Or.inr rfl
            · exact Or.inl rfl
          · split
            · split
              · exact Or.inr rfl
              · exact Or.inl rfl
            · split
              · exact bI_01
              · exact Or.inr rfl
theorem jy_plS {tf : Nat → Int32} {t k : Nat} {a : Fl} (h : JY tf a) : JY tf (plS tf t k a).2 := by
  have v8 := h.1.1.2.2.2.2.2.2.2.2.1
  unfold plS
  split
  · exact h.fact _ _
  · split
    · exact h.prophet _ _
    · split
      · exact h.foretell _ (by split <;> omega) _ _ _
      · split
        · exact h.bring _ _ _
        · split
          · exact h.bring _ _ _
          · split
            · exact h.sell _ _ _
            · split
              · exact h.days _ (by omega)
              · exact h
def plL (tf : Nat → Int32) (t : Nat) : Nat → Nat → Fl → Int32 × Fl
  | 0, _, a => (-1, a)
  | r + 1, k, a => if (plS tf t k a).1 = 0 then (nI k, (plS tf t k a).2) else plL tf t r (k + 1) (plS tf t k a).2
def mPlayed (tf : Nat → Int32) (a : Fl) (x : Int32) : Int32 × Fl := if vin x (a 2) then plL tf (nn x) (cnt tf (nn x)) 0 a else (-2, a)
theorem jy_plL {tf : Nat → Int32} {t : Nat} : ∀ r k a, JY tf a → JY tf (plL tf t r k a).2 := by
  intro r
  induction r with
  | zero => intro k a h; exact h
  | succ r ih =>
    intro k a h
    show JY tf (if _ then _ else _ : Int32 × Fl).2
    split
    · exact jy_plS h
    · exact ih _ _ (jy_plS h)

