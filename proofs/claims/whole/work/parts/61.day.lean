/-! a day passes: the model, and its bounds (wip/whole/gen61.py) -/
def nxD (x : Nat) : Nat := (x * 431 + 311) % 30553
def stF (tf : Nat → Int32) (a : Fl) (f : Nat) (W : Fl) : Fl := if (W 3).testBit f = true then W else if W 2 % 10 < mComes tf a W f then up (up W 2 (nxD (W 2))) 3 (W 3 ||| 2 ^ f) else up W 2 (nxD (W 2))
def pF (tf : Nat → Int32) (a : Fl) : Nat → Fl → Fl
  | 0, W => W
  | i + 1, W => stF tf a i (pF tf a i W)
def wr (b : Nat) (W : Fl) (k what much : Nat) : Fl := if b = 0 then W else wWrite W k what much
def wTrue (b : Nat) (W : Fl) (k r : Nat) : Fl := wr b (up (up W (ppx (W (pcx k 0)) 1) (min 99 (W (ppx (W (pcx k 0)) 1) + r))) (pcx k 5) 1) k 0 r
def wFail1 (W : Fl) (p d q : Nat) : Fl := if min d q < d then up (up W (ppx p 0) (q - min d q)) (ppx p 2) 1 else up W (ppx p 0) (q - min d q)
def wFail (b : Nat) (W : Fl) (k d : Nat) : Fl := wr b (up (wFail1 W (W (pcx k 0)) d (W (ppx (W (pcx k 0)) 0))) (pcx k 5) 2) k 1 (min d (W (ppx (W (pcx k 0)) 0)))
def stK (b : Nat) (tf : Nat → Int32) (t1 k : Nat) (W : Fl) : Fl := if W (pcx k 5) = 0 then (if metB (W (pcx k 1)) (W (pcx k 2)) (W 3) = true then wTrue b W k (mRen tf t1 W k) else if W (pcx k 3) ≤ W 1 then wFail b W k (mDues tf t1 W k) else W) else W
def enK (W : Fl) (k : Nat) : Nat := if W (pcx k 5) = 0 ∧ (metB (W (pcx k 1)) (W (pcx k 2)) (W 3) = true ∨ W (pcx k 3) ≤ W 1) then 1 else 0
def pKs (b : Nat) (tf : Nat → Int32) (t1 : Nat) : Nat → Fl → Fl
  | 0, W => W
  | i + 1, W => stK b tf t1 i (pKs b tf t1 i W)
def eK (b : Nat) (tf : Nat → Int32) (t1 : Nat) : Nat → Fl → Nat
  | 0, _ => 0
  | i + 1, W => eK b tf t1 i W + enK (pKs b tf t1 i W) i
def wPass0 (b : Nat) (tf : Nat → Int32) (a W : Fl) : Fl := pKs b tf (a 3) (W 4) (pF tf a (a 0) W)
def wPass (b : Nat) (tf : Nat → Int32) (a W : Fl) : Fl := up (wPass0 b tf a W) 1 (wPass0 b tf a W 1 + 1)
def ePass (b : Nat) (tf : Nat → Int32) (a W : Fl) : Nat := eK b tf (a 3) (W 4) (pF tf a (a 0) W)
theorem IW.u {n i v : Nat} {W : Fl} (h : IW n W) (hi : i = 1 ∧ v ≤ 9999 ∨ i = 2 ∧ v < 30553 ∨ i = 3 ∧ v < 2 ^ n) : IW n (up W i v) := by
  obtain ⟨⟨b0, b1, b2, b3, b4, b5⟩, bp, bc, bb⟩ := h
  have i3 : i = 1 ∨ i = 2 ∨ i = 3 := by omega
  refine ⟨⟨?_, ?_, ?_, ?_, ?_, ?_⟩, fun p hp => ?_, fun k hk => ?_, fun j hj => ?_⟩
  · rw [up_n (by omega)]; exact b0
  · by_cases q : 1 = i
    · rw [up_e q]; omega
    · rw [up_n q]; exact b1
  · by_cases q : 2 = i
    · rw [up_e q]; omega
    · rw [up_n q]; exact b2
  · by_cases q : 3 = i
    · rw [up_e q]; omega
    · rw [up_n q]; exact b3
  · rw [up_n (by omega)]; exact b4
  · rw [up_n (by omega)]; exact b5
  · rw [up_n (by omega)] at hp
    rw [up_n (by unfold ppx; omega), up_n (by unfold ppx; omega), up_n (by unfold ppx; omega)]; exact bp p hp
  · rw [up_n (by omega)] at hk
    have g : ∀ c, c < 6 → up W i v (pcx k c) = W (pcx k c) := fun c hc => up_n (by unfold pcx; omega)
    rw [up_n (show 0 ≠ i by omega), g 0 (by omega), g 1 (by omega), g 2 (by omega), g 3 (by omega), g 4 (by omega), g 5 (by omega)]
    exact bc k hk
  · rw [up_n (by omega)] at hj
    rw [up_n (by omega), up_n (by omega)]; exact bb j hj
theorem IW.pp {n p c v : Nat} {W : Fl} (h : IW n W) (hp : p < W 0) (hv : c = 0 ∧ v ≤ 9999 ∨ c = 1 ∧ v ≤ 99 ∨ c = 2 ∧ v ≤ 1) : IW n (up W (ppx p c) v) := by
  obtain ⟨⟨b0, b1, b2, b3, b4, b5⟩, bp, bc, bb⟩ := h
  have hc : c < 3 := by omega
  have e : ∀ p' c', c' < 3 → up W (ppx p c) v (ppx p' c') = if p' = p ∧ c' = c then v else W (ppx p' c') := fun p' c' hc' => by
    by_cases q : p' = p ∧ c' = c
    · rw [if_pos q, q.1, q.2, up_s]
    · rw [if_neg q, up_n (by unfold ppx; omega)]
  refine ⟨⟨?_, ?_, ?_, ?_, ?_, ?_⟩, fun p' hp' => ?_, fun k hk => ?_, fun j hj => ?_⟩
  · rw [up_n (by unfold ppx; omega)]; exact b0
  · rw [up_n (by unfold ppx; omega)]; exact b1
  · rw [up_n (by unfold ppx; omega)]; exact b2
  · rw [up_n (by unfold ppx; omega)]; exact b3
  · rw [up_n (by unfold ppx; omega)]; exact b4
  · rw [up_n (by unfold ppx; omega)]; exact b5
  · rw [up_n (by unfold ppx; omega)] at hp'
    have := bp p' hp'
    rw [e _ _ (by omega), e _ _ (by omega), e _ _ (by omega)]
    refine ⟨?_, ?_, ?_⟩
    · split <;> omega
    · split <;> omega
    · split <;> omega
  · rw [up_n (by unfold ppx; omega)] at hk
    have g : ∀ c', c' < 6 → up W (ppx p c) v (pcx k c') = W (pcx k c') := fun c' hc' => up_n (by unfold pcx ppx; omega)
    rw [up_n (show 0 ≠ ppx p c by unfold ppx; omega), g 0 (by omega), g 1 (by omega), g 2 (by omega), g 3 (by omega), g 4 (by omega), g 5 (by omega)]
    exact bc k hk
  · rw [up_n (by unfold ppx; omega)] at hj
    rw [up_n (by unfold ppx; omega), up_n (by unfold ppx; omega)]; exact bb j hj
theorem IW.pc {n k c v : Nat} {W : Fl} (h : IW n W) (hk : k < W 4) (hv : c = 5 ∧ v ≤ 2 ∨ c = 0 ∧ v < W 0) : IW n (up W (pcx k c) v) := by
  obtain ⟨⟨b0, b1, b2, b3, b4, b5⟩, bp, bc, bb⟩ := h
  have hc : c < 6 := by omega
  have e : ∀ k' c', c' < 6 → up W (pcx k c) v (pcx k' c') = if k' = k ∧ c' = c then v else W (pcx k' c') := fun p' c' hc' => by
    by_cases q : p' = k ∧ c' = c
    · rw [if_pos q, q.1, q.2, up_s]
    · rw [if_neg q, up_n (by unfold pcx; omega)]
  refine ⟨⟨?_, ?_, ?_, ?_, ?_, ?_⟩, fun p' hp' => ?_, fun k' hk' => ?_, fun j hj => ?_⟩
  · rw [up_n (by unfold pcx; omega)]; exact b0
  · rw [up_n (by unfold pcx; omega)]; exact b1
  · rw [up_n (by unfold pcx; omega)]; exact b2
  · rw [up_n (by unfold pcx; omega)]; exact b3
  · rw [up_n (by unfold pcx; omega)]; exact b4
  · rw [up_n (by unfold pcx; omega)]; exact b5
  · rw [up_n (by unfold pcx; omega)] at hp'
    rw [up_n (by unfold ppx pcx; omega), up_n (by unfold ppx pcx; omega), up_n (by unfold ppx pcx; omega)]; exact bp p' hp'
  · rw [up_n (by unfold pcx; omega)] at hk'
    have := bc k' hk'
    rw [up_n (show 0 ≠ pcx k c by unfold pcx; omega), e _ 0 (by omega), e _ 1 (by omega), e _ 2 (by omega), e _ 3 (by omega), e _ 4 (by omega), e _ 5 (by omega), if_neg (show ¬ (k' = k ∧ 1 = c) by omega), if_neg (show ¬ (k' = k ∧ 2 = c) by omega), if_neg (show ¬ (k' = k ∧ 3 = c) by omega), if_neg (show ¬ (k' = k ∧ 4 = c) by omega)]
    refine ⟨?_, this.2.1, this.2.2.1, this.2.2.2.1, this.2.2.2.2.1, this.2.2.2.2.2.1, ?_⟩
    · split <;> omega
    · split <;> omega
  · rw [up_n (by unfold pcx; omega)] at hj
    rw [up_n (by unfold pcx; omega), up_n (by unfold pcx; omega)]; exact bb j hj
theorem iw_wr {n k what much : Nat} {W : Fl} (h : IW n W) (hk : k < 12) (hw : what ≤ 2) (hm : much ≤ 9999) : IW n (wWrite W k what much) := by
  obtain ⟨⟨b0, b1, b2, b3, b4, b5⟩, bp, bc, bb⟩ := h
  have o : ∀ i, i ≠ 5 → ¬ (93 ≤ i ∧ i < 153) → wWrite W k what much i = W i := fun i h1 h2 => wWrite_o b5 h1 h2
  have sb := shB_5 b5
  have e5 : wWrite W k what much 5 = shB W 5 + 1 := by unfold wWrite wBook; rw [up_s]
  refine ⟨⟨?_, ?_, ?_, ?_, ?_, ?_⟩, fun p hp => ?_, fun k' hk' => ?_, fun j hj => ?_⟩
  · rw [o 0 (by omega) (by omega)]; exact b0
  · rw [o 1 (by omega) (by omega)]; exact b1
  · rw [o 2 (by omega) (by omega)]; exact b2
  · rw [o 3 (by omega) (by omega)]; exact b3
  · rw [o 4 (by omega) (by omega)]; exact b4
  · rw [e5]; omega
  · rw [o 0 (by omega) (by omega)] at hp
    rw [o _ (by unfold ppx; omega) (by unfold ppx; omega), o _ (by unfold ppx; omega) (by unfold ppx; omega), o _ (by unfold ppx; omega) (by unfold ppx; omega)]; exact bp p hp
  · rw [o 4 (by omega) (by omega)] at hk'
    have g : ∀ c', c' < 6 → wWrite W k what much (pcx k' c') = W (pcx k' c') := fun c' hc' => o _ (by unfold pcx; omega) (by unfold pcx; omega)
    rw [o 0 (by omega) (by omega), g 0 (by omega), g 1 (by omega), g 2 (by omega), g 3 (by omega), g 4 (by omega), g 5 (by omega)]
    exact bc k' hk'
  · rw [e5] at hj
    unfold wWrite wBook
    by_cases q : j = shB W 5
    · rw [up_n (by omega), up_n (by omega), up_e (by omega), up_n (by omega), up_e (by omega)]
      refine ⟨b1, ?_, ?_⟩ <;> omega
    · rw [up_n (by omega), up_n (by omega), up_n (by omega), up_n (by omega), up_n (by omega), up_n (by omega)]
      by_cases h30 : W 5 = 30
      · have s : ∀ i, 93 ≤ i → i < 151 → shB W i = W (i + 2) := fun i h1 h2 => by
          unfold shB
          rw [if_pos h30]
          show (if i = 5 then 29 else cpG W 93 95 58 i) = _
          rw [if_neg (by omega)]
          unfold cpG
          rw [if_pos (by omega)]
          congr 1
          omega
        rw [s _ (by omega) (by omega), s _ (by omega) (by omega)]
        have := bb (j + 1) (by omega)
        rw [show 93 + 2 * (j + 1) = 93 + 2 * j + 2 by omega] at this
        exact this
      · have s : shB W = W := by unfold shB; rw [if_neg h30]
        rw [s] at hj q ⊢
        exact bb j (by omega)
theorem iw_wrb {n b k what much : Nat} {W : Fl} (h : IW n W) (hk : k < 12) (hw : what ≤ 2) (hm : much ≤ 9999) : IW n (wr b W k what much) := by
  unfold wr
  split
  · exact h
  · exact iw_wr h hk hw hm
theorem iw_stF {n f : Nat} {tf : Nat → Int32} {a W : Fl} (h : IW n W) (hf : f < n) : IW n (stF tf a f W) := by
  have x : nxD (W 2) < 30553 := Nat.mod_lt _ (by omega)
  unfold stF
  split
  · exact h
  · split
    · exact (h.u (i := 2) (v := nxD (W 2)) (by omega)).u (i := 3) (v := W 3 ||| 2 ^ f) (Or.inr (Or.inr ⟨rfl, Nat.or_lt_two_pow h.1.2.2.2.1 (Nat.pow_lt_pow_right (by omega) hf)⟩))
    · exact h.u (by omega)
theorem iw_wTrue {n b k r : Nat} {W : Fl} (h : IW n W) (hk : k < W 4) (hr : r ≤ 9999) : IW n (wTrue b W k r) := by
  unfold wTrue
  have h4 := h.1.2.2.2.2.1
  have c := h.2.2.1 k hk
  refine iw_wrb ?_ (by omega) (by omega) hr
  refine (h.pp c.1 (by omega)).pc ?_ (by omega)
  rw [up_n (by have := h.1.1; unfold ppx; omega)]; exact hk
theorem iw_wFail {n b k d : Nat} {W : Fl} (h : IW n W) (hk : k < W 4) : IW n (wFail b W k d) := by
  unfold wFail
  have h0 := h.1.1
  have h4 := h.1.2.2.2.2.1
  have c := h.2.2.1 k hk
  have p := h.2.1 _ c.1
  refine iw_wrb ?_ (by omega) (by omega) (by omega)
  have i1 := h.pp (c := 0) (v := W (ppx (W (pcx k 0)) 0) - min d (W (ppx (W (pcx k 0)) 0))) c.1 (by omega)
  unfold wFail1
  split
  · refine ((i1.pp (p := W (pcx k 0)) (c := 2) (v := 1) ?_ (by omega)).pc ?_ (by omega))
    · rw [up_n (by unfold ppx; omega)]; exact c.1
    · rw [up_n (by unfold ppx; omega), up_n (by unfold ppx; omega)]; exact hk
  · refine i1.pc ?_ (by omega)
    rw [up_n (by unfold ppx; omega)]; exact hk
theorem iw_stK {n b t1 k : Nat} {tf : Nat → Int32} {W : Fl} (h : IW n W) (hk : k < W 4) : IW n (stK b tf t1 k W) := by
  have q := pcn_le (W (pcx k 2))
  unfold stK
  split
  · split
    · exact iw_wTrue h hk (Nat.le_trans (mSays_le (by omega)) (by omega))
    · split
      · exact iw_wFail h hk
      · exact h
  · exact h
/-- what a day leaves as it was -/
theorem wr_o {b k what much i : Nat} {W : Fl} (h5 : W 5 ≤ 30) (hi : i ≠ 5) (hb : i < 93) : wr b W k what much i = W i := by
  unfold wr
  split
  · rfl
  · exact wWrite_o h5 hi (by omega)

