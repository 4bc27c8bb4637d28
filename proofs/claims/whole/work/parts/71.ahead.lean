/-! what is ahead: the model; the book apart (wip/whole/gen71.py) -/
/-- two worlds that differ in their books alone -/
def AG (W W' : Fl) : Prop := ∀ i, i < 93 → i ≠ 5 → W' i = W i
theorem AG.rf {W : Fl} : AG W W := fun _ _ _ => rfl
theorem AG.up {W W' : Fl} {i v : Nat} (g : AG W W') : AG (up W i v) (up W' i v) := fun j h1 h2 => by
  by_cases q : j = i
  · rw [q, up_s, up_s]
  · rw [up_n q, up_n q]; exact g j h1 h2
theorem ag_mComes {tf : Nat → Int32} {a W W' : Fl} {f : Nat} (g : AG W W') : mComes tf a W' f = mComes tf a W f := by
  unfold mComes
  have e3 := g 3 (by omega) (by omega)
  have e1 := g 1 (by omega) (by omega)
  have ee : envC a W' f = envC a W f := by
    funext j
    unfold envC
    rw [e1, e3]
  rw [ee, e3]
theorem ag_envP {W W' : Fl} {k : Nat} (g : AG W W') (hk : k < 12) (hp : W (pcx k 0) < 5) : envP W' k = envP W k := by
  have e3 := g 3 (by omega) (by omega)
  have e1 := g 1 (by omega) (by omega)
  have c : ∀ j, j < 6 → W' (pcx k j) = W (pcx k j) := fun j hj => g _ (by unfold pcx; omega) (by unfold pcx; omega)
  funext j
  unfold envP
  rw [e1, e3, c 0 (by omega), c 2 (by omega), c 3 (by omega), c 4 (by omega), g (ppx (W (pcx k 0)) 0) (by unfold ppx; omega) (by unfold ppx; omega), g (ppx (W (pcx k 0)) 1) (by unfold ppx; omega) (by unfold ppx; omega)]
theorem ag_stF {tf : Nat → Int32} {a W W' : Fl} {f : Nat} (g : AG W W') : AG (stF tf a f W) (stF tf a f W') := by
  unfold stF
  rw [ag_mComes g, g 3 (by omega) (by omega), g 2 (by omega) (by omega)]
  split
  · exact g
  · split
    · exact g.up.up
    · exact g.up
theorem ag_wr {W W' : Fl} {k what much : Nat} (g : AG W W') (h5 : W' 5 ≤ 30) : AG (wr 0 W k what much) (wr 1 W' k what much) := fun j h1 h2 => by
  show wWrite W' k what much j = W j
  rw [wWrite_o h5 h2 (by omega)]
  exact g j h1 h2
theorem ag_stK {n t1 k : Nat} {tf : Nat → Int32} {W W' : Fl} (g : AG W W') (h : IW n W) (h' : IW n W') (hk : k < W 4) : AG (stK 0 tf t1 k W) (stK 1 tf t1 k W') := by
  have h4 := h.1.2.2.2.2.1
  have h0 := h.1.1
  have hp := (h.2.2.1 k hk).1
  have h5 := h'.1.2.2.2.2.2
  have c : ∀ j, j < 6 → W' (pcx k j) = W (pcx k j) := fun j hj => g _ (by unfold pcx; omega) (by unfold pcx; omega)
  have e := ag_envP g (show k < 12 by omega) (show W (pcx k 0) < 5 by omega)
  have er : mRen tf t1 W' k = mRen tf t1 W k := by unfold mRen; rw [e, g 3 (by omega) (by omega), c 2 (by omega)]
  have ed : mDues tf t1 W' k = mDues tf t1 W k := by unfold mDues; rw [e, g 3 (by omega) (by omega), c 4 (by omega)]
  unfold stK
  rw [c 5 (by omega), c 1 (by omega), c 2 (by omega), c 3 (by omega), g 3 (by omega) (by omega), g 1 (by omega) (by omega), er, ed]
  split
  · split
    · unfold wTrue
      rw [c 0 (by omega), g (ppx (W (pcx k 0)) 1) (by unfold ppx; omega) (by unfold ppx; omega)]
      exact ag_wr g.up.up (by rw [up_n (by unfold pcx; omega), up_n (by unfold ppx; omega)]; exact h5)
    · split
      · unfold wFail wFail1
        rw [c 0 (by omega), g (ppx (W (pcx k 0)) 0) (by unfold ppx; omega) (by unfold ppx; omega)]
        split
        · exact ag_wr g.up.up.up (by rw [up_n (by unfold pcx; omega), up_n (by unfold ppx; omega), up_n (by unfold ppx; omega)]; exact h5)
        · exact ag_wr g.up.up (by rw [up_n (by unfold pcx; omega), up_n (by unfold ppx; omega)]; exact h5)
      · exact g
  · exact g
theorem ag_pF {tf : Nat → Int32} {a W W' : Fl} (g : AG W W') : ∀ i, AG (pF tf a i W) (pF tf a i W') := by
  intro i
  induction i with
  | zero => exact g
  | succ i ih => exact ag_stF ih
theorem ag_pK {n t1 : Nat} {tf : Nat → Int32} {W W' : Fl} (g : AG W W') (h : IW n W) (h' : IW n W') : ∀ i, i ≤ W 4 → AG (pKs 0 tf t1 i W) (pKs 1 tf t1 i W') := by
  have e4 : W' 4 = W 4 := g 4 (by omega) (by omega)
  intro i
  induction i with
  | zero => intro _; exact g
  | succ i ih =>
    intro hi
    have i1 := iw_pK (b := 0) (tf := tf) (t1 := t1) h i (by omega)
    have i2 := iw_pK (b := 1) (tf := tf) (t1 := t1) h' i (by omega)
    exact ag_stK (ih (by omega)) i1.1 i2.1 (by rw [i1.2 4 (by omega)]; omega)
theorem ag_pass {n : Nat} {tf : Nat → Int32} {a W W' : Fl} (g : AG W W') (h : IW n W) (h' : IW n W') (hn : n = a 0) : AG (wPass 0 tf a W) (wPass 1 tf a W') := by
  have e4 : W' 4 = W 4 := g 4 (by omega) (by omega)
  have q : AG (wPass0 0 tf a W) (wPass0 1 tf a W') := by
    unfold wPass0
    rw [e4]
    refine ag_pK (ag_pF g _) (iw_pF h _ (by omega)) (iw_pF h' _ (by omega)) _ ?_
    rw [pF_o (by omega) (by omega)]
    exact Nat.le_refl _
  unfold wPass
  rw [q 1 (by omega) (by omega)]
  exact q.up
/-- without the book, a day leaves the book -/
theorem bk0_stK {n t1 k i : Nat} {tf : Nat → Int32} {W : Fl} (h : IW n W) (hk : k < W 4) (hi : i = 5 ∨ 93 ≤ i) : stK 0 tf t1 k W i = W i := by
  have h4 := h.1.2.2.2.2.1
  have h0 := h.1.1
  have hp := (h.2.2.1 k hk).1
  unfold stK
  split
  · split
    · show up (up W _ _) _ _ i = W i
      rw [up_n (by unfold pcx; omega), up_n (by unfold ppx; omega)]
    · split
      · show up (wFail1 W _ _ _) _ _ i = W i
        rw [up_n (by unfold pcx; omega)]
        unfold wFail1
        split
        · rw [up_n (by unfold ppx; omega), up_n (by unfold ppx; omega)]
        · rw [up_n (by unfold ppx; omega)]
      · rfl
  · rfl
theorem bk0_pass {n i : Nat} {tf : Nat → Int32} {a W : Fl} (h : IW n W) (hn : n = a 0) (hi : i = 5 ∨ 93 ≤ i ∨ i = 0) : wPass 0 tf a W i = W i := by
  unfold wPass
  rw [up_n (by omega)]
  have h1 := iw_pF (tf := tf) (a := a) h (a 0) (by omega)
  have e4 : pF tf a (a 0) W 4 = W 4 := pF_o (by omega) (by omega) _
  have L : ∀ k, k ≤ W 4 → pKs 0 tf (a 3) k (pF tf a (a 0) W) i = pF tf a (a 0) W i := by
    intro k
    induction k with
    | zero => intro _; rfl
    | succ k ih =>
      intro hk
      have i1 := iw_pK (b := 0) (tf := tf) (t1 := a 3) h1 k (by omega)
      have hk' : k < pKs 0 tf (a 3) k (pF tf a (a 0) W) 4 := by rw [i1.2 4 (by omega)]; omega
      show stK 0 tf (a 3) k (pKs 0 tf (a 3) k (pF tf a (a 0) W)) i = _
      rcases (show i = 0 ∨ (i = 5 ∨ 93 ≤ i) by omega) with q | q
      · rw [stK_o i1.1 hk' (by omega), ih (by omega)]
      · rw [bk0_stK i1.1 hk' q, ih (by omega)]
  show pKs 0 tf (a 3) (W 4) (pF tf a (a 0) W) i = W i
  rw [L _ (Nat.le_refl _), pF_o (by omega) (by omega)]
def ahW (b : Nat) (tf : Nat → Int32) (a : Fl) : Nat → Fl
  | 0 => snap a
  | i + 1 => if ahW b tf a i 1 < 9999 then wPass b tf a (ahW b tf a i) else ahW b tf a i
theorem iw_ah {b : Nat} {tf : Nat → Int32} {a : Fl} (h : IW (a 0) (snap a)) : ∀ i, IW (a 0) (ahW b tf a i) := by
  intro i
  induction i with
  | zero => exact h
  | succ i ih =>
    show IW (a 0) (if _ then _ else _)
    split
    · exact (iw_pass ih rfl (by assumption)).1
    · exact ih
theorem ag_ah {tf : Nat → Int32} {a : Fl} (h : IW (a 0) (snap a)) : ∀ i, AG (ahW 0 tf a i) (ahW 1 tf a i) := by
  intro i
  induction i with
  | zero => exact AG.rf
  | succ i ih =>
    show AG (if _ then _ else _) (if _ then _ else _)
    rw [ih 1 (by omega) (by omega)]
    split
    · exact ag_pass ih (iw_ah h i) (iw_ah h i) rfl
    · exact ih
theorem bk_ah {tf : Nat → Int32} {a : Fl} (h : IW (a 0) (snap a)) {j : Nat} (hj : j = 5 ∨ 93 ≤ j ∨ j = 0) : ∀ i, ahW 0 tf a i j = snap a j := by
  intro i
  induction i with
  | zero => rfl
  | succ i ih =>
    show (if _ then _ else _ : Fl) j = _
    split
    · rw [bk0_pass (iw_ah h i) rfl hj]; exact ih
    · exact ih
theorem ah_4 {b : Nat} {tf : Nat → Int32} {a : Fl} (h : IW (a 0) (snap a)) : ∀ i, ahW b tf a i 0 = snap a 0 ∧ ahW b tf a i 4 = snap a 4 := by
  intro i
  induction i with
  | zero => exact ⟨rfl, rfl⟩
  | succ i ih =>
    show (if _ then _ else _ : Fl) 0 = _ ∧ (if _ then _ else _ : Fl) 4 = _
    split
    · have q := iw_ah (b := b) (tf := tf) h i
      have e : ∀ j, j = 0 ∨ j = 4 → wPass b tf a (ahW b tf a i) j = ahW b tf a i j := fun j hj => by
        unfold wPass wPass0
        rw [up_n (by omega), (iw_pK (iw_pF q (a 0) (Nat.le_refl _)) _ (by rw [pF_o (by omega) (by omega)]; exact Nat.le_refl _)).2 j (by omega), pF_o (by omega) (by omega)]
      rw [e 0 (by omega), e 4 (by omega)]
      exact ih
    · exact ih
abbrev okA (a : Fl) (n w z : Int32) : Prop := inr n 1 60 ∧ inr w 0 2 ∧ (w = 1 → vin z (a 1)) ∧ (w = 2 → vin z (a 11))
def ahV (V : Fl) (w z : Int32) : Nat := if w = 0 then V 3 else if w = 1 then V (ppx (nn z) 0) else V (pcx (nn z) 5)
def mAhead (tf : Nat → Int32) (a : Fl) (n w z : Int32) : Int32 := if okA a n w z then nI (ahV (ahW 1 tf a (nn n)) w z) else -1
def utl (b : Nat) (tf : Nat → Int32) (a : Fl) (k : Nat) : Nat → Nat → Fl → Int32
  | 0, _, _ => -1
  | r + 1, i, W => if W 1 < 9999 then (if wPass b tf a W (pcx k 5) = 0 then utl b tf a k r (i + 1) (wPass b tf a W) else nI (i + 1)) else -1
theorem utl_ag {tf : Nat → Int32} {a : Fl} {k : Nat} (hk : k < 12) : ∀ r i W W', AG W W' → IW (a 0) W → IW (a 0) W' → utl 0 tf a k r i W = utl 1 tf a k r i W' := by
  intro r
  induction r with
  | zero => intro i W W' _ _ _; rfl
  | succ r ih =>
    intro i W W' g h h'
    show (if W 1 < 9999 then _ else _) = (if W' 1 < 9999 then _ else _)
    rw [g 1 (by omega) (by omega)]
    by_cases q : W 1 < 9999
    · rw [if_pos q, if_pos q]
      have gp := ag_pass (tf := tf) (a := a) g h h' rfl
      rw [gp (pcx k 5) (by unfold pcx; omega) (by unfold pcx; omega)]
      split
      · exact ih _ _ _ gp (iw_pass h rfl q).1 (iw_pass h' rfl (by rw [g 1 (by omega) (by omega)]; exact q)).1
      · rfl
    · rw [if_neg q, if_neg q]
def mUntil (tf : Nat → Int32) (a : Fl) (k : Int32) : Int32 := if opnW (snap a) k then utl 1 tf a (nn k) 60 0 (snap a) else -1

