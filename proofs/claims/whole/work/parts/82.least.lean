/-! least acts, what would stop all: the model, and that both searches find the same (wip/whole/gen82.py) -/
def sub (x y : Nat) : Prop := ∀ i, x.testBit i = true → y.testBit i = true
theorem sub_le {x y : Nat} (h : sub x y) : x ≤ y := by
  have e : x &&& y = x := by
    apply Nat.eq_of_testBit_eq
    intro i
    rw [Nat.testBit_and]
    have := h i
    cases hx : x.testBit i
    · rfl
    · rw [this hx]; rfl
  rw [← e]
  exact Nat.and_le_right
theorem bit_hi {x n i : Nat} (h : x < 2 ^ n) (hi : n ≤ i) : x.testBit i = false := Nat.testBit_lt_two_pow (Nat.lt_of_lt_of_le h (Nat.pow_le_pow_right (by omega) hi))
theorem dif0 {x y : Nat} (hx : x < 2 ^ 32) : dif x y = 0 ↔ sub x y := by
  constructor
  · intro h i hi
    have h32 : i < 32 := by
      by_cases q : i < 32
      · exact q
      · rw [bit_hi hx (by omega)] at hi
        exact absurd hi (by decide)
    have := dif_bit (f := x) (g := y) h32
    rw [h, Nat.zero_testBit, hi] at this
    cases hy : y.testBit i
    · rw [hy] at this; exact absurd this (by decide)
    · rfl
  · intro h
    apply Nat.eq_of_testBit_eq
    intro i
    rw [Nat.zero_testBit]
    by_cases q : i < 32
    · rw [dif_bit q]
      cases hx : x.testBit i
      · rfl
      · rw [h i hx]; rfl
    · exact bit_hi (Nat.lt_of_le_of_lt (dif_le x y) hx) (by omega)
theorem dif_hi {x y i : Nat} (hx : x < 2 ^ 32) : (dif x y).testBit i = (x.testBit i && !y.testBit i) := by
  by_cases q : i < 32
  · exact dif_bit q
  · rw [bit_hi (Nat.lt_of_le_of_lt (dif_le x y) hx) (by omega), bit_hi hx (by omega)]
    rfl
theorem bcn_sub {x y : Nat} (h : sub x y) : ∀ i, bcn x i ≤ bcn y i := by
  intro i
  induction i with
  | zero => exact Nat.le_refl _
  | succ i ih =>
    rw [bcn_s, bcn_s]
    have := h i
    by_cases hx : x.testBit i = true
    · rw [if_pos hx, if_pos (this hx)]; omega
    · rw [if_neg hx]; split <;> omega
theorem bcn_lt {x y j : Nat} (h : sub x y) (h1 : x.testBit j = false) (h2 : y.testBit j = true) : ∀ i, j < i → bcn x i < bcn y i := by
  intro i
  induction i with
  | zero => intro q; omega
  | succ i ih =>
    intro q
    rw [bcn_s, bcn_s]
    by_cases e : j = i
    · subst e
      rw [h1, h2]
      have := bcn_sub h j
      rw [if_neg (by decide), if_pos rfl]
      omega
    · have := ih (by omega)
      have := h i
      by_cases hx : x.testBit i = true
      · rw [if_pos hx, if_pos (this hx)]; omega
      · rw [if_neg hx]; split <;> omega
theorem sub_ne {x y : Nat} (h : sub x y) (hy : y < 2 ^ 12) (hne : x ≠ y) : pcn x < pcn y := by
  have : ∃ j, x.testBit j ≠ y.testBit j := by
    apply Classical.byContradiction
    intro q
    exact hne (Nat.eq_of_testBit_eq (fun i => Classical.byContradiction (fun q2 => q ⟨i, q2⟩)))
  obtain ⟨j, hj⟩ := this
  have hx : x.testBit j = false := by
    cases q : x.testBit j
    · rfl
    · exact absurd (q.trans (h j q).symm) hj
  have hyt : y.testBit j = true := by
    cases q : y.testBit j
    · exact absurd (hx.trans q.symm) hj
    · rfl
  refine bcn_lt h hx hyt 12 ?_
  by_cases q : j < 12
  · exact q
  · rw [bit_hi hy (by omega)] at hyt
    exact absurd hyt (by decide)
def rFold (P : Nat → Bool) (w : Nat → Nat) : Nat → Nat → Nat
  | 0, b => b
  | r + 1, b => rFold P w r (if P r = true ∧ w r ≤ w b then r else b)
def cFold (P : Nat → Bool) (w : Nat → Nat) (b0 : Nat) : Nat → Nat
  | 0 => b0
  | s + 1 => if P s = true ∧ w s < w (cFold P w b0 s) then s else cFold P w b0 s
def lx (w : Nat → Nat) (x y : Nat) : Prop := w x < w y ∨ (w x = w y ∧ x ≤ y)
theorem lx_rf {w : Nat → Nat} {x : Nat} : lx w x x := Or.inr ⟨rfl, Nat.le_refl _⟩
theorem lx_tr {w : Nat → Nat} {x y z : Nat} (h : lx w x y) (h2 : lx w y z) : lx w x z := by
  unfold lx at *
  omega
theorem lx_anti {w : Nat → Nat} {x y : Nat} (h : lx w x y) (h2 : lx w y x) : x = y := by
  unfold lx at *
  omega
theorem rFold_spec {P : Nat → Bool} {w : Nat → Nat} : ∀ r b, r ≤ b → (rFold P w r b = b ∨ (rFold P w r b < r ∧ P (rFold P w r b) = true)) ∧ lx w (rFold P w r b) b ∧ ∀ T, T < r → P T = true → lx w (rFold P w r b) T := by
  intro r
  induction r with
  | zero => intro b hb; exact ⟨Or.inl rfl, lx_rf, fun T hT => by omega⟩
  | succ r ih =>
    intro b hb
    rw [show rFold P w (r + 1) b = rFold P w r (if P r = true ∧ w r ≤ w b then r else b) from rfl]
    by_cases c : P r = true ∧ w r ≤ w b
    · rw [if_pos c]
      obtain ⟨i1, i2, i3⟩ := ih r (Nat.le_refl _)
      have l : lx w r b := by unfold lx; omega
      refine ⟨Or.inr ?_, lx_tr i2 l, fun T hT hP => ?_⟩
      · rcases i1 with q | q
        · rw [q]; exact ⟨by omega, c.1⟩
        · exact ⟨by omega, q.2⟩
      · by_cases e : T = r
        · rw [e]; exact i2
        · exact i3 T (by omega) hP
    · rw [if_neg c]
      obtain ⟨i1, i2, i3⟩ := ih b (by omega)
      refine ⟨?_, i2, fun T hT hP => ?_⟩
      · rcases i1 with q | q
        · exact Or.inl q
        · exact Or.inr ⟨by omega, q.2⟩
      · by_cases e : T = r
        · subst e
          have : ¬ w T ≤ w b := fun q => c ⟨hP, q⟩
          unfold lx at *
          omega
        · exact i3 T (by omega) hP
theorem cFold_spec {P : Nat → Bool} {w : Nat → Nat} {b0 : Nat} (hw : ∀ T, T < b0 → P T = true → w T < w b0) : ∀ s, s ≤ b0 → (cFold P w b0 s = b0 ∨ (cFold P w b0 s < s ∧ P (cFold P w b0 s) = true)) ∧ w (cFold P w b0 s) ≤ w b0 ∧ ∀ T, T < s → P T = true → lx w (cFold P w b0 s) T := by
  intro s
  induction s with
  | zero => intro _; exact ⟨Or.inl rfl, Nat.le_refl _, fun T hT => by omega⟩
  | succ s ih =>
    intro hs
    obtain ⟨i1, i2, i3⟩ := ih (by omega)
    rw [show cFold P w b0 (s + 1) = if P s = true ∧ w s < w (cFold P w b0 s) then s else cFold P w b0 s from rfl]
    by_cases c : P s = true ∧ w s < w (cFold P w b0 s)
    · rw [if_pos c]
      refine ⟨Or.inr ⟨by omega, c.1⟩, by omega, fun T hT hP => ?_⟩
      by_cases e : T = s
      · rw [e]; exact lx_rf
      · have := i3 T (by omega) hP
        unfold lx at *
        omega
    · rw [if_neg c]
      refine ⟨?_, i2, fun T hT hP => ?_⟩
      · rcases i1 with q | q
        · exact Or.inl q
        · exact Or.inr ⟨by omega, q.2⟩
      · by_cases e : T = s
        · subst e
          have h1 : ¬ w T < w (cFold P w b0 T) := fun q => c ⟨hP, q⟩
          have h2 := hw T (by omega) hP
          rcases i1 with q | q
          · rw [q] at h1; omega
          · unfold lx; omega
        · exact i3 T (by omega) hP
theorem two_folds {P P' : Nat → Bool} {w : Nat → Nat} {B V : Nat} (hB : P B = true) (hVB : V ≤ B) (hV : P V = true) (hw : ∀ T, T < V → P' T = true → w T < w V) (h1 : ∀ T, T < V → P' T = true → P T = true) (h2 : ∀ S, S ≤ B → P S = true → ∃ S', S' ≤ V ∧ (S' = V ∨ P' S' = true) ∧ w S' ≤ w S ∧ S' ≤ S) : cFold P' w V V = rFold P w (B + 1) B := by
  have e : rFold P w (B + 1) B = rFold P w B B := by
    show rFold P w B (if _ then _ else _) = _
    rw [if_pos ⟨hB, Nat.le_refl _⟩]
  rw [e]
  obtain ⟨r1, r2, r3⟩ := rFold_spec (P := P) (w := w) B B (Nat.le_refl _)
  obtain ⟨c1, c2, c3⟩ := cFold_spec (b0 := V) hw V (Nat.le_refl _)
  generalize rFold P w B B = x at *
  generalize cFold P' w V V = y at *
  have rx : ∀ T, T ≤ B → P T = true → lx w x T := fun T hT hP => by
    by_cases q : T = B
    · rw [q]; exact r2
    · exact r3 T (by omega) hP
  have px : x ≤ B ∧ P x = true := by
    rcases r1 with q | q
    · rw [q]; exact ⟨Nat.le_refl _, hB⟩
    · exact ⟨by omega, q.2⟩
  have py : y ≤ V ∧ P y = true := by
    rcases c1 with q | q
    · rw [q]; exact ⟨Nat.le_refl _, hV⟩
    · exact ⟨by omega, h1 y q.1 q.2⟩
  obtain ⟨S, s1, s2, s3, s4⟩ := h2 x px.1 px.2
  have ly : lx w y S := by
    by_cases q : S = V
    · rw [q]
      unfold lx
      rcases (show w y < w V ∨ w y = w V by omega) with q2 | q2
      · exact Or.inl q2
      · exact Or.inr ⟨q2, py.1⟩
    · exact c3 S (by omega) (s2.resolve_left q)
  refine (lx_anti (w := w) (rx y (by omega) py.2) (lx_tr ly ?_)).symm
  unfold lx
  omega
/-- prophecies, facts, cost -/
def hld (W : Fl) (k g : Nat) : Bool := metB (W (pcx k 1)) (W (pcx k 2)) g
def allH (W : Fl) (p g : Nat) : Nat → Bool
  | 0 => true
  | i + 1 => allH W p g i && (!p.testBit i || hld W i g)
def nonH (W : Fl) (p g : Nat) : Nat → Bool
  | 0 => true
  | i + 1 => nonH W p g i && (!p.testBit i || !hld W i g)
def soA (W : Fl) (p g : Nat) : Nat → Nat
  | 0 => 0
  | i + 1 => soA W p g i + (if p.testBit i = true ∧ hld W i g = true then 1 else 0)
theorem allH_iff {W : Fl} {p g : Nat} : ∀ i, allH W p g i = true ↔ ∀ k, k < i → p.testBit k = true → hld W k g = true := by
  intro i
  induction i with
  | zero => exact ⟨fun _ k hk => by omega, fun _ => rfl⟩
  | succ i ih =>
    show (allH W p g i && (!p.testBit i || hld W i g)) = true ↔ _
    rw [Bool.and_eq_true, ih]
    constructor
    · rintro ⟨h1, h2⟩ k hk hp
      by_cases e : k = i
      · subst e
        rw [hp] at h2
        exact h2
      · exact h1 k (by omega) hp
    · intro h
      refine ⟨fun k hk hp => h k (by omega) hp, ?_⟩
      cases q : p.testBit i
      · rfl
      · exact h i (by omega) q
theorem nonH_iff {W : Fl} {p g : Nat} : ∀ i, nonH W p g i = true ↔ ∀ k, k < i → p.testBit k = true → hld W k g = false := by
  intro i
  induction i with
  | zero => exact ⟨fun _ k hk => by omega, fun _ => rfl⟩
  | succ i ih =>
    show (nonH W p g i && (!p.testBit i || !hld W i g)) = true ↔ _
    rw [Bool.and_eq_true, ih]
    constructor
    · rintro ⟨h1, h2⟩ k hk hp
      by_cases e : k = i
      · subst e
        rw [hp] at h2
        simpa using h2
      · exact h1 k (by omega) hp
    · intro h
      refine ⟨fun k hk hp => h k (by omega) hp, ?_⟩
      cases q : p.testBit i
      · rfl
      · rw [h i (by omega) q]; rfl
theorem soA_le {W : Fl} {p g : Nat} : ∀ i, soA W p g i ≤ bcn p i := by
  intro i
  induction i with
  | zero => exact Nat.le_refl _
  | succ i ih =>
    rw [bcn_s]
    show soA W p g i + (if _ then _ else _) ≤ _
    by_cases h : p.testBit i = true
    · rw [if_pos h]; split <;> omega
    · rw [if_neg (fun q => h q.1), if_neg h]; omega
theorem soA_all {W : Fl} {p g : Nat} : ∀ i, ¬ soA W p g i < bcn p i ↔ allH W p g i = true := by
  intro i
  induction i with
  | zero => exact ⟨fun _ => rfl, fun _ => by show ¬ 0 < 0; omega⟩
  | succ i ih =>
    rw [bcn_s]
    show ¬ soA W p g i + (if _ then _ else _) < _ ↔ (allH W p g i && (!p.testBit i || hld W i g)) = true
    have l := soA_le (W := W) (p := p) (g := g) i
    rw [Bool.and_eq_true, ← ih]
    cases q : p.testBit i
    · rw [if_neg (fun q2 => absurd q2.1 (by decide)), if_neg (by decide)]
      constructor
      · intro h; exact ⟨by omega, rfl⟩
      · intro h; have := h.1; omega
    · cases q2 : hld W i g
      · rw [if_neg (fun q3 => absurd q3.2 (by decide)), if_pos rfl]
        constructor
        · intro h; omega
        · intro h; exact absurd h.2 (by decide)
      · rw [if_pos ⟨rfl, rfl⟩, if_pos rfl]
        constructor
        · intro h; exact ⟨by omega, rfl⟩
        · intro h; have := h.1; omega
theorem soA_none {W : Fl} {p g : Nat} : ∀ i, soA W p g i = 0 ↔ nonH W p g i = true := by
  intro i
  induction i with
  | zero => exact ⟨fun _ => rfl, fun _ => rfl⟩
  | succ i ih =>
    show soA W p g i + (if _ then _ else _) = 0 ↔ (nonH W p g i && (!p.testBit i || !hld W i g)) = true
    rw [Bool.and_eq_true, ← ih]
    cases q : p.testBit i
    · rw [if_neg (fun q2 => absurd q2.1 (by decide))]
      exact ⟨fun h => ⟨by omega, rfl⟩, fun h => by have := h.1; omega⟩
    · cases q2 : hld W i g
      · rw [if_neg (fun q3 => absurd q3.2 (by decide))]
        exact ⟨fun h => ⟨by omega, rfl⟩, fun h => by have := h.1; omega⟩
      · rw [if_pos ⟨rfl, rfl⟩]
        exact ⟨fun h => by omega, fun h => absurd h.2 (by decide)⟩
def cst (a : Fl) (S : Nat) : Nat → Nat
  | 0 => 0
  | i + 1 => cst a S i + (if S.testBit i = true then a (110 + 2 * i + 1) else 0)
theorem cst_le {a : Fl} {S : Nat} (hf : IFc a) : ∀ i, i ≤ a 0 → cst a S i ≤ 99 * i := by
  intro i
  induction i with
  | zero => intro _; exact Nat.le_refl _
  | succ i ih =>
    intro hi
    have := ih (by omega)
    have := (hf i (by omega)).2
    show cst a S i + (if _ then _ else _) ≤ _
    split <;> omega
theorem cst_sub {a : Fl} {x y : Nat} (h : sub x y) : ∀ i, cst a x i ≤ cst a y i := by
  intro i
  induction i with
  | zero => exact Nat.le_refl _
  | succ i ih =>
    show cst a x i + (if _ then _ else _) ≤ cst a y i + (if _ then _ else _)
    have := h i
    by_cases hx : x.testBit i = true
    · rw [if_pos hx, if_pos (this hx)]; omega
    · rw [if_neg hx]; omega
def wgt (a : Fl) (S : Nat) : Nat := cst a S (a 0) * 9 + pcn S
def uni (W : Fl) (p : Nat) : Nat → Nat
  | 0 => 0
  | i + 1 => uni W p i ||| (if p.testBit i = true then W (pcx i 2) else 0)
theorem uni_lt {n : Nat} {W : Fl} {p : Nat} (hW : IW n W) : ∀ i, i ≤ W 4 → uni W p i < 2 ^ n := by
  intro i
  induction i with
  | zero => intro _; exact Nat.two_pow_pos _
  | succ i ih =>
    intro hi
    refine Nat.or_lt_two_pow (ih (by omega)) ?_
    split
    · exact (hW.2.2.1 i (by omega)).2.2.2.1
    · exact Nat.two_pow_pos _
theorem uni_sub {W : Fl} {p : Nat} : ∀ i k, k < i → p.testBit k = true → sub (W (pcx k 2)) (uni W p i) := by
  intro i
  induction i with
  | zero => intro k hk; omega
  | succ i ih =>
    intro k hk hp j hj
    show (uni W p i ||| (if _ then _ else _)).testBit j = true
    rw [Nat.testBit_or]
    by_cases e : k = i
    · subst e
      rw [if_pos hp, hj, Bool.or_true]
    · rw [ih k (by omega) hp j hj, Bool.true_or]
theorem met_cg {al f g g' : Nat} (h : ∀ i, f.testBit i = true → g.testBit i = g'.testBit i) : metB al f g = metB al f g' := by
  have e : f &&& g = f &&& g' := by
    apply Nat.eq_of_testBit_eq
    intro i
    rw [Nat.testBit_and, Nat.testBit_and]
    cases q : f.testBit i
    · rfl
    · rw [h i q]
  unfold metB
  rw [e]
theorem met_full {al f g : Nat} (h0 : 0 < f) (h : sub f g) : metB al f g = true := by
  have e : f &&& g = f := by
    apply Nat.eq_of_testBit_eq
    intro i
    rw [Nat.testBit_and]
    cases q : f.testBit i
    · rfl
    · rw [h i q]; rfl
  unfold metB
  rw [e]
  split
  · simp
  · simp; omega
theorem met_zero {al f : Nat} (h0 : 0 < f) : metB al f 0 = false := by
  unfold metB
  rw [Nat.and_zero]
  split
  · simp; omega
  · rfl
abbrev okP (a : Fl) (p : Int32) : Prop := (1 ≤ p ∧ p < nI (2 ^ a 11)) ∧ ∀ k, k < a 11 → (nn p).testBit k = true → snap a (pcx k 5) = 0
def PL (a : Fl) (p S : Nat) : Bool := (S &&& a 10 == 0) && allH (snap a) p (a 10 ||| S) (a 11)
def lB (a : Fl) : Nat := dif (2 ^ a 0 - 1) (a 10)
def lBest (a : Fl) (p : Nat) : Nat := rFold (PL a p) (wgt a) (lB a + 1) (lB a)
def mLeast (a : Fl) (p : Int32) (c : Nat) : Int32 := if okP a p then (if c = 1 then nI (cst a (lBest a (nn p)) (a 0)) else nI (lBest a (nn p))) else -1
def PS (a : Fl) (p S : Nat) : Bool := nonH (snap a) p (dif (2 ^ a 0 - 1) S) (a 11)
def sBest (a : Fl) (p : Nat) : Nat := rFold (PS a p) pcn (2 ^ a 0 - 1 + 1) (2 ^ a 0 - 1)
def mStop (a : Fl) (p : Int32) : Int32 := if okP a p then nI (sBest a (nn p)) else -1
/-- the class's searches -/
def lV_ (a : Fl) (p : Nat) : Nat := dif (uni (snap a) p (a 11)) (a 10)
def PLc (a : Fl) (p S : Nat) : Bool := (dif S (lV_ a p) == 0) && allH (snap a) p (a 10 ||| S) (a 11)
def PSc (a : Fl) (p S : Nat) : Bool := (dif S (uni (snap a) p (a 11)) == 0) && nonH (snap a) p (dif (uni (snap a) p (a 11)) S) (a 11)
theorem all_bit {n i : Nat} : (2 ^ n - 1).testBit i = decide (i < n) := Nat.testBit_two_pow_sub_one n i
theorem sub_all {x n : Nat} (h : x < 2 ^ n) : sub x (2 ^ n - 1) := fun i hi => by
  rw [all_bit]
  by_cases q : i < n
  · simpa using q
  · rw [bit_hi h (by omega)] at hi
    exact absurd hi (by decide)
theorem least_eq {a : Fl} {p : Nat} (h0 : a 0 ≤ 8) (hW : IW (a 0) (snap a)) : cFold (PLc a p) (wgt a) (lV_ a p) (lV_ a p) = lBest a p := by
  have hu := uni_lt (p := p) hW (a 11) (Nat.le_refl _)
  have p8 : 2 ^ a 0 ≤ 2 ^ 8 := Nat.pow_le_pow_right (by omega) h0
  have hso : a 10 < 2 ^ a 0 := hW.1.2.2.2.1
  have bV : ∀ i, (lV_ a p).testBit i = ((uni (snap a) p (a 11)).testBit i && !(a 10).testBit i) := fun i => dif_hi (by omega)
  have lV := dif_le (uni (snap a) p (a 11)) (a 10)
  have bB : ∀ i, (lB a).testBit i = (decide (i < a 0) && !(a 10).testBit i) := fun i => by
    unfold lB
    rw [dif_hi (by omega), all_bit]
  have us : ∀ k, k < a 11 → p.testBit k = true → sub (snap a (pcx k 2)) (uni (snap a) p (a 11)) := fun k hk hp => uni_sub _ k hk hp
  have dis : ∀ S, S &&& a 10 = 0 ↔ ∀ i, S.testBit i = true → (a 10).testBit i = false := fun S => by
    constructor
    · intro h i hi
      have := congrArg (fun z => z.testBit i) h
      simp only [Nat.testBit_and, hi, Nat.zero_testBit, Bool.true_and] at this
      exact this
    · intro h
      apply Nat.eq_of_testBit_eq
      intro i
      rw [Nat.testBit_and, Nat.zero_testBit]
      cases q : S.testBit i
      · rfl
      · rw [h i q]; rfl
  unfold lBest
  refine two_folds ?_ ?_ ?_ ?_ ?_ ?_
  · unfold PL
    rw [Bool.and_eq_true, allH_iff]
    refine ⟨?_, fun k hk hp => ?_⟩
    · rw [beq_iff_eq, dis]
      intro i hi
      rw [bB i] at hi
      cases q : (a 10).testBit i
      · rfl
      · rw [q] at hi; simp at hi
    · have c := (hW.2.2.1 k hk).2.2
      refine met_full c.1 (fun i hi => ?_)
      rw [Nat.testBit_or, bB i]
      have := sub_all c.2.1 i hi
      rw [all_bit] at this
      rw [this]
      cases (a 10).testBit i <;> rfl
  · refine sub_le (fun i hi => ?_)
    rw [bV i, Bool.and_eq_true] at hi
    rw [bB i, Bool.and_eq_true]
    refine ⟨?_, hi.2⟩
    have := sub_all hu i hi.1
    rwa [all_bit] at this
  · unfold PL
    rw [Bool.and_eq_true, allH_iff]
    refine ⟨?_, fun k hk hp => ?_⟩
    · rw [beq_iff_eq, dis]
      intro i hi
      rw [bV i] at hi
      cases q : (a 10).testBit i
      · rfl
      · rw [q] at hi; simp at hi
    · have c := (hW.2.2.1 k hk).2.2
      refine met_full c.1 (fun i hi => ?_)
      rw [Nat.testBit_or, bV i, us k hk hp i hi]
      cases (a 10).testBit i <;> rfl
  · intro T hT hP
    unfold PLc at hP
    rw [Bool.and_eq_true, beq_iff_eq, dif0 (by unfold lV_ at hT; omega)] at hP
    have c1 := cst_sub (a := a) hP.1 (a 0)
    have c2 := sub_ne hP.1 (by unfold lV_; omega) (by omega)
    unfold wgt
    omega
  · intro T hT hP
    unfold PLc at hP
    rw [Bool.and_eq_true, beq_iff_eq, dif0 (by unfold lV_ at hT; omega)] at hP
    unfold PL
    rw [Bool.and_eq_true, beq_iff_eq, dis]
    refine ⟨fun i hi => ?_, hP.2⟩
    have := hP.1 i hi
    rw [bV i] at this
    cases q : (a 10).testBit i
    · rfl
    · rw [q] at this; simp at this
  · intro S hS hP
    unfold PL at hP
    rw [Bool.and_eq_true, beq_iff_eq, dis, allH_iff] at hP
    have s1 : sub (S &&& lV_ a p) (lV_ a p) := fun i hi => by rw [Nat.testBit_and, Bool.and_eq_true] at hi; exact hi.2
    have s2 : sub (S &&& lV_ a p) S := fun i hi => by rw [Nat.testBit_and, Bool.and_eq_true] at hi; exact hi.1
    refine ⟨S &&& lV_ a p, sub_le s1, Or.inr ?_, ?_, sub_le s2⟩
    · unfold PLc
      rw [Bool.and_eq_true, beq_iff_eq, dif0 (Nat.lt_of_le_of_lt (sub_le s1) (by unfold lV_; omega)), allH_iff]
      refine ⟨s1, fun k hk hp => ?_⟩
      rw [← hP.2 k hk hp]
      refine met_cg (fun i hi => ?_)
      rw [Nat.testBit_or, Nat.testBit_or, Nat.testBit_and, bV i, us k hk hp i hi]
      cases (a 10).testBit i <;> cases S.testBit i <;> rfl
    · have c1 := cst_sub (a := a) s2 (a 0)
      have c2 := bcn_sub s2 12
      unfold wgt
      show _ * 9 + bcn _ 12 ≤ _ * 9 + bcn _ 12
      omega
theorem stop_eq {a : Fl} {p : Nat} (h0 : a 0 ≤ 8) (hW : IW (a 0) (snap a)) : cFold (PSc a p) pcn (uni (snap a) p (a 11)) (uni (snap a) p (a 11)) = sBest a p := by
  have hu := uni_lt (p := p) hW (a 11) (Nat.le_refl _)
  have p8 : 2 ^ a 0 ≤ 2 ^ 8 := Nat.pow_le_pow_right (by omega) h0
  have us : ∀ k, k < a 11 → p.testBit k = true → sub (snap a (pcx k 2)) (uni (snap a) p (a 11)) := fun k hk hp => uni_sub _ k hk hp
  generalize hU : uni (snap a) p (a 11) = U at *
  have bA : ∀ S i, (dif (2 ^ a 0 - 1) S).testBit i = (decide (i < a 0) && !S.testBit i) := fun S i => by rw [dif_hi (by omega), all_bit]
  have bU : ∀ S i, (dif U S).testBit i = (U.testBit i && !S.testBit i) := fun S i => dif_hi (by omega)
  have lo : ∀ k, k < a 11 → ∀ i, (snap a (pcx k 2)).testBit i = true → decide (i < a 0) = true := fun k hk i hi => by
    have := sub_all (hW.2.2.1 k hk).2.2.2.1 i hi
    rwa [all_bit] at this
  unfold sBest
  refine two_folds ?_ ?_ ?_ ?_ ?_ ?_
  · unfold PS
    rw [nonH_iff]
    intro k hk hp
    rw [show dif (2 ^ a 0 - 1) (2 ^ a 0 - 1) = 0 from (dif0 (by omega)).mpr (fun i hi => hi)]
    exact met_zero (hW.2.2.1 k hk).2.2.1
  · omega
  · unfold PS
    rw [nonH_iff]
    intro k hk hp
    rw [show hld (snap a) k (dif (2 ^ a 0 - 1) U) = hld (snap a) k 0 from met_cg (fun i hi => by rw [bA U i, us k hk hp i hi, Nat.zero_testBit, Bool.not_true, Bool.and_false])]
    exact met_zero (hW.2.2.1 k hk).2.2.1
  · intro T hT hP
    unfold PSc at hP
    rw [hU, Bool.and_eq_true, beq_iff_eq, dif0 (by omega)] at hP
    exact sub_ne hP.1 (by omega) (by omega)
  · intro T hT hP
    unfold PSc at hP
    rw [hU, Bool.and_eq_true, beq_iff_eq, dif0 (by omega), nonH_iff] at hP
    unfold PS
    rw [nonH_iff]
    intro k hk hp
    rw [← hP.2 k hk hp]
    refine met_cg (fun i hi => ?_)
    rw [bA T i, bU T i, us k hk hp i hi, lo k hk i hi]
  · intro S hS hP
    unfold PS at hP
    rw [nonH_iff] at hP
    have s1 : sub (S &&& U) U := fun i hi => by rw [Nat.testBit_and, Bool.and_eq_true] at hi; exact hi.2
    have s2 : sub (S &&& U) S := fun i hi => by rw [Nat.testBit_and, Bool.and_eq_true] at hi; exact hi.1
    refine ⟨S &&& U, sub_le s1, Or.inr ?_, bcn_sub s2 12, sub_le s2⟩
    unfold PSc
    rw [hU, Bool.and_eq_true, beq_iff_eq, dif0 (Nat.lt_of_le_of_lt (sub_le s1) (by omega)), nonH_iff]
    refine ⟨s1, fun k hk hp => ?_⟩
    rw [← hP k hk hp]
    refine met_cg (fun i hi => ?_)
    rw [bA S i, bU _ i, Nat.testBit_and, us k hk hp i hi, lo k hk i hi]
    cases S.testBit i <;> rfl

