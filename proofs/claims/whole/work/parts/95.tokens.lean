/-! a tape taken apart: the tokens (wip/whole/gen95.py) -/
def isL (c : Nat) : Bool := (decide (97 ≤ c) && decide (c ≤ 122)) || (decide (65 ≤ c) && decide (c ≤ 90))
def isD (c : Nat) : Bool := decide (48 ≤ c) && decide (c ≤ 57)
def isSp (c : Nat) : Bool := decide (c = 32) || decide (c = 10)
theorem isL_b {c : Nat} (h : isL c = true) : 65 ≤ c ∧ c ≤ 122 := by
  unfold isL at h
  rw [Bool.or_eq_true, Bool.and_eq_true, Bool.and_eq_true, decide_eq_true_eq, decide_eq_true_eq, decide_eq_true_eq, decide_eq_true_eq] at h
  omega
theorem isD_b {c : Nat} : isD c = true ↔ 48 ≤ c ∧ c ≤ 57 := by
  unfold isD
  rw [Bool.and_eq_true, decide_eq_true_eq, decide_eq_true_eq]
def rn (P : Nat → Bool) (tp : Fl) (n : Nat) : Nat → Nat → Nat
  | 0, i => i
  | k + 1, i => if i < n ∧ P (tp i) = true then rn P tp n k (i + 1) else i
/-- where what is P ends -/
def rnF (P : Nat → Bool) (tp : Fl) (n i : Nat) : Nat := rn P tp n (n - i) i
theorem rnF_y {P : Nat → Bool} {tp : Fl} {n i : Nat} (h : i < n) (hp : P (tp i) = true) : rnF P tp n i = rnF P tp n (i + 1) := by
  unfold rnF
  rw [show n - i = (n - (i + 1)) + 1 by omega]
  exact if_pos ⟨h, hp⟩
theorem rnF_n {P : Nat → Bool} {tp : Fl} {n i : Nat} (h : ¬ (i < n ∧ P (tp i) = true)) : rnF P tp n i = i := by
  unfold rnF
  cases e : n - i with
  | zero => rfl
  | succ k => exact if_neg h
theorem rn_spec {P : Nat → Bool} {tp : Fl} {n : Nat} : ∀ k i, n - i = k → i ≤ rn P tp n k i ∧ (i ≤ n → rn P tp n k i ≤ n) ∧ (∀ j, i ≤ j → j < rn P tp n k i → j < n ∧ P (tp j) = true) ∧ ¬ (rn P tp n k i < n ∧ P (tp (rn P tp n k i)) = true) := by
  intro k
  induction k with
  | zero =>
    intro i h
    exact ⟨Nat.le_refl _, fun q => q, fun j q1 q2 => absurd q2 (by show ¬ j < i; omega), fun q => by have : i < n := q.1; omega⟩
  | succ k ih =>
    intro i h
    rw [show rn P tp n (k + 1) i = if i < n ∧ P (tp i) = true then rn P tp n k (i + 1) else i from rfl]
    by_cases c : i < n ∧ P (tp i) = true
    · rw [if_pos c]
      obtain ⟨a1, a2, a3, a4⟩ := ih (i + 1) (by omega)
      refine ⟨by omega, fun _ => a2 (by omega), fun j q1 q2 => ?_, a4⟩
      by_cases e : j = i
      · rw [e]; exact c
      · exact a3 j (by omega) q2
    · rw [if_neg c]
      exact ⟨Nat.le_refl _, fun q => q, fun j q1 q2 => by omega, c⟩
theorem rnF_ge {P : Nat → Bool} {tp : Fl} {n i : Nat} : i ≤ rnF P tp n i := (rn_spec _ i rfl).1
theorem rnF_le {P : Nat → Bool} {tp : Fl} {n i : Nat} (h : i ≤ n) : rnF P tp n i ≤ n := (rn_spec _ i rfl).2.1 h
theorem rnF_all {P : Nat → Bool} {tp : Fl} {n i j : Nat} (h1 : i ≤ j) (h2 : j < rnF P tp n i) : j < n ∧ P (tp j) = true := (rn_spec _ i rfl).2.2.1 j h1 h2
theorem rnF_end {P : Nat → Bool} {tp : Fl} {n i : Nat} : ¬ (rnF P tp n i < n ∧ P (tp (rnF P tp n i)) = true) := (rn_spec _ i rfl).2.2.2
theorem rnF_gt {P : Nat → Bool} {tp : Fl} {n i : Nat} (h : i < n) (hp : P (tp i) = true) : i < rnF P tp n i := by
  rw [rnF_y h hp]
  have := rnF_ge (P := P) (tp := tp) (n := n) (i := i + 1)
  omega
def WDs : List (List Nat) := [[99, 111, 109, 101, 115], [100, 117, 101, 115], [114, 101, 110, 111, 119, 110], [102, 97, 99, 116], [112, 114, 111, 112, 104, 101, 116], [102, 111, 114, 101, 116, 101, 108, 108], [98, 114, 105, 110, 103], [115, 112, 111, 105, 108], [115, 101, 108, 108], [100, 97, 121], [99, 111, 115, 116], [102, 97, 109, 101], [97, 110, 121], [97, 108, 108], [105, 110], [102, 101, 101], [98, 121], [116, 111], [112, 114, 105, 99, 101], [112, 101, 114, 99, 101, 110, 116], [111, 102], [115, 111], [105, 102], [116, 104, 101, 110], [101, 108, 115, 101], [101, 110, 100], [111, 114], [97, 110, 100], [110, 111, 116], [109, 97, 110, 121], [111, 100, 100, 115], [119, 104, 111], [112, 117, 114, 115, 101], [102, 97, 99, 116, 115], [100, 117, 101]]
def mt (tp : Fl) (p e : Nat) (W : List Nat) : Bool := decide (e - p = W.length) && allB (fun j => tp (p + j) == W.getD j 0) W.length
def fdW (tp : Fl) (p e : Nat) : List (List Nat) → Nat → Nat
  | [], _ => 53
  | W :: r, k => if mt tp p e W = true then k else fdW tp p e r (k + 1)
theorem mt_iff {tp : Fl} {p e : Nat} {W : List Nat} : mt tp p e W = true ↔ e - p = W.length ∧ ∀ j, j < W.length → tp (p + j) = W.getD j 0 := by
  unfold mt
  rw [Bool.and_eq_true, decide_eq_true_eq, allB_iff]
  constructor
  · rintro ⟨h1, h2⟩
    exact ⟨h1, fun j hj => by have := h2 j hj; simpa using this⟩
  · rintro ⟨h1, h2⟩
    exact ⟨h1, fun j hj => by have := h2 j hj; simpa using this⟩
theorem mt_uniq {tp : Fl} {p e : Nat} {W V : List Nat} (h1 : mt tp p e W = true) (h2 : mt tp p e V = true) : W = V := by
  obtain ⟨a1, a2⟩ := mt_iff.mp h1
  obtain ⟨b1, b2⟩ := mt_iff.mp h2
  apply List.ext_getElem (by omega)
  intro i i1 i2
  have q1 := a2 i i1
  have q2 := b2 i i2
  rw [List.getD_eq_getElem?_getD, List.getElem?_eq_getElem i1, Option.getD_some] at q1
  rw [List.getD_eq_getElem?_getD, List.getElem?_eq_getElem i2, Option.getD_some] at q2
  omega
theorem fdW_of {tp : Fl} {p e : Nat} : ∀ (l : List (List Nat)) (k j : Nat) (W : List Nat), l[j]? = some W → mt tp p e W = true → (∀ i, i < j → l[i]? ≠ some W) → fdW tp p e l k = k + j := by
  intro l
  induction l with
  | nil => intro k j W h; simp at h
  | cons V r ih =>
    intro k j W h hm hn
    rw [show fdW tp p e (V :: r) k = if mt tp p e V = true then k else fdW tp p e r (k + 1) from rfl]
    cases j with
    | zero =>
      have e : V = W := by simpa using h
      rw [e, if_pos hm]
      rfl
    | succ j =>
      have hv : ¬ mt tp p e V = true := fun q => by
        have := mt_uniq q hm
        exact hn 0 (by omega) (by rw [this]; rfl)
      rw [if_neg hv, ih (k + 1) j W (by simpa using h) hm (fun i hi => by have := hn (i + 1) (by omega); simpa using this)]
      omega
theorem fdW_is {tp : Fl} {p e : Nat} : ∀ (l : List (List Nat)) (k : Nat), k + l.length ≤ 53 → (fdW tp p e l k = 53 ∧ ∀ W, W ∈ l → ¬ mt tp p e W = true) ∨ ∃ j W, l[j]? = some W ∧ mt tp p e W = true ∧ fdW tp p e l k = k + j ∧ j < l.length := by
  intro l
  induction l with
  | nil => intro k _; exact Or.inl ⟨rfl, fun W h => absurd h (by simp)⟩
  | cons V r ih =>
    intro k hk
    rw [show fdW tp p e (V :: r) k = if mt tp p e V = true then k else fdW tp p e r (k + 1) from rfl]
    have hl : (V :: r).length = r.length + 1 := rfl
    by_cases c : mt tp p e V = true
    · rw [if_pos c]
      exact Or.inr ⟨0, V, rfl, c, rfl, by omega⟩
    · rw [if_neg c]
      rcases ih (k + 1) (by omega) with ⟨h1, h2⟩ | ⟨j, W, h1, h2, h3, h4⟩
      · refine Or.inl ⟨h1, fun W hW => ?_⟩
        rcases List.mem_cons.mp hW with q | q
        · rw [q]; exact c
        · exact h2 W q
      · exact Or.inr ⟨j + 1, W, by simpa using h1, h2, by omega, by omega⟩
def kdW (tp : Fl) (p e : Nat) : Nat := fdW tp p e WDs 1
theorem kdW_iff {tp : Fl} {p e k : Nat} {W : List Nat} (hW : WDs[k]? = some W) (hk : k < 35) (hn : ∀ i, i < k → WDs[i]? ≠ some W) : kdW tp p e = k + 1 ↔ mt tp p e W = true := by
  constructor
  · intro h
    rcases fdW_is (tp := tp) (p := p) (e := e) WDs 1 (by decide) with ⟨h1, _⟩ | ⟨j, V, h1, h2, h3, h4⟩
    · have h1 : kdW tp p e = 53 := h1
      omega
    · have h3 : kdW tp p e = 1 + j := h3
      have ej : j = k := by omega
      rw [ej, hW] at h1
      have : W = V := by simpa using h1
      rw [this]
      exact h2
  · intro h
    have := fdW_of (tp := tp) (p := p) (e := e) WDs 1 k W hW h hn
    show fdW tp p e WDs 1 = k + 1
    omega
theorem kdW_le {tp : Fl} {p e : Nat} : (1 ≤ kdW tp p e ∧ kdW tp p e ≤ 35) ∨ kdW tp p e = 53 := by
  rcases fdW_is (tp := tp) (p := p) (e := e) WDs 1 (by decide) with ⟨h1, _⟩ | ⟨j, V, h1, h2, h3, h4⟩
  · exact Or.inr h1
  · have h4 : j < 35 := h4
    have h3 : kdW tp p e = 1 + j := h3
    exact Or.inl (by omega)
def sgK (c : Nat) : Nat := if c = 60 then 40 else if c = 62 then 41 else if c = 61 then 42 else if c = 35 then 43 else if c = 43 then 44 else if c = 45 then 45 else if c = 42 then 46 else if c = 47 then 47 else if c = 40 then 48 else if c = 41 then 49 else if c = 44 then 50 else if c = 59 then 51 else 53
abbrev two2 (tp : Fl) (n p : Nat) : Prop := p + 1 < n ∧ tp (p + 1) = 61 ∧ (tp p = 60 ∨ tp p = 62)
def tkK (tp : Fl) (n p : Nat) : Nat := if n ≤ p then 54 else if isL (tp p) = true then kdW tp p (rnF isL tp n p) else if isD (tp p) = true then 52 else if two2 tp n p then (if tp p = 60 then 38 else 39) else sgK (tp p)
def tkE (tp : Fl) (n p : Nat) : Nat := if n ≤ p then p else if isL (tp p) = true then rnF isL tp n p else if isD (tp p) = true then rnF isD tp n p else if two2 tp n p then p + 2 else p + 1
/-- numbers, as the class and as the reference reads them -/
def nmC (tp : Fl) (p : Nat) : Nat → Nat
  | 0 => 0
  | k + 1 => min 10000 (nmC tp p k * 10 + (tp (p + k) - 48))
def nmR (tp : Fl) (p : Nat) : Nat → Nat
  | 0 => 0
  | k + 1 => if 99999 < nmR tp p k then nmR tp p k else 10 * nmR tp p k + (tp (p + k) - 48)
theorem nmC_R {tp : Fl} {p : Nat} : ∀ k, nmC tp p k = min 10000 (nmR tp p k) := by
  intro k
  induction k with
  | zero => rfl
  | succ k ih =>
    rw [show nmC tp p (k + 1) = min 10000 (nmC tp p k * 10 + (tp (p + k) - 48)) from rfl, show nmR tp p (k + 1) = if 99999 < nmR tp p k then nmR tp p k else 10 * nmR tp p k + (tp (p + k) - 48) from rfl, ih]
    split <;> omega
theorem nmR_le {tp : Fl} {p : Nat} : ∀ k, (∀ j, j < k → tp (p + j) ≤ 57) → nmR tp p k ≤ 1000000 := by
  intro k
  induction k with
  | zero => intro _; exact Nat.zero_le _
  | succ k ih =>
    intro h
    have := ih (fun j hj => h j (by omega))
    have := h k (by omega)
    rw [show nmR tp p (k + 1) = if 99999 < nmR tp p k then nmR tp p k else 10 * nmR tp p k + (tp (p + k) - 48) from rfl]
    split <;> omega
/-- a word as the reference spells it -/
def spR (tp : Fl) (p : Nat) : Nat → Nat
  | 0 => 0
  | k + 1 => if 2 ^ 48 ≤ spR tp p k then 2 ^ 60 else spR tp p k * 256 + tp (p + k)
def nuR (tp : Fl) (p : Nat) : Nat → Nat
  | 0 => 0
  | k + 1 => nuR tp p k * 256 + tp (p + k)
def ewW (W : List Nat) : Nat → Nat
  | 0 => 0
  | k + 1 => ewW W k * 256 + W.getD k 0
theorem nuR_b {tp : Fl} {p : Nat} : ∀ k, (∀ j, j < k → 1 ≤ tp (p + j) ∧ tp (p + j) ≤ 255) → nuR tp p k < 256 ^ k ∧ (0 < k → 256 ^ (k - 1) ≤ nuR tp p k) := by
  intro k
  induction k with
  | zero => intro _; exact ⟨by show 0 < 1; omega, fun h => by omega⟩
  | succ k ih =>
    intro h
    obtain ⟨a, b⟩ := ih (fun j hj => h j (by omega))
    have c := h k (by omega)
    rw [show nuR tp p (k + 1) = nuR tp p k * 256 + tp (p + k) from rfl]
    refine ⟨by rw [Nat.pow_succ]; omega, fun _ => ?_⟩
    rcases Nat.eq_zero_or_pos k with q | q
    · subst q
      show 256 ^ 0 ≤ _
      omega
    · have := b q
      rw [show k + 1 - 1 = (k - 1) + 1 by omega, Nat.pow_succ]
      omega
theorem spR_7 {tp : Fl} {p : Nat} : ∀ k, k ≤ 7 → (∀ j, j < k → 1 ≤ tp (p + j) ∧ tp (p + j) ≤ 255) → spR tp p k = nuR tp p k := by
  intro k
  induction k with
  | zero => intro _ _; rfl
  | succ k ih =>
    intro hk h
    have e := ih (by omega) (fun j hj => h j (by omega))
    have b := (nuR_b (tp := tp) (p := p) k (fun j hj => h j (by omega))).1
    have l : 256 ^ k ≤ 256 ^ 6 := Nat.pow_le_pow_right (by omega) (by omega)
    rw [show spR tp p (k + 1) = if 2 ^ 48 ≤ spR tp p k then 2 ^ 60 else spR tp p k * 256 + tp (p + k) from rfl, e, if_neg (by omega)]
    rfl
theorem spR_8 {tp : Fl} {p : Nat} : ∀ k, 8 ≤ k → (∀ j, j < k → 1 ≤ tp (p + j) ∧ tp (p + j) ≤ 255) → spR tp p k = 2 ^ 60 := by
  intro k
  induction k with
  | zero => intro h; omega
  | succ k ih =>
    intro hk h
    rw [show spR tp p (k + 1) = if 2 ^ 48 ≤ spR tp p k then 2 ^ 60 else spR tp p k * 256 + tp (p + k) from rfl]
    by_cases q : 8 ≤ k
    · rw [ih q (fun j hj => h j (by omega)), if_pos (by omega)]
    · have e7 : k = 7 := by omega
      subst e7
      have b := (nuR_b (tp := tp) (p := p) 7 (fun j hj => h j (by omega))).2 (by omega)
      rw [spR_7 7 (by omega) (fun j hj => h j (by omega)), if_pos (by omega)]
theorem spR_lt {tp : Fl} {p k : Nat} (h : ∀ j, j < k → 1 ≤ tp (p + j) ∧ tp (p + j) ≤ 255) : spR tp p k ≤ 2 ^ 60 := by
  by_cases q : k ≤ 7
  · rw [spR_7 k q h]
    have b := (nuR_b (tp := tp) (p := p) k h).1
    have l : 256 ^ k ≤ 256 ^ 7 := Nat.pow_le_pow_right (by omega) (by omega)
    omega
  · rw [spR_8 k (by omega) h]
    exact Nat.le_refl _
theorem nuR_inj {tp : Fl} {p : Nat} {W : List Nat} : ∀ k l, (∀ j, j < k → 1 ≤ tp (p + j) ∧ tp (p + j) ≤ 255) → (∀ j, j < l → 1 ≤ W.getD j 0 ∧ W.getD j 0 ≤ 255) → nuR tp p k = ewW W l → k = l ∧ ∀ j, j < k → tp (p + j) = W.getD j 0 := by
  intro k
  induction k with
  | zero =>
    intro l h hw e
    cases l with
    | zero => exact ⟨rfl, fun j hj => by omega⟩
    | succ l =>
      have := hw l (by omega)
      have e : 0 = ewW W l * 256 + W.getD l 0 := e
      omega
  | succ k ih =>
    intro l h hw e
    have hk := h k (by omega)
    cases l with
    | zero =>
      have e : nuR tp p k * 256 + tp (p + k) = 0 := e
      omega
    | succ l =>
      have hl := hw l (by omega)
      have e : nuR tp p k * 256 + tp (p + k) = ewW W l * 256 + W.getD l 0 := e
      obtain ⟨i1, i2⟩ := ih l (fun j hj => h j (by omega)) (fun j hj => hw j (by omega)) (by omega)
      refine ⟨by omega, fun j hj => ?_⟩
      by_cases q : j = k
      · subst q
        subst i1
        omega
      · exact i2 j (by omega)
theorem ewW_lt {W : List Nat} : ∀ l, (∀ j, j < l → W.getD j 0 ≤ 255) → ewW W l < 256 ^ l := by
  intro l
  induction l with
  | zero => intro _; show 0 < 1; omega
  | succ l ih =>
    intro h
    have := ih (fun j hj => h j (by omega))
    have := h l (by omega)
    show ewW W l * 256 + W.getD l 0 < _
    rw [Nat.pow_succ]
    omega
/-- what the reference asks of a word of at most six letters -/
theorem sp_mt {tp : Fl} {p e : Nat} {W : List Nat} (h : ∀ j, j < e - p → 1 ≤ tp (p + j) ∧ tp (p + j) ≤ 255) (hl : W.length ≤ 6) (hw : ∀ j, j < W.length → 1 ≤ W.getD j 0 ∧ W.getD j 0 ≤ 255) : spR tp p (e - p) = ewW W W.length ↔ mt tp p e W = true := by
  rw [mt_iff]
  have wl := ewW_lt (W := W) W.length (fun j hj => (hw j hj).2)
  have w6 : 256 ^ W.length ≤ 256 ^ 6 := Nat.pow_le_pow_right (by omega) hl
  constructor
  · intro q
    by_cases k7 : e - p ≤ 7
    · rw [spR_7 _ k7 h] at q
      obtain ⟨i1, i2⟩ := nuR_inj _ _ h hw q
      exact ⟨i1, fun j hj => i2 j (by omega)⟩
    · rw [spR_8 _ (by omega) h] at q
      omega
  · rintro ⟨q1, q2⟩
    rw [spR_7 _ (by omega) h, q1]
    have L : ∀ k, k ≤ W.length → nuR tp p k = ewW W k := by
      intro k
      induction k with
      | zero => intro _; rfl
      | succ k ih =>
        intro hk
        show nuR tp p k * 256 + tp (p + k) = ewW W k * 256 + W.getD k 0
        rw [ih (by omega), q2 k (by omega)]
    exact L _ (Nat.le_refl _)
/-- the row of tokens -/
def tA (tp : Fl) (n : Nat) : Nat → Nat
  | 0 => 0
  | i + 1 => tkE tp n (rnF isSp tp n (tA tp n i))
def tP (tp : Fl) (n i : Nat) : Nat := rnF isSp tp n (tA tp n i)
def tK (tp : Fl) (n i : Nat) : Nat := tkK tp n (tP tp n i)
def tN (tp : Fl) (n i : Nat) : Nat := if tK tp n i = 52 then nmC tp (tP tp n i) (tA tp n (i + 1) - tP tp n i) else 0
theorem tkE_b {tp : Fl} {n p : Nat} (h : p ≤ n) : tkE tp n p ≤ n ∧ p ≤ tkE tp n p ∧ (p < n → p < tkE tp n p) := by
  unfold tkE
  split
  · exact ⟨h, Nat.le_refl _, fun q => by omega⟩
  · split
    · rename_i h1 h2
      have := rnF_gt (P := isL) (tp := tp) (n := n) (i := p) (by omega) h2
      exact ⟨rnF_le h, by omega, fun _ => this⟩
    · split
      · rename_i h1 h2 h3
        have := rnF_gt (P := isD) (tp := tp) (n := n) (i := p) (by omega) h3
        exact ⟨rnF_le h, by omega, fun _ => this⟩
      · split
        · rename_i h1 h2 h3 h4
          exact ⟨by have := h4.1; omega, by omega, fun _ => by omega⟩
        · exact ⟨by omega, by omega, fun _ => by omega⟩
theorem tA_le {tp : Fl} {n : Nat} : ∀ i, tA tp n i ≤ n := by
  intro i
  induction i with
  | zero => exact Nat.zero_le _
  | succ i ih => exact (tkE_b (rnF_le ih)).1
theorem tP_le {tp : Fl} {n i : Nat} : tP tp n i ≤ n := rnF_le (tA_le i)
theorem tK_54 {tp : Fl} {n i : Nat} : tK tp n i = 54 ↔ tP tp n i = n := by
  have := tP_le (tp := tp) (n := n) (i := i)
  unfold tK tkK
  constructor
  · intro h
    by_cases q : n ≤ tP tp n i
    · omega
    · rw [if_neg q] at h
      split at h
      · rcases kdW_le (tp := tp) (p := tP tp n i) (e := rnF isL tp n (tP tp n i)) with c | c <;> omega
      · split at h
        · omega
        · split at h
          · split at h <;> omega
          · unfold sgK at h
            repeat' split at h
            all_goals omega
  · intro h
    rw [if_pos (by omega)]
theorem tA_gt {tp : Fl} {n i : Nat} (h : tK tp n i ≠ 54) : tP tp n i < n ∧ tP tp n i < tA tp n (i + 1) := by
  have := tP_le (tp := tp) (n := n) (i := i)
  have q : tP tp n i < n := by
    by_cases c : tP tp n i = n
    · exact absurd (tK_54.mpr c) h
    · omega
  exact ⟨q, (tkE_b (tp := tp) this).2.2 q⟩
theorem tP_i {tp : Fl} {n : Nat} : ∀ i, (∀ j, j < i → tK tp n j ≠ 54) → i ≤ tA tp n i := by
  intro i
  induction i with
  | zero => intro _; exact Nat.zero_le _
  | succ i ih =>
    intro h
    have a := ih (fun j hj => h j (by omega))
    have b := (tA_gt (h i (by omega))).2
    have c : tA tp n i ≤ tP tp n i := rnF_ge
    omega
theorem tK_stay {tp : Fl} {n i : Nat} (h : tK tp n i = 54) : tK tp n (i + 1) = 54 := by
  have e := tK_54.mp h
  refine tK_54.mpr ?_
  have a : tA tp n (i + 1) = n := by
    show tkE tp n (tP tp n i) = n
    unfold tkE
    rw [if_pos (by omega), e]
  show rnF isSp tp n (tA tp n (i + 1)) = n
  rw [a]
  exact rnF_n (fun q => by omega)

