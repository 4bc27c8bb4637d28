/-! worlds by what was heard: the model, and how many they are (wip/whole/gen86.py) -/
def cntP (P : Nat → Bool) : Nat → Nat
  | 0 => 0
  | s + 1 => cntP P s + (if P s = true then 1 else 0)
theorem cntP_cg {P P' : Nat → Bool} : ∀ s, (∀ j, j < s → P j = P' j) → cntP P s = cntP P' s := by
  intro s
  induction s with
  | zero => intro _; rfl
  | succ s ih =>
    intro h
    show cntP P s + (if _ then _ else _) = cntP P' s + (if _ then _ else _)
    rw [ih (fun j hj => h j (by omega)), h s (by omega)]
theorem cntP_no {P : Nat → Bool} : ∀ s, (∀ j, j < s → P j = false) → cntP P s = 0 := by
  intro s
  induction s with
  | zero => intro _; rfl
  | succ s ih =>
    intro h
    show cntP P s + (if _ then _ else _) = 0
    rw [ih (fun j hj => h j (by omega)), h s (by omega), if_neg (by decide)]
theorem cntP_add {P : Nat → Bool} (s : Nat) : ∀ t, cntP P (s + t) = cntP P s + cntP (fun j => P (s + j)) t := by
  intro t
  induction t with
  | zero => rfl
  | succ t ih =>
    show cntP P (s + t) + (if P (s + t) = true then 1 else 0) = cntP P s + (cntP (fun j => P (s + j)) t + (if P (s + t) = true then 1 else 0))
    rw [ih]
    omega
theorem cntP_le {P : Nat → Bool} : ∀ s, cntP P s ≤ s := by
  intro s
  induction s with
  | zero => exact Nat.le_refl _
  | succ s ih =>
    show cntP P s + (if _ then _ else _) ≤ _
    split <;> omega
theorem cntP_split {P H : Nat → Bool} : ∀ s, cntP P s = cntP (fun j => P j && H j) s + cntP (fun j => P j && !H j) s := by
  intro s
  induction s with
  | zero => rfl
  | succ s ih =>
    show cntP P s + (if P s = true then 1 else 0) = (cntP (fun j => P j && H j) s + (if (P s && H s) = true then 1 else 0)) + (cntP (fun j => P j && !H j) s + (if (P s && !H s) = true then 1 else 0))
    rw [ih]
    cases P s <;> cases H s <;> simp <;> omega
/-- so is as A says, where K knows -/
def ag (K A so : Nat) : Nat → Bool
  | 0 => true
  | i + 1 => ag K A so i && (!K.testBit i || so.testBit i == A.testBit i)
theorem ag_iff {K A so : Nat} : ∀ n, ag K A so n = true ↔ ∀ i, i < n → K.testBit i = true → so.testBit i = A.testBit i := by
  intro n
  induction n with
  | zero => exact ⟨fun _ i hi => by omega, fun _ => rfl⟩
  | succ n ih =>
    show (ag K A so n && (!K.testBit n || so.testBit n == A.testBit n)) = true ↔ _
    rw [Bool.and_eq_true, ih]
    constructor
    · rintro ⟨h1, h2⟩ i hi hk
      by_cases e : i = n
      · subst e
        rw [hk] at h2
        simpa using h2
      · exact h1 i (by omega) hk
    · intro h
      refine ⟨fun i hi hk => h i (by omega) hk, ?_⟩
      cases q : K.testBit n
      · rfl
      · rw [h n (by omega) q]; simp
def fr (K : Nat) : Nat → Nat
  | 0 => 0
  | i + 1 => fr K i + (if K.testBit i = true then 0 else 1)
theorem tb_add {n j i : Nat} (hj : j < 2 ^ n) : (2 ^ n + j).testBit i = if i = n then true else j.testBit i := by
  by_cases h : i < n
  · rw [if_neg (by omega), Nat.testBit_two_pow_add_gt h]
  · by_cases e : i = n
    · subst e
      rw [if_pos rfl, Nat.testBit_two_pow_add_eq, bit_hi hj (Nat.le_refl _)]
      rfl
    · rw [if_neg e, bit_hi hj (by omega)]
      refine bit_hi (n := n + 1) ?_ (by omega)
      rw [Nat.pow_succ]
      omega
theorem cnt_ag {K A : Nat} : ∀ n, cntP (fun so => ag K A so n) (2 ^ n) = 2 ^ fr K n := by
  intro n
  induction n with
  | zero => rfl
  | succ n ih =>
    rw [Nat.pow_succ, show 2 ^ n * 2 = 2 ^ n + 2 ^ n by omega, cntP_add]
    have lo : ∀ j, j < 2 ^ n → ag K A (2 ^ n + j) n = ag K A j n := fun j hj => by
      apply Bool.eq_iff_iff.mpr
      rw [ag_iff, ag_iff]
      constructor
      · intro h i hi hk
        have := h i hi hk
        rwa [tb_add hj, if_neg (by omega)] at this
      · intro h i hi hk
        rw [tb_add hj, if_neg (by omega)]
        exact h i hi hk
    have e1 : ∀ j, j < 2 ^ n → ag K A j (n + 1) = (ag K A j n && (!K.testBit n || false == A.testBit n)) := fun j hj => by
      show (ag K A j n && (!K.testBit n || j.testBit n == A.testBit n)) = _
      rw [bit_hi hj (Nat.le_refl _)]
    have e2 : ∀ j, j < 2 ^ n → ag K A (2 ^ n + j) (n + 1) = (ag K A j n && (!K.testBit n || true == A.testBit n)) := fun j hj => by
      show (ag K A (2 ^ n + j) n && (!K.testBit n || (2 ^ n + j).testBit n == A.testBit n)) = _
      rw [lo j hj, tb_add hj, if_pos rfl]
    rw [cntP_cg _ e1, cntP_cg _ e2]
    show _ = 2 ^ (fr K n + (if _ then _ else _))
    cases hk : K.testBit n
    · rw [if_neg (by decide), Nat.pow_succ]
      simp only [Bool.not_false, Bool.true_or, Bool.and_true]
      rw [ih]
      omega
    · rw [if_pos rfl, Nat.add_zero]
      cases ha : A.testBit n
      · simp only [Bool.not_true, Bool.false_or, beq_self_eq_true, Bool.and_true]
        rw [ih, cntP_no _ (fun j _ => by rw [show (true == false) = false from rfl, Bool.and_false])]
        rfl
      · simp only [Bool.not_true, Bool.false_or, beq_self_eq_true, Bool.and_true]
        rw [ih, cntP_no _ (fun j _ => by rw [show (false == true) = false from rfl, Bool.and_false])]
        omega
theorem fr_pcn {K n : Nat} (hn : n ≤ 12) : pcn (dif (2 ^ n - 1) K) = fr K n := by
  have p12 : 2 ^ n ≤ 2 ^ 12 := Nat.pow_le_pow_right (by omega) hn
  have p1 : 0 < 2 ^ n := Nat.pow_pos (by omega)
  have hd := dif_le (2 ^ n - 1) K
  rw [← bcn_top (n := n) (by omega) hn]
  have L : ∀ i, i ≤ n → bcn (dif (2 ^ n - 1) K) i = fr K i := by
    intro i
    induction i with
    | zero => intro _; rfl
    | succ i ih =>
      intro hi
      rw [bcn_s, ih (by omega), dif_hi (by omega), all_bit]
      show _ = fr K i + (if _ then _ else _)
      have : decide (i < n) = true := decide_eq_true (by omega)
      rw [this]
      cases K.testBit i <;> rfl
  exact L n (Nat.le_refl _)
/-- what the class reckons -/
def cWo (n K : Nat) : Nat := 2 ^ pcn (dif (2 ^ n - 1) K)
def cSo (a : Fl) (k K A : Nat) : Nat := if snap a (pcx k 1) = 1 then (if dif (snap a (pcx k 2) &&& K) A = 0 then cWo (a 0) (K ||| snap a (pcx k 2)) else 0) else (if snap a (pcx k 2) &&& A = 0 then cWo (a 0) K - cWo (a 0) (K ||| snap a (pcx k 2)) else cWo (a 0) K)
theorem cWo_cnt {n K A : Nat} (hn : n ≤ 12) : cntP (fun so => ag K A so n) (2 ^ n) = cWo n K := by
  rw [cnt_ag]
  unfold cWo
  rw [fr_pcn hn]
theorem met_1 {f g : Nat} : metB 1 f g = true ↔ sub f g := by
  unfold metB
  rw [if_pos rfl, beq_iff_eq]
  constructor
  · intro h i hi
    have := congrArg (fun z => z.testBit i) h
    simp only [Nat.testBit_and, hi, Bool.true_and] at this
    exact this
  · intro h
    apply Nat.eq_of_testBit_eq
    intro i
    rw [Nat.testBit_and]
    cases q : f.testBit i
    · rfl
    · rw [h i q]; rfl
theorem and0 {f g : Nat} : f &&& g = 0 ↔ ∀ i, f.testBit i = true → g.testBit i = false := by
  constructor
  · intro h i hi
    have := congrArg (fun z => z.testBit i) h
    simp only [Nat.testBit_and, hi, Nat.zero_testBit, Bool.true_and] at this
    exact this
  · intro h
    apply Nat.eq_of_testBit_eq
    intro i
    rw [Nat.testBit_and, Nat.zero_testBit]
    cases q : f.testBit i
    · rfl
    · rw [h i q]; rfl
theorem met_0 {al f g : Nat} (ha : al ≠ 1) : metB al f g = false ↔ f &&& g = 0 := by
  unfold metB
  rw [if_neg ha]
  simp
theorem cSo_cnt {a : Fl} {k K A : Nat} (h0 : a 0 ≤ 8) (hW : IW (a 0) (snap a)) (hk : k < a 11) (hA : sub A K) : cntP (fun so => ag K A so (a 0) && hld (snap a) k so) (2 ^ a 0) = cSo a k K A ∧ cntP (fun so => ag K A so (a 0) && !hld (snap a) k so) (2 ^ a 0) = cWo (a 0) K - cSo a k K A := by
  have c := hW.2.2.1 k hk
  have cf := c.2.2.2.1
  have tot := cWo_cnt (n := a 0) (K := K) (A := A) (by omega)
  have spl := cntP_split (P := fun so => ag K A so (a 0)) (H := fun so => hld (snap a) k so) (2 ^ a 0)
  rw [tot] at spl
  have main : cntP (fun so => ag K A so (a 0) && hld (snap a) k so) (2 ^ a 0) = cSo a k K A := by
    have fb : ∀ i, (snap a (pcx k 2)).testBit i = true → i < a 0 := fun i hi => by
      have := sub_all cf i hi
      rw [all_bit] at this
      simpa using this
    have hh : ∀ so, hld (snap a) k so = metB (snap a (pcx k 1)) (snap a (pcx k 2)) so := fun _ => rfl
    unfold cSo
    generalize snap a (pcx k 2) = F at *
    have p8 : 2 ^ a 0 ≤ 2 ^ 8 := Nat.pow_le_pow_right (by omega) h0
    by_cases h1 : snap a (pcx k 1) = 1
    · rw [if_pos h1]
      have d0 := dif0 (x := F &&& K) (y := A) (Nat.lt_of_le_of_lt Nat.and_le_left (by omega))
      by_cases hz : dif (F &&& K) A = 0
      · rw [if_pos hz, ← cWo_cnt (A := A ||| F) (by omega)]
        have hs := d0.mp hz
        refine cntP_cg _ (fun so hso => ?_)
        apply Bool.eq_iff_iff.mpr
        show (ag K A so (a 0) && hld (snap a) k so) = true ↔ ag (K ||| F) (A ||| F) so (a 0) = true
        rw [Bool.and_eq_true, hh, h1, met_1, ag_iff, ag_iff]
        constructor
        · rintro ⟨q1, q2⟩ i hi hk
          rw [Nat.testBit_or] at hk ⊢
          cases qf : F.testBit i
          · rw [qf, Bool.or_false] at hk
            rw [q1 i hi hk, Bool.or_false]
          · rw [q2 i qf, Bool.or_true]
        · intro q
          refine ⟨fun i hi hk => ?_, fun i hf => ?_⟩
          · have := q i hi (by rw [Nat.testBit_or, hk, Bool.true_or])
            rw [this, Nat.testBit_or]
            cases qf : F.testBit i
            · rw [Bool.or_false]
            · rw [hs i (by rw [Nat.testBit_and, qf, hk]; rfl)]; rfl
          · have := q i (fb i hf) (by rw [Nat.testBit_or, hf, Bool.or_true])
            rw [this, Nat.testBit_or, hf, Bool.or_true]
      · rw [if_neg hz]
        refine cntP_no _ (fun so hso => ?_)
        cases e : (ag K A so (a 0) && hld (snap a) k so)
        · rfl
        · exfalso
          rw [Bool.and_eq_true, hh, h1, met_1, ag_iff] at e
          refine hz (d0.mpr (fun i hi => ?_))
          rw [Nat.testBit_and, Bool.and_eq_true] at hi
          rw [← e.1 i (fb i hi.1) hi.2]
          exact e.2 i hi.1
    · rw [if_neg h1]
      have neg : cntP (fun so => ag K A so (a 0) && !hld (snap a) k so) (2 ^ a 0) = if F &&& A = 0 then cWo (a 0) (K ||| F) else 0 := by
        by_cases hz : F &&& A = 0
        · rw [if_pos hz, ← cWo_cnt (A := A) (by omega)]
          have hs := and0.mp hz
          refine cntP_cg _ (fun so hso => ?_)
          apply Bool.eq_iff_iff.mpr
          show (ag K A so (a 0) && !hld (snap a) k so) = true ↔ ag (K ||| F) A so (a 0) = true
          rw [Bool.and_eq_true, Bool.not_eq_true', hh, met_0 h1, and0, ag_iff, ag_iff]
          constructor
          · rintro ⟨q1, q2⟩ i hi hk
            rw [Nat.testBit_or] at hk
            cases qf : F.testBit i
            · rw [qf, Bool.or_false] at hk
              exact q1 i hi hk
            · rw [q2 i qf, hs i qf]
          · intro q
            refine ⟨fun i hi hk => q i hi (by rw [Nat.testBit_or, hk, Bool.true_or]), fun i hf => ?_⟩
            rw [q i (fb i hf) (by rw [Nat.testBit_or, hf, Bool.or_true]), hs i hf]
        · rw [if_neg hz]
          refine cntP_no _ (fun so hso => ?_)
          cases e : (ag K A so (a 0) && !hld (snap a) k so)
          · rfl
          · exfalso
            rw [Bool.and_eq_true, Bool.not_eq_true', hh, met_0 h1, and0, ag_iff] at e
            refine hz (and0.mpr (fun i hf => ?_))
            cases qa : A.testBit i
            · rfl
            · have := e.1 i (fb i hf) (hA i qa)
              rw [e.2 i hf, qa] at this
              exact absurd this (by decide)
      rw [neg] at spl
      by_cases hz : F &&& A = 0
      · rw [if_pos hz] at spl ⊢
        omega
      · rw [if_neg hz] at spl ⊢
        omega
  exact ⟨main, by omega⟩
/-- what was heard -/
def IH (a : Fl) : Prop := ∀ k, k < a 6 → a (158 + 2 * k) < a 0 ∧ a (158 + 2 * k + 1) ≤ 1
def isW (a : Fl) (so : Nat) : Nat → Bool
  | 0 => true
  | k + 1 => isW a so k && (so.testBit (a (158 + 2 * k)) == decide (a (158 + 2 * k + 1) = 1))
theorem isW_iff {a : Fl} {so : Nat} : ∀ n, isW a so n = true ↔ ∀ k, k < n → so.testBit (a (158 + 2 * k)) = decide (a (158 + 2 * k + 1) = 1) := by
  intro n
  induction n with
  | zero => exact ⟨fun _ i hi => by omega, fun _ => rfl⟩
  | succ n ih =>
    show (isW a so n && (so.testBit (a (158 + 2 * n)) == decide (a (158 + 2 * n + 1) = 1))) = true ↔ _
    rw [Bool.and_eq_true, ih, beq_iff_eq]
    constructor
    · rintro ⟨h1, h2⟩ k hk
      by_cases e : k = n
      · subst e; exact h2
      · exact h1 k (by omega)
    · intro h
      exact ⟨fun k hk => h k (by omega), h n (by omega)⟩
def knw (a : Fl) : Nat → Nat
  | 0 => 0
  | k + 1 => knw a k ||| 2 ^ a (158 + 2 * k)
def kso (a : Fl) : Nat → Nat
  | 0 => 0
  | k + 1 => kso a k ||| (if a (158 + 2 * k + 1) = 1 then 2 ^ a (158 + 2 * k) else 0)
theorem knw_bit {a : Fl} {j : Nat} : ∀ n, (knw a n).testBit j = true ↔ ∃ k, k < n ∧ a (158 + 2 * k) = j := by
  intro n
  induction n with
  | zero =>
    show (0 : Nat).testBit j = true ↔ _
    rw [Nat.zero_testBit]
    exact ⟨fun h => absurd h (by decide), fun ⟨k, hk, _⟩ => by omega⟩
  | succ n ih =>
    show (knw a n ||| 2 ^ a (158 + 2 * n)).testBit j = true ↔ _
    rw [Nat.testBit_or, Bool.or_eq_true, ih, Nat.testBit_two_pow, decide_eq_true_eq]
    constructor
    · rintro (⟨k, hk, e⟩ | e)
      · exact ⟨k, by omega, e⟩
      · exact ⟨n, by omega, e⟩
    · rintro ⟨k, hk, e⟩
      by_cases q : k = n
      · subst q; exact Or.inr e
      · exact Or.inl ⟨k, by omega, e⟩
theorem kso_bit {a : Fl} {j : Nat} : ∀ n, (kso a n).testBit j = true ↔ ∃ k, k < n ∧ a (158 + 2 * k) = j ∧ a (158 + 2 * k + 1) = 1 := by
  intro n
  induction n with
  | zero =>
    show (0 : Nat).testBit j = true ↔ _
    rw [Nat.zero_testBit]
    exact ⟨fun h => absurd h (by decide), fun ⟨k, hk, _⟩ => by omega⟩
  | succ n ih =>
    show (kso a n ||| (if _ then _ else _)).testBit j = true ↔ _
    rw [Nat.testBit_or, Bool.or_eq_true, ih]
    by_cases hv : a (158 + 2 * n + 1) = 1
    · rw [if_pos hv, Nat.testBit_two_pow, decide_eq_true_eq]
      constructor
      · rintro (⟨k, hk, e⟩ | e)
        · exact ⟨k, by omega, e⟩
        · exact ⟨n, by omega, e, hv⟩
      · rintro ⟨k, hk, e⟩
        by_cases q : k = n
        · subst q; exact Or.inr e.1
        · exact Or.inl ⟨k, by omega, e⟩
    · rw [if_neg hv, Nat.zero_testBit]
      constructor
      · rintro (⟨k, hk, e⟩ | e)
        · exact ⟨k, by omega, e⟩
        · exact absurd e (by decide)
      · rintro ⟨k, hk, e⟩
        by_cases q : k = n
        · subst q; exact absurd e.2 hv
        · exact Or.inl ⟨k, by omega, e⟩
def ctd (a : Fl) : Prop := ∃ k, k < a 6 ∧ a (158 + 2 * k + 1) = 0 ∧ (kso a (a 6)).testBit (a (158 + 2 * k)) = true
def ctB (a : Fl) : Nat → Bool
  | 0 => false
  | k + 1 => ctB a k || (decide (a (158 + 2 * k + 1) = 0) && (kso a (a 6)).testBit (a (158 + 2 * k)))
theorem ctB_iff {a : Fl} : ∀ n, ctB a n = true ↔ ∃ k, k < n ∧ a (158 + 2 * k + 1) = 0 ∧ (kso a (a 6)).testBit (a (158 + 2 * k)) = true := by
  intro n
  induction n with
  | zero => exact ⟨fun h => absurd (show false = true from h) (by decide), fun ⟨k, hk, _⟩ => by omega⟩
  | succ n ih =>
    show (ctB a n || (decide (a (158 + 2 * n + 1) = 0) && (kso a (a 6)).testBit (a (158 + 2 * n)))) = true ↔ _
    rw [Bool.or_eq_true, ih, Bool.and_eq_true, decide_eq_true_eq]
    constructor
    · rintro (⟨k, hk, e⟩ | e)
      · exact ⟨k, by omega, e⟩
      · exact ⟨n, by omega, e⟩
    · rintro ⟨k, hk, e⟩
      by_cases q : k = n
      · subst q; exact Or.inr e
      · exact Or.inl ⟨k, by omega, e⟩
theorem isW_ct {a : Fl} {so : Nat} (hc : ctB a (a 6) = true) : isW a so (a 6) = false := by
  obtain ⟨k, hk, h0, hb⟩ := (ctB_iff _).mp hc
  obtain ⟨k2, hk2, e2, h1⟩ := (kso_bit _).mp hb
  cases q : isW a so (a 6)
  · rfl
  · exfalso
    have w := (isW_iff _).mp q
    have w1 := w k hk
    have w2 := w k2 hk2
    rw [h0] at w1
    rw [h1, e2] at w2
    rw [w1] at w2
    exact absurd w2 (by decide)
theorem isW_ag {a : Fl} {so : Nat} (hc : ctB a (a 6) = false) (hi : IH a) : isW a so (a 6) = ag (knw a (a 6)) (kso a (a 6)) so (a 0) := by
  have nc : ∀ k, k < a 6 → a (158 + 2 * k + 1) = 0 → (kso a (a 6)).testBit (a (158 + 2 * k)) = false := fun k hk h0 => by
    cases q : (kso a (a 6)).testBit (a (158 + 2 * k))
    · rfl
    · rw [(ctB_iff _).mpr ⟨k, hk, h0, q⟩] at hc
      exact absurd hc (by decide)
  have av : ∀ k, k < a 6 → (kso a (a 6)).testBit (a (158 + 2 * k)) = decide (a (158 + 2 * k + 1) = 1) := fun k hk => by
    by_cases h1 : a (158 + 2 * k + 1) = 1
    · rw [(kso_bit _).mpr ⟨k, hk, rfl, h1⟩, h1]; rfl
    · have := (hi k hk).2
      have h0 : a (158 + 2 * k + 1) = 0 := by omega
      rw [nc k hk h0, h0]; rfl
  apply Bool.eq_iff_iff.mpr
  rw [isW_iff, ag_iff]
  constructor
  · intro h i hin hk
    obtain ⟨k, hk, e⟩ := (knw_bit _).mp hk
    rw [← e, h k hk, av k hk]
  · intro h k hk
    rw [h _ (hi k hk).1 ((knw_bit _).mpr ⟨k, hk, rfl⟩), av k hk]
theorem kso_sub {a : Fl} {n : Nat} : sub (kso a n) (knw a n) := fun i hi => by
  obtain ⟨k, hk, e, _⟩ := (kso_bit _).mp hi
  exact (knw_bit _).mpr ⟨k, hk, e⟩
theorem knw_lt {a : Fl} (hi : IH a) : ∀ n, n ≤ a 6 → knw a n < 2 ^ a 0 := by
  intro n
  induction n with
  | zero => intro _; exact Nat.two_pow_pos _
  | succ n ih =>
    intro hn
    exact Nat.or_lt_two_pow (ih (by omega)) (Nat.pow_lt_pow_right (by omega) (hi n (by omega)).1)
def wPr (a : Fl) (k is fx as so : Nat) : Bool := isW a so (a 6) && (so &&& fx == as) && (decide (is = 2) || hld (snap a) k so == decide (is = 1))
def wcR (a : Fl) (k is fx as : Nat) : Nat := cntP (wPr a k is fx as) (2 ^ a 0)
theorem wcR_le {a : Fl} {k is fx as : Nat} : wcR a k is fx as ≤ 2 ^ a 0 := cntP_le _
def mWorlds (a : Fl) (k w : Int32) : Int32 := if vin k (a 11) ∧ inr w 0 1 then nI (wcR a (nn k) (if w = 0 then 2 else 1) 0 0) else -1
def wbR (a : Fl) (k fx as : Nat) : Nat := min (wcR a k 1 fx as) (wcR a k 0 fx as)
def tlV (a : Fl) (k f : Nat) : Nat := if (knw a (a 6)).testBit f = true then 1000000000 else wbR a k (2 ^ f) (2 ^ f) + wbR a k (2 ^ f) 0
def tl (a : Fl) (k : Nat) : Nat → Nat × Nat
  | 0 => (0, 1000000000)
  | f + 1 => if tlV a k f < (tl a k f).2 then (f + 1, tlV a k f) else tl a k f
def mTells (a : Fl) (k : Int32) : Int32 := if vin k (a 11) ∧ ¬ wcR a (nn k) 2 0 0 = 0 then cT (tl a (nn k) (a 0)).1 else -1
/-- the class's numbers are these -/
theorem worlds_0 {a : Fl} {k is fx as : Nat} (hc : ctB a (a 6) = true) : wcR a k is fx as = 0 := cntP_no _ (fun so _ => by
  unfold wPr
  rw [isW_ct hc]
  rfl)
theorem worlds_2 {a : Fl} {k : Nat} (h0 : a 0 ≤ 8) (hi : IH a) (hc : ctB a (a 6) = false) : wcR a k 2 0 0 = cWo (a 0) (knw a (a 6)) := by
  rw [← cWo_cnt (A := kso a (a 6)) (by omega)]
  refine cntP_cg _ (fun so _ => ?_)
  unfold wPr
  rw [isW_ag hc hi, Nat.and_zero]
  simp
theorem worlds_1 {a : Fl} {k : Nat} (h0 : a 0 ≤ 8) (hW : IW (a 0) (snap a)) (hk : k < a 11) (hi : IH a) (hc : ctB a (a 6) = false) : wcR a k 1 0 0 = cSo a k (knw a (a 6)) (kso a (a 6)) := by
  rw [← (cSo_cnt h0 hW hk kso_sub).1]
  refine cntP_cg _ (fun so _ => ?_)
  unfold wPr
  rw [isW_ag hc hi, Nat.and_zero]
  simp
theorem cWo_pos {n K : Nat} : 0 < cWo n K := Nat.two_pow_pos _
theorem bit_and {so f : Nat} : (so &&& 2 ^ f == 2 ^ f) = so.testBit f ∧ (so &&& 2 ^ f == 0) = !so.testBit f := by
  have e : so &&& 2 ^ f = if so.testBit f = true then 2 ^ f else 0 := by
    apply Nat.eq_of_testBit_eq
    intro i
    rw [Nat.testBit_and, Nat.testBit_two_pow]
    by_cases q : f = i
    · subst q
      cases h : so.testBit f
      · simp
      · simp [Nat.testBit_two_pow]
    · have : decide (f = i) = false := by simpa using q
      rw [this, Bool.and_false]
      split
      · rw [Nat.testBit_two_pow, this]
      · rw [Nat.zero_testBit]
  have p : 2 ^ f ≠ 0 := Nat.ne_of_gt (Nat.two_pow_pos f)
  rw [e]
  cases h : so.testBit f
  · simp [p.symm]
  · simp [p]
theorem wrong_c {a : Fl} {k f b : Nat} (h0 : a 0 ≤ 8) (hW : IW (a 0) (snap a)) (hk : k < a 11) (hi : IH a) (hc : ctB a (a 6) = false) (hf : f < a 0) (hu : (knw a (a 6)).testBit f = false) (hb : b = 0 ∨ b = 1) : wbR a k (2 ^ f) (b * 2 ^ f) = min (cSo a k (knw a (a 6) ||| 2 ^ f) (kso a (a 6) ||| b * 2 ^ f)) (cWo (a 0) (knw a (a 6) ||| 2 ^ f) - cSo a k (knw a (a 6) ||| 2 ^ f) (kso a (a 6) ||| b * 2 ^ f)) := by
  have ab : ∀ i, (kso a (a 6) ||| b * 2 ^ f).testBit i = ((kso a (a 6)).testBit i || (decide (b = 1) && decide (f = i))) := fun i => by
    rw [Nat.testBit_or]
    rcases hb with rfl | rfl
    · rw [Nat.zero_mul, Nat.zero_testBit]; rfl
    · rw [Nat.one_mul, Nat.testBit_two_pow]; rfl
  have kb : ∀ i, (knw a (a 6) ||| 2 ^ f).testBit i = ((knw a (a 6)).testBit i || decide (f = i)) := fun i => by
    rw [Nat.testBit_or, Nat.testBit_two_pow]
  have hs : sub (kso a (a 6) ||| b * 2 ^ f) (knw a (a 6) ||| 2 ^ f) := fun i hi => by
    rw [ab i] at hi
    rw [kb i]
    cases q : (kso a (a 6)).testBit i
    · rw [q, Bool.false_or, Bool.and_eq_true] at hi
      rw [hi.2, Bool.or_true]
    · rw [kso_sub i q, Bool.true_or]
  have key : ∀ so, (isW a so (a 6) && (so &&& 2 ^ f == b * 2 ^ f)) = ag (knw a (a 6) ||| 2 ^ f) (kso a (a 6) ||| b * 2 ^ f) so (a 0) := fun so => by
    have e : (so &&& 2 ^ f == b * 2 ^ f) = (so.testBit f == decide (b = 1)) := by
      rcases hb with rfl | rfl
      · rw [Nat.zero_mul, bit_and.2]
        cases so.testBit f <;> rfl
      · rw [Nat.one_mul, bit_and.1]
        cases so.testBit f <;> rfl
    rw [e, isW_ag hc hi]
    apply Bool.eq_iff_iff.mpr
    rw [Bool.and_eq_true, ag_iff, ag_iff, beq_iff_eq]
    have ku : (kso a (a 6)).testBit f = false := by
      cases q : (kso a (a 6)).testBit f
      · rfl
      · rw [kso_sub f q] at hu; exact absurd hu (by decide)
    constructor
    · rintro ⟨q1, q2⟩ i hi hki
      rw [kb i] at hki
      rw [ab i]
      by_cases e : f = i
      · subst e
        rw [q2, ku]
        simp
      · have de : decide (f = i) = false := by simpa using e
        rw [de, Bool.or_false] at hki
        rw [de, Bool.and_false, Bool.or_false]
        exact q1 i hi hki
    · intro q
      refine ⟨fun i hi hki => ?_, ?_⟩
      · have := q i hi (by rw [kb i, hki, Bool.true_or])
        rw [ab i] at this
        have e : ¬ f = i := fun e => by subst e; rw [hu] at hki; exact absurd hki (by decide)
        have de : decide (f = i) = false := by simpa using e
        rw [de, Bool.and_false, Bool.or_false] at this
        exact this
      · have := q f hf (by rw [kb f]; simp)
        rw [ab f, ku] at this
        simpa using this
  obtain ⟨c1, c2⟩ := cSo_cnt h0 hW hk hs
  unfold wbR wcR
  rw [← c2, ← c1]
  congr 1
  · refine cntP_cg _ (fun so _ => ?_)
    unfold wPr
    rw [key so]
    simp
  · refine cntP_cg _ (fun so _ => ?_)
    unfold wPr
    rw [key so]
    cases hld (snap a) k so <;> simp

