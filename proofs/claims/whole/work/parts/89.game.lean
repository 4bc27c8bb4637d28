/-! duels: the game, and its positions as numbers (wip/whole/gen89.py) -/
def anyB (P : Nat → Bool) : Nat → Bool
  | 0 => false
  | i + 1 => anyB P i || P i
def allB (P : Nat → Bool) : Nat → Bool
  | 0 => true
  | i + 1 => allB P i && P i
theorem anyB_iff {P : Nat → Bool} : ∀ n, anyB P n = true ↔ ∃ i, i < n ∧ P i = true := by
  intro n
  induction n with
  | zero => exact ⟨fun h => absurd (show false = true from h) (by decide), fun ⟨k, hk, _⟩ => by omega⟩
  | succ n ih =>
    show (anyB P n || P n) = true ↔ _
    rw [Bool.or_eq_true, ih]
    constructor
    · rintro (⟨k, hk, e⟩ | e)
      · exact ⟨k, by omega, e⟩
      · exact ⟨n, by omega, e⟩
    · rintro ⟨k, hk, e⟩
      by_cases q : k = n
      · subst q; exact Or.inr e
      · exact Or.inl ⟨k, by omega, e⟩
theorem allB_iff {P : Nat → Bool} : ∀ n, allB P n = true ↔ ∀ i, i < n → P i = true := by
  intro n
  induction n with
  | zero => exact ⟨fun _ k hk => by omega, fun _ => rfl⟩
  | succ n ih =>
    show (allB P n && P n) = true ↔ _
    rw [Bool.and_eq_true, ih]
    constructor
    · rintro ⟨h1, h2⟩ k hk
      by_cases q : k = n
      · subst q; exact h2
      · exact h1 k (by omega)
    · intro h
      exact ⟨fun k hk => h k (by omega), h n (by omega)⟩
theorem met_mono {al f s s' : Nat} (h : sub s s') (hm : metB al f s = true) : metB al f s' = true := by
  by_cases ha : al = 1
  · subst ha
    rw [met_1] at hm ⊢
    exact fun i hi => h i (hm i hi)
  · cases q : metB al f s'
    · rw [met_0 ha, and0] at q
      have : metB al f s = false := (met_0 ha).mpr (and0.mpr (fun i hi => by
        cases e : s.testBit i
        · rfl
        · have := q i hi
          rw [h i e] at this
          exact absurd this (by decide)))
      rw [this] at hm
      exact absurd hm (by decide)
    · rfl
def winB (a : Fl) (so : Nat) (n : Nat) : Bool := allB (fun k => wsB a k so) n
def win (a : Fl) (so : Nat) : Bool := winB a so (a 5)
theorem win_mono {a : Fl} {s s' : Nat} (h : sub s s') (hw : win a s = true) : win a s' = true := by
  unfold win winB at *
  rw [allB_iff] at *
  exact fun k hk => met_mono h (hw k hk)
def mvS (mk : Bool) (s i : Nat) : Nat := if mk = true then s ||| 2 ^ i else s
def gV (w : Nat → Bool) : Nat → Bool → Nat → Nat → Bool
  | 0, _, _, s => w s
  | n + 1, true, L, s => anyB (fun i => L.testBit i && gV w n false (dif L (2 ^ i)) (s ||| 2 ^ i)) 8
  | n + 1, false, L, s => allB (fun i => !L.testBit i || gV w n true (dif L (2 ^ i)) s) 8
theorem gV_step {w : Nat → Bool} {n L s : Nat} {mk : Bool} : gV w (n + 1) mk L s = mk ↔ ∃ i, i < 8 ∧ L.testBit i = true ∧ gV w n (!mk) (dif L (2 ^ i)) (mvS mk s i) = mk := by
  cases mk
  · show allB (fun i => !L.testBit i || gV w n true (dif L (2 ^ i)) s) 8 = false ↔ _
    constructor
    · intro h
      apply Classical.byContradiction
      intro q
      have : allB (fun i => !L.testBit i || gV w n true (dif L (2 ^ i)) s) 8 = true := by
        rw [allB_iff]
        intro i hi
        show (!L.testBit i || gV w n true (dif L (2 ^ i)) s) = true
        cases e : L.testBit i
        · rfl
        · cases e2 : gV w n true (dif L (2 ^ i)) s
          · exact absurd ⟨i, hi, e, e2⟩ q
          · rfl
      rw [h] at this
      exact absurd this (by decide)
    · rintro ⟨i, hi, e, e2⟩
      have e2 : gV w n true (dif L (2 ^ i)) s = false := e2
      cases q : allB (fun i => !L.testBit i || gV w n true (dif L (2 ^ i)) s) 8
      · rfl
      · have := (allB_iff _).mp q i hi
        have this : (!L.testBit i || gV w n true (dif L (2 ^ i)) s) = true := this
        rw [e, e2] at this
        exact absurd this (by decide)
  · show anyB (fun i => L.testBit i && gV w n false (dif L (2 ^ i)) (s ||| 2 ^ i)) 8 = true ↔ _
    rw [anyB_iff]
    constructor
    · rintro ⟨i, hi, e⟩
      have e : (L.testBit i && gV w n false (dif L (2 ^ i)) (s ||| 2 ^ i)) = true := e
      rw [Bool.and_eq_true] at e
      exact ⟨i, hi, e.1, e.2⟩
    · rintro ⟨i, hi, e, e2⟩
      refine ⟨i, hi, ?_⟩
      show (L.testBit i && gV w n false (dif L (2 ^ i)) (s ||| 2 ^ i)) = true
      rw [Bool.and_eq_true]
      exact ⟨e, e2⟩
theorem pcn_rm : ∀ L, L < 256 → ∀ i, i < 8 → L.testBit i = true → pcn (dif L (2 ^ i)) + 1 = pcn L := by decide +kernel
theorem pcn_z : ∀ L, L < 256 → (pcn L = 0 ↔ L = 0) := by decide +kernel
theorem bit_ex {L : Nat} (h : L < 256) (h0 : pcn L ≠ 0) : ∃ i, i < 8 ∧ L.testBit i = true := by
  have q : ∀ L, L < 256 → L ≠ 0 → anyB (fun i => L.testBit i) 8 = true := by decide +kernel
  exact (anyB_iff _).mp (q L h (fun e => h0 ((pcn_z L h).mpr e)))
theorem sub_or {s t : Nat} : sub s (s ||| t) := fun i hi => by rw [Nat.testBit_or, hi, Bool.true_or]
theorem sub_mv {mk : Bool} {s i : Nat} : sub s (mvS mk s i) := by
  unfold mvS
  split
  · exact sub_or
  · exact fun _ h => h
theorem sub_tr {x y z : Nat} (h : sub x y) (h2 : sub y z) : sub x z := fun i hi => h2 i (h i hi)
theorem gV_won {w : Nat → Bool} (hw : ∀ s s', sub s s' → w s = true → w s' = true) : ∀ n mk L s, L < 256 → pcn L = n → w s = true → gV w n mk L s = true := by
  intro n
  induction n with
  | zero => intro mk L s _ _ h; exact h
  | succ n ih =>
    intro mk L s hL hn h
    have ch : ∀ i, i < 8 → L.testBit i = true → gV w n (!mk) (dif L (2 ^ i)) (mvS mk s i) = true := fun i hi hb => by
      have := pcn_rm L hL i hi hb
      exact ih _ _ _ (Nat.lt_of_le_of_lt (dif_le _ _) hL) (by omega) (hw _ _ sub_mv h)
    cases mk
    · cases q : gV w (n + 1) false L s
      · obtain ⟨i, hi, hb, e⟩ := gV_step.mp q
        rw [ch i hi hb] at e
        exact absurd e (by decide)
      · rfl
    · obtain ⟨i, hi, hb⟩ := bit_ex hL (by omega)
      exact gV_step.mpr ⟨i, hi, hb, ch i hi hb⟩
theorem gV_lost {w : Nat → Bool} (hw : ∀ s s', sub s s' → w s = true → w s' = true) : ∀ n mk L s, L < 256 → pcn L = n → w (s ||| L) = false → gV w n mk L s = false := by
  intro n
  induction n with
  | zero =>
    intro mk L s hL hn h
    have e := (pcn_z L hL).mp hn
    rw [e, Nat.or_zero] at h
    exact h
  | succ n ih =>
    intro mk L s hL hn h
    have ch : ∀ i, i < 8 → L.testBit i = true → gV w n (!mk) (dif L (2 ^ i)) (mvS mk s i) = false := fun i hi hb => by
      have := pcn_rm L hL i hi hb
      refine ih _ _ _ (Nat.lt_of_le_of_lt (dif_le _ _) hL) (by omega) ?_
      cases q : w (mvS mk s i ||| dif L (2 ^ i))
      · rfl
      · have : w (s ||| L) = true := hw _ _ (fun j hj => by
          rw [Nat.testBit_or, Bool.or_eq_true] at hj ⊢
          rcases hj with hj | hj
          · unfold mvS at hj
            split at hj
            · rw [Nat.testBit_or, Bool.or_eq_true] at hj
              rcases hj with hj | hj
              · exact Or.inl hj
              · rw [Nat.testBit_two_pow, decide_eq_true_eq] at hj
                subst hj
                exact Or.inr hb
            · exact Or.inl hj
          · rw [dif_hi (by omega), Bool.and_eq_true] at hj
            exact Or.inr hj.1) q
        rw [h] at this
        exact absurd this (by decide)
    cases mk
    · obtain ⟨i, hi, hb⟩ := bit_ex hL (by omega)
      exact gV_step.mpr ⟨i, hi, hb, ch i hi hb⟩
    · cases q : gV w (n + 1) true L s
      · rfl
      · obtain ⟨i, hi, hb, e⟩ := gV_step.mp q
        rw [ch i hi hb] at e
        exact absurd e (by decide)
/-- positions by threes -/
def dg (c f : Nat) : Nat := c / 3 ^ f % 3
def mskF (P : Nat → Bool) : Nat → Nat
  | 0 => 0
  | i + 1 => mskF P i ||| (if P i = true then 2 ^ i else 0)
theorem mskF_bit {P : Nat → Bool} {j : Nat} : ∀ n, (mskF P n).testBit j = (decide (j < n) && P j) := by
  intro n
  induction n with
  | zero =>
    show (0 : Nat).testBit j = _
    rw [Nat.zero_testBit]
    rfl
  | succ n ih =>
    show (mskF P n ||| (if _ then _ else _)).testBit j = _
    rw [Nat.testBit_or, ih]
    by_cases e : j = n
    · subst e
      have h1 : decide (j < j) = false := decide_eq_false (by omega)
      have h2 : decide (j < j + 1) = true := decide_eq_true (by omega)
      rw [h1, h2, Bool.false_and, Bool.false_or, Bool.true_and]
      cases h : P j
      · rw [if_neg (by decide), Nat.zero_testBit]
      · rw [if_pos rfl, Nat.testBit_two_pow]; simp
    · have h1 : decide (j < n + 1) = decide (j < n) := by
        by_cases q : j < n
        · rw [decide_eq_true q, decide_eq_true (by omega)]
        · rw [decide_eq_false q, decide_eq_false (by omega)]
      rw [h1]
      have h2 : (if P n = true then 2 ^ n else 0).testBit j = false := by
        split
        · rw [Nat.testBit_two_pow]
          exact decide_eq_false (fun q => e q.symm)
        · exact Nat.zero_testBit j
      rw [h2, Bool.or_false]
theorem mskF_lt {P : Nat → Bool} : ∀ n, mskF P n < 2 ^ n := by
  intro n
  induction n with
  | zero => show 0 < 1; omega
  | succ n ih =>
    refine Nat.or_lt_two_pow (Nat.lt_trans ih (Nat.pow_lt_pow_right (by omega) (by omega))) ?_
    split
    · exact Nat.pow_lt_pow_right (by omega) (by omega)
    · exact Nat.two_pow_pos _
def lfC (F c : Nat) : Nat := mskF (fun f => F.testBit f && dg c f == 0) 8
def soC (c : Nat) : Nat := mskF (fun f => dg c f == 1) 8
def wth (F c : Nat) : Bool := allB (fun f => dg c f == 0 || F.testBit f) 8
def dcn (F c : Nat) : Nat → Nat
  | 0 => 0
  | i + 1 => dcn F c i + (if F.testBit i = true ∧ ¬ dg c i = 0 then 1 else 0)
theorem lfC_lt {F c : Nat} : lfC F c < 256 := mskF_lt 8
theorem soC_lt {c : Nat} : soC c < 256 := mskF_lt 8
theorem bcn8 {x : Nat} (h : x < 256) : bcn x 8 = pcn x := bcn_top (n := 8) h (by omega)
theorem dcn_eq {F c : Nat} (hF : F < 256) : dcn F c 8 + pcn (lfC F c) = pcn F := by
  rw [← bcn8 hF, ← bcn8 lfC_lt]
  have L : ∀ i, i ≤ 8 → dcn F c i + bcn (lfC F c) i = bcn F i := by
    intro i
    induction i with
    | zero => intro _; rfl
    | succ i ih =>
      intro hi
      have := ih (by omega)
      rw [bcn_s, bcn_s]
      show dcn F c i + (if _ then _ else _) + _ = _
      unfold lfC at *
      rw [mskF_bit, decide_eq_true (show i < 8 by omega), Bool.true_and]
      cases hf : F.testBit i
      · rw [if_neg (fun q => absurd q.1 (by decide))]
        simp only [Bool.false_and]
        omega
      · by_cases hd : dg c i = 0
        · rw [if_neg (fun q => q.2 hd), hd]
          simp
          omega
        · rw [if_pos ⟨rfl, hd⟩]
          have : (dg c i == 0) = false := by simpa using hd
          rw [this]
          simp
          omega
  exact L 8 (Nat.le_refl _)
def mkC (F : Nat) (m : Bool) (c : Nat) : Bool := if dcn F c 8 % 2 = 0 then m else !m
def mkL (F : Nat) (m : Bool) (L : Nat) : Bool := if (pcn F - pcn L) % 2 = 0 then m else !m
theorem mkC_L {F c : Nat} {m : Bool} (hF : F < 256) : mkC F m c = mkL F m (lfC F c) := by
  unfold mkC mkL
  have := dcn_eq (c := c) hF
  rw [show dcn F c 8 = pcn F - pcn (lfC F c) by omega]
theorem pcn_sub {x y : Nat} (h : sub x y) : pcn x ≤ pcn y := bcn_sub h 12
theorem mkL_rm {F L i : Nat} {m : Bool} (hL : L < 256) (hs : sub L F) (hi : i < 8) (hb : L.testBit i = true) : mkL F m (dif L (2 ^ i)) = !mkL F m L := by
  unfold mkL
  have h1 := pcn_rm L hL i hi hb
  have h2 := pcn_sub hs
  rw [show pcn F - pcn (dif L (2 ^ i)) = (pcn F - pcn L) + 1 by omega]
  by_cases q : (pcn F - pcn L) % 2 = 0
  · rw [if_neg (by omega), if_pos q]
  · rw [if_pos (by omega), if_neg q, Bool.not_not]
def gC (w : Nat → Bool) (F : Nat) (m : Bool) (c : Nat) : Bool := gV w (pcn (lfC F c)) (mkC F m c) (lfC F c) (soC c)
theorem dg_lt {c f : Nat} : dg c f < 3 := Nat.mod_lt _ (by omega)

theorem dg_0 {c x j : Nat} (hx : x < 3) (h0 : c / 1 % 3 = 0) (hj : j < 8) : dg (c + x * 1) j = if j = 0 then x else dg c j := by
  rcases (show j = 0 ∨ j = 1 ∨ j = 2 ∨ j = 3 ∨ j = 4 ∨ j = 5 ∨ j = 6 ∨ j = 7 by omega) with rfl | rfl | rfl | rfl | rfl | rfl | rfl | rfl
  · show (c + x * 1) / 1 % 3 = if 0 = 0 then x else c / 1 % 3
    rw [if_pos (by omega)]
    omega
  · show (c + x * 1) / 3 % 3 = if 1 = 0 then x else c / 3 % 3
    rw [if_neg (by omega)]
    omega
  · show (c + x * 1) / 9 % 3 = if 2 = 0 then x else c / 9 % 3
    rw [if_neg (by omega)]
    omega
  · show (c + x * 1) / 27 % 3 = if 3 = 0 then x else c / 27 % 3
    rw [if_neg (by omega)]
    omega
  · show (c + x * 1) / 81 % 3 = if 4 = 0 then x else c / 81 % 3
    rw [if_neg (by omega)]
    omega
  · show (c + x * 1) / 243 % 3 = if 5 = 0 then x else c / 243 % 3
    rw [if_neg (by omega)]
    omega
  · show (c + x * 1) / 729 % 3 = if 6 = 0 then x else c / 729 % 3
    rw [if_neg (by omega)]
    omega
  · show (c + x * 1) / 2187 % 3 = if 7 = 0 then x else c / 2187 % 3
    rw [if_neg (by omega)]
    omega

theorem dg_1 {c x j : Nat} (hx : x < 3) (h0 : c / 3 % 3 = 0) (hj : j < 8) : dg (c + x * 3) j = if j = 1 then x else dg c j := by
  rcases (show j = 0 ∨ j = 1 ∨ j = 2 ∨ j = 3 ∨ j = 4 ∨ j = 5 ∨ j = 6 ∨ j = 7 by omega) with rfl | rfl | rfl | rfl | rfl | rfl | rfl | rfl
  · show (c + x * 3) / 1 % 3 = if 0 = 1 then x else c / 1 % 3
    rw [if_neg (by omega)]
    omega
  · show (c + x * 3) / 3 % 3 = if 1 = 1 then x else c / 3 % 3
    rw [if_pos (by omega)]
    omega
  · show (c + x * 3) / 9 % 3 = if 2 = 1 then x else c / 9 % 3
    rw [if_neg (by omega)]
    omega
  · show (c + x * 3) / 27 % 3 = if 3 = 1 then x else c / 27 % 3
    rw [if_neg (by omega)]
    omega
  · show (c + x * 3) / 81 % 3 = if 4 = 1 then x else c / 81 % 3
    rw [if_neg (by omega)]
    omega
  · show (c + x * 3) / 243 % 3 = if 5 = 1 then x else c / 243 % 3
    rw [if_neg (by omega)]
    omega
  · show (c + x * 3) / 729 % 3 = if 6 = 1 then x else c / 729 % 3
    rw [if_neg (by omega)]
    omega
  · show (c + x * 3) / 2187 % 3 = if 7 = 1 then x else c / 2187 % 3
    rw [if_neg (by omega)]
    omega

theorem dg_2 {c x j : Nat} (hx : x < 3) (h0 : c / 9 % 3 = 0) (hj : j < 8) : dg (c + x * 9) j = if j = 2 then x else dg c j := by
  rcases (show j = 0 ∨ j = 1 ∨ j = 2 ∨ j = 3 ∨ j = 4 ∨ j = 5 ∨ j = 6 ∨ j = 7 by omega) with rfl | rfl | rfl | rfl | rfl | rfl | rfl | rfl
  · show (c + x * 9) / 1 % 3 = if 0 = 2 then x else c / 1 % 3
    rw [if_neg (by omega)]
    omega
  · show (c + x * 9) / 3 % 3 = if 1 = 2 then x else c / 3 % 3
    rw [if_neg (by omega)]
    omega
  · show (c + x * 9) / 9 % 3 = if 2 = 2 then x else c / 9 % 3
    rw [if_pos (by omega)]
    omega
  · show (c + x * 9) / 27 % 3 = if 3 = 2 then x else c / 27 % 3
    rw [if_neg (by omega)]
    omega
  · show (c + x * 9) / 81 % 3 = if 4 = 2 then x else c / 81 % 3
    rw [if_neg (by omega)]
    omega
  · show (c + x * 9) / 243 % 3 = if 5 = 2 then x else c / 243 % 3
    rw [if_neg (by omega)]
    omega
  · show (c + x * 9) / 729 % 3 = if 6 = 2 then x else c / 729 % 3
    rw [if_neg (by omega)]
    omega
  · show (c + x * 9) / 2187 % 3 = if 7 = 2 then x else c / 2187 % 3
    rw [if_neg (by omega)]
    omega

theorem dg_3 {c x j : Nat} (hx : x < 3) (h0 : c / 27 % 3 = 0) (hj : j < 8) : dg (c + x * 27) j = if j = 3 then x else dg c j := by
  rcases (show j = 0 ∨ j = 1 ∨ j = 2 ∨ j = 3 ∨ j = 4 ∨ j = 5 ∨ j = 6 ∨ j = 7 by omega) with rfl | rfl | rfl | rfl | rfl | rfl | rfl | rfl
  · show (c + x * 27) / 1 % 3 = if 0 = 3 then x else c / 1 % 3
    rw [if_neg (by omega)]
    omega
  · show (c + x * 27) / 3 % 3 = if 1 = 3 then x else c / 3 % 3
    rw [if_neg (by omega)]
    omega
  · show (c + x * 27) / 9 % 3 = if 2 = 3 then x else c / 9 % 3
    rw [if_neg (by omega)]
    omega
  · show (c + x * 27) / 27 % 3 = if 3 = 3 then x else c / 27 % 3
    rw [if_pos (by omega)]
    omega
  · show (c + x * 27) / 81 % 3 = if 4 = 3 then x else c / 81 % 3
    rw [if_neg (by omega)]
    omega
  · show (c + x * 27) / 243 % 3 = if 5 = 3 then x else c / 243 % 3
    rw [if_neg (by omega)]
    omega
  · show (c + x * 27) / 729 % 3 = if 6 = 3 then x else c / 729 % 3
    rw [if_neg (by omega)]
    omega
  · show (c + x * 27) / 2187 % 3 = if 7 = 3 then x else c / 2187 % 3
    rw [if_neg (by omega)]
    omega

theorem dg_4 {c x j : Nat} (hx : x < 3) (h0 : c / 81 % 3 = 0) (hj : j < 8) : dg (c + x * 81) j = if j = 4 then x else dg c j := by
  rcases (show j = 0 ∨ j = 1 ∨ j = 2 ∨ j = 3 ∨ j = 4 ∨ j = 5 ∨ j = 6 ∨ j = 7 by omega) with rfl | rfl | rfl | rfl | rfl | rfl | rfl | rfl
  · show (c + x * 81) / 1 % 3 = if 0 = 4 then x else c / 1 % 3
    rw [if_neg (by omega)]
    omega
  · show (c + x * 81) / 3 % 3 = if 1 = 4 then x else c / 3 % 3
    rw [if_neg (by omega)]
    omega
  · show (c + x * 81) / 9 % 3 = if 2 = 4 then x else c / 9 % 3
    rw [if_neg (by omega)]
    omega
  · show (c + x * 81) / 27 % 3 = if 3 = 4 then x else c / 27 % 3
    rw [if_neg (by omega)]
    omega
  · show (c + x * 81) / 81 % 3 = if 4 = 4 then x else c / 81 % 3
    rw [if_pos (by omega)]
    omega
  · show (c + x * 81) / 243 % 3 = if 5 = 4 then x else c / 243 % 3
    rw [if_neg (by omega)]
    omega
  · show (c + x * 81) / 729 % 3 = if 6 = 4 then x else c / 729 % 3
    rw [if_neg (by omega)]
    omega
  · show (c + x * 81) / 2187 % 3 = if 7 = 4 then x else c / 2187 % 3
    rw [if_neg (by omega)]
    omega

theorem dg_5 {c x j : Nat} (hx : x < 3) (h0 : c / 243 % 3 = 0) (hj : j < 8) : dg (c + x * 243) j = if j = 5 then x else dg c j := by
  rcases (show j = 0 ∨ j = 1 ∨ j = 2 ∨ j = 3 ∨ j = 4 ∨ j = 5 ∨ j = 6 ∨ j = 7 by omega) with rfl | rfl | rfl | rfl | rfl | rfl | rfl | rfl
  · show (c + x * 243) / 1 % 3 = if 0 = 5 then x else c / 1 % 3
    rw [if_neg (by omega)]
    omega
  · show (c + x * 243) / 3 % 3 = if 1 = 5 then x else c / 3 % 3
    rw [if_neg (by omega)]
    omega
  · show (c + x * 243) / 9 % 3 = if 2 = 5 then x else c / 9 % 3
    rw [if_neg (by omega)]
    omega
  · show (c + x * 243) / 27 % 3 = if 3 = 5 then x else c / 27 % 3
    rw [if_neg (by omega)]
    omega
  · show (c + x * 243) / 81 % 3 = if 4 = 5 then x else c / 81 % 3
    rw [if_neg (by omega)]
    omega
  · show (c + x * 243) / 243 % 3 = if 5 = 5 then x else c / 243 % 3
    rw [if_pos (by omega)]
    omega
  · show (c + x * 243) / 729 % 3 = if 6 = 5 then x else c / 729 % 3
    rw [if_neg (by omega)]
    omega
  · show (c + x * 243) / 2187 % 3 = if 7 = 5 then x else c / 2187 % 3
    rw [if_neg (by omega)]
    omega

theorem dg_6 {c x j : Nat} (hx : x < 3) (h0 : c / 729 % 3 = 0) (hj : j < 8) : dg (c + x * 729) j = if j = 6 then x else dg c j := by
  rcases (show j = 0 ∨ j = 1 ∨ j = 2 ∨ j = 3 ∨ j = 4 ∨ j = 5 ∨ j = 6 ∨ j = 7 by omega) with rfl | rfl | rfl | rfl | rfl | rfl | rfl | rfl
  · show (c + x * 729) / 1 % 3 = if 0 = 6 then x else c / 1 % 3
    rw [if_neg (by omega)]
    omega
  · show (c + x * 729) / 3 % 3 = if 1 = 6 then x else c / 3 % 3
    rw [if_neg (by omega)]
    omega
  · show (c + x * 729) / 9 % 3 = if 2 = 6 then x else c / 9 % 3
    rw [if_neg (by omega)]
    omega
  · show (c + x * 729) / 27 % 3 = if 3 = 6 then x else c / 27 % 3
    rw [if_neg (by omega)]
    omega
  · show (c + x * 729) / 81 % 3 = if 4 = 6 then x else c / 81 % 3
    rw [if_neg (by omega)]
    omega
  · show (c + x * 729) / 243 % 3 = if 5 = 6 then x else c / 243 % 3
    rw [if_neg (by omega)]
    omega
  · show (c + x * 729) / 729 % 3 = if 6 = 6 then x else c / 729 % 3
    rw [if_pos (by omega)]
    omega
  · show (c + x * 729) / 2187 % 3 = if 7 = 6 then x else c / 2187 % 3
    rw [if_neg (by omega)]
    omega

theorem dg_7 {c x j : Nat} (hx : x < 3) (h0 : c / 2187 % 3 = 0) (hj : j < 8) : dg (c + x * 2187) j = if j = 7 then x else dg c j := by
  rcases (show j = 0 ∨ j = 1 ∨ j = 2 ∨ j = 3 ∨ j = 4 ∨ j = 5 ∨ j = 6 ∨ j = 7 by omega) with rfl | rfl | rfl | rfl | rfl | rfl | rfl | rfl
  · show (c + x * 2187) / 1 % 3 = if 0 = 7 then x else c / 1 % 3
    rw [if_neg (by omega)]
    omega
  · show (c + x * 2187) / 3 % 3 = if 1 = 7 then x else c / 3 % 3
    rw [if_neg (by omega)]
    omega
  · show (c + x * 2187) / 9 % 3 = if 2 = 7 then x else c / 9 % 3
    rw [if_neg (by omega)]
    omega
  · show (c + x * 2187) / 27 % 3 = if 3 = 7 then x else c / 27 % 3
    rw [if_neg (by omega)]
    omega
  · show (c + x * 2187) / 81 % 3 = if 4 = 7 then x else c / 81 % 3
    rw [if_neg (by omega)]
    omega
  · show (c + x * 2187) / 243 % 3 = if 5 = 7 then x else c / 243 % 3
    rw [if_neg (by omega)]
    omega
  · show (c + x * 2187) / 729 % 3 = if 6 = 7 then x else c / 729 % 3
    rw [if_neg (by omega)]
    omega
  · show (c + x * 2187) / 2187 % 3 = if 7 = 7 then x else c / 2187 % 3
    rw [if_pos (by omega)]
    omega

theorem dg_put {c x f j : Nat} (hf : f < 8) (hj : j < 8) (hx : x < 3) (h0 : dg c f = 0) : dg (c + x * 3 ^ f) j = if j = f then x else dg c j := by
  rcases (show f = 0 ∨ f = 1 ∨ f = 2 ∨ f = 3 ∨ f = 4 ∨ f = 5 ∨ f = 6 ∨ f = 7 by omega) with rfl | rfl | rfl | rfl | rfl | rfl | rfl | rfl
  · exact dg_0 hx h0 hj
  · exact dg_1 hx h0 hj
  · exact dg_2 hx h0 hj
  · exact dg_3 hx h0 hj
  · exact dg_4 hx h0 hj
  · exact dg_5 hx h0 hj
  · exact dg_6 hx h0 hj
  · exact dg_7 hx h0 hj
theorem dg_lim {c x f : Nat} (hf : f < 8) (hc : c < 6561) (hx : x < 3) (h0 : dg c f = 0) : c + x * 3 ^ f < 6561 := by
  rcases (show f = 0 ∨ f = 1 ∨ f = 2 ∨ f = 3 ∨ f = 4 ∨ f = 5 ∨ f = 6 ∨ f = 7 by omega) with rfl | rfl | rfl | rfl | rfl | rfl | rfl | rfl
  · have h0 : c / 1 % 3 = 0 := h0
    show c + x * 1 < 6561
    omega
  · have h0 : c / 3 % 3 = 0 := h0
    show c + x * 3 < 6561
    omega
  · have h0 : c / 9 % 3 = 0 := h0
    show c + x * 9 < 6561
    omega
  · have h0 : c / 27 % 3 = 0 := h0
    show c + x * 27 < 6561
    omega
  · have h0 : c / 81 % 3 = 0 := h0
    show c + x * 81 < 6561
    omega
  · have h0 : c / 243 % 3 = 0 := h0
    show c + x * 243 < 6561
    omega
  · have h0 : c / 729 % 3 = 0 := h0
    show c + x * 729 < 6561
    omega
  · have h0 : c / 2187 % 3 = 0 := h0
    show c + x * 2187 < 6561
    omega
theorem lfC_put {F c x i : Nat} (hi : i < 8) (hx : x = 1 ∨ x = 2) (h0 : dg c i = 0) : lfC F (c + x * 3 ^ i) = dif (lfC F c) (2 ^ i) := by
  apply Nat.eq_of_testBit_eq
  intro j
  rw [dif_hi (Nat.lt_trans lfC_lt (by omega)), Nat.testBit_two_pow]
  unfold lfC
  rw [mskF_bit, mskF_bit]
  by_cases hj : j < 8
  · rw [decide_eq_true hj, Bool.true_and, Bool.true_and, dg_put hi hj (by omega) h0]
    by_cases e : j = i
    · subst e
      rw [if_pos rfl]
      have : (x == 0) = false := by rcases hx with rfl | rfl <;> rfl
      rw [this]
      simp
    · rw [if_neg e]
      have : decide (i = j) = false := decide_eq_false (fun q => e q.symm)
      rw [this]
      simp
  · rw [decide_eq_false hj]
    rfl
theorem soC_put {c x i : Nat} (hi : i < 8) (hx : x = 1 ∨ x = 2) (h0 : dg c i = 0) : soC (c + x * 3 ^ i) = if x = 1 then soC c ||| 2 ^ i else soC c := by
  apply Nat.eq_of_testBit_eq
  intro j
  have hb : (soC (c + x * 3 ^ i)).testBit j = (decide (j < 8) && (if j = i then x else dg c j) == 1) := by
    unfold soC
    rw [mskF_bit]
    by_cases hj : j < 8
    · rw [dg_put hi hj (by omega) h0]
    · rw [decide_eq_false hj]; rfl
  have hs : (soC c).testBit j = (decide (j < 8) && dg c j == 1) := by
    unfold soC
    rw [mskF_bit]
  rw [hb]
  rcases hx with rfl | rfl
  · rw [if_pos rfl, Nat.testBit_or, hs, Nat.testBit_two_pow]
    by_cases e : j = i
    · subst e
      rw [if_pos rfl, decide_eq_true hi]
      simp
    · rw [if_neg e, show decide (i = j) = false from decide_eq_false (fun q => e q.symm), Bool.or_false]
  · rw [show (if (2 : Nat) = 1 then soC c ||| 2 ^ i else soC c) = soC c from if_neg (by decide), hs]
    by_cases e : j = i
    · subst e
      rw [if_pos rfl, h0]
      rfl
    · rw [if_neg e]
theorem lfC_bit {F c i : Nat} (hi : i < 8) : (lfC F c).testBit i = (F.testBit i && dg c i == 0) := by
  unfold lfC
  rw [mskF_bit, decide_eq_true hi, Bool.true_and]
theorem lfC_sub {F c : Nat} : sub (lfC F c) F := fun i h => by
  unfold lfC at h
  rw [mskF_bit, Bool.and_eq_true, Bool.and_eq_true] at h
  exact h.2.1
theorem gC_child {w : Nat → Bool} {F c i : Nat} {m : Bool} (hF : F < 256) (hi : i < 8) (hb : F.testBit i = true) (h0 : dg c i = 0) : gC w F m (c + (if mkC F m c = true then 1 else 2) * 3 ^ i) = gV w (pcn (lfC F c) - 1) (!mkC F m c) (dif (lfC F c) (2 ^ i)) (mvS (mkC F m c) (soC c) i) := by
  have hl : (lfC F c).testBit i = true := by rw [lfC_bit hi, hb, h0]; rfl
  have hx : (if mkC F m c = true then 1 else 2) = 1 ∨ (if mkC F m c = true then 1 else 2) = 2 := by split <;> simp
  have e1 := lfC_put (F := F) hi hx h0
  have e2 := soC_put hi hx h0
  have p := pcn_rm _ (lfC_lt (F := F) (c := c)) i hi hl
  have e3 : mkC F m (c + (if mkC F m c = true then 1 else 2) * 3 ^ i) = !mkC F m c := by
    rw [mkC_L hF (c := c + (if mkC F m c = true then 1 else 2) * 3 ^ i), e1, mkL_rm lfC_lt lfC_sub hi hl, ← mkC_L hF]
  unfold gC
  rw [e3, e1, e2, show pcn (dif (lfC F c) (2 ^ i)) = pcn (lfC F c) - 1 by omega]
  unfold mvS
  cases mkC F m c
  · rfl
  · rfl
theorem gC_step {w : Nat → Bool} {F c : Nat} {m : Bool} (hF : F < 256) (hL : lfC F c ≠ 0) : gC w F m c = mkC F m c ↔ ∃ i, i < 8 ∧ F.testBit i = true ∧ dg c i = 0 ∧ gC w F m (c + (if mkC F m c = true then 1 else 2) * 3 ^ i) = mkC F m c := by
  have hp : pcn (lfC F c) ≠ 0 := fun q => hL ((pcn_z _ lfC_lt).mp q)
  obtain ⟨n, hn⟩ : ∃ n, pcn (lfC F c) = n + 1 := ⟨pcn (lfC F c) - 1, by omega⟩
  have key : gC w F m c = gV w (n + 1) (mkC F m c) (lfC F c) (soC c) := by unfold gC; rw [hn]
  rw [key, gV_step]
  constructor
  · rintro ⟨i, hi, hb, e⟩
    rw [lfC_bit hi, Bool.and_eq_true, beq_iff_eq] at hb
    exact ⟨i, hi, hb.1, hb.2, by rw [gC_child hF hi hb.1 hb.2, hn]; exact e⟩
  · rintro ⟨i, hi, hb, h0, e⟩
    rw [gC_child hF hi hb h0, hn] at e
    exact ⟨i, hi, by rw [lfC_bit hi, hb, h0]; rfl, e⟩
theorem gC_end {w : Nat → Bool} {F c : Nat} {m : Bool} (hL : lfC F c = 0) : gC w F m c = w (soC c) := by
  unfold gC
  rw [hL]
  rfl
theorem wth_put {F c x i : Nat} (hi : i < 8) (hx : x < 3) (h0 : dg c i = 0) (hb : F.testBit i = true) (hw : wth F c = true) : wth F (c + x * 3 ^ i) = true := by
  unfold wth at *
  rw [allB_iff] at *
  intro j hj
  show (dg (c + x * 3 ^ i) j == 0 || F.testBit j) = true
  rw [dg_put hi hj hx h0]
  by_cases e : j = i
  · subst e
    rw [hb, Bool.or_true]
  · rw [if_neg e]
    exact hw j hj
/-- the words' facts; what the duel answers -/
def dF (a : Fl) : Nat → Nat
  | 0 => 0
  | k + 1 => dF a k ||| a (126 + 4 * k + 1)
theorem dF_lt {a : Fl} (ho : IOf a) (h0 : a 0 ≤ 8) : ∀ k, k ≤ a 5 → dF a k < 256 := by
  have p8 : 2 ^ a 0 ≤ 2 ^ 8 := Nat.pow_le_pow_right (by omega) h0
  intro k
  induction k with
  | zero => intro _; show 0 < 256; omega
  | succ k ih =>
    intro hk
    exact Nat.or_lt_two_pow (n := 8) (ih (by omega)) (by have := (ho k (by omega)).2.2.1; omega)
def duF (a : Fl) (m : Bool) : Nat → Nat → Int32
  | 0, _ => -1
  | r + 1, i => if (dF a (a 5)).testBit i = true ∧ gV (win a) (pcn (dF a (a 5)) - 1) (!m) (dif (dF a (a 5)) (2 ^ i)) (mvS m 0 i) = m then nI i else duF a m r (i + 1)
def mDuel (a : Fl) (m : Bool) (f : Nat) : Int32 := if a 5 = 0 then -2 else if f = 0 then bI (gV (win a) (pcn (dF a (a 5))) m (dF a (a 5)) 0 = true) else duF a m 8 0

