/-! whole numbers and their bits, as naturals -/
theorem nI_bv (a : Nat) : (nI a).toBitVec = BitVec.ofNat 32 a := rfl
theorem nI_of_bv {x : Int32} {a : Nat} (h : x.toBitVec = BitVec.ofNat 32 a) : x = nI a := Int32.toBitVec_inj.mp h
theorem nI_and (a b : Nat) : nI a &&& nI b = nI (a &&& b) := by
  apply nI_of_bv
  rw [Int32.toBitVec_and, nI_bv, nI_bv]
  apply BitVec.eq_of_toNat_eq
  simp [Nat.and_mod_two_pow]
theorem nI_or (a b : Nat) : nI a ||| nI b = nI (a ||| b) := by
  apply nI_of_bv
  rw [Int32.toBitVec_or, nI_bv, nI_bv]
  apply BitVec.eq_of_toNat_eq
  simp [Nat.or_mod_two_pow]
theorem nI_xor (a b : Nat) : nI a ^^^ nI b = nI (a ^^^ b) := by
  apply nI_of_bv
  rw [Int32.toBitVec_xor, nI_bv, nI_bv]
  apply BitVec.eq_of_toNat_eq
  simp [Nat.xor_mod_two_pow]
theorem sh31 : ∀ k, k < 32 → ((nI k &&& 31).toBitVec.smod 32).toNat = k := by decide +kernel
theorem nI_shl {a k : Nat} (hk : k < 32) (h : a * 2 ^ k < 2 ^ 32) : nI a <<< (nI k &&& 31) = nI (a * 2 ^ k) := pk_shlN _ k (sh31 k hk) h
theorem nI_shr {a k : Nat} (hk : k < 32) (ha : a < 2 ^ 31) : nI a >>> (nI k &&& 31) = nI (a / 2 ^ k) := pk_shrN ha _ k (sh31 k hk)
theorem nI_bit {k : Nat} (hk : k < 31) : (1 : Int32) <<< (nI k &&& 31) = nI (2 ^ k) := by
  have h2 : 1 * 2 ^ k < 2 ^ 32 := by
    rw [Nat.one_mul]
    exact Nat.pow_lt_pow_right (by omega) (by omega)
  rw [show (1 : Int32) = nI 1 from rfl, nI_shl (by omega) h2, Nat.one_mul]
/-- how many of the first 12 bits -/
def pcn (n : Nat) : Nat := ((List.range 12).filter (fun i => n.testBit i)).length
/-- is the bit k there? -/
theorem has_bit {n k : Nat} (hk : k < 31) (hn : n < 2 ^ 31) : (nI n >>> (nI k &&& 31)) &&& 1 = nI ((n / 2 ^ k) % 2) := by
  rw [nI_shr (by omega) hn]
  exact pk_andN (Nat.lt_of_le_of_lt (Nat.div_le_self _ _) (by omega)) 1 (by decide)
theorem testBit_mod {n k : Nat} : (n / 2 ^ k) % 2 = if n.testBit k then 1 else 0 := by
  rw [Nat.testBit_eq_decide_div_mod_eq]
  by_cases h : n / 2 ^ k % 2 = 1
  · simp [h]
  · have : n / 2 ^ k % 2 = 0 := by omega
    simp [this]
theorem has_iff {n k : Nat} (hk : k < 31) (hn : n < 2 ^ 31) : ((nI n >>> (nI k &&& 31)) &&& 1 = 1) ↔ n.testBit k = true := by
  rw [has_bit hk hn, testBit_mod]
  by_cases h : n.testBit k
  · simp [h]; rfl
  · simp [h]; decide
/-- all of f are in g; some are -/
theorem nI_sub_iff {f g : Nat} (hf : f < 256) (hg : g < 256) : (nI f &&& (nI g ^^^ (-1)) = 0) ↔ f &&& g = f := by
  have h : ∀ f, f < 256 → ∀ g, g < 256 → ((nI f &&& (nI g ^^^ (-1)) = 0) ↔ f &&& g = f) := by
    intro f hf g hg
    have e : (-1 : Int32) = nI 4294967295 := by decide
    rw [e, nI_xor, nI_and]
    have hlt : f &&& (g ^^^ 4294967295) < 2 ^ 31 := Nat.lt_of_le_of_lt Nat.and_le_left (by omega)
    rw [show (0 : Int32) = nI 0 from rfl, nI_eq hlt (by omega)]
    constructor
    · intro h0
      apply Nat.eq_of_testBit_eq
      intro i
      have hi := congrArg (fun z => z.testBit i) h0
      simp only [Nat.testBit_and, Nat.testBit_xor, Nat.zero_testBit] at hi
      rw [Nat.testBit_and]
      by_cases h8 : i < 8
      · have : (4294967295 : Nat).testBit i = true := by
          rcases (show i = 0 ∨ i = 1 ∨ i = 2 ∨ i = 3 ∨ i = 4 ∨ i = 5 ∨ i = 6 ∨ i = 7 by omega) with q | q | q | q | q | q | q | q <;> subst q <;> decide
        rw [this] at hi
        cases hfi : f.testBit i <;> cases hgi : g.testBit i <;> simp_all
      · have : f.testBit i = false := Nat.testBit_lt_two_pow (Nat.lt_of_lt_of_le hf (show 2 ^ 8 ≤ 2 ^ i from Nat.pow_le_pow_right (by omega) (by omega)))
        rw [this]; rfl
    · intro h0
      apply Nat.eq_of_testBit_eq
      intro i
      rw [← h0]
      simp only [Nat.testBit_and, Nat.testBit_xor, Nat.zero_testBit]
      by_cases h8 : i < 8
      · have : (4294967295 : Nat).testBit i = true := by
          rcases (show i = 0 ∨ i = 1 ∨ i = 2 ∨ i = 3 ∨ i = 4 ∨ i = 5 ∨ i = 6 ∨ i = 7 by omega) with q | q | q | q | q | q | q | q <;> subst q <;> decide
        rw [this]
        cases f.testBit i <;> cases g.testBit i <;> rfl
      · have : f.testBit i = false := Nat.testBit_lt_two_pow (Nat.lt_of_lt_of_le hf (show 2 ^ 8 ≤ 2 ^ i from Nat.pow_le_pow_right (by omega) (by omega)))
        rw [this]; rfl
  exact h f hf g hg
theorem nI_meet_iff {f g : Nat} (hf : f < 2 ^ 31) : (nI f &&& nI g = 0) ↔ f &&& g = 0 := by
  rw [nI_and, show (0 : Int32) = nI 0 from rfl, nI_eq (Nat.lt_of_le_of_lt Nat.and_le_left hf) (by omega)]
theorem pcn_step0 : ∀ a, a < 64 → ∀ b, b < 64 → (64 * a + b ≠ 0 → pcn ((64 * a + b) &&& (64 * a + b - 1)) + 1 = pcn (64 * a + b) ∧ (64 * a + b) &&& (64 * a + b - 1) < 64 * a + b) := by decide +kernel
theorem pcn_step {n : Nat} (hn : n < 4096) (h0 : n ≠ 0) : pcn (n &&& (n - 1)) + 1 = pcn n ∧ n &&& (n - 1) < n := by
  have h := pcn_step0 (n / 64) (by omega) (n % 64) (by omega)
  rw [Nat.div_add_mod] at h
  exact h h0
theorem pcn_0 : pcn 0 = 0 := by decide
theorem pcn_le (n : Nat) : pcn n ≤ 12 := by
  have := List.length_filter_le (fun i => n.testBit i) (List.range 12)
  rw [List.length_range] at this
  exact this
/-- a number of a row of n -/
abbrev vin (x : Int32) (n : Nat) : Prop := 0 ≤ x ∧ x < nI n
theorem vin_iff {x : Int32} {n : Nat} (hn : n < 2 ^ 31) : vin x n ↔ vp_in x n := vp_in_lt hn
theorem vin_of {x : Int32} {n : Nat} (hn : n < 2 ^ 31) (h : vin x n) : ∃ j : Nat, j < n ∧ x = nI j := vp_in_of ((vin_iff hn).mp h) hn
theorem vin_nI {j n : Nat} (hj : j < 2 ^ 31) (hn : n < 2 ^ 31) : vin (nI j) n ↔ j < n := ⟨fun h => (nI_ltI hj hn).mp h.2, fun h => ⟨nI_pos' hj, (nI_ltI hj hn).mpr h⟩⟩
theorem le_pred {x : Int32} {n : Nat} (hn : n < 2 ^ 31) : (0 ≤ x ∧ x ≤ nI n - 1) ↔ vin x n := (vp_in_le hn).trans (vp_in_lt hn).symm
