/-! laws: what their codes come to (wip/whole/gen52.py) -/
def iL (x : Int) : Int64 := Int64.ofInt x
def iI (x : Int) : Int32 := Int32.ofInt x
abbrev b62 (x : Int) : Prop := -4611686018427387904 ≤ x ∧ x ≤ 4611686018427387904
abbrev b30 (x : Int) : Prop := -1073741824 ≤ x ∧ x ≤ 1073741824
abbrev b6 (x : Int) : Prop := -1000000 ≤ x ∧ x ≤ 1000000
theorem iL_toInt {x : Int} (h : b62 x) : (iL x).toInt = x := Int64.toInt_ofInt_of_le (by have := h.1; omega) (by have := h.2; omega)
theorem iI_toInt {x : Int} (h : b30 x) : (iI x).toInt = x := Int32.toInt_ofInt_of_le (by have := h.1; omega) (by have := h.2; omega)
theorem iL_lt {x y : Int} (hx : b62 x) (hy : b62 y) : iL x < iL y ↔ x < y := by rw [Int64.lt_iff_toInt_lt, iL_toInt hx, iL_toInt hy]
theorem iL_le {x y : Int} (hx : b62 x) (hy : b62 y) : iL x ≤ iL y ↔ x ≤ y := by rw [Int64.le_iff_toInt_le, iL_toInt hx, iL_toInt hy]
theorem iL_eq {x y : Int} (hx : b62 x) (hy : b62 y) : iL x = iL y ↔ x = y := by rw [← Int64.toInt_inj, iL_toInt hx, iL_toInt hy]
theorem iI_eq {x y : Int} (hx : b30 x) (hy : b30 y) : iI x = iI y ↔ x = y := by rw [← Int32.toInt_inj, iI_toInt hx, iI_toInt hy]
theorem iL_add (x y : Int) : iL x + iL y = iL (x + y) := (Int64.ofInt_add x y).symm
theorem iL_sub (x y : Int) : iL x - iL y = iL (x - y) := (Int64.ofInt_sub x y).symm
theorem iL_mul (x y : Int) : iL x * iL y = iL (x * y) := (Int64.ofInt_mul x y).symm
theorem iL_neg (x : Int) : - iL x = iL (- x) := (Int64.ofInt_neg x).symm
theorem tdiv_b {x y : Int} (hx : b62 x) : b62 (x.tdiv y) := by
  have h := Int.natAbs_tdiv_le_natAbs x y
  constructor <;> have := hx.1 <;> have := hx.2 <;> omega
theorem iL_div {x y : Int} (hx : b62 x) (hy : b62 y) : iL x / iL y = iL (x.tdiv y) := by
  refine Int64.toInt_inj.mp ?_
  rw [Int64.toInt_div, iL_toInt hx, iL_toInt hy, iL_toInt (tdiv_b hx)]
  have := (tdiv_b (y := y) hx)
  exact Int.bmod_eq_of_le (by have := this.1; omega) (by have := this.2; omega)
theorem iI_l {x : Int} (h : b30 x) : (iI x).toInt64 = iL x := Int64.toInt_inj.mp (by rw [Int32.toInt_toInt64, iI_toInt h, iL_toInt (by have := h.1; have := h.2; constructor <;> omega)])
theorem iL_i (x : Int) : (iL x).toInt32 = iI x := by
  unfold iL iI
  exact Int64.toInt32_ofInt
theorem nI_i (n : Nat) : nI n = iI n := by
  unfold nI iI
  exact (Int32.ofInt_eq_ofNat).symm
theorem iL_n (n : Nat) : iL n = lN n := by
  unfold iL lN
  exact Int64.ofInt_eq_ofNat
/-- cut at a million -/
def clp (x : Int) : Int := if 1000000 < x then 1000000 else if x < -1000000 then -1000000 else x
theorem clp_b (x : Int) : b6 (clp x) := by
  unfold clp b6
  split
  · omega
  · split <;> omega
theorem clp_id {x : Int} (h : b6 x) : clp x = x := by
  unfold clp
  rw [if_neg (by have := h.2; omega), if_neg (by have := h.1; omega)]
def tb (p : Prop) [Decidable p] : Int := if p then 1 else 0
theorem tb_t {p : Prop} [Decidable p] (h : p) : tb p = 1 := if_pos h
theorem tb_f {p : Prop} [Decidable p] (h : ¬ p) : tb p = 0 := if_neg h
theorem tb_b {p : Prop} [Decidable p] : b6 (tb p) := by
  unfold tb b6
  split <;> omega
theorem tb_01 {p : Prop} [Decidable p] : tb p = 0 ∨ tb p = 1 := by
  unfold tb
  split
  · exact Or.inr rfl
  · exact Or.inl rfl
/-- what an operation of the reference comes to, not cut -/
def rawV (so o : Nat) (a b c : Int) : Int :=
  if o = 2 then (if 0 ≤ a ∧ a < 8 then tb (so.testBit a.toNat = true) else 0)
  else if o = 3 then (if a = 0 then c else b)
  else if o = 4 then (if b = 0 then 0 else (100 * a).tdiv b)
  else if o = 5 then - a
  else if o = 6 then a + b
  else if o = 7 then a - b
  else if o = 8 then a * b
  else if o = 9 then (if b = 0 then 0 else a.tdiv b)
  else if o = 10 then tb (a < b)
  else if o = 11 then tb (a ≤ b)
  else if o = 12 then tb (b < a)
  else if o = 13 then tb (b ≤ a)
  else if o = 14 then tb (a = b)
  else if o = 15 then tb (¬ a = b)
  else if o = 20 then tb (a = 0)
  else if o = 21 then tb (¬ a = 0 ∧ ¬ b = 0)
  else tb (¬ a = 0 ∨ ¬ b = 0)
def tkO (o : Nat) : Nat := if o ≤ 1 then 0 else if o = 2 ∨ o = 5 ∨ o = 20 then 1 else if o = 3 then 3 else 2
/-- the class's words: of a name, of an operation -/
def nmT (v : Nat) : Nat := if v = 0 then 10 else if v = 1 then 30 else if v = 2 then 4 else if v = 3 then 31 else if v = 4 then 11 else if v = 5 then 32 else if v = 6 then 12 else if v = 7 then 33 else if v = 8 then 16 else if v = 9 then 34 else 35
def opT (o : Nat) : Nat := if o = 2 then 22 else if o = 3 then 23 else if o = 4 then 20 else if o = 5 then 55 else if o = 6 then 44 else if o = 7 then 45 else if o = 8 then 46 else if o = 9 then 47 else if o = 10 then 40 else if o = 11 then 38 else if o = 12 then 41 else if o = 13 then 39 else if o = 14 then 42 else if o = 15 then 43 else if o = 20 then 29 else if o = 21 then 28 else 27
def cnv (o v : Nat) : Int32 := if o = 0 then nI v else if o = 1 then - nI (nmT v) else - nI (opT o)
/-- an instruction of a law: c whether it is the law of how facts come -/
def okI (c : Prop) (o v : Nat) : Prop := (o = 0 ∧ v ≤ 9999) ∨ (o = 1 ∧ v ≤ 10 ∧ (v < 2 ∨ (v < 5 ↔ c))) ∨ (2 ≤ o ∧ o ≤ 15) ∨ (20 ≤ o ∧ o ≤ 22)
abbrev Vm : Type := (Nat → Int) × Nat
def stpV (env : Nat → Int) (so o v : Nat) (m : Vm) : Vm :=
  ⟨fun j => if j = m.2 - tkO o then (if o = 0 then (v : Int) else if o = 1 then env v else clp (rawV so o (m.1 (m.2 - tkO o)) (m.1 (m.2 - tkO o + 1)) (m.1 (m.2 - tkO o + 2)))) else m.1 j, m.2 - tkO o + 1⟩
def runV (env : Nat → Int) (so : Nat) (O V : Nat → Nat) : Nat → Vm
  | 0 => ⟨fun _ => 0, 0⟩
  | i + 1 => stpV env so (O i) (V i) (runV env so O V i)
def evV (env : Nat → Int) (so : Nat) (O V : Nat → Nat) (m : Nat) : Int := (runV env so O V m).1 0
theorem runV_n (env : Nat → Int) (so : Nat) (O V : Nat → Nat) (i : Nat) : (runV env so O V i).2 ≤ i := by
  induction i with
  | zero => exact Nat.le_refl _
  | succ i ih =>
    show (runV env so O V i).2 - tkO (O i) + 1 ≤ i + 1
    omega
theorem runV_b {env : Nat → Int} {so : Nat} {O V : Nat → Nat} {m : Nat} (he : ∀ v, b6 (env v)) (hv : ∀ i, i < m → O i = 0 → V i ≤ 9999) : ∀ i, i ≤ m → ∀ j, b6 ((runV env so O V i).1 j) := by
  intro i
  induction i with
  | zero => intro _ j; show b6 0; unfold b6; omega
  | succ i ih =>
    intro hi j
    have ih := ih (by omega) j
    show b6 (if j = _ then _ else _)
    split
    · split
      · rename_i h0
        have := hv i (by omega) h0
        unfold b6
        omega
      · split
        · exact he _
        · exact clp_b _
    · exact ih

