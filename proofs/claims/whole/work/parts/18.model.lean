/-! the heap's laws; the model of the reference's numbers -/
theorem sI_sA {h : Hp} {k i : Nat} {f : Nat → Int32} {v : Int32} : sI (sA h k f) k i v = sA h k (fun j => if j = i then v else f j) := by
  unfold sI sA p2
  congr 1
  funext a
  by_cases ha : a = k <;> simp [ha]
theorem sI_row {h : Hp} {k i : Nat} {v : Int32} : sI h k i v = sA h k (fun j => if j = i then v else pI h k j) := by
  unfold sI sA p2 pI
  rfl
theorem sA_sA {h : Hp} {k : Nat} {f g : Nat → Int32} : sA (sA h k f) k g = sA h k g := by
  unfold sA
  congr 1
  funext a
  by_cases ha : a = k <;> simp [ha]
theorem sA_id {h : Hp} {k : Nat} : sA h k (pI h k) = h := by
  obtain ⟨f, r⟩ := h
  unfold sA pI
  congr 1
  funext a
  by_cases ha : a = k
  · simp [ha]
  · simp [ha]
theorem sA_congr {h : Hp} {k : Nat} {f g : Nat → Int32} (e : ∀ j, f j = g j) : sA h k f = sA h k g := by
  rw [show f = g from funext e]
/-- a flat memory of naturals -/
abbrev Fl : Type := Nat → Nat
def up (a : Fl) (i v : Nat) : Fl := fun j => if j = i then v else a j
theorem up_s {a : Fl} {i v : Nat} : up a i v i = v := by simp [up]
theorem up_n {a : Fl} {i j v : Nat} (h : j ≠ i) : up a i v j = a j := by simp [up, h]
/-- what a cell of the reference's row holds: the text that rules is told one higher -/
def cI (a : Fl) (i : Nat) : Int32 := if i = 3 then nI (a 3) - 1 else nI (a i)
theorem cI_n {a : Fl} {i : Nat} (h : i ≠ 3) : cI a i = nI (a i) := if_neg h
/-- steps from 0 on -/
def pre {σ : Type} (f : Nat → σ → σ) (s0 : σ) : Nat → σ
  | 0 => s0
  | i + 1 => f i (pre f s0 i)
def nn (x : Int32) : Nat := x.toNatClampNeg
theorem nn_nI {n : Nat} (h : n < 2 ^ 31) : nn (nI n) = n := nI_clamp h
abbrev inr (x lo hi : Int32) : Prop := lo ≤ x ∧ x ≤ hi
theorem inr_of {x : Int32} {n : Nat} (hn : n < 2 ^ 31) (h : inr x 0 (nI n)) : ∃ j : Nat, j ≤ n ∧ x = nI j := nI_of2 (nI_toInt hn) (Int32.not_lt.mpr h.1) h.2
def sumF (f : Nat → Nat) (n : Nat) : Nat := pre (fun i s => s + f i) 0 n
def orF (f : Nat → Nat) (n : Nat) : Nat := pre (fun i s => s ||| f i) 0 n
/-- the lowest one that has most -/
def bstF (f : Nat → Nat) (n : Nat) : Option Nat := pre (fun i s => match s with
  | none => some i
  | some b => if f b < f i then some i else some b) none n
/-- all that stays of the reference: its row, the image, the tape, how much of it, the latest fault and its place, the texts as they lie -/
abbrev Ms : Type := Fl × Fl × Fl × Nat × Int32 × Int32 × (Nat → Int32)
def RM (s : Ms) (h : Hp) : Prop := SM h ∧ (∀ i, i < 4870 → pI h 489 i = cI s.1 i) ∧ (∀ i, i < 4870 → pI h 490 i = cI s.2.1 i) ∧ (∀ i, i < 300 → pI h 492 i = nI (s.2.2.1 i)) ∧ pI h 488 4 = nI s.2.2.2.1 ∧ pI h 488 5 = s.2.2.2.2.1 ∧ pI h 488 6 = s.2.2.2.2.2.1 ∧ (∀ i, i < 3012 → pI h 491 i = s.2.2.2.2.2.2 i) ∧ pI h 488 23 = 1
/-- nothing but the reference's cells has changed -/
def FM (h h1 : Hp) : Prop := SS h h1 ∧ ∀ k, (k < 488 ∨ 500 < k) → pI h1 k = pI h k ∧ pJ h1 k = pJ h k
theorem FM.rf {h : Hp} : FM h h := ⟨SS.rf, fun _ _ => ⟨rfl, rfl⟩⟩
theorem FM.tr {a b c : Hp} (h1 : FM a b) (h2 : FM b c) : FM a c := ⟨h1.1.tr h2.1, fun k hk => ⟨(h2.2 k hk).1.trans (h1.2 k hk).1, (h2.2 k hk).2.trans (h1.2 k hk).2⟩⟩
theorem FM.sI {h h1 : Hp} {k i : Nat} {v : Int32} (hk : 488 ≤ k ∧ k ≤ 500) (hf : FM h h1) : FM h (sI h1 k i v) :=
  ⟨hf.1, fun j hj => ⟨by funext b; rw [pI_sI, if_neg (by omega)]; exact congrFun (hf.2 j hj).1 b, (hf.2 j hj).2⟩⟩
theorem FM.sA {h h1 : Hp} {k : Nat} {f : Nat → Int32} (hk : 488 ≤ k ∧ k ≤ 500) (hf : FM h h1) : FM h (sA h1 k f) :=
  ⟨hf.1, fun j hj => ⟨by rw [pI_sA, if_neg (by omega)]; exact (hf.2 j hj).1, (hf.2 j hj).2⟩⟩
theorem FM.sJ {h h1 : Hp} {k i : Nat} {v : Int64} (hk : 488 ≤ k ∧ k ≤ 500) (hf : FM h h1) : FM h (sJ h1 k i v) :=
  ⟨hf.1, fun j hj => ⟨(hf.2 j hj).1, by funext b; rw [pJ_sJ, if_neg (by omega)]; exact congrFun (hf.2 j hj).2 b⟩⟩
/-- the row of the reference is written at i -/
theorem RM.a {s : Ms} {h : Hp} {i v : Nat} {x : Int32} (hr : RM s h) (hx : x = cI (up s.1 i v) i) : RM (up s.1 i v, s.2) (sI h 489 i x) := by
  obtain ⟨r1, r2, r3, r4, r5, r6, r7, r8, r9⟩ := hr
  refine ⟨r1, fun j hj => ?_, fun j hj => ?_, fun j hj => ?_, ?_, ?_, ?_, fun j hj => ?_, ?_⟩
  · rw [pI_sI, if_pos rfl]
    by_cases hji : j = i
    · subst hji; rw [if_pos rfl, hx]
    · rw [if_neg hji, r2 j hj]
      show cI s.1 j = cI (up s.1 i v) j
      unfold cI
      by_cases h3 : j = 3
      · subst h3; rw [if_pos rfl, if_pos rfl, up_n hji]
      · rw [if_neg h3, if_neg h3, up_n hji]
  · rw [pI_sI, if_neg (by omega)]; exact r3 j hj
  · rw [pI_sI, if_neg (by omega)]; exact r4 j hj
  · rw [pI_sI, if_neg (by omega)]; exact r5
  · rw [pI_sI, if_neg (by omega)]; exact r6
  · rw [pI_sI, if_neg (by omega)]; exact r7
  · rw [pI_sI, if_neg (by omega)]; exact r8 j hj
  · rw [pI_sI, if_neg (by omega)]; exact r9
theorem RM.aN {s : Ms} {h : Hp} {i v : Nat} {x : Int32} (hr : RM s h) (hi : i ≠ 3) (hx : x = nI v) : RM (up s.1 i v, s.2) (sI h 489 i x) := hr.a (by rw [cI_n hi, up_s]; exact hx)
theorem RM.at {s : Ms} {h : Hp} {i : Nat} (hr : RM s h) (hi : i < 4870) (h3 : i ≠ 3) : pI h 489 i = nI (s.1 i) := by rw [hr.2.1 i hi, cI_n h3]
theorem RM.m {s : Ms} {h : Hp} (hr : RM s h) : SM h := hr.1
