/-! a sum is read: the descent as a function, and that it comes to an end (wip/whole/gen9h.py) -/
abbrev RO := Option (Nat × Nat × Cd)
def nm1 (k : Nat) : Nat := if k = 10 then 0 else if k = 30 then 1 else if k = 4 then 2 else if k = 31 then 3 else if k = 11 then 4 else if k = 32 then 5 else if k = 12 then 6 else if k = 33 then 7 else if k = 16 then 8 else if k = 34 then 9 else if k = 35 then 10 else 11
def bnd (r : RO) (k : Nat → Cd → RO) : RO := match r with
  | none => none
  | some (z, j, e) => if z = 0 then k j e else some (z, j, e)
def exq (K : Nat → Nat) (w j : Nat) (e : Cd) (k : Nat → Cd → RO) : RO := if K j = w then k (j + 1) e else some (1, j, e)
def put (x j : Nat) (e : Cd) : RO := some (0, j, e ++ [(x, 0)])
/-- which number the reference has for a comparing sign -/
def cm1 (k : Nat) : Nat := if k = 40 then 10 else if k = 38 then 11 else if k = 41 then 12 else if k = 39 then 13 else if k = 42 then 14 else 15
section RDD
variable (K W : Nat → Nat) (so : Nat) (R : Nat → Nat → Nat → Cd → RO)
def rdIn (op i : Nat) (c : Cd) : RO :=
  if K i = 48 then bnd (R 3 (op + 1) (i + 1) c) fun j e => exq K 49 j e fun j e => some (0, j, e)
  else if K i = 45 then bnd (R 0 (op + 1) (i + 1) c) (put 5)
  else if K i = 22 then bnd (R 0 (op + 1) (i + 1) c) (put 2)
  else if K i = 20 then bnd (R 0 (op + 1) (i + 1) c) fun j e => exq K 21 j e fun j e => bnd (R 0 (op + 1) j e) (put 4)
  else bnd (R 9 (op + 1) (i + 1) c) fun j e => exq K 24 j e fun j e => bnd (R 3 (op + 1) j e) fun j e => exq K 25 j e fun j e => bnd (R 3 (op + 1) j e) fun j e => exq K 26 j e (put 3)
def rdOne (op i : Nat) (c : Cd) : RO :=
  if K i = 52 then (if 9999 < W i then some (2, i, c) else some (0, i + 1, c ++ [(0, W i)]))
  else if nm1 (K i) < 11 then (if nm1 (K i) < 2 ∨ (nm1 (K i) < 5 ↔ so = 0) then some (0, i + 1, c ++ [(1, nm1 (K i))]) else some (5, i, c))
  else if K i = 48 ∨ K i = 45 ∨ K i = 20 ∨ K i = 22 ∨ K i = 23 then (if 8 ≤ op then some (3, i, c) else rdIn K R op i c)
  else some (1, i, c)
def rdPL (op i : Nat) (c : Cd) : RO := if K i = 46 ∨ K i = 47 then bnd (R 0 op (i + 1) c) fun j e => R 2 op j (e ++ [(K i - 38, 0)]) else some (0, i, c)
def rdSL (op i : Nat) (c : Cd) : RO := if K i = 44 ∨ K i = 45 then bnd (R 1 op (i + 1) c) fun j e => R 4 op j (e ++ [(K i - 38, 0)]) else some (0, i, c)
def rdCm (op i : Nat) (c : Cd) : RO := bnd (R 3 op i c) fun j e => if 38 ≤ K j ∧ K j ≤ 43 then bnd (R 3 op (j + 1) e) (put (cm1 (K j))) else some (1, j, e)
def rdAs (op i : Nat) (c : Cd) : RO := if K i = 29 then (if 8 ≤ op then some (3, i, c) else bnd (R 6 (op + 1) (i + 1) c) (put 20)) else R 5 op i c
def rdBL (op i : Nat) (c : Cd) : RO := if K i = 28 then bnd (R 6 op (i + 1) c) fun j e => R 8 op j (e ++ [(21, 0)]) else some (0, i, c)
def rdEL (op i : Nat) (c : Cd) : RO := if K i = 27 then bnd (R 7 op (i + 1) c) fun j e => R 10 op j (e ++ [(22, 0)]) else some (0, i, c)
def rdS (tag op i : Nat) (c : Cd) : RO := match tag with
  | 0 => rdOne K W so R op i c
  | 1 => bnd (R 0 op i c) (R 2 op)
  | 2 => rdPL K R op i c
  | 3 => bnd (R 1 op i c) (R 4 op)
  | 4 => rdSL K R op i c
  | 5 => rdCm K R op i c
  | 6 => rdAs K R op i c
  | 7 => bnd (R 6 op i c) (R 8 op)
  | 8 => rdBL K R op i c
  | 9 => bnd (R 7 op i c) (R 10 op)
  | _ => rdEL K R op i c
end RDD
/-- what is read from token i on: 0 one, 1 a product, 3 a sum, 5 a comparison, 6 an ask, 7 both, 9 either (2, 4, 8, 10 their loops); the fault (0 none), the token come to, the code -/
def rd (K W : Nat → Nat) (so : Nat) : Nat → Nat → Nat → Nat → Cd → RO
  | 0 => fun _ _ _ _ => none
  | f + 1 => rdS K W so (rd K W so f)
def rkT (t : Nat) : Nat := if t = 0 then 0 else if t = 2 then 1 else if t = 1 then 2 else if t = 4 then 3 else if t = 3 then 4 else if t = 5 then 5 else if t = 6 then 6 else if t = 8 then 7 else if t = 7 then 8 else if t = 10 then 9 else 10
/-- it comes to an end, not before i -/
def OKr (i : Nat) (r : RO) : Prop := ∃ z j e, r = some (z, j, e) ∧ i ≤ j
theorem OKr.s {i z j : Nat} {e : Cd} (h : i ≤ j) : OKr i (some (z, j, e)) := ⟨z, j, e, rfl, h⟩
theorem OKr.le {i i' : Nat} {r : RO} (h : OKr i' r) (hi : i ≤ i') : OKr i r := by
  obtain ⟨z, j, e, q, l⟩ := h
  exact ⟨z, j, e, q, by omega⟩
theorem OKr.b {i i' : Nat} {r : RO} {k : Nat → Cd → RO} (h : OKr i' r) (hi : i ≤ i') (hk : ∀ j e, i' ≤ j → OKr i (k j e)) : OKr i (bnd r k) := by
  obtain ⟨z, j, e, rfl, l⟩ := h
  show OKr i (if z = 0 then k j e else some (z, j, e))
  split
  · exact hk j e l
  · exact OKr.s (by omega)
theorem OKr.x {K : Nat → Nat} {i w j : Nat} {e : Cd} {k : Nat → Cd → RO} (hi : i ≤ j) (hk : K j = w → OKr i (k (j + 1) e)) : OKr i (exq K w j e k) := by
  unfold exq
  split
  · next q => exact hk q
  · exact OKr.s hi
theorem OKr.p {i x j : Nat} {e : Cd} (h : i ≤ j) : OKr i (put x j e) := OKr.s h
theorem rd_end {K W : Nat → Nat} {so n : Nat} (hK : ∀ j, K j < 53 → j < n) : ∀ f tag op i c, tag ≤ 10 → 16 * (n - i) + rkT tag < f → OKr i (rd K W so f tag op i c) := by
  intro f
  induction f with
  | zero => intro tag op i c _ h; exact absurd h (by omega)
  | succ f ih =>
    intro tag op i c ht hf
    have nx : ∀ tg op' j e, tg ≤ 10 → i < n → i + 1 ≤ j → OKr j (rd K W so f tg op' j e) := fun tg op' j e h1 h2 h3 => ih tg op' j e h1 (by
      have : rkT tg ≤ 10 := by unfold rkT; repeat' split
                               all_goals omega
      omega)
    have sm : ∀ tg op' j e, tg ≤ 10 → rkT tg < rkT tag → i ≤ j → OKr j (rd K W so f tg op' j e) := fun tg op' j e h1 h2 h3 => ih tg op' j e h1 (by omega)
    show OKr i (rdS K W so (rd K W so f) tag op i c)
    have tc : tag = 0 ∨ tag = 1 ∨ tag = 2 ∨ tag = 3 ∨ tag = 4 ∨ tag = 5 ∨ tag = 6 ∨ tag = 7 ∨ tag = 8 ∨ tag = 9 ∨ tag = 10 := by omega
    rcases tc with rfl | rfl | rfl | rfl | rfl | rfl | rfl | rfl | rfl | rfl | rfl
    · show OKr i (rdOne K W so (rd K W so f) op i c)
      unfold rdOne
      split
      · split
        · exact OKr.s (Nat.le_refl _)
        · exact OKr.s (by omega)
      · split
        · split
          · exact OKr.s (by omega)
          · exact OKr.s (Nat.le_refl _)
        · split
          · next q =>
            have hn : i < n := hK i (by omega)
            split
            · exact OKr.s (Nat.le_refl _)
            · unfold rdIn
              split
              · exact (nx 3 _ _ _ (by omega) hn (Nat.le_refl _)).b (by omega) fun j e l => OKr.x (by omega) fun _ => OKr.s (by omega)
              · split
                · exact (nx 0 _ _ _ (by omega) hn (Nat.le_refl _)).b (by omega) fun j e l => OKr.p (by omega)
                · split
                  · exact (nx 0 _ _ _ (by omega) hn (Nat.le_refl _)).b (by omega) fun j e l => OKr.p (by omega)
                  · split
                    · exact (nx 0 _ _ _ (by omega) hn (Nat.le_refl _)).b (by omega) fun j e l => OKr.x (by omega) fun _ => (nx 0 _ _ _ (by omega) hn (by omega)).b (by omega) fun j e l => OKr.p (by omega)
                    · exact (nx 9 _ _ _ (by omega) hn (Nat.le_refl _)).b (by omega) fun j e l => OKr.x (by omega) fun _ => (nx 3 _ _ _ (by omega) hn (by omega)).b (by omega) fun j e l => OKr.x (by omega) fun _ => (nx 3 _ _ _ (by omega) hn (by omega)).b (by omega) fun j e l => OKr.x (by omega) fun _ => OKr.p (by omega)
          · exact OKr.s (Nat.le_refl _)
    · exact (sm 0 _ _ _ (by omega) (by decide) (Nat.le_refl _)).b (Nat.le_refl _) fun j e l => (sm 2 _ _ _ (by omega) (by decide) l).le l
    · show OKr i (rdPL K (rd K W so f) op i c)
      unfold rdPL
      split
      · next q =>
        have hn : i < n := hK i (by omega)
        exact (nx 0 _ _ _ (by omega) hn (Nat.le_refl _)).b (by omega) fun j e l => (nx 2 _ _ _ (by omega) hn l).le (by omega)
      · exact OKr.s (Nat.le_refl _)
    · exact (sm 1 _ _ _ (by omega) (by decide) (Nat.le_refl _)).b (Nat.le_refl _) fun j e l => (sm 4 _ _ _ (by omega) (by decide) l).le l
    · show OKr i (rdSL K (rd K W so f) op i c)
      unfold rdSL
      split
      · next q =>
        have hn : i < n := hK i (by omega)
        exact (nx 1 _ _ _ (by omega) hn (Nat.le_refl _)).b (by omega) fun j e l => (nx 4 _ _ _ (by omega) hn l).le (by omega)
      · exact OKr.s (Nat.le_refl _)
    · show OKr i (rdCm K (rd K W so f) op i c)
      unfold rdCm
      refine (sm 3 _ _ _ (by omega) (by decide) (Nat.le_refl _)).b (Nat.le_refl _) fun j e l => ?_
      split
      · exact (sm 3 _ _ _ (by omega) (by decide) (by omega)).b (by omega) fun j e l => OKr.p (by omega)
      · exact OKr.s (by omega)
    · show OKr i (rdAs K (rd K W so f) op i c)
      unfold rdAs
      split
      · next q =>
        have hn : i < n := hK i (by omega)
        split
        · exact OKr.s (Nat.le_refl _)
        · exact (nx 6 _ _ _ (by omega) hn (Nat.le_refl _)).b (by omega) fun j e l => OKr.p (by omega)
      · exact sm 5 _ _ _ (by omega) (by decide) (Nat.le_refl _)
    · exact (sm 6 _ _ _ (by omega) (by decide) (Nat.le_refl _)).b (Nat.le_refl _) fun j e l => (sm 8 _ _ _ (by omega) (by decide) l).le l
    · show OKr i (rdBL K (rd K W so f) op i c)
      unfold rdBL
      split
      · next q =>
        have hn : i < n := hK i (by omega)
        exact (nx 6 _ _ _ (by omega) hn (Nat.le_refl _)).b (by omega) fun j e l => (nx 8 _ _ _ (by omega) hn l).le (by omega)
      · exact OKr.s (Nat.le_refl _)
    · exact (sm 7 _ _ _ (by omega) (by decide) (Nat.le_refl _)).b (Nat.le_refl _) fun j e l => (sm 10 _ _ _ (by omega) (by decide) l).le l
    · show OKr i (rdEL K (rd K W so f) op i c)
      unfold rdEL
      split
      · next q =>
        have hn : i < n := hK i (by omega)
        exact (nx 7 _ _ _ (by omega) hn (Nat.le_refl _)).b (by omega) fun j e l => (nx 10 _ _ _ (by omega) hn l).le (by omega)
      · exact OKr.s (Nat.le_refl _)

