/-! a text is read, as a function; the codes of its laws are typed (wip/whole/gena3.py) -/
/-- numbers with a word before each -/
def rdW (K W : Nat → Nat) : List (Nat × Nat × Nat) → Nat → List Nat → Nat × Nat × List Nat
  | [], i, ns => (0, i, ns)
  | q :: r, i, ns => if K i = q.1 then (if K (i + 1) = 52 then (if q.2.1 ≤ W (i + 1) ∧ W (i + 1) ≤ q.2.2 then rdW K W r (i + 2) (ns ++ [W (i + 1)]) else (2, i + 1, ns)) else (1, i + 1, ns)) else (1, i, ns)
def rdA (K W : Nat → Nat) (lo hi : Nat) (r : List (Nat × Nat × Nat)) (i : Nat) : Nat × Nat × List Nat := if K i = 52 then (if lo ≤ W i ∧ W i ≤ hi then rdW K W r (i + 1) [W i] else (2, i, [])) else (1, i, [])
/-- facts with commas between -/
def rdX (K W : Nat → Nat) : Nat → Nat → Nat → Nat × Nat × Nat
  | 0, i, set => if K i = 52 then (if W i ≤ 7 then (if K (i + 1) = 50 then (7, i + 1, 0) else (0, i + 1, set ||| 2 ^ W i)) else (2, i, 0)) else (1, i, 0)
  | f + 1, i, set => if K i = 52 then (if W i ≤ 7 then (if K (i + 1) = 50 then rdX K W f (i + 2) (set ||| 2 ^ W i) else (0, i + 1, set ||| 2 ^ W i)) else (2, i, 0)) else (1, i, 0)
def rdF2 (K W : Nat → Nat) (i : Nat) (x : Nat × Nat × Nat) : Nat × Nat × List Nat := if x.1 = 0 then rdW K W [(15, 1, 99), (16, 0, 999)] x.2.1 [W i, (if K (i + 1) = 14 then 1 else 0), x.2.2] else (x.1, x.2.1, [])
def rdF (K W : Nat → Nat) (i : Nat) : Nat × Nat × List Nat := if K i = 52 then (if W i ≤ 4 then (if K (i + 1) = 14 ∨ K (i + 1) = 13 then rdF2 K W i (rdX K W 7 (i + 2) 0) else (1, i + 1, [])) else (2, i, [])) else (1, i, [])
/-- what an act's numbers must be -/
def itm (s : Nat) : Nat × Nat × List (Nat × Nat × Nat) := if s = 3 then (0, 10, [(11, 0, 99)]) else if s = 4 then (0, 9999, [(12, 0, 99)]) else if s = 8 then (0, 11, [(18, 0, 4), (19, 0, 999)]) else if s = 9 then (1, 60, []) else (0, 7, [(17, 0, 4)])
abbrev Cl : Type := Nat × List Nat × Cd
def rdBl (x : RO) (i : Nat) : Nat × Nat × List Nat × Cd := match x with
  | some (z, j, e) => (z, j, [], e)
  | none => (1, i, [], [])
/-- behind a clause's word: fault, token, numbers, code -/
def rdB (K W : Nat → Nat) (s i : Nat) : Nat × Nat × List Nat × Cd :=
  if s ≤ 2 then rdBl (rd K W s 5000 3 0 i []) i
  else if s = 5 then ((rdF K W i).1, (rdF K W i).2.1, (rdF K W i).2.2, [])
  else ((rdA K W (itm s).1 (itm s).2.1 (itm s).2.2 i).1, (rdA K W (itm s).1 (itm s).2.1 (itm s).2.2 i).2.1, (rdA K W (itm s).1 (itm s).2.1 (itm s).2.2 i).2.2, [])
def hasS (s : Nat) : List Cl → Bool
  | [] => false
  | q :: r => q.1 == s || hasS s r
def rdC2 (K : Nat → Nat) (s : Nat) (L : List Cl) (x : Nat × Nat × List Nat × Cd) : Nat × Nat × List Cl := if x.1 = 0 then (if K x.2.1 = 51 then (0, x.2.1 + 1, L ++ [(s, x.2.2.1, x.2.2.2)]) else (1, x.2.1, L)) else (x.1, x.2.1, L)
/-- a clause -/
def rdC (K W : Nat → Nat) (L : List Cl) (i : Nat) : Nat × Nat × List Cl :=
  if 1 ≤ K i ∧ K i ≤ 10 then (if K i ≤ 3 ∧ hasS (K i - 1) L = true then (4, i, L) else if L.length = 24 then (6, i, L) else rdC2 K (K i - 1) L (rdB K W (K i - 1) (i + 1))) else (1, i, L)
def rdT2 (R : List Cl → Nat → Nat × Nat × List Cl) (x : Nat × Nat × List Cl) : Nat × Nat × List Cl := if x.1 = 0 then R x.2.2 x.2.1 else x
/-- a text, from token i on -/
def rdT (K W : Nat → Nat) : Nat → List Cl → Nat → Nat × Nat × List Cl
  | 0, L, i => (0, i, L)
  | f + 1, L, i => if K i = 54 then (0, i, L) else rdT2 (rdT K W f) (rdC K W L i)
/-- a code takes sorts t to t' -/
def TYp : Cd → List Bool → List Bool → Prop
  | [], t, t' => t = t'
  | y :: r, t, t' => ∃ u, Ck y.1 t u ∧ TYp r u t'
theorem TYp.app {c d : Cd} : ∀ {t u v : List Bool}, TYp c t u → TYp d u v → TYp (c ++ d) t v := by
  induction c with
  | nil => intro t u v h1 h2; cases h1; exact h2
  | cons y r ih =>
    intro t u v h1 h2
    obtain ⟨x, a, b⟩ := h1
    exact ⟨x, a, ih b h2⟩
theorem TYp.one {o v : Nat} {t u : List Bool} (h : Ck o t u) : TYp [(o, v)] t u := ⟨u, h, rfl⟩
theorem TYp.ty {c : Cd} : ∀ {t t' : List Bool}, TYp c t t' → ∃ ty : Nat → List Bool, ty 0 = t ∧ (∀ i y, c[i]? = some y → Ck y.1 (ty i) (ty (i + 1))) ∧ ty c.length = t' := by
  induction c with
  | nil => intro t t' h; exact ⟨fun _ => t, rfl, (fun i y q => by cases q), h⟩
  | cons y r ih =>
    intro t t' h
    obtain ⟨u, a, b⟩ := h
    obtain ⟨ty, q0, q1, q2⟩ := ih b
    refine ⟨fun i => Nat.casesOn (motive := fun _ => List Bool) i t (fun n => ty n), rfl, fun i x q => ?_, ?_⟩
    · cases i with
      | zero =>
        cases q
        show Ck y.1 t (ty 0)
        rw [q0]
        exact a
      | succ i => exact q1 i x q
    · exact q2
/-- what is read behind c is typed -/
def TQ (C : Prop) (p q : List Bool → List Bool) (c : Cd) (x : RO) : Prop := ∀ j e, x = some (0, j, e) → ∃ c', e = c ++ c' ∧ (∀ y ∈ c', okI C y.1 y.2) ∧ ∀ r, TYp c' (p r) (q r)
theorem TQ.s {C : Prop} {p : List Bool → List Bool} {c : Cd} {i : Nat} : TQ C p p c (some (0, i, c)) := by
  intro j e h
  cases h
  exact ⟨[], (List.append_nil c).symm, fun y hy => absurd hy (List.not_mem_nil), fun r => rfl⟩
theorem TQ.f {C : Prop} {p q : List Bool → List Bool} {c e : Cd} {z i : Nat} (hz : ¬ z = 0) : TQ C p q c (some (z, i, e)) := by
  intro j e' h
  cases h
  exact absurd rfl hz
theorem TQ.i {C : Prop} {p q : List Bool → List Bool} {c : Cd} {o v i : Nat} (h : ∀ r, Ck o (p r) (q r)) (ho : okI C o v) : TQ C p q c (some (0, i, c ++ [(o, v)])) := by
  intro j e q'
  cases q'
  exact ⟨[(o, v)], rfl, fun y hy => by rw [List.mem_singleton.mp hy]; exact ho, fun r => TYp.one (h r)⟩
theorem TQ.b {C : Prop} {p q u : List Bool → List Bool} {c : Cd} {x : RO} {k : Nat → Cd → RO} (h : TQ C p q c x) (hk : ∀ j e, TQ C q u e (k j e)) : TQ C p u c (bnd x k) := by
  intro j e hb
  cases x with
  | none => cases hb
  | some y =>
    obtain ⟨z, j1, e1⟩ := y
    by_cases hz : z = 0
    · subst hz
      rw [bnd_0] at hb
      obtain ⟨c1, a1, a2, a3⟩ := h j1 e1 rfl
      obtain ⟨c2, b1, b2, b3⟩ := hk j1 e1 j e hb
      refine ⟨c1 ++ c2, by rw [b1, a1, List.append_assoc], fun y hy => ?_, fun r => (a3 r).app (b3 r)⟩
      rcases List.mem_append.mp hy with w | w
      · exact a2 y w
      · exact b2 y w
    · rw [bnd_z hz] at hb
      cases hb
      exact absurd rfl hz
theorem TQ.x {C : Prop} {p q : List Bool → List Bool} {K : Nat → Nat} {w j : Nat} {e : Cd} {k : Nat → Cd → RO} (h : TQ C p q e (k (j + 1) e)) : TQ C p q e (exq K w j e k) := by
  unfold exq
  split
  · exact h
  · exact TQ.f (by omega)
/-- one more instruction behind e, then k -/
theorem TQ.k {C : Prop} {p q u : List Bool → List Bool} {e : Cd} {o v : Nat} {x : RO} (h : ∀ r, Ck o (p r) (q r)) (ho : okI C o v) (hk : TQ C q u (e ++ [(o, v)]) x) : TQ C p u e x := by
  intro j e2 hx
  obtain ⟨c2, b1, b2, b3⟩ := hk j e2 hx
  refine ⟨(o, v) :: c2, by rw [b1, List.append_assoc]; rfl, fun y hy => ?_, fun r => ⟨q r, h r, b3 r⟩⟩
  rcases List.mem_cons.mp hy with w | w
  · rw [w]; exact ho
  · exact b2 y w
abbrev qN (r : List Bool) : List Bool := r
abbrev qF (r : List Bool) : List Bool := false :: r
abbrev qT (r : List Bool) : List Bool := true :: r
def prT (t : Nat) : List Bool → List Bool := if t = 2 ∨ t = 4 then qF else if t = 8 ∨ t = 10 then qT else qN
def poT (t : Nat) : List Bool → List Bool := if t ≤ 4 then qF else qT
theorem okI_o {C : Prop} {o : Nat} (h : (2 ≤ o ∧ o ≤ 15) ∨ (20 ≤ o ∧ o ≤ 22)) : okI C o 0 := by
  rcases h with h | h
  · exact Or.inr (Or.inr (Or.inl h))
  · exact Or.inr (Or.inr (Or.inr h))
theorem ck_ar {o : Nat} (h : o = 4 ∨ (6 ≤ o ∧ o ≤ 9)) (r : List Bool) : Ck o (qF (qF r)) (qF r) := Or.inr (Or.inr (Or.inr (Or.inl ⟨h, r, rfl, rfl⟩)))
theorem ck_un {o : Nat} (h : o = 2 ∨ o = 5) (r : List Bool) : Ck o (qF r) (qF r) := Or.inr (Or.inl ⟨h, r, rfl, rfl⟩)
theorem ck_if (r : List Bool) : Ck 3 (qF (qF (qT r))) (qF r) := Or.inr (Or.inr (Or.inl ⟨rfl, r, rfl, rfl⟩))
theorem ck_cm {o : Nat} (h : 10 ≤ o ∧ o ≤ 15) (r : List Bool) : Ck o (qF (qF r)) (qT r) := Or.inr (Or.inr (Or.inr (Or.inr (Or.inl ⟨h, r, rfl, rfl⟩))))
theorem ck_no (r : List Bool) : Ck 20 (qT r) (qT r) := Or.inr (Or.inr (Or.inr (Or.inr (Or.inr (Or.inl ⟨rfl, r, rfl, rfl⟩)))))
theorem ck_ao {o : Nat} (h : o = 21 ∨ o = 22) (r : List Bool) : Ck o (qT (qT r)) (qT r) := Or.inr (Or.inr (Or.inr (Or.inr (Or.inr (Or.inr ⟨h, r, rfl, rfl⟩)))))
theorem ck_nu {o : Nat} (h : o ≤ 1) (r : List Bool) : Ck o r (qF r) := Or.inl ⟨h, rfl⟩
theorem nm1_le (k : Nat) : nm1 k ≤ 11 := by
  unfold nm1
  repeat' split
  all_goals omega
theorem cm1_b (k : Nat) : 10 ≤ cm1 k ∧ cm1 k ≤ 15 := by
  unfold cm1
  repeat' split
  all_goals omega
theorem TQ.pr {C : Prop} {p q p' q' : List Bool → List Bool} {c : Cd} {x : RO} (h : TQ C p q c x) (m : List Bool → List Bool) (e1 : ∀ r, p (m r) = p' r) (e2 : ∀ r, q (m r) = q' r) : TQ C p' q' c x := by
  intro j e hx
  obtain ⟨c', a1, a2, a3⟩ := h j e hx
  exact ⟨c', a1, a2, fun r => by have := a3 (m r); rw [e1, e2] at this; exact this⟩
theorem rd_ty {K W : Nat → Nat} {so : Nat} : ∀ f tag op i c, tag ≤ 10 → TQ (so = 0) (prT tag) (poT tag) c (rd K W so f tag op i c) := by
  intro f
  induction f with
  | zero => intro tag op i c _ j e q; cases q
  | succ f ih =>
    intro tag op i c ht
    have R0 : ∀ op i c, TQ (so = 0) qN qF c (rd K W so f 0 op i c) := fun op i c => ih 0 op i c (by omega)
    have R1 : ∀ op i c, TQ (so = 0) qN qF c (rd K W so f 1 op i c) := fun op i c => ih 1 op i c (by omega)
    have R2 : ∀ op i c, TQ (so = 0) qF qF c (rd K W so f 2 op i c) := fun op i c => ih 2 op i c (by omega)
    have R3 : ∀ op i c, TQ (so = 0) qN qF c (rd K W so f 3 op i c) := fun op i c => ih 3 op i c (by omega)
    have R4 : ∀ op i c, TQ (so = 0) qF qF c (rd K W so f 4 op i c) := fun op i c => ih 4 op i c (by omega)
    have R5 : ∀ op i c, TQ (so = 0) qN qT c (rd K W so f 5 op i c) := fun op i c => ih 5 op i c (by omega)
    have R6 : ∀ op i c, TQ (so = 0) qN qT c (rd K W so f 6 op i c) := fun op i c => ih 6 op i c (by omega)
    have R7 : ∀ op i c, TQ (so = 0) qN qT c (rd K W so f 7 op i c) := fun op i c => ih 7 op i c (by omega)
    have R8 : ∀ op i c, TQ (so = 0) qT qT c (rd K W so f 8 op i c) := fun op i c => ih 8 op i c (by omega)
    have R9 : ∀ op i c, TQ (so = 0) qN qT c (rd K W so f 9 op i c) := fun op i c => ih 9 op i c (by omega)
    have R10 : ∀ op i c, TQ (so = 0) qT qT c (rd K W so f 10 op i c) := fun op i c => ih 10 op i c (by omega)
    -- one more of a sort on the pile below
    have U0 : ∀ m op i c, TQ (so = 0) m (fun r => qF (m r)) c (rd K W so f 0 op i c) := fun m op i c => (R0 op i c).pr m (fun _ => rfl) (fun _ => rfl)
    have U1 : ∀ m op i c, TQ (so = 0) m (fun r => qF (m r)) c (rd K W so f 1 op i c) := fun m op i c => (R1 op i c).pr m (fun _ => rfl) (fun _ => rfl)
    have U3 : ∀ m op i c, TQ (so = 0) m (fun r => qF (m r)) c (rd K W so f 3 op i c) := fun m op i c => (R3 op i c).pr m (fun _ => rfl) (fun _ => rfl)
    have U6 : ∀ m op i c, TQ (so = 0) m (fun r => qT (m r)) c (rd K W so f 6 op i c) := fun m op i c => (R6 op i c).pr m (fun _ => rfl) (fun _ => rfl)
    have U7 : ∀ m op i c, TQ (so = 0) m (fun r => qT (m r)) c (rd K W so f 7 op i c) := fun m op i c => (R7 op i c).pr m (fun _ => rfl) (fun _ => rfl)
    show TQ (so = 0) (prT tag) (poT tag) c (rdS K W so (rd K W so f) tag op i c)
    have tc : tag = 0 ∨ tag = 1 ∨ tag = 2 ∨ tag = 3 ∨ tag = 4 ∨ tag = 5 ∨ tag = 6 ∨ tag = 7 ∨ tag = 8 ∨ tag = 9 ∨ tag = 10 := by omega
    rcases tc with rfl | rfl | rfl | rfl | rfl | rfl | rfl | rfl | rfl | rfl | rfl
    · show TQ (so = 0) qN qF c (rdOne K W so (rd K W so f) op i c)
      unfold rdOne
      split
      · split
        · exact TQ.f (by omega)
        · next q => exact TQ.i (ck_nu (by omega)) (Or.inl ⟨rfl, by omega⟩)
      · split
        · next q =>
          split
          · next q2 => exact TQ.i (ck_nu (by omega)) (Or.inr (Or.inl ⟨rfl, by omega, q2⟩))
          · exact TQ.f (by omega)
        · split
          · split
            · exact TQ.f (by omega)
            · unfold rdIn
              split
              · exact (R3 _ _ _).b fun j e => TQ.x TQ.s
              · split
                · exact (R0 _ _ _).b fun j e => TQ.i (ck_un (by omega)) (okI_o (by omega))
                · split
                  · exact (R0 _ _ _).b fun j e => TQ.i (ck_un (by omega)) (okI_o (by omega))
                  · split
                    · exact (R0 _ _ _).b fun j e => TQ.x ((U0 qF _ _ _).b fun j e => TQ.i (ck_ar (by omega)) (okI_o (by omega)))
                    · exact (R9 _ _ _).b fun j e => TQ.x ((U3 qT _ _ _).b fun j e => TQ.x ((U3 (fun r => qF (qT r)) _ _ _).b fun j e => TQ.x (TQ.i ck_if (okI_o (by omega)))))
          · exact TQ.f (by omega)
    · exact (R0 _ _ _).b fun j e => R2 _ _ _
    · show TQ (so = 0) qF qF c (rdPL K (rd K W so f) op i c)
      unfold rdPL
      split
      · next q => exact (U0 qF _ _ _).b fun j e => TQ.k (ck_ar (by omega)) (okI_o (by omega)) (R2 _ _ _)
      · exact TQ.s
    · exact (R1 _ _ _).b fun j e => R4 _ _ _
    · show TQ (so = 0) qF qF c (rdSL K (rd K W so f) op i c)
      unfold rdSL
      split
      · next q => exact (U1 qF _ _ _).b fun j e => TQ.k (ck_ar (by omega)) (okI_o (by omega)) (R4 _ _ _)
      · exact TQ.s
    · show TQ (so = 0) qN qT c (rdCm K (rd K W so f) op i c)
      unfold rdCm
      refine (R3 _ _ _).b fun j e => ?_
      split
      · have cb := cm1_b (K j)
        exact (U3 qF _ _ _).b fun j2 e2 => TQ.i (ck_cm cb) (okI_o (by omega))
      · exact TQ.f (by omega)
    · show TQ (so = 0) qN qT c (rdAs K (rd K W so f) op i c)
      unfold rdAs
      split
      · split
        · exact TQ.f (by omega)
        · exact (R6 _ _ _).b fun j e => TQ.i ck_no (okI_o (by omega))
      · exact R5 _ _ _
    · exact (R6 _ _ _).b fun j e => R8 _ _ _
    · show TQ (so = 0) qT qT c (rdBL K (rd K W so f) op i c)
      unfold rdBL
      split
      · next q => exact (U6 qT _ _ _).b fun j e => TQ.k (ck_ao (by omega)) (okI_o (by omega)) (R8 _ _ _)
      · exact TQ.s
    · exact (R7 _ _ _).b fun j e => R10 _ _ _
    · show TQ (so = 0) qT qT c (rdEL K (rd K W so f) op i c)
      unfold rdEL
      split
      · next q => exact (U7 qT _ _ _).b fun j e => TQ.k (ck_ao (by omega)) (okI_o (by omega)) (R10 _ _ _)
      · exact TQ.s
/-- the code of a law -/
def LWc (s : Nat) (e : Cd) : Prop := (∀ y ∈ e, okI (s = 0) y.1 y.2) ∧ TYp e [] [false]
theorem rd_law {K W : Nat → Nat} {s f i j : Nat} {e : Cd} (h : rd K W s f 3 0 i [] = some (0, j, e)) : LWc s e := by
  obtain ⟨c', a1, a2, a3⟩ := rd_ty (K := K) (W := W) (so := s) f 3 0 i [] (by omega) j e h
  rw [List.nil_append] at a1
  subst a1
  exact ⟨a2, a3 []⟩

