/-! what the descent comes to, what the pile keeps back (wip/whole/gen9i.py) -/
def STP (tag k : Nat) : Prop := (1 ≤ tag → k ≠ 46 ∧ k ≠ 47) ∧ (3 ≤ tag → k ≠ 44 ∧ k ≠ 45) ∧ (7 ≤ tag → k ≠ 28) ∧ (9 ≤ tag → k ≠ 27)
def FAr (K : Nat → Nat) (n : Nat) (st : Nat → Prop) (i L : Nat) (r : RO) : Prop := ∀ z j e, r = some (z, j, e) → j ≤ n ∧ i ≤ j ∧ e.length + i ≤ L + j ∧ (z = 0 → st (K j))
theorem FAr.s {K : Nat → Nat} {n : Nat} {st : Nat → Prop} {i L z j : Nat} {e : Cd} (h1 : j ≤ n) (h2 : i ≤ j) (h3 : e.length + i ≤ L + j) (h4 : z = 0 → st (K j)) : FAr K n st i L (some (z, j, e)) := by
  intro z' j' e' q
  cases q
  exact ⟨h1, h2, h3, h4⟩
theorem FAr.b {K : Nat → Nat} {n : Nat} {st st1 : Nat → Prop} {i i1 L L1 : Nat} {r : RO} {k : Nat → Cd → RO} (h : FAr K n st1 i1 L1 r) (hi : i ≤ i1 ∧ L1 + i ≤ L + i1) (hk : ∀ j e, j ≤ n → i1 ≤ j → e.length + i1 ≤ L1 + j → st1 (K j) → FAr K n st i L (k j e)) : FAr K n st i L (bnd r k) := by
  intro z' j' e' q
  cases r with
  | none => exact absurd q (by intro h; cases h)
  | some p =>
    obtain ⟨z, j, e⟩ := p
    obtain ⟨a1, a2, a3, a4⟩ := h z j e rfl
    have q : (if z = 0 then k j e else some (z, j, e)) = some (z', j', e') := q
    by_cases hz : z = 0
    · rw [if_pos hz] at q
      exact hk j e a1 a2 a3 (a4 hz) _ _ _ q
    · rw [if_neg hz] at q
      cases q
      exact ⟨a1, by omega, by omega, fun w => absurd w hz⟩
theorem FAr.x {K : Nat → Nat} {n : Nat} {st : Nat → Prop} {i L w j : Nat} {e : Cd} {k : Nat → Cd → RO} (h1 : j ≤ n) (h2 : i ≤ j) (h3 : e.length + i ≤ L + j) (hk : K j = w → FAr K n st i L (k (j + 1) e)) : FAr K n st i L (exq K w j e k) := by
  unfold exq
  split
  · next q => exact hk q
  · exact FAr.s h1 h2 h3 (fun w => absurd w (by omega))
theorem FAr.p {K : Nat → Nat} {n : Nat} {st : Nat → Prop} {i L x j : Nat} {e : Cd} (h1 : j ≤ n) (h2 : i ≤ j) (h3 : e.length + 1 + i ≤ L + j) (h4 : st (K j)) : FAr K n st i L (put x j e) := FAr.s h1 h2 (by rw [List.length_append]; exact h3) (fun _ => h4)
theorem FAr.w {K : Nat → Nat} {n : Nat} {st st1 : Nat → Prop} {i i1 L L1 : Nat} {r : RO} (h : FAr K n st1 i1 L1 r) (hi : i ≤ i1 ∧ L1 + i ≤ L + i1) (hs : ∀ k, st1 k → st k) : FAr K n st i L r := by
  intro z j e q
  obtain ⟨a1, a2, a3, a4⟩ := h z j e q
  exact ⟨a1, by omega, by omega, fun w => hs _ (a4 w)⟩
theorem len1 (e : Cd) (x : Nat × Nat) : (e ++ [x]).length = e.length + 1 := by rw [List.length_append]; rfl
def PRE (tag k : Nat) : Prop := (tag = 4 → STP 1 k) ∧ (tag = 8 → STP 6 k) ∧ (tag = 10 → STP 7 k)
theorem pre_t {tag k : Nat} (h : tag ≠ 4 ∧ tag ≠ 8 ∧ tag ≠ 10) : PRE tag k := ⟨fun q => absurd q h.1, fun q => absurd q h.2.1, fun q => absurd q h.2.2⟩
theorem nm1_lt {k : Nat} (h : nm1 k < 11) : k < 53 := by
  by_cases q : k < 53
  · exact q
  · exfalso
    unfold nm1 at h
    repeat rw [if_neg (by omega)] at h
    omega
theorem rd_fact {K W : Nat → Nat} {so n : Nat} (hK : ∀ j, K j < 53 → j < n) : ∀ f tag op i c, tag ≤ 10 → i ≤ n → PRE tag (K i) → FAr K n (STP tag) i c.length (rd K W so f tag op i c) := by
  intro f
  induction f with
  | zero => intro tag op i c _ _ _ z j e q; exact absurd q (by intro h; cases h)
  | succ f ih =>
    intro tag op i c ht hn hp
    have T0 : ∀ k, STP 0 k := fun k => ⟨fun h => absurd h (by omega), fun h => absurd h (by omega), fun h => absurd h (by omega), fun h => absurd h (by omega)⟩
    show FAr K n (STP tag) i c.length (rdS K W so (rd K W so f) tag op i c)
    have tc : tag = 0 ∨ tag = 1 ∨ tag = 2 ∨ tag = 3 ∨ tag = 4 ∨ tag = 5 ∨ tag = 6 ∨ tag = 7 ∨ tag = 8 ∨ tag = 9 ∨ tag = 10 := by omega
    rcases tc with rfl | rfl | rfl | rfl | rfl | rfl | rfl | rfl | rfl | rfl | rfl
    · show FAr K n (STP 0) i c.length (rdOne K W so (rd K W so f) op i c)
      unfold rdOne
      split
      · next q =>
        have := hK i (by omega)
        split
        · exact FAr.s (by omega) (by omega) (by omega) (fun _ => T0 _)
        · exact FAr.s (by omega) (by omega) (by rw [len1]; omega) (fun _ => T0 _)
      · split
        · next q =>
          have : i < n := hK i (nm1_lt q)
          split
          · exact FAr.s (by omega) (by omega) (by rw [len1]; omega) (fun _ => T0 _)
          · exact FAr.s (by omega) (by omega) (by omega) (fun _ => T0 _)
        · split
          · next q =>
            have hn' : i < n := hK i (by omega)
            split
            · exact FAr.s (by omega) (by omega) (by omega) (fun _ => T0 _)
            · unfold rdIn
              split
              · exact (ih 3 _ _ _ (by omega) (by omega) (pre_t (by omega))).b (by omega) fun j e l1 l2 l3 _ => FAr.x (by omega) (by omega) (by omega) fun w => FAr.s (by have := hK j (by omega); omega) (by omega) (by omega) (fun _ => T0 _)
              · split
                · exact (ih 0 _ _ _ (by omega) (by omega) (pre_t (by omega))).b (by omega) fun j e l1 l2 l3 _ => FAr.p (by omega) (by omega) (by omega) (T0 _)
                · split
                  · exact (ih 0 _ _ _ (by omega) (by omega) (pre_t (by omega))).b (by omega) fun j e l1 l2 l3 _ => FAr.p (by omega) (by omega) (by omega) (T0 _)
                  · split
                    · exact (ih 0 _ _ _ (by omega) (by omega) (pre_t (by omega))).b (by omega) fun j e l1 l2 l3 _ => FAr.x (by omega) (by omega) (by omega) fun w => (ih 0 _ _ _ (by omega) (by have := hK j (by omega); omega) (pre_t (by omega))).b (by omega) fun j e l1 l2 l3 _ => FAr.p (by omega) (by omega) (by omega) (T0 _)
                    · exact (ih 9 _ _ _ (by omega) (by omega) (pre_t (by omega))).b (by omega) fun j e l1 l2 l3 _ => FAr.x (by omega) (by omega) (by omega) fun w => (ih 3 _ _ _ (by omega) (by have := hK j (by omega); omega) (pre_t (by omega))).b (by omega) fun j e l1 l2 l3 _ => FAr.x (by omega) (by omega) (by omega) fun w => (ih 3 _ _ _ (by omega) (by have := hK j (by omega); omega) (pre_t (by omega))).b (by omega) fun j e l1 l2 l3 _ => FAr.x (by omega) (by omega) (by omega) fun w => FAr.p (by have := hK j (by omega); omega) (by omega) (by omega) (T0 _)
          · exact FAr.s (by omega) (by omega) (by omega) (fun _ => T0 _)
    · exact (ih 0 _ _ _ (by omega) hn (pre_t (by omega))).b (by omega) fun j e l1 l2 l3 _ => (ih 2 op j e (by omega) l1 (pre_t (by omega))).w (by omega) (fun k h => by unfold STP at h ⊢; omega)
    · show FAr K n (STP 2) i c.length (rdPL K (rd K W so f) op i c)
      unfold rdPL
      split
      · next q =>
        have hn' : i < n := hK i (by omega)
        exact (ih 0 _ _ _ (by omega) (by omega) (pre_t (by omega))).b (by omega) fun j e l1 l2 l3 _ => (ih 2 op j _ (by omega) l1 (pre_t (by omega))).w (by rw [len1]; omega) (fun k h => h)
      · next q => exact FAr.s hn (by omega) (by omega) (fun _ => by unfold STP; omega)
    · exact (ih 1 _ _ _ (by omega) hn (pre_t (by omega))).b (by omega) fun j e l1 l2 l3 w => (ih 4 op j e (by omega) l1 (by unfold PRE; unfold STP at w ⊢; omega)).w (by omega) (fun k h => by unfold STP at h ⊢; omega)
    · show FAr K n (STP 4) i c.length (rdSL K (rd K W so f) op i c)
      unfold rdSL
      split
      · next q =>
        have hn' : i < n := hK i (by omega)
        exact (ih 1 _ _ _ (by omega) (by omega) (pre_t (by omega))).b (by omega) fun j e l1 l2 l3 w => (ih 4 op j _ (by omega) l1 (by unfold PRE; unfold STP at w ⊢; omega)).w (by rw [len1]; omega) (fun k h => h)
      · next q => exact FAr.s hn (by omega) (by omega) (fun _ => by unfold PRE at hp; unfold STP at hp ⊢; omega)
    · show FAr K n (STP 5) i c.length (rdCm K (rd K W so f) op i c)
      unfold rdCm
      refine (ih 3 _ _ _ (by omega) hn (pre_t (by omega))).b (by omega) fun j e l1 l2 l3 w => ?_
      split
      · next q =>
        have hn' : j < n := hK j (by omega)
        exact (ih 3 _ _ _ (by omega) (by omega) (pre_t (by omega))).b (by omega) fun j e l1 l2 l3 w => FAr.p (by omega) (by omega) (by omega) (by unfold STP at w ⊢; omega)
      · exact FAr.s (by omega) (by omega) (by omega) (fun h => absurd h (by omega))
    · show FAr K n (STP 6) i c.length (rdAs K (rd K W so f) op i c)
      unfold rdAs
      split
      · next q =>
        have hn' : i < n := hK i (by omega)
        split
        · exact FAr.s hn (by omega) (by omega) (fun h => absurd h (by omega))
        · exact (ih 6 _ _ _ (by omega) (by omega) (pre_t (by omega))).b (by omega) fun j e l1 l2 l3 w => FAr.p (by omega) (by omega) (by omega) w
      · exact (ih 5 _ _ _ (by omega) hn (pre_t (by omega))).w (by omega) (fun k h => by unfold STP at h ⊢; omega)
    · exact (ih 6 _ _ _ (by omega) hn (pre_t (by omega))).b (by omega) fun j e l1 l2 l3 w => (ih 8 op j e (by omega) l1 (by unfold PRE; unfold STP at w ⊢; omega)).w (by omega) (fun k h => by unfold STP at h ⊢; omega)
    · show FAr K n (STP 8) i c.length (rdBL K (rd K W so f) op i c)
      unfold rdBL
      split
      · next q =>
        have hn' : i < n := hK i (by omega)
        exact (ih 6 _ _ _ (by omega) (by omega) (pre_t (by omega))).b (by omega) fun j e l1 l2 l3 w => (ih 8 op j _ (by omega) l1 (by unfold PRE; unfold STP at w ⊢; omega)).w (by rw [len1]; omega) (fun k h => h)
      · next q => exact FAr.s hn (by omega) (by omega) (fun _ => by unfold PRE at hp; unfold STP at hp ⊢; omega)
    · exact (ih 7 _ _ _ (by omega) hn (pre_t (by omega))).b (by omega) fun j e l1 l2 l3 w => (ih 10 op j e (by omega) l1 (by unfold PRE; unfold STP at w ⊢; omega)).w (by omega) (fun k h => by unfold STP at h ⊢; omega)
    · show FAr K n (STP 10) i c.length (rdEL K (rd K W so f) op i c)
      unfold rdEL
      split
      · next q =>
        have hn' : i < n := hK i (by omega)
        exact (ih 7 _ _ _ (by omega) (by omega) (pre_t (by omega))).b (by omega) fun j e l1 l2 l3 w => (ih 10 op j _ (by omega) l1 (by unfold PRE; unfold STP at w ⊢; omega)).w (by rw [len1]; omega) (fun k h => h)
      · next q => exact FAr.s hn (by omega) (by omega) (fun _ => by unfold PRE at hp; unfold STP at hp ⊢; omega)

