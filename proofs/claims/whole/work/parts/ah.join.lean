theorem scn_hit {tf : Nat → Int32} {t s : Nat} : ∀ r k j, k ≤ j → j < k + r → tf (753 * t + 1 + 6 * j) = nI s → scn tf t s r k ≤ j := by
  intro r
  induction r with
  | zero => intro k j h1 h2; omega
  | succ r ih =>
    intro k j h1 h2 e
    by_cases hq : tf (753 * t + 1 + 6 * k) = nI s
    · rw [show scn tf t s (r + 1) k = k from if_pos hq]; exact h1
    · rw [show scn tf t s (r + 1) k = scn tf t s r (k + 1) from if_neg hq]
      have : k ≠ j := fun w => hq (by rw [w]; exact e)
      exact ih (k + 1) j (by omega) (by omega) e

/-! a new text: both tell the same (wip/whole/genah.py) -/
section NEWT
variable {tf : Nat → Int32} {t : Nat} {L : List Cl}
theorem txm_cnt (x : TXm tf t L) (hl : L.length ≤ 24) : cnt tf t = L.length := by
  unfold cnt
  rw [x.1]
  exact nn_nI (by omega)
theorem get_lt {k : Nat} (h : k < L.length) : ∃ q, L[k]? = some q := ⟨L[k], List.getElem?_eq_getElem h⟩
theorem wfq_n {q : Cl} (w : WFq q) : q.1 < 2 ^ 31 := by have := w.1; omega
/-- a law's clause in the row -/
theorem txm_law (x : TXm tf t L) (hl : L.length ≤ 24) (hw : wof L ≤ 300) (wf : ∀ p ∈ L, WFq p) (z2 : ∀ p ∈ L, ∀ y ∈ p.2.2, y.2 ≤ 9999) {k : Nat} {q : Cl} (hk : L[k]? = some q) (h2 : q.1 ≤ 2) : lLo tf t k = wof (L.take k) ∧ lM tf t k = q.2.2.length ∧ (∀ i y, q.2.2[i]? = some y → lO tf t k i = y.1 ∧ lV tf t k i = y.2 ∧ tf (753 * t + 145 + 2 * (lLo tf t k + i)) = nI y.1 ∧ tf (753 * t + 145 + 2 * (lLo tf t k + i) + 1) = nI y.2) := by
  obtain ⟨a1, a2, a3⟩ := x.2 k q hk
  obtain ⟨b1, b2, b3⟩ := a3 h2
  have wt := wof_take L k q hk
  have wq := (wf q (List.mem_of_getElem? hk)).2.1 h2
  have b4 := z2 q (List.mem_of_getElem? hk)
  have e1 : lLo tf t k = wof (L.take k) := by
    unfold lLo
    rw [b1]
    exact nn_nI (by omega)
  refine ⟨e1, ?_, fun i y hy => ?_⟩
  · unfold lM
    rw [b2, e1, nn_nI (by omega)]
    omega
  · obtain ⟨c1, c2⟩ := b3 i y hy
    have ok := wq.1 y (List.mem_of_getElem? hy)
    have y1 : y.1 < 2 ^ 31 := by unfold okI at ok; omega
    have y2 : y.2 < 2 ^ 31 := by have := b4 y (List.mem_of_getElem? hy); unfold okI at ok; omega
    refine ⟨?_, ?_, by rw [e1]; exact c1, by rw [e1]; exact c2⟩
    · unfold lO
      rw [e1, c1]
      exact nn_nI y1
    · unfold lV
      rw [e1, c2]
      exact nn_nI y2
theorem txm_at (x : TXm tf t L) (wf : ∀ p ∈ L, WFq p) {k s : Nat} {q : Cl} (hk : L[k]? = some q) (hs : s ≤ 9) (e : tf (753 * t + 1 + 6 * k) = nI s) : s = q.1 := by
  have w := (wf q (List.mem_of_getElem? hk)).1
  rw [(x.2 k q hk).1] at e
  exact ((nI_eq (by omega) (by omega)).mp e).symm
theorem list_some {α : Type} {l : List α} {i : Nat} (h : i < l.length) : ∃ y, l[i]? = some y := ⟨l[i], List.getElem?_eq_getElem h⟩
theorem txm_v (x : TXm tf t L) (hl : L.length ≤ 24) (hw : wof L ≤ 300) (wf : ∀ p ∈ L, WFq p) (z2 : ∀ p ∈ L, ∀ y ∈ p.2.2, y.2 ≤ 9999) : TXV tf t := by
  have ec := txm_cnt x hl
  refine ⟨by omega, by rw [ec]; exact x.1, fun k hk => ?_, fun k s hk hs e => ?_⟩
  · obtain ⟨q, hq⟩ := get_lt (L := L) (by omega : k < L.length)
    exact ⟨q.1, (wf q (List.mem_of_getElem? hq)).1, (x.2 k q hq).1⟩
  · obtain ⟨q, hq⟩ := get_lt (L := L) (by omega : k < L.length)
    have es := txm_at x wf hq (by omega) e
    subst es
    obtain ⟨e1, e2, e3⟩ := txm_law x hl hw wf z2 hq hs
    obtain ⟨b1, b2, b3⟩ := (x.2 k q hq).2.2 hs
    have wq := wf q (List.mem_of_getElem? hq)
    have lq := wq.2.1 hs
    have wt := wof_take L k q hq
    have l1 := lw_len wq hs
    refine ⟨⟨by omega, by omega, by omega⟩, by rw [e1]; exact b1, by rw [e1, e2]; exact b2, fun i hi => ?_, ?_⟩
    · obtain ⟨y, hy⟩ := list_some (l := q.2.2) (i := i) (by omega)
      obtain ⟨f1, f2, f3, f4⟩ := e3 i y hy
      rw [f1, f2]
      exact ⟨f3, f4, lq.1 y (List.mem_of_getElem? hy)⟩
    · obtain ⟨ty, t0, t1, t2⟩ := lq.2.ty
      refine ⟨ty, t0, fun i hi => ?_, by rw [e2]; exact t2⟩
      obtain ⟨y, hy⟩ := list_some (l := q.2.2) (i := i) (by omega)
      rw [(e3 i y hy).1]
      exact t1 i y hy
theorem txm_b (x : TXm tf t L) (hl : L.length ≤ 24) (wf : ∀ p ∈ L, WFq p) : TXB tf t := by
  have ec := txm_cnt x hl
  intro k hk e
  obtain ⟨q, hq⟩ := get_lt (L := L) (by omega : k < L.length)
  have es := txm_at x wf hq (by omega) e
  have wq := wf q (List.mem_of_getElem? hq)
  have ln : q.2.1.length = 1 := by rw [wq.2.2.2.1, ← es]; rfl
  obtain ⟨v, hv⟩ := list_some (l := q.2.1) (i := 0) (by omega)
  exact ⟨v, wq.2.2.2.2 es.symm v hv, (x.2 k q hq).2.1 0 v hv⟩
/-- the class's text tells it too -/
theorem txm_c {h : Hp} {x0 : Nat} (x : TXm tf t L) (hl : L.length ≤ 24) (hw : wof L ≤ 300) (wf : ∀ p ∈ L, WFq p) (z2 : ∀ p ∈ L, ∀ y ∈ p.2.2, y.2 ≤ 9999) (d : DSh h x0 L.length L) (dl : DLw h x0 L) : TXC h tf t x0 := by
  have ec := txm_cnt x hl
  obtain ⟨d1, d2, d3, d4, d5, d6, d7⟩ := d
  refine ⟨d1, d2, ⟨d3, d4, by rw [ec]; exact d5, fun k s hk e hs => ?_⟩, fun s hs => ?_⟩
  · obtain ⟨q, hq⟩ := get_lt (L := L) (by omega : k < L.length)
    have es := txm_at x wf hq hs e
    subst es
    have wq := wf q (List.mem_of_getElem? hq)
    obtain ⟨a1, a2⟩ := d7 k q hq
    refine ⟨a1, fun c c1 c2 => ?_⟩
    obtain ⟨v, hv⟩ := list_some (l := q.2.1) (i := c - 1) (by rw [wq.2.2.2.1]; omega)
    have b1 := a2 (c - 1) v hv
    have b2 := (x.2 k q hq).2.1 (c - 1) v hv
    rw [show 1 + (c - 1) = c by omega] at b1
    rw [show 753 * t + 1 + 6 * k + 1 + (c - 1) = 753 * t + 1 + 6 * k + c by omega] at b2
    rw [b1, b2]
  · obtain ⟨c, c1, c2⟩ := dl s hs
    refine ⟨c, c1, ?_⟩
    rcases c2 with ⟨a1, a2, a3, a4⟩ | ⟨a1, a2, a3⟩
    · left
      have lt : fK tf t s < cnt tf t := by
        obtain ⟨p, p1, p2⟩ := hasS_yes a1
        obtain ⟨k, hk, ek⟩ := List.mem_iff_getElem.mp p1
        have hk2 : L[k]? = some p := by rw [List.getElem?_eq_getElem hk, ek]
        have e := (x.2 k p hk2).1
        rw [p2] at e
        have := scn_hit (tf := tf) (t := t) (s := s) (cnt tf t) 0 k (Nat.zero_le _) (by omega) e
        unfold fK
        omega
      obtain ⟨q, hq⟩ := get_lt (L := L) (k := fK tf t s) (by omega)
      have es := txm_at x wf hq (by omega) (fK_sort lt)
      obtain ⟨e1, e2, e3⟩ := txm_law x hl hw wf z2 hq (by omega)
      have wq := wf q (List.mem_of_getElem? hq)
      have lq := wq.2.1 (by omega)
      have l1 := lw_len wq (by omega)
      have wt := wof_take L _ q hq
      obtain ⟨b1, b2⟩ := a4 q (List.mem_of_getElem? hq) es.symm
      refine ⟨lt, a2, ?_⟩
      rw [e2]
      refine ⟨b1, by omega, by omega, fun i hi => ?_, fun i hi => ?_⟩
      · obtain ⟨y, hy⟩ := list_some (l := q.2.2) hi
        rw [(e3 i y hy).1, (e3 i y hy).2.1]
        exact b2 i y hy
      · obtain ⟨y, hy⟩ := list_some (l := q.2.2) hi
        rw [(e3 i y hy).1, (e3 i y hy).2.1]
        have := lq.1 y (List.mem_of_getElem? hy)
        rw [← es] at this
        exact this
    · right
      refine ⟨fun lt => ?_, by rw [a2]; exact a3⟩
      obtain ⟨q, hq⟩ := get_lt (L := L) (k := fK tf t s) (by omega)
      have es := txm_at x wf hq (by omega) (fK_sort lt)
      exact hasS_no a1 (List.mem_of_getElem? hq) es.symm
end NEWT

/-- numbers in a code are small -/
def vS (c : Cd) : Prop := ∀ y ∈ c, y.2 ≤ 9999
def RV (c : Cd) (x : RO) : Prop := vS c → ∀ z j e, x = some (z, j, e) → vS e
theorem RV.s {c : Cd} {z j : Nat} : RV c (some (z, j, c)) := by
  intro h z' j' e' q
  cases q
  exact h
theorem vS.add {c : Cd} {o v : Nat} (h : vS c) (hv : v ≤ 9999) : vS (c ++ [(o, v)]) := by
  intro y hy
  rcases List.mem_append.mp hy with w | w
  · exact h y w
  · rw [List.mem_singleton.mp w]; exact hv
theorem RV.i {c : Cd} {z j o v : Nat} (hv : v ≤ 9999) : RV c (some (z, j, c ++ [(o, v)])) := by
  intro h z' j' e' q
  cases q
  exact h.add hv
theorem RV.b {c : Cd} {x : RO} {k : Nat → Cd → RO} (h : RV c x) (hk : ∀ j e, RV e (k j e)) : RV c (bnd x k) := by
  intro hc z j e q
  cases x with
  | none => cases q
  | some y =>
    obtain ⟨z1, j1, e1⟩ := y
    have h1 := h hc z1 j1 e1 rfl
    by_cases hz : z1 = 0
    · subst hz
      rw [bnd_0] at q
      exact hk _ _ h1 _ _ _ q
    · rw [bnd_z hz] at q
      cases q
      exact h1
theorem RV.x {K : Nat → Nat} {w j : Nat} {e : Cd} {k : Nat → Cd → RO} (h : RV e (k (j + 1) e)) : RV e (exq K w j e k) := by
  unfold exq
  split
  · exact h
  · exact RV.s
theorem RV.k {e : Cd} {o v : Nat} {x : RO} (hv : v ≤ 9999) (h : RV (e ++ [(o, v)]) x) : RV e x := fun hc => h (hc.add hv)
theorem rd_v {K W : Nat → Nat} {so : Nat} : ∀ f tag op i c, RV c (rd K W so f tag op i c) := by
  intro f
  induction f with
  | zero => intro tag op i c _ z j e q; cases q
  | succ f ih =>
    intro tag op i c
    show RV c (rdS K W so (rd K W so f) tag op i c)
    have ip : ∀ x j e, RV e (put x j e) := fun x j e => RV.i (by omega)
    unfold rdS
    split
    · unfold rdOne
      split
      · split
        · exact RV.s
        · next q => exact RV.i (by omega)
      · split
        · next q =>
          split
          · exact RV.i (by omega)
          · exact RV.s
        · split
          · split
            · exact RV.s
            · unfold rdIn
              split
              · exact (ih _ _ _ _).b fun j e => RV.x RV.s
              · split
                · exact (ih _ _ _ _).b fun j e => ip _ _ _
                · split
                  · exact (ih _ _ _ _).b fun j e => ip _ _ _
                  · split
                    · exact (ih _ _ _ _).b fun j e => RV.x ((ih _ _ _ _).b fun j e => ip _ _ _)
                    · exact (ih _ _ _ _).b fun j e => RV.x ((ih _ _ _ _).b fun j e => RV.x ((ih _ _ _ _).b fun j e => RV.x (ip _ _ _)))
          · exact RV.s
    · exact (ih _ _ _ _).b fun j e => ih _ _ _ _
    · unfold rdPL
      split
      · exact (ih _ _ _ _).b fun j e => RV.k (by omega) (ih _ _ _ _)
      · exact RV.s
    · exact (ih _ _ _ _).b fun j e => ih _ _ _ _
    · unfold rdSL
      split
      · exact (ih _ _ _ _).b fun j e => RV.k (by omega) (ih _ _ _ _)
      · exact RV.s
    · unfold rdCm
      refine (ih _ _ _ _).b fun j e => ?_
      split
      · exact (ih _ _ _ _).b fun j e => ip _ _ _
      · exact RV.s
    · unfold rdAs
      split
      · split
        · exact RV.s
        · exact (ih _ _ _ _).b fun j e => ip _ _ _
      · exact ih _ _ _ _
    · exact (ih _ _ _ _).b fun j e => ih _ _ _ _
    · unfold rdBL
      split
      · exact (ih _ _ _ _).b fun j e => RV.k (by omega) (ih _ _ _ _)
      · exact RV.s
    · exact (ih _ _ _ _).b fun j e => ih _ _ _ _
    · unfold rdEL
      split
      · exact (ih _ _ _ _).b fun j e => RV.k (by omega) (ih _ _ _ _)
      · exact RV.s
theorem rdB_v {K W : Nat → Nat} {s i : Nat} : vS (rdB K W s i).2.2.2 := by
  have n0 : vS [] := fun y hy => absurd hy List.not_mem_nil
  unfold rdB
  split
  · unfold rdBl
    split
    · next z j e er => exact rd_v _ _ _ _ _ n0 _ _ _ er
    · exact n0
  · split
    · exact n0
    · exact n0
theorem rdT_v {K W : Nat → Nat} : ∀ f (L : List Cl) i, (∀ p ∈ L, vS p.2.2) → ∀ p ∈ (rdT K W f L i).2.2, vS p.2.2 := by
  intro f
  induction f with
  | zero => intro L i h; exact h
  | succ f ih =>
    intro L i h
    have hc : ∀ p ∈ (rdC K W L i).2.2, vS p.2.2 := by
      unfold rdC
      split
      · split
        · exact h
        · split
          · exact h
          · unfold rdC2
            split
            · split
              · intro p hp
                rcases List.mem_append.mp hp with w | w
                · exact h p w
                · rw [List.mem_singleton.mp w]
                  exact rdB_v
              · exact h
            · exact h
      · exact h
    rw [show rdT K W (f + 1) L i = if K i = 54 then (0, i, L) else rdT2 (rdT K W f) (rdC K W L i) from rfl]
    split
    · exact h
    · unfold rdT2
      split
      · exact ih _ _ hc
      · exact hc

