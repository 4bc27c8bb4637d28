/-! fact, heard, owed, offer keep what holds (wip/whole/genc4.py) -/
theorem stC_cg {a a' : Fl} {t : Nat} (e4 : a' 4 = a 4) (e1 : a' 1 = a 1) (eh : ∀ i, 190 ≤ i → a' i = a i) : stC a' t = stC a t := by
  unfold stC
  rw [e4, e1, eh _ (by omega)]
theorem stN_cg {a a' : Fl} {t p k : Nat} (e4 : a' 4 = a 4) (ep : ∀ i, 13 ≤ i → i < 38 → a' i = a i) (eh : ∀ i, 190 ≤ i → a' i = a i) (hp : p < 5) (hk : k < 5) : stN a' t p k = stN a t p k := by
  unfold stN
  rw [e4, ep _ (by omega) (by omega), eh _ (by omega)]
theorem IU.cg {a a' : Fl} (h : IU a) (h5 : ∀ t, t ≤ a 4 → stC a t ≤ 5) (e4 : a' 4 = a 4) (e1 : a' 1 = a 1) (ep : ∀ i, 13 ≤ i → i < 38 → a' i = a i) (eh : ∀ i, 190 ≤ i → a' i = a i) : IU a' := by
  intro t ht
  rw [e4] at ht
  obtain ⟨u1, u2⟩ := h t ht
  have q5 := h5 (t + 1) (by omega)
  refine ⟨by rw [stC_cg (t := t) e4 e1 eh, stC_cg (t := t + 1) e4 e1 eh]; exact u1, fun p p1 p2 => ?_⟩
  rw [stC_cg (t := t) e4 e1 eh] at p1
  rw [stC_cg (t := t + 1) e4 e1 eh] at p2
  have p5 : p < 5 := by omega
  rw [stN_cg (k := 0) e4 ep eh p5 (by omega), stN_cg (k := 1) e4 ep eh p5 (by omega), stN_cg (k := 2) e4 ep eh p5 (by omega), ep (13 + 5 * p + 3) (by omega) (by omega), ep (13 + 5 * p + 4) (by omega) (by omega)]
  exact u2 p p1 p2
theorem PA.s5 {tf : Nat → Int32} {a : Fl} (h : PA tf a) : ∀ t, t ≤ a 4 → stC a t ≤ 5 := by
  intro t ht
  unfold stC
  by_cases q : t = a 4
  · rw [if_pos q]; exact h.1.1.1.2.1
  · rw [if_neg q]; exact (h.2.2.2.2.2.1 t (by omega)).1.1
/-- what holds of a row still holds where the prophets, the past and the texts are as they were -/
theorem PA.cg {tf : Nat → Int32} {a a' : Fl} (h : PA tf a) (j : JY tf a') (e0 : a 0 ≤ a' 0) (e2 : a' 2 = a 2) (e4 : a' 4 = a 4) (e1 : a' 1 = a 1) (ep : ∀ i, 13 ≤ i → i < 38 → a' i = a i) (eh : ∀ i, 190 ≤ i → a' i = a i) (h1 : IOf a') (h2 : IH a') (h3 : IO7 a') : PA tf a' := by
  refine ⟨j, h.2.1.cg h.s5 e4 e1 ep eh, h1, h2, h3, fun t ht => ?_, fun t ht => h.2.2.2.2.2.2.1 t (by rw [e2] at ht; exact ht), fun t ht => h.2.2.2.2.2.2.2 t (by rw [e2] at ht; exact ht)⟩
  rw [e4] at ht
  have w := (h.2.2.2.2.2.1 t ht).mono e0
  rw [show (fun i => a' (190 + 154 * t + i)) = fun i => a (190 + 154 * t + i) from funext fun i => eh _ (by omega)]
  exact w
theorem IOf.cg {a a' : Fl} (h : IOf a) (e5 : a' 5 = a 5) (e0 : a 0 ≤ a' 0) (e : ∀ i, 126 ≤ i → i < 158 → a' i = a i) (h8 : a 5 ≤ 8) : IOf a' := by
  intro k hk
  rw [e5] at hk
  have q : 2 ^ a 0 ≤ 2 ^ a' 0 := Nat.pow_le_pow_right (by omega) e0
  obtain ⟨o1, o2, o3, o4, o5⟩ := h k hk
  rw [e (126 + 4 * k) (by omega) (by omega), e (126 + 4 * k + 1) (by omega) (by omega), e (126 + 4 * k + 2) (by omega) (by omega), e (126 + 4 * k + 3) (by omega) (by omega)]
  exact ⟨o1, o2, by omega, o4, o5⟩
theorem IH.cg {a a' : Fl} (h : IH a) (e6 : a' 6 = a 6) (e0 : a 0 ≤ a' 0) (e : ∀ i, 158 ≤ i → i < 174 → a' i = a i) (h8 : a 6 ≤ 8) : IH a' := by
  intro k hk
  rw [e6] at hk
  obtain ⟨o1, o2⟩ := h k hk
  rw [e (158 + 2 * k) (by omega) (by omega), e (158 + 2 * k + 1) (by omega) (by omega)]
  exact ⟨by omega, o2⟩
theorem IO7.cg {a a' : Fl} (h : IO7 a) (e7 : a' 7 = a 7) (e : ∀ i, 174 ≤ i → i < 190 → a' i = a i) (h8 : a 7 ≤ 8) : IO7 a' := by
  intro k hk
  rw [e7] at hk
  obtain ⟨o1, o2⟩ := h k hk
  rw [e (174 + 2 * k) (by omega) (by omega), e (174 + 2 * k + 1) (by omega) (by omega)]
  exact ⟨o1, o2⟩
theorem PA.fact {tf : Nat → Int32} {a : Fl} (h : PA tf a) (o c : Int32) : PA tf (mFact a o c).2 ∧ (mFact a o c).2 2 = a 2 := by
  have j := h.1.fact o c
  unfold mFact at j ⊢
  by_cases q : inr o 0 10 ∧ inr c 0 99 ∧ a 0 < 8
  · rw [if_pos q] at j ⊢
    have h0 : a 0 < 8 := q.2.2
    have e : ∀ i, i ≠ 0 → (i < 110 ∨ 126 ≤ i) → up (up (up a (110 + 2 * a 0) (nn o)) (110 + 2 * a 0 + 1) (nn c)) 0 (a 0 + 1) i = a i := fun i i0 i1 => by
      unfold up
      rw [if_neg i0, if_neg (by omega), if_neg (by omega)]
    have e0 : up (up (up a (110 + 2 * a 0) (nn o)) (110 + 2 * a 0 + 1) (nn c)) 0 (a 0 + 1) 0 = a 0 + 1 := by
      unfold up
      rw [if_pos rfl]
    have ic := h.1.1.1
    have l0 := Nat.le_trans (Nat.le_succ (a 0)) (Nat.le_of_eq e0.symm)
    exact ⟨h.cg j l0 (e 2 (by omega) (by omega)) (e 4 (by omega) (by omega)) (e 1 (by omega) (by omega)) (fun i i1 i2 => e i (by omega) (by omega)) (fun i i1 => e i (by omega) (by omega)) (h.2.2.1.cg (e 5 (by omega) (by omega)) l0 (fun i i1 i2 => e i (by omega) (by omega)) ic.2.2.2.2.2.1) (h.2.2.2.1.cg (e 6 (by omega) (by omega)) l0 (fun i i1 i2 => e i (by omega) (by omega)) ic.2.2.2.2.2.2.1) (h.2.2.2.2.1.cg (e 7 (by omega) (by omega)) (fun i i1 i2 => e i (by omega) (by omega)) ic.2.2.2.2.2.2.2.1), e 2 (by omega) (by omega)⟩
  · rw [if_neg q]; exact ⟨h, rfl⟩

theorem k_fact {L P0 N S c : Nat} {xs : Nat → Int32} {h : Hp} (i : INV L xs P0 c h) (hN : 501 + 28 * c ≤ N) (hS : P0 + 7700 * c ≤ S) (u v : Int32) : PrI L xs (INV L xs P0) N S c mX8_fact mX9_fact [.int u, .int v] h := by
  obtain ⟨s, hr, cl, p, sr, n5, nc, sc⟩ := i
  have pa := p.1.fact u v
  obtain ⟨h1, s1, m, f⟩ := C_fact (d := 139) cl.1.1.1 cl.1.1.2.1 cl.1.1.2.2.2.2.1 cl.1.2 p.c.1 u v (Nat.le_of_ble_eq_true rfl)
  exact pr_Z s1 rok_i (cl.1.of f m pa.1.1.1.1.2.2.2.2.1) f.z hr cl p pa.1 pa.2 sr n5 nc sc (by omega) (by omega) (fun q => R_fact q p.c.1 u v (Nat.le_of_ble_eq_true rfl))

