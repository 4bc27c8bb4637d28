/-! heard, owed keep what holds (wip/whole/genc5.py) -/
theorem PA.rows {tf : Nat → Int32} {a a' : Fl} (h : PA tf a) (e : ∀ i, i ≠ 5 → i ≠ 6 → i ≠ 7 → (i < 126 ∨ 190 ≤ i) → a' i = a i) (c : a' 5 ≤ 8 ∧ a' 6 ≤ 8 ∧ a' 7 ≤ 8) (h1 : IOf a') (h2 : IH a') (h3 : IO7 a') : PA tf a' ∧ a' 2 = a 2 := by
  have ic := h.1.1.1
  have e0 : a' 0 = a 0 := e 0 (by omega) (by omega) (by omega) (by omega)
  have e1 : a' 1 = a 1 := e 1 (by omega) (by omega) (by omega) (by omega)
  have e2 : a' 2 = a 2 := e 2 (by omega) (by omega) (by omega) (by omega)
  have e4 : a' 4 = a 4 := e 4 (by omega) (by omega) (by omega) (by omega)
  have fc : IFc a' := fun f hf => by
    rw [e0] at hf
    have := ic.1
    rw [e (110 + 2 * f) (by omega) (by omega) (by omega) (by omega), e (110 + 2 * f + 1) (by omega) (by omega) (by omega) (by omega)]
    exact h.1.1.2.2.1 f hf
  have jd : JD tf a' := h.1.1.cg (fun i i1 i2 i3 i4 i5 i6 => e i i3 i4 i5 (by omega)) ⟨by rw [e4]; exact ic.2.2.2.2.1, c⟩ ⟨by rw [e0]; exact Nat.le_refl _, by rw [e0]; exact ic.1⟩ fc
  have it : ITd a' := fun p hp => by
    rw [e1] at hp
    have := ic.2.1
    rw [e (13 + 5 * p + 3) (by omega) (by omega) (by omega) (by omega), e (13 + 5 * p + 4) (by omega) (by omega) (by omega) (by omega)]
    exact h.1.2 p hp
  exact ⟨h.cg ⟨jd, it⟩ (by rw [e0]; exact Nat.le_refl _) e2 e4 e1 (fun i i1 i2 => e i (by omega) (by omega) (by omega) (by omega)) (fun i i1 => e i (by omega) (by omega) (by omega) (by omega)) h1 h2 h3, e2⟩
theorem PA.heard {tf : Nat → Int32} {a : Fl} (h : PA tf a) (f : Int32) {b : Nat} (hb : b = 0 ∨ b = 1) : PA tf (mHeard a f b).2 ∧ (mHeard a f b).2 2 = a 2 := by
  have ic := h.1.1.1
  unfold mHeard
  by_cases q : f = -1
  · rw [if_pos q]
    show PA tf (up a 6 0) ∧ up a 6 0 2 = a 2
    have e : ∀ i, i ≠ 6 → up a 6 0 i = a i := fun i hi => by unfold up; rw [if_neg hi]
    have e6 : up a 6 0 6 = 0 := by unfold up; rw [if_pos rfl]
    refine h.rows (fun i i1 i2 i3 i4 => e i i2) ⟨by rw [e 5 (by omega)]; exact ic.2.2.2.2.2.1, by rw [e6]; omega, by rw [e 7 (by omega)]; exact ic.2.2.2.2.2.2.2.1⟩ (h.2.2.1.cg (e 5 (by omega)) (Nat.le_of_eq (e 0 (by omega)).symm) (fun i i1 i2 => e i (by omega)) ic.2.2.2.2.2.1) (fun k hk => by rw [e6] at hk; omega) (h.2.2.2.2.1.cg (e 7 (by omega)) (fun i i1 i2 => e i (by omega)) ic.2.2.2.2.2.2.2.1)
  rw [if_neg q]
  by_cases w : vin f (a 0) ∧ a 6 < 8
  · rw [if_pos w]
    obtain ⟨w1, w2⟩ := w
    have nf := (vin_nn (by have := ic.1; omega) w1).1
    obtain ⟨a', ea⟩ : ∃ x, x = up (up (up a (158 + 2 * a 6) (nn f)) (158 + 2 * a 6 + 1) b) 6 (a 6 + 1) := ⟨_, rfl⟩
    show PA tf (up (up (up a (158 + 2 * a 6) (nn f)) (158 + 2 * a 6 + 1) b) 6 (a 6 + 1)) ∧ (up (up (up a (158 + 2 * a 6) (nn f)) (158 + 2 * a 6 + 1) b) 6 (a 6 + 1)) 2 = a 2
    rw [← ea]
    have e : ∀ i, i ≠ 6 → i ≠ 158 + 2 * a 6 → i ≠ 158 + 2 * a 6 + 1 → a' i = a i := fun i i1 i2 i3 => by rw [ea]; unfold up; rw [if_neg i1, if_neg i3, if_neg i2]
    have e6 : a' 6 = a 6 + 1 := by rw [ea]; unfold up; rw [if_pos rfl]
    have ex : a' (158 + 2 * a 6) = nn f := by rw [ea]; unfold up; rw [if_neg (by omega), if_neg (by omega), if_pos rfl]
    have ey : a' (158 + 2 * a 6 + 1) = b := by rw [ea]; unfold up; rw [if_neg (by omega), if_pos rfl]
    have e0 : a' 0 = a 0 := e 0 (by omega) (by omega) (by omega)
    refine h.rows (fun i i1 i2 i3 i4 => e i i2 (by omega) (by omega)) ⟨by rw [e 5 (by omega) (by omega) (by omega)]; exact ic.2.2.2.2.2.1, by omega, by rw [e 7 (by omega) (by omega) (by omega)]; exact ic.2.2.2.2.2.2.2.1⟩ (h.2.2.1.cg (e 5 (by omega) (by omega) (by omega)) (Nat.le_of_eq e0.symm) (fun i i1 i2 => e i (by omega) (by omega) (by omega)) ic.2.2.2.2.2.1) (fun k hk => ?_) (h.2.2.2.2.1.cg (e 7 (by omega) (by omega) (by omega)) (fun i i1 i2 => e i (by omega) (by omega) (by omega)) ic.2.2.2.2.2.2.2.1)
    rw [e6] at hk
    by_cases k6 : k = a 6
    · subst k6
      rw [ex, ey, e0]
      exact ⟨nf, by omega⟩
    · rw [e (158 + 2 * k) (by omega) (by omega) (by omega), e (158 + 2 * k + 1) (by omega) (by omega) (by omega), e0]
      exact h.2.2.2.1 k (by omega)
  · rw [if_neg w]
    exact ⟨h, rfl⟩

theorem k_heard {L P0 N S c : Nat} {xs : Nat → Int32} {h : Hp} (i : INV L xs P0 c h) (hN : 501 + 28 * c ≤ N) (hS : P0 + 7700 * c ≤ S) (u v : Int32) : PrI L xs (INV L xs P0) N S c mX8_heard mX9_heard [.int u, .int (nI (b01 v))] h := by
  obtain ⟨s, hr, cl, p, sr, n5, nc, sc⟩ := i
  have pa := p.1.heard u (b01_01 v)
  obtain ⟨h1, s1, m, f⟩ := C_heard (d := 139) cl.1.1.1 cl.1.1.2.1 cl.1.1.2.2.2.2.1 cl.1.2 p.c.1 u (b01_01 v) (Nat.le_of_ble_eq_true rfl)
  exact pr_Z s1 rok_i (cl.1.of f m pa.1.1.1.1.2.2.2.2.1) f.z hr cl p pa.1 pa.2 sr n5 nc sc (by omega) (by omega) (fun q => R_heard q p.c.1 u (b01_01 v) (Nat.le_of_ble_eq_true rfl))

