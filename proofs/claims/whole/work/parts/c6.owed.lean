/-! owed, by keep what holds (wip/whole/genc6.py) -/
theorem PA.owed {tf : Nat → Int32} {a : Fl} (h : PA tf a) (k u : Int32) : PA tf (mOwed a k u).2 ∧ (mOwed a k u).2 2 = a 2 := by
  have ic := h.1.1.1
  unfold mOwed
  by_cases q : k = -1
  · rw [if_pos q]
    show PA tf (up a 7 0) ∧ up a 7 0 2 = a 2
    have e : ∀ i, i ≠ 7 → up a 7 0 i = a i := fun i hi => by unfold up; rw [if_neg hi]
    have e7 : up a 7 0 7 = 0 := by unfold up; rw [if_pos rfl]
    exact h.rows (fun i i1 i2 i3 i4 => e i i3) ⟨by rw [e 5 (by omega)]; exact ic.2.2.2.2.2.1, by rw [e 6 (by omega)]; exact ic.2.2.2.2.2.2.1, by rw [e7]; omega⟩ (h.2.2.1.cg (e 5 (by omega)) (Nat.le_of_eq (e 0 (by omega)).symm) (fun i i1 i2 => e i (by omega)) ic.2.2.2.2.2.1) (h.2.2.2.1.cg (e 6 (by omega)) (Nat.le_of_eq (e 0 (by omega)).symm) (fun i i1 i2 => e i (by omega)) ic.2.2.2.2.2.2.1) (fun k hk => by rw [e7] at hk; omega)
  rw [if_neg q]
  by_cases w : vin k (a 11) ∧ inr u 0 9999 ∧ a 7 < 8
  · rw [if_pos w]
    obtain ⟨w1, w2, w3⟩ := w
    have a11 : a 11 ≤ 12 := ic.2.2.2.2.2.2.2.2.2.2.2.1
    have nk := (vin_nn (by omega) w1).1
    have nu := (inr_nn (n := 9999) (by omega) w2).1
    obtain ⟨a', ea⟩ : ∃ x, x = up (up (up a (174 + 2 * a 7) (nn k)) (174 + 2 * a 7 + 1) (nn u)) 7 (a 7 + 1) := ⟨_, rfl⟩
    show PA tf (up (up (up a (174 + 2 * a 7) (nn k)) (174 + 2 * a 7 + 1) (nn u)) 7 (a 7 + 1)) ∧ (up (up (up a (174 + 2 * a 7) (nn k)) (174 + 2 * a 7 + 1) (nn u)) 7 (a 7 + 1)) 2 = a 2
    rw [← ea]
    have e : ∀ i, i ≠ 7 → i ≠ 174 + 2 * a 7 → i ≠ 174 + 2 * a 7 + 1 → a' i = a i := fun i i1 i2 i3 => by rw [ea]; unfold up; rw [if_neg i1, if_neg i3, if_neg i2]
    have e7 : a' 7 = a 7 + 1 := by rw [ea]; unfold up; rw [if_pos rfl]
    have ex : a' (174 + 2 * a 7) = nn k := by rw [ea]; unfold up; rw [if_neg (by omega), if_neg (by omega), if_pos rfl]
    have ey : a' (174 + 2 * a 7 + 1) = nn u := by rw [ea]; unfold up; rw [if_neg (by omega), if_pos rfl]
    have e0 : a' 0 = a 0 := e 0 (by omega) (by omega) (by omega)
    refine h.rows (fun i i1 i2 i3 i4 => e i i3 (by omega) (by omega)) ⟨by rw [e 5 (by omega) (by omega) (by omega)]; exact ic.2.2.2.2.2.1, by rw [e 6 (by omega) (by omega) (by omega)]; exact ic.2.2.2.2.2.2.1, by omega⟩ (h.2.2.1.cg (e 5 (by omega) (by omega) (by omega)) (Nat.le_of_eq e0.symm) (fun i i1 i2 => e i (by omega) (by omega) (by omega)) ic.2.2.2.2.2.1) (h.2.2.2.1.cg (e 6 (by omega) (by omega) (by omega)) (Nat.le_of_eq e0.symm) (fun i i1 i2 => e i (by omega) (by omega) (by omega)) ic.2.2.2.2.2.2.1) (fun j hj => ?_)
    rw [e7] at hj
    by_cases k6 : j = a 7
    · subst k6
      rw [ex, ey]
      exact ⟨by omega, nu⟩
    · rw [e (174 + 2 * j) (by omega) (by omega) (by omega), e (174 + 2 * j + 1) (by omega) (by omega) (by omega)]
      exact h.2.2.2.2.1 j (by omega)
  · rw [if_neg w]
    exact ⟨h, rfl⟩

theorem k_owed {L P0 N S c : Nat} {xs : Nat → Int32} {h : Hp} (i : INV L xs P0 c h) (hN : 501 + 28 * c ≤ N) (hS : P0 + 7700 * c ≤ S) (u v : Int32) : PrI L xs (INV L xs P0) N S c mX8_owed mX9_owed [.int u, .int v] h := by
  obtain ⟨s, hr, cl, p, sr, n5, nc, sc⟩ := i
  have pa := p.1.owed u v
  obtain ⟨h1, s1, m, f⟩ := C_owed (d := 139) cl.1.1.1 cl.1.1.2.1 cl.1.1.2.2.2.2.1 cl.1.2 p.c.1 u v (Nat.le_of_ble_eq_true rfl)
  exact pr_Z s1 rok_i (cl.1.of f m pa.1.1.1.1.2.2.2.2.1) f.z hr cl p pa.1 pa.2 sr n5 nc sc (by omega) (by omega) (fun q => R_owed q p.c.1 u v (Nat.le_of_ble_eq_true rfl))

