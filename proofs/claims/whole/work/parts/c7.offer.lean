/-! offer, by keep what holds (wip/whole/genc7.py) -/
theorem one_nn {f : Int32} {n : Nat} (hn : n < 2 ^ 31) (h : 1 ≤ f ∧ f < nI n) : 0 < nn f ∧ nn f < n := by
  have v : vin f n := ⟨Int32.le_trans (by decide) h.1, h.2⟩
  obtain ⟨v1, v2⟩ := vin_nn hn v
  refine ⟨?_, v1⟩
  have h1 := h.1
  rw [v2, show (1 : Int32) = nI 1 from rfl, Int32.le_iff_toInt_le, nI_toInt (by omega), nI_toInt (by omega)] at h1
  omega
theorem PA.offer {tf : Nat → Int32} {a : Fl} (h : PA tf a) {b : Nat} (hb : b = 0 ∨ b = 1) (f e u : Int32) : PA tf (mOffer a b f e u).2 ∧ (mOffer a b f e u).2 2 = a 2 := by
  have ic := h.1.1.1
  unfold mOffer
  by_cases q : e = -1
  · rw [if_pos q]
    show PA tf (up a 5 0) ∧ up a 5 0 2 = a 2
    have e : ∀ i, i ≠ 5 → up a 5 0 i = a i := fun i hi => by unfold up; rw [if_neg hi]
    have e5 : up a 5 0 5 = 0 := by unfold up; rw [if_pos rfl]
    exact h.rows (fun i i1 i2 i3 i4 => e i i1) ⟨by rw [e5]; omega, by rw [e 6 (by omega)]; exact ic.2.2.2.2.2.2.1, by rw [e 7 (by omega)]; exact ic.2.2.2.2.2.2.2.1⟩ (fun k hk => by rw [e5] at hk; omega) (h.2.2.2.1.cg (e 6 (by omega)) (Nat.le_of_eq (e 0 (by omega)).symm) (fun i i1 i2 => e i (by omega)) ic.2.2.2.2.2.2.1) (h.2.2.2.2.1.cg (e 7 (by omega)) (fun i i1 i2 => e i (by omega)) ic.2.2.2.2.2.2.2.1)
  rw [if_neg q]
  by_cases w : (1 ≤ f ∧ f < nI (2 ^ a 0)) ∧ inr e 0 999 ∧ inr u 0 999 ∧ a 5 < 8
  · rw [if_pos w]
    obtain ⟨w1, w2, w3, w4⟩ := w
    have p8 : 2 ^ a 0 ≤ 2 ^ 8 := Nat.pow_le_pow_right (by omega) ic.1
    have nf := one_nn (by omega) w1
    have ne := (inr_nn (n := 999) (by omega) w2).1
    have nu := (inr_nn (n := 999) (by omega) w3).1
    obtain ⟨a', ea⟩ : ∃ x, x = up (up (up (up (up a (126 + 4 * a 5) b) (126 + 4 * a 5 + 1) (nn f)) (126 + 4 * a 5 + 2) (nn e)) (126 + 4 * a 5 + 3) (nn u)) 5 (a 5 + 1) := ⟨_, rfl⟩
    show PA tf (up (up (up (up (up a (126 + 4 * a 5) b) (126 + 4 * a 5 + 1) (nn f)) (126 + 4 * a 5 + 2) (nn e)) (126 + 4 * a 5 + 3) (nn u)) 5 (a 5 + 1)) ∧ (up (up (up (up (up a (126 + 4 * a 5) b) (126 + 4 * a 5 + 1) (nn f)) (126 + 4 * a 5 + 2) (nn e)) (126 + 4 * a 5 + 3) (nn u)) 5 (a 5 + 1)) 2 = a 2
    rw [← ea]
    have x2 : a' (126 + 4 * a 5 + 2) = nn e := by rw [ea]; unfold up; rw [if_neg (by omega), if_neg (by omega), if_pos rfl]
    have e : ∀ i, i ≠ 5 → (i < 126 + 4 * a 5 ∨ 126 + 4 * a 5 + 3 < i) → a' i = a i := fun i i1 i2 => by rw [ea]; unfold up; rw [if_neg i1, if_neg (by omega), if_neg (by omega), if_neg (by omega), if_neg (by omega)]
    have e5 : a' 5 = a 5 + 1 := by rw [ea]; unfold up; rw [if_pos rfl]
    have x0 : a' (126 + 4 * a 5) = b := by rw [ea]; unfold up; rw [if_neg (by omega), if_neg (by omega), if_neg (by omega), if_neg (by omega), if_pos rfl]
    have x1 : a' (126 + 4 * a 5 + 1) = nn f := by rw [ea]; unfold up; rw [if_neg (by omega), if_neg (by omega), if_neg (by omega), if_pos rfl]
    have x3 : a' (126 + 4 * a 5 + 3) = nn u := by rw [ea]; unfold up; rw [if_neg (by omega), if_pos rfl]
    have e0 : a' 0 = a 0 := e 0 (by omega) (by omega)
    refine h.rows (fun i i1 i2 i3 i4 => e i i1 (by omega)) ⟨by omega, by rw [e 6 (by omega) (by omega)]; exact ic.2.2.2.2.2.2.1, by rw [e 7 (by omega) (by omega)]; exact ic.2.2.2.2.2.2.2.1⟩ (fun j hj => ?_) (h.2.2.2.1.cg (e 6 (by omega) (by omega)) (Nat.le_of_eq e0.symm) (fun i i1 i2 => e i (by omega) (by omega)) ic.2.2.2.2.2.2.1) (h.2.2.2.2.1.cg (e 7 (by omega) (by omega)) (fun i i1 i2 => e i (by omega) (by omega)) ic.2.2.2.2.2.2.2.1)
    rw [e5] at hj
    by_cases k6 : j = a 5
    · subst k6
      rw [x0, x1, x2, x3, e0]
      exact ⟨by omega, nf.1, nf.2, ne, nu⟩
    · rw [e (126 + 4 * j) (by omega) (by omega), e (126 + 4 * j + 1) (by omega) (by omega), e (126 + 4 * j + 2) (by omega) (by omega), e (126 + 4 * j + 3) (by omega) (by omega), e0]
      exact h.2.2.1 j (by omega)
  · rw [if_neg w]
    exact ⟨h, rfl⟩

theorem k_offer {L P0 N S c : Nat} {xs : Nat → Int32} {h : Hp} (i : INV L xs P0 c h) (hN : 501 + 28 * c ≤ N) (hS : P0 + 7700 * c ≤ S) (u v w y : Int32) : PrI L xs (INV L xs P0) N S c mX8_offer mX9_offer [.int (nI (b01 u)), .int v, .int w, .int y] h := by
  obtain ⟨s, hr, cl, p, sr, n5, nc, sc⟩ := i
  have pa := p.1.offer (b01_01 u) v w y
  obtain ⟨h1, s1, m, f⟩ := C_offer (d := 139) cl.1.1.1 cl.1.1.2.1 cl.1.1.2.2.2.2.1 cl.1.2 p.c.1 (b01_01 u) v w y (Nat.le_of_ble_eq_true rfl)
  exact pr_Z s1 rok_i (cl.1.of f m pa.1.1.1.1.2.2.2.2.1) f.z hr cl p pa.1 pa.2 sr n5 nc sc (by omega) (by omega) (fun q => R_offer q p.c.1 (b01_01 u) v w y (Nat.le_of_ble_eq_true rfl))

