/-! a world kept, a world changed: what holds of the row (wip/whole/gend0.py) -/
/-- the newest world of the past has as many prophets as there are -/
def KG (a : Fl) : Prop := 0 < a 4 ∧ a (190 + 154 * (a 4 - 1)) = a 1
theorem stC_keep {a : Fl} {t : Nat} (h4 : a 4 < 30) (ht : t ≤ a 4) : stC (mKeep a) t = stC a t := by
  have e4 : mKeep a 4 = a 4 + 1 := by rw [mKeep_4, if_neg (by omega)]
  unfold stC
  rw [e4, if_neg (by omega)]
  by_cases q : t = a 4
  · rw [if_pos q]
    have n := mKeep_new (a := a) (i := 0) (by omega) (by omega)
    rw [e4, Nat.add_sub_cancel] at n
    rw [q]
    exact n
  · rw [if_neg q]
    exact mKeep_old (i := 0) h4 (by omega) (by omega)
theorem stN_keep {a : Fl} {t p k : Nat} (h4 : a 4 < 30) (ht : t ≤ a 4) (hp : p < 5) (hk : k < 3) : stN (mKeep a) t p k = stN a t p k := by
  have e4 : mKeep a 4 = a 4 + 1 := by rw [mKeep_4, if_neg (by omega)]
  unfold stN
  rw [e4, if_neg (by omega)]
  by_cases q : t = a 4
  · rw [if_pos q]
    have n := mKeep_new (a := a) (i := 6 + 3 * p + k) (by omega) (by omega)
    rw [e4, Nat.add_sub_cancel] at n
    rw [q, n, show 6 + 3 * p + k = ppx p k by unfold ppx; omega]
    exact snap_pp hp hk
  · rw [if_neg q]
    exact mKeep_old h4 (by omega) (by omega)
theorem stC_kfull {a : Fl} {t : Nat} (h4 : a 4 = 30) (ht : t ≤ 29) : stC (mKeep a) t = stC a (t + 1) := by
  have e4 : mKeep a 4 = 30 := by rw [mKeep_4, if_pos h4]
  unfold stC
  rw [e4, h4, if_neg (by omega)]
  by_cases q : t = 29
  · rw [if_pos (by omega)]
    have n := mKeep_new (a := a) (i := 0) (by omega) (by omega)
    rw [e4] at n
    rw [q]
    exact n
  · rw [if_neg (by omega)]
    exact mKeep_full (i := 0) h4 (by omega) (by omega)
theorem stN_kfull {a : Fl} {t p k : Nat} (h4 : a 4 = 30) (ht : t ≤ 29) (hp : p < 5) (hk : k < 3) : stN (mKeep a) t p k = stN a (t + 1) p k := by
  have e4 : mKeep a 4 = 30 := by rw [mKeep_4, if_pos h4]
  unfold stN
  rw [e4, h4, if_neg (by omega)]
  by_cases q : t = 29
  · rw [if_pos (by omega)]
    have n := mKeep_new (a := a) (i := 6 + 3 * p + k) (by omega) (by omega)
    rw [e4] at n
    rw [q, show 190 + 154 * 29 + (6 + 3 * p + k) = 190 + 154 * (30 - 1) + (6 + 3 * p + k) by omega, n, show 6 + 3 * p + k = ppx p k by unfold ppx; omega]
    exact snap_pp hp hk
  · rw [if_neg (by omega)]
    exact mKeep_full h4 (by omega) (by omega)
theorem stC_now {a : Fl} {t : Nat} (h : t = a 4) : stC a t = a 1 := if_pos h
theorem IU.keep {a : Fl} (h : IU a) (h4 : a 4 ≤ 30) (h5 : ∀ t, t ≤ a 4 → stC a t ≤ 5) : IU (mKeep a) ∧ KG (mKeep a) := by
  have o1 : mKeep a 1 = a 1 := mKeep_out h4 (by omega) (by omega)
  have op : ∀ j, j < 190 → j ≠ 4 → mKeep a j = a j := fun j j1 j2 => mKeep_out h4 j2 (by omega)
  refine ⟨?_, ?_, ?_⟩
  · intro t ht
    by_cases q : a 4 = 30
    · have e4 : mKeep a 4 = 30 := by rw [mKeep_4, if_pos q]
      rw [e4] at ht
      by_cases w : t = 29
      · have x1 : stC (mKeep a) t = a 1 := by rw [stC_kfull q (by omega)]; exact stC_now (by omega)
        have x2 : stC (mKeep a) (t + 1) = a 1 := by rw [stC_now (by omega)]; exact o1
        rw [x1, x2]
        exact ⟨Nat.le_refl _, fun p p1 p2 => absurd p2 (by omega)⟩
      · obtain ⟨u1, u2⟩ := h (t + 1) (by omega)
        have s5 := h5 (t + 1 + 1) (by omega)
        have x1 : stC (mKeep a) t = stC a (t + 1) := stC_kfull q (by omega)
        have x2 : stC (mKeep a) (t + 1) = stC a (t + 1 + 1) := stC_kfull q (by omega)
        rw [x1, x2]
        refine ⟨u1, fun p p1 p2 => ?_⟩
        have p5 : p < 5 := by omega
        rw [stN_kfull (k := 0) q (by omega) p5 (by omega), stN_kfull (k := 1) q (by omega) p5 (by omega), stN_kfull (k := 2) q (by omega) p5 (by omega), op (13 + 5 * p + 3) (by omega) (by omega), op (13 + 5 * p + 4) (by omega) (by omega)]
        exact u2 p p1 p2
    · have e4 : mKeep a 4 = a 4 + 1 := by rw [mKeep_4, if_neg q]
      rw [e4] at ht
      have q3 : a 4 < 30 := by omega
      by_cases w : t = a 4
      · have x1 : stC (mKeep a) t = a 1 := by rw [stC_keep q3 (by omega)]; exact stC_now w
        have x2 : stC (mKeep a) (t + 1) = a 1 := by rw [stC_now (by omega)]; exact o1
        rw [x1, x2]
        exact ⟨Nat.le_refl _, fun p p1 p2 => absurd p2 (by omega)⟩
      · obtain ⟨u1, u2⟩ := h t (by omega)
        have s5 := h5 (t + 1) (by omega)
        have x1 : stC (mKeep a) t = stC a t := stC_keep q3 (by omega)
        have x2 : stC (mKeep a) (t + 1) = stC a (t + 1) := stC_keep q3 (by omega)
        rw [x1, x2]
        refine ⟨u1, fun p p1 p2 => ?_⟩
        have p5 : p < 5 := by omega
        rw [stN_keep (k := 0) q3 (by omega) p5 (by omega), stN_keep (k := 1) q3 (by omega) p5 (by omega), stN_keep (k := 2) q3 (by omega) p5 (by omega), op (13 + 5 * p + 3) (by omega) (by omega), op (13 + 5 * p + 4) (by omega) (by omega)]
        exact u2 p p1 p2
  · rw [mKeep_4]
    split <;> omega
  · rw [o1]
    exact mKeep_new (a := a) (i := 0) h4 (by omega)
theorem PA.keep {tf : Nat → Int32} {a : Fl} (h : PA tf a) : PA tf (mKeep a) ∧ KG (mKeep a) ∧ mKeep a 2 = a 2 := by
  have c := h.1.1.1
  have h4 := c.2.2.2.2.1
  have e : ∀ i, i ≠ 4 → i < 190 → mKeep a i = a i := fun i i1 i2 => mKeep_out h4 i1 (by omega)
  have u := h.2.1.keep h4 h.s5
  have l0 := Nat.le_of_eq (e 0 (by omega) (by omega)).symm
  refine ⟨⟨h.1.keep, u.1, h.2.2.1.cg (e 5 (by omega) (by omega)) l0 (fun i i1 i2 => e i (by omega) (by omega)) c.2.2.2.2.2.1, h.2.2.2.1.cg (e 6 (by omega) (by omega)) l0 (fun i i1 i2 => e i (by omega) (by omega)) c.2.2.2.2.2.2.1, h.2.2.2.2.1.cg (e 7 (by omega) (by omega)) (fun i i1 i2 => e i (by omega) (by omega)) c.2.2.2.2.2.2.2.1, fun t ht => ?_, fun t ht => h.2.2.2.2.2.2.1 t (by rw [e 2 (by omega) (by omega)] at ht; exact ht), fun t ht => h.2.2.2.2.2.2.2 t (by rw [e 2 (by omega) (by omega)] at ht; exact ht)⟩, u.2, e 2 (by omega) (by omega)⟩
  rw [e 0 (by omega) (by omega)]
  by_cases q : a 4 = 30
  · have e4 : mKeep a 4 = 30 := by rw [mKeep_4, if_pos q]
    rw [e4] at ht
    by_cases w : t = 29
    · refine h.1.1.2.1.cg (fun i hi => ?_)
      have n := mKeep_new (a := a) h4 hi
      rw [e4] at n
      rw [w]
      exact n
    · exact (h.2.2.2.2.2.1 (t + 1) (by omega)).cg (fun i hi => mKeep_full q (by omega) hi)
  · have e4 : mKeep a 4 = a 4 + 1 := by rw [mKeep_4, if_neg q]
    rw [e4] at ht
    by_cases w : t = a 4
    · refine h.1.1.2.1.cg (fun i hi => ?_)
      have n := mKeep_new (a := a) h4 hi
      rw [e4, Nat.add_sub_cancel] at n
      rw [w]
      exact n
    · exact (h.2.2.2.2.2.1 t (by omega)).cg (fun i hi => mKeep_old (by omega) (by omega) hi)
theorem PA.un {tf : Nat → Int32} {a W : Fl} (h : PA tf a) (k : KG a) (j : JY tf (uns a W)) (w : W 0 = a 1) : PA tf (uns a W) ∧ KG (uns a W) ∧ uns a W 2 = a 2 := by
  have c := h.1.1.1
  have h4 := c.2.2.2.2.1
  have e : ∀ i, i ≠ 1 → (i < 8 ∨ 110 ≤ i ∧ i < 4810) → uns a W i = a i := fun i i1 i2 => uns_o ⟨i1, i2⟩
  have e1 : uns a W 1 = a 1 := by
    have z : uns a W 1 = W 0 := uns_wx (j := 0) (by omega)
    rw [z, w]
  have h5 := h.s5
  obtain ⟨k0, k1⟩ := k
  have c1 := c.2.1
  have e4 := e 4 (by omega) (by omega)
  have l0 := Nat.le_of_eq (e 0 (by omega) (by omega)).symm
  have sc : ∀ t, t ≤ a 4 → stC (uns a W) t = stC a t := fun t ht => by
    unfold stC
    rw [e4, e1]
    by_cases q : t = a 4
    · rw [if_pos q, if_pos q]
    · rw [if_neg q, if_neg q]
      exact e _ (by omega) (by omega)
  have sn : ∀ t p k, t < a 4 → p < 5 → k < 3 → stN (uns a W) t p k = stN a t p k := fun t p k t1 p1 k1 => by
    unfold stN
    rw [e4, if_neg (by omega), if_neg (by omega)]
    exact e _ (by omega) (by omega)
  have iu : IU (uns a W) := by
    intro t ht
    rw [e4] at ht
    rw [sc t (by omega), sc (t + 1) (by omega)]
    by_cases q : t + 1 = a 4
    · have x1 : stC a t = a 1 := by
        unfold stC
        rw [if_neg (by omega), ← k1]
        congr 1
        omega
      rw [x1, stC_now q]
      exact ⟨Nat.le_refl _, fun p p1 p2 => absurd p2 (by omega)⟩
    · obtain ⟨u1, u2⟩ := h.2.1 t ht
      have q5 := h5 (t + 1) (by omega)
      refine ⟨u1, fun p p1 p2 => ?_⟩
      have p5 : p < 5 := by omega
      have x3 : uns a W (13 + 5 * p + 3) = a (13 + 5 * p + 3) := uns_t (by omega)
      have x4 : uns a W (13 + 5 * p + 4) = a (13 + 5 * p + 4) := uns_t (by omega)
      rw [sn (t + 1) p 0 (by omega) p5 (by omega), sn (t + 1) p 1 (by omega) p5 (by omega), sn (t + 1) p 2 (by omega) p5 (by omega), x3, x4]
      exact u2 p p1 p2
  refine ⟨⟨j, iu, h.2.2.1.cg (e 5 (by omega) (by omega)) l0 (fun i i1 i2 => e i (by omega) (by omega)) c.2.2.2.2.2.1, h.2.2.2.1.cg (e 6 (by omega) (by omega)) l0 (fun i i1 i2 => e i (by omega) (by omega)) c.2.2.2.2.2.2.1, h.2.2.2.2.1.cg (e 7 (by omega) (by omega)) (fun i i1 i2 => e i (by omega) (by omega)) c.2.2.2.2.2.2.2.1, fun t ht => ?_, fun t ht => h.2.2.2.2.2.2.1 t (by rw [e 2 (by omega) (by omega)] at ht; exact ht), fun t ht => h.2.2.2.2.2.2.2 t (by rw [e 2 (by omega) (by omega)] at ht; exact ht)⟩, ⟨by rw [e4]; exact k0, ?_⟩, e 2 (by omega) (by omega)⟩
  · rw [e4] at ht
    rw [e 0 (by omega) (by omega)]
    exact (h.2.2.2.2.2.1 t ht).cg (fun i hi => e _ (by omega) (by omega))
  · rw [e4, e1, e _ (by omega) (by omega)]
    exact k1
theorem IU.le {a : Fl} (h : IU a) : ∀ r t, t + r = a 4 → stC a t ≤ a 1 := by
  intro r
  induction r with
  | zero => intro t ht; rw [stC_now (by omega)]; exact Nat.le_refl _
  | succ r ih =>
    intro t ht
    exact Nat.le_trans (h t (by omega)).1 (ih (t + 1) (by omega))

