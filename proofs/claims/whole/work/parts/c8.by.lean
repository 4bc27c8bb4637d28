/-! by keeps what holds (wip/whole/genc8.py) -/
theorem by_nn {t : Int32} {n : Nat} (hn : n ≤ 4) (h : -1 ≤ t ∧ t ≤ nI n - 1) : nn (t + 1) ≤ n := by
  have h1 := h.1
  have h2 := h.2
  rw [Int32.le_iff_toInt_le] at h1 h2
  rw [show (1 : Int32) = nI 1 from rfl, pk_sub_toInt (by omega) (by omega)] at h2
  have e1 : (-1 : Int32).toInt = -1 := by decide
  rw [e1] at h1
  have ht : t = -1 ∨ t = nI 0 ∨ t = nI 1 ∨ t = nI 2 ∨ t = nI 3 := by
    have hc : t.toInt = -1 ∨ t.toInt = 0 ∨ t.toInt = 1 ∨ t.toInt = 2 ∨ t.toInt = 3 := by omega
    rcases hc with q | q | q | q | q
    · exact Or.inl (Int32.toInt_inj.mp (q.trans (by decide)))
    · exact Or.inr (Or.inl (Int32.toInt_inj.mp (q.trans (by decide))))
    · exact Or.inr (Or.inr (Or.inl (Int32.toInt_inj.mp (q.trans (by decide)))))
    · exact Or.inr (Or.inr (Or.inr (Or.inl (Int32.toInt_inj.mp (q.trans (by decide))))))
    · exact Or.inr (Or.inr (Or.inr (Or.inr (Int32.toInt_inj.mp (q.trans (by decide))))))
  rcases ht with rfl | rfl | rfl | rfl | rfl
  · rw [show nn ((-1 : Int32) + 1) = 0 by decide]; omega
  · rw [show nn (nI 0 + 1) = 1 by decide]; rw [show (nI 0).toInt = 0 by decide] at h2; omega
  · rw [show nn (nI 1 + 1) = 2 by decide]; rw [show (nI 1).toInt = 1 by decide] at h2; omega
  · rw [show nn (nI 2 + 1) = 3 by decide]; rw [show (nI 2).toInt = 2 by decide] at h2; omega
  · rw [show nn (nI 3 + 1) = 4 by decide]; rw [show (nI 3).toInt = 3 by decide] at h2; omega
theorem PA.by {tf : Nat → Int32} {a : Fl} (h : PA tf a) (t : Int32) : PA tf (mBy a t).2 ∧ (mBy a t).2 2 = a 2 := by
  have ic := h.1.1.1
  unfold mBy
  by_cases w : -1 ≤ t ∧ t ≤ nI (a 2) - 1
  · rw [if_pos w]
    have n2 := by_nn ic.2.2.1 w
    show PA tf (up a 3 (nn (t + 1))) ∧ up a 3 (nn (t + 1)) 2 = a 2
    obtain ⟨a', ea⟩ : ∃ x, x = up a 3 (nn (t + 1)) := ⟨_, rfl⟩
    rw [← ea]
    have e : ∀ i, i ≠ 3 → a' i = a i := fun i hi => by rw [ea]; unfold up; rw [if_neg hi]
    have e3 : a' 3 = nn (t + 1) := by rw [ea]; unfold up; rw [if_pos rfl]
    have es : snap a' = snap a := by
      funext i
      unfold snap
      rw [e 1 (by omega), e (13 + 5 * ((i - 6) / 3) + (i - 6) % 3) (by omega), e (38 + (i - 21)) (by omega), e (4810 + (i - 93)) (by omega)]
      by_cases i0 : i = 0
      · rw [if_pos i0, if_pos i0]
      · rw [e (7 + i) (by omega)]
    have ic' : IC a' := by
      obtain ⟨c0, c1, c2, c3, c4, c5, c6, c7, c8, c9, c10, c11, c12⟩ := ic
      exact ⟨by rw [e 0 (by omega)]; exact c0, by rw [e 1 (by omega)]; exact c1, by rw [e 2 (by omega)]; exact c2, by rw [e3, e 2 (by omega)]; exact n2, by rw [e 4 (by omega)]; exact c4, by rw [e 5 (by omega)]; exact c5, by rw [e 6 (by omega)]; exact c6, by rw [e 7 (by omega)]; exact c7, by rw [e 8 (by omega)]; exact c8, by rw [e 9 (by omega)]; exact c9, by rw [e 10 (by omega)]; exact c10, by rw [e 11 (by omega)]; exact c11, by rw [e 12 (by omega)]; exact c12⟩
    have jd : JD tf a' := ⟨ic', by rw [es, e 0 (by omega)]; exact h.1.1.2.1, fun f hf => by rw [e 0 (by omega)] at hf; rw [e (110 + 2 * f) (by omega), e (110 + 2 * f + 1) (by omega)]; exact h.1.1.2.2.1 f hf, fun q => h.2.2.2.2.2.2.1 _ (by rw [e3] at q ⊢; omega)⟩
    have it : ITd a' := fun p hp => by
      rw [e 1 (by omega)] at hp
      rw [e (13 + 5 * p + 3) (by omega), e (13 + 5 * p + 4) (by omega)]
      exact h.1.2 p hp
    have l0 := Nat.le_of_eq (e 0 (by omega)).symm
    exact ⟨h.cg ⟨jd, it⟩ l0 (e 2 (by omega)) (e 4 (by omega)) (e 1 (by omega)) (fun i i1 i2 => e i (by omega)) (fun i i1 => e i (by omega)) (h.2.2.1.cg (e 5 (by omega)) l0 (fun i i1 i2 => e i (by omega)) ic.2.2.2.2.2.1) (h.2.2.2.1.cg (e 6 (by omega)) l0 (fun i i1 i2 => e i (by omega)) ic.2.2.2.2.2.2.1) (h.2.2.2.2.1.cg (e 7 (by omega)) (fun i i1 i2 => e i (by omega)) ic.2.2.2.2.2.2.2.1), e 2 (by omega)⟩
  · rw [if_neg w]
    exact ⟨h, rfl⟩

theorem by_01 (a : Fl) (t : Int32) : (mBy a t).1 = 0 ∨ (mBy a t).1 = 1 := by
  unfold mBy
  split
  · exact Or.inr rfl
  · exact Or.inl rfl

theorem k_by {L P0 N S c : Nat} {xs : Nat → Int32} {h : Hp} (i : INV L xs P0 c h) (hN : 501 + 28 * c ≤ N) (hS : P0 + 7700 * c ≤ S) (u : Int32) : PrI L xs (INV L xs P0) N S c mX8_by mX9_by [.int u] h := by
  obtain ⟨s, hr, cl, p, sr, n5, nc, sc⟩ := i
  have pa := p.1.by u
  obtain ⟨h1, s1, m, f⟩ := C_by (d := 139) cl.1.1.1 cl.1.1.2.1 cl.1.1.2.2.2.2.1 cl.1.2 p.c.1 u (Nat.le_of_ble_eq_true rfl)
  exact pr_Z s1 (rok_z (by_01 s.1 u)) (cl.1.of f m pa.1.1.1.1.2.2.2.2.1) f.z hr cl p pa.1 pa.2 sr n5 nc sc (by omega) (by omega) (fun q => R_by q p.c.1 u (Nat.le_of_ble_eq_true rfl))

