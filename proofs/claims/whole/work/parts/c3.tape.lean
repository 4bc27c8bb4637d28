/-! end, feed (wip/whole/genc3.py) -/
theorem CLS.ft {s : Ms} {tp : Fl} {tn : Nat} {h h1 : Hp} (c : CLS s h) (h4 : s.1 4 ≤ 30) (h4i : s.2.1 4 ≤ 30) (f : FT h h1) (tv : TV h1 tp tn) : CLS (s.1, s.2.1, tp, tn, s.2.2.2.2) h1 := by
  have hs := f.1
  have e : ∀ k, k ≠ 8 → k ≠ 487 → pI h1 k = pI h k := fun k k1 k2 => f.2.2.1 k ⟨k1, k2⟩
  have tx : ∀ t x, TXC h s.2.2.2.2.2.2 t x → TXC h1 s.2.2.2.2.2.2 t x := fun t x q => q.fr hs (fun k hk => e k (by omega) (by omega))
  obtain ⟨c1, c2, c3, c4, ⟨r1, r2, r3, r4⟩, c5, c6, _, c8, c9⟩ := c.2
  exact ⟨⟨hs.cb c.1.1, c.1.2.fr h4 hs.R (fun k k1 k2 => e k (by omega) (by omega)) tx⟩, c1.fr hs (fun k k1 k2 => e k (by omega) (by omega)), hs.ck c2, hs.cr c3, hs.mk c4, ⟨by rw [hs.R]; exact r1, by rw [hs.R]; exact r2, by rw [hs.R]; exact r3, by rw [hs.R]; exact r4⟩, hs.A c5, c6.fb h4i hs.R (fun k k1 k2 => e k (by omega) (by omega)) tx, tv, by rw [f.2.2.2.1]; exact c8, by rw [f.2.2.2.2]; exact c9⟩
theorem four_b {tp : Fl} {t : Nat} {v : Int32} (h : ∀ i, i < 300 → tp i < 256) : ∀ i, i < 300 → mFour tp t v i < 256 := fun i hi => by
  unfold mFour up
  split
  · exact (bt_eq _ _).2
  split
  · exact (bt_eq _ _).2
  split
  · exact (bt_eq _ _).2
  split
  · exact (bt_eq _ _).2
  exact h i hi
theorem end_s (s : Ms) (n : Int32) : (mEnd s n).2 = (s.1, s.2.1, (mEnd s n).2.2.2.1, (mEnd s n).2.2.2.2.1, s.2.2.2.2) := by
  unfold mEnd
  split <;> rfl
theorem end_t {s : Ms} (t : ITp s) (n : Int32) : ITp (mEnd s n).2 := by
  unfold mEnd
  split
  · rename_i q
    exact ⟨Nat.le_trans (inr_nn (by have := t.1; omega) q).1 t.1, t.2⟩
  · exact t
theorem feed_s (s : Ms) (a b c d e : Int32) : (mFeed s a b c d e).2 = (s.1, s.2.1, (mFeed s a b c d e).2.2.2.1, (mFeed s a b c d e).2.2.2.2.1, s.2.2.2.2) := by
  unfold mFeed
  split <;> rfl
theorem feed_t {s : Ms} (t : ITp s) (a b c d e : Int32) : ITp (mFeed s a b c d e).2 := by
  unfold mFeed
  split
  · rename_i q
    exact ⟨q, four_b (four_b (four_b (four_b (four_b t.2))))⟩
  · exact t
/-- a step that changes the tape -/
theorem pr_T {L P0 N S c : Nat} {xs : Nat → Int32} {s s' : Ms} {M8 M9 : Mi} {as : List Value} {x : Int32} {h h1 : Hp} (sp : Sp 139 M8 (.ref 8 :: as) h (some (.int x)) h1) (rk : rok M8.2.2.2 (some (.int x))) (tv : TV h1 s'.2.2.1 s'.2.2.2.1) (f : FT h h1) (e : s' = (s.1, s.2.1, s'.2.2.1, s'.2.2.2.1, s.2.2.2.2)) (it : ITp s') (hr : RM s h) (cl : CLS s h) (p : PI s) (sr : SCR h L xs) (n5 : 501 ≤ pn h) (nc : pn h ≤ 501 + 28 * c) (sc : ps h ≤ P0 + 7700 * c) (hN : pn h ≤ N) (hS : ps h ≤ S) (rf : RM s h1 → ∃ h2, Sp 139 M9 (.ref 488 :: as) h1 (some (.int x)) h2 ∧ RM s' h2 ∧ FM h1 h2) : PrI L xs (INV L xs P0) N S c M8 M9 as h := by
  have cl' : CLS s' h1 := by
    rw [e]
    exact cl.ft p.c.1.2.2.2.2.1 p.c.2.2.2.2.2.1 f tv
  have p' : PI s' := by
    rw [e] at it ⊢
    exact ⟨p.1, p.2.1, it, p.2.2.2⟩
  exact pr_I sp rk f.1.n f.1.s n5 nc sc hN hS (f.1.O hr.1.o) (sr.fr f.1.n f.1.K (f.2.2.1 1 (by omega))) cl' p' (rf (hr.fr (f.1.M hr.1) (fun k k1 k2 => f.2.2.1 k (by omega))))

theorem k_end {L P0 N S c : Nat} {xs : Nat → Int32} {h : Hp} (i : INV L xs P0 c h) (hN : 501 + 28 * c ≤ N) (hS : P0 + 7700 * c ≤ S) (u : Int32) : PrI L xs (INV L xs P0) N S c mX8_end mX9_end [.int u] h := by
  obtain ⟨s, hr, cl, p, sr, n5, nc, sc⟩ := i
  obtain ⟨h1, s1, tv, f⟩ := C_end (s := s) (d := 139) cl.1.1.1 cl.2.2.2.2.2.1.2.2.2 cl.2.2.2.2.2.2.1 cl.2.2.2.2.2.2.2.2.1 p.2.2.1.1 u (Nat.le_of_ble_eq_true rfl)
  exact pr_T s1 rok_i tv f (end_s s u) (end_t p.2.2.1 u) hr cl p sr n5 nc sc (by omega) (by omega) (fun r => R_end r p.2.2.1.1 u (Nat.le_of_ble_eq_true rfl))

theorem k_feed {L P0 N S c : Nat} {xs : Nat → Int32} {h : Hp} (i : INV L xs P0 c h) (hN : 501 + 28 * c ≤ N) (hS : P0 + 7700 * c ≤ S) (u v w y z : Int32) : PrI L xs (INV L xs P0) N S c mX8_feed mX9_feed [.int u, .int v, .int w, .int y, .int z] h := by
  obtain ⟨s, hr, cl, p, sr, n5, nc, sc⟩ := i
  obtain ⟨h1, s1, tv, f⟩ := C_feed (s := s) (d := 139) cl.1.1.1 cl.2.2.2.2.2.1.2.2.2 cl.2.2.2.2.2.2.1 cl.2.2.2.2.2.2.2.2.1 p.2.2.1.1 u v w y z (Nat.le_of_ble_eq_true rfl)
  exact pr_T s1 rok_i tv f (feed_s s u v w y z) (feed_t p.2.2.1 u v w y z) hr cl p sr n5 nc sc (by omega) (by omega) (fun r => R_feed r p.2.2.1.1 u v w y z (Nat.le_of_ble_eq_true rfl))

