/-! the steps that leave the state as it is, but for what is aside (wip/whole/genc1.py) -/
theorem CLS.fl {s : Ms} {h h1 : Hp} (c : CLS s h) (h4 : s.1 4 ≤ 30) (h4i : s.2.1 4 ≤ 30) (f : FR 482 486 h h1) : CLS s h1 :=
  ⟨⟨f.1.cb c.1.1, c.1.2.fr h4 f.1.R (fun k k1 k2 => f.2.2 k (by omega)) (fun t x q => q.fr f.1 (fun k hk => f.2.2 k (by omega)))⟩, c.2.fr f.1 h4i (c.2.1.fr f.1 (fun k k1 k2 => f.2.2 k (by omega))) (f.2.2 8 (by omega)) (fun k k1 k2 => f.2.2 k (by omega)) (f.2.2 487 (by omega)) (fun k hk => f.2.2 k (by omega))⟩
theorem CLS.fd {s : Ms} {h h1 : Hp} (c : CLS s h) (h4i : s.2.1 4 ≤ 30) (cz : CZ h1 s.1 s.2.2.2.2.2.2) (cs : CS h1) (f : FD 465 h h1) : CLS s h1 :=
  ⟨cz, c.2.fr f.1 h4i cs (f.2.2 8 (by omega) (by omega) (by omega)) (fun k k1 k2 => f.2.2 k (by omega) (by omega) (by omega)) (f.2.2 487 (by omega) (by omega) (by omega)) (fun k hk => f.2.2 k (by omega) (by omega) (by omega))⟩
theorem CLS.fz {s : Ms} {a : Fl} {h h1 : Hp} (c : CLS s h) (h4i : s.2.1 4 ≤ 30) (cz : CZ h1 a s.2.2.2.2.2.2) (f : FZ h h1) : CLS (a, s.2) h1 :=
  ⟨cz, c.2.fr f.1 h4i (c.2.1.fr f.1 (fun k k1 k2 => f.2.2 k (by omega) (by omega) (by omega))) (f.2.2 8 (by omega) (by omega) (by omega)) (fun k k1 k2 => f.2.2 k (by omega) (by omega) (by omega)) (f.2.2 487 (by omega) (by omega) (by omega)) (fun k hk => f.2.2 k (by omega) (by omega) (by omega))⟩
theorem FY.rmm {s : Ms} {h h1 : Hp} (hr : RM s h) (f : FY h h1) : RM s h1 ∧ FM h h1 := ⟨hr.fr (f.1.M hr.1) (fun k k1 k2 => f.2.1 k (by omega) (by omega)), f.1, fun k hk => ⟨f.2.1 k (by omega) (by omega), f.2.2 k (by omega)⟩⟩
theorem ex_fy {s : Ms} {h : Hp} {M : Mi} {as : List Value} {r : Option Value} {d : Nat} (hr : RM s h) (e : ∃ h1, Sp d M as h r h1 ∧ FY h h1) : ∃ h1, Sp d M as h r h1 ∧ RM s h1 ∧ FM h h1 := by
  obtain ⟨h1, e1, e2⟩ := e
  exact ⟨h1, e1, e2.rmm hr⟩
theorem b01_bI (u : Int32) : nI (b01 u) = bI (decide (¬ u = 0) = true) := by
  unfold b01 bI
  by_cases h : u = 0
  · rw [if_pos h, if_neg (by simp [h])]; rfl
  · rw [if_neg h, if_pos (by simp [h])]; rfl
/-- a step that changes what is aside in the class -/
theorem pr_F {L P0 N S c : Nat} {xs : Nat → Int32} {s : Ms} {M8 M9 : Mi} {as : List Value} {x : Int32} {h h1 : Hp} (sp : Sp 139 M8 (.ref 8 :: as) h (some (.int x)) h1) (rk : rok M8.2.2.2 (some (.int x))) (f : FR 482 486 h h1) (hr : RM s h) (cl : CLS s h) (p : PI s) (sr : SCR h L xs) (n5 : 501 ≤ pn h) (nc : pn h ≤ 501 + 28 * c) (sc : ps h ≤ P0 + 7700 * c) (hN : pn h ≤ N) (hS : ps h ≤ S) (rf : RM s h1 → ∃ h2, Sp 139 M9 (.ref 488 :: as) h1 (some (.int x)) h2 ∧ RM s h2 ∧ FM h1 h2) : PrI L xs (INV L xs P0) N S c M8 M9 as h :=
  pr_I sp rk f.1.n f.1.s n5 nc sc hN hS (f.1.O hr.1.o) (sr.fr f.1.n f.1.K (f.2.2 1 (by omega))) (cl.fl p.c.1.2.2.2.2.1 p.c.2.2.2.2.2.1 f) p (rf (hr.fr (f.1.M hr.1) (fun k k1 k2 => f.2.2 k (by omega))))
theorem pr_D {L P0 N S c : Nat} {xs : Nat → Int32} {s : Ms} {M8 M9 : Mi} {as : List Value} {x : Int32} {h h1 : Hp} (sp : Sp 139 M8 (.ref 8 :: as) h (some (.int x)) h1) (rk : rok M8.2.2.2 (some (.int x))) (cz : CZ h1 s.1 s.2.2.2.2.2.2) (cs : CS h1) (f : FD 465 h h1) (hr : RM s h) (cl : CLS s h) (p : PI s) (sr : SCR h L xs) (n5 : 501 ≤ pn h) (nc : pn h ≤ 501 + 28 * c) (sc : ps h ≤ P0 + 7700 * c) (hN : pn h ≤ N) (hS : ps h ≤ S) (rf : RM s h1 → ∃ h2, Sp 139 M9 (.ref 488 :: as) h1 (some (.int x)) h2 ∧ RM s h2 ∧ FM h1 h2) : PrI L xs (INV L xs P0) N S c M8 M9 as h :=
  pr_I sp rk f.1.n f.1.s n5 nc sc hN hS (f.1.O hr.1.o) (sr.fr f.1.n f.1.K (f.2.2 1 (by omega) (by omega) (by omega))) (cl.fd p.c.2.2.2.2.2.1 cz cs f) p (rf (hr.fr (f.1.M hr.1) (fun k k1 k2 => f.2.2 k (by omega) (by omega) (by omega))))
/-- a step that changes the row a -/
theorem pr_Z {L P0 N S c : Nat} {xs : Nat → Int32} {s : Ms} {a : Fl} {M8 M9 : Mi} {as : List Value} {x : Int32} {h h1 : Hp} (sp : Sp 139 M8 (.ref 8 :: as) h (some (.int x)) h1) (rk : rok M8.2.2.2 (some (.int x))) (cz : CZ h1 a s.2.2.2.2.2.2) (f : FZ h h1) (hr : RM s h) (cl : CLS s h) (p : PI s) (pa : PA s.2.2.2.2.2.2 a) (e2 : a 2 = s.1 2) (sr : SCR h L xs) (n5 : 501 ≤ pn h) (nc : pn h ≤ 501 + 28 * c) (sc : ps h ≤ P0 + 7700 * c) (hN : pn h ≤ N) (hS : ps h ≤ S) (rf : RM s h1 → ∃ h2, Sp 139 M9 (.ref 488 :: as) h1 (some (.int x)) h2 ∧ RM (a, s.2) h2 ∧ FM h1 h2) : PrI L xs (INV L xs P0) N S c M8 M9 as h :=
  pr_I (s' := (a, s.2)) sp rk f.1.n f.1.s n5 nc sc hN hS (f.1.O hr.1.o) (sr.fr f.1.n f.1.K (f.2.2 1 (by omega) (by omega) (by omega))) (cl.fz p.c.2.2.2.2.2.1 cz f) ⟨pa, p.2.1, p.2.2.1, by show s.2.1 2 ≤ a 2; rw [e2]; exact p.2.2.2⟩ (rf (hr.fr (f.1.M hr.1) (fun k k1 k2 => f.2.2 k (by omega) (by omega) (by omega))))

theorem k_of {L P0 N S c : Nat} {xs : Nat → Int32} {h : Hp} (i : INV L xs P0 c h) (hN : 501 + 28 * c ≤ N) (hS : P0 + 7700 * c ≤ S) (u v : Int32) : PrI L xs (INV L xs P0) N S c mX8_of mX9_of [.int u, .int v] h := by
  obtain ⟨s, hr, cl, p, sr, n5, nc, sc⟩ := i
  obtain ⟨h1, s1, f⟩ := C_of (d := 139) cl.1.l p.c.1 p.1.1.ip p.1.1.iq p.1.1.1.2.2.1 p.1.1.1.2.1 p.1.1.1.2.2.2 (IQ.w p.1.1.iq p.c.1.1 p.c.1.2.1 p.c.1.2.2.2.2.2.2.2.2.2.2.2.1) u v (Nat.le_of_ble_eq_true rfl)
  exact pr_F s1 rok_i (f.wide (by omega) (by omega)) hr cl p sr n5 nc sc (by omega) (by omega) (fun q => ex_fy q (R_of q p.c.1 p.1.1.ip p.1.1.iq p.1.1.1.2.2.1 p.1.1.1.2.1 p.1.1.1.2.2.2 u v (Nat.le_of_ble_eq_true rfl)))

theorem k_ofFact {L P0 N S c : Nat} {xs : Nat → Int32} {h : Hp} (i : INV L xs P0 c h) (hN : 501 + 28 * c ≤ N) (hS : P0 + 7700 * c ≤ S) (u v : Int32) : PrI L xs (INV L xs P0) N S c mX8_ofFact mX9_ofFact [.int u, .int v] h := by
  obtain ⟨s, hr, cl, p, sr, n5, nc, sc⟩ := i
  obtain ⟨h1, s1, f⟩ := C_ofFact (d := 139) cl.1.l p.c.1 p.1.1.ip p.1.1.iq p.1.1.1.2.2.1 p.1.1.1.2.1 p.1.1.1.2.2.2 u v (Nat.le_of_ble_eq_true rfl)
  exact pr_F s1 rok_i (f.wide (by omega) (by omega)) hr cl p sr n5 nc sc (by omega) (by omega) (fun q => ex_fy q (R_ofFact q p.c.1 p.1.1.ip p.1.1.iq p.1.1.1.2.2.1 p.1.1.1.2.1 p.1.1.1.2.2.2 u v (Nat.le_of_ble_eq_true rfl)))

theorem k_word {L P0 N S c : Nat} {xs : Nat → Int32} {h : Hp} (i : INV L xs P0 c h) (hN : 501 + 28 * c ≤ N) (hS : P0 + 7700 * c ≤ S) (u v : Int32) : PrI L xs (INV L xs P0) N S c mX8_word mX9_word [.int u, .int v] h := by
  obtain ⟨s, hr, cl, p, sr, n5, nc, sc⟩ := i
  obtain ⟨h1, s1, f⟩ := C_word (d := 139) cl.1.l p.c.1 p.1.1.ip p.1.1.iq p.1.1.1.2.2.1 p.1.1.1.2.1 p.1.1.1.2.2.2 u v (Nat.le_of_ble_eq_true rfl)
  exact pr_F s1 rok_i (f.wide (by omega) (by omega)) hr cl p sr n5 nc sc (by omega) (by omega) (fun q => ex_fy q (R_word q p.c.1 p.1.1.ip p.1.1.iq p.1.1.1.2.2.1 p.1.1.1.2.1 p.1.1.1.2.2.2 u v (Nat.le_of_ble_eq_true rfl)))

theorem k_whose {L P0 N S c : Nat} {xs : Nat → Int32} {h : Hp} (i : INV L xs P0 c h) (hN : 501 + 28 * c ≤ N) (hS : P0 + 7700 * c ≤ S) : PrI L xs (INV L xs P0) N S c mX8_whose mX9_whose [] h := by
  obtain ⟨s, hr, cl, p, sr, n5, nc, sc⟩ := i
  obtain ⟨h1, s1, _, f⟩ := C_whose (d := 139) cl.1 p.1.1.1 p.1.2.2.2.2.2.2.1 p.1.2.2.2.2.1 (Nat.le_of_ble_eq_true rfl)
  exact pr_F s1 rok_i (f.wide (by omega) (by omega)) hr cl p sr n5 nc sc (by omega) (by omega) (fun q => R_whose q p.1.1.1 p.1.2.2.2.2.2.2.1 p.1.2.2.2.2.1 (Nat.le_of_ble_eq_true rfl))

theorem k_duel {L P0 N S c : Nat} {xs : Nat → Int32} {h : Hp} (i : INV L xs P0 c h) (hN : 501 + 28 * c ≤ N) (hS : P0 + 7700 * c ≤ S) (u v : Int32) : PrI L xs (INV L xs P0) N S c mX8_duel mX9_duel [.int (nI (b01 u)), .int (nI (b01 v))] h := by
  obtain ⟨s, hr, cl, p, sr, n5, nc, sc⟩ := i
  rw [b01_bI u]
  obtain ⟨h1, s1, f⟩ := C_duel (d := 139) (m := decide (¬ u = 0)) cl.1 cl.2.2.1 cl.2.2.2.2.2.1.2.2.1 p.c.1 p.1.2.2.1 (b01_01 v) (Nat.le_of_ble_eq_true rfl)
  exact pr_F s1 rok_i (f.wide (by omega) (by omega)) hr cl p sr n5 nc sc (by omega) (by omega) (fun q => R_duel q p.c.1 p.1.2.2.1 (b01_01 v) (Nat.le_of_ble_eq_true rfl))

theorem k_ahead {L P0 N S c : Nat} {xs : Nat → Int32} {h : Hp} (i : INV L xs P0 c h) (hN : 501 + 28 * c ≤ N) (hS : P0 + 7700 * c ≤ S) (u v w : Int32) : PrI L xs (INV L xs P0) N S c mX8_ahead mX9_ahead [.int u, .int v, .int w] h := by
  obtain ⟨s, hr, cl, p, sr, n5, nc, sc⟩ := i
  obtain ⟨h1, s1, cz, cs, f⟩ := C_ahead (d := 139) cl.1 cl.2.1 p.1.1.1 u v w (Nat.le_of_ble_eq_true rfl)
  exact pr_D s1 rok_i cz cs f hr cl p sr n5 nc sc (by omega) (by omega) (fun q => R_ahead q p.1.1.1 u v w (Nat.le_of_ble_eq_true rfl))

theorem k_until {L P0 N S c : Nat} {xs : Nat → Int32} {h : Hp} (i : INV L xs P0 c h) (hN : 501 + 28 * c ≤ N) (hS : P0 + 7700 * c ≤ S) (u : Int32) : PrI L xs (INV L xs P0) N S c mX8_until mX9_until [.int u] h := by
  obtain ⟨s, hr, cl, p, sr, n5, nc, sc⟩ := i
  obtain ⟨h1, s1, cz, cs, f⟩ := C_until (d := 139) cl.1 cl.2.1 p.1.1.1 u (Nat.le_of_ble_eq_true rfl)
  exact pr_D s1 rok_i cz cs f hr cl p sr n5 nc sc (by omega) (by omega) (fun q => R_until q p.1.1.1 u (Nat.le_of_ble_eq_true rfl))

