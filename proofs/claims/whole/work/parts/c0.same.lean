/-! the steps that change nothing (wip/whole/genc0.py) -/
theorem snap_ck {a : Fl} {k j : Nat} (hk : k < 12) (hj : j < 6) : snap a (pcx k j) = a (38 + 6 * k + j) := by
  unfold snap pcx
  rw [if_neg (by omega), if_neg (by omega), if_neg (by omega), if_pos (by omega)]
  congr 1
  omega
theorem snap_bk {a : Fl} {i : Nat} : snap a (93 + i) = a (4810 + i) := by
  unfold snap
  rw [if_neg (by omega), if_neg (by omega), if_neg (by omega), if_neg (by omega)]
  congr 1
  omega
theorem JY.iq {tf : Nat → Int32} {a : Fl} (h : JY tf a) : IQ a := fun k hk => by
  have h12 : a 11 ≤ 12 := h.1.1.2.2.2.2.2.2.2.2.2.2.2.1
  have w := h.1.2.1.2.2.1 k (show k < snap a 4 from hk)
  rw [snap_ck (j := 0) (by omega) (by omega), snap_ck (j := 1) (by omega) (by omega), snap_ck (j := 2) (by omega) (by omega), snap_ck (j := 3) (by omega) (by omega), snap_ck (j := 4) (by omega) (by omega), snap_ck (j := 5) (by omega) (by omega)] at w
  exact w
theorem JY.ib {tf : Nat → Int32} {a : Fl} (h : JY tf a) : IB a := fun i hi => by
  have w := h.1.2.1.2.2.2 i (show i < snap a 5 from hi)
  rw [snap_bk, show 93 + 2 * i + 1 = 93 + (2 * i + 1) by omega, snap_bk] at w
  exact w
theorem pr_J {L P0 N S c : Nat} {xs : Nat → Int32} {s' : Ms} {M8 M9 : Mi} {as : List Value} {x : Int64} {h h1 : Hp} (sp : Sp 139 M8 (.ref 8 :: as) h (some (.long x)) h1) (rk : rok M8.2.2.2 (some (.long x))) (en : pn h1 = pn h) (es : ps h1 = ps h) (n5 : 501 ≤ pn h) (nc : pn h ≤ 501 + 28 * c) (sc : ps h ≤ P0 + 7700 * c) (hN : pn h ≤ N) (hS : ps h ≤ S) (m9 : IO h1 9 488) (sr : SCR h1 L xs) (cl : CLS s' h1) (p : PI s') (rf : ∃ h2, Sp 139 M9 (.ref 488 :: as) h1 (some (.long x)) h2 ∧ RM s' h2 ∧ FM h1 h2) : PrJ L xs (INV L xs P0) N S c M8 M9 as h := by
  obtain ⟨h2, s2, r2, f2⟩ := rf
  refine ⟨x, h1, sp, rk, ⟨by omega, by omega, by omega, by omega⟩, m9, sr, ?_⟩
  intro N' S' Q hN' hS' hQ
  refine s2 N' S' Q (by rw [f2.1.n]; exact hN') (by rw [f2.1.s]; exact hS') (hQ _ _ ⟨rfl, f2.1, s', r2, cl.fm p.c.1.2.2.2.2.1 p.c.2.2.2.2.2.1 f2, p, sr.fr f2.1.n f2.1.K (f2.2 1 (by omega)).1, by rw [f2.1.n]; omega, by rw [f2.1.n]; omega, by rw [f2.1.s]; omega⟩)

theorem k_is {L P0 N S c : Nat} {xs : Nat → Int32} {h : Hp} (i : INV L xs P0 c h) (hN : 501 + 28 * c ≤ N) (hS : P0 + 7700 * c ≤ S) (u : Int32) : PrI L xs (INV L xs P0) N S c mX8_is mX9_is [.int u] h := by
  obtain ⟨s, hr, cl, p, sr, n5, nc, sc⟩ := i
  exact pr_I (C_is cl.1.1.1 cl.1.1.2.1 cl.1.1.2.2.2.2.1 cl.1.2 u) rok_i rfl rfl n5 nc sc (by omega) (by omega) hr.1.o sr cl p (⟨h, R_is hr u (Nat.le_of_ble_eq_true rfl), hr, FM.rf⟩)

theorem k_about {L P0 N S c : Nat} {xs : Nat → Int32} {h : Hp} (i : INV L xs P0 c h) (hN : 501 + 28 * c ≤ N) (hS : P0 + 7700 * c ≤ S) (u : Int32) : PrI L xs (INV L xs P0) N S c mX8_about mX9_about [.int u] h := by
  obtain ⟨s, hr, cl, p, sr, n5, nc, sc⟩ := i
  exact pr_I (C_about (s := s) cl.1.1.1 cl.1.1.2.1 cl.1.1.2.2.2.2.1 cl.1.2 cl.2.2.2.2.2.2.2.2.1.2 u) rok_i rfl rfl n5 nc sc (by omega) (by omega) hr.1.o sr cl p (⟨h, R_about hr u (Nat.le_of_ble_eq_true rfl), hr, FM.rf⟩)

theorem k_fault {L P0 N S c : Nat} {xs : Nat → Int32} {h : Hp} (i : INV L xs P0 c h) (hN : 501 + 28 * c ≤ N) (hS : P0 + 7700 * c ≤ S) (u : Int32) : PrI L xs (INV L xs P0) N S c mX8_fault mX9_fault [.int u] h := by
  obtain ⟨s, hr, cl, p, sr, n5, nc, sc⟩ := i
  exact pr_I (C_fault (s := s) cl.1.1.1 cl.2.2.2.2.2.2.2.2.2.1 cl.2.2.2.2.2.2.2.2.2.2 u) rok_i rfl rfl n5 nc sc (by omega) (by omega) hr.1.o sr cl p (⟨h, R_fault hr u, hr, FM.rf⟩)

theorem k_famous {L P0 N S c : Nat} {xs : Nat → Int32} {h : Hp} (i : INV L xs P0 c h) (hN : 501 + 28 * c ≤ N) (hS : P0 + 7700 * c ≤ S) : PrI L xs (INV L xs P0) N S c mX8_famous mX9_famous [] h := by
  obtain ⟨s, hr, cl, p, sr, n5, nc, sc⟩ := i
  exact pr_I (C_famous cl.1.1.1 cl.1.1.2.1 cl.1.1.2.2.2.2.1 cl.1.2 p.c.1 p.1.1.ip (Nat.le_of_ble_eq_true rfl)) rok_i rfl rfl n5 nc sc (by omega) (by omega) hr.1.o sr cl p (⟨h, R_famous hr p.c.1 p.1.1.ip (Nat.le_of_ble_eq_true rfl), hr, FM.rf⟩)

theorem k_richest {L P0 N S c : Nat} {xs : Nat → Int32} {h : Hp} (i : INV L xs P0 c h) (hN : 501 + 28 * c ≤ N) (hS : P0 + 7700 * c ≤ S) : PrI L xs (INV L xs P0) N S c mX8_richest mX9_richest [] h := by
  obtain ⟨s, hr, cl, p, sr, n5, nc, sc⟩ := i
  exact pr_I (C_richest cl.1.1.1 cl.1.1.2.1 cl.1.1.2.2.2.2.1 cl.1.2 p.c.1 p.1.1.ip (Nat.le_of_ble_eq_true rfl)) rok_i rfl rfl n5 nc sc (by omega) (by omega) hr.1.o sr cl p (⟨h, R_richest hr p.c.1 p.1.1.ip (Nat.le_of_ble_eq_true rfl), hr, FM.rf⟩)

theorem k_ruined {L P0 N S c : Nat} {xs : Nat → Int32} {h : Hp} (i : INV L xs P0 c h) (hN : 501 + 28 * c ≤ N) (hS : P0 + 7700 * c ≤ S) : PrI L xs (INV L xs P0) N S c mX8_ruined mX9_ruined [] h := by
  obtain ⟨s, hr, cl, p, sr, n5, nc, sc⟩ := i
  exact pr_I (C_ruined cl.1.1.1 cl.1.1.2.1 cl.1.1.2.2.2.2.1 cl.1.2 p.c.1 p.1.1.ip (Nat.le_of_ble_eq_true rfl)) rok_i rfl rfl n5 nc sc (by omega) (by omega) hr.1.o sr cl p (⟨h, R_ruined hr p.c.1 p.1.1.ip (Nat.le_of_ble_eq_true rfl), hr, FM.rf⟩)

theorem k_idle {L P0 N S c : Nat} {xs : Nat → Int32} {h : Hp} (i : INV L xs P0 c h) (hN : 501 + 28 * c ≤ N) (hS : P0 + 7700 * c ≤ S) : PrI L xs (INV L xs P0) N S c mX8_idle mX9_idle [] h := by
  obtain ⟨s, hr, cl, p, sr, n5, nc, sc⟩ := i
  exact pr_I (C_idle cl.1.1.1 cl.1.1.2.1 cl.1.1.2.2.2.2.1 cl.1.2 p.c.1 p.1.1.ip p.1.1.iq (Nat.le_of_ble_eq_true rfl)) rok_i rfl rfl n5 nc sc (by omega) (by omega) hr.1.o sr cl p (⟨h, R_idle hr p.c.1 p.1.1.ip p.1.1.iq (Nat.le_of_ble_eq_true rfl), hr, FM.rf⟩)

theorem k_book {L P0 N S c : Nat} {xs : Nat → Int32} {h : Hp} (i : INV L xs P0 c h) (hN : 501 + 28 * c ≤ N) (hS : P0 + 7700 * c ≤ S) (u v : Int32) : PrI L xs (INV L xs P0) N S c mX8_book mX9_book [.int u, .int v] h := by
  obtain ⟨s, hr, cl, p, sr, n5, nc, sc⟩ := i
  exact pr_I (C_book cl.1.1.1 cl.1.1.2.1 cl.1.1.2.2.2.2.1 cl.1.2 p.1.1.ib u v (Nat.le_of_ble_eq_true rfl)) rok_i rfl rfl n5 nc sc (by omega) (by omega) hr.1.o sr cl p (⟨h, R_book hr p.c.1 p.1.1.ib u v (Nat.le_of_ble_eq_true rfl), hr, FM.rf⟩)

theorem k_ledger {L P0 N S c : Nat} {xs : Nat → Int32} {h : Hp} (i : INV L xs P0 c h) (hN : 501 + 28 * c ≤ N) (hS : P0 + 7700 * c ≤ S) (u : Int32) : PrI L xs (INV L xs P0) N S c mX8_ledger mX9_ledger [.int u] h := by
  obtain ⟨s, hr, cl, p, sr, n5, nc, sc⟩ := i
  exact pr_I (C_ledger cl.1.1.1 cl.1.1.2.1 cl.1.1.2.2.2.2.1 cl.1.2 p.1.1.ib u (Nat.le_of_ble_eq_true rfl)) rok_i rfl rfl n5 nc sc (by omega) (by omega) hr.1.o sr cl p (⟨h, R_ledger hr p.c.1 p.1.1.ib u (Nat.le_of_ble_eq_true rfl), hr, FM.rf⟩)

theorem k_odds {L P0 N S c : Nat} {xs : Nat → Int32} {h : Hp} (i : INV L xs P0 c h) (hN : 501 + 28 * c ≤ N) (hS : P0 + 7700 * c ≤ S) (u v w y : Int32) : PrJ L xs (INV L xs P0) N S c mX8_odds mX9_odds [.int (nI (b01 u)), .int v, .int w, .int (nI (b01 y))] h := by
  obtain ⟨s, hr, cl, p, sr, n5, nc, sc⟩ := i
  exact pr_J (C_odds cl.1 p.c.1 p.1.1.1.2.2.1 (b01_01 u) (b01_01 y) v w (Nat.le_of_ble_eq_true rfl)) rok_l rfl rfl n5 nc sc (by omega) (by omega) hr.1.o sr cl p (R_odds hr p.c.1 p.1.1.1.2.2.1 (b01_01 u) (b01_01 y) v w (Nat.le_of_ble_eq_true rfl))

theorem k_fair {L P0 N S c : Nat} {xs : Nat → Int32} {h : Hp} (i : INV L xs P0 c h) (hN : 501 + 28 * c ≤ N) (hS : P0 + 7700 * c ≤ S) (u v w y z : Int32) : PrJ L xs (INV L xs P0) N S c mX8_fair mX9_fair [.int (nI (b01 u)), .int v, .int w, .int y, .int (nI (b01 z))] h := by
  obtain ⟨s, hr, cl, p, sr, n5, nc, sc⟩ := i
  exact pr_J (C_fair cl.1 p.c.1 p.1.1.1.2.2.1 (b01_01 u) (b01_01 z) v w y (Nat.le_of_ble_eq_true rfl)) rok_l rfl rfl n5 nc sc (by omega) (by omega) hr.1.o sr cl p (R_fair hr p.c.1 p.1.1.1.2.2.1 (b01_01 u) (b01_01 z) v w y (Nat.le_of_ble_eq_true rfl))

theorem k_least {L P0 N S c : Nat} {xs : Nat → Int32} {h : Hp} (i : INV L xs P0 c h) (hN : 501 + 28 * c ≤ N) (hS : P0 + 7700 * c ≤ S) (u v : Int32) : PrI L xs (INV L xs P0) N S c mX8_least mX9_least [.int u, .int (nI (b01 v))] h := by
  obtain ⟨s, hr, cl, p, sr, n5, nc, sc⟩ := i
  exact pr_I (C_least cl.1 p.c.1 p.1.1.1.2.1 p.1.1.1.2.2.1 (b01_01 v) u (Nat.le_of_ble_eq_true rfl)) rok_i rfl rfl n5 nc sc (by omega) (by omega) hr.1.o sr cl p (⟨h, R_least hr p.c.1 p.1.1.1.2.1 p.1.1.1.2.2.1 (b01_01 v) u (Nat.le_of_ble_eq_true rfl), hr, FM.rf⟩)

theorem k_stop {L P0 N S c : Nat} {xs : Nat → Int32} {h : Hp} (i : INV L xs P0 c h) (hN : 501 + 28 * c ≤ N) (hS : P0 + 7700 * c ≤ S) (u : Int32) : PrI L xs (INV L xs P0) N S c mX8_stop mX9_stop [.int u] h := by
  obtain ⟨s, hr, cl, p, sr, n5, nc, sc⟩ := i
  exact pr_I (C_stop cl.1 p.c.1 p.1.1.1.2.1 u (Nat.le_of_ble_eq_true rfl)) rok_i rfl rfl n5 nc sc (by omega) (by omega) hr.1.o sr cl p (⟨h, R_stop hr p.c.1 p.1.1.1.2.1 u (Nat.le_of_ble_eq_true rfl), hr, FM.rf⟩)

theorem k_worst {L P0 N S c : Nat} {xs : Nat → Int32} {h : Hp} (i : INV L xs P0 c h) (hN : 501 + 28 * c ≤ N) (hS : P0 + 7700 * c ≤ S) (u : Int32) : PrI L xs (INV L xs P0) N S c mX8_worst mX9_worst [.int u] h := by
  obtain ⟨s, hr, cl, p, sr, n5, nc, sc⟩ := i
  exact pr_I (C_worst cl.1 p.c.1 p.1.2.2.1 u (Nat.le_of_ble_eq_true rfl)) rok_i rfl rfl n5 nc sc (by omega) (by omega) hr.1.o sr cl p (R_worst hr p.c.1 p.1.2.2.1 u (Nat.le_of_ble_eq_true rfl))

theorem k_purse {L P0 N S c : Nat} {xs : Nat → Int32} {h : Hp} (i : INV L xs P0 c h) (hN : 501 + 28 * c ≤ N) (hS : P0 + 7700 * c ≤ S) (u v : Int32) : PrI L xs (INV L xs P0) N S c mX8_purse mX9_purse [.int u, .int (nI (b01 v))] h := by
  obtain ⟨s, hr, cl, p, sr, n5, nc, sc⟩ := i
  exact pr_I (C_purse cl.1 p.c.1 p.1.2.2.1 (b01_01 v) u (Nat.le_of_ble_eq_true rfl)) rok_i rfl rfl n5 nc sc (by omega) (by omega) hr.1.o sr cl p (R_purse hr p.c.1 p.1.2.2.1 (b01_01 v) u (Nat.le_of_ble_eq_true rfl))

theorem k_worlds {L P0 N S c : Nat} {xs : Nat → Int32} {h : Hp} (i : INV L xs P0 c h) (hN : 501 + 28 * c ≤ N) (hS : P0 + 7700 * c ≤ S) (u v : Int32) : PrI L xs (INV L xs P0) N S c mX8_worlds mX9_worlds [.int u, .int v] h := by
  obtain ⟨s, hr, cl, p, sr, n5, nc, sc⟩ := i
  exact pr_I (C_worlds cl.1 p.c.1 p.1.2.2.2.1 p.1.1.1.2.1 u v (Nat.le_of_ble_eq_true rfl)) rok_i rfl rfl n5 nc sc (by omega) (by omega) hr.1.o sr cl p (⟨h, R_worlds hr p.c.1 p.1.2.2.2.1 p.1.1.1.2.1 u v (Nat.le_of_ble_eq_true rfl), hr, FM.rf⟩)

theorem k_tells {L P0 N S c : Nat} {xs : Nat → Int32} {h : Hp} (i : INV L xs P0 c h) (hN : 501 + 28 * c ≤ N) (hS : P0 + 7700 * c ≤ S) (u : Int32) : PrI L xs (INV L xs P0) N S c mX8_tells mX9_tells [.int u] h := by
  obtain ⟨s, hr, cl, p, sr, n5, nc, sc⟩ := i
  exact pr_I (C_tells cl.1 p.c.1 p.1.2.2.2.1 p.1.1.1.2.1 u (Nat.le_of_ble_eq_true rfl)) rok_i rfl rfl n5 nc sc (by omega) (by omega) hr.1.o sr cl p (⟨h, R_tells hr p.c.1 p.1.2.2.2.1 p.1.1.1.2.1 u (Nat.le_of_ble_eq_true rfl), hr, FM.rf⟩)

