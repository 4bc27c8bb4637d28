/-! prophet, foretell, bring, spoil, sell, day, years, played keep what holds (wip/whole/gend2.py) -/
theorem b01_le (x : Int32) : b01 x ≤ 1 := by
  rcases b01_01 x with e | e
  · omega
  · omega
theorem bring_01 (a : Fl) (so : Nat) (p f : Int32) : (mBring a so p f).1 = 0 ∨ (mBring a so p f).1 = 1 := by
  unfold mBring
  split
  · exact Or.inr rfl
  · exact Or.inl rfl
theorem sell_01 (a : Fl) (k t m : Int32) : (mSell a k t m).1 = 0 ∨ (mSell a k t m).1 = 1 := by
  unfold mSell
  split
  · exact Or.inr rfl
  · exact Or.inl rfl

theorem k_prophet {L P0 N S c : Nat} {xs : Nat → Int32} {h : Hp} (i : INV L xs P0 c h) (hN : 501 + 28 * c ≤ N) (hS : P0 + 7700 * c ≤ S) (u v : Int32) : PrI L xs (INV L xs P0) N S c mX8_prophet mX9_prophet [.int u, .int v] h := by
  obtain ⟨s, hr, cl, p, sr, n5, nc, sc⟩ := i
  have pa := p.1.prophet u v
  obtain ⟨h1, s1, m, f⟩ := C_prophet (d := 139) cl.1.1.1 cl.1.1.2.1 cl.1.1.2.2.2.2.1 cl.1.2 p.c.1 u v (Nat.le_of_ble_eq_true rfl)
  exact pr_Z s1 rok_i (cl.1.of f m pa.1.1.1.1.2.2.2.2.1) f.z hr cl p pa.1 pa.2 sr n5 nc sc (by omega) (by omega) (fun q => R_prophet q p.c.1 u v (Nat.le_of_ble_eq_true rfl))

theorem k_foretell {L P0 N S c : Nat} {xs : Nat → Int32} {h : Hp} (i : INV L xs P0 c h) (hN : 501 + 28 * c ≤ N) (hS : P0 + 7700 * c ≤ S) (u v w y z : Int32) : PrI L xs (INV L xs P0) N S c mX8_foretell mX9_foretell [.int u, .int (nI (b01 v)), .int w, .int y, .int z] h := by
  obtain ⟨s, hr, cl, p, sr, n5, nc, sc⟩ := i
  have pa := p.1.foretell u (b01_le v) w y z
  obtain ⟨h1, s1, m, f⟩ := C_foretell (d := 139) cl.1.1.1 cl.1.1.2.1 cl.1.1.2.2.2.2.1 cl.1.2 p.c.1 p.1.1.ip u (b01_01 v) w y z (Nat.le_of_ble_eq_true rfl)
  exact pr_Z s1 rok_i (cl.1.of f m pa.1.1.1.1.2.2.2.2.1) f.z hr cl p pa.1 pa.2 sr n5 nc sc (by omega) (by omega) (fun q => R_foretell q p.c.1 p.1.1.ip u (b01_01 v) w y z (Nat.le_of_ble_eq_true rfl))

theorem k_bring {L P0 N S c : Nat} {xs : Nat → Int32} {h : Hp} (i : INV L xs P0 c h) (hN : 501 + 28 * c ≤ N) (hS : P0 + 7700 * c ≤ S) (u v : Int32) : PrI L xs (INV L xs P0) N S c mX8_bring mX9_bring [.int u, .int v] h := by
  obtain ⟨s, hr, cl, p, sr, n5, nc, sc⟩ := i
  have pa := p.1.bring 0 u v
  obtain ⟨h1, s1, m, f⟩ := C_bring (d := 139) cl.1.1.1 cl.1.1.2.1 cl.1.1.2.2.2.2.1 cl.1.2 p.c.1 p.1.1.ip p.1.1.1.2.2.1 u v (Nat.le_of_ble_eq_true rfl)
  exact pr_Z s1 (rok_z (bring_01 s.1 0 u v)) (cl.1.of f m pa.1.1.1.1.2.2.2.2.1) f.z hr cl p pa.1 pa.2 sr n5 nc sc (by omega) (by omega) (fun q => R_bring q p.c.1 p.1.1.ip p.1.1.1.2.2.1 u v (Nat.le_of_ble_eq_true rfl))

theorem k_spoil {L P0 N S c : Nat} {xs : Nat → Int32} {h : Hp} (i : INV L xs P0 c h) (hN : 501 + 28 * c ≤ N) (hS : P0 + 7700 * c ≤ S) (u v : Int32) : PrI L xs (INV L xs P0) N S c mX8_spoil mX9_spoil [.int u, .int v] h := by
  obtain ⟨s, hr, cl, p, sr, n5, nc, sc⟩ := i
  have pa := p.1.bring 1 u v
  obtain ⟨h1, s1, m, f⟩ := C_spoil (d := 139) cl.1.1.1 cl.1.1.2.1 cl.1.1.2.2.2.2.1 cl.1.2 p.c.1 p.1.1.ip p.1.1.1.2.2.1 u v (Nat.le_of_ble_eq_true rfl)
  exact pr_Z s1 (rok_z (bring_01 s.1 1 u v)) (cl.1.of f m pa.1.1.1.1.2.2.2.2.1) f.z hr cl p pa.1 pa.2 sr n5 nc sc (by omega) (by omega) (fun q => R_spoil q p.c.1 p.1.1.ip p.1.1.1.2.2.1 u v (Nat.le_of_ble_eq_true rfl))

theorem k_sell {L P0 N S c : Nat} {xs : Nat → Int32} {h : Hp} (i : INV L xs P0 c h) (hN : 501 + 28 * c ≤ N) (hS : P0 + 7700 * c ≤ S) (u v w : Int32) : PrI L xs (INV L xs P0) N S c mX8_sell mX9_sell [.int u, .int v, .int w] h := by
  obtain ⟨s, hr, cl, p, sr, n5, nc, sc⟩ := i
  have pa := p.1.sell u v w
  obtain ⟨h1, s1, m, f⟩ := C_sell (d := 139) cl.1.1.1 cl.1.1.2.1 cl.1.1.2.2.2.2.1 cl.1.2 p.c.1 p.1.1.1.2.1 p.c.1.1 u v w (Nat.le_of_ble_eq_true rfl)
  exact pr_Z s1 (rok_z (sell_01 s.1 u v w)) (cl.1.of f m pa.1.1.1.1.2.2.2.2.1) f.z hr cl p pa.1 pa.2 sr n5 nc sc (by omega) (by omega) (fun q => R_sell q p.c.1.2.2.2.2.1 p.1.1.1.2.1 p.c.1.1 u v w (Nat.le_of_ble_eq_true rfl))

theorem k_day {L P0 N S c : Nat} {xs : Nat → Int32} {h : Hp} (i : INV L xs P0 c h) (hN : 501 + 28 * c ≤ N) (hS : P0 + 7700 * c ≤ S) (u : Int32) : PrI L xs (INV L xs P0) N S c mX8_day mX9_day [.int u] h := by
  obtain ⟨s, hr, cl, p, sr, n5, nc, sc⟩ := i
  have pa := p.1.day u
  obtain ⟨h1, s1, m, f⟩ := C_day (d := 139) cl.1 p.1.1.1 u (Nat.le_of_ble_eq_true rfl)
  exact pr_Z s1 rok_i m f hr cl p pa.1 pa.2 sr n5 nc sc (by omega) (by omega) (fun q => R_day q p.1.1.1 u (Nat.le_of_ble_eq_true rfl))

theorem k_years {L P0 N S c : Nat} {xs : Nat → Int32} {h : Hp} (i : INV L xs P0 c h) (hN : 501 + 28 * c ≤ N) (hS : P0 + 7700 * c ≤ S) (u v : Int32) : PrI L xs (INV L xs P0) N S c mX8_years mX9_years [.int u, .int v] h := by
  obtain ⟨s, hr, cl, p, sr, n5, nc, sc⟩ := i
  have pa := p.1.years u v
  obtain ⟨h1, s1, m, f⟩ := C_years (d := 139) cl.1 p.1.1 u v (Nat.le_of_ble_eq_true rfl)
  exact pr_Z s1 rok_i m f hr cl p pa.1 pa.2 sr n5 nc sc (by omega) (by omega) (fun q => R_years q p.1.1 u v (Nat.le_of_ble_eq_true rfl))

theorem k_played {L P0 N S c : Nat} {xs : Nat → Int32} {h : Hp} (i : INV L xs P0 c h) (hN : 501 + 28 * c ≤ N) (hS : P0 + 7700 * c ≤ S) (u : Int32) : PrI L xs (INV L xs P0) N S c mX8_played mX9_played [.int u] h := by
  obtain ⟨s, hr, cl, p, sr, n5, nc, sc⟩ := i
  have pa := p.1.played u
  obtain ⟨h1, s1, m, f⟩ := C_played (d := 139) cl.1 p.1.1 p.1.2.2.2.2.2.2.1 p.1.2.2.2.2.2.2.2 u (Nat.le_of_ble_eq_true rfl)
  exact pr_Z s1 rok_i m f hr cl p pa.1 pa.2 sr n5 nc sc (by omega) (by omega) (fun q => R_played q p.1.1 p.1.2.2.2.2.2.2.1 p.1.2.2.2.2.2.2.2 u (Nat.le_of_ble_eq_true rfl))

