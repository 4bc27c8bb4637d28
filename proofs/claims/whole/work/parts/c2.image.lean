/-! image, back (wip/whole/genc2.py) -/
theorem TXC.ex {h h1 : Hp} {tf : Nat → Int32} {t x : Nat} (ht : TXC h tf t x) (e : EX h h1) (q : ∀ k, 501 ≤ k → k < pn h → pI h1 k = pI h k ∧ pR h1 k = pR h k) : TXC h1 tf t x := by
  obtain ⟨t1, t2, ⟨t3, t4, t5, t6⟩, t7⟩ := ht
  have a0 := q x t1 t2.2.1
  have a1 := q (x + 1) (by omega) t4.1.2.1
  have a2 := q (x + 1 + 1) (by omega) t4.2.2.2.1
  refine ⟨t1, e.O t2, ⟨by rw [a0.2]; exact t3, e.rw t4 (by rw [a1.2]), t5.fr a1.1, fun k s h1 h2 h3 => ?_⟩, fun s hs3 => ?_⟩
  · rw [a2.1]; exact t6 k s h1 h2 h3
  · obtain ⟨c, hc, w⟩ := t7 s hs3
    refine ⟨c, by rw [a0.2]; exact hc, ?_⟩
    rcases w with ⟨w1, w2, w3⟩ | ⟨w1, w2⟩
    · have ac := q c w2 w3.1.2.1
      exact Or.inl ⟨w1, w2, e.A w3.1, w3.2.1, w3.2.2.1, fun i hi => by rw [ac.1]; exact w3.2.2.2.1 i hi, w3.2.2.2.2⟩
    · exact Or.inr ⟨w1, e.Z w2⟩
theorem FX.ex {b : Nat} {h h1 : Hp} (f : FX b h h1) : EX h h1 := ⟨by rw [f.1]; exact Nat.le_refl _, fun k _ => by rw [f.2.2.1]⟩
theorem TXC.fx {b t x : Nat} {h h1 : Hp} {tf : Nat → Int32} (q : TXC h tf t x) (f : FX b h h1) (hb : b ≤ 237) : TXC h1 tf t x := q.ex f.ex (fun k hk _ => ⟨f.2.2.2.2.1 k (by omega), f.2.2.2.2.2 k (by omega)⟩)
theorem MV.fx {h h1 : Hp} {b : Nat} {a : Fl} {tx tx2 : Nat → Nat → Prop} (hv : MV h b a tx) (h4 : a 4 ≤ 30) (hR : pR h1 (b + 17) = pR h (b + 17)) (fr : ∀ k, b ≤ k → k ≤ b + 227 → pI h1 k = pI h k) (ht2 : ∀ t x, tx t x → tx2 t x) : MV h1 b a tx2 := by
  obtain ⟨v1, ⟨e, e1, e2, e3⟩, v3, v4, v5, v6, v7, v8, v9, v10, v11⟩ := hv
  exact ⟨v1.fr (fun k k1 k2 => fr k (by omega) (by omega)), ⟨e, e1, by rw [fr b (by omega) (by omega)]; exact e2, fun t ht => (e3 t ht).fr (fun k k1 k2 => fr k (by omega) (by have := Nat.mod_lt (e + t) (show 0 < 30 by omega); omega))⟩, by rw [fr b (by omega) (by omega)]; exact v3, fun i hi => by
    obtain ⟨W, w⟩ := v4 i hi
    exact ⟨W, w.fr (fun k k1 k2 => fr k (by omega) (by omega))⟩, v5.fr (fr _ (by omega) (by omega)) (fr _ (by omega) (by omega)), v6.fr (fr _ (by omega) (by omega)) (fr _ (by omega) (by omega)), v7.fr (fr _ (by omega) (by omega)) (fr _ (by omega) (by omega)), v8.fr (fr _ (by omega) (by omega)) (fr _ (by omega) (by omega)), by rw [fr b (by omega) (by omega)]; exact v9, by rw [fr b (by omega) (by omega)]; exact v10, fun t ht => by
    obtain ⟨x, x1, x2⟩ := v11 t ht
    exact ⟨x, by rw [hR]; exact x1, ht2 _ _ x2⟩⟩
theorem FX.cb {b : Nat} {h h1 : Hp} (f : FX b h h1) (hb : b = 9 ∨ b = 237) (c : CB h) : CB h1 := by
  have r : ∀ k, (k = 8 ∨ k = 481) → pR h1 k = pR h k := fun k hk => f.2.2.2.2.2 k (by omega)
  obtain ⟨c1, c2, c3, ⟨k1, k2, k3, k4, k5⟩, c5, c6⟩ := c
  exact ⟨f.O c1, by rw [r 8 (by omega)]; exact c2, by rw [r 8 (by omega)]; exact c3, ⟨f.O k1, by rw [r 481 (by omega)]; exact k2, f.A k3, by rw [r 481 (by omega)]; exact k4, f.A k5⟩, f.mk (by omega) c5, f.ex.Z c6⟩
theorem CO.fx {q : Fl × Fl × Nat × Int32 × Int32 × (Nat → Int32)} {i : Fl} {b : Nat} {h h1 : Hp} (c : CO q h) (f : FX b h h1) (hb : b = 9 ∨ b = 237) (mv : MV h1 237 i (TXC h1 q.2.2.2.2.2)) : CO (i, q.2) h1 := by
  have r : ∀ k, (k = 8 ∨ 465 ≤ k) → pR h1 k = pR h k := fun k hk => f.2.2.2.2.2 k (by omega)
  have e : ∀ k, (k = 8 ∨ 465 ≤ k) → pI h1 k = pI h k := fun k hk => f.2.2.2.2.1 k (by omega)
  obtain ⟨⟨s1, s2, W, s3⟩, ⟨k1, k2, k3, k4, k5⟩, ⟨d1, d2, d3, d4, d5, d6, d7⟩, c4, ⟨r1, r2, r3, r4⟩, c5, _, c7, c8, c9⟩ := c
  exact ⟨⟨by rw [r 8 (by omega)]; exact s1, f.wo (fun k k1 k2 => by omega) s2, W, s3.fr (fun k k1 k2 => e k (by omega))⟩, ⟨f.O k1, by rw [r 484 (by omega)]; exact k2, f.A k3, by rw [r 484 (by omega)]; exact k4, f.A k5⟩, ⟨f.O d1, by rw [r 472 (by omega)]; exact d2, f.O d3, ⟨by rw [r 473 (by omega)]; exact d4.1, f.A d4.2⟩, ⟨by rw [r 473 (by omega)]; exact d5.1, f.A d5.2⟩, ⟨by rw [r 473 (by omega)]; exact d6.1, f.A d6.2⟩, ⟨by rw [r 472 (by omega)]; exact d7.1, f.A d7.2⟩⟩, f.mk (by omega) c4, ⟨by rw [r 8 (by omega)]; exact r1, by rw [r 8 (by omega)]; exact r2, by rw [r 8 (by omega)]; exact r3, by rw [r 8 (by omega)]; exact r4⟩, f.A c5, mv, ⟨fun j hj => by rw [e 487 (by omega)]; exact c7.1 j hj, by rw [e 8 (by omega)]; exact c7.2⟩, by rw [e 8 (by omega)]; exact c8, by rw [e 8 (by omega)]; exact c9⟩

theorem k_image {L P0 N S c : Nat} {xs : Nat → Int32} {h : Hp} (i : INV L xs P0 c h) (hN : 501 + 28 * c ≤ N) (hS : P0 + 7700 * c ≤ S) : PrI L xs (INV L xs P0) N S c mX8_image mX9_image [] h := by
  obtain ⟨s, hr, cl, p, sr, n5, nc, sc⟩ := i
  obtain ⟨h1, s1, m, f⟩ := C_image (d := 139) cl.1.1.1 cl.1.1.2.1 cl.2.2.2.2.2.1.1 cl.1.1.2.2.2.2.1 cl.2.2.2.2.1 cl.1.2 cl.2.2.2.2.2.2.2.1 p.c.1 (fun t x q => q.2.1) (Nat.le_of_ble_eq_true rfl)
  have h4 := p.c.1.2.2.2.2.1
  exact pr_I (s' := (s.1, s.1, s.2.2)) s1 rok_i f.1 f.2.1 n5 nc sc (by omega) (by omega) (f.O hr.1.o) (sr.fr f.1 f.2.2.1 (f.2.2.2.2.1 1 (by omega))) ⟨⟨f.cb (Or.inr rfl) cl.1.1, cl.1.2.fx h4 (f.2.2.2.2.2 26 (by omega)) (fun k k1 k2 => f.2.2.2.2.1 k (by omega)) (fun t x q => q.fx f (by omega))⟩, cl.2.fx f (Or.inr rfl) (m.fx h4 rfl (fun _ _ _ => rfl) (fun t x q => q.fx f (by omega)))⟩ ⟨p.1, p.1, p.2.2.1, Nat.le_refl _⟩ (R_image (hr.fr (f.M (by omega) hr.1) (fun k k1 k2 => f.2.2.2.2.1 k (by omega))) (Nat.le_of_ble_eq_true rfl))

theorem k_back {L P0 N S c : Nat} {xs : Nat → Int32} {h : Hp} (i : INV L xs P0 c h) (hN : 501 + 28 * c ≤ N) (hS : P0 + 7700 * c ≤ S) : PrI L xs (INV L xs P0) N S c mX8_back mX9_back [] h := by
  obtain ⟨s, hr, cl, p, sr, n5, nc, sc⟩ := i
  obtain ⟨h1, s1, m, f⟩ := C_back (d := 139) cl.1.1.1 cl.1.1.2.1 cl.2.2.2.2.2.1.1 cl.1.1.2.2.2.2.1 cl.2.2.2.2.1 cl.1.2 cl.2.2.2.2.2.2.2.1 p.c.2 (fun t x q => q.2.1) (Nat.le_of_ble_eq_true rfl)
  have h4 := p.c.2.2.2.2.2.1
  exact pr_I (s' := (s.2.1, s.2.1, s.2.2)) s1 rok_i f.1 f.2.1 n5 nc sc (by omega) (by omega) (f.O hr.1.o) (sr.fr f.1 f.2.2.1 (f.2.2.2.2.1 1 (by omega))) ⟨⟨f.cb (Or.inl rfl) cl.1.1, m.fx h4 rfl (fun _ _ _ => rfl) (fun t x q => q.fx f (by omega))⟩, cl.2.fx f (Or.inl rfl) (cl.2.2.2.2.2.2.2.1.fx h4 (f.2.2.2.2.2 254 (by omega)) (fun k k1 k2 => f.2.2.2.2.1 k (by omega)) (fun t x q => q.fx f (by omega)))⟩ ⟨p.2.1, p.2.1, p.2.2.1, Nat.le_refl _⟩ (R_back (hr.fr (f.M (by omega) hr.1) (fun k k1 k2 => f.2.2.2.2.1 k (by omega))) (Nat.le_of_ble_eq_true rfl))

