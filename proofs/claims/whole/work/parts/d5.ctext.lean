/-! text keeps what holds: the class (wip/whole/gend5.py) -/
theorem ex_wo2 {h h1 : Hp} {w : Nat} (e : EX h h1) (s : WoS h w) (eR : ∀ k j, k < 472 → k ≠ 26 → pR h1 k j = pR h k j) (hw : w + 6 < 472) (h26 : w + 6 < 26 ∨ 26 < w) : WoS h1 w := by
  obtain ⟨s1, s2, s3, s4, s5, s6, s7⟩ := s
  exact ⟨e.O s1, by rw [eR _ _ (by omega) (by omega)]; exact s2, e.rw s3 (eR _ _ (by omega) (by omega)), by rw [eR _ _ (by omega) (by omega)]; exact s4, e.rw s5 (eR _ _ (by omega) (by omega)), by rw [eR _ _ (by omega) (by omega)]; exact s6, e.rw s7 (eR _ _ (by omega) (by omega))⟩
theorem ex_mk2 {h h1 : Hp} {b : Nat} (e : EX h h1) (s : MkS h b) (eR : ∀ k j, k < 472 → k ≠ 26 → pR h1 k j = pR h k j) (hb : b = 9 ∨ b = 237) : MkS h1 b := by
  obtain ⟨s1, ⟨s2, s3⟩, ⟨s4, s5⟩, s6, ⟨s7, s8⟩, ⟨s9, s10⟩, ⟨s11, s12⟩, ⟨s13, s14⟩, ⟨s15, s16⟩⟩ := s
  exact ⟨e.O s1, ⟨by rw [eR _ _ (by omega) (by omega)]; exact s2, ex_wo2 e s3 eR (by omega) (by omega)⟩, ⟨by rw [eR _ _ (by omega) (by omega)]; exact s4, e.A s5⟩, fun i hi => ⟨by rw [eR _ _ (by omega) (by omega)]; exact (s6 i hi).1, ex_wo2 e (s6 i hi).2 eR (by omega) (by omega)⟩, ⟨by rw [eR _ _ (by omega) (by omega)]; exact s7, e.rw s8 (eR _ _ (by omega) (by omega))⟩, ⟨by rw [eR _ _ (by omega) (by omega)]; exact s9, e.rw s10 (eR _ _ (by omega) (by omega))⟩, ⟨by rw [eR _ _ (by omega) (by omega)]; exact s11, e.rw s12 (eR _ _ (by omega) (by omega))⟩, ⟨by rw [eR _ _ (by omega) (by omega)]; exact s13, e.rw s14 (eR _ _ (by omega) (by omega))⟩, ⟨by rw [eR _ _ (by omega) (by omega)]; exact s15, e.A s16⟩⟩
theorem MV.fx2 {h h1 : Hp} {b : Nat} {a : Fl} {tx tx2 : Nat → Nat → Prop} (hv : MV h b a tx) (h4 : a 4 ≤ 30) (hR : pR h1 (b + 17) = pR h (b + 17)) (fr : ∀ k, b ≤ k → k ≤ b + 227 → pI h1 k = pI h k) (ht2 : ∀ t x, t < a 2 → tx t x → tx2 t x) : MV h1 b a tx2 := by
  obtain ⟨v1, ⟨e, e1, e2, e3⟩, v3, v4, v5, v6, v7, v8, v9, v10, v11⟩ := hv
  exact ⟨v1.fr (fun k k1 k2 => fr k (by omega) (by omega)), ⟨e, e1, by rw [fr b (by omega) (by omega)]; exact e2, fun t ht => (e3 t ht).fr (fun k k1 k2 => fr k (by omega) (by have := Nat.mod_lt (e + t) (show 0 < 30 by omega); omega))⟩, by rw [fr b (by omega) (by omega)]; exact v3, fun i hi => by
    obtain ⟨W, w⟩ := v4 i hi
    exact ⟨W, w.fr (fun k k1 k2 => fr k (by omega) (by omega))⟩, v5.fr (fr _ (by omega) (by omega)) (fr _ (by omega) (by omega)), v6.fr (fr _ (by omega) (by omega)) (fr _ (by omega) (by omega)), v7.fr (fr _ (by omega) (by omega)) (fr _ (by omega) (by omega)), v8.fr (fr _ (by omega) (by omega)) (fr _ (by omega) (by omega)), by rw [fr b (by omega) (by omega)]; exact v9, by rw [fr b (by omega) (by omega)]; exact v10, fun t ht => by
    obtain ⟨x, x1, x2⟩ := v11 t ht
    exact ⟨x, by rw [hR]; exact x1, ht2 _ _ ht x2⟩⟩
/-- the market with another number of texts -/
theorem MV.txx {h h1 : Hp} {a a' : Fl} {tx tx2 : Nat → Nat → Prop} (hv : MV h 9 a tx) (h4 : a 4 ≤ 30) (e9 : ∀ j, j ≠ 9 → pI h1 9 j = pI h 9 j) (fr : ∀ k, 10 ≤ k → k ≤ 236 → pI h1 k = pI h k) (ea : ∀ i, i ≠ 2 → a' i = a i) (n9 : pI h1 9 9 = nI (a' 2)) (txs : ∀ t, t < a' 2 → ∃ x, pR h1 26 t = some x ∧ tx2 t x) : MV h1 9 a' tx2 := by
  obtain ⟨v1, ⟨e, e1, e2, e3⟩, v3, v4, v5, v6, v7, v8, v9, v10, v11⟩ := hv
  refine ⟨?_, ⟨e, e1, by rw [e9 2 (by omega)]; exact e2, fun t ht => ?_⟩, by rw [e9 3 (by omega), ea 4 (by omega)]; exact v3, fun i hi => ?_, v5.keep (fr _ (by omega) (by omega)) (fr _ (by omega) (by omega)) (ea 0 (by omega)) (fun i i1 i2 => ea i (by omega)), v6.keep (fr _ (by omega) (by omega)) (fr _ (by omega) (by omega)) (ea 5 (by omega)) (fun i i1 i2 => ea i (by omega)), v7.keep (fr _ (by omega) (by omega)) (fr _ (by omega) (by omega)) (ea 6 (by omega)) (fun i i1 i2 => ea i (by omega)), v8.keep (fr _ (by omega) (by omega)) (fr _ (by omega) (by omega)) (ea 7 (by omega)) (fun i i1 i2 => ea i (by omega)), n9, ?_, txs⟩
  · rw [snap_cg2 ea]
    exact v1.fr (fun k k1 k2 => fr k (by omega) (by omega))
  · rw [ea 4 (by omega)] at ht
    have w := (e3 t ht).fr (h1 := h1) (fun k k1 k2 => fr k (by omega) (by have := Nat.mod_lt (e + t) (show 0 < 30 by omega); omega))
    rw [show (fun i => a' (190 + 154 * t + i)) = fun i => a (190 + 154 * t + i) from funext fun i => ea _ (by omega)]
    exact w
  · obtain ⟨W, w⟩ := v4 i hi
    exact ⟨W, w.fr (fun k k1 k2 => fr k (by omega) (by omega))⟩
  · rw [e9 10 (by omega), v10]
    unfold cI
    rw [if_pos rfl, if_pos rfl, ea 3 (by omega)]
theorem FTx.I {t k : Nat} {h h1 : Hp} (f : FTx t h h1) (hk : k < pn h) (k1 : k < 472 ∨ 477 < k) (k8 : k ≠ 8) (k9 : k ≠ 9) : pI h1 k = pI h k := funext fun j => (f.2.2 k hk).2.1 k1 j (Or.inl k8) (Or.inl k9)
theorem FTx.R {t k j : Nat} {h h1 : Hp} (f : FTx t h h1) (hk : k < pn h) (k1 : k ≠ 472 ∨ j ≠ 7) (k2 : k ≠ 26 ∨ j ≠ t) : pR h1 k j = pR h k j := (f.2.2 k hk).2.2 j k1 k2
theorem FTx.ec {t u x : Nat} {h h1 : Hp} {tf : Nat → Int32} (f : FTx t h h1) (q : TXC h tf u x) : TXC h1 tf u x := q.ex f.1 (fun k k1 k2 => ⟨f.I k2 (by omega) (by omega) (by omega), funext fun j => f.R k2 (by omega) (by omega)⟩)
theorem FTx.sm {t : Nat} {h h1 : Hp} (f : FTx t h h1) (h5 : 501 ≤ pn h) (m : SM h) : SM h1 := by
  have r : pR h1 488 = pR h 488 := funext fun j => f.R (by omega) (by omega) (by omega)
  obtain ⟨m1, m2, m3, m4, m5, m6, m7, m8, m9, m10, m11, m12, m13⟩ := m
  unfold SM
  rw [r]
  exact ⟨f.1.O m1, ⟨m2.1, f.1.A m2.2⟩, ⟨m3.1, f.1.A m3.2⟩, ⟨m4.1, f.1.A m4.2⟩, ⟨m5.1, f.1.A m5.2⟩, ⟨m6.1, f.1.A m6.2⟩, ⟨m7.1, f.1.A m7.2⟩, ⟨m8.1, f.1.A m8.2⟩, ⟨m9.1, f.1.A m9.2⟩, ⟨m10.1, f.1.A m10.2⟩, ⟨m11.1, f.1.A m11.2⟩, ⟨m12.1, f.1.A m12.2⟩, ⟨m13.1, f.1.A m13.2⟩⟩
theorem FTx.r26 {t : Nat} {h h1 : Hp} (f : FTx t h h1) (h5 : 501 ≤ pn h) : ∀ k j, k < 472 → k ≠ 26 → pR h1 k j = pR h k j := fun k j k1 k2 => f.R (by omega) (by omega) (by omega)
theorem FTx.cb {t : Nat} {h h1 : Hp} (f : FTx t h h1) (h5 : 501 ≤ pn h) (c : CB h) : CB h1 := by
  obtain ⟨c1, c2, c3, ⟨k1, k2, k3, k4, k5⟩, c5, c6⟩ := c
  exact ⟨f.1.O c1, by rw [f.r26 h5 8 0 (by omega) (by omega)]; exact c2, by rw [f.r26 h5 8 4 (by omega) (by omega)]; exact c3, ⟨f.1.O k1, by rw [f.R (by omega) (by omega) (by omega)]; exact k2, f.1.A k3, by rw [f.R (by omega) (by omega) (by omega)]; exact k4, f.1.A k5⟩, ex_mk2 f.1 c5 (f.r26 h5) (Or.inl rfl), f.1.Z c6⟩
/-- the class behind a text, whatever the new text is -/
theorem FTx.cls {t : Nat} {s : Ms} {h h1 : Hp} {tf1 : Nat → Int32} {a' : Fl} {z p : Int32} (f : FTx t h h1) (h5 : 501 ≤ pn h) (cl : CLS s h) (pi : PI s) (et : s.1 2 = t) (cr : CR h1) (e7 : pI h1 8 7 = 0) (e8 : pI h1 8 8 = z) (e9 : pI h1 8 9 = p) (ea : ∀ i, i ≠ 2 → a' i = s.1 i) (n9 : pI h1 9 9 = nI (a' 2)) (a2 : a' 2 = t ∨ a' 2 = t + 1 ∧ ∃ x, pR h1 26 t = some x ∧ TXC h1 tf1 t x) (e : ∀ i, (i < 753 * t ∨ 753 * t + 753 ≤ i) → tf1 i = s.2.2.2.2.2.2 i) : CLS (a', s.2.1, s.2.2.1, 0, z, p, tf1) h1 := by
  have h4 := pi.c.1.2.2.2.2.1
  have h4i := pi.c.2.2.2.2.2.1
  have i2 := pi.2.2.2
  have tx : ∀ u x, u < t → TXC h s.2.2.2.2.2.2 u x → TXC h1 tf1 u x := fun u x hu q => (f.ec q).cg (pi.1.2.2.2.2.2.2.1 u (by omega)) (fun i i1 i2 => e i (by omega))
  obtain ⟨⟨cb, mv⟩, ⟨s1, s2, W, s3⟩, ⟨k1, k2, k3, k4, k5⟩, c3, c4, ⟨r1, r2, r3, r4⟩, c5, c6, c7, c8, c9⟩ := cl
  refine ⟨⟨f.cb h5 cb, mv.txx h4 (fun j hj => (f.2.2 9 (by omega)).2.1 (by omega) j (by omega) (Or.inr hj)) (fun k k1 k2 => f.I (by omega) (by omega) (by omega) (by omega)) ea n9 (fun u hu => ?_)⟩, ⟨by rw [f.r26 h5 8 2 (by omega) (by omega)]; exact s1, ex_wo2 f.1 s2 (f.r26 h5) (by omega) (by omega), W, s3.fr (fun k k1 k2 => f.I (by omega) (by omega) (by omega) (by omega))⟩, ⟨f.1.O k1, by rw [f.R (by omega) (by omega) (by omega)]; exact k2, f.1.A k3, by rw [f.R (by omega) (by omega) (by omega)]; exact k4, f.1.A k5⟩, cr, ex_mk2 f.1 c4 (f.r26 h5) (Or.inr rfl), ⟨by rw [f.r26 h5 8 1 (by omega) (by omega)]; exact r1, by rw [f.r26 h5 8 3 (by omega) (by omega)]; exact r2, by rw [f.r26 h5 8 5 (by omega) (by omega)]; exact r3, by rw [f.r26 h5 8 6 (by omega) (by omega)]; exact r4⟩, f.1.A c5, c6.fx2 h4i (funext fun j => f.r26 h5 254 j (by omega) (by omega)) (fun k k1 k2 => f.I (by omega) (by omega) (by omega) (by omega)) (fun u x hu q => tx u x (by omega) q), ⟨fun i hi => ?_, e7⟩, e8, e9⟩
  · have lt : u < t → ∃ x, pR h1 26 u = some x ∧ TXC h1 tf1 u x := fun hu => by
      obtain ⟨x, x1, x2⟩ := mv.2.2.2.2.2.2.2.2.2.2 u (by omega)
      have x1 : pR h 26 u = some x := x1
      exact ⟨x, by rw [f.R (by omega) (by omega) (Or.inr (by omega))]; exact x1, tx u x hu x2⟩
    rcases a2 with a2 | ⟨a2, x, x1, x2⟩
    · exact lt (Nat.lt_of_lt_of_eq hu a2)
    · by_cases q : u = t
      · rw [q]; exact ⟨x, x1, x2⟩
      · have hu : u < a' 2 := hu
        exact lt (by omega)
  · rw [f.I (by omega) (by omega) (by omega) (by omega)]
    exact c7.1 i hi

