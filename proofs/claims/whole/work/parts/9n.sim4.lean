/-! the reference goes along the descent: if, and so all (wip/whole/gen9n.py) -/
theorem lg_y {h0 : Hp} {d N S : Nat} {Q : Option Value → Hp → Prop} {s : Ms} {t w0 so n : Nat} {l j op x y : Nat} {ro : List Nat} {e : Cd} (cx : CXr h0 d N S s t so n) (h1l : 1 ≤ l) (bx : BD w0 n (x :: ro) (op + 1) j e) (hl : ro.length ≤ 6 * op + 5) (hx : 40 ≤ x) (hy : y = 43 ∨ y = 44) (hb : ∀ p, (∀ x ∈ p, l ≤ rk x ∧ rk x ≤ 6) → (l ≤ 4 → cpd (p ++ x :: ro) = true) → btw ((tK (TPs s) (TNs s)) j) (p ++ x :: ro) = -1 ∧ prt ((tK (TPs s) (TNs s)) j) (opV (x :: ro)) (p ++ x :: ro) = nI y) (k : GO h0 d N S Q s t w0 so (j + 1) (y :: ro) (op + 1) 0 e) : LG h0 d N S Q s t w0 so l j (x :: ro) (op + 1) e := by
  obtain ⟨ht, ht4, hN, hS, hd, hK, n3, hso⟩ := id cx
  intro p c' h1 h2 h3 h4 h5
  have h1' : ∀ x ∈ p, 1 ≤ rk x ∧ rk x ≤ 6 := fun x hx => ⟨by have := (h1 x hx).1; omega, (h1 x hx).2⟩
  have ovp : opV (p ++ x :: ro) = opV (x :: ro) := opV_lo p _ h1'
  have el : (p ++ x :: ro).length = p.length + (ro.length + 1) := List.length_append ..
  have ec : c'.length + p.length = e.length := by rw [← h5, List.length_append, List.length_map]
  have h3 : p.length + (ro.length + 1) ≤ 6 * (op + 1 + nOp p) + 6 := h3
  have t1 : w0 + e.length + (ro.length + 1) ≤ j := bx.1
  have t2 := bx.2.1
  have t3 := bx.2.2.1
  have rx : rk x = 0 := if_pos hx
  exact go_y (x := x) ht (hb p h1 h2).1 (by rw [ovp]; exact (hb p h1 h2).2) hy (by rw [stl_lag (l := 1) (ro := x :: ro) (show rk x < 1 by omega) p c' h1', h5]) hx (by omega) ht4 (by omega) (by omega) (by rw [nOp_app]; omega) (by omega) hN hS hd k
theorem lg_i {h0 : Hp} {d N S : Nat} {Q : Option Value → Hp → Prop} {s : Ms} {t w0 so n : Nat} {j op : Nat} {ro : List Nat} {e : Cd} (cx : CXr h0 d N S s t so n) (bx : BD w0 n (44 :: ro) (op + 1) j e) (hl : ro.length ≤ 6 * op + 5) (h3n : nOp ro ≤ op) (hj : j < n) (hb : ∀ p, (∀ x ∈ p, 5 ≤ rk x ∧ rk x ≤ 6) → btw ((tK (TPs s) (TNs s)) j) (p ++ 44 :: ro) = -1) (kj : (tK (TPs s) (TNs s)) j = 26) (k : GX h0 d N S Q s t w0 so (j + 1) (stl 7 ro op (e ++ [(3, 0)]))) : LG h0 d N S Q s t w0 so 5 j (44 :: ro) (op + 1) e := by
  obtain ⟨ht, ht4, hN, hS, hd, hK, n3, hso⟩ := id cx
  intro p c' h1 h2 h3 h4 h5
  have h1' : ∀ x ∈ p, 1 ≤ rk x ∧ rk x ≤ 6 := fun x hx => ⟨by have := (h1 x hx).1; omega, (h1 x hx).2⟩
  have ovp : opV (p ++ 44 :: ro) = 44 := opV_lo p _ h1'
  have el : (p ++ 44 :: ro).length = p.length + (ro.length + 1) := List.length_append ..
  have ec : c'.length + p.length = e.length := by rw [← h5, List.length_append, List.length_map]
  have h3 : p.length + (ro.length + 1) ≤ 6 * (op + 1 + nOp p) + 6 := h3
  have t1 : w0 + e.length + (ro.length + 1) ≤ j := bx.1
  exact go_i (x := 44) ht (hb p h1) (by rw [ovp, kj]; rfl) ovp (by rw [stl_lag (l := 1) (ro := 44 :: ro) (show rk 44 < 1 by decide) p c' h1', h5]) (by omega) ht4 (by omega) (by omega) (by rw [nOp_app, show nOp (44 :: ro) = nOp ro from Nat.zero_add _]; omega) (by omega) hN hS hd (ge_x ht ht4 (by omega) (by rw [len1]; omega) h3n (by omega) k)
theorem o_if {h0 : Hp} {d N S : Nat} {Q : Option Value → Hp → Prop} {s : Ms} {t w0 so n : Nat} {f : Nat} (cx : CXr h0 d N S s t so n) (a3 : A3 h0 d N S Q s t w0 so n f) (a9 : A9 h0 d N S Q s t w0 so n f) (ro : List Nat) (op i : Nat) (c : Cd) (z j : Nat) (e : Cd) (bd : BD w0 n ro op i c) (hl : ro.length ≤ 6 * op + 5) (h8 : op < 8) (hi : i < n) (hf : FLZ h0 Q s t w0 so z j) (hp : z = 0 → GX h0 d N S Q s t w0 so j (stl 7 ro op e)) (hr : (bnd (rdK s so f 9 (op + 1) (i + 1) c) fun j e => exq (tK (TPs s) (TNs s)) 24 j e fun j e => bnd (rdK s so f 3 (op + 1) j e) fun j e => exq (tK (TPs s) (TNs s)) 25 j e fun j e => bnd (rdK s so f 3 (op + 1) j e) fun j e => exq (tK (TPs s) (TNs s)) 26 j e (put 3)) = some (z, j, e)) : GO h0 d N S Q s t w0 so (i + 1) (42 :: ro) (op + 1) 0 c := by
  have b8 := bd.2.2.2
  have b1 := bd.1
  have b2 := bd.2.1
  have b3 := bd.2.2.1
  obtain ⟨ht, ht4, hN, hS, hd, hK, n3, hso⟩ := id cx
  obtain ⟨z1, j1, e1, r1, q⟩ := bnd_some hr
  obtain ⟨f1, f2, f3, f4⟩ := rd_f (s := s) hK (by omega) hi (pre_t (by omega)) r1
  have bx : BD w0 n (42 :: ro) (op + 1) (i + 1) c := bd.x hi h8
  have hask : askP (42 :: ro) := ⟨rfl, Or.inl (by omega)⟩
  rcases q with ⟨q0, q⟩ | ⟨q0, q⟩
  · refine a9 (42 :: ro) (op + 1) (i + 1) c z1 j1 e1 bx (show ro.length + 1 ≤ 6 * (op + 1) by omega) (show rk 42 < 1 by decide) (show 42 ≠ 41 by omega) hask r1 (fun w => absurd q0 w) (fun _ => ?_)
    have st := f4 q0
    have st4 : (tK (TPs s) (TNs s)) j1 ≠ 44 ∧ (tK (TPs s) (TNs s)) j1 ≠ 45 ∧ (tK (TPs s) (TNs s)) j1 ≠ 46 ∧ (tK (TPs s) (TNs s)) j1 ≠ 47 := by unfold STP at st; omega
    have st2 : (tK (TPs s) (TNs s)) j1 ≠ 28 ∧ (tK (TPs s) (TNs s)) j1 ≠ 27 := by unfold STP at st; omega
    have bj := bx.up f1 f3
    have ovp : ∀ p, (∀ x ∈ p, 1 ≤ rk x ∧ rk x ≤ 6) → opV (p ++ 42 :: ro) = 42 := fun p h => opV_lo p _ h
    rcases exq_some q with ⟨kj, q⟩ | ⟨kj, q⟩
    · have hj : j1 < n := hK j1 (by omega)
      refine lg_y cx (by omega) bj hl (by omega) (y := 43) (by omega) (fun p h1 h2 => ⟨btw_d st4 st2 (ovp p h1) (h2 (by omega)), ?_⟩) ?_
      · show (if (tK (TPs s) (TNs s)) j1 = 24 ∧ cpd (p ++ 42 :: ro) = true then (43 : Int32) else -1) = 43
        exact if_pos ⟨kj, h2 (by omega)⟩
      obtain ⟨z2, j2, e2, r2, q⟩ := bnd_some q
      obtain ⟨g1, g2, g3, g4⟩ := rd_f (s := s) hK (by omega) hj (pre_t (by omega)) r2
      have by3 : BD w0 n (43 :: ro) (op + 1) (j1 + 1) e1 := bj.sw hj rfl
      rcases q with ⟨q0, q⟩ | ⟨q0, q⟩
      · refine a3 (43 :: ro) (op + 1) (j1 + 1) e1 z2 j2 e2 by3 (show ro.length + 1 ≤ 6 * (op + 1) + 3 by omega) (show rk 43 < 5 by decide) (show 43 ≠ 41 by omega) (fun _ => nask4 (by omega)) r2 (fun w => absurd q0 w) (fun _ => ?_)
        have st := g4 q0
        have st4 : (tK (TPs s) (TNs s)) j2 ≠ 44 ∧ (tK (TPs s) (TNs s)) j2 ≠ 45 ∧ (tK (TPs s) (TNs s)) j2 ≠ 46 ∧ (tK (TPs s) (TNs s)) j2 ≠ 47 := by unfold STP at st; omega
        have b2j := by3.up g1 g3
        have ov3 : ∀ p, (∀ x ∈ p, 5 ≤ rk x ∧ rk x ≤ 6) → btw ((tK (TPs s) (TNs s)) j2) (p ++ 43 :: ro) = -1 := fun p h => btw_n st4 (by rw [opV_lo p _ (fun x hx => ⟨by have := (h x hx).1; omega, (h x hx).2⟩)]; show ¬ nI 43 = 42; decide)
        rcases exq_some q with ⟨kj, q⟩ | ⟨kj, q⟩
        · have hj : j2 < n := hK j2 (by omega)
          refine lg_y cx (by omega) b2j hl (by omega) (y := 44) (by omega) (fun p h1 h2 => ⟨ov3 p h1, by rw [kj]; rfl⟩) ?_
          obtain ⟨z3, j3, e3, r3, q⟩ := bnd_some q
          obtain ⟨k1, k2, k3, k4⟩ := rd_f (s := s) hK (by omega) hj (pre_t (by omega)) r3
          have by4 : BD w0 n (44 :: ro) (op + 1) (j2 + 1) e2 := b2j.sw hj rfl
          rcases q with ⟨q0, q⟩ | ⟨q0, q⟩
          · refine a3 (44 :: ro) (op + 1) (j2 + 1) e2 z3 j3 e3 by4 (show ro.length + 1 ≤ 6 * (op + 1) + 3 by omega) (show rk 44 < 5 by decide) (show 44 ≠ 41 by omega) (fun _ => nask4 (by omega)) r3 (fun w => absurd q0 w) (fun _ => ?_)
            have st := k4 q0
            have st4 : (tK (TPs s) (TNs s)) j3 ≠ 44 ∧ (tK (TPs s) (TNs s)) j3 ≠ 45 ∧ (tK (TPs s) (TNs s)) j3 ≠ 46 ∧ (tK (TPs s) (TNs s)) j3 ≠ 47 := by unfold STP at st; omega
            have ov4 : ∀ p, (∀ x ∈ p, 5 ≤ rk x ∧ rk x ≤ 6) → btw ((tK (TPs s) (TNs s)) j3) (p ++ 44 :: ro) = -1 := fun p h => btw_n st4 (by rw [opV_lo p _ (fun x hx => ⟨by have := (h x hx).1; omega, (h x hx).2⟩)]; show ¬ nI 44 = 42; decide)
            rcases exq_some q with ⟨kj, q⟩ | ⟨kj, q⟩
            · have hj : j3 < n := hK j3 (by omega)
              have q : some (0, j3 + 1, e3 ++ [(3, 0)]) = some (z, j, e) := q
              cases q
              exact lg_i cx (by4.up k1 k3) hl b3 hj ov4 kj (hp rfl)
            · cases q
              exact lg_n cx (by omega) (fun p h1 h2 => ⟨ov4 p h1, show (if (tK (TPs s) (TNs s)) j = 26 then (0 : Int32) else -1) = -1 from if_neg kj⟩) (show ¬ nI 44 < 0 by decide) (hf (by omega))
          · cases q
            exact a3 (44 :: ro) (op + 1) (j2 + 1) e2 z j e by4 (show ro.length + 1 ≤ 6 * (op + 1) + 3 by omega) (show rk 44 < 5 by decide) (show 44 ≠ 41 by omega) (fun _ => nask4 (by omega)) r3 hf (fun w => absurd w q0)
        · cases q
          exact lg_n cx (by omega) (fun p h1 h2 => ⟨ov3 p h1, show (if (tK (TPs s) (TNs s)) j = 25 then (44 : Int32) else -1) = -1 from if_neg kj⟩) (show ¬ nI 43 < 0 by decide) (hf (by omega))
      · cases q
        exact a3 (43 :: ro) (op + 1) (j1 + 1) e1 z j e by3 (show ro.length + 1 ≤ 6 * (op + 1) + 3 by omega) (show rk 43 < 5 by decide) (show 43 ≠ 41 by omega) (fun _ => nask4 (by omega)) r2 hf (fun w => absurd w q0)
    · cases q
      exact lg_n cx (by omega) (fun p h1 h2 => ⟨btw_d st4 st2 (ovp p h1) (h2 (by omega)), show (if (tK (TPs s) (TNs s)) j = 24 ∧ cpd (p ++ 42 :: ro) = true then (43 : Int32) else -1) = -1 from if_neg (fun w => kj w.1)⟩) (show ¬ nI 42 < 0 by decide) (hf (by omega))
  · cases q
    exact a9 (42 :: ro) (op + 1) (i + 1) c z j e bx (show ro.length + 1 ≤ 6 * (op + 1) by omega) (show rk 42 < 1 by decide) (show 42 ≠ 41 by omega) hask r1 hf (fun w => absurd w q0)

