/-! the reference goes along the descent: one, and so all (wip/whole/gen9m.py) -/
theorem nm_eq {k : Nat} (h : nm1 k < 11) : nmo k = nI (nm1 k) := by
  have q := nm1_lt h
  unfold nm1 at h ⊢
  unfold nmo
  repeat' split
  all_goals first | rfl | (exfalso; omega) | skip
  all_goals (repeat rw [if_neg (by assumption)] at h); omega
theorem nm_n {k : Nat} (h : ¬ nm1 k < 11) : nmo k = -1 := by
  unfold nm1 at h
  unfold nmo
  repeat' split
  all_goals first | rfl | (rename_i q; exfalso; apply h; rw [q]; decide)
theorem nask4 {x : Nat} {r : List Nat} (h : x = 40 ∨ x = 41 ∨ x = 43 ∨ x = 44) : ¬ askP (x :: r) := fun q => by
  have q1 : opV (x :: r) = 42 := q.1
  rcases h with rfl | rfl | rfl | rfl
  · exact absurd (show nI 40 = (42 : Int32) from q1) (by decide)
  · exact absurd (show nI 41 = (42 : Int32) from q1) (by decide)
  · exact absurd (show nI 43 = (42 : Int32) from q1) (by decide)
  · exact absurd (show nI 44 = (42 : Int32) from q1) (by decide)
theorem BD.sw {w0 n op j x y : Nat} {ro : List Nat} {e : Cd} (b : BD w0 n (x :: ro) op j e) (hj : j < n) (hy : dOp y = 0) : BD w0 n (y :: ro) op (j + 1) e := by
  have b1 : w0 + e.length + (ro.length + 1) ≤ j := b.1
  have b3 : dOp x + nOp ro ≤ op := b.2.2.1
  exact ⟨by show w0 + e.length + (ro.length + 1) ≤ j + 1; omega, hj, by show dOp y + nOp ro ≤ op; omega, b.2.2.2⟩
/-- a - or so: one, then the sign -/
theorem o_un {h0 : Hp} {d N S : Nat} {Q : Option Value → Hp → Prop} {s : Ms} {t w0 so n : Nat} {f x : Nat} (cx : CXr h0 d N S s t so n) (a0 : A0 h0 d N S Q s t w0 so n f) (hx : x = 5 ∨ x = 2) (ro : List Nat) (op i : Nat) (c : Cd) (z j : Nat) (e : Cd) (bd : BD w0 n ro op i c) (hl : ro.length ≤ 6 * op + 5) (h8 : op < 8) (hi : i < n) (hf : FLZ h0 Q s t w0 so z j) (hp : z = 0 → GX h0 d N S Q s t w0 so j (stl 7 ro op e)) (hr : bnd (rdK s so f 0 (op + 1) (i + 1) c) (put x) = some (z, j, e)) : GO h0 d N S Q s t w0 so (i + 1) (x :: ro) (op + 1) 0 c := by
  have b8 := bd.2.2.2
  have b1 := bd.1
  have b2 := bd.2.1
  have b3 := bd.2.2.1
  obtain ⟨ht, ht4, hN, hS, hd, hK, n3, hso⟩ := id cx
  obtain ⟨z1, j1, e1, r1, q⟩ := bnd_some hr
  have na : ¬ askP (x :: ro) := nask (by omega) (by rcases hx with rfl | rfl <;> decide)
  rcases q with ⟨q0, q⟩ | ⟨q0, q⟩
  · have q : some (0, j1, e1 ++ [(x, 0)]) = some (z, j, e) := q
    cases q
    exact a0 (x :: ro) (op + 1) (i + 1) c z1 _ e1 (bd.x hi h8) (show ro.length + 1 ≤ 6 * (op + 1) + 5 by omega) (fun _ => na) r1 (fun w => absurd q0 w) (fun _ => gx_push (by omega) (hp rfl))
  · cases q
    exact a0 (x :: ro) (op + 1) (i + 1) c z j e (bd.x hi h8) (show ro.length + 1 ≤ 6 * (op + 1) + 5 by omega) (fun _ => na) r1 hf (fun w => absurd w q0)
/-- percent: one, of, one -/
theorem o_pc {h0 : Hp} {d N S : Nat} {Q : Option Value → Hp → Prop} {s : Ms} {t w0 so n : Nat} {f : Nat} (cx : CXr h0 d N S s t so n) (a0 : A0 h0 d N S Q s t w0 so n f) (ro : List Nat) (op i : Nat) (c : Cd) (z j : Nat) (e : Cd) (bd : BD w0 n ro op i c) (hl : ro.length ≤ 6 * op + 5) (h8 : op < 8) (hi : i < n) (hf : FLZ h0 Q s t w0 so z j) (hp : z = 0 → GX h0 d N S Q s t w0 so j (stl 7 ro op e)) (hr : (bnd (rdK s so f 0 (op + 1) (i + 1) c) fun j e => exq (tK (TPs s) (TNs s)) 21 j e fun j e => bnd (rdK s so f 0 (op + 1) j e) (put 4)) = some (z, j, e)) : GO h0 d N S Q s t w0 so (i + 1) (41 :: ro) (op + 1) 0 c := by
  have b8 := bd.2.2.2
  have b1 := bd.1
  have b2 := bd.2.1
  have b3 := bd.2.2.1
  obtain ⟨ht, ht4, hN, hS, hd, hK, n3, hso⟩ := id cx
  obtain ⟨z1, j1, e1, r1, q⟩ := bnd_some hr
  obtain ⟨f1, f2, f3, f4⟩ := rd_f (s := s) hK (by omega) hi (pre_t (by omega)) r1
  have bx : BD w0 n (41 :: ro) (op + 1) (i + 1) c := bd.x hi h8
  rcases q with ⟨q0, q⟩ | ⟨q0, q⟩
  · refine a0 (41 :: ro) (op + 1) (i + 1) c z1 j1 e1 bx (show ro.length + 1 ≤ 6 * (op + 1) + 5 by omega) (fun _ => nask4 (by omega)) r1 (fun w => absurd q0 w) (fun _ => ?_)
    rw [stl_top (l := 7) (ro := 41 :: ro) (show rk 41 < 7 by decide)]
    show if (tK (TPs s) (TNs s)) j1 = 21 then GO h0 d N S Q s t w0 so (j1 + 1) (4 :: ro) (op + 1) 0 e1 else FLT h0 Q s t w0 so 1 j1
    rcases exq_some q with ⟨kj, q⟩ | ⟨kj, q⟩
    · rw [if_pos kj]
      have hj : j1 < n := hK j1 (by omega)
      obtain ⟨z2, j2, e2, r2, q⟩ := bnd_some q
      have b4 : BD w0 n (4 :: ro) (op + 1) (j1 + 1) e1 := by
        have t1 : w0 + e1.length + (ro.length + 1) ≤ j1 := (bx.up f1 f3).1
        exact ⟨by show w0 + e1.length + (ro.length + 1) ≤ j1 + 1; omega, hj, by show 1 + nOp ro ≤ op + 1; omega, by omega⟩
      rcases q with ⟨q0, q⟩ | ⟨q0, q⟩
      · have q : some (0, j2, e2 ++ [(4, 0)]) = some (z, j, e) := q
        cases q
        exact a0 (4 :: ro) (op + 1) (j1 + 1) e1 z2 _ e2 b4 (show ro.length + 1 ≤ 6 * (op + 1) + 5 by omega) (fun _ => nask (by omega) (by decide)) r2 (fun w => absurd q0 w) (fun _ => gx_push (by omega) (hp rfl))
      · cases q
        exact a0 (4 :: ro) (op + 1) (j1 + 1) e1 z j e b4 (show ro.length + 1 ≤ 6 * (op + 1) + 5 by omega) (fun _ => nask (by omega) (by decide)) r2 hf (fun w => absurd w q0)
    · rw [if_neg kj]
      cases q
      exact hf (by omega)
  · cases q
    exact a0 (41 :: ro) (op + 1) (i + 1) c z j e bx (show ro.length + 1 ≤ 6 * (op + 1) + 5 by omega) (fun _ => nask4 (by omega)) r1 hf (fun w => absurd w q0)
/-- ( sum ) -/
theorem o_br {h0 : Hp} {d N S : Nat} {Q : Option Value → Hp → Prop} {s : Ms} {t w0 so n : Nat} {f : Nat} (cx : CXr h0 d N S s t so n) (a3 : A3 h0 d N S Q s t w0 so n f) (ro : List Nat) (op i : Nat) (c : Cd) (z j : Nat) (e : Cd) (bd : BD w0 n ro op i c) (hl : ro.length ≤ 6 * op + 5) (h8 : op < 8) (hi : i < n) (hf : FLZ h0 Q s t w0 so z j) (hp : z = 0 → GX h0 d N S Q s t w0 so j (stl 7 ro op e)) (hr : (bnd (rdK s so f 3 (op + 1) (i + 1) c) fun j e => exq (tK (TPs s) (TNs s)) 49 j e fun j e => some (0, j, e)) = some (z, j, e)) : GO h0 d N S Q s t w0 so (i + 1) (40 :: ro) (op + 1) 0 c := by
  have b8 := bd.2.2.2
  have b1 := bd.1
  have b2 := bd.2.1
  have b3 := bd.2.2.1
  obtain ⟨ht, ht4, hN, hS, hd, hK, n3, hso⟩ := id cx
  obtain ⟨z1, j1, e1, r1, q⟩ := bnd_some hr
  obtain ⟨f1, f2, f3, f4⟩ := rd_f (s := s) hK (by omega) hi (pre_t (by omega)) r1
  have bx : BD w0 n (40 :: ro) (op + 1) (i + 1) c := bd.x hi h8
  rcases q with ⟨q0, q⟩ | ⟨q0, q⟩
  · refine a3 (40 :: ro) (op + 1) (i + 1) c z1 j1 e1 bx (show ro.length + 1 ≤ 6 * (op + 1) + 3 by omega) (show rk 40 < 5 by decide) (show 40 ≠ 41 by omega) (fun _ => nask4 (by omega)) r1 (fun w => absurd q0 w) (fun _ => ?_)
    have st := f4 q0
    have st4 : (tK (TPs s) (TNs s)) j1 ≠ 44 ∧ (tK (TPs s) (TNs s)) j1 ≠ 45 ∧ (tK (TPs s) (TNs s)) j1 ≠ 46 ∧ (tK (TPs s) (TNs s)) j1 ≠ 47 := by unfold STP at st; omega
    have ov : opV (40 :: ro) = 40 := rfl
    have t1 : w0 + e1.length + (ro.length + 1) ≤ j1 := (bx.up f1 f3).1
    rcases exq_some q with ⟨kj, q⟩ | ⟨kj, q⟩
    · have q : some (0, j1 + 1, e1) = some (z, j, e) := q
      cases q
      intro p c' h1 h2 h3 h4 h5
      have h1' : ∀ x ∈ p, 1 ≤ rk x ∧ rk x ≤ 6 := fun x hx => ⟨by have := (h1 x hx).1; omega, (h1 x hx).2⟩
      have ovp : opV (p ++ 40 :: ro) = 40 := (opV_lo p _ h1').trans ov
      have el : (p ++ 40 :: ro).length = p.length + (ro.length + 1) := List.length_append ..
      have ec : c'.length + p.length = e.length := by rw [← h5, List.length_append, List.length_map]
      have h3 : p.length + (ro.length + 1) ≤ 6 * (op + 1 + nOp p) + 6 := h3
      exact go_p (x := 40) ht (btw_n st4 (by rw [ovp]; decide)) (by rw [ovp, kj]; rfl) ovp (by rw [stl_lag (l := 1) (ro := 40 :: ro) (show rk 40 < 1 by decide) p c' h1', h5]) ht4 (by omega) (by omega) (by rw [nOp_app, show nOp (40 :: ro) = nOp ro from Nat.zero_add _]; omega) (by omega) hN hS hd (ge_x ht ht4 (by omega) (by omega) b3 (by omega) (hp rfl))
    · cases q
      exact lg_n cx (by omega) (fun p h1 h2 => ⟨btw_n st4 (by rw [opV_lo p _ (fun x hx => ⟨by have := (h1 x hx).1; omega, (h1 x hx).2⟩), ov]; decide), by rw [ov]; exact if_neg kj⟩) (by rw [ov]; decide) (hf (by omega))
  · cases q
    exact a3 (40 :: ro) (op + 1) (i + 1) c z j e bx (show ro.length + 1 ≤ 6 * (op + 1) + 3 by omega) (show rk 40 < 5 by decide) (show 40 ≠ 41 by omega) (fun _ => nask4 (by omega)) r1 hf (fun w => absurd w q0)

