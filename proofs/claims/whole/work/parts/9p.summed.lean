/-! the reference reads a sum as the descent does (wip/whole/gen9p.py) -/
theorem r_summed {d N S : Nat} {Q : Option Value → Hp → Prop} {s : Ms} {t w0 so n i op wh f z j : Nat} {ro : List Nat} {c e : Cd} {h : Hp} (cx : CXr h d N S s t so n) (rp : RP s t w0 so i ro op wh c h) (hw : w0 + c.length ≤ i) (hi : i ≤ n) (hr : rdK s so f 3 0 i c = some (z, j, e)) (kF : z ≠ 0 → FLT h Q s t w0 so z j) (kD : z = 0 → DNE h Q s t w0 so j e) : T d N S mX9_summed 0 (lap mX9_summed [.ref 488]) [] h Q := by
  obtain ⟨ht, ht4, hN, hS, hd, hK, n3, hso⟩ := id cx
  obtain ⟨f1, f2, f3, f4⟩ := rd_f (s := s) hK (by omega) hi (pre_t (by omega)) hr
  refine sm_start rp ((a_all (h0 := h) (Q := Q) (w0 := w0) cx f).2.2.2.1 [] 0 i c z j e ⟨by show w0 + c.length + 0 ≤ i; omega, hi, Nat.le_refl _, by omega⟩ (by show 0 ≤ _; omega) True.intro True.intro (fun _ q => q) hr kF (fun z0 => ?_))
  have st := f4 z0
  have st4 : (tK (TPs s) (TNs s)) j ≠ 44 ∧ (tK (TPs s) (TNs s)) j ≠ 45 ∧ (tK (TPs s) (TNs s)) j ≠ 46 ∧ (tK (TPs s) (TNs s)) j ≠ 47 := by unfold STP at st; omega
  intro p c' h1 h2 h3 h4 h5
  have h1' : ∀ x ∈ p, 1 ≤ rk x ∧ rk x ≤ 6 := fun x hx => ⟨by have := (h1 x hx).1; omega, (h1 x hx).2⟩
  have ovp : opV (p ++ []) = -1 := opV_lo p [] h1'
  have el : (p ++ ([] : List Nat)).length = p.length + 0 := List.length_append ..
  have ec : c'.length + p.length = e.length := by rw [← h5, List.length_append, List.length_map]
  have h3 : p.length + 0 ≤ 6 * (0 + nOp p) + 6 := h3
  exact go_d ht (btw_n st4 (by rw [ovp]; decide)) (by rw [ovp]; rfl) (by rw [ovp]; decide) (by rw [stl_lag (l := 1) (ro := []) True.intro p c' h1', h5]) ht4 (by omega) (by omega) (by rw [nOp_app]; show nOp p + 0 ≤ 0 + nOp p; omega) (by omega) hN hS hd (kD z0)

