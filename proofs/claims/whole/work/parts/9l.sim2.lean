/-! the reference goes along the descent: comparison, ask, one (wip/whole/gen9l.py) -/
theorem cm1_eq {k : Nat} (h : 38 ≤ k ∧ k ≤ 43) : cmo k = nI (cm1 k) ∧ rk (cm1 k) = 4 ∧ dOp (cm1 k) = 0 ∧ 10 ≤ cm1 k ∧ cm1 k ≤ 15 := by
  have q : k = 38 ∨ k = 39 ∨ k = 40 ∨ k = 41 ∨ k = 42 ∨ k = 43 := by omega
  rcases q with rfl | rfl | rfl | rfl | rfl | rfl <;> decide
theorem cmo_n {k : Nat} (h : ¬ (38 ≤ k ∧ k ≤ 43)) : cmo k = -1 := by
  unfold cmo
  repeat rw [if_neg (by omega)]
theorem cpd_f {ro : List Nat} (h : tpl 4 ro) (ha : askP ro) : cpd ro = false := by
  cases ro with
  | nil => exact absurd ha id
  | cons x r => exact cpd_lo h
theorem btw_c {k : Nat} {ro : List Nat} (hk : k ≠ 44 ∧ k ≠ 45 ∧ k ≠ 46 ∧ k ≠ 47) (ho : opV ro = 42) (hc : cpd ro = false) : btw k ro = cmo k := by
  unfold btw
  rw [if_neg hk.1, if_neg hk.2.1, if_neg hk.2.2.1, if_neg hk.2.2.2, if_neg (fun w => w ho), if_pos (by rw [hc]; decide)]
theorem btw_n {k : Nat} {ro : List Nat} (hk : k ≠ 44 ∧ k ≠ 45 ∧ k ≠ 46 ∧ k ≠ 47) (ho : ¬ opV ro = 42) : btw k ro = -1 := by
  unfold btw
  rw [if_neg hk.1, if_neg hk.2.1, if_neg hk.2.2.1, if_neg hk.2.2.2, if_pos ho]
theorem btw_d {k : Nat} {ro : List Nat} (hk : k ≠ 44 ∧ k ≠ 45 ∧ k ≠ 46 ∧ k ≠ 47) (h2 : k ≠ 28 ∧ k ≠ 27) (ho : opV ro = 42) (hc : cpd ro = true) : btw k ro = -1 := by
  unfold btw
  rw [if_neg hk.1, if_neg hk.2.1, if_neg hk.2.2.1, if_neg hk.2.2.2, if_neg (fun w => w ho), if_neg (fun w => w hc), if_neg h2.1, if_neg h2.2]
theorem lg_n {h0 : Hp} {d N S : Nat} {Q : Option Value → Hp → Prop} {s : Ms} {t w0 so n : Nat} {l i op : Nat} {ro : List Nat} {c : Cd} (cx : CXr h0 d N S s t so n) (h1l : 1 ≤ l) (hb : ∀ p, (∀ x ∈ p, l ≤ rk x ∧ rk x ≤ 6) → (l ≤ 4 → cpd (p ++ ro) = true) → btw ((tK (TPs s) (TNs s)) i) (p ++ ro) = -1 ∧ prt ((tK (TPs s) (TNs s)) i) (opV ro) (p ++ ro) = -1) (hv : ¬ opV ro < 0) (k : FLT h0 Q s t w0 so 1 i) : LG h0 d N S Q s t w0 so l i ro op c := by
  obtain ⟨ht, ht4, hN, hS, hd, hK, n3, _⟩ := cx
  intro p c' h1 h2 h3 h4 h5
  have ov : opV (p ++ ro) = opV ro := opV_lo p ro (fun x hx => ⟨by have := (h1 x hx).1; omega, (h1 x hx).2⟩)
  have el : (p ++ ro).length = p.length + ro.length := List.length_append ..
  exact go_n ht (hb p h1 h2).1 (by rw [ov]; exact (hb p h1 h2).2) (by rw [ov]; exact hv) (by omega) hN hS hd k
theorem s_5 {h0 : Hp} {d N S : Nat} {Q : Option Value → Hp → Prop} {s : Ms} {t w0 so n : Nat} {f : Nat} (cx : CXr h0 d N S s t so n) (a3 : A3 h0 d N S Q s t w0 so n f) : A5 h0 d N S Q s t w0 so n (f + 1) := by
  intro ro op i c z j e bd hl h4 hn ha hk hr hf hp
  have hr : rdCm (tK (TPs s) (TNs s)) (rdK s so f) op i c = some (z, j, e) := hr
  unfold rdCm at hr
  have b8 := bd.2.2.2
  have cf := cpd_f h4 ha
  have o42 := ask42 ha
  obtain ⟨z1, j1, e1, r1, q⟩ := bnd_some hr
  obtain ⟨f1, f2, f3, f4⟩ := rd_f (s := s) cx.2.2.2.2.2.1 (by omega) bd.2.1 (pre_t (by omega)) r1
  rcases q with ⟨q0, q⟩ | ⟨q0, q⟩
  · refine a3 ro op i c z1 j1 e1 bd (by omega) (tpl_up (by omega) h4) hn (fun w => absurd w hk) r1 (fun w => absurd q0 w) (fun _ => ?_)
    have st := f4 q0
    have st4 : (tK (TPs s) (TNs s)) j1 ≠ 44 ∧ (tK (TPs s) (TNs s)) j1 ≠ 45 ∧ (tK (TPs s) (TNs s)) j1 ≠ 46 ∧ (tK (TPs s) (TNs s)) j1 ≠ 47 := by unfold STP at st; omega
    by_cases k : 38 ≤ (tK (TPs s) (TNs s)) j1 ∧ (tK (TPs s) (TNs s)) j1 ≤ 43
    · rw [if_pos k] at q
      obtain ⟨ce, crk, cd0, c10, c15⟩ := cm1_eq k
      obtain ⟨z2, j2, e2, r2, q2⟩ := bnd_some q
      have hi : j1 < n := cx.2.2.2.2.2.1 j1 (by omega)
      have bd1 := bd.up f1 f3
      refine lg_step (l := 5) (o := cm1 ((tK (TPs s) (TNs s)) j1)) cx bd1 (tpl_up (by omega) h4) (fun p h1 h2 => ?_) (by omega) (Or.inl ⟨crk, rfl⟩) (by omega) ?_
      · rw [btw_c st4 (by rw [opV_lo p ro (fun x hx => ⟨by have := (h1 x hx).1; omega, (h1 x hx).2⟩)]; exact o42) (by rw [cpd_hi p ro h1]; exact cf)]
        exact ce
      · rcases q2 with ⟨q0', q2⟩ | ⟨q0', q2⟩
        · have q2 : some (0, j2, e2 ++ [(cm1 ((tK (TPs s) (TNs s)) j1), 0)]) = some (z, j, e) := q2
          cases q2
          exact a3 (cm1 ((tK (TPs s) (TNs s)) j1) :: ro) op (j1 + 1) e1 z2 _ e2 (bd1.o hi cd0) (show ro.length + 1 ≤ 6 * op + 3 by omega) (show rk (cm1 ((tK (TPs s) (TNs s)) j1)) < 5 by omega) (show cm1 ((tK (TPs s) (TNs s)) j1) ≠ 41 by omega) (fun _ => nask (by omega) (by omega)) r2 (fun w => absurd q0' w) (fun _ => by have g := lg_up (l := 4) (l' := 5) (o := cm1 ((tK (TPs s) (TNs s)) j1)) ⟨by omega, by omega⟩ (by omega) (fun _ => Or.inr ⟨crk, by omega⟩) (hp rfl); rw [cd0] at g; exact g)
        · cases q2
          exact a3 (cm1 ((tK (TPs s) (TNs s)) j1) :: ro) op (j1 + 1) e1 z j e (bd1.o hi cd0) (show ro.length + 1 ≤ 6 * op + 3 by omega) (show rk (cm1 ((tK (TPs s) (TNs s)) j1)) < 5 by omega) (show cm1 ((tK (TPs s) (TNs s)) j1) ≠ 41 by omega) (fun _ => nask (by omega) (by omega)) r2 hf (fun w => absurd w q0')
    · rw [if_neg k] at q
      cases q
      refine lg_n cx (by omega) (fun p h1 h2 => ⟨?_, ?_⟩) (by rw [o42]; decide) (hf (by omega))
      · rw [btw_c st4 (by rw [opV_lo p ro (fun x hx => ⟨by have := (h1 x hx).1; omega, (h1 x hx).2⟩)]; exact o42) (by rw [cpd_hi p ro h1]; exact cf)]
        exact cmo_n k
      · rw [o42]
        show (if (tK (TPs s) (TNs s)) j = 24 ∧ cpd (p ++ ro) = true then (43 : Int32) else -1) = -1
        rw [if_neg (fun w => by rw [cpd_hi p ro h1, cf] at w; exact absurd w.2 (by decide))]
  · cases q
    exact a3 ro op i c z j e bd (by omega) (tpl_up (by omega) h4) hn (fun w => absurd w hk) r1 hf (fun w => absurd w q0)
theorem s_6 {h0 : Hp} {d N S : Nat} {Q : Option Value → Hp → Prop} {s : Ms} {t w0 so n : Nat} {f : Nat} (cx : CXr h0 d N S s t so n) (a5 : A5 h0 d N S Q s t w0 so n f) (a6 : A6 h0 d N S Q s t w0 so n f) : A6 h0 d N S Q s t w0 so n (f + 1) := by
  intro ro op i c z j e bd hl h4 hn ha hr hf hp
  have hr : rdAs (tK (TPs s) (TNs s)) (rdK s so f) op i c = some (z, j, e) := hr
  unfold rdAs at hr
  have b8 := bd.2.2.2
  obtain ⟨ht, ht4, hN, hS, hd, hK, n3, _⟩ := id cx
  by_cases k : (tK (TPs s) (TNs s)) i = 29
  · rw [if_pos k] at hr
    by_cases h8 : 8 ≤ op
    · rw [if_pos h8] at hr
      cases hr
      exact go_deep_29 ht k (by omega) (by omega) ha hN hS hd (hf (by omega))
    · rw [if_neg h8] at hr
      have hi : i < n := hK i (by omega)
      obtain ⟨z1, j1, e1, r1, q⟩ := bnd_some hr
      refine go_open_29 ht k (by omega) (by omega) (by omega) ha hN hS hd ?_
      rcases q with ⟨q0, q⟩ | ⟨q0, q⟩
      · have q : some (0, j1, e1 ++ [(20, 0)]) = some (z, j, e) := q
        cases q
        exact a6 (20 :: ro) (op + 1) (i + 1) c z1 _ e1 (bd.x hi (by omega)) (show ro.length + 1 ≤ 6 * (op + 1) + 2 by omega) (show rk 20 < 4 by decide) (show 20 ≠ 41 by omega) (askC (by omega) (ask42 ha)) r1 (fun w => absurd q0 w) (fun _ => lg_up (l := 3) (l' := 3) (o := 20) ⟨by decide, by decide⟩ (by omega) (fun _ => Or.inl (by omega)) (hp rfl))
      · cases q
        exact a6 (20 :: ro) (op + 1) (i + 1) c z j e (bd.x hi (by omega)) (show ro.length + 1 ≤ 6 * (op + 1) + 2 by omega) (show rk 20 < 4 by decide) (show 20 ≠ 41 by omega) (askC (by omega) (ask42 ha)) r1 hf (fun w => absurd w q0)
  · rw [if_neg k] at hr
    exact a5 ro op i c z j e bd hl h4 hn ha k hr hf (fun w => lg_mono (l := 3) (by omega) (by omega) (hp w))

