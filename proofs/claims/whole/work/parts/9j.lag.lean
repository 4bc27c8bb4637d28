/-! what the pile keeps back of a sum, goal first (wip/whole/gen9j.py) -/
theorem stl_len : ∀ {l : Nat} (ro : List Nat) (op : Nat) (c : Cd), (stl l ro op c).1.length ≤ ro.length
  | _, [], _, _ => Nat.le_refl _
  | l, x :: r, op, c => by
    by_cases q : l ≤ rk x
    · have e : stl l (x :: r) op c = stl l r (op - dOp x) (c ++ [(x, 0)]) := if_pos q
      rw [e]
      exact Nat.le_succ_of_le (stl_len r _ _)
    · have e : stl l (x :: r) op c = (x :: r, op, c) := if_neg q
      rw [e]
      exact Nat.le_refl _
/-- what lies on top ranks below l -/
def tpl (l : Nat) : List Nat → Prop
  | [] => True
  | x :: _ => rk x < l
/-- and is no percent that waits for its of -/
def tpn : List Nat → Prop
  | [] => True
  | x :: _ => x ≠ 41
theorem stl_top {l : Nat} {ro : List Nat} {op : Nat} {c : Cd} (h : tpl l ro) : stl l ro op c = (ro, op, c) := by
  cases ro with
  | nil => rfl
  | cons x r =>
    have h : rk x < l := h
    exact if_neg (by omega)
theorem nOp_app : ∀ (a b : List Nat), nOp (a ++ b) = nOp a + nOp b
  | [], b => (Nat.zero_add _).symm
  | x :: a, b => by
    show dOp x + nOp (a ++ b) = dOp x + nOp a + nOp b
    rw [nOp_app a b]; omega
def z0 (x : Nat) : Nat × Nat := (x, 0)
theorem stl_lag {l : Nat} {ro : List Nat} {op : Nat} (h : tpl l ro) : ∀ (p : List Nat) (c : Cd), (∀ x ∈ p, l ≤ rk x ∧ rk x ≤ 6) → stl l (p ++ ro) (op + nOp p) c = (ro, op, c ++ p.map z0)
  | [], c, _ => by
    show stl l ro op c = (ro, op, c ++ [])
    rw [List.append_nil, stl_top h]
  | x :: p, c, hp => by
    have q := (hp x (List.mem_cons_self ..)).1
    have e : stl l (x :: p ++ ro) (op + nOp (x :: p)) c = stl l (p ++ ro) (op + nOp (x :: p) - dOp x) (c ++ [(x, 0)]) := if_pos q
    rw [e, show op + nOp (x :: p) - dOp x = op + nOp p from by show op + (dOp x + nOp p) - dOp x = _; omega, stl_lag h p _ (fun y hy => hp y (List.mem_cons_of_mem _ hy))]
    show (ro, op, c ++ [(x, 0)] ++ p.map z0) = (ro, op, c ++ (z0 x :: p.map z0))
    rw [List.append_assoc]; rfl
/-- behind one -/
def GX (h0 : Hp) (d N S : Nat) (Q : Option Value → Hp → Prop) (s : Ms) (t w0 so : Nat) (i : Nat) (q : List Nat × Nat × Cd) : Prop := match q.1 with
  | [] => GO h0 d N S Q s t w0 so i [] q.2.1 1 q.2.2
  | x :: r => if x = 41 then (if tK (TPs s) (TNs s) i = 21 then GO h0 d N S Q s t w0 so (i + 1) (4 :: r) q.2.1 0 q.2.2 else FLT h0 Q s t w0 so 1 i) else GO h0 d N S Q s t w0 so i (x :: r) q.2.1 1 q.2.2
theorem ge_x {h0 : Hp} {d N S : Nat} {Q : Option Value → Hp → Prop} {s : Ms} {t w0 so : Nat} {i op wh : Nat} {ro : List Nat} {c : Cd} (ht : ITp s) (ht4 : t < 4) (h159 : ro.length ≤ 159) (hw : w0 + c.length + ro.length ≤ 304) (ho : nOp ro ≤ op) (h100 : op ≤ 100) (g : GX h0 d N S Q s t w0 so i (stl 7 ro op c)) : GE h0 d N S Q s t w0 so i ro op wh c := by
  have sl := stl_len (l := 7) ro op c
  rcases es : stl 7 ro op c with ⟨ro1, op1, c1⟩
  rw [es] at g sl
  have sl : ro1.length ≤ ro.length := sl
  cases ro1 with
  | nil => exact ge_a ht es (fun r q => by cases q) (by omega) ht4 h159 hw ho h100 g
  | cons x r =>
    have sl : r.length + 1 ≤ ro.length := sl
    have g : if x = 41 then (if tK (TPs s) (TNs s) i = 21 then GO h0 d N S Q s t w0 so (i + 1) (4 :: r) op1 0 c1 else FLT h0 Q s t w0 so 1 i) else GO h0 d N S Q s t w0 so i (x :: r) op1 1 c1 := g
    by_cases hx : x = 41
    · rw [if_pos hx] at g
      rw [hx] at es
      by_cases hk : tK (TPs s) (TNs s) i = 21
      · rw [if_pos hk] at g
        exact ge_b ht es hk (by omega) ht4 h159 hw ho h100 g
      · rw [if_neg hk] at g
        exact ge_c ht es hk (by omega) ht4 h159 hw ho h100 g
    · rw [if_neg hx] at g
      exact ge_a ht es (fun r' q => by cases q; exact hx rfl) (by show r.length + 1 ≤ 159; omega) ht4 h159 hw ho h100 g
theorem gx_push {h0 : Hp} {d N S : Nat} {Q : Option Value → Hp → Prop} {s : Ms} {t w0 so : Nat} {i op x : Nat} {ro : List Nat} {c : Cd} (hx : x = 5 ∨ x = 2 ∨ x = 4) (g : GX h0 d N S Q s t w0 so i (stl 7 ro op (c ++ [(x, 0)]))) : GX h0 d N S Q s t w0 so i (stl 7 (x :: ro) (op + 1) c) := by
  have e : stl 7 (x :: ro) (op + 1) c = stl 7 ro op (c ++ [(x, 0)]) := by
    rcases hx with rfl | rfl | rfl <;> rfl
  rw [e]; exact g
theorem gx_top {h0 : Hp} {d N S : Nat} {Q : Option Value → Hp → Prop} {s : Ms} {t w0 so : Nat} {i op : Nat} {ro : List Nat} {c : Cd} (h : tpl 7 ro) (hn : tpn ro) (g : GO h0 d N S Q s t w0 so i ro op 1 c) : GX h0 d N S Q s t w0 so i (stl 7 ro op c) := by
  rw [stl_top h]
  cases ro with
  | nil => exact g
  | cons x r =>
    have hn : x ≠ 41 := hn
    show if x = 41 then _ else GO h0 d N S Q s t w0 so i (x :: r) op 1 c
    rw [if_neg hn]; exact g
/-- at j, all that ranks l and above may still wait on the pile -/
def LG (h0 : Hp) (d N S : Nat) (Q : Option Value → Hp → Prop) (s : Ms) (t w0 so : Nat) (l j : Nat) (ro : List Nat) (op : Nat) (e : Cd) : Prop := ∀ (p : List Nat) (c : Cd), (∀ x ∈ p, l ≤ rk x ∧ rk x ≤ 6) → (l ≤ 4 → cpd (p ++ ro) = true) → p.length + ro.length ≤ 6 * (op + nOp p) + 6 → op + nOp p ≤ 8 → c ++ p.map z0 = e → GO h0 d N S Q s t w0 so j (p ++ ro) (op + nOp p) 1 c
theorem lg_mono {h0 : Hp} {d N S : Nat} {Q : Option Value → Hp → Prop} {s : Ms} {t w0 so : Nat} {l l' j op : Nat} {ro : List Nat} {e : Cd} (hl : l ≤ l') (h4 : l ≤ 4 → l' ≤ 4) (g : LG h0 d N S Q s t w0 so l j ro op e) : LG h0 d N S Q s t w0 so l' j ro op e := fun p c h1 h2 h3 h4' h5 => g p c (fun x hx => ⟨by have := (h1 x hx).1; omega, (h1 x hx).2⟩) (fun q => h2 (h4 q)) h3 h4' h5
theorem lg_nil {h0 : Hp} {d N S : Nat} {Q : Option Value → Hp → Prop} {s : Ms} {t w0 so : Nat} {l j op : Nat} {ro : List Nat} {e : Cd} (h5 : 5 ≤ l) (hl : ro.length ≤ 6 * op + 6) (h8 : op ≤ 8) (g : LG h0 d N S Q s t w0 so l j ro op e) : GO h0 d N S Q s t w0 so j ro op 1 e := g [] e (fun x hx => by cases hx) (fun q => absurd q (by omega)) (by show 0 + ro.length ≤ 6 * (op + 0) + 6; omega) h8 (List.append_nil e)
theorem cpd_hi : ∀ (p ro : List Nat), (∀ x ∈ p, 5 ≤ rk x ∧ rk x ≤ 6) → cpd (p ++ ro) = cpd ro
  | [], _, _ => rfl
  | x :: p, ro, h => by
    have q := (h x (List.mem_cons_self ..)).1
    have e : cpd (x :: p ++ ro) = cpd (p ++ ro) := if_pos (by omega)
    rw [e]
    exact cpd_hi p ro (fun y hy => h y (List.mem_cons_of_mem _ hy))
theorem opV_lo : ∀ (p ro : List Nat), (∀ x ∈ p, 1 ≤ rk x ∧ rk x ≤ 6) → opV (p ++ ro) = opV ro
  | [], _, _ => rfl
  | x :: p, ro, h => by
    have q := (h x (List.mem_cons_self ..)).1
    have q2 : ¬ 40 ≤ x := fun w => by unfold rk at q; rw [if_pos w] at q; omega
    have e : opV (x :: p ++ ro) = opV (p ++ ro) := if_neg q2
    rw [e]
    exact opV_lo p ro (fun y hy => h y (List.mem_cons_of_mem _ hy))
theorem lg_up {h0 : Hp} {d N S : Nat} {Q : Option Value → Hp → Prop} {s : Ms} {t w0 so : Nat} {l l' j op o : Nat} {ro : List Nat} {e : Cd} (ho : l ≤ rk o ∧ rk o ≤ 6) (hl : l ≤ l') (hc : l ≤ 4 → l' ≤ 4 ∨ rk o = 4 ∧ 5 ≤ l') (g : LG h0 d N S Q s t w0 so l j ro op (e ++ [(o, 0)])) : LG h0 d N S Q s t w0 so l' j (o :: ro) (op + dOp o) e := by
  intro p c h1 h2 h3 h4 h5
  have ea : p ++ o :: ro = (p ++ [o]) ++ ro := by rw [List.append_assoc]; rfl
  have en : nOp (p ++ [o]) = nOp p + dOp o := by rw [nOp_app]; rfl
  have eo : op + dOp o + nOp p = op + nOp (p ++ [o]) := by rw [en]; omega
  rw [ea, eo]
  rw [eo] at h3 h4
  refine g (p ++ [o]) c (fun x hx => ?_) (fun q => ?_) ?_ h4 ?_
  · rcases List.mem_append.mp hx with m | m
    · exact ⟨by have := (h1 x m).1; omega, (h1 x m).2⟩
    · rw [List.mem_singleton.mp m]; exact ho
  · rw [← ea]
    rcases hc q with c4 | ⟨c4, c5⟩
    · exact h2 c4
    · rw [cpd_hi p (o :: ro) (fun x hx => ⟨by have := (h1 x hx).1; omega, (h1 x hx).2⟩)]
      show (if 4 < rk o then cpd ro else rk o == 4) = true
      rw [if_neg (by omega), c4]; rfl
  · rw [List.length_append]
    have h3 : p.length + (ro.length + 1) ≤ 6 * (op + nOp (p ++ [o])) + 6 := h3
    show p.length + 1 + ro.length ≤ _
    omega
  · rw [List.map_append, ← List.append_assoc, h5]; rfl
theorem bnd_some {r : RO} {k : Nat → Cd → RO} {q : Nat × Nat × Cd} (h : bnd r k = some q) : ∃ z j e, r = some (z, j, e) ∧ (z = 0 ∧ k j e = some q ∨ z ≠ 0 ∧ q = (z, j, e)) := by
  cases r with
  | none => cases h
  | some p =>
    obtain ⟨z, j, e⟩ := p
    have h : (if z = 0 then k j e else some (z, j, e)) = some q := h
    by_cases hz : z = 0
    · rw [if_pos hz] at h
      exact ⟨z, j, e, rfl, Or.inl ⟨hz, h⟩⟩
    · rw [if_neg hz] at h
      cases h
      exact ⟨z, j, e, rfl, Or.inr ⟨hz, rfl⟩⟩
theorem exq_some {K : Nat → Nat} {w j : Nat} {e : Cd} {k : Nat → Cd → RO} {q : Nat × Nat × Cd} (h : exq K w j e k = some q) : K j = w ∧ k (j + 1) e = some q ∨ K j ≠ w ∧ q = (1, j, e) := by
  unfold exq at h
  by_cases hk : K j = w
  · rw [if_pos hk] at h; exact Or.inl ⟨hk, h⟩
  · rw [if_neg hk] at h; cases h; exact Or.inr ⟨hk, rfl⟩

