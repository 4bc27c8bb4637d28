/-! the class reads acts (wip/whole/genab.py) -/
theorem len1n (e : List Nat) (x : Nat) : (e ++ [x]).length = e.length + 1 := by rw [List.length_append]; rfl

/-- a number is read; a word is wanted; behind a fault nothing -/
def stNm (K W : Nat → Nat) (lo hi : Nat) (y : Nat × Nat × List Nat) : Nat × Nat × List Nat := if y.1 = 0 then (if K y.2.1 = 52 then (if lo ≤ W y.2.1 ∧ W y.2.1 ≤ hi then (0, y.2.1 + 1, y.2.2 ++ [W y.2.1]) else (2, y.2.1, y.2.2)) else (1, y.2.1, y.2.2)) else y
def stE (K : Nat → Nat) (w : Nat) (y : Nat × Nat × List Nat) : Nat × Nat × List Nat := if y.1 = 0 then (if K y.2.1 = w then (0, y.2.1 + 1, y.2.2) else (1, y.2.1, y.2.2)) else y
theorem stNm_z {K W : Nat → Nat} {lo hi : Nat} {y : Nat × Nat × List Nat} (h : ¬ y.1 = 0) : stNm K W lo hi y = y := if_neg h
theorem stE_z {K : Nat → Nat} {w : Nat} {y : Nat × Nat × List Nat} (h : ¬ y.1 = 0) : stE K w y = y := if_neg h
theorem rdW_st {K W : Nat → Nat} {w lo hi i : Nat} {ns : List Nat} : rdW K W [(w, lo, hi)] i ns = stNm K W lo hi (stE K w (0, i, ns)) := by
  rw [rdW_e]
  unfold stE
  rw [if_pos rfl]
  by_cases h1 : K i = w
  · rw [if_pos h1, if_pos h1]
    unfold stNm
    rw [if_pos rfl]
    by_cases h2 : K (i + 1) = 52
    · rw [if_pos h2, if_pos h2]
      by_cases h3 : lo ≤ W (i + 1) ∧ W (i + 1) ≤ hi
      · rw [if_pos h3, if_pos h3]
        rfl
      · rw [if_neg h3, if_neg h3]
    · rw [if_neg h2, if_neg h2]
  · rw [if_neg h1, if_neg h1, stNm_z (by show ¬ 1 = 0; omega)]
theorem rdA_st {K W : Nat → Nat} {lo hi i : Nat} : rdA K W lo hi [] i = stNm K W lo hi (0, i, []) := by
  unfold rdA stNm
  rw [if_pos rfl]
  by_cases h1 : K i = 52
  · rw [if_pos h1, if_pos h1]
    by_cases h2 : lo ≤ W i ∧ W i ≤ hi
    · rw [if_pos h2, if_pos h2]; rfl
    · rw [if_neg h2, if_neg h2]
  · rw [if_neg h1, if_neg h1]
theorem rdA_st1 {K W : Nat → Nat} {lo hi i w lo2 hi2 : Nat} : rdA K W lo hi [(w, lo2, hi2)] i = stNm K W lo2 hi2 (stE K w (stNm K W lo hi (0, i, []))) := by
  rw [rdA_c, rdA_st]
  generalize stNm K W lo hi (0, i, []) = y
  obtain ⟨z, j, ns⟩ := y
  by_cases hz : z = 0
  · rw [if_pos (by exact hz)]
    subst hz
    exact rdW_st
  · have hy : ¬ (z, j, ns).1 = 0 := hz
    rw [if_neg hy, stE_z hy, stNm_z hy]
theorem rdW_st2 {K W : Nat → Nat} {i w lo hi w2 lo2 hi2 : Nat} {ns : List Nat} : rdW K W [(w, lo, hi), (w2, lo2, hi2)] i ns = stNm K W lo2 hi2 (stE K w2 (stNm K W lo hi (stE K w (0, i, ns)))) := by
  rw [rdW_cons, rdW_st]
  generalize stNm K W lo hi (stE K w (0, i, ns)) = y
  obtain ⟨z, j, ns⟩ := y
  by_cases hz : z = 0
  · rw [if_pos (by exact hz)]
    subst hz
    exact rdW_st
  · have hy : ¬ (z, j, ns).1 = 0 := hz
    rw [if_neg hy, stE_z hy, stNm_z hy]
theorem rdA_st2 {K W : Nat → Nat} {lo hi i w lo2 hi2 w3 lo3 hi3 : Nat} : rdA K W lo hi [(w, lo2, hi2), (w3, lo3, hi3)] i = stNm K W lo3 hi3 (stE K w3 (stNm K W lo2 hi2 (stE K w (stNm K W lo hi (0, i, []))))) := by
  rw [rdA_c, rdA_st]
  generalize stNm K W lo hi (0, i, []) = y
  obtain ⟨z, j, ns⟩ := y
  by_cases hz : z = 0
  · rw [if_pos (by exact hz)]
    subst hz
    exact rdW_st2
  · have hy : ¬ (z, j, ns).1 = 0 := hz
    rw [if_neg hy, stE_z hy, stNm_z hy, stE_z hy, stNm_z hy]
/-- the reader, without what was before -/
def RB (K W : Nat → Nat) (n z i : Nat) (h : Hp) : Prop := CT h K W n ∧ RA h K n z i h
theorem RA.rb {h h1 : Hp} {K W : Nat → Nat} {n z i : Nat} (ct : CT h K W n) (q : RA h K n z i h1) : RB K W n z i h1 := ⟨ct.of q.1 (q.2.1 473 (by omega) (by omega)) (q.2.1 474 (by omega) (by omega)) (q.2.1 475 (by omega) (by omega)), rfl, fun _ _ _ => rfl, rfl, fun _ _ => rfl, q.2.2.2.2.1, q.2.2.2.2.2.1, q.2.2.2.2.2.2.1, q.2.2.2.2.2.2.2.1, q.2.2.2.2.2.2.2.2⟩
theorem RB.fr {h h1 : Hp} {K W : Nat → Nat} {n z i : Nat} (q : RB K W n z i h) (hs : SS h h1) (e : ∀ k, 472 ≤ k → k ≤ 477 → pI h1 k = pI h k) : RB K W n z i h1 := ⟨q.1.of hs (e 473 (by omega) (by omega)) (e 474 (by omega) (by omega)) (e 475 (by omega) (by omega)), rfl, fun _ _ _ => rfl, rfl, fun _ _ => rfl, by rw [e 472 (by omega) (by omega)]; exact q.2.2.2.2.2.1, by rw [e 472 (by omega) (by omega)]; exact q.2.2.2.2.2.2.1, by rw [e 472 (by omega) (by omega)]; exact q.2.2.2.2.2.2.2.1, q.2.2.2.2.2.2.2.2.1, q.2.2.2.2.2.2.2.2.2⟩
/-- the draft's shape, the rows of L; m rows in all -/
def DSh (h : Hp) (x m : Nat) (L : List Cl) : Prop := 501 ≤ x ∧ IO h 5 x ∧ pR h x 0 = some (x + 1) ∧ RwS h (x + 1) 6 24 ∧ RwC h (x + 1) 6 24 m ∧ L.length ≤ m ∧ (∀ k q, L[k]? = some q → pI h (x + 1 + 1) (k * 6 + 0) = nI (q.1 + 1) ∧ ∀ c v, q.2.1[c]? = some v → pI h (x + 1 + 1) (k * 6 + (1 + c)) = nI v)
/-- its laws -/
def DLw (h : Hp) (x : Nat) (L : List Cl) : Prop := ∀ s, s ≤ 2 → ∃ c, pR h x (s + 1) = some c ∧ ((hasS s L = true ∧ 501 ≤ c ∧ x + 2 < c ∧ ∀ q ∈ L, q.1 = s → IA h 10 q.2.2.length c ∧ ∀ j y, q.2.2[j]? = some y → pI h c j = cnv y.1 y.2) ∨ (hasS s L = false ∧ c = 0 ∧ I0 h 0))
/-- an act is read into the row behind L -/
def AS (x : Nat) (K W : Nat → Nat) (n : Nat) (L : List Cl) (s : Nat) (y : Nat × Nat × List Nat) (h : Hp) : Prop := RB K W n y.1 y.2.1 h ∧ pR h 472 7 = some x ∧ DSh h x (L.length + 1) L ∧ DLw h x L ∧ pI h (x + 1 + 1) (L.length * 6 + 0) = nI (s + 1) ∧ (y.1 = 0 → ∀ c v, y.2.2[c]? = some v → pI h (x + 1 + 1) (L.length * 6 + (1 + c)) = nI v)
/-- what acts leave alone -/
def FC (x : Nat) (h h1 : Hp) : Prop := SS h h1 ∧ pJ h1 = pJ h ∧ ∀ k, (k < 472 ∨ 475 < k) → k ≠ 477 → k ≠ x + 1 → k ≠ x + 1 + 1 → pI h1 k = pI h k
theorem FC.rf {x : Nat} {h : Hp} : FC x h h := ⟨rfl, rfl, fun _ _ _ _ _ => rfl⟩
theorem FC.tr {x : Nat} {a b c : Hp} (p : FC x a b) (q : FC x b c) : FC x a c := ⟨p.1.tr q.1, q.2.1.trans p.2.1, fun k k1 k0 k2 k3 => (q.2.2 k k1 k0 k2 k3).trans (p.2.2 k k1 k0 k2 k3)⟩
theorem RA.fc {x : Nat} {h h1 : Hp} {K : Nat → Nat} {n z i : Nat} (q : RA h K n z i h1) : FC x h h1 := ⟨q.1, q.2.2.1, fun k k1 k0 _ _ => q.2.1 k (by omega) k0⟩
section ASS
variable {x n s : Nat} {K W : Nat → Nat} {L : List Cl} {y : Nat × Nat × List Nat} {h h1 : Hp}
/-- the reader has gone on -/
theorem AS.mv (q : AS x K W n L s y h) {z1 i1 : Nat} (r : RA h K n z1 i1 h1) (h0 : z1 = 0 → y.1 = 0) : AS x K W n L s (z1, i1, y.2.2) h1 := by
  obtain ⟨q1, q2, ⟨d1, d2, d3, d4, d5, d6, d7⟩, q4, q5, q6⟩ := q
  have e : ∀ k, 501 ≤ k → pI h1 k = pI h k := fun k hk => r.2.1 k (by omega) (by omega)
  refine ⟨r.rb q1.1, by rw [r.1.R]; exact q2, ⟨d1, r.1.O d2, by rw [r.1.R]; exact d3, r.1.rw d4, ?_, d6, fun k p hk => by rw [e _ (by omega)]; exact d7 k p hk⟩, fun s hs => ?_, by rw [e _ (by omega)]; exact q5, fun w => by rw [e _ (by omega)]; exact q6 (h0 w)⟩
  · unfold RwC
    rw [e _ (by omega)]
    exact d5
  · obtain ⟨c, c1, c2⟩ := q4 s hs
    refine ⟨c, by rw [r.1.R]; exact c1, ?_⟩
    rcases c2 with ⟨a1, a2, a3, a4⟩ | ⟨a1, a2, a3⟩
    · exact Or.inl ⟨a1, a2, a3, fun p hp e1 => ⟨r.1.A (a4 p hp e1).1, by rw [e _ a2]; exact (a4 p hp e1).2⟩⟩
    · exact Or.inr ⟨a1, a2, r.1.Z a3⟩
/-- a number is laid into the row -/
theorem AS.set (q : AS x K W n L s y h) (wf : ∀ p ∈ L, WFq p) {c : Nat} {v : Int32} (hc : 1 ≤ c ∧ c < 6) {ns : List Nat} (hv : y.1 = 0 → ∀ j u, ns[j]? = some u → if j + 1 = c then v = nI u else y.2.2[j]? = some u) : AS x K W n L s (y.1, y.2.1, ns) (sI h (x + 1 + 1) (L.length * 6 + c) v) := by
  obtain ⟨q1, q2, ⟨d1, d2, d3, d4, d5, d6, d7⟩, q4, q5, q6⟩ := q
  refine ⟨q1.fr rfl (fun k k1 k2 => by rw [pI_sI_ne (by omega)]), q2, ⟨d1, d2, d3, d4, ?_, d6, fun k p hk => ?_⟩, fun s hs => ?_, ?_, fun w j u hj => ?_⟩
  · unfold RwC
    rw [pI_sI_ne (by omega)]
    exact d5
  · have kl := lt_of_some hk
    obtain ⟨a1, a2⟩ := d7 k p hk
    refine ⟨by rw [pI_sI, if_pos rfl, if_neg (by omega)]; exact a1, fun j u hj => ?_⟩
    have j5 : j < 5 := by have := lt_of_some hj; have := nCol_le p.1; have := (wf p (List.mem_of_getElem? hk)).2.2.2.1; omega
    rw [pI_sI, if_pos rfl, if_neg (by omega)]; exact a2 j u hj
  · obtain ⟨c, c1, c2⟩ := q4 s hs
    refine ⟨c, c1, ?_⟩
    rcases c2 with ⟨a1, a2, a3, a4⟩ | ⟨a1, a2, a3⟩
    · exact Or.inl ⟨a1, a2, a3, fun p hp e1 => ⟨(a4 p hp e1).1, by rw [pI_sI_ne (by omega)]; exact (a4 p hp e1).2⟩⟩
    · exact Or.inr ⟨a1, a2, a3⟩
  · rw [pI_sI, if_pos rfl, if_neg (by omega)]; exact q5
  · have := hv w j u hj
    rw [pI_sI, if_pos rfl]
    by_cases e : j + 1 = c
    · rw [if_pos e] at this
      rw [if_pos (by omega)]; exact this
    · rw [if_neg e] at this
      rw [if_neg (by omega)]; exact q6 w j u this
end ASS

section AS2
variable {x n s : Nat} {K W : Nat → Nat} {L : List Cl} {y : Nat × Nat × List Nat} {h : Hp} {d : Nat}
theorem AS.rw (q : AS x K W n L s y h) : RwS h (x + 1) 6 24 ∧ RwC h (x + 1) 6 24 (L.length + 1) := ⟨q.2.2.1.2.2.2.1, q.2.2.1.2.2.2.2.1⟩
/-- a number is read and laid -/
theorem g_num (q : AS x K W n L s y h) (wf : ∀ p ∈ L, WFq p) {lo hi c : Nat} (h9 : lo ≤ 9999 ∧ hi ≤ 9999) (hc : c = y.2.2.length + 1 ∨ ¬ y.1 = 0) (h6 : 1 ≤ c ∧ c < 6) (hd : 1 ≤ d) : ∃ v h1, Sp d mX2_readNumber [.ref 472, .int (nI lo), .int (nI hi)] h (some (.int v)) h1 ∧ (∀ d1, Sp d1 mX4_set [.ref (x + 1), .int (nI L.length), .int (nI c), .int v] h1 none (sI h1 (x + 1 + 1) (L.length * 6 + c) v)) ∧ AS x K W n L s (stNm K W lo hi y) (sI h1 (x + 1 + 1) (L.length * 6 + c) v) ∧ FC x h h1 := by
  have ct := q.1.1
  have ra := q.1.2
  have st : ∀ h1 v, RwS h1 (x + 1) 6 24 ∧ RwC h1 (x + 1) 6 24 (L.length + 1) → ∀ d1, Sp d1 mX4_set [.ref (x + 1), .int (nI L.length), .int (nI c), .int v] h1 none (sI h1 (x + 1 + 1) (L.length * 6 + c) v) := fun h1 v r d1 => s_set r.1 r.2 (by omega) h6.2
  by_cases hz : y.1 = 0
  · rw [hz] at ra
    have hc : c = y.2.2.length + 1 := hc.resolve_right (fun w => w hz)
    unfold stNm
    rw [if_pos hz]
    by_cases k1 : K y.2.1 = 52
    · rw [if_pos k1]
      by_cases k2 : lo ≤ W y.2.1 ∧ W y.2.1 ≤ hi
      · rw [if_pos k2]
        obtain ⟨h1, s1, r1, _⟩ := a_numY (d := d) ct ra k1 k2 h9.2 hd
        have q1 := q.mv r1 (fun _ => hz)
        refine ⟨_, h1, s1, st _ _ q1.rw, q1.set (ns := y.2.2 ++ [W y.2.1]) wf h6 (fun _ j u hj => ?_), r1.fc⟩
        by_cases e : j + 1 = c
        · rw [if_pos e]
          rw [List.getElem?_append_right (by omega), show j - y.2.2.length = 0 by omega] at hj
          cases hj
          rfl
        · rw [if_neg e]
          have := lt_of_some hj
          rw [len1n] at this
          rw [List.getElem?_append_left (by omega)] at hj
          exact hj
      · rw [if_neg k2]
        obtain ⟨h1, s1, r1, _⟩ := a_numN (d := d) ct ra k1 k2 h9 hd
        have q1 := q.mv r1 (fun w => absurd w (by omega))
        exact ⟨_, h1, s1, st _ _ q1.rw, q1.set wf h6 (fun w => absurd w (by show ¬ 2 = 0; omega)), r1.fc⟩
    · rw [if_neg k1]
      obtain ⟨h1, s1, r1, _⟩ := a_numP (d := d) (lo := lo) (hi := hi) ct ra k1 hd
      have q1 := q.mv r1 (fun w => absurd w (by omega))
      exact ⟨_, h1, s1, st _ _ q1.rw, q1.set wf h6 (fun w => absurd w (by show ¬ 1 = 0; omega)), r1.fc⟩
  · rw [stNm_z hz]
    exact ⟨_, h, a_num1 ct ra (by omega), st _ _ q.rw, q.set wf h6 (fun w => absurd w hz), FC.rf⟩
/-- a word is wanted -/
theorem g_exp (q : AS x K W n L s y h) {w : Nat} (hw : w < 53) (hd : 1 ≤ d) : ∃ h1, Sp d mX2_expect [.ref 472, .int (nI w)] h none h1 ∧ AS x K W n L s (stE K w y) h1 ∧ FC x h h1 := by
  have ct := q.1.1
  have ra := q.1.2
  by_cases hz : y.1 = 0
  · rw [hz] at ra
    unfold stE
    rw [if_pos hz]
    by_cases k1 : K y.2.1 = w
    · rw [if_pos k1]
      obtain ⟨h1, s1, r1, _⟩ := a_exy (d := d) ct ra k1 (ct.lt _ (by omega)) hd
      exact ⟨h1, s1, q.mv r1 (fun _ => hz), r1.fc⟩
    · rw [if_neg k1]
      obtain ⟨h1, s1, r1, _⟩ := a_exn (d := d) ct ra k1 (by omega) hd
      exact ⟨h1, s1, q.mv r1 (fun w => absurd w (by omega)), r1.fc⟩
  · rw [stE_z hz]
    exact ⟨h, a_ex1 ct ra (by omega), q, FC.rf⟩
theorem FC.st {h h1 : Hp} (f : FC x h h1) {j : Nat} {v : Int32} : FC x h (sI h1 (x + 1 + 1) j v) := ⟨f.1, f.2.1, fun k k1 k0 k2 k3 => by rw [pI_sI_ne k3]; exact f.2.2 k k1 k0 k2 k3⟩
theorem stNm_l {lo hi : Nat} : (stNm K W lo hi y).1 = 0 → (stNm K W lo hi y).2.2.length = y.2.2.length + 1 ∧ y.1 = 0 := by
  unfold stNm
  split
  · next hz =>
    split
    · split
      · intro _; exact ⟨len1n _ _, hz⟩
      · intro w; cases w
    · intro w; cases w
  · next hz => intro w; exact absurd w hz
theorem stE_l {w : Nat} : (stE K w y).1 = 0 → (stE K w y).2.2 = y.2.2 ∧ y.1 = 0 := by
  unfold stE
  split
  · next hz =>
    split
    · intro _; exact ⟨rfl, hz⟩
    · intro w; cases w
  · next hz => intro w; exact absurd w hz
end AS2

theorem c_readAct {x n s i d : Nat} {K W : Nat → Nat} {L : List Cl} {h : Hp} (q : AS x K W n L s (0, i, []) h) (wf : ∀ p ∈ L, WFq p) (hs : s = 3 ∨ s = 4 ∨ s = 6 ∨ s = 7 ∨ s = 8 ∨ s = 9) (hd : 2 ≤ d) : ∃ h1, Sp d mX2_readAct [.ref 472, .int (nI (s + 1)), .int (nI L.length)] h none h1 ∧ AS x K W n L s (rdA K W (itm s).1 (itm s).2.1 (itm s).2.2 i) h1 ∧ FC x h h1 := by
  rcases hs with rfl | rfl | rfl | rfl | rfl | rfl
  · rw [show rdA K W (itm 3).1 (itm 3).2.1 (itm 3).2.2 i = (stNm K W 0 99 (stE K 11 (stNm K W 0 10 (0, i, ([] : List Nat))))) from rdA_st1]
    obtain ⟨v1, g1, s1, u1, q1, f1⟩ := g_num (d := 1) (lo := 0) (hi := 10) (c := 1) q wf (by omega) (Or.inl rfl) (by omega) (Nat.le_refl _)
    have c1 := f1
    obtain ⟨g2, s2, q2, f2⟩ := g_exp (d := 1) (w := 11) q1 (by omega) (Nat.le_refl _)
    have c2 := c1.st.tr f2
    have ln3 : 2 = (stE K 11 (stNm K W 0 10 (0, i, ([] : List Nat)))).2.2.length + 1 ∨ ¬ (stE K 11 (stNm K W 0 10 (0, i, ([] : List Nat)))).1 = 0 := by
      by_cases w : (stE K 11 (stNm K W 0 10 (0, i, ([] : List Nat)))).1 = 0
      · left
        obtain ⟨a1, w1⟩ := stE_l w
        obtain ⟨a0, w0⟩ := stNm_l w1
        rw [a1, a0]
        rfl
      · exact Or.inr w
    obtain ⟨v3, g3, s3, u3, q3, f3⟩ := g_num (d := 1) (lo := 0) (hi := 99) (c := 2) q2 wf (by omega) (ln3) (by omega) (Nat.le_refl _)
    have c3 := c2.tr f3
    refine ⟨_, ?_, q3, c3.st⟩
    intro N S Q hN hS hQ
    have hN : pn h ≤ N := ss_n c3.st.1 hN
    have hS : ps h ≤ S := ss_s c3.st.1 hS
    refine z_aload_n dX2_readAct_0 rfl rfl ?_
    refine y_getR FX2_25 dX2_readAct_1 rfl (q.1.1.1.1) q.2.1 ?_
    refine y_getR FX2_74 dX2_readAct_4 rfl q.2.2.1.2.1 q.2.2.1.2.2.1 ?_
    refine z_astore_n dX2_readAct_7 rfl (Nat.le_of_ble_eq_true rfl) ?_
    refine z_iload_n dX2_readAct_8 rfl rfl ?_
    refine z_tableIn (off := 43) (tgt := 52) dX2_readAct_9 (by decide) (by decide) rfl rfl ?_
    refine z_aload_n dX2_readAct_52 rfl rfl ?_
    refine z_iload_n dX2_readAct_53 rfl rfl ?_
    refine z_iconst (v := 1) dX2_readAct_54 (by decide) ?_
    refine z_aload_n dX2_readAct_55 rfl rfl ?_
    refine z_iconst (v := 0) dX2_readAct_56 (by decide) ?_
    refine z_bipush (v := 10) dX2_readAct_57 (by decide) ?_
    refine y_callV (as := [_, _]) CX2_readNumber LX2_121 IX2_readNumber VX2_readNumber ⟨rfl, Nat.le_of_ble_eq_true rfl⟩ dX2_readAct_59 (q.1.1.1.1) rfl (Nat.le_of_ble_eq_true rfl) (Nat.le_of_ble_eq_true rfl) (by omega) s1 rok_i (hg_ss f1.1 hN hS) ?_
    refine y_callV (as := [_, _, _]) CX4_set LX2_85 IX4_set VX4_set ⟨rfl, Nat.le_of_ble_eq_true rfl⟩ dX2_readAct_62 (c1.1.O q.2.2.1.2.2.2.1.1) rfl (Nat.le_of_ble_eq_true rfl) (Nat.le_of_ble_eq_true rfl) (by omega) (u1 0) rok_v ⟨Nat.le_refl _, Nat.le_refl _, ss_n' c1.1 hN, ss_s' c1.1 hS⟩ ?_
    refine z_aload_n dX2_readAct_65 rfl rfl ?_
    refine z_bipush (v := 11) dX2_readAct_66 (by decide) ?_
    refine y_callV (as := [_]) CX2_expect LX2_99 IX2_expect VX2_expect ⟨rfl, Nat.le_of_ble_eq_true rfl⟩ dX2_readAct_68 (c1.st.1.O (q.1.1.1.1)) rfl (Nat.le_of_ble_eq_true rfl) (Nat.le_of_ble_eq_true rfl) (by omega) s2 rok_v (hg_ss f2.1 (ss_n' c1.st.1 hN) (ss_s' c1.st.1 hS)) ?_
    refine z_aload_n dX2_readAct_71 rfl rfl ?_
    refine z_iload_n dX2_readAct_72 rfl rfl ?_
    refine z_iconst (v := 2) dX2_readAct_73 (by decide) ?_
    refine z_aload_n dX2_readAct_74 rfl rfl ?_
    refine z_iconst (v := 0) dX2_readAct_75 (by decide) ?_
    refine z_bipush (v := 99) dX2_readAct_76 (by decide) ?_
    refine y_callV (as := [_, _]) CX2_readNumber LX2_121 IX2_readNumber VX2_readNumber ⟨rfl, Nat.le_of_ble_eq_true rfl⟩ dX2_readAct_78 (c2.1.O (q.1.1.1.1)) rfl (Nat.le_of_ble_eq_true rfl) (Nat.le_of_ble_eq_true rfl) (by omega) s3 rok_i (hg_ss f3.1 (ss_n' c2.1 hN) (ss_s' c2.1 hS)) ?_
    refine y_callV (as := [_, _, _]) CX4_set LX2_85 IX4_set VX4_set ⟨rfl, Nat.le_of_ble_eq_true rfl⟩ dX2_readAct_81 (c3.1.O q.2.2.1.2.2.2.1.1) rfl (Nat.le_of_ble_eq_true rfl) (Nat.le_of_ble_eq_true rfl) (by omega) (u3 0) rok_v ⟨Nat.le_refl _, Nat.le_refl _, ss_n' c3.1 hN, ss_s' c3.1 hS⟩ ?_
    refine z_goto dX2_readAct_84 rfl ?_
    refine z_vret dX2_readAct_224 ?_
    exact hQ
  · rw [show rdA K W (itm 4).1 (itm 4).2.1 (itm 4).2.2 i = (stNm K W 0 99 (stE K 12 (stNm K W 0 9999 (0, i, ([] : List Nat))))) from rdA_st1]
    obtain ⟨v1, g1, s1, u1, q1, f1⟩ := g_num (d := 1) (lo := 0) (hi := 9999) (c := 1) q wf (by omega) (Or.inl rfl) (by omega) (Nat.le_refl _)
    have c1 := f1
    obtain ⟨g2, s2, q2, f2⟩ := g_exp (d := 1) (w := 12) q1 (by omega) (Nat.le_refl _)
    have c2 := c1.st.tr f2
    have ln3 : 2 = (stE K 12 (stNm K W 0 9999 (0, i, ([] : List Nat)))).2.2.length + 1 ∨ ¬ (stE K 12 (stNm K W 0 9999 (0, i, ([] : List Nat)))).1 = 0 := by
      by_cases w : (stE K 12 (stNm K W 0 9999 (0, i, ([] : List Nat)))).1 = 0
      · left
        obtain ⟨a1, w1⟩ := stE_l w
        obtain ⟨a0, w0⟩ := stNm_l w1
        rw [a1, a0]
        rfl
      · exact Or.inr w
    obtain ⟨v3, g3, s3, u3, q3, f3⟩ := g_num (d := 1) (lo := 0) (hi := 99) (c := 2) q2 wf (by omega) (ln3) (by omega) (Nat.le_refl _)
    have c3 := c2.tr f3
    refine ⟨_, ?_, q3, c3.st⟩
    intro N S Q hN hS hQ
    have hN : pn h ≤ N := ss_n c3.st.1 hN
    have hS : ps h ≤ S := ss_s c3.st.1 hS
    refine z_aload_n dX2_readAct_0 rfl rfl ?_
    refine y_getR FX2_25 dX2_readAct_1 rfl (q.1.1.1.1) q.2.1 ?_
    refine y_getR FX2_74 dX2_readAct_4 rfl q.2.2.1.2.1 q.2.2.1.2.2.1 ?_
    refine z_astore_n dX2_readAct_7 rfl (Nat.le_of_ble_eq_true rfl) ?_
    refine z_iload_n dX2_readAct_8 rfl rfl ?_
    refine z_tableIn (off := 78) (tgt := 87) dX2_readAct_9 (by decide) (by decide) rfl rfl ?_
    refine z_aload_n dX2_readAct_87 rfl rfl ?_
    refine z_iload_n dX2_readAct_88 rfl rfl ?_
    refine z_iconst (v := 1) dX2_readAct_89 (by decide) ?_
    refine z_aload_n dX2_readAct_90 rfl rfl ?_
    refine z_iconst (v := 0) dX2_readAct_91 (by decide) ?_
    refine z_sipush (v := 9999) dX2_readAct_92 (by decide) ?_
    refine y_callV (as := [_, _]) CX2_readNumber LX2_121 IX2_readNumber VX2_readNumber ⟨rfl, Nat.le_of_ble_eq_true rfl⟩ dX2_readAct_95 (q.1.1.1.1) rfl (Nat.le_of_ble_eq_true rfl) (Nat.le_of_ble_eq_true rfl) (by omega) s1 rok_i (hg_ss f1.1 hN hS) ?_
    refine y_callV (as := [_, _, _]) CX4_set LX2_85 IX4_set VX4_set ⟨rfl, Nat.le_of_ble_eq_true rfl⟩ dX2_readAct_98 (c1.1.O q.2.2.1.2.2.2.1.1) rfl (Nat.le_of_ble_eq_true rfl) (Nat.le_of_ble_eq_true rfl) (by omega) (u1 0) rok_v ⟨Nat.le_refl _, Nat.le_refl _, ss_n' c1.1 hN, ss_s' c1.1 hS⟩ ?_
    refine z_aload_n dX2_readAct_101 rfl rfl ?_
    refine z_bipush (v := 12) dX2_readAct_102 (by decide) ?_
    refine y_callV (as := [_]) CX2_expect LX2_99 IX2_expect VX2_expect ⟨rfl, Nat.le_of_ble_eq_true rfl⟩ dX2_readAct_104 (c1.st.1.O (q.1.1.1.1)) rfl (Nat.le_of_ble_eq_true rfl) (Nat.le_of_ble_eq_true rfl) (by omega) s2 rok_v (hg_ss f2.1 (ss_n' c1.st.1 hN) (ss_s' c1.st.1 hS)) ?_
    refine z_aload_n dX2_readAct_107 rfl rfl ?_
    refine z_iload_n dX2_readAct_108 rfl rfl ?_
    refine z_iconst (v := 2) dX2_readAct_109 (by decide) ?_
    refine z_aload_n dX2_readAct_110 rfl rfl ?_
    refine z_iconst (v := 0) dX2_readAct_111 (by decide) ?_
    refine z_bipush (v := 99) dX2_readAct_112 (by decide) ?_
    refine y_callV (as := [_, _]) CX2_readNumber LX2_121 IX2_readNumber VX2_readNumber ⟨rfl, Nat.le_of_ble_eq_true rfl⟩ dX2_readAct_114 (c2.1.O (q.1.1.1.1)) rfl (Nat.le_of_ble_eq_true rfl) (Nat.le_of_ble_eq_true rfl) (by omega) s3 rok_i (hg_ss f3.1 (ss_n' c2.1 hN) (ss_s' c2.1 hS)) ?_
    refine y_callV (as := [_, _, _]) CX4_set LX2_85 IX4_set VX4_set ⟨rfl, Nat.le_of_ble_eq_true rfl⟩ dX2_readAct_117 (c3.1.O q.2.2.1.2.2.2.1.1) rfl (Nat.le_of_ble_eq_true rfl) (Nat.le_of_ble_eq_true rfl) (by omega) (u3 0) rok_v ⟨Nat.le_refl _, Nat.le_refl _, ss_n' c3.1 hN, ss_s' c3.1 hS⟩ ?_
    refine z_goto dX2_readAct_120 rfl ?_
    refine z_vret dX2_readAct_224 ?_
    exact hQ
  · rw [show rdA K W (itm 6).1 (itm 6).2.1 (itm 6).2.2 i = (stNm K W 0 4 (stE K 17 (stNm K W 0 7 (0, i, ([] : List Nat))))) from rdA_st1]
    obtain ⟨v1, g1, s1, u1, q1, f1⟩ := g_num (d := 1) (lo := 0) (hi := 7) (c := 1) q wf (by omega) (Or.inl rfl) (by omega) (Nat.le_refl _)
    have c1 := f1
    obtain ⟨g2, s2, q2, f2⟩ := g_exp (d := 1) (w := 17) q1 (by omega) (Nat.le_refl _)
    have c2 := c1.st.tr f2
    have ln3 : 2 = (stE K 17 (stNm K W 0 7 (0, i, ([] : List Nat)))).2.2.length + 1 ∨ ¬ (stE K 17 (stNm K W 0 7 (0, i, ([] : List Nat)))).1 = 0 := by
      by_cases w : (stE K 17 (stNm K W 0 7 (0, i, ([] : List Nat)))).1 = 0
      · left
        obtain ⟨a1, w1⟩ := stE_l w
        obtain ⟨a0, w0⟩ := stNm_l w1
        rw [a1, a0]
        rfl
      · exact Or.inr w
    obtain ⟨v3, g3, s3, u3, q3, f3⟩ := g_num (d := 1) (lo := 0) (hi := 4) (c := 2) q2 wf (by omega) (ln3) (by omega) (Nat.le_refl _)
    have c3 := c2.tr f3
    refine ⟨_, ?_, q3, c3.st⟩
    intro N S Q hN hS hQ
    have hN : pn h ≤ N := ss_n c3.st.1 hN
    have hS : ps h ≤ S := ss_s c3.st.1 hS
    refine z_aload_n dX2_readAct_0 rfl rfl ?_
    refine y_getR FX2_25 dX2_readAct_1 rfl (q.1.1.1.1) q.2.1 ?_
    refine y_getR FX2_74 dX2_readAct_4 rfl q.2.2.1.2.1 q.2.2.1.2.2.1 ?_
    refine z_astore_n dX2_readAct_7 rfl (Nat.le_of_ble_eq_true rfl) ?_
    refine z_iload_n dX2_readAct_8 rfl rfl ?_
    refine z_tableIn (off := 184) (tgt := 193) dX2_readAct_9 (by decide) (by decide) rfl rfl ?_
    refine z_aload_n dX2_readAct_193 rfl rfl ?_
    refine z_iload_n dX2_readAct_194 rfl rfl ?_
    refine z_iconst (v := 1) dX2_readAct_195 (by decide) ?_
    refine z_aload_n dX2_readAct_196 rfl rfl ?_
    refine z_iconst (v := 0) dX2_readAct_197 (by decide) ?_
    refine z_bipush (v := 7) dX2_readAct_198 (by decide) ?_
    refine y_callV (as := [_, _]) CX2_readNumber LX2_121 IX2_readNumber VX2_readNumber ⟨rfl, Nat.le_of_ble_eq_true rfl⟩ dX2_readAct_200 (q.1.1.1.1) rfl (Nat.le_of_ble_eq_true rfl) (Nat.le_of_ble_eq_true rfl) (by omega) s1 rok_i (hg_ss f1.1 hN hS) ?_
    refine y_callV (as := [_, _, _]) CX4_set LX2_85 IX4_set VX4_set ⟨rfl, Nat.le_of_ble_eq_true rfl⟩ dX2_readAct_203 (c1.1.O q.2.2.1.2.2.2.1.1) rfl (Nat.le_of_ble_eq_true rfl) (Nat.le_of_ble_eq_true rfl) (by omega) (u1 0) rok_v ⟨Nat.le_refl _, Nat.le_refl _, ss_n' c1.1 hN, ss_s' c1.1 hS⟩ ?_
    refine z_aload_n dX2_readAct_206 rfl rfl ?_
    refine z_bipush (v := 17) dX2_readAct_207 (by decide) ?_
    refine y_callV (as := [_]) CX2_expect LX2_99 IX2_expect VX2_expect ⟨rfl, Nat.le_of_ble_eq_true rfl⟩ dX2_readAct_209 (c1.st.1.O (q.1.1.1.1)) rfl (Nat.le_of_ble_eq_true rfl) (Nat.le_of_ble_eq_true rfl) (by omega) s2 rok_v (hg_ss f2.1 (ss_n' c1.st.1 hN) (ss_s' c1.st.1 hS)) ?_
    refine z_aload_n dX2_readAct_212 rfl rfl ?_
    refine z_iload_n dX2_readAct_213 rfl rfl ?_
    refine z_iconst (v := 2) dX2_readAct_214 (by decide) ?_
    refine z_aload_n dX2_readAct_215 rfl rfl ?_
    refine z_iconst (v := 0) dX2_readAct_216 (by decide) ?_
    refine z_iconst (v := 4) dX2_readAct_217 (by decide) ?_
    refine y_callV (as := [_, _]) CX2_readNumber LX2_121 IX2_readNumber VX2_readNumber ⟨rfl, Nat.le_of_ble_eq_true rfl⟩ dX2_readAct_218 (c2.1.O (q.1.1.1.1)) rfl (Nat.le_of_ble_eq_true rfl) (Nat.le_of_ble_eq_true rfl) (by omega) s3 rok_i (hg_ss f3.1 (ss_n' c2.1 hN) (ss_s' c2.1 hS)) ?_
    refine y_callV (as := [_, _, _]) CX4_set LX2_85 IX4_set VX4_set ⟨rfl, Nat.le_of_ble_eq_true rfl⟩ dX2_readAct_221 (c3.1.O q.2.2.1.2.2.2.1.1) rfl (Nat.le_of_ble_eq_true rfl) (Nat.le_of_ble_eq_true rfl) (by omega) (u3 0) rok_v ⟨Nat.le_refl _, Nat.le_refl _, ss_n' c3.1 hN, ss_s' c3.1 hS⟩ ?_
    refine z_vret dX2_readAct_224 ?_
    exact hQ
  · rw [show rdA K W (itm 7).1 (itm 7).2.1 (itm 7).2.2 i = (stNm K W 0 4 (stE K 17 (stNm K W 0 7 (0, i, ([] : List Nat))))) from rdA_st1]
    obtain ⟨v1, g1, s1, u1, q1, f1⟩ := g_num (d := 1) (lo := 0) (hi := 7) (c := 1) q wf (by omega) (Or.inl rfl) (by omega) (Nat.le_refl _)
    have c1 := f1
    obtain ⟨g2, s2, q2, f2⟩ := g_exp (d := 1) (w := 17) q1 (by omega) (Nat.le_refl _)
    have c2 := c1.st.tr f2
    have ln3 : 2 = (stE K 17 (stNm K W 0 7 (0, i, ([] : List Nat)))).2.2.length + 1 ∨ ¬ (stE K 17 (stNm K W 0 7 (0, i, ([] : List Nat)))).1 = 0 := by
      by_cases w : (stE K 17 (stNm K W 0 7 (0, i, ([] : List Nat)))).1 = 0
      · left
        obtain ⟨a1, w1⟩ := stE_l w
        obtain ⟨a0, w0⟩ := stNm_l w1
        rw [a1, a0]
        rfl
      · exact Or.inr w
    obtain ⟨v3, g3, s3, u3, q3, f3⟩ := g_num (d := 1) (lo := 0) (hi := 4) (c := 2) q2 wf (by omega) (ln3) (by omega) (Nat.le_refl _)
    have c3 := c2.tr f3
    refine ⟨_, ?_, q3, c3.st⟩
    intro N S Q hN hS hQ
    have hN : pn h ≤ N := ss_n c3.st.1 hN
    have hS : ps h ≤ S := ss_s c3.st.1 hS
    refine z_aload_n dX2_readAct_0 rfl rfl ?_
    refine y_getR FX2_25 dX2_readAct_1 rfl (q.1.1.1.1) q.2.1 ?_
    refine y_getR FX2_74 dX2_readAct_4 rfl q.2.2.1.2.1 q.2.2.1.2.2.1 ?_
    refine z_astore_n dX2_readAct_7 rfl (Nat.le_of_ble_eq_true rfl) ?_
    refine z_iload_n dX2_readAct_8 rfl rfl ?_
    refine z_tableIn (off := 184) (tgt := 193) dX2_readAct_9 (by decide) (by decide) rfl rfl ?_
    refine z_aload_n dX2_readAct_193 rfl rfl ?_
    refine z_iload_n dX2_readAct_194 rfl rfl ?_
    refine z_iconst (v := 1) dX2_readAct_195 (by decide) ?_
    refine z_aload_n dX2_readAct_196 rfl rfl ?_
    refine z_iconst (v := 0) dX2_readAct_197 (by decide) ?_
    refine z_bipush (v := 7) dX2_readAct_198 (by decide) ?_
    refine y_callV (as := [_, _]) CX2_readNumber LX2_121 IX2_readNumber VX2_readNumber ⟨rfl, Nat.le_of_ble_eq_true rfl⟩ dX2_readAct_200 (q.1.1.1.1) rfl (Nat.le_of_ble_eq_true rfl) (Nat.le_of_ble_eq_true rfl) (by omega) s1 rok_i (hg_ss f1.1 hN hS) ?_
    refine y_callV (as := [_, _, _]) CX4_set LX2_85 IX4_set VX4_set ⟨rfl, Nat.le_of_ble_eq_true rfl⟩ dX2_readAct_203 (c1.1.O q.2.2.1.2.2.2.1.1) rfl (Nat.le_of_ble_eq_true rfl) (Nat.le_of_ble_eq_true rfl) (by omega) (u1 0) rok_v ⟨Nat.le_refl _, Nat.le_refl _, ss_n' c1.1 hN, ss_s' c1.1 hS⟩ ?_
    refine z_aload_n dX2_readAct_206 rfl rfl ?_
    refine z_bipush (v := 17) dX2_readAct_207 (by decide) ?_
    refine y_callV (as := [_]) CX2_expect LX2_99 IX2_expect VX2_expect ⟨rfl, Nat.le_of_ble_eq_true rfl⟩ dX2_readAct_209 (c1.st.1.O (q.1.1.1.1)) rfl (Nat.le_of_ble_eq_true rfl) (Nat.le_of_ble_eq_true rfl) (by omega) s2 rok_v (hg_ss f2.1 (ss_n' c1.st.1 hN) (ss_s' c1.st.1 hS)) ?_
    refine z_aload_n dX2_readAct_212 rfl rfl ?_
    refine z_iload_n dX2_readAct_213 rfl rfl ?_
    refine z_iconst (v := 2) dX2_readAct_214 (by decide) ?_
    refine z_aload_n dX2_readAct_215 rfl rfl ?_
    refine z_iconst (v := 0) dX2_readAct_216 (by decide) ?_
    refine z_iconst (v := 4) dX2_readAct_217 (by decide) ?_
    refine y_callV (as := [_, _]) CX2_readNumber LX2_121 IX2_readNumber VX2_readNumber ⟨rfl, Nat.le_of_ble_eq_true rfl⟩ dX2_readAct_218 (c2.1.O (q.1.1.1.1)) rfl (Nat.le_of_ble_eq_true rfl) (Nat.le_of_ble_eq_true rfl) (by omega) s3 rok_i (hg_ss f3.1 (ss_n' c2.1 hN) (ss_s' c2.1 hS)) ?_
    refine y_callV (as := [_, _, _]) CX4_set LX2_85 IX4_set VX4_set ⟨rfl, Nat.le_of_ble_eq_true rfl⟩ dX2_readAct_221 (c3.1.O q.2.2.1.2.2.2.1.1) rfl (Nat.le_of_ble_eq_true rfl) (Nat.le_of_ble_eq_true rfl) (by omega) (u3 0) rok_v ⟨Nat.le_refl _, Nat.le_refl _, ss_n' c3.1 hN, ss_s' c3.1 hS⟩ ?_
    refine z_vret dX2_readAct_224 ?_
    exact hQ
  · rw [show rdA K W (itm 8).1 (itm 8).2.1 (itm 8).2.2 i = (stNm K W 0 999 (stE K 19 (stNm K W 0 4 (stE K 18 (stNm K W 0 11 (0, i, ([] : List Nat))))))) from rdA_st2]
    obtain ⟨v1, g1, s1, u1, q1, f1⟩ := g_num (d := 1) (lo := 0) (hi := 11) (c := 1) q wf (by omega) (Or.inl rfl) (by omega) (Nat.le_refl _)
    have c1 := f1
    obtain ⟨g2, s2, q2, f2⟩ := g_exp (d := 1) (w := 18) q1 (by omega) (Nat.le_refl _)
    have c2 := c1.st.tr f2
    have ln3 : 2 = (stE K 18 (stNm K W 0 11 (0, i, ([] : List Nat)))).2.2.length + 1 ∨ ¬ (stE K 18 (stNm K W 0 11 (0, i, ([] : List Nat)))).1 = 0 := by
      by_cases w : (stE K 18 (stNm K W 0 11 (0, i, ([] : List Nat)))).1 = 0
      · left
        obtain ⟨a1, w1⟩ := stE_l w
        obtain ⟨a0, w0⟩ := stNm_l w1
        rw [a1, a0]
        rfl
      · exact Or.inr w
    obtain ⟨v3, g3, s3, u3, q3, f3⟩ := g_num (d := 1) (lo := 0) (hi := 4) (c := 2) q2 wf (by omega) (ln3) (by omega) (Nat.le_refl _)
    have c3 := c2.tr f3
    obtain ⟨g4, s4, q4, f4⟩ := g_exp (d := 1) (w := 19) q3 (by omega) (Nat.le_refl _)
    have c4 := c3.st.tr f4
    have ln5 : 3 = (stE K 19 (stNm K W 0 4 (stE K 18 (stNm K W 0 11 (0, i, ([] : List Nat)))))).2.2.length + 1 ∨ ¬ (stE K 19 (stNm K W 0 4 (stE K 18 (stNm K W 0 11 (0, i, ([] : List Nat)))))).1 = 0 := by
      by_cases w : (stE K 19 (stNm K W 0 4 (stE K 18 (stNm K W 0 11 (0, i, ([] : List Nat)))))).1 = 0
      · left
        obtain ⟨a3, w3⟩ := stE_l w
        obtain ⟨a2, w2⟩ := stNm_l w3
        obtain ⟨a1, w1⟩ := stE_l w2
        obtain ⟨a0, w0⟩ := stNm_l w1
        rw [a3, a2, a1, a0]
        rfl
      · exact Or.inr w
    obtain ⟨v5, g5, s5, u5, q5, f5⟩ := g_num (d := 1) (lo := 0) (hi := 999) (c := 3) q4 wf (by omega) (ln5) (by omega) (Nat.le_refl _)
    have c5 := c4.tr f5
    refine ⟨_, ?_, q5, c5.st⟩
    intro N S Q hN hS hQ
    have hN : pn h ≤ N := ss_n c5.st.1 hN
    have hS : ps h ≤ S := ss_s c5.st.1 hS
    refine z_aload_n dX2_readAct_0 rfl rfl ?_
    refine y_getR FX2_25 dX2_readAct_1 rfl (q.1.1.1.1) q.2.1 ?_
    refine y_getR FX2_74 dX2_readAct_4 rfl q.2.2.1.2.1 q.2.2.1.2.2.1 ?_
    refine z_astore_n dX2_readAct_7 rfl (Nat.le_of_ble_eq_true rfl) ?_
    refine z_iload_n dX2_readAct_8 rfl rfl ?_
    refine z_tableIn (off := 114) (tgt := 123) dX2_readAct_9 (by decide) (by decide) rfl rfl ?_
    refine z_aload_n dX2_readAct_123 rfl rfl ?_
    refine z_iload_n dX2_readAct_124 rfl rfl ?_
    refine z_iconst (v := 1) dX2_readAct_125 (by decide) ?_
    refine z_aload_n dX2_readAct_126 rfl rfl ?_
    refine z_iconst (v := 0) dX2_readAct_127 (by decide) ?_
    refine z_bipush (v := 11) dX2_readAct_128 (by decide) ?_
    refine y_callV (as := [_, _]) CX2_readNumber LX2_121 IX2_readNumber VX2_readNumber ⟨rfl, Nat.le_of_ble_eq_true rfl⟩ dX2_readAct_130 (q.1.1.1.1) rfl (Nat.le_of_ble_eq_true rfl) (Nat.le_of_ble_eq_true rfl) (by omega) s1 rok_i (hg_ss f1.1 hN hS) ?_
    refine y_callV (as := [_, _, _]) CX4_set LX2_85 IX4_set VX4_set ⟨rfl, Nat.le_of_ble_eq_true rfl⟩ dX2_readAct_133 (c1.1.O q.2.2.1.2.2.2.1.1) rfl (Nat.le_of_ble_eq_true rfl) (Nat.le_of_ble_eq_true rfl) (by omega) (u1 0) rok_v ⟨Nat.le_refl _, Nat.le_refl _, ss_n' c1.1 hN, ss_s' c1.1 hS⟩ ?_
    refine z_aload_n dX2_readAct_136 rfl rfl ?_
    refine z_bipush (v := 18) dX2_readAct_137 (by decide) ?_
    refine y_callV (as := [_]) CX2_expect LX2_99 IX2_expect VX2_expect ⟨rfl, Nat.le_of_ble_eq_true rfl⟩ dX2_readAct_139 (c1.st.1.O (q.1.1.1.1)) rfl (Nat.le_of_ble_eq_true rfl) (Nat.le_of_ble_eq_true rfl) (by omega) s2 rok_v (hg_ss f2.1 (ss_n' c1.st.1 hN) (ss_s' c1.st.1 hS)) ?_
    refine z_aload_n dX2_readAct_142 rfl rfl ?_
    refine z_iload_n dX2_readAct_143 rfl rfl ?_
    refine z_iconst (v := 2) dX2_readAct_144 (by decide) ?_
    refine z_aload_n dX2_readAct_145 rfl rfl ?_
    refine z_iconst (v := 0) dX2_readAct_146 (by decide) ?_
    refine z_iconst (v := 4) dX2_readAct_147 (by decide) ?_
    refine y_callV (as := [_, _]) CX2_readNumber LX2_121 IX2_readNumber VX2_readNumber ⟨rfl, Nat.le_of_ble_eq_true rfl⟩ dX2_readAct_148 (c2.1.O (q.1.1.1.1)) rfl (Nat.le_of_ble_eq_true rfl) (Nat.le_of_ble_eq_true rfl) (by omega) s3 rok_i (hg_ss f3.1 (ss_n' c2.1 hN) (ss_s' c2.1 hS)) ?_
    refine y_callV (as := [_, _, _]) CX4_set LX2_85 IX4_set VX4_set ⟨rfl, Nat.le_of_ble_eq_true rfl⟩ dX2_readAct_151 (c3.1.O q.2.2.1.2.2.2.1.1) rfl (Nat.le_of_ble_eq_true rfl) (Nat.le_of_ble_eq_true rfl) (by omega) (u3 0) rok_v ⟨Nat.le_refl _, Nat.le_refl _, ss_n' c3.1 hN, ss_s' c3.1 hS⟩ ?_
    refine z_aload_n dX2_readAct_154 rfl rfl ?_
    refine z_bipush (v := 19) dX2_readAct_155 (by decide) ?_
    refine y_callV (as := [_]) CX2_expect LX2_99 IX2_expect VX2_expect ⟨rfl, Nat.le_of_ble_eq_true rfl⟩ dX2_readAct_157 (c3.st.1.O (q.1.1.1.1)) rfl (Nat.le_of_ble_eq_true rfl) (Nat.le_of_ble_eq_true rfl) (by omega) s4 rok_v (hg_ss f4.1 (ss_n' c3.st.1 hN) (ss_s' c3.st.1 hS)) ?_
    refine z_aload_n dX2_readAct_160 rfl rfl ?_
    refine z_iload_n dX2_readAct_161 rfl rfl ?_
    refine z_iconst (v := 3) dX2_readAct_162 (by decide) ?_
    refine z_aload_n dX2_readAct_163 rfl rfl ?_
    refine z_iconst (v := 0) dX2_readAct_164 (by decide) ?_
    refine z_sipush (v := 999) dX2_readAct_165 (by decide) ?_
    refine y_callV (as := [_, _]) CX2_readNumber LX2_121 IX2_readNumber VX2_readNumber ⟨rfl, Nat.le_of_ble_eq_true rfl⟩ dX2_readAct_168 (c4.1.O (q.1.1.1.1)) rfl (Nat.le_of_ble_eq_true rfl) (Nat.le_of_ble_eq_true rfl) (by omega) s5 rok_i (hg_ss f5.1 (ss_n' c4.1 hN) (ss_s' c4.1 hS)) ?_
    refine y_callV (as := [_, _, _]) CX4_set LX2_85 IX4_set VX4_set ⟨rfl, Nat.le_of_ble_eq_true rfl⟩ dX2_readAct_171 (c5.1.O q.2.2.1.2.2.2.1.1) rfl (Nat.le_of_ble_eq_true rfl) (Nat.le_of_ble_eq_true rfl) (by omega) (u5 0) rok_v ⟨Nat.le_refl _, Nat.le_refl _, ss_n' c5.1 hN, ss_s' c5.1 hS⟩ ?_
    refine z_goto dX2_readAct_174 rfl ?_
    refine z_vret dX2_readAct_224 ?_
    exact hQ
  · rw [show rdA K W (itm 9).1 (itm 9).2.1 (itm 9).2.2 i = (stNm K W 1 60 (0, i, ([] : List Nat))) from rdA_st]
    obtain ⟨v1, g1, s1, u1, q1, f1⟩ := g_num (d := 1) (lo := 1) (hi := 60) (c := 1) q wf (by omega) (Or.inl rfl) (by omega) (Nat.le_refl _)
    have c1 := f1
    refine ⟨_, ?_, q1, c1.st⟩
    intro N S Q hN hS hQ
    have hN : pn h ≤ N := ss_n c1.st.1 hN
    have hS : ps h ≤ S := ss_s c1.st.1 hS
    refine z_aload_n dX2_readAct_0 rfl rfl ?_
    refine y_getR FX2_25 dX2_readAct_1 rfl (q.1.1.1.1) q.2.1 ?_
    refine y_getR FX2_74 dX2_readAct_4 rfl q.2.2.1.2.1 q.2.2.1.2.2.1 ?_
    refine z_astore_n dX2_readAct_7 rfl (Nat.le_of_ble_eq_true rfl) ?_
    refine z_iload_n dX2_readAct_8 rfl rfl ?_
    refine z_tableIn (off := 168) (tgt := 177) dX2_readAct_9 (by decide) (by decide) rfl rfl ?_
    refine z_aload_n dX2_readAct_177 rfl rfl ?_
    refine z_iload_n dX2_readAct_178 rfl rfl ?_
    refine z_iconst (v := 1) dX2_readAct_179 (by decide) ?_
    refine z_aload_n dX2_readAct_180 rfl rfl ?_
    refine z_iconst (v := 1) dX2_readAct_181 (by decide) ?_
    refine z_bipush (v := 60) dX2_readAct_182 (by decide) ?_
    refine y_callV (as := [_, _]) CX2_readNumber LX2_121 IX2_readNumber VX2_readNumber ⟨rfl, Nat.le_of_ble_eq_true rfl⟩ dX2_readAct_184 (q.1.1.1.1) rfl (Nat.le_of_ble_eq_true rfl) (Nat.le_of_ble_eq_true rfl) (by omega) s1 rok_i (hg_ss f1.1 hN hS) ?_
    refine y_callV (as := [_, _, _]) CX4_set LX2_85 IX4_set VX4_set ⟨rfl, Nat.le_of_ble_eq_true rfl⟩ dX2_readAct_187 (c1.1.O q.2.2.1.2.2.2.1.1) rfl (Nat.le_of_ble_eq_true rfl) (Nat.le_of_ble_eq_true rfl) (by omega) (u1 0) rok_v ⟨Nat.le_refl _, Nat.le_refl _, ss_n' c1.1 hN, ss_s' c1.1 hS⟩ ?_
    refine z_goto dX2_readAct_190 rfl ?_
    refine z_vret dX2_readAct_224 ?_
    exact hQ

