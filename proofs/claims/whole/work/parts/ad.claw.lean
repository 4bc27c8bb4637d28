/-! the class reads laws (wip/whole/genad.py) -/
/-- cells stay as they are, and some are new -/
def EX (h h1 : Hp) : Prop := pn h ≤ pn h1 ∧ ∀ k, k < pn h → pK h1 k = pK h k
theorem EX.O {h h1 : Hp} {c k : Nat} (e : EX h h1) (o : IO h c k) : IO h1 c k := ⟨o.1, by have := e.1; have := o.2.1; omega, by rw [e.2 k o.2.1]; exact o.2.2⟩
theorem EX.A {h h1 : Hp} {t n k : Nat} (e : EX h h1) (o : IA h t n k) : IA h1 t n k := ⟨o.1, by have := e.1; have := o.2.1; omega, by rw [e.2 k o.2.1]; exact o.2.2⟩
theorem EX.Z {h h1 : Hp} {k : Nat} (e : EX h h1) (o : I0 h k) : I0 h1 k := ⟨by have := e.1; have := o.1; omega, by rw [e.2 k o.1]; exact o.2⟩
theorem EX.rf {h : Hp} : EX h h := ⟨Nat.le_refl _, fun _ _ => rfl⟩
theorem EX.tr {a b c : Hp} (p : EX a b) (q : EX b c) : EX a c := ⟨Nat.le_trans p.1 q.1, fun k hk => (q.2 k (by have := p.1; omega)).trans (p.2 k hk)⟩
theorem EX.ss {h h1 : Hp} (s : SS h h1) : EX h h1 := ⟨by rw [s.n]; exact Nat.le_refl _, fun k _ => by rw [s.K]⟩
theorem EX.nw {h : Hp} {c n : Nat} : EX h (nw h c n) := ⟨by rw [pn_nw]; omega, fun k hk => by rw [pK_nw, if_neg (by omega)]⟩
theorem EX.rw {h h1 : Hp} {k w ms : Nat} (e : EX h h1) (hr : RwS h k w ms) (eR : pR h1 k 2 = pR h k 2) : RwS h1 k w ms := ⟨e.O hr.1, by rw [eR]; exact hr.2.1, e.A hr.2.2⟩
theorem EX.cr {h h1 : Hp} (e : EX h h1) (c : CR h) (eR : ∀ k j, k = 472 ∨ k = 473 → j < 7 → pR h1 k j = pR h k j) : CR h1 := by
  obtain ⟨c1, c2, c3, c4, c5, c6, c7⟩ := c
  exact ⟨e.O c1, by rw [eR _ _ (by omega) (by omega)]; exact c2, e.O c3, ⟨by rw [eR _ _ (by omega) (by omega)]; exact c4.1, e.A c4.2⟩, ⟨by rw [eR _ _ (by omega) (by omega)]; exact c5.1, e.A c5.2⟩, ⟨by rw [eR _ _ (by omega) (by omega)]; exact c6.1, e.A c6.2⟩, ⟨by rw [eR _ _ (by omega) (by omega)]; exact c7.1, e.A c7.2⟩⟩
theorem EX.ct {h h1 : Hp} {K W : Nat → Nat} {n : Nat} (e : EX h h1) (c : CT h K W n) (eR : ∀ k j, k = 472 ∨ k = 473 → j < 7 → pR h1 k j = pR h k j) (eI : ∀ k, k = 473 ∨ k = 474 ∨ k = 475 → pI h1 k = pI h k) : CT h1 K W n := ⟨e.cr c.1 eR, by rw [eI 473 (by omega)]; exact c.2.1, c.2.2.1, by rw [eI 474 (by omega)]; exact c.2.2.2.1, c.2.2.2.2.1, by rw [eI 475 (by omega)]; exact c.2.2.2.2.2.1, c.2.2.2.2.2.2⟩
theorem EX.rb {h h1 : Hp} {K W : Nat → Nat} {n z i : Nat} (e : EX h h1) (q : RB K W n z i h) (eR : ∀ k j, k = 472 ∨ k = 473 → j < 7 → pR h1 k j = pR h k j) (eI : ∀ k, k = 473 ∨ k = 474 ∨ k = 475 → pI h1 k = pI h k) (e2 : ∀ j, 3 ≤ j → j ≤ 5 → pI h1 472 j = pI h 472 j) : RB K W n z i h1 := ⟨e.ct q.1 eR eI, rfl, fun _ _ _ => rfl, rfl, fun _ _ => rfl, by rw [e2 3 (by omega) (by omega)]; exact q.2.2.2.2.2.1, by rw [e2 4 (by omega) (by omega)]; exact q.2.2.2.2.2.2.1, by rw [e2 5 (by omega) (by omega)]; exact q.2.2.2.2.2.2.2.1, q.2.2.2.2.2.2.2.2.1, q.2.2.2.2.2.2.2.2.2⟩
/-- what reading leaves alone of the cells below x -/
def FW (x : Nat) (h h1 : Hp) : Prop := EX h h1 ∧ ps h ≤ ps h1 ∧ ∀ k, k < x → pJ h1 k = pJ h k ∧ ((k < 472 ∨ 475 < k) → k ≠ 477 → pI h1 k = pI h k) ∧ ∀ j, (k ≠ 472 ∨ j ≠ 7) → pR h1 k j = pR h k j
theorem FW.rf {x : Nat} {h : Hp} : FW x h h := ⟨EX.rf, Nat.le_refl _, fun _ _ => ⟨rfl, fun _ _ => rfl, fun _ _ => rfl⟩⟩
theorem FW.tr {x : Nat} {a b c : Hp} (p : FW x a b) (q : FW x b c) : FW x a c := ⟨p.1.tr q.1, Nat.le_trans p.2.1 q.2.1, fun k hk => ⟨(q.2.2 k hk).1.trans (p.2.2 k hk).1, fun k1 k2 => ((q.2.2 k hk).2.1 k1 k2).trans ((p.2.2 k hk).2.1 k1 k2), fun j hj => ((q.2.2 k hk).2.2 j hj).trans ((p.2.2 k hk).2.2 j hj)⟩⟩
theorem FC.w {x : Nat} {h h1 : Hp} (f : FC x h h1) : FW x h h1 := ⟨EX.ss f.1, by rw [f.1.s]; exact Nat.le_refl _, fun k hk => ⟨by rw [f.2.1], fun k1 k2 => f.2.2 k k1 k2 (by omega) (by omega), fun j _ => by rw [f.1.R]⟩⟩
/-- a clause's body is read: fault, token; its row and its law stand if there is no fault -/
def BDc (x : Nat) (K W : Nat → Nat) (n : Nat) (L : List Cl) (s z j : Nat) (ns : List Nat) (e : Cd) (h : Hp) : Prop := RB K W n z j h ∧ pR h 472 7 = some x ∧ (z = 0 → DSh h x (L.length + 1) (L ++ [(s, ns, e)]) ∧ DLw h x (L ++ [(s, ns, e)]))
theorem hasS_no {s : Nat} : ∀ {L : List Cl} {q : Cl}, hasS s L = false → q ∈ L → ¬ q.1 = s := by
  intro L
  induction L with
  | nil => intro q _ h; exact absurd h List.not_mem_nil
  | cons p r ih =>
    intro q h hq e
    have h : (p.1 == s || hasS s r) = false := h
    rw [Bool.or_eq_false_iff] at h
    rcases List.mem_cons.mp hq with w | w
    · rw [← w, e, beq_self_eq_true] at h
      cases h.1
    · exact ih h.2 w e
theorem hasS_yes {s : Nat} : ∀ {L : List Cl}, hasS s L = true → ∃ q, q ∈ L ∧ q.1 = s := by
  intro L
  induction L with
  | nil => intro h; cases h
  | cons p r ih =>
    intro h
    have h : (p.1 == s || hasS s r) = true := h
    rw [Bool.or_eq_true] at h
    rcases h with w | w
    · exact ⟨p, List.mem_cons_self, beq_iff_eq.mp w⟩
    · obtain ⟨q, a, b⟩ := ih w
      exact ⟨q, List.mem_cons_of_mem _ a, b⟩
theorem DSh.app {h : Hp} {x : Nat} {L : List Cl} {q : Cl} (d : DSh h x (L.length + 1) L) (e0 : pI h (x + 1 + 1) (L.length * 6 + 0) = nI (q.1 + 1)) (e1 : ∀ c v, q.2.1[c]? = some v → pI h (x + 1 + 1) (L.length * 6 + (1 + c)) = nI v) : DSh h x (L.length + 1) (L ++ [q]) := by
  obtain ⟨d1, d2, d3, d4, d5, d6, d7⟩ := d
  refine ⟨d1, d2, d3, d4, d5, by rw [List.length_append]; exact Nat.le_refl _, fun k p hk => ?_⟩
  by_cases kl : k < L.length
  · rw [List.getElem?_append_left kl] at hk
    exact d7 k p hk
  · rw [List.getElem?_append_right (by omega)] at hk
    have k0 : k - L.length = 0 := by have := lt_of_some hk; have : ([q] : List Cl).length = 1 := rfl; omega
    rw [k0] at hk
    cases hk
    have ek : k = L.length := by omega
    rw [ek]
    exact ⟨e0, e1⟩
/-- an act leaves the laws -/
theorem DLw.act {h : Hp} {x : Nat} {L : List Cl} {q : Cl} (d : DLw h x L) (hq : 3 ≤ q.1) : DLw h x (L ++ [q]) := by
  intro s hs
  obtain ⟨c, c1, c2⟩ := d s hs
  have eq : (q.1 == s) = false := beq_eq_false_iff_ne.mpr (by omega)
  refine ⟨c, c1, ?_⟩
  rw [hasS_app, eq, Bool.or_false]
  rcases c2 with ⟨a1, a2, a3, a4⟩ | ⟨a1, a2, a3⟩
  · refine Or.inl ⟨a1, a2, a3, fun p hp e => ?_⟩
    rcases List.mem_append.mp hp with w | w
    · exact a4 p w e
    · rw [List.mem_singleton.mp w] at e
      omega
  · exact Or.inr ⟨a1, a2, a3⟩
theorem AS.bd {x n s : Nat} {K W : Nat → Nat} {L : List Cl} {y : Nat × Nat × List Nat} {h : Hp} (q : AS x K W n L s y h) (hs : 3 ≤ s) : BDc x K W n L s y.1 y.2.1 y.2.2 [] h := ⟨q.1, q.2.1, fun w => ⟨q.2.2.1.app (q := (s, y.2.2, [])) q.2.2.2.2.1 (q.2.2.2.2.2 w), q.2.2.2.1.act hs⟩⟩

theorem c_putLaw {h : Hp} {d x c s : Nat} (ho : IO h 5 x) (hs : s ≤ 2) : Sp d mX5_putLaw [.ref x, .int (nI (s + 1)), .ref c] h none (sR h x (s + 1) (some c)) := by
  intro N S Q hN hS hQ
  have sc : s = 0 ∨ s = 1 ∨ s = 2 := by omega
  rcases sc with rfl | rfl | rfl
  · skip
    refine z_iload_n dX5_putLaw_0 rfl rfl ?_
    refine z_iconst (v := 1) dX5_putLaw_1 (by decide) ?_
    refine z_icmp_ne dX5_putLaw_2 rfl (fun c => absurd (rfl) c) (fun _ => ?_)
    refine z_aload_n dX5_putLaw_5 rfl rfl ?_
    refine z_aload_n dX5_putLaw_6 rfl rfl ?_
    refine y_putR FX5_24 dX5_putLaw_7 (Or.inl rfl) rfl ho ?_
    refine z_goto dX5_putLaw_10 rfl ?_
    refine z_vret dX5_putLaw_31 ?_
    exact hQ
  · skip
    refine z_iload_n dX5_putLaw_0 rfl rfl ?_
    refine z_iconst (v := 1) dX5_putLaw_1 (by decide) ?_
    refine z_icmp_ne dX5_putLaw_2 rfl (fun _ => ?_) (fun c => absurd c (by decide))
    refine z_iload_n dX5_putLaw_13 rfl rfl ?_
    refine z_iconst (v := 2) dX5_putLaw_14 (by decide) ?_
    refine z_icmp_ne dX5_putLaw_15 rfl (fun c => absurd (rfl) c) (fun _ => ?_)
    refine z_aload_n dX5_putLaw_18 rfl rfl ?_
    refine z_aload_n dX5_putLaw_19 rfl rfl ?_
    refine y_putR FX5_27 dX5_putLaw_20 (Or.inl rfl) rfl ho ?_
    refine z_goto dX5_putLaw_23 rfl ?_
    refine z_vret dX5_putLaw_31 ?_
    exact hQ
  · skip
    refine z_iload_n dX5_putLaw_0 rfl rfl ?_
    refine z_iconst (v := 1) dX5_putLaw_1 (by decide) ?_
    refine z_icmp_ne dX5_putLaw_2 rfl (fun _ => ?_) (fun c => absurd c (by decide))
    refine z_iload_n dX5_putLaw_13 rfl rfl ?_
    refine z_iconst (v := 2) dX5_putLaw_14 (by decide) ?_
    refine z_icmp_ne dX5_putLaw_15 rfl (fun _ => ?_) (fun c => absurd c (by decide))
    refine z_aload_n dX5_putLaw_26 rfl rfl ?_
    refine z_aload_n dX5_putLaw_27 rfl rfl ?_
    refine y_putR FX5_30 dX5_putLaw_28 (Or.inl rfl) rfl ho ?_
    refine z_vret dX5_putLaw_31 ?_
    exact hQ

theorem c_readLaw {x n s i d z j : Nat} {K W : Nat → Nat} {L : List Cl} {h : Hp} {e : Cd} (q : AS x K W n L s (0, i, []) h) (wf : ∀ p ∈ L, WFq p) (hs : s ≤ 2) (hno : hasS s L = false) (er : rd K W s 5000 3 0 i [] = some (z, j, e)) (hd : 134 ≤ d) : ∃ h1, Sp d mX2_readLaw [.ref 472, .int (nI (s + 1))] h none h1 ∧ BDc x K W n L s z j [] e h1 ∧ FW x h h1 ∧ pn h1 ≤ pn h + 1 ∧ ps h1 ≤ ps h + e.length := by
  have ct := q.1.1
  have cr := ct.1
  have n3 := ct.2.2.1
  have x5 := q.2.2.1.1
  have ctA : CT (sI (sI h 472 6 (nI (s + 1))) 472 2 0) K W n := ct.of rfl (by rw [pI_sI_ne (by omega), pI_sI_ne (by omega)]) (by rw [pI_sI_ne (by omega), pI_sI_ne (by omega)]) (by rw [pI_sI_ne (by omega), pI_sI_ne (by omega)])
  have hcl : pI (sI (sI h 472 6 (nI (s + 1))) 472 2 0) 472 6 = nI (s + 1) := by rw [pI_sI, if_pos rfl, if_neg (by omega), pI_sI, if_pos rfl, if_pos rfl]
  have eA : ∀ jj, 3 ≤ jj → jj ≤ 5 → pI (sI (sI h 472 6 (nI (s + 1))) 472 2 0) 472 jj = pI h 472 jj := fun jj j1 j2 => by rw [pI_sI, if_pos rfl, if_neg (by omega), pI_sI, if_pos rfl, if_neg (by omega)]
  have qA : RQ (sI (sI h 472 6 (nI (s + 1))) 472 2 0) K n 0 0 i [] (sI (sI h 472 6 (nI (s + 1))) 472 2 0) := ⟨⟨⟨rfl, fun _ _ _ => rfl, rfl, fun _ _ => rfl, by rw [eA 3 (by omega) (by omega)]; exact q.1.2.2.2.2.2.1, by rw [eA 4 (by omega) (by omega)]; exact q.1.2.2.2.2.2.2.1, by rw [eA 5 (by omega) (by omega)]; exact q.1.2.2.2.2.2.2.2.1, q.1.2.2.2.2.2.2.2.2.1, by omega⟩, by rw [pI_sI, if_pos rfl, if_pos rfl]; rfl, fun j y hy => (by cases hy)⟩, Nat.zero_le _⟩
  obtain ⟨h1, s1, q1⟩ := c_readSum ctA hs hcl qA er
  have cr1 := q1.1.1.1.cr ctA.1
  have jn := q1.1.1.2.2.2.2.2.2.2.1
  have z9 := q1.1.1.2.2.2.2.2.2.2.2
  have el := q1.2
  have hS1A : SS h h1 := q1.1.1.1
  have eI : ∀ k, k ≠ 472 → k ≠ 477 → pI h1 k = pI h k := fun k k1 k2 => by rw [q1.1.1.2.1 k k1 k2, pI_sI_ne k1, pI_sI_ne k1]
  have eJ : pJ h1 = pJ h := q1.1.1.2.2.1
  have rb1 : RB K W n z j h1 := q1.1.1.rb ctA
  have dr1 : pR h1 472 7 = some x := by rw [hS1A.R]; exact q.2.1
  by_cases hz : z = 0
  · subst hz
    have lw := rd_law er
    have e1 : 1 ≤ e.length := by
      cases e with
      | nil => exact absurd lw.2 (by intro w; cases w)
      | cons a b => show 1 ≤ b.length + 1; omega
    obtain ⟨d1, d2, d3, d4, d5, d6, d7⟩ := q.2.2.1
    have xn : x + 1 + 1 < pn h1 := by rw [hS1A.n]; exact d4.2.2.2.1
    have ex : EX h1 (sR (sA (nw h1 10 e.length) (pn h1) (va_cpy (pI (nw h1 10 e.length) 477) (pI (nw h1 10 e.length) (pn h1)) 0 0 e.length)) x (s + 1) (some (pn h1))) := EX.nw
    have eI4 : ∀ k, k ≠ pn h1 → pI (sR (sA (nw h1 10 e.length) (pn h1) (va_cpy (pI (nw h1 10 e.length) 477) (pI (nw h1 10 e.length) (pn h1)) 0 0 e.length)) x (s + 1) (some (pn h1))) k = pI h1 k := fun k hk => by
      show pI (sA (nw h1 10 e.length) (pn h1) (va_cpy (pI (nw h1 10 e.length) 477) (pI (nw h1 10 e.length) (pn h1)) 0 0 e.length)) k = pI h1 k
      rw [pI_sA, if_neg hk, pI_nw, if_neg hk]
    have eR4 : ∀ k jj, k < pn h1 → (k ≠ x ∨ jj ≠ s + 1) → pR (sR (sA (nw h1 10 e.length) (pn h1) (va_cpy (pI (nw h1 10 e.length) 477) (pI (nw h1 10 e.length) (pn h1)) 0 0 e.length)) x (s + 1) (some (pn h1))) k jj = pR h1 k jj := fun k jj hk hj => by
      rw [pR_sR]
      by_cases kx : k = x
      · rw [if_pos kx, if_neg (by omega), kx]
        show pR (nw h1 10 e.length) x jj = pR h1 x jj
        rw [pR_nw, if_neg (by omega)]
      · rw [if_neg kx]
        show pR (nw h1 10 e.length) k jj = pR h1 k jj
        rw [pR_nw, if_neg (by omega)]
    have c7 : 477 < pn h1 := by omega
    have hgl : pn (sR (sA (nw h1 10 e.length) (pn h1) (va_cpy (pI (nw h1 10 e.length) 477) (pI (nw h1 10 e.length) (pn h1)) 0 0 e.length)) x (s + 1) (some (pn h1))) = pn h1 + 1 := rfl
    have hgs : ps (sR (sA (nw h1 10 e.length) (pn h1) (va_cpy (pI (nw h1 10 e.length) 477) (pI (nw h1 10 e.length) (pn h1)) 0 0 e.length)) x (s + 1) (some (pn h1))) = ps h1 + e.length := rfl
    refine ⟨(sR (sA (nw h1 10 e.length) (pn h1) (va_cpy (pI (nw h1 10 e.length) 477) (pI (nw h1 10 e.length) (pn h1)) 0 0 e.length)) x (s + 1) (some (pn h1))), ?_, ⟨ex.rb rb1 (fun k jj k1 j1 => eR4 k jj (by omega) (by omega)) (fun k hk => eI4 k (by omega)) (fun jj _ _ => by rw [eI4 472 (by omega)]), by rw [eR4 472 7 (by omega) (by omega)]; exact dr1, fun _ => ⟨?_, ?_⟩⟩, ⟨(EX.ss hS1A).tr ex, by rw [hgs, hS1A.s]; omega, fun k hk => ⟨?_, fun k1 k2 => ?_, fun jj hj => ?_⟩⟩, by rw [hgl, hS1A.n]; exact Nat.le_refl _, by rw [hgs, hS1A.s]; exact Nat.le_refl _⟩
    · intro N S Q hN4 hS4 hQ
      have hN1 : pn h1 ≤ N := by rw [hgl] at hN4; omega
      have hS1 : ps h1 ≤ S := by rw [hgs] at hS4; omega
      have hN : pn h ≤ N := ss_n hS1A hN1
      have hS : ps h ≤ S := ss_s hS1A hS1
      refine z_aload_n dX2_readLaw_0 rfl rfl ?_
      refine z_iload_n dX2_readLaw_1 rfl rfl ?_
      refine y_putI FX2_102 dX2_readLaw_2 (Or.inl rfl) (Or.inl rfl) cr.1 ?_
      refine z_aload_n dX2_readLaw_5 rfl rfl ?_
      refine z_iconst (v := 0) dX2_readLaw_6 (by decide) ?_
      refine y_putI FX2_105 dX2_readLaw_7 (Or.inl rfl) (Or.inl rfl) cr.1 ?_
      refine z_aload_n dX2_readLaw_10 rfl rfl ?_
      refine z_iconst (v := 0) dX2_readLaw_11 (by decide) ?_
      refine y_callV (as := [_]) CX2_readSum LX2_108 IX2_readSum VX2_readSum ⟨rfl, Nat.le_of_ble_eq_true rfl⟩ dX2_readLaw_12 cr.1 rfl (Nat.le_of_ble_eq_true rfl) (Nat.le_of_ble_eq_true rfl) (by omega) s1 rok_v (hg_ss q1.1.1.1 hN hS) ?_
      refine z_aload_n dX2_readLaw_15 rfl rfl ?_
      refine y_getI FX2_40 dX2_readLaw_16 (Or.inl rfl) (hS1A.O cr.1) ?_
      refine z_eqi (y := nI (0)) q1.1.1.2.2.2.2.2.2.1 ?_
      refine z_if_ne dX2_readLaw_19 rfl (fun c => absurd (rfl) c) (fun _ => ?_)
      refine z_aload_n dX2_readLaw_22 rfl rfl ?_
      refine y_getI FX2_105 dX2_readLaw_23 (Or.inl rfl) (hS1A.O cr.1) ?_
      refine z_eqi (y := nI (e.length)) q1.1.2.1 ?_
      refine z_iconst (v := 1) dX2_readLaw_26 (by decide) ?_
      refine z_aload_n dX2_readLaw_27 rfl rfl ?_
      refine y_getR FX2_18 dX2_readLaw_28 rfl (hS1A.O cr.1) (by first | (rw [hS1A.R]; exact cr.2.2.2.2.2.2.1) | exact (congrFun (congrFun hS1A.R _) _).trans cr.2.2.2.2.2.2.1) ?_
      refine y_alen dX2_readLaw_31 (hS1A.A cr.2.2.2.2.2.2.2) ⟨Nat.le_of_ble_eq_true rfl, Nat.le_of_ble_eq_true rfl⟩ rfl ?_
      refine y_callS (as := [_, _, _]) CX8_within LX2_66 SX8_within dX2_readLaw_32 rfl (Nat.le_of_ble_eq_true rfl) (Nat.le_of_ble_eq_true rfl) (by omega) (s_within (d := 0) _ _ _) (rok_z bI_01) ⟨Nat.le_refl _, Nat.le_refl _, hN1, hS1⟩ ?_
      refine z_if_eq dX2_readLaw_35 rfl (fun c => absurd c (bI_ne0.mpr ⟨(nI_leI (a := 1) (by omega) (by omega)).mpr e1, (nI_leI (b := 300) (by omega) (by omega)).mpr (by omega)⟩)) (fun _ => ?_)
      refine z_aload_n dX2_readLaw_38 rfl rfl ?_
      refine y_getI FX2_105 dX2_readLaw_39 (Or.inl rfl) (hS1A.O cr.1) ?_
      refine z_eqi (y := nI (e.length)) q1.1.2.1 ?_
      refine z_newI (m0 := e.length) dX2_readLaw_42 Karr_int (nI_pos (by omega)) (nI_clamp (by omega)) (by omega) (by have : pn (sR (sA (nw h1 10 e.length) (pn h1) (va_cpy (pI (nw h1 10 e.length) 477) (pI (nw h1 10 e.length) (pn h1)) 0 0 e.length)) x (s + 1) (some (pn h1))) ≤ N := hN4; exact this) (by have : ps (sR (sA (nw h1 10 e.length) (pn h1) (va_cpy (pI (nw h1 10 e.length) 477) (pI (nw h1 10 e.length) (pn h1)) 0 0 e.length)) x (s + 1) (some (pn h1))) ≤ S := hS4; exact this) ?_
      refine z_astore_n dX2_readLaw_44 rfl (Nat.le_of_ble_eq_true rfl) ?_
      refine z_aload_n dX2_readLaw_45 rfl rfl ?_
      refine y_getR FX2_18 dX2_readLaw_46 rfl (EX.nw.O cr1.1) (by rw [pR_nw, if_neg (by omega)]; exact cr1.2.2.2.2.2.2.1) ?_
      refine z_iconst (v := 0) dX2_readLaw_49 (by decide) ?_
      refine z_aload_n dX2_readLaw_50 rfl rfl ?_
      refine z_iconst (v := 0) dX2_readLaw_51 (by decide) ?_
      refine z_aload_n dX2_readLaw_52 rfl rfl ?_
      refine y_getI FX2_105 dX2_readLaw_53 (Or.inl rfl) (EX.nw.O cr1.1) ?_
      refine z_eqi (y := nI e.length) (show _ = nI e.length by rw [pI_nw, if_neg (by omega)]; exact q1.1.2.1) ?_
      refine y_copyN 0 0 e.length Kcopy_X2_111 dX2_readLaw_56 (by omega) (Nat.le_of_ble_eq_true rfl) (EX.nw.A cr1.2.2.2.2.2.2.2) ⟨by omega, by rw [pn_nw]; omega, by rw [pK_nw, if_pos rfl]⟩ rfl rfl rfl (by omega) (by omega) (by omega) ?_
      refine z_aload_n dX2_readLaw_59 rfl rfl ?_
      refine y_getR FX2_25 dX2_readLaw_60 rfl (EX.nw.O cr1.1) (show pR (nw h1 10 e.length) 472 7 = some x by rw [pR_nw, if_neg (by omega)]; exact dr1) ?_
      refine z_iload_n dX2_readLaw_63 rfl rfl ?_
      refine z_aload_n dX2_readLaw_64 rfl rfl ?_
      refine y_callV (as := [_, _]) CX5_putLaw LX2_117 IX5_putLaw VX5_putLaw ⟨rfl, (Nat.le_of_ble_eq_true rfl)⟩ dX2_readLaw_65 (EX.nw.O (hS1A.O d2)) rfl (Nat.le_of_ble_eq_true rfl) (Nat.le_of_ble_eq_true rfl) (by omega) (c_putLaw (d := 0) (EX.nw.O (hS1A.O d2)) hs) rok_v ⟨Nat.le_refl _, Nat.le_refl _, hN4, hS4⟩ ?_
      refine z_vret dX2_readLaw_68 ?_
      exact hQ
    · refine DSh.app (q := (s, [], e)) ⟨d1, ex.O (hS1A.O d2), by rw [eR4 x 0 (by omega) (by omega), hS1A.R]; exact d3, ex.rw (hS1A.rw d4) (eR4 _ _ (by omega) (by omega)), ?_, d6, fun k p hk => ?_⟩ ?_ (fun c v hc => (by cases hc))
      · unfold RwC
        rw [eI4 _ (by omega), eI _ (by omega) (by omega)]
        exact d5
      · rw [eI4 _ (by omega), eI _ (by omega) (by omega)]; exact d7 k p hk
      · rw [eI4 _ (by omega), eI _ (by omega) (by omega)]; exact q.2.2.2.2.1
    · intro s2 hs2
      rw [hasS_app]
      by_cases e2 : s2 = s
      · subst e2
        refine ⟨pn h1, by rw [pR_sR, if_pos rfl, if_pos rfl], Or.inl ⟨by rw [hno]; exact (beq_self_eq_true _), by omega, by omega, fun p hp ep => ?_⟩⟩
        rcases List.mem_append.mp hp with w | w
        · exact absurd ep (hasS_no hno w)
        · rw [List.mem_singleton.mp w]
          refine ⟨⟨by omega, by rw [hgl]; omega, ?_⟩, fun jj y hy => ?_⟩
          · show pK (nw h1 10 e.length) (pn h1) = (10, e.length)
            rw [pK_nw, if_pos rfl]
          · have jl : jj < e.length := lt_of_some hy
            show pI (sA (nw h1 10 e.length) (pn h1) (va_cpy (pI (nw h1 10 e.length) 477) (pI (nw h1 10 e.length) (pn h1)) 0 0 e.length)) (pn h1) jj = cnv y.1 y.2
            rw [pI_sA, if_pos rfl]
            unfold va_cpy
            rw [if_pos (by omega), pI_nw, if_neg (by omega), show 0 + (jj - 0) = jj by omega]
            exact q1.1.2.2 jj y hy
      · obtain ⟨c, c1, c2⟩ := q.2.2.2.1 s2 hs2
        have eb : (s == s2) = false := beq_eq_false_iff_ne.mpr (fun w => e2 w.symm)
        refine ⟨c, by rw [eR4 x _ (by omega) (by omega), hS1A.R]; exact c1, ?_⟩
        show (hasS s2 L || s == s2) = true ∧ _ ∨ (hasS s2 L || s == s2) = false ∧ _
        rw [eb, Bool.or_false]
        rcases c2 with ⟨a1, a2, a3, a4⟩ | ⟨a1, a2, a3⟩
        · refine Or.inl ⟨a1, a2, a3, fun p hp ep => ?_⟩
          rcases List.mem_append.mp hp with w | w
          · obtain ⟨b1, b2⟩ := a4 p w ep
            have cl := (hS1A.A b1).2.1
            refine ⟨ex.A (hS1A.A b1), fun jj y hy => ?_⟩
            rw [eI4 _ (by omega), eI _ (by omega) (by omega)]; exact b2 jj y hy
          · rw [List.mem_singleton.mp w] at ep
            exact absurd ep.symm e2
        · exact Or.inr ⟨a1, a2, ex.Z (hS1A.Z a3)⟩
    · rw [← eJ]
      show pJ (nw h1 10 e.length) k = pJ h1 k
      rw [pJ_nw, if_neg (by omega)]
    · rw [eI4 k (by omega), eI k (by omega) k2]
    · rw [eR4 k jj (by omega) (by omega), hS1A.R]
  · refine ⟨h1, ?_, ⟨rb1, dr1, fun w => absurd w hz⟩, ⟨EX.ss hS1A, by rw [hS1A.s]; exact Nat.le_refl _, fun k hk => ⟨by rw [eJ], fun k1 k2 => eI k (by omega) k2, fun jj _ => by rw [hS1A.R]⟩⟩, by rw [hS1A.n]; omega, by rw [hS1A.s]; omega⟩
    intro N S Q hN hS hQ
    have hN : pn h ≤ N := ss_n hS1A hN
    have hS : ps h ≤ S := ss_s hS1A hS
    refine z_aload_n dX2_readLaw_0 rfl rfl ?_
    refine z_iload_n dX2_readLaw_1 rfl rfl ?_
    refine y_putI FX2_102 dX2_readLaw_2 (Or.inl rfl) (Or.inl rfl) cr.1 ?_
    refine z_aload_n dX2_readLaw_5 rfl rfl ?_
    refine z_iconst (v := 0) dX2_readLaw_6 (by decide) ?_
    refine y_putI FX2_105 dX2_readLaw_7 (Or.inl rfl) (Or.inl rfl) cr.1 ?_
    refine z_aload_n dX2_readLaw_10 rfl rfl ?_
    refine z_iconst (v := 0) dX2_readLaw_11 (by decide) ?_
    refine y_callV (as := [_]) CX2_readSum LX2_108 IX2_readSum VX2_readSum ⟨rfl, Nat.le_of_ble_eq_true rfl⟩ dX2_readLaw_12 cr.1 rfl (Nat.le_of_ble_eq_true rfl) (Nat.le_of_ble_eq_true rfl) (by omega) s1 rok_v (hg_ss q1.1.1.1 hN hS) ?_
    refine z_aload_n dX2_readLaw_15 rfl rfl ?_
    refine y_getI FX2_40 dX2_readLaw_16 (Or.inl rfl) (hS1A.O cr.1) ?_
    refine z_eqi (y := nI (z)) q1.1.1.2.2.2.2.2.2.1 ?_
    refine z_if_ne dX2_readLaw_19 rfl (fun _ => ?_) (fun c => absurd c (fun w => absurd ((nI_eq (b := 0) (by omega) (by omega)).mp w) (by omega)))
    refine z_vret dX2_readLaw_68 ?_
    exact hQ

