/-! undo keeps what holds (wip/whole/gend3.py) -/
theorem unG_t {a : Fl} {x v0 n i : Nat} (h : 13 ≤ i ∧ i < 38 ∧ 3 ≤ (i - 13) % 5) : unG 0 a x v0 n i = a i := by
  unfold unG
  rw [cpG_out (by omega), cpG_out (by omega), unP_out (by omega), cpG_out (by omega)]
theorem PA.undo {tf : Nat → Int32} {a : Fl} (h : PA tf a) : PA tf (mUndo a).2 ∧ (mUndo a).2 2 = a 2 := by
  have ic := h.1.1.1
  have h4 := ic.2.2.2.2.1
  have n5 := ic.2.1
  have s5 := h.s5
  unfold mUndo
  by_cases q : a 4 = 0
  · rw [if_pos q]
    exact ⟨h, rfl⟩
  rw [if_neg q]
  obtain ⟨t, ht⟩ : ∃ t, a 4 = t + 1 := ⟨a 4 - 1, by omega⟩
  rw [show a 4 - 1 = t by omega]
  have iw := h.2.2.2.2.2.1 t (by omega)
  have ul := (h.2.1.last ht).1
  obtain ⟨a', ea⟩ : ∃ x, x = unG 0 (up a 4 t) (190 + 154 * t) (a (190 + 154 * t)) (a 1) := ⟨_, rfl⟩
  show PA tf (unG 0 (up a 4 t) (190 + 154 * t) (a (190 + 154 * t)) (a 1)) ∧ (unG 0 (up a 4 t) (190 + 154 * t) (a (190 + 154 * t)) (a 1)) 2 = a 2
  rw [← ea]
  have o : ∀ i, i ≠ 4 → (i < 8 ∨ 110 ≤ i ∧ i < 4810) → a' i = a i := fun i i1 i2 => by rw [ea, unG_out n5 i2, up_n i1]
  have o4 : a' 4 = t := by rw [ea, unG_out n5 (by omega), up_s]
  have ot : ∀ p c, p < 5 → (c = 3 ∨ c = 4) → a' (13 + 5 * p + c) = a (13 + 5 * p + c) := fun p c p1 c1 => by rw [ea, unG_t (by omega), up_n (by omega)]
  obtain ⟨v0, ev⟩ : ∃ v, v = a (190 + 154 * t) := ⟨_, rfl⟩
  rw [← ev] at ea ul
  have w0 : snap a' 0 = a 1 := o 1 (by omega) (by omega)
  have ws : ∀ j, j < 153 → j ≠ 0 → ¬ (6 ≤ j ∧ j < 21) → snap a' j = a (190 + 154 * t + j) := fun j j1 j2 j3 => by
    rw [snap_wx, ea, unG_w (by omega) (by omega) n5 j1, if_neg j2, if_neg j3, up_n (by omega)]
  have wp : ∀ p c, p < a 1 → c < 3 → snap a' (ppx p c) = if p < v0 then a (190 + 154 * t + ppx p c) else if c = 2 then 0 else a (13 + 5 * p + c + 3) := fun p c hp hc => by
    have e1 : (ppx p c - 6) / 3 = p := by unfold ppx; omega
    have e2 : (ppx p c - 6) % 3 = c := by unfold ppx; omega
    have e3 : wx (ppx p c) = 13 + 5 * p + c := wx_pp (by omega) hc
    rw [snap_wx, ea, unG_w (by omega) (by omega) n5 (by unfold ppx; omega), if_neg (by unfold ppx; omega), if_pos (by unfold ppx; omega), e1, e2, e3, if_pos hp, up_n (by omega), up_n (by omega)]
  have z0 : ¬ (0 : Nat) = 2 := by omega
  have z1 : ¬ (1 : Nat) = 2 := by omega
  have sw : IW (a 0) (snap a') := by
    obtain ⟨⟨b0, b1, b2, b3, b4, b5⟩, bp, bc, bb⟩ := iw
    refine ⟨⟨?_, ?_, ?_, ?_, ?_, ?_⟩, fun p hp => ?_, fun k hk => ?_, fun i hi => ?_⟩
    · rw [w0]; exact n5
    · rw [ws 1 (by omega) (by omega) (by omega)]; exact b1
    · rw [ws 2 (by omega) (by omega) (by omega)]; exact b2
    · rw [ws 3 (by omega) (by omega) (by omega)]; exact b3
    · rw [ws 4 (by omega) (by omega) (by omega)]; exact b4
    · rw [ws 5 (by omega) (by omega) (by omega)]; exact b5
    · rw [w0] at hp
      rw [wp p 0 hp (by omega), wp p 1 hp (by omega), wp p 2 hp (by omega)]
      by_cases y : p < v0
      · rw [if_pos y, if_pos y, if_pos y]
        exact bp p (by rw [ev] at y; exact y)
      · rw [if_neg y, if_neg y, if_neg y, if_neg z0, if_neg z1, if_pos rfl]
        have td := h.1.2 p hp
        exact ⟨td.1, td.2, by omega⟩
    · rw [ws 4 (by omega) (by omega) (by omega)] at hk
      have k12 : k < 12 := Nat.lt_of_lt_of_le hk b4
      have g : ∀ c, c < 6 → snap a' (pcx k c) = a (190 + 154 * t + pcx k c) := fun c hc => ws _ (by unfold pcx; omega) (by unfold pcx; omega) (by unfold pcx; omega)
      rw [w0, g 0 (by omega), g 1 (by omega), g 2 (by omega), g 3 (by omega), g 4 (by omega), g 5 (by omega)]
      have cc := bc k hk
      have c1 : a (190 + 154 * t + pcx k 0) < a (190 + 154 * t) := cc.1
      exact ⟨by omega, cc.2⟩
    · rw [ws 5 (by omega) (by omega) (by omega)] at hi
      have i30 : i < 30 := Nat.lt_of_lt_of_le hi b5
      rw [ws (93 + 2 * i) (by omega) (by omega) (by omega), ws (93 + 2 * i + 1) (by omega) (by omega) (by omega)]
      exact bb i hi
  have p8 : 2 ^ a 0 ≤ 2 ^ 8 := Nat.pow_le_pow_right (by omega) ic.1
  have ic' : IC a' := by
    obtain ⟨c0, c1, c2, c3, c4, c5, c6, c7, c8, c9, c10, c11, c12⟩ := ic
    exact ⟨by rw [o 0 (by omega) (by omega)]; exact c0, by rw [o 1 (by omega) (by omega)]; exact c1, by rw [o 2 (by omega) (by omega)]; exact c2, by rw [o 3 (by omega) (by omega), o 2 (by omega) (by omega)]; exact c3, by rw [o4]; omega, by rw [o 5 (by omega) (by omega)]; exact c5, by rw [o 6 (by omega) (by omega)]; exact c6, by rw [o 7 (by omega) (by omega)]; exact c7, sw.1.2.1, sw.1.2.2.1, Nat.lt_of_lt_of_le sw.1.2.2.2.1 p8, sw.1.2.2.2.2.1, sw.1.2.2.2.2.2⟩
  have j : JY tf a' := by
    refine ⟨⟨ic', by rw [o 0 (by omega) (by omega)]; exact sw, fun f hf => ?_, fun z => ?_⟩, fun p hp => ?_⟩
    · have f8 := ic.1
      rw [o 0 (by omega) (by omega)] at hf
      rw [o (110 + 2 * f) (by omega) (by omega), o (110 + 2 * f + 1) (by omega) (by omega)]
      exact h.1.1.2.2.1 f hf
    · rw [o 3 (by omega) (by omega)] at z ⊢
      exact h.1.1.2.2.2 z
    · rw [o 1 (by omega) (by omega)] at hp
      rw [ot p 3 (by omega) (by omega), ot p 4 (by omega) (by omega)]
      exact h.1.2 p hp
  have sc : ∀ u, u < t → stC a' u = stC a u := fun u hu => by
    unfold stC
    rw [o4, if_neg (by omega), if_neg (by omega)]
    exact o _ (by omega) (by omega)
  have st : stC a' t = a 1 := by rw [stC_now o4.symm]; exact o 1 (by omega) (by omega)
  have sv : stC a t = v0 := by
    unfold stC
    rw [if_neg (by omega)]
    exact ev.symm
  have iu : IU a' := by
    intro u hu
    rw [o4] at hu
    obtain ⟨u1, u2⟩ := h.2.1 u (by omega)
    have q5 := s5 (u + 1) (by omega)
    rw [sc u hu]
    by_cases z : u + 1 = t
    · rw [z] at u1 u2 ⊢
      rw [st]
      rw [sv] at u1 u2
      refine ⟨by omega, fun p p1 p2 => ?_⟩
      have p5 : p < 5 := by omega
      have n1 : ∀ k, k < 3 → stN a' t p k = snap a' (ppx p k) := fun k hk => by
        unfold stN
        rw [if_pos o4.symm, snap_pp p5 hk]
      rw [n1 0 (by omega), n1 1 (by omega), n1 2 (by omega), wp p 0 p2 (by omega), wp p 1 p2 (by omega), wp p 2 p2 (by omega), ot p 3 p5 (by omega), ot p 4 p5 (by omega)]
      by_cases y : p < v0
      · rw [if_pos y, if_pos y, if_pos y]
        have v := u2 p p1 y
        have n2 : ∀ k, stN a t p k = a (190 + 154 * t + ppx p k) := fun k => by
          unfold stN
          rw [if_neg (by omega)]
          exact congrArg a (by unfold ppx; omega)
        rw [n2 0, n2 1, n2 2] at v
        exact v
      · rw [if_neg y, if_neg y, if_neg y, if_neg z0, if_neg z1, if_pos rfl]
        exact ⟨rfl, rfl, rfl⟩
    · rw [sc (u + 1) (by omega)]
      refine ⟨u1, fun p p1 p2 => ?_⟩
      have p5 : p < 5 := by omega
      have n : ∀ k, k < 3 → stN a' (u + 1) p k = stN a (u + 1) p k := fun k hk => by
        unfold stN
        rw [o4, if_neg (by omega), if_neg (by omega)]
        exact o _ (by omega) (by omega)
      rw [n 0 (by omega), n 1 (by omega), n 2 (by omega), ot p 3 p5 (by omega), ot p 4 p5 (by omega)]
      exact u2 p p1 p2
  have l0 := Nat.le_of_eq (o 0 (by omega) (by omega)).symm
  refine ⟨⟨j, iu, h.2.2.1.cg (o 5 (by omega) (by omega)) l0 (fun i i1 i2 => o i (by omega) (by omega)) ic.2.2.2.2.2.1, h.2.2.2.1.cg (o 6 (by omega) (by omega)) l0 (fun i i1 i2 => o i (by omega) (by omega)) ic.2.2.2.2.2.2.1, h.2.2.2.2.1.cg (o 7 (by omega) (by omega)) (fun i i1 i2 => o i (by omega) (by omega)) ic.2.2.2.2.2.2.2.1, fun u hu => ?_, fun u hu => h.2.2.2.2.2.2.1 u (by rw [o 2 (by omega) (by omega)] at hu; exact hu), fun u hu => h.2.2.2.2.2.2.2 u (by rw [o 2 (by omega) (by omega)] at hu; exact hu)⟩, o 2 (by omega) (by omega)⟩
  rw [o4] at hu
  rw [o 0 (by omega) (by omega)]
  exact (h.2.2.2.2.2.1 u (by omega)).cg (fun i hi => o _ (by omega) (by omega))

theorem k_undo {L P0 N S c : Nat} {xs : Nat → Int32} {h : Hp} (i : INV L xs P0 c h) (hN : 501 + 28 * c ≤ N) (hS : P0 + 7700 * c ≤ S) : PrI L xs (INV L xs P0) N S c mX8_undo mX9_undo [] h := by
  obtain ⟨s, hr, cl, p, sr, n5, nc, sc⟩ := i
  have pa := p.1.undo
  obtain ⟨h1, s1, m, f⟩ := C_undo (d := 139) cl.1.1.1 cl.1.1.2.1 cl.1.1.2.2.2.2.1 cl.1.2 p.c.1 p.1.2.1 (Nat.le_of_ble_eq_true rfl)
  exact pr_Z s1 rok_i (cl.1.of f m pa.1.1.1.1.2.2.2.2.1) f.z hr cl p pa.1 pa.2 sr n5 nc sc (by omega) (by omega) (fun q => R_undo q p.c.1 (fun t ht => (p.1.2.2.2.2.2.1 t ht).1.1) (Nat.le_of_ble_eq_true rfl))

