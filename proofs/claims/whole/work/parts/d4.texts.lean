/-! text keeps what holds: what stays when a text is read (wip/whole/gend4.py) -/
section TCG
variable {tf tf1 : Nat → Int32} {u : Nat}
theorem scn_cg {s : Nat} (e : ∀ i, 753 * u ≤ i → i < 753 * u + 753 → tf1 i = tf i) : ∀ r k, k + r ≤ 24 → scn tf1 u s r k = scn tf u s r k := by
  intro r
  induction r with
  | zero => intro k _; rfl
  | succ r ih =>
    intro k hk
    show (if tf1 (753 * u + 1 + 6 * k) = nI s then k else scn tf1 u s r (k + 1)) = (if tf (753 * u + 1 + 6 * k) = nI s then k else scn tf u s r (k + 1))
    rw [e (753 * u + 1 + 6 * k) (by omega) (by omega), ih (k + 1) (by omega)]
theorem cnt_cg (e : ∀ i, 753 * u ≤ i → i < 753 * u + 753 → tf1 i = tf i) : cnt tf1 u = cnt tf u := by
  unfold cnt
  rw [e (753 * u) (by omega) (by omega)]
theorem law_cg {k s : Nat} (e : ∀ i, 753 * u ≤ i → i < 753 * u + 753 → tf1 i = tf i) (hk : k < 24) (l : LV tf u k s) : lLo tf1 u k = lLo tf u k ∧ lM tf1 u k = lM tf u k ∧ ∀ i, i < lM tf u k → lO tf1 u k i = lO tf u k i ∧ lV tf1 u k i = lV tf u k i := by
  have l3 := l.1.2.2
  have a1 : lLo tf1 u k = lLo tf u k := by
    unfold lLo
    rw [e (753 * u + 1 + 6 * k + 1) (by omega) (by omega)]
  refine ⟨a1, ?_, fun i hi => ⟨?_, ?_⟩⟩
  · unfold lM
    rw [a1, e (753 * u + 1 + 6 * k + 2) (by omega) (by omega)]
  · unfold lO
    rw [a1, e (753 * u + 145 + 2 * (lLo tf u k + i)) (by omega) (by omega)]
  · unfold lV
    rw [a1, e (753 * u + 145 + 2 * (lLo tf u k + i) + 1) (by omega) (by omega)]
theorem TXV.cg (h : TXV tf u) (e : ∀ i, 753 * u ≤ i → i < 753 * u + 753 → tf1 i = tf i) : TXV tf1 u := by
  obtain ⟨h1, h2, h3, h4⟩ := h
  have c := cnt_cg e
  refine ⟨by rw [c]; exact h1, by rw [c, e (753 * u) (by omega) (by omega)]; exact h2, fun k hk => ?_, fun k s hk hs es => ?_⟩
  · rw [c] at hk
    obtain ⟨s, s1, s2⟩ := h3 k hk
    exact ⟨s, s1, by rw [e (753 * u + 1 + 6 * k) (by omega) (by omega)]; exact s2⟩
  · rw [c] at hk
    rw [e (753 * u + 1 + 6 * k) (by omega) (by omega)] at es
    have l := h4 k s hk hs es
    obtain ⟨a1, a2, a3⟩ := law_cg e (by omega) l
    obtain ⟨⟨l1, l2, l3⟩, l4, l5, l6, ty, t0, t1, t2⟩ := l
    refine ⟨by rw [a1, a2]; exact ⟨l1, l2, l3⟩, by rw [a1, e (753 * u + 1 + 6 * k + 1) (by omega) (by omega)]; exact l4, by rw [a1, a2, e (753 * u + 1 + 6 * k + 2) (by omega) (by omega)]; exact l5, fun i hi => ?_, ty, t0, fun i hi => ?_, by rw [a2]; exact t2⟩
    · rw [a2] at hi
      rw [a1, (a3 i hi).1, (a3 i hi).2, e (753 * u + 145 + 2 * (lLo tf u k + i)) (by omega) (by omega), e (753 * u + 145 + 2 * (lLo tf u k + i) + 1) (by omega) (by omega)]
      exact l6 i hi
    · rw [a2] at hi
      rw [(a3 i hi).1]
      exact t1 i hi
theorem TXB.cg (h : TXB tf u) (v : TXV tf u) (e : ∀ i, 753 * u ≤ i → i < 753 * u + 753 → tf1 i = tf i) : TXB tf1 u := by
  have v1 := v.1
  intro k hk es
  rw [cnt_cg e] at hk
  rw [e (753 * u + 1 + 6 * k) (by omega) (by omega)] at es
  obtain ⟨n, n1, n2⟩ := h k hk es
  exact ⟨n, n1, by rw [e (753 * u + 1 + 6 * k + 1) (by omega) (by omega)]; exact n2⟩
theorem TXC.cg {h : Hp} {x : Nat} (q : TXC h tf u x) (v : TXV tf u) (e : ∀ i, 753 * u ≤ i → i < 753 * u + 753 → tf1 i = tf i) : TXC h tf1 u x := by
  obtain ⟨t1, t2, ⟨t3, t4, t5, t6⟩, t7⟩ := q
  have c := cnt_cg e
  have v1 := v.1
  refine ⟨t1, t2, ⟨t3, t4, by rw [c]; exact t5, fun k s hk es hs => ?_⟩, fun s hs => ?_⟩
  · rw [c] at hk
    rw [e (753 * u + 1 + 6 * k) (by omega) (by omega)] at es
    obtain ⟨a1, a2⟩ := t6 k s hk es hs
    refine ⟨a1, fun j j1 j2 => ?_⟩
    have nc := nCol_le s
    rw [a2 j j1 j2, e (753 * u + 1 + 6 * k + j) (by omega) (by omega)]
  · obtain ⟨c0, c1, c2⟩ := t7 s hs
    have fk : fK tf1 u s = fK tf u s := by
      unfold fK
      rw [c]
      exact scn_cg e _ 0 (by omega)
    refine ⟨c0, c1, ?_⟩
    rw [fk, c]
    rcases c2 with ⟨b1, b2, b3⟩ | w
    · left
      obtain ⟨a1, a2, a3⟩ := law_cg e (by omega) (v.2.2.2 (fK tf u s) s b1 hs (fK_sort b1))
      refine ⟨b1, b2, ?_⟩
      rw [a2]
      exact ⟨b3.1, b3.2.1, b3.2.2.1, fun i hi => by rw [(a3 i hi).1, (a3 i hi).2]; exact b3.2.2.2.1 i hi, fun i hi => by rw [(a3 i hi).1, (a3 i hi).2]; exact b3.2.2.2.2 i hi⟩
    · right
      exact w
end TCG
/-- what holds of a row holds also where a text that it does not have is another -/
theorem PA.tfx {tf tf1 : Nat → Int32} {a : Fl} {t : Nat} (h : PA tf a) (h2 : a 2 ≤ t) (e : ∀ i, (i < 753 * t ∨ 753 * t + 753 ≤ i) → tf1 i = tf i) : PA tf1 a := by
  have tv : ∀ u, u < a 2 → TXV tf1 u := fun u hu => (h.2.2.2.2.2.2.1 u hu).cg (fun i i1 i2 => e i (by omega))
  have c3 := h.1.1.1.2.2.2.1
  exact ⟨⟨⟨h.1.1.1, h.1.1.2.1, h.1.1.2.2.1, fun q => tv _ (by omega)⟩, h.1.2⟩, h.2.1, h.2.2.1, h.2.2.2.1, h.2.2.2.2.1, h.2.2.2.2.2.1, tv, fun u hu => (h.2.2.2.2.2.2.2 u hu).cg (h.2.2.2.2.2.2.1 u hu) (fun i i1 i2 => e i (by omega))⟩
theorem snap_cg2 {a a' : Fl} (e : ∀ i, i ≠ 2 → a' i = a i) : snap a' = snap a := by
  funext i
  unfold snap
  rw [e 1 (by omega), e (13 + 5 * ((i - 6) / 3) + (i - 6) % 3) (by omega), e (38 + (i - 21)) (by omega), e (4810 + (i - 93)) (by omega)]
  by_cases i0 : i = 0
  · rw [if_pos i0, if_pos i0]
  · rw [e (7 + i) (by omega)]
theorem PA.up2 {tf : Nat → Int32} {a a' : Fl} (h : PA tf a) (t4 : a 2 < 4) (e : ∀ i, i ≠ 2 → a' i = a i) (e2 : a' 2 = a 2 + 1) (v : TXV tf (a 2)) (b : TXB tf (a 2)) : PA tf a' := by
  have ic := h.1.1.1
  have tv : ∀ u, u < a' 2 → TXV tf u := fun u hu => by
    by_cases q : u = a 2
    · rw [q]; exact v
    · exact h.2.2.2.2.2.2.1 u (by omega)
  have tb : ∀ u, u < a' 2 → TXB tf u := fun u hu => by
    by_cases q : u = a 2
    · rw [q]; exact b
    · exact h.2.2.2.2.2.2.2 u (by omega)
  have ic' : IC a' := by
    obtain ⟨c0, c1, c2, c3, c4, c5, c6, c7, c8, c9, c10, c11, c12⟩ := ic
    exact ⟨by rw [e 0 (by omega)]; exact c0, by rw [e 1 (by omega)]; exact c1, by omega, by rw [e 3 (by omega)]; omega, by rw [e 4 (by omega)]; exact c4, by rw [e 5 (by omega)]; exact c5, by rw [e 6 (by omega)]; exact c6, by rw [e 7 (by omega)]; exact c7, by rw [e 8 (by omega)]; exact c8, by rw [e 9 (by omega)]; exact c9, by rw [e 10 (by omega)]; exact c10, by rw [e 11 (by omega)]; exact c11, by rw [e 12 (by omega)]; exact c12⟩
  have l0 := Nat.le_of_eq (e 0 (by omega)).symm
  refine ⟨⟨⟨ic', by rw [snap_cg2 e, e 0 (by omega)]; exact h.1.1.2.1, fun f hf => ?_, fun q => ?_⟩, fun p hp => ?_⟩, h.2.1.cg h.s5 (e 4 (by omega)) (e 1 (by omega)) (fun i i1 i2 => e i (by omega)) (fun i i1 => e i (by omega)), h.2.2.1.cg (e 5 (by omega)) l0 (fun i i1 i2 => e i (by omega)) ic.2.2.2.2.2.1, h.2.2.2.1.cg (e 6 (by omega)) l0 (fun i i1 i2 => e i (by omega)) ic.2.2.2.2.2.2.1, h.2.2.2.2.1.cg (e 7 (by omega)) (fun i i1 i2 => e i (by omega)) ic.2.2.2.2.2.2.2.1, fun t ht => ?_, tv, tb⟩
  · rw [e 0 (by omega)] at hf
    rw [e (110 + 2 * f) (by omega), e (110 + 2 * f + 1) (by omega)]
    exact h.1.1.2.2.1 f hf
  · rw [e 3 (by omega)] at q ⊢
    exact h.1.1.2.2.2 q
  · rw [e 1 (by omega)] at hp
    rw [e (13 + 5 * p + 3) (by omega), e (13 + 5 * p + 4) (by omega)]
    exact h.1.2 p hp
  · rw [e 4 (by omega)] at ht
    rw [e 0 (by omega)]
    exact (h.2.2.2.2.2.1 t ht).cg (fun i hi => e _ (by omega))

