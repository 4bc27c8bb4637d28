/-! a text as it is read: what its clauses are; how the reference's row tells them (wip/whole/gena8.py) -/
/-- a clause as it must be -/
def WFq (q : Cl) : Prop := q.1 ≤ 9 ∧ (q.1 ≤ 2 → LWc q.1 q.2.2) ∧ (3 ≤ q.1 → q.2.2 = []) ∧ q.2.1.length = nCol q.1 ∧ (q.1 = 9 → ∀ v, q.2.1[0]? = some v → v ≤ 60)
def wof : List Cl → Nat
  | [] => 0
  | q :: r => q.2.2.length + wof r
theorem wof_app (L : List Cl) (q : Cl) : wof (L ++ [q]) = wof L + q.2.2.length := by
  induction L with
  | nil => show q.2.2.length + 0 = 0 + q.2.2.length; omega
  | cons p r ih =>
    show p.2.2.length + wof (r ++ [q]) = p.2.2.length + wof r + q.2.2.length
    rw [ih]; omega
theorem wof_take : ∀ (L : List Cl) (k : Nat) (q : Cl), L[k]? = some q → wof (L.take k) + q.2.2.length ≤ wof L := by
  intro L
  induction L with
  | nil => intro k q h; cases h
  | cons p r ih =>
    intro k q h
    cases k with
    | zero =>
      cases h
      show 0 + p.2.2.length ≤ p.2.2.length + wof r
      omega
    | succ k =>
      have := ih k q h
      show p.2.2.length + wof (r.take k) + q.2.2.length ≤ p.2.2.length + wof r
      omega
theorem hasS_app (s : Nat) (L : List Cl) (q : Cl) : hasS s (L ++ [q]) = (hasS s L || q.1 == s) := by
  induction L with
  | nil => show (q.1 == s || false) = (false || q.1 == s); rw [Bool.or_false, Bool.false_or]
  | cons p r ih =>
    show (p.1 == s || hasS s (r ++ [q])) = (p.1 == s || hasS s r || q.1 == s)
    rw [ih, Bool.or_assoc]
/-- the k-th clause of text t, its code from w on -/
def CLm (tf : Nat → Int32) (t k w : Nat) (q : Cl) : Prop := tf (753 * t + 1 + 6 * k) = nI q.1 ∧ (∀ c v, q.2.1[c]? = some v → tf (753 * t + 1 + 6 * k + 1 + c) = nI v) ∧ (q.1 ≤ 2 → tf (753 * t + 1 + 6 * k + 1) = nI w ∧ tf (753 * t + 1 + 6 * k + 2) = nI (w + q.2.2.length) ∧ EM tf t w q.2.2)
/-- text t tells L -/
def TXm (tf : Nat → Int32) (t : Nat) (L : List Cl) : Prop := tf (753 * t) = nI L.length ∧ ∀ k q, L[k]? = some q → CLm tf t k (wof (L.take k)) q
theorem nCol_le (s : Nat) : nCol s ≤ 5 := by
  unfold nCol
  repeat' split
  all_goals omega
theorem lt_of_some {α : Type} {L : List α} {k : Nat} {q : α} (h : L[k]? = some q) : k < L.length := by
  by_cases hk : k < L.length
  · exact hk
  · rw [List.getElem?_eq_none (by omega)] at h
    cases h
theorem TXm.add {tf tf3 : Nat → Int32} {t : Nat} {L : List Cl} {q : Cl} (h : TXm tf t L) (wf : ∀ p ∈ L, WFq p) (hl : L.length < 24) (fr : ∀ a, (753 * t + 1 ≤ a ∧ a < 753 * t + 1 + 6 * L.length) ∨ (753 * t + 145 ≤ a ∧ a < 753 * t + 145 + 2 * wof L) → tf3 a = tf a) (e0 : tf3 (753 * t) = nI (L.length + 1)) (hq : CLm tf3 t L.length (wof L) q) : TXm tf3 t (L ++ [q]) := by
  refine ⟨by rw [List.length_append]; exact e0, fun k p hk => ?_⟩
  by_cases kl : k < L.length
  · rw [List.getElem?_append_left kl] at hk
    rw [List.take_append_of_le_length (by omega)]
    obtain ⟨a1, a2, a3⟩ := h.2 k p hk
    have wp := wf p (List.mem_of_getElem? hk)
    have wt := wof_take L k p hk
    refine ⟨by rw [fr _ (by omega)]; exact a1, fun c v hc => ?_, fun p2 => ?_⟩
    · have c5 : c < 5 := by have := lt_of_some hc; have := nCol_le p.1; have := wp.2.2.2.1; omega
      rw [fr _ (by omega)]; exact a2 c v hc
    · obtain ⟨b1, b2, b3⟩ := a3 p2
      refine ⟨by rw [fr _ (by omega)]; exact b1, by rw [fr _ (by omega)]; exact b2, fun j y hy => ?_⟩
      have jl := lt_of_some hy
      rw [fr _ (by omega), fr _ (by omega)]
      exact b3 j y hy
  · rw [List.getElem?_append_right (by omega)] at hk
    have k0 : k - L.length = 0 := by have := lt_of_some hk; have : ([q] : List Cl).length = 1 := rfl; omega
    rw [k0] at hk
    cases hk
    have ek : k = L.length := by omega
    rw [ek, List.take_append_of_le_length (Nat.le_refl _), List.take_length]
    exact hq
theorem TXm.fr {tf tf3 : Nat → Int32} {t : Nat} {L : List Cl} (h : TXm tf t L) (hl : L.length ≤ 24) (hw : wof L ≤ 304) (wf : ∀ p ∈ L, WFq p) (fr : ∀ a, 753 * t ≤ a → a < 753 * t + 753 → tf3 a = tf a) : TXm tf3 t L := by
  refine ⟨by rw [fr _ (by omega) (by omega)]; exact h.1, fun k p hk => ?_⟩
  obtain ⟨a1, a2, a3⟩ := h.2 k p hk
  have wp := wf p (List.mem_of_getElem? hk)
  have wt := wof_take L k p hk
  have kl := lt_of_some hk
  refine ⟨by rw [fr _ (by omega) (by omega)]; exact a1, fun c v hc => ?_, fun p2 => ?_⟩
  · have c5 : c < 5 := by have := lt_of_some hc; have := nCol_le p.1; have := wp.2.2.2.1; omega
    rw [fr _ (by omega) (by omega)]; exact a2 c v hc
  · obtain ⟨b1, b2, b3⟩ := a3 p2
    refine ⟨by rw [fr _ (by omega) (by omega)]; exact b1, by rw [fr _ (by omega) (by omega)]; exact b2, fun j y hy => ?_⟩
    have jl := lt_of_some hy
    rw [fr _ (by omega) (by omega), fr _ (by omega) (by omega)]
    exact b3 j y hy
section PURE
variable {K W : Nat → Nat} {n : Nat}
theorem rdW_j (hK : ∀ j, K j < 53 → j < n) {l : List (Nat × Nat × Nat)} : ∀ {i : Nat} {ns : List Nat}, (∀ q ∈ l, q.1 < 53) → i ≤ n → i ≤ (rdW K W l i ns).2.1 ∧ (rdW K W l i ns).2.1 ≤ n := by
  induction l with
  | nil => intro i ns _ hi; exact ⟨Nat.le_refl _, hi⟩
  | cons q r ih =>
    intro i ns hq hi
    have q5 := hq q List.mem_cons_self
    rw [rdW_e]
    split
    · next k1 =>
      have i1 := hK i (by omega)
      split
      · next k2 =>
        have i2 := hK (i + 1) (by omega)
        split
        · have := ih (i := i + 2) (ns := ns ++ [W (i + 1)]) (fun p hp => hq p (List.mem_cons_of_mem _ hp)) (by omega)
          exact ⟨by omega, this.2⟩
        · exact ⟨by show i ≤ i + 1; omega, by show i + 1 ≤ n; omega⟩
      · exact ⟨by show i ≤ i + 1; omega, by show i + 1 ≤ n; omega⟩
    · exact ⟨Nat.le_refl _, hi⟩
theorem rdA_j (hK : ∀ j, K j < 53 → j < n) {lo hi i : Nat} {r : List (Nat × Nat × Nat)} (hq : ∀ q ∈ r, q.1 < 53) (hi' : i ≤ n) : i ≤ (rdA K W lo hi r i).2.1 ∧ (rdA K W lo hi r i).2.1 ≤ n := by
  unfold rdA
  split
  · next k1 =>
    have i1 := hK i (by omega)
    split
    · have := rdW_j hK (W := W) (i := i + 1) (ns := [W i]) hq (by omega)
      exact ⟨by omega, this.2⟩
    · exact ⟨Nat.le_refl _, hi'⟩
  · exact ⟨Nat.le_refl _, hi'⟩
theorem rdX_j (hK : ∀ j, K j < 53 → j < n) : ∀ f i st, i ≤ n → i ≤ (rdX K W f i st).2.1 ∧ (rdX K W f i st).2.1 ≤ n := by
  intro f
  induction f with
  | zero =>
    intro i st hi
    rw [rdX_e0]
    split
    · next k1 =>
      have i1 := hK i (by omega)
      split
      · split
        · exact ⟨by show i ≤ i + 1; omega, by show i + 1 ≤ n; omega⟩
        · exact ⟨by show i ≤ i + 1; omega, by show i + 1 ≤ n; omega⟩
      · exact ⟨Nat.le_refl _, hi⟩
    · exact ⟨Nat.le_refl _, hi⟩
  | succ f ih =>
    intro i st hi
    rw [show rdX K W (f + 1) i st = if K i = 52 then (if W i ≤ 7 then (if K (i + 1) = 50 then rdX K W f (i + 2) (st ||| 2 ^ W i) else (0, i + 1, st ||| 2 ^ W i)) else (2, i, 0)) else (1, i, 0) from rfl]
    split
    · next k1 =>
      have i1 := hK i (by omega)
      split
      · split
        · next k3 =>
          have i2 := hK (i + 1) (by omega)
          have := ih (i + 2) (st ||| 2 ^ W i) (by omega)
          exact ⟨by omega, this.2⟩
        · exact ⟨by show i ≤ i + 1; omega, by show i + 1 ≤ n; omega⟩
      · exact ⟨Nat.le_refl _, hi⟩
    · exact ⟨Nat.le_refl _, hi⟩
theorem rdF_j (hK : ∀ j, K j < 53 → j < n) {i : Nat} (hi : i ≤ n) : i ≤ (rdF K W i).2.1 ∧ (rdF K W i).2.1 ≤ n := by
  unfold rdF
  split
  · next k1 =>
    have i1 := hK i (by omega)
    split
    · split
      · next k3 =>
        have i2 := hK (i + 1) (by omega)
        have x := rdX_j hK (W := W) 7 (i + 2) 0 (by omega)
        unfold rdF2
        split
        · have := rdW_j hK (W := W) (l := [(15, 1, 99), (16, 0, 999)]) (i := (rdX K W 7 (i + 2) 0).2.1) (ns := [W i, (if K (i + 1) = 14 then 1 else 0), (rdX K W 7 (i + 2) 0).2.2]) (by decide) x.2
          exact ⟨by omega, this.2⟩
        · exact ⟨by show i ≤ (rdX K W 7 (i + 2) 0).2.1; omega, x.2⟩
      · exact ⟨by show i ≤ i + 1; omega, by show i + 1 ≤ n; omega⟩
    · exact ⟨Nat.le_refl _, hi⟩
  · exact ⟨Nat.le_refl _, hi⟩
theorem rdF_l {i : Nat} (h : (rdF K W i).1 = 0) : (rdF K W i).2.2.length = 5 := by
  revert h
  unfold rdF
  split
  · split
    · split
      · unfold rdF2
        split
        · intro h
          exact rdW_len h
        · next hz => intro h; exact absurd h hz
      · intro h; cases h
    · intro h; cases h
  · intro h; cases h
theorem rdA_len {lo hi i : Nat} {r : List (Nat × Nat × Nat)} (h : (rdA K W lo hi r i).1 = 0) : (rdA K W lo hi r i).2.2.length = 1 + r.length := by
  have y1 := rdA_1 (K := K) (W := W) (lo := lo) (hi := hi) (i := i)
  revert h
  rw [rdA_c]
  split
  · next hz =>
    intro h
    rw [rdW_len h, y1.2.1 hz]
  · next hz => intro h; exact absurd h hz
/-- what stands behind a clause's word -/
theorem rdB_ok (hK : ∀ j, K j < 53 → j < n) (n3 : n ≤ 300) {s i : Nat} (hs : s ≤ 9) (hi : i ≤ n) : i ≤ (rdB K W s i).2.1 ∧ (rdB K W s i).2.1 ≤ n ∧ ((rdB K W s i).1 = 0 → WFq (s, (rdB K W s i).2.2.1, (rdB K W s i).2.2.2) ∧ (rdB K W s i).2.2.2.length + i ≤ (rdB K W s i).2.1) := by
  by_cases h2 : s ≤ 2
  · obtain ⟨z, j, e, er, _⟩ := rd_end (K := K) (W := W) (so := s) hK 5000 3 0 i [] (by omega) (by show 16 * (n - i) + 4 < 5000; omega)
    obtain ⟨f1, f2, f3, _⟩ := rd_fact (W := W) (so := s) hK 5000 3 0 i [] (by omega) hi (pre_t (by omega)) z j e er
    have f3 : e.length + i ≤ 0 + j := f3
    rw [show rdB K W s i = (z, j, [], e) by unfold rdB; rw [if_pos h2, er]; rfl]
    refine ⟨f2, f1, fun z0 => ⟨⟨hs, fun _ => ?_, fun w => absurd w (by show ¬ 3 ≤ s; omega), ?_, fun w => absurd w (by show ¬ s = 9; omega)⟩, by show e.length + i ≤ j; omega⟩⟩
    · have z0 : z = 0 := z0
      rw [z0] at er
      exact rd_law er
    · show 0 = nCol s
      unfold nCol
      rw [if_neg (by omega), if_neg (by omega), if_neg (by omega), if_neg (by omega)]
  · by_cases h5 : s = 5
    · subst h5
      rw [show rdB K W 5 i = ((rdF K W i).1, (rdF K W i).2.1, (rdF K W i).2.2, []) from rfl]
      have fj := rdF_j hK (W := W) hi
      exact ⟨fj.1, fj.2, fun z0 => ⟨⟨hs, fun w => absurd w (by show ¬ (5 : Nat) ≤ 2; omega), fun _ => rfl, rdF_l z0, fun w => absurd w (by show ¬ (5 : Nat) = 9; omega)⟩, by show 0 + i ≤ (rdF K W i).2.1; omega⟩⟩
    · have eb : rdB K W s i = ((rdA K W (itm s).1 (itm s).2.1 (itm s).2.2 i).1, (rdA K W (itm s).1 (itm s).2.1 (itm s).2.2 i).2.1, (rdA K W (itm s).1 (itm s).2.1 (itm s).2.2 i).2.2, []) := by
        unfold rdB
        rw [if_neg h2, if_neg h5]
      have iq : (∀ q ∈ (itm s).2.2, q.1 < 53) ∧ 1 + (itm s).2.2.length = nCol s ∧ (s = 9 → (itm s) = (1, 60, [])) := by
        have sc : s = 3 ∨ s = 4 ∨ s = 6 ∨ s = 7 ∨ s = 8 ∨ s = 9 := by omega
        rcases sc with rfl | rfl | rfl | rfl | rfl | rfl
        · exact ⟨by decide, rfl, fun w => absurd w (by decide)⟩
        · exact ⟨by decide, rfl, fun w => absurd w (by decide)⟩
        · exact ⟨by decide, rfl, fun w => absurd w (by decide)⟩
        · exact ⟨by decide, rfl, fun w => absurd w (by decide)⟩
        · exact ⟨by decide, rfl, fun w => absurd w (by decide)⟩
        · exact ⟨by decide, rfl, fun _ => rfl⟩
      have fj := rdA_j hK (W := W) (lo := (itm s).1) (hi := (itm s).2.1) iq.1 hi
      rw [eb]
      refine ⟨fj.1, fj.2, fun z0 => ⟨⟨hs, fun w => absurd w h2, fun _ => rfl, ?_, fun w v hv => ?_⟩, by show 0 + i ≤ (rdA K W (itm s).1 (itm s).2.1 (itm s).2.2 i).2.1; have := fj.1; omega⟩⟩
      · show (rdA K W (itm s).1 (itm s).2.1 (itm s).2.2 i).2.2.length = nCol s
        rw [rdA_len z0]; exact iq.2.1
      · have z0 : (rdA K W (itm s).1 (itm s).2.1 (itm s).2.2 i).1 = 0 := z0
        have hv : (rdA K W (itm s).1 (itm s).2.1 (itm s).2.2 i).2.2[0]? = some v := hv
        rw [iq.2.2 w] at z0 hv
        revert z0 hv
        show (rdA K W 1 60 [] i).1 = 0 → (rdA K W 1 60 [] i).2.2[0]? = some v → v ≤ 60
        unfold rdA
        split
        · split
          · next k2 => intro _ hv; cases hv; exact k2.2
          · intro z0; cases z0
        · intro z0; cases z0
/-- a clause -/
theorem rdC_ok (hK : ∀ j, K j < 53 → j < n) (n3 : n ≤ 300) {L : List Cl} {i : Nat} (hi : i ≤ n) (hl : L.length ≤ 24) (wf : ∀ p ∈ L, WFq p) (hw : wof L ≤ i) : (rdC K W L i).2.1 ≤ n ∧ ((rdC K W L i).1 = 0 → (rdC K W L i).2.2.length = L.length + 1 ∧ L.length < 24 ∧ (∀ p ∈ (rdC K W L i).2.2, WFq p) ∧ wof (rdC K W L i).2.2 ≤ (rdC K W L i).2.1) := by
  unfold rdC
  split
  · next k1 =>
    split
    · exact ⟨hi, fun h => (by cases h)⟩
    · split
      · exact ⟨hi, fun h => (by cases h)⟩
      · next hl2 =>
        have i1 := hK i (by omega)
        obtain ⟨b1, b2, b3⟩ := rdB_ok hK n3 (W := W) (s := K i - 1) (i := i + 1) (by omega) (by omega)
        unfold rdC2
        split
        · next hz =>
          split
          · next k51 =>
            have i2 := hK _ (by rw [k51]; omega)
            refine ⟨by show _ + 1 ≤ n; omega, fun _ => ⟨by rw [List.length_append]; rfl, by omega, fun p hp => ?_, ?_⟩⟩
            · rcases List.mem_append.mp hp with w | w
              · exact wf p w
              · rw [List.mem_singleton.mp w]
                exact (b3 hz).1
            · have := (b3 hz).2
              show wof (L ++ [_]) ≤ _ + 1
              rw [wof_app]
              show wof L + (rdB K W (K i - 1) (i + 1)).2.2.2.length ≤ _
              omega
          · exact ⟨b2, fun h => (by cases h)⟩
        · next hz => exact ⟨b2, fun h => absurd h hz⟩
  · exact ⟨hi, fun h => (by cases h)⟩
/-- a text -/
theorem rdT_ok (hK : ∀ j, K j < 53 → j < n) (n3 : n ≤ 300) : ∀ f (L : List Cl) i, i ≤ n → L.length + f = 25 → L.length ≤ 24 → (∀ p ∈ L, WFq p) → wof L ≤ i → (rdT K W f L i).2.1 ≤ n ∧ ((rdT K W f L i).1 = 0 → (rdT K W f L i).2.2.length ≤ 24 ∧ (∀ p ∈ (rdT K W f L i).2.2, WFq p) ∧ wof (rdT K W f L i).2.2 ≤ 300) := by
  intro f
  induction f with
  | zero => intro L i _ h1 h2; omega
  | succ f ih =>
    intro L i hi h1 h2 wf hw
    show (if K i = 54 then (0, i, L) else rdT2 (rdT K W f) (rdC K W L i)).2.1 ≤ n ∧ _
    rw [show rdT K W (f + 1) L i = if K i = 54 then (0, i, L) else rdT2 (rdT K W f) (rdC K W L i) from rfl]
    obtain ⟨c1, c2⟩ := rdC_ok hK n3 (W := W) hi h2 wf hw
    split
    · exact ⟨hi, fun _ => ⟨h2, wf, by show wof L ≤ 300; omega⟩⟩
    · unfold rdT2
      split
      · next hz =>
        obtain ⟨d1, d2, d3, d4⟩ := c2 hz
        exact ih _ _ c1 (by omega) (by omega) d3 d4
      · next hz => exact ⟨c1, fun h => absurd h hz⟩
end PURE

