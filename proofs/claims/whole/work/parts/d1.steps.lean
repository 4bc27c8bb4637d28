/-! steps keep what holds of the row (wip/whole/gend1.py) -/
theorem PA.nx {tf : Nat → Int32} {a : Fl} {v : Nat} (h : PA tf a) (k : KG a) (hv : v < 30553) : PA tf (up a 9 v) ∧ KG (up a 9 v) ∧ up a 9 v 2 = a 2 := by
  have j := h.1.nx hv
  rw [up_9] at j ⊢
  exact h.un k j (by rw [up_n (by omega)]; rfl)
theorem PA.pass {tf : Nat → Int32} {a : Fl} (h : PA tf a) (k : KG a) (hd : a 8 < 9999) : PA tf (mPass tf a) ∧ KG (mPass tf a) ∧ mPass tf a 2 = a 2 := by
  refine h.un k (h.1.pass hd) ?_
  unfold wPass wPass0
  have iv := h.1.1.2.1
  rw [up_n (by omega), (iw_pK (iw_pF iv (a 0) (Nat.le_refl _)) _ (by rw [pF_o (by omega) (by omega)]; exact Nat.le_refl _)).2 0 (by omega), pF_o (by omega) (by omega)]
  rfl
theorem PA.turn {tf : Nat → Int32} {a : Fl} {p f : Nat} (h : PA tf a) (k : KG a) (hp : p < a 1) (hf : f < a 0) : PA tf (mTurn a p f) ∧ KG (mTurn a p f) ∧ mTurn a p f 2 = a 2 :=
  h.un k (h.1.turn hp hf) (by unfold wTurn wLose; rw [up_n (by omega), up_n (by unfold ppx; omega)]; rfl)
theorem PA.fore {tf : Nat → Int32} {a : Fl} {p al f dd fee : Nat} (h : PA tf a) (k : KG a) (hp : p < a 1) (hal : al ≤ 1) (hf : 0 < f) (hf2 : f < 2 ^ a 0) (hdd : dd ≤ 99) (hfee : fee ≤ 999) (h12 : a 11 < 12) : PA tf (mFore a p al f dd fee) ∧ KG (mFore a p al f dd fee) ∧ mFore a p al f dd fee 2 = a 2 := by
  refine h.un k (h.1.fore hp hal hf hf2 hdd hfee h12) ?_
  unfold wFore wGain
  rw [up_n (by unfold ppx; omega), up_n (by omega)]
  iterate 6 rw [up_n (by unfold pcx; omega)]
  rfl
theorem PA.hap {tf : Nat → Int32} {a : Fl} {x : Nat} (h : PA tf a) (k : KG a) : PA tf (mHap tf a x) ∧ KG (mHap tf a x) ∧ mHap tf a x 2 = a 2 := by
  unfold mHap
  split
  · split
    · exact h.pass k (by assumption)
    · exact ⟨h, k, rfl⟩
  · split
    · exact ⟨h, k, rfl⟩
    · rename_i h6 hz
      have hp : x % a 1 < a 1 := Nat.mod_lt _ (by omega)
      have hf : x / 6 % a 0 < a 0 := Nat.mod_lt _ (by omega)
      split
      · split
        · rename_i hk
          have q := yF_b (a := a) (x := x) (by omega)
          exact h.fore k hp (by unfold yAl; split <;> omega) q.1 q.2 (by omega) (by omega) hk.2.2
        · exact ⟨h, k, rfl⟩
      · split
        · split
          · exact h.turn k hp hf
          · exact ⟨h, k, rfl⟩
        · split
          · exact h.turn k hp hf
          · exact ⟨h, k, rfl⟩
theorem pa_yrs {tf : Nat → Int32} {a : Fl} (h : PA tf a) (k : KG a) : ∀ i, PA tf (yrs tf i a) ∧ KG (yrs tf i a) ∧ yrs tf i a 2 = a 2 := by
  intro i
  induction i with
  | zero => exact ⟨h, k, rfl⟩
  | succ i ih =>
    obtain ⟨p, q, r⟩ := ih
    obtain ⟨p1, q1, r1⟩ := p.nx q (v := nxD (yrs tf i a 9)) (Nat.mod_lt _ (by omega))
    obtain ⟨p2, q2, r2⟩ := p1.hap q1 (x := yrs tf i a 9)
    exact ⟨p2, q2, r2.trans (r1.trans r)⟩
theorem PA.years {tf : Nat → Int32} {a : Fl} (h : PA tf a) (x n : Int32) : PA tf (mYears tf a x n).2 ∧ (mYears tf a x n).2 2 = a 2 := by
  unfold mYears
  by_cases w : inr x 0 9999 ∧ inr n 1 40
  · rw [if_pos w]
    have nx := (inr_nn (n := 9999) (by omega) w.1).1
    obtain ⟨p, q, r⟩ := h.keep
    obtain ⟨p1, q1, r1⟩ := p.nx q (v := nn x * 2 + 191) (by omega)
    obtain ⟨p2, q2, r2⟩ := pa_yrs p1 q1 (nn n)
    exact ⟨p2, r2.trans (r1.trans r)⟩
  · rw [if_neg w]
    exact ⟨h, rfl⟩
theorem PA.foretell {tf : Nat → Int32} {a : Fl} (h : PA tf a) (p : Int32) {al : Nat} (hal : al ≤ 1) (f d e : Int32) : PA tf (mForetell a p al f d e).2 ∧ (mForetell a p al f d e).2 2 = a 2 := by
  unfold mForetell
  by_cases w : okF a p ∧ okG a f d e
  · rw [if_pos w]
    obtain ⟨⟨p1, p2, p3⟩, hg⟩ := w
    have c := h.1.1.1
    have q4 := c.2.2.2.2.1
    obtain ⟨g1, g2, g3, g4⟩ := okG_nn c.1 hg
    have c1 := c.2.1
    have q := (vin_nn (n := a 1) (by omega) p1).1
    obtain ⟨k1, k2, k3⟩ := h.keep
    obtain ⟨f1, f2, f3⟩ := k1.fore (p := nn p) (al := al) (f := nn f) (dd := nn d) (fee := nn e) k2 (by rw [mKeep_out q4 (by omega) (by omega)]; exact q) hal g1 (by rw [mKeep_out q4 (by omega) (by omega)]; exact g2) g3 g4 (by rw [mKeep_out q4 (by omega) (by omega)]; exact p3)
    exact ⟨f1, f3.trans k3⟩
  · rw [if_neg w]
    exact ⟨h, rfl⟩
theorem PA.bring {tf : Nat → Int32} {a : Fl} (h : PA tf a) (so : Nat) (p f : Int32) : PA tf (mBring a so p f).2 ∧ (mBring a so p f).2 2 = a 2 := by
  unfold mBring
  by_cases w : okT a p f so
  · rw [if_pos w]
    obtain ⟨p1, p2, _⟩ := w
    have c := h.1.1.1
    have q4 := c.2.2.2.2.1
    have c1 := c.2.1
    have c0 := c.1
    obtain ⟨k1, k2, k3⟩ := h.keep
    obtain ⟨f1, f2, f3⟩ := k1.turn (p := nn p) (f := nn f) k2 (by rw [mKeep_out q4 (by omega) (by omega)]; exact (vin_nn (n := a 1) (by omega) p1).1) (by rw [mKeep_out q4 (by omega) (by omega)]; exact (vin_nn (n := a 0) (by omega) p2).1)
    exact ⟨f1, f3.trans k3⟩
  · rw [if_neg w]
    exact ⟨h, rfl⟩
theorem PA.sell {tf : Nat → Int32} {a : Fl} (h : PA tf a) (k t m : Int32) : PA tf (mSell a k t m).2 ∧ (mSell a k t m).2 2 = a 2 := by
  have jj := h.1.sell k t m
  unfold mSell at jj ⊢
  by_cases w : okS (snap a) k t m
  · rw [if_pos w] at jj ⊢
    obtain ⟨⟨o1, o2⟩, t1, t2, t3, m1, m2⟩ := w
    have q4 := h.1.1.1.2.2.2.2.1
    have c4 := h.1.1.2.1.1.2.2.2.2.1
    have c0 := h.1.1.2.1.1.1
    obtain ⟨k1, k2, k3⟩ := h.keep
    have e0 : snap (mKeep a) 0 = snap a 0 := snap_keep q4 (by omega)
    have e4 : snap (mKeep a) 4 = snap a 4 := snap_keep q4 (by omega)
    have q := iw_sell (k := nn k) (t := nn t) (m := nn m) k1.1.1.2.1 (by rw [e4]; exact (vin_nn (by omega) o1).1) (by rw [e0]; exact (vin_nn (by omega) t1).1) (inr_nn (n := 999) (by omega) m1).1
    obtain ⟨f1, f2, f3⟩ := k1.un k2 jj q.2
    exact ⟨f1, f3.trans k3⟩
  · rw [if_neg w]
    exact ⟨h, rfl⟩
theorem PA.days {tf : Nat → Int32} {a : Fl} (h : PA tf a) : ∀ i, a 8 + i ≤ 9999 → PA tf (dyA tf i a) ∧ dyA tf i a 2 = a 2 := by
  intro i
  induction i with
  | zero => intro _; exact ⟨h, rfl⟩
  | succ i ih =>
    intro hi
    obtain ⟨h1, h2⟩ := ih (by omega)
    have e := (h.1.1.days i (by omega)).2
    obtain ⟨k1, k2, k3⟩ := h1.keep
    obtain ⟨f1, f2, f3⟩ := k1.pass k2 (by rw [mKeep_8 h1.1.1.1.2.2.2.2.1, e]; omega)
    exact ⟨f1, f3.trans (k3.trans h2)⟩
theorem PA.day {tf : Nat → Int32} {a : Fl} (h : PA tf a) (n : Int32) : PA tf (mDay tf a n).2 ∧ (mDay tf a n).2 2 = a 2 := by
  unfold mDay
  by_cases w : inr n 1 60 ∧ a 8 + nn n ≤ 9999
  · rw [if_pos w]
    exact h.days _ w.2
  · rw [if_neg w]
    exact ⟨h, rfl⟩

theorem PA.prophet {tf : Nat → Int32} {a : Fl} (h : PA tf a) (o c : Int32) : PA tf (mProphet a o c).2 ∧ (mProphet a o c).2 2 = a 2 := by
  have j := h.1.prophet o c
  have ic := h.1.1.1
  have h4 := ic.2.2.2.2.1
  unfold mProphet at j ⊢
  by_cases q : inr o 0 9999 ∧ inr c 0 99 ∧ a 1 < 5
  · rw [if_pos q] at j ⊢
    have h5 := q.2.2
    generalize nn o = u at j ⊢
    generalize nn c = f at j ⊢
    obtain ⟨a', ea⟩ : ∃ x, x = up (up (up (up (up (up a (13 + 5 * a 1 + 3) u) (13 + 5 * a 1 + 4) f) (13 + 5 * a 1 + 0) u) (13 + 5 * a 1 + 1) f) (13 + 5 * a 1 + 2) 0) 1 (a 1 + 1) := ⟨_, rfl⟩
    have j : JY tf a' := by rw [ea]; exact j
    show PA tf (up (up (up (up (up (up a (13 + 5 * a 1 + 3) u) (13 + 5 * a 1 + 4) f) (13 + 5 * a 1 + 0) u) (13 + 5 * a 1 + 1) f) (13 + 5 * a 1 + 2) 0) 1 (a 1 + 1)) ∧ (up (up (up (up (up (up a (13 + 5 * a 1 + 3) u) (13 + 5 * a 1 + 4) f) (13 + 5 * a 1 + 0) u) (13 + 5 * a 1 + 1) f) (13 + 5 * a 1 + 2) 0) 1 (a 1 + 1)) 2 = a 2
    rw [← ea]
    have g : ∀ i, i ≠ 1 → (i < 13 + 5 * a 1 ∨ 13 + 5 * a 1 + 4 < i) → a' i = a i := fun i h1 h2 => by
      rw [ea, up_n h1, up_n (by omega), up_n (by omega), up_n (by omega), up_n (by omega), up_n (by omega)]
    have g1 : a' 1 = a 1 + 1 := by rw [ea]; exact up_s
    have gp0 : a' (13 + 5 * a 1 + 0) = u := by rw [ea, up_n (by omega), up_n (by omega), up_n (by omega), up_s]
    have gp1 : a' (13 + 5 * a 1 + 1) = f := by rw [ea, up_n (by omega), up_n (by omega), up_s]
    have gp2 : a' (13 + 5 * a 1 + 2) = 0 := by rw [ea, up_n (by omega), up_s]
    have gp3 : a' (13 + 5 * a 1 + 3) = u := by rw [ea, up_n (by omega), up_n (by omega), up_n (by omega), up_n (by omega), up_n (by omega), up_s]
    have gp4 : a' (13 + 5 * a 1 + 4) = f := by rw [ea, up_n (by omega), up_n (by omega), up_n (by omega), up_n (by omega), up_s]
    have e4 : a' 4 = a 4 := g 4 (by omega) (by omega)
    have sc : ∀ t, t < a 4 → stC a' t = stC a t := fun t ht => by
      unfold stC
      rw [e4, if_neg (by omega), if_neg (by omega)]
      exact g _ (by omega) (by omega)
    have sx : stC a' (a 4) = a 1 + 1 := by rw [stC_now e4.symm]; exact g1
    have sy : stC a (a 4) = a 1 := stC_now rfl
    have iu : IU a' := by
      intro t ht
      rw [e4] at ht
      obtain ⟨u1, u2⟩ := h.2.1 t ht
      have m := h.2.1.le (a 4 - (t + 1)) (t + 1) (by omega)
      rw [sc t ht]
      by_cases w : t + 1 = a 4
      · rw [w] at u1 u2 ⊢
        rw [sx]
        rw [sy] at u1 u2
        refine ⟨by omega, fun p p1 p2 => ?_⟩
        have n1 : ∀ k, stN a' (a 4) p k = a' (13 + 5 * p + k) := fun k => by unfold stN; rw [if_pos e4.symm]
        have n2 : ∀ k, stN a (a 4) p k = a (13 + 5 * p + k) := fun k => by unfold stN; rw [if_pos rfl]
        rw [n1 0, n1 1, n1 2]
        by_cases z : p = a 1
        · rw [z, gp0, gp1, gp2, gp3, gp4]
          exact ⟨rfl, rfl, rfl⟩
        · have v := u2 p p1 (by omega)
          rw [n2 0, n2 1, n2 2] at v
          rw [g (13 + 5 * p + 0) (by omega) (by omega), g (13 + 5 * p + 1) (by omega) (by omega), g (13 + 5 * p + 2) (by omega) (by omega), g (13 + 5 * p + 3) (by omega) (by omega), g (13 + 5 * p + 4) (by omega) (by omega)]
          exact v
      · rw [sc (t + 1) (by omega)]
        refine ⟨u1, fun p p1 p2 => ?_⟩
        have n : ∀ k, stN a' (t + 1) p k = stN a (t + 1) p k := fun k => by
          unfold stN
          rw [e4, if_neg w, if_neg w]
          exact g _ (by omega) (by omega)
        rw [n 0, n 1, n 2, g (13 + 5 * p + 3) (by omega) (by omega), g (13 + 5 * p + 4) (by omega) (by omega)]
        exact u2 p p1 p2
    have l0 := Nat.le_of_eq (g 0 (by omega) (by omega)).symm
    refine ⟨⟨j, iu, h.2.2.1.cg (g 5 (by omega) (by omega)) l0 (fun i i1 i2 => g i (by omega) (by omega)) ic.2.2.2.2.2.1, h.2.2.2.1.cg (g 6 (by omega) (by omega)) l0 (fun i i1 i2 => g i (by omega) (by omega)) ic.2.2.2.2.2.2.1, h.2.2.2.2.1.cg (g 7 (by omega) (by omega)) (fun i i1 i2 => g i (by omega) (by omega)) ic.2.2.2.2.2.2.2.1, fun t ht => ?_, fun t ht => h.2.2.2.2.2.2.1 t (by rw [g 2 (by omega) (by omega)] at ht; exact ht), fun t ht => h.2.2.2.2.2.2.2 t (by rw [g 2 (by omega) (by omega)] at ht; exact ht)⟩, g 2 (by omega) (by omega)⟩
    rw [e4] at ht
    rw [g 0 (by omega) (by omega)]
    exact (h.2.2.2.2.2.1 t ht).cg (fun i hi => g _ (by omega) (by omega))
  · rw [if_neg q]
    exact ⟨h, rfl⟩
theorem pa_plS {tf : Nat → Int32} {t k : Nat} {a : Fl} (h : PA tf a) : PA tf (plS tf t k a).2 ∧ (plS tf t k a).2 2 = a 2 := by
  have v8 := h.1.1.1.2.2.2.2.2.2.2.2.1
  unfold plS
  split
  · exact h.fact _ _
  · split
    · exact h.prophet _ _
    · split
      · exact h.foretell _ (by split <;> omega) _ _ _
      · split
        · exact h.bring _ _ _
        · split
          · exact h.bring _ _ _
          · split
            · exact h.sell _ _ _
            · split
              · exact h.days _ (by omega)
              · exact ⟨h, rfl⟩
theorem pa_plL {tf : Nat → Int32} {t : Nat} : ∀ r k a, PA tf a → PA tf (plL tf t r k a).2 ∧ (plL tf t r k a).2 2 = a 2 := by
  intro r
  induction r with
  | zero => intro k a h; exact ⟨h, rfl⟩
  | succ r ih =>
    intro k a h
    have s := pa_plS (t := t) (k := k) h
    unfold plL
    split
    · exact s
    · obtain ⟨i1, i2⟩ := ih (k + 1) (plS tf t k a).2 s.1
      exact ⟨i1, i2.trans s.2⟩
theorem PA.played {tf : Nat → Int32} {a : Fl} (h : PA tf a) (x : Int32) : PA tf (mPlayed tf a x).2 ∧ (mPlayed tf a x).2 2 = a 2 := by
  unfold mPlayed
  split
  · exact pa_plL _ _ _ h
  · exact ⟨h, rfl⟩

