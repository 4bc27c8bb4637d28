/-! years: the model, its bounds, the reference (walks by program: wip/whole/gen75.py) -/
/-- what was told of prophets, in its bounds -/
def ITd (a : Fl) : Prop := ∀ p, p < a 1 → a (13 + 5 * p + 3) ≤ 9999 ∧ a (13 + 5 * p + 4) ≤ 99
theorem JD.ip {tf : Nat → Int32} {a : Fl} (hj : JD tf a) (ht : ITd a) : IP a := fun p hp => by
  have h5 := hj.1.2.1
  have q := hj.2.1.2.1 p hp
  rw [snap_pp (by omega) (by omega), snap_pp (by omega) (by omega), snap_pp (by omega) (by omega)] at q
  exact ⟨q.1, q.2.1, q.2.2, (ht p hp).1, (ht p hp).2⟩
theorem uns_t {a W : Fl} {i : Nat} (h : 13 ≤ i ∧ i < 38 ∧ 3 ≤ (i - 13) % 5) : uns a W i = a i := by
  unfold uns
  rw [if_neg (by omega), if_neg (by omega), if_neg (by omega), if_neg (by omega), if_neg (by omega)]
theorem ITd.un {a W : Fl} (h : ITd a) (h0 : W 0 = a 1) (h5 : a 1 ≤ 5) : ITd (uns a W) := fun p hp => by
  have e : uns a W 1 = W 0 := uns_wx (j := 0) (by omega)
  rw [e, h0] at hp
  rw [uns_t (by omega), uns_t (by omega)]
  exact h p hp
theorem iw_gain {n p m : Nat} {W : Fl} (h : IW n W) (hp : p < W 0) : IW n (wGain W p m) := h.pp hp (Or.inl ⟨rfl, by omega⟩)
theorem iw_lose {n p m : Nat} {W : Fl} (h : IW n W) (hp : p < W 0) : IW n (wLose W p m) := h.pp hp (Or.inl ⟨rfl, by have := (h.2.1 p hp).1; omega⟩)
theorem iw_turn {n p f m : Nat} {W : Fl} (h : IW n W) (hp : p < W 0) (hf : f < n) : IW n (wTurn W p f m) := by
  refine (iw_lose h hp).u (Or.inr (Or.inr ⟨rfl, ?_⟩))
  exact Nat.xor_lt_two_pow h.1.2.2.2.1 (Nat.pow_lt_pow_right (by omega) hf)
theorem iw_fore {n p al f dd fee : Nat} {W : Fl} (h : IW n W) (hp : p < W 0) (hal : al ≤ 1) (hf : 0 < f) (hf2 : f < 2 ^ n) (hdd : dd ≤ 99) (hfee : fee ≤ 999) (h12 : W 4 < 12) : IW n (wFore W p al f dd fee) := by
  obtain ⟨⟨b0, b1, b2, b3, b4, b5⟩, bp, bc, bb⟩ := h
  unfold wFore
  refine iw_gain ?_ (by rw [up_n (by omega)]; iterate 6 rw [up_n (by unfold pcx; omega)]
                        exact hp)
  have o : ∀ i, (i < 4 ∨ i = 5 ∨ (6 ≤ i ∧ i < pcx (W 4) 0) ∨ pcx (W 4) 5 < i) → up (up (up (up (up (up (up W (pcx (W 4) 0) p) (pcx (W 4) 1) al) (pcx (W 4) 2) f) (pcx (W 4) 3) (W 1 + dd)) (pcx (W 4) 4) fee) (pcx (W 4) 5) 0) 4 (W 4 + 1) i = W i := fun i hi => by
    rw [up_n (by unfold pcx at hi; omega)]
    iterate 6 rw [up_n (by unfold pcx at *; omega)]
  have o4 : up (up (up (up (up (up (up W (pcx (W 4) 0) p) (pcx (W 4) 1) al) (pcx (W 4) 2) f) (pcx (W 4) 3) (W 1 + dd)) (pcx (W 4) 4) fee) (pcx (W 4) 5) 0) 4 (W 4 + 1) 4 = W 4 + 1 := up_s
  refine ⟨⟨?_, ?_, ?_, ?_, ?_, ?_⟩, fun p hp => ?_, fun k hk => ?_, fun j hj => ?_⟩
  · rw [o 0 (by omega)]; exact b0
  · rw [o 1 (by omega)]; exact b1
  · rw [o 2 (by omega)]; exact b2
  · rw [o 3 (by omega)]; exact b3
  · rw [o4]; omega
  · rw [o 5 (by omega)]; exact b5
  · rw [o 0 (by omega)] at hp
    rw [o _ (by unfold ppx pcx; omega), o _ (by unfold ppx pcx; omega), o _ (by unfold ppx pcx; omega)]; exact bp p hp
  · rw [o4] at hk
    rw [o 0 (by omega)]
    by_cases e : k = W 4
    · subst e
      have c : ∀ j, j < 6 → up (up (up (up (up (up (up W (pcx (W 4) 0) p) (pcx (W 4) 1) al) (pcx (W 4) 2) f) (pcx (W 4) 3) (W 1 + dd)) (pcx (W 4) 4) fee) (pcx (W 4) 5) 0) 4 (W 4 + 1) (pcx (W 4) j) = if j = 0 then p else if j = 1 then al else if j = 2 then f else if j = 3 then W 1 + dd else if j = 4 then fee else 0 := fun j hj => by
        rw [up_n (by unfold pcx; omega)]
        rcases (show j = 0 ∨ j = 1 ∨ j = 2 ∨ j = 3 ∨ j = 4 ∨ j = 5 by omega) with rfl | rfl | rfl | rfl | rfl | rfl
        · iterate 5 rw [up_n (by unfold pcx; omega)]
          exact up_s
        · iterate 4 rw [up_n (by unfold pcx; omega)]
          exact up_s
        · iterate 3 rw [up_n (by unfold pcx; omega)]
          exact up_s
        · iterate 2 rw [up_n (by unfold pcx; omega)]
          exact up_s
        · rw [up_n (by unfold pcx; omega)]
          exact up_s
        · exact up_s
      rw [c 0 (by omega), c 1 (by omega), c 2 (by omega), c 3 (by omega), c 4 (by omega), c 5 (by omega)]
      exact ⟨hp, hal, hf, hf2, by show W 1 + dd ≤ 10098; omega, hfee, by show 0 ≤ 2; omega⟩
    · have hk' : k < W 4 := by omega
      have c : ∀ j, j < 6 → up (up (up (up (up (up (up W (pcx (W 4) 0) p) (pcx (W 4) 1) al) (pcx (W 4) 2) f) (pcx (W 4) 3) (W 1 + dd)) (pcx (W 4) 4) fee) (pcx (W 4) 5) 0) 4 (W 4 + 1) (pcx k j) = W (pcx k j) := fun j hj => o _ (by unfold pcx; omega)
      rw [c 0 (by omega), c 1 (by omega), c 2 (by omega), c 3 (by omega), c 4 (by omega), c 5 (by omega)]
      exact bc k hk'
  · rw [o 5 (by omega)] at hj
    rw [o _ (by unfold pcx; omega), o _ (by unfold pcx; omega)]; exact bb j hj
/-- what years need -/
def JY (tf : Nat → Int32) (a : Fl) : Prop := JD tf a ∧ ITd a
theorem JY.un {tf : Nat → Int32} {a W : Fl} (h : JY tf a) (hW : IW (a 0) W) (h0 : W 0 = a 1) : JY tf (uns a W) := ⟨h.1.un hW, h.2.un h0 h.1.1.2.1⟩
theorem JY.ip {tf : Nat → Int32} {a : Fl} (h : JY tf a) : IP a := h.1.ip h.2
theorem JY.keep {tf : Nat → Int32} {a : Fl} (h : JY tf a) : JY tf (mKeep a) := by
  have q4 := h.1.1.2.2.2.2.1
  have h5 := h.1.1.2.1
  refine ⟨h.1.keep, fun p hp => ?_⟩
  rw [mKeep_out q4 (by omega) (by omega)] at hp
  rw [mKeep_out q4 (by omega) (by omega), mKeep_out q4 (by omega) (by omega)]
  exact h.2 p hp
theorem up_9 {a : Fl} {v : Nat} : up a 9 v = uns a (up (snap a) 2 v) := by
  have := uns_up (a := a) (W := snap a) (j := 2) (v := v) (by omega)
  rw [uns_snap] at this
  exact this
theorem JY.nx {tf : Nat → Int32} {a : Fl} {v : Nat} (h : JY tf a) (hv : v < 30553) : JY tf (up a 9 v) := by
  rw [up_9]
  exact h.un (h.1.2.1.u (by omega)) (by rw [up_n (by omega)]; rfl)
theorem JY.pass {tf : Nat → Int32} {a : Fl} (h : JY tf a) (hd : a 8 < 9999) : JY tf (mPass tf a) := by
  refine ⟨(h.1.pass hd).1, h.2.un ?_ h.1.1.2.1⟩
  unfold wPass wPass0
  have iv := h.1.2.1
  rw [up_n (by omega), (iw_pK (iw_pF iv (a 0) (Nat.le_refl _)) _ (by rw [pF_o (by omega) (by omega)]; exact Nat.le_refl _)).2 0 (by omega), pF_o (by omega) (by omega)]
  rfl
theorem JY.turn {tf : Nat → Int32} {a : Fl} {p f : Nat} (h : JY tf a) (hp : p < a 1) (hf : f < a 0) : JY tf (mTurn a p f) := h.un (iw_turn h.1.2.1 hp hf) (by unfold wTurn wLose; rw [up_n (by omega), up_n (by unfold ppx; omega)]; rfl)
theorem JY.fore {tf : Nat → Int32} {a : Fl} {p al f dd fee : Nat} (h : JY tf a) (hp : p < a 1) (hal : al ≤ 1) (hf : 0 < f) (hf2 : f < 2 ^ a 0) (hdd : dd ≤ 99) (hfee : fee ≤ 999) (h12 : a 11 < 12) : JY tf (mFore a p al f dd fee) := by
  refine h.un (iw_fore h.1.2.1 hp hal hf hf2 hdd hfee h12) ?_
  unfold wFore wGain
  rw [up_n (by unfold ppx; omega), up_n (by omega)]
  iterate 6 rw [up_n (by unfold pcx; omega)]
  rfl
def yF (a : Fl) (x : Nat) : Nat := 2 ^ (x % a 0) ||| 2 ^ (x / 6 % a 0)
def yAl (x : Nat) : Nat := if x % 4 = 0 then 1 else 0
theorem yF_b {a : Fl} {x : Nat} (h0 : a 0 ≠ 0) : 0 < yF a x ∧ yF a x < 2 ^ a 0 := by
  unfold yF
  have e1 : x % a 0 < a 0 := Nat.mod_lt _ (by omega)
  have e2 : x / 6 % a 0 < a 0 := Nat.mod_lt _ (by omega)
  refine ⟨?_, Nat.or_lt_two_pow (Nat.pow_lt_pow_right (by omega) e1) (Nat.pow_lt_pow_right (by omega) e2)⟩
  have : 2 ^ (x % a 0) ≤ 2 ^ (x % a 0) ||| 2 ^ (x / 6 % a 0) := Nat.left_le_or
  have : 0 < 2 ^ (x % a 0) := Nat.two_pow_pos _
  omega
def mHap (tf : Nat → Int32) (a : Fl) (x : Nat) : Fl :=
  if 3 < x % 6 then (if a 8 < 9999 then mPass tf a else a)
  else if a 1 = 0 ∨ a 0 = 0 then a
  else if x % 6 < 2 then (if okF a (nI (x % a 1)) then mFore a (x % a 1) (yAl x) (yF a x) (1 + x % 9) (x % 50) else a)
  else if x % 6 = 2 then (if okT a (nI (x % a 1)) (nI (x / 6 % a 0)) 0 then mTurn a (x % a 1) (x / 6 % a 0) else a)
  else if x % 5 = 0 ∧ okT a (nI (x % a 1)) (nI (x / 6 % a 0)) 1 then mTurn a (x % a 1) (x / 6 % a 0) else a
theorem JY.hap {tf : Nat → Int32} {a : Fl} {x : Nat} (h : JY tf a) : JY tf (mHap tf a x) := by
  unfold mHap
  split
  · split
    · exact h.pass (by assumption)
    · exact h
  · split
    · exact h
    · rename_i h6 hz
      have hp : x % a 1 < a 1 := Nat.mod_lt _ (by omega)
      have hf : x / 6 % a 0 < a 0 := Nat.mod_lt _ (by omega)
      split
      · split
        · rename_i hk
          have q := yF_b (a := a) (x := x) (by omega)
          exact h.fore hp (by unfold yAl; split <;> omega) q.1 q.2 (by omega) (by omega) hk.2.2
        · exact h
      · split
        · split
          · exact h.turn hp hf
          · exact h
        · split
          · exact h.turn hp hf
          · exact h
def yrs (tf : Nat → Int32) : Nat → Fl → Fl
  | 0, a => a
  | i + 1, a => mHap tf (up (yrs tf i a) 9 (nxD (yrs tf i a 9))) (yrs tf i a 9)
theorem jy_yrs {tf : Nat → Int32} {a : Fl} (h : JY tf a) : ∀ i, JY tf (yrs tf i a) := by
  intro i
  induction i with
  | zero => exact h
  | succ i ih => exact (ih.nx (Nat.mod_lt _ (by omega))).hap
def mYears (tf : Nat → Int32) (a : Fl) (x n : Int32) : Int32 × Fl := if inr x 0 9999 ∧ inr n 1 40 then (nI (yrs tf (nn n) (up (mKeep a) 9 (nn x * 2 + 191)) 8), yrs tf (nn n) (up (mKeep a) 9 (nn x * 2 + 191))) else (-1, a)

theorem r_happens {s : Ms} {h : Hp} {d x : Nat} (hr : RM s h) (hj : JY s.2.2.2.2.2.2 s.1) (hx : x < 30553) (hd : 7 ≤ d) : ∃ h1, Sp d mX9_happens [.ref 488, .int (nI x)] h none h1 ∧ RM (mHap s.2.2.2.2.2.2 s.1 x, s.2) h1 ∧ FM h h1 := by
  have hm := hr.m
  have v0 := hj.1.1.1
  have v1 := hj.1.1.2.1
  have v8 := hj.1.1.2.2.2.2.2.2.2.2.1
  unfold mHap
  by_cases h3 : 3 < x % 6
  · rw [if_pos h3]
    by_cases h9 : s.1 8 < 9999
    · rw [if_pos h9]
      obtain ⟨e, he⟩ := nI_any (pI h 488 24)
      have px : PX (pI h 497) s.2 s.1 1 (snap s.1) e h := ⟨hr.un.n.1, hr.n.2, he, rfl⟩
      have c3 : s.1 3 ≤ 4 := Nat.le_trans hj.1.1.2.2.2.1 hj.1.1.2.2.1
      obtain ⟨g, p1, p2, p3⟩ := r_pass (d := 6) (Or.inr rfl) hj.1.2.1 rfl v0 c3 hj.1.2.2.1 hj.1.2.2.2 (Nat.le_refl _) px
      refine ⟨g, ?_, p2.1.rm p2.2.1, p3⟩
      intro N S Q hN hS hQ
      have hN : pn h ≤ N := by rw [← p3.1.n]; exact hN
      have hS : ps h ≤ S := by rw [← p3.1.s]; exact hS
      refine z_iload_n dX9_happens_0 rfl rfl ?_
      refine z_bipush (v := 6) dX9_happens_1 (by decide) ?_
      refine z_irem dX9_happens_3 (by decide) ?_
      refine z_eqi (irem_n (a := x) (d := 6) (by omega) (by omega) (by omega)) ?_
      refine z_iconst (v := 3) dX9_happens_4 (by decide) ?_
      refine z_icmp_le dX9_happens_5 rfl (fun c => absurd c (fun q => absurd ((nI_leI (b := 3) (by omega) (by omega)).mp q) (by omega))) (fun _ => ?_)
      refine z_aload_n dX9_happens_8 rfl rfl ?_
      refine y_getR FX9_7 dX9_happens_9 rfl hm.o hm.f_a ?_
      refine z_bipush (v := 8) dX9_happens_12 (by decide) ?_
      refine y_ialN (8) dX9_happens_14 hm.A_a (Nat.le_of_ble_eq_true rfl) (rfl) (by omega) ?_
      refine z_eqi (show _ = nI (s.1 8) from hr.at (by omega) (by omega)) ?_
      refine z_sipush (v := 9999) dX9_happens_15 (by decide) ?_
      refine z_icmp_ge dX9_happens_18 rfl (fun c => absurd c (fun q => absurd ((nI_leI (a := 9999) (by omega) (by omega)).mp q) (by omega))) (fun _ => ?_)
      refine z_aload_n dX9_happens_21 rfl rfl ?_
      refine y_callV (as := []) CX9_pass LX9_394 IX9_pass VX9_pass ⟨rfl, Nat.le_of_ble_eq_true rfl⟩ dX9_happens_22 hm.o rfl (Nat.le_of_ble_eq_true rfl) (Nat.le_of_ble_eq_true rfl) (by omega) p1 rok_v (hg_ss p3.1 hN hS) ?_
      refine z_vret dX9_happens_25 ?_
      exact hQ
    · rw [if_neg h9]
      refine ⟨h, ?_, hr, FM.rf⟩
      intro N S Q hN hS hQ
      refine z_iload_n dX9_happens_0 rfl rfl ?_
      refine z_bipush (v := 6) dX9_happens_1 (by decide) ?_
      refine z_irem dX9_happens_3 (by decide) ?_
      refine z_eqi (irem_n (a := x) (d := 6) (by omega) (by omega) (by omega)) ?_
      refine z_iconst (v := 3) dX9_happens_4 (by decide) ?_
      refine z_icmp_le dX9_happens_5 rfl (fun c => absurd c (fun q => absurd ((nI_leI (b := 3) (by omega) (by omega)).mp q) (by omega))) (fun _ => ?_)
      refine z_aload_n dX9_happens_8 rfl rfl ?_
      refine y_getR FX9_7 dX9_happens_9 rfl hm.o hm.f_a ?_
      refine z_bipush (v := 8) dX9_happens_12 (by decide) ?_
      refine y_ialN (8) dX9_happens_14 hm.A_a (Nat.le_of_ble_eq_true rfl) (rfl) (by omega) ?_
      refine z_eqi (show _ = nI (s.1 8) from hr.at (by omega) (by omega)) ?_
      refine z_sipush (v := 9999) dX9_happens_15 (by decide) ?_
      refine z_icmp_ge dX9_happens_18 rfl (fun _ => ?_) (fun c => absurd ((nI_leI (a := 9999) (by omega) (by omega)).mpr (by omega)) c)
      refine z_vret dX9_happens_25 ?_
      exact hQ
  · rw [if_neg h3]
    by_cases hz : s.1 1 = 0 ∨ s.1 0 = 0
    · rw [if_pos hz]
      by_cases hz1 : s.1 1 = 0
      · skip
        refine ⟨h, ?_, hr, FM.rf⟩
        intro N S Q hN hS hQ
        refine z_iload_n dX9_happens_0 rfl rfl ?_
        refine z_bipush (v := 6) dX9_happens_1 (by decide) ?_
        refine z_irem dX9_happens_3 (by decide) ?_
        refine z_eqi (irem_n (a := x) (d := 6) (by omega) (by omega) (by omega)) ?_
        refine z_iconst (v := 3) dX9_happens_4 (by decide) ?_
        refine z_icmp_le dX9_happens_5 rfl (fun _ => ?_) (fun c => absurd ((nI_leI (b := 3) (by omega) (by omega)).mpr (by omega)) c)
        refine z_aload_n dX9_happens_26 rfl rfl ?_
        refine y_getR FX9_7 dX9_happens_27 rfl hm.o hm.f_a ?_
        refine z_iconst (v := 1) dX9_happens_30 (by decide) ?_
        refine y_ialN (1) dX9_happens_31 hm.A_a (Nat.le_of_ble_eq_true rfl) (rfl) (by omega) ?_
        refine z_eqi (show _ = nI (s.1 1) from hr.at (by omega) (by omega)) ?_
        refine z_if_eq dX9_happens_32 rfl (fun _ => ?_) (fun c => absurd (congrArg nI (show _ = 0 from by omega)) c)
        refine z_vret dX9_happens_44 ?_
        exact hQ
      · skip
        refine ⟨h, ?_, hr, FM.rf⟩
        intro N S Q hN hS hQ
        refine z_iload_n dX9_happens_0 rfl rfl ?_
        refine z_bipush (v := 6) dX9_happens_1 (by decide) ?_
        refine z_irem dX9_happens_3 (by decide) ?_
        refine z_eqi (irem_n (a := x) (d := 6) (by omega) (by omega) (by omega)) ?_
        refine z_iconst (v := 3) dX9_happens_4 (by decide) ?_
        refine z_icmp_le dX9_happens_5 rfl (fun _ => ?_) (fun c => absurd ((nI_leI (b := 3) (by omega) (by omega)).mpr (by omega)) c)
        refine z_aload_n dX9_happens_26 rfl rfl ?_
        refine y_getR FX9_7 dX9_happens_27 rfl hm.o hm.f_a ?_
        refine z_iconst (v := 1) dX9_happens_30 (by decide) ?_
        refine y_ialN (1) dX9_happens_31 hm.A_a (Nat.le_of_ble_eq_true rfl) (rfl) (by omega) ?_
        refine z_eqi (show _ = nI (s.1 1) from hr.at (by omega) (by omega)) ?_
        refine z_if_eq dX9_happens_32 rfl (fun c => absurd c (fun q => absurd ((nI_eq (b := 0) (by omega) (by omega)).mp q) (by omega))) (fun _ => ?_)
        refine z_aload_n dX9_happens_35 rfl rfl ?_
        refine y_getR FX9_7 dX9_happens_36 rfl hm.o hm.f_a ?_
        refine z_iconst (v := 0) dX9_happens_39 (by decide) ?_
        refine y_ialN (0) dX9_happens_40 hm.A_a (Nat.le_of_ble_eq_true rfl) (rfl) (by omega) ?_
        refine z_eqi (show _ = nI (s.1 0) from hr.at (by omega) (by omega)) ?_
        refine z_if_ne dX9_happens_41 rfl (fun c => absurd (congrArg nI (show _ = 0 by omega)) c) (fun _ => ?_)
        refine z_vret dX9_happens_44 ?_
        exact hQ
    · rw [if_neg hz]
      have z1 : s.1 1 ≠ 0 := by omega
      have z0 : s.1 0 ≠ 0 := by omega
      have b1 : x % s.1 1 < s.1 1 := Nat.mod_lt _ (by omega)
      have b0 : x % s.1 0 < s.1 0 := Nat.mod_lt _ (by omega)
      have b2 : x / 6 % s.1 0 < s.1 0 := Nat.mod_lt _ (by omega)
      by_cases h2 : x % 6 < 2
      · rw [if_pos h2]
        by_cases hk : okF s.1 (nI (x % s.1 1))
        · rw [if_pos hk]
          have hb := (hj.ip _ b1).1
          obtain ⟨g, q1, q2, q3⟩ := r_foreNow (d := 1) (p := x % s.1 1) (al := yAl x) (f := yF s.1 x) (dd := 1 + x % 9) (fee := x % 50) hr (by omega) hk.2.2 hb (by omega) (by unfold yAl; split <;> omega) (Nat.le_refl _)
          refine ⟨g, ?_, q2, q3⟩
          by_cases h4 : x % 4 = 0
          · have ya : yAl x = 1 := if_pos h4
            rw [ya] at q1
            intro N S Q hN hS hQ
            have hN : pn h ≤ N := by rw [← q3.1.n]; exact hN
            have hS : ps h ≤ S := by rw [← q3.1.s]; exact hS
            refine z_iload_n dX9_happens_0 rfl rfl ?_
            refine z_bipush (v := 6) dX9_happens_1 (by decide) ?_
            refine z_irem dX9_happens_3 (by decide) ?_
            refine z_eqi (irem_n (a := x) (d := 6) (by omega) (by omega) (by omega)) ?_
            refine z_iconst (v := 3) dX9_happens_4 (by decide) ?_
            refine z_icmp_le dX9_happens_5 rfl (fun _ => ?_) (fun c => absurd ((nI_leI (b := 3) (by omega) (by omega)).mpr (by omega)) c)
            refine z_aload_n dX9_happens_26 rfl rfl ?_
            refine y_getR FX9_7 dX9_happens_27 rfl hm.o hm.f_a ?_
            refine z_iconst (v := 1) dX9_happens_30 (by decide) ?_
            refine y_ialN (1) dX9_happens_31 hm.A_a (Nat.le_of_ble_eq_true rfl) (rfl) (by omega) ?_
            refine z_eqi (show _ = nI (s.1 1) from hr.at (by omega) (by omega)) ?_
            refine z_if_eq dX9_happens_32 rfl (fun c => absurd c (fun q => absurd ((nI_eq (b := 0) (by omega) (by omega)).mp q) (by omega))) (fun _ => ?_)
            refine z_aload_n dX9_happens_35 rfl rfl ?_
            refine y_getR FX9_7 dX9_happens_36 rfl hm.o hm.f_a ?_
            refine z_iconst (v := 0) dX9_happens_39 (by decide) ?_
            refine y_ialN (0) dX9_happens_40 hm.A_a (Nat.le_of_ble_eq_true rfl) (rfl) (by omega) ?_
            refine z_eqi (show _ = nI (s.1 0) from hr.at (by omega) (by omega)) ?_
            refine z_if_ne dX9_happens_41 rfl (fun _ => ?_) (fun c => absurd c (fun q => absurd ((nI_eq (b := 0) (by omega) (by omega)).mp q) (by omega)))
            refine z_iload_n dX9_happens_45 rfl rfl ?_
            refine z_aload_n dX9_happens_46 rfl rfl ?_
            refine y_getR FX9_7 dX9_happens_47 rfl hm.o hm.f_a ?_
            refine z_iconst (v := 1) dX9_happens_50 (by decide) ?_
            refine y_ialN (1) dX9_happens_51 hm.A_a (Nat.le_of_ble_eq_true rfl) (rfl) (by omega) ?_
            refine z_eqi (show _ = nI (s.1 1) from hr.at (by omega) (by omega)) ?_
            refine z_irem dX9_happens_52 (fun q => absurd ((nI_eq (b := 0) (by omega) (by omega)).mp q) (by omega)) ?_
            refine z_eqi (irem_n (a := x) (d := s.1 1) (by omega) (by omega) (by omega)) ?_
            refine z_istore_n dX9_happens_53 rfl (Nat.le_of_ble_eq_true rfl) ?_
            refine z_iload_n dX9_happens_54 rfl rfl ?_
            refine z_bipush (v := 6) dX9_happens_55 (by decide) ?_
            refine z_idiv dX9_happens_57 (by decide) ?_
            refine z_eqi (pk_div (a := x) (d := 6) (by omega) (by omega) (by omega)) ?_
            refine z_aload_n dX9_happens_58 rfl rfl ?_
            refine y_getR FX9_7 dX9_happens_59 rfl hm.o hm.f_a ?_
            refine z_iconst (v := 0) dX9_happens_62 (by decide) ?_
            refine y_ialN (0) dX9_happens_63 hm.A_a (Nat.le_of_ble_eq_true rfl) (rfl) (by omega) ?_
            refine z_eqi (show _ = nI (s.1 0) from hr.at (by omega) (by omega)) ?_
            refine z_irem dX9_happens_64 (fun q => absurd ((nI_eq (b := 0) (by omega) (by omega)).mp q) (by omega)) ?_
            refine z_eqi (irem_n (a := x / 6) (d := s.1 0) (by omega) (by omega) (by omega)) ?_
            refine z_istore_n dX9_happens_65 rfl (Nat.le_of_ble_eq_true rfl) ?_
            refine z_iload_n dX9_happens_66 rfl rfl ?_
            refine z_bipush (v := 6) dX9_happens_67 (by decide) ?_
            refine z_irem dX9_happens_69 (by decide) ?_
            refine z_eqi (irem_n (a := x) (d := 6) (by omega) (by omega) (by omega)) ?_
            refine z_iconst (v := 2) dX9_happens_70 (by decide) ?_
            refine z_icmp_ge dX9_happens_71 rfl (fun c => absurd c (fun q => absurd ((nI_leI (a := 2) (by omega) (by omega)).mp q) (by omega))) (fun _ => ?_)
            refine z_aload_n dX9_happens_74 rfl rfl ?_
            refine z_iload_n dX9_happens_75 rfl rfl ?_
            refine y_callV (as := [_]) CX9_canForetell LX9_368 IX9_canForetell VX9_canForetell ⟨rfl, Nat.le_of_ble_eq_true rfl⟩ dX9_happens_76 hm.o rfl (Nat.le_of_ble_eq_true rfl) (Nat.le_of_ble_eq_true rfl) (by omega) (r_canForetell (d := 2) hr hj.1.1 hj.ip _ (Nat.le_refl _)) (rok_z bI_01) ⟨Nat.le_refl _, Nat.le_refl _, hN, hS⟩ ?_
            refine z_if_eq dX9_happens_79 rfl (fun c => absurd c (bI_ne0.mpr hk)) (fun _ => ?_)
            refine z_aload_n dX9_happens_82 rfl rfl ?_
            refine z_iload_n dX9_happens_83 rfl rfl ?_
            refine z_iload_n dX9_happens_84 rfl rfl ?_
            refine z_iconst (v := 4) dX9_happens_85 (by decide) ?_
            refine z_irem dX9_happens_86 (by decide) ?_
            refine z_eqi (irem_n (a := x) (d := 4) (by omega) (by omega) (by omega)) ?_
            refine z_if_ne dX9_happens_87 rfl (fun c => absurd (congrArg nI (show _ = 0 by omega)) c) (fun _ => ?_)
            refine z_iconst (v := 1) dX9_happens_90 (by decide) ?_
            refine z_goto dX9_happens_91 rfl ?_
            refine z_iconst (v := 1) dX9_happens_95 (by decide) ?_
            refine z_iload_n dX9_happens_96 rfl rfl ?_
            refine z_aload_n dX9_happens_97 rfl rfl ?_
            refine y_getR FX9_7 dX9_happens_98 rfl hm.o hm.f_a ?_
            refine z_iconst (v := 0) dX9_happens_101 (by decide) ?_
            refine y_ialN (0) dX9_happens_102 hm.A_a (Nat.le_of_ble_eq_true rfl) (rfl) (by omega) ?_
            refine z_eqi (show _ = nI (s.1 0) from hr.at (by omega) (by omega)) ?_
            refine z_irem dX9_happens_103 (fun q => absurd ((nI_eq (b := 0) (by omega) (by omega)).mp q) (by omega)) ?_
            refine z_eqi (irem_n (a := x) (d := s.1 0) (by omega) (by omega) (by omega)) ?_
            refine z_ishl dX9_happens_104 ?_
            refine z_eqi (nI_bit (show x % s.1 0 < 31 by omega)) ?_
            refine z_iconst (v := 1) dX9_happens_105 (by decide) ?_
            refine z_iload_n dX9_happens_106 rfl rfl ?_
            refine z_ishl dX9_happens_107 ?_
            refine z_eqi (nI_bit (show x / 6 % s.1 0 < 31 by omega)) ?_
            refine z_ior dX9_happens_108 ?_
            refine z_eqi (show _ = nI (yF s.1 x) from nI_or _ _) ?_
            refine z_iconst (v := 1) dX9_happens_109 (by decide) ?_
            refine z_iload_n dX9_happens_110 rfl rfl ?_
            refine z_bipush (v := 9) dX9_happens_111 (by decide) ?_
            refine z_irem dX9_happens_113 (by decide) ?_
            refine z_eqi (irem_n (a := x) (d := 9) (by omega) (by omega) (by omega)) ?_
            refine z_iadd dX9_happens_114 ?_
            refine z_eqi (nI_add 1 (x % 9)) ?_
            refine z_iload_n dX9_happens_115 rfl rfl ?_
            refine z_bipush (v := 50) dX9_happens_116 (by decide) ?_
            refine z_irem dX9_happens_118 (by decide) ?_
            refine z_eqi (irem_n (a := x) (d := 50) (by omega) (by omega) (by omega)) ?_
            refine y_callV (as := [_, _, _, _, _]) CX9_foretellNow LX9_377 IX9_foretellNow VX9_foretellNow ⟨rfl, Nat.le_of_ble_eq_true rfl⟩ dX9_happens_119 hm.o rfl (Nat.le_of_ble_eq_true rfl) (Nat.le_of_ble_eq_true rfl) (by omega) q1 rok_v (hg_ss q3.1 hN hS) ?_
            refine z_goto dX9_happens_122 rfl ?_
            refine z_vret dX9_happens_174 ?_
            exact hQ
          · have ya : yAl x = 0 := if_neg h4
            rw [ya] at q1
            intro N S Q hN hS hQ
            have hN : pn h ≤ N := by rw [← q3.1.n]; exact hN
            have hS : ps h ≤ S := by rw [← q3.1.s]; exact hS
            refine z_iload_n dX9_happens_0 rfl rfl ?_
            refine z_bipush (v := 6) dX9_happens_1 (by decide) ?_
            refine z_irem dX9_happens_3 (by decide) ?_
            refine z_eqi (irem_n (a := x) (d := 6) (by omega) (by omega) (by omega)) ?_
            refine z_iconst (v := 3) dX9_happens_4 (by decide) ?_
            refine z_icmp_le dX9_happens_5 rfl (fun _ => ?_) (fun c => absurd ((nI_leI (b := 3) (by omega) (by omega)).mpr (by omega)) c)
            refine z_aload_n dX9_happens_26 rfl rfl ?_
            refine y_getR FX9_7 dX9_happens_27 rfl hm.o hm.f_a ?_
            refine z_iconst (v := 1) dX9_happens_30 (by decide) ?_
            refine y_ialN (1) dX9_happens_31 hm.A_a (Nat.le_of_ble_eq_true rfl) (rfl) (by omega) ?_
            refine z_eqi (show _ = nI (s.1 1) from hr.at (by omega) (by omega)) ?_
            refine z_if_eq dX9_happens_32 rfl (fun c => absurd c (fun q => absurd ((nI_eq (b := 0) (by omega) (by omega)).mp q) (by omega))) (fun _ => ?_)
            refine z_aload_n dX9_happens_35 rfl rfl ?_
            refine y_getR FX9_7 dX9_happens_36 rfl hm.o hm.f_a ?_
            refine z_iconst (v := 0) dX9_happens_39 (by decide) ?_
            refine y_ialN (0) dX9_happens_40 hm.A_a (Nat.le_of_ble_eq_true rfl) (rfl) (by omega) ?_
            refine z_eqi (show _ = nI (s.1 0) from hr.at (by omega) (by omega)) ?_
            refine z_if_ne dX9_happens_41 rfl (fun _ => ?_) (fun c => absurd c (fun q => absurd ((nI_eq (b := 0) (by omega) (by omega)).mp q) (by omega)))
            refine z_iload_n dX9_happens_45 rfl rfl ?_
            refine z_aload_n dX9_happens_46 rfl rfl ?_
            refine y_getR FX9_7 dX9_happens_47 rfl hm.o hm.f_a ?_
            refine z_iconst (v := 1) dX9_happens_50 (by decide) ?_
            refine y_ialN (1) dX9_happens_51 hm.A_a (Nat.le_of_ble_eq_true rfl) (rfl) (by omega) ?_
            refine z_eqi (show _ = nI (s.1 1) from hr.at (by omega) (by omega)) ?_
            refine z_irem dX9_happens_52 (fun q => absurd ((nI_eq (b := 0) (by omega) (by omega)).mp q) (by omega)) ?_
            refine z_eqi (irem_n (a := x) (d := s.1 1) (by omega) (by omega) (by omega)) ?_
            refine z_istore_n dX9_happens_53 rfl (Nat.le_of_ble_eq_true rfl) ?_
            refine z_iload_n dX9_happens_54 rfl rfl ?_
            refine z_bipush (v := 6) dX9_happens_55 (by decide) ?_
            refine z_idiv dX9_happens_57 (by decide) ?_
            refine z_eqi (pk_div (a := x) (d := 6) (by omega) (by omega) (by omega)) ?_
            refine z_aload_n dX9_happens_58 rfl rfl ?_
            refine y_getR FX9_7 dX9_happens_59 rfl hm.o hm.f_a ?_
            refine z_iconst (v := 0) dX9_happens_62 (by decide) ?_
            refine y_ialN (0) dX9_happens_63 hm.A_a (Nat.le_of_ble_eq_true rfl) (rfl) (by omega) ?_
            refine z_eqi (show _ = nI (s.1 0) from hr.at (by omega) (by omega)) ?_
            refine z_irem dX9_happens_64 (fun q => absurd ((nI_eq (b := 0) (by omega) (by omega)).mp q) (by omega)) ?_
            refine z_eqi (irem_n (a := x / 6) (d := s.1 0) (by omega) (by omega) (by omega)) ?_
            refine z_istore_n dX9_happens_65 rfl (Nat.le_of_ble_eq_true rfl) ?_
            refine z_iload_n dX9_happens_66 rfl rfl ?_
            refine z_bipush (v := 6) dX9_happens_67 (by decide) ?_
            refine z_irem dX9_happens_69 (by decide) ?_
            refine z_eqi (irem_n (a := x) (d := 6) (by omega) (by omega) (by omega)) ?_
            refine z_iconst (v := 2) dX9_happens_70 (by decide) ?_
            refine z_icmp_ge dX9_happens_71 rfl (fun c => absurd c (fun q => absurd ((nI_leI (a := 2) (by omega) (by omega)).mp q) (by omega))) (fun _ => ?_)
            refine z_aload_n dX9_happens_74 rfl rfl ?_
            refine z_iload_n dX9_happens_75 rfl rfl ?_
            refine y_callV (as := [_]) CX9_canForetell LX9_368 IX9_canForetell VX9_canForetell ⟨rfl, Nat.le_of_ble_eq_true rfl⟩ dX9_happens_76 hm.o rfl (Nat.le_of_ble_eq_true rfl) (Nat.le_of_ble_eq_true rfl) (by omega) (r_canForetell (d := 2) hr hj.1.1 hj.ip _ (Nat.le_refl _)) (rok_z bI_01) ⟨Nat.le_refl _, Nat.le_refl _, hN, hS⟩ ?_
            refine z_if_eq dX9_happens_79 rfl (fun c => absurd c (bI_ne0.mpr hk)) (fun _ => ?_)
            refine z_aload_n dX9_happens_82 rfl rfl ?_
            refine z_iload_n dX9_happens_83 rfl rfl ?_
            refine z_iload_n dX9_happens_84 rfl rfl ?_
            refine z_iconst (v := 4) dX9_happens_85 (by decide) ?_
            refine z_irem dX9_happens_86 (by decide) ?_
            refine z_eqi (irem_n (a := x) (d := 4) (by omega) (by omega) (by omega)) ?_
            refine z_if_ne dX9_happens_87 rfl (fun _ => ?_) (fun c => absurd c (fun q => absurd ((nI_eq (b := 0) (by omega) (by omega)).mp q) (by omega)))
            refine z_iconst (v := 0) dX9_happens_94 (by decide) ?_
            refine z_iconst (v := 1) dX9_happens_95 (by decide) ?_
            refine z_iload_n dX9_happens_96 rfl rfl ?_
            refine z_aload_n dX9_happens_97 rfl rfl ?_
            refine y_getR FX9_7 dX9_happens_98 rfl hm.o hm.f_a ?_
            refine z_iconst (v := 0) dX9_happens_101 (by decide) ?_
            refine y_ialN (0) dX9_happens_102 hm.A_a (Nat.le_of_ble_eq_true rfl) (rfl) (by omega) ?_
            refine z_eqi (show _ = nI (s.1 0) from hr.at (by omega) (by omega)) ?_
            refine z_irem dX9_happens_103 (fun q => absurd ((nI_eq (b := 0) (by omega) (by omega)).mp q) (by omega)) ?_
            refine z_eqi (irem_n (a := x) (d := s.1 0) (by omega) (by omega) (by omega)) ?_
            refine z_ishl dX9_happens_104 ?_
            refine z_eqi (nI_bit (show x % s.1 0 < 31 by omega)) ?_
            refine z_iconst (v := 1) dX9_happens_105 (by decide) ?_
            refine z_iload_n dX9_happens_106 rfl rfl ?_
            refine z_ishl dX9_happens_107 ?_
            refine z_eqi (nI_bit (show x / 6 % s.1 0 < 31 by omega)) ?_
            refine z_ior dX9_happens_108 ?_
            refine z_eqi (show _ = nI (yF s.1 x) from nI_or _ _) ?_
            refine z_iconst (v := 1) dX9_happens_109 (by decide) ?_
            refine z_iload_n dX9_happens_110 rfl rfl ?_
            refine z_bipush (v := 9) dX9_happens_111 (by decide) ?_
            refine z_irem dX9_happens_113 (by decide) ?_
            refine z_eqi (irem_n (a := x) (d := 9) (by omega) (by omega) (by omega)) ?_
            refine z_iadd dX9_happens_114 ?_
            refine z_eqi (nI_add 1 (x % 9)) ?_
            refine z_iload_n dX9_happens_115 rfl rfl ?_
            refine z_bipush (v := 50) dX9_happens_116 (by decide) ?_
            refine z_irem dX9_happens_118 (by decide) ?_
            refine z_eqi (irem_n (a := x) (d := 50) (by omega) (by omega) (by omega)) ?_
            refine y_callV (as := [_, _, _, _, _]) CX9_foretellNow LX9_377 IX9_foretellNow VX9_foretellNow ⟨rfl, Nat.le_of_ble_eq_true rfl⟩ dX9_happens_119 hm.o rfl (Nat.le_of_ble_eq_true rfl) (Nat.le_of_ble_eq_true rfl) (by omega) q1 rok_v (hg_ss q3.1 hN hS) ?_
            refine z_goto dX9_happens_122 rfl ?_
            refine z_vret dX9_happens_174 ?_
            exact hQ
        · rw [if_neg hk]
          refine ⟨h, ?_, hr, FM.rf⟩
          intro N S Q hN hS hQ
          refine z_iload_n dX9_happens_0 rfl rfl ?_
          refine z_bipush (v := 6) dX9_happens_1 (by decide) ?_
          refine z_irem dX9_happens_3 (by decide) ?_
          refine z_eqi (irem_n (a := x) (d := 6) (by omega) (by omega) (by omega)) ?_
          refine z_iconst (v := 3) dX9_happens_4 (by decide) ?_
          refine z_icmp_le dX9_happens_5 rfl (fun _ => ?_) (fun c => absurd ((nI_leI (b := 3) (by omega) (by omega)).mpr (by omega)) c)
          refine z_aload_n dX9_happens_26 rfl rfl ?_
          refine y_getR FX9_7 dX9_happens_27 rfl hm.o hm.f_a ?_
          refine z_iconst (v := 1) dX9_happens_30 (by decide) ?_
          refine y_ialN (1) dX9_happens_31 hm.A_a (Nat.le_of_ble_eq_true rfl) (rfl) (by omega) ?_
          refine z_eqi (show _ = nI (s.1 1) from hr.at (by omega) (by omega)) ?_
          refine z_if_eq dX9_happens_32 rfl (fun c => absurd c (fun q => absurd ((nI_eq (b := 0) (by omega) (by omega)).mp q) (by omega))) (fun _ => ?_)
          refine z_aload_n dX9_happens_35 rfl rfl ?_
          refine y_getR FX9_7 dX9_happens_36 rfl hm.o hm.f_a ?_
          refine z_iconst (v := 0) dX9_happens_39 (by decide) ?_
          refine y_ialN (0) dX9_happens_40 hm.A_a (Nat.le_of_ble_eq_true rfl) (rfl) (by omega) ?_
          refine z_eqi (show _ = nI (s.1 0) from hr.at (by omega) (by omega)) ?_
          refine z_if_ne dX9_happens_41 rfl (fun _ => ?_) (fun c => absurd c (fun q => absurd ((nI_eq (b := 0) (by omega) (by omega)).mp q) (by omega)))
          refine z_iload_n dX9_happens_45 rfl rfl ?_
          refine z_aload_n dX9_happens_46 rfl rfl ?_
          refine y_getR FX9_7 dX9_happens_47 rfl hm.o hm.f_a ?_
          refine z_iconst (v := 1) dX9_happens_50 (by decide) ?_
          refine y_ialN (1) dX9_happens_51 hm.A_a (Nat.le_of_ble_eq_true rfl) (rfl) (by omega) ?_
          refine z_eqi (show _ = nI (s.1 1) from hr.at (by omega) (by omega)) ?_
          refine z_irem dX9_happens_52 (fun q => absurd ((nI_eq (b := 0) (by omega) (by omega)).mp q) (by omega)) ?_
          refine z_eqi (irem_n (a := x) (d := s.1 1) (by omega) (by omega) (by omega)) ?_
          refine z_istore_n dX9_happens_53 rfl (Nat.le_of_ble_eq_true rfl) ?_
          refine z_iload_n dX9_happens_54 rfl rfl ?_
          refine z_bipush (v := 6) dX9_happens_55 (by decide) ?_
          refine z_idiv dX9_happens_57 (by decide) ?_
          refine z_eqi (pk_div (a := x) (d := 6) (by omega) (by omega) (by omega)) ?_
          refine z_aload_n dX9_happens_58 rfl rfl ?_
          refine y_getR FX9_7 dX9_happens_59 rfl hm.o hm.f_a ?_
          refine z_iconst (v := 0) dX9_happens_62 (by decide) ?_
          refine y_ialN (0) dX9_happens_63 hm.A_a (Nat.le_of_ble_eq_true rfl) (rfl) (by omega) ?_
          refine z_eqi (show _ = nI (s.1 0) from hr.at (by omega) (by omega)) ?_
          refine z_irem dX9_happens_64 (fun q => absurd ((nI_eq (b := 0) (by omega) (by omega)).mp q) (by omega)) ?_
          refine z_eqi (irem_n (a := x / 6) (d := s.1 0) (by omega) (by omega) (by omega)) ?_
          refine z_istore_n dX9_happens_65 rfl (Nat.le_of_ble_eq_true rfl) ?_
          refine z_iload_n dX9_happens_66 rfl rfl ?_
          refine z_bipush (v := 6) dX9_happens_67 (by decide) ?_
          refine z_irem dX9_happens_69 (by decide) ?_
          refine z_eqi (irem_n (a := x) (d := 6) (by omega) (by omega) (by omega)) ?_
          refine z_iconst (v := 2) dX9_happens_70 (by decide) ?_
          refine z_icmp_ge dX9_happens_71 rfl (fun c => absurd c (fun q => absurd ((nI_leI (a := 2) (by omega) (by omega)).mp q) (by omega))) (fun _ => ?_)
          refine z_aload_n dX9_happens_74 rfl rfl ?_
          refine z_iload_n dX9_happens_75 rfl rfl ?_
          refine y_callV (as := [_]) CX9_canForetell LX9_368 IX9_canForetell VX9_canForetell ⟨rfl, Nat.le_of_ble_eq_true rfl⟩ dX9_happens_76 hm.o rfl (Nat.le_of_ble_eq_true rfl) (Nat.le_of_ble_eq_true rfl) (by omega) (r_canForetell (d := 2) hr hj.1.1 hj.ip _ (Nat.le_refl _)) (rok_z bI_01) ⟨Nat.le_refl _, Nat.le_refl _, hN, hS⟩ ?_
          refine z_if_eq dX9_happens_79 rfl (fun _ => ?_) (fun c => absurd (bI_eq0.mpr hk) c)
          refine z_vret dX9_happens_174 ?_
          exact hQ
      · rw [if_neg h2]
        by_cases h22 : x % 6 = 2
        · rw [if_pos h22]
          by_cases hk : okT s.1 (nI (x % s.1 1)) (nI (x / 6 % s.1 0)) 0
          · rw [if_pos hk]
            obtain ⟨hk1, hk2, hk3, hk4⟩ := id hk
            rw [nn_nI (by omega), nn_nI (by omega)] at hk4
            obtain ⟨g, q1, q2, q3⟩ := r_turnNow (d := 1) (j := x % s.1 1) (k := x / 6 % s.1 0) hr (by omega) (by omega) hk4 (Nat.le_refl _)
            refine ⟨g, ?_, q2, q3⟩
            intro N S Q hN hS hQ
            have hN : pn h ≤ N := by rw [← q3.1.n]; exact hN
            have hS : ps h ≤ S := by rw [← q3.1.s]; exact hS
            refine z_iload_n dX9_happens_0 rfl rfl ?_
            refine z_bipush (v := 6) dX9_happens_1 (by decide) ?_
            refine z_irem dX9_happens_3 (by decide) ?_
            refine z_eqi (irem_n (a := x) (d := 6) (by omega) (by omega) (by omega)) ?_
            refine z_iconst (v := 3) dX9_happens_4 (by decide) ?_
            refine z_icmp_le dX9_happens_5 rfl (fun _ => ?_) (fun c => absurd ((nI_leI (b := 3) (by omega) (by omega)).mpr (by omega)) c)
            refine z_aload_n dX9_happens_26 rfl rfl ?_
            refine y_getR FX9_7 dX9_happens_27 rfl hm.o hm.f_a ?_
            refine z_iconst (v := 1) dX9_happens_30 (by decide) ?_
            refine y_ialN (1) dX9_happens_31 hm.A_a (Nat.le_of_ble_eq_true rfl) (rfl) (by omega) ?_
            refine z_eqi (show _ = nI (s.1 1) from hr.at (by omega) (by omega)) ?_
            refine z_if_eq dX9_happens_32 rfl (fun c => absurd c (fun q => absurd ((nI_eq (b := 0) (by omega) (by omega)).mp q) (by omega))) (fun _ => ?_)
            refine z_aload_n dX9_happens_35 rfl rfl ?_
            refine y_getR FX9_7 dX9_happens_36 rfl hm.o hm.f_a ?_
            refine z_iconst (v := 0) dX9_happens_39 (by decide) ?_
            refine y_ialN (0) dX9_happens_40 hm.A_a (Nat.le_of_ble_eq_true rfl) (rfl) (by omega) ?_
            refine z_eqi (show _ = nI (s.1 0) from hr.at (by omega) (by omega)) ?_
            refine z_if_ne dX9_happens_41 rfl (fun _ => ?_) (fun c => absurd c (fun q => absurd ((nI_eq (b := 0) (by omega) (by omega)).mp q) (by omega)))
            refine z_iload_n dX9_happens_45 rfl rfl ?_
            refine z_aload_n dX9_happens_46 rfl rfl ?_
            refine y_getR FX9_7 dX9_happens_47 rfl hm.o hm.f_a ?_
            refine z_iconst (v := 1) dX9_happens_50 (by decide) ?_
            refine y_ialN (1) dX9_happens_51 hm.A_a (Nat.le_of_ble_eq_true rfl) (rfl) (by omega) ?_
            refine z_eqi (show _ = nI (s.1 1) from hr.at (by omega) (by omega)) ?_
            refine z_irem dX9_happens_52 (fun q => absurd ((nI_eq (b := 0) (by omega) (by omega)).mp q) (by omega)) ?_
            refine z_eqi (irem_n (a := x) (d := s.1 1) (by omega) (by omega) (by omega)) ?_
            refine z_istore_n dX9_happens_53 rfl (Nat.le_of_ble_eq_true rfl) ?_
            refine z_iload_n dX9_happens_54 rfl rfl ?_
            refine z_bipush (v := 6) dX9_happens_55 (by decide) ?_
            refine z_idiv dX9_happens_57 (by decide) ?_
            refine z_eqi (pk_div (a := x) (d := 6) (by omega) (by omega) (by omega)) ?_
            refine z_aload_n dX9_happens_58 rfl rfl ?_
            refine y_getR FX9_7 dX9_happens_59 rfl hm.o hm.f_a ?_
            refine z_iconst (v := 0) dX9_happens_62 (by decide) ?_
            refine y_ialN (0) dX9_happens_63 hm.A_a (Nat.le_of_ble_eq_true rfl) (rfl) (by omega) ?_
            refine z_eqi (show _ = nI (s.1 0) from hr.at (by omega) (by omega)) ?_
            refine z_irem dX9_happens_64 (fun q => absurd ((nI_eq (b := 0) (by omega) (by omega)).mp q) (by omega)) ?_
            refine z_eqi (irem_n (a := x / 6) (d := s.1 0) (by omega) (by omega) (by omega)) ?_
            refine z_istore_n dX9_happens_65 rfl (Nat.le_of_ble_eq_true rfl) ?_
            refine z_iload_n dX9_happens_66 rfl rfl ?_
            refine z_bipush (v := 6) dX9_happens_67 (by decide) ?_
            refine z_irem dX9_happens_69 (by decide) ?_
            refine z_eqi (irem_n (a := x) (d := 6) (by omega) (by omega) (by omega)) ?_
            refine z_iconst (v := 2) dX9_happens_70 (by decide) ?_
            refine z_icmp_ge dX9_happens_71 rfl (fun _ => ?_) (fun c => absurd ((nI_leI (a := 2) (by omega) (by omega)).mpr (by omega)) c)
            refine z_iload_n dX9_happens_125 rfl rfl ?_
            refine z_bipush (v := 6) dX9_happens_126 (by decide) ?_
            refine z_irem dX9_happens_128 (by decide) ?_
            refine z_eqi (irem_n (a := x) (d := 6) (by omega) (by omega) (by omega)) ?_
            refine z_iconst (v := 2) dX9_happens_129 (by decide) ?_
            refine z_icmp_ne dX9_happens_130 rfl (fun c => absurd (congrArg nI (show _ = 2 by omega)) c) (fun _ => ?_)
            refine z_aload_n dX9_happens_133 rfl rfl ?_
            refine z_iload_n dX9_happens_134 rfl rfl ?_
            refine z_iload_n dX9_happens_135 rfl rfl ?_
            refine z_iconst (v := 0) dX9_happens_136 (by decide) ?_
            refine y_callV (as := [_, _, _]) CX9_canTurn LX9_384 IX9_canTurn VX9_canTurn ⟨rfl, Nat.le_of_ble_eq_true rfl⟩ dX9_happens_137 hm.o rfl (Nat.le_of_ble_eq_true rfl) (Nat.le_of_ble_eq_true rfl) (by omega) (r_canTurn (so := 0) (d := 2) hr hj.1.1 hj.ip hj.1.2.2.1 _ _ (Or.inl rfl) (Nat.le_refl _)) (rok_z bI_01) ⟨Nat.le_refl _, Nat.le_refl _, hN, hS⟩ ?_
            refine z_if_eq dX9_happens_140 rfl (fun c => absurd c (bI_ne0.mpr hk)) (fun _ => ?_)
            refine z_aload_n dX9_happens_143 rfl rfl ?_
            refine z_iload_n dX9_happens_144 rfl rfl ?_
            refine z_iload_n dX9_happens_145 rfl rfl ?_
            refine y_callV (as := [_, _]) CX9_turnNow LX9_388 IX9_turnNow VX9_turnNow ⟨rfl, Nat.le_of_ble_eq_true rfl⟩ dX9_happens_146 hm.o rfl (Nat.le_of_ble_eq_true rfl) (Nat.le_of_ble_eq_true rfl) (by omega) q1 rok_v (hg_ss q3.1 hN hS) ?_
            refine z_goto dX9_happens_149 rfl ?_
            refine z_vret dX9_happens_174 ?_
            exact hQ
          · rw [if_neg hk]
            refine ⟨h, ?_, hr, FM.rf⟩
            intro N S Q hN hS hQ
            refine z_iload_n dX9_happens_0 rfl rfl ?_
            refine z_bipush (v := 6) dX9_happens_1 (by decide) ?_
            refine z_irem dX9_happens_3 (by decide) ?_
            refine z_eqi (irem_n (a := x) (d := 6) (by omega) (by omega) (by omega)) ?_
            refine z_iconst (v := 3) dX9_happens_4 (by decide) ?_
            refine z_icmp_le dX9_happens_5 rfl (fun _ => ?_) (fun c => absurd ((nI_leI (b := 3) (by omega) (by omega)).mpr (by omega)) c)
            refine z_aload_n dX9_happens_26 rfl rfl ?_
            refine y_getR FX9_7 dX9_happens_27 rfl hm.o hm.f_a ?_
            refine z_iconst (v := 1) dX9_happens_30 (by decide) ?_
            refine y_ialN (1) dX9_happens_31 hm.A_a (Nat.le_of_ble_eq_true rfl) (rfl) (by omega) ?_
            refine z_eqi (show _ = nI (s.1 1) from hr.at (by omega) (by omega)) ?_
            refine z_if_eq dX9_happens_32 rfl (fun c => absurd c (fun q => absurd ((nI_eq (b := 0) (by omega) (by omega)).mp q) (by omega))) (fun _ => ?_)
            refine z_aload_n dX9_happens_35 rfl rfl ?_
            refine y_getR FX9_7 dX9_happens_36 rfl hm.o hm.f_a ?_
            refine z_iconst (v := 0) dX9_happens_39 (by decide) ?_
            refine y_ialN (0) dX9_happens_40 hm.A_a (Nat.le_of_ble_eq_true rfl) (rfl) (by omega) ?_
            refine z_eqi (show _ = nI (s.1 0) from hr.at (by omega) (by omega)) ?_
            refine z_if_ne dX9_happens_41 rfl (fun _ => ?_) (fun c => absurd c (fun q => absurd ((nI_eq (b := 0) (by omega) (by omega)).mp q) (by omega)))
            refine z_iload_n dX9_happens_45 rfl rfl ?_
            refine z_aload_n dX9_happens_46 rfl rfl ?_
            refine y_getR FX9_7 dX9_happens_47 rfl hm.o hm.f_a ?_
            refine z_iconst (v := 1) dX9_happens_50 (by decide) ?_
            refine y_ialN (1) dX9_happens_51 hm.A_a (Nat.le_of_ble_eq_true rfl) (rfl) (by omega) ?_
            refine z_eqi (show _ = nI (s.1 1) from hr.at (by omega) (by omega)) ?_
            refine z_irem dX9_happens_52 (fun q => absurd ((nI_eq (b := 0) (by omega) (by omega)).mp q) (by omega)) ?_
            refine z_eqi (irem_n (a := x) (d := s.1 1) (by omega) (by omega) (by omega)) ?_
            refine z_istore_n dX9_happens_53 rfl (Nat.le_of_ble_eq_true rfl) ?_
            refine z_iload_n dX9_happens_54 rfl rfl ?_
            refine z_bipush (v := 6) dX9_happens_55 (by decide) ?_
            refine z_idiv dX9_happens_57 (by decide) ?_
            refine z_eqi (pk_div (a := x) (d := 6) (by omega) (by omega) (by omega)) ?_
            refine z_aload_n dX9_happens_58 rfl rfl ?_
            refine y_getR FX9_7 dX9_happens_59 rfl hm.o hm.f_a ?_
            refine z_iconst (v := 0) dX9_happens_62 (by decide) ?_
            refine y_ialN (0) dX9_happens_63 hm.A_a (Nat.le_of_ble_eq_true rfl) (rfl) (by omega) ?_
            refine z_eqi (show _ = nI (s.1 0) from hr.at (by omega) (by omega)) ?_
            refine z_irem dX9_happens_64 (fun q => absurd ((nI_eq (b := 0) (by omega) (by omega)).mp q) (by omega)) ?_
            refine z_eqi (irem_n (a := x / 6) (d := s.1 0) (by omega) (by omega) (by omega)) ?_
            refine z_istore_n dX9_happens_65 rfl (Nat.le_of_ble_eq_true rfl) ?_
            refine z_iload_n dX9_happens_66 rfl rfl ?_
            refine z_bipush (v := 6) dX9_happens_67 (by decide) ?_
            refine z_irem dX9_happens_69 (by decide) ?_
            refine z_eqi (irem_n (a := x) (d := 6) (by omega) (by omega) (by omega)) ?_
            refine z_iconst (v := 2) dX9_happens_70 (by decide) ?_
            refine z_icmp_ge dX9_happens_71 rfl (fun _ => ?_) (fun c => absurd ((nI_leI (a := 2) (by omega) (by omega)).mpr (by omega)) c)
            refine z_iload_n dX9_happens_125 rfl rfl ?_
            refine z_bipush (v := 6) dX9_happens_126 (by decide) ?_
            refine z_irem dX9_happens_128 (by decide) ?_
            refine z_eqi (irem_n (a := x) (d := 6) (by omega) (by omega) (by omega)) ?_
            refine z_iconst (v := 2) dX9_happens_129 (by decide) ?_
            refine z_icmp_ne dX9_happens_130 rfl (fun c => absurd (congrArg nI (show _ = 2 by omega)) c) (fun _ => ?_)
            refine z_aload_n dX9_happens_133 rfl rfl ?_
            refine z_iload_n dX9_happens_134 rfl rfl ?_
            refine z_iload_n dX9_happens_135 rfl rfl ?_
            refine z_iconst (v := 0) dX9_happens_136 (by decide) ?_
            refine y_callV (as := [_, _, _]) CX9_canTurn LX9_384 IX9_canTurn VX9_canTurn ⟨rfl, Nat.le_of_ble_eq_true rfl⟩ dX9_happens_137 hm.o rfl (Nat.le_of_ble_eq_true rfl) (Nat.le_of_ble_eq_true rfl) (by omega) (r_canTurn (so := 0) (d := 2) hr hj.1.1 hj.ip hj.1.2.2.1 _ _ (Or.inl rfl) (Nat.le_refl _)) (rok_z bI_01) ⟨Nat.le_refl _, Nat.le_refl _, hN, hS⟩ ?_
            refine z_if_eq dX9_happens_140 rfl (fun _ => ?_) (fun c => absurd (bI_eq0.mpr hk) c)
            refine z_vret dX9_happens_174 ?_
            exact hQ
        · rw [if_neg h22]
          by_cases h5 : x % 5 = 0
          · by_cases hk : okT s.1 (nI (x % s.1 1)) (nI (x / 6 % s.1 0)) 1
            · rw [if_pos ⟨h5, hk⟩]
              obtain ⟨hk1, hk2, hk3, hk4⟩ := id hk
              rw [nn_nI (by omega), nn_nI (by omega)] at hk4
              obtain ⟨g, q1, q2, q3⟩ := r_turnNow (d := 1) (j := x % s.1 1) (k := x / 6 % s.1 0) hr (by omega) (by omega) hk4 (Nat.le_refl _)
              refine ⟨g, ?_, q2, q3⟩
              intro N S Q hN hS hQ
              have hN : pn h ≤ N := by rw [← q3.1.n]; exact hN
              have hS : ps h ≤ S := by rw [← q3.1.s]; exact hS
              refine z_iload_n dX9_happens_0 rfl rfl ?_
              refine z_bipush (v := 6) dX9_happens_1 (by decide) ?_
              refine z_irem dX9_happens_3 (by decide) ?_
              refine z_eqi (irem_n (a := x) (d := 6) (by omega) (by omega) (by omega)) ?_
              refine z_iconst (v := 3) dX9_happens_4 (by decide) ?_
              refine z_icmp_le dX9_happens_5 rfl (fun _ => ?_) (fun c => absurd ((nI_leI (b := 3) (by omega) (by omega)).mpr (by omega)) c)
              refine z_aload_n dX9_happens_26 rfl rfl ?_
              refine y_getR FX9_7 dX9_happens_27 rfl hm.o hm.f_a ?_
              refine z_iconst (v := 1) dX9_happens_30 (by decide) ?_
              refine y_ialN (1) dX9_happens_31 hm.A_a (Nat.le_of_ble_eq_true rfl) (rfl) (by omega) ?_
              refine z_eqi (show _ = nI (s.1 1) from hr.at (by omega) (by omega)) ?_
              refine z_if_eq dX9_happens_32 rfl (fun c => absurd c (fun q => absurd ((nI_eq (b := 0) (by omega) (by omega)).mp q) (by omega))) (fun _ => ?_)
              refine z_aload_n dX9_happens_35 rfl rfl ?_
              refine y_getR FX9_7 dX9_happens_36 rfl hm.o hm.f_a ?_
              refine z_iconst (v := 0) dX9_happens_39 (by decide) ?_
              refine y_ialN (0) dX9_happens_40 hm.A_a (Nat.le_of_ble_eq_true rfl) (rfl) (by omega) ?_
              refine z_eqi (show _ = nI (s.1 0) from hr.at (by omega) (by omega)) ?_
              refine z_if_ne dX9_happens_41 rfl (fun _ => ?_) (fun c => absurd c (fun q => absurd ((nI_eq (b := 0) (by omega) (by omega)).mp q) (by omega)))
              refine z_iload_n dX9_happens_45 rfl rfl ?_
              refine z_aload_n dX9_happens_46 rfl rfl ?_
              refine y_getR FX9_7 dX9_happens_47 rfl hm.o hm.f_a ?_
              refine z_iconst (v := 1) dX9_happens_50 (by decide) ?_
              refine y_ialN (1) dX9_happens_51 hm.A_a (Nat.le_of_ble_eq_true rfl) (rfl) (by omega) ?_
              refine z_eqi (show _ = nI (s.1 1) from hr.at (by omega) (by omega)) ?_
              refine z_irem dX9_happens_52 (fun q => absurd ((nI_eq (b := 0) (by omega) (by omega)).mp q) (by omega)) ?_
              refine z_eqi (irem_n (a := x) (d := s.1 1) (by omega) (by omega) (by omega)) ?_
              refine z_istore_n dX9_happens_53 rfl (Nat.le_of_ble_eq_true rfl) ?_
              refine z_iload_n dX9_happens_54 rfl rfl ?_
              refine z_bipush (v := 6) dX9_happens_55 (by decide) ?_
              refine z_idiv dX9_happens_57 (by decide) ?_
              refine z_eqi (pk_div (a := x) (d := 6) (by omega) (by omega) (by omega)) ?_
              refine z_aload_n dX9_happens_58 rfl rfl ?_
              refine y_getR FX9_7 dX9_happens_59 rfl hm.o hm.f_a ?_
              refine z_iconst (v := 0) dX9_happens_62 (by decide) ?_
              refine y_ialN (0) dX9_happens_63 hm.A_a (Nat.le_of_ble_eq_true rfl) (rfl) (by omega) ?_
              refine z_eqi (show _ = nI (s.1 0) from hr.at (by omega) (by omega)) ?_
              refine z_irem dX9_happens_64 (fun q => absurd ((nI_eq (b := 0) (by omega) (by omega)).mp q) (by omega)) ?_
              refine z_eqi (irem_n (a := x / 6) (d := s.1 0) (by omega) (by omega) (by omega)) ?_
              refine z_istore_n dX9_happens_65 rfl (Nat.le_of_ble_eq_true rfl) ?_
              refine z_iload_n dX9_happens_66 rfl rfl ?_
              refine z_bipush (v := 6) dX9_happens_67 (by decide) ?_
              refine z_irem dX9_happens_69 (by decide) ?_
              refine z_eqi (irem_n (a := x) (d := 6) (by omega) (by omega) (by omega)) ?_
              refine z_iconst (v := 2) dX9_happens_70 (by decide) ?_
              refine z_icmp_ge dX9_happens_71 rfl (fun _ => ?_) (fun c => absurd ((nI_leI (a := 2) (by omega) (by omega)).mpr (by omega)) c)
              refine z_iload_n dX9_happens_125 rfl rfl ?_
              refine z_bipush (v := 6) dX9_happens_126 (by decide) ?_
              refine z_irem dX9_happens_128 (by decide) ?_
              refine z_eqi (irem_n (a := x) (d := 6) (by omega) (by omega) (by omega)) ?_
              refine z_iconst (v := 2) dX9_happens_129 (by decide) ?_
              refine z_icmp_ne dX9_happens_130 rfl (fun _ => ?_) (fun c => absurd c (fun q => absurd ((nI_eq (b := 2) (by omega) (by omega)).mp q) (by omega)))
              refine z_iload_n dX9_happens_152 rfl rfl ?_
              refine z_iconst (v := 5) dX9_happens_153 (by decide) ?_
              refine z_irem dX9_happens_154 (by decide) ?_
              refine z_eqi (irem_n (a := x) (d := 5) (by omega) (by omega) (by omega)) ?_
              refine z_if_ne dX9_happens_155 rfl (fun c => absurd (congrArg nI (show _ = 0 by omega)) c) (fun _ => ?_)
              refine z_aload_n dX9_happens_158 rfl rfl ?_
              refine z_iload_n dX9_happens_159 rfl rfl ?_
              refine z_iload_n dX9_happens_160 rfl rfl ?_
              refine z_iconst (v := 1) dX9_happens_161 (by decide) ?_
              refine y_callV (as := [_, _, _]) CX9_canTurn LX9_384 IX9_canTurn VX9_canTurn ⟨rfl, Nat.le_of_ble_eq_true rfl⟩ dX9_happens_162 hm.o rfl (Nat.le_of_ble_eq_true rfl) (Nat.le_of_ble_eq_true rfl) (by omega) (r_canTurn (so := 1) (d := 2) hr hj.1.1 hj.ip hj.1.2.2.1 _ _ (Or.inr rfl) (Nat.le_refl _)) (rok_z bI_01) ⟨Nat.le_refl _, Nat.le_refl _, hN, hS⟩ ?_
              refine z_if_eq dX9_happens_165 rfl (fun c => absurd c (bI_ne0.mpr hk)) (fun _ => ?_)
              refine z_aload_n dX9_happens_168 rfl rfl ?_
              refine z_iload_n dX9_happens_169 rfl rfl ?_
              refine z_iload_n dX9_happens_170 rfl rfl ?_
              refine y_callV (as := [_, _]) CX9_turnNow LX9_388 IX9_turnNow VX9_turnNow ⟨rfl, Nat.le_of_ble_eq_true rfl⟩ dX9_happens_171 hm.o rfl (Nat.le_of_ble_eq_true rfl) (Nat.le_of_ble_eq_true rfl) (by omega) q1 rok_v (hg_ss q3.1 hN hS) ?_
              refine z_vret dX9_happens_174 ?_
              exact hQ
            · rw [if_neg (fun q => hk q.2)]
              refine ⟨h, ?_, hr, FM.rf⟩
              intro N S Q hN hS hQ
              refine z_iload_n dX9_happens_0 rfl rfl ?_
              refine z_bipush (v := 6) dX9_happens_1 (by decide) ?_
              refine z_irem dX9_happens_3 (by decide) ?_
              refine z_eqi (irem_n (a := x) (d := 6) (by omega) (by omega) (by omega)) ?_
              refine z_iconst (v := 3) dX9_happens_4 (by decide) ?_
              refine z_icmp_le dX9_happens_5 rfl (fun _ => ?_) (fun c => absurd ((nI_leI (b := 3) (by omega) (by omega)).mpr (by omega)) c)
              refine z_aload_n dX9_happens_26 rfl rfl ?_
              refine y_getR FX9_7 dX9_happens_27 rfl hm.o hm.f_a ?_
              refine z_iconst (v := 1) dX9_happens_30 (by decide) ?_
              refine y_ialN (1) dX9_happens_31 hm.A_a (Nat.le_of_ble_eq_true rfl) (rfl) (by omega) ?_
              refine z_eqi (show _ = nI (s.1 1) from hr.at (by omega) (by omega)) ?_
              refine z_if_eq dX9_happens_32 rfl (fun c => absurd c (fun q => absurd ((nI_eq (b := 0) (by omega) (by omega)).mp q) (by omega))) (fun _ => ?_)
              refine z_aload_n dX9_happens_35 rfl rfl ?_
              refine y_getR FX9_7 dX9_happens_36 rfl hm.o hm.f_a ?_
              refine z_iconst (v := 0) dX9_happens_39 (by decide) ?_
              refine y_ialN (0) dX9_happens_40 hm.A_a (Nat.le_of_ble_eq_true rfl) (rfl) (by omega) ?_
              refine z_eqi (show _ = nI (s.1 0) from hr.at (by omega) (by omega)) ?_
              refine z_if_ne dX9_happens_41 rfl (fun _ => ?_) (fun c => absurd c (fun q => absurd ((nI_eq (b := 0) (by omega) (by omega)).mp q) (by omega)))
              refine z_iload_n dX9_happens_45 rfl rfl ?_
              refine z_aload_n dX9_happens_46 rfl rfl ?_
              refine y_getR FX9_7 dX9_happens_47 rfl hm.o hm.f_a ?_
              refine z_iconst (v := 1) dX9_happens_50 (by decide) ?_
              refine y_ialN (1) dX9_happens_51 hm.A_a (Nat.le_of_ble_eq_true rfl) (rfl) (by omega) ?_
              refine z_eqi (show _ = nI (s.1 1) from hr.at (by omega) (by omega)) ?_
              refine z_irem dX9_happens_52 (fun q => absurd ((nI_eq (b := 0) (by omega) (by omega)).mp q) (by omega)) ?_
              refine z_eqi (irem_n (a := x) (d := s.1 1) (by omega) (by omega) (by omega)) ?_
              refine z_istore_n dX9_happens_53 rfl (Nat.le_of_ble_eq_true rfl) ?_
              refine z_iload_n dX9_happens_54 rfl rfl ?_
              refine z_bipush (v := 6) dX9_happens_55 (by decide) ?_
              refine z_idiv dX9_happens_57 (by decide) ?_
              refine z_eqi (pk_div (a := x) (d := 6) (by omega) (by omega) (by omega)) ?_
              refine z_aload_n dX9_happens_58 rfl rfl ?_
              refine y_getR FX9_7 dX9_happens_59 rfl hm.o hm.f_a ?_
              refine z_iconst (v := 0) dX9_happens_62 (by decide) ?_
              refine y_ialN (0) dX9_happens_63 hm.A_a (Nat.le_of_ble_eq_true rfl) (rfl) (by omega) ?_
              refine z_eqi (show _ = nI (s.1 0) from hr.at (by omega) (by omega)) ?_
              refine z_irem dX9_happens_64 (fun q => absurd ((nI_eq (b := 0) (by omega) (by omega)).mp q) (by omega)) ?_
              refine z_eqi (irem_n (a := x / 6) (d := s.1 0) (by omega) (by omega) (by omega)) ?_
              refine z_istore_n dX9_happens_65 rfl (Nat.le_of_ble_eq_true rfl) ?_
              refine z_iload_n dX9_happens_66 rfl rfl ?_
              refine z_bipush (v := 6) dX9_happens_67 (by decide) ?_
              refine z_irem dX9_happens_69 (by decide) ?_
              refine z_eqi (irem_n (a := x) (d := 6) (by omega) (by omega) (by omega)) ?_
              refine z_iconst (v := 2) dX9_happens_70 (by decide) ?_
              refine z_icmp_ge dX9_happens_71 rfl (fun _ => ?_) (fun c => absurd ((nI_leI (a := 2) (by omega) (by omega)).mpr (by omega)) c)
              refine z_iload_n dX9_happens_125 rfl rfl ?_
              refine z_bipush (v := 6) dX9_happens_126 (by decide) ?_
              refine z_irem dX9_happens_128 (by decide) ?_
              refine z_eqi (irem_n (a := x) (d := 6) (by omega) (by omega) (by omega)) ?_
              refine z_iconst (v := 2) dX9_happens_129 (by decide) ?_
              refine z_icmp_ne dX9_happens_130 rfl (fun _ => ?_) (fun c => absurd c (fun q => absurd ((nI_eq (b := 2) (by omega) (by omega)).mp q) (by omega)))
              refine z_iload_n dX9_happens_152 rfl rfl ?_
              refine z_iconst (v := 5) dX9_happens_153 (by decide) ?_
              refine z_irem dX9_happens_154 (by decide) ?_
              refine z_eqi (irem_n (a := x) (d := 5) (by omega) (by omega) (by omega)) ?_
              refine z_if_ne dX9_happens_155 rfl (fun c => absurd (congrArg nI (show _ = 0 by omega)) c) (fun _ => ?_)
              refine z_aload_n dX9_happens_158 rfl rfl ?_
              refine z_iload_n dX9_happens_159 rfl rfl ?_
              refine z_iload_n dX9_happens_160 rfl rfl ?_
              refine z_iconst (v := 1) dX9_happens_161 (by decide) ?_
              refine y_callV (as := [_, _, _]) CX9_canTurn LX9_384 IX9_canTurn VX9_canTurn ⟨rfl, Nat.le_of_ble_eq_true rfl⟩ dX9_happens_162 hm.o rfl (Nat.le_of_ble_eq_true rfl) (Nat.le_of_ble_eq_true rfl) (by omega) (r_canTurn (so := 1) (d := 2) hr hj.1.1 hj.ip hj.1.2.2.1 _ _ (Or.inr rfl) (Nat.le_refl _)) (rok_z bI_01) ⟨Nat.le_refl _, Nat.le_refl _, hN, hS⟩ ?_
              refine z_if_eq dX9_happens_165 rfl (fun _ => ?_) (fun c => absurd (bI_eq0.mpr hk) c)
              refine z_vret dX9_happens_174 ?_
              exact hQ
          · rw [if_neg (fun q => h5 q.1)]
            refine ⟨h, ?_, hr, FM.rf⟩
            intro N S Q hN hS hQ
            refine z_iload_n dX9_happens_0 rfl rfl ?_
            refine z_bipush (v := 6) dX9_happens_1 (by decide) ?_
            refine z_irem dX9_happens_3 (by decide) ?_
            refine z_eqi (irem_n (a := x) (d := 6) (by omega) (by omega) (by omega)) ?_
            refine z_iconst (v := 3) dX9_happens_4 (by decide) ?_
            refine z_icmp_le dX9_happens_5 rfl (fun _ => ?_) (fun c => absurd ((nI_leI (b := 3) (by omega) (by omega)).mpr (by omega)) c)
            refine z_aload_n dX9_happens_26 rfl rfl ?_
            refine y_getR FX9_7 dX9_happens_27 rfl hm.o hm.f_a ?_
            refine z_iconst (v := 1) dX9_happens_30 (by decide) ?_
            refine y_ialN (1) dX9_happens_31 hm.A_a (Nat.le_of_ble_eq_true rfl) (rfl) (by omega) ?_
            refine z_eqi (show _ = nI (s.1 1) from hr.at (by omega) (by omega)) ?_
            refine z_if_eq dX9_happens_32 rfl (fun c => absurd c (fun q => absurd ((nI_eq (b := 0) (by omega) (by omega)).mp q) (by omega))) (fun _ => ?_)
            refine z_aload_n dX9_happens_35 rfl rfl ?_
            refine y_getR FX9_7 dX9_happens_36 rfl hm.o hm.f_a ?_
            refine z_iconst (v := 0) dX9_happens_39 (by decide) ?_
            refine y_ialN (0) dX9_happens_40 hm.A_a (Nat.le_of_ble_eq_true rfl) (rfl) (by omega) ?_
            refine z_eqi (show _ = nI (s.1 0) from hr.at (by omega) (by omega)) ?_
            refine z_if_ne dX9_happens_41 rfl (fun _ => ?_) (fun c => absurd c (fun q => absurd ((nI_eq (b := 0) (by omega) (by omega)).mp q) (by omega)))
            refine z_iload_n dX9_happens_45 rfl rfl ?_
            refine z_aload_n dX9_happens_46 rfl rfl ?_
            refine y_getR FX9_7 dX9_happens_47 rfl hm.o hm.f_a ?_
            refine z_iconst (v := 1) dX9_happens_50 (by decide) ?_
            refine y_ialN (1) dX9_happens_51 hm.A_a (Nat.le_of_ble_eq_true rfl) (rfl) (by omega) ?_
            refine z_eqi (show _ = nI (s.1 1) from hr.at (by omega) (by omega)) ?_
            refine z_irem dX9_happens_52 (fun q => absurd ((nI_eq (b := 0) (by omega) (by omega)).mp q) (by omega)) ?_
            refine z_eqi (irem_n (a := x) (d := s.1 1) (by omega) (by omega) (by omega)) ?_
            refine z_istore_n dX9_happens_53 rfl (Nat.le_of_ble_eq_true rfl) ?_
            refine z_iload_n dX9_happens_54 rfl rfl ?_
            refine z_bipush (v := 6) dX9_happens_55 (by decide) ?_
            refine z_idiv dX9_happens_57 (by decide) ?_
            refine z_eqi (pk_div (a := x) (d := 6) (by omega) (by omega) (by omega)) ?_
            refine z_aload_n dX9_happens_58 rfl rfl ?_
            refine y_getR FX9_7 dX9_happens_59 rfl hm.o hm.f_a ?_
            refine z_iconst (v := 0) dX9_happens_62 (by decide) ?_
            refine y_ialN (0) dX9_happens_63 hm.A_a (Nat.le_of_ble_eq_true rfl) (rfl) (by omega) ?_
            refine z_eqi (show _ = nI (s.1 0) from hr.at (by omega) (by omega)) ?_
            refine z_irem dX9_happens_64 (fun q => absurd ((nI_eq (b := 0) (by omega) (by omega)).mp q) (by omega)) ?_
            refine z_eqi (irem_n (a := x / 6) (d := s.1 0) (by omega) (by omega) (by omega)) ?_
            refine z_istore_n dX9_happens_65 rfl (Nat.le_of_ble_eq_true rfl) ?_
            refine z_iload_n dX9_happens_66 rfl rfl ?_
            refine z_bipush (v := 6) dX9_happens_67 (by decide) ?_
            refine z_irem dX9_happens_69 (by decide) ?_
            refine z_eqi (irem_n (a := x) (d := 6) (by omega) (by omega) (by omega)) ?_
            refine z_iconst (v := 2) dX9_happens_70 (by decide) ?_
            refine z_icmp_ge dX9_happens_71 rfl (fun _ => ?_) (fun c => absurd ((nI_leI (a := 2) (by omega) (by omega)).mpr (by omega)) c)
            refine z_iload_n dX9_happens_125 rfl rfl ?_
            refine z_bipush (v := 6) dX9_happens_126 (by decide) ?_
            refine z_irem dX9_happens_128 (by decide) ?_
            refine z_eqi (irem_n (a := x) (d := 6) (by omega) (by omega) (by omega)) ?_
            refine z_iconst (v := 2) dX9_happens_129 (by decide) ?_
            refine z_icmp_ne dX9_happens_130 rfl (fun _ => ?_) (fun c => absurd c (fun q => absurd ((nI_eq (b := 2) (by omega) (by omega)).mp q) (by omega)))
            refine z_iload_n dX9_happens_152 rfl rfl ?_
            refine z_iconst (v := 5) dX9_happens_153 (by decide) ?_
            refine z_irem dX9_happens_154 (by decide) ?_
            refine z_eqi (irem_n (a := x) (d := 5) (by omega) (by omega) (by omega)) ?_
            refine z_if_ne dX9_happens_155 rfl (fun _ => ?_) (fun c => absurd c (fun q => absurd ((nI_eq (b := 0) (by omega) (by omega)).mp q) (by omega)))
            refine z_vret dX9_happens_174 ?_
            exact hQ

theorem r_years_loop {s2 : Mr} {a : Fl} {tf : Nat → Int32} {h : Hp} {d n x : Nat} (htf : tf = s2.2.2.2.2.2) (hj : JY tf a) (hn : n ≤ 40) (hd : 8 ≤ d) : ∀ r i (h1 : Hp), i + r = n → RM (yrs tf i a, s2) h1 → FM h h1 → ∃ h2, RM (yrs tf n a, s2) h2 ∧ FM h h2 ∧ ∀ (o4 : Option Value) (N S : Nat) (Q : Option Value → Hp → Prop), pn h ≤ N → ps h ≤ S → Q (some (.int (nI (yrs tf n a 8)))) h2 → T d N S mX9_years 43 [some (.ref 488), some (.int (nI x)), some (.int (nI n)), some (.int (nI i)), o4] [] h1 Q := by
  intro r
  induction r with
  | zero =>
    intro i h1 hi hr1 f1
    have e : i = n := by omega
    subst e
    have hm := hr1.m
    refine ⟨h1, hr1, f1, fun o4 N S Q hN hS hQ => ?_⟩
    refine z_iload_n dX9_years_43 rfl rfl ?_
    refine z_iload_n dX9_years_44 rfl rfl ?_
    refine z_icmp_ge dX9_years_45 rfl (fun _ => ?_) (fun c => absurd (Int32.le_refl _) c)
    refine z_aload_n dX9_years_73 rfl rfl ?_
    refine y_getR FX9_7 dX9_years_74 rfl hm.o hm.f_a ?_
    refine z_bipush (v := 8) dX9_years_77 (by decide) ?_
    refine y_ialN (8) dX9_years_79 hm.A_a (Nat.le_of_ble_eq_true rfl) (rfl) (by omega) ?_
    refine z_eqi (show _ = nI (yrs tf i a 8) from hr1.at (by omega) (by omega)) ?_
    refine z_iret dX9_years_80 ?_
    exact hQ
  | succ r ih =>
    intro i h1 hi hr1 f1
    have hm := hr1.m
    have jy := jy_yrs hj i
    have es : yrs tf (i + 1) a = mHap tf (up (yrs tf i a) 9 (nxD (yrs tf i a 9))) (yrs tf i a 9) := rfl
    generalize yrs tf i a = V at *
    have v9 : V 9 < 30553 := jy.1.1.2.2.2.2.2.2.2.2.2.1
    have j2 := jy.nx (v := nxD (V 9)) (Nat.mod_lt _ (by omega))
    have r2 : RM (up V 9 (nxD (V 9)), s2) (sI h1 489 9 (nI (nxD (V 9)))) := RM.aN (s := (V, s2)) hr1 (by omega) rfl
    rw [htf] at j2
    obtain ⟨g, q1, q2, q3⟩ := r_happens (s := (up V 9 (nxD (V 9)), s2)) (d := 7) r2 j2 v9 (Nat.le_refl _)
    obtain ⟨h2, k0, k1, K⟩ := ih (i + 1) g (by omega) (by rw [es, htf]; exact q2) ((f1.sI (by omega)).tr q3)
    refine ⟨h2, k0, k1, fun o4 N S Q hN hS hQ => ?_⟩
    have hN1 : pn h1 ≤ N := by rw [f1.1.n]; exact hN
    have hS1 : ps h1 ≤ S := by rw [f1.1.s]; exact hS
    refine z_iload_n dX9_years_43 rfl rfl ?_
    refine z_iload_n dX9_years_44 rfl rfl ?_
    refine z_icmp_ge dX9_years_45 rfl (fun c => absurd c (fun q => absurd ((nI_leI (by omega) (by omega)).mp q) (by omega))) (fun _ => ?_)
    refine z_aload_n dX9_years_48 rfl rfl ?_
    refine y_getR FX9_7 dX9_years_49 rfl hm.o hm.f_a ?_
    refine z_bipush (v := 9) dX9_years_52 (by decide) ?_
    refine y_ialN (9) dX9_years_54 hm.A_a (Nat.le_of_ble_eq_true rfl) (rfl) (by omega) ?_
    refine z_eqi (show _ = nI (V 9) from hr1.at (by omega) (by omega)) ?_
    refine z_istore dX9_years_55 (Nat.le_of_ble_eq_true rfl) ?_
    refine z_aload_n dX9_years_57 rfl rfl ?_
    refine y_callV (as := []) CX9_anew LX9_320 IX9_anew VX9_anew ⟨rfl, Nat.le_of_ble_eq_true rfl⟩ dX9_years_58 hm.o rfl (Nat.le_of_ble_eq_true rfl) (Nat.le_of_ble_eq_true rfl) (by omega) (r_anew (by exact (by exact hm)) (show _ = nI (V 9) from hr1.at (by omega) (by omega)) v9) rok_v ⟨Nat.le_refl _, Nat.le_refl _, hN1, hS1⟩ ?_
    refine z_aload_n dX9_years_61 rfl rfl ?_
    refine z_iload dX9_years_62 rfl ?_
    refine y_callV (as := [_]) CX9_happens LX9_422 IX9_happens VX9_happens ⟨rfl, Nat.le_of_ble_eq_true rfl⟩ dX9_years_64 hm.o rfl (Nat.le_of_ble_eq_true rfl) (Nat.le_of_ble_eq_true rfl) (by omega) q1 rok_v (hg_ss q3.1 hN1 hS1) ?_
    refine z_iinc dX9_years_67 rfl (nI_1 _) (Nat.le_of_ble_eq_true rfl) ?_
    refine z_goto dX9_years_70 rfl ?_
    exact K _ N S Q hN hS hQ

theorem R_years {s : Ms} {h : Hp} {d : Nat} (hr : RM s h) (hj : JY s.2.2.2.2.2.2 s.1) (x n : Int32) (hd : 8 ≤ d) : ∃ h1, Sp d mX9_years [.ref 488, .int x, .int n] h (some (.int (mYears s.2.2.2.2.2.2 s.1 x n).1)) h1 ∧ RM ((mYears s.2.2.2.2.2.2 s.1 x n).2, s.2) h1 ∧ FM h h1 := by
  have hm := hr.m
  have q4 := hj.1.1.2.2.2.2.1
  by_cases hc : inr x 0 9999 ∧ inr n 1 40
  · obtain ⟨n, hn, rfl⟩ := inr_of (n := 40) (x := n) (by omega) ⟨Int32.le_trans (by decide) hc.2.1, hc.2.2⟩
    obtain ⟨x, hx, rfl⟩ := inr_of (n := 9999) (by omega) hc.1
    have eq : mYears s.2.2.2.2.2.2 s.1 (nI x) (nI n) = (nI (yrs s.2.2.2.2.2.2 n (up (mKeep s.1) 9 (x * 2 + 191)) 8), yrs s.2.2.2.2.2.2 n (up (mKeep s.1) 9 (x * 2 + 191))) := by
      unfold mYears
      rw [if_pos hc, nn_nI (by omega), nn_nI (by omega)]
    rw [eq]
    obtain ⟨g1, k1, k2, k3, _⟩ := r_keep2 (d := 7) hr q4 (by omega)
    have r1 : RM (up (mKeep s.1) 9 (x * 2 + 191), s.2) (sI g1 489 9 (nI (x * 2 + 191))) := RM.aN (s := (mKeep s.1, s.2)) k2 (by omega) rfl
    have j1 := hj.keep.nx (v := x * 2 + 191) (by omega)
    obtain ⟨h2, q1, q2, K⟩ := r_years_loop (h := sI g1 489 9 (nI (x * 2 + 191))) (x := x) (d := d) rfl j1 hn hd n 0 _ (by omega) r1 FM.rf
    have ff : FM h h2 := (k3.sI (by omega)).tr q2
    refine ⟨h2, ?_, q1, ff⟩
    intro N S Q hN hS hQ
    have hN : pn h ≤ N := by rw [← ff.1.n]; exact hN
    have hS : ps h ≤ S := by rw [← ff.1.s]; exact hS
    have hN1 : pn g1 ≤ N := by rw [k3.1.n]; exact hN
    have hS1 : ps g1 ≤ S := by rw [k3.1.s]; exact hS
    refine z_iload_n dX9_years_0 rfl rfl ?_
    refine z_iconst (v := 0) dX9_years_1 (by decide) ?_
    refine z_sipush (v := 9999) dX9_years_2 (by decide) ?_
    refine y_callS (as := [_, _, _]) CX9_isIn LX9_63 SX9_isIn dX9_years_5 rfl (Nat.le_of_ble_eq_true rfl) (Nat.le_of_ble_eq_true rfl) (by omega) (r_isIn _ _ _) (rok_z bI_01) ⟨Nat.le_refl _, Nat.le_refl _, hN, hS⟩ ?_
    refine z_if_eq dX9_years_8 rfl (fun c => absurd c (bI_ne0.mpr hc.1)) (fun _ => ?_)
    refine z_iload_n dX9_years_11 rfl rfl ?_
    refine z_iconst (v := 1) dX9_years_12 (by decide) ?_
    refine z_bipush (v := 40) dX9_years_13 (by decide) ?_
    refine y_callS (as := [_, _, _]) CX9_isIn LX9_63 SX9_isIn dX9_years_15 rfl (Nat.le_of_ble_eq_true rfl) (Nat.le_of_ble_eq_true rfl) (by omega) (r_isIn _ _ _) (rok_z bI_01) ⟨Nat.le_refl _, Nat.le_refl _, hN, hS⟩ ?_
    refine z_if_ne dX9_years_18 rfl (fun _ => ?_) (fun c => absurd c (bI_ne0.mpr hc.2))
    refine z_aload_n dX9_years_23 rfl rfl ?_
    refine y_callV (as := []) CX9_keep LX9_374 IX9_keep VX9_keep ⟨rfl, Nat.le_of_ble_eq_true rfl⟩ dX9_years_24 hm.o rfl (Nat.le_of_ble_eq_true rfl) (Nat.le_of_ble_eq_true rfl) (by omega) k1 rok_v (hg_ss k3.1 hN hS) ?_
    refine z_aload_n dX9_years_27 rfl rfl ?_
    refine y_getR FX9_7 dX9_years_28 rfl (k3.1.O hm.o) (by first | (rw [k3.1.R]; exact hm.f_a) | exact (congrFun (congrFun k3.1.R _) _).trans hm.f_a) ?_
    refine z_bipush (v := 9) dX9_years_31 (by decide) ?_
    refine z_iload_n dX9_years_33 rfl rfl ?_
    refine z_iconst (v := 2) dX9_years_34 (by decide) ?_
    refine z_imul dX9_years_35 ?_
    refine z_eqi (pk_mul x 2) ?_
    refine z_sipush (v := 191) dX9_years_36 (by decide) ?_
    refine z_iadd dX9_years_39 ?_
    refine z_eqi (nI_add (x * 2) 191) ?_
    refine y_iasN (9) dX9_years_40 (k3.1.A hm.A_a) (Nat.le_of_ble_eq_true rfl) (rfl) (by omega) ?_
    refine z_iconst (v := 0) dX9_years_41 (by decide) ?_
    refine z_istore_n dX9_years_42 rfl (Nat.le_of_ble_eq_true rfl) ?_
    exact K none N S Q hN1 hS1 hQ
  · have eq : mYears s.2.2.2.2.2.2 s.1 x n = (-1, s.1) := if_neg hc
    rw [eq]
    refine ⟨h, ?_, hr, FM.rf⟩
    intro N S Q hN hS hQ
    by_cases k1 : inr x 0 9999
    · skip
      refine z_iload_n dX9_years_0 rfl rfl ?_
      refine z_iconst (v := 0) dX9_years_1 (by decide) ?_
      refine z_sipush (v := 9999) dX9_years_2 (by decide) ?_
      refine y_callS (as := [_, _, _]) CX9_isIn LX9_63 SX9_isIn dX9_years_5 rfl (Nat.le_of_ble_eq_true rfl) (Nat.le_of_ble_eq_true rfl) (by omega) (r_isIn _ _ _) (rok_z bI_01) ⟨Nat.le_refl _, Nat.le_refl _, hN, hS⟩ ?_
      refine z_if_eq dX9_years_8 rfl (fun c => absurd c (bI_ne0.mpr k1)) (fun _ => ?_)
      refine z_iload_n dX9_years_11 rfl rfl ?_
      refine z_iconst (v := 1) dX9_years_12 (by decide) ?_
      refine z_bipush (v := 40) dX9_years_13 (by decide) ?_
      refine y_callS (as := [_, _, _]) CX9_isIn LX9_63 SX9_isIn dX9_years_15 rfl (Nat.le_of_ble_eq_true rfl) (Nat.le_of_ble_eq_true rfl) (by omega) (r_isIn _ _ _) (rok_z bI_01) ⟨Nat.le_refl _, Nat.le_refl _, hN, hS⟩ ?_
      refine z_if_ne dX9_years_18 rfl (fun c => absurd (bI_eq0.mpr (fun q => hc ⟨k1, q⟩)) c) (fun _ => ?_)
      refine z_iconst (v := -1) dX9_years_21 (by decide) ?_
      refine z_iret dX9_years_22 ?_
      exact hQ
    · skip
      refine z_iload_n dX9_years_0 rfl rfl ?_
      refine z_iconst (v := 0) dX9_years_1 (by decide) ?_
      refine z_sipush (v := 9999) dX9_years_2 (by decide) ?_
      refine y_callS (as := [_, _, _]) CX9_isIn LX9_63 SX9_isIn dX9_years_5 rfl (Nat.le_of_ble_eq_true rfl) (Nat.le_of_ble_eq_true rfl) (by omega) (r_isIn _ _ _) (rok_z bI_01) ⟨Nat.le_refl _, Nat.le_refl _, hN, hS⟩ ?_
      refine z_if_eq dX9_years_8 rfl (fun _ => ?_) (fun c => absurd (bI_eq0.mpr k1) c)
      refine z_iconst (v := -1) dX9_years_21 (by decide) ?_
      refine z_iret dX9_years_22 ?_
      exact hQ

