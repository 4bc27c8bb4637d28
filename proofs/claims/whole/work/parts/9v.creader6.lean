/-! the class's reader: steps along the descent, what a fault passes over (wip/whole/gen9v.py) -/
theorem bnd_0 {j : Nat} {e : Cd} {k : Nat → Cd → RO} : bnd (some (0, j, e)) k = k j e := by
  show (if (0 : Nat) = 0 then k j e else some (0, j, e)) = k j e
  exact if_pos rfl
theorem bnd_z {z j : Nat} {e : Cd} {k : Nat → Cd → RO} (hz : ¬ z = 0) : bnd (some (z, j, e)) k = some (z, j, e) := by
  show (if z = 0 then k j e else some (z, j, e)) = some (z, j, e)
  exact if_neg hz
theorem bnd_sm {x : RO} {k : Nat → Cd → RO} {r : Nat × Nat × Cd} (h : bnd x k = some r) : ∃ z j e, x = some (z, j, e) := by
  cases x with
  | none => cases h
  | some p => exact ⟨p.1, p.2.1, p.2.2, rfl⟩
theorem x_exp {h0 h : Hp} {K W : Nat → Nat} {n a z i d : Nat} {c : Cd} {r : Nat × Nat × Cd} {w : Nat} {k : Nat → Cd → RO} (ct : CT h0 K W n) (q : RQ h0 K n a z i c h) (hr : bnd (some (z, i, c)) (fun j e => exq K w j e k) = some r) (hw : w < 53) (hd : 1 ≤ d) : ∃ z1 i1 h1, Sp d mX2_expect [.ref 472, .int (nI w)] h none h1 ∧ RQ h0 K n a z1 i1 c h1 ∧ bnd (some (z1, i1, c)) k = some r := by
  by_cases hz : z = 0
  · subst hz
    rw [bnd_0] at hr
    unfold exq at hr
    by_cases hk : K i = w
    · rw [if_pos hk] at hr
      obtain ⟨h1, s1, q1, k1⟩ := a_exy (d := d) ct q.1.1 hk (ct.lt i (by omega)) hd
      exact ⟨0, i + 1, h1, s1, q.mv q1 k1 (by have := q.2; omega), by rw [bnd_0]; exact hr⟩
    · rw [if_neg hk] at hr
      obtain ⟨h1, s1, q1, k1⟩ := a_exn (d := d) ct q.1.1 hk (by omega) hd
      exact ⟨1, i, h1, s1, q.mv q1 k1 q.2, by rw [bnd_z (by omega)]; exact hr⟩
  · rw [bnd_z hz] at hr
    exact ⟨z, i, h, a_ex1 ct q.1.1 (by omega), q, by rw [bnd_z hz]; exact hr⟩
theorem x_put {h0 h : Hp} {K W : Nat → Nat} {n a z i d : Nat} {c : Cd} {r : Nat × Nat × Cd} {x : Nat} {v : Int32} (ct : CT h0 K W n) (q : RQ h0 K n (a + 1) z i c h) (hr : bnd (some (z, i, c)) (put x) = some r) (hx : v = cnv x 0) : ∃ h1, Sp d mX2_emit [.ref 472, .int v] h none h1 ∧ RQ h0 K n a r.1 r.2.1 r.2.2 h1 := by
  by_cases hz : z = 0
  · subst hz
    rw [bnd_0] at hr
    cases hr
    exact q_em0 ct q hx
  · rw [bnd_z hz] at hr
    cases hr
    exact ⟨h, q_em1 ct q.1.1 (by omega), q.le (by omega)⟩
theorem x_fall {h0 h : Hp} {K W : Nat → Nat} {n a z i d : Nat} {c : Cd} {r : Nat × Nat × Cd} (q : RQ h0 K n a z i c h) (hr : bnd (some (z, i, c)) (fun j e => some (0, j, e)) = some r) : RQ h0 K n a r.1 r.2.1 r.2.2 h := by
  by_cases hz : z = 0
  · subst hz
    rw [bnd_0] at hr
    cases hr
    exact q
  · rw [bnd_z hz] at hr
    cases hr
    exact q
/-- a method reads as the descent does from tag t on -/
def BM (h0 : Hp) (K W : Nat → Nat) (so n f t : Nat) (M : Mi) (r : Nat) : Prop := ∀ op i c a z j e h, op ≤ 8 → RQ h0 K n a 0 i c h → rd K W so f t op i c = some (z, j, e) → ∃ h1, Sp (16 * (8 - op) + r) M [.ref 472, .int (nI op)] h none h1 ∧ RQ h0 K n a z j e h1
/-- it passes over what lies behind a fault -/
def B1z (h0 : Hp) (K : Nat → Nat) (n : Nat) (M : Mi) (r : Nat) : Prop := ∀ op z i h, 1 ≤ z → RA h0 K n z i h → Sp r M [.ref 472, .int (nI op)] h none h
theorem x_call {h0 h : Hp} {K W : Nat → Nat} {so n f t a z i op r0 : Nat} {c : Cd} {r : Nat × Nat × Cd} {M : Mi} {k : Nat → Cd → RO} (b : BM h0 K W so n f t M r0) (b1 : B1z h0 K n M r0) (ho : op ≤ 8) (q : RQ h0 K n a z i c h) (hr : bnd (some (z, i, c)) (fun j e => bnd (rd K W so f t op j e) k) = some r) : ∃ z1 i1 c1 h1, Sp (16 * (8 - op) + r0) M [.ref 472, .int (nI op)] h none h1 ∧ RQ h0 K n a z1 i1 c1 h1 ∧ bnd (some (z1, i1, c1)) k = some r := by
  by_cases hz : z = 0
  · subst hz
    rw [bnd_0] at hr
    obtain ⟨z1, i1, c1, e1⟩ := bnd_sm hr
    rw [e1] at hr
    obtain ⟨h1, s1, q1⟩ := b op i c a z1 i1 c1 h ho q e1
    exact ⟨z1, i1, c1, h1, s1, q1, hr⟩
  · rw [bnd_z hz] at hr
    exact ⟨z, i, c, h, (b1 op z i h (by omega) q.1.1).deep (by omega), q, by rw [bnd_z hz]; exact hr⟩

theorem c_one1 {h0 : Hp} {K W : Nat → Nat} {n r0 : Nat} (ct : CT h0 K W n) : B1z h0 K n mX2_readOne r0 := by
  intro op z i h hz q
  have n3 := ct.2.2.1
  have cr := q.cr ct
  have k54 := ct.2.2.2.2.2.2 i
  have in1 := q.2.2.2.2.2.2.2.1
  have z9 := q.2.2.2.2.2.2.2.2
  intro N S Q hN hS hQ
  refine z_aload_n dX2_readOne_0 rfl rfl ?_
  refine y_getI FX2_40 dX2_readOne_1 (Or.inl rfl) cr.1 ?_
  refine z_eqi (y := nI (z)) q.2.2.2.2.2.2.1 ?_
  refine z_if_eq dX2_readOne_4 rfl (fun c => absurd c (fun w => absurd ((nI_eq (b := 0) (by omega) (by omega)).mp w) (by omega))) (fun _ => ?_)
  refine z_vret dX2_readOne_7 ?_
  exact hQ

theorem l_zProduct {h0 h : Hp} {K W : Nat → Nat} {n z i op k d N S : Nat} {v : Option Value} {Q : Option Value → Hp → Prop} (ct : CT h0 K W n) (q : RA h0 K n z i h) (hz : 1 ≤ z) (hk : k ≤ 400) (hQ : Q none h) : T d N S mX2_readProduct 7 [some (.ref 472), some (.int (nI op)), some (.int (nI k)), v] [] h Q := by
  have n3 := ct.2.2.1
  have cr := q.cr ct
  have k54 := ct.2.2.2.2.2.2 i
  have in1 := q.2.2.2.2.2.2.2.1
  have z9 := q.2.2.2.2.2.2.2.2
  by_cases hk3 : k < 300
  · skip
    refine z_iload_n dX2_readProduct_7 rfl rfl ?_
    refine z_sipush (v := 300) dX2_readProduct_8 (by decide) ?_
    refine z_icmp_ge dX2_readProduct_11 rfl (fun c => absurd c (fun w => absurd ((nI_leI (a := 300) (by omega) (by omega)).mp w) (by omega))) (fun _ => ?_)
    refine z_aload_n dX2_readProduct_14 rfl rfl ?_
    refine y_getI FX2_40 dX2_readProduct_15 (Or.inl rfl) cr.1 ?_
    refine z_eqi (y := nI (z)) q.2.2.2.2.2.2.1 ?_
    refine z_if_ne dX2_readProduct_18 rfl (fun _ => ?_) (fun c => absurd c (fun w => absurd ((nI_eq (b := 0) (by omega) (by omega)).mp w) (by omega)))
    refine z_vret dX2_readProduct_65 ?_
    exact hQ
  · skip
    refine z_iload_n dX2_readProduct_7 rfl rfl ?_
    refine z_sipush (v := 300) dX2_readProduct_8 (by decide) ?_
    refine z_icmp_ge dX2_readProduct_11 rfl (fun _ => ?_) (fun c => absurd ((nI_leI (a := 300) (by omega) (by omega)).mpr (by omega)) c)
    refine z_vret dX2_readProduct_65 ?_
    exact hQ

theorem l_zSum {h0 h : Hp} {K W : Nat → Nat} {n z i op k d N S : Nat} {v : Option Value} {Q : Option Value → Hp → Prop} (ct : CT h0 K W n) (q : RA h0 K n z i h) (hz : 1 ≤ z) (hk : k ≤ 400) (hQ : Q none h) : T d N S mX2_readSum 7 [some (.ref 472), some (.int (nI op)), some (.int (nI k)), v] [] h Q := by
  have n3 := ct.2.2.1
  have cr := q.cr ct
  have k54 := ct.2.2.2.2.2.2 i
  have in1 := q.2.2.2.2.2.2.2.1
  have z9 := q.2.2.2.2.2.2.2.2
  by_cases hk3 : k < 300
  · skip
    refine z_iload_n dX2_readSum_7 rfl rfl ?_
    refine z_sipush (v := 300) dX2_readSum_8 (by decide) ?_
    refine z_icmp_ge dX2_readSum_11 rfl (fun c => absurd c (fun w => absurd ((nI_leI (a := 300) (by omega) (by omega)).mp w) (by omega))) (fun _ => ?_)
    refine z_aload_n dX2_readSum_14 rfl rfl ?_
    refine y_getI FX2_40 dX2_readSum_15 (Or.inl rfl) cr.1 ?_
    refine z_eqi (y := nI (z)) q.2.2.2.2.2.2.1 ?_
    refine z_if_ne dX2_readSum_18 rfl (fun _ => ?_) (fun c => absurd c (fun w => absurd ((nI_eq (b := 0) (by omega) (by omega)).mp w) (by omega)))
    refine z_vret dX2_readSum_65 ?_
    exact hQ
  · skip
    refine z_iload_n dX2_readSum_7 rfl rfl ?_
    refine z_sipush (v := 300) dX2_readSum_8 (by decide) ?_
    refine z_icmp_ge dX2_readSum_11 rfl (fun _ => ?_) (fun c => absurd ((nI_leI (a := 300) (by omega) (by omega)).mpr (by omega)) c)
    refine z_vret dX2_readSum_65 ?_
    exact hQ

theorem l_zBoth {h0 h : Hp} {K W : Nat → Nat} {n z i op k d N S : Nat} {Q : Option Value → Hp → Prop} (ct : CT h0 K W n) (q : RA h0 K n z i h) (hz : 1 ≤ z) (hk : k ≤ 400) (hQ : Q none h) : T d N S mX2_readBoth 7 [some (.ref 472), some (.int (nI op)), some (.int (nI k))] [] h Q := by
  have n3 := ct.2.2.1
  have cr := q.cr ct
  have k54 := ct.2.2.2.2.2.2 i
  have in1 := q.2.2.2.2.2.2.2.1
  have z9 := q.2.2.2.2.2.2.2.2
  by_cases hk3 : k < 300
  · skip
    refine z_iload_n dX2_readBoth_7 rfl rfl ?_
    refine z_sipush (v := 300) dX2_readBoth_8 (by decide) ?_
    refine z_icmp_ge dX2_readBoth_11 rfl (fun c => absurd c (fun w => absurd ((nI_leI (a := 300) (by omega) (by omega)).mp w) (by omega))) (fun _ => ?_)
    refine z_aload_n dX2_readBoth_14 rfl rfl ?_
    refine y_getI FX2_40 dX2_readBoth_15 (Or.inl rfl) cr.1 ?_
    refine z_eqi (y := nI (z)) q.2.2.2.2.2.2.1 ?_
    refine z_if_ne dX2_readBoth_18 rfl (fun _ => ?_) (fun c => absurd c (fun w => absurd ((nI_eq (b := 0) (by omega) (by omega)).mp w) (by omega)))
    refine z_vret dX2_readBoth_51 ?_
    exact hQ
  · skip
    refine z_iload_n dX2_readBoth_7 rfl rfl ?_
    refine z_sipush (v := 300) dX2_readBoth_8 (by decide) ?_
    refine z_icmp_ge dX2_readBoth_11 rfl (fun _ => ?_) (fun c => absurd ((nI_leI (a := 300) (by omega) (by omega)).mpr (by omega)) c)
    refine z_vret dX2_readBoth_51 ?_
    exact hQ

theorem l_zEither {h0 h : Hp} {K W : Nat → Nat} {n z i op k d N S : Nat} {Q : Option Value → Hp → Prop} (ct : CT h0 K W n) (q : RA h0 K n z i h) (hz : 1 ≤ z) (hk : k ≤ 400) (hQ : Q none h) : T d N S mX2_readEither 7 [some (.ref 472), some (.int (nI op)), some (.int (nI k))] [] h Q := by
  have n3 := ct.2.2.1
  have cr := q.cr ct
  have k54 := ct.2.2.2.2.2.2 i
  have in1 := q.2.2.2.2.2.2.2.1
  have z9 := q.2.2.2.2.2.2.2.2
  by_cases hk3 : k < 300
  · skip
    refine z_iload_n dX2_readEither_7 rfl rfl ?_
    refine z_sipush (v := 300) dX2_readEither_8 (by decide) ?_
    refine z_icmp_ge dX2_readEither_11 rfl (fun c => absurd c (fun w => absurd ((nI_leI (a := 300) (by omega) (by omega)).mp w) (by omega))) (fun _ => ?_)
    refine z_aload_n dX2_readEither_14 rfl rfl ?_
    refine y_getI FX2_40 dX2_readEither_15 (Or.inl rfl) cr.1 ?_
    refine z_eqi (y := nI (z)) q.2.2.2.2.2.2.1 ?_
    refine z_if_ne dX2_readEither_18 rfl (fun _ => ?_) (fun c => absurd c (fun w => absurd ((nI_eq (b := 0) (by omega) (by omega)).mp w) (by omega)))
    refine z_vret dX2_readEither_51 ?_
    exact hQ
  · skip
    refine z_iload_n dX2_readEither_7 rfl rfl ?_
    refine z_sipush (v := 300) dX2_readEither_8 (by decide) ?_
    refine z_icmp_ge dX2_readEither_11 rfl (fun _ => ?_) (fun c => absurd ((nI_leI (a := 300) (by omega) (by omega)).mpr (by omega)) c)
    refine z_vret dX2_readEither_51 ?_
    exact hQ

theorem c_pro1 {h0 : Hp} {K W : Nat → Nat} {n r0 : Nat} (ct : CT h0 K W n) (hr0 : 1 ≤ r0) : B1z h0 K n mX2_readProduct r0 := by
  intro op z i h hz q
  have n3 := ct.2.2.1
  have cr := q.cr ct
  have k54 := ct.2.2.2.2.2.2 i
  have in1 := q.2.2.2.2.2.2.2.1
  have z9 := q.2.2.2.2.2.2.2.2
  intro N S Q hN hS hQ
  refine z_aload_n dX2_readProduct_0 rfl rfl ?_
  refine z_iload_n dX2_readProduct_1 rfl rfl ?_
  refine y_callV (as := [_]) CX2_readOne LX2_137 IX2_readOne VX2_readOne ⟨rfl, Nat.le_of_ble_eq_true rfl⟩ dX2_readProduct_2 cr.1 rfl (Nat.le_of_ble_eq_true rfl) (Nat.le_of_ble_eq_true rfl) (by omega) (c_one1 (r0 := 0) ct op z i h hz q) rok_v ⟨Nat.le_refl _, Nat.le_refl _, hN, hS⟩ ?_
  refine z_iconst (v := 0) dX2_readProduct_5 (by decide) ?_
  refine z_istore_n dX2_readProduct_6 rfl (Nat.le_of_ble_eq_true rfl) ?_
  exact l_zProduct (k := 0) ct q hz (by omega) hQ

theorem c_sum1 {h0 : Hp} {K W : Nat → Nat} {n r0 : Nat} (ct : CT h0 K W n) (hr0 : 2 ≤ r0) : B1z h0 K n mX2_readSum r0 := by
  intro op z i h hz q
  have n3 := ct.2.2.1
  have cr := q.cr ct
  have k54 := ct.2.2.2.2.2.2 i
  have in1 := q.2.2.2.2.2.2.2.1
  have z9 := q.2.2.2.2.2.2.2.2
  intro N S Q hN hS hQ
  refine z_aload_n dX2_readSum_0 rfl rfl ?_
  refine z_iload_n dX2_readSum_1 rfl rfl ?_
  refine y_callV (as := [_]) CX2_readProduct LX2_131 IX2_readProduct VX2_readProduct ⟨rfl, Nat.le_of_ble_eq_true rfl⟩ dX2_readSum_2 cr.1 rfl (Nat.le_of_ble_eq_true rfl) (Nat.le_of_ble_eq_true rfl) (by omega) (c_pro1 (r0 := 1) ct (by omega) op z i h hz q) rok_v ⟨Nat.le_refl _, Nat.le_refl _, hN, hS⟩ ?_
  refine z_iconst (v := 0) dX2_readSum_5 (by decide) ?_
  refine z_istore_n dX2_readSum_6 rfl (Nat.le_of_ble_eq_true rfl) ?_
  exact l_zSum (k := 0) ct q hz (by omega) hQ

