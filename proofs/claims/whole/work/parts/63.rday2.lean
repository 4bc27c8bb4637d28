/-! a day passes: the reference (walks by program: wip/whole/gen63.py) -/
theorem iw_pF {n : Nat} {tf : Nat → Int32} {a W : Fl} (h : IW n W) : ∀ i, i ≤ n → IW n (pF tf a i W) := by
  intro i
  induction i with
  | zero => intro _; exact h
  | succ i ih => intro hi; exact iw_stF (ih (by omega)) (by omega)
theorem stF_o {tf : Nat → Int32} {a W : Fl} {f i : Nat} (h2 : i ≠ 2) (h3 : i ≠ 3) : stF tf a f W i = W i := by
  unfold stF
  split
  · rfl
  · split
    · rw [up_n h3, up_n h2]
    · rw [up_n h2]
theorem pF_o {tf : Nat → Int32} {a W : Fl} {i : Nat} (h2 : i ≠ 2) (h3 : i ≠ 3) : ∀ f, pF tf a f W i = W i := by
  intro f
  induction f with
  | zero => rfl
  | succ f ih => show stF tf a f (pF tf a f W) i = W i; rw [stF_o h2 h3, ih]
theorem stK_o {n b t1 k i : Nat} {tf : Nat → Int32} {W : Fl} (h : IW n W) (hk : k < W 4) (hi : i ≤ 4) : stK b tf t1 k W i = W i := by
  have h0 := h.1.1
  have h5 := h.1.2.2.2.2.2
  have c := (h.2.2.1 k hk).1
  unfold stK
  split
  · split
    · unfold wTrue
      rw [wr_o (by rw [up_n (by unfold pcx; omega), up_n (by unfold ppx; omega)]; exact h5) (by omega) (by omega), up_n (by unfold pcx; omega), up_n (by unfold ppx; omega)]
    · split
      · unfold wFail
        have e : ∀ j, j ≤ 5 → up (wFail1 W (W (pcx k 0)) (mDues tf t1 W k) (W (ppx (W (pcx k 0)) 0))) (pcx k 5) 2 j = W j := fun j hj => by
          rw [up_n (by unfold pcx; omega)]
          unfold wFail1
          split
          · rw [up_n (by unfold ppx; omega), up_n (by unfold ppx; omega)]
          · rw [up_n (by unfold ppx; omega)]
        rw [wr_o (by rw [e 5 (by omega)]; exact h5) (by omega) (by omega), e i (by omega)]
      · rfl
  · rfl
theorem iw_pK {n b t1 : Nat} {tf : Nat → Int32} {W : Fl} (h : IW n W) : ∀ i, i ≤ W 4 → IW n (pKs b tf t1 i W) ∧ ∀ j, j ≤ 4 → pKs b tf t1 i W j = W j := by
  intro i
  induction i with
  | zero => intro _; exact ⟨h, fun _ _ => rfl⟩
  | succ i ih =>
    intro hi
    obtain ⟨h1, h2⟩ := ih (by omega)
    have hk : i < pKs b tf t1 i W 4 := by rw [h2 4 (by omega)]; omega
    exact ⟨iw_stK h1 hk, fun j hj => by show stK b tf t1 i (pKs b tf t1 i W) j = W j; rw [stK_o h1 hk hj, h2 j hj]⟩
theorem iw_pass0 {n b : Nat} {tf : Nat → Int32} {a W : Fl} (h : IW n W) (hn : n = a 0) : IW n (wPass0 b tf a W) ∧ wPass0 b tf a W 1 = W 1 := by
  have h1 := iw_pF (tf := tf) (a := a) h (a 0) (by omega)
  have e4 : pF tf a (a 0) W 4 = W 4 := pF_o (by omega) (by omega) _
  have h2 := iw_pK (b := b) (tf := tf) (t1 := a 3) h1 (W 4) (by omega)
  exact ⟨h2.1, by show pKs b tf (a 3) (W 4) (pF tf a (a 0) W) 1 = W 1; rw [h2.2 1 (by omega), pF_o (by omega) (by omega)]⟩
theorem iw_pass {n b : Nat} {tf : Nat → Int32} {a W : Fl} (h : IW n W) (hn : n = a 0) (hd : W 1 < 9999) : IW n (wPass b tf a W) ∧ wPass b tf a W 1 = W 1 + 1 := by
  obtain ⟨h1, h2⟩ := iw_pass0 (b := b) (tf := tf) h hn
  unfold wPass
  rw [h2]
  exact ⟨h1.u (by omega), up_s⟩

theorem r_pass_f {g : Nat → Int32} {s : Mr} {a W : Fl} {h : Hp} {d b e n : Nat} (hb : b = 0 ∨ b = 1) (hW : IW n W) (hn : n = a 0) (h0 : a 0 ≤ 8) (h3 : a 3 ≤ 4) (hF : IFc a) (hT : a 3 ≠ 0 → TXV s.2.2.2.2.2 (a 3 - 1)) (hd : 6 ≤ d) : ∀ r i (h1 : Hp) (o2 : Option Value), i + r = a 0 → PX g s a b (pF s.2.2.2.2.2 a i W) e h1 → FM h h1 → ∃ h2, PX g s a b (pF s.2.2.2.2.2 a (a 0) W) e h2 ∧ FM h h2 ∧ ∀ (N S : Nat) (Q : Option Value → Hp → Prop), pn h ≤ N → ps h ≤ S → (∀ o2, T d N S mX9_pass 62 [some (.ref 488), some (.int (nI (a 0))), o2] [] h2 Q) → T d N S mX9_pass 2 [some (.ref 488), some (.int (nI i)), o2] [] h1 Q := by
  intro r
  induction r with
  | zero =>
    intro i h1 o2 hi hp fm
    have e : i = a 0 := by omega
    rw [e] at hp ⊢
    have hm := hp.1.m
    refine ⟨h1, hp, fm, fun N S Q hN hS K => ?_⟩
    refine z_iload_n dX9_pass_2 rfl rfl ?_
    refine z_aload_n dX9_pass_3 rfl rfl ?_
    refine y_getR FX9_7 dX9_pass_4 rfl hm.o hm.f_a ?_
    refine z_iconst (v := 0) dX9_pass_7 (by decide) ?_
    refine y_ialN (0) dX9_pass_8 hm.A_a (Nat.le_of_ble_eq_true rfl) (rfl) (by omega) ?_
    refine z_eqi (show _ = nI (a 0) from hp.1.oat (by omega)) ?_
    refine z_icmp_ge dX9_pass_9 rfl (fun _ => ?_) (fun c => absurd (Int32.le_refl _) c)
    exact K _
  | succ r ih =>
    intro i h1 o2 hi hp fm
    have hm := hp.1.m
    have iv := iw_pF (tf := s.2.2.2.2.2) (a := a) hW i (by omega)
    have p2 : 2 ^ n ≤ 2 ^ 8 := Nat.pow_le_pow_right (by omega) (by omega)
    have es : pF s.2.2.2.2.2 a (i + 1) W = stF s.2.2.2.2.2 a i (pF s.2.2.2.2.2 a i W) := rfl
    obtain ⟨V, hV⟩ : ∃ V, pF s.2.2.2.2.2 a i W = V := ⟨_, rfl⟩
    rw [hV] at hp iv es
    have iv3 := iv.1.2.2.2.1
    have iv2 := iv.1.2.2.1
    by_cases hb : (V 3).testBit i = true
    · have e1 : stF s.2.2.2.2.2 a i V = V := if_pos hb
      obtain ⟨h2, k1, k2, K⟩ := ih (i + 1) h1 o2 (by omega) (by rw [es, e1]; exact hp) fm
      refine ⟨h2, k1, k2, fun N S Q hN hS KK => ?_⟩
      have hN1 : pn h1 ≤ N := by rw [fm.1.n]; exact hN
      have hS1 : ps h1 ≤ S := by rw [fm.1.s]; exact hS
      refine z_iload_n dX9_pass_2 rfl rfl ?_
      refine z_aload_n dX9_pass_3 rfl rfl ?_
      refine y_getR FX9_7 dX9_pass_4 rfl hm.o hm.f_a ?_
      refine z_iconst (v := 0) dX9_pass_7 (by decide) ?_
      refine y_ialN (0) dX9_pass_8 hm.A_a (Nat.le_of_ble_eq_true rfl) (rfl) (by omega) ?_
      refine z_eqi (show _ = nI (a 0) from hp.1.oat (by omega)) ?_
      refine z_icmp_ge dX9_pass_9 rfl (fun c => absurd c (fun q => absurd ((nI_leI (by omega) (by omega)).mp q) (by omega))) (fun _ => ?_)
      refine z_aload_n dX9_pass_12 rfl rfl ?_
      refine y_getR FX9_7 dX9_pass_13 rfl hm.o hm.f_a ?_
      refine z_bipush (v := 10) dX9_pass_16 (by decide) ?_
      refine y_ialN (10) dX9_pass_18 hm.A_a (Nat.le_of_ble_eq_true rfl) (rfl) (by omega) ?_
      refine z_eqi (show _ = nI (V 3) from hp.1.wat 3 rfl (by omega)) ?_
      refine z_iload_n dX9_pass_19 rfl rfl ?_
      refine y_callS (as := [_, _]) CX9_has LX9_261 SX9_has dX9_pass_20 rfl (Nat.le_of_ble_eq_true rfl) (Nat.le_of_ble_eq_true rfl) (by omega) (r_has (n := V 3) (k := i) (by omega) (by omega)) (rok_z bI_01) ⟨Nat.le_refl _, Nat.le_refl _, hN1, hS1⟩ ?_
      refine z_if_eq dX9_pass_23 rfl (fun c => absurd c (bI_ne0.mpr hb)) (fun _ => ?_)
      refine z_goto dX9_pass_26 rfl ?_
      refine z_iinc dX9_pass_56 rfl (nI_1 _) (Nat.le_of_ble_eq_true rfl) ?_
      refine z_goto dX9_pass_59 rfl ?_
      exact K N S Q hN hS KK
    · obtain ⟨g1, r1, r2⟩ := r_comesOf (d := 5) (f := i) hp.1 iv hn h0 h3 (by omega) hF hT (by omega)
      have p1 := hp.y r2
      have hm2 := r2.1.M hm
      have e9 : pI g1 489 9 = nI (V 2) := p1.1.wat 2 rfl (by omega)
      have bcm : mComes s.2.2.2.2.2 a V i ≤ 10 := mSays_le (hF i (by omega)).1
      have e1 : stF s.2.2.2.2.2 a i V = if V 2 % 10 < mComes s.2.2.2.2.2 a V i then up (up V 2 (nxD (V 2))) 3 (V 3 ||| 2 ^ i) else up V 2 (nxD (V 2)) := if_neg hb
      generalize mComes s.2.2.2.2.2 a V i = cm at *
      have q2 := p1.w (i := 9) (j := 2) (v := nxD (V 2)) rfl (by omega) rfl
      have f2 : FM h (sI g1 489 9 (nI (nxD (V 2)))) := (fm.tr r2.fm).sI (by omega)
      by_cases hc : V 2 % 10 < cm
      · rw [if_pos hc] at e1
        have q3 := q2.w (i := 10) (j := 3) (v := V 3 ||| 2 ^ i) rfl (by omega) rfl
        obtain ⟨h2, k1, k2, K⟩ := ih (i + 1) _ (some (.int (nI cm))) (by omega) (by rw [es, e1]; exact q3) (f2.sI (by omega))
        refine ⟨h2, k1, k2, fun N S Q hN hS KK => ?_⟩
        have hN1 : pn h1 ≤ N := by rw [fm.1.n]; exact hN
        have hS1 : ps h1 ≤ S := by rw [fm.1.s]; exact hS
        have hN2 : pn g1 ≤ N := by rw [r2.1.n]; exact hN1
        have hS2 : ps g1 ≤ S := by rw [r2.1.s]; exact hS1
        refine z_iload_n dX9_pass_2 rfl rfl ?_
        refine z_aload_n dX9_pass_3 rfl rfl ?_
        refine y_getR FX9_7 dX9_pass_4 rfl hm.o hm.f_a ?_
        refine z_iconst (v := 0) dX9_pass_7 (by decide) ?_
        refine y_ialN (0) dX9_pass_8 hm.A_a (Nat.le_of_ble_eq_true rfl) (rfl) (by omega) ?_
        refine z_eqi (show _ = nI (a 0) from hp.1.oat (by omega)) ?_
        refine z_icmp_ge dX9_pass_9 rfl (fun c => absurd c (fun q => absurd ((nI_leI (by omega) (by omega)).mp q) (by omega))) (fun _ => ?_)
        refine z_aload_n dX9_pass_12 rfl rfl ?_
        refine y_getR FX9_7 dX9_pass_13 rfl hm.o hm.f_a ?_
        refine z_bipush (v := 10) dX9_pass_16 (by decide) ?_
        refine y_ialN (10) dX9_pass_18 hm.A_a (Nat.le_of_ble_eq_true rfl) (rfl) (by omega) ?_
        refine z_eqi (show _ = nI (V 3) from hp.1.wat 3 rfl (by omega)) ?_
        refine z_iload_n dX9_pass_19 rfl rfl ?_
        refine y_callS (as := [_, _]) CX9_has LX9_261 SX9_has dX9_pass_20 rfl (Nat.le_of_ble_eq_true rfl) (Nat.le_of_ble_eq_true rfl) (by omega) (r_has (n := V 3) (k := i) (by omega) (by omega)) (rok_z bI_01) ⟨Nat.le_refl _, Nat.le_refl _, hN1, hS1⟩ ?_
        refine z_if_eq dX9_pass_23 rfl (fun _ => ?_) (fun c => absurd (bI_eq0.mpr hb) c)
        refine z_aload_n dX9_pass_29 rfl rfl ?_
        refine z_iload_n dX9_pass_30 rfl rfl ?_
        refine y_callV (as := [_]) CX9_comesOf LX9_347 IX9_comesOf VX9_comesOf ⟨rfl, Nat.le_of_ble_eq_true rfl⟩ dX9_pass_31 hm.o rfl (Nat.le_of_ble_eq_true rfl) (Nat.le_of_ble_eq_true rfl) (by omega) r1 rok_i (hg_ss r2.1 hN1 hS1) ?_
        refine z_istore_n dX9_pass_34 rfl (Nat.le_of_ble_eq_true rfl) ?_
        refine z_aload_n dX9_pass_35 rfl rfl ?_
        refine y_callV (as := []) CX9_drawn LX9_350 IX9_drawn VX9_drawn ⟨rfl, Nat.le_of_ble_eq_true rfl⟩ dX9_pass_36 (r2.1.O hm.o) rfl (Nat.le_of_ble_eq_true rfl) (Nat.le_of_ble_eq_true rfl) (by omega) (r_drawn (d := 1) (by exact hm2) e9 iv2 (Nat.le_refl _)) rok_i ⟨Nat.le_refl _, Nat.le_refl _, hN2, hS2⟩ ?_
        refine z_iload_n dX9_pass_39 rfl rfl ?_
        refine z_icmp_ge dX9_pass_40 rfl (fun c => absurd c (fun q => absurd ((nI_leI (by omega) (by omega)).mp q) (by omega))) (fun _ => ?_)
        refine z_aload_n dX9_pass_43 rfl rfl ?_
        refine y_getR FX9_7 dX9_pass_44 rfl (r2.1.O hm.o) (by first | (rw [r2.1.R]; exact hm.f_a) | exact (congrFun (congrFun r2.1.R _) _).trans hm.f_a) ?_
        refine z_bipush (v := 10) dX9_pass_47 (by decide) ?_
        refine z_dup2_11 dX9_pass_49 rfl rfl ?_
        refine y_ialN (10) dX9_pass_50 (r2.1.A hm.A_a) (Nat.le_of_ble_eq_true rfl) (rfl) (by omega) ?_
        refine z_eqi (show _ = nI (V 3) by rw [pI_sI, if_pos rfl, if_neg (by omega)]; exact p1.1.wat 3 rfl (by omega)) ?_
        refine z_iconst (v := 1) dX9_pass_51 (by decide) ?_
        refine z_iload_n dX9_pass_52 rfl rfl ?_
        refine z_ishl dX9_pass_53 ?_
        refine z_eqi (nI_bit (show i < 31 by omega)) ?_
        refine z_ior dX9_pass_54 ?_
        refine z_eqi (nI_or _ _) ?_
        refine y_iasN (10) dX9_pass_55 (r2.1.A hm.A_a) (Nat.le_of_ble_eq_true rfl) (rfl) (by omega) ?_
        refine z_iinc dX9_pass_56 rfl (nI_1 _) (Nat.le_of_ble_eq_true rfl) ?_
        refine z_goto dX9_pass_59 rfl ?_
        exact K N S Q hN hS KK
      · rw [if_neg hc] at e1
        obtain ⟨h2, k1, k2, K⟩ := ih (i + 1) _ (some (.int (nI cm))) (by omega) (by rw [es, e1]; exact q2) f2
        refine ⟨h2, k1, k2, fun N S Q hN hS KK => ?_⟩
        have hN1 : pn h1 ≤ N := by rw [fm.1.n]; exact hN
        have hS1 : ps h1 ≤ S := by rw [fm.1.s]; exact hS
        have hN2 : pn g1 ≤ N := by rw [r2.1.n]; exact hN1
        have hS2 : ps g1 ≤ S := by rw [r2.1.s]; exact hS1
        refine z_iload_n dX9_pass_2 rfl rfl ?_
        refine z_aload_n dX9_pass_3 rfl rfl ?_
        refine y_getR FX9_7 dX9_pass_4 rfl hm.o hm.f_a ?_
        refine z_iconst (v := 0) dX9_pass_7 (by decide) ?_
        refine y_ialN (0) dX9_pass_8 hm.A_a (Nat.le_of_ble_eq_true rfl) (rfl) (by omega) ?_
        refine z_eqi (show _ = nI (a 0) from hp.1.oat (by omega)) ?_
        refine z_icmp_ge dX9_pass_9 rfl (fun c => absurd c (fun q => absurd ((nI_leI (by omega) (by omega)).mp q) (by omega))) (fun _ => ?_)
        refine z_aload_n dX9_pass_12 rfl rfl ?_
        refine y_getR FX9_7 dX9_pass_13 rfl hm.o hm.f_a ?_
        refine z_bipush (v := 10) dX9_pass_16 (by decide) ?_
        refine y_ialN (10) dX9_pass_18 hm.A_a (Nat.le_of_ble_eq_true rfl) (rfl) (by omega) ?_
        refine z_eqi (show _ = nI (V 3) from hp.1.wat 3 rfl (by omega)) ?_
        refine z_iload_n dX9_pass_19 rfl rfl ?_
        refine y_callS (as := [_, _]) CX9_has LX9_261 SX9_has dX9_pass_20 rfl (Nat.le_of_ble_eq_true rfl) (Nat.le_of_ble_eq_true rfl) (by omega) (r_has (n := V 3) (k := i) (by omega) (by omega)) (rok_z bI_01) ⟨Nat.le_refl _, Nat.le_refl _, hN1, hS1⟩ ?_
        refine z_if_eq dX9_pass_23 rfl (fun _ => ?_) (fun c => absurd (bI_eq0.mpr hb) c)
        refine z_aload_n dX9_pass_29 rfl rfl ?_
        refine z_iload_n dX9_pass_30 rfl rfl ?_
        refine y_callV (as := [_]) CX9_comesOf LX9_347 IX9_comesOf VX9_comesOf ⟨rfl, Nat.le_of_ble_eq_true rfl⟩ dX9_pass_31 hm.o rfl (Nat.le_of_ble_eq_true rfl) (Nat.le_of_ble_eq_true rfl) (by omega) r1 rok_i (hg_ss r2.1 hN1 hS1) ?_
        refine z_istore_n dX9_pass_34 rfl (Nat.le_of_ble_eq_true rfl) ?_
        refine z_aload_n dX9_pass_35 rfl rfl ?_
        refine y_callV (as := []) CX9_drawn LX9_350 IX9_drawn VX9_drawn ⟨rfl, Nat.le_of_ble_eq_true rfl⟩ dX9_pass_36 (r2.1.O hm.o) rfl (Nat.le_of_ble_eq_true rfl) (Nat.le_of_ble_eq_true rfl) (by omega) (r_drawn (d := 1) (by exact hm2) e9 iv2 (Nat.le_refl _)) rok_i ⟨Nat.le_refl _, Nat.le_refl _, hN2, hS2⟩ ?_
        refine z_iload_n dX9_pass_39 rfl rfl ?_
        refine z_icmp_ge dX9_pass_40 rfl (fun _ => ?_) (fun c => absurd ((nI_leI (by omega) (by omega)).mpr (by omega)) c)
        refine z_iinc dX9_pass_56 rfl (nI_1 _) (Nat.le_of_ble_eq_true rfl) ?_
        refine z_goto dX9_pass_59 rfl ?_
        exact K N S Q hN hS KK

theorem r_pass_k {g : Nat → Int32} {s : Mr} {a W : Fl} {h : Hp} {d b e n : Nat} (hb : b = 0 ∨ b = 1) (hW : IW n W) (hn : n = a 0) (h0 : a 0 ≤ 8) (h3 : a 3 ≤ 4) (hT : a 3 ≠ 0 → TXV s.2.2.2.2.2 (a 3 - 1)) (hd : 6 ≤ d) {m : Nat} (hm4 : W 4 = m) : ∀ r i (h1 : Hp), i + r = m → PX g s a b (pKs b s.2.2.2.2.2 (a 3) i W) (e + eK b s.2.2.2.2.2 (a 3) i W) h1 → FM h h1 → ∃ h2, PX g s a b (pKs b s.2.2.2.2.2 (a 3) m W) (e + eK b s.2.2.2.2.2 (a 3) m W) h2 ∧ FM h h2 ∧ ∀ (N S : Nat) (Q : Option Value → Hp → Prop) (o2 : Option Value), pn h ≤ N → ps h ≤ S → (∀ o2, T d N S mX9_pass 136 [some (.ref 488), some (.int (nI m)), o2] [] h2 Q) → T d N S mX9_pass 64 [some (.ref 488), some (.int (nI i)), o2] [] h1 Q := by
  intro r
  induction r with
  | zero =>
    intro i h1 hi hp fm
    have ee : i = m := by omega
    rw [ee] at hp ⊢
    have e4 : pKs b s.2.2.2.2.2 (a 3) m W 4 = m := by rw [(iw_pK hW m (by omega)).2 4 (by omega)]; exact hm4
    have hm := hp.1.m
    refine ⟨h1, hp, fm, fun N S Q o2 hN hS K => ?_⟩
    refine z_iload_n dX9_pass_64 rfl rfl ?_
    refine z_aload_n dX9_pass_65 rfl rfl ?_
    refine y_getR FX9_7 dX9_pass_66 rfl hm.o hm.f_a ?_
    refine z_bipush (v := 11) dX9_pass_69 (by decide) ?_
    refine y_ialN (11) dX9_pass_71 hm.A_a (Nat.le_of_ble_eq_true rfl) (rfl) (by omega) ?_
    refine z_eqi (show _ = nI m from (hp.1.wat 4 rfl (by omega)).trans (congrArg nI e4)) ?_
    refine z_icmp_ge dX9_pass_72 rfl (fun _ => ?_) (fun c => absurd (Int32.le_refl _) c)
    exact K _
  | succ r ih =>
    intro i h1 hi hp fm
    have hm := hp.1.m
    have p2 : 2 ^ n ≤ 2 ^ 8 := Nat.pow_le_pow_right (by omega) (by omega)
    obtain ⟨iv, io⟩ := iw_pK (b := b) (tf := s.2.2.2.2.2) (t1 := a 3) hW i (by omega)
    have es : pKs b s.2.2.2.2.2 (a 3) (i + 1) W = stK b s.2.2.2.2.2 (a 3) i (pKs b s.2.2.2.2.2 (a 3) i W) := rfl
    have ee : eK b s.2.2.2.2.2 (a 3) (i + 1) W = eK b s.2.2.2.2.2 (a 3) i W + enK (pKs b s.2.2.2.2.2 (a 3) i W) i := rfl
    have e4 : (pKs b s.2.2.2.2.2 (a 3) i W) 4 = m := by rw [io 4 (by omega)]; exact hm4
    obtain ⟨V, hV⟩ : ∃ V, (pKs b s.2.2.2.2.2 (a 3) i W) = V := ⟨_, rfl⟩
    rw [hV] at hp iv es e4 ee
    generalize eK b s.2.2.2.2.2 (a 3) i W = ek at *
    have b4 := iv.1.2.2.2.2.1
    have b1 := iv.1.2.1
    have b3 := iv.1.2.2.2.1
    have cc := iv.2.2.1 i (by omega)
    have en : nn (nI i) = i := nn_nI (by omega)
    have op : opnW V (nI i) ↔ V (pcx i 5) = 0 := by
      unfold opnW
      rw [en]
      exact ⟨fun q => q.2, fun q => ⟨(vin_nI (by omega) (by omega)).mpr (by omega), q⟩⟩
    by_cases ho : V (pcx i 5) = 0
    · by_cases hmt : metB (V (pcx i 1)) (V (pcx i 2)) (V 3) = true
      · have e1 : stK b s.2.2.2.2.2 (a 3) i V = wTrue b V i (mRen s.2.2.2.2.2 (a 3) V i) := by unfold stK; rw [if_pos ho, if_pos hmt]
        have e2 : enK V i = 1 := if_pos ⟨ho, Or.inl hmt⟩
        obtain ⟨g1, r1, r2, r3⟩ := r_comeTrue (d := 5) (k := i) hp hb iv hn h0 h3 (by omega) hT (by omega)
        obtain ⟨h2, k1, k2, K⟩ := ih (i + 1) g1 (by omega) (by rw [es, e1, ee, e2, ← Nat.add_assoc]; exact r2) (fm.tr r3)
        refine ⟨h2, k1, k2, fun N S Q o2 hN hS KK => ?_⟩
        have hN1 : pn h1 ≤ N := by rw [fm.1.n]; exact hN
        have hS1 : ps h1 ≤ S := by rw [fm.1.s]; exact hS
        refine z_iload_n dX9_pass_64 rfl rfl ?_
        refine z_aload_n dX9_pass_65 rfl rfl ?_
        refine y_getR FX9_7 dX9_pass_66 rfl hm.o hm.f_a ?_
        refine z_bipush (v := 11) dX9_pass_69 (by decide) ?_
        refine y_ialN (11) dX9_pass_71 hm.A_a (Nat.le_of_ble_eq_true rfl) (rfl) (by omega) ?_
        refine z_eqi (show _ = nI m from (hp.1.wat 4 rfl (by omega)).trans (congrArg nI e4)) ?_
        refine z_icmp_ge dX9_pass_72 rfl (fun c => absurd c (fun q => absurd ((nI_leI (by omega) (by omega)).mp q) (by omega))) (fun _ => ?_)
        refine z_aload_n dX9_pass_75 rfl rfl ?_
        refine z_iload_n dX9_pass_76 rfl rfl ?_
        refine y_callV (as := [_]) CX9_isOpen LX9_353 IX9_isOpen VX9_isOpen ⟨rfl, Nat.le_of_ble_eq_true rfl⟩ dX9_pass_77 hm.o rfl (Nat.le_of_ble_eq_true rfl) (Nat.le_of_ble_eq_true rfl) (by omega) (r_isOpenW (d := 2) hp.1 (by omega) (fun k hk => (iv.2.2.1 k hk).2.2.2.2.2.2) _ (Nat.le_refl _)) (rok_z bI_01) ⟨Nat.le_refl _, Nat.le_refl _, hN1, hS1⟩ ?_
        refine z_if_ne dX9_pass_80 rfl (fun _ => ?_) (fun c => absurd c (bI_ne0.mpr (op.mpr ho)))
        refine z_aload_n dX9_pass_86 rfl rfl ?_
        refine z_iload_n dX9_pass_87 rfl rfl ?_
        refine z_aload_n dX9_pass_88 rfl rfl ?_
        refine y_getR FX9_7 dX9_pass_89 rfl hm.o hm.f_a ?_
        refine z_bipush (v := 10) dX9_pass_92 (by decide) ?_
        refine y_ialN (10) dX9_pass_94 hm.A_a (Nat.le_of_ble_eq_true rfl) (rfl) (by omega) ?_
        refine z_eqi (show _ = nI (V 3) from hp.1.wat 3 rfl (by omega)) ?_
        refine y_callV (as := [_, _]) CX9_isSoIn LX9_356 IX9_isSoIn VX9_isSoIn ⟨rfl, Nat.le_of_ble_eq_true rfl⟩ dX9_pass_95 hm.o rfl (Nat.le_of_ble_eq_true rfl) (Nat.le_of_ble_eq_true rfl) (by omega) (r_isSoIn (d := 1) (k := i) (al := V (pcx i 1)) (f := V (pcx i 2)) (g := V 3) (by exact hm) (by omega) (hp.1.wat _ (wx_pc (by omega) (by omega)).symm (by unfold pcx; omega)) (by omega) (hp.1.wat _ (wx_pc (by omega) (by omega)).symm (by unfold pcx; omega)) (by omega) (by omega) (Nat.le_refl _)) (rok_z bI_01) ⟨Nat.le_refl _, Nat.le_refl _, hN1, hS1⟩ ?_
        refine z_if_eq dX9_pass_98 rfl (fun c => absurd c (bI_ne0.mpr hmt)) (fun _ => ?_)
        refine z_aload_n dX9_pass_101 rfl rfl ?_
        refine z_iload_n dX9_pass_102 rfl rfl ?_
        refine y_callV (as := [_]) CX9_comeTrue LX9_359 IX9_comeTrue VX9_comeTrue ⟨rfl, Nat.le_of_ble_eq_true rfl⟩ dX9_pass_103 hm.o rfl (Nat.le_of_ble_eq_true rfl) (Nat.le_of_ble_eq_true rfl) (by omega) r1 rok_v (hg_ss r3.1 hN1 hS1) ?_
        refine z_goto dX9_pass_106 rfl ?_
        refine z_iinc dX9_pass_130 rfl (nI_1 _) (Nat.le_of_ble_eq_true rfl) ?_
        refine z_goto dX9_pass_133 rfl ?_
        exact K N S Q o2 hN hS KK
      · by_cases hdu : V (pcx i 3) ≤ V 1
        · have e1 : stK b s.2.2.2.2.2 (a 3) i V = wFail b V i (mDues s.2.2.2.2.2 (a 3) V i) := by unfold stK; rw [if_pos ho, if_neg hmt, if_pos hdu]
          have e2 : enK V i = 1 := if_pos ⟨ho, Or.inr hdu⟩
          obtain ⟨g1, r1, r2, r3⟩ := r_fail (d := 5) (k := i) hp hb iv hn h0 h3 (by omega) hT (by omega)
          obtain ⟨h2, k1, k2, K⟩ := ih (i + 1) g1 (by omega) (by rw [es, e1, ee, e2, ← Nat.add_assoc]; exact r2) (fm.tr r3)
          refine ⟨h2, k1, k2, fun N S Q o2 hN hS KK => ?_⟩
          have hN1 : pn h1 ≤ N := by rw [fm.1.n]; exact hN
          have hS1 : ps h1 ≤ S := by rw [fm.1.s]; exact hS
          refine z_iload_n dX9_pass_64 rfl rfl ?_
          refine z_aload_n dX9_pass_65 rfl rfl ?_
          refine y_getR FX9_7 dX9_pass_66 rfl hm.o hm.f_a ?_
          refine z_bipush (v := 11) dX9_pass_69 (by decide) ?_
          refine y_ialN (11) dX9_pass_71 hm.A_a (Nat.le_of_ble_eq_true rfl) (rfl) (by omega) ?_
          refine z_eqi (show _ = nI m from (hp.1.wat 4 rfl (by omega)).trans (congrArg nI e4)) ?_
          refine z_icmp_ge dX9_pass_72 rfl (fun c => absurd c (fun q => absurd ((nI_leI (by omega) (by omega)).mp q) (by omega))) (fun _ => ?_)
          refine z_aload_n dX9_pass_75 rfl rfl ?_
          refine z_iload_n dX9_pass_76 rfl rfl ?_
          refine y_callV (as := [_]) CX9_isOpen LX9_353 IX9_isOpen VX9_isOpen ⟨rfl, Nat.le_of_ble_eq_true rfl⟩ dX9_pass_77 hm.o rfl (Nat.le_of_ble_eq_true rfl) (Nat.le_of_ble_eq_true rfl) (by omega) (r_isOpenW (d := 2) hp.1 (by omega) (fun k hk => (iv.2.2.1 k hk).2.2.2.2.2.2) _ (Nat.le_refl _)) (rok_z bI_01) ⟨Nat.le_refl _, Nat.le_refl _, hN1, hS1⟩ ?_
          refine z_if_ne dX9_pass_80 rfl (fun _ => ?_) (fun c => absurd c (bI_ne0.mpr (op.mpr ho)))
          refine z_aload_n dX9_pass_86 rfl rfl ?_
          refine z_iload_n dX9_pass_87 rfl rfl ?_
          refine z_aload_n dX9_pass_88 rfl rfl ?_
          refine y_getR FX9_7 dX9_pass_89 rfl hm.o hm.f_a ?_
          refine z_bipush (v := 10) dX9_pass_92 (by decide) ?_
          refine y_ialN (10) dX9_pass_94 hm.A_a (Nat.le_of_ble_eq_true rfl) (rfl) (by omega) ?_
          refine z_eqi (show _ = nI (V 3) from hp.1.wat 3 rfl (by omega)) ?_
          refine y_callV (as := [_, _]) CX9_isSoIn LX9_356 IX9_isSoIn VX9_isSoIn ⟨rfl, Nat.le_of_ble_eq_true rfl⟩ dX9_pass_95 hm.o rfl (Nat.le_of_ble_eq_true rfl) (Nat.le_of_ble_eq_true rfl) (by omega) (r_isSoIn (d := 1) (k := i) (al := V (pcx i 1)) (f := V (pcx i 2)) (g := V 3) (by exact hm) (by omega) (hp.1.wat _ (wx_pc (by omega) (by omega)).symm (by unfold pcx; omega)) (by omega) (hp.1.wat _ (wx_pc (by omega) (by omega)).symm (by unfold pcx; omega)) (by omega) (by omega) (Nat.le_refl _)) (rok_z bI_01) ⟨Nat.le_refl _, Nat.le_refl _, hN1, hS1⟩ ?_
          refine z_if_eq dX9_pass_98 rfl (fun _ => ?_) (fun c => absurd (bI_eq0.mpr hmt) c)
          refine z_aload_n dX9_pass_109 rfl rfl ?_
          refine y_getR FX9_7 dX9_pass_110 rfl hm.o hm.f_a ?_
          refine z_bipush (v := 8) dX9_pass_113 (by decide) ?_
          refine y_ialN (8) dX9_pass_115 hm.A_a (Nat.le_of_ble_eq_true rfl) (rfl) (by omega) ?_
          refine z_eqi (show _ = nI (V 1) from hp.1.wat 1 rfl (by omega)) ?_
          refine z_aload_n dX9_pass_116 rfl rfl ?_
          refine z_iload_n dX9_pass_117 rfl rfl ?_
          refine z_iconst (v := 3) dX9_pass_118 (by decide) ?_
          refine y_callV (as := [_, _]) CX9_got LX9_67 IX9_got VX9_got ⟨rfl, Nat.le_of_ble_eq_true rfl⟩ dX9_pass_119 hm.o rfl (Nat.le_of_ble_eq_true rfl) (Nat.le_of_ble_eq_true rfl) (by omega) (r_got (j := i) (w := 3) (by exact (by exact hm)) (by omega) (by omega)) rok_i ⟨Nat.le_refl _, Nat.le_refl _, hN1, hS1⟩ ?_
          refine z_eqi (show _ = nI (V (pcx i 3)) from hp.1.wat _ (wx_pc (by omega) (by omega)).symm (by unfold pcx; omega)) ?_
          refine z_icmp_lt dX9_pass_122 rfl (fun c => absurd c (fun q => absurd ((nI_ltI (by omega) (by omega)).mp q) (by omega))) (fun _ => ?_)
          refine z_aload_n dX9_pass_125 rfl rfl ?_
          refine z_iload_n dX9_pass_126 rfl rfl ?_
          refine y_callV (as := [_]) CX9_fail LX9_362 IX9_fail VX9_fail ⟨rfl, Nat.le_of_ble_eq_true rfl⟩ dX9_pass_127 hm.o rfl (Nat.le_of_ble_eq_true rfl) (Nat.le_of_ble_eq_true rfl) (by omega) r1 rok_v (hg_ss r3.1 hN1 hS1) ?_
          refine z_iinc dX9_pass_130 rfl (nI_1 _) (Nat.le_of_ble_eq_true rfl) ?_
          refine z_goto dX9_pass_133 rfl ?_
          exact K N S Q o2 hN hS KK
        · have e1 : stK b s.2.2.2.2.2 (a 3) i V = V := by unfold stK; rw [if_pos ho, if_neg hmt, if_neg hdu]
          have e2 : enK V i = 0 := if_neg (fun q => q.2.elim hmt hdu)
          obtain ⟨h2, k1, k2, K⟩ := ih (i + 1) h1 (by omega) (by rw [es, e1, ee, e2, Nat.add_zero]; exact hp) fm
          refine ⟨h2, k1, k2, fun N S Q o2 hN hS KK => ?_⟩
          have hN1 : pn h1 ≤ N := by rw [fm.1.n]; exact hN
          have hS1 : ps h1 ≤ S := by rw [fm.1.s]; exact hS
          refine z_iload_n dX9_pass_64 rfl rfl ?_
          refine z_aload_n dX9_pass_65 rfl rfl ?_
          refine y_getR FX9_7 dX9_pass_66 rfl hm.o hm.f_a ?_
          refine z_bipush (v := 11) dX9_pass_69 (by decide) ?_
          refine y_ialN (11) dX9_pass_71 hm.A_a (Nat.le_of_ble_eq_true rfl) (rfl) (by omega) ?_
          refine z_eqi (show _ = nI m from (hp.1.wat 4 rfl (by omega)).trans (congrArg nI e4)) ?_
          refine z_icmp_ge dX9_pass_72 rfl (fun c => absurd c (fun q => absurd ((nI_leI (by omega) (by omega)).mp q) (by omega))) (fun _ => ?_)
          refine z_aload_n dX9_pass_75 rfl rfl ?_
          refine z_iload_n dX9_pass_76 rfl rfl ?_
          refine y_callV (as := [_]) CX9_isOpen LX9_353 IX9_isOpen VX9_isOpen ⟨rfl, Nat.le_of_ble_eq_true rfl⟩ dX9_pass_77 hm.o rfl (Nat.le_of_ble_eq_true rfl) (Nat.le_of_ble_eq_true rfl) (by omega) (r_isOpenW (d := 2) hp.1 (by omega) (fun k hk => (iv.2.2.1 k hk).2.2.2.2.2.2) _ (Nat.le_refl _)) (rok_z bI_01) ⟨Nat.le_refl _, Nat.le_refl _, hN1, hS1⟩ ?_
          refine z_if_ne dX9_pass_80 rfl (fun _ => ?_) (fun c => absurd c (bI_ne0.mpr (op.mpr ho)))
          refine z_aload_n dX9_pass_86 rfl rfl ?_
          refine z_iload_n dX9_pass_87 rfl rfl ?_
          refine z_aload_n dX9_pass_88 rfl rfl ?_
          refine y_getR FX9_7 dX9_pass_89 rfl hm.o hm.f_a ?_
          refine z_bipush (v := 10) dX9_pass_92 (by decide) ?_
          refine y_ialN (10) dX9_pass_94 hm.A_a (Nat.le_of_ble_eq_true rfl) (rfl) (by omega) ?_
          refine z_eqi (show _ = nI (V 3) from hp.1.wat 3 rfl (by omega)) ?_
          refine y_callV (as := [_, _]) CX9_isSoIn LX9_356 IX9_isSoIn VX9_isSoIn ⟨rfl, Nat.le_of_ble_eq_true rfl⟩ dX9_pass_95 hm.o rfl (Nat.le_of_ble_eq_true rfl) (Nat.le_of_ble_eq_true rfl) (by omega) (r_isSoIn (d := 1) (k := i) (al := V (pcx i 1)) (f := V (pcx i 2)) (g := V 3) (by exact hm) (by omega) (hp.1.wat _ (wx_pc (by omega) (by omega)).symm (by unfold pcx; omega)) (by omega) (hp.1.wat _ (wx_pc (by omega) (by omega)).symm (by unfold pcx; omega)) (by omega) (by omega) (Nat.le_refl _)) (rok_z bI_01) ⟨Nat.le_refl _, Nat.le_refl _, hN1, hS1⟩ ?_
          refine z_if_eq dX9_pass_98 rfl (fun _ => ?_) (fun c => absurd (bI_eq0.mpr hmt) c)
          refine z_aload_n dX9_pass_109 rfl rfl ?_
          refine y_getR FX9_7 dX9_pass_110 rfl hm.o hm.f_a ?_
          refine z_bipush (v := 8) dX9_pass_113 (by decide) ?_
          refine y_ialN (8) dX9_pass_115 hm.A_a (Nat.le_of_ble_eq_true rfl) (rfl) (by omega) ?_
          refine z_eqi (show _ = nI (V 1) from hp.1.wat 1 rfl (by omega)) ?_
          refine z_aload_n dX9_pass_116 rfl rfl ?_
          refine z_iload_n dX9_pass_117 rfl rfl ?_
          refine z_iconst (v := 3) dX9_pass_118 (by decide) ?_
          refine y_callV (as := [_, _]) CX9_got LX9_67 IX9_got VX9_got ⟨rfl, Nat.le_of_ble_eq_true rfl⟩ dX9_pass_119 hm.o rfl (Nat.le_of_ble_eq_true rfl) (Nat.le_of_ble_eq_true rfl) (by omega) (r_got (j := i) (w := 3) (by exact (by exact hm)) (by omega) (by omega)) rok_i ⟨Nat.le_refl _, Nat.le_refl _, hN1, hS1⟩ ?_
          refine z_eqi (show _ = nI (V (pcx i 3)) from hp.1.wat _ (wx_pc (by omega) (by omega)).symm (by unfold pcx; omega)) ?_
          refine z_icmp_lt dX9_pass_122 rfl (fun _ => ?_) (fun c => absurd ((nI_ltI (by omega) (by omega)).mpr (by omega)) c)
          refine z_iinc dX9_pass_130 rfl (nI_1 _) (Nat.le_of_ble_eq_true rfl) ?_
          refine z_goto dX9_pass_133 rfl ?_
          exact K N S Q o2 hN hS KK
    · have e1 : stK b s.2.2.2.2.2 (a 3) i V = V := by unfold stK; rw [if_neg ho]
      have e2 : enK V i = 0 := if_neg (fun q => ho q.1)
      obtain ⟨h2, k1, k2, K⟩ := ih (i + 1) h1 (by omega) (by rw [es, e1, ee, e2, Nat.add_zero]; exact hp) fm
      refine ⟨h2, k1, k2, fun N S Q o2 hN hS KK => ?_⟩
      have hN1 : pn h1 ≤ N := by rw [fm.1.n]; exact hN
      have hS1 : ps h1 ≤ S := by rw [fm.1.s]; exact hS
      refine z_iload_n dX9_pass_64 rfl rfl ?_
      refine z_aload_n dX9_pass_65 rfl rfl ?_
      refine y_getR FX9_7 dX9_pass_66 rfl hm.o hm.f_a ?_
      refine z_bipush (v := 11) dX9_pass_69 (by decide) ?_
      refine y_ialN (11) dX9_pass_71 hm.A_a (Nat.le_of_ble_eq_true rfl) (rfl) (by omega) ?_
      refine z_eqi (show _ = nI m from (hp.1.wat 4 rfl (by omega)).trans (congrArg nI e4)) ?_
      refine z_icmp_ge dX9_pass_72 rfl (fun c => absurd c (fun q => absurd ((nI_leI (by omega) (by omega)).mp q) (by omega))) (fun _ => ?_)
      refine z_aload_n dX9_pass_75 rfl rfl ?_
      refine z_iload_n dX9_pass_76 rfl rfl ?_
      refine y_callV (as := [_]) CX9_isOpen LX9_353 IX9_isOpen VX9_isOpen ⟨rfl, Nat.le_of_ble_eq_true rfl⟩ dX9_pass_77 hm.o rfl (Nat.le_of_ble_eq_true rfl) (Nat.le_of_ble_eq_true rfl) (by omega) (r_isOpenW (d := 2) hp.1 (by omega) (fun k hk => (iv.2.2.1 k hk).2.2.2.2.2.2) _ (Nat.le_refl _)) (rok_z bI_01) ⟨Nat.le_refl _, Nat.le_refl _, hN1, hS1⟩ ?_
      refine z_if_ne dX9_pass_80 rfl (fun c => absurd (bI_eq0.mpr (fun q => ho (op.mp q))) c) (fun _ => ?_)
      refine z_goto dX9_pass_83 rfl ?_
      refine z_iinc dX9_pass_130 rfl (nI_1 _) (Nat.le_of_ble_eq_true rfl) ?_
      refine z_goto dX9_pass_133 rfl ?_
      exact K N S Q o2 hN hS KK

theorem r_pass {g : Nat → Int32} {s : Mr} {a W : Fl} {h : Hp} {d b e n : Nat} (hb : b = 0 ∨ b = 1) (hW : IW n W) (hn : n = a 0) (h0 : a 0 ≤ 8) (h3 : a 3 ≤ 4) (hF : IFc a) (hT : a 3 ≠ 0 → TXV s.2.2.2.2.2 (a 3 - 1)) (hd : 6 ≤ d) (hp : PX g s a b W e h) : ∃ h1, Sp d mX9_pass [.ref 488] h none h1 ∧ PX g s a b (wPass b s.2.2.2.2.2 a W) (e + ePass b s.2.2.2.2.2 a W) h1 ∧ FM h h1 := by
  obtain ⟨g1, f1, f2, K1⟩ := r_pass_f (e := e) hb hW hn h0 h3 hF hT hd (a 0) 0 h none (by omega) hp FM.rf
  have iv := iw_pF (tf := s.2.2.2.2.2) (a := a) hW (a 0) (by omega)
  have e4 : pF s.2.2.2.2.2 a (a 0) W 4 = W 4 := pF_o (by omega) (by omega) _
  obtain ⟨g2, k1, k2, K2⟩ := r_pass_k (h := g1) (e := e) hb iv hn h0 h3 hT hd e4 (W 4) 0 g1 (by omega) f1 FM.rf
  have q := k1.w (i := 8) (j := 1) (v := wPass0 b s.2.2.2.2.2 a W 1 + 1) rfl (by omega) rfl
  have ff : FM h (sI g2 489 8 (nI (wPass0 b s.2.2.2.2.2 a W 1 + 1))) := (f2.tr k2).sI (by omega)
  refine ⟨_, ?_, q, ff⟩
  have k1 : PX g s a b (wPass0 b s.2.2.2.2.2 a W) (e + ePass b s.2.2.2.2.2 a W) g2 := k1
  generalize wPass0 b s.2.2.2.2.2 a W = X at *
  intro N S Q hN hS hQ
  have hN0 : pn h ≤ N := by rw [← ff.1.n]; exact hN
  have hS0 : ps h ≤ S := by rw [← ff.1.s]; exact hS
  have hm0 := hp.1.m
  have hm := k1.1.m
  have K3 : ∀ o2, T d N S mX9_pass 136 [some (.ref 488), some (.int (nI (W 4))), o2] [] g2 Q := fun o2 => by
    refine z_aload_n dX9_pass_136 rfl rfl ?_
    refine y_getR FX9_7 dX9_pass_137 rfl hm.o hm.f_a ?_
    refine z_bipush (v := 8) dX9_pass_140 (by decide) ?_
    refine z_dup2_11 dX9_pass_142 rfl rfl ?_
    refine y_ialN (8) dX9_pass_143 hm.A_a (Nat.le_of_ble_eq_true rfl) (rfl) (by omega) ?_
    refine z_eqi (show _ = nI (X 1) from k1.1.wat 1 rfl (by omega)) ?_
    refine z_iconst (v := 1) dX9_pass_144 (by decide) ?_
    refine z_iadd dX9_pass_145 ?_
    refine z_eqi (nI_1 _) ?_
    refine y_iasN (8) dX9_pass_146 hm.A_a (Nat.le_of_ble_eq_true rfl) (rfl) (by omega) ?_
    refine z_vret dX9_pass_147 ?_
    exact hQ
  have hN2 : pn g1 ≤ N := by rw [f2.1.n]; exact hN0
  have hS2 : ps g1 ≤ S := by rw [f2.1.s]; exact hS0
  refine z_iconst (v := 0) dX9_pass_0 (by decide) ?_
  refine z_istore_n dX9_pass_1 rfl (Nat.le_of_ble_eq_true rfl) ?_
  refine K1 N S Q hN0 hS0 (fun o2 => ?_)
  refine z_iconst (v := 0) dX9_pass_62 (by decide) ?_
  refine z_istore_n dX9_pass_63 rfl (Nat.le_of_ble_eq_true rfl) ?_
  exact K2 N S Q o2 hN2 hS2 K3

