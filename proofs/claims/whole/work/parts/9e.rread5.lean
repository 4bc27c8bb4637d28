/-! the reference reads a sum: one is begun (walks by program: wip/whole/gen9e.py) -/
theorem tkK_52 {tp : Fl} {n p : Nat} (h : tkK tp n p = 52) : p < n ∧ isD (tp p) = true := by
  unfold tkK at h
  by_cases q : n ≤ p
  · rw [if_pos q] at h; omega
  · rw [if_neg q] at h
    refine ⟨by omega, ?_⟩
    by_cases hl : isL (tp p) = true
    · rw [if_pos hl] at h
      rcases kdW_le (tp := tp) (p := p) (e := rnF isL tp n p) with c | c <;> omega
    · rw [if_neg hl] at h
      by_cases hd : isD (tp p) = true
      · exact hd
      · rw [if_neg hd] at h
        by_cases h2 : two2 tp n p
        · rw [if_pos h2] at h
          split at h <;> omega
        · rw [if_neg h2] at h
          have := sgK_b (tp p)
          omega
theorem num_le {tp : Fl} {n p : Nat} (hp : p < n) (hd : isD (tp p) = true) : nmR tp p (tkE tp n p - p) ≤ 1000000 := by
  have e : tkE tp n p = rnF isD tp n p := by
    unfold tkE
    rw [if_neg (by omega), if_neg (by rw [isLD hd]; decide), if_pos hd]
  rw [e]
  refine nmR_le _ (fun j hj => ?_)
  exact (isD_b.mp (rnF_all (P := isD) (tp := tp) (n := n) (i := p) (j := p + j) (by omega) (by omega)).2).2

theorem r_perc {s : Ms} {t w0 so i op wh : Nat} {ro : List Nat} {c : Cd} {h : Hp} {d : Nat} (rp : RP s t w0 so i ro op wh c h) (ht : ITp s) (hd : 3 ≤ d) : Sp d mX9_isLong [.ref 488, .long (lN (((112 * 256 + 101) * 256 + 114) * 256 + 99)), .long (lN ((101 * 256 + 110) * 256 + 116)), .int (nI 7)] h (some (.int (bI (tK (TPs s) (TNs s) i = 20)))) h := by
  obtain ⟨tf, hr, em, fr, nt, e12, e13, e14, e16, e17, e18, pil⟩ := id rp
  have hm := hr.m
  have n3 : TNs s ≤ 300 := ht.1
  have bb : ∀ k, k < TNs s → TPs s k < 256 := fun k hk => ht.2 k (by omega)
  have e := lg_20 (tp := (TPs s)) (n := (TNs s)) (p := (tP (TPs s) (TNs s) i)) (bb _)
  have e2 : bI (tK (TPs s) (TNs s) i = 20) = _ := (bI_congr e).symm
  rw [e2]
  exact r_isLong7 (s := wTf s tf) (d := d) (w0 := 112) (w1 := 101) (w2 := 114) (w3 := 99) (w4 := 101) (w5 := 110) (w6 := 116) hr ht nt tP_le (by omega) (by omega) (by omega) (by omega) (by omega) (by omega) (by omega) hd

theorem b_big {s : Ms} {t w0 so i op wh : Nat} {ro : List Nat} {c : Cd} {h : Hp} {d : Nat} (rp : RP s t w0 so i ro op wh c h) (ht : ITp s) (hk : tK (TPs s) (TNs s) i = 52) (hb : 9999 < (nmR (TPs s) (tP (TPs s) (TNs s) i) (tkE (TPs s) (TNs s) (tP (TPs s) (TNs s) i) - (tP (TPs s) (TNs s) i)))) : Sp d mX9_beginOne [.ref 488] h (some (.int 2)) h := by
  obtain ⟨tf, hr, em, fr, nt, e12, e13, e14, e16, e17, e18, pil⟩ := id rp
  have hm := hr.m
  have n3 : TNs s ≤ 300 := ht.1
  have bb : ∀ k, k < TNs s → TPs s k < 256 := fun k hk => ht.2 k (by omega)
  have kd := tkK_52 hk
  have e10 := nt.2.2.2.2 kd.1 kd.2
  have nl := num_le (tp := (TPs s)) (n := (TNs s)) kd.1 kd.2
  have ty1 : nI (rtk (TPs s) (TNs s) (tP (TPs s) (TNs s) i)) = nI 1 := congrArg nI (rt_small.2.1.mpr hk)
  intro N S Q hN hS hQ
  refine z_aload_n dX9_beginOne_0 rfl rfl ?_
  refine y_getI FX9_106 dX9_beginOne_1 (Or.inl rfl) hm.o ?_
  refine z_eqi (y := nI (rtk (TPs s) (TNs s) (tP (TPs s) (TNs s) i))) nt.2.2.1 ?_
  refine z_iconst (v := 1) dX9_beginOne_4 (by decide) ?_
  refine z_icmp_ne dX9_beginOne_5 rfl (fun c => absurd (ty1) c) (fun _ => ?_)
  refine z_aload_n dX9_beginOne_8 rfl rfl ?_
  refine y_getI FX9_112 dX9_beginOne_9 (Or.inl rfl) hm.o ?_
  refine z_eqi (y := nI ((nmR (TPs s) (tP (TPs s) (TNs s) i) (tkE (TPs s) (TNs s) (tP (TPs s) (TNs s) i) - (tP (TPs s) (TNs s) i))))) e10 ?_
  refine z_sipush (v := 9999) dX9_beginOne_12 (by decide) ?_
  refine z_icmp_le dX9_beginOne_15 rfl (fun c => absurd c (fun q => absurd ((nI_leI (b := 9999) (by omega) (by omega)).mp q) (by omega))) (fun _ => ?_)
  refine z_iconst (v := 2) dX9_beginOne_18 (by decide) ?_
  refine z_iret dX9_beginOne_19 ?_
  exact hQ
theorem b_num {s : Ms} {t w0 so i op wh : Nat} {ro : List Nat} {c : Cd} {h : Hp} {d : Nat} (rp : RP s t w0 so i ro op wh c h) (ht : ITp s) (ht4 : t < 4) (hw : w0 + c.length ≤ 303) (hk : tK (TPs s) (TNs s) i = 52) (hb : ¬ 9999 < (nmR (TPs s) (tP (TPs s) (TNs s) i) (tkE (TPs s) (TNs s) (tP (TPs s) (TNs s) i) - (tP (TPs s) (TNs s) i)))) (hd : 5 ≤ d) : ∃ h2, RP s t w0 so (i + 1) ro op wh (c ++ [(0, (nmR (TPs s) (tP (TPs s) (TNs s) i) (tkE (TPs s) (TNs s) (tP (TPs s) (TNs s) i) - (tP (TPs s) (TNs s) i))))]) h2 ∧ FQ h h2 ∧ ∀ (r : Int32) (h3 : Hp), Sp 4 mX9_endOne [.ref 488] h2 (some (.int r)) h3 → FQ h2 h3 → Sp d mX9_beginOne [.ref 488] h (some (.int r)) h3 := by
  obtain ⟨tf, hr, em, fr, nt, e12, e13, e14, e16, e17, e18, pil⟩ := id rp
  have hm := hr.m
  have n3 : TNs s ≤ 300 := ht.1
  have bb : ∀ k, k < TNs s → TPs s k < 256 := fun k hk => ht.2 k (by omega)
  have rl := rtk_lt (tp := (TPs s)) (n := (TNs s)) (p := (tP (TPs s) (TNs s) i)) (bb _)
  have ty : ∀ c k, (rtk (TPs s) (TNs s) (tP (TPs s) (TNs s) i) = c ↔ tK (TPs s) (TNs s) i = k) → tK (TPs s) (TNs s) i = k → nI (rtk (TPs s) (TNs s) (tP (TPs s) (TNs s) i)) = nI c := fun c k iff e => congrArg nI (iff.mpr e)
  have tn : ∀ c k, c < 256 → (rtk (TPs s) (TNs s) (tP (TPs s) (TNs s) i) = c ↔ tK (TPs s) (TNs s) i = k) → ¬ tK (TPs s) (TNs s) i = k → ¬ nI (rtk (TPs s) (TNs s) (tP (TPs s) (TNs s) i)) = nI c := fun c k hc iff ne q => ne (iff.mp ((nI_eq (by omega) (by omega)).mp q))
  have nm := r_nameOf (d := 4) rp ht (Nat.le_refl _)
  have lg := r_perc (d := 3) rp ht (Nat.le_refl _)
  have kd := tkK_52 hk
  have e10 := nt.2.2.2.2 kd.1 kd.2
  have nl := num_le (tp := (TPs s)) (n := (TNs s)) kd.1 kd.2
  rw [hk, show nmo 52 = -1 from by decide] at nm
  obtain ⟨g, e1, e2, e3, _⟩ := r_emit (d := 4) (o := 0) (v := (nmR (TPs s) (tP (TPs s) (TNs s) i) (tkE (TPs s) (TNs s) (tP (TPs s) (TNs s) i) - (tP (TPs s) (TNs s) i)))) rp ht4 hw
  obtain ⟨h2, n1, n2, n3x, _⟩ := r_next (d := 4) e2 ht (by omega)
  refine ⟨h2, n2, e3.tr n3x, fun r h3 eo f3 => ?_⟩
  have ff := (e3.tr n3x).tr f3
  intro N S Q hN hS hQ
  have hN : pn h ≤ N := by rw [← ff.1.n]; exact hN
  have hS : ps h ≤ S := by rw [← ff.1.s]; exact hS
  have hN1 : pn g ≤ N := by rw [e3.1.n]; exact hN
  have hS1 : ps g ≤ S := by rw [e3.1.s]; exact hS
  have hge := hg_ss f3.1 (N := N) (S := S) (by rw [n3x.1.n]; exact hN1) (by rw [n3x.1.s]; exact hS1)
  refine z_aload_n dX9_beginOne_0 rfl rfl ?_
  refine y_getI FX9_106 dX9_beginOne_1 (Or.inl rfl) hm.o ?_
  refine z_eqi (y := nI (rtk (TPs s) (TNs s) (tP (TPs s) (TNs s) i))) nt.2.2.1 ?_
  refine z_iconst (v := 1) dX9_beginOne_4 (by decide) ?_
  refine z_icmp_ne dX9_beginOne_5 rfl (fun c => absurd (ty 1 52 rt_small.2.1 hk) c) (fun _ => ?_)
  refine z_aload_n dX9_beginOne_8 rfl rfl ?_
  refine y_getI FX9_112 dX9_beginOne_9 (Or.inl rfl) hm.o ?_
  refine z_eqi (y := nI ((nmR (TPs s) (tP (TPs s) (TNs s) i) (tkE (TPs s) (TNs s) (tP (TPs s) (TNs s) i) - (tP (TPs s) (TNs s) i))))) e10 ?_
  refine z_sipush (v := 9999) dX9_beginOne_12 (by decide) ?_
  refine z_icmp_le dX9_beginOne_15 rfl (fun _ => ?_) (fun c => absurd ((nI_leI (b := 9999) (by omega) (by omega)).mpr (by omega)) c)
  refine z_aload_n dX9_beginOne_20 rfl rfl ?_
  refine y_callV (as := []) CX9_nameOf LX9_176 IX9_nameOf VX9_nameOf ⟨rfl, Nat.le_of_ble_eq_true rfl⟩ dX9_beginOne_21 hm.o rfl (Nat.le_of_ble_eq_true rfl) (Nat.le_of_ble_eq_true rfl) (by omega) nm rok_i ⟨Nat.le_refl _, Nat.le_refl _, hN, hS⟩ ?_
  refine z_istore_n dX9_beginOne_24 rfl (Nat.le_of_ble_eq_true rfl) ?_
  refine z_iload_n dX9_beginOne_25 rfl rfl ?_
  refine z_if_lt dX9_beginOne_26 rfl (fun _ => ?_) (fun c => absurd (by decide) c)
  refine z_aload_n dX9_beginOne_39 rfl rfl ?_
  refine y_getI FX9_106 dX9_beginOne_40 (Or.inl rfl) hm.o ?_
  refine z_eqi (y := nI (rtk (TPs s) (TNs s) (tP (TPs s) (TNs s) i))) nt.2.2.1 ?_
  refine z_iconst (v := 1) dX9_beginOne_43 (by decide) ?_
  refine z_icmp_eq dX9_beginOne_44 rfl (fun _ => ?_) (fun c => absurd (ty 1 52 rt_small.2.1 hk) c)
  refine z_aload_n dX9_beginOne_51 rfl rfl ?_
  refine z_aload_n dX9_beginOne_52 rfl rfl ?_
  refine y_getI FX9_106 dX9_beginOne_53 (Or.inl rfl) hm.o ?_
  refine z_eqi (y := nI (rtk (TPs s) (TNs s) (tP (TPs s) (TNs s) i))) nt.2.2.1 ?_
  refine z_iconst (v := 1) dX9_beginOne_56 (by decide) ?_
  refine z_icmp_ne dX9_beginOne_57 rfl (fun c => absurd (ty 1 52 rt_small.2.1 hk) c) (fun _ => ?_)
  refine z_iconst (v := 0) dX9_beginOne_60 (by decide) ?_
  refine z_goto dX9_beginOne_61 rfl ?_
  refine z_aload_n dX9_beginOne_65 rfl rfl ?_
  refine y_getI FX9_106 dX9_beginOne_66 (Or.inl rfl) hm.o ?_
  refine z_eqi (y := nI (rtk (TPs s) (TNs s) (tP (TPs s) (TNs s) i))) nt.2.2.1 ?_
  refine z_iconst (v := 1) dX9_beginOne_69 (by decide) ?_
  refine z_icmp_ne dX9_beginOne_70 rfl (fun c => absurd (ty 1 52 rt_small.2.1 hk) c) (fun _ => ?_)
  refine z_aload_n dX9_beginOne_73 rfl rfl ?_
  refine y_getI FX9_112 dX9_beginOne_74 (Or.inl rfl) hm.o ?_
  refine z_eqi (y := nI ((nmR (TPs s) (tP (TPs s) (TNs s) i) (tkE (TPs s) (TNs s) (tP (TPs s) (TNs s) i) - (tP (TPs s) (TNs s) i))))) e10 ?_
  refine z_goto dX9_beginOne_77 rfl ?_
  refine y_callV (as := [_, _]) CX9_emit LX9_159 IX9_emit VX9_emit ⟨rfl, Nat.le_of_ble_eq_true rfl⟩ dX9_beginOne_81 hm.o rfl (Nat.le_of_ble_eq_true rfl) (Nat.le_of_ble_eq_true rfl) (by omega) e1 rok_v (hg_ss e3.1 hN hS) ?_
  refine z_aload_n dX9_beginOne_84 rfl rfl ?_
  refine y_callV (as := []) CX9_nextToken LX9_173 IX9_nextToken VX9_nextToken ⟨rfl, Nat.le_of_ble_eq_true rfl⟩ dX9_beginOne_85 (e3.1.O hm.o) rfl (Nat.le_of_ble_eq_true rfl) (Nat.le_of_ble_eq_true rfl) (by omega) n1 rok_v (hg_ss n3x.1 hN1 hS1) ?_
  refine z_aload_n dX9_beginOne_88 rfl rfl ?_
  refine y_callV (as := []) CX9_endOne LX9_182 IX9_endOne VX9_endOne ⟨rfl, Nat.le_of_ble_eq_true rfl⟩ dX9_beginOne_89 ((e3.1.tr n3x.1).O hm.o) rfl (Nat.le_of_ble_eq_true rfl) (Nat.le_of_ble_eq_true rfl) (by omega) eo rok_i hge ?_
  refine z_iret dX9_beginOne_92 ?_
  exact hQ
theorem b_nameN {s : Ms} {t w0 so i op wh : Nat} {ro : List Nat} {c : Cd} {h : Hp} {d : Nat} (rp : RP s t w0 so i ro op wh c h) (ht : ITp s) {m : Nat} (hm10 : m ≤ 10) (hso : so ≤ 9) (hn : nmo (tK (TPs s) (TNs s) i) = nI m) (hk : ¬ tK (TPs s) (TNs s) i = 52) (hno : ¬ (m < 2 ∨ (m < 5 ↔ so = 0))) (hd : 5 ≤ d) : Sp d mX9_beginOne [.ref 488] h (some (.int 5)) h := by
  obtain ⟨tf, hr, em, fr, nt, e12, e13, e14, e16, e17, e18, pil⟩ := id rp
  have hm := hr.m
  have n3 : TNs s ≤ 300 := ht.1
  have bb : ∀ k, k < TNs s → TPs s k < 256 := fun k hk => ht.2 k (by omega)
  have rl := rtk_lt (tp := (TPs s)) (n := (TNs s)) (p := (tP (TPs s) (TNs s) i)) (bb _)
  have ty : ∀ c k, (rtk (TPs s) (TNs s) (tP (TPs s) (TNs s) i) = c ↔ tK (TPs s) (TNs s) i = k) → tK (TPs s) (TNs s) i = k → nI (rtk (TPs s) (TNs s) (tP (TPs s) (TNs s) i)) = nI c := fun c k iff e => congrArg nI (iff.mpr e)
  have tn : ∀ c k, c < 256 → (rtk (TPs s) (TNs s) (tP (TPs s) (TNs s) i) = c ↔ tK (TPs s) (TNs s) i = k) → ¬ tK (TPs s) (TNs s) i = k → ¬ nI (rtk (TPs s) (TNs s) (tP (TPs s) (TNs s) i)) = nI c := fun c k hc iff ne q => ne (iff.mp ((nI_eq (by omega) (by omega)).mp q))
  have nm := r_nameOf (d := 4) rp ht (Nat.le_refl _)
  have lg := r_perc (d := 3) rp ht (Nat.le_refl _)
  rw [hn] at nm
  have io := r_isOf (d := 0) rp hm10 hso
  intro N S Q hN hS hQ
  refine z_aload_n dX9_beginOne_0 rfl rfl ?_
  refine y_getI FX9_106 dX9_beginOne_1 (Or.inl rfl) hm.o ?_
  refine z_eqi (y := nI (rtk (TPs s) (TNs s) (tP (TPs s) (TNs s) i))) nt.2.2.1 ?_
  refine z_iconst (v := 1) dX9_beginOne_4 (by decide) ?_
  refine z_icmp_ne dX9_beginOne_5 rfl (fun _ => ?_) (fun c => absurd c (tn 1 52 (by omega) rt_small.2.1 hk))
  refine z_aload_n dX9_beginOne_20 rfl rfl ?_
  refine y_callV (as := []) CX9_nameOf LX9_176 IX9_nameOf VX9_nameOf ⟨rfl, Nat.le_of_ble_eq_true rfl⟩ dX9_beginOne_21 hm.o rfl (Nat.le_of_ble_eq_true rfl) (Nat.le_of_ble_eq_true rfl) (by omega) nm rok_i ⟨Nat.le_refl _, Nat.le_refl _, hN, hS⟩ ?_
  refine z_istore_n dX9_beginOne_24 rfl (Nat.le_of_ble_eq_true rfl) ?_
  refine z_iload_n dX9_beginOne_25 rfl rfl ?_
  refine z_if_lt dX9_beginOne_26 rfl (fun c => absurd c (nI_pos (by omega))) (fun _ => ?_)
  refine z_aload_n dX9_beginOne_29 rfl rfl ?_
  refine z_iload_n dX9_beginOne_30 rfl rfl ?_
  refine y_callV (as := [_]) CX9_isOf LX9_179 IX9_isOf VX9_isOf ⟨rfl, Nat.le_of_ble_eq_true rfl⟩ dX9_beginOne_31 hm.o rfl (Nat.le_of_ble_eq_true rfl) (Nat.le_of_ble_eq_true rfl) (by omega) io (rok_z bI_01) ⟨Nat.le_refl _, Nat.le_refl _, hN, hS⟩ ?_
  refine z_if_ne dX9_beginOne_34 rfl (fun c => absurd (bI_eq0.mpr hno) c) (fun _ => ?_)
  refine z_iconst (v := 5) dX9_beginOne_37 (by decide) ?_
  refine z_iret dX9_beginOne_38 ?_
  exact hQ
theorem b_name {s : Ms} {t w0 so i op wh : Nat} {ro : List Nat} {c : Cd} {h : Hp} {d : Nat} (rp : RP s t w0 so i ro op wh c h) (ht : ITp s) (ht4 : t < 4) (hw : w0 + c.length ≤ 303) {m : Nat} (hm10 : m ≤ 10) (hso : so ≤ 9) (hn : nmo (tK (TPs s) (TNs s) i) = nI m) (hk : ¬ tK (TPs s) (TNs s) i = 52) (hok : m < 2 ∨ (m < 5 ↔ so = 0)) (hd : 5 ≤ d) : ∃ h2, RP s t w0 so (i + 1) ro op wh (c ++ [(1, m)]) h2 ∧ FQ h h2 ∧ ∀ (r : Int32) (h3 : Hp), Sp 4 mX9_endOne [.ref 488] h2 (some (.int r)) h3 → FQ h2 h3 → Sp d mX9_beginOne [.ref 488] h (some (.int r)) h3 := by
  obtain ⟨tf, hr, em, fr, nt, e12, e13, e14, e16, e17, e18, pil⟩ := id rp
  have hm := hr.m
  have n3 : TNs s ≤ 300 := ht.1
  have bb : ∀ k, k < TNs s → TPs s k < 256 := fun k hk => ht.2 k (by omega)
  have rl := rtk_lt (tp := (TPs s)) (n := (TNs s)) (p := (tP (TPs s) (TNs s) i)) (bb _)
  have ty : ∀ c k, (rtk (TPs s) (TNs s) (tP (TPs s) (TNs s) i) = c ↔ tK (TPs s) (TNs s) i = k) → tK (TPs s) (TNs s) i = k → nI (rtk (TPs s) (TNs s) (tP (TPs s) (TNs s) i)) = nI c := fun c k iff e => congrArg nI (iff.mpr e)
  have tn : ∀ c k, c < 256 → (rtk (TPs s) (TNs s) (tP (TPs s) (TNs s) i) = c ↔ tK (TPs s) (TNs s) i = k) → ¬ tK (TPs s) (TNs s) i = k → ¬ nI (rtk (TPs s) (TNs s) (tP (TPs s) (TNs s) i)) = nI c := fun c k hc iff ne q => ne (iff.mp ((nI_eq (by omega) (by omega)).mp q))
  have nm := r_nameOf (d := 4) rp ht (Nat.le_refl _)
  have lg := r_perc (d := 3) rp ht (Nat.le_refl _)
  rw [hn] at nm
  have io := r_isOf (d := 0) rp hm10 hso
  obtain ⟨g, e1, e2, e3, _⟩ := r_emit (d := 4) (o := 1) (v := m) rp ht4 hw
  obtain ⟨h2, n1, n2, n3x, _⟩ := r_next (d := 4) e2 ht (by omega)
  refine ⟨h2, n2, e3.tr n3x, fun r h3 eo f3 => ?_⟩
  have ff := (e3.tr n3x).tr f3
  intro N S Q hN hS hQ
  have hN : pn h ≤ N := by rw [← ff.1.n]; exact hN
  have hS : ps h ≤ S := by rw [← ff.1.s]; exact hS
  have hN1 : pn g ≤ N := by rw [e3.1.n]; exact hN
  have hS1 : ps g ≤ S := by rw [e3.1.s]; exact hS
  have hge := hg_ss f3.1 (N := N) (S := S) (by rw [n3x.1.n]; exact hN1) (by rw [n3x.1.s]; exact hS1)
  have t1 := tn 1 52 (by omega) rt_small.2.1 hk
  refine z_aload_n dX9_beginOne_0 rfl rfl ?_
  refine y_getI FX9_106 dX9_beginOne_1 (Or.inl rfl) hm.o ?_
  refine z_eqi (y := nI (rtk (TPs s) (TNs s) (tP (TPs s) (TNs s) i))) nt.2.2.1 ?_
  refine z_iconst (v := 1) dX9_beginOne_4 (by decide) ?_
  refine z_icmp_ne dX9_beginOne_5 rfl (fun _ => ?_) (fun c => absurd c (t1))
  refine z_aload_n dX9_beginOne_20 rfl rfl ?_
  refine y_callV (as := []) CX9_nameOf LX9_176 IX9_nameOf VX9_nameOf ⟨rfl, Nat.le_of_ble_eq_true rfl⟩ dX9_beginOne_21 hm.o rfl (Nat.le_of_ble_eq_true rfl) (Nat.le_of_ble_eq_true rfl) (by omega) nm rok_i ⟨Nat.le_refl _, Nat.le_refl _, hN, hS⟩ ?_
  refine z_istore_n dX9_beginOne_24 rfl (Nat.le_of_ble_eq_true rfl) ?_
  refine z_iload_n dX9_beginOne_25 rfl rfl ?_
  refine z_if_lt dX9_beginOne_26 rfl (fun c => absurd c (nI_pos (by omega))) (fun _ => ?_)
  refine z_aload_n dX9_beginOne_29 rfl rfl ?_
  refine z_iload_n dX9_beginOne_30 rfl rfl ?_
  refine y_callV (as := [_]) CX9_isOf LX9_179 IX9_isOf VX9_isOf ⟨rfl, Nat.le_of_ble_eq_true rfl⟩ dX9_beginOne_31 hm.o rfl (Nat.le_of_ble_eq_true rfl) (Nat.le_of_ble_eq_true rfl) (by omega) io (rok_z bI_01) ⟨Nat.le_refl _, Nat.le_refl _, hN, hS⟩ ?_
  refine z_if_ne dX9_beginOne_34 rfl (fun _ => ?_) (fun c => absurd c (bI_ne0.mpr hok))
  refine z_aload_n dX9_beginOne_39 rfl rfl ?_
  refine y_getI FX9_106 dX9_beginOne_40 (Or.inl rfl) hm.o ?_
  refine z_eqi (y := nI (rtk (TPs s) (TNs s) (tP (TPs s) (TNs s) i))) nt.2.2.1 ?_
  refine z_iconst (v := 1) dX9_beginOne_43 (by decide) ?_
  refine z_icmp_eq dX9_beginOne_44 rfl (fun c => absurd c (t1)) (fun _ => ?_)
  refine z_iload_n dX9_beginOne_47 rfl rfl ?_
  refine z_if_lt dX9_beginOne_48 rfl (fun c => absurd c (nI_pos (by omega))) (fun _ => ?_)
  refine z_aload_n dX9_beginOne_51 rfl rfl ?_
  refine z_aload_n dX9_beginOne_52 rfl rfl ?_
  refine y_getI FX9_106 dX9_beginOne_53 (Or.inl rfl) hm.o ?_
  refine z_eqi (y := nI (rtk (TPs s) (TNs s) (tP (TPs s) (TNs s) i))) nt.2.2.1 ?_
  refine z_iconst (v := 1) dX9_beginOne_56 (by decide) ?_
  refine z_icmp_ne dX9_beginOne_57 rfl (fun _ => ?_) (fun c => absurd c (t1))
  refine z_iconst (v := 1) dX9_beginOne_64 (by decide) ?_
  refine z_aload_n dX9_beginOne_65 rfl rfl ?_
  refine y_getI FX9_106 dX9_beginOne_66 (Or.inl rfl) hm.o ?_
  refine z_eqi (y := nI (rtk (TPs s) (TNs s) (tP (TPs s) (TNs s) i))) nt.2.2.1 ?_
  refine z_iconst (v := 1) dX9_beginOne_69 (by decide) ?_
  refine z_icmp_ne dX9_beginOne_70 rfl (fun _ => ?_) (fun c => absurd c (t1))
  refine z_iload_n dX9_beginOne_80 rfl rfl ?_
  refine y_callV (as := [_, _]) CX9_emit LX9_159 IX9_emit VX9_emit ⟨rfl, Nat.le_of_ble_eq_true rfl⟩ dX9_beginOne_81 hm.o rfl (Nat.le_of_ble_eq_true rfl) (Nat.le_of_ble_eq_true rfl) (by omega) e1 rok_v (hg_ss e3.1 hN hS) ?_
  refine z_aload_n dX9_beginOne_84 rfl rfl ?_
  refine y_callV (as := []) CX9_nextToken LX9_173 IX9_nextToken VX9_nextToken ⟨rfl, Nat.le_of_ble_eq_true rfl⟩ dX9_beginOne_85 (e3.1.O hm.o) rfl (Nat.le_of_ble_eq_true rfl) (Nat.le_of_ble_eq_true rfl) (by omega) n1 rok_v (hg_ss n3x.1 hN1 hS1) ?_
  refine z_aload_n dX9_beginOne_88 rfl rfl ?_
  refine y_callV (as := []) CX9_endOne LX9_182 IX9_endOne VX9_endOne ⟨rfl, Nat.le_of_ble_eq_true rfl⟩ dX9_beginOne_89 ((e3.1.tr n3x.1).O hm.o) rfl (Nat.le_of_ble_eq_true rfl) (Nat.le_of_ble_eq_true rfl) (by omega) eo rok_i hge ?_
  refine z_iret dX9_beginOne_92 ?_
  exact hQ

theorem b_open_48 {s : Ms} {t w0 so i op wh : Nat} {ro : List Nat} {c : Cd} {h : Hp} {d : Nat} (rp : RP s t w0 so i ro op wh c h) (ht : ITp s) (hk : tK (TPs s) (TNs s) i = 48) (h8 : op < 8) (hl : ro.length < 160) (hd : 5 ≤ d) : ∃ h1, Sp d mX9_beginOne [.ref 488] h (some (.int 0)) h1 ∧ RP s t w0 so (i + 1) (40 :: ro) (op + 1) wh c h1 ∧ FQ h h1 := by
  obtain ⟨tf, hr, em, fr, nt, e12, e13, e14, e16, e17, e18, pil⟩ := id rp
  have hm := hr.m
  have n3 : TNs s ≤ 300 := ht.1
  have bb : ∀ k, k < TNs s → TPs s k < 256 := fun k hk => ht.2 k (by omega)
  have rl := rtk_lt (tp := (TPs s)) (n := (TNs s)) (p := (tP (TPs s) (TNs s) i)) (bb _)
  have ty : ∀ c k, (rtk (TPs s) (TNs s) (tP (TPs s) (TNs s) i) = c ↔ tK (TPs s) (TNs s) i = k) → tK (TPs s) (TNs s) i = k → nI (rtk (TPs s) (TNs s) (tP (TPs s) (TNs s) i)) = nI c := fun c k iff e => congrArg nI (iff.mpr e)
  have tn : ∀ c k, c < 256 → (rtk (TPs s) (TNs s) (tP (TPs s) (TNs s) i) = c ↔ tK (TPs s) (TNs s) i = k) → ¬ tK (TPs s) (TNs s) i = k → ¬ nI (rtk (TPs s) (TNs s) (tP (TPs s) (TNs s) i)) = nI c := fun c k hc iff ne q => ne (iff.mp ((nI_eq (by omega) (by omega)).mp q))
  have nm := r_nameOf (d := 4) rp ht (Nat.le_refl _)
  have lg := r_perc (d := 3) rp ht (Nat.le_refl _)
  have t1 := tn 1 52 (by omega) rt_small.2.1 (show ¬ tK (TPs s) (TNs s) i = 52 by omega)
  rw [hk, show nmo 48 = -1 from by decide] at nm
  obtain ⟨h1, op1, o2, o3⟩ := r_opened (d := 2) (x := 40) rp ht (by omega) h8 hl (Nat.le_refl _)
  refine ⟨h1, ?_, o2, o3⟩
  intro N S Q hN hS hQ
  have hN : pn h ≤ N := by rw [← o3.1.n]; exact hN
  have hS : ps h ≤ S := by rw [← o3.1.s]; exact hS
  have hgo := hg_ss o3.1 hN hS
  refine z_aload_n dX9_beginOne_0 rfl rfl ?_
  refine y_getI FX9_106 dX9_beginOne_1 (Or.inl rfl) hm.o ?_
  refine z_eqi (y := nI (rtk (TPs s) (TNs s) (tP (TPs s) (TNs s) i))) nt.2.2.1 ?_
  refine z_iconst (v := 1) dX9_beginOne_4 (by decide) ?_
  refine z_icmp_ne dX9_beginOne_5 rfl (fun _ => ?_) (fun c => absurd c (t1))
  refine z_aload_n dX9_beginOne_20 rfl rfl ?_
  refine y_callV (as := []) CX9_nameOf LX9_176 IX9_nameOf VX9_nameOf ⟨rfl, Nat.le_of_ble_eq_true rfl⟩ dX9_beginOne_21 hm.o rfl (Nat.le_of_ble_eq_true rfl) (Nat.le_of_ble_eq_true rfl) (by omega) nm rok_i ⟨Nat.le_refl _, Nat.le_refl _, hN, hS⟩ ?_
  refine z_istore_n dX9_beginOne_24 rfl (Nat.le_of_ble_eq_true rfl) ?_
  refine z_iload_n dX9_beginOne_25 rfl rfl ?_
  refine z_if_lt dX9_beginOne_26 rfl (fun _ => ?_) (fun c => absurd (by decide) c)
  refine z_aload_n dX9_beginOne_39 rfl rfl ?_
  refine y_getI FX9_106 dX9_beginOne_40 (Or.inl rfl) hm.o ?_
  refine z_eqi (y := nI (rtk (TPs s) (TNs s) (tP (TPs s) (TNs s) i))) nt.2.2.1 ?_
  refine z_iconst (v := 1) dX9_beginOne_43 (by decide) ?_
  refine z_icmp_eq dX9_beginOne_44 rfl (fun c => absurd c (t1)) (fun _ => ?_)
  refine z_iload_n dX9_beginOne_47 rfl rfl ?_
  refine z_if_lt dX9_beginOne_48 rfl (fun _ => ?_) (fun c => absurd (by decide) c)
  refine z_aload_n dX9_beginOne_93 rfl rfl ?_
  refine y_getI FX9_106 dX9_beginOne_94 (Or.inl rfl) hm.o ?_
  refine z_eqi (y := nI (rtk (TPs s) (TNs s) (tP (TPs s) (TNs s) i))) nt.2.2.1 ?_
  refine z_bipush (v := 40) dX9_beginOne_97 (by decide) ?_
  refine z_icmp_ne dX9_beginOne_99 rfl (fun c => absurd (ty 40 48 (rt_sg (c := 40) (by decide)) hk) c) (fun _ => ?_)
  refine z_aload_n dX9_beginOne_102 rfl rfl ?_
  refine z_bipush (v := 40) dX9_beginOne_103 (by decide) ?_
  refine y_callV (as := [_]) CX9_opened LX9_185 IX9_opened VX9_opened ⟨rfl, Nat.le_of_ble_eq_true rfl⟩ dX9_beginOne_105 hm.o rfl (Nat.le_of_ble_eq_true rfl) (Nat.le_of_ble_eq_true rfl) (by omega) op1 rok_i hgo ?_
  refine z_iret dX9_beginOne_108 ?_
  exact hQ
theorem b_deep_48 {s : Ms} {t w0 so i op wh : Nat} {ro : List Nat} {c : Cd} {h : Hp} {d : Nat} (rp : RP s t w0 so i ro op wh c h) (ht : ITp s) (hk : tK (TPs s) (TNs s) i = 48) (h8 : op = 8) (hd : 5 ≤ d) : Sp d mX9_beginOne [.ref 488] h (some (.int 3)) h := by
  obtain ⟨tf, hr, em, fr, nt, e12, e13, e14, e16, e17, e18, pil⟩ := id rp
  have hm := hr.m
  have n3 : TNs s ≤ 300 := ht.1
  have bb : ∀ k, k < TNs s → TPs s k < 256 := fun k hk => ht.2 k (by omega)
  have rl := rtk_lt (tp := (TPs s)) (n := (TNs s)) (p := (tP (TPs s) (TNs s) i)) (bb _)
  have ty : ∀ c k, (rtk (TPs s) (TNs s) (tP (TPs s) (TNs s) i) = c ↔ tK (TPs s) (TNs s) i = k) → tK (TPs s) (TNs s) i = k → nI (rtk (TPs s) (TNs s) (tP (TPs s) (TNs s) i)) = nI c := fun c k iff e => congrArg nI (iff.mpr e)
  have tn : ∀ c k, c < 256 → (rtk (TPs s) (TNs s) (tP (TPs s) (TNs s) i) = c ↔ tK (TPs s) (TNs s) i = k) → ¬ tK (TPs s) (TNs s) i = k → ¬ nI (rtk (TPs s) (TNs s) (tP (TPs s) (TNs s) i)) = nI c := fun c k hc iff ne q => ne (iff.mp ((nI_eq (by omega) (by omega)).mp q))
  have nm := r_nameOf (d := 4) rp ht (Nat.le_refl _)
  have lg := r_perc (d := 3) rp ht (Nat.le_refl _)
  have t1 := tn 1 52 (by omega) rt_small.2.1 (show ¬ tK (TPs s) (TNs s) i = 52 by omega)
  rw [hk, show nmo 48 = -1 from by decide] at nm
  have op1 := r_opened8 (d := 2) (x := 40) rp h8
  intro N S Q hN hS hQ
  have hgo := hg_ss SS.rf hN hS
  refine z_aload_n dX9_beginOne_0 rfl rfl ?_
  refine y_getI FX9_106 dX9_beginOne_1 (Or.inl rfl) hm.o ?_
  refine z_eqi (y := nI (rtk (TPs s) (TNs s) (tP (TPs s) (TNs s) i))) nt.2.2.1 ?_
  refine z_iconst (v := 1) dX9_beginOne_4 (by decide) ?_
  refine z_icmp_ne dX9_beginOne_5 rfl (fun _ => ?_) (fun c => absurd c (t1))
  refine z_aload_n dX9_beginOne_20 rfl rfl ?_
  refine y_callV (as := []) CX9_nameOf LX9_176 IX9_nameOf VX9_nameOf ⟨rfl, Nat.le_of_ble_eq_true rfl⟩ dX9_beginOne_21 hm.o rfl (Nat.le_of_ble_eq_true rfl) (Nat.le_of_ble_eq_true rfl) (by omega) nm rok_i ⟨Nat.le_refl _, Nat.le_refl _, hN, hS⟩ ?_
  refine z_istore_n dX9_beginOne_24 rfl (Nat.le_of_ble_eq_true rfl) ?_
  refine z_iload_n dX9_beginOne_25 rfl rfl ?_
  refine z_if_lt dX9_beginOne_26 rfl (fun _ => ?_) (fun c => absurd (by decide) c)
  refine z_aload_n dX9_beginOne_39 rfl rfl ?_
  refine y_getI FX9_106 dX9_beginOne_40 (Or.inl rfl) hm.o ?_
  refine z_eqi (y := nI (rtk (TPs s) (TNs s) (tP (TPs s) (TNs s) i))) nt.2.2.1 ?_
  refine z_iconst (v := 1) dX9_beginOne_43 (by decide) ?_
  refine z_icmp_eq dX9_beginOne_44 rfl (fun c => absurd c (t1)) (fun _ => ?_)
  refine z_iload_n dX9_beginOne_47 rfl rfl ?_
  refine z_if_lt dX9_beginOne_48 rfl (fun _ => ?_) (fun c => absurd (by decide) c)
  refine z_aload_n dX9_beginOne_93 rfl rfl ?_
  refine y_getI FX9_106 dX9_beginOne_94 (Or.inl rfl) hm.o ?_
  refine z_eqi (y := nI (rtk (TPs s) (TNs s) (tP (TPs s) (TNs s) i))) nt.2.2.1 ?_
  refine z_bipush (v := 40) dX9_beginOne_97 (by decide) ?_
  refine z_icmp_ne dX9_beginOne_99 rfl (fun c => absurd (ty 40 48 (rt_sg (c := 40) (by decide)) hk) c) (fun _ => ?_)
  refine z_aload_n dX9_beginOne_102 rfl rfl ?_
  refine z_bipush (v := 40) dX9_beginOne_103 (by decide) ?_
  refine y_callV (as := [_]) CX9_opened LX9_185 IX9_opened VX9_opened ⟨rfl, Nat.le_of_ble_eq_true rfl⟩ dX9_beginOne_105 hm.o rfl (Nat.le_of_ble_eq_true rfl) (Nat.le_of_ble_eq_true rfl) (by omega) op1 rok_i hgo ?_
  refine z_iret dX9_beginOne_108 ?_
  exact hQ

theorem b_open_45 {s : Ms} {t w0 so i op wh : Nat} {ro : List Nat} {c : Cd} {h : Hp} {d : Nat} (rp : RP s t w0 so i ro op wh c h) (ht : ITp s) (hk : tK (TPs s) (TNs s) i = 45) (h8 : op < 8) (hl : ro.length < 160) (hd : 5 ≤ d) : ∃ h1, Sp d mX9_beginOne [.ref 488] h (some (.int 0)) h1 ∧ RP s t w0 so (i + 1) (5 :: ro) (op + 1) wh c h1 ∧ FQ h h1 := by
  obtain ⟨tf, hr, em, fr, nt, e12, e13, e14, e16, e17, e18, pil⟩ := id rp
  have hm := hr.m
  have n3 : TNs s ≤ 300 := ht.1
  have bb : ∀ k, k < TNs s → TPs s k < 256 := fun k hk => ht.2 k (by omega)
  have rl := rtk_lt (tp := (TPs s)) (n := (TNs s)) (p := (tP (TPs s) (TNs s) i)) (bb _)
  have ty : ∀ c k, (rtk (TPs s) (TNs s) (tP (TPs s) (TNs s) i) = c ↔ tK (TPs s) (TNs s) i = k) → tK (TPs s) (TNs s) i = k → nI (rtk (TPs s) (TNs s) (tP (TPs s) (TNs s) i)) = nI c := fun c k iff e => congrArg nI (iff.mpr e)
  have tn : ∀ c k, c < 256 → (rtk (TPs s) (TNs s) (tP (TPs s) (TNs s) i) = c ↔ tK (TPs s) (TNs s) i = k) → ¬ tK (TPs s) (TNs s) i = k → ¬ nI (rtk (TPs s) (TNs s) (tP (TPs s) (TNs s) i)) = nI c := fun c k hc iff ne q => ne (iff.mp ((nI_eq (by omega) (by omega)).mp q))
  have nm := r_nameOf (d := 4) rp ht (Nat.le_refl _)
  have lg := r_perc (d := 3) rp ht (Nat.le_refl _)
  have t1 := tn 1 52 (by omega) rt_small.2.1 (show ¬ tK (TPs s) (TNs s) i = 52 by omega)
  rw [hk, show nmo 45 = -1 from by decide] at nm
  obtain ⟨h1, op1, o2, o3⟩ := r_opened (d := 2) (x := 5) rp ht (by omega) h8 hl (Nat.le_refl _)
  refine ⟨h1, ?_, o2, o3⟩
  intro N S Q hN hS hQ
  have hN : pn h ≤ N := by rw [← o3.1.n]; exact hN
  have hS : ps h ≤ S := by rw [← o3.1.s]; exact hS
  have hgo := hg_ss o3.1 hN hS
  refine z_aload_n dX9_beginOne_0 rfl rfl ?_
  refine y_getI FX9_106 dX9_beginOne_1 (Or.inl rfl) hm.o ?_
  refine z_eqi (y := nI (rtk (TPs s) (TNs s) (tP (TPs s) (TNs s) i))) nt.2.2.1 ?_
  refine z_iconst (v := 1) dX9_beginOne_4 (by decide) ?_
  refine z_icmp_ne dX9_beginOne_5 rfl (fun _ => ?_) (fun c => absurd c (t1))
  refine z_aload_n dX9_beginOne_20 rfl rfl ?_
  refine y_callV (as := []) CX9_nameOf LX9_176 IX9_nameOf VX9_nameOf ⟨rfl, Nat.le_of_ble_eq_true rfl⟩ dX9_beginOne_21 hm.o rfl (Nat.le_of_ble_eq_true rfl) (Nat.le_of_ble_eq_true rfl) (by omega) nm rok_i ⟨Nat.le_refl _, Nat.le_refl _, hN, hS⟩ ?_
  refine z_istore_n dX9_beginOne_24 rfl (Nat.le_of_ble_eq_true rfl) ?_
  refine z_iload_n dX9_beginOne_25 rfl rfl ?_
  refine z_if_lt dX9_beginOne_26 rfl (fun _ => ?_) (fun c => absurd (by decide) c)
  refine z_aload_n dX9_beginOne_39 rfl rfl ?_
  refine y_getI FX9_106 dX9_beginOne_40 (Or.inl rfl) hm.o ?_
  refine z_eqi (y := nI (rtk (TPs s) (TNs s) (tP (TPs s) (TNs s) i))) nt.2.2.1 ?_
  refine z_iconst (v := 1) dX9_beginOne_43 (by decide) ?_
  refine z_icmp_eq dX9_beginOne_44 rfl (fun c => absurd c (t1)) (fun _ => ?_)
  refine z_iload_n dX9_beginOne_47 rfl rfl ?_
  refine z_if_lt dX9_beginOne_48 rfl (fun _ => ?_) (fun c => absurd (by decide) c)
  refine z_aload_n dX9_beginOne_93 rfl rfl ?_
  refine y_getI FX9_106 dX9_beginOne_94 (Or.inl rfl) hm.o ?_
  refine z_eqi (y := nI (rtk (TPs s) (TNs s) (tP (TPs s) (TNs s) i))) nt.2.2.1 ?_
  refine z_bipush (v := 40) dX9_beginOne_97 (by decide) ?_
  refine z_icmp_ne dX9_beginOne_99 rfl (fun _ => ?_) (fun c => absurd c (tn 40 48 (by omega) (rt_sg (c := 40) (by decide)) (by omega)))
  refine z_aload_n dX9_beginOne_109 rfl rfl ?_
  refine y_getI FX9_106 dX9_beginOne_110 (Or.inl rfl) hm.o ?_
  refine z_eqi (y := nI (rtk (TPs s) (TNs s) (tP (TPs s) (TNs s) i))) nt.2.2.1 ?_
  refine z_bipush (v := 45) dX9_beginOne_113 (by decide) ?_
  refine z_icmp_ne dX9_beginOne_115 rfl (fun c => absurd (ty 45 45 (rt_sg (c := 45) (by decide)) hk) c) (fun _ => ?_)
  refine z_aload_n dX9_beginOne_118 rfl rfl ?_
  refine z_iconst (v := 5) dX9_beginOne_119 (by decide) ?_
  refine y_callV (as := [_]) CX9_opened LX9_185 IX9_opened VX9_opened ⟨rfl, Nat.le_of_ble_eq_true rfl⟩ dX9_beginOne_120 hm.o rfl (Nat.le_of_ble_eq_true rfl) (Nat.le_of_ble_eq_true rfl) (by omega) op1 rok_i hgo ?_
  refine z_iret dX9_beginOne_123 ?_
  exact hQ
theorem b_deep_45 {s : Ms} {t w0 so i op wh : Nat} {ro : List Nat} {c : Cd} {h : Hp} {d : Nat} (rp : RP s t w0 so i ro op wh c h) (ht : ITp s) (hk : tK (TPs s) (TNs s) i = 45) (h8 : op = 8) (hd : 5 ≤ d) : Sp d mX9_beginOne [.ref 488] h (some (.int 3)) h := by
  obtain ⟨tf, hr, em, fr, nt, e12, e13, e14, e16, e17, e18, pil⟩ := id rp
  have hm := hr.m
  have n3 : TNs s ≤ 300 := ht.1
  have bb : ∀ k, k < TNs s → TPs s k < 256 := fun k hk => ht.2 k (by omega)
  have rl := rtk_lt (tp := (TPs s)) (n := (TNs s)) (p := (tP (TPs s) (TNs s) i)) (bb _)
  have ty : ∀ c k, (rtk (TPs s) (TNs s) (tP (TPs s) (TNs s) i) = c ↔ tK (TPs s) (TNs s) i = k) → tK (TPs s) (TNs s) i = k → nI (rtk (TPs s) (TNs s) (tP (TPs s) (TNs s) i)) = nI c := fun c k iff e => congrArg nI (iff.mpr e)
  have tn : ∀ c k, c < 256 → (rtk (TPs s) (TNs s) (tP (TPs s) (TNs s) i) = c ↔ tK (TPs s) (TNs s) i = k) → ¬ tK (TPs s) (TNs s) i = k → ¬ nI (rtk (TPs s) (TNs s) (tP (TPs s) (TNs s) i)) = nI c := fun c k hc iff ne q => ne (iff.mp ((nI_eq (by omega) (by omega)).mp q))
  have nm := r_nameOf (d := 4) rp ht (Nat.le_refl _)
  have lg := r_perc (d := 3) rp ht (Nat.le_refl _)
  have t1 := tn 1 52 (by omega) rt_small.2.1 (show ¬ tK (TPs s) (TNs s) i = 52 by omega)
  rw [hk, show nmo 45 = -1 from by decide] at nm
  have op1 := r_opened8 (d := 2) (x := 5) rp h8
  intro N S Q hN hS hQ
  have hgo := hg_ss SS.rf hN hS
  refine z_aload_n dX9_beginOne_0 rfl rfl ?_
  refine y_getI FX9_106 dX9_beginOne_1 (Or.inl rfl) hm.o ?_
  refine z_eqi (y := nI (rtk (TPs s) (TNs s) (tP (TPs s) (TNs s) i))) nt.2.2.1 ?_
  refine z_iconst (v := 1) dX9_beginOne_4 (by decide) ?_
  refine z_icmp_ne dX9_beginOne_5 rfl (fun _ => ?_) (fun c => absurd c (t1))
  refine z_aload_n dX9_beginOne_20 rfl rfl ?_
  refine y_callV (as := []) CX9_nameOf LX9_176 IX9_nameOf VX9_nameOf ⟨rfl, Nat.le_of_ble_eq_true rfl⟩ dX9_beginOne_21 hm.o rfl (Nat.le_of_ble_eq_true rfl) (Nat.le_of_ble_eq_true rfl) (by omega) nm rok_i ⟨Nat.le_refl _, Nat.le_refl _, hN, hS⟩ ?_
  refine z_istore_n dX9_beginOne_24 rfl (Nat.le_of_ble_eq_true rfl) ?_
  refine z_iload_n dX9_beginOne_25 rfl rfl ?_
  refine z_if_lt dX9_beginOne_26 rfl (fun _ => ?_) (fun c => absurd (by decide) c)
  refine z_aload_n dX9_beginOne_39 rfl rfl ?_
  refine y_getI FX9_106 dX9_beginOne_40 (Or.inl rfl) hm.o ?_
  refine z_eqi (y := nI (rtk (TPs s) (TNs s) (tP (TPs s) (TNs s) i))) nt.2.2.1 ?_
  refine z_iconst (v := 1) dX9_beginOne_43 (by decide) ?_
  refine z_icmp_eq dX9_beginOne_44 rfl (fun c => absurd c (t1)) (fun _ => ?_)
  refine z_iload_n dX9_beginOne_47 rfl rfl ?_
  refine z_if_lt dX9_beginOne_48 rfl (fun _ => ?_) (fun c => absurd (by decide) c)
  refine z_aload_n dX9_beginOne_93 rfl rfl ?_
  refine y_getI FX9_106 dX9_beginOne_94 (Or.inl rfl) hm.o ?_
  refine z_eqi (y := nI (rtk (TPs s) (TNs s) (tP (TPs s) (TNs s) i))) nt.2.2.1 ?_
  refine z_bipush (v := 40) dX9_beginOne_97 (by decide) ?_
  refine z_icmp_ne dX9_beginOne_99 rfl (fun _ => ?_) (fun c => absurd c (tn 40 48 (by omega) (rt_sg (c := 40) (by decide)) (by omega)))
  refine z_aload_n dX9_beginOne_109 rfl rfl ?_
  refine y_getI FX9_106 dX9_beginOne_110 (Or.inl rfl) hm.o ?_
  refine z_eqi (y := nI (rtk (TPs s) (TNs s) (tP (TPs s) (TNs s) i))) nt.2.2.1 ?_
  refine z_bipush (v := 45) dX9_beginOne_113 (by decide) ?_
  refine z_icmp_ne dX9_beginOne_115 rfl (fun c => absurd (ty 45 45 (rt_sg (c := 45) (by decide)) hk) c) (fun _ => ?_)
  refine z_aload_n dX9_beginOne_118 rfl rfl ?_
  refine z_iconst (v := 5) dX9_beginOne_119 (by decide) ?_
  refine y_callV (as := [_]) CX9_opened LX9_185 IX9_opened VX9_opened ⟨rfl, Nat.le_of_ble_eq_true rfl⟩ dX9_beginOne_120 hm.o rfl (Nat.le_of_ble_eq_true rfl) (Nat.le_of_ble_eq_true rfl) (by omega) op1 rok_i hgo ?_
  refine z_iret dX9_beginOne_123 ?_
  exact hQ

theorem b_open_20 {s : Ms} {t w0 so i op wh : Nat} {ro : List Nat} {c : Cd} {h : Hp} {d : Nat} (rp : RP s t w0 so i ro op wh c h) (ht : ITp s) (hk : tK (TPs s) (TNs s) i = 20) (h8 : op < 8) (hl : ro.length < 160) (hd : 5 ≤ d) : ∃ h1, Sp d mX9_beginOne [.ref 488] h (some (.int 0)) h1 ∧ RP s t w0 so (i + 1) (41 :: ro) (op + 1) wh c h1 ∧ FQ h h1 := by
  obtain ⟨tf, hr, em, fr, nt, e12, e13, e14, e16, e17, e18, pil⟩ := id rp
  have hm := hr.m
  have n3 : TNs s ≤ 300 := ht.1
  have bb : ∀ k, k < TNs s → TPs s k < 256 := fun k hk => ht.2 k (by omega)
  have rl := rtk_lt (tp := (TPs s)) (n := (TNs s)) (p := (tP (TPs s) (TNs s) i)) (bb _)
  have ty : ∀ c k, (rtk (TPs s) (TNs s) (tP (TPs s) (TNs s) i) = c ↔ tK (TPs s) (TNs s) i = k) → tK (TPs s) (TNs s) i = k → nI (rtk (TPs s) (TNs s) (tP (TPs s) (TNs s) i)) = nI c := fun c k iff e => congrArg nI (iff.mpr e)
  have tn : ∀ c k, c < 256 → (rtk (TPs s) (TNs s) (tP (TPs s) (TNs s) i) = c ↔ tK (TPs s) (TNs s) i = k) → ¬ tK (TPs s) (TNs s) i = k → ¬ nI (rtk (TPs s) (TNs s) (tP (TPs s) (TNs s) i)) = nI c := fun c k hc iff ne q => ne (iff.mp ((nI_eq (by omega) (by omega)).mp q))
  have nm := r_nameOf (d := 4) rp ht (Nat.le_refl _)
  have lg := r_perc (d := 3) rp ht (Nat.le_refl _)
  have t1 := tn 1 52 (by omega) rt_small.2.1 (show ¬ tK (TPs s) (TNs s) i = 52 by omega)
  rw [hk, show nmo 20 = -1 from by decide] at nm
  obtain ⟨h1, op1, o2, o3⟩ := r_opened (d := 2) (x := 41) rp ht (by omega) h8 hl (Nat.le_refl _)
  refine ⟨h1, ?_, o2, o3⟩
  intro N S Q hN hS hQ
  have hN : pn h ≤ N := by rw [← o3.1.n]; exact hN
  have hS : ps h ≤ S := by rw [← o3.1.s]; exact hS
  have hgo := hg_ss o3.1 hN hS
  refine z_aload_n dX9_beginOne_0 rfl rfl ?_
  refine y_getI FX9_106 dX9_beginOne_1 (Or.inl rfl) hm.o ?_
  refine z_eqi (y := nI (rtk (TPs s) (TNs s) (tP (TPs s) (TNs s) i))) nt.2.2.1 ?_
  refine z_iconst (v := 1) dX9_beginOne_4 (by decide) ?_
  refine z_icmp_ne dX9_beginOne_5 rfl (fun _ => ?_) (fun c => absurd c (t1))
  refine z_aload_n dX9_beginOne_20 rfl rfl ?_
  refine y_callV (as := []) CX9_nameOf LX9_176 IX9_nameOf VX9_nameOf ⟨rfl, Nat.le_of_ble_eq_true rfl⟩ dX9_beginOne_21 hm.o rfl (Nat.le_of_ble_eq_true rfl) (Nat.le_of_ble_eq_true rfl) (by omega) nm rok_i ⟨Nat.le_refl _, Nat.le_refl _, hN, hS⟩ ?_
  refine z_istore_n dX9_beginOne_24 rfl (Nat.le_of_ble_eq_true rfl) ?_
  refine z_iload_n dX9_beginOne_25 rfl rfl ?_
  refine z_if_lt dX9_beginOne_26 rfl (fun _ => ?_) (fun c => absurd (by decide) c)
  refine z_aload_n dX9_beginOne_39 rfl rfl ?_
  refine y_getI FX9_106 dX9_beginOne_40 (Or.inl rfl) hm.o ?_
  refine z_eqi (y := nI (rtk (TPs s) (TNs s) (tP (TPs s) (TNs s) i))) nt.2.2.1 ?_
  refine z_iconst (v := 1) dX9_beginOne_43 (by decide) ?_
  refine z_icmp_eq dX9_beginOne_44 rfl (fun c => absurd c (t1)) (fun _ => ?_)
  refine z_iload_n dX9_beginOne_47 rfl rfl ?_
  refine z_if_lt dX9_beginOne_48 rfl (fun _ => ?_) (fun c => absurd (by decide) c)
  refine z_aload_n dX9_beginOne_93 rfl rfl ?_
  refine y_getI FX9_106 dX9_beginOne_94 (Or.inl rfl) hm.o ?_
  refine z_eqi (y := nI (rtk (TPs s) (TNs s) (tP (TPs s) (TNs s) i))) nt.2.2.1 ?_
  refine z_bipush (v := 40) dX9_beginOne_97 (by decide) ?_
  refine z_icmp_ne dX9_beginOne_99 rfl (fun _ => ?_) (fun c => absurd c (tn 40 48 (by omega) (rt_sg (c := 40) (by decide)) (by omega)))
  refine z_aload_n dX9_beginOne_109 rfl rfl ?_
  refine y_getI FX9_106 dX9_beginOne_110 (Or.inl rfl) hm.o ?_
  refine z_eqi (y := nI (rtk (TPs s) (TNs s) (tP (TPs s) (TNs s) i))) nt.2.2.1 ?_
  refine z_bipush (v := 45) dX9_beginOne_113 (by decide) ?_
  refine z_icmp_ne dX9_beginOne_115 rfl (fun _ => ?_) (fun c => absurd c (tn 45 45 (by omega) (rt_sg (c := 45) (by decide)) (by omega)))
  refine z_aload_n dX9_beginOne_124 rfl rfl ?_
  refine z_bipush (v := 112) dX9_beginOne_125 (by decide) ?_
  refine z_bipush (v := 101) dX9_beginOne_127 (by decide) ?_
  refine z_bipush (v := 114) dX9_beginOne_129 (by decide) ?_
  refine z_bipush (v := 99) dX9_beginOne_131 (by decide) ?_
  refine y_callS (as := [_, _, _, _]) CX9_w4 LX9_136 SX9_w4 dX9_beginOne_133 rfl (Nat.le_of_ble_eq_true rfl) (Nat.le_of_ble_eq_true rfl) (by omega) (r_w4 (d := 2) (a0 := 112) (a1 := 101) (a2 := 114) (a3 := 99) (by omega) (by omega) (by omega) (by omega) (Nat.le_refl _)) rok_l ⟨Nat.le_refl _, Nat.le_refl _, hN, hS⟩ ?_
  refine z_bipush (v := 101) dX9_beginOne_136 (by decide) ?_
  refine z_bipush (v := 110) dX9_beginOne_138 (by decide) ?_
  refine z_bipush (v := 116) dX9_beginOne_140 (by decide) ?_
  refine y_callS (as := [_, _, _]) CX9_w3 LX9_132 SX9_w3 dX9_beginOne_142 rfl (Nat.le_of_ble_eq_true rfl) (Nat.le_of_ble_eq_true rfl) (by omega) (r_w3 (d := 1) (a0 := 101) (a1 := 110) (a2 := 116) (by omega) (by omega) (by omega) (Nat.le_refl _)) rok_l ⟨Nat.le_refl _, Nat.le_refl _, hN, hS⟩ ?_
  refine z_bipush (v := 7) dX9_beginOne_145 (by decide) ?_
  refine y_callV (as := [_, _, _]) CX9_isLong LX9_188 IX9_isLong VX9_isLong ⟨rfl, Nat.le_of_ble_eq_true rfl⟩ dX9_beginOne_147 hm.o rfl (Nat.le_of_ble_eq_true rfl) (Nat.le_of_ble_eq_true rfl) (by omega) lg (rok_z bI_01) ⟨Nat.le_refl _, Nat.le_refl _, hN, hS⟩ ?_
  refine z_if_eq dX9_beginOne_150 rfl (fun c => absurd c (bI_ne0.mpr hk)) (fun _ => ?_)
  refine z_aload_n dX9_beginOne_153 rfl rfl ?_
  refine z_bipush (v := 41) dX9_beginOne_154 (by decide) ?_
  refine y_callV (as := [_]) CX9_opened LX9_185 IX9_opened VX9_opened ⟨rfl, Nat.le_of_ble_eq_true rfl⟩ dX9_beginOne_156 hm.o rfl (Nat.le_of_ble_eq_true rfl) (Nat.le_of_ble_eq_true rfl) (by omega) op1 rok_i hgo ?_
  refine z_iret dX9_beginOne_159 ?_
  exact hQ
theorem b_deep_20 {s : Ms} {t w0 so i op wh : Nat} {ro : List Nat} {c : Cd} {h : Hp} {d : Nat} (rp : RP s t w0 so i ro op wh c h) (ht : ITp s) (hk : tK (TPs s) (TNs s) i = 20) (h8 : op = 8) (hd : 5 ≤ d) : Sp d mX9_beginOne [.ref 488] h (some (.int 3)) h := by
  obtain ⟨tf, hr, em, fr, nt, e12, e13, e14, e16, e17, e18, pil⟩ := id rp
  have hm := hr.m
  have n3 : TNs s ≤ 300 := ht.1
  have bb : ∀ k, k < TNs s → TPs s k < 256 := fun k hk => ht.2 k (by omega)
  have rl := rtk_lt (tp := (TPs s)) (n := (TNs s)) (p := (tP (TPs s) (TNs s) i)) (bb _)
  have ty : ∀ c k, (rtk (TPs s) (TNs s) (tP (TPs s) (TNs s) i) = c ↔ tK (TPs s) (TNs s) i = k) → tK (TPs s) (TNs s) i = k → nI (rtk (TPs s) (TNs s) (tP (TPs s) (TNs s) i)) = nI c := fun c k iff e => congrArg nI (iff.mpr e)
  have tn : ∀ c k, c < 256 → (rtk (TPs s) (TNs s) (tP (TPs s) (TNs s) i) = c ↔ tK (TPs s) (TNs s) i = k) → ¬ tK (TPs s) (TNs s) i = k → ¬ nI (rtk (TPs s) (TNs s) (tP (TPs s) (TNs s) i)) = nI c := fun c k hc iff ne q => ne (iff.mp ((nI_eq (by omega) (by omega)).mp q))
  have nm := r_nameOf (d := 4) rp ht (Nat.le_refl _)
  have lg := r_perc (d := 3) rp ht (Nat.le_refl _)
  have t1 := tn 1 52 (by omega) rt_small.2.1 (show ¬ tK (TPs s) (TNs s) i = 52 by omega)
  rw [hk, show nmo 20 = -1 from by decide] at nm
  have op1 := r_opened8 (d := 2) (x := 41) rp h8
  intro N S Q hN hS hQ
  have hgo := hg_ss SS.rf hN hS
  refine z_aload_n dX9_beginOne_0 rfl rfl ?_
  refine y_getI FX9_106 dX9_beginOne_1 (Or.inl rfl) hm.o ?_
  refine z_eqi (y := nI (rtk (TPs s) (TNs s) (tP (TPs s) (TNs s) i))) nt.2.2.1 ?_
  refine z_iconst (v := 1) dX9_beginOne_4 (by decide) ?_
  refine z_icmp_ne dX9_beginOne_5 rfl (fun _ => ?_) (fun c => absurd c (t1))
  refine z_aload_n dX9_beginOne_20 rfl rfl ?_
  refine y_callV (as := []) CX9_nameOf LX9_176 IX9_nameOf VX9_nameOf ⟨rfl, Nat.le_of_ble_eq_true rfl⟩ dX9_beginOne_21 hm.o rfl (Nat.le_of_ble_eq_true rfl) (Nat.le_of_ble_eq_true rfl) (by omega) nm rok_i ⟨Nat.le_refl _, Nat.le_refl _, hN, hS⟩ ?_
  refine z_istore_n dX9_beginOne_24 rfl (Nat.le_of_ble_eq_true rfl) ?_
  refine z_iload_n dX9_beginOne_25 rfl rfl ?_
  refine z_if_lt dX9_beginOne_26 rfl (fun _ => ?_) (fun c => absurd (by decide) c)
  refine z_aload_n dX9_beginOne_39 rfl rfl ?_
  refine y_getI FX9_106 dX9_beginOne_40 (Or.inl rfl) hm.o ?_
  refine z_eqi (y := nI (rtk (TPs s) (TNs s) (tP (TPs s) (TNs s) i))) nt.2.2.1 ?_
  refine z_iconst (v := 1) dX9_beginOne_43 (by decide) ?_
  refine z_icmp_eq dX9_beginOne_44 rfl (fun c => absurd c (t1)) (fun _ => ?_)
  refine z_iload_n dX9_beginOne_47 rfl rfl ?_
  refine z_if_lt dX9_beginOne_48 rfl (fun _ => ?_) (fun c => absurd (by decide) c)
  refine z_aload_n dX9_beginOne_93 rfl rfl ?_
  refine y_getI FX9_106 dX9_beginOne_94 (Or.inl rfl) hm.o ?_
  refine z_eqi (y := nI (rtk (TPs s) (TNs s) (tP (TPs s) (TNs s) i))) nt.2.2.1 ?_
  refine z_bipush (v := 40) dX9_beginOne_97 (by decide) ?_
  refine z_icmp_ne dX9_beginOne_99 rfl (fun _ => ?_) (fun c => absurd c (tn 40 48 (by omega) (rt_sg (c := 40) (by decide)) (by omega)))
  refine z_aload_n dX9_beginOne_109 rfl rfl ?_
  refine y_getI FX9_106 dX9_beginOne_110 (Or.inl rfl) hm.o ?_
  refine z_eqi (y := nI (rtk (TPs s) (TNs s) (tP (TPs s) (TNs s) i))) nt.2.2.1 ?_
  refine z_bipush (v := 45) dX9_beginOne_113 (by decide) ?_
  refine z_icmp_ne dX9_beginOne_115 rfl (fun _ => ?_) (fun c => absurd c (tn 45 45 (by omega) (rt_sg (c := 45) (by decide)) (by omega)))
  refine z_aload_n dX9_beginOne_124 rfl rfl ?_
  refine z_bipush (v := 112) dX9_beginOne_125 (by decide) ?_
  refine z_bipush (v := 101) dX9_beginOne_127 (by decide) ?_
  refine z_bipush (v := 114) dX9_beginOne_129 (by decide) ?_
  refine z_bipush (v := 99) dX9_beginOne_131 (by decide) ?_
  refine y_callS (as := [_, _, _, _]) CX9_w4 LX9_136 SX9_w4 dX9_beginOne_133 rfl (Nat.le_of_ble_eq_true rfl) (Nat.le_of_ble_eq_true rfl) (by omega) (r_w4 (d := 2) (a0 := 112) (a1 := 101) (a2 := 114) (a3 := 99) (by omega) (by omega) (by omega) (by omega) (Nat.le_refl _)) rok_l ⟨Nat.le_refl _, Nat.le_refl _, hN, hS⟩ ?_
  refine z_bipush (v := 101) dX9_beginOne_136 (by decide) ?_
  refine z_bipush (v := 110) dX9_beginOne_138 (by decide) ?_
  refine z_bipush (v := 116) dX9_beginOne_140 (by decide) ?_
  refine y_callS (as := [_, _, _]) CX9_w3 LX9_132 SX9_w3 dX9_beginOne_142 rfl (Nat.le_of_ble_eq_true rfl) (Nat.le_of_ble_eq_true rfl) (by omega) (r_w3 (d := 1) (a0 := 101) (a1 := 110) (a2 := 116) (by omega) (by omega) (by omega) (Nat.le_refl _)) rok_l ⟨Nat.le_refl _, Nat.le_refl _, hN, hS⟩ ?_
  refine z_bipush (v := 7) dX9_beginOne_145 (by decide) ?_
  refine y_callV (as := [_, _, _]) CX9_isLong LX9_188 IX9_isLong VX9_isLong ⟨rfl, Nat.le_of_ble_eq_true rfl⟩ dX9_beginOne_147 hm.o rfl (Nat.le_of_ble_eq_true rfl) (Nat.le_of_ble_eq_true rfl) (by omega) lg (rok_z bI_01) ⟨Nat.le_refl _, Nat.le_refl _, hN, hS⟩ ?_
  refine z_if_eq dX9_beginOne_150 rfl (fun c => absurd c (bI_ne0.mpr hk)) (fun _ => ?_)
  refine z_aload_n dX9_beginOne_153 rfl rfl ?_
  refine z_bipush (v := 41) dX9_beginOne_154 (by decide) ?_
  refine y_callV (as := [_]) CX9_opened LX9_185 IX9_opened VX9_opened ⟨rfl, Nat.le_of_ble_eq_true rfl⟩ dX9_beginOne_156 hm.o rfl (Nat.le_of_ble_eq_true rfl) (Nat.le_of_ble_eq_true rfl) (by omega) op1 rok_i hgo ?_
  refine z_iret dX9_beginOne_159 ?_
  exact hQ

theorem b_open_22 {s : Ms} {t w0 so i op wh : Nat} {ro : List Nat} {c : Cd} {h : Hp} {d : Nat} (rp : RP s t w0 so i ro op wh c h) (ht : ITp s) (hk : tK (TPs s) (TNs s) i = 22) (h8 : op < 8) (hl : ro.length < 160) (hd : 5 ≤ d) : ∃ h1, Sp d mX9_beginOne [.ref 488] h (some (.int 0)) h1 ∧ RP s t w0 so (i + 1) (2 :: ro) (op + 1) wh c h1 ∧ FQ h h1 := by
  obtain ⟨tf, hr, em, fr, nt, e12, e13, e14, e16, e17, e18, pil⟩ := id rp
  have hm := hr.m
  have n3 : TNs s ≤ 300 := ht.1
  have bb : ∀ k, k < TNs s → TPs s k < 256 := fun k hk => ht.2 k (by omega)
  have rl := rtk_lt (tp := (TPs s)) (n := (TNs s)) (p := (tP (TPs s) (TNs s) i)) (bb _)
  have ty : ∀ c k, (rtk (TPs s) (TNs s) (tP (TPs s) (TNs s) i) = c ↔ tK (TPs s) (TNs s) i = k) → tK (TPs s) (TNs s) i = k → nI (rtk (TPs s) (TNs s) (tP (TPs s) (TNs s) i)) = nI c := fun c k iff e => congrArg nI (iff.mpr e)
  have tn : ∀ c k, c < 256 → (rtk (TPs s) (TNs s) (tP (TPs s) (TNs s) i) = c ↔ tK (TPs s) (TNs s) i = k) → ¬ tK (TPs s) (TNs s) i = k → ¬ nI (rtk (TPs s) (TNs s) (tP (TPs s) (TNs s) i)) = nI c := fun c k hc iff ne q => ne (iff.mp ((nI_eq (by omega) (by omega)).mp q))
  have nm := r_nameOf (d := 4) rp ht (Nat.le_refl _)
  have lg := r_perc (d := 3) rp ht (Nat.le_refl _)
  have t1 := tn 1 52 (by omega) rt_small.2.1 (show ¬ tK (TPs s) (TNs s) i = 52 by omega)
  rw [hk, show nmo 22 = -1 from by decide] at nm
  obtain ⟨h1, op1, o2, o3⟩ := r_opened (d := 2) (x := 2) rp ht (by omega) h8 hl (Nat.le_refl _)
  refine ⟨h1, ?_, o2, o3⟩
  intro N S Q hN hS hQ
  have hN : pn h ≤ N := by rw [← o3.1.n]; exact hN
  have hS : ps h ≤ S := by rw [← o3.1.s]; exact hS
  have hgo := hg_ss o3.1 hN hS
  refine z_aload_n dX9_beginOne_0 rfl rfl ?_
  refine y_getI FX9_106 dX9_beginOne_1 (Or.inl rfl) hm.o ?_
  refine z_eqi (y := nI (rtk (TPs s) (TNs s) (tP (TPs s) (TNs s) i))) nt.2.2.1 ?_
  refine z_iconst (v := 1) dX9_beginOne_4 (by decide) ?_
  refine z_icmp_ne dX9_beginOne_5 rfl (fun _ => ?_) (fun c => absurd c (t1))
  refine z_aload_n dX9_beginOne_20 rfl rfl ?_
  refine y_callV (as := []) CX9_nameOf LX9_176 IX9_nameOf VX9_nameOf ⟨rfl, Nat.le_of_ble_eq_true rfl⟩ dX9_beginOne_21 hm.o rfl (Nat.le_of_ble_eq_true rfl) (Nat.le_of_ble_eq_true rfl) (by omega) nm rok_i ⟨Nat.le_refl _, Nat.le_refl _, hN, hS⟩ ?_
  refine z_istore_n dX9_beginOne_24 rfl (Nat.le_of_ble_eq_true rfl) ?_
  refine z_iload_n dX9_beginOne_25 rfl rfl ?_
  refine z_if_lt dX9_beginOne_26 rfl (fun _ => ?_) (fun c => absurd (by decide) c)
  refine z_aload_n dX9_beginOne_39 rfl rfl ?_
  refine y_getI FX9_106 dX9_beginOne_40 (Or.inl rfl) hm.o ?_
  refine z_eqi (y := nI (rtk (TPs s) (TNs s) (tP (TPs s) (TNs s) i))) nt.2.2.1 ?_
  refine z_iconst (v := 1) dX9_beginOne_43 (by decide) ?_
  refine z_icmp_eq dX9_beginOne_44 rfl (fun c => absurd c (t1)) (fun _ => ?_)
  refine z_iload_n dX9_beginOne_47 rfl rfl ?_
  refine z_if_lt dX9_beginOne_48 rfl (fun _ => ?_) (fun c => absurd (by decide) c)
  refine z_aload_n dX9_beginOne_93 rfl rfl ?_
  refine y_getI FX9_106 dX9_beginOne_94 (Or.inl rfl) hm.o ?_
  refine z_eqi (y := nI (rtk (TPs s) (TNs s) (tP (TPs s) (TNs s) i))) nt.2.2.1 ?_
  refine z_bipush (v := 40) dX9_beginOne_97 (by decide) ?_
  refine z_icmp_ne dX9_beginOne_99 rfl (fun _ => ?_) (fun c => absurd c (tn 40 48 (by omega) (rt_sg (c := 40) (by decide)) (by omega)))
  refine z_aload_n dX9_beginOne_109 rfl rfl ?_
  refine y_getI FX9_106 dX9_beginOne_110 (Or.inl rfl) hm.o ?_
  refine z_eqi (y := nI (rtk (TPs s) (TNs s) (tP (TPs s) (TNs s) i))) nt.2.2.1 ?_
  refine z_bipush (v := 45) dX9_beginOne_113 (by decide) ?_
  refine z_icmp_ne dX9_beginOne_115 rfl (fun _ => ?_) (fun c => absurd c (tn 45 45 (by omega) (rt_sg (c := 45) (by decide)) (by omega)))
  refine z_aload_n dX9_beginOne_124 rfl rfl ?_
  refine z_bipush (v := 112) dX9_beginOne_125 (by decide) ?_
  refine z_bipush (v := 101) dX9_beginOne_127 (by decide) ?_
  refine z_bipush (v := 114) dX9_beginOne_129 (by decide) ?_
  refine z_bipush (v := 99) dX9_beginOne_131 (by decide) ?_
  refine y_callS (as := [_, _, _, _]) CX9_w4 LX9_136 SX9_w4 dX9_beginOne_133 rfl (Nat.le_of_ble_eq_true rfl) (Nat.le_of_ble_eq_true rfl) (by omega) (r_w4 (d := 2) (a0 := 112) (a1 := 101) (a2 := 114) (a3 := 99) (by omega) (by omega) (by omega) (by omega) (Nat.le_refl _)) rok_l ⟨Nat.le_refl _, Nat.le_refl _, hN, hS⟩ ?_
  refine z_bipush (v := 101) dX9_beginOne_136 (by decide) ?_
  refine z_bipush (v := 110) dX9_beginOne_138 (by decide) ?_
  refine z_bipush (v := 116) dX9_beginOne_140 (by decide) ?_
  refine y_callS (as := [_, _, _]) CX9_w3 LX9_132 SX9_w3 dX9_beginOne_142 rfl (Nat.le_of_ble_eq_true rfl) (Nat.le_of_ble_eq_true rfl) (by omega) (r_w3 (d := 1) (a0 := 101) (a1 := 110) (a2 := 116) (by omega) (by omega) (by omega) (Nat.le_refl _)) rok_l ⟨Nat.le_refl _, Nat.le_refl _, hN, hS⟩ ?_
  refine z_bipush (v := 7) dX9_beginOne_145 (by decide) ?_
  refine y_callV (as := [_, _, _]) CX9_isLong LX9_188 IX9_isLong VX9_isLong ⟨rfl, Nat.le_of_ble_eq_true rfl⟩ dX9_beginOne_147 hm.o rfl (Nat.le_of_ble_eq_true rfl) (Nat.le_of_ble_eq_true rfl) (by omega) lg (rok_z bI_01) ⟨Nat.le_refl _, Nat.le_refl _, hN, hS⟩ ?_
  refine z_if_eq dX9_beginOne_150 rfl (fun _ => ?_) (fun c => absurd (bI_eq0.mpr (show ¬ tK (TPs s) (TNs s) i = 20 by omega)) c)
  refine z_aload_n dX9_beginOne_160 rfl rfl ?_
  refine z_bipush (v := 115) dX9_beginOne_161 (by decide) ?_
  refine z_bipush (v := 111) dX9_beginOne_163 (by decide) ?_
  refine y_callS (as := [_, _]) CX9_w2 LX9_128 SX9_w2 dX9_beginOne_165 rfl (Nat.le_of_ble_eq_true rfl) (Nat.le_of_ble_eq_true rfl) (by omega) (r_w2 (d := 0) (a0 := 115) (a1 := 111) (by omega) (by omega) (Nat.le_refl _)) rok_l ⟨Nat.le_refl _, Nat.le_refl _, hN, hS⟩ ?_
  refine z_eql (show _ = lN 29551 from rfl) ?_
  refine y_callV (as := [_]) CX9_isWord LX9_192 IX9_isWord VX9_isWord ⟨rfl, Nat.le_of_ble_eq_true rfl⟩ dX9_beginOne_168 hm.o rfl (Nat.le_of_ble_eq_true rfl) (Nat.le_of_ble_eq_true rfl) (by omega) (r_isWord (d := 0) (k := 22) (by exact (by exact hm)) ht nt tP_le (by omega) (wd_22 (bb _))) (rok_z bI_01) ⟨Nat.le_refl _, Nat.le_refl _, hN, hS⟩ ?_
  refine z_if_eq dX9_beginOne_171 rfl (fun c => absurd c (bI_ne0.mpr hk)) (fun _ => ?_)
  refine z_aload_n dX9_beginOne_174 rfl rfl ?_
  refine z_iconst (v := 2) dX9_beginOne_175 (by decide) ?_
  refine y_callV (as := [_]) CX9_opened LX9_185 IX9_opened VX9_opened ⟨rfl, Nat.le_of_ble_eq_true rfl⟩ dX9_beginOne_176 hm.o rfl (Nat.le_of_ble_eq_true rfl) (Nat.le_of_ble_eq_true rfl) (by omega) op1 rok_i hgo ?_
  refine z_iret dX9_beginOne_179 ?_
  exact hQ
theorem b_deep_22 {s : Ms} {t w0 so i op wh : Nat} {ro : List Nat} {c : Cd} {h : Hp} {d : Nat} (rp : RP s t w0 so i ro op wh c h) (ht : ITp s) (hk : tK (TPs s) (TNs s) i = 22) (h8 : op = 8) (hd : 5 ≤ d) : Sp d mX9_beginOne [.ref 488] h (some (.int 3)) h := by
  obtain ⟨tf, hr, em, fr, nt, e12, e13, e14, e16, e17, e18, pil⟩ := id rp
  have hm := hr.m
  have n3 : TNs s ≤ 300 := ht.1
  have bb : ∀ k, k < TNs s → TPs s k < 256 := fun k hk => ht.2 k (by omega)
  have rl := rtk_lt (tp := (TPs s)) (n := (TNs s)) (p := (tP (TPs s) (TNs s) i)) (bb _)
  have ty : ∀ c k, (rtk (TPs s) (TNs s) (tP (TPs s) (TNs s) i) = c ↔ tK (TPs s) (TNs s) i = k) → tK (TPs s) (TNs s) i = k → nI (rtk (TPs s) (TNs s) (tP (TPs s) (TNs s) i)) = nI c := fun c k iff e => congrArg nI (iff.mpr e)
  have tn : ∀ c k, c < 256 → (rtk (TPs s) (TNs s) (tP (TPs s) (TNs s) i) = c ↔ tK (TPs s) (TNs s) i = k) → ¬ tK (TPs s) (TNs s) i = k → ¬ nI (rtk (TPs s) (TNs s) (tP (TPs s) (TNs s) i)) = nI c := fun c k hc iff ne q => ne (iff.mp ((nI_eq (by omega) (by omega)).mp q))
  have nm := r_nameOf (d := 4) rp ht (Nat.le_refl _)
  have lg := r_perc (d := 3) rp ht (Nat.le_refl _)
  have t1 := tn 1 52 (by omega) rt_small.2.1 (show ¬ tK (TPs s) (TNs s) i = 52 by omega)
  rw [hk, show nmo 22 = -1 from by decide] at nm
  have op1 := r_opened8 (d := 2) (x := 2) rp h8
  intro N S Q hN hS hQ
  have hgo := hg_ss SS.rf hN hS
  refine z_aload_n dX9_beginOne_0 rfl rfl ?_
  refine y_getI FX9_106 dX9_beginOne_1 (Or.inl rfl) hm.o ?_
  refine z_eqi (y := nI (rtk (TPs s) (TNs s) (tP (TPs s) (TNs s) i))) nt.2.2.1 ?_
  refine z_iconst (v := 1) dX9_beginOne_4 (by decide) ?_
  refine z_icmp_ne dX9_beginOne_5 rfl (fun _ => ?_) (fun c => absurd c (t1))
  refine z_aload_n dX9_beginOne_20 rfl rfl ?_
  refine y_callV (as := []) CX9_nameOf LX9_176 IX9_nameOf VX9_nameOf ⟨rfl, Nat.le_of_ble_eq_true rfl⟩ dX9_beginOne_21 hm.o rfl (Nat.le_of_ble_eq_true rfl) (Nat.le_of_ble_eq_true rfl) (by omega) nm rok_i ⟨Nat.le_refl _, Nat.le_refl _, hN, hS⟩ ?_
  refine z_istore_n dX9_beginOne_24 rfl (Nat.le_of_ble_eq_true rfl) ?_
  refine z_iload_n dX9_beginOne_25 rfl rfl ?_
  refine z_if_lt dX9_beginOne_26 rfl (fun _ => ?_) (fun c => absurd (by decide) c)
  refine z_aload_n dX9_beginOne_39 rfl rfl ?_
  refine y_getI FX9_106 dX9_beginOne_40 (Or.inl rfl) hm.o ?_
  refine z_eqi (y := nI (rtk (TPs s) (TNs s) (tP (TPs s) (TNs s) i))) nt.2.2.1 ?_
  refine z_iconst (v := 1) dX9_beginOne_43 (by decide) ?_
  refine z_icmp_eq dX9_beginOne_44 rfl (fun c => absurd c (t1)) (fun _ => ?_)
  refine z_iload_n dX9_beginOne_47 rfl rfl ?_
  refine z_if_lt dX9_beginOne_48 rfl (fun _ => ?_) (fun c => absurd (by decide) c)
  refine z_aload_n dX9_beginOne_93 rfl rfl ?_
  refine y_getI FX9_106 dX9_beginOne_94 (Or.inl rfl) hm.o ?_
  refine z_eqi (y := nI (rtk (TPs s) (TNs s) (tP (TPs s) (TNs s) i))) nt.2.2.1 ?_
  refine z_bipush (v := 40) dX9_beginOne_97 (by decide) ?_
  refine z_icmp_ne dX9_beginOne_99 rfl (fun _ => ?_) (fun c => absurd c (tn 40 48 (by omega) (rt_sg (c := 40) (by decide)) (by omega)))
  refine z_aload_n dX9_beginOne_109 rfl rfl ?_
  refine y_getI FX9_106 dX9_beginOne_110 (Or.inl rfl) hm.o ?_
  refine z_eqi (y := nI (rtk (TPs s) (TNs s) (tP (TPs s) (TNs s) i))) nt.2.2.1 ?_
  refine z_bipush (v := 45) dX9_beginOne_113 (by decide) ?_
  refine z_icmp_ne dX9_beginOne_115 rfl (fun _ => ?_) (fun c => absurd c (tn 45 45 (by omega) (rt_sg (c := 45) (by decide)) (by omega)))
  refine z_aload_n dX9_beginOne_124 rfl rfl ?_
  refine z_bipush (v := 112) dX9_beginOne_125 (by decide) ?_
  refine z_bipush (v := 101) dX9_beginOne_127 (by decide) ?_
  refine z_bipush (v := 114) dX9_beginOne_129 (by decide) ?_
  refine z_bipush (v := 99) dX9_beginOne_131 (by decide) ?_
  refine y_callS (as := [_, _, _, _]) CX9_w4 LX9_136 SX9_w4 dX9_beginOne_133 rfl (Nat.le_of_ble_eq_true rfl) (Nat.le_of_ble_eq_true rfl) (by omega) (r_w4 (d := 2) (a0 := 112) (a1 := 101) (a2 := 114) (a3 := 99) (by omega) (by omega) (by omega) (by omega) (Nat.le_refl _)) rok_l ⟨Nat.le_refl _, Nat.le_refl _, hN, hS⟩ ?_
  refine z_bipush (v := 101) dX9_beginOne_136 (by decide) ?_
  refine z_bipush (v := 110) dX9_beginOne_138 (by decide) ?_
  refine z_bipush (v := 116) dX9_beginOne_140 (by decide) ?_
  refine y_callS (as := [_, _, _]) CX9_w3 LX9_132 SX9_w3 dX9_beginOne_142 rfl (Nat.le_of_ble_eq_true rfl) (Nat.le_of_ble_eq_true rfl) (by omega) (r_w3 (d := 1) (a0 := 101) (a1 := 110) (a2 := 116) (by omega) (by omega) (by omega) (Nat.le_refl _)) rok_l ⟨Nat.le_refl _, Nat.le_refl _, hN, hS⟩ ?_
  refine z_bipush (v := 7) dX9_beginOne_145 (by decide) ?_
  refine y_callV (as := [_, _, _]) CX9_isLong LX9_188 IX9_isLong VX9_isLong ⟨rfl, Nat.le_of_ble_eq_true rfl⟩ dX9_beginOne_147 hm.o rfl (Nat.le_of_ble_eq_true rfl) (Nat.le_of_ble_eq_true rfl) (by omega) lg (rok_z bI_01) ⟨Nat.le_refl _, Nat.le_refl _, hN, hS⟩ ?_
  refine z_if_eq dX9_beginOne_150 rfl (fun _ => ?_) (fun c => absurd (bI_eq0.mpr (show ¬ tK (TPs s) (TNs s) i = 20 by omega)) c)
  refine z_aload_n dX9_beginOne_160 rfl rfl ?_
  refine z_bipush (v := 115) dX9_beginOne_161 (by decide) ?_
  refine z_bipush (v := 111) dX9_beginOne_163 (by decide) ?_
  refine y_callS (as := [_, _]) CX9_w2 LX9_128 SX9_w2 dX9_beginOne_165 rfl (Nat.le_of_ble_eq_true rfl) (Nat.le_of_ble_eq_true rfl) (by omega) (r_w2 (d := 0) (a0 := 115) (a1 := 111) (by omega) (by omega) (Nat.le_refl _)) rok_l ⟨Nat.le_refl _, Nat.le_refl _, hN, hS⟩ ?_
  refine z_eql (show _ = lN 29551 from rfl) ?_
  refine y_callV (as := [_]) CX9_isWord LX9_192 IX9_isWord VX9_isWord ⟨rfl, Nat.le_of_ble_eq_true rfl⟩ dX9_beginOne_168 hm.o rfl (Nat.le_of_ble_eq_true rfl) (Nat.le_of_ble_eq_true rfl) (by omega) (r_isWord (d := 0) (k := 22) (by exact (by exact hm)) ht nt tP_le (by omega) (wd_22 (bb _))) (rok_z bI_01) ⟨Nat.le_refl _, Nat.le_refl _, hN, hS⟩ ?_
  refine z_if_eq dX9_beginOne_171 rfl (fun c => absurd c (bI_ne0.mpr hk)) (fun _ => ?_)
  refine z_aload_n dX9_beginOne_174 rfl rfl ?_
  refine z_iconst (v := 2) dX9_beginOne_175 (by decide) ?_
  refine y_callV (as := [_]) CX9_opened LX9_185 IX9_opened VX9_opened ⟨rfl, Nat.le_of_ble_eq_true rfl⟩ dX9_beginOne_176 hm.o rfl (Nat.le_of_ble_eq_true rfl) (Nat.le_of_ble_eq_true rfl) (by omega) op1 rok_i hgo ?_
  refine z_iret dX9_beginOne_179 ?_
  exact hQ

theorem b_open_23 {s : Ms} {t w0 so i op wh : Nat} {ro : List Nat} {c : Cd} {h : Hp} {d : Nat} (rp : RP s t w0 so i ro op wh c h) (ht : ITp s) (hk : tK (TPs s) (TNs s) i = 23) (h8 : op < 8) (hl : ro.length < 160) (hd : 5 ≤ d) : ∃ h1, Sp d mX9_beginOne [.ref 488] h (some (.int 0)) h1 ∧ RP s t w0 so (i + 1) (42 :: ro) (op + 1) wh c h1 ∧ FQ h h1 := by
  obtain ⟨tf, hr, em, fr, nt, e12, e13, e14, e16, e17, e18, pil⟩ := id rp
  have hm := hr.m
  have n3 : TNs s ≤ 300 := ht.1
  have bb : ∀ k, k < TNs s → TPs s k < 256 := fun k hk => ht.2 k (by omega)
  have rl := rtk_lt (tp := (TPs s)) (n := (TNs s)) (p := (tP (TPs s) (TNs s) i)) (bb _)
  have ty : ∀ c k, (rtk (TPs s) (TNs s) (tP (TPs s) (TNs s) i) = c ↔ tK (TPs s) (TNs s) i = k) → tK (TPs s) (TNs s) i = k → nI (rtk (TPs s) (TNs s) (tP (TPs s) (TNs s) i)) = nI c := fun c k iff e => congrArg nI (iff.mpr e)
  have tn : ∀ c k, c < 256 → (rtk (TPs s) (TNs s) (tP (TPs s) (TNs s) i) = c ↔ tK (TPs s) (TNs s) i = k) → ¬ tK (TPs s) (TNs s) i = k → ¬ nI (rtk (TPs s) (TNs s) (tP (TPs s) (TNs s) i)) = nI c := fun c k hc iff ne q => ne (iff.mp ((nI_eq (by omega) (by omega)).mp q))
  have nm := r_nameOf (d := 4) rp ht (Nat.le_refl _)
  have lg := r_perc (d := 3) rp ht (Nat.le_refl _)
  have t1 := tn 1 52 (by omega) rt_small.2.1 (show ¬ tK (TPs s) (TNs s) i = 52 by omega)
  rw [hk, show nmo 23 = -1 from by decide] at nm
  obtain ⟨h1, op1, o2, o3⟩ := r_opened (d := 2) (x := 42) rp ht (by omega) h8 hl (Nat.le_refl _)
  refine ⟨h1, ?_, o2, o3⟩
  intro N S Q hN hS hQ
  have hN : pn h ≤ N := by rw [← o3.1.n]; exact hN
  have hS : ps h ≤ S := by rw [← o3.1.s]; exact hS
  have hgo := hg_ss o3.1 hN hS
  refine z_aload_n dX9_beginOne_0 rfl rfl ?_
  refine y_getI FX9_106 dX9_beginOne_1 (Or.inl rfl) hm.o ?_
  refine z_eqi (y := nI (rtk (TPs s) (TNs s) (tP (TPs s) (TNs s) i))) nt.2.2.1 ?_
  refine z_iconst (v := 1) dX9_beginOne_4 (by decide) ?_
  refine z_icmp_ne dX9_beginOne_5 rfl (fun _ => ?_) (fun c => absurd c (t1))
  refine z_aload_n dX9_beginOne_20 rfl rfl ?_
  refine y_callV (as := []) CX9_nameOf LX9_176 IX9_nameOf VX9_nameOf ⟨rfl, Nat.le_of_ble_eq_true rfl⟩ dX9_beginOne_21 hm.o rfl (Nat.le_of_ble_eq_true rfl) (Nat.le_of_ble_eq_true rfl) (by omega) nm rok_i ⟨Nat.le_refl _, Nat.le_refl _, hN, hS⟩ ?_
  refine z_istore_n dX9_beginOne_24 rfl (Nat.le_of_ble_eq_true rfl) ?_
  refine z_iload_n dX9_beginOne_25 rfl rfl ?_
  refine z_if_lt dX9_beginOne_26 rfl (fun _ => ?_) (fun c => absurd (by decide) c)
  refine z_aload_n dX9_beginOne_39 rfl rfl ?_
  refine y_getI FX9_106 dX9_beginOne_40 (Or.inl rfl) hm.o ?_
  refine z_eqi (y := nI (rtk (TPs s) (TNs s) (tP (TPs s) (TNs s) i))) nt.2.2.1 ?_
  refine z_iconst (v := 1) dX9_beginOne_43 (by decide) ?_
  refine z_icmp_eq dX9_beginOne_44 rfl (fun c => absurd c (t1)) (fun _ => ?_)
  refine z_iload_n dX9_beginOne_47 rfl rfl ?_
  refine z_if_lt dX9_beginOne_48 rfl (fun _ => ?_) (fun c => absurd (by decide) c)
  refine z_aload_n dX9_beginOne_93 rfl rfl ?_
  refine y_getI FX9_106 dX9_beginOne_94 (Or.inl rfl) hm.o ?_
  refine z_eqi (y := nI (rtk (TPs s) (TNs s) (tP (TPs s) (TNs s) i))) nt.2.2.1 ?_
  refine z_bipush (v := 40) dX9_beginOne_97 (by decide) ?_
  refine z_icmp_ne dX9_beginOne_99 rfl (fun _ => ?_) (fun c => absurd c (tn 40 48 (by omega) (rt_sg (c := 40) (by decide)) (by omega)))
  refine z_aload_n dX9_beginOne_109 rfl rfl ?_
  refine y_getI FX9_106 dX9_beginOne_110 (Or.inl rfl) hm.o ?_
  refine z_eqi (y := nI (rtk (TPs s) (TNs s) (tP (TPs s) (TNs s) i))) nt.2.2.1 ?_
  refine z_bipush (v := 45) dX9_beginOne_113 (by decide) ?_
  refine z_icmp_ne dX9_beginOne_115 rfl (fun _ => ?_) (fun c => absurd c (tn 45 45 (by omega) (rt_sg (c := 45) (by decide)) (by omega)))
  refine z_aload_n dX9_beginOne_124 rfl rfl ?_
  refine z_bipush (v := 112) dX9_beginOne_125 (by decide) ?_
  refine z_bipush (v := 101) dX9_beginOne_127 (by decide) ?_
  refine z_bipush (v := 114) dX9_beginOne_129 (by decide) ?_
  refine z_bipush (v := 99) dX9_beginOne_131 (by decide) ?_
  refine y_callS (as := [_, _, _, _]) CX9_w4 LX9_136 SX9_w4 dX9_beginOne_133 rfl (Nat.le_of_ble_eq_true rfl) (Nat.le_of_ble_eq_true rfl) (by omega) (r_w4 (d := 2) (a0 := 112) (a1 := 101) (a2 := 114) (a3 := 99) (by omega) (by omega) (by omega) (by omega) (Nat.le_refl _)) rok_l ⟨Nat.le_refl _, Nat.le_refl _, hN, hS⟩ ?_
  refine z_bipush (v := 101) dX9_beginOne_136 (by decide) ?_
  refine z_bipush (v := 110) dX9_beginOne_138 (by decide) ?_
  refine z_bipush (v := 116) dX9_beginOne_140 (by decide) ?_
  refine y_callS (as := [_, _, _]) CX9_w3 LX9_132 SX9_w3 dX9_beginOne_142 rfl (Nat.le_of_ble_eq_true rfl) (Nat.le_of_ble_eq_true rfl) (by omega) (r_w3 (d := 1) (a0 := 101) (a1 := 110) (a2 := 116) (by omega) (by omega) (by omega) (Nat.le_refl _)) rok_l ⟨Nat.le_refl _, Nat.le_refl _, hN, hS⟩ ?_
  refine z_bipush (v := 7) dX9_beginOne_145 (by decide) ?_
  refine y_callV (as := [_, _, _]) CX9_isLong LX9_188 IX9_isLong VX9_isLong ⟨rfl, Nat.le_of_ble_eq_true rfl⟩ dX9_beginOne_147 hm.o rfl (Nat.le_of_ble_eq_true rfl) (Nat.le_of_ble_eq_true rfl) (by omega) lg (rok_z bI_01) ⟨Nat.le_refl _, Nat.le_refl _, hN, hS⟩ ?_
  refine z_if_eq dX9_beginOne_150 rfl (fun _ => ?_) (fun c => absurd (bI_eq0.mpr (show ¬ tK (TPs s) (TNs s) i = 20 by omega)) c)
  refine z_aload_n dX9_beginOne_160 rfl rfl ?_
  refine z_bipush (v := 115) dX9_beginOne_161 (by decide) ?_
  refine z_bipush (v := 111) dX9_beginOne_163 (by decide) ?_
  refine y_callS (as := [_, _]) CX9_w2 LX9_128 SX9_w2 dX9_beginOne_165 rfl (Nat.le_of_ble_eq_true rfl) (Nat.le_of_ble_eq_true rfl) (by omega) (r_w2 (d := 0) (a0 := 115) (a1 := 111) (by omega) (by omega) (Nat.le_refl _)) rok_l ⟨Nat.le_refl _, Nat.le_refl _, hN, hS⟩ ?_
  refine z_eql (show _ = lN 29551 from rfl) ?_
  refine y_callV (as := [_]) CX9_isWord LX9_192 IX9_isWord VX9_isWord ⟨rfl, Nat.le_of_ble_eq_true rfl⟩ dX9_beginOne_168 hm.o rfl (Nat.le_of_ble_eq_true rfl) (Nat.le_of_ble_eq_true rfl) (by omega) (r_isWord (d := 0) (k := 22) (by exact (by exact hm)) ht nt tP_le (by omega) (wd_22 (bb _))) (rok_z bI_01) ⟨Nat.le_refl _, Nat.le_refl _, hN, hS⟩ ?_
  refine z_if_eq dX9_beginOne_171 rfl (fun _ => ?_) (fun c => absurd (bI_eq0.mpr (show ¬ tK (TPs s) (TNs s) i = 22 by omega)) c)
  refine z_aload_n dX9_beginOne_180 rfl rfl ?_
  refine z_bipush (v := 105) dX9_beginOne_181 (by decide) ?_
  refine z_bipush (v := 102) dX9_beginOne_183 (by decide) ?_
  refine y_callS (as := [_, _]) CX9_w2 LX9_128 SX9_w2 dX9_beginOne_185 rfl (Nat.le_of_ble_eq_true rfl) (Nat.le_of_ble_eq_true rfl) (by omega) (r_w2 (d := 0) (a0 := 105) (a1 := 102) (by omega) (by omega) (Nat.le_refl _)) rok_l ⟨Nat.le_refl _, Nat.le_refl _, hN, hS⟩ ?_
  refine z_eql (show _ = lN 26982 from rfl) ?_
  refine y_callV (as := [_]) CX9_isWord LX9_192 IX9_isWord VX9_isWord ⟨rfl, Nat.le_of_ble_eq_true rfl⟩ dX9_beginOne_188 hm.o rfl (Nat.le_of_ble_eq_true rfl) (Nat.le_of_ble_eq_true rfl) (by omega) (r_isWord (d := 0) (k := 23) (by exact (by exact hm)) ht nt tP_le (by omega) (wd_23 (bb _))) (rok_z bI_01) ⟨Nat.le_refl _, Nat.le_refl _, hN, hS⟩ ?_
  refine z_if_eq dX9_beginOne_191 rfl (fun c => absurd c (bI_ne0.mpr hk)) (fun _ => ?_)
  refine z_aload_n dX9_beginOne_194 rfl rfl ?_
  refine z_bipush (v := 42) dX9_beginOne_195 (by decide) ?_
  refine y_callV (as := [_]) CX9_opened LX9_185 IX9_opened VX9_opened ⟨rfl, Nat.le_of_ble_eq_true rfl⟩ dX9_beginOne_197 hm.o rfl (Nat.le_of_ble_eq_true rfl) (Nat.le_of_ble_eq_true rfl) (by omega) op1 rok_i hgo ?_
  refine z_iret dX9_beginOne_200 ?_
  exact hQ
theorem b_deep_23 {s : Ms} {t w0 so i op wh : Nat} {ro : List Nat} {c : Cd} {h : Hp} {d : Nat} (rp : RP s t w0 so i ro op wh c h) (ht : ITp s) (hk : tK (TPs s) (TNs s) i = 23) (h8 : op = 8) (hd : 5 ≤ d) : Sp d mX9_beginOne [.ref 488] h (some (.int 3)) h := by
  obtain ⟨tf, hr, em, fr, nt, e12, e13, e14, e16, e17, e18, pil⟩ := id rp
  have hm := hr.m
  have n3 : TNs s ≤ 300 := ht.1
  have bb : ∀ k, k < TNs s → TPs s k < 256 := fun k hk => ht.2 k (by omega)
  have rl := rtk_lt (tp := (TPs s)) (n := (TNs s)) (p := (tP (TPs s) (TNs s) i)) (bb _)
  have ty : ∀ c k, (rtk (TPs s) (TNs s) (tP (TPs s) (TNs s) i) = c ↔ tK (TPs s) (TNs s) i = k) → tK (TPs s) (TNs s) i = k → nI (rtk (TPs s) (TNs s) (tP (TPs s) (TNs s) i)) = nI c := fun c k iff e => congrArg nI (iff.mpr e)
  have tn : ∀ c k, c < 256 → (rtk (TPs s) (TNs s) (tP (TPs s) (TNs s) i) = c ↔ tK (TPs s) (TNs s) i = k) → ¬ tK (TPs s) (TNs s) i = k → ¬ nI (rtk (TPs s) (TNs s) (tP (TPs s) (TNs s) i)) = nI c := fun c k hc iff ne q => ne (iff.mp ((nI_eq (by omega) (by omega)).mp q))
  have nm := r_nameOf (d := 4) rp ht (Nat.le_refl _)
  have lg := r_perc (d := 3) rp ht (Nat.le_refl _)
  have t1 := tn 1 52 (by omega) rt_small.2.1 (show ¬ tK (TPs s) (TNs s) i = 52 by omega)
  rw [hk, show nmo 23 = -1 from by decide] at nm
  have op1 := r_opened8 (d := 2) (x := 42) rp h8
  intro N S Q hN hS hQ
  have hgo := hg_ss SS.rf hN hS
  refine z_aload_n dX9_beginOne_0 rfl rfl ?_
  refine y_getI FX9_106 dX9_beginOne_1 (Or.inl rfl) hm.o ?_
  refine z_eqi (y := nI (rtk (TPs s) (TNs s) (tP (TPs s) (TNs s) i))) nt.2.2.1 ?_
  refine z_iconst (v := 1) dX9_beginOne_4 (by decide) ?_
  refine z_icmp_ne dX9_beginOne_5 rfl (fun _ => ?_) (fun c => absurd c (t1))
  refine z_aload_n dX9_beginOne_20 rfl rfl ?_
  refine y_callV (as := []) CX9_nameOf LX9_176 IX9_nameOf VX9_nameOf ⟨rfl, Nat.le_of_ble_eq_true rfl⟩ dX9_beginOne_21 hm.o rfl (Nat.le_of_ble_eq_true rfl) (Nat.le_of_ble_eq_true rfl) (by omega) nm rok_i ⟨Nat.le_refl _, Nat.le_refl _, hN, hS⟩ ?_
  refine z_istore_n dX9_beginOne_24 rfl (Nat.le_of_ble_eq_true rfl) ?_
  refine z_iload_n dX9_beginOne_25 rfl rfl ?_
  refine z_if_lt dX9_beginOne_26 rfl (fun _ => ?_) (fun c => absurd (by decide) c)
  refine z_aload_n dX9_beginOne_39 rfl rfl ?_
  refine y_getI FX9_106 dX9_beginOne_40 (Or.inl rfl) hm.o ?_
  refine z_eqi (y := nI (rtk (TPs s) (TNs s) (tP (TPs s) (TNs s) i))) nt.2.2.1 ?_
  refine z_iconst (v := 1) dX9_beginOne_43 (by decide) ?_
  refine z_icmp_eq dX9_beginOne_44 rfl (fun c => absurd c (t1)) (fun _ => ?_)
  refine z_iload_n dX9_beginOne_47 rfl rfl ?_
  refine z_if_lt dX9_beginOne_48 rfl (fun _ => ?_) (fun c => absurd (by decide) c)
  refine z_aload_n dX9_beginOne_93 rfl rfl ?_
  refine y_getI FX9_106 dX9_beginOne_94 (Or.inl rfl) hm.o ?_
  refine z_eqi (y := nI (rtk (TPs s) (TNs s) (tP (TPs s) (TNs s) i))) nt.2.2.1 ?_
  refine z_bipush (v := 40) dX9_beginOne_97 (by decide) ?_
  refine z_icmp_ne dX9_beginOne_99 rfl (fun _ => ?_) (fun c => absurd c (tn 40 48 (by omega) (rt_sg (c := 40) (by decide)) (by omega)))
  refine z_aload_n dX9_beginOne_109 rfl rfl ?_
  refine y_getI FX9_106 dX9_beginOne_110 (Or.inl rfl) hm.o ?_
  refine z_eqi (y := nI (rtk (TPs s) (TNs s) (tP (TPs s) (TNs s) i))) nt.2.2.1 ?_
  refine z_bipush (v := 45) dX9_beginOne_113 (by decide) ?_
  refine z_icmp_ne dX9_beginOne_115 rfl (fun _ => ?_) (fun c => absurd c (tn 45 45 (by omega) (rt_sg (c := 45) (by decide)) (by omega)))
  refine z_aload_n dX9_beginOne_124 rfl rfl ?_
  refine z_bipush (v := 112) dX9_beginOne_125 (by decide) ?_
  refine z_bipush (v := 101) dX9_beginOne_127 (by decide) ?_
  refine z_bipush (v := 114) dX9_beginOne_129 (by decide) ?_
  refine z_bipush (v := 99) dX9_beginOne_131 (by decide) ?_
  refine y_callS (as := [_, _, _, _]) CX9_w4 LX9_136 SX9_w4 dX9_beginOne_133 rfl (Nat.le_of_ble_eq_true rfl) (Nat.le_of_ble_eq_true rfl) (by omega) (r_w4 (d := 2) (a0 := 112) (a1 := 101) (a2 := 114) (a3 := 99) (by omega) (by omega) (by omega) (by omega) (Nat.le_refl _)) rok_l ⟨Nat.le_refl _, Nat.le_refl _, hN, hS⟩ ?_
  refine z_bipush (v := 101) dX9_beginOne_136 (by decide) ?_
  refine z_bipush (v := 110) dX9_beginOne_138 (by decide) ?_
  refine z_bipush (v := 116) dX9_beginOne_140 (by decide) ?_
  refine y_callS (as := [_, _, _]) CX9_w3 LX9_132 SX9_w3 dX9_beginOne_142 rfl (Nat.le_of_ble_eq_true rfl) (Nat.le_of_ble_eq_true rfl) (by omega) (r_w3 (d := 1) (a0 := 101) (a1 := 110) (a2 := 116) (by omega) (by omega) (by omega) (Nat.le_refl _)) rok_l ⟨Nat.le_refl _, Nat.le_refl _, hN, hS⟩ ?_
  refine z_bipush (v := 7) dX9_beginOne_145 (by decide) ?_
  refine y_callV (as := [_, _, _]) CX9_isLong LX9_188 IX9_isLong VX9_isLong ⟨rfl, Nat.le_of_ble_eq_true rfl⟩ dX9_beginOne_147 hm.o rfl (Nat.le_of_ble_eq_true rfl) (Nat.le_of_ble_eq_true rfl) (by omega) lg (rok_z bI_01) ⟨Nat.le_refl _, Nat.le_refl _, hN, hS⟩ ?_
  refine z_if_eq dX9_beginOne_150 rfl (fun _ => ?_) (fun c => absurd (bI_eq0.mpr (show ¬ tK (TPs s) (TNs s) i = 20 by omega)) c)
  refine z_aload_n dX9_beginOne_160 rfl rfl ?_
  refine z_bipush (v := 115) dX9_beginOne_161 (by decide) ?_
  refine z_bipush (v := 111) dX9_beginOne_163 (by decide) ?_
  refine y_callS (as := [_, _]) CX9_w2 LX9_128 SX9_w2 dX9_beginOne_165 rfl (Nat.le_of_ble_eq_true rfl) (Nat.le_of_ble_eq_true rfl) (by omega) (r_w2 (d := 0) (a0 := 115) (a1 := 111) (by omega) (by omega) (Nat.le_refl _)) rok_l ⟨Nat.le_refl _, Nat.le_refl _, hN, hS⟩ ?_
  refine z_eql (show _ = lN 29551 from rfl) ?_
  refine y_callV (as := [_]) CX9_isWord LX9_192 IX9_isWord VX9_isWord ⟨rfl, Nat.le_of_ble_eq_true rfl⟩ dX9_beginOne_168 hm.o rfl (Nat.le_of_ble_eq_true rfl) (Nat.le_of_ble_eq_true rfl) (by omega) (r_isWord (d := 0) (k := 22) (by exact (by exact hm)) ht nt tP_le (by omega) (wd_22 (bb _))) (rok_z bI_01) ⟨Nat.le_refl _, Nat.le_refl _, hN, hS⟩ ?_
  refine z_if_eq dX9_beginOne_171 rfl (fun _ => ?_) (fun c => absurd (bI_eq0.mpr (show ¬ tK (TPs s) (TNs s) i = 22 by omega)) c)
  refine z_aload_n dX9_beginOne_180 rfl rfl ?_
  refine z_bipush (v := 105) dX9_beginOne_181 (by decide) ?_
  refine z_bipush (v := 102) dX9_beginOne_183 (by decide) ?_
  refine y_callS (as := [_, _]) CX9_w2 LX9_128 SX9_w2 dX9_beginOne_185 rfl (Nat.le_of_ble_eq_true rfl) (Nat.le_of_ble_eq_true rfl) (by omega) (r_w2 (d := 0) (a0 := 105) (a1 := 102) (by omega) (by omega) (Nat.le_refl _)) rok_l ⟨Nat.le_refl _, Nat.le_refl _, hN, hS⟩ ?_
  refine z_eql (show _ = lN 26982 from rfl) ?_
  refine y_callV (as := [_]) CX9_isWord LX9_192 IX9_isWord VX9_isWord ⟨rfl, Nat.le_of_ble_eq_true rfl⟩ dX9_beginOne_188 hm.o rfl (Nat.le_of_ble_eq_true rfl) (Nat.le_of_ble_eq_true rfl) (by omega) (r_isWord (d := 0) (k := 23) (by exact (by exact hm)) ht nt tP_le (by omega) (wd_23 (bb _))) (rok_z bI_01) ⟨Nat.le_refl _, Nat.le_refl _, hN, hS⟩ ?_
  refine z_if_eq dX9_beginOne_191 rfl (fun c => absurd c (bI_ne0.mpr hk)) (fun _ => ?_)
  refine z_aload_n dX9_beginOne_194 rfl rfl ?_
  refine z_bipush (v := 42) dX9_beginOne_195 (by decide) ?_
  refine y_callV (as := [_]) CX9_opened LX9_185 IX9_opened VX9_opened ⟨rfl, Nat.le_of_ble_eq_true rfl⟩ dX9_beginOne_197 hm.o rfl (Nat.le_of_ble_eq_true rfl) (Nat.le_of_ble_eq_true rfl) (by omega) op1 rok_i hgo ?_
  refine z_iret dX9_beginOne_200 ?_
  exact hQ

theorem b_open_29 {s : Ms} {t w0 so i op wh : Nat} {ro : List Nat} {c : Cd} {h : Hp} {d : Nat} (rp : RP s t w0 so i ro op wh c h) (ht : ITp s) (hk : tK (TPs s) (TNs s) i = 29) (h8 : op < 8) (hl : ro.length < 160) (hl0 : ro.length ≤ 160) (ha : askP ro) (hd : 5 ≤ d) : ∃ h1, Sp d mX9_beginOne [.ref 488] h (some (.int 0)) h1 ∧ RP s t w0 so (i + 1) (20 :: ro) (op + 1) wh c h1 ∧ FQ h h1 := by
  obtain ⟨tf, hr, em, fr, nt, e12, e13, e14, e16, e17, e18, pil⟩ := id rp
  have hm := hr.m
  have n3 : TNs s ≤ 300 := ht.1
  have bb : ∀ k, k < TNs s → TPs s k < 256 := fun k hk => ht.2 k (by omega)
  have rl := rtk_lt (tp := (TPs s)) (n := (TNs s)) (p := (tP (TPs s) (TNs s) i)) (bb _)
  have ty : ∀ c k, (rtk (TPs s) (TNs s) (tP (TPs s) (TNs s) i) = c ↔ tK (TPs s) (TNs s) i = k) → tK (TPs s) (TNs s) i = k → nI (rtk (TPs s) (TNs s) (tP (TPs s) (TNs s) i)) = nI c := fun c k iff e => congrArg nI (iff.mpr e)
  have tn : ∀ c k, c < 256 → (rtk (TPs s) (TNs s) (tP (TPs s) (TNs s) i) = c ↔ tK (TPs s) (TNs s) i = k) → ¬ tK (TPs s) (TNs s) i = k → ¬ nI (rtk (TPs s) (TNs s) (tP (TPs s) (TNs s) i)) = nI c := fun c k hc iff ne q => ne (iff.mp ((nI_eq (by omega) (by omega)).mp q))
  have nm := r_nameOf (d := 4) rp ht (Nat.le_refl _)
  have lg := r_perc (d := 3) rp ht (Nat.le_refl _)
  have t1 := tn 1 52 (by omega) rt_small.2.1 (show ¬ tK (TPs s) (TNs s) i = 52 by omega)
  rw [hk, show nmo 29 = -1 from by decide] at nm
  have ask := r_ask_y (d := 2) rp hl0 ha (Nat.le_refl _)
  have a01 : (1 : Int32) = 0 ∨ (1 : Int32) = 1 := Or.inr rfl
  obtain ⟨h1, op1, o2, o3⟩ := r_opened (d := 2) (x := 20) rp ht (by omega) h8 hl (Nat.le_refl _)
  refine ⟨h1, ?_, o2, o3⟩
  intro N S Q hN hS hQ
  have hN : pn h ≤ N := by rw [← o3.1.n]; exact hN
  have hS : ps h ≤ S := by rw [← o3.1.s]; exact hS
  have hgo := hg_ss o3.1 hN hS
  refine z_aload_n dX9_beginOne_0 rfl rfl ?_
  refine y_getI FX9_106 dX9_beginOne_1 (Or.inl rfl) hm.o ?_
  refine z_eqi (y := nI (rtk (TPs s) (TNs s) (tP (TPs s) (TNs s) i))) nt.2.2.1 ?_
  refine z_iconst (v := 1) dX9_beginOne_4 (by decide) ?_
  refine z_icmp_ne dX9_beginOne_5 rfl (fun _ => ?_) (fun c => absurd c (t1))
  refine z_aload_n dX9_beginOne_20 rfl rfl ?_
  refine y_callV (as := []) CX9_nameOf LX9_176 IX9_nameOf VX9_nameOf ⟨rfl, Nat.le_of_ble_eq_true rfl⟩ dX9_beginOne_21 hm.o rfl (Nat.le_of_ble_eq_true rfl) (Nat.le_of_ble_eq_true rfl) (by omega) nm rok_i ⟨Nat.le_refl _, Nat.le_refl _, hN, hS⟩ ?_
  refine z_istore_n dX9_beginOne_24 rfl (Nat.le_of_ble_eq_true rfl) ?_
  refine z_iload_n dX9_beginOne_25 rfl rfl ?_
  refine z_if_lt dX9_beginOne_26 rfl (fun _ => ?_) (fun c => absurd (by decide) c)
  refine z_aload_n dX9_beginOne_39 rfl rfl ?_
  refine y_getI FX9_106 dX9_beginOne_40 (Or.inl rfl) hm.o ?_
  refine z_eqi (y := nI (rtk (TPs s) (TNs s) (tP (TPs s) (TNs s) i))) nt.2.2.1 ?_
  refine z_iconst (v := 1) dX9_beginOne_43 (by decide) ?_
  refine z_icmp_eq dX9_beginOne_44 rfl (fun c => absurd c (t1)) (fun _ => ?_)
  refine z_iload_n dX9_beginOne_47 rfl rfl ?_
  refine z_if_lt dX9_beginOne_48 rfl (fun _ => ?_) (fun c => absurd (by decide) c)
  refine z_aload_n dX9_beginOne_93 rfl rfl ?_
  refine y_getI FX9_106 dX9_beginOne_94 (Or.inl rfl) hm.o ?_
  refine z_eqi (y := nI (rtk (TPs s) (TNs s) (tP (TPs s) (TNs s) i))) nt.2.2.1 ?_
  refine z_bipush (v := 40) dX9_beginOne_97 (by decide) ?_
  refine z_icmp_ne dX9_beginOne_99 rfl (fun _ => ?_) (fun c => absurd c (tn 40 48 (by omega) (rt_sg (c := 40) (by decide)) (by omega)))
  refine z_aload_n dX9_beginOne_109 rfl rfl ?_
  refine y_getI FX9_106 dX9_beginOne_110 (Or.inl rfl) hm.o ?_
  refine z_eqi (y := nI (rtk (TPs s) (TNs s) (tP (TPs s) (TNs s) i))) nt.2.2.1 ?_
  refine z_bipush (v := 45) dX9_beginOne_113 (by decide) ?_
  refine z_icmp_ne dX9_beginOne_115 rfl (fun _ => ?_) (fun c => absurd c (tn 45 45 (by omega) (rt_sg (c := 45) (by decide)) (by omega)))
  refine z_aload_n dX9_beginOne_124 rfl rfl ?_
  refine z_bipush (v := 112) dX9_beginOne_125 (by decide) ?_
  refine z_bipush (v := 101) dX9_beginOne_127 (by decide) ?_
  refine z_bipush (v := 114) dX9_beginOne_129 (by decide) ?_
  refine z_bipush (v := 99) dX9_beginOne_131 (by decide) ?_
  refine y_callS (as := [_, _, _, _]) CX9_w4 LX9_136 SX9_w4 dX9_beginOne_133 rfl (Nat.le_of_ble_eq_true rfl) (Nat.le_of_ble_eq_true rfl) (by omega) (r_w4 (d := 2) (a0 := 112) (a1 := 101) (a2 := 114) (a3 := 99) (by omega) (by omega) (by omega) (by omega) (Nat.le_refl _)) rok_l ⟨Nat.le_refl _, Nat.le_refl _, hN, hS⟩ ?_
  refine z_bipush (v := 101) dX9_beginOne_136 (by decide) ?_
  refine z_bipush (v := 110) dX9_beginOne_138 (by decide) ?_
  refine z_bipush (v := 116) dX9_beginOne_140 (by decide) ?_
  refine y_callS (as := [_, _, _]) CX9_w3 LX9_132 SX9_w3 dX9_beginOne_142 rfl (Nat.le_of_ble_eq_true rfl) (Nat.le_of_ble_eq_true rfl) (by omega) (r_w3 (d := 1) (a0 := 101) (a1 := 110) (a2 := 116) (by omega) (by omega) (by omega) (Nat.le_refl _)) rok_l ⟨Nat.le_refl _, Nat.le_refl _, hN, hS⟩ ?_
  refine z_bipush (v := 7) dX9_beginOne_145 (by decide) ?_
  refine y_callV (as := [_, _, _]) CX9_isLong LX9_188 IX9_isLong VX9_isLong ⟨rfl, Nat.le_of_ble_eq_true rfl⟩ dX9_beginOne_147 hm.o rfl (Nat.le_of_ble_eq_true rfl) (Nat.le_of_ble_eq_true rfl) (by omega) lg (rok_z bI_01) ⟨Nat.le_refl _, Nat.le_refl _, hN, hS⟩ ?_
  refine z_if_eq dX9_beginOne_150 rfl (fun _ => ?_) (fun c => absurd (bI_eq0.mpr (show ¬ tK (TPs s) (TNs s) i = 20 by omega)) c)
  refine z_aload_n dX9_beginOne_160 rfl rfl ?_
  refine z_bipush (v := 115) dX9_beginOne_161 (by decide) ?_
  refine z_bipush (v := 111) dX9_beginOne_163 (by decide) ?_
  refine y_callS (as := [_, _]) CX9_w2 LX9_128 SX9_w2 dX9_beginOne_165 rfl (Nat.le_of_ble_eq_true rfl) (Nat.le_of_ble_eq_true rfl) (by omega) (r_w2 (d := 0) (a0 := 115) (a1 := 111) (by omega) (by omega) (Nat.le_refl _)) rok_l ⟨Nat.le_refl _, Nat.le_refl _, hN, hS⟩ ?_
  refine z_eql (show _ = lN 29551 from rfl) ?_
  refine y_callV (as := [_]) CX9_isWord LX9_192 IX9_isWord VX9_isWord ⟨rfl, Nat.le_of_ble_eq_true rfl⟩ dX9_beginOne_168 hm.o rfl (Nat.le_of_ble_eq_true rfl) (Nat.le_of_ble_eq_true rfl) (by omega) (r_isWord (d := 0) (k := 22) (by exact (by exact hm)) ht nt tP_le (by omega) (wd_22 (bb _))) (rok_z bI_01) ⟨Nat.le_refl _, Nat.le_refl _, hN, hS⟩ ?_
  refine z_if_eq dX9_beginOne_171 rfl (fun _ => ?_) (fun c => absurd (bI_eq0.mpr (show ¬ tK (TPs s) (TNs s) i = 22 by omega)) c)
  refine z_aload_n dX9_beginOne_180 rfl rfl ?_
  refine z_bipush (v := 105) dX9_beginOne_181 (by decide) ?_
  refine z_bipush (v := 102) dX9_beginOne_183 (by decide) ?_
  refine y_callS (as := [_, _]) CX9_w2 LX9_128 SX9_w2 dX9_beginOne_185 rfl (Nat.le_of_ble_eq_true rfl) (Nat.le_of_ble_eq_true rfl) (by omega) (r_w2 (d := 0) (a0 := 105) (a1 := 102) (by omega) (by omega) (Nat.le_refl _)) rok_l ⟨Nat.le_refl _, Nat.le_refl _, hN, hS⟩ ?_
  refine z_eql (show _ = lN 26982 from rfl) ?_
  refine y_callV (as := [_]) CX9_isWord LX9_192 IX9_isWord VX9_isWord ⟨rfl, Nat.le_of_ble_eq_true rfl⟩ dX9_beginOne_188 hm.o rfl (Nat.le_of_ble_eq_true rfl) (Nat.le_of_ble_eq_true rfl) (by omega) (r_isWord (d := 0) (k := 23) (by exact (by exact hm)) ht nt tP_le (by omega) (wd_23 (bb _))) (rok_z bI_01) ⟨Nat.le_refl _, Nat.le_refl _, hN, hS⟩ ?_
  refine z_if_eq dX9_beginOne_191 rfl (fun _ => ?_) (fun c => absurd (bI_eq0.mpr (show ¬ tK (TPs s) (TNs s) i = 23 by omega)) c)
  refine z_aload_n dX9_beginOne_201 rfl rfl ?_
  refine z_bipush (v := 110) dX9_beginOne_202 (by decide) ?_
  refine z_bipush (v := 111) dX9_beginOne_204 (by decide) ?_
  refine z_bipush (v := 116) dX9_beginOne_206 (by decide) ?_
  refine y_callS (as := [_, _, _]) CX9_w3 LX9_132 SX9_w3 dX9_beginOne_208 rfl (Nat.le_of_ble_eq_true rfl) (Nat.le_of_ble_eq_true rfl) (by omega) (r_w3 (d := 1) (a0 := 110) (a1 := 111) (a2 := 116) (by omega) (by omega) (by omega) (Nat.le_refl _)) rok_l ⟨Nat.le_refl _, Nat.le_refl _, hN, hS⟩ ?_
  refine z_eql (show _ = lN 7237492 from rfl) ?_
  refine y_callV (as := [_]) CX9_isWord LX9_192 IX9_isWord VX9_isWord ⟨rfl, Nat.le_of_ble_eq_true rfl⟩ dX9_beginOne_211 hm.o rfl (Nat.le_of_ble_eq_true rfl) (Nat.le_of_ble_eq_true rfl) (by omega) (r_isWord (d := 0) (k := 29) (by exact (by exact hm)) ht nt tP_le (by omega) (wd_29 (bb _))) (rok_z bI_01) ⟨Nat.le_refl _, Nat.le_refl _, hN, hS⟩ ?_
  refine z_if_eq dX9_beginOne_214 rfl (fun c => absurd c (bI_ne0.mpr hk)) (fun _ => ?_)
  refine z_aload_n dX9_beginOne_217 rfl rfl ?_
  refine y_callV (as := []) CX9_isAskAhead LX9_196 IX9_isAskAhead VX9_isAskAhead ⟨rfl, Nat.le_of_ble_eq_true rfl⟩ dX9_beginOne_218 hm.o rfl (Nat.le_of_ble_eq_true rfl) (Nat.le_of_ble_eq_true rfl) (by omega) ask (rok_z a01) ⟨Nat.le_refl _, Nat.le_refl _, hN, hS⟩ ?_
  refine z_if_eq dX9_beginOne_221 rfl (fun c => absurd c (by decide)) (fun _ => ?_)
  refine z_aload_n dX9_beginOne_224 rfl rfl ?_
  refine z_bipush (v := 20) dX9_beginOne_225 (by decide) ?_
  refine y_callV (as := [_]) CX9_opened LX9_185 IX9_opened VX9_opened ⟨rfl, Nat.le_of_ble_eq_true rfl⟩ dX9_beginOne_227 hm.o rfl (Nat.le_of_ble_eq_true rfl) (Nat.le_of_ble_eq_true rfl) (by omega) op1 rok_i hgo ?_
  refine z_goto dX9_beginOne_230 rfl ?_
  refine z_iret dX9_beginOne_234 ?_
  exact hQ
theorem b_deep_29 {s : Ms} {t w0 so i op wh : Nat} {ro : List Nat} {c : Cd} {h : Hp} {d : Nat} (rp : RP s t w0 so i ro op wh c h) (ht : ITp s) (hk : tK (TPs s) (TNs s) i = 29) (h8 : op = 8) (hl0 : ro.length ≤ 160) (ha : askP ro) (hd : 5 ≤ d) : Sp d mX9_beginOne [.ref 488] h (some (.int 3)) h := by
  obtain ⟨tf, hr, em, fr, nt, e12, e13, e14, e16, e17, e18, pil⟩ := id rp
  have hm := hr.m
  have n3 : TNs s ≤ 300 := ht.1
  have bb : ∀ k, k < TNs s → TPs s k < 256 := fun k hk => ht.2 k (by omega)
  have rl := rtk_lt (tp := (TPs s)) (n := (TNs s)) (p := (tP (TPs s) (TNs s) i)) (bb _)
  have ty : ∀ c k, (rtk (TPs s) (TNs s) (tP (TPs s) (TNs s) i) = c ↔ tK (TPs s) (TNs s) i = k) → tK (TPs s) (TNs s) i = k → nI (rtk (TPs s) (TNs s) (tP (TPs s) (TNs s) i)) = nI c := fun c k iff e => congrArg nI (iff.mpr e)
  have tn : ∀ c k, c < 256 → (rtk (TPs s) (TNs s) (tP (TPs s) (TNs s) i) = c ↔ tK (TPs s) (TNs s) i = k) → ¬ tK (TPs s) (TNs s) i = k → ¬ nI (rtk (TPs s) (TNs s) (tP (TPs s) (TNs s) i)) = nI c := fun c k hc iff ne q => ne (iff.mp ((nI_eq (by omega) (by omega)).mp q))
  have nm := r_nameOf (d := 4) rp ht (Nat.le_refl _)
  have lg := r_perc (d := 3) rp ht (Nat.le_refl _)
  have t1 := tn 1 52 (by omega) rt_small.2.1 (show ¬ tK (TPs s) (TNs s) i = 52 by omega)
  rw [hk, show nmo 29 = -1 from by decide] at nm
  have ask := r_ask_y (d := 2) rp hl0 ha (Nat.le_refl _)
  have a01 : (1 : Int32) = 0 ∨ (1 : Int32) = 1 := Or.inr rfl
  have op1 := r_opened8 (d := 2) (x := 20) rp h8
  intro N S Q hN hS hQ
  have hgo := hg_ss SS.rf hN hS
  refine z_aload_n dX9_beginOne_0 rfl rfl ?_
  refine y_getI FX9_106 dX9_beginOne_1 (Or.inl rfl) hm.o ?_
  refine z_eqi (y := nI (rtk (TPs s) (TNs s) (tP (TPs s) (TNs s) i))) nt.2.2.1 ?_
  refine z_iconst (v := 1) dX9_beginOne_4 (by decide) ?_
  refine z_icmp_ne dX9_beginOne_5 rfl (fun _ => ?_) (fun c => absurd c (t1))
  refine z_aload_n dX9_beginOne_20 rfl rfl ?_
  refine y_callV (as := []) CX9_nameOf LX9_176 IX9_nameOf VX9_nameOf ⟨rfl, Nat.le_of_ble_eq_true rfl⟩ dX9_beginOne_21 hm.o rfl (Nat.le_of_ble_eq_true rfl) (Nat.le_of_ble_eq_true rfl) (by omega) nm rok_i ⟨Nat.le_refl _, Nat.le_refl _, hN, hS⟩ ?_
  refine z_istore_n dX9_beginOne_24 rfl (Nat.le_of_ble_eq_true rfl) ?_
  refine z_iload_n dX9_beginOne_25 rfl rfl ?_
  refine z_if_lt dX9_beginOne_26 rfl (fun _ => ?_) (fun c => absurd (by decide) c)
  refine z_aload_n dX9_beginOne_39 rfl rfl ?_
  refine y_getI FX9_106 dX9_beginOne_40 (Or.inl rfl) hm.o ?_
  refine z_eqi (y := nI (rtk (TPs s) (TNs s) (tP (TPs s) (TNs s) i))) nt.2.2.1 ?_
  refine z_iconst (v := 1) dX9_beginOne_43 (by decide) ?_
  refine z_icmp_eq dX9_beginOne_44 rfl (fun c => absurd c (t1)) (fun _ => ?_)
  refine z_iload_n dX9_beginOne_47 rfl rfl ?_
  refine z_if_lt dX9_beginOne_48 rfl (fun _ => ?_) (fun c => absurd (by decide) c)
  refine z_aload_n dX9_beginOne_93 rfl rfl ?_
  refine y_getI FX9_106 dX9_beginOne_94 (Or.inl rfl) hm.o ?_
  refine z_eqi (y := nI (rtk (TPs s) (TNs s) (tP (TPs s) (TNs s) i))) nt.2.2.1 ?_
  refine z_bipush (v := 40) dX9_beginOne_97 (by decide) ?_
  refine z_icmp_ne dX9_beginOne_99 rfl (fun _ => ?_) (fun c => absurd c (tn 40 48 (by omega) (rt_sg (c := 40) (by decide)) (by omega)))
  refine z_aload_n dX9_beginOne_109 rfl rfl ?_
  refine y_getI FX9_106 dX9_beginOne_110 (Or.inl rfl) hm.o ?_
  refine z_eqi (y := nI (rtk (TPs s) (TNs s) (tP (TPs s) (TNs s) i))) nt.2.2.1 ?_
  refine z_bipush (v := 45) dX9_beginOne_113 (by decide) ?_
  refine z_icmp_ne dX9_beginOne_115 rfl (fun _ => ?_) (fun c => absurd c (tn 45 45 (by omega) (rt_sg (c := 45) (by decide)) (by omega)))
  refine z_aload_n dX9_beginOne_124 rfl rfl ?_
  refine z_bipush (v := 112) dX9_beginOne_125 (by decide) ?_
  refine z_bipush (v := 101) dX9_beginOne_127 (by decide) ?_
  refine z_bipush (v := 114) dX9_beginOne_129 (by decide) ?_
  refine z_bipush (v := 99) dX9_beginOne_131 (by decide) ?_
  refine y_callS (as := [_, _, _, _]) CX9_w4 LX9_136 SX9_w4 dX9_beginOne_133 rfl (Nat.le_of_ble_eq_true rfl) (Nat.le_of_ble_eq_true rfl) (by omega) (r_w4 (d := 2) (a0 := 112) (a1 := 101) (a2 := 114) (a3 := 99) (by omega) (by omega) (by omega) (by omega) (Nat.le_refl _)) rok_l ⟨Nat.le_refl _, Nat.le_refl _, hN, hS⟩ ?_
  refine z_bipush (v := 101) dX9_beginOne_136 (by decide) ?_
  refine z_bipush (v := 110) dX9_beginOne_138 (by decide) ?_
  refine z_bipush (v := 116) dX9_beginOne_140 (by decide) ?_
  refine y_callS (as := [_, _, _]) CX9_w3 LX9_132 SX9_w3 dX9_beginOne_142 rfl (Nat.le_of_ble_eq_true rfl) (Nat.le_of_ble_eq_true rfl) (by omega) (r_w3 (d := 1) (a0 := 101) (a1 := 110) (a2 := 116) (by omega) (by omega) (by omega) (Nat.le_refl _)) rok_l ⟨Nat.le_refl _, Nat.le_refl _, hN, hS⟩ ?_
  refine z_bipush (v := 7) dX9_beginOne_145 (by decide) ?_
  refine y_callV (as := [_, _, _]) CX9_isLong LX9_188 IX9_isLong VX9_isLong ⟨rfl, Nat.le_of_ble_eq_true rfl⟩ dX9_beginOne_147 hm.o rfl (Nat.le_of_ble_eq_true rfl) (Nat.le_of_ble_eq_true rfl) (by omega) lg (rok_z bI_01) ⟨Nat.le_refl _, Nat.le_refl _, hN, hS⟩ ?_
  refine z_if_eq dX9_beginOne_150 rfl (fun _ => ?_) (fun c => absurd (bI_eq0.mpr (show ¬ tK (TPs s) (TNs s) i = 20 by omega)) c)
  refine z_aload_n dX9_beginOne_160 rfl rfl ?_
  refine z_bipush (v := 115) dX9_beginOne_161 (by decide) ?_
  refine z_bipush (v := 111) dX9_beginOne_163 (by decide) ?_
  refine y_callS (as := [_, _]) CX9_w2 LX9_128 SX9_w2 dX9_beginOne_165 rfl (Nat.le_of_ble_eq_true rfl) (Nat.le_of_ble_eq_true rfl) (by omega) (r_w2 (d := 0) (a0 := 115) (a1 := 111) (by omega) (by omega) (Nat.le_refl _)) rok_l ⟨Nat.le_refl _, Nat.le_refl _, hN, hS⟩ ?_
  refine z_eql (show _ = lN 29551 from rfl) ?_
  refine y_callV (as := [_]) CX9_isWord LX9_192 IX9_isWord VX9_isWord ⟨rfl, Nat.le_of_ble_eq_true rfl⟩ dX9_beginOne_168 hm.o rfl (Nat.le_of_ble_eq_true rfl) (Nat.le_of_ble_eq_true rfl) (by omega) (r_isWord (d := 0) (k := 22) (by exact (by exact hm)) ht nt tP_le (by omega) (wd_22 (bb _))) (rok_z bI_01) ⟨Nat.le_refl _, Nat.le_refl _, hN, hS⟩ ?_
  refine z_if_eq dX9_beginOne_171 rfl (fun _ => ?_) (fun c => absurd (bI_eq0.mpr (show ¬ tK (TPs s) (TNs s) i = 22 by omega)) c)
  refine z_aload_n dX9_beginOne_180 rfl rfl ?_
  refine z_bipush (v := 105) dX9_beginOne_181 (by decide) ?_
  refine z_bipush (v := 102) dX9_beginOne_183 (by decide) ?_
  refine y_callS (as := [_, _]) CX9_w2 LX9_128 SX9_w2 dX9_beginOne_185 rfl (Nat.le_of_ble_eq_true rfl) (Nat.le_of_ble_eq_true rfl) (by omega) (r_w2 (d := 0) (a0 := 105) (a1 := 102) (by omega) (by omega) (Nat.le_refl _)) rok_l ⟨Nat.le_refl _, Nat.le_refl _, hN, hS⟩ ?_
  refine z_eql (show _ = lN 26982 from rfl) ?_
  refine y_callV (as := [_]) CX9_isWord LX9_192 IX9_isWord VX9_isWord ⟨rfl, Nat.le_of_ble_eq_true rfl⟩ dX9_beginOne_188 hm.o rfl (Nat.le_of_ble_eq_true rfl) (Nat.le_of_ble_eq_true rfl) (by omega) (r_isWord (d := 0) (k := 23) (by exact (by exact hm)) ht nt tP_le (by omega) (wd_23 (bb _))) (rok_z bI_01) ⟨Nat.le_refl _, Nat.le_refl _, hN, hS⟩ ?_
  refine z_if_eq dX9_beginOne_191 rfl (fun _ => ?_) (fun c => absurd (bI_eq0.mpr (show ¬ tK (TPs s) (TNs s) i = 23 by omega)) c)
  refine z_aload_n dX9_beginOne_201 rfl rfl ?_
  refine z_bipush (v := 110) dX9_beginOne_202 (by decide) ?_
  refine z_bipush (v := 111) dX9_beginOne_204 (by decide) ?_
  refine z_bipush (v := 116) dX9_beginOne_206 (by decide) ?_
  refine y_callS (as := [_, _, _]) CX9_w3 LX9_132 SX9_w3 dX9_beginOne_208 rfl (Nat.le_of_ble_eq_true rfl) (Nat.le_of_ble_eq_true rfl) (by omega) (r_w3 (d := 1) (a0 := 110) (a1 := 111) (a2 := 116) (by omega) (by omega) (by omega) (Nat.le_refl _)) rok_l ⟨Nat.le_refl _, Nat.le_refl _, hN, hS⟩ ?_
  refine z_eql (show _ = lN 7237492 from rfl) ?_
  refine y_callV (as := [_]) CX9_isWord LX9_192 IX9_isWord VX9_isWord ⟨rfl, Nat.le_of_ble_eq_true rfl⟩ dX9_beginOne_211 hm.o rfl (Nat.le_of_ble_eq_true rfl) (Nat.le_of_ble_eq_true rfl) (by omega) (r_isWord (d := 0) (k := 29) (by exact (by exact hm)) ht nt tP_le (by omega) (wd_29 (bb _))) (rok_z bI_01) ⟨Nat.le_refl _, Nat.le_refl _, hN, hS⟩ ?_
  refine z_if_eq dX9_beginOne_214 rfl (fun c => absurd c (bI_ne0.mpr hk)) (fun _ => ?_)
  refine z_aload_n dX9_beginOne_217 rfl rfl ?_
  refine y_callV (as := []) CX9_isAskAhead LX9_196 IX9_isAskAhead VX9_isAskAhead ⟨rfl, Nat.le_of_ble_eq_true rfl⟩ dX9_beginOne_218 hm.o rfl (Nat.le_of_ble_eq_true rfl) (Nat.le_of_ble_eq_true rfl) (by omega) ask (rok_z a01) ⟨Nat.le_refl _, Nat.le_refl _, hN, hS⟩ ?_
  refine z_if_eq dX9_beginOne_221 rfl (fun c => absurd c (by decide)) (fun _ => ?_)
  refine z_aload_n dX9_beginOne_224 rfl rfl ?_
  refine z_bipush (v := 20) dX9_beginOne_225 (by decide) ?_
  refine y_callV (as := [_]) CX9_opened LX9_185 IX9_opened VX9_opened ⟨rfl, Nat.le_of_ble_eq_true rfl⟩ dX9_beginOne_227 hm.o rfl (Nat.le_of_ble_eq_true rfl) (Nat.le_of_ble_eq_true rfl) (by omega) op1 rok_i hgo ?_
  refine z_goto dX9_beginOne_230 rfl ?_
  refine z_iret dX9_beginOne_234 ?_
  exact hQ

theorem b_other {s : Ms} {t w0 so i op wh : Nat} {ro : List Nat} {c : Cd} {h : Hp} {d : Nat} (rp : RP s t w0 so i ro op wh c h) (ht : ITp s) (hn : nmo (tK (TPs s) (TNs s) i) = -1) (hk : ¬ tK (TPs s) (TNs s) i = 52 ∧ ¬ tK (TPs s) (TNs s) i = 48 ∧ ¬ tK (TPs s) (TNs s) i = 45 ∧ ¬ tK (TPs s) (TNs s) i = 20 ∧ ¬ tK (TPs s) (TNs s) i = 22 ∧ ¬ tK (TPs s) (TNs s) i = 23) (hl : ro.length ≤ 160) (ha : tK (TPs s) (TNs s) i = 29 → ¬ askP ro) (hd : 5 ≤ d) : Sp d mX9_beginOne [.ref 488] h (some (.int 1)) h := by
  obtain ⟨tf, hr, em, fr, nt, e12, e13, e14, e16, e17, e18, pil⟩ := id rp
  have hm := hr.m
  have n3 : TNs s ≤ 300 := ht.1
  have bb : ∀ k, k < TNs s → TPs s k < 256 := fun k hk => ht.2 k (by omega)
  have rl := rtk_lt (tp := (TPs s)) (n := (TNs s)) (p := (tP (TPs s) (TNs s) i)) (bb _)
  have ty : ∀ c k, (rtk (TPs s) (TNs s) (tP (TPs s) (TNs s) i) = c ↔ tK (TPs s) (TNs s) i = k) → tK (TPs s) (TNs s) i = k → nI (rtk (TPs s) (TNs s) (tP (TPs s) (TNs s) i)) = nI c := fun c k iff e => congrArg nI (iff.mpr e)
  have tn : ∀ c k, c < 256 → (rtk (TPs s) (TNs s) (tP (TPs s) (TNs s) i) = c ↔ tK (TPs s) (TNs s) i = k) → ¬ tK (TPs s) (TNs s) i = k → ¬ nI (rtk (TPs s) (TNs s) (tP (TPs s) (TNs s) i)) = nI c := fun c k hc iff ne q => ne (iff.mp ((nI_eq (by omega) (by omega)).mp q))
  have nm := r_nameOf (d := 4) rp ht (Nat.le_refl _)
  have lg := r_perc (d := 3) rp ht (Nat.le_refl _)
  have t1 := tn 1 52 (by omega) rt_small.2.1 hk.1
  rw [hn] at nm
  intro N S Q hN hS hQ
  by_cases k29 : tK (TPs s) (TNs s) i = 29
  · have ask := r_ask_n (d := 2) rp hl (ha k29) (Nat.le_refl _)
    have a01 : (0 : Int32) = 0 ∨ (0 : Int32) = 1 := Or.inl rfl
    refine z_aload_n dX9_beginOne_0 rfl rfl ?_
    refine y_getI FX9_106 dX9_beginOne_1 (Or.inl rfl) hm.o ?_
    refine z_eqi (y := nI (rtk (TPs s) (TNs s) (tP (TPs s) (TNs s) i))) nt.2.2.1 ?_
    refine z_iconst (v := 1) dX9_beginOne_4 (by decide) ?_
    refine z_icmp_ne dX9_beginOne_5 rfl (fun _ => ?_) (fun c => absurd c (t1))
    refine z_aload_n dX9_beginOne_20 rfl rfl ?_
    refine y_callV (as := []) CX9_nameOf LX9_176 IX9_nameOf VX9_nameOf ⟨rfl, Nat.le_of_ble_eq_true rfl⟩ dX9_beginOne_21 hm.o rfl (Nat.le_of_ble_eq_true rfl) (Nat.le_of_ble_eq_true rfl) (by omega) nm rok_i ⟨Nat.le_refl _, Nat.le_refl _, hN, hS⟩ ?_
    refine z_istore_n dX9_beginOne_24 rfl (Nat.le_of_ble_eq_true rfl) ?_
    refine z_iload_n dX9_beginOne_25 rfl rfl ?_
    refine z_if_lt dX9_beginOne_26 rfl (fun _ => ?_) (fun c => absurd (by decide) c)
    refine z_aload_n dX9_beginOne_39 rfl rfl ?_
    refine y_getI FX9_106 dX9_beginOne_40 (Or.inl rfl) hm.o ?_
    refine z_eqi (y := nI (rtk (TPs s) (TNs s) (tP (TPs s) (TNs s) i))) nt.2.2.1 ?_
    refine z_iconst (v := 1) dX9_beginOne_43 (by decide) ?_
    refine z_icmp_eq dX9_beginOne_44 rfl (fun c => absurd c (t1)) (fun _ => ?_)
    refine z_iload_n dX9_beginOne_47 rfl rfl ?_
    refine z_if_lt dX9_beginOne_48 rfl (fun _ => ?_) (fun c => absurd (by decide) c)
    refine z_aload_n dX9_beginOne_93 rfl rfl ?_
    refine y_getI FX9_106 dX9_beginOne_94 (Or.inl rfl) hm.o ?_
    refine z_eqi (y := nI (rtk (TPs s) (TNs s) (tP (TPs s) (TNs s) i))) nt.2.2.1 ?_
    refine z_bipush (v := 40) dX9_beginOne_97 (by decide) ?_
    refine z_icmp_ne dX9_beginOne_99 rfl (fun _ => ?_) (fun c => absurd c (tn 40 48 (by omega) (rt_sg (c := 40) (by decide)) (by omega)))
    refine z_aload_n dX9_beginOne_109 rfl rfl ?_
    refine y_getI FX9_106 dX9_beginOne_110 (Or.inl rfl) hm.o ?_
    refine z_eqi (y := nI (rtk (TPs s) (TNs s) (tP (TPs s) (TNs s) i))) nt.2.2.1 ?_
    refine z_bipush (v := 45) dX9_beginOne_113 (by decide) ?_
    refine z_icmp_ne dX9_beginOne_115 rfl (fun _ => ?_) (fun c => absurd c (tn 45 45 (by omega) (rt_sg (c := 45) (by decide)) (by omega)))
    refine z_aload_n dX9_beginOne_124 rfl rfl ?_
    refine z_bipush (v := 112) dX9_beginOne_125 (by decide) ?_
    refine z_bipush (v := 101) dX9_beginOne_127 (by decide) ?_
    refine z_bipush (v := 114) dX9_beginOne_129 (by decide) ?_
    refine z_bipush (v := 99) dX9_beginOne_131 (by decide) ?_
    refine y_callS (as := [_, _, _, _]) CX9_w4 LX9_136 SX9_w4 dX9_beginOne_133 rfl (Nat.le_of_ble_eq_true rfl) (Nat.le_of_ble_eq_true rfl) (by omega) (r_w4 (d := 2) (a0 := 112) (a1 := 101) (a2 := 114) (a3 := 99) (by omega) (by omega) (by omega) (by omega) (Nat.le_refl _)) rok_l ⟨Nat.le_refl _, Nat.le_refl _, hN, hS⟩ ?_
    refine z_bipush (v := 101) dX9_beginOne_136 (by decide) ?_
    refine z_bipush (v := 110) dX9_beginOne_138 (by decide) ?_
    refine z_bipush (v := 116) dX9_beginOne_140 (by decide) ?_
    refine y_callS (as := [_, _, _]) CX9_w3 LX9_132 SX9_w3 dX9_beginOne_142 rfl (Nat.le_of_ble_eq_true rfl) (Nat.le_of_ble_eq_true rfl) (by omega) (r_w3 (d := 1) (a0 := 101) (a1 := 110) (a2 := 116) (by omega) (by omega) (by omega) (Nat.le_refl _)) rok_l ⟨Nat.le_refl _, Nat.le_refl _, hN, hS⟩ ?_
    refine z_bipush (v := 7) dX9_beginOne_145 (by decide) ?_
    refine y_callV (as := [_, _, _]) CX9_isLong LX9_188 IX9_isLong VX9_isLong ⟨rfl, Nat.le_of_ble_eq_true rfl⟩ dX9_beginOne_147 hm.o rfl (Nat.le_of_ble_eq_true rfl) (Nat.le_of_ble_eq_true rfl) (by omega) lg (rok_z bI_01) ⟨Nat.le_refl _, Nat.le_refl _, hN, hS⟩ ?_
    refine z_if_eq dX9_beginOne_150 rfl (fun _ => ?_) (fun c => absurd (bI_eq0.mpr hk.2.2.2.1) c)
    refine z_aload_n dX9_beginOne_160 rfl rfl ?_
    refine z_bipush (v := 115) dX9_beginOne_161 (by decide) ?_
    refine z_bipush (v := 111) dX9_beginOne_163 (by decide) ?_
    refine y_callS (as := [_, _]) CX9_w2 LX9_128 SX9_w2 dX9_beginOne_165 rfl (Nat.le_of_ble_eq_true rfl) (Nat.le_of_ble_eq_true rfl) (by omega) (r_w2 (d := 0) (a0 := 115) (a1 := 111) (by omega) (by omega) (Nat.le_refl _)) rok_l ⟨Nat.le_refl _, Nat.le_refl _, hN, hS⟩ ?_
    refine z_eql (show _ = lN 29551 from rfl) ?_
    refine y_callV (as := [_]) CX9_isWord LX9_192 IX9_isWord VX9_isWord ⟨rfl, Nat.le_of_ble_eq_true rfl⟩ dX9_beginOne_168 hm.o rfl (Nat.le_of_ble_eq_true rfl) (Nat.le_of_ble_eq_true rfl) (by omega) (r_isWord (d := 0) (k := 22) (by exact (by exact hm)) ht nt tP_le (by omega) (wd_22 (bb _))) (rok_z bI_01) ⟨Nat.le_refl _, Nat.le_refl _, hN, hS⟩ ?_
    refine z_if_eq dX9_beginOne_171 rfl (fun _ => ?_) (fun c => absurd (bI_eq0.mpr hk.2.2.2.2.1) c)
    refine z_aload_n dX9_beginOne_180 rfl rfl ?_
    refine z_bipush (v := 105) dX9_beginOne_181 (by decide) ?_
    refine z_bipush (v := 102) dX9_beginOne_183 (by decide) ?_
    refine y_callS (as := [_, _]) CX9_w2 LX9_128 SX9_w2 dX9_beginOne_185 rfl (Nat.le_of_ble_eq_true rfl) (Nat.le_of_ble_eq_true rfl) (by omega) (r_w2 (d := 0) (a0 := 105) (a1 := 102) (by omega) (by omega) (Nat.le_refl _)) rok_l ⟨Nat.le_refl _, Nat.le_refl _, hN, hS⟩ ?_
    refine z_eql (show _ = lN 26982 from rfl) ?_
    refine y_callV (as := [_]) CX9_isWord LX9_192 IX9_isWord VX9_isWord ⟨rfl, Nat.le_of_ble_eq_true rfl⟩ dX9_beginOne_188 hm.o rfl (Nat.le_of_ble_eq_true rfl) (Nat.le_of_ble_eq_true rfl) (by omega) (r_isWord (d := 0) (k := 23) (by exact (by exact hm)) ht nt tP_le (by omega) (wd_23 (bb _))) (rok_z bI_01) ⟨Nat.le_refl _, Nat.le_refl _, hN, hS⟩ ?_
    refine z_if_eq dX9_beginOne_191 rfl (fun _ => ?_) (fun c => absurd (bI_eq0.mpr hk.2.2.2.2.2) c)
    refine z_aload_n dX9_beginOne_201 rfl rfl ?_
    refine z_bipush (v := 110) dX9_beginOne_202 (by decide) ?_
    refine z_bipush (v := 111) dX9_beginOne_204 (by decide) ?_
    refine z_bipush (v := 116) dX9_beginOne_206 (by decide) ?_
    refine y_callS (as := [_, _, _]) CX9_w3 LX9_132 SX9_w3 dX9_beginOne_208 rfl (Nat.le_of_ble_eq_true rfl) (Nat.le_of_ble_eq_true rfl) (by omega) (r_w3 (d := 1) (a0 := 110) (a1 := 111) (a2 := 116) (by omega) (by omega) (by omega) (Nat.le_refl _)) rok_l ⟨Nat.le_refl _, Nat.le_refl _, hN, hS⟩ ?_
    refine z_eql (show _ = lN 7237492 from rfl) ?_
    refine y_callV (as := [_]) CX9_isWord LX9_192 IX9_isWord VX9_isWord ⟨rfl, Nat.le_of_ble_eq_true rfl⟩ dX9_beginOne_211 hm.o rfl (Nat.le_of_ble_eq_true rfl) (Nat.le_of_ble_eq_true rfl) (by omega) (r_isWord (d := 0) (k := 29) (by exact (by exact hm)) ht nt tP_le (by omega) (wd_29 (bb _))) (rok_z bI_01) ⟨Nat.le_refl _, Nat.le_refl _, hN, hS⟩ ?_
    refine z_if_eq dX9_beginOne_214 rfl (fun c => absurd c (bI_ne0.mpr k29)) (fun _ => ?_)
    refine z_aload_n dX9_beginOne_217 rfl rfl ?_
    refine y_callV (as := []) CX9_isAskAhead LX9_196 IX9_isAskAhead VX9_isAskAhead ⟨rfl, Nat.le_of_ble_eq_true rfl⟩ dX9_beginOne_218 hm.o rfl (Nat.le_of_ble_eq_true rfl) (Nat.le_of_ble_eq_true rfl) (by omega) ask (rok_z a01) ⟨Nat.le_refl _, Nat.le_refl _, hN, hS⟩ ?_
    refine z_if_eq dX9_beginOne_221 rfl (fun _ => ?_) (fun c => absurd (rfl) c)
    refine z_iconst (v := 1) dX9_beginOne_233 (by decide) ?_
    refine z_iret dX9_beginOne_234 ?_
    exact hQ
  · skip
    refine z_aload_n dX9_beginOne_0 rfl rfl ?_
    refine y_getI FX9_106 dX9_beginOne_1 (Or.inl rfl) hm.o ?_
    refine z_eqi (y := nI (rtk (TPs s) (TNs s) (tP (TPs s) (TNs s) i))) nt.2.2.1 ?_
    refine z_iconst (v := 1) dX9_beginOne_4 (by decide) ?_
    refine z_icmp_ne dX9_beginOne_5 rfl (fun _ => ?_) (fun c => absurd c (t1))
    refine z_aload_n dX9_beginOne_20 rfl rfl ?_
    refine y_callV (as := []) CX9_nameOf LX9_176 IX9_nameOf VX9_nameOf ⟨rfl, Nat.le_of_ble_eq_true rfl⟩ dX9_beginOne_21 hm.o rfl (Nat.le_of_ble_eq_true rfl) (Nat.le_of_ble_eq_true rfl) (by omega) nm rok_i ⟨Nat.le_refl _, Nat.le_refl _, hN, hS⟩ ?_
    refine z_istore_n dX9_beginOne_24 rfl (Nat.le_of_ble_eq_true rfl) ?_
    refine z_iload_n dX9_beginOne_25 rfl rfl ?_
    refine z_if_lt dX9_beginOne_26 rfl (fun _ => ?_) (fun c => absurd (by decide) c)
    refine z_aload_n dX9_beginOne_39 rfl rfl ?_
    refine y_getI FX9_106 dX9_beginOne_40 (Or.inl rfl) hm.o ?_
    refine z_eqi (y := nI (rtk (TPs s) (TNs s) (tP (TPs s) (TNs s) i))) nt.2.2.1 ?_
    refine z_iconst (v := 1) dX9_beginOne_43 (by decide) ?_
    refine z_icmp_eq dX9_beginOne_44 rfl (fun c => absurd c (t1)) (fun _ => ?_)
    refine z_iload_n dX9_beginOne_47 rfl rfl ?_
    refine z_if_lt dX9_beginOne_48 rfl (fun _ => ?_) (fun c => absurd (by decide) c)
    refine z_aload_n dX9_beginOne_93 rfl rfl ?_
    refine y_getI FX9_106 dX9_beginOne_94 (Or.inl rfl) hm.o ?_
    refine z_eqi (y := nI (rtk (TPs s) (TNs s) (tP (TPs s) (TNs s) i))) nt.2.2.1 ?_
    refine z_bipush (v := 40) dX9_beginOne_97 (by decide) ?_
    refine z_icmp_ne dX9_beginOne_99 rfl (fun _ => ?_) (fun c => absurd c (tn 40 48 (by omega) (rt_sg (c := 40) (by decide)) (by omega)))
    refine z_aload_n dX9_beginOne_109 rfl rfl ?_
    refine y_getI FX9_106 dX9_beginOne_110 (Or.inl rfl) hm.o ?_
    refine z_eqi (y := nI (rtk (TPs s) (TNs s) (tP (TPs s) (TNs s) i))) nt.2.2.1 ?_
    refine z_bipush (v := 45) dX9_beginOne_113 (by decide) ?_
    refine z_icmp_ne dX9_beginOne_115 rfl (fun _ => ?_) (fun c => absurd c (tn 45 45 (by omega) (rt_sg (c := 45) (by decide)) (by omega)))
    refine z_aload_n dX9_beginOne_124 rfl rfl ?_
    refine z_bipush (v := 112) dX9_beginOne_125 (by decide) ?_
    refine z_bipush (v := 101) dX9_beginOne_127 (by decide) ?_
    refine z_bipush (v := 114) dX9_beginOne_129 (by decide) ?_
    refine z_bipush (v := 99) dX9_beginOne_131 (by decide) ?_
    refine y_callS (as := [_, _, _, _]) CX9_w4 LX9_136 SX9_w4 dX9_beginOne_133 rfl (Nat.le_of_ble_eq_true rfl) (Nat.le_of_ble_eq_true rfl) (by omega) (r_w4 (d := 2) (a0 := 112) (a1 := 101) (a2 := 114) (a3 := 99) (by omega) (by omega) (by omega) (by omega) (Nat.le_refl _)) rok_l ⟨Nat.le_refl _, Nat.le_refl _, hN, hS⟩ ?_
    refine z_bipush (v := 101) dX9_beginOne_136 (by decide) ?_
    refine z_bipush (v := 110) dX9_beginOne_138 (by decide) ?_
    refine z_bipush (v := 116) dX9_beginOne_140 (by decide) ?_
    refine y_callS (as := [_, _, _]) CX9_w3 LX9_132 SX9_w3 dX9_beginOne_142 rfl (Nat.le_of_ble_eq_true rfl) (Nat.le_of_ble_eq_true rfl) (by omega) (r_w3 (d := 1) (a0 := 101) (a1 := 110) (a2 := 116) (by omega) (by omega) (by omega) (Nat.le_refl _)) rok_l ⟨Nat.le_refl _, Nat.le_refl _, hN, hS⟩ ?_
    refine z_bipush (v := 7) dX9_beginOne_145 (by decide) ?_
    refine y_callV (as := [_, _, _]) CX9_isLong LX9_188 IX9_isLong VX9_isLong ⟨rfl, Nat.le_of_ble_eq_true rfl⟩ dX9_beginOne_147 hm.o rfl (Nat.le_of_ble_eq_true rfl) (Nat.le_of_ble_eq_true rfl) (by omega) lg (rok_z bI_01) ⟨Nat.le_refl _, Nat.le_refl _, hN, hS⟩ ?_
    refine z_if_eq dX9_beginOne_150 rfl (fun _ => ?_) (fun c => absurd (bI_eq0.mpr hk.2.2.2.1) c)
    refine z_aload_n dX9_beginOne_160 rfl rfl ?_
    refine z_bipush (v := 115) dX9_beginOne_161 (by decide) ?_
    refine z_bipush (v := 111) dX9_beginOne_163 (by decide) ?_
    refine y_callS (as := [_, _]) CX9_w2 LX9_128 SX9_w2 dX9_beginOne_165 rfl (Nat.le_of_ble_eq_true rfl) (Nat.le_of_ble_eq_true rfl) (by omega) (r_w2 (d := 0) (a0 := 115) (a1 := 111) (by omega) (by omega) (Nat.le_refl _)) rok_l ⟨Nat.le_refl _, Nat.le_refl _, hN, hS⟩ ?_
    refine z_eql (show _ = lN 29551 from rfl) ?_
    refine y_callV (as := [_]) CX9_isWord LX9_192 IX9_isWord VX9_isWord ⟨rfl, Nat.le_of_ble_eq_true rfl⟩ dX9_beginOne_168 hm.o rfl (Nat.le_of_ble_eq_true rfl) (Nat.le_of_ble_eq_true rfl) (by omega) (r_isWord (d := 0) (k := 22) (by exact (by exact hm)) ht nt tP_le (by omega) (wd_22 (bb _))) (rok_z bI_01) ⟨Nat.le_refl _, Nat.le_refl _, hN, hS⟩ ?_
    refine z_if_eq dX9_beginOne_171 rfl (fun _ => ?_) (fun c => absurd (bI_eq0.mpr hk.2.2.2.2.1) c)
    refine z_aload_n dX9_beginOne_180 rfl rfl ?_
    refine z_bipush (v := 105) dX9_beginOne_181 (by decide) ?_
    refine z_bipush (v := 102) dX9_beginOne_183 (by decide) ?_
    refine y_callS (as := [_, _]) CX9_w2 LX9_128 SX9_w2 dX9_beginOne_185 rfl (Nat.le_of_ble_eq_true rfl) (Nat.le_of_ble_eq_true rfl) (by omega) (r_w2 (d := 0) (a0 := 105) (a1 := 102) (by omega) (by omega) (Nat.le_refl _)) rok_l ⟨Nat.le_refl _, Nat.le_refl _, hN, hS⟩ ?_
    refine z_eql (show _ = lN 26982 from rfl) ?_
    refine y_callV (as := [_]) CX9_isWord LX9_192 IX9_isWord VX9_isWord ⟨rfl, Nat.le_of_ble_eq_true rfl⟩ dX9_beginOne_188 hm.o rfl (Nat.le_of_ble_eq_true rfl) (Nat.le_of_ble_eq_true rfl) (by omega) (r_isWord (d := 0) (k := 23) (by exact (by exact hm)) ht nt tP_le (by omega) (wd_23 (bb _))) (rok_z bI_01) ⟨Nat.le_refl _, Nat.le_refl _, hN, hS⟩ ?_
    refine z_if_eq dX9_beginOne_191 rfl (fun _ => ?_) (fun c => absurd (bI_eq0.mpr hk.2.2.2.2.2) c)
    refine z_aload_n dX9_beginOne_201 rfl rfl ?_
    refine z_bipush (v := 110) dX9_beginOne_202 (by decide) ?_
    refine z_bipush (v := 111) dX9_beginOne_204 (by decide) ?_
    refine z_bipush (v := 116) dX9_beginOne_206 (by decide) ?_
    refine y_callS (as := [_, _, _]) CX9_w3 LX9_132 SX9_w3 dX9_beginOne_208 rfl (Nat.le_of_ble_eq_true rfl) (Nat.le_of_ble_eq_true rfl) (by omega) (r_w3 (d := 1) (a0 := 110) (a1 := 111) (a2 := 116) (by omega) (by omega) (by omega) (Nat.le_refl _)) rok_l ⟨Nat.le_refl _, Nat.le_refl _, hN, hS⟩ ?_
    refine z_eql (show _ = lN 7237492 from rfl) ?_
    refine y_callV (as := [_]) CX9_isWord LX9_192 IX9_isWord VX9_isWord ⟨rfl, Nat.le_of_ble_eq_true rfl⟩ dX9_beginOne_211 hm.o rfl (Nat.le_of_ble_eq_true rfl) (Nat.le_of_ble_eq_true rfl) (by omega) (r_isWord (d := 0) (k := 29) (by exact (by exact hm)) ht nt tP_le (by omega) (wd_29 (bb _))) (rok_z bI_01) ⟨Nat.le_refl _, Nat.le_refl _, hN, hS⟩ ?_
    refine z_if_eq dX9_beginOne_214 rfl (fun _ => ?_) (fun c => absurd (bI_eq0.mpr k29) c)
    refine z_iconst (v := 1) dX9_beginOne_233 (by decide) ?_
    refine z_iret dX9_beginOne_234 ?_
    exact hQ

