/-! the reference reads a sum: behind one (walks by program: wip/whole/gen9f.py) -/
theorem rk_le7 (x : Nat) : rk x ≤ 7 := by
  unfold rk
  repeat' split
  all_goals omega
theorem opV_c {h : Hp} : ∀ ro : List Nat, PIL h ro → opV ro = 40 ∨ opV ro = 41 ∨ opV ro = 42 ∨ opV ro = 43 ∨ opV ro = 44 ∨ opV ro = -1
  | [], _ => by right; right; right; right; right; rfl
  | x :: r, ⟨_, x44, pr⟩ => by
    by_cases q : 40 ≤ x
    · have e : opV (x :: r) = nI x := if_pos q
      rw [e]
      have q2 : x = 40 ∨ x = 41 ∨ x = 42 ∨ x = 43 ∨ x = 44 := by omega
      rcases q2 with rfl | rfl | rfl | rfl | rfl <;> decide
    · have e : opV (x :: r) = opV r := if_neg q
      rw [e]
      exact opV_c r pr

theorem r_beh_o {s : Ms} {t w0 so i op wh : Nat} {ro : List Nat} {c : Cd} {h : Hp} {d : Nat} {o l : Nat} {ro1 : List Nat} {op1 : Nat} {c1 : Cd} (rp : RP s t w0 so i ro op wh c h) (ht : ITp s) (hb : btw (tK (TPs s) (TNs s) i) ro = nI o) (h44 : o ≤ 44) (hl : rk o = 4 ∧ l = 5 ∨ ¬ rk o = 4 ∧ l = rk o) (es : stl l ro op c = (ro1, op1, c1)) (hl1 : ro1.length ≤ 159) (ht4 : t < 4) (h159 : ro.length ≤ 159) (hw : w0 + c.length + ro.length ≤ 304) (ho : nOp ro ≤ op) (h100 : op ≤ 100) (hd : 4 ≤ d) : ∃ h1, Sp d mX9_behindOne [.ref 488] h (some (.int 0)) h1 ∧ RP s t w0 so (i + 1) (o :: ro1) op1 0 c1 h1 ∧ FQ h h1 := by
  obtain ⟨tf, hr, em, fr, nt, e12, e13, e14, e16, e17, e18, pil⟩ := id rp
  have hm := hr.m
  have n3 : TNs s ≤ 300 := ht.1
  have bb : ∀ k, k < TNs s → TPs s k < 256 := fun k hk => ht.2 k (by omega)
  have bt := r_betweenOf (d := 2) rp ht (by omega) (Nat.le_refl _)
  rw [hb] at bt
  have r7 := rk_le7 o
  obtain ⟨g, s1, s2, s3⟩ := r_settleS (d := 1) (l := l) rp ht4 (by omega) h159 hw ho h100 (Nat.le_refl _)
  rw [es] at s2
  have s2 : RP s t w0 so i ro1 op1 wh c1 g := s2
  obtain ⟨_, _, _, _, _, _, _, _, x16, g17, _, pg⟩ := id s2
  have rp3 : RP s t w0 so i (o :: ro1) op1 0 c1 (sI (sI (sI g 493 ro1.length (nI o)) 488 16 (nI (ro1.length + 1))) 488 18 0) := by
    refine s2.fld (fun tf hr => rm_f (rm_f (rm_p hr (by omega)) (by omega)) (by omega)) (fun j q1 q2 => by rw [pI_sI, if_pos rfl, if_neg (by omega), pI_sI, if_pos rfl, if_neg (by omega), pI_sI_ne (by omega)]) rfl ?_ ?_ ?_ ⟨?_, h44, ?_⟩
    · rw [pI_sI, if_pos rfl, if_neg (by omega), pI_sI, if_pos rfl, if_pos rfl]; rfl
    · rw [pI_sI, if_pos rfl, if_neg (by omega), pI_sI, if_pos rfl, if_neg (by omega), pI_sI_ne (by omega)]; exact g17
    · rw [pI_sI, if_pos rfl, if_pos rfl]; rfl
    · rw [pI_sI_ne (by omega), pI_sI_ne (by omega), pI_sI, if_pos rfl, if_pos rfl]
    · refine PIL.fr (h := sI g 493 ro1.length (nI o)) ?_ _ (PIL.up _ (Nat.le_refl _) pg)
      rw [pI_sI_ne (by omega), pI_sI_ne (by omega)]
  have f3 : FQ h (sI (sI (sI g 493 ro1.length (nI o)) 488 16 (nI (ro1.length + 1))) 488 18 0) := ((s3.c (Or.inr rfl)).f (by omega)).f (by omega)
  obtain ⟨h1, n1, n2, n3, _⟩ := r_next (d := 1) rp3 ht (Nat.le_refl _)
  refine ⟨h1, ?_, n2, f3.tr n3⟩
  intro N S Q hN hS hQ
  have hN : pn h ≤ N := by rw [← (f3.tr n3).1.n]; exact hN
  have hS : ps h ≤ S := by rw [← (f3.tr n3).1.s]; exact hS
  have hN1 : pn g ≤ N := by rw [s3.1.n]; exact hN
  have hS1 : ps g ≤ S := by rw [s3.1.s]; exact hS
  rcases hl with ⟨r4, rfl⟩ | ⟨r4, rfl⟩
  · skip
    refine z_aload_n dX9_behindOne_0 rfl rfl ?_
    refine y_callV (as := []) CX9_betweenOf LX9_212 IX9_betweenOf VX9_betweenOf ⟨rfl, Nat.le_of_ble_eq_true rfl⟩ dX9_behindOne_1 hm.o rfl (Nat.le_of_ble_eq_true rfl) (Nat.le_of_ble_eq_true rfl) (by omega) bt rok_i ⟨Nat.le_refl _, Nat.le_refl _, hN, hS⟩ ?_
    refine z_istore_n dX9_behindOne_4 rfl (Nat.le_of_ble_eq_true rfl) ?_
    refine z_iload_n dX9_behindOne_5 rfl rfl ?_
    refine z_if_lt dX9_behindOne_6 rfl (fun c => absurd c (nI_pos (by omega))) (fun _ => ?_)
    refine z_aload_n dX9_behindOne_9 rfl rfl ?_
    refine z_iload_n dX9_behindOne_10 rfl rfl ?_
    refine y_callS (as := [_]) CX9_rank LX9_156 SX9_rank dX9_behindOne_11 rfl (Nat.le_of_ble_eq_true rfl) (Nat.le_of_ble_eq_true rfl) (by omega) (r_rank (d := 0) (by omega)) rok_i ⟨Nat.le_refl _, Nat.le_refl _, hN, hS⟩ ?_
    refine z_iconst (v := 4) dX9_behindOne_14 (by decide) ?_
    refine z_icmp_ne dX9_behindOne_15 rfl (fun c => absurd (congrArg nI r4) c) (fun _ => ?_)
    refine z_iconst (v := 5) dX9_behindOne_18 (by decide) ?_
    refine z_goto dX9_behindOne_19 rfl ?_
    refine y_callV (as := [_]) CX9_settle LX9_200 IX9_settle VX9_settle ⟨rfl, Nat.le_of_ble_eq_true rfl⟩ dX9_behindOne_26 hm.o rfl (Nat.le_of_ble_eq_true rfl) (Nat.le_of_ble_eq_true rfl) (by omega) s1 rok_v (hg_ss s3.1 hN hS) ?_
    refine z_aload_n dX9_behindOne_29 rfl rfl ?_
    refine y_getR FX9_29 dX9_behindOne_30 rfl (s3.1.O hm.o) (by first | (rw [s3.1.R]; exact hm.f_pile) | exact (congrFun (congrFun s3.1.R _) _).trans hm.f_pile) ?_
    refine z_aload_n dX9_behindOne_33 rfl rfl ?_
    refine y_getI FX9_153 dX9_behindOne_34 (Or.inl rfl) (s3.1.O hm.o) ?_
    refine z_eqi (y := nI (ro1.length)) x16 ?_
    refine z_iload_n dX9_behindOne_37 rfl rfl ?_
    refine y_iasN (ro1.length) dX9_behindOne_38 (s3.1.A hm.A_pile) (Nat.le_of_ble_eq_true rfl) (rfl) (by omega) ?_
    refine z_aload_n dX9_behindOne_39 rfl rfl ?_
    refine z_dup dX9_behindOne_40 rfl ?_
    refine y_getI FX9_153 dX9_behindOne_41 (Or.inl rfl) (s3.1.O hm.o) ?_
    refine z_eqi (y := nI (ro1.length)) (show _ = nI ro1.length by rw [pI_sI_ne (by omega)]; exact x16) ?_
    refine z_iconst (v := 1) dX9_behindOne_44 (by decide) ?_
    refine z_iadd dX9_behindOne_45 ?_
    refine z_eqi (nI_1 ro1.length) ?_
    refine y_putI FX9_153 dX9_behindOne_46 (Or.inl rfl) (Or.inl rfl) (s3.1.O hm.o) ?_
    refine z_aload_n dX9_behindOne_49 rfl rfl ?_
    refine z_iconst (v := 0) dX9_behindOne_50 (by decide) ?_
    refine y_putI FX9_203 dX9_behindOne_51 (Or.inl rfl) (Or.inr ⟨rfl, by decide⟩) (s3.1.O hm.o) ?_
    refine z_aload_n dX9_behindOne_54 rfl rfl ?_
    refine y_callV (as := []) CX9_nextToken LX9_173 IX9_nextToken VX9_nextToken ⟨rfl, Nat.le_of_ble_eq_true rfl⟩ dX9_behindOne_55 (s3.1.O hm.o) rfl (Nat.le_of_ble_eq_true rfl) (Nat.le_of_ble_eq_true rfl) (by omega) n1 rok_v (hg_ss n3.1 hN1 hS1) ?_
    refine z_iconst (v := 0) dX9_behindOne_58 (by decide) ?_
    refine z_iret dX9_behindOne_59 ?_
    exact hQ
  · skip
    refine z_aload_n dX9_behindOne_0 rfl rfl ?_
    refine y_callV (as := []) CX9_betweenOf LX9_212 IX9_betweenOf VX9_betweenOf ⟨rfl, Nat.le_of_ble_eq_true rfl⟩ dX9_behindOne_1 hm.o rfl (Nat.le_of_ble_eq_true rfl) (Nat.le_of_ble_eq_true rfl) (by omega) bt rok_i ⟨Nat.le_refl _, Nat.le_refl _, hN, hS⟩ ?_
    refine z_istore_n dX9_behindOne_4 rfl (Nat.le_of_ble_eq_true rfl) ?_
    refine z_iload_n dX9_behindOne_5 rfl rfl ?_
    refine z_if_lt dX9_behindOne_6 rfl (fun c => absurd c (nI_pos (by omega))) (fun _ => ?_)
    refine z_aload_n dX9_behindOne_9 rfl rfl ?_
    refine z_iload_n dX9_behindOne_10 rfl rfl ?_
    refine y_callS (as := [_]) CX9_rank LX9_156 SX9_rank dX9_behindOne_11 rfl (Nat.le_of_ble_eq_true rfl) (Nat.le_of_ble_eq_true rfl) (by omega) (r_rank (d := 0) (by omega)) rok_i ⟨Nat.le_refl _, Nat.le_refl _, hN, hS⟩ ?_
    refine z_iconst (v := 4) dX9_behindOne_14 (by decide) ?_
    refine z_icmp_ne dX9_behindOne_15 rfl (fun _ => ?_) (fun c => absurd c (fun q => r4 ((nI_eq (b := 4) (by omega) (by omega)).mp q)))
    refine z_iload_n dX9_behindOne_22 rfl rfl ?_
    refine y_callS (as := [_]) CX9_rank LX9_156 SX9_rank dX9_behindOne_23 rfl (Nat.le_of_ble_eq_true rfl) (Nat.le_of_ble_eq_true rfl) (by omega) (r_rank (d := 0) (by omega)) rok_i ⟨Nat.le_refl _, Nat.le_refl _, hN, hS⟩ ?_
    refine y_callV (as := [_]) CX9_settle LX9_200 IX9_settle VX9_settle ⟨rfl, Nat.le_of_ble_eq_true rfl⟩ dX9_behindOne_26 hm.o rfl (Nat.le_of_ble_eq_true rfl) (Nat.le_of_ble_eq_true rfl) (by omega) s1 rok_v (hg_ss s3.1 hN hS) ?_
    refine z_aload_n dX9_behindOne_29 rfl rfl ?_
    refine y_getR FX9_29 dX9_behindOne_30 rfl (s3.1.O hm.o) (by first | (rw [s3.1.R]; exact hm.f_pile) | exact (congrFun (congrFun s3.1.R _) _).trans hm.f_pile) ?_
    refine z_aload_n dX9_behindOne_33 rfl rfl ?_
    refine y_getI FX9_153 dX9_behindOne_34 (Or.inl rfl) (s3.1.O hm.o) ?_
    refine z_eqi (y := nI (ro1.length)) x16 ?_
    refine z_iload_n dX9_behindOne_37 rfl rfl ?_
    refine y_iasN (ro1.length) dX9_behindOne_38 (s3.1.A hm.A_pile) (Nat.le_of_ble_eq_true rfl) (rfl) (by omega) ?_
    refine z_aload_n dX9_behindOne_39 rfl rfl ?_
    refine z_dup dX9_behindOne_40 rfl ?_
    refine y_getI FX9_153 dX9_behindOne_41 (Or.inl rfl) (s3.1.O hm.o) ?_
    refine z_eqi (y := nI (ro1.length)) (show _ = nI ro1.length by rw [pI_sI_ne (by omega)]; exact x16) ?_
    refine z_iconst (v := 1) dX9_behindOne_44 (by decide) ?_
    refine z_iadd dX9_behindOne_45 ?_
    refine z_eqi (nI_1 ro1.length) ?_
    refine y_putI FX9_153 dX9_behindOne_46 (Or.inl rfl) (Or.inl rfl) (s3.1.O hm.o) ?_
    refine z_aload_n dX9_behindOne_49 rfl rfl ?_
    refine z_iconst (v := 0) dX9_behindOne_50 (by decide) ?_
    refine y_putI FX9_203 dX9_behindOne_51 (Or.inl rfl) (Or.inr ⟨rfl, by decide⟩) (s3.1.O hm.o) ?_
    refine z_aload_n dX9_behindOne_54 rfl rfl ?_
    refine y_callV (as := []) CX9_nextToken LX9_173 IX9_nextToken VX9_nextToken ⟨rfl, Nat.le_of_ble_eq_true rfl⟩ dX9_behindOne_55 (s3.1.O hm.o) rfl (Nat.le_of_ble_eq_true rfl) (Nat.le_of_ble_eq_true rfl) (by omega) n1 rok_v (hg_ss n3.1 hN1 hS1) ?_
    refine z_iconst (v := 0) dX9_behindOne_58 (by decide) ?_
    refine z_iret dX9_behindOne_59 ?_
    exact hQ
theorem r_beh_n {s : Ms} {t w0 so i op wh : Nat} {ro : List Nat} {c : Cd} {h : Hp} {d : Nat} (rp : RP s t w0 so i ro op wh c h) (ht : ITp s) (hb : btw (tK (TPs s) (TNs s) i) ro = -1) (hp : prt (tK (TPs s) (TNs s) i) (opV ro) ro = -1) (hl : ro.length ≤ 160) (hd : 4 ≤ d) : Sp d mX9_behindOne [.ref 488] h (some (.int (-1))) h := by
  obtain ⟨tf, hr, em, fr, nt, e12, e13, e14, e16, e17, e18, pil⟩ := id rp
  have hm := hr.m
  have n3 : TNs s ≤ 300 := ht.1
  have bb : ∀ k, k < TNs s → TPs s k < 256 := fun k hk => ht.2 k (by omega)
  have bt := r_betweenOf (d := 2) rp ht hl (Nat.le_refl _)
  rw [hb] at bt
  have on := r_openNow (d := 1) rp hl (Nat.le_refl _)
  have pa := r_partOf (d := 3) rp ht hl (opV_c _ pil) (Nat.le_refl _)
  rw [hp] at pa
  intro N S Q hN hS hQ
  refine z_aload_n dX9_behindOne_0 rfl rfl ?_
  refine y_callV (as := []) CX9_betweenOf LX9_212 IX9_betweenOf VX9_betweenOf ⟨rfl, Nat.le_of_ble_eq_true rfl⟩ dX9_behindOne_1 hm.o rfl (Nat.le_of_ble_eq_true rfl) (Nat.le_of_ble_eq_true rfl) (by omega) bt rok_i ⟨Nat.le_refl _, Nat.le_refl _, hN, hS⟩ ?_
  refine z_istore_n dX9_behindOne_4 rfl (Nat.le_of_ble_eq_true rfl) ?_
  refine z_iload_n dX9_behindOne_5 rfl rfl ?_
  refine z_if_lt dX9_behindOne_6 rfl (fun _ => ?_) (fun c => absurd (by decide) c)
  refine z_aload_n dX9_behindOne_60 rfl rfl ?_
  refine y_callV (as := []) CX9_openNow LX9_170 IX9_openNow VX9_openNow ⟨rfl, Nat.le_of_ble_eq_true rfl⟩ dX9_behindOne_61 hm.o rfl (Nat.le_of_ble_eq_true rfl) (Nat.le_of_ble_eq_true rfl) (by omega) on rok_i ⟨Nat.le_refl _, Nat.le_refl _, hN, hS⟩ ?_
  refine z_istore_n dX9_behindOne_64 rfl (Nat.le_of_ble_eq_true rfl) ?_
  refine z_aload_n dX9_behindOne_65 rfl rfl ?_
  refine z_iload_n dX9_behindOne_66 rfl rfl ?_
  refine y_callV (as := [_]) CX9_partOf LX9_215 IX9_partOf VX9_partOf ⟨rfl, Nat.le_of_ble_eq_true rfl⟩ dX9_behindOne_67 hm.o rfl (Nat.le_of_ble_eq_true rfl) (Nat.le_of_ble_eq_true rfl) (by omega) pa rok_i ⟨Nat.le_refl _, Nat.le_refl _, hN, hS⟩ ?_
  refine z_istore_n dX9_behindOne_70 rfl (Nat.le_of_ble_eq_true rfl) ?_
  refine z_iload_n dX9_behindOne_71 rfl rfl ?_
  refine z_if_ge dX9_behindOne_72 rfl (fun c => absurd c (by decide)) (fun _ => ?_)
  refine z_iconst (v := -1) dX9_behindOne_75 (by decide) ?_
  refine z_iret dX9_behindOne_76 ?_
  exact hQ

theorem r_beh_p {s : Ms} {t w0 so i op wh : Nat} {ro : List Nat} {c : Cd} {h : Hp} {d : Nat} {r : List Nat} {op1 : Nat} {c1 : Cd} {x : Nat} (rp : RP s t w0 so i ro op wh c h) (ht : ITp s) (hb : btw (tK (TPs s) (TNs s) i) ro = -1) (hp : prt (tK (TPs s) (TNs s) i) (opV ro) ro = 0) (hv : opV ro = 40) (es : stl 1 ro op c = (x :: r, op1 + 1, c1)) (ht4 : t < 4) (h159 : ro.length ≤ 159) (hw : w0 + c.length + ro.length ≤ 304) (ho : nOp ro ≤ op) (h100 : op ≤ 100) (hd : 4 ≤ d) : ∃ h2, RP s t w0 so (i + 1) r op1 wh c1 h2 ∧ FQ h h2 ∧ ∀ (z : Int32) (h3 : Hp), Sp 3 mX9_endOne [.ref 488] h2 (some (.int z)) h3 → FQ h2 h3 → Sp d mX9_behindOne [.ref 488] h (some (.int z)) h3 := by
  obtain ⟨tf, hr, em, fr, nt, e12, e13, e14, e16, e17, e18, pil⟩ := id rp
  have hm := hr.m
  have n3 : TNs s ≤ 300 := ht.1
  have bb : ∀ k, k < TNs s → TPs s k < 256 := fun k hk => ht.2 k (by omega)
  have bt := r_betweenOf (d := 2) rp ht (by omega) (Nat.le_refl _)
  rw [hb] at bt
  have on := r_openNow (d := 1) rp (by omega) (Nat.le_refl _)
  have pa := r_partOf (d := 3) rp ht (by omega) (opV_c _ pil) (Nat.le_refl _)
  rw [hp] at pa
  obtain ⟨g, s1, s2, s3⟩ := r_settleS (d := 1) (l := 1) rp ht4 (by omega) h159 hw ho h100 (Nat.le_refl _)
  rw [es] at s2
  obtain ⟨g2, n1, n2, n3x, _⟩ := r_next (d := 1) s2 ht (Nat.le_refl _)
  have s2 : RP s t w0 so i (x :: r) (op1 + 1) wh c1 g := s2
  obtain ⟨_, _, _, _, _, _, _, _, x16, x17, x18, pg⟩ := id n2
  have x16 : pI g2 488 16 = nI (r.length + 1) := x16
  have x17 : pI g2 488 17 = nI (op1 + 1) := x17
  have rp3 : RP s t w0 so (i + 1) r op1 wh c1 (sI (sI g2 488 17 (nI op1)) 488 16 (nI r.length)) := by
    refine n2.fld (fun tf hr => rm_f (rm_f hr (by omega)) (by omega)) (fun j q1 q2 => by rw [pI_sI, if_pos rfl, if_neg (by omega), pI_sI, if_pos rfl, if_neg (by omega)]) rfl ?_ ?_ ?_ ?_
    · rw [pI_sI, if_pos rfl, if_pos rfl]
    · rw [pI_sI, if_pos rfl, if_neg (by omega), pI_sI, if_pos rfl, if_pos rfl]
    · rw [pI_sI, if_pos rfl, if_neg (by omega), pI_sI, if_pos rfl, if_neg (by omega)]; exact x18
    · refine PIL.fr (h := g2) ?_ _ pg.2.2
      rw [pI_sI_ne (by omega), pI_sI_ne (by omega)]
  have f3 : FQ h (sI (sI g2 488 17 (nI op1)) 488 16 (nI r.length)) := ((s3.tr n3x).f (by omega)).f (by omega)
  rw [hv] at on pa
  refine ⟨(sI (sI g2 488 17 (nI op1)) 488 16 (nI r.length)), rp3, f3, fun z h3 eo f4 => ?_⟩
  have ff := f3.tr f4
  intro N S Q hN hS hQ
  have hN : pn h ≤ N := by rw [← ff.1.n]; exact hN
  have hS : ps h ≤ S := by rw [← ff.1.s]; exact hS
  have hN1 : pn g ≤ N := by rw [s3.1.n]; exact hN
  have hS1 : ps g ≤ S := by rw [s3.1.s]; exact hS
  have hge := hg_ss f4.1 (N := N) (S := S) (by rw [f3.1.n]; exact hN) (by rw [f3.1.s]; exact hS)
  refine z_aload_n dX9_behindOne_0 rfl rfl ?_
  refine y_callV (as := []) CX9_betweenOf LX9_212 IX9_betweenOf VX9_betweenOf ⟨rfl, Nat.le_of_ble_eq_true rfl⟩ dX9_behindOne_1 hm.o rfl (Nat.le_of_ble_eq_true rfl) (Nat.le_of_ble_eq_true rfl) (by omega) bt rok_i ⟨Nat.le_refl _, Nat.le_refl _, hN, hS⟩ ?_
  refine z_istore_n dX9_behindOne_4 rfl (Nat.le_of_ble_eq_true rfl) ?_
  refine z_iload_n dX9_behindOne_5 rfl rfl ?_
  refine z_if_lt dX9_behindOne_6 rfl (fun _ => ?_) (fun c => absurd (by decide) c)
  refine z_aload_n dX9_behindOne_60 rfl rfl ?_
  refine y_callV (as := []) CX9_openNow LX9_170 IX9_openNow VX9_openNow ⟨rfl, Nat.le_of_ble_eq_true rfl⟩ dX9_behindOne_61 hm.o rfl (Nat.le_of_ble_eq_true rfl) (Nat.le_of_ble_eq_true rfl) (by omega) on rok_i ⟨Nat.le_refl _, Nat.le_refl _, hN, hS⟩ ?_
  refine z_istore_n dX9_behindOne_64 rfl (Nat.le_of_ble_eq_true rfl) ?_
  refine z_aload_n dX9_behindOne_65 rfl rfl ?_
  refine z_iload_n dX9_behindOne_66 rfl rfl ?_
  refine y_callV (as := [_]) CX9_partOf LX9_215 IX9_partOf VX9_partOf ⟨rfl, Nat.le_of_ble_eq_true rfl⟩ dX9_behindOne_67 hm.o rfl (Nat.le_of_ble_eq_true rfl) (Nat.le_of_ble_eq_true rfl) (by omega) pa rok_i ⟨Nat.le_refl _, Nat.le_refl _, hN, hS⟩ ?_
  refine z_istore_n dX9_behindOne_70 rfl (Nat.le_of_ble_eq_true rfl) ?_
  refine z_iload_n dX9_behindOne_71 rfl rfl ?_
  refine z_if_ge dX9_behindOne_72 rfl (fun _ => ?_) (fun c => absurd (by decide) c)
  refine z_aload_n dX9_behindOne_77 rfl rfl ?_
  refine z_iconst (v := 1) dX9_behindOne_78 (by decide) ?_
  refine y_callV (as := [_]) CX9_settle LX9_200 IX9_settle VX9_settle ⟨rfl, Nat.le_of_ble_eq_true rfl⟩ dX9_behindOne_79 hm.o rfl (Nat.le_of_ble_eq_true rfl) (Nat.le_of_ble_eq_true rfl) (by omega) s1 rok_v (hg_ss s3.1 hN hS) ?_
  refine z_aload_n dX9_behindOne_82 rfl rfl ?_
  refine y_callV (as := []) CX9_nextToken LX9_173 IX9_nextToken VX9_nextToken ⟨rfl, Nat.le_of_ble_eq_true rfl⟩ dX9_behindOne_83 (s3.1.O hm.o) rfl (Nat.le_of_ble_eq_true rfl) (Nat.le_of_ble_eq_true rfl) (by omega) n1 rok_v (hg_ss n3x.1 hN1 hS1) ?_
  refine z_iload_n dX9_behindOne_86 rfl rfl ?_
  refine z_if_ne dX9_behindOne_87 rfl (fun c => absurd (rfl) c) (fun _ => ?_)
  refine z_aload_n dX9_behindOne_90 rfl rfl ?_
  refine z_dup dX9_behindOne_91 rfl ?_
  refine y_getI FX9_163 dX9_behindOne_92 (Or.inl rfl) ((s3.1.tr n3x.1).O hm.o) ?_
  refine z_eqi (y := nI (op1 + 1)) x17 ?_
  refine z_iconst (v := 1) dX9_behindOne_95 (by decide) ?_
  refine z_isub dX9_behindOne_96 ?_
  refine z_eqi (nI_pred op1) ?_
  refine y_putI FX9_163 dX9_behindOne_97 (Or.inl rfl) (Or.inl rfl) ((s3.1.tr n3x.1).O hm.o) ?_
  refine z_aload_n dX9_behindOne_100 rfl rfl ?_
  refine z_dup dX9_behindOne_101 rfl ?_
  refine y_getI FX9_153 dX9_behindOne_102 (Or.inl rfl) ((s3.1.tr n3x.1).O hm.o) ?_
  refine z_eqi (y := nI (r.length + 1)) (show _ = nI (r.length + 1) by rw [pI_sI, if_pos rfl, if_neg (by omega)]; exact x16) ?_
  refine z_iconst (v := 1) dX9_behindOne_105 (by decide) ?_
  refine z_isub dX9_behindOne_106 ?_
  refine z_eqi (nI_pred r.length) ?_
  refine y_putI FX9_153 dX9_behindOne_107 (Or.inl rfl) (Or.inl rfl) ((s3.1.tr n3x.1).O hm.o) ?_
  refine z_iload_n dX9_behindOne_110 rfl rfl ?_
  refine z_bipush (v := 44) dX9_behindOne_111 (by decide) ?_
  refine z_icmp_ne dX9_behindOne_113 rfl (fun _ => ?_) (fun c => absurd c (by decide))
  refine z_aload_n dX9_behindOne_122 rfl rfl ?_
  refine y_callV (as := []) CX9_endOne LX9_182 IX9_endOne VX9_endOne ⟨rfl, Nat.le_of_ble_eq_true rfl⟩ dX9_behindOne_123 ((s3.1.tr n3x.1).O hm.o) rfl (Nat.le_of_ble_eq_true rfl) (Nat.le_of_ble_eq_true rfl) (by omega) eo rok_i hge ?_
  refine z_iret dX9_behindOne_126 ?_
  exact hQ
theorem r_beh_i {s : Ms} {t w0 so i op wh : Nat} {ro : List Nat} {c : Cd} {h : Hp} {d : Nat} {r : List Nat} {op1 : Nat} {c1 : Cd} {x : Nat} (rp : RP s t w0 so i ro op wh c h) (ht : ITp s) (hb : btw (tK (TPs s) (TNs s) i) ro = -1) (hp : prt (tK (TPs s) (TNs s) i) (opV ro) ro = 0) (hv : opV ro = 44) (es : stl 1 ro op c = (x :: r, op1 + 1, c1)) (hw1 : w0 + c1.length ≤ 303) (ht4 : t < 4) (h159 : ro.length ≤ 159) (hw : w0 + c.length + ro.length ≤ 304) (ho : nOp ro ≤ op) (h100 : op ≤ 100) (hd : 4 ≤ d) : ∃ h2, RP s t w0 so (i + 1) r op1 wh (c1 ++ [(3, 0)]) h2 ∧ FQ h h2 ∧ ∀ (z : Int32) (h3 : Hp), Sp 3 mX9_endOne [.ref 488] h2 (some (.int z)) h3 → FQ h2 h3 → Sp d mX9_behindOne [.ref 488] h (some (.int z)) h3 := by
  obtain ⟨tf, hr, em, fr, nt, e12, e13, e14, e16, e17, e18, pil⟩ := id rp
  have hm := hr.m
  have n3 : TNs s ≤ 300 := ht.1
  have bb : ∀ k, k < TNs s → TPs s k < 256 := fun k hk => ht.2 k (by omega)
  have bt := r_betweenOf (d := 2) rp ht (by omega) (Nat.le_refl _)
  rw [hb] at bt
  have on := r_openNow (d := 1) rp (by omega) (Nat.le_refl _)
  have pa := r_partOf (d := 3) rp ht (by omega) (opV_c _ pil) (Nat.le_refl _)
  rw [hp] at pa
  obtain ⟨g, s1, s2, s3⟩ := r_settleS (d := 1) (l := 1) rp ht4 (by omega) h159 hw ho h100 (Nat.le_refl _)
  rw [es] at s2
  obtain ⟨g2, n1, n2, n3x, _⟩ := r_next (d := 1) s2 ht (Nat.le_refl _)
  have s2 : RP s t w0 so i (x :: r) (op1 + 1) wh c1 g := s2
  obtain ⟨_, _, _, _, _, _, _, _, x16, x17, x18, pg⟩ := id n2
  have x16 : pI g2 488 16 = nI (r.length + 1) := x16
  have x17 : pI g2 488 17 = nI (op1 + 1) := x17
  have rp3 : RP s t w0 so (i + 1) r op1 wh c1 (sI (sI g2 488 17 (nI op1)) 488 16 (nI r.length)) := by
    refine n2.fld (fun tf hr => rm_f (rm_f hr (by omega)) (by omega)) (fun j q1 q2 => by rw [pI_sI, if_pos rfl, if_neg (by omega), pI_sI, if_pos rfl, if_neg (by omega)]) rfl ?_ ?_ ?_ ?_
    · rw [pI_sI, if_pos rfl, if_pos rfl]
    · rw [pI_sI, if_pos rfl, if_neg (by omega), pI_sI, if_pos rfl, if_pos rfl]
    · rw [pI_sI, if_pos rfl, if_neg (by omega), pI_sI, if_pos rfl, if_neg (by omega)]; exact x18
    · refine PIL.fr (h := g2) ?_ _ pg.2.2
      rw [pI_sI_ne (by omega), pI_sI_ne (by omega)]
  have f3 : FQ h (sI (sI g2 488 17 (nI op1)) 488 16 (nI r.length)) := ((s3.tr n3x).f (by omega)).f (by omega)
  rw [hv] at on pa
  obtain ⟨h2, k1, k2, k3, _⟩ := r_emit (d := 3) (o := 3) (v := 0) rp3 ht4 hw1
  refine ⟨h2, k2, f3.tr k3, fun z h3 eo f4 => ?_⟩
  have ff := (f3.tr k3).tr f4
  intro N S Q hN hS hQ
  have hN : pn h ≤ N := by rw [← ff.1.n]; exact hN
  have hS : ps h ≤ S := by rw [← ff.1.s]; exact hS
  have hN1 : pn g ≤ N := by rw [s3.1.n]; exact hN
  have hS1 : ps g ≤ S := by rw [s3.1.s]; exact hS
  have hgk := hg_ss k3.1 (N := N) (S := S) (by rw [f3.1.n]; exact hN) (by rw [f3.1.s]; exact hS)
  have hge := hg_ss f4.1 (N := N) (S := S) (by rw [(f3.tr k3).1.n]; exact hN) (by rw [(f3.tr k3).1.s]; exact hS)
  refine z_aload_n dX9_behindOne_0 rfl rfl ?_
  refine y_callV (as := []) CX9_betweenOf LX9_212 IX9_betweenOf VX9_betweenOf ⟨rfl, Nat.le_of_ble_eq_true rfl⟩ dX9_behindOne_1 hm.o rfl (Nat.le_of_ble_eq_true rfl) (Nat.le_of_ble_eq_true rfl) (by omega) bt rok_i ⟨Nat.le_refl _, Nat.le_refl _, hN, hS⟩ ?_
  refine z_istore_n dX9_behindOne_4 rfl (Nat.le_of_ble_eq_true rfl) ?_
  refine z_iload_n dX9_behindOne_5 rfl rfl ?_
  refine z_if_lt dX9_behindOne_6 rfl (fun _ => ?_) (fun c => absurd (by decide) c)
  refine z_aload_n dX9_behindOne_60 rfl rfl ?_
  refine y_callV (as := []) CX9_openNow LX9_170 IX9_openNow VX9_openNow ⟨rfl, Nat.le_of_ble_eq_true rfl⟩ dX9_behindOne_61 hm.o rfl (Nat.le_of_ble_eq_true rfl) (Nat.le_of_ble_eq_true rfl) (by omega) on rok_i ⟨Nat.le_refl _, Nat.le_refl _, hN, hS⟩ ?_
  refine z_istore_n dX9_behindOne_64 rfl (Nat.le_of_ble_eq_true rfl) ?_
  refine z_aload_n dX9_behindOne_65 rfl rfl ?_
  refine z_iload_n dX9_behindOne_66 rfl rfl ?_
  refine y_callV (as := [_]) CX9_partOf LX9_215 IX9_partOf VX9_partOf ⟨rfl, Nat.le_of_ble_eq_true rfl⟩ dX9_behindOne_67 hm.o rfl (Nat.le_of_ble_eq_true rfl) (Nat.le_of_ble_eq_true rfl) (by omega) pa rok_i ⟨Nat.le_refl _, Nat.le_refl _, hN, hS⟩ ?_
  refine z_istore_n dX9_behindOne_70 rfl (Nat.le_of_ble_eq_true rfl) ?_
  refine z_iload_n dX9_behindOne_71 rfl rfl ?_
  refine z_if_ge dX9_behindOne_72 rfl (fun _ => ?_) (fun c => absurd (by decide) c)
  refine z_aload_n dX9_behindOne_77 rfl rfl ?_
  refine z_iconst (v := 1) dX9_behindOne_78 (by decide) ?_
  refine y_callV (as := [_]) CX9_settle LX9_200 IX9_settle VX9_settle ⟨rfl, Nat.le_of_ble_eq_true rfl⟩ dX9_behindOne_79 hm.o rfl (Nat.le_of_ble_eq_true rfl) (Nat.le_of_ble_eq_true rfl) (by omega) s1 rok_v (hg_ss s3.1 hN hS) ?_
  refine z_aload_n dX9_behindOne_82 rfl rfl ?_
  refine y_callV (as := []) CX9_nextToken LX9_173 IX9_nextToken VX9_nextToken ⟨rfl, Nat.le_of_ble_eq_true rfl⟩ dX9_behindOne_83 (s3.1.O hm.o) rfl (Nat.le_of_ble_eq_true rfl) (Nat.le_of_ble_eq_true rfl) (by omega) n1 rok_v (hg_ss n3x.1 hN1 hS1) ?_
  refine z_iload_n dX9_behindOne_86 rfl rfl ?_
  refine z_if_ne dX9_behindOne_87 rfl (fun c => absurd (rfl) c) (fun _ => ?_)
  refine z_aload_n dX9_behindOne_90 rfl rfl ?_
  refine z_dup dX9_behindOne_91 rfl ?_
  refine y_getI FX9_163 dX9_behindOne_92 (Or.inl rfl) ((s3.1.tr n3x.1).O hm.o) ?_
  refine z_eqi (y := nI (op1 + 1)) x17 ?_
  refine z_iconst (v := 1) dX9_behindOne_95 (by decide) ?_
  refine z_isub dX9_behindOne_96 ?_
  refine z_eqi (nI_pred op1) ?_
  refine y_putI FX9_163 dX9_behindOne_97 (Or.inl rfl) (Or.inl rfl) ((s3.1.tr n3x.1).O hm.o) ?_
  refine z_aload_n dX9_behindOne_100 rfl rfl ?_
  refine z_dup dX9_behindOne_101 rfl ?_
  refine y_getI FX9_153 dX9_behindOne_102 (Or.inl rfl) ((s3.1.tr n3x.1).O hm.o) ?_
  refine z_eqi (y := nI (r.length + 1)) (show _ = nI (r.length + 1) by rw [pI_sI, if_pos rfl, if_neg (by omega)]; exact x16) ?_
  refine z_iconst (v := 1) dX9_behindOne_105 (by decide) ?_
  refine z_isub dX9_behindOne_106 ?_
  refine z_eqi (nI_pred r.length) ?_
  refine y_putI FX9_153 dX9_behindOne_107 (Or.inl rfl) (Or.inl rfl) ((s3.1.tr n3x.1).O hm.o) ?_
  refine z_iload_n dX9_behindOne_110 rfl rfl ?_
  refine z_bipush (v := 44) dX9_behindOne_111 (by decide) ?_
  refine z_icmp_ne dX9_behindOne_113 rfl (fun c => absurd (rfl) c) (fun _ => ?_)
  refine z_aload_n dX9_behindOne_116 rfl rfl ?_
  refine z_iconst (v := 3) dX9_behindOne_117 (by decide) ?_
  refine z_iconst (v := 0) dX9_behindOne_118 (by decide) ?_
  refine y_callV (as := [_, _]) CX9_emit LX9_159 IX9_emit VX9_emit ⟨rfl, Nat.le_of_ble_eq_true rfl⟩ dX9_behindOne_119 ((s3.1.tr n3x.1).O hm.o) rfl (Nat.le_of_ble_eq_true rfl) (Nat.le_of_ble_eq_true rfl) (by omega) k1 rok_v hgk ?_
  refine z_aload_n dX9_behindOne_122 rfl rfl ?_
  refine y_callV (as := []) CX9_endOne LX9_182 IX9_endOne VX9_endOne ⟨rfl, Nat.le_of_ble_eq_true rfl⟩ dX9_behindOne_123 ((f3.tr k3).1.O hm.o) rfl (Nat.le_of_ble_eq_true rfl) (Nat.le_of_ble_eq_true rfl) (by omega) eo rok_i hge ?_
  refine z_iret dX9_behindOne_126 ?_
  exact hQ

theorem r_beh_y {s : Ms} {t w0 so i op wh : Nat} {ro : List Nat} {c : Cd} {h : Hp} {d : Nat} {r : List Nat} {op1 : Nat} {c1 : Cd} {x y : Nat} (rp : RP s t w0 so i ro op wh c h) (ht : ITp s) (hb : btw (tK (TPs s) (TNs s) i) ro = -1) (hp : prt (tK (TPs s) (TNs s) i) (opV ro) ro = nI y) (hy : y = 43 ∨ y = 44) (es : stl 1 ro op c = (x :: r, op1, c1)) (hx : 40 ≤ x) (hl1 : r.length + 1 ≤ 159) (ht4 : t < 4) (h159 : ro.length ≤ 159) (hw : w0 + c.length + ro.length ≤ 304) (ho : nOp ro ≤ op) (h100 : op ≤ 100) (hd : 4 ≤ d) : ∃ h1, Sp d mX9_behindOne [.ref 488] h (some (.int 0)) h1 ∧ RP s t w0 so (i + 1) (y :: r) op1 0 c1 h1 ∧ FQ h h1 := by
  obtain ⟨tf, hr, em, fr, nt, e12, e13, e14, e16, e17, e18, pil⟩ := id rp
  have hm := hr.m
  have n3 : TNs s ≤ 300 := ht.1
  have bb : ∀ k, k < TNs s → TPs s k < 256 := fun k hk => ht.2 k (by omega)
  have bt := r_betweenOf (d := 2) rp ht (by omega) (Nat.le_refl _)
  rw [hb] at bt
  have on := r_openNow (d := 1) rp (by omega) (Nat.le_refl _)
  have pa := r_partOf (d := 3) rp ht (by omega) (opV_c _ pil) (Nat.le_refl _)
  rw [hp] at pa
  obtain ⟨g, s1, s2, s3⟩ := r_settleS (d := 1) (l := 1) rp ht4 (by omega) h159 hw ho h100 (Nat.le_refl _)
  rw [es] at s2
  obtain ⟨g2, n1, n2, n3x, _⟩ := r_next (d := 1) s2 ht (Nat.le_refl _)
  have s2 : RP s t w0 so i (x :: r) op1 wh c1 g := s2
  have n2 : RP s t w0 so (i + 1) (x :: r) op1 wh c1 g2 := n2
  obtain ⟨_, _, _, _, _, _, _, _, x16, x17, x18, pg⟩ := id n2
  have oa := r_openAt (d := 1) n2 (show (x :: r).length ≤ 160 by show r.length + 1 ≤ 160; omega)
  rw [show opI (x :: r) = r.length + 1 from if_pos hx, cT_s] at oa
  have rp3 : RP s t w0 so (i + 1) (y :: r) op1 0 c1 (sI (sI g2 493 r.length (nI y)) 488 18 0) := by
    refine n2.fld (fun tf hr => rm_f (rm_p hr (by omega)) (by omega)) (fun j q1 q2 => by rw [pI_sI, if_pos rfl, if_neg (by omega), pI_sI_ne (by omega)]) rfl ?_ ?_ ?_ ⟨?_, by omega, ?_⟩
    · rw [pI_sI, if_pos rfl, if_neg (by omega), pI_sI_ne (by omega)]; exact x16
    · rw [pI_sI, if_pos rfl, if_neg (by omega), pI_sI_ne (by omega)]; exact x17
    · rw [pI_sI, if_pos rfl, if_pos rfl]; rfl
    · rw [pI_sI_ne (by omega), pI_sI, if_pos rfl, if_pos rfl]
    · refine PIL.fr (h := sI g2 493 r.length (nI y)) ?_ _ (PIL.up _ (Nat.le_refl _) pg.2.2)
      rw [pI_sI_ne (by omega)]
  have ff : FQ h (sI (sI g2 493 r.length (nI y)) 488 18 0) := (((s3.tr n3x).c (Or.inr rfl)).f (by omega))
  refine ⟨(sI (sI g2 493 r.length (nI y)) 488 18 0), ?_, rp3, ff⟩
  rcases hy with rfl | rfl
  · intro N S Q hN hS hQ
    have hN : pn h ≤ N := by rw [← ff.1.n]; exact hN
    have hS : ps h ≤ S := by rw [← ff.1.s]; exact hS
    have hN1 : pn g ≤ N := by rw [s3.1.n]; exact hN
    have hS1 : ps g ≤ S := by rw [s3.1.s]; exact hS
    have hN2 : pn g2 ≤ N := by rw [n3x.1.n]; exact hN1
    have hS2 : ps g2 ≤ S := by rw [n3x.1.s]; exact hS1
    refine z_aload_n dX9_behindOne_0 rfl rfl ?_
    refine y_callV (as := []) CX9_betweenOf LX9_212 IX9_betweenOf VX9_betweenOf ⟨rfl, Nat.le_of_ble_eq_true rfl⟩ dX9_behindOne_1 hm.o rfl (Nat.le_of_ble_eq_true rfl) (Nat.le_of_ble_eq_true rfl) (by omega) bt rok_i ⟨Nat.le_refl _, Nat.le_refl _, hN, hS⟩ ?_
    refine z_istore_n dX9_behindOne_4 rfl (Nat.le_of_ble_eq_true rfl) ?_
    refine z_iload_n dX9_behindOne_5 rfl rfl ?_
    refine z_if_lt dX9_behindOne_6 rfl (fun _ => ?_) (fun c => absurd (by decide) c)
    refine z_aload_n dX9_behindOne_60 rfl rfl ?_
    refine y_callV (as := []) CX9_openNow LX9_170 IX9_openNow VX9_openNow ⟨rfl, Nat.le_of_ble_eq_true rfl⟩ dX9_behindOne_61 hm.o rfl (Nat.le_of_ble_eq_true rfl) (Nat.le_of_ble_eq_true rfl) (by omega) on rok_i ⟨Nat.le_refl _, Nat.le_refl _, hN, hS⟩ ?_
    refine z_istore_n dX9_behindOne_64 rfl (Nat.le_of_ble_eq_true rfl) ?_
    refine z_aload_n dX9_behindOne_65 rfl rfl ?_
    refine z_iload_n dX9_behindOne_66 rfl rfl ?_
    refine y_callV (as := [_]) CX9_partOf LX9_215 IX9_partOf VX9_partOf ⟨rfl, Nat.le_of_ble_eq_true rfl⟩ dX9_behindOne_67 hm.o rfl (Nat.le_of_ble_eq_true rfl) (Nat.le_of_ble_eq_true rfl) (by omega) pa rok_i ⟨Nat.le_refl _, Nat.le_refl _, hN, hS⟩ ?_
    refine z_istore_n dX9_behindOne_70 rfl (Nat.le_of_ble_eq_true rfl) ?_
    refine z_iload_n dX9_behindOne_71 rfl rfl ?_
    refine z_if_ge dX9_behindOne_72 rfl (fun _ => ?_) (fun c => absurd (by decide) c)
    refine z_aload_n dX9_behindOne_77 rfl rfl ?_
    refine z_iconst (v := 1) dX9_behindOne_78 (by decide) ?_
    refine y_callV (as := [_]) CX9_settle LX9_200 IX9_settle VX9_settle ⟨rfl, Nat.le_of_ble_eq_true rfl⟩ dX9_behindOne_79 hm.o rfl (Nat.le_of_ble_eq_true rfl) (Nat.le_of_ble_eq_true rfl) (by omega) s1 rok_v (hg_ss s3.1 hN hS) ?_
    refine z_aload_n dX9_behindOne_82 rfl rfl ?_
    refine y_callV (as := []) CX9_nextToken LX9_173 IX9_nextToken VX9_nextToken ⟨rfl, Nat.le_of_ble_eq_true rfl⟩ dX9_behindOne_83 (s3.1.O hm.o) rfl (Nat.le_of_ble_eq_true rfl) (Nat.le_of_ble_eq_true rfl) (by omega) n1 rok_v (hg_ss n3x.1 hN1 hS1) ?_
    refine z_iload_n dX9_behindOne_86 rfl rfl ?_
    refine z_if_ne dX9_behindOne_87 rfl (fun _ => ?_) (fun c => absurd c (by decide))
    refine z_aload_n dX9_behindOne_127 rfl rfl ?_
    refine y_getR FX9_29 dX9_behindOne_128 rfl ((s3.1.tr n3x.1).O hm.o) (by first | (rw [(s3.1.tr n3x.1).R]; exact hm.f_pile) | exact (congrFun (congrFun (s3.1.tr n3x.1).R _) _).trans hm.f_pile) ?_
    refine z_aload_n dX9_behindOne_131 rfl rfl ?_
    refine y_callV (as := []) CX9_openAt LX9_166 IX9_openAt VX9_openAt ⟨rfl, Nat.le_of_ble_eq_true rfl⟩ dX9_behindOne_132 ((s3.1.tr n3x.1).O hm.o) rfl (Nat.le_of_ble_eq_true rfl) (Nat.le_of_ble_eq_true rfl) (by omega) oa rok_i ⟨Nat.le_refl _, Nat.le_refl _, hN2, hS2⟩ ?_
    refine z_iload_n dX9_behindOne_135 rfl rfl ?_
    refine y_iasN (r.length) dX9_behindOne_136 ((s3.1.tr n3x.1).A hm.A_pile) (Nat.le_of_ble_eq_true rfl) (rfl) (by omega) ?_
    refine z_aload_n dX9_behindOne_137 rfl rfl ?_
    refine z_iconst (v := 0) dX9_behindOne_138 (by decide) ?_
    refine y_putI FX9_203 dX9_behindOne_139 (Or.inl rfl) (Or.inr ⟨rfl, by decide⟩) ((s3.1.tr n3x.1).O hm.o) ?_
    refine z_iconst (v := 0) dX9_behindOne_142 (by decide) ?_
    refine z_iret dX9_behindOne_143 ?_
    exact hQ
  · intro N S Q hN hS hQ
    have hN : pn h ≤ N := by rw [← ff.1.n]; exact hN
    have hS : ps h ≤ S := by rw [← ff.1.s]; exact hS
    have hN1 : pn g ≤ N := by rw [s3.1.n]; exact hN
    have hS1 : ps g ≤ S := by rw [s3.1.s]; exact hS
    have hN2 : pn g2 ≤ N := by rw [n3x.1.n]; exact hN1
    have hS2 : ps g2 ≤ S := by rw [n3x.1.s]; exact hS1
    refine z_aload_n dX9_behindOne_0 rfl rfl ?_
    refine y_callV (as := []) CX9_betweenOf LX9_212 IX9_betweenOf VX9_betweenOf ⟨rfl, Nat.le_of_ble_eq_true rfl⟩ dX9_behindOne_1 hm.o rfl (Nat.le_of_ble_eq_true rfl) (Nat.le_of_ble_eq_true rfl) (by omega) bt rok_i ⟨Nat.le_refl _, Nat.le_refl _, hN, hS⟩ ?_
    refine z_istore_n dX9_behindOne_4 rfl (Nat.le_of_ble_eq_true rfl) ?_
    refine z_iload_n dX9_behindOne_5 rfl rfl ?_
    refine z_if_lt dX9_behindOne_6 rfl (fun _ => ?_) (fun c => absurd (by decide) c)
    refine z_aload_n dX9_behindOne_60 rfl rfl ?_
    refine y_callV (as := []) CX9_openNow LX9_170 IX9_openNow VX9_openNow ⟨rfl, Nat.le_of_ble_eq_true rfl⟩ dX9_behindOne_61 hm.o rfl (Nat.le_of_ble_eq_true rfl) (Nat.le_of_ble_eq_true rfl) (by omega) on rok_i ⟨Nat.le_refl _, Nat.le_refl _, hN, hS⟩ ?_
    refine z_istore_n dX9_behindOne_64 rfl (Nat.le_of_ble_eq_true rfl) ?_
    refine z_aload_n dX9_behindOne_65 rfl rfl ?_
    refine z_iload_n dX9_behindOne_66 rfl rfl ?_
    refine y_callV (as := [_]) CX9_partOf LX9_215 IX9_partOf VX9_partOf ⟨rfl, Nat.le_of_ble_eq_true rfl⟩ dX9_behindOne_67 hm.o rfl (Nat.le_of_ble_eq_true rfl) (Nat.le_of_ble_eq_true rfl) (by omega) pa rok_i ⟨Nat.le_refl _, Nat.le_refl _, hN, hS⟩ ?_
    refine z_istore_n dX9_behindOne_70 rfl (Nat.le_of_ble_eq_true rfl) ?_
    refine z_iload_n dX9_behindOne_71 rfl rfl ?_
    refine z_if_ge dX9_behindOne_72 rfl (fun _ => ?_) (fun c => absurd (by decide) c)
    refine z_aload_n dX9_behindOne_77 rfl rfl ?_
    refine z_iconst (v := 1) dX9_behindOne_78 (by decide) ?_
    refine y_callV (as := [_]) CX9_settle LX9_200 IX9_settle VX9_settle ⟨rfl, Nat.le_of_ble_eq_true rfl⟩ dX9_behindOne_79 hm.o rfl (Nat.le_of_ble_eq_true rfl) (Nat.le_of_ble_eq_true rfl) (by omega) s1 rok_v (hg_ss s3.1 hN hS) ?_
    refine z_aload_n dX9_behindOne_82 rfl rfl ?_
    refine y_callV (as := []) CX9_nextToken LX9_173 IX9_nextToken VX9_nextToken ⟨rfl, Nat.le_of_ble_eq_true rfl⟩ dX9_behindOne_83 (s3.1.O hm.o) rfl (Nat.le_of_ble_eq_true rfl) (Nat.le_of_ble_eq_true rfl) (by omega) n1 rok_v (hg_ss n3x.1 hN1 hS1) ?_
    refine z_iload_n dX9_behindOne_86 rfl rfl ?_
    refine z_if_ne dX9_behindOne_87 rfl (fun _ => ?_) (fun c => absurd c (by decide))
    refine z_aload_n dX9_behindOne_127 rfl rfl ?_
    refine y_getR FX9_29 dX9_behindOne_128 rfl ((s3.1.tr n3x.1).O hm.o) (by first | (rw [(s3.1.tr n3x.1).R]; exact hm.f_pile) | exact (congrFun (congrFun (s3.1.tr n3x.1).R _) _).trans hm.f_pile) ?_
    refine z_aload_n dX9_behindOne_131 rfl rfl ?_
    refine y_callV (as := []) CX9_openAt LX9_166 IX9_openAt VX9_openAt ⟨rfl, Nat.le_of_ble_eq_true rfl⟩ dX9_behindOne_132 ((s3.1.tr n3x.1).O hm.o) rfl (Nat.le_of_ble_eq_true rfl) (Nat.le_of_ble_eq_true rfl) (by omega) oa rok_i ⟨Nat.le_refl _, Nat.le_refl _, hN2, hS2⟩ ?_
    refine z_iload_n dX9_behindOne_135 rfl rfl ?_
    refine y_iasN (r.length) dX9_behindOne_136 ((s3.1.tr n3x.1).A hm.A_pile) (Nat.le_of_ble_eq_true rfl) (rfl) (by omega) ?_
    refine z_aload_n dX9_behindOne_137 rfl rfl ?_
    refine z_iconst (v := 0) dX9_behindOne_138 (by decide) ?_
    refine y_putI FX9_203 dX9_behindOne_139 (Or.inl rfl) (Or.inr ⟨rfl, by decide⟩) ((s3.1.tr n3x.1).O hm.o) ?_
    refine z_iconst (v := 0) dX9_behindOne_142 (by decide) ?_
    refine z_iret dX9_behindOne_143 ?_
    exact hQ

