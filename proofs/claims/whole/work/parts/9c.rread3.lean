/-! the reference reads a sum: names, signs, parts (walks by program: wip/whole/gen9c.py) -/
def isg (k : Nat) : Nat := if k = 40 then 60 else if k = 41 then 62 else if k = 42 then 61 else if k = 43 then 35 else if k = 44 then 43 else if k = 45 then 45 else if k = 46 then 42 else if k = 47 then 47 else if k = 48 then 40 else if k = 49 then 41 else if k = 50 then 44 else 59
theorem isg_sgK {c : Nat} (h : sgK c ≠ 53) : isg (sgK c) = c := by
  unfold sgK at h ⊢
  repeat' split
  all_goals (first | (unfold isg; simp; omega) | (simp_all))
theorem sgK_inj {a b : Nat} (h : sgK a = sgK b) (hb : sgK b ≠ 53) : a = b := by
  rw [← isg_sgK hb, ← h, isg_sgK (by rw [h]; exact hb)]
theorem sgK_b (c : Nat) : (40 ≤ sgK c ∧ sgK c ≤ 51) ∨ sgK c = 53 := by
  unfold sgK
  repeat' split
  all_goals omega
theorem sgK_35 {c : Nat} (h : sgK c ≠ 53) : 35 ≤ c := by
  unfold sgK at h
  repeat' split at h
  all_goals omega
theorem rt_sg {tp : Fl} {n p c : Nat} (hc : sgK c ≠ 53) : rtk tp n p = c ↔ tkK tp n p = sgK c := by
  have c35 := sgK_35 hc
  have cb := sgK_b c
  unfold rtk tkK
  by_cases h : n ≤ p
  · rw [if_pos h, if_pos h]; omega
  · rw [if_neg h, if_neg h]
    by_cases hl : isL (tp p) = true
    · rw [if_pos hl, if_pos hl]
      rcases kdW_le (tp := tp) (p := p) (e := rnF isL tp n p) with q | q <;> omega
    · rw [if_neg hl, if_neg hl]
      by_cases hd : isD (tp p) = true
      · rw [if_pos hd, if_pos hd]; omega
      · rw [if_neg hd, if_neg hd]
        by_cases h2 : two2 tp n p
        · rw [if_pos h2, if_pos h2]
          split <;> omega
        · rw [if_neg h2, if_neg h2]
          by_cases h3 : sgK (tp p) = 53
          · rw [if_pos h3]; omega
          · rw [if_neg h3]
            exact ⟨fun q => by rw [q], fun q => sgK_inj q hc⟩
theorem rt_small {tp : Fl} {n p : Nat} : (rtk tp n p = 0 ↔ tkK tp n p = 54) ∧ (rtk tp n p = 1 ↔ tkK tp n p = 52) ∧ (rtk tp n p = 4 ↔ tkK tp n p = 38) ∧ (rtk tp n p = 5 ↔ tkK tp n p = 39) := by
  unfold rtk tkK
  by_cases h : n ≤ p
  · rw [if_pos h, if_pos h]; omega
  · rw [if_neg h, if_neg h]
    by_cases hl : isL (tp p) = true
    · rw [if_pos hl, if_pos hl]
      rcases kdW_le (tp := tp) (p := p) (e := rnF isL tp n p) with q | q <;> omega
    · rw [if_neg hl, if_neg hl]
      by_cases hd : isD (tp p) = true
      · rw [if_pos hd, if_pos hd]; omega
      · rw [if_neg hd, if_neg hd]
        by_cases h2 : two2 tp n p
        · rw [if_pos h2, if_pos h2]
          split <;> omega
        · rw [if_neg h2, if_neg h2]
          have cb := sgK_b (tp p)
          by_cases h3 : sgK (tp p) = 53
          · rw [if_pos h3]; omega
          · rw [if_neg h3]
            have := sgK_35 h3
            omega

theorem r_opened {s : Ms} {t w0 so i op wh : Nat} {ro : List Nat} {c : Cd} {h : Hp} {d : Nat} {x : Nat} (rp : RP s t w0 so i ro op wh c h) (ht : ITp s) (hx : x ≤ 44) (h8 : op < 8) (hl : ro.length < 160) (hd : 2 ≤ d) : ∃ h1, Sp d mX9_opened [.ref 488, .int (nI x)] h (some (.int 0)) h1 ∧ RP s t w0 so (i + 1) (x :: ro) (op + 1) wh c h1 ∧ FQ h h1 := by
  obtain ⟨tf, hr, em, fr, nt, e12, e13, e14, e16, e17, e18, pil⟩ := id rp
  have hm := hr.m
  have n3 : TNs s ≤ 300 := ht.1
  have bb : ∀ k, k < TNs s → TPs s k < 256 := fun k hk => ht.2 k (by omega)
  have rp1 : RP s t w0 so i (x :: ro) (op + 1) wh c (sI (sI (sI h 488 17 (nI (op + 1))) 493 ro.length (nI x)) 488 16 (nI (ro.length + 1))) := by
    refine rp.fld (fun tf hr => rm_f (rm_p (rm_f hr (by omega)) (by omega)) (by omega)) (fun j q1 q2 => by rw [pI_sI, if_pos rfl, if_neg (by omega), pI_sI_ne (by omega), pI_sI, if_pos rfl, if_neg (by omega)]) rfl ?_ ?_ ?_ ⟨?_, hx, ?_⟩
    · rw [pI_sI, if_pos rfl, if_pos rfl]; rfl
    · rw [pI_sI, if_pos rfl, if_neg (by omega), pI_sI_ne (by omega), pI_sI, if_pos rfl, if_pos rfl]
    · rw [pI_sI, if_pos rfl, if_neg (by omega), pI_sI_ne (by omega), pI_sI, if_pos rfl, if_neg (by omega)]; exact e18
    · rw [pI_sI_ne (by omega), pI_sI, if_pos rfl, if_pos rfl]
    · refine PIL.fr (h := sI (sI h 488 17 (nI (op + 1))) 493 ro.length (nI x)) ?_ _ (PIL.up _ (Nat.le_refl _) (PIL.fr ?_ _ pil))
      · rw [pI_sI_ne (by omega)]
      · rw [pI_sI_ne (by omega)]
  obtain ⟨h1, k1, k2, k3, _⟩ := r_next (d := 1) rp1 ht (Nat.le_refl _)
  have f1 : FQ h (sI (sI (sI h 488 17 (nI (op + 1))) 493 ro.length (nI x)) 488 16 (nI (ro.length + 1))) := ((FQ.rf.f (by omega)).c (Or.inr rfl)).f (by omega)
  refine ⟨h1, ?_, k2, f1.tr k3⟩
  intro N S Q hN hS hQ
  have hN : pn h ≤ N := by rw [← (f1.tr k3).1.n]; exact hN
  have hS : ps h ≤ S := by rw [← (f1.tr k3).1.s]; exact hS
  refine z_aload_n dX9_opened_0 rfl rfl ?_
  refine y_getI FX9_163 dX9_opened_1 (Or.inl rfl) hm.o ?_
  refine z_eqi (y := nI (op)) e17 ?_
  refine z_bipush (v := 8) dX9_opened_4 (by decide) ?_
  refine z_icmp_ne dX9_opened_6 rfl (fun _ => ?_) (fun c => absurd c (fun q => absurd ((nI_eq (b := 8) (by omega) (by omega)).mp q) (by omega)))
  refine z_aload_n dX9_opened_11 rfl rfl ?_
  refine z_dup dX9_opened_12 rfl ?_
  refine y_getI FX9_163 dX9_opened_13 (Or.inl rfl) hm.o ?_
  refine z_eqi (y := nI (op)) e17 ?_
  refine z_iconst (v := 1) dX9_opened_16 (by decide) ?_
  refine z_iadd dX9_opened_17 ?_
  refine z_eqi (nI_1 op) ?_
  refine y_putI FX9_163 dX9_opened_18 (Or.inl rfl) (Or.inl rfl) hm.o ?_
  refine z_aload_n dX9_opened_21 rfl rfl ?_
  refine y_getR FX9_29 dX9_opened_22 rfl hm.o hm.f_pile ?_
  refine z_aload_n dX9_opened_25 rfl rfl ?_
  refine y_getI FX9_153 dX9_opened_26 (Or.inl rfl) hm.o ?_
  refine z_eqi (y := nI (ro.length)) (show _ = nI ro.length by rw [pI_sI, if_pos rfl, if_neg (by omega)]; exact e16) ?_
  refine z_iload_n dX9_opened_29 rfl rfl ?_
  refine y_iasN (ro.length) dX9_opened_30 hm.A_pile (Nat.le_of_ble_eq_true rfl) (rfl) (by omega) ?_
  refine z_aload_n dX9_opened_31 rfl rfl ?_
  refine z_dup dX9_opened_32 rfl ?_
  refine y_getI FX9_153 dX9_opened_33 (Or.inl rfl) hm.o ?_
  refine z_eqi (y := nI (ro.length)) (show _ = nI ro.length by rw [pI_sI_ne (by omega), pI_sI, if_pos rfl, if_neg (by omega)]; exact e16) ?_
  refine z_iconst (v := 1) dX9_opened_36 (by decide) ?_
  refine z_iadd dX9_opened_37 ?_
  refine z_eqi (nI_1 ro.length) ?_
  refine y_putI FX9_153 dX9_opened_38 (Or.inl rfl) (Or.inl rfl) hm.o ?_
  refine z_aload_n dX9_opened_41 rfl rfl ?_
  refine y_callV (as := []) CX9_nextToken LX9_173 IX9_nextToken VX9_nextToken ⟨rfl, Nat.le_of_ble_eq_true rfl⟩ dX9_opened_42 hm.o rfl (Nat.le_of_ble_eq_true rfl) (Nat.le_of_ble_eq_true rfl) (by omega) k1 rok_v (hg_ss k3.1 hN hS) ?_
  refine z_iconst (v := 0) dX9_opened_45 (by decide) ?_
  refine z_iret dX9_opened_46 ?_
  exact hQ

def nmo (k : Nat) : Int32 := if k = 10 then 0 else if k = 30 then 1 else if k = 4 then 2 else if k = 31 then 3 else if k = 11 then 4 else if k = 32 then 5 else if k = 12 then 6 else if k = 33 then 7 else if k = 16 then 8 else if k = 34 then 9 else if k = 35 then 10 else -1
theorem r_nameOf {s : Ms} {t w0 so i op wh : Nat} {ro : List Nat} {c : Cd} {h : Hp} {d : Nat} (rp : RP s t w0 so i ro op wh c h) (ht : ITp s) (hd : 4 ≤ d) : Sp d mX9_nameOf [.ref 488] h (some (.int (nmo (tK (TPs s) (TNs s) i)))) h := by
  obtain ⟨tf, hr, em, fr, nt, e12, e13, e14, e16, e17, e18, pil⟩ := id rp
  have hm := hr.m
  have n3 : TNs s ≤ 300 := ht.1
  have bb : ∀ k, k < TNs s → TPs s k < 256 := fun k hk => ht.2 k (by omega)
  have rl := rtk_lt (tp := (TPs s)) (n := (TNs s)) (p := (tP (TPs s) (TNs s) i)) (bb _)
  intro N S Q hN hS hQ
  by_cases h2 : rtk (TPs s) (TNs s) (tP (TPs s) (TNs s) i) = 2
  · have hl := (rtk_2 (bb _)).mp h2
    have e11 := nt.2.2.2.1 hl.1 hl.2
    have sl : spR (TPs s) (tP (TPs s) (TNs s) i) (tkE (TPs s) (TNs s) (tP (TPs s) (TNs s) i) - (tP (TPs s) (TNs s) i)) ≤ 2 ^ 60 := by
      rw [tkE_w hl.1 hl.2]
      exact spR_lt let_b
    have qy : ∀ v k, (((rtk (TPs s) (TNs s) (tP (TPs s) (TNs s) i) = 2 ∧ spR (TPs s) (tP (TPs s) (TNs s) i) (tkE (TPs s) (TNs s) (tP (TPs s) (TNs s) i) - (tP (TPs s) (TNs s) i)) = v) ↔ tK (TPs s) (TNs s) i = k)) → tK (TPs s) (TNs s) i = k → lg_cmp (lN (spR (TPs s) (tP (TPs s) (TNs s) i) (tkE (TPs s) (TNs s) (tP (TPs s) (TNs s) i) - (tP (TPs s) (TNs s) i)))) (lN v) = 0 := fun v k iff e => (lg_cmp_eq _ _).mpr (congrArg lN (iff.mpr e).2)
    have qn : ∀ v k, v < 2 ^ 62 → (((rtk (TPs s) (TNs s) (tP (TPs s) (TNs s) i) = 2 ∧ spR (TPs s) (tP (TPs s) (TNs s) i) (tkE (TPs s) (TNs s) (tP (TPs s) (TNs s) i) - (tP (TPs s) (TNs s) i)) = v) ↔ tK (TPs s) (TNs s) i = k)) → ¬ tK (TPs s) (TNs s) i = k → ¬ lg_cmp (lN (spR (TPs s) (tP (TPs s) (TNs s) i) (tkE (TPs s) (TNs s) (tP (TPs s) (TNs s) i) - (tP (TPs s) (TNs s) i)))) (lN v) = 0 := fun v k hv iff ne q => ne (iff.mp ⟨h2, by
      have e := (lg_cmp_eq _ _).mp q
      rw [← iL_n, ← iL_n, iL_eq (lN_b (by omega)) (lN_b hv)] at e
      exact Int.ofNat_inj.mp e⟩)
    unfold nmo at hQ
    by_cases k10 : tK (TPs s) (TNs s) i = 10
    · rw [if_pos k10] at hQ
      refine z_aload_n dX9_nameOf_0 rfl rfl ?_
      refine y_getI FX9_106 dX9_nameOf_1 (Or.inl rfl) hm.o ?_
      refine z_eqi (y := nI (rtk (TPs s) (TNs s) (tP (TPs s) (TNs s) i))) nt.2.2.1 ?_
      refine z_iconst (v := 2) dX9_nameOf_4 (by decide) ?_
      refine z_icmp_eq dX9_nameOf_5 rfl (fun _ => ?_) (fun c => absurd (congrArg nI h2) c)
      refine z_aload_n dX9_nameOf_10 rfl rfl ?_
      refine y_getJ FX9_119 dX9_nameOf_11 rfl hm.o ?_
      refine z_eql e11 ?_
      refine z_bipush (v := 100) dX9_nameOf_14 (by decide) ?_
      refine z_bipush (v := 97) dX9_nameOf_16 (by decide) ?_
      refine z_bipush (v := 121) dX9_nameOf_18 (by decide) ?_
      refine y_callS (as := [_, _, _]) CX9_w3 LX9_132 SX9_w3 dX9_nameOf_20 rfl (Nat.le_of_ble_eq_true rfl) (Nat.le_of_ble_eq_true rfl) (by omega) (r_w3 (d := 1) (a0 := 100) (a1 := 97) (a2 := 121) (by omega) (by omega) (by omega) (Nat.le_refl _)) rok_l ⟨Nat.le_refl _, Nat.le_refl _, hN, hS⟩ ?_
      refine z_eql (show _ = lN 6578553 from rfl) ?_
      refine z_lcmp dX9_nameOf_23 ?_
      refine z_if_ne dX9_nameOf_24 rfl (fun c => absurd (qy 6578553 10 (wd_10 (bb _)) k10) c) (fun _ => ?_)
      refine z_iconst (v := 0) dX9_nameOf_27 (by decide) ?_
      refine z_iret dX9_nameOf_28 ?_
      exact hQ
    · rw [if_neg k10] at hQ
      by_cases k30 : tK (TPs s) (TNs s) i = 30
      · rw [if_pos k30] at hQ
        refine z_aload_n dX9_nameOf_0 rfl rfl ?_
        refine y_getI FX9_106 dX9_nameOf_1 (Or.inl rfl) hm.o ?_
        refine z_eqi (y := nI (rtk (TPs s) (TNs s) (tP (TPs s) (TNs s) i))) nt.2.2.1 ?_
        refine z_iconst (v := 2) dX9_nameOf_4 (by decide) ?_
        refine z_icmp_eq dX9_nameOf_5 rfl (fun _ => ?_) (fun c => absurd (congrArg nI h2) c)
        refine z_aload_n dX9_nameOf_10 rfl rfl ?_
        refine y_getJ FX9_119 dX9_nameOf_11 rfl hm.o ?_
        refine z_eql e11 ?_
        refine z_bipush (v := 100) dX9_nameOf_14 (by decide) ?_
        refine z_bipush (v := 97) dX9_nameOf_16 (by decide) ?_
        refine z_bipush (v := 121) dX9_nameOf_18 (by decide) ?_
        refine y_callS (as := [_, _, _]) CX9_w3 LX9_132 SX9_w3 dX9_nameOf_20 rfl (Nat.le_of_ble_eq_true rfl) (Nat.le_of_ble_eq_true rfl) (by omega) (r_w3 (d := 1) (a0 := 100) (a1 := 97) (a2 := 121) (by omega) (by omega) (by omega) (Nat.le_refl _)) rok_l ⟨Nat.le_refl _, Nat.le_refl _, hN, hS⟩ ?_
        refine z_eql (show _ = lN 6578553 from rfl) ?_
        refine z_lcmp dX9_nameOf_23 ?_
        refine z_if_ne dX9_nameOf_24 rfl (fun _ => ?_) (fun c => absurd c (qn 6578553 10 (by omega) (wd_10 (bb _)) k10))
        refine z_aload_n dX9_nameOf_29 rfl rfl ?_
        refine y_getJ FX9_119 dX9_nameOf_30 rfl hm.o ?_
        refine z_eql e11 ?_
        refine z_bipush (v := 109) dX9_nameOf_33 (by decide) ?_
        refine z_bipush (v := 97) dX9_nameOf_35 (by decide) ?_
        refine z_bipush (v := 110) dX9_nameOf_37 (by decide) ?_
        refine z_bipush (v := 121) dX9_nameOf_39 (by decide) ?_
        refine y_callS (as := [_, _, _, _]) CX9_w4 LX9_136 SX9_w4 dX9_nameOf_41 rfl (Nat.le_of_ble_eq_true rfl) (Nat.le_of_ble_eq_true rfl) (by omega) (r_w4 (d := 2) (a0 := 109) (a1 := 97) (a2 := 110) (a3 := 121) (by omega) (by omega) (by omega) (by omega) (Nat.le_refl _)) rok_l ⟨Nat.le_refl _, Nat.le_refl _, hN, hS⟩ ?_
        refine z_eql (show _ = lN 1835101817 from rfl) ?_
        refine z_lcmp dX9_nameOf_44 ?_
        refine z_if_ne dX9_nameOf_45 rfl (fun c => absurd (qy 1835101817 30 (wd_30 (bb _)) k30) c) (fun _ => ?_)
        refine z_iconst (v := 1) dX9_nameOf_48 (by decide) ?_
        refine z_iret dX9_nameOf_49 ?_
        exact hQ
      · rw [if_neg k30] at hQ
        by_cases k4 : tK (TPs s) (TNs s) i = 4
        · rw [if_pos k4] at hQ
          refine z_aload_n dX9_nameOf_0 rfl rfl ?_
          refine y_getI FX9_106 dX9_nameOf_1 (Or.inl rfl) hm.o ?_
          refine z_eqi (y := nI (rtk (TPs s) (TNs s) (tP (TPs s) (TNs s) i))) nt.2.2.1 ?_
          refine z_iconst (v := 2) dX9_nameOf_4 (by decide) ?_
          refine z_icmp_eq dX9_nameOf_5 rfl (fun _ => ?_) (fun c => absurd (congrArg nI h2) c)
          refine z_aload_n dX9_nameOf_10 rfl rfl ?_
          refine y_getJ FX9_119 dX9_nameOf_11 rfl hm.o ?_
          refine z_eql e11 ?_
          refine z_bipush (v := 100) dX9_nameOf_14 (by decide) ?_
          refine z_bipush (v := 97) dX9_nameOf_16 (by decide) ?_
          refine z_bipush (v := 121) dX9_nameOf_18 (by decide) ?_
          refine y_callS (as := [_, _, _]) CX9_w3 LX9_132 SX9_w3 dX9_nameOf_20 rfl (Nat.le_of_ble_eq_true rfl) (Nat.le_of_ble_eq_true rfl) (by omega) (r_w3 (d := 1) (a0 := 100) (a1 := 97) (a2 := 121) (by omega) (by omega) (by omega) (Nat.le_refl _)) rok_l ⟨Nat.le_refl _, Nat.le_refl _, hN, hS⟩ ?_
          refine z_eql (show _ = lN 6578553 from rfl) ?_
          refine z_lcmp dX9_nameOf_23 ?_
          refine z_if_ne dX9_nameOf_24 rfl (fun _ => ?_) (fun c => absurd c (qn 6578553 10 (by omega) (wd_10 (bb _)) k10))
          refine z_aload_n dX9_nameOf_29 rfl rfl ?_
          refine y_getJ FX9_119 dX9_nameOf_30 rfl hm.o ?_
          refine z_eql e11 ?_
          refine z_bipush (v := 109) dX9_nameOf_33 (by decide) ?_
          refine z_bipush (v := 97) dX9_nameOf_35 (by decide) ?_
          refine z_bipush (v := 110) dX9_nameOf_37 (by decide) ?_
          refine z_bipush (v := 121) dX9_nameOf_39 (by decide) ?_
          refine y_callS (as := [_, _, _, _]) CX9_w4 LX9_136 SX9_w4 dX9_nameOf_41 rfl (Nat.le_of_ble_eq_true rfl) (Nat.le_of_ble_eq_true rfl) (by omega) (r_w4 (d := 2) (a0 := 109) (a1 := 97) (a2 := 110) (a3 := 121) (by omega) (by omega) (by omega) (by omega) (Nat.le_refl _)) rok_l ⟨Nat.le_refl _, Nat.le_refl _, hN, hS⟩ ?_
          refine z_eql (show _ = lN 1835101817 from rfl) ?_
          refine z_lcmp dX9_nameOf_44 ?_
          refine z_if_ne dX9_nameOf_45 rfl (fun _ => ?_) (fun c => absurd c (qn 1835101817 30 (by omega) (wd_30 (bb _)) k30))
          refine z_aload_n dX9_nameOf_50 rfl rfl ?_
          refine y_getJ FX9_119 dX9_nameOf_51 rfl hm.o ?_
          refine z_eql e11 ?_
          refine z_bipush (v := 102) dX9_nameOf_54 (by decide) ?_
          refine z_bipush (v := 97) dX9_nameOf_56 (by decide) ?_
          refine z_bipush (v := 99) dX9_nameOf_58 (by decide) ?_
          refine z_bipush (v := 116) dX9_nameOf_60 (by decide) ?_
          refine y_callS (as := [_, _, _, _]) CX9_w4 LX9_136 SX9_w4 dX9_nameOf_62 rfl (Nat.le_of_ble_eq_true rfl) (Nat.le_of_ble_eq_true rfl) (by omega) (r_w4 (d := 2) (a0 := 102) (a1 := 97) (a2 := 99) (a3 := 116) (by omega) (by omega) (by omega) (by omega) (Nat.le_refl _)) rok_l ⟨Nat.le_refl _, Nat.le_refl _, hN, hS⟩ ?_
          refine z_eql (show _ = lN 1717658484 from rfl) ?_
          refine z_lcmp dX9_nameOf_65 ?_
          refine z_if_ne dX9_nameOf_66 rfl (fun c => absurd (qy 1717658484 4 (wd_4 (bb _)) k4) c) (fun _ => ?_)
          refine z_iconst (v := 2) dX9_nameOf_69 (by decide) ?_
          refine z_iret dX9_nameOf_70 ?_
          exact hQ
        · rw [if_neg k4] at hQ
          by_cases k31 : tK (TPs s) (TNs s) i = 31
          · rw [if_pos k31] at hQ
            refine z_aload_n dX9_nameOf_0 rfl rfl ?_
            refine y_getI FX9_106 dX9_nameOf_1 (Or.inl rfl) hm.o ?_
            refine z_eqi (y := nI (rtk (TPs s) (TNs s) (tP (TPs s) (TNs s) i))) nt.2.2.1 ?_
            refine z_iconst (v := 2) dX9_nameOf_4 (by decide) ?_
            refine z_icmp_eq dX9_nameOf_5 rfl (fun _ => ?_) (fun c => absurd (congrArg nI h2) c)
            refine z_aload_n dX9_nameOf_10 rfl rfl ?_
            refine y_getJ FX9_119 dX9_nameOf_11 rfl hm.o ?_
            refine z_eql e11 ?_
            refine z_bipush (v := 100) dX9_nameOf_14 (by decide) ?_
            refine z_bipush (v := 97) dX9_nameOf_16 (by decide) ?_
            refine z_bipush (v := 121) dX9_nameOf_18 (by decide) ?_
            refine y_callS (as := [_, _, _]) CX9_w3 LX9_132 SX9_w3 dX9_nameOf_20 rfl (Nat.le_of_ble_eq_true rfl) (Nat.le_of_ble_eq_true rfl) (by omega) (r_w3 (d := 1) (a0 := 100) (a1 := 97) (a2 := 121) (by omega) (by omega) (by omega) (Nat.le_refl _)) rok_l ⟨Nat.le_refl _, Nat.le_refl _, hN, hS⟩ ?_
            refine z_eql (show _ = lN 6578553 from rfl) ?_
            refine z_lcmp dX9_nameOf_23 ?_
            refine z_if_ne dX9_nameOf_24 rfl (fun _ => ?_) (fun c => absurd c (qn 6578553 10 (by omega) (wd_10 (bb _)) k10))
            refine z_aload_n dX9_nameOf_29 rfl rfl ?_
            refine y_getJ FX9_119 dX9_nameOf_30 rfl hm.o ?_
            refine z_eql e11 ?_
            refine z_bipush (v := 109) dX9_nameOf_33 (by decide) ?_
            refine z_bipush (v := 97) dX9_nameOf_35 (by decide) ?_
            refine z_bipush (v := 110) dX9_nameOf_37 (by decide) ?_
            refine z_bipush (v := 121) dX9_nameOf_39 (by decide) ?_
            refine y_callS (as := [_, _, _, _]) CX9_w4 LX9_136 SX9_w4 dX9_nameOf_41 rfl (Nat.le_of_ble_eq_true rfl) (Nat.le_of_ble_eq_true rfl) (by omega) (r_w4 (d := 2) (a0 := 109) (a1 := 97) (a2 := 110) (a3 := 121) (by omega) (by omega) (by omega) (by omega) (Nat.le_refl _)) rok_l ⟨Nat.le_refl _, Nat.le_refl _, hN, hS⟩ ?_
            refine z_eql (show _ = lN 1835101817 from rfl) ?_
            refine z_lcmp dX9_nameOf_44 ?_
            refine z_if_ne dX9_nameOf_45 rfl (fun _ => ?_) (fun c => absurd c (qn 1835101817 30 (by omega) (wd_30 (bb _)) k30))
            refine z_aload_n dX9_nameOf_50 rfl rfl ?_
            refine y_getJ FX9_119 dX9_nameOf_51 rfl hm.o ?_
            refine z_eql e11 ?_
            refine z_bipush (v := 102) dX9_nameOf_54 (by decide) ?_
            refine z_bipush (v := 97) dX9_nameOf_56 (by decide) ?_
            refine z_bipush (v := 99) dX9_nameOf_58 (by decide) ?_
            refine z_bipush (v := 116) dX9_nameOf_60 (by decide) ?_
            refine y_callS (as := [_, _, _, _]) CX9_w4 LX9_136 SX9_w4 dX9_nameOf_62 rfl (Nat.le_of_ble_eq_true rfl) (Nat.le_of_ble_eq_true rfl) (by omega) (r_w4 (d := 2) (a0 := 102) (a1 := 97) (a2 := 99) (a3 := 116) (by omega) (by omega) (by omega) (by omega) (Nat.le_refl _)) rok_l ⟨Nat.le_refl _, Nat.le_refl _, hN, hS⟩ ?_
            refine z_eql (show _ = lN 1717658484 from rfl) ?_
            refine z_lcmp dX9_nameOf_65 ?_
            refine z_if_ne dX9_nameOf_66 rfl (fun _ => ?_) (fun c => absurd c (qn 1717658484 4 (by omega) (wd_4 (bb _)) k4))
            refine z_aload_n dX9_nameOf_71 rfl rfl ?_
            refine y_getJ FX9_119 dX9_nameOf_72 rfl hm.o ?_
            refine z_eql e11 ?_
            refine z_bipush (v := 111) dX9_nameOf_75 (by decide) ?_
            refine z_bipush (v := 100) dX9_nameOf_77 (by decide) ?_
            refine z_bipush (v := 100) dX9_nameOf_79 (by decide) ?_
            refine z_bipush (v := 115) dX9_nameOf_81 (by decide) ?_
            refine y_callS (as := [_, _, _, _]) CX9_w4 LX9_136 SX9_w4 dX9_nameOf_83 rfl (Nat.le_of_ble_eq_true rfl) (Nat.le_of_ble_eq_true rfl) (by omega) (r_w4 (d := 2) (a0 := 111) (a1 := 100) (a2 := 100) (a3 := 115) (by omega) (by omega) (by omega) (by omega) (Nat.le_refl _)) rok_l ⟨Nat.le_refl _, Nat.le_refl _, hN, hS⟩ ?_
            refine z_eql (show _ = lN 1868850291 from rfl) ?_
            refine z_lcmp dX9_nameOf_86 ?_
            refine z_if_ne dX9_nameOf_87 rfl (fun c => absurd (qy 1868850291 31 (wd_31 (bb _)) k31) c) (fun _ => ?_)
            refine z_iconst (v := 3) dX9_nameOf_90 (by decide) ?_
            refine z_iret dX9_nameOf_91 ?_
            exact hQ
          · rw [if_neg k31] at hQ
            by_cases k11 : tK (TPs s) (TNs s) i = 11
            · rw [if_pos k11] at hQ
              refine z_aload_n dX9_nameOf_0 rfl rfl ?_
              refine y_getI FX9_106 dX9_nameOf_1 (Or.inl rfl) hm.o ?_
              refine z_eqi (y := nI (rtk (TPs s) (TNs s) (tP (TPs s) (TNs s) i))) nt.2.2.1 ?_
              refine z_iconst (v := 2) dX9_nameOf_4 (by decide) ?_
              refine z_icmp_eq dX9_nameOf_5 rfl (fun _ => ?_) (fun c => absurd (congrArg nI h2) c)
              refine z_aload_n dX9_nameOf_10 rfl rfl ?_
              refine y_getJ FX9_119 dX9_nameOf_11 rfl hm.o ?_
              refine z_eql e11 ?_
              refine z_bipush (v := 100) dX9_nameOf_14 (by decide) ?_
              refine z_bipush (v := 97) dX9_nameOf_16 (by decide) ?_
              refine z_bipush (v := 121) dX9_nameOf_18 (by decide) ?_
              refine y_callS (as := [_, _, _]) CX9_w3 LX9_132 SX9_w3 dX9_nameOf_20 rfl (Nat.le_of_ble_eq_true rfl) (Nat.le_of_ble_eq_true rfl) (by omega) (r_w3 (d := 1) (a0 := 100) (a1 := 97) (a2 := 121) (by omega) (by omega) (by omega) (Nat.le_refl _)) rok_l ⟨Nat.le_refl _, Nat.le_refl _, hN, hS⟩ ?_
              refine z_eql (show _ = lN 6578553 from rfl) ?_
              refine z_lcmp dX9_nameOf_23 ?_
              refine z_if_ne dX9_nameOf_24 rfl (fun _ => ?_) (fun c => absurd c (qn 6578553 10 (by omega) (wd_10 (bb _)) k10))
              refine z_aload_n dX9_nameOf_29 rfl rfl ?_
              refine y_getJ FX9_119 dX9_nameOf_30 rfl hm.o ?_
              refine z_eql e11 ?_
              refine z_bipush (v := 109) dX9_nameOf_33 (by decide) ?_
              refine z_bipush (v := 97) dX9_nameOf_35 (by decide) ?_
              refine z_bipush (v := 110) dX9_nameOf_37 (by decide) ?_
              refine z_bipush (v := 121) dX9_nameOf_39 (by decide) ?_
              refine y_callS (as := [_, _, _, _]) CX9_w4 LX9_136 SX9_w4 dX9_nameOf_41 rfl (Nat.le_of_ble_eq_true rfl) (Nat.le_of_ble_eq_true rfl) (by omega) (r_w4 (d := 2) (a0 := 109) (a1 := 97) (a2 := 110) (a3 := 121) (by omega) (by omega) (by omega) (by omega) (Nat.le_refl _)) rok_l ⟨Nat.le_refl _, Nat.le_refl _, hN, hS⟩ ?_
              refine z_eql (show _ = lN 1835101817 from rfl) ?_
              refine z_lcmp dX9_nameOf_44 ?_
              refine z_if_ne dX9_nameOf_45 rfl (fun _ => ?_) (fun c => absurd c (qn 1835101817 30 (by omega) (wd_30 (bb _)) k30))
              refine z_aload_n dX9_nameOf_50 rfl rfl ?_
              refine y_getJ FX9_119 dX9_nameOf_51 rfl hm.o ?_
              refine z_eql e11 ?_
              refine z_bipush (v := 102) dX9_nameOf_54 (by decide) ?_
              refine z_bipush (v := 97) dX9_nameOf_56 (by decide) ?_
              refine z_bipush (v := 99) dX9_nameOf_58 (by decide) ?_
              refine z_bipush (v := 116) dX9_nameOf_60 (by decide) ?_
              refine y_callS (as := [_, _, _, _]) CX9_w4 LX9_136 SX9_w4 dX9_nameOf_62 rfl (Nat.le_of_ble_eq_true rfl) (Nat.le_of_ble_eq_true rfl) (by omega) (r_w4 (d := 2) (a0 := 102) (a1 := 97) (a2 := 99) (a3 := 116) (by omega) (by omega) (by omega) (by omega) (Nat.le_refl _)) rok_l ⟨Nat.le_refl _, Nat.le_refl _, hN, hS⟩ ?_
              refine z_eql (show _ = lN 1717658484 from rfl) ?_
              refine z_lcmp dX9_nameOf_65 ?_
              refine z_if_ne dX9_nameOf_66 rfl (fun _ => ?_) (fun c => absurd c (qn 1717658484 4 (by omega) (wd_4 (bb _)) k4))
              refine z_aload_n dX9_nameOf_71 rfl rfl ?_
              refine y_getJ FX9_119 dX9_nameOf_72 rfl hm.o ?_
              refine z_eql e11 ?_
              refine z_bipush (v := 111) dX9_nameOf_75 (by decide) ?_
              refine z_bipush (v := 100) dX9_nameOf_77 (by decide) ?_
              refine z_bipush (v := 100) dX9_nameOf_79 (by decide) ?_
              refine z_bipush (v := 115) dX9_nameOf_81 (by decide) ?_
              refine y_callS (as := [_, _, _, _]) CX9_w4 LX9_136 SX9_w4 dX9_nameOf_83 rfl (Nat.le_of_ble_eq_true rfl) (Nat.le_of_ble_eq_true rfl) (by omega) (r_w4 (d := 2) (a0 := 111) (a1 := 100) (a2 := 100) (a3 := 115) (by omega) (by omega) (by omega) (by omega) (Nat.le_refl _)) rok_l ⟨Nat.le_refl _, Nat.le_refl _, hN, hS⟩ ?_
              refine z_eql (show _ = lN 1868850291 from rfl) ?_
              refine z_lcmp dX9_nameOf_86 ?_
              refine z_if_ne dX9_nameOf_87 rfl (fun _ => ?_) (fun c => absurd c (qn 1868850291 31 (by omega) (wd_31 (bb _)) k31))
              refine z_aload_n dX9_nameOf_92 rfl rfl ?_
              refine y_getJ FX9_119 dX9_nameOf_93 rfl hm.o ?_
              refine z_eql e11 ?_
              refine z_bipush (v := 99) dX9_nameOf_96 (by decide) ?_
              refine z_bipush (v := 111) dX9_nameOf_98 (by decide) ?_
              refine z_bipush (v := 115) dX9_nameOf_100 (by decide) ?_
              refine z_bipush (v := 116) dX9_nameOf_102 (by decide) ?_
              refine y_callS (as := [_, _, _, _]) CX9_w4 LX9_136 SX9_w4 dX9_nameOf_104 rfl (Nat.le_of_ble_eq_true rfl) (Nat.le_of_ble_eq_true rfl) (by omega) (r_w4 (d := 2) (a0 := 99) (a1 := 111) (a2 := 115) (a3 := 116) (by omega) (by omega) (by omega) (by omega) (Nat.le_refl _)) rok_l ⟨Nat.le_refl _, Nat.le_refl _, hN, hS⟩ ?_
              refine z_eql (show _ = lN 1668248436 from rfl) ?_
              refine z_lcmp dX9_nameOf_107 ?_
              refine z_if_ne dX9_nameOf_108 rfl (fun c => absurd (qy 1668248436 11 (wd_11 (bb _)) k11) c) (fun _ => ?_)
              refine z_iconst (v := 4) dX9_nameOf_111 (by decide) ?_
              refine z_iret dX9_nameOf_112 ?_
              exact hQ
            · rw [if_neg k11] at hQ
              by_cases k32 : tK (TPs s) (TNs s) i = 32
              · rw [if_pos k32] at hQ
                refine z_aload_n dX9_nameOf_0 rfl rfl ?_
                refine y_getI FX9_106 dX9_nameOf_1 (Or.inl rfl) hm.o ?_
                refine z_eqi (y := nI (rtk (TPs s) (TNs s) (tP (TPs s) (TNs s) i))) nt.2.2.1 ?_
                refine z_iconst (v := 2) dX9_nameOf_4 (by decide) ?_
                refine z_icmp_eq dX9_nameOf_5 rfl (fun _ => ?_) (fun c => absurd (congrArg nI h2) c)
                refine z_aload_n dX9_nameOf_10 rfl rfl ?_
                refine y_getJ FX9_119 dX9_nameOf_11 rfl hm.o ?_
                refine z_eql e11 ?_
                refine z_bipush (v := 100) dX9_nameOf_14 (by decide) ?_
                refine z_bipush (v := 97) dX9_nameOf_16 (by decide) ?_
                refine z_bipush (v := 121) dX9_nameOf_18 (by decide) ?_
                refine y_callS (as := [_, _, _]) CX9_w3 LX9_132 SX9_w3 dX9_nameOf_20 rfl (Nat.le_of_ble_eq_true rfl) (Nat.le_of_ble_eq_true rfl) (by omega) (r_w3 (d := 1) (a0 := 100) (a1 := 97) (a2 := 121) (by omega) (by omega) (by omega) (Nat.le_refl _)) rok_l ⟨Nat.le_refl _, Nat.le_refl _, hN, hS⟩ ?_
                refine z_eql (show _ = lN 6578553 from rfl) ?_
                refine z_lcmp dX9_nameOf_23 ?_
                refine z_if_ne dX9_nameOf_24 rfl (fun _ => ?_) (fun c => absurd c (qn 6578553 10 (by omega) (wd_10 (bb _)) k10))
                refine z_aload_n dX9_nameOf_29 rfl rfl ?_
                refine y_getJ FX9_119 dX9_nameOf_30 rfl hm.o ?_
                refine z_eql e11 ?_
                refine z_bipush (v := 109) dX9_nameOf_33 (by decide) ?_
                refine z_bipush (v := 97) dX9_nameOf_35 (by decide) ?_
                refine z_bipush (v := 110) dX9_nameOf_37 (by decide) ?_
                refine z_bipush (v := 121) dX9_nameOf_39 (by decide) ?_
                refine y_callS (as := [_, _, _, _]) CX9_w4 LX9_136 SX9_w4 dX9_nameOf_41 rfl (Nat.le_of_ble_eq_true rfl) (Nat.le_of_ble_eq_true rfl) (by omega) (r_w4 (d := 2) (a0 := 109) (a1 := 97) (a2 := 110) (a3 := 121) (by omega) (by omega) (by omega) (by omega) (Nat.le_refl _)) rok_l ⟨Nat.le_refl _, Nat.le_refl _, hN, hS⟩ ?_
                refine z_eql (show _ = lN 1835101817 from rfl) ?_
                refine z_lcmp dX9_nameOf_44 ?_
                refine z_if_ne dX9_nameOf_45 rfl (fun _ => ?_) (fun c => absurd c (qn 1835101817 30 (by omega) (wd_30 (bb _)) k30))
                refine z_aload_n dX9_nameOf_50 rfl rfl ?_
                refine y_getJ FX9_119 dX9_nameOf_51 rfl hm.o ?_
                refine z_eql e11 ?_
                refine z_bipush (v := 102) dX9_nameOf_54 (by decide) ?_
                refine z_bipush (v := 97) dX9_nameOf_56 (by decide) ?_
                refine z_bipush (v := 99) dX9_nameOf_58 (by decide) ?_
                refine z_bipush (v := 116) dX9_nameOf_60 (by decide) ?_
                refine y_callS (as := [_, _, _, _]) CX9_w4 LX9_136 SX9_w4 dX9_nameOf_62 rfl (Nat.le_of_ble_eq_true rfl) (Nat.le_of_ble_eq_true rfl) (by omega) (r_w4 (d := 2) (a0 := 102) (a1 := 97) (a2 := 99) (a3 := 116) (by omega) (by omega) (by omega) (by omega) (Nat.le_refl _)) rok_l ⟨Nat.le_refl _, Nat.le_refl _, hN, hS⟩ ?_
                refine z_eql (show _ = lN 1717658484 from rfl) ?_
                refine z_lcmp dX9_nameOf_65 ?_
                refine z_if_ne dX9_nameOf_66 rfl (fun _ => ?_) (fun c => absurd c (qn 1717658484 4 (by omega) (wd_4 (bb _)) k4))
                refine z_aload_n dX9_nameOf_71 rfl rfl ?_
                refine y_getJ FX9_119 dX9_nameOf_72 rfl hm.o ?_
                refine z_eql e11 ?_
                refine z_bipush (v := 111) dX9_nameOf_75 (by decide) ?_
                refine z_bipush (v := 100) dX9_nameOf_77 (by decide) ?_
                refine z_bipush (v := 100) dX9_nameOf_79 (by decide) ?_
                refine z_bipush (v := 115) dX9_nameOf_81 (by decide) ?_
                refine y_callS (as := [_, _, _, _]) CX9_w4 LX9_136 SX9_w4 dX9_nameOf_83 rfl (Nat.le_of_ble_eq_true rfl) (Nat.le_of_ble_eq_true rfl) (by omega) (r_w4 (d := 2) (a0 := 111) (a1 := 100) (a2 := 100) (a3 := 115) (by omega) (by omega) (by omega) (by omega) (Nat.le_refl _)) rok_l ⟨Nat.le_refl _, Nat.le_refl _, hN, hS⟩ ?_
                refine z_eql (show _ = lN 1868850291 from rfl) ?_
                refine z_lcmp dX9_nameOf_86 ?_
                refine z_if_ne dX9_nameOf_87 rfl (fun _ => ?_) (fun c => absurd c (qn 1868850291 31 (by omega) (wd_31 (bb _)) k31))
                refine z_aload_n dX9_nameOf_92 rfl rfl ?_
                refine y_getJ FX9_119 dX9_nameOf_93 rfl hm.o ?_
                refine z_eql e11 ?_
                refine z_bipush (v := 99) dX9_nameOf_96 (by decide) ?_
                refine z_bipush (v := 111) dX9_nameOf_98 (by decide) ?_
                refine z_bipush (v := 115) dX9_nameOf_100 (by decide) ?_
                refine z_bipush (v := 116) dX9_nameOf_102 (by decide) ?_
                refine y_callS (as := [_, _, _, _]) CX9_w4 LX9_136 SX9_w4 dX9_nameOf_104 rfl (Nat.le_of_ble_eq_true rfl) (Nat.le_of_ble_eq_true rfl) (by omega) (r_w4 (d := 2) (a0 := 99) (a1 := 111) (a2 := 115) (a3 := 116) (by omega) (by omega) (by omega) (by omega) (Nat.le_refl _)) rok_l ⟨Nat.le_refl _, Nat.le_refl _, hN, hS⟩ ?_
                refine z_eql (show _ = lN 1668248436 from rfl) ?_
                refine z_lcmp dX9_nameOf_107 ?_
                refine z_if_ne dX9_nameOf_108 rfl (fun _ => ?_) (fun c => absurd c (qn 1668248436 11 (by omega) (wd_11 (bb _)) k11))
                refine z_aload_n dX9_nameOf_113 rfl rfl ?_
                refine y_getJ FX9_119 dX9_nameOf_114 rfl hm.o ?_
                refine z_eql e11 ?_
                refine z_bipush (v := 119) dX9_nameOf_117 (by decide) ?_
                refine z_bipush (v := 104) dX9_nameOf_119 (by decide) ?_
                refine z_bipush (v := 111) dX9_nameOf_121 (by decide) ?_
                refine y_callS (as := [_, _, _]) CX9_w3 LX9_132 SX9_w3 dX9_nameOf_123 rfl (Nat.le_of_ble_eq_true rfl) (Nat.le_of_ble_eq_true rfl) (by omega) (r_w3 (d := 1) (a0 := 119) (a1 := 104) (a2 := 111) (by omega) (by omega) (by omega) (Nat.le_refl _)) rok_l ⟨Nat.le_refl _, Nat.le_refl _, hN, hS⟩ ?_
                refine z_eql (show _ = lN 7825519 from rfl) ?_
                refine z_lcmp dX9_nameOf_126 ?_
                refine z_if_ne dX9_nameOf_127 rfl (fun c => absurd (qy 7825519 32 (wd_32 (bb _)) k32) c) (fun _ => ?_)
                refine z_iconst (v := 5) dX9_nameOf_130 (by decide) ?_
                refine z_iret dX9_nameOf_131 ?_
                exact hQ
              · rw [if_neg k32] at hQ
                by_cases k12 : tK (TPs s) (TNs s) i = 12
                · rw [if_pos k12] at hQ
                  refine z_aload_n dX9_nameOf_0 rfl rfl ?_
                  refine y_getI FX9_106 dX9_nameOf_1 (Or.inl rfl) hm.o ?_
                  refine z_eqi (y := nI (rtk (TPs s) (TNs s) (tP (TPs s) (TNs s) i))) nt.2.2.1 ?_
                  refine z_iconst (v := 2) dX9_nameOf_4 (by decide) ?_
                  refine z_icmp_eq dX9_nameOf_5 rfl (fun _ => ?_) (fun c => absurd (congrArg nI h2) c)
                  refine z_aload_n dX9_nameOf_10 rfl rfl ?_
                  refine y_getJ FX9_119 dX9_nameOf_11 rfl hm.o ?_
                  refine z_eql e11 ?_
                  refine z_bipush (v := 100) dX9_nameOf_14 (by decide) ?_
                  refine z_bipush (v := 97) dX9_nameOf_16 (by decide) ?_
                  refine z_bipush (v := 121) dX9_nameOf_18 (by decide) ?_
                  refine y_callS (as := [_, _, _]) CX9_w3 LX9_132 SX9_w3 dX9_nameOf_20 rfl (Nat.le_of_ble_eq_true rfl) (Nat.le_of_ble_eq_true rfl) (by omega) (r_w3 (d := 1) (a0 := 100) (a1 := 97) (a2 := 121) (by omega) (by omega) (by omega) (Nat.le_refl _)) rok_l ⟨Nat.le_refl _, Nat.le_refl _, hN, hS⟩ ?_
                  refine z_eql (show _ = lN 6578553 from rfl) ?_
                  refine z_lcmp dX9_nameOf_23 ?_
                  refine z_if_ne dX9_nameOf_24 rfl (fun _ => ?_) (fun c => absurd c (qn 6578553 10 (by omega) (wd_10 (bb _)) k10))
                  refine z_aload_n dX9_nameOf_29 rfl rfl ?_
                  refine y_getJ FX9_119 dX9_nameOf_30 rfl hm.o ?_
                  refine z_eql e11 ?_
                  refine z_bipush (v := 109) dX9_nameOf_33 (by decide) ?_
                  refine z_bipush (v := 97) dX9_nameOf_35 (by decide) ?_
                  refine z_bipush (v := 110) dX9_nameOf_37 (by decide) ?_
                  refine z_bipush (v := 121) dX9_nameOf_39 (by decide) ?_
                  refine y_callS (as := [_, _, _, _]) CX9_w4 LX9_136 SX9_w4 dX9_nameOf_41 rfl (Nat.le_of_ble_eq_true rfl) (Nat.le_of_ble_eq_true rfl) (by omega) (r_w4 (d := 2) (a0 := 109) (a1 := 97) (a2 := 110) (a3 := 121) (by omega) (by omega) (by omega) (by omega) (Nat.le_refl _)) rok_l ⟨Nat.le_refl _, Nat.le_refl _, hN, hS⟩ ?_
                  refine z_eql (show _ = lN 1835101817 from rfl) ?_
                  refine z_lcmp dX9_nameOf_44 ?_
                  refine z_if_ne dX9_nameOf_45 rfl (fun _ => ?_) (fun c => absurd c (qn 1835101817 30 (by omega) (wd_30 (bb _)) k30))
                  refine z_aload_n dX9_nameOf_50 rfl rfl ?_
                  refine y_getJ FX9_119 dX9_nameOf_51 rfl hm.o ?_
                  refine z_eql e11 ?_
                  refine z_bipush (v := 102) dX9_nameOf_54 (by decide) ?_
                  refine z_bipush (v := 97) dX9_nameOf_56 (by decide) ?_
                  refine z_bipush (v := 99) dX9_nameOf_58 (by decide) ?_
                  refine z_bipush (v := 116) dX9_nameOf_60 (by decide) ?_
                  refine y_callS (as := [_, _, _, _]) CX9_w4 LX9_136 SX9_w4 dX9_nameOf_62 rfl (Nat.le_of_ble_eq_true rfl) (Nat.le_of_ble_eq_true rfl) (by omega) (r_w4 (d := 2) (a0 := 102) (a1 := 97) (a2 := 99) (a3 := 116) (by omega) (by omega) (by omega) (by omega) (Nat.le_refl _)) rok_l ⟨Nat.le_refl _, Nat.le_refl _, hN, hS⟩ ?_
                  refine z_eql (show _ = lN 1717658484 from rfl) ?_
                  refine z_lcmp dX9_nameOf_65 ?_
                  refine z_if_ne dX9_nameOf_66 rfl (fun _ => ?_) (fun c => absurd c (qn 1717658484 4 (by omega) (wd_4 (bb _)) k4))
                  refine z_aload_n dX9_nameOf_71 rfl rfl ?_
                  refine y_getJ FX9_119 dX9_nameOf_72 rfl hm.o ?_
                  refine z_eql e11 ?_
                  refine z_bipush (v := 111) dX9_nameOf_75 (by decide) ?_
                  refine z_bipush (v := 100) dX9_nameOf_77 (by decide) ?_
                  refine z_bipush (v := 100) dX9_nameOf_79 (by decide) ?_
                  refine z_bipush (v := 115) dX9_nameOf_81 (by decide) ?_
                  refine y_callS (as := [_, _, _, _]) CX9_w4 LX9_136 SX9_w4 dX9_nameOf_83 rfl (Nat.le_of_ble_eq_true rfl) (Nat.le_of_ble_eq_true rfl) (by omega) (r_w4 (d := 2) (a0 := 111) (a1 := 100) (a2 := 100) (a3 := 115) (by omega) (by omega) (by omega) (by omega) (Nat.le_refl _)) rok_l ⟨Nat.le_refl _, Nat.le_refl _, hN, hS⟩ ?_
                  refine z_eql (show _ = lN 1868850291 from rfl) ?_
                  refine z_lcmp dX9_nameOf_86 ?_
                  refine z_if_ne dX9_nameOf_87 rfl (fun _ => ?_) (fun c => absurd c (qn 1868850291 31 (by omega) (wd_31 (bb _)) k31))
                  refine z_aload_n dX9_nameOf_92 rfl rfl ?_
                  refine y_getJ FX9_119 dX9_nameOf_93 rfl hm.o ?_
                  refine z_eql e11 ?_
                  refine z_bipush (v := 99) dX9_nameOf_96 (by decide) ?_
                  refine z_bipush (v := 111) dX9_nameOf_98 (by decide) ?_
                  refine z_bipush (v := 115) dX9_nameOf_100 (by decide) ?_
                  refine z_bipush (v := 116) dX9_nameOf_102 (by decide) ?_
                  refine y_callS (as := [_, _, _, _]) CX9_w4 LX9_136 SX9_w4 dX9_nameOf_104 rfl (Nat.le_of_ble_eq_true rfl) (Nat.le_of_ble_eq_true rfl) (by omega) (r_w4 (d := 2) (a0 := 99) (a1 := 111) (a2 := 115) (a3 := 116) (by omega) (by omega) (by omega) (by omega) (Nat.le_refl _)) rok_l ⟨Nat.le_refl _, Nat.le_refl _, hN, hS⟩ ?_
                  refine z_eql (show _ = lN 1668248436 from rfl) ?_
                  refine z_lcmp dX9_nameOf_107 ?_
                  refine z_if_ne dX9_nameOf_108 rfl (fun _ => ?_) (fun c => absurd c (qn 1668248436 11 (by omega) (wd_11 (bb _)) k11))
                  refine z_aload_n dX9_nameOf_113 rfl rfl ?_
                  refine y_getJ FX9_119 dX9_nameOf_114 rfl hm.o ?_
                  refine z_eql e11 ?_
                  refine z_bipush (v := 119) dX9_nameOf_117 (by decide) ?_
                  refine z_bipush (v := 104) dX9_nameOf_119 (by decide) ?_
                  refine z_bipush (v := 111) dX9_nameOf_121 (by decide) ?_
                  refine y_callS (as := [_, _, _]) CX9_w3 LX9_132 SX9_w3 dX9_nameOf_123 rfl (Nat.le_of_ble_eq_true rfl) (Nat.le_of_ble_eq_true rfl) (by omega) (r_w3 (d := 1) (a0 := 119) (a1 := 104) (a2 := 111) (by omega) (by omega) (by omega) (Nat.le_refl _)) rok_l ⟨Nat.le_refl _, Nat.le_refl _, hN, hS⟩ ?_
                  refine z_eql (show _ = lN 7825519 from rfl) ?_
                  refine z_lcmp dX9_nameOf_126 ?_
                  refine z_if_ne dX9_nameOf_127 rfl (fun _ => ?_) (fun c => absurd c (qn 7825519 32 (by omega) (wd_32 (bb _)) k32))
                  refine z_aload_n dX9_nameOf_132 rfl rfl ?_
                  refine y_getJ FX9_119 dX9_nameOf_133 rfl hm.o ?_
                  refine z_eql e11 ?_
                  refine z_bipush (v := 102) dX9_nameOf_136 (by decide) ?_
                  refine z_bipush (v := 97) dX9_nameOf_138 (by decide) ?_
                  refine z_bipush (v := 109) dX9_nameOf_140 (by decide) ?_
                  refine z_bipush (v := 101) dX9_nameOf_142 (by decide) ?_
                  refine y_callS (as := [_, _, _, _]) CX9_w4 LX9_136 SX9_w4 dX9_nameOf_144 rfl (Nat.le_of_ble_eq_true rfl) (Nat.le_of_ble_eq_true rfl) (by omega) (r_w4 (d := 2) (a0 := 102) (a1 := 97) (a2 := 109) (a3 := 101) (by omega) (by omega) (by omega) (by omega) (Nat.le_refl _)) rok_l ⟨Nat.le_refl _, Nat.le_refl _, hN, hS⟩ ?_
                  refine z_eql (show _ = lN 1717661029 from rfl) ?_
                  refine z_lcmp dX9_nameOf_147 ?_
                  refine z_if_ne dX9_nameOf_148 rfl (fun c => absurd (qy 1717661029 12 (wd_12 (bb _)) k12) c) (fun _ => ?_)
                  refine z_bipush (v := 6) dX9_nameOf_151 (by decide) ?_
                  refine z_iret dX9_nameOf_153 ?_
                  exact hQ
                · rw [if_neg k12] at hQ
                  by_cases k33 : tK (TPs s) (TNs s) i = 33
                  · rw [if_pos k33] at hQ
                    refine z_aload_n dX9_nameOf_0 rfl rfl ?_
                    refine y_getI FX9_106 dX9_nameOf_1 (Or.inl rfl) hm.o ?_
                    refine z_eqi (y := nI (rtk (TPs s) (TNs s) (tP (TPs s) (TNs s) i))) nt.2.2.1 ?_
                    refine z_iconst (v := 2) dX9_nameOf_4 (by decide) ?_
                    refine z_icmp_eq dX9_nameOf_5 rfl (fun _ => ?_) (fun c => absurd (congrArg nI h2) c)
                    refine z_aload_n dX9_nameOf_10 rfl rfl ?_
                    refine y_getJ FX9_119 dX9_nameOf_11 rfl hm.o ?_
                    refine z_eql e11 ?_
                    refine z_bipush (v := 100) dX9_nameOf_14 (by decide) ?_
                    refine z_bipush (v := 97) dX9_nameOf_16 (by decide) ?_
                    refine z_bipush (v := 121) dX9_nameOf_18 (by decide) ?_
                    refine y_callS (as := [_, _, _]) CX9_w3 LX9_132 SX9_w3 dX9_nameOf_20 rfl (Nat.le_of_ble_eq_true rfl) (Nat.le_of_ble_eq_true rfl) (by omega) (r_w3 (d := 1) (a0 := 100) (a1 := 97) (a2 := 121) (by omega) (by omega) (by omega) (Nat.le_refl _)) rok_l ⟨Nat.le_refl _, Nat.le_refl _, hN, hS⟩ ?_
                    refine z_eql (show _ = lN 6578553 from rfl) ?_
                    refine z_lcmp dX9_nameOf_23 ?_
                    refine z_if_ne dX9_nameOf_24 rfl (fun _ => ?_) (fun c => absurd c (qn 6578553 10 (by omega) (wd_10 (bb _)) k10))
                    refine z_aload_n dX9_nameOf_29 rfl rfl ?_
                    refine y_getJ FX9_119 dX9_nameOf_30 rfl hm.o ?_
                    refine z_eql e11 ?_
                    refine z_bipush (v := 109) dX9_nameOf_33 (by decide) ?_
                    refine z_bipush (v := 97) dX9_nameOf_35 (by decide) ?_
                    refine z_bipush (v := 110) dX9_nameOf_37 (by decide) ?_
                    refine z_bipush (v := 121) dX9_nameOf_39 (by decide) ?_
                    refine y_callS (as := [_, _, _, _]) CX9_w4 LX9_136 SX9_w4 dX9_nameOf_41 rfl (Nat.le_of_ble_eq_true rfl) (Nat.le_of_ble_eq_true rfl) (by omega) (r_w4 (d := 2) (a0 := 109) (a1 := 97) (a2 := 110) (a3 := 121) (by omega) (by omega) (by omega) (by omega) (Nat.le_refl _)) rok_l ⟨Nat.le_refl _, Nat.le_refl _, hN, hS⟩ ?_
                    refine z_eql (show _ = lN 1835101817 from rfl) ?_
                    refine z_lcmp dX9_nameOf_44 ?_
                    refine z_if_ne dX9_nameOf_45 rfl (fun _ => ?_) (fun c => absurd c (qn 1835101817 30 (by omega) (wd_30 (bb _)) k30))
                    refine z_aload_n dX9_nameOf_50 rfl rfl ?_
                    refine y_getJ FX9_119 dX9_nameOf_51 rfl hm.o ?_
                    refine z_eql e11 ?_
                    refine z_bipush (v := 102) dX9_nameOf_54 (by decide) ?_
                    refine z_bipush (v := 97) dX9_nameOf_56 (by decide) ?_
                    refine z_bipush (v := 99) dX9_nameOf_58 (by decide) ?_
                    refine z_bipush (v := 116) dX9_nameOf_60 (by decide) ?_
                    refine y_callS (as := [_, _, _, _]) CX9_w4 LX9_136 SX9_w4 dX9_nameOf_62 rfl (Nat.le_of_ble_eq_true rfl) (Nat.le_of_ble_eq_true rfl) (by omega) (r_w4 (d := 2) (a0 := 102) (a1 := 97) (a2 := 99) (a3 := 116) (by omega) (by omega) (by omega) (by omega) (Nat.le_refl _)) rok_l ⟨Nat.le_refl _, Nat.le_refl _, hN, hS⟩ ?_
                    refine z_eql (show _ = lN 1717658484 from rfl) ?_
                    refine z_lcmp dX9_nameOf_65 ?_
                    refine z_if_ne dX9_nameOf_66 rfl (fun _ => ?_) (fun c => absurd c (qn 1717658484 4 (by omega) (wd_4 (bb _)) k4))
                    refine z_aload_n dX9_nameOf_71 rfl rfl ?_
                    refine y_getJ FX9_119 dX9_nameOf_72 rfl hm.o ?_
                    refine z_eql e11 ?_
                    refine z_bipush (v := 111) dX9_nameOf_75 (by decide) ?_
                    refine z_bipush (v := 100) dX9_nameOf_77 (by decide) ?_
                    refine z_bipush (v := 100) dX9_nameOf_79 (by decide) ?_
                    refine z_bipush (v := 115) dX9_nameOf_81 (by decide) ?_
                    refine y_callS (as := [_, _, _, _]) CX9_w4 LX9_136 SX9_w4 dX9_nameOf_83 rfl (Nat.le_of_ble_eq_true rfl) (Nat.le_of_ble_eq_true rfl) (by omega) (r_w4 (d := 2) (a0 := 111) (a1 := 100) (a2 := 100) (a3 := 115) (by omega) (by omega) (by omega) (by omega) (Nat.le_refl _)) rok_l ⟨Nat.le_refl _, Nat.le_refl _, hN, hS⟩ ?_
                    refine z_eql (show _ = lN 1868850291 from rfl) ?_
                    refine z_lcmp dX9_nameOf_86 ?_
                    refine z_if_ne dX9_nameOf_87 rfl (fun _ => ?_) (fun c => absurd c (qn 1868850291 31 (by omega) (wd_31 (bb _)) k31))
                    refine z_aload_n dX9_nameOf_92 rfl rfl ?_
                    refine y_getJ FX9_119 dX9_nameOf_93 rfl hm.o ?_
                    refine z_eql e11 ?_
                    refine z_bipush (v := 99) dX9_nameOf_96 (by decide) ?_
                    refine z_bipush (v := 111) dX9_nameOf_98 (by decide) ?_
                    refine z_bipush (v := 115) dX9_nameOf_100 (by decide) ?_
                    refine z_bipush (v := 116) dX9_nameOf_102 (by decide) ?_
                    refine y_callS (as := [_, _, _, _]) CX9_w4 LX9_136 SX9_w4 dX9_nameOf_104 rfl (Nat.le_of_ble_eq_true rfl) (Nat.le_of_ble_eq_true rfl) (by omega) (r_w4 (d := 2) (a0 := 99) (a1 := 111) (a2 := 115) (a3 := 116) (by omega) (by omega) (by omega) (by omega) (Nat.le_refl _)) rok_l ⟨Nat.le_refl _, Nat.le_refl _, hN, hS⟩ ?_
                    refine z_eql (show _ = lN 1668248436 from rfl) ?_
                    refine z_lcmp dX9_nameOf_107 ?_
                    refine z_if_ne dX9_nameOf_108 rfl (fun _ => ?_) (fun c => absurd c (qn 1668248436 11 (by omega) (wd_11 (bb _)) k11))
                    refine z_aload_n dX9_nameOf_113 rfl rfl ?_
                    refine y_getJ FX9_119 dX9_nameOf_114 rfl hm.o ?_
                    refine z_eql e11 ?_
                    refine z_bipush (v := 119) dX9_nameOf_117 (by decide) ?_
                    refine z_bipush (v := 104) dX9_nameOf_119 (by decide) ?_
                    refine z_bipush (v := 111) dX9_nameOf_121 (by decide) ?_
                    refine y_callS (as := [_, _, _]) CX9_w3 LX9_132 SX9_w3 dX9_nameOf_123 rfl (Nat.le_of_ble_eq_true rfl) (Nat.le_of_ble_eq_true rfl) (by omega) (r_w3 (d := 1) (a0 := 119) (a1 := 104) (a2 := 111) (by omega) (by omega) (by omega) (Nat.le_refl _)) rok_l ⟨Nat.le_refl _, Nat.le_refl _, hN, hS⟩ ?_
                    refine z_eql (show _ = lN 7825519 from rfl) ?_
                    refine z_lcmp dX9_nameOf_126 ?_
                    refine z_if_ne dX9_nameOf_127 rfl (fun _ => ?_) (fun c => absurd c (qn 7825519 32 (by omega) (wd_32 (bb _)) k32))
                    refine z_aload_n dX9_nameOf_132 rfl rfl ?_
                    refine y_getJ FX9_119 dX9_nameOf_133 rfl hm.o ?_
                    refine z_eql e11 ?_
                    refine z_bipush (v := 102) dX9_nameOf_136 (by decide) ?_
                    refine z_bipush (v := 97) dX9_nameOf_138 (by decide) ?_
                    refine z_bipush (v := 109) dX9_nameOf_140 (by decide) ?_
                    refine z_bipush (v := 101) dX9_nameOf_142 (by decide) ?_
                    refine y_callS (as := [_, _, _, _]) CX9_w4 LX9_136 SX9_w4 dX9_nameOf_144 rfl (Nat.le_of_ble_eq_true rfl) (Nat.le_of_ble_eq_true rfl) (by omega) (r_w4 (d := 2) (a0 := 102) (a1 := 97) (a2 := 109) (a3 := 101) (by omega) (by omega) (by omega) (by omega) (Nat.le_refl _)) rok_l ⟨Nat.le_refl _, Nat.le_refl _, hN, hS⟩ ?_
                    refine z_eql (show _ = lN 1717661029 from rfl) ?_
                    refine z_lcmp dX9_nameOf_147 ?_
                    refine z_if_ne dX9_nameOf_148 rfl (fun _ => ?_) (fun c => absurd c (qn 1717661029 12 (by omega) (wd_12 (bb _)) k12))
                    refine z_aload_n dX9_nameOf_154 rfl rfl ?_
                    refine y_getJ FX9_119 dX9_nameOf_155 rfl hm.o ?_
                    refine z_eql e11 ?_
                    refine z_bipush (v := 112) dX9_nameOf_158 (by decide) ?_
                    refine z_bipush (v := 117) dX9_nameOf_160 (by decide) ?_
                    refine z_bipush (v := 114) dX9_nameOf_162 (by decide) ?_
                    refine z_bipush (v := 115) dX9_nameOf_164 (by decide) ?_
                    refine z_bipush (v := 101) dX9_nameOf_166 (by decide) ?_
                    refine y_callS (as := [_, _, _, _, _]) CX9_w5 LX9_140 SX9_w5 dX9_nameOf_168 rfl (Nat.le_of_ble_eq_true rfl) (Nat.le_of_ble_eq_true rfl) (by omega) (r_w5 (d := 3) (a0 := 112) (a1 := 117) (a2 := 114) (a3 := 115) (a4 := 101) (by omega) (by omega) (by omega) (by omega) (by omega) (Nat.le_refl _)) rok_l ⟨Nat.le_refl _, Nat.le_refl _, hN, hS⟩ ?_
                    refine z_eql (show _ = lN 483006772069 from rfl) ?_
                    refine z_lcmp dX9_nameOf_171 ?_
                    refine z_if_ne dX9_nameOf_172 rfl (fun c => absurd (qy 483006772069 33 (wd_33 (bb _)) k33) c) (fun _ => ?_)
                    refine z_bipush (v := 7) dX9_nameOf_175 (by decide) ?_
                    refine z_iret dX9_nameOf_177 ?_
                    exact hQ
                  · rw [if_neg k33] at hQ
                    by_cases k16 : tK (TPs s) (TNs s) i = 16
                    · rw [if_pos k16] at hQ
                      refine z_aload_n dX9_nameOf_0 rfl rfl ?_
                      refine y_getI FX9_106 dX9_nameOf_1 (Or.inl rfl) hm.o ?_
                      refine z_eqi (y := nI (rtk (TPs s) (TNs s) (tP (TPs s) (TNs s) i))) nt.2.2.1 ?_
                      refine z_iconst (v := 2) dX9_nameOf_4 (by decide) ?_
                      refine z_icmp_eq dX9_nameOf_5 rfl (fun _ => ?_) (fun c => absurd (congrArg nI h2) c)
                      refine z_aload_n dX9_nameOf_10 rfl rfl ?_
                      refine y_getJ FX9_119 dX9_nameOf_11 rfl hm.o ?_
                      refine z_eql e11 ?_
                      refine z_bipush (v := 100) dX9_nameOf_14 (by decide) ?_
                      refine z_bipush (v := 97) dX9_nameOf_16 (by decide) ?_
                      refine z_bipush (v := 121) dX9_nameOf_18 (by decide) ?_
                      refine y_callS (as := [_, _, _]) CX9_w3 LX9_132 SX9_w3 dX9_nameOf_20 rfl (Nat.le_of_ble_eq_true rfl) (Nat.le_of_ble_eq_true rfl) (by omega) (r_w3 (d := 1) (a0 := 100) (a1 := 97) (a2 := 121) (by omega) (by omega) (by omega) (Nat.le_refl _)) rok_l ⟨Nat.le_refl _, Nat.le_refl _, hN, hS⟩ ?_
                      refine z_eql (show _ = lN 6578553 from rfl) ?_
                      refine z_lcmp dX9_nameOf_23 ?_
                      refine z_if_ne dX9_nameOf_24 rfl (fun _ => ?_) (fun c => absurd c (qn 6578553 10 (by omega) (wd_10 (bb _)) k10))
                      refine z_aload_n dX9_nameOf_29 rfl rfl ?_
                      refine y_getJ FX9_119 dX9_nameOf_30 rfl hm.o ?_
                      refine z_eql e11 ?_
                      refine z_bipush (v := 109) dX9_nameOf_33 (by decide) ?_
                      refine z_bipush (v := 97) dX9_nameOf_35 (by decide) ?_
                      refine z_bipush (v := 110) dX9_nameOf_37 (by decide) ?_
                      refine z_bipush (v := 121) dX9_nameOf_39 (by decide) ?_
                      refine y_callS (as := [_, _, _, _]) CX9_w4 LX9_136 SX9_w4 dX9_nameOf_41 rfl (Nat.le_of_ble_eq_true rfl) (Nat.le_of_ble_eq_true rfl) (by omega) (r_w4 (d := 2) (a0 := 109) (a1 := 97) (a2 := 110) (a3 := 121) (by omega) (by omega) (by omega) (by omega) (Nat.le_refl _)) rok_l ⟨Nat.le_refl _, Nat.le_refl _, hN, hS⟩ ?_
                      refine z_eql (show _ = lN 1835101817 from rfl) ?_
                      refine z_lcmp dX9_nameOf_44 ?_
                      refine z_if_ne dX9_nameOf_45 rfl (fun _ => ?_) (fun c => absurd c (qn 1835101817 30 (by omega) (wd_30 (bb _)) k30))
                      refine z_aload_n dX9_nameOf_50 rfl rfl ?_
                      refine y_getJ FX9_119 dX9_nameOf_51 rfl hm.o ?_
                      refine z_eql e11 ?_
                      refine z_bipush (v := 102) dX9_nameOf_54 (by decide) ?_
                      refine z_bipush (v := 97) dX9_nameOf_56 (by decide) ?_
                      refine z_bipush (v := 99) dX9_nameOf_58 (by decide) ?_
                      refine z_bipush (v := 116) dX9_nameOf_60 (by decide) ?_
                      refine y_callS (as := [_, _, _, _]) CX9_w4 LX9_136 SX9_w4 dX9_nameOf_62 rfl (Nat.le_of_ble_eq_true rfl) (Nat.le_of_ble_eq_true rfl) (by omega) (r_w4 (d := 2) (a0 := 102) (a1 := 97) (a2 := 99) (a3 := 116) (by omega) (by omega) (by omega) (by omega) (Nat.le_refl _)) rok_l ⟨Nat.le_refl _, Nat.le_refl _, hN, hS⟩ ?_
                      refine z_eql (show _ = lN 1717658484 from rfl) ?_
                      refine z_lcmp dX9_nameOf_65 ?_
                      refine z_if_ne dX9_nameOf_66 rfl (fun _ => ?_) (fun c => absurd c (qn 1717658484 4 (by omega) (wd_4 (bb _)) k4))
                      refine z_aload_n dX9_nameOf_71 rfl rfl ?_
                      refine y_getJ FX9_119 dX9_nameOf_72 rfl hm.o ?_
                      refine z_eql e11 ?_
                      refine z_bipush (v := 111) dX9_nameOf_75 (by decide) ?_
                      refine z_bipush (v := 100) dX9_nameOf_77 (by decide) ?_
                      refine z_bipush (v := 100) dX9_nameOf_79 (by decide) ?_
                      refine z_bipush (v := 115) dX9_nameOf_81 (by decide) ?_
                      refine y_callS (as := [_, _, _, _]) CX9_w4 LX9_136 SX9_w4 dX9_nameOf_83 rfl (Nat.le_of_ble_eq_true rfl) (Nat.le_of_ble_eq_true rfl) (by omega) (r_w4 (d := 2) (a0 := 111) (a1 := 100) (a2 := 100) (a3 := 115) (by omega) (by omega) (by omega) (by omega) (Nat.le_refl _)) rok_l ⟨Nat.le_refl _, Nat.le_refl _, hN, hS⟩ ?_
                      refine z_eql (show _ = lN 1868850291 from rfl) ?_
                      refine z_lcmp dX9_nameOf_86 ?_
                      refine z_if_ne dX9_nameOf_87 rfl (fun _ => ?_) (fun c => absurd c (qn 1868850291 31 (by omega) (wd_31 (bb _)) k31))
                      refine z_aload_n dX9_nameOf_92 rfl rfl ?_
                      refine y_getJ FX9_119 dX9_nameOf_93 rfl hm.o ?_
                      refine z_eql e11 ?_
                      refine z_bipush (v := 99) dX9_nameOf_96 (by decide) ?_
                      refine z_bipush (v := 111) dX9_nameOf_98 (by decide) ?_
                      refine z_bipush (v := 115) dX9_nameOf_100 (by decide) ?_
                      refine z_bipush (v := 116) dX9_nameOf_102 (by decide) ?_
                      refine y_callS (as := [_, _, _, _]) CX9_w4 LX9_136 SX9_w4 dX9_nameOf_104 rfl (Nat.le_of_ble_eq_true rfl) (Nat.le_of_ble_eq_true rfl) (by omega) (r_w4 (d := 2) (a0 := 99) (a1 := 111) (a2 := 115) (a3 := 116) (by omega) (by omega) (by omega) (by omega) (Nat.le_refl _)) rok_l ⟨Nat.le_refl _, Nat.le_refl _, hN, hS⟩ ?_
                      refine z_eql (show _ = lN 1668248436 from rfl) ?_
                      refine z_lcmp dX9_nameOf_107 ?_
                      refine z_if_ne dX9_nameOf_108 rfl (fun _ => ?_) (fun c => absurd c (qn 1668248436 11 (by omega) (wd_11 (bb _)) k11))
                      refine z_aload_n dX9_nameOf_113 rfl rfl ?_
                      refine y_getJ FX9_119 dX9_nameOf_114 rfl hm.o ?_
                      refine z_eql e11 ?_
                      refine z_bipush (v := 119) dX9_nameOf_117 (by decide) ?_
                      refine z_bipush (v := 104) dX9_nameOf_119 (by decide) ?_
                      refine z_bipush (v := 111) dX9_nameOf_121 (by decide) ?_
                      refine y_callS (as := [_, _, _]) CX9_w3 LX9_132 SX9_w3 dX9_nameOf_123 rfl (Nat.le_of_ble_eq_true rfl) (Nat.le_of_ble_eq_true rfl) (by omega) (r_w3 (d := 1) (a0 := 119) (a1 := 104) (a2 := 111) (by omega) (by omega) (by omega) (Nat.le_refl _)) rok_l ⟨Nat.le_refl _, Nat.le_refl _, hN, hS⟩ ?_
                      refine z_eql (show _ = lN 7825519 from rfl) ?_
                      refine z_lcmp dX9_nameOf_126 ?_
                      refine z_if_ne dX9_nameOf_127 rfl (fun _ => ?_) (fun c => absurd c (qn 7825519 32 (by omega) (wd_32 (bb _)) k32))
                      refine z_aload_n dX9_nameOf_132 rfl rfl ?_
                      refine y_getJ FX9_119 dX9_nameOf_133 rfl hm.o ?_
                      refine z_eql e11 ?_
                      refine z_bipush (v := 102) dX9_nameOf_136 (by decide) ?_
                      refine z_bipush (v := 97) dX9_nameOf_138 (by decide) ?_
                      refine z_bipush (v := 109) dX9_nameOf_140 (by decide) ?_
                      refine z_bipush (v := 101) dX9_nameOf_142 (by decide) ?_
                      refine y_callS (as := [_, _, _, _]) CX9_w4 LX9_136 SX9_w4 dX9_nameOf_144 rfl (Nat.le_of_ble_eq_true rfl) (Nat.le_of_ble_eq_true rfl) (by omega) (r_w4 (d := 2) (a0 := 102) (a1 := 97) (a2 := 109) (a3 := 101) (by omega) (by omega) (by omega) (by omega) (Nat.le_refl _)) rok_l ⟨Nat.le_refl _, Nat.le_refl _, hN, hS⟩ ?_
                      refine z_eql (show _ = lN 1717661029 from rfl) ?_
                      refine z_lcmp dX9_nameOf_147 ?_
                      refine z_if_ne dX9_nameOf_148 rfl (fun _ => ?_) (fun c => absurd c (qn 1717661029 12 (by omega) (wd_12 (bb _)) k12))
                      refine z_aload_n dX9_nameOf_154 rfl rfl ?_
                      refine y_getJ FX9_119 dX9_nameOf_155 rfl hm.o ?_
                      refine z_eql e11 ?_
                      refine z_bipush (v := 112) dX9_nameOf_158 (by decide) ?_
                      refine z_bipush (v := 117) dX9_nameOf_160 (by decide) ?_
                      refine z_bipush (v := 114) dX9_nameOf_162 (by decide) ?_
                      refine z_bipush (v := 115) dX9_nameOf_164 (by decide) ?_
                      refine z_bipush (v := 101) dX9_nameOf_166 (by decide) ?_
                      refine y_callS (as := [_, _, _, _, _]) CX9_w5 LX9_140 SX9_w5 dX9_nameOf_168 rfl (Nat.le_of_ble_eq_true rfl) (Nat.le_of_ble_eq_true rfl) (by omega) (r_w5 (d := 3) (a0 := 112) (a1 := 117) (a2 := 114) (a3 := 115) (a4 := 101) (by omega) (by omega) (by omega) (by omega) (by omega) (Nat.le_refl _)) rok_l ⟨Nat.le_refl _, Nat.le_refl _, hN, hS⟩ ?_
                      refine z_eql (show _ = lN 483006772069 from rfl) ?_
                      refine z_lcmp dX9_nameOf_171 ?_
                      refine z_if_ne dX9_nameOf_172 rfl (fun _ => ?_) (fun c => absurd c (qn 483006772069 33 (by omega) (wd_33 (bb _)) k33))
                      refine z_aload_n dX9_nameOf_178 rfl rfl ?_
                      refine y_getJ FX9_119 dX9_nameOf_179 rfl hm.o ?_
                      refine z_eql e11 ?_
                      refine z_bipush (v := 102) dX9_nameOf_182 (by decide) ?_
                      refine z_bipush (v := 101) dX9_nameOf_184 (by decide) ?_
                      refine z_bipush (v := 101) dX9_nameOf_186 (by decide) ?_
                      refine y_callS (as := [_, _, _]) CX9_w3 LX9_132 SX9_w3 dX9_nameOf_188 rfl (Nat.le_of_ble_eq_true rfl) (Nat.le_of_ble_eq_true rfl) (by omega) (r_w3 (d := 1) (a0 := 102) (a1 := 101) (a2 := 101) (by omega) (by omega) (by omega) (Nat.le_refl _)) rok_l ⟨Nat.le_refl _, Nat.le_refl _, hN, hS⟩ ?_
                      refine z_eql (show _ = lN 6710629 from rfl) ?_
                      refine z_lcmp dX9_nameOf_191 ?_
                      refine z_if_ne dX9_nameOf_192 rfl (fun c => absurd (qy 6710629 16 (wd_16 (bb _)) k16) c) (fun _ => ?_)
                      refine z_bipush (v := 8) dX9_nameOf_195 (by decide) ?_
                      refine z_iret dX9_nameOf_197 ?_
                      exact hQ
                    · rw [if_neg k16] at hQ
                      by_cases k34 : tK (TPs s) (TNs s) i = 34
                      · rw [if_pos k34] at hQ
                        refine z_aload_n dX9_nameOf_0 rfl rfl ?_
                        refine y_getI FX9_106 dX9_nameOf_1 (Or.inl rfl) hm.o ?_
                        refine z_eqi (y := nI (rtk (TPs s) (TNs s) (tP (TPs s) (TNs s) i))) nt.2.2.1 ?_
                        refine z_iconst (v := 2) dX9_nameOf_4 (by decide) ?_
                        refine z_icmp_eq dX9_nameOf_5 rfl (fun _ => ?_) (fun c => absurd (congrArg nI h2) c)
                        refine z_aload_n dX9_nameOf_10 rfl rfl ?_
                        refine y_getJ FX9_119 dX9_nameOf_11 rfl hm.o ?_
                        refine z_eql e11 ?_
                        refine z_bipush (v := 100) dX9_nameOf_14 (by decide) ?_
                        refine z_bipush (v := 97) dX9_nameOf_16 (by decide) ?_
                        refine z_bipush (v := 121) dX9_nameOf_18 (by decide) ?_
                        refine y_callS (as := [_, _, _]) CX9_w3 LX9_132 SX9_w3 dX9_nameOf_20 rfl (Nat.le_of_ble_eq_true rfl) (Nat.le_of_ble_eq_true rfl) (by omega) (r_w3 (d := 1) (a0 := 100) (a1 := 97) (a2 := 121) (by omega) (by omega) (by omega) (Nat.le_refl _)) rok_l ⟨Nat.le_refl _, Nat.le_refl _, hN, hS⟩ ?_
                        refine z_eql (show _ = lN 6578553 from rfl) ?_
                        refine z_lcmp dX9_nameOf_23 ?_
                        refine z_if_ne dX9_nameOf_24 rfl (fun _ => ?_) (fun c => absurd c (qn 6578553 10 (by omega) (wd_10 (bb _)) k10))
                        refine z_aload_n dX9_nameOf_29 rfl rfl ?_
                        refine y_getJ FX9_119 dX9_nameOf_30 rfl hm.o ?_
                        refine z_eql e11 ?_
                        refine z_bipush (v := 109) dX9_nameOf_33 (by decide) ?_
                        refine z_bipush (v := 97) dX9_nameOf_35 (by decide) ?_
                        refine z_bipush (v := 110) dX9_nameOf_37 (by decide) ?_
                        refine z_bipush (v := 121) dX9_nameOf_39 (by decide) ?_
                        refine y_callS (as := [_, _, _, _]) CX9_w4 LX9_136 SX9_w4 dX9_nameOf_41 rfl (Nat.le_of_ble_eq_true rfl) (Nat.le_of_ble_eq_true rfl) (by omega) (r_w4 (d := 2) (a0 := 109) (a1 := 97) (a2 := 110) (a3 := 121) (by omega) (by omega) (by omega) (by omega) (Nat.le_refl _)) rok_l ⟨Nat.le_refl _, Nat.le_refl _, hN, hS⟩ ?_
                        refine z_eql (show _ = lN 1835101817 from rfl) ?_
                        refine z_lcmp dX9_nameOf_44 ?_
                        refine z_if_ne dX9_nameOf_45 rfl (fun _ => ?_) (fun c => absurd c (qn 1835101817 30 (by omega) (wd_30 (bb _)) k30))
                        refine z_aload_n dX9_nameOf_50 rfl rfl ?_
                        refine y_getJ FX9_119 dX9_nameOf_51 rfl hm.o ?_
                        refine z_eql e11 ?_
                        refine z_bipush (v := 102) dX9_nameOf_54 (by decide) ?_
                        refine z_bipush (v := 97) dX9_nameOf_56 (by decide) ?_
                        refine z_bipush (v := 99) dX9_nameOf_58 (by decide) ?_
                        refine z_bipush (v := 116) dX9_nameOf_60 (by decide) ?_
                        refine y_callS (as := [_, _, _, _]) CX9_w4 LX9_136 SX9_w4 dX9_nameOf_62 rfl (Nat.le_of_ble_eq_true rfl) (Nat.le_of_ble_eq_true rfl) (by omega) (r_w4 (d := 2) (a0 := 102) (a1 := 97) (a2 := 99) (a3 := 116) (by omega) (by omega) (by omega) (by omega) (Nat.le_refl _)) rok_l ⟨Nat.le_refl _, Nat.le_refl _, hN, hS⟩ ?_
                        refine z_eql (show _ = lN 1717658484 from rfl) ?_
                        refine z_lcmp dX9_nameOf_65 ?_
                        refine z_if_ne dX9_nameOf_66 rfl (fun _ => ?_) (fun c => absurd c (qn 1717658484 4 (by omega) (wd_4 (bb _)) k4))
                        refine z_aload_n dX9_nameOf_71 rfl rfl ?_
                        refine y_getJ FX9_119 dX9_nameOf_72 rfl hm.o ?_
                        refine z_eql e11 ?_
                        refine z_bipush (v := 111) dX9_nameOf_75 (by decide) ?_
                        refine z_bipush (v := 100) dX9_nameOf_77 (by decide) ?_
                        refine z_bipush (v := 100) dX9_nameOf_79 (by decide) ?_
                        refine z_bipush (v := 115) dX9_nameOf_81 (by decide) ?_
                        refine y_callS (as := [_, _, _, _]) CX9_w4 LX9_136 SX9_w4 dX9_nameOf_83 rfl (Nat.le_of_ble_eq_true rfl) (Nat.le_of_ble_eq_true rfl) (by omega) (r_w4 (d := 2) (a0 := 111) (a1 := 100) (a2 := 100) (a3 := 115) (by omega) (by omega) (by omega) (by omega) (Nat.le_refl _)) rok_l ⟨Nat.le_refl _, Nat.le_refl _, hN, hS⟩ ?_
                        refine z_eql (show _ = lN 1868850291 from rfl) ?_
                        refine z_lcmp dX9_nameOf_86 ?_
                        refine z_if_ne dX9_nameOf_87 rfl (fun _ => ?_) (fun c => absurd c (qn 1868850291 31 (by omega) (wd_31 (bb _)) k31))
                        refine z_aload_n dX9_nameOf_92 rfl rfl ?_
                        refine y_getJ FX9_119 dX9_nameOf_93 rfl hm.o ?_
                        refine z_eql e11 ?_
                        refine z_bipush (v := 99) dX9_nameOf_96 (by decide) ?_
                        refine z_bipush (v := 111) dX9_nameOf_98 (by decide) ?_
                        refine z_bipush (v := 115) dX9_nameOf_100 (by decide) ?_
                        refine z_bipush (v := 116) dX9_nameOf_102 (by decide) ?_
                        refine y_callS (as := [_, _, _, _]) CX9_w4 LX9_136 SX9_w4 dX9_nameOf_104 rfl (Nat.le_of_ble_eq_true rfl) (Nat.le_of_ble_eq_true rfl) (by omega) (r_w4 (d := 2) (a0 := 99) (a1 := 111) (a2 := 115) (a3 := 116) (by omega) (by omega) (by omega) (by omega) (Nat.le_refl _)) rok_l ⟨Nat.le_refl _, Nat.le_refl _, hN, hS⟩ ?_
                        refine z_eql (show _ = lN 1668248436 from rfl) ?_
                        refine z_lcmp dX9_nameOf_107 ?_
                        refine z_if_ne dX9_nameOf_108 rfl (fun _ => ?_) (fun c => absurd c (qn 1668248436 11 (by omega) (wd_11 (bb _)) k11))
                        refine z_aload_n dX9_nameOf_113 rfl rfl ?_
                        refine y_getJ FX9_119 dX9_nameOf_114 rfl hm.o ?_
                        refine z_eql e11 ?_
                        refine z_bipush (v := 119) dX9_nameOf_117 (by decide) ?_
                        refine z_bipush (v := 104) dX9_nameOf_119 (by decide) ?_
                        refine z_bipush (v := 111) dX9_nameOf_121 (by decide) ?_
                        refine y_callS (as := [_, _, _]) CX9_w3 LX9_132 SX9_w3 dX9_nameOf_123 rfl (Nat.le_of_ble_eq_true rfl) (Nat.le_of_ble_eq_true rfl) (by omega) (r_w3 (d := 1) (a0 := 119) (a1 := 104) (a2 := 111) (by omega) (by omega) (by omega) (Nat.le_refl _)) rok_l ⟨Nat.le_refl _, Nat.le_refl _, hN, hS⟩ ?_
                        refine z_eql (show _ = lN 7825519 from rfl) ?_
                        refine z_lcmp dX9_nameOf_126 ?_
                        refine z_if_ne dX9_nameOf_127 rfl (fun _ => ?_) (fun c => absurd c (qn 7825519 32 (by omega) (wd_32 (bb _)) k32))
                        refine z_aload_n dX9_nameOf_132 rfl rfl ?_
                        refine y_getJ FX9_119 dX9_nameOf_133 rfl hm.o ?_
                        refine z_eql e11 ?_
                        refine z_bipush (v := 102) dX9_nameOf_136 (by decide) ?_
                        refine z_bipush (v := 97) dX9_nameOf_138 (by decide) ?_
                        refine z_bipush (v := 109) dX9_nameOf_140 (by decide) ?_
                        refine z_bipush (v := 101) dX9_nameOf_142 (by decide) ?_
                        refine y_callS (as := [_, _, _, _]) CX9_w4 LX9_136 SX9_w4 dX9_nameOf_144 rfl (Nat.le_of_ble_eq_true rfl) (Nat.le_of_ble_eq_true rfl) (by omega) (r_w4 (d := 2) (a0 := 102) (a1 := 97) (a2 := 109) (a3 := 101) (by omega) (by omega) (by omega) (by omega) (Nat.le_refl _)) rok_l ⟨Nat.le_refl _, Nat.le_refl _, hN, hS⟩ ?_
                        refine z_eql (show _ = lN 1717661029 from rfl) ?_
                        refine z_lcmp dX9_nameOf_147 ?_
                        refine z_if_ne dX9_nameOf_148 rfl (fun _ => ?_) (fun c => absurd c (qn 1717661029 12 (by omega) (wd_12 (bb _)) k12))
                        refine z_aload_n dX9_nameOf_154 rfl rfl ?_
                        refine y_getJ FX9_119 dX9_nameOf_155 rfl hm.o ?_
                        refine z_eql e11 ?_
                        refine z_bipush (v := 112) dX9_nameOf_158 (by decide) ?_
                        refine z_bipush (v := 117) dX9_nameOf_160 (by decide) ?_
                        refine z_bipush (v := 114) dX9_nameOf_162 (by decide) ?_
                        refine z_bipush (v := 115) dX9_nameOf_164 (by decide) ?_
                        refine z_bipush (v := 101) dX9_nameOf_166 (by decide) ?_
                        refine y_callS (as := [_, _, _, _, _]) CX9_w5 LX9_140 SX9_w5 dX9_nameOf_168 rfl (Nat.le_of_ble_eq_true rfl) (Nat.le_of_ble_eq_true rfl) (by omega) (r_w5 (d := 3) (a0 := 112) (a1 := 117) (a2 := 114) (a3 := 115) (a4 := 101) (by omega) (by omega) (by omega) (by omega) (by omega) (Nat.le_refl _)) rok_l ⟨Nat.le_refl _, Nat.le_refl _, hN, hS⟩ ?_
                        refine z_eql (show _ = lN 483006772069 from rfl) ?_
                        refine z_lcmp dX9_nameOf_171 ?_
                        refine z_if_ne dX9_nameOf_172 rfl (fun _ => ?_) (fun c => absurd c (qn 483006772069 33 (by omega) (wd_33 (bb _)) k33))
                        refine z_aload_n dX9_nameOf_178 rfl rfl ?_
                        refine y_getJ FX9_119 dX9_nameOf_179 rfl hm.o ?_
                        refine z_eql e11 ?_
                        refine z_bipush (v := 102) dX9_nameOf_182 (by decide) ?_
                        refine z_bipush (v := 101) dX9_nameOf_184 (by decide) ?_
                        refine z_bipush (v := 101) dX9_nameOf_186 (by decide) ?_
                        refine y_callS (as := [_, _, _]) CX9_w3 LX9_132 SX9_w3 dX9_nameOf_188 rfl (Nat.le_of_ble_eq_true rfl) (Nat.le_of_ble_eq_true rfl) (by omega) (r_w3 (d := 1) (a0 := 102) (a1 := 101) (a2 := 101) (by omega) (by omega) (by omega) (Nat.le_refl _)) rok_l ⟨Nat.le_refl _, Nat.le_refl _, hN, hS⟩ ?_
                        refine z_eql (show _ = lN 6710629 from rfl) ?_
                        refine z_lcmp dX9_nameOf_191 ?_
                        refine z_if_ne dX9_nameOf_192 rfl (fun _ => ?_) (fun c => absurd c (qn 6710629 16 (by omega) (wd_16 (bb _)) k16))
                        refine z_aload_n dX9_nameOf_198 rfl rfl ?_
                        refine y_getJ FX9_119 dX9_nameOf_199 rfl hm.o ?_
                        refine z_eql e11 ?_
                        refine z_bipush (v := 102) dX9_nameOf_202 (by decide) ?_
                        refine z_bipush (v := 97) dX9_nameOf_204 (by decide) ?_
                        refine z_bipush (v := 99) dX9_nameOf_206 (by decide) ?_
                        refine z_bipush (v := 116) dX9_nameOf_208 (by decide) ?_
                        refine z_bipush (v := 115) dX9_nameOf_210 (by decide) ?_
                        refine y_callS (as := [_, _, _, _, _]) CX9_w5 LX9_140 SX9_w5 dX9_nameOf_212 rfl (Nat.le_of_ble_eq_true rfl) (Nat.le_of_ble_eq_true rfl) (by omega) (r_w5 (d := 3) (a0 := 102) (a1 := 97) (a2 := 99) (a3 := 116) (a4 := 115) (by omega) (by omega) (by omega) (by omega) (by omega) (Nat.le_refl _)) rok_l ⟨Nat.le_refl _, Nat.le_refl _, hN, hS⟩ ?_
                        refine z_eql (show _ = lN 439720572019 from rfl) ?_
                        refine z_lcmp dX9_nameOf_215 ?_
                        refine z_if_ne dX9_nameOf_216 rfl (fun c => absurd (qy 439720572019 34 (wd_34 (bb _)) k34) c) (fun _ => ?_)
                        refine z_bipush (v := 9) dX9_nameOf_219 (by decide) ?_
                        refine z_goto dX9_nameOf_221 rfl ?_
                        refine z_iret dX9_nameOf_247 ?_
                        exact hQ
                      · rw [if_neg k34] at hQ
                        by_cases k35 : tK (TPs s) (TNs s) i = 35
                        · rw [if_pos k35] at hQ
                          refine z_aload_n dX9_nameOf_0 rfl rfl ?_
                          refine y_getI FX9_106 dX9_nameOf_1 (Or.inl rfl) hm.o ?_
                          refine z_eqi (y := nI (rtk (TPs s) (TNs s) (tP (TPs s) (TNs s) i))) nt.2.2.1 ?_
                          refine z_iconst (v := 2) dX9_nameOf_4 (by decide) ?_
                          refine z_icmp_eq dX9_nameOf_5 rfl (fun _ => ?_) (fun c => absurd (congrArg nI h2) c)
                          refine z_aload_n dX9_nameOf_10 rfl rfl ?_
                          refine y_getJ FX9_119 dX9_nameOf_11 rfl hm.o ?_
                          refine z_eql e11 ?_
                          refine z_bipush (v := 100) dX9_nameOf_14 (by decide) ?_
                          refine z_bipush (v := 97) dX9_nameOf_16 (by decide) ?_
                          refine z_bipush (v := 121) dX9_nameOf_18 (by decide) ?_
                          refine y_callS (as := [_, _, _]) CX9_w3 LX9_132 SX9_w3 dX9_nameOf_20 rfl (Nat.le_of_ble_eq_true rfl) (Nat.le_of_ble_eq_true rfl) (by omega) (r_w3 (d := 1) (a0 := 100) (a1 := 97) (a2 := 121) (by omega) (by omega) (by omega) (Nat.le_refl _)) rok_l ⟨Nat.le_refl _, Nat.le_refl _, hN, hS⟩ ?_
                          refine z_eql (show _ = lN 6578553 from rfl) ?_
                          refine z_lcmp dX9_nameOf_23 ?_
                          refine z_if_ne dX9_nameOf_24 rfl (fun _ => ?_) (fun c => absurd c (qn 6578553 10 (by omega) (wd_10 (bb _)) k10))
                          refine z_aload_n dX9_nameOf_29 rfl rfl ?_
                          refine y_getJ FX9_119 dX9_nameOf_30 rfl hm.o ?_
                          refine z_eql e11 ?_
                          refine z_bipush (v := 109) dX9_nameOf_33 (by decide) ?_
                          refine z_bipush (v := 97) dX9_nameOf_35 (by decide) ?_
                          refine z_bipush (v := 110) dX9_nameOf_37 (by decide) ?_
                          refine z_bipush (v := 121) dX9_nameOf_39 (by decide) ?_
                          refine y_callS (as := [_, _, _, _]) CX9_w4 LX9_136 SX9_w4 dX9_nameOf_41 rfl (Nat.le_of_ble_eq_true rfl) (Nat.le_of_ble_eq_true rfl) (by omega) (r_w4 (d := 2) (a0 := 109) (a1 := 97) (a2 := 110) (a3 := 121) (by omega) (by omega) (by omega) (by omega) (Nat.le_refl _)) rok_l ⟨Nat.le_refl _, Nat.le_refl _, hN, hS⟩ ?_
                          refine z_eql (show _ = lN 1835101817 from rfl) ?_
                          refine z_lcmp dX9_nameOf_44 ?_
                          refine z_if_ne dX9_nameOf_45 rfl (fun _ => ?_) (fun c => absurd c (qn 1835101817 30 (by omega) (wd_30 (bb _)) k30))
                          refine z_aload_n dX9_nameOf_50 rfl rfl ?_
                          refine y_getJ FX9_119 dX9_nameOf_51 rfl hm.o ?_
                          refine z_eql e11 ?_
                          refine z_bipush (v := 102) dX9_nameOf_54 (by decide) ?_
                          refine z_bipush (v := 97) dX9_nameOf_56 (by decide) ?_
                          refine z_bipush (v := 99) dX9_nameOf_58 (by decide) ?_
                          refine z_bipush (v := 116) dX9_nameOf_60 (by decide) ?_
                          refine y_callS (as := [_, _, _, _]) CX9_w4 LX9_136 SX9_w4 dX9_nameOf_62 rfl (Nat.le_of_ble_eq_true rfl) (Nat.le_of_ble_eq_true rfl) (by omega) (r_w4 (d := 2) (a0 := 102) (a1 := 97) (a2 := 99) (a3 := 116) (by omega) (by omega) (by omega) (by omega) (Nat.le_refl _)) rok_l ⟨Nat.le_refl _, Nat.le_refl _, hN, hS⟩ ?_
                          refine z_eql (show _ = lN 1717658484 from rfl) ?_
                          refine z_lcmp dX9_nameOf_65 ?_
                          refine z_if_ne dX9_nameOf_66 rfl (fun _ => ?_) (fun c => absurd c (qn 1717658484 4 (by omega) (wd_4 (bb _)) k4))
                          refine z_aload_n dX9_nameOf_71 rfl rfl ?_
                          refine y_getJ FX9_119 dX9_nameOf_72 rfl hm.o ?_
                          refine z_eql e11 ?_
                          refine z_bipush (v := 111) dX9_nameOf_75 (by decide) ?_
                          refine z_bipush (v := 100) dX9_nameOf_77 (by decide) ?_
                          refine z_bipush (v := 100) dX9_nameOf_79 (by decide) ?_
                          refine z_bipush (v := 115) dX9_nameOf_81 (by decide) ?_
                          refine y_callS (as := [_, _, _, _]) CX9_w4 LX9_136 SX9_w4 dX9_nameOf_83 rfl (Nat.le_of_ble_eq_true rfl) (Nat.le_of_ble_eq_true rfl) (by omega) (r_w4 (d := 2) (a0 := 111) (a1 := 100) (a2 := 100) (a3 := 115) (by omega) (by omega) (by omega) (by omega) (Nat.le_refl _)) rok_l ⟨Nat.le_refl _, Nat.le_refl _, hN, hS⟩ ?_
                          refine z_eql (show _ = lN 1868850291 from rfl) ?_
                          refine z_lcmp dX9_nameOf_86 ?_
                          refine z_if_ne dX9_nameOf_87 rfl (fun _ => ?_) (fun c => absurd c (qn 1868850291 31 (by omega) (wd_31 (bb _)) k31))
                          refine z_aload_n dX9_nameOf_92 rfl rfl ?_
                          refine y_getJ FX9_119 dX9_nameOf_93 rfl hm.o ?_
                          refine z_eql e11 ?_
                          refine z_bipush (v := 99) dX9_nameOf_96 (by decide) ?_
                          refine z_bipush (v := 111) dX9_nameOf_98 (by decide) ?_
                          refine z_bipush (v := 115) dX9_nameOf_100 (by decide) ?_
                          refine z_bipush (v := 116) dX9_nameOf_102 (by decide) ?_
                          refine y_callS (as := [_, _, _, _]) CX9_w4 LX9_136 SX9_w4 dX9_nameOf_104 rfl (Nat.le_of_ble_eq_true rfl) (Nat.le_of_ble_eq_true rfl) (by omega) (r_w4 (d := 2) (a0 := 99) (a1 := 111) (a2 := 115) (a3 := 116) (by omega) (by omega) (by omega) (by omega) (Nat.le_refl _)) rok_l ⟨Nat.le_refl _, Nat.le_refl _, hN, hS⟩ ?_
                          refine z_eql (show _ = lN 1668248436 from rfl) ?_
                          refine z_lcmp dX9_nameOf_107 ?_
                          refine z_if_ne dX9_nameOf_108 rfl (fun _ => ?_) (fun c => absurd c (qn 1668248436 11 (by omega) (wd_11 (bb _)) k11))
                          refine z_aload_n dX9_nameOf_113 rfl rfl ?_
                          refine y_getJ FX9_119 dX9_nameOf_114 rfl hm.o ?_
                          refine z_eql e11 ?_
                          refine z_bipush (v := 119) dX9_nameOf_117 (by decide) ?_
                          refine z_bipush (v := 104) dX9_nameOf_119 (by decide) ?_
                          refine z_bipush (v := 111) dX9_nameOf_121 (by decide) ?_
                          refine y_callS (as := [_, _, _]) CX9_w3 LX9_132 SX9_w3 dX9_nameOf_123 rfl (Nat.le_of_ble_eq_true rfl) (Nat.le_of_ble_eq_true rfl) (by omega) (r_w3 (d := 1) (a0 := 119) (a1 := 104) (a2 := 111) (by omega) (by omega) (by omega) (Nat.le_refl _)) rok_l ⟨Nat.le_refl _, Nat.le_refl _, hN, hS⟩ ?_
                          refine z_eql (show _ = lN 7825519 from rfl) ?_
                          refine z_lcmp dX9_nameOf_126 ?_
                          refine z_if_ne dX9_nameOf_127 rfl (fun _ => ?_) (fun c => absurd c (qn 7825519 32 (by omega) (wd_32 (bb _)) k32))
                          refine z_aload_n dX9_nameOf_132 rfl rfl ?_
                          refine y_getJ FX9_119 dX9_nameOf_133 rfl hm.o ?_
                          refine z_eql e11 ?_
                          refine z_bipush (v := 102) dX9_nameOf_136 (by decide) ?_
                          refine z_bipush (v := 97) dX9_nameOf_138 (by decide) ?_
                          refine z_bipush (v := 109) dX9_nameOf_140 (by decide) ?_
                          refine z_bipush (v := 101) dX9_nameOf_142 (by decide) ?_
                          refine y_callS (as := [_, _, _, _]) CX9_w4 LX9_136 SX9_w4 dX9_nameOf_144 rfl (Nat.le_of_ble_eq_true rfl) (Nat.le_of_ble_eq_true rfl) (by omega) (r_w4 (d := 2) (a0 := 102) (a1 := 97) (a2 := 109) (a3 := 101) (by omega) (by omega) (by omega) (by omega) (Nat.le_refl _)) rok_l ⟨Nat.le_refl _, Nat.le_refl _, hN, hS⟩ ?_
                          refine z_eql (show _ = lN 1717661029 from rfl) ?_
                          refine z_lcmp dX9_nameOf_147 ?_
                          refine z_if_ne dX9_nameOf_148 rfl (fun _ => ?_) (fun c => absurd c (qn 1717661029 12 (by omega) (wd_12 (bb _)) k12))
                          refine z_aload_n dX9_nameOf_154 rfl rfl ?_
                          refine y_getJ FX9_119 dX9_nameOf_155 rfl hm.o ?_
                          refine z_eql e11 ?_
                          refine z_bipush (v := 112) dX9_nameOf_158 (by decide) ?_
                          refine z_bipush (v := 117) dX9_nameOf_160 (by decide) ?_
                          refine z_bipush (v := 114) dX9_nameOf_162 (by decide) ?_
                          refine z_bipush (v := 115) dX9_nameOf_164 (by decide) ?_
                          refine z_bipush (v := 101) dX9_nameOf_166 (by decide) ?_
                          refine y_callS (as := [_, _, _, _, _]) CX9_w5 LX9_140 SX9_w5 dX9_nameOf_168 rfl (Nat.le_of_ble_eq_true rfl) (Nat.le_of_ble_eq_true rfl) (by omega) (r_w5 (d := 3) (a0 := 112) (a1 := 117) (a2 := 114) (a3 := 115) (a4 := 101) (by omega) (by omega) (by omega) (by omega) (by omega) (Nat.le_refl _)) rok_l ⟨Nat.le_refl _, Nat.le_refl _, hN, hS⟩ ?_
                          refine z_eql (show _ = lN 483006772069 from rfl) ?_
                          refine z_lcmp dX9_nameOf_171 ?_
                          refine z_if_ne dX9_nameOf_172 rfl (fun _ => ?_) (fun c => absurd c (qn 483006772069 33 (by omega) (wd_33 (bb _)) k33))
                          refine z_aload_n dX9_nameOf_178 rfl rfl ?_
                          refine y_getJ FX9_119 dX9_nameOf_179 rfl hm.o ?_
                          refine z_eql e11 ?_
                          refine z_bipush (v := 102) dX9_nameOf_182 (by decide) ?_
                          refine z_bipush (v := 101) dX9_nameOf_184 (by decide) ?_
                          refine z_bipush (v := 101) dX9_nameOf_186 (by decide) ?_
                          refine y_callS (as := [_, _, _]) CX9_w3 LX9_132 SX9_w3 dX9_nameOf_188 rfl (Nat.le_of_ble_eq_true rfl) (Nat.le_of_ble_eq_true rfl) (by omega) (r_w3 (d := 1) (a0 := 102) (a1 := 101) (a2 := 101) (by omega) (by omega) (by omega) (Nat.le_refl _)) rok_l ⟨Nat.le_refl _, Nat.le_refl _, hN, hS⟩ ?_
                          refine z_eql (show _ = lN 6710629 from rfl) ?_
                          refine z_lcmp dX9_nameOf_191 ?_
                          refine z_if_ne dX9_nameOf_192 rfl (fun _ => ?_) (fun c => absurd c (qn 6710629 16 (by omega) (wd_16 (bb _)) k16))
                          refine z_aload_n dX9_nameOf_198 rfl rfl ?_
                          refine y_getJ FX9_119 dX9_nameOf_199 rfl hm.o ?_
                          refine z_eql e11 ?_
                          refine z_bipush (v := 102) dX9_nameOf_202 (by decide) ?_
                          refine z_bipush (v := 97) dX9_nameOf_204 (by decide) ?_
                          refine z_bipush (v := 99) dX9_nameOf_206 (by decide) ?_
                          refine z_bipush (v := 116) dX9_nameOf_208 (by decide) ?_
                          refine z_bipush (v := 115) dX9_nameOf_210 (by decide) ?_
                          refine y_callS (as := [_, _, _, _, _]) CX9_w5 LX9_140 SX9_w5 dX9_nameOf_212 rfl (Nat.le_of_ble_eq_true rfl) (Nat.le_of_ble_eq_true rfl) (by omega) (r_w5 (d := 3) (a0 := 102) (a1 := 97) (a2 := 99) (a3 := 116) (a4 := 115) (by omega) (by omega) (by omega) (by omega) (by omega) (Nat.le_refl _)) rok_l ⟨Nat.le_refl _, Nat.le_refl _, hN, hS⟩ ?_
                          refine z_eql (show _ = lN 439720572019 from rfl) ?_
                          refine z_lcmp dX9_nameOf_215 ?_
                          refine z_if_ne dX9_nameOf_216 rfl (fun _ => ?_) (fun c => absurd c (qn 439720572019 34 (by omega) (wd_34 (bb _)) k34))
                          refine z_aload_n dX9_nameOf_224 rfl rfl ?_
                          refine y_getJ FX9_119 dX9_nameOf_225 rfl hm.o ?_
                          refine z_eql e11 ?_
                          refine z_bipush (v := 100) dX9_nameOf_228 (by decide) ?_
                          refine z_bipush (v := 117) dX9_nameOf_230 (by decide) ?_
                          refine z_bipush (v := 101) dX9_nameOf_232 (by decide) ?_
                          refine y_callS (as := [_, _, _]) CX9_w3 LX9_132 SX9_w3 dX9_nameOf_234 rfl (Nat.le_of_ble_eq_true rfl) (Nat.le_of_ble_eq_true rfl) (by omega) (r_w3 (d := 1) (a0 := 100) (a1 := 117) (a2 := 101) (by omega) (by omega) (by omega) (Nat.le_refl _)) rok_l ⟨Nat.le_refl _, Nat.le_refl _, hN, hS⟩ ?_
                          refine z_eql (show _ = lN 6583653 from rfl) ?_
                          refine z_lcmp dX9_nameOf_237 ?_
                          refine z_if_ne dX9_nameOf_238 rfl (fun c => absurd (qy 6583653 35 (wd_35 (bb _)) k35) c) (fun _ => ?_)
                          refine z_bipush (v := 10) dX9_nameOf_241 (by decide) ?_
                          refine z_goto dX9_nameOf_243 rfl ?_
                          refine z_iret dX9_nameOf_247 ?_
                          exact hQ
                        · rw [if_neg k35] at hQ
                          refine z_aload_n dX9_nameOf_0 rfl rfl ?_
                          refine y_getI FX9_106 dX9_nameOf_1 (Or.inl rfl) hm.o ?_
                          refine z_eqi (y := nI (rtk (TPs s) (TNs s) (tP (TPs s) (TNs s) i))) nt.2.2.1 ?_
                          refine z_iconst (v := 2) dX9_nameOf_4 (by decide) ?_
                          refine z_icmp_eq dX9_nameOf_5 rfl (fun _ => ?_) (fun c => absurd (congrArg nI h2) c)
                          refine z_aload_n dX9_nameOf_10 rfl rfl ?_
                          refine y_getJ FX9_119 dX9_nameOf_11 rfl hm.o ?_
                          refine z_eql e11 ?_
                          refine z_bipush (v := 100) dX9_nameOf_14 (by decide) ?_
                          refine z_bipush (v := 97) dX9_nameOf_16 (by decide) ?_
                          refine z_bipush (v := 121) dX9_nameOf_18 (by decide) ?_
                          refine y_callS (as := [_, _, _]) CX9_w3 LX9_132 SX9_w3 dX9_nameOf_20 rfl (Nat.le_of_ble_eq_true rfl) (Nat.le_of_ble_eq_true rfl) (by omega) (r_w3 (d := 1) (a0 := 100) (a1 := 97) (a2 := 121) (by omega) (by omega) (by omega) (Nat.le_refl _)) rok_l ⟨Nat.le_refl _, Nat.le_refl _, hN, hS⟩ ?_
                          refine z_eql (show _ = lN 6578553 from rfl) ?_
                          refine z_lcmp dX9_nameOf_23 ?_
                          refine z_if_ne dX9_nameOf_24 rfl (fun _ => ?_) (fun c => absurd c (qn 6578553 10 (by omega) (wd_10 (bb _)) k10))
                          refine z_aload_n dX9_nameOf_29 rfl rfl ?_
                          refine y_getJ FX9_119 dX9_nameOf_30 rfl hm.o ?_
                          refine z_eql e11 ?_
                          refine z_bipush (v := 109) dX9_nameOf_33 (by decide) ?_
                          refine z_bipush (v := 97) dX9_nameOf_35 (by decide) ?_
                          refine z_bipush (v := 110) dX9_nameOf_37 (by decide) ?_
                          refine z_bipush (v := 121) dX9_nameOf_39 (by decide) ?_
                          refine y_callS (as := [_, _, _, _]) CX9_w4 LX9_136 SX9_w4 dX9_nameOf_41 rfl (Nat.le_of_ble_eq_true rfl) (Nat.le_of_ble_eq_true rfl) (by omega) (r_w4 (d := 2) (a0 := 109) (a1 := 97) (a2 := 110) (a3 := 121) (by omega) (by omega) (by omega) (by omega) (Nat.le_refl _)) rok_l ⟨Nat.le_refl _, Nat.le_refl _, hN, hS⟩ ?_
                          refine z_eql (show _ = lN 1835101817 from rfl) ?_
                          refine z_lcmp dX9_nameOf_44 ?_
                          refine z_if_ne dX9_nameOf_45 rfl (fun _ => ?_) (fun c => absurd c (qn 1835101817 30 (by omega) (wd_30 (bb _)) k30))
                          refine z_aload_n dX9_nameOf_50 rfl rfl ?_
                          refine y_getJ FX9_119 dX9_nameOf_51 rfl hm.o ?_
                          refine z_eql e11 ?_
                          refine z_bipush (v := 102) dX9_nameOf_54 (by decide) ?_
                          refine z_bipush (v := 97) dX9_nameOf_56 (by decide) ?_
                          refine z_bipush (v := 99) dX9_nameOf_58 (by decide) ?_
                          refine z_bipush (v := 116) dX9_nameOf_60 (by decide) ?_
                          refine y_callS (as := [_, _, _, _]) CX9_w4 LX9_136 SX9_w4 dX9_nameOf_62 rfl (Nat.le_of_ble_eq_true rfl) (Nat.le_of_ble_eq_true rfl) (by omega) (r_w4 (d := 2) (a0 := 102) (a1 := 97) (a2 := 99) (a3 := 116) (by omega) (by omega) (by omega) (by omega) (Nat.le_refl _)) rok_l ⟨Nat.le_refl _, Nat.le_refl _, hN, hS⟩ ?_
                          refine z_eql (show _ = lN 1717658484 from rfl) ?_
                          refine z_lcmp dX9_nameOf_65 ?_
                          refine z_if_ne dX9_nameOf_66 rfl (fun _ => ?_) (fun c => absurd c (qn 1717658484 4 (by omega) (wd_4 (bb _)) k4))
                          refine z_aload_n dX9_nameOf_71 rfl rfl ?_
                          refine y_getJ FX9_119 dX9_nameOf_72 rfl hm.o ?_
                          refine z_eql e11 ?_
                          refine z_bipush (v := 111) dX9_nameOf_75 (by decide) ?_
                          refine z_bipush (v := 100) dX9_nameOf_77 (by decide) ?_
                          refine z_bipush (v := 100) dX9_nameOf_79 (by decide) ?_
                          refine z_bipush (v := 115) dX9_nameOf_81 (by decide) ?_
                          refine y_callS (as := [_, _, _, _]) CX9_w4 LX9_136 SX9_w4 dX9_nameOf_83 rfl (Nat.le_of_ble_eq_true rfl) (Nat.le_of_ble_eq_true rfl) (by omega) (r_w4 (d := 2) (a0 := 111) (a1 := 100) (a2 := 100) (a3 := 115) (by omega) (by omega) (by omega) (by omega) (Nat.le_refl _)) rok_l ⟨Nat.le_refl _, Nat.le_refl _, hN, hS⟩ ?_
                          refine z_eql (show _ = lN 1868850291 from rfl) ?_
                          refine z_lcmp dX9_nameOf_86 ?_
                          refine z_if_ne dX9_nameOf_87 rfl (fun _ => ?_) (fun c => absurd c (qn 1868850291 31 (by omega) (wd_31 (bb _)) k31))
                          refine z_aload_n dX9_nameOf_92 rfl rfl ?_
                          refine y_getJ FX9_119 dX9_nameOf_93 rfl hm.o ?_
                          refine z_eql e11 ?_
                          refine z_bipush (v := 99) dX9_nameOf_96 (by decide) ?_
                          refine z_bipush (v := 111) dX9_nameOf_98 (by decide) ?_
                          refine z_bipush (v := 115) dX9_nameOf_100 (by decide) ?_
                          refine z_bipush (v := 116) dX9_nameOf_102 (by decide) ?_
                          refine y_callS (as := [_, _, _, _]) CX9_w4 LX9_136 SX9_w4 dX9_nameOf_104 rfl (Nat.le_of_ble_eq_true rfl) (Nat.le_of_ble_eq_true rfl) (by omega) (r_w4 (d := 2) (a0 := 99) (a1 := 111) (a2 := 115) (a3 := 116) (by omega) (by omega) (by omega) (by omega) (Nat.le_refl _)) rok_l ⟨Nat.le_refl _, Nat.le_refl _, hN, hS⟩ ?_
                          refine z_eql (show _ = lN 1668248436 from rfl) ?_
                          refine z_lcmp dX9_nameOf_107 ?_
                          refine z_if_ne dX9_nameOf_108 rfl (fun _ => ?_) (fun c => absurd c (qn 1668248436 11 (by omega) (wd_11 (bb _)) k11))
                          refine z_aload_n dX9_nameOf_113 rfl rfl ?_
                          refine y_getJ FX9_119 dX9_nameOf_114 rfl hm.o ?_
                          refine z_eql e11 ?_
                          refine z_bipush (v := 119) dX9_nameOf_117 (by decide) ?_
                          refine z_bipush (v := 104) dX9_nameOf_119 (by decide) ?_
                          refine z_bipush (v := 111) dX9_nameOf_121 (by decide) ?_
                          refine y_callS (as := [_, _, _]) CX9_w3 LX9_132 SX9_w3 dX9_nameOf_123 rfl (Nat.le_of_ble_eq_true rfl) (Nat.le_of_ble_eq_true rfl) (by omega) (r_w3 (d := 1) (a0 := 119) (a1 := 104) (a2 := 111) (by omega) (by omega) (by omega) (Nat.le_refl _)) rok_l ⟨Nat.le_refl _, Nat.le_refl _, hN, hS⟩ ?_
                          refine z_eql (show _ = lN 7825519 from rfl) ?_
                          refine z_lcmp dX9_nameOf_126 ?_
                          refine z_if_ne dX9_nameOf_127 rfl (fun _ => ?_) (fun c => absurd c (qn 7825519 32 (by omega) (wd_32 (bb _)) k32))
                          refine z_aload_n dX9_nameOf_132 rfl rfl ?_
                          refine y_getJ FX9_119 dX9_nameOf_133 rfl hm.o ?_
                          refine z_eql e11 ?_
                          refine z_bipush (v := 102) dX9_nameOf_136 (by decide) ?_
                          refine z_bipush (v := 97) dX9_nameOf_138 (by decide) ?_
                          refine z_bipush (v := 109) dX9_nameOf_140 (by decide) ?_
                          refine z_bipush (v := 101) dX9_nameOf_142 (by decide) ?_
                          refine y_callS (as := [_, _, _, _]) CX9_w4 LX9_136 SX9_w4 dX9_nameOf_144 rfl (Nat.le_of_ble_eq_true rfl) (Nat.le_of_ble_eq_true rfl) (by omega) (r_w4 (d := 2) (a0 := 102) (a1 := 97) (a2 := 109) (a3 := 101) (by omega) (by omega) (by omega) (by omega) (Nat.le_refl _)) rok_l ⟨Nat.le_refl _, Nat.le_refl _, hN, hS⟩ ?_
                          refine z_eql (show _ = lN 1717661029 from rfl) ?_
                          refine z_lcmp dX9_nameOf_147 ?_
                          refine z_if_ne dX9_nameOf_148 rfl (fun _ => ?_) (fun c => absurd c (qn 1717661029 12 (by omega) (wd_12 (bb _)) k12))
                          refine z_aload_n dX9_nameOf_154 rfl rfl ?_
                          refine y_getJ FX9_119 dX9_nameOf_155 rfl hm.o ?_
                          refine z_eql e11 ?_
                          refine z_bipush (v := 112) dX9_nameOf_158 (by decide) ?_
                          refine z_bipush (v := 117) dX9_nameOf_160 (by decide) ?_
                          refine z_bipush (v := 114) dX9_nameOf_162 (by decide) ?_
                          refine z_bipush (v := 115) dX9_nameOf_164 (by decide) ?_
                          refine z_bipush (v := 101) dX9_nameOf_166 (by decide) ?_
                          refine y_callS (as := [_, _, _, _, _]) CX9_w5 LX9_140 SX9_w5 dX9_nameOf_168 rfl (Nat.le_of_ble_eq_true rfl) (Nat.le_of_ble_eq_true rfl) (by omega) (r_w5 (d := 3) (a0 := 112) (a1 := 117) (a2 := 114) (a3 := 115) (a4 := 101) (by omega) (by omega) (by omega) (by omega) (by omega) (Nat.le_refl _)) rok_l ⟨Nat.le_refl _, Nat.le_refl _, hN, hS⟩ ?_
                          refine z_eql (show _ = lN 483006772069 from rfl) ?_
                          refine z_lcmp dX9_nameOf_171 ?_
                          refine z_if_ne dX9_nameOf_172 rfl (fun _ => ?_) (fun c => absurd c (qn 483006772069 33 (by omega) (wd_33 (bb _)) k33))
                          refine z_aload_n dX9_nameOf_178 rfl rfl ?_
                          refine y_getJ FX9_119 dX9_nameOf_179 rfl hm.o ?_
                          refine z_eql e11 ?_
                          refine z_bipush (v := 102) dX9_nameOf_182 (by decide) ?_
                          refine z_bipush (v := 101) dX9_nameOf_184 (by decide) ?_
                          refine z_bipush (v := 101) dX9_nameOf_186 (by decide) ?_
                          refine y_callS (as := [_, _, _]) CX9_w3 LX9_132 SX9_w3 dX9_nameOf_188 rfl (Nat.le_of_ble_eq_true rfl) (Nat.le_of_ble_eq_true rfl) (by omega) (r_w3 (d := 1) (a0 := 102) (a1 := 101) (a2 := 101) (by omega) (by omega) (by omega) (Nat.le_refl _)) rok_l ⟨Nat.le_refl _, Nat.le_refl _, hN, hS⟩ ?_
                          refine z_eql (show _ = lN 6710629 from rfl) ?_
                          refine z_lcmp dX9_nameOf_191 ?_
                          refine z_if_ne dX9_nameOf_192 rfl (fun _ => ?_) (fun c => absurd c (qn 6710629 16 (by omega) (wd_16 (bb _)) k16))
                          refine z_aload_n dX9_nameOf_198 rfl rfl ?_
                          refine y_getJ FX9_119 dX9_nameOf_199 rfl hm.o ?_
                          refine z_eql e11 ?_
                          refine z_bipush (v := 102) dX9_nameOf_202 (by decide) ?_
                          refine z_bipush (v := 97) dX9_nameOf_204 (by decide) ?_
                          refine z_bipush (v := 99) dX9_nameOf_206 (by decide) ?_
                          refine z_bipush (v := 116) dX9_nameOf_208 (by decide) ?_
                          refine z_bipush (v := 115) dX9_nameOf_210 (by decide) ?_
                          refine y_callS (as := [_, _, _, _, _]) CX9_w5 LX9_140 SX9_w5 dX9_nameOf_212 rfl (Nat.le_of_ble_eq_true rfl) (Nat.le_of_ble_eq_true rfl) (by omega) (r_w5 (d := 3) (a0 := 102) (a1 := 97) (a2 := 99) (a3 := 116) (a4 := 115) (by omega) (by omega) (by omega) (by omega) (by omega) (Nat.le_refl _)) rok_l ⟨Nat.le_refl _, Nat.le_refl _, hN, hS⟩ ?_
                          refine z_eql (show _ = lN 439720572019 from rfl) ?_
                          refine z_lcmp dX9_nameOf_215 ?_
                          refine z_if_ne dX9_nameOf_216 rfl (fun _ => ?_) (fun c => absurd c (qn 439720572019 34 (by omega) (wd_34 (bb _)) k34))
                          refine z_aload_n dX9_nameOf_224 rfl rfl ?_
                          refine y_getJ FX9_119 dX9_nameOf_225 rfl hm.o ?_
                          refine z_eql e11 ?_
                          refine z_bipush (v := 100) dX9_nameOf_228 (by decide) ?_
                          refine z_bipush (v := 117) dX9_nameOf_230 (by decide) ?_
                          refine z_bipush (v := 101) dX9_nameOf_232 (by decide) ?_
                          refine y_callS (as := [_, _, _]) CX9_w3 LX9_132 SX9_w3 dX9_nameOf_234 rfl (Nat.le_of_ble_eq_true rfl) (Nat.le_of_ble_eq_true rfl) (by omega) (r_w3 (d := 1) (a0 := 100) (a1 := 117) (a2 := 101) (by omega) (by omega) (by omega) (Nat.le_refl _)) rok_l ⟨Nat.le_refl _, Nat.le_refl _, hN, hS⟩ ?_
                          refine z_eql (show _ = lN 6583653 from rfl) ?_
                          refine z_lcmp dX9_nameOf_237 ?_
                          refine z_if_ne dX9_nameOf_238 rfl (fun _ => ?_) (fun c => absurd c (qn 6583653 35 (by omega) (wd_35 (bb _)) k35))
                          refine z_iconst (v := -1) dX9_nameOf_246 (by decide) ?_
                          refine z_iret dX9_nameOf_247 ?_
                          exact hQ
  · have nk : ∀ k, 1 ≤ k → k ≤ 35 → ¬ tK (TPs s) (TNs s) i = k := fun k q1 q2 e => h2 ((rtk_2 (bb _)).mpr (by
      have := (tkK_w ⟨q1, q2⟩).mp e
      exact ⟨this.1, this.2.1⟩))
    have eq : nmo (tK (TPs s) (TNs s) i) = -1 := by
      unfold nmo
      rw [if_neg (nk 10 (by omega) (by omega)), if_neg (nk 30 (by omega) (by omega)), if_neg (nk 4 (by omega) (by omega)), if_neg (nk 31 (by omega) (by omega)), if_neg (nk 11 (by omega) (by omega)), if_neg (nk 32 (by omega) (by omega)), if_neg (nk 12 (by omega) (by omega)), if_neg (nk 33 (by omega) (by omega)), if_neg (nk 16 (by omega) (by omega)), if_neg (nk 34 (by omega) (by omega)), if_neg (nk 35 (by omega) (by omega))]
    rw [eq] at hQ
    refine z_aload_n dX9_nameOf_0 rfl rfl ?_
    refine y_getI FX9_106 dX9_nameOf_1 (Or.inl rfl) hm.o ?_
    refine z_eqi (y := nI (rtk (TPs s) (TNs s) (tP (TPs s) (TNs s) i))) nt.2.2.1 ?_
    refine z_iconst (v := 2) dX9_nameOf_4 (by decide) ?_
    refine z_icmp_eq dX9_nameOf_5 rfl (fun c => absurd c (fun q => h2 ((nI_eq (b := 2) (by omega) (by omega)).mp q))) (fun _ => ?_)
    refine z_iconst (v := -1) dX9_nameOf_8 (by decide) ?_
    refine z_iret dX9_nameOf_9 ?_
    exact hQ

theorem r_isOf {s : Ms} {t w0 so i op wh : Nat} {ro : List Nat} {c : Cd} {h : Hp} {d : Nat} (rp : RP s t w0 so i ro op wh c h) {m : Nat} (hmm : m ≤ 10) (hso : so ≤ 9) : Sp d mX9_isOf [.ref 488, .int (nI m)] h (some (.int (bI (m < 2 ∨ (m < 5 ↔ so = 0))))) h := by
  obtain ⟨tf, hr, em, fr, nt, e12, e13, e14, e16, e17, e18, pil⟩ := id rp
  have hm := hr.m
  intro N S Q hN hS hQ
  by_cases h2 : m < 2
  · rw [bI_t (Or.inl h2)] at hQ
    refine z_iload_n dX9_isOf_0 rfl rfl ?_
    refine z_iconst (v := 2) dX9_isOf_1 (by decide) ?_
    refine z_icmp_lt dX9_isOf_2 rfl (fun _ => ?_) (fun c => absurd ((nI_ltI (b := 2) (by omega) (by omega)).mpr h2) c)
    refine z_iconst (v := 1) dX9_isOf_27 (by decide) ?_
    refine z_goto dX9_isOf_28 rfl ?_
    refine z_iret dX9_isOf_32 ?_
    exact hQ
  · have d2 : ¬ nI m < 2 := fun q => h2 ((nI_ltI (b := 2) (by omega) (by omega)).mp q)
    by_cases h5 : m < 5
    · have d5 : ¬ (5 : Int32) ≤ nI m := fun q => absurd ((nI_leI (a := 5) (by omega) (by omega)).mp q) (by omega)
      by_cases z : so = 0
      · rw [bI_t (Or.inr ⟨fun _ => z, fun _ => h5⟩)] at hQ
        refine z_iload_n dX9_isOf_0 rfl rfl ?_
        refine z_iconst (v := 2) dX9_isOf_1 (by decide) ?_
        refine z_icmp_lt dX9_isOf_2 rfl (fun c => absurd c (d2)) (fun _ => ?_)
        refine z_iload_n dX9_isOf_5 rfl rfl ?_
        refine z_iconst (v := 5) dX9_isOf_6 (by decide) ?_
        refine z_icmp_ge dX9_isOf_7 rfl (fun c => absurd c (d5)) (fun _ => ?_)
        refine z_aload_n dX9_isOf_10 rfl rfl ?_
        refine y_getI FX9_150 dX9_isOf_11 (Or.inl rfl) hm.o ?_
        refine z_eqi (y := nI (so)) e14 ?_
        refine z_if_ne dX9_isOf_14 rfl (fun c => absurd (congrArg nI z) c) (fun _ => ?_)
        refine z_goto dX9_isOf_17 rfl ?_
        refine z_iconst (v := 1) dX9_isOf_27 (by decide) ?_
        refine z_goto dX9_isOf_28 rfl ?_
        refine z_iret dX9_isOf_32 ?_
        exact hQ
      · rw [bI_f (fun q => by rcases q with q | q; exact h2 q; exact z (q.mp h5))] at hQ
        refine z_iload_n dX9_isOf_0 rfl rfl ?_
        refine z_iconst (v := 2) dX9_isOf_1 (by decide) ?_
        refine z_icmp_lt dX9_isOf_2 rfl (fun c => absurd c (d2)) (fun _ => ?_)
        refine z_iload_n dX9_isOf_5 rfl rfl ?_
        refine z_iconst (v := 5) dX9_isOf_6 (by decide) ?_
        refine z_icmp_ge dX9_isOf_7 rfl (fun c => absurd c (d5)) (fun _ => ?_)
        refine z_aload_n dX9_isOf_10 rfl rfl ?_
        refine y_getI FX9_150 dX9_isOf_11 (Or.inl rfl) hm.o ?_
        refine z_eqi (y := nI (so)) e14 ?_
        refine z_if_ne dX9_isOf_14 rfl (fun _ => ?_) (fun c => absurd c (fun q => z ((nI_eq (b := 0) (by omega) (by omega)).mp q)))
        refine z_iconst (v := 0) dX9_isOf_31 (by decide) ?_
        refine z_iret dX9_isOf_32 ?_
        exact hQ
    · have d5 : (5 : Int32) ≤ nI m := (nI_leI (a := 5) (by omega) (by omega)).mpr (by omega)
      by_cases z : so = 0
      · rw [bI_f (fun q => by rcases q with q | q; exact h2 q; exact h5 (q.mpr z))] at hQ
        refine z_iload_n dX9_isOf_0 rfl rfl ?_
        refine z_iconst (v := 2) dX9_isOf_1 (by decide) ?_
        refine z_icmp_lt dX9_isOf_2 rfl (fun c => absurd c (d2)) (fun _ => ?_)
        refine z_iload_n dX9_isOf_5 rfl rfl ?_
        refine z_iconst (v := 5) dX9_isOf_6 (by decide) ?_
        refine z_icmp_ge dX9_isOf_7 rfl (fun _ => ?_) (fun c => absurd (d5) c)
        refine z_aload_n dX9_isOf_20 rfl rfl ?_
        refine y_getI FX9_150 dX9_isOf_21 (Or.inl rfl) hm.o ?_
        refine z_eqi (y := nI (so)) e14 ?_
        refine z_if_eq dX9_isOf_24 rfl (fun _ => ?_) (fun c => absurd (congrArg nI z) c)
        refine z_iconst (v := 0) dX9_isOf_31 (by decide) ?_
        refine z_iret dX9_isOf_32 ?_
        exact hQ
      · rw [bI_t (Or.inr ⟨fun q => absurd q h5, fun q => absurd q z⟩)] at hQ
        refine z_iload_n dX9_isOf_0 rfl rfl ?_
        refine z_iconst (v := 2) dX9_isOf_1 (by decide) ?_
        refine z_icmp_lt dX9_isOf_2 rfl (fun c => absurd c (d2)) (fun _ => ?_)
        refine z_iload_n dX9_isOf_5 rfl rfl ?_
        refine z_iconst (v := 5) dX9_isOf_6 (by decide) ?_
        refine z_icmp_ge dX9_isOf_7 rfl (fun _ => ?_) (fun c => absurd (d5) c)
        refine z_aload_n dX9_isOf_20 rfl rfl ?_
        refine y_getI FX9_150 dX9_isOf_21 (Or.inl rfl) hm.o ?_
        refine z_eqi (y := nI (so)) e14 ?_
        refine z_if_eq dX9_isOf_24 rfl (fun c => absurd c (fun q => z ((nI_eq (b := 0) (by omega) (by omega)).mp q))) (fun _ => ?_)
        refine z_iconst (v := 1) dX9_isOf_27 (by decide) ?_
        refine z_goto dX9_isOf_28 rfl ?_
        refine z_iret dX9_isOf_32 ?_
        exact hQ

def cmo (k : Nat) : Int32 := if k = 40 then 10 else if k = 38 then 11 else if k = 41 then 12 else if k = 39 then 13 else if k = 42 then 14 else if k = 43 then 15 else -1
theorem r_compareOf {s : Ms} {t w0 so i op wh : Nat} {ro : List Nat} {c : Cd} {h : Hp} {d : Nat} (rp : RP s t w0 so i ro op wh c h) (ht : ITp s) : Sp d mX9_compareOf [.ref 488] h (some (.int (cmo (tK (TPs s) (TNs s) i)))) h := by
  obtain ⟨tf, hr, em, fr, nt, e12, e13, e14, e16, e17, e18, pil⟩ := id rp
  have hm := hr.m
  have n3 : TNs s ≤ 300 := ht.1
  have bb : ∀ k, k < TNs s → TPs s k < 256 := fun k hk => ht.2 k (by omega)
  have rl := rtk_lt (tp := (TPs s)) (n := (TNs s)) (p := (tP (TPs s) (TNs s) i)) (bb _)
  have ty : ∀ c k, (rtk (TPs s) (TNs s) (tP (TPs s) (TNs s) i) = c ↔ tK (TPs s) (TNs s) i = k) → tK (TPs s) (TNs s) i = k → nI (rtk (TPs s) (TNs s) (tP (TPs s) (TNs s) i)) = nI c := fun c k iff e => congrArg nI (iff.mpr e)
  have tn : ∀ c k, c < 256 → (rtk (TPs s) (TNs s) (tP (TPs s) (TNs s) i) = c ↔ tK (TPs s) (TNs s) i = k) → ¬ tK (TPs s) (TNs s) i = k → ¬ nI (rtk (TPs s) (TNs s) (tP (TPs s) (TNs s) i)) = nI c := fun c k hc iff ne q => ne (iff.mp ((nI_eq (by omega) (by omega)).mp q))
  intro N S Q hN hS hQ
  unfold cmo at hQ
  by_cases k40 : tK (TPs s) (TNs s) i = 40
  · rw [if_pos k40] at hQ
    refine z_aload_n dX9_compareOf_0 rfl rfl ?_
    refine y_getI FX9_106 dX9_compareOf_1 (Or.inl rfl) hm.o ?_
    refine z_eqi (y := nI (rtk (TPs s) (TNs s) (tP (TPs s) (TNs s) i))) nt.2.2.1 ?_
    refine z_bipush (v := 60) dX9_compareOf_4 (by decide) ?_
    refine z_icmp_ne dX9_compareOf_6 rfl (fun c => absurd (ty 60 40 (rt_sg (c := 60) (by decide)) k40) c) (fun _ => ?_)
    refine z_bipush (v := 10) dX9_compareOf_9 (by decide) ?_
    refine z_goto dX9_compareOf_11 rfl ?_
    refine z_iret dX9_compareOf_83 ?_
    exact hQ
  · rw [if_neg k40] at hQ
    by_cases k38 : tK (TPs s) (TNs s) i = 38
    · rw [if_pos k38] at hQ
      refine z_aload_n dX9_compareOf_0 rfl rfl ?_
      refine y_getI FX9_106 dX9_compareOf_1 (Or.inl rfl) hm.o ?_
      refine z_eqi (y := nI (rtk (TPs s) (TNs s) (tP (TPs s) (TNs s) i))) nt.2.2.1 ?_
      refine z_bipush (v := 60) dX9_compareOf_4 (by decide) ?_
      refine z_icmp_ne dX9_compareOf_6 rfl (fun _ => ?_) (fun c => absurd c (tn 60 40 (by omega) (rt_sg (c := 60) (by decide)) k40))
      refine z_aload_n dX9_compareOf_14 rfl rfl ?_
      refine y_getI FX9_106 dX9_compareOf_15 (Or.inl rfl) hm.o ?_
      refine z_eqi (y := nI (rtk (TPs s) (TNs s) (tP (TPs s) (TNs s) i))) nt.2.2.1 ?_
      refine z_iconst (v := 4) dX9_compareOf_18 (by decide) ?_
      refine z_icmp_ne dX9_compareOf_19 rfl (fun c => absurd (ty 4 38 (rt_small.2.2.1) k38) c) (fun _ => ?_)
      refine z_bipush (v := 11) dX9_compareOf_22 (by decide) ?_
      refine z_goto dX9_compareOf_24 rfl ?_
      refine z_iret dX9_compareOf_83 ?_
      exact hQ
    · rw [if_neg k38] at hQ
      by_cases k41 : tK (TPs s) (TNs s) i = 41
      · rw [if_pos k41] at hQ
        refine z_aload_n dX9_compareOf_0 rfl rfl ?_
        refine y_getI FX9_106 dX9_compareOf_1 (Or.inl rfl) hm.o ?_
        refine z_eqi (y := nI (rtk (TPs s) (TNs s) (tP (TPs s) (TNs s) i))) nt.2.2.1 ?_
        refine z_bipush (v := 60) dX9_compareOf_4 (by decide) ?_
        refine z_icmp_ne dX9_compareOf_6 rfl (fun _ => ?_) (fun c => absurd c (tn 60 40 (by omega) (rt_sg (c := 60) (by decide)) k40))
        refine z_aload_n dX9_compareOf_14 rfl rfl ?_
        refine y_getI FX9_106 dX9_compareOf_15 (Or.inl rfl) hm.o ?_
        refine z_eqi (y := nI (rtk (TPs s) (TNs s) (tP (TPs s) (TNs s) i))) nt.2.2.1 ?_
        refine z_iconst (v := 4) dX9_compareOf_18 (by decide) ?_
        refine z_icmp_ne dX9_compareOf_19 rfl (fun _ => ?_) (fun c => absurd c (tn 4 38 (by omega) (rt_small.2.2.1) k38))
        refine z_aload_n dX9_compareOf_27 rfl rfl ?_
        refine y_getI FX9_106 dX9_compareOf_28 (Or.inl rfl) hm.o ?_
        refine z_eqi (y := nI (rtk (TPs s) (TNs s) (tP (TPs s) (TNs s) i))) nt.2.2.1 ?_
        refine z_bipush (v := 62) dX9_compareOf_31 (by decide) ?_
        refine z_icmp_ne dX9_compareOf_33 rfl (fun c => absurd (ty 62 41 (rt_sg (c := 62) (by decide)) k41) c) (fun _ => ?_)
        refine z_bipush (v := 12) dX9_compareOf_36 (by decide) ?_
        refine z_goto dX9_compareOf_38 rfl ?_
        refine z_iret dX9_compareOf_83 ?_
        exact hQ
      · rw [if_neg k41] at hQ
        by_cases k39 : tK (TPs s) (TNs s) i = 39
        · rw [if_pos k39] at hQ
          refine z_aload_n dX9_compareOf_0 rfl rfl ?_
          refine y_getI FX9_106 dX9_compareOf_1 (Or.inl rfl) hm.o ?_
          refine z_eqi (y := nI (rtk (TPs s) (TNs s) (tP (TPs s) (TNs s) i))) nt.2.2.1 ?_
          refine z_bipush (v := 60) dX9_compareOf_4 (by decide) ?_
          refine z_icmp_ne dX9_compareOf_6 rfl (fun _ => ?_) (fun c => absurd c (tn 60 40 (by omega) (rt_sg (c := 60) (by decide)) k40))
          refine z_aload_n dX9_compareOf_14 rfl rfl ?_
          refine y_getI FX9_106 dX9_compareOf_15 (Or.inl rfl) hm.o ?_
          refine z_eqi (y := nI (rtk (TPs s) (TNs s) (tP (TPs s) (TNs s) i))) nt.2.2.1 ?_
          refine z_iconst (v := 4) dX9_compareOf_18 (by decide) ?_
          refine z_icmp_ne dX9_compareOf_19 rfl (fun _ => ?_) (fun c => absurd c (tn 4 38 (by omega) (rt_small.2.2.1) k38))
          refine z_aload_n dX9_compareOf_27 rfl rfl ?_
          refine y_getI FX9_106 dX9_compareOf_28 (Or.inl rfl) hm.o ?_
          refine z_eqi (y := nI (rtk (TPs s) (TNs s) (tP (TPs s) (TNs s) i))) nt.2.2.1 ?_
          refine z_bipush (v := 62) dX9_compareOf_31 (by decide) ?_
          refine z_icmp_ne dX9_compareOf_33 rfl (fun _ => ?_) (fun c => absurd c (tn 62 41 (by omega) (rt_sg (c := 62) (by decide)) k41))
          refine z_aload_n dX9_compareOf_41 rfl rfl ?_
          refine y_getI FX9_106 dX9_compareOf_42 (Or.inl rfl) hm.o ?_
          refine z_eqi (y := nI (rtk (TPs s) (TNs s) (tP (TPs s) (TNs s) i))) nt.2.2.1 ?_
          refine z_iconst (v := 5) dX9_compareOf_45 (by decide) ?_
          refine z_icmp_ne dX9_compareOf_46 rfl (fun c => absurd (ty 5 39 (rt_small.2.2.2) k39) c) (fun _ => ?_)
          refine z_bipush (v := 13) dX9_compareOf_49 (by decide) ?_
          refine z_goto dX9_compareOf_51 rfl ?_
          refine z_iret dX9_compareOf_83 ?_
          exact hQ
        · rw [if_neg k39] at hQ
          by_cases k42 : tK (TPs s) (TNs s) i = 42
          · rw [if_pos k42] at hQ
            refine z_aload_n dX9_compareOf_0 rfl rfl ?_
            refine y_getI FX9_106 dX9_compareOf_1 (Or.inl rfl) hm.o ?_
            refine z_eqi (y := nI (rtk (TPs s) (TNs s) (tP (TPs s) (TNs s) i))) nt.2.2.1 ?_
            refine z_bipush (v := 60) dX9_compareOf_4 (by decide) ?_
            refine z_icmp_ne dX9_compareOf_6 rfl (fun _ => ?_) (fun c => absurd c (tn 60 40 (by omega) (rt_sg (c := 60) (by decide)) k40))
            refine z_aload_n dX9_compareOf_14 rfl rfl ?_
            refine y_getI FX9_106 dX9_compareOf_15 (Or.inl rfl) hm.o ?_
            refine z_eqi (y := nI (rtk (TPs s) (TNs s) (tP (TPs s) (TNs s) i))) nt.2.2.1 ?_
            refine z_iconst (v := 4) dX9_compareOf_18 (by decide) ?_
            refine z_icmp_ne dX9_compareOf_19 rfl (fun _ => ?_) (fun c => absurd c (tn 4 38 (by omega) (rt_small.2.2.1) k38))
            refine z_aload_n dX9_compareOf_27 rfl rfl ?_
            refine y_getI FX9_106 dX9_compareOf_28 (Or.inl rfl) hm.o ?_
            refine z_eqi (y := nI (rtk (TPs s) (TNs s) (tP (TPs s) (TNs s) i))) nt.2.2.1 ?_
            refine z_bipush (v := 62) dX9_compareOf_31 (by decide) ?_
            refine z_icmp_ne dX9_compareOf_33 rfl (fun _ => ?_) (fun c => absurd c (tn 62 41 (by omega) (rt_sg (c := 62) (by decide)) k41))
            refine z_aload_n dX9_compareOf_41 rfl rfl ?_
            refine y_getI FX9_106 dX9_compareOf_42 (Or.inl rfl) hm.o ?_
            refine z_eqi (y := nI (rtk (TPs s) (TNs s) (tP (TPs s) (TNs s) i))) nt.2.2.1 ?_
            refine z_iconst (v := 5) dX9_compareOf_45 (by decide) ?_
            refine z_icmp_ne dX9_compareOf_46 rfl (fun _ => ?_) (fun c => absurd c (tn 5 39 (by omega) (rt_small.2.2.2) k39))
            refine z_aload_n dX9_compareOf_54 rfl rfl ?_
            refine y_getI FX9_106 dX9_compareOf_55 (Or.inl rfl) hm.o ?_
            refine z_eqi (y := nI (rtk (TPs s) (TNs s) (tP (TPs s) (TNs s) i))) nt.2.2.1 ?_
            refine z_bipush (v := 61) dX9_compareOf_58 (by decide) ?_
            refine z_icmp_ne dX9_compareOf_60 rfl (fun c => absurd (ty 61 42 (rt_sg (c := 61) (by decide)) k42) c) (fun _ => ?_)
            refine z_bipush (v := 14) dX9_compareOf_63 (by decide) ?_
            refine z_goto dX9_compareOf_65 rfl ?_
            refine z_iret dX9_compareOf_83 ?_
            exact hQ
          · rw [if_neg k42] at hQ
            by_cases k43 : tK (TPs s) (TNs s) i = 43
            · rw [if_pos k43] at hQ
              refine z_aload_n dX9_compareOf_0 rfl rfl ?_
              refine y_getI FX9_106 dX9_compareOf_1 (Or.inl rfl) hm.o ?_
              refine z_eqi (y := nI (rtk (TPs s) (TNs s) (tP (TPs s) (TNs s) i))) nt.2.2.1 ?_
              refine z_bipush (v := 60) dX9_compareOf_4 (by decide) ?_
              refine z_icmp_ne dX9_compareOf_6 rfl (fun _ => ?_) (fun c => absurd c (tn 60 40 (by omega) (rt_sg (c := 60) (by decide)) k40))
              refine z_aload_n dX9_compareOf_14 rfl rfl ?_
              refine y_getI FX9_106 dX9_compareOf_15 (Or.inl rfl) hm.o ?_
              refine z_eqi (y := nI (rtk (TPs s) (TNs s) (tP (TPs s) (TNs s) i))) nt.2.2.1 ?_
              refine z_iconst (v := 4) dX9_compareOf_18 (by decide) ?_
              refine z_icmp_ne dX9_compareOf_19 rfl (fun _ => ?_) (fun c => absurd c (tn 4 38 (by omega) (rt_small.2.2.1) k38))
              refine z_aload_n dX9_compareOf_27 rfl rfl ?_
              refine y_getI FX9_106 dX9_compareOf_28 (Or.inl rfl) hm.o ?_
              refine z_eqi (y := nI (rtk (TPs s) (TNs s) (tP (TPs s) (TNs s) i))) nt.2.2.1 ?_
              refine z_bipush (v := 62) dX9_compareOf_31 (by decide) ?_
              refine z_icmp_ne dX9_compareOf_33 rfl (fun _ => ?_) (fun c => absurd c (tn 62 41 (by omega) (rt_sg (c := 62) (by decide)) k41))
              refine z_aload_n dX9_compareOf_41 rfl rfl ?_
              refine y_getI FX9_106 dX9_compareOf_42 (Or.inl rfl) hm.o ?_
              refine z_eqi (y := nI (rtk (TPs s) (TNs s) (tP (TPs s) (TNs s) i))) nt.2.2.1 ?_
              refine z_iconst (v := 5) dX9_compareOf_45 (by decide) ?_
              refine z_icmp_ne dX9_compareOf_46 rfl (fun _ => ?_) (fun c => absurd c (tn 5 39 (by omega) (rt_small.2.2.2) k39))
              refine z_aload_n dX9_compareOf_54 rfl rfl ?_
              refine y_getI FX9_106 dX9_compareOf_55 (Or.inl rfl) hm.o ?_
              refine z_eqi (y := nI (rtk (TPs s) (TNs s) (tP (TPs s) (TNs s) i))) nt.2.2.1 ?_
              refine z_bipush (v := 61) dX9_compareOf_58 (by decide) ?_
              refine z_icmp_ne dX9_compareOf_60 rfl (fun _ => ?_) (fun c => absurd c (tn 61 42 (by omega) (rt_sg (c := 61) (by decide)) k42))
              refine z_aload_n dX9_compareOf_68 rfl rfl ?_
              refine y_getI FX9_106 dX9_compareOf_69 (Or.inl rfl) hm.o ?_
              refine z_eqi (y := nI (rtk (TPs s) (TNs s) (tP (TPs s) (TNs s) i))) nt.2.2.1 ?_
              refine z_bipush (v := 35) dX9_compareOf_72 (by decide) ?_
              refine z_icmp_ne dX9_compareOf_74 rfl (fun c => absurd (ty 35 43 (rt_sg (c := 35) (by decide)) k43) c) (fun _ => ?_)
              refine z_bipush (v := 15) dX9_compareOf_77 (by decide) ?_
              refine z_goto dX9_compareOf_79 rfl ?_
              refine z_iret dX9_compareOf_83 ?_
              exact hQ
            · rw [if_neg k43] at hQ
              refine z_aload_n dX9_compareOf_0 rfl rfl ?_
              refine y_getI FX9_106 dX9_compareOf_1 (Or.inl rfl) hm.o ?_
              refine z_eqi (y := nI (rtk (TPs s) (TNs s) (tP (TPs s) (TNs s) i))) nt.2.2.1 ?_
              refine z_bipush (v := 60) dX9_compareOf_4 (by decide) ?_
              refine z_icmp_ne dX9_compareOf_6 rfl (fun _ => ?_) (fun c => absurd c (tn 60 40 (by omega) (rt_sg (c := 60) (by decide)) k40))
              refine z_aload_n dX9_compareOf_14 rfl rfl ?_
              refine y_getI FX9_106 dX9_compareOf_15 (Or.inl rfl) hm.o ?_
              refine z_eqi (y := nI (rtk (TPs s) (TNs s) (tP (TPs s) (TNs s) i))) nt.2.2.1 ?_
              refine z_iconst (v := 4) dX9_compareOf_18 (by decide) ?_
              refine z_icmp_ne dX9_compareOf_19 rfl (fun _ => ?_) (fun c => absurd c (tn 4 38 (by omega) (rt_small.2.2.1) k38))
              refine z_aload_n dX9_compareOf_27 rfl rfl ?_
              refine y_getI FX9_106 dX9_compareOf_28 (Or.inl rfl) hm.o ?_
              refine z_eqi (y := nI (rtk (TPs s) (TNs s) (tP (TPs s) (TNs s) i))) nt.2.2.1 ?_
              refine z_bipush (v := 62) dX9_compareOf_31 (by decide) ?_
              refine z_icmp_ne dX9_compareOf_33 rfl (fun _ => ?_) (fun c => absurd c (tn 62 41 (by omega) (rt_sg (c := 62) (by decide)) k41))
              refine z_aload_n dX9_compareOf_41 rfl rfl ?_
              refine y_getI FX9_106 dX9_compareOf_42 (Or.inl rfl) hm.o ?_
              refine z_eqi (y := nI (rtk (TPs s) (TNs s) (tP (TPs s) (TNs s) i))) nt.2.2.1 ?_
              refine z_iconst (v := 5) dX9_compareOf_45 (by decide) ?_
              refine z_icmp_ne dX9_compareOf_46 rfl (fun _ => ?_) (fun c => absurd c (tn 5 39 (by omega) (rt_small.2.2.2) k39))
              refine z_aload_n dX9_compareOf_54 rfl rfl ?_
              refine y_getI FX9_106 dX9_compareOf_55 (Or.inl rfl) hm.o ?_
              refine z_eqi (y := nI (rtk (TPs s) (TNs s) (tP (TPs s) (TNs s) i))) nt.2.2.1 ?_
              refine z_bipush (v := 61) dX9_compareOf_58 (by decide) ?_
              refine z_icmp_ne dX9_compareOf_60 rfl (fun _ => ?_) (fun c => absurd c (tn 61 42 (by omega) (rt_sg (c := 61) (by decide)) k42))
              refine z_aload_n dX9_compareOf_68 rfl rfl ?_
              refine y_getI FX9_106 dX9_compareOf_69 (Or.inl rfl) hm.o ?_
              refine z_eqi (y := nI (rtk (TPs s) (TNs s) (tP (TPs s) (TNs s) i))) nt.2.2.1 ?_
              refine z_bipush (v := 35) dX9_compareOf_72 (by decide) ?_
              refine z_icmp_ne dX9_compareOf_74 rfl (fun _ => ?_) (fun c => absurd c (tn 35 43 (by omega) (rt_sg (c := 35) (by decide)) k43))
              refine z_iconst (v := -1) dX9_compareOf_82 (by decide) ?_
              refine z_iret dX9_compareOf_83 ?_
              exact hQ

