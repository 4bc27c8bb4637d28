/-! the reference reads a sum: between, parts, the end of one (walks by program: wip/whole/gen9d.py) -/
theorem r_settleS {s : Ms} {t w0 so i op wh : Nat} {ro : List Nat} {c : Cd} {h : Hp} {d : Nat} {l : Nat} (rp : RP s t w0 so i ro op wh c h) (ht : t < 4) (hl : l ≤ 7) (h159 : ro.length ≤ 159) (hw : w0 + c.length + ro.length ≤ 304) (ho : nOp ro ≤ op) (h100 : op ≤ 100) (hd : 1 ≤ d) : ∃ h1, Sp d mX9_settle [.ref 488, .int (nI l)] h none h1 ∧ RP s t w0 so i (stl l ro op c).1 (stl l ro op c).2.1 wh (stl l ro op c).2.2 h1 ∧ FQ h h1 := by
  obtain ⟨h2, k1, k2, K⟩ := r_settle (h := h) (d := d) ht hl hd ro op c h rp FQ.rf h159 hw ho h100
  refine ⟨h2, ?_, k1, k2⟩
  intro N S Q hN hS hQ
  exact K N S Q (by rw [← k2.1.n]; exact hN) (by rw [← k2.1.s]; exact hS) hQ
def btw (k : Nat) (ro : List Nat) : Int32 := if k = 44 then 6 else if k = 45 then 7 else if k = 46 then 8 else if k = 47 then 9 else if ¬ opV ro = 42 then -1 else if ¬ cpd ro = true then cmo k else if k = 28 then 21 else if k = 27 then 22 else -1
def prt (k : Nat) (o : Int32) (ro : List Nat) : Int32 := if o = 40 then (if k = 49 then 0 else -1) else if o = 42 then (if k = 24 ∧ cpd ro = true then 43 else -1) else if o = 43 then (if k = 25 then 44 else -1) else if o = 44 then (if k = 26 then 0 else -1) else -1

theorem r_betweenOf {s : Ms} {t w0 so i op wh : Nat} {ro : List Nat} {c : Cd} {h : Hp} {d : Nat} (rp : RP s t w0 so i ro op wh c h) (ht : ITp s) (hl : ro.length ≤ 160) (hd : 2 ≤ d) : Sp d mX9_betweenOf [.ref 488] h (some (.int (btw (tK (TPs s) (TNs s) i) ro))) h := by
  obtain ⟨tf, hr, em, fr, nt, e12, e13, e14, e16, e17, e18, pil⟩ := id rp
  have hm := hr.m
  have n3 : TNs s ≤ 300 := ht.1
  have bb : ∀ k, k < TNs s → TPs s k < 256 := fun k hk => ht.2 k (by omega)
  have rl := rtk_lt (tp := (TPs s)) (n := (TNs s)) (p := (tP (TPs s) (TNs s) i)) (bb _)
  have ty : ∀ c k, (rtk (TPs s) (TNs s) (tP (TPs s) (TNs s) i) = c ↔ tK (TPs s) (TNs s) i = k) → tK (TPs s) (TNs s) i = k → nI (rtk (TPs s) (TNs s) (tP (TPs s) (TNs s) i)) = nI c := fun c k iff e => congrArg nI (iff.mpr e)
  have tn : ∀ c k, c < 256 → (rtk (TPs s) (TNs s) (tP (TPs s) (TNs s) i) = c ↔ tK (TPs s) (TNs s) i = k) → ¬ tK (TPs s) (TNs s) i = k → ¬ nI (rtk (TPs s) (TNs s) (tP (TPs s) (TNs s) i)) = nI c := fun c k hc iff ne q => ne (iff.mp ((nI_eq (by omega) (by omega)).mp q))
  have on := r_openNow (d := 1) rp hl (Nat.le_refl _)
  have ic := r_isCompared (d := 1) rp hl (Nat.le_refl _)
  have co := r_compareOf (d := 1) rp ht
  intro N S Q hN hS hQ
  unfold btw at hQ
  by_cases k44 : tK (TPs s) (TNs s) i = 44
  · rw [if_pos k44] at hQ
    refine z_aload_n dX9_betweenOf_0 rfl rfl ?_
    refine y_getI FX9_106 dX9_betweenOf_1 (Or.inl rfl) hm.o ?_
    refine z_eqi (y := nI (rtk (TPs s) (TNs s) (tP (TPs s) (TNs s) i))) nt.2.2.1 ?_
    refine z_bipush (v := 43) dX9_betweenOf_4 (by decide) ?_
    refine z_icmp_ne dX9_betweenOf_6 rfl (fun c => absurd (ty 43 44 (rt_sg (c := 43) (by decide)) k44) c) (fun _ => ?_)
    refine z_bipush (v := 6) dX9_betweenOf_9 (by decide) ?_
    refine z_iret dX9_betweenOf_11 ?_
    exact hQ
  · rw [if_neg k44] at hQ
    by_cases k45 : tK (TPs s) (TNs s) i = 45
    · rw [if_pos k45] at hQ
      refine z_aload_n dX9_betweenOf_0 rfl rfl ?_
      refine y_getI FX9_106 dX9_betweenOf_1 (Or.inl rfl) hm.o ?_
      refine z_eqi (y := nI (rtk (TPs s) (TNs s) (tP (TPs s) (TNs s) i))) nt.2.2.1 ?_
      refine z_bipush (v := 43) dX9_betweenOf_4 (by decide) ?_
      refine z_icmp_ne dX9_betweenOf_6 rfl (fun _ => ?_) (fun c => absurd c (tn 43 44 (by omega) (rt_sg (c := 43) (by decide)) k44))
      refine z_aload_n dX9_betweenOf_12 rfl rfl ?_
      refine y_getI FX9_106 dX9_betweenOf_13 (Or.inl rfl) hm.o ?_
      refine z_eqi (y := nI (rtk (TPs s) (TNs s) (tP (TPs s) (TNs s) i))) nt.2.2.1 ?_
      refine z_bipush (v := 45) dX9_betweenOf_16 (by decide) ?_
      refine z_icmp_ne dX9_betweenOf_18 rfl (fun c => absurd (ty 45 45 (rt_sg (c := 45) (by decide)) k45) c) (fun _ => ?_)
      refine z_bipush (v := 7) dX9_betweenOf_21 (by decide) ?_
      refine z_iret dX9_betweenOf_23 ?_
      exact hQ
    · rw [if_neg k45] at hQ
      by_cases k46 : tK (TPs s) (TNs s) i = 46
      · rw [if_pos k46] at hQ
        refine z_aload_n dX9_betweenOf_0 rfl rfl ?_
        refine y_getI FX9_106 dX9_betweenOf_1 (Or.inl rfl) hm.o ?_
        refine z_eqi (y := nI (rtk (TPs s) (TNs s) (tP (TPs s) (TNs s) i))) nt.2.2.1 ?_
        refine z_bipush (v := 43) dX9_betweenOf_4 (by decide) ?_
        refine z_icmp_ne dX9_betweenOf_6 rfl (fun _ => ?_) (fun c => absurd c (tn 43 44 (by omega) (rt_sg (c := 43) (by decide)) k44))
        refine z_aload_n dX9_betweenOf_12 rfl rfl ?_
        refine y_getI FX9_106 dX9_betweenOf_13 (Or.inl rfl) hm.o ?_
        refine z_eqi (y := nI (rtk (TPs s) (TNs s) (tP (TPs s) (TNs s) i))) nt.2.2.1 ?_
        refine z_bipush (v := 45) dX9_betweenOf_16 (by decide) ?_
        refine z_icmp_ne dX9_betweenOf_18 rfl (fun _ => ?_) (fun c => absurd c (tn 45 45 (by omega) (rt_sg (c := 45) (by decide)) k45))
        refine z_aload_n dX9_betweenOf_24 rfl rfl ?_
        refine y_getI FX9_106 dX9_betweenOf_25 (Or.inl rfl) hm.o ?_
        refine z_eqi (y := nI (rtk (TPs s) (TNs s) (tP (TPs s) (TNs s) i))) nt.2.2.1 ?_
        refine z_bipush (v := 42) dX9_betweenOf_28 (by decide) ?_
        refine z_icmp_ne dX9_betweenOf_30 rfl (fun c => absurd (ty 42 46 (rt_sg (c := 42) (by decide)) k46) c) (fun _ => ?_)
        refine z_bipush (v := 8) dX9_betweenOf_33 (by decide) ?_
        refine z_iret dX9_betweenOf_35 ?_
        exact hQ
      · rw [if_neg k46] at hQ
        by_cases k47 : tK (TPs s) (TNs s) i = 47
        · rw [if_pos k47] at hQ
          refine z_aload_n dX9_betweenOf_0 rfl rfl ?_
          refine y_getI FX9_106 dX9_betweenOf_1 (Or.inl rfl) hm.o ?_
          refine z_eqi (y := nI (rtk (TPs s) (TNs s) (tP (TPs s) (TNs s) i))) nt.2.2.1 ?_
          refine z_bipush (v := 43) dX9_betweenOf_4 (by decide) ?_
          refine z_icmp_ne dX9_betweenOf_6 rfl (fun _ => ?_) (fun c => absurd c (tn 43 44 (by omega) (rt_sg (c := 43) (by decide)) k44))
          refine z_aload_n dX9_betweenOf_12 rfl rfl ?_
          refine y_getI FX9_106 dX9_betweenOf_13 (Or.inl rfl) hm.o ?_
          refine z_eqi (y := nI (rtk (TPs s) (TNs s) (tP (TPs s) (TNs s) i))) nt.2.2.1 ?_
          refine z_bipush (v := 45) dX9_betweenOf_16 (by decide) ?_
          refine z_icmp_ne dX9_betweenOf_18 rfl (fun _ => ?_) (fun c => absurd c (tn 45 45 (by omega) (rt_sg (c := 45) (by decide)) k45))
          refine z_aload_n dX9_betweenOf_24 rfl rfl ?_
          refine y_getI FX9_106 dX9_betweenOf_25 (Or.inl rfl) hm.o ?_
          refine z_eqi (y := nI (rtk (TPs s) (TNs s) (tP (TPs s) (TNs s) i))) nt.2.2.1 ?_
          refine z_bipush (v := 42) dX9_betweenOf_28 (by decide) ?_
          refine z_icmp_ne dX9_betweenOf_30 rfl (fun _ => ?_) (fun c => absurd c (tn 42 46 (by omega) (rt_sg (c := 42) (by decide)) k46))
          refine z_aload_n dX9_betweenOf_36 rfl rfl ?_
          refine y_getI FX9_106 dX9_betweenOf_37 (Or.inl rfl) hm.o ?_
          refine z_eqi (y := nI (rtk (TPs s) (TNs s) (tP (TPs s) (TNs s) i))) nt.2.2.1 ?_
          refine z_bipush (v := 47) dX9_betweenOf_40 (by decide) ?_
          refine z_icmp_ne dX9_betweenOf_42 rfl (fun c => absurd (ty 47 47 (rt_sg (c := 47) (by decide)) k47) c) (fun _ => ?_)
          refine z_bipush (v := 9) dX9_betweenOf_45 (by decide) ?_
          refine z_iret dX9_betweenOf_47 ?_
          exact hQ
        · rw [if_neg k47] at hQ
          by_cases o42 : opV ro = 42
          · rw [if_neg (fun q => q o42)] at hQ
            by_cases hc : cpd ro = true
            · rw [if_neg (fun q => q hc)] at hQ
              by_cases k28 : tK (TPs s) (TNs s) i = 28
              · rw [if_pos k28] at hQ
                refine z_aload_n dX9_betweenOf_0 rfl rfl ?_
                refine y_getI FX9_106 dX9_betweenOf_1 (Or.inl rfl) hm.o ?_
                refine z_eqi (y := nI (rtk (TPs s) (TNs s) (tP (TPs s) (TNs s) i))) nt.2.2.1 ?_
                refine z_bipush (v := 43) dX9_betweenOf_4 (by decide) ?_
                refine z_icmp_ne dX9_betweenOf_6 rfl (fun _ => ?_) (fun c => absurd c (tn 43 44 (by omega) (rt_sg (c := 43) (by decide)) k44))
                refine z_aload_n dX9_betweenOf_12 rfl rfl ?_
                refine y_getI FX9_106 dX9_betweenOf_13 (Or.inl rfl) hm.o ?_
                refine z_eqi (y := nI (rtk (TPs s) (TNs s) (tP (TPs s) (TNs s) i))) nt.2.2.1 ?_
                refine z_bipush (v := 45) dX9_betweenOf_16 (by decide) ?_
                refine z_icmp_ne dX9_betweenOf_18 rfl (fun _ => ?_) (fun c => absurd c (tn 45 45 (by omega) (rt_sg (c := 45) (by decide)) k45))
                refine z_aload_n dX9_betweenOf_24 rfl rfl ?_
                refine y_getI FX9_106 dX9_betweenOf_25 (Or.inl rfl) hm.o ?_
                refine z_eqi (y := nI (rtk (TPs s) (TNs s) (tP (TPs s) (TNs s) i))) nt.2.2.1 ?_
                refine z_bipush (v := 42) dX9_betweenOf_28 (by decide) ?_
                refine z_icmp_ne dX9_betweenOf_30 rfl (fun _ => ?_) (fun c => absurd c (tn 42 46 (by omega) (rt_sg (c := 42) (by decide)) k46))
                refine z_aload_n dX9_betweenOf_36 rfl rfl ?_
                refine y_getI FX9_106 dX9_betweenOf_37 (Or.inl rfl) hm.o ?_
                refine z_eqi (y := nI (rtk (TPs s) (TNs s) (tP (TPs s) (TNs s) i))) nt.2.2.1 ?_
                refine z_bipush (v := 47) dX9_betweenOf_40 (by decide) ?_
                refine z_icmp_ne dX9_betweenOf_42 rfl (fun _ => ?_) (fun c => absurd c (tn 47 47 (by omega) (rt_sg (c := 47) (by decide)) k47))
                refine z_aload_n dX9_betweenOf_48 rfl rfl ?_
                refine y_callV (as := []) CX9_openNow LX9_170 IX9_openNow VX9_openNow ⟨rfl, Nat.le_of_ble_eq_true rfl⟩ dX9_betweenOf_49 hm.o rfl (Nat.le_of_ble_eq_true rfl) (Nat.le_of_ble_eq_true rfl) (by omega) on rok_i ⟨Nat.le_refl _, Nat.le_refl _, hN, hS⟩ ?_
                refine z_bipush (v := 42) dX9_betweenOf_52 (by decide) ?_
                refine z_icmp_eq dX9_betweenOf_54 rfl (fun _ => ?_) (fun c => absurd (o42) c)
                refine z_aload_n dX9_betweenOf_59 rfl rfl ?_
                refine y_callV (as := []) CX9_isCompared LX9_206 IX9_isCompared VX9_isCompared ⟨rfl, Nat.le_of_ble_eq_true rfl⟩ dX9_betweenOf_60 hm.o rfl (Nat.le_of_ble_eq_true rfl) (Nat.le_of_ble_eq_true rfl) (by omega) ic (rok_z bI_01) ⟨Nat.le_refl _, Nat.le_refl _, hN, hS⟩ ?_
                refine z_if_ne dX9_betweenOf_63 rfl (fun _ => ?_) (fun c => absurd c (bI_ne0.mpr hc))
                refine z_aload_n dX9_betweenOf_71 rfl rfl ?_
                refine z_bipush (v := 97) dX9_betweenOf_72 (by decide) ?_
                refine z_bipush (v := 110) dX9_betweenOf_74 (by decide) ?_
                refine z_bipush (v := 100) dX9_betweenOf_76 (by decide) ?_
                refine y_callS (as := [_, _, _]) CX9_w3 LX9_132 SX9_w3 dX9_betweenOf_78 rfl (Nat.le_of_ble_eq_true rfl) (Nat.le_of_ble_eq_true rfl) (by omega) (r_w3 (d := 1) (a0 := 97) (a1 := 110) (a2 := 100) (by omega) (by omega) (by omega) (Nat.le_refl _)) rok_l ⟨Nat.le_refl _, Nat.le_refl _, hN, hS⟩ ?_
                refine z_eql (show _ = lN 6385252 from rfl) ?_
                refine y_callV (as := [_]) CX9_isWord LX9_192 IX9_isWord VX9_isWord ⟨rfl, Nat.le_of_ble_eq_true rfl⟩ dX9_betweenOf_81 hm.o rfl (Nat.le_of_ble_eq_true rfl) (Nat.le_of_ble_eq_true rfl) (by omega) (r_isWord (d := 0) (k := 28) (by exact (by exact hm)) ht nt tP_le (by omega) (wd_28 (bb _))) (rok_z bI_01) ⟨Nat.le_refl _, Nat.le_refl _, hN, hS⟩ ?_
                refine z_if_eq dX9_betweenOf_84 rfl (fun c => absurd c (bI_ne0.mpr k28)) (fun _ => ?_)
                refine z_bipush (v := 21) dX9_betweenOf_87 (by decide) ?_
                refine z_goto dX9_betweenOf_89 rfl ?_
                refine z_iret dX9_betweenOf_112 ?_
                exact hQ
              · rw [if_neg k28] at hQ
                by_cases k27 : tK (TPs s) (TNs s) i = 27
                · rw [if_pos k27] at hQ
                  refine z_aload_n dX9_betweenOf_0 rfl rfl ?_
                  refine y_getI FX9_106 dX9_betweenOf_1 (Or.inl rfl) hm.o ?_
                  refine z_eqi (y := nI (rtk (TPs s) (TNs s) (tP (TPs s) (TNs s) i))) nt.2.2.1 ?_
                  refine z_bipush (v := 43) dX9_betweenOf_4 (by decide) ?_
                  refine z_icmp_ne dX9_betweenOf_6 rfl (fun _ => ?_) (fun c => absurd c (tn 43 44 (by omega) (rt_sg (c := 43) (by decide)) k44))
                  refine z_aload_n dX9_betweenOf_12 rfl rfl ?_
                  refine y_getI FX9_106 dX9_betweenOf_13 (Or.inl rfl) hm.o ?_
                  refine z_eqi (y := nI (rtk (TPs s) (TNs s) (tP (TPs s) (TNs s) i))) nt.2.2.1 ?_
                  refine z_bipush (v := 45) dX9_betweenOf_16 (by decide) ?_
                  refine z_icmp_ne dX9_betweenOf_18 rfl (fun _ => ?_) (fun c => absurd c (tn 45 45 (by omega) (rt_sg (c := 45) (by decide)) k45))
                  refine z_aload_n dX9_betweenOf_24 rfl rfl ?_
                  refine y_getI FX9_106 dX9_betweenOf_25 (Or.inl rfl) hm.o ?_
                  refine z_eqi (y := nI (rtk (TPs s) (TNs s) (tP (TPs s) (TNs s) i))) nt.2.2.1 ?_
                  refine z_bipush (v := 42) dX9_betweenOf_28 (by decide) ?_
                  refine z_icmp_ne dX9_betweenOf_30 rfl (fun _ => ?_) (fun c => absurd c (tn 42 46 (by omega) (rt_sg (c := 42) (by decide)) k46))
                  refine z_aload_n dX9_betweenOf_36 rfl rfl ?_
                  refine y_getI FX9_106 dX9_betweenOf_37 (Or.inl rfl) hm.o ?_
                  refine z_eqi (y := nI (rtk (TPs s) (TNs s) (tP (TPs s) (TNs s) i))) nt.2.2.1 ?_
                  refine z_bipush (v := 47) dX9_betweenOf_40 (by decide) ?_
                  refine z_icmp_ne dX9_betweenOf_42 rfl (fun _ => ?_) (fun c => absurd c (tn 47 47 (by omega) (rt_sg (c := 47) (by decide)) k47))
                  refine z_aload_n dX9_betweenOf_48 rfl rfl ?_
                  refine y_callV (as := []) CX9_openNow LX9_170 IX9_openNow VX9_openNow ⟨rfl, Nat.le_of_ble_eq_true rfl⟩ dX9_betweenOf_49 hm.o rfl (Nat.le_of_ble_eq_true rfl) (Nat.le_of_ble_eq_true rfl) (by omega) on rok_i ⟨Nat.le_refl _, Nat.le_refl _, hN, hS⟩ ?_
                  refine z_bipush (v := 42) dX9_betweenOf_52 (by decide) ?_
                  refine z_icmp_eq dX9_betweenOf_54 rfl (fun _ => ?_) (fun c => absurd (o42) c)
                  refine z_aload_n dX9_betweenOf_59 rfl rfl ?_
                  refine y_callV (as := []) CX9_isCompared LX9_206 IX9_isCompared VX9_isCompared ⟨rfl, Nat.le_of_ble_eq_true rfl⟩ dX9_betweenOf_60 hm.o rfl (Nat.le_of_ble_eq_true rfl) (Nat.le_of_ble_eq_true rfl) (by omega) ic (rok_z bI_01) ⟨Nat.le_refl _, Nat.le_refl _, hN, hS⟩ ?_
                  refine z_if_ne dX9_betweenOf_63 rfl (fun _ => ?_) (fun c => absurd c (bI_ne0.mpr hc))
                  refine z_aload_n dX9_betweenOf_71 rfl rfl ?_
                  refine z_bipush (v := 97) dX9_betweenOf_72 (by decide) ?_
                  refine z_bipush (v := 110) dX9_betweenOf_74 (by decide) ?_
                  refine z_bipush (v := 100) dX9_betweenOf_76 (by decide) ?_
                  refine y_callS (as := [_, _, _]) CX9_w3 LX9_132 SX9_w3 dX9_betweenOf_78 rfl (Nat.le_of_ble_eq_true rfl) (Nat.le_of_ble_eq_true rfl) (by omega) (r_w3 (d := 1) (a0 := 97) (a1 := 110) (a2 := 100) (by omega) (by omega) (by omega) (Nat.le_refl _)) rok_l ⟨Nat.le_refl _, Nat.le_refl _, hN, hS⟩ ?_
                  refine z_eql (show _ = lN 6385252 from rfl) ?_
                  refine y_callV (as := [_]) CX9_isWord LX9_192 IX9_isWord VX9_isWord ⟨rfl, Nat.le_of_ble_eq_true rfl⟩ dX9_betweenOf_81 hm.o rfl (Nat.le_of_ble_eq_true rfl) (Nat.le_of_ble_eq_true rfl) (by omega) (r_isWord (d := 0) (k := 28) (by exact (by exact hm)) ht nt tP_le (by omega) (wd_28 (bb _))) (rok_z bI_01) ⟨Nat.le_refl _, Nat.le_refl _, hN, hS⟩ ?_
                  refine z_if_eq dX9_betweenOf_84 rfl (fun _ => ?_) (fun c => absurd (bI_eq0.mpr k28) c)
                  refine z_aload_n dX9_betweenOf_92 rfl rfl ?_
                  refine z_bipush (v := 111) dX9_betweenOf_93 (by decide) ?_
                  refine z_bipush (v := 114) dX9_betweenOf_95 (by decide) ?_
                  refine y_callS (as := [_, _]) CX9_w2 LX9_128 SX9_w2 dX9_betweenOf_97 rfl (Nat.le_of_ble_eq_true rfl) (Nat.le_of_ble_eq_true rfl) (by omega) (r_w2 (d := 0) (a0 := 111) (a1 := 114) (by omega) (by omega) (Nat.le_refl _)) rok_l ⟨Nat.le_refl _, Nat.le_refl _, hN, hS⟩ ?_
                  refine z_eql (show _ = lN 28530 from rfl) ?_
                  refine y_callV (as := [_]) CX9_isWord LX9_192 IX9_isWord VX9_isWord ⟨rfl, Nat.le_of_ble_eq_true rfl⟩ dX9_betweenOf_100 hm.o rfl (Nat.le_of_ble_eq_true rfl) (Nat.le_of_ble_eq_true rfl) (by omega) (r_isWord (d := 0) (k := 27) (by exact (by exact hm)) ht nt tP_le (by omega) (wd_27 (bb _))) (rok_z bI_01) ⟨Nat.le_refl _, Nat.le_refl _, hN, hS⟩ ?_
                  refine z_if_eq dX9_betweenOf_103 rfl (fun c => absurd c (bI_ne0.mpr k27)) (fun _ => ?_)
                  refine z_bipush (v := 22) dX9_betweenOf_106 (by decide) ?_
                  refine z_goto dX9_betweenOf_108 rfl ?_
                  refine z_iret dX9_betweenOf_112 ?_
                  exact hQ
                · rw [if_neg k27] at hQ
                  refine z_aload_n dX9_betweenOf_0 rfl rfl ?_
                  refine y_getI FX9_106 dX9_betweenOf_1 (Or.inl rfl) hm.o ?_
                  refine z_eqi (y := nI (rtk (TPs s) (TNs s) (tP (TPs s) (TNs s) i))) nt.2.2.1 ?_
                  refine z_bipush (v := 43) dX9_betweenOf_4 (by decide) ?_
                  refine z_icmp_ne dX9_betweenOf_6 rfl (fun _ => ?_) (fun c => absurd c (tn 43 44 (by omega) (rt_sg (c := 43) (by decide)) k44))
                  refine z_aload_n dX9_betweenOf_12 rfl rfl ?_
                  refine y_getI FX9_106 dX9_betweenOf_13 (Or.inl rfl) hm.o ?_
                  refine z_eqi (y := nI (rtk (TPs s) (TNs s) (tP (TPs s) (TNs s) i))) nt.2.2.1 ?_
                  refine z_bipush (v := 45) dX9_betweenOf_16 (by decide) ?_
                  refine z_icmp_ne dX9_betweenOf_18 rfl (fun _ => ?_) (fun c => absurd c (tn 45 45 (by omega) (rt_sg (c := 45) (by decide)) k45))
                  refine z_aload_n dX9_betweenOf_24 rfl rfl ?_
                  refine y_getI FX9_106 dX9_betweenOf_25 (Or.inl rfl) hm.o ?_
                  refine z_eqi (y := nI (rtk (TPs s) (TNs s) (tP (TPs s) (TNs s) i))) nt.2.2.1 ?_
                  refine z_bipush (v := 42) dX9_betweenOf_28 (by decide) ?_
                  refine z_icmp_ne dX9_betweenOf_30 rfl (fun _ => ?_) (fun c => absurd c (tn 42 46 (by omega) (rt_sg (c := 42) (by decide)) k46))
                  refine z_aload_n dX9_betweenOf_36 rfl rfl ?_
                  refine y_getI FX9_106 dX9_betweenOf_37 (Or.inl rfl) hm.o ?_
                  refine z_eqi (y := nI (rtk (TPs s) (TNs s) (tP (TPs s) (TNs s) i))) nt.2.2.1 ?_
                  refine z_bipush (v := 47) dX9_betweenOf_40 (by decide) ?_
                  refine z_icmp_ne dX9_betweenOf_42 rfl (fun _ => ?_) (fun c => absurd c (tn 47 47 (by omega) (rt_sg (c := 47) (by decide)) k47))
                  refine z_aload_n dX9_betweenOf_48 rfl rfl ?_
                  refine y_callV (as := []) CX9_openNow LX9_170 IX9_openNow VX9_openNow ⟨rfl, Nat.le_of_ble_eq_true rfl⟩ dX9_betweenOf_49 hm.o rfl (Nat.le_of_ble_eq_true rfl) (Nat.le_of_ble_eq_true rfl) (by omega) on rok_i ⟨Nat.le_refl _, Nat.le_refl _, hN, hS⟩ ?_
                  refine z_bipush (v := 42) dX9_betweenOf_52 (by decide) ?_
                  refine z_icmp_eq dX9_betweenOf_54 rfl (fun _ => ?_) (fun c => absurd (o42) c)
                  refine z_aload_n dX9_betweenOf_59 rfl rfl ?_
                  refine y_callV (as := []) CX9_isCompared LX9_206 IX9_isCompared VX9_isCompared ⟨rfl, Nat.le_of_ble_eq_true rfl⟩ dX9_betweenOf_60 hm.o rfl (Nat.le_of_ble_eq_true rfl) (Nat.le_of_ble_eq_true rfl) (by omega) ic (rok_z bI_01) ⟨Nat.le_refl _, Nat.le_refl _, hN, hS⟩ ?_
                  refine z_if_ne dX9_betweenOf_63 rfl (fun _ => ?_) (fun c => absurd c (bI_ne0.mpr hc))
                  refine z_aload_n dX9_betweenOf_71 rfl rfl ?_
                  refine z_bipush (v := 97) dX9_betweenOf_72 (by decide) ?_
                  refine z_bipush (v := 110) dX9_betweenOf_74 (by decide) ?_
                  refine z_bipush (v := 100) dX9_betweenOf_76 (by decide) ?_
                  refine y_callS (as := [_, _, _]) CX9_w3 LX9_132 SX9_w3 dX9_betweenOf_78 rfl (Nat.le_of_ble_eq_true rfl) (Nat.le_of_ble_eq_true rfl) (by omega) (r_w3 (d := 1) (a0 := 97) (a1 := 110) (a2 := 100) (by omega) (by omega) (by omega) (Nat.le_refl _)) rok_l ⟨Nat.le_refl _, Nat.le_refl _, hN, hS⟩ ?_
                  refine z_eql (show _ = lN 6385252 from rfl) ?_
                  refine y_callV (as := [_]) CX9_isWord LX9_192 IX9_isWord VX9_isWord ⟨rfl, Nat.le_of_ble_eq_true rfl⟩ dX9_betweenOf_81 hm.o rfl (Nat.le_of_ble_eq_true rfl) (Nat.le_of_ble_eq_true rfl) (by omega) (r_isWord (d := 0) (k := 28) (by exact (by exact hm)) ht nt tP_le (by omega) (wd_28 (bb _))) (rok_z bI_01) ⟨Nat.le_refl _, Nat.le_refl _, hN, hS⟩ ?_
                  refine z_if_eq dX9_betweenOf_84 rfl (fun _ => ?_) (fun c => absurd (bI_eq0.mpr k28) c)
                  refine z_aload_n dX9_betweenOf_92 rfl rfl ?_
                  refine z_bipush (v := 111) dX9_betweenOf_93 (by decide) ?_
                  refine z_bipush (v := 114) dX9_betweenOf_95 (by decide) ?_
                  refine y_callS (as := [_, _]) CX9_w2 LX9_128 SX9_w2 dX9_betweenOf_97 rfl (Nat.le_of_ble_eq_true rfl) (Nat.le_of_ble_eq_true rfl) (by omega) (r_w2 (d := 0) (a0 := 111) (a1 := 114) (by omega) (by omega) (Nat.le_refl _)) rok_l ⟨Nat.le_refl _, Nat.le_refl _, hN, hS⟩ ?_
                  refine z_eql (show _ = lN 28530 from rfl) ?_
                  refine y_callV (as := [_]) CX9_isWord LX9_192 IX9_isWord VX9_isWord ⟨rfl, Nat.le_of_ble_eq_true rfl⟩ dX9_betweenOf_100 hm.o rfl (Nat.le_of_ble_eq_true rfl) (Nat.le_of_ble_eq_true rfl) (by omega) (r_isWord (d := 0) (k := 27) (by exact (by exact hm)) ht nt tP_le (by omega) (wd_27 (bb _))) (rok_z bI_01) ⟨Nat.le_refl _, Nat.le_refl _, hN, hS⟩ ?_
                  refine z_if_eq dX9_betweenOf_103 rfl (fun _ => ?_) (fun c => absurd (bI_eq0.mpr k27) c)
                  refine z_iconst (v := -1) dX9_betweenOf_111 (by decide) ?_
                  refine z_iret dX9_betweenOf_112 ?_
                  exact hQ
            · rw [if_pos hc] at hQ
              refine z_aload_n dX9_betweenOf_0 rfl rfl ?_
              refine y_getI FX9_106 dX9_betweenOf_1 (Or.inl rfl) hm.o ?_
              refine z_eqi (y := nI (rtk (TPs s) (TNs s) (tP (TPs s) (TNs s) i))) nt.2.2.1 ?_
              refine z_bipush (v := 43) dX9_betweenOf_4 (by decide) ?_
              refine z_icmp_ne dX9_betweenOf_6 rfl (fun _ => ?_) (fun c => absurd c (tn 43 44 (by omega) (rt_sg (c := 43) (by decide)) k44))
              refine z_aload_n dX9_betweenOf_12 rfl rfl ?_
              refine y_getI FX9_106 dX9_betweenOf_13 (Or.inl rfl) hm.o ?_
              refine z_eqi (y := nI (rtk (TPs s) (TNs s) (tP (TPs s) (TNs s) i))) nt.2.2.1 ?_
              refine z_bipush (v := 45) dX9_betweenOf_16 (by decide) ?_
              refine z_icmp_ne dX9_betweenOf_18 rfl (fun _ => ?_) (fun c => absurd c (tn 45 45 (by omega) (rt_sg (c := 45) (by decide)) k45))
              refine z_aload_n dX9_betweenOf_24 rfl rfl ?_
              refine y_getI FX9_106 dX9_betweenOf_25 (Or.inl rfl) hm.o ?_
              refine z_eqi (y := nI (rtk (TPs s) (TNs s) (tP (TPs s) (TNs s) i))) nt.2.2.1 ?_
              refine z_bipush (v := 42) dX9_betweenOf_28 (by decide) ?_
              refine z_icmp_ne dX9_betweenOf_30 rfl (fun _ => ?_) (fun c => absurd c (tn 42 46 (by omega) (rt_sg (c := 42) (by decide)) k46))
              refine z_aload_n dX9_betweenOf_36 rfl rfl ?_
              refine y_getI FX9_106 dX9_betweenOf_37 (Or.inl rfl) hm.o ?_
              refine z_eqi (y := nI (rtk (TPs s) (TNs s) (tP (TPs s) (TNs s) i))) nt.2.2.1 ?_
              refine z_bipush (v := 47) dX9_betweenOf_40 (by decide) ?_
              refine z_icmp_ne dX9_betweenOf_42 rfl (fun _ => ?_) (fun c => absurd c (tn 47 47 (by omega) (rt_sg (c := 47) (by decide)) k47))
              refine z_aload_n dX9_betweenOf_48 rfl rfl ?_
              refine y_callV (as := []) CX9_openNow LX9_170 IX9_openNow VX9_openNow ⟨rfl, Nat.le_of_ble_eq_true rfl⟩ dX9_betweenOf_49 hm.o rfl (Nat.le_of_ble_eq_true rfl) (Nat.le_of_ble_eq_true rfl) (by omega) on rok_i ⟨Nat.le_refl _, Nat.le_refl _, hN, hS⟩ ?_
              refine z_bipush (v := 42) dX9_betweenOf_52 (by decide) ?_
              refine z_icmp_eq dX9_betweenOf_54 rfl (fun _ => ?_) (fun c => absurd (o42) c)
              refine z_aload_n dX9_betweenOf_59 rfl rfl ?_
              refine y_callV (as := []) CX9_isCompared LX9_206 IX9_isCompared VX9_isCompared ⟨rfl, Nat.le_of_ble_eq_true rfl⟩ dX9_betweenOf_60 hm.o rfl (Nat.le_of_ble_eq_true rfl) (Nat.le_of_ble_eq_true rfl) (by omega) ic (rok_z bI_01) ⟨Nat.le_refl _, Nat.le_refl _, hN, hS⟩ ?_
              refine z_if_ne dX9_betweenOf_63 rfl (fun c => absurd (bI_eq0.mpr hc) c) (fun _ => ?_)
              refine z_aload_n dX9_betweenOf_66 rfl rfl ?_
              refine y_callV (as := []) CX9_compareOf LX9_209 IX9_compareOf VX9_compareOf ⟨rfl, Nat.le_of_ble_eq_true rfl⟩ dX9_betweenOf_67 hm.o rfl (Nat.le_of_ble_eq_true rfl) (Nat.le_of_ble_eq_true rfl) (by omega) co rok_i ⟨Nat.le_refl _, Nat.le_refl _, hN, hS⟩ ?_
              refine z_iret dX9_betweenOf_70 ?_
              exact hQ
          · rw [if_pos o42] at hQ
            refine z_aload_n dX9_betweenOf_0 rfl rfl ?_
            refine y_getI FX9_106 dX9_betweenOf_1 (Or.inl rfl) hm.o ?_
            refine z_eqi (y := nI (rtk (TPs s) (TNs s) (tP (TPs s) (TNs s) i))) nt.2.2.1 ?_
            refine z_bipush (v := 43) dX9_betweenOf_4 (by decide) ?_
            refine z_icmp_ne dX9_betweenOf_6 rfl (fun _ => ?_) (fun c => absurd c (tn 43 44 (by omega) (rt_sg (c := 43) (by decide)) k44))
            refine z_aload_n dX9_betweenOf_12 rfl rfl ?_
            refine y_getI FX9_106 dX9_betweenOf_13 (Or.inl rfl) hm.o ?_
            refine z_eqi (y := nI (rtk (TPs s) (TNs s) (tP (TPs s) (TNs s) i))) nt.2.2.1 ?_
            refine z_bipush (v := 45) dX9_betweenOf_16 (by decide) ?_
            refine z_icmp_ne dX9_betweenOf_18 rfl (fun _ => ?_) (fun c => absurd c (tn 45 45 (by omega) (rt_sg (c := 45) (by decide)) k45))
            refine z_aload_n dX9_betweenOf_24 rfl rfl ?_
            refine y_getI FX9_106 dX9_betweenOf_25 (Or.inl rfl) hm.o ?_
            refine z_eqi (y := nI (rtk (TPs s) (TNs s) (tP (TPs s) (TNs s) i))) nt.2.2.1 ?_
            refine z_bipush (v := 42) dX9_betweenOf_28 (by decide) ?_
            refine z_icmp_ne dX9_betweenOf_30 rfl (fun _ => ?_) (fun c => absurd c (tn 42 46 (by omega) (rt_sg (c := 42) (by decide)) k46))
            refine z_aload_n dX9_betweenOf_36 rfl rfl ?_
            refine y_getI FX9_106 dX9_betweenOf_37 (Or.inl rfl) hm.o ?_
            refine z_eqi (y := nI (rtk (TPs s) (TNs s) (tP (TPs s) (TNs s) i))) nt.2.2.1 ?_
            refine z_bipush (v := 47) dX9_betweenOf_40 (by decide) ?_
            refine z_icmp_ne dX9_betweenOf_42 rfl (fun _ => ?_) (fun c => absurd c (tn 47 47 (by omega) (rt_sg (c := 47) (by decide)) k47))
            refine z_aload_n dX9_betweenOf_48 rfl rfl ?_
            refine y_callV (as := []) CX9_openNow LX9_170 IX9_openNow VX9_openNow ⟨rfl, Nat.le_of_ble_eq_true rfl⟩ dX9_betweenOf_49 hm.o rfl (Nat.le_of_ble_eq_true rfl) (Nat.le_of_ble_eq_true rfl) (by omega) on rok_i ⟨Nat.le_refl _, Nat.le_refl _, hN, hS⟩ ?_
            refine z_bipush (v := 42) dX9_betweenOf_52 (by decide) ?_
            refine z_icmp_eq dX9_betweenOf_54 rfl (fun c => absurd c (o42)) (fun _ => ?_)
            refine z_iconst (v := -1) dX9_betweenOf_57 (by decide) ?_
            refine z_iret dX9_betweenOf_58 ?_
            exact hQ

theorem r_partOf {s : Ms} {t w0 so i op wh : Nat} {ro : List Nat} {c : Cd} {h : Hp} {d : Nat} (rp : RP s t w0 so i ro op wh c h) (ht : ITp s) (hl : ro.length ≤ 160) {o : Int32} (ho : o = 40 ∨ o = 41 ∨ o = 42 ∨ o = 43 ∨ o = 44 ∨ o = -1) (hd : 3 ≤ d) : Sp d mX9_partOf [.ref 488, .int o] h (some (.int (prt (tK (TPs s) (TNs s) i) o ro))) h := by
  obtain ⟨tf, hr, em, fr, nt, e12, e13, e14, e16, e17, e18, pil⟩ := id rp
  have hm := hr.m
  have n3 : TNs s ≤ 300 := ht.1
  have bb : ∀ k, k < TNs s → TPs s k < 256 := fun k hk => ht.2 k (by omega)
  have rl := rtk_lt (tp := (TPs s)) (n := (TNs s)) (p := (tP (TPs s) (TNs s) i)) (bb _)
  have ty : ∀ c k, (rtk (TPs s) (TNs s) (tP (TPs s) (TNs s) i) = c ↔ tK (TPs s) (TNs s) i = k) → tK (TPs s) (TNs s) i = k → nI (rtk (TPs s) (TNs s) (tP (TPs s) (TNs s) i)) = nI c := fun c k iff e => congrArg nI (iff.mpr e)
  have tn : ∀ c k, c < 256 → (rtk (TPs s) (TNs s) (tP (TPs s) (TNs s) i) = c ↔ tK (TPs s) (TNs s) i = k) → ¬ tK (TPs s) (TNs s) i = k → ¬ nI (rtk (TPs s) (TNs s) (tP (TPs s) (TNs s) i)) = nI c := fun c k hc iff ne q => ne (iff.mp ((nI_eq (by omega) (by omega)).mp q))
  have ic := r_isCompared (d := 1) rp hl (Nat.le_refl _)
  intro N S Q hN hS hQ
  rcases ho with rfl | rfl | rfl | rfl | rfl | rfl
  · rw [show prt (tK (TPs s) (TNs s) i) 40 ro = if tK (TPs s) (TNs s) i = 49 then 0 else -1 from rfl] at hQ
    by_cases k : tK (TPs s) (TNs s) i = 49
    · rw [if_pos k] at hQ
      refine z_iload_n dX9_partOf_0 rfl rfl ?_
      refine z_tableIn (off := 35) (tgt := 36) dX9_partOf_1 (by decide) (by decide) rfl rfl ?_
      refine z_aload_n dX9_partOf_36 rfl rfl ?_
      refine y_getI FX9_106 dX9_partOf_37 (Or.inl rfl) hm.o ?_
      refine z_eqi (y := nI (rtk (TPs s) (TNs s) (tP (TPs s) (TNs s) i))) nt.2.2.1 ?_
      refine z_bipush (v := 41) dX9_partOf_40 (by decide) ?_
      refine z_icmp_ne dX9_partOf_42 rfl (fun c => absurd (ty 41 49 (rt_sg (c := 41) (by decide)) k) c) (fun _ => ?_)
      refine z_iconst (v := 0) dX9_partOf_45 (by decide) ?_
      refine z_goto dX9_partOf_46 rfl ?_
      refine z_iret dX9_partOf_50 ?_
      exact hQ
    · rw [if_neg k] at hQ
      refine z_iload_n dX9_partOf_0 rfl rfl ?_
      refine z_tableIn (off := 35) (tgt := 36) dX9_partOf_1 (by decide) (by decide) rfl rfl ?_
      refine z_aload_n dX9_partOf_36 rfl rfl ?_
      refine y_getI FX9_106 dX9_partOf_37 (Or.inl rfl) hm.o ?_
      refine z_eqi (y := nI (rtk (TPs s) (TNs s) (tP (TPs s) (TNs s) i))) nt.2.2.1 ?_
      refine z_bipush (v := 41) dX9_partOf_40 (by decide) ?_
      refine z_icmp_ne dX9_partOf_42 rfl (fun _ => ?_) (fun c => absurd c (tn 41 49 (by omega) (rt_sg (c := 41) (by decide)) k))
      refine z_iconst (v := -1) dX9_partOf_49 (by decide) ?_
      refine z_iret dX9_partOf_50 ?_
      exact hQ
  · have hQ : Q (some (.int (-1))) h := hQ
    refine z_iload_n dX9_partOf_0 rfl rfl ?_
    refine z_tableIn (off := 129) (tgt := 130) dX9_partOf_1 (by decide) (by decide) rfl rfl ?_
    refine z_iconst (v := -1) dX9_partOf_130 (by decide) ?_
    refine z_iret dX9_partOf_131 ?_
    exact hQ
  · rw [show prt (tK (TPs s) (TNs s) i) 42 ro = if tK (TPs s) (TNs s) i = 24 ∧ cpd ro = true then 43 else -1 from rfl] at hQ
    by_cases k : tK (TPs s) (TNs s) i = 24
    · by_cases hc : cpd ro = true
      · rw [if_pos ⟨k, hc⟩] at hQ
        refine z_iload_n dX9_partOf_0 rfl rfl ?_
        refine z_tableIn (off := 50) (tgt := 51) dX9_partOf_1 (by decide) (by decide) rfl rfl ?_
        refine z_aload_n dX9_partOf_51 rfl rfl ?_
        refine z_bipush (v := 116) dX9_partOf_52 (by decide) ?_
        refine z_bipush (v := 104) dX9_partOf_54 (by decide) ?_
        refine z_bipush (v := 101) dX9_partOf_56 (by decide) ?_
        refine z_bipush (v := 110) dX9_partOf_58 (by decide) ?_
        refine y_callS (as := [_, _, _, _]) CX9_w4 LX9_136 SX9_w4 dX9_partOf_60 rfl (Nat.le_of_ble_eq_true rfl) (Nat.le_of_ble_eq_true rfl) (by omega) (r_w4 (d := 2) (a0 := 116) (a1 := 104) (a2 := 101) (a3 := 110) (by omega) (by omega) (by omega) (by omega) (Nat.le_refl _)) rok_l ⟨Nat.le_refl _, Nat.le_refl _, hN, hS⟩ ?_
        refine z_eql (show _ = lN 1952998766 from rfl) ?_
        refine y_callV (as := [_]) CX9_isWord LX9_192 IX9_isWord VX9_isWord ⟨rfl, Nat.le_of_ble_eq_true rfl⟩ dX9_partOf_63 hm.o rfl (Nat.le_of_ble_eq_true rfl) (Nat.le_of_ble_eq_true rfl) (by omega) (r_isWord (d := 0) (k := 24) (by exact (by exact hm)) ht nt tP_le (by omega) (wd_24 (bb _))) (rok_z bI_01) ⟨Nat.le_refl _, Nat.le_refl _, hN, hS⟩ ?_
        refine z_if_eq dX9_partOf_66 rfl (fun c => absurd c (bI_ne0.mpr k)) (fun _ => ?_)
        refine z_aload_n dX9_partOf_69 rfl rfl ?_
        refine y_callV (as := []) CX9_isCompared LX9_206 IX9_isCompared VX9_isCompared ⟨rfl, Nat.le_of_ble_eq_true rfl⟩ dX9_partOf_70 hm.o rfl (Nat.le_of_ble_eq_true rfl) (Nat.le_of_ble_eq_true rfl) (by omega) ic (rok_z bI_01) ⟨Nat.le_refl _, Nat.le_refl _, hN, hS⟩ ?_
        refine z_if_eq dX9_partOf_73 rfl (fun c => absurd c (bI_ne0.mpr hc)) (fun _ => ?_)
        refine z_bipush (v := 43) dX9_partOf_76 (by decide) ?_
        refine z_goto dX9_partOf_78 rfl ?_
        refine z_iret dX9_partOf_82 ?_
        exact hQ
      · rw [if_neg (fun q => hc q.2)] at hQ
        refine z_iload_n dX9_partOf_0 rfl rfl ?_
        refine z_tableIn (off := 50) (tgt := 51) dX9_partOf_1 (by decide) (by decide) rfl rfl ?_
        refine z_aload_n dX9_partOf_51 rfl rfl ?_
        refine z_bipush (v := 116) dX9_partOf_52 (by decide) ?_
        refine z_bipush (v := 104) dX9_partOf_54 (by decide) ?_
        refine z_bipush (v := 101) dX9_partOf_56 (by decide) ?_
        refine z_bipush (v := 110) dX9_partOf_58 (by decide) ?_
        refine y_callS (as := [_, _, _, _]) CX9_w4 LX9_136 SX9_w4 dX9_partOf_60 rfl (Nat.le_of_ble_eq_true rfl) (Nat.le_of_ble_eq_true rfl) (by omega) (r_w4 (d := 2) (a0 := 116) (a1 := 104) (a2 := 101) (a3 := 110) (by omega) (by omega) (by omega) (by omega) (Nat.le_refl _)) rok_l ⟨Nat.le_refl _, Nat.le_refl _, hN, hS⟩ ?_
        refine z_eql (show _ = lN 1952998766 from rfl) ?_
        refine y_callV (as := [_]) CX9_isWord LX9_192 IX9_isWord VX9_isWord ⟨rfl, Nat.le_of_ble_eq_true rfl⟩ dX9_partOf_63 hm.o rfl (Nat.le_of_ble_eq_true rfl) (Nat.le_of_ble_eq_true rfl) (by omega) (r_isWord (d := 0) (k := 24) (by exact (by exact hm)) ht nt tP_le (by omega) (wd_24 (bb _))) (rok_z bI_01) ⟨Nat.le_refl _, Nat.le_refl _, hN, hS⟩ ?_
        refine z_if_eq dX9_partOf_66 rfl (fun c => absurd c (bI_ne0.mpr k)) (fun _ => ?_)
        refine z_aload_n dX9_partOf_69 rfl rfl ?_
        refine y_callV (as := []) CX9_isCompared LX9_206 IX9_isCompared VX9_isCompared ⟨rfl, Nat.le_of_ble_eq_true rfl⟩ dX9_partOf_70 hm.o rfl (Nat.le_of_ble_eq_true rfl) (Nat.le_of_ble_eq_true rfl) (by omega) ic (rok_z bI_01) ⟨Nat.le_refl _, Nat.le_refl _, hN, hS⟩ ?_
        refine z_if_eq dX9_partOf_73 rfl (fun _ => ?_) (fun c => absurd (bI_eq0.mpr hc) c)
        refine z_iconst (v := -1) dX9_partOf_81 (by decide) ?_
        refine z_iret dX9_partOf_82 ?_
        exact hQ
    · rw [if_neg (fun q => k q.1)] at hQ
      refine z_iload_n dX9_partOf_0 rfl rfl ?_
      refine z_tableIn (off := 50) (tgt := 51) dX9_partOf_1 (by decide) (by decide) rfl rfl ?_
      refine z_aload_n dX9_partOf_51 rfl rfl ?_
      refine z_bipush (v := 116) dX9_partOf_52 (by decide) ?_
      refine z_bipush (v := 104) dX9_partOf_54 (by decide) ?_
      refine z_bipush (v := 101) dX9_partOf_56 (by decide) ?_
      refine z_bipush (v := 110) dX9_partOf_58 (by decide) ?_
      refine y_callS (as := [_, _, _, _]) CX9_w4 LX9_136 SX9_w4 dX9_partOf_60 rfl (Nat.le_of_ble_eq_true rfl) (Nat.le_of_ble_eq_true rfl) (by omega) (r_w4 (d := 2) (a0 := 116) (a1 := 104) (a2 := 101) (a3 := 110) (by omega) (by omega) (by omega) (by omega) (Nat.le_refl _)) rok_l ⟨Nat.le_refl _, Nat.le_refl _, hN, hS⟩ ?_
      refine z_eql (show _ = lN 1952998766 from rfl) ?_
      refine y_callV (as := [_]) CX9_isWord LX9_192 IX9_isWord VX9_isWord ⟨rfl, Nat.le_of_ble_eq_true rfl⟩ dX9_partOf_63 hm.o rfl (Nat.le_of_ble_eq_true rfl) (Nat.le_of_ble_eq_true rfl) (by omega) (r_isWord (d := 0) (k := 24) (by exact (by exact hm)) ht nt tP_le (by omega) (wd_24 (bb _))) (rok_z bI_01) ⟨Nat.le_refl _, Nat.le_refl _, hN, hS⟩ ?_
      refine z_if_eq dX9_partOf_66 rfl (fun _ => ?_) (fun c => absurd (bI_eq0.mpr k) c)
      refine z_iconst (v := -1) dX9_partOf_81 (by decide) ?_
      refine z_iret dX9_partOf_82 ?_
      exact hQ
  · rw [show prt (tK (TPs s) (TNs s) i) 43 ro = if tK (TPs s) (TNs s) i = 25 then 44 else -1 from rfl] at hQ
    by_cases k : tK (TPs s) (TNs s) i = 25
    · rw [if_pos k] at hQ
      refine z_iload_n dX9_partOf_0 rfl rfl ?_
      refine z_tableIn (off := 82) (tgt := 83) dX9_partOf_1 (by decide) (by decide) rfl rfl ?_
      refine z_aload_n dX9_partOf_83 rfl rfl ?_
      refine z_bipush (v := 101) dX9_partOf_84 (by decide) ?_
      refine z_bipush (v := 108) dX9_partOf_86 (by decide) ?_
      refine z_bipush (v := 115) dX9_partOf_88 (by decide) ?_
      refine z_bipush (v := 101) dX9_partOf_90 (by decide) ?_
      refine y_callS (as := [_, _, _, _]) CX9_w4 LX9_136 SX9_w4 dX9_partOf_92 rfl (Nat.le_of_ble_eq_true rfl) (Nat.le_of_ble_eq_true rfl) (by omega) (r_w4 (d := 2) (a0 := 101) (a1 := 108) (a2 := 115) (a3 := 101) (by omega) (by omega) (by omega) (by omega) (Nat.le_refl _)) rok_l ⟨Nat.le_refl _, Nat.le_refl _, hN, hS⟩ ?_
      refine z_eql (show _ = lN 1701606245 from rfl) ?_
      refine y_callV (as := [_]) CX9_isWord LX9_192 IX9_isWord VX9_isWord ⟨rfl, Nat.le_of_ble_eq_true rfl⟩ dX9_partOf_95 hm.o rfl (Nat.le_of_ble_eq_true rfl) (Nat.le_of_ble_eq_true rfl) (by omega) (r_isWord (d := 0) (k := 25) (by exact (by exact hm)) ht nt tP_le (by omega) (wd_25 (bb _))) (rok_z bI_01) ⟨Nat.le_refl _, Nat.le_refl _, hN, hS⟩ ?_
      refine z_if_eq dX9_partOf_98 rfl (fun c => absurd c (bI_ne0.mpr k)) (fun _ => ?_)
      refine z_bipush (v := 44) dX9_partOf_101 (by decide) ?_
      refine z_goto dX9_partOf_103 rfl ?_
      refine z_iret dX9_partOf_107 ?_
      exact hQ
    · rw [if_neg k] at hQ
      refine z_iload_n dX9_partOf_0 rfl rfl ?_
      refine z_tableIn (off := 82) (tgt := 83) dX9_partOf_1 (by decide) (by decide) rfl rfl ?_
      refine z_aload_n dX9_partOf_83 rfl rfl ?_
      refine z_bipush (v := 101) dX9_partOf_84 (by decide) ?_
      refine z_bipush (v := 108) dX9_partOf_86 (by decide) ?_
      refine z_bipush (v := 115) dX9_partOf_88 (by decide) ?_
      refine z_bipush (v := 101) dX9_partOf_90 (by decide) ?_
      refine y_callS (as := [_, _, _, _]) CX9_w4 LX9_136 SX9_w4 dX9_partOf_92 rfl (Nat.le_of_ble_eq_true rfl) (Nat.le_of_ble_eq_true rfl) (by omega) (r_w4 (d := 2) (a0 := 101) (a1 := 108) (a2 := 115) (a3 := 101) (by omega) (by omega) (by omega) (by omega) (Nat.le_refl _)) rok_l ⟨Nat.le_refl _, Nat.le_refl _, hN, hS⟩ ?_
      refine z_eql (show _ = lN 1701606245 from rfl) ?_
      refine y_callV (as := [_]) CX9_isWord LX9_192 IX9_isWord VX9_isWord ⟨rfl, Nat.le_of_ble_eq_true rfl⟩ dX9_partOf_95 hm.o rfl (Nat.le_of_ble_eq_true rfl) (Nat.le_of_ble_eq_true rfl) (by omega) (r_isWord (d := 0) (k := 25) (by exact (by exact hm)) ht nt tP_le (by omega) (wd_25 (bb _))) (rok_z bI_01) ⟨Nat.le_refl _, Nat.le_refl _, hN, hS⟩ ?_
      refine z_if_eq dX9_partOf_98 rfl (fun _ => ?_) (fun c => absurd (bI_eq0.mpr k) c)
      refine z_iconst (v := -1) dX9_partOf_106 (by decide) ?_
      refine z_iret dX9_partOf_107 ?_
      exact hQ
  · rw [show prt (tK (TPs s) (TNs s) i) 44 ro = if tK (TPs s) (TNs s) i = 26 then 0 else -1 from rfl] at hQ
    by_cases k : tK (TPs s) (TNs s) i = 26
    · rw [if_pos k] at hQ
      refine z_iload_n dX9_partOf_0 rfl rfl ?_
      refine z_tableIn (off := 107) (tgt := 108) dX9_partOf_1 (by decide) (by decide) rfl rfl ?_
      refine z_aload_n dX9_partOf_108 rfl rfl ?_
      refine z_bipush (v := 101) dX9_partOf_109 (by decide) ?_
      refine z_bipush (v := 110) dX9_partOf_111 (by decide) ?_
      refine z_bipush (v := 100) dX9_partOf_113 (by decide) ?_
      refine y_callS (as := [_, _, _]) CX9_w3 LX9_132 SX9_w3 dX9_partOf_115 rfl (Nat.le_of_ble_eq_true rfl) (Nat.le_of_ble_eq_true rfl) (by omega) (r_w3 (d := 1) (a0 := 101) (a1 := 110) (a2 := 100) (by omega) (by omega) (by omega) (Nat.le_refl _)) rok_l ⟨Nat.le_refl _, Nat.le_refl _, hN, hS⟩ ?_
      refine z_eql (show _ = lN 6647396 from rfl) ?_
      refine y_callV (as := [_]) CX9_isWord LX9_192 IX9_isWord VX9_isWord ⟨rfl, Nat.le_of_ble_eq_true rfl⟩ dX9_partOf_118 hm.o rfl (Nat.le_of_ble_eq_true rfl) (Nat.le_of_ble_eq_true rfl) (by omega) (r_isWord (d := 0) (k := 26) (by exact (by exact hm)) ht nt tP_le (by omega) (wd_26 (bb _))) (rok_z bI_01) ⟨Nat.le_refl _, Nat.le_refl _, hN, hS⟩ ?_
      refine z_if_eq dX9_partOf_121 rfl (fun c => absurd c (bI_ne0.mpr k)) (fun _ => ?_)
      refine z_iconst (v := 0) dX9_partOf_124 (by decide) ?_
      refine z_goto dX9_partOf_125 rfl ?_
      refine z_iret dX9_partOf_129 ?_
      exact hQ
    · rw [if_neg k] at hQ
      refine z_iload_n dX9_partOf_0 rfl rfl ?_
      refine z_tableIn (off := 107) (tgt := 108) dX9_partOf_1 (by decide) (by decide) rfl rfl ?_
      refine z_aload_n dX9_partOf_108 rfl rfl ?_
      refine z_bipush (v := 101) dX9_partOf_109 (by decide) ?_
      refine z_bipush (v := 110) dX9_partOf_111 (by decide) ?_
      refine z_bipush (v := 100) dX9_partOf_113 (by decide) ?_
      refine y_callS (as := [_, _, _]) CX9_w3 LX9_132 SX9_w3 dX9_partOf_115 rfl (Nat.le_of_ble_eq_true rfl) (Nat.le_of_ble_eq_true rfl) (by omega) (r_w3 (d := 1) (a0 := 101) (a1 := 110) (a2 := 100) (by omega) (by omega) (by omega) (Nat.le_refl _)) rok_l ⟨Nat.le_refl _, Nat.le_refl _, hN, hS⟩ ?_
      refine z_eql (show _ = lN 6647396 from rfl) ?_
      refine y_callV (as := [_]) CX9_isWord LX9_192 IX9_isWord VX9_isWord ⟨rfl, Nat.le_of_ble_eq_true rfl⟩ dX9_partOf_118 hm.o rfl (Nat.le_of_ble_eq_true rfl) (Nat.le_of_ble_eq_true rfl) (by omega) (r_isWord (d := 0) (k := 26) (by exact (by exact hm)) ht nt tP_le (by omega) (wd_26 (bb _))) (rok_z bI_01) ⟨Nat.le_refl _, Nat.le_refl _, hN, hS⟩ ?_
      refine z_if_eq dX9_partOf_121 rfl (fun _ => ?_) (fun c => absurd (bI_eq0.mpr k) c)
      refine z_iconst (v := -1) dX9_partOf_128 (by decide) ?_
      refine z_iret dX9_partOf_129 ?_
      exact hQ
  · have hQ : Q (some (.int (-1))) h := hQ
    have hout : ((-1 : Int32).toInt < 40 ∨ (44 : Int) < (-1 : Int32).toInt) := by decide
    refine z_iload_n dX9_partOf_0 rfl rfl ?_
    refine z_tableOut (tgt := 130) dX9_partOf_1 (hout) rfl ?_
    refine z_iconst (v := -1) dX9_partOf_130 (by decide) ?_
    refine z_iret dX9_partOf_131 ?_
    exact hQ

theorem r_end0 {s : Ms} {t w0 so i op wh : Nat} {ro : List Nat} {c : Cd} {h : Hp} {d : Nat} {ro1 : List Nat} {op1 : Nat} {c1 : Cd} (rp : RP s t w0 so i ro op wh c h) (ht : ITp s) (es : stl 7 ro op c = (ro1, op1, c1)) (ht4 : t < 4) (h159 : ro.length ≤ 159) (hw : w0 + c.length + ro.length ≤ 304) (ho : nOp ro ≤ op) (h100 : op ≤ 100) (hd : 2 ≤ d) : ∃ g, Sp 1 mX9_settle [.ref 488, .int (nI 7)] h none g ∧ RP s t w0 so i ro1 op1 1 c1 (sI g 488 18 1) ∧ FQ h g ∧ FQ h (sI g 488 18 1) := by
  obtain ⟨g, s1, s2, s3⟩ := r_settleS (d := 1) (l := 7) rp ht4 (Nat.le_refl _) h159 hw ho h100 (Nat.le_refl _)
  rw [es] at s2
  have s2 : RP s t w0 so i ro1 op1 wh c1 g := s2
  obtain ⟨_, _, _, _, _, _, _, _, g16, g17, _, pg⟩ := id s2
  exact ⟨g, s1, s2.fld (fun tf hr => rm_f hr (by omega)) (fun j q1 q2 => by rw [pI_sI, if_pos rfl, if_neg (by omega)]) rfl (by rw [pI_sI, if_pos rfl, if_neg (by omega)]; exact g16) (by rw [pI_sI, if_pos rfl, if_neg (by omega)]; exact g17) (by rw [pI_sI, if_pos rfl, if_pos rfl]; rfl) (PIL.fr (by rw [pI_sI_ne (by omega)]) _ pg), s3, s3.f (by omega)⟩
theorem r_end_a {s : Ms} {t w0 so i op wh : Nat} {ro : List Nat} {c : Cd} {h : Hp} {d : Nat} {ro1 : List Nat} {op1 : Nat} {c1 : Cd} (rp : RP s t w0 so i ro op wh c h) (ht : ITp s) (es : stl 7 ro op c = (ro1, op1, c1)) (hn : ∀ r, ro1 ≠ 41 :: r) (hl1 : ro1.length ≤ 159) (ht4 : t < 4) (h159 : ro.length ≤ 159) (hw : w0 + c.length + ro.length ≤ 304) (ho : nOp ro ≤ op) (h100 : op ≤ 100) (hd : 2 ≤ d) : ∃ h1, Sp d mX9_endOne [.ref 488] h (some (.int 0)) h1 ∧ RP s t w0 so i ro1 op1 1 c1 h1 ∧ FQ h h1 := by
  obtain ⟨g, s1, rp1, s3, f1⟩ := r_end0 (d := 2) rp ht es ht4 h159 hw ho h100 (Nat.le_refl _)
  obtain ⟨tg, hrg, _, _, ntg, _, _, _, x16, _, _, pg⟩ := id rp1
  obtain ⟨tf, hr, _⟩ := id rp
  have hm := hr.m
  refine ⟨(sI g 488 18 1), ?_, rp1, f1⟩
  intro N S Q hN hS hQ
  have hN1 : pn g ≤ N := hN
  have hS1 : ps g ≤ S := hS
  have hN : pn h ≤ N := by rw [← s3.1.n]; exact hN1
  have hS : ps h ≤ S := by rw [← s3.1.s]; exact hS1
  cases ro1 with
  | nil =>
    have x16 : pI (sI g 488 18 1) 488 16 = nI 0 := x16
    refine z_aload_n dX9_endOne_0 rfl rfl ?_
    refine z_bipush (v := 7) dX9_endOne_1 (by decide) ?_
    refine y_callV (as := [_]) CX9_settle LX9_200 IX9_settle VX9_settle ⟨rfl, Nat.le_of_ble_eq_true rfl⟩ dX9_endOne_3 hm.o rfl (Nat.le_of_ble_eq_true rfl) (Nat.le_of_ble_eq_true rfl) (by omega) s1 rok_v (hg_ss s3.1 hN hS) ?_
    refine z_aload_n dX9_endOne_6 rfl rfl ?_
    refine z_iconst (v := 1) dX9_endOne_7 (by decide) ?_
    refine y_putI FX9_203 dX9_endOne_8 (Or.inl rfl) (Or.inr ⟨rfl, by decide⟩) (s3.1.O hm.o) ?_
    refine z_aload_n dX9_endOne_11 rfl rfl ?_
    refine y_getI FX9_153 dX9_endOne_12 (Or.inl rfl) (s3.1.O hm.o) ?_
    refine z_eqi (y := nI 0) x16 ?_
    refine z_if_eq dX9_endOne_15 rfl (fun _ => ?_) (fun c => absurd (by decide) c)
    refine z_iconst (v := 0) dX9_endOne_34 (by decide) ?_
    refine z_iret dX9_endOne_35 ?_
    exact hQ
  | cons x r =>
    obtain ⟨px, x44, _⟩ := pg
    have hl1 : r.length + 1 ≤ 159 := hl1
    have x16 : pI (sI g 488 18 1) 488 16 = nI (r.length + 1) := x16
    have x41 : ¬ x = 41 := fun q => hn r (by rw [q])
    refine z_aload_n dX9_endOne_0 rfl rfl ?_
    refine z_bipush (v := 7) dX9_endOne_1 (by decide) ?_
    refine y_callV (as := [_]) CX9_settle LX9_200 IX9_settle VX9_settle ⟨rfl, Nat.le_of_ble_eq_true rfl⟩ dX9_endOne_3 hm.o rfl (Nat.le_of_ble_eq_true rfl) (Nat.le_of_ble_eq_true rfl) (by omega) s1 rok_v (hg_ss s3.1 hN hS) ?_
    refine z_aload_n dX9_endOne_6 rfl rfl ?_
    refine z_iconst (v := 1) dX9_endOne_7 (by decide) ?_
    refine y_putI FX9_203 dX9_endOne_8 (Or.inl rfl) (Or.inr ⟨rfl, by decide⟩) (s3.1.O hm.o) ?_
    refine z_aload_n dX9_endOne_11 rfl rfl ?_
    refine y_getI FX9_153 dX9_endOne_12 (Or.inl rfl) (s3.1.O hm.o) ?_
    refine z_eqi (y := nI (r.length + 1)) x16 ?_
    refine z_if_eq dX9_endOne_15 rfl (fun c => absurd c (fun q => absurd ((nI_eq (b := 0) (by omega) (by omega)).mp q) (by omega))) (fun _ => ?_)
    refine z_aload_n dX9_endOne_18 rfl rfl ?_
    refine y_getR FX9_29 dX9_endOne_19 rfl (s3.1.O hm.o) (by first | (rw [s3.1.R]; exact hm.f_pile) | exact (congrFun (congrFun s3.1.R _) _).trans hm.f_pile) ?_
    refine z_aload_n dX9_endOne_22 rfl rfl ?_
    refine y_getI FX9_153 dX9_endOne_23 (Or.inl rfl) (s3.1.O hm.o) ?_
    refine z_eqi (y := nI (r.length + 1)) x16 ?_
    refine z_iconst (v := 1) dX9_endOne_26 (by decide) ?_
    refine z_isub dX9_endOne_27 ?_
    refine z_eqi (nI_pred r.length) ?_
    refine y_ialN (r.length) dX9_endOne_28 (s3.1.A hm.A_pile) (Nat.le_of_ble_eq_true rfl) (rfl) (by omega) ?_
    refine z_eqi px ?_
    refine z_bipush (v := 41) dX9_endOne_29 (by decide) ?_
    refine z_icmp_eq dX9_endOne_31 rfl (fun c => absurd c (fun q => x41 ((nI_eq (b := 41) (by omega) (by omega)).mp q))) (fun _ => ?_)
    refine z_iconst (v := 0) dX9_endOne_34 (by decide) ?_
    refine z_iret dX9_endOne_35 ?_
    exact hQ
theorem r_end_c {s : Ms} {t w0 so i op wh : Nat} {ro : List Nat} {c : Cd} {h : Hp} {d : Nat} {r : List Nat} {op1 : Nat} {c1 : Cd} (rp : RP s t w0 so i ro op wh c h) (ht : ITp s) (es : stl 7 ro op c = (41 :: r, op1, c1)) (hk : ¬ tK (TPs s) (TNs s) i = 21) (hl1 : r.length + 1 ≤ 159) (ht4 : t < 4) (h159 : ro.length ≤ 159) (hw : w0 + c.length + ro.length ≤ 304) (ho : nOp ro ≤ op) (h100 : op ≤ 100) (hd : 2 ≤ d) : ∃ h1, Sp d mX9_endOne [.ref 488] h (some (.int 1)) h1 ∧ RP s t w0 so i (41 :: r) op1 1 c1 h1 ∧ FQ h h1 := by
  obtain ⟨g, s1, rp1, s3, f1⟩ := r_end0 (d := 2) rp ht es ht4 h159 hw ho h100 (Nat.le_refl _)
  obtain ⟨tg, hrg, _, _, ntg, _, _, _, x16, _, _, pg⟩ := id rp1
  have hmg := hrg.m
  obtain ⟨tf, hr, em, fr, nt, e12, e13, e14, e16, e17, e18, pil⟩ := id rp
  have hm := hr.m
  have n3 : TNs s ≤ 300 := ht.1
  have bb : ∀ k, k < TNs s → TPs s k < 256 := fun k hk => ht.2 k (by omega)
  obtain ⟨px, x44, _⟩ := pg
  have x16 : pI (sI g 488 18 1) 488 16 = nI (r.length + 1) := x16
  refine ⟨(sI g 488 18 1), ?_, rp1, f1⟩
  intro N S Q hN hS hQ
  have hN1 : pn g ≤ N := hN
  have hS1 : ps g ≤ S := hS
  have hN : pn h ≤ N := by rw [← s3.1.n]; exact hN1
  have hS : ps h ≤ S := by rw [← s3.1.s]; exact hS1
  refine z_aload_n dX9_endOne_0 rfl rfl ?_
  refine z_bipush (v := 7) dX9_endOne_1 (by decide) ?_
  refine y_callV (as := [_]) CX9_settle LX9_200 IX9_settle VX9_settle ⟨rfl, Nat.le_of_ble_eq_true rfl⟩ dX9_endOne_3 hm.o rfl (Nat.le_of_ble_eq_true rfl) (Nat.le_of_ble_eq_true rfl) (by omega) s1 rok_v (hg_ss s3.1 hN hS) ?_
  refine z_aload_n dX9_endOne_6 rfl rfl ?_
  refine z_iconst (v := 1) dX9_endOne_7 (by decide) ?_
  refine y_putI FX9_203 dX9_endOne_8 (Or.inl rfl) (Or.inr ⟨rfl, by decide⟩) (s3.1.O hm.o) ?_
  refine z_aload_n dX9_endOne_11 rfl rfl ?_
  refine y_getI FX9_153 dX9_endOne_12 (Or.inl rfl) (s3.1.O hm.o) ?_
  refine z_eqi (y := nI (r.length + 1)) x16 ?_
  refine z_if_eq dX9_endOne_15 rfl (fun c => absurd c (fun q => absurd ((nI_eq (b := 0) (by omega) (by omega)).mp q) (by omega))) (fun _ => ?_)
  refine z_aload_n dX9_endOne_18 rfl rfl ?_
  refine y_getR FX9_29 dX9_endOne_19 rfl (s3.1.O hm.o) (by first | (rw [s3.1.R]; exact hm.f_pile) | exact (congrFun (congrFun s3.1.R _) _).trans hm.f_pile) ?_
  refine z_aload_n dX9_endOne_22 rfl rfl ?_
  refine y_getI FX9_153 dX9_endOne_23 (Or.inl rfl) (s3.1.O hm.o) ?_
  refine z_eqi (y := nI (r.length + 1)) x16 ?_
  refine z_iconst (v := 1) dX9_endOne_26 (by decide) ?_
  refine z_isub dX9_endOne_27 ?_
  refine z_eqi (nI_pred r.length) ?_
  refine y_ialN (r.length) dX9_endOne_28 (s3.1.A hm.A_pile) (Nat.le_of_ble_eq_true rfl) (rfl) (by omega) ?_
  refine z_eqi px ?_
  refine z_bipush (v := 41) dX9_endOne_29 (by decide) ?_
  refine z_icmp_eq dX9_endOne_31 rfl (fun _ => ?_) (fun c => absurd (rfl) c)
  refine z_aload_n dX9_endOne_36 rfl rfl ?_
  refine z_bipush (v := 111) dX9_endOne_37 (by decide) ?_
  refine z_bipush (v := 102) dX9_endOne_39 (by decide) ?_
  refine y_callS (as := [_, _]) CX9_w2 LX9_128 SX9_w2 dX9_endOne_41 rfl (Nat.le_of_ble_eq_true rfl) (Nat.le_of_ble_eq_true rfl) (by omega) (r_w2 (d := 0) (a0 := 111) (a1 := 102) (by omega) (by omega) (Nat.le_refl _)) rok_l ⟨Nat.le_refl _, Nat.le_refl _, hN1, hS1⟩ ?_
  refine z_eql (show _ = lN 28518 from rfl) ?_
  refine y_callV (as := [_]) CX9_isWord LX9_192 IX9_isWord VX9_isWord ⟨rfl, Nat.le_of_ble_eq_true rfl⟩ dX9_endOne_44 (s3.1.O hm.o) rfl (Nat.le_of_ble_eq_true rfl) (Nat.le_of_ble_eq_true rfl) (by omega) (r_isWord (d := 0) (k := 21) (by exact hmg) ht ntg tP_le (by omega) (wd_21 (bb _))) (rok_z bI_01) ⟨Nat.le_refl _, Nat.le_refl _, hN1, hS1⟩ ?_
  refine z_if_ne dX9_endOne_47 rfl (fun c => absurd (bI_eq0.mpr hk) c) (fun _ => ?_)
  refine z_iconst (v := 1) dX9_endOne_50 (by decide) ?_
  refine z_iret dX9_endOne_51 ?_
  exact hQ

theorem r_end_b {s : Ms} {t w0 so i op wh : Nat} {ro : List Nat} {c : Cd} {h : Hp} {d : Nat} {r : List Nat} {op1 : Nat} {c1 : Cd} (rp : RP s t w0 so i ro op wh c h) (ht : ITp s) (es : stl 7 ro op c = (41 :: r, op1, c1)) (hk : tK (TPs s) (TNs s) i = 21) (hl1 : r.length + 1 ≤ 159) (ht4 : t < 4) (h159 : ro.length ≤ 159) (hw : w0 + c.length + ro.length ≤ 304) (ho : nOp ro ≤ op) (h100 : op ≤ 100) (hd : 2 ≤ d) : ∃ h1, Sp d mX9_endOne [.ref 488] h (some (.int 0)) h1 ∧ RP s t w0 so (i + 1) (4 :: r) op1 0 c1 h1 ∧ FQ h h1 := by
  obtain ⟨g, s1, rp1, s3, f1⟩ := r_end0 (d := 2) rp ht es ht4 h159 hw ho h100 (Nat.le_refl _)
  obtain ⟨tg, hrg, _, _, ntg, _, _, _, x16, _, _, pg⟩ := id rp1
  have hmg := hrg.m
  obtain ⟨tf, hr, em, fr, nt, e12, e13, e14, e16, e17, e18, pil⟩ := id rp
  have hm := hr.m
  have n3 : TNs s ≤ 300 := ht.1
  have bb : ∀ k, k < TNs s → TPs s k < 256 := fun k hk => ht.2 k (by omega)
  obtain ⟨px, x44, pr⟩ := pg
  have x16 : pI (sI g 488 18 1) 488 16 = nI (r.length + 1) := x16
  obtain ⟨g2, n1, n2, n3', n4⟩ := r_next (d := 1) rp1 ht (Nat.le_refl _)
  obtain ⟨t2, hr2, _, _, nt2, _, _, _, y16, y17, y18, py⟩ := id n2
  have y16' : pI g2 488 16 = nI (r.length + 1) := y16
  have rp3 : RP s t w0 so (i + 1) (4 :: r) op1 0 c1 (sI (sI g2 493 r.length 4) 488 18 0) := n2.fld (fun tf hr => rm_f (rm_p hr (by omega)) (by omega)) (fun j q1 q2 => by rw [pI_sI, if_pos rfl, if_neg (by omega), pI_sI_ne (by omega)]) rfl (by rw [pI_sI, if_pos rfl, if_neg (by omega), pI_sI_ne (by omega)]; exact y16) (by rw [pI_sI, if_pos rfl, if_neg (by omega), pI_sI_ne (by omega)]; exact y17) (by rw [pI_sI, if_pos rfl, if_pos rfl]; rfl) ⟨by rw [pI_sI_ne (by omega), pI_sI, if_pos rfl, if_pos rfl]; rfl, by omega, PIL.fr (by rw [pI_sI_ne (by omega)]) _ (PIL.up _ (Nat.le_refl _) py.2.2)⟩
  have ff : FQ h (sI (sI g2 493 r.length 4) 488 18 0) := ((f1.tr n3').c (Or.inr rfl)).f (by omega)
  refine ⟨(sI (sI g2 493 r.length 4) 488 18 0), ?_, rp3, ff⟩
  intro N S Q hN hS hQ
  have hN : pn h ≤ N := by rw [← ff.1.n]; exact hN
  have hS : ps h ≤ S := by rw [← ff.1.s]; exact hS
  have hN1 : pn g ≤ N := by rw [s3.1.n]; exact hN
  have hS1 : ps g ≤ S := by rw [s3.1.s]; exact hS
  refine z_aload_n dX9_endOne_0 rfl rfl ?_
  refine z_bipush (v := 7) dX9_endOne_1 (by decide) ?_
  refine y_callV (as := [_]) CX9_settle LX9_200 IX9_settle VX9_settle ⟨rfl, Nat.le_of_ble_eq_true rfl⟩ dX9_endOne_3 hm.o rfl (Nat.le_of_ble_eq_true rfl) (Nat.le_of_ble_eq_true rfl) (by omega) s1 rok_v (hg_ss s3.1 hN hS) ?_
  refine z_aload_n dX9_endOne_6 rfl rfl ?_
  refine z_iconst (v := 1) dX9_endOne_7 (by decide) ?_
  refine y_putI FX9_203 dX9_endOne_8 (Or.inl rfl) (Or.inr ⟨rfl, by decide⟩) (s3.1.O hm.o) ?_
  refine z_aload_n dX9_endOne_11 rfl rfl ?_
  refine y_getI FX9_153 dX9_endOne_12 (Or.inl rfl) (s3.1.O hm.o) ?_
  refine z_eqi (y := nI (r.length + 1)) x16 ?_
  refine z_if_eq dX9_endOne_15 rfl (fun c => absurd c (fun q => absurd ((nI_eq (b := 0) (by omega) (by omega)).mp q) (by omega))) (fun _ => ?_)
  refine z_aload_n dX9_endOne_18 rfl rfl ?_
  refine y_getR FX9_29 dX9_endOne_19 rfl (s3.1.O hm.o) (by first | (rw [s3.1.R]; exact hm.f_pile) | exact (congrFun (congrFun s3.1.R _) _).trans hm.f_pile) ?_
  refine z_aload_n dX9_endOne_22 rfl rfl ?_
  refine y_getI FX9_153 dX9_endOne_23 (Or.inl rfl) (s3.1.O hm.o) ?_
  refine z_eqi (y := nI (r.length + 1)) x16 ?_
  refine z_iconst (v := 1) dX9_endOne_26 (by decide) ?_
  refine z_isub dX9_endOne_27 ?_
  refine z_eqi (nI_pred r.length) ?_
  refine y_ialN (r.length) dX9_endOne_28 (s3.1.A hm.A_pile) (Nat.le_of_ble_eq_true rfl) (rfl) (by omega) ?_
  refine z_eqi px ?_
  refine z_bipush (v := 41) dX9_endOne_29 (by decide) ?_
  refine z_icmp_eq dX9_endOne_31 rfl (fun _ => ?_) (fun c => absurd (rfl) c)
  refine z_aload_n dX9_endOne_36 rfl rfl ?_
  refine z_bipush (v := 111) dX9_endOne_37 (by decide) ?_
  refine z_bipush (v := 102) dX9_endOne_39 (by decide) ?_
  refine y_callS (as := [_, _]) CX9_w2 LX9_128 SX9_w2 dX9_endOne_41 rfl (Nat.le_of_ble_eq_true rfl) (Nat.le_of_ble_eq_true rfl) (by omega) (r_w2 (d := 0) (a0 := 111) (a1 := 102) (by omega) (by omega) (Nat.le_refl _)) rok_l ⟨Nat.le_refl _, Nat.le_refl _, hN1, hS1⟩ ?_
  refine z_eql (show _ = lN 28518 from rfl) ?_
  refine y_callV (as := [_]) CX9_isWord LX9_192 IX9_isWord VX9_isWord ⟨rfl, Nat.le_of_ble_eq_true rfl⟩ dX9_endOne_44 (s3.1.O hm.o) rfl (Nat.le_of_ble_eq_true rfl) (Nat.le_of_ble_eq_true rfl) (by omega) (r_isWord (d := 0) (k := 21) (by exact hmg) ht ntg tP_le (by omega) (wd_21 (bb _))) (rok_z bI_01) ⟨Nat.le_refl _, Nat.le_refl _, hN1, hS1⟩ ?_
  refine z_if_ne dX9_endOne_47 rfl (fun _ => ?_) (fun c => absurd c (bI_ne0.mpr hk))
  refine z_aload_n dX9_endOne_52 rfl rfl ?_
  refine y_callV (as := []) CX9_nextToken LX9_173 IX9_nextToken VX9_nextToken ⟨rfl, Nat.le_of_ble_eq_true rfl⟩ dX9_endOne_53 (s3.1.O hm.o) rfl (Nat.le_of_ble_eq_true rfl) (Nat.le_of_ble_eq_true rfl) (by omega) n1 rok_v (hg_ss n3'.1 hN1 hS1) ?_
  refine z_aload_n dX9_endOne_56 rfl rfl ?_
  refine y_getR FX9_29 dX9_endOne_57 rfl ((s3.1.tr n3'.1).O hm.o) (by first | (rw [(s3.1.tr n3'.1).R]; exact hm.f_pile) | exact (congrFun (congrFun (s3.1.tr n3'.1).R _) _).trans hm.f_pile) ?_
  refine z_aload_n dX9_endOne_60 rfl rfl ?_
  refine y_getI FX9_153 dX9_endOne_61 (Or.inl rfl) ((s3.1.tr n3'.1).O hm.o) ?_
  refine z_eqi (y := nI (r.length + 1)) y16' ?_
  refine z_iconst (v := 1) dX9_endOne_64 (by decide) ?_
  refine z_isub dX9_endOne_65 ?_
  refine z_eqi (nI_pred r.length) ?_
  refine z_iconst (v := 4) dX9_endOne_66 (by decide) ?_
  refine y_iasN (r.length) dX9_endOne_67 ((s3.1.tr n3'.1).A hm.A_pile) (Nat.le_of_ble_eq_true rfl) (rfl) (by omega) ?_
  refine z_aload_n dX9_endOne_68 rfl rfl ?_
  refine z_iconst (v := 0) dX9_endOne_69 (by decide) ?_
  refine y_putI FX9_203 dX9_endOne_70 (Or.inl rfl) (Or.inr ⟨rfl, by decide⟩) ((s3.1.tr n3'.1).O hm.o) ?_
  refine z_iconst (v := 0) dX9_endOne_73 (by decide) ?_
  refine z_iret dX9_endOne_74 ?_
  exact hQ

