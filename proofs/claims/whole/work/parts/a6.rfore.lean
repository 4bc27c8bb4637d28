/-! the reference reads prophecies, laws (wip/whole/gena6.py) -/
theorem rdW_pre {K W : Nat → Nat} {l : List (Nat × Nat × Nat)} : ∀ {i : Nat} (a : List Nat) {b : List Nat}, rdW K W l i (a ++ b) = ((rdW K W l i b).1, (rdW K W l i b).2.1, a ++ (rdW K W l i b).2.2) := by
  induction l with
  | nil => intro i a b; rfl
  | cons q r ih =>
    intro i a b
    rw [rdW_e, rdW_e]
    by_cases h1 : K i = q.1
    · rw [if_pos h1, if_pos h1]
      by_cases h2 : K (i + 1) = 52
      · rw [if_pos h2, if_pos h2]
        by_cases h3 : q.2.1 ≤ W (i + 1) ∧ W (i + 1) ≤ q.2.2
        · rw [if_pos h3, if_pos h3, List.append_assoc]
          exact ih a
        · rw [if_neg h3, if_neg h3]
      · rw [if_neg h2, if_neg h2]
    · rw [if_neg h1, if_neg h1]

/-- behind all or any -/
theorem r_for2 {s : Ms} {t : Nat} {tf : Nat → Int32} {i w on : Nat} {so : Int32} {h : Hp} {d : Nat} (q : RTs s t tf i w so on h) (ht : ITp s) {x u b : Nat} {v2 : Option Value} (hx : x + 6 < 3012) (hb : b = 1 ∨ b = 0) (c1 : tf (x + 1) = nI u) (hd : 5 ≤ d) : ∃ h6 tf6, RTs s t tf6 (if (rdX (tK (TPs s) (TNs s)) (wN s) 7 (i + 1) 0).1 = 0 then rdW (tK (TPs s) (TNs s)) (wN s) [(15, 1, 99), (16, 0, 999)] (rdX (tK (TPs s) (TNs s)) (wN s) 7 (i + 1) 0).2.1 [u, b, (rdX (tK (TPs s) (TNs s)) (wN s) 7 (i + 1) 0).2.2] else ((rdX (tK (TPs s) (TNs s)) (wN s) 7 (i + 1) 0).1, (rdX (tK (TPs s) (TNs s)) (wN s) 7 (i + 1) 0).2.1, [])).2.1 w so on h6 ∧ FR4 h h6 ∧ (∀ j, (j < x + 2 ∨ x + 6 ≤ j) → tf6 j = tf j) ∧ ((if (rdX (tK (TPs s) (TNs s)) (wN s) 7 (i + 1) 0).1 = 0 then rdW (tK (TPs s) (TNs s)) (wN s) [(15, 1, 99), (16, 0, 999)] (rdX (tK (TPs s) (TNs s)) (wN s) 7 (i + 1) 0).2.1 [u, b, (rdX (tK (TPs s) (TNs s)) (wN s) 7 (i + 1) 0).2.2] else ((rdX (tK (TPs s) (TNs s)) (wN s) 7 (i + 1) 0).1, (rdX (tK (TPs s) (TNs s)) (wN s) 7 (i + 1) 0).2.1, [])).1 = 0 → ∀ c v, (if (rdX (tK (TPs s) (TNs s)) (wN s) 7 (i + 1) 0).1 = 0 then rdW (tK (TPs s) (TNs s)) (wN s) [(15, 1, 99), (16, 0, 999)] (rdX (tK (TPs s) (TNs s)) (wN s) 7 (i + 1) 0).2.1 [u, b, (rdX (tK (TPs s) (TNs s)) (wN s) 7 (i + 1) 0).2.2] else ((rdX (tK (TPs s) (TNs s)) (wN s) 7 (i + 1) 0).1, (rdX (tK (TPs s) (TNs s)) (wN s) 7 (i + 1) 0).2.1, [])).2.2[c]? = some v → tf6 (x + 1 + c) = nI v) ∧ ∀ N S Q, pn h ≤ N → ps h ≤ S → Q (some (.int (nI (if (rdX (tK (TPs s) (TNs s)) (wN s) 7 (i + 1) 0).1 = 0 then rdW (tK (TPs s) (TNs s)) (wN s) [(15, 1, 99), (16, 0, 999)] (rdX (tK (TPs s) (TNs s)) (wN s) 7 (i + 1) 0).2.1 [u, b, (rdX (tK (TPs s) (TNs s)) (wN s) 7 (i + 1) 0).2.2] else ((rdX (tK (TPs s) (TNs s)) (wN s) 7 (i + 1) 0).1, (rdX (tK (TPs s) (TNs s)) (wN s) 7 (i + 1) 0).2.1, [])).1))) h6 → T d N S mX9_foretellClause 52 [some (.ref 488), some (.int (nI x)), v2, some (.int (nI b))] [] h Q := by
  have hm := q.1.m
  rcases hb with rfl | rfl
  · skip
    have q2 := q.wr (x + 2) (nI 1)
    obtain ⟨h3, s3, q3, f3b⟩ := r_nx (d := 1) q2 ht (Nat.le_refl _)
    have f3 : FR4 h h3 := (FR4.rf.i (Or.inr rfl)).tr f3b
    obtain ⟨h4, tf4, s4, q4, g4, f4, e4⟩ := r_facts (d := 3) (x := x + 3) q3 ht (by omega) (Nat.le_refl _)
    have z4 := (rdX_z (K := (tK (TPs s) (TNs s))) (W := (wN s)) 7 (i + 1) 0).1
    have c2 : tf4 (x + 2) = nI 1 := by rw [g4 _ (by omega)]; exact upT_s
    have fr4 : ∀ j, (j < x + 2 ∨ x + 6 ≤ j) → tf4 j = tf j := fun j hj => by rw [g4 j (by omega), upT_n (by omega)]
    by_cases hz : (rdX (tK (TPs s) (TNs s)) (wN s) 7 (i + 1) 0).1 = 0
    · obtain ⟨h5, s5, q5, f5⟩ := g_wor (d := 3) (x0 := x + 4) (x := x + 4) (tf := tf4) (ns := []) (lo := 1) (hi := 99) (v := 26990) (k := 15) q4 ht (fun p => wd_15 (ht.b p)) (by omega) rfl (by omega) (by omega) (Nat.le_refl _)
      have z5 := rdW_z (K := (tK (TPs s) (TNs s))) (W := (wN s)) (l := [(15, 1, 99)]) (i := (rdX (tK (TPs s) (TNs s)) (wN s) 7 (i + 1) 0).2.1) (ns := [])
      have l5 := rdW_ln (K := (tK (TPs s) (TNs s))) (W := (wN s)) (l := [(15, 1, 99)]) (i := (rdX (tK (TPs s) (TNs s)) (wN s) 7 (i + 1) 0).2.1) (ns := [])
      have l5 : (rdW (tK (TPs s) (TNs s)) (wN s) [(15, 1, 99)] (rdX (tK (TPs s) (TNs s)) (wN s) 7 (i + 1) 0).2.1 []).2.2.length ≤ 1 := l5
      rw [hz] at s4
      have er : rdW (tK (TPs s) (TNs s)) (wN s) [(15, 1, 99), (16, 0, 999)] (rdX (tK (TPs s) (TNs s)) (wN s) 7 (i + 1) 0).2.1 [u, 1, (rdX (tK (TPs s) (TNs s)) (wN s) 7 (i + 1) 0).2.2] = if (rdW (tK (TPs s) (TNs s)) (wN s) [(15, 1, 99)] (rdX (tK (TPs s) (TNs s)) (wN s) 7 (i + 1) 0).2.1 []).1 = 0 then ((rdW (tK (TPs s) (TNs s)) (wN s) [(16, 0, 999)] (rdW (tK (TPs s) (TNs s)) (wN s) [(15, 1, 99)] (rdX (tK (TPs s) (TNs s)) (wN s) 7 (i + 1) 0).2.1 []).2.1 (rdW (tK (TPs s) (TNs s)) (wN s) [(15, 1, 99)] (rdX (tK (TPs s) (TNs s)) (wN s) 7 (i + 1) 0).2.1 []).2.2).1, (rdW (tK (TPs s) (TNs s)) (wN s) [(16, 0, 999)] (rdW (tK (TPs s) (TNs s)) (wN s) [(15, 1, 99)] (rdX (tK (TPs s) (TNs s)) (wN s) 7 (i + 1) 0).2.1 []).2.1 (rdW (tK (TPs s) (TNs s)) (wN s) [(15, 1, 99)] (rdX (tK (TPs s) (TNs s)) (wN s) 7 (i + 1) 0).2.1 []).2.2).2.1, [u, 1, (rdX (tK (TPs s) (TNs s)) (wN s) 7 (i + 1) 0).2.2] ++ (rdW (tK (TPs s) (TNs s)) (wN s) [(16, 0, 999)] (rdW (tK (TPs s) (TNs s)) (wN s) [(15, 1, 99)] (rdX (tK (TPs s) (TNs s)) (wN s) 7 (i + 1) 0).2.1 []).2.1 (rdW (tK (TPs s) (TNs s)) (wN s) [(15, 1, 99)] (rdX (tK (TPs s) (TNs s)) (wN s) 7 (i + 1) 0).2.1 []).2.2).2.2) else ((rdW (tK (TPs s) (TNs s)) (wN s) [(15, 1, 99)] (rdX (tK (TPs s) (TNs s)) (wN s) 7 (i + 1) 0).2.1 []).1, (rdW (tK (TPs s) (TNs s)) (wN s) [(15, 1, 99)] (rdX (tK (TPs s) (TNs s)) (wN s) 7 (i + 1) 0).2.1 []).2.1, [u, 1, (rdX (tK (TPs s) (TNs s)) (wN s) 7 (i + 1) 0).2.2] ++ (rdW (tK (TPs s) (TNs s)) (wN s) [(15, 1, 99)] (rdX (tK (TPs s) (TNs s)) (wN s) 7 (i + 1) 0).2.1 []).2.2) := by
        have e0 := rdW_pre (K := (tK (TPs s) (TNs s))) (W := (wN s)) (l := [(15, 1, 99), (16, 0, 999)]) (i := (rdX (tK (TPs s) (TNs s)) (wN s) 7 (i + 1) 0).2.1) [u, 1, (rdX (tK (TPs s) (TNs s)) (wN s) 7 (i + 1) 0).2.2] (b := [])
        rw [List.append_nil] at e0
        rw [e0, rdW_cons]
        by_cases hz5 : (rdW (tK (TPs s) (TNs s)) (wN s) [(15, 1, 99)] (rdX (tK (TPs s) (TNs s)) (wN s) 7 (i + 1) 0).2.1 []).1 = 0
        · rw [if_pos hz5, if_pos hz5]
        · rw [if_neg hz5, if_neg hz5]
      rw [if_pos hz, er]
      by_cases hz5 : (rdW (tK (TPs s) (TNs s)) (wN s) [(15, 1, 99)] (rdX (tK (TPs s) (TNs s)) (wN s) 7 (i + 1) 0).2.1 []).1 = 0
      · have l5y : (rdW (tK (TPs s) (TNs s)) (wN s) [(15, 1, 99)] (rdX (tK (TPs s) (TNs s)) (wN s) 7 (i + 1) 0).2.1 []).2.2.length = 1 := rdW_len hz5
        obtain ⟨h6, s6, q6, f6⟩ := g_wor (d := 3) (x0 := x + 4) (x := x + 5) (tf := tf4) (lo := 0) (hi := 999) (v := 6710629) (k := 16) q5 ht (fun p => wd_16 (ht.b p)) (by omega) (by rw [l5y]) (by omega) (by omega) (Nat.le_refl _)
        have l6 := rdW_ln (K := (tK (TPs s) (TNs s))) (W := (wN s)) (l := [(16, 0, 999)]) (i := (rdW (tK (TPs s) (TNs s)) (wN s) [(15, 1, 99)] (rdX (tK (TPs s) (TNs s)) (wN s) 7 (i + 1) 0).2.1 []).2.1) (ns := (rdW (tK (TPs s) (TNs s)) (wN s) [(15, 1, 99)] (rdX (tK (TPs s) (TNs s)) (wN s) 7 (i + 1) 0).2.1 []).2.2)
        have l6 : (rdW (tK (TPs s) (TNs s)) (wN s) [(16, 0, 999)] (rdW (tK (TPs s) (TNs s)) (wN s) [(15, 1, 99)] (rdX (tK (TPs s) (TNs s)) (wN s) 7 (i + 1) 0).2.1 []).2.1 (rdW (tK (TPs s) (TNs s)) (wN s) [(15, 1, 99)] (rdX (tK (TPs s) (TNs s)) (wN s) 7 (i + 1) 0).2.1 []).2.2).2.2.length ≤ (rdW (tK (TPs s) (TNs s)) (wN s) [(15, 1, 99)] (rdX (tK (TPs s) (TNs s)) (wN s) 7 (i + 1) 0).2.1 []).2.2.length + 1 := l6
        rw [hz5] at s5
        rw [if_pos hz5]
        refine ⟨h6, _, q6, ((f3.tr f4).tr f5).tr f6, fun j hj => by rw [wrN_n _ _ _ (by omega)]; exact fr4 j (by omega), ?_, ?_⟩
        · intro w0
          have l6y : (rdW (tK (TPs s) (TNs s)) (wN s) [(16, 0, 999)] (rdW (tK (TPs s) (TNs s)) (wN s) [(15, 1, 99)] (rdX (tK (TPs s) (TNs s)) (wN s) 7 (i + 1) 0).2.1 []).2.1 (rdW (tK (TPs s) (TNs s)) (wN s) [(15, 1, 99)] (rdX (tK (TPs s) (TNs s)) (wN s) 7 (i + 1) 0).2.1 []).2.2).2.2.length = (rdW (tK (TPs s) (TNs s)) (wN s) [(15, 1, 99)] (rdX (tK (TPs s) (TNs s)) (wN s) 7 (i + 1) 0).2.1 []).2.2.length + 1 := rdW_len w0
          refine fun c v hc => ?_
          have w0 : (rdW (tK (TPs s) (TNs s)) (wN s) [(16, 0, 999)] (rdW (tK (TPs s) (TNs s)) (wN s) [(15, 1, 99)] (rdX (tK (TPs s) (TNs s)) (wN s) 7 (i + 1) 0).2.1 []).2.1 (rdW (tK (TPs s) (TNs s)) (wN s) [(15, 1, 99)] (rdX (tK (TPs s) (TNs s)) (wN s) 7 (i + 1) 0).2.1 []).2.2).1 = 0 := w0
          have hc : ([u, 1, (rdX (tK (TPs s) (TNs s)) (wN s) 7 (i + 1) 0).2.2] ++ (rdW (tK (TPs s) (TNs s)) (wN s) [(16, 0, 999)] (rdW (tK (TPs s) (TNs s)) (wN s) [(15, 1, 99)] (rdX (tK (TPs s) (TNs s)) (wN s) 7 (i + 1) 0).2.1 []).2.1 (rdW (tK (TPs s) (TNs s)) (wN s) [(15, 1, 99)] (rdX (tK (TPs s) (TNs s)) (wN s) 7 (i + 1) 0).2.1 []).2.2).2.2)[c]? = some v := hc
          by_cases c3 : c < 3
          · rw [List.getElem?_append_left (by exact c3)] at hc
            rw [wrN_n _ _ _ (by omega)]
            have c4 : c = 0 ∨ c = 1 ∨ c = 2 := by omega
            rcases c4 with rfl | rfl | rfl
            · cases hc
              rw [fr4 _ (by omega)]
              exact c1
            · cases hc
              exact c2
            · cases hc
              exact e4 hz
          · rw [List.getElem?_append_right (by show 3 ≤ c; omega)] at hc
            have hc : (rdW (tK (TPs s) (TNs s)) (wN s) [(16, 0, 999)] (rdW (tK (TPs s) (TNs s)) (wN s) [(15, 1, 99)] (rdX (tK (TPs s) (TNs s)) (wN s) 7 (i + 1) 0).2.1 []).2.1 (rdW (tK (TPs s) (TNs s)) (wN s) [(15, 1, 99)] (rdX (tK (TPs s) (TNs s)) (wN s) 7 (i + 1) 0).2.1 []).2.2).2.2[c - 3]? = some v := hc
            have := wrN_y (tf := tf4) (rdW (tK (TPs s) (TNs s)) (wN s) [(16, 0, 999)] (rdW (tK (TPs s) (TNs s)) (wN s) [(15, 1, 99)] (rdX (tK (TPs s) (TNs s)) (wN s) 7 (i + 1) 0).2.1 []).2.1 (rdW (tK (TPs s) (TNs s)) (wN s) [(15, 1, 99)] (rdX (tK (TPs s) (TNs s)) (wN s) 7 (i + 1) 0).2.1 []).2.2).2.2 (x + 4) (c - 3) v hc
            rw [show x + 4 + (c - 3) = x + 1 + c by omega] at this
            exact this
        · intro N S Q hN hS hQ
          have hN3 : pn h3 ≤ N := ss_n' f3.1 hN
          have hS3 : ps h3 ≤ S := ss_s' f3.1 hS
          have hN4 : pn h4 ≤ N := ss_n' f4.1 hN3
          have hS4 : ps h4 ≤ S := ss_s' f4.1 hS3
          have hN5 : pn h5 ≤ N := ss_n' f5.1 hN4
          have hS5 : ps h5 ≤ S := ss_s' f5.1 hS4
          refine z_aload_n dX9_foretellClause_52 rfl rfl ?_
          refine y_getR FX9_16 dX9_foretellClause_53 rfl hm.o hm.f_texts ?_
          refine z_iload_n dX9_foretellClause_56 rfl rfl ?_
          refine z_iconst (v := 2) dX9_foretellClause_57 (by decide) ?_
          refine z_iadd dX9_foretellClause_58 ?_
          refine z_eqi (show _ = nI (x + 2) from nI_add x 2) ?_
          refine z_iload_n dX9_foretellClause_59 rfl rfl ?_
          refine z_if_eq dX9_foretellClause_60 rfl (fun c => absurd c (by decide)) (fun _ => ?_)
          refine z_iconst (v := 1) dX9_foretellClause_63 (by decide) ?_
          refine z_goto dX9_foretellClause_64 rfl ?_
          refine y_iasN (x + 2) dX9_foretellClause_68 hm.A_texts (Nat.le_of_ble_eq_true rfl) (rfl) (by omega) ?_
          refine z_aload_n dX9_foretellClause_69 rfl rfl ?_
          refine y_callV (as := []) CX9_nextToken LX9_173 IX9_nextToken VX9_nextToken ⟨rfl, Nat.le_of_ble_eq_true rfl⟩ dX9_foretellClause_70 hm.o rfl (Nat.le_of_ble_eq_true rfl) (Nat.le_of_ble_eq_true rfl) (by omega) s3 rok_v (hg_ss f3b.1 hN hS) ?_
          refine z_aload_n dX9_foretellClause_73 rfl rfl ?_
          refine z_iload_n dX9_foretellClause_74 rfl rfl ?_
          refine z_iconst (v := 3) dX9_foretellClause_75 (by decide) ?_
          refine z_iadd dX9_foretellClause_76 ?_
          refine z_eqi (show _ = nI (x + 3) from nI_add x 3) ?_
          refine y_callV (as := [_]) CX9_factsClause LX9_235 IX9_factsClause VX9_factsClause ⟨rfl, Nat.le_of_ble_eq_true rfl⟩ dX9_foretellClause_77 (f3.1.O hm.o) rfl (Nat.le_of_ble_eq_true rfl) (Nat.le_of_ble_eq_true rfl) (by omega) s4 rok_i (hg_ss f4.1 hN3 hS3) ?_
          refine z_istore_n dX9_foretellClause_80 rfl (Nat.le_of_ble_eq_true rfl) ?_
          refine z_iload_n dX9_foretellClause_81 rfl rfl ?_
          refine z_if_ne dX9_foretellClause_82 rfl (fun c => absurd (rfl) c) (fun _ => ?_)
          refine z_aload_n dX9_foretellClause_85 rfl rfl ?_
          refine z_bipush (v := 105) dX9_foretellClause_86 (by decide) ?_
          refine z_bipush (v := 110) dX9_foretellClause_88 (by decide) ?_
          refine y_callS (as := [_, _]) CX9_w2 LX9_128 SX9_w2 dX9_foretellClause_90 rfl (Nat.le_of_ble_eq_true rfl) (Nat.le_of_ble_eq_true rfl) (by omega) (r_w2 (d := 0) (a0 := 105) (a1 := 110) (by omega) (by omega) (Nat.le_refl _)) rok_l ⟨Nat.le_refl _, Nat.le_refl _, hN4, hS4⟩ ?_
          refine z_eql (show _ = lN 26990 from rfl) ?_
          refine z_iload_n dX9_foretellClause_93 rfl rfl ?_
          refine z_iconst (v := 4) dX9_foretellClause_94 (by decide) ?_
          refine z_iadd dX9_foretellClause_95 ?_
          refine z_eqi (show _ = nI (x + 4) from nI_add x 4) ?_
          refine z_iconst (v := 1) dX9_foretellClause_96 (by decide) ?_
          refine z_bipush (v := 99) dX9_foretellClause_97 (by decide) ?_
          refine y_callV (as := [_, _, _, _]) CX9_worded LX9_231 IX9_worded VX9_worded ⟨rfl, Nat.le_of_ble_eq_true rfl⟩ dX9_foretellClause_99 ((f3.tr f4).1.O hm.o) rfl (Nat.le_of_ble_eq_true rfl) (Nat.le_of_ble_eq_true rfl) (by omega) s5 rok_i (hg_ss f5.1 hN4 hS4) ?_
          refine z_istore_n dX9_foretellClause_102 rfl (Nat.le_of_ble_eq_true rfl) ?_
          refine z_iload_n dX9_foretellClause_103 rfl rfl ?_
          refine z_if_eq dX9_foretellClause_104 rfl (fun _ => ?_) (fun c => absurd (rfl) c)
          refine z_aload_n dX9_foretellClause_111 rfl rfl ?_
          refine z_bipush (v := 102) dX9_foretellClause_112 (by decide) ?_
          refine z_bipush (v := 101) dX9_foretellClause_114 (by decide) ?_
          refine z_bipush (v := 101) dX9_foretellClause_116 (by decide) ?_
          refine y_callS (as := [_, _, _]) CX9_w3 LX9_132 SX9_w3 dX9_foretellClause_118 rfl (Nat.le_of_ble_eq_true rfl) (Nat.le_of_ble_eq_true rfl) (by omega) (r_w3 (d := 1) (a0 := 102) (a1 := 101) (a2 := 101) (by omega) (by omega) (by omega) (Nat.le_refl _)) rok_l ⟨Nat.le_refl _, Nat.le_refl _, hN5, hS5⟩ ?_
          refine z_eql (show _ = lN 6710629 from rfl) ?_
          refine z_iload_n dX9_foretellClause_121 rfl rfl ?_
          refine z_iconst (v := 5) dX9_foretellClause_122 (by decide) ?_
          refine z_iadd dX9_foretellClause_123 ?_
          refine z_eqi (show _ = nI (x + 5) from nI_add x 5) ?_
          refine z_iconst (v := 0) dX9_foretellClause_124 (by decide) ?_
          refine z_sipush (v := 999) dX9_foretellClause_125 (by decide) ?_
          refine y_callV (as := [_, _, _, _]) CX9_worded LX9_231 IX9_worded VX9_worded ⟨rfl, Nat.le_of_ble_eq_true rfl⟩ dX9_foretellClause_128 (((f3.tr f4).tr f5).1.O hm.o) rfl (Nat.le_of_ble_eq_true rfl) (Nat.le_of_ble_eq_true rfl) (by omega) s6 rok_i (hg_ss f6.1 hN5 hS5) ?_
          refine z_iret dX9_foretellClause_131 ?_
          exact hQ
      · rw [if_neg hz5]
        refine ⟨h5, _, q5, (f3.tr f4).tr f5, fun j hj => by rw [wrN_n _ _ _ (by omega)]; exact fr4 j (by omega), fun w0 => absurd w0 hz5, ?_⟩
        intro N S Q hN hS hQ
        have hN3 : pn h3 ≤ N := ss_n' f3.1 hN
        have hS3 : ps h3 ≤ S := ss_s' f3.1 hS
        have hN4 : pn h4 ≤ N := ss_n' f4.1 hN3
        have hS4 : ps h4 ≤ S := ss_s' f4.1 hS3
        refine z_aload_n dX9_foretellClause_52 rfl rfl ?_
        refine y_getR FX9_16 dX9_foretellClause_53 rfl hm.o hm.f_texts ?_
        refine z_iload_n dX9_foretellClause_56 rfl rfl ?_
        refine z_iconst (v := 2) dX9_foretellClause_57 (by decide) ?_
        refine z_iadd dX9_foretellClause_58 ?_
        refine z_eqi (show _ = nI (x + 2) from nI_add x 2) ?_
        refine z_iload_n dX9_foretellClause_59 rfl rfl ?_
        refine z_if_eq dX9_foretellClause_60 rfl (fun c => absurd c (by decide)) (fun _ => ?_)
        refine z_iconst (v := 1) dX9_foretellClause_63 (by decide) ?_
        refine z_goto dX9_foretellClause_64 rfl ?_
        refine y_iasN (x + 2) dX9_foretellClause_68 hm.A_texts (Nat.le_of_ble_eq_true rfl) (rfl) (by omega) ?_
        refine z_aload_n dX9_foretellClause_69 rfl rfl ?_
        refine y_callV (as := []) CX9_nextToken LX9_173 IX9_nextToken VX9_nextToken ⟨rfl, Nat.le_of_ble_eq_true rfl⟩ dX9_foretellClause_70 hm.o rfl (Nat.le_of_ble_eq_true rfl) (Nat.le_of_ble_eq_true rfl) (by omega) s3 rok_v (hg_ss f3b.1 hN hS) ?_
        refine z_aload_n dX9_foretellClause_73 rfl rfl ?_
        refine z_iload_n dX9_foretellClause_74 rfl rfl ?_
        refine z_iconst (v := 3) dX9_foretellClause_75 (by decide) ?_
        refine z_iadd dX9_foretellClause_76 ?_
        refine z_eqi (show _ = nI (x + 3) from nI_add x 3) ?_
        refine y_callV (as := [_]) CX9_factsClause LX9_235 IX9_factsClause VX9_factsClause ⟨rfl, Nat.le_of_ble_eq_true rfl⟩ dX9_foretellClause_77 (f3.1.O hm.o) rfl (Nat.le_of_ble_eq_true rfl) (Nat.le_of_ble_eq_true rfl) (by omega) s4 rok_i (hg_ss f4.1 hN3 hS3) ?_
        refine z_istore_n dX9_foretellClause_80 rfl (Nat.le_of_ble_eq_true rfl) ?_
        refine z_iload_n dX9_foretellClause_81 rfl rfl ?_
        refine z_if_ne dX9_foretellClause_82 rfl (fun c => absurd (rfl) c) (fun _ => ?_)
        refine z_aload_n dX9_foretellClause_85 rfl rfl ?_
        refine z_bipush (v := 105) dX9_foretellClause_86 (by decide) ?_
        refine z_bipush (v := 110) dX9_foretellClause_88 (by decide) ?_
        refine y_callS (as := [_, _]) CX9_w2 LX9_128 SX9_w2 dX9_foretellClause_90 rfl (Nat.le_of_ble_eq_true rfl) (Nat.le_of_ble_eq_true rfl) (by omega) (r_w2 (d := 0) (a0 := 105) (a1 := 110) (by omega) (by omega) (Nat.le_refl _)) rok_l ⟨Nat.le_refl _, Nat.le_refl _, hN4, hS4⟩ ?_
        refine z_eql (show _ = lN 26990 from rfl) ?_
        refine z_iload_n dX9_foretellClause_93 rfl rfl ?_
        refine z_iconst (v := 4) dX9_foretellClause_94 (by decide) ?_
        refine z_iadd dX9_foretellClause_95 ?_
        refine z_eqi (show _ = nI (x + 4) from nI_add x 4) ?_
        refine z_iconst (v := 1) dX9_foretellClause_96 (by decide) ?_
        refine z_bipush (v := 99) dX9_foretellClause_97 (by decide) ?_
        refine y_callV (as := [_, _, _, _]) CX9_worded LX9_231 IX9_worded VX9_worded ⟨rfl, Nat.le_of_ble_eq_true rfl⟩ dX9_foretellClause_99 ((f3.tr f4).1.O hm.o) rfl (Nat.le_of_ble_eq_true rfl) (Nat.le_of_ble_eq_true rfl) (by omega) s5 rok_i (hg_ss f5.1 hN4 hS4) ?_
        refine z_istore_n dX9_foretellClause_102 rfl (Nat.le_of_ble_eq_true rfl) ?_
        refine z_iload_n dX9_foretellClause_103 rfl rfl ?_
        refine z_if_eq dX9_foretellClause_104 rfl (fun c => absurd c (fun w => hz5 ((nI_eq (b := 0) (by omega) (by omega)).mp w))) (fun _ => ?_)
        refine z_iload_n dX9_foretellClause_107 rfl rfl ?_
        refine z_goto dX9_foretellClause_108 rfl ?_
        refine z_iret dX9_foretellClause_131 ?_
        exact hQ
    · rw [if_neg hz]
      refine ⟨h4, tf4, q4, f3.tr f4, fun j hj => fr4 j (by omega), fun w0 => absurd w0 hz, ?_⟩
      intro N S Q hN hS hQ
      have hN3 : pn h3 ≤ N := ss_n' f3.1 hN
      have hS3 : ps h3 ≤ S := ss_s' f3.1 hS
      refine z_aload_n dX9_foretellClause_52 rfl rfl ?_
      refine y_getR FX9_16 dX9_foretellClause_53 rfl hm.o hm.f_texts ?_
      refine z_iload_n dX9_foretellClause_56 rfl rfl ?_
      refine z_iconst (v := 2) dX9_foretellClause_57 (by decide) ?_
      refine z_iadd dX9_foretellClause_58 ?_
      refine z_eqi (show _ = nI (x + 2) from nI_add x 2) ?_
      refine z_iload_n dX9_foretellClause_59 rfl rfl ?_
      refine z_if_eq dX9_foretellClause_60 rfl (fun c => absurd c (by decide)) (fun _ => ?_)
      refine z_iconst (v := 1) dX9_foretellClause_63 (by decide) ?_
      refine z_goto dX9_foretellClause_64 rfl ?_
      refine y_iasN (x + 2) dX9_foretellClause_68 hm.A_texts (Nat.le_of_ble_eq_true rfl) (rfl) (by omega) ?_
      refine z_aload_n dX9_foretellClause_69 rfl rfl ?_
      refine y_callV (as := []) CX9_nextToken LX9_173 IX9_nextToken VX9_nextToken ⟨rfl, Nat.le_of_ble_eq_true rfl⟩ dX9_foretellClause_70 hm.o rfl (Nat.le_of_ble_eq_true rfl) (Nat.le_of_ble_eq_true rfl) (by omega) s3 rok_v (hg_ss f3b.1 hN hS) ?_
      refine z_aload_n dX9_foretellClause_73 rfl rfl ?_
      refine z_iload_n dX9_foretellClause_74 rfl rfl ?_
      refine z_iconst (v := 3) dX9_foretellClause_75 (by decide) ?_
      refine z_iadd dX9_foretellClause_76 ?_
      refine z_eqi (show _ = nI (x + 3) from nI_add x 3) ?_
      refine y_callV (as := [_]) CX9_factsClause LX9_235 IX9_factsClause VX9_factsClause ⟨rfl, Nat.le_of_ble_eq_true rfl⟩ dX9_foretellClause_77 (f3.1.O hm.o) rfl (Nat.le_of_ble_eq_true rfl) (Nat.le_of_ble_eq_true rfl) (by omega) s4 rok_i (hg_ss f4.1 hN3 hS3) ?_
      refine z_istore_n dX9_foretellClause_80 rfl (Nat.le_of_ble_eq_true rfl) ?_
      refine z_iload_n dX9_foretellClause_81 rfl rfl ?_
      refine z_if_ne dX9_foretellClause_82 rfl (fun _ => ?_) (fun c => absurd c (fun w => hz ((nI_eq (b := 0) (by omega) (by omega)).mp w)))
      refine z_iload_n dX9_foretellClause_103 rfl rfl ?_
      refine z_if_eq dX9_foretellClause_104 rfl (fun c => absurd c (fun w => hz ((nI_eq (b := 0) (by omega) (by omega)).mp w))) (fun _ => ?_)
      refine z_iload_n dX9_foretellClause_107 rfl rfl ?_
      refine z_goto dX9_foretellClause_108 rfl ?_
      refine z_iret dX9_foretellClause_131 ?_
      exact hQ
  · skip
    have q2 := q.wr (x + 2) (nI 0)
    obtain ⟨h3, s3, q3, f3b⟩ := r_nx (d := 1) q2 ht (Nat.le_refl _)
    have f3 : FR4 h h3 := (FR4.rf.i (Or.inr rfl)).tr f3b
    obtain ⟨h4, tf4, s4, q4, g4, f4, e4⟩ := r_facts (d := 3) (x := x + 3) q3 ht (by omega) (Nat.le_refl _)
    have z4 := (rdX_z (K := (tK (TPs s) (TNs s))) (W := (wN s)) 7 (i + 1) 0).1
    have c2 : tf4 (x + 2) = nI 0 := by rw [g4 _ (by omega)]; exact upT_s
    have fr4 : ∀ j, (j < x + 2 ∨ x + 6 ≤ j) → tf4 j = tf j := fun j hj => by rw [g4 j (by omega), upT_n (by omega)]
    by_cases hz : (rdX (tK (TPs s) (TNs s)) (wN s) 7 (i + 1) 0).1 = 0
    · obtain ⟨h5, s5, q5, f5⟩ := g_wor (d := 3) (x0 := x + 4) (x := x + 4) (tf := tf4) (ns := []) (lo := 1) (hi := 99) (v := 26990) (k := 15) q4 ht (fun p => wd_15 (ht.b p)) (by omega) rfl (by omega) (by omega) (Nat.le_refl _)
      have z5 := rdW_z (K := (tK (TPs s) (TNs s))) (W := (wN s)) (l := [(15, 1, 99)]) (i := (rdX (tK (TPs s) (TNs s)) (wN s) 7 (i + 1) 0).2.1) (ns := [])
      have l5 := rdW_ln (K := (tK (TPs s) (TNs s))) (W := (wN s)) (l := [(15, 1, 99)]) (i := (rdX (tK (TPs s) (TNs s)) (wN s) 7 (i + 1) 0).2.1) (ns := [])
      have l5 : (rdW (tK (TPs s) (TNs s)) (wN s) [(15, 1, 99)] (rdX (tK (TPs s) (TNs s)) (wN s) 7 (i + 1) 0).2.1 []).2.2.length ≤ 1 := l5
      rw [hz] at s4
      have er : rdW (tK (TPs s) (TNs s)) (wN s) [(15, 1, 99), (16, 0, 999)] (rdX (tK (TPs s) (TNs s)) (wN s) 7 (i + 1) 0).2.1 [u, 0, (rdX (tK (TPs s) (TNs s)) (wN s) 7 (i + 1) 0).2.2] = if (rdW (tK (TPs s) (TNs s)) (wN s) [(15, 1, 99)] (rdX (tK (TPs s) (TNs s)) (wN s) 7 (i + 1) 0).2.1 []).1 = 0 then ((rdW (tK (TPs s) (TNs s)) (wN s) [(16, 0, 999)] (rdW (tK (TPs s) (TNs s)) (wN s) [(15, 1, 99)] (rdX (tK (TPs s) (TNs s)) (wN s) 7 (i + 1) 0).2.1 []).2.1 (rdW (tK (TPs s) (TNs s)) (wN s) [(15, 1, 99)] (rdX (tK (TPs s) (TNs s)) (wN s) 7 (i + 1) 0).2.1 []).2.2).1, (rdW (tK (TPs s) (TNs s)) (wN s) [(16, 0, 999)] (rdW (tK (TPs s) (TNs s)) (wN s) [(15, 1, 99)] (rdX (tK (TPs s) (TNs s)) (wN s) 7 (i + 1) 0).2.1 []).2.1 (rdW (tK (TPs s) (TNs s)) (wN s) [(15, 1, 99)] (rdX (tK (TPs s) (TNs s)) (wN s) 7 (i + 1) 0).2.1 []).2.2).2.1, [u, 0, (rdX (tK (TPs s) (TNs s)) (wN s) 7 (i + 1) 0).2.2] ++ (rdW (tK (TPs s) (TNs s)) (wN s) [(16, 0, 999)] (rdW (tK (TPs s) (TNs s)) (wN s) [(15, 1, 99)] (rdX (tK (TPs s) (TNs s)) (wN s) 7 (i + 1) 0).2.1 []).2.1 (rdW (tK (TPs s) (TNs s)) (wN s) [(15, 1, 99)] (rdX (tK (TPs s) (TNs s)) (wN s) 7 (i + 1) 0).2.1 []).2.2).2.2) else ((rdW (tK (TPs s) (TNs s)) (wN s) [(15, 1, 99)] (rdX (tK (TPs s) (TNs s)) (wN s) 7 (i + 1) 0).2.1 []).1, (rdW (tK (TPs s) (TNs s)) (wN s) [(15, 1, 99)] (rdX (tK (TPs s) (TNs s)) (wN s) 7 (i + 1) 0).2.1 []).2.1, [u, 0, (rdX (tK (TPs s) (TNs s)) (wN s) 7 (i + 1) 0).2.2] ++ (rdW (tK (TPs s) (TNs s)) (wN s) [(15, 1, 99)] (rdX (tK (TPs s) (TNs s)) (wN s) 7 (i + 1) 0).2.1 []).2.2) := by
        have e0 := rdW_pre (K := (tK (TPs s) (TNs s))) (W := (wN s)) (l := [(15, 1, 99), (16, 0, 999)]) (i := (rdX (tK (TPs s) (TNs s)) (wN s) 7 (i + 1) 0).2.1) [u, 0, (rdX (tK (TPs s) (TNs s)) (wN s) 7 (i + 1) 0).2.2] (b := [])
        rw [List.append_nil] at e0
        rw [e0, rdW_cons]
        by_cases hz5 : (rdW (tK (TPs s) (TNs s)) (wN s) [(15, 1, 99)] (rdX (tK (TPs s) (TNs s)) (wN s) 7 (i + 1) 0).2.1 []).1 = 0
        · rw [if_pos hz5, if_pos hz5]
        · rw [if_neg hz5, if_neg hz5]
      rw [if_pos hz, er]
      by_cases hz5 : (rdW (tK (TPs s) (TNs s)) (wN s) [(15, 1, 99)] (rdX (tK (TPs s) (TNs s)) (wN s) 7 (i + 1) 0).2.1 []).1 = 0
      · have l5y : (rdW (tK (TPs s) (TNs s)) (wN s) [(15, 1, 99)] (rdX (tK (TPs s) (TNs s)) (wN s) 7 (i + 1) 0).2.1 []).2.2.length = 1 := rdW_len hz5
        obtain ⟨h6, s6, q6, f6⟩ := g_wor (d := 3) (x0 := x + 4) (x := x + 5) (tf := tf4) (lo := 0) (hi := 999) (v := 6710629) (k := 16) q5 ht (fun p => wd_16 (ht.b p)) (by omega) (by rw [l5y]) (by omega) (by omega) (Nat.le_refl _)
        have l6 := rdW_ln (K := (tK (TPs s) (TNs s))) (W := (wN s)) (l := [(16, 0, 999)]) (i := (rdW (tK (TPs s) (TNs s)) (wN s) [(15, 1, 99)] (rdX (tK (TPs s) (TNs s)) (wN s) 7 (i + 1) 0).2.1 []).2.1) (ns := (rdW (tK (TPs s) (TNs s)) (wN s) [(15, 1, 99)] (rdX (tK (TPs s) (TNs s)) (wN s) 7 (i + 1) 0).2.1 []).2.2)
        have l6 : (rdW (tK (TPs s) (TNs s)) (wN s) [(16, 0, 999)] (rdW (tK (TPs s) (TNs s)) (wN s) [(15, 1, 99)] (rdX (tK (TPs s) (TNs s)) (wN s) 7 (i + 1) 0).2.1 []).2.1 (rdW (tK (TPs s) (TNs s)) (wN s) [(15, 1, 99)] (rdX (tK (TPs s) (TNs s)) (wN s) 7 (i + 1) 0).2.1 []).2.2).2.2.length ≤ (rdW (tK (TPs s) (TNs s)) (wN s) [(15, 1, 99)] (rdX (tK (TPs s) (TNs s)) (wN s) 7 (i + 1) 0).2.1 []).2.2.length + 1 := l6
        rw [hz5] at s5
        rw [if_pos hz5]
        refine ⟨h6, _, q6, ((f3.tr f4).tr f5).tr f6, fun j hj => by rw [wrN_n _ _ _ (by omega)]; exact fr4 j (by omega), ?_, ?_⟩
        · intro w0
          have l6y : (rdW (tK (TPs s) (TNs s)) (wN s) [(16, 0, 999)] (rdW (tK (TPs s) (TNs s)) (wN s) [(15, 1, 99)] (rdX (tK (TPs s) (TNs s)) (wN s) 7 (i + 1) 0).2.1 []).2.1 (rdW (tK (TPs s) (TNs s)) (wN s) [(15, 1, 99)] (rdX (tK (TPs s) (TNs s)) (wN s) 7 (i + 1) 0).2.1 []).2.2).2.2.length = (rdW (tK (TPs s) (TNs s)) (wN s) [(15, 1, 99)] (rdX (tK (TPs s) (TNs s)) (wN s) 7 (i + 1) 0).2.1 []).2.2.length + 1 := rdW_len w0
          refine fun c v hc => ?_
          have w0 : (rdW (tK (TPs s) (TNs s)) (wN s) [(16, 0, 999)] (rdW (tK (TPs s) (TNs s)) (wN s) [(15, 1, 99)] (rdX (tK (TPs s) (TNs s)) (wN s) 7 (i + 1) 0).2.1 []).2.1 (rdW (tK (TPs s) (TNs s)) (wN s) [(15, 1, 99)] (rdX (tK (TPs s) (TNs s)) (wN s) 7 (i + 1) 0).2.1 []).2.2).1 = 0 := w0
          have hc : ([u, 0, (rdX (tK (TPs s) (TNs s)) (wN s) 7 (i + 1) 0).2.2] ++ (rdW (tK (TPs s) (TNs s)) (wN s) [(16, 0, 999)] (rdW (tK (TPs s) (TNs s)) (wN s) [(15, 1, 99)] (rdX (tK (TPs s) (TNs s)) (wN s) 7 (i + 1) 0).2.1 []).2.1 (rdW (tK (TPs s) (TNs s)) (wN s) [(15, 1, 99)] (rdX (tK (TPs s) (TNs s)) (wN s) 7 (i + 1) 0).2.1 []).2.2).2.2)[c]? = some v := hc
          by_cases c3 : c < 3
          · rw [List.getElem?_append_left (by exact c3)] at hc
            rw [wrN_n _ _ _ (by omega)]
            have c4 : c = 0 ∨ c = 1 ∨ c = 2 := by omega
            rcases c4 with rfl | rfl | rfl
            · cases hc
              rw [fr4 _ (by omega)]
              exact c1
            · cases hc
              exact c2
            · cases hc
              exact e4 hz
          · rw [List.getElem?_append_right (by show 3 ≤ c; omega)] at hc
            have hc : (rdW (tK (TPs s) (TNs s)) (wN s) [(16, 0, 999)] (rdW (tK (TPs s) (TNs s)) (wN s) [(15, 1, 99)] (rdX (tK (TPs s) (TNs s)) (wN s) 7 (i + 1) 0).2.1 []).2.1 (rdW (tK (TPs s) (TNs s)) (wN s) [(15, 1, 99)] (rdX (tK (TPs s) (TNs s)) (wN s) 7 (i + 1) 0).2.1 []).2.2).2.2[c - 3]? = some v := hc
            have := wrN_y (tf := tf4) (rdW (tK (TPs s) (TNs s)) (wN s) [(16, 0, 999)] (rdW (tK (TPs s) (TNs s)) (wN s) [(15, 1, 99)] (rdX (tK (TPs s) (TNs s)) (wN s) 7 (i + 1) 0).2.1 []).2.1 (rdW (tK (TPs s) (TNs s)) (wN s) [(15, 1, 99)] (rdX (tK (TPs s) (TNs s)) (wN s) 7 (i + 1) 0).2.1 []).2.2).2.2 (x + 4) (c - 3) v hc
            rw [show x + 4 + (c - 3) = x + 1 + c by omega] at this
            exact this
        · intro N S Q hN hS hQ
          have hN3 : pn h3 ≤ N := ss_n' f3.1 hN
          have hS3 : ps h3 ≤ S := ss_s' f3.1 hS
          have hN4 : pn h4 ≤ N := ss_n' f4.1 hN3
          have hS4 : ps h4 ≤ S := ss_s' f4.1 hS3
          have hN5 : pn h5 ≤ N := ss_n' f5.1 hN4
          have hS5 : ps h5 ≤ S := ss_s' f5.1 hS4
          refine z_aload_n dX9_foretellClause_52 rfl rfl ?_
          refine y_getR FX9_16 dX9_foretellClause_53 rfl hm.o hm.f_texts ?_
          refine z_iload_n dX9_foretellClause_56 rfl rfl ?_
          refine z_iconst (v := 2) dX9_foretellClause_57 (by decide) ?_
          refine z_iadd dX9_foretellClause_58 ?_
          refine z_eqi (show _ = nI (x + 2) from nI_add x 2) ?_
          refine z_iload_n dX9_foretellClause_59 rfl rfl ?_
          refine z_if_eq dX9_foretellClause_60 rfl (fun _ => ?_) (fun c => absurd (by decide) c)
          refine z_iconst (v := 0) dX9_foretellClause_67 (by decide) ?_
          refine y_iasN (x + 2) dX9_foretellClause_68 hm.A_texts (Nat.le_of_ble_eq_true rfl) (rfl) (by omega) ?_
          refine z_aload_n dX9_foretellClause_69 rfl rfl ?_
          refine y_callV (as := []) CX9_nextToken LX9_173 IX9_nextToken VX9_nextToken ⟨rfl, Nat.le_of_ble_eq_true rfl⟩ dX9_foretellClause_70 hm.o rfl (Nat.le_of_ble_eq_true rfl) (Nat.le_of_ble_eq_true rfl) (by omega) s3 rok_v (hg_ss f3b.1 hN hS) ?_
          refine z_aload_n dX9_foretellClause_73 rfl rfl ?_
          refine z_iload_n dX9_foretellClause_74 rfl rfl ?_
          refine z_iconst (v := 3) dX9_foretellClause_75 (by decide) ?_
          refine z_iadd dX9_foretellClause_76 ?_
          refine z_eqi (show _ = nI (x + 3) from nI_add x 3) ?_
          refine y_callV (as := [_]) CX9_factsClause LX9_235 IX9_factsClause VX9_factsClause ⟨rfl, Nat.le_of_ble_eq_true rfl⟩ dX9_foretellClause_77 (f3.1.O hm.o) rfl (Nat.le_of_ble_eq_true rfl) (Nat.le_of_ble_eq_true rfl) (by omega) s4 rok_i (hg_ss f4.1 hN3 hS3) ?_
          refine z_istore_n dX9_foretellClause_80 rfl (Nat.le_of_ble_eq_true rfl) ?_
          refine z_iload_n dX9_foretellClause_81 rfl rfl ?_
          refine z_if_ne dX9_foretellClause_82 rfl (fun c => absurd (rfl) c) (fun _ => ?_)
          refine z_aload_n dX9_foretellClause_85 rfl rfl ?_
          refine z_bipush (v := 105) dX9_foretellClause_86 (by decide) ?_
          refine z_bipush (v := 110) dX9_foretellClause_88 (by decide) ?_
          refine y_callS (as := [_, _]) CX9_w2 LX9_128 SX9_w2 dX9_foretellClause_90 rfl (Nat.le_of_ble_eq_true rfl) (Nat.le_of_ble_eq_true rfl) (by omega) (r_w2 (d := 0) (a0 := 105) (a1 := 110) (by omega) (by omega) (Nat.le_refl _)) rok_l ⟨Nat.le_refl _, Nat.le_refl _, hN4, hS4⟩ ?_
          refine z_eql (show _ = lN 26990 from rfl) ?_
          refine z_iload_n dX9_foretellClause_93 rfl rfl ?_
          refine z_iconst (v := 4) dX9_foretellClause_94 (by decide) ?_
          refine z_iadd dX9_foretellClause_95 ?_
          refine z_eqi (show _ = nI (x + 4) from nI_add x 4) ?_
          refine z_iconst (v := 1) dX9_foretellClause_96 (by decide) ?_
          refine z_bipush (v := 99) dX9_foretellClause_97 (by decide) ?_
          refine y_callV (as := [_, _, _, _]) CX9_worded LX9_231 IX9_worded VX9_worded ⟨rfl, Nat.le_of_ble_eq_true rfl⟩ dX9_foretellClause_99 ((f3.tr f4).1.O hm.o) rfl (Nat.le_of_ble_eq_true rfl) (Nat.le_of_ble_eq_true rfl) (by omega) s5 rok_i (hg_ss f5.1 hN4 hS4) ?_
          refine z_istore_n dX9_foretellClause_102 rfl (Nat.le_of_ble_eq_true rfl) ?_
          refine z_iload_n dX9_foretellClause_103 rfl rfl ?_
          refine z_if_eq dX9_foretellClause_104 rfl (fun _ => ?_) (fun c => absurd (rfl) c)
          refine z_aload_n dX9_foretellClause_111 rfl rfl ?_
          refine z_bipush (v := 102) dX9_foretellClause_112 (by decide) ?_
          refine z_bipush (v := 101) dX9_foretellClause_114 (by decide) ?_
          refine z_bipush (v := 101) dX9_foretellClause_116 (by decide) ?_
          refine y_callS (as := [_, _, _]) CX9_w3 LX9_132 SX9_w3 dX9_foretellClause_118 rfl (Nat.le_of_ble_eq_true rfl) (Nat.le_of_ble_eq_true rfl) (by omega) (r_w3 (d := 1) (a0 := 102) (a1 := 101) (a2 := 101) (by omega) (by omega) (by omega) (Nat.le_refl _)) rok_l ⟨Nat.le_refl _, Nat.le_refl _, hN5, hS5⟩ ?_
          refine z_eql (show _ = lN 6710629 from rfl) ?_
          refine z_iload_n dX9_foretellClause_121 rfl rfl ?_
          refine z_iconst (v := 5) dX9_foretellClause_122 (by decide) ?_
          refine z_iadd dX9_foretellClause_123 ?_
          refine z_eqi (show _ = nI (x + 5) from nI_add x 5) ?_
          refine z_iconst (v := 0) dX9_foretellClause_124 (by decide) ?_
          refine z_sipush (v := 999) dX9_foretellClause_125 (by decide) ?_
          refine y_callV (as := [_, _, _, _]) CX9_worded LX9_231 IX9_worded VX9_worded ⟨rfl, Nat.le_of_ble_eq_true rfl⟩ dX9_foretellClause_128 (((f3.tr f4).tr f5).1.O hm.o) rfl (Nat.le_of_ble_eq_true rfl) (Nat.le_of_ble_eq_true rfl) (by omega) s6 rok_i (hg_ss f6.1 hN5 hS5) ?_
          refine z_iret dX9_foretellClause_131 ?_
          exact hQ
      · rw [if_neg hz5]
        refine ⟨h5, _, q5, (f3.tr f4).tr f5, fun j hj => by rw [wrN_n _ _ _ (by omega)]; exact fr4 j (by omega), fun w0 => absurd w0 hz5, ?_⟩
        intro N S Q hN hS hQ
        have hN3 : pn h3 ≤ N := ss_n' f3.1 hN
        have hS3 : ps h3 ≤ S := ss_s' f3.1 hS
        have hN4 : pn h4 ≤ N := ss_n' f4.1 hN3
        have hS4 : ps h4 ≤ S := ss_s' f4.1 hS3
        refine z_aload_n dX9_foretellClause_52 rfl rfl ?_
        refine y_getR FX9_16 dX9_foretellClause_53 rfl hm.o hm.f_texts ?_
        refine z_iload_n dX9_foretellClause_56 rfl rfl ?_
        refine z_iconst (v := 2) dX9_foretellClause_57 (by decide) ?_
        refine z_iadd dX9_foretellClause_58 ?_
        refine z_eqi (show _ = nI (x + 2) from nI_add x 2) ?_
        refine z_iload_n dX9_foretellClause_59 rfl rfl ?_
        refine z_if_eq dX9_foretellClause_60 rfl (fun _ => ?_) (fun c => absurd (by decide) c)
        refine z_iconst (v := 0) dX9_foretellClause_67 (by decide) ?_
        refine y_iasN (x + 2) dX9_foretellClause_68 hm.A_texts (Nat.le_of_ble_eq_true rfl) (rfl) (by omega) ?_
        refine z_aload_n dX9_foretellClause_69 rfl rfl ?_
        refine y_callV (as := []) CX9_nextToken LX9_173 IX9_nextToken VX9_nextToken ⟨rfl, Nat.le_of_ble_eq_true rfl⟩ dX9_foretellClause_70 hm.o rfl (Nat.le_of_ble_eq_true rfl) (Nat.le_of_ble_eq_true rfl) (by omega) s3 rok_v (hg_ss f3b.1 hN hS) ?_
        refine z_aload_n dX9_foretellClause_73 rfl rfl ?_
        refine z_iload_n dX9_foretellClause_74 rfl rfl ?_
        refine z_iconst (v := 3) dX9_foretellClause_75 (by decide) ?_
        refine z_iadd dX9_foretellClause_76 ?_
        refine z_eqi (show _ = nI (x + 3) from nI_add x 3) ?_
        refine y_callV (as := [_]) CX9_factsClause LX9_235 IX9_factsClause VX9_factsClause ⟨rfl, Nat.le_of_ble_eq_true rfl⟩ dX9_foretellClause_77 (f3.1.O hm.o) rfl (Nat.le_of_ble_eq_true rfl) (Nat.le_of_ble_eq_true rfl) (by omega) s4 rok_i (hg_ss f4.1 hN3 hS3) ?_
        refine z_istore_n dX9_foretellClause_80 rfl (Nat.le_of_ble_eq_true rfl) ?_
        refine z_iload_n dX9_foretellClause_81 rfl rfl ?_
        refine z_if_ne dX9_foretellClause_82 rfl (fun c => absurd (rfl) c) (fun _ => ?_)
        refine z_aload_n dX9_foretellClause_85 rfl rfl ?_
        refine z_bipush (v := 105) dX9_foretellClause_86 (by decide) ?_
        refine z_bipush (v := 110) dX9_foretellClause_88 (by decide) ?_
        refine y_callS (as := [_, _]) CX9_w2 LX9_128 SX9_w2 dX9_foretellClause_90 rfl (Nat.le_of_ble_eq_true rfl) (Nat.le_of_ble_eq_true rfl) (by omega) (r_w2 (d := 0) (a0 := 105) (a1 := 110) (by omega) (by omega) (Nat.le_refl _)) rok_l ⟨Nat.le_refl _, Nat.le_refl _, hN4, hS4⟩ ?_
        refine z_eql (show _ = lN 26990 from rfl) ?_
        refine z_iload_n dX9_foretellClause_93 rfl rfl ?_
        refine z_iconst (v := 4) dX9_foretellClause_94 (by decide) ?_
        refine z_iadd dX9_foretellClause_95 ?_
        refine z_eqi (show _ = nI (x + 4) from nI_add x 4) ?_
        refine z_iconst (v := 1) dX9_foretellClause_96 (by decide) ?_
        refine z_bipush (v := 99) dX9_foretellClause_97 (by decide) ?_
        refine y_callV (as := [_, _, _, _]) CX9_worded LX9_231 IX9_worded VX9_worded ⟨rfl, Nat.le_of_ble_eq_true rfl⟩ dX9_foretellClause_99 ((f3.tr f4).1.O hm.o) rfl (Nat.le_of_ble_eq_true rfl) (Nat.le_of_ble_eq_true rfl) (by omega) s5 rok_i (hg_ss f5.1 hN4 hS4) ?_
        refine z_istore_n dX9_foretellClause_102 rfl (Nat.le_of_ble_eq_true rfl) ?_
        refine z_iload_n dX9_foretellClause_103 rfl rfl ?_
        refine z_if_eq dX9_foretellClause_104 rfl (fun c => absurd c (fun w => hz5 ((nI_eq (b := 0) (by omega) (by omega)).mp w))) (fun _ => ?_)
        refine z_iload_n dX9_foretellClause_107 rfl rfl ?_
        refine z_goto dX9_foretellClause_108 rfl ?_
        refine z_iret dX9_foretellClause_131 ?_
        exact hQ
    · rw [if_neg hz]
      refine ⟨h4, tf4, q4, f3.tr f4, fun j hj => fr4 j (by omega), fun w0 => absurd w0 hz, ?_⟩
      intro N S Q hN hS hQ
      have hN3 : pn h3 ≤ N := ss_n' f3.1 hN
      have hS3 : ps h3 ≤ S := ss_s' f3.1 hS
      refine z_aload_n dX9_foretellClause_52 rfl rfl ?_
      refine y_getR FX9_16 dX9_foretellClause_53 rfl hm.o hm.f_texts ?_
      refine z_iload_n dX9_foretellClause_56 rfl rfl ?_
      refine z_iconst (v := 2) dX9_foretellClause_57 (by decide) ?_
      refine z_iadd dX9_foretellClause_58 ?_
      refine z_eqi (show _ = nI (x + 2) from nI_add x 2) ?_
      refine z_iload_n dX9_foretellClause_59 rfl rfl ?_
      refine z_if_eq dX9_foretellClause_60 rfl (fun _ => ?_) (fun c => absurd (by decide) c)
      refine z_iconst (v := 0) dX9_foretellClause_67 (by decide) ?_
      refine y_iasN (x + 2) dX9_foretellClause_68 hm.A_texts (Nat.le_of_ble_eq_true rfl) (rfl) (by omega) ?_
      refine z_aload_n dX9_foretellClause_69 rfl rfl ?_
      refine y_callV (as := []) CX9_nextToken LX9_173 IX9_nextToken VX9_nextToken ⟨rfl, Nat.le_of_ble_eq_true rfl⟩ dX9_foretellClause_70 hm.o rfl (Nat.le_of_ble_eq_true rfl) (Nat.le_of_ble_eq_true rfl) (by omega) s3 rok_v (hg_ss f3b.1 hN hS) ?_
      refine z_aload_n dX9_foretellClause_73 rfl rfl ?_
      refine z_iload_n dX9_foretellClause_74 rfl rfl ?_
      refine z_iconst (v := 3) dX9_foretellClause_75 (by decide) ?_
      refine z_iadd dX9_foretellClause_76 ?_
      refine z_eqi (show _ = nI (x + 3) from nI_add x 3) ?_
      refine y_callV (as := [_]) CX9_factsClause LX9_235 IX9_factsClause VX9_factsClause ⟨rfl, Nat.le_of_ble_eq_true rfl⟩ dX9_foretellClause_77 (f3.1.O hm.o) rfl (Nat.le_of_ble_eq_true rfl) (Nat.le_of_ble_eq_true rfl) (by omega) s4 rok_i (hg_ss f4.1 hN3 hS3) ?_
      refine z_istore_n dX9_foretellClause_80 rfl (Nat.le_of_ble_eq_true rfl) ?_
      refine z_iload_n dX9_foretellClause_81 rfl rfl ?_
      refine z_if_ne dX9_foretellClause_82 rfl (fun _ => ?_) (fun c => absurd c (fun w => hz ((nI_eq (b := 0) (by omega) (by omega)).mp w)))
      refine z_iload_n dX9_foretellClause_103 rfl rfl ?_
      refine z_if_eq dX9_foretellClause_104 rfl (fun c => absurd c (fun w => hz ((nI_eq (b := 0) (by omega) (by omega)).mp w))) (fun _ => ?_)
      refine z_iload_n dX9_foretellClause_107 rfl rfl ?_
      refine z_goto dX9_foretellClause_108 rfl ?_
      refine z_iret dX9_foretellClause_131 ?_
      exact hQ

theorem r_foretellC {s : Ms} {t : Nat} {tf : Nat → Int32} {i w on : Nat} {so : Int32} {h : Hp} {d : Nat} (q : RTs s t tf i w so on h) (ht : ITp s) {x : Nat} (hx : x + 6 < 3012) (hd : 5 ≤ d) : BAr s t tf x w so on d mX9_foretellClause [.ref 488, .int (nI x)] h (rdF (tK (TPs s) (TNs s)) (wN s) i) := by
  have hm := q.1.m
  obtain ⟨h1, s1, q1, f1⟩ := g_fig (d := 2) (x := x + 1) (lo := 0) (hi := 4) q ht (by omega) (by omega) (Nat.le_refl _)
  by_cases k1 : (tK (TPs s) (TNs s)) i = 52
  · by_cases k2 : wN s i ≤ 4
    · rw [show rdA (tK (TPs s) (TNs s)) (wN s) 0 4 [] i = (0, i + 1, [wN s i]) by unfold rdA; rw [if_pos k1, if_pos ⟨Nat.zero_le _, k2⟩]; rfl] at s1 q1
      have q1 : RTs s t (upT tf (x + 1) (nI (wN s i))) (i + 1) w so on h1 := q1
      by_cases k3 : (tK (TPs s) (TNs s)) (i + 1) = 14
      · skip
        have eR : rdF (tK (TPs s) (TNs s)) (wN s) i = if (rdX (tK (TPs s) (TNs s)) (wN s) 7 (i + 1 + 1) 0).1 = 0 then rdW (tK (TPs s) (TNs s)) (wN s) [(15, 1, 99), (16, 0, 999)] (rdX (tK (TPs s) (TNs s)) (wN s) 7 (i + 1 + 1) 0).2.1 [wN s i, 1, (rdX (tK (TPs s) (TNs s)) (wN s) 7 (i + 1 + 1) 0).2.2] else ((rdX (tK (TPs s) (TNs s)) (wN s) 7 (i + 1 + 1) 0).1, (rdX (tK (TPs s) (TNs s)) (wN s) 7 (i + 1 + 1) 0).2.1, []) := by
          unfold rdF
          rw [if_pos k1, if_pos k2, if_pos (Or.inl k3)]
          unfold rdF2
          rw [if_pos k3]
          first | done | rfl
        unfold BAr
        rw [eR]
        obtain ⟨h2, tf2, q2, f2, g2, n2, t2⟩ := r_for2 (d := d) (x := x) (u := wN s i) (b := 1) (v2 := some (.int (nI 0))) q1 ht hx (by omega) upT_s hd
        refine ⟨h2, tf2, ?_, q2, f1.tr f2, fun j hj => by rw [g2 j (by omega), upT_n (by omega)], n2⟩
        intro N S Q hN hS hQ
        have hN : pn h ≤ N := ss_n (f1.tr f2).1 hN
        have hS : ps h ≤ S := ss_s (f1.tr f2).1 hS
        have hN1 : pn h1 ≤ N := ss_n' f1.1 hN
        have hS1 : ps h1 ≤ S := ss_s' f1.1 hS
        refine z_aload_n dX9_foretellClause_0 rfl rfl ?_
        refine z_iload_n dX9_foretellClause_1 rfl rfl ?_
        refine z_iconst (v := 1) dX9_foretellClause_2 (by decide) ?_
        refine z_iadd dX9_foretellClause_3 ?_
        refine z_eqi (nI_1 x) ?_
        refine z_iconst (v := 0) dX9_foretellClause_4 (by decide) ?_
        refine z_iconst (v := 4) dX9_foretellClause_5 (by decide) ?_
        refine y_callV (as := [_, _, _]) CX9_figure LX9_224 IX9_figure VX9_figure ⟨rfl, Nat.le_of_ble_eq_true rfl⟩ dX9_foretellClause_6 hm.o rfl (Nat.le_of_ble_eq_true rfl) (Nat.le_of_ble_eq_true rfl) (by omega) s1 rok_i (hg_ss f1.1 hN hS) ?_
        refine z_istore_n dX9_foretellClause_9 rfl (Nat.le_of_ble_eq_true rfl) ?_
        refine z_iload_n dX9_foretellClause_10 rfl rfl ?_
        refine z_if_eq dX9_foretellClause_11 rfl (fun _ => ?_) (fun c => absurd (rfl) c)
        refine z_aload_n dX9_foretellClause_16 rfl rfl ?_
        refine z_bipush (v := 97) dX9_foretellClause_17 (by decide) ?_
        refine z_bipush (v := 108) dX9_foretellClause_19 (by decide) ?_
        refine z_bipush (v := 108) dX9_foretellClause_21 (by decide) ?_
        refine y_callS (as := [_, _, _]) CX9_w3 LX9_132 SX9_w3 dX9_foretellClause_23 rfl (Nat.le_of_ble_eq_true rfl) (Nat.le_of_ble_eq_true rfl) (by omega) (r_w3 (d := 1) (a0 := 97) (a1 := 108) (a2 := 108) (by omega) (by omega) (by omega) (Nat.le_refl _)) rok_l ⟨Nat.le_refl _, Nat.le_refl _, hN1, hS1⟩ ?_
        refine z_eql (show _ = lN 6384748 from rfl) ?_
        refine y_callV (as := [_]) CX9_isWord LX9_192 IX9_isWord VX9_isWord ⟨rfl, Nat.le_of_ble_eq_true rfl⟩ dX9_foretellClause_26 (f1.1.O hm.o) rfl (Nat.le_of_ble_eq_true rfl) (Nat.le_of_ble_eq_true rfl) (by omega) (r_isWord (d := 0) (k := 14) q1.1.m ht q1.2.1 tP_le (by omega) (wd_14 (ht.b _))) (rok_z bI_01) ⟨Nat.le_refl _, Nat.le_refl _, hN1, hS1⟩ ?_
        refine z_eqi (show _ = nI 1 from bI_t k3) ?_
        refine z_istore_n dX9_foretellClause_29 rfl (Nat.le_of_ble_eq_true rfl) ?_
        refine z_iload_n dX9_foretellClause_30 rfl rfl ?_
        refine z_if_ne dX9_foretellClause_31 rfl (fun _ => ?_) (fun c => absurd c (by decide))
        exact t2 N S Q hN1 hS1 hQ
      · by_cases k4 : (tK (TPs s) (TNs s)) (i + 1) = 13
        · skip
          have eR : rdF (tK (TPs s) (TNs s)) (wN s) i = if (rdX (tK (TPs s) (TNs s)) (wN s) 7 (i + 1 + 1) 0).1 = 0 then rdW (tK (TPs s) (TNs s)) (wN s) [(15, 1, 99), (16, 0, 999)] (rdX (tK (TPs s) (TNs s)) (wN s) 7 (i + 1 + 1) 0).2.1 [wN s i, 0, (rdX (tK (TPs s) (TNs s)) (wN s) 7 (i + 1 + 1) 0).2.2] else ((rdX (tK (TPs s) (TNs s)) (wN s) 7 (i + 1 + 1) 0).1, (rdX (tK (TPs s) (TNs s)) (wN s) 7 (i + 1 + 1) 0).2.1, []) := by
            unfold rdF
            rw [if_pos k1, if_pos k2, if_pos (Or.inr k4)]
            unfold rdF2
            rw [if_neg k3]
            first | done | rfl
          unfold BAr
          rw [eR]
          obtain ⟨h2, tf2, q2, f2, g2, n2, t2⟩ := r_for2 (d := d) (x := x) (u := wN s i) (b := 0) (v2 := some (.int (nI 0))) q1 ht hx (by omega) upT_s hd
          refine ⟨h2, tf2, ?_, q2, f1.tr f2, fun j hj => by rw [g2 j (by omega), upT_n (by omega)], n2⟩
          intro N S Q hN hS hQ
          have hN : pn h ≤ N := ss_n (f1.tr f2).1 hN
          have hS : ps h ≤ S := ss_s (f1.tr f2).1 hS
          have hN1 : pn h1 ≤ N := ss_n' f1.1 hN
          have hS1 : ps h1 ≤ S := ss_s' f1.1 hS
          refine z_aload_n dX9_foretellClause_0 rfl rfl ?_
          refine z_iload_n dX9_foretellClause_1 rfl rfl ?_
          refine z_iconst (v := 1) dX9_foretellClause_2 (by decide) ?_
          refine z_iadd dX9_foretellClause_3 ?_
          refine z_eqi (nI_1 x) ?_
          refine z_iconst (v := 0) dX9_foretellClause_4 (by decide) ?_
          refine z_iconst (v := 4) dX9_foretellClause_5 (by decide) ?_
          refine y_callV (as := [_, _, _]) CX9_figure LX9_224 IX9_figure VX9_figure ⟨rfl, Nat.le_of_ble_eq_true rfl⟩ dX9_foretellClause_6 hm.o rfl (Nat.le_of_ble_eq_true rfl) (Nat.le_of_ble_eq_true rfl) (by omega) s1 rok_i (hg_ss f1.1 hN hS) ?_
          refine z_istore_n dX9_foretellClause_9 rfl (Nat.le_of_ble_eq_true rfl) ?_
          refine z_iload_n dX9_foretellClause_10 rfl rfl ?_
          refine z_if_eq dX9_foretellClause_11 rfl (fun _ => ?_) (fun c => absurd (rfl) c)
          refine z_aload_n dX9_foretellClause_16 rfl rfl ?_
          refine z_bipush (v := 97) dX9_foretellClause_17 (by decide) ?_
          refine z_bipush (v := 108) dX9_foretellClause_19 (by decide) ?_
          refine z_bipush (v := 108) dX9_foretellClause_21 (by decide) ?_
          refine y_callS (as := [_, _, _]) CX9_w3 LX9_132 SX9_w3 dX9_foretellClause_23 rfl (Nat.le_of_ble_eq_true rfl) (Nat.le_of_ble_eq_true rfl) (by omega) (r_w3 (d := 1) (a0 := 97) (a1 := 108) (a2 := 108) (by omega) (by omega) (by omega) (Nat.le_refl _)) rok_l ⟨Nat.le_refl _, Nat.le_refl _, hN1, hS1⟩ ?_
          refine z_eql (show _ = lN 6384748 from rfl) ?_
          refine y_callV (as := [_]) CX9_isWord LX9_192 IX9_isWord VX9_isWord ⟨rfl, Nat.le_of_ble_eq_true rfl⟩ dX9_foretellClause_26 (f1.1.O hm.o) rfl (Nat.le_of_ble_eq_true rfl) (Nat.le_of_ble_eq_true rfl) (by omega) (r_isWord (d := 0) (k := 14) q1.1.m ht q1.2.1 tP_le (by omega) (wd_14 (ht.b _))) (rok_z bI_01) ⟨Nat.le_refl _, Nat.le_refl _, hN1, hS1⟩ ?_
          refine z_eqi (show _ = nI 0 from bI_f k3) ?_
          refine z_istore_n dX9_foretellClause_29 rfl (Nat.le_of_ble_eq_true rfl) ?_
          refine z_iload_n dX9_foretellClause_30 rfl rfl ?_
          refine z_if_ne dX9_foretellClause_31 rfl (fun c => absurd (by decide) c) (fun _ => ?_)
          refine z_aload_n dX9_foretellClause_34 rfl rfl ?_
          refine z_bipush (v := 97) dX9_foretellClause_35 (by decide) ?_
          refine z_bipush (v := 110) dX9_foretellClause_37 (by decide) ?_
          refine z_bipush (v := 121) dX9_foretellClause_39 (by decide) ?_
          refine y_callS (as := [_, _, _]) CX9_w3 LX9_132 SX9_w3 dX9_foretellClause_41 rfl (Nat.le_of_ble_eq_true rfl) (Nat.le_of_ble_eq_true rfl) (by omega) (r_w3 (d := 1) (a0 := 97) (a1 := 110) (a2 := 121) (by omega) (by omega) (by omega) (Nat.le_refl _)) rok_l ⟨Nat.le_refl _, Nat.le_refl _, hN1, hS1⟩ ?_
          refine z_eql (show _ = lN 6385273 from rfl) ?_
          refine y_callV (as := [_]) CX9_isWord LX9_192 IX9_isWord VX9_isWord ⟨rfl, Nat.le_of_ble_eq_true rfl⟩ dX9_foretellClause_44 (f1.1.O hm.o) rfl (Nat.le_of_ble_eq_true rfl) (Nat.le_of_ble_eq_true rfl) (by omega) (r_isWord (d := 0) (k := 13) q1.1.m ht q1.2.1 tP_le (by omega) (wd_13 (ht.b _))) (rok_z bI_01) ⟨Nat.le_refl _, Nat.le_refl _, hN1, hS1⟩ ?_
          refine z_if_ne dX9_foretellClause_47 rfl (fun _ => ?_) (fun c => absurd c (bI_ne0.mpr k4))
          exact t2 N S Q hN1 hS1 hQ
        · rw [show rdF (tK (TPs s) (TNs s)) (wN s) i = (1, i + 1, []) by unfold rdF; rw [if_pos k1, if_pos k2, if_neg (by omega)]]
          refine ⟨h1, _, ?_, q1, f1, fun j hj => upT_n (by omega), fun w0 => (by cases w0)⟩
          intro N S Q hN hS hQ
          have hN : pn h ≤ N := ss_n f1.1 hN
          have hS : ps h ≤ S := ss_s f1.1 hS
          have hN1 : pn h1 ≤ N := ss_n' f1.1 hN
          have hS1 : ps h1 ≤ S := ss_s' f1.1 hS
          refine z_aload_n dX9_foretellClause_0 rfl rfl ?_
          refine z_iload_n dX9_foretellClause_1 rfl rfl ?_
          refine z_iconst (v := 1) dX9_foretellClause_2 (by decide) ?_
          refine z_iadd dX9_foretellClause_3 ?_
          refine z_eqi (nI_1 x) ?_
          refine z_iconst (v := 0) dX9_foretellClause_4 (by decide) ?_
          refine z_iconst (v := 4) dX9_foretellClause_5 (by decide) ?_
          refine y_callV (as := [_, _, _]) CX9_figure LX9_224 IX9_figure VX9_figure ⟨rfl, Nat.le_of_ble_eq_true rfl⟩ dX9_foretellClause_6 hm.o rfl (Nat.le_of_ble_eq_true rfl) (Nat.le_of_ble_eq_true rfl) (by omega) s1 rok_i (hg_ss f1.1 hN hS) ?_
          refine z_istore_n dX9_foretellClause_9 rfl (Nat.le_of_ble_eq_true rfl) ?_
          refine z_iload_n dX9_foretellClause_10 rfl rfl ?_
          refine z_if_eq dX9_foretellClause_11 rfl (fun _ => ?_) (fun c => absurd (rfl) c)
          refine z_aload_n dX9_foretellClause_16 rfl rfl ?_
          refine z_bipush (v := 97) dX9_foretellClause_17 (by decide) ?_
          refine z_bipush (v := 108) dX9_foretellClause_19 (by decide) ?_
          refine z_bipush (v := 108) dX9_foretellClause_21 (by decide) ?_
          refine y_callS (as := [_, _, _]) CX9_w3 LX9_132 SX9_w3 dX9_foretellClause_23 rfl (Nat.le_of_ble_eq_true rfl) (Nat.le_of_ble_eq_true rfl) (by omega) (r_w3 (d := 1) (a0 := 97) (a1 := 108) (a2 := 108) (by omega) (by omega) (by omega) (Nat.le_refl _)) rok_l ⟨Nat.le_refl _, Nat.le_refl _, hN1, hS1⟩ ?_
          refine z_eql (show _ = lN 6384748 from rfl) ?_
          refine y_callV (as := [_]) CX9_isWord LX9_192 IX9_isWord VX9_isWord ⟨rfl, Nat.le_of_ble_eq_true rfl⟩ dX9_foretellClause_26 (f1.1.O hm.o) rfl (Nat.le_of_ble_eq_true rfl) (Nat.le_of_ble_eq_true rfl) (by omega) (r_isWord (d := 0) (k := 14) q1.1.m ht q1.2.1 tP_le (by omega) (wd_14 (ht.b _))) (rok_z bI_01) ⟨Nat.le_refl _, Nat.le_refl _, hN1, hS1⟩ ?_
          refine z_eqi (show _ = nI 0 from bI_f k3) ?_
          refine z_istore_n dX9_foretellClause_29 rfl (Nat.le_of_ble_eq_true rfl) ?_
          refine z_iload_n dX9_foretellClause_30 rfl rfl ?_
          refine z_if_ne dX9_foretellClause_31 rfl (fun c => absurd (by decide) c) (fun _ => ?_)
          refine z_aload_n dX9_foretellClause_34 rfl rfl ?_
          refine z_bipush (v := 97) dX9_foretellClause_35 (by decide) ?_
          refine z_bipush (v := 110) dX9_foretellClause_37 (by decide) ?_
          refine z_bipush (v := 121) dX9_foretellClause_39 (by decide) ?_
          refine y_callS (as := [_, _, _]) CX9_w3 LX9_132 SX9_w3 dX9_foretellClause_41 rfl (Nat.le_of_ble_eq_true rfl) (Nat.le_of_ble_eq_true rfl) (by omega) (r_w3 (d := 1) (a0 := 97) (a1 := 110) (a2 := 121) (by omega) (by omega) (by omega) (Nat.le_refl _)) rok_l ⟨Nat.le_refl _, Nat.le_refl _, hN1, hS1⟩ ?_
          refine z_eql (show _ = lN 6385273 from rfl) ?_
          refine y_callV (as := [_]) CX9_isWord LX9_192 IX9_isWord VX9_isWord ⟨rfl, Nat.le_of_ble_eq_true rfl⟩ dX9_foretellClause_44 (f1.1.O hm.o) rfl (Nat.le_of_ble_eq_true rfl) (Nat.le_of_ble_eq_true rfl) (by omega) (r_isWord (d := 0) (k := 13) q1.1.m ht q1.2.1 tP_le (by omega) (wd_13 (ht.b _))) (rok_z bI_01) ⟨Nat.le_refl _, Nat.le_refl _, hN1, hS1⟩ ?_
          refine z_if_ne dX9_foretellClause_47 rfl (fun c => absurd (bI_eq0.mpr k4) c) (fun _ => ?_)
          refine z_iconst (v := 1) dX9_foretellClause_50 (by decide) ?_
          refine z_iret dX9_foretellClause_51 ?_
          exact hQ
    · rw [show rdA (tK (TPs s) (TNs s)) (wN s) 0 4 [] i = (2, i, []) by unfold rdA; rw [if_pos k1, if_neg (fun w => k2 w.2)]] at s1 q1
      rw [show rdF (tK (TPs s) (TNs s)) (wN s) i = (2, i, []) by unfold rdF; rw [if_pos k1, if_neg k2]]
      refine ⟨h1, tf, ?_, q1, f1, fun j _ => rfl, fun w0 => (by cases w0)⟩
      intro N S Q hN hS hQ
      have hN : pn h ≤ N := ss_n f1.1 hN
      have hS : ps h ≤ S := ss_s f1.1 hS
      refine z_aload_n dX9_foretellClause_0 rfl rfl ?_
      refine z_iload_n dX9_foretellClause_1 rfl rfl ?_
      refine z_iconst (v := 1) dX9_foretellClause_2 (by decide) ?_
      refine z_iadd dX9_foretellClause_3 ?_
      refine z_eqi (nI_1 x) ?_
      refine z_iconst (v := 0) dX9_foretellClause_4 (by decide) ?_
      refine z_iconst (v := 4) dX9_foretellClause_5 (by decide) ?_
      refine y_callV (as := [_, _, _]) CX9_figure LX9_224 IX9_figure VX9_figure ⟨rfl, Nat.le_of_ble_eq_true rfl⟩ dX9_foretellClause_6 hm.o rfl (Nat.le_of_ble_eq_true rfl) (Nat.le_of_ble_eq_true rfl) (by omega) s1 rok_i (hg_ss f1.1 hN hS) ?_
      refine z_istore_n dX9_foretellClause_9 rfl (Nat.le_of_ble_eq_true rfl) ?_
      refine z_iload_n dX9_foretellClause_10 rfl rfl ?_
      refine z_if_eq dX9_foretellClause_11 rfl (fun c => absurd c (show ¬ nI 2 = 0 by decide)) (fun _ => ?_)
      refine z_iload_n dX9_foretellClause_14 rfl rfl ?_
      refine z_iret dX9_foretellClause_15 ?_
      exact hQ
  · rw [show rdA (tK (TPs s) (TNs s)) (wN s) 0 4 [] i = (1, i, []) by unfold rdA; rw [if_neg k1]] at s1 q1
    rw [show rdF (tK (TPs s) (TNs s)) (wN s) i = (1, i, []) by unfold rdF; rw [if_neg k1]]
    refine ⟨h1, tf, ?_, q1, f1, fun j _ => rfl, fun w0 => (by cases w0)⟩
    intro N S Q hN hS hQ
    have hN : pn h ≤ N := ss_n f1.1 hN
    have hS : ps h ≤ S := ss_s f1.1 hS
    refine z_aload_n dX9_foretellClause_0 rfl rfl ?_
    refine z_iload_n dX9_foretellClause_1 rfl rfl ?_
    refine z_iconst (v := 1) dX9_foretellClause_2 (by decide) ?_
    refine z_iadd dX9_foretellClause_3 ?_
    refine z_eqi (nI_1 x) ?_
    refine z_iconst (v := 0) dX9_foretellClause_4 (by decide) ?_
    refine z_iconst (v := 4) dX9_foretellClause_5 (by decide) ?_
    refine y_callV (as := [_, _, _]) CX9_figure LX9_224 IX9_figure VX9_figure ⟨rfl, Nat.le_of_ble_eq_true rfl⟩ dX9_foretellClause_6 hm.o rfl (Nat.le_of_ble_eq_true rfl) (Nat.le_of_ble_eq_true rfl) (by omega) s1 rok_i (hg_ss f1.1 hN hS) ?_
    refine z_istore_n dX9_foretellClause_9 rfl (Nat.le_of_ble_eq_true rfl) ?_
    refine z_iload_n dX9_foretellClause_10 rfl rfl ?_
    refine z_if_eq dX9_foretellClause_11 rfl (fun c => absurd c (show ¬ nI 1 = 0 by decide)) (fun _ => ?_)
    refine z_iload_n dX9_foretellClause_14 rfl rfl ?_
    refine z_iret dX9_foretellClause_15 ?_
    exact hQ

