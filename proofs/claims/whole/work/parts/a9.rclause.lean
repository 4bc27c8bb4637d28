/-! the reference reads clauses and a text (wip/whole/gena9.py) -/
def srt (k : Nat) : Int32 := if 1 ≤ k ∧ k ≤ 10 then nI (k - 1) else -1
theorem r_pro {s : Ms} {t : Nat} {tf : Nat → Int32} {i w on : Nat} {so : Int32} {h : Hp} {d : Nat} (q : RTs s t tf i w so on h) (ht : ITp s) (hd : 3 ≤ d) : Sp d mX9_isLong [.ref 488, .long (lN (((112 * 256 + 114) * 256 + 111) * 256 + 112)), .long (lN ((104 * 256 + 101) * 256 + 116)), .int (nI 7)] h (some (.int (bI ((tK (TPs s) (TNs s)) i = 5)))) h := by
  have e := lg_5 (tp := TPs s) (n := TNs s) (p := tP (TPs s) (TNs s) i) (ht.b _)
  have e2 : bI ((tK (TPs s) (TNs s)) i = 5) = _ := (bI_congr e).symm
  rw [e2]
  exact r_isLong7 (s := wTf s tf) (d := d) (w0 := 112) (w1 := 114) (w2 := 111) (w3 := 112) (w4 := 104) (w5 := 101) (w6 := 116) q.1 ht q.2.1 tP_le (by omega) (by omega) (by omega) (by omega) (by omega) (by omega) (by omega) hd
theorem r_fore {s : Ms} {t : Nat} {tf : Nat → Int32} {i w on : Nat} {so : Int32} {h : Hp} {d : Nat} (q : RTs s t tf i w so on h) (ht : ITp s) (hd : 3 ≤ d) : Sp d mX9_isLong [.ref 488, .long (lN (((102 * 256 + 111) * 256 + 114) * 256 + 101)), .long (lN (((116 * 256 + 101) * 256 + 108) * 256 + 108)), .int (nI 8)] h (some (.int (bI ((tK (TPs s) (TNs s)) i = 6)))) h := by
  have e := lg_6 (tp := TPs s) (n := TNs s) (p := tP (TPs s) (TNs s) i) (ht.b _)
  have e2 : bI ((tK (TPs s) (TNs s)) i = 6) = _ := (bI_congr e).symm
  rw [e2]
  exact r_isLong8 (s := wTf s tf) (d := d) (w0 := 102) (w1 := 111) (w2 := 114) (w3 := 101) (w4 := 116) (w5 := 101) (w6 := 108) (w7 := 108) q.1 ht q.2.1 tP_le (by omega) (by omega) (by omega) (by omega) (by omega) (by omega) (by omega) (by omega) hd

theorem r_sortOf {s : Ms} {t : Nat} {tf : Nat → Int32} {i w on : Nat} {so : Int32} {h : Hp} {d : Nat} (q : RTs s t tf i w so on h) (ht : ITp s) (hd : 6 ≤ d) : Sp d mX9_sortOf [.ref 488] h (some (.int (srt ((tK (TPs s) (TNs s)) i)))) h := by
  have hm := q.1.m
  intro N S Q hN hS hQ
  by_cases c1 : (tK (TPs s) (TNs s)) i = 1
  · rw [c1] at hQ
    refine z_aload_n dX9_sortOf_0 rfl rfl ?_
    refine z_bipush (v := 99) dX9_sortOf_1 (by decide) ?_
    refine z_bipush (v := 111) dX9_sortOf_3 (by decide) ?_
    refine z_bipush (v := 109) dX9_sortOf_5 (by decide) ?_
    refine z_bipush (v := 101) dX9_sortOf_7 (by decide) ?_
    refine z_bipush (v := 115) dX9_sortOf_9 (by decide) ?_
    refine y_callS (as := [_, _, _, _, _]) CX9_w5 LX9_140 SX9_w5 dX9_sortOf_11 rfl (Nat.le_of_ble_eq_true rfl) (Nat.le_of_ble_eq_true rfl) (by omega) (r_w5 (d := 3) (a0 := 99) (a1 := 111) (a2 := 109) (a3 := 101) (a4 := 115) (by omega) (by omega) (by omega) (by omega) (by omega) (Nat.le_refl _)) rok_l ⟨Nat.le_refl _, Nat.le_refl _, hN, hS⟩ ?_
    refine z_eql (show _ = lN 427071202675 from rfl) ?_
    refine y_callV (as := [_]) CX9_isWord LX9_192 IX9_isWord VX9_isWord ⟨rfl, Nat.le_of_ble_eq_true rfl⟩ dX9_sortOf_14 hm.o rfl (Nat.le_of_ble_eq_true rfl) (Nat.le_of_ble_eq_true rfl) (by omega) (r_isWord (d := 0) (k := 1) q.1.m ht q.2.1 tP_le (by omega) (wd_1 (ht.b _))) (rok_z bI_01) ⟨Nat.le_refl _, Nat.le_refl _, hN, hS⟩ ?_
    refine z_if_eq dX9_sortOf_17 rfl (fun c => absurd c (bI_ne0.mpr c1)) (fun _ => ?_)
    refine z_iconst (v := 0) dX9_sortOf_20 (by decide) ?_
    refine z_iret dX9_sortOf_21 ?_
    exact hQ
  · skip
    by_cases c2 : (tK (TPs s) (TNs s)) i = 2
    · rw [c2] at hQ
      refine z_aload_n dX9_sortOf_0 rfl rfl ?_
      refine z_bipush (v := 99) dX9_sortOf_1 (by decide) ?_
      refine z_bipush (v := 111) dX9_sortOf_3 (by decide) ?_
      refine z_bipush (v := 109) dX9_sortOf_5 (by decide) ?_
      refine z_bipush (v := 101) dX9_sortOf_7 (by decide) ?_
      refine z_bipush (v := 115) dX9_sortOf_9 (by decide) ?_
      refine y_callS (as := [_, _, _, _, _]) CX9_w5 LX9_140 SX9_w5 dX9_sortOf_11 rfl (Nat.le_of_ble_eq_true rfl) (Nat.le_of_ble_eq_true rfl) (by omega) (r_w5 (d := 3) (a0 := 99) (a1 := 111) (a2 := 109) (a3 := 101) (a4 := 115) (by omega) (by omega) (by omega) (by omega) (by omega) (Nat.le_refl _)) rok_l ⟨Nat.le_refl _, Nat.le_refl _, hN, hS⟩ ?_
      refine z_eql (show _ = lN 427071202675 from rfl) ?_
      refine y_callV (as := [_]) CX9_isWord LX9_192 IX9_isWord VX9_isWord ⟨rfl, Nat.le_of_ble_eq_true rfl⟩ dX9_sortOf_14 hm.o rfl (Nat.le_of_ble_eq_true rfl) (Nat.le_of_ble_eq_true rfl) (by omega) (r_isWord (d := 0) (k := 1) q.1.m ht q.2.1 tP_le (by omega) (wd_1 (ht.b _))) (rok_z bI_01) ⟨Nat.le_refl _, Nat.le_refl _, hN, hS⟩ ?_
      refine z_if_eq dX9_sortOf_17 rfl (fun _ => ?_) (fun c => absurd (bI_eq0.mpr c1) c)
      refine z_aload_n dX9_sortOf_22 rfl rfl ?_
      refine z_bipush (v := 100) dX9_sortOf_23 (by decide) ?_
      refine z_bipush (v := 117) dX9_sortOf_25 (by decide) ?_
      refine z_bipush (v := 101) dX9_sortOf_27 (by decide) ?_
      refine z_bipush (v := 115) dX9_sortOf_29 (by decide) ?_
      refine y_callS (as := [_, _, _, _]) CX9_w4 LX9_136 SX9_w4 dX9_sortOf_31 rfl (Nat.le_of_ble_eq_true rfl) (Nat.le_of_ble_eq_true rfl) (by omega) (r_w4 (d := 2) (a0 := 100) (a1 := 117) (a2 := 101) (a3 := 115) (by omega) (by omega) (by omega) (by omega) (Nat.le_refl _)) rok_l ⟨Nat.le_refl _, Nat.le_refl _, hN, hS⟩ ?_
      refine z_eql (show _ = lN 1685415283 from rfl) ?_
      refine y_callV (as := [_]) CX9_isWord LX9_192 IX9_isWord VX9_isWord ⟨rfl, Nat.le_of_ble_eq_true rfl⟩ dX9_sortOf_34 hm.o rfl (Nat.le_of_ble_eq_true rfl) (Nat.le_of_ble_eq_true rfl) (by omega) (r_isWord (d := 0) (k := 2) q.1.m ht q.2.1 tP_le (by omega) (wd_2 (ht.b _))) (rok_z bI_01) ⟨Nat.le_refl _, Nat.le_refl _, hN, hS⟩ ?_
      refine z_if_eq dX9_sortOf_37 rfl (fun c => absurd c (bI_ne0.mpr c2)) (fun _ => ?_)
      refine z_iconst (v := 1) dX9_sortOf_40 (by decide) ?_
      refine z_iret dX9_sortOf_41 ?_
      exact hQ
    · skip
      by_cases c3 : (tK (TPs s) (TNs s)) i = 3
      · rw [c3] at hQ
        refine z_aload_n dX9_sortOf_0 rfl rfl ?_
        refine z_bipush (v := 99) dX9_sortOf_1 (by decide) ?_
        refine z_bipush (v := 111) dX9_sortOf_3 (by decide) ?_
        refine z_bipush (v := 109) dX9_sortOf_5 (by decide) ?_
        refine z_bipush (v := 101) dX9_sortOf_7 (by decide) ?_
        refine z_bipush (v := 115) dX9_sortOf_9 (by decide) ?_
        refine y_callS (as := [_, _, _, _, _]) CX9_w5 LX9_140 SX9_w5 dX9_sortOf_11 rfl (Nat.le_of_ble_eq_true rfl) (Nat.le_of_ble_eq_true rfl) (by omega) (r_w5 (d := 3) (a0 := 99) (a1 := 111) (a2 := 109) (a3 := 101) (a4 := 115) (by omega) (by omega) (by omega) (by omega) (by omega) (Nat.le_refl _)) rok_l ⟨Nat.le_refl _, Nat.le_refl _, hN, hS⟩ ?_
        refine z_eql (show _ = lN 427071202675 from rfl) ?_
        refine y_callV (as := [_]) CX9_isWord LX9_192 IX9_isWord VX9_isWord ⟨rfl, Nat.le_of_ble_eq_true rfl⟩ dX9_sortOf_14 hm.o rfl (Nat.le_of_ble_eq_true rfl) (Nat.le_of_ble_eq_true rfl) (by omega) (r_isWord (d := 0) (k := 1) q.1.m ht q.2.1 tP_le (by omega) (wd_1 (ht.b _))) (rok_z bI_01) ⟨Nat.le_refl _, Nat.le_refl _, hN, hS⟩ ?_
        refine z_if_eq dX9_sortOf_17 rfl (fun _ => ?_) (fun c => absurd (bI_eq0.mpr c1) c)
        refine z_aload_n dX9_sortOf_22 rfl rfl ?_
        refine z_bipush (v := 100) dX9_sortOf_23 (by decide) ?_
        refine z_bipush (v := 117) dX9_sortOf_25 (by decide) ?_
        refine z_bipush (v := 101) dX9_sortOf_27 (by decide) ?_
        refine z_bipush (v := 115) dX9_sortOf_29 (by decide) ?_
        refine y_callS (as := [_, _, _, _]) CX9_w4 LX9_136 SX9_w4 dX9_sortOf_31 rfl (Nat.le_of_ble_eq_true rfl) (Nat.le_of_ble_eq_true rfl) (by omega) (r_w4 (d := 2) (a0 := 100) (a1 := 117) (a2 := 101) (a3 := 115) (by omega) (by omega) (by omega) (by omega) (Nat.le_refl _)) rok_l ⟨Nat.le_refl _, Nat.le_refl _, hN, hS⟩ ?_
        refine z_eql (show _ = lN 1685415283 from rfl) ?_
        refine y_callV (as := [_]) CX9_isWord LX9_192 IX9_isWord VX9_isWord ⟨rfl, Nat.le_of_ble_eq_true rfl⟩ dX9_sortOf_34 hm.o rfl (Nat.le_of_ble_eq_true rfl) (Nat.le_of_ble_eq_true rfl) (by omega) (r_isWord (d := 0) (k := 2) q.1.m ht q.2.1 tP_le (by omega) (wd_2 (ht.b _))) (rok_z bI_01) ⟨Nat.le_refl _, Nat.le_refl _, hN, hS⟩ ?_
        refine z_if_eq dX9_sortOf_37 rfl (fun _ => ?_) (fun c => absurd (bI_eq0.mpr c2) c)
        refine z_aload_n dX9_sortOf_42 rfl rfl ?_
        refine z_bipush (v := 114) dX9_sortOf_43 (by decide) ?_
        refine z_bipush (v := 101) dX9_sortOf_45 (by decide) ?_
        refine z_bipush (v := 110) dX9_sortOf_47 (by decide) ?_
        refine z_bipush (v := 111) dX9_sortOf_49 (by decide) ?_
        refine z_bipush (v := 119) dX9_sortOf_51 (by decide) ?_
        refine z_bipush (v := 110) dX9_sortOf_53 (by decide) ?_
        refine y_callS (as := [_, _, _, _, _, _]) CX9_w6 LX9_251 SX9_w6 dX9_sortOf_55 rfl (Nat.le_of_ble_eq_true rfl) (Nat.le_of_ble_eq_true rfl) (by omega) (r_w6 (d := 4) (a0 := 114) (a1 := 101) (a2 := 110) (a3 := 111) (a4 := 119) (a5 := 110) (by omega) (by omega) (by omega) (by omega) (by omega) (by omega) (Nat.le_refl _)) rok_l ⟨Nat.le_refl _, Nat.le_refl _, hN, hS⟩ ?_
        refine z_eql (show _ = lN 125779970062190 from rfl) ?_
        refine y_callV (as := [_]) CX9_isWord LX9_192 IX9_isWord VX9_isWord ⟨rfl, Nat.le_of_ble_eq_true rfl⟩ dX9_sortOf_58 hm.o rfl (Nat.le_of_ble_eq_true rfl) (Nat.le_of_ble_eq_true rfl) (by omega) (r_isWord (d := 0) (k := 3) q.1.m ht q.2.1 tP_le (by omega) (wd_3 (ht.b _))) (rok_z bI_01) ⟨Nat.le_refl _, Nat.le_refl _, hN, hS⟩ ?_
        refine z_if_eq dX9_sortOf_61 rfl (fun c => absurd c (bI_ne0.mpr c3)) (fun _ => ?_)
        refine z_iconst (v := 2) dX9_sortOf_64 (by decide) ?_
        refine z_iret dX9_sortOf_65 ?_
        exact hQ
      · skip
        by_cases c4 : (tK (TPs s) (TNs s)) i = 4
        · rw [c4] at hQ
          refine z_aload_n dX9_sortOf_0 rfl rfl ?_
          refine z_bipush (v := 99) dX9_sortOf_1 (by decide) ?_
          refine z_bipush (v := 111) dX9_sortOf_3 (by decide) ?_
          refine z_bipush (v := 109) dX9_sortOf_5 (by decide) ?_
          refine z_bipush (v := 101) dX9_sortOf_7 (by decide) ?_
          refine z_bipush (v := 115) dX9_sortOf_9 (by decide) ?_
          refine y_callS (as := [_, _, _, _, _]) CX9_w5 LX9_140 SX9_w5 dX9_sortOf_11 rfl (Nat.le_of_ble_eq_true rfl) (Nat.le_of_ble_eq_true rfl) (by omega) (r_w5 (d := 3) (a0 := 99) (a1 := 111) (a2 := 109) (a3 := 101) (a4 := 115) (by omega) (by omega) (by omega) (by omega) (by omega) (Nat.le_refl _)) rok_l ⟨Nat.le_refl _, Nat.le_refl _, hN, hS⟩ ?_
          refine z_eql (show _ = lN 427071202675 from rfl) ?_
          refine y_callV (as := [_]) CX9_isWord LX9_192 IX9_isWord VX9_isWord ⟨rfl, Nat.le_of_ble_eq_true rfl⟩ dX9_sortOf_14 hm.o rfl (Nat.le_of_ble_eq_true rfl) (Nat.le_of_ble_eq_true rfl) (by omega) (r_isWord (d := 0) (k := 1) q.1.m ht q.2.1 tP_le (by omega) (wd_1 (ht.b _))) (rok_z bI_01) ⟨Nat.le_refl _, Nat.le_refl _, hN, hS⟩ ?_
          refine z_if_eq dX9_sortOf_17 rfl (fun _ => ?_) (fun c => absurd (bI_eq0.mpr c1) c)
          refine z_aload_n dX9_sortOf_22 rfl rfl ?_
          refine z_bipush (v := 100) dX9_sortOf_23 (by decide) ?_
          refine z_bipush (v := 117) dX9_sortOf_25 (by decide) ?_
          refine z_bipush (v := 101) dX9_sortOf_27 (by decide) ?_
          refine z_bipush (v := 115) dX9_sortOf_29 (by decide) ?_
          refine y_callS (as := [_, _, _, _]) CX9_w4 LX9_136 SX9_w4 dX9_sortOf_31 rfl (Nat.le_of_ble_eq_true rfl) (Nat.le_of_ble_eq_true rfl) (by omega) (r_w4 (d := 2) (a0 := 100) (a1 := 117) (a2 := 101) (a3 := 115) (by omega) (by omega) (by omega) (by omega) (Nat.le_refl _)) rok_l ⟨Nat.le_refl _, Nat.le_refl _, hN, hS⟩ ?_
          refine z_eql (show _ = lN 1685415283 from rfl) ?_
          refine y_callV (as := [_]) CX9_isWord LX9_192 IX9_isWord VX9_isWord ⟨rfl, Nat.le_of_ble_eq_true rfl⟩ dX9_sortOf_34 hm.o rfl (Nat.le_of_ble_eq_true rfl) (Nat.le_of_ble_eq_true rfl) (by omega) (r_isWord (d := 0) (k := 2) q.1.m ht q.2.1 tP_le (by omega) (wd_2 (ht.b _))) (rok_z bI_01) ⟨Nat.le_refl _, Nat.le_refl _, hN, hS⟩ ?_
          refine z_if_eq dX9_sortOf_37 rfl (fun _ => ?_) (fun c => absurd (bI_eq0.mpr c2) c)
          refine z_aload_n dX9_sortOf_42 rfl rfl ?_
          refine z_bipush (v := 114) dX9_sortOf_43 (by decide) ?_
          refine z_bipush (v := 101) dX9_sortOf_45 (by decide) ?_
          refine z_bipush (v := 110) dX9_sortOf_47 (by decide) ?_
          refine z_bipush (v := 111) dX9_sortOf_49 (by decide) ?_
          refine z_bipush (v := 119) dX9_sortOf_51 (by decide) ?_
          refine z_bipush (v := 110) dX9_sortOf_53 (by decide) ?_
          refine y_callS (as := [_, _, _, _, _, _]) CX9_w6 LX9_251 SX9_w6 dX9_sortOf_55 rfl (Nat.le_of_ble_eq_true rfl) (Nat.le_of_ble_eq_true rfl) (by omega) (r_w6 (d := 4) (a0 := 114) (a1 := 101) (a2 := 110) (a3 := 111) (a4 := 119) (a5 := 110) (by omega) (by omega) (by omega) (by omega) (by omega) (by omega) (Nat.le_refl _)) rok_l ⟨Nat.le_refl _, Nat.le_refl _, hN, hS⟩ ?_
          refine z_eql (show _ = lN 125779970062190 from rfl) ?_
          refine y_callV (as := [_]) CX9_isWord LX9_192 IX9_isWord VX9_isWord ⟨rfl, Nat.le_of_ble_eq_true rfl⟩ dX9_sortOf_58 hm.o rfl (Nat.le_of_ble_eq_true rfl) (Nat.le_of_ble_eq_true rfl) (by omega) (r_isWord (d := 0) (k := 3) q.1.m ht q.2.1 tP_le (by omega) (wd_3 (ht.b _))) (rok_z bI_01) ⟨Nat.le_refl _, Nat.le_refl _, hN, hS⟩ ?_
          refine z_if_eq dX9_sortOf_61 rfl (fun _ => ?_) (fun c => absurd (bI_eq0.mpr c3) c)
          refine z_aload_n dX9_sortOf_66 rfl rfl ?_
          refine z_bipush (v := 102) dX9_sortOf_67 (by decide) ?_
          refine z_bipush (v := 97) dX9_sortOf_69 (by decide) ?_
          refine z_bipush (v := 99) dX9_sortOf_71 (by decide) ?_
          refine z_bipush (v := 116) dX9_sortOf_73 (by decide) ?_
          refine y_callS (as := [_, _, _, _]) CX9_w4 LX9_136 SX9_w4 dX9_sortOf_75 rfl (Nat.le_of_ble_eq_true rfl) (Nat.le_of_ble_eq_true rfl) (by omega) (r_w4 (d := 2) (a0 := 102) (a1 := 97) (a2 := 99) (a3 := 116) (by omega) (by omega) (by omega) (by omega) (Nat.le_refl _)) rok_l ⟨Nat.le_refl _, Nat.le_refl _, hN, hS⟩ ?_
          refine z_eql (show _ = lN 1717658484 from rfl) ?_
          refine y_callV (as := [_]) CX9_isWord LX9_192 IX9_isWord VX9_isWord ⟨rfl, Nat.le_of_ble_eq_true rfl⟩ dX9_sortOf_78 hm.o rfl (Nat.le_of_ble_eq_true rfl) (Nat.le_of_ble_eq_true rfl) (by omega) (r_isWord (d := 0) (k := 4) q.1.m ht q.2.1 tP_le (by omega) (wd_4 (ht.b _))) (rok_z bI_01) ⟨Nat.le_refl _, Nat.le_refl _, hN, hS⟩ ?_
          refine z_if_eq dX9_sortOf_81 rfl (fun c => absurd c (bI_ne0.mpr c4)) (fun _ => ?_)
          refine z_iconst (v := 3) dX9_sortOf_84 (by decide) ?_
          refine z_iret dX9_sortOf_85 ?_
          exact hQ
        · skip
          by_cases c5 : (tK (TPs s) (TNs s)) i = 5
          · rw [c5] at hQ
            refine z_aload_n dX9_sortOf_0 rfl rfl ?_
            refine z_bipush (v := 99) dX9_sortOf_1 (by decide) ?_
            refine z_bipush (v := 111) dX9_sortOf_3 (by decide) ?_
            refine z_bipush (v := 109) dX9_sortOf_5 (by decide) ?_
            refine z_bipush (v := 101) dX9_sortOf_7 (by decide) ?_
            refine z_bipush (v := 115) dX9_sortOf_9 (by decide) ?_
            refine y_callS (as := [_, _, _, _, _]) CX9_w5 LX9_140 SX9_w5 dX9_sortOf_11 rfl (Nat.le_of_ble_eq_true rfl) (Nat.le_of_ble_eq_true rfl) (by omega) (r_w5 (d := 3) (a0 := 99) (a1 := 111) (a2 := 109) (a3 := 101) (a4 := 115) (by omega) (by omega) (by omega) (by omega) (by omega) (Nat.le_refl _)) rok_l ⟨Nat.le_refl _, Nat.le_refl _, hN, hS⟩ ?_
            refine z_eql (show _ = lN 427071202675 from rfl) ?_
            refine y_callV (as := [_]) CX9_isWord LX9_192 IX9_isWord VX9_isWord ⟨rfl, Nat.le_of_ble_eq_true rfl⟩ dX9_sortOf_14 hm.o rfl (Nat.le_of_ble_eq_true rfl) (Nat.le_of_ble_eq_true rfl) (by omega) (r_isWord (d := 0) (k := 1) q.1.m ht q.2.1 tP_le (by omega) (wd_1 (ht.b _))) (rok_z bI_01) ⟨Nat.le_refl _, Nat.le_refl _, hN, hS⟩ ?_
            refine z_if_eq dX9_sortOf_17 rfl (fun _ => ?_) (fun c => absurd (bI_eq0.mpr c1) c)
            refine z_aload_n dX9_sortOf_22 rfl rfl ?_
            refine z_bipush (v := 100) dX9_sortOf_23 (by decide) ?_
            refine z_bipush (v := 117) dX9_sortOf_25 (by decide) ?_
            refine z_bipush (v := 101) dX9_sortOf_27 (by decide) ?_
            refine z_bipush (v := 115) dX9_sortOf_29 (by decide) ?_
            refine y_callS (as := [_, _, _, _]) CX9_w4 LX9_136 SX9_w4 dX9_sortOf_31 rfl (Nat.le_of_ble_eq_true rfl) (Nat.le_of_ble_eq_true rfl) (by omega) (r_w4 (d := 2) (a0 := 100) (a1 := 117) (a2 := 101) (a3 := 115) (by omega) (by omega) (by omega) (by omega) (Nat.le_refl _)) rok_l ⟨Nat.le_refl _, Nat.le_refl _, hN, hS⟩ ?_
            refine z_eql (show _ = lN 1685415283 from rfl) ?_
            refine y_callV (as := [_]) CX9_isWord LX9_192 IX9_isWord VX9_isWord ⟨rfl, Nat.le_of_ble_eq_true rfl⟩ dX9_sortOf_34 hm.o rfl (Nat.le_of_ble_eq_true rfl) (Nat.le_of_ble_eq_true rfl) (by omega) (r_isWord (d := 0) (k := 2) q.1.m ht q.2.1 tP_le (by omega) (wd_2 (ht.b _))) (rok_z bI_01) ⟨Nat.le_refl _, Nat.le_refl _, hN, hS⟩ ?_
            refine z_if_eq dX9_sortOf_37 rfl (fun _ => ?_) (fun c => absurd (bI_eq0.mpr c2) c)
            refine z_aload_n dX9_sortOf_42 rfl rfl ?_
            refine z_bipush (v := 114) dX9_sortOf_43 (by decide) ?_
            refine z_bipush (v := 101) dX9_sortOf_45 (by decide) ?_
            refine z_bipush (v := 110) dX9_sortOf_47 (by decide) ?_
            refine z_bipush (v := 111) dX9_sortOf_49 (by decide) ?_
            refine z_bipush (v := 119) dX9_sortOf_51 (by decide) ?_
            refine z_bipush (v := 110) dX9_sortOf_53 (by decide) ?_
            refine y_callS (as := [_, _, _, _, _, _]) CX9_w6 LX9_251 SX9_w6 dX9_sortOf_55 rfl (Nat.le_of_ble_eq_true rfl) (Nat.le_of_ble_eq_true rfl) (by omega) (r_w6 (d := 4) (a0 := 114) (a1 := 101) (a2 := 110) (a3 := 111) (a4 := 119) (a5 := 110) (by omega) (by omega) (by omega) (by omega) (by omega) (by omega) (Nat.le_refl _)) rok_l ⟨Nat.le_refl _, Nat.le_refl _, hN, hS⟩ ?_
            refine z_eql (show _ = lN 125779970062190 from rfl) ?_
            refine y_callV (as := [_]) CX9_isWord LX9_192 IX9_isWord VX9_isWord ⟨rfl, Nat.le_of_ble_eq_true rfl⟩ dX9_sortOf_58 hm.o rfl (Nat.le_of_ble_eq_true rfl) (Nat.le_of_ble_eq_true rfl) (by omega) (r_isWord (d := 0) (k := 3) q.1.m ht q.2.1 tP_le (by omega) (wd_3 (ht.b _))) (rok_z bI_01) ⟨Nat.le_refl _, Nat.le_refl _, hN, hS⟩ ?_
            refine z_if_eq dX9_sortOf_61 rfl (fun _ => ?_) (fun c => absurd (bI_eq0.mpr c3) c)
            refine z_aload_n dX9_sortOf_66 rfl rfl ?_
            refine z_bipush (v := 102) dX9_sortOf_67 (by decide) ?_
            refine z_bipush (v := 97) dX9_sortOf_69 (by decide) ?_
            refine z_bipush (v := 99) dX9_sortOf_71 (by decide) ?_
            refine z_bipush (v := 116) dX9_sortOf_73 (by decide) ?_
            refine y_callS (as := [_, _, _, _]) CX9_w4 LX9_136 SX9_w4 dX9_sortOf_75 rfl (Nat.le_of_ble_eq_true rfl) (Nat.le_of_ble_eq_true rfl) (by omega) (r_w4 (d := 2) (a0 := 102) (a1 := 97) (a2 := 99) (a3 := 116) (by omega) (by omega) (by omega) (by omega) (Nat.le_refl _)) rok_l ⟨Nat.le_refl _, Nat.le_refl _, hN, hS⟩ ?_
            refine z_eql (show _ = lN 1717658484 from rfl) ?_
            refine y_callV (as := [_]) CX9_isWord LX9_192 IX9_isWord VX9_isWord ⟨rfl, Nat.le_of_ble_eq_true rfl⟩ dX9_sortOf_78 hm.o rfl (Nat.le_of_ble_eq_true rfl) (Nat.le_of_ble_eq_true rfl) (by omega) (r_isWord (d := 0) (k := 4) q.1.m ht q.2.1 tP_le (by omega) (wd_4 (ht.b _))) (rok_z bI_01) ⟨Nat.le_refl _, Nat.le_refl _, hN, hS⟩ ?_
            refine z_if_eq dX9_sortOf_81 rfl (fun _ => ?_) (fun c => absurd (bI_eq0.mpr c4) c)
            refine z_aload_n dX9_sortOf_86 rfl rfl ?_
            refine z_bipush (v := 112) dX9_sortOf_87 (by decide) ?_
            refine z_bipush (v := 114) dX9_sortOf_89 (by decide) ?_
            refine z_bipush (v := 111) dX9_sortOf_91 (by decide) ?_
            refine z_bipush (v := 112) dX9_sortOf_93 (by decide) ?_
            refine y_callS (as := [_, _, _, _]) CX9_w4 LX9_136 SX9_w4 dX9_sortOf_95 rfl (Nat.le_of_ble_eq_true rfl) (Nat.le_of_ble_eq_true rfl) (by omega) (r_w4 (d := 2) (a0 := 112) (a1 := 114) (a2 := 111) (a3 := 112) (by omega) (by omega) (by omega) (by omega) (Nat.le_refl _)) rok_l ⟨Nat.le_refl _, Nat.le_refl _, hN, hS⟩ ?_
            refine z_bipush (v := 104) dX9_sortOf_98 (by decide) ?_
            refine z_bipush (v := 101) dX9_sortOf_100 (by decide) ?_
            refine z_bipush (v := 116) dX9_sortOf_102 (by decide) ?_
            refine y_callS (as := [_, _, _]) CX9_w3 LX9_132 SX9_w3 dX9_sortOf_104 rfl (Nat.le_of_ble_eq_true rfl) (Nat.le_of_ble_eq_true rfl) (by omega) (r_w3 (d := 1) (a0 := 104) (a1 := 101) (a2 := 116) (by omega) (by omega) (by omega) (Nat.le_refl _)) rok_l ⟨Nat.le_refl _, Nat.le_refl _, hN, hS⟩ ?_
            refine z_bipush (v := 7) dX9_sortOf_107 (by decide) ?_
            refine y_callV (as := [_, _, _]) CX9_isLong LX9_188 IX9_isLong VX9_isLong ⟨rfl, Nat.le_of_ble_eq_true rfl⟩ dX9_sortOf_109 hm.o rfl (Nat.le_of_ble_eq_true rfl) (Nat.le_of_ble_eq_true rfl) (by omega) (r_pro (d := 3) q ht (Nat.le_refl _)) (rok_z bI_01) ⟨Nat.le_refl _, Nat.le_refl _, hN, hS⟩ ?_
            refine z_if_eq dX9_sortOf_112 rfl (fun c => absurd c (bI_ne0.mpr c5)) (fun _ => ?_)
            refine z_iconst (v := 4) dX9_sortOf_115 (by decide) ?_
            refine z_iret dX9_sortOf_116 ?_
            exact hQ
          · skip
            by_cases c6 : (tK (TPs s) (TNs s)) i = 6
            · rw [c6] at hQ
              refine z_aload_n dX9_sortOf_0 rfl rfl ?_
              refine z_bipush (v := 99) dX9_sortOf_1 (by decide) ?_
              refine z_bipush (v := 111) dX9_sortOf_3 (by decide) ?_
              refine z_bipush (v := 109) dX9_sortOf_5 (by decide) ?_
              refine z_bipush (v := 101) dX9_sortOf_7 (by decide) ?_
              refine z_bipush (v := 115) dX9_sortOf_9 (by decide) ?_
              refine y_callS (as := [_, _, _, _, _]) CX9_w5 LX9_140 SX9_w5 dX9_sortOf_11 rfl (Nat.le_of_ble_eq_true rfl) (Nat.le_of_ble_eq_true rfl) (by omega) (r_w5 (d := 3) (a0 := 99) (a1 := 111) (a2 := 109) (a3 := 101) (a4 := 115) (by omega) (by omega) (by omega) (by omega) (by omega) (Nat.le_refl _)) rok_l ⟨Nat.le_refl _, Nat.le_refl _, hN, hS⟩ ?_
              refine z_eql (show _ = lN 427071202675 from rfl) ?_
              refine y_callV (as := [_]) CX9_isWord LX9_192 IX9_isWord VX9_isWord ⟨rfl, Nat.le_of_ble_eq_true rfl⟩ dX9_sortOf_14 hm.o rfl (Nat.le_of_ble_eq_true rfl) (Nat.le_of_ble_eq_true rfl) (by omega) (r_isWord (d := 0) (k := 1) q.1.m ht q.2.1 tP_le (by omega) (wd_1 (ht.b _))) (rok_z bI_01) ⟨Nat.le_refl _, Nat.le_refl _, hN, hS⟩ ?_
              refine z_if_eq dX9_sortOf_17 rfl (fun _ => ?_) (fun c => absurd (bI_eq0.mpr c1) c)
              refine z_aload_n dX9_sortOf_22 rfl rfl ?_
              refine z_bipush (v := 100) dX9_sortOf_23 (by decide) ?_
              refine z_bipush (v := 117) dX9_sortOf_25 (by decide) ?_
              refine z_bipush (v := 101) dX9_sortOf_27 (by decide) ?_
              refine z_bipush (v := 115) dX9_sortOf_29 (by decide) ?_
              refine y_callS (as := [_, _, _, _]) CX9_w4 LX9_136 SX9_w4 dX9_sortOf_31 rfl (Nat.le_of_ble_eq_true rfl) (Nat.le_of_ble_eq_true rfl) (by omega) (r_w4 (d := 2) (a0 := 100) (a1 := 117) (a2 := 101) (a3 := 115) (by omega) (by omega) (by omega) (by omega) (Nat.le_refl _)) rok_l ⟨Nat.le_refl _, Nat.le_refl _, hN, hS⟩ ?_
              refine z_eql (show _ = lN 1685415283 from rfl) ?_
              refine y_callV (as := [_]) CX9_isWord LX9_192 IX9_isWord VX9_isWord ⟨rfl, Nat.le_of_ble_eq_true rfl⟩ dX9_sortOf_34 hm.o rfl (Nat.le_of_ble_eq_true rfl) (Nat.le_of_ble_eq_true rfl) (by omega) (r_isWord (d := 0) (k := 2) q.1.m ht q.2.1 tP_le (by omega) (wd_2 (ht.b _))) (rok_z bI_01) ⟨Nat.le_refl _, Nat.le_refl _, hN, hS⟩ ?_
              refine z_if_eq dX9_sortOf_37 rfl (fun _ => ?_) (fun c => absurd (bI_eq0.mpr c2) c)
              refine z_aload_n dX9_sortOf_42 rfl rfl ?_
              refine z_bipush (v := 114) dX9_sortOf_43 (by decide) ?_
              refine z_bipush (v := 101) dX9_sortOf_45 (by decide) ?_
              refine z_bipush (v := 110) dX9_sortOf_47 (by decide) ?_
              refine z_bipush (v := 111) dX9_sortOf_49 (by decide) ?_
              refine z_bipush (v := 119) dX9_sortOf_51 (by decide) ?_
              refine z_bipush (v := 110) dX9_sortOf_53 (by decide) ?_
              refine y_callS (as := [_, _, _, _, _, _]) CX9_w6 LX9_251 SX9_w6 dX9_sortOf_55 rfl (Nat.le_of_ble_eq_true rfl) (Nat.le_of_ble_eq_true rfl) (by omega) (r_w6 (d := 4) (a0 := 114) (a1 := 101) (a2 := 110) (a3 := 111) (a4 := 119) (a5 := 110) (by omega) (by omega) (by omega) (by omega) (by omega) (by omega) (Nat.le_refl _)) rok_l ⟨Nat.le_refl _, Nat.le_refl _, hN, hS⟩ ?_
              refine z_eql (show _ = lN 125779970062190 from rfl) ?_
              refine y_callV (as := [_]) CX9_isWord LX9_192 IX9_isWord VX9_isWord ⟨rfl, Nat.le_of_ble_eq_true rfl⟩ dX9_sortOf_58 hm.o rfl (Nat.le_of_ble_eq_true rfl) (Nat.le_of_ble_eq_true rfl) (by omega) (r_isWord (d := 0) (k := 3) q.1.m ht q.2.1 tP_le (by omega) (wd_3 (ht.b _))) (rok_z bI_01) ⟨Nat.le_refl _, Nat.le_refl _, hN, hS⟩ ?_
              refine z_if_eq dX9_sortOf_61 rfl (fun _ => ?_) (fun c => absurd (bI_eq0.mpr c3) c)
              refine z_aload_n dX9_sortOf_66 rfl rfl ?_
              refine z_bipush (v := 102) dX9_sortOf_67 (by decide) ?_
              refine z_bipush (v := 97) dX9_sortOf_69 (by decide) ?_
              refine z_bipush (v := 99) dX9_sortOf_71 (by decide) ?_
              refine z_bipush (v := 116) dX9_sortOf_73 (by decide) ?_
              refine y_callS (as := [_, _, _, _]) CX9_w4 LX9_136 SX9_w4 dX9_sortOf_75 rfl (Nat.le_of_ble_eq_true rfl) (Nat.le_of_ble_eq_true rfl) (by omega) (r_w4 (d := 2) (a0 := 102) (a1 := 97) (a2 := 99) (a3 := 116) (by omega) (by omega) (by omega) (by omega) (Nat.le_refl _)) rok_l ⟨Nat.le_refl _, Nat.le_refl _, hN, hS⟩ ?_
              refine z_eql (show _ = lN 1717658484 from rfl) ?_
              refine y_callV (as := [_]) CX9_isWord LX9_192 IX9_isWord VX9_isWord ⟨rfl, Nat.le_of_ble_eq_true rfl⟩ dX9_sortOf_78 hm.o rfl (Nat.le_of_ble_eq_true rfl) (Nat.le_of_ble_eq_true rfl) (by omega) (r_isWord (d := 0) (k := 4) q.1.m ht q.2.1 tP_le (by omega) (wd_4 (ht.b _))) (rok_z bI_01) ⟨Nat.le_refl _, Nat.le_refl _, hN, hS⟩ ?_
              refine z_if_eq dX9_sortOf_81 rfl (fun _ => ?_) (fun c => absurd (bI_eq0.mpr c4) c)
              refine z_aload_n dX9_sortOf_86 rfl rfl ?_
              refine z_bipush (v := 112) dX9_sortOf_87 (by decide) ?_
              refine z_bipush (v := 114) dX9_sortOf_89 (by decide) ?_
              refine z_bipush (v := 111) dX9_sortOf_91 (by decide) ?_
              refine z_bipush (v := 112) dX9_sortOf_93 (by decide) ?_
              refine y_callS (as := [_, _, _, _]) CX9_w4 LX9_136 SX9_w4 dX9_sortOf_95 rfl (Nat.le_of_ble_eq_true rfl) (Nat.le_of_ble_eq_true rfl) (by omega) (r_w4 (d := 2) (a0 := 112) (a1 := 114) (a2 := 111) (a3 := 112) (by omega) (by omega) (by omega) (by omega) (Nat.le_refl _)) rok_l ⟨Nat.le_refl _, Nat.le_refl _, hN, hS⟩ ?_
              refine z_bipush (v := 104) dX9_sortOf_98 (by decide) ?_
              refine z_bipush (v := 101) dX9_sortOf_100 (by decide) ?_
              refine z_bipush (v := 116) dX9_sortOf_102 (by decide) ?_
              refine y_callS (as := [_, _, _]) CX9_w3 LX9_132 SX9_w3 dX9_sortOf_104 rfl (Nat.le_of_ble_eq_true rfl) (Nat.le_of_ble_eq_true rfl) (by omega) (r_w3 (d := 1) (a0 := 104) (a1 := 101) (a2 := 116) (by omega) (by omega) (by omega) (Nat.le_refl _)) rok_l ⟨Nat.le_refl _, Nat.le_refl _, hN, hS⟩ ?_
              refine z_bipush (v := 7) dX9_sortOf_107 (by decide) ?_
              refine y_callV (as := [_, _, _]) CX9_isLong LX9_188 IX9_isLong VX9_isLong ⟨rfl, Nat.le_of_ble_eq_true rfl⟩ dX9_sortOf_109 hm.o rfl (Nat.le_of_ble_eq_true rfl) (Nat.le_of_ble_eq_true rfl) (by omega) (r_pro (d := 3) q ht (Nat.le_refl _)) (rok_z bI_01) ⟨Nat.le_refl _, Nat.le_refl _, hN, hS⟩ ?_
              refine z_if_eq dX9_sortOf_112 rfl (fun _ => ?_) (fun c => absurd (bI_eq0.mpr c5) c)
              refine z_aload_n dX9_sortOf_117 rfl rfl ?_
              refine z_bipush (v := 102) dX9_sortOf_118 (by decide) ?_
              refine z_bipush (v := 111) dX9_sortOf_120 (by decide) ?_
              refine z_bipush (v := 114) dX9_sortOf_122 (by decide) ?_
              refine z_bipush (v := 101) dX9_sortOf_124 (by decide) ?_
              refine y_callS (as := [_, _, _, _]) CX9_w4 LX9_136 SX9_w4 dX9_sortOf_126 rfl (Nat.le_of_ble_eq_true rfl) (Nat.le_of_ble_eq_true rfl) (by omega) (r_w4 (d := 2) (a0 := 102) (a1 := 111) (a2 := 114) (a3 := 101) (by omega) (by omega) (by omega) (by omega) (Nat.le_refl _)) rok_l ⟨Nat.le_refl _, Nat.le_refl _, hN, hS⟩ ?_
              refine z_bipush (v := 116) dX9_sortOf_129 (by decide) ?_
              refine z_bipush (v := 101) dX9_sortOf_131 (by decide) ?_
              refine z_bipush (v := 108) dX9_sortOf_133 (by decide) ?_
              refine z_bipush (v := 108) dX9_sortOf_135 (by decide) ?_
              refine y_callS (as := [_, _, _, _]) CX9_w4 LX9_136 SX9_w4 dX9_sortOf_137 rfl (Nat.le_of_ble_eq_true rfl) (Nat.le_of_ble_eq_true rfl) (by omega) (r_w4 (d := 2) (a0 := 116) (a1 := 101) (a2 := 108) (a3 := 108) (by omega) (by omega) (by omega) (by omega) (Nat.le_refl _)) rok_l ⟨Nat.le_refl _, Nat.le_refl _, hN, hS⟩ ?_
              refine z_bipush (v := 8) dX9_sortOf_140 (by decide) ?_
              refine y_callV (as := [_, _, _]) CX9_isLong LX9_188 IX9_isLong VX9_isLong ⟨rfl, Nat.le_of_ble_eq_true rfl⟩ dX9_sortOf_142 hm.o rfl (Nat.le_of_ble_eq_true rfl) (Nat.le_of_ble_eq_true rfl) (by omega) (r_fore (d := 3) q ht (Nat.le_refl _)) (rok_z bI_01) ⟨Nat.le_refl _, Nat.le_refl _, hN, hS⟩ ?_
              refine z_if_eq dX9_sortOf_145 rfl (fun c => absurd c (bI_ne0.mpr c6)) (fun _ => ?_)
              refine z_iconst (v := 5) dX9_sortOf_148 (by decide) ?_
              refine z_iret dX9_sortOf_149 ?_
              exact hQ
            · skip
              by_cases c7 : (tK (TPs s) (TNs s)) i = 7
              · rw [c7] at hQ
                refine z_aload_n dX9_sortOf_0 rfl rfl ?_
                refine z_bipush (v := 99) dX9_sortOf_1 (by decide) ?_
                refine z_bipush (v := 111) dX9_sortOf_3 (by decide) ?_
                refine z_bipush (v := 109) dX9_sortOf_5 (by decide) ?_
                refine z_bipush (v := 101) dX9_sortOf_7 (by decide) ?_
                refine z_bipush (v := 115) dX9_sortOf_9 (by decide) ?_
                refine y_callS (as := [_, _, _, _, _]) CX9_w5 LX9_140 SX9_w5 dX9_sortOf_11 rfl (Nat.le_of_ble_eq_true rfl) (Nat.le_of_ble_eq_true rfl) (by omega) (r_w5 (d := 3) (a0 := 99) (a1 := 111) (a2 := 109) (a3 := 101) (a4 := 115) (by omega) (by omega) (by omega) (by omega) (by omega) (Nat.le_refl _)) rok_l ⟨Nat.le_refl _, Nat.le_refl _, hN, hS⟩ ?_
                refine z_eql (show _ = lN 427071202675 from rfl) ?_
                refine y_callV (as := [_]) CX9_isWord LX9_192 IX9_isWord VX9_isWord ⟨rfl, Nat.le_of_ble_eq_true rfl⟩ dX9_sortOf_14 hm.o rfl (Nat.le_of_ble_eq_true rfl) (Nat.le_of_ble_eq_true rfl) (by omega) (r_isWord (d := 0) (k := 1) q.1.m ht q.2.1 tP_le (by omega) (wd_1 (ht.b _))) (rok_z bI_01) ⟨Nat.le_refl _, Nat.le_refl _, hN, hS⟩ ?_
                refine z_if_eq dX9_sortOf_17 rfl (fun _ => ?_) (fun c => absurd (bI_eq0.mpr c1) c)
                refine z_aload_n dX9_sortOf_22 rfl rfl ?_
                refine z_bipush (v := 100) dX9_sortOf_23 (by decide) ?_
                refine z_bipush (v := 117) dX9_sortOf_25 (by decide) ?_
                refine z_bipush (v := 101) dX9_sortOf_27 (by decide) ?_
                refine z_bipush (v := 115) dX9_sortOf_29 (by decide) ?_
                refine y_callS (as := [_, _, _, _]) CX9_w4 LX9_136 SX9_w4 dX9_sortOf_31 rfl (Nat.le_of_ble_eq_true rfl) (Nat.le_of_ble_eq_true rfl) (by omega) (r_w4 (d := 2) (a0 := 100) (a1 := 117) (a2 := 101) (a3 := 115) (by omega) (by omega) (by omega) (by omega) (Nat.le_refl _)) rok_l ⟨Nat.le_refl _, Nat.le_refl _, hN, hS⟩ ?_
                refine z_eql (show _ = lN 1685415283 from rfl) ?_
                refine y_callV (as := [_]) CX9_isWord LX9_192 IX9_isWord VX9_isWord ⟨rfl, Nat.le_of_ble_eq_true rfl⟩ dX9_sortOf_34 hm.o rfl (Nat.le_of_ble_eq_true rfl) (Nat.le_of_ble_eq_true rfl) (by omega) (r_isWord (d := 0) (k := 2) q.1.m ht q.2.1 tP_le (by omega) (wd_2 (ht.b _))) (rok_z bI_01) ⟨Nat.le_refl _, Nat.le_refl _, hN, hS⟩ ?_
                refine z_if_eq dX9_sortOf_37 rfl (fun _ => ?_) (fun c => absurd (bI_eq0.mpr c2) c)
                refine z_aload_n dX9_sortOf_42 rfl rfl ?_
                refine z_bipush (v := 114) dX9_sortOf_43 (by decide) ?_
                refine z_bipush (v := 101) dX9_sortOf_45 (by decide) ?_
                refine z_bipush (v := 110) dX9_sortOf_47 (by decide) ?_
                refine z_bipush (v := 111) dX9_sortOf_49 (by decide) ?_
                refine z_bipush (v := 119) dX9_sortOf_51 (by decide) ?_
                refine z_bipush (v := 110) dX9_sortOf_53 (by decide) ?_
                refine y_callS (as := [_, _, _, _, _, _]) CX9_w6 LX9_251 SX9_w6 dX9_sortOf_55 rfl (Nat.le_of_ble_eq_true rfl) (Nat.le_of_ble_eq_true rfl) (by omega) (r_w6 (d := 4) (a0 := 114) (a1 := 101) (a2 := 110) (a3 := 111) (a4 := 119) (a5 := 110) (by omega) (by omega) (by omega) (by omega) (by omega) (by omega) (Nat.le_refl _)) rok_l ⟨Nat.le_refl _, Nat.le_refl _, hN, hS⟩ ?_
                refine z_eql (show _ = lN 125779970062190 from rfl) ?_
                refine y_callV (as := [_]) CX9_isWord LX9_192 IX9_isWord VX9_isWord ⟨rfl, Nat.le_of_ble_eq_true rfl⟩ dX9_sortOf_58 hm.o rfl (Nat.le_of_ble_eq_true rfl) (Nat.le_of_ble_eq_true rfl) (by omega) (r_isWord (d := 0) (k := 3) q.1.m ht q.2.1 tP_le (by omega) (wd_3 (ht.b _))) (rok_z bI_01) ⟨Nat.le_refl _, Nat.le_refl _, hN, hS⟩ ?_
                refine z_if_eq dX9_sortOf_61 rfl (fun _ => ?_) (fun c => absurd (bI_eq0.mpr c3) c)
                refine z_aload_n dX9_sortOf_66 rfl rfl ?_
                refine z_bipush (v := 102) dX9_sortOf_67 (by decide) ?_
                refine z_bipush (v := 97) dX9_sortOf_69 (by decide) ?_
                refine z_bipush (v := 99) dX9_sortOf_71 (by decide) ?_
                refine z_bipush (v := 116) dX9_sortOf_73 (by decide) ?_
                refine y_callS (as := [_, _, _, _]) CX9_w4 LX9_136 SX9_w4 dX9_sortOf_75 rfl (Nat.le_of_ble_eq_true rfl) (Nat.le_of_ble_eq_true rfl) (by omega) (r_w4 (d := 2) (a0 := 102) (a1 := 97) (a2 := 99) (a3 := 116) (by omega) (by omega) (by omega) (by omega) (Nat.le_refl _)) rok_l ⟨Nat.le_refl _, Nat.le_refl _, hN, hS⟩ ?_
                refine z_eql (show _ = lN 1717658484 from rfl) ?_
                refine y_callV (as := [_]) CX9_isWord LX9_192 IX9_isWord VX9_isWord ⟨rfl, Nat.le_of_ble_eq_true rfl⟩ dX9_sortOf_78 hm.o rfl (Nat.le_of_ble_eq_true rfl) (Nat.le_of_ble_eq_true rfl) (by omega) (r_isWord (d := 0) (k := 4) q.1.m ht q.2.1 tP_le (by omega) (wd_4 (ht.b _))) (rok_z bI_01) ⟨Nat.le_refl _, Nat.le_refl _, hN, hS⟩ ?_
                refine z_if_eq dX9_sortOf_81 rfl (fun _ => ?_) (fun c => absurd (bI_eq0.mpr c4) c)
                refine z_aload_n dX9_sortOf_86 rfl rfl ?_
                refine z_bipush (v := 112) dX9_sortOf_87 (by decide) ?_
                refine z_bipush (v := 114) dX9_sortOf_89 (by decide) ?_
                refine z_bipush (v := 111) dX9_sortOf_91 (by decide) ?_
                refine z_bipush (v := 112) dX9_sortOf_93 (by decide) ?_
                refine y_callS (as := [_, _, _, _]) CX9_w4 LX9_136 SX9_w4 dX9_sortOf_95 rfl (Nat.le_of_ble_eq_true rfl) (Nat.le_of_ble_eq_true rfl) (by omega) (r_w4 (d := 2) (a0 := 112) (a1 := 114) (a2 := 111) (a3 := 112) (by omega) (by omega) (by omega) (by omega) (Nat.le_refl _)) rok_l ⟨Nat.le_refl _, Nat.le_refl _, hN, hS⟩ ?_
                refine z_bipush (v := 104) dX9_sortOf_98 (by decide) ?_
                refine z_bipush (v := 101) dX9_sortOf_100 (by decide) ?_
                refine z_bipush (v := 116) dX9_sortOf_102 (by decide) ?_
                refine y_callS (as := [_, _, _]) CX9_w3 LX9_132 SX9_w3 dX9_sortOf_104 rfl (Nat.le_of_ble_eq_true rfl) (Nat.le_of_ble_eq_true rfl) (by omega) (r_w3 (d := 1) (a0 := 104) (a1 := 101) (a2 := 116) (by omega) (by omega) (by omega) (Nat.le_refl _)) rok_l ⟨Nat.le_refl _, Nat.le_refl _, hN, hS⟩ ?_
                refine z_bipush (v := 7) dX9_sortOf_107 (by decide) ?_
                refine y_callV (as := [_, _, _]) CX9_isLong LX9_188 IX9_isLong VX9_isLong ⟨rfl, Nat.le_of_ble_eq_true rfl⟩ dX9_sortOf_109 hm.o rfl (Nat.le_of_ble_eq_true rfl) (Nat.le_of_ble_eq_true rfl) (by omega) (r_pro (d := 3) q ht (Nat.le_refl _)) (rok_z bI_01) ⟨Nat.le_refl _, Nat.le_refl _, hN, hS⟩ ?_
                refine z_if_eq dX9_sortOf_112 rfl (fun _ => ?_) (fun c => absurd (bI_eq0.mpr c5) c)
                refine z_aload_n dX9_sortOf_117 rfl rfl ?_
                refine z_bipush (v := 102) dX9_sortOf_118 (by decide) ?_
                refine z_bipush (v := 111) dX9_sortOf_120 (by decide) ?_
                refine z_bipush (v := 114) dX9_sortOf_122 (by decide) ?_
                refine z_bipush (v := 101) dX9_sortOf_124 (by decide) ?_
                refine y_callS (as := [_, _, _, _]) CX9_w4 LX9_136 SX9_w4 dX9_sortOf_126 rfl (Nat.le_of_ble_eq_true rfl) (Nat.le_of_ble_eq_true rfl) (by omega) (r_w4 (d := 2) (a0 := 102) (a1 := 111) (a2 := 114) (a3 := 101) (by omega) (by omega) (by omega) (by omega) (Nat.le_refl _)) rok_l ⟨Nat.le_refl _, Nat.le_refl _, hN, hS⟩ ?_
                refine z_bipush (v := 116) dX9_sortOf_129 (by decide) ?_
                refine z_bipush (v := 101) dX9_sortOf_131 (by decide) ?_
                refine z_bipush (v := 108) dX9_sortOf_133 (by decide) ?_
                refine z_bipush (v := 108) dX9_sortOf_135 (by decide) ?_
                refine y_callS (as := [_, _, _, _]) CX9_w4 LX9_136 SX9_w4 dX9_sortOf_137 rfl (Nat.le_of_ble_eq_true rfl) (Nat.le_of_ble_eq_true rfl) (by omega) (r_w4 (d := 2) (a0 := 116) (a1 := 101) (a2 := 108) (a3 := 108) (by omega) (by omega) (by omega) (by omega) (Nat.le_refl _)) rok_l ⟨Nat.le_refl _, Nat.le_refl _, hN, hS⟩ ?_
                refine z_bipush (v := 8) dX9_sortOf_140 (by decide) ?_
                refine y_callV (as := [_, _, _]) CX9_isLong LX9_188 IX9_isLong VX9_isLong ⟨rfl, Nat.le_of_ble_eq_true rfl⟩ dX9_sortOf_142 hm.o rfl (Nat.le_of_ble_eq_true rfl) (Nat.le_of_ble_eq_true rfl) (by omega) (r_fore (d := 3) q ht (Nat.le_refl _)) (rok_z bI_01) ⟨Nat.le_refl _, Nat.le_refl _, hN, hS⟩ ?_
                refine z_if_eq dX9_sortOf_145 rfl (fun _ => ?_) (fun c => absurd (bI_eq0.mpr c6) c)
                refine z_aload_n dX9_sortOf_150 rfl rfl ?_
                refine z_bipush (v := 98) dX9_sortOf_151 (by decide) ?_
                refine z_bipush (v := 114) dX9_sortOf_153 (by decide) ?_
                refine z_bipush (v := 105) dX9_sortOf_155 (by decide) ?_
                refine z_bipush (v := 110) dX9_sortOf_157 (by decide) ?_
                refine z_bipush (v := 103) dX9_sortOf_159 (by decide) ?_
                refine y_callS (as := [_, _, _, _, _]) CX9_w5 LX9_140 SX9_w5 dX9_sortOf_161 rfl (Nat.le_of_ble_eq_true rfl) (Nat.le_of_ble_eq_true rfl) (by omega) (r_w5 (d := 3) (a0 := 98) (a1 := 114) (a2 := 105) (a3 := 110) (a4 := 103) (by omega) (by omega) (by omega) (by omega) (by omega) (Nat.le_refl _)) rok_l ⟨Nat.le_refl _, Nat.le_refl _, hN, hS⟩ ?_
                refine z_eql (show _ = lN 422826307175 from rfl) ?_
                refine y_callV (as := [_]) CX9_isWord LX9_192 IX9_isWord VX9_isWord ⟨rfl, Nat.le_of_ble_eq_true rfl⟩ dX9_sortOf_164 hm.o rfl (Nat.le_of_ble_eq_true rfl) (Nat.le_of_ble_eq_true rfl) (by omega) (r_isWord (d := 0) (k := 7) q.1.m ht q.2.1 tP_le (by omega) (wd_7 (ht.b _))) (rok_z bI_01) ⟨Nat.le_refl _, Nat.le_refl _, hN, hS⟩ ?_
                refine z_if_eq dX9_sortOf_167 rfl (fun c => absurd c (bI_ne0.mpr c7)) (fun _ => ?_)
                refine z_bipush (v := 6) dX9_sortOf_170 (by decide) ?_
                refine z_iret dX9_sortOf_172 ?_
                exact hQ
              · skip
                by_cases c8 : (tK (TPs s) (TNs s)) i = 8
                · rw [c8] at hQ
                  refine z_aload_n dX9_sortOf_0 rfl rfl ?_
                  refine z_bipush (v := 99) dX9_sortOf_1 (by decide) ?_
                  refine z_bipush (v := 111) dX9_sortOf_3 (by decide) ?_
                  refine z_bipush (v := 109) dX9_sortOf_5 (by decide) ?_
                  refine z_bipush (v := 101) dX9_sortOf_7 (by decide) ?_
                  refine z_bipush (v := 115) dX9_sortOf_9 (by decide) ?_
                  refine y_callS (as := [_, _, _, _, _]) CX9_w5 LX9_140 SX9_w5 dX9_sortOf_11 rfl (Nat.le_of_ble_eq_true rfl) (Nat.le_of_ble_eq_true rfl) (by omega) (r_w5 (d := 3) (a0 := 99) (a1 := 111) (a2 := 109) (a3 := 101) (a4 := 115) (by omega) (by omega) (by omega) (by omega) (by omega) (Nat.le_refl _)) rok_l ⟨Nat.le_refl _, Nat.le_refl _, hN, hS⟩ ?_
                  refine z_eql (show _ = lN 427071202675 from rfl) ?_
                  refine y_callV (as := [_]) CX9_isWord LX9_192 IX9_isWord VX9_isWord ⟨rfl, Nat.le_of_ble_eq_true rfl⟩ dX9_sortOf_14 hm.o rfl (Nat.le_of_ble_eq_true rfl) (Nat.le_of_ble_eq_true rfl) (by omega) (r_isWord (d := 0) (k := 1) q.1.m ht q.2.1 tP_le (by omega) (wd_1 (ht.b _))) (rok_z bI_01) ⟨Nat.le_refl _, Nat.le_refl _, hN, hS⟩ ?_
                  refine z_if_eq dX9_sortOf_17 rfl (fun _ => ?_) (fun c => absurd (bI_eq0.mpr c1) c)
                  refine z_aload_n dX9_sortOf_22 rfl rfl ?_
                  refine z_bipush (v := 100) dX9_sortOf_23 (by decide) ?_
                  refine z_bipush (v := 117) dX9_sortOf_25 (by decide) ?_
                  refine z_bipush (v := 101) dX9_sortOf_27 (by decide) ?_
                  refine z_bipush (v := 115) dX9_sortOf_29 (by decide) ?_
                  refine y_callS (as := [_, _, _, _]) CX9_w4 LX9_136 SX9_w4 dX9_sortOf_31 rfl (Nat.le_of_ble_eq_true rfl) (Nat.le_of_ble_eq_true rfl) (by omega) (r_w4 (d := 2) (a0 := 100) (a1 := 117) (a2 := 101) (a3 := 115) (by omega) (by omega) (by omega) (by omega) (Nat.le_refl _)) rok_l ⟨Nat.le_refl _, Nat.le_refl _, hN, hS⟩ ?_
                  refine z_eql (show _ = lN 1685415283 from rfl) ?_
                  refine y_callV (as := [_]) CX9_isWord LX9_192 IX9_isWord VX9_isWord ⟨rfl, Nat.le_of_ble_eq_true rfl⟩ dX9_sortOf_34 hm.o rfl (Nat.le_of_ble_eq_true rfl) (Nat.le_of_ble_eq_true rfl) (by omega) (r_isWord (d := 0) (k := 2) q.1.m ht q.2.1 tP_le (by omega) (wd_2 (ht.b _))) (rok_z bI_01) ⟨Nat.le_refl _, Nat.le_refl _, hN, hS⟩ ?_
                  refine z_if_eq dX9_sortOf_37 rfl (fun _ => ?_) (fun c => absurd (bI_eq0.mpr c2) c)
                  refine z_aload_n dX9_sortOf_42 rfl rfl ?_
                  refine z_bipush (v := 114) dX9_sortOf_43 (by decide) ?_
                  refine z_bipush (v := 101) dX9_sortOf_45 (by decide) ?_
                  refine z_bipush (v := 110) dX9_sortOf_47 (by decide) ?_
                  refine z_bipush (v := 111) dX9_sortOf_49 (by decide) ?_
                  refine z_bipush (v := 119) dX9_sortOf_51 (by decide) ?_
                  refine z_bipush (v := 110) dX9_sortOf_53 (by decide) ?_
                  refine y_callS (as := [_, _, _, _, _, _]) CX9_w6 LX9_251 SX9_w6 dX9_sortOf_55 rfl (Nat.le_of_ble_eq_true rfl) (Nat.le_of_ble_eq_true rfl) (by omega) (r_w6 (d := 4) (a0 := 114) (a1 := 101) (a2 := 110) (a3 := 111) (a4 := 119) (a5 := 110) (by omega) (by omega) (by omega) (by omega) (by omega) (by omega) (Nat.le_refl _)) rok_l ⟨Nat.le_refl _, Nat.le_refl _, hN, hS⟩ ?_
                  refine z_eql (show _ = lN 125779970062190 from rfl) ?_
                  refine y_callV (as := [_]) CX9_isWord LX9_192 IX9_isWord VX9_isWord ⟨rfl, Nat.le_of_ble_eq_true rfl⟩ dX9_sortOf_58 hm.o rfl (Nat.le_of_ble_eq_true rfl) (Nat.le_of_ble_eq_true rfl) (by omega) (r_isWord (d := 0) (k := 3) q.1.m ht q.2.1 tP_le (by omega) (wd_3 (ht.b _))) (rok_z bI_01) ⟨Nat.le_refl _, Nat.le_refl _, hN, hS⟩ ?_
                  refine z_if_eq dX9_sortOf_61 rfl (fun _ => ?_) (fun c => absurd (bI_eq0.mpr c3) c)
                  refine z_aload_n dX9_sortOf_66 rfl rfl ?_
                  refine z_bipush (v := 102) dX9_sortOf_67 (by decide) ?_
                  refine z_bipush (v := 97) dX9_sortOf_69 (by decide) ?_
                  refine z_bipush (v := 99) dX9_sortOf_71 (by decide) ?_
                  refine z_bipush (v := 116) dX9_sortOf_73 (by decide) ?_
                  refine y_callS (as := [_, _, _, _]) CX9_w4 LX9_136 SX9_w4 dX9_sortOf_75 rfl (Nat.le_of_ble_eq_true rfl) (Nat.le_of_ble_eq_true rfl) (by omega) (r_w4 (d := 2) (a0 := 102) (a1 := 97) (a2 := 99) (a3 := 116) (by omega) (by omega) (by omega) (by omega) (Nat.le_refl _)) rok_l ⟨Nat.le_refl _, Nat.le_refl _, hN, hS⟩ ?_
                  refine z_eql (show _ = lN 1717658484 from rfl) ?_
                  refine y_callV (as := [_]) CX9_isWord LX9_192 IX9_isWord VX9_isWord ⟨rfl, Nat.le_of_ble_eq_true rfl⟩ dX9_sortOf_78 hm.o rfl (Nat.le_of_ble_eq_true rfl) (Nat.le_of_ble_eq_true rfl) (by omega) (r_isWord (d := 0) (k := 4) q.1.m ht q.2.1 tP_le (by omega) (wd_4 (ht.b _))) (rok_z bI_01) ⟨Nat.le_refl _, Nat.le_refl _, hN, hS⟩ ?_
                  refine z_if_eq dX9_sortOf_81 rfl (fun _ => ?_) (fun c => absurd (bI_eq0.mpr c4) c)
                  refine z_aload_n dX9_sortOf_86 rfl rfl ?_
                  refine z_bipush (v := 112) dX9_sortOf_87 (by decide) ?_
                  refine z_bipush (v := 114) dX9_sortOf_89 (by decide) ?_
                  refine z_bipush (v := 111) dX9_sortOf_91 (by decide) ?_
                  refine z_bipush (v := 112) dX9_sortOf_93 (by decide) ?_
                  refine y_callS (as := [_, _, _, _]) CX9_w4 LX9_136 SX9_w4 dX9_sortOf_95 rfl (Nat.le_of_ble_eq_true rfl) (Nat.le_of_ble_eq_true rfl) (by omega) (r_w4 (d := 2) (a0 := 112) (a1 := 114) (a2 := 111) (a3 := 112) (by omega) (by omega) (by omega) (by omega) (Nat.le_refl _)) rok_l ⟨Nat.le_refl _, Nat.le_refl _, hN, hS⟩ ?_
                  refine z_bipush (v := 104) dX9_sortOf_98 (by decide) ?_
                  refine z_bipush (v := 101) dX9_sortOf_100 (by decide) ?_
                  refine z_bipush (v := 116) dX9_sortOf_102 (by decide) ?_
                  refine y_callS (as := [_, _, _]) CX9_w3 LX9_132 SX9_w3 dX9_sortOf_104 rfl (Nat.le_of_ble_eq_true rfl) (Nat.le_of_ble_eq_true rfl) (by omega) (r_w3 (d := 1) (a0 := 104) (a1 := 101) (a2 := 116) (by omega) (by omega) (by omega) (Nat.le_refl _)) rok_l ⟨Nat.le_refl _, Nat.le_refl _, hN, hS⟩ ?_
                  refine z_bipush (v := 7) dX9_sortOf_107 (by decide) ?_
                  refine y_callV (as := [_, _, _]) CX9_isLong LX9_188 IX9_isLong VX9_isLong ⟨rfl, Nat.le_of_ble_eq_true rfl⟩ dX9_sortOf_109 hm.o rfl (Nat.le_of_ble_eq_true rfl) (Nat.le_of_ble_eq_true rfl) (by omega) (r_pro (d := 3) q ht (Nat.le_refl _)) (rok_z bI_01) ⟨Nat.le_refl _, Nat.le_refl _, hN, hS⟩ ?_
                  refine z_if_eq dX9_sortOf_112 rfl (fun _ => ?_) (fun c => absurd (bI_eq0.mpr c5) c)
                  refine z_aload_n dX9_sortOf_117 rfl rfl ?_
                  refine z_bipush (v := 102) dX9_sortOf_118 (by decide) ?_
                  refine z_bipush (v := 111) dX9_sortOf_120 (by decide) ?_
                  refine z_bipush (v := 114) dX9_sortOf_122 (by decide) ?_
                  refine z_bipush (v := 101) dX9_sortOf_124 (by decide) ?_
                  refine y_callS (as := [_, _, _, _]) CX9_w4 LX9_136 SX9_w4 dX9_sortOf_126 rfl (Nat.le_of_ble_eq_true rfl) (Nat.le_of_ble_eq_true rfl) (by omega) (r_w4 (d := 2) (a0 := 102) (a1 := 111) (a2 := 114) (a3 := 101) (by omega) (by omega) (by omega) (by omega) (Nat.le_refl _)) rok_l ⟨Nat.le_refl _, Nat.le_refl _, hN, hS⟩ ?_
                  refine z_bipush (v := 116) dX9_sortOf_129 (by decide) ?_
                  refine z_bipush (v := 101) dX9_sortOf_131 (by decide) ?_
                  refine z_bipush (v := 108) dX9_sortOf_133 (by decide) ?_
                  refine z_bipush (v := 108) dX9_sortOf_135 (by decide) ?_
                  refine y_callS (as := [_, _, _, _]) CX9_w4 LX9_136 SX9_w4 dX9_sortOf_137 rfl (Nat.le_of_ble_eq_true rfl) (Nat.le_of_ble_eq_true rfl) (by omega) (r_w4 (d := 2) (a0 := 116) (a1 := 101) (a2 := 108) (a3 := 108) (by omega) (by omega) (by omega) (by omega) (Nat.le_refl _)) rok_l ⟨Nat.le_refl _, Nat.le_refl _, hN, hS⟩ ?_
                  refine z_bipush (v := 8) dX9_sortOf_140 (by decide) ?_
                  refine y_callV (as := [_, _, _]) CX9_isLong LX9_188 IX9_isLong VX9_isLong ⟨rfl, Nat.le_of_ble_eq_true rfl⟩ dX9_sortOf_142 hm.o rfl (Nat.le_of_ble_eq_true rfl) (Nat.le_of_ble_eq_true rfl) (by omega) (r_fore (d := 3) q ht (Nat.le_refl _)) (rok_z bI_01) ⟨Nat.le_refl _, Nat.le_refl _, hN, hS⟩ ?_
                  refine z_if_eq dX9_sortOf_145 rfl (fun _ => ?_) (fun c => absurd (bI_eq0.mpr c6) c)
                  refine z_aload_n dX9_sortOf_150 rfl rfl ?_
                  refine z_bipush (v := 98) dX9_sortOf_151 (by decide) ?_
                  refine z_bipush (v := 114) dX9_sortOf_153 (by decide) ?_
                  refine z_bipush (v := 105) dX9_sortOf_155 (by decide) ?_
                  refine z_bipush (v := 110) dX9_sortOf_157 (by decide) ?_
                  refine z_bipush (v := 103) dX9_sortOf_159 (by decide) ?_
                  refine y_callS (as := [_, _, _, _, _]) CX9_w5 LX9_140 SX9_w5 dX9_sortOf_161 rfl (Nat.le_of_ble_eq_true rfl) (Nat.le_of_ble_eq_true rfl) (by omega) (r_w5 (d := 3) (a0 := 98) (a1 := 114) (a2 := 105) (a3 := 110) (a4 := 103) (by omega) (by omega) (by omega) (by omega) (by omega) (Nat.le_refl _)) rok_l ⟨Nat.le_refl _, Nat.le_refl _, hN, hS⟩ ?_
                  refine z_eql (show _ = lN 422826307175 from rfl) ?_
                  refine y_callV (as := [_]) CX9_isWord LX9_192 IX9_isWord VX9_isWord ⟨rfl, Nat.le_of_ble_eq_true rfl⟩ dX9_sortOf_164 hm.o rfl (Nat.le_of_ble_eq_true rfl) (Nat.le_of_ble_eq_true rfl) (by omega) (r_isWord (d := 0) (k := 7) q.1.m ht q.2.1 tP_le (by omega) (wd_7 (ht.b _))) (rok_z bI_01) ⟨Nat.le_refl _, Nat.le_refl _, hN, hS⟩ ?_
                  refine z_if_eq dX9_sortOf_167 rfl (fun _ => ?_) (fun c => absurd (bI_eq0.mpr c7) c)
                  refine z_aload_n dX9_sortOf_173 rfl rfl ?_
                  refine z_bipush (v := 115) dX9_sortOf_174 (by decide) ?_
                  refine z_bipush (v := 112) dX9_sortOf_176 (by decide) ?_
                  refine z_bipush (v := 111) dX9_sortOf_178 (by decide) ?_
                  refine z_bipush (v := 105) dX9_sortOf_180 (by decide) ?_
                  refine z_bipush (v := 108) dX9_sortOf_182 (by decide) ?_
                  refine y_callS (as := [_, _, _, _, _]) CX9_w5 LX9_140 SX9_w5 dX9_sortOf_184 rfl (Nat.le_of_ble_eq_true rfl) (Nat.le_of_ble_eq_true rfl) (by omega) (r_w5 (d := 3) (a0 := 115) (a1 := 112) (a2 := 111) (a3 := 105) (a4 := 108) (by omega) (by omega) (by omega) (by omega) (by omega) (Nat.le_refl _)) rok_l ⟨Nat.le_refl _, Nat.le_refl _, hN, hS⟩ ?_
                  refine z_eql (show _ = lN 495807588716 from rfl) ?_
                  refine y_callV (as := [_]) CX9_isWord LX9_192 IX9_isWord VX9_isWord ⟨rfl, Nat.le_of_ble_eq_true rfl⟩ dX9_sortOf_187 hm.o rfl (Nat.le_of_ble_eq_true rfl) (Nat.le_of_ble_eq_true rfl) (by omega) (r_isWord (d := 0) (k := 8) q.1.m ht q.2.1 tP_le (by omega) (wd_8 (ht.b _))) (rok_z bI_01) ⟨Nat.le_refl _, Nat.le_refl _, hN, hS⟩ ?_
                  refine z_if_eq dX9_sortOf_190 rfl (fun c => absurd c (bI_ne0.mpr c8)) (fun _ => ?_)
                  refine z_bipush (v := 7) dX9_sortOf_193 (by decide) ?_
                  refine z_iret dX9_sortOf_195 ?_
                  exact hQ
                · skip
                  by_cases c9 : (tK (TPs s) (TNs s)) i = 9
                  · rw [c9] at hQ
                    refine z_aload_n dX9_sortOf_0 rfl rfl ?_
                    refine z_bipush (v := 99) dX9_sortOf_1 (by decide) ?_
                    refine z_bipush (v := 111) dX9_sortOf_3 (by decide) ?_
                    refine z_bipush (v := 109) dX9_sortOf_5 (by decide) ?_
                    refine z_bipush (v := 101) dX9_sortOf_7 (by decide) ?_
                    refine z_bipush (v := 115) dX9_sortOf_9 (by decide) ?_
                    refine y_callS (as := [_, _, _, _, _]) CX9_w5 LX9_140 SX9_w5 dX9_sortOf_11 rfl (Nat.le_of_ble_eq_true rfl) (Nat.le_of_ble_eq_true rfl) (by omega) (r_w5 (d := 3) (a0 := 99) (a1 := 111) (a2 := 109) (a3 := 101) (a4 := 115) (by omega) (by omega) (by omega) (by omega) (by omega) (Nat.le_refl _)) rok_l ⟨Nat.le_refl _, Nat.le_refl _, hN, hS⟩ ?_
                    refine z_eql (show _ = lN 427071202675 from rfl) ?_
                    refine y_callV (as := [_]) CX9_isWord LX9_192 IX9_isWord VX9_isWord ⟨rfl, Nat.le_of_ble_eq_true rfl⟩ dX9_sortOf_14 hm.o rfl (Nat.le_of_ble_eq_true rfl) (Nat.le_of_ble_eq_true rfl) (by omega) (r_isWord (d := 0) (k := 1) q.1.m ht q.2.1 tP_le (by omega) (wd_1 (ht.b _))) (rok_z bI_01) ⟨Nat.le_refl _, Nat.le_refl _, hN, hS⟩ ?_
                    refine z_if_eq dX9_sortOf_17 rfl (fun _ => ?_) (fun c => absurd (bI_eq0.mpr c1) c)
                    refine z_aload_n dX9_sortOf_22 rfl rfl ?_
                    refine z_bipush (v := 100) dX9_sortOf_23 (by decide) ?_
                    refine z_bipush (v := 117) dX9_sortOf_25 (by decide) ?_
                    refine z_bipush (v := 101) dX9_sortOf_27 (by decide) ?_
                    refine z_bipush (v := 115) dX9_sortOf_29 (by decide) ?_
                    refine y_callS (as := [_, _, _, _]) CX9_w4 LX9_136 SX9_w4 dX9_sortOf_31 rfl (Nat.le_of_ble_eq_true rfl) (Nat.le_of_ble_eq_true rfl) (by omega) (r_w4 (d := 2) (a0 := 100) (a1 := 117) (a2 := 101) (a3 := 115) (by omega) (by omega) (by omega) (by omega) (Nat.le_refl _)) rok_l ⟨Nat.le_refl _, Nat.le_refl _, hN, hS⟩ ?_
                    refine z_eql (show _ = lN 1685415283 from rfl) ?_
                    refine y_callV (as := [_]) CX9_isWord LX9_192 IX9_isWord VX9_isWord ⟨rfl, Nat.le_of_ble_eq_true rfl⟩ dX9_sortOf_34 hm.o rfl (Nat.le_of_ble_eq_true rfl) (Nat.le_of_ble_eq_true rfl) (by omega) (r_isWord (d := 0) (k := 2) q.1.m ht q.2.1 tP_le (by omega) (wd_2 (ht.b _))) (rok_z bI_01) ⟨Nat.le_refl _, Nat.le_refl _, hN, hS⟩ ?_
                    refine z_if_eq dX9_sortOf_37 rfl (fun _ => ?_) (fun c => absurd (bI_eq0.mpr c2) c)
                    refine z_aload_n dX9_sortOf_42 rfl rfl ?_
                    refine z_bipush (v := 114) dX9_sortOf_43 (by decide) ?_
                    refine z_bipush (v := 101) dX9_sortOf_45 (by decide) ?_
                    refine z_bipush (v := 110) dX9_sortOf_47 (by decide) ?_
                    refine z_bipush (v := 111) dX9_sortOf_49 (by decide) ?_
                    refine z_bipush (v := 119) dX9_sortOf_51 (by decide) ?_
                    refine z_bipush (v := 110) dX9_sortOf_53 (by decide) ?_
                    refine y_callS (as := [_, _, _, _, _, _]) CX9_w6 LX9_251 SX9_w6 dX9_sortOf_55 rfl (Nat.le_of_ble_eq_true rfl) (Nat.le_of_ble_eq_true rfl) (by omega) (r_w6 (d := 4) (a0 := 114) (a1 := 101) (a2 := 110) (a3 := 111) (a4 := 119) (a5 := 110) (by omega) (by omega) (by omega) (by omega) (by omega) (by omega) (Nat.le_refl _)) rok_l ⟨Nat.le_refl _, Nat.le_refl _, hN, hS⟩ ?_
                    refine z_eql (show _ = lN 125779970062190 from rfl) ?_
                    refine y_callV (as := [_]) CX9_isWord LX9_192 IX9_isWord VX9_isWord ⟨rfl, Nat.le_of_ble_eq_true rfl⟩ dX9_sortOf_58 hm.o rfl (Nat.le_of_ble_eq_true rfl) (Nat.le_of_ble_eq_true rfl) (by omega) (r_isWord (d := 0) (k := 3) q.1.m ht q.2.1 tP_le (by omega) (wd_3 (ht.b _))) (rok_z bI_01) ⟨Nat.le_refl _, Nat.le_refl _, hN, hS⟩ ?_
                    refine z_if_eq dX9_sortOf_61 rfl (fun _ => ?_) (fun c => absurd (bI_eq0.mpr c3) c)
                    refine z_aload_n dX9_sortOf_66 rfl rfl ?_
                    refine z_bipush (v := 102) dX9_sortOf_67 (by decide) ?_
                    refine z_bipush (v := 97) dX9_sortOf_69 (by decide) ?_
                    refine z_bipush (v := 99) dX9_sortOf_71 (by decide) ?_
                    refine z_bipush (v := 116) dX9_sortOf_73 (by decide) ?_
                    refine y_callS (as := [_, _, _, _]) CX9_w4 LX9_136 SX9_w4 dX9_sortOf_75 rfl (Nat.le_of_ble_eq_true rfl) (Nat.le_of_ble_eq_true rfl) (by omega) (r_w4 (d := 2) (a0 := 102) (a1 := 97) (a2 := 99) (a3 := 116) (by omega) (by omega) (by omega) (by omega) (Nat.le_refl _)) rok_l ⟨Nat.le_refl _, Nat.le_refl _, hN, hS⟩ ?_
                    refine z_eql (show _ = lN 1717658484 from rfl) ?_
                    refine y_callV (as := [_]) CX9_isWord LX9_192 IX9_isWord VX9_isWord ⟨rfl, Nat.le_of_ble_eq_true rfl⟩ dX9_sortOf_78 hm.o rfl (Nat.le_of_ble_eq_true rfl) (Nat.le_of_ble_eq_true rfl) (by omega) (r_isWord (d := 0) (k := 4) q.1.m ht q.2.1 tP_le (by omega) (wd_4 (ht.b _))) (rok_z bI_01) ⟨Nat.le_refl _, Nat.le_refl _, hN, hS⟩ ?_
                    refine z_if_eq dX9_sortOf_81 rfl (fun _ => ?_) (fun c => absurd (bI_eq0.mpr c4) c)
                    refine z_aload_n dX9_sortOf_86 rfl rfl ?_
                    refine z_bipush (v := 112) dX9_sortOf_87 (by decide) ?_
                    refine z_bipush (v := 114) dX9_sortOf_89 (by decide) ?_
                    refine z_bipush (v := 111) dX9_sortOf_91 (by decide) ?_
                    refine z_bipush (v := 112) dX9_sortOf_93 (by decide) ?_
                    refine y_callS (as := [_, _, _, _]) CX9_w4 LX9_136 SX9_w4 dX9_sortOf_95 rfl (Nat.le_of_ble_eq_true rfl) (Nat.le_of_ble_eq_true rfl) (by omega) (r_w4 (d := 2) (a0 := 112) (a1 := 114) (a2 := 111) (a3 := 112) (by omega) (by omega) (by omega) (by omega) (Nat.le_refl _)) rok_l ⟨Nat.le_refl _, Nat.le_refl _, hN, hS⟩ ?_
                    refine z_bipush (v := 104) dX9_sortOf_98 (by decide) ?_
                    refine z_bipush (v := 101) dX9_sortOf_100 (by decide) ?_
                    refine z_bipush (v := 116) dX9_sortOf_102 (by decide) ?_
                    refine y_callS (as := [_, _, _]) CX9_w3 LX9_132 SX9_w3 dX9_sortOf_104 rfl (Nat.le_of_ble_eq_true rfl) (Nat.le_of_ble_eq_true rfl) (by omega) (r_w3 (d := 1) (a0 := 104) (a1 := 101) (a2 := 116) (by omega) (by omega) (by omega) (Nat.le_refl _)) rok_l ⟨Nat.le_refl _, Nat.le_refl _, hN, hS⟩ ?_
                    refine z_bipush (v := 7) dX9_sortOf_107 (by decide) ?_
                    refine y_callV (as := [_, _, _]) CX9_isLong LX9_188 IX9_isLong VX9_isLong ⟨rfl, Nat.le_of_ble_eq_true rfl⟩ dX9_sortOf_109 hm.o rfl (Nat.le_of_ble_eq_true rfl) (Nat.le_of_ble_eq_true rfl) (by omega) (r_pro (d := 3) q ht (Nat.le_refl _)) (rok_z bI_01) ⟨Nat.le_refl _, Nat.le_refl _, hN, hS⟩ ?_
                    refine z_if_eq dX9_sortOf_112 rfl (fun _ => ?_) (fun c => absurd (bI_eq0.mpr c5) c)
                    refine z_aload_n dX9_sortOf_117 rfl rfl ?_
                    refine z_bipush (v := 102) dX9_sortOf_118 (by decide) ?_
                    refine z_bipush (v := 111) dX9_sortOf_120 (by decide) ?_
                    refine z_bipush (v := 114) dX9_sortOf_122 (by decide) ?_
                    refine z_bipush (v := 101) dX9_sortOf_124 (by decide) ?_
                    refine y_callS (as := [_, _, _, _]) CX9_w4 LX9_136 SX9_w4 dX9_sortOf_126 rfl (Nat.le_of_ble_eq_true rfl) (Nat.le_of_ble_eq_true rfl) (by omega) (r_w4 (d := 2) (a0 := 102) (a1 := 111) (a2 := 114) (a3 := 101) (by omega) (by omega) (by omega) (by omega) (Nat.le_refl _)) rok_l ⟨Nat.le_refl _, Nat.le_refl _, hN, hS⟩ ?_
                    refine z_bipush (v := 116) dX9_sortOf_129 (by decide) ?_
                    refine z_bipush (v := 101) dX9_sortOf_131 (by decide) ?_
                    refine z_bipush (v := 108) dX9_sortOf_133 (by decide) ?_
                    refine z_bipush (v := 108) dX9_sortOf_135 (by decide) ?_
                    refine y_callS (as := [_, _, _, _]) CX9_w4 LX9_136 SX9_w4 dX9_sortOf_137 rfl (Nat.le_of_ble_eq_true rfl) (Nat.le_of_ble_eq_true rfl) (by omega) (r_w4 (d := 2) (a0 := 116) (a1 := 101) (a2 := 108) (a3 := 108) (by omega) (by omega) (by omega) (by omega) (Nat.le_refl _)) rok_l ⟨Nat.le_refl _, Nat.le_refl _, hN, hS⟩ ?_
                    refine z_bipush (v := 8) dX9_sortOf_140 (by decide) ?_
                    refine y_callV (as := [_, _, _]) CX9_isLong LX9_188 IX9_isLong VX9_isLong ⟨rfl, Nat.le_of_ble_eq_true rfl⟩ dX9_sortOf_142 hm.o rfl (Nat.le_of_ble_eq_true rfl) (Nat.le_of_ble_eq_true rfl) (by omega) (r_fore (d := 3) q ht (Nat.le_refl _)) (rok_z bI_01) ⟨Nat.le_refl _, Nat.le_refl _, hN, hS⟩ ?_
                    refine z_if_eq dX9_sortOf_145 rfl (fun _ => ?_) (fun c => absurd (bI_eq0.mpr c6) c)
                    refine z_aload_n dX9_sortOf_150 rfl rfl ?_
                    refine z_bipush (v := 98) dX9_sortOf_151 (by decide) ?_
                    refine z_bipush (v := 114) dX9_sortOf_153 (by decide) ?_
                    refine z_bipush (v := 105) dX9_sortOf_155 (by decide) ?_
                    refine z_bipush (v := 110) dX9_sortOf_157 (by decide) ?_
                    refine z_bipush (v := 103) dX9_sortOf_159 (by decide) ?_
                    refine y_callS (as := [_, _, _, _, _]) CX9_w5 LX9_140 SX9_w5 dX9_sortOf_161 rfl (Nat.le_of_ble_eq_true rfl) (Nat.le_of_ble_eq_true rfl) (by omega) (r_w5 (d := 3) (a0 := 98) (a1 := 114) (a2 := 105) (a3 := 110) (a4 := 103) (by omega) (by omega) (by omega) (by omega) (by omega) (Nat.le_refl _)) rok_l ⟨Nat.le_refl _, Nat.le_refl _, hN, hS⟩ ?_
                    refine z_eql (show _ = lN 422826307175 from rfl) ?_
                    refine y_callV (as := [_]) CX9_isWord LX9_192 IX9_isWord VX9_isWord ⟨rfl, Nat.le_of_ble_eq_true rfl⟩ dX9_sortOf_164 hm.o rfl (Nat.le_of_ble_eq_true rfl) (Nat.le_of_ble_eq_true rfl) (by omega) (r_isWord (d := 0) (k := 7) q.1.m ht q.2.1 tP_le (by omega) (wd_7 (ht.b _))) (rok_z bI_01) ⟨Nat.le_refl _, Nat.le_refl _, hN, hS⟩ ?_
                    refine z_if_eq dX9_sortOf_167 rfl (fun _ => ?_) (fun c => absurd (bI_eq0.mpr c7) c)
                    refine z_aload_n dX9_sortOf_173 rfl rfl ?_
                    refine z_bipush (v := 115) dX9_sortOf_174 (by decide) ?_
                    refine z_bipush (v := 112) dX9_sortOf_176 (by decide) ?_
                    refine z_bipush (v := 111) dX9_sortOf_178 (by decide) ?_
                    refine z_bipush (v := 105) dX9_sortOf_180 (by decide) ?_
                    refine z_bipush (v := 108) dX9_sortOf_182 (by decide) ?_
                    refine y_callS (as := [_, _, _, _, _]) CX9_w5 LX9_140 SX9_w5 dX9_sortOf_184 rfl (Nat.le_of_ble_eq_true rfl) (Nat.le_of_ble_eq_true rfl) (by omega) (r_w5 (d := 3) (a0 := 115) (a1 := 112) (a2 := 111) (a3 := 105) (a4 := 108) (by omega) (by omega) (by omega) (by omega) (by omega) (Nat.le_refl _)) rok_l ⟨Nat.le_refl _, Nat.le_refl _, hN, hS⟩ ?_
                    refine z_eql (show _ = lN 495807588716 from rfl) ?_
                    refine y_callV (as := [_]) CX9_isWord LX9_192 IX9_isWord VX9_isWord ⟨rfl, Nat.le_of_ble_eq_true rfl⟩ dX9_sortOf_187 hm.o rfl (Nat.le_of_ble_eq_true rfl) (Nat.le_of_ble_eq_true rfl) (by omega) (r_isWord (d := 0) (k := 8) q.1.m ht q.2.1 tP_le (by omega) (wd_8 (ht.b _))) (rok_z bI_01) ⟨Nat.le_refl _, Nat.le_refl _, hN, hS⟩ ?_
                    refine z_if_eq dX9_sortOf_190 rfl (fun _ => ?_) (fun c => absurd (bI_eq0.mpr c8) c)
                    refine z_aload_n dX9_sortOf_196 rfl rfl ?_
                    refine z_bipush (v := 115) dX9_sortOf_197 (by decide) ?_
                    refine z_bipush (v := 101) dX9_sortOf_199 (by decide) ?_
                    refine z_bipush (v := 108) dX9_sortOf_201 (by decide) ?_
                    refine z_bipush (v := 108) dX9_sortOf_203 (by decide) ?_
                    refine y_callS (as := [_, _, _, _]) CX9_w4 LX9_136 SX9_w4 dX9_sortOf_205 rfl (Nat.le_of_ble_eq_true rfl) (Nat.le_of_ble_eq_true rfl) (by omega) (r_w4 (d := 2) (a0 := 115) (a1 := 101) (a2 := 108) (a3 := 108) (by omega) (by omega) (by omega) (by omega) (Nat.le_refl _)) rok_l ⟨Nat.le_refl _, Nat.le_refl _, hN, hS⟩ ?_
                    refine z_eql (show _ = lN 1936026732 from rfl) ?_
                    refine y_callV (as := [_]) CX9_isWord LX9_192 IX9_isWord VX9_isWord ⟨rfl, Nat.le_of_ble_eq_true rfl⟩ dX9_sortOf_208 hm.o rfl (Nat.le_of_ble_eq_true rfl) (Nat.le_of_ble_eq_true rfl) (by omega) (r_isWord (d := 0) (k := 9) q.1.m ht q.2.1 tP_le (by omega) (wd_9 (ht.b _))) (rok_z bI_01) ⟨Nat.le_refl _, Nat.le_refl _, hN, hS⟩ ?_
                    refine z_if_eq dX9_sortOf_211 rfl (fun c => absurd c (bI_ne0.mpr c9)) (fun _ => ?_)
                    refine z_bipush (v := 8) dX9_sortOf_214 (by decide) ?_
                    refine z_goto dX9_sortOf_216 rfl ?_
                    refine z_iret dX9_sortOf_241 ?_
                    exact hQ
                  · skip
                    by_cases c10 : (tK (TPs s) (TNs s)) i = 10
                    · rw [c10] at hQ
                      refine z_aload_n dX9_sortOf_0 rfl rfl ?_
                      refine z_bipush (v := 99) dX9_sortOf_1 (by decide) ?_
                      refine z_bipush (v := 111) dX9_sortOf_3 (by decide) ?_
                      refine z_bipush (v := 109) dX9_sortOf_5 (by decide) ?_
                      refine z_bipush (v := 101) dX9_sortOf_7 (by decide) ?_
                      refine z_bipush (v := 115) dX9_sortOf_9 (by decide) ?_
                      refine y_callS (as := [_, _, _, _, _]) CX9_w5 LX9_140 SX9_w5 dX9_sortOf_11 rfl (Nat.le_of_ble_eq_true rfl) (Nat.le_of_ble_eq_true rfl) (by omega) (r_w5 (d := 3) (a0 := 99) (a1 := 111) (a2 := 109) (a3 := 101) (a4 := 115) (by omega) (by omega) (by omega) (by omega) (by omega) (Nat.le_refl _)) rok_l ⟨Nat.le_refl _, Nat.le_refl _, hN, hS⟩ ?_
                      refine z_eql (show _ = lN 427071202675 from rfl) ?_
                      refine y_callV (as := [_]) CX9_isWord LX9_192 IX9_isWord VX9_isWord ⟨rfl, Nat.le_of_ble_eq_true rfl⟩ dX9_sortOf_14 hm.o rfl (Nat.le_of_ble_eq_true rfl) (Nat.le_of_ble_eq_true rfl) (by omega) (r_isWord (d := 0) (k := 1) q.1.m ht q.2.1 tP_le (by omega) (wd_1 (ht.b _))) (rok_z bI_01) ⟨Nat.le_refl _, Nat.le_refl _, hN, hS⟩ ?_
                      refine z_if_eq dX9_sortOf_17 rfl (fun _ => ?_) (fun c => absurd (bI_eq0.mpr c1) c)
                      refine z_aload_n dX9_sortOf_22 rfl rfl ?_
                      refine z_bipush (v := 100) dX9_sortOf_23 (by decide) ?_
                      refine z_bipush (v := 117) dX9_sortOf_25 (by decide) ?_
                      refine z_bipush (v := 101) dX9_sortOf_27 (by decide) ?_
                      refine z_bipush (v := 115) dX9_sortOf_29 (by decide) ?_
                      refine y_callS (as := [_, _, _, _]) CX9_w4 LX9_136 SX9_w4 dX9_sortOf_31 rfl (Nat.le_of_ble_eq_true rfl) (Nat.le_of_ble_eq_true rfl) (by omega) (r_w4 (d := 2) (a0 := 100) (a1 := 117) (a2 := 101) (a3 := 115) (by omega) (by omega) (by omega) (by omega) (Nat.le_refl _)) rok_l ⟨Nat.le_refl _, Nat.le_refl _, hN, hS⟩ ?_
                      refine z_eql (show _ = lN 1685415283 from rfl) ?_
                      refine y_callV (as := [_]) CX9_isWord LX9_192 IX9_isWord VX9_isWord ⟨rfl, Nat.le_of_ble_eq_true rfl⟩ dX9_sortOf_34 hm.o rfl (Nat.le_of_ble_eq_true rfl) (Nat.le_of_ble_eq_true rfl) (by omega) (r_isWord (d := 0) (k := 2) q.1.m ht q.2.1 tP_le (by omega) (wd_2 (ht.b _))) (rok_z bI_01) ⟨Nat.le_refl _, Nat.le_refl _, hN, hS⟩ ?_
                      refine z_if_eq dX9_sortOf_37 rfl (fun _ => ?_) (fun c => absurd (bI_eq0.mpr c2) c)
                      refine z_aload_n dX9_sortOf_42 rfl rfl ?_
                      refine z_bipush (v := 114) dX9_sortOf_43 (by decide) ?_
                      refine z_bipush (v := 101) dX9_sortOf_45 (by decide) ?_
                      refine z_bipush (v := 110) dX9_sortOf_47 (by decide) ?_
                      refine z_bipush (v := 111) dX9_sortOf_49 (by decide) ?_
                      refine z_bipush (v := 119) dX9_sortOf_51 (by decide) ?_
                      refine z_bipush (v := 110) dX9_sortOf_53 (by decide) ?_
                      refine y_callS (as := [_, _, _, _, _, _]) CX9_w6 LX9_251 SX9_w6 dX9_sortOf_55 rfl (Nat.le_of_ble_eq_true rfl) (Nat.le_of_ble_eq_true rfl) (by omega) (r_w6 (d := 4) (a0 := 114) (a1 := 101) (a2 := 110) (a3 := 111) (a4 := 119) (a5 := 110) (by omega) (by omega) (by omega) (by omega) (by omega) (by omega) (Nat.le_refl _)) rok_l ⟨Nat.le_refl _, Nat.le_refl _, hN, hS⟩ ?_
                      refine z_eql (show _ = lN 125779970062190 from rfl) ?_
                      refine y_callV (as := [_]) CX9_isWord LX9_192 IX9_isWord VX9_isWord ⟨rfl, Nat.le_of_ble_eq_true rfl⟩ dX9_sortOf_58 hm.o rfl (Nat.le_of_ble_eq_true rfl) (Nat.le_of_ble_eq_true rfl) (by omega) (r_isWord (d := 0) (k := 3) q.1.m ht q.2.1 tP_le (by omega) (wd_3 (ht.b _))) (rok_z bI_01) ⟨Nat.le_refl _, Nat.le_refl _, hN, hS⟩ ?_
                      refine z_if_eq dX9_sortOf_61 rfl (fun _ => ?_) (fun c => absurd (bI_eq0.mpr c3) c)
                      refine z_aload_n dX9_sortOf_66 rfl rfl ?_
                      refine z_bipush (v := 102) dX9_sortOf_67 (by decide) ?_
                      refine z_bipush (v := 97) dX9_sortOf_69 (by decide) ?_
                      refine z_bipush (v := 99) dX9_sortOf_71 (by decide) ?_
                      refine z_bipush (v := 116) dX9_sortOf_73 (by decide) ?_
                      refine y_callS (as := [_, _, _, _]) CX9_w4 LX9_136 SX9_w4 dX9_sortOf_75 rfl (Nat.le_of_ble_eq_true rfl) (Nat.le_of_ble_eq_true rfl) (by omega) (r_w4 (d := 2) (a0 := 102) (a1 := 97) (a2 := 99) (a3 := 116) (by omega) (by omega) (by omega) (by omega) (Nat.le_refl _)) rok_l ⟨Nat.le_refl _, Nat.le_refl _, hN, hS⟩ ?_
                      refine z_eql (show _ = lN 1717658484 from rfl) ?_
                      refine y_callV (as := [_]) CX9_isWord LX9_192 IX9_isWord VX9_isWord ⟨rfl, Nat.le_of_ble_eq_true rfl⟩ dX9_sortOf_78 hm.o rfl (Nat.le_of_ble_eq_true rfl) (Nat.le_of_ble_eq_true rfl) (by omega) (r_isWord (d := 0) (k := 4) q.1.m ht q.2.1 tP_le (by omega) (wd_4 (ht.b _))) (rok_z bI_01) ⟨Nat.le_refl _, Nat.le_refl _, hN, hS⟩ ?_
                      refine z_if_eq dX9_sortOf_81 rfl (fun _ => ?_) (fun c => absurd (bI_eq0.mpr c4) c)
                      refine z_aload_n dX9_sortOf_86 rfl rfl ?_
                      refine z_bipush (v := 112) dX9_sortOf_87 (by decide) ?_
                      refine z_bipush (v := 114) dX9_sortOf_89 (by decide) ?_
                      refine z_bipush (v := 111) dX9_sortOf_91 (by decide) ?_
                      refine z_bipush (v := 112) dX9_sortOf_93 (by decide) ?_
                      refine y_callS (as := [_, _, _, _]) CX9_w4 LX9_136 SX9_w4 dX9_sortOf_95 rfl (Nat.le_of_ble_eq_true rfl) (Nat.le_of_ble_eq_true rfl) (by omega) (r_w4 (d := 2) (a0 := 112) (a1 := 114) (a2 := 111) (a3 := 112) (by omega) (by omega) (by omega) (by omega) (Nat.le_refl _)) rok_l ⟨Nat.le_refl _, Nat.le_refl _, hN, hS⟩ ?_
                      refine z_bipush (v := 104) dX9_sortOf_98 (by decide) ?_
                      refine z_bipush (v := 101) dX9_sortOf_100 (by decide) ?_
                      refine z_bipush (v := 116) dX9_sortOf_102 (by decide) ?_
                      refine y_callS (as := [_, _, _]) CX9_w3 LX9_132 SX9_w3 dX9_sortOf_104 rfl (Nat.le_of_ble_eq_true rfl) (Nat.le_of_ble_eq_true rfl) (by omega) (r_w3 (d := 1) (a0 := 104) (a1 := 101) (a2 := 116) (by omega) (by omega) (by omega) (Nat.le_refl _)) rok_l ⟨Nat.le_refl _, Nat.le_refl _, hN, hS⟩ ?_
                      refine z_bipush (v := 7) dX9_sortOf_107 (by decide) ?_
                      refine y_callV (as := [_, _, _]) CX9_isLong LX9_188 IX9_isLong VX9_isLong ⟨rfl, Nat.le_of_ble_eq_true rfl⟩ dX9_sortOf_109 hm.o rfl (Nat.le_of_ble_eq_true rfl) (Nat.le_of_ble_eq_true rfl) (by omega) (r_pro (d := 3) q ht (Nat.le_refl _)) (rok_z bI_01) ⟨Nat.le_refl _, Nat.le_refl _, hN, hS⟩ ?_
                      refine z_if_eq dX9_sortOf_112 rfl (fun _ => ?_) (fun c => absurd (bI_eq0.mpr c5) c)
                      refine z_aload_n dX9_sortOf_117 rfl rfl ?_
                      refine z_bipush (v := 102) dX9_sortOf_118 (by decide) ?_
                      refine z_bipush (v := 111) dX9_sortOf_120 (by decide) ?_
                      refine z_bipush (v := 114) dX9_sortOf_122 (by decide) ?_
                      refine z_bipush (v := 101) dX9_sortOf_124 (by decide) ?_
                      refine y_callS (as := [_, _, _, _]) CX9_w4 LX9_136 SX9_w4 dX9_sortOf_126 rfl (Nat.le_of_ble_eq_true rfl) (Nat.le_of_ble_eq_true rfl) (by omega) (r_w4 (d := 2) (a0 := 102) (a1 := 111) (a2 := 114) (a3 := 101) (by omega) (by omega) (by omega) (by omega) (Nat.le_refl _)) rok_l ⟨Nat.le_refl _, Nat.le_refl _, hN, hS⟩ ?_
                      refine z_bipush (v := 116) dX9_sortOf_129 (by decide) ?_
                      refine z_bipush (v := 101) dX9_sortOf_131 (by decide) ?_
                      refine z_bipush (v := 108) dX9_sortOf_133 (by decide) ?_
                      refine z_bipush (v := 108) dX9_sortOf_135 (by decide) ?_
                      refine y_callS (as := [_, _, _, _]) CX9_w4 LX9_136 SX9_w4 dX9_sortOf_137 rfl (Nat.le_of_ble_eq_true rfl) (Nat.le_of_ble_eq_true rfl) (by omega) (r_w4 (d := 2) (a0 := 116) (a1 := 101) (a2 := 108) (a3 := 108) (by omega) (by omega) (by omega) (by omega) (Nat.le_refl _)) rok_l ⟨Nat.le_refl _, Nat.le_refl _, hN, hS⟩ ?_
                      refine z_bipush (v := 8) dX9_sortOf_140 (by decide) ?_
                      refine y_callV (as := [_, _, _]) CX9_isLong LX9_188 IX9_isLong VX9_isLong ⟨rfl, Nat.le_of_ble_eq_true rfl⟩ dX9_sortOf_142 hm.o rfl (Nat.le_of_ble_eq_true rfl) (Nat.le_of_ble_eq_true rfl) (by omega) (r_fore (d := 3) q ht (Nat.le_refl _)) (rok_z bI_01) ⟨Nat.le_refl _, Nat.le_refl _, hN, hS⟩ ?_
                      refine z_if_eq dX9_sortOf_145 rfl (fun _ => ?_) (fun c => absurd (bI_eq0.mpr c6) c)
                      refine z_aload_n dX9_sortOf_150 rfl rfl ?_
                      refine z_bipush (v := 98) dX9_sortOf_151 (by decide) ?_
                      refine z_bipush (v := 114) dX9_sortOf_153 (by decide) ?_
                      refine z_bipush (v := 105) dX9_sortOf_155 (by decide) ?_
                      refine z_bipush (v := 110) dX9_sortOf_157 (by decide) ?_
                      refine z_bipush (v := 103) dX9_sortOf_159 (by decide) ?_
                      refine y_callS (as := [_, _, _, _, _]) CX9_w5 LX9_140 SX9_w5 dX9_sortOf_161 rfl (Nat.le_of_ble_eq_true rfl) (Nat.le_of_ble_eq_true rfl) (by omega) (r_w5 (d := 3) (a0 := 98) (a1 := 114) (a2 := 105) (a3 := 110) (a4 := 103) (by omega) (by omega) (by omega) (by omega) (by omega) (Nat.le_refl _)) rok_l ⟨Nat.le_refl _, Nat.le_refl _, hN, hS⟩ ?_
                      refine z_eql (show _ = lN 422826307175 from rfl) ?_
                      refine y_callV (as := [_]) CX9_isWord LX9_192 IX9_isWord VX9_isWord ⟨rfl, Nat.le_of_ble_eq_true rfl⟩ dX9_sortOf_164 hm.o rfl (Nat.le_of_ble_eq_true rfl) (Nat.le_of_ble_eq_true rfl) (by omega) (r_isWord (d := 0) (k := 7) q.1.m ht q.2.1 tP_le (by omega) (wd_7 (ht.b _))) (rok_z bI_01) ⟨Nat.le_refl _, Nat.le_refl _, hN, hS⟩ ?_
                      refine z_if_eq dX9_sortOf_167 rfl (fun _ => ?_) (fun c => absurd (bI_eq0.mpr c7) c)
                      refine z_aload_n dX9_sortOf_173 rfl rfl ?_
                      refine z_bipush (v := 115) dX9_sortOf_174 (by decide) ?_
                      refine z_bipush (v := 112) dX9_sortOf_176 (by decide) ?_
                      refine z_bipush (v := 111) dX9_sortOf_178 (by decide) ?_
                      refine z_bipush (v := 105) dX9_sortOf_180 (by decide) ?_
                      refine z_bipush (v := 108) dX9_sortOf_182 (by decide) ?_
                      refine y_callS (as := [_, _, _, _, _]) CX9_w5 LX9_140 SX9_w5 dX9_sortOf_184 rfl (Nat.le_of_ble_eq_true rfl) (Nat.le_of_ble_eq_true rfl) (by omega) (r_w5 (d := 3) (a0 := 115) (a1 := 112) (a2 := 111) (a3 := 105) (a4 := 108) (by omega) (by omega) (by omega) (by omega) (by omega) (Nat.le_refl _)) rok_l ⟨Nat.le_refl _, Nat.le_refl _, hN, hS⟩ ?_
                      refine z_eql (show _ = lN 495807588716 from rfl) ?_
                      refine y_callV (as := [_]) CX9_isWord LX9_192 IX9_isWord VX9_isWord ⟨rfl, Nat.le_of_ble_eq_true rfl⟩ dX9_sortOf_187 hm.o rfl (Nat.le_of_ble_eq_true rfl) (Nat.le_of_ble_eq_true rfl) (by omega) (r_isWord (d := 0) (k := 8) q.1.m ht q.2.1 tP_le (by omega) (wd_8 (ht.b _))) (rok_z bI_01) ⟨Nat.le_refl _, Nat.le_refl _, hN, hS⟩ ?_
                      refine z_if_eq dX9_sortOf_190 rfl (fun _ => ?_) (fun c => absurd (bI_eq0.mpr c8) c)
                      refine z_aload_n dX9_sortOf_196 rfl rfl ?_
                      refine z_bipush (v := 115) dX9_sortOf_197 (by decide) ?_
                      refine z_bipush (v := 101) dX9_sortOf_199 (by decide) ?_
                      refine z_bipush (v := 108) dX9_sortOf_201 (by decide) ?_
                      refine z_bipush (v := 108) dX9_sortOf_203 (by decide) ?_
                      refine y_callS (as := [_, _, _, _]) CX9_w4 LX9_136 SX9_w4 dX9_sortOf_205 rfl (Nat.le_of_ble_eq_true rfl) (Nat.le_of_ble_eq_true rfl) (by omega) (r_w4 (d := 2) (a0 := 115) (a1 := 101) (a2 := 108) (a3 := 108) (by omega) (by omega) (by omega) (by omega) (Nat.le_refl _)) rok_l ⟨Nat.le_refl _, Nat.le_refl _, hN, hS⟩ ?_
                      refine z_eql (show _ = lN 1936026732 from rfl) ?_
                      refine y_callV (as := [_]) CX9_isWord LX9_192 IX9_isWord VX9_isWord ⟨rfl, Nat.le_of_ble_eq_true rfl⟩ dX9_sortOf_208 hm.o rfl (Nat.le_of_ble_eq_true rfl) (Nat.le_of_ble_eq_true rfl) (by omega) (r_isWord (d := 0) (k := 9) q.1.m ht q.2.1 tP_le (by omega) (wd_9 (ht.b _))) (rok_z bI_01) ⟨Nat.le_refl _, Nat.le_refl _, hN, hS⟩ ?_
                      refine z_if_eq dX9_sortOf_211 rfl (fun _ => ?_) (fun c => absurd (bI_eq0.mpr c9) c)
                      refine z_aload_n dX9_sortOf_219 rfl rfl ?_
                      refine z_bipush (v := 100) dX9_sortOf_220 (by decide) ?_
                      refine z_bipush (v := 97) dX9_sortOf_222 (by decide) ?_
                      refine z_bipush (v := 121) dX9_sortOf_224 (by decide) ?_
                      refine y_callS (as := [_, _, _]) CX9_w3 LX9_132 SX9_w3 dX9_sortOf_226 rfl (Nat.le_of_ble_eq_true rfl) (Nat.le_of_ble_eq_true rfl) (by omega) (r_w3 (d := 1) (a0 := 100) (a1 := 97) (a2 := 121) (by omega) (by omega) (by omega) (Nat.le_refl _)) rok_l ⟨Nat.le_refl _, Nat.le_refl _, hN, hS⟩ ?_
                      refine z_eql (show _ = lN 6578553 from rfl) ?_
                      refine y_callV (as := [_]) CX9_isWord LX9_192 IX9_isWord VX9_isWord ⟨rfl, Nat.le_of_ble_eq_true rfl⟩ dX9_sortOf_229 hm.o rfl (Nat.le_of_ble_eq_true rfl) (Nat.le_of_ble_eq_true rfl) (by omega) (r_isWord (d := 0) (k := 10) q.1.m ht q.2.1 tP_le (by omega) (wd_10 (ht.b _))) (rok_z bI_01) ⟨Nat.le_refl _, Nat.le_refl _, hN, hS⟩ ?_
                      refine z_if_eq dX9_sortOf_232 rfl (fun c => absurd c (bI_ne0.mpr c10)) (fun _ => ?_)
                      refine z_bipush (v := 9) dX9_sortOf_235 (by decide) ?_
                      refine z_goto dX9_sortOf_237 rfl ?_
                      refine z_iret dX9_sortOf_241 ?_
                      exact hQ
                    · skip
                      rw [show srt ((tK (TPs s) (TNs s)) i) = -1 from if_neg (by omega)] at hQ
                      refine z_aload_n dX9_sortOf_0 rfl rfl ?_
                      refine z_bipush (v := 99) dX9_sortOf_1 (by decide) ?_
                      refine z_bipush (v := 111) dX9_sortOf_3 (by decide) ?_
                      refine z_bipush (v := 109) dX9_sortOf_5 (by decide) ?_
                      refine z_bipush (v := 101) dX9_sortOf_7 (by decide) ?_
                      refine z_bipush (v := 115) dX9_sortOf_9 (by decide) ?_
                      refine y_callS (as := [_, _, _, _, _]) CX9_w5 LX9_140 SX9_w5 dX9_sortOf_11 rfl (Nat.le_of_ble_eq_true rfl) (Nat.le_of_ble_eq_true rfl) (by omega) (r_w5 (d := 3) (a0 := 99) (a1 := 111) (a2 := 109) (a3 := 101) (a4 := 115) (by omega) (by omega) (by omega) (by omega) (by omega) (Nat.le_refl _)) rok_l ⟨Nat.le_refl _, Nat.le_refl _, hN, hS⟩ ?_
                      refine z_eql (show _ = lN 427071202675 from rfl) ?_
                      refine y_callV (as := [_]) CX9_isWord LX9_192 IX9_isWord VX9_isWord ⟨rfl, Nat.le_of_ble_eq_true rfl⟩ dX9_sortOf_14 hm.o rfl (Nat.le_of_ble_eq_true rfl) (Nat.le_of_ble_eq_true rfl) (by omega) (r_isWord (d := 0) (k := 1) q.1.m ht q.2.1 tP_le (by omega) (wd_1 (ht.b _))) (rok_z bI_01) ⟨Nat.le_refl _, Nat.le_refl _, hN, hS⟩ ?_
                      refine z_if_eq dX9_sortOf_17 rfl (fun _ => ?_) (fun c => absurd (bI_eq0.mpr c1) c)
                      refine z_aload_n dX9_sortOf_22 rfl rfl ?_
                      refine z_bipush (v := 100) dX9_sortOf_23 (by decide) ?_
                      refine z_bipush (v := 117) dX9_sortOf_25 (by decide) ?_
                      refine z_bipush (v := 101) dX9_sortOf_27 (by decide) ?_
                      refine z_bipush (v := 115) dX9_sortOf_29 (by decide) ?_
                      refine y_callS (as := [_, _, _, _]) CX9_w4 LX9_136 SX9_w4 dX9_sortOf_31 rfl (Nat.le_of_ble_eq_true rfl) (Nat.le_of_ble_eq_true rfl) (by omega) (r_w4 (d := 2) (a0 := 100) (a1 := 117) (a2 := 101) (a3 := 115) (by omega) (by omega) (by omega) (by omega) (Nat.le_refl _)) rok_l ⟨Nat.le_refl _, Nat.le_refl _, hN, hS⟩ ?_
                      refine z_eql (show _ = lN 1685415283 from rfl) ?_
                      refine y_callV (as := [_]) CX9_isWord LX9_192 IX9_isWord VX9_isWord ⟨rfl, Nat.le_of_ble_eq_true rfl⟩ dX9_sortOf_34 hm.o rfl (Nat.le_of_ble_eq_true rfl) (Nat.le_of_ble_eq_true rfl) (by omega) (r_isWord (d := 0) (k := 2) q.1.m ht q.2.1 tP_le (by omega) (wd_2 (ht.b _))) (rok_z bI_01) ⟨Nat.le_refl _, Nat.le_refl _, hN, hS⟩ ?_
                      refine z_if_eq dX9_sortOf_37 rfl (fun _ => ?_) (fun c => absurd (bI_eq0.mpr c2) c)
                      refine z_aload_n dX9_sortOf_42 rfl rfl ?_
                      refine z_bipush (v := 114) dX9_sortOf_43 (by decide) ?_
                      refine z_bipush (v := 101) dX9_sortOf_45 (by decide) ?_
                      refine z_bipush (v := 110) dX9_sortOf_47 (by decide) ?_
                      refine z_bipush (v := 111) dX9_sortOf_49 (by decide) ?_
                      refine z_bipush (v := 119) dX9_sortOf_51 (by decide) ?_
                      refine z_bipush (v := 110) dX9_sortOf_53 (by decide) ?_
                      refine y_callS (as := [_, _, _, _, _, _]) CX9_w6 LX9_251 SX9_w6 dX9_sortOf_55 rfl (Nat.le_of_ble_eq_true rfl) (Nat.le_of_ble_eq_true rfl) (by omega) (r_w6 (d := 4) (a0 := 114) (a1 := 101) (a2 := 110) (a3 := 111) (a4 := 119) (a5 := 110) (by omega) (by omega) (by omega) (by omega) (by omega) (by omega) (Nat.le_refl _)) rok_l ⟨Nat.le_refl _, Nat.le_refl _, hN, hS⟩ ?_
                      refine z_eql (show _ = lN 125779970062190 from rfl) ?_
                      refine y_callV (as := [_]) CX9_isWord LX9_192 IX9_isWord VX9_isWord ⟨rfl, Nat.le_of_ble_eq_true rfl⟩ dX9_sortOf_58 hm.o rfl (Nat.le_of_ble_eq_true rfl) (Nat.le_of_ble_eq_true rfl) (by omega) (r_isWord (d := 0) (k := 3) q.1.m ht q.2.1 tP_le (by omega) (wd_3 (ht.b _))) (rok_z bI_01) ⟨Nat.le_refl _, Nat.le_refl _, hN, hS⟩ ?_
                      refine z_if_eq dX9_sortOf_61 rfl (fun _ => ?_) (fun c => absurd (bI_eq0.mpr c3) c)
                      refine z_aload_n dX9_sortOf_66 rfl rfl ?_
                      refine z_bipush (v := 102) dX9_sortOf_67 (by decide) ?_
                      refine z_bipush (v := 97) dX9_sortOf_69 (by decide) ?_
                      refine z_bipush (v := 99) dX9_sortOf_71 (by decide) ?_
                      refine z_bipush (v := 116) dX9_sortOf_73 (by decide) ?_
                      refine y_callS (as := [_, _, _, _]) CX9_w4 LX9_136 SX9_w4 dX9_sortOf_75 rfl (Nat.le_of_ble_eq_true rfl) (Nat.le_of_ble_eq_true rfl) (by omega) (r_w4 (d := 2) (a0 := 102) (a1 := 97) (a2 := 99) (a3 := 116) (by omega) (by omega) (by omega) (by omega) (Nat.le_refl _)) rok_l ⟨Nat.le_refl _, Nat.le_refl _, hN, hS⟩ ?_
                      refine z_eql (show _ = lN 1717658484 from rfl) ?_
                      refine y_callV (as := [_]) CX9_isWord LX9_192 IX9_isWord VX9_isWord ⟨rfl, Nat.le_of_ble_eq_true rfl⟩ dX9_sortOf_78 hm.o rfl (Nat.le_of_ble_eq_true rfl) (Nat.le_of_ble_eq_true rfl) (by omega) (r_isWord (d := 0) (k := 4) q.1.m ht q.2.1 tP_le (by omega) (wd_4 (ht.b _))) (rok_z bI_01) ⟨Nat.le_refl _, Nat.le_refl _, hN, hS⟩ ?_
                      refine z_if_eq dX9_sortOf_81 rfl (fun _ => ?_) (fun c => absurd (bI_eq0.mpr c4) c)
                      refine z_aload_n dX9_sortOf_86 rfl rfl ?_
                      refine z_bipush (v := 112) dX9_sortOf_87 (by decide) ?_
                      refine z_bipush (v := 114) dX9_sortOf_89 (by decide) ?_
                      refine z_bipush (v := 111) dX9_sortOf_91 (by decide) ?_
                      refine z_bipush (v := 112) dX9_sortOf_93 (by decide) ?_
                      refine y_callS (as := [_, _, _, _]) CX9_w4 LX9_136 SX9_w4 dX9_sortOf_95 rfl (Nat.le_of_ble_eq_true rfl) (Nat.le_of_ble_eq_true rfl) (by omega) (r_w4 (d := 2) (a0 := 112) (a1 := 114) (a2 := 111) (a3 := 112) (by omega) (by omega) (by omega) (by omega) (Nat.le_refl _)) rok_l ⟨Nat.le_refl _, Nat.le_refl _, hN, hS⟩ ?_
                      refine z_bipush (v := 104) dX9_sortOf_98 (by decide) ?_
                      refine z_bipush (v := 101) dX9_sortOf_100 (by decide) ?_
                      refine z_bipush (v := 116) dX9_sortOf_102 (by decide) ?_
                      refine y_callS (as := [_, _, _]) CX9_w3 LX9_132 SX9_w3 dX9_sortOf_104 rfl (Nat.le_of_ble_eq_true rfl) (Nat.le_of_ble_eq_true rfl) (by omega) (r_w3 (d := 1) (a0 := 104) (a1 := 101) (a2 := 116) (by omega) (by omega) (by omega) (Nat.le_refl _)) rok_l ⟨Nat.le_refl _, Nat.le_refl _, hN, hS⟩ ?_
                      refine z_bipush (v := 7) dX9_sortOf_107 (by decide) ?_
                      refine y_callV (as := [_, _, _]) CX9_isLong LX9_188 IX9_isLong VX9_isLong ⟨rfl, Nat.le_of_ble_eq_true rfl⟩ dX9_sortOf_109 hm.o rfl (Nat.le_of_ble_eq_true rfl) (Nat.le_of_ble_eq_true rfl) (by omega) (r_pro (d := 3) q ht (Nat.le_refl _)) (rok_z bI_01) ⟨Nat.le_refl _, Nat.le_refl _, hN, hS⟩ ?_
                      refine z_if_eq dX9_sortOf_112 rfl (fun _ => ?_) (fun c => absurd (bI_eq0.mpr c5) c)
                      refine z_aload_n dX9_sortOf_117 rfl rfl ?_
                      refine z_bipush (v := 102) dX9_sortOf_118 (by decide) ?_
                      refine z_bipush (v := 111) dX9_sortOf_120 (by decide) ?_
                      refine z_bipush (v := 114) dX9_sortOf_122 (by decide) ?_
                      refine z_bipush (v := 101) dX9_sortOf_124 (by decide) ?_
                      refine y_callS (as := [_, _, _, _]) CX9_w4 LX9_136 SX9_w4 dX9_sortOf_126 rfl (Nat.le_of_ble_eq_true rfl) (Nat.le_of_ble_eq_true rfl) (by omega) (r_w4 (d := 2) (a0 := 102) (a1 := 111) (a2 := 114) (a3 := 101) (by omega) (by omega) (by omega) (by omega) (Nat.le_refl _)) rok_l ⟨Nat.le_refl _, Nat.le_refl _, hN, hS⟩ ?_
                      refine z_bipush (v := 116) dX9_sortOf_129 (by decide) ?_
                      refine z_bipush (v := 101) dX9_sortOf_131 (by decide) ?_
                      refine z_bipush (v := 108) dX9_sortOf_133 (by decide) ?_
                      refine z_bipush (v := 108) dX9_sortOf_135 (by decide) ?_
                      refine y_callS (as := [_, _, _, _]) CX9_w4 LX9_136 SX9_w4 dX9_sortOf_137 rfl (Nat.le_of_ble_eq_true rfl) (Nat.le_of_ble_eq_true rfl) (by omega) (r_w4 (d := 2) (a0 := 116) (a1 := 101) (a2 := 108) (a3 := 108) (by omega) (by omega) (by omega) (by omega) (Nat.le_refl _)) rok_l ⟨Nat.le_refl _, Nat.le_refl _, hN, hS⟩ ?_
                      refine z_bipush (v := 8) dX9_sortOf_140 (by decide) ?_
                      refine y_callV (as := [_, _, _]) CX9_isLong LX9_188 IX9_isLong VX9_isLong ⟨rfl, Nat.le_of_ble_eq_true rfl⟩ dX9_sortOf_142 hm.o rfl (Nat.le_of_ble_eq_true rfl) (Nat.le_of_ble_eq_true rfl) (by omega) (r_fore (d := 3) q ht (Nat.le_refl _)) (rok_z bI_01) ⟨Nat.le_refl _, Nat.le_refl _, hN, hS⟩ ?_
                      refine z_if_eq dX9_sortOf_145 rfl (fun _ => ?_) (fun c => absurd (bI_eq0.mpr c6) c)
                      refine z_aload_n dX9_sortOf_150 rfl rfl ?_
                      refine z_bipush (v := 98) dX9_sortOf_151 (by decide) ?_
                      refine z_bipush (v := 114) dX9_sortOf_153 (by decide) ?_
                      refine z_bipush (v := 105) dX9_sortOf_155 (by decide) ?_
                      refine z_bipush (v := 110) dX9_sortOf_157 (by decide) ?_
                      refine z_bipush (v := 103) dX9_sortOf_159 (by decide) ?_
                      refine y_callS (as := [_, _, _, _, _]) CX9_w5 LX9_140 SX9_w5 dX9_sortOf_161 rfl (Nat.le_of_ble_eq_true rfl) (Nat.le_of_ble_eq_true rfl) (by omega) (r_w5 (d := 3) (a0 := 98) (a1 := 114) (a2 := 105) (a3 := 110) (a4 := 103) (by omega) (by omega) (by omega) (by omega) (by omega) (Nat.le_refl _)) rok_l ⟨Nat.le_refl _, Nat.le_refl _, hN, hS⟩ ?_
                      refine z_eql (show _ = lN 422826307175 from rfl) ?_
                      refine y_callV (as := [_]) CX9_isWord LX9_192 IX9_isWord VX9_isWord ⟨rfl, Nat.le_of_ble_eq_true rfl⟩ dX9_sortOf_164 hm.o rfl (Nat.le_of_ble_eq_true rfl) (Nat.le_of_ble_eq_true rfl) (by omega) (r_isWord (d := 0) (k := 7) q.1.m ht q.2.1 tP_le (by omega) (wd_7 (ht.b _))) (rok_z bI_01) ⟨Nat.le_refl _, Nat.le_refl _, hN, hS⟩ ?_
                      refine z_if_eq dX9_sortOf_167 rfl (fun _ => ?_) (fun c => absurd (bI_eq0.mpr c7) c)
                      refine z_aload_n dX9_sortOf_173 rfl rfl ?_
                      refine z_bipush (v := 115) dX9_sortOf_174 (by decide) ?_
                      refine z_bipush (v := 112) dX9_sortOf_176 (by decide) ?_
                      refine z_bipush (v := 111) dX9_sortOf_178 (by decide) ?_
                      refine z_bipush (v := 105) dX9_sortOf_180 (by decide) ?_
                      refine z_bipush (v := 108) dX9_sortOf_182 (by decide) ?_
                      refine y_callS (as := [_, _, _, _, _]) CX9_w5 LX9_140 SX9_w5 dX9_sortOf_184 rfl (Nat.le_of_ble_eq_true rfl) (Nat.le_of_ble_eq_true rfl) (by omega) (r_w5 (d := 3) (a0 := 115) (a1 := 112) (a2 := 111) (a3 := 105) (a4 := 108) (by omega) (by omega) (by omega) (by omega) (by omega) (Nat.le_refl _)) rok_l ⟨Nat.le_refl _, Nat.le_refl _, hN, hS⟩ ?_
                      refine z_eql (show _ = lN 495807588716 from rfl) ?_
                      refine y_callV (as := [_]) CX9_isWord LX9_192 IX9_isWord VX9_isWord ⟨rfl, Nat.le_of_ble_eq_true rfl⟩ dX9_sortOf_187 hm.o rfl (Nat.le_of_ble_eq_true rfl) (Nat.le_of_ble_eq_true rfl) (by omega) (r_isWord (d := 0) (k := 8) q.1.m ht q.2.1 tP_le (by omega) (wd_8 (ht.b _))) (rok_z bI_01) ⟨Nat.le_refl _, Nat.le_refl _, hN, hS⟩ ?_
                      refine z_if_eq dX9_sortOf_190 rfl (fun _ => ?_) (fun c => absurd (bI_eq0.mpr c8) c)
                      refine z_aload_n dX9_sortOf_196 rfl rfl ?_
                      refine z_bipush (v := 115) dX9_sortOf_197 (by decide) ?_
                      refine z_bipush (v := 101) dX9_sortOf_199 (by decide) ?_
                      refine z_bipush (v := 108) dX9_sortOf_201 (by decide) ?_
                      refine z_bipush (v := 108) dX9_sortOf_203 (by decide) ?_
                      refine y_callS (as := [_, _, _, _]) CX9_w4 LX9_136 SX9_w4 dX9_sortOf_205 rfl (Nat.le_of_ble_eq_true rfl) (Nat.le_of_ble_eq_true rfl) (by omega) (r_w4 (d := 2) (a0 := 115) (a1 := 101) (a2 := 108) (a3 := 108) (by omega) (by omega) (by omega) (by omega) (Nat.le_refl _)) rok_l ⟨Nat.le_refl _, Nat.le_refl _, hN, hS⟩ ?_
                      refine z_eql (show _ = lN 1936026732 from rfl) ?_
                      refine y_callV (as := [_]) CX9_isWord LX9_192 IX9_isWord VX9_isWord ⟨rfl, Nat.le_of_ble_eq_true rfl⟩ dX9_sortOf_208 hm.o rfl (Nat.le_of_ble_eq_true rfl) (Nat.le_of_ble_eq_true rfl) (by omega) (r_isWord (d := 0) (k := 9) q.1.m ht q.2.1 tP_le (by omega) (wd_9 (ht.b _))) (rok_z bI_01) ⟨Nat.le_refl _, Nat.le_refl _, hN, hS⟩ ?_
                      refine z_if_eq dX9_sortOf_211 rfl (fun _ => ?_) (fun c => absurd (bI_eq0.mpr c9) c)
                      refine z_aload_n dX9_sortOf_219 rfl rfl ?_
                      refine z_bipush (v := 100) dX9_sortOf_220 (by decide) ?_
                      refine z_bipush (v := 97) dX9_sortOf_222 (by decide) ?_
                      refine z_bipush (v := 121) dX9_sortOf_224 (by decide) ?_
                      refine y_callS (as := [_, _, _]) CX9_w3 LX9_132 SX9_w3 dX9_sortOf_226 rfl (Nat.le_of_ble_eq_true rfl) (Nat.le_of_ble_eq_true rfl) (by omega) (r_w3 (d := 1) (a0 := 100) (a1 := 97) (a2 := 121) (by omega) (by omega) (by omega) (Nat.le_refl _)) rok_l ⟨Nat.le_refl _, Nat.le_refl _, hN, hS⟩ ?_
                      refine z_eql (show _ = lN 6578553 from rfl) ?_
                      refine y_callV (as := [_]) CX9_isWord LX9_192 IX9_isWord VX9_isWord ⟨rfl, Nat.le_of_ble_eq_true rfl⟩ dX9_sortOf_229 hm.o rfl (Nat.le_of_ble_eq_true rfl) (Nat.le_of_ble_eq_true rfl) (by omega) (r_isWord (d := 0) (k := 10) q.1.m ht q.2.1 tP_le (by omega) (wd_10 (ht.b _))) (rok_z bI_01) ⟨Nat.le_refl _, Nat.le_refl _, hN, hS⟩ ?_
                      refine z_if_eq dX9_sortOf_232 rfl (fun _ => ?_) (fun c => absurd (bI_eq0.mpr c10) c)
                      refine z_iconst (v := -1) dX9_sortOf_240 (by decide) ?_
                      refine z_iret dX9_sortOf_241 ?_
                      exact hQ

theorem RTs.fs {s : Ms} {t : Nat} {tf : Nat → Int32} {i w on : Nat} {so : Int32} {h : Hp} (q : RTs s t tf i w so on h) (v : Int32) : RTs s t tf i w v on (sI h 488 14 v) := ⟨rm_f q.1 (by omega), q.2.1.fr (fun j q1 q2 => by rw [pI_sI, if_pos rfl, if_neg (by omega)]) rfl, by rw [pI_sI, if_pos rfl, if_neg (by omega)]; exact q.2.2.1, by rw [pI_sI, if_pos rfl, if_neg (by omega)]; exact q.2.2.2.1, by rw [pI_sI, if_pos rfl, if_pos rfl], by rw [pI_sI, if_pos rfl, if_neg (by omega)]; exact q.2.2.2.2.2⟩
theorem RTs.fo {s : Ms} {t : Nat} {tf : Nat → Int32} {i w on : Nat} {so : Int32} {h : Hp} (q : RTs s t tf i w so on h) (v : Nat) : RTs s t tf i w so v (sI h 488 19 (nI v)) := ⟨rm_f q.1 (by omega), q.2.1.fr (fun j q1 q2 => by rw [pI_sI, if_pos rfl, if_neg (by omega)]) rfl, by rw [pI_sI, if_pos rfl, if_neg (by omega)]; exact q.2.2.1, by rw [pI_sI, if_pos rfl, if_neg (by omega)]; exact q.2.2.2.1, by rw [pI_sI, if_pos rfl, if_neg (by omega)]; exact q.2.2.2.2.1, by rw [pI_sI, if_pos rfl, if_pos rfl]⟩
/-- the laws begun -/
def ONs (on : Nat) (L : List Cl) : Prop := on < 8 ∧ ∀ s, s ≤ 2 → (on.testBit s = true ↔ hasS s L = true)
theorem ONs.add {on : Nat} {L : List Cl} {q : Cl} (h : ONs on L) (hs : q.1 ≤ 2) : ONs (on ||| 2 ^ q.1) (L ++ [q]) := by
  refine ⟨Nat.or_lt_two_pow (n := 3) h.1 (Nat.pow_lt_pow_right (by omega) (by omega)), fun s h2 => ?_⟩
  rw [Nat.testBit_or, hasS_app, Bool.or_eq_true, Bool.or_eq_true, h.2 s h2, Nat.testBit_two_pow, decide_eq_true_eq, beq_iff_eq]
theorem ONs.no {on : Nat} {L : List Cl} {q : Cl} (h : ONs on L) (hs : 3 ≤ q.1) : ONs on (L ++ [q]) := by
  refine ⟨h.1, fun s h2 => ?_⟩
  rw [hasS_app, Bool.or_eq_true, h.2 s h2, beq_iff_eq]
  exact ⟨Or.inl, fun w => w.elim id (fun w => absurd w (by omega))⟩
/-- what comes of a clause -/
def CLD (s : Ms) (t : Nat) (tf : Nat → Int32) (h : Hp) (y : Nat × Nat × List Cl) (r : Option Value) (h' : Hp) : Prop := r = some (.int (nI y.1)) ∧ ∃ tf1 w1 so1 on1, RTs s t tf1 y.2.1 w1 so1 on1 h' ∧ FR4 h h' ∧ (∀ a, (a < 753 * t ∨ 753 * t + 753 ≤ a) → tf1 a = tf a) ∧ (y.1 = 0 → TXm tf1 t y.2.2 ∧ w1 = wof y.2.2 ∧ ONs on1 y.2.2)

theorem r_clF {s : Ms} {t : Nat} {tf : Nat → Int32} {i w on : Nat} {so : Int32} {h : Hp} {d : Nat} (q : RTs s t tf i w so on h) (ht : ITp s) (ht4 : t < 4) {n : Nat} (hK : ∀ j, (tK (TPs s) (TNs s)) j < 53 → j < n) (n3 : n ≤ 300) (hi : i ≤ n) {L : List Cl} (tx : TXm tf t L) (hl : L.length ≤ 24) (wf : ∀ p ∈ L, WFq p) (hw : w = wof L) (hwi : wof L ≤ i) (ho : ONs on L) (hd : 7 ≤ d) (hf : ¬ (1 ≤ (tK (TPs s) (TNs s)) i ∧ (tK (TPs s) (TNs s)) i ≤ 10) ∨ ((tK (TPs s) (TNs s)) i ≤ 3 ∧ hasS ((tK (TPs s) (TNs s)) i - 1) L = true) ∨ L.length = 24) : Sq d mX9_clause [.ref 488] h (CLD s t tf h (rdC (tK (TPs s) (TNs s)) (wN s) L i)) := by
  have hm := q.1.m
  have sO := r_sortOf (d := 6) q ht (Nat.le_refl _)
  have rb := rtk_lt (tp := TPs s) (n := TNs s) (p := tP (TPs s) (TNs s) i) (ht.b _)
  have e0 : pI h 491 (753 * t) = nI L.length := by rw [q.1.2.2.2.2.2.2.2.1 _ (by omega)]; exact tx.1
  have on8 := ho.1
  by_cases k1 : 1 ≤ (tK (TPs s) (TNs s)) i ∧ (tK (TPs s) (TNs s)) i ≤ 10
  · have eS : srt ((tK (TPs s) (TNs s)) i) = nI ((tK (TPs s) (TNs s)) i - 1) := if_pos k1
    generalize eso : (tK (TPs s) (TNs s)) i - 1 = so1 at eS
    by_cases k2 : (tK (TPs s) (TNs s)) i ≤ 3 ∧ hasS ((tK (TPs s) (TNs s)) i - 1) L = true
    · rw [show (rdC (tK (TPs s) (TNs s)) (wN s) L i) = (4, i, L) by unfold rdC; rw [if_pos k1, if_pos k2]]
      have k3 : on.testBit so1 = true := (ho.2 so1 (by omega)).mpr (by rw [← eso]; exact k2.2)
      intro N S Q hN hS hQ
      have fin := hQ (some (.int (nI 4))) h ⟨rfl, tf, w, so, on, q, FR4.rf, fun _ _ => rfl, fun w0 => (by cases w0)⟩
      refine z_aload_n dX9_clause_0 rfl rfl ?_
      refine y_callV (as := []) CX9_sortOf LX9_255 IX9_sortOf VX9_sortOf ⟨rfl, Nat.le_of_ble_eq_true rfl⟩ dX9_clause_1 hm.o rfl (Nat.le_of_ble_eq_true rfl) (Nat.le_of_ble_eq_true rfl) (by omega) sO rok_i ⟨Nat.le_refl _, Nat.le_refl _, hN, hS⟩ ?_
      refine z_eqi eS ?_
      refine z_istore_n dX9_clause_4 rfl (Nat.le_of_ble_eq_true rfl) ?_
      refine z_iload_n dX9_clause_5 rfl rfl ?_
      refine z_if_ge dX9_clause_6 rfl (fun _ => ?_) (fun c => absurd ((nI_leI (a := 0) (by omega) (by omega)).mpr (Nat.zero_le _)) c)
      refine z_iload_n dX9_clause_11 rfl rfl ?_
      refine z_iconst (v := 2) dX9_clause_12 (by decide) ?_
      refine z_icmp_gt dX9_clause_13 rfl (fun c => absurd c (fun w => absurd ((nI_ltI (a := 2) (by omega) (by omega)).mp w) (by omega))) (fun _ => ?_)
      refine z_aload_n dX9_clause_16 rfl rfl ?_
      refine y_getI FX9_258 dX9_clause_17 (Or.inl rfl) hm.o ?_
      refine z_eqi (y := nI (on)) q.2.2.2.2.2 ?_
      refine z_iload_n dX9_clause_20 rfl rfl ?_
      refine y_callS (as := [_, _]) CX9_has LX9_261 SX9_has dX9_clause_21 rfl (Nat.le_of_ble_eq_true rfl) (Nat.le_of_ble_eq_true rfl) (by omega) (r_has (d := 0) (n := on) (k := so1) (by omega) (by omega)) (rok_z bI_01) ⟨Nat.le_refl _, Nat.le_refl _, hN, hS⟩ ?_
      refine z_if_eq dX9_clause_24 rfl (fun c => absurd c (bI_ne0.mpr k3)) (fun _ => ?_)
      refine z_iconst (v := 4) dX9_clause_27 (by decide) ?_
      refine z_iret dX9_clause_28 ?_
      exact fin
    · have l24 : L.length = 24 := by rcases hf with w | w | w <;> first | exact absurd k1 w | exact absurd w k2 | exact w
      rw [show (rdC (tK (TPs s) (TNs s)) (wN s) L i) = (6, i, L) by unfold rdC; rw [if_pos k1, if_neg k2, if_pos l24]]
      intro N S Q hN hS hQ
      have fin := hQ (some (.int (nI 6))) h ⟨rfl, tf, w, so, on, q, FR4.rf, fun _ _ => rfl, fun w0 => (by cases w0)⟩
      by_cases k4 : so1 ≤ 2
      · have k3 : ¬ on.testBit so1 = true := fun w => k2 ⟨by omega, by rw [eso]; exact (ho.2 so1 k4).mp w⟩
        refine z_aload_n dX9_clause_0 rfl rfl ?_
        refine y_callV (as := []) CX9_sortOf LX9_255 IX9_sortOf VX9_sortOf ⟨rfl, Nat.le_of_ble_eq_true rfl⟩ dX9_clause_1 hm.o rfl (Nat.le_of_ble_eq_true rfl) (Nat.le_of_ble_eq_true rfl) (by omega) sO rok_i ⟨Nat.le_refl _, Nat.le_refl _, hN, hS⟩ ?_
        refine z_eqi eS ?_
        refine z_istore_n dX9_clause_4 rfl (Nat.le_of_ble_eq_true rfl) ?_
        refine z_iload_n dX9_clause_5 rfl rfl ?_
        refine z_if_ge dX9_clause_6 rfl (fun _ => ?_) (fun c => absurd ((nI_leI (a := 0) (by omega) (by omega)).mpr (Nat.zero_le _)) c)
        refine z_iload_n dX9_clause_11 rfl rfl ?_
        refine z_iconst (v := 2) dX9_clause_12 (by decide) ?_
        refine z_icmp_gt dX9_clause_13 rfl (fun c => absurd c (fun w => absurd ((nI_ltI (a := 2) (by omega) (by omega)).mp w) (by omega))) (fun _ => ?_)
        refine z_aload_n dX9_clause_16 rfl rfl ?_
        refine y_getI FX9_258 dX9_clause_17 (Or.inl rfl) hm.o ?_
        refine z_eqi (y := nI (on)) q.2.2.2.2.2 ?_
        refine z_iload_n dX9_clause_20 rfl rfl ?_
        refine y_callS (as := [_, _]) CX9_has LX9_261 SX9_has dX9_clause_21 rfl (Nat.le_of_ble_eq_true rfl) (Nat.le_of_ble_eq_true rfl) (by omega) (r_has (d := 0) (n := on) (k := so1) (by omega) (by omega)) (rok_z bI_01) ⟨Nat.le_refl _, Nat.le_refl _, hN, hS⟩ ?_
        refine z_if_eq dX9_clause_24 rfl (fun _ => ?_) (fun c => absurd (bI_eq0.mpr k3) c)
        refine z_aload_n dX9_clause_29 rfl rfl ?_
        refine y_getR FX9_16 dX9_clause_30 rfl hm.o hm.f_texts ?_
        refine z_aload_n dX9_clause_33 rfl rfl ?_
        refine y_getI FX9_144 dX9_clause_34 (Or.inl rfl) hm.o ?_
        refine z_eqi (y := nI (753 * t)) q.2.2.1 ?_
        refine y_ialN (753 * t) dX9_clause_37 hm.A_texts (Nat.le_of_ble_eq_true rfl) (rfl) (by omega) ?_
        refine z_eqi e0 ?_
        refine z_istore_n dX9_clause_38 rfl (Nat.le_of_ble_eq_true rfl) ?_
        refine z_iload_n dX9_clause_39 rfl rfl ?_
        refine z_bipush (v := 24) dX9_clause_40 (by decide) ?_
        refine z_icmp_ne dX9_clause_42 rfl (fun c => absurd (by rw [l24]; rfl) c) (fun _ => ?_)
        refine z_bipush (v := 6) dX9_clause_45 (by decide) ?_
        refine z_iret dX9_clause_47 ?_
        exact fin
      · skip
        refine z_aload_n dX9_clause_0 rfl rfl ?_
        refine y_callV (as := []) CX9_sortOf LX9_255 IX9_sortOf VX9_sortOf ⟨rfl, Nat.le_of_ble_eq_true rfl⟩ dX9_clause_1 hm.o rfl (Nat.le_of_ble_eq_true rfl) (Nat.le_of_ble_eq_true rfl) (by omega) sO rok_i ⟨Nat.le_refl _, Nat.le_refl _, hN, hS⟩ ?_
        refine z_eqi eS ?_
        refine z_istore_n dX9_clause_4 rfl (Nat.le_of_ble_eq_true rfl) ?_
        refine z_iload_n dX9_clause_5 rfl rfl ?_
        refine z_if_ge dX9_clause_6 rfl (fun _ => ?_) (fun c => absurd ((nI_leI (a := 0) (by omega) (by omega)).mpr (Nat.zero_le _)) c)
        refine z_iload_n dX9_clause_11 rfl rfl ?_
        refine z_iconst (v := 2) dX9_clause_12 (by decide) ?_
        refine z_icmp_gt dX9_clause_13 rfl (fun _ => ?_) (fun c => absurd ((nI_ltI (a := 2) (by omega) (by omega)).mpr (by omega)) c)
        refine z_aload_n dX9_clause_29 rfl rfl ?_
        refine y_getR FX9_16 dX9_clause_30 rfl hm.o hm.f_texts ?_
        refine z_aload_n dX9_clause_33 rfl rfl ?_
        refine y_getI FX9_144 dX9_clause_34 (Or.inl rfl) hm.o ?_
        refine z_eqi (y := nI (753 * t)) q.2.2.1 ?_
        refine y_ialN (753 * t) dX9_clause_37 hm.A_texts (Nat.le_of_ble_eq_true rfl) (rfl) (by omega) ?_
        refine z_eqi e0 ?_
        refine z_istore_n dX9_clause_38 rfl (Nat.le_of_ble_eq_true rfl) ?_
        refine z_iload_n dX9_clause_39 rfl rfl ?_
        refine z_bipush (v := 24) dX9_clause_40 (by decide) ?_
        refine z_icmp_ne dX9_clause_42 rfl (fun c => absurd (by rw [l24]; rfl) c) (fun _ => ?_)
        refine z_bipush (v := 6) dX9_clause_45 (by decide) ?_
        refine z_iret dX9_clause_47 ?_
        exact fin
  · have eS : srt ((tK (TPs s) (TNs s)) i) = -1 := if_neg k1
    rw [show (rdC (tK (TPs s) (TNs s)) (wN s) L i) = (1, i, L) by unfold rdC; rw [if_neg k1]]
    intro N S Q hN hS hQ
    have fin := hQ (some (.int (nI 1))) h ⟨rfl, tf, w, so, on, q, FR4.rf, fun _ _ => rfl, fun w0 => (by cases w0)⟩
    refine z_aload_n dX9_clause_0 rfl rfl ?_
    refine y_callV (as := []) CX9_sortOf LX9_255 IX9_sortOf VX9_sortOf ⟨rfl, Nat.le_of_ble_eq_true rfl⟩ dX9_clause_1 hm.o rfl (Nat.le_of_ble_eq_true rfl) (Nat.le_of_ble_eq_true rfl) (by omega) sO rok_i ⟨Nat.le_refl _, Nat.le_refl _, hN, hS⟩ ?_
    refine z_eqi eS ?_
    refine z_istore_n dX9_clause_4 rfl (Nat.le_of_ble_eq_true rfl) ?_
    refine z_iload_n dX9_clause_5 rfl rfl ?_
    refine z_if_ge dX9_clause_6 rfl (fun c => absurd c (by decide)) (fun _ => ?_)
    refine z_iconst (v := 1) dX9_clause_9 (by decide) ?_
    refine z_iret dX9_clause_10 ?_
    exact fin

theorem x_eq (t m : Nat) : nI (753 * t) + 1 + 6 * nI m = nI (753 * t + 1 + 6 * m) := by
  rw [show (6 : Int32) = nI 6 from rfl, show (1 : Int32) = nI 1 from rfl, pk_mul, nI_add, nI_add]

def RZ (x : RO) : Prop := ∀ z j e, x = some (z, j, e) → z ≤ 9
theorem RZ.s {z j : Nat} {e : Cd} (h : z ≤ 9) : RZ (some (z, j, e)) := by
  intro z' j' e' q
  cases q
  exact h
theorem RZ.b {x : RO} {k : Nat → Cd → RO} (h : RZ x) (hk : ∀ j e, RZ (k j e)) : RZ (bnd x k) := by
  intro z j e q
  cases x with
  | none => cases q
  | some y =>
    obtain ⟨z1, j1, e1⟩ := y
    by_cases hz : z1 = 0
    · subst hz
      rw [bnd_0] at q
      exact hk _ _ _ _ _ q
    · rw [bnd_z hz] at q
      cases q
      exact h _ _ _ rfl
theorem RZ.x {K : Nat → Nat} {w j : Nat} {e : Cd} {k : Nat → Cd → RO} (h : RZ (k (j + 1) e)) : RZ (exq K w j e k) := by
  unfold exq
  split
  · exact h
  · exact RZ.s (by omega)
theorem rd_z {K W : Nat → Nat} {so : Nat} : ∀ f tag op i c, RZ (rd K W so f tag op i c) := by
  intro f
  induction f with
  | zero => intro tag op i c z j e q; cases q
  | succ f ih =>
    intro tag op i c
    show RZ (rdS K W so (rd K W so f) tag op i c)
    have ip : ∀ x j e, RZ (put x j e) := fun x j e => RZ.s (by omega)
    unfold rdS
    split
    · unfold rdOne
      split
      · split
        · exact RZ.s (by omega)
        · exact RZ.s (by omega)
      · split
        · split
          · exact RZ.s (by omega)
          · exact RZ.s (by omega)
        · split
          · split
            · exact RZ.s (by omega)
            · unfold rdIn
              split
              · exact (ih _ _ _ _).b fun j e => RZ.x (RZ.s (by omega))
              · split
                · exact (ih _ _ _ _).b fun j e => ip _ _ _
                · split
                  · exact (ih _ _ _ _).b fun j e => ip _ _ _
                  · split
                    · exact (ih _ _ _ _).b fun j e => RZ.x ((ih _ _ _ _).b fun j e => ip _ _ _)
                    · exact (ih _ _ _ _).b fun j e => RZ.x ((ih _ _ _ _).b fun j e => RZ.x ((ih _ _ _ _).b fun j e => RZ.x (ip _ _ _)))
          · exact RZ.s (by omega)
    · exact (ih _ _ _ _).b fun j e => ih _ _ _ _
    · unfold rdPL
      split
      · exact (ih _ _ _ _).b fun j e => ih _ _ _ _
      · exact RZ.s (by omega)
    · exact (ih _ _ _ _).b fun j e => ih _ _ _ _
    · unfold rdSL
      split
      · exact (ih _ _ _ _).b fun j e => ih _ _ _ _
      · exact RZ.s (by omega)
    · unfold rdCm
      refine (ih _ _ _ _).b fun j e => ?_
      split
      · exact (ih _ _ _ _).b fun j e => ip _ _ _
      · exact RZ.s (by omega)
    · unfold rdAs
      split
      · split
        · exact RZ.s (by omega)
        · exact (ih _ _ _ _).b fun j e => ip _ _ _
      · exact ih _ _ _ _
    · exact (ih _ _ _ _).b fun j e => ih _ _ _ _
    · unfold rdBL
      split
      · exact (ih _ _ _ _).b fun j e => ih _ _ _ _
      · exact RZ.s (by omega)
    · exact (ih _ _ _ _).b fun j e => ih _ _ _ _
    · unfold rdEL
      split
      · exact (ih _ _ _ _).b fun j e => ih _ _ _ _
      · exact RZ.s (by omega)

theorem rdB_z {K W : Nat → Nat} {s i : Nat} (hs : s ≤ 9) : (rdB K W s i).1 ≤ 9 := by
  by_cases h2 : s ≤ 2
  · unfold rdB
    rw [if_pos h2]
    unfold rdBl
    split
    · next z j e er => exact rd_z _ _ _ _ _ _ _ _ er
    · exact (by omega : 1 ≤ 9)
  · by_cases h5 : s = 5
    · subst h5
      show (rdF K W i).1 ≤ 9
      unfold rdF
      split
      · split
        · split
          · unfold rdF2
            split
            · exact Nat.le_trans rdW_z (by omega)
            · exact Nat.le_trans (rdX_z _ _ _).1 (by omega)
          · exact (by omega : 1 ≤ 9)
        · exact (by omega : 2 ≤ 9)
      · exact (by omega : 1 ≤ 9)
    · unfold rdB
      rw [if_neg h2, if_neg h5]
      show (rdA K W (itm s).1 (itm s).2.1 (itm s).2.2 i).1 ≤ 9
      rw [rdA_c]
      split
      · exact Nat.le_trans rdW_z (by omega)
      · exact Nat.le_trans rdA_1.1 (by omega)

theorem r_clL {s : Ms} {t : Nat} {tf : Nat → Int32} {i w on : Nat} {so : Int32} {h : Hp} {d : Nat} (q : RTs s t tf i w so on h) (ht : ITp s) (ht4 : t < 4) {n : Nat} (hK : ∀ j, (tK (TPs s) (TNs s)) j < 53 → j < n) (n3 : n ≤ 300) (hi : i ≤ n) {L : List Cl} (tx : TXm tf t L) (hl : L.length ≤ 24) (wf : ∀ p ∈ L, WFq p) (hw : w = wof L) (hwi : wof L ≤ i) (ho : ONs on L) {so1 : Nat} (k1 : 1 ≤ (tK (TPs s) (TNs s)) i ∧ (tK (TPs s) (TNs s)) i ≤ 10) (eso : (tK (TPs s) (TNs s)) i - 1 = so1) (hs : so1 ≤ 2) (k2 : ¬ ((tK (TPs s) (TNs s)) i ≤ 3 ∧ hasS ((tK (TPs s) (TNs s)) i - 1) L = true)) (k4 : ¬ L.length = 24) (hd : 9 ≤ d) : Sq d mX9_clause [.ref 488] h (CLD s t tf h (rdC (tK (TPs s) (TNs s)) (wN s) L i)) := by
  have hm := q.1.m
  have sO := r_sortOf (d := 6) q ht (Nat.le_refl _)
  have rb := rtk_lt (tp := TPs s) (n := TNs s) (p := tP (TPs s) (TNs s) i) (ht.b _)
  have e0 : pI h 491 (753 * t) = nI L.length := by rw [q.1.2.2.2.2.2.2.2.1 _ (by omega)]; exact tx.1
  have on8 := ho.1
  have eS : srt ((tK (TPs s) (TNs s)) i) = nI so1 := by rw [← eso]; exact if_pos k1
  have i1 := hK i (by omega)
  have hs9 : so1 ≤ 9 := by omega
  have eY : (rdC (tK (TPs s) (TNs s)) (wN s) L i) = rdC2 (tK (TPs s) (TNs s)) so1 L (rdB (tK (TPs s) (TNs s)) (wN s) so1 (i + 1)) := by unfold rdC; rw [if_pos k1, if_neg k2, if_neg k4, eso]
  have k3 : ¬ on.testBit so1 = true := fun w => k2 ⟨by omega, by rw [eso]; exact (ho.2 so1 hs).mp w⟩
  have q1 := (q.fo (on ||| 2 ^ so1)).fs (nI so1)
  obtain ⟨h2, s2, q2, f2b⟩ := r_nx (d := 1) q1 ht (Nat.le_refl _)
  have f2 : FR4 h h2 := ((FR4.rf.i (Or.inl rfl)).i (Or.inl rfl)).tr f2b
  have sq := r_bodyL (d := 8) (x := (753 * t + 1 + 6 * L.length)) (q2.wr (753 * t + 1 + 6 * L.length) (nI so1)) ht ht4 hK n3 hs (by omega) (by omega) (by omega) (Nat.le_refl _)
  intro N S Q hN hS hQ
  refine z_aload_n dX9_clause_0 rfl rfl ?_
  refine y_callV (as := []) CX9_sortOf LX9_255 IX9_sortOf VX9_sortOf ⟨rfl, Nat.le_of_ble_eq_true rfl⟩ dX9_clause_1 hm.o rfl (Nat.le_of_ble_eq_true rfl) (Nat.le_of_ble_eq_true rfl) (by omega) sO rok_i ⟨Nat.le_refl _, Nat.le_refl _, hN, hS⟩ ?_
  refine z_eqi eS ?_
  refine z_istore_n dX9_clause_4 rfl (Nat.le_of_ble_eq_true rfl) ?_
  refine z_iload_n dX9_clause_5 rfl rfl ?_
  refine z_if_ge dX9_clause_6 rfl (fun _ => ?_) (fun c => absurd ((nI_leI (a := 0) (by omega) (by omega)).mpr (Nat.zero_le _)) c)
  refine z_iload_n dX9_clause_11 rfl rfl ?_
  refine z_iconst (v := 2) dX9_clause_12 (by decide) ?_
  refine z_icmp_gt dX9_clause_13 rfl (fun c => absurd c (fun w => absurd ((nI_ltI (a := 2) (by omega) (by omega)).mp w) (by omega))) (fun _ => ?_)
  refine z_aload_n dX9_clause_16 rfl rfl ?_
  refine y_getI FX9_258 dX9_clause_17 (Or.inl rfl) hm.o ?_
  refine z_eqi (y := nI (on)) q.2.2.2.2.2 ?_
  refine z_iload_n dX9_clause_20 rfl rfl ?_
  refine y_callS (as := [_, _]) CX9_has LX9_261 SX9_has dX9_clause_21 rfl (Nat.le_of_ble_eq_true rfl) (Nat.le_of_ble_eq_true rfl) (by omega) (r_has (d := 0) (n := on) (k := so1) (by omega) (by omega)) (rok_z bI_01) ⟨Nat.le_refl _, Nat.le_refl _, hN, hS⟩ ?_
  refine z_if_eq dX9_clause_24 rfl (fun _ => ?_) (fun c => absurd (bI_eq0.mpr k3) c)
  refine z_aload_n dX9_clause_29 rfl rfl ?_
  refine y_getR FX9_16 dX9_clause_30 rfl hm.o hm.f_texts ?_
  refine z_aload_n dX9_clause_33 rfl rfl ?_
  refine y_getI FX9_144 dX9_clause_34 (Or.inl rfl) hm.o ?_
  refine z_eqi (y := nI (753 * t)) q.2.2.1 ?_
  refine y_ialN (753 * t) dX9_clause_37 hm.A_texts (Nat.le_of_ble_eq_true rfl) (rfl) (by omega) ?_
  refine z_eqi e0 ?_
  refine z_istore_n dX9_clause_38 rfl (Nat.le_of_ble_eq_true rfl) ?_
  refine z_iload_n dX9_clause_39 rfl rfl ?_
  refine z_bipush (v := 24) dX9_clause_40 (by decide) ?_
  refine z_icmp_ne dX9_clause_42 rfl (fun _ => ?_) (fun c => absurd c (fun w => absurd ((nI_eq (b := 24) (by omega) (by omega)).mp w) (by omega)))
  refine z_iload_n dX9_clause_48 rfl rfl ?_
  refine z_iconst (v := 2) dX9_clause_49 (by decide) ?_
  refine z_icmp_gt dX9_clause_50 rfl (fun c => absurd c (fun w => absurd ((nI_ltI (a := 2) (by omega) (by omega)).mp w) (by omega))) (fun _ => ?_)
  refine z_aload_n dX9_clause_53 rfl rfl ?_
  refine z_dup dX9_clause_54 rfl ?_
  refine y_getI FX9_258 dX9_clause_55 (Or.inl rfl) hm.o ?_
  refine z_eqi (y := nI (on)) q.2.2.2.2.2 ?_
  refine z_iconst (v := 1) dX9_clause_58 (by decide) ?_
  refine z_iload_n dX9_clause_59 rfl rfl ?_
  refine z_ishl dX9_clause_60 ?_
  refine z_ior dX9_clause_61 ?_
  refine z_eqi (bit_or (by omega)) ?_
  refine y_putI FX9_258 dX9_clause_62 (Or.inl rfl) (Or.inl rfl) hm.o ?_
  refine z_aload_n dX9_clause_65 rfl rfl ?_
  refine z_iload_n dX9_clause_66 rfl rfl ?_
  refine y_putI FX9_150 dX9_clause_67 (Or.inl rfl) (Or.inl rfl) hm.o ?_
  refine z_aload_n dX9_clause_70 rfl rfl ?_
  refine y_callV (as := []) CX9_nextToken LX9_173 IX9_nextToken VX9_nextToken ⟨rfl, Nat.le_of_ble_eq_true rfl⟩ dX9_clause_71 hm.o rfl (Nat.le_of_ble_eq_true rfl) (Nat.le_of_ble_eq_true rfl) (by omega) s2 rok_v (hg_ss f2b.1 hN hS) ?_
  refine z_aload_n dX9_clause_74 rfl rfl ?_
  refine y_getI FX9_144 dX9_clause_75 (Or.inl rfl) (f2.1.O hm.o) ?_
  refine z_eqi (y := nI (753 * t)) q2.2.2.1 ?_
  refine z_iconst (v := 1) dX9_clause_78 (by decide) ?_
  refine z_iadd dX9_clause_79 ?_
  refine z_bipush (v := 6) dX9_clause_80 (by decide) ?_
  refine z_iload_n dX9_clause_82 rfl rfl ?_
  refine z_imul dX9_clause_83 ?_
  refine z_iadd dX9_clause_84 ?_
  refine z_eqi (show _ = nI (753 * t + 1 + 6 * L.length) from x_eq t L.length) ?_
  refine z_istore_n dX9_clause_85 rfl (Nat.le_of_ble_eq_true rfl) ?_
  refine z_aload_n dX9_clause_86 rfl rfl ?_
  refine y_getR FX9_16 dX9_clause_87 rfl (f2.1.O hm.o) (by first | (rw [f2.1.R]; exact hm.f_texts) | exact (congrFun (congrFun f2.1.R _) _).trans hm.f_texts) ?_
  refine z_iload_n dX9_clause_90 rfl rfl ?_
  refine z_iload_n dX9_clause_91 rfl rfl ?_
  refine y_iasN ((753 * t + 1 + 6 * L.length)) dX9_clause_92 (f2.1.A hm.A_texts) (Nat.le_of_ble_eq_true rfl) (rfl) (by omega) ?_
  refine z_aload_n dX9_clause_93 rfl rfl ?_
  refine z_iload_n dX9_clause_94 rfl rfl ?_
  refine z_iload_n dX9_clause_95 rfl rfl ?_
  refine y_callVQ (as := [_, _]) CX9_body LX9_265 IX9_body VX9_body ⟨rfl, (Nat.le_of_ble_eq_true rfl)⟩ dX9_clause_96 (f2.1.O hm.o) rfl (Nat.le_of_ble_eq_true rfl) (Nat.le_of_ble_eq_true rfl) (by omega) sq (fun r h4 p4 => ⟨by rw [p4.1]; exact rok_i, by obtain ⟨_, _, _, _, f, _⟩ := p4; exact f.1⟩) ?_
  intro r h4 p4
  obtain ⟨rfl, tf4, w4, q4, f4, g4, e4⟩ := p4
  have hm4 := q4.1.m
  have f24 : FR4 h h4 := (f2.i (Or.inr rfl)).tr f4
  have e40 : pI h4 491 (753 * t) = nI L.length := by rw [q4.1.2.2.2.2.2.2.2.1 _ (by omega)]; show tf4 (753 * t) = _; rw [g4 _ (by omega), upT_n (by omega)]; exact tx.1
  have frx : ∀ a, (a < 753 * t ∨ 753 * t + 753 ≤ a) → tf4 a = tf a := fun a ha => by rw [g4 a (by omega), upT_n (by omega)]
  have hN4 : pn h4 ≤ N := ss_n' f24.1 hN
  have hS4 : ps h4 ≤ S := ss_s' f24.1 hS
  by_cases hz : (rdB (tK (TPs s) (TNs s)) (wN s) so1 (i + 1)).1 = 0
  · obtain ⟨b1, b2, b3⟩ := e4 hz
    have q5 := q4.wr (753 * t) (nI (L.length + 1))
    have f25 : FR4 h (sI h4 491 (753 * t) (nI (L.length + 1))) := f24.i (Or.inr rfl)
    have rb4 := rtk_lt (tp := TPs s) (n := TNs s) (p := tP (TPs s) (TNs s) (rdB (tK (TPs s) (TNs s)) (wN s) so1 (i + 1)).2.1) (ht.b _)
    have frx5 : ∀ a, (a < 753 * t ∨ 753 * t + 753 ≤ a) → upT tf4 (753 * t) (nI (L.length + 1)) a = tf a := fun a ha => by rw [upT_n (by omega)]; exact frx a ha
    by_cases k51 : (tK (TPs s) (TNs s)) (rdB (tK (TPs s) (TNs s)) (wN s) so1 (i + 1)).2.1 = 51
    · have c59 : rtk (TPs s) (TNs s) (tP (TPs s) (TNs s) (rdB (tK (TPs s) (TNs s)) (wN s) so1 (i + 1)).2.1) = 59 := (rt_sg (c := 59) (by decide)).mpr k51
      obtain ⟨h6, s6, q6, f6⟩ := r_nx (d := 1) q5 ht (Nat.le_refl _)
      have eY2 : (rdC (tK (TPs s) (TNs s)) (wN s) L i) = (0, (rdB (tK (TPs s) (TNs s)) (wN s) so1 (i + 1)).2.1 + 1, L ++ [(so1, (rdB (tK (TPs s) (TNs s)) (wN s) so1 (i + 1)).2.2.1, (rdB (tK (TPs s) (TNs s)) (wN s) so1 (i + 1)).2.2.2)]) := by rw [eY]; unfold rdC2; rw [if_pos hz, if_pos k51]
      rw [eY2] at hQ
      have fin : Q (some (.int (nI 0))) h6 := by
        refine hQ _ _ ⟨rfl, _, w4, _, _, q6, f25.tr f6, frx5, fun _ => ⟨?_, ?_, ?_⟩⟩
        · refine tx.add wf (by omega) (fun a ha => ?_) upT_s ⟨?_, fun c v hc => ?_, fun p2 => ?_⟩
          · rw [upT_n (by omega), g4 a (by omega), upT_n (by omega)]
          · rw [upT_n (by omega), g4 _ (by omega)]; exact upT_s
          · rw [upT_n (by omega)]; exact b2 c v hc
          · obtain ⟨d1, d2, d3⟩ := b3 p2
            have p2 : so1 ≤ 2 := p2
            rw [hw] at d1 d2 d3
            refine ⟨by rw [upT_n (by omega)]; exact d1, by rw [upT_n (by omega)]; exact d2, fun k y hy => ?_⟩
            rw [upT_n (by omega), upT_n (by omega)]; exact d3 k y hy
        · rw [wof_app, b1, hw]
        · exact ONs.add (q := (so1, _, _)) ho hs
      refine z_istore dX9_clause_99 (Nat.le_of_ble_eq_true rfl) ?_
      refine z_iload dX9_clause_101 rfl ?_
      refine z_if_eq dX9_clause_103 rfl (fun _ => ?_) (fun c => absurd (congrArg nI hz) c)
      refine z_aload_n dX9_clause_109 rfl rfl ?_
      refine y_getR FX9_16 dX9_clause_110 rfl hm4.o hm4.f_texts ?_
      refine z_aload_n dX9_clause_113 rfl rfl ?_
      refine y_getI FX9_144 dX9_clause_114 (Or.inl rfl) hm4.o ?_
      refine z_eqi (y := nI (753 * t)) q4.2.2.1 ?_
      refine z_dup2_11 dX9_clause_117 rfl rfl ?_
      refine y_ialN (753 * t) dX9_clause_118 hm4.A_texts (Nat.le_of_ble_eq_true rfl) (rfl) (by omega) ?_
      refine z_eqi e40 ?_
      refine z_iconst (v := 1) dX9_clause_119 (by decide) ?_
      refine z_iadd dX9_clause_120 ?_
      refine z_eqi (nI_1 L.length) ?_
      refine y_iasN (753 * t) dX9_clause_121 hm4.A_texts (Nat.le_of_ble_eq_true rfl) (rfl) (by omega) ?_
      refine z_aload_n dX9_clause_122 rfl rfl ?_
      refine y_getI FX9_106 dX9_clause_123 (Or.inl rfl) hm4.o ?_
      refine z_eqi (y := nI (rtk (TPs s) (TNs s) (tP (TPs s) (TNs s) (rdB (tK (TPs s) (TNs s)) (wN s) so1 (i + 1)).2.1))) q5.tk ?_
      refine z_bipush (v := 59) dX9_clause_126 (by decide) ?_
      refine z_icmp_eq dX9_clause_128 rfl (fun _ => ?_) (fun c => absurd (congrArg nI c59) c)
      refine z_aload_n dX9_clause_133 rfl rfl ?_
      refine y_callV (as := []) CX9_nextToken LX9_173 IX9_nextToken VX9_nextToken ⟨rfl, Nat.le_of_ble_eq_true rfl⟩ dX9_clause_134 hm4.o rfl (Nat.le_of_ble_eq_true rfl) (Nat.le_of_ble_eq_true rfl) (by omega) s6 rok_v (hg_ss f6.1 hN4 hS4) ?_
      refine z_iconst (v := 0) dX9_clause_137 (by decide) ?_
      refine z_iret dX9_clause_138 ?_
      exact fin
    · have c59 : ¬ rtk (TPs s) (TNs s) (tP (TPs s) (TNs s) (rdB (tK (TPs s) (TNs s)) (wN s) so1 (i + 1)).2.1) = 59 := fun w => k51 ((rt_sg (c := 59) (by decide)).mp w)
      have eY2 : (rdC (tK (TPs s) (TNs s)) (wN s) L i) = (1, (rdB (tK (TPs s) (TNs s)) (wN s) so1 (i + 1)).2.1, L) := by rw [eY]; unfold rdC2; rw [if_pos hz, if_neg k51]
      rw [eY2] at hQ
      have fin := hQ (some (.int (nI 1))) _ ⟨rfl, _, w4, _, _, q5, f25, frx5, fun w0 => (by cases w0)⟩
      refine z_istore dX9_clause_99 (Nat.le_of_ble_eq_true rfl) ?_
      refine z_iload dX9_clause_101 rfl ?_
      refine z_if_eq dX9_clause_103 rfl (fun _ => ?_) (fun c => absurd (congrArg nI hz) c)
      refine z_aload_n dX9_clause_109 rfl rfl ?_
      refine y_getR FX9_16 dX9_clause_110 rfl hm4.o hm4.f_texts ?_
      refine z_aload_n dX9_clause_113 rfl rfl ?_
      refine y_getI FX9_144 dX9_clause_114 (Or.inl rfl) hm4.o ?_
      refine z_eqi (y := nI (753 * t)) q4.2.2.1 ?_
      refine z_dup2_11 dX9_clause_117 rfl rfl ?_
      refine y_ialN (753 * t) dX9_clause_118 hm4.A_texts (Nat.le_of_ble_eq_true rfl) (rfl) (by omega) ?_
      refine z_eqi e40 ?_
      refine z_iconst (v := 1) dX9_clause_119 (by decide) ?_
      refine z_iadd dX9_clause_120 ?_
      refine z_eqi (nI_1 L.length) ?_
      refine y_iasN (753 * t) dX9_clause_121 hm4.A_texts (Nat.le_of_ble_eq_true rfl) (rfl) (by omega) ?_
      refine z_aload_n dX9_clause_122 rfl rfl ?_
      refine y_getI FX9_106 dX9_clause_123 (Or.inl rfl) hm4.o ?_
      refine z_eqi (y := nI (rtk (TPs s) (TNs s) (tP (TPs s) (TNs s) (rdB (tK (TPs s) (TNs s)) (wN s) so1 (i + 1)).2.1))) q5.tk ?_
      refine z_bipush (v := 59) dX9_clause_126 (by decide) ?_
      refine z_icmp_eq dX9_clause_128 rfl (fun c => absurd c (fun w => c59 ((nI_eq (b := 59) (by omega) (by omega)).mp w))) (fun _ => ?_)
      refine z_iconst (v := 1) dX9_clause_131 (by decide) ?_
      refine z_iret dX9_clause_132 ?_
      exact fin
  · have eY2 : (rdC (tK (TPs s) (TNs s)) (wN s) L i) = ((rdB (tK (TPs s) (TNs s)) (wN s) so1 (i + 1)).1, (rdB (tK (TPs s) (TNs s)) (wN s) so1 (i + 1)).2.1, L) := by rw [eY]; unfold rdC2; rw [if_neg hz]
    rw [eY2] at hQ
    have zb := rdB_z (K := (tK (TPs s) (TNs s))) (W := (wN s)) (s := so1) (i := i + 1) hs9
    have fin := hQ (some (.int (nI (rdB (tK (TPs s) (TNs s)) (wN s) so1 (i + 1)).1))) h4 ⟨rfl, tf4, w4, _, _, q4, f24, frx, fun w0 => absurd w0 hz⟩
    refine z_istore dX9_clause_99 (Nat.le_of_ble_eq_true rfl) ?_
    refine z_iload dX9_clause_101 rfl ?_
    refine z_if_eq dX9_clause_103 rfl (fun c => absurd c (fun w => hz ((nI_eq (b := 0) (by omega) (by omega)).mp w))) (fun _ => ?_)
    refine z_iload dX9_clause_106 rfl ?_
    refine z_iret dX9_clause_108 ?_
    exact fin

theorem r_clA {s : Ms} {t : Nat} {tf : Nat → Int32} {i w on : Nat} {so : Int32} {h : Hp} {d : Nat} (q : RTs s t tf i w so on h) (ht : ITp s) (ht4 : t < 4) {n : Nat} (hK : ∀ j, (tK (TPs s) (TNs s)) j < 53 → j < n) (n3 : n ≤ 300) (hi : i ≤ n) {L : List Cl} (tx : TXm tf t L) (hl : L.length ≤ 24) (wf : ∀ p ∈ L, WFq p) (hw : w = wof L) (hwi : wof L ≤ i) (ho : ONs on L) {so1 : Nat} (k1 : 1 ≤ (tK (TPs s) (TNs s)) i ∧ (tK (TPs s) (TNs s)) i ≤ 10) (eso : (tK (TPs s) (TNs s)) i - 1 = so1) (hs : 3 ≤ so1) (k2 : ¬ ((tK (TPs s) (TNs s)) i ≤ 3 ∧ hasS ((tK (TPs s) (TNs s)) i - 1) L = true)) (k4 : ¬ L.length = 24) (hd : 9 ≤ d) : Sq d mX9_clause [.ref 488] h (CLD s t tf h (rdC (tK (TPs s) (TNs s)) (wN s) L i)) := by
  have hm := q.1.m
  have sO := r_sortOf (d := 6) q ht (Nat.le_refl _)
  have rb := rtk_lt (tp := TPs s) (n := TNs s) (p := tP (TPs s) (TNs s) i) (ht.b _)
  have e0 : pI h 491 (753 * t) = nI L.length := by rw [q.1.2.2.2.2.2.2.2.1 _ (by omega)]; exact tx.1
  have on8 := ho.1
  have eS : srt ((tK (TPs s) (TNs s)) i) = nI so1 := by rw [← eso]; exact if_pos k1
  have i1 := hK i (by omega)
  have hs9 : so1 ≤ 9 := by omega
  have eY : (rdC (tK (TPs s) (TNs s)) (wN s) L i) = rdC2 (tK (TPs s) (TNs s)) so1 L (rdB (tK (TPs s) (TNs s)) (wN s) so1 (i + 1)) := by unfold rdC; rw [if_pos k1, if_neg k2, if_neg k4, eso]
  skip
  have q1 := q.fs (nI so1)
  obtain ⟨h2, s2, q2, f2b⟩ := r_nx (d := 1) q1 ht (Nat.le_refl _)
  have f2 : FR4 h h2 := (FR4.rf.i (Or.inl rfl)).tr f2b
  have sq := r_bodyA (d := 6) (x := (753 * t + 1 + 6 * L.length)) (q2.wr (753 * t + 1 + 6 * L.length) (nI so1)) ht ⟨hs, by omega⟩ (by omega) (Nat.le_refl _)
  intro N S Q hN hS hQ
  refine z_aload_n dX9_clause_0 rfl rfl ?_
  refine y_callV (as := []) CX9_sortOf LX9_255 IX9_sortOf VX9_sortOf ⟨rfl, Nat.le_of_ble_eq_true rfl⟩ dX9_clause_1 hm.o rfl (Nat.le_of_ble_eq_true rfl) (Nat.le_of_ble_eq_true rfl) (by omega) sO rok_i ⟨Nat.le_refl _, Nat.le_refl _, hN, hS⟩ ?_
  refine z_eqi eS ?_
  refine z_istore_n dX9_clause_4 rfl (Nat.le_of_ble_eq_true rfl) ?_
  refine z_iload_n dX9_clause_5 rfl rfl ?_
  refine z_if_ge dX9_clause_6 rfl (fun _ => ?_) (fun c => absurd ((nI_leI (a := 0) (by omega) (by omega)).mpr (Nat.zero_le _)) c)
  refine z_iload_n dX9_clause_11 rfl rfl ?_
  refine z_iconst (v := 2) dX9_clause_12 (by decide) ?_
  refine z_icmp_gt dX9_clause_13 rfl (fun _ => ?_) (fun c => absurd ((nI_ltI (a := 2) (by omega) (by omega)).mpr (by omega)) c)
  refine z_aload_n dX9_clause_29 rfl rfl ?_
  refine y_getR FX9_16 dX9_clause_30 rfl hm.o hm.f_texts ?_
  refine z_aload_n dX9_clause_33 rfl rfl ?_
  refine y_getI FX9_144 dX9_clause_34 (Or.inl rfl) hm.o ?_
  refine z_eqi (y := nI (753 * t)) q.2.2.1 ?_
  refine y_ialN (753 * t) dX9_clause_37 hm.A_texts (Nat.le_of_ble_eq_true rfl) (rfl) (by omega) ?_
  refine z_eqi e0 ?_
  refine z_istore_n dX9_clause_38 rfl (Nat.le_of_ble_eq_true rfl) ?_
  refine z_iload_n dX9_clause_39 rfl rfl ?_
  refine z_bipush (v := 24) dX9_clause_40 (by decide) ?_
  refine z_icmp_ne dX9_clause_42 rfl (fun _ => ?_) (fun c => absurd c (fun w => absurd ((nI_eq (b := 24) (by omega) (by omega)).mp w) (by omega)))
  refine z_iload_n dX9_clause_48 rfl rfl ?_
  refine z_iconst (v := 2) dX9_clause_49 (by decide) ?_
  refine z_icmp_gt dX9_clause_50 rfl (fun _ => ?_) (fun c => absurd ((nI_ltI (a := 2) (by omega) (by omega)).mpr (by omega)) c)
  refine z_aload_n dX9_clause_65 rfl rfl ?_
  refine z_iload_n dX9_clause_66 rfl rfl ?_
  refine y_putI FX9_150 dX9_clause_67 (Or.inl rfl) (Or.inl rfl) hm.o ?_
  refine z_aload_n dX9_clause_70 rfl rfl ?_
  refine y_callV (as := []) CX9_nextToken LX9_173 IX9_nextToken VX9_nextToken ⟨rfl, Nat.le_of_ble_eq_true rfl⟩ dX9_clause_71 hm.o rfl (Nat.le_of_ble_eq_true rfl) (Nat.le_of_ble_eq_true rfl) (by omega) s2 rok_v (hg_ss f2b.1 hN hS) ?_
  refine z_aload_n dX9_clause_74 rfl rfl ?_
  refine y_getI FX9_144 dX9_clause_75 (Or.inl rfl) (f2.1.O hm.o) ?_
  refine z_eqi (y := nI (753 * t)) q2.2.2.1 ?_
  refine z_iconst (v := 1) dX9_clause_78 (by decide) ?_
  refine z_iadd dX9_clause_79 ?_
  refine z_bipush (v := 6) dX9_clause_80 (by decide) ?_
  refine z_iload_n dX9_clause_82 rfl rfl ?_
  refine z_imul dX9_clause_83 ?_
  refine z_iadd dX9_clause_84 ?_
  refine z_eqi (show _ = nI (753 * t + 1 + 6 * L.length) from x_eq t L.length) ?_
  refine z_istore_n dX9_clause_85 rfl (Nat.le_of_ble_eq_true rfl) ?_
  refine z_aload_n dX9_clause_86 rfl rfl ?_
  refine y_getR FX9_16 dX9_clause_87 rfl (f2.1.O hm.o) (by first | (rw [f2.1.R]; exact hm.f_texts) | exact (congrFun (congrFun f2.1.R _) _).trans hm.f_texts) ?_
  refine z_iload_n dX9_clause_90 rfl rfl ?_
  refine z_iload_n dX9_clause_91 rfl rfl ?_
  refine y_iasN ((753 * t + 1 + 6 * L.length)) dX9_clause_92 (f2.1.A hm.A_texts) (Nat.le_of_ble_eq_true rfl) (rfl) (by omega) ?_
  refine z_aload_n dX9_clause_93 rfl rfl ?_
  refine z_iload_n dX9_clause_94 rfl rfl ?_
  refine z_iload_n dX9_clause_95 rfl rfl ?_
  refine y_callVQ (as := [_, _]) CX9_body LX9_265 IX9_body VX9_body ⟨rfl, (Nat.le_of_ble_eq_true rfl)⟩ dX9_clause_96 (f2.1.O hm.o) rfl (Nat.le_of_ble_eq_true rfl) (Nat.le_of_ble_eq_true rfl) (by omega) sq (fun r h4 p4 => ⟨by rw [p4.1]; exact rok_i, by obtain ⟨_, _, _, _, f, _⟩ := p4; exact f.1⟩) ?_
  intro r h4 p4
  obtain ⟨rfl, tf4, w4, q4, f4, g4, e4⟩ := p4
  have hm4 := q4.1.m
  have f24 : FR4 h h4 := (f2.i (Or.inr rfl)).tr f4
  have e40 : pI h4 491 (753 * t) = nI L.length := by rw [q4.1.2.2.2.2.2.2.2.1 _ (by omega)]; show tf4 (753 * t) = _; rw [g4 _ (by omega), upT_n (by omega)]; exact tx.1
  have frx : ∀ a, (a < 753 * t ∨ 753 * t + 753 ≤ a) → tf4 a = tf a := fun a ha => by rw [g4 a (by omega), upT_n (by omega)]
  have hN4 : pn h4 ≤ N := ss_n' f24.1 hN
  have hS4 : ps h4 ≤ S := ss_s' f24.1 hS
  by_cases hz : (rdB (tK (TPs s) (TNs s)) (wN s) so1 (i + 1)).1 = 0
  · obtain ⟨b1, b2, b3⟩ := e4 hz
    have q5 := q4.wr (753 * t) (nI (L.length + 1))
    have f25 : FR4 h (sI h4 491 (753 * t) (nI (L.length + 1))) := f24.i (Or.inr rfl)
    have rb4 := rtk_lt (tp := TPs s) (n := TNs s) (p := tP (TPs s) (TNs s) (rdB (tK (TPs s) (TNs s)) (wN s) so1 (i + 1)).2.1) (ht.b _)
    have frx5 : ∀ a, (a < 753 * t ∨ 753 * t + 753 ≤ a) → upT tf4 (753 * t) (nI (L.length + 1)) a = tf a := fun a ha => by rw [upT_n (by omega)]; exact frx a ha
    by_cases k51 : (tK (TPs s) (TNs s)) (rdB (tK (TPs s) (TNs s)) (wN s) so1 (i + 1)).2.1 = 51
    · have c59 : rtk (TPs s) (TNs s) (tP (TPs s) (TNs s) (rdB (tK (TPs s) (TNs s)) (wN s) so1 (i + 1)).2.1) = 59 := (rt_sg (c := 59) (by decide)).mpr k51
      obtain ⟨h6, s6, q6, f6⟩ := r_nx (d := 1) q5 ht (Nat.le_refl _)
      have eY2 : (rdC (tK (TPs s) (TNs s)) (wN s) L i) = (0, (rdB (tK (TPs s) (TNs s)) (wN s) so1 (i + 1)).2.1 + 1, L ++ [(so1, (rdB (tK (TPs s) (TNs s)) (wN s) so1 (i + 1)).2.2.1, (rdB (tK (TPs s) (TNs s)) (wN s) so1 (i + 1)).2.2.2)]) := by rw [eY]; unfold rdC2; rw [if_pos hz, if_pos k51]
      rw [eY2] at hQ
      have fin : Q (some (.int (nI 0))) h6 := by
        refine hQ _ _ ⟨rfl, _, w4, _, _, q6, f25.tr f6, frx5, fun _ => ⟨?_, ?_, ?_⟩⟩
        · refine tx.add wf (by omega) (fun a ha => ?_) upT_s ⟨?_, fun c v hc => ?_, fun p2 => ?_⟩
          · rw [upT_n (by omega), g4 a (by omega), upT_n (by omega)]
          · rw [upT_n (by omega), g4 _ (by omega)]; exact upT_s
          · rw [upT_n (by omega)]; exact b2 c v hc
          · exact absurd p2 (by show ¬ so1 ≤ 2; omega)
        · rw [wof_app, b1, hw]
        · exact ho.no hs
      refine z_istore dX9_clause_99 (Nat.le_of_ble_eq_true rfl) ?_
      refine z_iload dX9_clause_101 rfl ?_
      refine z_if_eq dX9_clause_103 rfl (fun _ => ?_) (fun c => absurd (congrArg nI hz) c)
      refine z_aload_n dX9_clause_109 rfl rfl ?_
      refine y_getR FX9_16 dX9_clause_110 rfl hm4.o hm4.f_texts ?_
      refine z_aload_n dX9_clause_113 rfl rfl ?_
      refine y_getI FX9_144 dX9_clause_114 (Or.inl rfl) hm4.o ?_
      refine z_eqi (y := nI (753 * t)) q4.2.2.1 ?_
      refine z_dup2_11 dX9_clause_117 rfl rfl ?_
      refine y_ialN (753 * t) dX9_clause_118 hm4.A_texts (Nat.le_of_ble_eq_true rfl) (rfl) (by omega) ?_
      refine z_eqi e40 ?_
      refine z_iconst (v := 1) dX9_clause_119 (by decide) ?_
      refine z_iadd dX9_clause_120 ?_
      refine z_eqi (nI_1 L.length) ?_
      refine y_iasN (753 * t) dX9_clause_121 hm4.A_texts (Nat.le_of_ble_eq_true rfl) (rfl) (by omega) ?_
      refine z_aload_n dX9_clause_122 rfl rfl ?_
      refine y_getI FX9_106 dX9_clause_123 (Or.inl rfl) hm4.o ?_
      refine z_eqi (y := nI (rtk (TPs s) (TNs s) (tP (TPs s) (TNs s) (rdB (tK (TPs s) (TNs s)) (wN s) so1 (i + 1)).2.1))) q5.tk ?_
      refine z_bipush (v := 59) dX9_clause_126 (by decide) ?_
      refine z_icmp_eq dX9_clause_128 rfl (fun _ => ?_) (fun c => absurd (congrArg nI c59) c)
      refine z_aload_n dX9_clause_133 rfl rfl ?_
      refine y_callV (as := []) CX9_nextToken LX9_173 IX9_nextToken VX9_nextToken ⟨rfl, Nat.le_of_ble_eq_true rfl⟩ dX9_clause_134 hm4.o rfl (Nat.le_of_ble_eq_true rfl) (Nat.le_of_ble_eq_true rfl) (by omega) s6 rok_v (hg_ss f6.1 hN4 hS4) ?_
      refine z_iconst (v := 0) dX9_clause_137 (by decide) ?_
      refine z_iret dX9_clause_138 ?_
      exact fin
    · have c59 : ¬ rtk (TPs s) (TNs s) (tP (TPs s) (TNs s) (rdB (tK (TPs s) (TNs s)) (wN s) so1 (i + 1)).2.1) = 59 := fun w => k51 ((rt_sg (c := 59) (by decide)).mp w)
      have eY2 : (rdC (tK (TPs s) (TNs s)) (wN s) L i) = (1, (rdB (tK (TPs s) (TNs s)) (wN s) so1 (i + 1)).2.1, L) := by rw [eY]; unfold rdC2; rw [if_pos hz, if_neg k51]
      rw [eY2] at hQ
      have fin := hQ (some (.int (nI 1))) _ ⟨rfl, _, w4, _, _, q5, f25, frx5, fun w0 => (by cases w0)⟩
      refine z_istore dX9_clause_99 (Nat.le_of_ble_eq_true rfl) ?_
      refine z_iload dX9_clause_101 rfl ?_
      refine z_if_eq dX9_clause_103 rfl (fun _ => ?_) (fun c => absurd (congrArg nI hz) c)
      refine z_aload_n dX9_clause_109 rfl rfl ?_
      refine y_getR FX9_16 dX9_clause_110 rfl hm4.o hm4.f_texts ?_
      refine z_aload_n dX9_clause_113 rfl rfl ?_
      refine y_getI FX9_144 dX9_clause_114 (Or.inl rfl) hm4.o ?_
      refine z_eqi (y := nI (753 * t)) q4.2.2.1 ?_
      refine z_dup2_11 dX9_clause_117 rfl rfl ?_
      refine y_ialN (753 * t) dX9_clause_118 hm4.A_texts (Nat.le_of_ble_eq_true rfl) (rfl) (by omega) ?_
      refine z_eqi e40 ?_
      refine z_iconst (v := 1) dX9_clause_119 (by decide) ?_
      refine z_iadd dX9_clause_120 ?_
      refine z_eqi (nI_1 L.length) ?_
      refine y_iasN (753 * t) dX9_clause_121 hm4.A_texts (Nat.le_of_ble_eq_true rfl) (rfl) (by omega) ?_
      refine z_aload_n dX9_clause_122 rfl rfl ?_
      refine y_getI FX9_106 dX9_clause_123 (Or.inl rfl) hm4.o ?_
      refine z_eqi (y := nI (rtk (TPs s) (TNs s) (tP (TPs s) (TNs s) (rdB (tK (TPs s) (TNs s)) (wN s) so1 (i + 1)).2.1))) q5.tk ?_
      refine z_bipush (v := 59) dX9_clause_126 (by decide) ?_
      refine z_icmp_eq dX9_clause_128 rfl (fun c => absurd c (fun w => c59 ((nI_eq (b := 59) (by omega) (by omega)).mp w))) (fun _ => ?_)
      refine z_iconst (v := 1) dX9_clause_131 (by decide) ?_
      refine z_iret dX9_clause_132 ?_
      exact fin
  · have eY2 : (rdC (tK (TPs s) (TNs s)) (wN s) L i) = ((rdB (tK (TPs s) (TNs s)) (wN s) so1 (i + 1)).1, (rdB (tK (TPs s) (TNs s)) (wN s) so1 (i + 1)).2.1, L) := by rw [eY]; unfold rdC2; rw [if_neg hz]
    rw [eY2] at hQ
    have zb := rdB_z (K := (tK (TPs s) (TNs s))) (W := (wN s)) (s := so1) (i := i + 1) hs9
    have fin := hQ (some (.int (nI (rdB (tK (TPs s) (TNs s)) (wN s) so1 (i + 1)).1))) h4 ⟨rfl, tf4, w4, _, _, q4, f24, frx, fun w0 => absurd w0 hz⟩
    refine z_istore dX9_clause_99 (Nat.le_of_ble_eq_true rfl) ?_
    refine z_iload dX9_clause_101 rfl ?_
    refine z_if_eq dX9_clause_103 rfl (fun c => absurd c (fun w => hz ((nI_eq (b := 0) (by omega) (by omega)).mp w))) (fun _ => ?_)
    refine z_iload dX9_clause_106 rfl ?_
    refine z_iret dX9_clause_108 ?_
    exact fin

theorem r_clause {s : Ms} {t : Nat} {tf : Nat → Int32} {i w on : Nat} {so : Int32} {h : Hp} {d : Nat} (q : RTs s t tf i w so on h) (ht : ITp s) (ht4 : t < 4) {n : Nat} (hK : ∀ j, (tK (TPs s) (TNs s)) j < 53 → j < n) (n3 : n ≤ 300) (hi : i ≤ n) {L : List Cl} (tx : TXm tf t L) (hl : L.length ≤ 24) (wf : ∀ p ∈ L, WFq p) (hw : w = wof L) (hwi : wof L ≤ i) (ho : ONs on L) (hd : 9 ≤ d) : Sq d mX9_clause [.ref 488] h (CLD s t tf h (rdC (tK (TPs s) (TNs s)) (wN s) L i)) := by
  by_cases hf : ¬ (1 ≤ (tK (TPs s) (TNs s)) i ∧ (tK (TPs s) (TNs s)) i ≤ 10) ∨ ((tK (TPs s) (TNs s)) i ≤ 3 ∧ hasS ((tK (TPs s) (TNs s)) i - 1) L = true) ∨ L.length = 24
  · exact r_clF q ht ht4 hK n3 hi tx hl wf hw hwi ho (by omega) hf
  · have k1 : 1 ≤ (tK (TPs s) (TNs s)) i ∧ (tK (TPs s) (TNs s)) i ≤ 10 := by
      by_cases k1 : 1 ≤ (tK (TPs s) (TNs s)) i ∧ (tK (TPs s) (TNs s)) i ≤ 10
      · exact k1
      · exact absurd (Or.inl k1) hf
    have k2 : ¬ ((tK (TPs s) (TNs s)) i ≤ 3 ∧ hasS ((tK (TPs s) (TNs s)) i - 1) L = true) := fun w => hf (Or.inr (Or.inl w))
    have k4 : ¬ L.length = 24 := fun w => hf (Or.inr (Or.inr w))
    by_cases hs : (tK (TPs s) (TNs s)) i - 1 ≤ 2
    · exact r_clL q ht ht4 hK n3 hi tx hl wf hw hwi ho k1 rfl hs k2 k4 hd
    · exact r_clA q ht ht4 hK n3 hi tx hl wf hw hwi ho k1 rfl (by omega) k2 k4 hd

