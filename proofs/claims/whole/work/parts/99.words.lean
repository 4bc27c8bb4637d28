/-! words of the language, as the reference asks for them (walks by program: wip/whole/gen99.py) -/
theorem rtk_2 {tp : Fl} {n p : Nat} (hb : p < n → tp p < 256) : rtk tp n p = 2 ↔ p < n ∧ isL (tp p) = true := by
  unfold rtk
  by_cases h : n ≤ p
  · rw [if_pos h]
    exact ⟨fun q => by omega, fun q => by omega⟩
  · rw [if_neg h]
    by_cases hl : isL (tp p) = true
    · rw [if_pos hl]
      exact ⟨fun _ => ⟨by omega, hl⟩, fun _ => rfl⟩
    · rw [if_neg hl]
      constructor
      · intro q
        exfalso
        by_cases hd : isD (tp p) = true
        · rw [if_pos hd] at q; omega
        · rw [if_neg hd] at q
          by_cases h2 : two2 tp n p
          · rw [if_pos h2] at q
            split at q <;> omega
          · rw [if_neg h2] at q
            by_cases h3 : sgK (tp p) = 53
            · rw [if_pos h3] at q; omega
            · rw [if_neg h3] at q
              rw [q] at h3
              exact h3 (by decide)
      · intro q; exact absurd q.2 hl
theorem tkK_w {tp : Fl} {n p k : Nat} (hk : 1 ≤ k ∧ k ≤ 35) : tkK tp n p = k ↔ p < n ∧ isL (tp p) = true ∧ kdW tp p (rnF isL tp n p) = k := by
  unfold tkK
  by_cases h : n ≤ p
  · rw [if_pos h]
    exact ⟨fun q => by omega, fun q => by omega⟩
  · rw [if_neg h]
    by_cases hl : isL (tp p) = true
    · rw [if_pos hl]
      exact ⟨fun q => ⟨by omega, hl, q⟩, fun q => q.2.2⟩
    · rw [if_neg hl]
      constructor
      · intro q
        exfalso
        by_cases hd : isD (tp p) = true
        · rw [if_pos hd] at q; omega
        · rw [if_neg hd] at q
          by_cases h2 : two2 tp n p
          · rw [if_pos h2] at q
            split at q <;> omega
          · rw [if_neg h2] at q
            unfold sgK at q
            repeat' split at q
            all_goals omega
      · intro q; exact absurd q.2.1 hl
theorem tkE_w {tp : Fl} {n p : Nat} (hp : p < n) (hl : isL (tp p) = true) : tkE tp n p = rnF isL tp n p := by
  unfold tkE
  rw [if_neg (by omega), if_pos hl]
theorem let_b {tp : Fl} {n p : Nat} : ∀ j, j < rnF isL tp n p - p → 1 ≤ tp (p + j) ∧ tp (p + j) ≤ 255 := fun j hj => by
  have := isL_b (rnF_all (P := isL) (tp := tp) (n := n) (i := p) (j := p + j) (by omega) (by omega)).2
  omega
theorem wd_iff {tp : Fl} {n p k : Nat} {W : List Nat} (hb : p < n → tp p < 256) (hW : WDs[k]? = some W) (hk : k < 35) (hn : ∀ i, i < k → WDs[i]? ≠ some W) (hl : W.length ≤ 6) (hw : ∀ j, j < W.length → 1 ≤ W.getD j 0 ∧ W.getD j 0 ≤ 255) : (rtk tp n p = 2 ∧ spR tp p (tkE tp n p - p) = ewW W W.length) ↔ tkK tp n p = k + 1 := by
  rw [rtk_2 hb, tkK_w (by omega)]
  constructor
  · rintro ⟨⟨h1, h2⟩, h3⟩
    rw [tkE_w h1 h2, sp_mt let_b hl hw] at h3
    exact ⟨h1, h2, (kdW_iff hW hk hn).mpr h3⟩
  · rintro ⟨h1, h2, h3⟩
    rw [tkE_w h1 h2, sp_mt let_b hl hw]
    exact ⟨⟨h1, h2⟩, (kdW_iff hW hk hn).mp h3⟩

theorem wd_1 {tp : Fl} {n p : Nat} (hb : p < n → tp p < 256) : (rtk tp n p = 2 ∧ spR tp p (tkE tp n p - p) = 427071202675) ↔ tkK tp n p = 1 := wd_iff (k := 0) (W := [99, 111, 109, 101, 115]) hb rfl (by omega) (by decide) (by decide) (by decide)
theorem wd_2 {tp : Fl} {n p : Nat} (hb : p < n → tp p < 256) : (rtk tp n p = 2 ∧ spR tp p (tkE tp n p - p) = 1685415283) ↔ tkK tp n p = 2 := wd_iff (k := 1) (W := [100, 117, 101, 115]) hb rfl (by omega) (by decide) (by decide) (by decide)
theorem wd_3 {tp : Fl} {n p : Nat} (hb : p < n → tp p < 256) : (rtk tp n p = 2 ∧ spR tp p (tkE tp n p - p) = 125779970062190) ↔ tkK tp n p = 3 := wd_iff (k := 2) (W := [114, 101, 110, 111, 119, 110]) hb rfl (by omega) (by decide) (by decide) (by decide)
theorem wd_4 {tp : Fl} {n p : Nat} (hb : p < n → tp p < 256) : (rtk tp n p = 2 ∧ spR tp p (tkE tp n p - p) = 1717658484) ↔ tkK tp n p = 4 := wd_iff (k := 3) (W := [102, 97, 99, 116]) hb rfl (by omega) (by decide) (by decide) (by decide)
theorem wd_7 {tp : Fl} {n p : Nat} (hb : p < n → tp p < 256) : (rtk tp n p = 2 ∧ spR tp p (tkE tp n p - p) = 422826307175) ↔ tkK tp n p = 7 := wd_iff (k := 6) (W := [98, 114, 105, 110, 103]) hb rfl (by omega) (by decide) (by decide) (by decide)
theorem wd_8 {tp : Fl} {n p : Nat} (hb : p < n → tp p < 256) : (rtk tp n p = 2 ∧ spR tp p (tkE tp n p - p) = 495807588716) ↔ tkK tp n p = 8 := wd_iff (k := 7) (W := [115, 112, 111, 105, 108]) hb rfl (by omega) (by decide) (by decide) (by decide)
theorem wd_9 {tp : Fl} {n p : Nat} (hb : p < n → tp p < 256) : (rtk tp n p = 2 ∧ spR tp p (tkE tp n p - p) = 1936026732) ↔ tkK tp n p = 9 := wd_iff (k := 8) (W := [115, 101, 108, 108]) hb rfl (by omega) (by decide) (by decide) (by decide)
theorem wd_10 {tp : Fl} {n p : Nat} (hb : p < n → tp p < 256) : (rtk tp n p = 2 ∧ spR tp p (tkE tp n p - p) = 6578553) ↔ tkK tp n p = 10 := wd_iff (k := 9) (W := [100, 97, 121]) hb rfl (by omega) (by decide) (by decide) (by decide)
theorem wd_11 {tp : Fl} {n p : Nat} (hb : p < n → tp p < 256) : (rtk tp n p = 2 ∧ spR tp p (tkE tp n p - p) = 1668248436) ↔ tkK tp n p = 11 := wd_iff (k := 10) (W := [99, 111, 115, 116]) hb rfl (by omega) (by decide) (by decide) (by decide)
theorem wd_12 {tp : Fl} {n p : Nat} (hb : p < n → tp p < 256) : (rtk tp n p = 2 ∧ spR tp p (tkE tp n p - p) = 1717661029) ↔ tkK tp n p = 12 := wd_iff (k := 11) (W := [102, 97, 109, 101]) hb rfl (by omega) (by decide) (by decide) (by decide)
theorem wd_13 {tp : Fl} {n p : Nat} (hb : p < n → tp p < 256) : (rtk tp n p = 2 ∧ spR tp p (tkE tp n p - p) = 6385273) ↔ tkK tp n p = 13 := wd_iff (k := 12) (W := [97, 110, 121]) hb rfl (by omega) (by decide) (by decide) (by decide)
theorem wd_14 {tp : Fl} {n p : Nat} (hb : p < n → tp p < 256) : (rtk tp n p = 2 ∧ spR tp p (tkE tp n p - p) = 6384748) ↔ tkK tp n p = 14 := wd_iff (k := 13) (W := [97, 108, 108]) hb rfl (by omega) (by decide) (by decide) (by decide)
theorem wd_15 {tp : Fl} {n p : Nat} (hb : p < n → tp p < 256) : (rtk tp n p = 2 ∧ spR tp p (tkE tp n p - p) = 26990) ↔ tkK tp n p = 15 := wd_iff (k := 14) (W := [105, 110]) hb rfl (by omega) (by decide) (by decide) (by decide)
theorem wd_16 {tp : Fl} {n p : Nat} (hb : p < n → tp p < 256) : (rtk tp n p = 2 ∧ spR tp p (tkE tp n p - p) = 6710629) ↔ tkK tp n p = 16 := wd_iff (k := 15) (W := [102, 101, 101]) hb rfl (by omega) (by decide) (by decide) (by decide)
theorem wd_17 {tp : Fl} {n p : Nat} (hb : p < n → tp p < 256) : (rtk tp n p = 2 ∧ spR tp p (tkE tp n p - p) = 25209) ↔ tkK tp n p = 17 := wd_iff (k := 16) (W := [98, 121]) hb rfl (by omega) (by decide) (by decide) (by decide)
theorem wd_18 {tp : Fl} {n p : Nat} (hb : p < n → tp p < 256) : (rtk tp n p = 2 ∧ spR tp p (tkE tp n p - p) = 29807) ↔ tkK tp n p = 18 := wd_iff (k := 17) (W := [116, 111]) hb rfl (by omega) (by decide) (by decide) (by decide)
theorem wd_19 {tp : Fl} {n p : Nat} (hb : p < n → tp p < 256) : (rtk tp n p = 2 ∧ spR tp p (tkE tp n p - p) = 482955846501) ↔ tkK tp n p = 19 := wd_iff (k := 18) (W := [112, 114, 105, 99, 101]) hb rfl (by omega) (by decide) (by decide) (by decide)
theorem wd_21 {tp : Fl} {n p : Nat} (hb : p < n → tp p < 256) : (rtk tp n p = 2 ∧ spR tp p (tkE tp n p - p) = 28518) ↔ tkK tp n p = 21 := wd_iff (k := 20) (W := [111, 102]) hb rfl (by omega) (by decide) (by decide) (by decide)
theorem wd_22 {tp : Fl} {n p : Nat} (hb : p < n → tp p < 256) : (rtk tp n p = 2 ∧ spR tp p (tkE tp n p - p) = 29551) ↔ tkK tp n p = 22 := wd_iff (k := 21) (W := [115, 111]) hb rfl (by omega) (by decide) (by decide) (by decide)
theorem wd_23 {tp : Fl} {n p : Nat} (hb : p < n → tp p < 256) : (rtk tp n p = 2 ∧ spR tp p (tkE tp n p - p) = 26982) ↔ tkK tp n p = 23 := wd_iff (k := 22) (W := [105, 102]) hb rfl (by omega) (by decide) (by decide) (by decide)
theorem wd_24 {tp : Fl} {n p : Nat} (hb : p < n → tp p < 256) : (rtk tp n p = 2 ∧ spR tp p (tkE tp n p - p) = 1952998766) ↔ tkK tp n p = 24 := wd_iff (k := 23) (W := [116, 104, 101, 110]) hb rfl (by omega) (by decide) (by decide) (by decide)
theorem wd_25 {tp : Fl} {n p : Nat} (hb : p < n → tp p < 256) : (rtk tp n p = 2 ∧ spR tp p (tkE tp n p - p) = 1701606245) ↔ tkK tp n p = 25 := wd_iff (k := 24) (W := [101, 108, 115, 101]) hb rfl (by omega) (by decide) (by decide) (by decide)
theorem wd_26 {tp : Fl} {n p : Nat} (hb : p < n → tp p < 256) : (rtk tp n p = 2 ∧ spR tp p (tkE tp n p - p) = 6647396) ↔ tkK tp n p = 26 := wd_iff (k := 25) (W := [101, 110, 100]) hb rfl (by omega) (by decide) (by decide) (by decide)
theorem wd_27 {tp : Fl} {n p : Nat} (hb : p < n → tp p < 256) : (rtk tp n p = 2 ∧ spR tp p (tkE tp n p - p) = 28530) ↔ tkK tp n p = 27 := wd_iff (k := 26) (W := [111, 114]) hb rfl (by omega) (by decide) (by decide) (by decide)
theorem wd_28 {tp : Fl} {n p : Nat} (hb : p < n → tp p < 256) : (rtk tp n p = 2 ∧ spR tp p (tkE tp n p - p) = 6385252) ↔ tkK tp n p = 28 := wd_iff (k := 27) (W := [97, 110, 100]) hb rfl (by omega) (by decide) (by decide) (by decide)
theorem wd_29 {tp : Fl} {n p : Nat} (hb : p < n → tp p < 256) : (rtk tp n p = 2 ∧ spR tp p (tkE tp n p - p) = 7237492) ↔ tkK tp n p = 29 := wd_iff (k := 28) (W := [110, 111, 116]) hb rfl (by omega) (by decide) (by decide) (by decide)
theorem wd_30 {tp : Fl} {n p : Nat} (hb : p < n → tp p < 256) : (rtk tp n p = 2 ∧ spR tp p (tkE tp n p - p) = 1835101817) ↔ tkK tp n p = 30 := wd_iff (k := 29) (W := [109, 97, 110, 121]) hb rfl (by omega) (by decide) (by decide) (by decide)
theorem wd_31 {tp : Fl} {n p : Nat} (hb : p < n → tp p < 256) : (rtk tp n p = 2 ∧ spR tp p (tkE tp n p - p) = 1868850291) ↔ tkK tp n p = 31 := wd_iff (k := 30) (W := [111, 100, 100, 115]) hb rfl (by omega) (by decide) (by decide) (by decide)
theorem wd_32 {tp : Fl} {n p : Nat} (hb : p < n → tp p < 256) : (rtk tp n p = 2 ∧ spR tp p (tkE tp n p - p) = 7825519) ↔ tkK tp n p = 32 := wd_iff (k := 31) (W := [119, 104, 111]) hb rfl (by omega) (by decide) (by decide) (by decide)
theorem wd_33 {tp : Fl} {n p : Nat} (hb : p < n → tp p < 256) : (rtk tp n p = 2 ∧ spR tp p (tkE tp n p - p) = 483006772069) ↔ tkK tp n p = 33 := wd_iff (k := 32) (W := [112, 117, 114, 115, 101]) hb rfl (by omega) (by decide) (by decide) (by decide)
theorem wd_34 {tp : Fl} {n p : Nat} (hb : p < n → tp p < 256) : (rtk tp n p = 2 ∧ spR tp p (tkE tp n p - p) = 439720572019) ↔ tkK tp n p = 34 := wd_iff (k := 33) (W := [102, 97, 99, 116, 115]) hb rfl (by omega) (by decide) (by decide) (by decide)
theorem wd_35 {tp : Fl} {n p : Nat} (hb : p < n → tp p < 256) : (rtk tp n p = 2 ∧ spR tp p (tkE tp n p - p) = 6583653) ↔ tkK tp n p = 35 := wd_iff (k := 34) (W := [100, 117, 101]) hb rfl (by omega) (by decide) (by decide) (by decide)
theorem r_w2 {h : Hp} {d a0 a1 : Nat} (h0 : a0 < 256) (h1 : a1 < 256) (hd : 0 ≤ d) : Sp d mX9_w2 [.int (nI a0), .int (nI a1)] h (some (.long (lN (a0 * 256 + a1)))) h := by
  intro N S Q hN hS hQ
  refine z_iload_n dX9_w2_0 rfl rfl ?_
  refine z_i2l dX9_w2_1 ?_
  refine z_eql (nI_l (by omega)) ?_
  refine z_bipush (v := 8) dX9_w2_2 (by decide) ?_
  refine z_lshl dX9_w2_4 ?_
  refine z_iload_n dX9_w2_5 rfl rfl ?_
  refine z_i2l dX9_w2_6 ?_
  refine z_lor dX9_w2_7 ?_
  refine z_eql (lN_w h1) ?_
  refine z_lret dX9_w2_8 ?_
  exact hQ

theorem r_w3 {h : Hp} {d a0 a1 a2 : Nat} (h0 : a0 < 256) (h1 : a1 < 256) (h2 : a2 < 256) (hd : 1 ≤ d) : Sp d mX9_w3 [.int (nI a0), .int (nI a1), .int (nI a2)] h (some (.long (lN ((a0 * 256 + a1) * 256 + a2)))) h := by
  intro N S Q hN hS hQ
  refine z_iload_n dX9_w3_0 rfl rfl ?_
  refine z_iload_n dX9_w3_1 rfl rfl ?_
  refine y_callS (as := [_, _]) CX9_w2 LX9_128 SX9_w2 dX9_w3_2 rfl (Nat.le_of_ble_eq_true rfl) (Nat.le_of_ble_eq_true rfl) (by omega) (r_w2 (d := 0) h0 h1 (by omega)) rok_l ⟨Nat.le_refl _, Nat.le_refl _, hN, hS⟩ ?_
  refine z_bipush (v := 8) dX9_w3_5 (by decide) ?_
  refine z_lshl dX9_w3_7 ?_
  refine z_iload_n dX9_w3_8 rfl rfl ?_
  refine z_i2l dX9_w3_9 ?_
  refine z_lor dX9_w3_10 ?_
  refine z_eql (lN_w h2) ?_
  refine z_lret dX9_w3_11 ?_
  exact hQ

theorem r_w4 {h : Hp} {d a0 a1 a2 a3 : Nat} (h0 : a0 < 256) (h1 : a1 < 256) (h2 : a2 < 256) (h3 : a3 < 256) (hd : 2 ≤ d) : Sp d mX9_w4 [.int (nI a0), .int (nI a1), .int (nI a2), .int (nI a3)] h (some (.long (lN (((a0 * 256 + a1) * 256 + a2) * 256 + a3)))) h := by
  intro N S Q hN hS hQ
  refine z_iload_n dX9_w4_0 rfl rfl ?_
  refine z_iload_n dX9_w4_1 rfl rfl ?_
  refine z_iload_n dX9_w4_2 rfl rfl ?_
  refine y_callS (as := [_, _, _]) CX9_w3 LX9_132 SX9_w3 dX9_w4_3 rfl (Nat.le_of_ble_eq_true rfl) (Nat.le_of_ble_eq_true rfl) (by omega) (r_w3 (d := 1) h0 h1 h2 (by omega)) rok_l ⟨Nat.le_refl _, Nat.le_refl _, hN, hS⟩ ?_
  refine z_bipush (v := 8) dX9_w4_6 (by decide) ?_
  refine z_lshl dX9_w4_8 ?_
  refine z_iload_n dX9_w4_9 rfl rfl ?_
  refine z_i2l dX9_w4_10 ?_
  refine z_lor dX9_w4_11 ?_
  refine z_eql (lN_w h3) ?_
  refine z_lret dX9_w4_12 ?_
  exact hQ

theorem r_w5 {h : Hp} {d a0 a1 a2 a3 a4 : Nat} (h0 : a0 < 256) (h1 : a1 < 256) (h2 : a2 < 256) (h3 : a3 < 256) (h4 : a4 < 256) (hd : 3 ≤ d) : Sp d mX9_w5 [.int (nI a0), .int (nI a1), .int (nI a2), .int (nI a3), .int (nI a4)] h (some (.long (lN ((((a0 * 256 + a1) * 256 + a2) * 256 + a3) * 256 + a4)))) h := by
  intro N S Q hN hS hQ
  refine z_iload_n dX9_w5_0 rfl rfl ?_
  refine z_iload_n dX9_w5_1 rfl rfl ?_
  refine z_iload_n dX9_w5_2 rfl rfl ?_
  refine z_iload_n dX9_w5_3 rfl rfl ?_
  refine y_callS (as := [_, _, _, _]) CX9_w4 LX9_136 SX9_w4 dX9_w5_4 rfl (Nat.le_of_ble_eq_true rfl) (Nat.le_of_ble_eq_true rfl) (by omega) (r_w4 (d := 2) h0 h1 h2 h3 (by omega)) rok_l ⟨Nat.le_refl _, Nat.le_refl _, hN, hS⟩ ?_
  refine z_bipush (v := 8) dX9_w5_7 (by decide) ?_
  refine z_lshl dX9_w5_9 ?_
  refine z_iload dX9_w5_10 rfl ?_
  refine z_i2l dX9_w5_12 ?_
  refine z_lor dX9_w5_13 ?_
  refine z_eql (lN_w h4) ?_
  refine z_lret dX9_w5_14 ?_
  exact hQ

theorem r_w6 {h : Hp} {d a0 a1 a2 a3 a4 a5 : Nat} (h0 : a0 < 256) (h1 : a1 < 256) (h2 : a2 < 256) (h3 : a3 < 256) (h4 : a4 < 256) (h5 : a5 < 256) (hd : 4 ≤ d) : Sp d mX9_w6 [.int (nI a0), .int (nI a1), .int (nI a2), .int (nI a3), .int (nI a4), .int (nI a5)] h (some (.long (lN (((((a0 * 256 + a1) * 256 + a2) * 256 + a3) * 256 + a4) * 256 + a5)))) h := by
  intro N S Q hN hS hQ
  refine z_iload_n dX9_w6_0 rfl rfl ?_
  refine z_iload_n dX9_w6_1 rfl rfl ?_
  refine z_iload_n dX9_w6_2 rfl rfl ?_
  refine z_iload_n dX9_w6_3 rfl rfl ?_
  refine z_iload dX9_w6_4 rfl ?_
  refine y_callS (as := [_, _, _, _, _]) CX9_w5 LX9_140 SX9_w5 dX9_w6_6 rfl (Nat.le_of_ble_eq_true rfl) (Nat.le_of_ble_eq_true rfl) (by omega) (r_w5 (d := 3) h0 h1 h2 h3 h4 (by omega)) rok_l ⟨Nat.le_refl _, Nat.le_refl _, hN, hS⟩ ?_
  refine z_bipush (v := 8) dX9_w6_9 (by decide) ?_
  refine z_lshl dX9_w6_11 ?_
  refine z_iload dX9_w6_12 rfl ?_
  refine z_i2l dX9_w6_14 ?_
  refine z_lor dX9_w6_15 ?_
  refine z_eql (lN_w h5) ?_
  refine z_lret dX9_w6_16 ?_
  exact hQ

theorem rtk_lt {tp : Fl} {n p : Nat} (hb : p < n → tp p < 256) : rtk tp n p < 256 := by
  unfold rtk
  split
  · omega
  · have := hb (by omega)
    split
    · omega
    · split
      · omega
      · split
        · split <;> omega
        · split <;> omega
theorem r_isWord {s : Ms} {h : Hp} {d p : Nat} (hm : SM h) (ht : ITp s) (nt : NTK s p h) (hp : p ≤ TNs s) {v k : Nat} (hv : v < 2 ^ 62) (iff : (rtk (TPs s) (TNs s) p = 2 ∧ spR (TPs s) p (tkE (TPs s) (TNs s) p - p) = v) ↔ tkK (TPs s) (TNs s) p = k) : Sp d mX9_isWord [.ref 488, .long (lN v)] h (some (.int (bI (tkK (TPs s) (TNs s) p = k)))) h := by
  have n3 : TNs s ≤ 300 := ht.1
  have bb : ∀ k, k < TNs s → TPs s k < 256 := fun k hk => ht.2 k (by omega)
  have rl := rtk_lt (tp := (TPs s)) (n := (TNs s)) (p := p) (bb p)
  intro N S Q hN hS hQ
  rw [← bI_congr iff] at hQ
  by_cases h2 : rtk (TPs s) (TNs s) p = 2
  · have hl := (rtk_2 (bb p)).mp h2
    have e11 := nt.2.2.2.1 hl.1 hl.2
    have sl : spR (TPs s) p (tkE (TPs s) (TNs s) p - p) ≤ 2 ^ 60 := by
      rw [tkE_w hl.1 hl.2]
      exact spR_lt let_b
    by_cases h3 : spR (TPs s) p (tkE (TPs s) (TNs s) p - p) = v
    · rw [bI_t ⟨h2, h3⟩] at hQ
      have q : lg_cmp (lN (spR (TPs s) p (tkE (TPs s) (TNs s) p - p))) (lN v) = 0 := (lg_cmp_eq _ _).mpr (congrArg lN h3)
      refine z_aload_n dX9_isWord_0 rfl rfl ?_
      refine y_getI FX9_106 dX9_isWord_1 (Or.inl rfl) hm.o ?_
      refine z_eqi (y := nI (rtk (TPs s) (TNs s) p)) nt.2.2.1 ?_
      refine z_iconst (v := 2) dX9_isWord_4 (by decide) ?_
      refine z_icmp_ne dX9_isWord_5 rfl (fun c => absurd (congrArg nI h2) c) (fun _ => ?_)
      refine z_aload_n dX9_isWord_8 rfl rfl ?_
      refine y_getJ FX9_119 dX9_isWord_9 rfl hm.o ?_
      refine z_eql e11 ?_
      refine z_lload_n dX9_isWord_12 rfl rfl ?_
      refine z_lcmp dX9_isWord_13 ?_
      refine z_if_ne dX9_isWord_14 rfl (fun c => absurd (q) c) (fun _ => ?_)
      refine z_iconst (v := 1) dX9_isWord_17 (by decide) ?_
      refine z_goto dX9_isWord_18 rfl ?_
      refine z_iret dX9_isWord_22 ?_
      exact hQ
    · rw [bI_f (fun c => h3 c.2)] at hQ
      have q : ¬ lg_cmp (lN (spR (TPs s) p (tkE (TPs s) (TNs s) p - p))) (lN v) = 0 := fun c => h3 (by
        have e := (lg_cmp_eq _ _).mp c
        rw [← iL_n, ← iL_n, iL_eq (lN_b (by omega)) (lN_b hv)] at e
        omega)
      refine z_aload_n dX9_isWord_0 rfl rfl ?_
      refine y_getI FX9_106 dX9_isWord_1 (Or.inl rfl) hm.o ?_
      refine z_eqi (y := nI (rtk (TPs s) (TNs s) p)) nt.2.2.1 ?_
      refine z_iconst (v := 2) dX9_isWord_4 (by decide) ?_
      refine z_icmp_ne dX9_isWord_5 rfl (fun c => absurd (congrArg nI h2) c) (fun _ => ?_)
      refine z_aload_n dX9_isWord_8 rfl rfl ?_
      refine y_getJ FX9_119 dX9_isWord_9 rfl hm.o ?_
      refine z_eql e11 ?_
      refine z_lload_n dX9_isWord_12 rfl rfl ?_
      refine z_lcmp dX9_isWord_13 ?_
      refine z_if_ne dX9_isWord_14 rfl (fun _ => ?_) (fun c => absurd c (q))
      refine z_iconst (v := 0) dX9_isWord_21 (by decide) ?_
      refine z_iret dX9_isWord_22 ?_
      exact hQ
  · rw [bI_f (fun c => h2 c.1)] at hQ
    refine z_aload_n dX9_isWord_0 rfl rfl ?_
    refine y_getI FX9_106 dX9_isWord_1 (Or.inl rfl) hm.o ?_
    refine z_eqi (y := nI (rtk (TPs s) (TNs s) p)) nt.2.2.1 ?_
    refine z_iconst (v := 2) dX9_isWord_4 (by decide) ?_
    refine z_icmp_ne dX9_isWord_5 rfl (fun _ => ?_) (fun c => absurd c (fun q => h2 ((nI_eq (b := 2) (by omega) (by omega)).mp q)))
    refine z_iconst (v := 0) dX9_isWord_21 (by decide) ?_
    refine z_iret dX9_isWord_22 ?_
    exact hQ

theorem r_isLong7 {s : Ms} {h : Hp} {d p : Nat} (hr : RM s h) (ht : ITp s) (nt : NTK s p h) (hp : p ≤ TNs s) {w0 w1 w2 w3 w4 w5 w6 : Nat} (hw0 : w0 < 256) (hw1 : w1 < 256) (hw2 : w2 < 256) (hw3 : w3 < 256) (hw4 : w4 < 256) (hw5 : w5 < 256) (hw6 : w6 < 256) (hd : 3 ≤ d) : Sp d mX9_isLong [.ref 488, .long (lN (((w0 * 256 + w1) * 256 + w2) * 256 + w3)), .long (lN ((w4 * 256 + w5) * 256 + w6)), .int (nI 7)] h (some (.int (bI (rtk (TPs s) (TNs s) p = 2 ∧ tkE (TPs s) (TNs s) p - p = 7 ∧ (((TPs s p * 256 + TPs s (p + 1)) * 256 + TPs s (p + 2)) * 256 + TPs s (p + 3)) = (((w0 * 256 + w1) * 256 + w2) * 256 + w3) ∧ ((TPs s (p + 4) * 256 + TPs s (p + 5)) * 256 + TPs s (p + 6)) = ((w4 * 256 + w5) * 256 + w6))))) h := by
  have hm := hr.m
  have n3 : TNs s ≤ 300 := ht.1
  have bb : ∀ k, k < TNs s → TPs s k < 256 := fun k hk => ht.2 k (by omega)
  have rl := rtk_lt (tp := (TPs s)) (n := (TNs s)) (p := p) (bb p)
  have eb := tkE_b (tp := (TPs s)) hp
  intro N S Q hN hS hQ
  by_cases h2 : rtk (TPs s) (TNs s) p = 2
  · by_cases h7 : tkE (TPs s) (TNs s) p - p = 7
    · have c0 : TPs s p < 256 ∧ TPs s (p + 1) < 256 ∧ TPs s (p + 2) < 256 ∧ TPs s (p + 3) < 256 ∧ TPs s (p + 4) < 256 ∧ TPs s (p + 5) < 256 ∧ TPs s (p + 6) < 256 := ⟨bb _ (by omega), bb _ (by omega), bb _ (by omega), bb _ (by omega), bb _ (by omega), bb _ (by omega), bb _ (by omega)⟩
      by_cases a1 : (((TPs s p * 256 + TPs s (p + 1)) * 256 + TPs s (p + 2)) * 256 + TPs s (p + 3)) = (((w0 * 256 + w1) * 256 + w2) * 256 + w3)
      · have q1 : lg_cmp (lN (((TPs s p * 256 + TPs s (p + 1)) * 256 + TPs s (p + 2)) * 256 + TPs s (p + 3))) (lN (((w0 * 256 + w1) * 256 + w2) * 256 + w3)) = 0 := (lg_cmp_eq _ _).mpr (congrArg lN a1)
        by_cases a2 : ((TPs s (p + 4) * 256 + TPs s (p + 5)) * 256 + TPs s (p + 6)) = ((w4 * 256 + w5) * 256 + w6)
        · rw [bI_t ⟨h2, h7, a1, a2⟩] at hQ
          have q2 : lg_cmp (lN ((TPs s (p + 4) * 256 + TPs s (p + 5)) * 256 + TPs s (p + 6))) (lN ((w4 * 256 + w5) * 256 + w6)) = 0 := (lg_cmp_eq _ _).mpr (congrArg lN a2)
          refine z_aload_n dX9_isLong_0 rfl rfl ?_
          refine y_getI FX9_106 dX9_isLong_1 (Or.inl rfl) hm.o ?_
          refine z_eqi (y := nI (rtk (TPs s) (TNs s) p)) nt.2.2.1 ?_
          refine z_iconst (v := 2) dX9_isLong_4 (by decide) ?_
          refine z_icmp_ne dX9_isLong_5 rfl (fun c => absurd (congrArg nI h2) c) (fun _ => ?_)
          refine z_aload_n dX9_isLong_8 rfl rfl ?_
          refine y_getI FX9_96 dX9_isLong_9 (Or.inl rfl) hm.o ?_
          refine z_eqi (y := nI (tkE (TPs s) (TNs s) p)) nt.1 ?_
          refine z_aload_n dX9_isLong_12 rfl rfl ?_
          refine y_getI FX9_103 dX9_isLong_13 (Or.inl rfl) hm.o ?_
          refine z_eqi (y := nI (p)) nt.2.1 ?_
          refine z_isub dX9_isLong_16 ?_
          refine z_eqi (show _ = nI (tkE (TPs s) (TNs s) p - p) from pk_sub eb.2.1) ?_
          refine z_iload dX9_isLong_17 rfl ?_
          refine z_icmp_eq dX9_isLong_19 rfl (fun _ => ?_) (fun c => absurd (congrArg nI h7) c)
          refine z_iload dX9_isLong_24 rfl ?_
          refine z_bipush (v := 7) dX9_isLong_26 (by decide) ?_
          refine z_icmp_ne dX9_isLong_28 rfl (fun c => absurd (rfl) c) (fun _ => ?_)
          refine z_aload_n dX9_isLong_31 rfl rfl ?_
          refine z_aload_n dX9_isLong_32 rfl rfl ?_
          refine y_getI FX9_103 dX9_isLong_33 (Or.inl rfl) hm.o ?_
          refine z_eqi (y := nI (p)) nt.2.1 ?_
          refine z_iconst (v := 4) dX9_isLong_36 (by decide) ?_
          refine z_iadd dX9_isLong_37 ?_
          refine z_eqi (nI_add p 4) ?_
          refine y_callV (as := [_]) CX9_byteAt LX9_99 IX9_byteAt VX9_byteAt ⟨rfl, Nat.le_of_ble_eq_true rfl⟩ dX9_isLong_38 hm.o rfl (Nat.le_of_ble_eq_true rfl) (Nat.le_of_ble_eq_true rfl) (by omega) (r_byteAt (d := 0) (k := p + 4) hr ht (by omega)) rok_i ⟨Nat.le_refl _, Nat.le_refl _, hN, hS⟩ ?_
          refine z_eqi (show _ = nI (TPs s (p + 4)) from if_pos (by omega)) ?_
          refine z_aload_n dX9_isLong_41 rfl rfl ?_
          refine z_aload_n dX9_isLong_42 rfl rfl ?_
          refine y_getI FX9_103 dX9_isLong_43 (Or.inl rfl) hm.o ?_
          refine z_eqi (y := nI (p)) nt.2.1 ?_
          refine z_iconst (v := 5) dX9_isLong_46 (by decide) ?_
          refine z_iadd dX9_isLong_47 ?_
          refine z_eqi (nI_add p 5) ?_
          refine y_callV (as := [_]) CX9_byteAt LX9_99 IX9_byteAt VX9_byteAt ⟨rfl, Nat.le_of_ble_eq_true rfl⟩ dX9_isLong_48 hm.o rfl (Nat.le_of_ble_eq_true rfl) (Nat.le_of_ble_eq_true rfl) (by omega) (r_byteAt (d := 0) (k := p + 5) hr ht (by omega)) rok_i ⟨Nat.le_refl _, Nat.le_refl _, hN, hS⟩ ?_
          refine z_eqi (show _ = nI (TPs s (p + 5)) from if_pos (by omega)) ?_
          refine z_aload_n dX9_isLong_51 rfl rfl ?_
          refine z_aload_n dX9_isLong_52 rfl rfl ?_
          refine y_getI FX9_103 dX9_isLong_53 (Or.inl rfl) hm.o ?_
          refine z_eqi (y := nI (p)) nt.2.1 ?_
          refine z_bipush (v := 6) dX9_isLong_56 (by decide) ?_
          refine z_iadd dX9_isLong_58 ?_
          refine z_eqi (nI_add p 6) ?_
          refine y_callV (as := [_]) CX9_byteAt LX9_99 IX9_byteAt VX9_byteAt ⟨rfl, Nat.le_of_ble_eq_true rfl⟩ dX9_isLong_59 hm.o rfl (Nat.le_of_ble_eq_true rfl) (Nat.le_of_ble_eq_true rfl) (by omega) (r_byteAt (d := 0) (k := p + 6) hr ht (by omega)) rok_i ⟨Nat.le_refl _, Nat.le_refl _, hN, hS⟩ ?_
          refine z_eqi (show _ = nI (TPs s (p + 6)) from if_pos (by omega)) ?_
          refine y_callS (as := [_, _, _]) CX9_w3 LX9_132 SX9_w3 dX9_isLong_62 rfl (Nat.le_of_ble_eq_true rfl) (Nat.le_of_ble_eq_true rfl) (by omega) (r_w3 (d := 2) (bb _ (by omega)) (bb _ (by omega)) (bb _ (by omega)) (by omega)) rok_l ⟨Nat.le_refl _, Nat.le_refl _, hN, hS⟩ ?_
          refine z_goto dX9_isLong_65 rfl ?_
          refine z_lstore dX9_isLong_113 (Nat.le_of_ble_eq_true rfl) ?_
          refine z_aload_n dX9_isLong_115 rfl rfl ?_
          refine z_aload_n dX9_isLong_116 rfl rfl ?_
          refine y_getI FX9_103 dX9_isLong_117 (Or.inl rfl) hm.o ?_
          refine z_eqi (y := nI (p)) nt.2.1 ?_
          refine y_callV (as := [_]) CX9_byteAt LX9_99 IX9_byteAt VX9_byteAt ⟨rfl, Nat.le_of_ble_eq_true rfl⟩ dX9_isLong_120 hm.o rfl (Nat.le_of_ble_eq_true rfl) (Nat.le_of_ble_eq_true rfl) (by omega) (r_byteAt (d := 0) (k := p) hr ht (by omega)) rok_i ⟨Nat.le_refl _, Nat.le_refl _, hN, hS⟩ ?_
          refine z_eqi (show _ = nI (TPs s p) from if_pos (by omega)) ?_
          refine z_aload_n dX9_isLong_123 rfl rfl ?_
          refine z_aload_n dX9_isLong_124 rfl rfl ?_
          refine y_getI FX9_103 dX9_isLong_125 (Or.inl rfl) hm.o ?_
          refine z_eqi (y := nI (p)) nt.2.1 ?_
          refine z_iconst (v := 1) dX9_isLong_128 (by decide) ?_
          refine z_iadd dX9_isLong_129 ?_
          refine z_eqi (nI_add p 1) ?_
          refine y_callV (as := [_]) CX9_byteAt LX9_99 IX9_byteAt VX9_byteAt ⟨rfl, Nat.le_of_ble_eq_true rfl⟩ dX9_isLong_130 hm.o rfl (Nat.le_of_ble_eq_true rfl) (Nat.le_of_ble_eq_true rfl) (by omega) (r_byteAt (d := 0) (k := p + 1) hr ht (by omega)) rok_i ⟨Nat.le_refl _, Nat.le_refl _, hN, hS⟩ ?_
          refine z_eqi (show _ = nI (TPs s (p + 1)) from if_pos (by omega)) ?_
          refine z_aload_n dX9_isLong_133 rfl rfl ?_
          refine z_aload_n dX9_isLong_134 rfl rfl ?_
          refine y_getI FX9_103 dX9_isLong_135 (Or.inl rfl) hm.o ?_
          refine z_eqi (y := nI (p)) nt.2.1 ?_
          refine z_iconst (v := 2) dX9_isLong_138 (by decide) ?_
          refine z_iadd dX9_isLong_139 ?_
          refine z_eqi (nI_add p 2) ?_
          refine y_callV (as := [_]) CX9_byteAt LX9_99 IX9_byteAt VX9_byteAt ⟨rfl, Nat.le_of_ble_eq_true rfl⟩ dX9_isLong_140 hm.o rfl (Nat.le_of_ble_eq_true rfl) (Nat.le_of_ble_eq_true rfl) (by omega) (r_byteAt (d := 0) (k := p + 2) hr ht (by omega)) rok_i ⟨Nat.le_refl _, Nat.le_refl _, hN, hS⟩ ?_
          refine z_eqi (show _ = nI (TPs s (p + 2)) from if_pos (by omega)) ?_
          refine z_aload_n dX9_isLong_143 rfl rfl ?_
          refine z_aload_n dX9_isLong_144 rfl rfl ?_
          refine y_getI FX9_103 dX9_isLong_145 (Or.inl rfl) hm.o ?_
          refine z_eqi (y := nI (p)) nt.2.1 ?_
          refine z_iconst (v := 3) dX9_isLong_148 (by decide) ?_
          refine z_iadd dX9_isLong_149 ?_
          refine z_eqi (nI_add p 3) ?_
          refine y_callV (as := [_]) CX9_byteAt LX9_99 IX9_byteAt VX9_byteAt ⟨rfl, Nat.le_of_ble_eq_true rfl⟩ dX9_isLong_150 hm.o rfl (Nat.le_of_ble_eq_true rfl) (Nat.le_of_ble_eq_true rfl) (by omega) (r_byteAt (d := 0) (k := p + 3) hr ht (by omega)) rok_i ⟨Nat.le_refl _, Nat.le_refl _, hN, hS⟩ ?_
          refine z_eqi (show _ = nI (TPs s (p + 3)) from if_pos (by omega)) ?_
          refine y_callS (as := [_, _, _, _]) CX9_w4 LX9_136 SX9_w4 dX9_isLong_153 rfl (Nat.le_of_ble_eq_true rfl) (Nat.le_of_ble_eq_true rfl) (by omega) (r_w4 (d := 2) (bb _ (by omega)) (bb _ (by omega)) (bb _ (by omega)) (bb _ (by omega)) (by omega)) rok_l ⟨Nat.le_refl _, Nat.le_refl _, hN, hS⟩ ?_
          refine z_lload_n dX9_isLong_156 rfl rfl ?_
          refine z_lcmp dX9_isLong_157 ?_
          refine z_if_ne dX9_isLong_158 rfl (fun c => absurd (q1) c) (fun _ => ?_)
          refine z_lload dX9_isLong_161 rfl ?_
          refine z_lload_n dX9_isLong_163 rfl rfl ?_
          refine z_lcmp dX9_isLong_164 ?_
          refine z_if_ne dX9_isLong_165 rfl (fun c => absurd (q2) c) (fun _ => ?_)
          refine z_iconst (v := 1) dX9_isLong_168 (by decide) ?_
          refine z_goto dX9_isLong_169 rfl ?_
          refine z_iret dX9_isLong_173 ?_
          exact hQ
        · rw [bI_f (fun c => a2 c.2.2.2)] at hQ
          have q2 : ¬ lg_cmp (lN ((TPs s (p + 4) * 256 + TPs s (p + 5)) * 256 + TPs s (p + 6))) (lN ((w4 * 256 + w5) * 256 + w6)) = 0 := fun c => a2 (by
            have e := (lg_cmp_eq _ _).mp c
            rw [← iL_n, ← iL_n, iL_eq (lN_b (by omega)) (lN_b (by omega))] at e
            exact Int.ofNat_inj.mp e)
          refine z_aload_n dX9_isLong_0 rfl rfl ?_
          refine y_getI FX9_106 dX9_isLong_1 (Or.inl rfl) hm.o ?_
          refine z_eqi (y := nI (rtk (TPs s) (TNs s) p)) nt.2.2.1 ?_
          refine z_iconst (v := 2) dX9_isLong_4 (by decide) ?_
          refine z_icmp_ne dX9_isLong_5 rfl (fun c => absurd (congrArg nI h2) c) (fun _ => ?_)
          refine z_aload_n dX9_isLong_8 rfl rfl ?_
          refine y_getI FX9_96 dX9_isLong_9 (Or.inl rfl) hm.o ?_
          refine z_eqi (y := nI (tkE (TPs s) (TNs s) p)) nt.1 ?_
          refine z_aload_n dX9_isLong_12 rfl rfl ?_
          refine y_getI FX9_103 dX9_isLong_13 (Or.inl rfl) hm.o ?_
          refine z_eqi (y := nI (p)) nt.2.1 ?_
          refine z_isub dX9_isLong_16 ?_
          refine z_eqi (show _ = nI (tkE (TPs s) (TNs s) p - p) from pk_sub eb.2.1) ?_
          refine z_iload dX9_isLong_17 rfl ?_
          refine z_icmp_eq dX9_isLong_19 rfl (fun _ => ?_) (fun c => absurd (congrArg nI h7) c)
          refine z_iload dX9_isLong_24 rfl ?_
          refine z_bipush (v := 7) dX9_isLong_26 (by decide) ?_
          refine z_icmp_ne dX9_isLong_28 rfl (fun c => absurd (rfl) c) (fun _ => ?_)
          refine z_aload_n dX9_isLong_31 rfl rfl ?_
          refine z_aload_n dX9_isLong_32 rfl rfl ?_
          refine y_getI FX9_103 dX9_isLong_33 (Or.inl rfl) hm.o ?_
          refine z_eqi (y := nI (p)) nt.2.1 ?_
          refine z_iconst (v := 4) dX9_isLong_36 (by decide) ?_
          refine z_iadd dX9_isLong_37 ?_
          refine z_eqi (nI_add p 4) ?_
          refine y_callV (as := [_]) CX9_byteAt LX9_99 IX9_byteAt VX9_byteAt ⟨rfl, Nat.le_of_ble_eq_true rfl⟩ dX9_isLong_38 hm.o rfl (Nat.le_of_ble_eq_true rfl) (Nat.le_of_ble_eq_true rfl) (by omega) (r_byteAt (d := 0) (k := p + 4) hr ht (by omega)) rok_i ⟨Nat.le_refl _, Nat.le_refl _, hN, hS⟩ ?_
          refine z_eqi (show _ = nI (TPs s (p + 4)) from if_pos (by omega)) ?_
          refine z_aload_n dX9_isLong_41 rfl rfl ?_
          refine z_aload_n dX9_isLong_42 rfl rfl ?_
          refine y_getI FX9_103 dX9_isLong_43 (Or.inl rfl) hm.o ?_
          refine z_eqi (y := nI (p)) nt.2.1 ?_
          refine z_iconst (v := 5) dX9_isLong_46 (by decide) ?_
          refine z_iadd dX9_isLong_47 ?_
          refine z_eqi (nI_add p 5) ?_
          refine y_callV (as := [_]) CX9_byteAt LX9_99 IX9_byteAt VX9_byteAt ⟨rfl, Nat.le_of_ble_eq_true rfl⟩ dX9_isLong_48 hm.o rfl (Nat.le_of_ble_eq_true rfl) (Nat.le_of_ble_eq_true rfl) (by omega) (r_byteAt (d := 0) (k := p + 5) hr ht (by omega)) rok_i ⟨Nat.le_refl _, Nat.le_refl _, hN, hS⟩ ?_
          refine z_eqi (show _ = nI (TPs s (p + 5)) from if_pos (by omega)) ?_
          refine z_aload_n dX9_isLong_51 rfl rfl ?_
          refine z_aload_n dX9_isLong_52 rfl rfl ?_
          refine y_getI FX9_103 dX9_isLong_53 (Or.inl rfl) hm.o ?_
          refine z_eqi (y := nI (p)) nt.2.1 ?_
          refine z_bipush (v := 6) dX9_isLong_56 (by decide) ?_
          refine z_iadd dX9_isLong_58 ?_
          refine z_eqi (nI_add p 6) ?_
          refine y_callV (as := [_]) CX9_byteAt LX9_99 IX9_byteAt VX9_byteAt ⟨rfl, Nat.le_of_ble_eq_true rfl⟩ dX9_isLong_59 hm.o rfl (Nat.le_of_ble_eq_true rfl) (Nat.le_of_ble_eq_true rfl) (by omega) (r_byteAt (d := 0) (k := p + 6) hr ht (by omega)) rok_i ⟨Nat.le_refl _, Nat.le_refl _, hN, hS⟩ ?_
          refine z_eqi (show _ = nI (TPs s (p + 6)) from if_pos (by omega)) ?_
          refine y_callS (as := [_, _, _]) CX9_w3 LX9_132 SX9_w3 dX9_isLong_62 rfl (Nat.le_of_ble_eq_true rfl) (Nat.le_of_ble_eq_true rfl) (by omega) (r_w3 (d := 2) (bb _ (by omega)) (bb _ (by omega)) (bb _ (by omega)) (by omega)) rok_l ⟨Nat.le_refl _, Nat.le_refl _, hN, hS⟩ ?_
          refine z_goto dX9_isLong_65 rfl ?_
          refine z_lstore dX9_isLong_113 (Nat.le_of_ble_eq_true rfl) ?_
          refine z_aload_n dX9_isLong_115 rfl rfl ?_
          refine z_aload_n dX9_isLong_116 rfl rfl ?_
          refine y_getI FX9_103 dX9_isLong_117 (Or.inl rfl) hm.o ?_
          refine z_eqi (y := nI (p)) nt.2.1 ?_
          refine y_callV (as := [_]) CX9_byteAt LX9_99 IX9_byteAt VX9_byteAt ⟨rfl, Nat.le_of_ble_eq_true rfl⟩ dX9_isLong_120 hm.o rfl (Nat.le_of_ble_eq_true rfl) (Nat.le_of_ble_eq_true rfl) (by omega) (r_byteAt (d := 0) (k := p) hr ht (by omega)) rok_i ⟨Nat.le_refl _, Nat.le_refl _, hN, hS⟩ ?_
          refine z_eqi (show _ = nI (TPs s p) from if_pos (by omega)) ?_
          refine z_aload_n dX9_isLong_123 rfl rfl ?_
          refine z_aload_n dX9_isLong_124 rfl rfl ?_
          refine y_getI FX9_103 dX9_isLong_125 (Or.inl rfl) hm.o ?_
          refine z_eqi (y := nI (p)) nt.2.1 ?_
          refine z_iconst (v := 1) dX9_isLong_128 (by decide) ?_
          refine z_iadd dX9_isLong_129 ?_
          refine z_eqi (nI_add p 1) ?_
          refine y_callV (as := [_]) CX9_byteAt LX9_99 IX9_byteAt VX9_byteAt ⟨rfl, Nat.le_of_ble_eq_true rfl⟩ dX9_isLong_130 hm.o rfl (Nat.le_of_ble_eq_true rfl) (Nat.le_of_ble_eq_true rfl) (by omega) (r_byteAt (d := 0) (k := p + 1) hr ht (by omega)) rok_i ⟨Nat.le_refl _, Nat.le_refl _, hN, hS⟩ ?_
          refine z_eqi (show _ = nI (TPs s (p + 1)) from if_pos (by omega)) ?_
          refine z_aload_n dX9_isLong_133 rfl rfl ?_
          refine z_aload_n dX9_isLong_134 rfl rfl ?_
          refine y_getI FX9_103 dX9_isLong_135 (Or.inl rfl) hm.o ?_
          refine z_eqi (y := nI (p)) nt.2.1 ?_
          refine z_iconst (v := 2) dX9_isLong_138 (by decide) ?_
          refine z_iadd dX9_isLong_139 ?_
          refine z_eqi (nI_add p 2) ?_
          refine y_callV (as := [_]) CX9_byteAt LX9_99 IX9_byteAt VX9_byteAt ⟨rfl, Nat.le_of_ble_eq_true rfl⟩ dX9_isLong_140 hm.o rfl (Nat.le_of_ble_eq_true rfl) (Nat.le_of_ble_eq_true rfl) (by omega) (r_byteAt (d := 0) (k := p + 2) hr ht (by omega)) rok_i ⟨Nat.le_refl _, Nat.le_refl _, hN, hS⟩ ?_
          refine z_eqi (show _ = nI (TPs s (p + 2)) from if_pos (by omega)) ?_
          refine z_aload_n dX9_isLong_143 rfl rfl ?_
          refine z_aload_n dX9_isLong_144 rfl rfl ?_
          refine y_getI FX9_103 dX9_isLong_145 (Or.inl rfl) hm.o ?_
          refine z_eqi (y := nI (p)) nt.2.1 ?_
          refine z_iconst (v := 3) dX9_isLong_148 (by decide) ?_
          refine z_iadd dX9_isLong_149 ?_
          refine z_eqi (nI_add p 3) ?_
          refine y_callV (as := [_]) CX9_byteAt LX9_99 IX9_byteAt VX9_byteAt ⟨rfl, Nat.le_of_ble_eq_true rfl⟩ dX9_isLong_150 hm.o rfl (Nat.le_of_ble_eq_true rfl) (Nat.le_of_ble_eq_true rfl) (by omega) (r_byteAt (d := 0) (k := p + 3) hr ht (by omega)) rok_i ⟨Nat.le_refl _, Nat.le_refl _, hN, hS⟩ ?_
          refine z_eqi (show _ = nI (TPs s (p + 3)) from if_pos (by omega)) ?_
          refine y_callS (as := [_, _, _, _]) CX9_w4 LX9_136 SX9_w4 dX9_isLong_153 rfl (Nat.le_of_ble_eq_true rfl) (Nat.le_of_ble_eq_true rfl) (by omega) (r_w4 (d := 2) (bb _ (by omega)) (bb _ (by omega)) (bb _ (by omega)) (bb _ (by omega)) (by omega)) rok_l ⟨Nat.le_refl _, Nat.le_refl _, hN, hS⟩ ?_
          refine z_lload_n dX9_isLong_156 rfl rfl ?_
          refine z_lcmp dX9_isLong_157 ?_
          refine z_if_ne dX9_isLong_158 rfl (fun c => absurd (q1) c) (fun _ => ?_)
          refine z_lload dX9_isLong_161 rfl ?_
          refine z_lload_n dX9_isLong_163 rfl rfl ?_
          refine z_lcmp dX9_isLong_164 ?_
          refine z_if_ne dX9_isLong_165 rfl (fun _ => ?_) (fun c => absurd c (q2))
          refine z_iconst (v := 0) dX9_isLong_172 (by decide) ?_
          refine z_iret dX9_isLong_173 ?_
          exact hQ
      · rw [bI_f (fun c => a1 c.2.2.1)] at hQ
        have q1 : ¬ lg_cmp (lN (((TPs s p * 256 + TPs s (p + 1)) * 256 + TPs s (p + 2)) * 256 + TPs s (p + 3))) (lN (((w0 * 256 + w1) * 256 + w2) * 256 + w3)) = 0 := fun c => a1 (by
          have e := (lg_cmp_eq _ _).mp c
          rw [← iL_n, ← iL_n, iL_eq (lN_b (by omega)) (lN_b (by omega))] at e
          exact Int.ofNat_inj.mp e)
        refine z_aload_n dX9_isLong_0 rfl rfl ?_
        refine y_getI FX9_106 dX9_isLong_1 (Or.inl rfl) hm.o ?_
        refine z_eqi (y := nI (rtk (TPs s) (TNs s) p)) nt.2.2.1 ?_
        refine z_iconst (v := 2) dX9_isLong_4 (by decide) ?_
        refine z_icmp_ne dX9_isLong_5 rfl (fun c => absurd (congrArg nI h2) c) (fun _ => ?_)
        refine z_aload_n dX9_isLong_8 rfl rfl ?_
        refine y_getI FX9_96 dX9_isLong_9 (Or.inl rfl) hm.o ?_
        refine z_eqi (y := nI (tkE (TPs s) (TNs s) p)) nt.1 ?_
        refine z_aload_n dX9_isLong_12 rfl rfl ?_
        refine y_getI FX9_103 dX9_isLong_13 (Or.inl rfl) hm.o ?_
        refine z_eqi (y := nI (p)) nt.2.1 ?_
        refine z_isub dX9_isLong_16 ?_
        refine z_eqi (show _ = nI (tkE (TPs s) (TNs s) p - p) from pk_sub eb.2.1) ?_
        refine z_iload dX9_isLong_17 rfl ?_
        refine z_icmp_eq dX9_isLong_19 rfl (fun _ => ?_) (fun c => absurd (congrArg nI h7) c)
        refine z_iload dX9_isLong_24 rfl ?_
        refine z_bipush (v := 7) dX9_isLong_26 (by decide) ?_
        refine z_icmp_ne dX9_isLong_28 rfl (fun c => absurd (rfl) c) (fun _ => ?_)
        refine z_aload_n dX9_isLong_31 rfl rfl ?_
        refine z_aload_n dX9_isLong_32 rfl rfl ?_
        refine y_getI FX9_103 dX9_isLong_33 (Or.inl rfl) hm.o ?_
        refine z_eqi (y := nI (p)) nt.2.1 ?_
        refine z_iconst (v := 4) dX9_isLong_36 (by decide) ?_
        refine z_iadd dX9_isLong_37 ?_
        refine z_eqi (nI_add p 4) ?_
        refine y_callV (as := [_]) CX9_byteAt LX9_99 IX9_byteAt VX9_byteAt ⟨rfl, Nat.le_of_ble_eq_true rfl⟩ dX9_isLong_38 hm.o rfl (Nat.le_of_ble_eq_true rfl) (Nat.le_of_ble_eq_true rfl) (by omega) (r_byteAt (d := 0) (k := p + 4) hr ht (by omega)) rok_i ⟨Nat.le_refl _, Nat.le_refl _, hN, hS⟩ ?_
        refine z_eqi (show _ = nI (TPs s (p + 4)) from if_pos (by omega)) ?_
        refine z_aload_n dX9_isLong_41 rfl rfl ?_
        refine z_aload_n dX9_isLong_42 rfl rfl ?_
        refine y_getI FX9_103 dX9_isLong_43 (Or.inl rfl) hm.o ?_
        refine z_eqi (y := nI (p)) nt.2.1 ?_
        refine z_iconst (v := 5) dX9_isLong_46 (by decide) ?_
        refine z_iadd dX9_isLong_47 ?_
        refine z_eqi (nI_add p 5) ?_
        refine y_callV (as := [_]) CX9_byteAt LX9_99 IX9_byteAt VX9_byteAt ⟨rfl, Nat.le_of_ble_eq_true rfl⟩ dX9_isLong_48 hm.o rfl (Nat.le_of_ble_eq_true rfl) (Nat.le_of_ble_eq_true rfl) (by omega) (r_byteAt (d := 0) (k := p + 5) hr ht (by omega)) rok_i ⟨Nat.le_refl _, Nat.le_refl _, hN, hS⟩ ?_
        refine z_eqi (show _ = nI (TPs s (p + 5)) from if_pos (by omega)) ?_
        refine z_aload_n dX9_isLong_51 rfl rfl ?_
        refine z_aload_n dX9_isLong_52 rfl rfl ?_
        refine y_getI FX9_103 dX9_isLong_53 (Or.inl rfl) hm.o ?_
        refine z_eqi (y := nI (p)) nt.2.1 ?_
        refine z_bipush (v := 6) dX9_isLong_56 (by decide) ?_
        refine z_iadd dX9_isLong_58 ?_
        refine z_eqi (nI_add p 6) ?_
        refine y_callV (as := [_]) CX9_byteAt LX9_99 IX9_byteAt VX9_byteAt ⟨rfl, Nat.le_of_ble_eq_true rfl⟩ dX9_isLong_59 hm.o rfl (Nat.le_of_ble_eq_true rfl) (Nat.le_of_ble_eq_true rfl) (by omega) (r_byteAt (d := 0) (k := p + 6) hr ht (by omega)) rok_i ⟨Nat.le_refl _, Nat.le_refl _, hN, hS⟩ ?_
        refine z_eqi (show _ = nI (TPs s (p + 6)) from if_pos (by omega)) ?_
        refine y_callS (as := [_, _, _]) CX9_w3 LX9_132 SX9_w3 dX9_isLong_62 rfl (Nat.le_of_ble_eq_true rfl) (Nat.le_of_ble_eq_true rfl) (by omega) (r_w3 (d := 2) (bb _ (by omega)) (bb _ (by omega)) (bb _ (by omega)) (by omega)) rok_l ⟨Nat.le_refl _, Nat.le_refl _, hN, hS⟩ ?_
        refine z_goto dX9_isLong_65 rfl ?_
        refine z_lstore dX9_isLong_113 (Nat.le_of_ble_eq_true rfl) ?_
        refine z_aload_n dX9_isLong_115 rfl rfl ?_
        refine z_aload_n dX9_isLong_116 rfl rfl ?_
        refine y_getI FX9_103 dX9_isLong_117 (Or.inl rfl) hm.o ?_
        refine z_eqi (y := nI (p)) nt.2.1 ?_
        refine y_callV (as := [_]) CX9_byteAt LX9_99 IX9_byteAt VX9_byteAt ⟨rfl, Nat.le_of_ble_eq_true rfl⟩ dX9_isLong_120 hm.o rfl (Nat.le_of_ble_eq_true rfl) (Nat.le_of_ble_eq_true rfl) (by omega) (r_byteAt (d := 0) (k := p) hr ht (by omega)) rok_i ⟨Nat.le_refl _, Nat.le_refl _, hN, hS⟩ ?_
        refine z_eqi (show _ = nI (TPs s p) from if_pos (by omega)) ?_
        refine z_aload_n dX9_isLong_123 rfl rfl ?_
        refine z_aload_n dX9_isLong_124 rfl rfl ?_
        refine y_getI FX9_103 dX9_isLong_125 (Or.inl rfl) hm.o ?_
        refine z_eqi (y := nI (p)) nt.2.1 ?_
        refine z_iconst (v := 1) dX9_isLong_128 (by decide) ?_
        refine z_iadd dX9_isLong_129 ?_
        refine z_eqi (nI_add p 1) ?_
        refine y_callV (as := [_]) CX9_byteAt LX9_99 IX9_byteAt VX9_byteAt ⟨rfl, Nat.le_of_ble_eq_true rfl⟩ dX9_isLong_130 hm.o rfl (Nat.le_of_ble_eq_true rfl) (Nat.le_of_ble_eq_true rfl) (by omega) (r_byteAt (d := 0) (k := p + 1) hr ht (by omega)) rok_i ⟨Nat.le_refl _, Nat.le_refl _, hN, hS⟩ ?_
        refine z_eqi (show _ = nI (TPs s (p + 1)) from if_pos (by omega)) ?_
        refine z_aload_n dX9_isLong_133 rfl rfl ?_
        refine z_aload_n dX9_isLong_134 rfl rfl ?_
        refine y_getI FX9_103 dX9_isLong_135 (Or.inl rfl) hm.o ?_
        refine z_eqi (y := nI (p)) nt.2.1 ?_
        refine z_iconst (v := 2) dX9_isLong_138 (by decide) ?_
        refine z_iadd dX9_isLong_139 ?_
        refine z_eqi (nI_add p 2) ?_
        refine y_callV (as := [_]) CX9_byteAt LX9_99 IX9_byteAt VX9_byteAt ⟨rfl, Nat.le_of_ble_eq_true rfl⟩ dX9_isLong_140 hm.o rfl (Nat.le_of_ble_eq_true rfl) (Nat.le_of_ble_eq_true rfl) (by omega) (r_byteAt (d := 0) (k := p + 2) hr ht (by omega)) rok_i ⟨Nat.le_refl _, Nat.le_refl _, hN, hS⟩ ?_
        refine z_eqi (show _ = nI (TPs s (p + 2)) from if_pos (by omega)) ?_
        refine z_aload_n dX9_isLong_143 rfl rfl ?_
        refine z_aload_n dX9_isLong_144 rfl rfl ?_
        refine y_getI FX9_103 dX9_isLong_145 (Or.inl rfl) hm.o ?_
        refine z_eqi (y := nI (p)) nt.2.1 ?_
        refine z_iconst (v := 3) dX9_isLong_148 (by decide) ?_
        refine z_iadd dX9_isLong_149 ?_
        refine z_eqi (nI_add p 3) ?_
        refine y_callV (as := [_]) CX9_byteAt LX9_99 IX9_byteAt VX9_byteAt ⟨rfl, Nat.le_of_ble_eq_true rfl⟩ dX9_isLong_150 hm.o rfl (Nat.le_of_ble_eq_true rfl) (Nat.le_of_ble_eq_true rfl) (by omega) (r_byteAt (d := 0) (k := p + 3) hr ht (by omega)) rok_i ⟨Nat.le_refl _, Nat.le_refl _, hN, hS⟩ ?_
        refine z_eqi (show _ = nI (TPs s (p + 3)) from if_pos (by omega)) ?_
        refine y_callS (as := [_, _, _, _]) CX9_w4 LX9_136 SX9_w4 dX9_isLong_153 rfl (Nat.le_of_ble_eq_true rfl) (Nat.le_of_ble_eq_true rfl) (by omega) (r_w4 (d := 2) (bb _ (by omega)) (bb _ (by omega)) (bb _ (by omega)) (bb _ (by omega)) (by omega)) rok_l ⟨Nat.le_refl _, Nat.le_refl _, hN, hS⟩ ?_
        refine z_lload_n dX9_isLong_156 rfl rfl ?_
        refine z_lcmp dX9_isLong_157 ?_
        refine z_if_ne dX9_isLong_158 rfl (fun _ => ?_) (fun c => absurd c (q1))
        refine z_iconst (v := 0) dX9_isLong_172 (by decide) ?_
        refine z_iret dX9_isLong_173 ?_
        exact hQ
    · rw [bI_f (fun c => h7 c.2.1)] at hQ
      refine z_aload_n dX9_isLong_0 rfl rfl ?_
      refine y_getI FX9_106 dX9_isLong_1 (Or.inl rfl) hm.o ?_
      refine z_eqi (y := nI (rtk (TPs s) (TNs s) p)) nt.2.2.1 ?_
      refine z_iconst (v := 2) dX9_isLong_4 (by decide) ?_
      refine z_icmp_ne dX9_isLong_5 rfl (fun c => absurd (congrArg nI h2) c) (fun _ => ?_)
      refine z_aload_n dX9_isLong_8 rfl rfl ?_
      refine y_getI FX9_96 dX9_isLong_9 (Or.inl rfl) hm.o ?_
      refine z_eqi (y := nI (tkE (TPs s) (TNs s) p)) nt.1 ?_
      refine z_aload_n dX9_isLong_12 rfl rfl ?_
      refine y_getI FX9_103 dX9_isLong_13 (Or.inl rfl) hm.o ?_
      refine z_eqi (y := nI (p)) nt.2.1 ?_
      refine z_isub dX9_isLong_16 ?_
      refine z_eqi (show _ = nI (tkE (TPs s) (TNs s) p - p) from pk_sub eb.2.1) ?_
      refine z_iload dX9_isLong_17 rfl ?_
      refine z_icmp_eq dX9_isLong_19 rfl (fun c => absurd c (fun q => h7 ((nI_eq (b := 7) (by omega) (by omega)).mp q))) (fun _ => ?_)
      refine z_iconst (v := 0) dX9_isLong_22 (by decide) ?_
      refine z_iret dX9_isLong_23 ?_
      exact hQ
  · rw [bI_f (fun c => h2 c.1)] at hQ
    refine z_aload_n dX9_isLong_0 rfl rfl ?_
    refine y_getI FX9_106 dX9_isLong_1 (Or.inl rfl) hm.o ?_
    refine z_eqi (y := nI (rtk (TPs s) (TNs s) p)) nt.2.2.1 ?_
    refine z_iconst (v := 2) dX9_isLong_4 (by decide) ?_
    refine z_icmp_ne dX9_isLong_5 rfl (fun _ => ?_) (fun c => absurd c (fun q => h2 ((nI_eq (b := 2) (by omega) (by omega)).mp q)))
    refine z_iconst (v := 0) dX9_isLong_22 (by decide) ?_
    refine z_iret dX9_isLong_23 ?_
    exact hQ

theorem r_isLong8 {s : Ms} {h : Hp} {d p : Nat} (hr : RM s h) (ht : ITp s) (nt : NTK s p h) (hp : p ≤ TNs s) {w0 w1 w2 w3 w4 w5 w6 w7 : Nat} (hw0 : w0 < 256) (hw1 : w1 < 256) (hw2 : w2 < 256) (hw3 : w3 < 256) (hw4 : w4 < 256) (hw5 : w5 < 256) (hw6 : w6 < 256) (hw7 : w7 < 256) (hd : 3 ≤ d) : Sp d mX9_isLong [.ref 488, .long (lN (((w0 * 256 + w1) * 256 + w2) * 256 + w3)), .long (lN (((w4 * 256 + w5) * 256 + w6) * 256 + w7)), .int (nI 8)] h (some (.int (bI (rtk (TPs s) (TNs s) p = 2 ∧ tkE (TPs s) (TNs s) p - p = 8 ∧ (((TPs s p * 256 + TPs s (p + 1)) * 256 + TPs s (p + 2)) * 256 + TPs s (p + 3)) = (((w0 * 256 + w1) * 256 + w2) * 256 + w3) ∧ (((TPs s (p + 4) * 256 + TPs s (p + 5)) * 256 + TPs s (p + 6)) * 256 + TPs s (p + 7)) = (((w4 * 256 + w5) * 256 + w6) * 256 + w7))))) h := by
  have hm := hr.m
  have n3 : TNs s ≤ 300 := ht.1
  have bb : ∀ k, k < TNs s → TPs s k < 256 := fun k hk => ht.2 k (by omega)
  have rl := rtk_lt (tp := (TPs s)) (n := (TNs s)) (p := p) (bb p)
  have eb := tkE_b (tp := (TPs s)) hp
  intro N S Q hN hS hQ
  by_cases h2 : rtk (TPs s) (TNs s) p = 2
  · by_cases h7 : tkE (TPs s) (TNs s) p - p = 8
    · have c0 : TPs s p < 256 ∧ TPs s (p + 1) < 256 ∧ TPs s (p + 2) < 256 ∧ TPs s (p + 3) < 256 ∧ TPs s (p + 4) < 256 ∧ TPs s (p + 5) < 256 ∧ TPs s (p + 6) < 256 ∧ TPs s (p + 7) < 256 := ⟨bb _ (by omega), bb _ (by omega), bb _ (by omega), bb _ (by omega), bb _ (by omega), bb _ (by omega), bb _ (by omega), bb _ (by omega)⟩
      by_cases a1 : (((TPs s p * 256 + TPs s (p + 1)) * 256 + TPs s (p + 2)) * 256 + TPs s (p + 3)) = (((w0 * 256 + w1) * 256 + w2) * 256 + w3)
      · have q1 : lg_cmp (lN (((TPs s p * 256 + TPs s (p + 1)) * 256 + TPs s (p + 2)) * 256 + TPs s (p + 3))) (lN (((w0 * 256 + w1) * 256 + w2) * 256 + w3)) = 0 := (lg_cmp_eq _ _).mpr (congrArg lN a1)
        by_cases a2 : (((TPs s (p + 4) * 256 + TPs s (p + 5)) * 256 + TPs s (p + 6)) * 256 + TPs s (p + 7)) = (((w4 * 256 + w5) * 256 + w6) * 256 + w7)
        · rw [bI_t ⟨h2, h7, a1, a2⟩] at hQ
          have q2 : lg_cmp (lN (((TPs s (p + 4) * 256 + TPs s (p + 5)) * 256 + TPs s (p + 6)) * 256 + TPs s (p + 7))) (lN (((w4 * 256 + w5) * 256 + w6) * 256 + w7)) = 0 := (lg_cmp_eq _ _).mpr (congrArg lN a2)
          refine z_aload_n dX9_isLong_0 rfl rfl ?_
          refine y_getI FX9_106 dX9_isLong_1 (Or.inl rfl) hm.o ?_
          refine z_eqi (y := nI (rtk (TPs s) (TNs s) p)) nt.2.2.1 ?_
          refine z_iconst (v := 2) dX9_isLong_4 (by decide) ?_
          refine z_icmp_ne dX9_isLong_5 rfl (fun c => absurd (congrArg nI h2) c) (fun _ => ?_)
          refine z_aload_n dX9_isLong_8 rfl rfl ?_
          refine y_getI FX9_96 dX9_isLong_9 (Or.inl rfl) hm.o ?_
          refine z_eqi (y := nI (tkE (TPs s) (TNs s) p)) nt.1 ?_
          refine z_aload_n dX9_isLong_12 rfl rfl ?_
          refine y_getI FX9_103 dX9_isLong_13 (Or.inl rfl) hm.o ?_
          refine z_eqi (y := nI (p)) nt.2.1 ?_
          refine z_isub dX9_isLong_16 ?_
          refine z_eqi (show _ = nI (tkE (TPs s) (TNs s) p - p) from pk_sub eb.2.1) ?_
          refine z_iload dX9_isLong_17 rfl ?_
          refine z_icmp_eq dX9_isLong_19 rfl (fun _ => ?_) (fun c => absurd (congrArg nI h7) c)
          refine z_iload dX9_isLong_24 rfl ?_
          refine z_bipush (v := 7) dX9_isLong_26 (by decide) ?_
          refine z_icmp_ne dX9_isLong_28 rfl (fun _ => ?_) (fun c => absurd c (by decide))
          refine z_aload_n dX9_isLong_68 rfl rfl ?_
          refine z_aload_n dX9_isLong_69 rfl rfl ?_
          refine y_getI FX9_103 dX9_isLong_70 (Or.inl rfl) hm.o ?_
          refine z_eqi (y := nI (p)) nt.2.1 ?_
          refine z_iconst (v := 4) dX9_isLong_73 (by decide) ?_
          refine z_iadd dX9_isLong_74 ?_
          refine z_eqi (nI_add p 4) ?_
          refine y_callV (as := [_]) CX9_byteAt LX9_99 IX9_byteAt VX9_byteAt ⟨rfl, Nat.le_of_ble_eq_true rfl⟩ dX9_isLong_75 hm.o rfl (Nat.le_of_ble_eq_true rfl) (Nat.le_of_ble_eq_true rfl) (by omega) (r_byteAt (d := 0) (k := p + 4) hr ht (by omega)) rok_i ⟨Nat.le_refl _, Nat.le_refl _, hN, hS⟩ ?_
          refine z_eqi (show _ = nI (TPs s (p + 4)) from if_pos (by omega)) ?_
          refine z_aload_n dX9_isLong_78 rfl rfl ?_
          refine z_aload_n dX9_isLong_79 rfl rfl ?_
          refine y_getI FX9_103 dX9_isLong_80 (Or.inl rfl) hm.o ?_
          refine z_eqi (y := nI (p)) nt.2.1 ?_
          refine z_iconst (v := 5) dX9_isLong_83 (by decide) ?_
          refine z_iadd dX9_isLong_84 ?_
          refine z_eqi (nI_add p 5) ?_
          refine y_callV (as := [_]) CX9_byteAt LX9_99 IX9_byteAt VX9_byteAt ⟨rfl, Nat.le_of_ble_eq_true rfl⟩ dX9_isLong_85 hm.o rfl (Nat.le_of_ble_eq_true rfl) (Nat.le_of_ble_eq_true rfl) (by omega) (r_byteAt (d := 0) (k := p + 5) hr ht (by omega)) rok_i ⟨Nat.le_refl _, Nat.le_refl _, hN, hS⟩ ?_
          refine z_eqi (show _ = nI (TPs s (p + 5)) from if_pos (by omega)) ?_
          refine z_aload_n dX9_isLong_88 rfl rfl ?_
          refine z_aload_n dX9_isLong_89 rfl rfl ?_
          refine y_getI FX9_103 dX9_isLong_90 (Or.inl rfl) hm.o ?_
          refine z_eqi (y := nI (p)) nt.2.1 ?_
          refine z_bipush (v := 6) dX9_isLong_93 (by decide) ?_
          refine z_iadd dX9_isLong_95 ?_
          refine z_eqi (nI_add p 6) ?_
          refine y_callV (as := [_]) CX9_byteAt LX9_99 IX9_byteAt VX9_byteAt ⟨rfl, Nat.le_of_ble_eq_true rfl⟩ dX9_isLong_96 hm.o rfl (Nat.le_of_ble_eq_true rfl) (Nat.le_of_ble_eq_true rfl) (by omega) (r_byteAt (d := 0) (k := p + 6) hr ht (by omega)) rok_i ⟨Nat.le_refl _, Nat.le_refl _, hN, hS⟩ ?_
          refine z_eqi (show _ = nI (TPs s (p + 6)) from if_pos (by omega)) ?_
          refine z_aload_n dX9_isLong_99 rfl rfl ?_
          refine z_aload_n dX9_isLong_100 rfl rfl ?_
          refine y_getI FX9_103 dX9_isLong_101 (Or.inl rfl) hm.o ?_
          refine z_eqi (y := nI (p)) nt.2.1 ?_
          refine z_bipush (v := 7) dX9_isLong_104 (by decide) ?_
          refine z_iadd dX9_isLong_106 ?_
          refine z_eqi (nI_add p 7) ?_
          refine y_callV (as := [_]) CX9_byteAt LX9_99 IX9_byteAt VX9_byteAt ⟨rfl, Nat.le_of_ble_eq_true rfl⟩ dX9_isLong_107 hm.o rfl (Nat.le_of_ble_eq_true rfl) (Nat.le_of_ble_eq_true rfl) (by omega) (r_byteAt (d := 0) (k := p + 7) hr ht (by omega)) rok_i ⟨Nat.le_refl _, Nat.le_refl _, hN, hS⟩ ?_
          refine z_eqi (show _ = nI (TPs s (p + 7)) from if_pos (by omega)) ?_
          refine y_callS (as := [_, _, _, _]) CX9_w4 LX9_136 SX9_w4 dX9_isLong_110 rfl (Nat.le_of_ble_eq_true rfl) (Nat.le_of_ble_eq_true rfl) (by omega) (r_w4 (d := 2) (bb _ (by omega)) (bb _ (by omega)) (bb _ (by omega)) (bb _ (by omega)) (by omega)) rok_l ⟨Nat.le_refl _, Nat.le_refl _, hN, hS⟩ ?_
          refine z_lstore dX9_isLong_113 (Nat.le_of_ble_eq_true rfl) ?_
          refine z_aload_n dX9_isLong_115 rfl rfl ?_
          refine z_aload_n dX9_isLong_116 rfl rfl ?_
          refine y_getI FX9_103 dX9_isLong_117 (Or.inl rfl) hm.o ?_
          refine z_eqi (y := nI (p)) nt.2.1 ?_
          refine y_callV (as := [_]) CX9_byteAt LX9_99 IX9_byteAt VX9_byteAt ⟨rfl, Nat.le_of_ble_eq_true rfl⟩ dX9_isLong_120 hm.o rfl (Nat.le_of_ble_eq_true rfl) (Nat.le_of_ble_eq_true rfl) (by omega) (r_byteAt (d := 0) (k := p) hr ht (by omega)) rok_i ⟨Nat.le_refl _, Nat.le_refl _, hN, hS⟩ ?_
          refine z_eqi (show _ = nI (TPs s p) from if_pos (by omega)) ?_
          refine z_aload_n dX9_isLong_123 rfl rfl ?_
          refine z_aload_n dX9_isLong_124 rfl rfl ?_
          refine y_getI FX9_103 dX9_isLong_125 (Or.inl rfl) hm.o ?_
          refine z_eqi (y := nI (p)) nt.2.1 ?_
          refine z_iconst (v := 1) dX9_isLong_128 (by decide) ?_
          refine z_iadd dX9_isLong_129 ?_
          refine z_eqi (nI_add p 1) ?_
          refine y_callV (as := [_]) CX9_byteAt LX9_99 IX9_byteAt VX9_byteAt ⟨rfl, Nat.le_of_ble_eq_true rfl⟩ dX9_isLong_130 hm.o rfl (Nat.le_of_ble_eq_true rfl) (Nat.le_of_ble_eq_true rfl) (by omega) (r_byteAt (d := 0) (k := p + 1) hr ht (by omega)) rok_i ⟨Nat.le_refl _, Nat.le_refl _, hN, hS⟩ ?_
          refine z_eqi (show _ = nI (TPs s (p + 1)) from if_pos (by omega)) ?_
          refine z_aload_n dX9_isLong_133 rfl rfl ?_
          refine z_aload_n dX9_isLong_134 rfl rfl ?_
          refine y_getI FX9_103 dX9_isLong_135 (Or.inl rfl) hm.o ?_
          refine z_eqi (y := nI (p)) nt.2.1 ?_
          refine z_iconst (v := 2) dX9_isLong_138 (by decide) ?_
          refine z_iadd dX9_isLong_139 ?_
          refine z_eqi (nI_add p 2) ?_
          refine y_callV (as := [_]) CX9_byteAt LX9_99 IX9_byteAt VX9_byteAt ⟨rfl, Nat.le_of_ble_eq_true rfl⟩ dX9_isLong_140 hm.o rfl (Nat.le_of_ble_eq_true rfl) (Nat.le_of_ble_eq_true rfl) (by omega) (r_byteAt (d := 0) (k := p + 2) hr ht (by omega)) rok_i ⟨Nat.le_refl _, Nat.le_refl _, hN, hS⟩ ?_
          refine z_eqi (show _ = nI (TPs s (p + 2)) from if_pos (by omega)) ?_
          refine z_aload_n dX9_isLong_143 rfl rfl ?_
          refine z_aload_n dX9_isLong_144 rfl rfl ?_
          refine y_getI FX9_103 dX9_isLong_145 (Or.inl rfl) hm.o ?_
          refine z_eqi (y := nI (p)) nt.2.1 ?_
          refine z_iconst (v := 3) dX9_isLong_148 (by decide) ?_
          refine z_iadd dX9_isLong_149 ?_
          refine z_eqi (nI_add p 3) ?_
          refine y_callV (as := [_]) CX9_byteAt LX9_99 IX9_byteAt VX9_byteAt ⟨rfl, Nat.le_of_ble_eq_true rfl⟩ dX9_isLong_150 hm.o rfl (Nat.le_of_ble_eq_true rfl) (Nat.le_of_ble_eq_true rfl) (by omega) (r_byteAt (d := 0) (k := p + 3) hr ht (by omega)) rok_i ⟨Nat.le_refl _, Nat.le_refl _, hN, hS⟩ ?_
          refine z_eqi (show _ = nI (TPs s (p + 3)) from if_pos (by omega)) ?_
          refine y_callS (as := [_, _, _, _]) CX9_w4 LX9_136 SX9_w4 dX9_isLong_153 rfl (Nat.le_of_ble_eq_true rfl) (Nat.le_of_ble_eq_true rfl) (by omega) (r_w4 (d := 2) (bb _ (by omega)) (bb _ (by omega)) (bb _ (by omega)) (bb _ (by omega)) (by omega)) rok_l ⟨Nat.le_refl _, Nat.le_refl _, hN, hS⟩ ?_
          refine z_lload_n dX9_isLong_156 rfl rfl ?_
          refine z_lcmp dX9_isLong_157 ?_
          refine z_if_ne dX9_isLong_158 rfl (fun c => absurd (q1) c) (fun _ => ?_)
          refine z_lload dX9_isLong_161 rfl ?_
          refine z_lload_n dX9_isLong_163 rfl rfl ?_
          refine z_lcmp dX9_isLong_164 ?_
          refine z_if_ne dX9_isLong_165 rfl (fun c => absurd (q2) c) (fun _ => ?_)
          refine z_iconst (v := 1) dX9_isLong_168 (by decide) ?_
          refine z_goto dX9_isLong_169 rfl ?_
          refine z_iret dX9_isLong_173 ?_
          exact hQ
        · rw [bI_f (fun c => a2 c.2.2.2)] at hQ
          have q2 : ¬ lg_cmp (lN (((TPs s (p + 4) * 256 + TPs s (p + 5)) * 256 + TPs s (p + 6)) * 256 + TPs s (p + 7))) (lN (((w4 * 256 + w5) * 256 + w6) * 256 + w7)) = 0 := fun c => a2 (by
            have e := (lg_cmp_eq _ _).mp c
            rw [← iL_n, ← iL_n, iL_eq (lN_b (by omega)) (lN_b (by omega))] at e
            exact Int.ofNat_inj.mp e)
          refine z_aload_n dX9_isLong_0 rfl rfl ?_
          refine y_getI FX9_106 dX9_isLong_1 (Or.inl rfl) hm.o ?_
          refine z_eqi (y := nI (rtk (TPs s) (TNs s) p)) nt.2.2.1 ?_
          refine z_iconst (v := 2) dX9_isLong_4 (by decide) ?_
          refine z_icmp_ne dX9_isLong_5 rfl (fun c => absurd (congrArg nI h2) c) (fun _ => ?_)
          refine z_aload_n dX9_isLong_8 rfl rfl ?_
          refine y_getI FX9_96 dX9_isLong_9 (Or.inl rfl) hm.o ?_
          refine z_eqi (y := nI (tkE (TPs s) (TNs s) p)) nt.1 ?_
          refine z_aload_n dX9_isLong_12 rfl rfl ?_
          refine y_getI FX9_103 dX9_isLong_13 (Or.inl rfl) hm.o ?_
          refine z_eqi (y := nI (p)) nt.2.1 ?_
          refine z_isub dX9_isLong_16 ?_
          refine z_eqi (show _ = nI (tkE (TPs s) (TNs s) p - p) from pk_sub eb.2.1) ?_
          refine z_iload dX9_isLong_17 rfl ?_
          refine z_icmp_eq dX9_isLong_19 rfl (fun _ => ?_) (fun c => absurd (congrArg nI h7) c)
          refine z_iload dX9_isLong_24 rfl ?_
          refine z_bipush (v := 7) dX9_isLong_26 (by decide) ?_
          refine z_icmp_ne dX9_isLong_28 rfl (fun _ => ?_) (fun c => absurd c (by decide))
          refine z_aload_n dX9_isLong_68 rfl rfl ?_
          refine z_aload_n dX9_isLong_69 rfl rfl ?_
          refine y_getI FX9_103 dX9_isLong_70 (Or.inl rfl) hm.o ?_
          refine z_eqi (y := nI (p)) nt.2.1 ?_
          refine z_iconst (v := 4) dX9_isLong_73 (by decide) ?_
          refine z_iadd dX9_isLong_74 ?_
          refine z_eqi (nI_add p 4) ?_
          refine y_callV (as := [_]) CX9_byteAt LX9_99 IX9_byteAt VX9_byteAt ⟨rfl, Nat.le_of_ble_eq_true rfl⟩ dX9_isLong_75 hm.o rfl (Nat.le_of_ble_eq_true rfl) (Nat.le_of_ble_eq_true rfl) (by omega) (r_byteAt (d := 0) (k := p + 4) hr ht (by omega)) rok_i ⟨Nat.le_refl _, Nat.le_refl _, hN, hS⟩ ?_
          refine z_eqi (show _ = nI (TPs s (p + 4)) from if_pos (by omega)) ?_
          refine z_aload_n dX9_isLong_78 rfl rfl ?_
          refine z_aload_n dX9_isLong_79 rfl rfl ?_
          refine y_getI FX9_103 dX9_isLong_80 (Or.inl rfl) hm.o ?_
          refine z_eqi (y := nI (p)) nt.2.1 ?_
          refine z_iconst (v := 5) dX9_isLong_83 (by decide) ?_
          refine z_iadd dX9_isLong_84 ?_
          refine z_eqi (nI_add p 5) ?_
          refine y_callV (as := [_]) CX9_byteAt LX9_99 IX9_byteAt VX9_byteAt ⟨rfl, Nat.le_of_ble_eq_true rfl⟩ dX9_isLong_85 hm.o rfl (Nat.le_of_ble_eq_true rfl) (Nat.le_of_ble_eq_true rfl) (by omega) (r_byteAt (d := 0) (k := p + 5) hr ht (by omega)) rok_i ⟨Nat.le_refl _, Nat.le_refl _, hN, hS⟩ ?_
          refine z_eqi (show _ = nI (TPs s (p + 5)) from if_pos (by omega)) ?_
          refine z_aload_n dX9_isLong_88 rfl rfl ?_
          refine z_aload_n dX9_isLong_89 rfl rfl ?_
          refine y_getI FX9_103 dX9_isLong_90 (Or.inl rfl) hm.o ?_
          refine z_eqi (y := nI (p)) nt.2.1 ?_
          refine z_bipush (v := 6) dX9_isLong_93 (by decide) ?_
          refine z_iadd dX9_isLong_95 ?_
          refine z_eqi (nI_add p 6) ?_
          refine y_callV (as := [_]) CX9_byteAt LX9_99 IX9_byteAt VX9_byteAt ⟨rfl, Nat.le_of_ble_eq_true rfl⟩ dX9_isLong_96 hm.o rfl (Nat.le_of_ble_eq_true rfl) (Nat.le_of_ble_eq_true rfl) (by omega) (r_byteAt (d := 0) (k := p + 6) hr ht (by omega)) rok_i ⟨Nat.le_refl _, Nat.le_refl _, hN, hS⟩ ?_
          refine z_eqi (show _ = nI (TPs s (p + 6)) from if_pos (by omega)) ?_
          refine z_aload_n dX9_isLong_99 rfl rfl ?_
          refine z_aload_n dX9_isLong_100 rfl rfl ?_
          refine y_getI FX9_103 dX9_isLong_101 (Or.inl rfl) hm.o ?_
          refine z_eqi (y := nI (p)) nt.2.1 ?_
          refine z_bipush (v := 7) dX9_isLong_104 (by decide) ?_
          refine z_iadd dX9_isLong_106 ?_
          refine z_eqi (nI_add p 7) ?_
          refine y_callV (as := [_]) CX9_byteAt LX9_99 IX9_byteAt VX9_byteAt ⟨rfl, Nat.le_of_ble_eq_true rfl⟩ dX9_isLong_107 hm.o rfl (Nat.le_of_ble_eq_true rfl) (Nat.le_of_ble_eq_true rfl) (by omega) (r_byteAt (d := 0) (k := p + 7) hr ht (by omega)) rok_i ⟨Nat.le_refl _, Nat.le_refl _, hN, hS⟩ ?_
          refine z_eqi (show _ = nI (TPs s (p + 7)) from if_pos (by omega)) ?_
          refine y_callS (as := [_, _, _, _]) CX9_w4 LX9_136 SX9_w4 dX9_isLong_110 rfl (Nat.le_of_ble_eq_true rfl) (Nat.le_of_ble_eq_true rfl) (by omega) (r_w4 (d := 2) (bb _ (by omega)) (bb _ (by omega)) (bb _ (by omega)) (bb _ (by omega)) (by omega)) rok_l ⟨Nat.le_refl _, Nat.le_refl _, hN, hS⟩ ?_
          refine z_lstore dX9_isLong_113 (Nat.le_of_ble_eq_true rfl) ?_
          refine z_aload_n dX9_isLong_115 rfl rfl ?_
          refine z_aload_n dX9_isLong_116 rfl rfl ?_
          refine y_getI FX9_103 dX9_isLong_117 (Or.inl rfl) hm.o ?_
          refine z_eqi (y := nI (p)) nt.2.1 ?_
          refine y_callV (as := [_]) CX9_byteAt LX9_99 IX9_byteAt VX9_byteAt ⟨rfl, Nat.le_of_ble_eq_true rfl⟩ dX9_isLong_120 hm.o rfl (Nat.le_of_ble_eq_true rfl) (Nat.le_of_ble_eq_true rfl) (by omega) (r_byteAt (d := 0) (k := p) hr ht (by omega)) rok_i ⟨Nat.le_refl _, Nat.le_refl _, hN, hS⟩ ?_
          refine z_eqi (show _ = nI (TPs s p) from if_pos (by omega)) ?_
          refine z_aload_n dX9_isLong_123 rfl rfl ?_
          refine z_aload_n dX9_isLong_124 rfl rfl ?_
          refine y_getI FX9_103 dX9_isLong_125 (Or.inl rfl) hm.o ?_
          refine z_eqi (y := nI (p)) nt.2.1 ?_
          refine z_iconst (v := 1) dX9_isLong_128 (by decide) ?_
          refine z_iadd dX9_isLong_129 ?_
          refine z_eqi (nI_add p 1) ?_
          refine y_callV (as := [_]) CX9_byteAt LX9_99 IX9_byteAt VX9_byteAt ⟨rfl, Nat.le_of_ble_eq_true rfl⟩ dX9_isLong_130 hm.o rfl (Nat.le_of_ble_eq_true rfl) (Nat.le_of_ble_eq_true rfl) (by omega) (r_byteAt (d := 0) (k := p + 1) hr ht (by omega)) rok_i ⟨Nat.le_refl _, Nat.le_refl _, hN, hS⟩ ?_
          refine z_eqi (show _ = nI (TPs s (p + 1)) from if_pos (by omega)) ?_
          refine z_aload_n dX9_isLong_133 rfl rfl ?_
          refine z_aload_n dX9_isLong_134 rfl rfl ?_
          refine y_getI FX9_103 dX9_isLong_135 (Or.inl rfl) hm.o ?_
          refine z_eqi (y := nI (p)) nt.2.1 ?_
          refine z_iconst (v := 2) dX9_isLong_138 (by decide) ?_
          refine z_iadd dX9_isLong_139 ?_
          refine z_eqi (nI_add p 2) ?_
          refine y_callV (as := [_]) CX9_byteAt LX9_99 IX9_byteAt VX9_byteAt ⟨rfl, Nat.le_of_ble_eq_true rfl⟩ dX9_isLong_140 hm.o rfl (Nat.le_of_ble_eq_true rfl) (Nat.le_of_ble_eq_true rfl) (by omega) (r_byteAt (d := 0) (k := p + 2) hr ht (by omega)) rok_i ⟨Nat.le_refl _, Nat.le_refl _, hN, hS⟩ ?_
          refine z_eqi (show _ = nI (TPs s (p + 2)) from if_pos (by omega)) ?_
          refine z_aload_n dX9_isLong_143 rfl rfl ?_
          refine z_aload_n dX9_isLong_144 rfl rfl ?_
          refine y_getI FX9_103 dX9_isLong_145 (Or.inl rfl) hm.o ?_
          refine z_eqi (y := nI (p)) nt.2.1 ?_
          refine z_iconst (v := 3) dX9_isLong_148 (by decide) ?_
          refine z_iadd dX9_isLong_149 ?_
          refine z_eqi (nI_add p 3) ?_
          refine y_callV (as := [_]) CX9_byteAt LX9_99 IX9_byteAt VX9_byteAt ⟨rfl, Nat.le_of_ble_eq_true rfl⟩ dX9_isLong_150 hm.o rfl (Nat.le_of_ble_eq_true rfl) (Nat.le_of_ble_eq_true rfl) (by omega) (r_byteAt (d := 0) (k := p + 3) hr ht (by omega)) rok_i ⟨Nat.le_refl _, Nat.le_refl _, hN, hS⟩ ?_
          refine z_eqi (show _ = nI (TPs s (p + 3)) from if_pos (by omega)) ?_
          refine y_callS (as := [_, _, _, _]) CX9_w4 LX9_136 SX9_w4 dX9_isLong_153 rfl (Nat.le_of_ble_eq_true rfl) (Nat.le_of_ble_eq_true rfl) (by omega) (r_w4 (d := 2) (bb _ (by omega)) (bb _ (by omega)) (bb _ (by omega)) (bb _ (by omega)) (by omega)) rok_l ⟨Nat.le_refl _, Nat.le_refl _, hN, hS⟩ ?_
          refine z_lload_n dX9_isLong_156 rfl rfl ?_
          refine z_lcmp dX9_isLong_157 ?_
          refine z_if_ne dX9_isLong_158 rfl (fun c => absurd (q1) c) (fun _ => ?_)
          refine z_lload dX9_isLong_161 rfl ?_
          refine z_lload_n dX9_isLong_163 rfl rfl ?_
          refine z_lcmp dX9_isLong_164 ?_
          refine z_if_ne dX9_isLong_165 rfl (fun _ => ?_) (fun c => absurd c (q2))
          refine z_iconst (v := 0) dX9_isLong_172 (by decide) ?_
          refine z_iret dX9_isLong_173 ?_
          exact hQ
      · rw [bI_f (fun c => a1 c.2.2.1)] at hQ
        have q1 : ¬ lg_cmp (lN (((TPs s p * 256 + TPs s (p + 1)) * 256 + TPs s (p + 2)) * 256 + TPs s (p + 3))) (lN (((w0 * 256 + w1) * 256 + w2) * 256 + w3)) = 0 := fun c => a1 (by
          have e := (lg_cmp_eq _ _).mp c
          rw [← iL_n, ← iL_n, iL_eq (lN_b (by omega)) (lN_b (by omega))] at e
          exact Int.ofNat_inj.mp e)
        refine z_aload_n dX9_isLong_0 rfl rfl ?_
        refine y_getI FX9_106 dX9_isLong_1 (Or.inl rfl) hm.o ?_
        refine z_eqi (y := nI (rtk (TPs s) (TNs s) p)) nt.2.2.1 ?_
        refine z_iconst (v := 2) dX9_isLong_4 (by decide) ?_
        refine z_icmp_ne dX9_isLong_5 rfl (fun c => absurd (congrArg nI h2) c) (fun _ => ?_)
        refine z_aload_n dX9_isLong_8 rfl rfl ?_
        refine y_getI FX9_96 dX9_isLong_9 (Or.inl rfl) hm.o ?_
        refine z_eqi (y := nI (tkE (TPs s) (TNs s) p)) nt.1 ?_
        refine z_aload_n dX9_isLong_12 rfl rfl ?_
        refine y_getI FX9_103 dX9_isLong_13 (Or.inl rfl) hm.o ?_
        refine z_eqi (y := nI (p)) nt.2.1 ?_
        refine z_isub dX9_isLong_16 ?_
        refine z_eqi (show _ = nI (tkE (TPs s) (TNs s) p - p) from pk_sub eb.2.1) ?_
        refine z_iload dX9_isLong_17 rfl ?_
        refine z_icmp_eq dX9_isLong_19 rfl (fun _ => ?_) (fun c => absurd (congrArg nI h7) c)
        refine z_iload dX9_isLong_24 rfl ?_
        refine z_bipush (v := 7) dX9_isLong_26 (by decide) ?_
        refine z_icmp_ne dX9_isLong_28 rfl (fun _ => ?_) (fun c => absurd c (by decide))
        refine z_aload_n dX9_isLong_68 rfl rfl ?_
        refine z_aload_n dX9_isLong_69 rfl rfl ?_
        refine y_getI FX9_103 dX9_isLong_70 (Or.inl rfl) hm.o ?_
        refine z_eqi (y := nI (p)) nt.2.1 ?_
        refine z_iconst (v := 4) dX9_isLong_73 (by decide) ?_
        refine z_iadd dX9_isLong_74 ?_
        refine z_eqi (nI_add p 4) ?_
        refine y_callV (as := [_]) CX9_byteAt LX9_99 IX9_byteAt VX9_byteAt ⟨rfl, Nat.le_of_ble_eq_true rfl⟩ dX9_isLong_75 hm.o rfl (Nat.le_of_ble_eq_true rfl) (Nat.le_of_ble_eq_true rfl) (by omega) (r_byteAt (d := 0) (k := p + 4) hr ht (by omega)) rok_i ⟨Nat.le_refl _, Nat.le_refl _, hN, hS⟩ ?_
        refine z_eqi (show _ = nI (TPs s (p + 4)) from if_pos (by omega)) ?_
        refine z_aload_n dX9_isLong_78 rfl rfl ?_
        refine z_aload_n dX9_isLong_79 rfl rfl ?_
        refine y_getI FX9_103 dX9_isLong_80 (Or.inl rfl) hm.o ?_
        refine z_eqi (y := nI (p)) nt.2.1 ?_
        refine z_iconst (v := 5) dX9_isLong_83 (by decide) ?_
        refine z_iadd dX9_isLong_84 ?_
        refine z_eqi (nI_add p 5) ?_
        refine y_callV (as := [_]) CX9_byteAt LX9_99 IX9_byteAt VX9_byteAt ⟨rfl, Nat.le_of_ble_eq_true rfl⟩ dX9_isLong_85 hm.o rfl (Nat.le_of_ble_eq_true rfl) (Nat.le_of_ble_eq_true rfl) (by omega) (r_byteAt (d := 0) (k := p + 5) hr ht (by omega)) rok_i ⟨Nat.le_refl _, Nat.le_refl _, hN, hS⟩ ?_
        refine z_eqi (show _ = nI (TPs s (p + 5)) from if_pos (by omega)) ?_
        refine z_aload_n dX9_isLong_88 rfl rfl ?_
        refine z_aload_n dX9_isLong_89 rfl rfl ?_
        refine y_getI FX9_103 dX9_isLong_90 (Or.inl rfl) hm.o ?_
        refine z_eqi (y := nI (p)) nt.2.1 ?_
        refine z_bipush (v := 6) dX9_isLong_93 (by decide) ?_
        refine z_iadd dX9_isLong_95 ?_
        refine z_eqi (nI_add p 6) ?_
        refine y_callV (as := [_]) CX9_byteAt LX9_99 IX9_byteAt VX9_byteAt ⟨rfl, Nat.le_of_ble_eq_true rfl⟩ dX9_isLong_96 hm.o rfl (Nat.le_of_ble_eq_true rfl) (Nat.le_of_ble_eq_true rfl) (by omega) (r_byteAt (d := 0) (k := p + 6) hr ht (by omega)) rok_i ⟨Nat.le_refl _, Nat.le_refl _, hN, hS⟩ ?_
        refine z_eqi (show _ = nI (TPs s (p + 6)) from if_pos (by omega)) ?_
        refine z_aload_n dX9_isLong_99 rfl rfl ?_
        refine z_aload_n dX9_isLong_100 rfl rfl ?_
        refine y_getI FX9_103 dX9_isLong_101 (Or.inl rfl) hm.o ?_
        refine z_eqi (y := nI (p)) nt.2.1 ?_
        refine z_bipush (v := 7) dX9_isLong_104 (by decide) ?_
        refine z_iadd dX9_isLong_106 ?_
        refine z_eqi (nI_add p 7) ?_
        refine y_callV (as := [_]) CX9_byteAt LX9_99 IX9_byteAt VX9_byteAt ⟨rfl, Nat.le_of_ble_eq_true rfl⟩ dX9_isLong_107 hm.o rfl (Nat.le_of_ble_eq_true rfl) (Nat.le_of_ble_eq_true rfl) (by omega) (r_byteAt (d := 0) (k := p + 7) hr ht (by omega)) rok_i ⟨Nat.le_refl _, Nat.le_refl _, hN, hS⟩ ?_
        refine z_eqi (show _ = nI (TPs s (p + 7)) from if_pos (by omega)) ?_
        refine y_callS (as := [_, _, _, _]) CX9_w4 LX9_136 SX9_w4 dX9_isLong_110 rfl (Nat.le_of_ble_eq_true rfl) (Nat.le_of_ble_eq_true rfl) (by omega) (r_w4 (d := 2) (bb _ (by omega)) (bb _ (by omega)) (bb _ (by omega)) (bb _ (by omega)) (by omega)) rok_l ⟨Nat.le_refl _, Nat.le_refl _, hN, hS⟩ ?_
        refine z_lstore dX9_isLong_113 (Nat.le_of_ble_eq_true rfl) ?_
        refine z_aload_n dX9_isLong_115 rfl rfl ?_
        refine z_aload_n dX9_isLong_116 rfl rfl ?_
        refine y_getI FX9_103 dX9_isLong_117 (Or.inl rfl) hm.o ?_
        refine z_eqi (y := nI (p)) nt.2.1 ?_
        refine y_callV (as := [_]) CX9_byteAt LX9_99 IX9_byteAt VX9_byteAt ⟨rfl, Nat.le_of_ble_eq_true rfl⟩ dX9_isLong_120 hm.o rfl (Nat.le_of_ble_eq_true rfl) (Nat.le_of_ble_eq_true rfl) (by omega) (r_byteAt (d := 0) (k := p) hr ht (by omega)) rok_i ⟨Nat.le_refl _, Nat.le_refl _, hN, hS⟩ ?_
        refine z_eqi (show _ = nI (TPs s p) from if_pos (by omega)) ?_
        refine z_aload_n dX9_isLong_123 rfl rfl ?_
        refine z_aload_n dX9_isLong_124 rfl rfl ?_
        refine y_getI FX9_103 dX9_isLong_125 (Or.inl rfl) hm.o ?_
        refine z_eqi (y := nI (p)) nt.2.1 ?_
        refine z_iconst (v := 1) dX9_isLong_128 (by decide) ?_
        refine z_iadd dX9_isLong_129 ?_
        refine z_eqi (nI_add p 1) ?_
        refine y_callV (as := [_]) CX9_byteAt LX9_99 IX9_byteAt VX9_byteAt ⟨rfl, Nat.le_of_ble_eq_true rfl⟩ dX9_isLong_130 hm.o rfl (Nat.le_of_ble_eq_true rfl) (Nat.le_of_ble_eq_true rfl) (by omega) (r_byteAt (d := 0) (k := p + 1) hr ht (by omega)) rok_i ⟨Nat.le_refl _, Nat.le_refl _, hN, hS⟩ ?_
        refine z_eqi (show _ = nI (TPs s (p + 1)) from if_pos (by omega)) ?_
        refine z_aload_n dX9_isLong_133 rfl rfl ?_
        refine z_aload_n dX9_isLong_134 rfl rfl ?_
        refine y_getI FX9_103 dX9_isLong_135 (Or.inl rfl) hm.o ?_
        refine z_eqi (y := nI (p)) nt.2.1 ?_
        refine z_iconst (v := 2) dX9_isLong_138 (by decide) ?_
        refine z_iadd dX9_isLong_139 ?_
        refine z_eqi (nI_add p 2) ?_
        refine y_callV (as := [_]) CX9_byteAt LX9_99 IX9_byteAt VX9_byteAt ⟨rfl, Nat.le_of_ble_eq_true rfl⟩ dX9_isLong_140 hm.o rfl (Nat.le_of_ble_eq_true rfl) (Nat.le_of_ble_eq_true rfl) (by omega) (r_byteAt (d := 0) (k := p + 2) hr ht (by omega)) rok_i ⟨Nat.le_refl _, Nat.le_refl _, hN, hS⟩ ?_
        refine z_eqi (show _ = nI (TPs s (p + 2)) from if_pos (by omega)) ?_
        refine z_aload_n dX9_isLong_143 rfl rfl ?_
        refine z_aload_n dX9_isLong_144 rfl rfl ?_
        refine y_getI FX9_103 dX9_isLong_145 (Or.inl rfl) hm.o ?_
        refine z_eqi (y := nI (p)) nt.2.1 ?_
        refine z_iconst (v := 3) dX9_isLong_148 (by decide) ?_
        refine z_iadd dX9_isLong_149 ?_
        refine z_eqi (nI_add p 3) ?_
        refine y_callV (as := [_]) CX9_byteAt LX9_99 IX9_byteAt VX9_byteAt ⟨rfl, Nat.le_of_ble_eq_true rfl⟩ dX9_isLong_150 hm.o rfl (Nat.le_of_ble_eq_true rfl) (Nat.le_of_ble_eq_true rfl) (by omega) (r_byteAt (d := 0) (k := p + 3) hr ht (by omega)) rok_i ⟨Nat.le_refl _, Nat.le_refl _, hN, hS⟩ ?_
        refine z_eqi (show _ = nI (TPs s (p + 3)) from if_pos (by omega)) ?_
        refine y_callS (as := [_, _, _, _]) CX9_w4 LX9_136 SX9_w4 dX9_isLong_153 rfl (Nat.le_of_ble_eq_true rfl) (Nat.le_of_ble_eq_true rfl) (by omega) (r_w4 (d := 2) (bb _ (by omega)) (bb _ (by omega)) (bb _ (by omega)) (bb _ (by omega)) (by omega)) rok_l ⟨Nat.le_refl _, Nat.le_refl _, hN, hS⟩ ?_
        refine z_lload_n dX9_isLong_156 rfl rfl ?_
        refine z_lcmp dX9_isLong_157 ?_
        refine z_if_ne dX9_isLong_158 rfl (fun _ => ?_) (fun c => absurd c (q1))
        refine z_iconst (v := 0) dX9_isLong_172 (by decide) ?_
        refine z_iret dX9_isLong_173 ?_
        exact hQ
    · rw [bI_f (fun c => h7 c.2.1)] at hQ
      refine z_aload_n dX9_isLong_0 rfl rfl ?_
      refine y_getI FX9_106 dX9_isLong_1 (Or.inl rfl) hm.o ?_
      refine z_eqi (y := nI (rtk (TPs s) (TNs s) p)) nt.2.2.1 ?_
      refine z_iconst (v := 2) dX9_isLong_4 (by decide) ?_
      refine z_icmp_ne dX9_isLong_5 rfl (fun c => absurd (congrArg nI h2) c) (fun _ => ?_)
      refine z_aload_n dX9_isLong_8 rfl rfl ?_
      refine y_getI FX9_96 dX9_isLong_9 (Or.inl rfl) hm.o ?_
      refine z_eqi (y := nI (tkE (TPs s) (TNs s) p)) nt.1 ?_
      refine z_aload_n dX9_isLong_12 rfl rfl ?_
      refine y_getI FX9_103 dX9_isLong_13 (Or.inl rfl) hm.o ?_
      refine z_eqi (y := nI (p)) nt.2.1 ?_
      refine z_isub dX9_isLong_16 ?_
      refine z_eqi (show _ = nI (tkE (TPs s) (TNs s) p - p) from pk_sub eb.2.1) ?_
      refine z_iload dX9_isLong_17 rfl ?_
      refine z_icmp_eq dX9_isLong_19 rfl (fun c => absurd c (fun q => h7 ((nI_eq (b := 8) (by omega) (by omega)).mp q))) (fun _ => ?_)
      refine z_iconst (v := 0) dX9_isLong_22 (by decide) ?_
      refine z_iret dX9_isLong_23 ?_
      exact hQ
  · rw [bI_f (fun c => h2 c.1)] at hQ
    refine z_aload_n dX9_isLong_0 rfl rfl ?_
    refine y_getI FX9_106 dX9_isLong_1 (Or.inl rfl) hm.o ?_
    refine z_eqi (y := nI (rtk (TPs s) (TNs s) p)) nt.2.2.1 ?_
    refine z_iconst (v := 2) dX9_isLong_4 (by decide) ?_
    refine z_icmp_ne dX9_isLong_5 rfl (fun _ => ?_) (fun c => absurd c (fun q => h2 ((nI_eq (b := 2) (by omega) (by omega)).mp q)))
    refine z_iconst (v := 0) dX9_isLong_22 (by decide) ?_
    refine z_iret dX9_isLong_23 ?_
    exact hQ

theorem lg_5 {tp : Fl} {n p : Nat} (hb : p < n → tp p < 256) : (rtk tp n p = 2 ∧ tkE tp n p - p = 7 ∧ (((tp p * 256 + tp (p + 1)) * 256 + tp (p + 2)) * 256 + tp (p + 3)) = (((112 * 256 + 114) * 256 + 111) * 256 + 112) ∧ ((tp (p + 4) * 256 + tp (p + 5)) * 256 + tp (p + 6)) = ((104 * 256 + 101) * 256 + 116)) ↔ tkK tp n p = 5 := by
  rw [rtk_2 hb, tkK_w (by omega)]
  constructor
  · rintro ⟨⟨h1, h2⟩, h3, h4, h5⟩
    rw [tkE_w h1 h2] at h3
    have lb := let_b (tp := tp) (n := n) (p := p)
    rw [h3] at lb
    have b0 := lb 0 (by omega)
    have b1 := lb 1 (by omega)
    have b2 := lb 2 (by omega)
    have b3 := lb 3 (by omega)
    have b4 := lb 4 (by omega)
    have b5 := lb 5 (by omega)
    have b6 := lb 6 (by omega)
    refine ⟨h1, h2, (kdW_iff (k := 4) (W := [112, 114, 111, 112, 104, 101, 116]) rfl (by omega) (by decide)).mpr (mt_iff.mpr ⟨h3, fun j hj => ?_⟩)⟩
    have hj : j < 7 := hj
    rw [Nat.add_zero] at b0
    rcases (show j = 0 ∨ j = 1 ∨ j = 2 ∨ j = 3 ∨ j = 4 ∨ j = 5 ∨ j = 6 by omega) with rfl | rfl | rfl | rfl | rfl | rfl | rfl
    · show tp (p + 0) = 112
      rw [Nat.add_zero]
      omega
    · show tp (p + 1) = 114
      skip
      omega
    · show tp (p + 2) = 111
      skip
      omega
    · show tp (p + 3) = 112
      skip
      omega
    · show tp (p + 4) = 104
      skip
      omega
    · show tp (p + 5) = 101
      skip
      omega
    · show tp (p + 6) = 116
      skip
      omega
  · rintro ⟨h1, h2, h3⟩
    obtain ⟨m1, m2⟩ := mt_iff.mp ((kdW_iff (k := 4) (W := [112, 114, 111, 112, 104, 101, 116]) rfl (by omega) (by decide)).mp h3)
    have b0 : tp (p + 0) = 112 := m2 0 (by decide)
    have b1 : tp (p + 1) = 114 := m2 1 (by decide)
    have b2 : tp (p + 2) = 111 := m2 2 (by decide)
    have b3 : tp (p + 3) = 112 := m2 3 (by decide)
    have b4 : tp (p + 4) = 104 := m2 4 (by decide)
    have b5 : tp (p + 5) = 101 := m2 5 (by decide)
    have b6 : tp (p + 6) = 116 := m2 6 (by decide)
    rw [Nat.add_zero] at b0
    refine ⟨⟨h1, h2⟩, by rw [tkE_w h1 h2]; exact m1, ?_, ?_⟩
    · rw [b0, b1, b2, b3]
    · rw [b4, b5, b6]

theorem lg_6 {tp : Fl} {n p : Nat} (hb : p < n → tp p < 256) : (rtk tp n p = 2 ∧ tkE tp n p - p = 8 ∧ (((tp p * 256 + tp (p + 1)) * 256 + tp (p + 2)) * 256 + tp (p + 3)) = (((102 * 256 + 111) * 256 + 114) * 256 + 101) ∧ (((tp (p + 4) * 256 + tp (p + 5)) * 256 + tp (p + 6)) * 256 + tp (p + 7)) = (((116 * 256 + 101) * 256 + 108) * 256 + 108)) ↔ tkK tp n p = 6 := by
  rw [rtk_2 hb, tkK_w (by omega)]
  constructor
  · rintro ⟨⟨h1, h2⟩, h3, h4, h5⟩
    rw [tkE_w h1 h2] at h3
    have lb := let_b (tp := tp) (n := n) (p := p)
    rw [h3] at lb
    have b0 := lb 0 (by omega)
    have b1 := lb 1 (by omega)
    have b2 := lb 2 (by omega)
    have b3 := lb 3 (by omega)
    have b4 := lb 4 (by omega)
    have b5 := lb 5 (by omega)
    have b6 := lb 6 (by omega)
    have b7 := lb 7 (by omega)
    refine ⟨h1, h2, (kdW_iff (k := 5) (W := [102, 111, 114, 101, 116, 101, 108, 108]) rfl (by omega) (by decide)).mpr (mt_iff.mpr ⟨h3, fun j hj => ?_⟩)⟩
    have hj : j < 8 := hj
    rw [Nat.add_zero] at b0
    rcases (show j = 0 ∨ j = 1 ∨ j = 2 ∨ j = 3 ∨ j = 4 ∨ j = 5 ∨ j = 6 ∨ j = 7 by omega) with rfl | rfl | rfl | rfl | rfl | rfl | rfl | rfl
    · show tp (p + 0) = 102
      rw [Nat.add_zero]
      omega
    · show tp (p + 1) = 111
      skip
      omega
    · show tp (p + 2) = 114
      skip
      omega
    · show tp (p + 3) = 101
      skip
      omega
    · show tp (p + 4) = 116
      skip
      omega
    · show tp (p + 5) = 101
      skip
      omega
    · show tp (p + 6) = 108
      skip
      omega
    · show tp (p + 7) = 108
      skip
      omega
  · rintro ⟨h1, h2, h3⟩
    obtain ⟨m1, m2⟩ := mt_iff.mp ((kdW_iff (k := 5) (W := [102, 111, 114, 101, 116, 101, 108, 108]) rfl (by omega) (by decide)).mp h3)
    have b0 : tp (p + 0) = 102 := m2 0 (by decide)
    have b1 : tp (p + 1) = 111 := m2 1 (by decide)
    have b2 : tp (p + 2) = 114 := m2 2 (by decide)
    have b3 : tp (p + 3) = 101 := m2 3 (by decide)
    have b4 : tp (p + 4) = 116 := m2 4 (by decide)
    have b5 : tp (p + 5) = 101 := m2 5 (by decide)
    have b6 : tp (p + 6) = 108 := m2 6 (by decide)
    have b7 : tp (p + 7) = 108 := m2 7 (by decide)
    rw [Nat.add_zero] at b0
    refine ⟨⟨h1, h2⟩, by rw [tkE_w h1 h2]; exact m1, ?_, ?_⟩
    · rw [b0, b1, b2, b3]
    · rw [b4, b5, b6, b7]

theorem lg_20 {tp : Fl} {n p : Nat} (hb : p < n → tp p < 256) : (rtk tp n p = 2 ∧ tkE tp n p - p = 7 ∧ (((tp p * 256 + tp (p + 1)) * 256 + tp (p + 2)) * 256 + tp (p + 3)) = (((112 * 256 + 101) * 256 + 114) * 256 + 99) ∧ ((tp (p + 4) * 256 + tp (p + 5)) * 256 + tp (p + 6)) = ((101 * 256 + 110) * 256 + 116)) ↔ tkK tp n p = 20 := by
  rw [rtk_2 hb, tkK_w (by omega)]
  constructor
  · rintro ⟨⟨h1, h2⟩, h3, h4, h5⟩
    rw [tkE_w h1 h2] at h3
    have lb := let_b (tp := tp) (n := n) (p := p)
    rw [h3] at lb
    have b0 := lb 0 (by omega)
    have b1 := lb 1 (by omega)
    have b2 := lb 2 (by omega)
    have b3 := lb 3 (by omega)
    have b4 := lb 4 (by omega)
    have b5 := lb 5 (by omega)
    have b6 := lb 6 (by omega)
    refine ⟨h1, h2, (kdW_iff (k := 19) (W := [112, 101, 114, 99, 101, 110, 116]) rfl (by omega) (by decide)).mpr (mt_iff.mpr ⟨h3, fun j hj => ?_⟩)⟩
    have hj : j < 7 := hj
    rw [Nat.add_zero] at b0
    rcases (show j = 0 ∨ j = 1 ∨ j = 2 ∨ j = 3 ∨ j = 4 ∨ j = 5 ∨ j = 6 by omega) with rfl | rfl | rfl | rfl | rfl | rfl | rfl
    · show tp (p + 0) = 112
      rw [Nat.add_zero]
      omega
    · show tp (p + 1) = 101
      skip
      omega
    · show tp (p + 2) = 114
      skip
      omega
    · show tp (p + 3) = 99
      skip
      omega
    · show tp (p + 4) = 101
      skip
      omega
    · show tp (p + 5) = 110
      skip
      omega
    · show tp (p + 6) = 116
      skip
      omega
  · rintro ⟨h1, h2, h3⟩
    obtain ⟨m1, m2⟩ := mt_iff.mp ((kdW_iff (k := 19) (W := [112, 101, 114, 99, 101, 110, 116]) rfl (by omega) (by decide)).mp h3)
    have b0 : tp (p + 0) = 112 := m2 0 (by decide)
    have b1 : tp (p + 1) = 101 := m2 1 (by decide)
    have b2 : tp (p + 2) = 114 := m2 2 (by decide)
    have b3 : tp (p + 3) = 99 := m2 3 (by decide)
    have b4 : tp (p + 4) = 101 := m2 4 (by decide)
    have b5 : tp (p + 5) = 110 := m2 5 (by decide)
    have b6 : tp (p + 6) = 116 := m2 6 (by decide)
    rw [Nat.add_zero] at b0
    refine ⟨⟨h1, h2⟩, by rw [tkE_w h1 h2]; exact m1, ?_, ?_⟩
    · rw [b0, b1, b2, b3]
    · rw [b4, b5, b6]

