/-! the JDK's texts: length, charAt, indexOf (wip/whole/gena0.py) -/
section STRR
variable {d d' N S : Nat} {M M' : Mi} {pc : Nat} {lv : List (Option Value)} {st : List Value} {h h1 : Hp} {Q : Option Value → Hp → Prop} {i index n : Nat} {as : List Value} {r0 : Option Value}
theorem z_i2b {x : Int32} (hd : decode M.2.1 pc = .ok (.i2b, 1)) (k : T d N S M (pc + 1) lv (.int (x.toInt8.toInt32) :: st) h Q) : T d N S M pc lv (.int x :: st) h Q :=
  z_lift (fun E p l e R s m args below meth c H locs cells slots ls Z hC hl k => lv_i2b hC.1 hC.2.1 hd rfl k) k
theorem y_callT (hC' : CL M' n) (hL : LK M.1.cls index M') (hin : Cond.instanceMethod M'.1 ∈ TB) (hsel : Cond.selects M'.1.cls M'.1 M'.1 ∈ TB) (hcl : M'.1.cls = "java/lang/String") (hi : i < 2) (hd : decode M.2.1 pc = .ok (.invokevirtual index, 3)) (hn : as.length = n) (hla : (la (.ref (2 + i) :: as)).length ≤ M'.2.2.1) (hroom : (st.map fun v => v.category).sum ≤ 8) (hdd : d + 1 ≤ d') (hT : Sp d M' (.ref (2 + i) :: as) h r0 h) (hok : rok M'.2.2.2 r0) (hg : pn h ≤ N ∧ ps h ≤ S) (kk : T d' N S M (pc + 3) lv (r0.toList ++ st) h Q) : T d' N S M pc lv (as.reverse ++ .ref (2 + i) :: st) h Q :=
  z_callT hC' hL hin hsel hcl hi hd hn hla hroom hdd (hT _ _ _ (Nat.le_refl _) (Nat.le_refl _) ⟨rfl, rfl⟩) hok ⟨Nat.le_refl _, Nat.le_refl _, hg.1, hg.2⟩ kk
end STRR
def chW (i j : Nat) : Int32 := (sByt i).getD j 0
theorem ch_ok : ∀ i, i < 2 → ∀ j, j < sLen i → (((chW i j) &&& 255).toUInt32 % 65536).toInt32 = chW i j := by decide +kernel
theorem ch_nar : ∀ i, i < 2 → ∀ j, j < sLen i → (chW i j).toUInt32.toUInt16.toUInt32.toInt32 = chW i j := by decide +kernel
theorem rok_c {i j : Nat} (hi : i < 2) (hj : j < sLen i) : rok (some .char) (some (.int (chW i j))) := ⟨.char, rfl, congrArg Value.int (ch_nar i hi j hj)⟩
theorem sLen_le {i : Nat} : sLen i ≤ 170 := by
  match i with
  | 0 => exact Nat.le_refl _
  | 1 => exact Nat.le_of_ble_eq_true rfl
  | (k + 2) => exact Nat.zero_le _

theorem s_latin {h : Hp} {d i : Nat} (hi : i < 2) : Sp d mJ0_isLatin1_aae02 [.ref (2 + i)] h (some (.int 1)) h := by
  intro N S Q hN hS hQ
  refine z_compact Kst_J0_38 dJ0_isLatin1_aae02_0 ?_
  refine z_if_eq dJ0_isLatin1_aae02_3 rfl (fun c => absurd c (by decide)) (fun _ => ?_)
  refine z_aload_n dJ0_isLatin1_aae02_6 rfl rfl ?_
  refine z_strC hi Kst_J0_15 dJ0_isLatin1_aae02_7 ?_
  refine z_if_ne dJ0_isLatin1_aae02_10 rfl (fun c => absurd rfl c) (fun _ => ?_)
  refine z_iconst (v := 1) dJ0_isLatin1_aae02_13 (by decide) ?_
  refine z_goto dJ0_isLatin1_aae02_14 rfl ?_
  refine z_iret dJ0_isLatin1_aae02_18 ?_
  exact hQ
theorem s_coder {h : Hp} {d i : Nat} (hi : i < 2) : Sp d mJ0_coder_7d493 [.ref (2 + i)] h (some (.int 0)) h := by
  intro N S Q hN hS hQ
  refine z_compact Kst_J0_38 dJ0_coder_7d493_0 ?_
  refine z_if_eq dJ0_coder_7d493_3 rfl (fun c => absurd c (by decide)) (fun _ => ?_)
  refine z_aload_n dJ0_coder_7d493_6 rfl rfl ?_
  refine z_strC hi Kst_J0_15 dJ0_coder_7d493_7 ?_
  refine z_goto dJ0_coder_7d493_10 rfl ?_
  refine z_iret dJ0_coder_7d493_14 ?_
  exact hQ
theorem len_ok : ∀ i, i < 2 → (Int32.ofNat (sLen i)) >>> ((0 : Int32) &&& 31) = nI (sLen i) := by decide
theorem s_length {h : Hp} {d i : Nat} (hi : i < 2) (hd : 1 ≤ d) : Sp d mJ0_length_8abf5 [.ref (2 + i)] h (some (.int (nI (sLen i)))) h := by
  intro N S Q hN hS hQ
  refine z_aload_n dJ0_length_8abf5_0 rfl rfl ?_
  refine z_strV hi Kst_J0_9 dJ0_length_8abf5_1 ?_
  refine z_strLen hi rfl dJ0_length_8abf5_4 ?_
  refine z_aload_n dJ0_length_8abf5_5 rfl rfl ?_
  refine y_callT (as := []) CJ0_coder_7d493 LJ0_335 IJ0_coder_7d493 VJ0_coder_7d493 rfl hi dJ0_length_8abf5_6 rfl (Nat.le_of_ble_eq_true rfl) (Nat.le_of_ble_eq_true rfl) (by omega) (s_coder (d := 0) hi) ⟨.byte, rfl, rfl⟩ ⟨hN, hS⟩ ?_
  refine z_ishr dJ0_length_8abf5_9 ?_
  refine z_eqi (len_ok i hi) ?_
  refine z_iret dJ0_length_8abf5_10 ?_
  exact hQ
theorem s_chk3 {h : Hp} {d : Nat} {x y : Int32} {v : Value} (hv : v = .null ∨ v = .ref 6) (h0 : ¬ x < 0) (h1 : x < y) : Sp d mJ3_checkIndex_8e157 [.int x, .int y, v] h (some (.int x)) h := by
  intro N S Q hN hS hQ
  rcases hv with rfl | rfl
  · refine z_iload_n dJ3_checkIndex_8e157_0 rfl rfl ?_
    refine z_if_lt dJ3_checkIndex_8e157_1 rfl (fun c => absurd c h0) (fun _ => ?_)
    refine z_iload_n dJ3_checkIndex_8e157_4 rfl rfl ?_
    refine z_iload_n dJ3_checkIndex_8e157_5 rfl rfl ?_
    refine z_icmp_lt dJ3_checkIndex_8e157_6 rfl (fun _ => ?_) (fun c => absurd h1 c)
    refine z_iload_n dJ3_checkIndex_8e157_16 rfl rfl ?_
    refine z_iret dJ3_checkIndex_8e157_17 ?_
    exact hQ
  · refine z_iload_n dJ3_checkIndex_8e157_0 rfl rfl ?_
    refine z_if_lt dJ3_checkIndex_8e157_1 rfl (fun c => absurd c h0) (fun _ => ?_)
    refine z_iload_n dJ3_checkIndex_8e157_4 rfl rfl ?_
    refine z_iload_n dJ3_checkIndex_8e157_5 rfl rfl ?_
    refine z_icmp_lt dJ3_checkIndex_8e157_6 rfl (fun _ => ?_) (fun c => absurd h1 c)
    refine z_iload_n dJ3_checkIndex_8e157_16 rfl rfl ?_
    refine z_iret dJ3_checkIndex_8e157_17 ?_
    exact hQ
theorem s_chk0 {h : Hp} {d : Nat} {x y : Int32} (h0 : ¬ x < 0) (h1 : x < y) (hd : 1 ≤ d) : Sp d mJ0_checkIndex_df160 [.int x, .int y] h none h := by
  intro N S Q hN hS hQ
  refine z_iload_n dJ0_checkIndex_df160_0 rfl rfl ?_
  refine z_iload_n dJ0_checkIndex_df160_1 rfl rfl ?_
  refine z_form Kst_J0_1053 dJ0_checkIndex_df160_2 ?_ ?_
  · refine y_callS (as := [_, _, _]) CJ3_checkIndex_8e157 LJ0_1059 SJ3_checkIndex_8e157 dJ0_checkIndex_df160_5 rfl (Nat.le_of_ble_eq_true rfl) (Nat.le_of_ble_eq_true rfl) (by omega) (s_chk3 (d := 0) (Or.inl rfl) h0 h1) rok_i ⟨Nat.le_refl _, Nat.le_refl _, hN, hS⟩ ?_
    refine z_pop dJ0_checkIndex_df160_8 rfl ?_
    refine z_vret dJ0_checkIndex_df160_9 ?_
    exact hQ
  · refine y_callS (as := [_, _, _]) CJ3_checkIndex_8e157 LJ0_1059 SJ3_checkIndex_8e157 dJ0_checkIndex_df160_5 rfl (Nat.le_of_ble_eq_true rfl) (Nat.le_of_ble_eq_true rfl) (by omega) (s_chk3 (d := 0) (Or.inr rfl) h0 h1) rok_i ⟨Nat.le_refl _, Nat.le_refl _, hN, hS⟩ ?_
    refine z_pop dJ0_checkIndex_df160_8 rfl ?_
    refine z_vret dJ0_checkIndex_df160_9 ?_
    exact hQ
theorem s_ch1 {h : Hp} {d i : Nat} (hi : i < 2) {j : Nat} (hj : j < sLen i) (hd : 2 ≤ d) : Sp d mJ1_charAt_3b067 [.ref (4 + i), .int (nI j)] h (some (.int (chW i j))) h := by
  have hl := sLen_le (i := i)
  have hin : vp_in (nI j) (sLen i) := (vp_in_lt (by omega)).mp ⟨nI_pos' (by omega), (nI_ltI (by omega) (by omega)).mpr hj⟩
  intro N S Q hN hS hQ
  refine z_iload_n dJ1_charAt_3b067_0 rfl rfl ?_
  refine z_aload_n dJ1_charAt_3b067_1 rfl rfl ?_
  refine z_strLen hi rfl dJ1_charAt_3b067_2 ?_
  refine y_callS (as := [_, _]) CJ0_checkIndex_df160 LJ1_9 SJ0_checkIndex_df160 dJ1_charAt_3b067_3 rfl (Nat.le_of_ble_eq_true rfl) (Nat.le_of_ble_eq_true rfl) (by omega) (s_chk0 (d := 1) (nI_pos (by omega)) ((nI_ltI (a := j) (b := sLen i) (by omega) (by omega)).mpr hj) (Nat.le_refl _)) rok_v ⟨Nat.le_refl _, Nat.le_refl _, hN, hS⟩ ?_
  refine z_aload_n dJ1_charAt_3b067_6 rfl rfl ?_
  refine z_iload_n dJ1_charAt_3b067_7 rfl rfl ?_
  refine z_strAt hi hin dJ1_charAt_3b067_8 ?_
  refine z_eqi (show _ = chW i j by rw [nI_clamp (by omega)]; rfl) ?_
  refine z_sipush (v := 255) dJ1_charAt_3b067_9 (by decide) ?_
  refine z_iand dJ1_charAt_3b067_12 ?_
  refine z_i2c dJ1_charAt_3b067_13 ?_
  refine z_eqi (ch_ok i hi j hj) ?_
  refine z_iret dJ1_charAt_3b067_14 ?_
  exact hQ
theorem s_charAt {h : Hp} {d i : Nat} (hi : i < 2) {j : Nat} (hj : j < sLen i) (hd : 3 ≤ d) : Sp d mJ0_charAt_5068e [.ref (2 + i), .int (nI j)] h (some (.int (chW i j))) h := by
  intro N S Q hN hS hQ
  refine z_aload_n dJ0_charAt_5068e_0 rfl rfl ?_
  refine y_callT (as := []) CJ0_isLatin1_aae02 LJ0_492 IJ0_isLatin1_aae02 VJ0_isLatin1_aae02 rfl hi dJ0_charAt_5068e_1 rfl (Nat.le_of_ble_eq_true rfl) (Nat.le_of_ble_eq_true rfl) (by omega) (s_latin (d := 0) hi) (rok_z (Or.inr rfl)) ⟨hN, hS⟩ ?_
  refine z_if_eq dJ0_charAt_5068e_4 rfl (fun c => absurd c (by decide)) (fun _ => ?_)
  refine z_aload_n dJ0_charAt_5068e_7 rfl rfl ?_
  refine z_strV hi Kst_J0_9 dJ0_charAt_5068e_8 ?_
  refine z_iload_n dJ0_charAt_5068e_11 rfl rfl ?_
  refine y_callS (as := [_, _]) CJ1_charAt_3b067 LJ0_495 SJ1_charAt_3b067 dJ0_charAt_5068e_12 rfl (Nat.le_of_ble_eq_true rfl) (Nat.le_of_ble_eq_true rfl) (by omega) (s_ch1 (d := 2) hi hj (Nat.le_refl _)) (rok_c hi hj) ⟨Nat.le_refl _, Nat.le_refl _, hN, hS⟩ ?_
  refine z_iret dJ0_charAt_5068e_15 ?_
  exact hQ
/-- where a sign stands among the signs -/
def sgI (c : Nat) : Int32 := if sgK c = 53 then -1 else nI (sgK c - 40)
def sN (j : Nat) : Nat := ([60, 62, 61, 35, 43, 45, 42, 47, 40, 41, 44, 59] : List Nat).getD j 0
theorem ix_eq : ∀ c, c < 256 → ∀ j, j < 12 → ((nI c).toInt8.toInt32 = chW 1 j ↔ c = sN j) := by decide +kernel
theorem s_canEnc {h : Hp} {d c : Nat} (hc : c < 256) : Sp d mJ1_canEncode_9a6ad [.int (nI c)] h (some (.int 1)) h := by
  intro N S Q hN hS hQ
  refine z_iload_n dJ1_canEncode_9a6ad_0 rfl rfl ?_
  refine z_if_lt dJ1_canEncode_9a6ad_1 rfl (fun w => absurd w (nI_pos (by omega))) (fun _ => ?_)
  refine z_iload_n dJ1_canEncode_9a6ad_4 rfl rfl ?_
  refine z_sipush (v := 255) dJ1_canEncode_9a6ad_5 (by decide) ?_
  refine z_icmp_gt dJ1_canEncode_9a6ad_8 rfl (fun w => absurd ((nI_ltI (a := 255) (by omega) (by omega)).mp w) (by omega)) (fun _ => ?_)
  refine z_iconst (v := 1) dJ1_canEncode_9a6ad_11 (by decide) ?_
  refine z_goto dJ1_canEncode_9a6ad_12 rfl ?_
  refine z_iret dJ1_canEncode_9a6ad_16 ?_
  exact hQ
theorem ix_step {h : Hp} {d N S c j : Nat} {Q : Option Value → Hp → Prop} (hc : c < 256) (hj : j < 12) (hy : c = sN j → Q (some (.int (nI j))) h) (hn : ¬ c = sN j → T d N S mJ1_indexOfChar_4cfef 7 [some (.ref (4 + 1)), some (.int (nI c)), some (.int 0), some (.int 12), some (.int ((nI c).toInt8.toInt32)), some (.int (nI (j + 1)))] [] h Q) : T d N S mJ1_indexOfChar_4cfef 7 [some (.ref (4 + 1)), some (.int (nI c)), some (.int 0), some (.int 12), some (.int ((nI c).toInt8.toInt32)), some (.int (nI j))] [] h Q := by
  have hin : vp_in (nI j) (sLen 1) := (vp_in_lt (show 12 < 2 ^ 31 by omega)).mp ⟨nI_pos' (by omega), (nI_ltI (b := 12) (by omega) (by omega)).mpr hj⟩
  refine z_iload dJ1_indexOfChar_4cfef_7 rfl ?_
  refine z_iload_n dJ1_indexOfChar_4cfef_9 rfl rfl ?_
  refine z_icmp_ge dJ1_indexOfChar_4cfef_10 rfl (fun w => absurd ((nI_leI (a := 12) (by omega) (by omega)).mp w) (by omega)) (fun _ => ?_)
  refine z_aload_n dJ1_indexOfChar_4cfef_13 rfl rfl ?_
  refine z_iload dJ1_indexOfChar_4cfef_14 rfl ?_
  refine z_strAt (i := 1) (by omega) hin dJ1_indexOfChar_4cfef_16 ?_
  refine z_eqi (show _ = chW 1 j by rw [nI_clamp (by omega)]; rfl) ?_
  refine z_iload dJ1_indexOfChar_4cfef_17 rfl ?_
  refine z_icmp_ne dJ1_indexOfChar_4cfef_19 rfl (fun w => ?_) (fun w => ?_)
  · refine z_iinc dJ1_indexOfChar_4cfef_25 rfl (nI_1 j) (Nat.le_of_ble_eq_true rfl) ?_
    refine z_goto dJ1_indexOfChar_4cfef_28 rfl ?_
    exact hn (fun e => w ((ix_eq c hc j hj).mpr e).symm)
  · refine z_iload dJ1_indexOfChar_4cfef_22 rfl ?_
    refine z_iret dJ1_indexOfChar_4cfef_24 ?_
    exact hy ((ix_eq c hc j hj).mp w.symm)

theorem s_ixc {h : Hp} {d c : Nat} (hc : c < 256) : Sp d mJ1_indexOfChar_4cfef [.ref (4 + 1), .int (nI c), .int 0, .int 12] h (some (.int (sgI c))) h := by
  intro N S Q hN hS hQ
  refine z_iload_n dJ1_indexOfChar_4cfef_0 rfl rfl ?_
  refine z_i2b dJ1_indexOfChar_4cfef_1 ?_
  refine z_istore dJ1_indexOfChar_4cfef_2 (Nat.le_of_ble_eq_true rfl) ?_
  refine z_iload_n dJ1_indexOfChar_4cfef_4 rfl rfl ?_
  refine z_istore dJ1_indexOfChar_4cfef_5 (Nat.le_of_ble_eq_true rfl) ?_
  refine ix_step (j := 0) hc (by omega) (fun e => by have e : c = 60 := e; rw [e] at hQ; exact hQ) (fun e0 => ?_)
  have e0 : ¬ c = 60 := e0
  refine ix_step (j := 1) hc (by omega) (fun e => by have e : c = 62 := e; rw [e] at hQ; exact hQ) (fun e1 => ?_)
  have e1 : ¬ c = 62 := e1
  refine ix_step (j := 2) hc (by omega) (fun e => by have e : c = 61 := e; rw [e] at hQ; exact hQ) (fun e2 => ?_)
  have e2 : ¬ c = 61 := e2
  refine ix_step (j := 3) hc (by omega) (fun e => by have e : c = 35 := e; rw [e] at hQ; exact hQ) (fun e3 => ?_)
  have e3 : ¬ c = 35 := e3
  refine ix_step (j := 4) hc (by omega) (fun e => by have e : c = 43 := e; rw [e] at hQ; exact hQ) (fun e4 => ?_)
  have e4 : ¬ c = 43 := e4
  refine ix_step (j := 5) hc (by omega) (fun e => by have e : c = 45 := e; rw [e] at hQ; exact hQ) (fun e5 => ?_)
  have e5 : ¬ c = 45 := e5
  refine ix_step (j := 6) hc (by omega) (fun e => by have e : c = 42 := e; rw [e] at hQ; exact hQ) (fun e6 => ?_)
  have e6 : ¬ c = 42 := e6
  refine ix_step (j := 7) hc (by omega) (fun e => by have e : c = 47 := e; rw [e] at hQ; exact hQ) (fun e7 => ?_)
  have e7 : ¬ c = 47 := e7
  refine ix_step (j := 8) hc (by omega) (fun e => by have e : c = 40 := e; rw [e] at hQ; exact hQ) (fun e8 => ?_)
  have e8 : ¬ c = 40 := e8
  refine ix_step (j := 9) hc (by omega) (fun e => by have e : c = 41 := e; rw [e] at hQ; exact hQ) (fun e9 => ?_)
  have e9 : ¬ c = 41 := e9
  refine ix_step (j := 10) hc (by omega) (fun e => by have e : c = 44 := e; rw [e] at hQ; exact hQ) (fun e10 => ?_)
  have e10 : ¬ c = 44 := e10
  refine ix_step (j := 11) hc (by omega) (fun e => by have e : c = 59 := e; rw [e] at hQ; exact hQ) (fun e11 => ?_)
  have e11 : ¬ c = 59 := e11
  refine z_iload dJ1_indexOfChar_4cfef_7 rfl ?_
  refine z_iload_n dJ1_indexOfChar_4cfef_9 rfl rfl ?_
  refine z_icmp_ge dJ1_indexOfChar_4cfef_10 rfl (fun _ => ?_) (fun w => absurd (by decide) w)
  refine z_iconst (v := -1) dJ1_indexOfChar_4cfef_31 (by decide) ?_
  refine z_iret dJ1_indexOfChar_4cfef_32 ?_
  have e53 : sgK c = 53 := by
    unfold sgK
    rw [if_neg e0, if_neg e1, if_neg e2, if_neg e3, if_neg e4, if_neg e5, if_neg e6, if_neg e7, if_neg e8, if_neg e9, if_neg e10, if_neg e11]
  rw [show sgI c = -1 from if_pos e53] at hQ
  exact hQ
theorem s_ix1 {h : Hp} {d c : Nat} (hc : c < 256) (hd : 1 ≤ d) : Sp d mJ1_indexOf_4cfef [.ref (4 + 1), .int (nI c), .int 0, .int (nI 12)] h (some (.int (sgI c))) h := by
  intro N S Q hN hS hQ
  refine z_iload_n dJ1_indexOf_4cfef_0 rfl rfl ?_
  refine y_callS (as := [_]) CJ1_canEncode_9a6ad LJ1_88 SJ1_canEncode_9a6ad dJ1_indexOf_4cfef_1 rfl (Nat.le_of_ble_eq_true rfl) (Nat.le_of_ble_eq_true rfl) (by omega) (s_canEnc (d := 0) hc) (rok_z (Or.inr rfl)) ⟨Nat.le_refl _, Nat.le_refl _, hN, hS⟩ ?_
  refine z_if_ne dJ1_indexOf_4cfef_4 rfl (fun _ => ?_) (fun w => absurd w (by decide))
  refine z_iload_n dJ1_indexOf_4cfef_9 rfl rfl ?_
  refine z_iconst (v := 0) dJ1_indexOf_4cfef_10 (by decide) ?_
  refine z_mmax Kmax_J1_92 Kmax_static Kini_Math Kmax_code dJ1_indexOf_4cfef_11 (by omega) (Nat.le_of_ble_eq_true rfl) ?_
  refine z_eqi (show _ = (0 : Int32) by decide) ?_
  refine z_istore_n dJ1_indexOf_4cfef_14 rfl (Nat.le_of_ble_eq_true rfl) ?_
  refine z_iload_n dJ1_indexOf_4cfef_15 rfl rfl ?_
  refine z_aload_n dJ1_indexOf_4cfef_16 rfl rfl ?_
  refine z_strLen (i := 1) (by omega) rfl dJ1_indexOf_4cfef_17 ?_
  refine z_mmin Kmin_J1_38 Kmin_static Kini_Math Kmin_code dJ1_indexOf_4cfef_18 (by omega) (Nat.le_of_ble_eq_true rfl) ?_
  refine z_eqi (show _ = (12 : Int32) by decide) ?_
  refine z_istore_n dJ1_indexOf_4cfef_21 rfl (Nat.le_of_ble_eq_true rfl) ?_
  refine z_iload_n dJ1_indexOf_4cfef_22 rfl rfl ?_
  refine z_iload_n dJ1_indexOf_4cfef_23 rfl rfl ?_
  refine z_icmp_lt dJ1_indexOf_4cfef_24 rfl (fun _ => ?_) (fun w => absurd (by decide) w)
  refine z_aload_n dJ1_indexOf_4cfef_29 rfl rfl ?_
  refine z_iload_n dJ1_indexOf_4cfef_30 rfl rfl ?_
  refine z_iload_n dJ1_indexOf_4cfef_31 rfl rfl ?_
  refine z_iload_n dJ1_indexOf_4cfef_32 rfl rfl ?_
  refine y_callS (as := [_, _, _, _]) CJ1_indexOfChar_4cfef LJ1_95 SJ1_indexOfChar_4cfef dJ1_indexOf_4cfef_33 rfl (Nat.le_of_ble_eq_true rfl) (Nat.le_of_ble_eq_true rfl) (by omega) (s_ixc (d := 0) hc) rok_i ⟨Nat.le_refl _, Nat.le_refl _, hN, hS⟩ ?_
  refine z_iret dJ1_indexOf_4cfef_36 ?_
  exact hQ
theorem s_ix2 {h : Hp} {d c : Nat} (hc : c < 256) (hd : 2 ≤ d) : Sp d mJ0_indexOf_7cf53 [.ref (2 + 1), .int (nI c), .int 0] h (some (.int (sgI c))) h := by
  intro N S Q hN hS hQ
  refine z_aload_n dJ0_indexOf_7cf53_0 rfl rfl ?_
  refine y_callT (i := 1) (as := []) CJ0_isLatin1_aae02 LJ0_492 IJ0_isLatin1_aae02 VJ0_isLatin1_aae02 rfl (by omega) dJ0_indexOf_7cf53_1 rfl (Nat.le_of_ble_eq_true rfl) (Nat.le_of_ble_eq_true rfl) (by omega) (s_latin (d := 0) (by omega)) (rok_z (Or.inr rfl)) ⟨hN, hS⟩ ?_
  refine z_if_eq dJ0_indexOf_7cf53_4 rfl (fun c => absurd c (by decide)) (fun _ => ?_)
  refine z_aload_n dJ0_indexOf_7cf53_7 rfl rfl ?_
  refine z_strV (i := 1) (by omega) Kst_J0_9 dJ0_indexOf_7cf53_8 ?_
  refine z_iload_n dJ0_indexOf_7cf53_11 rfl rfl ?_
  refine z_iload_n dJ0_indexOf_7cf53_12 rfl rfl ?_
  refine z_aload_n dJ0_indexOf_7cf53_13 rfl rfl ?_
  refine y_callT (i := 1) (as := []) CJ0_length_8abf5 LJ0_505 IJ0_length_8abf5 VJ0_length_8abf5 rfl (by omega) dJ0_indexOf_7cf53_14 rfl (Nat.le_of_ble_eq_true rfl) (Nat.le_of_ble_eq_true rfl) (by omega) (s_length (d := 1) (by omega) (Nat.le_refl _)) rok_i ⟨hN, hS⟩ ?_
  refine y_callS (as := [_, _, _, _]) CJ1_indexOf_4cfef LJ0_637 SJ1_indexOf_4cfef dJ0_indexOf_7cf53_17 rfl (Nat.le_of_ble_eq_true rfl) (Nat.le_of_ble_eq_true rfl) (by omega) (s_ix1 (d := 1) hc (Nat.le_refl _)) rok_i ⟨Nat.le_refl _, Nat.le_refl _, hN, hS⟩ ?_
  refine z_goto dJ0_indexOf_7cf53_20 rfl ?_
  refine z_iret dJ0_indexOf_7cf53_36 ?_
  exact hQ
theorem s_indexOf {h : Hp} {d c : Nat} (hc : c < 256) (hd : 3 ≤ d) : Sp d mJ0_indexOf_0f7a4 [.ref (2 + 1), .int (nI c)] h (some (.int (sgI c))) h := by
  intro N S Q hN hS hQ
  refine z_aload_n dJ0_indexOf_0f7a4_0 rfl rfl ?_
  refine z_iload_n dJ0_indexOf_0f7a4_1 rfl rfl ?_
  refine z_iconst (v := 0) dJ0_indexOf_0f7a4_2 (by decide) ?_
  refine y_callT (i := 1) (as := [_, _]) CJ0_indexOf_7cf53 LJ0_633 IJ0_indexOf_7cf53 VJ0_indexOf_7cf53 rfl (by omega) dJ0_indexOf_0f7a4_3 rfl (Nat.le_of_ble_eq_true rfl) (Nat.le_of_ble_eq_true rfl) (by omega) (s_ix2 (d := 2) hc (Nat.le_refl _)) rok_i ⟨hN, hS⟩ ?_
  refine z_iret dJ0_indexOf_0f7a4_6 ?_
  exact hQ

