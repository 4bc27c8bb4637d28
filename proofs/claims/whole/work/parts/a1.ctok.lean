/-! the class takes a tape apart: letters, figures, words (wip/whole/gena1.py) -/
theorem nI_sb (a b : Nat) : nI (a + b) - nI a = nI b := by
  rw [← nI_add, Int32.add_comm, Int32.add_sub_cancel]
theorem nI_sb2 {p e : Nat} (h : p ≤ e) : nI e - nI p = nI (e - p) := by
  have := nI_sb p (e - p)
  rw [show p + (e - p) = e by omega] at this
  exact this
theorem max0_nI {p : Nat} (hp : p < 2 ^ 31) : (if (0 : Int32) < nI p then nI p else 0) = nI p := by
  by_cases q : (0 : Int32) < nI p
  · rw [if_pos q]
  · rw [if_neg q]
    have q2 : ¬ 0 < p := fun w => q ((nI_ltI (a := 0) (by omega) hp).mpr w)
    rw [show p = 0 by omega]
    rfl

theorem c_isLetter {h : Hp} {d c : Nat} (hc : c < 256) (hd : 1 ≤ d) : Sp d mX6_isLetter [.int (nI c)] h (some (.int (bI (isL c = true)))) h := by
  intro N S Q hN hS hQ
  by_cases a : 97 ≤ c ∧ c ≤ 122
  · rw [bI_t (isL_iff.mpr (Or.inl a))] at hQ
    refine z_iload_n dX6_isLetter_0 rfl rfl ?_
    refine z_bipush (v := 97) dX6_isLetter_1 (by decide) ?_
    refine z_bipush (v := 122) dX6_isLetter_3 (by decide) ?_
    refine y_callS (as := [_, _, _]) CX8_within LX6_63 SX8_within dX6_isLetter_5 rfl (Nat.le_of_ble_eq_true rfl) (Nat.le_of_ble_eq_true rfl) (by omega) (s_within (d := 0) _ _ _) (rok_z bI_01) ⟨Nat.le_refl _, Nat.le_refl _, hN, hS⟩ ?_
    refine z_if_ne dX6_isLetter_8 rfl (fun _ => ?_) (fun c => absurd c (bI_ne0.mpr ⟨(nI_leI (a := 97) (by omega) (by omega)).mpr a.1, (nI_leI (b := 122) (by omega) (by omega)).mpr a.2⟩))
    refine z_iconst (v := 1) dX6_isLetter_22 (by decide) ?_
    refine z_goto dX6_isLetter_23 rfl ?_
    refine z_iret dX6_isLetter_27 ?_
    exact hQ
  by_cases b : 65 ≤ c ∧ c ≤ 90
  · rw [bI_t (isL_iff.mpr (Or.inr b))] at hQ
    refine z_iload_n dX6_isLetter_0 rfl rfl ?_
    refine z_bipush (v := 97) dX6_isLetter_1 (by decide) ?_
    refine z_bipush (v := 122) dX6_isLetter_3 (by decide) ?_
    refine y_callS (as := [_, _, _]) CX8_within LX6_63 SX8_within dX6_isLetter_5 rfl (Nat.le_of_ble_eq_true rfl) (Nat.le_of_ble_eq_true rfl) (by omega) (s_within (d := 0) _ _ _) (rok_z bI_01) ⟨Nat.le_refl _, Nat.le_refl _, hN, hS⟩ ?_
    refine z_if_ne dX6_isLetter_8 rfl (fun c => absurd (bI_eq0.mpr (fun w => a ⟨(nI_leI (a := 97) (by omega) (by omega)).mp w.1, (nI_leI (b := 122) (by omega) (by omega)).mp w.2⟩)) c) (fun _ => ?_)
    refine z_iload_n dX6_isLetter_11 rfl rfl ?_
    refine z_bipush (v := 65) dX6_isLetter_12 (by decide) ?_
    refine z_bipush (v := 90) dX6_isLetter_14 (by decide) ?_
    refine y_callS (as := [_, _, _]) CX8_within LX6_63 SX8_within dX6_isLetter_16 rfl (Nat.le_of_ble_eq_true rfl) (Nat.le_of_ble_eq_true rfl) (by omega) (s_within (d := 0) _ _ _) (rok_z bI_01) ⟨Nat.le_refl _, Nat.le_refl _, hN, hS⟩ ?_
    refine z_if_eq dX6_isLetter_19 rfl (fun c => absurd c (bI_ne0.mpr ⟨(nI_leI (a := 65) (by omega) (by omega)).mpr b.1, (nI_leI (b := 90) (by omega) (by omega)).mpr b.2⟩)) (fun _ => ?_)
    refine z_iconst (v := 1) dX6_isLetter_22 (by decide) ?_
    refine z_goto dX6_isLetter_23 rfl ?_
    refine z_iret dX6_isLetter_27 ?_
    exact hQ
  · rw [bI_f (fun w => (isL_iff.mp w).elim a b)] at hQ
    refine z_iload_n dX6_isLetter_0 rfl rfl ?_
    refine z_bipush (v := 97) dX6_isLetter_1 (by decide) ?_
    refine z_bipush (v := 122) dX6_isLetter_3 (by decide) ?_
    refine y_callS (as := [_, _, _]) CX8_within LX6_63 SX8_within dX6_isLetter_5 rfl (Nat.le_of_ble_eq_true rfl) (Nat.le_of_ble_eq_true rfl) (by omega) (s_within (d := 0) _ _ _) (rok_z bI_01) ⟨Nat.le_refl _, Nat.le_refl _, hN, hS⟩ ?_
    refine z_if_ne dX6_isLetter_8 rfl (fun c => absurd (bI_eq0.mpr (fun w => a ⟨(nI_leI (a := 97) (by omega) (by omega)).mp w.1, (nI_leI (b := 122) (by omega) (by omega)).mp w.2⟩)) c) (fun _ => ?_)
    refine z_iload_n dX6_isLetter_11 rfl rfl ?_
    refine z_bipush (v := 65) dX6_isLetter_12 (by decide) ?_
    refine z_bipush (v := 90) dX6_isLetter_14 (by decide) ?_
    refine y_callS (as := [_, _, _]) CX8_within LX6_63 SX8_within dX6_isLetter_16 rfl (Nat.le_of_ble_eq_true rfl) (Nat.le_of_ble_eq_true rfl) (by omega) (s_within (d := 0) _ _ _) (rok_z bI_01) ⟨Nat.le_refl _, Nat.le_refl _, hN, hS⟩ ?_
    refine z_if_eq dX6_isLetter_19 rfl (fun _ => ?_) (fun c => absurd (bI_eq0.mpr (fun w => b ⟨(nI_leI (a := 65) (by omega) (by omega)).mp w.1, (nI_leI (b := 90) (by omega) (by omega)).mp w.2⟩)) c)
    refine z_iconst (v := 0) dX6_isLetter_26 (by decide) ?_
    refine z_iret dX6_isLetter_27 ?_
    exact hQ
theorem c_isDigit {h : Hp} {d c : Nat} (hc : c < 256) (hd : 1 ≤ d) : Sp d mX6_isDigit [.int (nI c)] h (some (.int (bI (isD c = true)))) h := by
  intro N S Q hN hS hQ
  refine z_iload_n dX6_isDigit_0 rfl rfl ?_
  refine z_bipush (v := 48) dX6_isDigit_1 (by decide) ?_
  refine z_bipush (v := 57) dX6_isDigit_3 (by decide) ?_
  refine y_callS (as := [_, _, _]) CX8_within LX6_63 SX8_within dX6_isDigit_5 rfl (Nat.le_of_ble_eq_true rfl) (Nat.le_of_ble_eq_true rfl) (by omega) (s_within (d := 0) _ _ _) (rok_z bI_01) ⟨Nat.le_refl _, Nat.le_refl _, hN, hS⟩ ?_
  refine z_eqi (show _ = bI (isD c = true) from bI_congr ⟨fun w => isD_b.mpr ⟨(nI_leI (a := 48) (by omega) (by omega)).mp w.1, (nI_leI (b := 57) (by omega) (by omega)).mp w.2⟩, fun w => ⟨(nI_leI (a := 48) (by omega) (by omega)).mpr (isD_b.mp w).1, (nI_leI (b := 57) (by omega) (by omega)).mpr (isD_b.mp w).2⟩⟩) ?_
  refine z_iret dX6_isDigit_8 ?_
  exact hQ
/-- the tape: its bytes -/
def TB4 (h : Hp) (tp : Fl) : Prop := IA h 10 300 487 ∧ (∀ j, j < 300 → pI h 487 j = nI (tp j)) ∧ ∀ j, j < 300 → tp j < 256

theorem l_behindWord {h : Hp} {d f n N S : Nat} {tp : Fl} {Q : Option Value → Hp → Prop} (tb : TB4 h tp) (n3 : n ≤ 300) (hd : 2 ≤ d) (hN : pn h ≤ N) (hS : ps h ≤ S) : ∀ r p, n - p = r → p ≤ 400 → Q (some (.int (nI (rnF isL tp n p)))) h → T d N S mX6_behindWord 4 [some (.ref 487), some (.int (nI f)), some (.int (nI n)), some (.int (nI p))] [] h Q := by
  intro r
  induction r with
  | zero =>
    intro p hr p4 hQ
    rw [rnF_n (fun w => absurd w.1 (by omega))] at hQ
    refine z_iload_n dX6_behindWord_4 rfl rfl ?_
    refine z_if_lt dX6_behindWord_5 rfl (fun c => absurd c (nI_pos (by omega))) (fun _ => ?_)
    refine z_iload_n dX6_behindWord_8 rfl rfl ?_
    refine z_iload_n dX6_behindWord_9 rfl rfl ?_
    refine z_icmp_ge dX6_behindWord_10 rfl (fun _ => ?_) (fun c => absurd ((nI_leI (by omega) (by omega)).mpr (by omega)) c)
    refine z_iload_n dX6_behindWord_34 rfl rfl ?_
    refine z_iret dX6_behindWord_35 ?_
    exact hQ
  | succ r ih =>
    intro p hr p4 hQ
    have pn1 : p < n := by omega
    by_cases hp : isL (tp p) = true
    · rw [rnF_y pn1 hp] at hQ
      refine z_iload_n dX6_behindWord_4 rfl rfl ?_
      refine z_if_lt dX6_behindWord_5 rfl (fun c => absurd c (nI_pos (by omega))) (fun _ => ?_)
      refine z_iload_n dX6_behindWord_8 rfl rfl ?_
      refine z_iload_n dX6_behindWord_9 rfl rfl ?_
      refine z_icmp_ge dX6_behindWord_10 rfl (fun c => absurd c (fun w => absurd ((nI_leI (by omega) (by omega)).mp w) (by omega))) (fun _ => ?_)
      refine z_iload_n dX6_behindWord_13 rfl rfl ?_
      refine z_aload_n dX6_behindWord_14 rfl rfl ?_
      refine y_alen dX6_behindWord_15 tb.1 ⟨Nat.le_of_ble_eq_true rfl, Nat.le_of_ble_eq_true rfl⟩ rfl ?_
      refine z_icmp_ge dX6_behindWord_16 rfl (fun c => absurd c (fun w => absurd ((nI_leI (a := 300) (by omega) (by omega)).mp w) (by omega))) (fun _ => ?_)
      refine z_aload_n dX6_behindWord_19 rfl rfl ?_
      refine z_iload_n dX6_behindWord_20 rfl rfl ?_
      refine y_ialN (p) dX6_behindWord_21 tb.1 (Nat.le_of_ble_eq_true rfl) (rfl) (by omega) ?_
      refine z_eqi (tb.2.1 p (by omega)) ?_
      refine y_callS (as := [_]) CX6_isLetter LX6_31 SX6_isLetter dX6_behindWord_22 rfl (Nat.le_of_ble_eq_true rfl) (Nat.le_of_ble_eq_true rfl) (by omega) (c_isLetter (d := 1) (tb.2.2 p (by omega)) (Nat.le_refl _)) (rok_z bI_01) ⟨Nat.le_refl _, Nat.le_refl _, hN, hS⟩ ?_
      refine z_if_eq dX6_behindWord_25 rfl (fun c => absurd c (bI_ne0.mpr hp)) (fun _ => ?_)
      refine z_iinc dX6_behindWord_28 rfl (nI_1 p) (Nat.le_of_ble_eq_true rfl) ?_
      refine z_goto dX6_behindWord_31 rfl ?_
      exact ih (p + 1) (by omega) (by omega) hQ
    · rw [rnF_n (fun w => hp w.2)] at hQ
      refine z_iload_n dX6_behindWord_4 rfl rfl ?_
      refine z_if_lt dX6_behindWord_5 rfl (fun c => absurd c (nI_pos (by omega))) (fun _ => ?_)
      refine z_iload_n dX6_behindWord_8 rfl rfl ?_
      refine z_iload_n dX6_behindWord_9 rfl rfl ?_
      refine z_icmp_ge dX6_behindWord_10 rfl (fun c => absurd c (fun w => absurd ((nI_leI (by omega) (by omega)).mp w) (by omega))) (fun _ => ?_)
      refine z_iload_n dX6_behindWord_13 rfl rfl ?_
      refine z_aload_n dX6_behindWord_14 rfl rfl ?_
      refine y_alen dX6_behindWord_15 tb.1 ⟨Nat.le_of_ble_eq_true rfl, Nat.le_of_ble_eq_true rfl⟩ rfl ?_
      refine z_icmp_ge dX6_behindWord_16 rfl (fun c => absurd c (fun w => absurd ((nI_leI (a := 300) (by omega) (by omega)).mp w) (by omega))) (fun _ => ?_)
      refine z_aload_n dX6_behindWord_19 rfl rfl ?_
      refine z_iload_n dX6_behindWord_20 rfl rfl ?_
      refine y_ialN (p) dX6_behindWord_21 tb.1 (Nat.le_of_ble_eq_true rfl) (rfl) (by omega) ?_
      refine z_eqi (tb.2.1 p (by omega)) ?_
      refine y_callS (as := [_]) CX6_isLetter LX6_31 SX6_isLetter dX6_behindWord_22 rfl (Nat.le_of_ble_eq_true rfl) (Nat.le_of_ble_eq_true rfl) (by omega) (c_isLetter (d := 1) (tb.2.2 p (by omega)) (Nat.le_refl _)) (rok_z bI_01) ⟨Nat.le_refl _, Nat.le_refl _, hN, hS⟩ ?_
      refine z_if_eq dX6_behindWord_25 rfl (fun _ => ?_) (fun c => absurd (bI_eq0.mpr hp) c)
      refine z_iload_n dX6_behindWord_34 rfl rfl ?_
      refine z_iret dX6_behindWord_35 ?_
      exact hQ
theorem c_behindWord {h : Hp} {d p n : Nat} {tp : Fl} (tb : TB4 h tp) (n3 : n ≤ 300) (hp : p < n) (hl : isL (tp p) = true) (hd : 2 ≤ d) : Sp d mX6_behindWord [.ref 487, .int (nI p), .int (nI n)] h (some (.int (nI (rnF isL tp n p)))) h := by
  intro N S Q hN hS hQ
  rw [rnF_y hp hl] at hQ
  refine z_iload_n dX6_behindWord_0 rfl rfl ?_
  refine z_iconst (v := 1) dX6_behindWord_1 (by decide) ?_
  refine z_iadd dX6_behindWord_2 ?_
  refine z_eqi (nI_1 p) ?_
  refine z_istore_n dX6_behindWord_3 rfl (Nat.le_of_ble_eq_true rfl) ?_
  exact l_behindWord tb n3 hd hN hS (n - (p + 1)) (p + 1) rfl (by omega) hQ

theorem l_behindNumber {h : Hp} {d f n N S : Nat} {tp : Fl} {Q : Option Value → Hp → Prop} (tb : TB4 h tp) (n3 : n ≤ 300) (hd : 2 ≤ d) (hN : pn h ≤ N) (hS : ps h ≤ S) : ∀ r p, n - p = r → p ≤ 400 → Q (some (.int (nI (rnF isD tp n p)))) h → T d N S mX6_behindNumber 4 [some (.ref 487), some (.int (nI f)), some (.int (nI n)), some (.int (nI p))] [] h Q := by
  intro r
  induction r with
  | zero =>
    intro p hr p4 hQ
    rw [rnF_n (fun w => absurd w.1 (by omega))] at hQ
    refine z_iload_n dX6_behindNumber_4 rfl rfl ?_
    refine z_if_lt dX6_behindNumber_5 rfl (fun c => absurd c (nI_pos (by omega))) (fun _ => ?_)
    refine z_iload_n dX6_behindNumber_8 rfl rfl ?_
    refine z_iload_n dX6_behindNumber_9 rfl rfl ?_
    refine z_icmp_ge dX6_behindNumber_10 rfl (fun _ => ?_) (fun c => absurd ((nI_leI (by omega) (by omega)).mpr (by omega)) c)
    refine z_iload_n dX6_behindNumber_34 rfl rfl ?_
    refine z_iret dX6_behindNumber_35 ?_
    exact hQ
  | succ r ih =>
    intro p hr p4 hQ
    have pn1 : p < n := by omega
    by_cases hp : isD (tp p) = true
    · rw [rnF_y pn1 hp] at hQ
      refine z_iload_n dX6_behindNumber_4 rfl rfl ?_
      refine z_if_lt dX6_behindNumber_5 rfl (fun c => absurd c (nI_pos (by omega))) (fun _ => ?_)
      refine z_iload_n dX6_behindNumber_8 rfl rfl ?_
      refine z_iload_n dX6_behindNumber_9 rfl rfl ?_
      refine z_icmp_ge dX6_behindNumber_10 rfl (fun c => absurd c (fun w => absurd ((nI_leI (by omega) (by omega)).mp w) (by omega))) (fun _ => ?_)
      refine z_iload_n dX6_behindNumber_13 rfl rfl ?_
      refine z_aload_n dX6_behindNumber_14 rfl rfl ?_
      refine y_alen dX6_behindNumber_15 tb.1 ⟨Nat.le_of_ble_eq_true rfl, Nat.le_of_ble_eq_true rfl⟩ rfl ?_
      refine z_icmp_ge dX6_behindNumber_16 rfl (fun c => absurd c (fun w => absurd ((nI_leI (a := 300) (by omega) (by omega)).mp w) (by omega))) (fun _ => ?_)
      refine z_aload_n dX6_behindNumber_19 rfl rfl ?_
      refine z_iload_n dX6_behindNumber_20 rfl rfl ?_
      refine y_ialN (p) dX6_behindNumber_21 tb.1 (Nat.le_of_ble_eq_true rfl) (rfl) (by omega) ?_
      refine z_eqi (tb.2.1 p (by omega)) ?_
      refine y_callS (as := [_]) CX6_isDigit LX6_46 SX6_isDigit dX6_behindNumber_22 rfl (Nat.le_of_ble_eq_true rfl) (Nat.le_of_ble_eq_true rfl) (by omega) (c_isDigit (d := 1) (tb.2.2 p (by omega)) (Nat.le_refl _)) (rok_z bI_01) ⟨Nat.le_refl _, Nat.le_refl _, hN, hS⟩ ?_
      refine z_if_eq dX6_behindNumber_25 rfl (fun c => absurd c (bI_ne0.mpr hp)) (fun _ => ?_)
      refine z_iinc dX6_behindNumber_28 rfl (nI_1 p) (Nat.le_of_ble_eq_true rfl) ?_
      refine z_goto dX6_behindNumber_31 rfl ?_
      exact ih (p + 1) (by omega) (by omega) hQ
    · rw [rnF_n (fun w => hp w.2)] at hQ
      refine z_iload_n dX6_behindNumber_4 rfl rfl ?_
      refine z_if_lt dX6_behindNumber_5 rfl (fun c => absurd c (nI_pos (by omega))) (fun _ => ?_)
      refine z_iload_n dX6_behindNumber_8 rfl rfl ?_
      refine z_iload_n dX6_behindNumber_9 rfl rfl ?_
      refine z_icmp_ge dX6_behindNumber_10 rfl (fun c => absurd c (fun w => absurd ((nI_leI (by omega) (by omega)).mp w) (by omega))) (fun _ => ?_)
      refine z_iload_n dX6_behindNumber_13 rfl rfl ?_
      refine z_aload_n dX6_behindNumber_14 rfl rfl ?_
      refine y_alen dX6_behindNumber_15 tb.1 ⟨Nat.le_of_ble_eq_true rfl, Nat.le_of_ble_eq_true rfl⟩ rfl ?_
      refine z_icmp_ge dX6_behindNumber_16 rfl (fun c => absurd c (fun w => absurd ((nI_leI (a := 300) (by omega) (by omega)).mp w) (by omega))) (fun _ => ?_)
      refine z_aload_n dX6_behindNumber_19 rfl rfl ?_
      refine z_iload_n dX6_behindNumber_20 rfl rfl ?_
      refine y_ialN (p) dX6_behindNumber_21 tb.1 (Nat.le_of_ble_eq_true rfl) (rfl) (by omega) ?_
      refine z_eqi (tb.2.1 p (by omega)) ?_
      refine y_callS (as := [_]) CX6_isDigit LX6_46 SX6_isDigit dX6_behindNumber_22 rfl (Nat.le_of_ble_eq_true rfl) (Nat.le_of_ble_eq_true rfl) (by omega) (c_isDigit (d := 1) (tb.2.2 p (by omega)) (Nat.le_refl _)) (rok_z bI_01) ⟨Nat.le_refl _, Nat.le_refl _, hN, hS⟩ ?_
      refine z_if_eq dX6_behindNumber_25 rfl (fun _ => ?_) (fun c => absurd (bI_eq0.mpr hp) c)
      refine z_iload_n dX6_behindNumber_34 rfl rfl ?_
      refine z_iret dX6_behindNumber_35 ?_
      exact hQ
theorem c_behindNumber {h : Hp} {d p n : Nat} {tp : Fl} (tb : TB4 h tp) (n3 : n ≤ 300) (hp : p < n) (hl : isD (tp p) = true) (hd : 2 ≤ d) : Sp d mX6_behindNumber [.ref 487, .int (nI p), .int (nI n)] h (some (.int (nI (rnF isD tp n p)))) h := by
  intro N S Q hN hS hQ
  rw [rnF_y hp hl] at hQ
  refine z_iload_n dX6_behindNumber_0 rfl rfl ?_
  refine z_iconst (v := 1) dX6_behindNumber_1 (by decide) ?_
  refine z_iadd dX6_behindNumber_2 ?_
  refine z_eqi (nI_1 p) ?_
  refine z_istore_n dX6_behindNumber_3 rfl (Nat.le_of_ble_eq_true rfl) ?_
  exact l_behindNumber tb n3 hd hN hS (n - (p + 1)) (p + 1) rfl (by omega) hQ

theorem nm_eqC {m t : Nat} (ht : 48 ≤ t ∧ t ≤ 57) (hm : m ≤ 10000) : (if nI m * 10 + nI t - 48 < 10000 then nI m * 10 + nI t - 48 else 10000) = nI (min 10000 (m * 10 + (t - 48))) := by
  have e : nI m * 10 + nI t - 48 = nI (m * 10 + (t - 48)) := by
    rw [show nI t = nI (t - 48) + 48 by rw [show (48 : Int32) = nI 48 from rfl, nI_add]; congr 1; omega]
    rw [show nI (m * 10 + (t - 48)) = nI m * 10 + nI (t - 48) by rw [show (10 : Int32) = nI 10 from rfl, pk_mul, nI_add]]
    rw [← Int32.add_assoc, Int32.add_sub_cancel]
  rw [e]
  by_cases q : m * 10 + (t - 48) < 10000
  · rw [if_pos (show nI (m * 10 + (t - 48)) < (10000 : Int32) from (nI_ltI (b := 10000) (by omega) (by omega)).mpr q), show min 10000 (m * 10 + (t - 48)) = m * 10 + (t - 48) by omega]
  · rw [if_neg (show ¬ nI (m * 10 + (t - 48)) < (10000 : Int32) from fun w => q ((nI_ltI (b := 10000) (by omega) (by omega)).mp w)), show min 10000 (m * 10 + (t - 48)) = 10000 by omega]
    rfl
theorem nmC_le {tp : Fl} {p : Nat} : ∀ k, nmC tp p k ≤ 10000 := by
  intro k
  cases k with
  | zero => exact Nat.zero_le _
  | succ k => exact Nat.min_le_left _ _
theorem l_numberOf {h : Hp} {d p e N S : Nat} {tp : Fl} {Q : Option Value → Hp → Prop} (tb : TB4 h tp) (e3 : e ≤ 300) (hp : p ≤ e) (hdg : ∀ j, p ≤ j → j < e → 48 ≤ tp j ∧ tp j ≤ 57) (hd : 1 ≤ d) (hN : pn h ≤ N) (hS : ps h ≤ S) (hQ : Q (some (.int (nI (nmC tp p (e - p))))) h) : ∀ r k, k + r = e - p → T d N S mX6_numberOf 9 [some (.ref 487), some (.int (nI p)), some (.int (nI e)), some (.int (nI (nmC tp p k))), some (.int (nI (p + k)))] [] h Q := by
  intro r
  induction r with
  | zero =>
    intro k hk
    rw [show e - p = k by omega] at hQ
    refine z_iload dX6_numberOf_9 rfl ?_
    refine z_iload_n dX6_numberOf_11 rfl rfl ?_
    refine z_icmp_ge dX6_numberOf_12 rfl (fun _ => ?_) (fun c => absurd ((nI_leI (by omega) (by omega)).mpr (by omega)) c)
    refine z_iload_n dX6_numberOf_47 rfl rfl ?_
    refine z_iret dX6_numberOf_48 ?_
    exact hQ
  | succ r ih =>
    intro k hk
    have nmM := nm_eqC (hdg (p + k) (by omega) (by omega)) (nmC_le (tp := tp) (p := p) k)
    refine z_iload dX6_numberOf_9 rfl ?_
    refine z_iload_n dX6_numberOf_11 rfl rfl ?_
    refine z_icmp_ge dX6_numberOf_12 rfl (fun c => absurd c (fun w => absurd ((nI_leI (by omega) (by omega)).mp w) (by omega))) (fun _ => ?_)
    refine z_iload dX6_numberOf_15 rfl ?_
    refine z_aload_n dX6_numberOf_17 rfl rfl ?_
    refine y_alen dX6_numberOf_18 tb.1 ⟨Nat.le_of_ble_eq_true rfl, Nat.le_of_ble_eq_true rfl⟩ rfl ?_
    refine z_icmp_ge dX6_numberOf_19 rfl (fun c => absurd c (fun w => absurd ((nI_leI (a := 300) (by omega) (by omega)).mp w) (by omega))) (fun _ => ?_)
    refine z_sipush (v := 10000) dX6_numberOf_22 (by decide) ?_
    refine z_iload_n dX6_numberOf_25 rfl rfl ?_
    refine z_bipush (v := 10) dX6_numberOf_26 (by decide) ?_
    refine z_imul dX6_numberOf_28 ?_
    refine z_aload_n dX6_numberOf_29 rfl rfl ?_
    refine z_iload dX6_numberOf_30 rfl ?_
    refine y_ialN (p + k) dX6_numberOf_32 tb.1 (Nat.le_of_ble_eq_true rfl) (rfl) (by omega) ?_
    refine z_eqi (tb.2.1 (p + k) (by omega)) ?_
    refine z_iadd dX6_numberOf_33 ?_
    refine z_bipush (v := 48) dX6_numberOf_34 (by decide) ?_
    refine z_isub dX6_numberOf_36 ?_
    refine z_mmin Kmin_X6_25 Kmin_static Kini_Math Kmin_code dX6_numberOf_37 (by omega) (Nat.le_of_ble_eq_true rfl) ?_
    refine z_eqi nmM ?_
    refine z_istore_n dX6_numberOf_40 rfl (Nat.le_of_ble_eq_true rfl) ?_
    refine z_iinc dX6_numberOf_41 rfl (nI_1 (p + k)) (Nat.le_of_ble_eq_true rfl) ?_
    refine z_goto dX6_numberOf_44 rfl ?_
    exact ih (k + 1) (by omega)
theorem c_numberOf {h : Hp} {d p e : Nat} {tp : Fl} (tb : TB4 h tp) (e3 : e ≤ 300) (hp : p ≤ e) (hdg : ∀ j, p ≤ j → j < e → 48 ≤ tp j ∧ tp j ≤ 57) (hd : 1 ≤ d) : Sp d mX6_numberOf [.ref 487, .int (nI p), .int (nI e)] h (some (.int (nI (nmC tp p (e - p))))) h := by
  intro N S Q hN hS hQ
  refine z_iconst (v := 0) dX6_numberOf_0 (by decide) ?_
  refine z_istore_n dX6_numberOf_1 rfl (Nat.le_of_ble_eq_true rfl) ?_
  refine z_iconst (v := 0) dX6_numberOf_2 (by decide) ?_
  refine z_iload_n dX6_numberOf_3 rfl rfl ?_
  refine z_mmax Kmax_X6_67 Kmax_static Kini_Math Kmax_code dX6_numberOf_4 (by omega) (Nat.le_of_ble_eq_true rfl) ?_
  refine z_eqi (show _ = nI p from max0_nI (by omega)) ?_
  refine z_istore dX6_numberOf_7 (Nat.le_of_ble_eq_true rfl) ?_
  exact l_numberOf tb e3 hp hdg hd hN hS hQ (e - p) 0 (by omega)

theorem l_isLike {h : Hp} {d s p e N S : Nat} {tp : Fl} {Q : Option Value → Hp → Prop} (tb : TB4 h tp) (e3 : e ≤ 300) (hp : p ≤ e) (hs : s + (e - p) ≤ 170) (hd : 4 ≤ d) (hN : pn h ≤ N) (hS : ps h ≤ S) (hQ : Q (some (.int (bI (∀ j, j < e - p → chW 0 (s + j) = nI (tp (p + j)))))) h) : ∀ r k, k + r = e - p → (∀ j, j < k → chW 0 (s + j) = nI (tp (p + j))) → T d N S mX6_isLike 10 [some (.int (nI s)), some (.ref 487), some (.int (nI p)), some (.int (nI e)), some (.int (nI (s + k))), some (.int (nI (p + k)))] [] h Q := by
  intro r
  induction r with
  | zero =>
    intro k hk al
    rw [bI_t (show (∀ j, j < e - p → chW 0 (s + j) = nI (tp (p + j))) from fun j hj => al j (by omega))] at hQ
    refine z_iload dX6_isLike_10 rfl ?_
    refine z_iload_n dX6_isLike_12 rfl rfl ?_
    refine z_icmp_ge dX6_isLike_13 rfl (fun _ => ?_) (fun c => absurd ((nI_leI (by omega) (by omega)).mpr (by omega)) c)
    refine z_iconst (v := 1) dX6_isLike_63 (by decide) ?_
    refine z_iret dX6_isLike_64 ?_
    exact hQ
  | succ r ih =>
    intro k hk al
    by_cases hm : chW 0 (s + k) = nI (tp (p + k))
    · skip
      refine z_iload dX6_isLike_10 rfl ?_
      refine z_iload_n dX6_isLike_12 rfl rfl ?_
      refine z_icmp_ge dX6_isLike_13 rfl (fun c => absurd c (fun w => absurd ((nI_leI (by omega) (by omega)).mp w) (by omega))) (fun _ => ?_)
      refine z_iload dX6_isLike_16 rfl ?_
      refine z_aload_n dX6_isLike_18 rfl rfl ?_
      refine y_alen dX6_isLike_19 tb.1 ⟨Nat.le_of_ble_eq_true rfl, Nat.le_of_ble_eq_true rfl⟩ rfl ?_
      refine z_icmp_ge dX6_isLike_20 rfl (fun c => absurd c (fun w => absurd ((nI_leI (a := 300) (by omega) (by omega)).mp w) (by omega))) (fun _ => ?_)
      refine z_iload dX6_isLike_23 rfl ?_
      refine z_if_lt dX6_isLike_25 rfl (fun c => absurd c (nI_pos (by omega))) (fun _ => ?_)
      refine z_iload dX6_isLike_28 rfl ?_
      refine z_ldcW rfl dX6_isLike_30 ?_
      refine y_callT (i := 0) (as := []) CJ0_length_8abf5 LX6_72 IJ0_length_8abf5 VJ0_length_8abf5 rfl (by omega) dX6_isLike_32 rfl (Nat.le_of_ble_eq_true rfl) (Nat.le_of_ble_eq_true rfl) (by omega) (s_length (d := 1) (by omega) (Nat.le_refl _)) rok_i ⟨hN, hS⟩ ?_
      refine z_icmp_ge dX6_isLike_35 rfl (fun c => absurd c (fun w => absurd ((nI_leI (a := 170) (by omega) (by omega)).mp w) (by omega))) (fun _ => ?_)
      refine z_ldcW rfl dX6_isLike_38 ?_
      refine z_iload dX6_isLike_40 rfl ?_
      refine y_callT (i := 0) (as := [_]) CJ0_charAt_5068e LX6_76 IJ0_charAt_5068e VJ0_charAt_5068e rfl (by omega) dX6_isLike_42 rfl (Nat.le_of_ble_eq_true rfl) (Nat.le_of_ble_eq_true rfl) (by omega) (s_charAt (d := 3) (j := s + k) (by omega) (by show s + k < 170; omega) (Nat.le_refl _)) (rok_c (by omega) (by show s + k < 170; omega)) ⟨hN, hS⟩ ?_
      refine z_aload_n dX6_isLike_45 rfl rfl ?_
      refine z_iload dX6_isLike_46 rfl ?_
      refine y_ialN (p + k) dX6_isLike_48 tb.1 (Nat.le_of_ble_eq_true rfl) (rfl) (by omega) ?_
      refine z_eqi (tb.2.1 (p + k) (by omega)) ?_
      refine z_icmp_eq dX6_isLike_49 rfl (fun _ => ?_) (fun c => absurd (hm) c)
      refine z_iinc dX6_isLike_54 rfl (nI_1 (s + k)) (Nat.le_of_ble_eq_true rfl) ?_
      refine z_iinc dX6_isLike_57 rfl (nI_1 (p + k)) (Nat.le_of_ble_eq_true rfl) ?_
      refine z_goto dX6_isLike_60 rfl ?_
      exact ih (k + 1) (by omega) (fun j hj => if q : j = k then (by rw [q]; exact hm) else al j (by omega))
    · rw [bI_f (show ¬ (∀ j, j < e - p → chW 0 (s + j) = nI (tp (p + j))) from fun w => hm (w k (by omega)))] at hQ
      refine z_iload dX6_isLike_10 rfl ?_
      refine z_iload_n dX6_isLike_12 rfl rfl ?_
      refine z_icmp_ge dX6_isLike_13 rfl (fun c => absurd c (fun w => absurd ((nI_leI (by omega) (by omega)).mp w) (by omega))) (fun _ => ?_)
      refine z_iload dX6_isLike_16 rfl ?_
      refine z_aload_n dX6_isLike_18 rfl rfl ?_
      refine y_alen dX6_isLike_19 tb.1 ⟨Nat.le_of_ble_eq_true rfl, Nat.le_of_ble_eq_true rfl⟩ rfl ?_
      refine z_icmp_ge dX6_isLike_20 rfl (fun c => absurd c (fun w => absurd ((nI_leI (a := 300) (by omega) (by omega)).mp w) (by omega))) (fun _ => ?_)
      refine z_iload dX6_isLike_23 rfl ?_
      refine z_if_lt dX6_isLike_25 rfl (fun c => absurd c (nI_pos (by omega))) (fun _ => ?_)
      refine z_iload dX6_isLike_28 rfl ?_
      refine z_ldcW rfl dX6_isLike_30 ?_
      refine y_callT (i := 0) (as := []) CJ0_length_8abf5 LX6_72 IJ0_length_8abf5 VJ0_length_8abf5 rfl (by omega) dX6_isLike_32 rfl (Nat.le_of_ble_eq_true rfl) (Nat.le_of_ble_eq_true rfl) (by omega) (s_length (d := 1) (by omega) (Nat.le_refl _)) rok_i ⟨hN, hS⟩ ?_
      refine z_icmp_ge dX6_isLike_35 rfl (fun c => absurd c (fun w => absurd ((nI_leI (a := 170) (by omega) (by omega)).mp w) (by omega))) (fun _ => ?_)
      refine z_ldcW rfl dX6_isLike_38 ?_
      refine z_iload dX6_isLike_40 rfl ?_
      refine y_callT (i := 0) (as := [_]) CJ0_charAt_5068e LX6_76 IJ0_charAt_5068e VJ0_charAt_5068e rfl (by omega) dX6_isLike_42 rfl (Nat.le_of_ble_eq_true rfl) (Nat.le_of_ble_eq_true rfl) (by omega) (s_charAt (d := 3) (j := s + k) (by omega) (by show s + k < 170; omega) (Nat.le_refl _)) (rok_c (by omega) (by show s + k < 170; omega)) ⟨hN, hS⟩ ?_
      refine z_aload_n dX6_isLike_45 rfl rfl ?_
      refine z_iload dX6_isLike_46 rfl ?_
      refine y_ialN (p + k) dX6_isLike_48 tb.1 (Nat.le_of_ble_eq_true rfl) (rfl) (by omega) ?_
      refine z_eqi (tb.2.1 (p + k) (by omega)) ?_
      refine z_icmp_eq dX6_isLike_49 rfl (fun c => absurd c (hm)) (fun _ => ?_)
      refine z_iconst (v := 0) dX6_isLike_52 (by decide) ?_
      refine z_iret dX6_isLike_53 ?_
      exact hQ
theorem c_isLike {h : Hp} {d s p e : Nat} {tp : Fl} (tb : TB4 h tp) (e3 : e ≤ 300) (hp : p ≤ e) (hs : s + (e - p) ≤ 170) (hd : 4 ≤ d) : Sp d mX6_isLike [.int (nI s), .ref 487, .int (nI p), .int (nI e)] h (some (.int (bI (∀ j, j < e - p → chW 0 (s + j) = nI (tp (p + j)))))) h := by
  intro N S Q hN hS hQ
  refine z_iload_n dX6_isLike_0 rfl rfl ?_
  refine z_istore dX6_isLike_1 (Nat.le_of_ble_eq_true rfl) ?_
  refine z_iconst (v := 0) dX6_isLike_3 (by decide) ?_
  refine z_iload_n dX6_isLike_4 rfl rfl ?_
  refine z_mmax Kmax_X6_67 Kmax_static Kini_Math Kmax_code dX6_isLike_5 (by omega) (Nat.le_of_ble_eq_true rfl) ?_
  refine z_eqi (show _ = nI p from max0_nI (by omega)) ?_
  refine z_istore dX6_isLike_8 (Nat.le_of_ble_eq_true rfl) ?_
  exact l_isLike tb e3 hp hs hd hN hS hQ (e - p) 0 (by omega) (fun j hj => absurd hj (by omega))

/-- where the words begin -/
def ofW : Nat → Nat
  | 0 => 0
  | k + 1 => ofW k + (WDs.getD k []).length + 1
abbrev lnW (k : Nat) : Nat := (WDs.getD k []).length
theorem wd_ch : ∀ k, k < 35 → ∀ j, j < lnW k → chW 0 (ofW k + j) = nI ((WDs.getD k []).getD j 0) ∧ ¬ chW 0 (ofW k + j) = 32 := by decide +kernel
theorem wd_sp : ∀ k, k < 35 → chW 0 (ofW k + lnW k) = 32 ∧ ofW k + lnW k < 170 ∧ lnW k ≤ 8 := by decide +kernel
theorem wd_b : ∀ k, k < 35 → ∀ j, j < lnW k → (WDs.getD k []).getD j 0 < 256 := by decide +kernel
theorem wd_dr : ∀ k, k < 35 → WDs.drop k = WDs.getD k [] :: WDs.drop (k + 1) := by decide +kernel
/-- the letters of a word -/
theorem l_word1 {h : Hp} {d w s p e N S E : Nat} {Q : Option Value → Hp → Prop} (hE : E < 170) (hd : 4 ≤ d) (hN : pn h ≤ N) (hS : ps h ≤ S) (K : T d N S mX6_wordOf 8 [some (.ref 487), some (.int (nI p)), some (.int (nI e)), some (.int (nI (w))), some (.int (nI (s))), some (.int (nI (E)))] [] h Q) : ∀ r i, i + r = E → (∀ j, i ≤ j → j < E → ¬ chW 0 j = 32) → T d N S mX6_wordOf 8 [some (.ref 487), some (.int (nI p)), some (.int (nI e)), some (.int (nI (w))), some (.int (nI (s))), some (.int (nI (i)))] [] h Q := by
  intro r
  induction r with
  | zero =>
    intro i hi _
    have ei : i = E := by omega
    rw [ei]
    exact K
  | succ r ih =>
    intro i hi al
    refine z_iload dX6_wordOf_8 rfl ?_
    refine z_ldcW rfl dX6_wordOf_10 ?_
    refine y_callT (i := 0) (as := []) CJ0_length_8abf5 LX6_72 IJ0_length_8abf5 VJ0_length_8abf5 rfl (by omega) dX6_wordOf_12 rfl (Nat.le_of_ble_eq_true rfl) (Nat.le_of_ble_eq_true rfl) (by omega) (s_length (d := 1) (by omega) (Nat.le_refl _)) rok_i ⟨hN, hS⟩ ?_
    refine z_icmp_ge dX6_wordOf_15 rfl (fun c => absurd c (fun w => absurd ((nI_leI (a := 170) (by omega) (by omega)).mp w) (by omega))) (fun _ => ?_)
    refine z_ldcW rfl dX6_wordOf_18 ?_
    refine z_iload dX6_wordOf_20 rfl ?_
    refine y_callT (i := 0) (as := [_]) CJ0_charAt_5068e LX6_76 IJ0_charAt_5068e VJ0_charAt_5068e rfl (by omega) dX6_wordOf_22 rfl (Nat.le_of_ble_eq_true rfl) (Nat.le_of_ble_eq_true rfl) (by omega) (s_charAt (d := 3) (j := i) (by omega) (by show _ < 170; omega) (Nat.le_refl _)) (rok_c (by omega) (by show _ < 170; omega)) ⟨hN, hS⟩ ?_
    refine z_bipush (v := 32) dX6_wordOf_25 (by decide) ?_
    refine z_icmp_ne dX6_wordOf_27 rfl (fun _ => ?_) (fun c => absurd c (al i (by omega) (by omega)))
    refine z_iinc dX6_wordOf_63 rfl (nI_1 i) (Nat.le_of_ble_eq_true rfl) ?_
    refine z_goto dX6_wordOf_66 rfl ?_
    exact ih (i + 1) (by omega) (fun j q1 q2 => al j (by omega) q2)
theorem l_wordOf {h : Hp} {d p e N S : Nat} {tp : Fl} {Q : Option Value → Hp → Prop} (tb : TB4 h tp) (e3 : e ≤ 300) (hp : p ≤ e) (hd : 5 ≤ d) (hN : pn h ≤ N) (hS : ps h ≤ S) : ∀ r k, k + r = 35 → Q (some (.int (nI (fdW tp p e (WDs.drop k) (k + 1))))) h → T d N S mX6_wordOf 8 [some (.ref 487), some (.int (nI p)), some (.int (nI e)), some (.int (nI (k + 1))), some (.int (nI (ofW k))), some (.int (nI (ofW k)))] [] h Q := by
  intro r
  induction r with
  | zero =>
    intro k hk hQ
    have ek : k = 35 := by omega
    subst ek
    have hQ : Q (some (.int (nI 53))) h := hQ
    have eo : ofW 35 = 170 := by decide
    rw [eo]
    refine z_iload dX6_wordOf_8 rfl ?_
    refine z_ldcW rfl dX6_wordOf_10 ?_
    refine y_callT (i := 0) (as := []) CJ0_length_8abf5 LX6_72 IJ0_length_8abf5 VJ0_length_8abf5 rfl (by omega) dX6_wordOf_12 rfl (Nat.le_of_ble_eq_true rfl) (Nat.le_of_ble_eq_true rfl) (by omega) (s_length (d := 1) (by omega) (Nat.le_refl _)) rok_i ⟨hN, hS⟩ ?_
    refine z_icmp_ge dX6_wordOf_15 rfl (fun _ => ?_) (fun c => absurd (by decide) c)
    refine z_bipush (v := 53) dX6_wordOf_69 (by decide) ?_
    refine z_iret dX6_wordOf_71 ?_
    exact hQ
  | succ r ih =>
    intro k hk hQ
    have k35 : k < 35 := by omega
    obtain ⟨sp1, sp2, sp3⟩ := wd_sp k k35
    rw [wd_dr k k35] at hQ
    have eo : ofW (k + 1) = ofW k + lnW k + 1 := rfl
    have go : ¬ mt tp p e (WDs.getD k []) = true → T d N S mX6_wordOf 54 [some (.ref 487), some (.int (nI p)), some (.int (nI e)), some (.int (nI (k + 1))), some (.int (nI (ofW k))), some (.int (nI (ofW k + lnW k)))] [] h Q := by
      intro hm
      have hQ : Q (some (.int (nI (if mt tp p e (WDs.getD k []) = true then k + 1 else fdW tp p e (WDs.drop (k + 1)) (k + 1 + 1))))) h := hQ
      rw [if_neg hm] at hQ
      refine z_iinc dX6_wordOf_54 rfl (nI_1 (k + 1)) (Nat.le_of_ble_eq_true rfl) ?_
      refine z_iload dX6_wordOf_57 rfl ?_
      refine z_iconst (v := 1) dX6_wordOf_59 (by decide) ?_
      refine z_iadd dX6_wordOf_60 ?_
      refine z_eqi (nI_1 (ofW k + lnW k)) ?_
      refine z_istore dX6_wordOf_61 (Nat.le_of_ble_eq_true rfl) ?_
      refine z_iinc dX6_wordOf_63 rfl (nI_1 (ofW k + lnW k)) (Nat.le_of_ble_eq_true rfl) ?_
      refine z_goto dX6_wordOf_66 rfl ?_
      exact ih (k + 1) (by omega) hQ
    refine l_word1 (E := ofW k + lnW k) sp2 (by omega) hN hS ?_ (lnW k) (ofW k) rfl (fun j q1 q2 => ?_)
    · by_cases hl : e - p = lnW k
      · by_cases hm : mt tp p e (WDs.getD k []) = true
        · have hQ : Q (some (.int (nI (if mt tp p e (WDs.getD k []) = true then k + 1 else fdW tp p e (WDs.drop (k + 1)) (k + 1 + 1))))) h := hQ
          rw [if_pos hm] at hQ
          have hm2 := (mt_iff.mp hm).2
          have lk : (∀ j, j < e - p → chW 0 (ofW k + j) = nI (tp (p + j))) := fun j hj => by rw [(wd_ch k k35 j (by omega)).1, hm2 j (by show j < lnW k; omega)]
          refine z_iload dX6_wordOf_8 rfl ?_
          refine z_ldcW rfl dX6_wordOf_10 ?_
          refine y_callT (i := 0) (as := []) CJ0_length_8abf5 LX6_72 IJ0_length_8abf5 VJ0_length_8abf5 rfl (by omega) dX6_wordOf_12 rfl (Nat.le_of_ble_eq_true rfl) (Nat.le_of_ble_eq_true rfl) (by omega) (s_length (d := 1) (by omega) (Nat.le_refl _)) rok_i ⟨hN, hS⟩ ?_
          refine z_icmp_ge dX6_wordOf_15 rfl (fun c => absurd c (fun w => absurd ((nI_leI (a := 170) (by omega) (by omega)).mp w) (by omega))) (fun _ => ?_)
          refine z_ldcW rfl dX6_wordOf_18 ?_
          refine z_iload dX6_wordOf_20 rfl ?_
          refine y_callT (i := 0) (as := [_]) CJ0_charAt_5068e LX6_76 IJ0_charAt_5068e VJ0_charAt_5068e rfl (by omega) dX6_wordOf_22 rfl (Nat.le_of_ble_eq_true rfl) (Nat.le_of_ble_eq_true rfl) (by omega) (s_charAt (d := 3) (j := ofW k + lnW k) (by omega) (by show _ < 170; omega) (Nat.le_refl _)) (rok_c (by omega) (by show _ < 170; omega)) ⟨hN, hS⟩ ?_
          refine z_bipush (v := 32) dX6_wordOf_25 (by decide) ?_
          refine z_icmp_ne dX6_wordOf_27 rfl (fun c => absurd (sp1) c) (fun _ => ?_)
          refine z_iload dX6_wordOf_30 rfl ?_
          refine z_iload dX6_wordOf_32 rfl ?_
          refine z_isub dX6_wordOf_34 ?_
          refine z_eqi (nI_sb (ofW k) (lnW k)) ?_
          refine z_iload_n dX6_wordOf_35 rfl rfl ?_
          refine z_iload_n dX6_wordOf_36 rfl rfl ?_
          refine z_isub dX6_wordOf_37 ?_
          refine z_eqi (nI_sb2 hp) ?_
          refine z_icmp_ne dX6_wordOf_38 rfl (fun c => absurd (congrArg nI hl.symm) c) (fun _ => ?_)
          refine z_iload dX6_wordOf_41 rfl ?_
          refine z_aload_n dX6_wordOf_43 rfl rfl ?_
          refine z_iload_n dX6_wordOf_44 rfl rfl ?_
          refine z_iload_n dX6_wordOf_45 rfl rfl ?_
          refine y_callS (as := [_, _, _, _]) CX6_isLike LX6_80 SX6_isLike dX6_wordOf_46 rfl (Nat.le_of_ble_eq_true rfl) (Nat.le_of_ble_eq_true rfl) (by omega) (c_isLike (d := 4) tb e3 hp (by omega) (Nat.le_refl _)) (rok_z bI_01) ⟨Nat.le_refl _, Nat.le_refl _, hN, hS⟩ ?_
          refine z_if_eq dX6_wordOf_49 rfl (fun c => absurd c (bI_ne0.mpr lk)) (fun _ => ?_)
          refine z_iload_n dX6_wordOf_52 rfl rfl ?_
          refine z_iret dX6_wordOf_53 ?_
          exact hQ
        · have lk : ¬ (∀ j, j < e - p → chW 0 (ofW k + j) = nI (tp (p + j))) := fun w => hm (mt_iff.mpr ⟨hl, fun j hj => by
            have hj : j < lnW k := hj
            have w1 := w j (by omega)
            rw [(wd_ch k k35 j hj).1] at w1
            exact ((nI_eq (by have := wd_b k k35 j hj; omega) (by have := tb.2.2 (p + j) (by omega); omega)).mp w1).symm⟩)
          refine z_iload dX6_wordOf_8 rfl ?_
          refine z_ldcW rfl dX6_wordOf_10 ?_
          refine y_callT (i := 0) (as := []) CJ0_length_8abf5 LX6_72 IJ0_length_8abf5 VJ0_length_8abf5 rfl (by omega) dX6_wordOf_12 rfl (Nat.le_of_ble_eq_true rfl) (Nat.le_of_ble_eq_true rfl) (by omega) (s_length (d := 1) (by omega) (Nat.le_refl _)) rok_i ⟨hN, hS⟩ ?_
          refine z_icmp_ge dX6_wordOf_15 rfl (fun c => absurd c (fun w => absurd ((nI_leI (a := 170) (by omega) (by omega)).mp w) (by omega))) (fun _ => ?_)
          refine z_ldcW rfl dX6_wordOf_18 ?_
          refine z_iload dX6_wordOf_20 rfl ?_
          refine y_callT (i := 0) (as := [_]) CJ0_charAt_5068e LX6_76 IJ0_charAt_5068e VJ0_charAt_5068e rfl (by omega) dX6_wordOf_22 rfl (Nat.le_of_ble_eq_true rfl) (Nat.le_of_ble_eq_true rfl) (by omega) (s_charAt (d := 3) (j := ofW k + lnW k) (by omega) (by show _ < 170; omega) (Nat.le_refl _)) (rok_c (by omega) (by show _ < 170; omega)) ⟨hN, hS⟩ ?_
          refine z_bipush (v := 32) dX6_wordOf_25 (by decide) ?_
          refine z_icmp_ne dX6_wordOf_27 rfl (fun c => absurd (sp1) c) (fun _ => ?_)
          refine z_iload dX6_wordOf_30 rfl ?_
          refine z_iload dX6_wordOf_32 rfl ?_
          refine z_isub dX6_wordOf_34 ?_
          refine z_eqi (nI_sb (ofW k) (lnW k)) ?_
          refine z_iload_n dX6_wordOf_35 rfl rfl ?_
          refine z_iload_n dX6_wordOf_36 rfl rfl ?_
          refine z_isub dX6_wordOf_37 ?_
          refine z_eqi (nI_sb2 hp) ?_
          refine z_icmp_ne dX6_wordOf_38 rfl (fun c => absurd (congrArg nI hl.symm) c) (fun _ => ?_)
          refine z_iload dX6_wordOf_41 rfl ?_
          refine z_aload_n dX6_wordOf_43 rfl rfl ?_
          refine z_iload_n dX6_wordOf_44 rfl rfl ?_
          refine z_iload_n dX6_wordOf_45 rfl rfl ?_
          refine y_callS (as := [_, _, _, _]) CX6_isLike LX6_80 SX6_isLike dX6_wordOf_46 rfl (Nat.le_of_ble_eq_true rfl) (Nat.le_of_ble_eq_true rfl) (by omega) (c_isLike (d := 4) tb e3 hp (by omega) (Nat.le_refl _)) (rok_z bI_01) ⟨Nat.le_refl _, Nat.le_refl _, hN, hS⟩ ?_
          refine z_if_eq dX6_wordOf_49 rfl (fun _ => ?_) (fun c => absurd (bI_eq0.mpr lk) c)
          exact go hm
      · skip
        refine z_iload dX6_wordOf_8 rfl ?_
        refine z_ldcW rfl dX6_wordOf_10 ?_
        refine y_callT (i := 0) (as := []) CJ0_length_8abf5 LX6_72 IJ0_length_8abf5 VJ0_length_8abf5 rfl (by omega) dX6_wordOf_12 rfl (Nat.le_of_ble_eq_true rfl) (Nat.le_of_ble_eq_true rfl) (by omega) (s_length (d := 1) (by omega) (Nat.le_refl _)) rok_i ⟨hN, hS⟩ ?_
        refine z_icmp_ge dX6_wordOf_15 rfl (fun c => absurd c (fun w => absurd ((nI_leI (a := 170) (by omega) (by omega)).mp w) (by omega))) (fun _ => ?_)
        refine z_ldcW rfl dX6_wordOf_18 ?_
        refine z_iload dX6_wordOf_20 rfl ?_
        refine y_callT (i := 0) (as := [_]) CJ0_charAt_5068e LX6_76 IJ0_charAt_5068e VJ0_charAt_5068e rfl (by omega) dX6_wordOf_22 rfl (Nat.le_of_ble_eq_true rfl) (Nat.le_of_ble_eq_true rfl) (by omega) (s_charAt (d := 3) (j := ofW k + lnW k) (by omega) (by show _ < 170; omega) (Nat.le_refl _)) (rok_c (by omega) (by show _ < 170; omega)) ⟨hN, hS⟩ ?_
        refine z_bipush (v := 32) dX6_wordOf_25 (by decide) ?_
        refine z_icmp_ne dX6_wordOf_27 rfl (fun c => absurd (sp1) c) (fun _ => ?_)
        refine z_iload dX6_wordOf_30 rfl ?_
        refine z_iload dX6_wordOf_32 rfl ?_
        refine z_isub dX6_wordOf_34 ?_
        refine z_eqi (nI_sb (ofW k) (lnW k)) ?_
        refine z_iload_n dX6_wordOf_35 rfl rfl ?_
        refine z_iload_n dX6_wordOf_36 rfl rfl ?_
        refine z_isub dX6_wordOf_37 ?_
        refine z_eqi (nI_sb2 hp) ?_
        refine z_icmp_ne dX6_wordOf_38 rfl (fun _ => ?_) (fun c => absurd c (fun w => hl ((nI_eq (by omega) (by omega)).mp w).symm))
        exact go (fun w => hl (mt_iff.mp w).1)
    · have := wd_ch k k35 (j - ofW k) (by omega)
      rw [show ofW k + (j - ofW k) = j by omega] at this
      exact this.2
theorem c_wordOf {h : Hp} {d p e : Nat} {tp : Fl} (tb : TB4 h tp) (e3 : e ≤ 300) (hp : p ≤ e) (hd : 5 ≤ d) : Sp d mX6_wordOf [.ref 487, .int (nI p), .int (nI e)] h (some (.int (nI (kdW tp p e)))) h := by
  intro N S Q hN hS hQ
  refine z_iconst (v := 1) dX6_wordOf_0 (by decide) ?_
  refine z_istore_n dX6_wordOf_1 rfl (Nat.le_of_ble_eq_true rfl) ?_
  refine z_iconst (v := 0) dX6_wordOf_2 (by decide) ?_
  refine z_istore dX6_wordOf_3 (Nat.le_of_ble_eq_true rfl) ?_
  refine z_iconst (v := 0) dX6_wordOf_5 (by decide) ?_
  refine z_istore dX6_wordOf_6 (Nat.le_of_ble_eq_true rfl) ?_
  exact l_wordOf tb e3 hp hd hN hS 35 0 rfl hQ

