/-! the class takes a tape apart (wip/whole/gena2.py) -/
theorem min3_nI {n : Nat} (h : n ≤ 300) : (if (300 : Int32) < nI n then (300 : Int32) else nI n) = nI n := if_neg (fun w => absurd ((nI_ltI (a := 300) (by omega) (by omega)).mp w) (by omega))

theorem c_add {h : Hp} {d m k v p : Nat} (cr : CR h) (h3 : pI h 473 3 = nI m) (hm : m < 301) : Sp d mX6_add [.ref 473, .int (nI k), .int (nI v), .int (nI p)] h none (sI (sI (sI (sI h 474 m (nI k)) 475 m (nI v)) 476 m (nI p)) 473 3 (nI (m + 1))) := by
  intro N S Q hN hS hQ
  refine z_aload_n dX6_add_0 rfl rfl ?_
  refine y_getI FX6_21 dX6_add_1 (Or.inl rfl) cr.2.2.1 ?_
  refine z_eqi (y := nI (m)) h3 ?_
  refine z_if_lt dX6_add_4 rfl (fun c => absurd c (nI_pos (by omega))) (fun _ => ?_)
  refine z_aload_n dX6_add_7 rfl rfl ?_
  refine y_getI FX6_21 dX6_add_8 (Or.inl rfl) cr.2.2.1 ?_
  refine z_eqi (y := nI (m)) h3 ?_
  refine z_aload_n dX6_add_11 rfl rfl ?_
  refine y_getR FX6_9 dX6_add_12 rfl cr.2.2.1 cr.2.2.2.1.1 ?_
  refine y_alen dX6_add_15 cr.2.2.2.1.2 ⟨Nat.le_of_ble_eq_true rfl, Nat.le_of_ble_eq_true rfl⟩ rfl ?_
  refine z_icmp_ge dX6_add_16 rfl (fun c => absurd c (fun w => absurd ((nI_leI (a := 301) (by omega) (by omega)).mp w) (by omega))) (fun _ => ?_)
  refine z_aload_n dX6_add_19 rfl rfl ?_
  refine y_getI FX6_21 dX6_add_20 (Or.inl rfl) cr.2.2.1 ?_
  refine z_eqi (y := nI (m)) h3 ?_
  refine z_aload_n dX6_add_23 rfl rfl ?_
  refine y_getR FX6_15 dX6_add_24 rfl cr.2.2.1 cr.2.2.2.2.1.1 ?_
  refine y_alen dX6_add_27 cr.2.2.2.2.1.2 ⟨Nat.le_of_ble_eq_true rfl, Nat.le_of_ble_eq_true rfl⟩ rfl ?_
  refine z_icmp_ge dX6_add_28 rfl (fun c => absurd c (fun w => absurd ((nI_leI (a := 301) (by omega) (by omega)).mp w) (by omega))) (fun _ => ?_)
  refine z_aload_n dX6_add_31 rfl rfl ?_
  refine y_getI FX6_21 dX6_add_32 (Or.inl rfl) cr.2.2.1 ?_
  refine z_eqi (y := nI (m)) h3 ?_
  refine z_aload_n dX6_add_35 rfl rfl ?_
  refine y_getR FX6_18 dX6_add_36 rfl cr.2.2.1 cr.2.2.2.2.2.1.1 ?_
  refine y_alen dX6_add_39 cr.2.2.2.2.2.1.2 ⟨Nat.le_of_ble_eq_true rfl, Nat.le_of_ble_eq_true rfl⟩ rfl ?_
  refine z_icmp_ge dX6_add_40 rfl (fun c => absurd c (fun w => absurd ((nI_leI (a := 301) (by omega) (by omega)).mp w) (by omega))) (fun _ => ?_)
  refine z_aload_n dX6_add_43 rfl rfl ?_
  refine y_getR FX6_9 dX6_add_44 rfl cr.2.2.1 cr.2.2.2.1.1 ?_
  refine z_aload_n dX6_add_47 rfl rfl ?_
  refine y_getI FX6_21 dX6_add_48 (Or.inl rfl) cr.2.2.1 ?_
  refine z_eqi (y := nI (m)) h3 ?_
  refine z_iload_n dX6_add_51 rfl rfl ?_
  refine y_iasN (m) dX6_add_52 cr.2.2.2.1.2 (Nat.le_of_ble_eq_true rfl) (rfl) (by omega) ?_
  refine z_aload_n dX6_add_53 rfl rfl ?_
  refine y_getR FX6_15 dX6_add_54 rfl cr.2.2.1 cr.2.2.2.2.1.1 ?_
  refine z_aload_n dX6_add_57 rfl rfl ?_
  refine y_getI FX6_21 dX6_add_58 (Or.inl rfl) cr.2.2.1 ?_
  refine z_eqi (y := nI (m)) (show _ = nI m by rw [pI_sI_ne (by omega)]; exact h3) ?_
  refine z_iload_n dX6_add_61 rfl rfl ?_
  refine y_iasN (m) dX6_add_62 cr.2.2.2.2.1.2 (Nat.le_of_ble_eq_true rfl) (rfl) (by omega) ?_
  refine z_aload_n dX6_add_63 rfl rfl ?_
  refine y_getR FX6_18 dX6_add_64 rfl cr.2.2.1 cr.2.2.2.2.2.1.1 ?_
  refine z_aload_n dX6_add_67 rfl rfl ?_
  refine y_getI FX6_21 dX6_add_68 (Or.inl rfl) cr.2.2.1 ?_
  refine z_eqi (y := nI (m)) (show _ = nI m by rw [pI_sI_ne (by omega), pI_sI_ne (by omega)]; exact h3) ?_
  refine z_iload_n dX6_add_71 rfl rfl ?_
  refine y_iasN (m) dX6_add_72 cr.2.2.2.2.2.1.2 (Nat.le_of_ble_eq_true rfl) (rfl) (by omega) ?_
  refine z_aload_n dX6_add_73 rfl rfl ?_
  refine z_dup dX6_add_74 rfl ?_
  refine y_getI FX6_21 dX6_add_75 (Or.inl rfl) cr.2.2.1 ?_
  refine z_eqi (y := nI (m)) (show _ = nI m by rw [pI_sI_ne (by omega), pI_sI_ne (by omega), pI_sI_ne (by omega)]; exact h3) ?_
  refine z_iconst (v := 1) dX6_add_78 (by decide) ?_
  refine z_iadd dX6_add_79 ?_
  refine z_eqi (nI_1 m) ?_
  refine y_putI FX6_21 dX6_add_80 (Or.inl rfl) (Or.inl rfl) cr.2.2.1 ?_
  refine z_vret dX6_add_83 ?_
  exact hQ
/-- m tokens are laid; since h0 nothing but the tokens has changed -/
def TK4 (h0 : Hp) (tp : Fl) (n m : Nat) (h : Hp) : Prop := SS h0 h ∧ pJ h = pJ h0 ∧ (∀ k, k ≠ 473 → k ≠ 474 → k ≠ 475 → k ≠ 476 → pI h k = pI h0 k) ∧ (∀ j, j ≠ 3 → pI h 473 j = pI h0 473 j) ∧ pI h 473 3 = nI m ∧ (∀ j, j < m → pI h 474 j = nI (tK tp n j) ∧ (tK tp n j = 52 → pI h 475 j = nI (nmC tp (tP tp n j) (tkE tp n (tP tp n j) - tP tp n j))) ∧ pI h 476 j = nI (tP tp n j))
theorem TK4.add {h0 h : Hp} {tp : Fl} {n m v : Nat} (q : TK4 h0 tp n m h) (hv : tK tp n m = 52 → v = nmC tp (tP tp n m) (tkE tp n (tP tp n m) - tP tp n m)) : TK4 h0 tp n (m + 1) (sI (sI (sI (sI h 474 m (nI (tK tp n m))) 475 m (nI v)) 476 m (nI (tP tp n m))) 473 3 (nI (m + 1))) := by
  refine ⟨q.1, q.2.1, fun k k1 k2 k3 k4 => ?_, fun j hj => ?_, ?_, fun j hj => ?_⟩
  · rw [pI_sI_ne k1, pI_sI_ne k4, pI_sI_ne k3, pI_sI_ne k2]; exact q.2.2.1 k k1 k2 k3 k4
  · rw [pI_sI, if_pos rfl, if_neg hj, pI_sI_ne (by omega), pI_sI_ne (by omega), pI_sI_ne (by omega)]; exact q.2.2.2.1 j hj
  · rw [pI_sI, if_pos rfl, if_pos rfl]
  · rw [pI_sI_ne (a := 474) (by omega), pI_sI_ne (a := 474) (by omega), pI_sI_ne (a := 474) (by omega), pI_sI_ne (a := 475) (by omega), pI_sI_ne (a := 475) (by omega), pI_sI_ne (a := 476) (by omega)]
    rw [pI_sI (a := 474), if_pos rfl, pI_sI (a := 475), if_pos rfl, pI_sI (a := 476), if_pos rfl, pI_sI_ne (a := 475) (by omega), pI_sI_ne (a := 476) (by omega), pI_sI_ne (a := 476) (by omega)]
    by_cases e : j = m
    · subst e
      rw [if_pos rfl, if_pos rfl, if_pos rfl]
      exact ⟨rfl, fun w => by rw [hv w], rfl⟩
    · rw [if_neg e, if_neg e, if_neg e]
      exact q.2.2.2.2.2 j (by omega)
theorem TK4.cr {h0 h : Hp} {tp : Fl} {n m : Nat} (q : TK4 h0 tp n m h) (cr : CR h0) : CR h := q.1.cr cr
theorem TK4.tb {h0 h : Hp} {tp : Fl} {n m : Nat} (q : TK4 h0 tp n m h) (tb : TB4 h0 tp) : TB4 h tp := ⟨q.1.A tb.1, by rw [q.2.2.1 487 (by omega) (by omega) (by omega) (by omega)]; exact tb.2.1, tb.2.2⟩

theorem sg_ne (c : Nat) : 40 ≤ sgK c ∧ sgK c ≤ 53 ∧ sgK c ≠ 52 := by
  unfold sgK
  repeat' split
  all_goals omega
theorem sg_ge {c : Nat} (h : ¬ sgK c = 53) : (0 : Int32) ≤ sgI c := by
  have := sg_ne c
  rw [show sgI c = nI (sgK c - 40) from if_neg h]
  exact (nI_leI (a := 0) (by omega) (by omega)).mpr (Nat.zero_le _)
theorem sg_lt {c : Nat} (h : sgK c = 53) : ¬ (0 : Int32) ≤ sgI c := by
  rw [show sgI c = -1 from if_pos h]
  decide
theorem sg_add {c : Nat} (h : ¬ sgK c = 53) : 40 + sgI c = nI (sgK c) := by
  have := sg_ne c
  rw [show sgI c = nI (sgK c - 40) from if_neg h, show (40 : Int32) = nI 40 from rfl, nI_add, show 40 + (sgK c - 40) = sgK c by omega]
theorem i2c_nI : ∀ {c : Nat}, c < 256 → ((nI c).toUInt32 % 65536).toInt32 = nI c := by
  have : ∀ c, c < 256 → ((nI c).toUInt32 % 65536).toInt32 = nI c := by decide +kernel
  intro c hc
  exact this c hc

theorem l_split {h0 : Hp} {tp : Fl} {n : Nat} {tl : Int32} {d : Nat} (cr0 : CR h0) (tb0 : TB4 h0 tp) (n3 : n ≤ 300) (hd : 7 ≤ d) : ∀ r p m t (a6 a7 a8 : Option Value) h, n - p = r → p ≤ n → t ≤ p → rnF isSp tp n p = tP tp n m → m ≤ p → (∀ j, j < m → tK tp n j ≠ 54) → TK4 h0 tp n m h → ∃ m2 h2, m2 ≤ n ∧ tK tp n m2 = 54 ∧ (∀ j, j < m2 → tK tp n j ≠ 54) ∧ TK4 h0 tp n (m2 + 1) h2 ∧ ∀ N S Q, pn h0 ≤ N → ps h0 ≤ S → Q none h2 → T d N S mX6_split 18 [some (.ref 473), some (.ref 487), some (.int tl), some (.int (nI n)), some (.int (nI p)), some (.int (nI t)), a6, a7, a8] [] h Q := by
  intro r
  induction r using Nat.strongRecOn with
  | _ r ih0 =>
  intro p m t a6 a7 a8 h hr pn1 tp1 re mp hk q
  have cr := q.cr cr0
  have tb := q.tb tb0
  by_cases hp : p < n
  · have pb : tp p < 256 := tb.2.2 p (by omega)
    have ih : ∀ p' m' t' (a6 a7 a8 : Option Value) h', p < p' → p' ≤ n → t' ≤ p' → rnF isSp tp n p' = tP tp n m' → m' ≤ p' → (∀ j, j < m' → tK tp n j ≠ 54) → TK4 h0 tp n m' h' → ∃ m2 h2, m2 ≤ n ∧ tK tp n m2 = 54 ∧ (∀ j, j < m2 → tK tp n j ≠ 54) ∧ TK4 h0 tp n (m2 + 1) h2 ∧ ∀ N S Q, pn h0 ≤ N → ps h0 ≤ S → Q none h2 → T d N S mX6_split 18 [some (.ref 473), some (.ref 487), some (.int tl), some (.int (nI n)), some (.int (nI p')), some (.int (nI t')), a6, a7, a8] [] h' Q := fun p' m' t' a6 a7 a8 h' l1 l2 l3 l4 l5 l6 l7 => ih0 (n - p') (by omega) p' m' t' a6 a7 a8 h' rfl l2 l3 l4 l5 l6 l7
    by_cases hs : isSp (tp p) = true
    · have sp : tp p = 32 ∨ tp p = 10 := by
        unfold isSp at hs
        rw [Bool.or_eq_true, decide_eq_true_eq, decide_eq_true_eq] at hs
        exact hs
      have hL : ¬ isL (tp p) = true := fun w => by have := isL_b w; omega
      have hD : ¬ isD (tp p) = true := fun w => by have := isD_b.mp w; omega
      obtain ⟨m2, h2, g1, g2, g3, q2, t2⟩ := ih (p + 1) m (t + 1) (some (.int (nI (tp p)))) (some (.int (nI (p + 1)))) a8 h (by omega) (by omega) (by omega) (by rw [← rnF_y hp hs]; exact re) (by omega) hk q
      refine ⟨m2, h2, g1, g2, g3, q2, ?_⟩
      intro N S Q hN hS hQ
      have hN1 : pn h0 ≤ N := hN
      have hS1 : ps h0 ≤ S := hS
      have hN : pn h ≤ N := ss_n' q.1 hN
      have hS : ps h ≤ S := ss_s' q.1 hS
      by_cases b1 : p + 1 < n
      · by_cases b2 : tp (p + 1) = 61
        · rcases sp with sp | sp
          · skip
            refine z_iload dX6_split_18 rfl ?_
            refine z_sipush (v := 300) dX6_split_20 (by decide) ?_
            refine z_icmp_ge dX6_split_23 rfl (fun c => absurd c (fun w => absurd ((nI_leI (a := 300) (by omega) (by omega)).mp w) (by omega))) (fun _ => ?_)
            refine z_iload dX6_split_26 rfl ?_
            refine z_iload_n dX6_split_28 rfl rfl ?_
            refine z_icmp_ge dX6_split_29 rfl (fun c => absurd c (fun w => absurd ((nI_leI (by omega) (by omega)).mp w) (by omega))) (fun _ => ?_)
            refine z_aload_n dX6_split_32 rfl rfl ?_
            refine z_iload dX6_split_33 rfl ?_
            refine y_ialN (p) dX6_split_35 tb.1 (Nat.le_of_ble_eq_true rfl) (rfl) (by omega) ?_
            refine z_eqi (tb.2.1 p (by omega)) ?_
            refine z_istore dX6_split_36 (Nat.le_of_ble_eq_true rfl) ?_
            refine z_iload dX6_split_38 rfl ?_
            refine z_iconst (v := 1) dX6_split_40 (by decide) ?_
            refine z_iadd dX6_split_41 ?_
            refine z_eqi (nI_1 p) ?_
            refine z_istore dX6_split_42 (Nat.le_of_ble_eq_true rfl) ?_
            refine z_iload dX6_split_44 rfl ?_
            refine y_callS (as := [_]) CX6_isLetter LX6_31 SX6_isLetter dX6_split_46 rfl (Nat.le_of_ble_eq_true rfl) (Nat.le_of_ble_eq_true rfl) (by omega) (c_isLetter (d := 1) pb (Nat.le_refl _)) (rok_z bI_01) ⟨Nat.le_refl _, Nat.le_refl _, hN, hS⟩ ?_
            refine z_if_eq dX6_split_49 rfl (fun _ => ?_) (fun c => absurd (bI_eq0.mpr hL) c)
            refine z_iload dX6_split_79 rfl ?_
            refine y_callS (as := [_]) CX6_isDigit LX6_46 SX6_isDigit dX6_split_81 rfl (Nat.le_of_ble_eq_true rfl) (Nat.le_of_ble_eq_true rfl) (by omega) (c_isDigit (d := 1) pb (Nat.le_refl _)) (rok_z bI_01) ⟨Nat.le_refl _, Nat.le_refl _, hN, hS⟩ ?_
            refine z_if_eq dX6_split_84 rfl (fun _ => ?_) (fun c => absurd (bI_eq0.mpr hD) c)
            refine z_iload dX6_split_115 rfl ?_
            refine z_iload_n dX6_split_117 rfl rfl ?_
            refine z_icmp_ge dX6_split_118 rfl (fun c => absurd c (fun w => absurd ((nI_leI (by omega) (by omega)).mp w) (by omega))) (fun _ => ?_)
            refine z_aload_n dX6_split_121 rfl rfl ?_
            refine z_iload dX6_split_122 rfl ?_
            refine y_ialN (p + 1) dX6_split_124 tb.1 (Nat.le_of_ble_eq_true rfl) (rfl) (by omega) ?_
            refine z_eqi (tb.2.1 (p + 1) (by omega)) ?_
            refine z_bipush (v := 61) dX6_split_125 (by decide) ?_
            refine z_icmp_ne dX6_split_127 rfl (fun c => absurd (congrArg nI b2) c) (fun _ => ?_)
            refine z_iload dX6_split_130 rfl ?_
            refine z_bipush (v := 60) dX6_split_132 (by decide) ?_
            refine z_icmp_eq dX6_split_134 rfl (fun c => absurd c (fun w => absurd ((nI_eq (b := 60) (by omega) (by omega)).mp w) (by omega))) (fun _ => ?_)
            refine z_iload dX6_split_137 rfl ?_
            refine z_bipush (v := 62) dX6_split_139 (by decide) ?_
            refine z_icmp_ne dX6_split_141 rfl (fun _ => ?_) (fun c => absurd c (fun w => absurd ((nI_eq (b := 62) (by omega) (by omega)).mp w) (by omega)))
            refine z_iload dX6_split_171 rfl ?_
            refine z_bipush (v := 32) dX6_split_173 (by decide) ?_
            refine z_icmp_eq dX6_split_175 rfl (fun _ => ?_) (fun c => absurd (congrArg nI sp) c)
            show T d N S mX6_split 217 [some (.ref 473), some (.ref 487), some (.int tl), some (.int (nI n)), some (.int (nI p)), some (.int (nI t)), some (.int (nI (tp p))), some (.int (nI (p + 1))), a8] [] _ Q
            refine z_iload dX6_split_217 rfl ?_
            refine z_istore dX6_split_219 (Nat.le_of_ble_eq_true rfl) ?_
            refine z_iinc dX6_split_221 rfl (nI_1 t) (Nat.le_of_ble_eq_true rfl) ?_
            refine z_goto dX6_split_224 rfl ?_
            exact t2 N S Q hN1 hS1 hQ
          · skip
            refine z_iload dX6_split_18 rfl ?_
            refine z_sipush (v := 300) dX6_split_20 (by decide) ?_
            refine z_icmp_ge dX6_split_23 rfl (fun c => absurd c (fun w => absurd ((nI_leI (a := 300) (by omega) (by omega)).mp w) (by omega))) (fun _ => ?_)
            refine z_iload dX6_split_26 rfl ?_
            refine z_iload_n dX6_split_28 rfl rfl ?_
            refine z_icmp_ge dX6_split_29 rfl (fun c => absurd c (fun w => absurd ((nI_leI (by omega) (by omega)).mp w) (by omega))) (fun _ => ?_)
            refine z_aload_n dX6_split_32 rfl rfl ?_
            refine z_iload dX6_split_33 rfl ?_
            refine y_ialN (p) dX6_split_35 tb.1 (Nat.le_of_ble_eq_true rfl) (rfl) (by omega) ?_
            refine z_eqi (tb.2.1 p (by omega)) ?_
            refine z_istore dX6_split_36 (Nat.le_of_ble_eq_true rfl) ?_
            refine z_iload dX6_split_38 rfl ?_
            refine z_iconst (v := 1) dX6_split_40 (by decide) ?_
            refine z_iadd dX6_split_41 ?_
            refine z_eqi (nI_1 p) ?_
            refine z_istore dX6_split_42 (Nat.le_of_ble_eq_true rfl) ?_
            refine z_iload dX6_split_44 rfl ?_
            refine y_callS (as := [_]) CX6_isLetter LX6_31 SX6_isLetter dX6_split_46 rfl (Nat.le_of_ble_eq_true rfl) (Nat.le_of_ble_eq_true rfl) (by omega) (c_isLetter (d := 1) pb (Nat.le_refl _)) (rok_z bI_01) ⟨Nat.le_refl _, Nat.le_refl _, hN, hS⟩ ?_
            refine z_if_eq dX6_split_49 rfl (fun _ => ?_) (fun c => absurd (bI_eq0.mpr hL) c)
            refine z_iload dX6_split_79 rfl ?_
            refine y_callS (as := [_]) CX6_isDigit LX6_46 SX6_isDigit dX6_split_81 rfl (Nat.le_of_ble_eq_true rfl) (Nat.le_of_ble_eq_true rfl) (by omega) (c_isDigit (d := 1) pb (Nat.le_refl _)) (rok_z bI_01) ⟨Nat.le_refl _, Nat.le_refl _, hN, hS⟩ ?_
            refine z_if_eq dX6_split_84 rfl (fun _ => ?_) (fun c => absurd (bI_eq0.mpr hD) c)
            refine z_iload dX6_split_115 rfl ?_
            refine z_iload_n dX6_split_117 rfl rfl ?_
            refine z_icmp_ge dX6_split_118 rfl (fun c => absurd c (fun w => absurd ((nI_leI (by omega) (by omega)).mp w) (by omega))) (fun _ => ?_)
            refine z_aload_n dX6_split_121 rfl rfl ?_
            refine z_iload dX6_split_122 rfl ?_
            refine y_ialN (p + 1) dX6_split_124 tb.1 (Nat.le_of_ble_eq_true rfl) (rfl) (by omega) ?_
            refine z_eqi (tb.2.1 (p + 1) (by omega)) ?_
            refine z_bipush (v := 61) dX6_split_125 (by decide) ?_
            refine z_icmp_ne dX6_split_127 rfl (fun c => absurd (congrArg nI b2) c) (fun _ => ?_)
            refine z_iload dX6_split_130 rfl ?_
            refine z_bipush (v := 60) dX6_split_132 (by decide) ?_
            refine z_icmp_eq dX6_split_134 rfl (fun c => absurd c (fun w => absurd ((nI_eq (b := 60) (by omega) (by omega)).mp w) (by omega))) (fun _ => ?_)
            refine z_iload dX6_split_137 rfl ?_
            refine z_bipush (v := 62) dX6_split_139 (by decide) ?_
            refine z_icmp_ne dX6_split_141 rfl (fun _ => ?_) (fun c => absurd c (fun w => absurd ((nI_eq (b := 62) (by omega) (by omega)).mp w) (by omega)))
            refine z_iload dX6_split_171 rfl ?_
            refine z_bipush (v := 32) dX6_split_173 (by decide) ?_
            refine z_icmp_eq dX6_split_175 rfl (fun c => absurd c (fun w => absurd ((nI_eq (b := 32) (by omega) (by omega)).mp w) (by omega))) (fun _ => ?_)
            refine z_iload dX6_split_178 rfl ?_
            refine z_bipush (v := 10) dX6_split_180 (by decide) ?_
            refine z_icmp_eq dX6_split_182 rfl (fun _ => ?_) (fun c => absurd (congrArg nI sp) c)
            show T d N S mX6_split 217 [some (.ref 473), some (.ref 487), some (.int tl), some (.int (nI n)), some (.int (nI p)), some (.int (nI t)), some (.int (nI (tp p))), some (.int (nI (p + 1))), a8] [] _ Q
            refine z_iload dX6_split_217 rfl ?_
            refine z_istore dX6_split_219 (Nat.le_of_ble_eq_true rfl) ?_
            refine z_iinc dX6_split_221 rfl (nI_1 t) (Nat.le_of_ble_eq_true rfl) ?_
            refine z_goto dX6_split_224 rfl ?_
            exact t2 N S Q hN1 hS1 hQ
        · rcases sp with sp | sp
          · skip
            refine z_iload dX6_split_18 rfl ?_
            refine z_sipush (v := 300) dX6_split_20 (by decide) ?_
            refine z_icmp_ge dX6_split_23 rfl (fun c => absurd c (fun w => absurd ((nI_leI (a := 300) (by omega) (by omega)).mp w) (by omega))) (fun _ => ?_)
            refine z_iload dX6_split_26 rfl ?_
            refine z_iload_n dX6_split_28 rfl rfl ?_
            refine z_icmp_ge dX6_split_29 rfl (fun c => absurd c (fun w => absurd ((nI_leI (by omega) (by omega)).mp w) (by omega))) (fun _ => ?_)
            refine z_aload_n dX6_split_32 rfl rfl ?_
            refine z_iload dX6_split_33 rfl ?_
            refine y_ialN (p) dX6_split_35 tb.1 (Nat.le_of_ble_eq_true rfl) (rfl) (by omega) ?_
            refine z_eqi (tb.2.1 p (by omega)) ?_
            refine z_istore dX6_split_36 (Nat.le_of_ble_eq_true rfl) ?_
            refine z_iload dX6_split_38 rfl ?_
            refine z_iconst (v := 1) dX6_split_40 (by decide) ?_
            refine z_iadd dX6_split_41 ?_
            refine z_eqi (nI_1 p) ?_
            refine z_istore dX6_split_42 (Nat.le_of_ble_eq_true rfl) ?_
            refine z_iload dX6_split_44 rfl ?_
            refine y_callS (as := [_]) CX6_isLetter LX6_31 SX6_isLetter dX6_split_46 rfl (Nat.le_of_ble_eq_true rfl) (Nat.le_of_ble_eq_true rfl) (by omega) (c_isLetter (d := 1) pb (Nat.le_refl _)) (rok_z bI_01) ⟨Nat.le_refl _, Nat.le_refl _, hN, hS⟩ ?_
            refine z_if_eq dX6_split_49 rfl (fun _ => ?_) (fun c => absurd (bI_eq0.mpr hL) c)
            refine z_iload dX6_split_79 rfl ?_
            refine y_callS (as := [_]) CX6_isDigit LX6_46 SX6_isDigit dX6_split_81 rfl (Nat.le_of_ble_eq_true rfl) (Nat.le_of_ble_eq_true rfl) (by omega) (c_isDigit (d := 1) pb (Nat.le_refl _)) (rok_z bI_01) ⟨Nat.le_refl _, Nat.le_refl _, hN, hS⟩ ?_
            refine z_if_eq dX6_split_84 rfl (fun _ => ?_) (fun c => absurd (bI_eq0.mpr hD) c)
            refine z_iload dX6_split_115 rfl ?_
            refine z_iload_n dX6_split_117 rfl rfl ?_
            refine z_icmp_ge dX6_split_118 rfl (fun c => absurd c (fun w => absurd ((nI_leI (by omega) (by omega)).mp w) (by omega))) (fun _ => ?_)
            refine z_aload_n dX6_split_121 rfl rfl ?_
            refine z_iload dX6_split_122 rfl ?_
            refine y_ialN (p + 1) dX6_split_124 tb.1 (Nat.le_of_ble_eq_true rfl) (rfl) (by omega) ?_
            refine z_eqi (tb.2.1 (p + 1) (by omega)) ?_
            refine z_bipush (v := 61) dX6_split_125 (by decide) ?_
            refine z_icmp_ne dX6_split_127 rfl (fun _ => ?_) (fun c => absurd c (fun w => absurd ((nI_eq (b := 61) (by have := tb.2.2 (p + 1) (by omega); omega) (by omega)).mp w) (by omega)))
            refine z_iload dX6_split_171 rfl ?_
            refine z_bipush (v := 32) dX6_split_173 (by decide) ?_
            refine z_icmp_eq dX6_split_175 rfl (fun _ => ?_) (fun c => absurd (congrArg nI sp) c)
            show T d N S mX6_split 217 [some (.ref 473), some (.ref 487), some (.int tl), some (.int (nI n)), some (.int (nI p)), some (.int (nI t)), some (.int (nI (tp p))), some (.int (nI (p + 1))), a8] [] _ Q
            refine z_iload dX6_split_217 rfl ?_
            refine z_istore dX6_split_219 (Nat.le_of_ble_eq_true rfl) ?_
            refine z_iinc dX6_split_221 rfl (nI_1 t) (Nat.le_of_ble_eq_true rfl) ?_
            refine z_goto dX6_split_224 rfl ?_
            exact t2 N S Q hN1 hS1 hQ
          · skip
            refine z_iload dX6_split_18 rfl ?_
            refine z_sipush (v := 300) dX6_split_20 (by decide) ?_
            refine z_icmp_ge dX6_split_23 rfl (fun c => absurd c (fun w => absurd ((nI_leI (a := 300) (by omega) (by omega)).mp w) (by omega))) (fun _ => ?_)
            refine z_iload dX6_split_26 rfl ?_
            refine z_iload_n dX6_split_28 rfl rfl ?_
            refine z_icmp_ge dX6_split_29 rfl (fun c => absurd c (fun w => absurd ((nI_leI (by omega) (by omega)).mp w) (by omega))) (fun _ => ?_)
            refine z_aload_n dX6_split_32 rfl rfl ?_
            refine z_iload dX6_split_33 rfl ?_
            refine y_ialN (p) dX6_split_35 tb.1 (Nat.le_of_ble_eq_true rfl) (rfl) (by omega) ?_
            refine z_eqi (tb.2.1 p (by omega)) ?_
            refine z_istore dX6_split_36 (Nat.le_of_ble_eq_true rfl) ?_
            refine z_iload dX6_split_38 rfl ?_
            refine z_iconst (v := 1) dX6_split_40 (by decide) ?_
            refine z_iadd dX6_split_41 ?_
            refine z_eqi (nI_1 p) ?_
            refine z_istore dX6_split_42 (Nat.le_of_ble_eq_true rfl) ?_
            refine z_iload dX6_split_44 rfl ?_
            refine y_callS (as := [_]) CX6_isLetter LX6_31 SX6_isLetter dX6_split_46 rfl (Nat.le_of_ble_eq_true rfl) (Nat.le_of_ble_eq_true rfl) (by omega) (c_isLetter (d := 1) pb (Nat.le_refl _)) (rok_z bI_01) ⟨Nat.le_refl _, Nat.le_refl _, hN, hS⟩ ?_
            refine z_if_eq dX6_split_49 rfl (fun _ => ?_) (fun c => absurd (bI_eq0.mpr hL) c)
            refine z_iload dX6_split_79 rfl ?_
            refine y_callS (as := [_]) CX6_isDigit LX6_46 SX6_isDigit dX6_split_81 rfl (Nat.le_of_ble_eq_true rfl) (Nat.le_of_ble_eq_true rfl) (by omega) (c_isDigit (d := 1) pb (Nat.le_refl _)) (rok_z bI_01) ⟨Nat.le_refl _, Nat.le_refl _, hN, hS⟩ ?_
            refine z_if_eq dX6_split_84 rfl (fun _ => ?_) (fun c => absurd (bI_eq0.mpr hD) c)
            refine z_iload dX6_split_115 rfl ?_
            refine z_iload_n dX6_split_117 rfl rfl ?_
            refine z_icmp_ge dX6_split_118 rfl (fun c => absurd c (fun w => absurd ((nI_leI (by omega) (by omega)).mp w) (by omega))) (fun _ => ?_)
            refine z_aload_n dX6_split_121 rfl rfl ?_
            refine z_iload dX6_split_122 rfl ?_
            refine y_ialN (p + 1) dX6_split_124 tb.1 (Nat.le_of_ble_eq_true rfl) (rfl) (by omega) ?_
            refine z_eqi (tb.2.1 (p + 1) (by omega)) ?_
            refine z_bipush (v := 61) dX6_split_125 (by decide) ?_
            refine z_icmp_ne dX6_split_127 rfl (fun _ => ?_) (fun c => absurd c (fun w => absurd ((nI_eq (b := 61) (by have := tb.2.2 (p + 1) (by omega); omega) (by omega)).mp w) (by omega)))
            refine z_iload dX6_split_171 rfl ?_
            refine z_bipush (v := 32) dX6_split_173 (by decide) ?_
            refine z_icmp_eq dX6_split_175 rfl (fun c => absurd c (fun w => absurd ((nI_eq (b := 32) (by omega) (by omega)).mp w) (by omega))) (fun _ => ?_)
            refine z_iload dX6_split_178 rfl ?_
            refine z_bipush (v := 10) dX6_split_180 (by decide) ?_
            refine z_icmp_eq dX6_split_182 rfl (fun _ => ?_) (fun c => absurd (congrArg nI sp) c)
            show T d N S mX6_split 217 [some (.ref 473), some (.ref 487), some (.int tl), some (.int (nI n)), some (.int (nI p)), some (.int (nI t)), some (.int (nI (tp p))), some (.int (nI (p + 1))), a8] [] _ Q
            refine z_iload dX6_split_217 rfl ?_
            refine z_istore dX6_split_219 (Nat.le_of_ble_eq_true rfl) ?_
            refine z_iinc dX6_split_221 rfl (nI_1 t) (Nat.le_of_ble_eq_true rfl) ?_
            refine z_goto dX6_split_224 rfl ?_
            exact t2 N S Q hN1 hS1 hQ
      · rcases sp with sp | sp
        · skip
          refine z_iload dX6_split_18 rfl ?_
          refine z_sipush (v := 300) dX6_split_20 (by decide) ?_
          refine z_icmp_ge dX6_split_23 rfl (fun c => absurd c (fun w => absurd ((nI_leI (a := 300) (by omega) (by omega)).mp w) (by omega))) (fun _ => ?_)
          refine z_iload dX6_split_26 rfl ?_
          refine z_iload_n dX6_split_28 rfl rfl ?_
          refine z_icmp_ge dX6_split_29 rfl (fun c => absurd c (fun w => absurd ((nI_leI (by omega) (by omega)).mp w) (by omega))) (fun _ => ?_)
          refine z_aload_n dX6_split_32 rfl rfl ?_
          refine z_iload dX6_split_33 rfl ?_
          refine y_ialN (p) dX6_split_35 tb.1 (Nat.le_of_ble_eq_true rfl) (rfl) (by omega) ?_
          refine z_eqi (tb.2.1 p (by omega)) ?_
          refine z_istore dX6_split_36 (Nat.le_of_ble_eq_true rfl) ?_
          refine z_iload dX6_split_38 rfl ?_
          refine z_iconst (v := 1) dX6_split_40 (by decide) ?_
          refine z_iadd dX6_split_41 ?_
          refine z_eqi (nI_1 p) ?_
          refine z_istore dX6_split_42 (Nat.le_of_ble_eq_true rfl) ?_
          refine z_iload dX6_split_44 rfl ?_
          refine y_callS (as := [_]) CX6_isLetter LX6_31 SX6_isLetter dX6_split_46 rfl (Nat.le_of_ble_eq_true rfl) (Nat.le_of_ble_eq_true rfl) (by omega) (c_isLetter (d := 1) pb (Nat.le_refl _)) (rok_z bI_01) ⟨Nat.le_refl _, Nat.le_refl _, hN, hS⟩ ?_
          refine z_if_eq dX6_split_49 rfl (fun _ => ?_) (fun c => absurd (bI_eq0.mpr hL) c)
          refine z_iload dX6_split_79 rfl ?_
          refine y_callS (as := [_]) CX6_isDigit LX6_46 SX6_isDigit dX6_split_81 rfl (Nat.le_of_ble_eq_true rfl) (Nat.le_of_ble_eq_true rfl) (by omega) (c_isDigit (d := 1) pb (Nat.le_refl _)) (rok_z bI_01) ⟨Nat.le_refl _, Nat.le_refl _, hN, hS⟩ ?_
          refine z_if_eq dX6_split_84 rfl (fun _ => ?_) (fun c => absurd (bI_eq0.mpr hD) c)
          refine z_iload dX6_split_115 rfl ?_
          refine z_iload_n dX6_split_117 rfl rfl ?_
          refine z_icmp_ge dX6_split_118 rfl (fun _ => ?_) (fun c => absurd ((nI_leI (by omega) (by omega)).mpr (by omega)) c)
          refine z_iload dX6_split_171 rfl ?_
          refine z_bipush (v := 32) dX6_split_173 (by decide) ?_
          refine z_icmp_eq dX6_split_175 rfl (fun _ => ?_) (fun c => absurd (congrArg nI sp) c)
          show T d N S mX6_split 217 [some (.ref 473), some (.ref 487), some (.int tl), some (.int (nI n)), some (.int (nI p)), some (.int (nI t)), some (.int (nI (tp p))), some (.int (nI (p + 1))), a8] [] _ Q
          refine z_iload dX6_split_217 rfl ?_
          refine z_istore dX6_split_219 (Nat.le_of_ble_eq_true rfl) ?_
          refine z_iinc dX6_split_221 rfl (nI_1 t) (Nat.le_of_ble_eq_true rfl) ?_
          refine z_goto dX6_split_224 rfl ?_
          exact t2 N S Q hN1 hS1 hQ
        · skip
          refine z_iload dX6_split_18 rfl ?_
          refine z_sipush (v := 300) dX6_split_20 (by decide) ?_
          refine z_icmp_ge dX6_split_23 rfl (fun c => absurd c (fun w => absurd ((nI_leI (a := 300) (by omega) (by omega)).mp w) (by omega))) (fun _ => ?_)
          refine z_iload dX6_split_26 rfl ?_
          refine z_iload_n dX6_split_28 rfl rfl ?_
          refine z_icmp_ge dX6_split_29 rfl (fun c => absurd c (fun w => absurd ((nI_leI (by omega) (by omega)).mp w) (by omega))) (fun _ => ?_)
          refine z_aload_n dX6_split_32 rfl rfl ?_
          refine z_iload dX6_split_33 rfl ?_
          refine y_ialN (p) dX6_split_35 tb.1 (Nat.le_of_ble_eq_true rfl) (rfl) (by omega) ?_
          refine z_eqi (tb.2.1 p (by omega)) ?_
          refine z_istore dX6_split_36 (Nat.le_of_ble_eq_true rfl) ?_
          refine z_iload dX6_split_38 rfl ?_
          refine z_iconst (v := 1) dX6_split_40 (by decide) ?_
          refine z_iadd dX6_split_41 ?_
          refine z_eqi (nI_1 p) ?_
          refine z_istore dX6_split_42 (Nat.le_of_ble_eq_true rfl) ?_
          refine z_iload dX6_split_44 rfl ?_
          refine y_callS (as := [_]) CX6_isLetter LX6_31 SX6_isLetter dX6_split_46 rfl (Nat.le_of_ble_eq_true rfl) (Nat.le_of_ble_eq_true rfl) (by omega) (c_isLetter (d := 1) pb (Nat.le_refl _)) (rok_z bI_01) ⟨Nat.le_refl _, Nat.le_refl _, hN, hS⟩ ?_
          refine z_if_eq dX6_split_49 rfl (fun _ => ?_) (fun c => absurd (bI_eq0.mpr hL) c)
          refine z_iload dX6_split_79 rfl ?_
          refine y_callS (as := [_]) CX6_isDigit LX6_46 SX6_isDigit dX6_split_81 rfl (Nat.le_of_ble_eq_true rfl) (Nat.le_of_ble_eq_true rfl) (by omega) (c_isDigit (d := 1) pb (Nat.le_refl _)) (rok_z bI_01) ⟨Nat.le_refl _, Nat.le_refl _, hN, hS⟩ ?_
          refine z_if_eq dX6_split_84 rfl (fun _ => ?_) (fun c => absurd (bI_eq0.mpr hD) c)
          refine z_iload dX6_split_115 rfl ?_
          refine z_iload_n dX6_split_117 rfl rfl ?_
          refine z_icmp_ge dX6_split_118 rfl (fun _ => ?_) (fun c => absurd ((nI_leI (by omega) (by omega)).mpr (by omega)) c)
          refine z_iload dX6_split_171 rfl ?_
          refine z_bipush (v := 32) dX6_split_173 (by decide) ?_
          refine z_icmp_eq dX6_split_175 rfl (fun c => absurd c (fun w => absurd ((nI_eq (b := 32) (by omega) (by omega)).mp w) (by omega))) (fun _ => ?_)
          refine z_iload dX6_split_178 rfl ?_
          refine z_bipush (v := 10) dX6_split_180 (by decide) ?_
          refine z_icmp_eq dX6_split_182 rfl (fun _ => ?_) (fun c => absurd (congrArg nI sp) c)
          show T d N S mX6_split 217 [some (.ref 473), some (.ref 487), some (.int tl), some (.int (nI n)), some (.int (nI p)), some (.int (nI t)), some (.int (nI (tp p))), some (.int (nI (p + 1))), a8] [] _ Q
          refine z_iload dX6_split_217 rfl ?_
          refine z_istore dX6_split_219 (Nat.le_of_ble_eq_true rfl) ?_
          refine z_iinc dX6_split_221 rfl (nI_1 t) (Nat.le_of_ble_eq_true rfl) ?_
          refine z_goto dX6_split_224 rfl ?_
          exact t2 N S Q hN1 hS1 hQ
    · have pe : p = tP tp n m := by rw [← re]; exact (rnF_n (fun w => hs w.2)).symm
      have tKe : tK tp n m = tkK tp n p := by show tkK tp n (tP tp n m) = _; rw [← pe]
      have tAe : tA tp n (m + 1) = tkE tp n p := by show tkE tp n (tP tp n m) = _; rw [← pe]
      have le1 := (tkE_b (tp := tp) pn1).1
      have le2 := (tkE_b (tp := tp) pn1).2.2 hp
      have sgn := sg_ne (tp p)
      by_cases hL : isL (tp p) = true
      · skip
        have eL : rnF isL tp n p ≤ 300 := by have := rnF_le (P := isL) (tp := tp) pn1; omega
        have lg := rnF_gt hp hL
        have kb := kdW_le (tp := tp) (p := p) (e := rnF isL tp n p)
        have lp := rnF_le (P := isL) (tp := tp) pn1
        have kd : tK tp n m = kdW tp p (rnF isL tp n p) := by rw [tKe]; exact (show tkK tp n p = _ by unfold tkK; rw [if_neg (by omega), if_pos hL])
        have en : tA tp n (m + 1) = rnF isL tp n p := by rw [tAe]; exact (show tkE tp n p = _ by unfold tkE; rw [if_neg (by omega), if_pos hL])
        have sa := c_add (d := 0) (k := kdW tp p (rnF isL tp n p)) (v := 0) (p := p) cr q.2.2.2.2.1 (by omega)
        have q1 := q.add (v := 0) (fun w => absurd w (by rw [kd]; omega))
        rw [kd, ← pe] at q1
        obtain ⟨m2, h2, g1, g2, g3, q2, t2⟩ := ih (rnF isL tp n p) (m + 1) (t + 1) (some (.int (nI (tp p)))) (some (.int (nI (rnF isL tp n p)))) a8 _ (by omega) (by omega) (by omega) (by show rnF isSp tp n _ = rnF isSp tp n _; rw [en]) (by omega) (fun j hj => if w : j = m then (by rw [w, kd]; omega) else hk j (by omega)) q1
        refine ⟨m2, h2, g1, g2, g3, q2, ?_⟩
        intro N S Q hN hS hQ
        have hN1 : pn h0 ≤ N := hN
        have hS1 : ps h0 ≤ S := hS
        have hN : pn h ≤ N := ss_n' q.1 hN
        have hS : ps h ≤ S := ss_s' q.1 hS
        refine z_iload dX6_split_18 rfl ?_
        refine z_sipush (v := 300) dX6_split_20 (by decide) ?_
        refine z_icmp_ge dX6_split_23 rfl (fun c => absurd c (fun w => absurd ((nI_leI (a := 300) (by omega) (by omega)).mp w) (by omega))) (fun _ => ?_)
        refine z_iload dX6_split_26 rfl ?_
        refine z_iload_n dX6_split_28 rfl rfl ?_
        refine z_icmp_ge dX6_split_29 rfl (fun c => absurd c (fun w => absurd ((nI_leI (by omega) (by omega)).mp w) (by omega))) (fun _ => ?_)
        refine z_aload_n dX6_split_32 rfl rfl ?_
        refine z_iload dX6_split_33 rfl ?_
        refine y_ialN (p) dX6_split_35 tb.1 (Nat.le_of_ble_eq_true rfl) (rfl) (by omega) ?_
        refine z_eqi (tb.2.1 p (by omega)) ?_
        refine z_istore dX6_split_36 (Nat.le_of_ble_eq_true rfl) ?_
        refine z_iload dX6_split_38 rfl ?_
        refine z_iconst (v := 1) dX6_split_40 (by decide) ?_
        refine z_iadd dX6_split_41 ?_
        refine z_eqi (nI_1 p) ?_
        refine z_istore dX6_split_42 (Nat.le_of_ble_eq_true rfl) ?_
        refine z_iload dX6_split_44 rfl ?_
        refine y_callS (as := [_]) CX6_isLetter LX6_31 SX6_isLetter dX6_split_46 rfl (Nat.le_of_ble_eq_true rfl) (Nat.le_of_ble_eq_true rfl) (by omega) (c_isLetter (d := 1) pb (Nat.le_refl _)) (rok_z bI_01) ⟨Nat.le_refl _, Nat.le_refl _, hN, hS⟩ ?_
        refine z_if_eq dX6_split_49 rfl (fun c => absurd c (bI_ne0.mpr hL)) (fun _ => ?_)
        refine z_aload_n dX6_split_52 rfl rfl ?_
        refine z_iload dX6_split_53 rfl ?_
        refine z_iload_n dX6_split_55 rfl rfl ?_
        refine y_callS (as := [_, _, _]) CX6_behindWord LX6_35 SX6_behindWord dX6_split_56 rfl (Nat.le_of_ble_eq_true rfl) (Nat.le_of_ble_eq_true rfl) (by omega) (c_behindWord (d := 2) tb n3 hp hL (Nat.le_refl _)) rok_i ⟨Nat.le_refl _, Nat.le_refl _, hN, hS⟩ ?_
        refine z_istore dX6_split_59 (Nat.le_of_ble_eq_true rfl) ?_
        refine z_aload_n dX6_split_61 rfl rfl ?_
        refine z_aload_n dX6_split_62 rfl rfl ?_
        refine z_iload dX6_split_63 rfl ?_
        refine z_iload dX6_split_65 rfl ?_
        refine y_callS (as := [_, _, _]) CX6_wordOf LX6_39 SX6_wordOf dX6_split_67 rfl (Nat.le_of_ble_eq_true rfl) (Nat.le_of_ble_eq_true rfl) (by omega) (c_wordOf (d := 5) tb eL (by omega) (Nat.le_refl _)) rok_i ⟨Nat.le_refl _, Nat.le_refl _, hN, hS⟩ ?_
        refine z_iconst (v := 0) dX6_split_70 (by decide) ?_
        refine z_iload dX6_split_71 rfl ?_
        refine y_callV (as := [_, _, _]) CX6_add LX6_42 IX6_add VX6_add ⟨rfl, Nat.le_of_ble_eq_true rfl⟩ dX6_split_73 cr.2.2.1 rfl (Nat.le_of_ble_eq_true rfl) (Nat.le_of_ble_eq_true rfl) (by omega) sa rok_v (hg_ss (q1.1.trans q.1.symm) hN hS) ?_
        refine z_goto dX6_split_76 rfl ?_
        show T d N S mX6_split 217 [some (.ref 473), some (.ref 487), some (.int tl), some (.int (nI n)), some (.int (nI p)), some (.int (nI t)), some (.int (nI (tp p))), some (.int (nI (rnF isL tp n p))), a8] [] _ Q
        refine z_iload dX6_split_217 rfl ?_
        refine z_istore dX6_split_219 (Nat.le_of_ble_eq_true rfl) ?_
        refine z_iinc dX6_split_221 rfl (nI_1 t) (Nat.le_of_ble_eq_true rfl) ?_
        refine z_goto dX6_split_224 rfl ?_
        exact t2 N S Q hN1 hS1 hQ

      by_cases hD : isD (tp p) = true
      · skip
        have eL : rnF isD tp n p ≤ 300 := by have := rnF_le (P := isD) (tp := tp) pn1; omega
        have lg := rnF_gt hp hD
        have lp := rnF_le (P := isD) (tp := tp) pn1
        have kd : tK tp n m = 52 := by rw [tKe]; exact (show tkK tp n p = _ by unfold tkK; rw [if_neg (by omega), if_neg hL, if_pos hD])
        have en : tA tp n (m + 1) = rnF isD tp n p := by rw [tAe]; exact (show tkE tp n p = _ by unfold tkE; rw [if_neg (by omega), if_neg hL, if_pos hD])
        have sa := c_add (d := 0) (k := 52) (v := nmC tp p (rnF isD tp n p - p)) (p := p) cr q.2.2.2.2.1 (by omega)
        have q1 := q.add (v := nmC tp p (rnF isD tp n p - p)) (fun _ => by rw [← pe, ← tAe, en])
        rw [kd, ← pe] at q1
        obtain ⟨m2, h2, g1, g2, g3, q2, t2⟩ := ih (rnF isD tp n p) (m + 1) (t + 1) (some (.int (nI (tp p)))) (some (.int (nI (rnF isD tp n p)))) a8 _ (by omega) (by omega) (by omega) (by show rnF isSp tp n _ = rnF isSp tp n _; rw [en]) (by omega) (fun j hj => if w : j = m then (by rw [w, kd]; omega) else hk j (by omega)) q1
        refine ⟨m2, h2, g1, g2, g3, q2, ?_⟩
        intro N S Q hN hS hQ
        have hN1 : pn h0 ≤ N := hN
        have hS1 : ps h0 ≤ S := hS
        have hN : pn h ≤ N := ss_n' q.1 hN
        have hS : ps h ≤ S := ss_s' q.1 hS
        refine z_iload dX6_split_18 rfl ?_
        refine z_sipush (v := 300) dX6_split_20 (by decide) ?_
        refine z_icmp_ge dX6_split_23 rfl (fun c => absurd c (fun w => absurd ((nI_leI (a := 300) (by omega) (by omega)).mp w) (by omega))) (fun _ => ?_)
        refine z_iload dX6_split_26 rfl ?_
        refine z_iload_n dX6_split_28 rfl rfl ?_
        refine z_icmp_ge dX6_split_29 rfl (fun c => absurd c (fun w => absurd ((nI_leI (by omega) (by omega)).mp w) (by omega))) (fun _ => ?_)
        refine z_aload_n dX6_split_32 rfl rfl ?_
        refine z_iload dX6_split_33 rfl ?_
        refine y_ialN (p) dX6_split_35 tb.1 (Nat.le_of_ble_eq_true rfl) (rfl) (by omega) ?_
        refine z_eqi (tb.2.1 p (by omega)) ?_
        refine z_istore dX6_split_36 (Nat.le_of_ble_eq_true rfl) ?_
        refine z_iload dX6_split_38 rfl ?_
        refine z_iconst (v := 1) dX6_split_40 (by decide) ?_
        refine z_iadd dX6_split_41 ?_
        refine z_eqi (nI_1 p) ?_
        refine z_istore dX6_split_42 (Nat.le_of_ble_eq_true rfl) ?_
        refine z_iload dX6_split_44 rfl ?_
        refine y_callS (as := [_]) CX6_isLetter LX6_31 SX6_isLetter dX6_split_46 rfl (Nat.le_of_ble_eq_true rfl) (Nat.le_of_ble_eq_true rfl) (by omega) (c_isLetter (d := 1) pb (Nat.le_refl _)) (rok_z bI_01) ⟨Nat.le_refl _, Nat.le_refl _, hN, hS⟩ ?_
        refine z_if_eq dX6_split_49 rfl (fun _ => ?_) (fun c => absurd (bI_eq0.mpr hL) c)
        refine z_iload dX6_split_79 rfl ?_
        refine y_callS (as := [_]) CX6_isDigit LX6_46 SX6_isDigit dX6_split_81 rfl (Nat.le_of_ble_eq_true rfl) (Nat.le_of_ble_eq_true rfl) (by omega) (c_isDigit (d := 1) pb (Nat.le_refl _)) (rok_z bI_01) ⟨Nat.le_refl _, Nat.le_refl _, hN, hS⟩ ?_
        refine z_if_eq dX6_split_84 rfl (fun c => absurd c (bI_ne0.mpr hD)) (fun _ => ?_)
        refine z_aload_n dX6_split_87 rfl rfl ?_
        refine z_iload dX6_split_88 rfl ?_
        refine z_iload_n dX6_split_90 rfl rfl ?_
        refine y_callS (as := [_, _, _]) CX6_behindNumber LX6_49 SX6_behindNumber dX6_split_91 rfl (Nat.le_of_ble_eq_true rfl) (Nat.le_of_ble_eq_true rfl) (by omega) (c_behindNumber (d := 2) tb n3 hp hD (Nat.le_refl _)) rok_i ⟨Nat.le_refl _, Nat.le_refl _, hN, hS⟩ ?_
        refine z_istore dX6_split_94 (Nat.le_of_ble_eq_true rfl) ?_
        refine z_aload_n dX6_split_96 rfl rfl ?_
        refine z_bipush (v := 52) dX6_split_97 (by decide) ?_
        refine z_aload_n dX6_split_99 rfl rfl ?_
        refine z_iload dX6_split_100 rfl ?_
        refine z_iload dX6_split_102 rfl ?_
        refine y_callS (as := [_, _, _]) CX6_numberOf LX6_52 SX6_numberOf dX6_split_104 rfl (Nat.le_of_ble_eq_true rfl) (Nat.le_of_ble_eq_true rfl) (by omega) (c_numberOf (d := 1) tb eL (by omega) (fun j j1 j2 => isD_b.mp (rnF_all j1 j2).2) (Nat.le_refl _)) rok_i ⟨Nat.le_refl _, Nat.le_refl _, hN, hS⟩ ?_
        refine z_iload dX6_split_107 rfl ?_
        refine y_callV (as := [_, _, _]) CX6_add LX6_42 IX6_add VX6_add ⟨rfl, Nat.le_of_ble_eq_true rfl⟩ dX6_split_109 cr.2.2.1 rfl (Nat.le_of_ble_eq_true rfl) (Nat.le_of_ble_eq_true rfl) (by omega) sa rok_v (hg_ss (q1.1.trans q.1.symm) hN hS) ?_
        refine z_goto dX6_split_112 rfl ?_
        show T d N S mX6_split 217 [some (.ref 473), some (.ref 487), some (.int tl), some (.int (nI n)), some (.int (nI p)), some (.int (nI t)), some (.int (nI (tp p))), some (.int (nI (rnF isD tp n p))), a8] [] _ Q
        refine z_iload dX6_split_217 rfl ?_
        refine z_istore dX6_split_219 (Nat.le_of_ble_eq_true rfl) ?_
        refine z_iinc dX6_split_221 rfl (nI_1 t) (Nat.le_of_ble_eq_true rfl) ?_
        refine z_goto dX6_split_224 rfl ?_
        exact t2 N S Q hN1 hS1 hQ

      by_cases t22 : two2 tp n p
      · obtain ⟨b1, b2, b34⟩ := id t22
        rcases b34 with b3 | b3
        · skip
          have kd : tK tp n m = 38 := by rw [tKe]; exact (show tkK tp n p = _ by unfold tkK; rw [if_neg (by omega), if_neg hL, if_neg hD, if_pos t22, if_pos b3])
          have en : tA tp n (m + 1) = p + 2 := by rw [tAe]; exact (show tkE tp n p = _ by unfold tkE; rw [if_neg (by omega), if_neg hL, if_neg hD, if_pos t22])
          have sa := c_add (d := 0) (k := 38) (v := 0) (p := p) cr q.2.2.2.2.1 (by omega)
          have q1 := q.add (v := 0) (fun w => absurd w (by rw [kd]; omega))
          rw [kd, ← pe] at q1
          obtain ⟨m2, h2, g1, g2, g3, q2, t2⟩ := ih (p + 2) (m + 1) (t + 1) (some (.int (nI (tp p)))) (some (.int (nI (p + 2)))) a8 _ (by omega) (by omega) (by omega) (by show rnF isSp tp n _ = rnF isSp tp n _; rw [en]) (by omega) (fun j hj => if w : j = m then (by rw [w, kd]; omega) else hk j (by omega)) q1
          refine ⟨m2, h2, g1, g2, g3, q2, ?_⟩
          intro N S Q hN hS hQ
          have hN1 : pn h0 ≤ N := hN
          have hS1 : ps h0 ≤ S := hS
          have hN : pn h ≤ N := ss_n' q.1 hN
          have hS : ps h ≤ S := ss_s' q.1 hS
          refine z_iload dX6_split_18 rfl ?_
          refine z_sipush (v := 300) dX6_split_20 (by decide) ?_
          refine z_icmp_ge dX6_split_23 rfl (fun c => absurd c (fun w => absurd ((nI_leI (a := 300) (by omega) (by omega)).mp w) (by omega))) (fun _ => ?_)
          refine z_iload dX6_split_26 rfl ?_
          refine z_iload_n dX6_split_28 rfl rfl ?_
          refine z_icmp_ge dX6_split_29 rfl (fun c => absurd c (fun w => absurd ((nI_leI (by omega) (by omega)).mp w) (by omega))) (fun _ => ?_)
          refine z_aload_n dX6_split_32 rfl rfl ?_
          refine z_iload dX6_split_33 rfl ?_
          refine y_ialN (p) dX6_split_35 tb.1 (Nat.le_of_ble_eq_true rfl) (rfl) (by omega) ?_
          refine z_eqi (tb.2.1 p (by omega)) ?_
          refine z_istore dX6_split_36 (Nat.le_of_ble_eq_true rfl) ?_
          refine z_iload dX6_split_38 rfl ?_
          refine z_iconst (v := 1) dX6_split_40 (by decide) ?_
          refine z_iadd dX6_split_41 ?_
          refine z_eqi (nI_1 p) ?_
          refine z_istore dX6_split_42 (Nat.le_of_ble_eq_true rfl) ?_
          refine z_iload dX6_split_44 rfl ?_
          refine y_callS (as := [_]) CX6_isLetter LX6_31 SX6_isLetter dX6_split_46 rfl (Nat.le_of_ble_eq_true rfl) (Nat.le_of_ble_eq_true rfl) (by omega) (c_isLetter (d := 1) pb (Nat.le_refl _)) (rok_z bI_01) ⟨Nat.le_refl _, Nat.le_refl _, hN, hS⟩ ?_
          refine z_if_eq dX6_split_49 rfl (fun _ => ?_) (fun c => absurd (bI_eq0.mpr hL) c)
          refine z_iload dX6_split_79 rfl ?_
          refine y_callS (as := [_]) CX6_isDigit LX6_46 SX6_isDigit dX6_split_81 rfl (Nat.le_of_ble_eq_true rfl) (Nat.le_of_ble_eq_true rfl) (by omega) (c_isDigit (d := 1) pb (Nat.le_refl _)) (rok_z bI_01) ⟨Nat.le_refl _, Nat.le_refl _, hN, hS⟩ ?_
          refine z_if_eq dX6_split_84 rfl (fun _ => ?_) (fun c => absurd (bI_eq0.mpr hD) c)
          refine z_iload dX6_split_115 rfl ?_
          refine z_iload_n dX6_split_117 rfl rfl ?_
          refine z_icmp_ge dX6_split_118 rfl (fun c => absurd c (fun w => absurd ((nI_leI (by omega) (by omega)).mp w) (by omega))) (fun _ => ?_)
          refine z_aload_n dX6_split_121 rfl rfl ?_
          refine z_iload dX6_split_122 rfl ?_
          refine y_ialN (p + 1) dX6_split_124 tb.1 (Nat.le_of_ble_eq_true rfl) (rfl) (by omega) ?_
          refine z_eqi (tb.2.1 (p + 1) (by omega)) ?_
          refine z_bipush (v := 61) dX6_split_125 (by decide) ?_
          refine z_icmp_ne dX6_split_127 rfl (fun c => absurd (congrArg nI b2) c) (fun _ => ?_)
          refine z_iload dX6_split_130 rfl ?_
          refine z_bipush (v := 60) dX6_split_132 (by decide) ?_
          refine z_icmp_eq dX6_split_134 rfl (fun _ => ?_) (fun c => absurd (congrArg nI b3) c)
          refine z_iinc dX6_split_144 rfl (nI_1 (p + 1)) (Nat.le_of_ble_eq_true rfl) ?_
          refine z_aload_n dX6_split_147 rfl rfl ?_
          refine z_iload dX6_split_148 rfl ?_
          refine z_bipush (v := 60) dX6_split_150 (by decide) ?_
          refine z_icmp_ne dX6_split_152 rfl (fun c => absurd (congrArg nI b3) c) (fun _ => ?_)
          refine z_bipush (v := 38) dX6_split_155 (by decide) ?_
          refine z_goto dX6_split_157 rfl ?_
          refine z_iconst (v := 0) dX6_split_162 (by decide) ?_
          refine z_iload dX6_split_163 rfl ?_
          refine y_callV (as := [_, _, _]) CX6_add LX6_42 IX6_add VX6_add ⟨rfl, Nat.le_of_ble_eq_true rfl⟩ dX6_split_165 cr.2.2.1 rfl (Nat.le_of_ble_eq_true rfl) (Nat.le_of_ble_eq_true rfl) (by omega) sa rok_v (hg_ss (q1.1.trans q.1.symm) hN hS) ?_
          refine z_goto dX6_split_168 rfl ?_
          show T d N S mX6_split 217 [some (.ref 473), some (.ref 487), some (.int tl), some (.int (nI n)), some (.int (nI p)), some (.int (nI t)), some (.int (nI (tp p))), some (.int (nI (p + 2))), a8] [] _ Q
          refine z_iload dX6_split_217 rfl ?_
          refine z_istore dX6_split_219 (Nat.le_of_ble_eq_true rfl) ?_
          refine z_iinc dX6_split_221 rfl (nI_1 t) (Nat.le_of_ble_eq_true rfl) ?_
          refine z_goto dX6_split_224 rfl ?_
          exact t2 N S Q hN1 hS1 hQ

        · skip
          have kd : tK tp n m = 39 := by rw [tKe]; exact (show tkK tp n p = _ by unfold tkK; rw [if_neg (by omega), if_neg hL, if_neg hD, if_pos t22, if_neg (by omega)])
          have en : tA tp n (m + 1) = p + 2 := by rw [tAe]; exact (show tkE tp n p = _ by unfold tkE; rw [if_neg (by omega), if_neg hL, if_neg hD, if_pos t22])
          have sa := c_add (d := 0) (k := 39) (v := 0) (p := p) cr q.2.2.2.2.1 (by omega)
          have q1 := q.add (v := 0) (fun w => absurd w (by rw [kd]; omega))
          rw [kd, ← pe] at q1
          obtain ⟨m2, h2, g1, g2, g3, q2, t2⟩ := ih (p + 2) (m + 1) (t + 1) (some (.int (nI (tp p)))) (some (.int (nI (p + 2)))) a8 _ (by omega) (by omega) (by omega) (by show rnF isSp tp n _ = rnF isSp tp n _; rw [en]) (by omega) (fun j hj => if w : j = m then (by rw [w, kd]; omega) else hk j (by omega)) q1
          refine ⟨m2, h2, g1, g2, g3, q2, ?_⟩
          intro N S Q hN hS hQ
          have hN1 : pn h0 ≤ N := hN
          have hS1 : ps h0 ≤ S := hS
          have hN : pn h ≤ N := ss_n' q.1 hN
          have hS : ps h ≤ S := ss_s' q.1 hS
          refine z_iload dX6_split_18 rfl ?_
          refine z_sipush (v := 300) dX6_split_20 (by decide) ?_
          refine z_icmp_ge dX6_split_23 rfl (fun c => absurd c (fun w => absurd ((nI_leI (a := 300) (by omega) (by omega)).mp w) (by omega))) (fun _ => ?_)
          refine z_iload dX6_split_26 rfl ?_
          refine z_iload_n dX6_split_28 rfl rfl ?_
          refine z_icmp_ge dX6_split_29 rfl (fun c => absurd c (fun w => absurd ((nI_leI (by omega) (by omega)).mp w) (by omega))) (fun _ => ?_)
          refine z_aload_n dX6_split_32 rfl rfl ?_
          refine z_iload dX6_split_33 rfl ?_
          refine y_ialN (p) dX6_split_35 tb.1 (Nat.le_of_ble_eq_true rfl) (rfl) (by omega) ?_
          refine z_eqi (tb.2.1 p (by omega)) ?_
          refine z_istore dX6_split_36 (Nat.le_of_ble_eq_true rfl) ?_
          refine z_iload dX6_split_38 rfl ?_
          refine z_iconst (v := 1) dX6_split_40 (by decide) ?_
          refine z_iadd dX6_split_41 ?_
          refine z_eqi (nI_1 p) ?_
          refine z_istore dX6_split_42 (Nat.le_of_ble_eq_true rfl) ?_
          refine z_iload dX6_split_44 rfl ?_
          refine y_callS (as := [_]) CX6_isLetter LX6_31 SX6_isLetter dX6_split_46 rfl (Nat.le_of_ble_eq_true rfl) (Nat.le_of_ble_eq_true rfl) (by omega) (c_isLetter (d := 1) pb (Nat.le_refl _)) (rok_z bI_01) ⟨Nat.le_refl _, Nat.le_refl _, hN, hS⟩ ?_
          refine z_if_eq dX6_split_49 rfl (fun _ => ?_) (fun c => absurd (bI_eq0.mpr hL) c)
          refine z_iload dX6_split_79 rfl ?_
          refine y_callS (as := [_]) CX6_isDigit LX6_46 SX6_isDigit dX6_split_81 rfl (Nat.le_of_ble_eq_true rfl) (Nat.le_of_ble_eq_true rfl) (by omega) (c_isDigit (d := 1) pb (Nat.le_refl _)) (rok_z bI_01) ⟨Nat.le_refl _, Nat.le_refl _, hN, hS⟩ ?_
          refine z_if_eq dX6_split_84 rfl (fun _ => ?_) (fun c => absurd (bI_eq0.mpr hD) c)
          refine z_iload dX6_split_115 rfl ?_
          refine z_iload_n dX6_split_117 rfl rfl ?_
          refine z_icmp_ge dX6_split_118 rfl (fun c => absurd c (fun w => absurd ((nI_leI (by omega) (by omega)).mp w) (by omega))) (fun _ => ?_)
          refine z_aload_n dX6_split_121 rfl rfl ?_
          refine z_iload dX6_split_122 rfl ?_
          refine y_ialN (p + 1) dX6_split_124 tb.1 (Nat.le_of_ble_eq_true rfl) (rfl) (by omega) ?_
          refine z_eqi (tb.2.1 (p + 1) (by omega)) ?_
          refine z_bipush (v := 61) dX6_split_125 (by decide) ?_
          refine z_icmp_ne dX6_split_127 rfl (fun c => absurd (congrArg nI b2) c) (fun _ => ?_)
          refine z_iload dX6_split_130 rfl ?_
          refine z_bipush (v := 60) dX6_split_132 (by decide) ?_
          refine z_icmp_eq dX6_split_134 rfl (fun c => absurd c (fun w => absurd ((nI_eq (b := 60) (by omega) (by omega)).mp w) (by omega))) (fun _ => ?_)
          refine z_iload dX6_split_137 rfl ?_
          refine z_bipush (v := 62) dX6_split_139 (by decide) ?_
          refine z_icmp_ne dX6_split_141 rfl (fun c => absurd (congrArg nI b3) c) (fun _ => ?_)
          refine z_iinc dX6_split_144 rfl (nI_1 (p + 1)) (Nat.le_of_ble_eq_true rfl) ?_
          refine z_aload_n dX6_split_147 rfl rfl ?_
          refine z_iload dX6_split_148 rfl ?_
          refine z_bipush (v := 60) dX6_split_150 (by decide) ?_
          refine z_icmp_ne dX6_split_152 rfl (fun _ => ?_) (fun c => absurd c (fun w => absurd ((nI_eq (b := 60) (by omega) (by omega)).mp w) (by omega)))
          refine z_bipush (v := 39) dX6_split_160 (by decide) ?_
          refine z_iconst (v := 0) dX6_split_162 (by decide) ?_
          refine z_iload dX6_split_163 rfl ?_
          refine y_callV (as := [_, _, _]) CX6_add LX6_42 IX6_add VX6_add ⟨rfl, Nat.le_of_ble_eq_true rfl⟩ dX6_split_165 cr.2.2.1 rfl (Nat.le_of_ble_eq_true rfl) (Nat.le_of_ble_eq_true rfl) (by omega) sa rok_v (hg_ss (q1.1.trans q.1.symm) hN hS) ?_
          refine z_goto dX6_split_168 rfl ?_
          show T d N S mX6_split 217 [some (.ref 473), some (.ref 487), some (.int tl), some (.int (nI n)), some (.int (nI p)), some (.int (nI t)), some (.int (nI (tp p))), some (.int (nI (p + 2))), a8] [] _ Q
          refine z_iload dX6_split_217 rfl ?_
          refine z_istore dX6_split_219 (Nat.le_of_ble_eq_true rfl) ?_
          refine z_iinc dX6_split_221 rfl (nI_1 t) (Nat.le_of_ble_eq_true rfl) ?_
          refine z_goto dX6_split_224 rfl ?_
          exact t2 N S Q hN1 hS1 hQ

      have ns : tp p ≠ 32 ∧ tp p ≠ 10 := by
        unfold isSp at hs
        rw [Bool.or_eq_true, decide_eq_true_eq, decide_eq_true_eq] at hs
        omega
      by_cases sg3 : sgK (tp p) = 53
      · skip
        have kd : tK tp n m = 53 := by rw [tKe]; exact (show tkK tp n p = _ by unfold tkK; rw [if_neg (by omega), if_neg hL, if_neg hD, if_neg t22, sg3])
        have en : tA tp n (m + 1) = p + 1 := by rw [tAe]; exact (show tkE tp n p = _ by unfold tkE; rw [if_neg (by omega), if_neg hL, if_neg hD, if_neg t22])
        have sa := c_add (d := 0) (k := 53) (v := 0) (p := p) cr q.2.2.2.2.1 (by omega)
        have q1 := q.add (v := 0) (fun w => absurd w (by rw [kd]; omega))
        rw [kd, ← pe] at q1
        obtain ⟨m2, h2, g1, g2, g3, q2, t2⟩ := ih (p + 1) (m + 1) (t + 1) (some (.int (nI (tp p)))) (some (.int (nI (p + 1)))) (some (.int (sgI (tp p)))) _ (by omega) (by omega) (by omega) (by show rnF isSp tp n _ = rnF isSp tp n _; rw [en]) (by omega) (fun j hj => if w : j = m then (by rw [w, kd]; omega) else hk j (by omega)) q1
        refine ⟨m2, h2, g1, g2, g3, q2, ?_⟩
        intro N S Q hN hS hQ
        have hN1 : pn h0 ≤ N := hN
        have hS1 : ps h0 ≤ S := hS
        have hN : pn h ≤ N := ss_n' q.1 hN
        have hS : ps h ≤ S := ss_s' q.1 hS
        by_cases b1 : p + 1 < n
        · by_cases b2 : tp (p + 1) = 61
          · have b3 : tp p ≠ 60 ∧ tp p ≠ 62 := ⟨fun w => t22 ⟨b1, b2, Or.inl w⟩, fun w => t22 ⟨b1, b2, Or.inr w⟩⟩
            refine z_iload dX6_split_18 rfl ?_
            refine z_sipush (v := 300) dX6_split_20 (by decide) ?_
            refine z_icmp_ge dX6_split_23 rfl (fun c => absurd c (fun w => absurd ((nI_leI (a := 300) (by omega) (by omega)).mp w) (by omega))) (fun _ => ?_)
            refine z_iload dX6_split_26 rfl ?_
            refine z_iload_n dX6_split_28 rfl rfl ?_
            refine z_icmp_ge dX6_split_29 rfl (fun c => absurd c (fun w => absurd ((nI_leI (by omega) (by omega)).mp w) (by omega))) (fun _ => ?_)
            refine z_aload_n dX6_split_32 rfl rfl ?_
            refine z_iload dX6_split_33 rfl ?_
            refine y_ialN (p) dX6_split_35 tb.1 (Nat.le_of_ble_eq_true rfl) (rfl) (by omega) ?_
            refine z_eqi (tb.2.1 p (by omega)) ?_
            refine z_istore dX6_split_36 (Nat.le_of_ble_eq_true rfl) ?_
            refine z_iload dX6_split_38 rfl ?_
            refine z_iconst (v := 1) dX6_split_40 (by decide) ?_
            refine z_iadd dX6_split_41 ?_
            refine z_eqi (nI_1 p) ?_
            refine z_istore dX6_split_42 (Nat.le_of_ble_eq_true rfl) ?_
            refine z_iload dX6_split_44 rfl ?_
            refine y_callS (as := [_]) CX6_isLetter LX6_31 SX6_isLetter dX6_split_46 rfl (Nat.le_of_ble_eq_true rfl) (Nat.le_of_ble_eq_true rfl) (by omega) (c_isLetter (d := 1) pb (Nat.le_refl _)) (rok_z bI_01) ⟨Nat.le_refl _, Nat.le_refl _, hN, hS⟩ ?_
            refine z_if_eq dX6_split_49 rfl (fun _ => ?_) (fun c => absurd (bI_eq0.mpr hL) c)
            refine z_iload dX6_split_79 rfl ?_
            refine y_callS (as := [_]) CX6_isDigit LX6_46 SX6_isDigit dX6_split_81 rfl (Nat.le_of_ble_eq_true rfl) (Nat.le_of_ble_eq_true rfl) (by omega) (c_isDigit (d := 1) pb (Nat.le_refl _)) (rok_z bI_01) ⟨Nat.le_refl _, Nat.le_refl _, hN, hS⟩ ?_
            refine z_if_eq dX6_split_84 rfl (fun _ => ?_) (fun c => absurd (bI_eq0.mpr hD) c)
            refine z_iload dX6_split_115 rfl ?_
            refine z_iload_n dX6_split_117 rfl rfl ?_
            refine z_icmp_ge dX6_split_118 rfl (fun c => absurd c (fun w => absurd ((nI_leI (by omega) (by omega)).mp w) (by omega))) (fun _ => ?_)
            refine z_aload_n dX6_split_121 rfl rfl ?_
            refine z_iload dX6_split_122 rfl ?_
            refine y_ialN (p + 1) dX6_split_124 tb.1 (Nat.le_of_ble_eq_true rfl) (rfl) (by omega) ?_
            refine z_eqi (tb.2.1 (p + 1) (by omega)) ?_
            refine z_bipush (v := 61) dX6_split_125 (by decide) ?_
            refine z_icmp_ne dX6_split_127 rfl (fun c => absurd (congrArg nI b2) c) (fun _ => ?_)
            refine z_iload dX6_split_130 rfl ?_
            refine z_bipush (v := 60) dX6_split_132 (by decide) ?_
            refine z_icmp_eq dX6_split_134 rfl (fun c => absurd c (fun w => absurd ((nI_eq (b := 60) (by omega) (by omega)).mp w) (by omega))) (fun _ => ?_)
            refine z_iload dX6_split_137 rfl ?_
            refine z_bipush (v := 62) dX6_split_139 (by decide) ?_
            refine z_icmp_ne dX6_split_141 rfl (fun _ => ?_) (fun c => absurd c (fun w => absurd ((nI_eq (b := 62) (by omega) (by omega)).mp w) (by omega)))
            refine z_iload dX6_split_171 rfl ?_
            refine z_bipush (v := 32) dX6_split_173 (by decide) ?_
            refine z_icmp_eq dX6_split_175 rfl (fun c => absurd c (fun w => absurd ((nI_eq (b := 32) (by omega) (by omega)).mp w) (by omega))) (fun _ => ?_)
            refine z_iload dX6_split_178 rfl ?_
            refine z_bipush (v := 10) dX6_split_180 (by decide) ?_
            refine z_icmp_eq dX6_split_182 rfl (fun c => absurd c (fun w => absurd ((nI_eq (b := 10) (by omega) (by omega)).mp w) (by omega))) (fun _ => ?_)
            refine z_ldcS rfl dX6_split_185 ?_
            refine z_iload dX6_split_187 rfl ?_
            refine z_i2c dX6_split_189 ?_
            refine z_eqi (i2c_nI pb) ?_
            refine y_callT (i := 1) (as := [_]) CJ0_indexOf_0f7a4 LX6_57 IJ0_indexOf_0f7a4 VJ0_indexOf_0f7a4 rfl (by omega) dX6_split_190 rfl (Nat.le_of_ble_eq_true rfl) (Nat.le_of_ble_eq_true rfl) (by omega) (s_indexOf (d := 3) pb (Nat.le_refl _)) rok_i ⟨hN, hS⟩ ?_
            refine z_istore dX6_split_193 (Nat.le_of_ble_eq_true rfl) ?_
            refine z_aload_n dX6_split_195 rfl rfl ?_
            refine z_iload dX6_split_196 rfl ?_
            refine z_if_ge dX6_split_198 rfl (fun c => absurd c (sg_lt sg3)) (fun _ => ?_)
            refine z_bipush (v := 53) dX6_split_201 (by decide) ?_
            refine z_goto dX6_split_203 rfl ?_
            refine z_iconst (v := 0) dX6_split_211 (by decide) ?_
            refine z_iload dX6_split_212 rfl ?_
            refine y_callV (as := [_, _, _]) CX6_add LX6_42 IX6_add VX6_add ⟨rfl, Nat.le_of_ble_eq_true rfl⟩ dX6_split_214 cr.2.2.1 rfl (Nat.le_of_ble_eq_true rfl) (Nat.le_of_ble_eq_true rfl) (by omega) sa rok_v (hg_ss (q1.1.trans q.1.symm) hN hS) ?_
            show T d N S mX6_split 217 [some (.ref 473), some (.ref 487), some (.int tl), some (.int (nI n)), some (.int (nI p)), some (.int (nI t)), some (.int (nI (tp p))), some (.int (nI (p + 1))), some (.int (sgI (tp p)))] [] _ Q
            refine z_iload dX6_split_217 rfl ?_
            refine z_istore dX6_split_219 (Nat.le_of_ble_eq_true rfl) ?_
            refine z_iinc dX6_split_221 rfl (nI_1 t) (Nat.le_of_ble_eq_true rfl) ?_
            refine z_goto dX6_split_224 rfl ?_
            exact t2 N S Q hN1 hS1 hQ
          · skip
            refine z_iload dX6_split_18 rfl ?_
            refine z_sipush (v := 300) dX6_split_20 (by decide) ?_
            refine z_icmp_ge dX6_split_23 rfl (fun c => absurd c (fun w => absurd ((nI_leI (a := 300) (by omega) (by omega)).mp w) (by omega))) (fun _ => ?_)
            refine z_iload dX6_split_26 rfl ?_
            refine z_iload_n dX6_split_28 rfl rfl ?_
            refine z_icmp_ge dX6_split_29 rfl (fun c => absurd c (fun w => absurd ((nI_leI (by omega) (by omega)).mp w) (by omega))) (fun _ => ?_)
            refine z_aload_n dX6_split_32 rfl rfl ?_
            refine z_iload dX6_split_33 rfl ?_
            refine y_ialN (p) dX6_split_35 tb.1 (Nat.le_of_ble_eq_true rfl) (rfl) (by omega) ?_
            refine z_eqi (tb.2.1 p (by omega)) ?_
            refine z_istore dX6_split_36 (Nat.le_of_ble_eq_true rfl) ?_
            refine z_iload dX6_split_38 rfl ?_
            refine z_iconst (v := 1) dX6_split_40 (by decide) ?_
            refine z_iadd dX6_split_41 ?_
            refine z_eqi (nI_1 p) ?_
            refine z_istore dX6_split_42 (Nat.le_of_ble_eq_true rfl) ?_
            refine z_iload dX6_split_44 rfl ?_
            refine y_callS (as := [_]) CX6_isLetter LX6_31 SX6_isLetter dX6_split_46 rfl (Nat.le_of_ble_eq_true rfl) (Nat.le_of_ble_eq_true rfl) (by omega) (c_isLetter (d := 1) pb (Nat.le_refl _)) (rok_z bI_01) ⟨Nat.le_refl _, Nat.le_refl _, hN, hS⟩ ?_
            refine z_if_eq dX6_split_49 rfl (fun _ => ?_) (fun c => absurd (bI_eq0.mpr hL) c)
            refine z_iload dX6_split_79 rfl ?_
            refine y_callS (as := [_]) CX6_isDigit LX6_46 SX6_isDigit dX6_split_81 rfl (Nat.le_of_ble_eq_true rfl) (Nat.le_of_ble_eq_true rfl) (by omega) (c_isDigit (d := 1) pb (Nat.le_refl _)) (rok_z bI_01) ⟨Nat.le_refl _, Nat.le_refl _, hN, hS⟩ ?_
            refine z_if_eq dX6_split_84 rfl (fun _ => ?_) (fun c => absurd (bI_eq0.mpr hD) c)
            refine z_iload dX6_split_115 rfl ?_
            refine z_iload_n dX6_split_117 rfl rfl ?_
            refine z_icmp_ge dX6_split_118 rfl (fun c => absurd c (fun w => absurd ((nI_leI (by omega) (by omega)).mp w) (by omega))) (fun _ => ?_)
            refine z_aload_n dX6_split_121 rfl rfl ?_
            refine z_iload dX6_split_122 rfl ?_
            refine y_ialN (p + 1) dX6_split_124 tb.1 (Nat.le_of_ble_eq_true rfl) (rfl) (by omega) ?_
            refine z_eqi (tb.2.1 (p + 1) (by omega)) ?_
            refine z_bipush (v := 61) dX6_split_125 (by decide) ?_
            refine z_icmp_ne dX6_split_127 rfl (fun _ => ?_) (fun c => absurd c (fun w => b2 ((nI_eq (b := 61) (by have := tb.2.2 (p + 1) (by omega); omega) (by omega)).mp w)))
            refine z_iload dX6_split_171 rfl ?_
            refine z_bipush (v := 32) dX6_split_173 (by decide) ?_
            refine z_icmp_eq dX6_split_175 rfl (fun c => absurd c (fun w => absurd ((nI_eq (b := 32) (by omega) (by omega)).mp w) (by omega))) (fun _ => ?_)
            refine z_iload dX6_split_178 rfl ?_
            refine z_bipush (v := 10) dX6_split_180 (by decide) ?_
            refine z_icmp_eq dX6_split_182 rfl (fun c => absurd c (fun w => absurd ((nI_eq (b := 10) (by omega) (by omega)).mp w) (by omega))) (fun _ => ?_)
            refine z_ldcS rfl dX6_split_185 ?_
            refine z_iload dX6_split_187 rfl ?_
            refine z_i2c dX6_split_189 ?_
            refine z_eqi (i2c_nI pb) ?_
            refine y_callT (i := 1) (as := [_]) CJ0_indexOf_0f7a4 LX6_57 IJ0_indexOf_0f7a4 VJ0_indexOf_0f7a4 rfl (by omega) dX6_split_190 rfl (Nat.le_of_ble_eq_true rfl) (Nat.le_of_ble_eq_true rfl) (by omega) (s_indexOf (d := 3) pb (Nat.le_refl _)) rok_i ⟨hN, hS⟩ ?_
            refine z_istore dX6_split_193 (Nat.le_of_ble_eq_true rfl) ?_
            refine z_aload_n dX6_split_195 rfl rfl ?_
            refine z_iload dX6_split_196 rfl ?_
            refine z_if_ge dX6_split_198 rfl (fun c => absurd c (sg_lt sg3)) (fun _ => ?_)
            refine z_bipush (v := 53) dX6_split_201 (by decide) ?_
            refine z_goto dX6_split_203 rfl ?_
            refine z_iconst (v := 0) dX6_split_211 (by decide) ?_
            refine z_iload dX6_split_212 rfl ?_
            refine y_callV (as := [_, _, _]) CX6_add LX6_42 IX6_add VX6_add ⟨rfl, Nat.le_of_ble_eq_true rfl⟩ dX6_split_214 cr.2.2.1 rfl (Nat.le_of_ble_eq_true rfl) (Nat.le_of_ble_eq_true rfl) (by omega) sa rok_v (hg_ss (q1.1.trans q.1.symm) hN hS) ?_
            show T d N S mX6_split 217 [some (.ref 473), some (.ref 487), some (.int tl), some (.int (nI n)), some (.int (nI p)), some (.int (nI t)), some (.int (nI (tp p))), some (.int (nI (p + 1))), some (.int (sgI (tp p)))] [] _ Q
            refine z_iload dX6_split_217 rfl ?_
            refine z_istore dX6_split_219 (Nat.le_of_ble_eq_true rfl) ?_
            refine z_iinc dX6_split_221 rfl (nI_1 t) (Nat.le_of_ble_eq_true rfl) ?_
            refine z_goto dX6_split_224 rfl ?_
            exact t2 N S Q hN1 hS1 hQ
        · skip
          refine z_iload dX6_split_18 rfl ?_
          refine z_sipush (v := 300) dX6_split_20 (by decide) ?_
          refine z_icmp_ge dX6_split_23 rfl (fun c => absurd c (fun w => absurd ((nI_leI (a := 300) (by omega) (by omega)).mp w) (by omega))) (fun _ => ?_)
          refine z_iload dX6_split_26 rfl ?_
          refine z_iload_n dX6_split_28 rfl rfl ?_
          refine z_icmp_ge dX6_split_29 rfl (fun c => absurd c (fun w => absurd ((nI_leI (by omega) (by omega)).mp w) (by omega))) (fun _ => ?_)
          refine z_aload_n dX6_split_32 rfl rfl ?_
          refine z_iload dX6_split_33 rfl ?_
          refine y_ialN (p) dX6_split_35 tb.1 (Nat.le_of_ble_eq_true rfl) (rfl) (by omega) ?_
          refine z_eqi (tb.2.1 p (by omega)) ?_
          refine z_istore dX6_split_36 (Nat.le_of_ble_eq_true rfl) ?_
          refine z_iload dX6_split_38 rfl ?_
          refine z_iconst (v := 1) dX6_split_40 (by decide) ?_
          refine z_iadd dX6_split_41 ?_
          refine z_eqi (nI_1 p) ?_
          refine z_istore dX6_split_42 (Nat.le_of_ble_eq_true rfl) ?_
          refine z_iload dX6_split_44 rfl ?_
          refine y_callS (as := [_]) CX6_isLetter LX6_31 SX6_isLetter dX6_split_46 rfl (Nat.le_of_ble_eq_true rfl) (Nat.le_of_ble_eq_true rfl) (by omega) (c_isLetter (d := 1) pb (Nat.le_refl _)) (rok_z bI_01) ⟨Nat.le_refl _, Nat.le_refl _, hN, hS⟩ ?_
          refine z_if_eq dX6_split_49 rfl (fun _ => ?_) (fun c => absurd (bI_eq0.mpr hL) c)
          refine z_iload dX6_split_79 rfl ?_
          refine y_callS (as := [_]) CX6_isDigit LX6_46 SX6_isDigit dX6_split_81 rfl (Nat.le_of_ble_eq_true rfl) (Nat.le_of_ble_eq_true rfl) (by omega) (c_isDigit (d := 1) pb (Nat.le_refl _)) (rok_z bI_01) ⟨Nat.le_refl _, Nat.le_refl _, hN, hS⟩ ?_
          refine z_if_eq dX6_split_84 rfl (fun _ => ?_) (fun c => absurd (bI_eq0.mpr hD) c)
          refine z_iload dX6_split_115 rfl ?_
          refine z_iload_n dX6_split_117 rfl rfl ?_
          refine z_icmp_ge dX6_split_118 rfl (fun _ => ?_) (fun c => absurd ((nI_leI (by omega) (by omega)).mpr (by omega)) c)
          refine z_iload dX6_split_171 rfl ?_
          refine z_bipush (v := 32) dX6_split_173 (by decide) ?_
          refine z_icmp_eq dX6_split_175 rfl (fun c => absurd c (fun w => absurd ((nI_eq (b := 32) (by omega) (by omega)).mp w) (by omega))) (fun _ => ?_)
          refine z_iload dX6_split_178 rfl ?_
          refine z_bipush (v := 10) dX6_split_180 (by decide) ?_
          refine z_icmp_eq dX6_split_182 rfl (fun c => absurd c (fun w => absurd ((nI_eq (b := 10) (by omega) (by omega)).mp w) (by omega))) (fun _ => ?_)
          refine z_ldcS rfl dX6_split_185 ?_
          refine z_iload dX6_split_187 rfl ?_
          refine z_i2c dX6_split_189 ?_
          refine z_eqi (i2c_nI pb) ?_
          refine y_callT (i := 1) (as := [_]) CJ0_indexOf_0f7a4 LX6_57 IJ0_indexOf_0f7a4 VJ0_indexOf_0f7a4 rfl (by omega) dX6_split_190 rfl (Nat.le_of_ble_eq_true rfl) (Nat.le_of_ble_eq_true rfl) (by omega) (s_indexOf (d := 3) pb (Nat.le_refl _)) rok_i ⟨hN, hS⟩ ?_
          refine z_istore dX6_split_193 (Nat.le_of_ble_eq_true rfl) ?_
          refine z_aload_n dX6_split_195 rfl rfl ?_
          refine z_iload dX6_split_196 rfl ?_
          refine z_if_ge dX6_split_198 rfl (fun c => absurd c (sg_lt sg3)) (fun _ => ?_)
          refine z_bipush (v := 53) dX6_split_201 (by decide) ?_
          refine z_goto dX6_split_203 rfl ?_
          refine z_iconst (v := 0) dX6_split_211 (by decide) ?_
          refine z_iload dX6_split_212 rfl ?_
          refine y_callV (as := [_, _, _]) CX6_add LX6_42 IX6_add VX6_add ⟨rfl, Nat.le_of_ble_eq_true rfl⟩ dX6_split_214 cr.2.2.1 rfl (Nat.le_of_ble_eq_true rfl) (Nat.le_of_ble_eq_true rfl) (by omega) sa rok_v (hg_ss (q1.1.trans q.1.symm) hN hS) ?_
          show T d N S mX6_split 217 [some (.ref 473), some (.ref 487), some (.int tl), some (.int (nI n)), some (.int (nI p)), some (.int (nI t)), some (.int (nI (tp p))), some (.int (nI (p + 1))), some (.int (sgI (tp p)))] [] _ Q
          refine z_iload dX6_split_217 rfl ?_
          refine z_istore dX6_split_219 (Nat.le_of_ble_eq_true rfl) ?_
          refine z_iinc dX6_split_221 rfl (nI_1 t) (Nat.le_of_ble_eq_true rfl) ?_
          refine z_goto dX6_split_224 rfl ?_
          exact t2 N S Q hN1 hS1 hQ

      · skip
        have kd : tK tp n m = sgK (tp p) := by rw [tKe]; exact (show tkK tp n p = _ by unfold tkK; rw [if_neg (by omega), if_neg hL, if_neg hD, if_neg t22])
        have en : tA tp n (m + 1) = p + 1 := by rw [tAe]; exact (show tkE tp n p = _ by unfold tkE; rw [if_neg (by omega), if_neg hL, if_neg hD, if_neg t22])
        have sa := c_add (d := 0) (k := sgK (tp p)) (v := 0) (p := p) cr q.2.2.2.2.1 (by omega)
        have q1 := q.add (v := 0) (fun w => absurd w (by rw [kd]; have := sg_ne (tp p); omega))
        rw [kd, ← pe] at q1
        obtain ⟨m2, h2, g1, g2, g3, q2, t2⟩ := ih (p + 1) (m + 1) (t + 1) (some (.int (nI (tp p)))) (some (.int (nI (p + 1)))) (some (.int (sgI (tp p)))) _ (by omega) (by omega) (by omega) (by show rnF isSp tp n _ = rnF isSp tp n _; rw [en]) (by omega) (fun j hj => if w : j = m then (by rw [w, kd]; omega) else hk j (by omega)) q1
        refine ⟨m2, h2, g1, g2, g3, q2, ?_⟩
        intro N S Q hN hS hQ
        have hN1 : pn h0 ≤ N := hN
        have hS1 : ps h0 ≤ S := hS
        have hN : pn h ≤ N := ss_n' q.1 hN
        have hS : ps h ≤ S := ss_s' q.1 hS
        by_cases b1 : p + 1 < n
        · by_cases b2 : tp (p + 1) = 61
          · have b3 : tp p ≠ 60 ∧ tp p ≠ 62 := ⟨fun w => t22 ⟨b1, b2, Or.inl w⟩, fun w => t22 ⟨b1, b2, Or.inr w⟩⟩
            refine z_iload dX6_split_18 rfl ?_
            refine z_sipush (v := 300) dX6_split_20 (by decide) ?_
            refine z_icmp_ge dX6_split_23 rfl (fun c => absurd c (fun w => absurd ((nI_leI (a := 300) (by omega) (by omega)).mp w) (by omega))) (fun _ => ?_)
            refine z_iload dX6_split_26 rfl ?_
            refine z_iload_n dX6_split_28 rfl rfl ?_
            refine z_icmp_ge dX6_split_29 rfl (fun c => absurd c (fun w => absurd ((nI_leI (by omega) (by omega)).mp w) (by omega))) (fun _ => ?_)
            refine z_aload_n dX6_split_32 rfl rfl ?_
            refine z_iload dX6_split_33 rfl ?_
            refine y_ialN (p) dX6_split_35 tb.1 (Nat.le_of_ble_eq_true rfl) (rfl) (by omega) ?_
            refine z_eqi (tb.2.1 p (by omega)) ?_
            refine z_istore dX6_split_36 (Nat.le_of_ble_eq_true rfl) ?_
            refine z_iload dX6_split_38 rfl ?_
            refine z_iconst (v := 1) dX6_split_40 (by decide) ?_
            refine z_iadd dX6_split_41 ?_
            refine z_eqi (nI_1 p) ?_
            refine z_istore dX6_split_42 (Nat.le_of_ble_eq_true rfl) ?_
            refine z_iload dX6_split_44 rfl ?_
            refine y_callS (as := [_]) CX6_isLetter LX6_31 SX6_isLetter dX6_split_46 rfl (Nat.le_of_ble_eq_true rfl) (Nat.le_of_ble_eq_true rfl) (by omega) (c_isLetter (d := 1) pb (Nat.le_refl _)) (rok_z bI_01) ⟨Nat.le_refl _, Nat.le_refl _, hN, hS⟩ ?_
            refine z_if_eq dX6_split_49 rfl (fun _ => ?_) (fun c => absurd (bI_eq0.mpr hL) c)
            refine z_iload dX6_split_79 rfl ?_
            refine y_callS (as := [_]) CX6_isDigit LX6_46 SX6_isDigit dX6_split_81 rfl (Nat.le_of_ble_eq_true rfl) (Nat.le_of_ble_eq_true rfl) (by omega) (c_isDigit (d := 1) pb (Nat.le_refl _)) (rok_z bI_01) ⟨Nat.le_refl _, Nat.le_refl _, hN, hS⟩ ?_
            refine z_if_eq dX6_split_84 rfl (fun _ => ?_) (fun c => absurd (bI_eq0.mpr hD) c)
            refine z_iload dX6_split_115 rfl ?_
            refine z_iload_n dX6_split_117 rfl rfl ?_
            refine z_icmp_ge dX6_split_118 rfl (fun c => absurd c (fun w => absurd ((nI_leI (by omega) (by omega)).mp w) (by omega))) (fun _ => ?_)
            refine z_aload_n dX6_split_121 rfl rfl ?_
            refine z_iload dX6_split_122 rfl ?_
            refine y_ialN (p + 1) dX6_split_124 tb.1 (Nat.le_of_ble_eq_true rfl) (rfl) (by omega) ?_
            refine z_eqi (tb.2.1 (p + 1) (by omega)) ?_
            refine z_bipush (v := 61) dX6_split_125 (by decide) ?_
            refine z_icmp_ne dX6_split_127 rfl (fun c => absurd (congrArg nI b2) c) (fun _ => ?_)
            refine z_iload dX6_split_130 rfl ?_
            refine z_bipush (v := 60) dX6_split_132 (by decide) ?_
            refine z_icmp_eq dX6_split_134 rfl (fun c => absurd c (fun w => absurd ((nI_eq (b := 60) (by omega) (by omega)).mp w) (by omega))) (fun _ => ?_)
            refine z_iload dX6_split_137 rfl ?_
            refine z_bipush (v := 62) dX6_split_139 (by decide) ?_
            refine z_icmp_ne dX6_split_141 rfl (fun _ => ?_) (fun c => absurd c (fun w => absurd ((nI_eq (b := 62) (by omega) (by omega)).mp w) (by omega)))
            refine z_iload dX6_split_171 rfl ?_
            refine z_bipush (v := 32) dX6_split_173 (by decide) ?_
            refine z_icmp_eq dX6_split_175 rfl (fun c => absurd c (fun w => absurd ((nI_eq (b := 32) (by omega) (by omega)).mp w) (by omega))) (fun _ => ?_)
            refine z_iload dX6_split_178 rfl ?_
            refine z_bipush (v := 10) dX6_split_180 (by decide) ?_
            refine z_icmp_eq dX6_split_182 rfl (fun c => absurd c (fun w => absurd ((nI_eq (b := 10) (by omega) (by omega)).mp w) (by omega))) (fun _ => ?_)
            refine z_ldcS rfl dX6_split_185 ?_
            refine z_iload dX6_split_187 rfl ?_
            refine z_i2c dX6_split_189 ?_
            refine z_eqi (i2c_nI pb) ?_
            refine y_callT (i := 1) (as := [_]) CJ0_indexOf_0f7a4 LX6_57 IJ0_indexOf_0f7a4 VJ0_indexOf_0f7a4 rfl (by omega) dX6_split_190 rfl (Nat.le_of_ble_eq_true rfl) (Nat.le_of_ble_eq_true rfl) (by omega) (s_indexOf (d := 3) pb (Nat.le_refl _)) rok_i ⟨hN, hS⟩ ?_
            refine z_istore dX6_split_193 (Nat.le_of_ble_eq_true rfl) ?_
            refine z_aload_n dX6_split_195 rfl rfl ?_
            refine z_iload dX6_split_196 rfl ?_
            refine z_if_ge dX6_split_198 rfl (fun _ => ?_) (fun c => absurd (sg_ge sg3) c)
            refine z_bipush (v := 40) dX6_split_206 (by decide) ?_
            refine z_iload dX6_split_208 rfl ?_
            refine z_iadd dX6_split_210 ?_
            refine z_eqi (sg_add sg3) ?_
            refine z_iconst (v := 0) dX6_split_211 (by decide) ?_
            refine z_iload dX6_split_212 rfl ?_
            refine y_callV (as := [_, _, _]) CX6_add LX6_42 IX6_add VX6_add ⟨rfl, Nat.le_of_ble_eq_true rfl⟩ dX6_split_214 cr.2.2.1 rfl (Nat.le_of_ble_eq_true rfl) (Nat.le_of_ble_eq_true rfl) (by omega) sa rok_v (hg_ss (q1.1.trans q.1.symm) hN hS) ?_
            show T d N S mX6_split 217 [some (.ref 473), some (.ref 487), some (.int tl), some (.int (nI n)), some (.int (nI p)), some (.int (nI t)), some (.int (nI (tp p))), some (.int (nI (p + 1))), some (.int (sgI (tp p)))] [] _ Q
            refine z_iload dX6_split_217 rfl ?_
            refine z_istore dX6_split_219 (Nat.le_of_ble_eq_true rfl) ?_
            refine z_iinc dX6_split_221 rfl (nI_1 t) (Nat.le_of_ble_eq_true rfl) ?_
            refine z_goto dX6_split_224 rfl ?_
            exact t2 N S Q hN1 hS1 hQ
          · skip
            refine z_iload dX6_split_18 rfl ?_
            refine z_sipush (v := 300) dX6_split_20 (by decide) ?_
            refine z_icmp_ge dX6_split_23 rfl (fun c => absurd c (fun w => absurd ((nI_leI (a := 300) (by omega) (by omega)).mp w) (by omega))) (fun _ => ?_)
            refine z_iload dX6_split_26 rfl ?_
            refine z_iload_n dX6_split_28 rfl rfl ?_
            refine z_icmp_ge dX6_split_29 rfl (fun c => absurd c (fun w => absurd ((nI_leI (by omega) (by omega)).mp w) (by omega))) (fun _ => ?_)
            refine z_aload_n dX6_split_32 rfl rfl ?_
            refine z_iload dX6_split_33 rfl ?_
            refine y_ialN (p) dX6_split_35 tb.1 (Nat.le_of_ble_eq_true rfl) (rfl) (by omega) ?_
            refine z_eqi (tb.2.1 p (by omega)) ?_
            refine z_istore dX6_split_36 (Nat.le_of_ble_eq_true rfl) ?_
            refine z_iload dX6_split_38 rfl ?_
            refine z_iconst (v := 1) dX6_split_40 (by decide) ?_
            refine z_iadd dX6_split_41 ?_
            refine z_eqi (nI_1 p) ?_
            refine z_istore dX6_split_42 (Nat.le_of_ble_eq_true rfl) ?_
            refine z_iload dX6_split_44 rfl ?_
            refine y_callS (as := [_]) CX6_isLetter LX6_31 SX6_isLetter dX6_split_46 rfl (Nat.le_of_ble_eq_true rfl) (Nat.le_of_ble_eq_true rfl) (by omega) (c_isLetter (d := 1) pb (Nat.le_refl _)) (rok_z bI_01) ⟨Nat.le_refl _, Nat.le_refl _, hN, hS⟩ ?_
            refine z_if_eq dX6_split_49 rfl (fun _ => ?_) (fun c => absurd (bI_eq0.mpr hL) c)
            refine z_iload dX6_split_79 rfl ?_
            refine y_callS (as := [_]) CX6_isDigit LX6_46 SX6_isDigit dX6_split_81 rfl (Nat.le_of_ble_eq_true rfl) (Nat.le_of_ble_eq_true rfl) (by omega) (c_isDigit (d := 1) pb (Nat.le_refl _)) (rok_z bI_01) ⟨Nat.le_refl _, Nat.le_refl _, hN, hS⟩ ?_
            refine z_if_eq dX6_split_84 rfl (fun _ => ?_) (fun c => absurd (bI_eq0.mpr hD) c)
            refine z_iload dX6_split_115 rfl ?_
            refine z_iload_n dX6_split_117 rfl rfl ?_
            refine z_icmp_ge dX6_split_118 rfl (fun c => absurd c (fun w => absurd ((nI_leI (by omega) (by omega)).mp w) (by omega))) (fun _ => ?_)
            refine z_aload_n dX6_split_121 rfl rfl ?_
            refine z_iload dX6_split_122 rfl ?_
            refine y_ialN (p + 1) dX6_split_124 tb.1 (Nat.le_of_ble_eq_true rfl) (rfl) (by omega) ?_
            refine z_eqi (tb.2.1 (p + 1) (by omega)) ?_
            refine z_bipush (v := 61) dX6_split_125 (by decide) ?_
            refine z_icmp_ne dX6_split_127 rfl (fun _ => ?_) (fun c => absurd c (fun w => b2 ((nI_eq (b := 61) (by have := tb.2.2 (p + 1) (by omega); omega) (by omega)).mp w)))
            refine z_iload dX6_split_171 rfl ?_
            refine z_bipush (v := 32) dX6_split_173 (by decide) ?_
            refine z_icmp_eq dX6_split_175 rfl (fun c => absurd c (fun w => absurd ((nI_eq (b := 32) (by omega) (by omega)).mp w) (by omega))) (fun _ => ?_)
            refine z_iload dX6_split_178 rfl ?_
            refine z_bipush (v := 10) dX6_split_180 (by decide) ?_
            refine z_icmp_eq dX6_split_182 rfl (fun c => absurd c (fun w => absurd ((nI_eq (b := 10) (by omega) (by omega)).mp w) (by omega))) (fun _ => ?_)
            refine z_ldcS rfl dX6_split_185 ?_
            refine z_iload dX6_split_187 rfl ?_
            refine z_i2c dX6_split_189 ?_
            refine z_eqi (i2c_nI pb) ?_
            refine y_callT (i := 1) (as := [_]) CJ0_indexOf_0f7a4 LX6_57 IJ0_indexOf_0f7a4 VJ0_indexOf_0f7a4 rfl (by omega) dX6_split_190 rfl (Nat.le_of_ble_eq_true rfl) (Nat.le_of_ble_eq_true rfl) (by omega) (s_indexOf (d := 3) pb (Nat.le_refl _)) rok_i ⟨hN, hS⟩ ?_
            refine z_istore dX6_split_193 (Nat.le_of_ble_eq_true rfl) ?_
            refine z_aload_n dX6_split_195 rfl rfl ?_
            refine z_iload dX6_split_196 rfl ?_
            refine z_if_ge dX6_split_198 rfl (fun _ => ?_) (fun c => absurd (sg_ge sg3) c)
            refine z_bipush (v := 40) dX6_split_206 (by decide) ?_
            refine z_iload dX6_split_208 rfl ?_
            refine z_iadd dX6_split_210 ?_
            refine z_eqi (sg_add sg3) ?_
            refine z_iconst (v := 0) dX6_split_211 (by decide) ?_
            refine z_iload dX6_split_212 rfl ?_
            refine y_callV (as := [_, _, _]) CX6_add LX6_42 IX6_add VX6_add ⟨rfl, Nat.le_of_ble_eq_true rfl⟩ dX6_split_214 cr.2.2.1 rfl (Nat.le_of_ble_eq_true rfl) (Nat.le_of_ble_eq_true rfl) (by omega) sa rok_v (hg_ss (q1.1.trans q.1.symm) hN hS) ?_
            show T d N S mX6_split 217 [some (.ref 473), some (.ref 487), some (.int tl), some (.int (nI n)), some (.int (nI p)), some (.int (nI t)), some (.int (nI (tp p))), some (.int (nI (p + 1))), some (.int (sgI (tp p)))] [] _ Q
            refine z_iload dX6_split_217 rfl ?_
            refine z_istore dX6_split_219 (Nat.le_of_ble_eq_true rfl) ?_
            refine z_iinc dX6_split_221 rfl (nI_1 t) (Nat.le_of_ble_eq_true rfl) ?_
            refine z_goto dX6_split_224 rfl ?_
            exact t2 N S Q hN1 hS1 hQ
        · skip
          refine z_iload dX6_split_18 rfl ?_
          refine z_sipush (v := 300) dX6_split_20 (by decide) ?_
          refine z_icmp_ge dX6_split_23 rfl (fun c => absurd c (fun w => absurd ((nI_leI (a := 300) (by omega) (by omega)).mp w) (by omega))) (fun _ => ?_)
          refine z_iload dX6_split_26 rfl ?_
          refine z_iload_n dX6_split_28 rfl rfl ?_
          refine z_icmp_ge dX6_split_29 rfl (fun c => absurd c (fun w => absurd ((nI_leI (by omega) (by omega)).mp w) (by omega))) (fun _ => ?_)
          refine z_aload_n dX6_split_32 rfl rfl ?_
          refine z_iload dX6_split_33 rfl ?_
          refine y_ialN (p) dX6_split_35 tb.1 (Nat.le_of_ble_eq_true rfl) (rfl) (by omega) ?_
          refine z_eqi (tb.2.1 p (by omega)) ?_
          refine z_istore dX6_split_36 (Nat.le_of_ble_eq_true rfl) ?_
          refine z_iload dX6_split_38 rfl ?_
          refine z_iconst (v := 1) dX6_split_40 (by decide) ?_
          refine z_iadd dX6_split_41 ?_
          refine z_eqi (nI_1 p) ?_
          refine z_istore dX6_split_42 (Nat.le_of_ble_eq_true rfl) ?_
          refine z_iload dX6_split_44 rfl ?_
          refine y_callS (as := [_]) CX6_isLetter LX6_31 SX6_isLetter dX6_split_46 rfl (Nat.le_of_ble_eq_true rfl) (Nat.le_of_ble_eq_true rfl) (by omega) (c_isLetter (d := 1) pb (Nat.le_refl _)) (rok_z bI_01) ⟨Nat.le_refl _, Nat.le_refl _, hN, hS⟩ ?_
          refine z_if_eq dX6_split_49 rfl (fun _ => ?_) (fun c => absurd (bI_eq0.mpr hL) c)
          refine z_iload dX6_split_79 rfl ?_
          refine y_callS (as := [_]) CX6_isDigit LX6_46 SX6_isDigit dX6_split_81 rfl (Nat.le_of_ble_eq_true rfl) (Nat.le_of_ble_eq_true rfl) (by omega) (c_isDigit (d := 1) pb (Nat.le_refl _)) (rok_z bI_01) ⟨Nat.le_refl _, Nat.le_refl _, hN, hS⟩ ?_
          refine z_if_eq dX6_split_84 rfl (fun _ => ?_) (fun c => absurd (bI_eq0.mpr hD) c)
          refine z_iload dX6_split_115 rfl ?_
          refine z_iload_n dX6_split_117 rfl rfl ?_
          refine z_icmp_ge dX6_split_118 rfl (fun _ => ?_) (fun c => absurd ((nI_leI (by omega) (by omega)).mpr (by omega)) c)
          refine z_iload dX6_split_171 rfl ?_
          refine z_bipush (v := 32) dX6_split_173 (by decide) ?_
          refine z_icmp_eq dX6_split_175 rfl (fun c => absurd c (fun w => absurd ((nI_eq (b := 32) (by omega) (by omega)).mp w) (by omega))) (fun _ => ?_)
          refine z_iload dX6_split_178 rfl ?_
          refine z_bipush (v := 10) dX6_split_180 (by decide) ?_
          refine z_icmp_eq dX6_split_182 rfl (fun c => absurd c (fun w => absurd ((nI_eq (b := 10) (by omega) (by omega)).mp w) (by omega))) (fun _ => ?_)
          refine z_ldcS rfl dX6_split_185 ?_
          refine z_iload dX6_split_187 rfl ?_
          refine z_i2c dX6_split_189 ?_
          refine z_eqi (i2c_nI pb) ?_
          refine y_callT (i := 1) (as := [_]) CJ0_indexOf_0f7a4 LX6_57 IJ0_indexOf_0f7a4 VJ0_indexOf_0f7a4 rfl (by omega) dX6_split_190 rfl (Nat.le_of_ble_eq_true rfl) (Nat.le_of_ble_eq_true rfl) (by omega) (s_indexOf (d := 3) pb (Nat.le_refl _)) rok_i ⟨hN, hS⟩ ?_
          refine z_istore dX6_split_193 (Nat.le_of_ble_eq_true rfl) ?_
          refine z_aload_n dX6_split_195 rfl rfl ?_
          refine z_iload dX6_split_196 rfl ?_
          refine z_if_ge dX6_split_198 rfl (fun _ => ?_) (fun c => absurd (sg_ge sg3) c)
          refine z_bipush (v := 40) dX6_split_206 (by decide) ?_
          refine z_iload dX6_split_208 rfl ?_
          refine z_iadd dX6_split_210 ?_
          refine z_eqi (sg_add sg3) ?_
          refine z_iconst (v := 0) dX6_split_211 (by decide) ?_
          refine z_iload dX6_split_212 rfl ?_
          refine y_callV (as := [_, _, _]) CX6_add LX6_42 IX6_add VX6_add ⟨rfl, Nat.le_of_ble_eq_true rfl⟩ dX6_split_214 cr.2.2.1 rfl (Nat.le_of_ble_eq_true rfl) (Nat.le_of_ble_eq_true rfl) (by omega) sa rok_v (hg_ss (q1.1.trans q.1.symm) hN hS) ?_
          show T d N S mX6_split 217 [some (.ref 473), some (.ref 487), some (.int tl), some (.int (nI n)), some (.int (nI p)), some (.int (nI t)), some (.int (nI (tp p))), some (.int (nI (p + 1))), some (.int (sgI (tp p)))] [] _ Q
          refine z_iload dX6_split_217 rfl ?_
          refine z_istore dX6_split_219 (Nat.le_of_ble_eq_true rfl) ?_
          refine z_iinc dX6_split_221 rfl (nI_1 t) (Nat.le_of_ble_eq_true rfl) ?_
          refine z_goto dX6_split_224 rfl ?_
          exact t2 N S Q hN1 hS1 hQ

  · have pe : p = n := by omega
    have k54 : tK tp n m = 54 := tK_54.mpr (by rw [← re, pe]; exact rnF_n (fun w => absurd w.1 (by omega)))
    have pP : tP tp n m = n := tK_54.mp k54
    have sa := c_add (d := 0) (k := 54) (v := 0) (p := n) cr q.2.2.2.2.1 (by omega)
    have q1 := q.add (v := 0) (fun w => absurd w (by omega))
    rw [k54, pP] at q1
    refine ⟨m, _, by omega, k54, hk, q1, ?_⟩
    intro N S Q hN hS hQ
    have hN : pn h ≤ N := ss_n' q.1 hN
    have hS : ps h ≤ S := ss_s' q.1 hS
    by_cases t3 : t < 300
    · skip
      refine z_iload dX6_split_18 rfl ?_
      refine z_sipush (v := 300) dX6_split_20 (by decide) ?_
      refine z_icmp_ge dX6_split_23 rfl (fun c => absurd c (fun w => absurd ((nI_leI (a := 300) (by omega) (by omega)).mp w) (by omega))) (fun _ => ?_)
      refine z_iload dX6_split_26 rfl ?_
      refine z_iload_n dX6_split_28 rfl rfl ?_
      refine z_icmp_ge dX6_split_29 rfl (fun _ => ?_) (fun c => absurd ((nI_leI (by omega) (by omega)).mpr (by omega)) c)
      refine z_aload_n dX6_split_227 rfl rfl ?_
      refine z_bipush (v := 54) dX6_split_228 (by decide) ?_
      refine z_iconst (v := 0) dX6_split_230 (by decide) ?_
      refine z_iload_n dX6_split_231 rfl rfl ?_
      refine y_callV (as := [_, _, _]) CX6_add LX6_42 IX6_add VX6_add ⟨rfl, Nat.le_of_ble_eq_true rfl⟩ dX6_split_232 cr.2.2.1 rfl (Nat.le_of_ble_eq_true rfl) (Nat.le_of_ble_eq_true rfl) (by omega) sa rok_v (hg_ss (q1.1.trans q.1.symm) hN hS) ?_
      refine z_vret dX6_split_235 ?_
      exact hQ
    · skip
      refine z_iload dX6_split_18 rfl ?_
      refine z_sipush (v := 300) dX6_split_20 (by decide) ?_
      refine z_icmp_ge dX6_split_23 rfl (fun _ => ?_) (fun c => absurd ((nI_leI (a := 300) (by omega) (by omega)).mpr (by omega)) c)
      refine z_aload_n dX6_split_227 rfl rfl ?_
      refine z_bipush (v := 54) dX6_split_228 (by decide) ?_
      refine z_iconst (v := 0) dX6_split_230 (by decide) ?_
      refine z_iload_n dX6_split_231 rfl rfl ?_
      refine y_callV (as := [_, _, _]) CX6_add LX6_42 IX6_add VX6_add ⟨rfl, Nat.le_of_ble_eq_true rfl⟩ dX6_split_232 cr.2.2.1 rfl (Nat.le_of_ble_eq_true rfl) (Nat.le_of_ble_eq_true rfl) (by omega) sa rok_v (hg_ss (q1.1.trans q.1.symm) hN hS) ?_
      refine z_vret dX6_split_235 ?_
      exact hQ

/-- all of it -/
theorem c_split {h : Hp} {tp : Fl} {n d : Nat} (cr : CR h) (tb : TB4 h tp) (n3 : n ≤ 300) (hd : 7 ≤ d) : ∃ m h1, m ≤ n ∧ tK tp n m = 54 ∧ (∀ j, j < m → tK tp n j ≠ 54) ∧ TK4 h tp n (m + 1) h1 ∧ Sp d mX6_split [.ref 473, .ref 487, .int (nI n)] h none h1 := by
  have q0 : TK4 h tp n 0 (sI h 473 3 (nI 0)) := ⟨rfl, rfl, fun k k1 _ _ _ => by rw [pI_sI_ne k1], fun j hj => by rw [pI_sI, if_pos rfl, if_neg hj], by rw [pI_sI, if_pos rfl, if_pos rfl], fun j hj => absurd hj (by omega)⟩
  obtain ⟨m, h1, g1, g2, g3, q1, t1⟩ := l_split (tl := nI n) cr tb n3 hd n 0 0 0 none none none _ (by omega) (by omega) (Nat.le_refl _) rfl (Nat.le_refl _) (fun j hj => absurd hj (by omega)) q0
  refine ⟨m, h1, g1, g2, g3, q1, ?_⟩
  intro N S Q hN hS hQ
  have hN : pn h ≤ N := ss_n q1.1 hN
  have hS : ps h ≤ S := ss_s q1.1 hS
  refine z_iload_n dX6_split_0 rfl rfl ?_
  refine z_aload_n dX6_split_1 rfl rfl ?_
  refine y_alen dX6_split_2 tb.1 ⟨Nat.le_of_ble_eq_true rfl, Nat.le_of_ble_eq_true rfl⟩ rfl ?_
  refine z_mmin Kmin_X6_25 Kmin_static Kini_Math Kmin_code dX6_split_3 (by omega) (Nat.le_of_ble_eq_true rfl) ?_
  refine z_eqi (show _ = nI n from min3_nI n3) ?_
  refine z_istore_n dX6_split_6 rfl (Nat.le_of_ble_eq_true rfl) ?_
  refine z_aload_n dX6_split_7 rfl rfl ?_
  refine z_iconst (v := 0) dX6_split_8 (by decide) ?_
  refine y_putI FX6_21 dX6_split_9 (Or.inl rfl) (Or.inl rfl) cr.2.2.1 ?_
  refine z_iconst (v := 0) dX6_split_12 (by decide) ?_
  refine z_istore dX6_split_13 (Nat.le_of_ble_eq_true rfl) ?_
  refine z_iconst (v := 0) dX6_split_15 (by decide) ?_
  refine z_istore dX6_split_16 (Nat.le_of_ble_eq_true rfl) ?_
  exact t1 N S Q hN hS hQ

