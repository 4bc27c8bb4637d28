/-! the class: what is (walks by program: wip/whole/gen22.py) -/
theorem out_of {w : Int32} {n : Nat} (hn : n < 2 ^ 31) (hc : ¬ inr w 0 (nI n)) : w.toInt < 0 ∨ (n : Int) < w.toInt := by
  by_cases h0 : w.toInt < 0
  · exact Or.inl h0
  · refine Or.inr (Int.not_le.mp fun q => hc ⟨?_, ?_⟩)
    · rw [Int32.le_iff_toInt_le]; simpa using h0
    · rw [Int32.le_iff_toInt_le, nI_toInt hn]; exact q

theorem C_is {h : Hp} {d : Nat} {a : Fl} {tx : Nat → Nat → Prop} (h8 : IO h 8 8) (hx0 : pR h 8 0 = some 9) (hs : MkS h 9) (hv : MV h 9 a tx) (w : Int32) : Sp d mX8_is [.ref 8, .int w] h (some (.int (mIs a w))) h := by
  intro N S Q hN hS hQ
  unfold mIs at hQ
  by_cases hc : inr w 0 3
  · obtain ⟨w', hw, rfl⟩ := inr_of (n := 3) (by omega) hc
    rw [if_pos hc, nn_nI (by omega)] at hQ
    rcases (show w' = 0 ∨ w' = 1 ∨ w' = 2 ∨ w' = 3 by omega) with q | q | q | q
    · subst q
      refine z_iload_n dX8_is_0 rfl rfl ?_
      refine z_tableIn (off := 31) (tgt := 32) dX8_is_1 (by decide) (by decide) rfl rfl ?_
      refine z_aload_n dX8_is_32 rfl rfl ?_
      refine y_getR FX8_10 dX8_is_33 rfl h8 hx0 ?_
      refine y_getR FX8_79 dX8_is_36 rfl hs.o hs.f0 ?_
      refine y_getI FX8_133 dX8_is_39 (Or.inl rfl) hs.now.1 ?_
      refine z_iret dX8_is_42 ?_
      rw [hv.1.1]
      exact hQ
    · subst q
      refine z_iload_n dX8_is_0 rfl rfl ?_
      refine z_tableIn (off := 42) (tgt := 43) dX8_is_1 (by decide) (by decide) rfl rfl ?_
      refine z_aload_n dX8_is_43 rfl rfl ?_
      refine y_getR FX8_10 dX8_is_44 rfl h8 hx0 ?_
      refine y_getR FX8_79 dX8_is_47 rfl hs.o hs.f0 ?_
      refine y_getI FX8_248 dX8_is_50 (Or.inl rfl) hs.now.1 ?_
      refine z_iret dX8_is_53 ?_
      rw [hv.1.2.1]
      exact hQ
    · subst q
      refine z_iload_n dX8_is_0 rfl rfl ?_
      refine z_tableIn (off := 53) (tgt := 54) dX8_is_1 (by decide) (by decide) rfl rfl ?_
      refine z_aload_n dX8_is_54 rfl rfl ?_
      refine y_getR FX8_10 dX8_is_55 rfl h8 hx0 ?_
      refine y_getR FX8_79 dX8_is_58 rfl hs.o hs.f0 ?_
      refine y_getI FX8_160 dX8_is_61 (Or.inl rfl) hs.now.1 ?_
      refine z_iret dX8_is_64 ?_
      rw [hv.1.2.2.1]
      exact hQ
    · subst q
      refine z_iload_n dX8_is_0 rfl rfl ?_
      refine z_tableIn (off := 64) (tgt := 65) dX8_is_1 (by decide) (by decide) rfl rfl ?_
      refine z_aload_n dX8_is_65 rfl rfl ?_
      refine y_getR FX8_10 dX8_is_66 rfl h8 hx0 ?_
      refine y_getR FX8_79 dX8_is_69 rfl hs.o hs.f0 ?_
      refine y_getR FX8_127 dX8_is_72 rfl hs.now.1 hs.now.2.2.2.1 ?_
      refine y_getI FX8_130 dX8_is_75 (Or.inl rfl) hs.now.2.2.2.2.1.1 ?_
      refine z_iret dX8_is_78 ?_
      rw [hv.1.2.2.2.2.2.1.2.2.1]
      exact hQ
  · rw [if_neg hc] at hQ
    refine z_iload_n dX8_is_0 rfl rfl ?_
    refine z_tableOut (tgt := 79) dX8_is_1 (out_of (n := 3) (by omega) hc) rfl ?_
    refine z_bipush (v := -2) dX8_is_79 (by decide) ?_
    refine z_iret dX8_is_81 ?_
    exact hQ

theorem C_about {s : Ms} {h : Hp} {d : Nat} {tx : Nat → Nat → Prop} (h8 : IO h 8 8) (hx0 : pR h 8 0 = some 9) (hs : MkS h 9) (hv : MV h 9 s.1 tx) (htp : pI h 8 7 = nI s.2.2.2.1) (w : Int32) : Sp d mX8_about [.ref 8, .int w] h (some (.int (mAbout s w))) h := by
  intro N S Q hN hS hQ
  unfold mAbout at hQ
  by_cases hc : inr w 0 7
  · obtain ⟨w', hw, rfl⟩ := inr_of (n := 7) (by omega) hc
    rw [if_pos hc, nn_nI (by omega)] at hQ
    rcases (show w' = 0 ∨ w' = 1 ∨ w' = 2 ∨ w' = 3 ∨ w' = 4 ∨ w' = 5 ∨ w' = 6 ∨ w' = 7 by omega) with q | q | q | q | q | q | q | q
    · subst q
      refine z_iload_n dX8_about_0 rfl rfl ?_
      refine z_tableIn (off := 51) (tgt := 52) dX8_about_1 (by decide) (by decide) rfl rfl ?_
      refine z_aload_n dX8_about_52 rfl rfl ?_
      refine y_getR FX8_10 dX8_about_53 rfl h8 hx0 ?_
      refine y_getR FX8_65 dX8_about_56 rfl hs.o hs.f4 ?_
      refine y_getI FX8_130 dX8_about_59 (Or.inl rfl) hs.facts.1 ?_
      refine z_iret dX8_about_62 ?_
      rw [hv.2.2.2.2.1.1.2.2.1]
      exact hQ
    · subst q
      refine z_iload_n dX8_about_0 rfl rfl ?_
      refine z_tableIn (off := 62) (tgt := 63) dX8_about_1 (by decide) (by decide) rfl rfl ?_
      refine z_aload_n dX8_about_63 rfl rfl ?_
      refine y_getR FX8_10 dX8_about_64 rfl h8 hx0 ?_
      refine y_getR FX8_79 dX8_about_67 rfl hs.o hs.f0 ?_
      refine y_getR FX8_82 dX8_about_70 rfl hs.now.1 hs.now.2.1 ?_
      refine y_getI FX8_130 dX8_about_73 (Or.inl rfl) hs.now.2.2.1.1 ?_
      refine z_iret dX8_about_76 ?_
      rw [hv.1.2.2.2.1.2.2.1]
      exact hQ
    · subst q
      refine z_iload_n dX8_about_0 rfl rfl ?_
      refine z_tableIn (off := 76) (tgt := 77) dX8_about_1 (by decide) (by decide) rfl rfl ?_
      refine z_aload_n dX8_about_77 rfl rfl ?_
      refine y_getR FX8_10 dX8_about_78 rfl h8 hx0 ?_
      refine y_getI FX8_89 dX8_about_81 (Or.inl rfl) hs.o ?_
      refine z_iret dX8_about_84 ?_
      rw [hv.2.2.2.2.2.2.2.2.1]
      exact hQ
    · subst q
      refine z_iload_n dX8_about_0 rfl rfl ?_
      refine z_tableIn (off := 84) (tgt := 85) dX8_about_1 (by decide) (by decide) rfl rfl ?_
      refine z_aload_n dX8_about_85 rfl rfl ?_
      refine y_getR FX8_10 dX8_about_86 rfl h8 hx0 ?_
      refine y_getI FX8_106 dX8_about_89 (Or.inl rfl) hs.o ?_
      refine z_iret dX8_about_92 ?_
      rw [hv.2.2.2.2.2.2.2.2.2.1]
      exact hQ
    · subst q
      refine z_iload_n dX8_about_0 rfl rfl ?_
      refine z_tableIn (off := 92) (tgt := 93) dX8_about_1 (by decide) (by decide) rfl rfl ?_
      refine z_aload_n dX8_about_93 rfl rfl ?_
      refine y_getR FX8_10 dX8_about_94 rfl h8 hx0 ?_
      refine y_getI FX8_413 dX8_about_97 (Or.inl rfl) hs.o ?_
      refine z_iret dX8_about_100 ?_
      rw [hv.2.2.1]
      exact hQ
    · subst q
      refine z_iload_n dX8_about_0 rfl rfl ?_
      refine z_tableIn (off := 100) (tgt := 101) dX8_about_1 (by decide) (by decide) rfl rfl ?_
      refine z_aload_n dX8_about_101 rfl rfl ?_
      refine y_getR FX8_10 dX8_about_102 rfl h8 hx0 ?_
      refine y_getR FX8_350 dX8_about_105 rfl hs.o hs.f5 ?_
      refine y_getI FX8_130 dX8_about_108 (Or.inl rfl) hs.offers.1 ?_
      refine z_iret dX8_about_111 ?_
      rw [hv.2.2.2.2.2.1.1.2.2.1]
      exact hQ
    · subst q
      refine z_iload_n dX8_about_0 rfl rfl ?_
      refine z_tableIn (off := 111) (tgt := 112) dX8_about_1 (by decide) (by decide) rfl rfl ?_
      refine z_aload_n dX8_about_112 rfl rfl ?_
      refine y_getR FX8_10 dX8_about_113 rfl h8 hx0 ?_
      refine y_getR FX8_373 dX8_about_116 rfl hs.o hs.f6 ?_
      refine y_getI FX8_130 dX8_about_119 (Or.inl rfl) hs.heard.1 ?_
      refine z_iret dX8_about_122 ?_
      rw [hv.2.2.2.2.2.2.1.1.2.2.1]
      exact hQ
    · subst q
      refine z_iload_n dX8_about_0 rfl rfl ?_
      refine z_tableIn (off := 122) (tgt := 123) dX8_about_1 (by decide) (by decide) rfl rfl ?_
      refine z_aload_n dX8_about_123 rfl rfl ?_
      refine y_getR FX8_10 dX8_about_124 rfl h8 hx0 ?_
      refine y_getR FX8_399 dX8_about_127 rfl hs.o hs.f7 ?_
      refine y_getI FX8_130 dX8_about_130 (Or.inl rfl) hs.owed.1 ?_
      refine z_iret dX8_about_133 ?_
      rw [hv.2.2.2.2.2.2.2.1.1.2.2.1]
      exact hQ
  · rw [if_neg hc] at hQ
    by_cases h9 : w = 8
    · subst h9
      rw [if_pos rfl] at hQ
      refine z_iload_n dX8_about_0 rfl rfl ?_
      refine z_tableIn (off := 133) (tgt := 134) dX8_about_1 (by decide) (by decide) rfl rfl ?_
      refine z_aload_n dX8_about_134 rfl rfl ?_
      refine y_getI FX8_51 dX8_about_135 (Or.inl rfl) h8 ?_
      refine z_iret dX8_about_138 ?_
      rw [htp]
      exact hQ
    · rw [if_neg h9] at hQ
      have h10 : w.toInt < 0 ∨ (8 : Int) < w.toInt := by
        have q := out_of (n := 7) (by omega) hc
        have : w.toInt ≠ 8 := fun q => h9 (Int32.toInt_inj.mp q)
        omega
      refine z_iload_n dX8_about_0 rfl rfl ?_
      refine z_tableOut (tgt := 139) dX8_about_1 (h10) rfl ?_
      refine z_bipush (v := -2) dX8_about_139 (by decide) ?_
      refine z_iret dX8_about_141 ?_
      exact hQ

theorem C_fault {s : Ms} {h : Hp} {d : Nat} (h8 : IO h 8 8) (e1 : pI h 8 8 = s.2.2.2.2.1) (e2 : pI h 8 9 = s.2.2.2.2.2.1) (w : Int32) : Sp d mX8_fault [.ref 8, .int w] h (some (.int (mFault s w))) h := by
  intro N S Q hN hS hQ
  unfold mFault at hQ
  rw [← e1, ← e2] at hQ
  refine z_iload_n dX8_fault_0 rfl rfl ?_
  refine z_if_ne dX8_fault_1 rfl (fun c1 => ?_) (fun c1 => ?_)
  · -- to 9
    refine z_iload_n dX8_fault_9 rfl rfl ?_
    refine z_iconst (v := 1) dX8_fault_10 (by decide) ?_
    refine z_icmp_ne dX8_fault_11 rfl (fun c11 => ?_) (fun c11 => ?_)
    · -- to 21
      refine z_iconst (v := -1) dX8_fault_21 (by decide) ?_
      refine z_iret dX8_fault_22 ?_
      first
        | (rw [if_pos (by assumption)] at hQ; exact hQ)
        | (rw [if_neg (by assumption), if_pos (by assumption)] at hQ; exact hQ)
        | (rw [if_neg (by assumption), if_neg (by assumption)] at hQ; exact hQ)
    · -- on
      refine z_aload_n dX8_fault_14 rfl rfl ?_
      refine y_getI FX8_58 dX8_fault_15 (Or.inl rfl) h8 ?_
      refine z_goto dX8_fault_18 rfl ?_
      refine z_iret dX8_fault_22 ?_
      first
        | (rw [if_pos (by assumption)] at hQ; exact hQ)
        | (rw [if_neg (by assumption), if_pos (by assumption)] at hQ; exact hQ)
        | (rw [if_neg (by assumption), if_neg (by assumption)] at hQ; exact hQ)
  · -- on
    refine z_aload_n dX8_fault_4 rfl rfl ?_
    refine y_getI FX8_55 dX8_fault_5 (Or.inl rfl) h8 ?_
    refine z_iret dX8_fault_8 ?_
    first
      | (rw [if_pos (by assumption)] at hQ; exact hQ)
      | (rw [if_neg (by assumption), if_pos (by assumption)] at hQ; exact hQ)
      | (rw [if_neg (by assumption), if_neg (by assumption)] at hQ; exact hQ)

