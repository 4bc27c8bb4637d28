/-! the class's reader: what is a name (wip/whole/gen9t.py) -/
theorem nm1_hi {k : Nat} (h : 30 ≤ k ∧ k ≤ 35) : nm1 k < 11 := by
  have q : k = 30 ∨ k = 31 ∨ k = 32 ∨ k = 33 ∨ k = 34 ∨ k = 35 := by omega
  rcases q with rfl | rfl | rfl | rfl | rfl | rfl <;> decide
theorem nm1_no {k : Nat} (h : ¬ (30 ≤ k ∧ k ≤ 35)) (h1 : k ≠ 10 ∧ k ≠ 4 ∧ k ≠ 11 ∧ k ≠ 12 ∧ k ≠ 16) : ¬ nm1 k < 11 := by
  unfold nm1
  repeat rw [if_neg (by omega)]
  omega

theorem c_isName {h : Hp} {d k : Nat} (hk : k ≤ 60) (hd : 1 ≤ d) : Sp d mX2_isName [.int (nI k)] h (some (.int (bI (nm1 k < 11)))) h := by
  intro N S Q hN hS hQ
  by_cases q10 : k = 10
  · rw [bI_t (show nm1 k < 11 by rw [q10]; decide)] at hQ
    refine z_iload_n dX2_isName_0 rfl rfl ?_
    refine z_bipush (v := 10) dX2_isName_1 (by decide) ?_
    refine z_icmp_eq dX2_isName_3 rfl (fun _ => ?_) (fun c => absurd (congrArg nI q10) c)
    refine z_iconst (v := 1) dX2_isName_40 (by decide) ?_
    refine z_goto dX2_isName_41 rfl ?_
    refine z_iret dX2_isName_45 ?_
    exact hQ
  · skip
    by_cases q4 : k = 4
    · rw [bI_t (show nm1 k < 11 by rw [q4]; decide)] at hQ
      refine z_iload_n dX2_isName_0 rfl rfl ?_
      refine z_bipush (v := 10) dX2_isName_1 (by decide) ?_
      refine z_icmp_eq dX2_isName_3 rfl (fun c => absurd c (fun q => q10 ((nI_eq (b := 10) (by omega) (by omega)).mp q))) (fun _ => ?_)
      refine z_iload_n dX2_isName_6 rfl rfl ?_
      refine z_iconst (v := 4) dX2_isName_7 (by decide) ?_
      refine z_icmp_eq dX2_isName_8 rfl (fun _ => ?_) (fun c => absurd (congrArg nI q4) c)
      refine z_iconst (v := 1) dX2_isName_40 (by decide) ?_
      refine z_goto dX2_isName_41 rfl ?_
      refine z_iret dX2_isName_45 ?_
      exact hQ
    · skip
      by_cases q11 : k = 11
      · rw [bI_t (show nm1 k < 11 by rw [q11]; decide)] at hQ
        refine z_iload_n dX2_isName_0 rfl rfl ?_
        refine z_bipush (v := 10) dX2_isName_1 (by decide) ?_
        refine z_icmp_eq dX2_isName_3 rfl (fun c => absurd c (fun q => q10 ((nI_eq (b := 10) (by omega) (by omega)).mp q))) (fun _ => ?_)
        refine z_iload_n dX2_isName_6 rfl rfl ?_
        refine z_iconst (v := 4) dX2_isName_7 (by decide) ?_
        refine z_icmp_eq dX2_isName_8 rfl (fun c => absurd c (fun q => q4 ((nI_eq (b := 4) (by omega) (by omega)).mp q))) (fun _ => ?_)
        refine z_iload_n dX2_isName_11 rfl rfl ?_
        refine z_bipush (v := 11) dX2_isName_12 (by decide) ?_
        refine z_icmp_eq dX2_isName_14 rfl (fun _ => ?_) (fun c => absurd (congrArg nI q11) c)
        refine z_iconst (v := 1) dX2_isName_40 (by decide) ?_
        refine z_goto dX2_isName_41 rfl ?_
        refine z_iret dX2_isName_45 ?_
        exact hQ
      · skip
        by_cases q12 : k = 12
        · rw [bI_t (show nm1 k < 11 by rw [q12]; decide)] at hQ
          refine z_iload_n dX2_isName_0 rfl rfl ?_
          refine z_bipush (v := 10) dX2_isName_1 (by decide) ?_
          refine z_icmp_eq dX2_isName_3 rfl (fun c => absurd c (fun q => q10 ((nI_eq (b := 10) (by omega) (by omega)).mp q))) (fun _ => ?_)
          refine z_iload_n dX2_isName_6 rfl rfl ?_
          refine z_iconst (v := 4) dX2_isName_7 (by decide) ?_
          refine z_icmp_eq dX2_isName_8 rfl (fun c => absurd c (fun q => q4 ((nI_eq (b := 4) (by omega) (by omega)).mp q))) (fun _ => ?_)
          refine z_iload_n dX2_isName_11 rfl rfl ?_
          refine z_bipush (v := 11) dX2_isName_12 (by decide) ?_
          refine z_icmp_eq dX2_isName_14 rfl (fun c => absurd c (fun q => q11 ((nI_eq (b := 11) (by omega) (by omega)).mp q))) (fun _ => ?_)
          refine z_iload_n dX2_isName_17 rfl rfl ?_
          refine z_bipush (v := 12) dX2_isName_18 (by decide) ?_
          refine z_icmp_eq dX2_isName_20 rfl (fun _ => ?_) (fun c => absurd (congrArg nI q12) c)
          refine z_iconst (v := 1) dX2_isName_40 (by decide) ?_
          refine z_goto dX2_isName_41 rfl ?_
          refine z_iret dX2_isName_45 ?_
          exact hQ
        · skip
          by_cases q16 : k = 16
          · rw [bI_t (show nm1 k < 11 by rw [q16]; decide)] at hQ
            refine z_iload_n dX2_isName_0 rfl rfl ?_
            refine z_bipush (v := 10) dX2_isName_1 (by decide) ?_
            refine z_icmp_eq dX2_isName_3 rfl (fun c => absurd c (fun q => q10 ((nI_eq (b := 10) (by omega) (by omega)).mp q))) (fun _ => ?_)
            refine z_iload_n dX2_isName_6 rfl rfl ?_
            refine z_iconst (v := 4) dX2_isName_7 (by decide) ?_
            refine z_icmp_eq dX2_isName_8 rfl (fun c => absurd c (fun q => q4 ((nI_eq (b := 4) (by omega) (by omega)).mp q))) (fun _ => ?_)
            refine z_iload_n dX2_isName_11 rfl rfl ?_
            refine z_bipush (v := 11) dX2_isName_12 (by decide) ?_
            refine z_icmp_eq dX2_isName_14 rfl (fun c => absurd c (fun q => q11 ((nI_eq (b := 11) (by omega) (by omega)).mp q))) (fun _ => ?_)
            refine z_iload_n dX2_isName_17 rfl rfl ?_
            refine z_bipush (v := 12) dX2_isName_18 (by decide) ?_
            refine z_icmp_eq dX2_isName_20 rfl (fun c => absurd c (fun q => q12 ((nI_eq (b := 12) (by omega) (by omega)).mp q))) (fun _ => ?_)
            refine z_iload_n dX2_isName_23 rfl rfl ?_
            refine z_bipush (v := 16) dX2_isName_24 (by decide) ?_
            refine z_icmp_eq dX2_isName_26 rfl (fun _ => ?_) (fun c => absurd (congrArg nI q16) c)
            refine z_iconst (v := 1) dX2_isName_40 (by decide) ?_
            refine z_goto dX2_isName_41 rfl ?_
            refine z_iret dX2_isName_45 ?_
            exact hQ
          · skip
            by_cases qh : 30 ≤ k ∧ k ≤ 35
            · rw [bI_t (nm1_hi qh)] at hQ
              refine z_iload_n dX2_isName_0 rfl rfl ?_
              refine z_bipush (v := 10) dX2_isName_1 (by decide) ?_
              refine z_icmp_eq dX2_isName_3 rfl (fun c => absurd c (fun q => q10 ((nI_eq (b := 10) (by omega) (by omega)).mp q))) (fun _ => ?_)
              refine z_iload_n dX2_isName_6 rfl rfl ?_
              refine z_iconst (v := 4) dX2_isName_7 (by decide) ?_
              refine z_icmp_eq dX2_isName_8 rfl (fun c => absurd c (fun q => q4 ((nI_eq (b := 4) (by omega) (by omega)).mp q))) (fun _ => ?_)
              refine z_iload_n dX2_isName_11 rfl rfl ?_
              refine z_bipush (v := 11) dX2_isName_12 (by decide) ?_
              refine z_icmp_eq dX2_isName_14 rfl (fun c => absurd c (fun q => q11 ((nI_eq (b := 11) (by omega) (by omega)).mp q))) (fun _ => ?_)
              refine z_iload_n dX2_isName_17 rfl rfl ?_
              refine z_bipush (v := 12) dX2_isName_18 (by decide) ?_
              refine z_icmp_eq dX2_isName_20 rfl (fun c => absurd c (fun q => q12 ((nI_eq (b := 12) (by omega) (by omega)).mp q))) (fun _ => ?_)
              refine z_iload_n dX2_isName_23 rfl rfl ?_
              refine z_bipush (v := 16) dX2_isName_24 (by decide) ?_
              refine z_icmp_eq dX2_isName_26 rfl (fun c => absurd c (fun q => q16 ((nI_eq (b := 16) (by omega) (by omega)).mp q))) (fun _ => ?_)
              refine z_iload_n dX2_isName_29 rfl rfl ?_
              refine z_bipush (v := 30) dX2_isName_30 (by decide) ?_
              refine z_bipush (v := 35) dX2_isName_32 (by decide) ?_
              refine y_callS (as := [_, _, _]) CX8_within LX2_66 SX8_within dX2_isName_34 rfl (Nat.le_of_ble_eq_true rfl) (Nat.le_of_ble_eq_true rfl) (by omega) (s_within (d := 0) _ _ _) (rok_z bI_01) ⟨Nat.le_refl _, Nat.le_refl _, hN, hS⟩ ?_
              refine z_if_eq dX2_isName_37 rfl (fun c => absurd c (bI_ne0.mpr ⟨(nI_leI (a := 30) (by omega) (by omega)).mpr qh.1, (nI_leI (b := 35) (by omega) (by omega)).mpr qh.2⟩)) (fun _ => ?_)
              refine z_iconst (v := 1) dX2_isName_40 (by decide) ?_
              refine z_goto dX2_isName_41 rfl ?_
              refine z_iret dX2_isName_45 ?_
              exact hQ
            · rw [bI_f (nm1_no qh ⟨q10, q4, q11, q12, q16⟩)] at hQ
              refine z_iload_n dX2_isName_0 rfl rfl ?_
              refine z_bipush (v := 10) dX2_isName_1 (by decide) ?_
              refine z_icmp_eq dX2_isName_3 rfl (fun c => absurd c (fun q => q10 ((nI_eq (b := 10) (by omega) (by omega)).mp q))) (fun _ => ?_)
              refine z_iload_n dX2_isName_6 rfl rfl ?_
              refine z_iconst (v := 4) dX2_isName_7 (by decide) ?_
              refine z_icmp_eq dX2_isName_8 rfl (fun c => absurd c (fun q => q4 ((nI_eq (b := 4) (by omega) (by omega)).mp q))) (fun _ => ?_)
              refine z_iload_n dX2_isName_11 rfl rfl ?_
              refine z_bipush (v := 11) dX2_isName_12 (by decide) ?_
              refine z_icmp_eq dX2_isName_14 rfl (fun c => absurd c (fun q => q11 ((nI_eq (b := 11) (by omega) (by omega)).mp q))) (fun _ => ?_)
              refine z_iload_n dX2_isName_17 rfl rfl ?_
              refine z_bipush (v := 12) dX2_isName_18 (by decide) ?_
              refine z_icmp_eq dX2_isName_20 rfl (fun c => absurd c (fun q => q12 ((nI_eq (b := 12) (by omega) (by omega)).mp q))) (fun _ => ?_)
              refine z_iload_n dX2_isName_23 rfl rfl ?_
              refine z_bipush (v := 16) dX2_isName_24 (by decide) ?_
              refine z_icmp_eq dX2_isName_26 rfl (fun c => absurd c (fun q => q16 ((nI_eq (b := 16) (by omega) (by omega)).mp q))) (fun _ => ?_)
              refine z_iload_n dX2_isName_29 rfl rfl ?_
              refine z_bipush (v := 30) dX2_isName_30 (by decide) ?_
              refine z_bipush (v := 35) dX2_isName_32 (by decide) ?_
              refine y_callS (as := [_, _, _]) CX8_within LX2_66 SX8_within dX2_isName_34 rfl (Nat.le_of_ble_eq_true rfl) (Nat.le_of_ble_eq_true rfl) (by omega) (s_within (d := 0) _ _ _) (rok_z bI_01) ⟨Nat.le_refl _, Nat.le_refl _, hN, hS⟩ ?_
              refine z_if_eq dX2_isName_37 rfl (fun _ => ?_) (fun c => absurd (bI_eq0.mpr (fun q => qh ⟨(nI_leI (a := 30) (by omega) (by omega)).mp q.1, (nI_leI (b := 35) (by omega) (by omega)).mp q.2⟩)) c)
              refine z_iconst (v := 0) dX2_isName_44 (by decide) ?_
              refine z_iret dX2_isName_45 ?_
              exact hQ

