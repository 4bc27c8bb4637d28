/-! the class's reader: what opens one (wip/whole/gen9s.py) -/
theorem c_opensOne {h : Hp} {d k : Nat} (hk : k ≤ 60) : Sp d mX2_opensOne [.int (nI k)] h (some (.int (bI (k = 48 ∨ k = 45 ∨ k = 20 ∨ k = 22 ∨ k = 23)))) h := by
  intro N S Q hN hS hQ
  by_cases q48 : k = 48
  · rw [bI_t (by omega)] at hQ
    refine z_iload_n dX2_opensOne_0 rfl rfl ?_
    refine z_bipush (v := 48) dX2_opensOne_1 (by decide) ?_
    refine z_icmp_eq dX2_opensOne_3 rfl (fun _ => ?_) (fun c => absurd (congrArg nI q48) c)
    refine z_iconst (v := 1) dX2_opensOne_30 (by decide) ?_
    refine z_goto dX2_opensOne_31 rfl ?_
    refine z_iret dX2_opensOne_35 ?_
    exact hQ
  · skip
    by_cases q45 : k = 45
    · rw [bI_t (by omega)] at hQ
      refine z_iload_n dX2_opensOne_0 rfl rfl ?_
      refine z_bipush (v := 48) dX2_opensOne_1 (by decide) ?_
      refine z_icmp_eq dX2_opensOne_3 rfl (fun c => absurd c (fun q => q48 ((nI_eq (b := 48) (by omega) (by omega)).mp q))) (fun _ => ?_)
      refine z_iload_n dX2_opensOne_6 rfl rfl ?_
      refine z_bipush (v := 45) dX2_opensOne_7 (by decide) ?_
      refine z_icmp_eq dX2_opensOne_9 rfl (fun _ => ?_) (fun c => absurd (congrArg nI q45) c)
      refine z_iconst (v := 1) dX2_opensOne_30 (by decide) ?_
      refine z_goto dX2_opensOne_31 rfl ?_
      refine z_iret dX2_opensOne_35 ?_
      exact hQ
    · skip
      by_cases q20 : k = 20
      · rw [bI_t (by omega)] at hQ
        refine z_iload_n dX2_opensOne_0 rfl rfl ?_
        refine z_bipush (v := 48) dX2_opensOne_1 (by decide) ?_
        refine z_icmp_eq dX2_opensOne_3 rfl (fun c => absurd c (fun q => q48 ((nI_eq (b := 48) (by omega) (by omega)).mp q))) (fun _ => ?_)
        refine z_iload_n dX2_opensOne_6 rfl rfl ?_
        refine z_bipush (v := 45) dX2_opensOne_7 (by decide) ?_
        refine z_icmp_eq dX2_opensOne_9 rfl (fun c => absurd c (fun q => q45 ((nI_eq (b := 45) (by omega) (by omega)).mp q))) (fun _ => ?_)
        refine z_iload_n dX2_opensOne_12 rfl rfl ?_
        refine z_bipush (v := 20) dX2_opensOne_13 (by decide) ?_
        refine z_icmp_eq dX2_opensOne_15 rfl (fun _ => ?_) (fun c => absurd (congrArg nI q20) c)
        refine z_iconst (v := 1) dX2_opensOne_30 (by decide) ?_
        refine z_goto dX2_opensOne_31 rfl ?_
        refine z_iret dX2_opensOne_35 ?_
        exact hQ
      · skip
        by_cases q22 : k = 22
        · rw [bI_t (by omega)] at hQ
          refine z_iload_n dX2_opensOne_0 rfl rfl ?_
          refine z_bipush (v := 48) dX2_opensOne_1 (by decide) ?_
          refine z_icmp_eq dX2_opensOne_3 rfl (fun c => absurd c (fun q => q48 ((nI_eq (b := 48) (by omega) (by omega)).mp q))) (fun _ => ?_)
          refine z_iload_n dX2_opensOne_6 rfl rfl ?_
          refine z_bipush (v := 45) dX2_opensOne_7 (by decide) ?_
          refine z_icmp_eq dX2_opensOne_9 rfl (fun c => absurd c (fun q => q45 ((nI_eq (b := 45) (by omega) (by omega)).mp q))) (fun _ => ?_)
          refine z_iload_n dX2_opensOne_12 rfl rfl ?_
          refine z_bipush (v := 20) dX2_opensOne_13 (by decide) ?_
          refine z_icmp_eq dX2_opensOne_15 rfl (fun c => absurd c (fun q => q20 ((nI_eq (b := 20) (by omega) (by omega)).mp q))) (fun _ => ?_)
          refine z_iload_n dX2_opensOne_18 rfl rfl ?_
          refine z_bipush (v := 22) dX2_opensOne_19 (by decide) ?_
          refine z_icmp_eq dX2_opensOne_21 rfl (fun _ => ?_) (fun c => absurd (congrArg nI q22) c)
          refine z_iconst (v := 1) dX2_opensOne_30 (by decide) ?_
          refine z_goto dX2_opensOne_31 rfl ?_
          refine z_iret dX2_opensOne_35 ?_
          exact hQ
        · skip
          by_cases q23 : k = 23
          · rw [bI_t (by omega)] at hQ
            refine z_iload_n dX2_opensOne_0 rfl rfl ?_
            refine z_bipush (v := 48) dX2_opensOne_1 (by decide) ?_
            refine z_icmp_eq dX2_opensOne_3 rfl (fun c => absurd c (fun q => q48 ((nI_eq (b := 48) (by omega) (by omega)).mp q))) (fun _ => ?_)
            refine z_iload_n dX2_opensOne_6 rfl rfl ?_
            refine z_bipush (v := 45) dX2_opensOne_7 (by decide) ?_
            refine z_icmp_eq dX2_opensOne_9 rfl (fun c => absurd c (fun q => q45 ((nI_eq (b := 45) (by omega) (by omega)).mp q))) (fun _ => ?_)
            refine z_iload_n dX2_opensOne_12 rfl rfl ?_
            refine z_bipush (v := 20) dX2_opensOne_13 (by decide) ?_
            refine z_icmp_eq dX2_opensOne_15 rfl (fun c => absurd c (fun q => q20 ((nI_eq (b := 20) (by omega) (by omega)).mp q))) (fun _ => ?_)
            refine z_iload_n dX2_opensOne_18 rfl rfl ?_
            refine z_bipush (v := 22) dX2_opensOne_19 (by decide) ?_
            refine z_icmp_eq dX2_opensOne_21 rfl (fun c => absurd c (fun q => q22 ((nI_eq (b := 22) (by omega) (by omega)).mp q))) (fun _ => ?_)
            refine z_iload_n dX2_opensOne_24 rfl rfl ?_
            refine z_bipush (v := 23) dX2_opensOne_25 (by decide) ?_
            refine z_icmp_ne dX2_opensOne_27 rfl (fun c => absurd (congrArg nI q23) c) (fun _ => ?_)
            refine z_iconst (v := 1) dX2_opensOne_30 (by decide) ?_
            refine z_goto dX2_opensOne_31 rfl ?_
            refine z_iret dX2_opensOne_35 ?_
            exact hQ
          · skip
            rw [bI_f (by omega)] at hQ
            refine z_iload_n dX2_opensOne_0 rfl rfl ?_
            refine z_bipush (v := 48) dX2_opensOne_1 (by decide) ?_
            refine z_icmp_eq dX2_opensOne_3 rfl (fun c => absurd c (fun q => q48 ((nI_eq (b := 48) (by omega) (by omega)).mp q))) (fun _ => ?_)
            refine z_iload_n dX2_opensOne_6 rfl rfl ?_
            refine z_bipush (v := 45) dX2_opensOne_7 (by decide) ?_
            refine z_icmp_eq dX2_opensOne_9 rfl (fun c => absurd c (fun q => q45 ((nI_eq (b := 45) (by omega) (by omega)).mp q))) (fun _ => ?_)
            refine z_iload_n dX2_opensOne_12 rfl rfl ?_
            refine z_bipush (v := 20) dX2_opensOne_13 (by decide) ?_
            refine z_icmp_eq dX2_opensOne_15 rfl (fun c => absurd c (fun q => q20 ((nI_eq (b := 20) (by omega) (by omega)).mp q))) (fun _ => ?_)
            refine z_iload_n dX2_opensOne_18 rfl rfl ?_
            refine z_bipush (v := 22) dX2_opensOne_19 (by decide) ?_
            refine z_icmp_eq dX2_opensOne_21 rfl (fun c => absurd c (fun q => q22 ((nI_eq (b := 22) (by omega) (by omega)).mp q))) (fun _ => ?_)
            refine z_iload_n dX2_opensOne_24 rfl rfl ?_
            refine z_bipush (v := 23) dX2_opensOne_25 (by decide) ?_
            refine z_icmp_ne dX2_opensOne_27 rfl (fun _ => ?_) (fun c => absurd c (fun q => q23 ((nI_eq (b := 23) (by omega) (by omega)).mp q)))
            refine z_iconst (v := 0) dX2_opensOne_34 (by decide) ?_
            refine z_iret dX2_opensOne_35 ?_
            exact hQ

