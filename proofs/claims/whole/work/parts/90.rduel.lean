/-! duels: the reference (walks by program: wip/whole/gen90.py) -/
theorem p3_lt {f : Nat} (h : f < 9) : 3 ^ f < 2 ^ 31 ∧ 0 < 3 ^ f := by
  have : 3 ^ f ≤ 3 ^ 8 := Nat.pow_le_pow_right (by omega) (by omega)
  exact ⟨by omega, Nat.pow_pos (by omega)⟩
theorem win_iff {a : Fl} {so : Nat} : win a so = true ↔ ∀ k, k < a 5 → wsB a k so = true := allB_iff _
theorem wth_iff {F c : Nat} : wth F c = true ↔ ∀ j, j < 8 → (dg c j == 0 || F.testBit j) = true := allB_iff _
theorem dg_s {c i : Nat} : c / 3 ^ i / 3 = c / 3 ^ (i + 1) := by rw [Nat.div_div_eq_div_mul, ← Nat.pow_succ]

theorem r_digit {h : Hp} {d c f : Nat} (hm : SM h) (ht : ∀ f, f < 9 → pI h 500 f = nI (3 ^ f)) (hc : c < 6561) (hf : f < 8) : Sp d mX9_digit [.ref 488, .int (nI c), .int (nI f)] h (some (.int (nI (dg c f)))) h := by
  have p3 := p3_lt (show f < 9 by omega)
  have dl : c / 3 ^ f ≤ c := Nat.div_le_self _ _
  intro N S Q hN hS hQ
  refine z_iload_n dX9_digit_0 rfl rfl ?_
  refine z_aload_n dX9_digit_1 rfl rfl ?_
  refine y_getR FX9_56 dX9_digit_2 rfl hm.o hm.f_threes ?_
  refine z_iload_n dX9_digit_5 rfl rfl ?_
  refine y_ialN (f) dX9_digit_6 hm.A_threes (Nat.le_of_ble_eq_true rfl) (rfl) (by omega) ?_
  refine z_eqi (ht f (by omega)) ?_
  refine z_idiv dX9_digit_7 (fun q => absurd ((nI_eq (b := 0) (by omega) (by omega)).mp q) (by omega)) ?_
  refine z_eqi (pk_div (a := c) (d := 3 ^ f) (by omega) (by omega) (by omega)) ?_
  refine z_iconst (v := 3) dX9_digit_8 (by decide) ?_
  refine z_irem dX9_digit_9 (by decide) ?_
  refine z_eqi (irem_n (a := c / 3 ^ f) (d := 3) (by omega) (by omega) (by omega)) ?_
  refine z_iret dX9_digit_10 ?_
  exact hQ

theorem dcn_le {F c : Nat} : ∀ i, dcn F c i ≤ i := by
  intro i
  induction i with
  | zero => exact Nat.le_refl _
  | succ i ih =>
    show dcn F c i + (if _ then _ else _) ≤ _
    split <;> omega
theorem r_turn_loop {h : Hp} {d N S c F : Nat} {x3 : Int32} {Q : Option Value → Hp → Prop} (hm : SM h) (ht : ∀ f, f < 9 → pI h 500 f = nI (3 ^ f)) (hc : c < 6561) (hF : F < 256) (hN : pn h ≤ N) (hS : ps h ≤ S) (hd : 1 ≤ d) (K : T d N S mX9_isMakersTurn 48 [some (.ref 488), some (.int (nI c)), some (.int (nI F)), some (.int x3), some (.int (nI (dcn F c 8))), some (.int (nI 8))] [] h Q) : ∀ r i, i + r = 8 → T d N S mX9_isMakersTurn 6 [some (.ref 488), some (.int (nI c)), some (.int (nI F)), some (.int x3), some (.int (nI (dcn F c i))), some (.int (nI i))] [] h Q := by
  intro r
  induction r with
  | zero =>
    intro i hi
    have e : i = 8 := by omega
    subst e
    refine z_iload dX9_isMakersTurn_6 rfl ?_
    refine z_bipush (v := 8) dX9_isMakersTurn_8 (by decide) ?_
    refine z_icmp_ge dX9_isMakersTurn_10 rfl (fun _ => ?_) (fun c => absurd (by decide) c)
    exact K
  | succ r ih =>
    intro i hi
    have d3 := dg_lt (c := c) (f := i)
    by_cases hb : F.testBit i = true
    · by_cases h0 : dg c i = 0
      · have e : dcn F c (i + 1) = dcn F c i + 0 := by
          show _ + (if _ then _ else _) = _
          rw [if_neg (fun q => q.2 h0)]
        refine z_iload dX9_isMakersTurn_6 rfl ?_
        refine z_bipush (v := 8) dX9_isMakersTurn_8 (by decide) ?_
        refine z_icmp_ge dX9_isMakersTurn_10 rfl (fun c => absurd c (fun q => absurd ((nI_leI (a := 8) (by omega) (by omega)).mp q) (by omega))) (fun _ => ?_)
        refine z_iload dX9_isMakersTurn_13 rfl ?_
        refine z_iload_n dX9_isMakersTurn_15 rfl rfl ?_
        refine z_iload dX9_isMakersTurn_16 rfl ?_
        refine y_callS (as := [_, _]) CX9_has LX9_261 SX9_has dX9_isMakersTurn_18 rfl (Nat.le_of_ble_eq_true rfl) (Nat.le_of_ble_eq_true rfl) (by omega) (r_has (n := F) (k := i) (by omega) (by omega)) (rok_z bI_01) ⟨Nat.le_refl _, Nat.le_refl _, hN, hS⟩ ?_
        refine z_if_eq dX9_isMakersTurn_21 rfl (fun c => absurd c (bI_ne0.mpr hb)) (fun _ => ?_)
        refine z_aload_n dX9_isMakersTurn_24 rfl rfl ?_
        refine z_iload_n dX9_isMakersTurn_25 rfl rfl ?_
        refine z_iload dX9_isMakersTurn_26 rfl ?_
        refine y_callV (as := [_, _]) CX9_digit LX9_498 IX9_digit VX9_digit ⟨rfl, Nat.le_of_ble_eq_true rfl⟩ dX9_isMakersTurn_28 hm.o rfl (Nat.le_of_ble_eq_true rfl) (Nat.le_of_ble_eq_true rfl) (by omega) (r_digit (d := 0) (c := c) (f := i) (by exact hm) ht hc (by omega)) rok_i ⟨Nat.le_refl _, Nat.le_refl _, hN, hS⟩ ?_
        refine z_if_eq dX9_isMakersTurn_31 rfl (fun _ => ?_) (fun c => absurd (congrArg nI h0) c)
        refine z_iconst (v := 0) dX9_isMakersTurn_38 (by decide) ?_
        refine z_iadd dX9_isMakersTurn_39 ?_
        refine z_eqi (nI_add _ 0) ?_
        refine z_istore dX9_isMakersTurn_40 (Nat.le_of_ble_eq_true rfl) ?_
        refine z_iinc dX9_isMakersTurn_42 rfl (nI_1 _) (Nat.le_of_ble_eq_true rfl) ?_
        refine z_goto dX9_isMakersTurn_45 rfl ?_
        have K2 := ih (i + 1) (by omega)
        rw [e] at K2
        exact K2
      · have e : dcn F c (i + 1) = dcn F c i + 1 := by
          show _ + (if _ then _ else _) = _
          rw [if_pos ⟨hb, h0⟩]
        refine z_iload dX9_isMakersTurn_6 rfl ?_
        refine z_bipush (v := 8) dX9_isMakersTurn_8 (by decide) ?_
        refine z_icmp_ge dX9_isMakersTurn_10 rfl (fun c => absurd c (fun q => absurd ((nI_leI (a := 8) (by omega) (by omega)).mp q) (by omega))) (fun _ => ?_)
        refine z_iload dX9_isMakersTurn_13 rfl ?_
        refine z_iload_n dX9_isMakersTurn_15 rfl rfl ?_
        refine z_iload dX9_isMakersTurn_16 rfl ?_
        refine y_callS (as := [_, _]) CX9_has LX9_261 SX9_has dX9_isMakersTurn_18 rfl (Nat.le_of_ble_eq_true rfl) (Nat.le_of_ble_eq_true rfl) (by omega) (r_has (n := F) (k := i) (by omega) (by omega)) (rok_z bI_01) ⟨Nat.le_refl _, Nat.le_refl _, hN, hS⟩ ?_
        refine z_if_eq dX9_isMakersTurn_21 rfl (fun c => absurd c (bI_ne0.mpr hb)) (fun _ => ?_)
        refine z_aload_n dX9_isMakersTurn_24 rfl rfl ?_
        refine z_iload_n dX9_isMakersTurn_25 rfl rfl ?_
        refine z_iload dX9_isMakersTurn_26 rfl ?_
        refine y_callV (as := [_, _]) CX9_digit LX9_498 IX9_digit VX9_digit ⟨rfl, Nat.le_of_ble_eq_true rfl⟩ dX9_isMakersTurn_28 hm.o rfl (Nat.le_of_ble_eq_true rfl) (Nat.le_of_ble_eq_true rfl) (by omega) (r_digit (d := 0) (c := c) (f := i) (by exact hm) ht hc (by omega)) rok_i ⟨Nat.le_refl _, Nat.le_refl _, hN, hS⟩ ?_
        refine z_if_eq dX9_isMakersTurn_31 rfl (fun c => absurd c (fun q => h0 ((nI_eq (b := 0) (by omega) (by omega)).mp q))) (fun _ => ?_)
        refine z_iconst (v := 1) dX9_isMakersTurn_34 (by decide) ?_
        refine z_goto dX9_isMakersTurn_35 rfl ?_
        refine z_iadd dX9_isMakersTurn_39 ?_
        refine z_eqi (nI_1 _) ?_
        refine z_istore dX9_isMakersTurn_40 (Nat.le_of_ble_eq_true rfl) ?_
        refine z_iinc dX9_isMakersTurn_42 rfl (nI_1 _) (Nat.le_of_ble_eq_true rfl) ?_
        refine z_goto dX9_isMakersTurn_45 rfl ?_
        have K2 := ih (i + 1) (by omega)
        rw [e] at K2
        exact K2
    · have e : dcn F c (i + 1) = dcn F c i + 0 := by
        show _ + (if _ then _ else _) = _
        rw [if_neg (fun q => hb q.1)]
      refine z_iload dX9_isMakersTurn_6 rfl ?_
      refine z_bipush (v := 8) dX9_isMakersTurn_8 (by decide) ?_
      refine z_icmp_ge dX9_isMakersTurn_10 rfl (fun c => absurd c (fun q => absurd ((nI_leI (a := 8) (by omega) (by omega)).mp q) (by omega))) (fun _ => ?_)
      refine z_iload dX9_isMakersTurn_13 rfl ?_
      refine z_iload_n dX9_isMakersTurn_15 rfl rfl ?_
      refine z_iload dX9_isMakersTurn_16 rfl ?_
      refine y_callS (as := [_, _]) CX9_has LX9_261 SX9_has dX9_isMakersTurn_18 rfl (Nat.le_of_ble_eq_true rfl) (Nat.le_of_ble_eq_true rfl) (by omega) (r_has (n := F) (k := i) (by omega) (by omega)) (rok_z bI_01) ⟨Nat.le_refl _, Nat.le_refl _, hN, hS⟩ ?_
      refine z_if_eq dX9_isMakersTurn_21 rfl (fun _ => ?_) (fun c => absurd (bI_eq0.mpr hb) c)
      refine z_iconst (v := 0) dX9_isMakersTurn_38 (by decide) ?_
      refine z_iadd dX9_isMakersTurn_39 ?_
      refine z_eqi (nI_add _ 0) ?_
      refine z_istore dX9_isMakersTurn_40 (Nat.le_of_ble_eq_true rfl) ?_
      refine z_iinc dX9_isMakersTurn_42 rfl (nI_1 _) (Nat.le_of_ble_eq_true rfl) ?_
      refine z_goto dX9_isMakersTurn_45 rfl ?_
      have K2 := ih (i + 1) (by omega)
      rw [e] at K2
      exact K2

theorem r_makersTurn {h : Hp} {d c F : Nat} {m : Bool} (hm : SM h) (ht : ∀ f, f < 9 → pI h 500 f = nI (3 ^ f)) (hc : c < 6561) (hF : F < 256) (hd : 1 ≤ d) : Sp d mX9_isMakersTurn [.ref 488, .int (nI c), .int (nI F), .int (bI (m = true))] h (some (.int (bI (mkC F m c = true)))) h := by
  have dl := dcn_le (F := F) (c := c) 8
  intro N S Q hN hS hQ
  have K : T d N S mX9_isMakersTurn 48 [some (.ref 488), some (.int (nI c)), some (.int (nI F)), some (.int (bI (m = true))), some (.int (nI (dcn F c 8))), some (.int (nI 8))] [] h Q := by
    by_cases hp : dcn F c 8 % 2 = 0
    · rw [show mkC F m c = m from if_pos hp] at hQ
      cases m
      · rw [show bI (false = true) = (0 : Int32) from rfl] at hQ
        refine z_iload dX9_isMakersTurn_48 rfl ?_
        refine z_iconst (v := 2) dX9_isMakersTurn_50 (by decide) ?_
        refine z_irem dX9_isMakersTurn_51 (by decide) ?_
        refine z_eqi (irem_n (a := dcn F c 8) (d := 2) (by omega) (by omega) (by omega)) ?_
        refine z_if_ne dX9_isMakersTurn_52 rfl (fun c => absurd (congrArg nI hp) c) (fun _ => ?_)
        refine z_iconst (v := 1) dX9_isMakersTurn_55 (by decide) ?_
        refine z_goto dX9_isMakersTurn_56 rfl ?_
        refine z_iload_n dX9_isMakersTurn_60 rfl rfl ?_
        refine z_icmp_ne dX9_isMakersTurn_61 rfl (fun _ => ?_) (fun c => absurd c (by decide))
        refine z_iconst (v := 0) dX9_isMakersTurn_68 (by decide) ?_
        refine z_iret dX9_isMakersTurn_69 ?_
        exact hQ
      · rw [show bI (true = true) = (1 : Int32) from rfl] at hQ
        refine z_iload dX9_isMakersTurn_48 rfl ?_
        refine z_iconst (v := 2) dX9_isMakersTurn_50 (by decide) ?_
        refine z_irem dX9_isMakersTurn_51 (by decide) ?_
        refine z_eqi (irem_n (a := dcn F c 8) (d := 2) (by omega) (by omega) (by omega)) ?_
        refine z_if_ne dX9_isMakersTurn_52 rfl (fun c => absurd (congrArg nI hp) c) (fun _ => ?_)
        refine z_iconst (v := 1) dX9_isMakersTurn_55 (by decide) ?_
        refine z_goto dX9_isMakersTurn_56 rfl ?_
        refine z_iload_n dX9_isMakersTurn_60 rfl rfl ?_
        refine z_icmp_ne dX9_isMakersTurn_61 rfl (fun c => absurd (by decide) c) (fun _ => ?_)
        refine z_iconst (v := 1) dX9_isMakersTurn_64 (by decide) ?_
        refine z_goto dX9_isMakersTurn_65 rfl ?_
        refine z_iret dX9_isMakersTurn_69 ?_
        exact hQ
    · rw [show mkC F m c = !m from if_neg hp] at hQ
      cases m
      · rw [show bI ((!false) = true) = (1 : Int32) from rfl] at hQ
        refine z_iload dX9_isMakersTurn_48 rfl ?_
        refine z_iconst (v := 2) dX9_isMakersTurn_50 (by decide) ?_
        refine z_irem dX9_isMakersTurn_51 (by decide) ?_
        refine z_eqi (irem_n (a := dcn F c 8) (d := 2) (by omega) (by omega) (by omega)) ?_
        refine z_if_ne dX9_isMakersTurn_52 rfl (fun _ => ?_) (fun c => absurd c (fun q => hp ((nI_eq (b := 0) (by omega) (by omega)).mp q)))
        refine z_iconst (v := 0) dX9_isMakersTurn_59 (by decide) ?_
        refine z_iload_n dX9_isMakersTurn_60 rfl rfl ?_
        refine z_icmp_ne dX9_isMakersTurn_61 rfl (fun c => absurd (by decide) c) (fun _ => ?_)
        refine z_iconst (v := 1) dX9_isMakersTurn_64 (by decide) ?_
        refine z_goto dX9_isMakersTurn_65 rfl ?_
        refine z_iret dX9_isMakersTurn_69 ?_
        exact hQ
      · rw [show bI ((!true) = true) = (0 : Int32) from rfl] at hQ
        refine z_iload dX9_isMakersTurn_48 rfl ?_
        refine z_iconst (v := 2) dX9_isMakersTurn_50 (by decide) ?_
        refine z_irem dX9_isMakersTurn_51 (by decide) ?_
        refine z_eqi (irem_n (a := dcn F c 8) (d := 2) (by omega) (by omega) (by omega)) ?_
        refine z_if_ne dX9_isMakersTurn_52 rfl (fun _ => ?_) (fun c => absurd c (fun q => hp ((nI_eq (b := 0) (by omega) (by omega)).mp q)))
        refine z_iconst (v := 0) dX9_isMakersTurn_59 (by decide) ?_
        refine z_iload_n dX9_isMakersTurn_60 rfl rfl ?_
        refine z_icmp_ne dX9_isMakersTurn_61 rfl (fun _ => ?_) (fun c => absurd c (by decide))
        refine z_iconst (v := 0) dX9_isMakersTurn_68 (by decide) ?_
        refine z_iret dX9_isMakersTurn_69 ?_
        exact hQ
  refine z_iconst (v := 0) dX9_isMakersTurn_0 (by decide) ?_
  refine z_istore dX9_isMakersTurn_1 (Nat.le_of_ble_eq_true rfl) ?_
  refine z_iconst (v := 0) dX9_isMakersTurn_3 (by decide) ?_
  refine z_istore dX9_isMakersTurn_4 (Nat.le_of_ble_eq_true rfl) ?_
  exact r_turn_loop hm ht hc hF hN hS hd K 8 0 (by omega)

theorem r_isEnd {s : Ms} {h : Hp} {d : Nat} (hr : RM s h) (hv : IC s.1) (ho : IOf s.1) (ht : ∀ f, f < 9 → pI h 500 f = nI (3 ^ f)) {c : Nat} (hc : c < 6561) (hd : 2 ≤ d) : Sp d mX9_isEnd [.ref 488, .int (nI c)] h (some (.int (bI (win s.1 (soC c) = true)))) h := by
  have hm := hr.m
  have v0 := hv.1
  have v5 := hv.2.2.2.2.2.1
  intro N S Q hN hS hQ
  have W : ∀ r k, k + r = s.1 5 → (∀ j, j < k → wsB s.1 j (soC c) = true) → T d N S mX9_isEnd 38 [some (.ref 488), some (.int (nI c)), some (.int (nI (soC c))), some (.int (nI k))] [] h Q := by
    intro r
    induction r with
    | zero =>
      intro k hk ha
      have e : k = s.1 5 := by omega
      subst e
      rw [bI_t (win_iff.mpr ha)] at hQ
      refine z_iload_n dX9_isEnd_38 rfl rfl ?_
      refine z_aload_n dX9_isEnd_39 rfl rfl ?_
      refine y_getR FX9_7 dX9_isEnd_40 rfl hm.o hm.f_a ?_
      refine z_iconst (v := 5) dX9_isEnd_43 (by decide) ?_
      refine y_ialN (5) dX9_isEnd_44 hm.A_a (Nat.le_of_ble_eq_true rfl) (rfl) (by omega) ?_
      refine z_eqi (show _ = nI (s.1 5) from hr.at (by omega) (by omega)) ?_
      refine z_icmp_ge dX9_isEnd_45 rfl (fun _ => ?_) (fun c => absurd (Int32.le_refl _) c)
      refine z_iconst (v := 1) dX9_isEnd_65 (by decide) ?_
      refine z_iret dX9_isEnd_66 ?_
      exact hQ
    | succ r ih =>
      intro k hk ha
      by_cases hb : wsB s.1 k (soC c) = true
      · skip
        refine z_iload_n dX9_isEnd_38 rfl rfl ?_
        refine z_aload_n dX9_isEnd_39 rfl rfl ?_
        refine y_getR FX9_7 dX9_isEnd_40 rfl hm.o hm.f_a ?_
        refine z_iconst (v := 5) dX9_isEnd_43 (by decide) ?_
        refine y_ialN (5) dX9_isEnd_44 hm.A_a (Nat.le_of_ble_eq_true rfl) (rfl) (by omega) ?_
        refine z_eqi (show _ = nI (s.1 5) from hr.at (by omega) (by omega)) ?_
        refine z_icmp_ge dX9_isEnd_45 rfl (fun c => absurd c (fun q => absurd ((nI_leI (by omega) (by omega)).mp q) (by omega))) (fun _ => ?_)
        refine z_aload_n dX9_isEnd_48 rfl rfl ?_
        refine z_iload_n dX9_isEnd_49 rfl rfl ?_
        refine z_iload_n dX9_isEnd_50 rfl rfl ?_
        refine y_callV (as := [_, _]) CX9_isWordSo LX9_473 IX9_isWordSo VX9_isWordSo ⟨rfl, Nat.le_of_ble_eq_true rfl⟩ dX9_isEnd_51 hm.o rfl (Nat.le_of_ble_eq_true rfl) (Nat.le_of_ble_eq_true rfl) (by omega) (r_isWordSo (d := 1) (k := k) (g := soC c) hr hv ho (by omega) soC_lt (Nat.le_refl _)) (rok_z bI_01) ⟨Nat.le_refl _, Nat.le_refl _, hN, hS⟩ ?_
        refine z_if_ne dX9_isEnd_54 rfl (fun _ => ?_) (fun c => absurd c (bI_ne0.mpr hb))
        refine z_iinc dX9_isEnd_59 rfl (nI_1 _) (Nat.le_of_ble_eq_true rfl) ?_
        refine z_goto dX9_isEnd_62 rfl ?_
        refine ih (k + 1) (by omega) (fun j hj => ?_)
        by_cases e : j = k
        · rw [e]; exact hb
        · exact ha j (by omega)
      · rw [bI_f (fun q => hb (win_iff.mp q k (by omega)))] at hQ
        refine z_iload_n dX9_isEnd_38 rfl rfl ?_
        refine z_aload_n dX9_isEnd_39 rfl rfl ?_
        refine y_getR FX9_7 dX9_isEnd_40 rfl hm.o hm.f_a ?_
        refine z_iconst (v := 5) dX9_isEnd_43 (by decide) ?_
        refine y_ialN (5) dX9_isEnd_44 hm.A_a (Nat.le_of_ble_eq_true rfl) (rfl) (by omega) ?_
        refine z_eqi (show _ = nI (s.1 5) from hr.at (by omega) (by omega)) ?_
        refine z_icmp_ge dX9_isEnd_45 rfl (fun c => absurd c (fun q => absurd ((nI_leI (by omega) (by omega)).mp q) (by omega))) (fun _ => ?_)
        refine z_aload_n dX9_isEnd_48 rfl rfl ?_
        refine z_iload_n dX9_isEnd_49 rfl rfl ?_
        refine z_iload_n dX9_isEnd_50 rfl rfl ?_
        refine y_callV (as := [_, _]) CX9_isWordSo LX9_473 IX9_isWordSo VX9_isWordSo ⟨rfl, Nat.le_of_ble_eq_true rfl⟩ dX9_isEnd_51 hm.o rfl (Nat.le_of_ble_eq_true rfl) (Nat.le_of_ble_eq_true rfl) (by omega) (r_isWordSo (d := 1) (k := k) (g := soC c) hr hv ho (by omega) soC_lt (Nat.le_refl _)) (rok_z bI_01) ⟨Nat.le_refl _, Nat.le_refl _, hN, hS⟩ ?_
        refine z_if_ne dX9_isEnd_54 rfl (fun c => absurd (bI_eq0.mpr hb) c) (fun _ => ?_)
        refine z_iconst (v := 0) dX9_isEnd_57 (by decide) ?_
        refine z_iret dX9_isEnd_58 ?_
        exact hQ
  have L : ∀ r i, i + r = 8 → T d N S mX9_isEnd 4 [some (.ref 488), some (.int (nI c)), some (.int (nI (mskF (fun f => dg c f == 1) i))), some (.int (nI i))] [] h Q := by
    intro r
    induction r with
    | zero =>
      intro i hi
      have e : i = 8 := by omega
      subst e
      refine z_iload_n dX9_isEnd_4 rfl rfl ?_
      refine z_bipush (v := 8) dX9_isEnd_5 (by decide) ?_
      refine z_icmp_ge dX9_isEnd_7 rfl (fun _ => ?_) (fun c => absurd (by decide) c)
      refine z_iconst (v := 0) dX9_isEnd_36 (by decide) ?_
      refine z_istore_n dX9_isEnd_37 rfl (Nat.le_of_ble_eq_true rfl) ?_
      exact W (s.1 5) 0 (by omega) (fun j hj => by omega)
    | succ r ih =>
      intro i hi
      have d3 := dg_lt (c := c) (f := i)
      by_cases h1 : dg c i = 1
      · have e : mskF (fun f => dg c f == 1) (i + 1) = (mskF (fun f => dg c f == 1) i) ||| 2 ^ i := by
          show _ ||| (if (dg c i == 1) = true then _ else _) = _
          rw [if_pos (by rw [h1]; rfl)]
        refine z_iload_n dX9_isEnd_4 rfl rfl ?_
        refine z_bipush (v := 8) dX9_isEnd_5 (by decide) ?_
        refine z_icmp_ge dX9_isEnd_7 rfl (fun c => absurd c (fun q => absurd ((nI_leI (a := 8) (by omega) (by omega)).mp q) (by omega))) (fun _ => ?_)
        refine z_iload_n dX9_isEnd_10 rfl rfl ?_
        refine z_aload_n dX9_isEnd_11 rfl rfl ?_
        refine z_iload_n dX9_isEnd_12 rfl rfl ?_
        refine z_iload_n dX9_isEnd_13 rfl rfl ?_
        refine y_callV (as := [_, _]) CX9_digit LX9_498 IX9_digit VX9_digit ⟨rfl, Nat.le_of_ble_eq_true rfl⟩ dX9_isEnd_14 hm.o rfl (Nat.le_of_ble_eq_true rfl) (Nat.le_of_ble_eq_true rfl) (by omega) (r_digit (d := 0) (c := c) (f := i) (by exact hm) ht hc (by omega)) rok_i ⟨Nat.le_refl _, Nat.le_refl _, hN, hS⟩ ?_
        refine z_iconst (v := 1) dX9_isEnd_17 (by decide) ?_
        refine z_icmp_ne dX9_isEnd_18 rfl (fun c => absurd (congrArg nI h1) c) (fun _ => ?_)
        refine z_iconst (v := 1) dX9_isEnd_21 (by decide) ?_
        refine z_iload_n dX9_isEnd_22 rfl rfl ?_
        refine z_ishl dX9_isEnd_23 ?_
        refine z_goto dX9_isEnd_24 rfl ?_
        refine z_eqi (nI_bit (show i < 31 by omega)) ?_
        refine z_ior dX9_isEnd_28 ?_
        refine z_eqi (nI_or _ _) ?_
        refine z_istore_n dX9_isEnd_29 rfl (Nat.le_of_ble_eq_true rfl) ?_
        refine z_iinc dX9_isEnd_30 rfl (nI_1 _) (Nat.le_of_ble_eq_true rfl) ?_
        refine z_goto dX9_isEnd_33 rfl ?_
        have K2 := ih (i + 1) (by omega)
        rw [e] at K2
        exact K2
      · have e : mskF (fun f => dg c f == 1) (i + 1) = (mskF (fun f => dg c f == 1) i) ||| 0 := by
          show _ ||| (if (dg c i == 1) = true then _ else _) = _
          rw [if_neg (fun q => h1 (by simpa using q))]
        refine z_iload_n dX9_isEnd_4 rfl rfl ?_
        refine z_bipush (v := 8) dX9_isEnd_5 (by decide) ?_
        refine z_icmp_ge dX9_isEnd_7 rfl (fun c => absurd c (fun q => absurd ((nI_leI (a := 8) (by omega) (by omega)).mp q) (by omega))) (fun _ => ?_)
        refine z_iload_n dX9_isEnd_10 rfl rfl ?_
        refine z_aload_n dX9_isEnd_11 rfl rfl ?_
        refine z_iload_n dX9_isEnd_12 rfl rfl ?_
        refine z_iload_n dX9_isEnd_13 rfl rfl ?_
        refine y_callV (as := [_, _]) CX9_digit LX9_498 IX9_digit VX9_digit ⟨rfl, Nat.le_of_ble_eq_true rfl⟩ dX9_isEnd_14 hm.o rfl (Nat.le_of_ble_eq_true rfl) (Nat.le_of_ble_eq_true rfl) (by omega) (r_digit (d := 0) (c := c) (f := i) (by exact hm) ht hc (by omega)) rok_i ⟨Nat.le_refl _, Nat.le_refl _, hN, hS⟩ ?_
        refine z_iconst (v := 1) dX9_isEnd_17 (by decide) ?_
        refine z_icmp_ne dX9_isEnd_18 rfl (fun _ => ?_) (fun c => absurd c (fun q => h1 ((nI_eq (b := 1) (by omega) (by omega)).mp q)))
        refine z_iconst (v := 0) dX9_isEnd_27 (by decide) ?_
        refine z_ior dX9_isEnd_28 ?_
        refine z_eqi (show _ = nI ((mskF (fun f => dg c f == 1) i) ||| 0) from nI_or _ 0) ?_
        refine z_istore_n dX9_isEnd_29 rfl (Nat.le_of_ble_eq_true rfl) ?_
        refine z_iinc dX9_isEnd_30 rfl (nI_1 _) (Nat.le_of_ble_eq_true rfl) ?_
        refine z_goto dX9_isEnd_33 rfl ?_
        have K2 := ih (i + 1) (by omega)
        rw [e] at K2
        exact K2
  refine z_iconst (v := 0) dX9_isEnd_0 (by decide) ?_
  refine z_istore_n dX9_isEnd_1 rfl (Nat.le_of_ble_eq_true rfl) ?_
  refine z_iconst (v := 0) dX9_isEnd_2 (by decide) ?_
  refine z_istore_n dX9_isEnd_3 rfl (Nat.le_of_ble_eq_true rfl) ?_
  exact L 8 0 (by omega)

theorem r_isWithin {h : Hp} {d c F : Nat} (hc : c < 6561) (hF : F < 256) (hd : 1 ≤ d) : Sp d mX9_isWithin [.int (nI c), .int (nI F)] h (some (.int (bI (wth F c = true)))) h := by
  intro N S Q hN hS hQ
  have L : ∀ r i, i + r = 8 → (∀ j, j < i → (dg c j == 0 || F.testBit j) = true) → T d N S mX9_isWithin 4 [some (.int (nI c)), some (.int (nI F)), some (.int (nI (c / 3 ^ i))), some (.int (nI i))] [] h Q := by
    intro r
    induction r with
    | zero =>
      intro i hi ha
      have e : i = 8 := by omega
      subst e
      rw [bI_t (wth_iff.mpr ha)] at hQ
      refine z_iload_n dX9_isWithin_4 rfl rfl ?_
      refine z_bipush (v := 8) dX9_isWithin_5 (by decide) ?_
      refine z_icmp_ge dX9_isWithin_7 rfl (fun _ => ?_) (fun c => absurd (by decide) c)
      refine z_iconst (v := 1) dX9_isWithin_36 (by decide) ?_
      refine z_iret dX9_isWithin_37 ?_
      exact hQ
    | succ r ih =>
      intro i hi ha
      have d3 := dg_lt (c := c) (f := i)
      have dl : c / 3 ^ i ≤ c := Nat.div_le_self _ _
      by_cases h0 : dg c i = 0
      · have ok : (dg c i == 0 || F.testBit i) = true := by rw [h0]; rfl
        refine z_iload_n dX9_isWithin_4 rfl rfl ?_
        refine z_bipush (v := 8) dX9_isWithin_5 (by decide) ?_
        refine z_icmp_ge dX9_isWithin_7 rfl (fun c => absurd c (fun q => absurd ((nI_leI (a := 8) (by omega) (by omega)).mp q) (by omega))) (fun _ => ?_)
        refine z_iload_n dX9_isWithin_10 rfl rfl ?_
        refine z_iconst (v := 3) dX9_isWithin_11 (by decide) ?_
        refine z_irem dX9_isWithin_12 (by decide) ?_
        refine z_eqi (show _ = nI (dg c i) from irem_n (a := c / 3 ^ i) (d := 3) (by omega) (by omega) (by omega)) ?_
        refine z_if_eq dX9_isWithin_13 rfl (fun _ => ?_) (fun c => absurd (congrArg nI h0) c)
        refine z_iload_n dX9_isWithin_26 rfl rfl ?_
        refine z_iconst (v := 3) dX9_isWithin_27 (by decide) ?_
        refine z_idiv dX9_isWithin_28 (by decide) ?_
        refine z_eqi (show _ = nI (c / 3 ^ (i + 1)) from (pk_div (a := c / 3 ^ i) (d := 3) (by omega) (by omega) (by omega)).trans (congrArg nI dg_s)) ?_
        refine z_istore_n dX9_isWithin_29 rfl (Nat.le_of_ble_eq_true rfl) ?_
        refine z_iinc dX9_isWithin_30 rfl (nI_1 _) (Nat.le_of_ble_eq_true rfl) ?_
        refine z_goto dX9_isWithin_33 rfl ?_
        refine ih (i + 1) (by omega) (fun j hj => ?_)
        by_cases e : j = i
        · rw [e]; exact ok
        · exact ha j (by omega)
      · have n0 : ¬ nI (dg c i) = 0 := fun q => h0 ((nI_eq (b := 0) (by omega) (by omega)).mp q)
        by_cases hb : F.testBit i = true
        · have ok : (dg c i == 0 || F.testBit i) = true := by rw [hb, Bool.or_true]
          refine z_iload_n dX9_isWithin_4 rfl rfl ?_
          refine z_bipush (v := 8) dX9_isWithin_5 (by decide) ?_
          refine z_icmp_ge dX9_isWithin_7 rfl (fun c => absurd c (fun q => absurd ((nI_leI (a := 8) (by omega) (by omega)).mp q) (by omega))) (fun _ => ?_)
          refine z_iload_n dX9_isWithin_10 rfl rfl ?_
          refine z_iconst (v := 3) dX9_isWithin_11 (by decide) ?_
          refine z_irem dX9_isWithin_12 (by decide) ?_
          refine z_eqi (show _ = nI (dg c i) from irem_n (a := c / 3 ^ i) (d := 3) (by omega) (by omega) (by omega)) ?_
          refine z_if_eq dX9_isWithin_13 rfl (fun c => absurd c (n0)) (fun _ => ?_)
          refine z_iload_n dX9_isWithin_16 rfl rfl ?_
          refine z_iload_n dX9_isWithin_17 rfl rfl ?_
          refine y_callS (as := [_, _]) CX9_has LX9_261 SX9_has dX9_isWithin_18 rfl (Nat.le_of_ble_eq_true rfl) (Nat.le_of_ble_eq_true rfl) (by omega) (r_has (n := F) (k := i) (by omega) (by omega)) (rok_z bI_01) ⟨Nat.le_refl _, Nat.le_refl _, hN, hS⟩ ?_
          refine z_if_ne dX9_isWithin_21 rfl (fun _ => ?_) (fun c => absurd c (bI_ne0.mpr hb))
          refine z_iload_n dX9_isWithin_26 rfl rfl ?_
          refine z_iconst (v := 3) dX9_isWithin_27 (by decide) ?_
          refine z_idiv dX9_isWithin_28 (by decide) ?_
          refine z_eqi (show _ = nI (c / 3 ^ (i + 1)) from (pk_div (a := c / 3 ^ i) (d := 3) (by omega) (by omega) (by omega)).trans (congrArg nI dg_s)) ?_
          refine z_istore_n dX9_isWithin_29 rfl (Nat.le_of_ble_eq_true rfl) ?_
          refine z_iinc dX9_isWithin_30 rfl (nI_1 _) (Nat.le_of_ble_eq_true rfl) ?_
          refine z_goto dX9_isWithin_33 rfl ?_
          refine ih (i + 1) (by omega) (fun j hj => ?_)
          by_cases e : j = i
          · rw [e]; exact ok
          · exact ha j (by omega)
        · rw [bI_f (fun q => by
            have := wth_iff.mp q i (by omega)
            have this : (dg c i == 0 || F.testBit i) = true := this
            have hz : (dg c i == 0) = false := by simpa using h0
            rw [hz, Bool.false_or] at this
            exact hb this)] at hQ
          refine z_iload_n dX9_isWithin_4 rfl rfl ?_
          refine z_bipush (v := 8) dX9_isWithin_5 (by decide) ?_
          refine z_icmp_ge dX9_isWithin_7 rfl (fun c => absurd c (fun q => absurd ((nI_leI (a := 8) (by omega) (by omega)).mp q) (by omega))) (fun _ => ?_)
          refine z_iload_n dX9_isWithin_10 rfl rfl ?_
          refine z_iconst (v := 3) dX9_isWithin_11 (by decide) ?_
          refine z_irem dX9_isWithin_12 (by decide) ?_
          refine z_eqi (show _ = nI (dg c i) from irem_n (a := c / 3 ^ i) (d := 3) (by omega) (by omega) (by omega)) ?_
          refine z_if_eq dX9_isWithin_13 rfl (fun c => absurd c (n0)) (fun _ => ?_)
          refine z_iload_n dX9_isWithin_16 rfl rfl ?_
          refine z_iload_n dX9_isWithin_17 rfl rfl ?_
          refine y_callS (as := [_, _]) CX9_has LX9_261 SX9_has dX9_isWithin_18 rfl (Nat.le_of_ble_eq_true rfl) (Nat.le_of_ble_eq_true rfl) (by omega) (r_has (n := F) (k := i) (by omega) (by omega)) (rok_z bI_01) ⟨Nat.le_refl _, Nat.le_refl _, hN, hS⟩ ?_
          refine z_if_ne dX9_isWithin_21 rfl (fun c => absurd (bI_eq0.mpr hb) c) (fun _ => ?_)
          refine z_iconst (v := 0) dX9_isWithin_24 (by decide) ?_
          refine z_iret dX9_isWithin_25 ?_
          exact hQ
  have L0 := L 8 0 (by omega) (fun j hj => by omega)
  rw [Nat.pow_zero, Nat.div_one] at L0
  refine z_iload_n dX9_isWithin_0 rfl rfl ?_
  refine z_istore_n dX9_isWithin_1 rfl (Nat.le_of_ble_eq_true rfl) ?_
  refine z_iconst (v := 0) dX9_isWithin_2 (by decide) ?_
  refine z_istore_n dX9_isWithin_3 rfl (Nat.le_of_ble_eq_true rfl) ?_
  exact L0

theorem r_val_loop_1 {s : Ms} {h : Hp} {d N S : Nat} {Q : Option Value → Hp → Prop} (hr : RM s h) (hv : IC s.1) (ho : IOf s.1) (ht : ∀ f, f < 9 → pI h 500 f = nI (3 ^ f)) {c F : Nat} {m : Bool} {x3 : Int32} (hc : c < 6561) (hF : F < 256) (hw : wth F c = true) (hmk : mkC F m c = true) (hrow : ∀ c2, c < c2 → c2 < 6561 → wth F c2 = true → pI h 499 c2 = bI (gC (win s.1) F m c2 = true)) (hN : pn h ≤ N) (hS : ps h ≤ S) (hd : 3 ≤ d) (hQ : Q (some (.int (bI (gC (win s.1) F m c = true)))) h) : ∀ r i, i + r = 8 → (∀ j, j < i → F.testBit j = true → dg c j = 0 → ¬ (gC (win s.1) F m (c + 1 * 3 ^ j)) = true) → T d N S mX9_isValued 15 [some (.ref 488), some (.int (nI c)), some (.int (nI F)), some (.int x3), some (.int 1), some (.int (bI ((anyB (fun j => F.testBit j && dg c j == 0) i) = true))), some (.int (nI i))] [] h Q := by
  have hm := hr.m
  have v0 := hv.1
  have v5 := hv.2.2.2.2.2.1
  have stp := gC_step (w := win s.1) (m := m) (c := c) hF
  rw [hmk] at stp
  intro r
  induction r with
  | zero =>
    intro i hi ha
    have e : i = 8 := by omega
    subst e
    by_cases hL : lfC F c = 0
    · have an : ¬ (anyB (fun j => F.testBit j && dg c j == 0) 8) = true := fun q => by
        obtain ⟨j, hj, e⟩ := (anyB_iff _).mp q
        have : (lfC F c).testBit j = true := by rw [lfC_bit hj]; exact e
        rw [hL, Nat.zero_testBit] at this
        exact absurd this (by decide)
      rw [gC_end hL] at hQ
      refine z_iload dX9_isValued_15 rfl ?_
      refine z_bipush (v := 8) dX9_isValued_17 (by decide) ?_
      refine z_icmp_ge dX9_isValued_19 rfl (fun _ => ?_) (fun c => absurd (by decide) c)
      refine z_iload dX9_isValued_86 rfl ?_
      refine z_if_eq dX9_isValued_88 rfl (fun _ => ?_) (fun c => absurd (bI_eq0.mpr an) c)
      refine z_aload_n dX9_isValued_104 rfl rfl ?_
      refine z_iload_n dX9_isValued_105 rfl rfl ?_
      refine y_callV (as := [_]) CX9_isEnd LX9_504 IX9_isEnd VX9_isEnd ⟨rfl, Nat.le_of_ble_eq_true rfl⟩ dX9_isValued_106 hm.o rfl (Nat.le_of_ble_eq_true rfl) (Nat.le_of_ble_eq_true rfl) (by omega) (r_isEnd (d := 2) hr hv ho ht hc (Nat.le_refl _)) (rok_z bI_01) ⟨Nat.le_refl _, Nat.le_refl _, hN, hS⟩ ?_
      refine z_iret dX9_isValued_109 ?_
      exact hQ
    · have an : (anyB (fun j => F.testBit j && dg c j == 0) 8) = true := by
        obtain ⟨j, hj, e⟩ := bit_ex lfC_lt (fun q => hL ((pcn_z _ lfC_lt).mp q))
        rw [lfC_bit hj] at e
        exact (anyB_iff _).mpr ⟨j, hj, e⟩
      have ne : ¬ gC (win s.1) F m c = true := fun q => by
        obtain ⟨j, hj, hb, h0, e⟩ := (stp hL).mp q
        exact ha j hj hb h0 e
      rw [bI_f ne] at hQ
      refine z_iload dX9_isValued_15 rfl ?_
      refine z_bipush (v := 8) dX9_isValued_17 (by decide) ?_
      refine z_icmp_ge dX9_isValued_19 rfl (fun _ => ?_) (fun c => absurd (by decide) c)
      refine z_iload dX9_isValued_86 rfl ?_
      refine z_if_eq dX9_isValued_88 rfl (fun c => absurd c (bI_ne0.mpr an)) (fun _ => ?_)
      refine z_iload dX9_isValued_91 rfl ?_
      refine z_if_ne dX9_isValued_93 rfl (fun _ => ?_) (fun c => absurd c (by decide))
      refine z_iconst (v := 0) dX9_isValued_100 (by decide) ?_
      refine z_goto dX9_isValued_101 rfl ?_
      refine z_iret dX9_isValued_109 ?_
      exact hQ
  | succ r ih =>
    intro i hi ha
    have d3 := dg_lt (c := c) (f := i)
    have p3 := p3_lt (show i < 9 by omega)
    have es : anyB (fun j => F.testBit j && dg c j == 0) (i + 1) = ((anyB (fun j => F.testBit j && dg c j == 0) i) || (F.testBit i && dg c i == 0)) := rfl
    by_cases hb : F.testBit i = true
    · by_cases h0 : dg c i = 0
      · have lim := dg_lim (x := 1) (show i < 8 by omega) hc (by omega) h0
        have hv1 : pI h 499 (c + 1 * 3 ^ i) = bI ((gC (win s.1) F m (c + 1 * 3 ^ i)) = true) := hrow _ (by omega) lim (wth_put (by omega) (by omega) h0 hb hw)
        have hL : lfC F c ≠ 0 := fun q => by
          have : (lfC F c).testBit i = true := by rw [lfC_bit (by omega), hb, h0]; rfl
          rw [q, Nat.zero_testBit] at this
          exact absurd this (by decide)
        by_cases hg : (gC (win s.1) F m (c + 1 * 3 ^ i)) = true
        · have wn : gC (win s.1) F m c = true := (stp hL).mpr ⟨i, by omega, hb, h0, hg⟩
          rw [wn] at hQ
          have hgi : bI ((gC (win s.1) F m (c + 1 * 3 ^ i)) = true) = (1 : Int32) := by rw [hg]; rfl
          refine z_iload dX9_isValued_15 rfl ?_
          refine z_bipush (v := 8) dX9_isValued_17 (by decide) ?_
          refine z_icmp_ge dX9_isValued_19 rfl (fun c => absurd c (fun q => absurd ((nI_leI (a := 8) (by omega) (by omega)).mp q) (by omega))) (fun _ => ?_)
          refine z_iload_n dX9_isValued_22 rfl rfl ?_
          refine z_iload dX9_isValued_23 rfl ?_
          refine y_callS (as := [_, _]) CX9_has LX9_261 SX9_has dX9_isValued_25 rfl (Nat.le_of_ble_eq_true rfl) (Nat.le_of_ble_eq_true rfl) (by omega) (r_has (n := F) (k := i) (by omega) (by omega)) (rok_z bI_01) ⟨Nat.le_refl _, Nat.le_refl _, hN, hS⟩ ?_
          refine z_if_eq dX9_isValued_28 rfl (fun c => absurd c (bI_ne0.mpr hb)) (fun _ => ?_)
          refine z_aload_n dX9_isValued_31 rfl rfl ?_
          refine z_iload_n dX9_isValued_32 rfl rfl ?_
          refine z_iload dX9_isValued_33 rfl ?_
          refine y_callV (as := [_, _]) CX9_digit LX9_498 IX9_digit VX9_digit ⟨rfl, Nat.le_of_ble_eq_true rfl⟩ dX9_isValued_35 hm.o rfl (Nat.le_of_ble_eq_true rfl) (Nat.le_of_ble_eq_true rfl) (by omega) (r_digit (d := 0) (c := c) (f := i) (by exact hm) ht hc (by omega)) rok_i ⟨Nat.le_refl _, Nat.le_refl _, hN, hS⟩ ?_
          refine z_if_eq dX9_isValued_38 rfl (fun _ => ?_) (fun c => absurd (congrArg nI h0) c)
          refine z_iconst (v := 1) dX9_isValued_44 (by decide) ?_
          refine z_istore dX9_isValued_45 (Nat.le_of_ble_eq_true rfl) ?_
          refine z_aload_n dX9_isValued_47 rfl rfl ?_
          refine y_getR FX9_53 dX9_isValued_48 rfl hm.o hm.f_comesAbout ?_
          refine z_iload_n dX9_isValued_51 rfl rfl ?_
          refine z_iload dX9_isValued_52 rfl ?_
          refine z_if_eq dX9_isValued_54 rfl (fun c => absurd c (by decide)) (fun _ => ?_)
          refine z_iconst (v := 1) dX9_isValued_57 (by decide) ?_
          refine z_goto dX9_isValued_58 rfl ?_
          refine z_aload_n dX9_isValued_62 rfl rfl ?_
          refine y_getR FX9_56 dX9_isValued_63 rfl hm.o hm.f_threes ?_
          refine z_iload dX9_isValued_66 rfl ?_
          refine y_ialN (i) dX9_isValued_68 hm.A_threes (Nat.le_of_ble_eq_true rfl) (rfl) (by omega) ?_
          refine z_eqi (ht i (by omega)) ?_
          refine z_imul dX9_isValued_69 ?_
          refine z_eqi (pk_mul 1 (3 ^ i)) ?_
          refine z_iadd dX9_isValued_70 ?_
          refine z_eqi (nI_add c (1 * 3 ^ i)) ?_
          refine y_zalN (c + 1 * 3 ^ i) dX9_isValued_71 hm.A_comesAbout (Nat.le_of_ble_eq_true rfl) (rfl) (by omega) ?_
          refine z_eqi hv1 ?_
          refine z_iload dX9_isValued_72 rfl ?_
          refine z_icmp_ne dX9_isValued_74 rfl (fun c => absurd (hgi) c) (fun _ => ?_)
          refine z_iload dX9_isValued_77 rfl ?_
          refine z_iret dX9_isValued_79 ?_
          exact hQ
        · have hno := hg
          have hgi : ¬ bI ((gC (win s.1) F m (c + 1 * 3 ^ i)) = true) = (1 : Int32) := by
            cases q : (gC (win s.1) F m (c + 1 * 3 ^ i))
            · decide
            · exact absurd q hg
          have e : anyB (fun j => F.testBit j && dg c j == 0) (i + 1) = true := by
            rw [es, hb, h0]
            simp
          have K2 : T d N S mX9_isValued 15 [some (.ref 488), some (.int (nI c)), some (.int (nI F)), some (.int x3), some (.int 1), some (.int (bI ((anyB (fun j => F.testBit j && dg c j == 0) (i + 1)) = true))), some (.int (nI (i + 1)))] [] h Q := by
            refine ih (i + 1) (by omega) (fun j hj hbj hdj => ?_)
            by_cases e : j = i
            · rw [e]; exact hno
            · exact ha j (by omega) hbj hdj
          rw [show bI ((anyB (fun j => F.testBit j && dg c j == 0) (i + 1)) = true) = (1 : Int32) from bI_t e] at K2
          refine z_iload dX9_isValued_15 rfl ?_
          refine z_bipush (v := 8) dX9_isValued_17 (by decide) ?_
          refine z_icmp_ge dX9_isValued_19 rfl (fun c => absurd c (fun q => absurd ((nI_leI (a := 8) (by omega) (by omega)).mp q) (by omega))) (fun _ => ?_)
          refine z_iload_n dX9_isValued_22 rfl rfl ?_
          refine z_iload dX9_isValued_23 rfl ?_
          refine y_callS (as := [_, _]) CX9_has LX9_261 SX9_has dX9_isValued_25 rfl (Nat.le_of_ble_eq_true rfl) (Nat.le_of_ble_eq_true rfl) (by omega) (r_has (n := F) (k := i) (by omega) (by omega)) (rok_z bI_01) ⟨Nat.le_refl _, Nat.le_refl _, hN, hS⟩ ?_
          refine z_if_eq dX9_isValued_28 rfl (fun c => absurd c (bI_ne0.mpr hb)) (fun _ => ?_)
          refine z_aload_n dX9_isValued_31 rfl rfl ?_
          refine z_iload_n dX9_isValued_32 rfl rfl ?_
          refine z_iload dX9_isValued_33 rfl ?_
          refine y_callV (as := [_, _]) CX9_digit LX9_498 IX9_digit VX9_digit ⟨rfl, Nat.le_of_ble_eq_true rfl⟩ dX9_isValued_35 hm.o rfl (Nat.le_of_ble_eq_true rfl) (Nat.le_of_ble_eq_true rfl) (by omega) (r_digit (d := 0) (c := c) (f := i) (by exact hm) ht hc (by omega)) rok_i ⟨Nat.le_refl _, Nat.le_refl _, hN, hS⟩ ?_
          refine z_if_eq dX9_isValued_38 rfl (fun _ => ?_) (fun c => absurd (congrArg nI h0) c)
          refine z_iconst (v := 1) dX9_isValued_44 (by decide) ?_
          refine z_istore dX9_isValued_45 (Nat.le_of_ble_eq_true rfl) ?_
          refine z_aload_n dX9_isValued_47 rfl rfl ?_
          refine y_getR FX9_53 dX9_isValued_48 rfl hm.o hm.f_comesAbout ?_
          refine z_iload_n dX9_isValued_51 rfl rfl ?_
          refine z_iload dX9_isValued_52 rfl ?_
          refine z_if_eq dX9_isValued_54 rfl (fun c => absurd c (by decide)) (fun _ => ?_)
          refine z_iconst (v := 1) dX9_isValued_57 (by decide) ?_
          refine z_goto dX9_isValued_58 rfl ?_
          refine z_aload_n dX9_isValued_62 rfl rfl ?_
          refine y_getR FX9_56 dX9_isValued_63 rfl hm.o hm.f_threes ?_
          refine z_iload dX9_isValued_66 rfl ?_
          refine y_ialN (i) dX9_isValued_68 hm.A_threes (Nat.le_of_ble_eq_true rfl) (rfl) (by omega) ?_
          refine z_eqi (ht i (by omega)) ?_
          refine z_imul dX9_isValued_69 ?_
          refine z_eqi (pk_mul 1 (3 ^ i)) ?_
          refine z_iadd dX9_isValued_70 ?_
          refine z_eqi (nI_add c (1 * 3 ^ i)) ?_
          refine y_zalN (c + 1 * 3 ^ i) dX9_isValued_71 hm.A_comesAbout (Nat.le_of_ble_eq_true rfl) (rfl) (by omega) ?_
          refine z_eqi hv1 ?_
          refine z_iload dX9_isValued_72 rfl ?_
          refine z_icmp_ne dX9_isValued_74 rfl (fun _ => ?_) (fun c => absurd c (hgi))
          refine z_iinc dX9_isValued_80 rfl (nI_1 _) (Nat.le_of_ble_eq_true rfl) ?_
          refine z_goto dX9_isValued_83 rfl ?_
          exact K2
      · have e : anyB (fun j => F.testBit j && dg c j == 0) (i + 1) = (anyB (fun j => F.testBit j && dg c j == 0) i) := by
          have hz : (dg c i == 0) = false := by simpa using h0
          rw [es, hz, Bool.and_false, Bool.or_false]
        have hno : True := trivial
        have K2 : T d N S mX9_isValued 15 [some (.ref 488), some (.int (nI c)), some (.int (nI F)), some (.int x3), some (.int 1), some (.int (bI ((anyB (fun j => F.testBit j && dg c j == 0) (i + 1)) = true))), some (.int (nI (i + 1)))] [] h Q := by
          refine ih (i + 1) (by omega) (fun j hj hbj hdj => ?_)
          by_cases e : j = i
          · rw [e] at hdj; exact absurd hdj h0
          · exact ha j (by omega) hbj hdj
        rw [e] at K2
        refine z_iload dX9_isValued_15 rfl ?_
        refine z_bipush (v := 8) dX9_isValued_17 (by decide) ?_
        refine z_icmp_ge dX9_isValued_19 rfl (fun c => absurd c (fun q => absurd ((nI_leI (a := 8) (by omega) (by omega)).mp q) (by omega))) (fun _ => ?_)
        refine z_iload_n dX9_isValued_22 rfl rfl ?_
        refine z_iload dX9_isValued_23 rfl ?_
        refine y_callS (as := [_, _]) CX9_has LX9_261 SX9_has dX9_isValued_25 rfl (Nat.le_of_ble_eq_true rfl) (Nat.le_of_ble_eq_true rfl) (by omega) (r_has (n := F) (k := i) (by omega) (by omega)) (rok_z bI_01) ⟨Nat.le_refl _, Nat.le_refl _, hN, hS⟩ ?_
        refine z_if_eq dX9_isValued_28 rfl (fun c => absurd c (bI_ne0.mpr hb)) (fun _ => ?_)
        refine z_aload_n dX9_isValued_31 rfl rfl ?_
        refine z_iload_n dX9_isValued_32 rfl rfl ?_
        refine z_iload dX9_isValued_33 rfl ?_
        refine y_callV (as := [_, _]) CX9_digit LX9_498 IX9_digit VX9_digit ⟨rfl, Nat.le_of_ble_eq_true rfl⟩ dX9_isValued_35 hm.o rfl (Nat.le_of_ble_eq_true rfl) (Nat.le_of_ble_eq_true rfl) (by omega) (r_digit (d := 0) (c := c) (f := i) (by exact hm) ht hc (by omega)) rok_i ⟨Nat.le_refl _, Nat.le_refl _, hN, hS⟩ ?_
        refine z_if_eq dX9_isValued_38 rfl (fun c => absurd c (fun q => h0 ((nI_eq (b := 0) (by omega) (by omega)).mp q))) (fun _ => ?_)
        refine z_goto dX9_isValued_41 rfl ?_
        refine z_iinc dX9_isValued_80 rfl (nI_1 _) (Nat.le_of_ble_eq_true rfl) ?_
        refine z_goto dX9_isValued_83 rfl ?_
        exact K2
    · have e : anyB (fun j => F.testBit j && dg c j == 0) (i + 1) = (anyB (fun j => F.testBit j && dg c j == 0) i) := by
        have hz : F.testBit i = false := by simpa using hb
        rw [es, hz, Bool.false_and, Bool.or_false]
      have K2 : T d N S mX9_isValued 15 [some (.ref 488), some (.int (nI c)), some (.int (nI F)), some (.int x3), some (.int 1), some (.int (bI ((anyB (fun j => F.testBit j && dg c j == 0) (i + 1)) = true))), some (.int (nI (i + 1)))] [] h Q := by
        refine ih (i + 1) (by omega) (fun j hj hbj hdj => ?_)
        by_cases e : j = i
        · rw [e] at hbj; exact absurd hbj hb
        · exact ha j (by omega) hbj hdj
      rw [e] at K2
      refine z_iload dX9_isValued_15 rfl ?_
      refine z_bipush (v := 8) dX9_isValued_17 (by decide) ?_
      refine z_icmp_ge dX9_isValued_19 rfl (fun c => absurd c (fun q => absurd ((nI_leI (a := 8) (by omega) (by omega)).mp q) (by omega))) (fun _ => ?_)
      refine z_iload_n dX9_isValued_22 rfl rfl ?_
      refine z_iload dX9_isValued_23 rfl ?_
      refine y_callS (as := [_, _]) CX9_has LX9_261 SX9_has dX9_isValued_25 rfl (Nat.le_of_ble_eq_true rfl) (Nat.le_of_ble_eq_true rfl) (by omega) (r_has (n := F) (k := i) (by omega) (by omega)) (rok_z bI_01) ⟨Nat.le_refl _, Nat.le_refl _, hN, hS⟩ ?_
      refine z_if_eq dX9_isValued_28 rfl (fun _ => ?_) (fun c => absurd (bI_eq0.mpr hb) c)
      refine z_iinc dX9_isValued_80 rfl (nI_1 _) (Nat.le_of_ble_eq_true rfl) ?_
      refine z_goto dX9_isValued_83 rfl ?_
      exact K2

theorem r_val_loop_0 {s : Ms} {h : Hp} {d N S : Nat} {Q : Option Value → Hp → Prop} (hr : RM s h) (hv : IC s.1) (ho : IOf s.1) (ht : ∀ f, f < 9 → pI h 500 f = nI (3 ^ f)) {c F : Nat} {m : Bool} {x3 : Int32} (hc : c < 6561) (hF : F < 256) (hw : wth F c = true) (hmk : mkC F m c = false) (hrow : ∀ c2, c < c2 → c2 < 6561 → wth F c2 = true → pI h 499 c2 = bI (gC (win s.1) F m c2 = true)) (hN : pn h ≤ N) (hS : ps h ≤ S) (hd : 3 ≤ d) (hQ : Q (some (.int (bI (gC (win s.1) F m c = true)))) h) : ∀ r i, i + r = 8 → (∀ j, j < i → F.testBit j = true → dg c j = 0 → ¬ (gC (win s.1) F m (c + 2 * 3 ^ j)) = false) → T d N S mX9_isValued 15 [some (.ref 488), some (.int (nI c)), some (.int (nI F)), some (.int x3), some (.int 0), some (.int (bI ((anyB (fun j => F.testBit j && dg c j == 0) i) = true))), some (.int (nI i))] [] h Q := by
  have hm := hr.m
  have v0 := hv.1
  have v5 := hv.2.2.2.2.2.1
  have stp := gC_step (w := win s.1) (m := m) (c := c) hF
  rw [hmk] at stp
  intro r
  induction r with
  | zero =>
    intro i hi ha
    have e : i = 8 := by omega
    subst e
    by_cases hL : lfC F c = 0
    · have an : ¬ (anyB (fun j => F.testBit j && dg c j == 0) 8) = true := fun q => by
        obtain ⟨j, hj, e⟩ := (anyB_iff _).mp q
        have : (lfC F c).testBit j = true := by rw [lfC_bit hj]; exact e
        rw [hL, Nat.zero_testBit] at this
        exact absurd this (by decide)
      rw [gC_end hL] at hQ
      refine z_iload dX9_isValued_15 rfl ?_
      refine z_bipush (v := 8) dX9_isValued_17 (by decide) ?_
      refine z_icmp_ge dX9_isValued_19 rfl (fun _ => ?_) (fun c => absurd (by decide) c)
      refine z_iload dX9_isValued_86 rfl ?_
      refine z_if_eq dX9_isValued_88 rfl (fun _ => ?_) (fun c => absurd (bI_eq0.mpr an) c)
      refine z_aload_n dX9_isValued_104 rfl rfl ?_
      refine z_iload_n dX9_isValued_105 rfl rfl ?_
      refine y_callV (as := [_]) CX9_isEnd LX9_504 IX9_isEnd VX9_isEnd ⟨rfl, Nat.le_of_ble_eq_true rfl⟩ dX9_isValued_106 hm.o rfl (Nat.le_of_ble_eq_true rfl) (Nat.le_of_ble_eq_true rfl) (by omega) (r_isEnd (d := 2) hr hv ho ht hc (Nat.le_refl _)) (rok_z bI_01) ⟨Nat.le_refl _, Nat.le_refl _, hN, hS⟩ ?_
      refine z_iret dX9_isValued_109 ?_
      exact hQ
    · have an : (anyB (fun j => F.testBit j && dg c j == 0) 8) = true := by
        obtain ⟨j, hj, e⟩ := bit_ex lfC_lt (fun q => hL ((pcn_z _ lfC_lt).mp q))
        rw [lfC_bit hj] at e
        exact (anyB_iff _).mpr ⟨j, hj, e⟩
      have ne : ¬ gC (win s.1) F m c = false := fun q => by
        obtain ⟨j, hj, hb, h0, e⟩ := (stp hL).mp q
        exact ha j hj hb h0 e
      rw [bI_t (by cases q : gC (win s.1) F m c; exact absurd q ne; rfl)] at hQ
      refine z_iload dX9_isValued_15 rfl ?_
      refine z_bipush (v := 8) dX9_isValued_17 (by decide) ?_
      refine z_icmp_ge dX9_isValued_19 rfl (fun _ => ?_) (fun c => absurd (by decide) c)
      refine z_iload dX9_isValued_86 rfl ?_
      refine z_if_eq dX9_isValued_88 rfl (fun c => absurd c (bI_ne0.mpr an)) (fun _ => ?_)
      refine z_iload dX9_isValued_91 rfl ?_
      refine z_if_ne dX9_isValued_93 rfl (fun c => absurd (by decide) c) (fun _ => ?_)
      refine z_iconst (v := 1) dX9_isValued_96 (by decide) ?_
      refine z_goto dX9_isValued_97 rfl ?_
      refine z_iret dX9_isValued_109 ?_
      exact hQ
  | succ r ih =>
    intro i hi ha
    have d3 := dg_lt (c := c) (f := i)
    have p3 := p3_lt (show i < 9 by omega)
    have es : anyB (fun j => F.testBit j && dg c j == 0) (i + 1) = ((anyB (fun j => F.testBit j && dg c j == 0) i) || (F.testBit i && dg c i == 0)) := rfl
    by_cases hb : F.testBit i = true
    · by_cases h0 : dg c i = 0
      · have lim := dg_lim (x := 2) (show i < 8 by omega) hc (by omega) h0
        have hv1 : pI h 499 (c + 2 * 3 ^ i) = bI ((gC (win s.1) F m (c + 2 * 3 ^ i)) = true) := hrow _ (by omega) lim (wth_put (by omega) (by omega) h0 hb hw)
        have hL : lfC F c ≠ 0 := fun q => by
          have : (lfC F c).testBit i = true := by rw [lfC_bit (by omega), hb, h0]; rfl
          rw [q, Nat.zero_testBit] at this
          exact absurd this (by decide)
        by_cases hg : (gC (win s.1) F m (c + 2 * 3 ^ i)) = false
        · have wn : gC (win s.1) F m c = false := (stp hL).mpr ⟨i, by omega, hb, h0, hg⟩
          rw [wn] at hQ
          have hgi : bI ((gC (win s.1) F m (c + 2 * 3 ^ i)) = true) = (0 : Int32) := by rw [hg]; rfl
          refine z_iload dX9_isValued_15 rfl ?_
          refine z_bipush (v := 8) dX9_isValued_17 (by decide) ?_
          refine z_icmp_ge dX9_isValued_19 rfl (fun c => absurd c (fun q => absurd ((nI_leI (a := 8) (by omega) (by omega)).mp q) (by omega))) (fun _ => ?_)
          refine z_iload_n dX9_isValued_22 rfl rfl ?_
          refine z_iload dX9_isValued_23 rfl ?_
          refine y_callS (as := [_, _]) CX9_has LX9_261 SX9_has dX9_isValued_25 rfl (Nat.le_of_ble_eq_true rfl) (Nat.le_of_ble_eq_true rfl) (by omega) (r_has (n := F) (k := i) (by omega) (by omega)) (rok_z bI_01) ⟨Nat.le_refl _, Nat.le_refl _, hN, hS⟩ ?_
          refine z_if_eq dX9_isValued_28 rfl (fun c => absurd c (bI_ne0.mpr hb)) (fun _ => ?_)
          refine z_aload_n dX9_isValued_31 rfl rfl ?_
          refine z_iload_n dX9_isValued_32 rfl rfl ?_
          refine z_iload dX9_isValued_33 rfl ?_
          refine y_callV (as := [_, _]) CX9_digit LX9_498 IX9_digit VX9_digit ⟨rfl, Nat.le_of_ble_eq_true rfl⟩ dX9_isValued_35 hm.o rfl (Nat.le_of_ble_eq_true rfl) (Nat.le_of_ble_eq_true rfl) (by omega) (r_digit (d := 0) (c := c) (f := i) (by exact hm) ht hc (by omega)) rok_i ⟨Nat.le_refl _, Nat.le_refl _, hN, hS⟩ ?_
          refine z_if_eq dX9_isValued_38 rfl (fun _ => ?_) (fun c => absurd (congrArg nI h0) c)
          refine z_iconst (v := 1) dX9_isValued_44 (by decide) ?_
          refine z_istore dX9_isValued_45 (Nat.le_of_ble_eq_true rfl) ?_
          refine z_aload_n dX9_isValued_47 rfl rfl ?_
          refine y_getR FX9_53 dX9_isValued_48 rfl hm.o hm.f_comesAbout ?_
          refine z_iload_n dX9_isValued_51 rfl rfl ?_
          refine z_iload dX9_isValued_52 rfl ?_
          refine z_if_eq dX9_isValued_54 rfl (fun _ => ?_) (fun c => absurd (by decide) c)
          refine z_iconst (v := 2) dX9_isValued_61 (by decide) ?_
          refine z_aload_n dX9_isValued_62 rfl rfl ?_
          refine y_getR FX9_56 dX9_isValued_63 rfl hm.o hm.f_threes ?_
          refine z_iload dX9_isValued_66 rfl ?_
          refine y_ialN (i) dX9_isValued_68 hm.A_threes (Nat.le_of_ble_eq_true rfl) (rfl) (by omega) ?_
          refine z_eqi (ht i (by omega)) ?_
          refine z_imul dX9_isValued_69 ?_
          refine z_eqi (pk_mul 2 (3 ^ i)) ?_
          refine z_iadd dX9_isValued_70 ?_
          refine z_eqi (nI_add c (2 * 3 ^ i)) ?_
          refine y_zalN (c + 2 * 3 ^ i) dX9_isValued_71 hm.A_comesAbout (Nat.le_of_ble_eq_true rfl) (rfl) (by omega) ?_
          refine z_eqi hv1 ?_
          refine z_iload dX9_isValued_72 rfl ?_
          refine z_icmp_ne dX9_isValued_74 rfl (fun c => absurd (hgi) c) (fun _ => ?_)
          refine z_iload dX9_isValued_77 rfl ?_
          refine z_iret dX9_isValued_79 ?_
          exact hQ
        · have hno := hg
          have hgi : ¬ bI ((gC (win s.1) F m (c + 2 * 3 ^ i)) = true) = (0 : Int32) := by
            cases q : (gC (win s.1) F m (c + 2 * 3 ^ i))
            · exact absurd q hg
            · decide
          have e : anyB (fun j => F.testBit j && dg c j == 0) (i + 1) = true := by
            rw [es, hb, h0]
            simp
          have K2 : T d N S mX9_isValued 15 [some (.ref 488), some (.int (nI c)), some (.int (nI F)), some (.int x3), some (.int 0), some (.int (bI ((anyB (fun j => F.testBit j && dg c j == 0) (i + 1)) = true))), some (.int (nI (i + 1)))] [] h Q := by
            refine ih (i + 1) (by omega) (fun j hj hbj hdj => ?_)
            by_cases e : j = i
            · rw [e]; exact hno
            · exact ha j (by omega) hbj hdj
          rw [show bI ((anyB (fun j => F.testBit j && dg c j == 0) (i + 1)) = true) = (1 : Int32) from bI_t e] at K2
          refine z_iload dX9_isValued_15 rfl ?_
          refine z_bipush (v := 8) dX9_isValued_17 (by decide) ?_
          refine z_icmp_ge dX9_isValued_19 rfl (fun c => absurd c (fun q => absurd ((nI_leI (a := 8) (by omega) (by omega)).mp q) (by omega))) (fun _ => ?_)
          refine z_iload_n dX9_isValued_22 rfl rfl ?_
          refine z_iload dX9_isValued_23 rfl ?_
          refine y_callS (as := [_, _]) CX9_has LX9_261 SX9_has dX9_isValued_25 rfl (Nat.le_of_ble_eq_true rfl) (Nat.le_of_ble_eq_true rfl) (by omega) (r_has (n := F) (k := i) (by omega) (by omega)) (rok_z bI_01) ⟨Nat.le_refl _, Nat.le_refl _, hN, hS⟩ ?_
          refine z_if_eq dX9_isValued_28 rfl (fun c => absurd c (bI_ne0.mpr hb)) (fun _ => ?_)
          refine z_aload_n dX9_isValued_31 rfl rfl ?_
          refine z_iload_n dX9_isValued_32 rfl rfl ?_
          refine z_iload dX9_isValued_33 rfl ?_
          refine y_callV (as := [_, _]) CX9_digit LX9_498 IX9_digit VX9_digit ⟨rfl, Nat.le_of_ble_eq_true rfl⟩ dX9_isValued_35 hm.o rfl (Nat.le_of_ble_eq_true rfl) (Nat.le_of_ble_eq_true rfl) (by omega) (r_digit (d := 0) (c := c) (f := i) (by exact hm) ht hc (by omega)) rok_i ⟨Nat.le_refl _, Nat.le_refl _, hN, hS⟩ ?_
          refine z_if_eq dX9_isValued_38 rfl (fun _ => ?_) (fun c => absurd (congrArg nI h0) c)
          refine z_iconst (v := 1) dX9_isValued_44 (by decide) ?_
          refine z_istore dX9_isValued_45 (Nat.le_of_ble_eq_true rfl) ?_
          refine z_aload_n dX9_isValued_47 rfl rfl ?_
          refine y_getR FX9_53 dX9_isValued_48 rfl hm.o hm.f_comesAbout ?_
          refine z_iload_n dX9_isValued_51 rfl rfl ?_
          refine z_iload dX9_isValued_52 rfl ?_
          refine z_if_eq dX9_isValued_54 rfl (fun _ => ?_) (fun c => absurd (by decide) c)
          refine z_iconst (v := 2) dX9_isValued_61 (by decide) ?_
          refine z_aload_n dX9_isValued_62 rfl rfl ?_
          refine y_getR FX9_56 dX9_isValued_63 rfl hm.o hm.f_threes ?_
          refine z_iload dX9_isValued_66 rfl ?_
          refine y_ialN (i) dX9_isValued_68 hm.A_threes (Nat.le_of_ble_eq_true rfl) (rfl) (by omega) ?_
          refine z_eqi (ht i (by omega)) ?_
          refine z_imul dX9_isValued_69 ?_
          refine z_eqi (pk_mul 2 (3 ^ i)) ?_
          refine z_iadd dX9_isValued_70 ?_
          refine z_eqi (nI_add c (2 * 3 ^ i)) ?_
          refine y_zalN (c + 2 * 3 ^ i) dX9_isValued_71 hm.A_comesAbout (Nat.le_of_ble_eq_true rfl) (rfl) (by omega) ?_
          refine z_eqi hv1 ?_
          refine z_iload dX9_isValued_72 rfl ?_
          refine z_icmp_ne dX9_isValued_74 rfl (fun _ => ?_) (fun c => absurd c (hgi))
          refine z_iinc dX9_isValued_80 rfl (nI_1 _) (Nat.le_of_ble_eq_true rfl) ?_
          refine z_goto dX9_isValued_83 rfl ?_
          exact K2
      · have e : anyB (fun j => F.testBit j && dg c j == 0) (i + 1) = (anyB (fun j => F.testBit j && dg c j == 0) i) := by
          have hz : (dg c i == 0) = false := by simpa using h0
          rw [es, hz, Bool.and_false, Bool.or_false]
        have hno : True := trivial
        have K2 : T d N S mX9_isValued 15 [some (.ref 488), some (.int (nI c)), some (.int (nI F)), some (.int x3), some (.int 0), some (.int (bI ((anyB (fun j => F.testBit j && dg c j == 0) (i + 1)) = true))), some (.int (nI (i + 1)))] [] h Q := by
          refine ih (i + 1) (by omega) (fun j hj hbj hdj => ?_)
          by_cases e : j = i
          · rw [e] at hdj; exact absurd hdj h0
          · exact ha j (by omega) hbj hdj
        rw [e] at K2
        refine z_iload dX9_isValued_15 rfl ?_
        refine z_bipush (v := 8) dX9_isValued_17 (by decide) ?_
        refine z_icmp_ge dX9_isValued_19 rfl (fun c => absurd c (fun q => absurd ((nI_leI (a := 8) (by omega) (by omega)).mp q) (by omega))) (fun _ => ?_)
        refine z_iload_n dX9_isValued_22 rfl rfl ?_
        refine z_iload dX9_isValued_23 rfl ?_
        refine y_callS (as := [_, _]) CX9_has LX9_261 SX9_has dX9_isValued_25 rfl (Nat.le_of_ble_eq_true rfl) (Nat.le_of_ble_eq_true rfl) (by omega) (r_has (n := F) (k := i) (by omega) (by omega)) (rok_z bI_01) ⟨Nat.le_refl _, Nat.le_refl _, hN, hS⟩ ?_
        refine z_if_eq dX9_isValued_28 rfl (fun c => absurd c (bI_ne0.mpr hb)) (fun _ => ?_)
        refine z_aload_n dX9_isValued_31 rfl rfl ?_
        refine z_iload_n dX9_isValued_32 rfl rfl ?_
        refine z_iload dX9_isValued_33 rfl ?_
        refine y_callV (as := [_, _]) CX9_digit LX9_498 IX9_digit VX9_digit ⟨rfl, Nat.le_of_ble_eq_true rfl⟩ dX9_isValued_35 hm.o rfl (Nat.le_of_ble_eq_true rfl) (Nat.le_of_ble_eq_true rfl) (by omega) (r_digit (d := 0) (c := c) (f := i) (by exact hm) ht hc (by omega)) rok_i ⟨Nat.le_refl _, Nat.le_refl _, hN, hS⟩ ?_
        refine z_if_eq dX9_isValued_38 rfl (fun c => absurd c (fun q => h0 ((nI_eq (b := 0) (by omega) (by omega)).mp q))) (fun _ => ?_)
        refine z_goto dX9_isValued_41 rfl ?_
        refine z_iinc dX9_isValued_80 rfl (nI_1 _) (Nat.le_of_ble_eq_true rfl) ?_
        refine z_goto dX9_isValued_83 rfl ?_
        exact K2
    · have e : anyB (fun j => F.testBit j && dg c j == 0) (i + 1) = (anyB (fun j => F.testBit j && dg c j == 0) i) := by
        have hz : F.testBit i = false := by simpa using hb
        rw [es, hz, Bool.false_and, Bool.or_false]
      have K2 : T d N S mX9_isValued 15 [some (.ref 488), some (.int (nI c)), some (.int (nI F)), some (.int x3), some (.int 0), some (.int (bI ((anyB (fun j => F.testBit j && dg c j == 0) (i + 1)) = true))), some (.int (nI (i + 1)))] [] h Q := by
        refine ih (i + 1) (by omega) (fun j hj hbj hdj => ?_)
        by_cases e : j = i
        · rw [e] at hbj; exact absurd hbj hb
        · exact ha j (by omega) hbj hdj
      rw [e] at K2
      refine z_iload dX9_isValued_15 rfl ?_
      refine z_bipush (v := 8) dX9_isValued_17 (by decide) ?_
      refine z_icmp_ge dX9_isValued_19 rfl (fun c => absurd c (fun q => absurd ((nI_leI (a := 8) (by omega) (by omega)).mp q) (by omega))) (fun _ => ?_)
      refine z_iload_n dX9_isValued_22 rfl rfl ?_
      refine z_iload dX9_isValued_23 rfl ?_
      refine y_callS (as := [_, _]) CX9_has LX9_261 SX9_has dX9_isValued_25 rfl (Nat.le_of_ble_eq_true rfl) (Nat.le_of_ble_eq_true rfl) (by omega) (r_has (n := F) (k := i) (by omega) (by omega)) (rok_z bI_01) ⟨Nat.le_refl _, Nat.le_refl _, hN, hS⟩ ?_
      refine z_if_eq dX9_isValued_28 rfl (fun _ => ?_) (fun c => absurd (bI_eq0.mpr hb) c)
      refine z_iinc dX9_isValued_80 rfl (nI_1 _) (Nat.le_of_ble_eq_true rfl) ?_
      refine z_goto dX9_isValued_83 rfl ?_
      exact K2

theorem r_isValued {s : Ms} {h : Hp} {d : Nat} (hr : RM s h) (hv : IC s.1) (ho : IOf s.1) (ht : ∀ f, f < 9 → pI h 500 f = nI (3 ^ f)) {c F : Nat} {m : Bool} (hc : c < 6561) (hF : F < 256) (hw : wth F c = true) (hrow : ∀ c2, c < c2 → c2 < 6561 → wth F c2 = true → pI h 499 c2 = bI (gC (win s.1) F m c2 = true)) (hd : 3 ≤ d) : Sp d mX9_isValued [.ref 488, .int (nI c), .int (nI F), .int (bI (m = true))] h (some (.int (bI (gC (win s.1) F m c = true)))) h := by
  have hm := hr.m
  have mt := r_makersTurn (d := 1) (m := m) hm ht hc hF (Nat.le_refl _)
  intro N S Q hN hS hQ
  cases hmk : mkC F m c
  · rw [hmk, show bI (false = true) = (0 : Int32) from rfl] at mt
    refine z_aload_n dX9_isValued_0 rfl rfl ?_
    refine z_iload_n dX9_isValued_1 rfl rfl ?_
    refine z_iload_n dX9_isValued_2 rfl rfl ?_
    refine z_iload_n dX9_isValued_3 rfl rfl ?_
    refine y_callV (as := [_, _, _]) CX9_isMakersTurn LX9_501 IX9_isMakersTurn VX9_isMakersTurn ⟨rfl, Nat.le_of_ble_eq_true rfl⟩ dX9_isValued_4 hm.o rfl (Nat.le_of_ble_eq_true rfl) (Nat.le_of_ble_eq_true rfl) (by omega) mt (rok_z (Or.inl rfl)) ⟨Nat.le_refl _, Nat.le_refl _, hN, hS⟩ ?_
    refine z_istore dX9_isValued_7 (Nat.le_of_ble_eq_true rfl) ?_
    refine z_iconst (v := 0) dX9_isValued_9 (by decide) ?_
    refine z_istore dX9_isValued_10 (Nat.le_of_ble_eq_true rfl) ?_
    refine z_iconst (v := 0) dX9_isValued_12 (by decide) ?_
    refine z_istore dX9_isValued_13 (Nat.le_of_ble_eq_true rfl) ?_
    exact r_val_loop_0 hr hv ho ht hc hF hw hmk hrow hN hS hd hQ 8 0 (by omega) (fun j hj => by omega)
  · rw [hmk, show bI (true = true) = (1 : Int32) from rfl] at mt
    refine z_aload_n dX9_isValued_0 rfl rfl ?_
    refine z_iload_n dX9_isValued_1 rfl rfl ?_
    refine z_iload_n dX9_isValued_2 rfl rfl ?_
    refine z_iload_n dX9_isValued_3 rfl rfl ?_
    refine y_callV (as := [_, _, _]) CX9_isMakersTurn LX9_501 IX9_isMakersTurn VX9_isMakersTurn ⟨rfl, Nat.le_of_ble_eq_true rfl⟩ dX9_isValued_4 hm.o rfl (Nat.le_of_ble_eq_true rfl) (Nat.le_of_ble_eq_true rfl) (by omega) mt (rok_z (Or.inr rfl)) ⟨Nat.le_refl _, Nat.le_refl _, hN, hS⟩ ?_
    refine z_istore dX9_isValued_7 (Nat.le_of_ble_eq_true rfl) ?_
    refine z_iconst (v := 0) dX9_isValued_9 (by decide) ?_
    refine z_istore dX9_isValued_10 (Nat.le_of_ble_eq_true rfl) ?_
    refine z_iconst (v := 0) dX9_isValued_12 (by decide) ?_
    refine z_istore dX9_isValued_13 (Nat.le_of_ble_eq_true rfl) ?_
    exact r_val_loop_1 hr hv ho ht hc hF hw hmk hrow hN hS hd hQ 8 0 (by omega) (fun j hj => by omega)

