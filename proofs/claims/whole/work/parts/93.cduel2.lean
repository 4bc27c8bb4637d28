/-! duels: the class, whole (walks by program: wip/whole/gen93.py) -/
/-- the positions that were reckoned are as the game has them -/
def TI (a : Fl) (m : Bool) (tb : Nat → Nat) : Prop := ∀ L s, sub L (dF a (a 5)) → s < 256 → L &&& s = 0 → tb (psO L s 8) = 0 ∨ tb (psO L s 8) = (if gV (win a) (pcn L) (mkL (dF a (a 5)) m L) L s = true then 2 else 1)
def CD (h : Hp) (a : Fl) (m : Bool) : Prop := CK h ∧ (∃ mm c w, CWd h a (a 5) mm c w) ∧ pI h 484 3 = nI (dF a (a 5)) ∧ ∃ tb, TBl h tb ∧ TI a m tb
theorem CWd.fr {h h1 : Hp} {a : Fl} {n m c : Nat} {w : Nat → Nat} (cw : CWd h a n m c w) (e1 : pI h1 484 = pI h 484) (e2 : pI h1 485 = pI h 485) : CWd h1 a n m c w := by
  unfold CWd
  rw [e1, e2]
  exact cw
theorem sub_lt {x y : Nat} (h : sub x y) (hy : y < 256) : x < 256 := Nat.lt_of_le_of_lt (sub_le h) hy
theorem CD.keep {h : Hp} {a : Fl} {m : Bool} {L s : Nat} (c : CD h a m) (hF : (dF a (a 5)) < 256) (hL : sub L (dF a (a 5))) (hs : s < 256) (hd : L &&& s = 0) : CD (kpH h (psO L s 8) (if gV (win a) (pcn L) (mkL (dF a (a 5)) m L) L s = true then 2 else 1)) a m := by
  obtain ⟨ck, ⟨mm, cc, w, cw⟩, e3, tb, ht, ti⟩ := c
  have hp := psO_lt (L := L) (s := s) 8
  have hr : (if gV (win a) (pcn L) (mkL (dF a (a 5)) m L) L s = true then 2 else 1) = 1 ∨ (if gV (win a) (pcn L) (mkL (dF a (a 5)) m L) L s = true then 2 else 1) = 2 := by split <;> simp
  have f4 : pI (kpH h (psO L s 8) (if gV (win a) (pcn L) (mkL (dF a (a 5)) m L) L s = true then 2 else 1)) 484 = pI h 484 := by unfold kpH; rw [pI_sI_ne (by omega)]
  have f5 : pI (kpH h (psO L s 8) (if gV (win a) (pcn L) (mkL (dF a (a 5)) m L) L s = true then 2 else 1)) 485 = pI h 485 := by unfold kpH; rw [pI_sI_ne (by omega)]
  refine ⟨ck, ⟨mm, cc, w, cw.fr f4 f5⟩, by rw [f4]; exact e3, _, ht.keep hp hr, fun L2 s2 q1 q2 q3 => ?_⟩
  show (if psO L2 s2 8 = psO L s 8 then _ else _) = 0 ∨ (if psO L2 s2 8 = psO L s 8 then _ else _) = _
  by_cases e : psO L2 s2 8 = psO L s 8
  · obtain ⟨eL, es⟩ := psO_eq (sub_lt q1 hF) q2 (sub_lt hL hF) hs q3 hd e
    subst eL
    subst es
    rw [if_pos rfl]
    refine Or.inr ?_
    rcases ti L2 s2 q1 q2 q3 with z | z
    · rw [z, Nat.zero_or]
    · rw [z]
      split <;> rfl
  · rw [if_neg e]
    exact ti L2 s2 q1 q2 q3
theorem FR.kp {h : Hp} {p r : Nat} : FR 486 486 h (kpH h p r) := FR.rf.sI (by omega)
theorem bnot_ne {b : Bool} : ¬ bI ((!b) = true) = bI (b = true) := by cases b <;> decide

theorem c_byOne {a : Fl} {m : Bool} {n L s t i d : Nat} {mk : Bool} {h : Hp} (IHn : ∀ (L s t d : Nat) (mk : Bool) (h : Hp), sub L (dF a (a 5)) → s < 256 → L &&& s = 0 → pcn L = n → n ≤ t → t ≤ 8 → mk = mkL (dF a (a 5)) m L → CD h a m → 2 * n + 2 ≤ d → ∃ h1, Sp d mX0_comesAbout [.ref 484, .int (nI L), .int (nI s), .int (bI (mk = true)), .int (nI t)] h (some (.int (bI ((gV (win a) n mk L s) = true)))) h1 ∧ CD h1 a m ∧ FR 486 486 h h1) (hF : (dF a (a 5)) < 256) (hL : sub L (dF a (a 5))) (hs : s < 256) (hd0 : L &&& s = 0) (hp : pcn L = n + 1) (ht : n + 1 ≤ t) (ht8 : t ≤ 8) (hmk : mk = mkL (dF a (a 5)) m L) (hc : CD h a m) (hi : i < 8) (hb : L.testBit i = true) (hd : 2 * n + 3 ≤ d) : ∃ h1, Sp d mX0_comesAboutBy [.ref 484, .int (nI i), .int (nI L), .int (nI s), .int (bI (mk = true)), .int (nI t)] h (some (.int (bI (gV (win a) n (!mk) (dif L (2 ^ i)) (mvS mk s i) = true)))) h1 ∧ CD h1 a m ∧ FR 486 486 h h1 := by
  have hL8 := sub_lt hL hF
  have p2 : 2 ^ i < 2 ^ 8 := Nat.pow_lt_pow_right (by omega) hi
  have ck := hc.1
  have sd : sub (dif L (2 ^ i)) L := fun j hj => by
    rw [dif_hi (by omega), Bool.and_eq_true] at hj
    exact hj.1
  have ms : mvS mk s i < 256 := by
    unfold mvS
    split
    · exact Nat.or_lt_two_pow (n := 8) hs p2
    · exact hs
  have dz : dif L (2 ^ i) &&& mvS mk s i = 0 := and0.mpr (fun j hj => by
    rw [dif_hi (by omega), Bool.and_eq_true] at hj
    have sj := and0.mp hd0 j hj.1
    unfold mvS
    split
    · rw [Nat.testBit_or, sj, Bool.false_or]
      simpa using hj.2
    · exact sj)
  have pr := pcn_rm L hL8 i hi hb
  obtain ⟨h1, q1, q2, q3⟩ := IHn (dif L (2 ^ i)) (mvS mk s i) (t - 1) (2 * n + 2) (!mk) h (sub_tr sd hL) ms dz (by omega) (by omega) (by omega) (by rw [mkL_rm hL8 hL hi hb, hmk]) hc (Nat.le_refl _)
  refine ⟨h1, ?_, q2, q3⟩
  intro N S Q hN hS hQ
  have hN : pn h ≤ N := by rw [← q3.1.n]; exact hN
  have hS : ps h ≤ S := by rw [← q3.1.s]; exact hS
  cases mk
  · skip
    refine z_iload dX0_comesAboutBy_0 rfl ?_
    refine z_if_eq dX0_comesAboutBy_2 rfl (fun _ => ?_) (fun c => absurd (by decide) c)
    refine z_iload_n dX0_comesAboutBy_14 rfl rfl ?_
    refine z_istore dX0_comesAboutBy_15 (Nat.le_of_ble_eq_true rfl) ?_
    refine z_aload_n dX0_comesAboutBy_17 rfl rfl ?_
    refine z_iload_n dX0_comesAboutBy_18 rfl rfl ?_
    refine z_iload_n dX0_comesAboutBy_19 rfl rfl ?_
    refine y_callS (as := [_]) CX8_bit LX0_43 SX8_bit dX0_comesAboutBy_20 rfl (Nat.le_of_ble_eq_true rfl) (Nat.le_of_ble_eq_true rfl) (by omega) (s_bit _) rok_i ⟨Nat.le_refl _, Nat.le_refl _, hN, hS⟩ ?_
    refine z_eqi (nI_bit (show i < 31 by omega)) ?_
    refine z_iconst (v := -1) dX0_comesAboutBy_23 (by decide) ?_
    refine z_ixor dX0_comesAboutBy_24 ?_
    refine z_iand dX0_comesAboutBy_25 ?_
    refine z_eqi (nI_dif L (2 ^ i)) ?_
    refine z_iload dX0_comesAboutBy_26 rfl ?_
    refine z_iload dX0_comesAboutBy_28 rfl ?_
    refine z_if_ne dX0_comesAboutBy_30 rfl (fun c => absurd (by decide) c) (fun _ => ?_)
    refine z_iconst (v := 1) dX0_comesAboutBy_33 (by decide) ?_
    refine z_goto dX0_comesAboutBy_34 rfl ?_
    refine z_iload dX0_comesAboutBy_38 rfl ?_
    refine z_iconst (v := 1) dX0_comesAboutBy_40 (by decide) ?_
    refine z_isub dX0_comesAboutBy_41 ?_
    refine z_eqi (show _ = nI (t - 1) from pk_sub (a := t) (b := 1) (by omega)) ?_
    refine y_callV (as := [_, _, _, _]) CX0_comesAbout LX0_65 IX0_comesAbout VX0_comesAbout ⟨rfl, Nat.le_of_ble_eq_true rfl⟩ dX0_comesAboutBy_42 ck.1 rfl (Nat.le_of_ble_eq_true rfl) (Nat.le_of_ble_eq_true rfl) (by omega) q1 (rok_z bI_01) (hg_ss q3.1 hN hS) ?_
    refine z_iret dX0_comesAboutBy_45 ?_
    exact hQ
  · skip
    refine z_iload dX0_comesAboutBy_0 rfl ?_
    refine z_if_eq dX0_comesAboutBy_2 rfl (fun c => absurd c (by decide)) (fun _ => ?_)
    refine z_iload_n dX0_comesAboutBy_5 rfl rfl ?_
    refine z_iload_n dX0_comesAboutBy_6 rfl rfl ?_
    refine y_callS (as := [_]) CX8_bit LX0_43 SX8_bit dX0_comesAboutBy_7 rfl (Nat.le_of_ble_eq_true rfl) (Nat.le_of_ble_eq_true rfl) (by omega) (s_bit _) rok_i ⟨Nat.le_refl _, Nat.le_refl _, hN, hS⟩ ?_
    refine z_eqi (nI_bit (show i < 31 by omega)) ?_
    refine z_ior dX0_comesAboutBy_10 ?_
    refine z_eqi (nI_or s (2 ^ i)) ?_
    refine z_goto dX0_comesAboutBy_11 rfl ?_
    refine z_istore dX0_comesAboutBy_15 (Nat.le_of_ble_eq_true rfl) ?_
    refine z_aload_n dX0_comesAboutBy_17 rfl rfl ?_
    refine z_iload_n dX0_comesAboutBy_18 rfl rfl ?_
    refine z_iload_n dX0_comesAboutBy_19 rfl rfl ?_
    refine y_callS (as := [_]) CX8_bit LX0_43 SX8_bit dX0_comesAboutBy_20 rfl (Nat.le_of_ble_eq_true rfl) (Nat.le_of_ble_eq_true rfl) (by omega) (s_bit _) rok_i ⟨Nat.le_refl _, Nat.le_refl _, hN, hS⟩ ?_
    refine z_eqi (nI_bit (show i < 31 by omega)) ?_
    refine z_iconst (v := -1) dX0_comesAboutBy_23 (by decide) ?_
    refine z_ixor dX0_comesAboutBy_24 ?_
    refine z_iand dX0_comesAboutBy_25 ?_
    refine z_eqi (nI_dif L (2 ^ i)) ?_
    refine z_iload dX0_comesAboutBy_26 rfl ?_
    refine z_iload dX0_comesAboutBy_28 rfl ?_
    refine z_if_ne dX0_comesAboutBy_30 rfl (fun _ => ?_) (fun c => absurd c (by decide))
    refine z_iconst (v := 0) dX0_comesAboutBy_37 (by decide) ?_
    refine z_iload dX0_comesAboutBy_38 rfl ?_
    refine z_iconst (v := 1) dX0_comesAboutBy_40 (by decide) ?_
    refine z_isub dX0_comesAboutBy_41 ?_
    refine z_eqi (show _ = nI (t - 1) from pk_sub (a := t) (b := 1) (by omega)) ?_
    refine y_callV (as := [_, _, _, _]) CX0_comesAbout LX0_65 IX0_comesAbout VX0_comesAbout ⟨rfl, Nat.le_of_ble_eq_true rfl⟩ dX0_comesAboutBy_42 ck.1 rfl (Nat.le_of_ble_eq_true rfl) (Nat.le_of_ble_eq_true rfl) (by omega) q1 (rok_z bI_01) (hg_ss q3.1 hN hS) ?_
    refine z_iret dX0_comesAboutBy_45 ?_
    exact hQ

theorem c_du_loop {a : Fl} {m : Bool} {n L s t d kn : Nat} {mk : Bool} {h : Hp} (IHn : ∀ (L s t d : Nat) (mk : Bool) (h : Hp), sub L (dF a (a 5)) → s < 256 → L &&& s = 0 → pcn L = n → n ≤ t → t ≤ 8 → mk = mkL (dF a (a 5)) m L → CD h a m → 2 * n + 2 ≤ d → ∃ h1, Sp d mX0_comesAbout [.ref 484, .int (nI L), .int (nI s), .int (bI (mk = true)), .int (nI t)] h (some (.int (bI ((gV (win a) n mk L s) = true)))) h1 ∧ CD h1 a m ∧ FR 486 486 h h1) (hF : (dF a (a 5)) < 256) (hL : sub L (dF a (a 5))) (hs : s < 256) (hd0 : L &&& s = 0) (hp : pcn L = n + 1) (ht : n + 1 ≤ t) (ht8 : t ≤ 8) (hmk : mk = mkL (dF a (a 5)) m L) (hd : 2 * n + 4 ≤ d) : ∀ r i (h1 : Hp), i + r = 8 → CD h1 a m → FR 486 486 h h1 → (∀ j, j < i → L.testBit j = true → ¬ (gV (win a) n (!mk) (dif L (2 ^ j)) (mvS mk s j)) = mk) → ∃ h2, CD h2 a m ∧ FR 486 486 h h2 ∧ ∀ (N S : Nat) (Q : Option Value → Hp → Prop), pn h ≤ N → ps h ≤ S → (∀ i2, T d N S mX0_comesAbout 115 [some (.ref 484), some (.int (nI L)), some (.int (nI s)), some (.int (bI (mk = true))), some (.int (nI t)), some (.int (nI (psO L s 8))), some (.int (nI kn)), some (.int (bI (gV (win a) (n + 1) mk L s = true))), some (.int (nI i2))] [] h2 Q) → T d N S mX0_comesAbout 73 [some (.ref 484), some (.int (nI L)), some (.int (nI s)), some (.int (bI (mk = true))), some (.int (nI t)), some (.int (nI (psO L s 8))), some (.int (nI kn)), some (.int (bI ((!mk) = true))), some (.int (nI i))] [] h1 Q := by
  have hL8 := sub_lt hL hF
  have stp := gV_step (w := win a) (n := n) (L := L) (s := s) (mk := mk)
  intro r
  induction r with
  | zero =>
    intro i h1 hi c1 f1 ha
    have e : i = 8 := by omega
    subst e
    have ck := c1.1
    refine ⟨h1, c1, f1, fun N S Q hN hS K => ?_⟩
    have gn : ¬ gV (win a) (n + 1) mk L s = mk := fun q => by
      obtain ⟨j, hj, hb, e⟩ := stp.mp q
      exact ha j hj hb e
    have ev : gV (win a) (n + 1) mk L s = !mk := by
      cases mk
      · cases q : gV (win a) (n + 1) false L s
        · exact absurd q gn
        · rfl
      · cases q : gV (win a) (n + 1) true L s
        · rfl
        · exact absurd q gn
    rw [ev] at K
    refine z_iload dX0_comesAbout_73 rfl ?_
    refine z_bipush (v := 8) dX0_comesAbout_75 (by decide) ?_
    refine z_icmp_ge dX0_comesAbout_77 rfl (fun _ => ?_) (fun c => absurd (by decide) c)
    exact K _
  | succ r ih =>
    intro i h1 hi c1 f1 ha
    have ck := c1.1
    by_cases hb : L.testBit i = true
    · have hz : ¬ nI L &&& (1 <<< (nI i &&& 31)) = 0 := fun q => by
        have := (and_bit (by omega) (by omega)).mp q
        rw [hb] at this
        exact absurd this (by decide)
      obtain ⟨g, q1, q2, q3⟩ := c_byOne (d := 2 * n + 3) IHn hF hL hs hd0 hp ht ht8 hmk c1 (show i < 8 by omega) hb (Nat.le_refl _)
      by_cases hv : gV (win a) n (!mk) (dif L (2 ^ i)) (mvS mk s i) = mk
      · have wn : gV (win a) (n + 1) mk L s = mk := stp.mpr ⟨i, by omega, hb, hv⟩
        refine ⟨g, q2, f1.tr q3, fun N S Q hN hS K => ?_⟩
        have hN1 : pn h1 ≤ N := by rw [f1.1.n]; exact hN
        have hS1 : ps h1 ≤ S := by rw [f1.1.s]; exact hS
        rw [wn] at K
        rw [hv] at q1
        have ckg := q2.1
        have E : T d N S mX0_comesAbout 73 [some (.ref 484), some (.int (nI L)), some (.int (nI s)), some (.int (bI (mk = true))), some (.int (nI t)), some (.int (nI (psO L s 8))), some (.int (nI kn)), some (.int (bI (mk = true))), some (.int (nI (i + 1)))] [] g Q := by
          by_cases h8 : i + 1 = 8
          · skip
            refine z_iload dX0_comesAbout_73 rfl ?_
            refine z_bipush (v := 8) dX0_comesAbout_75 (by decide) ?_
            refine z_icmp_ge dX0_comesAbout_77 rfl (fun _ => ?_) (fun c => absurd ((nI_leI (a := 8) (by omega) (by omega)).mpr (by omega)) c)
            exact K _
          · skip
            refine z_iload dX0_comesAbout_73 rfl ?_
            refine z_bipush (v := 8) dX0_comesAbout_75 (by decide) ?_
            refine z_icmp_ge dX0_comesAbout_77 rfl (fun c => absurd c (fun q => absurd ((nI_leI (a := 8) (by omega) (by omega)).mp q) (by omega))) (fun _ => ?_)
            refine z_iload dX0_comesAbout_80 rfl ?_
            refine z_iload_n dX0_comesAbout_82 rfl rfl ?_
            refine z_icmp_eq dX0_comesAbout_83 rfl (fun _ => ?_) (fun c => absurd (rfl) c)
            exact K _
        refine z_iload dX0_comesAbout_73 rfl ?_
        refine z_bipush (v := 8) dX0_comesAbout_75 (by decide) ?_
        refine z_icmp_ge dX0_comesAbout_77 rfl (fun c => absurd c (fun q => absurd ((nI_leI (a := 8) (by omega) (by omega)).mp q) (by omega))) (fun _ => ?_)
        refine z_iload dX0_comesAbout_80 rfl ?_
        refine z_iload_n dX0_comesAbout_82 rfl rfl ?_
        refine z_icmp_eq dX0_comesAbout_83 rfl (fun c => absurd c (bnot_ne)) (fun _ => ?_)
        refine z_iload_n dX0_comesAbout_86 rfl rfl ?_
        refine z_iload dX0_comesAbout_87 rfl ?_
        refine y_callS (as := [_]) CX8_bit LX0_43 SX8_bit dX0_comesAbout_89 rfl (Nat.le_of_ble_eq_true rfl) (Nat.le_of_ble_eq_true rfl) (by omega) (s_bit _) rok_i ⟨Nat.le_refl _, Nat.le_refl _, hN1, hS1⟩ ?_
        refine z_iand dX0_comesAbout_92 ?_
        refine z_if_eq dX0_comesAbout_93 rfl (fun c => absurd c (hz)) (fun _ => ?_)
        refine z_aload_n dX0_comesAbout_96 rfl rfl ?_
        refine z_iload dX0_comesAbout_97 rfl ?_
        refine z_iload_n dX0_comesAbout_99 rfl rfl ?_
        refine z_iload_n dX0_comesAbout_100 rfl rfl ?_
        refine z_iload_n dX0_comesAbout_101 rfl rfl ?_
        refine z_iload dX0_comesAbout_102 rfl ?_
        refine y_callV (as := [_, _, _, _, _]) CX0_comesAboutBy LX0_47 IX0_comesAboutBy VX0_comesAboutBy ⟨rfl, Nat.le_of_ble_eq_true rfl⟩ dX0_comesAbout_104 ck.1 rfl (Nat.le_of_ble_eq_true rfl) (Nat.le_of_ble_eq_true rfl) (by omega) q1 (rok_z bI_01) (hg_ss q3.1 hN1 hS1) ?_
        refine z_istore dX0_comesAbout_107 (Nat.le_of_ble_eq_true rfl) ?_
        refine z_iinc dX0_comesAbout_109 rfl (nI_1 _) (Nat.le_of_ble_eq_true rfl) ?_
        refine z_goto dX0_comesAbout_112 rfl ?_
        exact E
      · have ev : gV (win a) n (!mk) (dif L (2 ^ i)) (mvS mk s i) = !mk := by
          cases q : gV (win a) n (!mk) (dif L (2 ^ i)) (mvS mk s i) <;> cases mk <;> first | rfl | exact absurd q hv
        obtain ⟨h2, k1, k2, K0⟩ := ih (i + 1) g (by omega) q2 (f1.tr q3) (fun j hj hbj => by
          by_cases e : j = i
          · rw [e]; exact hv
          · exact ha j (by omega) hbj)
        refine ⟨h2, k1, k2, fun N S Q hN hS K => ?_⟩
        have hN1 : pn h1 ≤ N := by rw [f1.1.n]; exact hN
        have hS1 : ps h1 ≤ S := by rw [f1.1.s]; exact hS
        rw [ev] at q1
        have K1 := K0 N S Q hN hS K
        refine z_iload dX0_comesAbout_73 rfl ?_
        refine z_bipush (v := 8) dX0_comesAbout_75 (by decide) ?_
        refine z_icmp_ge dX0_comesAbout_77 rfl (fun c => absurd c (fun q => absurd ((nI_leI (a := 8) (by omega) (by omega)).mp q) (by omega))) (fun _ => ?_)
        refine z_iload dX0_comesAbout_80 rfl ?_
        refine z_iload_n dX0_comesAbout_82 rfl rfl ?_
        refine z_icmp_eq dX0_comesAbout_83 rfl (fun c => absurd c (bnot_ne)) (fun _ => ?_)
        refine z_iload_n dX0_comesAbout_86 rfl rfl ?_
        refine z_iload dX0_comesAbout_87 rfl ?_
        refine y_callS (as := [_]) CX8_bit LX0_43 SX8_bit dX0_comesAbout_89 rfl (Nat.le_of_ble_eq_true rfl) (Nat.le_of_ble_eq_true rfl) (by omega) (s_bit _) rok_i ⟨Nat.le_refl _, Nat.le_refl _, hN1, hS1⟩ ?_
        refine z_iand dX0_comesAbout_92 ?_
        refine z_if_eq dX0_comesAbout_93 rfl (fun c => absurd c (hz)) (fun _ => ?_)
        refine z_aload_n dX0_comesAbout_96 rfl rfl ?_
        refine z_iload dX0_comesAbout_97 rfl ?_
        refine z_iload_n dX0_comesAbout_99 rfl rfl ?_
        refine z_iload_n dX0_comesAbout_100 rfl rfl ?_
        refine z_iload_n dX0_comesAbout_101 rfl rfl ?_
        refine z_iload dX0_comesAbout_102 rfl ?_
        refine y_callV (as := [_, _, _, _, _]) CX0_comesAboutBy LX0_47 IX0_comesAboutBy VX0_comesAboutBy ⟨rfl, Nat.le_of_ble_eq_true rfl⟩ dX0_comesAbout_104 ck.1 rfl (Nat.le_of_ble_eq_true rfl) (Nat.le_of_ble_eq_true rfl) (by omega) q1 (rok_z bI_01) (hg_ss q3.1 hN1 hS1) ?_
        refine z_istore dX0_comesAbout_107 (Nat.le_of_ble_eq_true rfl) ?_
        refine z_iinc dX0_comesAbout_109 rfl (nI_1 _) (Nat.le_of_ble_eq_true rfl) ?_
        refine z_goto dX0_comesAbout_112 rfl ?_
        exact K1
    · have hz : nI L &&& (1 <<< (nI i &&& 31)) = 0 := (and_bit (by omega) (by omega)).mpr (by simpa using hb)
      obtain ⟨h2, k1, k2, K0⟩ := ih (i + 1) h1 (by omega) c1 f1 (fun j hj hbj => by
        by_cases e : j = i
        · rw [e] at hbj; exact absurd hbj hb
        · exact ha j (by omega) hbj)
      refine ⟨h2, k1, k2, fun N S Q hN hS K => ?_⟩
      have hN1 : pn h1 ≤ N := by rw [f1.1.n]; exact hN
      have hS1 : ps h1 ≤ S := by rw [f1.1.s]; exact hS
      have K1 := K0 N S Q hN hS K
      refine z_iload dX0_comesAbout_73 rfl ?_
      refine z_bipush (v := 8) dX0_comesAbout_75 (by decide) ?_
      refine z_icmp_ge dX0_comesAbout_77 rfl (fun c => absurd c (fun q => absurd ((nI_leI (a := 8) (by omega) (by omega)).mp q) (by omega))) (fun _ => ?_)
      refine z_iload dX0_comesAbout_80 rfl ?_
      refine z_iload_n dX0_comesAbout_82 rfl rfl ?_
      refine z_icmp_eq dX0_comesAbout_83 rfl (fun c => absurd c (bnot_ne)) (fun _ => ?_)
      refine z_iload_n dX0_comesAbout_86 rfl rfl ?_
      refine z_iload dX0_comesAbout_87 rfl ?_
      refine y_callS (as := [_]) CX8_bit LX0_43 SX8_bit dX0_comesAbout_89 rfl (Nat.le_of_ble_eq_true rfl) (Nat.le_of_ble_eq_true rfl) (by omega) (s_bit _) rok_i ⟨Nat.le_refl _, Nat.le_refl _, hN1, hS1⟩ ?_
      refine z_iand dX0_comesAbout_92 ?_
      refine z_if_eq dX0_comesAbout_93 rfl (fun _ => ?_) (fun c => absurd (hz) c)
      refine z_iinc dX0_comesAbout_109 rfl (nI_1 _) (Nat.le_of_ble_eq_true rfl) ?_
      refine z_goto dX0_comesAbout_112 rfl ?_
      exact K1

theorem c_comesAbout {a : Fl} {m : Bool} (hF : (dF a (a 5)) < 256) (v5 : a 5 ≤ 8) : ∀ n, ∀ (L s t d : Nat) (mk : Bool) (h : Hp), sub L (dF a (a 5)) → s < 256 → L &&& s = 0 → pcn L = n → n ≤ t → t ≤ 8 → mk = mkL (dF a (a 5)) m L → CD h a m → 2 * n + 2 ≤ d → ∃ h1, Sp d mX0_comesAbout [.ref 484, .int (nI L), .int (nI s), .int (bI (mk = true)), .int (nI t)] h (some (.int (bI ((gV (win a) n mk L s) = true)))) h1 ∧ CD h1 a m ∧ FR 486 486 h h1 := by
  have mono : ∀ s s', sub s s' → win a s = true → win a s' = true := fun _ _ q w => win_mono q w
  intro n
  induction n with
  | zero =>
    intro L s t d mk h hL hs hd0 hp ht ht8 hmk hc hd
    have hL8 := sub_lt hL hF
    have z := (pcn_z L hL8).mp hp
    obtain ⟨ck, ⟨mm, cc, w, cwd⟩, e3, tb, tbl, ti⟩ := id hc
    have w1 := c_isWon (d := 1) (g := s) ck cwd v5 hs
    have w2 := c_isWon (d := 1) (g := s ||| L) ck cwd v5 (Nat.or_lt_two_pow (n := 8) hs hL8)
    have hps := psO_lt (L := L) (s := s) 8
    refine ⟨h, ?_, hc, FR.rf⟩
    intro N S Q hN hS hQ
    have hQ : Q (some (.int (bI (winB a s (a 5) = true)))) h := hQ
    by_cases hw : winB a s (a 5) = true
    · rw [bI_t hw] at hQ
      refine z_aload_n dX0_comesAbout_0 rfl rfl ?_
      refine z_iload_n dX0_comesAbout_1 rfl rfl ?_
      refine y_callV (as := [_]) CX0_isWon LX0_51 IX0_isWon VX0_isWon ⟨rfl, Nat.le_of_ble_eq_true rfl⟩ dX0_comesAbout_2 ck.1 rfl (Nat.le_of_ble_eq_true rfl) (Nat.le_of_ble_eq_true rfl) (by omega) w1 (rok_z bI_01) ⟨Nat.le_refl _, Nat.le_refl _, hN, hS⟩ ?_
      refine z_if_eq dX0_comesAbout_5 rfl (fun c => absurd c (bI_ne0.mpr hw)) (fun _ => ?_)
      refine z_iconst (v := 1) dX0_comesAbout_8 (by decide) ?_
      refine z_iret dX0_comesAbout_9 ?_
      exact hQ
    · rw [bI_f hw] at hQ
      by_cases t0 : t = 0
      · skip
        refine z_aload_n dX0_comesAbout_0 rfl rfl ?_
        refine z_iload_n dX0_comesAbout_1 rfl rfl ?_
        refine y_callV (as := [_]) CX0_isWon LX0_51 IX0_isWon VX0_isWon ⟨rfl, Nat.le_of_ble_eq_true rfl⟩ dX0_comesAbout_2 ck.1 rfl (Nat.le_of_ble_eq_true rfl) (Nat.le_of_ble_eq_true rfl) (by omega) w1 (rok_z bI_01) ⟨Nat.le_refl _, Nat.le_refl _, hN, hS⟩ ?_
        refine z_if_eq dX0_comesAbout_5 rfl (fun _ => ?_) (fun c => absurd (bI_eq0.mpr hw) c)
        refine z_iload dX0_comesAbout_10 rfl ?_
        refine z_if_le dX0_comesAbout_12 rfl (fun _ => ?_) (fun c => absurd ((nI_leI (b := 0) (by omega) (by omega)).mpr (by omega)) c)
        refine z_iconst (v := 0) dX0_comesAbout_25 (by decide) ?_
        refine z_iret dX0_comesAbout_26 ?_
        exact hQ
      · have hw2 : ¬ winB a (s ||| L) (a 5) = true := by rw [z, Nat.or_zero]; exact hw
        refine z_aload_n dX0_comesAbout_0 rfl rfl ?_
        refine z_iload_n dX0_comesAbout_1 rfl rfl ?_
        refine y_callV (as := [_]) CX0_isWon LX0_51 IX0_isWon VX0_isWon ⟨rfl, Nat.le_of_ble_eq_true rfl⟩ dX0_comesAbout_2 ck.1 rfl (Nat.le_of_ble_eq_true rfl) (Nat.le_of_ble_eq_true rfl) (by omega) w1 (rok_z bI_01) ⟨Nat.le_refl _, Nat.le_refl _, hN, hS⟩ ?_
        refine z_if_eq dX0_comesAbout_5 rfl (fun _ => ?_) (fun c => absurd (bI_eq0.mpr hw) c)
        refine z_iload dX0_comesAbout_10 rfl ?_
        refine z_if_le dX0_comesAbout_12 rfl (fun c => absurd c (fun q => absurd ((nI_leI (b := 0) (by omega) (by omega)).mp q) (by omega))) (fun _ => ?_)
        refine z_aload_n dX0_comesAbout_15 rfl rfl ?_
        refine z_iload_n dX0_comesAbout_16 rfl rfl ?_
        refine z_iload_n dX0_comesAbout_17 rfl rfl ?_
        refine z_ior dX0_comesAbout_18 ?_
        refine z_eqi (nI_or s L) ?_
        refine y_callV (as := [_]) CX0_isWon LX0_51 IX0_isWon VX0_isWon ⟨rfl, Nat.le_of_ble_eq_true rfl⟩ dX0_comesAbout_19 ck.1 rfl (Nat.le_of_ble_eq_true rfl) (Nat.le_of_ble_eq_true rfl) (by omega) w2 (rok_z bI_01) ⟨Nat.le_refl _, Nat.le_refl _, hN, hS⟩ ?_
        refine z_if_ne dX0_comesAbout_22 rfl (fun c => absurd (bI_eq0.mpr hw2) c) (fun _ => ?_)
        refine z_iconst (v := 0) dX0_comesAbout_25 (by decide) ?_
        refine z_iret dX0_comesAbout_26 ?_
        exact hQ
  | succ n ih =>
    intro L s t d mk h hL hs hd0 hp ht ht8 hmk hc hd
    have hL8 := sub_lt hL hF
    have hor : s ||| L < 256 := Nat.or_lt_two_pow (n := 8) hs hL8
    obtain ⟨ck, ⟨mm, cc, w, cwd⟩, e3, tb, tbl, ti⟩ := id hc
    have w1 := c_isWon (d := 1) (g := s) ck cwd v5 hs
    have w2 := c_isWon (d := 1) (g := s ||| L) ck cwd v5 hor
    have hps : psO L s 8 < 6561 := psO_lt (L := L) (s := s) 8
    have t0 : ¬ nI t ≤ 0 := fun q => absurd ((nI_leI (b := 0) (by omega) (by omega)).mp q) (by omega)
    by_cases hw : winB a s (a 5) = true
    · refine ⟨h, ?_, hc, FR.rf⟩
      intro N S Q hN hS hQ
      rw [bI_t (gV_won mono (n + 1) mk L s hL8 hp hw)] at hQ
      refine z_aload_n dX0_comesAbout_0 rfl rfl ?_
      refine z_iload_n dX0_comesAbout_1 rfl rfl ?_
      refine y_callV (as := [_]) CX0_isWon LX0_51 IX0_isWon VX0_isWon ⟨rfl, Nat.le_of_ble_eq_true rfl⟩ dX0_comesAbout_2 ck.1 rfl (Nat.le_of_ble_eq_true rfl) (Nat.le_of_ble_eq_true rfl) (by omega) w1 (rok_z bI_01) ⟨Nat.le_refl _, Nat.le_refl _, hN, hS⟩ ?_
      refine z_if_eq dX0_comesAbout_5 rfl (fun c => absurd c (bI_ne0.mpr hw)) (fun _ => ?_)
      refine z_iconst (v := 1) dX0_comesAbout_8 (by decide) ?_
      refine z_iret dX0_comesAbout_9 ?_
      exact hQ
    · by_cases hw2 : winB a (s ||| L) (a 5) = true
      · rcases ti L s hL hs hd0 with z | z
        · obtain ⟨h2, k1, k2, K0⟩ := c_du_loop (d := d) (h := h) (kn := tb (psO L s 8)) ih hF hL hs hd0 hp ht ht8 hmk hd 8 0 h (by omega) hc FR.rf (fun j hj => by omega)
          have kk := k1.keep hF hL hs hd0
          rw [hp, ← hmk] at kk
          have ckk := k1.1
          refine ⟨kpH h2 (psO L s 8) (if gV (win a) (n + 1) mk L s = true then 2 else 1), ?_, kk, k2.tr FR.kp⟩
          intro N S Q hN hS hQ
          have hN2 : pn h2 ≤ N := hN
          have hS2 : ps h2 ≤ S := hS
          have hN : pn h ≤ N := by rw [← k2.1.n]; exact hN
          have hS : ps h ≤ S := by rw [← k2.1.s]; exact hS
          have E : ∀ i2, T d N S mX0_comesAbout 115 [some (.ref 484), some (.int (nI L)), some (.int (nI s)), some (.int (bI (mk = true))), some (.int (nI t)), some (.int (nI (psO L s 8))), some (.int (nI (tb (psO L s 8)))), some (.int (bI (gV (win a) (n + 1) mk L s = true))), some (.int (nI i2))] [] h2 Q := fun i2 => by
            by_cases hg : gV (win a) (n + 1) mk L s = true
            · rw [if_pos hg] at hQ
              refine z_aload_n dX0_comesAbout_115 rfl rfl ?_
              refine z_iload dX0_comesAbout_116 rfl ?_
              refine z_iload dX0_comesAbout_118 rfl ?_
              refine z_if_eq dX0_comesAbout_120 rfl (fun c => absurd c (bI_ne0.mpr hg)) (fun _ => ?_)
              refine z_iconst (v := 2) dX0_comesAbout_123 (by decide) ?_
              refine z_goto dX0_comesAbout_124 rfl ?_
              refine y_callV (as := [_, _]) CX0_keep LX0_61 IX0_keep VX0_keep ⟨rfl, Nat.le_of_ble_eq_true rfl⟩ dX0_comesAbout_128 ckk.1 rfl (Nat.le_of_ble_eq_true rfl) (Nat.le_of_ble_eq_true rfl) (by omega) (c_keep (d := 0) (r := 2) ckk hps (Or.inr rfl)) rok_v ⟨Nat.le_refl _, Nat.le_refl _, hN2, hS2⟩ ?_
              refine z_iload dX0_comesAbout_131 rfl ?_
              refine z_iret dX0_comesAbout_133 ?_
              exact hQ
            · rw [if_neg hg] at hQ
              refine z_aload_n dX0_comesAbout_115 rfl rfl ?_
              refine z_iload dX0_comesAbout_116 rfl ?_
              refine z_iload dX0_comesAbout_118 rfl ?_
              refine z_if_eq dX0_comesAbout_120 rfl (fun _ => ?_) (fun c => absurd (bI_eq0.mpr hg) c)
              refine z_iconst (v := 1) dX0_comesAbout_127 (by decide) ?_
              refine y_callV (as := [_, _]) CX0_keep LX0_61 IX0_keep VX0_keep ⟨rfl, Nat.le_of_ble_eq_true rfl⟩ dX0_comesAbout_128 ckk.1 rfl (Nat.le_of_ble_eq_true rfl) (Nat.le_of_ble_eq_true rfl) (by omega) (c_keep (d := 0) (r := 1) ckk hps (Or.inl rfl)) rok_v ⟨Nat.le_refl _, Nat.le_refl _, hN2, hS2⟩ ?_
              refine z_iload dX0_comesAbout_131 rfl ?_
              refine z_iret dX0_comesAbout_133 ?_
              exact hQ
          have K1 := K0 N S Q hN hS E
          by_cases hm : mk = true
          · rw [show bI ((!mk) = true) = (0 : Int32) by rw [hm]; rfl] at K1
            refine z_aload_n dX0_comesAbout_0 rfl rfl ?_
            refine z_iload_n dX0_comesAbout_1 rfl rfl ?_
            refine y_callV (as := [_]) CX0_isWon LX0_51 IX0_isWon VX0_isWon ⟨rfl, Nat.le_of_ble_eq_true rfl⟩ dX0_comesAbout_2 ck.1 rfl (Nat.le_of_ble_eq_true rfl) (Nat.le_of_ble_eq_true rfl) (by omega) w1 (rok_z bI_01) ⟨Nat.le_refl _, Nat.le_refl _, hN, hS⟩ ?_
            refine z_if_eq dX0_comesAbout_5 rfl (fun _ => ?_) (fun c => absurd (bI_eq0.mpr hw) c)
            refine z_iload dX0_comesAbout_10 rfl ?_
            refine z_if_le dX0_comesAbout_12 rfl (fun c => absurd c (t0)) (fun _ => ?_)
            refine z_aload_n dX0_comesAbout_15 rfl rfl ?_
            refine z_iload_n dX0_comesAbout_16 rfl rfl ?_
            refine z_iload_n dX0_comesAbout_17 rfl rfl ?_
            refine z_ior dX0_comesAbout_18 ?_
            refine z_eqi (nI_or s L) ?_
            refine y_callV (as := [_]) CX0_isWon LX0_51 IX0_isWon VX0_isWon ⟨rfl, Nat.le_of_ble_eq_true rfl⟩ dX0_comesAbout_19 ck.1 rfl (Nat.le_of_ble_eq_true rfl) (Nat.le_of_ble_eq_true rfl) (by omega) w2 (rok_z bI_01) ⟨Nat.le_refl _, Nat.le_refl _, hN, hS⟩ ?_
            refine z_if_ne dX0_comesAbout_22 rfl (fun _ => ?_) (fun c => absurd c (bI_ne0.mpr hw2))
            refine z_iload_n dX0_comesAbout_27 rfl rfl ?_
            refine z_iload_n dX0_comesAbout_28 rfl rfl ?_
            refine y_callS (as := [_, _]) CX0_positionOf LX0_55 SX0_positionOf dX0_comesAbout_29 rfl (Nat.le_of_ble_eq_true rfl) (Nat.le_of_ble_eq_true rfl) (by omega) (c_positionOf (d := 1) hL8 hs (Nat.le_refl _)) rok_i ⟨Nat.le_refl _, Nat.le_refl _, hN, hS⟩ ?_
            refine z_istore dX0_comesAbout_32 (Nat.le_of_ble_eq_true rfl) ?_
            refine z_aload_n dX0_comesAbout_34 rfl rfl ?_
            refine z_iload dX0_comesAbout_35 rfl ?_
            refine y_callV (as := [_]) CX0_recall LX0_58 IX0_recall VX0_recall ⟨rfl, Nat.le_of_ble_eq_true rfl⟩ dX0_comesAbout_37 ck.1 rfl (Nat.le_of_ble_eq_true rfl) (Nat.le_of_ble_eq_true rfl) (by omega) (c_recall (d := 0) ck tbl hps) rok_i ⟨Nat.le_refl _, Nat.le_refl _, hN, hS⟩ ?_
            refine z_istore dX0_comesAbout_40 (Nat.le_of_ble_eq_true rfl) ?_
            refine z_iload dX0_comesAbout_42 rfl ?_
            refine z_if_eq dX0_comesAbout_44 rfl (fun _ => ?_) (fun c => absurd (congrArg nI z) c)
            refine z_iload_n dX0_comesAbout_59 rfl rfl ?_
            refine z_if_ne dX0_comesAbout_60 rfl (fun _ => ?_) (fun c => absurd c (bI_ne0.mpr hm))
            refine z_iconst (v := 0) dX0_comesAbout_67 (by decide) ?_
            refine z_istore dX0_comesAbout_68 (Nat.le_of_ble_eq_true rfl) ?_
            refine z_iconst (v := 0) dX0_comesAbout_70 (by decide) ?_
            refine z_istore dX0_comesAbout_71 (Nat.le_of_ble_eq_true rfl) ?_
            exact K1
          · rw [show bI ((!mk) = true) = (1 : Int32) by cases mk; rfl; exact absurd rfl hm] at K1
            refine z_aload_n dX0_comesAbout_0 rfl rfl ?_
            refine z_iload_n dX0_comesAbout_1 rfl rfl ?_
            refine y_callV (as := [_]) CX0_isWon LX0_51 IX0_isWon VX0_isWon ⟨rfl, Nat.le_of_ble_eq_true rfl⟩ dX0_comesAbout_2 ck.1 rfl (Nat.le_of_ble_eq_true rfl) (Nat.le_of_ble_eq_true rfl) (by omega) w1 (rok_z bI_01) ⟨Nat.le_refl _, Nat.le_refl _, hN, hS⟩ ?_
            refine z_if_eq dX0_comesAbout_5 rfl (fun _ => ?_) (fun c => absurd (bI_eq0.mpr hw) c)
            refine z_iload dX0_comesAbout_10 rfl ?_
            refine z_if_le dX0_comesAbout_12 rfl (fun c => absurd c (t0)) (fun _ => ?_)
            refine z_aload_n dX0_comesAbout_15 rfl rfl ?_
            refine z_iload_n dX0_comesAbout_16 rfl rfl ?_
            refine z_iload_n dX0_comesAbout_17 rfl rfl ?_
            refine z_ior dX0_comesAbout_18 ?_
            refine z_eqi (nI_or s L) ?_
            refine y_callV (as := [_]) CX0_isWon LX0_51 IX0_isWon VX0_isWon ⟨rfl, Nat.le_of_ble_eq_true rfl⟩ dX0_comesAbout_19 ck.1 rfl (Nat.le_of_ble_eq_true rfl) (Nat.le_of_ble_eq_true rfl) (by omega) w2 (rok_z bI_01) ⟨Nat.le_refl _, Nat.le_refl _, hN, hS⟩ ?_
            refine z_if_ne dX0_comesAbout_22 rfl (fun _ => ?_) (fun c => absurd c (bI_ne0.mpr hw2))
            refine z_iload_n dX0_comesAbout_27 rfl rfl ?_
            refine z_iload_n dX0_comesAbout_28 rfl rfl ?_
            refine y_callS (as := [_, _]) CX0_positionOf LX0_55 SX0_positionOf dX0_comesAbout_29 rfl (Nat.le_of_ble_eq_true rfl) (Nat.le_of_ble_eq_true rfl) (by omega) (c_positionOf (d := 1) hL8 hs (Nat.le_refl _)) rok_i ⟨Nat.le_refl _, Nat.le_refl _, hN, hS⟩ ?_
            refine z_istore dX0_comesAbout_32 (Nat.le_of_ble_eq_true rfl) ?_
            refine z_aload_n dX0_comesAbout_34 rfl rfl ?_
            refine z_iload dX0_comesAbout_35 rfl ?_
            refine y_callV (as := [_]) CX0_recall LX0_58 IX0_recall VX0_recall ⟨rfl, Nat.le_of_ble_eq_true rfl⟩ dX0_comesAbout_37 ck.1 rfl (Nat.le_of_ble_eq_true rfl) (Nat.le_of_ble_eq_true rfl) (by omega) (c_recall (d := 0) ck tbl hps) rok_i ⟨Nat.le_refl _, Nat.le_refl _, hN, hS⟩ ?_
            refine z_istore dX0_comesAbout_40 (Nat.le_of_ble_eq_true rfl) ?_
            refine z_iload dX0_comesAbout_42 rfl ?_
            refine z_if_eq dX0_comesAbout_44 rfl (fun _ => ?_) (fun c => absurd (congrArg nI z) c)
            refine z_iload_n dX0_comesAbout_59 rfl rfl ?_
            refine z_if_ne dX0_comesAbout_60 rfl (fun c => absurd (bI_eq0.mpr hm) c) (fun _ => ?_)
            refine z_iconst (v := 1) dX0_comesAbout_63 (by decide) ?_
            refine z_goto dX0_comesAbout_64 rfl ?_
            refine z_istore dX0_comesAbout_68 (Nat.le_of_ble_eq_true rfl) ?_
            refine z_iconst (v := 0) dX0_comesAbout_70 (by decide) ?_
            refine z_istore dX0_comesAbout_71 (Nat.le_of_ble_eq_true rfl) ?_
            exact K1
        · rw [hp, ← hmk] at z
          refine ⟨h, ?_, hc, FR.rf⟩
          intro N S Q hN hS hQ
          by_cases hg : gV (win a) (n + 1) mk L s = true
          · rw [if_pos hg] at z
            rw [bI_t hg] at hQ
            refine z_aload_n dX0_comesAbout_0 rfl rfl ?_
            refine z_iload_n dX0_comesAbout_1 rfl rfl ?_
            refine y_callV (as := [_]) CX0_isWon LX0_51 IX0_isWon VX0_isWon ⟨rfl, Nat.le_of_ble_eq_true rfl⟩ dX0_comesAbout_2 ck.1 rfl (Nat.le_of_ble_eq_true rfl) (Nat.le_of_ble_eq_true rfl) (by omega) w1 (rok_z bI_01) ⟨Nat.le_refl _, Nat.le_refl _, hN, hS⟩ ?_
            refine z_if_eq dX0_comesAbout_5 rfl (fun _ => ?_) (fun c => absurd (bI_eq0.mpr hw) c)
            refine z_iload dX0_comesAbout_10 rfl ?_
            refine z_if_le dX0_comesAbout_12 rfl (fun c => absurd c (t0)) (fun _ => ?_)
            refine z_aload_n dX0_comesAbout_15 rfl rfl ?_
            refine z_iload_n dX0_comesAbout_16 rfl rfl ?_
            refine z_iload_n dX0_comesAbout_17 rfl rfl ?_
            refine z_ior dX0_comesAbout_18 ?_
            refine z_eqi (nI_or s L) ?_
            refine y_callV (as := [_]) CX0_isWon LX0_51 IX0_isWon VX0_isWon ⟨rfl, Nat.le_of_ble_eq_true rfl⟩ dX0_comesAbout_19 ck.1 rfl (Nat.le_of_ble_eq_true rfl) (Nat.le_of_ble_eq_true rfl) (by omega) w2 (rok_z bI_01) ⟨Nat.le_refl _, Nat.le_refl _, hN, hS⟩ ?_
            refine z_if_ne dX0_comesAbout_22 rfl (fun _ => ?_) (fun c => absurd c (bI_ne0.mpr hw2))
            refine z_iload_n dX0_comesAbout_27 rfl rfl ?_
            refine z_iload_n dX0_comesAbout_28 rfl rfl ?_
            refine y_callS (as := [_, _]) CX0_positionOf LX0_55 SX0_positionOf dX0_comesAbout_29 rfl (Nat.le_of_ble_eq_true rfl) (Nat.le_of_ble_eq_true rfl) (by omega) (c_positionOf (d := 1) hL8 hs (Nat.le_refl _)) rok_i ⟨Nat.le_refl _, Nat.le_refl _, hN, hS⟩ ?_
            refine z_istore dX0_comesAbout_32 (Nat.le_of_ble_eq_true rfl) ?_
            refine z_aload_n dX0_comesAbout_34 rfl rfl ?_
            refine z_iload dX0_comesAbout_35 rfl ?_
            refine y_callV (as := [_]) CX0_recall LX0_58 IX0_recall VX0_recall ⟨rfl, Nat.le_of_ble_eq_true rfl⟩ dX0_comesAbout_37 ck.1 rfl (Nat.le_of_ble_eq_true rfl) (Nat.le_of_ble_eq_true rfl) (by omega) (c_recall (d := 0) ck tbl hps) rok_i ⟨Nat.le_refl _, Nat.le_refl _, hN, hS⟩ ?_
            refine z_istore dX0_comesAbout_40 (Nat.le_of_ble_eq_true rfl) ?_
            refine z_iload dX0_comesAbout_42 rfl ?_
            refine z_if_eq dX0_comesAbout_44 rfl (fun c => absurd c (by rw [z]; decide)) (fun _ => ?_)
            refine z_iload dX0_comesAbout_47 rfl ?_
            refine z_iconst (v := 2) dX0_comesAbout_49 (by decide) ?_
            refine z_icmp_ne dX0_comesAbout_50 rfl (fun c => absurd (by rw [z]; rfl) c) (fun _ => ?_)
            refine z_iconst (v := 1) dX0_comesAbout_53 (by decide) ?_
            refine z_goto dX0_comesAbout_54 rfl ?_
            refine z_iret dX0_comesAbout_58 ?_
            exact hQ
          · rw [if_neg hg] at z
            rw [bI_f hg] at hQ
            refine z_aload_n dX0_comesAbout_0 rfl rfl ?_
            refine z_iload_n dX0_comesAbout_1 rfl rfl ?_
            refine y_callV (as := [_]) CX0_isWon LX0_51 IX0_isWon VX0_isWon ⟨rfl, Nat.le_of_ble_eq_true rfl⟩ dX0_comesAbout_2 ck.1 rfl (Nat.le_of_ble_eq_true rfl) (Nat.le_of_ble_eq_true rfl) (by omega) w1 (rok_z bI_01) ⟨Nat.le_refl _, Nat.le_refl _, hN, hS⟩ ?_
            refine z_if_eq dX0_comesAbout_5 rfl (fun _ => ?_) (fun c => absurd (bI_eq0.mpr hw) c)
            refine z_iload dX0_comesAbout_10 rfl ?_
            refine z_if_le dX0_comesAbout_12 rfl (fun c => absurd c (t0)) (fun _ => ?_)
            refine z_aload_n dX0_comesAbout_15 rfl rfl ?_
            refine z_iload_n dX0_comesAbout_16 rfl rfl ?_
            refine z_iload_n dX0_comesAbout_17 rfl rfl ?_
            refine z_ior dX0_comesAbout_18 ?_
            refine z_eqi (nI_or s L) ?_
            refine y_callV (as := [_]) CX0_isWon LX0_51 IX0_isWon VX0_isWon ⟨rfl, Nat.le_of_ble_eq_true rfl⟩ dX0_comesAbout_19 ck.1 rfl (Nat.le_of_ble_eq_true rfl) (Nat.le_of_ble_eq_true rfl) (by omega) w2 (rok_z bI_01) ⟨Nat.le_refl _, Nat.le_refl _, hN, hS⟩ ?_
            refine z_if_ne dX0_comesAbout_22 rfl (fun _ => ?_) (fun c => absurd c (bI_ne0.mpr hw2))
            refine z_iload_n dX0_comesAbout_27 rfl rfl ?_
            refine z_iload_n dX0_comesAbout_28 rfl rfl ?_
            refine y_callS (as := [_, _]) CX0_positionOf LX0_55 SX0_positionOf dX0_comesAbout_29 rfl (Nat.le_of_ble_eq_true rfl) (Nat.le_of_ble_eq_true rfl) (by omega) (c_positionOf (d := 1) hL8 hs (Nat.le_refl _)) rok_i ⟨Nat.le_refl _, Nat.le_refl _, hN, hS⟩ ?_
            refine z_istore dX0_comesAbout_32 (Nat.le_of_ble_eq_true rfl) ?_
            refine z_aload_n dX0_comesAbout_34 rfl rfl ?_
            refine z_iload dX0_comesAbout_35 rfl ?_
            refine y_callV (as := [_]) CX0_recall LX0_58 IX0_recall VX0_recall ⟨rfl, Nat.le_of_ble_eq_true rfl⟩ dX0_comesAbout_37 ck.1 rfl (Nat.le_of_ble_eq_true rfl) (Nat.le_of_ble_eq_true rfl) (by omega) (c_recall (d := 0) ck tbl hps) rok_i ⟨Nat.le_refl _, Nat.le_refl _, hN, hS⟩ ?_
            refine z_istore dX0_comesAbout_40 (Nat.le_of_ble_eq_true rfl) ?_
            refine z_iload dX0_comesAbout_42 rfl ?_
            refine z_if_eq dX0_comesAbout_44 rfl (fun c => absurd c (by rw [z]; decide)) (fun _ => ?_)
            refine z_iload dX0_comesAbout_47 rfl ?_
            refine z_iconst (v := 2) dX0_comesAbout_49 (by decide) ?_
            refine z_icmp_ne dX0_comesAbout_50 rfl (fun _ => ?_) (fun c => absurd c (by rw [z]; decide))
            refine z_iconst (v := 0) dX0_comesAbout_57 (by decide) ?_
            refine z_iret dX0_comesAbout_58 ?_
            exact hQ
      · refine ⟨h, ?_, hc, FR.rf⟩
        intro N S Q hN hS hQ
        have wf : win a (s ||| L) = false := by
          cases q : win a (s ||| L)
          · rfl
          · exact absurd q hw2
        rw [bI_f (by rw [gV_lost mono (n + 1) mk L s hL8 hp wf]; decide)] at hQ
        refine z_aload_n dX0_comesAbout_0 rfl rfl ?_
        refine z_iload_n dX0_comesAbout_1 rfl rfl ?_
        refine y_callV (as := [_]) CX0_isWon LX0_51 IX0_isWon VX0_isWon ⟨rfl, Nat.le_of_ble_eq_true rfl⟩ dX0_comesAbout_2 ck.1 rfl (Nat.le_of_ble_eq_true rfl) (Nat.le_of_ble_eq_true rfl) (by omega) w1 (rok_z bI_01) ⟨Nat.le_refl _, Nat.le_refl _, hN, hS⟩ ?_
        refine z_if_eq dX0_comesAbout_5 rfl (fun _ => ?_) (fun c => absurd (bI_eq0.mpr hw) c)
        refine z_iload dX0_comesAbout_10 rfl ?_
        refine z_if_le dX0_comesAbout_12 rfl (fun c => absurd c (t0)) (fun _ => ?_)
        refine z_aload_n dX0_comesAbout_15 rfl rfl ?_
        refine z_iload_n dX0_comesAbout_16 rfl rfl ?_
        refine z_iload_n dX0_comesAbout_17 rfl rfl ?_
        refine z_ior dX0_comesAbout_18 ?_
        refine z_eqi (nI_or s L) ?_
        refine y_callV (as := [_]) CX0_isWon LX0_51 IX0_isWon VX0_isWon ⟨rfl, Nat.le_of_ble_eq_true rfl⟩ dX0_comesAbout_19 ck.1 rfl (Nat.le_of_ble_eq_true rfl) (Nat.le_of_ble_eq_true rfl) (by omega) w2 (rok_z bI_01) ⟨Nat.le_refl _, Nat.le_refl _, hN, hS⟩ ?_
        refine z_if_ne dX0_comesAbout_22 rfl (fun c => absurd (bI_eq0.mpr hw2) c) (fun _ => ?_)
        refine z_iconst (v := 0) dX0_comesAbout_25 (by decide) ?_
        refine z_iret dX0_comesAbout_26 ?_
        exact hQ

