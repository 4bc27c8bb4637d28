/-! the reckoner runs a law (walks by program: wip/whole/gen54.py) -/
theorem rawV_cg {so o : Nat} {x y z a b c : Int} (ho : (2 ≤ o ∧ o ≤ 15) ∨ (20 ≤ o ∧ o ≤ 22)) (hx : x = a) (hy : 2 ≤ tkO o → y = b) (hz : 3 ≤ tkO o → z = c) : rawV so o x y z = rawV so o a b c := by
  rcases (show o = 2 ∨ o = 3 ∨ o = 4 ∨ o = 5 ∨ o = 6 ∨ o = 7 ∨ o = 8 ∨ o = 9 ∨ o = 10 ∨ o = 11 ∨ o = 12 ∨ o = 13 ∨ o = 14 ∨ o = 15 ∨ o = 20 ∨ o = 21 ∨ o = 22 by omega) with rfl | rfl | rfl | rfl | rfl | rfl | rfl | rfl | rfl | rfl | rfl | rfl | rfl | rfl | rfl | rfl | rfl
  · show (if 0 ≤ x ∧ x < 8 then tb (so.testBit x.toNat = true) else 0) = (if 0 ≤ a ∧ a < 8 then tb (so.testBit a.toNat = true) else 0); rw [hx]
  · show (if x = 0 then z else y) = (if a = 0 then c else b); rw [hx, hy (by decide), hz (by decide)]
  · rw [hx, hy (by decide)]; rfl
  · show - x = - a; rw [hx]
  · rw [hx, hy (by decide)]; rfl
  · rw [hx, hy (by decide)]; rfl
  · rw [hx, hy (by decide)]; rfl
  · rw [hx, hy (by decide)]; rfl
  · rw [hx, hy (by decide)]; rfl
  · rw [hx, hy (by decide)]; rfl
  · rw [hx, hy (by decide)]; rfl
  · rw [hx, hy (by decide)]; rfl
  · rw [hx, hy (by decide)]; rfl
  · rw [hx, hy (by decide)]; rfl
  · show tb (x = 0) = tb (a = 0); rw [hx]
  · rw [hx, hy (by decide)]; rfl
  · rw [hx, hy (by decide)]; rfl
theorem mul_b {x y : Int} (hx : b31 x) (hy : b31 y) : b62 (x * y) := by
  have h1 : x.natAbs ≤ 2147483648 := by have := hx.1; have := hx.2; omega
  have h2 : y.natAbs ≤ 2147483648 := by have := hy.1; have := hy.2; omega
  have h3 := Nat.mul_le_mul h1 h2
  rw [← Int.natAbs_mul] at h3
  constructor <;> omega
theorem tb_62 {p : Prop} [Decidable p] : b62 (tb p) := by have := tb_b (p := p); exact ⟨by have := this.1; omega, by have := this.2; omega⟩
theorem rawV_b {so o : Nat} {x y z : Int} (hx : b31 x) (hy : b31 y) (hz : b31 z) : b62 (rawV so o x y z) := by
  have h1 := hx.1
  have h2 := hx.2
  have h3 := hy.1
  have h4 := hy.2
  have tq : b62 (tb (so.testBit x.toNat = true)) := by unfold b62 tb; split <;> omega
  have t100 : b62 (100 * x) := ⟨by omega, by omega⟩
  have t101 := tdiv_b (y := y) t100
  have t102 := tdiv_b (y := y) (b31_62 hx)
  have t103 := mul_b hx hy
  by_cases c2 : o = 2
  · subst c2
    show b62 (if 0 ≤ x ∧ x < 8 then tb (so.testBit x.toNat = true) else 0)
    split
    · exact tq
    · exact b62_0
  by_cases c3 : o = 3
  · subst c3
    show b62 (if x = 0 then z else y)
    split
    · exact b31_62 hz
    · exact b31_62 hy
  by_cases c4 : o = 4
  · subst c4
    show b62 (if y = 0 then 0 else (100 * x).tdiv y)
    split
    · exact b62_0
    · exact t101
  by_cases c9 : o = 9
  · subst c9
    show b62 (if y = 0 then 0 else x.tdiv y)
    split
    · exact b62_0
    · exact t102
  by_cases c5 : o = 5
  · subst c5
    show b62 (- x)
    exact ⟨by omega, by omega⟩
  by_cases c6 : o = 6
  · subst c6
    show b62 (x + y)
    exact ⟨by omega, by omega⟩
  by_cases c7 : o = 7
  · subst c7
    show b62 (x - y)
    exact ⟨by omega, by omega⟩
  by_cases c8 : o = 8
  · subst c8
    exact t103
  unfold rawV
  rw [if_neg c2, if_neg c3, if_neg c4, if_neg c5, if_neg c6, if_neg c7, if_neg c8, if_neg c9]
  repeat' split
  all_goals exact tb_62
theorem max0 {n t : Nat} (hn : n < 2 ^ 30) (ht : t < 2 ^ 30) : (if (0 : Int32) < nI n - nI t then nI n - nI t else 0) = nI (n - t) := by
  by_cases h : t ≤ n
  · rw [pk_sub h]
    have := mmax_n (x := 0) (y := n - t) (by omega) (by omega)
    rw [Nat.max_eq_right (by omega)] at this
    exact this
  · rw [if_neg, show n - t = 0 by omega]
    · rfl
    · rw [Int32.lt_iff_toInt_lt, Int32.toInt_sub, nI_toInt (by omega), nI_toInt (by omega)]
      show ¬ (0 : Int) < Int.bmod ((n : Int) - t) (2 ^ 32)
      rw [Int.bmod_eq_of_le (by omega) (by omega)]
      omega
/-- the code of a law at c, as the reference has it -/
def LC (h : Hp) (C : Prop) (O V : Nat → Nat) (m c : Nat) : Prop := IA h 10 m c ∧ 0 < m ∧ m ≤ 300 ∧ (∀ i, i < m → pI h c i = cnv (O i) (V i)) ∧ (∀ i, i < m → okI C (O i) (V i))
/-- no operation lacks what it takes -/
def WF (O V : Nat → Nat) (m : Nat) : Prop := ∀ env so i, i < m → tkO (O i) ≤ (runV env so O V i).2
def NE (h : Hp) (C : Prop) (env : Nat → Int) : Prop := (∀ v, b6 (env v)) ∧ ∀ v, v ≤ 10 → (v < 2 ∨ (v < 5 ↔ C)) → pI h 482 (nmT v) = iI (env v)
theorem nmT_b {v : Nat} (hv : v ≤ 10) : 0 < nmT v ∧ nmT v < 36 := by
  rcases (show v = 0 ∨ v = 1 ∨ v = 2 ∨ v = 3 ∨ v = 4 ∨ v = 5 ∨ v = 6 ∨ v = 7 ∨ v = 8 ∨ v = 9 ∨ v = 10 by omega) with rfl | rfl | rfl | rfl | rfl | rfl | rfl | rfl | rfl | rfl | rfl <;> decide
theorem cnv_0 {v : Nat} : cnv 0 v = nI v := rfl
theorem cnv_1 {v : Nat} : cnv 1 v = - nI (nmT v) := rfl
theorem cnv_o {o v : Nat} (h : 2 ≤ o) : cnv o v = - nI (opT o) := by
  unfold cnv
  rw [if_neg (by omega), if_neg (by omega)]

theorem s_run_loop {h : Hp} {d : Nat} (ho : IO h 3 481) (hn' : pR h 481 0 = some 482) (ha : IA h 10 36 482) (hk : pR h 481 1 = some 483) (hs : IA h 10 303 483) {so m c : Nat} {C : Prop} {env : Nat → Int} {O V : Nat → Nat} (hl : LC h C O V m c) (hw : WF O V m) (he : NE h C env) (hso : so < 256) (hc1 : c ≠ 482) (hc2 : c ≠ 483) (hd : 2 ≤ d) : ∀ r i n (F : Nat → Int32) (o5 o6 : Option Value), i + r = m → n = (runV env so O V i).2 → (∀ j, j < n → F j = iI ((runV env so O V i).1 j)) → ∃ F', ∀ (N S : Nat) (Q : Option Value → Hp → Prop), pn h ≤ N → ps h ≤ S → Q (some (.int (iI (evV env so O V m)))) (sA h 483 F') → T d N S mX3_run 5 [some (.ref 481), some (.ref c), some (.int (nI so)), some (.int (nI n)), some (.int (nI i)), o5, o6] [] (sA h 483 F) Q := by
  obtain ⟨lc, lm0, lm, lv, lo⟩ := id hl
  intro r
  induction r with
  | zero =>
    intro i n F o5 o6 hi hn hF
    have e : i = m := by omega
    rw [e] at hn hF ⊢
    have hb := runV_n env so O V m
    have hn1 : 0 < n := by
      obtain ⟨k, hk⟩ : ∃ k, m = k + 1 := ⟨m - 1, by omega⟩
      rw [hn, hk]
      exact Nat.succ_pos _
    refine ⟨F, fun N S Q hN hS hQ => ?_⟩
    refine z_iload dX3_run_5 rfl ?_
    refine z_aload_n dX3_run_7 rfl rfl ?_
    refine y_alen dX3_run_8 (by exact hl.1) ⟨Nat.le_of_ble_eq_true rfl, Nat.le_of_ble_eq_true rfl⟩ rfl ?_
    refine z_icmp_ge dX3_run_9 rfl (fun _ => ?_) (fun c => absurd ((nI_leI (by omega) (by omega)).mpr (by omega)) c)
    refine z_aload_n dX3_run_109 rfl rfl ?_
    refine y_getR FX3_15 dX3_run_110 rfl ho hk ?_
    refine y_alen dX3_run_113 (by exact hs) ⟨Nat.le_of_ble_eq_true rfl, Nat.le_of_ble_eq_true rfl⟩ rfl ?_
    refine z_if_le dX3_run_114 rfl (fun c => absurd c (by decide)) (fun _ => ?_)
    refine z_aload_n dX3_run_117 rfl rfl ?_
    refine y_getR FX3_15 dX3_run_118 rfl ho hk ?_
    refine z_iconst (v := 0) dX3_run_121 (by decide) ?_
    refine y_ialN 0 dX3_run_122 (by exact hs) (Nat.le_of_ble_eq_true rfl) rfl (by omega) ?_
    refine z_eqi (show _ = iI (evV env so O V m) by rw [pI_sA_s]; exact hF 0 (by omega)) ?_
    refine z_goto dX3_run_123 rfl ?_
    refine z_iret dX3_run_127 ?_
    exact hQ
  | succ r ih =>
    intro i n F o5 o6 hi hn hF
    have hi1 : i < m := by omega
    have hb := runV_n env so O V i
    have ok := lo i hi1
    have ec : pI h c i = cnv (O i) (V i) := lv i hi1
    have hwf := hw env so i hi1
    rw [← hn] at hwf hb
    have tkS : ∀ g : Hp, Sp 1 mX3_takesOf [.int (cnv (O i) (V i))] g (some (.int (nI (tkO (O i))))) g := fun g => s_takes ok
    have ec : pI (sA h 483 F) c i = cnv (O i) (V i) := by rw [pI_sA_ne hc2]; exact ec
    have tk3 : tkO (O i) ≤ 3 := by unfold tkO; split <;> (try split) <;> (try split) <;> omega
    have en : (runV env so O V (i + 1)).2 = n - tkO (O i) + 1 := by rw [hn]; rfl
    have eg : ∀ j, (runV env so O V (i + 1)).1 j = if j = n - tkO (O i) then (if O i = 0 then (V i : Int) else if O i = 1 then env (V i) else clp (rawV so (O i) ((runV env so O V i).1 (n - tkO (O i))) ((runV env so O V i).1 (n - tkO (O i) + 1)) ((runV env so O V i).1 (n - tkO (O i) + 2)))) else (runV env so O V i).1 j := fun j => by rw [hn]; rfl
    have nx : ∀ w : Int32, w = iI (if O i = 0 then (V i : Int) else if O i = 1 then env (V i) else clp (rawV so (O i) ((runV env so O V i).1 (n - tkO (O i))) ((runV env so O V i).1 (n - tkO (O i) + 1)) ((runV env so O V i).1 (n - tkO (O i) + 2)))) → ∀ j, j < n - tkO (O i) + 1 → (fun j => if j = n - tkO (O i) then w else F j) j = iI ((runV env so O V (i + 1)).1 j) := fun w hw j hj => by
      show (if j = n - tkO (O i) then w else F j) = _
      rw [eg j]
      by_cases h1 : j = n - tkO (O i)
      · rw [if_pos h1, if_pos h1]; exact hw
      · rw [if_neg h1, if_neg h1]; exact hF j (by omega)
    rcases ok with ⟨h0, hv⟩ | ⟨h1, hv, hcv⟩ | ho2
    · have t0 : tkO (O i) = 0 := by rw [h0]; rfl
      obtain ⟨F', hF'⟩ := ih (i + 1) (n - tkO (O i) + 1) (fun j => if j = n - tkO (O i) then nI (V i) else F j) (some (.int (cnv (O i) (V i)))) (some (.int (nI (tkO (O i))))) (by omega) en.symm (nx _ (by rw [if_pos h0]; exact nI_i _))
      refine ⟨F', fun N S Q hN hS hQ => ?_⟩
      have K := hF' N S Q hN hS hQ
      have e0 : cnv (O i) (V i) = nI (V i) := by rw [h0]; rfl
      have sp : ∀ d, Sp d mX3_simple [.ref 481, .int (cnv (O i) (V i))] (sA h 483 F) (some (.int (nI (V i)))) (sA h 483 F) := fun d => by rw [e0]; exact s_simple0 (by exact ho) (by exact hn') (by exact ha) (by exact hk) (by exact hs) (by omega)
      refine z_iload dX3_run_5 rfl ?_
      refine z_aload_n dX3_run_7 rfl rfl ?_
      refine y_alen dX3_run_8 (by exact hl.1) ⟨Nat.le_of_ble_eq_true rfl, Nat.le_of_ble_eq_true rfl⟩ rfl ?_
      refine z_icmp_ge dX3_run_9 rfl (fun c => absurd c (fun q => absurd ((nI_leI (by omega) (by omega)).mp q) (by omega))) (fun _ => ?_)
      refine z_aload_n dX3_run_12 rfl rfl ?_
      refine z_iload dX3_run_13 rfl ?_
      refine y_ialN i dX3_run_15 (by exact hl.1) (by omega) rfl hi1 ?_
      refine z_eqi ec ?_
      refine z_istore dX3_run_16 (Nat.le_of_ble_eq_true rfl) ?_
      refine z_iload dX3_run_18 rfl ?_
      refine y_callS (as := [_]) CX3_takesOf LX3_18 SX3_takesOf dX3_run_20 rfl (Nat.le_of_ble_eq_true rfl) (Nat.le_of_ble_eq_true rfl) (by omega) (tkS _) rok_i ⟨Nat.le_refl _, Nat.le_refl _, hN, hS⟩ ?_
      refine z_istore dX3_run_23 (Nat.le_of_ble_eq_true rfl) ?_
      refine z_iconst (v := 0) dX3_run_25 (by decide) ?_
      refine z_iload_n dX3_run_26 rfl rfl ?_
      refine z_iload dX3_run_27 rfl ?_
      refine z_isub dX3_run_29 ?_
      refine z_mmax Kmax_X3_22 Kmax_static Kini_Math Kmax_code dX3_run_30 (by omega) (Nat.le_of_ble_eq_true rfl) ?_
      refine z_eqi (max0 (by omega) (by omega)) ?_
      refine z_istore_n dX3_run_33 rfl (Nat.le_of_ble_eq_true rfl) ?_
      refine z_iload_n dX3_run_34 rfl rfl ?_
      refine z_iconst (v := 2) dX3_run_35 (by decide) ?_
      refine z_iadd dX3_run_36 ?_
      refine z_eqi (nI_add (n - tkO (O i)) 2) ?_
      refine z_aload_n dX3_run_37 rfl rfl ?_
      refine y_getR FX3_15 dX3_run_38 rfl ho hk ?_
      refine y_alen dX3_run_41 (by exact hs) ⟨Nat.le_of_ble_eq_true rfl, Nat.le_of_ble_eq_true rfl⟩ rfl ?_
      refine z_icmp_ge dX3_run_42 rfl (fun c => absurd c (fun q => absurd ((nI_leI (a := 303) (by omega) (by omega)).mp q) (by omega))) (fun _ => ?_)
      refine z_aload_n dX3_run_45 rfl rfl ?_
      refine y_getR FX3_15 dX3_run_46 rfl ho hk ?_
      refine z_iload_n dX3_run_49 rfl rfl ?_
      refine z_iload dX3_run_50 rfl ?_
      refine z_if_ne dX3_run_52 rfl (fun c => absurd (by rw [t0]; rfl) c) (fun _ => ?_)
      refine z_aload_n dX3_run_55 rfl rfl ?_
      refine z_iload dX3_run_56 rfl ?_
      refine y_callV (as := [_]) CX3_simple LX3_28 IX3_simple VX3_simple ⟨rfl, Nat.le_of_ble_eq_true rfl⟩ dX3_run_58 ho rfl (Nat.le_of_ble_eq_true rfl) (Nat.le_of_ble_eq_true rfl) (by omega) (sp 1) rok_i ⟨Nat.le_refl _, Nat.le_refl _, hN, hS⟩ ?_
      refine z_goto dX3_run_61 rfl ?_
      refine y_iasN (n - tkO (O i)) dX3_run_99 (by exact hs) (Nat.le_of_ble_eq_true rfl) rfl (by omega) ?_
      rw [sI_sA]
      refine z_iinc dX3_run_100 rfl (nI_1 _) (Nat.le_of_ble_eq_true rfl) ?_
      refine z_iinc dX3_run_103 rfl (nI_1 _) (Nat.le_of_ble_eq_true rfl) ?_
      refine z_goto dX3_run_106 rfl ?_
      exact K
    · have t0 : tkO (O i) = 0 := by rw [h1]; rfl
      obtain ⟨F', hF'⟩ := ih (i + 1) (n - tkO (O i) + 1) (fun j => if j = n - tkO (O i) then iI (env (V i)) else F j) (some (.int (cnv (O i) (V i)))) (some (.int (nI (tkO (O i))))) (by omega) en.symm (nx _ (by rw [if_neg (by omega), if_pos h1]))
      refine ⟨F', fun N S Q hN hS hQ => ?_⟩
      have K := hF' N S Q hN hS hQ
      have e0 : cnv (O i) (V i) = - nI (nmT (V i)) := by rw [h1]; rfl
      have sp : ∀ d, Sp d mX3_simple [.ref 481, .int (cnv (O i) (V i))] (sA h 483 F) (some (.int (iI (env (V i))))) (sA h 483 F) := fun d => by
        rw [e0, ← he.2 _ hv hcv]
        have := s_simple1 (h := sA h 483 F) (d := d) (by exact ho) (by exact hn') (by exact ha) (by exact hk) (by exact hs) (nmT_b hv).2 (nmT_b hv).1
        rw [pI_sA_ne (by omega)] at this
        exact this
      refine z_iload dX3_run_5 rfl ?_
      refine z_aload_n dX3_run_7 rfl rfl ?_
      refine y_alen dX3_run_8 (by exact hl.1) ⟨Nat.le_of_ble_eq_true rfl, Nat.le_of_ble_eq_true rfl⟩ rfl ?_
      refine z_icmp_ge dX3_run_9 rfl (fun c => absurd c (fun q => absurd ((nI_leI (by omega) (by omega)).mp q) (by omega))) (fun _ => ?_)
      refine z_aload_n dX3_run_12 rfl rfl ?_
      refine z_iload dX3_run_13 rfl ?_
      refine y_ialN i dX3_run_15 (by exact hl.1) (by omega) rfl hi1 ?_
      refine z_eqi ec ?_
      refine z_istore dX3_run_16 (Nat.le_of_ble_eq_true rfl) ?_
      refine z_iload dX3_run_18 rfl ?_
      refine y_callS (as := [_]) CX3_takesOf LX3_18 SX3_takesOf dX3_run_20 rfl (Nat.le_of_ble_eq_true rfl) (Nat.le_of_ble_eq_true rfl) (by omega) (tkS _) rok_i ⟨Nat.le_refl _, Nat.le_refl _, hN, hS⟩ ?_
      refine z_istore dX3_run_23 (Nat.le_of_ble_eq_true rfl) ?_
      refine z_iconst (v := 0) dX3_run_25 (by decide) ?_
      refine z_iload_n dX3_run_26 rfl rfl ?_
      refine z_iload dX3_run_27 rfl ?_
      refine z_isub dX3_run_29 ?_
      refine z_mmax Kmax_X3_22 Kmax_static Kini_Math Kmax_code dX3_run_30 (by omega) (Nat.le_of_ble_eq_true rfl) ?_
      refine z_eqi (max0 (by omega) (by omega)) ?_
      refine z_istore_n dX3_run_33 rfl (Nat.le_of_ble_eq_true rfl) ?_
      refine z_iload_n dX3_run_34 rfl rfl ?_
      refine z_iconst (v := 2) dX3_run_35 (by decide) ?_
      refine z_iadd dX3_run_36 ?_
      refine z_eqi (nI_add (n - tkO (O i)) 2) ?_
      refine z_aload_n dX3_run_37 rfl rfl ?_
      refine y_getR FX3_15 dX3_run_38 rfl ho hk ?_
      refine y_alen dX3_run_41 (by exact hs) ⟨Nat.le_of_ble_eq_true rfl, Nat.le_of_ble_eq_true rfl⟩ rfl ?_
      refine z_icmp_ge dX3_run_42 rfl (fun c => absurd c (fun q => absurd ((nI_leI (a := 303) (by omega) (by omega)).mp q) (by omega))) (fun _ => ?_)
      refine z_aload_n dX3_run_45 rfl rfl ?_
      refine y_getR FX3_15 dX3_run_46 rfl ho hk ?_
      refine z_iload_n dX3_run_49 rfl rfl ?_
      refine z_iload dX3_run_50 rfl ?_
      refine z_if_ne dX3_run_52 rfl (fun c => absurd (by rw [t0]; rfl) c) (fun _ => ?_)
      refine z_aload_n dX3_run_55 rfl rfl ?_
      refine z_iload dX3_run_56 rfl ?_
      refine y_callV (as := [_]) CX3_simple LX3_28 IX3_simple VX3_simple ⟨rfl, Nat.le_of_ble_eq_true rfl⟩ dX3_run_58 ho rfl (Nat.le_of_ble_eq_true rfl) (Nat.le_of_ble_eq_true rfl) (by omega) (sp 1) rok_i ⟨Nat.le_refl _, Nat.le_refl _, hN, hS⟩ ?_
      refine z_goto dX3_run_61 rfl ?_
      refine y_iasN (n - tkO (O i)) dX3_run_99 (by exact hs) (Nat.le_of_ble_eq_true rfl) rfl (by omega) ?_
      rw [sI_sA]
      refine z_iinc dX3_run_100 rfl (nI_1 _) (Nat.le_of_ble_eq_true rfl) ?_
      refine z_iinc dX3_run_103 rfl (nI_1 _) (Nat.le_of_ble_eq_true rfl) ?_
      refine z_goto dX3_run_106 rfl ?_
      exact K
    · have ho3 : 2 ≤ O i := by omega
      have t1 : 1 ≤ tkO (O i) := by unfold tkO; rw [if_neg (by omega)]; split <;> (try split) <;> omega
      have B : ∀ j, b6 ((runV env so O V i).1 j) := runV_b (m := m) he.1 (fun k hk h0 => by rcases lo k hk with q | q | q <;> omega) i (by omega)
      have tI : ∀ j, j < n → (F j).toInt = (runV env so O V i).1 j := fun j hj => by rw [hF j hj, iI_toInt ⟨by have := (B j).1; omega, by have := (B j).2; omega⟩]
      have e0 : cnv (O i) (V i) = - nI (opT (O i)) := cnv_o ho3
      rw [e0] at ec tkS
      obtain ⟨F', hF'⟩ := ih (i + 1) (n - tkO (O i) + 1) (fun j => if j = n - tkO (O i) then iI (clp (rawV so (O i) (F (n - tkO (O i))).toInt (F (n - tkO (O i) + 1)).toInt (F (n - tkO (O i) + 2)).toInt)) else F j) (some (.int (- nI (opT (O i))))) (some (.int (nI (tkO (O i))))) (by omega) en.symm (nx _ (by
        rw [if_neg (by omega), if_neg (by omega)]
        exact congrArg (fun q => iI (clp q)) (rawV_cg ho2 (tI _ (by omega)) (fun q => tI _ (by omega)) (fun q => tI _ (by omega)))))
      refine ⟨F', fun N S Q hN hS hQ => ?_⟩
      have K := hF' N S Q hN hS hQ
      refine z_iload dX3_run_5 rfl ?_
      refine z_aload_n dX3_run_7 rfl rfl ?_
      refine y_alen dX3_run_8 (by exact hl.1) ⟨Nat.le_of_ble_eq_true rfl, Nat.le_of_ble_eq_true rfl⟩ rfl ?_
      refine z_icmp_ge dX3_run_9 rfl (fun c => absurd c (fun q => absurd ((nI_leI (by omega) (by omega)).mp q) (by omega))) (fun _ => ?_)
      refine z_aload_n dX3_run_12 rfl rfl ?_
      refine z_iload dX3_run_13 rfl ?_
      refine y_ialN i dX3_run_15 (by exact hl.1) (by omega) rfl hi1 ?_
      refine z_eqi ec ?_
      refine z_istore dX3_run_16 (Nat.le_of_ble_eq_true rfl) ?_
      refine z_iload dX3_run_18 rfl ?_
      refine y_callS (as := [_]) CX3_takesOf LX3_18 SX3_takesOf dX3_run_20 rfl (Nat.le_of_ble_eq_true rfl) (Nat.le_of_ble_eq_true rfl) (by omega) (tkS _) rok_i ⟨Nat.le_refl _, Nat.le_refl _, hN, hS⟩ ?_
      refine z_istore dX3_run_23 (Nat.le_of_ble_eq_true rfl) ?_
      refine z_iconst (v := 0) dX3_run_25 (by decide) ?_
      refine z_iload_n dX3_run_26 rfl rfl ?_
      refine z_iload dX3_run_27 rfl ?_
      refine z_isub dX3_run_29 ?_
      refine z_mmax Kmax_X3_22 Kmax_static Kini_Math Kmax_code dX3_run_30 (by omega) (Nat.le_of_ble_eq_true rfl) ?_
      refine z_eqi (max0 (by omega) (by omega)) ?_
      refine z_istore_n dX3_run_33 rfl (Nat.le_of_ble_eq_true rfl) ?_
      refine z_iload_n dX3_run_34 rfl rfl ?_
      refine z_iconst (v := 2) dX3_run_35 (by decide) ?_
      refine z_iadd dX3_run_36 ?_
      refine z_eqi (nI_add (n - tkO (O i)) 2) ?_
      refine z_aload_n dX3_run_37 rfl rfl ?_
      refine y_getR FX3_15 dX3_run_38 rfl ho hk ?_
      refine y_alen dX3_run_41 (by exact hs) ⟨Nat.le_of_ble_eq_true rfl, Nat.le_of_ble_eq_true rfl⟩ rfl ?_
      refine z_icmp_ge dX3_run_42 rfl (fun c => absurd c (fun q => absurd ((nI_leI (a := 303) (by omega) (by omega)).mp q) (by omega))) (fun _ => ?_)
      refine z_aload_n dX3_run_45 rfl rfl ?_
      refine y_getR FX3_15 dX3_run_46 rfl ho hk ?_
      refine z_iload_n dX3_run_49 rfl rfl ?_
      refine z_iload dX3_run_50 rfl ?_
      refine z_if_ne dX3_run_52 rfl (fun _ => ?_) (fun c => absurd c (fun q => absurd ((nI_eq (b := 0) (by omega) (by omega)).mp q) (by omega)))
      refine z_iload dX3_run_64 rfl ?_
      refine z_ineg dX3_run_66 ?_
      refine z_eqi (y := nI (opT (O i))) (Int32.neg_neg) ?_
      refine z_aload_n dX3_run_67 rfl rfl ?_
      refine y_getR FX3_15 dX3_run_68 rfl ho hk ?_
      refine z_iload_n dX3_run_71 rfl rfl ?_
      refine y_ialN (n - tkO (O i)) dX3_run_72 (by exact hs) (Nat.le_of_ble_eq_true rfl) (by first | rfl | (simp only [← nI_add, ← pk_mul]; rfl)) (by omega) ?_
      refine z_i2l dX3_run_73 ?_
      refine z_eql (show _ = iL (F (n - tkO (O i))).toInt by rw [pI_sA_s]; exact l_of _) ?_
      refine z_aload_n dX3_run_74 rfl rfl ?_
      refine y_getR FX3_15 dX3_run_75 rfl ho hk ?_
      refine z_iload_n dX3_run_78 rfl rfl ?_
      refine z_iconst (v := 1) dX3_run_79 (by decide) ?_
      refine z_iadd dX3_run_80 ?_
      refine y_ialN (n - tkO (O i) + 1) dX3_run_81 (by exact hs) (Nat.le_of_ble_eq_true rfl) (by first | rfl | (simp only [← nI_add, ← pk_mul]; rfl)) (by omega) ?_
      refine z_i2l dX3_run_82 ?_
      refine z_eql (show _ = iL (F (n - tkO (O i) + 1)).toInt by rw [pI_sA_s]; exact l_of _) ?_
      refine z_aload_n dX3_run_83 rfl rfl ?_
      refine y_getR FX3_15 dX3_run_84 rfl ho hk ?_
      refine z_iload_n dX3_run_87 rfl rfl ?_
      refine z_iconst (v := 2) dX3_run_88 (by decide) ?_
      refine z_iadd dX3_run_89 ?_
      refine y_ialN (n - tkO (O i) + 2) dX3_run_90 (by exact hs) (Nat.le_of_ble_eq_true rfl) (by first | rfl | (simp only [← nI_add, ← pk_mul]; rfl)) (by omega) ?_
      refine z_i2l dX3_run_91 ?_
      refine z_eql (show _ = iL (F (n - tkO (O i) + 2)).toInt by rw [pI_sA_s]; exact l_of _) ?_
      refine z_iload_n dX3_run_92 rfl rfl ?_
      refine y_callS (as := [_, _, _, _, _]) CX3_value LX3_31 SX3_value dX3_run_93 rfl (Nat.le_of_ble_eq_true rfl) (Nat.le_of_ble_eq_true rfl) (by omega) (s_value (x := (F (n - tkO (O i))).toInt) (y := (F (n - tkO (O i) + 1)).toInt) (z := (F (n - tkO (O i) + 2)).toInt) (b31_of _) (b31_of _) (b31_of _) hso ho2) rok_l ⟨Nat.le_refl _, Nat.le_refl _, hN, hS⟩ ?_
      refine y_callS (as := [_]) CX3_limit LX3_35 SX3_limit dX3_run_96 rfl (Nat.le_of_ble_eq_true rfl) (Nat.le_of_ble_eq_true rfl) (by omega) (s_limit (d := 1) (rawV_b (b31_of _) (b31_of _) (b31_of _)) (Nat.le_refl _)) rok_i ⟨Nat.le_refl _, Nat.le_refl _, hN, hS⟩ ?_
      refine y_iasN (n - tkO (O i)) dX3_run_99 (by exact hs) (Nat.le_of_ble_eq_true rfl) rfl (by omega) ?_
      rw [sI_sA]
      refine z_iinc dX3_run_100 rfl (nI_1 _) (Nat.le_of_ble_eq_true rfl) ?_
      refine z_iinc dX3_run_103 rfl (nI_1 _) (Nat.le_of_ble_eq_true rfl) ?_
      refine z_goto dX3_run_106 rfl ?_
      exact K

theorem s_run {h : Hp} {d : Nat} (ho : IO h 3 481) (hn : pR h 481 0 = some 482) (ha : IA h 10 36 482) (hk : pR h 481 1 = some 483) (hs : IA h 10 303 483) {so m c : Nat} {C : Prop} {env : Nat → Int} {O V : Nat → Nat} (hl : LC h C O V m c) (hw : WF O V m) (he : NE h C env) (hso : so < 256) (hc1 : c ≠ 482) (hc2 : c ≠ 483) (hd : 2 ≤ d) : ∃ F, Sp d mX3_run [.ref 481, .ref c, .int (nI so)] h (some (.int (iI (evV env so O V m)))) (sA h 483 F) := by
  obtain ⟨F', hF'⟩ := s_run_loop ho hn ha hk hs hl hw he hso hc1 hc2 hd m 0 0 (pI h 483) none none (by omega) rfl (fun j hj => absurd hj (by omega))
  rw [sA_id] at hF'
  refine ⟨F', ?_⟩
  intro N S Q hN hS hQ
  refine z_iconst (v := 0) dX3_run_0 (by decide) ?_
  refine z_istore_n dX3_run_1 rfl (Nat.le_of_ble_eq_true rfl) ?_
  refine z_iconst (v := 0) dX3_run_2 (by decide) ?_
  refine z_istore dX3_run_3 (Nat.le_of_ble_eq_true rfl) ?_
  exact hF' N S Q hN hS hQ

