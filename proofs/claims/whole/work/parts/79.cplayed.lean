/-! played: the class (walks by program: wip/whole/gen79.py) -/
theorem c_pd_loop {h : Hp} {a : Fl} {tf : Nat → Int32} {d n z : Nat} (hj : JD tf a) (h9 : a 8 + z ≤ 9999) (hn : n ≤ 60) (hz : z ≤ n) (hd : 7 ≤ d) : ∀ r i (h1 : Hp), i + r = z → CZ h1 (dyA tf i a) tf → FZ h h1 → ∃ h2, CZ h2 (dyA tf z a) tf ∧ FZ h h2 ∧ ∀ (N S : Nat) (Q : Option Value → Hp → Prop), pn h ≤ N → ps h ≤ S → Q (some (.int (bI (z = n)))) h2 → T d N S mX8_passDays 21 [some (.ref 8), some (.int (nI n)), some (.int (nI z)), some (.int (nI i))] [] h1 Q := by
  intro r
  induction r with
  | zero =>
    intro i h1 hi c1 f1
    have e : i = z := by omega
    rw [e] at c1 ⊢
    refine ⟨h1, c1, f1, fun N S Q hN hS hQ => ?_⟩
    by_cases e2 : z = n
    · rw [bI_t e2] at hQ
      refine z_iload_n dX8_passDays_21 rfl rfl ?_
      refine z_iload_n dX8_passDays_22 rfl rfl ?_
      refine z_icmp_ge dX8_passDays_23 rfl (fun _ => ?_) (fun c => absurd (Int32.le_refl _) c)
      refine z_iload_n dX8_passDays_51 rfl rfl ?_
      refine z_iload_n dX8_passDays_52 rfl rfl ?_
      refine z_icmp_ne dX8_passDays_53 rfl (fun c => absurd (congrArg nI e2) c) (fun _ => ?_)
      refine z_iconst (v := 1) dX8_passDays_56 (by decide) ?_
      refine z_goto dX8_passDays_57 rfl ?_
      refine z_iret dX8_passDays_61 ?_
      exact hQ
    · rw [bI_f e2] at hQ
      refine z_iload_n dX8_passDays_21 rfl rfl ?_
      refine z_iload_n dX8_passDays_22 rfl rfl ?_
      refine z_icmp_ge dX8_passDays_23 rfl (fun _ => ?_) (fun c => absurd (Int32.le_refl _) c)
      refine z_iload_n dX8_passDays_51 rfl rfl ?_
      refine z_iload_n dX8_passDays_52 rfl rfl ?_
      refine z_icmp_ne dX8_passDays_53 rfl (fun _ => ?_) (fun c => absurd c (fun q => e2 ((nI_eq (by omega) (by omega)).mp q)))
      refine z_iconst (v := 0) dX8_passDays_60 (by decide) ?_
      refine z_iret dX8_passDays_61 ?_
      exact hQ
  | succ r ih =>
    intro i h1 hi c1 f1
    obtain ⟨j1, j8⟩ := hj.days i (by omega)
    obtain ⟨g1, k1, k2, k3⟩ := c_rem (d := 6) c1 j1.1.2.2.2.2.1 (by omega)
    obtain ⟨g2, p1, p2, p3⟩ := c_passN (d := 6) k2 j1.keep (by omega)
    obtain ⟨h2, q1, q2, K⟩ := ih (i + 1) g2 (by omega) p2 ((f1.tr k3).tr p3)
    refine ⟨h2, q1, q2, fun N S Q hN hS hQ => ?_⟩
    have hN1 : pn h1 ≤ N := by rw [f1.1.n]; exact hN
    have hS1 : ps h1 ≤ S := by rw [f1.1.s]; exact hS
    have hN2 : pn g1 ≤ N := by rw [k3.1.n]; exact hN1
    have hS2 : ps g1 ≤ S := by rw [k3.1.s]; exact hS1
    refine z_iload_n dX8_passDays_21 rfl rfl ?_
    refine z_iload_n dX8_passDays_22 rfl rfl ?_
    refine z_icmp_ge dX8_passDays_23 rfl (fun c => absurd c (fun q => absurd ((nI_leI (by omega) (by omega)).mp q) (by omega))) (fun _ => ?_)
    refine z_aload_n dX8_passDays_26 rfl rfl ?_
    refine y_getR FX8_10 dX8_passDays_27 rfl c1.1.1 c1.1.2.1 ?_
    refine y_callV (as := []) CX1_remember LX8_113 IX1_remember VX1_remember ⟨rfl, Nat.le_of_ble_eq_true rfl⟩ dX8_passDays_30 c1.1.2.2.2.2.1.o rfl (Nat.le_of_ble_eq_true rfl) (Nat.le_of_ble_eq_true rfl) (by omega) k1 rok_v (hg_ss k3.1 hN1 hS1) ?_
    refine z_aload_n dX8_passDays_33 rfl rfl ?_
    refine z_aload_n dX8_passDays_34 rfl rfl ?_
    refine y_getR FX8_10 dX8_passDays_35 rfl (k3.1.O c1.1.1) (by first | (rw [k3.1.R]; exact c1.1.2.1) | exact (congrFun (congrFun k3.1.R _) _).trans c1.1.2.1) ?_
    refine y_getR FX8_79 dX8_passDays_38 rfl (k3.1.O c1.1.2.2.2.2.1.o) (by first | (rw [k3.1.R]; exact c1.1.2.2.2.2.1.f0) | exact (congrFun (congrFun k3.1.R _) _).trans c1.1.2.2.2.2.1.f0) ?_
    refine y_callV (as := [_]) CX8_passDay LX8_173 IX8_passDay VX8_passDay ⟨rfl, Nat.le_of_ble_eq_true rfl⟩ dX8_passDays_41 (k3.1.O c1.1.1) rfl (Nat.le_of_ble_eq_true rfl) (Nat.le_of_ble_eq_true rfl) (by omega) p1 rok_i (hg_ss p3.1 hN2 hS2) ?_
    refine z_pop dX8_passDays_44 rfl ?_
    refine z_iinc dX8_passDays_45 rfl (nI_1 _) (Nat.le_of_ble_eq_true rfl) ?_
    refine z_goto dX8_passDays_48 rfl ?_
    exact K N S Q hN hS hQ
theorem c_passDays {h : Hp} {a : Fl} {tf : Nat → Int32} {d n : Nat} (c1 : CZ h a tf) (hj : JD tf a) (hn : n ≤ 60) (hd : 7 ≤ d) : ∃ h1, Sp d mX8_passDays [.ref 8, .int (nI n)] h (some (.int (bI (a 8 + n ≤ 9999)))) h1 ∧ CZ h1 (dyA tf (min n (9999 - a 8)) a) tf ∧ FZ h h1 := by
  have v8 := hj.1.2.2.2.2.2.2.2.2.1
  obtain ⟨h2, q1, q2, K⟩ := c_pd_loop (h := h) (z := min n (9999 - a 8)) hj (by omega) hn (by omega) hd (min n (9999 - a 8)) 0 h (by omega) c1 FZ.rf
  refine ⟨h2, ?_, q1, q2⟩
  intro N S Q hN hS hQ
  have hN : pn h ≤ N := by rw [← q2.1.n]; exact hN
  have hS : ps h ≤ S := by rw [← q2.1.s]; exact hS
  rw [bI_congr (b := min n (9999 - a 8) = n) (by omega)] at hQ
  refine z_iload_n dX8_passDays_0 rfl rfl ?_
  refine z_sipush (v := 9999) dX8_passDays_1 (by decide) ?_
  refine z_aload_n dX8_passDays_4 rfl rfl ?_
  refine y_getR FX8_10 dX8_passDays_5 rfl c1.1.1 c1.1.2.1 ?_
  refine y_getR FX8_79 dX8_passDays_8 rfl c1.1.2.2.2.2.1.o c1.1.2.2.2.2.1.f0 ?_
  refine y_getI FX8_133 dX8_passDays_11 (Or.inl rfl) c1.1.2.2.2.2.1.now.1 ?_
  refine z_eqi (y := nI (a 8)) (show _ = nI (a 8) from c1.2.1.1) ?_
  refine z_isub dX8_passDays_14 ?_
  refine z_eqi (show _ = nI (9999 - a 8) from pk_sub v8) ?_
  refine z_mmin Kmin_X8_224 Kmin_static Kini_Math Kmin_code dX8_passDays_15 (by omega) (Nat.le_of_ble_eq_true rfl) ?_
  refine z_eqi (mmin_n (x := n) (y := 9999 - a 8) (by omega) (by omega)) ?_
  refine z_istore_n dX8_passDays_18 rfl (Nat.le_of_ble_eq_true rfl) ?_
  refine z_iconst (v := 0) dX8_passDays_19 (by decide) ?_
  refine z_istore_n dX8_passDays_20 rfl (Nat.le_of_ble_eq_true rfl) ?_
  exact K N S Q hN hS hQ

theorem c_perform_0 {h : Hp} {a : Fl} {tf : Nat → Int32} {d t k x : Nat} (c1 : CZ h a tf) (hj : JY tf a) (hx : TXC h tf t x) (hc : k < cnt tf t) (hs : tf (753 * t + 1 + 6 * k) = nI 0) (hd : 5 ≤ d) : ∃ h1, Sp d mX8_perform [.ref 8, .ref (x + 1), .int (nI k)] h (some (.int (plS tf t k a).1)) h1 ∧ CZ h1 (plS tf t k a).2 tf ∧ FZ h h1 := by
  have vv := hx.2.2.1.2.2.2 k 0 hc hs (by omega)
  have j4 := (jy_plS (t := t) (k := k) hj).1.1.2.2.2.2.1
  have eq : plS tf t k a = (1, a) := by
    unfold plS
    rw [if_neg (by rw [hs]; decide), if_neg (by rw [hs]; decide), if_neg (by rw [hs]; decide), if_neg (by rw [hs]; decide), if_neg (by rw [hs]; decide), if_neg (by rw [hs]; decide), if_neg (by rw [hs]; decide)]
  rw [eq]
  refine ⟨h, ?_, c1, FZ.rf⟩
  intro N S Q hN hS hQ
  refine z_aload_n dX8_perform_0 rfl rfl ?_
  refine z_iload_n dX8_perform_1 rfl rfl ?_
  refine z_iconst (v := 1) dX8_perform_2 (by decide) ?_
  refine y_callV (as := [_, _]) CX4_get LX8_143 IX4_get VX4_get ⟨rfl, Nat.le_of_ble_eq_true rfl⟩ dX8_perform_3 hx.2.2.1.2.1.1 rfl (Nat.le_of_ble_eq_true rfl) (Nat.le_of_ble_eq_true rfl) (by omega) (s_get (k := x + 1) (w := 6) (ms := 24) (i := k) (j := 1) hx.2.2.1.2.1 hx.2.2.1.2.2.1 hc (by omega)) rok_i ⟨Nat.le_refl _, Nat.le_refl _, hN, hS⟩ ?_
  refine z_istore_n dX8_perform_6 rfl (Nat.le_of_ble_eq_true rfl) ?_
  refine z_aload_n dX8_perform_7 rfl rfl ?_
  refine z_iload_n dX8_perform_8 rfl rfl ?_
  refine z_iconst (v := 2) dX8_perform_9 (by decide) ?_
  refine y_callV (as := [_, _]) CX4_get LX8_143 IX4_get VX4_get ⟨rfl, Nat.le_of_ble_eq_true rfl⟩ dX8_perform_10 hx.2.2.1.2.1.1 rfl (Nat.le_of_ble_eq_true rfl) (Nat.le_of_ble_eq_true rfl) (by omega) (s_get (k := x + 1) (w := 6) (ms := 24) (i := k) (j := 2) hx.2.2.1.2.1 hx.2.2.1.2.2.1 hc (by omega)) rok_i ⟨Nat.le_refl _, Nat.le_refl _, hN, hS⟩ ?_
  refine z_istore dX8_perform_13 (Nat.le_of_ble_eq_true rfl) ?_
  refine z_aload_n dX8_perform_15 rfl rfl ?_
  refine z_iload_n dX8_perform_16 rfl rfl ?_
  refine z_iconst (v := 3) dX8_perform_17 (by decide) ?_
  refine y_callV (as := [_, _]) CX4_get LX8_143 IX4_get VX4_get ⟨rfl, Nat.le_of_ble_eq_true rfl⟩ dX8_perform_18 hx.2.2.1.2.1.1 rfl (Nat.le_of_ble_eq_true rfl) (Nat.le_of_ble_eq_true rfl) (by omega) (s_get (k := x + 1) (w := 6) (ms := 24) (i := k) (j := 3) hx.2.2.1.2.1 hx.2.2.1.2.2.1 hc (by omega)) rok_i ⟨Nat.le_refl _, Nat.le_refl _, hN, hS⟩ ?_
  refine z_istore dX8_perform_21 (Nat.le_of_ble_eq_true rfl) ?_
  refine z_aload_n dX8_perform_23 rfl rfl ?_
  refine z_iload_n dX8_perform_24 rfl rfl ?_
  refine z_iconst (v := 0) dX8_perform_25 (by decide) ?_
  refine y_callV (as := [_, _]) CX4_get LX8_143 IX4_get VX4_get ⟨rfl, Nat.le_of_ble_eq_true rfl⟩ dX8_perform_26 hx.2.2.1.2.1.1 rfl (Nat.le_of_ble_eq_true rfl) (Nat.le_of_ble_eq_true rfl) (by omega) (s_get (k := x + 1) (w := 6) (ms := 24) (i := k) (j := 0) hx.2.2.1.2.1 hx.2.2.1.2.2.1 hc (by omega)) rok_i ⟨Nat.le_refl _, Nat.le_refl _, hN, hS⟩ ?_
  refine z_eqi vv.1 ?_
  refine z_tableOut (tgt := 168) dX8_perform_29 (by decide) rfl ?_
  refine z_iconst (v := 1) dX8_perform_168 (by decide) ?_
  refine z_iret dX8_perform_169 ?_
  exact hQ

theorem c_perform_1 {h : Hp} {a : Fl} {tf : Nat → Int32} {d t k x : Nat} (c1 : CZ h a tf) (hj : JY tf a) (hx : TXC h tf t x) (hc : k < cnt tf t) (hs : tf (753 * t + 1 + 6 * k) = nI 1) (hd : 5 ≤ d) : ∃ h1, Sp d mX8_perform [.ref 8, .ref (x + 1), .int (nI k)] h (some (.int (plS tf t k a).1)) h1 ∧ CZ h1 (plS tf t k a).2 tf ∧ FZ h h1 := by
  have vv := hx.2.2.1.2.2.2 k 1 hc hs (by omega)
  have j4 := (jy_plS (t := t) (k := k) hj).1.1.2.2.2.2.1
  have eq : plS tf t k a = (1, a) := by
    unfold plS
    rw [if_neg (by rw [hs]; decide), if_neg (by rw [hs]; decide), if_neg (by rw [hs]; decide), if_neg (by rw [hs]; decide), if_neg (by rw [hs]; decide), if_neg (by rw [hs]; decide), if_neg (by rw [hs]; decide)]
  rw [eq]
  refine ⟨h, ?_, c1, FZ.rf⟩
  intro N S Q hN hS hQ
  refine z_aload_n dX8_perform_0 rfl rfl ?_
  refine z_iload_n dX8_perform_1 rfl rfl ?_
  refine z_iconst (v := 1) dX8_perform_2 (by decide) ?_
  refine y_callV (as := [_, _]) CX4_get LX8_143 IX4_get VX4_get ⟨rfl, Nat.le_of_ble_eq_true rfl⟩ dX8_perform_3 hx.2.2.1.2.1.1 rfl (Nat.le_of_ble_eq_true rfl) (Nat.le_of_ble_eq_true rfl) (by omega) (s_get (k := x + 1) (w := 6) (ms := 24) (i := k) (j := 1) hx.2.2.1.2.1 hx.2.2.1.2.2.1 hc (by omega)) rok_i ⟨Nat.le_refl _, Nat.le_refl _, hN, hS⟩ ?_
  refine z_istore_n dX8_perform_6 rfl (Nat.le_of_ble_eq_true rfl) ?_
  refine z_aload_n dX8_perform_7 rfl rfl ?_
  refine z_iload_n dX8_perform_8 rfl rfl ?_
  refine z_iconst (v := 2) dX8_perform_9 (by decide) ?_
  refine y_callV (as := [_, _]) CX4_get LX8_143 IX4_get VX4_get ⟨rfl, Nat.le_of_ble_eq_true rfl⟩ dX8_perform_10 hx.2.2.1.2.1.1 rfl (Nat.le_of_ble_eq_true rfl) (Nat.le_of_ble_eq_true rfl) (by omega) (s_get (k := x + 1) (w := 6) (ms := 24) (i := k) (j := 2) hx.2.2.1.2.1 hx.2.2.1.2.2.1 hc (by omega)) rok_i ⟨Nat.le_refl _, Nat.le_refl _, hN, hS⟩ ?_
  refine z_istore dX8_perform_13 (Nat.le_of_ble_eq_true rfl) ?_
  refine z_aload_n dX8_perform_15 rfl rfl ?_
  refine z_iload_n dX8_perform_16 rfl rfl ?_
  refine z_iconst (v := 3) dX8_perform_17 (by decide) ?_
  refine y_callV (as := [_, _]) CX4_get LX8_143 IX4_get VX4_get ⟨rfl, Nat.le_of_ble_eq_true rfl⟩ dX8_perform_18 hx.2.2.1.2.1.1 rfl (Nat.le_of_ble_eq_true rfl) (Nat.le_of_ble_eq_true rfl) (by omega) (s_get (k := x + 1) (w := 6) (ms := 24) (i := k) (j := 3) hx.2.2.1.2.1 hx.2.2.1.2.2.1 hc (by omega)) rok_i ⟨Nat.le_refl _, Nat.le_refl _, hN, hS⟩ ?_
  refine z_istore dX8_perform_21 (Nat.le_of_ble_eq_true rfl) ?_
  refine z_aload_n dX8_perform_23 rfl rfl ?_
  refine z_iload_n dX8_perform_24 rfl rfl ?_
  refine z_iconst (v := 0) dX8_perform_25 (by decide) ?_
  refine y_callV (as := [_, _]) CX4_get LX8_143 IX4_get VX4_get ⟨rfl, Nat.le_of_ble_eq_true rfl⟩ dX8_perform_26 hx.2.2.1.2.1.1 rfl (Nat.le_of_ble_eq_true rfl) (Nat.le_of_ble_eq_true rfl) (by omega) (s_get (k := x + 1) (w := 6) (ms := 24) (i := k) (j := 0) hx.2.2.1.2.1 hx.2.2.1.2.2.1 hc (by omega)) rok_i ⟨Nat.le_refl _, Nat.le_refl _, hN, hS⟩ ?_
  refine z_eqi vv.1 ?_
  refine z_tableOut (tgt := 168) dX8_perform_29 (by decide) rfl ?_
  refine z_iconst (v := 1) dX8_perform_168 (by decide) ?_
  refine z_iret dX8_perform_169 ?_
  exact hQ

theorem c_perform_2 {h : Hp} {a : Fl} {tf : Nat → Int32} {d t k x : Nat} (c1 : CZ h a tf) (hj : JY tf a) (hx : TXC h tf t x) (hc : k < cnt tf t) (hs : tf (753 * t + 1 + 6 * k) = nI 2) (hd : 5 ≤ d) : ∃ h1, Sp d mX8_perform [.ref 8, .ref (x + 1), .int (nI k)] h (some (.int (plS tf t k a).1)) h1 ∧ CZ h1 (plS tf t k a).2 tf ∧ FZ h h1 := by
  have vv := hx.2.2.1.2.2.2 k 2 hc hs (by omega)
  have j4 := (jy_plS (t := t) (k := k) hj).1.1.2.2.2.2.1
  have eq : plS tf t k a = (1, a) := by
    unfold plS
    rw [if_neg (by rw [hs]; decide), if_neg (by rw [hs]; decide), if_neg (by rw [hs]; decide), if_neg (by rw [hs]; decide), if_neg (by rw [hs]; decide), if_neg (by rw [hs]; decide), if_neg (by rw [hs]; decide)]
  rw [eq]
  refine ⟨h, ?_, c1, FZ.rf⟩
  intro N S Q hN hS hQ
  refine z_aload_n dX8_perform_0 rfl rfl ?_
  refine z_iload_n dX8_perform_1 rfl rfl ?_
  refine z_iconst (v := 1) dX8_perform_2 (by decide) ?_
  refine y_callV (as := [_, _]) CX4_get LX8_143 IX4_get VX4_get ⟨rfl, Nat.le_of_ble_eq_true rfl⟩ dX8_perform_3 hx.2.2.1.2.1.1 rfl (Nat.le_of_ble_eq_true rfl) (Nat.le_of_ble_eq_true rfl) (by omega) (s_get (k := x + 1) (w := 6) (ms := 24) (i := k) (j := 1) hx.2.2.1.2.1 hx.2.2.1.2.2.1 hc (by omega)) rok_i ⟨Nat.le_refl _, Nat.le_refl _, hN, hS⟩ ?_
  refine z_istore_n dX8_perform_6 rfl (Nat.le_of_ble_eq_true rfl) ?_
  refine z_aload_n dX8_perform_7 rfl rfl ?_
  refine z_iload_n dX8_perform_8 rfl rfl ?_
  refine z_iconst (v := 2) dX8_perform_9 (by decide) ?_
  refine y_callV (as := [_, _]) CX4_get LX8_143 IX4_get VX4_get ⟨rfl, Nat.le_of_ble_eq_true rfl⟩ dX8_perform_10 hx.2.2.1.2.1.1 rfl (Nat.le_of_ble_eq_true rfl) (Nat.le_of_ble_eq_true rfl) (by omega) (s_get (k := x + 1) (w := 6) (ms := 24) (i := k) (j := 2) hx.2.2.1.2.1 hx.2.2.1.2.2.1 hc (by omega)) rok_i ⟨Nat.le_refl _, Nat.le_refl _, hN, hS⟩ ?_
  refine z_istore dX8_perform_13 (Nat.le_of_ble_eq_true rfl) ?_
  refine z_aload_n dX8_perform_15 rfl rfl ?_
  refine z_iload_n dX8_perform_16 rfl rfl ?_
  refine z_iconst (v := 3) dX8_perform_17 (by decide) ?_
  refine y_callV (as := [_, _]) CX4_get LX8_143 IX4_get VX4_get ⟨rfl, Nat.le_of_ble_eq_true rfl⟩ dX8_perform_18 hx.2.2.1.2.1.1 rfl (Nat.le_of_ble_eq_true rfl) (Nat.le_of_ble_eq_true rfl) (by omega) (s_get (k := x + 1) (w := 6) (ms := 24) (i := k) (j := 3) hx.2.2.1.2.1 hx.2.2.1.2.2.1 hc (by omega)) rok_i ⟨Nat.le_refl _, Nat.le_refl _, hN, hS⟩ ?_
  refine z_istore dX8_perform_21 (Nat.le_of_ble_eq_true rfl) ?_
  refine z_aload_n dX8_perform_23 rfl rfl ?_
  refine z_iload_n dX8_perform_24 rfl rfl ?_
  refine z_iconst (v := 0) dX8_perform_25 (by decide) ?_
  refine y_callV (as := [_, _]) CX4_get LX8_143 IX4_get VX4_get ⟨rfl, Nat.le_of_ble_eq_true rfl⟩ dX8_perform_26 hx.2.2.1.2.1.1 rfl (Nat.le_of_ble_eq_true rfl) (Nat.le_of_ble_eq_true rfl) (by omega) (s_get (k := x + 1) (w := 6) (ms := 24) (i := k) (j := 0) hx.2.2.1.2.1 hx.2.2.1.2.2.1 hc (by omega)) rok_i ⟨Nat.le_refl _, Nat.le_refl _, hN, hS⟩ ?_
  refine z_eqi vv.1 ?_
  refine z_tableOut (tgt := 168) dX8_perform_29 (by decide) rfl ?_
  refine z_iconst (v := 1) dX8_perform_168 (by decide) ?_
  refine z_iret dX8_perform_169 ?_
  exact hQ

theorem c_perform_3 {h : Hp} {a : Fl} {tf : Nat → Int32} {d t k x : Nat} (c1 : CZ h a tf) (hj : JY tf a) (hx : TXC h tf t x) (hc : k < cnt tf t) (hs : tf (753 * t + 1 + 6 * k) = nI 3) (hd : 5 ≤ d) : ∃ h1, Sp d mX8_perform [.ref 8, .ref (x + 1), .int (nI k)] h (some (.int (plS tf t k a).1)) h1 ∧ CZ h1 (plS tf t k a).2 tf ∧ FZ h h1 := by
  have vv := hx.2.2.1.2.2.2 k 3 hc hs (by omega)
  have j4 := (jy_plS (t := t) (k := k) hj).1.1.2.2.2.2.1
  have eq : plS tf t k a = (bI (¬ (mFact a (tf (753 * t + 1 + 6 * k + 1)) (tf (753 * t + 1 + 6 * k + 2))).1 = -1), (mFact a (tf (753 * t + 1 + 6 * k + 1)) (tf (753 * t + 1 + 6 * k + 2))).2) := by
    unfold plS
    rw [if_pos hs]
  rw [eq] at j4 ⊢
  obtain ⟨g, f1, f2, f3⟩ := C_fact (d := 4) c1.1.1 c1.1.2.1 c1.1.2.2.2.2.1 c1.2 hj.1.1 (tf (753 * t + 1 + 6 * k + 1)) (tf (753 * t + 1 + 6 * k + 2)) (by omega)
  have f3 : FR 9 236 h g := f3
  refine ⟨g, ?_, c1.of f3 f2 j4, f3.z⟩
  intro N S Q hN hS hQ
  have hN : pn h ≤ N := by rw [← f3.1.n]; exact hN
  have hS : ps h ≤ S := by rw [← f3.1.s]; exact hS
  by_cases hq : (mFact a (tf (753 * t + 1 + 6 * k + 1)) (tf (753 * t + 1 + 6 * k + 2))).1 = -1
  · rw [bI_f (fun q => q hq)] at hQ
    refine z_aload_n dX8_perform_0 rfl rfl ?_
    refine z_iload_n dX8_perform_1 rfl rfl ?_
    refine z_iconst (v := 1) dX8_perform_2 (by decide) ?_
    refine y_callV (as := [_, _]) CX4_get LX8_143 IX4_get VX4_get ⟨rfl, Nat.le_of_ble_eq_true rfl⟩ dX8_perform_3 hx.2.2.1.2.1.1 rfl (Nat.le_of_ble_eq_true rfl) (Nat.le_of_ble_eq_true rfl) (by omega) (s_get (k := x + 1) (w := 6) (ms := 24) (i := k) (j := 1) hx.2.2.1.2.1 hx.2.2.1.2.2.1 hc (by omega)) rok_i ⟨Nat.le_refl _, Nat.le_refl _, hN, hS⟩ ?_
    refine z_eqi (vv.2 1 (by omega) (by decide)) ?_
    refine z_istore_n dX8_perform_6 rfl (Nat.le_of_ble_eq_true rfl) ?_
    refine z_aload_n dX8_perform_7 rfl rfl ?_
    refine z_iload_n dX8_perform_8 rfl rfl ?_
    refine z_iconst (v := 2) dX8_perform_9 (by decide) ?_
    refine y_callV (as := [_, _]) CX4_get LX8_143 IX4_get VX4_get ⟨rfl, Nat.le_of_ble_eq_true rfl⟩ dX8_perform_10 hx.2.2.1.2.1.1 rfl (Nat.le_of_ble_eq_true rfl) (Nat.le_of_ble_eq_true rfl) (by omega) (s_get (k := x + 1) (w := 6) (ms := 24) (i := k) (j := 2) hx.2.2.1.2.1 hx.2.2.1.2.2.1 hc (by omega)) rok_i ⟨Nat.le_refl _, Nat.le_refl _, hN, hS⟩ ?_
    refine z_eqi (vv.2 2 (by omega) (by decide)) ?_
    refine z_istore dX8_perform_13 (Nat.le_of_ble_eq_true rfl) ?_
    refine z_aload_n dX8_perform_15 rfl rfl ?_
    refine z_iload_n dX8_perform_16 rfl rfl ?_
    refine z_iconst (v := 3) dX8_perform_17 (by decide) ?_
    refine y_callV (as := [_, _]) CX4_get LX8_143 IX4_get VX4_get ⟨rfl, Nat.le_of_ble_eq_true rfl⟩ dX8_perform_18 hx.2.2.1.2.1.1 rfl (Nat.le_of_ble_eq_true rfl) (Nat.le_of_ble_eq_true rfl) (by omega) (s_get (k := x + 1) (w := 6) (ms := 24) (i := k) (j := 3) hx.2.2.1.2.1 hx.2.2.1.2.2.1 hc (by omega)) rok_i ⟨Nat.le_refl _, Nat.le_refl _, hN, hS⟩ ?_
    refine z_istore dX8_perform_21 (Nat.le_of_ble_eq_true rfl) ?_
    refine z_aload_n dX8_perform_23 rfl rfl ?_
    refine z_iload_n dX8_perform_24 rfl rfl ?_
    refine z_iconst (v := 0) dX8_perform_25 (by decide) ?_
    refine y_callV (as := [_, _]) CX4_get LX8_143 IX4_get VX4_get ⟨rfl, Nat.le_of_ble_eq_true rfl⟩ dX8_perform_26 hx.2.2.1.2.1.1 rfl (Nat.le_of_ble_eq_true rfl) (Nat.le_of_ble_eq_true rfl) (by omega) (s_get (k := x + 1) (w := 6) (ms := 24) (i := k) (j := 0) hx.2.2.1.2.1 hx.2.2.1.2.2.1 hc (by omega)) rok_i ⟨Nat.le_refl _, Nat.le_refl _, hN, hS⟩ ?_
    refine z_eqi vv.1 ?_
    refine z_tableIn (off := 39) (tgt := 68) dX8_perform_29 (by decide) (by decide) rfl rfl ?_
    refine z_aload_n dX8_perform_68 rfl rfl ?_
    refine z_iload_n dX8_perform_69 rfl rfl ?_
    refine z_iload dX8_perform_70 rfl ?_
    refine y_callV (as := [_, _]) CX8_fact LX8_229 IX8_fact VX8_fact ⟨rfl, Nat.le_of_ble_eq_true rfl⟩ dX8_perform_72 c1.1.1 rfl (Nat.le_of_ble_eq_true rfl) (Nat.le_of_ble_eq_true rfl) (by omega) f1 rok_i (hg_ss f3.1 hN hS) ?_
    refine z_iconst (v := -1) dX8_perform_75 (by decide) ?_
    refine z_icmp_eq dX8_perform_76 rfl (fun _ => ?_) (fun c => absurd (hq) c)
    refine z_iconst (v := 0) dX8_perform_83 (by decide) ?_
    refine z_iret dX8_perform_84 ?_
    exact hQ
  · rw [bI_t hq] at hQ
    refine z_aload_n dX8_perform_0 rfl rfl ?_
    refine z_iload_n dX8_perform_1 rfl rfl ?_
    refine z_iconst (v := 1) dX8_perform_2 (by decide) ?_
    refine y_callV (as := [_, _]) CX4_get LX8_143 IX4_get VX4_get ⟨rfl, Nat.le_of_ble_eq_true rfl⟩ dX8_perform_3 hx.2.2.1.2.1.1 rfl (Nat.le_of_ble_eq_true rfl) (Nat.le_of_ble_eq_true rfl) (by omega) (s_get (k := x + 1) (w := 6) (ms := 24) (i := k) (j := 1) hx.2.2.1.2.1 hx.2.2.1.2.2.1 hc (by omega)) rok_i ⟨Nat.le_refl _, Nat.le_refl _, hN, hS⟩ ?_
    refine z_eqi (vv.2 1 (by omega) (by decide)) ?_
    refine z_istore_n dX8_perform_6 rfl (Nat.le_of_ble_eq_true rfl) ?_
    refine z_aload_n dX8_perform_7 rfl rfl ?_
    refine z_iload_n dX8_perform_8 rfl rfl ?_
    refine z_iconst (v := 2) dX8_perform_9 (by decide) ?_
    refine y_callV (as := [_, _]) CX4_get LX8_143 IX4_get VX4_get ⟨rfl, Nat.le_of_ble_eq_true rfl⟩ dX8_perform_10 hx.2.2.1.2.1.1 rfl (Nat.le_of_ble_eq_true rfl) (Nat.le_of_ble_eq_true rfl) (by omega) (s_get (k := x + 1) (w := 6) (ms := 24) (i := k) (j := 2) hx.2.2.1.2.1 hx.2.2.1.2.2.1 hc (by omega)) rok_i ⟨Nat.le_refl _, Nat.le_refl _, hN, hS⟩ ?_
    refine z_eqi (vv.2 2 (by omega) (by decide)) ?_
    refine z_istore dX8_perform_13 (Nat.le_of_ble_eq_true rfl) ?_
    refine z_aload_n dX8_perform_15 rfl rfl ?_
    refine z_iload_n dX8_perform_16 rfl rfl ?_
    refine z_iconst (v := 3) dX8_perform_17 (by decide) ?_
    refine y_callV (as := [_, _]) CX4_get LX8_143 IX4_get VX4_get ⟨rfl, Nat.le_of_ble_eq_true rfl⟩ dX8_perform_18 hx.2.2.1.2.1.1 rfl (Nat.le_of_ble_eq_true rfl) (Nat.le_of_ble_eq_true rfl) (by omega) (s_get (k := x + 1) (w := 6) (ms := 24) (i := k) (j := 3) hx.2.2.1.2.1 hx.2.2.1.2.2.1 hc (by omega)) rok_i ⟨Nat.le_refl _, Nat.le_refl _, hN, hS⟩ ?_
    refine z_istore dX8_perform_21 (Nat.le_of_ble_eq_true rfl) ?_
    refine z_aload_n dX8_perform_23 rfl rfl ?_
    refine z_iload_n dX8_perform_24 rfl rfl ?_
    refine z_iconst (v := 0) dX8_perform_25 (by decide) ?_
    refine y_callV (as := [_, _]) CX4_get LX8_143 IX4_get VX4_get ⟨rfl, Nat.le_of_ble_eq_true rfl⟩ dX8_perform_26 hx.2.2.1.2.1.1 rfl (Nat.le_of_ble_eq_true rfl) (Nat.le_of_ble_eq_true rfl) (by omega) (s_get (k := x + 1) (w := 6) (ms := 24) (i := k) (j := 0) hx.2.2.1.2.1 hx.2.2.1.2.2.1 hc (by omega)) rok_i ⟨Nat.le_refl _, Nat.le_refl _, hN, hS⟩ ?_
    refine z_eqi vv.1 ?_
    refine z_tableIn (off := 39) (tgt := 68) dX8_perform_29 (by decide) (by decide) rfl rfl ?_
    refine z_aload_n dX8_perform_68 rfl rfl ?_
    refine z_iload_n dX8_perform_69 rfl rfl ?_
    refine z_iload dX8_perform_70 rfl ?_
    refine y_callV (as := [_, _]) CX8_fact LX8_229 IX8_fact VX8_fact ⟨rfl, Nat.le_of_ble_eq_true rfl⟩ dX8_perform_72 c1.1.1 rfl (Nat.le_of_ble_eq_true rfl) (Nat.le_of_ble_eq_true rfl) (by omega) f1 rok_i (hg_ss f3.1 hN hS) ?_
    refine z_iconst (v := -1) dX8_perform_75 (by decide) ?_
    refine z_icmp_eq dX8_perform_76 rfl (fun c => absurd c (hq)) (fun _ => ?_)
    refine z_iconst (v := 1) dX8_perform_79 (by decide) ?_
    refine z_goto dX8_perform_80 rfl ?_
    refine z_iret dX8_perform_84 ?_
    exact hQ

theorem c_perform_4 {h : Hp} {a : Fl} {tf : Nat → Int32} {d t k x : Nat} (c1 : CZ h a tf) (hj : JY tf a) (hx : TXC h tf t x) (hc : k < cnt tf t) (hs : tf (753 * t + 1 + 6 * k) = nI 4) (hd : 5 ≤ d) : ∃ h1, Sp d mX8_perform [.ref 8, .ref (x + 1), .int (nI k)] h (some (.int (plS tf t k a).1)) h1 ∧ CZ h1 (plS tf t k a).2 tf ∧ FZ h h1 := by
  have vv := hx.2.2.1.2.2.2 k 4 hc hs (by omega)
  have j4 := (jy_plS (t := t) (k := k) hj).1.1.2.2.2.2.1
  have eq : plS tf t k a = (bI (¬ (mProphet a (tf (753 * t + 1 + 6 * k + 1)) (tf (753 * t + 1 + 6 * k + 2))).1 = -1), (mProphet a (tf (753 * t + 1 + 6 * k + 1)) (tf (753 * t + 1 + 6 * k + 2))).2) := by
    unfold plS
    rw [if_neg (by rw [hs]; decide), if_pos hs]
  rw [eq] at j4 ⊢
  obtain ⟨g, f1, f2, f3⟩ := C_prophet (d := 4) c1.1.1 c1.1.2.1 c1.1.2.2.2.2.1 c1.2 hj.1.1 (tf (753 * t + 1 + 6 * k + 1)) (tf (753 * t + 1 + 6 * k + 2)) (by omega)
  have f3 : FR 9 236 h g := f3
  refine ⟨g, ?_, c1.of f3 f2 j4, f3.z⟩
  intro N S Q hN hS hQ
  have hN : pn h ≤ N := by rw [← f3.1.n]; exact hN
  have hS : ps h ≤ S := by rw [← f3.1.s]; exact hS
  by_cases hq : (mProphet a (tf (753 * t + 1 + 6 * k + 1)) (tf (753 * t + 1 + 6 * k + 2))).1 = -1
  · rw [bI_f (fun q => q hq)] at hQ
    refine z_aload_n dX8_perform_0 rfl rfl ?_
    refine z_iload_n dX8_perform_1 rfl rfl ?_
    refine z_iconst (v := 1) dX8_perform_2 (by decide) ?_
    refine y_callV (as := [_, _]) CX4_get LX8_143 IX4_get VX4_get ⟨rfl, Nat.le_of_ble_eq_true rfl⟩ dX8_perform_3 hx.2.2.1.2.1.1 rfl (Nat.le_of_ble_eq_true rfl) (Nat.le_of_ble_eq_true rfl) (by omega) (s_get (k := x + 1) (w := 6) (ms := 24) (i := k) (j := 1) hx.2.2.1.2.1 hx.2.2.1.2.2.1 hc (by omega)) rok_i ⟨Nat.le_refl _, Nat.le_refl _, hN, hS⟩ ?_
    refine z_eqi (vv.2 1 (by omega) (by decide)) ?_
    refine z_istore_n dX8_perform_6 rfl (Nat.le_of_ble_eq_true rfl) ?_
    refine z_aload_n dX8_perform_7 rfl rfl ?_
    refine z_iload_n dX8_perform_8 rfl rfl ?_
    refine z_iconst (v := 2) dX8_perform_9 (by decide) ?_
    refine y_callV (as := [_, _]) CX4_get LX8_143 IX4_get VX4_get ⟨rfl, Nat.le_of_ble_eq_true rfl⟩ dX8_perform_10 hx.2.2.1.2.1.1 rfl (Nat.le_of_ble_eq_true rfl) (Nat.le_of_ble_eq_true rfl) (by omega) (s_get (k := x + 1) (w := 6) (ms := 24) (i := k) (j := 2) hx.2.2.1.2.1 hx.2.2.1.2.2.1 hc (by omega)) rok_i ⟨Nat.le_refl _, Nat.le_refl _, hN, hS⟩ ?_
    refine z_eqi (vv.2 2 (by omega) (by decide)) ?_
    refine z_istore dX8_perform_13 (Nat.le_of_ble_eq_true rfl) ?_
    refine z_aload_n dX8_perform_15 rfl rfl ?_
    refine z_iload_n dX8_perform_16 rfl rfl ?_
    refine z_iconst (v := 3) dX8_perform_17 (by decide) ?_
    refine y_callV (as := [_, _]) CX4_get LX8_143 IX4_get VX4_get ⟨rfl, Nat.le_of_ble_eq_true rfl⟩ dX8_perform_18 hx.2.2.1.2.1.1 rfl (Nat.le_of_ble_eq_true rfl) (Nat.le_of_ble_eq_true rfl) (by omega) (s_get (k := x + 1) (w := 6) (ms := 24) (i := k) (j := 3) hx.2.2.1.2.1 hx.2.2.1.2.2.1 hc (by omega)) rok_i ⟨Nat.le_refl _, Nat.le_refl _, hN, hS⟩ ?_
    refine z_istore dX8_perform_21 (Nat.le_of_ble_eq_true rfl) ?_
    refine z_aload_n dX8_perform_23 rfl rfl ?_
    refine z_iload_n dX8_perform_24 rfl rfl ?_
    refine z_iconst (v := 0) dX8_perform_25 (by decide) ?_
    refine y_callV (as := [_, _]) CX4_get LX8_143 IX4_get VX4_get ⟨rfl, Nat.le_of_ble_eq_true rfl⟩ dX8_perform_26 hx.2.2.1.2.1.1 rfl (Nat.le_of_ble_eq_true rfl) (Nat.le_of_ble_eq_true rfl) (by omega) (s_get (k := x + 1) (w := 6) (ms := 24) (i := k) (j := 0) hx.2.2.1.2.1 hx.2.2.1.2.2.1 hc (by omega)) rok_i ⟨Nat.le_refl _, Nat.le_refl _, hN, hS⟩ ?_
    refine z_eqi vv.1 ?_
    refine z_tableIn (off := 56) (tgt := 85) dX8_perform_29 (by decide) (by decide) rfl rfl ?_
    refine z_aload_n dX8_perform_85 rfl rfl ?_
    refine z_iload_n dX8_perform_86 rfl rfl ?_
    refine z_iload dX8_perform_87 rfl ?_
    refine y_callV (as := [_, _]) CX8_prophet LX8_232 IX8_prophet VX8_prophet ⟨rfl, Nat.le_of_ble_eq_true rfl⟩ dX8_perform_89 c1.1.1 rfl (Nat.le_of_ble_eq_true rfl) (Nat.le_of_ble_eq_true rfl) (by omega) f1 rok_i (hg_ss f3.1 hN hS) ?_
    refine z_iconst (v := -1) dX8_perform_92 (by decide) ?_
    refine z_icmp_eq dX8_perform_93 rfl (fun _ => ?_) (fun c => absurd (hq) c)
    refine z_iconst (v := 0) dX8_perform_100 (by decide) ?_
    refine z_iret dX8_perform_101 ?_
    exact hQ
  · rw [bI_t hq] at hQ
    refine z_aload_n dX8_perform_0 rfl rfl ?_
    refine z_iload_n dX8_perform_1 rfl rfl ?_
    refine z_iconst (v := 1) dX8_perform_2 (by decide) ?_
    refine y_callV (as := [_, _]) CX4_get LX8_143 IX4_get VX4_get ⟨rfl, Nat.le_of_ble_eq_true rfl⟩ dX8_perform_3 hx.2.2.1.2.1.1 rfl (Nat.le_of_ble_eq_true rfl) (Nat.le_of_ble_eq_true rfl) (by omega) (s_get (k := x + 1) (w := 6) (ms := 24) (i := k) (j := 1) hx.2.2.1.2.1 hx.2.2.1.2.2.1 hc (by omega)) rok_i ⟨Nat.le_refl _, Nat.le_refl _, hN, hS⟩ ?_
    refine z_eqi (vv.2 1 (by omega) (by decide)) ?_
    refine z_istore_n dX8_perform_6 rfl (Nat.le_of_ble_eq_true rfl) ?_
    refine z_aload_n dX8_perform_7 rfl rfl ?_
    refine z_iload_n dX8_perform_8 rfl rfl ?_
    refine z_iconst (v := 2) dX8_perform_9 (by decide) ?_
    refine y_callV (as := [_, _]) CX4_get LX8_143 IX4_get VX4_get ⟨rfl, Nat.le_of_ble_eq_true rfl⟩ dX8_perform_10 hx.2.2.1.2.1.1 rfl (Nat.le_of_ble_eq_true rfl) (Nat.le_of_ble_eq_true rfl) (by omega) (s_get (k := x + 1) (w := 6) (ms := 24) (i := k) (j := 2) hx.2.2.1.2.1 hx.2.2.1.2.2.1 hc (by omega)) rok_i ⟨Nat.le_refl _, Nat.le_refl _, hN, hS⟩ ?_
    refine z_eqi (vv.2 2 (by omega) (by decide)) ?_
    refine z_istore dX8_perform_13 (Nat.le_of_ble_eq_true rfl) ?_
    refine z_aload_n dX8_perform_15 rfl rfl ?_
    refine z_iload_n dX8_perform_16 rfl rfl ?_
    refine z_iconst (v := 3) dX8_perform_17 (by decide) ?_
    refine y_callV (as := [_, _]) CX4_get LX8_143 IX4_get VX4_get ⟨rfl, Nat.le_of_ble_eq_true rfl⟩ dX8_perform_18 hx.2.2.1.2.1.1 rfl (Nat.le_of_ble_eq_true rfl) (Nat.le_of_ble_eq_true rfl) (by omega) (s_get (k := x + 1) (w := 6) (ms := 24) (i := k) (j := 3) hx.2.2.1.2.1 hx.2.2.1.2.2.1 hc (by omega)) rok_i ⟨Nat.le_refl _, Nat.le_refl _, hN, hS⟩ ?_
    refine z_istore dX8_perform_21 (Nat.le_of_ble_eq_true rfl) ?_
    refine z_aload_n dX8_perform_23 rfl rfl ?_
    refine z_iload_n dX8_perform_24 rfl rfl ?_
    refine z_iconst (v := 0) dX8_perform_25 (by decide) ?_
    refine y_callV (as := [_, _]) CX4_get LX8_143 IX4_get VX4_get ⟨rfl, Nat.le_of_ble_eq_true rfl⟩ dX8_perform_26 hx.2.2.1.2.1.1 rfl (Nat.le_of_ble_eq_true rfl) (Nat.le_of_ble_eq_true rfl) (by omega) (s_get (k := x + 1) (w := 6) (ms := 24) (i := k) (j := 0) hx.2.2.1.2.1 hx.2.2.1.2.2.1 hc (by omega)) rok_i ⟨Nat.le_refl _, Nat.le_refl _, hN, hS⟩ ?_
    refine z_eqi vv.1 ?_
    refine z_tableIn (off := 56) (tgt := 85) dX8_perform_29 (by decide) (by decide) rfl rfl ?_
    refine z_aload_n dX8_perform_85 rfl rfl ?_
    refine z_iload_n dX8_perform_86 rfl rfl ?_
    refine z_iload dX8_perform_87 rfl ?_
    refine y_callV (as := [_, _]) CX8_prophet LX8_232 IX8_prophet VX8_prophet ⟨rfl, Nat.le_of_ble_eq_true rfl⟩ dX8_perform_89 c1.1.1 rfl (Nat.le_of_ble_eq_true rfl) (Nat.le_of_ble_eq_true rfl) (by omega) f1 rok_i (hg_ss f3.1 hN hS) ?_
    refine z_iconst (v := -1) dX8_perform_92 (by decide) ?_
    refine z_icmp_eq dX8_perform_93 rfl (fun c => absurd c (hq)) (fun _ => ?_)
    refine z_iconst (v := 1) dX8_perform_96 (by decide) ?_
    refine z_goto dX8_perform_97 rfl ?_
    refine z_iret dX8_perform_101 ?_
    exact hQ

theorem c_perform_5 {h : Hp} {a : Fl} {tf : Nat → Int32} {d t k x : Nat} (c1 : CZ h a tf) (hj : JY tf a) (hx : TXC h tf t x) (hc : k < cnt tf t) (hs : tf (753 * t + 1 + 6 * k) = nI 5) (hd : 5 ≤ d) : ∃ h1, Sp d mX8_perform [.ref 8, .ref (x + 1), .int (nI k)] h (some (.int (plS tf t k a).1)) h1 ∧ CZ h1 (plS tf t k a).2 tf ∧ FZ h h1 := by
  have vv := hx.2.2.1.2.2.2 k 5 hc hs (by omega)
  have j4 := (jy_plS (t := t) (k := k) hj).1.1.2.2.2.2.1
  by_cases hw : tf (753 * t + 1 + 6 * k + 2) = 1
  · skip
    have eq : plS tf t k a = (bI (¬ (mForetell a (tf (753 * t + 1 + 6 * k + 1)) 1 (tf (753 * t + 1 + 6 * k + 3)) (tf (753 * t + 1 + 6 * k + 4)) (tf (753 * t + 1 + 6 * k + 5))).1 = -1), (mForetell a (tf (753 * t + 1 + 6 * k + 1)) 1 (tf (753 * t + 1 + 6 * k + 3)) (tf (753 * t + 1 + 6 * k + 4)) (tf (753 * t + 1 + 6 * k + 5))).2) := by
      unfold plS
      rw [if_neg (by rw [hs]; decide), if_neg (by rw [hs]; decide), if_pos hs, if_pos hw]
    rw [eq] at j4 ⊢
    obtain ⟨g, f1, f2, f3⟩ := C_foretell (d := 4) c1.1.1 c1.1.2.1 c1.1.2.2.2.2.1 c1.2 hj.1.1 hj.ip (tf (753 * t + 1 + 6 * k + 1)) (al := 1) (by omega) (tf (753 * t + 1 + 6 * k + 3)) (tf (753 * t + 1 + 6 * k + 4)) (tf (753 * t + 1 + 6 * k + 5)) (by omega)
    have f3 : FR 9 236 h g := f3
    refine ⟨g, ?_, c1.of f3 f2 j4, f3.z⟩
    intro N S Q hN hS hQ
    have hN : pn h ≤ N := by rw [← f3.1.n]; exact hN
    have hS : ps h ≤ S := by rw [← f3.1.s]; exact hS
    by_cases hq : (mForetell a (tf (753 * t + 1 + 6 * k + 1)) 1 (tf (753 * t + 1 + 6 * k + 3)) (tf (753 * t + 1 + 6 * k + 4)) (tf (753 * t + 1 + 6 * k + 5))).1 = -1
    · rw [bI_f (fun q => q hq)] at hQ
      refine z_aload_n dX8_perform_0 rfl rfl ?_
      refine z_iload_n dX8_perform_1 rfl rfl ?_
      refine z_iconst (v := 1) dX8_perform_2 (by decide) ?_
      refine y_callV (as := [_, _]) CX4_get LX8_143 IX4_get VX4_get ⟨rfl, Nat.le_of_ble_eq_true rfl⟩ dX8_perform_3 hx.2.2.1.2.1.1 rfl (Nat.le_of_ble_eq_true rfl) (Nat.le_of_ble_eq_true rfl) (by omega) (s_get (k := x + 1) (w := 6) (ms := 24) (i := k) (j := 1) hx.2.2.1.2.1 hx.2.2.1.2.2.1 hc (by omega)) rok_i ⟨Nat.le_refl _, Nat.le_refl _, hN, hS⟩ ?_
      refine z_eqi (vv.2 1 (by omega) (by decide)) ?_
      refine z_istore_n dX8_perform_6 rfl (Nat.le_of_ble_eq_true rfl) ?_
      refine z_aload_n dX8_perform_7 rfl rfl ?_
      refine z_iload_n dX8_perform_8 rfl rfl ?_
      refine z_iconst (v := 2) dX8_perform_9 (by decide) ?_
      refine y_callV (as := [_, _]) CX4_get LX8_143 IX4_get VX4_get ⟨rfl, Nat.le_of_ble_eq_true rfl⟩ dX8_perform_10 hx.2.2.1.2.1.1 rfl (Nat.le_of_ble_eq_true rfl) (Nat.le_of_ble_eq_true rfl) (by omega) (s_get (k := x + 1) (w := 6) (ms := 24) (i := k) (j := 2) hx.2.2.1.2.1 hx.2.2.1.2.2.1 hc (by omega)) rok_i ⟨Nat.le_refl _, Nat.le_refl _, hN, hS⟩ ?_
      refine z_eqi (vv.2 2 (by omega) (by decide)) ?_
      refine z_istore dX8_perform_13 (Nat.le_of_ble_eq_true rfl) ?_
      refine z_aload_n dX8_perform_15 rfl rfl ?_
      refine z_iload_n dX8_perform_16 rfl rfl ?_
      refine z_iconst (v := 3) dX8_perform_17 (by decide) ?_
      refine y_callV (as := [_, _]) CX4_get LX8_143 IX4_get VX4_get ⟨rfl, Nat.le_of_ble_eq_true rfl⟩ dX8_perform_18 hx.2.2.1.2.1.1 rfl (Nat.le_of_ble_eq_true rfl) (Nat.le_of_ble_eq_true rfl) (by omega) (s_get (k := x + 1) (w := 6) (ms := 24) (i := k) (j := 3) hx.2.2.1.2.1 hx.2.2.1.2.2.1 hc (by omega)) rok_i ⟨Nat.le_refl _, Nat.le_refl _, hN, hS⟩ ?_
      refine z_eqi (vv.2 3 (by omega) (by decide)) ?_
      refine z_istore dX8_perform_21 (Nat.le_of_ble_eq_true rfl) ?_
      refine z_aload_n dX8_perform_23 rfl rfl ?_
      refine z_iload_n dX8_perform_24 rfl rfl ?_
      refine z_iconst (v := 0) dX8_perform_25 (by decide) ?_
      refine y_callV (as := [_, _]) CX4_get LX8_143 IX4_get VX4_get ⟨rfl, Nat.le_of_ble_eq_true rfl⟩ dX8_perform_26 hx.2.2.1.2.1.1 rfl (Nat.le_of_ble_eq_true rfl) (Nat.le_of_ble_eq_true rfl) (by omega) (s_get (k := x + 1) (w := 6) (ms := 24) (i := k) (j := 0) hx.2.2.1.2.1 hx.2.2.1.2.2.1 hc (by omega)) rok_i ⟨Nat.le_refl _, Nat.le_refl _, hN, hS⟩ ?_
      refine z_eqi vv.1 ?_
      refine z_tableIn (off := 73) (tgt := 102) dX8_perform_29 (by decide) (by decide) rfl rfl ?_
      refine z_aload_n dX8_perform_102 rfl rfl ?_
      refine z_iload_n dX8_perform_103 rfl rfl ?_
      refine z_iload dX8_perform_104 rfl ?_
      refine z_iconst (v := 1) dX8_perform_106 (by decide) ?_
      refine z_icmp_ne dX8_perform_107 rfl (fun c => absurd (hw) c) (fun _ => ?_)
      refine z_iconst (v := 1) dX8_perform_110 (by decide) ?_
      refine z_goto dX8_perform_111 rfl ?_
      refine z_iload dX8_perform_115 rfl ?_
      refine z_aload_n dX8_perform_117 rfl rfl ?_
      refine z_iload_n dX8_perform_118 rfl rfl ?_
      refine z_iconst (v := 4) dX8_perform_119 (by decide) ?_
      refine y_callV (as := [_, _]) CX4_get LX8_143 IX4_get VX4_get ⟨rfl, Nat.le_of_ble_eq_true rfl⟩ dX8_perform_120 hx.2.2.1.2.1.1 rfl (Nat.le_of_ble_eq_true rfl) (Nat.le_of_ble_eq_true rfl) (by omega) (s_get (k := x + 1) (w := 6) (ms := 24) (i := k) (j := 4) hx.2.2.1.2.1 hx.2.2.1.2.2.1 hc (by omega)) rok_i ⟨Nat.le_refl _, Nat.le_refl _, hN, hS⟩ ?_
      refine z_eqi (vv.2 4 (by omega) (by decide)) ?_
      refine z_aload_n dX8_perform_123 rfl rfl ?_
      refine z_iload_n dX8_perform_124 rfl rfl ?_
      refine z_iconst (v := 5) dX8_perform_125 (by decide) ?_
      refine y_callV (as := [_, _]) CX4_get LX8_143 IX4_get VX4_get ⟨rfl, Nat.le_of_ble_eq_true rfl⟩ dX8_perform_126 hx.2.2.1.2.1.1 rfl (Nat.le_of_ble_eq_true rfl) (Nat.le_of_ble_eq_true rfl) (by omega) (s_get (k := x + 1) (w := 6) (ms := 24) (i := k) (j := 5) hx.2.2.1.2.1 hx.2.2.1.2.2.1 hc (by omega)) rok_i ⟨Nat.le_refl _, Nat.le_refl _, hN, hS⟩ ?_
      refine z_eqi (vv.2 5 (by omega) (by decide)) ?_
      refine y_callV (as := [_, _, _, _, _]) CX8_foretell LX8_235 IX8_foretell VX8_foretell ⟨rfl, Nat.le_of_ble_eq_true rfl⟩ dX8_perform_129 c1.1.1 rfl (Nat.le_of_ble_eq_true rfl) (Nat.le_of_ble_eq_true rfl) (by omega) f1 rok_i (hg_ss f3.1 hN hS) ?_
      refine z_iconst (v := -1) dX8_perform_132 (by decide) ?_
      refine z_icmp_eq dX8_perform_133 rfl (fun _ => ?_) (fun c => absurd (hq) c)
      refine z_iconst (v := 0) dX8_perform_140 (by decide) ?_
      refine z_iret dX8_perform_141 ?_
      exact hQ
    · rw [bI_t hq] at hQ
      refine z_aload_n dX8_perform_0 rfl rfl ?_
      refine z_iload_n dX8_perform_1 rfl rfl ?_
      refine z_iconst (v := 1) dX8_perform_2 (by decide) ?_
      refine y_callV (as := [_, _]) CX4_get LX8_143 IX4_get VX4_get ⟨rfl, Nat.le_of_ble_eq_true rfl⟩ dX8_perform_3 hx.2.2.1.2.1.1 rfl (Nat.le_of_ble_eq_true rfl) (Nat.le_of_ble_eq_true rfl) (by omega) (s_get (k := x + 1) (w := 6) (ms := 24) (i := k) (j := 1) hx.2.2.1.2.1 hx.2.2.1.2.2.1 hc (by omega)) rok_i ⟨Nat.le_refl _, Nat.le_refl _, hN, hS⟩ ?_
      refine z_eqi (vv.2 1 (by omega) (by decide)) ?_
      refine z_istore_n dX8_perform_6 rfl (Nat.le_of_ble_eq_true rfl) ?_
      refine z_aload_n dX8_perform_7 rfl rfl ?_
      refine z_iload_n dX8_perform_8 rfl rfl ?_
      refine z_iconst (v := 2) dX8_perform_9 (by decide) ?_
      refine y_callV (as := [_, _]) CX4_get LX8_143 IX4_get VX4_get ⟨rfl, Nat.le_of_ble_eq_true rfl⟩ dX8_perform_10 hx.2.2.1.2.1.1 rfl (Nat.le_of_ble_eq_true rfl) (Nat.le_of_ble_eq_true rfl) (by omega) (s_get (k := x + 1) (w := 6) (ms := 24) (i := k) (j := 2) hx.2.2.1.2.1 hx.2.2.1.2.2.1 hc (by omega)) rok_i ⟨Nat.le_refl _, Nat.le_refl _, hN, hS⟩ ?_
      refine z_eqi (vv.2 2 (by omega) (by decide)) ?_
      refine z_istore dX8_perform_13 (Nat.le_of_ble_eq_true rfl) ?_
      refine z_aload_n dX8_perform_15 rfl rfl ?_
      refine z_iload_n dX8_perform_16 rfl rfl ?_
      refine z_iconst (v := 3) dX8_perform_17 (by decide) ?_
      refine y_callV (as := [_, _]) CX4_get LX8_143 IX4_get VX4_get ⟨rfl, Nat.le_of_ble_eq_true rfl⟩ dX8_perform_18 hx.2.2.1.2.1.1 rfl (Nat.le_of_ble_eq_true rfl) (Nat.le_of_ble_eq_true rfl) (by omega) (s_get (k := x + 1) (w := 6) (ms := 24) (i := k) (j := 3) hx.2.2.1.2.1 hx.2.2.1.2.2.1 hc (by omega)) rok_i ⟨Nat.le_refl _, Nat.le_refl _, hN, hS⟩ ?_
      refine z_eqi (vv.2 3 (by omega) (by decide)) ?_
      refine z_istore dX8_perform_21 (Nat.le_of_ble_eq_true rfl) ?_
      refine z_aload_n dX8_perform_23 rfl rfl ?_
      refine z_iload_n dX8_perform_24 rfl rfl ?_
      refine z_iconst (v := 0) dX8_perform_25 (by decide) ?_
      refine y_callV (as := [_, _]) CX4_get LX8_143 IX4_get VX4_get ⟨rfl, Nat.le_of_ble_eq_true rfl⟩ dX8_perform_26 hx.2.2.1.2.1.1 rfl (Nat.le_of_ble_eq_true rfl) (Nat.le_of_ble_eq_true rfl) (by omega) (s_get (k := x + 1) (w := 6) (ms := 24) (i := k) (j := 0) hx.2.2.1.2.1 hx.2.2.1.2.2.1 hc (by omega)) rok_i ⟨Nat.le_refl _, Nat.le_refl _, hN, hS⟩ ?_
      refine z_eqi vv.1 ?_
      refine z_tableIn (off := 73) (tgt := 102) dX8_perform_29 (by decide) (by decide) rfl rfl ?_
      refine z_aload_n dX8_perform_102 rfl rfl ?_
      refine z_iload_n dX8_perform_103 rfl rfl ?_
      refine z_iload dX8_perform_104 rfl ?_
      refine z_iconst (v := 1) dX8_perform_106 (by decide) ?_
      refine z_icmp_ne dX8_perform_107 rfl (fun c => absurd (hw) c) (fun _ => ?_)
      refine z_iconst (v := 1) dX8_perform_110 (by decide) ?_
      refine z_goto dX8_perform_111 rfl ?_
      refine z_iload dX8_perform_115 rfl ?_
      refine z_aload_n dX8_perform_117 rfl rfl ?_
      refine z_iload_n dX8_perform_118 rfl rfl ?_
      refine z_iconst (v := 4) dX8_perform_119 (by decide) ?_
      refine y_callV (as := [_, _]) CX4_get LX8_143 IX4_get VX4_get ⟨rfl, Nat.le_of_ble_eq_true rfl⟩ dX8_perform_120 hx.2.2.1.2.1.1 rfl (Nat.le_of_ble_eq_true rfl) (Nat.le_of_ble_eq_true rfl) (by omega) (s_get (k := x + 1) (w := 6) (ms := 24) (i := k) (j := 4) hx.2.2.1.2.1 hx.2.2.1.2.2.1 hc (by omega)) rok_i ⟨Nat.le_refl _, Nat.le_refl _, hN, hS⟩ ?_
      refine z_eqi (vv.2 4 (by omega) (by decide)) ?_
      refine z_aload_n dX8_perform_123 rfl rfl ?_
      refine z_iload_n dX8_perform_124 rfl rfl ?_
      refine z_iconst (v := 5) dX8_perform_125 (by decide) ?_
      refine y_callV (as := [_, _]) CX4_get LX8_143 IX4_get VX4_get ⟨rfl, Nat.le_of_ble_eq_true rfl⟩ dX8_perform_126 hx.2.2.1.2.1.1 rfl (Nat.le_of_ble_eq_true rfl) (Nat.le_of_ble_eq_true rfl) (by omega) (s_get (k := x + 1) (w := 6) (ms := 24) (i := k) (j := 5) hx.2.2.1.2.1 hx.2.2.1.2.2.1 hc (by omega)) rok_i ⟨Nat.le_refl _, Nat.le_refl _, hN, hS⟩ ?_
      refine z_eqi (vv.2 5 (by omega) (by decide)) ?_
      refine y_callV (as := [_, _, _, _, _]) CX8_foretell LX8_235 IX8_foretell VX8_foretell ⟨rfl, Nat.le_of_ble_eq_true rfl⟩ dX8_perform_129 c1.1.1 rfl (Nat.le_of_ble_eq_true rfl) (Nat.le_of_ble_eq_true rfl) (by omega) f1 rok_i (hg_ss f3.1 hN hS) ?_
      refine z_iconst (v := -1) dX8_perform_132 (by decide) ?_
      refine z_icmp_eq dX8_perform_133 rfl (fun c => absurd c (hq)) (fun _ => ?_)
      refine z_iconst (v := 1) dX8_perform_136 (by decide) ?_
      refine z_goto dX8_perform_137 rfl ?_
      refine z_iret dX8_perform_141 ?_
      exact hQ
  · skip
    have eq : plS tf t k a = (bI (¬ (mForetell a (tf (753 * t + 1 + 6 * k + 1)) 0 (tf (753 * t + 1 + 6 * k + 3)) (tf (753 * t + 1 + 6 * k + 4)) (tf (753 * t + 1 + 6 * k + 5))).1 = -1), (mForetell a (tf (753 * t + 1 + 6 * k + 1)) 0 (tf (753 * t + 1 + 6 * k + 3)) (tf (753 * t + 1 + 6 * k + 4)) (tf (753 * t + 1 + 6 * k + 5))).2) := by
      unfold plS
      rw [if_neg (by rw [hs]; decide), if_neg (by rw [hs]; decide), if_pos hs, if_neg hw]
    rw [eq] at j4 ⊢
    obtain ⟨g, f1, f2, f3⟩ := C_foretell (d := 4) c1.1.1 c1.1.2.1 c1.1.2.2.2.2.1 c1.2 hj.1.1 hj.ip (tf (753 * t + 1 + 6 * k + 1)) (al := 0) (by omega) (tf (753 * t + 1 + 6 * k + 3)) (tf (753 * t + 1 + 6 * k + 4)) (tf (753 * t + 1 + 6 * k + 5)) (by omega)
    have f3 : FR 9 236 h g := f3
    refine ⟨g, ?_, c1.of f3 f2 j4, f3.z⟩
    intro N S Q hN hS hQ
    have hN : pn h ≤ N := by rw [← f3.1.n]; exact hN
    have hS : ps h ≤ S := by rw [← f3.1.s]; exact hS
    by_cases hq : (mForetell a (tf (753 * t + 1 + 6 * k + 1)) 0 (tf (753 * t + 1 + 6 * k + 3)) (tf (753 * t + 1 + 6 * k + 4)) (tf (753 * t + 1 + 6 * k + 5))).1 = -1
    · rw [bI_f (fun q => q hq)] at hQ
      refine z_aload_n dX8_perform_0 rfl rfl ?_
      refine z_iload_n dX8_perform_1 rfl rfl ?_
      refine z_iconst (v := 1) dX8_perform_2 (by decide) ?_
      refine y_callV (as := [_, _]) CX4_get LX8_143 IX4_get VX4_get ⟨rfl, Nat.le_of_ble_eq_true rfl⟩ dX8_perform_3 hx.2.2.1.2.1.1 rfl (Nat.le_of_ble_eq_true rfl) (Nat.le_of_ble_eq_true rfl) (by omega) (s_get (k := x + 1) (w := 6) (ms := 24) (i := k) (j := 1) hx.2.2.1.2.1 hx.2.2.1.2.2.1 hc (by omega)) rok_i ⟨Nat.le_refl _, Nat.le_refl _, hN, hS⟩ ?_
      refine z_eqi (vv.2 1 (by omega) (by decide)) ?_
      refine z_istore_n dX8_perform_6 rfl (Nat.le_of_ble_eq_true rfl) ?_
      refine z_aload_n dX8_perform_7 rfl rfl ?_
      refine z_iload_n dX8_perform_8 rfl rfl ?_
      refine z_iconst (v := 2) dX8_perform_9 (by decide) ?_
      refine y_callV (as := [_, _]) CX4_get LX8_143 IX4_get VX4_get ⟨rfl, Nat.le_of_ble_eq_true rfl⟩ dX8_perform_10 hx.2.2.1.2.1.1 rfl (Nat.le_of_ble_eq_true rfl) (Nat.le_of_ble_eq_true rfl) (by omega) (s_get (k := x + 1) (w := 6) (ms := 24) (i := k) (j := 2) hx.2.2.1.2.1 hx.2.2.1.2.2.1 hc (by omega)) rok_i ⟨Nat.le_refl _, Nat.le_refl _, hN, hS⟩ ?_
      refine z_eqi (vv.2 2 (by omega) (by decide)) ?_
      refine z_istore dX8_perform_13 (Nat.le_of_ble_eq_true rfl) ?_
      refine z_aload_n dX8_perform_15 rfl rfl ?_
      refine z_iload_n dX8_perform_16 rfl rfl ?_
      refine z_iconst (v := 3) dX8_perform_17 (by decide) ?_
      refine y_callV (as := [_, _]) CX4_get LX8_143 IX4_get VX4_get ⟨rfl, Nat.le_of_ble_eq_true rfl⟩ dX8_perform_18 hx.2.2.1.2.1.1 rfl (Nat.le_of_ble_eq_true rfl) (Nat.le_of_ble_eq_true rfl) (by omega) (s_get (k := x + 1) (w := 6) (ms := 24) (i := k) (j := 3) hx.2.2.1.2.1 hx.2.2.1.2.2.1 hc (by omega)) rok_i ⟨Nat.le_refl _, Nat.le_refl _, hN, hS⟩ ?_
      refine z_eqi (vv.2 3 (by omega) (by decide)) ?_
      refine z_istore dX8_perform_21 (Nat.le_of_ble_eq_true rfl) ?_
      refine z_aload_n dX8_perform_23 rfl rfl ?_
      refine z_iload_n dX8_perform_24 rfl rfl ?_
      refine z_iconst (v := 0) dX8_perform_25 (by decide) ?_
      refine y_callV (as := [_, _]) CX4_get LX8_143 IX4_get VX4_get ⟨rfl, Nat.le_of_ble_eq_true rfl⟩ dX8_perform_26 hx.2.2.1.2.1.1 rfl (Nat.le_of_ble_eq_true rfl) (Nat.le_of_ble_eq_true rfl) (by omega) (s_get (k := x + 1) (w := 6) (ms := 24) (i := k) (j := 0) hx.2.2.1.2.1 hx.2.2.1.2.2.1 hc (by omega)) rok_i ⟨Nat.le_refl _, Nat.le_refl _, hN, hS⟩ ?_
      refine z_eqi vv.1 ?_
      refine z_tableIn (off := 73) (tgt := 102) dX8_perform_29 (by decide) (by decide) rfl rfl ?_
      refine z_aload_n dX8_perform_102 rfl rfl ?_
      refine z_iload_n dX8_perform_103 rfl rfl ?_
      refine z_iload dX8_perform_104 rfl ?_
      refine z_iconst (v := 1) dX8_perform_106 (by decide) ?_
      refine z_icmp_ne dX8_perform_107 rfl (fun _ => ?_) (fun c => absurd c (hw))
      refine z_iconst (v := 0) dX8_perform_114 (by decide) ?_
      refine z_iload dX8_perform_115 rfl ?_
      refine z_aload_n dX8_perform_117 rfl rfl ?_
      refine z_iload_n dX8_perform_118 rfl rfl ?_
      refine z_iconst (v := 4) dX8_perform_119 (by decide) ?_
      refine y_callV (as := [_, _]) CX4_get LX8_143 IX4_get VX4_get ⟨rfl, Nat.le_of_ble_eq_true rfl⟩ dX8_perform_120 hx.2.2.1.2.1.1 rfl (Nat.le_of_ble_eq_true rfl) (Nat.le_of_ble_eq_true rfl) (by omega) (s_get (k := x + 1) (w := 6) (ms := 24) (i := k) (j := 4) hx.2.2.1.2.1 hx.2.2.1.2.2.1 hc (by omega)) rok_i ⟨Nat.le_refl _, Nat.le_refl _, hN, hS⟩ ?_
      refine z_eqi (vv.2 4 (by omega) (by decide)) ?_
      refine z_aload_n dX8_perform_123 rfl rfl ?_
      refine z_iload_n dX8_perform_124 rfl rfl ?_
      refine z_iconst (v := 5) dX8_perform_125 (by decide) ?_
      refine y_callV (as := [_, _]) CX4_get LX8_143 IX4_get VX4_get ⟨rfl, Nat.le_of_ble_eq_true rfl⟩ dX8_perform_126 hx.2.2.1.2.1.1 rfl (Nat.le_of_ble_eq_true rfl) (Nat.le_of_ble_eq_true rfl) (by omega) (s_get (k := x + 1) (w := 6) (ms := 24) (i := k) (j := 5) hx.2.2.1.2.1 hx.2.2.1.2.2.1 hc (by omega)) rok_i ⟨Nat.le_refl _, Nat.le_refl _, hN, hS⟩ ?_
      refine z_eqi (vv.2 5 (by omega) (by decide)) ?_
      refine y_callV (as := [_, _, _, _, _]) CX8_foretell LX8_235 IX8_foretell VX8_foretell ⟨rfl, Nat.le_of_ble_eq_true rfl⟩ dX8_perform_129 c1.1.1 rfl (Nat.le_of_ble_eq_true rfl) (Nat.le_of_ble_eq_true rfl) (by omega) f1 rok_i (hg_ss f3.1 hN hS) ?_
      refine z_iconst (v := -1) dX8_perform_132 (by decide) ?_
      refine z_icmp_eq dX8_perform_133 rfl (fun _ => ?_) (fun c => absurd (hq) c)
      refine z_iconst (v := 0) dX8_perform_140 (by decide) ?_
      refine z_iret dX8_perform_141 ?_
      exact hQ
    · rw [bI_t hq] at hQ
      refine z_aload_n dX8_perform_0 rfl rfl ?_
      refine z_iload_n dX8_perform_1 rfl rfl ?_
      refine z_iconst (v := 1) dX8_perform_2 (by decide) ?_
      refine y_callV (as := [_, _]) CX4_get LX8_143 IX4_get VX4_get ⟨rfl, Nat.le_of_ble_eq_true rfl⟩ dX8_perform_3 hx.2.2.1.2.1.1 rfl (Nat.le_of_ble_eq_true rfl) (Nat.le_of_ble_eq_true rfl) (by omega) (s_get (k := x + 1) (w := 6) (ms := 24) (i := k) (j := 1) hx.2.2.1.2.1 hx.2.2.1.2.2.1 hc (by omega)) rok_i ⟨Nat.le_refl _, Nat.le_refl _, hN, hS⟩ ?_
      refine z_eqi (vv.2 1 (by omega) (by decide)) ?_
      refine z_istore_n dX8_perform_6 rfl (Nat.le_of_ble_eq_true rfl) ?_
      refine z_aload_n dX8_perform_7 rfl rfl ?_
      refine z_iload_n dX8_perform_8 rfl rfl ?_
      refine z_iconst (v := 2) dX8_perform_9 (by decide) ?_
      refine y_callV (as := [_, _]) CX4_get LX8_143 IX4_get VX4_get ⟨rfl, Nat.le_of_ble_eq_true rfl⟩ dX8_perform_10 hx.2.2.1.2.1.1 rfl (Nat.le_of_ble_eq_true rfl) (Nat.le_of_ble_eq_true rfl) (by omega) (s_get (k := x + 1) (w := 6) (ms := 24) (i := k) (j := 2) hx.2.2.1.2.1 hx.2.2.1.2.2.1 hc (by omega)) rok_i ⟨Nat.le_refl _, Nat.le_refl _, hN, hS⟩ ?_
      refine z_eqi (vv.2 2 (by omega) (by decide)) ?_
      refine z_istore dX8_perform_13 (Nat.le_of_ble_eq_true rfl) ?_
      refine z_aload_n dX8_perform_15 rfl rfl ?_
      refine z_iload_n dX8_perform_16 rfl rfl ?_
      refine z_iconst (v := 3) dX8_perform_17 (by decide) ?_
      refine y_callV (as := [_, _]) CX4_get LX8_143 IX4_get VX4_get ⟨rfl, Nat.le_of_ble_eq_true rfl⟩ dX8_perform_18 hx.2.2.1.2.1.1 rfl (Nat.le_of_ble_eq_true rfl) (Nat.le_of_ble_eq_true rfl) (by omega) (s_get (k := x + 1) (w := 6) (ms := 24) (i := k) (j := 3) hx.2.2.1.2.1 hx.2.2.1.2.2.1 hc (by omega)) rok_i ⟨Nat.le_refl _, Nat.le_refl _, hN, hS⟩ ?_
      refine z_eqi (vv.2 3 (by omega) (by decide)) ?_
      refine z_istore dX8_perform_21 (Nat.le_of_ble_eq_true rfl) ?_
      refine z_aload_n dX8_perform_23 rfl rfl ?_
      refine z_iload_n dX8_perform_24 rfl rfl ?_
      refine z_iconst (v := 0) dX8_perform_25 (by decide) ?_
      refine y_callV (as := [_, _]) CX4_get LX8_143 IX4_get VX4_get ⟨rfl, Nat.le_of_ble_eq_true rfl⟩ dX8_perform_26 hx.2.2.1.2.1.1 rfl (Nat.le_of_ble_eq_true rfl) (Nat.le_of_ble_eq_true rfl) (by omega) (s_get (k := x + 1) (w := 6) (ms := 24) (i := k) (j := 0) hx.2.2.1.2.1 hx.2.2.1.2.2.1 hc (by omega)) rok_i ⟨Nat.le_refl _, Nat.le_refl _, hN, hS⟩ ?_
      refine z_eqi vv.1 ?_
      refine z_tableIn (off := 73) (tgt := 102) dX8_perform_29 (by decide) (by decide) rfl rfl ?_
      refine z_aload_n dX8_perform_102 rfl rfl ?_
      refine z_iload_n dX8_perform_103 rfl rfl ?_
      refine z_iload dX8_perform_104 rfl ?_
      refine z_iconst (v := 1) dX8_perform_106 (by decide) ?_
      refine z_icmp_ne dX8_perform_107 rfl (fun _ => ?_) (fun c => absurd c (hw))
      refine z_iconst (v := 0) dX8_perform_114 (by decide) ?_
      refine z_iload dX8_perform_115 rfl ?_
      refine z_aload_n dX8_perform_117 rfl rfl ?_
      refine z_iload_n dX8_perform_118 rfl rfl ?_
      refine z_iconst (v := 4) dX8_perform_119 (by decide) ?_
      refine y_callV (as := [_, _]) CX4_get LX8_143 IX4_get VX4_get ⟨rfl, Nat.le_of_ble_eq_true rfl⟩ dX8_perform_120 hx.2.2.1.2.1.1 rfl (Nat.le_of_ble_eq_true rfl) (Nat.le_of_ble_eq_true rfl) (by omega) (s_get (k := x + 1) (w := 6) (ms := 24) (i := k) (j := 4) hx.2.2.1.2.1 hx.2.2.1.2.2.1 hc (by omega)) rok_i ⟨Nat.le_refl _, Nat.le_refl _, hN, hS⟩ ?_
      refine z_eqi (vv.2 4 (by omega) (by decide)) ?_
      refine z_aload_n dX8_perform_123 rfl rfl ?_
      refine z_iload_n dX8_perform_124 rfl rfl ?_
      refine z_iconst (v := 5) dX8_perform_125 (by decide) ?_
      refine y_callV (as := [_, _]) CX4_get LX8_143 IX4_get VX4_get ⟨rfl, Nat.le_of_ble_eq_true rfl⟩ dX8_perform_126 hx.2.2.1.2.1.1 rfl (Nat.le_of_ble_eq_true rfl) (Nat.le_of_ble_eq_true rfl) (by omega) (s_get (k := x + 1) (w := 6) (ms := 24) (i := k) (j := 5) hx.2.2.1.2.1 hx.2.2.1.2.2.1 hc (by omega)) rok_i ⟨Nat.le_refl _, Nat.le_refl _, hN, hS⟩ ?_
      refine z_eqi (vv.2 5 (by omega) (by decide)) ?_
      refine y_callV (as := [_, _, _, _, _]) CX8_foretell LX8_235 IX8_foretell VX8_foretell ⟨rfl, Nat.le_of_ble_eq_true rfl⟩ dX8_perform_129 c1.1.1 rfl (Nat.le_of_ble_eq_true rfl) (Nat.le_of_ble_eq_true rfl) (by omega) f1 rok_i (hg_ss f3.1 hN hS) ?_
      refine z_iconst (v := -1) dX8_perform_132 (by decide) ?_
      refine z_icmp_eq dX8_perform_133 rfl (fun c => absurd c (hq)) (fun _ => ?_)
      refine z_iconst (v := 1) dX8_perform_136 (by decide) ?_
      refine z_goto dX8_perform_137 rfl ?_
      refine z_iret dX8_perform_141 ?_
      exact hQ

theorem c_perform_6 {h : Hp} {a : Fl} {tf : Nat → Int32} {d t k x : Nat} (c1 : CZ h a tf) (hj : JY tf a) (hx : TXC h tf t x) (hc : k < cnt tf t) (hs : tf (753 * t + 1 + 6 * k) = nI 6) (hd : 5 ≤ d) : ∃ h1, Sp d mX8_perform [.ref 8, .ref (x + 1), .int (nI k)] h (some (.int (plS tf t k a).1)) h1 ∧ CZ h1 (plS tf t k a).2 tf ∧ FZ h h1 := by
  have vv := hx.2.2.1.2.2.2 k 6 hc hs (by omega)
  have j4 := (jy_plS (t := t) (k := k) hj).1.1.2.2.2.2.1
  have eq : plS tf t k a = (mBring a 0 (tf (753 * t + 1 + 6 * k + 2)) (tf (753 * t + 1 + 6 * k + 1))) := by
    unfold plS
    rw [if_neg (by rw [hs]; decide), if_neg (by rw [hs]; decide), if_neg (by rw [hs]; decide), if_pos hs]
  have r01 := plS_01 (tf := tf) (t := t) (k := k) (a := a)
  rw [eq] at r01 j4 ⊢
  obtain ⟨g, f1, f2, f3⟩ := C_bring (d := 4) c1.1.1 c1.1.2.1 c1.1.2.2.2.2.1 c1.2 hj.1.1 hj.ip hj.1.2.2.1 (tf (753 * t + 1 + 6 * k + 2)) (tf (753 * t + 1 + 6 * k + 1)) (by omega)
  have f3 : FR 9 236 h g := f3
  refine ⟨g, ?_, c1.of f3 f2 j4, f3.z⟩
  intro N S Q hN hS hQ
  have hN : pn h ≤ N := by rw [← f3.1.n]; exact hN
  have hS : ps h ≤ S := by rw [← f3.1.s]; exact hS
  refine z_aload_n dX8_perform_0 rfl rfl ?_
  refine z_iload_n dX8_perform_1 rfl rfl ?_
  refine z_iconst (v := 1) dX8_perform_2 (by decide) ?_
  refine y_callV (as := [_, _]) CX4_get LX8_143 IX4_get VX4_get ⟨rfl, Nat.le_of_ble_eq_true rfl⟩ dX8_perform_3 hx.2.2.1.2.1.1 rfl (Nat.le_of_ble_eq_true rfl) (Nat.le_of_ble_eq_true rfl) (by omega) (s_get (k := x + 1) (w := 6) (ms := 24) (i := k) (j := 1) hx.2.2.1.2.1 hx.2.2.1.2.2.1 hc (by omega)) rok_i ⟨Nat.le_refl _, Nat.le_refl _, hN, hS⟩ ?_
  refine z_eqi (vv.2 1 (by omega) (by decide)) ?_
  refine z_istore_n dX8_perform_6 rfl (Nat.le_of_ble_eq_true rfl) ?_
  refine z_aload_n dX8_perform_7 rfl rfl ?_
  refine z_iload_n dX8_perform_8 rfl rfl ?_
  refine z_iconst (v := 2) dX8_perform_9 (by decide) ?_
  refine y_callV (as := [_, _]) CX4_get LX8_143 IX4_get VX4_get ⟨rfl, Nat.le_of_ble_eq_true rfl⟩ dX8_perform_10 hx.2.2.1.2.1.1 rfl (Nat.le_of_ble_eq_true rfl) (Nat.le_of_ble_eq_true rfl) (by omega) (s_get (k := x + 1) (w := 6) (ms := 24) (i := k) (j := 2) hx.2.2.1.2.1 hx.2.2.1.2.2.1 hc (by omega)) rok_i ⟨Nat.le_refl _, Nat.le_refl _, hN, hS⟩ ?_
  refine z_eqi (vv.2 2 (by omega) (by decide)) ?_
  refine z_istore dX8_perform_13 (Nat.le_of_ble_eq_true rfl) ?_
  refine z_aload_n dX8_perform_15 rfl rfl ?_
  refine z_iload_n dX8_perform_16 rfl rfl ?_
  refine z_iconst (v := 3) dX8_perform_17 (by decide) ?_
  refine y_callV (as := [_, _]) CX4_get LX8_143 IX4_get VX4_get ⟨rfl, Nat.le_of_ble_eq_true rfl⟩ dX8_perform_18 hx.2.2.1.2.1.1 rfl (Nat.le_of_ble_eq_true rfl) (Nat.le_of_ble_eq_true rfl) (by omega) (s_get (k := x + 1) (w := 6) (ms := 24) (i := k) (j := 3) hx.2.2.1.2.1 hx.2.2.1.2.2.1 hc (by omega)) rok_i ⟨Nat.le_refl _, Nat.le_refl _, hN, hS⟩ ?_
  refine z_istore dX8_perform_21 (Nat.le_of_ble_eq_true rfl) ?_
  refine z_aload_n dX8_perform_23 rfl rfl ?_
  refine z_iload_n dX8_perform_24 rfl rfl ?_
  refine z_iconst (v := 0) dX8_perform_25 (by decide) ?_
  refine y_callV (as := [_, _]) CX4_get LX8_143 IX4_get VX4_get ⟨rfl, Nat.le_of_ble_eq_true rfl⟩ dX8_perform_26 hx.2.2.1.2.1.1 rfl (Nat.le_of_ble_eq_true rfl) (Nat.le_of_ble_eq_true rfl) (by omega) (s_get (k := x + 1) (w := 6) (ms := 24) (i := k) (j := 0) hx.2.2.1.2.1 hx.2.2.1.2.2.1 hc (by omega)) rok_i ⟨Nat.le_refl _, Nat.le_refl _, hN, hS⟩ ?_
  refine z_eqi vv.1 ?_
  refine z_tableIn (off := 113) (tgt := 142) dX8_perform_29 (by decide) (by decide) rfl rfl ?_
  refine z_aload_n dX8_perform_142 rfl rfl ?_
  refine z_iload dX8_perform_143 rfl ?_
  refine z_iload_n dX8_perform_145 rfl rfl ?_
  refine y_callV (as := [_, _]) CX8_bring LX8_238 IX8_bring VX8_bring ⟨rfl, Nat.le_of_ble_eq_true rfl⟩ dX8_perform_146 c1.1.1 rfl (Nat.le_of_ble_eq_true rfl) (Nat.le_of_ble_eq_true rfl) (by omega) f1 (rok_z r01) (hg_ss f3.1 hN hS) ?_
  refine z_iret dX8_perform_149 ?_
  exact hQ

theorem c_perform_7 {h : Hp} {a : Fl} {tf : Nat → Int32} {d t k x : Nat} (c1 : CZ h a tf) (hj : JY tf a) (hx : TXC h tf t x) (hc : k < cnt tf t) (hs : tf (753 * t + 1 + 6 * k) = nI 7) (hd : 5 ≤ d) : ∃ h1, Sp d mX8_perform [.ref 8, .ref (x + 1), .int (nI k)] h (some (.int (plS tf t k a).1)) h1 ∧ CZ h1 (plS tf t k a).2 tf ∧ FZ h h1 := by
  have vv := hx.2.2.1.2.2.2 k 7 hc hs (by omega)
  have j4 := (jy_plS (t := t) (k := k) hj).1.1.2.2.2.2.1
  have eq : plS tf t k a = (mBring a 1 (tf (753 * t + 1 + 6 * k + 2)) (tf (753 * t + 1 + 6 * k + 1))) := by
    unfold plS
    rw [if_neg (by rw [hs]; decide), if_neg (by rw [hs]; decide), if_neg (by rw [hs]; decide), if_neg (by rw [hs]; decide), if_pos hs]
  have r01 := plS_01 (tf := tf) (t := t) (k := k) (a := a)
  rw [eq] at r01 j4 ⊢
  obtain ⟨g, f1, f2, f3⟩ := C_spoil (d := 4) c1.1.1 c1.1.2.1 c1.1.2.2.2.2.1 c1.2 hj.1.1 hj.ip hj.1.2.2.1 (tf (753 * t + 1 + 6 * k + 2)) (tf (753 * t + 1 + 6 * k + 1)) (by omega)
  have f3 : FR 9 236 h g := f3
  refine ⟨g, ?_, c1.of f3 f2 j4, f3.z⟩
  intro N S Q hN hS hQ
  have hN : pn h ≤ N := by rw [← f3.1.n]; exact hN
  have hS : ps h ≤ S := by rw [← f3.1.s]; exact hS
  refine z_aload_n dX8_perform_0 rfl rfl ?_
  refine z_iload_n dX8_perform_1 rfl rfl ?_
  refine z_iconst (v := 1) dX8_perform_2 (by decide) ?_
  refine y_callV (as := [_, _]) CX4_get LX8_143 IX4_get VX4_get ⟨rfl, Nat.le_of_ble_eq_true rfl⟩ dX8_perform_3 hx.2.2.1.2.1.1 rfl (Nat.le_of_ble_eq_true rfl) (Nat.le_of_ble_eq_true rfl) (by omega) (s_get (k := x + 1) (w := 6) (ms := 24) (i := k) (j := 1) hx.2.2.1.2.1 hx.2.2.1.2.2.1 hc (by omega)) rok_i ⟨Nat.le_refl _, Nat.le_refl _, hN, hS⟩ ?_
  refine z_eqi (vv.2 1 (by omega) (by decide)) ?_
  refine z_istore_n dX8_perform_6 rfl (Nat.le_of_ble_eq_true rfl) ?_
  refine z_aload_n dX8_perform_7 rfl rfl ?_
  refine z_iload_n dX8_perform_8 rfl rfl ?_
  refine z_iconst (v := 2) dX8_perform_9 (by decide) ?_
  refine y_callV (as := [_, _]) CX4_get LX8_143 IX4_get VX4_get ⟨rfl, Nat.le_of_ble_eq_true rfl⟩ dX8_perform_10 hx.2.2.1.2.1.1 rfl (Nat.le_of_ble_eq_true rfl) (Nat.le_of_ble_eq_true rfl) (by omega) (s_get (k := x + 1) (w := 6) (ms := 24) (i := k) (j := 2) hx.2.2.1.2.1 hx.2.2.1.2.2.1 hc (by omega)) rok_i ⟨Nat.le_refl _, Nat.le_refl _, hN, hS⟩ ?_
  refine z_eqi (vv.2 2 (by omega) (by decide)) ?_
  refine z_istore dX8_perform_13 (Nat.le_of_ble_eq_true rfl) ?_
  refine z_aload_n dX8_perform_15 rfl rfl ?_
  refine z_iload_n dX8_perform_16 rfl rfl ?_
  refine z_iconst (v := 3) dX8_perform_17 (by decide) ?_
  refine y_callV (as := [_, _]) CX4_get LX8_143 IX4_get VX4_get ⟨rfl, Nat.le_of_ble_eq_true rfl⟩ dX8_perform_18 hx.2.2.1.2.1.1 rfl (Nat.le_of_ble_eq_true rfl) (Nat.le_of_ble_eq_true rfl) (by omega) (s_get (k := x + 1) (w := 6) (ms := 24) (i := k) (j := 3) hx.2.2.1.2.1 hx.2.2.1.2.2.1 hc (by omega)) rok_i ⟨Nat.le_refl _, Nat.le_refl _, hN, hS⟩ ?_
  refine z_istore dX8_perform_21 (Nat.le_of_ble_eq_true rfl) ?_
  refine z_aload_n dX8_perform_23 rfl rfl ?_
  refine z_iload_n dX8_perform_24 rfl rfl ?_
  refine z_iconst (v := 0) dX8_perform_25 (by decide) ?_
  refine y_callV (as := [_, _]) CX4_get LX8_143 IX4_get VX4_get ⟨rfl, Nat.le_of_ble_eq_true rfl⟩ dX8_perform_26 hx.2.2.1.2.1.1 rfl (Nat.le_of_ble_eq_true rfl) (Nat.le_of_ble_eq_true rfl) (by omega) (s_get (k := x + 1) (w := 6) (ms := 24) (i := k) (j := 0) hx.2.2.1.2.1 hx.2.2.1.2.2.1 hc (by omega)) rok_i ⟨Nat.le_refl _, Nat.le_refl _, hN, hS⟩ ?_
  refine z_eqi vv.1 ?_
  refine z_tableIn (off := 121) (tgt := 150) dX8_perform_29 (by decide) (by decide) rfl rfl ?_
  refine z_aload_n dX8_perform_150 rfl rfl ?_
  refine z_iload dX8_perform_151 rfl ?_
  refine z_iload_n dX8_perform_153 rfl rfl ?_
  refine y_callV (as := [_, _]) CX8_spoil LX8_242 IX8_spoil VX8_spoil ⟨rfl, Nat.le_of_ble_eq_true rfl⟩ dX8_perform_154 c1.1.1 rfl (Nat.le_of_ble_eq_true rfl) (Nat.le_of_ble_eq_true rfl) (by omega) f1 (rok_z r01) (hg_ss f3.1 hN hS) ?_
  refine z_iret dX8_perform_157 ?_
  exact hQ

theorem c_perform_8 {h : Hp} {a : Fl} {tf : Nat → Int32} {d t k x : Nat} (c1 : CZ h a tf) (hj : JY tf a) (hx : TXC h tf t x) (hc : k < cnt tf t) (hs : tf (753 * t + 1 + 6 * k) = nI 8) (hd : 5 ≤ d) : ∃ h1, Sp d mX8_perform [.ref 8, .ref (x + 1), .int (nI k)] h (some (.int (plS tf t k a).1)) h1 ∧ CZ h1 (plS tf t k a).2 tf ∧ FZ h h1 := by
  have vv := hx.2.2.1.2.2.2 k 8 hc hs (by omega)
  have j4 := (jy_plS (t := t) (k := k) hj).1.1.2.2.2.2.1
  have eq : plS tf t k a = (mSell a (tf (753 * t + 1 + 6 * k + 1)) (tf (753 * t + 1 + 6 * k + 2)) (tf (753 * t + 1 + 6 * k + 3))) := by
    unfold plS
    rw [if_neg (by rw [hs]; decide), if_neg (by rw [hs]; decide), if_neg (by rw [hs]; decide), if_neg (by rw [hs]; decide), if_neg (by rw [hs]; decide), if_pos hs]
  have r01 := plS_01 (tf := tf) (t := t) (k := k) (a := a)
  rw [eq] at r01 j4 ⊢
  obtain ⟨g, f1, f2, f3⟩ := C_sell (d := 4) c1.1.1 c1.1.2.1 c1.1.2.2.2.2.1 c1.2 hj.1.1 hj.1.2.1 hj.1.1.1 (tf (753 * t + 1 + 6 * k + 1)) (tf (753 * t + 1 + 6 * k + 2)) (tf (753 * t + 1 + 6 * k + 3)) (by omega)
  have f3 : FR 9 236 h g := f3
  refine ⟨g, ?_, c1.of f3 f2 j4, f3.z⟩
  intro N S Q hN hS hQ
  have hN : pn h ≤ N := by rw [← f3.1.n]; exact hN
  have hS : ps h ≤ S := by rw [← f3.1.s]; exact hS
  refine z_aload_n dX8_perform_0 rfl rfl ?_
  refine z_iload_n dX8_perform_1 rfl rfl ?_
  refine z_iconst (v := 1) dX8_perform_2 (by decide) ?_
  refine y_callV (as := [_, _]) CX4_get LX8_143 IX4_get VX4_get ⟨rfl, Nat.le_of_ble_eq_true rfl⟩ dX8_perform_3 hx.2.2.1.2.1.1 rfl (Nat.le_of_ble_eq_true rfl) (Nat.le_of_ble_eq_true rfl) (by omega) (s_get (k := x + 1) (w := 6) (ms := 24) (i := k) (j := 1) hx.2.2.1.2.1 hx.2.2.1.2.2.1 hc (by omega)) rok_i ⟨Nat.le_refl _, Nat.le_refl _, hN, hS⟩ ?_
  refine z_eqi (vv.2 1 (by omega) (by decide)) ?_
  refine z_istore_n dX8_perform_6 rfl (Nat.le_of_ble_eq_true rfl) ?_
  refine z_aload_n dX8_perform_7 rfl rfl ?_
  refine z_iload_n dX8_perform_8 rfl rfl ?_
  refine z_iconst (v := 2) dX8_perform_9 (by decide) ?_
  refine y_callV (as := [_, _]) CX4_get LX8_143 IX4_get VX4_get ⟨rfl, Nat.le_of_ble_eq_true rfl⟩ dX8_perform_10 hx.2.2.1.2.1.1 rfl (Nat.le_of_ble_eq_true rfl) (Nat.le_of_ble_eq_true rfl) (by omega) (s_get (k := x + 1) (w := 6) (ms := 24) (i := k) (j := 2) hx.2.2.1.2.1 hx.2.2.1.2.2.1 hc (by omega)) rok_i ⟨Nat.le_refl _, Nat.le_refl _, hN, hS⟩ ?_
  refine z_eqi (vv.2 2 (by omega) (by decide)) ?_
  refine z_istore dX8_perform_13 (Nat.le_of_ble_eq_true rfl) ?_
  refine z_aload_n dX8_perform_15 rfl rfl ?_
  refine z_iload_n dX8_perform_16 rfl rfl ?_
  refine z_iconst (v := 3) dX8_perform_17 (by decide) ?_
  refine y_callV (as := [_, _]) CX4_get LX8_143 IX4_get VX4_get ⟨rfl, Nat.le_of_ble_eq_true rfl⟩ dX8_perform_18 hx.2.2.1.2.1.1 rfl (Nat.le_of_ble_eq_true rfl) (Nat.le_of_ble_eq_true rfl) (by omega) (s_get (k := x + 1) (w := 6) (ms := 24) (i := k) (j := 3) hx.2.2.1.2.1 hx.2.2.1.2.2.1 hc (by omega)) rok_i ⟨Nat.le_refl _, Nat.le_refl _, hN, hS⟩ ?_
  refine z_eqi (vv.2 3 (by omega) (by decide)) ?_
  refine z_istore dX8_perform_21 (Nat.le_of_ble_eq_true rfl) ?_
  refine z_aload_n dX8_perform_23 rfl rfl ?_
  refine z_iload_n dX8_perform_24 rfl rfl ?_
  refine z_iconst (v := 0) dX8_perform_25 (by decide) ?_
  refine y_callV (as := [_, _]) CX4_get LX8_143 IX4_get VX4_get ⟨rfl, Nat.le_of_ble_eq_true rfl⟩ dX8_perform_26 hx.2.2.1.2.1.1 rfl (Nat.le_of_ble_eq_true rfl) (Nat.le_of_ble_eq_true rfl) (by omega) (s_get (k := x + 1) (w := 6) (ms := 24) (i := k) (j := 0) hx.2.2.1.2.1 hx.2.2.1.2.2.1 hc (by omega)) rok_i ⟨Nat.le_refl _, Nat.le_refl _, hN, hS⟩ ?_
  refine z_eqi vv.1 ?_
  refine z_tableIn (off := 129) (tgt := 158) dX8_perform_29 (by decide) (by decide) rfl rfl ?_
  refine z_aload_n dX8_perform_158 rfl rfl ?_
  refine z_iload_n dX8_perform_159 rfl rfl ?_
  refine z_iload dX8_perform_160 rfl ?_
  refine z_iload dX8_perform_162 rfl ?_
  refine y_callV (as := [_, _, _]) CX8_sell LX8_245 IX8_sell VX8_sell ⟨rfl, Nat.le_of_ble_eq_true rfl⟩ dX8_perform_164 c1.1.1 rfl (Nat.le_of_ble_eq_true rfl) (Nat.le_of_ble_eq_true rfl) (by omega) f1 (rok_z r01) (hg_ss f3.1 hN hS) ?_
  refine z_iret dX8_perform_167 ?_
  exact hQ

theorem c_perform {h : Hp} {a : Fl} {tf : Nat → Int32} {d t k x sv : Nat} (c1 : CZ h a tf) (hj : JY tf a) (hx : TXC h tf t x) (hc : k < cnt tf t) (hs : tf (753 * t + 1 + 6 * k) = nI sv) (h8 : sv ≤ 8) (hd : 5 ≤ d) : ∃ h1, Sp d mX8_perform [.ref 8, .ref (x + 1), .int (nI k)] h (some (.int (plS tf t k a).1)) h1 ∧ CZ h1 (plS tf t k a).2 tf ∧ FZ h h1 := by
  rcases (show sv = 0 ∨ sv = 1 ∨ sv = 2 ∨ sv = 3 ∨ sv = 4 ∨ sv = 5 ∨ sv = 6 ∨ sv = 7 ∨ sv = 8 by omega) with rfl | rfl | rfl | rfl | rfl | rfl | rfl | rfl | rfl
  · exact c_perform_0 c1 hj hx hc hs hd
  · exact c_perform_1 c1 hj hx hc hs hd
  · exact c_perform_2 c1 hj hx hc hs hd
  · exact c_perform_3 c1 hj hx hc hs hd
  · exact c_perform_4 c1 hj hx hc hs hd
  · exact c_perform_5 c1 hj hx hc hs hd
  · exact c_perform_6 c1 hj hx hc hs hd
  · exact c_perform_7 c1 hj hx hc hs hd
  · exact c_perform_8 c1 hj hx hc hs hd
theorem c_played_loop {h : Hp} {tf : Nat → Int32} {d t x : Nat} (hv : TXV tf t) (hb : TXB tf t) (hd : 8 ≤ d) : ∀ r k a (h1 : Hp), k + r = cnt tf t → JY tf a → CZ h1 a tf → FZ h h1 → TXC h1 tf t x → ∃ h2, CZ h2 (plL tf t r k a).2 tf ∧ FZ h h2 ∧ ∀ (o5 : Option Value) (N S : Nat) (Q : Option Value → Hp → Prop), pn h ≤ N → ps h ≤ S → Q (some (.int (plL tf t r k a).1)) h2 → T d N S mX8_played 24 [some (.ref 8), some (.int (nI t)), some (.ref x), some (.ref (x + 1)), some (.int (nI k)), o5] [] h1 Q := by
  have c24 := hv.1
  intro r
  induction r with
  | zero =>
    intro k a h1 hi hj c1 f1 hx
    refine ⟨h1, c1, f1, fun o5 N S Q hN hS hQ => ?_⟩
    refine z_iload dX8_played_24 rfl ?_
    refine z_aload_n dX8_played_26 rfl rfl ?_
    refine y_getI FX8_130 dX8_played_27 (Or.inl rfl) hx.2.2.1.2.1.1 ?_
    refine z_eqi (y := nI (cnt tf t)) hx.2.2.1.2.2.1.2.2.1 ?_
    refine z_icmp_ge dX8_played_30 rfl (fun _ => ?_) (fun c => absurd ((nI_leI (by omega) (by omega)).mpr (by omega)) c)
    refine z_iconst (v := -1) dX8_played_82 (by decide) ?_
    refine z_iret dX8_played_83 ?_
    exact hQ
  | succ r ih =>
    intro k a h1 hi hj c1 f1 hx
    obtain ⟨sv, h9, hs⟩ := hv.2.2.1 k (by omega)
    have vv := hx.2.2.1.2.2.2 k sv (by omega) hs h9
    by_cases q9 : sv = 9
    · subst q9
      obtain ⟨n, hn, hv1⟩ := hb k (by omega) hs
      obtain ⟨g, q1, q2, q3⟩ := c_passDays (d := 7) c1 hj.1 hn (Nat.le_refl _)
      have eq : plS tf t k a = (bI (a 8 + n ≤ 9999), dyA tf (min n (9999 - a 8)) a) := by
        unfold plS
        rw [if_neg (by rw [hs]; decide), if_neg (by rw [hs]; decide), if_neg (by rw [hs]; decide), if_neg (by rw [hs]; decide), if_neg (by rw [hs]; decide), if_neg (by rw [hs]; decide), if_pos hs, hv1, nn_nI (by omega)]
      have q1 : Sp 7 mX8_passDays [.ref 8, .int (nI n)] h1 (some (.int (plS tf t k a).1)) g := by rw [eq]; exact q1
      have q2 : CZ g (plS tf t k a).2 tf := by rw [eq]; exact q2
      have es : plL tf t (r + 1) k a = if (plS tf t k a).1 = 0 then (nI k, (plS tf t k a).2) else plL tf t r (k + 1) (plS tf t k a).2 := rfl
      by_cases h0 : (plS tf t k a).1 = 0
      · rw [es, if_pos h0]
        refine ⟨g, q2, f1.tr q3, fun o5 N S Q hN hS hQ => ?_⟩
        have hN1 : pn h1 ≤ N := by rw [f1.1.n]; exact hN
        have hS1 : ps h1 ≤ S := by rw [f1.1.s]; exact hS
        refine z_iload dX8_played_24 rfl ?_
        refine z_aload_n dX8_played_26 rfl rfl ?_
        refine y_getI FX8_130 dX8_played_27 (Or.inl rfl) hx.2.2.1.2.1.1 ?_
        refine z_eqi (y := nI (cnt tf t)) hx.2.2.1.2.2.1.2.2.1 ?_
        refine z_icmp_ge dX8_played_30 rfl (fun c => absurd c (fun q => absurd ((nI_leI (by omega) (by omega)).mp q) (by omega))) (fun _ => ?_)
        refine z_aload_n dX8_played_33 rfl rfl ?_
        refine z_iload dX8_played_34 rfl ?_
        refine z_iconst (v := 0) dX8_played_36 (by decide) ?_
        refine y_callV (as := [_, _]) CX4_get LX8_143 IX4_get VX4_get ⟨rfl, Nat.le_of_ble_eq_true rfl⟩ dX8_played_37 hx.2.2.1.2.1.1 rfl (Nat.le_of_ble_eq_true rfl) (Nat.le_of_ble_eq_true rfl) (by omega) (s_get (k := x + 1) (w := 6) (ms := 24) (i := k) (j := 0) hx.2.2.1.2.1 hx.2.2.1.2.2.1 (by omega) (by omega)) rok_i ⟨Nat.le_refl _, Nat.le_refl _, hN1, hS1⟩ ?_
        refine z_eqi vv.1 ?_
        refine z_bipush (v := 10) dX8_played_40 (by decide) ?_
        refine z_icmp_ne dX8_played_42 rfl (fun c => absurd (rfl) c) (fun _ => ?_)
        refine z_aload_n dX8_played_45 rfl rfl ?_
        refine z_aload_n dX8_played_46 rfl rfl ?_
        refine z_iload dX8_played_47 rfl ?_
        refine z_iconst (v := 1) dX8_played_49 (by decide) ?_
        refine y_callV (as := [_, _]) CX4_get LX8_143 IX4_get VX4_get ⟨rfl, Nat.le_of_ble_eq_true rfl⟩ dX8_played_50 hx.2.2.1.2.1.1 rfl (Nat.le_of_ble_eq_true rfl) (Nat.le_of_ble_eq_true rfl) (by omega) (s_get (k := x + 1) (w := 6) (ms := 24) (i := k) (j := 1) hx.2.2.1.2.1 hx.2.2.1.2.2.1 (by omega) (by omega)) rok_i ⟨Nat.le_refl _, Nat.le_refl _, hN1, hS1⟩ ?_
        refine z_eqi ((vv.2 1 (by omega) (by decide)).trans hv1) ?_
        refine y_callV (as := [_]) CX8_passDays LX8_217 IX8_passDays VX8_passDays ⟨rfl, Nat.le_of_ble_eq_true rfl⟩ dX8_played_53 c1.1.1 rfl (Nat.le_of_ble_eq_true rfl) (Nat.le_of_ble_eq_true rfl) (by omega) q1 (rok_z plS_01) (hg_ss q3.1 hN1 hS1) ?_
        refine z_goto dX8_played_56 rfl ?_
        refine z_istore dX8_played_66 (Nat.le_of_ble_eq_true rfl) ?_
        refine z_iload dX8_played_68 rfl ?_
        refine z_if_ne dX8_played_70 rfl (fun c => absurd (h0) c) (fun _ => ?_)
        refine z_iload dX8_played_73 rfl ?_
        refine z_iret dX8_played_75 ?_
        exact hQ
      · rw [es, if_neg h0]
        obtain ⟨h2, k0, k1, K⟩ := ih (k + 1) _ g (by omega) (jy_plS hj) q2 (f1.tr q3) (txc_fz q3 t x hx)
        refine ⟨h2, k0, k1, fun o5 N S Q hN hS hQ => ?_⟩
        have hN1 : pn h1 ≤ N := by rw [f1.1.n]; exact hN
        have hS1 : ps h1 ≤ S := by rw [f1.1.s]; exact hS
        refine z_iload dX8_played_24 rfl ?_
        refine z_aload_n dX8_played_26 rfl rfl ?_
        refine y_getI FX8_130 dX8_played_27 (Or.inl rfl) hx.2.2.1.2.1.1 ?_
        refine z_eqi (y := nI (cnt tf t)) hx.2.2.1.2.2.1.2.2.1 ?_
        refine z_icmp_ge dX8_played_30 rfl (fun c => absurd c (fun q => absurd ((nI_leI (by omega) (by omega)).mp q) (by omega))) (fun _ => ?_)
        refine z_aload_n dX8_played_33 rfl rfl ?_
        refine z_iload dX8_played_34 rfl ?_
        refine z_iconst (v := 0) dX8_played_36 (by decide) ?_
        refine y_callV (as := [_, _]) CX4_get LX8_143 IX4_get VX4_get ⟨rfl, Nat.le_of_ble_eq_true rfl⟩ dX8_played_37 hx.2.2.1.2.1.1 rfl (Nat.le_of_ble_eq_true rfl) (Nat.le_of_ble_eq_true rfl) (by omega) (s_get (k := x + 1) (w := 6) (ms := 24) (i := k) (j := 0) hx.2.2.1.2.1 hx.2.2.1.2.2.1 (by omega) (by omega)) rok_i ⟨Nat.le_refl _, Nat.le_refl _, hN1, hS1⟩ ?_
        refine z_eqi vv.1 ?_
        refine z_bipush (v := 10) dX8_played_40 (by decide) ?_
        refine z_icmp_ne dX8_played_42 rfl (fun c => absurd (rfl) c) (fun _ => ?_)
        refine z_aload_n dX8_played_45 rfl rfl ?_
        refine z_aload_n dX8_played_46 rfl rfl ?_
        refine z_iload dX8_played_47 rfl ?_
        refine z_iconst (v := 1) dX8_played_49 (by decide) ?_
        refine y_callV (as := [_, _]) CX4_get LX8_143 IX4_get VX4_get ⟨rfl, Nat.le_of_ble_eq_true rfl⟩ dX8_played_50 hx.2.2.1.2.1.1 rfl (Nat.le_of_ble_eq_true rfl) (Nat.le_of_ble_eq_true rfl) (by omega) (s_get (k := x + 1) (w := 6) (ms := 24) (i := k) (j := 1) hx.2.2.1.2.1 hx.2.2.1.2.2.1 (by omega) (by omega)) rok_i ⟨Nat.le_refl _, Nat.le_refl _, hN1, hS1⟩ ?_
        refine z_eqi ((vv.2 1 (by omega) (by decide)).trans hv1) ?_
        refine y_callV (as := [_]) CX8_passDays LX8_217 IX8_passDays VX8_passDays ⟨rfl, Nat.le_of_ble_eq_true rfl⟩ dX8_played_53 c1.1.1 rfl (Nat.le_of_ble_eq_true rfl) (Nat.le_of_ble_eq_true rfl) (by omega) q1 (rok_z plS_01) (hg_ss q3.1 hN1 hS1) ?_
        refine z_goto dX8_played_56 rfl ?_
        refine z_istore dX8_played_66 (Nat.le_of_ble_eq_true rfl) ?_
        refine z_iload dX8_played_68 rfl ?_
        refine z_if_ne dX8_played_70 rfl (fun _ => ?_) (fun c => absurd c (h0))
        refine z_iinc dX8_played_76 rfl (nI_1 _) (Nat.le_of_ble_eq_true rfl) ?_
        refine z_goto dX8_played_79 rfl ?_
        exact K _ N S Q hN hS hQ
    · obtain ⟨g, q1, q2, q3⟩ := c_perform (d := 5) c1 hj hx (show k < cnt tf t by omega) hs (by omega) (Nat.le_refl _)
      have es : plL tf t (r + 1) k a = if (plS tf t k a).1 = 0 then (nI k, (plS tf t k a).2) else plL tf t r (k + 1) (plS tf t k a).2 := rfl
      by_cases h0 : (plS tf t k a).1 = 0
      · rw [es, if_pos h0]
        refine ⟨g, q2, f1.tr q3, fun o5 N S Q hN hS hQ => ?_⟩
        have hN1 : pn h1 ≤ N := by rw [f1.1.n]; exact hN
        have hS1 : ps h1 ≤ S := by rw [f1.1.s]; exact hS
        refine z_iload dX8_played_24 rfl ?_
        refine z_aload_n dX8_played_26 rfl rfl ?_
        refine y_getI FX8_130 dX8_played_27 (Or.inl rfl) hx.2.2.1.2.1.1 ?_
        refine z_eqi (y := nI (cnt tf t)) hx.2.2.1.2.2.1.2.2.1 ?_
        refine z_icmp_ge dX8_played_30 rfl (fun c => absurd c (fun q => absurd ((nI_leI (by omega) (by omega)).mp q) (by omega))) (fun _ => ?_)
        refine z_aload_n dX8_played_33 rfl rfl ?_
        refine z_iload dX8_played_34 rfl ?_
        refine z_iconst (v := 0) dX8_played_36 (by decide) ?_
        refine y_callV (as := [_, _]) CX4_get LX8_143 IX4_get VX4_get ⟨rfl, Nat.le_of_ble_eq_true rfl⟩ dX8_played_37 hx.2.2.1.2.1.1 rfl (Nat.le_of_ble_eq_true rfl) (Nat.le_of_ble_eq_true rfl) (by omega) (s_get (k := x + 1) (w := 6) (ms := 24) (i := k) (j := 0) hx.2.2.1.2.1 hx.2.2.1.2.2.1 (by omega) (by omega)) rok_i ⟨Nat.le_refl _, Nat.le_refl _, hN1, hS1⟩ ?_
        refine z_eqi vv.1 ?_
        refine z_bipush (v := 10) dX8_played_40 (by decide) ?_
        refine z_icmp_ne dX8_played_42 rfl (fun _ => ?_) (fun c => absurd c (fun q => absurd ((nI_eq (b := 10) (by omega) (by omega)).mp q) (by omega)))
        refine z_aload_n dX8_played_59 rfl rfl ?_
        refine z_aload_n dX8_played_60 rfl rfl ?_
        refine z_iload dX8_played_61 rfl ?_
        refine y_callV (as := [_, _]) CX8_perform LX8_220 IX8_perform VX8_perform ⟨rfl, Nat.le_of_ble_eq_true rfl⟩ dX8_played_63 c1.1.1 rfl (Nat.le_of_ble_eq_true rfl) (Nat.le_of_ble_eq_true rfl) (by omega) q1 (rok_z plS_01) (hg_ss q3.1 hN1 hS1) ?_
        refine z_istore dX8_played_66 (Nat.le_of_ble_eq_true rfl) ?_
        refine z_iload dX8_played_68 rfl ?_
        refine z_if_ne dX8_played_70 rfl (fun c => absurd (h0) c) (fun _ => ?_)
        refine z_iload dX8_played_73 rfl ?_
        refine z_iret dX8_played_75 ?_
        exact hQ
      · rw [es, if_neg h0]
        obtain ⟨h2, k0, k1, K⟩ := ih (k + 1) _ g (by omega) (jy_plS hj) q2 (f1.tr q3) (txc_fz q3 t x hx)
        refine ⟨h2, k0, k1, fun o5 N S Q hN hS hQ => ?_⟩
        have hN1 : pn h1 ≤ N := by rw [f1.1.n]; exact hN
        have hS1 : ps h1 ≤ S := by rw [f1.1.s]; exact hS
        refine z_iload dX8_played_24 rfl ?_
        refine z_aload_n dX8_played_26 rfl rfl ?_
        refine y_getI FX8_130 dX8_played_27 (Or.inl rfl) hx.2.2.1.2.1.1 ?_
        refine z_eqi (y := nI (cnt tf t)) hx.2.2.1.2.2.1.2.2.1 ?_
        refine z_icmp_ge dX8_played_30 rfl (fun c => absurd c (fun q => absurd ((nI_leI (by omega) (by omega)).mp q) (by omega))) (fun _ => ?_)
        refine z_aload_n dX8_played_33 rfl rfl ?_
        refine z_iload dX8_played_34 rfl ?_
        refine z_iconst (v := 0) dX8_played_36 (by decide) ?_
        refine y_callV (as := [_, _]) CX4_get LX8_143 IX4_get VX4_get ⟨rfl, Nat.le_of_ble_eq_true rfl⟩ dX8_played_37 hx.2.2.1.2.1.1 rfl (Nat.le_of_ble_eq_true rfl) (Nat.le_of_ble_eq_true rfl) (by omega) (s_get (k := x + 1) (w := 6) (ms := 24) (i := k) (j := 0) hx.2.2.1.2.1 hx.2.2.1.2.2.1 (by omega) (by omega)) rok_i ⟨Nat.le_refl _, Nat.le_refl _, hN1, hS1⟩ ?_
        refine z_eqi vv.1 ?_
        refine z_bipush (v := 10) dX8_played_40 (by decide) ?_
        refine z_icmp_ne dX8_played_42 rfl (fun _ => ?_) (fun c => absurd c (fun q => absurd ((nI_eq (b := 10) (by omega) (by omega)).mp q) (by omega)))
        refine z_aload_n dX8_played_59 rfl rfl ?_
        refine z_aload_n dX8_played_60 rfl rfl ?_
        refine z_iload dX8_played_61 rfl ?_
        refine y_callV (as := [_, _]) CX8_perform LX8_220 IX8_perform VX8_perform ⟨rfl, Nat.le_of_ble_eq_true rfl⟩ dX8_played_63 c1.1.1 rfl (Nat.le_of_ble_eq_true rfl) (Nat.le_of_ble_eq_true rfl) (by omega) q1 (rok_z plS_01) (hg_ss q3.1 hN1 hS1) ?_
        refine z_istore dX8_played_66 (Nat.le_of_ble_eq_true rfl) ?_
        refine z_iload dX8_played_68 rfl ?_
        refine z_if_ne dX8_played_70 rfl (fun _ => ?_) (fun c => absurd c (h0))
        refine z_iinc dX8_played_76 rfl (nI_1 _) (Nat.le_of_ble_eq_true rfl) ?_
        refine z_goto dX8_played_79 rfl ?_
        exact K _ N S Q hN hS hQ

theorem C_played {h : Hp} {a : Fl} {tf : Nat → Int32} {d : Nat} (c1 : CZ h a tf) (hj : JY tf a) (ht : IT tf a) (hb : ∀ t, t < a 2 → TXB tf t) (x : Int32) (hd : 8 ≤ d) : ∃ h1, Sp d mX8_played [.ref 8, .int x] h (some (.int (mPlayed tf a x).1)) h1 ∧ CZ h1 (mPlayed tf a x).2 tf ∧ FZ h h1 := by
  have v2 := hj.1.1.2.2.1
  by_cases hc : vin x (a 2)
  · have eq : mPlayed tf a x = plL tf (nn x) (cnt tf (nn x)) 0 a := if_pos hc
    rw [eq]
    obtain ⟨t, htt, rfl⟩ := vin_of (by omega) hc
    rw [nn_nI (by omega)]
    obtain ⟨x, q1, q2⟩ := c1.2.2.2.2.2.2.2.2.2.2.2 t htt
    obtain ⟨h2, k0, k1, K⟩ := c_played_loop (h := h) (d := d) (x := x) (ht t htt) (hb t htt) hd (cnt tf t) 0 a h (by omega) hj c1 FZ.rf q2
    refine ⟨h2, ?_, k0, k1⟩
    intro N S Q hN hS hQ
    have hN : pn h ≤ N := by rw [← k1.1.n]; exact hN
    have hS : ps h ≤ S := by rw [← k1.1.s]; exact hS
    refine z_aload_n dX8_played_0 rfl rfl ?_
    refine y_getR FX8_10 dX8_played_1 rfl c1.1.1 c1.1.2.1 ?_
    refine z_iload_n dX8_played_4 rfl rfl ?_
    refine y_callV (as := [_]) CX1_textAt LX8_208 IX1_textAt VX1_textAt ⟨rfl, Nat.le_of_ble_eq_true rfl⟩ dX8_played_5 c1.1.2.2.2.2.1.o rfl (Nat.le_of_ble_eq_true rfl) (Nat.le_of_ble_eq_true rfl) (by omega) (c_textAt (d := 0) (by exact c1.1.2.2.2.2.1) (show _ = nI (a 2) from c1.2.2.2.2.2.2.2.2.2.1) v2 htt q1) (rok_o rfl) ⟨Nat.le_refl _, Nat.le_refl _, hN, hS⟩ ?_
    refine z_astore_n dX8_played_8 rfl (Nat.le_of_ble_eq_true rfl) ?_
    refine z_aload_n dX8_played_9 rfl rfl ?_
    refine z_ifnonnull dX8_played_10 rfl ?_
    refine z_aload_n dX8_played_16 rfl rfl ?_
    refine y_getR FX8_212 dX8_played_17 rfl q2.2.1 q2.2.2.1.1 ?_
    refine z_astore_n dX8_played_20 rfl (Nat.le_of_ble_eq_true rfl) ?_
    refine z_iconst (v := 0) dX8_played_21 (by decide) ?_
    refine z_istore dX8_played_22 (Nat.le_of_ble_eq_true rfl) ?_
    exact K none N S Q hN hS hQ
  · have eq : mPlayed tf a x = (-2, a) := if_neg hc
    rw [eq]
    refine ⟨h, ?_, c1, FZ.rf⟩
    intro N S Q hN hS hQ
    refine z_aload_n dX8_played_0 rfl rfl ?_
    refine y_getR FX8_10 dX8_played_1 rfl c1.1.1 c1.1.2.1 ?_
    refine z_iload_n dX8_played_4 rfl rfl ?_
    refine y_callV (as := [_]) CX1_textAt LX8_208 IX1_textAt VX1_textAt ⟨rfl, Nat.le_of_ble_eq_true rfl⟩ dX8_played_5 c1.1.2.2.2.2.1.o rfl (Nat.le_of_ble_eq_true rfl) (Nat.le_of_ble_eq_true rfl) (by omega) (c_textAtN (d := 0) (by exact c1.1.2.2.2.2.1) (show _ = nI (a 2) from c1.2.2.2.2.2.2.2.2.2.1) hc) (rok_n rfl) ⟨Nat.le_refl _, Nat.le_refl _, hN, hS⟩ ?_
    refine z_astore_nN dX8_played_8 rfl (Nat.le_of_ble_eq_true rfl) ?_
    refine z_aload_nN dX8_played_9 rfl rfl ?_
    refine z_ifnonnullN dX8_played_10 ?_
    refine z_bipush (v := -2) dX8_played_13 (by decide) ?_
    refine z_iret dX8_played_15 ?_
    exact hQ

