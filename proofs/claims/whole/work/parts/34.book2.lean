/-! the book and the ledger: both sides (walks by program: wip/whole/gen34.py) -/
theorem R_book {s : Ms} {h : Hp} {d : Nat} (hr : RM s h) (hv : IC s.1) (hb : IB s.1) (i w : Int32) (hd : 1 ≤ d) : Sp d mX9_book [.ref 488, .int i, .int w] h (some (.int (mBook s.1 i w))) h := by
  have h30 : s.1 12 ≤ 30 := hv.2.2.2.2.2.2.2.2.2.2.2.2
  have e12 : pI h 489 12 = nI (s.1 12) := hr.at (by omega) (by omega)
  by_cases hc : i = -1
  · subst hc
    intro N S Q hN hS hQ
    have hm := hr.m
    unfold mBook at hQ
    rw [if_pos rfl] at hQ
    generalize s.1 12 = n at *
    refine z_iload_n dX9_book_0 rfl rfl ?_
    refine z_iconst (v := -1) dX9_book_1 (by decide) ?_
    refine z_icmp_ne dX9_book_2 rfl (fun c => absurd (rfl) c) (fun _ => ?_)
    refine z_aload_n dX9_book_5 rfl rfl ?_
    refine y_getR FX9_7 dX9_book_6 rfl hm.o hm.f_a ?_
    refine z_bipush (v := 12) dX9_book_9 (by decide) ?_
    refine y_ialN (12) dX9_book_11 hm.A_a (Nat.le_of_ble_eq_true rfl) (by first | rfl | (simp only [← nI_add, ← pk_mul]; rfl)) (by omega) ?_
    refine z_eqi (y := nI (n)) e12 ?_
    refine z_iret dX9_book_12 ?_
    exact hQ
  · by_cases hin : vin i (s.1 12)
    · obtain ⟨j, hj, rfl⟩ := vin_of (by omega) hin
      by_cases hw : inr w 0 3
      · obtain ⟨w', hw', rfl⟩ := inr_of (n := 3) (by omega) hw
        unfold mBook
        rw [if_neg hc, if_pos ⟨hin, hw⟩, nn_nI (by omega), nn_nI (by omega)]
        exact r_bookN hr hv hb hj h30 (by omega) hd
      · intro N S Q hN hS hQ
        have hm := hr.m
        unfold mBook at hQ
        rw [if_neg hc, if_neg (fun q => hw q.2)] at hQ
        generalize hn : s.1 12 = n at *
        have hin' : 0 ≤ nI j ∧ nI j ≤ nI n - 1 := (le_pred (by omega)).mpr hin
        refine z_iload_n dX9_book_0 rfl rfl ?_
        refine z_iconst (v := -1) dX9_book_1 (by decide) ?_
        refine z_icmp_ne dX9_book_2 rfl (fun _ => ?_) (fun c => absurd c (hc))
        refine z_iload_n dX9_book_13 rfl rfl ?_
        refine z_iconst (v := 0) dX9_book_14 (by decide) ?_
        refine z_aload_n dX9_book_15 rfl rfl ?_
        refine y_getR FX9_7 dX9_book_16 rfl hm.o hm.f_a ?_
        refine z_bipush (v := 12) dX9_book_19 (by decide) ?_
        refine y_ialN (12) dX9_book_21 hm.A_a (Nat.le_of_ble_eq_true rfl) (by first | rfl | (simp only [← nI_add, ← pk_mul]; rfl)) (by omega) ?_
        refine z_eqi (y := nI (n)) e12 ?_
        refine z_iconst (v := 1) dX9_book_22 (by decide) ?_
        refine z_isub dX9_book_23 ?_
        refine y_callS (as := [_, _, _]) CX9_isIn LX9_63 SX9_isIn dX9_book_24 rfl (Nat.le_of_ble_eq_true rfl) (Nat.le_of_ble_eq_true rfl) (by omega) (r_isIn _ _ _) (rok_z bI_01) ⟨Nat.le_refl _, Nat.le_refl _, hN, hS⟩ ?_
        refine z_if_ne dX9_book_27 rfl (fun _ => ?_) (fun c => absurd c (bI_ne0.mpr hin'))
        refine z_aload_n dX9_book_33 rfl rfl ?_
        refine y_getR FX9_7 dX9_book_34 rfl hm.o hm.f_a ?_
        refine z_sipush (v := 4810) dX9_book_37 (by decide) ?_
        refine z_iconst (v := 2) dX9_book_40 (by decide) ?_
        refine z_iload_n dX9_book_41 rfl rfl ?_
        refine z_imul dX9_book_42 ?_
        refine z_iadd dX9_book_43 ?_
        refine z_iconst (v := 1) dX9_book_44 (by decide) ?_
        refine z_iadd dX9_book_45 ?_
        refine y_ialN (4810 + (2 * j) + 1) dX9_book_46 hm.A_a (Nat.le_of_ble_eq_true rfl) (by first | rfl | (simp only [← nI_add, ← pk_mul]; rfl)) (by omega) ?_
        refine z_istore_n dX9_book_47 rfl (Nat.le_of_ble_eq_true rfl) ?_
        refine z_iload_n dX9_book_48 rfl rfl ?_
        refine z_if_ne dX9_book_49 rfl (fun c49 => ?_) (fun c49 => ?_)
        · -- to 67
          refine z_iload_n dX9_book_67 rfl rfl ?_
          refine z_iconst (v := 1) dX9_book_68 (by decide) ?_
          refine z_icmp_ne dX9_book_69 rfl (fun c69 => ?_) (fun c69 => ?_)
          · -- to 80
            refine z_iload_n dX9_book_80 rfl rfl ?_
            refine z_iconst (v := 2) dX9_book_81 (by decide) ?_
            refine z_icmp_ne dX9_book_82 rfl (fun c82 => ?_) (fun c82 => ?_)
            · -- to 95
              refine z_iload_n dX9_book_95 rfl rfl ?_
              refine z_iconst (v := 3) dX9_book_96 (by decide) ?_
              refine z_icmp_ne dX9_book_97 rfl (fun c97 => ?_) (fun c97 => ?_)
              · -- to 108
                refine z_bipush (v := -2) dX9_book_108 (by decide) ?_
                refine z_iret dX9_book_110 ?_
                exact hQ
              · -- on
                exact absurd (by rw [c97]; decide) hw
            · -- on
              exact absurd (by rw [c82]; decide) hw
          · -- on
            exact absurd (by rw [c69]; decide) hw
        · -- on
          exact absurd (by rw [c49]; decide) hw
    · intro N S Q hN hS hQ
      have hm := hr.m
      unfold mBook at hQ
      rw [if_neg hc, if_neg (fun q => hin q.1)] at hQ
      generalize hn : s.1 12 = n at *
      refine z_iload_n dX9_book_0 rfl rfl ?_
      refine z_iconst (v := -1) dX9_book_1 (by decide) ?_
      refine z_icmp_ne dX9_book_2 rfl (fun _ => ?_) (fun c => absurd c (hc))
      refine z_iload_n dX9_book_13 rfl rfl ?_
      refine z_iconst (v := 0) dX9_book_14 (by decide) ?_
      refine z_aload_n dX9_book_15 rfl rfl ?_
      refine y_getR FX9_7 dX9_book_16 rfl hm.o hm.f_a ?_
      refine z_bipush (v := 12) dX9_book_19 (by decide) ?_
      refine y_ialN (12) dX9_book_21 hm.A_a (Nat.le_of_ble_eq_true rfl) (by first | rfl | (simp only [← nI_add, ← pk_mul]; rfl)) (by omega) ?_
      refine z_eqi (y := nI (n)) e12 ?_
      refine z_iconst (v := 1) dX9_book_22 (by decide) ?_
      refine z_isub dX9_book_23 ?_
      refine y_callS (as := [_, _, _]) CX9_isIn LX9_63 SX9_isIn dX9_book_24 rfl (Nat.le_of_ble_eq_true rfl) (Nat.le_of_ble_eq_true rfl) (by omega) (r_isIn _ _ _) (rok_z bI_01) ⟨Nat.le_refl _, Nat.le_refl _, hN, hS⟩ ?_
      refine z_if_ne dX9_book_27 rfl (fun c => absurd (bI_eq0.mpr (fun q => hin ((le_pred (by omega)).mp q))) c) (fun _ => ?_)
      refine z_bipush (v := -2) dX9_book_30 (by decide) ?_
      refine z_iret dX9_book_32 ?_
      exact hQ

theorem bkF_lt {a : Fl} (hb : IB a) {i : Nat} (hi : i < a 12) : bkF a i 2 ≤ 2 ∧ bkF a i 3 < 10000 := by
  obtain ⟨b0, b1, b2⟩ := hb i hi
  unfold bkF
  simp
  omega

theorem r_ledger_loop {s : Ms} {h : Hp} {d N S n w : Nat} {f : Nat → Nat} {Q : Option Value → Hp → Prop} (hr : RM s h) (hv : IC s.1) (hb : IB s.1) (hn : s.1 12 = n) (hw : w ≤ 2) (hf : f = fun i => if bkF s.1 i 2 = w then bkF s.1 i 3 else 0) (hd : 2 ≤ d) (hN : pn h ≤ N) (hS : ps h ≤ S) (hQ : Q (some (.int (nI (sumF f n)))) h) : ∀ r i : Nat, i + r = n → T d N S mX9_ledger 16 [some (.ref 488), some (.int (nI w)), some (.int (nI (sumF f i))), some (.int (nI i))] [] h Q := by
  intro r
  induction r with
  | zero =>
    intro i hi
    have e : i = n := by omega
    rw [e]
    have hm := hr.m
    have e12 : pI h 489 12 = nI n := by rw [← hn]; exact hr.at (by omega) (by omega)
    have h30 : n ≤ 30 := by rw [← hn]; exact hv.2.2.2.2.2.2.2.2.2.2.2.2
    refine z_iload_n dX9_ledger_16 rfl rfl ?_
    refine z_aload_n dX9_ledger_17 rfl rfl ?_
    refine y_getR FX9_7 dX9_ledger_18 rfl hm.o hm.f_a ?_
    refine z_bipush (v := 12) dX9_ledger_21 (by decide) ?_
    refine y_ialN (12) dX9_ledger_23 hm.A_a (Nat.le_of_ble_eq_true rfl) (by first | rfl | (simp only [← nI_add, ← pk_mul]; rfl)) (by omega) ?_
    refine z_eqi (y := nI (n)) e12 ?_
    refine z_icmp_ge dX9_ledger_24 rfl (fun _ => ?_) (fun c => absurd ((nI_leI (by omega) (by omega)).mpr (Nat.le_refl _)) c)
    refine z_iload_n dX9_ledger_56 rfl rfl ?_
    refine z_iret dX9_ledger_57 ?_
    exact hQ
  | succ r ih =>
    intro i hi
    have hm := hr.m
    have e12 : pI h 489 12 = nI n := by rw [← hn]; exact hr.at (by omega) (by omega)
    have h30 : n ≤ 30 := by rw [← hn]; exact hv.2.2.2.2.2.2.2.2.2.2.2.2
    have hlt := bkF_lt hb (show i < s.1 12 by omega)
    by_cases q : bkF s.1 i 2 = w
    · have en : sumF f (i + 1) = sumF f i + bkF s.1 i 3 := by rw [sumF_s, hf]; simp only [q]; rfl
      refine z_iload_n dX9_ledger_16 rfl rfl ?_
      refine z_aload_n dX9_ledger_17 rfl rfl ?_
      refine y_getR FX9_7 dX9_ledger_18 rfl hm.o hm.f_a ?_
      refine z_bipush (v := 12) dX9_ledger_21 (by decide) ?_
      refine y_ialN (12) dX9_ledger_23 hm.A_a (Nat.le_of_ble_eq_true rfl) (by first | rfl | (simp only [← nI_add, ← pk_mul]; rfl)) (by omega) ?_
      refine z_eqi (y := nI (n)) e12 ?_
      refine z_icmp_ge dX9_ledger_24 rfl (fun c => absurd c (fun q => absurd ((nI_leI (by omega) (by omega)).mp q) (by omega))) (fun _ => ?_)
      refine z_iload_n dX9_ledger_27 rfl rfl ?_
      refine z_aload_n dX9_ledger_28 rfl rfl ?_
      refine z_iload_n dX9_ledger_29 rfl rfl ?_
      refine z_iconst (v := 2) dX9_ledger_30 (by decide) ?_
      refine y_callV (as := [_, _]) CX9_book LX9_432 IX9_book VX9_book ⟨rfl, Nat.le_of_ble_eq_true rfl⟩ dX9_ledger_31 hm.o rfl (Nat.le_of_ble_eq_true rfl) (Nat.le_of_ble_eq_true rfl) (by omega) (r_bookN (d := 1) hr hv hb (i := i) (w := 2) (by omega) (by omega) (by omega) (Nat.le_refl _)) rok_i ⟨Nat.le_refl _, Nat.le_refl _, hN, hS⟩ ?_
      refine z_iload_n dX9_ledger_34 rfl rfl ?_
      refine z_icmp_ne dX9_ledger_35 rfl (fun c => absurd (by rw [q]) c) (fun _ => ?_)
      refine z_aload_n dX9_ledger_38 rfl rfl ?_
      refine z_iload_n dX9_ledger_39 rfl rfl ?_
      refine z_iconst (v := 3) dX9_ledger_40 (by decide) ?_
      refine y_callV (as := [_, _]) CX9_book LX9_432 IX9_book VX9_book ⟨rfl, Nat.le_of_ble_eq_true rfl⟩ dX9_ledger_41 hm.o rfl (Nat.le_of_ble_eq_true rfl) (Nat.le_of_ble_eq_true rfl) (by omega) (r_bookN (d := 1) hr hv hb (i := i) (w := 3) (by omega) (by omega) (by omega) (Nat.le_refl _)) rok_i ⟨Nat.le_refl _, Nat.le_refl _, hN, hS⟩ ?_
      refine z_goto dX9_ledger_44 rfl ?_
      refine z_iadd dX9_ledger_48 ?_
      refine z_eqi (nI_add _ _) ?_
      refine z_istore_n dX9_ledger_49 rfl (Nat.le_of_ble_eq_true rfl) ?_
      refine z_iinc dX9_ledger_50 rfl (nI_1 _) (Nat.le_of_ble_eq_true rfl) ?_
      refine z_goto dX9_ledger_53 rfl ?_
      have hh := ih (i + 1) (by omega)
      rw [en] at hh
      exact hh
    · have en : sumF f (i + 1) = sumF f i + 0 := by rw [sumF_s, hf]; simp only [q]; rfl
      refine z_iload_n dX9_ledger_16 rfl rfl ?_
      refine z_aload_n dX9_ledger_17 rfl rfl ?_
      refine y_getR FX9_7 dX9_ledger_18 rfl hm.o hm.f_a ?_
      refine z_bipush (v := 12) dX9_ledger_21 (by decide) ?_
      refine y_ialN (12) dX9_ledger_23 hm.A_a (Nat.le_of_ble_eq_true rfl) (by first | rfl | (simp only [← nI_add, ← pk_mul]; rfl)) (by omega) ?_
      refine z_eqi (y := nI (n)) e12 ?_
      refine z_icmp_ge dX9_ledger_24 rfl (fun c => absurd c (fun q => absurd ((nI_leI (by omega) (by omega)).mp q) (by omega))) (fun _ => ?_)
      refine z_iload_n dX9_ledger_27 rfl rfl ?_
      refine z_aload_n dX9_ledger_28 rfl rfl ?_
      refine z_iload_n dX9_ledger_29 rfl rfl ?_
      refine z_iconst (v := 2) dX9_ledger_30 (by decide) ?_
      refine y_callV (as := [_, _]) CX9_book LX9_432 IX9_book VX9_book ⟨rfl, Nat.le_of_ble_eq_true rfl⟩ dX9_ledger_31 hm.o rfl (Nat.le_of_ble_eq_true rfl) (Nat.le_of_ble_eq_true rfl) (by omega) (r_bookN (d := 1) hr hv hb (i := i) (w := 2) (by omega) (by omega) (by omega) (Nat.le_refl _)) rok_i ⟨Nat.le_refl _, Nat.le_refl _, hN, hS⟩ ?_
      refine z_iload_n dX9_ledger_34 rfl rfl ?_
      refine z_icmp_ne dX9_ledger_35 rfl (fun _ => ?_) (fun c => absurd c (fun c => q ((nI_eq (by omega) (by omega)).mp c)))
      refine z_iconst (v := 0) dX9_ledger_47 (by decide) ?_
      refine z_iadd dX9_ledger_48 ?_
      refine z_eqi (nI_add _ 0) ?_
      refine z_istore_n dX9_ledger_49 rfl (Nat.le_of_ble_eq_true rfl) ?_
      refine z_iinc dX9_ledger_50 rfl (nI_1 _) (Nat.le_of_ble_eq_true rfl) ?_
      refine z_goto dX9_ledger_53 rfl ?_
      have hh := ih (i + 1) (by omega)
      rw [en] at hh
      exact hh

theorem R_ledger {s : Ms} {h : Hp} {d : Nat} (hr : RM s h) (hv : IC s.1) (hb : IB s.1) (w : Int32) (hd : 2 ≤ d) : Sp d mX9_ledger [.ref 488, .int w] h (some (.int (mLedger s.1 w))) h := by
  intro N S Q hN hS hQ
  have hm := hr.m
  unfold mLedger at hQ
  by_cases hc : inr w 0 2
  · obtain ⟨w', hw', rfl⟩ := inr_of (n := 2) (by omega) hc
    rw [if_pos hc, nn_nI (by omega)] at hQ
    refine z_iload_n dX9_ledger_0 rfl rfl ?_
    refine z_iconst (v := 0) dX9_ledger_1 (by decide) ?_
    refine z_iconst (v := 2) dX9_ledger_2 (by decide) ?_
    refine y_callS (as := [_, _, _]) CX9_isIn LX9_63 SX9_isIn dX9_ledger_3 rfl (Nat.le_of_ble_eq_true rfl) (Nat.le_of_ble_eq_true rfl) (by omega) (r_isIn _ _ _) (rok_z bI_01) ⟨Nat.le_refl _, Nat.le_refl _, hN, hS⟩ ?_
    refine z_if_ne dX9_ledger_6 rfl (fun _ => ?_) (fun c => absurd c (bI_ne0.mpr hc))
    refine z_iconst (v := 0) dX9_ledger_12 (by decide) ?_
    refine z_istore_n dX9_ledger_13 rfl (Nat.le_of_ble_eq_true rfl) ?_
    refine z_iconst (v := 0) dX9_ledger_14 (by decide) ?_
    refine z_istore_n dX9_ledger_15 rfl (Nat.le_of_ble_eq_true rfl) ?_
    exact r_ledger_loop hr hv hb rfl hw' rfl hd hN hS hQ (s.1 12) 0 (by omega)
  · rw [if_neg hc] at hQ
    refine z_iload_n dX9_ledger_0 rfl rfl ?_
    refine z_iconst (v := 0) dX9_ledger_1 (by decide) ?_
    refine z_iconst (v := 2) dX9_ledger_2 (by decide) ?_
    refine y_callS (as := [_, _, _]) CX9_isIn LX9_63 SX9_isIn dX9_ledger_3 rfl (Nat.le_of_ble_eq_true rfl) (Nat.le_of_ble_eq_true rfl) (by omega) (r_isIn _ _ _) (rok_z bI_01) ⟨Nat.le_refl _, Nat.le_refl _, hN, hS⟩ ?_
    refine z_if_ne dX9_ledger_6 rfl (fun c => absurd (bI_eq0.mpr hc) c) (fun _ => ?_)
    refine z_bipush (v := -2) dX9_ledger_9 (by decide) ?_
    refine z_iret dX9_ledger_11 ?_
    exact hQ

theorem wv_b {h : Hp} {a : Fl} {i : Nat} (hw : WV h 10 (snap a)) (hi : i < a 12) : pI h 16 (i * 2 + 0) = nI (a (4810 + 2 * i)) ∧ pI h 16 (i * 2 + 1) = nI (cvB (a (4810 + 2 * i + 1))) := by
  have := hw.2.2.2.2.2.2.2.2 i hi
  rw [snap_b, show 94 + 2 * i = 93 + (2 * i + 1) by omega, snap_b] at this
  exact this
theorem cvB_1 {v : Nat} (h : v < 480000) : cvB v / 10000 % 12 = v / 40000 := by unfold cvB; omega
theorem cvB_2 {v : Nat} (h : v < 480000) : cvB v / 10000 / 12 = v / 10000 % 4 := by unfold cvB; omega
theorem cvB_3 {v : Nat} : cvB v % 10000 = v % 10000 := by unfold cvB; omega
theorem cvB_lt {v : Nat} (h : v < 480000) : cvB v < 1000000 := by unfold cvB; omega

theorem c_writtenN {h : Hp} {d : Nat} {a : Fl} {tx : Nat → Nat → Prop} (hs : MkS h 9) (hv : MV h 9 a tx) (hb : IB a) {i w : Nat} (hi : i < a 12) (hw : w < 4) (hd : 1 ≤ d) : Sp d mX7_written [.ref 10, .int (nI i), .int (nI w)] h (some (.int (nI (bkF a i w)))) h := by
  intro N S Q hN hS hQ
  have hC : RwC h 15 2 30 (a 12) := hv.1.2.2.2.2.2.2.2.1
  have h30 := hC.2.2.2.1
  have ew := wv_b hv.1 hi
  obtain ⟨-, b1, -⟩ := hb i hi
  unfold bkF at hQ
  generalize hvv : a (4810 + 2 * i + 1) = v at *
  have hcl := cvB_lt b1
  rcases (show w = 0 ∨ w = 1 ∨ w = 2 ∨ w = 3 by omega) with q | q | q | q
  · subst q
    simp at hQ
    refine z_aload_n dX7_written_0 rfl rfl ?_
    refine y_getR FX7_27 dX7_written_1 rfl hs.now.1 hs.now.2.2.2.2.2.1 ?_
    refine z_iload_n dX7_written_4 rfl rfl ?_
    refine z_iconst (v := 1) dX7_written_5 (by decide) ?_
    refine y_callV (as := [_, _]) CX4_get LX7_48 IX4_get VX4_get ⟨rfl, Nat.le_of_ble_eq_true rfl⟩ dX7_written_6 hs.now.2.2.2.2.2.2.1 rfl (Nat.le_of_ble_eq_true rfl) (Nat.le_of_ble_eq_true rfl) (by omega) (s_get (k := 15) (w := 2) (ms := 30) (i := i) (j := 1) (by exact hs.now.2.2.2.2.2.2) hC hi (by omega)) rok_i ⟨Nat.le_refl _, Nat.le_refl _, hN, hS⟩ ?_
    refine z_eqi ew.2 ?_
    refine z_istore_n dX7_written_9 rfl (Nat.le_of_ble_eq_true rfl) ?_
    refine z_iload_n dX7_written_10 rfl rfl ?_
    refine z_tableIn (off := 25) (tgt := 36) dX7_written_11 (by decide) (by decide) rfl rfl ?_
    refine z_aload_n dX7_written_36 rfl rfl ?_
    refine y_getR FX7_27 dX7_written_37 rfl hs.now.1 hs.now.2.2.2.2.2.1 ?_
    refine z_iload_n dX7_written_40 rfl rfl ?_
    refine z_iconst (v := 0) dX7_written_41 (by decide) ?_
    refine y_callV (as := [_, _]) CX4_get LX7_48 IX4_get VX4_get ⟨rfl, Nat.le_of_ble_eq_true rfl⟩ dX7_written_42 hs.now.2.2.2.2.2.2.1 rfl (Nat.le_of_ble_eq_true rfl) (Nat.le_of_ble_eq_true rfl) (by omega) (s_get (k := 15) (w := 2) (ms := 30) (i := i) (j := 0) (by exact hs.now.2.2.2.2.2.2) hC hi (by omega)) rok_i ⟨Nat.le_refl _, Nat.le_refl _, hN, hS⟩ ?_
    refine z_eqi ew.1 ?_
    refine z_iret dX7_written_45 ?_
    exact hQ
  · subst q
    simp at hQ
    refine z_aload_n dX7_written_0 rfl rfl ?_
    refine y_getR FX7_27 dX7_written_1 rfl hs.now.1 hs.now.2.2.2.2.2.1 ?_
    refine z_iload_n dX7_written_4 rfl rfl ?_
    refine z_iconst (v := 1) dX7_written_5 (by decide) ?_
    refine y_callV (as := [_, _]) CX4_get LX7_48 IX4_get VX4_get ⟨rfl, Nat.le_of_ble_eq_true rfl⟩ dX7_written_6 hs.now.2.2.2.2.2.2.1 rfl (Nat.le_of_ble_eq_true rfl) (Nat.le_of_ble_eq_true rfl) (by omega) (s_get (k := 15) (w := 2) (ms := 30) (i := i) (j := 1) (by exact hs.now.2.2.2.2.2.2) hC hi (by omega)) rok_i ⟨Nat.le_refl _, Nat.le_refl _, hN, hS⟩ ?_
    refine z_eqi ew.2 ?_
    refine z_istore_n dX7_written_9 rfl (Nat.le_of_ble_eq_true rfl) ?_
    refine z_iload_n dX7_written_10 rfl rfl ?_
    refine z_tableIn (off := 35) (tgt := 46) dX7_written_11 (by decide) (by decide) rfl rfl ?_
    refine z_iload_n dX7_written_46 rfl rfl ?_
    refine z_sipush (v := 10000) dX7_written_47 (by decide) ?_
    refine z_idiv dX7_written_50 (by decide) ?_
    refine z_eqi (pk_div (a := cvB v) (d := 10000) (by omega) (by omega) (by omega)) ?_
    refine z_bipush (v := 12) dX7_written_51 (by decide) ?_
    refine z_irem dX7_written_53 (by decide) ?_
    refine z_eqi (irem_n (a := cvB v / 10000) (d := 12) (by omega) (by omega) (by omega)) ?_
    refine z_iret dX7_written_54 ?_
    rw [cvB_1 b1]
    exact hQ
  · subst q
    simp at hQ
    refine z_aload_n dX7_written_0 rfl rfl ?_
    refine y_getR FX7_27 dX7_written_1 rfl hs.now.1 hs.now.2.2.2.2.2.1 ?_
    refine z_iload_n dX7_written_4 rfl rfl ?_
    refine z_iconst (v := 1) dX7_written_5 (by decide) ?_
    refine y_callV (as := [_, _]) CX4_get LX7_48 IX4_get VX4_get ⟨rfl, Nat.le_of_ble_eq_true rfl⟩ dX7_written_6 hs.now.2.2.2.2.2.2.1 rfl (Nat.le_of_ble_eq_true rfl) (Nat.le_of_ble_eq_true rfl) (by omega) (s_get (k := 15) (w := 2) (ms := 30) (i := i) (j := 1) (by exact hs.now.2.2.2.2.2.2) hC hi (by omega)) rok_i ⟨Nat.le_refl _, Nat.le_refl _, hN, hS⟩ ?_
    refine z_eqi ew.2 ?_
    refine z_istore_n dX7_written_9 rfl (Nat.le_of_ble_eq_true rfl) ?_
    refine z_iload_n dX7_written_10 rfl rfl ?_
    refine z_tableIn (off := 44) (tgt := 55) dX7_written_11 (by decide) (by decide) rfl rfl ?_
    refine z_iload_n dX7_written_55 rfl rfl ?_
    refine z_sipush (v := 10000) dX7_written_56 (by decide) ?_
    refine z_idiv dX7_written_59 (by decide) ?_
    refine z_eqi (pk_div (a := cvB v) (d := 10000) (by omega) (by omega) (by omega)) ?_
    refine z_bipush (v := 12) dX7_written_60 (by decide) ?_
    refine z_idiv dX7_written_62 (by decide) ?_
    refine z_eqi (pk_div (a := cvB v / 10000) (d := 12) (by omega) (by omega) (by omega)) ?_
    refine z_iret dX7_written_63 ?_
    rw [cvB_2 b1]
    exact hQ
  · subst q
    simp at hQ
    refine z_aload_n dX7_written_0 rfl rfl ?_
    refine y_getR FX7_27 dX7_written_1 rfl hs.now.1 hs.now.2.2.2.2.2.1 ?_
    refine z_iload_n dX7_written_4 rfl rfl ?_
    refine z_iconst (v := 1) dX7_written_5 (by decide) ?_
    refine y_callV (as := [_, _]) CX4_get LX7_48 IX4_get VX4_get ⟨rfl, Nat.le_of_ble_eq_true rfl⟩ dX7_written_6 hs.now.2.2.2.2.2.2.1 rfl (Nat.le_of_ble_eq_true rfl) (Nat.le_of_ble_eq_true rfl) (by omega) (s_get (k := 15) (w := 2) (ms := 30) (i := i) (j := 1) (by exact hs.now.2.2.2.2.2.2) hC hi (by omega)) rok_i ⟨Nat.le_refl _, Nat.le_refl _, hN, hS⟩ ?_
    refine z_eqi ew.2 ?_
    refine z_istore_n dX7_written_9 rfl (Nat.le_of_ble_eq_true rfl) ?_
    refine z_iload_n dX7_written_10 rfl rfl ?_
    refine z_tableOut (tgt := 64) dX7_written_11 (Or.inr (by decide)) rfl ?_
    refine z_iload_n dX7_written_64 rfl rfl ?_
    refine z_sipush (v := 10000) dX7_written_65 (by decide) ?_
    refine z_irem dX7_written_68 (by decide) ?_
    refine z_eqi (irem_n (a := cvB v) (d := 10000) (by omega) (by omega) (by omega)) ?_
    refine z_iret dX7_written_69 ?_
    rw [cvB_3]
    exact hQ


