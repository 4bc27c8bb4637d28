/-! ahead, until: the class (walks by program: wip/whole/gen73.py) -/
abbrev okL (a : Fl) (w z : Int32) : Prop := w = 0 ∨ (w = 1 ∧ vin z (a 1)) ∨ (w = 2 ∧ vin z (a 11))
theorem c_mayLook {h : Hp} {a : Fl} {tf : Nat → Int32} {d : Nat} (c1 : CZ h a tf) (w z : Int32) (hd : 1 ≤ d) : Sp d mX8_mayLookAhead [.ref 8, .int w, .int z] h (some (.int (bI (okL a w z)))) h := by
  intro N S Q hN hS hQ
  by_cases k0 : w = 0
  · subst k0
    refine z_iload_n dX8_mayLookAhead_0 rfl rfl ?_
    refine z_if_eq dX8_mayLookAhead_1 rfl (fun _ => ?_) (fun c => absurd (by decide) c)
    refine z_iconst (v := 1) dX8_mayLookAhead_48 (by decide) ?_
    refine z_goto dX8_mayLookAhead_49 rfl ?_
    refine z_iret dX8_mayLookAhead_53 ?_
    rw [bI_t (Or.inl rfl)] at hQ; exact hQ
  · by_cases k1 : w = 1
    · subst k1
      by_cases kv : vin z (snap a 0)
      · skip
        refine z_iload_n dX8_mayLookAhead_0 rfl rfl ?_
        refine z_if_eq dX8_mayLookAhead_1 rfl (fun c => absurd c (by decide)) (fun _ => ?_)
        refine z_iload_n dX8_mayLookAhead_4 rfl rfl ?_
        refine z_iconst (v := 1) dX8_mayLookAhead_5 (by decide) ?_
        refine z_icmp_ne dX8_mayLookAhead_6 rfl (fun c => absurd (by decide) c) (fun _ => ?_)
        refine z_aload_n dX8_mayLookAhead_9 rfl rfl ?_
        refine y_getR FX8_10 dX8_mayLookAhead_10 rfl c1.1.1 c1.1.2.1 ?_
        refine y_getR FX8_79 dX8_mayLookAhead_13 rfl c1.1.2.2.2.2.1.o c1.1.2.2.2.2.1.f0 ?_
        refine y_getR FX8_82 dX8_mayLookAhead_16 rfl c1.1.2.2.2.2.1.now.1 c1.1.2.2.2.2.1.now.2.1 ?_
        refine z_iload_n dX8_mayLookAhead_19 rfl rfl ?_
        refine y_callV (as := [_]) CX4_has LX8_140 IX4_has VX4_has ⟨rfl, Nat.le_of_ble_eq_true rfl⟩ dX8_mayLookAhead_20 c1.1.2.2.2.2.1.now.2.2.1.1 rfl (Nat.le_of_ble_eq_true rfl) (Nat.le_of_ble_eq_true rfl) (by omega) (s_has c1.1.2.2.2.2.1.now.2.2.1 c1.2.1.2.2.2.1 z) (rok_z bI_01) ⟨Nat.le_refl _, Nat.le_refl _, hN, hS⟩ ?_
        refine z_if_ne dX8_mayLookAhead_23 rfl (fun _ => ?_) (fun c => absurd c (bI_ne0.mpr kv))
        refine z_iconst (v := 1) dX8_mayLookAhead_48 (by decide) ?_
        refine z_goto dX8_mayLookAhead_49 rfl ?_
        refine z_iret dX8_mayLookAhead_53 ?_
        rw [bI_t (Or.inr (Or.inl ⟨rfl, kv⟩))] at hQ; exact hQ
      · skip
        refine z_iload_n dX8_mayLookAhead_0 rfl rfl ?_
        refine z_if_eq dX8_mayLookAhead_1 rfl (fun c => absurd c (by decide)) (fun _ => ?_)
        refine z_iload_n dX8_mayLookAhead_4 rfl rfl ?_
        refine z_iconst (v := 1) dX8_mayLookAhead_5 (by decide) ?_
        refine z_icmp_ne dX8_mayLookAhead_6 rfl (fun c => absurd (by decide) c) (fun _ => ?_)
        refine z_aload_n dX8_mayLookAhead_9 rfl rfl ?_
        refine y_getR FX8_10 dX8_mayLookAhead_10 rfl c1.1.1 c1.1.2.1 ?_
        refine y_getR FX8_79 dX8_mayLookAhead_13 rfl c1.1.2.2.2.2.1.o c1.1.2.2.2.2.1.f0 ?_
        refine y_getR FX8_82 dX8_mayLookAhead_16 rfl c1.1.2.2.2.2.1.now.1 c1.1.2.2.2.2.1.now.2.1 ?_
        refine z_iload_n dX8_mayLookAhead_19 rfl rfl ?_
        refine y_callV (as := [_]) CX4_has LX8_140 IX4_has VX4_has ⟨rfl, Nat.le_of_ble_eq_true rfl⟩ dX8_mayLookAhead_20 c1.1.2.2.2.2.1.now.2.2.1.1 rfl (Nat.le_of_ble_eq_true rfl) (Nat.le_of_ble_eq_true rfl) (by omega) (s_has c1.1.2.2.2.2.1.now.2.2.1 c1.2.1.2.2.2.1 z) (rok_z bI_01) ⟨Nat.le_refl _, Nat.le_refl _, hN, hS⟩ ?_
        refine z_if_ne dX8_mayLookAhead_23 rfl (fun c => absurd (bI_eq0.mpr kv) c) (fun _ => ?_)
        refine z_iload_n dX8_mayLookAhead_26 rfl rfl ?_
        refine z_iconst (v := 2) dX8_mayLookAhead_27 (by decide) ?_
        refine z_icmp_ne dX8_mayLookAhead_28 rfl (fun _ => ?_) (fun c => absurd c (by decide))
        refine z_iconst (v := 0) dX8_mayLookAhead_52 (by decide) ?_
        refine z_iret dX8_mayLookAhead_53 ?_
        rw [bI_f (fun q => by rcases q with q | q | q; exact absurd q (by decide); exact kv q.2; exact absurd q.1 (by decide))] at hQ; exact hQ
    · by_cases k2 : w = 2
      · subst k2
        by_cases kv : vin z (snap a 4)
        · skip
          refine z_iload_n dX8_mayLookAhead_0 rfl rfl ?_
          refine z_if_eq dX8_mayLookAhead_1 rfl (fun c => absurd c (by decide)) (fun _ => ?_)
          refine z_iload_n dX8_mayLookAhead_4 rfl rfl ?_
          refine z_iconst (v := 1) dX8_mayLookAhead_5 (by decide) ?_
          refine z_icmp_ne dX8_mayLookAhead_6 rfl (fun _ => ?_) (fun c => absurd c (by decide))
          refine z_iload_n dX8_mayLookAhead_26 rfl rfl ?_
          refine z_iconst (v := 2) dX8_mayLookAhead_27 (by decide) ?_
          refine z_icmp_ne dX8_mayLookAhead_28 rfl (fun c => absurd (by decide) c) (fun _ => ?_)
          refine z_aload_n dX8_mayLookAhead_31 rfl rfl ?_
          refine y_getR FX8_10 dX8_mayLookAhead_32 rfl c1.1.1 c1.1.2.1 ?_
          refine y_getR FX8_79 dX8_mayLookAhead_35 rfl c1.1.2.2.2.2.1.o c1.1.2.2.2.2.1.f0 ?_
          refine y_getR FX8_127 dX8_mayLookAhead_38 rfl c1.1.2.2.2.2.1.now.1 c1.1.2.2.2.2.1.now.2.2.2.1 ?_
          refine z_iload_n dX8_mayLookAhead_41 rfl rfl ?_
          refine y_callV (as := [_]) CX4_has LX8_140 IX4_has VX4_has ⟨rfl, Nat.le_of_ble_eq_true rfl⟩ dX8_mayLookAhead_42 c1.1.2.2.2.2.1.now.2.2.2.2.1.1 rfl (Nat.le_of_ble_eq_true rfl) (Nat.le_of_ble_eq_true rfl) (by omega) (s_has c1.1.2.2.2.2.1.now.2.2.2.2.1 c1.2.1.2.2.2.2.2.1 z) (rok_z bI_01) ⟨Nat.le_refl _, Nat.le_refl _, hN, hS⟩ ?_
          refine z_if_eq dX8_mayLookAhead_45 rfl (fun c => absurd c (bI_ne0.mpr kv)) (fun _ => ?_)
          refine z_iconst (v := 1) dX8_mayLookAhead_48 (by decide) ?_
          refine z_goto dX8_mayLookAhead_49 rfl ?_
          refine z_iret dX8_mayLookAhead_53 ?_
          rw [bI_t (Or.inr (Or.inr ⟨rfl, kv⟩))] at hQ; exact hQ
        · skip
          refine z_iload_n dX8_mayLookAhead_0 rfl rfl ?_
          refine z_if_eq dX8_mayLookAhead_1 rfl (fun c => absurd c (by decide)) (fun _ => ?_)
          refine z_iload_n dX8_mayLookAhead_4 rfl rfl ?_
          refine z_iconst (v := 1) dX8_mayLookAhead_5 (by decide) ?_
          refine z_icmp_ne dX8_mayLookAhead_6 rfl (fun _ => ?_) (fun c => absurd c (by decide))
          refine z_iload_n dX8_mayLookAhead_26 rfl rfl ?_
          refine z_iconst (v := 2) dX8_mayLookAhead_27 (by decide) ?_
          refine z_icmp_ne dX8_mayLookAhead_28 rfl (fun c => absurd (by decide) c) (fun _ => ?_)
          refine z_aload_n dX8_mayLookAhead_31 rfl rfl ?_
          refine y_getR FX8_10 dX8_mayLookAhead_32 rfl c1.1.1 c1.1.2.1 ?_
          refine y_getR FX8_79 dX8_mayLookAhead_35 rfl c1.1.2.2.2.2.1.o c1.1.2.2.2.2.1.f0 ?_
          refine y_getR FX8_127 dX8_mayLookAhead_38 rfl c1.1.2.2.2.2.1.now.1 c1.1.2.2.2.2.1.now.2.2.2.1 ?_
          refine z_iload_n dX8_mayLookAhead_41 rfl rfl ?_
          refine y_callV (as := [_]) CX4_has LX8_140 IX4_has VX4_has ⟨rfl, Nat.le_of_ble_eq_true rfl⟩ dX8_mayLookAhead_42 c1.1.2.2.2.2.1.now.2.2.2.2.1.1 rfl (Nat.le_of_ble_eq_true rfl) (Nat.le_of_ble_eq_true rfl) (by omega) (s_has c1.1.2.2.2.2.1.now.2.2.2.2.1 c1.2.1.2.2.2.2.2.1 z) (rok_z bI_01) ⟨Nat.le_refl _, Nat.le_refl _, hN, hS⟩ ?_
          refine z_if_eq dX8_mayLookAhead_45 rfl (fun _ => ?_) (fun c => absurd (bI_eq0.mpr kv) c)
          refine z_iconst (v := 0) dX8_mayLookAhead_52 (by decide) ?_
          refine z_iret dX8_mayLookAhead_53 ?_
          rw [bI_f (fun q => by rcases q with q | q | q; exact absurd q (by decide); exact absurd q.1 (by decide); exact kv q.2)] at hQ; exact hQ
      · skip
        refine z_iload_n dX8_mayLookAhead_0 rfl rfl ?_
        refine z_if_eq dX8_mayLookAhead_1 rfl (fun c => absurd c (k0)) (fun _ => ?_)
        refine z_iload_n dX8_mayLookAhead_4 rfl rfl ?_
        refine z_iconst (v := 1) dX8_mayLookAhead_5 (by decide) ?_
        refine z_icmp_ne dX8_mayLookAhead_6 rfl (fun _ => ?_) (fun c => absurd c (k1))
        refine z_iload_n dX8_mayLookAhead_26 rfl rfl ?_
        refine z_iconst (v := 2) dX8_mayLookAhead_27 (by decide) ?_
        refine z_icmp_ne dX8_mayLookAhead_28 rfl (fun _ => ?_) (fun c => absurd c (k2))
        refine z_iconst (v := 0) dX8_mayLookAhead_52 (by decide) ?_
        refine z_iret dX8_mayLookAhead_53 ?_
        rw [bI_f (fun q => by rcases q with q | q | q; exact k0 q; exact k1 q.1; exact k2 q.1)] at hQ; exact hQ
/-- the world for what might come -/
def CS (h : Hp) : Prop := pR h 8 2 = some 465 ∧ WoS h 465 ∧ ∃ W, WV h 465 W
theorem CZ.sc {h h1 : Hp} {a : Fl} {tf : Nat → Int32} (c : CZ h a tf) (f : FD 465 h h1) (h4 : a 4 ≤ 30) : CZ h1 a tf := ⟨f.1.cb c.1, c.2.fr h4 f.1.R (fun k q1 q2 => f.2.2 k (by omega) (by omega) (by omega)) (fun t x q => q.fr f.1 (fun k hk => f.2.2 k (by omega) (by omega) (by omega)))⟩
theorem CS.sc {h h1 : Hp} {W : Fl} (c : CS h) (f : SS h h1) (hv : WV h1 465 W) : CS h1 := ⟨by rw [f.R]; exact c.1, f.wo c.2.1, W, hv⟩
theorem CZ.l2 {h : Hp} {a W : Fl} {tf : Nat → Int32} (c : CZ h a tf) (s : WoS h 465) (hv : WV h 465 W) : CLW h a tf 465 W := ⟨c.1.1, c.1.2.1, c.1.2.2.1, c.1.2.2.2.1, c.1.2.2.2.2.1, c.1.2.2.2.2.2, c.2.mo, s, hv, by omega⟩
theorem c_scr {h : Hp} {a : Fl} {tf : Nat → Int32} {d : Nat} (c : CZ h a tf) (s : CS h) (hd : 2 ≤ d) : ∃ h1, Sp d mX7_take [.ref 465, .ref 10, .int 0] h none h1 ∧ CLW h1 a tf 465 (snap a) ∧ FD 465 h h1 := by
  obtain ⟨s1, s2, W, s3⟩ := s
  obtain ⟨h1, t1, t2, t3⟩ := c_take0 (d := d) s2 s3 c.1.2.2.2.2.1.now c.2.1 (by omega) hd
  exact ⟨h1, t1, (c.l2 s2 s3).st t3.d t2 (Or.inr rfl), t3.d⟩
theorem ah_stay {b : Nat} {tf : Nat → Int32} {a : Fl} {i : Nat} (h : ¬ ahW b tf a i 1 < 9999) : ∀ r, ahW b tf a (i + r) = ahW b tf a i := by
  intro r
  induction r with
  | zero => rfl
  | succ r ih =>
    show (if ahW b tf a (i + r) 1 < 9999 then _ else ahW b tf a (i + r)) = _
    rw [ih, if_neg h]

theorem c_ah_loop {h : Hp} {a : Fl} {tf : Nat → Int32} {d n : Nat} {w z : Int32} (hj : JD tf a) (hsc : pR h 8 2 = some 465) (hn : n ≤ 60) (hd : 7 ≤ d) : ∀ r i (h1 : Hp), i + r = n → CLW h1 a tf 465 (ahW 1 tf a i) → FD 465 h h1 → ∃ h2, CLW h2 a tf 465 (ahW 1 tf a n) ∧ FD 465 h h2 ∧ ∀ (N S : Nat) (Q : Option Value → Hp → Prop), pn h ≤ N → ps h ≤ S → (∀ o4, T d N S mX8_ahead 73 [some (.ref 8), some (.int (nI n)), some (.int w), some (.int z), o4] [] h2 Q) → T d N S mX8_ahead 39 [some (.ref 8), some (.int (nI n)), some (.int w), some (.int z), some (.int (nI i))] [] h1 Q := by
  intro r
  induction r with
  | zero =>
    intro i h1 hi l1 f1
    have e : i = n := by omega
    subst e
    refine ⟨h1, l1, f1, fun N S Q hN hS K => ?_⟩
    refine z_iload dX8_ahead_39 rfl ?_
    refine z_iload_n dX8_ahead_41 rfl rfl ?_
    refine z_icmp_ge dX8_ahead_42 rfl (fun _ => ?_) (fun c => absurd (Int32.le_refl _) c)
    exact K _
  | succ r ih =>
    intro i h1 hi l1 f1
    have iv := iw_ah (b := 1) (tf := tf) hj.2.1 i
    have iv1 := iv.1.2.1
    by_cases h9 : ahW 1 tf a i 1 < 9999
    · have es : ahW 1 tf a (i + 1) = wPass 1 tf a (ahW 1 tf a i) := if_pos h9
      obtain ⟨g1, p1, p2, p3⟩ := c_passDay (d := 6) l1 (Or.inr rfl) iv rfl hj.1.1 hj.1.2.2.1 hj.1.2.2.2.1 hj.2.2.2 hj.2.2.1 (Nat.le_refl _)
      obtain ⟨h2, q1, q2, K⟩ := ih (i + 1) g1 (by omega) (by rw [es]; exact p2) (f1.tr p3)
      refine ⟨h2, q1, q2, fun N S Q hN hS KK => ?_⟩
      have hN1 : pn h1 ≤ N := by rw [f1.1.n]; exact hN
      have hS1 : ps h1 ≤ S := by rw [f1.1.s]; exact hS
      refine z_iload dX8_ahead_39 rfl ?_
      refine z_iload_n dX8_ahead_41 rfl rfl ?_
      refine z_icmp_ge dX8_ahead_42 rfl (fun c => absurd c (fun q => absurd ((nI_leI (by omega) (by omega)).mp q) (by omega))) (fun _ => ?_)
      refine z_aload_n dX8_ahead_45 rfl rfl ?_
      refine y_getR FX8_22 dX8_ahead_46 rfl l1.1 (by rw [f1.1.R]; exact hsc) ?_
      refine y_getI FX8_133 dX8_ahead_49 (Or.inl rfl) l1.2.2.2.2.2.2.2.1.1 ?_
      refine z_eqi (y := nI (ahW 1 tf a i 1)) l1.2.2.2.2.2.2.2.2.1.1 ?_
      refine z_sipush (v := 9999) dX8_ahead_52 (by decide) ?_
      refine z_icmp_ge dX8_ahead_55 rfl (fun c => absurd c (fun q => absurd ((nI_leI (a := 9999) (by omega) (by omega)).mp q) (by omega))) (fun _ => ?_)
      refine z_aload_n dX8_ahead_58 rfl rfl ?_
      refine z_aload_n dX8_ahead_59 rfl rfl ?_
      refine y_getR FX8_22 dX8_ahead_60 rfl l1.1 (by rw [f1.1.R]; exact hsc) ?_
      refine y_callV (as := [_]) CX8_passDay LX8_173 IX8_passDay VX8_passDay ⟨rfl, Nat.le_of_ble_eq_true rfl⟩ dX8_ahead_63 l1.1 rfl (Nat.le_of_ble_eq_true rfl) (Nat.le_of_ble_eq_true rfl) (by omega) p1 rok_i (hg_ss p3.1 hN1 hS1) ?_
      refine z_pop dX8_ahead_66 rfl ?_
      refine z_iinc dX8_ahead_67 rfl (nI_1 _) (Nat.le_of_ble_eq_true rfl) ?_
      refine z_goto dX8_ahead_70 rfl ?_
      exact K N S Q hN hS KK
    · have es : ahW 1 tf a n = ahW 1 tf a i := by rw [← hi]; exact ah_stay h9 _
      rw [es]
      refine ⟨h1, l1, f1, fun N S Q hN hS K => ?_⟩
      refine z_iload dX8_ahead_39 rfl ?_
      refine z_iload_n dX8_ahead_41 rfl rfl ?_
      refine z_icmp_ge dX8_ahead_42 rfl (fun c => absurd c (fun q => absurd ((nI_leI (by omega) (by omega)).mp q) (by omega))) (fun _ => ?_)
      refine z_aload_n dX8_ahead_45 rfl rfl ?_
      refine y_getR FX8_22 dX8_ahead_46 rfl l1.1 (by rw [f1.1.R]; exact hsc) ?_
      refine y_getI FX8_133 dX8_ahead_49 (Or.inl rfl) l1.2.2.2.2.2.2.2.1.1 ?_
      refine z_eqi (y := nI (ahW 1 tf a i 1)) l1.2.2.2.2.2.2.2.2.1.1 ?_
      refine z_sipush (v := 9999) dX8_ahead_52 (by decide) ?_
      refine z_icmp_ge dX8_ahead_55 rfl (fun _ => ?_) (fun c => absurd ((nI_leI (a := 9999) (by omega) (by omega)).mpr (by omega)) c)
      exact K _

theorem C_ahead {h : Hp} {a : Fl} {tf : Nat → Int32} {d : Nat} (c1 : CZ h a tf) (s1 : CS h) (hj : JD tf a) (n w z : Int32) (hd : 7 ≤ d) : ∃ h1, Sp d mX8_ahead [.ref 8, .int n, .int w, .int z] h (some (.int (mAhead tf a n w z))) h1 ∧ CZ h1 a tf ∧ CS h1 ∧ FD 465 h h1 := by
  have b1 := hj.1.2.1
  have b11 := hj.1.2.2.2.2.2.2.2.2.2.2.2.1
  by_cases hc : okA a n w z
  · obtain ⟨g0, t1, t2, t3⟩ := c_scr (d := 2) c1 s1 (Nat.le_refl _)
    obtain ⟨n, hn, rfl⟩ := inr_of (n := 60) (x := n) (by omega) ⟨Int32.le_trans (by decide) hc.1.1, hc.1.2⟩
    obtain ⟨j, hj2, rfl⟩ := inr_of (n := 2) (x := w) (by omega) hc.2.1
    rcases (show j = 0 ∨ j = 1 ∨ j = 2 by omega) with rfl | rfl | rfl
    · skip
      have eq : mAhead tf a (nI n) (nI 0) z = nI (ahW 1 tf a n 3) := by
        unfold mAhead
        rw [if_pos hc, nn_nI (by omega)]
        unfold ahV
        rw [if_pos (show nI 0 = (0 : Int32) from rfl)]
      rw [eq]
      obtain ⟨h2, l1, f1, K⟩ := c_ah_loop (h := g0) (d := d) (n := n) (w := nI 0) (z := z) hj (by rw [t3.1.R]; exact s1.1) hn hd n 0 _ (by omega) t2 FD.rf
      have ff : FD 465 h h2 := t3.tr f1
      refine ⟨h2, ?_, c1.sc ff hj.1.2.2.2.2.1, s1.sc ff.1 l1.2.2.2.2.2.2.2.2.1, ff⟩
      intro N S Q hN hS hQ
      have hN : pn h ≤ N := by rw [← ff.1.n]; exact hN
      have hS : ps h ≤ S := by rw [← ff.1.s]; exact hS
      have hN1 : pn g0 ≤ N := by rw [t3.1.n]; exact hN
      have hS1 : ps g0 ≤ S := by rw [t3.1.s]; exact hS
      have hN2 : pn h2 ≤ N := by rw [ff.1.n]; exact hN
      have hS2 : ps h2 ≤ S := by rw [ff.1.s]; exact hS
      have hsc : pR g0 8 2 = some 465 := by rw [t3.1.R]; exact s1.1
      have KK : ∀ o4, T d N S mX8_ahead 73 [some (.ref 8), some (.int (nI n)), some (.int (nI 0)), some (.int z), o4] [] h2 Q := fun o4 => by
        refine z_iload_n dX8_ahead_73 rfl rfl ?_
        refine z_if_ne dX8_ahead_74 rfl (fun c => absurd (by decide) c) (fun _ => ?_)
        refine z_aload_n dX8_ahead_77 rfl rfl ?_
        refine y_getR FX8_22 dX8_ahead_78 rfl l1.1 (by rw [f1.1.R]; exact hsc) ?_
        refine y_getI FX8_160 dX8_ahead_81 (Or.inl rfl) l1.2.2.2.2.2.2.2.1.1 ?_
        refine z_eqi (show _ = nI (ahW 1 tf a n 3) from l1.2.2.2.2.2.2.2.2.1.2.2.1) ?_
        refine z_iret dX8_ahead_84 ?_
        exact hQ
      refine z_iload_n dX8_ahead_0 rfl rfl ?_
      refine z_iconst (v := 1) dX8_ahead_1 (by decide) ?_
      refine z_bipush (v := 60) dX8_ahead_2 (by decide) ?_
      refine y_callS (as := [_, _, _]) CX8_within LX8_61 SX8_within dX8_ahead_4 rfl (Nat.le_of_ble_eq_true rfl) (Nat.le_of_ble_eq_true rfl) (by omega) (s_within _ _ _) (rok_z bI_01) ⟨Nat.le_refl _, Nat.le_refl _, hN, hS⟩ ?_
      refine z_if_eq dX8_ahead_7 rfl (fun c => absurd c (bI_ne0.mpr hc.1)) (fun _ => ?_)
      refine z_aload_n dX8_ahead_10 rfl rfl ?_
      refine z_iload_n dX8_ahead_11 rfl rfl ?_
      refine z_iload_n dX8_ahead_12 rfl rfl ?_
      refine y_callV (as := [_, _]) CX8_mayLookAhead LX8_303 IX8_mayLookAhead VX8_mayLookAhead ⟨rfl, Nat.le_of_ble_eq_true rfl⟩ dX8_ahead_13 c1.1.1 rfl (Nat.le_of_ble_eq_true rfl) (Nat.le_of_ble_eq_true rfl) (by omega) (c_mayLook (d := 1) c1 _ _ (Nat.le_refl _)) (rok_z bI_01) ⟨Nat.le_refl _, Nat.le_refl _, hN, hS⟩ ?_
      refine z_if_ne dX8_ahead_16 rfl (fun _ => ?_) (fun c => absurd c (bI_ne0.mpr (Or.inl rfl)))
      refine z_aload_n dX8_ahead_21 rfl rfl ?_
      refine y_getR FX8_22 dX8_ahead_22 rfl c1.1.1 s1.1 ?_
      refine z_aload_n dX8_ahead_25 rfl rfl ?_
      refine y_getR FX8_10 dX8_ahead_26 rfl c1.1.1 c1.1.2.1 ?_
      refine y_getR FX8_79 dX8_ahead_29 rfl c1.1.2.2.2.2.1.o c1.1.2.2.2.2.1.f0 ?_
      refine z_iconst (v := 0) dX8_ahead_32 (by decide) ?_
      refine y_callV (as := [_, _]) CX7_take LX8_306 IX7_take VX7_take ⟨rfl, Nat.le_of_ble_eq_true rfl⟩ dX8_ahead_33 s1.2.1.1 rfl (Nat.le_of_ble_eq_true rfl) (Nat.le_of_ble_eq_true rfl) (by omega) t1 rok_v (hg_ss t3.1 hN hS) ?_
      refine z_iconst (v := 0) dX8_ahead_36 (by decide) ?_
      refine z_istore dX8_ahead_37 (Nat.le_of_ble_eq_true rfl) ?_
      exact K N S Q hN1 hS1 KK
    · skip
      obtain ⟨zz, hz, rfl⟩ := vin_of (by omega) (hc.2.2.1 rfl)
      have eq : mAhead tf a (nI n) (nI 1) (nI zz) = nI (ahW 1 tf a n (ppx zz 0)) := by
        unfold mAhead
        rw [if_pos hc, nn_nI (by omega)]
        unfold ahV
        rw [nn_nI (by omega), if_neg (show ¬ nI 1 = (0 : Int32) by decide), if_pos (show nI 1 = (1 : Int32) from rfl)]
      rw [eq]
      obtain ⟨h2, l1, f1, K⟩ := c_ah_loop (h := g0) (d := d) (n := n) (w := nI 1) (z := (nI zz)) hj (by rw [t3.1.R]; exact s1.1) hn hd n 0 _ (by omega) t2 FD.rf
      have ff : FD 465 h h2 := t3.tr f1
      refine ⟨h2, ?_, c1.sc ff hj.1.2.2.2.2.1, s1.sc ff.1 l1.2.2.2.2.2.2.2.2.1, ff⟩
      intro N S Q hN hS hQ
      have hN : pn h ≤ N := by rw [← ff.1.n]; exact hN
      have hS : ps h ≤ S := by rw [← ff.1.s]; exact hS
      have hN1 : pn g0 ≤ N := by rw [t3.1.n]; exact hN
      have hS1 : ps g0 ≤ S := by rw [t3.1.s]; exact hS
      have hN2 : pn h2 ≤ N := by rw [ff.1.n]; exact hN
      have hS2 : ps h2 ≤ S := by rw [ff.1.s]; exact hS
      have hz2 : zz < ahW 1 tf a n 0 := by rw [(ah_4 hj.2.1 n).1]; exact hz
      have hsc : pR g0 8 2 = some 465 := by rw [t3.1.R]; exact s1.1
      have KK : ∀ o4, T d N S mX8_ahead 73 [some (.ref 8), some (.int (nI n)), some (.int (nI 1)), some (.int (nI zz)), o4] [] h2 Q := fun o4 => by
        refine z_iload_n dX8_ahead_73 rfl rfl ?_
        refine z_if_ne dX8_ahead_74 rfl (fun _ => ?_) (fun c => absurd c (by decide))
        refine z_iload_n dX8_ahead_85 rfl rfl ?_
        refine z_iconst (v := 1) dX8_ahead_86 (by decide) ?_
        refine z_icmp_ne dX8_ahead_87 rfl (fun c => absurd (by decide) c) (fun _ => ?_)
        refine z_aload_n dX8_ahead_90 rfl rfl ?_
        refine y_getR FX8_22 dX8_ahead_91 rfl l1.1 (by rw [f1.1.R]; exact hsc) ?_
        refine y_getR FX8_82 dX8_ahead_94 rfl l1.2.2.2.2.2.2.2.1.1 l1.2.2.2.2.2.2.2.1.2.1 ?_
        refine z_iload_n dX8_ahead_97 rfl rfl ?_
        refine z_iconst (v := 0) dX8_ahead_98 (by decide) ?_
        refine y_callV (as := [_, _]) CX4_get LX8_143 IX4_get VX4_get ⟨rfl, Nat.le_of_ble_eq_true rfl⟩ dX8_ahead_99 l1.2.2.2.2.2.2.2.1.2.2.1.1 rfl (Nat.le_of_ble_eq_true rfl) (Nat.le_of_ble_eq_true rfl) (by omega) (s_get (w := 3) (ms := 5) (i := zz) (j := 0) (by exact l1.2.2.2.2.2.2.2.1.2.2.1) l1.2.2.2.2.2.2.2.2.1.2.2.2.1 hz2 (by omega)) rok_i ⟨Nat.le_refl _, Nat.le_refl _, hN2, hS2⟩ ?_
        refine z_eqi (show _ = nI (ahW 1 tf a n (ppx zz 0)) from (l1.2.2.2.2.2.2.2.2.1.2.2.2.2.1 (zz * 3 + 0) (by omega)).trans (congrArg (fun u => nI (ahW 1 tf a n u)) (by unfold ppx; omega))) ?_
        refine z_goto dX8_ahead_102 rfl ?_
        refine z_iret dX8_ahead_117 ?_
        exact hQ
      refine z_iload_n dX8_ahead_0 rfl rfl ?_
      refine z_iconst (v := 1) dX8_ahead_1 (by decide) ?_
      refine z_bipush (v := 60) dX8_ahead_2 (by decide) ?_
      refine y_callS (as := [_, _, _]) CX8_within LX8_61 SX8_within dX8_ahead_4 rfl (Nat.le_of_ble_eq_true rfl) (Nat.le_of_ble_eq_true rfl) (by omega) (s_within _ _ _) (rok_z bI_01) ⟨Nat.le_refl _, Nat.le_refl _, hN, hS⟩ ?_
      refine z_if_eq dX8_ahead_7 rfl (fun c => absurd c (bI_ne0.mpr hc.1)) (fun _ => ?_)
      refine z_aload_n dX8_ahead_10 rfl rfl ?_
      refine z_iload_n dX8_ahead_11 rfl rfl ?_
      refine z_iload_n dX8_ahead_12 rfl rfl ?_
      refine y_callV (as := [_, _]) CX8_mayLookAhead LX8_303 IX8_mayLookAhead VX8_mayLookAhead ⟨rfl, Nat.le_of_ble_eq_true rfl⟩ dX8_ahead_13 c1.1.1 rfl (Nat.le_of_ble_eq_true rfl) (Nat.le_of_ble_eq_true rfl) (by omega) (c_mayLook (d := 1) c1 _ _ (Nat.le_refl _)) (rok_z bI_01) ⟨Nat.le_refl _, Nat.le_refl _, hN, hS⟩ ?_
      refine z_if_ne dX8_ahead_16 rfl (fun _ => ?_) (fun c => absurd c (bI_ne0.mpr (Or.inr (Or.inl ⟨rfl, hc.2.2.1 rfl⟩))))
      refine z_aload_n dX8_ahead_21 rfl rfl ?_
      refine y_getR FX8_22 dX8_ahead_22 rfl c1.1.1 s1.1 ?_
      refine z_aload_n dX8_ahead_25 rfl rfl ?_
      refine y_getR FX8_10 dX8_ahead_26 rfl c1.1.1 c1.1.2.1 ?_
      refine y_getR FX8_79 dX8_ahead_29 rfl c1.1.2.2.2.2.1.o c1.1.2.2.2.2.1.f0 ?_
      refine z_iconst (v := 0) dX8_ahead_32 (by decide) ?_
      refine y_callV (as := [_, _]) CX7_take LX8_306 IX7_take VX7_take ⟨rfl, Nat.le_of_ble_eq_true rfl⟩ dX8_ahead_33 s1.2.1.1 rfl (Nat.le_of_ble_eq_true rfl) (Nat.le_of_ble_eq_true rfl) (by omega) t1 rok_v (hg_ss t3.1 hN hS) ?_
      refine z_iconst (v := 0) dX8_ahead_36 (by decide) ?_
      refine z_istore dX8_ahead_37 (Nat.le_of_ble_eq_true rfl) ?_
      exact K N S Q hN1 hS1 KK
    · skip
      obtain ⟨zz, hz, rfl⟩ := vin_of (by omega) (hc.2.2.2 rfl)
      have eq : mAhead tf a (nI n) (nI 2) (nI zz) = nI (ahW 1 tf a n (pcx zz 5)) := by
        unfold mAhead
        rw [if_pos hc, nn_nI (by omega)]
        unfold ahV
        rw [nn_nI (by omega), if_neg (show ¬ nI 2 = (0 : Int32) by decide), if_neg (show ¬ nI 2 = (1 : Int32) by decide)]
      rw [eq]
      obtain ⟨h2, l1, f1, K⟩ := c_ah_loop (h := g0) (d := d) (n := n) (w := nI 2) (z := (nI zz)) hj (by rw [t3.1.R]; exact s1.1) hn hd n 0 _ (by omega) t2 FD.rf
      have ff : FD 465 h h2 := t3.tr f1
      refine ⟨h2, ?_, c1.sc ff hj.1.2.2.2.2.1, s1.sc ff.1 l1.2.2.2.2.2.2.2.2.1, ff⟩
      intro N S Q hN hS hQ
      have hN : pn h ≤ N := by rw [← ff.1.n]; exact hN
      have hS : ps h ≤ S := by rw [← ff.1.s]; exact hS
      have hN1 : pn g0 ≤ N := by rw [t3.1.n]; exact hN
      have hS1 : ps g0 ≤ S := by rw [t3.1.s]; exact hS
      have hN2 : pn h2 ≤ N := by rw [ff.1.n]; exact hN
      have hS2 : ps h2 ≤ S := by rw [ff.1.s]; exact hS
      have hz2 : zz < ahW 1 tf a n 4 := by rw [(ah_4 hj.2.1 n).2]; exact hz
      have hsc : pR g0 8 2 = some 465 := by rw [t3.1.R]; exact s1.1
      have KK : ∀ o4, T d N S mX8_ahead 73 [some (.ref 8), some (.int (nI n)), some (.int (nI 2)), some (.int (nI zz)), o4] [] h2 Q := fun o4 => by
        refine z_iload_n dX8_ahead_73 rfl rfl ?_
        refine z_if_ne dX8_ahead_74 rfl (fun _ => ?_) (fun c => absurd c (by decide))
        refine z_iload_n dX8_ahead_85 rfl rfl ?_
        refine z_iconst (v := 1) dX8_ahead_86 (by decide) ?_
        refine z_icmp_ne dX8_ahead_87 rfl (fun _ => ?_) (fun c => absurd c (by decide))
        refine z_aload_n dX8_ahead_105 rfl rfl ?_
        refine y_getR FX8_22 dX8_ahead_106 rfl l1.1 (by rw [f1.1.R]; exact hsc) ?_
        refine y_getR FX8_127 dX8_ahead_109 rfl l1.2.2.2.2.2.2.2.1.1 l1.2.2.2.2.2.2.2.1.2.2.2.1 ?_
        refine z_iload_n dX8_ahead_112 rfl rfl ?_
        refine z_iconst (v := 5) dX8_ahead_113 (by decide) ?_
        refine y_callV (as := [_, _]) CX4_get LX8_143 IX4_get VX4_get ⟨rfl, Nat.le_of_ble_eq_true rfl⟩ dX8_ahead_114 l1.2.2.2.2.2.2.2.1.2.2.2.2.1.1 rfl (Nat.le_of_ble_eq_true rfl) (Nat.le_of_ble_eq_true rfl) (by omega) (s_get (w := 6) (ms := 12) (i := zz) (j := 5) (by exact l1.2.2.2.2.2.2.2.1.2.2.2.2.1) l1.2.2.2.2.2.2.2.2.1.2.2.2.2.2.1 hz2 (by omega)) rok_i ⟨Nat.le_refl _, Nat.le_refl _, hN2, hS2⟩ ?_
        refine z_eqi (show _ = nI (ahW 1 tf a n (pcx zz 5)) from (l1.2.2.2.2.2.2.2.2.1.2.2.2.2.2.2.1 (zz * 6 + 5) (by omega)).trans (congrArg (fun u => nI (ahW 1 tf a n u)) (by unfold pcx; omega))) ?_
        refine z_iret dX8_ahead_117 ?_
        exact hQ
      refine z_iload_n dX8_ahead_0 rfl rfl ?_
      refine z_iconst (v := 1) dX8_ahead_1 (by decide) ?_
      refine z_bipush (v := 60) dX8_ahead_2 (by decide) ?_
      refine y_callS (as := [_, _, _]) CX8_within LX8_61 SX8_within dX8_ahead_4 rfl (Nat.le_of_ble_eq_true rfl) (Nat.le_of_ble_eq_true rfl) (by omega) (s_within _ _ _) (rok_z bI_01) ⟨Nat.le_refl _, Nat.le_refl _, hN, hS⟩ ?_
      refine z_if_eq dX8_ahead_7 rfl (fun c => absurd c (bI_ne0.mpr hc.1)) (fun _ => ?_)
      refine z_aload_n dX8_ahead_10 rfl rfl ?_
      refine z_iload_n dX8_ahead_11 rfl rfl ?_
      refine z_iload_n dX8_ahead_12 rfl rfl ?_
      refine y_callV (as := [_, _]) CX8_mayLookAhead LX8_303 IX8_mayLookAhead VX8_mayLookAhead ⟨rfl, Nat.le_of_ble_eq_true rfl⟩ dX8_ahead_13 c1.1.1 rfl (Nat.le_of_ble_eq_true rfl) (Nat.le_of_ble_eq_true rfl) (by omega) (c_mayLook (d := 1) c1 _ _ (Nat.le_refl _)) (rok_z bI_01) ⟨Nat.le_refl _, Nat.le_refl _, hN, hS⟩ ?_
      refine z_if_ne dX8_ahead_16 rfl (fun _ => ?_) (fun c => absurd c (bI_ne0.mpr (Or.inr (Or.inr ⟨rfl, hc.2.2.2 rfl⟩))))
      refine z_aload_n dX8_ahead_21 rfl rfl ?_
      refine y_getR FX8_22 dX8_ahead_22 rfl c1.1.1 s1.1 ?_
      refine z_aload_n dX8_ahead_25 rfl rfl ?_
      refine y_getR FX8_10 dX8_ahead_26 rfl c1.1.1 c1.1.2.1 ?_
      refine y_getR FX8_79 dX8_ahead_29 rfl c1.1.2.2.2.2.1.o c1.1.2.2.2.2.1.f0 ?_
      refine z_iconst (v := 0) dX8_ahead_32 (by decide) ?_
      refine y_callV (as := [_, _]) CX7_take LX8_306 IX7_take VX7_take ⟨rfl, Nat.le_of_ble_eq_true rfl⟩ dX8_ahead_33 s1.2.1.1 rfl (Nat.le_of_ble_eq_true rfl) (Nat.le_of_ble_eq_true rfl) (by omega) t1 rok_v (hg_ss t3.1 hN hS) ?_
      refine z_iconst (v := 0) dX8_ahead_36 (by decide) ?_
      refine z_istore dX8_ahead_37 (Nat.le_of_ble_eq_true rfl) ?_
      exact K N S Q hN1 hS1 KK
  · have eq : mAhead tf a n w z = -1 := if_neg hc
    rw [eq]
    refine ⟨h, ?_, c1, s1, FD.rf⟩
    intro N S Q hN hS hQ
    by_cases k1 : inr n 1 60
    · have k2 : ¬ okL a w z := fun q => hc ⟨k1, by rcases q with q | q | q <;> (first | rw [q] | rw [q.1]) <;> decide, fun e => by rcases q with q | q | q; exact absurd (e.symm.trans q) (by decide); exact q.2; exact absurd (e.symm.trans q.1) (by decide), fun e => by rcases q with q | q | q; exact absurd (e.symm.trans q) (by decide); exact absurd (e.symm.trans q.1) (by decide); exact q.2⟩
      refine z_iload_n dX8_ahead_0 rfl rfl ?_
      refine z_iconst (v := 1) dX8_ahead_1 (by decide) ?_
      refine z_bipush (v := 60) dX8_ahead_2 (by decide) ?_
      refine y_callS (as := [_, _, _]) CX8_within LX8_61 SX8_within dX8_ahead_4 rfl (Nat.le_of_ble_eq_true rfl) (Nat.le_of_ble_eq_true rfl) (by omega) (s_within _ _ _) (rok_z bI_01) ⟨Nat.le_refl _, Nat.le_refl _, hN, hS⟩ ?_
      refine z_if_eq dX8_ahead_7 rfl (fun c => absurd c (bI_ne0.mpr k1)) (fun _ => ?_)
      refine z_aload_n dX8_ahead_10 rfl rfl ?_
      refine z_iload_n dX8_ahead_11 rfl rfl ?_
      refine z_iload_n dX8_ahead_12 rfl rfl ?_
      refine y_callV (as := [_, _]) CX8_mayLookAhead LX8_303 IX8_mayLookAhead VX8_mayLookAhead ⟨rfl, Nat.le_of_ble_eq_true rfl⟩ dX8_ahead_13 c1.1.1 rfl (Nat.le_of_ble_eq_true rfl) (Nat.le_of_ble_eq_true rfl) (by omega) (c_mayLook (d := 1) c1 _ _ (Nat.le_refl _)) (rok_z bI_01) ⟨Nat.le_refl _, Nat.le_refl _, hN, hS⟩ ?_
      refine z_if_ne dX8_ahead_16 rfl (fun c => absurd (bI_eq0.mpr k2) c) (fun _ => ?_)
      refine z_iconst (v := -1) dX8_ahead_19 (by decide) ?_
      refine z_iret dX8_ahead_20 ?_
      exact hQ
    · skip
      refine z_iload_n dX8_ahead_0 rfl rfl ?_
      refine z_iconst (v := 1) dX8_ahead_1 (by decide) ?_
      refine z_bipush (v := 60) dX8_ahead_2 (by decide) ?_
      refine y_callS (as := [_, _, _]) CX8_within LX8_61 SX8_within dX8_ahead_4 rfl (Nat.le_of_ble_eq_true rfl) (Nat.le_of_ble_eq_true rfl) (by omega) (s_within _ _ _) (rok_z bI_01) ⟨Nat.le_refl _, Nat.le_refl _, hN, hS⟩ ?_
      refine z_if_eq dX8_ahead_7 rfl (fun _ => ?_) (fun c => absurd (bI_eq0.mpr k1) c)
      refine z_iconst (v := -1) dX8_ahead_19 (by decide) ?_
      refine z_iret dX8_ahead_20 ?_
      exact hQ

theorem c_un_loop {h : Hp} {a : Fl} {tf : Nat → Int32} {d k : Nat} (hj : JD tf a) (hsc : pR h 8 2 = some 465) (hk : k < snap a 4) (hd : 7 ≤ d) : ∀ r i (W : Fl) (h1 : Hp), i + r = 60 → IW (a 0) W → W 4 = snap a 4 → CLW h1 a tf 465 W → FD 465 h h1 → ∃ h2 W2, CLW h2 a tf 465 W2 ∧ FD 465 h h2 ∧ ∀ (N S : Nat) (Q : Option Value → Hp → Prop), pn h ≤ N → ps h ≤ S → Q (some (.int (utl 1 tf a k r i W))) h2 → T d N S mX8_until 33 [some (.ref 8), some (.int (nI k)), some (.int (nI (i + 1)))] [] h1 Q := by
  have k12 : snap a 4 ≤ 12 := hj.2.1.1.2.2.2.2.1
  have en : nn (nI k) = k := nn_nI (by omega)
  have op : ∀ V : Fl, V 4 = snap a 4 → (opnW V (nI k) ↔ V (pcx k 5) = 0) := fun V hV => by
    unfold opnW
    rw [en, hV]
    exact ⟨fun q => q.2, fun q => ⟨(vin_nI (by omega) (by omega)).mpr hk, q⟩⟩
  intro r
  induction r with
  | zero =>
    intro i W h1 hi iv w4 l1 f1
    have e : i = 60 := by omega
    subst e
    refine ⟨h1, W, l1, f1, fun N S Q hN hS hQ => ?_⟩
    refine z_iload_n dX8_until_33 rfl rfl ?_
    refine z_bipush (v := 60) dX8_until_34 (by decide) ?_
    refine z_icmp_gt dX8_until_36 rfl (fun _ => ?_) (fun c => absurd ((nI_ltI (a := 60) (by omega) (by omega)).mpr (by omega)) c)
    refine z_iconst (v := -1) dX8_until_80 (by decide) ?_
    refine z_iret dX8_until_81 ?_
    exact hQ
  | succ r ih =>
    intro i W h1 hi iv w4 l1 f1
    have iv1 := iv.1.2.1
    have D36 : ¬ (60 : Int32) < nI (i + 1) := fun q => absurd ((nI_ltI (a := 60) (by omega) (by omega)).mp q) (by omega)
    by_cases h9 : W 1 < 9999
    · obtain ⟨g1, p1, p2, p3⟩ := c_passDay (d := 6) l1 (Or.inr rfl) iv rfl hj.1.1 hj.1.2.2.1 hj.1.2.2.2.1 hj.2.2.2 hj.2.2.1 (Nat.le_refl _)
      have iw2 := (iw_pass (b := 1) (tf := tf) iv rfl h9).1
      have ws : wPass 1 tf a W 4 = W 4 := by
        unfold wPass wPass0
        rw [up_n (by omega), (iw_pK (iw_pF iv (a 0) (Nat.le_refl _)) _ (by rw [pF_o (by omega) (by omega)]; exact Nat.le_refl _)).2 4 (by omega), pF_o (by omega) (by omega)]
      have w42 := ws.trans w4
      have eu : utl 1 tf a k (r + 1) i W = if wPass 1 tf a W (pcx k 5) = 0 then utl 1 tf a k r (i + 1) (wPass 1 tf a W) else nI (i + 1) := if_pos h9
      by_cases hk2 : wPass 1 tf a W (pcx k 5) = 0
      · rw [eu, if_pos hk2]
        obtain ⟨h2, W2, q1, q2, K⟩ := ih (i + 1) _ g1 (by omega) iw2 w42 p2 (f1.tr p3)
        refine ⟨h2, W2, q1, q2, fun N S Q hN hS hQ => ?_⟩
        have hN1 : pn h1 ≤ N := by rw [f1.1.n]; exact hN
        have hS1 : ps h1 ≤ S := by rw [f1.1.s]; exact hS
        have hN2 : pn g1 ≤ N := by rw [p3.1.n]; exact hN1
        have hS2 : ps g1 ≤ S := by rw [p3.1.s]; exact hS1
        refine z_iload_n dX8_until_33 rfl rfl ?_
        refine z_bipush (v := 60) dX8_until_34 (by decide) ?_
        refine z_icmp_gt dX8_until_36 rfl (fun c => absurd c (D36)) (fun _ => ?_)
        refine z_aload_n dX8_until_39 rfl rfl ?_
        refine y_getR FX8_22 dX8_until_40 rfl l1.1 (by rw [f1.1.R]; exact hsc) ?_
        refine y_getI FX8_133 dX8_until_43 (Or.inl rfl) l1.2.2.2.2.2.2.2.1.1 ?_
        refine z_eqi (y := nI (W 1)) l1.2.2.2.2.2.2.2.2.1.1 ?_
        refine z_sipush (v := 9999) dX8_until_46 (by decide) ?_
        refine z_icmp_ge dX8_until_49 rfl (fun c => absurd c (fun q => absurd ((nI_leI (a := 9999) (by omega) (by omega)).mp q) (by omega))) (fun _ => ?_)
        refine z_aload_n dX8_until_52 rfl rfl ?_
        refine z_aload_n dX8_until_53 rfl rfl ?_
        refine y_getR FX8_22 dX8_until_54 rfl l1.1 (by rw [f1.1.R]; exact hsc) ?_
        refine y_callV (as := [_]) CX8_passDay LX8_173 IX8_passDay VX8_passDay ⟨rfl, Nat.le_of_ble_eq_true rfl⟩ dX8_until_57 l1.1 rfl (Nat.le_of_ble_eq_true rfl) (Nat.le_of_ble_eq_true rfl) (by omega) p1 rok_i (hg_ss p3.1 hN1 hS1) ?_
        refine z_pop dX8_until_60 rfl ?_
        refine z_aload_n dX8_until_61 rfl rfl ?_
        refine y_getR FX8_22 dX8_until_62 rfl (p3.1.O l1.1) (by first | (rw [p3.1.R]; exact (by rw [f1.1.R]; exact hsc)) | exact (congrFun (congrFun p3.1.R _) _).trans (by rw [f1.1.R]; exact hsc)) ?_
        refine z_iload_n dX8_until_65 rfl rfl ?_
        refine y_callV (as := [_]) CX7_isOpen LX8_167 IX7_isOpen VX7_isOpen ⟨rfl, Nat.le_of_ble_eq_true rfl⟩ dX8_until_66 (p3.1.O l1.2.2.2.2.2.2.2.1.1) rfl (Nat.le_of_ble_eq_true rfl) (Nat.le_of_ble_eq_true rfl) (by omega) (c_isOpenW (d := 1) p2.2.2.2.2.2.2.2.1 p2.2.2.2.2.2.2.2.2.1 (fun k hk => (iw2.2.2.1 k hk).2.2.2.2.2.2) _ (Nat.le_refl _)) (rok_z bI_01) ⟨Nat.le_refl _, Nat.le_refl _, hN2, hS2⟩ ?_
        refine z_if_ne dX8_until_69 rfl (fun _ => ?_) (fun c => absurd c (bI_ne0.mpr ((op _ w42).mpr hk2)))
        refine z_iinc dX8_until_74 rfl (nI_1 _) (Nat.le_of_ble_eq_true rfl) ?_
        refine z_goto dX8_until_77 rfl ?_
        exact K N S Q hN hS hQ
      · rw [eu, if_neg hk2]
        refine ⟨g1, _, p2, f1.tr p3, fun N S Q hN hS hQ => ?_⟩
        have hN1 : pn h1 ≤ N := by rw [f1.1.n]; exact hN
        have hS1 : ps h1 ≤ S := by rw [f1.1.s]; exact hS
        have hN2 : pn g1 ≤ N := by rw [p3.1.n]; exact hN1
        have hS2 : ps g1 ≤ S := by rw [p3.1.s]; exact hS1
        refine z_iload_n dX8_until_33 rfl rfl ?_
        refine z_bipush (v := 60) dX8_until_34 (by decide) ?_
        refine z_icmp_gt dX8_until_36 rfl (fun c => absurd c (D36)) (fun _ => ?_)
        refine z_aload_n dX8_until_39 rfl rfl ?_
        refine y_getR FX8_22 dX8_until_40 rfl l1.1 (by rw [f1.1.R]; exact hsc) ?_
        refine y_getI FX8_133 dX8_until_43 (Or.inl rfl) l1.2.2.2.2.2.2.2.1.1 ?_
        refine z_eqi (y := nI (W 1)) l1.2.2.2.2.2.2.2.2.1.1 ?_
        refine z_sipush (v := 9999) dX8_until_46 (by decide) ?_
        refine z_icmp_ge dX8_until_49 rfl (fun c => absurd c (fun q => absurd ((nI_leI (a := 9999) (by omega) (by omega)).mp q) (by omega))) (fun _ => ?_)
        refine z_aload_n dX8_until_52 rfl rfl ?_
        refine z_aload_n dX8_until_53 rfl rfl ?_
        refine y_getR FX8_22 dX8_until_54 rfl l1.1 (by rw [f1.1.R]; exact hsc) ?_
        refine y_callV (as := [_]) CX8_passDay LX8_173 IX8_passDay VX8_passDay ⟨rfl, Nat.le_of_ble_eq_true rfl⟩ dX8_until_57 l1.1 rfl (Nat.le_of_ble_eq_true rfl) (Nat.le_of_ble_eq_true rfl) (by omega) p1 rok_i (hg_ss p3.1 hN1 hS1) ?_
        refine z_pop dX8_until_60 rfl ?_
        refine z_aload_n dX8_until_61 rfl rfl ?_
        refine y_getR FX8_22 dX8_until_62 rfl (p3.1.O l1.1) (by first | (rw [p3.1.R]; exact (by rw [f1.1.R]; exact hsc)) | exact (congrFun (congrFun p3.1.R _) _).trans (by rw [f1.1.R]; exact hsc)) ?_
        refine z_iload_n dX8_until_65 rfl rfl ?_
        refine y_callV (as := [_]) CX7_isOpen LX8_167 IX7_isOpen VX7_isOpen ⟨rfl, Nat.le_of_ble_eq_true rfl⟩ dX8_until_66 (p3.1.O l1.2.2.2.2.2.2.2.1.1) rfl (Nat.le_of_ble_eq_true rfl) (Nat.le_of_ble_eq_true rfl) (by omega) (c_isOpenW (d := 1) p2.2.2.2.2.2.2.2.1 p2.2.2.2.2.2.2.2.2.1 (fun k hk => (iw2.2.2.1 k hk).2.2.2.2.2.2) _ (Nat.le_refl _)) (rok_z bI_01) ⟨Nat.le_refl _, Nat.le_refl _, hN2, hS2⟩ ?_
        refine z_if_ne dX8_until_69 rfl (fun c => absurd (bI_eq0.mpr (fun q => hk2 ((op _ w42).mp q))) c) (fun _ => ?_)
        refine z_iload_n dX8_until_72 rfl rfl ?_
        refine z_iret dX8_until_73 ?_
        exact hQ
    · have eu : utl 1 tf a k (r + 1) i W = -1 := if_neg h9
      rw [eu]
      refine ⟨h1, W, l1, f1, fun N S Q hN hS hQ => ?_⟩
      refine z_iload_n dX8_until_33 rfl rfl ?_
      refine z_bipush (v := 60) dX8_until_34 (by decide) ?_
      refine z_icmp_gt dX8_until_36 rfl (fun c => absurd c (D36)) (fun _ => ?_)
      refine z_aload_n dX8_until_39 rfl rfl ?_
      refine y_getR FX8_22 dX8_until_40 rfl l1.1 (by rw [f1.1.R]; exact hsc) ?_
      refine y_getI FX8_133 dX8_until_43 (Or.inl rfl) l1.2.2.2.2.2.2.2.1.1 ?_
      refine z_eqi (y := nI (W 1)) l1.2.2.2.2.2.2.2.2.1.1 ?_
      refine z_sipush (v := 9999) dX8_until_46 (by decide) ?_
      refine z_icmp_ge dX8_until_49 rfl (fun _ => ?_) (fun c => absurd ((nI_leI (a := 9999) (by omega) (by omega)).mpr (by omega)) c)
      refine z_iconst (v := -1) dX8_until_80 (by decide) ?_
      refine z_iret dX8_until_81 ?_
      exact hQ

theorem C_until {h : Hp} {a : Fl} {tf : Nat → Int32} {d : Nat} (c1 : CZ h a tf) (s1 : CS h) (hj : JD tf a) (k : Int32) (hd : 7 ≤ d) : ∃ h1, Sp d mX8_until [.ref 8, .int k] h (some (.int (mUntil tf a k))) h1 ∧ CZ h1 a tf ∧ CS h1 ∧ FD 465 h h1 := by
  have hb2 : ∀ k, k < snap a 4 → snap a (pcx k 5) ≤ 2 := fun k hk => (hj.2.1.2.2.1 k hk).2.2.2.2.2.2
  have h4 : snap a 4 ≤ 12 := hj.2.1.1.2.2.2.2.1
  by_cases hc : opnW (snap a) k
  · obtain ⟨k, hk, rfl⟩ := vin_of (by omega) hc.1
    have eq : mUntil tf a (nI k) = utl 1 tf a k 60 0 (snap a) := by
      unfold mUntil
      rw [if_pos hc, nn_nI (by omega)]
    rw [eq]
    obtain ⟨g0, t1, t2, t3⟩ := c_scr (d := 2) c1 s1 (Nat.le_refl _)
    obtain ⟨h2, W2, l1, f1, K⟩ := c_un_loop (h := g0) (d := d) hj (by rw [t3.1.R]; exact s1.1) hk hd 60 0 _ _ (by omega) hj.2.1 rfl t2 FD.rf
    have ff : FD 465 h h2 := t3.tr f1
    refine ⟨h2, ?_, c1.sc ff hj.1.2.2.2.2.1, s1.sc ff.1 l1.2.2.2.2.2.2.2.2.1, ff⟩
    intro N S Q hN hS hQ
    have hN : pn h ≤ N := by rw [← ff.1.n]; exact hN
    have hS : ps h ≤ S := by rw [← ff.1.s]; exact hS
    have hN1 : pn g0 ≤ N := by rw [t3.1.n]; exact hN
    have hS1 : ps g0 ≤ S := by rw [t3.1.s]; exact hS
    refine z_aload_n dX8_until_0 rfl rfl ?_
    refine y_getR FX8_10 dX8_until_1 rfl c1.1.1 c1.1.2.1 ?_
    refine y_getR FX8_79 dX8_until_4 rfl c1.1.2.2.2.2.1.o c1.1.2.2.2.2.1.f0 ?_
    refine z_iload_n dX8_until_7 rfl rfl ?_
    refine y_callV (as := [_]) CX7_isOpen LX8_167 IX7_isOpen VX7_isOpen ⟨rfl, Nat.le_of_ble_eq_true rfl⟩ dX8_until_8 c1.1.2.2.2.2.1.now.1 rfl (Nat.le_of_ble_eq_true rfl) (Nat.le_of_ble_eq_true rfl) (by omega) (c_isOpenW (d := 1) c1.1.2.2.2.2.1.now c1.2.1 hb2 _ (Nat.le_refl _)) (rok_z bI_01) ⟨Nat.le_refl _, Nat.le_refl _, hN, hS⟩ ?_
    refine z_if_ne dX8_until_11 rfl (fun _ => ?_) (fun c => absurd c (bI_ne0.mpr hc))
    refine z_aload_n dX8_until_16 rfl rfl ?_
    refine y_getR FX8_22 dX8_until_17 rfl c1.1.1 s1.1 ?_
    refine z_aload_n dX8_until_20 rfl rfl ?_
    refine y_getR FX8_10 dX8_until_21 rfl c1.1.1 c1.1.2.1 ?_
    refine y_getR FX8_79 dX8_until_24 rfl c1.1.2.2.2.2.1.o c1.1.2.2.2.2.1.f0 ?_
    refine z_iconst (v := 0) dX8_until_27 (by decide) ?_
    refine y_callV (as := [_, _]) CX7_take LX8_306 IX7_take VX7_take ⟨rfl, Nat.le_of_ble_eq_true rfl⟩ dX8_until_28 s1.2.1.1 rfl (Nat.le_of_ble_eq_true rfl) (Nat.le_of_ble_eq_true rfl) (by omega) t1 rok_v (hg_ss t3.1 hN hS) ?_
    refine z_iconst (v := 1) dX8_until_31 (by decide) ?_
    refine z_istore_n dX8_until_32 rfl (Nat.le_of_ble_eq_true rfl) ?_
    exact K N S Q hN1 hS1 hQ
  · have eq : mUntil tf a k = -1 := if_neg hc
    rw [eq]
    refine ⟨h, ?_, c1, s1, FD.rf⟩
    intro N S Q hN hS hQ
    refine z_aload_n dX8_until_0 rfl rfl ?_
    refine y_getR FX8_10 dX8_until_1 rfl c1.1.1 c1.1.2.1 ?_
    refine y_getR FX8_79 dX8_until_4 rfl c1.1.2.2.2.2.1.o c1.1.2.2.2.2.1.f0 ?_
    refine z_iload_n dX8_until_7 rfl rfl ?_
    refine y_callV (as := [_]) CX7_isOpen LX8_167 IX7_isOpen VX7_isOpen ⟨rfl, Nat.le_of_ble_eq_true rfl⟩ dX8_until_8 c1.1.2.2.2.2.1.now.1 rfl (Nat.le_of_ble_eq_true rfl) (Nat.le_of_ble_eq_true rfl) (by omega) (c_isOpenW (d := 1) c1.1.2.2.2.2.1.now c1.2.1 hb2 _ (Nat.le_refl _)) (rok_z bI_01) ⟨Nat.le_refl _, Nat.le_refl _, hN, hS⟩ ?_
    refine z_if_ne dX8_until_11 rfl (fun c => absurd (bI_eq0.mpr hc) c) (fun _ => ?_)
    refine z_iconst (v := -1) dX8_until_14 (by decide) ?_
    refine z_iret dX8_until_15 ?_
    exact hQ

