/-! the reference reads acts: pairs, sales, facts, prophecies (wip/whole/gena5.py) -/
theorem rdW_e {K W : Nat → Nat} {q : Nat × Nat × Nat} {r : List (Nat × Nat × Nat)} {i : Nat} {ns : List Nat} : rdW K W (q :: r) i ns = if K i = q.1 then (if K (i + 1) = 52 then (if q.2.1 ≤ W (i + 1) ∧ W (i + 1) ≤ q.2.2 then rdW K W r (i + 2) (ns ++ [W (i + 1)]) else (2, i + 1, ns)) else (1, i + 1, ns)) else (1, i, ns) := rfl
theorem rdX_e {K W : Nat → Nat} {f i st : Nat} : rdX K W (f + 1) i st = if K i = 52 then (if W i ≤ 7 then (if K (i + 1) = 50 then rdX K W f (i + 2) (st ||| 2 ^ W i) else (0, i + 1, st ||| 2 ^ W i)) else (2, i, 0)) else (1, i, 0) := rfl
theorem rdX_e0 {K W : Nat → Nat} {i st : Nat} : rdX K W 0 i st = if K i = 52 then (if W i ≤ 7 then (if K (i + 1) = 50 then (7, i + 1, 0) else (0, i + 1, st ||| 2 ^ W i)) else (2, i, 0)) else (1, i, 0) := rfl

theorem rdW_cons {K W : Nat → Nat} {q : Nat × Nat × Nat} {r : List (Nat × Nat × Nat)} {i : Nat} {ns : List Nat} : rdW K W (q :: r) i ns = if (rdW K W [q] i ns).1 = 0 then rdW K W r (rdW K W [q] i ns).2.1 (rdW K W [q] i ns).2.2 else rdW K W [q] i ns := by
  rw [rdW_e (r := r), rdW_e (r := [])]
  by_cases h1 : K i = q.1
  · rw [if_pos h1, if_pos h1]
    by_cases h2 : K (i + 1) = 52
    · rw [if_pos h2, if_pos h2]
      by_cases h3 : q.2.1 ≤ W (i + 1) ∧ W (i + 1) ≤ q.2.2
      · rw [if_pos h3, if_pos h3]
        rw [show rdW K W [] (i + 2) (ns ++ [W (i + 1)]) = (0, i + 2, ns ++ [W (i + 1)]) from rfl]
        rw [if_pos rfl]
      · rw [if_neg h3, if_neg h3]
        rw [if_neg (by intro w; cases w)]
    · rw [if_neg h2, if_neg h2]
      rw [if_neg (by intro w; cases w)]
  · rw [if_neg h1, if_neg h1]
    rw [if_neg (by intro w; cases w)]
/-- one number -/
theorem g_fig {s : Ms} {t : Nat} {tf : Nat → Int32} {i w on : Nat} {so : Int32} {h : Hp} {d : Nat} (q : RTs s t tf i w so on h) (ht : ITp s) {x lo hi : Nat} (hb : lo ≤ 9999 ∧ hi ≤ 9999) (hx : x < 3012) (hd : 2 ≤ d) : ∃ h1, Sp d mX9_figure [.ref 488, .int (nI x), .int (nI lo), .int (nI hi)] h (some (.int (nI (rdA (tK (TPs s) (TNs s)) (wN s) lo hi [] i).1))) h1 ∧ RTs s t (wrN tf x (rdA (tK (TPs s) (TNs s)) (wN s) lo hi [] i).2.2) (rdA (tK (TPs s) (TNs s)) (wN s) lo hi [] i).2.1 w so on h1 ∧ FR4 h h1 := by
  by_cases h1 : (tK (TPs s) (TNs s)) i = 52
  · by_cases h2 : lo ≤ wN s i ∧ wN s i ≤ hi
    · rw [show rdA (tK (TPs s) (TNs s)) (wN s) lo hi [] i = (0, i + 1, [wN s i]) by unfold rdA; rw [if_pos h1, if_pos h2]; rfl]
      exact r_figY q ht h1 h2 hb hx hd
    · rw [show rdA (tK (TPs s) (TNs s)) (wN s) lo hi [] i = (2, i, []) by unfold rdA; rw [if_pos h1, if_neg h2]]
      exact ⟨h, r_fig2 q ht h1 h2 hb (by omega), q, FR4.rf⟩
  · rw [show rdA (tK (TPs s) (TNs s)) (wN s) lo hi [] i = (1, i, []) by unfold rdA; rw [if_neg h1]]
    exact ⟨h, r_fig1 q ht h1, q, FR4.rf⟩
/-- one with a word before it, behind the numbers ns -/
theorem g_wor {s : Ms} {t : Nat} {tf : Nat → Int32} {i w on : Nat} {so : Int32} {h : Hp} {d : Nat} {x0 x lo hi v k : Nat} {ns : List Nat} (q : RTs s t (wrN tf x0 ns) i w so on h) (ht : ITp s) (iff : ∀ p, (rtk (TPs s) (TNs s) p = 2 ∧ spR (TPs s) p (tkE (TPs s) (TNs s) p - p) = v) ↔ tkK (TPs s) (TNs s) p = k) (hv : v < 2 ^ 62) (ex : x = x0 + ns.length) (hb : lo ≤ 9999 ∧ hi ≤ 9999) (hx : x < 3012) (hd : 3 ≤ d) : ∃ h1, Sp d mX9_worded [.ref 488, .long (lN v), .int (nI x), .int (nI lo), .int (nI hi)] h (some (.int (nI (rdW (tK (TPs s) (TNs s)) (wN s) [(k, lo, hi)] i ns).1))) h1 ∧ RTs s t (wrN tf x0 (rdW (tK (TPs s) (TNs s)) (wN s) [(k, lo, hi)] i ns).2.2) (rdW (tK (TPs s) (TNs s)) (wN s) [(k, lo, hi)] i ns).2.1 w so on h1 ∧ FR4 h h1 := by
  by_cases h1 : (tK (TPs s) (TNs s)) i = k
  · by_cases h2 : (tK (TPs s) (TNs s)) (i + 1) = 52
    · by_cases h3 : lo ≤ wN s (i + 1) ∧ wN s (i + 1) ≤ hi
      · rw [show rdW (tK (TPs s) (TNs s)) (wN s) [(k, lo, hi)] i ns = (0, i + 2, ns ++ [wN s (i + 1)]) by rw [rdW_e]; rw [if_pos h1, if_pos h2, if_pos h3]; rfl]
        rw [wrN_app, ← ex]
        exact r_worY q ht (iff _) hv h1 (fun h1 q1 => r_figY q1 ht h2 h3 hb hx (Nat.le_refl _)) hd
      · rw [show rdW (tK (TPs s) (TNs s)) (wN s) [(k, lo, hi)] i ns = (2, i + 1, ns) by rw [rdW_e]; rw [if_pos h1, if_pos h2, if_neg h3]]
        exact r_worY q ht (iff _) hv h1 (P := fun h2 => RTs s t (wrN tf x0 ns) (i + 1) w so on h2) (fun h1 q1 => ⟨h1, r_fig2 q1 ht h2 h3 hb (by omega), q1, FR4.rf⟩) hd
    · rw [show rdW (tK (TPs s) (TNs s)) (wN s) [(k, lo, hi)] i ns = (1, i + 1, ns) by rw [rdW_e]; rw [if_pos h1, if_neg h2]]
      exact r_worY q ht (iff _) hv h1 (P := fun h2 => RTs s t (wrN tf x0 ns) (i + 1) w so on h2) (fun h1 q1 => ⟨h1, r_fig1 q1 ht h2, q1, FR4.rf⟩) hd
  · rw [show rdW (tK (TPs s) (TNs s)) (wN s) [(k, lo, hi)] i ns = (1, i, ns) by rw [rdW_e]; rw [if_neg h1]]
    exact ⟨h, r_wor0 q ht (iff _) hv h1 (by omega), q, FR4.rf⟩
theorem rdW_z {K W : Nat → Nat} {l : List (Nat × Nat × Nat)} : ∀ {i : Nat} {ns : List Nat}, (rdW K W l i ns).1 ≤ 2 := by
  induction l with
  | nil => intro i ns; exact Nat.zero_le _
  | cons q r ih =>
    intro i ns
    rw [rdW_e]
    split
    · split
      · split
        · exact ih
        · exact Nat.le_refl _
      · exact (by omega : 1 ≤ 2)
    · exact (by omega : 1 ≤ 2)
theorem rdW_len {K W : Nat → Nat} {l : List (Nat × Nat × Nat)} : ∀ {i : Nat} {ns : List Nat}, (rdW K W l i ns).1 = 0 → (rdW K W l i ns).2.2.length = ns.length + l.length := by
  induction l with
  | nil => intro i ns _; rfl
  | cons q r ih =>
    intro i ns
    rw [rdW_e]
    split
    · split
      · split
        · intro h
          rw [ih h, List.length_append]
          show ns.length + 1 + r.length = ns.length + (r.length + 1)
          omega
        · intro h; cases h
      · intro h; cases h
    · intro h; cases h
theorem rdW_ln {K W : Nat → Nat} {l : List (Nat × Nat × Nat)} : ∀ {i : Nat} {ns : List Nat}, (rdW K W l i ns).2.2.length ≤ ns.length + l.length := by
  induction l with
  | nil => intro i ns; exact Nat.le_refl _
  | cons q r ih =>
    intro i ns
    rw [rdW_e]
    split
    · split
      · split
        · refine Nat.le_trans ih ?_
          rw [List.length_append]
          show ns.length + 1 + r.length ≤ ns.length + (r.length + 1)
          omega
        · exact Nat.le_add_right _ _
      · exact Nat.le_add_right _ _
    · exact Nat.le_add_right _ _
theorem rdA_c {K W : Nat → Nat} {lo hi i : Nat} {r : List (Nat × Nat × Nat)} : rdA K W lo hi r i = if (rdA K W lo hi [] i).1 = 0 then rdW K W r (rdA K W lo hi [] i).2.1 (rdA K W lo hi [] i).2.2 else rdA K W lo hi [] i := by
  unfold rdA
  by_cases h1 : K i = 52
  · rw [if_pos h1, if_pos h1]
    by_cases h2 : lo ≤ W i ∧ W i ≤ hi
    · rw [if_pos h2, if_pos h2]
      rw [show rdW K W [] (i + 1) [W i] = (0, i + 1, [W i]) from rfl, if_pos rfl]
    · rw [if_neg h2, if_neg h2, if_neg (by intro w; cases w)]
  · rw [if_neg h1, if_neg h1, if_neg (by intro w; cases w)]
theorem rdA_1 {K W : Nat → Nat} {lo hi i : Nat} : (rdA K W lo hi [] i).1 ≤ 2 ∧ ((rdA K W lo hi [] i).1 = 0 → (rdA K W lo hi [] i).2.2.length = 1) ∧ (rdA K W lo hi [] i).2.2.length ≤ 1 := by
  unfold rdA
  split
  · split
    · exact ⟨Nat.zero_le _, fun _ => rfl, Nat.le_refl _⟩
    · exact ⟨Nat.le_refl _, fun h => (by cases h), Nat.zero_le _⟩
  · exact ⟨by omega, fun h => (by cases h), Nat.zero_le _⟩
/-- what comes of an act's body at x: fault z, token j, numbers ns -/
def BAr (s : Ms) (t : Nat) (tf : Nat → Int32) (x w : Nat) (so : Int32) (on : Nat) (d : Nat) (M : Mi) (as : List Value) (h : Hp) (y : Nat × Nat × List Nat) : Prop := ∃ h1 tf1, Sp d M as h (some (.int (nI y.1))) h1 ∧ RTs s t tf1 y.2.1 w so on h1 ∧ FR4 h h1 ∧ (∀ j, (j < x + 1 ∨ x + 6 ≤ j) → tf1 j = tf j) ∧ (y.1 = 0 → ∀ c v, y.2.2[c]? = some v → tf1 (x + 1 + c) = nI v)

theorem r_pair {s : Ms} {t : Nat} {tf : Nat → Int32} {i w on : Nat} {so : Int32} {h : Hp} {d : Nat} (q : RTs s t tf i w so on h) (ht : ITp s) {x hi hi2 v k : Nat} (iff : ∀ p, (rtk (TPs s) (TNs s) p = 2 ∧ spR (TPs s) p (tkE (TPs s) (TNs s) p - p) = v) ↔ tkK (TPs s) (TNs s) p = k) (hv : v < 2 ^ 62) (hb : hi ≤ 9999 ∧ hi2 ≤ 9999) (hx : x + 6 < 3012) (hd : 4 ≤ d) : ∃ h1, Sp d mX9_pair [.ref 488, .int (nI x), .int (nI hi), .long (lN v), .int (nI hi2)] h (some (.int (nI (rdA (tK (TPs s) (TNs s)) (wN s) 0 hi [(k, 0, hi2)] i).1))) h1 ∧ RTs s t (wrN tf (x + 1) (rdA (tK (TPs s) (TNs s)) (wN s) 0 hi [(k, 0, hi2)] i).2.2) (rdA (tK (TPs s) (TNs s)) (wN s) 0 hi [(k, 0, hi2)] i).2.1 w so on h1 ∧ FR4 h h1 := by
  have hm := q.1.m
  obtain ⟨h1, s1, q1, f1⟩ := g_fig (d := 2) (x := x + 1) (lo := 0) (hi := hi) q ht (by omega) (by omega) (Nat.le_refl _)
  have y1 := rdA_1 (K := (tK (TPs s) (TNs s))) (W := (wN s)) (lo := 0) (hi := hi) (i := i)
  rw [rdA_c]
  by_cases hz : (rdA (tK (TPs s) (TNs s)) (wN s) 0 hi [] i).1 = 0
  · rw [if_pos hz]
    obtain ⟨h2, s2, q2, f2⟩ := g_wor (d := 3) (x := x + 2) (lo := 0) (hi := hi2) q1 ht iff hv (by rw [y1.2.1 hz]) (by omega) (by omega) (Nat.le_refl _)
    refine ⟨h2, ?_, q2, f1.tr f2⟩
    intro N S Q hN hS hQ
    have hN : pn h ≤ N := ss_n (f1.tr f2).1 hN
    have hS : ps h ≤ S := ss_s (f1.tr f2).1 hS
    have hN1 : pn h1 ≤ N := ss_n' f1.1 hN
    have hS1 : ps h1 ≤ S := ss_s' f1.1 hS
    rw [hz] at s1
    refine z_aload_n dX9_pair_0 rfl rfl ?_
    refine z_iload_n dX9_pair_1 rfl rfl ?_
    refine z_iconst (v := 1) dX9_pair_2 (by decide) ?_
    refine z_iadd dX9_pair_3 ?_
    refine z_eqi (nI_1 x) ?_
    refine z_iconst (v := 0) dX9_pair_4 (by decide) ?_
    refine z_iload_n dX9_pair_5 rfl rfl ?_
    refine y_callV (as := [_, _, _]) CX9_figure LX9_224 IX9_figure VX9_figure ⟨rfl, Nat.le_of_ble_eq_true rfl⟩ dX9_pair_6 hm.o rfl (Nat.le_of_ble_eq_true rfl) (Nat.le_of_ble_eq_true rfl) (by omega) s1 rok_i (hg_ss f1.1 hN hS) ?_
    refine z_istore dX9_pair_9 (Nat.le_of_ble_eq_true rfl) ?_
    refine z_iload dX9_pair_11 rfl ?_
    refine z_if_eq dX9_pair_13 rfl (fun _ => ?_) (fun c => absurd (rfl) c)
    refine z_aload_n dX9_pair_21 rfl rfl ?_
    refine z_lload_n dX9_pair_22 rfl rfl ?_
    refine z_iload_n dX9_pair_23 rfl rfl ?_
    refine z_iconst (v := 2) dX9_pair_24 (by decide) ?_
    refine z_iadd dX9_pair_25 ?_
    refine z_eqi (show _ = nI (x + 2) from nI_add x 2) ?_
    refine z_iconst (v := 0) dX9_pair_26 (by decide) ?_
    refine z_iload dX9_pair_27 rfl ?_
    refine y_callV (as := [_, _, _, _]) CX9_worded LX9_231 IX9_worded VX9_worded ⟨rfl, Nat.le_of_ble_eq_true rfl⟩ dX9_pair_29 (f1.1.O hm.o) rfl (Nat.le_of_ble_eq_true rfl) (Nat.le_of_ble_eq_true rfl) (by omega) s2 rok_i (hg_ss f2.1 hN1 hS1) ?_
    refine z_iret dX9_pair_32 ?_
    exact hQ
  · rw [if_neg hz]
    refine ⟨h1, ?_, q1, f1⟩
    intro N S Q hN hS hQ
    have hN : pn h ≤ N := ss_n f1.1 hN
    have hS : ps h ≤ S := ss_s f1.1 hS
    refine z_aload_n dX9_pair_0 rfl rfl ?_
    refine z_iload_n dX9_pair_1 rfl rfl ?_
    refine z_iconst (v := 1) dX9_pair_2 (by decide) ?_
    refine z_iadd dX9_pair_3 ?_
    refine z_eqi (nI_1 x) ?_
    refine z_iconst (v := 0) dX9_pair_4 (by decide) ?_
    refine z_iload_n dX9_pair_5 rfl rfl ?_
    refine y_callV (as := [_, _, _]) CX9_figure LX9_224 IX9_figure VX9_figure ⟨rfl, Nat.le_of_ble_eq_true rfl⟩ dX9_pair_6 hm.o rfl (Nat.le_of_ble_eq_true rfl) (Nat.le_of_ble_eq_true rfl) (by omega) s1 rok_i (hg_ss f1.1 hN hS) ?_
    refine z_istore dX9_pair_9 (Nat.le_of_ble_eq_true rfl) ?_
    refine z_iload dX9_pair_11 rfl ?_
    refine z_if_eq dX9_pair_13 rfl (fun c => absurd c (fun w => hz ((nI_eq (b := 0) (by omega) (by omega)).mp w))) (fun _ => ?_)
    refine z_iload dX9_pair_16 rfl ?_
    refine z_goto dX9_pair_18 rfl ?_
    refine z_iret dX9_pair_32 ?_
    exact hQ

theorem r_sell {s : Ms} {t : Nat} {tf : Nat → Int32} {i w on : Nat} {so : Int32} {h : Hp} {d : Nat} (q : RTs s t tf i w so on h) (ht : ITp s) {x : Nat} (hx : x + 6 < 3012) (hd : 5 ≤ d) : ∃ h1, Sp d mX9_sellClause [.ref 488, .int (nI x)] h (some (.int (nI (rdA (tK (TPs s) (TNs s)) (wN s) 0 11 [(18, 0, 4), (19, 0, 999)] i).1))) h1 ∧ RTs s t (wrN tf (x + 1) (rdA (tK (TPs s) (TNs s)) (wN s) 0 11 [(18, 0, 4), (19, 0, 999)] i).2.2) (rdA (tK (TPs s) (TNs s)) (wN s) 0 11 [(18, 0, 4), (19, 0, 999)] i).2.1 w so on h1 ∧ FR4 h h1 := by
  have hm := q.1.m
  obtain ⟨h1, s1, q1, f1⟩ := r_pair (d := 4) (x := x) (hi := 11) (hi2 := 4) (v := 29807) (k := 18) q ht (fun p => wd_18 (ht.b p)) (by omega) (by omega) hx (Nat.le_refl _)
  have e2 : rdA (tK (TPs s) (TNs s)) (wN s) 0 11 [(18, 0, 4), (19, 0, 999)] i = if (rdA (tK (TPs s) (TNs s)) (wN s) 0 11 [(18, 0, 4)] i).1 = 0 then rdW (tK (TPs s) (TNs s)) (wN s) [(19, 0, 999)] (rdA (tK (TPs s) (TNs s)) (wN s) 0 11 [(18, 0, 4)] i).2.1 (rdA (tK (TPs s) (TNs s)) (wN s) 0 11 [(18, 0, 4)] i).2.2 else (rdA (tK (TPs s) (TNs s)) (wN s) 0 11 [(18, 0, 4)] i) := by
    rw [rdA_c, rdW_cons, rdA_c (r := [(18, 0, 4)])]
    by_cases hz : (rdA (tK (TPs s) (TNs s)) (wN s) 0 11 [] i).1 = 0
    · rw [if_pos hz, if_pos hz]
    · rw [if_neg hz, if_neg hz, if_neg hz]
  have l2 : (rdA (tK (TPs s) (TNs s)) (wN s) 0 11 [(18, 0, 4)] i).1 ≤ 2 ∧ ((rdA (tK (TPs s) (TNs s)) (wN s) 0 11 [(18, 0, 4)] i).1 = 0 → (rdA (tK (TPs s) (TNs s)) (wN s) 0 11 [(18, 0, 4)] i).2.2.length = 2) := by
    have y1 := rdA_1 (K := (tK (TPs s) (TNs s))) (W := (wN s)) (lo := 0) (hi := 11) (i := i)
    rw [rdA_c]
    by_cases hz : (rdA (tK (TPs s) (TNs s)) (wN s) 0 11 [] i).1 = 0
    · rw [if_pos hz]
      exact ⟨rdW_z, fun h => by rw [rdW_len h, y1.2.1 hz]; rfl⟩
    · rw [if_neg hz]
      exact ⟨y1.1, fun h => absurd h hz⟩
  rw [e2]
  by_cases hz : (rdA (tK (TPs s) (TNs s)) (wN s) 0 11 [(18, 0, 4)] i).1 = 0
  · rw [if_pos hz]
    obtain ⟨h2, s2, q2, f2⟩ := g_wor (d := 3) (x := x + 3) (lo := 0) (hi := 999) (v := 482955846501) (k := 19) q1 ht (fun p => wd_19 (ht.b p)) (by omega) (by rw [l2.2 hz]) (by omega) (by omega) (Nat.le_refl _)
    refine ⟨h2, ?_, q2, f1.tr f2⟩
    intro N S Q hN hS hQ
    have hN : pn h ≤ N := ss_n (f1.tr f2).1 hN
    have hS : ps h ≤ S := ss_s (f1.tr f2).1 hS
    have hN1 : pn h1 ≤ N := ss_n' f1.1 hN
    have hS1 : ps h1 ≤ S := ss_s' f1.1 hS
    rw [hz] at s1
    refine z_aload_n dX9_sellClause_0 rfl rfl ?_
    refine z_iload_n dX9_sellClause_1 rfl rfl ?_
    refine z_bipush (v := 11) dX9_sellClause_2 (by decide) ?_
    refine z_bipush (v := 116) dX9_sellClause_4 (by decide) ?_
    refine z_bipush (v := 111) dX9_sellClause_6 (by decide) ?_
    refine y_callS (as := [_, _]) CX9_w2 LX9_128 SX9_w2 dX9_sellClause_8 rfl (Nat.le_of_ble_eq_true rfl) (Nat.le_of_ble_eq_true rfl) (by omega) (r_w2 (d := 0) (a0 := 116) (a1 := 111) (by omega) (by omega) (Nat.le_refl _)) rok_l ⟨Nat.le_refl _, Nat.le_refl _, hN, hS⟩ ?_
    refine z_eql (show _ = lN 29807 from rfl) ?_
    refine z_iconst (v := 4) dX9_sellClause_11 (by decide) ?_
    refine y_callV (as := [_, _, _, _]) CX9_pair LX9_238 IX9_pair VX9_pair ⟨rfl, Nat.le_of_ble_eq_true rfl⟩ dX9_sellClause_12 hm.o rfl (Nat.le_of_ble_eq_true rfl) (Nat.le_of_ble_eq_true rfl) (by omega) s1 rok_i (hg_ss f1.1 hN hS) ?_
    refine z_istore_n dX9_sellClause_15 rfl (Nat.le_of_ble_eq_true rfl) ?_
    refine z_iload_n dX9_sellClause_16 rfl rfl ?_
    refine z_if_eq dX9_sellClause_17 rfl (fun _ => ?_) (fun c => absurd (rfl) c)
    refine z_aload_n dX9_sellClause_24 rfl rfl ?_
    refine z_bipush (v := 112) dX9_sellClause_25 (by decide) ?_
    refine z_bipush (v := 114) dX9_sellClause_27 (by decide) ?_
    refine z_bipush (v := 105) dX9_sellClause_29 (by decide) ?_
    refine z_bipush (v := 99) dX9_sellClause_31 (by decide) ?_
    refine z_bipush (v := 101) dX9_sellClause_33 (by decide) ?_
    refine y_callS (as := [_, _, _, _, _]) CX9_w5 LX9_140 SX9_w5 dX9_sellClause_35 rfl (Nat.le_of_ble_eq_true rfl) (Nat.le_of_ble_eq_true rfl) (by omega) (r_w5 (d := 3) (a0 := 112) (a1 := 114) (a2 := 105) (a3 := 99) (a4 := 101) (by omega) (by omega) (by omega) (by omega) (by omega) (Nat.le_refl _)) rok_l ⟨Nat.le_refl _, Nat.le_refl _, hN1, hS1⟩ ?_
    refine z_eql (show _ = lN 482955846501 from rfl) ?_
    refine z_iload_n dX9_sellClause_38 rfl rfl ?_
    refine z_iconst (v := 3) dX9_sellClause_39 (by decide) ?_
    refine z_iadd dX9_sellClause_40 ?_
    refine z_eqi (show _ = nI (x + 3) from nI_add x 3) ?_
    refine z_iconst (v := 0) dX9_sellClause_41 (by decide) ?_
    refine z_sipush (v := 999) dX9_sellClause_42 (by decide) ?_
    refine y_callV (as := [_, _, _, _]) CX9_worded LX9_231 IX9_worded VX9_worded ⟨rfl, Nat.le_of_ble_eq_true rfl⟩ dX9_sellClause_45 (f1.1.O hm.o) rfl (Nat.le_of_ble_eq_true rfl) (Nat.le_of_ble_eq_true rfl) (by omega) s2 rok_i (hg_ss f2.1 hN1 hS1) ?_
    refine z_iret dX9_sellClause_48 ?_
    exact hQ
  · rw [if_neg hz]
    refine ⟨h1, ?_, q1, f1⟩
    intro N S Q hN hS hQ
    have hN : pn h ≤ N := ss_n f1.1 hN
    have hS : ps h ≤ S := ss_s f1.1 hS
    refine z_aload_n dX9_sellClause_0 rfl rfl ?_
    refine z_iload_n dX9_sellClause_1 rfl rfl ?_
    refine z_bipush (v := 11) dX9_sellClause_2 (by decide) ?_
    refine z_bipush (v := 116) dX9_sellClause_4 (by decide) ?_
    refine z_bipush (v := 111) dX9_sellClause_6 (by decide) ?_
    refine y_callS (as := [_, _]) CX9_w2 LX9_128 SX9_w2 dX9_sellClause_8 rfl (Nat.le_of_ble_eq_true rfl) (Nat.le_of_ble_eq_true rfl) (by omega) (r_w2 (d := 0) (a0 := 116) (a1 := 111) (by omega) (by omega) (Nat.le_refl _)) rok_l ⟨Nat.le_refl _, Nat.le_refl _, hN, hS⟩ ?_
    refine z_eql (show _ = lN 29807 from rfl) ?_
    refine z_iconst (v := 4) dX9_sellClause_11 (by decide) ?_
    refine y_callV (as := [_, _, _, _]) CX9_pair LX9_238 IX9_pair VX9_pair ⟨rfl, Nat.le_of_ble_eq_true rfl⟩ dX9_sellClause_12 hm.o rfl (Nat.le_of_ble_eq_true rfl) (Nat.le_of_ble_eq_true rfl) (by omega) s1 rok_i (hg_ss f1.1 hN hS) ?_
    refine z_istore_n dX9_sellClause_15 rfl (Nat.le_of_ble_eq_true rfl) ?_
    refine z_iload_n dX9_sellClause_16 rfl rfl ?_
    refine z_if_eq dX9_sellClause_17 rfl (fun c => absurd c (fun w => hz ((nI_eq (b := 0) (by omega) (by omega)).mp w))) (fun _ => ?_)
    refine z_iload_n dX9_sellClause_20 rfl rfl ?_
    refine z_goto dX9_sellClause_21 rfl ?_
    refine z_iret dX9_sellClause_48 ?_
    exact hQ

theorem bit_or {st v : Nat} (hv : v ≤ 7) : nI st ||| ((1 : Int32) <<< (nI v &&& 31)) = nI (st ||| 2 ^ v) := by
  rw [nI_bit (by omega), nI_or]
theorem bit_lt {st v : Nat} (hs : st < 256) (hv : v ≤ 7) : st ||| 2 ^ v < 256 := by
  have h2 : 2 ^ v < 2 ^ 8 := Nat.pow_lt_pow_right (by omega) (by omega)
  exact Nat.or_lt_two_pow (n := 8) hs h2
theorem l_facts {s : Ms} {t : Nat} {w on : Nat} {so : Int32} {d x : Nat} (ht : ITp s) (hx : x < 3012) (hd : 3 ≤ d) : ∀ f n i st (tf : Nat → Int32) h (v4 : Option Value), n + f = 7 → st < 256 → RTs s t tf i w so on h → ∃ h2 tf2, RTs s t tf2 (rdX (tK (TPs s) (TNs s)) (wN s) f i st).2.1 w so on h2 ∧ (∀ j, j ≠ x → tf2 j = tf j) ∧ FR4 h h2 ∧ ((rdX (tK (TPs s) (TNs s)) (wN s) f i st).1 = 0 → tf2 x = nI (rdX (tK (TPs s) (TNs s)) (wN s) f i st).2.2) ∧ ∀ N S Q, pn h ≤ N → ps h ≤ S → Q (some (.int (nI (rdX (tK (TPs s) (TNs s)) (wN s) f i st).1))) h2 → T d N S mX9_factsClause 4 [some (.ref 488), some (.int (nI x)), some (.int (nI st)), some (.int (nI n)), v4] [] h Q := by
  intro f
  induction f with
  | zero =>
    intro n i st tf h v4 hn hst q
    have hm := q.1.m
    obtain ⟨h1, s1, q1, f1⟩ := g_fig (d := 2) (x := x) (lo := 0) (hi := 7) q ht (by omega) hx (Nat.le_refl _)
    by_cases k1 : (tK (TPs s) (TNs s)) i = 52
    · by_cases k2 : wN s i ≤ 7
      · have eA : rdA (tK (TPs s) (TNs s)) (wN s) 0 7 [] i = (0, i + 1, [wN s i]) := by unfold rdA; rw [if_pos k1, if_pos ⟨Nat.zero_le _, k2⟩]; rfl
        rw [eA] at s1 q1
        have q1 : RTs s t (upT tf x (nI (wN s i))) (i + 1) w so on h1 := q1
        have ex : pI h1 491 x = nI (wN s i) := by rw [q1.1.2.2.2.2.2.2.2.1 x hx]; exact upT_s
        have hm1 := q1.1.m
        have q2 := q1.wr x (nI (st ||| 2 ^ wN s i))
        have f2 : FR4 h (sI h1 491 x (nI (st ||| 2 ^ wN s i))) := f1.i (Or.inr rfl)
        have rb := rtk_lt (tp := TPs s) (n := TNs s) (p := tP (TPs s) (TNs s) (i + 1)) (ht.b _)
        have b8 := bit_lt hst k2
        by_cases k3 : (tK (TPs s) (TNs s)) (i + 1) = 50
        · have c44 : rtk (TPs s) (TNs s) (tP (TPs s) (TNs s) (i + 1)) = 44 := (rt_sg (c := 44) (by decide)).mpr k3
          have eR : rdX (tK (TPs s) (TNs s)) (wN s) (0) i st = (7, i + 1, 0) := by rw [rdX_e0]; rw [if_pos k1, if_pos k2, if_pos k3]
          rw [eR]
          refine ⟨_, _, q2, fun j hj => by rw [upT_n hj, upT_n hj], f2, fun w => (by cases w), ?_⟩
          intro N S Q hN hS hQ
          have hN1 : pn h1 ≤ N := ss_n' f1.1 hN
          refine z_aload_n dX9_factsClause_4 rfl rfl ?_
          refine z_iload_n dX9_factsClause_5 rfl rfl ?_
          refine z_iconst (v := 0) dX9_factsClause_6 (by decide) ?_
          refine z_bipush (v := 7) dX9_factsClause_7 (by decide) ?_
          refine y_callV (as := [_, _, _]) CX9_figure LX9_224 IX9_figure VX9_figure ⟨rfl, Nat.le_of_ble_eq_true rfl⟩ dX9_factsClause_9 hm.o rfl (Nat.le_of_ble_eq_true rfl) (Nat.le_of_ble_eq_true rfl) (by omega) s1 rok_i (hg_ss f1.1 hN hS) ?_
          refine z_istore dX9_factsClause_12 (Nat.le_of_ble_eq_true rfl) ?_
          refine z_iload dX9_factsClause_14 rfl ?_
          refine z_if_eq dX9_factsClause_16 rfl (fun _ => ?_) (fun c => absurd (rfl) c)
          refine z_iload_n dX9_factsClause_22 rfl rfl ?_
          refine z_iconst (v := 1) dX9_factsClause_23 (by decide) ?_
          refine z_aload_n dX9_factsClause_24 rfl rfl ?_
          refine y_getR FX9_16 dX9_factsClause_25 rfl (f1.1.O hm.o) (by first | (rw [f1.1.R]; exact hm.f_texts) | exact (congrFun (congrFun f1.1.R _) _).trans hm.f_texts) ?_
          refine z_iload_n dX9_factsClause_28 rfl rfl ?_
          refine y_ialN (x) dX9_factsClause_29 (f1.1.A hm.A_texts) (Nat.le_of_ble_eq_true rfl) (rfl) (by omega) ?_
          refine z_eqi (show _ = nI (wN s i) from ex) ?_
          refine z_ishl dX9_factsClause_30 ?_
          refine z_ior dX9_factsClause_31 ?_
          refine z_eqi (show _ = nI (st ||| 2 ^ wN s i) from bit_or (by omega)) ?_
          refine z_istore_n dX9_factsClause_32 rfl (Nat.le_of_ble_eq_true rfl) ?_
          refine z_aload_n dX9_factsClause_33 rfl rfl ?_
          refine y_getR FX9_16 dX9_factsClause_34 rfl (f1.1.O hm.o) (by first | (rw [f1.1.R]; exact hm.f_texts) | exact (congrFun (congrFun f1.1.R _) _).trans hm.f_texts) ?_
          refine z_iload_n dX9_factsClause_37 rfl rfl ?_
          refine z_iload_n dX9_factsClause_38 rfl rfl ?_
          refine y_iasN (x) dX9_factsClause_39 (f1.1.A hm.A_texts) (Nat.le_of_ble_eq_true rfl) (rfl) (by omega) ?_
          refine z_iinc dX9_factsClause_40 rfl (nI_1 n) (Nat.le_of_ble_eq_true rfl) ?_
          refine z_aload_n dX9_factsClause_43 rfl rfl ?_
          refine y_getI FX9_106 dX9_factsClause_44 (Or.inl rfl) (f1.1.O hm.o) ?_
          refine z_eqi (y := nI (rtk (TPs s) (TNs s) (tP (TPs s) (TNs s) (i + 1)))) q2.tk ?_
          refine z_bipush (v := 44) dX9_factsClause_47 (by decide) ?_
          refine z_icmp_eq dX9_factsClause_49 rfl (fun _ => ?_) (fun c => absurd (congrArg nI c44) c)
          refine z_iload_n dX9_factsClause_54 rfl rfl ?_
          refine z_bipush (v := 8) dX9_factsClause_55 (by decide) ?_
          refine z_icmp_ne dX9_factsClause_57 rfl (fun c => absurd (by rw [show n + 1 = 8 by omega]; rfl) c) (fun _ => ?_)
          refine z_bipush (v := 7) dX9_factsClause_60 (by decide) ?_
          refine z_iret dX9_factsClause_62 ?_
          exact hQ
        · have c44 : ¬ rtk (TPs s) (TNs s) (tP (TPs s) (TNs s) (i + 1)) = 44 := fun w => k3 ((rt_sg (c := 44) (by decide)).mp w)
          have eR : rdX (tK (TPs s) (TNs s)) (wN s) (0) i st = (0, i + 1, st ||| 2 ^ wN s i) := by rw [rdX_e0]; rw [if_pos k1, if_pos k2, if_neg k3]
          rw [eR]
          refine ⟨_, _, q2, fun j hj => by rw [upT_n hj, upT_n hj], f2, fun _ => upT_s, ?_⟩
          intro N S Q hN hS hQ
          refine z_aload_n dX9_factsClause_4 rfl rfl ?_
          refine z_iload_n dX9_factsClause_5 rfl rfl ?_
          refine z_iconst (v := 0) dX9_factsClause_6 (by decide) ?_
          refine z_bipush (v := 7) dX9_factsClause_7 (by decide) ?_
          refine y_callV (as := [_, _, _]) CX9_figure LX9_224 IX9_figure VX9_figure ⟨rfl, Nat.le_of_ble_eq_true rfl⟩ dX9_factsClause_9 hm.o rfl (Nat.le_of_ble_eq_true rfl) (Nat.le_of_ble_eq_true rfl) (by omega) s1 rok_i (hg_ss f1.1 hN hS) ?_
          refine z_istore dX9_factsClause_12 (Nat.le_of_ble_eq_true rfl) ?_
          refine z_iload dX9_factsClause_14 rfl ?_
          refine z_if_eq dX9_factsClause_16 rfl (fun _ => ?_) (fun c => absurd (rfl) c)
          refine z_iload_n dX9_factsClause_22 rfl rfl ?_
          refine z_iconst (v := 1) dX9_factsClause_23 (by decide) ?_
          refine z_aload_n dX9_factsClause_24 rfl rfl ?_
          refine y_getR FX9_16 dX9_factsClause_25 rfl (f1.1.O hm.o) (by first | (rw [f1.1.R]; exact hm.f_texts) | exact (congrFun (congrFun f1.1.R _) _).trans hm.f_texts) ?_
          refine z_iload_n dX9_factsClause_28 rfl rfl ?_
          refine y_ialN (x) dX9_factsClause_29 (f1.1.A hm.A_texts) (Nat.le_of_ble_eq_true rfl) (rfl) (by omega) ?_
          refine z_eqi (show _ = nI (wN s i) from ex) ?_
          refine z_ishl dX9_factsClause_30 ?_
          refine z_ior dX9_factsClause_31 ?_
          refine z_eqi (show _ = nI (st ||| 2 ^ wN s i) from bit_or (by omega)) ?_
          refine z_istore_n dX9_factsClause_32 rfl (Nat.le_of_ble_eq_true rfl) ?_
          refine z_aload_n dX9_factsClause_33 rfl rfl ?_
          refine y_getR FX9_16 dX9_factsClause_34 rfl (f1.1.O hm.o) (by first | (rw [f1.1.R]; exact hm.f_texts) | exact (congrFun (congrFun f1.1.R _) _).trans hm.f_texts) ?_
          refine z_iload_n dX9_factsClause_37 rfl rfl ?_
          refine z_iload_n dX9_factsClause_38 rfl rfl ?_
          refine y_iasN (x) dX9_factsClause_39 (f1.1.A hm.A_texts) (Nat.le_of_ble_eq_true rfl) (rfl) (by omega) ?_
          refine z_iinc dX9_factsClause_40 rfl (nI_1 n) (Nat.le_of_ble_eq_true rfl) ?_
          refine z_aload_n dX9_factsClause_43 rfl rfl ?_
          refine y_getI FX9_106 dX9_factsClause_44 (Or.inl rfl) (f1.1.O hm.o) ?_
          refine z_eqi (y := nI (rtk (TPs s) (TNs s) (tP (TPs s) (TNs s) (i + 1)))) q2.tk ?_
          refine z_bipush (v := 44) dX9_factsClause_47 (by decide) ?_
          refine z_icmp_eq dX9_factsClause_49 rfl (fun c => absurd c (fun w => c44 ((nI_eq (b := 44) (by omega) (by omega)).mp w))) (fun _ => ?_)
          refine z_iconst (v := 0) dX9_factsClause_52 (by decide) ?_
          refine z_iret dX9_factsClause_53 ?_
          exact hQ
      · rw [show rdA (tK (TPs s) (TNs s)) (wN s) 0 7 [] i = (2, i, []) by unfold rdA; rw [if_pos k1, if_neg (fun w => k2 w.2)]] at s1 q1
        have eR : rdX (tK (TPs s) (TNs s)) (wN s) (0) i st = (2, i, 0) := by rw [rdX_e0]; rw [if_pos k1, if_neg k2]
        rw [eR]
        refine ⟨h1, tf, q1, fun j _ => rfl, f1, fun w => (by cases w), ?_⟩
        intro N S Q hN hS hQ
        refine z_aload_n dX9_factsClause_4 rfl rfl ?_
        refine z_iload_n dX9_factsClause_5 rfl rfl ?_
        refine z_iconst (v := 0) dX9_factsClause_6 (by decide) ?_
        refine z_bipush (v := 7) dX9_factsClause_7 (by decide) ?_
        refine y_callV (as := [_, _, _]) CX9_figure LX9_224 IX9_figure VX9_figure ⟨rfl, Nat.le_of_ble_eq_true rfl⟩ dX9_factsClause_9 hm.o rfl (Nat.le_of_ble_eq_true rfl) (Nat.le_of_ble_eq_true rfl) (by omega) s1 rok_i (hg_ss f1.1 hN hS) ?_
        refine z_istore dX9_factsClause_12 (Nat.le_of_ble_eq_true rfl) ?_
        refine z_iload dX9_factsClause_14 rfl ?_
        refine z_if_eq dX9_factsClause_16 rfl (fun c => absurd c (show ¬ nI 2 = 0 by decide)) (fun _ => ?_)
        refine z_iload dX9_factsClause_19 rfl ?_
        refine z_iret dX9_factsClause_21 ?_
        exact hQ
    · rw [show rdA (tK (TPs s) (TNs s)) (wN s) 0 7 [] i = (1, i, []) by unfold rdA; rw [if_neg k1]] at s1 q1
      have eR : rdX (tK (TPs s) (TNs s)) (wN s) (0) i st = (1, i, 0) := by rw [rdX_e0]; rw [if_neg k1]
      rw [eR]
      refine ⟨h1, tf, q1, fun j _ => rfl, f1, fun w => (by cases w), ?_⟩
      intro N S Q hN hS hQ
      refine z_aload_n dX9_factsClause_4 rfl rfl ?_
      refine z_iload_n dX9_factsClause_5 rfl rfl ?_
      refine z_iconst (v := 0) dX9_factsClause_6 (by decide) ?_
      refine z_bipush (v := 7) dX9_factsClause_7 (by decide) ?_
      refine y_callV (as := [_, _, _]) CX9_figure LX9_224 IX9_figure VX9_figure ⟨rfl, Nat.le_of_ble_eq_true rfl⟩ dX9_factsClause_9 hm.o rfl (Nat.le_of_ble_eq_true rfl) (Nat.le_of_ble_eq_true rfl) (by omega) s1 rok_i (hg_ss f1.1 hN hS) ?_
      refine z_istore dX9_factsClause_12 (Nat.le_of_ble_eq_true rfl) ?_
      refine z_iload dX9_factsClause_14 rfl ?_
      refine z_if_eq dX9_factsClause_16 rfl (fun c => absurd c (show ¬ nI 1 = 0 by decide)) (fun _ => ?_)
      refine z_iload dX9_factsClause_19 rfl ?_
      refine z_iret dX9_factsClause_21 ?_
      exact hQ
  | succ f ih =>
    intro n i st tf h v4 hn hst q
    have hm := q.1.m
    obtain ⟨h1, s1, q1, f1⟩ := g_fig (d := 2) (x := x) (lo := 0) (hi := 7) q ht (by omega) hx (Nat.le_refl _)
    by_cases k1 : (tK (TPs s) (TNs s)) i = 52
    · by_cases k2 : wN s i ≤ 7
      · have eA : rdA (tK (TPs s) (TNs s)) (wN s) 0 7 [] i = (0, i + 1, [wN s i]) := by unfold rdA; rw [if_pos k1, if_pos ⟨Nat.zero_le _, k2⟩]; rfl
        rw [eA] at s1 q1
        have q1 : RTs s t (upT tf x (nI (wN s i))) (i + 1) w so on h1 := q1
        have ex : pI h1 491 x = nI (wN s i) := by rw [q1.1.2.2.2.2.2.2.2.1 x hx]; exact upT_s
        have hm1 := q1.1.m
        have q2 := q1.wr x (nI (st ||| 2 ^ wN s i))
        have f2 : FR4 h (sI h1 491 x (nI (st ||| 2 ^ wN s i))) := f1.i (Or.inr rfl)
        have rb := rtk_lt (tp := TPs s) (n := TNs s) (p := tP (TPs s) (TNs s) (i + 1)) (ht.b _)
        have b8 := bit_lt hst k2
        by_cases k3 : (tK (TPs s) (TNs s)) (i + 1) = 50
        · have c44 : rtk (TPs s) (TNs s) (tP (TPs s) (TNs s) (i + 1)) = 44 := (rt_sg (c := 44) (by decide)).mpr k3
          have eR : rdX (tK (TPs s) (TNs s)) (wN s) (f + 1) i st = rdX (tK (TPs s) (TNs s)) (wN s) f (i + 2) (st ||| 2 ^ wN s i) := by rw [show rdX (tK (TPs s) (TNs s)) (wN s) (f + 1) i st = if (tK (TPs s) (TNs s)) i = 52 then (if wN s i ≤ 7 then (if (tK (TPs s) (TNs s)) (i + 1) = 50 then rdX (tK (TPs s) (TNs s)) (wN s) f (i + 2) (st ||| 2 ^ wN s i) else (0, i + 1, st ||| 2 ^ wN s i)) else (2, i, 0)) else (1, i, 0) from rfl, if_pos k1, if_pos k2, if_pos k3]
          rw [eR]
          obtain ⟨h3, s3, q3, f3⟩ := r_nx (d := 1) q2 ht (Nat.le_refl _)
          obtain ⟨h4, tf4, q4, g4, f4, e4, t4⟩ := ih (n + 1) (i + 2) (st ||| 2 ^ wN s i) _ h3 (some (.int 0)) (by omega) b8 q3
          refine ⟨h4, tf4, q4, fun j hj => by rw [g4 j hj, upT_n hj, upT_n hj], (f2.tr f3).tr f4, e4, ?_⟩
          intro N S Q hN hS hQ
          have hN3 : pn h3 ≤ N := ss_n' (f2.tr f3).1 hN
          have hS3 : ps h3 ≤ S := ss_s' (f2.tr f3).1 hS
          refine z_aload_n dX9_factsClause_4 rfl rfl ?_
          refine z_iload_n dX9_factsClause_5 rfl rfl ?_
          refine z_iconst (v := 0) dX9_factsClause_6 (by decide) ?_
          refine z_bipush (v := 7) dX9_factsClause_7 (by decide) ?_
          refine y_callV (as := [_, _, _]) CX9_figure LX9_224 IX9_figure VX9_figure ⟨rfl, Nat.le_of_ble_eq_true rfl⟩ dX9_factsClause_9 hm.o rfl (Nat.le_of_ble_eq_true rfl) (Nat.le_of_ble_eq_true rfl) (by omega) s1 rok_i (hg_ss f1.1 hN hS) ?_
          refine z_istore dX9_factsClause_12 (Nat.le_of_ble_eq_true rfl) ?_
          refine z_iload dX9_factsClause_14 rfl ?_
          refine z_if_eq dX9_factsClause_16 rfl (fun _ => ?_) (fun c => absurd (rfl) c)
          refine z_iload_n dX9_factsClause_22 rfl rfl ?_
          refine z_iconst (v := 1) dX9_factsClause_23 (by decide) ?_
          refine z_aload_n dX9_factsClause_24 rfl rfl ?_
          refine y_getR FX9_16 dX9_factsClause_25 rfl (f1.1.O hm.o) (by first | (rw [f1.1.R]; exact hm.f_texts) | exact (congrFun (congrFun f1.1.R _) _).trans hm.f_texts) ?_
          refine z_iload_n dX9_factsClause_28 rfl rfl ?_
          refine y_ialN (x) dX9_factsClause_29 (f1.1.A hm.A_texts) (Nat.le_of_ble_eq_true rfl) (rfl) (by omega) ?_
          refine z_eqi (show _ = nI (wN s i) from ex) ?_
          refine z_ishl dX9_factsClause_30 ?_
          refine z_ior dX9_factsClause_31 ?_
          refine z_eqi (show _ = nI (st ||| 2 ^ wN s i) from bit_or (by omega)) ?_
          refine z_istore_n dX9_factsClause_32 rfl (Nat.le_of_ble_eq_true rfl) ?_
          refine z_aload_n dX9_factsClause_33 rfl rfl ?_
          refine y_getR FX9_16 dX9_factsClause_34 rfl (f1.1.O hm.o) (by first | (rw [f1.1.R]; exact hm.f_texts) | exact (congrFun (congrFun f1.1.R _) _).trans hm.f_texts) ?_
          refine z_iload_n dX9_factsClause_37 rfl rfl ?_
          refine z_iload_n dX9_factsClause_38 rfl rfl ?_
          refine y_iasN (x) dX9_factsClause_39 (f1.1.A hm.A_texts) (Nat.le_of_ble_eq_true rfl) (rfl) (by omega) ?_
          refine z_iinc dX9_factsClause_40 rfl (nI_1 n) (Nat.le_of_ble_eq_true rfl) ?_
          refine z_aload_n dX9_factsClause_43 rfl rfl ?_
          refine y_getI FX9_106 dX9_factsClause_44 (Or.inl rfl) (f1.1.O hm.o) ?_
          refine z_eqi (y := nI (rtk (TPs s) (TNs s) (tP (TPs s) (TNs s) (i + 1)))) q2.tk ?_
          refine z_bipush (v := 44) dX9_factsClause_47 (by decide) ?_
          refine z_icmp_eq dX9_factsClause_49 rfl (fun _ => ?_) (fun c => absurd (congrArg nI c44) c)
          refine z_iload_n dX9_factsClause_54 rfl rfl ?_
          refine z_bipush (v := 8) dX9_factsClause_55 (by decide) ?_
          refine z_icmp_ne dX9_factsClause_57 rfl (fun _ => ?_) (fun c => absurd c (fun w => absurd ((nI_eq (b := 8) (by omega) (by omega)).mp w) (by omega)))
          refine z_aload_n dX9_factsClause_63 rfl rfl ?_
          refine y_callV (as := []) CX9_nextToken LX9_173 IX9_nextToken VX9_nextToken ⟨rfl, Nat.le_of_ble_eq_true rfl⟩ dX9_factsClause_64 (f1.1.O hm.o) rfl (Nat.le_of_ble_eq_true rfl) (Nat.le_of_ble_eq_true rfl) (by omega) s3 rok_v (hg_ss f3.1 (ss_n' f2.1 hN) (ss_s' f2.1 hS)) ?_
          refine z_goto dX9_factsClause_67 rfl ?_
          exact t4 N S Q hN3 hS3 hQ
        · have c44 : ¬ rtk (TPs s) (TNs s) (tP (TPs s) (TNs s) (i + 1)) = 44 := fun w => k3 ((rt_sg (c := 44) (by decide)).mp w)
          have eR : rdX (tK (TPs s) (TNs s)) (wN s) (f + 1) i st = (0, i + 1, st ||| 2 ^ wN s i) := by rw [rdX_e]; rw [if_pos k1, if_pos k2, if_neg k3]
          rw [eR]
          refine ⟨_, _, q2, fun j hj => by rw [upT_n hj, upT_n hj], f2, fun _ => upT_s, ?_⟩
          intro N S Q hN hS hQ
          refine z_aload_n dX9_factsClause_4 rfl rfl ?_
          refine z_iload_n dX9_factsClause_5 rfl rfl ?_
          refine z_iconst (v := 0) dX9_factsClause_6 (by decide) ?_
          refine z_bipush (v := 7) dX9_factsClause_7 (by decide) ?_
          refine y_callV (as := [_, _, _]) CX9_figure LX9_224 IX9_figure VX9_figure ⟨rfl, Nat.le_of_ble_eq_true rfl⟩ dX9_factsClause_9 hm.o rfl (Nat.le_of_ble_eq_true rfl) (Nat.le_of_ble_eq_true rfl) (by omega) s1 rok_i (hg_ss f1.1 hN hS) ?_
          refine z_istore dX9_factsClause_12 (Nat.le_of_ble_eq_true rfl) ?_
          refine z_iload dX9_factsClause_14 rfl ?_
          refine z_if_eq dX9_factsClause_16 rfl (fun _ => ?_) (fun c => absurd (rfl) c)
          refine z_iload_n dX9_factsClause_22 rfl rfl ?_
          refine z_iconst (v := 1) dX9_factsClause_23 (by decide) ?_
          refine z_aload_n dX9_factsClause_24 rfl rfl ?_
          refine y_getR FX9_16 dX9_factsClause_25 rfl (f1.1.O hm.o) (by first | (rw [f1.1.R]; exact hm.f_texts) | exact (congrFun (congrFun f1.1.R _) _).trans hm.f_texts) ?_
          refine z_iload_n dX9_factsClause_28 rfl rfl ?_
          refine y_ialN (x) dX9_factsClause_29 (f1.1.A hm.A_texts) (Nat.le_of_ble_eq_true rfl) (rfl) (by omega) ?_
          refine z_eqi (show _ = nI (wN s i) from ex) ?_
          refine z_ishl dX9_factsClause_30 ?_
          refine z_ior dX9_factsClause_31 ?_
          refine z_eqi (show _ = nI (st ||| 2 ^ wN s i) from bit_or (by omega)) ?_
          refine z_istore_n dX9_factsClause_32 rfl (Nat.le_of_ble_eq_true rfl) ?_
          refine z_aload_n dX9_factsClause_33 rfl rfl ?_
          refine y_getR FX9_16 dX9_factsClause_34 rfl (f1.1.O hm.o) (by first | (rw [f1.1.R]; exact hm.f_texts) | exact (congrFun (congrFun f1.1.R _) _).trans hm.f_texts) ?_
          refine z_iload_n dX9_factsClause_37 rfl rfl ?_
          refine z_iload_n dX9_factsClause_38 rfl rfl ?_
          refine y_iasN (x) dX9_factsClause_39 (f1.1.A hm.A_texts) (Nat.le_of_ble_eq_true rfl) (rfl) (by omega) ?_
          refine z_iinc dX9_factsClause_40 rfl (nI_1 n) (Nat.le_of_ble_eq_true rfl) ?_
          refine z_aload_n dX9_factsClause_43 rfl rfl ?_
          refine y_getI FX9_106 dX9_factsClause_44 (Or.inl rfl) (f1.1.O hm.o) ?_
          refine z_eqi (y := nI (rtk (TPs s) (TNs s) (tP (TPs s) (TNs s) (i + 1)))) q2.tk ?_
          refine z_bipush (v := 44) dX9_factsClause_47 (by decide) ?_
          refine z_icmp_eq dX9_factsClause_49 rfl (fun c => absurd c (fun w => c44 ((nI_eq (b := 44) (by omega) (by omega)).mp w))) (fun _ => ?_)
          refine z_iconst (v := 0) dX9_factsClause_52 (by decide) ?_
          refine z_iret dX9_factsClause_53 ?_
          exact hQ
      · rw [show rdA (tK (TPs s) (TNs s)) (wN s) 0 7 [] i = (2, i, []) by unfold rdA; rw [if_pos k1, if_neg (fun w => k2 w.2)]] at s1 q1
        have eR : rdX (tK (TPs s) (TNs s)) (wN s) (f + 1) i st = (2, i, 0) := by rw [rdX_e]; rw [if_pos k1, if_neg k2]
        rw [eR]
        refine ⟨h1, tf, q1, fun j _ => rfl, f1, fun w => (by cases w), ?_⟩
        intro N S Q hN hS hQ
        refine z_aload_n dX9_factsClause_4 rfl rfl ?_
        refine z_iload_n dX9_factsClause_5 rfl rfl ?_
        refine z_iconst (v := 0) dX9_factsClause_6 (by decide) ?_
        refine z_bipush (v := 7) dX9_factsClause_7 (by decide) ?_
        refine y_callV (as := [_, _, _]) CX9_figure LX9_224 IX9_figure VX9_figure ⟨rfl, Nat.le_of_ble_eq_true rfl⟩ dX9_factsClause_9 hm.o rfl (Nat.le_of_ble_eq_true rfl) (Nat.le_of_ble_eq_true rfl) (by omega) s1 rok_i (hg_ss f1.1 hN hS) ?_
        refine z_istore dX9_factsClause_12 (Nat.le_of_ble_eq_true rfl) ?_
        refine z_iload dX9_factsClause_14 rfl ?_
        refine z_if_eq dX9_factsClause_16 rfl (fun c => absurd c (show ¬ nI 2 = 0 by decide)) (fun _ => ?_)
        refine z_iload dX9_factsClause_19 rfl ?_
        refine z_iret dX9_factsClause_21 ?_
        exact hQ
    · rw [show rdA (tK (TPs s) (TNs s)) (wN s) 0 7 [] i = (1, i, []) by unfold rdA; rw [if_neg k1]] at s1 q1
      have eR : rdX (tK (TPs s) (TNs s)) (wN s) (f + 1) i st = (1, i, 0) := by rw [rdX_e]; rw [if_neg k1]
      rw [eR]
      refine ⟨h1, tf, q1, fun j _ => rfl, f1, fun w => (by cases w), ?_⟩
      intro N S Q hN hS hQ
      refine z_aload_n dX9_factsClause_4 rfl rfl ?_
      refine z_iload_n dX9_factsClause_5 rfl rfl ?_
      refine z_iconst (v := 0) dX9_factsClause_6 (by decide) ?_
      refine z_bipush (v := 7) dX9_factsClause_7 (by decide) ?_
      refine y_callV (as := [_, _, _]) CX9_figure LX9_224 IX9_figure VX9_figure ⟨rfl, Nat.le_of_ble_eq_true rfl⟩ dX9_factsClause_9 hm.o rfl (Nat.le_of_ble_eq_true rfl) (Nat.le_of_ble_eq_true rfl) (by omega) s1 rok_i (hg_ss f1.1 hN hS) ?_
      refine z_istore dX9_factsClause_12 (Nat.le_of_ble_eq_true rfl) ?_
      refine z_iload dX9_factsClause_14 rfl ?_
      refine z_if_eq dX9_factsClause_16 rfl (fun c => absurd c (show ¬ nI 1 = 0 by decide)) (fun _ => ?_)
      refine z_iload dX9_factsClause_19 rfl ?_
      refine z_iret dX9_factsClause_21 ?_
      exact hQ
theorem r_facts {s : Ms} {t : Nat} {tf : Nat → Int32} {i w on : Nat} {so : Int32} {h : Hp} {d : Nat} (q : RTs s t tf i w so on h) (ht : ITp s) {x : Nat} (hx : x < 3012) (hd : 3 ≤ d) : ∃ h2 tf2, Sp d mX9_factsClause [.ref 488, .int (nI x)] h (some (.int (nI (rdX (tK (TPs s) (TNs s)) (wN s) 7 i 0).1))) h2 ∧ RTs s t tf2 (rdX (tK (TPs s) (TNs s)) (wN s) 7 i 0).2.1 w so on h2 ∧ (∀ j, j ≠ x → tf2 j = tf j) ∧ FR4 h h2 ∧ ((rdX (tK (TPs s) (TNs s)) (wN s) 7 i 0).1 = 0 → tf2 x = nI (rdX (tK (TPs s) (TNs s)) (wN s) 7 i 0).2.2) := by
  obtain ⟨h2, tf2, q2, g2, f2, e2, t2⟩ := l_facts (d := d) ht hx hd 7 0 i 0 tf h none rfl (by omega) q
  refine ⟨h2, tf2, ?_, q2, g2, f2, e2⟩
  intro N S Q hN hS hQ
  refine z_iconst (v := 0) dX9_factsClause_0 (by decide) ?_
  refine z_istore_n dX9_factsClause_1 rfl (Nat.le_of_ble_eq_true rfl) ?_
  refine z_iconst (v := 0) dX9_factsClause_2 (by decide) ?_
  refine z_istore_n dX9_factsClause_3 rfl (Nat.le_of_ble_eq_true rfl) ?_
  exact t2 N S Q (ss_n f2.1 hN) (ss_s f2.1 hS) hQ
theorem rdX_z {K W : Nat → Nat} : ∀ f i st, (rdX K W f i st).1 ≤ 7 ∧ (st < 256 → (rdX K W f i st).2.2 < 256) := by
  intro f
  induction f with
  | zero =>
    intro i st
    rw [rdX_e0]
    split
    · split
      · next k2 =>
        split
        · exact ⟨Nat.le_refl _, fun _ => (by show 0 < 256; omega)⟩
        · exact ⟨Nat.zero_le _, fun h => bit_lt h k2⟩
      · exact ⟨by show 2 ≤ 7; omega, fun _ => (by show 0 < 256; omega)⟩
    · exact ⟨by show 1 ≤ 7; omega, fun _ => (by show 0 < 256; omega)⟩
  | succ f ih =>
    intro i st
    rw [show rdX K W (f + 1) i st = if K i = 52 then (if W i ≤ 7 then (if K (i + 1) = 50 then rdX K W f (i + 2) (st ||| 2 ^ W i) else (0, i + 1, st ||| 2 ^ W i)) else (2, i, 0)) else (1, i, 0) from rfl]
    split
    · split
      · next k2 =>
        split
        · exact ⟨(ih _ _).1, fun h => (ih _ _).2 (bit_lt h k2)⟩
        · exact ⟨Nat.zero_le _, fun h => bit_lt h k2⟩
      · exact ⟨by show 2 ≤ 7; omega, fun _ => (by show 0 < 256; omega)⟩
    · exact ⟨by show 1 ≤ 7; omega, fun _ => (by show 0 < 256; omega)⟩

