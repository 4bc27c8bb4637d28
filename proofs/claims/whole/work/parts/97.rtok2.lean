/-! the reference's next token (walks by program: wip/whole/gen97.py) -/
def rtk (tp : Fl) (n p : Nat) : Nat := if n ≤ p then 0 else if isL (tp p) = true then 2 else if isD (tp p) = true then 1 else if two2 tp n p then (if tp p = 60 then 4 else 5) else if sgK (tp p) = 53 then 3 else tp p
/-- only the fields of the token have changed -/
def FN (h h1 : Hp) : Prop := SS h h1 ∧ (∀ k, k ≠ 488 → pI h1 k = pI h k) ∧ (∀ j, (j < 7 ∨ 10 < j) → pI h1 488 j = pI h 488 j) ∧ (∀ k, k ≠ 488 → pJ h1 k = pJ h k) ∧ (∀ j, j ≠ 11 → pJ h1 488 j = pJ h 488 j)
theorem FN.rf {h : Hp} : FN h h := ⟨SS.rf, fun _ _ => rfl, fun _ _ => rfl, fun _ _ => rfl, fun _ _ => rfl⟩
theorem FN.tr {a b c : Hp} (h1 : FN a b) (h2 : FN b c) : FN a c := ⟨h1.1.tr h2.1, fun k hk => (h2.2.1 k hk).trans (h1.2.1 k hk), fun j hj => (h2.2.2.1 j hj).trans (h1.2.2.1 j hj), fun k hk => (h2.2.2.2.1 k hk).trans (h1.2.2.2.1 k hk), fun j hj => (h2.2.2.2.2 j hj).trans (h1.2.2.2.2 j hj)⟩
theorem FN.sI {h h1 : Hp} {j : Nat} {v : Int32} (f : FN h h1) (hj : 7 ≤ j ∧ j ≤ 10) : FN h (sI h1 488 j v) := ⟨f.1, fun k hk => by rw [pI_sI_ne hk]; exact f.2.1 k hk, fun i hi => by rw [pI_sI, if_pos rfl, if_neg (by omega)]; exact f.2.2.1 i hi, f.2.2.2.1, f.2.2.2.2⟩
theorem FN.sJ {h h1 : Hp} {v : Int64} (f : FN h h1) : FN h (sJ h1 488 11 v) := ⟨f.1, f.2.1, f.2.2.1, fun k hk => by
  funext b
  rw [pJ_sJ, if_neg hk]
  exact congrFun (f.2.2.2.1 k hk) b, fun i hi => by rw [pJ_sJ, if_pos rfl, if_neg hi]; exact f.2.2.2.2 i hi⟩
theorem FN.rm {s : Ms} {h h1 : Hp} (f : FN h h1) (hr : RM s h) : RM s h1 := by
  obtain ⟨r1, r2, r3, r4, r5, r6, r7, r8, r9⟩ := hr
  refine ⟨f.1.M r1, fun j hj => ?_, fun j hj => ?_, fun j hj => ?_, ?_, ?_, ?_, fun j hj => ?_, ?_⟩
  · rw [f.2.1 489 (by omega)]; exact r2 j hj
  · rw [f.2.1 490 (by omega)]; exact r3 j hj
  · rw [f.2.1 492 (by omega)]; exact r4 j hj
  · rw [f.2.2.1 4 (by omega)]; exact r5
  · rw [f.2.2.1 5 (by omega)]; exact r6
  · rw [f.2.2.1 6 (by omega)]; exact r7
  · rw [f.2.1 491 (by omega)]; exact r8 j hj
  · rw [f.2.2.1 23 (by omega)]; exact r9
theorem FN.fm {h h1 : Hp} (f : FN h h1) : FM h h1 := ⟨f.1, fun k hk => ⟨f.2.1 k (by omega), f.2.2.2.1 k (by omega)⟩⟩
theorem bA_eq {tp : Fl} {n k c : Nat} (hc : c < 256) (hb : k < n → tp k < 256) : bA tp n k = nI c ↔ k < n ∧ tp k = c := by
  unfold bA
  by_cases q : k < n
  · rw [if_pos q, nI_eq (by have := hb q; omega) (by omega)]
    exact ⟨fun e => ⟨q, e⟩, fun e => e.2⟩
  · rw [if_neg q]
    constructor
    · intro e
      have := nI_pos (n := c) (by omega)
      rw [← e] at this
      exact absurd (by decide) this
    · intro e; exact absurd e.1 q

theorem r_nt_sp {s : Ms} {h : Hp} {d : Nat} (hr : RM s h) (ht : ITp s) : ∀ r x (h1 : Hp), TNs s - x = r → x ≤ TNs s → FN h h1 → pI h1 488 7 = nI x → ∃ h2, FN h h2 ∧ pI h2 488 7 = nI (rnF isSp (TPs s) (TNs s) x) ∧ ∀ (o1 : Option Value) (N S : Nat) (Q : Option Value → Hp → Prop), pn h ≤ N → ps h ≤ S → 1 ≤ d → T d N S mX9_nextToken 39 [some (.ref 488), o1] [] h2 Q → T d N S mX9_nextToken 0 [some (.ref 488), o1] [] h1 Q := by
  have n3 : TNs s ≤ 300 := ht.1
  have bb : ∀ k, k < TNs s → TPs s k < 256 := fun k hk => ht.2 k (by omega)
  intro r
  induction r with
  | zero =>
    intro x h1 hx hxn f1 e7
    have r1 := f1.rm hr
    have en : rnF isSp (TPs s) (TNs s) x = x := rnF_n (fun q => by omega)
    refine ⟨h1, f1, by rw [en]; exact e7, fun o1 N S Q hN hS hd K => ?_⟩
    have hN1 : pn h1 ≤ N := by rw [f1.1.n]; exact hN
    have hS1 : ps h1 ≤ S := by rw [f1.1.s]; exact hS
    have b1 : ¬ bA (TPs s) (TNs s) x = 32 := fun q => absurd ((bA_eq (c := 32) (by omega) (bb x)).mp q).1 (by omega)
    have b2 : ¬ bA (TPs s) (TNs s) x = 10 := fun q => absurd ((bA_eq (c := 10) (by omega) (bb x)).mp q).1 (by omega)
    refine z_aload_n dX9_nextToken_0 rfl rfl ?_
    refine z_aload_n dX9_nextToken_1 rfl rfl ?_
    refine y_getI FX9_96 dX9_nextToken_2 (Or.inl rfl) r1.m.o ?_
    refine z_eqi (y := nI (x)) (show _ = nI x by first | exact e7 | (rw [pI_sI, if_pos rfl, if_neg (by omega)]; exact e7)) ?_
    refine y_callV (as := [_]) CX9_byteAt LX9_99 IX9_byteAt VX9_byteAt ⟨rfl, Nat.le_of_ble_eq_true rfl⟩ dX9_nextToken_5 r1.m.o rfl (Nat.le_of_ble_eq_true rfl) (Nat.le_of_ble_eq_true rfl) (by omega) (r_byteAt (d := 0) (k := x) r1 ht (by omega)) rok_i ⟨Nat.le_refl _, Nat.le_refl _, hN1, hS1⟩ ?_
    refine z_bipush (v := 32) dX9_nextToken_8 (by decide) ?_
    refine z_icmp_eq dX9_nextToken_10 rfl (fun c => absurd c (b1)) (fun _ => ?_)
    refine z_aload_n dX9_nextToken_13 rfl rfl ?_
    refine z_aload_n dX9_nextToken_14 rfl rfl ?_
    refine y_getI FX9_96 dX9_nextToken_15 (Or.inl rfl) r1.m.o ?_
    refine z_eqi (y := nI (x)) (show _ = nI x by first | exact e7 | (rw [pI_sI, if_pos rfl, if_neg (by omega)]; exact e7)) ?_
    refine y_callV (as := [_]) CX9_byteAt LX9_99 IX9_byteAt VX9_byteAt ⟨rfl, Nat.le_of_ble_eq_true rfl⟩ dX9_nextToken_18 r1.m.o rfl (Nat.le_of_ble_eq_true rfl) (Nat.le_of_ble_eq_true rfl) (by omega) (r_byteAt (d := 0) (k := x) r1 ht (by omega)) rok_i ⟨Nat.le_refl _, Nat.le_refl _, hN1, hS1⟩ ?_
    refine z_bipush (v := 10) dX9_nextToken_21 (by decide) ?_
    refine z_icmp_ne dX9_nextToken_23 rfl (fun _ => ?_) (fun c => absurd c (b2))
    exact K
  | succ r ih =>
    intro x h1 hx hxn f1 e7
    have r1 := f1.rm hr
    by_cases c : isSp (TPs s x) = true
    · obtain ⟨h2, k1, k2, K0⟩ := ih (x + 1) (sI h1 488 7 (nI (x + 1))) (by omega) (by omega) (f1.sI (by omega)) (by rw [pI_sI, if_pos rfl, if_pos rfl])
      refine ⟨h2, k1, by rw [rnF_y (by omega) c]; exact k2, fun o1 N S Q hN hS hd K => ?_⟩
      have hN1 : pn h1 ≤ N := by rw [f1.1.n]; exact hN
      have hS1 : ps h1 ≤ S := by rw [f1.1.s]; exact hS
      have K1 := K0 o1 N S Q hN hS hd K
      by_cases c1 : TPs s x = 32
      · have b1 : bA (TPs s) (TNs s) x = 32 := (bA_eq (c := 32) (by omega) (bb x)).mpr ⟨by omega, c1⟩
        refine z_aload_n dX9_nextToken_0 rfl rfl ?_
        refine z_aload_n dX9_nextToken_1 rfl rfl ?_
        refine y_getI FX9_96 dX9_nextToken_2 (Or.inl rfl) r1.m.o ?_
        refine z_eqi (y := nI (x)) (show _ = nI x by first | exact e7 | (rw [pI_sI, if_pos rfl, if_neg (by omega)]; exact e7)) ?_
        refine y_callV (as := [_]) CX9_byteAt LX9_99 IX9_byteAt VX9_byteAt ⟨rfl, Nat.le_of_ble_eq_true rfl⟩ dX9_nextToken_5 r1.m.o rfl (Nat.le_of_ble_eq_true rfl) (Nat.le_of_ble_eq_true rfl) (by omega) (r_byteAt (d := 0) (k := x) r1 ht (by omega)) rok_i ⟨Nat.le_refl _, Nat.le_refl _, hN1, hS1⟩ ?_
        refine z_bipush (v := 32) dX9_nextToken_8 (by decide) ?_
        refine z_icmp_eq dX9_nextToken_10 rfl (fun _ => ?_) (fun c => absurd (b1) c)
        refine z_aload_n dX9_nextToken_26 rfl rfl ?_
        refine z_dup dX9_nextToken_27 rfl ?_
        refine y_getI FX9_96 dX9_nextToken_28 (Or.inl rfl) r1.m.o ?_
        refine z_eqi (y := nI (x)) (show _ = nI x by first | exact e7 | (rw [pI_sI, if_pos rfl, if_neg (by omega)]; exact e7)) ?_
        refine z_iconst (v := 1) dX9_nextToken_31 (by decide) ?_
        refine z_iadd dX9_nextToken_32 ?_
        refine z_eqi (nI_1 x) ?_
        refine y_putI FX9_96 dX9_nextToken_33 (Or.inl rfl) (Or.inl rfl) r1.m.o ?_
        refine z_goto dX9_nextToken_36 rfl ?_
        exact K1
      · have c2 : TPs s x = 10 := by
          unfold isSp at c
          rw [Bool.or_eq_true, decide_eq_true_eq, decide_eq_true_eq] at c
          exact c.resolve_left c1
        have b1 : ¬ bA (TPs s) (TNs s) x = 32 := fun q => c1 ((bA_eq (c := 32) (by omega) (bb x)).mp q).2
        have b2 : bA (TPs s) (TNs s) x = 10 := (bA_eq (c := 10) (by omega) (bb x)).mpr ⟨by omega, c2⟩
        refine z_aload_n dX9_nextToken_0 rfl rfl ?_
        refine z_aload_n dX9_nextToken_1 rfl rfl ?_
        refine y_getI FX9_96 dX9_nextToken_2 (Or.inl rfl) r1.m.o ?_
        refine z_eqi (y := nI (x)) (show _ = nI x by first | exact e7 | (rw [pI_sI, if_pos rfl, if_neg (by omega)]; exact e7)) ?_
        refine y_callV (as := [_]) CX9_byteAt LX9_99 IX9_byteAt VX9_byteAt ⟨rfl, Nat.le_of_ble_eq_true rfl⟩ dX9_nextToken_5 r1.m.o rfl (Nat.le_of_ble_eq_true rfl) (Nat.le_of_ble_eq_true rfl) (by omega) (r_byteAt (d := 0) (k := x) r1 ht (by omega)) rok_i ⟨Nat.le_refl _, Nat.le_refl _, hN1, hS1⟩ ?_
        refine z_bipush (v := 32) dX9_nextToken_8 (by decide) ?_
        refine z_icmp_eq dX9_nextToken_10 rfl (fun c => absurd c (b1)) (fun _ => ?_)
        refine z_aload_n dX9_nextToken_13 rfl rfl ?_
        refine z_aload_n dX9_nextToken_14 rfl rfl ?_
        refine y_getI FX9_96 dX9_nextToken_15 (Or.inl rfl) r1.m.o ?_
        refine z_eqi (y := nI (x)) (show _ = nI x by first | exact e7 | (rw [pI_sI, if_pos rfl, if_neg (by omega)]; exact e7)) ?_
        refine y_callV (as := [_]) CX9_byteAt LX9_99 IX9_byteAt VX9_byteAt ⟨rfl, Nat.le_of_ble_eq_true rfl⟩ dX9_nextToken_18 r1.m.o rfl (Nat.le_of_ble_eq_true rfl) (Nat.le_of_ble_eq_true rfl) (by omega) (r_byteAt (d := 0) (k := x) r1 ht (by omega)) rok_i ⟨Nat.le_refl _, Nat.le_refl _, hN1, hS1⟩ ?_
        refine z_bipush (v := 10) dX9_nextToken_21 (by decide) ?_
        refine z_icmp_ne dX9_nextToken_23 rfl (fun c => absurd (b2) c) (fun _ => ?_)
        refine z_aload_n dX9_nextToken_26 rfl rfl ?_
        refine z_dup dX9_nextToken_27 rfl ?_
        refine y_getI FX9_96 dX9_nextToken_28 (Or.inl rfl) r1.m.o ?_
        refine z_eqi (y := nI (x)) (show _ = nI x by first | exact e7 | (rw [pI_sI, if_pos rfl, if_neg (by omega)]; exact e7)) ?_
        refine z_iconst (v := 1) dX9_nextToken_31 (by decide) ?_
        refine z_iadd dX9_nextToken_32 ?_
        refine z_eqi (nI_1 x) ?_
        refine y_putI FX9_96 dX9_nextToken_33 (Or.inl rfl) (Or.inl rfl) r1.m.o ?_
        refine z_goto dX9_nextToken_36 rfl ?_
        exact K1
    · have en : rnF isSp (TPs s) (TNs s) x = x := rnF_n (fun q => c q.2)
      refine ⟨h1, f1, by rw [en]; exact e7, fun o1 N S Q hN hS hd K => ?_⟩
      have hN1 : pn h1 ≤ N := by rw [f1.1.n]; exact hN
      have hS1 : ps h1 ≤ S := by rw [f1.1.s]; exact hS
      have nc : ¬ TPs s x = 32 ∧ ¬ TPs s x = 10 := by
        unfold isSp at c
        rw [Bool.or_eq_true, decide_eq_true_eq, decide_eq_true_eq] at c
        exact ⟨fun q => c (Or.inl q), fun q => c (Or.inr q)⟩
      have b1 : ¬ bA (TPs s) (TNs s) x = 32 := fun q => nc.1 ((bA_eq (c := 32) (by omega) (bb x)).mp q).2
      have b2 : ¬ bA (TPs s) (TNs s) x = 10 := fun q => nc.2 ((bA_eq (c := 10) (by omega) (bb x)).mp q).2
      refine z_aload_n dX9_nextToken_0 rfl rfl ?_
      refine z_aload_n dX9_nextToken_1 rfl rfl ?_
      refine y_getI FX9_96 dX9_nextToken_2 (Or.inl rfl) r1.m.o ?_
      refine z_eqi (y := nI (x)) (show _ = nI x by first | exact e7 | (rw [pI_sI, if_pos rfl, if_neg (by omega)]; exact e7)) ?_
      refine y_callV (as := [_]) CX9_byteAt LX9_99 IX9_byteAt VX9_byteAt ⟨rfl, Nat.le_of_ble_eq_true rfl⟩ dX9_nextToken_5 r1.m.o rfl (Nat.le_of_ble_eq_true rfl) (Nat.le_of_ble_eq_true rfl) (by omega) (r_byteAt (d := 0) (k := x) r1 ht (by omega)) rok_i ⟨Nat.le_refl _, Nat.le_refl _, hN1, hS1⟩ ?_
      refine z_bipush (v := 32) dX9_nextToken_8 (by decide) ?_
      refine z_icmp_eq dX9_nextToken_10 rfl (fun c => absurd c (b1)) (fun _ => ?_)
      refine z_aload_n dX9_nextToken_13 rfl rfl ?_
      refine z_aload_n dX9_nextToken_14 rfl rfl ?_
      refine y_getI FX9_96 dX9_nextToken_15 (Or.inl rfl) r1.m.o ?_
      refine z_eqi (y := nI (x)) (show _ = nI x by first | exact e7 | (rw [pI_sI, if_pos rfl, if_neg (by omega)]; exact e7)) ?_
      refine y_callV (as := [_]) CX9_byteAt LX9_99 IX9_byteAt VX9_byteAt ⟨rfl, Nat.le_of_ble_eq_true rfl⟩ dX9_nextToken_18 r1.m.o rfl (Nat.le_of_ble_eq_true rfl) (Nat.le_of_ble_eq_true rfl) (by omega) (r_byteAt (d := 0) (k := x) r1 ht (by omega)) rok_i ⟨Nat.le_refl _, Nat.le_refl _, hN1, hS1⟩ ?_
      refine z_bipush (v := 10) dX9_nextToken_21 (by decide) ?_
      refine z_icmp_ne dX9_nextToken_23 rfl (fun _ => ?_) (fun c => absurd c (b2))
      exact K

theorem r_nt_dig {s : Ms} {h : Hp} {d : Nat} (hr : RM s h) (ht : ITp s) {p : Nat} : ∀ r x (h1 : Hp), TNs s - x = r → p ≤ x → x ≤ TNs s → (∀ j, p ≤ j → j < x → isD (TPs s j) = true) → FN h h1 → pI h1 488 7 = nI x → pI h1 488 10 = nI (nmR (TPs s) p (x - p)) → ∃ h2, FN h h2 ∧ pI h2 488 7 = nI (rnF isD (TPs s) (TNs s) x) ∧ pI h2 488 10 = nI (nmR (TPs s) p (rnF isD (TPs s) (TNs s) x - p)) ∧ pI h2 488 8 = pI h1 488 8 ∧ pI h2 488 9 = pI h1 488 9 ∧ ∀ (o1 : Option Value) (N S : Nat) (Q : Option Value → Hp → Prop), pn h ≤ N → ps h ≤ S → 1 ≤ d → Q none h2 → T d N S mX9_nextToken 85 [some (.ref 488), o1] [] h1 Q := by
  have n3 : TNs s ≤ 300 := ht.1
  have bb : ∀ k, k < TNs s → TPs s k < 256 := fun k hk => ht.2 k (by omega)
  intro r
  induction r with
  | zero =>
    intro x h1 hx hpx hxn hall f1 e7 e10
    have r1 := f1.rm hr
    have en : rnF isD (TPs s) (TNs s) x = x := rnF_n (fun q => by omega)
    refine ⟨h1, f1, by rw [en]; exact e7, by rw [en]; exact e10, rfl, rfl, fun o1 N S Q hN hS hd hQ => ?_⟩
    have hN1 : pn h1 ≤ N := by rw [f1.1.n]; exact hN
    have hS1 : ps h1 ≤ S := by rw [f1.1.s]; exact hS
    refine z_aload_n dX9_nextToken_85 rfl rfl ?_
    refine z_aload_n dX9_nextToken_86 rfl rfl ?_
    refine y_getI FX9_96 dX9_nextToken_87 (Or.inl rfl) r1.m.o ?_
    refine z_eqi (y := nI (x)) (show _ = nI x by first | exact e7 | (rw [pI_sI, if_pos rfl, if_neg (by omega)]; exact e7)) ?_
    refine y_callV (as := [_]) CX9_byteAt LX9_99 IX9_byteAt VX9_byteAt ⟨rfl, Nat.le_of_ble_eq_true rfl⟩ dX9_nextToken_90 r1.m.o rfl (Nat.le_of_ble_eq_true rfl) (Nat.le_of_ble_eq_true rfl) (by omega) (r_byteAt (d := 0) (k := x) r1 ht (by omega)) rok_i ⟨Nat.le_refl _, Nat.le_refl _, hN1, hS1⟩ ?_
    refine y_callS (as := [_]) CX9_isFigure LX9_109 SX9_isFigure dX9_nextToken_93 rfl (Nat.le_of_ble_eq_true rfl) (Nat.le_of_ble_eq_true rfl) (by omega) (r_figA (d := 0) (k := x) ht) (rok_z bI_01) ⟨Nat.le_refl _, Nat.le_refl _, hN1, hS1⟩ ?_
    refine z_if_eq dX9_nextToken_96 rfl (fun _ => ?_) (fun c => absurd (bI_eq0.mpr (fun q => absurd q.1 (by omega))) c)
    refine z_vret dX9_nextToken_310 ?_
    exact hQ
  | succ r ih =>
    intro x h1 hx hpx hxn hall f1 e7 e10
    have r1 := f1.rm hr
    by_cases hcc : isD (TPs s x) = true
    · have cb := isD_b.mp hcc
      have nl := nmR_le (tp := TPs s) (p := p) (x - p) (fun j hj => (isD_b.mp (hall (p + j) (by omega) (by omega))).2)
      have es : nmR (TPs s) p (x + 1 - p) = if 99999 < nmR (TPs s) p (x - p) then nmR (TPs s) p (x - p) else 10 * nmR (TPs s) p (x - p) + (TPs s x - 48) := by
        rw [show x + 1 - p = (x - p) + 1 by omega]
        show (if _ then _ else _) = _
        rw [show p + (x - p) = x by omega]
      have ba : bA (TPs s) (TNs s) x = nI (TPs s x) := if_pos (by omega)
      have hall2 : ∀ j, p ≤ j → j < x + 1 → isD (TPs s j) = true := fun j q1 q2 => by
        by_cases e : j = x
        · rw [e]; exact hcc
        · exact hall j q1 (by omega)
      obtain ⟨h2, k1, k2, k3, k4, k5, K0⟩ := ih (x + 1) (sI (sI h1 488 10 (nI (nmR (TPs s) p (x + 1 - p)))) 488 7 (nI (x + 1))) (by omega) (by omega) (by omega) hall2 ((f1.sI (by omega)).sI (by omega)) (by rw [pI_sI, if_pos rfl, if_pos rfl]) (by rw [pI_sI, if_pos rfl, if_neg (by omega), pI_sI, if_pos rfl, if_pos rfl])
      rw [pI_sI, if_pos rfl, if_neg (by omega), pI_sI, if_pos rfl, if_neg (by omega)] at k4
      rw [pI_sI, if_pos rfl, if_neg (by omega), pI_sI, if_pos rfl, if_neg (by omega)] at k5
      refine ⟨h2, k1, by rw [rnF_y (by omega) hcc]; exact k2, by rw [rnF_y (by omega) hcc]; exact k3, k4, k5, fun o1 N S Q hN hS hd hQ => ?_⟩
      have hN1 : pn h1 ≤ N := by rw [f1.1.n]; exact hN
      have hS1 : ps h1 ≤ S := by rw [f1.1.s]; exact hS
      have K1 := K0 o1 N S Q hN hS hd hQ
      by_cases g : 99999 < nmR (TPs s) p (x - p)
      · rw [es, if_pos g] at K1
        refine z_aload_n dX9_nextToken_85 rfl rfl ?_
        refine z_aload_n dX9_nextToken_86 rfl rfl ?_
        refine y_getI FX9_96 dX9_nextToken_87 (Or.inl rfl) r1.m.o ?_
        refine z_eqi (y := nI (x)) (show _ = nI x by first | exact e7 | (rw [pI_sI, if_pos rfl, if_neg (by omega)]; exact e7)) ?_
        refine y_callV (as := [_]) CX9_byteAt LX9_99 IX9_byteAt VX9_byteAt ⟨rfl, Nat.le_of_ble_eq_true rfl⟩ dX9_nextToken_90 r1.m.o rfl (Nat.le_of_ble_eq_true rfl) (Nat.le_of_ble_eq_true rfl) (by omega) (r_byteAt (d := 0) (k := x) r1 ht (by omega)) rok_i ⟨Nat.le_refl _, Nat.le_refl _, hN1, hS1⟩ ?_
        refine y_callS (as := [_]) CX9_isFigure LX9_109 SX9_isFigure dX9_nextToken_93 rfl (Nat.le_of_ble_eq_true rfl) (Nat.le_of_ble_eq_true rfl) (by omega) (r_figA (d := 0) (k := x) ht) (rok_z bI_01) ⟨Nat.le_refl _, Nat.le_refl _, hN1, hS1⟩ ?_
        refine z_if_eq dX9_nextToken_96 rfl (fun c => absurd c (bI_ne0.mpr ⟨by omega, hcc⟩)) (fun _ => ?_)
        refine z_aload_n dX9_nextToken_99 rfl rfl ?_
        refine z_aload_n dX9_nextToken_100 rfl rfl ?_
        refine y_getI FX9_112 dX9_nextToken_101 (Or.inl rfl) r1.m.o ?_
        refine z_eqi (y := nI (nmR (TPs s) p (x - p))) e10 ?_
        refine z_ldc (v := 99999) dX9_nextToken_104 Kc_X9_115 ?_
        refine z_icmp_le dX9_nextToken_106 rfl (fun c => absurd c (fun q => absurd ((nI_leI (b := 99999) (by omega) (by omega)).mp q) (by omega))) (fun _ => ?_)
        refine z_aload_n dX9_nextToken_109 rfl rfl ?_
        refine y_getI FX9_112 dX9_nextToken_110 (Or.inl rfl) r1.m.o ?_
        refine z_eqi (y := nI (nmR (TPs s) p (x - p))) e10 ?_
        refine z_goto dX9_nextToken_113 rfl ?_
        refine y_putI FX9_112 dX9_nextToken_135 (Or.inl rfl) (Or.inl rfl) r1.m.o ?_
        refine z_aload_n dX9_nextToken_138 rfl rfl ?_
        refine z_dup dX9_nextToken_139 rfl ?_
        refine y_getI FX9_96 dX9_nextToken_140 (Or.inl rfl) r1.m.o ?_
        refine z_eqi (y := nI (x)) (show _ = nI x by first | exact e7 | (rw [pI_sI, if_pos rfl, if_neg (by omega)]; exact e7)) ?_
        refine z_iconst (v := 1) dX9_nextToken_143 (by decide) ?_
        refine z_iadd dX9_nextToken_144 ?_
        refine z_eqi (nI_1 x) ?_
        refine y_putI FX9_96 dX9_nextToken_145 (Or.inl rfl) (Or.inl rfl) r1.m.o ?_
        refine z_goto dX9_nextToken_148 rfl ?_
        exact K1
      · rw [es, if_neg g] at K1
        refine z_aload_n dX9_nextToken_85 rfl rfl ?_
        refine z_aload_n dX9_nextToken_86 rfl rfl ?_
        refine y_getI FX9_96 dX9_nextToken_87 (Or.inl rfl) r1.m.o ?_
        refine z_eqi (y := nI (x)) (show _ = nI x by first | exact e7 | (rw [pI_sI, if_pos rfl, if_neg (by omega)]; exact e7)) ?_
        refine y_callV (as := [_]) CX9_byteAt LX9_99 IX9_byteAt VX9_byteAt ⟨rfl, Nat.le_of_ble_eq_true rfl⟩ dX9_nextToken_90 r1.m.o rfl (Nat.le_of_ble_eq_true rfl) (Nat.le_of_ble_eq_true rfl) (by omega) (r_byteAt (d := 0) (k := x) r1 ht (by omega)) rok_i ⟨Nat.le_refl _, Nat.le_refl _, hN1, hS1⟩ ?_
        refine y_callS (as := [_]) CX9_isFigure LX9_109 SX9_isFigure dX9_nextToken_93 rfl (Nat.le_of_ble_eq_true rfl) (Nat.le_of_ble_eq_true rfl) (by omega) (r_figA (d := 0) (k := x) ht) (rok_z bI_01) ⟨Nat.le_refl _, Nat.le_refl _, hN1, hS1⟩ ?_
        refine z_if_eq dX9_nextToken_96 rfl (fun c => absurd c (bI_ne0.mpr ⟨by omega, hcc⟩)) (fun _ => ?_)
        refine z_aload_n dX9_nextToken_99 rfl rfl ?_
        refine z_aload_n dX9_nextToken_100 rfl rfl ?_
        refine y_getI FX9_112 dX9_nextToken_101 (Or.inl rfl) r1.m.o ?_
        refine z_eqi (y := nI (nmR (TPs s) p (x - p))) e10 ?_
        refine z_ldc (v := 99999) dX9_nextToken_104 Kc_X9_115 ?_
        refine z_icmp_le dX9_nextToken_106 rfl (fun _ => ?_) (fun c => absurd ((nI_leI (b := 99999) (by omega) (by omega)).mpr (by omega)) c)
        refine z_bipush (v := 10) dX9_nextToken_116 (by decide) ?_
        refine z_aload_n dX9_nextToken_118 rfl rfl ?_
        refine y_getI FX9_112 dX9_nextToken_119 (Or.inl rfl) r1.m.o ?_
        refine z_eqi (y := nI (nmR (TPs s) p (x - p))) e10 ?_
        refine z_imul dX9_nextToken_122 ?_
        refine z_eqi (pk_mul 10 (nmR (TPs s) p (x - p))) ?_
        refine z_aload_n dX9_nextToken_123 rfl rfl ?_
        refine z_aload_n dX9_nextToken_124 rfl rfl ?_
        refine y_getI FX9_96 dX9_nextToken_125 (Or.inl rfl) r1.m.o ?_
        refine z_eqi (y := nI (x)) (show _ = nI x by first | exact e7 | (rw [pI_sI, if_pos rfl, if_neg (by omega)]; exact e7)) ?_
        refine y_callV (as := [_]) CX9_byteAt LX9_99 IX9_byteAt VX9_byteAt ⟨rfl, Nat.le_of_ble_eq_true rfl⟩ dX9_nextToken_128 r1.m.o rfl (Nat.le_of_ble_eq_true rfl) (Nat.le_of_ble_eq_true rfl) (by omega) (r_byteAt (d := 0) (k := x) r1 ht (by omega)) rok_i ⟨Nat.le_refl _, Nat.le_refl _, hN1, hS1⟩ ?_
        refine z_eqi ba ?_
        refine z_iadd dX9_nextToken_131 ?_
        refine z_eqi (nI_add (10 * nmR (TPs s) p (x - p)) (TPs s x)) ?_
        refine z_bipush (v := 48) dX9_nextToken_132 (by decide) ?_
        refine z_isub dX9_nextToken_134 ?_
        refine z_eqi (show _ = nI (10 * nmR (TPs s) p (x - p) + (TPs s x - 48)) from (pk_sub (a := 10 * nmR (TPs s) p (x - p) + TPs s x) (b := 48) (by omega)).trans (congrArg nI (by omega))) ?_
        refine y_putI FX9_112 dX9_nextToken_135 (Or.inl rfl) (Or.inl rfl) r1.m.o ?_
        refine z_aload_n dX9_nextToken_138 rfl rfl ?_
        refine z_dup dX9_nextToken_139 rfl ?_
        refine y_getI FX9_96 dX9_nextToken_140 (Or.inl rfl) r1.m.o ?_
        refine z_eqi (y := nI (x)) (show _ = nI x by first | exact e7 | (rw [pI_sI, if_pos rfl, if_neg (by omega)]; exact e7)) ?_
        refine z_iconst (v := 1) dX9_nextToken_143 (by decide) ?_
        refine z_iadd dX9_nextToken_144 ?_
        refine z_eqi (nI_1 x) ?_
        refine y_putI FX9_96 dX9_nextToken_145 (Or.inl rfl) (Or.inl rfl) r1.m.o ?_
        refine z_goto dX9_nextToken_148 rfl ?_
        exact K1
    · have en : rnF isD (TPs s) (TNs s) x = x := rnF_n (fun q => hcc q.2)
      refine ⟨h1, f1, by rw [en]; exact e7, by rw [en]; exact e10, rfl, rfl, fun o1 N S Q hN hS hd hQ => ?_⟩
      have hN1 : pn h1 ≤ N := by rw [f1.1.n]; exact hN
      have hS1 : ps h1 ≤ S := by rw [f1.1.s]; exact hS
      refine z_aload_n dX9_nextToken_85 rfl rfl ?_
      refine z_aload_n dX9_nextToken_86 rfl rfl ?_
      refine y_getI FX9_96 dX9_nextToken_87 (Or.inl rfl) r1.m.o ?_
      refine z_eqi (y := nI (x)) (show _ = nI x by first | exact e7 | (rw [pI_sI, if_pos rfl, if_neg (by omega)]; exact e7)) ?_
      refine y_callV (as := [_]) CX9_byteAt LX9_99 IX9_byteAt VX9_byteAt ⟨rfl, Nat.le_of_ble_eq_true rfl⟩ dX9_nextToken_90 r1.m.o rfl (Nat.le_of_ble_eq_true rfl) (Nat.le_of_ble_eq_true rfl) (by omega) (r_byteAt (d := 0) (k := x) r1 ht (by omega)) rok_i ⟨Nat.le_refl _, Nat.le_refl _, hN1, hS1⟩ ?_
      refine y_callS (as := [_]) CX9_isFigure LX9_109 SX9_isFigure dX9_nextToken_93 rfl (Nat.le_of_ble_eq_true rfl) (Nat.le_of_ble_eq_true rfl) (by omega) (r_figA (d := 0) (k := x) ht) (rok_z bI_01) ⟨Nat.le_refl _, Nat.le_refl _, hN1, hS1⟩ ?_
      refine z_if_eq dX9_nextToken_96 rfl (fun _ => ?_) (fun c => absurd (bI_eq0.mpr (fun q => hcc q.2)) c)
      refine z_vret dX9_nextToken_310 ?_
      exact hQ

theorem r_nt_let {s : Ms} {h : Hp} {d : Nat} (hr : RM s h) (ht : ITp s) {p : Nat} : ∀ r x (h1 : Hp), TNs s - x = r → p ≤ x → x ≤ TNs s → (∀ j, p ≤ j → j < x → isL (TPs s j) = true) → FN h h1 → pI h1 488 7 = nI x → pJ h1 488 11 = lN (spR (TPs s) p (x - p)) → ∃ h2, FN h h2 ∧ pI h2 488 7 = nI (rnF isL (TPs s) (TNs s) x) ∧ pJ h2 488 11 = lN (spR (TPs s) p (rnF isL (TPs s) (TNs s) x - p)) ∧ pI h2 488 8 = pI h1 488 8 ∧ pI h2 488 9 = pI h1 488 9 ∧ ∀ (o1 : Option Value) (N S : Nat) (Q : Option Value → Hp → Prop), pn h ≤ N → ps h ≤ S → 1 ≤ d → Q none h2 → T d N S mX9_nextToken 168 [some (.ref 488), o1] [] h1 Q := by
  have n3 : TNs s ≤ 300 := ht.1
  have bb : ∀ k, k < TNs s → TPs s k < 256 := fun k hk => ht.2 k (by omega)
  intro r
  induction r with
  | zero =>
    intro x h1 hx hpx hxn hall f1 e7 e11
    have r1 := f1.rm hr
    have en : rnF isL (TPs s) (TNs s) x = x := rnF_n (fun q => by omega)
    refine ⟨h1, f1, by rw [en]; exact e7, by rw [en]; exact e11, rfl, rfl, fun o1 N S Q hN hS hd hQ => ?_⟩
    have hN1 : pn h1 ≤ N := by rw [f1.1.n]; exact hN
    have hS1 : ps h1 ≤ S := by rw [f1.1.s]; exact hS
    refine z_aload_n dX9_nextToken_168 rfl rfl ?_
    refine z_aload_n dX9_nextToken_169 rfl rfl ?_
    refine y_getI FX9_96 dX9_nextToken_170 (Or.inl rfl) r1.m.o ?_
    refine z_eqi (y := nI (x)) (show _ = nI x by first | exact e7 | (rw [pI_sI, if_pos rfl, if_neg (by omega)]; exact e7)) ?_
    refine y_callV (as := [_]) CX9_byteAt LX9_99 IX9_byteAt VX9_byteAt ⟨rfl, Nat.le_of_ble_eq_true rfl⟩ dX9_nextToken_173 r1.m.o rfl (Nat.le_of_ble_eq_true rfl) (Nat.le_of_ble_eq_true rfl) (by omega) (r_byteAt (d := 0) (k := x) r1 ht (by omega)) rok_i ⟨Nat.le_refl _, Nat.le_refl _, hN1, hS1⟩ ?_
    refine y_callS (as := [_]) CX9_isLetterByte LX9_116 SX9_isLetterByte dX9_nextToken_176 rfl (Nat.le_of_ble_eq_true rfl) (Nat.le_of_ble_eq_true rfl) (by omega) (r_letA (d := 0) (k := x) ht) (rok_z bI_01) ⟨Nat.le_refl _, Nat.le_refl _, hN1, hS1⟩ ?_
    refine z_if_eq dX9_nextToken_179 rfl (fun _ => ?_) (fun c => absurd (bI_eq0.mpr (fun q => absurd q.1 (by omega))) c)
    refine z_vret dX9_nextToken_310 ?_
    exact hQ
  | succ r ih =>
    intro x h1 hx hpx hxn hall f1 e7 e11
    have r1 := f1.rm hr
    by_cases hcc : isL (TPs s x) = true
    · have cb := isL_b hcc
      have sl := spR_lt (tp := TPs s) (p := p) (k := x - p) (fun j hj => by have := isL_b (hall (p + j) (by omega) (by omega)); omega)
      have es : spR (TPs s) p (x + 1 - p) = if 2 ^ 48 ≤ spR (TPs s) p (x - p) then 2 ^ 60 else spR (TPs s) p (x - p) * 256 + TPs s x := by
        rw [show x + 1 - p = (x - p) + 1 by omega]
        show (if _ then _ else _) = _
        rw [show p + (x - p) = x by omega]
      have ba : bA (TPs s) (TNs s) x = nI (TPs s x) := if_pos (by omega)
      have hall2 : ∀ j, p ≤ j → j < x + 1 → isL (TPs s j) = true := fun j q1 q2 => by
        by_cases e : j = x
        · rw [e]; exact hcc
        · exact hall j q1 (by omega)
      obtain ⟨h2, k1, k2, k3, k4, k5, K0⟩ := ih (x + 1) (sI (sJ h1 488 11 (lN (spR (TPs s) p (x + 1 - p)))) 488 7 (nI (x + 1))) (by omega) (by omega) (by omega) hall2 (f1.sJ.sI (by omega)) (by rw [pI_sI, if_pos rfl, if_pos rfl]) (by rw [pJ_sI, pJ_sJ, if_pos rfl, if_pos rfl])
      rw [pI_sI, if_pos rfl, if_neg (by omega), pI_sJ] at k4
      rw [pI_sI, if_pos rfl, if_neg (by omega), pI_sJ] at k5
      refine ⟨h2, k1, by rw [rnF_y (by omega) hcc]; exact k2, by rw [rnF_y (by omega) hcc]; exact k3, k4, k5, fun o1 N S Q hN hS hd hQ => ?_⟩
      have hN1 : pn h1 ≤ N := by rw [f1.1.n]; exact hN
      have hS1 : ps h1 ≤ S := by rw [f1.1.s]; exact hS
      have K1 := K0 o1 N S Q hN hS hd hQ
      by_cases g : 2 ^ 48 ≤ spR (TPs s) p (x - p)
      · rw [es, if_pos g] at K1
        have gq : ¬ lg_cmp (lN (spR (TPs s) p (x - p) / 2 ^ 48)) 0 = 0 := fun q => absurd ((lcmp0 (by omega)).mp q) (by omega)
        refine z_aload_n dX9_nextToken_168 rfl rfl ?_
        refine z_aload_n dX9_nextToken_169 rfl rfl ?_
        refine y_getI FX9_96 dX9_nextToken_170 (Or.inl rfl) r1.m.o ?_
        refine z_eqi (y := nI (x)) (show _ = nI x by first | exact e7 | (rw [pI_sI, if_pos rfl, if_neg (by omega)]; exact e7)) ?_
        refine y_callV (as := [_]) CX9_byteAt LX9_99 IX9_byteAt VX9_byteAt ⟨rfl, Nat.le_of_ble_eq_true rfl⟩ dX9_nextToken_173 r1.m.o rfl (Nat.le_of_ble_eq_true rfl) (Nat.le_of_ble_eq_true rfl) (by omega) (r_byteAt (d := 0) (k := x) r1 ht (by omega)) rok_i ⟨Nat.le_refl _, Nat.le_refl _, hN1, hS1⟩ ?_
        refine y_callS (as := [_]) CX9_isLetterByte LX9_116 SX9_isLetterByte dX9_nextToken_176 rfl (Nat.le_of_ble_eq_true rfl) (Nat.le_of_ble_eq_true rfl) (by omega) (r_letA (d := 0) (k := x) ht) (rok_z bI_01) ⟨Nat.le_refl _, Nat.le_refl _, hN1, hS1⟩ ?_
        refine z_if_eq dX9_nextToken_179 rfl (fun c => absurd c (bI_ne0.mpr ⟨by omega, hcc⟩)) (fun _ => ?_)
        refine z_aload_n dX9_nextToken_182 rfl rfl ?_
        refine z_aload_n dX9_nextToken_183 rfl rfl ?_
        refine y_getJ FX9_119 dX9_nextToken_184 rfl r1.m.o ?_
        refine z_eql e11 ?_
        refine z_bipush (v := 48) dX9_nextToken_187 (by decide) ?_
        refine z_lshr dX9_nextToken_189 ?_
        refine z_eql (lN_shr48 (by omega)) ?_
        refine z_lconst (v := 0) dX9_nextToken_190 (by decide) ?_
        refine z_lcmp dX9_nextToken_191 ?_
        refine z_if_eq dX9_nextToken_192 rfl (fun c => absurd c (gq)) (fun _ => ?_)
        refine z_ldc2 (v := 1152921504606846976) dX9_nextToken_195 Kc_X9_123 ?_
        refine z_goto dX9_nextToken_198 rfl ?_
        refine z_eql (show _ = lN (2 ^ 60) from rfl) ?_
        refine y_putJ FX9_119 dX9_nextToken_218 (Or.inl rfl) rfl r1.m.o ?_
        refine z_aload_n dX9_nextToken_221 rfl rfl ?_
        refine z_dup dX9_nextToken_222 rfl ?_
        refine y_getI FX9_96 dX9_nextToken_223 (Or.inl rfl) r1.m.o ?_
        refine z_eqi (y := nI (x)) (show _ = nI x by first | exact e7 | (rw [pI_sI, if_pos rfl, if_neg (by omega)]; exact e7)) ?_
        refine z_iconst (v := 1) dX9_nextToken_226 (by decide) ?_
        refine z_iadd dX9_nextToken_227 ?_
        refine z_eqi (nI_1 x) ?_
        refine y_putI FX9_96 dX9_nextToken_228 (Or.inl rfl) (Or.inl rfl) r1.m.o ?_
        refine z_goto dX9_nextToken_231 rfl ?_
        exact K1
      · rw [es, if_neg g] at K1
        have gq : lg_cmp (lN (spR (TPs s) p (x - p) / 2 ^ 48)) 0 = 0 := (lcmp0 (by omega)).mpr (by omega)
        refine z_aload_n dX9_nextToken_168 rfl rfl ?_
        refine z_aload_n dX9_nextToken_169 rfl rfl ?_
        refine y_getI FX9_96 dX9_nextToken_170 (Or.inl rfl) r1.m.o ?_
        refine z_eqi (y := nI (x)) (show _ = nI x by first | exact e7 | (rw [pI_sI, if_pos rfl, if_neg (by omega)]; exact e7)) ?_
        refine y_callV (as := [_]) CX9_byteAt LX9_99 IX9_byteAt VX9_byteAt ⟨rfl, Nat.le_of_ble_eq_true rfl⟩ dX9_nextToken_173 r1.m.o rfl (Nat.le_of_ble_eq_true rfl) (Nat.le_of_ble_eq_true rfl) (by omega) (r_byteAt (d := 0) (k := x) r1 ht (by omega)) rok_i ⟨Nat.le_refl _, Nat.le_refl _, hN1, hS1⟩ ?_
        refine y_callS (as := [_]) CX9_isLetterByte LX9_116 SX9_isLetterByte dX9_nextToken_176 rfl (Nat.le_of_ble_eq_true rfl) (Nat.le_of_ble_eq_true rfl) (by omega) (r_letA (d := 0) (k := x) ht) (rok_z bI_01) ⟨Nat.le_refl _, Nat.le_refl _, hN1, hS1⟩ ?_
        refine z_if_eq dX9_nextToken_179 rfl (fun c => absurd c (bI_ne0.mpr ⟨by omega, hcc⟩)) (fun _ => ?_)
        refine z_aload_n dX9_nextToken_182 rfl rfl ?_
        refine z_aload_n dX9_nextToken_183 rfl rfl ?_
        refine y_getJ FX9_119 dX9_nextToken_184 rfl r1.m.o ?_
        refine z_eql e11 ?_
        refine z_bipush (v := 48) dX9_nextToken_187 (by decide) ?_
        refine z_lshr dX9_nextToken_189 ?_
        refine z_eql (lN_shr48 (by omega)) ?_
        refine z_lconst (v := 0) dX9_nextToken_190 (by decide) ?_
        refine z_lcmp dX9_nextToken_191 ?_
        refine z_if_eq dX9_nextToken_192 rfl (fun _ => ?_) (fun c => absurd (gq) c)
        refine z_aload_n dX9_nextToken_201 rfl rfl ?_
        refine y_getJ FX9_119 dX9_nextToken_202 rfl r1.m.o ?_
        refine z_eql e11 ?_
        refine z_bipush (v := 8) dX9_nextToken_205 (by decide) ?_
        refine z_lshl dX9_nextToken_207 ?_
        refine z_aload_n dX9_nextToken_208 rfl rfl ?_
        refine z_aload_n dX9_nextToken_209 rfl rfl ?_
        refine y_getI FX9_96 dX9_nextToken_210 (Or.inl rfl) r1.m.o ?_
        refine z_eqi (y := nI (x)) (show _ = nI x by first | exact e7 | (rw [pI_sI, if_pos rfl, if_neg (by omega)]; exact e7)) ?_
        refine y_callV (as := [_]) CX9_byteAt LX9_99 IX9_byteAt VX9_byteAt ⟨rfl, Nat.le_of_ble_eq_true rfl⟩ dX9_nextToken_213 r1.m.o rfl (Nat.le_of_ble_eq_true rfl) (Nat.le_of_ble_eq_true rfl) (by omega) (r_byteAt (d := 0) (k := x) r1 ht (by omega)) rok_i ⟨Nat.le_refl _, Nat.le_refl _, hN1, hS1⟩ ?_
        refine z_eqi ba ?_
        refine z_i2l dX9_nextToken_216 ?_
        refine z_lor dX9_nextToken_217 ?_
        refine z_eql (lN_w (by omega)) ?_
        refine y_putJ FX9_119 dX9_nextToken_218 (Or.inl rfl) rfl r1.m.o ?_
        refine z_aload_n dX9_nextToken_221 rfl rfl ?_
        refine z_dup dX9_nextToken_222 rfl ?_
        refine y_getI FX9_96 dX9_nextToken_223 (Or.inl rfl) r1.m.o ?_
        refine z_eqi (y := nI (x)) (show _ = nI x by first | exact e7 | (rw [pI_sI, if_pos rfl, if_neg (by omega)]; exact e7)) ?_
        refine z_iconst (v := 1) dX9_nextToken_226 (by decide) ?_
        refine z_iadd dX9_nextToken_227 ?_
        refine z_eqi (nI_1 x) ?_
        refine y_putI FX9_96 dX9_nextToken_228 (Or.inl rfl) (Or.inl rfl) r1.m.o ?_
        refine z_goto dX9_nextToken_231 rfl ?_
        exact K1
    · have en : rnF isL (TPs s) (TNs s) x = x := rnF_n (fun q => hcc q.2)
      refine ⟨h1, f1, by rw [en]; exact e7, by rw [en]; exact e11, rfl, rfl, fun o1 N S Q hN hS hd hQ => ?_⟩
      have hN1 : pn h1 ≤ N := by rw [f1.1.n]; exact hN
      have hS1 : ps h1 ≤ S := by rw [f1.1.s]; exact hS
      refine z_aload_n dX9_nextToken_168 rfl rfl ?_
      refine z_aload_n dX9_nextToken_169 rfl rfl ?_
      refine y_getI FX9_96 dX9_nextToken_170 (Or.inl rfl) r1.m.o ?_
      refine z_eqi (y := nI (x)) (show _ = nI x by first | exact e7 | (rw [pI_sI, if_pos rfl, if_neg (by omega)]; exact e7)) ?_
      refine y_callV (as := [_]) CX9_byteAt LX9_99 IX9_byteAt VX9_byteAt ⟨rfl, Nat.le_of_ble_eq_true rfl⟩ dX9_nextToken_173 r1.m.o rfl (Nat.le_of_ble_eq_true rfl) (Nat.le_of_ble_eq_true rfl) (by omega) (r_byteAt (d := 0) (k := x) r1 ht (by omega)) rok_i ⟨Nat.le_refl _, Nat.le_refl _, hN1, hS1⟩ ?_
      refine y_callS (as := [_]) CX9_isLetterByte LX9_116 SX9_isLetterByte dX9_nextToken_176 rfl (Nat.le_of_ble_eq_true rfl) (Nat.le_of_ble_eq_true rfl) (by omega) (r_letA (d := 0) (k := x) ht) (rok_z bI_01) ⟨Nat.le_refl _, Nat.le_refl _, hN1, hS1⟩ ?_
      refine z_if_eq dX9_nextToken_179 rfl (fun _ => ?_) (fun c => absurd (bI_eq0.mpr (fun q => hcc q.2)) c)
      refine z_vret dX9_nextToken_310 ?_
      exact hQ

