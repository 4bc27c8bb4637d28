/-! the reference reads a sum: the loop, step by step, goal first (walks by program: wip/whole/gen9g.py) -/
/-- at the loop's head: from every heap that keeps such a state, the goal is reached -/
def GO (h0 : Hp) (d N S : Nat) (Q : Option Value → Hp → Prop) (s : Ms) (t w0 so i : Nat) (ro : List Nat) (op wh : Nat) (c : Cd) : Prop := ∀ h v, RP s t w0 so i ro op wh c h → FQ h0 h → T d N S mX9_summed 15 [some (.ref 488), v] [] h Q
/-- a fault z at token i reaches the goal -/
def FLT (h0 : Hp) (Q : Option Value → Hp → Prop) (s : Ms) (t w0 so z i : Nat) : Prop := ∀ h ro op wh c, RP s t w0 so i ro op wh c h → FQ h0 h → Q (some (.int (nI z))) h
/-- a sum read to its end reaches the goal -/
def DNE (h0 : Hp) (Q : Option Value → Hp → Prop) (s : Ms) (t w0 so i : Nat) (c : Cd) : Prop := ∀ h op, RP s t w0 so i [] op 1 c h → FQ h0 h → Q (some (.int 0)) h
/-- at the end of one -/
def GE (h0 : Hp) (d N S : Nat) (Q : Option Value → Hp → Prop) (s : Ms) (t w0 so i : Nat) (ro : List Nat) (op wh : Nat) (c : Cd) : Prop := ∀ h, RP s t w0 so i ro op wh c h → FQ h0 h → ∃ h3, FQ h h3 ∧ ((Sp 2 mX9_endOne [.ref 488] h (some (.int 0)) h3 ∧ ∀ v, T d N S mX9_summed 15 [some (.ref 488), v] [] h3 Q) ∨ (Sp 2 mX9_endOne [.ref 488] h (some (.int 1)) h3 ∧ Q (some (.int 1)) h3))

theorem sm_b0 {h h1 : Hp} {d N S : Nat} {Q : Option Value → Hp → Prop} {s : Ms} {t w0 so i op : Nat} {ro : List Nat} {c : Cd} {v : Option Value} (rp : RP s t w0 so i ro op 0 c h) (f1 : FQ h h1) (hN : pn h ≤ N) (hS : ps h ≤ S) (hd : 6 ≤ d) (sp : Sp 5 mX9_beginOne [.ref 488] h (some (.int 0)) h1) (kk : ∀ v, T d N S mX9_summed 15 [some (.ref 488), v] [] h1 Q) : T d N S mX9_summed 15 [some (.ref 488), v] [] h Q := by
  obtain ⟨tf, hr, em, fr, nt, e12, e13, e14, e16, e17, e18, pil⟩ := id rp
  have hm := hr.m
  refine z_aload_n dX9_summed_15 rfl rfl ?_
  refine y_getI FX9_203 dX9_summed_16 (Or.inr rfl) hm.o ?_
  refine z_eqi e18 ?_
  refine z_if_eq dX9_summed_19 rfl (fun _ => ?_) (fun c => absurd (rfl) c)
  refine z_aload_n dX9_summed_29 rfl rfl ?_
  refine y_callV (as := []) CX9_beginOne LX9_221 IX9_beginOne VX9_beginOne ⟨rfl, Nat.le_of_ble_eq_true rfl⟩ dX9_summed_30 hm.o rfl (Nat.le_of_ble_eq_true rfl) (Nat.le_of_ble_eq_true rfl) (by omega) sp rok_i (hg_ss f1.1 hN hS) ?_
  refine z_istore_n dX9_summed_33 rfl (Nat.le_of_ble_eq_true rfl) ?_
  refine z_iload_n dX9_summed_34 rfl rfl ?_
  refine z_if_le dX9_summed_35 rfl (fun _ => ?_) (fun c => absurd (by decide) c)
  refine z_iload_n dX9_summed_40 rfl rfl ?_
  refine z_if_ne dX9_summed_41 rfl (fun c => absurd (rfl) c) (fun _ => ?_)
  refine z_goto dX9_summed_44 rfl ?_
  exact kk _
theorem sm_bz {h h1 : Hp} {d N S : Nat} {Q : Option Value → Hp → Prop} {s : Ms} {t w0 so i op : Nat} {ro : List Nat} {c : Cd} {v : Option Value} {z : Int32} (rp : RP s t w0 so i ro op 0 c h) (f1 : FQ h h1) (hN : pn h ≤ N) (hS : ps h ≤ S) (hd : 6 ≤ d) (sp : Sp 5 mX9_beginOne [.ref 488] h (some (.int z)) h1) (hz : ¬ z ≤ 0) (hQ : Q (some (.int z)) h1) : T d N S mX9_summed 15 [some (.ref 488), v] [] h Q := by
  obtain ⟨tf, hr, em, fr, nt, e12, e13, e14, e16, e17, e18, pil⟩ := id rp
  have hm := hr.m
  refine z_aload_n dX9_summed_15 rfl rfl ?_
  refine y_getI FX9_203 dX9_summed_16 (Or.inr rfl) hm.o ?_
  refine z_eqi e18 ?_
  refine z_if_eq dX9_summed_19 rfl (fun _ => ?_) (fun c => absurd (rfl) c)
  refine z_aload_n dX9_summed_29 rfl rfl ?_
  refine y_callV (as := []) CX9_beginOne LX9_221 IX9_beginOne VX9_beginOne ⟨rfl, Nat.le_of_ble_eq_true rfl⟩ dX9_summed_30 hm.o rfl (Nat.le_of_ble_eq_true rfl) (Nat.le_of_ble_eq_true rfl) (by omega) sp rok_i (hg_ss f1.1 hN hS) ?_
  refine z_istore_n dX9_summed_33 rfl (Nat.le_of_ble_eq_true rfl) ?_
  refine z_iload_n dX9_summed_34 rfl rfl ?_
  refine z_if_le dX9_summed_35 rfl (fun c => absurd c (hz)) (fun _ => ?_)
  refine z_iload_n dX9_summed_38 rfl rfl ?_
  refine z_iret dX9_summed_39 ?_
  exact hQ
theorem sm_h0 {h h1 : Hp} {d N S : Nat} {Q : Option Value → Hp → Prop} {s : Ms} {t w0 so i op : Nat} {ro : List Nat} {c : Cd} {v : Option Value} (rp : RP s t w0 so i ro op 1 c h) (f1 : FQ h h1) (hN : pn h ≤ N) (hS : ps h ≤ S) (hd : 6 ≤ d) (sp : Sp 5 mX9_behindOne [.ref 488] h (some (.int 0)) h1) (kk : ∀ v, T d N S mX9_summed 15 [some (.ref 488), v] [] h1 Q) : T d N S mX9_summed 15 [some (.ref 488), v] [] h Q := by
  obtain ⟨tf, hr, em, fr, nt, e12, e13, e14, e16, e17, e18, pil⟩ := id rp
  have hm := hr.m
  refine z_aload_n dX9_summed_15 rfl rfl ?_
  refine y_getI FX9_203 dX9_summed_16 (Or.inr rfl) hm.o ?_
  refine z_eqi e18 ?_
  refine z_if_eq dX9_summed_19 rfl (fun c => absurd c (by decide)) (fun _ => ?_)
  refine z_aload_n dX9_summed_22 rfl rfl ?_
  refine y_callV (as := []) CX9_behindOne LX9_218 IX9_behindOne VX9_behindOne ⟨rfl, Nat.le_of_ble_eq_true rfl⟩ dX9_summed_23 hm.o rfl (Nat.le_of_ble_eq_true rfl) (Nat.le_of_ble_eq_true rfl) (by omega) sp rok_i (hg_ss f1.1 hN hS) ?_
  refine z_goto dX9_summed_26 rfl ?_
  refine z_istore_n dX9_summed_33 rfl (Nat.le_of_ble_eq_true rfl) ?_
  refine z_iload_n dX9_summed_34 rfl rfl ?_
  refine z_if_le dX9_summed_35 rfl (fun _ => ?_) (fun c => absurd (by decide) c)
  refine z_iload_n dX9_summed_40 rfl rfl ?_
  refine z_if_ne dX9_summed_41 rfl (fun c => absurd (rfl) c) (fun _ => ?_)
  refine z_goto dX9_summed_44 rfl ?_
  exact kk _
theorem sm_hz {h h1 : Hp} {d N S : Nat} {Q : Option Value → Hp → Prop} {s : Ms} {t w0 so i op : Nat} {ro : List Nat} {c : Cd} {v : Option Value} {z : Int32} (rp : RP s t w0 so i ro op 1 c h) (f1 : FQ h h1) (hN : pn h ≤ N) (hS : ps h ≤ S) (hd : 6 ≤ d) (sp : Sp 5 mX9_behindOne [.ref 488] h (some (.int z)) h1) (hz : ¬ z ≤ 0) (hQ : Q (some (.int z)) h1) : T d N S mX9_summed 15 [some (.ref 488), v] [] h Q := by
  obtain ⟨tf, hr, em, fr, nt, e12, e13, e14, e16, e17, e18, pil⟩ := id rp
  have hm := hr.m
  refine z_aload_n dX9_summed_15 rfl rfl ?_
  refine y_getI FX9_203 dX9_summed_16 (Or.inr rfl) hm.o ?_
  refine z_eqi e18 ?_
  refine z_if_eq dX9_summed_19 rfl (fun c => absurd c (by decide)) (fun _ => ?_)
  refine z_aload_n dX9_summed_22 rfl rfl ?_
  refine y_callV (as := []) CX9_behindOne LX9_218 IX9_behindOne VX9_behindOne ⟨rfl, Nat.le_of_ble_eq_true rfl⟩ dX9_summed_23 hm.o rfl (Nat.le_of_ble_eq_true rfl) (Nat.le_of_ble_eq_true rfl) (by omega) sp rok_i (hg_ss f1.1 hN hS) ?_
  refine z_goto dX9_summed_26 rfl ?_
  refine z_istore_n dX9_summed_33 rfl (Nat.le_of_ble_eq_true rfl) ?_
  refine z_iload_n dX9_summed_34 rfl rfl ?_
  refine z_if_le dX9_summed_35 rfl (fun c => absurd c (hz)) (fun _ => ?_)
  refine z_iload_n dX9_summed_38 rfl rfl ?_
  refine z_iret dX9_summed_39 ?_
  exact hQ
theorem sm_hn {h : Hp} {d N S : Nat} {Q : Option Value → Hp → Prop} {s : Ms} {t w0 so i op : Nat} {ro : List Nat} {c : Cd} {v : Option Value} (rp : RP s t w0 so i ro op 1 c h) (hN : pn h ≤ N) (hS : ps h ≤ S) (hd : 6 ≤ d) (sp : Sp 5 mX9_behindOne [.ref 488] h (some (.int (-1))) h) (hl : ro.length ≤ 160) (ho : ¬ opV ro < 0) (hQ : Q (some (.int 1)) h) : T d N S mX9_summed 15 [some (.ref 488), v] [] h Q := by
  obtain ⟨tf, hr, em, fr, nt, e12, e13, e14, e16, e17, e18, pil⟩ := id rp
  have hm := hr.m
  have f1 : FQ h h := FQ.rf
  have on := r_openNow (d := 1) rp hl (Nat.le_refl _)
  refine z_aload_n dX9_summed_15 rfl rfl ?_
  refine y_getI FX9_203 dX9_summed_16 (Or.inr rfl) hm.o ?_
  refine z_eqi e18 ?_
  refine z_if_eq dX9_summed_19 rfl (fun c => absurd c (by decide)) (fun _ => ?_)
  refine z_aload_n dX9_summed_22 rfl rfl ?_
  refine y_callV (as := []) CX9_behindOne LX9_218 IX9_behindOne VX9_behindOne ⟨rfl, Nat.le_of_ble_eq_true rfl⟩ dX9_summed_23 hm.o rfl (Nat.le_of_ble_eq_true rfl) (Nat.le_of_ble_eq_true rfl) (by omega) sp rok_i (hg_ss f1.1 hN hS) ?_
  refine z_goto dX9_summed_26 rfl ?_
  refine z_istore_n dX9_summed_33 rfl (Nat.le_of_ble_eq_true rfl) ?_
  refine z_iload_n dX9_summed_34 rfl rfl ?_
  refine z_if_le dX9_summed_35 rfl (fun _ => ?_) (fun c => absurd (by decide) c)
  refine z_iload_n dX9_summed_40 rfl rfl ?_
  refine z_if_ne dX9_summed_41 rfl (fun _ => ?_) (fun c => absurd c (by decide))
  refine z_aload_n dX9_summed_47 rfl rfl ?_
  refine y_callV (as := []) CX9_openNow LX9_170 IX9_openNow VX9_openNow ⟨rfl, Nat.le_of_ble_eq_true rfl⟩ dX9_summed_48 (f1.1.O hm.o) rfl (Nat.le_of_ble_eq_true rfl) (Nat.le_of_ble_eq_true rfl) (by omega) on rok_i ⟨Nat.le_refl _, Nat.le_refl _, hN, hS⟩ ?_
  refine z_if_lt dX9_summed_51 rfl (fun c => absurd c (ho)) (fun _ => ?_)
  refine z_iconst (v := 1) dX9_summed_54 (by decide) ?_
  refine z_iret dX9_summed_55 ?_
  exact hQ
theorem sm_hd {h h1 : Hp} {d N S : Nat} {Q : Option Value → Hp → Prop} {s : Ms} {t w0 so i op : Nat} {ro : List Nat} {c : Cd} {v : Option Value} (rp : RP s t w0 so i ro op 1 c h) (f1 : FQ h h1) (hN : pn h ≤ N) (hS : ps h ≤ S) (hd : 6 ≤ d) (sp : Sp 5 mX9_behindOne [.ref 488] h (some (.int (-1))) h) (s1 : Sp 1 mX9_settle [.ref 488, .int (nI 1)] h none h1) (hl : ro.length ≤ 160) (ho : opV ro < 0) (hQ : Q (some (.int 0)) h1) : T d N S mX9_summed 15 [some (.ref 488), v] [] h Q := by
  obtain ⟨tf, hr, em, fr, nt, e12, e13, e14, e16, e17, e18, pil⟩ := id rp
  have hm := hr.m
  have on := r_openNow (d := 1) rp hl (Nat.le_refl _)
  refine z_aload_n dX9_summed_15 rfl rfl ?_
  refine y_getI FX9_203 dX9_summed_16 (Or.inr rfl) hm.o ?_
  refine z_eqi e18 ?_
  refine z_if_eq dX9_summed_19 rfl (fun c => absurd c (by decide)) (fun _ => ?_)
  refine z_aload_n dX9_summed_22 rfl rfl ?_
  refine y_callV (as := []) CX9_behindOne LX9_218 IX9_behindOne VX9_behindOne ⟨rfl, Nat.le_of_ble_eq_true rfl⟩ dX9_summed_23 hm.o rfl (Nat.le_of_ble_eq_true rfl) (Nat.le_of_ble_eq_true rfl) (by omega) sp rok_i ⟨Nat.le_refl _, Nat.le_refl _, hN, hS⟩ ?_
  refine z_goto dX9_summed_26 rfl ?_
  refine z_istore_n dX9_summed_33 rfl (Nat.le_of_ble_eq_true rfl) ?_
  refine z_iload_n dX9_summed_34 rfl rfl ?_
  refine z_if_le dX9_summed_35 rfl (fun _ => ?_) (fun c => absurd (by decide) c)
  refine z_iload_n dX9_summed_40 rfl rfl ?_
  refine z_if_ne dX9_summed_41 rfl (fun _ => ?_) (fun c => absurd c (by decide))
  refine z_aload_n dX9_summed_47 rfl rfl ?_
  refine y_callV (as := []) CX9_openNow LX9_170 IX9_openNow VX9_openNow ⟨rfl, Nat.le_of_ble_eq_true rfl⟩ dX9_summed_48 hm.o rfl (Nat.le_of_ble_eq_true rfl) (Nat.le_of_ble_eq_true rfl) (by omega) on rok_i ⟨Nat.le_refl _, Nat.le_refl _, hN, hS⟩ ?_
  refine z_if_lt dX9_summed_51 rfl (fun _ => ?_) (fun c => absurd (ho) c)
  refine z_aload_n dX9_summed_56 rfl rfl ?_
  refine z_iconst (v := 1) dX9_summed_57 (by decide) ?_
  refine y_callV (as := [_]) CX9_settle LX9_200 IX9_settle VX9_settle ⟨rfl, Nat.le_of_ble_eq_true rfl⟩ dX9_summed_58 hm.o rfl (Nat.le_of_ble_eq_true rfl) (Nat.le_of_ble_eq_true rfl) (by omega) s1 rok_v (hg_ss f1.1 hN hS) ?_
  refine z_iconst (v := 0) dX9_summed_61 (by decide) ?_
  refine z_iret dX9_summed_62 ?_
  exact hQ

theorem ge_a {h0 : Hp} {d N S : Nat} {Q : Option Value → Hp → Prop} {s : Ms} {t w0 so i op wh : Nat} {ro : List Nat} {c : Cd} {ro1 : List Nat} {op1 : Nat} {c1 : Cd} (ht : ITp s) (es : stl 7 ro op c = (ro1, op1, c1)) (hn : ∀ r, ro1 ≠ 41 :: r) (hl1 : ro1.length ≤ 159) (ht4 : t < 4) (h159 : ro.length ≤ 159) (hw : w0 + c.length + ro.length ≤ 304) (ho : nOp ro ≤ op) (h100 : op ≤ 100) (k : GO h0 d N S Q s t w0 so i ro1 op1 1 c1) : GE h0 d N S Q s t w0 so i ro op wh c := by
  intro h rp f0
  obtain ⟨h3, e1, e2, e3⟩ := r_end_a (d := 2) rp ht es hn hl1 ht4 h159 hw ho h100 (Nat.le_refl _)
  exact ⟨h3, e3, Or.inl ⟨e1, fun v => k _ v e2 (f0.tr e3)⟩⟩
theorem ge_b {h0 : Hp} {d N S : Nat} {Q : Option Value → Hp → Prop} {s : Ms} {t w0 so i op wh : Nat} {ro : List Nat} {c : Cd} {r : List Nat} {op1 : Nat} {c1 : Cd} (ht : ITp s) (es : stl 7 ro op c = (41 :: r, op1, c1)) (hk : tK (TPs s) (TNs s) i = 21) (hl1 : r.length + 1 ≤ 159) (ht4 : t < 4) (h159 : ro.length ≤ 159) (hw : w0 + c.length + ro.length ≤ 304) (ho : nOp ro ≤ op) (h100 : op ≤ 100) (k : GO h0 d N S Q s t w0 so (i + 1) (4 :: r) op1 0 c1) : GE h0 d N S Q s t w0 so i ro op wh c := by
  intro h rp f0
  obtain ⟨h3, e1, e2, e3⟩ := r_end_b (d := 2) rp ht es hk hl1 ht4 h159 hw ho h100 (Nat.le_refl _)
  exact ⟨h3, e3, Or.inl ⟨e1, fun v => k _ v e2 (f0.tr e3)⟩⟩
theorem ge_c {h0 : Hp} {d N S : Nat} {Q : Option Value → Hp → Prop} {s : Ms} {t w0 so i op wh : Nat} {ro : List Nat} {c : Cd} {r : List Nat} {op1 : Nat} {c1 : Cd} (ht : ITp s) (es : stl 7 ro op c = (41 :: r, op1, c1)) (hk : ¬ tK (TPs s) (TNs s) i = 21) (hl1 : r.length + 1 ≤ 159) (ht4 : t < 4) (h159 : ro.length ≤ 159) (hw : w0 + c.length + ro.length ≤ 304) (ho : nOp ro ≤ op) (h100 : op ≤ 100) (k : FLT h0 Q s t w0 so 1 i) : GE h0 d N S Q s t w0 so i ro op wh c := by
  intro h rp f0
  obtain ⟨h3, e1, e2, e3⟩ := r_end_c (d := 2) rp ht es hk hl1 ht4 h159 hw ho h100 (Nat.le_refl _)
  exact ⟨h3, e3, Or.inr ⟨e1, k _ _ _ _ _ e2 (f0.tr e3)⟩⟩
theorem go_big {h0 : Hp} {d N S : Nat} {Q : Option Value → Hp → Prop} {s : Ms} {t w0 so i op : Nat} {ro : List Nat} {c : Cd} (ht : ITp s) (hk : tK (TPs s) (TNs s) i = 52) (hb : 9999 < (nmR (TPs s) (tP (TPs s) (TNs s) i) (tkE (TPs s) (TNs s) (tP (TPs s) (TNs s) i) - (tP (TPs s) (TNs s) i)))) (hN : pn h0 ≤ N) (hS : ps h0 ≤ S) (hd : 6 ≤ d) (k : FLT h0 Q s t w0 so 2 i) : GO h0 d N S Q s t w0 so i ro op 0 c := by
  intro h v rp f0
  have hN : pn h ≤ N := by rw [f0.1.n]; exact hN
  have hS : ps h ≤ S := by rw [f0.1.s]; exact hS
  exact sm_bz rp FQ.rf hN hS hd (b_big rp ht hk hb) (by decide) (k _ _ _ _ _ rp f0)
theorem go_num {h0 : Hp} {d N S : Nat} {Q : Option Value → Hp → Prop} {s : Ms} {t w0 so i op : Nat} {ro : List Nat} {c : Cd} (ht : ITp s) (ht4 : t < 4) (hw : w0 + c.length ≤ 303) (hk : tK (TPs s) (TNs s) i = 52) (hb : ¬ 9999 < (nmR (TPs s) (tP (TPs s) (TNs s) i) (tkE (TPs s) (TNs s) (tP (TPs s) (TNs s) i) - (tP (TPs s) (TNs s) i)))) (hN : pn h0 ≤ N) (hS : ps h0 ≤ S) (hd : 6 ≤ d) (k : GE h0 d N S Q s t w0 so (i + 1) ro op 0 (c ++ [(0, (nmR (TPs s) (tP (TPs s) (TNs s) i) (tkE (TPs s) (TNs s) (tP (TPs s) (TNs s) i) - (tP (TPs s) (TNs s) i))))])) : GO h0 d N S Q s t w0 so i ro op 0 c := by
  intro h v rp f0
  have hN : pn h ≤ N := by rw [f0.1.n]; exact hN
  have hS : ps h ≤ S := by rw [f0.1.s]; exact hS
  obtain ⟨h2, r2, f2, K⟩ := b_num (d := 5) rp ht ht4 hw hk hb (Nat.le_refl _)
  obtain ⟨h3, f3, q⟩ := k _ r2 (f0.tr f2)
  rcases q with ⟨e, kk⟩ | ⟨e, kk⟩
  · exact sm_b0 rp (f2.tr f3) hN hS hd (K _ _ (e.deep (by omega)) f3) kk
  · exact sm_bz rp (f2.tr f3) hN hS hd (K _ _ (e.deep (by omega)) f3) (by decide) kk
theorem go_nameN {h0 : Hp} {d N S : Nat} {Q : Option Value → Hp → Prop} {s : Ms} {t w0 so i op : Nat} {ro : List Nat} {c : Cd} (ht : ITp s) {m : Nat} (hm10 : m ≤ 10) (hso : so ≤ 9) (hn : nmo (tK (TPs s) (TNs s) i) = nI m) (hk : ¬ tK (TPs s) (TNs s) i = 52) (hno : ¬ (m < 2 ∨ (m < 5 ↔ so = 0))) (hN : pn h0 ≤ N) (hS : ps h0 ≤ S) (hd : 6 ≤ d) (k : FLT h0 Q s t w0 so 5 i) : GO h0 d N S Q s t w0 so i ro op 0 c := by
  intro h v rp f0
  have hN : pn h ≤ N := by rw [f0.1.n]; exact hN
  have hS : ps h ≤ S := by rw [f0.1.s]; exact hS
  exact sm_bz rp FQ.rf hN hS hd (b_nameN rp ht hm10 hso hn hk hno (Nat.le_refl _)) (by decide) (k _ _ _ _ _ rp f0)
theorem go_name {h0 : Hp} {d N S : Nat} {Q : Option Value → Hp → Prop} {s : Ms} {t w0 so i op : Nat} {ro : List Nat} {c : Cd} (ht : ITp s) (ht4 : t < 4) (hw : w0 + c.length ≤ 303) {m : Nat} (hm10 : m ≤ 10) (hso : so ≤ 9) (hn : nmo (tK (TPs s) (TNs s) i) = nI m) (hk : ¬ tK (TPs s) (TNs s) i = 52) (hok : m < 2 ∨ (m < 5 ↔ so = 0)) (hN : pn h0 ≤ N) (hS : ps h0 ≤ S) (hd : 6 ≤ d) (k : GE h0 d N S Q s t w0 so (i + 1) ro op 0 (c ++ [(1, m)])) : GO h0 d N S Q s t w0 so i ro op 0 c := by
  intro h v rp f0
  have hN : pn h ≤ N := by rw [f0.1.n]; exact hN
  have hS : ps h ≤ S := by rw [f0.1.s]; exact hS
  obtain ⟨h2, r2, f2, K⟩ := b_name (d := 5) rp ht ht4 hw hm10 hso hn hk hok (Nat.le_refl _)
  obtain ⟨h3, f3, q⟩ := k _ r2 (f0.tr f2)
  rcases q with ⟨e, kk⟩ | ⟨e, kk⟩
  · exact sm_b0 rp (f2.tr f3) hN hS hd (K _ _ (e.deep (by omega)) f3) kk
  · exact sm_bz rp (f2.tr f3) hN hS hd (K _ _ (e.deep (by omega)) f3) (by decide) kk

theorem go_open_48 {h0 : Hp} {d N S : Nat} {Q : Option Value → Hp → Prop} {s : Ms} {t w0 so i op : Nat} {ro : List Nat} {c : Cd} (ht : ITp s) (hk : tK (TPs s) (TNs s) i = 48) (h8 : op < 8) (hl : ro.length < 160) (hN : pn h0 ≤ N) (hS : ps h0 ≤ S) (hd : 6 ≤ d) (k : GO h0 d N S Q s t w0 so (i + 1) (40 :: ro) (op + 1) 0 c) : GO h0 d N S Q s t w0 so i ro op 0 c := by
  intro h v rp f0
  have hN : pn h ≤ N := by rw [f0.1.n]; exact hN
  have hS : ps h ≤ S := by rw [f0.1.s]; exact hS
  obtain ⟨h1, e1, e2, e3⟩ := b_open_48 (d := 5) rp ht hk h8 hl (Nat.le_refl _)
  exact sm_b0 rp e3 hN hS hd e1 (fun v => k _ v e2 (f0.tr e3))
theorem go_deep_48 {h0 : Hp} {d N S : Nat} {Q : Option Value → Hp → Prop} {s : Ms} {t w0 so i op : Nat} {ro : List Nat} {c : Cd} (ht : ITp s) (hk : tK (TPs s) (TNs s) i = 48) (h8 : op = 8) (hN : pn h0 ≤ N) (hS : ps h0 ≤ S) (hd : 6 ≤ d) (k : FLT h0 Q s t w0 so 3 i) : GO h0 d N S Q s t w0 so i ro op 0 c := by
  intro h v rp f0
  have hN : pn h ≤ N := by rw [f0.1.n]; exact hN
  have hS : ps h ≤ S := by rw [f0.1.s]; exact hS
  exact sm_bz rp FQ.rf hN hS hd (b_deep_48 rp ht hk h8 (Nat.le_refl _)) (by decide) (k _ _ _ _ _ rp f0)

theorem go_open_45 {h0 : Hp} {d N S : Nat} {Q : Option Value → Hp → Prop} {s : Ms} {t w0 so i op : Nat} {ro : List Nat} {c : Cd} (ht : ITp s) (hk : tK (TPs s) (TNs s) i = 45) (h8 : op < 8) (hl : ro.length < 160) (hN : pn h0 ≤ N) (hS : ps h0 ≤ S) (hd : 6 ≤ d) (k : GO h0 d N S Q s t w0 so (i + 1) (5 :: ro) (op + 1) 0 c) : GO h0 d N S Q s t w0 so i ro op 0 c := by
  intro h v rp f0
  have hN : pn h ≤ N := by rw [f0.1.n]; exact hN
  have hS : ps h ≤ S := by rw [f0.1.s]; exact hS
  obtain ⟨h1, e1, e2, e3⟩ := b_open_45 (d := 5) rp ht hk h8 hl (Nat.le_refl _)
  exact sm_b0 rp e3 hN hS hd e1 (fun v => k _ v e2 (f0.tr e3))
theorem go_deep_45 {h0 : Hp} {d N S : Nat} {Q : Option Value → Hp → Prop} {s : Ms} {t w0 so i op : Nat} {ro : List Nat} {c : Cd} (ht : ITp s) (hk : tK (TPs s) (TNs s) i = 45) (h8 : op = 8) (hN : pn h0 ≤ N) (hS : ps h0 ≤ S) (hd : 6 ≤ d) (k : FLT h0 Q s t w0 so 3 i) : GO h0 d N S Q s t w0 so i ro op 0 c := by
  intro h v rp f0
  have hN : pn h ≤ N := by rw [f0.1.n]; exact hN
  have hS : ps h ≤ S := by rw [f0.1.s]; exact hS
  exact sm_bz rp FQ.rf hN hS hd (b_deep_45 rp ht hk h8 (Nat.le_refl _)) (by decide) (k _ _ _ _ _ rp f0)

theorem go_open_20 {h0 : Hp} {d N S : Nat} {Q : Option Value → Hp → Prop} {s : Ms} {t w0 so i op : Nat} {ro : List Nat} {c : Cd} (ht : ITp s) (hk : tK (TPs s) (TNs s) i = 20) (h8 : op < 8) (hl : ro.length < 160) (hN : pn h0 ≤ N) (hS : ps h0 ≤ S) (hd : 6 ≤ d) (k : GO h0 d N S Q s t w0 so (i + 1) (41 :: ro) (op + 1) 0 c) : GO h0 d N S Q s t w0 so i ro op 0 c := by
  intro h v rp f0
  have hN : pn h ≤ N := by rw [f0.1.n]; exact hN
  have hS : ps h ≤ S := by rw [f0.1.s]; exact hS
  obtain ⟨h1, e1, e2, e3⟩ := b_open_20 (d := 5) rp ht hk h8 hl (Nat.le_refl _)
  exact sm_b0 rp e3 hN hS hd e1 (fun v => k _ v e2 (f0.tr e3))
theorem go_deep_20 {h0 : Hp} {d N S : Nat} {Q : Option Value → Hp → Prop} {s : Ms} {t w0 so i op : Nat} {ro : List Nat} {c : Cd} (ht : ITp s) (hk : tK (TPs s) (TNs s) i = 20) (h8 : op = 8) (hN : pn h0 ≤ N) (hS : ps h0 ≤ S) (hd : 6 ≤ d) (k : FLT h0 Q s t w0 so 3 i) : GO h0 d N S Q s t w0 so i ro op 0 c := by
  intro h v rp f0
  have hN : pn h ≤ N := by rw [f0.1.n]; exact hN
  have hS : ps h ≤ S := by rw [f0.1.s]; exact hS
  exact sm_bz rp FQ.rf hN hS hd (b_deep_20 rp ht hk h8 (Nat.le_refl _)) (by decide) (k _ _ _ _ _ rp f0)

theorem go_open_22 {h0 : Hp} {d N S : Nat} {Q : Option Value → Hp → Prop} {s : Ms} {t w0 so i op : Nat} {ro : List Nat} {c : Cd} (ht : ITp s) (hk : tK (TPs s) (TNs s) i = 22) (h8 : op < 8) (hl : ro.length < 160) (hN : pn h0 ≤ N) (hS : ps h0 ≤ S) (hd : 6 ≤ d) (k : GO h0 d N S Q s t w0 so (i + 1) (2 :: ro) (op + 1) 0 c) : GO h0 d N S Q s t w0 so i ro op 0 c := by
  intro h v rp f0
  have hN : pn h ≤ N := by rw [f0.1.n]; exact hN
  have hS : ps h ≤ S := by rw [f0.1.s]; exact hS
  obtain ⟨h1, e1, e2, e3⟩ := b_open_22 (d := 5) rp ht hk h8 hl (Nat.le_refl _)
  exact sm_b0 rp e3 hN hS hd e1 (fun v => k _ v e2 (f0.tr e3))
theorem go_deep_22 {h0 : Hp} {d N S : Nat} {Q : Option Value → Hp → Prop} {s : Ms} {t w0 so i op : Nat} {ro : List Nat} {c : Cd} (ht : ITp s) (hk : tK (TPs s) (TNs s) i = 22) (h8 : op = 8) (hN : pn h0 ≤ N) (hS : ps h0 ≤ S) (hd : 6 ≤ d) (k : FLT h0 Q s t w0 so 3 i) : GO h0 d N S Q s t w0 so i ro op 0 c := by
  intro h v rp f0
  have hN : pn h ≤ N := by rw [f0.1.n]; exact hN
  have hS : ps h ≤ S := by rw [f0.1.s]; exact hS
  exact sm_bz rp FQ.rf hN hS hd (b_deep_22 rp ht hk h8 (Nat.le_refl _)) (by decide) (k _ _ _ _ _ rp f0)

theorem go_open_23 {h0 : Hp} {d N S : Nat} {Q : Option Value → Hp → Prop} {s : Ms} {t w0 so i op : Nat} {ro : List Nat} {c : Cd} (ht : ITp s) (hk : tK (TPs s) (TNs s) i = 23) (h8 : op < 8) (hl : ro.length < 160) (hN : pn h0 ≤ N) (hS : ps h0 ≤ S) (hd : 6 ≤ d) (k : GO h0 d N S Q s t w0 so (i + 1) (42 :: ro) (op + 1) 0 c) : GO h0 d N S Q s t w0 so i ro op 0 c := by
  intro h v rp f0
  have hN : pn h ≤ N := by rw [f0.1.n]; exact hN
  have hS : ps h ≤ S := by rw [f0.1.s]; exact hS
  obtain ⟨h1, e1, e2, e3⟩ := b_open_23 (d := 5) rp ht hk h8 hl (Nat.le_refl _)
  exact sm_b0 rp e3 hN hS hd e1 (fun v => k _ v e2 (f0.tr e3))
theorem go_deep_23 {h0 : Hp} {d N S : Nat} {Q : Option Value → Hp → Prop} {s : Ms} {t w0 so i op : Nat} {ro : List Nat} {c : Cd} (ht : ITp s) (hk : tK (TPs s) (TNs s) i = 23) (h8 : op = 8) (hN : pn h0 ≤ N) (hS : ps h0 ≤ S) (hd : 6 ≤ d) (k : FLT h0 Q s t w0 so 3 i) : GO h0 d N S Q s t w0 so i ro op 0 c := by
  intro h v rp f0
  have hN : pn h ≤ N := by rw [f0.1.n]; exact hN
  have hS : ps h ≤ S := by rw [f0.1.s]; exact hS
  exact sm_bz rp FQ.rf hN hS hd (b_deep_23 rp ht hk h8 (Nat.le_refl _)) (by decide) (k _ _ _ _ _ rp f0)

theorem go_open_29 {h0 : Hp} {d N S : Nat} {Q : Option Value → Hp → Prop} {s : Ms} {t w0 so i op : Nat} {ro : List Nat} {c : Cd} (ht : ITp s) (hk : tK (TPs s) (TNs s) i = 29) (h8 : op < 8) (hl : ro.length < 160) (hl0 : ro.length ≤ 160) (ha : askP ro) (hN : pn h0 ≤ N) (hS : ps h0 ≤ S) (hd : 6 ≤ d) (k : GO h0 d N S Q s t w0 so (i + 1) (20 :: ro) (op + 1) 0 c) : GO h0 d N S Q s t w0 so i ro op 0 c := by
  intro h v rp f0
  have hN : pn h ≤ N := by rw [f0.1.n]; exact hN
  have hS : ps h ≤ S := by rw [f0.1.s]; exact hS
  obtain ⟨h1, e1, e2, e3⟩ := b_open_29 (d := 5) rp ht hk h8 hl hl0 ha (Nat.le_refl _)
  exact sm_b0 rp e3 hN hS hd e1 (fun v => k _ v e2 (f0.tr e3))
theorem go_deep_29 {h0 : Hp} {d N S : Nat} {Q : Option Value → Hp → Prop} {s : Ms} {t w0 so i op : Nat} {ro : List Nat} {c : Cd} (ht : ITp s) (hk : tK (TPs s) (TNs s) i = 29) (h8 : op = 8) (hl0 : ro.length ≤ 160) (ha : askP ro) (hN : pn h0 ≤ N) (hS : ps h0 ≤ S) (hd : 6 ≤ d) (k : FLT h0 Q s t w0 so 3 i) : GO h0 d N S Q s t w0 so i ro op 0 c := by
  intro h v rp f0
  have hN : pn h ≤ N := by rw [f0.1.n]; exact hN
  have hS : ps h ≤ S := by rw [f0.1.s]; exact hS
  exact sm_bz rp FQ.rf hN hS hd (b_deep_29 rp ht hk h8 hl0 ha (Nat.le_refl _)) (by decide) (k _ _ _ _ _ rp f0)

theorem go_other {h0 : Hp} {d N S : Nat} {Q : Option Value → Hp → Prop} {s : Ms} {t w0 so i op : Nat} {ro : List Nat} {c : Cd} (ht : ITp s) (hn : nmo (tK (TPs s) (TNs s) i) = -1) (hk : ¬ tK (TPs s) (TNs s) i = 52 ∧ ¬ tK (TPs s) (TNs s) i = 48 ∧ ¬ tK (TPs s) (TNs s) i = 45 ∧ ¬ tK (TPs s) (TNs s) i = 20 ∧ ¬ tK (TPs s) (TNs s) i = 22 ∧ ¬ tK (TPs s) (TNs s) i = 23) (hl : ro.length ≤ 160) (ha : tK (TPs s) (TNs s) i = 29 → ¬ askP ro) (hN : pn h0 ≤ N) (hS : ps h0 ≤ S) (hd : 6 ≤ d) (k : FLT h0 Q s t w0 so 1 i) : GO h0 d N S Q s t w0 so i ro op 0 c := by
  intro h v rp f0
  have hN : pn h ≤ N := by rw [f0.1.n]; exact hN
  have hS : ps h ≤ S := by rw [f0.1.s]; exact hS
  exact sm_bz rp FQ.rf hN hS hd (b_other rp ht hn hk hl ha (Nat.le_refl _)) (by decide) (k _ _ _ _ _ rp f0)
theorem go_o {h0 : Hp} {d N S : Nat} {Q : Option Value → Hp → Prop} {s : Ms} {t w0 so i op : Nat} {ro : List Nat} {c : Cd} {o l : Nat} {ro1 : List Nat} {op1 : Nat} {c1 : Cd} (ht : ITp s) (hb : btw (tK (TPs s) (TNs s) i) ro = nI o) (h44 : o ≤ 44) (hl : rk o = 4 ∧ l = 5 ∨ ¬ rk o = 4 ∧ l = rk o) (es : stl l ro op c = (ro1, op1, c1)) (hl1 : ro1.length ≤ 159) (ht4 : t < 4) (h159 : ro.length ≤ 159) (hw : w0 + c.length + ro.length ≤ 304) (ho : nOp ro ≤ op) (h100 : op ≤ 100) (hN : pn h0 ≤ N) (hS : ps h0 ≤ S) (hd : 6 ≤ d) (k : GO h0 d N S Q s t w0 so (i + 1) (o :: ro1) op1 0 c1) : GO h0 d N S Q s t w0 so i ro op 1 c := by
  intro h v rp f0
  have hN : pn h ≤ N := by rw [f0.1.n]; exact hN
  have hS : ps h ≤ S := by rw [f0.1.s]; exact hS
  obtain ⟨h1, e1, e2, e3⟩ := r_beh_o (d := 5) rp ht hb h44 hl es hl1 ht4 h159 hw ho h100 (by omega)
  exact sm_h0 rp e3 hN hS hd e1 (fun v => k _ v e2 (f0.tr e3))
theorem go_p {h0 : Hp} {d N S : Nat} {Q : Option Value → Hp → Prop} {s : Ms} {t w0 so i op : Nat} {ro : List Nat} {c : Cd} {r : List Nat} {op1 : Nat} {c1 : Cd} {x : Nat} (ht : ITp s) (hb : btw (tK (TPs s) (TNs s) i) ro = -1) (hp : prt (tK (TPs s) (TNs s) i) (opV ro) ro = 0) (hv : opV ro = 40) (es : stl 1 ro op c = (x :: r, op1 + 1, c1)) (ht4 : t < 4) (h159 : ro.length ≤ 159) (hw : w0 + c.length + ro.length ≤ 304) (ho : nOp ro ≤ op) (h100 : op ≤ 100) (hN : pn h0 ≤ N) (hS : ps h0 ≤ S) (hd : 6 ≤ d) (k : GE h0 d N S Q s t w0 so (i + 1) r op1 1 c1) : GO h0 d N S Q s t w0 so i ro op 1 c := by
  intro h v rp f0
  have hN : pn h ≤ N := by rw [f0.1.n]; exact hN
  have hS : ps h ≤ S := by rw [f0.1.s]; exact hS
  obtain ⟨h2, r2, f2, K⟩ := r_beh_p (d := 5) rp ht hb hp hv es ht4 h159 hw ho h100 (by omega)
  obtain ⟨h3, f3, q⟩ := k _ r2 (f0.tr f2)
  rcases q with ⟨e, kk⟩ | ⟨e, kk⟩
  · exact sm_h0 rp (f2.tr f3) hN hS hd (K _ _ (e.deep (by omega)) f3) kk
  · exact sm_hz rp (f2.tr f3) hN hS hd (K _ _ (e.deep (by omega)) f3) (by decide) kk
theorem go_i {h0 : Hp} {d N S : Nat} {Q : Option Value → Hp → Prop} {s : Ms} {t w0 so i op : Nat} {ro : List Nat} {c : Cd} {r : List Nat} {op1 : Nat} {c1 : Cd} {x : Nat} (ht : ITp s) (hb : btw (tK (TPs s) (TNs s) i) ro = -1) (hp : prt (tK (TPs s) (TNs s) i) (opV ro) ro = 0) (hv : opV ro = 44) (es : stl 1 ro op c = (x :: r, op1 + 1, c1)) (hw1 : w0 + c1.length ≤ 303) (ht4 : t < 4) (h159 : ro.length ≤ 159) (hw : w0 + c.length + ro.length ≤ 304) (ho : nOp ro ≤ op) (h100 : op ≤ 100) (hN : pn h0 ≤ N) (hS : ps h0 ≤ S) (hd : 6 ≤ d) (k : GE h0 d N S Q s t w0 so (i + 1) r op1 1 (c1 ++ [(3, 0)])) : GO h0 d N S Q s t w0 so i ro op 1 c := by
  intro h v rp f0
  have hN : pn h ≤ N := by rw [f0.1.n]; exact hN
  have hS : ps h ≤ S := by rw [f0.1.s]; exact hS
  obtain ⟨h2, r2, f2, K⟩ := r_beh_i (d := 5) rp ht hb hp hv es hw1 ht4 h159 hw ho h100 (by omega)
  obtain ⟨h3, f3, q⟩ := k _ r2 (f0.tr f2)
  rcases q with ⟨e, kk⟩ | ⟨e, kk⟩
  · exact sm_h0 rp (f2.tr f3) hN hS hd (K _ _ (e.deep (by omega)) f3) kk
  · exact sm_hz rp (f2.tr f3) hN hS hd (K _ _ (e.deep (by omega)) f3) (by decide) kk
theorem go_y {h0 : Hp} {d N S : Nat} {Q : Option Value → Hp → Prop} {s : Ms} {t w0 so i op : Nat} {ro : List Nat} {c : Cd} {r : List Nat} {op1 : Nat} {c1 : Cd} {x y : Nat} (ht : ITp s) (hb : btw (tK (TPs s) (TNs s) i) ro = -1) (hp : prt (tK (TPs s) (TNs s) i) (opV ro) ro = nI y) (hy : y = 43 ∨ y = 44) (es : stl 1 ro op c = (x :: r, op1, c1)) (hx : 40 ≤ x) (hl1 : r.length + 1 ≤ 159) (ht4 : t < 4) (h159 : ro.length ≤ 159) (hw : w0 + c.length + ro.length ≤ 304) (ho : nOp ro ≤ op) (h100 : op ≤ 100) (hN : pn h0 ≤ N) (hS : ps h0 ≤ S) (hd : 6 ≤ d) (k : GO h0 d N S Q s t w0 so (i + 1) (y :: r) op1 0 c1) : GO h0 d N S Q s t w0 so i ro op 1 c := by
  intro h v rp f0
  have hN : pn h ≤ N := by rw [f0.1.n]; exact hN
  have hS : ps h ≤ S := by rw [f0.1.s]; exact hS
  obtain ⟨h1, e1, e2, e3⟩ := r_beh_y (d := 5) rp ht hb hp hy es hx hl1 ht4 h159 hw ho h100 (by omega)
  exact sm_h0 rp e3 hN hS hd e1 (fun v => k _ v e2 (f0.tr e3))
theorem go_n {h0 : Hp} {d N S : Nat} {Q : Option Value → Hp → Prop} {s : Ms} {t w0 so i op : Nat} {ro : List Nat} {c : Cd} (ht : ITp s) (hb : btw (tK (TPs s) (TNs s) i) ro = -1) (hp : prt (tK (TPs s) (TNs s) i) (opV ro) ro = -1) (hv : ¬ opV ro < 0) (hl : ro.length ≤ 160) (hN : pn h0 ≤ N) (hS : ps h0 ≤ S) (hd : 6 ≤ d) (k : FLT h0 Q s t w0 so 1 i) : GO h0 d N S Q s t w0 so i ro op 1 c := by
  intro h v rp f0
  have hN : pn h ≤ N := by rw [f0.1.n]; exact hN
  have hS : ps h ≤ S := by rw [f0.1.s]; exact hS
  exact sm_hn rp hN hS hd (r_beh_n rp ht hb hp hl (by omega)) hl hv (k _ _ _ _ _ rp f0)
theorem go_d {h0 : Hp} {d N S : Nat} {Q : Option Value → Hp → Prop} {s : Ms} {t w0 so i op : Nat} {ro : List Nat} {c : Cd} {op1 : Nat} {c1 : Cd} (ht : ITp s) (hb : btw (tK (TPs s) (TNs s) i) ro = -1) (hp : prt (tK (TPs s) (TNs s) i) (opV ro) ro = -1) (hv : opV ro < 0) (es : stl 1 ro op c = ([], op1, c1)) (ht4 : t < 4) (h159 : ro.length ≤ 159) (hw : w0 + c.length + ro.length ≤ 304) (ho : nOp ro ≤ op) (h100 : op ≤ 100) (hN : pn h0 ≤ N) (hS : ps h0 ≤ S) (hd : 6 ≤ d) (k : DNE h0 Q s t w0 so i c1) : GO h0 d N S Q s t w0 so i ro op 1 c := by
  intro h v rp f0
  have hN : pn h ≤ N := by rw [f0.1.n]; exact hN
  have hS : ps h ≤ S := by rw [f0.1.s]; exact hS
  obtain ⟨g, s1, s2, s3⟩ := r_settleS (d := 1) (l := 1) rp ht4 (by omega) h159 hw ho h100 (Nat.le_refl _)
  rw [es] at s2
  exact sm_hd rp s3 hN hS hd (r_beh_n rp ht hb hp (by omega) (by omega)) s1 (by omega) hv (k _ _ s2 (f0.tr s3))

theorem sm_start {d N S : Nat} {Q : Option Value → Hp → Prop} {s : Ms} {t w0 so i op wh : Nat} {ro : List Nat} {c : Cd} {h : Hp} (rp : RP s t w0 so i ro op wh c h) (k : GO h d N S Q s t w0 so i [] 0 0 c) : T d N S mX9_summed 0 (lap mX9_summed [.ref 488]) [] h Q := by
  obtain ⟨tf, hr, em, fr, nt, e12, e13, e14, e16, e17, e18, pil⟩ := id rp
  have hm := hr.m
  have rp1 : RP s t w0 so i [] 0 0 c (sI (sI (sI h 488 16 0) 488 17 0) 488 18 0) := by
    refine rp.fld (fun tf hr => rm_f (rm_f (rm_f hr (by omega)) (by omega)) (by omega)) (fun j q1 q2 => by rw [pI_sI, if_pos rfl, if_neg (by omega), pI_sI, if_pos rfl, if_neg (by omega), pI_sI, if_pos rfl, if_neg (by omega)]) rfl ?_ ?_ ?_ True.intro
    · rw [pI_sI, if_pos rfl, if_neg (by omega), pI_sI, if_pos rfl, if_neg (by omega), pI_sI, if_pos rfl, if_pos rfl]; rfl
    · rw [pI_sI, if_pos rfl, if_neg (by omega), pI_sI, if_pos rfl, if_pos rfl]; rfl
    · rw [pI_sI, if_pos rfl, if_pos rfl]; rfl
  have f1 : FQ h (sI (sI (sI h 488 16 0) 488 17 0) 488 18 0) := ((FQ.rf.f (by omega)).f (by omega)).f (by omega)
  refine z_aload_n dX9_summed_0 rfl rfl ?_
  refine z_iconst (v := 0) dX9_summed_1 (by decide) ?_
  refine y_putI FX9_153 dX9_summed_2 (Or.inl rfl) (Or.inl rfl) hm.o ?_
  refine z_aload_n dX9_summed_5 rfl rfl ?_
  refine z_iconst (v := 0) dX9_summed_6 (by decide) ?_
  refine y_putI FX9_163 dX9_summed_7 (Or.inl rfl) (Or.inl rfl) hm.o ?_
  refine z_aload_n dX9_summed_10 rfl rfl ?_
  refine z_iconst (v := 0) dX9_summed_11 (by decide) ?_
  refine y_putI FX9_203 dX9_summed_12 (Or.inl rfl) (Or.inr ⟨rfl, by decide⟩) hm.o ?_
  exact k _ none rp1 f1

