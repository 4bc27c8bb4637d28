/-! the class reads clauses (wip/whole/genae.py) -/
/-- between clauses: fault z, token i, the draft tells L if there is no fault -/
def CDs (x : Nat) (K W : Nat → Nat) (n : Nat) (y : Nat × Nat × List Cl) (h : Hp) : Prop := RB K W n y.1 y.2.1 h ∧ pR h 472 7 = some x ∧ (y.1 = 0 → DSh h x y.2.2.length y.2.2 ∧ DLw h x y.2.2)
theorem BDc.fin {x n s z j d : Nat} {K W : Nat → Nat} {L : List Cl} {ns : List Nat} {e : Cd} {h : Hp} (q : BDc x K W n L s z j ns e h) (hd : 1 ≤ d) : ∃ h1, Sp d mX2_expect [.ref 472, .int (nI 51)] h none h1 ∧ CDs x K W n (rdC2 K s L (z, j, ns, e)) h1 ∧ FC x h h1 := by
  obtain ⟨q1, q2, q3⟩ := q
  have ct := q1.1
  have ra := q1.2
  unfold rdC2
  by_cases hz : z = 0
  · subst hz
    rw [if_pos rfl]
    obtain ⟨⟨d1, d2, d3, d4, d5, d6, d7⟩, dl⟩ := q3 rfl
    have e5 : (L ++ [(s, ns, e)]).length = L.length + 1 := by rw [List.length_append]; rfl
    by_cases k1 : K j = 51
    · rw [if_pos k1]
      obtain ⟨h1, s1, r1, _⟩ := a_exy (d := d) ct ra k1 (ct.lt _ (by omega)) hd
      have ee : ∀ k, 501 ≤ k → pI h1 k = pI h k := fun k hk => r1.2.1 k (by omega) (by omega)
      refine ⟨h1, s1, ⟨r1.rb ct, by rw [r1.1.R]; exact q2, fun _ => ⟨⟨d1, r1.1.O d2, by rw [r1.1.R]; exact d3, r1.1.rw d4, ?_, Nat.le_refl _, fun k p hk => by rw [ee _ (by omega)]; exact d7 k p hk⟩, fun s2 hs2 => ?_⟩⟩, r1.fc⟩
      · show RwC h1 (x + 1) 6 24 (L ++ [(s, ns, e)]).length
        rw [e5]
        unfold RwC
        rw [ee _ (by omega)]
        exact d5
      · obtain ⟨c, c1, c2⟩ := dl s2 hs2
        refine ⟨c, by rw [r1.1.R]; exact c1, ?_⟩
        rcases c2 with ⟨a1, a2, a3, a4⟩ | ⟨a1, a2, a3⟩
        · exact Or.inl ⟨a1, a2, a3, fun p hp e1 => ⟨r1.1.A (a4 p hp e1).1, by rw [ee _ a2]; exact (a4 p hp e1).2⟩⟩
        · exact Or.inr ⟨a1, a2, r1.1.Z a3⟩
    · rw [if_neg k1]
      obtain ⟨h1, s1, r1, _⟩ := a_exn (d := d) (w := 51) ct ra k1 (by omega) hd
      exact ⟨h1, s1, ⟨r1.rb ct, by rw [r1.1.R]; exact q2, fun w => absurd w (by show ¬ 1 = 0; omega)⟩, r1.fc⟩
  · rw [if_neg (by exact hz)]
    exact ⟨h, a_ex1 ct ra (by omega), ⟨q1, q2, fun w => absurd w hz⟩, FC.rf⟩

theorem wof_mem {p : Cl} : ∀ {L : List Cl}, p ∈ L → p.2.2.length ≤ wof L := by
  intro L
  induction L with
  | nil => intro h; exact absurd h List.not_mem_nil
  | cons a r ih =>
    intro h
    show p.2.2.length ≤ a.2.2.length + wof r
    rcases List.mem_cons.mp h with w | w
    · rw [w]; omega
    · have := ih w; omega
theorem lw_len {p : Cl} (w : WFq p) (h : p.1 ≤ 2) : 1 ≤ p.2.2.length := by
  have l := (w.2.1 h).2
  cases e : p.2.2 with
  | nil => rw [e] at l; cases l
  | cons a b => show 1 ≤ b.length + 1; omega

theorem c_clF {x n i d : Nat} {K W : Nat → Nat} {L : List Cl} {h : Hp} (q : CDs x K W n (0, i, L) h) (wf : ∀ p ∈ L, WFq p) (hl : L.length ≤ 24) (hw : wof L ≤ 300) (hd : 1 ≤ d) (hf : ¬ (1 ≤ K i ∧ K i ≤ 10) ∨ (K i ≤ 3 ∧ hasS (K i - 1) L = true) ∨ L.length = 24) : ∃ h1, Sp d mX2_readClause [.ref 472] h none h1 ∧ CDs x K W n (rdC K W L i) h1 ∧ FW x h h1 ∧ pn h1 ≤ pn h + 1 ∧ ps h1 ≤ ps h + 300 := by
  obtain ⟨q1, q2, q3⟩ := id q
  obtain ⟨⟨d1, d2, d3, d4, d5, d6, d7⟩, dl⟩ := q3 rfl
  have ct := q1.1
  have cr := ct.1
  have n3 := ct.2.2.1
  have k54 : K i ≤ 54 := ct.2.2.2.2.2.2 i
  have ra : RA h K n 0 i h := q1.2
  have d5 : RwC h (x + 1) 6 24 L.length := d5
  by_cases k1 : 1 ≤ K i ∧ K i ≤ 10
  · by_cases k2 : K i ≤ 3 ∧ hasS (K i - 1) L = true
    · rw [show (rdC K W L i) = (4, i, L) by unfold rdC; rw [if_pos k1, if_pos k2]]
      have k3 : 1 ≤ K i ∧ K i ≤ 3 := ⟨k1.1, k2.1⟩
      obtain ⟨c, c1, c2⟩ := dl (K i - 1) (by omega)
      have ca : ∃ m, 1 ≤ m ∧ m ≤ 300 ∧ IA h 10 m c := by
        rcases c2 with ⟨a1, a2, a3, a4⟩ | ⟨a1, a2, a3⟩
        · obtain ⟨p, p1, p2⟩ := hasS_yes a1
          exact ⟨p.2.2.length, lw_len (wf p p1) (by rw [p2]; omega), Nat.le_trans (wof_mem p1) hw, (a4 p p1 p2).1⟩
        · rw [k2.2] at a1; cases a1
      obtain ⟨m, m1, m3, ia⟩ := ca
      obtain ⟨h1, s1, r1, _⟩ := a_bl0 (d := 0) (w := 4) ct ra (by omega)
      refine ⟨h1, ?_, ⟨r1.rb ct, by rw [r1.1.R]; exact q2, fun w => absurd w (by show ¬ 4 = 0; omega)⟩, r1.fc.w, by rw [r1.1.n]; omega, by rw [r1.1.s]; omega⟩
      intro N S Q hN hS hQ
      have hN : pn h ≤ N := ss_n r1.1 hN
      have hS : ps h ≤ S := ss_s r1.1 hS
      refine z_aload_n dX2_readClause_0 rfl rfl ?_
      refine y_getI FX2_43 dX2_readClause_1 (Or.inl rfl) cr.1 ?_
      refine z_eqi (y := nI (K i)) q1.2.2.2.2.2.2.1 ?_
      refine z_istore_n dX2_readClause_4 rfl (Nat.le_of_ble_eq_true rfl) ?_
      refine z_iload_n dX2_readClause_5 rfl rfl ?_
      refine z_iconst (v := 1) dX2_readClause_6 (by decide) ?_
      refine z_iconst (v := 3) dX2_readClause_7 (by decide) ?_
      refine y_callS (as := [_, _, _]) CX8_within LX2_66 SX8_within dX2_readClause_8 rfl (Nat.le_of_ble_eq_true rfl) (Nat.le_of_ble_eq_true rfl) (by omega) (s_within (d := 0) _ _ _) (rok_z bI_01) ⟨Nat.le_refl _, Nat.le_refl _, hN, hS⟩ ?_
      refine z_istore_n dX2_readClause_11 rfl (Nat.le_of_ble_eq_true rfl) ?_
      refine z_iload_n dX2_readClause_12 rfl rfl ?_
      refine z_iconst (v := 1) dX2_readClause_13 (by decide) ?_
      refine z_bipush (v := 10) dX2_readClause_14 (by decide) ?_
      refine y_callS (as := [_, _, _]) CX8_within LX2_66 SX8_within dX2_readClause_16 rfl (Nat.le_of_ble_eq_true rfl) (Nat.le_of_ble_eq_true rfl) (by omega) (s_within (d := 0) _ _ _) (rok_z bI_01) ⟨Nat.le_refl _, Nat.le_refl _, hN, hS⟩ ?_
      refine z_if_ne dX2_readClause_19 rfl (fun _ => ?_) (fun c => absurd c (bI_ne0.mpr ⟨(nI_leI (a := 1) (by omega) (by omega)).mpr k1.1, (nI_leI (b := 10) (by omega) (by omega)).mpr k1.2⟩))
      refine z_iload_n dX2_readClause_30 rfl rfl ?_
      refine z_if_eq dX2_readClause_31 rfl (fun c => absurd c (bI_ne0.mpr ⟨(nI_leI (a := 1) (by omega) (by omega)).mpr k3.1, (nI_leI (b := 3) (by omega) (by omega)).mpr k3.2⟩)) (fun _ => ?_)
      refine z_aload_n dX2_readClause_34 rfl rfl ?_
      refine y_getR FX2_25 dX2_readClause_35 rfl cr.1 q2 ?_
      refine z_iload_n dX2_readClause_38 rfl rfl ?_
      refine z_eqi (show nI (K i) = nI (K i - 1 + 1) by rw [show K i - 1 + 1 = K i by omega]) ?_
      refine y_callV (as := [_]) CX5_law LX2_70 IX5_law VX5_law ⟨rfl, (Nat.le_of_ble_eq_true rfl)⟩ dX2_readClause_39 d2 rfl (Nat.le_of_ble_eq_true rfl) (Nat.le_of_ble_eq_true rfl) (by omega) (s_law (d := 0) (s := K i - 1) d2 (by omega) c1) (rok_o rfl) ⟨Nat.le_refl _, Nat.le_refl _, hN, hS⟩ ?_
      refine y_alen dX2_readClause_42 ia ⟨(Nat.le_of_ble_eq_true rfl), (Nat.le_of_ble_eq_true rfl)⟩ rfl ?_
      refine z_if_le dX2_readClause_43 rfl (fun c => absurd c (fun w => absurd ((nI_leI (b := 0) (by omega) (by omega)).mp w) (by omega))) (fun _ => ?_)
      refine z_aload_n dX2_readClause_46 rfl rfl ?_
      refine z_iconst (v := 4) dX2_readClause_47 (by decide) ?_
      refine y_callV (as := [_]) CX2_blame LX2_59 IX2_blame VX2_blame ⟨rfl, Nat.le_of_ble_eq_true rfl⟩ dX2_readClause_48 cr.1 rfl (Nat.le_of_ble_eq_true rfl) (Nat.le_of_ble_eq_true rfl) (by omega) s1 rok_v (hg_ss r1.1 hN hS) ?_
      refine z_goto dX2_readClause_51 rfl ?_
      refine z_vret dX2_readClause_144 ?_
      exact hQ
    · have l24 : L.length = 24 := by rcases hf with w | w | w <;> first | exact absurd k1 w | exact absurd w k2 | exact w
      rw [show (rdC K W L i) = (6, i, L) by unfold rdC; rw [if_pos k1, if_neg k2, if_pos l24]]
      by_cases k3 : 1 ≤ K i ∧ K i ≤ 3
      · obtain ⟨c, c1, c2⟩ := dl (K i - 1) (by omega)
        have c0 : I0 h c := by
          rcases c2 with ⟨a1, a2, a3, a4⟩ | ⟨a1, a2, a3⟩
          · exact absurd ⟨k3.2, a1⟩ k2
          · rw [a2]; exact a3
        obtain ⟨h1, s1, r1, _⟩ := a_bl0 (d := 0) (w := 6) ct ra (by omega)
        refine ⟨h1, ?_, ⟨r1.rb ct, by rw [r1.1.R]; exact q2, fun w => absurd w (by show ¬ 6 = 0; omega)⟩, r1.fc.w, by rw [r1.1.n]; omega, by rw [r1.1.s]; omega⟩
        intro N S Q hN hS hQ
        have hN : pn h ≤ N := ss_n r1.1 hN
        have hS : ps h ≤ S := ss_s r1.1 hS
        refine z_aload_n dX2_readClause_0 rfl rfl ?_
        refine y_getI FX2_43 dX2_readClause_1 (Or.inl rfl) cr.1 ?_
        refine z_eqi (y := nI (K i)) q1.2.2.2.2.2.2.1 ?_
        refine z_istore_n dX2_readClause_4 rfl (Nat.le_of_ble_eq_true rfl) ?_
        refine z_iload_n dX2_readClause_5 rfl rfl ?_
        refine z_iconst (v := 1) dX2_readClause_6 (by decide) ?_
        refine z_iconst (v := 3) dX2_readClause_7 (by decide) ?_
        refine y_callS (as := [_, _, _]) CX8_within LX2_66 SX8_within dX2_readClause_8 rfl (Nat.le_of_ble_eq_true rfl) (Nat.le_of_ble_eq_true rfl) (by omega) (s_within (d := 0) _ _ _) (rok_z bI_01) ⟨Nat.le_refl _, Nat.le_refl _, hN, hS⟩ ?_
        refine z_istore_n dX2_readClause_11 rfl (Nat.le_of_ble_eq_true rfl) ?_
        refine z_iload_n dX2_readClause_12 rfl rfl ?_
        refine z_iconst (v := 1) dX2_readClause_13 (by decide) ?_
        refine z_bipush (v := 10) dX2_readClause_14 (by decide) ?_
        refine y_callS (as := [_, _, _]) CX8_within LX2_66 SX8_within dX2_readClause_16 rfl (Nat.le_of_ble_eq_true rfl) (Nat.le_of_ble_eq_true rfl) (by omega) (s_within (d := 0) _ _ _) (rok_z bI_01) ⟨Nat.le_refl _, Nat.le_refl _, hN, hS⟩ ?_
        refine z_if_ne dX2_readClause_19 rfl (fun _ => ?_) (fun c => absurd c (bI_ne0.mpr ⟨(nI_leI (a := 1) (by omega) (by omega)).mpr k1.1, (nI_leI (b := 10) (by omega) (by omega)).mpr k1.2⟩))
        refine z_iload_n dX2_readClause_30 rfl rfl ?_
        refine z_if_eq dX2_readClause_31 rfl (fun c => absurd c (bI_ne0.mpr ⟨(nI_leI (a := 1) (by omega) (by omega)).mpr k3.1, (nI_leI (b := 3) (by omega) (by omega)).mpr k3.2⟩)) (fun _ => ?_)
        refine z_aload_n dX2_readClause_34 rfl rfl ?_
        refine y_getR FX2_25 dX2_readClause_35 rfl cr.1 q2 ?_
        refine z_iload_n dX2_readClause_38 rfl rfl ?_
        refine z_eqi (show nI (K i) = nI (K i - 1 + 1) by rw [show K i - 1 + 1 = K i by omega]) ?_
        refine y_callV (as := [_]) CX5_law LX2_70 IX5_law VX5_law ⟨rfl, (Nat.le_of_ble_eq_true rfl)⟩ dX2_readClause_39 d2 rfl (Nat.le_of_ble_eq_true rfl) (Nat.le_of_ble_eq_true rfl) (by omega) (s_law (d := 0) (s := K i - 1) d2 (by omega) c1) (rok_o rfl) ⟨Nat.le_refl _, Nat.le_refl _, hN, hS⟩ ?_
        refine z_alen dX2_readClause_42 c0.1 c0.2 ⟨(Nat.le_of_ble_eq_true rfl), (Nat.le_of_ble_eq_true rfl)⟩ rfl ?_
        refine z_if_le dX2_readClause_43 rfl (fun _ => ?_) (fun c => absurd (by decide) c)
        refine z_aload_n dX2_readClause_54 rfl rfl ?_
        refine y_getR FX2_25 dX2_readClause_55 rfl cr.1 q2 ?_
        refine y_getR FX2_74 dX2_readClause_58 rfl d2 d3 ?_
        refine y_getI FX2_78 dX2_readClause_61 (Or.inl rfl) d4.1 ?_
        refine z_eqi (y := nI (L.length)) d5.2.2.1 ?_
        refine z_bipush (v := 24) dX2_readClause_64 (by decide) ?_
        refine z_icmp_lt dX2_readClause_66 rfl (fun c => absurd c (fun w => absurd ((nI_ltI (b := 24) (by omega) (by omega)).mp w) (by omega))) (fun _ => ?_)
        refine z_aload_n dX2_readClause_69 rfl rfl ?_
        refine z_bipush (v := 6) dX2_readClause_70 (by decide) ?_
        refine y_callV (as := [_]) CX2_blame LX2_59 IX2_blame VX2_blame ⟨rfl, Nat.le_of_ble_eq_true rfl⟩ dX2_readClause_72 cr.1 rfl (Nat.le_of_ble_eq_true rfl) (Nat.le_of_ble_eq_true rfl) (by omega) s1 rok_v (hg_ss r1.1 hN hS) ?_
        refine z_goto dX2_readClause_75 rfl ?_
        refine z_vret dX2_readClause_144 ?_
        exact hQ
      · skip
        obtain ⟨h1, s1, r1, _⟩ := a_bl0 (d := 0) (w := 6) ct ra (by omega)
        refine ⟨h1, ?_, ⟨r1.rb ct, by rw [r1.1.R]; exact q2, fun w => absurd w (by show ¬ 6 = 0; omega)⟩, r1.fc.w, by rw [r1.1.n]; omega, by rw [r1.1.s]; omega⟩
        intro N S Q hN hS hQ
        have hN : pn h ≤ N := ss_n r1.1 hN
        have hS : ps h ≤ S := ss_s r1.1 hS
        refine z_aload_n dX2_readClause_0 rfl rfl ?_
        refine y_getI FX2_43 dX2_readClause_1 (Or.inl rfl) cr.1 ?_
        refine z_eqi (y := nI (K i)) q1.2.2.2.2.2.2.1 ?_
        refine z_istore_n dX2_readClause_4 rfl (Nat.le_of_ble_eq_true rfl) ?_
        refine z_iload_n dX2_readClause_5 rfl rfl ?_
        refine z_iconst (v := 1) dX2_readClause_6 (by decide) ?_
        refine z_iconst (v := 3) dX2_readClause_7 (by decide) ?_
        refine y_callS (as := [_, _, _]) CX8_within LX2_66 SX8_within dX2_readClause_8 rfl (Nat.le_of_ble_eq_true rfl) (Nat.le_of_ble_eq_true rfl) (by omega) (s_within (d := 0) _ _ _) (rok_z bI_01) ⟨Nat.le_refl _, Nat.le_refl _, hN, hS⟩ ?_
        refine z_istore_n dX2_readClause_11 rfl (Nat.le_of_ble_eq_true rfl) ?_
        refine z_iload_n dX2_readClause_12 rfl rfl ?_
        refine z_iconst (v := 1) dX2_readClause_13 (by decide) ?_
        refine z_bipush (v := 10) dX2_readClause_14 (by decide) ?_
        refine y_callS (as := [_, _, _]) CX8_within LX2_66 SX8_within dX2_readClause_16 rfl (Nat.le_of_ble_eq_true rfl) (Nat.le_of_ble_eq_true rfl) (by omega) (s_within (d := 0) _ _ _) (rok_z bI_01) ⟨Nat.le_refl _, Nat.le_refl _, hN, hS⟩ ?_
        refine z_if_ne dX2_readClause_19 rfl (fun _ => ?_) (fun c => absurd c (bI_ne0.mpr ⟨(nI_leI (a := 1) (by omega) (by omega)).mpr k1.1, (nI_leI (b := 10) (by omega) (by omega)).mpr k1.2⟩))
        refine z_iload_n dX2_readClause_30 rfl rfl ?_
        refine z_if_eq dX2_readClause_31 rfl (fun _ => ?_) (fun c => absurd (bI_eq0.mpr (fun w => k3 ⟨(nI_leI (a := 1) (by omega) (by omega)).mp w.1, (nI_leI (b := 3) (by omega) (by omega)).mp w.2⟩)) c)
        refine z_aload_n dX2_readClause_54 rfl rfl ?_
        refine y_getR FX2_25 dX2_readClause_55 rfl cr.1 q2 ?_
        refine y_getR FX2_74 dX2_readClause_58 rfl d2 d3 ?_
        refine y_getI FX2_78 dX2_readClause_61 (Or.inl rfl) d4.1 ?_
        refine z_eqi (y := nI (L.length)) d5.2.2.1 ?_
        refine z_bipush (v := 24) dX2_readClause_64 (by decide) ?_
        refine z_icmp_lt dX2_readClause_66 rfl (fun c => absurd c (fun w => absurd ((nI_ltI (b := 24) (by omega) (by omega)).mp w) (by omega))) (fun _ => ?_)
        refine z_aload_n dX2_readClause_69 rfl rfl ?_
        refine z_bipush (v := 6) dX2_readClause_70 (by decide) ?_
        refine y_callV (as := [_]) CX2_blame LX2_59 IX2_blame VX2_blame ⟨rfl, Nat.le_of_ble_eq_true rfl⟩ dX2_readClause_72 cr.1 rfl (Nat.le_of_ble_eq_true rfl) (Nat.le_of_ble_eq_true rfl) (by omega) s1 rok_v (hg_ss r1.1 hN hS) ?_
        refine z_goto dX2_readClause_75 rfl ?_
        refine z_vret dX2_readClause_144 ?_
        exact hQ
  · rw [show (rdC K W L i) = (1, i, L) by unfold rdC; rw [if_neg k1]]
    obtain ⟨h1, s1, r1, _⟩ := a_bl0 (d := 0) (w := 1) ct ra (by omega)
    refine ⟨h1, ?_, ⟨r1.rb ct, by rw [r1.1.R]; exact q2, fun w => absurd w (by show ¬ 1 = 0; omega)⟩, r1.fc.w, by rw [r1.1.n]; omega, by rw [r1.1.s]; omega⟩
    intro N S Q hN hS hQ
    have hN : pn h ≤ N := ss_n r1.1 hN
    have hS : ps h ≤ S := ss_s r1.1 hS
    refine z_aload_n dX2_readClause_0 rfl rfl ?_
    refine y_getI FX2_43 dX2_readClause_1 (Or.inl rfl) cr.1 ?_
    refine z_eqi (y := nI (K i)) q1.2.2.2.2.2.2.1 ?_
    refine z_istore_n dX2_readClause_4 rfl (Nat.le_of_ble_eq_true rfl) ?_
    refine z_iload_n dX2_readClause_5 rfl rfl ?_
    refine z_iconst (v := 1) dX2_readClause_6 (by decide) ?_
    refine z_iconst (v := 3) dX2_readClause_7 (by decide) ?_
    refine y_callS (as := [_, _, _]) CX8_within LX2_66 SX8_within dX2_readClause_8 rfl (Nat.le_of_ble_eq_true rfl) (Nat.le_of_ble_eq_true rfl) (by omega) (s_within (d := 0) _ _ _) (rok_z bI_01) ⟨Nat.le_refl _, Nat.le_refl _, hN, hS⟩ ?_
    refine z_istore_n dX2_readClause_11 rfl (Nat.le_of_ble_eq_true rfl) ?_
    refine z_iload_n dX2_readClause_12 rfl rfl ?_
    refine z_iconst (v := 1) dX2_readClause_13 (by decide) ?_
    refine z_bipush (v := 10) dX2_readClause_14 (by decide) ?_
    refine y_callS (as := [_, _, _]) CX8_within LX2_66 SX8_within dX2_readClause_16 rfl (Nat.le_of_ble_eq_true rfl) (Nat.le_of_ble_eq_true rfl) (by omega) (s_within (d := 0) _ _ _) (rok_z bI_01) ⟨Nat.le_refl _, Nat.le_refl _, hN, hS⟩ ?_
    refine z_if_ne dX2_readClause_19 rfl (fun c => absurd (bI_eq0.mpr (fun w => k1 ⟨(nI_leI (a := 1) (by omega) (by omega)).mp w.1, (nI_leI (b := 10) (by omega) (by omega)).mp w.2⟩)) c) (fun _ => ?_)
    refine z_aload_n dX2_readClause_22 rfl rfl ?_
    refine z_iconst (v := 1) dX2_readClause_23 (by decide) ?_
    refine y_callV (as := [_]) CX2_blame LX2_59 IX2_blame VX2_blame ⟨rfl, Nat.le_of_ble_eq_true rfl⟩ dX2_readClause_24 cr.1 rfl (Nat.le_of_ble_eq_true rfl) (Nat.le_of_ble_eq_true rfl) (by omega) s1 rok_v (hg_ss r1.1 hN hS) ?_
    refine z_goto dX2_readClause_27 rfl ?_
    refine z_vret dX2_readClause_144 ?_
    exact hQ

theorem grow_ne {h : Hp} {k w n a : Nat} (h1 : a ≠ k) (h2 : a ≠ k + 1) : pI (growH h k w n) a = pI h a := by
  unfold growH
  rw [pI_sA, if_neg h2, pI_sI_ne h1]
theorem grow_d {h : Hp} {k w n j : Nat} (hj : ¬ (n * w ≤ j ∧ j < n * w + w)) : pI (growH h k w n) (k + 1) j = pI h (k + 1) j := by
  unfold growH
  rw [pI_sA, if_pos rfl]
  unfold fillF
  rw [if_neg hj, pI_sI_ne (by omega)]
/-- a row more for the clause -/
theorem CDs.grow {x n i d : Nat} {K W : Nat → Nat} {L : List Cl} {h : Hp} (q : CDs x K W n (0, i, L) h) (wf : ∀ p ∈ L, WFq p) (hl : L.length ≤ 24) (hw : wof L ≤ 300) (hl2 : L.length < 24) {s : Nat} {h3 : Hp} (r3 : RA (sI (growH h (x + 1) 6 L.length) (x + 1 + 1) (L.length * 6 + 0) (nI (s + 1))) K n 0 (i + 1) h3) (ct2 : CT (sI (growH h (x + 1) 6 L.length) (x + 1 + 1) (L.length * 6 + 0) (nI (s + 1))) K W n) : AS x K W n L s (0, i + 1, []) h3 := by
  obtain ⟨q1, q2, q3⟩ := id q
  obtain ⟨⟨d1, d2, d3, d4, d5, d6, d7⟩, dl⟩ := q3 rfl
  have ct := q1.1
  have cr := ct.1
  have n3 := ct.2.2.1
  have k54 : K i ≤ 54 := ct.2.2.2.2.2.2 i
  have ra : RA h K n 0 i h := q1.2
  have d5 : RwC h (x + 1) 6 24 L.length := d5
  have e3 : ∀ k, 501 ≤ k → pI h3 k = pI (sI (growH h (x + 1) 6 L.length) (x + 1 + 1) (L.length * 6 + 0) (nI (s + 1))) k := fun k hk => r3.2.1 k (by omega) (by omega)
  have e2 : ∀ k, k ≠ x + 1 → k ≠ x + 1 + 1 → pI (sI (growH h (x + 1) 6 L.length) (x + 1 + 1) (L.length * 6 + 0) (nI (s + 1))) k = pI h k := fun k k1 k2 => by rw [pI_sI_ne k2, grow_ne k1 k2]
  have sg : SS h (sI (growH h (x + 1) 6 L.length) (x + 1 + 1) (L.length * 6 + 0) (nI (s + 1))) := rfl
  have s3 : SS h h3 := sg.tr r3.1
  refine ⟨r3.rb ct2, by rw [s3.R]; exact q2, ⟨d1, s3.O d2, by rw [s3.R]; exact d3, s3.rw d4, ?_, by omega, fun k p hk => ?_⟩, fun s2 hs2 => ?_, ?_, fun _ c v hc => (by cases hc)⟩
  · obtain ⟨r1, r2, r4, r5, r6⟩ := d5
    unfold RwC
    rw [e3 _ (by omega), pI_sI_ne (by omega)]
    unfold growH
    rw [pI_sA, if_neg (by omega)]
    refine ⟨by rw [pI_sI, if_pos rfl, if_neg (by omega)]; exact r1, by rw [pI_sI, if_pos rfl, if_neg (by omega)]; exact r2, by rw [pI_sI, if_pos rfl, if_pos rfl], by omega, r6⟩
  · have kl := lt_of_some hk
    obtain ⟨a1, a2⟩ := d7 k p hk
    rw [e3 _ (by omega)]
    refine ⟨by rw [pI_sI, if_pos rfl, if_neg (by omega), grow_d (by omega)]; exact a1, fun j u hj => ?_⟩
    have j5 : j < 5 := by have := lt_of_some hj; have := nCol_le p.1; have := (wf p (List.mem_of_getElem? hk)).2.2.2.1; omega
    rw [pI_sI, if_pos rfl, if_neg (by omega), grow_d (by omega)]; exact a2 j u hj
  · obtain ⟨c, c1, c2⟩ := dl s2 hs2
    refine ⟨c, by rw [s3.R]; exact c1, ?_⟩
    rcases c2 with ⟨a1, a2, a3, a4⟩ | ⟨a1, a2, a3⟩
    · exact Or.inl ⟨a1, a2, a3, fun p hp e1 => ⟨s3.A (a4 p hp e1).1, by rw [e3 _ a2, e2 _ (by omega) (by omega)]; exact (a4 p hp e1).2⟩⟩
    · exact Or.inr ⟨a1, a2, s3.Z a3⟩
  · rw [e3 _ (by omega), pI_sI, if_pos rfl, if_pos rfl]

theorem c_cl_law {x n i d : Nat} {K W : Nat → Nat} {L : List Cl} {h : Hp} (q : CDs x K W n (0, i, L) h) (wf : ∀ p ∈ L, WFq p) (hl : L.length ≤ 24) (hw : wof L ≤ 300) {s : Nat} (k1 : 1 ≤ K i ∧ K i ≤ 10) (eso : K i - 1 = s) (hs : s ≤ 2) (k2 : ¬ (K i ≤ 3 ∧ hasS (K i - 1) L = true)) (k4 : ¬ L.length = 24) (hd : 135 ≤ d) : ∃ h1, Sp d mX2_readClause [.ref 472] h none h1 ∧ CDs x K W n (rdC K W L i) h1 ∧ FW x h h1 ∧ pn h1 ≤ pn h + 1 ∧ ps h1 ≤ ps h + 300 := by
  obtain ⟨q1, q2, q3⟩ := id q
  obtain ⟨⟨d1, d2, d3, d4, d5, d6, d7⟩, dl⟩ := q3 rfl
  have ct := q1.1
  have cr := ct.1
  have n3 := ct.2.2.1
  have k54 : K i ≤ 54 := ct.2.2.2.2.2.2 i
  have ra : RA h K n 0 i h := q1.2
  have d5 : RwC h (x + 1) 6 24 L.length := d5
  have hl2 : L.length < 24 := by omega
  have iN : i < n := ct.lt i (by omega)
  have eK : nI (K i) = nI (s + 1) := by rw [show K i = s + 1 by omega]
  have k3 : 1 ≤ K i ∧ K i ≤ 3 := by omega
  have hno : hasS s L = false := by
    cases e : hasS s L with
    | false => rfl
    | true => exact absurd ⟨by omega, by rw [eso]; exact e⟩ k2
  obtain ⟨c, c1, c2⟩ := dl (K i - 1) (by omega)
  have c0 : I0 h c := by
    rcases c2 with ⟨a1, a2, a3, a4⟩ | ⟨a1, a2, a3⟩
    · rw [eso, hno] at a1; cases a1
    · rw [a2]; exact a3
  have eY : (rdC K W L i) = rdC2 K s L (rdB K W s (i + 1)) := by unfold rdC; rw [if_pos k1, if_neg k2, if_neg k4, eso]
  have sg : SS h (sI (growH h (x + 1) 6 L.length) (x + 1 + 1) (L.length * 6 + 0) (nI (s + 1))) := rfl
  have rw2 : RwS (growH h (x + 1) 6 L.length) (x + 1) 6 24 := d4
  have rc2 : RwC (growH h (x + 1) 6 L.length) (x + 1) 6 24 (L.length + 1) := by
    obtain ⟨r1, r2, r4, r5, r6⟩ := d5
    unfold RwC growH
    rw [pI_sA, if_neg (by omega)]
    exact ⟨by rw [pI_sI, if_pos rfl, if_neg (by omega)]; exact r1, by rw [pI_sI, if_pos rfl, if_neg (by omega)]; exact r2, by rw [pI_sI, if_pos rfl, if_pos rfl], by omega, r6⟩
  have st2 : Sp 0 mX4_set [.ref (x + 1), .int (nI L.length), .int (nI 0), .int (nI (K i))] (growH h (x + 1) 6 L.length) none (sI (growH h (x + 1) 6 L.length) (x + 1 + 1) (L.length * 6 + 0) (nI (s + 1))) := by
    rw [eK]
    exact s_set rw2 rc2 (by omega) (by omega)
  have e2 : ∀ k, k ≠ x + 1 → k ≠ x + 1 + 1 → pI (sI (growH h (x + 1) 6 L.length) (x + 1 + 1) (L.length * 6 + 0) (nI (s + 1))) k = pI h k := fun k k1 k2 => by rw [pI_sI_ne k2, grow_ne k1 k2]
  have ct2 : CT (sI (growH h (x + 1) 6 L.length) (x + 1 + 1) (L.length * 6 + 0) (nI (s + 1))) K W n := ct.of sg (e2 _ (by omega) (by omega)) (e2 _ (by omega) (by omega)) (e2 _ (by omega) (by omega))
  have ra2 : RA (sI (growH h (x + 1) 6 L.length) (x + 1 + 1) (L.length * 6 + 0) (nI (s + 1))) K n 0 i (sI (growH h (x + 1) 6 L.length) (x + 1 + 1) (L.length * 6 + 0) (nI (s + 1))) := ⟨rfl, fun _ _ _ => rfl, rfl, fun _ _ => rfl, by rw [e2 _ (by omega) (by omega)]; exact ra.2.2.2.2.1, by rw [e2 _ (by omega) (by omega)]; exact ra.2.2.2.2.2.1, by rw [e2 _ (by omega) (by omega)]; exact ra.2.2.2.2.2.2.1, ra.2.2.2.2.2.2.2.1, by omega⟩
  obtain ⟨h3, s3, r3, _⟩ := a_adv (d := 0) ct2 ra2 iN
  have s3s : SS h h3 := sg.tr r3.1
  have a3 := q.grow (d := 0) wf hl hw hl2 (s := s) r3 ct2
  have f3w : FW x h h3 := ⟨EX.ss s3s, by rw [s3s.s]; exact Nat.le_refl _, fun k hk => ⟨by rw [r3.2.2.1]; rfl, fun k1 k2 => by rw [r3.2.1 k (by omega) k2, e2 k (by omega) (by omega)], fun j _ => by rw [s3s.R]⟩⟩
  obtain ⟨z, j, e, er, _⟩ := rd_end (K := K) (W := W) (so := s) ct.lt 5000 3 0 (i + 1) [] (by omega) (by show 16 * (n - (i + 1)) + 4 < 5000; omega)
  obtain ⟨f1, f2, f3, _⟩ := rd_fact (W := W) (so := s) ct.lt 5000 3 0 (i + 1) [] (by omega) (by omega) (pre_t (by omega)) z j e er
  have f3 : e.length + (i + 1) ≤ 0 + j := f3
  have eB : rdB K W s (i + 1) = (z, j, [], e) := by unfold rdB; rw [if_pos hs, er]; rfl
  obtain ⟨h4, s4, b4, f4, p4, m4⟩ := c_readLaw (d := 134) a3 wf hs hno er (Nat.le_refl _)
  obtain ⟨h5, s5, c5, f5⟩ := b4.fin (d := 1) (Nat.le_refl _)
  refine ⟨h5, ?_, by rw [eY, eB]; exact c5, f3w.tr (f4.tr f5.w), by rw [f5.1.n]; have := s3s.n; omega, by rw [f5.1.s]; have := s3s.s; omega⟩
  intro N S Q hN hS hQ
  have hN4 : pn h4 ≤ N := ss_n f5.1 hN
  have hS4 : ps h4 ≤ S := ss_s f5.1 hS
  have hN : pn h ≤ N := by have := s3s.n; have := f4.1.1; omega
  have hS : ps h ≤ S := by have := s3s.s; have := f4.2.1; omega
  refine z_aload_n dX2_readClause_0 rfl rfl ?_
  refine y_getI FX2_43 dX2_readClause_1 (Or.inl rfl) cr.1 ?_
  refine z_eqi (y := nI (K i)) q1.2.2.2.2.2.2.1 ?_
  refine z_istore_n dX2_readClause_4 rfl (Nat.le_of_ble_eq_true rfl) ?_
  refine z_iload_n dX2_readClause_5 rfl rfl ?_
  refine z_iconst (v := 1) dX2_readClause_6 (by decide) ?_
  refine z_iconst (v := 3) dX2_readClause_7 (by decide) ?_
  refine y_callS (as := [_, _, _]) CX8_within LX2_66 SX8_within dX2_readClause_8 rfl (Nat.le_of_ble_eq_true rfl) (Nat.le_of_ble_eq_true rfl) (by omega) (s_within (d := 0) _ _ _) (rok_z bI_01) ⟨Nat.le_refl _, Nat.le_refl _, hN, hS⟩ ?_
  refine z_istore_n dX2_readClause_11 rfl (Nat.le_of_ble_eq_true rfl) ?_
  refine z_iload_n dX2_readClause_12 rfl rfl ?_
  refine z_iconst (v := 1) dX2_readClause_13 (by decide) ?_
  refine z_bipush (v := 10) dX2_readClause_14 (by decide) ?_
  refine y_callS (as := [_, _, _]) CX8_within LX2_66 SX8_within dX2_readClause_16 rfl (Nat.le_of_ble_eq_true rfl) (Nat.le_of_ble_eq_true rfl) (by omega) (s_within (d := 0) _ _ _) (rok_z bI_01) ⟨Nat.le_refl _, Nat.le_refl _, hN, hS⟩ ?_
  refine z_if_ne dX2_readClause_19 rfl (fun _ => ?_) (fun c => absurd c (bI_ne0.mpr ⟨(nI_leI (a := 1) (by omega) (by omega)).mpr k1.1, (nI_leI (b := 10) (by omega) (by omega)).mpr k1.2⟩))
  refine z_iload_n dX2_readClause_30 rfl rfl ?_
  refine z_if_eq dX2_readClause_31 rfl (fun c => absurd c (bI_ne0.mpr ⟨(nI_leI (a := 1) (by omega) (by omega)).mpr k3.1, (nI_leI (b := 3) (by omega) (by omega)).mpr k3.2⟩)) (fun _ => ?_)
  refine z_aload_n dX2_readClause_34 rfl rfl ?_
  refine y_getR FX2_25 dX2_readClause_35 rfl cr.1 q2 ?_
  refine z_iload_n dX2_readClause_38 rfl rfl ?_
  refine z_eqi (show nI (K i) = nI (K i - 1 + 1) by rw [show K i - 1 + 1 = K i by omega]) ?_
  refine y_callV (as := [_]) CX5_law LX2_70 IX5_law VX5_law ⟨rfl, (Nat.le_of_ble_eq_true rfl)⟩ dX2_readClause_39 d2 rfl (Nat.le_of_ble_eq_true rfl) (Nat.le_of_ble_eq_true rfl) (by omega) (s_law (d := 0) (s := K i - 1) d2 (by omega) c1) (rok_o rfl) ⟨Nat.le_refl _, Nat.le_refl _, hN, hS⟩ ?_
  refine z_alen dX2_readClause_42 c0.1 c0.2 ⟨(Nat.le_of_ble_eq_true rfl), (Nat.le_of_ble_eq_true rfl)⟩ rfl ?_
  refine z_if_le dX2_readClause_43 rfl (fun _ => ?_) (fun c => absurd (by decide) c)
  refine z_aload_n dX2_readClause_54 rfl rfl ?_
  refine y_getR FX2_25 dX2_readClause_55 rfl cr.1 q2 ?_
  refine y_getR FX2_74 dX2_readClause_58 rfl d2 d3 ?_
  refine y_getI FX2_78 dX2_readClause_61 (Or.inl rfl) d4.1 ?_
  refine z_eqi (y := nI (L.length)) d5.2.2.1 ?_
  refine z_bipush (v := 24) dX2_readClause_64 (by decide) ?_
  refine z_icmp_lt dX2_readClause_66 rfl (fun _ => ?_) (fun c => absurd ((nI_ltI (b := 24) (by omega) (by omega)).mpr hl2) c)
  refine z_aload_n dX2_readClause_78 rfl rfl ?_
  refine y_getR FX2_25 dX2_readClause_79 rfl cr.1 q2 ?_
  refine y_getR FX2_74 dX2_readClause_82 rfl d2 d3 ?_
  refine y_callV (as := []) CX4_grow LX2_81 IX4_grow VX4_grow ⟨rfl, Nat.le_of_ble_eq_true rfl⟩ dX2_readClause_85 d4.1 rfl (Nat.le_of_ble_eq_true rfl) (Nat.le_of_ble_eq_true rfl) (by omega) (s_grow (d := 2) d4 d5 hl2 (Nat.le_refl _)) rok_i ⟨Nat.le_refl _, Nat.le_refl _, hN, hS⟩ ?_
  refine z_istore_n dX2_readClause_88 rfl (Nat.le_of_ble_eq_true rfl) ?_
  refine z_aload_n dX2_readClause_89 rfl rfl ?_
  refine y_getR FX2_25 dX2_readClause_90 rfl ((show SS h (growH h (x + 1) 6 L.length) from rfl).O cr.1) (by first | (rw [(show SS h (growH h (x + 1) 6 L.length) from rfl).R]; exact q2) | exact (congrFun (congrFun (show SS h (growH h (x + 1) 6 L.length) from rfl).R _) _).trans q2) ?_
  refine y_getR FX2_74 dX2_readClause_93 rfl ((show SS h (growH h (x + 1) 6 L.length) from rfl).O d2) (by first | (rw [(show SS h (growH h (x + 1) 6 L.length) from rfl).R]; exact d3) | exact (congrFun (congrFun (show SS h (growH h (x + 1) 6 L.length) from rfl).R _) _).trans d3) ?_
  refine z_iload_n dX2_readClause_96 rfl rfl ?_
  refine z_iconst (v := 0) dX2_readClause_97 (by decide) ?_
  refine z_iload_n dX2_readClause_98 rfl rfl ?_
  refine y_callV (as := [_, _, _]) CX4_set LX2_85 IX4_set VX4_set ⟨rfl, Nat.le_of_ble_eq_true rfl⟩ dX2_readClause_99 ((show SS h (growH h (x + 1) 6 L.length) from rfl).O d4.1) rfl (Nat.le_of_ble_eq_true rfl) (Nat.le_of_ble_eq_true rfl) (by omega) st2 rok_v ⟨Nat.le_refl _, Nat.le_refl _, hN, hS⟩ ?_
  refine z_aload_n dX2_readClause_102 rfl rfl ?_
  refine y_callV (as := []) CX2_advance LX2_37 IX2_advance VX2_advance ⟨rfl, Nat.le_of_ble_eq_true rfl⟩ dX2_readClause_103 (sg.O cr.1) rfl (Nat.le_of_ble_eq_true rfl) (Nat.le_of_ble_eq_true rfl) (by omega) s3 rok_v (hg_ss r3.1 hN hS) ?_
  refine z_iload_n dX2_readClause_106 rfl rfl ?_
  refine z_if_eq dX2_readClause_107 rfl (fun c => absurd c (bI_ne0.mpr ⟨(nI_leI (a := 1) (by omega) (by omega)).mpr k3.1, (nI_leI (b := 3) (by omega) (by omega)).mpr k3.2⟩)) (fun _ => ?_)
  refine z_aload_n dX2_readClause_110 rfl rfl ?_
  refine z_iload_n dX2_readClause_111 rfl rfl ?_
  refine z_eqi eK ?_
  refine y_callV (as := [_]) CX2_readLaw LX2_89 IX2_readLaw VX2_readLaw ⟨rfl, (Nat.le_of_ble_eq_true rfl)⟩ dX2_readClause_112 (s3s.O cr.1) rfl (Nat.le_of_ble_eq_true rfl) (Nat.le_of_ble_eq_true rfl) (by omega) s4 rok_v ⟨f4.1.1, f4.2.1, hN4, hS4⟩ ?_
  refine z_goto dX2_readClause_115 rfl ?_
  refine z_aload_n dX2_readClause_138 rfl rfl ?_
  refine z_bipush (v := 51) dX2_readClause_139 (by decide) ?_
  refine y_callV (as := [_]) CX2_expect LX2_99 IX2_expect VX2_expect ⟨rfl, (Nat.le_of_ble_eq_true rfl)⟩ dX2_readClause_141 (b4.1.1.1.1) rfl (Nat.le_of_ble_eq_true rfl) (Nat.le_of_ble_eq_true rfl) (by omega) s5 rok_v (hg_ss f5.1 hN4 hS4) ?_
  refine z_vret dX2_readClause_144 ?_
  exact hQ

theorem c_cl_fore {x n i d : Nat} {K W : Nat → Nat} {L : List Cl} {h : Hp} (q : CDs x K W n (0, i, L) h) (wf : ∀ p ∈ L, WFq p) (hl : L.length ≤ 24) (hw : wof L ≤ 300) {s : Nat} (k1 : 1 ≤ K i ∧ K i ≤ 10) (eso : K i - 1 = s) (hs : s = 5) (k2 : ¬ (K i ≤ 3 ∧ hasS (K i - 1) L = true)) (k4 : ¬ L.length = 24) (hd : 4 ≤ d) : ∃ h1, Sp d mX2_readClause [.ref 472] h none h1 ∧ CDs x K W n (rdC K W L i) h1 ∧ FW x h h1 ∧ pn h1 ≤ pn h + 1 ∧ ps h1 ≤ ps h + 300 := by
  obtain ⟨q1, q2, q3⟩ := id q
  obtain ⟨⟨d1, d2, d3, d4, d5, d6, d7⟩, dl⟩ := q3 rfl
  have ct := q1.1
  have cr := ct.1
  have n3 := ct.2.2.1
  have k54 : K i ≤ 54 := ct.2.2.2.2.2.2 i
  have ra : RA h K n 0 i h := q1.2
  have d5 : RwC h (x + 1) 6 24 L.length := d5
  have hl2 : L.length < 24 := by omega
  have iN : i < n := ct.lt i (by omega)
  have eK : nI (K i) = nI (s + 1) := by rw [show K i = s + 1 by omega]
  have k3 : ¬ (1 ≤ K i ∧ K i ≤ 3) := by omega
  have k6 : K i = 6 := by omega
  have eY : (rdC K W L i) = rdC2 K s L (rdB K W s (i + 1)) := by unfold rdC; rw [if_pos k1, if_neg k2, if_neg k4, eso]
  have sg : SS h (sI (growH h (x + 1) 6 L.length) (x + 1 + 1) (L.length * 6 + 0) (nI (s + 1))) := rfl
  have rw2 : RwS (growH h (x + 1) 6 L.length) (x + 1) 6 24 := d4
  have rc2 : RwC (growH h (x + 1) 6 L.length) (x + 1) 6 24 (L.length + 1) := by
    obtain ⟨r1, r2, r4, r5, r6⟩ := d5
    unfold RwC growH
    rw [pI_sA, if_neg (by omega)]
    exact ⟨by rw [pI_sI, if_pos rfl, if_neg (by omega)]; exact r1, by rw [pI_sI, if_pos rfl, if_neg (by omega)]; exact r2, by rw [pI_sI, if_pos rfl, if_pos rfl], by omega, r6⟩
  have st2 : Sp 0 mX4_set [.ref (x + 1), .int (nI L.length), .int (nI 0), .int (nI (K i))] (growH h (x + 1) 6 L.length) none (sI (growH h (x + 1) 6 L.length) (x + 1 + 1) (L.length * 6 + 0) (nI (s + 1))) := by
    rw [eK]
    exact s_set rw2 rc2 (by omega) (by omega)
  have e2 : ∀ k, k ≠ x + 1 → k ≠ x + 1 + 1 → pI (sI (growH h (x + 1) 6 L.length) (x + 1 + 1) (L.length * 6 + 0) (nI (s + 1))) k = pI h k := fun k k1 k2 => by rw [pI_sI_ne k2, grow_ne k1 k2]
  have ct2 : CT (sI (growH h (x + 1) 6 L.length) (x + 1 + 1) (L.length * 6 + 0) (nI (s + 1))) K W n := ct.of sg (e2 _ (by omega) (by omega)) (e2 _ (by omega) (by omega)) (e2 _ (by omega) (by omega))
  have ra2 : RA (sI (growH h (x + 1) 6 L.length) (x + 1 + 1) (L.length * 6 + 0) (nI (s + 1))) K n 0 i (sI (growH h (x + 1) 6 L.length) (x + 1 + 1) (L.length * 6 + 0) (nI (s + 1))) := ⟨rfl, fun _ _ _ => rfl, rfl, fun _ _ => rfl, by rw [e2 _ (by omega) (by omega)]; exact ra.2.2.2.2.1, by rw [e2 _ (by omega) (by omega)]; exact ra.2.2.2.2.2.1, by rw [e2 _ (by omega) (by omega)]; exact ra.2.2.2.2.2.2.1, ra.2.2.2.2.2.2.2.1, by omega⟩
  obtain ⟨h3, s3, r3, _⟩ := a_adv (d := 0) ct2 ra2 iN
  have s3s : SS h h3 := sg.tr r3.1
  have a3 := q.grow (d := 0) wf hl hw hl2 (s := s) r3 ct2
  have f3w : FW x h h3 := ⟨EX.ss s3s, by rw [s3s.s]; exact Nat.le_refl _, fun k hk => ⟨by rw [r3.2.2.1]; rfl, fun k1 k2 => by rw [r3.2.1 k (by omega) k2, e2 k (by omega) (by omega)], fun j _ => by rw [s3s.R]⟩⟩
  subst hs
  have eB : rdB K W 5 (i + 1) = ((rdF K W (i + 1)).1, (rdF K W (i + 1)).2.1, (rdF K W (i + 1)).2.2, []) := rfl
  obtain ⟨h4, s4, b4, f4⟩ := c_readForetell (d := 3) a3 wf (Nat.le_refl _)
  have b4 := b4.bd (by omega)
  obtain ⟨h5, s5, c5, f5⟩ := b4.fin (d := 1) (Nat.le_refl _)
  refine ⟨h5, ?_, by rw [eY, eB]; exact c5, f3w.tr (f4.w.tr f5.w), by rw [f5.1.n, f4.1.n, s3s.n]; omega, by rw [f5.1.s, f4.1.s, s3s.s]; omega⟩
  intro N S Q hN hS hQ
  have hN4 : pn h4 ≤ N := ss_n f5.1 hN
  have hS4 : ps h4 ≤ S := ss_s f5.1 hS
  have hN : pn h ≤ N := ss_n (s3s.tr f4.1) hN4
  have hS : ps h ≤ S := ss_s (s3s.tr f4.1) hS4
  refine z_aload_n dX2_readClause_0 rfl rfl ?_
  refine y_getI FX2_43 dX2_readClause_1 (Or.inl rfl) cr.1 ?_
  refine z_eqi (y := nI (K i)) q1.2.2.2.2.2.2.1 ?_
  refine z_istore_n dX2_readClause_4 rfl (Nat.le_of_ble_eq_true rfl) ?_
  refine z_iload_n dX2_readClause_5 rfl rfl ?_
  refine z_iconst (v := 1) dX2_readClause_6 (by decide) ?_
  refine z_iconst (v := 3) dX2_readClause_7 (by decide) ?_
  refine y_callS (as := [_, _, _]) CX8_within LX2_66 SX8_within dX2_readClause_8 rfl (Nat.le_of_ble_eq_true rfl) (Nat.le_of_ble_eq_true rfl) (by omega) (s_within (d := 0) _ _ _) (rok_z bI_01) ⟨Nat.le_refl _, Nat.le_refl _, hN, hS⟩ ?_
  refine z_istore_n dX2_readClause_11 rfl (Nat.le_of_ble_eq_true rfl) ?_
  refine z_iload_n dX2_readClause_12 rfl rfl ?_
  refine z_iconst (v := 1) dX2_readClause_13 (by decide) ?_
  refine z_bipush (v := 10) dX2_readClause_14 (by decide) ?_
  refine y_callS (as := [_, _, _]) CX8_within LX2_66 SX8_within dX2_readClause_16 rfl (Nat.le_of_ble_eq_true rfl) (Nat.le_of_ble_eq_true rfl) (by omega) (s_within (d := 0) _ _ _) (rok_z bI_01) ⟨Nat.le_refl _, Nat.le_refl _, hN, hS⟩ ?_
  refine z_if_ne dX2_readClause_19 rfl (fun _ => ?_) (fun c => absurd c (bI_ne0.mpr ⟨(nI_leI (a := 1) (by omega) (by omega)).mpr k1.1, (nI_leI (b := 10) (by omega) (by omega)).mpr k1.2⟩))
  refine z_iload_n dX2_readClause_30 rfl rfl ?_
  refine z_if_eq dX2_readClause_31 rfl (fun _ => ?_) (fun c => absurd (bI_eq0.mpr (fun w => k3 ⟨(nI_leI (a := 1) (by omega) (by omega)).mp w.1, (nI_leI (b := 3) (by omega) (by omega)).mp w.2⟩)) c)
  refine z_aload_n dX2_readClause_54 rfl rfl ?_
  refine y_getR FX2_25 dX2_readClause_55 rfl cr.1 q2 ?_
  refine y_getR FX2_74 dX2_readClause_58 rfl d2 d3 ?_
  refine y_getI FX2_78 dX2_readClause_61 (Or.inl rfl) d4.1 ?_
  refine z_eqi (y := nI (L.length)) d5.2.2.1 ?_
  refine z_bipush (v := 24) dX2_readClause_64 (by decide) ?_
  refine z_icmp_lt dX2_readClause_66 rfl (fun _ => ?_) (fun c => absurd ((nI_ltI (b := 24) (by omega) (by omega)).mpr hl2) c)
  refine z_aload_n dX2_readClause_78 rfl rfl ?_
  refine y_getR FX2_25 dX2_readClause_79 rfl cr.1 q2 ?_
  refine y_getR FX2_74 dX2_readClause_82 rfl d2 d3 ?_
  refine y_callV (as := []) CX4_grow LX2_81 IX4_grow VX4_grow ⟨rfl, Nat.le_of_ble_eq_true rfl⟩ dX2_readClause_85 d4.1 rfl (Nat.le_of_ble_eq_true rfl) (Nat.le_of_ble_eq_true rfl) (by omega) (s_grow (d := 2) d4 d5 hl2 (Nat.le_refl _)) rok_i ⟨Nat.le_refl _, Nat.le_refl _, hN, hS⟩ ?_
  refine z_istore_n dX2_readClause_88 rfl (Nat.le_of_ble_eq_true rfl) ?_
  refine z_aload_n dX2_readClause_89 rfl rfl ?_
  refine y_getR FX2_25 dX2_readClause_90 rfl ((show SS h (growH h (x + 1) 6 L.length) from rfl).O cr.1) (by first | (rw [(show SS h (growH h (x + 1) 6 L.length) from rfl).R]; exact q2) | exact (congrFun (congrFun (show SS h (growH h (x + 1) 6 L.length) from rfl).R _) _).trans q2) ?_
  refine y_getR FX2_74 dX2_readClause_93 rfl ((show SS h (growH h (x + 1) 6 L.length) from rfl).O d2) (by first | (rw [(show SS h (growH h (x + 1) 6 L.length) from rfl).R]; exact d3) | exact (congrFun (congrFun (show SS h (growH h (x + 1) 6 L.length) from rfl).R _) _).trans d3) ?_
  refine z_iload_n dX2_readClause_96 rfl rfl ?_
  refine z_iconst (v := 0) dX2_readClause_97 (by decide) ?_
  refine z_iload_n dX2_readClause_98 rfl rfl ?_
  refine y_callV (as := [_, _, _]) CX4_set LX2_85 IX4_set VX4_set ⟨rfl, Nat.le_of_ble_eq_true rfl⟩ dX2_readClause_99 ((show SS h (growH h (x + 1) 6 L.length) from rfl).O d4.1) rfl (Nat.le_of_ble_eq_true rfl) (Nat.le_of_ble_eq_true rfl) (by omega) st2 rok_v ⟨Nat.le_refl _, Nat.le_refl _, hN, hS⟩ ?_
  refine z_aload_n dX2_readClause_102 rfl rfl ?_
  refine y_callV (as := []) CX2_advance LX2_37 IX2_advance VX2_advance ⟨rfl, Nat.le_of_ble_eq_true rfl⟩ dX2_readClause_103 (sg.O cr.1) rfl (Nat.le_of_ble_eq_true rfl) (Nat.le_of_ble_eq_true rfl) (by omega) s3 rok_v (hg_ss r3.1 hN hS) ?_
  refine z_iload_n dX2_readClause_106 rfl rfl ?_
  refine z_if_eq dX2_readClause_107 rfl (fun _ => ?_) (fun c => absurd (bI_eq0.mpr (fun w => k3 ⟨(nI_leI (a := 1) (by omega) (by omega)).mp w.1, (nI_leI (b := 3) (by omega) (by omega)).mp w.2⟩)) c)
  refine z_iload_n dX2_readClause_118 rfl rfl ?_
  refine z_bipush (v := 6) dX2_readClause_119 (by decide) ?_
  refine z_icmp_ne dX2_readClause_121 rfl (fun c => absurd (congrArg nI k6) c) (fun _ => ?_)
  refine z_aload_n dX2_readClause_124 rfl rfl ?_
  refine z_iload_n dX2_readClause_125 rfl rfl ?_
  refine y_callV (as := [_]) CX2_readForetell LX2_92 IX2_readForetell VX2_readForetell ⟨rfl, Nat.le_of_ble_eq_true rfl⟩ dX2_readClause_126 (s3s.O cr.1) rfl (Nat.le_of_ble_eq_true rfl) (Nat.le_of_ble_eq_true rfl) (by omega) s4 rok_v (hg_ss f4.1 (ss_n' s3s hN) (ss_s' s3s hS)) ?_
  refine z_goto dX2_readClause_129 rfl ?_
  refine z_aload_n dX2_readClause_138 rfl rfl ?_
  refine z_bipush (v := 51) dX2_readClause_139 (by decide) ?_
  refine y_callV (as := [_]) CX2_expect LX2_99 IX2_expect VX2_expect ⟨rfl, (Nat.le_of_ble_eq_true rfl)⟩ dX2_readClause_141 (b4.1.1.1.1) rfl (Nat.le_of_ble_eq_true rfl) (Nat.le_of_ble_eq_true rfl) (by omega) s5 rok_v (hg_ss f5.1 hN4 hS4) ?_
  refine z_vret dX2_readClause_144 ?_
  exact hQ

theorem c_cl_act {x n i d : Nat} {K W : Nat → Nat} {L : List Cl} {h : Hp} (q : CDs x K W n (0, i, L) h) (wf : ∀ p ∈ L, WFq p) (hl : L.length ≤ 24) (hw : wof L ≤ 300) {s : Nat} (k1 : 1 ≤ K i ∧ K i ≤ 10) (eso : K i - 1 = s) (hs : s = 3 ∨ s = 4 ∨ s = 6 ∨ s = 7 ∨ s = 8 ∨ s = 9) (k2 : ¬ (K i ≤ 3 ∧ hasS (K i - 1) L = true)) (k4 : ¬ L.length = 24) (hd : 3 ≤ d) : ∃ h1, Sp d mX2_readClause [.ref 472] h none h1 ∧ CDs x K W n (rdC K W L i) h1 ∧ FW x h h1 ∧ pn h1 ≤ pn h + 1 ∧ ps h1 ≤ ps h + 300 := by
  obtain ⟨q1, q2, q3⟩ := id q
  obtain ⟨⟨d1, d2, d3, d4, d5, d6, d7⟩, dl⟩ := q3 rfl
  have ct := q1.1
  have cr := ct.1
  have n3 := ct.2.2.1
  have k54 : K i ≤ 54 := ct.2.2.2.2.2.2 i
  have ra : RA h K n 0 i h := q1.2
  have d5 : RwC h (x + 1) 6 24 L.length := d5
  have hl2 : L.length < 24 := by omega
  have iN : i < n := ct.lt i (by omega)
  have eK : nI (K i) = nI (s + 1) := by rw [show K i = s + 1 by omega]
  have k3 : ¬ (1 ≤ K i ∧ K i ≤ 3) := by omega
  have eY : (rdC K W L i) = rdC2 K s L (rdB K W s (i + 1)) := by unfold rdC; rw [if_pos k1, if_neg k2, if_neg k4, eso]
  have sg : SS h (sI (growH h (x + 1) 6 L.length) (x + 1 + 1) (L.length * 6 + 0) (nI (s + 1))) := rfl
  have rw2 : RwS (growH h (x + 1) 6 L.length) (x + 1) 6 24 := d4
  have rc2 : RwC (growH h (x + 1) 6 L.length) (x + 1) 6 24 (L.length + 1) := by
    obtain ⟨r1, r2, r4, r5, r6⟩ := d5
    unfold RwC growH
    rw [pI_sA, if_neg (by omega)]
    exact ⟨by rw [pI_sI, if_pos rfl, if_neg (by omega)]; exact r1, by rw [pI_sI, if_pos rfl, if_neg (by omega)]; exact r2, by rw [pI_sI, if_pos rfl, if_pos rfl], by omega, r6⟩
  have st2 : Sp 0 mX4_set [.ref (x + 1), .int (nI L.length), .int (nI 0), .int (nI (K i))] (growH h (x + 1) 6 L.length) none (sI (growH h (x + 1) 6 L.length) (x + 1 + 1) (L.length * 6 + 0) (nI (s + 1))) := by
    rw [eK]
    exact s_set rw2 rc2 (by omega) (by omega)
  have e2 : ∀ k, k ≠ x + 1 → k ≠ x + 1 + 1 → pI (sI (growH h (x + 1) 6 L.length) (x + 1 + 1) (L.length * 6 + 0) (nI (s + 1))) k = pI h k := fun k k1 k2 => by rw [pI_sI_ne k2, grow_ne k1 k2]
  have ct2 : CT (sI (growH h (x + 1) 6 L.length) (x + 1 + 1) (L.length * 6 + 0) (nI (s + 1))) K W n := ct.of sg (e2 _ (by omega) (by omega)) (e2 _ (by omega) (by omega)) (e2 _ (by omega) (by omega))
  have ra2 : RA (sI (growH h (x + 1) 6 L.length) (x + 1 + 1) (L.length * 6 + 0) (nI (s + 1))) K n 0 i (sI (growH h (x + 1) 6 L.length) (x + 1 + 1) (L.length * 6 + 0) (nI (s + 1))) := ⟨rfl, fun _ _ _ => rfl, rfl, fun _ _ => rfl, by rw [e2 _ (by omega) (by omega)]; exact ra.2.2.2.2.1, by rw [e2 _ (by omega) (by omega)]; exact ra.2.2.2.2.2.1, by rw [e2 _ (by omega) (by omega)]; exact ra.2.2.2.2.2.2.1, ra.2.2.2.2.2.2.2.1, by omega⟩
  obtain ⟨h3, s3, r3, _⟩ := a_adv (d := 0) ct2 ra2 iN
  have s3s : SS h h3 := sg.tr r3.1
  have a3 := q.grow (d := 0) wf hl hw hl2 (s := s) r3 ct2
  have f3w : FW x h h3 := ⟨EX.ss s3s, by rw [s3s.s]; exact Nat.le_refl _, fun k hk => ⟨by rw [r3.2.2.1]; rfl, fun k1 k2 => by rw [r3.2.1 k (by omega) k2, e2 k (by omega) (by omega)], fun j _ => by rw [s3s.R]⟩⟩
  have eB : rdB K W s (i + 1) = ((rdA K W (itm s).1 (itm s).2.1 (itm s).2.2 (i + 1)).1, (rdA K W (itm s).1 (itm s).2.1 (itm s).2.2 (i + 1)).2.1, (rdA K W (itm s).1 (itm s).2.1 (itm s).2.2 (i + 1)).2.2, []) := by
    unfold rdB
    rw [if_neg (by omega), if_neg (by omega)]
  obtain ⟨h4, s4, b4, f4⟩ := c_readAct (d := 2) a3 wf hs (Nat.le_refl _)
  have b4 := b4.bd (by omega)
  obtain ⟨h5, s5, c5, f5⟩ := b4.fin (d := 1) (Nat.le_refl _)
  have s4K : Sp 2 mX2_readAct [.ref 472, .int (nI (K i)), .int (nI L.length)] h3 none h4 := by rw [eK]; exact s4
  refine ⟨h5, ?_, by rw [eY, eB]; exact c5, f3w.tr (f4.w.tr f5.w), by rw [f5.1.n, f4.1.n, s3s.n]; omega, by rw [f5.1.s, f4.1.s, s3s.s]; omega⟩
  intro N S Q hN hS hQ
  have hN4 : pn h4 ≤ N := ss_n f5.1 hN
  have hS4 : ps h4 ≤ S := ss_s f5.1 hS
  have hN : pn h ≤ N := ss_n (s3s.tr f4.1) hN4
  have hS : ps h ≤ S := ss_s (s3s.tr f4.1) hS4
  refine z_aload_n dX2_readClause_0 rfl rfl ?_
  refine y_getI FX2_43 dX2_readClause_1 (Or.inl rfl) cr.1 ?_
  refine z_eqi (y := nI (K i)) q1.2.2.2.2.2.2.1 ?_
  refine z_istore_n dX2_readClause_4 rfl (Nat.le_of_ble_eq_true rfl) ?_
  refine z_iload_n dX2_readClause_5 rfl rfl ?_
  refine z_iconst (v := 1) dX2_readClause_6 (by decide) ?_
  refine z_iconst (v := 3) dX2_readClause_7 (by decide) ?_
  refine y_callS (as := [_, _, _]) CX8_within LX2_66 SX8_within dX2_readClause_8 rfl (Nat.le_of_ble_eq_true rfl) (Nat.le_of_ble_eq_true rfl) (by omega) (s_within (d := 0) _ _ _) (rok_z bI_01) ⟨Nat.le_refl _, Nat.le_refl _, hN, hS⟩ ?_
  refine z_istore_n dX2_readClause_11 rfl (Nat.le_of_ble_eq_true rfl) ?_
  refine z_iload_n dX2_readClause_12 rfl rfl ?_
  refine z_iconst (v := 1) dX2_readClause_13 (by decide) ?_
  refine z_bipush (v := 10) dX2_readClause_14 (by decide) ?_
  refine y_callS (as := [_, _, _]) CX8_within LX2_66 SX8_within dX2_readClause_16 rfl (Nat.le_of_ble_eq_true rfl) (Nat.le_of_ble_eq_true rfl) (by omega) (s_within (d := 0) _ _ _) (rok_z bI_01) ⟨Nat.le_refl _, Nat.le_refl _, hN, hS⟩ ?_
  refine z_if_ne dX2_readClause_19 rfl (fun _ => ?_) (fun c => absurd c (bI_ne0.mpr ⟨(nI_leI (a := 1) (by omega) (by omega)).mpr k1.1, (nI_leI (b := 10) (by omega) (by omega)).mpr k1.2⟩))
  refine z_iload_n dX2_readClause_30 rfl rfl ?_
  refine z_if_eq dX2_readClause_31 rfl (fun _ => ?_) (fun c => absurd (bI_eq0.mpr (fun w => k3 ⟨(nI_leI (a := 1) (by omega) (by omega)).mp w.1, (nI_leI (b := 3) (by omega) (by omega)).mp w.2⟩)) c)
  refine z_aload_n dX2_readClause_54 rfl rfl ?_
  refine y_getR FX2_25 dX2_readClause_55 rfl cr.1 q2 ?_
  refine y_getR FX2_74 dX2_readClause_58 rfl d2 d3 ?_
  refine y_getI FX2_78 dX2_readClause_61 (Or.inl rfl) d4.1 ?_
  refine z_eqi (y := nI (L.length)) d5.2.2.1 ?_
  refine z_bipush (v := 24) dX2_readClause_64 (by decide) ?_
  refine z_icmp_lt dX2_readClause_66 rfl (fun _ => ?_) (fun c => absurd ((nI_ltI (b := 24) (by omega) (by omega)).mpr hl2) c)
  refine z_aload_n dX2_readClause_78 rfl rfl ?_
  refine y_getR FX2_25 dX2_readClause_79 rfl cr.1 q2 ?_
  refine y_getR FX2_74 dX2_readClause_82 rfl d2 d3 ?_
  refine y_callV (as := []) CX4_grow LX2_81 IX4_grow VX4_grow ⟨rfl, Nat.le_of_ble_eq_true rfl⟩ dX2_readClause_85 d4.1 rfl (Nat.le_of_ble_eq_true rfl) (Nat.le_of_ble_eq_true rfl) (by omega) (s_grow (d := 2) d4 d5 hl2 (Nat.le_refl _)) rok_i ⟨Nat.le_refl _, Nat.le_refl _, hN, hS⟩ ?_
  refine z_istore_n dX2_readClause_88 rfl (Nat.le_of_ble_eq_true rfl) ?_
  refine z_aload_n dX2_readClause_89 rfl rfl ?_
  refine y_getR FX2_25 dX2_readClause_90 rfl ((show SS h (growH h (x + 1) 6 L.length) from rfl).O cr.1) (by first | (rw [(show SS h (growH h (x + 1) 6 L.length) from rfl).R]; exact q2) | exact (congrFun (congrFun (show SS h (growH h (x + 1) 6 L.length) from rfl).R _) _).trans q2) ?_
  refine y_getR FX2_74 dX2_readClause_93 rfl ((show SS h (growH h (x + 1) 6 L.length) from rfl).O d2) (by first | (rw [(show SS h (growH h (x + 1) 6 L.length) from rfl).R]; exact d3) | exact (congrFun (congrFun (show SS h (growH h (x + 1) 6 L.length) from rfl).R _) _).trans d3) ?_
  refine z_iload_n dX2_readClause_96 rfl rfl ?_
  refine z_iconst (v := 0) dX2_readClause_97 (by decide) ?_
  refine z_iload_n dX2_readClause_98 rfl rfl ?_
  refine y_callV (as := [_, _, _]) CX4_set LX2_85 IX4_set VX4_set ⟨rfl, Nat.le_of_ble_eq_true rfl⟩ dX2_readClause_99 ((show SS h (growH h (x + 1) 6 L.length) from rfl).O d4.1) rfl (Nat.le_of_ble_eq_true rfl) (Nat.le_of_ble_eq_true rfl) (by omega) st2 rok_v ⟨Nat.le_refl _, Nat.le_refl _, hN, hS⟩ ?_
  refine z_aload_n dX2_readClause_102 rfl rfl ?_
  refine y_callV (as := []) CX2_advance LX2_37 IX2_advance VX2_advance ⟨rfl, Nat.le_of_ble_eq_true rfl⟩ dX2_readClause_103 (sg.O cr.1) rfl (Nat.le_of_ble_eq_true rfl) (Nat.le_of_ble_eq_true rfl) (by omega) s3 rok_v (hg_ss r3.1 hN hS) ?_
  refine z_iload_n dX2_readClause_106 rfl rfl ?_
  refine z_if_eq dX2_readClause_107 rfl (fun _ => ?_) (fun c => absurd (bI_eq0.mpr (fun w => k3 ⟨(nI_leI (a := 1) (by omega) (by omega)).mp w.1, (nI_leI (b := 3) (by omega) (by omega)).mp w.2⟩)) c)
  refine z_iload_n dX2_readClause_118 rfl rfl ?_
  refine z_bipush (v := 6) dX2_readClause_119 (by decide) ?_
  refine z_icmp_ne dX2_readClause_121 rfl (fun _ => ?_) (fun c => absurd c (fun w => absurd ((nI_eq (b := 6) (by omega) (by omega)).mp w) (by omega)))
  refine z_aload_n dX2_readClause_132 rfl rfl ?_
  refine z_iload_n dX2_readClause_133 rfl rfl ?_
  refine z_iload_n dX2_readClause_134 rfl rfl ?_
  refine y_callV (as := [_, _]) CX2_readAct LX2_95 IX2_readAct VX2_readAct ⟨rfl, (Nat.le_of_ble_eq_true rfl)⟩ dX2_readClause_135 (s3s.O cr.1) rfl (Nat.le_of_ble_eq_true rfl) (Nat.le_of_ble_eq_true rfl) (by omega) s4K rok_v (hg_ss f4.1 (ss_n' s3s hN) (ss_s' s3s hS)) ?_
  refine z_aload_n dX2_readClause_138 rfl rfl ?_
  refine z_bipush (v := 51) dX2_readClause_139 (by decide) ?_
  refine y_callV (as := [_]) CX2_expect LX2_99 IX2_expect VX2_expect ⟨rfl, (Nat.le_of_ble_eq_true rfl)⟩ dX2_readClause_141 (b4.1.1.1.1) rfl (Nat.le_of_ble_eq_true rfl) (Nat.le_of_ble_eq_true rfl) (by omega) s5 rok_v (hg_ss f5.1 hN4 hS4) ?_
  refine z_vret dX2_readClause_144 ?_
  exact hQ

theorem c_readClause {x n i d : Nat} {K W : Nat → Nat} {L : List Cl} {h : Hp} (q : CDs x K W n (0, i, L) h) (wf : ∀ p ∈ L, WFq p) (hl : L.length ≤ 24) (hw : wof L ≤ 300) (hd : 135 ≤ d) : ∃ h1, Sp d mX2_readClause [.ref 472] h none h1 ∧ CDs x K W n (rdC K W L i) h1 ∧ FW x h h1 ∧ pn h1 ≤ pn h + 1 ∧ ps h1 ≤ ps h + 300 := by
  by_cases hf : ¬ (1 ≤ K i ∧ K i ≤ 10) ∨ (K i ≤ 3 ∧ hasS (K i - 1) L = true) ∨ L.length = 24
  · exact c_clF q wf hl hw (by omega) hf
  · have k1 : 1 ≤ K i ∧ K i ≤ 10 := by
      by_cases k1 : 1 ≤ K i ∧ K i ≤ 10
      · exact k1
      · exact absurd (Or.inl k1) hf
    have k2 : ¬ (K i ≤ 3 ∧ hasS (K i - 1) L = true) := fun w => hf (Or.inr (Or.inl w))
    have k4 : ¬ L.length = 24 := fun w => hf (Or.inr (Or.inr w))
    by_cases h2 : K i - 1 ≤ 2
    · exact c_cl_law q wf hl hw k1 rfl h2 k2 k4 hd
    · by_cases h5 : K i - 1 = 5
      · exact c_cl_fore q wf hl hw k1 h5 rfl k2 k4 (by omega)
      · exact c_cl_act q wf hl hw k1 rfl (by omega) k2 k4 (by omega)

