/-! the rules of T: arrays are written; new cells -/
/-- a new cell -/
theorem rl_new {E : Ev} {h : Hp} {H H1 : Heap} {c n : Nat} (hR : Rl E h H) (hz : H1.size = H.size + 1) (oq : ∀ q, q < H.size → H1[q]? = H[q]?) (hat : va_at E.2.2.1 vwCl (H.size, pe E (nw h c n) (pn h)) H1) : Rl E (nw h c n) H1 := by
  have hph := ph_new hR
  obtain ⟨r1, r2, r3, r4, r5, r6, r7, r8, r9, r10, r11, r12⟩ := hR
  have hne : ∀ j, j < 8 → j ≠ pn h := fun j hj => by omega
  refine ⟨by rw [pn_nw]; omega, by rw [hz, pn_nw, r2]; omega, fun j a b => ?_, by rw [pK_nw, if_neg (hne 0 (by omega))]; exact r4, by rw [pK_nw, if_neg (hne 1 (by omega))]; exact r5, fun j hj => by rw [pI_nw, if_neg (hne 1 (by omega))]; exact r6 j hj, by rw [pK_nw, if_neg (hne 2 (by omega))]; exact r7, by rw [pK_nw, if_neg (hne 3 (by omega))]; exact r8, by rw [pK_nw, if_neg (hne 4 (by omega))]; exact r9, by rw [pK_nw, if_neg (hne 5 (by omega))]; exact r10, by rw [pK_nw, if_neg (hne 6 (by omega))]; exact r11, by rw [pK_nw, if_neg (hne 7 (by omega))]; exact r12⟩
  rw [pn_nw] at b
  by_cases hj : j = pn h
  · subst hj
    rw [hph]
    exact hat
  · have hx := r3 j a (by omega)
    rw [pe_congr (h := h) (h' := nw h c n) (by rw [pI_nw, if_neg hj]) (by rw [pJ_nw, if_neg hj]) (by rw [pR_nw, if_neg hj]) (by rw [pK_nw, if_neg hj])]
    exact hx.kept (oq _ hx.lt)
theorem vaS_new {A : Nat → Prop} {H0 H H1 : Heap} {locs : List Loc} (hS : va_S A H0 H locs) (hz : H1.size = H.size + 1) (oq : ∀ q, q < H.size → H1[q]? = H[q]?) : va_S A H0 H1 locs :=
  ⟨Nat.le_trans hS.1 (by omega), fun x h1 h2 => (oq x (Nat.lt_of_lt_of_le h1 hS.1)).trans (hS.2.1 x h1 h2), hS.2.2⟩
section HEAP3
variable {d N S : Nat} {M : Mi} {pc : Nat} {lv : List (Option Value)} {st : List Value} {h h' : Hp} {Q : Option Value → Hp → Prop} {k c i index : Nat}
theorem z_iast {n : Nat} {j x : Int32} (hd : decode M.2.1 pc = .ok (.iastore, 1)) (h6 : 8 ≤ k) (hk : k < pn h) (hK : pK h k = (10, n)) (hj : vp_in j n) (kk : T d N S M (pc + 1) lv st (sI h k j.toNatClampNeg x) Q) : T d N S M pc lv (.int x :: .int j :: .ref k :: st) h Q := by
  intro E p l e R s m args below meth cc H locs n0 s0 ls Z hC hR hS h1 h2 h3 h4 h5 h6' h7 h8 hl hq
  have hat := hR.2.2.1 k h6 hk
  rw [pe_i hK] at hat
  refine W.iast hC.1 hC.2.1 hat (((cxK hC).2 0 _ rfl).1 n (fun j => .int (pI h k j))) (fun q => by cases q) (by show ¬ (j < 0 ∨ (arrV _ _ _).slots.size ≤ _); rw [arrV_size]; exact hj) rfl rfl hd fun H1 e1 z oq => ?_
  have hR' : Rl E (sI h k j.toNatClampNeg x) H1 := by
    refine rl_upd hR h6 z oq ?_ rfl (fun _ => rfl) (fun b => by rw [pI_sI, if_neg (by omega)]) (fun b hb => pe_congr (by funext a; rw [pI_sI, if_neg hb]) rfl rfl rfl)
    rw [pe_i (show pK (sI h k j.toNatClampNeg x) k = (10, n) from hK)]
    show H1[_]? = some (vp_cell _ _)
    rw [e1, vp_cell_i, vp_cell_i, arrV_store]
    congr 2
    funext q
    by_cases hq : q = j.toNatClampNeg
    · subst hq
      simp [updV, pI_sI]
    · simp [updV, pI_sI, hq]
  exact kk E p l e R s m args below meth cc H1 _ n0 s0 ls Z hC hR' (hS.put z oq (ph_A h6)) h1 h2 h3 h4 h5 h6' h7 h8 hl hq
theorem z_zast {n : Nat} {j x : Int32} (hd : decode M.2.1 pc = .ok (.bastore, 1)) (h6 : 8 ≤ k) (hk : k < pn h) (hK : pK h k = (12, n)) (hj : vp_in j n) (hx : x = 0 ∨ x = 1) (kk : T d N S M (pc + 1) lv st (sI h k j.toNatClampNeg x) Q) : T d N S M pc lv (.int x :: .int j :: .ref k :: st) h Q := by
  intro E p l e R s m args below meth cc H locs n0 s0 ls Z hC hR hS h1 h2 h3 h4 h5 h6' h7 h8 hl hq
  have hat := hR.2.2.1 k h6 hk
  rw [pe_z hK] at hat
  refine W.zast hC.1 hC.2.1 hat (((cxK hC).2 2 _ rfl).1 n (fun j => .int (pI h k j))) (fun q => by cases q) (by show ¬ (j < 0 ∨ (arrV _ _ _).slots.size ≤ _); rw [arrV_size]; exact hj) rfl rfl hd fun H1 e1 z oq => ?_
  have hR' : Rl E (sI h k j.toNatClampNeg x) H1 := by
    refine rl_upd hR h6 z oq ?_ rfl (fun _ => rfl) (fun b => by rw [pI_sI, if_neg (by omega)]) (fun b hb => pe_congr (by funext a; rw [pI_sI, if_neg hb]) rfl rfl rfl)
    rw [pe_z (show pK (sI h k j.toNatClampNeg x) k = (12, n) from hK)]
    show H1[_]? = some (vp_cell _ _)
    rw [e1, vp_cell_i, vp_cell_i, arrV_store]
    congr 2
    funext q
    have hnx : narrow .boolean (.int x) = .int x := by rcases hx with hx | hx <;> rw [hx] <;> decide
    by_cases hq : q = j.toNatClampNeg
    · subst hq
      simp [updV, pI_sI, hnx]
    · simp [updV, pI_sI, hq]
  exact kk E p l e R s m args below meth cc H1 _ n0 s0 ls Z hC hR' (hS.put z oq (ph_A h6)) h1 h2 h3 h4 h5 h6' h7 h8 hl hq
theorem z_last {n : Nat} {j : Int32} {x : Int64} (hd : decode M.2.1 pc = .ok (.lastore, 1)) (h6 : 8 ≤ k) (hk : k < pn h) (hK : pK h k = (11, n)) (hj : vp_in j n) (kk : T d N S M (pc + 1) lv st (sJ h k j.toNatClampNeg x) Q) : T d N S M pc lv (.long x :: .int j :: .ref k :: st) h Q := by
  intro E p l e R s m args below meth cc H locs n0 s0 ls Z hC hR hS h1 h2 h3 h4 h5 h6' h7 h8 hl hq
  have hat := hR.2.2.1 k h6 hk
  rw [pe_l hK] at hat
  refine W.last hC.1 hC.2.1 hat (((cxK hC).2 1 _ rfl).1 n (fun j => .long (pJ h k j))) (fun q => by cases q) (by show ¬ (j < 0 ∨ (arrV _ _ _).slots.size ≤ _); rw [arrV_size]; exact hj) rfl rfl hd fun H1 e1 z oq => ?_
  have hR' : Rl E (sJ h k j.toNatClampNeg x) H1 := by
    refine rl_upd hR h6 z oq ?_ rfl (fun _ => rfl) (fun b => rfl) (fun b hb => pe_congr rfl (by funext a; rw [pJ_sJ, if_neg hb]) rfl rfl)
    rw [pe_l (show pK (sJ h k j.toNatClampNeg x) k = (11, n) from hK)]
    show H1[_]? = some (vp_cell _ _)
    rw [e1, vp_cell_l, vp_cell_l, arrV_store]
    congr 2
    funext q
    by_cases hq : q = j.toNatClampNeg
    · subst hq
      simp [updV, pJ_sJ]
    · simp [updV, pJ_sJ, hq]
  exact kk E p l e R s m args below meth cc H1 _ n0 s0 ls Z hC hR' (hS.put z oq (ph_A h6)) h1 h2 h3 h4 h5 h6' h7 h8 hl hq
/-- t: 13 an array of Texts, 14 of Worlds; the class of what is stored: 5, 7 -/
theorem z_aast {n t x : Nat} {j : Int32} (hd : decode M.2.1 pc = .ok (.aastore, 1)) (h6 : 8 ≤ k) (hk : k < pn h) (ht : (t = 13 ∧ (pK h x).1 = 5) ∨ (t = 14 ∧ (pK h x).1 = 7)) (hx6 : 8 ≤ x) (hx : x < pn h) (hK : pK h k = (t, n)) (hj : vp_in j n) (kk : T d N S M (pc + 1) lv st (sR h k j.toNatClampNeg (some x)) Q) : T d N S M pc lv (.ref x :: .int j :: .ref k :: st) h Q := by
  intro E p l e R s m args below meth cc H locs n0 s0 ls Z hC hR hS h1 h2 h3 h4 h5 h6' h7 h8 hl hq
  have hat := hR.2.2.1 k h6 hk
  have hax := hR.2.2.1 x hx6 hx
  have hlt : j.toNatClampNeg < n := Nat.not_le.mp fun q => hj (Or.inr q)
  have hj0 : ¬ j < 0 := fun q => hj (Or.inl q)
  obtain ⟨ct, ci, r, hct, hci, hcl, hta⟩ : ∃ (ct ci : Nat) (r : vw_C), pe E h k = .inl (E.2.2.2.1 ct, n, .inr (.inr (.inr (.inr (fun i => (pR h k i).map (ph E)))))) ∧ (pK h x).1 = ci ∧ ci < 10 ∧ vwCl[ci]? = some r ∧ (tysE E)[ct]? = some (E.2.2.2.1 ct, .object r.1) ∧ (∀ h' : Hp, pK h' k = pK h k → pe E h' k = .inl (E.2.2.2.1 ct, n, .inr (.inr (.inr (.inr (fun i => (pR h' k i).map (ph E))))))) := by
    rcases ht with ⟨rfl, hc⟩ | ⟨rfl, hc⟩
    · exact ⟨3, 5, _, pe_t hK, hc, by omega, rfl, rfl, fun h' hh => pe_t (by rw [hh]; exact hK)⟩
    · exact ⟨4, 7, _, pe_w hK, hc, by omega, rfl, rfl, fun h' hh => pe_w (by rw [hh]; exact hK)⟩
  obtain ⟨hcr, htt, hpe⟩ := hta
  rw [hct] at hat
  rw [pe_o hci hcl] at hax
  obtain ⟨r', hr', cellV, g1, g2, g3, -⟩ := hax
  have hcls := ((cxK hC).1 ci r hcr).2
  obtain ⟨kA, comp, k1, k2, k3, -⟩ := ((cxK hC).2 ct _ htt).2
  have hcomp : comp = E.2.2.1.1 ci := Option.some.inj (k3.symm.trans hcls.1)
  subst hcomp
  obtain ⟨kC, hkC, -⟩ := hcls.2
  refine W.aast hC.1 hC.2.1 hat (fun q h => by cases h) (fun h => by cases h) k1 k2 rfl hkC ⟨hj0, by show _ < (arrV _ _ _).slots.size; rw [arrV_size]; exact hlt⟩ g1 (fun q h => by rw [g3] at h; cases h) (by rw [g2]; exact hkC) (by rw [g2]; exact va_assign hcls) rfl rfl hd fun H1 e1 z oq => ?_
  have hR' : Rl E (sR h k j.toNatClampNeg (some x)) H1 := by
    refine rl_upd hR h6 z oq ?_ rfl (fun _ => rfl) (fun b => rfl) (fun b hb => pe_congr rfl rfl (by funext a; rw [pR_sR, if_neg hb]) rfl)
    rw [hpe (sR h k j.toNatClampNeg (some x)) rfl]
    show H1[_]? = some (vp_cell _ _)
    rw [e1, vp_cell_q, vp_cell_q, arrV_store]
    congr 2
    funext q
    by_cases hq : q = j.toNatClampNeg
    · subst hq
      simp [updV, pR_sR, va_rf]
    · simp [updV, pR_sR, hq]
  exact kk E p l e R s m args below meth cc H1 _ n0 s0 ls Z hC hR' (hS.put z oq (ph_A h6)) h1 h2 h3 h4 h5 h6' h7 h8 hl hq
theorem pv_new {E : Ev} {n : Nat} {t : FieldType} (ht : t = .int ∨ t = .boolean ∨ t = .long ∨ isR t = true) : defaultValue t = pv E (nw h c n) (pn h) i t := by
  rcases ht with rfl | rfl | rfl | ht
  · simp [pv, pI_nw, defaultValue]
  · simp [pv, pI_nw, defaultValue]
  · simp [pv, pJ_nw, defaultValue]
  · rw [pv_R ht, pR_nw, if_pos rfl]
    cases t <;> first | rfl | cases ht
theorem tyC_ok : ∀ c, c < 10 → ∀ i, i < nC c → (tyC c i = .int ∨ tyC c i = .boolean ∨ tyC c i = .long ∨ isR (tyC c i) = true) := by decide +kernel
theorem z_new (hF : NL M.1.cls index c) (hd : decode M.2.1 pc = .ok (.new index, 3)) (hN : pn h + 1 ≤ N) (hSs : ps h + nC c ≤ S) (kk : T d N S M (pc + 3) lv (.ref (pn h) :: st) (nw h c (nC c)) Q) : T d N S M pc lv st h Q := by
  intro E p l e R s m args below meth cc H locs n0 s0 ls Z hC hR hS h1 h2 h3 h4 h5 h6' h7 h8 hl hq
  obtain ⟨C, T0, Nf, a1, a2, a3, a4, a5, a6, a7, a8⟩ := hF
  have hKn := (cxK hC).1 c _ a1
  refine W.newcK hC.1 hC.2.1 hC.2.2.2.1 (cxW hC a5) (cxW hC a6) (cxW hC a7) rfl hd (by rw [h5]; omega) (by rw [h6', a2]; omega) hKn.2.1 rfl fun H1 kC hkC e1 z1 o1 => ?_
  have hR' : Rl E (nw h c (nC c)) H1 := by
    refine rl_new hR z1 o1 ?_
    rw [pe_o (c := c) (by rw [pK_nw, if_pos rfl]) a3]
    refine ⟨_, a1, (u_born (tyC c) hC.2.2.2.2.1 a4 hKn hkC e1 a8).to (fun j hj => ?_)⟩
    have hj' : j < nC c := by rw [← a2]; exact hj
    simp only [vp_V]
    rw [pv_new (E := E) (h := h) (c := c) (n := nC c) (i := j) (tyC_ok c a3 j hj')]
    simp [hj']
  have := kk E p l e R s m args below meth cc H1 locs n0 s0 ls Z hC hR' (vaS_new hS z1 o1) (by rw [pn_nw]; omega) (by rw [pn_nw]; omega) (by rw [ps_nw]; omega) (by rw [ps_nw]; omega) h5 h6' h7 h8 hl hq
  rw [pn_nw, ps_nw, show pn h + 1 - n0 = pn h - n0 + 1 by omega, show ps h + nC c - s0 = ps h - s0 + nC c by omega, List.map_cons, show tv E (.ref (pn h)) = .ref H.size by show Value.ref (ph E (pn h)) = _; rw [ph_new hR]] at this
  rw [a2]
  exact this
theorem rl_cls {E : Ev} {s : State} (hK : va_K E.2.2.1 vwCl (tysE E) s) {t : Nat} {cA : ClassId} {ty : FieldType} (ht : (tysE E)[t]? = some (E.2.2.2.1 t, ty)) (hprim : ty = .int ∨ ty = .long ∨ ty = .boolean) (hf : s.vm.findClass ("[" ++ ty.toString) = some cA) : cA = E.2.2.2.1 t := by
  have h2 := (hK.2 t _ ht).2
  rcases hprim with rfl | rfl | rfl <;> exact Option.some.inj (hf.symm.trans h2)
theorem z_newI {n : Int32} {m0 : Nat} (hd : decode M.2.1 pc = .ok (.newarray .int, 2)) (hw : Cond.arrayClass .int ∈ TB) (hn : ¬ n < 0) (hm : n.toNatClampNeg = m0) (hb : m0 ≤ 100000) (hN : pn h + 1 ≤ N) (hSs : ps h + m0 ≤ S) (kk : T d N S M (pc + 2) lv (.ref (pn h) :: st) (nw h 10 m0) Q) : T d N S M pc lv (.int n :: st) h Q := by
  intro E p l e R s m args below meth cc H locs n0 s0 ls Z hC hR hS h1 h2 h3 h4 h5 h6' h7 h8 hl hq
  refine va_newaK (atype := .int) hC.1 hC.2.1 (cxW hC hw) rfl hd rfl hn hm (by show m0 * 4 ≤ _; omega) (by rw [h5]; omega) (by rw [h6']; omega) rfl fun H1 cA e1 z1 o1 hAr hNm => ?_
  have hcA := rl_cls (cxK hC) (t := 0) rfl (Or.inl rfl) hNm
  have hR' : Rl E (nw h 10 m0) H1 := by
    refine rl_new hR z1 o1 ?_
    rw [pe_i (n := m0) (by rw [pK_nw, if_pos rfl]), ← hcA, pI_nw, if_pos rfl]
    exact e1
  have := kk E p l e R s m args below meth cc H1 locs n0 s0 ls Z hC hR' (vaS_new hS z1 o1) (by rw [pn_nw]; omega) (by rw [pn_nw]; omega) (by rw [ps_nw]; omega) (by rw [ps_nw]; omega) h5 h6' h7 h8 hl hq
  rw [pn_nw, ps_nw, show pn h + 1 - n0 = pn h - n0 + 1 by omega, show ps h + m0 - s0 = ps h - s0 + m0 by omega, List.map_cons, show tv E (.ref (pn h)) = .ref H.size by show Value.ref (ph E (pn h)) = _; rw [ph_new hR]] at this
  exact this
theorem z_newJ {n : Int32} {m0 : Nat} (hd : decode M.2.1 pc = .ok (.newarray .long, 2)) (hw : Cond.arrayClass .long ∈ TB) (hn : ¬ n < 0) (hm : n.toNatClampNeg = m0) (hb : m0 ≤ 100000) (hN : pn h + 1 ≤ N) (hSs : ps h + m0 ≤ S) (kk : T d N S M (pc + 2) lv (.ref (pn h) :: st) (nw h 11 m0) Q) : T d N S M pc lv (.int n :: st) h Q := by
  intro E p l e R s m args below meth cc H locs n0 s0 ls Z hC hR hS h1 h2 h3 h4 h5 h6' h7 h8 hl hq
  refine va_newaK (atype := .long) hC.1 hC.2.1 (cxW hC hw) rfl hd rfl hn hm (by show m0 * 8 ≤ _; omega) (by rw [h5]; omega) (by rw [h6']; omega) rfl fun H1 cA e1 z1 o1 hAr hNm => ?_
  have hcA := rl_cls (cxK hC) (t := 1) rfl (Or.inr (Or.inl rfl)) hNm
  have hR' : Rl E (nw h 11 m0) H1 := by
    refine rl_new hR z1 o1 ?_
    rw [pe_l (n := m0) (by rw [pK_nw, if_pos rfl]), ← hcA, pJ_nw, if_pos rfl]
    exact e1
  have := kk E p l e R s m args below meth cc H1 locs n0 s0 ls Z hC hR' (vaS_new hS z1 o1) (by rw [pn_nw]; omega) (by rw [pn_nw]; omega) (by rw [ps_nw]; omega) (by rw [ps_nw]; omega) h5 h6' h7 h8 hl hq
  rw [pn_nw, ps_nw, show pn h + 1 - n0 = pn h - n0 + 1 by omega, show ps h + m0 - s0 = ps h - s0 + m0 by omega, List.map_cons, show tv E (.ref (pn h)) = .ref H.size by show Value.ref (ph E (pn h)) = _; rw [ph_new hR]] at this
  exact this
theorem z_newZ {n : Int32} {m0 : Nat} (hd : decode M.2.1 pc = .ok (.newarray .boolean, 2)) (hw : Cond.arrayClass .boolean ∈ TB) (hn : ¬ n < 0) (hm : n.toNatClampNeg = m0) (hb : m0 ≤ 100000) (hN : pn h + 1 ≤ N) (hSs : ps h + m0 ≤ S) (kk : T d N S M (pc + 2) lv (.ref (pn h) :: st) (nw h 12 m0) Q) : T d N S M pc lv (.int n :: st) h Q := by
  intro E p l e R s m args below meth cc H locs n0 s0 ls Z hC hR hS h1 h2 h3 h4 h5 h6' h7 h8 hl hq
  refine va_newaK (atype := .boolean) hC.1 hC.2.1 (cxW hC hw) rfl hd rfl hn hm (by show m0 * 1 ≤ _; omega) (by rw [h5]; omega) (by rw [h6']; omega) rfl fun H1 cA e1 z1 o1 hAr hNm => ?_
  have hcA := rl_cls (cxK hC) (t := 2) rfl (Or.inr (Or.inr rfl)) hNm
  have hR' : Rl E (nw h 12 m0) H1 := by
    refine rl_new hR z1 o1 ?_
    rw [pe_z (n := m0) (by rw [pK_nw, if_pos rfl]), ← hcA, pI_nw, if_pos rfl]
    exact e1
  have := kk E p l e R s m args below meth cc H1 locs n0 s0 ls Z hC hR' (vaS_new hS z1 o1) (by rw [pn_nw]; omega) (by rw [pn_nw]; omega) (by rw [ps_nw]; omega) (by rw [ps_nw]; omega) h5 h6' h7 h8 hl hq
  rw [pn_nw, ps_nw, show pn h + 1 - n0 = pn h - n0 + 1 by omega, show ps h + m0 - s0 = ps h - s0 + m0 by omega, List.map_cons, show tv E (.ref (pn h)) = .ref H.size by show Value.ref (ph E (pn h)) = _; rw [ph_new hR]] at this
  exact this
/-- an array of references: t 13 of Texts, 14 of Worlds -/
theorem z_newA {n : Int32} {t m0 : Nat} {C : String} (hd : decode M.2.1 pc = .ok (.anewarray index, 3)) (ht : (t = 13 ∧ C = RX5) ∨ (t = 14 ∧ C = RX7)) (hl0 : Cond.classLink M.1.cls index C ∈ TB) (hw : Cond.arrayOver (.object C) ∈ TB) (hn : ¬ n < 0) (hm : n.toNatClampNeg = m0) (hb : m0 ≤ 100000) (hN : pn h + 1 ≤ N) (hSs : ps h + m0 ≤ S) (kk : T d N S M (pc + 3) lv (.ref (pn h) :: st) (nw h t m0) Q) : T d N S M pc lv (.int n :: st) h Q := by
  intro E p l e R s m args below meth cc H locs n0 s0 ls Z hC hR hS h1 h2 h3 h4 h5 h6' h7 h8 hl hq
  subst hm
  refine W.anew hC.1 hC.2.1 hC.2.2.2.1 (cxW hC hl0) (cxW hC hw) rfl hd rfl hn (by omega) (by rw [h5]; omega) (by rw [h6']; omega) fun cA kA comp f1 f2 f3 f4 => ?_
  generalize hH1 : H.push ({ cls := cA, slots := Array.replicate n.toNatClampNeg .null, vm := .none } : Cell) = H1
  have z1 : H1.size = H.size + 1 := by rw [← hH1, Array.size_push]
  have e1 : H1[H.size]? = some (arrV cA n.toNatClampNeg (fun _ => .null)) := by rw [← hH1, Array.getElem?_push_size, ← arrV_new]
  have o1 : ∀ q : Nat, q < H.size → H1[q]? = H[q]? := fun q hq => by rw [← hH1, Array.getElem?_push, if_neg (Nat.ne_of_lt hq)]
  have hR' : Rl E (nw h t n.toNatClampNeg) H1 := by
    refine rl_new hR z1 o1 ?_
    rcases ht with ⟨rfl, rfl⟩ | ⟨rfl, rfl⟩
    · obtain ⟨kA', comp', -, -, -, b4⟩ := ((cxK hC).2 3 _ rfl).2
      have hcA : cA = E.2.2.2.1 3 := Option.some.inj (f1.symm.trans b4)
      rw [pe_t (n := n.toNatClampNeg) (by rw [pK_nw, if_pos rfl]), ← hcA, pR_nw, if_pos rfl]
      show H1[H.size]? = some (vp_cell _ _)
      rw [vp_cell_q]
      exact e1
    · obtain ⟨kA', comp', -, -, -, b4⟩ := ((cxK hC).2 4 _ rfl).2
      have hcA : cA = E.2.2.2.1 4 := Option.some.inj (f1.symm.trans b4)
      rw [pe_w (n := n.toNatClampNeg) (by rw [pK_nw, if_pos rfl]), ← hcA, pR_nw, if_pos rfl]
      show H1[H.size]? = some (vp_cell _ _)
      rw [vp_cell_q]
      exact e1
  have := kk E p l e R s m args below meth cc H1 locs n0 s0 ls Z hC hR' (vaS_new hS z1 o1) (by rw [pn_nw]; omega) (by rw [pn_nw]; omega) (by rw [ps_nw]; omega) (by rw [ps_nw]; omega) h5 h6' h7 h8 hl hq
  rw [pn_nw, ps_nw, show pn h + 1 - n0 = pn h - n0 + 1 by omega, show ps h + n.toNatClampNeg - s0 = ps h - s0 + n.toNatClampNeg by omega, List.map_cons, show tv E (.ref (pn h)) = .ref H.size by show Value.ref (ph E (pn h)) = _; rw [ph_new hR]] at this
  exact this
end HEAP3
