/-! the typed heap: reading behind a write -/
theorem pI_sI {h : Hp} {k i a b : Nat} {v : Int32} : pI (sI h k i v) a b = if a = k then (if b = i then v else pI h k b) else pI h a b := by
  unfold pI sI p2
  by_cases ha : a = k <;> simp [ha]
theorem pI_sJ {h : Hp} {k i : Nat} {v : Int64} : pI (sJ h k i v) = pI h := rfl
theorem pI_sR {h : Hp} {k i : Nat} {v : Option Nat} : pI (sR h k i v) = pI h := rfl
theorem pJ_sI {h : Hp} {k i : Nat} {v : Int32} : pJ (sI h k i v) = pJ h := rfl
theorem pJ_sJ {h : Hp} {k i a b : Nat} {v : Int64} : pJ (sJ h k i v) a b = if a = k then (if b = i then v else pJ h k b) else pJ h a b := by
  unfold pJ sJ p2
  by_cases ha : a = k <;> simp [ha]
theorem pJ_sR {h : Hp} {k i : Nat} {v : Option Nat} : pJ (sR h k i v) = pJ h := rfl
theorem pR_sI {h : Hp} {k i : Nat} {v : Int32} : pR (sI h k i v) = pR h := rfl
theorem pR_sJ {h : Hp} {k i : Nat} {v : Int64} : pR (sJ h k i v) = pR h := rfl
theorem pR_sR {h : Hp} {k i a b : Nat} {v : Option Nat} : pR (sR h k i v) a b = if a = k then (if b = i then v else pR h k b) else pR h a b := by
  unfold pR sR p2
  by_cases ha : a = k <;> simp [ha]
theorem pK_sI {h : Hp} {k i : Nat} {v : Int32} : pK (sI h k i v) = pK h := rfl
theorem pK_sJ {h : Hp} {k i : Nat} {v : Int64} : pK (sJ h k i v) = pK h := rfl
theorem pK_sR {h : Hp} {k i : Nat} {v : Option Nat} : pK (sR h k i v) = pK h := rfl
theorem pn_sI {h : Hp} {k i : Nat} {v : Int32} : pn (sI h k i v) = pn h := rfl
theorem pn_sJ {h : Hp} {k i : Nat} {v : Int64} : pn (sJ h k i v) = pn h := rfl
theorem pn_sR {h : Hp} {k i : Nat} {v : Option Nat} : pn (sR h k i v) = pn h := rfl
theorem ps_sI {h : Hp} {k i : Nat} {v : Int32} : ps (sI h k i v) = ps h := rfl
theorem ps_sJ {h : Hp} {k i : Nat} {v : Int64} : ps (sJ h k i v) = ps h := rfl
theorem ps_sR {h : Hp} {k i : Nat} {v : Option Nat} : ps (sR h k i v) = ps h := rfl
theorem pI_sA {h : Hp} {k a : Nat} {f : Nat → Int32} : pI (sA h k f) a = if a = k then f else pI h a := by
  unfold pI sA
  by_cases ha : a = k <;> simp [ha]
theorem pJ_sA {h : Hp} {k : Nat} {f : Nat → Int32} : pJ (sA h k f) = pJ h := rfl
theorem pR_sA {h : Hp} {k : Nat} {f : Nat → Int32} : pR (sA h k f) = pR h := rfl
theorem pK_sA {h : Hp} {k : Nat} {f : Nat → Int32} : pK (sA h k f) = pK h := rfl
theorem pn_sA {h : Hp} {k : Nat} {f : Nat → Int32} : pn (sA h k f) = pn h := rfl
theorem ps_sA {h : Hp} {k : Nat} {f : Nat → Int32} : ps (sA h k f) = ps h := rfl
theorem pI_nw {h : Hp} {c n a : Nat} : pI (nw h c n) a = if a = pn h then (fun _ => 0) else pI h a := by
  unfold pI nw
  by_cases ha : a = pn h <;> simp [ha]
theorem pJ_nw {h : Hp} {c n a : Nat} : pJ (nw h c n) a = if a = pn h then (fun _ => 0) else pJ h a := by
  unfold pJ nw
  by_cases ha : a = pn h <;> simp [ha]
theorem pR_nw {h : Hp} {c n a : Nat} : pR (nw h c n) a = if a = pn h then (fun _ => none) else pR h a := by
  unfold pR nw
  by_cases ha : a = pn h <;> simp [ha]
theorem pK_nw {h : Hp} {c n a : Nat} : pK (nw h c n) a = if a = pn h then (c, n) else pK h a := by
  unfold pK nw
  by_cases ha : a = pn h <;> simp [ha]
theorem pn_nw {h : Hp} {c n : Nat} : pn (nw h c n) = pn h + 1 := rfl
theorem ps_nw {h : Hp} {c n : Nat} : ps (nw h c n) = ps h + n := rfl
theorem pe_congr {E : Ev} {h h' : Hp} {j : Nat} (a1 : pI h' j = pI h j) (a2 : pJ h' j = pJ h j) (a3 : pR h' j = pR h j) (a4 : pK h' j = pK h j) : pe E h' j = pe E h j := by
  have hp : ∀ i t, pv E h' j i t = pv E h j i t := by
    intro i t
    have b1 : pI h' j i = pI h j i := congrFun a1 i
    have b2 : pJ h' j i = pJ h j i := congrFun a2 i
    have b3 : pR h' j i = pR h j i := congrFun a3 i
    unfold pv
    rw [b1, b2, b3]
  unfold pe
  rw [a4, a1, a2, a3]
  simp only [hp]
theorem pe_put {E : Ev} {h h' : Hp} {k c i : Nat} {w : Value} (hK : (pK h k).1 = c) (hc : c < 10) (hKe : pK h' k = pK h k) (hi : i < nC c) (h1 : pv E h' k i (tyC c i) = w) (h2 : ∀ j, j ≠ i → pv E h' k j (tyC c j) = pv E h k j (tyC c j)) : pe E h' k = .inr (c, ((List.range (nC c)).map (fun i => pv E h k i (tyC c i))).set i w) := by
  rw [pe_o (by rw [hKe]; exact hK) hc]
  congr 2
  apply List.ext_getElem?
  intro j
  rw [List.getElem?_set]
  by_cases hj : i = j
  · subst hj
    simp [hi, h1]
  · rw [if_neg hj]
    by_cases hlt : j < nC c
    · simp [hlt, h2 j (Ne.symm hj)]
    · simp [hlt]
section HEAP2
variable {d N S : Nat} {M : Mi} {pc : Nat} {lv : List (Option Value)} {st : List Value} {h h' : Hp} {Q : Option Value → Hp → Prop} {k c i index : Nat}
theorem FL.lt {own : String} (hF : FL own index c i) : i < nC c ∧ c < 10 := by
  obtain ⟨C, T0, Nf, ref, host, a1, a2, a3, a4, -⟩ := hF
  exact ⟨by rw [← a3]; exact a2, a4⟩
theorem z_putI {v : Int32} (hF : FL M.1.cls index c i) (hd : decode M.2.1 pc = .ok (.putfield index, 3)) (hfin : fin c i = false ∨ (M.1.name = "<init>" ∧ (vwCl[c]?).map (fun q => q.1) = some M.1.cls)) (ht : tyC c i = .int ∨ (tyC c i = .boolean ∧ (v = 0 ∨ v = 1))) (h6 : 8 ≤ k) (hk : k < pn h) (hK : (pK h k).1 = c) (kk : T d N S M (pc + 3) lv st (sI h k i v) Q) : T d N S M pc lv (.int v :: .ref k :: st) h Q := by
  refine z_putG (h' := sI h k i v) hF hd hfin h6 hk hK ?_ ?_ (fun E => ?_) rfl rfl (fun j => rfl) (fun j => ?_) (fun E j hj => ?_) kk
  · rcases ht with ht | ⟨ht, hv | hv⟩
    · rw [ht]; rfl
    · rw [ht, hv]; decide
    · rw [ht, hv]; decide
  · rcases ht with ht | ⟨ht, hv | hv⟩
    · rw [ht]; rfl
    · rw [ht, hv]; decide
    · rw [ht, hv]; decide
  · refine pe_put hK hF.lt.2 rfl hF.lt.1 ?_ (fun j hj => ?_)
    · rcases ht with ht | ⟨ht, -⟩ <;> rw [ht] <;> simp [pv, pI_sI, tv]
    · unfold pv
      rw [pI_sI, pJ_sI, pR_sI]
      simp [hj]
  · rw [pI_sI, if_neg (by omega)]
  · refine pe_congr ?_ rfl rfl rfl
    funext b
    rw [pI_sI, if_neg hj]
theorem z_putJ {v : Int64} (hF : FL M.1.cls index c i) (hd : decode M.2.1 pc = .ok (.putfield index, 3)) (hfin : fin c i = false ∨ (M.1.name = "<init>" ∧ (vwCl[c]?).map (fun q => q.1) = some M.1.cls)) (ht : tyC c i = .long) (h6 : 8 ≤ k) (hk : k < pn h) (hK : (pK h k).1 = c) (kk : T d N S M (pc + 3) lv st (sJ h k i v) Q) : T d N S M pc lv (.long v :: .ref k :: st) h Q := by
  refine z_putG (h' := sJ h k i v) hF hd hfin h6 hk hK (by rw [ht]; rfl) (by rw [ht]; rfl) (fun E => ?_) rfl rfl (fun j => rfl) (fun j => rfl) (fun E j hj => ?_) kk
  · refine pe_put hK hF.lt.2 rfl hF.lt.1 ?_ (fun j hj => ?_)
    · rw [ht]; simp [pv, pJ_sJ, tv]
    · unfold pv
      rw [pI_sJ, pJ_sJ, pR_sJ]
      simp [hj]
  · refine pe_congr rfl ?_ rfl rfl
    funext b
    rw [pJ_sJ, if_neg hj]
theorem z_putQ {x : Option Nat} (hF : FL M.1.cls index c i) (hd : decode M.2.1 pc = .ok (.putfield index, 3)) (hfin : fin c i = false ∨ (M.1.name = "<init>" ∧ (vwCl[c]?).map (fun q => q.1) = some M.1.cls)) (ht : isR (tyC c i) = true) (h6 : 8 ≤ k) (hk : k < pn h) (hK : (pK h k).1 = c) (kk : T d N S M (pc + 3) lv st (sR h k i x) Q) : T d N S M pc lv (va_rf x :: .ref k :: st) h Q := by
  refine z_putG (h' := sR h k i x) hF hd hfin h6 hk hK ?_ ?_ (fun E => ?_) rfl rfl (fun j => rfl) (fun j => rfl) (fun E j hj => ?_) kk
  · revert ht; cases tyC c i <;> intro ht <;> first | cases ht; done | (cases x <;> rfl)
  · revert ht; cases tyC c i <;> intro ht <;> first | cases ht; done | (cases x <;> rfl)
  · refine pe_put hK hF.lt.2 rfl hF.lt.1 ?_ (fun j hj => ?_)
    · rw [pv_R ht, pR_sR, if_pos rfl, if_pos rfl]
      cases x <;> rfl
    · unfold pv
      rw [pI_sR, pJ_sR, pR_sR]
      simp [hj]
  · refine pe_congr rfl rfl ?_ rfl
    funext b
    rw [pR_sR, if_neg hj]
theorem z_putR {x : Nat} (hF : FL M.1.cls index c i) (hd : decode M.2.1 pc = .ok (.putfield index, 3)) (hfin : fin c i = false ∨ (M.1.name = "<init>" ∧ (vwCl[c]?).map (fun q => q.1) = some M.1.cls)) (ht : isR (tyC c i) = true) (h6 : 8 ≤ k) (hk : k < pn h) (hK : (pK h k).1 = c) (kk : T d N S M (pc + 3) lv st (sR h k i (some x)) Q) : T d N S M pc lv (.ref x :: .ref k :: st) h Q := z_putQ (x := some x) hF hd hfin ht h6 hk hK kk
/-- arrays: reading -/
theorem z_iald {n : Nat} {j : Int32} (hd : decode M.2.1 pc = .ok (.iaload, 1)) (hk : k < pn h) (hK : pK h k = (10, n)) (hj : vp_in j n) (kk : T d N S M (pc + 1) lv (.int (pI h k j.toNatClampNeg) :: st) h Q) : T d N S M pc lv (.int j :: .ref k :: st) h Q := by
  intro E p l e R s m args below meth cc H locs n0 s0 ls Z hC hR hS h1 h2 h3 h4 h5 h6' h7 h8 hl hq
  have kk := kk E p l e R s m args below meth cc H locs n0 s0 ls Z hC hR hS h1 h2 h3 h4 h5 h6' h7 h8 hl hq
  by_cases h6 : 8 ≤ k
  · have hat := hR.2.2.1 k h6 hk
    rw [pe_i hK] at hat
    exact va_iald hC.1 hC.2.1 (cxK hC) (va_P_one hat) 0 0 rfl rfl hj hd kk
  · obtain ⟨r1, r2, r3, r4, r5, r6, r7, r8, r9, r10, r11, r12⟩ := hR
    have hjn : j.toNatClampNeg < n := Nat.not_le.mp fun q => hj (Or.inr q)
    have hk1 : k = 1 := by
      rcases (show k = 0 ∨ k = 1 ∨ k = 2 ∨ k = 3 ∨ k = 4 ∨ k = 5 ∨ k = 6 ∨ k = 7 by omega) with q | q | q | q | q | q | q | q
      · subst q; rw [r4] at hK; cases hK; omega
      · exact q
      · subst q; rw [r7] at hK; cases hK
      · subst q; rw [r8] at hK; cases hK
      · subst q; rw [r9] at hK; cases hK
      · subst q; rw [r10] at hK; cases hK
      · subst q; rw [r11] at hK; cases hK
      · subst q; rw [r12] at hK; cases hK
    subst hk1
    rw [r5] at hK
    have hn : n = E.2.2.2.2.1 := by cases hK; rfl
    subst hn
    obtain ⟨o1, -, -, o4, -⟩ := cxO hC
    have hb := cxB hC
    have ho := o1 1 (by omega)
    rw [r6 _ hjn] at kk
    exact va_sld hC.1 hC.2.1 o4 (by omega) (by unfold pA; omega) hS hj hd kk
theorem z_lald {n : Nat} {j : Int32} (hd : decode M.2.1 pc = .ok (.laload, 1)) (h6 : 8 ≤ k) (hk : k < pn h) (hK : pK h k = (11, n)) (hj : vp_in j n) (kk : T d N S M (pc + 1) lv (.long (pJ h k j.toNatClampNeg) :: st) h Q) : T d N S M pc lv (.int j :: .ref k :: st) h Q := by
  intro E p l e R s m args below meth cc H locs n0 s0 ls Z hC hR hS h1 h2 h3 h4 h5 h6' h7 h8 hl hq
  have hat := hR.2.2.1 k h6 hk
  rw [pe_l hK] at hat
  exact va_lald hC.1 hC.2.1 (cxK hC) (va_P_one hat) 0 1 rfl rfl hj hd (kk E p l e R s m args below meth cc H locs n0 s0 ls Z hC hR hS h1 h2 h3 h4 h5 h6' h7 h8 hl hq)
theorem z_zald {n : Nat} {j : Int32} (hd : decode M.2.1 pc = .ok (.baload, 1)) (h6 : 8 ≤ k) (hk : k < pn h) (hK : pK h k = (12, n)) (hj : vp_in j n) (kk : T d N S M (pc + 1) lv (.int (pI h k j.toNatClampNeg) :: st) h Q) : T d N S M pc lv (.int j :: .ref k :: st) h Q := by
  intro E p l e R s m args below meth cc H locs n0 s0 ls Z hC hR hS h1 h2 h3 h4 h5 h6' h7 h8 hl hq
  have hat := hR.2.2.1 k h6 hk
  rw [pe_z hK] at hat
  exact va_zald hC.1 hC.2.1 (cxK hC) (va_P_one hat) 0 2 rfl rfl hj hd (kk E p l e R s m args below meth cc H locs n0 s0 ls Z hC hR hS h1 h2 h3 h4 h5 h6' h7 h8 hl hq)
theorem z_aaldQ {n : Nat} {j : Int32} (hd : decode M.2.1 pc = .ok (.aaload, 1)) (h6 : 8 ≤ k) (hk : k < pn h) (hK : pK h k = (13, n) ∨ pK h k = (14, n)) (hj : vp_in j n) (kk : T d N S M (pc + 1) lv (va_rf (pR h k j.toNatClampNeg) :: st) h Q) : T d N S M pc lv (.int j :: .ref k :: st) h Q := by
  intro E p l e R s m args below meth cc H locs n0 s0 ls Z hC hR hS h1 h2 h3 h4 h5 h6' h7 h8 hl hq
  have hat := hR.2.2.1 k h6 hk
  have kk := kk E p l e R s m args below meth cc H locs n0 s0 ls Z hC hR hS h1 h2 h3 h4 h5 h6' h7 h8 hl hq
  have hv : tv E (va_rf (pR h k j.toNatClampNeg)) = va_rf ((pR h k j.toNatClampNeg).map (ph E)) := by cases pR h k j.toNatClampNeg <;> rfl
  rw [List.map_cons, hv] at kk
  rcases hK with hK | hK
  · rw [pe_t hK] at hat
    exact va_aldq hC.1 hC.2.1 (cxK hC) (va_P_one hat) 0 3 rfl rfl hj hd kk
  · rw [pe_w hK] at hat
    exact va_aldq hC.1 hC.2.1 (cxK hC) (va_P_one hat) 0 4 rfl rfl hj hd kk
theorem z_aald {n x : Nat} {j : Int32} (hd : decode M.2.1 pc = .ok (.aaload, 1)) (h6 : 8 ≤ k) (hk : k < pn h) (hK : pK h k = (13, n) ∨ pK h k = (14, n)) (hj : vp_in j n) (hx : pR h k j.toNatClampNeg = some x) (kk : T d N S M (pc + 1) lv (.ref x :: st) h Q) : T d N S M pc lv (.int j :: .ref k :: st) h Q :=
  z_aaldQ hd h6 hk hK hj (by rw [hx]; exact kk)
/-- arrays: their length -/
theorem z_alen {t n : Nat} {v : Int32} (hd : decode M.2.1 pc = .ok (.arraylength, 1)) (hk : k < pn h) (hK : pK h k = (t, n)) (ht : 10 ≤ t ∧ t < 15) (hv : Int32.ofNat n = v) (kk : T d N S M (pc + 1) lv (.int v :: st) h Q) : T d N S M pc lv (.ref k :: st) h Q := by
  intro E p l e R s m args below meth cc H locs n0 s0 ls Z hC hR hS h1 h2 h3 h4 h5 h6' h7 h8 hl hq
  have kk := kk E p l e R s m args below meth cc H locs n0 s0 ls Z hC hR hS h1 h2 h3 h4 h5 h6' h7 h8 hl hq
  by_cases h6 : 8 ≤ k
  · have hat := hR.2.2.1 k h6 hk
    rcases (show t = 10 ∨ t = 11 ∨ t = 12 ∨ t = 13 ∨ t = 14 by omega) with q | q | q | q | q <;> subst q
    · rw [pe_i hK] at hat
      exact va_alen hC.1 hC.2.1 (cxK hC) (va_P_one hat) 0 0 rfl rfl hv hd kk
    · rw [pe_l hK] at hat
      exact va_alen hC.1 hC.2.1 (cxK hC) (va_P_one hat) 0 1 rfl rfl hv hd kk
    · rw [pe_z hK] at hat
      exact va_alen hC.1 hC.2.1 (cxK hC) (va_P_one hat) 0 2 rfl rfl hv hd kk
    · rw [pe_t hK] at hat
      exact va_alen hC.1 hC.2.1 (cxK hC) (va_P_one hat) 0 3 rfl rfl hv hd kk
    · rw [pe_w hK] at hat
      exact va_alen hC.1 hC.2.1 (cxK hC) (va_P_one hat) 0 4 rfl rfl hv hd kk
  · obtain ⟨r1, r2, r3, r4, r5, r6, r7, r8, r9, r10, r11, r12⟩ := hR
    obtain ⟨o1, -, o3, o4, -⟩ := cxO hC
    have hb := cxB hC
    rcases (show k = 0 ∨ k = 1 ∨ k = 2 ∨ k = 3 ∨ k = 4 ∨ k = 5 ∨ k = 6 ∨ k = 7 by omega) with q | q | q | q | q | q | q | q
    · subst q; rw [r4] at hK; cases hK
      obtain ⟨cell, b1, b2, b3, b4, b5, b6, b7⟩ := o3
      have ho := o1 0 (by omega)
      exact W.alen hC.1 hC.2.1 (by rw [hS.2.1 _ (by show E.2.1 0 < _; omega) (by unfold pA; show ¬ E.1 ≤ E.2.1 0; omega)]; exact b1) b2 (by rw [b5]; exact hv) rfl rfl hd kk
    · subst q; rw [r5] at hK; cases hK
      obtain ⟨scr, b1, b2, b3, b4, b5⟩ := o4
      have ho := o1 1 (by omega)
      exact W.alen hC.1 hC.2.1 (by rw [hS.2.1 _ (by show E.2.1 1 < _; omega) (by unfold pA; show ¬ E.1 ≤ E.2.1 1; omega)]; exact b1) b2 (by rw [b4]; exact hv) rfl rfl hd kk
    · subst q; rw [r7] at hK; cases hK; omega
    · subst q; rw [r8] at hK; cases hK; omega
    · subst q; rw [r9] at hK; cases hK; omega
    · subst q; rw [r10] at hK; cases hK; omega
    · subst q; rw [r11] at hK; cases hK; omega
    · subst q; rw [r12] at hK; cases hK; omega
end HEAP2
