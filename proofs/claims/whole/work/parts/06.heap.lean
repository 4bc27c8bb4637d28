/-! the rules of T: fields -/
theorem cxK {E : Ev} {M : Mi} {p : Program} {s : State} {m : MethodId} {args : Array Value} {meth : Method} {c : Code} (h : Cx E M p s m args meth c) : va_K E.2.2.1 vwCl (tysE E) s := h.2.2.2.2.2.2.2.2.1
theorem cxO {E : Ev} {M : Mi} {p : Program} {s : State} {m : MethodId} {args : Array Value} {meth : Method} {c : Code} (h : Cx E M p s m args meth c) : Old E s s.heap := h.2.2.2.2.2.2.2.2.2.1
theorem cxB {E : Ev} {M : Mi} {p : Program} {s : State} {m : MethodId} {args : Array Value} {meth : Method} {c : Code} (h : Cx E M p s m args meth c) : E.1 ≤ s.heap.size := h.2.2.2.2.2.2.2.2.2.2
theorem cxW {E : Ev} {M : Mi} {p : Program} {s : State} {m : MethodId} {args : Array Value} {meth : Method} {c : Code} (h : Cx E M p s m args meth c) {w : Cond} (hw : w ∈ TB) : w.before args s = true := h.2.2.2.2.1 w hw
theorem pe_o {E : Ev} {h : Hp} {k c : Nat} (hK : (pK h k).1 = c) (hc : c < 10) : pe E h k = .inr (c, (List.range (nC c)).map (fun i => pv E h k i (tyC c i))) := by
  unfold pe
  rw [hK, if_pos hc]
theorem pe_i {E : Ev} {h : Hp} {k n : Nat} (hK : pK h k = (10, n)) : pe E h k = .inl (E.2.2.2.1 0, n, .inl (pI h k)) := by
  unfold pe
  rw [hK]
  rfl
theorem pe_l {E : Ev} {h : Hp} {k n : Nat} (hK : pK h k = (11, n)) : pe E h k = .inl (E.2.2.2.1 1, n, .inr (.inl (pJ h k))) := by
  unfold pe
  rw [hK]
  rfl
theorem pe_z {E : Ev} {h : Hp} {k n : Nat} (hK : pK h k = (12, n)) : pe E h k = .inl (E.2.2.2.1 2, n, .inl (pI h k)) := by
  unfold pe
  rw [hK]
  rfl
theorem pe_t {E : Ev} {h : Hp} {k n : Nat} (hK : pK h k = (13, n)) : pe E h k = .inl (E.2.2.2.1 3, n, .inr (.inr (.inr (.inr (fun i => (pR h k i).map (ph E)))))) := by
  unfold pe
  rw [hK]
  rfl
theorem pe_w {E : Ev} {h : Hp} {k n : Nat} (hK : pK h k = (14, n)) : pe E h k = .inl (E.2.2.2.1 4, n, .inr (.inr (.inr (.inr (fun i => (pR h k i).map (ph E)))))) := by
  unfold pe
  rw [hK]
  rfl
theorem va_P_one {D : va_G} {cl : List vw_C} {q : Nat × va_E} {H : Heap} (h : va_at D cl q H) : va_P D cl [q] H := by
  intro k x hx
  cases k with
  | zero => simp at hx; subst hx; exact h
  | succ k => simp at hx
theorem ph_inj {E : Ev} {a b : Nat} (ha : 8 ≤ a) (hb : 8 ≤ b) (h : ph E a = ph E b) : a = b := by
  unfold ph at h
  rw [if_neg (by omega), if_neg (by omega)] at h
  omega
theorem ph_A {E : Ev} {a : Nat} (ha : 8 ≤ a) : pA E (ph E a) := by
  unfold ph pA
  rw [if_neg (by omega)]
  omega
theorem ph_new {E : Ev} {h : Hp} {H : Heap} (hR : Rl E h H) : ph E (pn h) = H.size := by
  unfold ph
  rw [if_neg (by have := hR.1; omega), hR.2.1]
/-- one cell is written -/
theorem rl_upd {E : Ev} {h h' : Hp} {H H1 : Heap} {k : Nat} (hR : Rl E h H) (h6 : 8 ≤ k) (hz : H1.size = H.size) (oq : ∀ q, q ≠ ph E k → H1[q]? = H[q]?) (hat : va_at E.2.2.1 vwCl (ph E k, pe E h' k) H1) (hn : pn h' = pn h) (hK : ∀ j, pK h' j = pK h j) (hI : ∀ j, pI h' 1 j = pI h 1 j) (ho : ∀ j, j ≠ k → pe E h' j = pe E h j) : Rl E h' H1 := by
  obtain ⟨r1, r2, r3, r4, r5, r6, r7, r8, r9, r10, r11, r12⟩ := hR
  refine ⟨by rw [hn]; exact r1, by rw [hz, hn]; exact r2, fun j a b => ?_, by rw [hK]; exact r4, by rw [hK]; exact r5, fun j hj => by rw [hI]; exact r6 j hj, by rw [hK]; exact r7, by rw [hK]; exact r8, by rw [hK]; exact r9, by rw [hK]; exact r10, by rw [hK]; exact r11, by rw [hK]; exact r12⟩
  by_cases hj : j = k
  · subst hj; exact hat
  · rw [ho j hj]
    exact (r3 j a (by rw [← hn]; exact b)).kept (oq _ (fun q => hj (ph_inj a h6 q)))
section HEAP
variable {d N S : Nat} {M : Mi} {pc : Nat} {lv : List (Option Value)} {st : List Value} {h h' : Hp} {Q : Option Value → Hp → Prop} {k c i index : Nat}
theorem z_getG {v : Value} (hF : FL M.1.cls index c i) (hd : decode M.2.1 pc = .ok (.getfield index, 3)) (h6 : 8 ≤ k) (hk : k < pn h) (hK : (pK h k).1 = c) (hv : ∀ E, tv E v = pv E h k i (tyC c i)) (kk : T d N S M (pc + 3) lv (v :: st) h Q) : T d N S M pc lv (.ref k :: st) h Q := by
  intro E p l e R s m args below meth cc H locs n0 s0 ls Z hC hR hS h1 h2 h3 h4 h5 h6' h7 h8 hl hq
  obtain ⟨C, T0, Nf, ref, host, a1, a2, a3, a4, a5, a6, a7, a8, a9, -⟩ := hF
  have hat := hR.2.2.1 k h6 hk
  rw [pe_o hK a4] at hat
  have hP := va_P_one hat
  have hv0 : ((List.range (nC c)).map (fun i => pv E h k i (tyC c i)))[i]? = some (tv E v) := by
    rw [hv E]
    simp [← a3, a2]
  have kk := kk E p l e R s m args below meth cc H locs n0 s0 ls Z hC hR hS h1 h2 h3 h4 h5 h6' h7 h8 hl hq
  rcases a6 with a6 | a6
  · exact va_get hC.1 hC.2.1 hC.2.2.2.2.1 a5 hC.2.2.2.1 (cxK hC) hP 0 rfl a1 i a2 (cxW hC a6) (fun x hx => by rw [a7]; exact hx) hv0 hd kk
  · exact va_getN hC.1 hC.2.1 hC.2.2.2.2.1 a5 hC.2.2.2.1 (cxK hC) hP 0 rfl a1 i a2 (cxW hC a6) (fun x hx => by rw [a7]; exact hx) hv0 hd kk
theorem z_getI (hF : FL M.1.cls index c i) (hd : decode M.2.1 pc = .ok (.getfield index, 3)) (ht : tyC c i = .int ∨ tyC c i = .boolean) (h6 : 8 ≤ k) (hk : k < pn h) (hK : (pK h k).1 = c) (kk : T d N S M (pc + 3) lv (.int (pI h k i) :: st) h Q) : T d N S M pc lv (.ref k :: st) h Q :=
  z_getG hF hd h6 hk hK (fun E => by rcases ht with ht | ht <;> rw [ht] <;> rfl) kk
theorem z_getJ (hF : FL M.1.cls index c i) (hd : decode M.2.1 pc = .ok (.getfield index, 3)) (ht : tyC c i = .long) (h6 : 8 ≤ k) (hk : k < pn h) (hK : (pK h k).1 = c) (kk : T d N S M (pc + 3) lv (.long (pJ h k i) :: st) h Q) : T d N S M pc lv (.ref k :: st) h Q :=
  z_getG hF hd h6 hk hK (fun E => by rw [ht]; rfl) kk
/-- a type of references -/
def isR (t : FieldType) : Bool := match t with
  | .object _ => true
  | .array _ => true
  | _ => false
theorem pv_R {E : Ev} {t : FieldType} (ht : isR t = true) : pv E h k i t = va_rf ((pR h k i).map (ph E)) := by
  cases t <;> first | rfl | cases ht
theorem z_getR {x : Nat} (hF : FL M.1.cls index c i) (hd : decode M.2.1 pc = .ok (.getfield index, 3)) (ht : isR (tyC c i) = true) (h6 : 8 ≤ k) (hk : k < pn h) (hK : (pK h k).1 = c) (hx : pR h k i = some x) (kk : T d N S M (pc + 3) lv (.ref x :: st) h Q) : T d N S M pc lv (.ref k :: st) h Q :=
  z_getG hF hd h6 hk hK (fun E => by rw [pv_R ht, hx]; rfl) kk
theorem z_getN (hF : FL M.1.cls index c i) (hd : decode M.2.1 pc = .ok (.getfield index, 3)) (ht : isR (tyC c i) = true) (h6 : 8 ≤ k) (hk : k < pn h) (hK : (pK h k).1 = c) (hx : pR h k i = none) (kk : T d N S M (pc + 3) lv (.null :: st) h Q) : T d N S M pc lv (.ref k :: st) h Q :=
  z_getG hF hd h6 hk hK (fun E => by rw [pv_R ht, hx]; rfl) kk
theorem tv_fits {E : Ev} {t : FieldType} (v : Value) : fits t (tv E v) = fits t v := by cases v <;> first | rfl | (cases t <;> rfl)
theorem tv_narrow {E : Ev} {t : FieldType} {v : Value} (hn : narrow t v = v) : narrow t (tv E v) = tv E v := by
  cases v with
  | ref a => cases t <;> rfl
  | _ => exact hn
/-- a field is written; a final one in its constructor -/
theorem z_putG {v : Value} (hF : FL M.1.cls index c i) (hd : decode M.2.1 pc = .ok (.putfield index, 3)) (hfin : fin c i = false ∨ (M.1.name = "<init>" ∧ (vwCl[c]?).map (fun q => q.1) = some M.1.cls)) (h6 : 8 ≤ k) (hk : k < pn h) (hK : (pK h k).1 = c) (hn : narrow (tyC c i) v = v) (hfit : fits (tyC c i) v = true)
    (g1 : ∀ E, pe E h' k = .inr (c, ((List.range (nC c)).map (fun i => pv E h k i (tyC c i))).set i (tv E v))) (g2 : pn h' = pn h) (g3 : ps h' = ps h) (g4 : ∀ j, pK h' j = pK h j) (g5 : ∀ j, pI h' 1 j = pI h 1 j) (g6 : ∀ E j, j ≠ k → pe E h' j = pe E h j)
    (kk : T d N S M (pc + 3) lv st h' Q) : T d N S M pc lv (v :: .ref k :: st) h Q := by
  intro E p l e R s m args below meth cc H locs n0 s0 ls Z hC hR hS h1 h2 h3 h4 h5 h6' h7 h8 hl hq
  obtain ⟨C, T0, Nf, ref, host, a1, a2, a3, a4, a5, a6, a7, a8, a9, a10, a11⟩ := hF
  have hat := hR.2.2.1 k h6 hk
  rw [pe_o hK a4] at hat
  have hfc : fin c i = (T0 i).2.2.2 := by unfold fin; rw [a1]
  have hll : i < ((List.range (nC c)).map (fun i => pv E h k i (tyC c i))).length := by simp [← a3, a2]
  have hap := va_apart (own := M.1.cls) hC.2.2.2.2.1 a5 (tyC c) a8 a9 (cxK hC) a1
  obtain ⟨r, b1, cell, q1, q2, q3, q4⟩ := hat
  have hr : r = (C, T0, Nf) := Option.some.inj (b1.symm.trans a1)
  subst hr
  obtain ⟨hS1, hfc1, kC, hkC, hkind⟩ := (cxK hC).1 c _ a1
  obtain ⟨cf, kf, fi, f, hi, hsl⟩ := hS1 i a2
  have hlay := hC.2.2.2.2.1 _ (a5 _ (u_in_lay a2))
  have hst := (u_facts hfc1 hkC (u_lays hC.2.2.2.2.1 a5 a2) hi).1
  have hn' := tv_narrow (E := E) hn
  have hf' : fits (tyC c i) (tv E v) = true := by rw [tv_fits]; exact hfit
  have fine : ∀ H1 : Heap, H1[ph E k]? = some (cell.setSlot f.slot (tv E v)) → H1.size = H.size → (∀ q, q ≠ ph E k → H1[q]? = H[q]?) → W p l e R s m args below meth cc H1 (locs ++ [⟨ph E k, f.slot⟩]) (pn h - n0) (ps h - s0) Z (F0 m (pc + 3) ls (st.map (tv E))) := by
    intro H1 e1 e2 e3
    have hR' : Rl E h' H1 := by
      refine rl_upd hR h6 e2 e3 ?_ g2 g4 g5 (g6 E)
      rw [g1 E]
      rw [hsl] at e1
      exact ⟨_, a1, t_OB.to (V := updV (vp_V _) i (tv E v)) ⟨_, e1, q2, q3, t_set q4 hap a2 (tv E v)⟩ (fun j _ => vp_updV_set hll (tv E v) j)⟩
    have := kk E p l e R s m args below meth cc H1 (locs ++ [⟨ph E k, f.slot⟩]) n0 s0 ls Z hC hR' (hS.put e2 e3 (ph_A h6)) (by rw [g2]; exact h1) (by rw [g2]; exact h2) (by rw [g3]; exact h3) (by rw [g3]; exact h4) h5 h6' h7 h8 hl hq
    rw [g2, g3] at this
    exact this
  cases hfv : (T0 i).2.2.2 with
  | false =>
    unfold u_lay at hlay
    rw [if_neg (by rw [hfv]; decide)] at hlay
    have h6s := u_store hfc1 hkC hkind hlay hi (a8 i a2) hn' hf'
    rcases a6 with a6 | a6
    · exact W.putK hC.1 hC.2.1 (f := f) ⟨hC.2.2.2.1, cxW hC a6, ⟨_, _, _, by rw [a7]; exact hi⟩, hst⟩ (by rw [q2]; exact h6s) q1 q3 (by rw [hsl]; exact k2_hasslot (q4 i a2)) rfl rfl hd fine
    · exact va_WputK hC.1 hC.2.1 (f := f) hC.2.2.2.1 (cxW hC a6) (by rw [a7]; exact hi) hst (by rw [q2]; exact h6s) q1 q3 (by rw [hsl]; exact k2_hasslot (q4 i a2)) rfl rfl hd fine
  | true =>
    unfold u_lay at hlay
    rw [if_pos hfv] at hlay
    obtain ⟨hnm, hcls⟩ : M.1.name = "<init>" ∧ (vwCl[c]?).map (fun q => q.1) = some M.1.cls := by
      rcases hfin with hf | hf
      · rw [hfc, hfv] at hf; cases hf
      · exact hf
    have hdecl : (T0 i).1 = M.1.cls := by
      rw [a1] at hcls
      rw [a11]
      exact Option.some.inj hcls
    have a6' := a10 hdecl
    have hin : meth.name = "<init>" := by
      rw [hC.2.2.2.2.2.2.2.1]; exact hnm
    have hcf : m.cls = cf := by
      obtain ⟨_, _, c', _, _, _, -, -, hf', -, -, -, hown2, -⟩ := Cond.laysFinal_spec hlay
      have e1 : c' = cf := by have := hi.symm.trans hf'; simp at this; exact this.1.symm
      rw [hdecl] at hown2
      rw [← e1]; exact Option.some.inj (hC.2.2.2.1.symm.trans hown2)
    have h6s := u_fits hfc1 hkC hkind (Or.inr hlay) hi (a8 i a2) hn' hf'
    exact W.putFinK hC.1 hC.2.1 hC.2.2.2.1 (cxW hC a6') (by rw [a7]; exact hi) hst hcf hin (by rw [q2]; exact h6s) q1 q3 (by rw [hsl]; exact k2_hasslot (q4 i a2)) rfl rfl hd fine
end HEAP
