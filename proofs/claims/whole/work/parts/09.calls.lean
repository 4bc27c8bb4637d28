/-! the rules of T: calls -/
theorem mv_word {w : Cond} {s U : State} {args a' : Array Value} (hw : w ∈ TB) (h : w.before args s = true) (hW : s.WarmedH U.vm) : w.before a' U = true := by
  have hm := (List.mem_filter.mp hw).2
  unfold mvb at hm
  rw [Bool.or_eq_true] at hm
  rcases hm with hm | hm
  · exact word_at hW (good_of_word hm) h
  · cases w with
    | fieldLinkNest a i b n dd hh => exact va_Nw.use rfl (va_Nw.warmF hW (va_Nw.of rfl h))
    | methodLinkNest a i x hh => exact va_Nw.use rfl (va_Nw.warmM hW (va_Nw.of rfl h))
    | castable a b => exact va_Nw.use rfl (va_Nw.warmC hW (va_Nw.of rfl h))
    | arrayOver t =>
      cases t with
      | object C => exact va_AO.use (va_AO.moved hW.alike (va_AO.of h))
      | _ => cases hm
    | _ => cases hm
theorem old_move {E : Ev} {s U : State} {H : Heap} {locs : List Loc} (hO : Old E s s.heap) (hS : va_S (pA E) s.heap H locs) (hb : E.1 ≤ s.heap.size) (hU : U.heap = H) (hWm : s.WarmedH U.vm) : Old E U U.heap := by
  obtain ⟨o1, o2, o3, o4, o5, o6, o7, o8, o9⟩ := hO
  have hW := hWm.alike
  have hq : ∀ a : Nat, a < s.heap.size → ¬ pA E a → U.heap[a]? = s.heap[a]? := fun a h1 h2 => by rw [hU]; exact hS.2.1 a h1 h2
  refine ⟨o1, (o2.kept hq).moved hW, (o3.kept hq).moved hW, (o4.kept ?_).moved hW, o5.warm hWm, o6.warm hWm, (o7.kept hq).moved hW, (o8.kept hq).moved hW, ?_⟩
  · have := o1 1 (by omega)
    exact hq _ (by omega) (by unfold pA; omega)
  · exact o9.imp (fun z => (z.kept hq).moved hW) (fun z => (z.kept hq).moved hW)
def la : List Value → List (Option Value)
  | [] => []
  | v :: r => if v.category = 2 then some v :: none :: la r else some v :: la r
theorem la_args {E : Ev} : ∀ (as : List Value) (k : Nat), lpF E k (la as) = lv_args k (as.map (tv E)) := by
  intro as
  induction as with
  | nil => intro k; rfl
  | cons v r ih =>
    intro k
    simp only [la, List.map_cons, lv_args, tv_cat]
    by_cases hv : v.category = 2
    · rw [if_pos hv, if_pos hv]
      simp only [lpF]
      rw [ih]
    · rw [if_neg hv, if_neg hv]
      simp only [lpF]
      rw [ih]
/-- the locals at a method's entry, all places -/
def lap (M : Mi) (as : List Value) : List (Option Value) := la as ++ List.replicate (M.2.2.1 - (la as).length) none
theorem lpF_pad {E : Ev} (m : Nat) : ∀ (l : List (Option Value)) (k : Nat), lpF E k (l ++ List.replicate m none) = lpF E k l := by
  intro l
  induction l with
  | nil =>
    intro k
    rw [List.nil_append]
    induction m generalizing k with
    | zero => rfl
    | succ m ih => rw [List.replicate_succ]; simp only [lpF]; exact ih (k + 1)
  | cons a r ih =>
    intro k
    cases a with
    | none => simp only [List.cons_append, lpF]; exact ih (k + 1)
    | some v => simp only [List.cons_append, lpF]; rw [ih (k + 1)]
def rok (ret : Option FieldType) (r : Option Value) : Prop := match r with
  | none => ret = none
  | some (.int v) => ∃ ty, ret = some ty ∧ narrow ty (.int v) = .int v
  | some (.long _) => ret = some .long
  | some (.ref _) => ∃ rt, ret = some rt ∧ isR rt = true
  | some .null => ∃ rt, ret = some rt ∧ isR rt = true
  | _ => False
def WS (M : Mi) : List Cond := Cond.code M.1 M.2.1 M.2.2.1 M.2.2.2 :: TB
def rmT (d N S : Nat) (h : Hp) : Room := { frames := d, cells := N - pn h, slots := S - ps h, locals := 48 * d }
def PcT (E : Ev) (as : List Value) (h : Hp) : Array Value → State → Prop := fun a U => a = (as.map (tv E)).toArray ∧ Rl E h U.heap ∧ va_K E.2.2.1 vwCl (tysE E) U ∧ Old E U U.heap ∧ E.1 ≤ U.heap.size
def QcT (E : Ev) (N S : Nat) (Q : Option Value → Hp → Prop) : Array Value → State → Outcome → State → Prop := fun _ st o t => (∃ (r : Option Value) (h' : Hp), Q r h' ∧ o = .returned (r.map (tv E)) ∧ Rl E h' t.heap) ∧ va_F (pA E) st t
theorem isR_or {rt : FieldType} (h : isR rt = true) : (∃ n, rt = .object n) ∨ ∃ t, rt = .array t := by
  cases rt <;> first | exact Or.inl ⟨_, rfl⟩ | exact Or.inr ⟨_, rfl⟩ | cases h
theorem met_T {d N S : Nat} {M : Mi} {as : List Value} {h : Hp} {Q : Option Value → Hp → Prop} (l : Launch) (E : Ev) (hpl : plainName M.1.cls = true) (hlen : (lg_sl (as.map (tv E))).length ≤ M.2.2.1) (hT : T d N S M 0 (lap M as) [] h Q) (hN : pn h ≤ N) (hSs : ps h ≤ S) (hok : ∀ r h', Q r h' → rok M.2.2.2 r) :
    Met l M.1 (WS M) (rmT d N S h) (PcT E as h) (QcT E N S Q) (N - pn h) (S - ps h) (pA E) := by
  refine Met.ofW (cc := M.2.1) (maxL := M.2.2.1) (ret := M.2.2.2) hpl rfl ?_
  intro p e s m args below meth c s₁ B hml hv
  obtain ⟨rfl, hR, hK, hO, hb⟩ := hv
  have hC : Cx E M p s m (as.map (tv E)).toArray meth c := ⟨B.exec, B.bytes, hml, findClass_of_methodNamed B.named, fun w hw => atoms_spec (ws := WS M) B.pre w (List.mem_cons_of_mem _ hw), B.returns, B.notSynchronized, (name_of_methodNamed B.named B.method).1, hK, hO, hb⟩
  have hl := lv_entry (as.map (tv E)) (n := M.2.2.1) hlen
  rw [lg_entry_eq]
  rw [← la_args as 0, ← lpF_pad (M.2.2.1 - (la as).length)] at hl
  have hlk := hC.2.2.2.2.2.2.1
  have := hT E p l e (headSpec (WS M) (rmT d N S h)).room s m (as.map (tv E)).toArray below meth c s.heap [] (pn h) (ps h) _ (MQ below (QcT E N S Q) (as.map (tv E)).toArray s (N - pn h) (S - ps h) (pA E)) hC hR va_S.rf (Nat.le_refl _) hN (Nat.le_refl _) hSs rfl rfl (Nat.le_refl _) (Nat.le_refl _) hl ?_
  · rw [Nat.sub_self, Nat.sub_self] at this
    exact this
  · intro r h' H' locs' pc' ls' hQ hR' hS' a1 a2 a3 a4 hd
    have hr := hok r h' hQ
    refine W.widen (k := N - pn h) (n := S - ps h) (by omega) (by omega) ?_
    have hq : ∀ t : State, t.heap = H' → s.WarmedH t.vm → QcT E N S Q (as.map (tv E)).toArray s (.returned (r.map (tv E))) t := fun t ht hW => ⟨⟨r, h', hQ, rfl, by rw [ht]; exact hR'⟩, hS'.F ht⟩
    cases r with
    | none => exact W.vret hC.1 hC.2.1 (hC.2.2.2.2.2.1.trans hr) hq hS'.2.2 hd
    | some v =>
      cases v with
      | int x =>
        obtain ⟨ty, e1, e2⟩ := hr
        exact W.zret hC.1 hC.2.1 (hC.2.2.2.2.2.1.trans e1) e2 hq hS'.2.2 hd
      | long x => exact W.lret hC.1 hC.2.1 (hC.2.2.2.2.2.1.trans hr) hq hS'.2.2 hd
      | ref x =>
        obtain ⟨rt, e1, e2⟩ := hr
        exact W.aret hC.1 hC.2.1 (hC.2.2.2.2.2.1.trans e1) (isR_or e2) (Or.inr ⟨_, rfl⟩) hq hS'.2.2 hd
      | null =>
        obtain ⟨rt, e1, e2⟩ := hr
        exact W.aret hC.1 hC.2.1 (hC.2.2.2.2.2.1.trans e1) (isR_or e2) (Or.inl rfl) hq hS'.2.2 hd
      | float x => exact hr.elim
      | double x => exact hr.elim
      | retAddr x => exact hr.elim
theorem pcT_blind {E : Ev} {as : List Value} {h : Hp} : FrameBlind (PcT E as h) := by
  intro a U g mk q
  obtain ⟨q0, q1, q2, q3, q4⟩ := q
  have hA : U.vm.Alike (U.calling g mk a).vm := Vm.Alike.refl U.vm
  obtain ⟨o1, o2, o3, o4, o5, o6, o7, o8, o9⟩ := q3
  exact ⟨q0, q1, va_K.moved (u := U) (U := U.calling g mk a) hA q2, ⟨o1, o2.moved (u := U) (U := U.calling g mk a) hA, o3.moved (u := U) (U := U.calling g mk a) hA, o4.moved (u := U) (U := U.calling g mk a) hA, vk_R.same (u := U) (U := U.calling g mk a) rfl o5, vk_R.same (u := U) (U := U.calling g mk a) rfl o6, o7.moved (u := U) (U := U.calling g mk a) hA, o8.moved (u := U) (U := U.calling g mk a) hA, o9.imp (fun z => z.moved (u := U) (U := U.calling g mk a) hA) (fun z => z.moved (u := U) (U := U.calling g mk a) hA)⟩, q4⟩
section CALLS
variable {p : Program} {l : Launch} {e : Env} {R : Room} {s : State} {m : MethodId} {args : Array Value} {below : List Frame} {meth : Method} {c : Code} {H : Heap} {locs : List Loc} {cells slots : Nat} {Z : State → Prop}
/-- behind a call -/
theorem run_T {E : Ev} {N S mc ms : Nat} {Q : Option Value → Hp → Prop} {a : Array Value} {m : MethodId} {pc : Nat} {ls : Array Slot} {st0 rest : List Value} (hr : va_Run p l e R s m args below meth c H locs cells slots mc ms (F0 m pc ls st0) rest (QcT E N S Q a) (pA E)) (hS : va_S (pA E) s.heap H locs)
    (kk : ∀ (r : Option Value) (h' : Hp) (H1 : Heap) (locs1 : List Loc), Q r h' → Rl E h' H1 → va_S (pA E) s.heap H1 locs1 → W p l e R s m args below meth c H1 locs1 (cells + mc) (slots + ms) Z (F0 m (pc + 3) ls ((r.map (tv E)).toList ++ rest))) : W p l e R s m args below meth c H locs cells slots Z (F0 m pc ls st0) := by
  intro T hT X
  obtain ⟨v, st₀, t, T', L, h0, X', hL, e1, e2, ⟨⟨r, h', hQ, hv, hR'⟩, hz, hk⟩, st⟩ := hr T hT X
  cases hv
  rw [h0] at hz hk
  obtain ⟨t2, a1, b1⟩ := kk r h' T'.heap (locs ++ L) hQ (by rw [e1]; exact hR') ⟨Nat.le_trans hS.1 (by rw [e1]; exact hz), fun q h1 h2 => by rw [e1, hk q (Nat.lt_of_lt_of_le h1 hS.1) h2]; exact hS.2.1 q h1 h2, fun q hq => by
      rcases List.mem_append.mp hq with h | h
      · exact hS.2.2 q h
      · exact hL q h⟩ T' rfl X'
  exact ⟨t2, st t2 a1, b1⟩
end CALLS
theorem sum_tv {E : Ev} (st : List Value) : ((st.map (tv E)).map fun v => v.category).sum = (st.map fun v => v.category).sum := by
  congr 1
  rw [List.map_map]
  apply List.map_congr_left
  intro v _
  exact tv_cat v
section CALLT
variable {d d' N S : Nat} {M M' : Mi} {pc : Nat} {lv : List (Option Value)} {st : List Value} {h h1 : Hp} {Q : Option Value → Hp → Prop} {k ci index n : Nat} {as : List Value} {r0 : Option Value}
theorem lgsl_tv {E : Ev} : ∀ as : List Value, (lg_sl (as.map (tv E))).length = (la as).length := by
  intro as
  induction as with
  | nil => rfl
  | cons v r ih =>
    have e1 : ∀ (a : Value) (l : List Value), lg_sl (a :: l) = (if a.category = 2 then [Slot.val a, Slot.second] else [Slot.val a]) ++ lg_sl l := fun a l => by simp [lg_sl]
    rw [List.map_cons, e1, List.length_append, ih, tv_cat]
    simp only [la]
    by_cases hv : v.category = 2
    · simp only [if_pos hv, List.length_cons, List.length_nil]
      omega
    · simp only [if_neg hv, List.length_cons, List.length_nil]
      omega
/-- a static method -/
theorem z_callS (hC' : CL M' n) (hL : LK M.1.cls index M') (hst : Cond.static M'.1 ∈ TB) (hd : decode M.2.1 pc = .ok (.invokestatic index, 3)) (hn : as.length = n) (hla : (la as).length ≤ M'.2.2.1) (hroom : (st.map fun v => v.category).sum ≤ 8) (hdd : d + 1 ≤ d') (hT : T d (pn h1) (ps h1) M' 0 (lap M' as) [] h (fun r h' => r = r0 ∧ h' = h1)) (hok : rok M'.2.2.2 r0) (hg : pn h ≤ pn h1 ∧ ps h ≤ ps h1 ∧ pn h1 ≤ N ∧ ps h1 ≤ S) (kk : T d' N S M (pc + 3) lv (r0.toList ++ st) h1 Q) : T d' N S M pc lv (as.reverse ++ st) h Q := by
  intro E p l e R s m args below meth cc H locs n0 s0 ls Z hC hR hS h1' h2 h3 h4 h5 h6' h7 h8 hl hq
  obtain ⟨c1, c2, c3, c4, c5, c6⟩ := hC'
  have hM := met_T l E c5 (by rw [lgsl_tv]; exact hla) hT hg.1 hg.2.1 (fun r h' hr => by rw [hr.1]; exact hok)
  have hws : ∀ w ∈ WS M', ∀ (a' : Array Value) (U : State), s.WarmedH U.vm → w.before a' U = true := by
    intro w hw a' U hW
    rcases List.mem_cons.mp hw with rfl | hw
    · exact mv_word c1 (cxW hC c1) hW
    · exact mv_word hw (cxW hC hw) hW
  have hsig : ∀ sig, parseMethodDescriptor M'.1.desc = some sig → n = sig.parameters.length := fun sig hs => by
    rw [hs] at c4
    exact (Option.some.inj c4).symm
  have hrm : (rmT d (pn h1) (ps h1) h).frames + 1 ≤ R.frames ∧ 8 + (M'.2.2.1 + 11) + (rmT d (pn h1) (ps h1) h).locals ≤ R.locals := ⟨by show d + 1 ≤ _; omega, by show 8 + (M'.2.2.1 + 11) + 48 * d ≤ _; omega⟩
  have hPre : PreS s H (PcT E as h) (as.map (tv E)) := ⟨pcT_blind, fun U hU hW => ⟨rfl, by rw [hU]; exact hR, va_K.moved hW.alike (cxK hC), old_move (cxO hC) hS (cxB hC) hU hW, by rw [hU]; exact Nat.le_trans (cxB hC) hS.1⟩⟩
  have hfit : pn h - n0 + (pn h1 - pn h) ≤ R.cells ∧ ps h - s0 + (ps h1 - ps h) ≤ R.slots := ⟨by rw [h5]; omega, by rw [h6']; omega⟩
  have hstk : (F0 m pc ls (List.map (tv E) (as.reverse ++ st))).stack = (as.map (tv E)).reverse ++ st.map (tv E) := by
    show List.map (tv E) (as.reverse ++ st) = _
    rw [List.map_append, List.map_reverse]
  have hrest : 2 * (F0 m pc ls (List.map (tv E) (as.reverse ++ st))).monitorRoom + ((st.map (tv E)).map fun v => v.category).sum ≤ 8 := lv_room (by rw [sum_tv]; exact hroom)
  have hrun : va_Run p l e R s m args below meth cc H locs (pn h - n0) (ps h - s0) (pn h1 - pn h) (ps h1 - ps h) (F0 m pc ls (List.map (tv E) (as.reverse ++ st))) (st.map (tv E)) (QcT E (pn h1) (ps h1) (fun r h' => r = r0 ∧ h' = h1) (as.map (tv E)).toArray) (pA E) := by
    rcases hL with hL | ⟨host, hL⟩
    · exact va_runS (As := as.map (tv E)) ⟨hC.1, hC.2.1, hC.2.2.1, hC.2.2.2.1, hC.2.2.2.2.1⟩ hM ⟨⟨rfl, rfl, hrm.1, hrm.2, hws, List.mem_cons_self, cxW hC c1, cxW hC c2, c3, hsig, cxW hC hL⟩, cxW hC hst⟩ hPre rfl (by rw [List.length_map]; exact hn) hl.1 hstk hrest hd hfit
    · exact va_runSN (As := as.map (tv E)) ⟨hC.1, hC.2.1, hC.2.2.1, hC.2.2.2.1, hC.2.2.2.2.1⟩ hM ⟨⟨⟨rfl, rfl, hrm.1, hrm.2, hws, List.mem_cons_self⟩, cxW hC c1, cxW hC c2, c3, hsig, cxW hC hL⟩, cxW hC hst, trivial⟩ hPre rfl (by rw [List.length_map]; exact hn) hl.1 hstk hrest hd hfit
  refine run_T hrun hS (fun r h' H1 locs1 hr hR1 hS1 => ?_)
  obtain ⟨rfl, rfl⟩ := hr
  have := kk E p l e R s m args below meth cc H1 locs1 n0 s0 ls Z hC hR1 hS1 (by omega) (by omega) (by omega) (by omega) h5 h6' h7 h8 hl hq
  rw [show pn h - n0 + (pn h' - pn h) = pn h' - n0 by omega, show ps h - s0 + (ps h' - ps h) = ps h' - s0 by omega]
  rw [List.map_append] at this
  rw [show (Option.map (tv E) r).toList = r.toList.map (tv E) by cases r <;> rfl]
  exact this
/-- an instance method, the receiver at k of class ci -/
theorem z_callVr (hC' : CL M' n) (hL : LK M.1.cls index M') (hin : Cond.instanceMethod M'.1 ∈ TB) (hsel : Cond.selects M'.1.cls M'.1 M'.1 ∈ TB) (hrv : ∀ (E : Ev) (p : Program) (s : State) (m : MethodId) (args : Array Value) (meth : Method) (c : Code) (H : Heap) (locs : List Loc), Cx E M p s m args meth c → Rl E h H → va_S (pA E) s.heap H locs → ∃ cell : Cell, H[ph E k]? = some cell ∧ cell.vm.isStatics = false ∧ s.vm.findClass M'.1.cls = some cell.cls) (hd : decode M.2.1 pc = .ok (.invokevirtual index, 3)) (hn : as.length = n) (hla : (la (.ref k :: as)).length ≤ M'.2.2.1) (hroom : (st.map fun v => v.category).sum ≤ 8) (hdd : d + 1 ≤ d') (hT : T d (pn h1) (ps h1) M' 0 (lap M' (.ref k :: as)) [] h (fun r h' => r = r0 ∧ h' = h1)) (hok : rok M'.2.2.2 r0) (hg : pn h ≤ pn h1 ∧ ps h ≤ ps h1 ∧ pn h1 ≤ N ∧ ps h1 ≤ S) (kk : T d' N S M (pc + 3) lv (r0.toList ++ st) h1 Q) : T d' N S M pc lv (as.reverse ++ .ref k :: st) h Q := by
  intro E p l e R s m args below meth cc H locs n0 s0 ls Z hC hR hS h1' h2 h3 h4 h5 h6' h7 h8 hl hq
  obtain ⟨c1, c2, c3, c4, c5, c6⟩ := hC'
  have hM := met_T l E c5 (by rw [lgsl_tv]; exact hla) hT hg.1 hg.2.1 (fun r h' hr => by rw [hr.1]; exact hok)
  have hws : ∀ w ∈ WS M', ∀ (a' : Array Value) (U : State), s.WarmedH U.vm → w.before a' U = true := by
    intro w hw a' U hW
    rcases List.mem_cons.mp hw with rfl | hw
    · exact mv_word c1 (cxW hC c1) hW
    · exact mv_word hw (cxW hC hw) hW
  have hsig : ∀ sig, parseMethodDescriptor M'.1.desc = some sig → n = sig.parameters.length := fun sig hs => by
    rw [hs] at c4
    exact (Option.some.inj c4).symm
  have hrm : (rmT d (pn h1) (ps h1) h).frames + 1 ≤ R.frames ∧ 8 + (M'.2.2.1 + 11) + (rmT d (pn h1) (ps h1) h).locals ≤ R.locals := ⟨by show d + 1 ≤ _; omega, by show 8 + (M'.2.2.1 + 11) + 48 * d ≤ _; omega⟩
  have hrecv := hrv E p s m args meth cc H locs hC hR hS
  have hPre : PreV s H M'.1.cls (ph E k) (PcT E (.ref k :: as) h) (as.map (tv E)) := ⟨pcT_blind, hrecv, fun U hU hW => ⟨rfl, by rw [hU]; exact hR, va_K.moved hW.alike (cxK hC), old_move (cxO hC) hS (cxB hC) hU hW, by rw [hU]; exact Nat.le_trans (cxB hC) hS.1⟩⟩
  have hfit : pn h - n0 + (pn h1 - pn h) ≤ R.cells ∧ ps h - s0 + (ps h1 - ps h) ≤ R.slots := ⟨by rw [h5]; omega, by rw [h6']; omega⟩
  have hstk : (F0 m pc ls (List.map (tv E) (as.reverse ++ .ref k :: st))).stack = (as.map (tv E)).reverse ++ .ref (ph E k) :: st.map (tv E) := by
    show List.map (tv E) (as.reverse ++ .ref k :: st) = _
    rw [List.map_append, List.map_reverse, List.map_cons]
    rfl
  have hrest : 2 * (F0 m pc ls (List.map (tv E) (as.reverse ++ .ref k :: st))).monitorRoom + ((st.map (tv E)).map fun v => v.category).sum ≤ 8 := lv_room (by rw [sum_tv]; exact hroom)
  have hrun : va_Run p l e R s m args below meth cc H locs (pn h - n0) (ps h - s0) (pn h1 - pn h) (ps h1 - ps h) (F0 m pc ls (List.map (tv E) (as.reverse ++ .ref k :: st))) (st.map (tv E)) (QcT E (pn h1) (ps h1) (fun r h' => r = r0 ∧ h' = h1) (Value.ref (ph E k) :: as.map (tv E)).toArray) (pA E) := by
    rcases hL with hL | ⟨host, hL⟩
    · exact va_runV (As := as.map (tv E)) (b := ph E k) ⟨hC.1, hC.2.1, hC.2.2.1, hC.2.2.2.1, hC.2.2.2.2.1⟩ hM ⟨⟨rfl, rfl, hrm.1, hrm.2, hws, List.mem_cons_self, cxW hC c1, cxW hC c2, c3, hsig, cxW hC hL⟩, cxW hC hin, cxW hC hsel⟩ hPre rfl (by rw [List.length_map]; exact hn) hl.1 hstk hrest hd hfit
    · exact va_runVN (As := as.map (tv E)) (b := ph E k) ⟨hC.1, hC.2.1, hC.2.2.1, hC.2.2.2.1, hC.2.2.2.2.1⟩ hM ⟨⟨⟨rfl, rfl, hrm.1, hrm.2, hws, List.mem_cons_self⟩, cxW hC c1, cxW hC c2, c3, hsig, cxW hC hL⟩, cxW hC hin, cxW hC hsel⟩ hPre rfl (by rw [List.length_map]; exact hn) hl.1 hstk hrest hd hfit
  refine run_T hrun hS (fun r h' H1 locs1 hr hR1 hS1 => ?_)
  obtain ⟨rfl, rfl⟩ := hr
  have := kk E p l e R s m args below meth cc H1 locs1 n0 s0 ls Z hC hR1 hS1 (by omega) (by omega) (by omega) (by omega) h5 h6' h7 h8 hl hq
  rw [show pn h - n0 + (pn h' - pn h) = pn h' - n0 by omega, show ps h - s0 + (ps h' - ps h) = ps h' - s0 by omega]
  rw [List.map_append] at this
  rw [show (Option.map (tv E) r).toList = r.toList.map (tv E) by cases r <;> rfl]
  exact this
theorem z_callV (hC' : CL M' n) (hL : LK M.1.cls index M') (hin : Cond.instanceMethod M'.1 ∈ TB) (hsel : Cond.selects M'.1.cls M'.1 M'.1 ∈ TB) (hci : (vwCl[ci]?).map (fun q => q.1) = some M'.1.cls ∧ ci < 10) (hd : decode M.2.1 pc = .ok (.invokevirtual index, 3)) (h6 : 8 ≤ k) (hk : k < pn h) (hK : (pK h k).1 = ci) (hn : as.length = n) (hla : (la (.ref k :: as)).length ≤ M'.2.2.1) (hroom : (st.map fun v => v.category).sum ≤ 8) (hdd : d + 1 ≤ d') (hT : T d (pn h1) (ps h1) M' 0 (lap M' (.ref k :: as)) [] h (fun r h' => r = r0 ∧ h' = h1)) (hok : rok M'.2.2.2 r0) (hg : pn h ≤ pn h1 ∧ ps h ≤ ps h1 ∧ pn h1 ≤ N ∧ ps h1 ≤ S) (kk : T d' N S M (pc + 3) lv (r0.toList ++ st) h1 Q) : T d' N S M pc lv (as.reverse ++ .ref k :: st) h Q := by
  refine z_callVr hC' hL hin hsel (fun E p s m args meth cc H locs hC hR hS => ?_) hd hn hla hroom hdd hT hok hg kk
  have hat := hR.2.2.1 k h6 hk
  rw [pe_o hK hci.2] at hat
  cases hcl : vwCl[ci]? with
  | none => rw [hcl] at hci; cases hci.1
  | some q =>
    have := va_recv (q0 := 0) (cxK hC) (va_P_one hat) hcl rfl
    rw [hcl] at hci
    rw [show M'.1.cls = q.1 from (Option.some.inj hci.1).symm]
    exact this
/-- a constructor -/
theorem z_callI (hC' : CL M' n) (hL : LK M.1.cls index M') (hin : Cond.instanceMethod M'.1 ∈ TB) (hnm : M'.1.name = "<init>") (hrt : M'.2.2.2 = none) (hd : decode M.2.1 pc = .ok (.invokespecial index, 3)) (hn : as.length = n) (hla : (la (.ref k :: as)).length ≤ M'.2.2.1) (hroom : (st.map fun v => v.category).sum ≤ 8) (hdd : d + 1 ≤ d') (hT : T d (pn h1) (ps h1) M' 0 (lap M' (.ref k :: as)) [] h (fun r h' => r = none ∧ h' = h1)) (hg : pn h ≤ pn h1 ∧ ps h ≤ ps h1 ∧ pn h1 ≤ N ∧ ps h1 ≤ S) (kk : T d' N S M (pc + 3) lv st h1 Q) : T d' N S M pc lv (as.reverse ++ .ref k :: st) h Q := by
  intro E p l e R s m args below meth cc H locs n0 s0 ls Z hC hR hS h1' h2 h3 h4 h5 h6' h7 h8 hl hq
  obtain ⟨c1, c2, c3, c4, c5, c6⟩ := hC'
  have hM := met_T l E c5 (by rw [lgsl_tv]; exact hla) hT hg.1 hg.2.1 (fun r h' hr => by rw [hr.1]; exact hrt)
  have hws : ∀ w ∈ WS M', ∀ (a' : Array Value) (U : State), s.WarmedH U.vm → w.before a' U = true := by
    intro w hw a' U hW
    rcases List.mem_cons.mp hw with rfl | hw
    · exact mv_word c1 (cxW hC c1) hW
    · exact mv_word hw (cxW hC hw) hW
  have hsig : ∀ sig, parseMethodDescriptor M'.1.desc = some sig → n = sig.parameters.length := fun sig hs => by
    rw [hs] at c4
    exact (Option.some.inj c4).symm
  have hrm : (rmT d (pn h1) (ps h1) h).frames + 1 ≤ R.frames ∧ 8 + (M'.2.2.1 + 11) + (rmT d (pn h1) (ps h1) h).locals ≤ R.locals := ⟨by show d + 1 ≤ _; omega, by show 8 + (M'.2.2.1 + 11) + 48 * d ≤ _; omega⟩
  have hPre : PreS s H (PcT E (.ref k :: as) h) (.ref (ph E k) :: as.map (tv E)) := ⟨pcT_blind, fun U hU hW => ⟨rfl, by rw [hU]; exact hR, va_K.moved hW.alike (cxK hC), old_move (cxO hC) hS (cxB hC) hU hW, by rw [hU]; exact Nat.le_trans (cxB hC) hS.1⟩⟩
  have hfit : pn h - n0 + (pn h1 - pn h) ≤ R.cells ∧ ps h - s0 + (ps h1 - ps h) ≤ R.slots := ⟨by rw [h5]; omega, by rw [h6']; omega⟩
  have hstk : (F0 m pc ls (List.map (tv E) (as.reverse ++ .ref k :: st))).stack = (as.map (tv E)).reverse ++ .ref (ph E k) :: st.map (tv E) := by
    show List.map (tv E) (as.reverse ++ .ref k :: st) = _
    rw [List.map_append, List.map_reverse, List.map_cons]
    rfl
  have hrest : 2 * (F0 m pc ls (List.map (tv E) (as.reverse ++ .ref k :: st))).monitorRoom + ((st.map (tv E)).map fun v => v.category).sum ≤ 8 := lv_room (by rw [sum_tv]; exact hroom)
  have c1' : Cond.code M'.1 M'.2.1 M'.2.2.1 none ∈ TB := by rw [← hrt]; exact c1
  have c1w : Cond.code M'.1 M'.2.1 M'.2.2.1 none ∈ WS M' := by rw [← hrt]; exact List.mem_cons_self
  have hrun : va_Run p l e R s m args below meth cc H locs (pn h - n0) (ps h - s0) (pn h1 - pn h) (ps h1 - ps h) (F0 m pc ls (List.map (tv E) (as.reverse ++ .ref k :: st))) (st.map (tv E)) (QcT E (pn h1) (ps h1) (fun r h' => r = none ∧ h' = h1) (Value.ref (ph E k) :: as.map (tv E)).toArray) (pA E) := by
    rcases hL with hL | ⟨host, hL⟩
    · exact va_runI (As := as.map (tv E)) (b := ph E k) ⟨hC.1, hC.2.1, hC.2.2.1, hC.2.2.2.1, hC.2.2.2.2.1⟩ hM ⟨⟨rfl, rfl, hrm.1, hrm.2, hws, c1w, cxW hC c1', cxW hC c2, c3, hsig, cxW hC hL⟩, hnm, cxW hC hin⟩ hPre rfl (by rw [List.length_map]; exact hn) hl.1 hstk hrest hd hfit
    · exact va_runIN (As := as.map (tv E)) (b := ph E k) ⟨hC.1, hC.2.1, hC.2.2.1, hC.2.2.2.1, hC.2.2.2.2.1⟩ hM ⟨⟨⟨rfl, rfl, hrm.1, hrm.2, hws, c1w⟩, cxW hC c1', cxW hC c2, c3, hsig, cxW hC hL⟩, hnm, cxW hC hin⟩ hPre rfl (by rw [List.length_map]; exact hn) hl.1 hstk hrest hd hfit
  refine run_T hrun hS (fun r h' H1 locs1 hr hR1 hS1 => ?_)
  obtain ⟨rfl, rfl⟩ := hr
  have := kk E p l e R s m args below meth cc H1 locs1 n0 s0 ls Z hC hR1 hS1 (by omega) (by omega) (by omega) (by omega) h5 h6' h7 h8 hl hq
  rw [show pn h - n0 + (pn h' - pn h) = pn h' - n0 by omega, show ps h - s0 + (ps h' - ps h) = ps h' - s0 by omega]
  exact this
end CALLT
