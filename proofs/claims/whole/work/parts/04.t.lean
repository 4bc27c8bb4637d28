/-! A uniform world: T, the judgement of a method's run over a typed heap of functions -/
abbrev Ev : Type := Nat × (Nat → Nat) × va_G × (Nat → ClassId) × Nat × (Nat → Int32)
abbrev Hp : Type := (Nat → Nat → Int32) × (Nat → Nat → Int64) × (Nat → Nat → Option Nat) × (Nat → Nat × Nat) × Nat × Nat
/-- what cells hold: whole numbers, longs, references; a cell's kind and size; how many cells; how many slots -/
def pI (h : Hp) (k i : Nat) : Int32 := h.1 k i
def pJ (h : Hp) (k i : Nat) : Int64 := h.2.1 k i
def pR (h : Hp) (k i : Nat) : Option Nat := h.2.2.1 k i
def pK (h : Hp) (k : Nat) : Nat × Nat := h.2.2.2.1 k
def pn (h : Hp) : Nat := h.2.2.2.2.1
def ps (h : Hp) : Nat := h.2.2.2.2.2
def p2 {α : Type} (f : Nat → Nat → α) (k i : Nat) (v : α) : Nat → Nat → α := fun a => if a = k then (fun b => if b = i then v else f k b) else f a
def sI (h : Hp) (k i : Nat) (v : Int32) : Hp := (p2 h.1 k i v, h.2)
def sJ (h : Hp) (k i : Nat) (v : Int64) : Hp := (h.1, p2 h.2.1 k i v, h.2.2)
def sR (h : Hp) (k i : Nat) (v : Option Nat) : Hp := (h.1, h.2.1, p2 h.2.2.1 k i v, h.2.2.2)
/-- a new cell of kind c with n slots -/
def nw (h : Hp) (c n : Nat) : Hp := (fun a => if a = pn h then (fun _ => 0) else h.1 a, fun a => if a = pn h then (fun _ => 0) else h.2.1 a, fun a => if a = pn h then (fun _ => none) else h.2.2.1 a, fun a => if a = pn h then (c, n) else h.2.2.2.1 a, pn h + 1, ps h + n)
/-- a whole row of whole numbers anew -/
def sA (h : Hp) (k : Nat) (f : Nat → Int32) : Hp := (fun a => if a = k then f else h.1 a, h.2)
def ph (E : Ev) (k : Nat) : Nat := if k < 8 then E.2.1 k else E.1 + (k - 8)
def tv (E : Ev) : Value → Value
  | .ref k => .ref (ph E k)
  | v => v
/-- the slot i of the cell k, of type ty -/
def pv (E : Ev) (h : Hp) (k i : Nat) (ty : FieldType) : Value := match ty with
  | .long => .long (pJ h k i)
  | .object _ => va_rf ((pR h k i).map (ph E))
  | .array _ => va_rf ((pR h k i).map (ph E))
  | _ => .int (pI h k i)
def pe (E : Ev) (h : Hp) (k : Nat) : va_E :=
  if (pK h k).1 < 10 then .inr ((pK h k).1, (List.range (nC (pK h k).1)).map (fun i => pv E h k i (tyC (pK h k).1 i)))
  else if (pK h k).1 = 10 then .inl (E.2.2.2.1 0, (pK h k).2, .inl (pI h k))
  else if (pK h k).1 = 11 then .inl (E.2.2.2.1 1, (pK h k).2, .inr (.inl (pJ h k)))
  else if (pK h k).1 = 12 then .inl (E.2.2.2.1 2, (pK h k).2, .inl (pI h k))
  else .inl (E.2.2.2.1 ((pK h k).1 - 10), (pK h k).2, .inr (.inr (.inr (.inr (fun i => (pR h k i).map (ph E))))))
def aty (t : Nat) : FieldType := match t with
  | 0 => .int
  | 1 => .long
  | 2 => .boolean
  | 3 => .object RX5
  | _ => .object RX7
def tysE (E : Ev) : List (ClassId × FieldType) := [(E.2.2.2.1 0, .int), (E.2.2.2.1 1, .long), (E.2.2.2.1 2, .boolean), (E.2.2.2.1 3, .object RX5), (E.2.2.2.1 4, .object RX7)]
def Rl (E : Ev) (h : Hp) (H : Heap) : Prop := 8 ≤ pn h ∧ H.size = E.1 + (pn h - 8) ∧ (∀ k, 8 ≤ k → k < pn h → va_at E.2.2.1 vwCl (ph E k, pe E h k) H) ∧ pK h 0 = (10, 0) ∧ pK h 1 = (10, E.2.2.2.2.1) ∧ (∀ j, j < E.2.2.2.2.1 → pI h 1 j = E.2.2.2.2.2 j) ∧ pK h 2 = (99, 0) ∧ pK h 3 = (99, 0) ∧ pK h 4 = (98, 170) ∧ pK h 5 = (98, 12) ∧ pK h 6 = (97, 0) ∧ pK h 7 = (97, 0)
def pA (E : Ev) : Nat → Prop := fun q => E.1 ≤ q
def wTx : String := "comes dues renown fact prophet foretell bring spoil sell day cost fame any all in fee by to price percent of so if then else end or and not many odds who purse facts due "
def sTx : String := "<>=#+-*/(),;"
def wBy : List Int32 := [99, 111, 109, 101, 115, 32, 100, 117, 101, 115, 32, 114, 101, 110, 111, 119, 110, 32, 102, 97, 99, 116, 32, 112, 114, 111, 112, 104, 101, 116, 32, 102, 111, 114, 101, 116, 101, 108, 108, 32, 98, 114, 105, 110, 103, 32, 115, 112, 111, 105, 108, 32, 115, 101, 108, 108, 32, 100, 97, 121, 32, 99, 111, 115, 116, 32, 102, 97, 109, 101, 32, 97, 110, 121, 32, 97, 108, 108, 32, 105, 110, 32, 102, 101, 101, 32, 98, 121, 32, 116, 111, 32, 112, 114, 105, 99, 101, 32, 112, 101, 114, 99, 101, 110, 116, 32, 111, 102, 32, 115, 111, 32, 105, 102, 32, 116, 104, 101, 110, 32, 101, 108, 115, 101, 32, 101, 110, 100, 32, 111, 114, 32, 97, 110, 100, 32, 110, 111, 116, 32, 109, 97, 110, 121, 32, 111, 100, 100, 115, 32, 119, 104, 111, 32, 112, 117, 114, 115, 101, 32, 102, 97, 99, 116, 115, 32, 100, 117, 101, 32]
def sBy : List Int32 := [60, 62, 61, 35, 43, 45, 42, 47, 40, 41, 44, 59]
/-- what lies in the heap of before: the empty law, the script; two texts; two statics of the JDK's -/
def Old (E : Ev) (U : State) (H : Heap) : Prop := (∀ k, k < 6 → E.2.1 k < E.1) ∧ va_Z RX8 "NO_LAW" "[I" (.ref (E.2.1 0)) (pA E) U H ∧ va_T .int (E.2.1 0) 0 (fun _ => .null) (pA E) U H ∧ va_X (E.2.1 1) E.2.2.2.2.1 E.2.2.2.2.2 U H ∧ vk_R RX6 70 wTx (E.2.1 2) U ∧ vk_R RX6 55 sTx (E.2.1 3) U ∧ vk_S 2 [170, 12] [wBy, sBy] (fun i => E.2.1 (2 + i)) (fun i => E.2.1 (4 + i)) (pA E) U H ∧ va_Z "java/lang/String" "COMPACT_STRINGS" "Z" (.int 1) (pA E) U H ∧ (va_Z "jdk/internal/util/Preconditions" "SIOOBE_FORMATTER" "Ljava/util/function/BiFunction;" .null (pA E) U H ∨ va_Z "jdk/internal/util/Preconditions" "SIOOBE_FORMATTER" "Ljava/util/function/BiFunction;" (.ref (E.2.1 6)) (pA E) U H)
def Cx (E : Ev) (M : Mi) (p : Program) (s : State) (m : MethodId) (args : Array Value) (meth : Method) (c : Code) : Prop :=
  p.tables.exec = Jvm.exec ∧ c.code = M.2.1 ∧ c.maxLocals = M.2.2.1 ∧ s.vm.findClass M.1.cls = some m.cls ∧ (∀ w ∈ TB, w.before args s = true) ∧ meth.sig.returnType = M.2.2.2 ∧ meth.locks = false ∧ meth.name = M.1.name ∧ va_K E.2.2.1 vwCl (tysE E) s ∧ Old E s s.heap ∧ E.1 ≤ s.heap.size
/-- the locals that are known, with their places -/
def lpF (E : Ev) : Nat → List (Option Value) → List (Nat × Value)
  | _, [] => []
  | i, none :: r => lpF E (i + 1) r
  | i, some v :: r => (i, tv E v) :: lpF E (i + 1) r
def rop (r : Option Value) : Instr := match r with
  | none => .return_
  | some (.long _) => .lreturn
  | some (.ref _) => .areturn
  | some .null => .areturn
  | _ => .ireturn
def T (d N S : Nat) (M : Mi) (pc : Nat) (lv : List (Option Value)) (st : List Value) (h : Hp) (Q : Option Value → Hp → Prop) : Prop :=
  ∀ (E : Ev) (p : Program) (l : Launch) (e : Env) (R : Room) (s : State) (m : MethodId) (args : Array Value) (below : List Frame) (meth : Method) (c : Code) (H : Heap) (locs : List Loc) (n0 s0 : Nat) (ls : Array Slot) (Z : State → Prop),
    Cx E M p s m args meth c → Rl E h H → va_S (pA E) s.heap H locs → n0 ≤ pn h → pn h ≤ N → s0 ≤ ps h → ps h ≤ S → R.cells = N - n0 → R.slots = S - s0 → d ≤ R.frames → 48 * d ≤ R.locals → lv_has ls M.2.2.1 (lpF E 0 lv) →
    (∀ (r : Option Value) (h' : Hp) (H' : Heap) (locs' : List Loc) (pc' : Nat) (ls' : Array Slot), Q r h' → Rl E h' H' → va_S (pA E) s.heap H' locs' → n0 ≤ pn h' → pn h' ≤ N → s0 ≤ ps h' → ps h' ≤ S → decode M.2.1 pc' = .ok (rop r, 1) → W p l e R s m args below meth c H' locs' (pn h' - n0) (ps h' - s0) Z (F0 m pc' ls' (r.toList.map (tv E)))) →
    W p l e R s m args below meth c H locs (pn h - n0) (ps h - s0) Z (F0 m pc ls (st.map (tv E)))
theorem lpF_mem {E : Ev} : ∀ (lv : List (Option Value)) (k i : Nat) (w : Value), (i, w) ∈ lpF E k lv ↔ ∃ v, k ≤ i ∧ lv[i - k]? = some (some v) ∧ w = tv E v := by
  intro lv
  induction lv with
  | nil => intro k i w; simp [lpF]
  | cons a r ih =>
    intro k i w
    cases a with
    | none =>
      simp only [lpF, ih]
      constructor
      · rintro ⟨v, h1, h2, h3⟩
        refine ⟨v, by omega, ?_, h3⟩
        rw [show i - k = (i - (k + 1)) + 1 by omega]
        simpa using h2
      · rintro ⟨v, h1, h2, h3⟩
        by_cases hk : i = k
        · subst hk; simp at h2
        · refine ⟨v, by omega, ?_, h3⟩
          rw [show i - k = (i - (k + 1)) + 1 by omega] at h2
          simpa using h2
    | some x =>
      simp only [lpF, List.mem_cons, ih, Prod.mk.injEq]
      constructor
      · rintro (⟨h1, h2⟩ | ⟨v, h1, h2, h3⟩)
        · subst h1; exact ⟨x, Nat.le_refl _, by simp, h2⟩
        · refine ⟨v, by omega, ?_, h3⟩
          rw [show i - k = (i - (k + 1)) + 1 by omega]
          simpa using h2
      · rintro ⟨v, h1, h2, h3⟩
        by_cases hk : i = k
        · subst hk
          simp at h2
          exact Or.inl ⟨rfl, by rw [h3, h2]⟩
        · refine Or.inr ⟨v, by omega, ?_, h3⟩
          rw [show i - k = (i - (k + 1)) + 1 by omega] at h2
          simpa using h2
theorem lpF_at {E : Ev} {lv : List (Option Value)} {ls : Array Slot} {n i : Nat} {v : Value} (hl : lv_has ls n (lpF E 0 lv)) (h : lv[i]? = some (some v)) : ls[i]? = some (.val (tv E v)) :=
  hl.2.2 (i, tv E v) ((lpF_mem lv 0 i _).mpr ⟨v, Nat.zero_le _, by simpa using h, rfl⟩)
theorem lv_has_sub {ls : Array Slot} {n : Nat} {a b : List (Nat × Value)} (h : lv_has ls n a) (hs : ∀ q ∈ b, q ∈ a) : lv_has ls n b := ⟨h.1, h.2.1, fun q hq => h.2.2 q (hs q hq)⟩
theorem tv_cat {E : Ev} (v : Value) : (tv E v).category = v.category := by cases v <;> rfl
/-- is there a long just below? -/
def lbel (lv : List (Option Value)) (i : Nat) : Bool := match i with
  | 0 => false
  | j + 1 => match lv[j]? with
    | some (some v) => v.category == 2
    | _ => false
def st1 (lv : List (Option Value)) (i : Nat) (v : Value) : List (Option Value) := if lbel lv i then (lv.set (i - 1) none).set i (some v) else lv.set i (some v)
def st2 (lv : List (Option Value)) (i : Nat) (v : Value) : List (Option Value) := if lbel lv i then ((lv.set (i - 1) none).set (i + 1) none).set i (some v) else (lv.set (i + 1) none).set i (some v)
theorem st1_sub {E : Ev} {lv : List (Option Value)} {i : Nat} {v : Value} : ∀ q ∈ lpF E 0 (st1 lv i v), q ∈ (i, tv E v) :: (lpF E 0 lv).filter (fun q => !(q.1 == i) && !(q.1 + 1 == i && q.2.category == 2)) := by
  rintro ⟨j, w⟩ hq
  obtain ⟨x, -, h2, h3⟩ := (lpF_mem _ 0 j w).mp hq
  simp only [Nat.sub_zero] at h2
  by_cases hj : j = i
  · subst hj
    have : x = v := by
      unfold st1 at h2
      split at h2
      · rw [List.getElem?_set] at h2
        simp at h2
        exact h2.2.symm
      · rw [List.getElem?_set] at h2
        simp at h2
        exact h2.2.symm
    rw [h3, this]
    exact List.mem_cons_self
  · refine List.mem_cons_of_mem _ (List.mem_filter.mpr ⟨(lpF_mem lv 0 j w).mpr ⟨x, Nat.zero_le _, ?_, h3⟩, ?_⟩)
    · simp only [Nat.sub_zero]
      unfold st1 at h2
      split at h2
      · rw [List.getElem?_set_ne (Ne.symm hj)] at h2
        by_cases hk : j = i - 1
        · subst hk
          rw [List.getElem?_set] at h2
          simp at h2
        · rwa [List.getElem?_set_ne (Ne.symm hk)] at h2
      · rwa [List.getElem?_set_ne (Ne.symm hj)] at h2
    · simp only [Bool.and_eq_true, Bool.not_eq_true', beq_eq_false_iff_ne, Bool.and_eq_false_imp]
      refine ⟨hj, fun hk => ?_⟩
      have hk : j + 1 = i := by simpa using hk
      subst hk
      unfold st1 at h2
      split at h2
      · rw [List.getElem?_set_ne (by omega), List.getElem?_set] at h2
        simp at h2
      · rename_i hb
        rw [List.getElem?_set_ne (by omega)] at h2
        simp only [lbel, h2] at hb
        rw [h3, tv_cat]
        simpa using hb
theorem st2_sub {E : Ev} {lv : List (Option Value)} {i : Nat} {v : Value} : ∀ q ∈ lpF E 0 (st2 lv i v), q ∈ (i, tv E v) :: (lpF E 0 lv).filter (fun q => !(q.1 == i) && (!(q.1 == i + 1) && !(q.1 + 1 == i && q.2.category == 2))) := by
  rintro ⟨j, w⟩ hq
  obtain ⟨x, -, h2, h3⟩ := (lpF_mem _ 0 j w).mp hq
  simp only [Nat.sub_zero] at h2
  by_cases hj : j = i
  · subst hj
    have : x = v := by
      unfold st2 at h2
      split at h2
      · rw [List.getElem?_set] at h2
        simp at h2
        exact h2.2.symm
      · rw [List.getElem?_set] at h2
        simp at h2
        exact h2.2.symm
    rw [h3, this]
    exact List.mem_cons_self
  · have hj1 : ¬ j = i + 1 := by
      intro hk
      subst hk
      unfold st2 at h2
      split at h2
      · rw [List.getElem?_set_ne (by omega), List.getElem?_set] at h2
        simp at h2
      · rw [List.getElem?_set_ne (by omega), List.getElem?_set] at h2
        simp at h2
    refine List.mem_cons_of_mem _ (List.mem_filter.mpr ⟨(lpF_mem lv 0 j w).mpr ⟨x, Nat.zero_le _, ?_, h3⟩, ?_⟩)
    · simp only [Nat.sub_zero]
      unfold st2 at h2
      split at h2
      · rw [List.getElem?_set_ne (Ne.symm hj), List.getElem?_set_ne (Ne.symm hj1)] at h2
        by_cases hk : j = i - 1
        · subst hk
          rw [List.getElem?_set] at h2
          simp at h2
        · rwa [List.getElem?_set_ne (Ne.symm hk)] at h2
      · rwa [List.getElem?_set_ne (Ne.symm hj), List.getElem?_set_ne (Ne.symm hj1)] at h2
    · simp only [Bool.and_eq_true, Bool.not_eq_true', beq_eq_false_iff_ne, Bool.and_eq_false_imp]
      refine ⟨hj, hj1, fun hk => ?_⟩
      have hk : j + 1 = i := by simpa using hk
      subst hk
      unfold st2 at h2
      split at h2
      · rw [List.getElem?_set_ne (by omega), List.getElem?_set_ne (by omega), List.getElem?_set] at h2
        simp at h2
      · rename_i hb
        rw [List.getElem?_set_ne (by omega), List.getElem?_set_ne (by omega)] at h2
        simp only [lbel, h2] at hb
        rw [h3, tv_cat]
        simpa using hb
