/-! the start: the world of before (wip/whole/gend9.py) -/
theorem two_of {i : Nat} (h : i < 2) : i = 0 ∨ i = 1 := by omega
theorem old_of {s : State} {args : Array Value} {b L : Nat} {xs : Nat → Int32} (hts : ∀ w ∈ lw_tbl, w.before args s = true) (hgv : (Jvm.Cond.and given_1 narrow_1).before args s = true) (hX : va_X b L xs s s.heap) (hb : b < s.heap.size) : ∃ o : Nat → Nat, o 1 = b ∧ ∀ (G : va_G) (cA : Nat → ClassId), Old (s.heap.size, o, G, cA, L, xs) s s.heap := by
  have hn : ∀ (i : Nat) (w : Cond), NRW[i]? = some w → w.before args s = true := fun i w h => flat_of_before _ hgv w (List.mem_of_getElem? h)
  have ht : ∀ (i : Nat) (w : Cond), tables_1[i]? = some w → w.before args s = true := fun i w h => hts w (List.mem_append_right _ (List.mem_of_getElem? h))
  have hA : ∀ a : Nat, a < s.heap.size → ¬ aS s.heap.size a := fun a h1 h2 => absurd h1 (Nat.not_lt.mpr h2)
  obtain ⟨t0, e0, T0⟩ := va_Tof (tm := .static RX8 "NO_LAW" "[I") (ty := .int) (N := 0) (f := fun _ => .null) (A := aS s.heap.size) (by decide) (hn 5 _ nr_5) (va_eqt (hn 6 _ nr_6)) (fun j hj => absurd hj (Nat.not_lt_zero j)) hA
  have Z0 : va_Z RX8 "NO_LAW" "[I" (.ref t0) (aS s.heap.size) s s.heap := va_Zref (ht 179 _ tt_179) (ht 1 _ tt_1) e0 hA
  obtain ⟨kA, vA, sS, eK⟩ := vk_Sof (args := args) (s := s) (N := 2) (tm := tmS) (len := [170, 12]) (byt := [wBy, sBy]) (A := aS s.heap.size)
    (fun i hi => by rcases two_of hi with rfl | rfl <;> decide)
    (fun i hi => hn _ _ (nr_x i hi)) (fun i hi => hn _ _ (nr_c i hi)) (fun i hi => hn _ _ (nr_a i hi)) (fun i hi => hn _ _ (nr_l i hi))
    (fun i hi j hj => by
      rcases two_of hi with rfl | rfl
      · exact hn _ _ (nr_w j hj)
      · exact hn _ _ (nr_s j hj))
    (fun i j hi hj ne => by
      rcases two_of hi with rfl | rfl
      · rcases two_of hj with rfl | rfl
        · exact absurd rfl ne
        · exact Or.inl (hn _ _ nr_n)
      · rcases two_of hj with rfl | rfl
        · exact Or.inr (hn _ _ nr_n)
        · exact absurd rfl ne) hA
  have Zc : va_Z "java/lang/String" "COMPACT_STRINGS" "Z" (.int 1) (aS s.heap.size) s s.heap := va_Zof (ht 360 _ tt_360) (ht 13 _ tt_13) (va_eqi (hn 7 _ nr_7)) hA
  have Zq : va_Zq "jdk/internal/util/Preconditions" "SIOOBE_FORMATTER" "Ljava/util/function/BiFunction;" (aS s.heap.size) s s.heap := va_Zqof (ht 376 _ tt_376) (ht 15 _ tt_15) (hn 8 _ nr_8) hA
  have R70 : vk_R RX6 70 wTx (kA 0) s := vk_R.of (A := args) (ht 350 _ tt_350) (eK 0 (by decide))
  have R55 : vk_R RX6 55 sTx (kA 1) s := vk_R.of (A := args) (ht 416 _ tt_416) (eK 1 (by decide))
  have l0 : t0 < s.heap.size := Nat.not_le.mp (va_T.out T0)
  have lk : ∀ i, i < 2 → kA i < s.heap.size := fun i hi => by
    obtain ⟨cell, _, _, _, na⟩ := (sS.1 i hi).1
    exact Nat.not_le.mp na
  have lv : ∀ i, i < 2 → vA i < s.heap.size := fun i hi => Nat.not_le.mp (va_T.out (sS.1 i hi).2.2.2)
  obtain ⟨g, Zg⟩ : ∃ g, va_Z "jdk/internal/util/Preconditions" "SIOOBE_FORMATTER" "Ljava/util/function/BiFunction;" .null (aS s.heap.size) s s.heap ∨ va_Z "jdk/internal/util/Preconditions" "SIOOBE_FORMATTER" "Ljava/util/function/BiFunction;" (.ref g) (aS s.heap.size) s s.heap := by
    rcases Zq with z | ⟨g, z⟩
    · exact ⟨0, Or.inl z⟩
    · exact ⟨g, Or.inr z⟩
  refine ⟨oA t0 b (kA 0) (kA 1) (vA 0) (vA 1) g, rfl, fun G cA => ⟨fun k hk => ?_, Z0, T0, hX, R70, R55, ⟨fun i hi => ?_, fun i j hi hj e => ?_⟩, Zc, Zg⟩⟩
  · rcases (show k = 0 ∨ k = 1 ∨ k = 2 ∨ k = 3 ∨ k = 4 ∨ k = 5 by omega) with rfl | rfl | rfl | rfl | rfl | rfl
    · exact l0
    · exact hb
    · exact lk 0 (by decide)
    · exact lk 1 (by decide)
    · exact lv 0 (by decide)
    · exact lv 1 (by decide)
  · rcases two_of hi with rfl | rfl
    · exact sS.1 0 hi
    · exact sS.1 1 hi
  · rcases two_of hi with rfl | rfl
    · rcases two_of hj with rfl | rfl
      · rfl
      · exact sS.2 0 1 hi hj e
    · rcases two_of hj with rfl | rfl
      · exact sS.2 1 0 hi hj e
      · rfl
theorem kn_of {s : State} {args : Array Value} {own : String} {index c : Nat} (h : NL own index c) (hts : ∀ w ∈ TB, w.before args s = true) : ∃ (cC : ClassId) (iS : Nat → Nat), ∀ q, vwCl[c]? = some q → u_Kn s q.1 q.2.1 q.2.2 cC iS := by
  obtain ⟨C, T0, Nf, h1, h2, h3, h4, h5, h6, h7, h8⟩ := h
  obtain ⟨cC, iS, k⟩ := u_known (C := C) (T := T0) (N := Nf) (n := Nf) hts h4 (hts _ h6)
  exact ⟨cC, iS, fun q hq => by rw [h1] at hq; cases hq; exact k⟩
theorem kn_all {s : State} {args : Array Value} (hts : ∀ w ∈ TB, w.before args s = true) : ∃ G : va_G, ∀ (c : Nat) (q : vw_C), vwCl[c]? = some q → u_Kn s q.1 q.2.1 q.2.2 (G.1 c) (G.2 c) := by
  obtain ⟨c0, i0, k0⟩ := kn_of NX8_40 hts
  obtain ⟨c1, i1, k1⟩ := kn_of NX8_7 hts
  obtain ⟨c2, i2, k2⟩ := kn_of NX8_26 hts
  obtain ⟨c3, i3, k3⟩ := kn_of NX8_33 hts
  obtain ⟨c4, i4, k4⟩ := kn_of NX7_15 hts
  obtain ⟨c5, i5, k5⟩ := kn_of NX2_22 hts
  obtain ⟨c6, i6, k6⟩ := kn_of NX2_9 hts
  obtain ⟨c7, i7, k7⟩ := kn_of NX1_9 hts
  obtain ⟨c8, i8, k8⟩ := kn_of NL_7 hts
  obtain ⟨c9, i9, k9⟩ := kn_of NL_10 hts
  refine ⟨(fun k => match k with
    | 0 => c0
    | 1 => c1
    | 2 => c2
    | 3 => c3
    | 4 => c4
    | 5 => c5
    | 6 => c6
    | 7 => c7
    | 8 => c8
    | _ => c9, fun k => match k with
    | 0 => i0
    | 1 => i1
    | 2 => i2
    | 3 => i3
    | 4 => i4
    | 5 => i5
    | 6 => i6
    | 7 => i7
    | 8 => i8
    | _ => i9), fun c q hq => ?_⟩
  have hc : c < 10 := (List.getElem?_eq_some_iff.mp hq).1
  rcases (show c = 0 ∨ c = 1 ∨ c = 2 ∨ c = 3 ∨ c = 4 ∨ c = 5 ∨ c = 6 ∨ c = 7 ∨ c = 8 ∨ c = 9 by omega) with rfl | rfl | rfl | rfl | rfl | rfl | rfl | rfl | rfl | rfl
  · exact k0 q hq
  · exact k1 q hq
  · exact k2 q hq
  · exact k3 q hq
  · exact k4 q hq
  · exact k5 q hq
  · exact k6 q hq
  · exact k7 q hq
  · exact k8 q hq
  · exact k9 q hq
theorem arr_o {s : State} {args : Array Value} {C : String} (h : (Cond.arrayOver (.object C)).before args s = true) : ∃ cA, ArrOfT s cA (.object C) ∧ va_RA s cA (.object C) := by
  obtain ⟨comp, cA, kA, h1, h2, h3, h4, h5⟩ := Cond.arrayOver_spec h
  exact ⟨cA, fun n z => ⟨fun k h => (by cases h), kA, h3, comp, h4⟩, kA, comp, h3, h4, h1, h5⟩
theorem arr_i {s : State} {args : Array Value} (h : (Cond.arrayClass .int).before args s = true) : ∃ cA, ArrOfT s cA .int ∧ va_RA s cA .int := by
  obtain ⟨cA, kA, comp, h1, h2, h3⟩ := Cond.arrayClass_spec h
  exact ⟨cA, fun n z => ⟨fun k h => (by cases h), kA, h2, comp, h3⟩, h1⟩
theorem arr_l {s : State} {args : Array Value} (h : (Cond.arrayClass .long).before args s = true) : ∃ cA, ArrOfT s cA .long ∧ va_RA s cA .long := by
  obtain ⟨cA, kA, comp, h1, h2, h3⟩ := Cond.arrayClass_spec h
  exact ⟨cA, fun n z => ⟨fun k h => (by cases h), kA, h2, comp, h3⟩, h1⟩
theorem arr_b {s : State} {args : Array Value} (h : (Cond.arrayClass .boolean).before args s = true) : ∃ cA, ArrOfT s cA .boolean ∧ va_RA s cA .boolean := by
  obtain ⟨cA, kA, comp, h1, h2, h3⟩ := Cond.arrayClass_spec h
  exact ⟨cA, fun n z => ⟨fun k h => (by cases h), kA, h2, comp, h3⟩, h1⟩
theorem arr_all {s : State} {args : Array Value} (hts : ∀ w ∈ lw_tbl, w.before args s = true) : ∃ cA : Nat → ClassId, ∀ (k : Nat) (q : ClassId × FieldType), ([(cA 0, .int), (cA 1, .long), (cA 2, .boolean), (cA 3, .object RX5), (cA 4, .object RX7)] : List (ClassId × FieldType))[k]? = some q → ArrOfT s q.1 q.2 ∧ va_RA s q.1 q.2 := by
  have ht : ∀ (i : Nat) (w : Cond), tables_1[i]? = some w → w.before args s = true := fun i w h => hts w (List.mem_append_right _ (List.mem_of_getElem? h))
  obtain ⟨a0, h0⟩ := arr_i (ht 67 _ tt_67)
  obtain ⟨a1, h1⟩ := arr_l (ht 1208 _ tt_1208)
  obtain ⟨a2, h2⟩ := arr_b (ht 1209 _ tt_1209)
  obtain ⟨a3, h3⟩ := arr_o (ht 98 _ tt_98)
  obtain ⟨a4, h4⟩ := arr_o (ht 94 _ tt_94)
  refine ⟨fun k => match k with
    | 0 => a0
    | 1 => a1
    | 2 => a2
    | 3 => a3
    | _ => a4, fun k q hq => ?_⟩
  have hc : k < 5 := (List.getElem?_eq_some_iff.mp hq).1
  rcases (show k = 0 ∨ k = 1 ∨ k = 2 ∨ k = 3 ∨ k = 4 by omega) with rfl | rfl | rfl | rfl | rfl
  · cases hq; exact h0
  · cases hq; exact h1
  · cases hq; exact h2
  · cases hq; exact h3
  · cases hq; exact h4
/-- the heap of before, as the uniform world has it -/
def h00 (L : Nat) (xs : Nat → Int32) : Hp := (fun k j => if k = 1 then xs j else 0, fun _ _ => 0, fun _ _ => none, fun k => if k = 0 then (10, 0) else if k = 1 then (10, L) else if k < 4 then (99, 0) else if k = 4 then (98, 170) else if k = 5 then (98, 12) else (97, 0), 8, 0)
theorem law_all {L : Nat} {xs : Nat → Int32} (hL : L ≤ 3072) : T 140 600008 7302250 mL_law 0 (lap mL_law [.ref 1]) [] (h00 L xs) (fun r _ => r = some (.int 1)) := by
  refine law_start (I := INV L xs 33969) rfl (by decide) (show 0 + 33969 ≤ 7302250 by decide) hL (fun c h i => INV.o c h i) (fun c h i => INV.s c h i) (fun c h hc _ i => inv_all i (by omega) (by omega) (6 * c)) (fun h1 s8 s9 f p q => inv_0 s8 s9 f ⟨(show 1 < 8 by decide), rfl, fun i _ => rfl⟩ ⟨(show 0 < 8 by decide), rfl⟩ p (q.trans (Nat.zero_add _)))
theorem law_T {p : Program} {l : Launch} {e : Env} {R : Room} {s : State} {m : MethodId} {below : List Frame} {meth : Method} {c : Code} {b L : Nat} {xs : Nat → Int32} {Z : State → Prop} (hL : L ≤ 3072) (hx : p.tables.exec = Jvm.exec) (hb : c.code = code) (hr : meth.sig.returnType = ret) (hml : c.maxLocals = 4) (hown : s.vm.findClass RL = some m.cls) (hts : ∀ w ∈ lw_tbl, w.before #[Value.ref b] s = true) (hX : va_X b L xs s s.heap) (hbl : b < s.heap.size) (hlocks : meth.locks = false) (hgv : (Jvm.Cond.and given_1 narrow_1).before #[Value.ref b] s = true) (hnm : meth.name = "law") (hR : R.cells = 600000 ∧ R.slots = 7302250 ∧ 140 ≤ R.frames ∧ 48 * 140 ≤ R.locals)
    (kk : ∀ (H : Heap) (pc : Nat) (ls : Array Slot), decode code pc = .ok (.ireturn, 1) → W p l e R s m #[Value.ref b] below meth c H [] 600000 7302250 Z (F0 m pc ls [.int 1])) : W p l e R s m #[Value.ref b] below meth c s.heap [] 0 0 Z (entryFrame m ([Value.ref b] : List Value).toArray 4) := by
  have htb : ∀ w ∈ TB, w.before #[Value.ref b] s = true := fun w hw => hts w (List.mem_filter.mp hw).1
  obtain ⟨o, o1, hO⟩ := old_of hts hgv hX hbl
  obtain ⟨G, hG⟩ := kn_all htb
  obtain ⟨cA, hA⟩ := arr_all hts
  have hC : Cx (s.heap.size, o, G, cA, L, xs) mL_law p s m #[Value.ref b] meth c := ⟨hx, hb, hml, hown, htb, hr, hlocks, hnm, ⟨hG, hA⟩, hO G cA, Nat.le_refl _⟩
  have hRl : Rl (s.heap.size, o, G, cA, L, xs) (h00 L xs) s.heap := ⟨Nat.le_refl _, rfl, fun k k1 k2 => absurd k2 (Nat.not_lt.mpr k1), rfl, rfl, fun j _ => rfl, rfl, rfl, rfl, rfl, rfl, rfl⟩
  have hl := lv_entry ([.ref b]) (n := 4) (Nat.le_of_ble_eq_true rfl)
  rw [lg_entry_eq]
  generalize (lg_sl ([.ref b]) ++ List.replicate (4 - (lg_sl ([.ref b])).length) Slot.unset).toArray = ls at hl ⊢
  have hl : lv_has ls 4 [(0, .ref b)] := hl
  have el : lpF (s.heap.size, o, G, cA, L, xs) 0 (lap mL_law [.ref 1]) = [(0, .ref b)] := by
    show [(0, Value.ref (if 1 < 8 then o 1 else _))] = _
    rw [if_pos (by decide), o1]
  have hl : lv_has ls 4 (lpF (s.heap.size, o, G, cA, L, xs) 0 (lap mL_law [.ref 1])) := by rw [el]; exact hl
  refine law_all hL (s.heap.size, o, G, cA, L, xs) p l e R s m #[Value.ref b] below meth c s.heap [] 8 0 ls Z hC hRl va_S.rf (Nat.le_refl _) (show 8 ≤ 600008 by decide) (Nat.le_refl _) (Nat.zero_le _) hR.1 hR.2.1 hR.2.2.1 hR.2.2.2 hl ?_
  intro r h' H' locs' pc' ls' hQ hR' hS' a1 a2 a3 a4 hd
  have hQ : r = some (.int 1) := hQ
  subst hQ
  refine va_forget (fun q hq => hS'.2.2 q hq) ?_
  refine W.widen (k := 600000) (n := 7302250) (by omega) (by omega) ?_
  exact kk H' pc' ls' hd

