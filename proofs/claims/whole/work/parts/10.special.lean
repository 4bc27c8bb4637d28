/-! the rules of T: Object's constructor, Math, arraycopy, the statics, texts -/
section SPECIAL
variable {d N S : Nat} {M : Mi} {pc : Nat} {lv : List (Option Value)} {st : List Value} {h : Hp} {Q : Option Value → Hp → Prop} {k index : Nat}
theorem z_objInit {x : Nat} (hL : Cond.methodLink M.1.cls index Lib.objectInit ∈ TB) (hin : Cond.instanceMethod Lib.objectInit ∈ TB) (hcd : Cond.code Lib.objectInit ⟨#[0xb1]⟩ 1 none ∈ TB) (hd : decode M.2.1 pc = .ok (.invokespecial index, 3)) (hdd : 1 ≤ d) (hroom : (st.map fun v => v.category).sum ≤ 8) (kk : T d N S M (pc + 3) lv st h Q) : T d N S M pc lv (.ref x :: st) h Q := by
  intro E p l e R s m args below meth cc H locs n0 s0 ls Z hC hR hS h1 h2 h3 h4 h5 h6' h7 h8 hl hq
  have kk := kk E p l e R s m args below meth cc H locs n0 s0 ls Z hC hR hS h1 h2 h3 h4 h5 h6' h7 h8 hl hq
  have hr := lv_room (m := m) (pc := pc) (ls := ls) (rest := List.map (tv E) (.ref x :: st)) (st := st.map (tv E)) (by rw [sum_tv]; exact hroom)
  exact W.objInit hC.1 hC.2.1 hC.2.2.2.1 (cxW hC hL) (cxW hC hin) (cxW hC hcd) rfl (by rw [hC.2.2.1]; exact hl.1) rfl hd (by omega) (by omega) kk
theorem z_mmax {x y : Int32} (hL : Cond.methodLink M.1.cls index Lib.Math.max.name ∈ TB) (hstt : Cond.static Lib.Math.max.name ∈ TB) (hini : Cond.initialized "java/lang/Math" ∈ TB) (hcd : Cond.code Lib.Math.max.name Lib.Math.max.code 2 (some .int) ∈ TB) (hd : decode M.2.1 pc = .ok (.invokestatic index, 3)) (hdd : 1 ≤ d) (hroom : (st.map fun v => v.category).sum ≤ 8) (kk : T d N S M (pc + 3) lv (.int (if x < y then y else x) :: st) h Q) : T d N S M pc lv (.int y :: .int x :: st) h Q := by
  intro E p l e R s m args below meth cc H locs n0 s0 ls Z hC hR hS h1 h2 h3 h4 h5 h6' h7 h8 hl hq
  have kk := kk E p l e R s m args below meth cc H locs n0 s0 ls Z hC hR hS h1 h2 h3 h4 h5 h6' h7 h8 hl hq
  exact va_mmax hC.1 hC.2.1 (by rw [hC.2.2.1]; exact hl.1.symm) hC.2.2.2.1 (cxW hC hL) (cxW hC hstt) (cxW hC hini) (cxW hC hcd) (by omega) (by rw [sum_tv]; omega) (by omega) (by omega) hd kk
theorem z_mmin {x y : Int32} (hL : Cond.methodLink M.1.cls index Lib.Math.min.name ∈ TB) (hstt : Cond.static Lib.Math.min.name ∈ TB) (hini : Cond.initialized "java/lang/Math" ∈ TB) (hcd : Cond.code Lib.Math.min.name Lib.Math.min.code 2 (some .int) ∈ TB) (hd : decode M.2.1 pc = .ok (.invokestatic index, 3)) (hdd : 1 ≤ d) (hroom : (st.map fun v => v.category).sum ≤ 8) (kk : T d N S M (pc + 3) lv (.int (if y < x then y else x) :: st) h Q) : T d N S M pc lv (.int y :: .int x :: st) h Q := by
  intro E p l e R s m args below meth cc H locs n0 s0 ls Z hC hR hS h1 h2 h3 h4 h5 h6' h7 h8 hl hq
  have kk := kk E p l e R s m args below meth cc H locs n0 s0 ls Z hC hR hS h1 h2 h3 h4 h5 h6' h7 h8 hl hq
  exact va_mmin hC.1 hC.2.1 (by rw [hC.2.2.1]; exact hl.1.symm) hC.2.2.2.1 (cxW hC hL) (cxW hC hstt) (cxW hC hini) (cxW hC hcd) (by omega) (by rw [sum_tv]; omega) (by omega) (by omega) hd kk
theorem z_mmaxL {x y : Int64} (hL : Cond.methodLink M.1.cls index Lib.MathLoose.max_long.x ∈ TB) (hstt : Cond.static Lib.MathLoose.max_long.x ∈ TB) (hini : Cond.initialized "java/lang/Math" ∈ TB) (hcd : Cond.code Lib.MathLoose.max_long.x Lib.MathLoose.max_long.code 4 (some .long) ∈ TB) (hd : decode M.2.1 pc = .ok (.invokestatic index, 3)) (hdd : 1 ≤ d) (hroom : (st.map fun v => v.category).sum ≤ 8) (kk : T d N S M (pc + 3) lv (.long (if y < x then x else y) :: st) h Q) : T d N S M pc lv (.long y :: .long x :: st) h Q := by
  intro E p l e R s m args below meth cc H locs n0 s0 ls Z hC hR hS h1 h2 h3 h4 h5 h6' h7 h8 hl hq
  have kk := kk E p l e R s m args below meth cc H locs n0 s0 ls Z hC hR hS h1 h2 h3 h4 h5 h6' h7 h8 hl hq
  exact va_mmax_long hC.1 hC.2.1 (by rw [hC.2.2.1]; exact hl.1.symm) hC.2.2.2.1 (cxW hC hL) (cxW hC hstt) (cxW hC hini) (cxW hC hcd) (by omega) (by rw [sum_tv]; omega) (by omega) (by omega) hd kk
theorem z_mminL {x y : Int64} (hL : Cond.methodLink M.1.cls index Lib.MathLoose.min_long.x ∈ TB) (hstt : Cond.static Lib.MathLoose.min_long.x ∈ TB) (hini : Cond.initialized "java/lang/Math" ∈ TB) (hcd : Cond.code Lib.MathLoose.min_long.x Lib.MathLoose.min_long.code 4 (some .long) ∈ TB) (hd : decode M.2.1 pc = .ok (.invokestatic index, 3)) (hdd : 1 ≤ d) (hroom : (st.map fun v => v.category).sum ≤ 8) (kk : T d N S M (pc + 3) lv (.long (if y < x then y else x) :: st) h Q) : T d N S M pc lv (.long y :: .long x :: st) h Q := by
  intro E p l e R s m args below meth cc H locs n0 s0 ls Z hC hR hS h1 h2 h3 h4 h5 h6' h7 h8 hl hq
  have kk := kk E p l e R s m args below meth cc H locs n0 s0 ls Z hC hR hS h1 h2 h3 h4 h5 h6' h7 h8 hl hq
  exact va_mmin_long hC.1 hC.2.1 (by rw [hC.2.2.1]; exact hl.1.symm) hC.2.2.2.1 (cxW hC hL) (cxW hC hstt) (cxW hC hini) (cxW hC hcd) (by omega) (by rw [sum_tv]; omega) (by omega) (by omega) hd kk
/-- System.arraycopy of whole numbers; into itself too -/
theorem z_copy {k0 n0' n1' : Nat} {sp dp n : Int32} (hL : Cond.methodLink M.1.cls index arraycopyName ∈ TB) (hnat : Cond.native arraycopyName ∈ TB) (hstt : Cond.static arraycopyName ∈ TB) (hini : Cond.initialized "java/lang/System" ∈ TB) (hd : decode M.2.1 pc = .ok (.invokestatic index, 3)) (hdd : 1 ≤ d) (hroom : (st.map fun v => v.category).sum ≤ 8) (h60 : 8 ≤ k0) (hk0 : k0 < pn h) (hK0 : pK h k0 = (10, n0')) (h61 : 8 ≤ k) (hk1 : k < pn h) (hK1 : pK h k = (10, n1'))
    (g1 : ¬ sp < 0) (g2 : ¬ dp < 0) (g3 : ¬ n < 0) (g4 : sp.toNatClampNeg + n.toNatClampNeg ≤ n0') (g5 : dp.toNatClampNeg + n.toNatClampNeg ≤ n1')
    (kk : T d N S M (pc + 3) lv st (sA h k (va_cpy (pI h k0) (pI h k) sp.toNatClampNeg dp.toNatClampNeg n.toNatClampNeg)) Q) : T d N S M pc lv (.int n :: .int dp :: .ref k :: .int sp :: .ref k0 :: st) h Q := by
  intro E p l e R s m args below meth cc H locs n0 s0 ls Z hC hR hS h1 h2 h3 h4 h5 h6' h7 h8 hl hq
  have hc0 := hR.2.2.1 k0 h60 hk0
  rw [pe_i hK0] at hc0
  have hc1 := hR.2.2.1 k h61 hk1
  rw [pe_i hK1] at hc1
  have hc0 : H[ph E k0]? = some (vp_cell (E.2.2.2.1 0) (n0', .inl (pI h k0))) := hc0
  have hc1 : H[ph E k]? = some (vp_cell (E.2.2.2.1 0) (n1', .inl (pI h k))) := hc1
  have nn : ∀ z : Int32, ¬ z < 0 → z.toInt = (z.toNatClampNeg : Int) := by
    intro z hz
    have hz0 : (0 : Int) ≤ z.toInt := by
      have := Int32.not_lt.mp hz
      simpa using Int32.le_iff_toInt_le.mp this
    show z.toInt = ((z.toInt.toNat : Nat) : Int)
    omega
  obtain ⟨-, kc0, hkc0, cm0, hkk0⟩ := ((cxK hC).2 0 _ rfl).1 n0' (fun j => .int (pI h k0 j))
  obtain ⟨-, kc1, hkc1, cm1, hkk1⟩ := ((cxK hC).2 0 _ rfl).1 n1' (fun j => .int (pI h k j))
  intro T hT X
  obtain ⟨vm', X', step⟩ := X.arraycopy hC.1 hC.2.2.2.1 (cxW hC hL) (cxW hC hnat) (cxW hC hstt) (cxW hC hini) (src := ph E k0) (dst := ph E k) (cs := vp_cell (E.2.2.2.1 0) (n0', .inl (pI h k0))) (cd := vp_cell (E.2.2.2.1 0) (n1', .inl (pI h k))) (srcPos := sp) (destPos := dp) (n := n) (by rw [hT]; exact hc0) (by rw [hT]; exact hc1)
    (fun _ h => by cases h) (fun _ h => by cases h) (fun h => by cases h) (fun h => by cases h) hkc0 hkc1 hkk0 hkk1 (by simp [refKind]) g1 g2 g3
    (by rw [nn sp g1, nn n g3]; show ¬ _ > ((arrV _ n0' (fun j => .int (pI h k0 j))).slots.size : Int); rw [arrV_size]; omega)
    (by rw [nn dp g2, nn n g3]; show ¬ _ > ((arrV _ n1' (fun j => .int (pI h k j))).slots.size : Int); rw [arrV_size]; omega)
    (fun vm₁ _ i hi => by
      have e : (vp_cell (E.2.2.2.1 0) (n0', .inl (pI h k0))).slots.getD (sp.toNatClampNeg + i) .null = .int (pI h k0 (sp.toNatClampNeg + i)) := by
        show (arrV _ n0' (fun j => .int (pI h k0 j))).slots.getD _ _ = _
        rw [Array.getD_eq_getD_getElem?, arrV_read _ _ (by omega)]
        rfl
      refine ⟨?_, ?_⟩
      · rw [e]
        rfl
      · rw [e]
        exact trivial)
    (g := F0 m pc ls (List.map (tv E) (.int n :: .int dp :: .ref k :: .int sp :: .ref k0 :: st))) rfl (by rw [hC.2.2.1]; exact hl.1) (rest := st.map (tv E)) rfl (by rw [hC.2.1]; exact hd) (by omega) (by rw [sum_tv]; show 2 * 0 + _ + (7 + 11) ≤ _; omega)
  have e1 : copied (vp_cell (E.2.2.2.1 0) (n0', .inl (pI h k0))) (vp_cell (E.2.2.2.1 0) (n1', .inl (pI h k))) sp dp n = vp_cell (E.2.2.2.1 0) (n1', .inl (va_cpy (pI h k0) (pI h k) sp.toNatClampNeg dp.toNatClampNeg n.toNatClampNeg)) := va_copied (fun z => .int z) _ _ _ _ g4
  rw [e1] at X' step
  have hlt : ph E k < H.size := (Array.getElem?_eq_some_iff.mp hc1).1
  generalize hH1 : H.setIfInBounds (ph E k) (vp_cell (E.2.2.2.1 0) (n1', .inl (va_cpy (pI h k0) (pI h k) sp.toNatClampNeg dp.toNatClampNeg n.toNatClampNeg))) = H1
  have hheap : ((T.setVm vm').setCell (ph E k) (vp_cell (E.2.2.2.1 0) (n1', .inl (va_cpy (pI h k0) (pI h k) sp.toNatClampNeg dp.toNatClampNeg n.toNatClampNeg)))).heap = H1 := by rw [← hH1, ← hT]; rfl
  have oq : ∀ q : Nat, q ≠ ph E k → H1[q]? = H[q]? := fun q hq => by rw [← hH1]; simp [Array.getElem?_setIfInBounds, Ne.symm hq]
  have hz : H1.size = H.size := by rw [← hH1]; simp
  have hR' : Rl E (sA h k (va_cpy (pI h k0) (pI h k) sp.toNatClampNeg dp.toNatClampNeg n.toNatClampNeg)) H1 := by
    refine rl_upd hR h61 hz oq ?_ rfl (fun _ => rfl) (fun b => by rw [pI_sA, if_neg (by omega)]) (fun b hb => pe_congr (by rw [pI_sA, if_neg hb]) rfl rfl rfl)
    rw [pe_i (show pK (sA h k _) k = (10, n1') from hK1), pI_sA, if_pos rfl]
    show H1[ph E k]? = some (vp_cell _ _)
    rw [← hH1]
    simp [Array.getElem?_setIfInBounds, hlt]
  obtain ⟨t, a1, b1⟩ := kk E p l e R s m args below meth cc H1 _ n0 s0 ls Z hC hR' ⟨by rw [hz]; exact hS.1, fun q b1 b2 => by
      rw [oq q (fun e => b2 (by rw [e]; exact ph_A h61))]
      exact hS.2.1 q b1 b2, fun q hq => by
      rcases List.mem_append.mp hq with hh | hh
      · exact hS.2.2 q hh
      · obtain ⟨z, -, hz⟩ := List.mem_map.mp hh
        rw [← hz]
        exact ph_A h61⟩ h1 h2 h3 h4 h5 h6' h7 h8 hl hq _ hheap X'
  exact ⟨t, step t a1, b1⟩
/-- the empty law -/
theorem z_noLaw (hL : Cond.fieldLink M.1.cls index RX8 "NO_LAW" "[I" ∈ TB ∨ ∃ host, Cond.fieldLinkNest M.1.cls index RX8 "NO_LAW" "[I" host ∈ TB) (hd : decode M.2.1 pc = .ok (.getstatic index, 3)) (kk : T d N S M (pc + 3) lv (.ref 0 :: st) h Q) : T d N S M pc lv st h Q := by
  intro E p l e R s m args below meth cc H locs n0 s0 ls Z hC hR hS h1 h2 h3 h4 h5 h6' h7 h8 hl hq
  have kk := kk E p l e R s m args below meth cc H locs n0 s0 ls Z hC hR hS h1 h2 h3 h4 h5 h6' h7 h8 hl hq
  have hO := (cxO hC).2.1
  rcases hL with hL | ⟨host, hL⟩
  · exact va_gets hC.1 hC.2.1 hO hS hC.2.2.2.1 (cxW hC hL) (fun x hx => hx) hd kk
  · exact va_getsN hC.1 hC.2.1 hO hS hC.2.2.2.1 (cxW hC hL) (fun x hx => hx) hd kk
/-- the texts: their addresses 2 and 3, their bytes' 4 and 5 -/
theorem z_ldcW (hM : M.1.cls = RX6) (hd : decode M.2.1 pc = .ok (.ldc 70, 2)) (kk : T d N S M (pc + 2) lv (.ref 2 :: st) h Q) : T d N S M pc lv st h Q :=
  z_lift (fun E p l e R s m args below meth c H locs cells slots ls Z hC hl k => va_ldcS hC.1 hC.2.1 hC.2.2.2.1 (by rw [hM]; exact (cxO hC).2.2.2.2.1) hd k) kk
theorem z_ldcS (hM : M.1.cls = RX6) (hd : decode M.2.1 pc = .ok (.ldc 55, 2)) (kk : T d N S M (pc + 2) lv (.ref 3 :: st) h Q) : T d N S M pc lv st h Q :=
  z_lift (fun E p l e R s m args below meth c H locs cells slots ls Z hC hl k => va_ldcS hC.1 hC.2.1 hC.2.2.2.1 (by rw [hM]; exact (cxO hC).2.2.2.2.2.1) hd k) kk
def sLen (i : Nat) : Nat := ([170, 12] : List Nat).getD i 0
def sByt (i : Nat) : List Int32 := ([wBy, sBy] : List (List Int32)).getD i []
theorem z_strV {i : Nat} (hi : i < 2) (hL : Cond.fieldLink M.1.cls index "java/lang/String" "value" "[B" ∈ TB) (hd : decode M.2.1 pc = .ok (.getfield index, 3)) (kk : T d N S M (pc + 3) lv (.ref (4 + i) :: st) h Q) : T d N S M pc lv (.ref (2 + i) :: st) h Q := by
  intro E p l e R s m args below meth cc H locs n0 s0 ls Z hC hR hS h1 h2 h3 h4 h5 h6' h7 h8 hl hq
  have kk := kk E p l e R s m args below meth cc H locs n0 s0 ls Z hC hR hS h1 h2 h3 h4 h5 h6' h7 h8 hl hq
  have hO := ((cxO hC).2.2.2.2.2.2.1.1 i hi).2.2.1
  rw [List.map_cons, show tv E (.ref (4 + i)) = .ref (E.2.1 (4 + i)) by show Value.ref (ph E (4 + i)) = _; unfold ph; rw [if_pos (by omega)]] at kk
  rw [List.map_cons, show tv E (.ref (2 + i)) = .ref (E.2.1 (2 + i)) by show Value.ref (ph E (2 + i)) = _; unfold ph; rw [if_pos (by omega)]]
  exact vk_getf hC.1 hC.2.1 hO hS hC.2.2.2.1 (cxW hC hL) (fun x hx => hx) hd kk
theorem z_strC {i : Nat} (hi : i < 2) (hL : Cond.fieldLink M.1.cls index "java/lang/String" "coder" "B" ∈ TB) (hd : decode M.2.1 pc = .ok (.getfield index, 3)) (kk : T d N S M (pc + 3) lv (.int 0 :: st) h Q) : T d N S M pc lv (.ref (2 + i) :: st) h Q := by
  intro E p l e R s m args below meth cc H locs n0 s0 ls Z hC hR hS h1 h2 h3 h4 h5 h6' h7 h8 hl hq
  have kk := kk E p l e R s m args below meth cc H locs n0 s0 ls Z hC hR hS h1 h2 h3 h4 h5 h6' h7 h8 hl hq
  have hO := ((cxO hC).2.2.2.2.2.2.1.1 i hi).2.1
  rw [List.map_cons, show tv E (.ref (2 + i)) = .ref (E.2.1 (2 + i)) by show Value.ref (ph E (2 + i)) = _; unfold ph; rw [if_pos (by omega)]]
  exact vk_getf hC.1 hC.2.1 hO hS hC.2.2.2.1 (cxW hC hL) (fun x hx => hx) hd kk
theorem z_compact (hL : Cond.fieldLink M.1.cls index "java/lang/String" "COMPACT_STRINGS" "Z" ∈ TB) (hd : decode M.2.1 pc = .ok (.getstatic index, 3)) (kk : T d N S M (pc + 3) lv (.int 1 :: st) h Q) : T d N S M pc lv st h Q := by
  intro E p l e R s m args below meth cc H locs n0 s0 ls Z hC hR hS h1 h2 h3 h4 h5 h6' h7 h8 hl hq
  have kk := kk E p l e R s m args below meth cc H locs n0 s0 ls Z hC hR hS h1 h2 h3 h4 h5 h6' h7 h8 hl hq
  exact va_gets hC.1 hC.2.1 (cxO hC).2.2.2.2.2.2.2.1 hS hC.2.2.2.1 (cxW hC hL) (fun x hx => hx) hd kk
theorem z_form (hL : Cond.fieldLink M.1.cls index "jdk/internal/util/Preconditions" "SIOOBE_FORMATTER" "Ljava/util/function/BiFunction;" ∈ TB) (hd : decode M.2.1 pc = .ok (.getstatic index, 3)) (k1 : T d N S M (pc + 3) lv (.null :: st) h Q) (k2 : T d N S M (pc + 3) lv (.ref 6 :: st) h Q) : T d N S M pc lv st h Q := by
  intro E p l e R s m args below meth cc H locs n0 s0 ls Z hC hR hS h1 h2 h3 h4 h5 h6' h7 h8 hl hq
  have k1 := k1 E p l e R s m args below meth cc H locs n0 s0 ls Z hC hR hS h1 h2 h3 h4 h5 h6' h7 h8 hl hq
  have k2 := k2 E p l e R s m args below meth cc H locs n0 s0 ls Z hC hR hS h1 h2 h3 h4 h5 h6' h7 h8 hl hq
  rcases (cxO hC).2.2.2.2.2.2.2.2 with hO | hO
  · exact va_gets hC.1 hC.2.1 hO hS hC.2.2.2.1 (cxW hC hL) (fun x hx => hx) hd k1
  · exact va_gets hC.1 hC.2.1 hO hS hC.2.2.2.1 (cxW hC hL) (fun x hx => hx) hd k2
theorem z_strLen {i : Nat} (hi : i < 2) {v : Int32} (hv : Int32.ofNat (sLen i) = v) (hd : decode M.2.1 pc = .ok (.arraylength, 1)) (kk : T d N S M (pc + 1) lv (.int v :: st) h Q) : T d N S M pc lv (.ref (4 + i) :: st) h Q := by
  intro E p l e R s m args below meth cc H locs n0 s0 ls Z hC hR hS h1 h2 h3 h4 h5 h6' h7 h8 hl hq
  have kk := kk E p l e R s m args below meth cc H locs n0 s0 ls Z hC hR hS h1 h2 h3 h4 h5 h6' h7 h8 hl hq
  have hO := ((cxO hC).2.2.2.2.2.2.1.1 i hi).2.2.2
  rw [List.map_cons, show tv E (.ref (4 + i)) = .ref (E.2.1 (4 + i)) by show Value.ref (ph E (4 + i)) = _; unfold ph; rw [if_pos (by omega)]]
  exact va_tlen hC.1 hC.2.1 hO hS hv hd kk
theorem z_strAt {i : Nat} (hi : i < 2) {j : Int32} (hj : vp_in j (sLen i)) (hd : decode M.2.1 pc = .ok (.baload, 1)) (kk : T d N S M (pc + 1) lv (.int ((sByt i).getD j.toNatClampNeg 0) :: st) h Q) : T d N S M pc lv (.int j :: .ref (4 + i) :: st) h Q := by
  intro E p l e R s m args below meth cc H locs n0 s0 ls Z hC hR hS h1 h2 h3 h4 h5 h6' h7 h8 hl hq
  have kk := kk E p l e R s m args below meth cc H locs n0 s0 ls Z hC hR hS h1 h2 h3 h4 h5 h6' h7 h8 hl hq
  have hO := ((cxO hC).2.2.2.2.2.2.1.1 i hi).2.2.2
  rw [List.map_cons, List.map_cons, show tv E (.ref (4 + i)) = .ref (E.2.1 (4 + i)) by show Value.ref (ph E (4 + i)) = _; unfold ph; rw [if_pos (by omega)]]
  exact va_tb hC.1 hC.2.1 hO hS hj rfl hd kk
/-- a method of a text -/
theorem z_callT {d' n i : Nat} {M' : Mi} {as : List Value} {r0 : Option Value} {h1 : Hp} (hC' : CL M' n) (hL : LK M.1.cls index M') (hin : Cond.instanceMethod M'.1 ∈ TB) (hsel : Cond.selects M'.1.cls M'.1 M'.1 ∈ TB) (hcl : M'.1.cls = "java/lang/String") (hi : i < 2) (hd : decode M.2.1 pc = .ok (.invokevirtual index, 3)) (hn : as.length = n) (hla : (la (.ref (2 + i) :: as)).length ≤ M'.2.2.1) (hroom : (st.map fun v => v.category).sum ≤ 8) (hdd : d' + 1 ≤ d) (hT : T d' (pn h1) (ps h1) M' 0 (lap M' (.ref (2 + i) :: as)) [] h (fun r h' => r = r0 ∧ h' = h1)) (hok : rok M'.2.2.2 r0) (hg : pn h ≤ pn h1 ∧ ps h ≤ ps h1 ∧ pn h1 ≤ N ∧ ps h1 ≤ S) (kk : T d N S M (pc + 3) lv (r0.toList ++ st) h1 Q) : T d N S M pc lv (as.reverse ++ .ref (2 + i) :: st) h Q := by
  refine z_callVr hC' hL hin hsel (fun E p s m args meth cc H locs hC hR hS => ?_) hd hn hla hroom hdd hT hok hg kk
  rw [show ph E (2 + i) = E.2.1 (2 + i) by unfold ph; rw [if_pos (by omega)], hcl]
  exact vk_recv (i := i) (cxO hC).2.2.2.2.2.2.1 hi hS
end SPECIAL
