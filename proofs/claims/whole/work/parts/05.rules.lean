/-! the rules of T: locals, stack, arithmetic, branches -/
section RULES
variable {d N S : Nat} {M : Mi} {pc pc' : Nat} {lv : List (Option Value)} {st st' : List Value} {h : Hp} {Q : Option Value → Hp → Prop}
theorem z_lift (f : ∀ (E : Ev) (p : Program) (l : Launch) (e : Env) (R : Room) (s : State) (m : MethodId) (args : Array Value) (below : List Frame) (meth : Method) (c : Code) (H : Heap) (locs : List Loc) (cells slots : Nat) (ls : Array Slot) (Z : State → Prop), Cx E M p s m args meth c → lv_has ls M.2.2.1 (lpF E 0 lv) → W p l e R s m args below meth c H locs cells slots Z (F0 m pc' ls (st'.map (tv E))) → W p l e R s m args below meth c H locs cells slots Z (F0 m pc ls (st.map (tv E)))) (k : T d N S M pc' lv st' h Q) : T d N S M pc lv st h Q := by
  intro E p l e R s m args below meth c H locs n0 s0 ls Z hC hR hS h1 h2 h3 h4 h5 h6 h7 h8 hl hq
  exact f E p l e R s m args below meth c H locs _ _ ls Z hC hl (k E p l e R s m args below meth c H locs n0 s0 ls Z hC hR hS h1 h2 h3 h4 h5 h6 h7 h8 hl hq)
theorem z_weak {Q' : Option Value → Hp → Prop} (k : T d N S M pc lv st h Q) (hQ : ∀ r h', Q r h' → Q' r h') : T d N S M pc lv st h Q' := by
  intro E p l e R s m args below meth c H locs n0 s0 ls Z hC hR hS h1 h2 h3 h4 h5 h6 h7 h8 hl hq
  exact k E p l e R s m args below meth c H locs n0 s0 ls Z hC hR hS h1 h2 h3 h4 h5 h6 h7 h8 hl (fun r h' H' locs' pc' ls' hr => hq r h' H' locs' pc' ls' (hQ r h' hr))
theorem z_deep {d' : Nat} (k : T d N S M pc lv st h Q) (hd : d ≤ d') : T d' N S M pc lv st h Q := by
  intro E p l e R s m args below meth c H locs n0 s0 ls Z hC hR hS h1 h2 h3 h4 h5 h6 h7 h8 hl hq
  exact k E p l e R s m args below meth c H locs n0 s0 ls Z hC hR hS h1 h2 h3 h4 h5 h6 (Nat.le_trans hd h7) (Nat.le_trans (Nat.mul_le_mul_left _ hd) h8) hl hq
/-- fewer locals are known -/
theorem z_loc {lv' : List (Option Value)} (k : T d N S M pc lv' st h Q) (hl' : ∀ (i : Nat) (v : Value), lv'[i]? = some (some v) → lv[i]? = some (some v)) : T d N S M pc lv st h Q := by
  intro E p l e R s m args below meth c H locs n0 s0 ls Z hC hR hS h1 h2 h3 h4 h5 h6 h7 h8 hl hq
  refine k E p l e R s m args below meth c H locs n0 s0 ls Z hC hR hS h1 h2 h3 h4 h5 h6 h7 h8 (lv_has_sub hl ?_) hq
  rintro ⟨i, w⟩ hw
  obtain ⟨v, -, a2, a3⟩ := (lpF_mem _ 0 i w).mp hw
  exact (lpF_mem _ 0 i w).mpr ⟨v, Nat.zero_le _, by simpa using hl' i v (by simpa using a2), a3⟩

theorem z_iconst {n : Int} {v : Int32} (hd : decode M.2.1 pc = .ok (.iconst n, 1)) (hv : Int32.ofInt n = v) (k : T d N S M (pc + 1) lv (.int v :: st) h Q) : T d N S M pc lv (st) h Q :=
  z_lift (fun E p l e R s m args below meth c H locs cells slots ls Z hC hl k => lv_iconst hC.1 hC.2.1 hd hv k) k

theorem z_bipush {n : Int} {v : Int32} (hd : decode M.2.1 pc = .ok (.bipush n, 2)) (hv : (Int8.ofInt n).toInt32 = v) (k : T d N S M (pc + 2) lv (.int v :: st) h Q) : T d N S M pc lv (st) h Q :=
  z_lift (fun E p l e R s m args below meth c H locs cells slots ls Z hC hl k => lv_bipush hC.1 hC.2.1 hd hv k) k

theorem z_sipush {n : Int} {v : Int32} (hd : decode M.2.1 pc = .ok (.sipush n, 3)) (hv : (Int16.ofInt n).toInt32 = v) (k : T d N S M (pc + 3) lv (.int v :: st) h Q) : T d N S M pc lv (st) h Q :=
  z_lift (fun E p l e R s m args below meth c H locs cells slots ls Z hC hl k => lv_sipush hC.1 hC.2.1 hd hv k) k

theorem z_lconst {n : Fin 2} {v : Int64} (hd : decode M.2.1 pc = .ok (.lconst n, 1)) (hv : Int64.ofNat (n : Nat) = v) (k : T d N S M (pc + 1) lv (.long v :: st) h Q) : T d N S M pc lv (st) h Q :=
  z_lift (fun E p l e R s m args below meth c H locs cells slots ls Z hC hl k => lv_lconst hC.1 hC.2.1 hd hv k) k

theorem z_null  (hd : decode M.2.1 pc = .ok (.aconst_null, 1)) (k : T d N S M (pc + 1) lv (.null :: st) h Q) : T d N S M pc lv (st) h Q :=
  z_lift (fun E p l e R s m args below meth c H locs cells slots ls Z hC hl k => lv_null hC.1 hC.2.1 hd k) k

theorem z_ldc {index : Nat} {v : Int32} (hd : decode M.2.1 pc = .ok (.ldc index, 2)) (hw : Jvm.Cond.constant M.1.cls index v ∈ TB) (k : T d N S M (pc + 2) lv (.int v :: st) h Q) : T d N S M pc lv (st) h Q :=
  z_lift (fun E p l e R s m args below meth c H locs cells slots ls Z hC hl k => lv_ldc hC.1 hC.2.1 hC.2.2.2.1 (hC.2.2.2.2.1 _ hw) hd k) k

theorem z_ldcw {index : Nat} {v : Int32} (hd : decode M.2.1 pc = .ok (.ldc_w index, 3)) (hw : Jvm.Cond.constant M.1.cls index v ∈ TB) (k : T d N S M (pc + 3) lv (.int v :: st) h Q) : T d N S M pc lv (st) h Q :=
  z_lift (fun E p l e R s m args below meth c H locs cells slots ls Z hC hl k => lv_ldcw hC.1 hC.2.1 hC.2.2.2.1 (hC.2.2.2.2.1 _ hw) hd k) k

theorem z_ldc2 {index : Nat} {v : Int64} (hd : decode M.2.1 pc = .ok (.ldc2_w index, 3)) (hw : Jvm.Cond.constantLong M.1.cls index v ∈ TB) (k : T d N S M (pc + 3) lv (.long v :: st) h Q) : T d N S M pc lv (st) h Q :=
  z_lift (fun E p l e R s m args below meth c H locs cells slots ls Z hC hl k => lv_ldc2 hC.1 hC.2.1 hC.2.2.2.1 (hC.2.2.2.2.1 _ hw) hd k) k

theorem z_iload_n {j : Fin 4} {i : Nat} {x : Int32} (hd : decode M.2.1 pc = .ok (.iload_n j, 1)) (hi : (j : Nat) = i) (hl0 : lv[i]? = some (some (.int x))) (k : T d N S M (pc + 1) lv (.int x :: st) h Q) : T d N S M pc lv (st) h Q :=
  z_lift (fun E p l e R s m args below meth c H locs cells slots ls Z hC hl k => lv_iload_n hC.1 hC.2.1 hd hi (lpF_at hl hl0) k) k

theorem z_iload {i : Nat} {x : Int32} (hd : decode M.2.1 pc = .ok (.iload i, 2)) (hl0 : lv[i]? = some (some (.int x))) (k : T d N S M (pc + 2) lv (.int x :: st) h Q) : T d N S M pc lv (st) h Q :=
  z_lift (fun E p l e R s m args below meth c H locs cells slots ls Z hC hl k => lv_iload hC.1 hC.2.1 hd (lpF_at hl hl0) k) k

theorem z_lload_n {j : Fin 4} {i : Nat} {x : Int64} (hd : decode M.2.1 pc = .ok (.lload_n j, 1)) (hi : (j : Nat) = i) (hl0 : lv[i]? = some (some (.long x))) (k : T d N S M (pc + 1) lv (.long x :: st) h Q) : T d N S M pc lv (st) h Q :=
  z_lift (fun E p l e R s m args below meth c H locs cells slots ls Z hC hl k => lv_lload_n hC.1 hC.2.1 hd hi (lpF_at hl hl0) k) k

theorem z_lload {i : Nat} {x : Int64} (hd : decode M.2.1 pc = .ok (.lload i, 2)) (hl0 : lv[i]? = some (some (.long x))) (k : T d N S M (pc + 2) lv (.long x :: st) h Q) : T d N S M pc lv (st) h Q :=
  z_lift (fun E p l e R s m args below meth c H locs cells slots ls Z hC hl k => lv_lload hC.1 hC.2.1 hd (lpF_at hl hl0) k) k

theorem z_aload_n {j : Fin 4} {i : Nat} {x : Nat} (hd : decode M.2.1 pc = .ok (.aload_n j, 1)) (hi : (j : Nat) = i) (hl0 : lv[i]? = some (some (.ref x))) (k : T d N S M (pc + 1) lv (.ref x :: st) h Q) : T d N S M pc lv (st) h Q :=
  z_lift (fun E p l e R s m args below meth c H locs cells slots ls Z hC hl k => lv_aload_n hC.1 hC.2.1 hd hi (lpF_at hl hl0) k) k

theorem z_aload {i : Nat} {x : Nat} (hd : decode M.2.1 pc = .ok (.aload i, 2)) (hl0 : lv[i]? = some (some (.ref x))) (k : T d N S M (pc + 2) lv (.ref x :: st) h Q) : T d N S M pc lv (st) h Q :=
  z_lift (fun E p l e R s m args below meth c H locs cells slots ls Z hC hl k => lv_aload hC.1 hC.2.1 hd (lpF_at hl hl0) k) k

theorem z_aload_nN {j : Fin 4} {i : Nat} (hd : decode M.2.1 pc = .ok (.aload_n j, 1)) (hi : (j : Nat) = i) (hl0 : lv[i]? = some (some .null)) (k : T d N S M (pc + 1) lv (.null :: st) h Q) : T d N S M pc lv (st) h Q :=
  z_lift (fun E p l e R s m args below meth c H locs cells slots ls Z hC hl k => lv_aload_nN hC.1 hC.2.1 hd hi (lpF_at hl hl0) k) k

theorem z_aloadN {i : Nat} (hd : decode M.2.1 pc = .ok (.aload i, 2)) (hl0 : lv[i]? = some (some .null)) (k : T d N S M (pc + 2) lv (.null :: st) h Q) : T d N S M pc lv (st) h Q :=
  z_lift (fun E p l e R s m args below meth c H locs cells slots ls Z hC hl k => lv_aloadN hC.1 hC.2.1 hd (lpF_at hl hl0) k) k

theorem z_iadd {x y : Int32} (hd : decode M.2.1 pc = .ok (.iadd, 1)) (k : T d N S M (pc + 1) lv (.int (x + y) :: st) h Q) : T d N S M pc lv (.int y :: .int x :: st) h Q :=
  z_lift (fun E p l e R s m args below meth c H locs cells slots ls Z hC hl k => lv_iadd hC.1 hC.2.1 hd k) k

theorem z_isub {x y : Int32} (hd : decode M.2.1 pc = .ok (.isub, 1)) (k : T d N S M (pc + 1) lv (.int (x - y) :: st) h Q) : T d N S M pc lv (.int y :: .int x :: st) h Q :=
  z_lift (fun E p l e R s m args below meth c H locs cells slots ls Z hC hl k => lv_isub hC.1 hC.2.1 hd k) k

theorem z_imul {x y : Int32} (hd : decode M.2.1 pc = .ok (.imul, 1)) (k : T d N S M (pc + 1) lv (.int (x * y) :: st) h Q) : T d N S M pc lv (.int y :: .int x :: st) h Q :=
  z_lift (fun E p l e R s m args below meth c H locs cells slots ls Z hC hl k => lv_imul hC.1 hC.2.1 hd k) k

theorem z_iand {x y : Int32} (hd : decode M.2.1 pc = .ok (.iand, 1)) (k : T d N S M (pc + 1) lv (.int (x &&& y) :: st) h Q) : T d N S M pc lv (.int y :: .int x :: st) h Q :=
  z_lift (fun E p l e R s m args below meth c H locs cells slots ls Z hC hl k => lv_iand hC.1 hC.2.1 hd k) k

theorem z_ior {x y : Int32} (hd : decode M.2.1 pc = .ok (.ior, 1)) (k : T d N S M (pc + 1) lv (.int (x ||| y) :: st) h Q) : T d N S M pc lv (.int y :: .int x :: st) h Q :=
  z_lift (fun E p l e R s m args below meth c H locs cells slots ls Z hC hl k => lv_ior hC.1 hC.2.1 hd k) k

theorem z_ixor {x y : Int32} (hd : decode M.2.1 pc = .ok (.ixor, 1)) (k : T d N S M (pc + 1) lv (.int (x ^^^ y) :: st) h Q) : T d N S M pc lv (.int y :: .int x :: st) h Q :=
  z_lift (fun E p l e R s m args below meth c H locs cells slots ls Z hC hl k => lv_ixor hC.1 hC.2.1 hd k) k

theorem z_ishl {x y : Int32} (hd : decode M.2.1 pc = .ok (.ishl, 1)) (k : T d N S M (pc + 1) lv (.int (x <<< (y &&& 31)) :: st) h Q) : T d N S M pc lv (.int y :: .int x :: st) h Q :=
  z_lift (fun E p l e R s m args below meth c H locs cells slots ls Z hC hl k => lv_ishl hC.1 hC.2.1 hd k) k

theorem z_ishr {x y : Int32} (hd : decode M.2.1 pc = .ok (.ishr, 1)) (k : T d N S M (pc + 1) lv (.int (x >>> (y &&& 31)) :: st) h Q) : T d N S M pc lv (.int y :: .int x :: st) h Q :=
  z_lift (fun E p l e R s m args below meth c H locs cells slots ls Z hC hl k => lv_ishr hC.1 hC.2.1 hd k) k

theorem z_idiv {x y : Int32} (hd : decode M.2.1 pc = .ok (.idiv, 1)) (hne : ¬ y = 0) (k : T d N S M (pc + 1) lv (.int (x / y) :: st) h Q) : T d N S M pc lv (.int y :: .int x :: st) h Q :=
  z_lift (fun E p l e R s m args below meth c H locs cells slots ls Z hC hl k => lv_idiv hC.1 hC.2.1 hd hne k) k

theorem z_irem {x y : Int32} (hd : decode M.2.1 pc = .ok (.irem, 1)) (hne : ¬ y = 0) (k : T d N S M (pc + 1) lv (.int (x - x / y * y) :: st) h Q) : T d N S M pc lv (.int y :: .int x :: st) h Q :=
  z_lift (fun E p l e R s m args below meth c H locs cells slots ls Z hC hl k => lv_irem hC.1 hC.2.1 hd hne k) k

theorem z_ineg {x : Int32} (hd : decode M.2.1 pc = .ok (.ineg, 1)) (k : T d N S M (pc + 1) lv (.int (-x) :: st) h Q) : T d N S M pc lv (.int x :: st) h Q :=
  z_lift (fun E p l e R s m args below meth c H locs cells slots ls Z hC hl k => lv_ineg hC.1 hC.2.1 hd k) k

theorem z_ladd {x y : Int64} (hd : decode M.2.1 pc = .ok (.ladd, 1)) (k : T d N S M (pc + 1) lv (.long (x + y) :: st) h Q) : T d N S M pc lv (.long y :: .long x :: st) h Q :=
  z_lift (fun E p l e R s m args below meth c H locs cells slots ls Z hC hl k => lv_ladd hC.1 hC.2.1 hd k) k

theorem z_lsub {x y : Int64} (hd : decode M.2.1 pc = .ok (.lsub, 1)) (k : T d N S M (pc + 1) lv (.long (x - y) :: st) h Q) : T d N S M pc lv (.long y :: .long x :: st) h Q :=
  z_lift (fun E p l e R s m args below meth c H locs cells slots ls Z hC hl k => lv_lsub hC.1 hC.2.1 hd k) k

theorem z_lmul {x y : Int64} (hd : decode M.2.1 pc = .ok (.lmul, 1)) (k : T d N S M (pc + 1) lv (.long (x * y) :: st) h Q) : T d N S M pc lv (.long y :: .long x :: st) h Q :=
  z_lift (fun E p l e R s m args below meth c H locs cells slots ls Z hC hl k => lv_lmul hC.1 hC.2.1 hd k) k

theorem z_land {x y : Int64} (hd : decode M.2.1 pc = .ok (.land, 1)) (k : T d N S M (pc + 1) lv (.long (x &&& y) :: st) h Q) : T d N S M pc lv (.long y :: .long x :: st) h Q :=
  z_lift (fun E p l e R s m args below meth c H locs cells slots ls Z hC hl k => lv_land hC.1 hC.2.1 hd k) k

theorem z_lor {x y : Int64} (hd : decode M.2.1 pc = .ok (.lor, 1)) (k : T d N S M (pc + 1) lv (.long (x ||| y) :: st) h Q) : T d N S M pc lv (.long y :: .long x :: st) h Q :=
  z_lift (fun E p l e R s m args below meth c H locs cells slots ls Z hC hl k => lv_lor hC.1 hC.2.1 hd k) k

theorem z_ldiv {x y : Int64} (hd : decode M.2.1 pc = .ok (.ldiv, 1)) (hne : ¬ y = 0) (k : T d N S M (pc + 1) lv (.long (x / y) :: st) h Q) : T d N S M pc lv (.long y :: .long x :: st) h Q :=
  z_lift (fun E p l e R s m args below meth c H locs cells slots ls Z hC hl k => lv_ldiv hC.1 hC.2.1 hd hne k) k

theorem z_lrem {x y : Int64} (hd : decode M.2.1 pc = .ok (.lrem, 1)) (hne : ¬ y = 0) (k : T d N S M (pc + 1) lv (.long (x - x / y * y) :: st) h Q) : T d N S M pc lv (.long y :: .long x :: st) h Q :=
  z_lift (fun E p l e R s m args below meth c H locs cells slots ls Z hC hl k => lv_lrem hC.1 hC.2.1 hd hne k) k

theorem z_lneg {x : Int64} (hd : decode M.2.1 pc = .ok (.lneg, 1)) (k : T d N S M (pc + 1) lv (.long (-x) :: st) h Q) : T d N S M pc lv (.long x :: st) h Q :=
  z_lift (fun E p l e R s m args below meth c H locs cells slots ls Z hC hl k => lv_lneg hC.1 hC.2.1 hd k) k

theorem z_lshl {x : Int64} {y : Int32} (hd : decode M.2.1 pc = .ok (.lshl, 1)) (k : T d N S M (pc + 1) lv (.long (x <<< (y.toInt64 &&& 63)) :: st) h Q) : T d N S M pc lv (.int y :: .long x :: st) h Q :=
  z_lift (fun E p l e R s m args below meth c H locs cells slots ls Z hC hl k => lv_lshl hC.1 hC.2.1 hd rfl k) k

theorem z_lshr {x : Int64} {y : Int32} (hd : decode M.2.1 pc = .ok (.lshr, 1)) (k : T d N S M (pc + 1) lv (.long (x >>> (y.toInt64 &&& 63)) :: st) h Q) : T d N S M pc lv (.int y :: .long x :: st) h Q :=
  z_lift (fun E p l e R s m args below meth c H locs cells slots ls Z hC hl k => lv_lshr hC.1 hC.2.1 hd rfl k) k

theorem z_iushr {x y : Int32} (hd : decode M.2.1 pc = .ok (.iushr, 1)) (k : T d N S M (pc + 1) lv (.int ((x.toUInt32 >>> (y.toUInt32 &&& Int32.toUInt32 31)).toInt32) :: st) h Q) : T d N S M pc lv (.int y :: .int x :: st) h Q :=
  z_lift (fun E p l e R s m args below meth c H locs cells slots ls Z hC hl k => lv_iushr hC.1 hC.2.1 hd rfl k) k

theorem z_i2l {x : Int32} (hd : decode M.2.1 pc = .ok (.i2l, 1)) (k : T d N S M (pc + 1) lv (.long x.toInt64 :: st) h Q) : T d N S M pc lv (.int x :: st) h Q :=
  z_lift (fun E p l e R s m args below meth c H locs cells slots ls Z hC hl k => lv_i2l hC.1 hC.2.1 hd rfl k) k

theorem z_l2i {x : Int64} (hd : decode M.2.1 pc = .ok (.l2i, 1)) (k : T d N S M (pc + 1) lv (.int x.toInt32 :: st) h Q) : T d N S M pc lv (.long x :: st) h Q :=
  z_lift (fun E p l e R s m args below meth c H locs cells slots ls Z hC hl k => lv_l2i hC.1 hC.2.1 hd rfl k) k

theorem z_i2c {x : Int32} (hd : decode M.2.1 pc = .ok (.i2c, 1)) (k : T d N S M (pc + 1) lv (.int ((x.toUInt32 % 65536).toInt32) :: st) h Q) : T d N S M pc lv (.int x :: st) h Q :=
  z_lift (fun E p l e R s m args below meth c H locs cells slots ls Z hC hl k => lv_i2c hC.1 hC.2.1 hd rfl k) k

theorem z_lcmp {x y : Int64} (hd : decode M.2.1 pc = .ok (.lcmp, 1)) (k : T d N S M (pc + 1) lv (.int (lg_cmp x y) :: st) h Q) : T d N S M pc lv (.long y :: .long x :: st) h Q :=
  z_lift (fun E p l e R s m args below meth c H locs cells slots ls Z hC hl k => W.lcmp hC.1 hC.2.1 hd k) k

theorem z_dup {a : Value} (hd : decode M.2.1 pc = .ok (.dup, 1)) (ha : a.category = 1) (k : T d N S M (pc + 1) lv (a :: a :: st) h Q) : T d N S M pc lv (a :: st) h Q :=
  z_lift (fun E p l e R s m args below meth c H locs cells slots ls Z hC hl k => lv_dup hC.1 hC.2.1 hd (by rw [tv_cat]; exact ha) k) k

theorem z_pop {a : Value} (hd : decode M.2.1 pc = .ok (.pop, 1)) (ha : a.category = 1) (k : T d N S M (pc + 1) lv (st) h Q) : T d N S M pc lv (a :: st) h Q :=
  z_lift (fun E p l e R s m args below meth c H locs cells slots ls Z hC hl k => lv_pop hC.1 hC.2.1 hd (by rw [tv_cat]; exact ha) k) k

theorem z_dup2_11 {a b : Value} (hd : decode M.2.1 pc = .ok (.dup2, 1)) (ha : a.category = 1) (hb : b.category = 1) (k : T d N S M (pc + 1) lv (a :: b :: a :: b :: st) h Q) : T d N S M pc lv (a :: b :: st) h Q :=
  z_lift (fun E p l e R s m args below meth c H locs cells slots ls Z hC hl k => lv_dup2_11 hC.1 hC.2.1 hd (by rw [tv_cat]; exact ha) (by rw [tv_cat]; exact hb) k) k

theorem z_dup_x1 {a b : Value} (hd : decode M.2.1 pc = .ok (.dup_x1, 1)) (ha : a.category = 1) (hb : b.category = 1) (k : T d N S M (pc + 1) lv (a :: b :: a :: st) h Q) : T d N S M pc lv (a :: b :: st) h Q :=
  z_lift (fun E p l e R s m args below meth c H locs cells slots ls Z hC hl k => lv_dup_x1 hC.1 hC.2.1 hd (by rw [tv_cat]; exact ha) (by rw [tv_cat]; exact hb) k) k

theorem z_goto {off : Int} {tgt : Nat} (hd : decode M.2.1 pc = .ok (.goto off, 3)) (ht : (pc : Int) + off = (tgt : Int)) (k : T d N S M tgt lv st h Q) : T d N S M pc lv st h Q :=
  z_lift (fun E p l e R s m args below meth c H locs cells slots ls Z hC hl k => lv_goto hC.1 hC.2.1 hd ht k) k
theorem z_ifnonnull {off : Int} {tgt x : Nat} (hd : decode M.2.1 pc = .ok (.ifnonnull off, 3)) (ht : (pc : Int) + off = (tgt : Int)) (k : T d N S M tgt lv st h Q) : T d N S M pc lv (.ref x :: st) h Q :=
  z_lift (fun E p l e R s m args below meth c H locs cells slots ls Z hC hl k => lv_ifnonnull hC.1 hC.2.1 hd ht k) k
theorem z_ifnonnullN {off : Int} (hd : decode M.2.1 pc = .ok (.ifnonnull off, 3)) (k : T d N S M (pc + 3) lv st h Q) : T d N S M pc lv (.null :: st) h Q :=
  z_lift (fun E p l e R s m args below meth c H locs cells slots ls Z hC hl k => lv_ifnonnullN hC.1 hC.2.1 hd k) k
theorem z_ifnull {off : Int} {x : Nat} (hd : decode M.2.1 pc = .ok (.ifnull off, 3)) (k : T d N S M (pc + 3) lv st h Q) : T d N S M pc lv (.ref x :: st) h Q :=
  z_lift (fun E p l e R s m args below meth c H locs cells slots ls Z hC hl k => lv_ifnull hC.1 hC.2.1 hd k) k
theorem z_ifnullN {off : Int} {tgt : Nat} (hd : decode M.2.1 pc = .ok (.ifnull off, 3)) (ht : (pc : Int) + off = (tgt : Int)) (k : T d N S M tgt lv st h Q) : T d N S M pc lv (.null :: st) h Q :=
  z_lift (fun E p l e R s m args below meth c H locs cells slots ls Z hC hl k => lv_ifnullN hC.1 hC.2.1 hd ht k) k
theorem z_lookup {dflt : Int} {qs : Array (Int × Int)} {len : Nat} {x : Int32} {off : Int} {tgt : Nat} (hd : decode M.2.1 pc = .ok (.lookupswitch dflt qs, len)) (hp : (qs.toList.zip (qs.toList.drop 1)).all (fun (a, next) => a.1 < next.1) = true) (ho : Op.lookupswitch.offset qs.toList dflt x.toInt = off) (ht : (pc : Int) + off = (tgt : Int)) (k : T d N S M tgt lv st h Q) : T d N S M pc lv (.int x :: st) h Q :=
  z_lift (fun E p l e R s m args below meth c H locs cells slots ls Z hC hl k => lv_lookup hC.1 hC.2.1 hd hp ho ht k) k
theorem z_tableOut {dflt lo hi : Int} {offs : Array Int} {len : Nat} {x : Int32} {tgt : Nat} (hd : decode M.2.1 pc = .ok (.tableswitch dflt lo hi offs, len)) (hx : x.toInt < lo ∨ hi < x.toInt) (ht : (pc : Int) + dflt = (tgt : Int)) (k : T d N S M tgt lv st h Q) : T d N S M pc lv (.int x :: st) h Q :=
  z_lift (fun E p l e R s m args below meth c H locs cells slots ls Z hC hl k => lv_tableOut hC.1 hC.2.1 hd hx ht k) k
theorem z_tableIn {dflt lo hi : Int} {offs : Array Int} {len : Nat} {x : Int32} {off : Int} {tgt : Nat} (hd : decode M.2.1 pc = .ok (.tableswitch dflt lo hi offs, len)) (h1 : ¬ x.toInt < lo) (h2 : ¬ hi < x.toInt) (ho : offs[(x.toInt - lo).toNat]? = some off) (ht : (pc : Int) + off = (tgt : Int)) (k : T d N S M tgt lv st h Q) : T d N S M pc lv (.int x :: st) h Q :=
  z_lift (fun E p l e R s m args below meth c H locs cells slots ls Z hC hl k => lv_tableIn hC.1 hC.2.1 hd h1 h2 ho ht k) k

theorem z_if_eq {x : Int32} {off : Int} {tgt : Nat} (hd : decode M.2.1 pc = .ok (.ifCond .eq off, 3)) (ht : (pc : Int) + off = (tgt : Int)) (kt : x = 0 → T d N S M tgt lv st h Q) (kf : ¬ x = 0 → T d N S M (pc + 3) lv st h Q) : T d N S M pc lv (.int x :: st) h Q := by
  intro E p l e R s m args below meth c H locs n0 s0 ls Z hC hR hS h1 h2 h3 h4 h5 h6 h7 h8 hl hq
  exact lv_if_eq hC.1 hC.2.1 hd ht (fun hc => kt hc E p l e R s m args below meth c H locs n0 s0 ls Z hC hR hS h1 h2 h3 h4 h5 h6 h7 h8 hl hq) (fun hc => kf hc E p l e R s m args below meth c H locs n0 s0 ls Z hC hR hS h1 h2 h3 h4 h5 h6 h7 h8 hl hq)

theorem z_icmp_eq {x y : Int32} {off : Int} {tgt : Nat} (hd : decode M.2.1 pc = .ok (.if_icmp .eq off, 3)) (ht : (pc : Int) + off = (tgt : Int)) (kt : x = y → T d N S M tgt lv st h Q) (kf : ¬ x = y → T d N S M (pc + 3) lv st h Q) : T d N S M pc lv (.int y :: .int x :: st) h Q := by
  intro E p l e R s m args below meth c H locs n0 s0 ls Z hC hR hS h1 h2 h3 h4 h5 h6 h7 h8 hl hq
  exact lv_icmp_eq hC.1 hC.2.1 hd ht (fun hc => kt hc E p l e R s m args below meth c H locs n0 s0 ls Z hC hR hS h1 h2 h3 h4 h5 h6 h7 h8 hl hq) (fun hc => kf hc E p l e R s m args below meth c H locs n0 s0 ls Z hC hR hS h1 h2 h3 h4 h5 h6 h7 h8 hl hq)

theorem z_if_ne {x : Int32} {off : Int} {tgt : Nat} (hd : decode M.2.1 pc = .ok (.ifCond .ne off, 3)) (ht : (pc : Int) + off = (tgt : Int)) (kt : ¬ x = 0 → T d N S M tgt lv st h Q) (kf : x = 0 → T d N S M (pc + 3) lv st h Q) : T d N S M pc lv (.int x :: st) h Q := by
  intro E p l e R s m args below meth c H locs n0 s0 ls Z hC hR hS h1 h2 h3 h4 h5 h6 h7 h8 hl hq
  exact lv_if_ne hC.1 hC.2.1 hd ht (fun hc => kt hc E p l e R s m args below meth c H locs n0 s0 ls Z hC hR hS h1 h2 h3 h4 h5 h6 h7 h8 hl hq) (fun hc => kf hc E p l e R s m args below meth c H locs n0 s0 ls Z hC hR hS h1 h2 h3 h4 h5 h6 h7 h8 hl hq)

theorem z_icmp_ne {x y : Int32} {off : Int} {tgt : Nat} (hd : decode M.2.1 pc = .ok (.if_icmp .ne off, 3)) (ht : (pc : Int) + off = (tgt : Int)) (kt : ¬ x = y → T d N S M tgt lv st h Q) (kf : x = y → T d N S M (pc + 3) lv st h Q) : T d N S M pc lv (.int y :: .int x :: st) h Q := by
  intro E p l e R s m args below meth c H locs n0 s0 ls Z hC hR hS h1 h2 h3 h4 h5 h6 h7 h8 hl hq
  exact lv_icmp_ne hC.1 hC.2.1 hd ht (fun hc => kt hc E p l e R s m args below meth c H locs n0 s0 ls Z hC hR hS h1 h2 h3 h4 h5 h6 h7 h8 hl hq) (fun hc => kf hc E p l e R s m args below meth c H locs n0 s0 ls Z hC hR hS h1 h2 h3 h4 h5 h6 h7 h8 hl hq)

theorem z_if_lt {x : Int32} {off : Int} {tgt : Nat} (hd : decode M.2.1 pc = .ok (.ifCond .lt off, 3)) (ht : (pc : Int) + off = (tgt : Int)) (kt : x < 0 → T d N S M tgt lv st h Q) (kf : ¬ x < 0 → T d N S M (pc + 3) lv st h Q) : T d N S M pc lv (.int x :: st) h Q := by
  intro E p l e R s m args below meth c H locs n0 s0 ls Z hC hR hS h1 h2 h3 h4 h5 h6 h7 h8 hl hq
  exact lv_if_lt hC.1 hC.2.1 hd ht (fun hc => kt hc E p l e R s m args below meth c H locs n0 s0 ls Z hC hR hS h1 h2 h3 h4 h5 h6 h7 h8 hl hq) (fun hc => kf hc E p l e R s m args below meth c H locs n0 s0 ls Z hC hR hS h1 h2 h3 h4 h5 h6 h7 h8 hl hq)

theorem z_icmp_lt {x y : Int32} {off : Int} {tgt : Nat} (hd : decode M.2.1 pc = .ok (.if_icmp .lt off, 3)) (ht : (pc : Int) + off = (tgt : Int)) (kt : x < y → T d N S M tgt lv st h Q) (kf : ¬ x < y → T d N S M (pc + 3) lv st h Q) : T d N S M pc lv (.int y :: .int x :: st) h Q := by
  intro E p l e R s m args below meth c H locs n0 s0 ls Z hC hR hS h1 h2 h3 h4 h5 h6 h7 h8 hl hq
  exact lv_icmp_lt hC.1 hC.2.1 hd ht (fun hc => kt hc E p l e R s m args below meth c H locs n0 s0 ls Z hC hR hS h1 h2 h3 h4 h5 h6 h7 h8 hl hq) (fun hc => kf hc E p l e R s m args below meth c H locs n0 s0 ls Z hC hR hS h1 h2 h3 h4 h5 h6 h7 h8 hl hq)

theorem z_if_ge {x : Int32} {off : Int} {tgt : Nat} (hd : decode M.2.1 pc = .ok (.ifCond .ge off, 3)) (ht : (pc : Int) + off = (tgt : Int)) (kt : 0 ≤ x → T d N S M tgt lv st h Q) (kf : ¬ 0 ≤ x → T d N S M (pc + 3) lv st h Q) : T d N S M pc lv (.int x :: st) h Q := by
  intro E p l e R s m args below meth c H locs n0 s0 ls Z hC hR hS h1 h2 h3 h4 h5 h6 h7 h8 hl hq
  exact lv_if_ge hC.1 hC.2.1 hd ht (fun hc => kt hc E p l e R s m args below meth c H locs n0 s0 ls Z hC hR hS h1 h2 h3 h4 h5 h6 h7 h8 hl hq) (fun hc => kf hc E p l e R s m args below meth c H locs n0 s0 ls Z hC hR hS h1 h2 h3 h4 h5 h6 h7 h8 hl hq)

theorem z_icmp_ge {x y : Int32} {off : Int} {tgt : Nat} (hd : decode M.2.1 pc = .ok (.if_icmp .ge off, 3)) (ht : (pc : Int) + off = (tgt : Int)) (kt : y ≤ x → T d N S M tgt lv st h Q) (kf : ¬ y ≤ x → T d N S M (pc + 3) lv st h Q) : T d N S M pc lv (.int y :: .int x :: st) h Q := by
  intro E p l e R s m args below meth c H locs n0 s0 ls Z hC hR hS h1 h2 h3 h4 h5 h6 h7 h8 hl hq
  exact lv_icmp_ge hC.1 hC.2.1 hd ht (fun hc => kt hc E p l e R s m args below meth c H locs n0 s0 ls Z hC hR hS h1 h2 h3 h4 h5 h6 h7 h8 hl hq) (fun hc => kf hc E p l e R s m args below meth c H locs n0 s0 ls Z hC hR hS h1 h2 h3 h4 h5 h6 h7 h8 hl hq)

theorem z_if_gt {x : Int32} {off : Int} {tgt : Nat} (hd : decode M.2.1 pc = .ok (.ifCond .gt off, 3)) (ht : (pc : Int) + off = (tgt : Int)) (kt : 0 < x → T d N S M tgt lv st h Q) (kf : ¬ 0 < x → T d N S M (pc + 3) lv st h Q) : T d N S M pc lv (.int x :: st) h Q := by
  intro E p l e R s m args below meth c H locs n0 s0 ls Z hC hR hS h1 h2 h3 h4 h5 h6 h7 h8 hl hq
  exact lv_if_gt hC.1 hC.2.1 hd ht (fun hc => kt hc E p l e R s m args below meth c H locs n0 s0 ls Z hC hR hS h1 h2 h3 h4 h5 h6 h7 h8 hl hq) (fun hc => kf hc E p l e R s m args below meth c H locs n0 s0 ls Z hC hR hS h1 h2 h3 h4 h5 h6 h7 h8 hl hq)

theorem z_icmp_gt {x y : Int32} {off : Int} {tgt : Nat} (hd : decode M.2.1 pc = .ok (.if_icmp .gt off, 3)) (ht : (pc : Int) + off = (tgt : Int)) (kt : y < x → T d N S M tgt lv st h Q) (kf : ¬ y < x → T d N S M (pc + 3) lv st h Q) : T d N S M pc lv (.int y :: .int x :: st) h Q := by
  intro E p l e R s m args below meth c H locs n0 s0 ls Z hC hR hS h1 h2 h3 h4 h5 h6 h7 h8 hl hq
  exact lv_icmp_gt hC.1 hC.2.1 hd ht (fun hc => kt hc E p l e R s m args below meth c H locs n0 s0 ls Z hC hR hS h1 h2 h3 h4 h5 h6 h7 h8 hl hq) (fun hc => kf hc E p l e R s m args below meth c H locs n0 s0 ls Z hC hR hS h1 h2 h3 h4 h5 h6 h7 h8 hl hq)

theorem z_if_le {x : Int32} {off : Int} {tgt : Nat} (hd : decode M.2.1 pc = .ok (.ifCond .le off, 3)) (ht : (pc : Int) + off = (tgt : Int)) (kt : x ≤ 0 → T d N S M tgt lv st h Q) (kf : ¬ x ≤ 0 → T d N S M (pc + 3) lv st h Q) : T d N S M pc lv (.int x :: st) h Q := by
  intro E p l e R s m args below meth c H locs n0 s0 ls Z hC hR hS h1 h2 h3 h4 h5 h6 h7 h8 hl hq
  exact lv_if_le hC.1 hC.2.1 hd ht (fun hc => kt hc E p l e R s m args below meth c H locs n0 s0 ls Z hC hR hS h1 h2 h3 h4 h5 h6 h7 h8 hl hq) (fun hc => kf hc E p l e R s m args below meth c H locs n0 s0 ls Z hC hR hS h1 h2 h3 h4 h5 h6 h7 h8 hl hq)

theorem z_icmp_le {x y : Int32} {off : Int} {tgt : Nat} (hd : decode M.2.1 pc = .ok (.if_icmp .le off, 3)) (ht : (pc : Int) + off = (tgt : Int)) (kt : x ≤ y → T d N S M tgt lv st h Q) (kf : ¬ x ≤ y → T d N S M (pc + 3) lv st h Q) : T d N S M pc lv (.int y :: .int x :: st) h Q := by
  intro E p l e R s m args below meth c H locs n0 s0 ls Z hC hR hS h1 h2 h3 h4 h5 h6 h7 h8 hl hq
  exact lv_icmp_le hC.1 hC.2.1 hd ht (fun hc => kt hc E p l e R s m args below meth c H locs n0 s0 ls Z hC hR hS h1 h2 h3 h4 h5 h6 h7 h8 hl hq) (fun hc => kf hc E p l e R s m args below meth c H locs n0 s0 ls Z hC hR hS h1 h2 h3 h4 h5 h6 h7 h8 hl hq)

theorem z_istore_n {j : Fin 4} {i : Nat} {x : Int32} (hd : decode M.2.1 pc = .ok (.istore_n j, 1)) (hi : (j : Nat) = i) (hn : i < M.2.2.1) (k : T d N S M (pc + 1) (st1 lv i (.int x)) st h Q) : T d N S M pc lv (.int x :: st) h Q := by
  intro E p l e R s m args below meth c H locs n0 s0 ls Z hC hR hS h1 h2 h3 h4 h5 h6 h7 h8 hl hq
  exact lv_istore_n hC.1 hC.2.1 hd hi hl hn rfl (fun ls' hl' => k E p l e R s m args below meth c H locs n0 s0 ls' Z hC hR hS h1 h2 h3 h4 h5 h6 h7 h8 (lv_has_sub hl' st1_sub) hq)

theorem z_istore {i : Nat} {x : Int32} (hd : decode M.2.1 pc = .ok (.istore i, 2)) (hn : i < M.2.2.1) (k : T d N S M (pc + 2) (st1 lv i (.int x)) st h Q) : T d N S M pc lv (.int x :: st) h Q := by
  intro E p l e R s m args below meth c H locs n0 s0 ls Z hC hR hS h1 h2 h3 h4 h5 h6 h7 h8 hl hq
  exact lv_istore hC.1 hC.2.1 hd hl hn rfl (fun ls' hl' => k E p l e R s m args below meth c H locs n0 s0 ls' Z hC hR hS h1 h2 h3 h4 h5 h6 h7 h8 (lv_has_sub hl' st1_sub) hq)

theorem z_lstore_n {j : Fin 4} {i : Nat} {x : Int64} (hd : decode M.2.1 pc = .ok (.lstore_n j, 1)) (hi : (j : Nat) = i) (hn : i + 1 < M.2.2.1) (k : T d N S M (pc + 1) (st2 lv i (.long x)) st h Q) : T d N S M pc lv (.long x :: st) h Q := by
  intro E p l e R s m args below meth c H locs n0 s0 ls Z hC hR hS h1 h2 h3 h4 h5 h6 h7 h8 hl hq
  exact lv_lstore_n hC.1 hC.2.1 hd hi hl hn rfl (fun ls' hl' => k E p l e R s m args below meth c H locs n0 s0 ls' Z hC hR hS h1 h2 h3 h4 h5 h6 h7 h8 (lv_has_sub hl' st2_sub) hq)

theorem z_lstore {i : Nat} {x : Int64} (hd : decode M.2.1 pc = .ok (.lstore i, 2)) (hn : i + 1 < M.2.2.1) (k : T d N S M (pc + 2) (st2 lv i (.long x)) st h Q) : T d N S M pc lv (.long x :: st) h Q := by
  intro E p l e R s m args below meth c H locs n0 s0 ls Z hC hR hS h1 h2 h3 h4 h5 h6 h7 h8 hl hq
  exact lv_lstore hC.1 hC.2.1 hd hl hn rfl (fun ls' hl' => k E p l e R s m args below meth c H locs n0 s0 ls' Z hC hR hS h1 h2 h3 h4 h5 h6 h7 h8 (lv_has_sub hl' st2_sub) hq)

theorem z_astore_n {j : Fin 4} {i : Nat} {x : Nat} (hd : decode M.2.1 pc = .ok (.astore_n j, 1)) (hi : (j : Nat) = i) (hn : i < M.2.2.1) (k : T d N S M (pc + 1) (st1 lv i (.ref x)) st h Q) : T d N S M pc lv (.ref x :: st) h Q := by
  intro E p l e R s m args below meth c H locs n0 s0 ls Z hC hR hS h1 h2 h3 h4 h5 h6 h7 h8 hl hq
  exact lv_astore_n hC.1 hC.2.1 hd hi hl hn rfl (fun ls' hl' => k E p l e R s m args below meth c H locs n0 s0 ls' Z hC hR hS h1 h2 h3 h4 h5 h6 h7 h8 (lv_has_sub hl' st1_sub) hq)

theorem z_astore {i : Nat} {x : Nat} (hd : decode M.2.1 pc = .ok (.astore i, 2)) (hn : i < M.2.2.1) (k : T d N S M (pc + 2) (st1 lv i (.ref x)) st h Q) : T d N S M pc lv (.ref x :: st) h Q := by
  intro E p l e R s m args below meth c H locs n0 s0 ls Z hC hR hS h1 h2 h3 h4 h5 h6 h7 h8 hl hq
  exact lv_astore hC.1 hC.2.1 hd hl hn rfl (fun ls' hl' => k E p l e R s m args below meth c H locs n0 s0 ls' Z hC hR hS h1 h2 h3 h4 h5 h6 h7 h8 (lv_has_sub hl' st1_sub) hq)

theorem z_astore_nN {j : Fin 4} {i : Nat} (hd : decode M.2.1 pc = .ok (.astore_n j, 1)) (hi : (j : Nat) = i) (hn : i < M.2.2.1) (k : T d N S M (pc + 1) (st1 lv i (.null)) st h Q) : T d N S M pc lv (.null :: st) h Q := by
  intro E p l e R s m args below meth c H locs n0 s0 ls Z hC hR hS h1 h2 h3 h4 h5 h6 h7 h8 hl hq
  exact lv_astore_nN hC.1 hC.2.1 hd hi hl hn rfl (fun ls' hl' => k E p l e R s m args below meth c H locs n0 s0 ls' Z hC hR hS h1 h2 h3 h4 h5 h6 h7 h8 (lv_has_sub hl' st1_sub) hq)

theorem z_astoreN {i : Nat} (hd : decode M.2.1 pc = .ok (.astore i, 2)) (hn : i < M.2.2.1) (k : T d N S M (pc + 2) (st1 lv i (.null)) st h Q) : T d N S M pc lv (.null :: st) h Q := by
  intro E p l e R s m args below meth c H locs n0 s0 ls Z hC hR hS h1 h2 h3 h4 h5 h6 h7 h8 hl hq
  exact lv_astoreN hC.1 hC.2.1 hd hl hn rfl (fun ls' hl' => k E p l e R s m args below meth c H locs n0 s0 ls' Z hC hR hS h1 h2 h3 h4 h5 h6 h7 h8 (lv_has_sub hl' st1_sub) hq)

theorem z_iinc {i : Nat} {n : Int} {x v : Int32} (hd : decode M.2.1 pc = .ok (.iinc i n, 3)) (hl0 : lv[i]? = some (some (.int x))) (hv : x + Int32.ofInt n = v) (hn : i < M.2.2.1) (k : T d N S M (pc + 3) (st1 lv i (.int v)) st h Q) : T d N S M pc lv st h Q := by
  intro E p l e R s m args below meth c H locs n0 s0 ls Z hC hR hS h1 h2 h3 h4 h5 h6 h7 h8 hl hq
  have hm : (i, Value.int x) ∈ lpF E 0 lv := (lpF_mem lv 0 i _).mpr ⟨_, Nat.zero_le _, by simpa using hl0, rfl⟩
  obtain ⟨q, hq0⟩ := List.getElem?_of_mem hm
  exact lv_iinc hC.1 hC.2.1 hd hl hq0 hv hn rfl (fun ls' hl' => k E p l e R s m args below meth c H locs n0 s0 ls' Z hC hR hS h1 h2 h3 h4 h5 h6 h7 h8 (lv_has_sub hl' st1_sub) hq)
/-- the end of a method -/
theorem z_ret {r : Option Value} (hd : decode M.2.1 pc = .ok (rop r, 1)) (hq : Q r h) : T d N S M pc lv r.toList h Q := by
  intro E p l e R s m args below meth c H locs n0 s0 ls Z hC hR hS h1 h2 h3 h4 h5 h6 h7 h8 hl hk
  exact hk r h H locs pc ls hq hR hS h1 h2 h3 h4 hd
theorem z_iret {x : Int32} (hd : decode M.2.1 pc = .ok (.ireturn, 1)) (hq : Q (some (.int x)) h) : T d N S M pc lv [.int x] h Q := z_ret (r := some (.int x)) hd hq
theorem z_lret {x : Int64} (hd : decode M.2.1 pc = .ok (.lreturn, 1)) (hq : Q (some (.long x)) h) : T d N S M pc lv [.long x] h Q := z_ret (r := some (.long x)) hd hq
theorem z_aret {x : Nat} (hd : decode M.2.1 pc = .ok (.areturn, 1)) (hq : Q (some (.ref x)) h) : T d N S M pc lv [.ref x] h Q := z_ret (r := some (.ref x)) hd hq
theorem z_aretN (hd : decode M.2.1 pc = .ok (.areturn, 1)) (hq : Q (some .null) h) : T d N S M pc lv [.null] h Q := z_ret (r := some .null) hd hq
theorem z_vret (hd : decode M.2.1 pc = .ok (.return_, 1)) (hq : Q none h) : T d N S M pc lv [] h Q := z_ret (r := none) hd hq
end RULES
