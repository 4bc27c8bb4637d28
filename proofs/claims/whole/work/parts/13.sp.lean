/-! contracts of methods in the uniform world -/
/-- an object of class c; an array of kind t with n places -/
def IO (h : Hp) (c k : Nat) : Prop := 8 ≤ k ∧ k < pn h ∧ (pK h k).1 = c
def IA (h : Hp) (t n k : Nat) : Prop := 8 ≤ k ∧ k < pn h ∧ pK h k = (t, n)
/-- method M with arguments as, begun in h, ends with r0 in h1; at most d frames deep -/
def Sp (d : Nat) (M : Mi) (as : List Value) (h : Hp) (r0 : Option Value) (h1 : Hp) : Prop := ∀ (N S : Nat) (Q : Option Value → Hp → Prop), pn h1 ≤ N → ps h1 ≤ S → Q r0 h1 → T d N S M 0 (lap M as) [] h Q
/-- the cells stay as they are but for what they hold of whole numbers -/
def SS (h h1 : Hp) : Prop := h1.2.2 = h.2.2
theorem SS.rf {h : Hp} : SS h h := rfl
theorem SS.tr {a b c : Hp} (h1 : SS a b) (h2 : SS b c) : SS a c := h2.trans h1
theorem SS.sI {h h1 : Hp} {k i : Nat} {v : Int32} (hs : SS h h1) : SS h (sI h1 k i v) := hs
theorem SS.sJ {h h1 : Hp} {k i : Nat} {v : Int64} (hs : SS h h1) : SS h (sJ h1 k i v) := hs
theorem SS.sA {h h1 : Hp} {k : Nat} {f : Nat → Int32} (hs : SS h h1) : SS h (sA h1 k f) := hs
theorem SS.n {h h1 : Hp} (hs : SS h h1) : pn h1 = pn h := by unfold pn; rw [hs]
theorem SS.s {h h1 : Hp} (hs : SS h h1) : ps h1 = ps h := by unfold ps; rw [hs]
theorem SS.K {h h1 : Hp} (hs : SS h h1) : pK h1 = pK h := by unfold pK; rw [hs]
theorem SS.R {h h1 : Hp} (hs : SS h h1) : pR h1 = pR h := by unfold pR; rw [hs]
theorem SS.O {h h1 : Hp} {c k : Nat} (hs : SS h h1) (ho : IO h c k) : IO h1 c k := by unfold IO; rw [hs.n, hs.K]; exact ho
theorem SS.A {h h1 : Hp} {t n k : Nat} (hs : SS h h1) (ho : IA h t n k) : IA h1 t n k := by unfold IA; rw [hs.n, hs.K]; exact ho
theorem Sp.deep {d d' : Nat} {M : Mi} {as : List Value} {h h1 : Hp} {r0 : Option Value} (hs : Sp d M as h r0 h1) (hd : d ≤ d') : Sp d' M as h r0 h1 := fun N S Q a b c => z_deep (hs N S Q a b c) hd
section SPR
variable {d d' N S : Nat} {M M' : Mi} {pc : Nat} {lv : List (Option Value)} {st : List Value} {h h1 : Hp} {Q : Option Value → Hp → Prop} {k c i index n : Nat} {as : List Value} {r0 : Option Value}
theorem y_getI (hF : FL M.1.cls index c i) (hd : decode M.2.1 pc = .ok (.getfield index, 3)) (ht : tyC c i = .int ∨ tyC c i = .boolean) (ho : IO h c k) (kk : T d N S M (pc + 3) lv (.int (pI h k i) :: st) h Q) : T d N S M pc lv (.ref k :: st) h Q := z_getI hF hd ht ho.1 ho.2.1 ho.2.2 kk
theorem y_getJ (hF : FL M.1.cls index c i) (hd : decode M.2.1 pc = .ok (.getfield index, 3)) (ht : tyC c i = .long) (ho : IO h c k) (kk : T d N S M (pc + 3) lv (.long (pJ h k i) :: st) h Q) : T d N S M pc lv (.ref k :: st) h Q := z_getJ hF hd ht ho.1 ho.2.1 ho.2.2 kk
theorem y_getR {x : Nat} (hF : FL M.1.cls index c i) (hd : decode M.2.1 pc = .ok (.getfield index, 3)) (ht : isR (tyC c i) = true) (ho : IO h c k) (hx : pR h k i = some x) (kk : T d N S M (pc + 3) lv (.ref x :: st) h Q) : T d N S M pc lv (.ref k :: st) h Q := z_getR hF hd ht ho.1 ho.2.1 ho.2.2 hx kk
theorem y_getN (hF : FL M.1.cls index c i) (hd : decode M.2.1 pc = .ok (.getfield index, 3)) (ht : isR (tyC c i) = true) (ho : IO h c k) (hx : pR h k i = none) (kk : T d N S M (pc + 3) lv (.null :: st) h Q) : T d N S M pc lv (.ref k :: st) h Q := z_getN hF hd ht ho.1 ho.2.1 ho.2.2 hx kk
theorem y_putI {v : Int32} (hF : FL M.1.cls index c i) (hd : decode M.2.1 pc = .ok (.putfield index, 3)) (hfin : fin c i = false ∨ (M.1.name = "<init>" ∧ (vwCl[c]?).map (fun q => q.1) = some M.1.cls)) (ht : tyC c i = .int ∨ (tyC c i = .boolean ∧ (v = 0 ∨ v = 1))) (ho : IO h c k) (kk : T d N S M (pc + 3) lv st (sI h k i v) Q) : T d N S M pc lv (.int v :: .ref k :: st) h Q := z_putI hF hd hfin ht ho.1 ho.2.1 ho.2.2 kk
theorem y_putJ {v : Int64} (hF : FL M.1.cls index c i) (hd : decode M.2.1 pc = .ok (.putfield index, 3)) (hfin : fin c i = false ∨ (M.1.name = "<init>" ∧ (vwCl[c]?).map (fun q => q.1) = some M.1.cls)) (ht : tyC c i = .long) (ho : IO h c k) (kk : T d N S M (pc + 3) lv st (sJ h k i v) Q) : T d N S M pc lv (.long v :: .ref k :: st) h Q := z_putJ hF hd hfin ht ho.1 ho.2.1 ho.2.2 kk
theorem y_putR {x : Nat} (hF : FL M.1.cls index c i) (hd : decode M.2.1 pc = .ok (.putfield index, 3)) (hfin : fin c i = false ∨ (M.1.name = "<init>" ∧ (vwCl[c]?).map (fun q => q.1) = some M.1.cls)) (ht : isR (tyC c i) = true) (ho : IO h c k) (kk : T d N S M (pc + 3) lv st (sR h k i (some x)) Q) : T d N S M pc lv (.ref x :: .ref k :: st) h Q := z_putR hF hd hfin ht ho.1 ho.2.1 ho.2.2 kk
theorem y_iald {j : Int32} (hd : decode M.2.1 pc = .ok (.iaload, 1)) (ha : IA h 10 n k) (hj : vp_in j n) (kk : T d N S M (pc + 1) lv (.int (pI h k j.toNatClampNeg) :: st) h Q) : T d N S M pc lv (.int j :: .ref k :: st) h Q := z_iald hd ha.2.1 ha.2.2 hj kk
theorem y_lald {j : Int32} (hd : decode M.2.1 pc = .ok (.laload, 1)) (ha : IA h 11 n k) (hj : vp_in j n) (kk : T d N S M (pc + 1) lv (.long (pJ h k j.toNatClampNeg) :: st) h Q) : T d N S M pc lv (.int j :: .ref k :: st) h Q := z_lald hd ha.1 ha.2.1 ha.2.2 hj kk
theorem y_zald {j : Int32} (hd : decode M.2.1 pc = .ok (.baload, 1)) (ha : IA h 12 n k) (hj : vp_in j n) (kk : T d N S M (pc + 1) lv (.int (pI h k j.toNatClampNeg) :: st) h Q) : T d N S M pc lv (.int j :: .ref k :: st) h Q := z_zald hd ha.1 ha.2.1 ha.2.2 hj kk
theorem y_aaldW {x : Nat} {j : Int32} (hd : decode M.2.1 pc = .ok (.aaload, 1)) (ha : IA h 14 n k) (hj : vp_in j n) (hx : pR h k j.toNatClampNeg = some x) (kk : T d N S M (pc + 1) lv (.ref x :: st) h Q) : T d N S M pc lv (.int j :: .ref k :: st) h Q := z_aald hd ha.1 ha.2.1 (Or.inr ha.2.2) hj hx kk
theorem y_aaldT {x : Nat} {j : Int32} (hd : decode M.2.1 pc = .ok (.aaload, 1)) (ha : IA h 13 n k) (hj : vp_in j n) (hx : pR h k j.toNatClampNeg = some x) (kk : T d N S M (pc + 1) lv (.ref x :: st) h Q) : T d N S M pc lv (.int j :: .ref k :: st) h Q := z_aald hd ha.1 ha.2.1 (Or.inl ha.2.2) hj hx kk
theorem y_iast {j x : Int32} (hd : decode M.2.1 pc = .ok (.iastore, 1)) (ha : IA h 10 n k) (hj : vp_in j n) (kk : T d N S M (pc + 1) lv st (sI h k j.toNatClampNeg x) Q) : T d N S M pc lv (.int x :: .int j :: .ref k :: st) h Q := z_iast hd ha.1 ha.2.1 ha.2.2 hj kk
theorem y_zast {j x : Int32} (hd : decode M.2.1 pc = .ok (.bastore, 1)) (ha : IA h 12 n k) (hj : vp_in j n) (hx : x = 0 ∨ x = 1) (kk : T d N S M (pc + 1) lv st (sI h k j.toNatClampNeg x) Q) : T d N S M pc lv (.int x :: .int j :: .ref k :: st) h Q := z_zast hd ha.1 ha.2.1 ha.2.2 hj hx kk
theorem y_last {j : Int32} {x : Int64} (hd : decode M.2.1 pc = .ok (.lastore, 1)) (ha : IA h 11 n k) (hj : vp_in j n) (kk : T d N S M (pc + 1) lv st (sJ h k j.toNatClampNeg x) Q) : T d N S M pc lv (.long x :: .int j :: .ref k :: st) h Q := z_last hd ha.1 ha.2.1 ha.2.2 hj kk
theorem y_alen {t : Nat} {v : Int32} (hd : decode M.2.1 pc = .ok (.arraylength, 1)) (ha : IA h t n k) (ht : 10 ≤ t ∧ t < 15) (hv : Int32.ofNat n = v) (kk : T d N S M (pc + 1) lv (.int v :: st) h Q) : T d N S M pc lv (.ref k :: st) h Q := z_alen hd ha.2.1 ha.2.2 ht hv kk
theorem y_callS (hC' : CL M' n) (hL : LK M.1.cls index M') (hst : Cond.static M'.1 ∈ TB) (hd : decode M.2.1 pc = .ok (.invokestatic index, 3)) (hn : as.length = n) (hla : (la as).length ≤ M'.2.2.1) (hroom : (st.map fun v => v.category).sum ≤ 8) (hdd : d + 1 ≤ d') (hT : Sp d M' as h r0 h1) (hok : rok M'.2.2.2 r0) (hg : pn h ≤ pn h1 ∧ ps h ≤ ps h1 ∧ pn h1 ≤ N ∧ ps h1 ≤ S) (kk : T d' N S M (pc + 3) lv (r0.toList ++ st) h1 Q) : T d' N S M pc lv (as.reverse ++ st) h Q :=
  z_callS hC' hL hst hd hn hla hroom hdd (hT _ _ _ (Nat.le_refl _) (Nat.le_refl _) ⟨rfl, rfl⟩) hok hg kk
theorem y_callV {ci : Nat} (hC' : CL M' n) (hL : LK M.1.cls index M') (hin : Cond.instanceMethod M'.1 ∈ TB) (hsel : Cond.selects M'.1.cls M'.1 M'.1 ∈ TB) (hci : (vwCl[ci]?).map (fun q => q.1) = some M'.1.cls ∧ ci < 10) (hd : decode M.2.1 pc = .ok (.invokevirtual index, 3)) (ho : IO h ci k) (hn : as.length = n) (hla : (la (.ref k :: as)).length ≤ M'.2.2.1) (hroom : (st.map fun v => v.category).sum ≤ 8) (hdd : d + 1 ≤ d') (hT : Sp d M' (.ref k :: as) h r0 h1) (hok : rok M'.2.2.2 r0) (hg : pn h ≤ pn h1 ∧ ps h ≤ ps h1 ∧ pn h1 ≤ N ∧ ps h1 ≤ S) (kk : T d' N S M (pc + 3) lv (r0.toList ++ st) h1 Q) : T d' N S M pc lv (as.reverse ++ .ref k :: st) h Q :=
  z_callV hC' hL hin hsel hci hd ho.1 ho.2.1 ho.2.2 hn hla hroom hdd (hT _ _ _ (Nat.le_refl _) (Nat.le_refl _) ⟨rfl, rfl⟩) hok hg kk
theorem y_callI (hC' : CL M' n) (hL : LK M.1.cls index M') (hin : Cond.instanceMethod M'.1 ∈ TB) (hnm : M'.1.name = "<init>") (hrt : M'.2.2.2 = none) (hd : decode M.2.1 pc = .ok (.invokespecial index, 3)) (hn : as.length = n) (hla : (la (.ref k :: as)).length ≤ M'.2.2.1) (hroom : (st.map fun v => v.category).sum ≤ 8) (hdd : d + 1 ≤ d') (hT : Sp d M' (.ref k :: as) h none h1) (hg : pn h ≤ pn h1 ∧ ps h ≤ ps h1 ∧ pn h1 ≤ N ∧ ps h1 ≤ S) (kk : T d' N S M (pc + 3) lv st h1 Q) : T d' N S M pc lv (as.reverse ++ .ref k :: st) h Q :=
  z_callI hC' hL hin hnm hrt hd hn hla hroom hdd (hT _ _ _ (Nat.le_refl _) (Nat.le_refl _) ⟨rfl, rfl⟩) hg kk
theorem rok_i {x : Int32} : rok (some .int) (some (.int x)) := ⟨_, rfl, rfl⟩
theorem rok_z {x : Int32} (hx : x = 0 ∨ x = 1) : rok (some .boolean) (some (.int x)) := ⟨_, rfl, by rcases hx with hx | hx <;> rw [hx] <;> decide⟩
theorem rok_l {x : Int64} : rok (some .long) (some (.long x)) := rfl
theorem rok_v : rok none none := rfl
/-- nothing is made -/
theorem hg_ss (hs : SS h h1) (hN : pn h ≤ N) (hS : ps h ≤ S) : pn h ≤ pn h1 ∧ ps h ≤ ps h1 ∧ pn h1 ≤ N ∧ ps h1 ≤ S := by rw [hs.n, hs.s]; exact ⟨Nat.le_refl _, Nat.le_refl _, hN, hS⟩
end SPR
