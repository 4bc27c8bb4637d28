/-! the three laws of the class: their pieces (walks by program: wip/whole/gen59.py) -/
/-- the reckoner's shape -/
def RK (h : Hp) : Prop := IO h 3 481 ∧ pR h 481 0 = some 482 ∧ IA h 10 36 482 ∧ pR h 481 1 = some 483 ∧ IA h 10 303 483
theorem SS.rk {h h1 : Hp} (hs : SS h h1) (r : RK h) : RK h1 := ⟨hs.O r.1, by rw [hs.R]; exact r.2.1, hs.A r.2.2.1, by rw [hs.R]; exact r.2.2.2.1, hs.A r.2.2.2.2⟩
/-- how many numbers a clause of a sort has -/
def nCol (s : Nat) : Nat := if s = 3 ∨ s = 4 ∨ s = 6 ∨ s = 7 then 2 else if s = 5 then 5 else if s = 8 then 3 else if s = 9 then 1 else 0
/-- the empty law, which lies in the heap of before -/
def I0 (h : Hp) (k : Nat) : Prop := k < pn h ∧ pK h k = (10, 0)
theorem SS.Z {h h1 : Hp} {k : Nat} (hs : SS h h1) (q : I0 h k) : I0 h1 k := by unfold I0; rw [hs.n, hs.K]; exact q
/-- a text of the class tells what the reference's row tells -/
def TXC (h : Hp) (tf : Nat → Int32) (t x : Nat) : Prop := 501 ≤ x ∧ IO h 5 x ∧ (pR h x 0 = some (x + 1) ∧ RwS h (x + 1) 6 24 ∧ RwC h (x + 1) 6 24 (cnt tf t) ∧ ∀ k s, k < cnt tf t → tf (753 * t + 1 + 6 * k) = nI s → s ≤ 9 → pI h (x + 1 + 1) (k * 6 + 0) = nI (s + 1) ∧ ∀ c, 1 ≤ c → c ≤ nCol s → pI h (x + 1 + 1) (k * 6 + c) = tf (753 * t + 1 + 6 * k + c)) ∧ ∀ s, s ≤ 2 → ∃ c, pR h x (s + 1) = some c ∧ ((fK tf t s < cnt tf t ∧ 501 ≤ c ∧ LC h (s = 0) (lO tf t (fK tf t s)) (lV tf t (fK tf t s)) (lM tf t (fK tf t s)) c) ∨ (¬ fK tf t s < cnt tf t ∧ I0 h c))
theorem LC.fr {h h1 : Hp} {C : Prop} {O V : Nat → Nat} {m c : Nat} (hl : LC h C O V m c) (hs : SS h h1) (e : pI h1 c = pI h c) : LC h1 C O V m c := ⟨hs.A hl.1, hl.2.1, hl.2.2.1, fun i hi => by rw [e]; exact hl.2.2.2.1 i hi, hl.2.2.2.2⟩
theorem TXC.fr {h h1 : Hp} {tf : Nat → Int32} {t x : Nat} (ht : TXC h tf t x) (hs : SS h h1) (e : ∀ k, 501 ≤ k → pI h1 k = pI h k) : TXC h1 tf t x := by
  obtain ⟨t1, t2, ⟨t3, t4, t5, t6⟩, t7⟩ := ht
  refine ⟨t1, hs.O t2, ⟨by rw [hs.R]; exact t3, hs.rw t4, t5.fr (e _ (by omega)), fun k s h1 h2 h3 => ?_⟩, fun s hs3 => ?_⟩
  · rw [e _ (by omega)]; exact t6 k s h1 h2 h3
  · obtain ⟨c, hc, q⟩ := t7 s hs3
    refine ⟨c, by rw [hs.R]; exact hc, ?_⟩
    rcases q with ⟨q1, q2, q3⟩ | ⟨q1, q2⟩
    · exact Or.inl ⟨q1, q2, q3.fr hs (e _ q2)⟩
    · exact Or.inr ⟨q1, hs.Z q2⟩
/-- of the class's market, what the laws look at besides a world -/
def MO (h : Hp) (a : Fl) (tf : Nat → Int32) : Prop := RwV h 18 2 8 (a 0) a 110 ∧ pI h 9 9 = nI (a 2) ∧ pI h 9 10 = cI a 3 ∧ (∀ t, t < a 2 → ∃ x, pR h 26 t = some x ∧ TXC h tf t x)
theorem MV.mo {h : Hp} {a : Fl} {tf : Nat → Int32} (hv : MV h 9 a (TXC h tf)) : MO h a tf := ⟨hv.2.2.2.2.1, hv.2.2.2.2.2.2.2.2.1, hv.2.2.2.2.2.2.2.2.2.1, hv.2.2.2.2.2.2.2.2.2.2⟩
theorem MO.fr {h h1 : Hp} {a : Fl} {tf : Nat → Int32} (hv : MO h a tf) (hs : SS h h1) (e9 : pI h1 9 = pI h 9) (e1 : pI h1 18 = pI h 18) (e2 : pI h1 19 = pI h 19) (e : ∀ k, 501 ≤ k → pI h1 k = pI h k) : MO h1 a tf := by
  refine ⟨hv.1.fr e1 e2, ?_, ?_, fun t ht => ?_⟩
  · rw [e9]; exact hv.2.1
  · rw [e9]; exact hv.2.2.1
  · obtain ⟨x, hx, q⟩ := hv.2.2.2 t ht
    exact ⟨x, by rw [hs.R]; exact hx, q.fr hs e⟩
theorem MO.cg {h : Hp} {a a' : Fl} {tf : Nat → Int32} (hv : MO h a tf) (h0 : a 0 ≤ 8) (e : ∀ i, (i = 0 ∨ i = 2 ∨ i = 3 ∨ (110 ≤ i ∧ i < 126)) → a' i = a i) : MO h a' tf := by
  obtain ⟨m1, m2, m3, m4⟩ := hv
  refine ⟨?_, ?_, ?_, ?_⟩
  · rw [e 0 (by omega)]
    exact m1.cg (fun i hi => (e _ (by omega)).symm)
  · rw [e 2 (by omega)]; exact m2
  · rw [m3]
    show nI (a 3) - 1 = nI (a' 3) - 1
    rw [e 3 (by omega)]
  · rw [e 2 (by omega)]; exact m4

def us (x y : Int32) : Int32 := (x.toUInt32 >>> (y.toUInt32 &&& Int32.toUInt32 31)).toInt32
def bc1 (x : Int32) : Int32 := x - (us x 1 &&& 1431655765)
def bc2 (x : Int32) : Int32 := (x &&& 858993459) + (us x 2 &&& 858993459)
def bc3 (x : Int32) : Int32 := (x + us x 4) &&& 252645135
def bc4 (x y : Int32) : Int32 := x + us x y
theorem bc_val : ∀ n, n < 256 → bc4 (bc4 (bc3 (bc2 (bc1 (nI n)))) 8) 16 &&& 63 = nI (pcn n) := by decide +kernel

theorem s_bitCount {h : Hp} {d n : Nat} (hn : n < 256) : Sp d mJ6_bitCount_0f7a4 [.int (nI n)] h (some (.int (nI (pcn n)))) h := by
  intro N S Q hN hS hQ
  refine z_iload_n dJ6_bitCount_0f7a4_0 rfl rfl ?_
  refine z_iload_n dJ6_bitCount_0f7a4_1 rfl rfl ?_
  refine z_iconst (v := 1) dJ6_bitCount_0f7a4_2 (by decide) ?_
  refine z_iushr dJ6_bitCount_0f7a4_3 ?_
  refine z_ldcw (v := 1431655765) dJ6_bitCount_0f7a4_4 Kc_J6_265 ?_
  refine z_iand dJ6_bitCount_0f7a4_7 ?_
  refine z_isub dJ6_bitCount_0f7a4_8 ?_
  refine z_istore_n dJ6_bitCount_0f7a4_9 rfl (Nat.le_of_ble_eq_true rfl) ?_
  refine z_iload_n dJ6_bitCount_0f7a4_10 rfl rfl ?_
  refine z_ldcw (v := 858993459) dJ6_bitCount_0f7a4_11 Kc_J6_266 ?_
  refine z_iand dJ6_bitCount_0f7a4_14 ?_
  refine z_iload_n dJ6_bitCount_0f7a4_15 rfl rfl ?_
  refine z_iconst (v := 2) dJ6_bitCount_0f7a4_16 (by decide) ?_
  refine z_iushr dJ6_bitCount_0f7a4_17 ?_
  refine z_ldcw (v := 858993459) dJ6_bitCount_0f7a4_18 Kc_J6_266 ?_
  refine z_iand dJ6_bitCount_0f7a4_21 ?_
  refine z_iadd dJ6_bitCount_0f7a4_22 ?_
  refine z_istore_n dJ6_bitCount_0f7a4_23 rfl (Nat.le_of_ble_eq_true rfl) ?_
  refine z_iload_n dJ6_bitCount_0f7a4_24 rfl rfl ?_
  refine z_iload_n dJ6_bitCount_0f7a4_25 rfl rfl ?_
  refine z_iconst (v := 4) dJ6_bitCount_0f7a4_26 (by decide) ?_
  refine z_iushr dJ6_bitCount_0f7a4_27 ?_
  refine z_iadd dJ6_bitCount_0f7a4_28 ?_
  refine z_ldcw (v := 252645135) dJ6_bitCount_0f7a4_29 Kc_J6_267 ?_
  refine z_iand dJ6_bitCount_0f7a4_32 ?_
  refine z_istore_n dJ6_bitCount_0f7a4_33 rfl (Nat.le_of_ble_eq_true rfl) ?_
  refine z_iload_n dJ6_bitCount_0f7a4_34 rfl rfl ?_
  refine z_iload_n dJ6_bitCount_0f7a4_35 rfl rfl ?_
  refine z_bipush (v := 8) dJ6_bitCount_0f7a4_36 (by decide) ?_
  refine z_iushr dJ6_bitCount_0f7a4_38 ?_
  refine z_iadd dJ6_bitCount_0f7a4_39 ?_
  refine z_istore_n dJ6_bitCount_0f7a4_40 rfl (Nat.le_of_ble_eq_true rfl) ?_
  refine z_iload_n dJ6_bitCount_0f7a4_41 rfl rfl ?_
  refine z_iload_n dJ6_bitCount_0f7a4_42 rfl rfl ?_
  refine z_bipush (v := 16) dJ6_bitCount_0f7a4_43 (by decide) ?_
  refine z_iushr dJ6_bitCount_0f7a4_45 ?_
  refine z_iadd dJ6_bitCount_0f7a4_46 ?_
  refine z_istore_n dJ6_bitCount_0f7a4_47 rfl (Nat.le_of_ble_eq_true rfl) ?_
  refine z_iload_n dJ6_bitCount_0f7a4_48 rfl rfl ?_
  refine z_bipush (v := 63) dJ6_bitCount_0f7a4_49 (by decide) ?_
  refine z_iand dJ6_bitCount_0f7a4_51 ?_
  refine z_iret dJ6_bitCount_0f7a4_52 ?_
  rw [← bc_val n hn] at hQ
  exact hQ

theorem s_tell {h : Hp} {d t : Nat} {v : Int32} (hr : RK h) (ht : t < 36) : Sp d mX3_tell [.ref 481, .int (nI t), .int v] h none (sI h 482 t v) := by
  intro N S Q hN hS hQ
  refine z_iload_n dX3_tell_0 rfl rfl ?_
  refine z_if_lt dX3_tell_1 rfl (fun c => absurd c (Int32.not_lt.mpr (nI_pos' (by omega)))) (fun _ => ?_)
  refine z_iload_n dX3_tell_4 rfl rfl ?_
  refine z_aload_n dX3_tell_5 rfl rfl ?_
  refine y_getR FX3_9 dX3_tell_6 rfl hr.1 hr.2.1 ?_
  refine y_alen dX3_tell_9 hr.2.2.1 ⟨Nat.le_of_ble_eq_true rfl, Nat.le_of_ble_eq_true rfl⟩ rfl ?_
  refine z_icmp_ge dX3_tell_10 rfl (fun c => absurd c (fun q => absurd ((nI_leI (a := 36) (by omega) (by omega)).mp q) (by omega))) (fun _ => ?_)
  refine z_aload_n dX3_tell_13 rfl rfl ?_
  refine y_getR FX3_9 dX3_tell_14 rfl hr.1 hr.2.1 ?_
  refine z_iload_n dX3_tell_17 rfl rfl ?_
  refine z_iload_n dX3_tell_18 rfl rfl ?_
  refine y_iasN (t) dX3_tell_19 hr.2.2.1 (Nat.le_of_ble_eq_true rfl) (by first | rfl | (simp only [← nI_add, ← pk_mul]; rfl)) (by omega) ?_
  refine z_vret dX3_tell_20 ?_
  exact hQ

theorem clampZ {top : Nat} {x : Int} (hx : b30 x) (ht : top < 2 ^ 30) : (if (0 : Int32) < (if iI x < nI top then iI x else nI top) then (if iI x < nI top then iI x else nI top) else 0) = nI (cutZ top x) := by
  have l : ∀ {u v : Int}, b30 u → b30 v → (iI u < iI v ↔ u < v) := fun hu hv => by rw [Int32.lt_iff_toInt_lt, iI_toInt hu, iI_toInt hv]
  have bt : b30 (top : Int) := ⟨by omega, by omega⟩
  have b0 : b30 0 := ⟨by omega, by omega⟩
  rw [nI_i top]
  unfold cutZ
  rw [nI_i]
  by_cases h1 : x < top
  · rw [if_pos ((l hx bt).mpr h1)]
    by_cases h2 : 0 < x
    · rw [if_pos (show (0 : Int32) < iI x from (l b0 hx).mpr h2), if_neg (by omega), if_neg (by omega), Int.toNat_of_nonneg (by omega)]
    · rw [if_neg (show ¬ (0 : Int32) < iI x from fun q => h2 ((l b0 hx).mp q))]
      by_cases h3 : x < 0
      · rw [if_pos h3]; rfl
      · rw [if_neg h3, if_neg (by omega), Int.toNat_of_nonneg (by omega), show x = 0 by omega]; rfl
  · rw [if_neg (fun q => h1 ((l hx bt).mp q)), if_neg (show ¬ x < 0 by omega)]
    have e : (if (top : Int) < x then top else x.toNat) = top := by split <;> omega
    rw [e]
    by_cases h2 : 0 < (top : Int)
    · rw [if_pos (show (0 : Int32) < iI (top : Int) from (l b0 bt).mpr h2)]
    · rw [if_neg (show ¬ (0 : Int32) < iI (top : Int) from fun q => h2 ((l b0 bt).mp q)), show top = 0 by omega]; rfl

theorem s_clampZ {h : Hp} {d top : Nat} {x : Int} (hx : b30 x) (ht : top < 2 ^ 30) (hd : 1 ≤ d) : Sp d mX8_clamp [.int (iI x), .int 0, .int (nI top)] h (some (.int (nI (cutZ top x)))) h := by
  intro N S Q hN hS hQ
  refine z_iload_n dX8_clamp_0 rfl rfl ?_
  refine z_iload_n dX8_clamp_1 rfl rfl ?_
  refine z_iload_n dX8_clamp_2 rfl rfl ?_
  refine z_mmin Kmin_X8_224 Kmin_static Kini_Math Kmin_code dX8_clamp_3 (by omega) (Nat.le_of_ble_eq_true rfl) ?_
  refine z_mmax Kmax_X8_416 Kmax_static Kini_Math Kmax_code dX8_clamp_6 (by omega) (Nat.le_of_ble_eq_true rfl) ?_
  refine z_eqi (clampZ hx ht) ?_
  refine z_iret dX8_clamp_9 ?_
  exact hQ

theorem s_law0 {h : Hp} {d x c : Nat} (ho : IO h 5 x) (hc : pR h x 1 = some c) : Sp d mX5_law [.ref x, .int (nI 1)] h (some (.ref c)) h := by
  intro N S Q hN hS hQ
  refine z_iload_n dX5_law_0 rfl rfl ?_
  refine z_iconst (v := 1) dX5_law_1 (by decide) ?_
  refine z_icmp_ne dX5_law_2 rfl (fun c => absurd (rfl) c) (fun _ => ?_)
  refine z_aload_n dX5_law_5 rfl rfl ?_
  refine y_getR FX5_24 dX5_law_6 rfl ho hc ?_
  refine z_aret dX5_law_9 ?_
  exact hQ

theorem s_law1 {h : Hp} {d x c : Nat} (ho : IO h 5 x) (hc : pR h x 2 = some c) : Sp d mX5_law [.ref x, .int (nI 2)] h (some (.ref c)) h := by
  intro N S Q hN hS hQ
  refine z_iload_n dX5_law_0 rfl rfl ?_
  refine z_iconst (v := 1) dX5_law_1 (by decide) ?_
  refine z_icmp_ne dX5_law_2 rfl (fun _ => ?_) (fun c => absurd c (by decide))
  refine z_iload_n dX5_law_10 rfl rfl ?_
  refine z_iconst (v := 2) dX5_law_11 (by decide) ?_
  refine z_icmp_ne dX5_law_12 rfl (fun c => absurd (rfl) c) (fun _ => ?_)
  refine z_aload_n dX5_law_15 rfl rfl ?_
  refine y_getR FX5_27 dX5_law_16 rfl ho hc ?_
  refine z_goto dX5_law_19 rfl ?_
  refine z_aret dX5_law_26 ?_
  exact hQ

theorem s_law2 {h : Hp} {d x c : Nat} (ho : IO h 5 x) (hc : pR h x 3 = some c) : Sp d mX5_law [.ref x, .int (nI 3)] h (some (.ref c)) h := by
  intro N S Q hN hS hQ
  refine z_iload_n dX5_law_0 rfl rfl ?_
  refine z_iconst (v := 1) dX5_law_1 (by decide) ?_
  refine z_icmp_ne dX5_law_2 rfl (fun _ => ?_) (fun c => absurd c (by decide))
  refine z_iload_n dX5_law_10 rfl rfl ?_
  refine z_iconst (v := 2) dX5_law_11 (by decide) ?_
  refine z_icmp_ne dX5_law_12 rfl (fun _ => ?_) (fun c => absurd c (by decide))
  refine z_aload_n dX5_law_22 rfl rfl ?_
  refine y_getR FX5_30 dX5_law_23 rfl ho hc ?_
  refine z_aret dX5_law_26 ?_
  exact hQ

theorem s_law {h : Hp} {d x c s : Nat} (ho : IO h 5 x) (hs : s ≤ 2) (hc : pR h x (s + 1) = some c) : Sp d mX5_law [.ref x, .int (nI (s + 1))] h (some (.ref c)) h := by
  rcases (show s = 0 ∨ s = 1 ∨ s = 2 by omega) with rfl | rfl | rfl
  · exact s_law0 ho hc
  · exact s_law1 ho hc
  · exact s_law2 ho hc

theorem s_lawOf {h : Hp} {d x c s : Nat} (ho : IO h 5 x) (hs : s ≤ 2) (hc : pR h x (s + 1) = some c) (hd : 1 ≤ d) : Sp d mX8_lawOf [.ref x, .int (nI (s + 1))] h (some (.ref c)) h := by
  intro N S Q hN hS hQ
  refine z_aload_n dX8_lawOf_0 rfl rfl ?_
  refine z_ifnonnull dX8_lawOf_1 rfl ?_
  refine z_aload_n dX8_lawOf_10 rfl rfl ?_
  refine z_iload_n dX8_lawOf_11 rfl rfl ?_
  refine y_callV (as := [_]) CX5_law LX8_299 IX5_law VX5_law ⟨rfl, Nat.le_of_ble_eq_true rfl⟩ dX8_lawOf_12 ho rfl (Nat.le_of_ble_eq_true rfl) (Nat.le_of_ble_eq_true rfl) (by omega) (s_law ho hs hc) (rok_o rfl) ⟨Nat.le_refl _, Nat.le_refl _, hN, hS⟩ ?_
  refine z_aret dX8_lawOf_15 ?_
  exact hQ

theorem s_lawOfN {h : Hp} {d : Nat} {k : Int32} : Sp d mX8_lawOf [.null, .int k] h (some (.ref 0)) h := by
  intro N S Q hN hS hQ
  refine z_aload_nN dX8_lawOf_0 rfl rfl ?_
  refine z_ifnonnullN dX8_lawOf_1 ?_
  refine z_noLaw Kno_X8_296 dX8_lawOf_4 ?_
  refine z_goto dX8_lawOf_7 rfl ?_
  refine z_aret dX8_lawOf_15 ?_
  exact hQ

