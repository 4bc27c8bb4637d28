/-! what the laws say: the model, the reference (walks by program: wip/whole/gen57.py) -/
def cutZ (top : Nat) (x : Int) : Nat := if x < 0 then 0 else if (top : Int) < x then top else x.toNat
theorem cutZ_le {top : Nat} {x : Int} : cutZ top x ≤ top := by
  unfold cutZ
  split
  · omega
  · split <;> omega
theorem cutZ_n {top w : Nat} (h : w ≤ top) : cutZ top (w : Int) = w := by
  unfold cutZ
  rw [if_neg (by omega), if_neg (by omega), Int.toNat_natCast]
/-- how many clauses a text has; its first clause of a sort -/
def cnt (tf : Nat → Int32) (t : Nat) : Nat := nn (tf (753 * t))
def scn (tf : Nat → Int32) (t s : Nat) : Nat → Nat → Nat
  | 0, k => k
  | r + 1, k => if tf (753 * t + 1 + 6 * k) = nI s then k else scn tf t s r (k + 1)
def fK (tf : Nat → Int32) (t s : Nat) : Nat := scn tf t s (cnt tf t) 0
def lLo (tf : Nat → Int32) (t k : Nat) : Nat := nn (tf (753 * t + 1 + 6 * k + 1))
def lM (tf : Nat → Int32) (t k : Nat) : Nat := nn (tf (753 * t + 1 + 6 * k + 2)) - lLo tf t k
def lO (tf : Nat → Int32) (t k i : Nat) : Nat := nn (tf (753 * t + 145 + 2 * (lLo tf t k + i)))
def lV (tf : Nat → Int32) (t k i : Nat) : Nat := nn (tf (753 * t + 145 + 2 * (lLo tf t k + i) + 1))
/-- what a clause of a law comes to -/
def lawE (tf : Nat → Int32) (t k : Nat) (env : Nat → Int) (so : Nat) : Int := evV env so (lO tf t k) (lV tf t k) (lM tf t k)
def mSays (tf : Nat → Int32) (t1 s : Nat) (env : Nat → Int) (so w top : Nat) : Nat := if t1 = 0 then w else if fK tf (t1 - 1) s < cnt tf (t1 - 1) then cutZ top (lawE tf (t1 - 1) (fK tf (t1 - 1) s) env so) else w
theorem mSays_le {tf : Nat → Int32} {t1 s so w top : Nat} {env : Nat → Int} (h : w ≤ top) : mSays tf t1 s env so w top ≤ top := by
  unfold mSays
  split
  · exact h
  · split
    · exact cutZ_le
    · exact h
/-- a law's clause as it must be -/
def LV (tf : Nat → Int32) (t k s : Nat) : Prop := (0 < lM tf t k ∧ lM tf t k ≤ 300 ∧ lLo tf t k + lM tf t k ≤ 304) ∧ tf (753 * t + 1 + 6 * k + 1) = nI (lLo tf t k) ∧ tf (753 * t + 1 + 6 * k + 2) = nI (lLo tf t k + lM tf t k) ∧ (∀ i, i < lM tf t k → tf (753 * t + 145 + 2 * (lLo tf t k + i)) = nI (lO tf t k i) ∧ tf (753 * t + 145 + 2 * (lLo tf t k + i) + 1) = nI (lV tf t k i) ∧ okI (s = 0) (lO tf t k i) (lV tf t k i)) ∧ ∃ ty, TY (lO tf t k) (lM tf t k) ty
/-- a text as it must be -/
def TXV (tf : Nat → Int32) (t : Nat) : Prop := cnt tf t ≤ 24 ∧ tf (753 * t) = nI (cnt tf t) ∧ (∀ k, k < cnt tf t → ∃ s, s ≤ 9 ∧ tf (753 * t + 1 + 6 * k) = nI s) ∧ ∀ k s, k < cnt tf t → s ≤ 2 → tf (753 * t + 1 + 6 * k) = nI s → LV tf t k s
theorem LV.rc {tf : Nat → Int32} {t k s : Nat} {h : Hp} (hl : LV tf t k s) (ht : t < 4) (hk : k < 24) (e : ∀ i, i < 3012 → pI h 491 i = tf i) : RC h (s = 0) (lO tf t k) (lV tf t k) (lM tf t k) t k (lLo tf t k) := by
  obtain ⟨⟨b1, b2, b3⟩, h1, h2, h3, h4⟩ := hl
  refine ⟨⟨ht, hk, b1, b2, b3⟩, ?_, ?_, fun i hi => ⟨?_, ?_, (h3 i hi).2.2⟩⟩
  · rw [e _ (by omega)]; exact h1
  · rw [e _ (by omega)]; exact h2
  · rw [e _ (by omega)]; exact (h3 i hi).1
  · rw [e _ (by omega)]; exact (h3 i hi).2.1
def cT (t1 : Nat) : Int32 := if t1 = 0 then -1 else nI (t1 - 1)
theorem cI_T (a : Fl) : cI a 3 = cT (a 3) := by
  unfold cT
  rcases Nat.eq_zero_or_pos (a 3) with h | h
  · rw [if_pos h]; show nI (a 3) - 1 = -1; rw [h]; rfl
  · rw [if_neg (by omega)]
    show nI (a 3) - 1 = _
    obtain ⟨n, hn⟩ : ∃ n, a 3 = n + 1 := ⟨a 3 - 1, by omega⟩
    rw [hn]
    exact nI_pred n
theorem r_cutZ {h : Hp} {d top : Nat} {x : Int} (hx : b62 x) (ht : top < 2 ^ 30) : Sp d mX9_cut [.long (iL x), .int 0, .int (nI top)] h (some (.int (nI (cutZ top x)))) h := by
  have := r_cut (h := h) (d := d) (iL x) 0 (nI top)
  have bt : b62 (top : Int) := ⟨by omega, by omega⟩
  rw [show (0 : Int32).toInt64 = iL 0 from rfl, nI_l (by omega), ← iL_n] at this
  have e : (if iL x < iL 0 then (0 : Int32) else if iL (top : Int) < iL x then nI top else (iL x).toInt32) = nI (cutZ top x) := by
    unfold cutZ
    by_cases h0 : x < 0
    · rw [if_pos h0, if_pos ((iL_lt hx b62_0).mpr h0)]; rfl
    · rw [if_neg h0, if_neg (fun q => h0 ((iL_lt hx b62_0).mp q))]
      by_cases h1 : (top : Int) < x
      · rw [if_pos h1, if_pos ((iL_lt bt hx).mpr h1)]
      · rw [if_neg h1, if_neg (fun q => h1 ((iL_lt bt hx).mp q)), iL_i, nI_i, Int.toNat_of_nonneg (by omega)]
  rw [e] at this
  exact this
theorem ev_b {env : Nat → Int} {so m : Nat} {O V : Nat → Nat} (he : ∀ v, b6 (env v)) (hv : ∀ i, i < m → O i = 0 → V i ≤ 9999) : b6 (evV env so O V m) := runV_b he hv m (Nat.le_refl _) 0

theorem r_summedUp {h : Hp} {d so f m t k lo : Nat} {C : Prop} {env : Nat → Int} {O V : Nat → Nat} {ty : Nat → List Bool} (hm : SM h) (hc : RC h C O V m t k lo) (hty : TY O m ty) (he : NR h C env) (e0 : pI h 489 0 = nI f) (e10 : pI h 489 10 = nI so) (hf : f ≤ 8) (hso : so < 2 ^ f) (hd : 2 ≤ d) : ∃ h2, FV h h2 ∧ Sp d mX9_summedUp [.ref 488, .int (nI t), .int (nI k)] h (some (.long (iL (evV env so O V m)))) h2 := by
  obtain ⟨⟨bt, bk, bm0, bm, blo⟩, c1, c2, c3⟩ := id hc
  obtain ⟨h2, f2, K⟩ := r_sum_loop hm hc hty he e0 e10 hf hso hd m 0 h none none (by omega) FV.rf (by rw [hty.1]; trivial)
  rw [hty.1] at K
  refine ⟨h2, f2, ?_⟩
  intro N S Q hN hS hQ
  have hN : pn h ≤ N := by rw [← f2.1.n]; exact hN
  have hS : ps h ≤ S := by rw [← f2.1.s]; exact hS
  refine z_sipush (v := 753) dX9_summedUp_0 (by decide) ?_
  refine z_iload_n dX9_summedUp_3 rfl rfl ?_
  refine z_imul dX9_summedUp_4 ?_
  refine z_iconst (v := 1) dX9_summedUp_5 (by decide) ?_
  refine z_iadd dX9_summedUp_6 ?_
  refine z_bipush (v := 6) dX9_summedUp_7 (by decide) ?_
  refine z_iload_n dX9_summedUp_9 rfl rfl ?_
  refine z_imul dX9_summedUp_10 ?_
  refine z_iadd dX9_summedUp_11 ?_
  refine z_eqi (y := nI (753 * t + 1 + 6 * k)) (by simp only [← nI_add, ← pk_mul]; rfl) ?_
  refine z_istore_n dX9_summedUp_12 rfl (Nat.le_of_ble_eq_true rfl) ?_
  refine z_sipush (v := 753) dX9_summedUp_13 (by decide) ?_
  refine z_iload_n dX9_summedUp_16 rfl rfl ?_
  refine z_imul dX9_summedUp_17 ?_
  refine z_sipush (v := 145) dX9_summedUp_18 (by decide) ?_
  refine z_iadd dX9_summedUp_21 ?_
  refine z_eqi (y := nI (753 * t + 145)) (by simp only [← nI_add, ← pk_mul]; rfl) ?_
  refine z_istore dX9_summedUp_22 (Nat.le_of_ble_eq_true rfl) ?_
  refine z_iconst (v := 0) dX9_summedUp_24 (by decide) ?_
  refine z_istore dX9_summedUp_25 (Nat.le_of_ble_eq_true rfl) ?_
  refine z_iconst (v := 0) dX9_summedUp_27 (by decide) ?_
  refine z_istore dX9_summedUp_28 (Nat.le_of_ble_eq_true rfl) ?_
  refine z_aload_n dX9_summedUp_30 rfl rfl ?_
  refine y_getR FX9_16 dX9_summedUp_31 rfl hm.o hm.f_texts ?_
  refine z_iload_n dX9_summedUp_34 rfl rfl ?_
  refine z_iconst (v := 1) dX9_summedUp_35 (by decide) ?_
  refine z_iadd dX9_summedUp_36 ?_
  refine y_ialN (753 * t + 1 + 6 * k + 1) dX9_summedUp_37 hm.A_texts (Nat.le_of_ble_eq_true rfl) (by first | rfl | (simp only [← nI_add, ← pk_mul]; rfl)) (by omega) ?_
  refine z_eqi (show _ = nI (lo + 0) from hc.2.1) ?_
  refine z_istore dX9_summedUp_38 (Nat.le_of_ble_eq_true rfl) ?_
  exact K N S Q hN hS hQ

theorem r_says_loop {h : Hp} {d so f t s w top c : Nat} {env : Nat → Int} {tf : Nat → Int32} (hm : SM h) (hrow : ∀ i, i < 3012 → pI h 491 i = tf i) (ht : t < 4) (hs3 : s ≤ 2) (hT : TXV tf t) (hc : cnt tf t = c) (he : NR h (s = 0) env) (e0 : pI h 489 0 = nI f) (e10 : pI h 489 10 = nI so) (hf : f ≤ 8) (hso : so < 2 ^ f) (hw : w ≤ top) (htop : top ≤ 9999) (hd : 3 ≤ d) : ∀ r k, k + r = c → ∃ h2, FV h h2 ∧ ∀ (N S : Nat) (Q : Option Value → Hp → Prop), pn h ≤ N → ps h ≤ S → Q (some (.int (nI (if scn tf t s r k < c then cutZ top (lawE tf t (scn tf t s r k) env so) else w)))) h2 → T d N S mX9_says 3 [some (.ref 488), some (.int (nI t)), some (.int (nI s)), some (.int (nI w)), some (.int (nI top)), some (.int (nI k))] [] h Q := by
  have hc24 : c ≤ 24 := by rw [← hc]; exact hT.1
  have hcn : tf (753 * t) = nI c := by rw [← hc]; exact hT.2.1
  intro r
  induction r with
  | zero =>
    intro k hk
    refine ⟨h, FV.rf, fun N S Q hN hS hQ => ?_⟩
    rw [show scn tf t s 0 k = k from rfl, if_neg (by omega)] at hQ
    rw [show w = min top w by omega] at hQ
    refine z_iload_n dX9_says_3 rfl rfl ?_
    refine z_if_lt dX9_says_4 rfl (fun c => absurd c (Int32.not_lt.mpr (nI_pos' (by omega)))) (fun _ => ?_)
    refine z_iload dX9_says_7 rfl ?_
    refine z_aload_n dX9_says_9 rfl rfl ?_
    refine y_getR FX9_16 dX9_says_10 rfl hm.o hm.f_texts ?_
    refine z_sipush (v := 753) dX9_says_13 (by decide) ?_
    refine z_iload_n dX9_says_16 rfl rfl ?_
    refine z_imul dX9_says_17 ?_
    refine y_ialN (753 * t) dX9_says_18 hm.A_texts (Nat.le_of_ble_eq_true rfl) (by first | rfl | (simp only [← nI_add, ← pk_mul]; rfl)) (by omega) ?_
    refine z_eqi (show _ = nI c from (hrow _ (by omega)).trans hcn) ?_
    refine z_icmp_ge dX9_says_19 rfl (fun _ => ?_) (fun c => absurd ((nI_leI (by omega) (by omega)).mpr (by omega)) c)
    refine z_iload_n dX9_says_64 rfl rfl ?_
    refine z_i2l dX9_says_65 ?_
    refine z_iconst (v := 0) dX9_says_66 (by decide) ?_
    refine z_iload dX9_says_67 rfl ?_
    refine y_callS (as := [_, _, _]) CX9_cut LX9_306 SX9_cut dX9_says_69 rfl (Nat.le_of_ble_eq_true rfl) (Nat.le_of_ble_eq_true rfl) (by omega) (r_cutN (n := w) (t := top) (by omega) (by omega)) rok_i ⟨Nat.le_refl _, Nat.le_refl _, hN, hS⟩ ?_
    refine z_iret dX9_says_72 ?_
    exact hQ
  | succ r ih =>
    intro k hk
    by_cases hq : tf (753 * t + 1 + 6 * k) = nI s
    · have es : scn tf t s (r + 1) k = k := if_pos hq
      have hlv := hT.2.2.2 k s (by omega) hs3 hq
      obtain ⟨ty, hty⟩ := hlv.2.2.2.2
      obtain ⟨h2, f2, sp⟩ := r_summedUp (d := 2) hm (hlv.rc ht (by omega) hrow) hty he e0 e10 hf hso (Nat.le_refl _)
      have be : b6 (lawE tf t k env so) := ev_b he.1 (fun i hi h0 => by rcases (hlv.2.2.2.1 i hi).2.2 with q | q | q <;> omega)
      refine ⟨h2, f2, fun N S Q hN hS hQ => ?_⟩
      have hN2 : pn h2 ≤ N := by rw [f2.1.n]; exact hN
      have hS2 : ps h2 ≤ S := by rw [f2.1.s]; exact hS
      rw [es, if_pos (by omega)] at hQ
      refine z_iload_n dX9_says_3 rfl rfl ?_
      refine z_if_lt dX9_says_4 rfl (fun c => absurd c (Int32.not_lt.mpr (nI_pos' (by omega)))) (fun _ => ?_)
      refine z_iload dX9_says_7 rfl ?_
      refine z_aload_n dX9_says_9 rfl rfl ?_
      refine y_getR FX9_16 dX9_says_10 rfl hm.o hm.f_texts ?_
      refine z_sipush (v := 753) dX9_says_13 (by decide) ?_
      refine z_iload_n dX9_says_16 rfl rfl ?_
      refine z_imul dX9_says_17 ?_
      refine y_ialN (753 * t) dX9_says_18 hm.A_texts (Nat.le_of_ble_eq_true rfl) (by first | rfl | (simp only [← nI_add, ← pk_mul]; rfl)) (by omega) ?_
      refine z_eqi (show _ = nI c from (hrow _ (by omega)).trans hcn) ?_
      refine z_icmp_ge dX9_says_19 rfl (fun c => absurd c (fun q => absurd ((nI_leI (by omega) (by omega)).mp q) (by omega))) (fun _ => ?_)
      refine z_aload_n dX9_says_22 rfl rfl ?_
      refine y_getR FX9_16 dX9_says_23 rfl hm.o hm.f_texts ?_
      refine z_sipush (v := 753) dX9_says_26 (by decide) ?_
      refine z_iload_n dX9_says_29 rfl rfl ?_
      refine z_imul dX9_says_30 ?_
      refine z_iconst (v := 1) dX9_says_31 (by decide) ?_
      refine z_iadd dX9_says_32 ?_
      refine z_bipush (v := 6) dX9_says_33 (by decide) ?_
      refine z_iload dX9_says_35 rfl ?_
      refine z_imul dX9_says_37 ?_
      refine z_iadd dX9_says_38 ?_
      refine y_ialN (753 * t + 1 + 6 * k) dX9_says_39 hm.A_texts (Nat.le_of_ble_eq_true rfl) (by first | rfl | (simp only [← nI_add, ← pk_mul]; rfl)) (by omega) ?_
      refine z_eqi (hrow _ (by omega)) ?_
      refine z_iload_n dX9_says_40 rfl rfl ?_
      refine z_icmp_ne dX9_says_41 rfl (fun c => absurd (hq) c) (fun _ => ?_)
      refine z_aload_n dX9_says_44 rfl rfl ?_
      refine z_iload_n dX9_says_45 rfl rfl ?_
      refine z_iload dX9_says_46 rfl ?_
      refine y_callV (as := [_, _]) CX9_summedUp LX9_303 IX9_summedUp VX9_summedUp ⟨rfl, Nat.le_of_ble_eq_true rfl⟩ dX9_says_48 hm.o rfl (Nat.le_of_ble_eq_true rfl) (Nat.le_of_ble_eq_true rfl) (by omega) sp rok_l (hg_ss f2.1 hN hS) ?_
      refine z_iconst (v := 0) dX9_says_51 (by decide) ?_
      refine z_iload dX9_says_52 rfl ?_
      refine y_callS (as := [_, _, _]) CX9_cut LX9_306 SX9_cut dX9_says_54 rfl (Nat.le_of_ble_eq_true rfl) (Nat.le_of_ble_eq_true rfl) (by omega) (r_cutZ (top := top) (b6_62 be) (by omega)) rok_i ⟨Nat.le_refl _, Nat.le_refl _, hN2, hS2⟩ ?_
      refine z_iret dX9_says_57 ?_
      exact hQ
    · have es : scn tf t s (r + 1) k = scn tf t s r (k + 1) := if_neg hq
      obtain ⟨h2, f2, K⟩ := ih (k + 1) (by omega)
      refine ⟨h2, f2, fun N S Q hN hS hQ => ?_⟩
      rw [es] at hQ
      refine z_iload_n dX9_says_3 rfl rfl ?_
      refine z_if_lt dX9_says_4 rfl (fun c => absurd c (Int32.not_lt.mpr (nI_pos' (by omega)))) (fun _ => ?_)
      refine z_iload dX9_says_7 rfl ?_
      refine z_aload_n dX9_says_9 rfl rfl ?_
      refine y_getR FX9_16 dX9_says_10 rfl hm.o hm.f_texts ?_
      refine z_sipush (v := 753) dX9_says_13 (by decide) ?_
      refine z_iload_n dX9_says_16 rfl rfl ?_
      refine z_imul dX9_says_17 ?_
      refine y_ialN (753 * t) dX9_says_18 hm.A_texts (Nat.le_of_ble_eq_true rfl) (by first | rfl | (simp only [← nI_add, ← pk_mul]; rfl)) (by omega) ?_
      refine z_eqi (show _ = nI c from (hrow _ (by omega)).trans hcn) ?_
      refine z_icmp_ge dX9_says_19 rfl (fun c => absurd c (fun q => absurd ((nI_leI (by omega) (by omega)).mp q) (by omega))) (fun _ => ?_)
      refine z_aload_n dX9_says_22 rfl rfl ?_
      refine y_getR FX9_16 dX9_says_23 rfl hm.o hm.f_texts ?_
      refine z_sipush (v := 753) dX9_says_26 (by decide) ?_
      refine z_iload_n dX9_says_29 rfl rfl ?_
      refine z_imul dX9_says_30 ?_
      refine z_iconst (v := 1) dX9_says_31 (by decide) ?_
      refine z_iadd dX9_says_32 ?_
      refine z_bipush (v := 6) dX9_says_33 (by decide) ?_
      refine z_iload dX9_says_35 rfl ?_
      refine z_imul dX9_says_37 ?_
      refine z_iadd dX9_says_38 ?_
      refine y_ialN (753 * t + 1 + 6 * k) dX9_says_39 hm.A_texts (Nat.le_of_ble_eq_true rfl) (by first | rfl | (simp only [← nI_add, ← pk_mul]; rfl)) (by omega) ?_
      refine z_eqi (hrow _ (by omega)) ?_
      refine z_iload_n dX9_says_40 rfl rfl ?_
      refine z_icmp_ne dX9_says_41 rfl (fun _ => ?_) (fun c => absurd c (hq))
      refine z_iinc dX9_says_58 rfl (nI_1 _) (Nat.le_of_ble_eq_true rfl) ?_
      refine z_goto dX9_says_61 rfl ?_
      exact K N S Q hN hS hQ
theorem r_says {h : Hp} {d so f t1 s w top : Nat} {env : Nat → Int} {tf : Nat → Int32} (hm : SM h) (hrow : ∀ i, i < 3012 → pI h 491 i = tf i) (ht : t1 ≤ 4) (hs3 : s ≤ 2) (hT : t1 ≠ 0 → TXV tf (t1 - 1)) (he : NR h (s = 0) env) (e0 : pI h 489 0 = nI f) (e10 : pI h 489 10 = nI so) (hf : f ≤ 8) (hso : so < 2 ^ f) (hw : w ≤ top) (htop : top ≤ 9999) (hd : 3 ≤ d) : ∃ h2, FV h h2 ∧ Sp d mX9_says [.ref 488, .int (cT t1), .int (nI s), .int (nI w), .int (nI top)] h (some (.int (nI (mSays tf t1 s env so w top)))) h2 := by
  by_cases h0 : t1 = 0
  · subst h0
    refine ⟨h, FV.rf, ?_⟩
    intro N S Q hN hS hQ
    rw [show mSays tf 0 s env so w top = w from rfl, show w = min top w by omega] at hQ
    show T d N S mX9_says 0 [some (.ref 488), some (.int (-1)), some (.int (nI s)), some (.int (nI w)), some (.int (nI top)), none] [] h Q
    refine z_iconst (v := 0) dX9_says_0 (by decide) ?_
    refine z_istore dX9_says_1 (Nat.le_of_ble_eq_true rfl) ?_
    refine z_iload_n dX9_says_3 rfl rfl ?_
    refine z_if_lt dX9_says_4 rfl (fun _ => ?_) (fun c => absurd (by decide) c)
    refine z_iload_n dX9_says_64 rfl rfl ?_
    refine z_i2l dX9_says_65 ?_
    refine z_iconst (v := 0) dX9_says_66 (by decide) ?_
    refine z_iload dX9_says_67 rfl ?_
    refine y_callS (as := [_, _, _]) CX9_cut LX9_306 SX9_cut dX9_says_69 rfl (Nat.le_of_ble_eq_true rfl) (Nat.le_of_ble_eq_true rfl) (by omega) (r_cutN (n := w) (t := top) (by omega) (by omega)) rok_i ⟨Nat.le_refl _, Nat.le_refl _, hN, hS⟩ ?_
    refine z_iret dX9_says_72 ?_
    exact hQ
  · obtain ⟨t, rfl⟩ : ∃ t, t1 = t + 1 := ⟨t1 - 1, by omega⟩
    obtain ⟨h2, f2, K⟩ := r_says_loop (t := t) (w := w) (top := top) hm hrow (by omega) hs3 (hT h0) rfl he e0 e10 hf hso hw htop hd (cnt tf t) 0 (by omega)
    refine ⟨h2, f2, ?_⟩
    intro N S Q hN hS hQ
    have hN : pn h ≤ N := by rw [← f2.1.n]; exact hN
    have hS : ps h ≤ S := by rw [← f2.1.s]; exact hS
    rw [show mSays tf (t + 1) s env so w top = (if scn tf t s (cnt tf t) 0 < cnt tf t then cutZ top (lawE tf t (scn tf t s (cnt tf t) 0) env so) else w) from if_neg h0] at hQ
    show T d N S mX9_says 0 [some (.ref 488), some (.int (nI t)), some (.int (nI s)), some (.int (nI w)), some (.int (nI top)), none] [] h Q
    refine z_iconst (v := 0) dX9_says_0 (by decide) ?_
    refine z_istore dX9_says_1 (Nat.le_of_ble_eq_true rfl) ?_
    exact K N S Q hN hS hQ

