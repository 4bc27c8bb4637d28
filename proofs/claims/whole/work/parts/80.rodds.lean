/-! odds, a fair fee: the model, the reference (walks by program: wip/whole/gen80.py) -/
def dif (f g : Nat) : Nat := f &&& (g ^^^ 4294967295)
theorem nI_dif (f g : Nat) : nI f &&& (nI g ^^^ (-1)) = nI (dif f g) := by
  rw [show (-1 : Int32) = nI 4294967295 by decide, nI_xor, nI_and]
  rfl
theorem dif_le (f g : Nat) : dif f g ≤ f := Nat.and_le_left
theorem dif_bit {f g k : Nat} (hk : k < 32) : (dif f g).testBit k = (f.testBit k && !g.testBit k) := by
  unfold dif
  rw [Nat.testBit_and, Nat.testBit_xor, show 4294967295 = 2 ^ 32 - 1 from rfl, Nat.testBit_two_pow_sub_one]
  have : decide (k < 32) = true := by simpa using hk
  rw [this]
  cases f.testBit k <;> cases g.testBit k <;> rfl
/-- how many bits are below i -/
def bcn (U i : Nat) : Nat := ((List.range i).filter (fun j => U.testBit j)).length
theorem bcn_s (U i : Nat) : bcn U (i + 1) = bcn U i + (if U.testBit i = true then 1 else 0) := by
  unfold bcn
  rw [List.range_succ, List.filter_append, List.length_append]
  congr 1
  by_cases h : U.testBit i = true
  · rw [if_pos h, List.filter_cons, if_pos h]; rfl
  · rw [if_neg h, List.filter_cons, if_neg h]; rfl
theorem bcn_mono (U : Nat) : ∀ j i, bcn U i ≤ bcn U (i + j) := by
  intro j
  induction j with
  | zero => intro i; exact Nat.le_refl _
  | succ j ih =>
    intro i
    have := ih i
    rw [show i + (j + 1) = i + j + 1 by omega, bcn_s]
    omega
theorem bcn_pcn {U i : Nat} (hi : i ≤ 12) : bcn U i ≤ pcn U := by
  have := bcn_mono U (12 - i) i
  rw [show i + (12 - i) = 12 by omega] at this
  exact this
def nev (a : Fl) (dd f : Nat) : Nat := (10 - a (110 + 2 * f)) ^ dd
theorem nev_le (a : Fl) (dd f : Nat) : nev a dd f ≤ 10 ^ dd := Nat.pow_le_pow_left (by omega) dd
def odP (al : Nat) (a : Fl) (U dd : Nat) : Nat → Nat
  | 0 => 1
  | i + 1 => if U.testBit i = true then odP al a U dd i * (if al = 1 then 10 ^ dd - nev a dd i else nev a dd i) else odP al a U dd i
theorem odP_le {al : Nat} {a : Fl} {U dd : Nat} : ∀ i, odP al a U dd i ≤ (10 ^ dd) ^ bcn U i := by
  intro i
  induction i with
  | zero => exact Nat.le_refl _
  | succ i ih =>
    rw [bcn_s]
    show (if _ then _ else _) ≤ _
    by_cases h : U.testBit i = true
    · rw [if_pos h, if_pos h, Nat.pow_succ]
      refine Nat.mul_le_mul ih ?_
      have := nev_le a dd i
      split <;> omega
    · rw [if_neg h, if_neg h]
      exact ih
def odW (a : Fl) (F dd : Nat) : Nat := 10 ^ (dd * pcn (dif F (a 10)))
def odU (al : Nat) (a : Fl) (F dd : Nat) : Nat := if al = 1 then odP al a (dif F (a 10)) dd (a 0) else if F &&& a 10 = 0 then odW a F dd - odP al a (dif F (a 10)) dd (a 0) else odW a F dd
theorem odP_W {al : Nat} {a : Fl} {F dd : Nat} (h0 : a 0 ≤ 8) : odP al a (dif F (a 10)) dd (a 0) ≤ odW a F dd := by
  refine Nat.le_trans (odP_le _) ?_
  unfold odW
  rw [Nat.pow_mul]
  exact Nat.pow_le_pow_right (Nat.pow_pos (by omega)) (bcn_pcn (by omega))
theorem odU_le {al : Nat} {a : Fl} {F dd : Nat} (h0 : a 0 ≤ 8) : odU al a F dd ≤ odW a F dd := by
  unfold odU
  have := odP_W (al := al) (F := F) (dd := dd) h0
  split
  · exact this
  · split <;> omega
theorem odW_pos (a : Fl) (F dd : Nat) : 0 < odW a F dd := Nat.pow_pos (by omega)
theorem odW_le {a : Fl} {F dd : Nat} (hd : dd ≤ 4) (hp : pcn (dif F (a 10)) ≤ 3) : odW a F dd ≤ 10 ^ 12 := Nat.pow_le_pow_right (by omega) (by
  have := Nat.mul_le_mul hd hp
  omega)
abbrev okO (a : Fl) (F dd : Int32) : Prop := (1 ≤ F ∧ F < nI (2 ^ a 0)) ∧ inr dd 1 4 ∧ pcn (dif (nn F) (a 10)) ≤ 3
def mOdds (a : Fl) (al : Nat) (F dd : Int32) (low : Nat) : Int64 := if okO a F dd then lN ((if low = 1 then odW a (nn F) (nn dd) else odU al a (nn F) (nn dd)) / Nat.gcd (odU al a (nn F) (nn dd)) (odW a (nn F) (nn dd))) else -1
def faU (al : Nat) (a : Fl) (F dd du : Nat) : Nat := du * (odW a F dd - odU al a F dd)
def mFair (a : Fl) (al : Nat) (F dd du : Int32) (low : Nat) : Int64 := if inr du 0 999 ∧ okO a F dd then lN ((if low = 1 then odW a (nn F) (nn dd) else faU al a (nn F) (nn dd) (nn du)) / Nat.gcd (faU al a (nn F) (nn dd) (nn du)) (odW a (nn F) (nn dd))) else -1
theorem lN_b {n : Nat} (h : n < 2 ^ 62) : b62 (n : Int) := ⟨by omega, by omega⟩
theorem lN_div {a b : Nat} (ha : a < 2 ^ 62) (hb : b < 2 ^ 62) : lN a / lN b = lN (a / b) := by
  rw [← iL_n, ← iL_n, iL_div (lN_b ha) (lN_b hb), ← Int.ofNat_tdiv, iL_n]
theorem lN_rem {a b : Nat} (ha : a < 2 ^ 62) (hb : b < 2 ^ 62) : lN a - lN a / lN b * lN b = lN (a % b) := by
  have e := Nat.div_add_mod a b
  have e2 : a / b * b = b * (a / b) := Nat.mul_comm _ _
  rw [lN_div ha hb, lN_mul, lN_sub (by omega)]
  congr 1
  omega
theorem lN_eq0 {n : Nat} (h : n < 2 ^ 62) : lN n = 0 ↔ n = 0 := by
  rw [← iL_n, iL_eq0 (lN_b h)]
  omega
theorem lcmp0 {n : Nat} (h : n < 2 ^ 62) : lg_cmp (lN n) 0 = 0 ↔ n = 0 := (lg_cmp_eq _ _).trans (lN_eq0 h)
theorem gcd_step (p q : Nat) : Nat.gcd p q = Nat.gcd q (p % q) := by
  rw [Nat.gcd_comm p q, Nat.gcd_rec q p, Nat.gcd_comm]
theorem gcd_lt {p q : Nat} (hp : p < 2 ^ 62) (hq : q < 2 ^ 62) : Nat.gcd p q < 2 ^ 62 := by
  rcases Nat.eq_zero_or_pos p with h | h
  · subst h
    rw [Nat.gcd_zero_left]
    exact hq
  · exact Nat.lt_of_le_of_lt (Nat.gcd_le_left q h) hp
theorem sJ_sJ {h : Hp} {k i : Nat} {v w : Int64} : sJ (sJ h k i v) k i w = sJ h k i w := by
  unfold sJ p2
  congr 2
  funext a
  by_cases ha : a = k
  · rw [if_pos ha, if_pos ha]
    funext b
    by_cases hb : b = i
    · rw [if_pos hb, if_pos hb]
    · rw [if_neg hb, if_neg hb]
      show (if k = k then (fun b => if b = i then v else h.2.1 k b) else h.2.1 k) b = h.2.1 k b
      rw [if_pos rfl]
      show (if b = i then v else h.2.1 k b) = h.2.1 k b
      rw [if_neg hb]
  · rw [if_neg ha, if_neg ha]
    show (if a = k then (fun b => if b = i then v else h.2.1 k b) else h.2.1 a) = h.2.1 a
    rw [if_neg ha]
theorem RM.sJ {s : Ms} {h : Hp} {i : Nat} {v : Int64} (hr : RM s h) : RM s (sJ h 488 i v) := hr

theorem X9_power_loop {h : Hp} {d N S n : Nat} {Q : Option Value → Hp → Prop} {x : Nat} (hx : x < 2 ^ 31) (hn : n < 2 ^ 31) (K : T d N S mX9_power 22 [some (.int (nI x)), some (.int (nI n)), some (.long (lN (x ^ n))), none, some (.int (nI n))] [] h Q) : ∀ r i : Nat, i + r = n → T d N S mX9_power 5 [some (.int (nI x)), some (.int (nI n)), some (.long (lN (x ^ i))), none, some (.int (nI i))] [] h Q := by
  intro r
  induction r with
  | zero =>
    intro i hi
    have e : i = n := by omega
    subst e
    refine z_iload dX9_power_5 rfl ?_
    refine z_iload_n dX9_power_7 rfl rfl ?_
    refine z_icmp_ge dX9_power_8 rfl (fun _ => ?_) (fun c => absurd ((nI_leI (by omega) (by omega)).mpr (Nat.le_refl _)) c)
    exact K
  | succ r ih =>
    intro i hi
    refine z_iload dX9_power_5 rfl ?_
    refine z_iload_n dX9_power_7 rfl rfl ?_
    refine z_icmp_ge dX9_power_8 rfl (fun c => absurd c (fun q => absurd ((nI_leI (by omega) (by omega)).mp q) (by omega))) (fun _ => ?_)
    refine z_lload_n dX9_power_11 rfl rfl ?_
    refine z_iload_n dX9_power_12 rfl rfl ?_
    refine z_i2l dX9_power_13 ?_
    refine z_eql (nI_l (by omega)) ?_
    refine z_lmul dX9_power_14 ?_
    refine z_eql (show _ = lN (x ^ (i + 1)) from (lN_mul _ _).trans (congrArg lN (Nat.pow_succ x i).symm)) ?_
    refine z_lstore_n dX9_power_15 rfl (Nat.le_of_ble_eq_true rfl) ?_
    refine z_iinc dX9_power_16 rfl (nI_1 _) (Nat.le_of_ble_eq_true rfl) ?_
    refine z_goto dX9_power_19 rfl ?_
    exact ih (i + 1) (by omega)

theorem p_X9_power {h : Hp} {d x n : Nat} (hx : x < 2 ^ 31) (hn : n < 2 ^ 31) : Sp d mX9_power [.int (nI x), .int (nI n)] h (some (.long (lN (x ^ n)))) h := by
  intro N S Q hN hS hQ
  have K : T d N S mX9_power 22 [some (.int (nI x)), some (.int (nI n)), some (.long (lN (x ^ n))), none, some (.int (nI n))] [] h Q := by
    refine z_lload_n dX9_power_22 rfl rfl ?_
    refine z_lret dX9_power_23 ?_
    exact hQ
  refine z_lconst (v := 1) dX9_power_0 (by decide) ?_
  refine z_eql (show _ = lN (x ^ 0) from rfl) ?_
  refine z_lstore_n dX9_power_1 rfl (Nat.le_of_ble_eq_true rfl) ?_
  refine z_iconst (v := 0) dX9_power_2 (by decide) ?_
  refine z_istore dX9_power_3 (Nat.le_of_ble_eq_true rfl) ?_
  exact X9_power_loop hx hn K n 0 (by omega)

theorem r_common_loop {h : Hp} {d N S x y : Nat} {Q : Option Value → Hp → Prop} : ∀ m p q (o8 : Option Value), q ≤ m → p < 2 ^ 62 → q < 2 ^ 62 → Q (some (.long (lN (Nat.gcd p q)))) h → T d N S mX9_common 6 [some (.long (lN x)), none, some (.long (lN y)), none, some (.long (lN p)), none, some (.long (lN q)), none, o8, none] [] h Q := by
  intro m
  induction m with
  | zero =>
    intro p q o8 hm hp hq hQ
    have e : q = 0 := Nat.le_zero.mp hm
    subst e
    rw [Nat.gcd_zero_right] at hQ
    refine z_lload dX9_common_6 rfl ?_
    refine z_lconst (v := 0) dX9_common_8 (by decide) ?_
    refine z_lcmp dX9_common_9 ?_
    refine z_if_eq dX9_common_10 rfl (fun _ => ?_) (fun c => absurd ((lcmp0 hq).mpr rfl) c)
    refine z_lload dX9_common_31 rfl ?_
    refine z_lret dX9_common_33 ?_
    exact hQ
  | succ m ih =>
    intro p q o8 hm hp hq hQ
    by_cases h0 : q = 0
    · subst h0
      rw [Nat.gcd_zero_right] at hQ
      refine z_lload dX9_common_6 rfl ?_
      refine z_lconst (v := 0) dX9_common_8 (by decide) ?_
      refine z_lcmp dX9_common_9 ?_
      refine z_if_eq dX9_common_10 rfl (fun _ => ?_) (fun c => absurd ((lcmp0 hq).mpr rfl) c)
      refine z_lload dX9_common_31 rfl ?_
      refine z_lret dX9_common_33 ?_
      exact hQ
    · have hl : p % q < q := Nat.mod_lt _ (by omega)
      rw [gcd_step] at hQ
      refine z_lload dX9_common_6 rfl ?_
      refine z_lconst (v := 0) dX9_common_8 (by decide) ?_
      refine z_lcmp dX9_common_9 ?_
      refine z_if_eq dX9_common_10 rfl (fun c => absurd c (fun c => h0 ((lcmp0 hq).mp c))) (fun _ => ?_)
      refine z_lload dX9_common_13 rfl ?_
      refine z_lload dX9_common_15 rfl ?_
      refine z_lrem dX9_common_17 (fun q => h0 ((lN_eq0 hq).mp q)) ?_
      refine z_eql (lN_rem hp hq) ?_
      refine z_lstore dX9_common_18 (Nat.le_of_ble_eq_true rfl) ?_
      refine z_lload dX9_common_20 rfl ?_
      refine z_lstore dX9_common_22 (Nat.le_of_ble_eq_true rfl) ?_
      refine z_lload dX9_common_24 rfl ?_
      refine z_lstore dX9_common_26 (Nat.le_of_ble_eq_true rfl) ?_
      refine z_goto dX9_common_28 rfl ?_
      exact ih q (p % q) _ (by omega) hq (by omega) hQ
theorem r_common {h : Hp} {d x y : Nat} (hx : x < 2 ^ 62) (hy : y < 2 ^ 62) : Sp d mX9_common [.long (lN x), .long (lN y)] h (some (.long (lN (Nat.gcd x y)))) h := by
  intro N S Q hN hS hQ
  refine z_lload_n dX9_common_0 rfl rfl ?_
  refine z_lstore dX9_common_1 (Nat.le_of_ble_eq_true rfl) ?_
  refine z_lload_n dX9_common_3 rfl rfl ?_
  refine z_lstore dX9_common_4 (Nat.le_of_ble_eq_true rfl) ?_
  exact r_common_loop y x y none (Nat.le_refl _) hx hy hQ

theorem r_laid_loop {s : Ms} {h : Hp} {d N S al F dd V : Nat} {Q : Option Value → Hp → Prop} (hr : RM s h) (hv : IC s.1) (hf : IFc s.1) (hal : al = 0 ∨ al = 1) (hF : F < 256) (hdd : dd ≤ 4) (hN : pn h ≤ N) (hS : ps h ≤ S) (hd : 1 ≤ d) (K : ∀ o5, T d N S mX9_isLaid 157 [some (.ref 488), some (.int (nI al)), some (.int (nI F)), some (.int (nI dd)), some (.int (nI (s.1 0))), o5, none] [] (sJ (sJ h 488 27 (lN V)) 488 26 (lN (odP al s.1 (dif F (s.1 10)) dd (s.1 0)))) Q) : ∀ r i (o5 : Option Value), i + r = s.1 0 → T d N S mX9_isLaid 70 [some (.ref 488), some (.int (nI al)), some (.int (nI F)), some (.int (nI dd)), some (.int (nI i)), o5, none] [] (sJ (sJ h 488 27 (lN V)) 488 26 (lN (odP al s.1 (dif F (s.1 10)) dd i))) Q := by
  have hm := hr.m
  have v0 := hv.1
  have hU := dif_le F (s.1 10)
  intro r
  induction r with
  | zero =>
    intro i o5 hi
    have e : i = s.1 0 := by omega
    subst e
    refine z_iload dX9_isLaid_70 rfl ?_
    refine z_aload_n dX9_isLaid_72 rfl rfl ?_
    refine y_getR FX9_7 dX9_isLaid_73 rfl hm.o hm.f_a ?_
    refine z_iconst (v := 0) dX9_isLaid_76 (by decide) ?_
    refine y_ialN (0) dX9_isLaid_77 hm.A_a (Nat.le_of_ble_eq_true rfl) (rfl) (by omega) ?_
    refine z_eqi (show _ = nI (s.1 0) from hr.at (by omega) (by omega)) ?_
    refine z_icmp_ge dX9_isLaid_78 rfl (fun _ => ?_) (fun c => absurd (Int32.le_refl _) c)
    exact K _
  | succ r ih =>
    intro i o5 hi
    have hfi := (hf i (by omega)).1
    by_cases hb : (dif F (s.1 10)).testBit i = true
    · rcases hal with ha | ha
      · have e : odP al s.1 (dif F (s.1 10)) dd (i + 1) = odP al s.1 (dif F (s.1 10)) dd i * nev s.1 dd i := by
          show (if _ then _ else _) = _
          rw [if_pos hb, if_neg (by omega)]
        refine z_iload dX9_isLaid_70 rfl ?_
        refine z_aload_n dX9_isLaid_72 rfl rfl ?_
        refine y_getR FX9_7 dX9_isLaid_73 rfl hm.o hm.f_a ?_
        refine z_iconst (v := 0) dX9_isLaid_76 (by decide) ?_
        refine y_ialN (0) dX9_isLaid_77 hm.A_a (Nat.le_of_ble_eq_true rfl) (rfl) (by omega) ?_
        refine z_eqi (show _ = nI (s.1 0) from hr.at (by omega) (by omega)) ?_
        refine z_icmp_ge dX9_isLaid_78 rfl (fun c => absurd c (fun q => absurd ((nI_leI (by omega) (by omega)).mp q) (by omega))) (fun _ => ?_)
        refine z_iload_n dX9_isLaid_81 rfl rfl ?_
        refine z_aload_n dX9_isLaid_82 rfl rfl ?_
        refine y_getR FX9_7 dX9_isLaid_83 rfl hm.o hm.f_a ?_
        refine z_bipush (v := 10) dX9_isLaid_86 (by decide) ?_
        refine y_ialN (10) dX9_isLaid_88 hm.A_a (Nat.le_of_ble_eq_true rfl) (rfl) (by omega) ?_
        refine z_eqi (show _ = nI (s.1 10) from hr.at (by omega) (by omega)) ?_
        refine z_iconst (v := -1) dX9_isLaid_89 (by decide) ?_
        refine z_ixor dX9_isLaid_90 ?_
        refine z_iand dX9_isLaid_91 ?_
        refine z_eqi (nI_dif F (s.1 10)) ?_
        refine z_iload dX9_isLaid_92 rfl ?_
        refine y_callS (as := [_, _]) CX9_has LX9_261 SX9_has dX9_isLaid_94 rfl (Nat.le_of_ble_eq_true rfl) (Nat.le_of_ble_eq_true rfl) (by omega) (r_has (n := dif F (s.1 10)) (k := i) (by omega) (by omega)) (rok_z bI_01) ⟨Nat.le_refl _, Nat.le_refl _, hN, hS⟩ ?_
        refine z_if_ne dX9_isLaid_97 rfl (fun _ => ?_) (fun c => absurd c (bI_ne0.mpr hb))
        refine z_bipush (v := 10) dX9_isLaid_103 (by decide) ?_
        refine z_aload_n dX9_isLaid_105 rfl rfl ?_
        refine y_getR FX9_7 dX9_isLaid_106 rfl hm.o hm.f_a ?_
        refine z_bipush (v := 110) dX9_isLaid_109 (by decide) ?_
        refine z_iconst (v := 2) dX9_isLaid_111 (by decide) ?_
        refine z_iload dX9_isLaid_112 rfl ?_
        refine z_imul dX9_isLaid_114 ?_
        refine z_iadd dX9_isLaid_115 ?_
        refine y_ialN (110 + 2 * i) dX9_isLaid_116 hm.A_a (Nat.le_of_ble_eq_true rfl) (by first | rfl | (simp only [← nI_add, ← pk_mul]; rfl)) (by omega) ?_
        refine z_eqi (show _ = nI (s.1 (110 + 2 * i)) from hr.at (by omega) (by omega)) ?_
        refine z_isub dX9_isLaid_117 ?_
        refine z_eqi (show _ = nI (10 - s.1 (110 + 2 * i)) from pk_sub hfi) ?_
        refine z_iload_n dX9_isLaid_118 rfl rfl ?_
        refine y_callS (as := [_, _]) CX9_power LX9_444 SX9_power dX9_isLaid_119 rfl (Nat.le_of_ble_eq_true rfl) (Nat.le_of_ble_eq_true rfl) (by omega) (p_X9_power (x := 10 - s.1 (110 + 2 * i)) (n := dd) (by omega) (by omega)) rok_l ⟨Nat.le_refl _, Nat.le_refl _, hN, hS⟩ ?_
        refine z_lstore dX9_isLaid_122 (Nat.le_of_ble_eq_true rfl) ?_
        refine z_aload_n dX9_isLaid_124 rfl rfl ?_
        refine z_dup dX9_isLaid_125 rfl ?_
        refine y_getJ FX9_450 dX9_isLaid_126 rfl hm.o ?_
        refine z_eql (show _ = lN (odP al s.1 (dif F (s.1 10)) dd i) by rw [pJ_sJ, if_pos rfl, if_pos rfl]) ?_
        refine z_iload_n dX9_isLaid_129 rfl rfl ?_
        refine z_if_eq dX9_isLaid_130 rfl (fun _ => ?_) (fun c => absurd (congrArg nI ha) c)
        refine z_lload dX9_isLaid_145 rfl ?_
        refine z_lmul dX9_isLaid_147 ?_
        refine z_eql (lN_mul _ _) ?_
        refine y_putJ FX9_450 dX9_isLaid_148 (Or.inl rfl) rfl hm.o ?_
        refine z_iinc dX9_isLaid_151 rfl (nI_1 _) (Nat.le_of_ble_eq_true rfl) ?_
        refine z_goto dX9_isLaid_154 rfl ?_
        rw [sJ_sJ]
        have K2 := ih (i + 1) (some (.long (lN (nev s.1 dd i)))) (by omega)
        rw [e] at K2
        exact K2
      · have e : odP al s.1 (dif F (s.1 10)) dd (i + 1) = odP al s.1 (dif F (s.1 10)) dd i * (10 ^ dd - nev s.1 dd i) := by
          show (if _ then _ else _) = _
          rw [if_pos hb, if_pos ha]
        refine z_iload dX9_isLaid_70 rfl ?_
        refine z_aload_n dX9_isLaid_72 rfl rfl ?_
        refine y_getR FX9_7 dX9_isLaid_73 rfl hm.o hm.f_a ?_
        refine z_iconst (v := 0) dX9_isLaid_76 (by decide) ?_
        refine y_ialN (0) dX9_isLaid_77 hm.A_a (Nat.le_of_ble_eq_true rfl) (rfl) (by omega) ?_
        refine z_eqi (show _ = nI (s.1 0) from hr.at (by omega) (by omega)) ?_
        refine z_icmp_ge dX9_isLaid_78 rfl (fun c => absurd c (fun q => absurd ((nI_leI (by omega) (by omega)).mp q) (by omega))) (fun _ => ?_)
        refine z_iload_n dX9_isLaid_81 rfl rfl ?_
        refine z_aload_n dX9_isLaid_82 rfl rfl ?_
        refine y_getR FX9_7 dX9_isLaid_83 rfl hm.o hm.f_a ?_
        refine z_bipush (v := 10) dX9_isLaid_86 (by decide) ?_
        refine y_ialN (10) dX9_isLaid_88 hm.A_a (Nat.le_of_ble_eq_true rfl) (rfl) (by omega) ?_
        refine z_eqi (show _ = nI (s.1 10) from hr.at (by omega) (by omega)) ?_
        refine z_iconst (v := -1) dX9_isLaid_89 (by decide) ?_
        refine z_ixor dX9_isLaid_90 ?_
        refine z_iand dX9_isLaid_91 ?_
        refine z_eqi (nI_dif F (s.1 10)) ?_
        refine z_iload dX9_isLaid_92 rfl ?_
        refine y_callS (as := [_, _]) CX9_has LX9_261 SX9_has dX9_isLaid_94 rfl (Nat.le_of_ble_eq_true rfl) (Nat.le_of_ble_eq_true rfl) (by omega) (r_has (n := dif F (s.1 10)) (k := i) (by omega) (by omega)) (rok_z bI_01) ⟨Nat.le_refl _, Nat.le_refl _, hN, hS⟩ ?_
        refine z_if_ne dX9_isLaid_97 rfl (fun _ => ?_) (fun c => absurd c (bI_ne0.mpr hb))
        refine z_bipush (v := 10) dX9_isLaid_103 (by decide) ?_
        refine z_aload_n dX9_isLaid_105 rfl rfl ?_
        refine y_getR FX9_7 dX9_isLaid_106 rfl hm.o hm.f_a ?_
        refine z_bipush (v := 110) dX9_isLaid_109 (by decide) ?_
        refine z_iconst (v := 2) dX9_isLaid_111 (by decide) ?_
        refine z_iload dX9_isLaid_112 rfl ?_
        refine z_imul dX9_isLaid_114 ?_
        refine z_iadd dX9_isLaid_115 ?_
        refine y_ialN (110 + 2 * i) dX9_isLaid_116 hm.A_a (Nat.le_of_ble_eq_true rfl) (by first | rfl | (simp only [← nI_add, ← pk_mul]; rfl)) (by omega) ?_
        refine z_eqi (show _ = nI (s.1 (110 + 2 * i)) from hr.at (by omega) (by omega)) ?_
        refine z_isub dX9_isLaid_117 ?_
        refine z_eqi (show _ = nI (10 - s.1 (110 + 2 * i)) from pk_sub hfi) ?_
        refine z_iload_n dX9_isLaid_118 rfl rfl ?_
        refine y_callS (as := [_, _]) CX9_power LX9_444 SX9_power dX9_isLaid_119 rfl (Nat.le_of_ble_eq_true rfl) (Nat.le_of_ble_eq_true rfl) (by omega) (p_X9_power (x := 10 - s.1 (110 + 2 * i)) (n := dd) (by omega) (by omega)) rok_l ⟨Nat.le_refl _, Nat.le_refl _, hN, hS⟩ ?_
        refine z_lstore dX9_isLaid_122 (Nat.le_of_ble_eq_true rfl) ?_
        refine z_aload_n dX9_isLaid_124 rfl rfl ?_
        refine z_dup dX9_isLaid_125 rfl ?_
        refine y_getJ FX9_450 dX9_isLaid_126 rfl hm.o ?_
        refine z_eql (show _ = lN (odP al s.1 (dif F (s.1 10)) dd i) by rw [pJ_sJ, if_pos rfl, if_pos rfl]) ?_
        refine z_iload_n dX9_isLaid_129 rfl rfl ?_
        refine z_if_eq dX9_isLaid_130 rfl (fun c => absurd c (fun q => absurd ((nI_eq (b := 0) (by omega) (by omega)).mp q) (by omega))) (fun _ => ?_)
        refine z_bipush (v := 10) dX9_isLaid_133 (by decide) ?_
        refine z_iload_n dX9_isLaid_135 rfl rfl ?_
        refine y_callS (as := [_, _]) CX9_power LX9_444 SX9_power dX9_isLaid_136 rfl (Nat.le_of_ble_eq_true rfl) (Nat.le_of_ble_eq_true rfl) (by omega) (p_X9_power (x := 10) (n := dd) (by omega) (by omega)) rok_l ⟨Nat.le_refl _, Nat.le_refl _, hN, hS⟩ ?_
        refine z_lload dX9_isLaid_139 rfl ?_
        refine z_lsub dX9_isLaid_141 ?_
        refine z_goto dX9_isLaid_142 rfl ?_
        refine z_eql (lN_sub (nev_le s.1 dd i)) ?_
        refine z_lmul dX9_isLaid_147 ?_
        refine z_eql (lN_mul _ _) ?_
        refine y_putJ FX9_450 dX9_isLaid_148 (Or.inl rfl) rfl hm.o ?_
        refine z_iinc dX9_isLaid_151 rfl (nI_1 _) (Nat.le_of_ble_eq_true rfl) ?_
        refine z_goto dX9_isLaid_154 rfl ?_
        rw [sJ_sJ]
        have K2 := ih (i + 1) (some (.long (lN (nev s.1 dd i)))) (by omega)
        rw [e] at K2
        exact K2
    · have e : odP al s.1 (dif F (s.1 10)) dd (i + 1) = odP al s.1 (dif F (s.1 10)) dd i := by
        show (if _ then _ else _) = _
        rw [if_neg hb]
      refine z_iload dX9_isLaid_70 rfl ?_
      refine z_aload_n dX9_isLaid_72 rfl rfl ?_
      refine y_getR FX9_7 dX9_isLaid_73 rfl hm.o hm.f_a ?_
      refine z_iconst (v := 0) dX9_isLaid_76 (by decide) ?_
      refine y_ialN (0) dX9_isLaid_77 hm.A_a (Nat.le_of_ble_eq_true rfl) (rfl) (by omega) ?_
      refine z_eqi (show _ = nI (s.1 0) from hr.at (by omega) (by omega)) ?_
      refine z_icmp_ge dX9_isLaid_78 rfl (fun c => absurd c (fun q => absurd ((nI_leI (by omega) (by omega)).mp q) (by omega))) (fun _ => ?_)
      refine z_iload_n dX9_isLaid_81 rfl rfl ?_
      refine z_aload_n dX9_isLaid_82 rfl rfl ?_
      refine y_getR FX9_7 dX9_isLaid_83 rfl hm.o hm.f_a ?_
      refine z_bipush (v := 10) dX9_isLaid_86 (by decide) ?_
      refine y_ialN (10) dX9_isLaid_88 hm.A_a (Nat.le_of_ble_eq_true rfl) (rfl) (by omega) ?_
      refine z_eqi (show _ = nI (s.1 10) from hr.at (by omega) (by omega)) ?_
      refine z_iconst (v := -1) dX9_isLaid_89 (by decide) ?_
      refine z_ixor dX9_isLaid_90 ?_
      refine z_iand dX9_isLaid_91 ?_
      refine z_eqi (nI_dif F (s.1 10)) ?_
      refine z_iload dX9_isLaid_92 rfl ?_
      refine y_callS (as := [_, _]) CX9_has LX9_261 SX9_has dX9_isLaid_94 rfl (Nat.le_of_ble_eq_true rfl) (Nat.le_of_ble_eq_true rfl) (by omega) (r_has (n := dif F (s.1 10)) (k := i) (by omega) (by omega)) (rok_z bI_01) ⟨Nat.le_refl _, Nat.le_refl _, hN, hS⟩ ?_
      refine z_if_ne dX9_isLaid_97 rfl (fun c => absurd (bI_eq0.mpr hb) c) (fun _ => ?_)
      refine z_goto dX9_isLaid_100 rfl ?_
      refine z_iinc dX9_isLaid_151 rfl (nI_1 _) (Nat.le_of_ble_eq_true rfl) ?_
      refine z_goto dX9_isLaid_154 rfl ?_
      have K2 := ih (i + 1) o5 (by omega)
      rw [e] at K2
      exact K2

theorem r_isLaid {s : Ms} {h : Hp} {d al F dd : Nat} (hr : RM s h) (hv : IC s.1) (hf : IFc s.1) (hal : al = 0 ∨ al = 1) (hF : 1 ≤ nI F ∧ nI F < nI (2 ^ s.1 0)) (hF2 : F < 256) (hdd : inr (nI dd) 1 4) (hd4 : dd ≤ 4) (hp : pcn (dif F (s.1 10)) ≤ 3) (hd : 2 ≤ d) : Sp d mX9_isLaid [.ref 488, .int (nI al), .int (nI F), .int (nI dd)] h (some (.int 1)) (sJ (sJ h 488 27 (lN (odW s.1 F dd))) 488 26 (lN (odU al s.1 F dd))) := by
  have hm := hr.m
  have v0 := hv.1
  have hU := dif_le F (s.1 10)
  have hpw : dd * pcn (dif F (s.1 10)) < 2 ^ 31 := by
    have := Nat.mul_le_mul hd4 hp
    omega
  intro N S Q hN hS hQ
  have hN : pn h ≤ N := hN
  have hS : ps h ≤ S := hS
  have K : ∀ o5, T d N S mX9_isLaid 157 [some (.ref 488), some (.int (nI al)), some (.int (nI F)), some (.int (nI dd)), some (.int (nI (s.1 0))), o5, none] [] (sJ (sJ h 488 27 (lN (odW s.1 F dd))) 488 26 (lN (odP al s.1 (dif F (s.1 10)) dd (s.1 0)))) Q := fun o5 => by
    rcases hal with ha | ha
    · by_cases hz : F &&& s.1 10 = 0
      · have eu : odU al s.1 F dd = odW s.1 F dd - odP al s.1 (dif F (s.1 10)) dd (s.1 0) := by
          unfold odU
          rw [if_neg (by omega), if_pos hz]
        rw [eu] at hQ
        refine z_iload_n dX9_isLaid_157 rfl rfl ?_
        refine z_if_ne dX9_isLaid_158 rfl (fun c => absurd (congrArg nI ha) c) (fun _ => ?_)
        refine z_aload_n dX9_isLaid_161 rfl rfl ?_
        refine z_iload_n dX9_isLaid_162 rfl rfl ?_
        refine z_aload_n dX9_isLaid_163 rfl rfl ?_
        refine y_getR FX9_7 dX9_isLaid_164 rfl hm.o hm.f_a ?_
        refine z_bipush (v := 10) dX9_isLaid_167 (by decide) ?_
        refine y_ialN (10) dX9_isLaid_169 hm.A_a (Nat.le_of_ble_eq_true rfl) (rfl) (by omega) ?_
        refine z_eqi (show _ = nI (s.1 10) from hr.at (by omega) (by omega)) ?_
        refine z_iand dX9_isLaid_170 ?_
        refine z_eqi (nI_and F (s.1 10)) ?_
        refine z_if_eq dX9_isLaid_171 rfl (fun _ => ?_) (fun c => absurd (congrArg nI hz) c)
        refine z_aload_n dX9_isLaid_181 rfl rfl ?_
        refine y_getJ FX9_447 dX9_isLaid_182 rfl hm.o ?_
        refine z_eql (show _ = lN (odW s.1 F dd) by rw [pJ_sJ, if_pos rfl, if_neg (by omega), pJ_sJ, if_pos rfl, if_pos rfl]) ?_
        refine z_aload_n dX9_isLaid_185 rfl rfl ?_
        refine y_getJ FX9_450 dX9_isLaid_186 rfl hm.o ?_
        refine z_eql (show _ = lN (odP al s.1 (dif F (s.1 10)) dd (s.1 0)) by rw [pJ_sJ, if_pos rfl, if_pos rfl]) ?_
        refine z_lsub dX9_isLaid_189 ?_
        refine z_eql (lN_sub (odP_W v0)) ?_
        refine y_putJ FX9_450 dX9_isLaid_190 (Or.inl rfl) rfl hm.o ?_
        refine z_iconst (v := 1) dX9_isLaid_193 (by decide) ?_
        refine z_iret dX9_isLaid_194 ?_
        rw [sJ_sJ]
        exact hQ
      · have eu : odU al s.1 F dd = odW s.1 F dd := by
          unfold odU
          rw [if_neg (by omega), if_neg hz]
        rw [eu] at hQ
        have hzz : ¬ nI (F &&& s.1 10) = 0 := fun q => hz ((nI_eq (b := 0) (Nat.lt_of_le_of_lt Nat.and_le_left (by omega)) (by omega)).mp q)
        refine z_iload_n dX9_isLaid_157 rfl rfl ?_
        refine z_if_ne dX9_isLaid_158 rfl (fun c => absurd (congrArg nI ha) c) (fun _ => ?_)
        refine z_aload_n dX9_isLaid_161 rfl rfl ?_
        refine z_iload_n dX9_isLaid_162 rfl rfl ?_
        refine z_aload_n dX9_isLaid_163 rfl rfl ?_
        refine y_getR FX9_7 dX9_isLaid_164 rfl hm.o hm.f_a ?_
        refine z_bipush (v := 10) dX9_isLaid_167 (by decide) ?_
        refine y_ialN (10) dX9_isLaid_169 hm.A_a (Nat.le_of_ble_eq_true rfl) (rfl) (by omega) ?_
        refine z_eqi (show _ = nI (s.1 10) from hr.at (by omega) (by omega)) ?_
        refine z_iand dX9_isLaid_170 ?_
        refine z_eqi (nI_and F (s.1 10)) ?_
        refine z_if_eq dX9_isLaid_171 rfl (fun c => absurd c (hzz)) (fun _ => ?_)
        refine z_aload_n dX9_isLaid_174 rfl rfl ?_
        refine y_getJ FX9_447 dX9_isLaid_175 rfl hm.o ?_
        refine z_eql (show _ = lN (odW s.1 F dd) by rw [pJ_sJ, if_pos rfl, if_neg (by omega), pJ_sJ, if_pos rfl, if_pos rfl]) ?_
        refine z_goto dX9_isLaid_178 rfl ?_
        refine y_putJ FX9_450 dX9_isLaid_190 (Or.inl rfl) rfl hm.o ?_
        refine z_iconst (v := 1) dX9_isLaid_193 (by decide) ?_
        refine z_iret dX9_isLaid_194 ?_
        rw [sJ_sJ]
        exact hQ
    · have eu : odU al s.1 F dd = odP al s.1 (dif F (s.1 10)) dd (s.1 0) := by
        unfold odU
        rw [if_pos ha]
      rw [eu] at hQ
      refine z_iload_n dX9_isLaid_157 rfl rfl ?_
      refine z_if_ne dX9_isLaid_158 rfl (fun _ => ?_) (fun c => absurd c (fun q => absurd ((nI_eq (b := 0) (by omega) (by omega)).mp q) (by omega)))
      refine z_iconst (v := 1) dX9_isLaid_193 (by decide) ?_
      refine z_iret dX9_isLaid_194 ?_
      exact hQ
  refine z_aload_n dX9_isLaid_0 rfl rfl ?_
  refine z_iload_n dX9_isLaid_1 rfl rfl ?_
  refine y_callV (as := [_]) CX9_areFacts LX9_371 IX9_areFacts VX9_areFacts ⟨rfl, Nat.le_of_ble_eq_true rfl⟩ dX9_isLaid_2 hm.o rfl (Nat.le_of_ble_eq_true rfl) (Nat.le_of_ble_eq_true rfl) (by omega) (r_areFacts (n := s.1 0) (by exact hm) (hr.at (by omega) (by omega)) v0 _ (by omega)) (rok_z bI_01) ⟨Nat.le_refl _, Nat.le_refl _, hN, hS⟩ ?_
  refine z_if_eq dX9_isLaid_5 rfl (fun c => absurd c (bI_ne0.mpr hF)) (fun _ => ?_)
  refine z_iload_n dX9_isLaid_8 rfl rfl ?_
  refine z_iconst (v := 1) dX9_isLaid_9 (by decide) ?_
  refine z_iconst (v := 4) dX9_isLaid_10 (by decide) ?_
  refine y_callS (as := [_, _, _]) CX9_isIn LX9_63 SX9_isIn dX9_isLaid_11 rfl (Nat.le_of_ble_eq_true rfl) (Nat.le_of_ble_eq_true rfl) (by omega) (r_isIn _ _ _) (rok_z bI_01) ⟨Nat.le_refl _, Nat.le_refl _, hN, hS⟩ ?_
  refine z_if_eq dX9_isLaid_14 rfl (fun c => absurd c (bI_ne0.mpr hdd)) (fun _ => ?_)
  refine z_iload_n dX9_isLaid_17 rfl rfl ?_
  refine z_aload_n dX9_isLaid_18 rfl rfl ?_
  refine y_getR FX9_7 dX9_isLaid_19 rfl hm.o hm.f_a ?_
  refine z_bipush (v := 10) dX9_isLaid_22 (by decide) ?_
  refine y_ialN (10) dX9_isLaid_24 hm.A_a (Nat.le_of_ble_eq_true rfl) (rfl) (by omega) ?_
  refine z_eqi (show _ = nI (s.1 10) from hr.at (by omega) (by omega)) ?_
  refine z_iconst (v := -1) dX9_isLaid_25 (by decide) ?_
  refine z_ixor dX9_isLaid_26 ?_
  refine z_iand dX9_isLaid_27 ?_
  refine z_eqi (nI_dif F (s.1 10)) ?_
  refine y_callS (as := [_]) CX9_bits LX9_310 SX9_bits dX9_isLaid_28 rfl (Nat.le_of_ble_eq_true rfl) (Nat.le_of_ble_eq_true rfl) (by omega) (r_bits (n := dif F (s.1 10)) (by omega)) rok_i ⟨Nat.le_refl _, Nat.le_refl _, hN, hS⟩ ?_
  refine z_iconst (v := 3) dX9_isLaid_31 (by decide) ?_
  refine z_icmp_le dX9_isLaid_32 rfl (fun _ => ?_) (fun c => absurd ((nI_leI (b := 3) (by omega) (by omega)).mpr hp) c)
  refine z_aload_n dX9_isLaid_37 rfl rfl ?_
  refine z_bipush (v := 10) dX9_isLaid_38 (by decide) ?_
  refine z_iload_n dX9_isLaid_40 rfl rfl ?_
  refine z_iload_n dX9_isLaid_41 rfl rfl ?_
  refine z_aload_n dX9_isLaid_42 rfl rfl ?_
  refine y_getR FX9_7 dX9_isLaid_43 rfl hm.o hm.f_a ?_
  refine z_bipush (v := 10) dX9_isLaid_46 (by decide) ?_
  refine y_ialN (10) dX9_isLaid_48 hm.A_a (Nat.le_of_ble_eq_true rfl) (rfl) (by omega) ?_
  refine z_eqi (show _ = nI (s.1 10) from hr.at (by omega) (by omega)) ?_
  refine z_iconst (v := -1) dX9_isLaid_49 (by decide) ?_
  refine z_ixor dX9_isLaid_50 ?_
  refine z_iand dX9_isLaid_51 ?_
  refine z_eqi (nI_dif F (s.1 10)) ?_
  refine y_callS (as := [_]) CX9_bits LX9_310 SX9_bits dX9_isLaid_52 rfl (Nat.le_of_ble_eq_true rfl) (Nat.le_of_ble_eq_true rfl) (by omega) (r_bits (n := dif F (s.1 10)) (by omega)) rok_i ⟨Nat.le_refl _, Nat.le_refl _, hN, hS⟩ ?_
  refine z_imul dX9_isLaid_55 ?_
  refine z_eqi (pk_mul dd (pcn (dif F (s.1 10)))) ?_
  refine y_callS (as := [_, _]) CX9_power LX9_444 SX9_power dX9_isLaid_56 rfl (Nat.le_of_ble_eq_true rfl) (Nat.le_of_ble_eq_true rfl) (by omega) (p_X9_power (x := 10) (n := dd * pcn (dif F (s.1 10))) (by omega) hpw) rok_l ⟨Nat.le_refl _, Nat.le_refl _, hN, hS⟩ ?_
  refine y_putJ FX9_447 dX9_isLaid_59 (Or.inl rfl) rfl hm.o ?_
  refine z_aload_n dX9_isLaid_62 rfl rfl ?_
  refine z_lconst (v := 1) dX9_isLaid_63 (by decide) ?_
  refine z_eql (show _ = lN 1 from rfl) ?_
  refine y_putJ FX9_450 dX9_isLaid_64 (Or.inl rfl) rfl hm.o ?_
  refine z_iconst (v := 0) dX9_isLaid_67 (by decide) ?_
  refine z_istore dX9_isLaid_68 (Nat.le_of_ble_eq_true rfl) ?_
  exact r_laid_loop (V := odW s.1 F dd) hr hv hf hal hF2 hd4 hN hS (by omega) K (s.1 0) 0 none (by omega)
theorem r_isLaidN {s : Ms} {h : Hp} {d al : Nat} {x y : Int32} (hr : RM s h) (hv : IC s.1) (hn : ¬ okO s.1 x y) (hd : 2 ≤ d) : Sp d mX9_isLaid [.ref 488, .int (nI al), .int x, .int y] h (some (.int 0)) h := by
  have hm := hr.m
  have v0 := hv.1
  have p8 : 2 ^ s.1 0 ≤ 2 ^ 8 := Nat.pow_le_pow_right (by omega) v0
  intro N S Q hN hS hQ
  by_cases h1 : 1 ≤ x ∧ x < nI (2 ^ s.1 0)
  · by_cases h2 : inr y 1 4
    · obtain ⟨F, hF, rfl⟩ := vin_of (n := 2 ^ s.1 0) (by omega) ⟨Int32.le_trans (by decide) h1.1, h1.2⟩
      have h3 : ¬ pcn (dif F (s.1 10)) ≤ 3 := fun q => hn ⟨h1, h2, by rw [nn_nI (by omega)]; exact q⟩
      have hU := dif_le F (s.1 10)
      have hl := pcn_le (dif F (s.1 10))
      refine z_aload_n dX9_isLaid_0 rfl rfl ?_
      refine z_iload_n dX9_isLaid_1 rfl rfl ?_
      refine y_callV (as := [_]) CX9_areFacts LX9_371 IX9_areFacts VX9_areFacts ⟨rfl, Nat.le_of_ble_eq_true rfl⟩ dX9_isLaid_2 hm.o rfl (Nat.le_of_ble_eq_true rfl) (Nat.le_of_ble_eq_true rfl) (by omega) (r_areFacts (n := s.1 0) (by exact hm) (hr.at (by omega) (by omega)) v0 _ (by omega)) (rok_z bI_01) ⟨Nat.le_refl _, Nat.le_refl _, hN, hS⟩ ?_
      refine z_if_eq dX9_isLaid_5 rfl (fun c => absurd c (bI_ne0.mpr h1)) (fun _ => ?_)
      refine z_iload_n dX9_isLaid_8 rfl rfl ?_
      refine z_iconst (v := 1) dX9_isLaid_9 (by decide) ?_
      refine z_iconst (v := 4) dX9_isLaid_10 (by decide) ?_
      refine y_callS (as := [_, _, _]) CX9_isIn LX9_63 SX9_isIn dX9_isLaid_11 rfl (Nat.le_of_ble_eq_true rfl) (Nat.le_of_ble_eq_true rfl) (by omega) (r_isIn _ _ _) (rok_z bI_01) ⟨Nat.le_refl _, Nat.le_refl _, hN, hS⟩ ?_
      refine z_if_eq dX9_isLaid_14 rfl (fun c => absurd c (bI_ne0.mpr h2)) (fun _ => ?_)
      refine z_iload_n dX9_isLaid_17 rfl rfl ?_
      refine z_aload_n dX9_isLaid_18 rfl rfl ?_
      refine y_getR FX9_7 dX9_isLaid_19 rfl hm.o hm.f_a ?_
      refine z_bipush (v := 10) dX9_isLaid_22 (by decide) ?_
      refine y_ialN (10) dX9_isLaid_24 hm.A_a (Nat.le_of_ble_eq_true rfl) (rfl) (by omega) ?_
      refine z_eqi (show _ = nI (s.1 10) from hr.at (by omega) (by omega)) ?_
      refine z_iconst (v := -1) dX9_isLaid_25 (by decide) ?_
      refine z_ixor dX9_isLaid_26 ?_
      refine z_iand dX9_isLaid_27 ?_
      refine z_eqi (nI_dif F (s.1 10)) ?_
      refine y_callS (as := [_]) CX9_bits LX9_310 SX9_bits dX9_isLaid_28 rfl (Nat.le_of_ble_eq_true rfl) (Nat.le_of_ble_eq_true rfl) (by omega) (r_bits (n := dif F (s.1 10)) (by omega)) rok_i ⟨Nat.le_refl _, Nat.le_refl _, hN, hS⟩ ?_
      refine z_iconst (v := 3) dX9_isLaid_31 (by decide) ?_
      refine z_icmp_le dX9_isLaid_32 rfl (fun c => absurd c (fun q => h3 ((nI_leI (b := 3) (by omega) (by omega)).mp q))) (fun _ => ?_)
      refine z_iconst (v := 0) dX9_isLaid_35 (by decide) ?_
      refine z_iret dX9_isLaid_36 ?_
      exact hQ
    · skip
      refine z_aload_n dX9_isLaid_0 rfl rfl ?_
      refine z_iload_n dX9_isLaid_1 rfl rfl ?_
      refine y_callV (as := [_]) CX9_areFacts LX9_371 IX9_areFacts VX9_areFacts ⟨rfl, Nat.le_of_ble_eq_true rfl⟩ dX9_isLaid_2 hm.o rfl (Nat.le_of_ble_eq_true rfl) (Nat.le_of_ble_eq_true rfl) (by omega) (r_areFacts (n := s.1 0) (by exact hm) (hr.at (by omega) (by omega)) v0 _ (by omega)) (rok_z bI_01) ⟨Nat.le_refl _, Nat.le_refl _, hN, hS⟩ ?_
      refine z_if_eq dX9_isLaid_5 rfl (fun c => absurd c (bI_ne0.mpr h1)) (fun _ => ?_)
      refine z_iload_n dX9_isLaid_8 rfl rfl ?_
      refine z_iconst (v := 1) dX9_isLaid_9 (by decide) ?_
      refine z_iconst (v := 4) dX9_isLaid_10 (by decide) ?_
      refine y_callS (as := [_, _, _]) CX9_isIn LX9_63 SX9_isIn dX9_isLaid_11 rfl (Nat.le_of_ble_eq_true rfl) (Nat.le_of_ble_eq_true rfl) (by omega) (r_isIn _ _ _) (rok_z bI_01) ⟨Nat.le_refl _, Nat.le_refl _, hN, hS⟩ ?_
      refine z_if_eq dX9_isLaid_14 rfl (fun _ => ?_) (fun c => absurd (bI_eq0.mpr h2) c)
      refine z_iconst (v := 0) dX9_isLaid_35 (by decide) ?_
      refine z_iret dX9_isLaid_36 ?_
      exact hQ
  · skip
    refine z_aload_n dX9_isLaid_0 rfl rfl ?_
    refine z_iload_n dX9_isLaid_1 rfl rfl ?_
    refine y_callV (as := [_]) CX9_areFacts LX9_371 IX9_areFacts VX9_areFacts ⟨rfl, Nat.le_of_ble_eq_true rfl⟩ dX9_isLaid_2 hm.o rfl (Nat.le_of_ble_eq_true rfl) (Nat.le_of_ble_eq_true rfl) (by omega) (r_areFacts (n := s.1 0) (by exact hm) (hr.at (by omega) (by omega)) v0 _ (by omega)) (rok_z bI_01) ⟨Nat.le_refl _, Nat.le_refl _, hN, hS⟩ ?_
    refine z_if_eq dX9_isLaid_5 rfl (fun _ => ?_) (fun c => absurd (bI_eq0.mpr h1) c)
    refine z_iconst (v := 0) dX9_isLaid_35 (by decide) ?_
    refine z_iret dX9_isLaid_36 ?_
    exact hQ

theorem R_odds {s : Ms} {h : Hp} {d al low : Nat} (hr : RM s h) (hv : IC s.1) (hf : IFc s.1) (hal : al = 0 ∨ al = 1) (hlo : low = 0 ∨ low = 1) (x y : Int32) (hd : 3 ≤ d) : ∃ h1, Sp d mX9_odds [.ref 488, .int (nI al), .int x, .int y, .int (nI low)] h (some (.long (mOdds s.1 al x y low))) h1 ∧ RM s h1 ∧ FM h h1 := by
  have hm := hr.m
  have v0 := hv.1
  by_cases hc : okO s.1 x y
  · have eq : (mOdds s.1 al x y low) = lN ((if low = 1 then odW s.1 (nn x) (nn y) else odU al s.1 (nn x) (nn y)) / Nat.gcd (odU al s.1 (nn x) (nn y)) (odW s.1 (nn x) (nn y))) := if_pos hc
    rw [eq]
    have p8 : 2 ^ s.1 0 ≤ 2 ^ 8 := Nat.pow_le_pow_right (by omega) v0
    obtain ⟨F, hF, rfl⟩ := vin_of (n := 2 ^ s.1 0) (x := x) (by omega) ⟨Int32.le_trans (by decide) hc.1.1, hc.1.2⟩
    obtain ⟨dd, hd4, rfl⟩ := inr_of (n := 4) (x := y) (by omega) ⟨Int32.le_trans (by decide) hc.2.1.1, hc.2.1.2⟩
    have h3 := hc.2.2
    rw [nn_nI (by omega)] at h3
    have lw := odW_le (a := s.1) (F := F) (dd := dd) hd4 h3
    have lu := odU_le (al := al) (F := F) (dd := dd) v0
    have w0 := odW_pos s.1 F dd
    have hL := r_isLaid (d := 2) (al := al) hr hv hf hal hc.1 (by omega) hc.2.1 hd4 h3 (Nat.le_refl _)
    rw [nn_nI (by omega), nn_nI (by omega)]
    have gl : Nat.gcd (odU al s.1 F dd) (odW s.1 F dd) < 2 ^ 62 := gcd_lt (by omega) (by omega)
    have g0 : ¬ Nat.gcd (odU al s.1 F dd) (odW s.1 F dd) = 0 := fun q => by
      have := Nat.gcd_pos_of_pos_right (odU al s.1 F dd) w0
      omega
    refine ⟨(sJ (sJ h 488 27 (lN (odW s.1 F dd))) 488 26 (lN (odU al s.1 F dd))), ?_, hr.sJ.sJ, (FM.rf.sJ (by omega)).sJ (by omega)⟩
    intro N S Q hN hS hQ
    have hN : pn h ≤ N := hN
    have hS : ps h ≤ S := hS
    rcases hlo with hl | hl
    · rw [if_neg (by omega)] at hQ
      refine z_aload_n dX9_odds_0 rfl rfl ?_
      refine z_iload_n dX9_odds_1 rfl rfl ?_
      refine z_iload_n dX9_odds_2 rfl rfl ?_
      refine z_iload_n dX9_odds_3 rfl rfl ?_
      refine y_callV (as := [_, _, _]) CX9_isLaid LX9_453 IX9_isLaid VX9_isLaid ⟨rfl, Nat.le_of_ble_eq_true rfl⟩ dX9_odds_4 hm.o rfl (Nat.le_of_ble_eq_true rfl) (Nat.le_of_ble_eq_true rfl) (by omega) hL (rok_z (Or.inr rfl)) ⟨Nat.le_refl _, Nat.le_refl _, hN, hS⟩ ?_
      refine z_if_ne dX9_odds_7 rfl (fun _ => ?_) (fun c => absurd c (by decide))
      refine z_iload dX9_odds_16 rfl ?_
      refine z_if_eq dX9_odds_18 rfl (fun _ => ?_) (fun c => absurd (congrArg nI hl) c)
      refine z_aload_n dX9_odds_28 rfl rfl ?_
      refine y_getJ FX9_450 dX9_odds_29 rfl hm.o ?_
      refine z_eql (show _ = lN (odU al s.1 F dd) by rw [pJ_sJ, if_pos rfl, if_pos rfl]) ?_
      refine z_aload_n dX9_odds_32 rfl rfl ?_
      refine y_getJ FX9_450 dX9_odds_33 rfl hm.o ?_
      refine z_eql (show _ = lN (odU al s.1 F dd) by rw [pJ_sJ, if_pos rfl, if_pos rfl]) ?_
      refine z_aload_n dX9_odds_36 rfl rfl ?_
      refine y_getJ FX9_447 dX9_odds_37 rfl hm.o ?_
      refine z_eql (show _ = lN (odW s.1 F dd) by rw [pJ_sJ, if_pos rfl, if_neg (by omega), pJ_sJ, if_pos rfl, if_pos rfl]) ?_
      refine y_callS (as := [_, _]) CX9_common LX9_458 SX9_common dX9_odds_40 rfl (Nat.le_of_ble_eq_true rfl) (Nat.le_of_ble_eq_true rfl) (by omega) (r_common (x := odU al s.1 F dd) (y := odW s.1 F dd) (by omega) (by omega)) rok_l ⟨Nat.le_refl _, Nat.le_refl _, hN, hS⟩ ?_
      refine z_ldiv dX9_odds_43 (fun q => g0 ((lN_eq0 gl).mp q)) ?_
      refine z_eql (lN_div (by omega) gl) ?_
      refine z_lret dX9_odds_44 ?_
      exact hQ
    · rw [if_pos hl] at hQ
      refine z_aload_n dX9_odds_0 rfl rfl ?_
      refine z_iload_n dX9_odds_1 rfl rfl ?_
      refine z_iload_n dX9_odds_2 rfl rfl ?_
      refine z_iload_n dX9_odds_3 rfl rfl ?_
      refine y_callV (as := [_, _, _]) CX9_isLaid LX9_453 IX9_isLaid VX9_isLaid ⟨rfl, Nat.le_of_ble_eq_true rfl⟩ dX9_odds_4 hm.o rfl (Nat.le_of_ble_eq_true rfl) (Nat.le_of_ble_eq_true rfl) (by omega) hL (rok_z (Or.inr rfl)) ⟨Nat.le_refl _, Nat.le_refl _, hN, hS⟩ ?_
      refine z_if_ne dX9_odds_7 rfl (fun _ => ?_) (fun c => absurd c (by decide))
      refine z_iload dX9_odds_16 rfl ?_
      refine z_if_eq dX9_odds_18 rfl (fun c => absurd c (fun q => absurd ((nI_eq (b := 0) (by omega) (by omega)).mp q) (by omega))) (fun _ => ?_)
      refine z_aload_n dX9_odds_21 rfl rfl ?_
      refine y_getJ FX9_447 dX9_odds_22 rfl hm.o ?_
      refine z_eql (show _ = lN (odW s.1 F dd) by rw [pJ_sJ, if_pos rfl, if_neg (by omega), pJ_sJ, if_pos rfl, if_pos rfl]) ?_
      refine z_goto dX9_odds_25 rfl ?_
      refine z_aload_n dX9_odds_32 rfl rfl ?_
      refine y_getJ FX9_450 dX9_odds_33 rfl hm.o ?_
      refine z_eql (show _ = lN (odU al s.1 F dd) by rw [pJ_sJ, if_pos rfl, if_pos rfl]) ?_
      refine z_aload_n dX9_odds_36 rfl rfl ?_
      refine y_getJ FX9_447 dX9_odds_37 rfl hm.o ?_
      refine z_eql (show _ = lN (odW s.1 F dd) by rw [pJ_sJ, if_pos rfl, if_neg (by omega), pJ_sJ, if_pos rfl, if_pos rfl]) ?_
      refine y_callS (as := [_, _]) CX9_common LX9_458 SX9_common dX9_odds_40 rfl (Nat.le_of_ble_eq_true rfl) (Nat.le_of_ble_eq_true rfl) (by omega) (r_common (x := odU al s.1 F dd) (y := odW s.1 F dd) (by omega) (by omega)) rok_l ⟨Nat.le_refl _, Nat.le_refl _, hN, hS⟩ ?_
      refine z_ldiv dX9_odds_43 (fun q => g0 ((lN_eq0 gl).mp q)) ?_
      refine z_eql (lN_div (by omega) gl) ?_
      refine z_lret dX9_odds_44 ?_
      exact hQ
  · have eq : (mOdds s.1 al x y low) = -1 := if_neg hc
    rw [eq]
    refine ⟨h, ?_, hr, FM.rf⟩
    intro N S Q hN hS hQ
    refine z_aload_n dX9_odds_0 rfl rfl ?_
    refine z_iload_n dX9_odds_1 rfl rfl ?_
    refine z_iload_n dX9_odds_2 rfl rfl ?_
    refine z_iload_n dX9_odds_3 rfl rfl ?_
    refine y_callV (as := [_, _, _]) CX9_isLaid LX9_453 IX9_isLaid VX9_isLaid ⟨rfl, Nat.le_of_ble_eq_true rfl⟩ dX9_odds_4 hm.o rfl (Nat.le_of_ble_eq_true rfl) (Nat.le_of_ble_eq_true rfl) (by omega) (r_isLaidN (d := 2) (al := al) hr hv hc (Nat.le_refl _)) (rok_z (Or.inl rfl)) ⟨Nat.le_refl _, Nat.le_refl _, hN, hS⟩ ?_
    refine z_if_ne dX9_odds_7 rfl (fun c => absurd (rfl) c) (fun _ => ?_)
    refine z_ldc2 (v := -1) dX9_odds_10 Kc_X9_456 ?_
    refine z_goto dX9_odds_13 rfl ?_
    refine z_lret dX9_odds_44 ?_
    exact hQ

theorem faU_le {al F dd du : Nat} {a : Fl} (h : du ≤ 999) (hw : odW a F dd ≤ 10 ^ 12) : faU al a F dd du ≤ 999 * 10 ^ 12 := by
  unfold faU
  exact Nat.mul_le_mul h (by omega)
theorem R_fair {s : Ms} {h : Hp} {d al low : Nat} (hr : RM s h) (hv : IC s.1) (hf : IFc s.1) (hal : al = 0 ∨ al = 1) (hlo : low = 0 ∨ low = 1) (x y z : Int32) (hd : 3 ≤ d) : ∃ h1, Sp d mX9_fair [.ref 488, .int (nI al), .int x, .int y, .int z, .int (nI low)] h (some (.long (mFair s.1 al x y z low))) h1 ∧ RM s h1 ∧ FM h h1 := by
  have hm := hr.m
  have v0 := hv.1
  by_cases hzc : inr z 0 999 ∧ okO s.1 x y
  · have eq : (mFair s.1 al x y z low) = lN ((if low = 1 then odW s.1 (nn x) (nn y) else faU al s.1 (nn x) (nn y) (nn z)) / Nat.gcd (faU al s.1 (nn x) (nn y) (nn z)) (odW s.1 (nn x) (nn y))) := if_pos hzc
    rw [eq]
    obtain ⟨hz, hc⟩ := hzc
    obtain ⟨du, hdu, rfl⟩ := inr_of (n := 999) (x := z) (by omega) hz
    have p8 : 2 ^ s.1 0 ≤ 2 ^ 8 := Nat.pow_le_pow_right (by omega) v0
    obtain ⟨F, hF, rfl⟩ := vin_of (n := 2 ^ s.1 0) (x := x) (by omega) ⟨Int32.le_trans (by decide) hc.1.1, hc.1.2⟩
    obtain ⟨dd, hd4, rfl⟩ := inr_of (n := 4) (x := y) (by omega) ⟨Int32.le_trans (by decide) hc.2.1.1, hc.2.1.2⟩
    have h3 := hc.2.2
    rw [nn_nI (by omega)] at h3
    have lw := odW_le (a := s.1) (F := F) (dd := dd) hd4 h3
    have lu := odU_le (al := al) (F := F) (dd := dd) v0
    have w0 := odW_pos s.1 F dd
    have hL := r_isLaid (d := 2) (al := al) hr hv hf hal hc.1 (by omega) hc.2.1 hd4 h3 (Nat.le_refl _)
    rw [nn_nI (by omega), nn_nI (by omega), nn_nI (by omega)]
    have fl := faU_le (al := al) (F := F) (dd := dd) (a := s.1) hdu lw
    have gl : Nat.gcd (faU al s.1 F dd du) (odW s.1 F dd) < 2 ^ 62 := gcd_lt (by omega) (by omega)
    have g0 : ¬ Nat.gcd (faU al s.1 F dd du) (odW s.1 F dd) = 0 := fun q => by
      have := Nat.gcd_pos_of_pos_right (faU al s.1 F dd du) w0
      omega
    refine ⟨(sJ (sJ h 488 27 (lN (odW s.1 F dd))) 488 26 (lN (odU al s.1 F dd))), ?_, hr.sJ.sJ, (FM.rf.sJ (by omega)).sJ (by omega)⟩
    intro N S Q hN hS hQ
    have hN : pn h ≤ N := hN
    have hS : ps h ≤ S := hS
    rcases hlo with hl | hl
    · rw [if_neg (by omega)] at hQ
      refine z_iload dX9_fair_0 rfl ?_
      refine z_iconst (v := 0) dX9_fair_2 (by decide) ?_
      refine z_sipush (v := 999) dX9_fair_3 (by decide) ?_
      refine y_callS (as := [_, _, _]) CX9_isIn LX9_63 SX9_isIn dX9_fair_6 rfl (Nat.le_of_ble_eq_true rfl) (Nat.le_of_ble_eq_true rfl) (by omega) (r_isIn _ _ _) (rok_z bI_01) ⟨Nat.le_refl _, Nat.le_refl _, hN, hS⟩ ?_
      refine z_if_eq dX9_fair_9 rfl (fun c => absurd c (bI_ne0.mpr hz)) (fun _ => ?_)
      refine z_aload_n dX9_fair_12 rfl rfl ?_
      refine z_iload_n dX9_fair_13 rfl rfl ?_
      refine z_iload_n dX9_fair_14 rfl rfl ?_
      refine z_iload_n dX9_fair_15 rfl rfl ?_
      refine y_callV (as := [_, _, _]) CX9_isLaid LX9_453 IX9_isLaid VX9_isLaid ⟨rfl, Nat.le_of_ble_eq_true rfl⟩ dX9_fair_16 hm.o rfl (Nat.le_of_ble_eq_true rfl) (Nat.le_of_ble_eq_true rfl) (by omega) hL (rok_z (Or.inr rfl)) ⟨Nat.le_refl _, Nat.le_refl _, hN, hS⟩ ?_
      refine z_if_ne dX9_fair_19 rfl (fun _ => ?_) (fun c => absurd c (by decide))
      refine z_iload dX9_fair_26 rfl ?_
      refine z_i2l dX9_fair_28 ?_
      refine z_eql (nI_l (by omega)) ?_
      refine z_aload_n dX9_fair_29 rfl rfl ?_
      refine y_getJ FX9_447 dX9_fair_30 rfl hm.o ?_
      refine z_eql (show _ = lN (odW s.1 F dd) by rw [pJ_sJ, if_pos rfl, if_neg (by omega), pJ_sJ, if_pos rfl, if_pos rfl]) ?_
      refine z_aload_n dX9_fair_33 rfl rfl ?_
      refine y_getJ FX9_450 dX9_fair_34 rfl hm.o ?_
      refine z_eql (show _ = lN (odU al s.1 F dd) by rw [pJ_sJ, if_pos rfl, if_pos rfl]) ?_
      refine z_lsub dX9_fair_37 ?_
      refine z_eql (lN_sub lu) ?_
      refine z_lmul dX9_fair_38 ?_
      refine z_eql (show _ = lN (faU al s.1 F dd du) from lN_mul _ _) ?_
      refine z_lstore dX9_fair_39 (Nat.le_of_ble_eq_true rfl) ?_
      refine z_iload dX9_fair_41 rfl ?_
      refine z_if_eq dX9_fair_43 rfl (fun _ => ?_) (fun c => absurd (congrArg nI hl) c)
      refine z_lload dX9_fair_53 rfl ?_
      refine z_lload dX9_fair_55 rfl ?_
      refine z_aload_n dX9_fair_57 rfl rfl ?_
      refine y_getJ FX9_447 dX9_fair_58 rfl hm.o ?_
      refine z_eql (show _ = lN (odW s.1 F dd) by rw [pJ_sJ, if_pos rfl, if_neg (by omega), pJ_sJ, if_pos rfl, if_pos rfl]) ?_
      refine y_callS (as := [_, _]) CX9_common LX9_458 SX9_common dX9_fair_61 rfl (Nat.le_of_ble_eq_true rfl) (Nat.le_of_ble_eq_true rfl) (by omega) (r_common (x := (faU al s.1 F dd du)) (y := odW s.1 F dd) (by omega) (by omega)) rok_l ⟨Nat.le_refl _, Nat.le_refl _, hN, hS⟩ ?_
      refine z_ldiv dX9_fair_64 (fun q => g0 ((lN_eq0 gl).mp q)) ?_
      refine z_eql (lN_div (by omega) gl) ?_
      refine z_lret dX9_fair_65 ?_
      exact hQ
    · rw [if_pos hl] at hQ
      refine z_iload dX9_fair_0 rfl ?_
      refine z_iconst (v := 0) dX9_fair_2 (by decide) ?_
      refine z_sipush (v := 999) dX9_fair_3 (by decide) ?_
      refine y_callS (as := [_, _, _]) CX9_isIn LX9_63 SX9_isIn dX9_fair_6 rfl (Nat.le_of_ble_eq_true rfl) (Nat.le_of_ble_eq_true rfl) (by omega) (r_isIn _ _ _) (rok_z bI_01) ⟨Nat.le_refl _, Nat.le_refl _, hN, hS⟩ ?_
      refine z_if_eq dX9_fair_9 rfl (fun c => absurd c (bI_ne0.mpr hz)) (fun _ => ?_)
      refine z_aload_n dX9_fair_12 rfl rfl ?_
      refine z_iload_n dX9_fair_13 rfl rfl ?_
      refine z_iload_n dX9_fair_14 rfl rfl ?_
      refine z_iload_n dX9_fair_15 rfl rfl ?_
      refine y_callV (as := [_, _, _]) CX9_isLaid LX9_453 IX9_isLaid VX9_isLaid ⟨rfl, Nat.le_of_ble_eq_true rfl⟩ dX9_fair_16 hm.o rfl (Nat.le_of_ble_eq_true rfl) (Nat.le_of_ble_eq_true rfl) (by omega) hL (rok_z (Or.inr rfl)) ⟨Nat.le_refl _, Nat.le_refl _, hN, hS⟩ ?_
      refine z_if_ne dX9_fair_19 rfl (fun _ => ?_) (fun c => absurd c (by decide))
      refine z_iload dX9_fair_26 rfl ?_
      refine z_i2l dX9_fair_28 ?_
      refine z_eql (nI_l (by omega)) ?_
      refine z_aload_n dX9_fair_29 rfl rfl ?_
      refine y_getJ FX9_447 dX9_fair_30 rfl hm.o ?_
      refine z_eql (show _ = lN (odW s.1 F dd) by rw [pJ_sJ, if_pos rfl, if_neg (by omega), pJ_sJ, if_pos rfl, if_pos rfl]) ?_
      refine z_aload_n dX9_fair_33 rfl rfl ?_
      refine y_getJ FX9_450 dX9_fair_34 rfl hm.o ?_
      refine z_eql (show _ = lN (odU al s.1 F dd) by rw [pJ_sJ, if_pos rfl, if_pos rfl]) ?_
      refine z_lsub dX9_fair_37 ?_
      refine z_eql (lN_sub lu) ?_
      refine z_lmul dX9_fair_38 ?_
      refine z_eql (show _ = lN (faU al s.1 F dd du) from lN_mul _ _) ?_
      refine z_lstore dX9_fair_39 (Nat.le_of_ble_eq_true rfl) ?_
      refine z_iload dX9_fair_41 rfl ?_
      refine z_if_eq dX9_fair_43 rfl (fun c => absurd c (fun q => absurd ((nI_eq (b := 0) (by omega) (by omega)).mp q) (by omega))) (fun _ => ?_)
      refine z_aload_n dX9_fair_46 rfl rfl ?_
      refine y_getJ FX9_447 dX9_fair_47 rfl hm.o ?_
      refine z_eql (show _ = lN (odW s.1 F dd) by rw [pJ_sJ, if_pos rfl, if_neg (by omega), pJ_sJ, if_pos rfl, if_pos rfl]) ?_
      refine z_goto dX9_fair_50 rfl ?_
      refine z_lload dX9_fair_55 rfl ?_
      refine z_aload_n dX9_fair_57 rfl rfl ?_
      refine y_getJ FX9_447 dX9_fair_58 rfl hm.o ?_
      refine z_eql (show _ = lN (odW s.1 F dd) by rw [pJ_sJ, if_pos rfl, if_neg (by omega), pJ_sJ, if_pos rfl, if_pos rfl]) ?_
      refine y_callS (as := [_, _]) CX9_common LX9_458 SX9_common dX9_fair_61 rfl (Nat.le_of_ble_eq_true rfl) (Nat.le_of_ble_eq_true rfl) (by omega) (r_common (x := (faU al s.1 F dd du)) (y := odW s.1 F dd) (by omega) (by omega)) rok_l ⟨Nat.le_refl _, Nat.le_refl _, hN, hS⟩ ?_
      refine z_ldiv dX9_fair_64 (fun q => g0 ((lN_eq0 gl).mp q)) ?_
      refine z_eql (lN_div (by omega) gl) ?_
      refine z_lret dX9_fair_65 ?_
      exact hQ
  · have eq : (mFair s.1 al x y z low) = -1 := if_neg hzc
    rw [eq]
    refine ⟨h, ?_, hr, FM.rf⟩
    intro N S Q hN hS hQ
    by_cases hz : inr z 0 999
    · skip
      refine z_iload dX9_fair_0 rfl ?_
      refine z_iconst (v := 0) dX9_fair_2 (by decide) ?_
      refine z_sipush (v := 999) dX9_fair_3 (by decide) ?_
      refine y_callS (as := [_, _, _]) CX9_isIn LX9_63 SX9_isIn dX9_fair_6 rfl (Nat.le_of_ble_eq_true rfl) (Nat.le_of_ble_eq_true rfl) (by omega) (r_isIn _ _ _) (rok_z bI_01) ⟨Nat.le_refl _, Nat.le_refl _, hN, hS⟩ ?_
      refine z_if_eq dX9_fair_9 rfl (fun c => absurd c (bI_ne0.mpr hz)) (fun _ => ?_)
      refine z_aload_n dX9_fair_12 rfl rfl ?_
      refine z_iload_n dX9_fair_13 rfl rfl ?_
      refine z_iload_n dX9_fair_14 rfl rfl ?_
      refine z_iload_n dX9_fair_15 rfl rfl ?_
      refine y_callV (as := [_, _, _]) CX9_isLaid LX9_453 IX9_isLaid VX9_isLaid ⟨rfl, Nat.le_of_ble_eq_true rfl⟩ dX9_fair_16 hm.o rfl (Nat.le_of_ble_eq_true rfl) (Nat.le_of_ble_eq_true rfl) (by omega) (r_isLaidN (d := 2) (al := al) hr hv (fun q => hzc ⟨hz, q⟩) (Nat.le_refl _)) (rok_z (Or.inl rfl)) ⟨Nat.le_refl _, Nat.le_refl _, hN, hS⟩ ?_
      refine z_if_ne dX9_fair_19 rfl (fun c => absurd (rfl) c) (fun _ => ?_)
      refine z_ldc2 (v := -1) dX9_fair_22 Kc_X9_456 ?_
      refine z_lret dX9_fair_25 ?_
      exact hQ
    · skip
      refine z_iload dX9_fair_0 rfl ?_
      refine z_iconst (v := 0) dX9_fair_2 (by decide) ?_
      refine z_sipush (v := 999) dX9_fair_3 (by decide) ?_
      refine y_callS (as := [_, _, _]) CX9_isIn LX9_63 SX9_isIn dX9_fair_6 rfl (Nat.le_of_ble_eq_true rfl) (Nat.le_of_ble_eq_true rfl) (by omega) (r_isIn _ _ _) (rok_z bI_01) ⟨Nat.le_refl _, Nat.le_refl _, hN, hS⟩ ?_
      refine z_if_eq dX9_fair_9 rfl (fun _ => ?_) (fun c => absurd (bI_eq0.mpr hz) c)
      refine z_ldc2 (v := -1) dX9_fair_22 Kc_X9_456 ?_
      refine z_lret dX9_fair_25 ?_
      exact hQ

