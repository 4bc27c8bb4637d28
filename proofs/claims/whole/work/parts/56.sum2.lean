/-! the reference sums a law up (walks by program: wip/whole/gen56.py) -/
def cnF : List Bool → Nat
  | [] => 0
  | false :: t => cnF t + 1
  | true :: t => cnF t
def cnT : List Bool → Nat
  | [] => 0
  | true :: t => cnT t + 1
  | false :: t => cnT t
theorem cn_le : ∀ t, cnF t ≤ t.length ∧ cnT t ≤ t.length
  | [] => ⟨Nat.le_refl _, Nat.le_refl _⟩
  | false :: t => by have := cn_le t; exact ⟨Nat.succ_le_succ this.1, Nat.le_succ_of_le this.2⟩
  | true :: t => by have := cn_le t; exact ⟨Nat.le_succ_of_le this.1, Nat.succ_le_succ this.2⟩
/-- the reference's two piles hold what the one pile holds; t: of what sort, the top first -/
def RS (h : Hp) (g : Nat → Int) : List Bool → Prop
  | [] => True
  | false :: t => pJ h 495 (cnF t) = iL (g t.length) ∧ RS h g t
  | true :: t => pI h 496 (cnT t) = iI (g t.length) ∧ (g t.length = 0 ∨ g t.length = 1) ∧ RS h g t
theorem RS.cg {h h' : Hp} {g g' : Nat → Int} : ∀ t, RS h g t → (∀ j, j < cnF t → pJ h' 495 j = pJ h 495 j) → (∀ j, j < cnT t → pI h' 496 j = pI h 496 j) → (∀ j, j < t.length → g' j = g j) → RS h' g' t
  | [], _, _, _, _ => trivial
  | false :: t, r, e1, e2, e3 => by
    refine ⟨?_, RS.cg t r.2 (fun j hj => e1 j (Nat.lt_succ_of_lt hj)) e2 (fun j hj => e3 j (Nat.lt_succ_of_lt hj))⟩
    rw [e1 _ (Nat.lt_succ_self _), e3 _ (Nat.lt_succ_self _)]
    exact r.1
  | true :: t, r, e1, e2, e3 => by
    refine ⟨?_, ?_, RS.cg t r.2.2 e1 (fun j hj => e2 j (Nat.lt_succ_of_lt hj)) (fun j hj => e3 j (Nat.lt_succ_of_lt hj))⟩
    · rw [e2 _ (Nat.lt_succ_self _), e3 _ (Nat.lt_succ_self _)]
      exact r.1
    · rw [e3 _ (Nat.lt_succ_self _)]
      exact r.2.1
/-- what an instruction makes of the sorts -/
def Ck (o : Nat) (t t' : List Bool) : Prop := (o ≤ 1 ∧ t' = false :: t) ∨ ((o = 2 ∨ o = 5) ∧ ∃ r, t = false :: r ∧ t' = false :: r) ∨ (o = 3 ∧ ∃ r, t = false :: false :: true :: r ∧ t' = false :: r) ∨ ((o = 4 ∨ (6 ≤ o ∧ o ≤ 9)) ∧ ∃ r, t = false :: false :: r ∧ t' = false :: r) ∨ ((10 ≤ o ∧ o ≤ 15) ∧ ∃ r, t = false :: false :: r ∧ t' = true :: r) ∨ (o = 20 ∧ ∃ r, t = true :: r ∧ t' = true :: r) ∨ ((o = 21 ∨ o = 22) ∧ ∃ r, t = true :: true :: r ∧ t' = true :: r)
theorem Ck.len {o : Nat} {t t' : List Bool} (c : Ck o t t') : tkO o ≤ t.length ∧ t'.length = t.length - tkO o + 1 := by
  unfold tkO
  rcases c with ⟨h, rfl⟩ | ⟨h, r, rfl, rfl⟩ | ⟨h, r, rfl, rfl⟩ | ⟨h, r, rfl, rfl⟩ | ⟨h, r, rfl, rfl⟩ | ⟨h, r, rfl, rfl⟩ | ⟨h, r, rfl, rfl⟩
  · rw [if_pos h]; exact ⟨Nat.zero_le _, rfl⟩
  · rw [if_neg (by omega), if_pos (by omega)]; exact ⟨Nat.succ_le_succ (Nat.zero_le _), rfl⟩
  · rw [if_neg (by omega), if_neg (by omega), if_pos (by omega)]; exact ⟨by simp only [List.length_cons]; omega, by simp only [List.length_cons]; omega⟩
  · rw [if_neg (by omega), if_neg (by omega), if_neg (by omega)]; exact ⟨by simp only [List.length_cons]; omega, by simp only [List.length_cons]; omega⟩
  · rw [if_neg (by omega), if_neg (by omega), if_neg (by omega)]; exact ⟨by simp only [List.length_cons]; omega, by simp only [List.length_cons]; omega⟩
  · rw [if_neg (by omega), if_pos (by omega)]; exact ⟨by simp only [List.length_cons]; omega, by simp only [List.length_cons]; omega⟩
  · rw [if_neg (by omega), if_neg (by omega), if_neg (by omega)]; exact ⟨by simp only [List.length_cons]; omega, by simp only [List.length_cons]; omega⟩
/-- a code is of one number -/
def TY (O : Nat → Nat) (m : Nat) (ty : Nat → List Bool) : Prop := ty 0 = [] ∧ (∀ i, i < m → Ck (O i) (ty i) (ty (i + 1))) ∧ ty m = [false]
theorem TY.n {O V : Nat → Nat} {m : Nat} {ty : Nat → List Bool} (h : TY O m ty) (env : Nat → Int) (so : Nat) : ∀ i, i ≤ m → (runV env so O V i).2 = (ty i).length := by
  intro i
  induction i with
  | zero => intro _; rw [h.1]; rfl
  | succ i ih =>
    intro hi
    show (runV env so O V i).2 - tkO (O i) + 1 = _
    rw [ih (by omega), (h.2.1 i (by omega)).len.2]
theorem TY.wf {O V : Nat → Nat} {m : Nat} {ty : Nat → List Bool} (h : TY O m ty) : WF O V m := fun env so i hi => by
  rw [h.n env so i (by omega)]
  exact (h.2.1 i hi).len.1
/-- what a sum of the reference may change -/
def FV (h h1 : Hp) : Prop := SS h h1 ∧ (∀ k, k ≠ 496 → pI h1 k = pI h k) ∧ (∀ k, k ≠ 495 → pJ h1 k = pJ h k)
theorem FV.rf {h : Hp} : FV h h := ⟨rfl, fun _ _ => rfl, fun _ _ => rfl⟩
theorem pJ_sJ_ne {h : Hp} {k i a : Nat} {v : Int64} (hne : a ≠ k) : pJ (sJ h k i v) a = pJ h a := by
  funext j
  rw [pJ_sJ, if_neg hne]
theorem FV.sJ {h h1 : Hp} {i : Nat} {v : Int64} (f : FV h h1) : FV h (sJ h1 495 i v) := ⟨f.1, f.2.1, fun k hk => by rw [pJ_sJ_ne hk]; exact f.2.2 k hk⟩
theorem FV.sI {h h1 : Hp} {i : Nat} {v : Int32} (f : FV h h1) : FV h (sI h1 496 i v) := ⟨f.1, fun k hk => by rw [pI_sI_ne hk]; exact f.2.1 k hk, f.2.2⟩
theorem nI_m1 (k : Nat) : nI (k + 1) + (-1) = nI k := by
  rw [show nI (k + 1) + (-1) = nI (k + 1) - 1 from (Int32.sub_eq_add_neg (nI (k + 1)) 1).symm]
  exact nI_pred k
theorem nI_m2 (k : Nat) : nI (k + 2) + (-2) = nI k := by
  rw [show nI (k + 2) + (-2) = nI (k + 2) - nI 2 from (Int32.sub_eq_add_neg (nI (k + 2)) 2).symm, pk_sub (by omega)]
  rfl
theorem raw01 {so o : Nat} {x y z : Int} (ho : 10 ≤ o) : clp (rawV so o x y z) = 0 ∨ clp (rawV so o x y z) = 1 := by
  have h : rawV so o x y z = 0 ∨ rawV so o x y z = 1 := by
    unfold rawV
    rw [if_neg (by omega), if_neg (by omega), if_neg (by omega), if_neg (by omega), if_neg (by omega), if_neg (by omega), if_neg (by omega), if_neg (by omega)]
    repeat' split
    all_goals exact tb_01
  rcases h with h | h
  · rw [h]; exact Or.inl rfl
  · rw [h]; exact Or.inr rfl
def NR (h : Hp) (C : Prop) (env : Nat → Int) : Prop := (∀ v, b6 (env v)) ∧ ∀ v, v ≤ 10 → (v < 2 ∨ (v < 5 ↔ C)) → pI h 494 v = iI (env v)
/-- the code of a law as the reference has it: text t, clause k, from lo on -/
def RC (h : Hp) (C : Prop) (O V : Nat → Nat) (m t k lo : Nat) : Prop := (t < 4 ∧ k < 24 ∧ 0 < m ∧ m ≤ 300 ∧ lo + m ≤ 304) ∧ pI h 491 (753 * t + 1 + 6 * k + 1) = nI lo ∧ pI h 491 (753 * t + 1 + 6 * k + 2) = nI (lo + m) ∧ (∀ i, i < m → pI h 491 (753 * t + 145 + 2 * (lo + i)) = nI (O i) ∧ pI h 491 (753 * t + 145 + 2 * (lo + i) + 1) = nI (V i) ∧ okI C (O i) (V i))

theorem r_sum_loop {h : Hp} {d so f m t k lo : Nat} {C : Prop} {env : Nat → Int} {O V : Nat → Nat} {ty : Nat → List Bool} (hm0 : SM h) (hc : RC h C O V m t k lo) (hty : TY O m ty) (he : NR h C env) (e0 : pI h 489 0 = nI f) (e10 : pI h 489 10 = nI so) (hf : f ≤ 8) (hso : so < 2 ^ f) (hd : 2 ≤ d) : ∀ r i (h1 : Hp) (o8 o9 : Option Value), i + r = m → FV h h1 → RS h1 (runV env so O V i).1 (ty i) → ∃ h2, FV h h2 ∧ ∀ (N S : Nat) (Q : Option Value → Hp → Prop), pn h ≤ N → ps h ≤ S → Q (some (.long (iL (evV env so O V m)))) h2 → T d N S mX9_summedUp 40 [some (.ref 488), some (.int (nI t)), some (.int (nI k)), some (.int (nI (753 * t + 1 + 6 * k))), some (.int (nI (753 * t + 145))), some (.int (nI (cnF (ty i)))), some (.int (nI (cnT (ty i)))), some (.int (nI (lo + i))), o8, o9] [] h1 Q := by
  obtain ⟨⟨bt, bk, bm0, bm, blo⟩, c1, c2, c3⟩ := id hc
  intro r
  induction r with
  | zero =>
    intro i h1 o8 o9 hi f1 hR
    have e : i = m := by omega
    rw [e] at hR ⊢
    have hm := f1.1.M hm0
    rw [hty.2.2] at hR
    have r1 : pJ h1 495 0 = iL (evV env so O V m) := hR.1
    refine ⟨h1, f1, fun N S Q hN hS hQ => ?_⟩
    refine z_iload dX9_summedUp_40 rfl ?_
    refine z_aload_n dX9_summedUp_42 rfl rfl ?_
    refine y_getR FX9_16 dX9_summedUp_43 rfl hm.o hm.f_texts ?_
    refine z_iload_n dX9_summedUp_46 rfl rfl ?_
    refine z_iconst (v := 2) dX9_summedUp_47 (by decide) ?_
    refine z_iadd dX9_summedUp_48 ?_
    refine y_ialN (753 * t + 1 + 6 * k + 2) dX9_summedUp_49 hm.A_texts (Nat.le_of_ble_eq_true rfl) (by first | rfl | (simp only [← nI_add, ← pk_mul]; rfl)) (by omega) ?_
    refine z_eqi (show _ = nI (lo + m) by rw [f1.2.1 491 (by omega)]; exact c2) ?_
    refine z_icmp_ge dX9_summedUp_50 rfl (fun _ => ?_) (fun c => absurd (Int32.le_refl _) c)
    refine z_aload_n dX9_summedUp_408 rfl rfl ?_
    refine y_getR FX9_35 dX9_summedUp_409 rfl hm.o hm.f_values ?_
    refine z_iconst (v := 0) dX9_summedUp_412 (by decide) ?_
    refine y_lalN (0) dX9_summedUp_413 (by exact hm.A_values) (Nat.le_of_ble_eq_true rfl) rfl (by omega) ?_
    refine z_eql r1 ?_
    refine z_lret dX9_summedUp_414 ?_
    exact hQ
  | succ r ih =>
    intro i h1 o8 o9 hi f1 hR
    have hi1 : i < m := by omega
    have hm := f1.1.M hm0
    have okk := (c3 i hi1).2.2
    have hlen := hty.n (V := V) env so i (by omega)
    have hle := runV_n env so O V i
    have gs : ∀ j, (runV env so O V (i + 1)).1 j = if j = (runV env so O V i).2 - tkO (O i) then (if O i = 0 then (V i : Int) else if O i = 1 then env (V i) else clp (rawV so (O i) ((runV env so O V i).1 ((runV env so O V i).2 - tkO (O i))) ((runV env so O V i).1 ((runV env so O V i).2 - tkO (O i) + 1)) ((runV env so O V i).1 ((runV env so O V i).2 - tkO (O i) + 2)))) else (runV env so O V i).1 j := fun j => rfl
    have B : ∀ j, b6 ((runV env so O V i).1 j) := runV_b (m := m) he.1 (fun k hk h0 => by rcases (c3 k hk).2.2 with q | q | q <;> omega) i (by omega)
    have ck := hty.2.1 i hi1
    obtain ⟨o, eo⟩ : ∃ o, O i = o := ⟨_, rfl⟩
    obtain ⟨v, ev⟩ : ∃ v, V i = v := ⟨_, rfl⟩
    rw [eo] at ck okk gs
    rw [ev] at okk gs
    have ob : o ≤ 22 := by rcases okk with q | q | q <;> omega
    rcases ck with ⟨hk, et'⟩ | ⟨hk, ρ, et, et'⟩ | ⟨hk, ρ, et, et'⟩ | ⟨hk, ρ, et, et'⟩ | ⟨hk, ρ, et, et'⟩ | ⟨hk, ρ, et, et'⟩ | ⟨hk, ρ, et, et'⟩
    · have tko : tkO o = 0 := if_pos hk
      have hcn := cn_le (ty i)
      have gold : ∀ j, j < (ty i).length → (runV env so O V (i + 1)).1 j = (runV env so O V i).1 j := fun j hj => by
        rw [gs j, hlen, tko, if_neg (by omega)]
      rcases (show o = 0 ∨ o = 1 by omega) with h0 | h0
      · have hv : v ≤ 9999 := by rcases okk with q | q | q <;> omega
        have gnew : (runV env so O V (i + 1)).1 (ty i).length = (v : Int) := by rw [gs, hlen, tko, if_pos (by omega), if_pos h0]
        have et : ty i = ty i := rfl
        obtain ⟨h3, f3, K⟩ := ih (i + 1) (sJ h1 495 (cnF (ty i)) (iL (v : Int))) (some (.int (nI o))) (some (.int (nI v))) (by omega) (f1.sJ) (by rw [et']; exact ⟨by rw [pJ_sJ, if_pos rfl, if_pos rfl, gnew], RS.cg (ty i) hR (fun j hj => by rw [pJ_sJ, if_pos rfl, if_neg (by omega)]) (fun j hj => rfl) (fun j hj => gold j (by omega))⟩)
        refine ⟨h3, f3, fun N S Q hN hS hQ => ?_⟩
        have hN1 : pn h1 ≤ N := by rw [f1.1.n]; exact hN
        have hS1 : ps h1 ≤ S := by rw [f1.1.s]; exact hS
        have K := K N S Q hN hS hQ
        rw [et'] at K
        refine z_iload dX9_summedUp_40 rfl ?_
        refine z_aload_n dX9_summedUp_42 rfl rfl ?_
        refine y_getR FX9_16 dX9_summedUp_43 rfl hm.o hm.f_texts ?_
        refine z_iload_n dX9_summedUp_46 rfl rfl ?_
        refine z_iconst (v := 2) dX9_summedUp_47 (by decide) ?_
        refine z_iadd dX9_summedUp_48 ?_
        refine y_ialN (753 * t + 1 + 6 * k + 2) dX9_summedUp_49 hm.A_texts (Nat.le_of_ble_eq_true rfl) (by first | rfl | (simp only [← nI_add, ← pk_mul]; rfl)) (by omega) ?_
        refine z_eqi (show _ = nI (lo + m) by rw [f1.2.1 491 (by omega)]; exact c2) ?_
        refine z_icmp_ge dX9_summedUp_50 rfl (fun c => absurd c (fun q => absurd ((nI_leI (by omega) (by omega)).mp q) (by omega))) (fun _ => ?_)
        refine z_aload_n dX9_summedUp_53 rfl rfl ?_
        refine y_getR FX9_16 dX9_summedUp_54 rfl hm.o hm.f_texts ?_
        refine z_iload dX9_summedUp_57 rfl ?_
        refine z_iconst (v := 2) dX9_summedUp_59 (by decide) ?_
        refine z_iload dX9_summedUp_60 rfl ?_
        refine z_imul dX9_summedUp_62 ?_
        refine z_iadd dX9_summedUp_63 ?_
        refine y_ialN (753 * t + 145 + 2 * (lo + i)) dX9_summedUp_64 hm.A_texts (Nat.le_of_ble_eq_true rfl) (by first | rfl | (simp only [← nI_add, ← pk_mul]; rfl)) (by omega) ?_
        refine z_eqi (show _ = nI o by rw [f1.2.1 491 (by omega), ← eo]; exact (c3 i hi1).1) ?_
        refine z_istore dX9_summedUp_65 (Nat.le_of_ble_eq_true rfl) ?_
        refine z_aload_n dX9_summedUp_67 rfl rfl ?_
        refine y_getR FX9_16 dX9_summedUp_68 rfl hm.o hm.f_texts ?_
        refine z_iload dX9_summedUp_71 rfl ?_
        refine z_iconst (v := 2) dX9_summedUp_73 (by decide) ?_
        refine z_iload dX9_summedUp_74 rfl ?_
        refine z_imul dX9_summedUp_76 ?_
        refine z_iadd dX9_summedUp_77 ?_
        refine z_iconst (v := 1) dX9_summedUp_78 (by decide) ?_
        refine z_iadd dX9_summedUp_79 ?_
        refine y_ialN (753 * t + 145 + 2 * (lo + i) + 1) dX9_summedUp_80 hm.A_texts (Nat.le_of_ble_eq_true rfl) (by first | rfl | (simp only [← nI_add, ← pk_mul]; rfl)) (by omega) ?_
        refine z_eqi (show _ = nI v by rw [f1.2.1 491 (by omega), ← ev]; exact (c3 i hi1).2.1) ?_
        refine z_istore dX9_summedUp_81 (Nat.le_of_ble_eq_true rfl) ?_
        refine z_iload dX9_summedUp_83 rfl ?_
        refine z_iconst (v := 1) dX9_summedUp_85 (by decide) ?_
        refine z_icmp_gt dX9_summedUp_86 rfl (fun c => absurd c (fun q => absurd ((nI_ltI (a := 1) (by omega) (by omega)).mp q) (by omega))) (fun _ => ?_)
        refine z_aload_n dX9_summedUp_89 rfl rfl ?_
        refine y_getR FX9_35 dX9_summedUp_90 rfl hm.o hm.f_values ?_
        refine z_iload dX9_summedUp_93 rfl ?_
        refine z_iload dX9_summedUp_95 rfl ?_
        refine z_if_ne dX9_summedUp_97 rfl (fun c => absurd (congrArg nI (show o = 0 by omega)) c) (fun _ => ?_)
        refine z_iload dX9_summedUp_100 rfl ?_
        refine z_i2l dX9_summedUp_102 ?_
        refine z_eql (show _ = iL (v : Int) by rw [nI_l (by omega), iL_n]) ?_
        refine z_goto dX9_summedUp_103 rfl ?_
        refine y_lasN (cnF (ty i)) dX9_summedUp_114 (by exact hm.A_values) (Nat.le_of_ble_eq_true rfl) rfl (by omega) ?_
        refine z_iinc dX9_summedUp_115 rfl (nI_1 _) (Nat.le_of_ble_eq_true rfl) ?_
        refine z_goto dX9_summedUp_118 rfl ?_
        refine z_iinc dX9_summedUp_402 rfl (nI_1 _) (Nat.le_of_ble_eq_true rfl) ?_
        refine z_goto dX9_summedUp_405 rfl ?_
        exact K

      · have hvv : v ≤ 10 ∧ (v < 2 ∨ (v < 5 ↔ C)) := by
          rcases okk with q | q | q
          · omega
          · exact q.2
          · omega
        obtain ⟨hv, hcv⟩ := hvv
        have gnew : (runV env so O V (i + 1)).1 (ty i).length = env v := by rw [gs, hlen, tko, if_pos (by omega), if_neg (by omega), if_pos h0]
        have et : ty i = ty i := rfl
        obtain ⟨h3, f3, K⟩ := ih (i + 1) (sJ h1 495 (cnF (ty i)) (iL (env v))) (some (.int (nI o))) (some (.int (nI v))) (by omega) (f1.sJ) (by rw [et']; exact ⟨by rw [pJ_sJ, if_pos rfl, if_pos rfl, gnew], RS.cg (ty i) hR (fun j hj => by rw [pJ_sJ, if_pos rfl, if_neg (by omega)]) (fun j hj => rfl) (fun j hj => gold j (by omega))⟩)
        refine ⟨h3, f3, fun N S Q hN hS hQ => ?_⟩
        have hN1 : pn h1 ≤ N := by rw [f1.1.n]; exact hN
        have hS1 : ps h1 ≤ S := by rw [f1.1.s]; exact hS
        have K := K N S Q hN hS hQ
        rw [et'] at K
        refine z_iload dX9_summedUp_40 rfl ?_
        refine z_aload_n dX9_summedUp_42 rfl rfl ?_
        refine y_getR FX9_16 dX9_summedUp_43 rfl hm.o hm.f_texts ?_
        refine z_iload_n dX9_summedUp_46 rfl rfl ?_
        refine z_iconst (v := 2) dX9_summedUp_47 (by decide) ?_
        refine z_iadd dX9_summedUp_48 ?_
        refine y_ialN (753 * t + 1 + 6 * k + 2) dX9_summedUp_49 hm.A_texts (Nat.le_of_ble_eq_true rfl) (by first | rfl | (simp only [← nI_add, ← pk_mul]; rfl)) (by omega) ?_
        refine z_eqi (show _ = nI (lo + m) by rw [f1.2.1 491 (by omega)]; exact c2) ?_
        refine z_icmp_ge dX9_summedUp_50 rfl (fun c => absurd c (fun q => absurd ((nI_leI (by omega) (by omega)).mp q) (by omega))) (fun _ => ?_)
        refine z_aload_n dX9_summedUp_53 rfl rfl ?_
        refine y_getR FX9_16 dX9_summedUp_54 rfl hm.o hm.f_texts ?_
        refine z_iload dX9_summedUp_57 rfl ?_
        refine z_iconst (v := 2) dX9_summedUp_59 (by decide) ?_
        refine z_iload dX9_summedUp_60 rfl ?_
        refine z_imul dX9_summedUp_62 ?_
        refine z_iadd dX9_summedUp_63 ?_
        refine y_ialN (753 * t + 145 + 2 * (lo + i)) dX9_summedUp_64 hm.A_texts (Nat.le_of_ble_eq_true rfl) (by first | rfl | (simp only [← nI_add, ← pk_mul]; rfl)) (by omega) ?_
        refine z_eqi (show _ = nI o by rw [f1.2.1 491 (by omega), ← eo]; exact (c3 i hi1).1) ?_
        refine z_istore dX9_summedUp_65 (Nat.le_of_ble_eq_true rfl) ?_
        refine z_aload_n dX9_summedUp_67 rfl rfl ?_
        refine y_getR FX9_16 dX9_summedUp_68 rfl hm.o hm.f_texts ?_
        refine z_iload dX9_summedUp_71 rfl ?_
        refine z_iconst (v := 2) dX9_summedUp_73 (by decide) ?_
        refine z_iload dX9_summedUp_74 rfl ?_
        refine z_imul dX9_summedUp_76 ?_
        refine z_iadd dX9_summedUp_77 ?_
        refine z_iconst (v := 1) dX9_summedUp_78 (by decide) ?_
        refine z_iadd dX9_summedUp_79 ?_
        refine y_ialN (753 * t + 145 + 2 * (lo + i) + 1) dX9_summedUp_80 hm.A_texts (Nat.le_of_ble_eq_true rfl) (by first | rfl | (simp only [← nI_add, ← pk_mul]; rfl)) (by omega) ?_
        refine z_eqi (show _ = nI v by rw [f1.2.1 491 (by omega), ← ev]; exact (c3 i hi1).2.1) ?_
        refine z_istore dX9_summedUp_81 (Nat.le_of_ble_eq_true rfl) ?_
        refine z_iload dX9_summedUp_83 rfl ?_
        refine z_iconst (v := 1) dX9_summedUp_85 (by decide) ?_
        refine z_icmp_gt dX9_summedUp_86 rfl (fun c => absurd c (fun q => absurd ((nI_ltI (a := 1) (by omega) (by omega)).mp q) (by omega))) (fun _ => ?_)
        refine z_aload_n dX9_summedUp_89 rfl rfl ?_
        refine y_getR FX9_35 dX9_summedUp_90 rfl hm.o hm.f_values ?_
        refine z_iload dX9_summedUp_93 rfl ?_
        refine z_iload dX9_summedUp_95 rfl ?_
        refine z_if_ne dX9_summedUp_97 rfl (fun _ => ?_) (fun c => absurd c (fun q => absurd ((nI_eq (b := 0) (by omega) (by omega)).mp q) (by omega)))
        refine z_aload_n dX9_summedUp_106 rfl rfl ?_
        refine y_getR FX9_32 dX9_summedUp_107 rfl hm.o hm.f_named ?_
        refine z_iload dX9_summedUp_110 rfl ?_
        refine y_ialN v dX9_summedUp_112 (by exact hm.A_named) (Nat.le_of_ble_eq_true rfl) rfl (by omega) ?_
        refine z_eqi (show _ = iI (env v) by rw [f1.2.1 494 (by omega)]; exact he.2 v hv hcv) ?_
        refine z_i2l dX9_summedUp_113 ?_
        refine z_eql (show _ = iL (env v) from iI_l (b6_30 (he.1 v))) ?_
        refine y_lasN (cnF (ty i)) dX9_summedUp_114 (by exact hm.A_values) (Nat.le_of_ble_eq_true rfl) rfl (by omega) ?_
        refine z_iinc dX9_summedUp_115 rfl (nI_1 _) (Nat.le_of_ble_eq_true rfl) ?_
        refine z_goto dX9_summedUp_118 rfl ?_
        refine z_iinc dX9_summedUp_402 rfl (nI_1 _) (Nat.le_of_ble_eq_true rfl) ?_
        refine z_goto dX9_summedUp_405 rfl ?_
        exact K

    · skip
      have et : ty i = false :: ρ := et
      rw [et] at hR hlen
      have tko : tkO o = 1 := by unfold tkO; rw [if_neg (by omega), if_pos (by omega)]
      have gnew : (runV env so O V (i + 1)).1 ρ.length = clp (rawV so o ((runV env so O V i).1 ρ.length) ((runV env so O V i).1 (ρ.length + 1)) ((runV env so O V i).1 (ρ.length + 2))) := by
        have := gs ρ.length
        rw [hlen, tko, if_pos (by simp only [List.length_cons]; omega), if_neg (by omega), if_neg (by omega)] at this
        exact this
      have gold : ∀ j, j < ρ.length → (runV env so O V (i + 1)).1 j = (runV env so O V i).1 j := fun j hj => by
        rw [gs j, hlen, tko, if_neg (by simp only [List.length_cons]; omega)]
      have hcn := cn_le ρ
      simp only [List.length_cons] at hlen
      obtain ⟨r1, r0⟩ := hR

      rcases (show o = 5 ∨ o = 2 by omega) with h0 | h0
      · have en : clp (rawV so o ((runV env so O V i).1 ρ.length) ((runV env so O V i).1 (ρ.length + 1)) ((runV env so O V i).1 (ρ.length + 2))) = - ((runV env so O V i).1 ρ.length) := by
          rw [h0, show rawV so 5 ((runV env so O V i).1 ρ.length) ((runV env so O V i).1 (ρ.length + 1)) ((runV env so O V i).1 (ρ.length + 2)) = - ((runV env so O V i).1 ρ.length) from rfl]
          exact clp_id ⟨by have := (B ρ.length).2; omega, by have := (B ρ.length).1; omega⟩
        rw [en] at gnew
        obtain ⟨h3, f3, K⟩ := ih (i + 1) (sJ h1 495 (cnF ρ) (iL (- ((runV env so O V i).1 ρ.length)))) (some (.int (nI o))) (some (.int (nI v))) (by omega) (f1.sJ) (by rw [et']; exact ⟨by rw [pJ_sJ, if_pos rfl, if_pos rfl, gnew], RS.cg ρ r0 (fun j hj => by rw [pJ_sJ, if_pos rfl, if_neg (by omega)]) (fun j hj => rfl) (fun j hj => gold j (by omega))⟩)
        refine ⟨h3, f3, fun N S Q hN hS hQ => ?_⟩
        have hN1 : pn h1 ≤ N := by rw [f1.1.n]; exact hN
        have hS1 : ps h1 ≤ S := by rw [f1.1.s]; exact hS
        have K := K N S Q hN hS hQ
        rw [et'] at K
        rw [et]
        refine z_iload dX9_summedUp_40 rfl ?_
        refine z_aload_n dX9_summedUp_42 rfl rfl ?_
        refine y_getR FX9_16 dX9_summedUp_43 rfl hm.o hm.f_texts ?_
        refine z_iload_n dX9_summedUp_46 rfl rfl ?_
        refine z_iconst (v := 2) dX9_summedUp_47 (by decide) ?_
        refine z_iadd dX9_summedUp_48 ?_
        refine y_ialN (753 * t + 1 + 6 * k + 2) dX9_summedUp_49 hm.A_texts (Nat.le_of_ble_eq_true rfl) (by first | rfl | (simp only [← nI_add, ← pk_mul]; rfl)) (by omega) ?_
        refine z_eqi (show _ = nI (lo + m) by rw [f1.2.1 491 (by omega)]; exact c2) ?_
        refine z_icmp_ge dX9_summedUp_50 rfl (fun c => absurd c (fun q => absurd ((nI_leI (by omega) (by omega)).mp q) (by omega))) (fun _ => ?_)
        refine z_aload_n dX9_summedUp_53 rfl rfl ?_
        refine y_getR FX9_16 dX9_summedUp_54 rfl hm.o hm.f_texts ?_
        refine z_iload dX9_summedUp_57 rfl ?_
        refine z_iconst (v := 2) dX9_summedUp_59 (by decide) ?_
        refine z_iload dX9_summedUp_60 rfl ?_
        refine z_imul dX9_summedUp_62 ?_
        refine z_iadd dX9_summedUp_63 ?_
        refine y_ialN (753 * t + 145 + 2 * (lo + i)) dX9_summedUp_64 hm.A_texts (Nat.le_of_ble_eq_true rfl) (by first | rfl | (simp only [← nI_add, ← pk_mul]; rfl)) (by omega) ?_
        refine z_eqi (show _ = nI o by rw [f1.2.1 491 (by omega), ← eo]; exact (c3 i hi1).1) ?_
        refine z_istore dX9_summedUp_65 (Nat.le_of_ble_eq_true rfl) ?_
        refine z_aload_n dX9_summedUp_67 rfl rfl ?_
        refine y_getR FX9_16 dX9_summedUp_68 rfl hm.o hm.f_texts ?_
        refine z_iload dX9_summedUp_71 rfl ?_
        refine z_iconst (v := 2) dX9_summedUp_73 (by decide) ?_
        refine z_iload dX9_summedUp_74 rfl ?_
        refine z_imul dX9_summedUp_76 ?_
        refine z_iadd dX9_summedUp_77 ?_
        refine z_iconst (v := 1) dX9_summedUp_78 (by decide) ?_
        refine z_iadd dX9_summedUp_79 ?_
        refine y_ialN (753 * t + 145 + 2 * (lo + i) + 1) dX9_summedUp_80 hm.A_texts (Nat.le_of_ble_eq_true rfl) (by first | rfl | (simp only [← nI_add, ← pk_mul]; rfl)) (by omega) ?_
        refine z_eqi (show _ = nI v by rw [f1.2.1 491 (by omega), ← ev]; exact (c3 i hi1).2.1) ?_
        refine z_istore dX9_summedUp_81 (Nat.le_of_ble_eq_true rfl) ?_
        refine z_iload dX9_summedUp_83 rfl ?_
        refine z_iconst (v := 1) dX9_summedUp_85 (by decide) ?_
        refine z_icmp_gt dX9_summedUp_86 rfl (fun _ => ?_) (fun c => absurd ((nI_ltI (a := 1) (by omega) (by omega)).mpr (by omega)) c)
        refine z_iload dX9_summedUp_121 rfl ?_
        refine z_iconst (v := 3) dX9_summedUp_123 (by decide) ?_
        refine z_icmp_ne dX9_summedUp_124 rfl (fun _ => ?_) (fun c => absurd c (fun q => absurd ((nI_eq (b := 3) (by omega) (by omega)).mp q) (by omega)))
        refine z_iload dX9_summedUp_162 rfl ?_
        refine z_iconst (v := 5) dX9_summedUp_164 (by decide) ?_
        refine z_icmp_eq dX9_summedUp_165 rfl (fun _ => ?_) (fun c => absurd (congrArg nI (show o = 5 by omega)) c)
        refine z_aload_n dX9_summedUp_174 rfl rfl ?_
        refine y_getR FX9_35 dX9_summedUp_175 rfl hm.o hm.f_values ?_
        refine z_iload dX9_summedUp_178 rfl ?_
        refine z_iconst (v := 1) dX9_summedUp_180 (by decide) ?_
        refine z_isub dX9_summedUp_181 ?_
        refine z_eqi (show nI (cnF ρ + 1) - nI 1 = _ from pk_sub (by omega)) ?_
        refine z_iload dX9_summedUp_182 rfl ?_
        refine z_iconst (v := 5) dX9_summedUp_184 (by decide) ?_
        refine z_icmp_ne dX9_summedUp_185 rfl (fun c => absurd (congrArg nI (show o = 5 by omega)) c) (fun _ => ?_)
        refine z_aload_n dX9_summedUp_188 rfl rfl ?_
        refine y_getR FX9_35 dX9_summedUp_189 rfl hm.o hm.f_values ?_
        refine z_iload dX9_summedUp_192 rfl ?_
        refine z_iconst (v := 1) dX9_summedUp_194 (by decide) ?_
        refine z_isub dX9_summedUp_195 ?_
        refine z_eqi (show nI (cnF ρ + 1) - nI 1 = _ from pk_sub (by omega)) ?_
        refine y_lalN (cnF ρ) dX9_summedUp_196 (by exact hm.A_values) (Nat.le_of_ble_eq_true rfl) rfl (by omega) ?_
        refine z_eql (show _ = iL ((runV env so O V i).1 ρ.length) from r1) ?_
        refine z_lneg dX9_summedUp_197 ?_
        refine z_eql (iL_neg _) ?_
        refine z_goto dX9_summedUp_198 rfl ?_
        refine y_lasN (cnF ρ) dX9_summedUp_214 (by exact hm.A_values) (Nat.le_of_ble_eq_true rfl) rfl (by omega) ?_
        refine z_goto dX9_summedUp_215 rfl ?_
        refine z_iinc dX9_summedUp_402 rfl (nI_1 _) (Nat.le_of_ble_eq_true rfl) ?_
        refine z_goto dX9_summedUp_405 rfl ?_
        exact K

      · rw [h0] at gnew
        obtain ⟨h3, f3, K⟩ := ih (i + 1) (sJ h1 495 (cnF ρ) (iL (clp (rawV so 2 ((runV env so O V i).1 ρ.length) ((runV env so O V i).1 (ρ.length + 1)) ((runV env so O V i).1 (ρ.length + 2)))))) (some (.int (nI o))) (some (.int (nI v))) (by omega) (f1.sJ) (by rw [et']; exact ⟨by rw [pJ_sJ, if_pos rfl, if_pos rfl, gnew], RS.cg ρ r0 (fun j hj => by rw [pJ_sJ, if_pos rfl, if_neg (by omega)]) (fun j hj => rfl) (fun j hj => gold j (by omega))⟩)
        refine ⟨h3, f3, fun N S Q hN hS hQ => ?_⟩
        have hN1 : pn h1 ≤ N := by rw [f1.1.n]; exact hN
        have hS1 : ps h1 ≤ S := by rw [f1.1.s]; exact hS
        have K := K N S Q hN hS hQ
        rw [et'] at K
        rw [et]
        refine z_iload dX9_summedUp_40 rfl ?_
        refine z_aload_n dX9_summedUp_42 rfl rfl ?_
        refine y_getR FX9_16 dX9_summedUp_43 rfl hm.o hm.f_texts ?_
        refine z_iload_n dX9_summedUp_46 rfl rfl ?_
        refine z_iconst (v := 2) dX9_summedUp_47 (by decide) ?_
        refine z_iadd dX9_summedUp_48 ?_
        refine y_ialN (753 * t + 1 + 6 * k + 2) dX9_summedUp_49 hm.A_texts (Nat.le_of_ble_eq_true rfl) (by first | rfl | (simp only [← nI_add, ← pk_mul]; rfl)) (by omega) ?_
        refine z_eqi (show _ = nI (lo + m) by rw [f1.2.1 491 (by omega)]; exact c2) ?_
        refine z_icmp_ge dX9_summedUp_50 rfl (fun c => absurd c (fun q => absurd ((nI_leI (by omega) (by omega)).mp q) (by omega))) (fun _ => ?_)
        refine z_aload_n dX9_summedUp_53 rfl rfl ?_
        refine y_getR FX9_16 dX9_summedUp_54 rfl hm.o hm.f_texts ?_
        refine z_iload dX9_summedUp_57 rfl ?_
        refine z_iconst (v := 2) dX9_summedUp_59 (by decide) ?_
        refine z_iload dX9_summedUp_60 rfl ?_
        refine z_imul dX9_summedUp_62 ?_
        refine z_iadd dX9_summedUp_63 ?_
        refine y_ialN (753 * t + 145 + 2 * (lo + i)) dX9_summedUp_64 hm.A_texts (Nat.le_of_ble_eq_true rfl) (by first | rfl | (simp only [← nI_add, ← pk_mul]; rfl)) (by omega) ?_
        refine z_eqi (show _ = nI o by rw [f1.2.1 491 (by omega), ← eo]; exact (c3 i hi1).1) ?_
        refine z_istore dX9_summedUp_65 (Nat.le_of_ble_eq_true rfl) ?_
        refine z_aload_n dX9_summedUp_67 rfl rfl ?_
        refine y_getR FX9_16 dX9_summedUp_68 rfl hm.o hm.f_texts ?_
        refine z_iload dX9_summedUp_71 rfl ?_
        refine z_iconst (v := 2) dX9_summedUp_73 (by decide) ?_
        refine z_iload dX9_summedUp_74 rfl ?_
        refine z_imul dX9_summedUp_76 ?_
        refine z_iadd dX9_summedUp_77 ?_
        refine z_iconst (v := 1) dX9_summedUp_78 (by decide) ?_
        refine z_iadd dX9_summedUp_79 ?_
        refine y_ialN (753 * t + 145 + 2 * (lo + i) + 1) dX9_summedUp_80 hm.A_texts (Nat.le_of_ble_eq_true rfl) (by first | rfl | (simp only [← nI_add, ← pk_mul]; rfl)) (by omega) ?_
        refine z_eqi (show _ = nI v by rw [f1.2.1 491 (by omega), ← ev]; exact (c3 i hi1).2.1) ?_
        refine z_istore dX9_summedUp_81 (Nat.le_of_ble_eq_true rfl) ?_
        refine z_iload dX9_summedUp_83 rfl ?_
        refine z_iconst (v := 1) dX9_summedUp_85 (by decide) ?_
        refine z_icmp_gt dX9_summedUp_86 rfl (fun _ => ?_) (fun c => absurd ((nI_ltI (a := 1) (by omega) (by omega)).mpr (by omega)) c)
        refine z_iload dX9_summedUp_121 rfl ?_
        refine z_iconst (v := 3) dX9_summedUp_123 (by decide) ?_
        refine z_icmp_ne dX9_summedUp_124 rfl (fun _ => ?_) (fun c => absurd c (fun q => absurd ((nI_eq (b := 3) (by omega) (by omega)).mp q) (by omega)))
        refine z_iload dX9_summedUp_162 rfl ?_
        refine z_iconst (v := 5) dX9_summedUp_164 (by decide) ?_
        refine z_icmp_eq dX9_summedUp_165 rfl (fun c => absurd c (fun q => absurd ((nI_eq (b := 5) (by omega) (by omega)).mp q) (by omega))) (fun _ => ?_)
        refine z_iload dX9_summedUp_168 rfl ?_
        refine z_iconst (v := 2) dX9_summedUp_170 (by decide) ?_
        refine z_icmp_ne dX9_summedUp_171 rfl (fun c => absurd (congrArg nI (show o = 2 by omega)) c) (fun _ => ?_)
        refine z_aload_n dX9_summedUp_174 rfl rfl ?_
        refine y_getR FX9_35 dX9_summedUp_175 rfl hm.o hm.f_values ?_
        refine z_iload dX9_summedUp_178 rfl ?_
        refine z_iconst (v := 1) dX9_summedUp_180 (by decide) ?_
        refine z_isub dX9_summedUp_181 ?_
        refine z_eqi (show nI (cnF ρ + 1) - nI 1 = _ from pk_sub (by omega)) ?_
        refine z_iload dX9_summedUp_182 rfl ?_
        refine z_iconst (v := 5) dX9_summedUp_184 (by decide) ?_
        refine z_icmp_ne dX9_summedUp_185 rfl (fun _ => ?_) (fun c => absurd c (fun q => absurd ((nI_eq (b := 5) (by omega) (by omega)).mp q) (by omega)))
        refine z_aload_n dX9_summedUp_201 rfl rfl ?_
        refine z_aload_n dX9_summedUp_202 rfl rfl ?_
        refine y_getR FX9_35 dX9_summedUp_203 rfl hm.o hm.f_values ?_
        refine z_iload dX9_summedUp_206 rfl ?_
        refine z_iconst (v := 1) dX9_summedUp_208 (by decide) ?_
        refine z_isub dX9_summedUp_209 ?_
        refine z_eqi (show nI (cnF ρ + 1) - nI 1 = _ from pk_sub (by omega)) ?_
        refine y_lalN (cnF ρ) dX9_summedUp_210 (by exact hm.A_values) (Nat.le_of_ble_eq_true rfl) rfl (by omega) ?_
        refine z_eql (show _ = iL ((runV env so O V i).1 ρ.length) from r1) ?_
        refine y_callV (as := [_]) CX9_soOf LX9_284 IX9_soOf VX9_soOf ⟨rfl, Nat.le_of_ble_eq_true rfl⟩ dX9_summedUp_211 hm.o rfl (Nat.le_of_ble_eq_true rfl) (Nat.le_of_ble_eq_true rfl) (by omega) (r_soOf (d := 1) (so := so) (f := f) (y := ((runV env so O V i).1 (ρ.length + 1))) (z := ((runV env so O V i).1 (ρ.length + 2))) (by exact hm) (by rw [f1.2.1 489 (by omega)]; exact e0) (by rw [f1.2.1 489 (by omega)]; exact e10) hf hso (b6_31 (B _)) (Nat.le_refl _)) rok_l ⟨Nat.le_refl _, Nat.le_refl _, hN1, hS1⟩ ?_
        refine y_lasN (cnF ρ) dX9_summedUp_214 (by exact hm.A_values) (Nat.le_of_ble_eq_true rfl) rfl (by omega) ?_
        refine z_goto dX9_summedUp_215 rfl ?_
        refine z_iinc dX9_summedUp_402 rfl (nI_1 _) (Nat.le_of_ble_eq_true rfl) ?_
        refine z_goto dX9_summedUp_405 rfl ?_
        exact K

    · skip
      have et : ty i = false :: false :: true :: ρ := et
      rw [et] at hR hlen
      have tko : tkO o = 3 := by unfold tkO; rw [if_neg (by omega), if_neg (by omega), if_pos (by omega)]
      have gnew : (runV env so O V (i + 1)).1 ρ.length = clp (rawV so o ((runV env so O V i).1 ρ.length) ((runV env so O V i).1 (ρ.length + 1)) ((runV env so O V i).1 (ρ.length + 2))) := by
        have := gs ρ.length
        rw [hlen, tko, if_pos (by simp only [List.length_cons]; omega), if_neg (by omega), if_neg (by omega)] at this
        exact this
      have gold : ∀ j, j < ρ.length → (runV env so O V (i + 1)).1 j = (runV env so O V i).1 j := fun j hj => by
        rw [gs j, hlen, tko, if_neg (by simp only [List.length_cons]; omega)]
      have hcn := cn_le ρ
      simp only [List.length_cons] at hlen
      obtain ⟨r1, r2, r3, q3, r0⟩ := hR

      rcases q3 with hz | hz
      · have en : clp (rawV so o ((runV env so O V i).1 ρ.length) ((runV env so O V i).1 (ρ.length + 1)) ((runV env so O V i).1 (ρ.length + 2))) = ((runV env so O V i).1 (ρ.length + 2)) := by
          rw [hk, show rawV so 3 ((runV env so O V i).1 ρ.length) ((runV env so O V i).1 (ρ.length + 1)) ((runV env so O V i).1 (ρ.length + 2)) = (if ((runV env so O V i).1 ρ.length) = 0 then ((runV env so O V i).1 (ρ.length + 2)) else ((runV env so O V i).1 (ρ.length + 1))) from rfl, if_pos hz]
          exact clp_id (B _)
        rw [en] at gnew
        obtain ⟨h3, f3, K⟩ := ih (i + 1) (sJ h1 495 (cnF ρ) (iL ((runV env so O V i).1 (ρ.length + 2)))) (some (.int (nI o))) (some (.int (nI v))) (by omega) (f1.sJ) (by rw [et']; exact ⟨by rw [pJ_sJ, if_pos rfl, if_pos rfl, gnew], RS.cg ρ r0 (fun j hj => by rw [pJ_sJ, if_pos rfl, if_neg (by omega)]) (fun j hj => rfl) (fun j hj => gold j (by omega))⟩)
        refine ⟨h3, f3, fun N S Q hN hS hQ => ?_⟩
        have hN1 : pn h1 ≤ N := by rw [f1.1.n]; exact hN
        have hS1 : ps h1 ≤ S := by rw [f1.1.s]; exact hS
        have K := K N S Q hN hS hQ
        rw [et'] at K
        rw [et]
        refine z_iload dX9_summedUp_40 rfl ?_
        refine z_aload_n dX9_summedUp_42 rfl rfl ?_
        refine y_getR FX9_16 dX9_summedUp_43 rfl hm.o hm.f_texts ?_
        refine z_iload_n dX9_summedUp_46 rfl rfl ?_
        refine z_iconst (v := 2) dX9_summedUp_47 (by decide) ?_
        refine z_iadd dX9_summedUp_48 ?_
        refine y_ialN (753 * t + 1 + 6 * k + 2) dX9_summedUp_49 hm.A_texts (Nat.le_of_ble_eq_true rfl) (by first | rfl | (simp only [← nI_add, ← pk_mul]; rfl)) (by omega) ?_
        refine z_eqi (show _ = nI (lo + m) by rw [f1.2.1 491 (by omega)]; exact c2) ?_
        refine z_icmp_ge dX9_summedUp_50 rfl (fun c => absurd c (fun q => absurd ((nI_leI (by omega) (by omega)).mp q) (by omega))) (fun _ => ?_)
        refine z_aload_n dX9_summedUp_53 rfl rfl ?_
        refine y_getR FX9_16 dX9_summedUp_54 rfl hm.o hm.f_texts ?_
        refine z_iload dX9_summedUp_57 rfl ?_
        refine z_iconst (v := 2) dX9_summedUp_59 (by decide) ?_
        refine z_iload dX9_summedUp_60 rfl ?_
        refine z_imul dX9_summedUp_62 ?_
        refine z_iadd dX9_summedUp_63 ?_
        refine y_ialN (753 * t + 145 + 2 * (lo + i)) dX9_summedUp_64 hm.A_texts (Nat.le_of_ble_eq_true rfl) (by first | rfl | (simp only [← nI_add, ← pk_mul]; rfl)) (by omega) ?_
        refine z_eqi (show _ = nI o by rw [f1.2.1 491 (by omega), ← eo]; exact (c3 i hi1).1) ?_
        refine z_istore dX9_summedUp_65 (Nat.le_of_ble_eq_true rfl) ?_
        refine z_aload_n dX9_summedUp_67 rfl rfl ?_
        refine y_getR FX9_16 dX9_summedUp_68 rfl hm.o hm.f_texts ?_
        refine z_iload dX9_summedUp_71 rfl ?_
        refine z_iconst (v := 2) dX9_summedUp_73 (by decide) ?_
        refine z_iload dX9_summedUp_74 rfl ?_
        refine z_imul dX9_summedUp_76 ?_
        refine z_iadd dX9_summedUp_77 ?_
        refine z_iconst (v := 1) dX9_summedUp_78 (by decide) ?_
        refine z_iadd dX9_summedUp_79 ?_
        refine y_ialN (753 * t + 145 + 2 * (lo + i) + 1) dX9_summedUp_80 hm.A_texts (Nat.le_of_ble_eq_true rfl) (by first | rfl | (simp only [← nI_add, ← pk_mul]; rfl)) (by omega) ?_
        refine z_eqi (show _ = nI v by rw [f1.2.1 491 (by omega), ← ev]; exact (c3 i hi1).2.1) ?_
        refine z_istore dX9_summedUp_81 (Nat.le_of_ble_eq_true rfl) ?_
        refine z_iload dX9_summedUp_83 rfl ?_
        refine z_iconst (v := 1) dX9_summedUp_85 (by decide) ?_
        refine z_icmp_gt dX9_summedUp_86 rfl (fun _ => ?_) (fun c => absurd ((nI_ltI (a := 1) (by omega) (by omega)).mpr (by omega)) c)
        refine z_iload dX9_summedUp_121 rfl ?_
        refine z_iconst (v := 3) dX9_summedUp_123 (by decide) ?_
        refine z_icmp_ne dX9_summedUp_124 rfl (fun c => absurd (congrArg nI (show o = 3 by omega)) c) (fun _ => ?_)
        refine z_iinc dX9_summedUp_127 rfl (nI_m1 (cnF ρ + 1)) (Nat.le_of_ble_eq_true rfl) ?_
        refine z_iinc dX9_summedUp_130 rfl (nI_m1 (cnT ρ)) (Nat.le_of_ble_eq_true rfl) ?_
        refine z_aload_n dX9_summedUp_133 rfl rfl ?_
        refine y_getR FX9_39 dX9_summedUp_134 rfl hm.o hm.f_truth ?_
        refine z_iload dX9_summedUp_137 rfl ?_
        refine y_zalN (cnT ρ) dX9_summedUp_139 (by exact hm.A_truth) (Nat.le_of_ble_eq_true rfl) rfl (by omega) ?_
        refine z_eqi (show _ = iI ((runV env so O V i).1 ρ.length) from r3) ?_
        refine z_if_ne dX9_summedUp_140 rfl (fun c => absurd (by rw [hz]; rfl) c) (fun _ => ?_)
        refine z_aload_n dX9_summedUp_143 rfl rfl ?_
        refine y_getR FX9_35 dX9_summedUp_144 rfl hm.o hm.f_values ?_
        refine z_iload dX9_summedUp_147 rfl ?_
        refine z_iconst (v := 1) dX9_summedUp_149 (by decide) ?_
        refine z_isub dX9_summedUp_150 ?_
        refine z_eqi (show nI (cnF ρ + 1) - nI 1 = _ from pk_sub (by omega)) ?_
        refine z_aload_n dX9_summedUp_151 rfl rfl ?_
        refine y_getR FX9_35 dX9_summedUp_152 rfl hm.o hm.f_values ?_
        refine z_iload dX9_summedUp_155 rfl ?_
        refine y_lalN (cnF ρ + 1) dX9_summedUp_157 (by exact hm.A_values) (Nat.le_of_ble_eq_true rfl) rfl (by omega) ?_
        refine z_eql (show _ = iL ((runV env so O V i).1 (ρ.length + 2)) from r1) ?_
        refine y_lasN (cnF ρ) dX9_summedUp_158 (by exact hm.A_values) (Nat.le_of_ble_eq_true rfl) rfl (by omega) ?_
        refine z_goto dX9_summedUp_159 rfl ?_
        refine z_iinc dX9_summedUp_402 rfl (nI_1 _) (Nat.le_of_ble_eq_true rfl) ?_
        refine z_goto dX9_summedUp_405 rfl ?_
        exact K

      · have en : clp (rawV so o ((runV env so O V i).1 ρ.length) ((runV env so O V i).1 (ρ.length + 1)) ((runV env so O V i).1 (ρ.length + 2))) = ((runV env so O V i).1 (ρ.length + 1)) := by
          rw [hk, show rawV so 3 ((runV env so O V i).1 ρ.length) ((runV env so O V i).1 (ρ.length + 1)) ((runV env so O V i).1 (ρ.length + 2)) = (if ((runV env so O V i).1 ρ.length) = 0 then ((runV env so O V i).1 (ρ.length + 2)) else ((runV env so O V i).1 (ρ.length + 1))) from rfl, if_neg (by rw [hz]; omega)]
          exact clp_id (B _)
        rw [en] at gnew
        obtain ⟨h3, f3, K⟩ := ih (i + 1) h1 (some (.int (nI o))) (some (.int (nI v))) (by omega) (f1) (by rw [et']; exact ⟨by rw [gnew]; exact r2, RS.cg ρ r0 (fun j hj => rfl) (fun j hj => rfl) (fun j hj => gold j (by omega))⟩)
        refine ⟨h3, f3, fun N S Q hN hS hQ => ?_⟩
        have hN1 : pn h1 ≤ N := by rw [f1.1.n]; exact hN
        have hS1 : ps h1 ≤ S := by rw [f1.1.s]; exact hS
        have K := K N S Q hN hS hQ
        rw [et'] at K
        rw [et]
        refine z_iload dX9_summedUp_40 rfl ?_
        refine z_aload_n dX9_summedUp_42 rfl rfl ?_
        refine y_getR FX9_16 dX9_summedUp_43 rfl hm.o hm.f_texts ?_
        refine z_iload_n dX9_summedUp_46 rfl rfl ?_
        refine z_iconst (v := 2) dX9_summedUp_47 (by decide) ?_
        refine z_iadd dX9_summedUp_48 ?_
        refine y_ialN (753 * t + 1 + 6 * k + 2) dX9_summedUp_49 hm.A_texts (Nat.le_of_ble_eq_true rfl) (by first | rfl | (simp only [← nI_add, ← pk_mul]; rfl)) (by omega) ?_
        refine z_eqi (show _ = nI (lo + m) by rw [f1.2.1 491 (by omega)]; exact c2) ?_
        refine z_icmp_ge dX9_summedUp_50 rfl (fun c => absurd c (fun q => absurd ((nI_leI (by omega) (by omega)).mp q) (by omega))) (fun _ => ?_)
        refine z_aload_n dX9_summedUp_53 rfl rfl ?_
        refine y_getR FX9_16 dX9_summedUp_54 rfl hm.o hm.f_texts ?_
        refine z_iload dX9_summedUp_57 rfl ?_
        refine z_iconst (v := 2) dX9_summedUp_59 (by decide) ?_
        refine z_iload dX9_summedUp_60 rfl ?_
        refine z_imul dX9_summedUp_62 ?_
        refine z_iadd dX9_summedUp_63 ?_
        refine y_ialN (753 * t + 145 + 2 * (lo + i)) dX9_summedUp_64 hm.A_texts (Nat.le_of_ble_eq_true rfl) (by first | rfl | (simp only [← nI_add, ← pk_mul]; rfl)) (by omega) ?_
        refine z_eqi (show _ = nI o by rw [f1.2.1 491 (by omega), ← eo]; exact (c3 i hi1).1) ?_
        refine z_istore dX9_summedUp_65 (Nat.le_of_ble_eq_true rfl) ?_
        refine z_aload_n dX9_summedUp_67 rfl rfl ?_
        refine y_getR FX9_16 dX9_summedUp_68 rfl hm.o hm.f_texts ?_
        refine z_iload dX9_summedUp_71 rfl ?_
        refine z_iconst (v := 2) dX9_summedUp_73 (by decide) ?_
        refine z_iload dX9_summedUp_74 rfl ?_
        refine z_imul dX9_summedUp_76 ?_
        refine z_iadd dX9_summedUp_77 ?_
        refine z_iconst (v := 1) dX9_summedUp_78 (by decide) ?_
        refine z_iadd dX9_summedUp_79 ?_
        refine y_ialN (753 * t + 145 + 2 * (lo + i) + 1) dX9_summedUp_80 hm.A_texts (Nat.le_of_ble_eq_true rfl) (by first | rfl | (simp only [← nI_add, ← pk_mul]; rfl)) (by omega) ?_
        refine z_eqi (show _ = nI v by rw [f1.2.1 491 (by omega), ← ev]; exact (c3 i hi1).2.1) ?_
        refine z_istore dX9_summedUp_81 (Nat.le_of_ble_eq_true rfl) ?_
        refine z_iload dX9_summedUp_83 rfl ?_
        refine z_iconst (v := 1) dX9_summedUp_85 (by decide) ?_
        refine z_icmp_gt dX9_summedUp_86 rfl (fun _ => ?_) (fun c => absurd ((nI_ltI (a := 1) (by omega) (by omega)).mpr (by omega)) c)
        refine z_iload dX9_summedUp_121 rfl ?_
        refine z_iconst (v := 3) dX9_summedUp_123 (by decide) ?_
        refine z_icmp_ne dX9_summedUp_124 rfl (fun c => absurd (congrArg nI (show o = 3 by omega)) c) (fun _ => ?_)
        refine z_iinc dX9_summedUp_127 rfl (nI_m1 (cnF ρ + 1)) (Nat.le_of_ble_eq_true rfl) ?_
        refine z_iinc dX9_summedUp_130 rfl (nI_m1 (cnT ρ)) (Nat.le_of_ble_eq_true rfl) ?_
        refine z_aload_n dX9_summedUp_133 rfl rfl ?_
        refine y_getR FX9_39 dX9_summedUp_134 rfl hm.o hm.f_truth ?_
        refine z_iload dX9_summedUp_137 rfl ?_
        refine y_zalN (cnT ρ) dX9_summedUp_139 (by exact hm.A_truth) (Nat.le_of_ble_eq_true rfl) rfl (by omega) ?_
        refine z_eqi (show _ = iI ((runV env so O V i).1 ρ.length) from r3) ?_
        refine z_if_ne dX9_summedUp_140 rfl (fun _ => ?_) (fun c => absurd c (by rw [hz]; decide))
        refine z_iinc dX9_summedUp_402 rfl (nI_1 _) (Nat.le_of_ble_eq_true rfl) ?_
        refine z_goto dX9_summedUp_405 rfl ?_
        exact K

    · skip
      have et : ty i = false :: false :: ρ := et
      rw [et] at hR hlen
      have tko : tkO o = 2 := by unfold tkO; rw [if_neg (by omega), if_neg (by omega), if_neg (by omega)]
      have gnew : (runV env so O V (i + 1)).1 ρ.length = clp (rawV so o ((runV env so O V i).1 ρ.length) ((runV env so O V i).1 (ρ.length + 1)) ((runV env so O V i).1 (ρ.length + 2))) := by
        have := gs ρ.length
        rw [hlen, tko, if_pos (by simp only [List.length_cons]; omega), if_neg (by omega), if_neg (by omega)] at this
        exact this
      have gold : ∀ j, j < ρ.length → (runV env so O V (i + 1)).1 j = (runV env so O V i).1 j := fun j hj => by
        rw [gs j, hlen, tko, if_neg (by simp only [List.length_cons]; omega)]
      have hcn := cn_le ρ
      simp only [List.length_cons] at hlen
      obtain ⟨r1, r2, r0⟩ := hR

      rcases (show o = 4 ∨ (6 ≤ o ∧ o ≤ 9) by omega) with h0 | h0
      · rw [h0] at gnew
        obtain ⟨h3, f3, K⟩ := ih (i + 1) (sJ h1 495 (cnF ρ) (iL (clp (rawV so 4 ((runV env so O V i).1 ρ.length) ((runV env so O V i).1 (ρ.length + 1)) ((runV env so O V i).1 (ρ.length + 2)))))) (some (.int (nI o))) (some (.int (nI v))) (by omega) (f1.sJ) (by rw [et']; exact ⟨by rw [pJ_sJ, if_pos rfl, if_pos rfl, gnew], RS.cg ρ r0 (fun j hj => by rw [pJ_sJ, if_pos rfl, if_neg (by omega)]) (fun j hj => rfl) (fun j hj => gold j (by omega))⟩)
        refine ⟨h3, f3, fun N S Q hN hS hQ => ?_⟩
        have hN1 : pn h1 ≤ N := by rw [f1.1.n]; exact hN
        have hS1 : ps h1 ≤ S := by rw [f1.1.s]; exact hS
        have K := K N S Q hN hS hQ
        rw [et'] at K
        rw [et]
        refine z_iload dX9_summedUp_40 rfl ?_
        refine z_aload_n dX9_summedUp_42 rfl rfl ?_
        refine y_getR FX9_16 dX9_summedUp_43 rfl hm.o hm.f_texts ?_
        refine z_iload_n dX9_summedUp_46 rfl rfl ?_
        refine z_iconst (v := 2) dX9_summedUp_47 (by decide) ?_
        refine z_iadd dX9_summedUp_48 ?_
        refine y_ialN (753 * t + 1 + 6 * k + 2) dX9_summedUp_49 hm.A_texts (Nat.le_of_ble_eq_true rfl) (by first | rfl | (simp only [← nI_add, ← pk_mul]; rfl)) (by omega) ?_
        refine z_eqi (show _ = nI (lo + m) by rw [f1.2.1 491 (by omega)]; exact c2) ?_
        refine z_icmp_ge dX9_summedUp_50 rfl (fun c => absurd c (fun q => absurd ((nI_leI (by omega) (by omega)).mp q) (by omega))) (fun _ => ?_)
        refine z_aload_n dX9_summedUp_53 rfl rfl ?_
        refine y_getR FX9_16 dX9_summedUp_54 rfl hm.o hm.f_texts ?_
        refine z_iload dX9_summedUp_57 rfl ?_
        refine z_iconst (v := 2) dX9_summedUp_59 (by decide) ?_
        refine z_iload dX9_summedUp_60 rfl ?_
        refine z_imul dX9_summedUp_62 ?_
        refine z_iadd dX9_summedUp_63 ?_
        refine y_ialN (753 * t + 145 + 2 * (lo + i)) dX9_summedUp_64 hm.A_texts (Nat.le_of_ble_eq_true rfl) (by first | rfl | (simp only [← nI_add, ← pk_mul]; rfl)) (by omega) ?_
        refine z_eqi (show _ = nI o by rw [f1.2.1 491 (by omega), ← eo]; exact (c3 i hi1).1) ?_
        refine z_istore dX9_summedUp_65 (Nat.le_of_ble_eq_true rfl) ?_
        refine z_aload_n dX9_summedUp_67 rfl rfl ?_
        refine y_getR FX9_16 dX9_summedUp_68 rfl hm.o hm.f_texts ?_
        refine z_iload dX9_summedUp_71 rfl ?_
        refine z_iconst (v := 2) dX9_summedUp_73 (by decide) ?_
        refine z_iload dX9_summedUp_74 rfl ?_
        refine z_imul dX9_summedUp_76 ?_
        refine z_iadd dX9_summedUp_77 ?_
        refine z_iconst (v := 1) dX9_summedUp_78 (by decide) ?_
        refine z_iadd dX9_summedUp_79 ?_
        refine y_ialN (753 * t + 145 + 2 * (lo + i) + 1) dX9_summedUp_80 hm.A_texts (Nat.le_of_ble_eq_true rfl) (by first | rfl | (simp only [← nI_add, ← pk_mul]; rfl)) (by omega) ?_
        refine z_eqi (show _ = nI v by rw [f1.2.1 491 (by omega), ← ev]; exact (c3 i hi1).2.1) ?_
        refine z_istore dX9_summedUp_81 (Nat.le_of_ble_eq_true rfl) ?_
        refine z_iload dX9_summedUp_83 rfl ?_
        refine z_iconst (v := 1) dX9_summedUp_85 (by decide) ?_
        refine z_icmp_gt dX9_summedUp_86 rfl (fun _ => ?_) (fun c => absurd ((nI_ltI (a := 1) (by omega) (by omega)).mpr (by omega)) c)
        refine z_iload dX9_summedUp_121 rfl ?_
        refine z_iconst (v := 3) dX9_summedUp_123 (by decide) ?_
        refine z_icmp_ne dX9_summedUp_124 rfl (fun _ => ?_) (fun c => absurd c (fun q => absurd ((nI_eq (b := 3) (by omega) (by omega)).mp q) (by omega)))
        refine z_iload dX9_summedUp_162 rfl ?_
        refine z_iconst (v := 5) dX9_summedUp_164 (by decide) ?_
        refine z_icmp_eq dX9_summedUp_165 rfl (fun c => absurd c (fun q => absurd ((nI_eq (b := 5) (by omega) (by omega)).mp q) (by omega))) (fun _ => ?_)
        refine z_iload dX9_summedUp_168 rfl ?_
        refine z_iconst (v := 2) dX9_summedUp_170 (by decide) ?_
        refine z_icmp_ne dX9_summedUp_171 rfl (fun _ => ?_) (fun c => absurd c (fun q => absurd ((nI_eq (b := 2) (by omega) (by omega)).mp q) (by omega)))
        refine z_iload dX9_summedUp_218 rfl ?_
        refine z_bipush (v := 10) dX9_summedUp_220 (by decide) ?_
        refine z_icmp_ge dX9_summedUp_222 rfl (fun c => absurd c (fun q => absurd ((nI_leI (a := 10) (by omega) (by omega)).mp q) (by omega))) (fun _ => ?_)
        refine z_iinc dX9_summedUp_225 rfl (nI_m1 (cnF ρ + 1)) (Nat.le_of_ble_eq_true rfl) ?_
        refine z_aload_n dX9_summedUp_228 rfl rfl ?_
        refine y_getR FX9_35 dX9_summedUp_229 rfl hm.o hm.f_values ?_
        refine z_iload dX9_summedUp_232 rfl ?_
        refine z_iconst (v := 1) dX9_summedUp_234 (by decide) ?_
        refine z_isub dX9_summedUp_235 ?_
        refine z_eqi (show nI (cnF ρ + 1) - nI 1 = _ from pk_sub (by omega)) ?_
        refine z_iload dX9_summedUp_236 rfl ?_
        refine z_iconst (v := 4) dX9_summedUp_238 (by decide) ?_
        refine z_icmp_ne dX9_summedUp_239 rfl (fun c => absurd (congrArg nI (show o = 4 by omega)) c) (fun _ => ?_)
        refine z_aload_n dX9_summedUp_242 rfl rfl ?_
        refine y_getR FX9_35 dX9_summedUp_243 rfl hm.o hm.f_values ?_
        refine z_iload dX9_summedUp_246 rfl ?_
        refine z_iconst (v := 1) dX9_summedUp_248 (by decide) ?_
        refine z_isub dX9_summedUp_249 ?_
        refine z_eqi (show nI (cnF ρ + 1) - nI 1 = _ from pk_sub (by omega)) ?_
        refine y_lalN (cnF ρ) dX9_summedUp_250 (by exact hm.A_values) (Nat.le_of_ble_eq_true rfl) rfl (by omega) ?_
        refine z_eql (show _ = iL ((runV env so O V i).1 ρ.length) from r2) ?_
        refine z_aload_n dX9_summedUp_251 rfl rfl ?_
        refine y_getR FX9_35 dX9_summedUp_252 rfl hm.o hm.f_values ?_
        refine z_iload dX9_summedUp_255 rfl ?_
        refine y_lalN (cnF ρ + 1) dX9_summedUp_257 (by exact hm.A_values) (Nat.le_of_ble_eq_true rfl) rfl (by omega) ?_
        refine z_eql (show _ = iL ((runV env so O V i).1 (ρ.length + 1)) from r1) ?_
        refine y_callS (as := [_, _]) CX9_percentOf LX9_287 SX9_percentOf dX9_summedUp_258 rfl (Nat.le_of_ble_eq_true rfl) (Nat.le_of_ble_eq_true rfl) (by omega) (r_percentOf (so := so) (z := ((runV env so O V i).1 (ρ.length + 2))) (b6_31 (B _)) (b6_31 (B _))) rok_l ⟨Nat.le_refl _, Nat.le_refl _, hN1, hS1⟩ ?_
        refine z_goto dX9_summedUp_261 rfl ?_
        refine y_lasN (cnF ρ) dX9_summedUp_285 (by exact hm.A_values) (Nat.le_of_ble_eq_true rfl) rfl (by omega) ?_
        refine z_goto dX9_summedUp_286 rfl ?_
        refine z_iinc dX9_summedUp_402 rfl (nI_1 _) (Nat.le_of_ble_eq_true rfl) ?_
        refine z_goto dX9_summedUp_405 rfl ?_
        exact K

      · skip
        obtain ⟨h3, f3, K⟩ := ih (i + 1) (sJ h1 495 (cnF ρ) (iL (clp (rawV so o ((runV env so O V i).1 ρ.length) ((runV env so O V i).1 (ρ.length + 1)) ((runV env so O V i).1 (ρ.length + 2)))))) (some (.int (nI o))) (some (.int (nI v))) (by omega) (f1.sJ) (by rw [et']; exact ⟨by rw [pJ_sJ, if_pos rfl, if_pos rfl, gnew], RS.cg ρ r0 (fun j hj => by rw [pJ_sJ, if_pos rfl, if_neg (by omega)]) (fun j hj => rfl) (fun j hj => gold j (by omega))⟩)
        refine ⟨h3, f3, fun N S Q hN hS hQ => ?_⟩
        have hN1 : pn h1 ≤ N := by rw [f1.1.n]; exact hN
        have hS1 : ps h1 ≤ S := by rw [f1.1.s]; exact hS
        have K := K N S Q hN hS hQ
        rw [et'] at K
        rw [et]
        refine z_iload dX9_summedUp_40 rfl ?_
        refine z_aload_n dX9_summedUp_42 rfl rfl ?_
        refine y_getR FX9_16 dX9_summedUp_43 rfl hm.o hm.f_texts ?_
        refine z_iload_n dX9_summedUp_46 rfl rfl ?_
        refine z_iconst (v := 2) dX9_summedUp_47 (by decide) ?_
        refine z_iadd dX9_summedUp_48 ?_
        refine y_ialN (753 * t + 1 + 6 * k + 2) dX9_summedUp_49 hm.A_texts (Nat.le_of_ble_eq_true rfl) (by first | rfl | (simp only [← nI_add, ← pk_mul]; rfl)) (by omega) ?_
        refine z_eqi (show _ = nI (lo + m) by rw [f1.2.1 491 (by omega)]; exact c2) ?_
        refine z_icmp_ge dX9_summedUp_50 rfl (fun c => absurd c (fun q => absurd ((nI_leI (by omega) (by omega)).mp q) (by omega))) (fun _ => ?_)
        refine z_aload_n dX9_summedUp_53 rfl rfl ?_
        refine y_getR FX9_16 dX9_summedUp_54 rfl hm.o hm.f_texts ?_
        refine z_iload dX9_summedUp_57 rfl ?_
        refine z_iconst (v := 2) dX9_summedUp_59 (by decide) ?_
        refine z_iload dX9_summedUp_60 rfl ?_
        refine z_imul dX9_summedUp_62 ?_
        refine z_iadd dX9_summedUp_63 ?_
        refine y_ialN (753 * t + 145 + 2 * (lo + i)) dX9_summedUp_64 hm.A_texts (Nat.le_of_ble_eq_true rfl) (by first | rfl | (simp only [← nI_add, ← pk_mul]; rfl)) (by omega) ?_
        refine z_eqi (show _ = nI o by rw [f1.2.1 491 (by omega), ← eo]; exact (c3 i hi1).1) ?_
        refine z_istore dX9_summedUp_65 (Nat.le_of_ble_eq_true rfl) ?_
        refine z_aload_n dX9_summedUp_67 rfl rfl ?_
        refine y_getR FX9_16 dX9_summedUp_68 rfl hm.o hm.f_texts ?_
        refine z_iload dX9_summedUp_71 rfl ?_
        refine z_iconst (v := 2) dX9_summedUp_73 (by decide) ?_
        refine z_iload dX9_summedUp_74 rfl ?_
        refine z_imul dX9_summedUp_76 ?_
        refine z_iadd dX9_summedUp_77 ?_
        refine z_iconst (v := 1) dX9_summedUp_78 (by decide) ?_
        refine z_iadd dX9_summedUp_79 ?_
        refine y_ialN (753 * t + 145 + 2 * (lo + i) + 1) dX9_summedUp_80 hm.A_texts (Nat.le_of_ble_eq_true rfl) (by first | rfl | (simp only [← nI_add, ← pk_mul]; rfl)) (by omega) ?_
        refine z_eqi (show _ = nI v by rw [f1.2.1 491 (by omega), ← ev]; exact (c3 i hi1).2.1) ?_
        refine z_istore dX9_summedUp_81 (Nat.le_of_ble_eq_true rfl) ?_
        refine z_iload dX9_summedUp_83 rfl ?_
        refine z_iconst (v := 1) dX9_summedUp_85 (by decide) ?_
        refine z_icmp_gt dX9_summedUp_86 rfl (fun _ => ?_) (fun c => absurd ((nI_ltI (a := 1) (by omega) (by omega)).mpr (by omega)) c)
        refine z_iload dX9_summedUp_121 rfl ?_
        refine z_iconst (v := 3) dX9_summedUp_123 (by decide) ?_
        refine z_icmp_ne dX9_summedUp_124 rfl (fun _ => ?_) (fun c => absurd c (fun q => absurd ((nI_eq (b := 3) (by omega) (by omega)).mp q) (by omega)))
        refine z_iload dX9_summedUp_162 rfl ?_
        refine z_iconst (v := 5) dX9_summedUp_164 (by decide) ?_
        refine z_icmp_eq dX9_summedUp_165 rfl (fun c => absurd c (fun q => absurd ((nI_eq (b := 5) (by omega) (by omega)).mp q) (by omega))) (fun _ => ?_)
        refine z_iload dX9_summedUp_168 rfl ?_
        refine z_iconst (v := 2) dX9_summedUp_170 (by decide) ?_
        refine z_icmp_ne dX9_summedUp_171 rfl (fun _ => ?_) (fun c => absurd c (fun q => absurd ((nI_eq (b := 2) (by omega) (by omega)).mp q) (by omega)))
        refine z_iload dX9_summedUp_218 rfl ?_
        refine z_bipush (v := 10) dX9_summedUp_220 (by decide) ?_
        refine z_icmp_ge dX9_summedUp_222 rfl (fun c => absurd c (fun q => absurd ((nI_leI (a := 10) (by omega) (by omega)).mp q) (by omega))) (fun _ => ?_)
        refine z_iinc dX9_summedUp_225 rfl (nI_m1 (cnF ρ + 1)) (Nat.le_of_ble_eq_true rfl) ?_
        refine z_aload_n dX9_summedUp_228 rfl rfl ?_
        refine y_getR FX9_35 dX9_summedUp_229 rfl hm.o hm.f_values ?_
        refine z_iload dX9_summedUp_232 rfl ?_
        refine z_iconst (v := 1) dX9_summedUp_234 (by decide) ?_
        refine z_isub dX9_summedUp_235 ?_
        refine z_eqi (show nI (cnF ρ + 1) - nI 1 = _ from pk_sub (by omega)) ?_
        refine z_iload dX9_summedUp_236 rfl ?_
        refine z_iconst (v := 4) dX9_summedUp_238 (by decide) ?_
        refine z_icmp_ne dX9_summedUp_239 rfl (fun _ => ?_) (fun c => absurd c (fun q => absurd ((nI_eq (b := 4) (by omega) (by omega)).mp q) (by omega)))
        refine z_iload dX9_summedUp_264 rfl ?_
        refine z_aload_n dX9_summedUp_266 rfl rfl ?_
        refine y_getR FX9_35 dX9_summedUp_267 rfl hm.o hm.f_values ?_
        refine z_iload dX9_summedUp_270 rfl ?_
        refine z_iconst (v := 1) dX9_summedUp_272 (by decide) ?_
        refine z_isub dX9_summedUp_273 ?_
        refine z_eqi (show nI (cnF ρ + 1) - nI 1 = _ from pk_sub (by omega)) ?_
        refine y_lalN (cnF ρ) dX9_summedUp_274 (by exact hm.A_values) (Nat.le_of_ble_eq_true rfl) rfl (by omega) ?_
        refine z_eql (show _ = iL ((runV env so O V i).1 ρ.length) from r2) ?_
        refine z_aload_n dX9_summedUp_275 rfl rfl ?_
        refine y_getR FX9_35 dX9_summedUp_276 rfl hm.o hm.f_values ?_
        refine z_iload dX9_summedUp_279 rfl ?_
        refine y_lalN (cnF ρ + 1) dX9_summedUp_281 (by exact hm.A_values) (Nat.le_of_ble_eq_true rfl) rfl (by omega) ?_
        refine z_eql (show _ = iL ((runV env so O V i).1 (ρ.length + 1)) from r1) ?_
        refine y_callS (as := [_, _, _]) CX9_two LX9_291 SX9_two dX9_summedUp_282 rfl (Nat.le_of_ble_eq_true rfl) (Nat.le_of_ble_eq_true rfl) (by omega) (r_two (d := 1) (so := so) (z := ((runV env so O V i).1 (ρ.length + 2))) (b6_31 (B _)) (b6_31 (B _)) (by omega) (Nat.le_refl _)) rok_l ⟨Nat.le_refl _, Nat.le_refl _, hN1, hS1⟩ ?_
        refine y_lasN (cnF ρ) dX9_summedUp_285 (by exact hm.A_values) (Nat.le_of_ble_eq_true rfl) rfl (by omega) ?_
        refine z_goto dX9_summedUp_286 rfl ?_
        refine z_iinc dX9_summedUp_402 rfl (nI_1 _) (Nat.le_of_ble_eq_true rfl) ?_
        refine z_goto dX9_summedUp_405 rfl ?_
        exact K

    · skip
      have et : ty i = false :: false :: ρ := et
      rw [et] at hR hlen
      have tko : tkO o = 2 := by unfold tkO; rw [if_neg (by omega), if_neg (by omega), if_neg (by omega)]
      have gnew : (runV env so O V (i + 1)).1 ρ.length = clp (rawV so o ((runV env so O V i).1 ρ.length) ((runV env so O V i).1 (ρ.length + 1)) ((runV env so O V i).1 (ρ.length + 2))) := by
        have := gs ρ.length
        rw [hlen, tko, if_pos (by simp only [List.length_cons]; omega), if_neg (by omega), if_neg (by omega)] at this
        exact this
      have gold : ∀ j, j < ρ.length → (runV env so O V (i + 1)).1 j = (runV env so O V i).1 j := fun j hj => by
        rw [gs j, hlen, tko, if_neg (by simp only [List.length_cons]; omega)]
      have hcn := cn_le ρ
      simp only [List.length_cons] at hlen
      obtain ⟨r1, r2, r0⟩ := hR
      have z01 := raw01 (so := so) (x := ((runV env so O V i).1 ρ.length)) (y := ((runV env so O V i).1 (ρ.length + 1))) (z := ((runV env so O V i).1 (ρ.length + 2))) (show 10 ≤ o by omega)
      have v01 : iI (clp (rawV so o ((runV env so O V i).1 ρ.length) ((runV env so O V i).1 (ρ.length + 1)) ((runV env so O V i).1 (ρ.length + 2)))) = 0 ∨ iI (clp (rawV so o ((runV env so O V i).1 ρ.length) ((runV env so O V i).1 (ρ.length + 1)) ((runV env so O V i).1 (ρ.length + 2)))) = 1 := by rcases z01 with q | q <;> rw [q] <;> decide

      obtain ⟨h3, f3, K⟩ := ih (i + 1) (sI h1 496 (cnT ρ) (iI (clp (rawV so o ((runV env so O V i).1 ρ.length) ((runV env so O V i).1 (ρ.length + 1)) ((runV env so O V i).1 (ρ.length + 2)))))) (some (.int (nI o))) (some (.int (nI v))) (by omega) (f1.sI) (by rw [et']; exact ⟨by rw [pI_sI, if_pos rfl, if_pos rfl, gnew], (by rw [gnew]; exact z01), RS.cg ρ r0 (fun j hj => rfl) (fun j hj => by rw [pI_sI, if_pos rfl, if_neg (by omega)]) (fun j hj => gold j (by omega))⟩)
      refine ⟨h3, f3, fun N S Q hN hS hQ => ?_⟩
      have hN1 : pn h1 ≤ N := by rw [f1.1.n]; exact hN
      have hS1 : ps h1 ≤ S := by rw [f1.1.s]; exact hS
      have K := K N S Q hN hS hQ
      rw [et'] at K
      rw [et]
      refine z_iload dX9_summedUp_40 rfl ?_
      refine z_aload_n dX9_summedUp_42 rfl rfl ?_
      refine y_getR FX9_16 dX9_summedUp_43 rfl hm.o hm.f_texts ?_
      refine z_iload_n dX9_summedUp_46 rfl rfl ?_
      refine z_iconst (v := 2) dX9_summedUp_47 (by decide) ?_
      refine z_iadd dX9_summedUp_48 ?_
      refine y_ialN (753 * t + 1 + 6 * k + 2) dX9_summedUp_49 hm.A_texts (Nat.le_of_ble_eq_true rfl) (by first | rfl | (simp only [← nI_add, ← pk_mul]; rfl)) (by omega) ?_
      refine z_eqi (show _ = nI (lo + m) by rw [f1.2.1 491 (by omega)]; exact c2) ?_
      refine z_icmp_ge dX9_summedUp_50 rfl (fun c => absurd c (fun q => absurd ((nI_leI (by omega) (by omega)).mp q) (by omega))) (fun _ => ?_)
      refine z_aload_n dX9_summedUp_53 rfl rfl ?_
      refine y_getR FX9_16 dX9_summedUp_54 rfl hm.o hm.f_texts ?_
      refine z_iload dX9_summedUp_57 rfl ?_
      refine z_iconst (v := 2) dX9_summedUp_59 (by decide) ?_
      refine z_iload dX9_summedUp_60 rfl ?_
      refine z_imul dX9_summedUp_62 ?_
      refine z_iadd dX9_summedUp_63 ?_
      refine y_ialN (753 * t + 145 + 2 * (lo + i)) dX9_summedUp_64 hm.A_texts (Nat.le_of_ble_eq_true rfl) (by first | rfl | (simp only [← nI_add, ← pk_mul]; rfl)) (by omega) ?_
      refine z_eqi (show _ = nI o by rw [f1.2.1 491 (by omega), ← eo]; exact (c3 i hi1).1) ?_
      refine z_istore dX9_summedUp_65 (Nat.le_of_ble_eq_true rfl) ?_
      refine z_aload_n dX9_summedUp_67 rfl rfl ?_
      refine y_getR FX9_16 dX9_summedUp_68 rfl hm.o hm.f_texts ?_
      refine z_iload dX9_summedUp_71 rfl ?_
      refine z_iconst (v := 2) dX9_summedUp_73 (by decide) ?_
      refine z_iload dX9_summedUp_74 rfl ?_
      refine z_imul dX9_summedUp_76 ?_
      refine z_iadd dX9_summedUp_77 ?_
      refine z_iconst (v := 1) dX9_summedUp_78 (by decide) ?_
      refine z_iadd dX9_summedUp_79 ?_
      refine y_ialN (753 * t + 145 + 2 * (lo + i) + 1) dX9_summedUp_80 hm.A_texts (Nat.le_of_ble_eq_true rfl) (by first | rfl | (simp only [← nI_add, ← pk_mul]; rfl)) (by omega) ?_
      refine z_eqi (show _ = nI v by rw [f1.2.1 491 (by omega), ← ev]; exact (c3 i hi1).2.1) ?_
      refine z_istore dX9_summedUp_81 (Nat.le_of_ble_eq_true rfl) ?_
      refine z_iload dX9_summedUp_83 rfl ?_
      refine z_iconst (v := 1) dX9_summedUp_85 (by decide) ?_
      refine z_icmp_gt dX9_summedUp_86 rfl (fun _ => ?_) (fun c => absurd ((nI_ltI (a := 1) (by omega) (by omega)).mpr (by omega)) c)
      refine z_iload dX9_summedUp_121 rfl ?_
      refine z_iconst (v := 3) dX9_summedUp_123 (by decide) ?_
      refine z_icmp_ne dX9_summedUp_124 rfl (fun _ => ?_) (fun c => absurd c (fun q => absurd ((nI_eq (b := 3) (by omega) (by omega)).mp q) (by omega)))
      refine z_iload dX9_summedUp_162 rfl ?_
      refine z_iconst (v := 5) dX9_summedUp_164 (by decide) ?_
      refine z_icmp_eq dX9_summedUp_165 rfl (fun c => absurd c (fun q => absurd ((nI_eq (b := 5) (by omega) (by omega)).mp q) (by omega))) (fun _ => ?_)
      refine z_iload dX9_summedUp_168 rfl ?_
      refine z_iconst (v := 2) dX9_summedUp_170 (by decide) ?_
      refine z_icmp_ne dX9_summedUp_171 rfl (fun _ => ?_) (fun c => absurd c (fun q => absurd ((nI_eq (b := 2) (by omega) (by omega)).mp q) (by omega)))
      refine z_iload dX9_summedUp_218 rfl ?_
      refine z_bipush (v := 10) dX9_summedUp_220 (by decide) ?_
      refine z_icmp_ge dX9_summedUp_222 rfl (fun _ => ?_) (fun c => absurd ((nI_leI (a := 10) (by omega) (by omega)).mpr (by omega)) c)
      refine z_iload dX9_summedUp_289 rfl ?_
      refine z_bipush (v := 20) dX9_summedUp_291 (by decide) ?_
      refine z_icmp_ge dX9_summedUp_293 rfl (fun c => absurd c (fun q => absurd ((nI_leI (a := 20) (by omega) (by omega)).mp q) (by omega))) (fun _ => ?_)
      refine z_iinc dX9_summedUp_296 rfl (nI_m2 (cnF ρ)) (Nat.le_of_ble_eq_true rfl) ?_
      refine z_aload_n dX9_summedUp_299 rfl rfl ?_
      refine y_getR FX9_39 dX9_summedUp_300 rfl hm.o hm.f_truth ?_
      refine z_iload dX9_summedUp_303 rfl ?_
      refine z_iload dX9_summedUp_305 rfl ?_
      refine z_aload_n dX9_summedUp_307 rfl rfl ?_
      refine y_getR FX9_35 dX9_summedUp_308 rfl hm.o hm.f_values ?_
      refine z_iload dX9_summedUp_311 rfl ?_
      refine y_lalN (cnF ρ) dX9_summedUp_313 (by exact hm.A_values) (Nat.le_of_ble_eq_true rfl) rfl (by omega) ?_
      refine z_eql (show _ = iL ((runV env so O V i).1 ρ.length) from r2) ?_
      refine z_aload_n dX9_summedUp_314 rfl rfl ?_
      refine y_getR FX9_35 dX9_summedUp_315 rfl hm.o hm.f_values ?_
      refine z_iload dX9_summedUp_318 rfl ?_
      refine z_iconst (v := 1) dX9_summedUp_320 (by decide) ?_
      refine z_iadd dX9_summedUp_321 ?_
      refine z_eqi (nI_1 (cnF ρ)) ?_
      refine y_lalN (cnF ρ + 1) dX9_summedUp_322 (by exact hm.A_values) (Nat.le_of_ble_eq_true rfl) rfl (by omega) ?_
      refine z_eql (show _ = iL ((runV env so O V i).1 (ρ.length + 1)) from r1) ?_
      refine y_callS (as := [_, _, _]) CX9_isAsked LX9_295 SX9_isAsked dX9_summedUp_323 rfl (Nat.le_of_ble_eq_true rfl) (Nat.le_of_ble_eq_true rfl) (by omega) (r_asked (so := so) (z := ((runV env so O V i).1 (ρ.length + 2))) (b6_31 (B _)) (b6_31 (B _)) (by omega)) (rok_z v01) ⟨Nat.le_refl _, Nat.le_refl _, hN1, hS1⟩ ?_
      refine y_zasN (cnT ρ) dX9_summedUp_326 (by exact hm.A_truth) (Nat.le_of_ble_eq_true rfl) rfl (by omega) (v01) ?_
      refine z_iinc dX9_summedUp_327 rfl (nI_1 _) (Nat.le_of_ble_eq_true rfl) ?_
      refine z_goto dX9_summedUp_330 rfl ?_
      refine z_iinc dX9_summedUp_402 rfl (nI_1 _) (Nat.le_of_ble_eq_true rfl) ?_
      refine z_goto dX9_summedUp_405 rfl ?_
      exact K

    · skip
      have et : ty i = true :: ρ := et
      rw [et] at hR hlen
      have tko : tkO o = 1 := by unfold tkO; rw [if_neg (by omega), if_pos (by omega)]
      have gnew : (runV env so O V (i + 1)).1 ρ.length = clp (rawV so o ((runV env so O V i).1 ρ.length) ((runV env so O V i).1 (ρ.length + 1)) ((runV env so O V i).1 (ρ.length + 2))) := by
        have := gs ρ.length
        rw [hlen, tko, if_pos (by simp only [List.length_cons]; omega), if_neg (by omega), if_neg (by omega)] at this
        exact this
      have gold : ∀ j, j < ρ.length → (runV env so O V (i + 1)).1 j = (runV env so O V i).1 j := fun j hj => by
        rw [gs j, hlen, tko, if_neg (by simp only [List.length_cons]; omega)]
      have hcn := cn_le ρ
      simp only [List.length_cons] at hlen
      obtain ⟨r1, q1, r0⟩ := hR

      rcases q1 with hz | hz
      · have en : clp (rawV so o ((runV env so O V i).1 ρ.length) ((runV env so O V i).1 (ρ.length + 1)) ((runV env so O V i).1 (ρ.length + 2))) = 1 := by
          rw [hk, show rawV so 20 ((runV env so O V i).1 ρ.length) ((runV env so O V i).1 (ρ.length + 1)) ((runV env so O V i).1 (ρ.length + 2)) = tb (((runV env so O V i).1 ρ.length) = 0) from rfl, tb_t hz]
          rfl
        rw [en] at gnew
        obtain ⟨h3, f3, K⟩ := ih (i + 1) (sI h1 496 (cnT ρ) 1) (some (.int (nI o))) (some (.int (nI v))) (by omega) (f1.sI) (by rw [et']; exact ⟨by rw [pI_sI, if_pos rfl, if_pos rfl, gnew]; rfl, (by rw [gnew]; exact Or.inr rfl), RS.cg ρ r0 (fun j hj => rfl) (fun j hj => by rw [pI_sI, if_pos rfl, if_neg (by omega)]) (fun j hj => gold j (by omega))⟩)
        refine ⟨h3, f3, fun N S Q hN hS hQ => ?_⟩
        have hN1 : pn h1 ≤ N := by rw [f1.1.n]; exact hN
        have hS1 : ps h1 ≤ S := by rw [f1.1.s]; exact hS
        have K := K N S Q hN hS hQ
        rw [et'] at K
        rw [et]
        refine z_iload dX9_summedUp_40 rfl ?_
        refine z_aload_n dX9_summedUp_42 rfl rfl ?_
        refine y_getR FX9_16 dX9_summedUp_43 rfl hm.o hm.f_texts ?_
        refine z_iload_n dX9_summedUp_46 rfl rfl ?_
        refine z_iconst (v := 2) dX9_summedUp_47 (by decide) ?_
        refine z_iadd dX9_summedUp_48 ?_
        refine y_ialN (753 * t + 1 + 6 * k + 2) dX9_summedUp_49 hm.A_texts (Nat.le_of_ble_eq_true rfl) (by first | rfl | (simp only [← nI_add, ← pk_mul]; rfl)) (by omega) ?_
        refine z_eqi (show _ = nI (lo + m) by rw [f1.2.1 491 (by omega)]; exact c2) ?_
        refine z_icmp_ge dX9_summedUp_50 rfl (fun c => absurd c (fun q => absurd ((nI_leI (by omega) (by omega)).mp q) (by omega))) (fun _ => ?_)
        refine z_aload_n dX9_summedUp_53 rfl rfl ?_
        refine y_getR FX9_16 dX9_summedUp_54 rfl hm.o hm.f_texts ?_
        refine z_iload dX9_summedUp_57 rfl ?_
        refine z_iconst (v := 2) dX9_summedUp_59 (by decide) ?_
        refine z_iload dX9_summedUp_60 rfl ?_
        refine z_imul dX9_summedUp_62 ?_
        refine z_iadd dX9_summedUp_63 ?_
        refine y_ialN (753 * t + 145 + 2 * (lo + i)) dX9_summedUp_64 hm.A_texts (Nat.le_of_ble_eq_true rfl) (by first | rfl | (simp only [← nI_add, ← pk_mul]; rfl)) (by omega) ?_
        refine z_eqi (show _ = nI o by rw [f1.2.1 491 (by omega), ← eo]; exact (c3 i hi1).1) ?_
        refine z_istore dX9_summedUp_65 (Nat.le_of_ble_eq_true rfl) ?_
        refine z_aload_n dX9_summedUp_67 rfl rfl ?_
        refine y_getR FX9_16 dX9_summedUp_68 rfl hm.o hm.f_texts ?_
        refine z_iload dX9_summedUp_71 rfl ?_
        refine z_iconst (v := 2) dX9_summedUp_73 (by decide) ?_
        refine z_iload dX9_summedUp_74 rfl ?_
        refine z_imul dX9_summedUp_76 ?_
        refine z_iadd dX9_summedUp_77 ?_
        refine z_iconst (v := 1) dX9_summedUp_78 (by decide) ?_
        refine z_iadd dX9_summedUp_79 ?_
        refine y_ialN (753 * t + 145 + 2 * (lo + i) + 1) dX9_summedUp_80 hm.A_texts (Nat.le_of_ble_eq_true rfl) (by first | rfl | (simp only [← nI_add, ← pk_mul]; rfl)) (by omega) ?_
        refine z_eqi (show _ = nI v by rw [f1.2.1 491 (by omega), ← ev]; exact (c3 i hi1).2.1) ?_
        refine z_istore dX9_summedUp_81 (Nat.le_of_ble_eq_true rfl) ?_
        refine z_iload dX9_summedUp_83 rfl ?_
        refine z_iconst (v := 1) dX9_summedUp_85 (by decide) ?_
        refine z_icmp_gt dX9_summedUp_86 rfl (fun _ => ?_) (fun c => absurd ((nI_ltI (a := 1) (by omega) (by omega)).mpr (by omega)) c)
        refine z_iload dX9_summedUp_121 rfl ?_
        refine z_iconst (v := 3) dX9_summedUp_123 (by decide) ?_
        refine z_icmp_ne dX9_summedUp_124 rfl (fun _ => ?_) (fun c => absurd c (fun q => absurd ((nI_eq (b := 3) (by omega) (by omega)).mp q) (by omega)))
        refine z_iload dX9_summedUp_162 rfl ?_
        refine z_iconst (v := 5) dX9_summedUp_164 (by decide) ?_
        refine z_icmp_eq dX9_summedUp_165 rfl (fun c => absurd c (fun q => absurd ((nI_eq (b := 5) (by omega) (by omega)).mp q) (by omega))) (fun _ => ?_)
        refine z_iload dX9_summedUp_168 rfl ?_
        refine z_iconst (v := 2) dX9_summedUp_170 (by decide) ?_
        refine z_icmp_ne dX9_summedUp_171 rfl (fun _ => ?_) (fun c => absurd c (fun q => absurd ((nI_eq (b := 2) (by omega) (by omega)).mp q) (by omega)))
        refine z_iload dX9_summedUp_218 rfl ?_
        refine z_bipush (v := 10) dX9_summedUp_220 (by decide) ?_
        refine z_icmp_ge dX9_summedUp_222 rfl (fun _ => ?_) (fun c => absurd ((nI_leI (a := 10) (by omega) (by omega)).mpr (by omega)) c)
        refine z_iload dX9_summedUp_289 rfl ?_
        refine z_bipush (v := 20) dX9_summedUp_291 (by decide) ?_
        refine z_icmp_ge dX9_summedUp_293 rfl (fun _ => ?_) (fun c => absurd ((nI_leI (a := 20) (by omega) (by omega)).mpr (by omega)) c)
        refine z_iload dX9_summedUp_333 rfl ?_
        refine z_bipush (v := 20) dX9_summedUp_335 (by decide) ?_
        refine z_icmp_ne dX9_summedUp_337 rfl (fun c => absurd (congrArg nI (show o = 20 by omega)) c) (fun _ => ?_)
        refine z_aload_n dX9_summedUp_340 rfl rfl ?_
        refine y_getR FX9_39 dX9_summedUp_341 rfl hm.o hm.f_truth ?_
        refine z_iload dX9_summedUp_344 rfl ?_
        refine z_iconst (v := 1) dX9_summedUp_346 (by decide) ?_
        refine z_isub dX9_summedUp_347 ?_
        refine z_eqi (show nI (cnT ρ + 1) - nI 1 = _ from pk_sub (by omega)) ?_
        refine z_aload_n dX9_summedUp_348 rfl rfl ?_
        refine y_getR FX9_39 dX9_summedUp_349 rfl hm.o hm.f_truth ?_
        refine z_iload dX9_summedUp_352 rfl ?_
        refine z_iconst (v := 1) dX9_summedUp_354 (by decide) ?_
        refine z_isub dX9_summedUp_355 ?_
        refine z_eqi (show nI (cnT ρ + 1) - nI 1 = _ from pk_sub (by omega)) ?_
        refine y_zalN (cnT ρ) dX9_summedUp_356 (by exact hm.A_truth) (Nat.le_of_ble_eq_true rfl) rfl (by omega) ?_
        refine z_eqi (show _ = iI ((runV env so O V i).1 ρ.length) from r1) ?_
        refine z_if_ne dX9_summedUp_357 rfl (fun c => absurd (by rw [hz]; rfl) c) (fun _ => ?_)
        refine z_iconst (v := 1) dX9_summedUp_360 (by decide) ?_
        refine z_goto dX9_summedUp_361 rfl ?_
        refine y_zasN (cnT ρ) dX9_summedUp_365 (by exact hm.A_truth) (Nat.le_of_ble_eq_true rfl) rfl (by omega) (by decide) ?_
        refine z_goto dX9_summedUp_366 rfl ?_
        refine z_iinc dX9_summedUp_402 rfl (nI_1 _) (Nat.le_of_ble_eq_true rfl) ?_
        refine z_goto dX9_summedUp_405 rfl ?_
        exact K

      · have en : clp (rawV so o ((runV env so O V i).1 ρ.length) ((runV env so O V i).1 (ρ.length + 1)) ((runV env so O V i).1 (ρ.length + 2))) = 0 := by
          rw [hk, show rawV so 20 ((runV env so O V i).1 ρ.length) ((runV env so O V i).1 (ρ.length + 1)) ((runV env so O V i).1 (ρ.length + 2)) = tb (((runV env so O V i).1 ρ.length) = 0) from rfl, tb_f (by rw [hz]; omega)]
          rfl
        rw [en] at gnew
        obtain ⟨h3, f3, K⟩ := ih (i + 1) (sI h1 496 (cnT ρ) 0) (some (.int (nI o))) (some (.int (nI v))) (by omega) (f1.sI) (by rw [et']; exact ⟨by rw [pI_sI, if_pos rfl, if_pos rfl, gnew]; rfl, (by rw [gnew]; exact Or.inl rfl), RS.cg ρ r0 (fun j hj => rfl) (fun j hj => by rw [pI_sI, if_pos rfl, if_neg (by omega)]) (fun j hj => gold j (by omega))⟩)
        refine ⟨h3, f3, fun N S Q hN hS hQ => ?_⟩
        have hN1 : pn h1 ≤ N := by rw [f1.1.n]; exact hN
        have hS1 : ps h1 ≤ S := by rw [f1.1.s]; exact hS
        have K := K N S Q hN hS hQ
        rw [et'] at K
        rw [et]
        refine z_iload dX9_summedUp_40 rfl ?_
        refine z_aload_n dX9_summedUp_42 rfl rfl ?_
        refine y_getR FX9_16 dX9_summedUp_43 rfl hm.o hm.f_texts ?_
        refine z_iload_n dX9_summedUp_46 rfl rfl ?_
        refine z_iconst (v := 2) dX9_summedUp_47 (by decide) ?_
        refine z_iadd dX9_summedUp_48 ?_
        refine y_ialN (753 * t + 1 + 6 * k + 2) dX9_summedUp_49 hm.A_texts (Nat.le_of_ble_eq_true rfl) (by first | rfl | (simp only [← nI_add, ← pk_mul]; rfl)) (by omega) ?_
        refine z_eqi (show _ = nI (lo + m) by rw [f1.2.1 491 (by omega)]; exact c2) ?_
        refine z_icmp_ge dX9_summedUp_50 rfl (fun c => absurd c (fun q => absurd ((nI_leI (by omega) (by omega)).mp q) (by omega))) (fun _ => ?_)
        refine z_aload_n dX9_summedUp_53 rfl rfl ?_
        refine y_getR FX9_16 dX9_summedUp_54 rfl hm.o hm.f_texts ?_
        refine z_iload dX9_summedUp_57 rfl ?_
        refine z_iconst (v := 2) dX9_summedUp_59 (by decide) ?_
        refine z_iload dX9_summedUp_60 rfl ?_
        refine z_imul dX9_summedUp_62 ?_
        refine z_iadd dX9_summedUp_63 ?_
        refine y_ialN (753 * t + 145 + 2 * (lo + i)) dX9_summedUp_64 hm.A_texts (Nat.le_of_ble_eq_true rfl) (by first | rfl | (simp only [← nI_add, ← pk_mul]; rfl)) (by omega) ?_
        refine z_eqi (show _ = nI o by rw [f1.2.1 491 (by omega), ← eo]; exact (c3 i hi1).1) ?_
        refine z_istore dX9_summedUp_65 (Nat.le_of_ble_eq_true rfl) ?_
        refine z_aload_n dX9_summedUp_67 rfl rfl ?_
        refine y_getR FX9_16 dX9_summedUp_68 rfl hm.o hm.f_texts ?_
        refine z_iload dX9_summedUp_71 rfl ?_
        refine z_iconst (v := 2) dX9_summedUp_73 (by decide) ?_
        refine z_iload dX9_summedUp_74 rfl ?_
        refine z_imul dX9_summedUp_76 ?_
        refine z_iadd dX9_summedUp_77 ?_
        refine z_iconst (v := 1) dX9_summedUp_78 (by decide) ?_
        refine z_iadd dX9_summedUp_79 ?_
        refine y_ialN (753 * t + 145 + 2 * (lo + i) + 1) dX9_summedUp_80 hm.A_texts (Nat.le_of_ble_eq_true rfl) (by first | rfl | (simp only [← nI_add, ← pk_mul]; rfl)) (by omega) ?_
        refine z_eqi (show _ = nI v by rw [f1.2.1 491 (by omega), ← ev]; exact (c3 i hi1).2.1) ?_
        refine z_istore dX9_summedUp_81 (Nat.le_of_ble_eq_true rfl) ?_
        refine z_iload dX9_summedUp_83 rfl ?_
        refine z_iconst (v := 1) dX9_summedUp_85 (by decide) ?_
        refine z_icmp_gt dX9_summedUp_86 rfl (fun _ => ?_) (fun c => absurd ((nI_ltI (a := 1) (by omega) (by omega)).mpr (by omega)) c)
        refine z_iload dX9_summedUp_121 rfl ?_
        refine z_iconst (v := 3) dX9_summedUp_123 (by decide) ?_
        refine z_icmp_ne dX9_summedUp_124 rfl (fun _ => ?_) (fun c => absurd c (fun q => absurd ((nI_eq (b := 3) (by omega) (by omega)).mp q) (by omega)))
        refine z_iload dX9_summedUp_162 rfl ?_
        refine z_iconst (v := 5) dX9_summedUp_164 (by decide) ?_
        refine z_icmp_eq dX9_summedUp_165 rfl (fun c => absurd c (fun q => absurd ((nI_eq (b := 5) (by omega) (by omega)).mp q) (by omega))) (fun _ => ?_)
        refine z_iload dX9_summedUp_168 rfl ?_
        refine z_iconst (v := 2) dX9_summedUp_170 (by decide) ?_
        refine z_icmp_ne dX9_summedUp_171 rfl (fun _ => ?_) (fun c => absurd c (fun q => absurd ((nI_eq (b := 2) (by omega) (by omega)).mp q) (by omega)))
        refine z_iload dX9_summedUp_218 rfl ?_
        refine z_bipush (v := 10) dX9_summedUp_220 (by decide) ?_
        refine z_icmp_ge dX9_summedUp_222 rfl (fun _ => ?_) (fun c => absurd ((nI_leI (a := 10) (by omega) (by omega)).mpr (by omega)) c)
        refine z_iload dX9_summedUp_289 rfl ?_
        refine z_bipush (v := 20) dX9_summedUp_291 (by decide) ?_
        refine z_icmp_ge dX9_summedUp_293 rfl (fun _ => ?_) (fun c => absurd ((nI_leI (a := 20) (by omega) (by omega)).mpr (by omega)) c)
        refine z_iload dX9_summedUp_333 rfl ?_
        refine z_bipush (v := 20) dX9_summedUp_335 (by decide) ?_
        refine z_icmp_ne dX9_summedUp_337 rfl (fun c => absurd (congrArg nI (show o = 20 by omega)) c) (fun _ => ?_)
        refine z_aload_n dX9_summedUp_340 rfl rfl ?_
        refine y_getR FX9_39 dX9_summedUp_341 rfl hm.o hm.f_truth ?_
        refine z_iload dX9_summedUp_344 rfl ?_
        refine z_iconst (v := 1) dX9_summedUp_346 (by decide) ?_
        refine z_isub dX9_summedUp_347 ?_
        refine z_eqi (show nI (cnT ρ + 1) - nI 1 = _ from pk_sub (by omega)) ?_
        refine z_aload_n dX9_summedUp_348 rfl rfl ?_
        refine y_getR FX9_39 dX9_summedUp_349 rfl hm.o hm.f_truth ?_
        refine z_iload dX9_summedUp_352 rfl ?_
        refine z_iconst (v := 1) dX9_summedUp_354 (by decide) ?_
        refine z_isub dX9_summedUp_355 ?_
        refine z_eqi (show nI (cnT ρ + 1) - nI 1 = _ from pk_sub (by omega)) ?_
        refine y_zalN (cnT ρ) dX9_summedUp_356 (by exact hm.A_truth) (Nat.le_of_ble_eq_true rfl) rfl (by omega) ?_
        refine z_eqi (show _ = iI ((runV env so O V i).1 ρ.length) from r1) ?_
        refine z_if_ne dX9_summedUp_357 rfl (fun _ => ?_) (fun c => absurd c (by rw [hz]; decide))
        refine z_iconst (v := 0) dX9_summedUp_364 (by decide) ?_
        refine y_zasN (cnT ρ) dX9_summedUp_365 (by exact hm.A_truth) (Nat.le_of_ble_eq_true rfl) rfl (by omega) (by decide) ?_
        refine z_goto dX9_summedUp_366 rfl ?_
        refine z_iinc dX9_summedUp_402 rfl (nI_1 _) (Nat.le_of_ble_eq_true rfl) ?_
        refine z_goto dX9_summedUp_405 rfl ?_
        exact K

    · skip
      have et : ty i = true :: true :: ρ := et
      rw [et] at hR hlen
      have tko : tkO o = 2 := by unfold tkO; rw [if_neg (by omega), if_neg (by omega), if_neg (by omega)]
      have gnew : (runV env so O V (i + 1)).1 ρ.length = clp (rawV so o ((runV env so O V i).1 ρ.length) ((runV env so O V i).1 (ρ.length + 1)) ((runV env so O V i).1 (ρ.length + 2))) := by
        have := gs ρ.length
        rw [hlen, tko, if_pos (by simp only [List.length_cons]; omega), if_neg (by omega), if_neg (by omega)] at this
        exact this
      have gold : ∀ j, j < ρ.length → (runV env so O V (i + 1)).1 j = (runV env so O V i).1 j := fun j hj => by
        rw [gs j, hlen, tko, if_neg (by simp only [List.length_cons]; omega)]
      have hcn := cn_le ρ
      simp only [List.length_cons] at hlen
      obtain ⟨r1, q1, r2, q2, r0⟩ := hR
      have z01 := raw01 (so := so) (x := ((runV env so O V i).1 ρ.length)) (y := ((runV env so O V i).1 (ρ.length + 1))) (z := ((runV env so O V i).1 (ρ.length + 2))) (show 10 ≤ o by omega)
      have v01 : iI (clp (rawV so o ((runV env so O V i).1 ρ.length) ((runV env so O V i).1 (ρ.length + 1)) ((runV env so O V i).1 (ρ.length + 2)))) = 0 ∨ iI (clp (rawV so o ((runV env so O V i).1 ρ.length) ((runV env so O V i).1 (ρ.length + 1)) ((runV env so O V i).1 (ρ.length + 2)))) = 1 := by rcases z01 with q | q <;> rw [q] <;> decide

      obtain ⟨h3, f3, K⟩ := ih (i + 1) (sI h1 496 (cnT ρ) (iI (clp (rawV so o ((runV env so O V i).1 ρ.length) ((runV env so O V i).1 (ρ.length + 1)) ((runV env so O V i).1 (ρ.length + 2)))))) (some (.int (nI o))) (some (.int (nI v))) (by omega) (f1.sI) (by rw [et']; exact ⟨by rw [pI_sI, if_pos rfl, if_pos rfl, gnew], (by rw [gnew]; exact z01), RS.cg ρ r0 (fun j hj => rfl) (fun j hj => by rw [pI_sI, if_pos rfl, if_neg (by omega)]) (fun j hj => gold j (by omega))⟩)
      refine ⟨h3, f3, fun N S Q hN hS hQ => ?_⟩
      have hN1 : pn h1 ≤ N := by rw [f1.1.n]; exact hN
      have hS1 : ps h1 ≤ S := by rw [f1.1.s]; exact hS
      have K := K N S Q hN hS hQ
      rw [et'] at K
      rw [et]
      refine z_iload dX9_summedUp_40 rfl ?_
      refine z_aload_n dX9_summedUp_42 rfl rfl ?_
      refine y_getR FX9_16 dX9_summedUp_43 rfl hm.o hm.f_texts ?_
      refine z_iload_n dX9_summedUp_46 rfl rfl ?_
      refine z_iconst (v := 2) dX9_summedUp_47 (by decide) ?_
      refine z_iadd dX9_summedUp_48 ?_
      refine y_ialN (753 * t + 1 + 6 * k + 2) dX9_summedUp_49 hm.A_texts (Nat.le_of_ble_eq_true rfl) (by first | rfl | (simp only [← nI_add, ← pk_mul]; rfl)) (by omega) ?_
      refine z_eqi (show _ = nI (lo + m) by rw [f1.2.1 491 (by omega)]; exact c2) ?_
      refine z_icmp_ge dX9_summedUp_50 rfl (fun c => absurd c (fun q => absurd ((nI_leI (by omega) (by omega)).mp q) (by omega))) (fun _ => ?_)
      refine z_aload_n dX9_summedUp_53 rfl rfl ?_
      refine y_getR FX9_16 dX9_summedUp_54 rfl hm.o hm.f_texts ?_
      refine z_iload dX9_summedUp_57 rfl ?_
      refine z_iconst (v := 2) dX9_summedUp_59 (by decide) ?_
      refine z_iload dX9_summedUp_60 rfl ?_
      refine z_imul dX9_summedUp_62 ?_
      refine z_iadd dX9_summedUp_63 ?_
      refine y_ialN (753 * t + 145 + 2 * (lo + i)) dX9_summedUp_64 hm.A_texts (Nat.le_of_ble_eq_true rfl) (by first | rfl | (simp only [← nI_add, ← pk_mul]; rfl)) (by omega) ?_
      refine z_eqi (show _ = nI o by rw [f1.2.1 491 (by omega), ← eo]; exact (c3 i hi1).1) ?_
      refine z_istore dX9_summedUp_65 (Nat.le_of_ble_eq_true rfl) ?_
      refine z_aload_n dX9_summedUp_67 rfl rfl ?_
      refine y_getR FX9_16 dX9_summedUp_68 rfl hm.o hm.f_texts ?_
      refine z_iload dX9_summedUp_71 rfl ?_
      refine z_iconst (v := 2) dX9_summedUp_73 (by decide) ?_
      refine z_iload dX9_summedUp_74 rfl ?_
      refine z_imul dX9_summedUp_76 ?_
      refine z_iadd dX9_summedUp_77 ?_
      refine z_iconst (v := 1) dX9_summedUp_78 (by decide) ?_
      refine z_iadd dX9_summedUp_79 ?_
      refine y_ialN (753 * t + 145 + 2 * (lo + i) + 1) dX9_summedUp_80 hm.A_texts (Nat.le_of_ble_eq_true rfl) (by first | rfl | (simp only [← nI_add, ← pk_mul]; rfl)) (by omega) ?_
      refine z_eqi (show _ = nI v by rw [f1.2.1 491 (by omega), ← ev]; exact (c3 i hi1).2.1) ?_
      refine z_istore dX9_summedUp_81 (Nat.le_of_ble_eq_true rfl) ?_
      refine z_iload dX9_summedUp_83 rfl ?_
      refine z_iconst (v := 1) dX9_summedUp_85 (by decide) ?_
      refine z_icmp_gt dX9_summedUp_86 rfl (fun _ => ?_) (fun c => absurd ((nI_ltI (a := 1) (by omega) (by omega)).mpr (by omega)) c)
      refine z_iload dX9_summedUp_121 rfl ?_
      refine z_iconst (v := 3) dX9_summedUp_123 (by decide) ?_
      refine z_icmp_ne dX9_summedUp_124 rfl (fun _ => ?_) (fun c => absurd c (fun q => absurd ((nI_eq (b := 3) (by omega) (by omega)).mp q) (by omega)))
      refine z_iload dX9_summedUp_162 rfl ?_
      refine z_iconst (v := 5) dX9_summedUp_164 (by decide) ?_
      refine z_icmp_eq dX9_summedUp_165 rfl (fun c => absurd c (fun q => absurd ((nI_eq (b := 5) (by omega) (by omega)).mp q) (by omega))) (fun _ => ?_)
      refine z_iload dX9_summedUp_168 rfl ?_
      refine z_iconst (v := 2) dX9_summedUp_170 (by decide) ?_
      refine z_icmp_ne dX9_summedUp_171 rfl (fun _ => ?_) (fun c => absurd c (fun q => absurd ((nI_eq (b := 2) (by omega) (by omega)).mp q) (by omega)))
      refine z_iload dX9_summedUp_218 rfl ?_
      refine z_bipush (v := 10) dX9_summedUp_220 (by decide) ?_
      refine z_icmp_ge dX9_summedUp_222 rfl (fun _ => ?_) (fun c => absurd ((nI_leI (a := 10) (by omega) (by omega)).mpr (by omega)) c)
      refine z_iload dX9_summedUp_289 rfl ?_
      refine z_bipush (v := 20) dX9_summedUp_291 (by decide) ?_
      refine z_icmp_ge dX9_summedUp_293 rfl (fun _ => ?_) (fun c => absurd ((nI_leI (a := 20) (by omega) (by omega)).mpr (by omega)) c)
      refine z_iload dX9_summedUp_333 rfl ?_
      refine z_bipush (v := 20) dX9_summedUp_335 (by decide) ?_
      refine z_icmp_ne dX9_summedUp_337 rfl (fun _ => ?_) (fun c => absurd c (fun q => absurd ((nI_eq (b := 20) (by omega) (by omega)).mp q) (by omega)))
      refine z_iinc dX9_summedUp_369 rfl (nI_m1 (cnT ρ + 1)) (Nat.le_of_ble_eq_true rfl) ?_
      refine z_aload_n dX9_summedUp_372 rfl rfl ?_
      refine y_getR FX9_39 dX9_summedUp_373 rfl hm.o hm.f_truth ?_
      refine z_iload dX9_summedUp_376 rfl ?_
      refine z_iconst (v := 1) dX9_summedUp_378 (by decide) ?_
      refine z_isub dX9_summedUp_379 ?_
      refine z_eqi (show nI (cnT ρ + 1) - nI 1 = _ from pk_sub (by omega)) ?_
      refine z_iload dX9_summedUp_380 rfl ?_
      refine z_aload_n dX9_summedUp_382 rfl rfl ?_
      refine y_getR FX9_39 dX9_summedUp_383 rfl hm.o hm.f_truth ?_
      refine z_iload dX9_summedUp_386 rfl ?_
      refine z_iconst (v := 1) dX9_summedUp_388 (by decide) ?_
      refine z_isub dX9_summedUp_389 ?_
      refine z_eqi (show nI (cnT ρ + 1) - nI 1 = _ from pk_sub (by omega)) ?_
      refine y_zalN (cnT ρ) dX9_summedUp_390 (by exact hm.A_truth) (Nat.le_of_ble_eq_true rfl) rfl (by omega) ?_
      refine z_eqi (show _ = iI ((runV env so O V i).1 ρ.length) from r2) ?_
      refine z_aload_n dX9_summedUp_391 rfl rfl ?_
      refine y_getR FX9_39 dX9_summedUp_392 rfl hm.o hm.f_truth ?_
      refine z_iload dX9_summedUp_395 rfl ?_
      refine y_zalN (cnT ρ + 1) dX9_summedUp_397 (by exact hm.A_truth) (Nat.le_of_ble_eq_true rfl) rfl (by omega) ?_
      refine z_eqi (show _ = iI ((runV env so O V i).1 (ρ.length + 1)) from r1) ?_
      refine y_callS (as := [_, _, _]) CX9_joined LX9_299 SX9_joined dX9_summedUp_398 rfl (Nat.le_of_ble_eq_true rfl) (Nat.le_of_ble_eq_true rfl) (by omega) (r_joined (so := so) (z := ((runV env so O V i).1 (ρ.length + 2))) q2 q1 (by omega)) (rok_z v01) ⟨Nat.le_refl _, Nat.le_refl _, hN1, hS1⟩ ?_
      refine y_zasN (cnT ρ) dX9_summedUp_401 (by exact hm.A_truth) (Nat.le_of_ble_eq_true rfl) rfl (by omega) (v01) ?_
      refine z_iinc dX9_summedUp_402 rfl (nI_1 _) (Nat.le_of_ble_eq_true rfl) ?_
      refine z_goto dX9_summedUp_405 rfl ?_
      exact K


