/-! the reference takes a step back (walks by program: wip/whole/gen40.py) -/
theorem r_undo_l1 {h : Hp} {f : Nat → Int32} {d N S x : Nat} {Q : Option Value → Hp → Prop} (hm : SM h) {z : Option Value} (hx : 190 ≤ x) (hx2 : x + 153 ≤ 4810) (K : T d N S mX9_undo 68 [some (.ref 488), some (.int (nI x)), some (.int (nI (5))), z] [] (sA h 489 (cpG f 8 (x + 1) 5)) Q) : ∀ r i : Nat, i + r = 5 → T d N S mX9_undo 38 [some (.ref 488), some (.int (nI x)), some (.int (nI (i))), z] [] (sA h 489 (cpG f 8 (x + 1) i)) Q := by
  intro r
  induction r with
  | zero =>
    intro i hi
    have e : i = 5 := by omega
    rw [e]
    refine z_iload_n dX9_undo_38 rfl rfl ?_
    refine z_iconst (v := 5) dX9_undo_39 (by decide) ?_
    refine z_icmp_ge dX9_undo_40 rfl (fun _ => ?_) (fun c => absurd ((nI_leI (by omega) (by omega)).mpr (Nat.le_refl 5)) c)
    exact K
  | succ r ih =>
    intro i hi
    refine z_iload_n dX9_undo_38 rfl rfl ?_
    refine z_iconst (v := 5) dX9_undo_39 (by decide) ?_
    refine z_icmp_ge dX9_undo_40 rfl (fun c => absurd c (fun q => absurd ((nI_leI (a := 5) (by omega) (by omega)).mp q) (by omega))) (fun _ => ?_)
    refine z_aload_n dX9_undo_43 rfl rfl ?_
    refine y_getR FX9_7 dX9_undo_44 rfl hm.o hm.f_a ?_
    refine z_bipush (v := 8) dX9_undo_47 (by decide) ?_
    refine z_iload_n dX9_undo_49 rfl rfl ?_
    refine z_iadd dX9_undo_50 ?_
    refine z_aload_n dX9_undo_51 rfl rfl ?_
    refine y_getR FX9_7 dX9_undo_52 rfl hm.o hm.f_a ?_
    refine z_iload_n dX9_undo_55 rfl rfl ?_
    refine z_iconst (v := 1) dX9_undo_56 (by decide) ?_
    refine z_iadd dX9_undo_57 ?_
    refine z_iload_n dX9_undo_58 rfl rfl ?_
    refine z_iadd dX9_undo_59 ?_
    refine y_ialN (x + 1 + i) dX9_undo_60 hm.A_a (Nat.le_of_ble_eq_true rfl) (by first | rfl | (simp only [← nI_add, ← pk_mul]; rfl)) (by omega) ?_
    refine z_eqi (show _ = f ((x + 1) + i) by rw [pI_sA_s]; exact cpG_rd (by omega)) ?_
    refine y_iasN (8 + i) dX9_undo_61 hm.A_a (Nat.le_of_ble_eq_true rfl) (by first | rfl | (simp only [← nI_add, ← pk_mul]; rfl)) (by omega) ?_
    refine z_iinc dX9_undo_62 rfl (nI_1 _) (Nat.le_of_ble_eq_true rfl) ?_
    refine z_goto dX9_undo_65 rfl ?_
    rw [cp_step]
    exact ih (i + 1) (by omega)

theorem r_undo_l3 {h : Hp} {f : Nat → Int32} {d N S x : Nat} {Q : Option Value → Hp → Prop} (hm : SM h) {z : Option Value} (hx : 190 ≤ x) (hx2 : x + 153 ≤ 4810) (K : T d N S mX9_undo 179 [some (.ref 488), some (.int (nI x)), some (.int (nI (72))), z] [] (sA h 489 (cpG f 38 (x + 21) 72)) Q) : ∀ r i : Nat, i + r = 72 → T d N S mX9_undo 147 [some (.ref 488), some (.int (nI x)), some (.int (nI (i))), z] [] (sA h 489 (cpG f 38 (x + 21) i)) Q := by
  intro r
  induction r with
  | zero =>
    intro i hi
    have e : i = 72 := by omega
    rw [e]
    refine z_iload_n dX9_undo_147 rfl rfl ?_
    refine z_bipush (v := 72) dX9_undo_148 (by decide) ?_
    refine z_icmp_ge dX9_undo_150 rfl (fun _ => ?_) (fun c => absurd ((nI_leI (by omega) (by omega)).mpr (Nat.le_refl 72)) c)
    exact K
  | succ r ih =>
    intro i hi
    refine z_iload_n dX9_undo_147 rfl rfl ?_
    refine z_bipush (v := 72) dX9_undo_148 (by decide) ?_
    refine z_icmp_ge dX9_undo_150 rfl (fun c => absurd c (fun q => absurd ((nI_leI (a := 72) (by omega) (by omega)).mp q) (by omega))) (fun _ => ?_)
    refine z_aload_n dX9_undo_153 rfl rfl ?_
    refine y_getR FX9_7 dX9_undo_154 rfl hm.o hm.f_a ?_
    refine z_bipush (v := 38) dX9_undo_157 (by decide) ?_
    refine z_iload_n dX9_undo_159 rfl rfl ?_
    refine z_iadd dX9_undo_160 ?_
    refine z_aload_n dX9_undo_161 rfl rfl ?_
    refine y_getR FX9_7 dX9_undo_162 rfl hm.o hm.f_a ?_
    refine z_iload_n dX9_undo_165 rfl rfl ?_
    refine z_bipush (v := 21) dX9_undo_166 (by decide) ?_
    refine z_iadd dX9_undo_168 ?_
    refine z_iload_n dX9_undo_169 rfl rfl ?_
    refine z_iadd dX9_undo_170 ?_
    refine y_ialN (x + 21 + i) dX9_undo_171 hm.A_a (Nat.le_of_ble_eq_true rfl) (by first | rfl | (simp only [← nI_add, ← pk_mul]; rfl)) (by omega) ?_
    refine z_eqi (show _ = f ((x + 21) + i) by rw [pI_sA_s]; exact cpG_rd (by omega)) ?_
    refine y_iasN (38 + i) dX9_undo_172 hm.A_a (Nat.le_of_ble_eq_true rfl) (by first | rfl | (simp only [← nI_add, ← pk_mul]; rfl)) (by omega) ?_
    refine z_iinc dX9_undo_173 rfl (nI_1 _) (Nat.le_of_ble_eq_true rfl) ?_
    refine z_goto dX9_undo_176 rfl ?_
    rw [cp_step]
    exact ih (i + 1) (by omega)

theorem r_undo_l4 {h : Hp} {f : Nat → Int32} {d N S x : Nat} {Q : Option Value → Hp → Prop} (hm : SM h) {z : Option Value} (hx : 190 ≤ x) (hx2 : x + 153 ≤ 4810) (K : T d N S mX9_undo 214 [some (.ref 488), some (.int (nI x)), some (.int (nI (60))), z] [] (sA h 489 (cpG f 4810 (x + 93) 60)) Q) : ∀ r i : Nat, i + r = 60 → T d N S mX9_undo 181 [some (.ref 488), some (.int (nI x)), some (.int (nI (i))), z] [] (sA h 489 (cpG f 4810 (x + 93) i)) Q := by
  intro r
  induction r with
  | zero =>
    intro i hi
    have e : i = 60 := by omega
    rw [e]
    refine z_iload_n dX9_undo_181 rfl rfl ?_
    refine z_bipush (v := 60) dX9_undo_182 (by decide) ?_
    refine z_icmp_ge dX9_undo_184 rfl (fun _ => ?_) (fun c => absurd ((nI_leI (by omega) (by omega)).mpr (Nat.le_refl 60)) c)
    exact K
  | succ r ih =>
    intro i hi
    refine z_iload_n dX9_undo_181 rfl rfl ?_
    refine z_bipush (v := 60) dX9_undo_182 (by decide) ?_
    refine z_icmp_ge dX9_undo_184 rfl (fun c => absurd c (fun q => absurd ((nI_leI (a := 60) (by omega) (by omega)).mp q) (by omega))) (fun _ => ?_)
    refine z_aload_n dX9_undo_187 rfl rfl ?_
    refine y_getR FX9_7 dX9_undo_188 rfl hm.o hm.f_a ?_
    refine z_sipush (v := 4810) dX9_undo_191 (by decide) ?_
    refine z_iload_n dX9_undo_194 rfl rfl ?_
    refine z_iadd dX9_undo_195 ?_
    refine z_aload_n dX9_undo_196 rfl rfl ?_
    refine y_getR FX9_7 dX9_undo_197 rfl hm.o hm.f_a ?_
    refine z_iload_n dX9_undo_200 rfl rfl ?_
    refine z_bipush (v := 93) dX9_undo_201 (by decide) ?_
    refine z_iadd dX9_undo_203 ?_
    refine z_iload_n dX9_undo_204 rfl rfl ?_
    refine z_iadd dX9_undo_205 ?_
    refine y_ialN (x + 93 + i) dX9_undo_206 hm.A_a (Nat.le_of_ble_eq_true rfl) (by first | rfl | (simp only [← nI_add, ← pk_mul]; rfl)) (by omega) ?_
    refine z_eqi (show _ = f ((x + 93) + i) by rw [pI_sA_s]; exact cpG_rd (by omega)) ?_
    refine y_iasN (4810 + i) dX9_undo_207 hm.A_a (Nat.le_of_ble_eq_true rfl) (by first | rfl | (simp only [← nI_add, ← pk_mul]; rfl)) (by omega) ?_
    refine z_iinc dX9_undo_208 rfl (nI_1 _) (Nat.le_of_ble_eq_true rfl) ?_
    refine z_goto dX9_undo_211 rfl ?_
    rw [cp_step]
    exact ih (i + 1) (by omega)

/-- the first n prophets as the step at x has them; those that it does not know as told -/
def unP {α : Type} (e : α) (f : Nat → α) (x v0 n : Nat) : Nat → α := fun j => if 13 ≤ j ∧ j < 13 + 5 * n ∧ (j - 13) % 5 < 3 then (if (j - 13) / 5 < v0 then f (x + 6 + 3 * ((j - 13) / 5) + (j - 13) % 5) else if (j - 13) % 5 = 2 then e else f (j + 3)) else f j
theorem unP_0 {α : Type} {e : α} {f : Nat → α} {x v0 : Nat} : unP e f x v0 0 = f := by
  funext j
  unfold unP
  rw [if_neg (by omega)]
theorem unP_out {α : Type} {e : α} {f : Nat → α} {x v0 n j : Nat} (h : ¬ (13 ≤ j ∧ j < 13 + 5 * n ∧ (j - 13) % 5 < 3)) : unP e f x v0 n j = f j := if_neg h
theorem unP_s {e : Int32} {f : Nat → Int32} {x v0 i : Nat} (w0 w1 w2 : Int32) (h0 : w0 = if i < v0 then f (x + 6 + 3 * i + 0) else f (13 + 5 * i + 3)) (h1 : w1 = if i < v0 then f (x + 6 + 3 * i + 1) else f (13 + 5 * i + 4)) (h2 : w2 = if i < v0 then f (x + 6 + 3 * i + 2) else e) (j : Nat) : (if j = 13 + 5 * i + 2 then w2 else if j = 13 + 5 * i + 1 then w1 else if j = 13 + 5 * i + 0 then w0 else unP e f x v0 i j) = unP e f x v0 (i + 1) j := by
  unfold unP
  by_cases c2 : j = 13 + 5 * i + 2
  · rw [if_pos c2, if_pos (by omega), h2, show (j - 13) / 5 = i by omega, show (j - 13) % 5 = 2 by omega]
    rfl
  · rw [if_neg c2]
    by_cases c1 : j = 13 + 5 * i + 1
    · rw [if_pos c1, if_pos (by omega), h1, show (j - 13) / 5 = i by omega, show (j - 13) % 5 = 1 by omega, if_neg (show ¬ (1 : Nat) = 2 by omega), show j + 3 = 13 + 5 * i + 4 by omega]
    · rw [if_neg c1]
      by_cases c0 : j = 13 + 5 * i + 0
      · rw [if_pos c0, if_pos (by omega), h0, show (j - 13) / 5 = i by omega, show (j - 13) % 5 = 0 by omega, if_neg (show ¬ (0 : Nat) = 2 by omega), show j + 3 = 13 + 5 * i + 3 by omega]
      · rw [if_neg c0]
        by_cases hc : 13 ≤ j ∧ j < 13 + 5 * i ∧ (j - 13) % 5 < 3
        · rw [if_pos hc, if_pos (show 13 ≤ j ∧ j < 13 + 5 * (i + 1) ∧ (j - 13) % 5 < 3 by omega)]
        · rw [if_neg hc, if_neg (by omega)]
theorem unP_step {h : Hp} {e : Int32} {f : Nat → Int32} {x v0 i : Nat} {w0 w1 w2 : Int32} (h0 : w0 = if i < v0 then f (x + 6 + 3 * i + 0) else f (13 + 5 * i + 3)) (h1 : w1 = if i < v0 then f (x + 6 + 3 * i + 1) else f (13 + 5 * i + 4)) (h2 : w2 = if i < v0 then f (x + 6 + 3 * i + 2) else e) : sI (sI (sI (sA h 489 (unP e f x v0 i)) 489 (13 + 5 * i + 0) w0) 489 (13 + 5 * i + 1) w1) 489 (13 + 5 * i + 2) w2 = sA h 489 (unP e f x v0 (i + 1)) := by
  rw [sI_sA, sI_sA, sI_sA]
  exact sA_congr (unP_s w0 w1 w2 h0 h1 h2)

theorem r_undo_l2 {h : Hp} {f : Nat → Int32} {d N S x n v0 : Nat} {Q : Option Value → Hp → Prop} (hm : SM h) (hx : 190 ≤ x) (hx2 : x + 153 ≤ 4810) (e1 : f 1 = nI n) (hn : n ≤ 5) (ex : f x = nI v0) (hv0 : v0 ≤ 5) (hd : 2 ≤ d) (hN : pn h ≤ N) (hS : ps h ≤ S) (K : ∀ z : Option Value, T d N S mX9_undo 145 [some (.ref 488), some (.int (nI x)), some (.int (nI (n))), z] [] (sA h 489 (unP 0 f x v0 n)) Q) : ∀ r i : Nat, i + r = n → ∀ z : Option Value, T d N S mX9_undo 70 [some (.ref 488), some (.int (nI x)), some (.int (nI (i))), z] [] (sA h 489 (unP 0 f x v0 i)) Q := by
  intro r
  induction r with
  | zero =>
    intro i hi z
    have e : i = n := by omega
    rw [e]
    refine z_iload_n dX9_undo_70 rfl rfl ?_
    refine z_aload_n dX9_undo_71 rfl rfl ?_
    refine y_getR FX9_7 dX9_undo_72 rfl hm.o hm.f_a ?_
    refine z_iconst (v := 1) dX9_undo_75 (by decide) ?_
    refine y_ialN (1) dX9_undo_76 hm.A_a (Nat.le_of_ble_eq_true rfl) (rfl) (by omega) ?_
    refine z_eqi (show _ = nI n by (repeat rw [pI_sI, if_pos rfl, if_neg (by omega)]); rw [pI_sA_s]; exact (unP_out (by omega)).trans e1) ?_
    refine z_icmp_ge dX9_undo_77 rfl (fun _ => ?_) (fun c => absurd ((nI_leI (by omega) (by omega)).mpr (Nat.le_refl _)) c)
    exact K _
  | succ r ih =>
    intro i hi z
    by_cases hlt : i < v0
    · refine z_iload_n dX9_undo_70 rfl rfl ?_
      refine z_aload_n dX9_undo_71 rfl rfl ?_
      refine y_getR FX9_7 dX9_undo_72 rfl hm.o hm.f_a ?_
      refine z_iconst (v := 1) dX9_undo_75 (by decide) ?_
      refine y_ialN (1) dX9_undo_76 hm.A_a (Nat.le_of_ble_eq_true rfl) (rfl) (by omega) ?_
      refine z_eqi (show _ = nI n by (repeat rw [pI_sI, if_pos rfl, if_neg (by omega)]); rw [pI_sA_s]; exact (unP_out (by omega)).trans e1) ?_
      refine z_icmp_ge dX9_undo_77 rfl (fun c => absurd c (fun q => absurd ((nI_leI (by omega) (by omega)).mp q) (by omega))) (fun _ => ?_)
      refine z_iload_n dX9_undo_80 rfl rfl ?_
      refine z_aload_n dX9_undo_81 rfl rfl ?_
      refine y_getR FX9_7 dX9_undo_82 rfl hm.o hm.f_a ?_
      refine z_iload_n dX9_undo_85 rfl rfl ?_
      refine y_ialN (x) dX9_undo_86 hm.A_a (Nat.le_of_ble_eq_true rfl) (rfl) (by omega) ?_
      refine z_eqi (show _ = nI v0 by (repeat rw [pI_sI, if_pos rfl, if_neg (by omega)]); rw [pI_sA_s]; exact (unP_out (by omega)).trans ex) ?_
      refine z_icmp_lt dX9_undo_87 rfl (fun _ => ?_) (fun c => absurd ((nI_ltI (by omega) (by omega)).mpr hlt) c)
      refine z_iconst (v := 0) dX9_undo_95 (by decide) ?_
      refine z_eqi (show _ = nI 0 from rfl) ?_
      refine z_istore_n dX9_undo_96 rfl (Nat.le_of_ble_eq_true rfl) ?_
      refine z_iload_n dX9_undo_97 rfl rfl ?_
      refine z_iconst (v := 3) dX9_undo_98 (by decide) ?_
      refine z_icmp_ge dX9_undo_99 rfl (fun c => absurd c (by decide)) (fun _ => ?_)
      refine z_iload_n dX9_undo_102 rfl rfl ?_
      refine z_aload_n dX9_undo_103 rfl rfl ?_
      refine y_getR FX9_7 dX9_undo_104 rfl hm.o hm.f_a ?_
      refine z_iload_n dX9_undo_107 rfl rfl ?_
      refine y_ialN (x) dX9_undo_108 hm.A_a (Nat.le_of_ble_eq_true rfl) (rfl) (by omega) ?_
      refine z_eqi (show _ = nI v0 by (repeat rw [pI_sI, if_pos rfl, if_neg (by omega)]); rw [pI_sA_s]; exact (unP_out (by omega)).trans ex) ?_
      refine z_icmp_ge dX9_undo_109 rfl (fun c => absurd c (fun q => absurd ((nI_leI (by omega) (by omega)).mp q) (by omega))) (fun _ => ?_)
      refine z_aload_n dX9_undo_112 rfl rfl ?_
      refine z_iload_n dX9_undo_113 rfl rfl ?_
      refine z_iload_n dX9_undo_114 rfl rfl ?_
      refine z_aload_n dX9_undo_115 rfl rfl ?_
      refine y_getR FX9_7 dX9_undo_116 rfl hm.o hm.f_a ?_
      refine z_iload_n dX9_undo_119 rfl rfl ?_
      refine z_bipush (v := 6) dX9_undo_120 (by decide) ?_
      refine z_iadd dX9_undo_122 ?_
      refine z_iconst (v := 3) dX9_undo_123 (by decide) ?_
      refine z_iload_n dX9_undo_124 rfl rfl ?_
      refine z_imul dX9_undo_125 ?_
      refine z_iadd dX9_undo_126 ?_
      refine z_iload_n dX9_undo_127 rfl rfl ?_
      refine z_iadd dX9_undo_128 ?_
      refine y_ialN (x + 6 + 3 * i + 0) dX9_undo_129 hm.A_a (Nat.le_of_ble_eq_true rfl) (by first | rfl | (simp only [← nI_add, ← pk_mul]; rfl)) (by omega) ?_
      refine z_eqi (show _ = f (x + 6 + 3 * i + 0) by (repeat rw [pI_sI, if_pos rfl, if_neg (by omega)]); rw [pI_sA_s]; exact unP_out (by omega)) ?_
      refine y_callV (as := [_, _, _]) CX9_put LX9_79 IX9_put VX9_put ⟨rfl, Nat.le_of_ble_eq_true rfl⟩ dX9_undo_130 hm.o rfl (Nat.le_of_ble_eq_true rfl) (Nat.le_of_ble_eq_true rfl) (by omega) (r_put (j := i) (w := 0) (by exact (by exact hm)) (by omega) (by omega)) rok_v ⟨Nat.le_refl _, Nat.le_refl _, hN, hS⟩ ?_
      refine z_iinc dX9_undo_133 rfl (show _ = nI 1 from rfl) (Nat.le_of_ble_eq_true rfl) ?_
      refine z_goto dX9_undo_136 rfl ?_
      refine z_iload_n dX9_undo_97 rfl rfl ?_
      refine z_iconst (v := 3) dX9_undo_98 (by decide) ?_
      refine z_icmp_ge dX9_undo_99 rfl (fun c => absurd c (by decide)) (fun _ => ?_)
      refine z_iload_n dX9_undo_102 rfl rfl ?_
      refine z_aload_n dX9_undo_103 rfl rfl ?_
      refine y_getR FX9_7 dX9_undo_104 rfl hm.o hm.f_a ?_
      refine z_iload_n dX9_undo_107 rfl rfl ?_
      refine y_ialN (x) dX9_undo_108 hm.A_a (Nat.le_of_ble_eq_true rfl) (rfl) (by omega) ?_
      refine z_eqi (show _ = nI v0 by (repeat rw [pI_sI, if_pos rfl, if_neg (by omega)]); rw [pI_sA_s]; exact (unP_out (by omega)).trans ex) ?_
      refine z_icmp_ge dX9_undo_109 rfl (fun c => absurd c (fun q => absurd ((nI_leI (by omega) (by omega)).mp q) (by omega))) (fun _ => ?_)
      refine z_aload_n dX9_undo_112 rfl rfl ?_
      refine z_iload_n dX9_undo_113 rfl rfl ?_
      refine z_iload_n dX9_undo_114 rfl rfl ?_
      refine z_aload_n dX9_undo_115 rfl rfl ?_
      refine y_getR FX9_7 dX9_undo_116 rfl hm.o hm.f_a ?_
      refine z_iload_n dX9_undo_119 rfl rfl ?_
      refine z_bipush (v := 6) dX9_undo_120 (by decide) ?_
      refine z_iadd dX9_undo_122 ?_
      refine z_iconst (v := 3) dX9_undo_123 (by decide) ?_
      refine z_iload_n dX9_undo_124 rfl rfl ?_
      refine z_imul dX9_undo_125 ?_
      refine z_iadd dX9_undo_126 ?_
      refine z_iload_n dX9_undo_127 rfl rfl ?_
      refine z_iadd dX9_undo_128 ?_
      refine y_ialN (x + 6 + 3 * i + 1) dX9_undo_129 hm.A_a (Nat.le_of_ble_eq_true rfl) (by first | rfl | (simp only [← nI_add, ← pk_mul]; rfl)) (by omega) ?_
      refine z_eqi (show _ = f (x + 6 + 3 * i + 1) by (repeat rw [pI_sI, if_pos rfl, if_neg (by omega)]); rw [pI_sA_s]; exact unP_out (by omega)) ?_
      refine y_callV (as := [_, _, _]) CX9_put LX9_79 IX9_put VX9_put ⟨rfl, Nat.le_of_ble_eq_true rfl⟩ dX9_undo_130 hm.o rfl (Nat.le_of_ble_eq_true rfl) (Nat.le_of_ble_eq_true rfl) (by omega) (r_put (j := i) (w := 1) (by exact (by exact hm)) (by omega) (by omega)) rok_v ⟨Nat.le_refl _, Nat.le_refl _, hN, hS⟩ ?_
      refine z_iinc dX9_undo_133 rfl (show _ = nI 2 from rfl) (Nat.le_of_ble_eq_true rfl) ?_
      refine z_goto dX9_undo_136 rfl ?_
      refine z_iload_n dX9_undo_97 rfl rfl ?_
      refine z_iconst (v := 3) dX9_undo_98 (by decide) ?_
      refine z_icmp_ge dX9_undo_99 rfl (fun c => absurd c (by decide)) (fun _ => ?_)
      refine z_iload_n dX9_undo_102 rfl rfl ?_
      refine z_aload_n dX9_undo_103 rfl rfl ?_
      refine y_getR FX9_7 dX9_undo_104 rfl hm.o hm.f_a ?_
      refine z_iload_n dX9_undo_107 rfl rfl ?_
      refine y_ialN (x) dX9_undo_108 hm.A_a (Nat.le_of_ble_eq_true rfl) (rfl) (by omega) ?_
      refine z_eqi (show _ = nI v0 by (repeat rw [pI_sI, if_pos rfl, if_neg (by omega)]); rw [pI_sA_s]; exact (unP_out (by omega)).trans ex) ?_
      refine z_icmp_ge dX9_undo_109 rfl (fun c => absurd c (fun q => absurd ((nI_leI (by omega) (by omega)).mp q) (by omega))) (fun _ => ?_)
      refine z_aload_n dX9_undo_112 rfl rfl ?_
      refine z_iload_n dX9_undo_113 rfl rfl ?_
      refine z_iload_n dX9_undo_114 rfl rfl ?_
      refine z_aload_n dX9_undo_115 rfl rfl ?_
      refine y_getR FX9_7 dX9_undo_116 rfl hm.o hm.f_a ?_
      refine z_iload_n dX9_undo_119 rfl rfl ?_
      refine z_bipush (v := 6) dX9_undo_120 (by decide) ?_
      refine z_iadd dX9_undo_122 ?_
      refine z_iconst (v := 3) dX9_undo_123 (by decide) ?_
      refine z_iload_n dX9_undo_124 rfl rfl ?_
      refine z_imul dX9_undo_125 ?_
      refine z_iadd dX9_undo_126 ?_
      refine z_iload_n dX9_undo_127 rfl rfl ?_
      refine z_iadd dX9_undo_128 ?_
      refine y_ialN (x + 6 + 3 * i + 2) dX9_undo_129 hm.A_a (Nat.le_of_ble_eq_true rfl) (by first | rfl | (simp only [← nI_add, ← pk_mul]; rfl)) (by omega) ?_
      refine z_eqi (show _ = f (x + 6 + 3 * i + 2) by (repeat rw [pI_sI, if_pos rfl, if_neg (by omega)]); rw [pI_sA_s]; exact unP_out (by omega)) ?_
      refine y_callV (as := [_, _, _]) CX9_put LX9_79 IX9_put VX9_put ⟨rfl, Nat.le_of_ble_eq_true rfl⟩ dX9_undo_130 hm.o rfl (Nat.le_of_ble_eq_true rfl) (Nat.le_of_ble_eq_true rfl) (by omega) (r_put (j := i) (w := 2) (by exact (by exact hm)) (by omega) (by omega)) rok_v ⟨Nat.le_refl _, Nat.le_refl _, hN, hS⟩ ?_
      refine z_iinc dX9_undo_133 rfl (show _ = nI 3 from rfl) (Nat.le_of_ble_eq_true rfl) ?_
      refine z_goto dX9_undo_136 rfl ?_
      refine z_iload_n dX9_undo_97 rfl rfl ?_
      refine z_iconst (v := 3) dX9_undo_98 (by decide) ?_
      refine z_icmp_ge dX9_undo_99 rfl (fun _ => ?_) (fun c => absurd (by decide) c)
      refine z_iinc dX9_undo_139 rfl (nI_1 _) (Nat.le_of_ble_eq_true rfl) ?_
      refine z_goto dX9_undo_142 rfl ?_
      rw [unP_step (by rw [if_pos hlt]) (by rw [if_pos hlt]) (by rw [if_pos hlt])]
      exact ih (i + 1) (by omega) _
    · refine z_iload_n dX9_undo_70 rfl rfl ?_
      refine z_aload_n dX9_undo_71 rfl rfl ?_
      refine y_getR FX9_7 dX9_undo_72 rfl hm.o hm.f_a ?_
      refine z_iconst (v := 1) dX9_undo_75 (by decide) ?_
      refine y_ialN (1) dX9_undo_76 hm.A_a (Nat.le_of_ble_eq_true rfl) (rfl) (by omega) ?_
      refine z_eqi (show _ = nI n by (repeat rw [pI_sI, if_pos rfl, if_neg (by omega)]); rw [pI_sA_s]; exact (unP_out (by omega)).trans e1) ?_
      refine z_icmp_ge dX9_undo_77 rfl (fun c => absurd c (fun q => absurd ((nI_leI (by omega) (by omega)).mp q) (by omega))) (fun _ => ?_)
      refine z_iload_n dX9_undo_80 rfl rfl ?_
      refine z_aload_n dX9_undo_81 rfl rfl ?_
      refine y_getR FX9_7 dX9_undo_82 rfl hm.o hm.f_a ?_
      refine z_iload_n dX9_undo_85 rfl rfl ?_
      refine y_ialN (x) dX9_undo_86 hm.A_a (Nat.le_of_ble_eq_true rfl) (rfl) (by omega) ?_
      refine z_eqi (show _ = nI v0 by (repeat rw [pI_sI, if_pos rfl, if_neg (by omega)]); rw [pI_sA_s]; exact (unP_out (by omega)).trans ex) ?_
      refine z_icmp_lt dX9_undo_87 rfl (fun c => absurd c (fun q => hlt ((nI_ltI (by omega) (by omega)).mp q))) (fun _ => ?_)
      refine z_aload_n dX9_undo_90 rfl rfl ?_
      refine z_iload_n dX9_undo_91 rfl rfl ?_
      refine y_callV (as := [_]) CX9_begin LX9_83 IX9_begin VX9_begin ⟨rfl, Nat.le_of_ble_eq_true rfl⟩ dX9_undo_92 hm.o rfl (Nat.le_of_ble_eq_true rfl) (Nat.le_of_ble_eq_true rfl) (by omega) (r_begin (j := i) (by exact (by exact hm)) (by omega) (by omega)) rok_v ⟨Nat.le_refl _, Nat.le_refl _, hN, hS⟩ ?_
      refine z_iconst (v := 0) dX9_undo_95 (by decide) ?_
      refine z_eqi (show _ = nI 0 from rfl) ?_
      refine z_istore_n dX9_undo_96 rfl (Nat.le_of_ble_eq_true rfl) ?_
      refine z_iload_n dX9_undo_97 rfl rfl ?_
      refine z_iconst (v := 3) dX9_undo_98 (by decide) ?_
      refine z_icmp_ge dX9_undo_99 rfl (fun c => absurd c (by decide)) (fun _ => ?_)
      refine z_iload_n dX9_undo_102 rfl rfl ?_
      refine z_aload_n dX9_undo_103 rfl rfl ?_
      refine y_getR FX9_7 dX9_undo_104 rfl hm.o hm.f_a ?_
      refine z_iload_n dX9_undo_107 rfl rfl ?_
      refine y_ialN (x) dX9_undo_108 hm.A_a (Nat.le_of_ble_eq_true rfl) (rfl) (by omega) ?_
      refine z_eqi (show _ = nI v0 by (repeat rw [pI_sI, if_pos rfl, if_neg (by omega)]); rw [pI_sA_s]; exact (unP_out (by omega)).trans ex) ?_
      refine z_icmp_ge dX9_undo_109 rfl (fun _ => ?_) (fun c => absurd ((nI_leI (by omega) (by omega)).mpr (by omega)) c)
      refine z_iinc dX9_undo_139 rfl (nI_1 _) (Nat.le_of_ble_eq_true rfl) ?_
      refine z_goto dX9_undo_142 rfl ?_
      rw [unP_step (by rw [if_neg hlt, pI_sA_s]; exact unP_out (by omega)) (by rw [if_neg hlt, pI_sA_s]; exact unP_out (by omega)) (by rw [if_neg hlt])]
      exact ih (i + 1) (by omega) _

/-- the step at x is the world again -/
def unG {α : Type} (e : α) (g : Nat → α) (x v0 n : Nat) : Nat → α := cpG (cpG (unP e (cpG g 8 (x + 1) 5) x v0 n) 38 (x + 21) 72) 4810 (x + 93) 60
def mUndo (a : Fl) : Int32 × Fl := if a 4 = 0 then (-1, a) else (nI (a 4 - 1), unG 0 (up a 4 (a 4 - 1)) (190 + 154 * (a 4 - 1)) (a (190 + 154 * (a 4 - 1))) (a 1))
theorem cI_cpG {a : Fl} {g : Nat → Int32} {p q n : Nat} (hp : 3 < p) (hq : 3 < q) (h1 : q + n ≤ 4870) (hg : ∀ j, j < 4870 → g j = cI a j) (j : Nat) (hj : j < 4870) : cpG g p q n j = cI (cpG a p q n) j := by
  by_cases hc : p ≤ j ∧ j < p + n
  · rw [cpG_in hc, cI_n (by omega), cpG_in hc, hg _ (by omega), cI_n (by omega)]
  · rw [cpG_out hc, hg j hj]
    unfold cI
    rw [cpG_out hc]
    by_cases h3 : j = 3
    · subst h3; rw [if_pos rfl, if_pos rfl, cpG_out hc]
    · rw [if_neg h3, if_neg h3]
theorem cI_unP {a : Fl} {g : Nat → Int32} {x v0 n : Nat} (hx : 190 ≤ x) (hx2 : x + 153 ≤ 4810) (hn : n ≤ 5) (hg : ∀ j, j < 4870 → g j = cI a j) (j : Nat) (hj : j < 4870) : unP 0 g x v0 n j = cI (unP 0 a x v0 n) j := by
  by_cases hc : 13 ≤ j ∧ j < 13 + 5 * n ∧ (j - 13) % 5 < 3
  · rw [cI_n (by omega)]
    unfold unP
    rw [if_pos hc, if_pos hc]
    by_cases h1 : (j - 13) / 5 < v0
    · rw [if_pos h1, if_pos h1, hg _ (by omega), cI_n (by omega)]
    · rw [if_neg h1, if_neg h1]
      by_cases h2 : (j - 13) % 5 = 2
      · rw [if_pos h2, if_pos h2]; rfl
      · rw [if_neg h2, if_neg h2, hg _ (by omega), cI_n (by omega)]
  · rw [unP_out hc, hg j hj]
    unfold cI
    rw [unP_out hc]
    by_cases h3 : j = 3
    · subst h3; rw [if_pos rfl, if_pos rfl, unP_out hc]
    · rw [if_neg h3, if_neg h3]
theorem cI_up {a : Fl} {i v j : Nat} (hi : i ≠ 3) : cI (up a i v) j = if j = i then nI v else cI a j := by
  unfold cI
  by_cases h3 : j = 3
  · subst h3; rw [if_pos rfl, if_neg (Ne.symm hi), if_pos rfl, up_n (Ne.symm hi)]
  · rw [if_neg h3, if_neg h3]
    by_cases h : j = i
    · subst h; rw [up_s, if_pos rfl]
    · rw [up_n h, if_neg h]
theorem cI_unG {a : Fl} {g : Nat → Int32} {x v0 n : Nat} (hx : 190 ≤ x) (hx2 : x + 153 ≤ 4810) (hn : n ≤ 5) (hg : ∀ j, j < 4870 → g j = cI a j) (j : Nat) (hj : j < 4870) : unG 0 g x v0 n j = cI (unG 0 a x v0 n) j :=
  cI_cpG (by omega) (by omega) (by omega) (cI_cpG (by omega) (by omega) (by omega) (cI_unP hx hx2 hn (cI_cpG (by omega) (by omega) (by omega) hg))) j hj

theorem R_undo {s : Ms} {h : Hp} {d : Nat} (hr : RM s h) (hv : IC s.1) (hv0 : ∀ t, t < s.1 4 → s.1 (190 + 154 * t) ≤ 5) (hd : 2 ≤ d) : ∃ h1, Sp d mX9_undo [.ref 488] h (some (.int (mUndo s.1).1)) h1 ∧ RM ((mUndo s.1).2, s.2) h1 ∧ FM h h1 := by
  have hm := hr.m
  have e4 : pI h 489 4 = nI (s.1 4) := hr.at (by omega) (by omega)
  have h4 := hv.2.2.2.2.1
  have v1 := hv.2.1
  by_cases hc : s.1 4 = 0
  · have eu : mUndo s.1 = (-1, s.1) := by unfold mUndo; rw [if_pos hc]
    rw [eu]
    refine ⟨h, ?_, hr, FM.rf⟩
    · intro N S Q hN hS hQ
      refine z_aload_n dX9_undo_0 rfl rfl ?_
      refine y_getR FX9_7 dX9_undo_1 rfl hm.o hm.f_a ?_
      refine z_iconst (v := 4) dX9_undo_4 (by decide) ?_
      refine y_ialN (4) dX9_undo_5 hm.A_a (Nat.le_of_ble_eq_true rfl) (rfl) (by omega) ?_
      refine z_eqi e4 ?_
      refine z_if_ne dX9_undo_6 rfl (fun c => absurd (by rw [hc]; rfl) c) (fun _ => ?_)
      refine z_iconst (v := -1) dX9_undo_9 (by decide) ?_
      refine z_iret dX9_undo_10 ?_
      exact hQ
  · obtain ⟨t, ht1⟩ : ∃ t, s.1 4 = t + 1 := ⟨s.1 4 - 1, by omega⟩
    have eu : mUndo s.1 = (nI t, unG 0 (up s.1 4 t) (190 + 154 * t) (s.1 (190 + 154 * t)) (s.1 1)) := by unfold mUndo; rw [if_neg hc, ht1]; rfl
    rw [eu]
    have hv0 := hv0 t (by omega)
    refine ⟨sA h 489 (unG 0 (fun j => if j = 4 then nI t else pI h 489 j) (190 + 154 * t) (s.1 (190 + 154 * t)) (s.1 1)), ?_, ?_, FM.rf.sA (by omega)⟩
    · intro N S Q hN hS hQ
      refine z_aload_n dX9_undo_0 rfl rfl ?_
      refine y_getR FX9_7 dX9_undo_1 rfl hm.o hm.f_a ?_
      refine z_iconst (v := 4) dX9_undo_4 (by decide) ?_
      refine y_ialN (4) dX9_undo_5 hm.A_a (Nat.le_of_ble_eq_true rfl) (rfl) (by omega) ?_
      refine z_if_ne dX9_undo_6 rfl (fun _ => ?_) (fun c => absurd c (by rw [e4]; exact nI_ne0 (by omega) (by omega)))
      refine z_aload_n dX9_undo_11 rfl rfl ?_
      refine y_getR FX9_7 dX9_undo_12 rfl hm.o hm.f_a ?_
      refine z_iconst (v := 4) dX9_undo_15 (by decide) ?_
      refine z_dup2_11 dX9_undo_16 rfl rfl ?_
      refine y_ialN (4) dX9_undo_17 hm.A_a (Nat.le_of_ble_eq_true rfl) (rfl) (by omega) ?_
      refine z_eqi (show _ = nI (t + 1) by rw [e4, ht1]) ?_
      refine z_iconst (v := 1) dX9_undo_18 (by decide) ?_
      refine z_isub dX9_undo_19 ?_
      refine z_eqi (nI_pred t) ?_
      refine y_iasN (4) dX9_undo_20 hm.A_a (Nat.le_of_ble_eq_true rfl) (rfl) (by omega) ?_
      rw [sI_row]
      refine z_sipush (v := 190) dX9_undo_21 (by decide) ?_
      refine z_sipush (v := 154) dX9_undo_24 (by decide) ?_
      refine z_aload_n dX9_undo_27 rfl rfl ?_
      refine y_getR FX9_7 dX9_undo_28 rfl hm.o hm.f_a ?_
      refine z_iconst (v := 4) dX9_undo_31 (by decide) ?_
      refine y_ialN (4) dX9_undo_32 hm.A_a (Nat.le_of_ble_eq_true rfl) (rfl) (by omega) ?_
      refine z_eqi (show _ = nI t by rw [pI_sA_s, if_pos rfl]) ?_
      refine z_imul dX9_undo_33 ?_
      refine z_iadd dX9_undo_34 ?_
      refine z_eqi (show _ = nI (190 + 154 * t) by simp only [← nI_add, ← pk_mul]; rfl) ?_
      refine z_istore_n dX9_undo_35 rfl (Nat.le_of_ble_eq_true rfl) ?_
      refine z_iconst (v := 0) dX9_undo_36 (by decide) ?_
      refine z_eqi (show _ = nI 0 from rfl) ?_
      refine z_istore_n dX9_undo_37 rfl (Nat.le_of_ble_eq_true rfl) ?_
      have h2 := r_undo_l1 (d := d) (N := N) (S := S) (Q := Q) (x := (190 + 154 * t)) (z := none) (f := (fun j => if j = 4 then nI t else pI h 489 j)) hm (by omega) (by omega) ?_ 5 0 rfl
      rw [cpG_0] at h2
      exact h2
      refine z_iconst (v := 0) dX9_undo_68 (by decide) ?_
      refine z_eqi (show _ = nI 0 from rfl) ?_
      refine z_istore_n dX9_undo_69 rfl (Nat.le_of_ble_eq_true rfl) ?_
      have h3 := r_undo_l2 (d := d) (N := N) (S := S) (Q := Q) (x := (190 + 154 * t)) (n := s.1 1) (v0 := s.1 (190 + 154 * t)) (f := (cpG (fun j => if j = 4 then nI t else pI h 489 j) 8 ((190 + 154 * t) + 1) 5)) hm (by omega) (by omega) (by rw [cpG_out (by omega), if_neg (by omega)]; exact hr.at (by omega) (by omega)) v1 (by rw [cpG_out (by omega), if_neg (by omega)]; exact hr.at (by omega) (by omega)) hv0 hd hN hS ?_ (s.1 1) 0 (by omega) none
      rw [unP_0] at h3
      exact h3
      intro z
      refine z_iconst (v := 0) dX9_undo_145 (by decide) ?_
      refine z_eqi (show _ = nI 0 from rfl) ?_
      refine z_istore_n dX9_undo_146 rfl (Nat.le_of_ble_eq_true rfl) ?_
      have h4 := r_undo_l3 (d := d) (N := N) (S := S) (Q := Q) (x := (190 + 154 * t)) (z := z) (f := (unP 0 (cpG (fun j => if j = 4 then nI t else pI h 489 j) 8 ((190 + 154 * t) + 1) 5) (190 + 154 * t) (s.1 (190 + 154 * t)) (s.1 1))) hm (by omega) (by omega) ?_ 72 0 rfl
      rw [cpG_0] at h4
      exact h4
      refine z_iconst (v := 0) dX9_undo_179 (by decide) ?_
      refine z_eqi (show _ = nI 0 from rfl) ?_
      refine z_istore_n dX9_undo_180 rfl (Nat.le_of_ble_eq_true rfl) ?_
      have h5 := r_undo_l4 (d := d) (N := N) (S := S) (Q := Q) (x := (190 + 154 * t)) (z := z) (f := (cpG (unP 0 (cpG (fun j => if j = 4 then nI t else pI h 489 j) 8 ((190 + 154 * t) + 1) 5) (190 + 154 * t) (s.1 (190 + 154 * t)) (s.1 1)) 38 ((190 + 154 * t) + 21) 72)) hm (by omega) (by omega) ?_ 60 0 rfl
      rw [cpG_0] at h5
      exact h5
      refine z_aload_n dX9_undo_214 rfl rfl ?_
      refine y_getR FX9_7 dX9_undo_215 rfl hm.o hm.f_a ?_
      refine z_iconst (v := 4) dX9_undo_218 (by decide) ?_
      refine y_ialN (4) dX9_undo_219 hm.A_a (Nat.le_of_ble_eq_true rfl) (rfl) (by omega) ?_
      refine z_eqi (show _ = nI t by rw [pI_sA_s, cpG_out (by omega), cpG_out (by omega), unP_out (by omega), cpG_out (by omega), if_pos rfl]) ?_
      refine z_iret dX9_undo_220 ?_
      exact hQ
    · refine hr.sA (fun j hj => cI_unG (by omega) (by omega) v1 (fun j hj => ?_) j hj)
      rw [cI_up (by omega)]
      by_cases q4 : j = 4
      · rw [if_pos q4, if_pos q4]
      · rw [if_neg q4, if_neg q4]; exact hr.2.1 j hj

