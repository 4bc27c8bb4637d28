/-! the reference keeps a step and takes one back (walks by program: wip/whole/gen38.py) -/
/-- n places from q on are copied to p on -/
def cpG {α : Type} (f : Nat → α) (p q n : Nat) : Nat → α := fun j => if p ≤ j ∧ j < p + n then f (q + (j - p)) else f j
theorem cpG_0 {α : Type} {f : Nat → α} {p q : Nat} : cpG f p q 0 = f := by
  funext j
  unfold cpG
  rw [if_neg (by omega)]
theorem cpG_rd {α : Type} {f : Nat → α} {p q i : Nat} (hc : p ≤ q ∨ q + i < p) : cpG f p q i (q + i) = f (q + i) := by
  unfold cpG
  rw [if_neg (by omega)]
theorem cpG_s {f : Nat → Int32} {p q i : Nat} (j : Nat) : (if j = p + i then f (q + i) else cpG f p q i j) = cpG f p q (i + 1) j := by
  unfold cpG
  by_cases h1 : j = p + i
  · rw [if_pos h1, if_pos (by omega), h1, show q + (p + i - p) = q + i by omega]
  · rw [if_neg h1]
    by_cases h2 : p ≤ j ∧ j < p + i
    · rw [if_pos h2, if_pos (by omega)]
    · rw [if_neg h2, if_neg (by omega)]
theorem pI_sA_s {h : Hp} {k j : Nat} {f : Nat → Int32} : pI (sA h k f) k j = f j := by rw [pI_sA, if_pos rfl]
theorem cp_step {h : Hp} {f : Nat → Int32} {p q i : Nat} : sI (sA h 489 (cpG f p q i)) 489 (p + i) (f (q + i)) = sA h 489 (cpG f p q (i + 1)) := by
  rw [sI_sA]
  exact sA_congr cpG_s

theorem r_keep_l1 {h : Hp} {f : Nat → Int32} {d N S x : Nat} {Q : Option Value → Hp → Prop} (hm : SM h)  (K : T d N S mX9_keep 46 [some (.ref 488), some (.int (nI (4466))), none, none] [] (sA h 489 (cpG f 190 344 4466)) Q) : ∀ r i : Nat, i + r = 4466 → T d N S mX9_keep 13 [some (.ref 488), some (.int (nI (i))), none, none] [] (sA h 489 (cpG f 190 344 i)) Q := by
  intro r
  induction r with
  | zero =>
    intro i hi
    have e : i = 4466 := by omega
    rw [e]
    refine z_iload_n dX9_keep_13 rfl rfl ?_
    refine z_sipush (v := 4466) dX9_keep_14 (by decide) ?_
    refine z_icmp_ge dX9_keep_17 rfl (fun _ => ?_) (fun c => absurd ((nI_leI (by omega) (by omega)).mpr (Nat.le_refl 4466)) c)
    exact K
  | succ r ih =>
    intro i hi
    refine z_iload_n dX9_keep_13 rfl rfl ?_
    refine z_sipush (v := 4466) dX9_keep_14 (by decide) ?_
    refine z_icmp_ge dX9_keep_17 rfl (fun c => absurd c (fun q => absurd ((nI_leI (a := 4466) (by omega) (by omega)).mp q) (by omega))) (fun _ => ?_)
    refine z_aload_n dX9_keep_20 rfl rfl ?_
    refine y_getR FX9_7 dX9_keep_21 rfl hm.o hm.f_a ?_
    refine z_sipush (v := 190) dX9_keep_24 (by decide) ?_
    refine z_iload_n dX9_keep_27 rfl rfl ?_
    refine z_iadd dX9_keep_28 ?_
    refine z_aload_n dX9_keep_29 rfl rfl ?_
    refine y_getR FX9_7 dX9_keep_30 rfl hm.o hm.f_a ?_
    refine z_sipush (v := 344) dX9_keep_33 (by decide) ?_
    refine z_iload_n dX9_keep_36 rfl rfl ?_
    refine z_iadd dX9_keep_37 ?_
    refine y_ialN (344 + i) dX9_keep_38 hm.A_a (Nat.le_of_ble_eq_true rfl) (by first | rfl | (simp only [← nI_add, ← pk_mul]; rfl)) (by omega) ?_
    refine z_eqi (show _ = f (344 + i) by rw [pI_sA_s]; exact cpG_rd (by omega)) ?_
    refine y_iasN (190 + i) dX9_keep_39 hm.A_a (Nat.le_of_ble_eq_true rfl) (by first | rfl | (simp only [← nI_add, ← pk_mul]; rfl)) (by omega) ?_
    refine z_iinc dX9_keep_40 rfl (nI_1 _) (Nat.le_of_ble_eq_true rfl) ?_
    refine z_goto dX9_keep_43 rfl ?_
    rw [cp_step]
    exact ih (i + 1) (by omega)

theorem r_keep_l2 {h : Hp} {f : Nat → Int32} {d N S x : Nat} {Q : Option Value → Hp → Prop} (hm : SM h) (hx : 190 ≤ x) (hx2 : x + 153 ≤ 4810) (K : T d N S mX9_keep 115 [some (.ref 488), some (.int (nI x)), some (.int (nI (5))), none] [] (sA h 489 (cpG f (x + 1) 8 5)) Q) : ∀ r i : Nat, i + r = 5 → T d N S mX9_keep 85 [some (.ref 488), some (.int (nI x)), some (.int (nI (i))), none] [] (sA h 489 (cpG f (x + 1) 8 i)) Q := by
  intro r
  induction r with
  | zero =>
    intro i hi
    have e : i = 5 := by omega
    rw [e]
    refine z_iload_n dX9_keep_85 rfl rfl ?_
    refine z_iconst (v := 5) dX9_keep_86 (by decide) ?_
    refine z_icmp_ge dX9_keep_87 rfl (fun _ => ?_) (fun c => absurd ((nI_leI (by omega) (by omega)).mpr (Nat.le_refl 5)) c)
    exact K
  | succ r ih =>
    intro i hi
    refine z_iload_n dX9_keep_85 rfl rfl ?_
    refine z_iconst (v := 5) dX9_keep_86 (by decide) ?_
    refine z_icmp_ge dX9_keep_87 rfl (fun c => absurd c (fun q => absurd ((nI_leI (a := 5) (by omega) (by omega)).mp q) (by omega))) (fun _ => ?_)
    refine z_aload_n dX9_keep_90 rfl rfl ?_
    refine y_getR FX9_7 dX9_keep_91 rfl hm.o hm.f_a ?_
    refine z_iload_n dX9_keep_94 rfl rfl ?_
    refine z_iconst (v := 1) dX9_keep_95 (by decide) ?_
    refine z_iadd dX9_keep_96 ?_
    refine z_iload_n dX9_keep_97 rfl rfl ?_
    refine z_iadd dX9_keep_98 ?_
    refine z_aload_n dX9_keep_99 rfl rfl ?_
    refine y_getR FX9_7 dX9_keep_100 rfl hm.o hm.f_a ?_
    refine z_bipush (v := 8) dX9_keep_103 (by decide) ?_
    refine z_iload_n dX9_keep_105 rfl rfl ?_
    refine z_iadd dX9_keep_106 ?_
    refine y_ialN (8 + i) dX9_keep_107 hm.A_a (Nat.le_of_ble_eq_true rfl) (by first | rfl | (simp only [← nI_add, ← pk_mul]; rfl)) (by omega) ?_
    refine z_eqi (show _ = f (8 + i) by rw [pI_sA_s]; exact cpG_rd (by omega)) ?_
    refine y_iasN (x + 1 + i) dX9_keep_108 hm.A_a (Nat.le_of_ble_eq_true rfl) (by first | rfl | (simp only [← nI_add, ← pk_mul]; rfl)) (by omega) ?_
    refine z_iinc dX9_keep_109 rfl (nI_1 _) (Nat.le_of_ble_eq_true rfl) ?_
    refine z_goto dX9_keep_112 rfl ?_
    rw [cp_step]
    exact ih (i + 1) (by omega)

theorem r_keep_l4 {h : Hp} {f : Nat → Int32} {d N S x : Nat} {Q : Option Value → Hp → Prop} (hm : SM h) (hx : 190 ≤ x) (hx2 : x + 153 ≤ 4810) (K : T d N S mX9_keep 196 [some (.ref 488), some (.int (nI x)), some (.int (nI (72))), some (.int (nI 3))] [] (sA h 489 (cpG f (x + 21) 38 72)) Q) : ∀ r i : Nat, i + r = 72 → T d N S mX9_keep 164 [some (.ref 488), some (.int (nI x)), some (.int (nI (i))), some (.int (nI 3))] [] (sA h 489 (cpG f (x + 21) 38 i)) Q := by
  intro r
  induction r with
  | zero =>
    intro i hi
    have e : i = 72 := by omega
    rw [e]
    refine z_iload_n dX9_keep_164 rfl rfl ?_
    refine z_bipush (v := 72) dX9_keep_165 (by decide) ?_
    refine z_icmp_ge dX9_keep_167 rfl (fun _ => ?_) (fun c => absurd ((nI_leI (by omega) (by omega)).mpr (Nat.le_refl 72)) c)
    exact K
  | succ r ih =>
    intro i hi
    refine z_iload_n dX9_keep_164 rfl rfl ?_
    refine z_bipush (v := 72) dX9_keep_165 (by decide) ?_
    refine z_icmp_ge dX9_keep_167 rfl (fun c => absurd c (fun q => absurd ((nI_leI (a := 72) (by omega) (by omega)).mp q) (by omega))) (fun _ => ?_)
    refine z_aload_n dX9_keep_170 rfl rfl ?_
    refine y_getR FX9_7 dX9_keep_171 rfl hm.o hm.f_a ?_
    refine z_iload_n dX9_keep_174 rfl rfl ?_
    refine z_bipush (v := 21) dX9_keep_175 (by decide) ?_
    refine z_iadd dX9_keep_177 ?_
    refine z_iload_n dX9_keep_178 rfl rfl ?_
    refine z_iadd dX9_keep_179 ?_
    refine z_aload_n dX9_keep_180 rfl rfl ?_
    refine y_getR FX9_7 dX9_keep_181 rfl hm.o hm.f_a ?_
    refine z_bipush (v := 38) dX9_keep_184 (by decide) ?_
    refine z_iload_n dX9_keep_186 rfl rfl ?_
    refine z_iadd dX9_keep_187 ?_
    refine y_ialN (38 + i) dX9_keep_188 hm.A_a (Nat.le_of_ble_eq_true rfl) (by first | rfl | (simp only [← nI_add, ← pk_mul]; rfl)) (by omega) ?_
    refine z_eqi (show _ = f (38 + i) by rw [pI_sA_s]; exact cpG_rd (by omega)) ?_
    refine y_iasN (x + 21 + i) dX9_keep_189 hm.A_a (Nat.le_of_ble_eq_true rfl) (by first | rfl | (simp only [← nI_add, ← pk_mul]; rfl)) (by omega) ?_
    refine z_iinc dX9_keep_190 rfl (nI_1 _) (Nat.le_of_ble_eq_true rfl) ?_
    refine z_goto dX9_keep_193 rfl ?_
    rw [cp_step]
    exact ih (i + 1) (by omega)

theorem r_keep_l5 {h : Hp} {f : Nat → Int32} {d N S x : Nat} {Q : Option Value → Hp → Prop} (hm : SM h) (hx : 190 ≤ x) (hx2 : x + 153 ≤ 4810) (K : T d N S mX9_keep 231 [some (.ref 488), some (.int (nI x)), some (.int (nI (60))), some (.int (nI 3))] [] (sA h 489 (cpG f (x + 93) 4810 60)) Q) : ∀ r i : Nat, i + r = 60 → T d N S mX9_keep 198 [some (.ref 488), some (.int (nI x)), some (.int (nI (i))), some (.int (nI 3))] [] (sA h 489 (cpG f (x + 93) 4810 i)) Q := by
  intro r
  induction r with
  | zero =>
    intro i hi
    have e : i = 60 := by omega
    rw [e]
    refine z_iload_n dX9_keep_198 rfl rfl ?_
    refine z_bipush (v := 60) dX9_keep_199 (by decide) ?_
    refine z_icmp_ge dX9_keep_201 rfl (fun _ => ?_) (fun c => absurd ((nI_leI (by omega) (by omega)).mpr (Nat.le_refl 60)) c)
    exact K
  | succ r ih =>
    intro i hi
    refine z_iload_n dX9_keep_198 rfl rfl ?_
    refine z_bipush (v := 60) dX9_keep_199 (by decide) ?_
    refine z_icmp_ge dX9_keep_201 rfl (fun c => absurd c (fun q => absurd ((nI_leI (a := 60) (by omega) (by omega)).mp q) (by omega))) (fun _ => ?_)
    refine z_aload_n dX9_keep_204 rfl rfl ?_
    refine y_getR FX9_7 dX9_keep_205 rfl hm.o hm.f_a ?_
    refine z_iload_n dX9_keep_208 rfl rfl ?_
    refine z_bipush (v := 93) dX9_keep_209 (by decide) ?_
    refine z_iadd dX9_keep_211 ?_
    refine z_iload_n dX9_keep_212 rfl rfl ?_
    refine z_iadd dX9_keep_213 ?_
    refine z_aload_n dX9_keep_214 rfl rfl ?_
    refine y_getR FX9_7 dX9_keep_215 rfl hm.o hm.f_a ?_
    refine z_sipush (v := 4810) dX9_keep_218 (by decide) ?_
    refine z_iload_n dX9_keep_221 rfl rfl ?_
    refine z_iadd dX9_keep_222 ?_
    refine y_ialN (4810 + i) dX9_keep_223 hm.A_a (Nat.le_of_ble_eq_true rfl) (by first | rfl | (simp only [← nI_add, ← pk_mul]; rfl)) (by omega) ?_
    refine z_eqi (show _ = f (4810 + i) by rw [pI_sA_s]; exact cpG_rd (by omega)) ?_
    refine y_iasN (x + 93 + i) dX9_keep_224 hm.A_a (Nat.le_of_ble_eq_true rfl) (by first | rfl | (simp only [← nI_add, ← pk_mul]; rfl)) (by omega) ?_
    refine z_iinc dX9_keep_225 rfl (nI_1 _) (Nat.le_of_ble_eq_true rfl) ?_
    refine z_goto dX9_keep_228 rfl ?_
    rw [cp_step]
    exact ih (i + 1) (by omega)

/-- the prophets' first n are kept at x -/
def prK (f : Nat → Int32) (x n : Nat) : Nat → Int32 := fun j => if x + 6 ≤ j ∧ j < x + 6 + 3 * n then f (13 + 5 * ((j - (x + 6)) / 3) + (j - (x + 6)) % 3) else f j
theorem prK_0 {f : Nat → Int32} {x : Nat} : prK f x 0 = f := by
  funext j
  unfold prK
  rw [if_neg (by omega)]
theorem prK_rd {f : Nat → Int32} {x i j : Nat} (hx : j < x) : prK f x i j = f j := by
  unfold prK
  rw [if_neg (by omega)]
theorem prK_s {f : Nat → Int32} {x i : Nat} (j : Nat) : (if j = x + 6 + 3 * i + 2 then f (13 + 5 * i + 2) else if j = x + 6 + 3 * i + 1 then f (13 + 5 * i + 1) else if j = x + 6 + 3 * i + 0 then f (13 + 5 * i + 0) else prK f x i j) = prK f x (i + 1) j := by
  unfold prK
  by_cases h2 : j = x + 6 + 3 * i + 2
  · rw [if_pos h2, if_pos (by omega)]; congr 1; omega
  · rw [if_neg h2]
    by_cases h1 : j = x + 6 + 3 * i + 1
    · rw [if_pos h1, if_pos (by omega)]; congr 1; omega
    · rw [if_neg h1]
      by_cases h0 : j = x + 6 + 3 * i + 0
      · rw [if_pos h0, if_pos (by omega)]; congr 1; omega
      · rw [if_neg h0]
        by_cases hc : x + 6 ≤ j ∧ j < x + 6 + 3 * i
        · rw [if_pos hc, if_pos (by omega)]
        · rw [if_neg hc, if_neg (by omega)]
theorem prK_step {h : Hp} {f : Nat → Int32} {x i : Nat} : sI (sI (sI (sA h 489 (prK f x i)) 489 (x + 6 + 3 * i + 0) (f (13 + 5 * i + 0))) 489 (x + 6 + 3 * i + 1) (f (13 + 5 * i + 1))) 489 (x + 6 + 3 * i + 2) (f (13 + 5 * i + 2)) = sA h 489 (prK f x (i + 1)) := by
  rw [sI_sA, sI_sA, sI_sA]
  exact sA_congr prK_s

theorem r_keep_l3 {h : Hp} {f : Nat → Int32} {d N S x : Nat} {Q : Option Value → Hp → Prop} (hm : SM h) (hx : 190 ≤ x) (hx2 : x + 153 ≤ 4810) (hd : 1 ≤ d) (hN : pn h ≤ N) (hS : ps h ≤ S) : ∀ r i : Nat, i + r = 5 → ∀ z : Option Value, (T d N S mX9_keep 162 [some (.ref 488), some (.int (nI x)), some (.int (nI 5)), (some (.int (nI 3)))] [] (sA h 489 (prK f x 5)) Q) → (r = 0 → z = some (.int (nI 3))) → T d N S mX9_keep 117 [some (.ref 488), some (.int (nI x)), some (.int (nI i)), z] [] (sA h 489 (prK f x i)) Q := by
  intro r
  induction r with
  | zero =>
    intro i hi z K hz
    have e : i = 5 := by omega
    rw [e, hz rfl]
    refine z_iload_n dX9_keep_117 rfl rfl ?_
    refine z_iconst (v := 5) dX9_keep_118 (by decide) ?_
    refine z_icmp_ge dX9_keep_119 rfl (fun _ => ?_) (fun c => absurd (by decide) c)
    exact K
  | succ r ih =>
    intro i hi z K _
    refine z_iload_n dX9_keep_117 rfl rfl ?_
    refine z_iconst (v := 5) dX9_keep_118 (by decide) ?_
    refine z_icmp_ge dX9_keep_119 rfl (fun c => absurd c (fun q => absurd ((nI_leI (a := 5) (by omega) (by omega)).mp q) (by omega))) (fun _ => ?_)
    refine z_iconst (v := 0) dX9_keep_122 (by decide) ?_
    refine z_eqi (show _ = nI 0 from rfl) ?_
    refine z_istore_n dX9_keep_123 rfl (Nat.le_of_ble_eq_true rfl) ?_
    refine z_iload_n dX9_keep_124 rfl rfl ?_
    refine z_iconst (v := 3) dX9_keep_125 (by decide) ?_
    refine z_icmp_ge dX9_keep_126 rfl (fun c => absurd c (by decide)) (fun _ => ?_)
    refine z_aload_n dX9_keep_129 rfl rfl ?_
    refine y_getR FX9_7 dX9_keep_130 rfl hm.o hm.f_a ?_
    refine z_iload_n dX9_keep_133 rfl rfl ?_
    refine z_bipush (v := 6) dX9_keep_134 (by decide) ?_
    refine z_iadd dX9_keep_136 ?_
    refine z_iconst (v := 3) dX9_keep_137 (by decide) ?_
    refine z_iload_n dX9_keep_138 rfl rfl ?_
    refine z_imul dX9_keep_139 ?_
    refine z_iadd dX9_keep_140 ?_
    refine z_iload_n dX9_keep_141 rfl rfl ?_
    refine z_iadd dX9_keep_142 ?_
    refine z_aload_n dX9_keep_143 rfl rfl ?_
    refine z_iload_n dX9_keep_144 rfl rfl ?_
    refine z_iload_n dX9_keep_145 rfl rfl ?_
    refine y_callV (as := [_, _]) CX9_get LX9_87 IX9_get VX9_get ⟨rfl, Nat.le_of_ble_eq_true rfl⟩ dX9_keep_146 hm.o rfl (Nat.le_of_ble_eq_true rfl) (Nat.le_of_ble_eq_true rfl) (by omega) (r_get (j := i) (w := 0) (by exact (by exact hm)) (by omega) (by omega)) rok_i ⟨Nat.le_refl _, Nat.le_refl _, hN, hS⟩ ?_
    refine z_eqi (show _ = f (13 + 5 * i + 0) by (repeat rw [pI_sI, if_pos rfl, if_neg (by omega)]); rw [pI_sA_s]; exact prK_rd (by omega)) ?_
    refine y_iasN (x + 6 + 3 * i + 0) dX9_keep_149 hm.A_a (Nat.le_of_ble_eq_true rfl) (by first | rfl | (simp only [← nI_add, ← pk_mul]; rfl)) (by omega) ?_
    refine z_iinc dX9_keep_150 rfl (show _ = nI 1 from rfl) (Nat.le_of_ble_eq_true rfl) ?_
    refine z_goto dX9_keep_153 rfl ?_
    refine z_iload_n dX9_keep_124 rfl rfl ?_
    refine z_iconst (v := 3) dX9_keep_125 (by decide) ?_
    refine z_icmp_ge dX9_keep_126 rfl (fun c => absurd c (by decide)) (fun _ => ?_)
    refine z_aload_n dX9_keep_129 rfl rfl ?_
    refine y_getR FX9_7 dX9_keep_130 rfl hm.o hm.f_a ?_
    refine z_iload_n dX9_keep_133 rfl rfl ?_
    refine z_bipush (v := 6) dX9_keep_134 (by decide) ?_
    refine z_iadd dX9_keep_136 ?_
    refine z_iconst (v := 3) dX9_keep_137 (by decide) ?_
    refine z_iload_n dX9_keep_138 rfl rfl ?_
    refine z_imul dX9_keep_139 ?_
    refine z_iadd dX9_keep_140 ?_
    refine z_iload_n dX9_keep_141 rfl rfl ?_
    refine z_iadd dX9_keep_142 ?_
    refine z_aload_n dX9_keep_143 rfl rfl ?_
    refine z_iload_n dX9_keep_144 rfl rfl ?_
    refine z_iload_n dX9_keep_145 rfl rfl ?_
    refine y_callV (as := [_, _]) CX9_get LX9_87 IX9_get VX9_get ⟨rfl, Nat.le_of_ble_eq_true rfl⟩ dX9_keep_146 hm.o rfl (Nat.le_of_ble_eq_true rfl) (Nat.le_of_ble_eq_true rfl) (by omega) (r_get (j := i) (w := 1) (by exact (by exact hm)) (by omega) (by omega)) rok_i ⟨Nat.le_refl _, Nat.le_refl _, hN, hS⟩ ?_
    refine z_eqi (show _ = f (13 + 5 * i + 1) by (repeat rw [pI_sI, if_pos rfl, if_neg (by omega)]); rw [pI_sA_s]; exact prK_rd (by omega)) ?_
    refine y_iasN (x + 6 + 3 * i + 1) dX9_keep_149 hm.A_a (Nat.le_of_ble_eq_true rfl) (by first | rfl | (simp only [← nI_add, ← pk_mul]; rfl)) (by omega) ?_
    refine z_iinc dX9_keep_150 rfl (show _ = nI 2 from rfl) (Nat.le_of_ble_eq_true rfl) ?_
    refine z_goto dX9_keep_153 rfl ?_
    refine z_iload_n dX9_keep_124 rfl rfl ?_
    refine z_iconst (v := 3) dX9_keep_125 (by decide) ?_
    refine z_icmp_ge dX9_keep_126 rfl (fun c => absurd c (by decide)) (fun _ => ?_)
    refine z_aload_n dX9_keep_129 rfl rfl ?_
    refine y_getR FX9_7 dX9_keep_130 rfl hm.o hm.f_a ?_
    refine z_iload_n dX9_keep_133 rfl rfl ?_
    refine z_bipush (v := 6) dX9_keep_134 (by decide) ?_
    refine z_iadd dX9_keep_136 ?_
    refine z_iconst (v := 3) dX9_keep_137 (by decide) ?_
    refine z_iload_n dX9_keep_138 rfl rfl ?_
    refine z_imul dX9_keep_139 ?_
    refine z_iadd dX9_keep_140 ?_
    refine z_iload_n dX9_keep_141 rfl rfl ?_
    refine z_iadd dX9_keep_142 ?_
    refine z_aload_n dX9_keep_143 rfl rfl ?_
    refine z_iload_n dX9_keep_144 rfl rfl ?_
    refine z_iload_n dX9_keep_145 rfl rfl ?_
    refine y_callV (as := [_, _]) CX9_get LX9_87 IX9_get VX9_get ⟨rfl, Nat.le_of_ble_eq_true rfl⟩ dX9_keep_146 hm.o rfl (Nat.le_of_ble_eq_true rfl) (Nat.le_of_ble_eq_true rfl) (by omega) (r_get (j := i) (w := 2) (by exact (by exact hm)) (by omega) (by omega)) rok_i ⟨Nat.le_refl _, Nat.le_refl _, hN, hS⟩ ?_
    refine z_eqi (show _ = f (13 + 5 * i + 2) by (repeat rw [pI_sI, if_pos rfl, if_neg (by omega)]); rw [pI_sA_s]; exact prK_rd (by omega)) ?_
    refine y_iasN (x + 6 + 3 * i + 2) dX9_keep_149 hm.A_a (Nat.le_of_ble_eq_true rfl) (by first | rfl | (simp only [← nI_add, ← pk_mul]; rfl)) (by omega) ?_
    refine z_iinc dX9_keep_150 rfl (show _ = nI 3 from rfl) (Nat.le_of_ble_eq_true rfl) ?_
    refine z_goto dX9_keep_153 rfl ?_
    refine z_iload_n dX9_keep_124 rfl rfl ?_
    refine z_iconst (v := 3) dX9_keep_125 (by decide) ?_
    refine z_icmp_ge dX9_keep_126 rfl (fun _ => ?_) (fun c => absurd (by decide) c)
    refine z_iinc dX9_keep_156 rfl (nI_1 _) (Nat.le_of_ble_eq_true rfl) ?_
    refine z_goto dX9_keep_159 rfl ?_
    rw [prK_step]
    exact ih (i + 1) (by omega) (some (.int (nI 3))) K (fun _ => rfl)

