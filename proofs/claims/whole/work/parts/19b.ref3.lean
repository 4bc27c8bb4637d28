/-! the reference: the image, the book, the prophets (walks by program: wip/whole/gen19.py) -/
def cpyF (f g : Nat → Int32) (i : Nat) : Nat → Int32 := fun j => if j < i then f j else g j
theorem cpyF_0 {f g : Nat → Int32} : cpyF f g 0 = g := by
  funext j
  unfold cpyF
  rw [if_neg (by omega)]
theorem cpyF_s {f g : Nat → Int32} {i : Nat} (j : Nat) : (if j = i then f i else cpyF f g i j) = cpyF f g (i + 1) j := by
  unfold cpyF
  by_cases hj : j = i
  · subst hj; rw [if_pos rfl, if_pos (by omega)]
  · rw [if_neg hj]
    by_cases hx : j < i
    · rw [if_pos hx, if_pos (by omega)]
    · rw [if_neg hx, if_neg (by omega)]

theorem r_copy_loop {h : Hp} {d N S x y : Nat} {Q : Option Value → Hp → Prop} (hx : IA h 10 4870 x) (hy : IA h 10 4870 y) (hxy : x ≠ y) (hQ : Q none (sA h y (cpyF (pI h x) (pI h y) 4870))) : ∀ r i : Nat, i + r = 4870 → T d N S mX9_copy 2 [some (.ref x), some (.ref y), some (.int (nI i))] [] (sA h y (cpyF (pI h x) (pI h y) i)) Q := by
  intro r
  induction r with
  | zero =>
    intro i hi
    have e : i = 4870 := by omega
    subst e
    refine z_iload_n dX9_copy_2 rfl rfl ?_
    refine z_sipush (v := 4870) dX9_copy_3 (by decide) ?_
    refine z_icmp_ge dX9_copy_6 rfl (fun _ => ?_) (fun c => absurd (by decide) c)
    refine z_vret dX9_copy_21 ?_
    exact hQ
  | succ r ih =>
    intro i hi
    have e1 : pI (sA h y (cpyF (pI h x) (pI h y) i)) x i = pI h x i := by rw [pI_sA, if_neg hxy]
    refine z_iload_n dX9_copy_2 rfl rfl ?_
    refine z_sipush (v := 4870) dX9_copy_3 (by decide) ?_
    refine z_icmp_ge dX9_copy_6 rfl (fun c => absurd c (fun q => absurd ((nI_leI (a := 4870) (b := i) (by omega) (by omega)).mp q) (by omega))) (fun _ => ?_)
    refine z_aload_n dX9_copy_9 rfl rfl ?_
    refine z_iload_n dX9_copy_10 rfl rfl ?_
    refine z_aload_n dX9_copy_11 rfl rfl ?_
    refine z_iload_n dX9_copy_12 rfl rfl ?_
    refine y_ialN (i) dX9_copy_13 hx (Nat.le_of_ble_eq_true rfl) (by first | rfl | (simp only [← nI_add, ← pk_mul]; rfl)) (by omega) ?_
    refine y_iasN (i) dX9_copy_14 hy (Nat.le_of_ble_eq_true rfl) (by first | rfl | (simp only [← nI_add, ← pk_mul]; rfl)) (by omega) ?_
    refine z_iinc dX9_copy_15 rfl (nI_1 _) (Nat.le_of_ble_eq_true rfl) ?_
    refine z_goto dX9_copy_18 rfl ?_
    rw [e1, sI_sA, sA_congr cpyF_s]
    exact ih (i + 1) (by omega)

theorem r_copy {h : Hp} {d x y : Nat} (hx : IA h 10 4870 x) (hy : IA h 10 4870 y) (hxy : x ≠ y) : Sp d mX9_copy [.ref x, .ref y] h none (sA h y (cpyF (pI h x) (pI h y) 4870)) := by
  intro N S Q hN hS hQ
  refine z_iconst (v := 0) dX9_copy_0 (by decide) ?_
  refine z_istore_n dX9_copy_1 rfl (Nat.le_of_ble_eq_true rfl) ?_
  have hl := r_copy_loop (d := d) (N := N) (S := S) hx hy hxy hQ 4870 0 (by omega)
  rw [cpyF_0, sA_id] at hl
  exact hl

