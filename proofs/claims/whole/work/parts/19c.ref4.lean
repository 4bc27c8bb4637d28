/-! the reference: the tape, who rules (walks by program: wip/whole/gen19.py) -/
theorem pI_sI_ne9 {h : Hp} {k a i j : Nat} {v : Int32} (hne : a ≠ k) : pI (sI h k i v) a j = pI h a j := by
  rw [pI_sI, if_neg hne]

/-- a byte of a number -/
def bt (v : Int32) (k : Nat) : Nat := nn ((v >>> (nI k &&& 31)) &&& 255)
theorem bt_eq (v : Int32) (k : Nat) : (v >>> (nI k &&& 31)) &&& 255 = nI (bt v k) ∧ bt v k < 256 := by
  obtain ⟨j, hj, e⟩ := pk_andE (v >>> (nI k &&& 31)) (m := 255) 8 (by decide)
  unfold bt
  rw [e, nn_nI (by omega)]
  exact ⟨rfl, by omega⟩
def mFour (tp : Fl) (t : Nat) (v : Int32) : Fl := up (up (up (up tp t (bt v 24)) (t + 1) (bt v 16)) (t + 2) (bt v 8)) (t + 3) (bt v 0)

theorem r_four_it {h : Hp} {d N S t kk : Nat} {v : Int32} {Q : Option Value → Hp → Prop} (hm : SM h) (e : pI h 488 4 = nI t) (ht : t < 300) (hk : kk < 32) (K : T d N S mX9_four 3 [some (.ref 488), some (.int v), some (.int (nI kk + Int32.ofInt (-8)))] [] (sI (sI h 492 t (nI (bt v kk))) 488 4 (nI (t + 1))) Q) : T d N S mX9_four 3 [some (.ref 488), some (.int v), some (.int (nI kk))] [] h Q := by
  refine z_iload_n dX9_four_3 rfl rfl ?_
  refine z_if_lt dX9_four_4 rfl (fun c => absurd c (nI_pos (by omega))) (fun _ => ?_)
  refine z_aload_n dX9_four_7 rfl rfl ?_
  refine y_getR FX9_19 dX9_four_8 rfl hm.o hm.f_tape ?_
  refine z_aload_n dX9_four_11 rfl rfl ?_
  refine y_getI FX9_90 dX9_four_12 (Or.inl rfl) hm.o ?_
  refine z_eqi (y := nI (t)) (by first | exact e | (rw [pI_sI_ne9 (by omega)]; exact e)) ?_
  refine z_iload_n dX9_four_15 rfl rfl ?_
  refine z_iload_n dX9_four_16 rfl rfl ?_
  refine z_ishr dX9_four_17 ?_
  refine z_sipush (v := 255) dX9_four_18 (by decide) ?_
  refine z_iand dX9_four_21 ?_
  refine z_eqi (bt_eq v kk).1 ?_
  refine y_iasN (t) dX9_four_22 hm.A_tape (Nat.le_of_ble_eq_true rfl) (by first | rfl | (simp only [← nI_add, ← pk_mul]; rfl)) (by omega) ?_
  refine z_aload_n dX9_four_23 rfl rfl ?_
  refine z_dup dX9_four_24 rfl ?_
  refine y_getI FX9_90 dX9_four_25 (Or.inl rfl) hm.o ?_
  refine z_eqi (y := nI (t)) (by first | exact e | (rw [pI_sI_ne9 (by omega)]; exact e)) ?_
  refine z_iconst (v := 1) dX9_four_28 (by decide) ?_
  refine z_iadd dX9_four_29 ?_
  refine z_eqi (nI_1 t) ?_
  refine y_putI FX9_90 dX9_four_30 (Or.inl rfl) (Or.inl rfl) hm.o ?_
  refine z_iinc dX9_four_33 rfl rfl (Nat.le_of_ble_eq_true rfl) ?_
  refine z_goto dX9_four_36 rfl ?_
  exact K
theorem four_k : nI 24 + Int32.ofInt (-8) = nI 16 ∧ nI 16 + Int32.ofInt (-8) = nI 8 ∧ nI 8 + Int32.ofInt (-8) = nI 0 ∧ nI 0 + Int32.ofInt (-8) < 0 := by decide
/-- the reference's heap behind four bytes -/
def fourH (h : Hp) (t : Nat) (v : Int32) : Hp := sI (sI (sI (sI (sI (sI (sI (sI h 492 t (nI (bt v 24))) 488 4 (nI (t + 1))) 492 (t + 1) (nI (bt v 16))) 488 4 (nI (t + 1 + 1))) 492 (t + 1 + 1) (nI (bt v 8))) 488 4 (nI (t + 1 + 1 + 1))) 492 (t + 1 + 1 + 1) (nI (bt v 0))) 488 4 (nI (t + 1 + 1 + 1 + 1))

theorem r_four {h : Hp} {d : Nat} (hm : SM h) {t : Nat} {v : Int32} (e : pI h 488 4 = nI t) (ht : t + 4 ≤ 300) : Sp d mX9_four [.ref 488, .int v] h none (fourH h t v) := by
  intro N S Q hN hS hQ
  refine z_bipush (v := 24) dX9_four_0 (by decide) ?_
  refine z_istore_n dX9_four_2 rfl (Nat.le_of_ble_eq_true rfl) ?_
  refine r_four_it (t := t) (kk := 24) hm e (by omega) (by omega) ?_
  rw [four_k.1]
  refine r_four_it (t := t + 1) (kk := 16) hm (by rw [pI_sI, if_pos rfl, if_pos rfl]) (by omega) (by omega) ?_
  rw [four_k.2.1]
  refine r_four_it (t := t + 1 + 1) (kk := 8) hm (by rw [pI_sI, if_pos rfl, if_pos rfl]) (by omega) (by omega) ?_
  rw [four_k.2.2.1]
  refine r_four_it (t := t + 1 + 1 + 1) (kk := 0) hm (by rw [pI_sI, if_pos rfl, if_pos rfl]) (by omega) (by omega) ?_
  refine z_iload_n dX9_four_3 rfl rfl ?_
  refine z_if_lt dX9_four_4 rfl (fun _ => ?_) (fun c => absurd (four_k.2.2.2) c)
  refine z_vret dX9_four_39 ?_
  exact hQ

