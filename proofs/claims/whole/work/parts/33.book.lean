/-! the book: both sides (walks by program: wip/whole/gen33.py) -/
/-- what an entry of the book tells: day, prophecy, what, how much -/
def bkF (a : Fl) (i w : Nat) : Nat := if w = 0 then a (4810 + 2 * i) else if w = 1 then a (4810 + 2 * i + 1) / 40000 else if w = 2 then a (4810 + 2 * i + 1) / 10000 % 4 else a (4810 + 2 * i + 1) % 10000
def mBook (a : Fl) (i w : Int32) : Int32 := if i = -1 then nI (a 12) else if vin i (a 12) ∧ inr w 0 3 then nI (bkF a (nn i) (nn w)) else -2
/-- the book's entries in their bounds -/
def IB (a : Fl) : Prop := ∀ i, i < a 12 → a (4810 + 2 * i) ≤ 9999 ∧ a (4810 + 2 * i + 1) < 480000 ∧ a (4810 + 2 * i + 1) / 10000 % 4 ≤ 2
def mLedger (a : Fl) (w : Int32) : Int32 := if inr w 0 2 then nI (sumF (fun i => if bkF a i 2 = nn w then bkF a i 3 else 0) (a 12)) else -2
theorem irem_n {a d : Nat} (ha : a < 2 ^ 31) (h0 : 0 < d) (hd : d < 2 ^ 31) : nI a - nI a / nI d * nI d = nI (a % d) := pk_rem ha h0 hd

theorem r_bookN {s : Ms} {h : Hp} {d : Nat} (hr : RM s h) (hv : IC s.1) (hb : IB s.1) {i w : Nat} (hi : i < s.1 12) (h30 : s.1 12 ≤ 30) (hw : w < 4) (hd : 1 ≤ d) : Sp d mX9_book [.ref 488, .int (nI i), .int (nI w)] h (some (.int (nI (bkF s.1 i w)))) h := by
  intro N S Q hN hS hQ
  have hm := hr.m
  have e12 : pI h 489 12 = nI (s.1 12) := hr.at (by omega) (by omega)
  have e0 : pI h 489 (4810 + 2 * i) = nI (s.1 (4810 + 2 * i)) := hr.at (by omega) (by omega)
  have ev : pI h 489 (4810 + 2 * i + 1) = nI (s.1 (4810 + 2 * i + 1)) := hr.at (by omega) (by omega)
  obtain ⟨-, b1, -⟩ := hb i hi
  unfold bkF at hQ
  generalize hn : s.1 12 = n at *
  generalize hvv : s.1 (4810 + 2 * i + 1) = v at *
  have hin : 0 ≤ nI i ∧ nI i ≤ nI n - 1 := (le_pred (by omega)).mpr ((vin_nI (by omega) (by omega)).mpr hi)
  rcases (show w = 0 ∨ w = 1 ∨ w = 2 ∨ w = 3 by omega) with q | q | q | q
  · subst q
    simp at hQ
    refine z_iload_n dX9_book_0 rfl rfl ?_
    refine z_iconst (v := -1) dX9_book_1 (by decide) ?_
    refine z_icmp_ne dX9_book_2 rfl (fun _ => ?_) (fun c => absurd c (nI_ne1 (by omega)))
    refine z_iload_n dX9_book_13 rfl rfl ?_
    refine z_iconst (v := 0) dX9_book_14 (by decide) ?_
    refine z_aload_n dX9_book_15 rfl rfl ?_
    refine y_getR FX9_7 dX9_book_16 rfl hm.o hm.f_a ?_
    refine z_bipush (v := 12) dX9_book_19 (by decide) ?_
    refine y_ialN (12) dX9_book_21 hm.A_a (Nat.le_of_ble_eq_true rfl) (by first | rfl | (simp only [← nI_add, ← pk_mul]; rfl)) (by omega) ?_
    refine z_eqi (y := nI (n)) e12 ?_
    refine z_iconst (v := 1) dX9_book_22 (by decide) ?_
    refine z_isub dX9_book_23 ?_
    refine y_callS (as := [_, _, _]) CX9_isIn LX9_63 SX9_isIn dX9_book_24 rfl (Nat.le_of_ble_eq_true rfl) (Nat.le_of_ble_eq_true rfl) (by omega) (r_isIn _ _ _) (rok_z bI_01) ⟨Nat.le_refl _, Nat.le_refl _, hN, hS⟩ ?_
    refine z_if_ne dX9_book_27 rfl (fun _ => ?_) (fun c => absurd c (bI_ne0.mpr hin))
    refine z_aload_n dX9_book_33 rfl rfl ?_
    refine y_getR FX9_7 dX9_book_34 rfl hm.o hm.f_a ?_
    refine z_sipush (v := 4810) dX9_book_37 (by decide) ?_
    refine z_iconst (v := 2) dX9_book_40 (by decide) ?_
    refine z_iload_n dX9_book_41 rfl rfl ?_
    refine z_imul dX9_book_42 ?_
    refine z_iadd dX9_book_43 ?_
    refine z_iconst (v := 1) dX9_book_44 (by decide) ?_
    refine z_iadd dX9_book_45 ?_
    refine y_ialN (4810 + (2 * i) + 1) dX9_book_46 hm.A_a (Nat.le_of_ble_eq_true rfl) (by first | rfl | (simp only [← nI_add, ← pk_mul]; rfl)) (by omega) ?_
    refine z_eqi (y := nI (v)) ev ?_
    refine z_istore_n dX9_book_47 rfl (Nat.le_of_ble_eq_true rfl) ?_
    refine z_iload_n dX9_book_48 rfl rfl ?_
    refine z_if_ne dX9_book_49 rfl (fun c => absurd (rfl) c) (fun _ => ?_)
    refine z_aload_n dX9_book_52 rfl rfl ?_
    refine y_getR FX9_7 dX9_book_53 rfl hm.o hm.f_a ?_
    refine z_sipush (v := 4810) dX9_book_56 (by decide) ?_
    refine z_iconst (v := 2) dX9_book_59 (by decide) ?_
    refine z_iload_n dX9_book_60 rfl rfl ?_
    refine z_imul dX9_book_61 ?_
    refine z_iadd dX9_book_62 ?_
    refine y_ialN (4810 + (2 * i)) dX9_book_63 hm.A_a (Nat.le_of_ble_eq_true rfl) (by first | rfl | (simp only [← nI_add, ← pk_mul]; rfl)) (by omega) ?_
    refine z_goto dX9_book_64 rfl ?_
    refine z_iret dX9_book_110 ?_
    rw [e0]
    exact hQ
  · subst q
    simp at hQ
    refine z_iload_n dX9_book_0 rfl rfl ?_
    refine z_iconst (v := -1) dX9_book_1 (by decide) ?_
    refine z_icmp_ne dX9_book_2 rfl (fun _ => ?_) (fun c => absurd c (nI_ne1 (by omega)))
    refine z_iload_n dX9_book_13 rfl rfl ?_
    refine z_iconst (v := 0) dX9_book_14 (by decide) ?_
    refine z_aload_n dX9_book_15 rfl rfl ?_
    refine y_getR FX9_7 dX9_book_16 rfl hm.o hm.f_a ?_
    refine z_bipush (v := 12) dX9_book_19 (by decide) ?_
    refine y_ialN (12) dX9_book_21 hm.A_a (Nat.le_of_ble_eq_true rfl) (by first | rfl | (simp only [← nI_add, ← pk_mul]; rfl)) (by omega) ?_
    refine z_eqi (y := nI (n)) e12 ?_
    refine z_iconst (v := 1) dX9_book_22 (by decide) ?_
    refine z_isub dX9_book_23 ?_
    refine y_callS (as := [_, _, _]) CX9_isIn LX9_63 SX9_isIn dX9_book_24 rfl (Nat.le_of_ble_eq_true rfl) (Nat.le_of_ble_eq_true rfl) (by omega) (r_isIn _ _ _) (rok_z bI_01) ⟨Nat.le_refl _, Nat.le_refl _, hN, hS⟩ ?_
    refine z_if_ne dX9_book_27 rfl (fun _ => ?_) (fun c => absurd c (bI_ne0.mpr hin))
    refine z_aload_n dX9_book_33 rfl rfl ?_
    refine y_getR FX9_7 dX9_book_34 rfl hm.o hm.f_a ?_
    refine z_sipush (v := 4810) dX9_book_37 (by decide) ?_
    refine z_iconst (v := 2) dX9_book_40 (by decide) ?_
    refine z_iload_n dX9_book_41 rfl rfl ?_
    refine z_imul dX9_book_42 ?_
    refine z_iadd dX9_book_43 ?_
    refine z_iconst (v := 1) dX9_book_44 (by decide) ?_
    refine z_iadd dX9_book_45 ?_
    refine y_ialN (4810 + (2 * i) + 1) dX9_book_46 hm.A_a (Nat.le_of_ble_eq_true rfl) (by first | rfl | (simp only [← nI_add, ← pk_mul]; rfl)) (by omega) ?_
    refine z_eqi (y := nI (v)) ev ?_
    refine z_istore_n dX9_book_47 rfl (Nat.le_of_ble_eq_true rfl) ?_
    refine z_iload_n dX9_book_48 rfl rfl ?_
    refine z_if_ne dX9_book_49 rfl (fun _ => ?_) (fun c => absurd c (by decide))
    refine z_iload_n dX9_book_67 rfl rfl ?_
    refine z_iconst (v := 1) dX9_book_68 (by decide) ?_
    refine z_icmp_ne dX9_book_69 rfl (fun c => absurd (rfl) c) (fun _ => ?_)
    refine z_iload_n dX9_book_72 rfl rfl ?_
    refine z_ldcw (v := 40000) dX9_book_73 Kc_X9_431 ?_
    refine z_idiv dX9_book_76 (by decide) ?_
    refine z_eqi (pk_div (a := v) (d := 40000) (by omega) (by omega) (by omega)) ?_
    refine z_goto dX9_book_77 rfl ?_
    refine z_iret dX9_book_110 ?_
    exact hQ
  · subst q
    simp at hQ
    refine z_iload_n dX9_book_0 rfl rfl ?_
    refine z_iconst (v := -1) dX9_book_1 (by decide) ?_
    refine z_icmp_ne dX9_book_2 rfl (fun _ => ?_) (fun c => absurd c (nI_ne1 (by omega)))
    refine z_iload_n dX9_book_13 rfl rfl ?_
    refine z_iconst (v := 0) dX9_book_14 (by decide) ?_
    refine z_aload_n dX9_book_15 rfl rfl ?_
    refine y_getR FX9_7 dX9_book_16 rfl hm.o hm.f_a ?_
    refine z_bipush (v := 12) dX9_book_19 (by decide) ?_
    refine y_ialN (12) dX9_book_21 hm.A_a (Nat.le_of_ble_eq_true rfl) (by first | rfl | (simp only [← nI_add, ← pk_mul]; rfl)) (by omega) ?_
    refine z_eqi (y := nI (n)) e12 ?_
    refine z_iconst (v := 1) dX9_book_22 (by decide) ?_
    refine z_isub dX9_book_23 ?_
    refine y_callS (as := [_, _, _]) CX9_isIn LX9_63 SX9_isIn dX9_book_24 rfl (Nat.le_of_ble_eq_true rfl) (Nat.le_of_ble_eq_true rfl) (by omega) (r_isIn _ _ _) (rok_z bI_01) ⟨Nat.le_refl _, Nat.le_refl _, hN, hS⟩ ?_
    refine z_if_ne dX9_book_27 rfl (fun _ => ?_) (fun c => absurd c (bI_ne0.mpr hin))
    refine z_aload_n dX9_book_33 rfl rfl ?_
    refine y_getR FX9_7 dX9_book_34 rfl hm.o hm.f_a ?_
    refine z_sipush (v := 4810) dX9_book_37 (by decide) ?_
    refine z_iconst (v := 2) dX9_book_40 (by decide) ?_
    refine z_iload_n dX9_book_41 rfl rfl ?_
    refine z_imul dX9_book_42 ?_
    refine z_iadd dX9_book_43 ?_
    refine z_iconst (v := 1) dX9_book_44 (by decide) ?_
    refine z_iadd dX9_book_45 ?_
    refine y_ialN (4810 + (2 * i) + 1) dX9_book_46 hm.A_a (Nat.le_of_ble_eq_true rfl) (by first | rfl | (simp only [← nI_add, ← pk_mul]; rfl)) (by omega) ?_
    refine z_eqi (y := nI (v)) ev ?_
    refine z_istore_n dX9_book_47 rfl (Nat.le_of_ble_eq_true rfl) ?_
    refine z_iload_n dX9_book_48 rfl rfl ?_
    refine z_if_ne dX9_book_49 rfl (fun _ => ?_) (fun c => absurd c (by decide))
    refine z_iload_n dX9_book_67 rfl rfl ?_
    refine z_iconst (v := 1) dX9_book_68 (by decide) ?_
    refine z_icmp_ne dX9_book_69 rfl (fun _ => ?_) (fun c => absurd c (by decide))
    refine z_iload_n dX9_book_80 rfl rfl ?_
    refine z_iconst (v := 2) dX9_book_81 (by decide) ?_
    refine z_icmp_ne dX9_book_82 rfl (fun c => absurd (rfl) c) (fun _ => ?_)
    refine z_iload_n dX9_book_85 rfl rfl ?_
    refine z_sipush (v := 10000) dX9_book_86 (by decide) ?_
    refine z_idiv dX9_book_89 (by decide) ?_
    refine z_eqi (pk_div (a := v) (d := 10000) (by omega) (by omega) (by omega)) ?_
    refine z_iconst (v := 4) dX9_book_90 (by decide) ?_
    refine z_irem dX9_book_91 (by decide) ?_
    refine z_eqi (irem_n (a := v / 10000) (d := 4) (by omega) (by omega) (by omega)) ?_
    refine z_goto dX9_book_92 rfl ?_
    refine z_iret dX9_book_110 ?_
    exact hQ
  · subst q
    simp at hQ
    refine z_iload_n dX9_book_0 rfl rfl ?_
    refine z_iconst (v := -1) dX9_book_1 (by decide) ?_
    refine z_icmp_ne dX9_book_2 rfl (fun _ => ?_) (fun c => absurd c (nI_ne1 (by omega)))
    refine z_iload_n dX9_book_13 rfl rfl ?_
    refine z_iconst (v := 0) dX9_book_14 (by decide) ?_
    refine z_aload_n dX9_book_15 rfl rfl ?_
    refine y_getR FX9_7 dX9_book_16 rfl hm.o hm.f_a ?_
    refine z_bipush (v := 12) dX9_book_19 (by decide) ?_
    refine y_ialN (12) dX9_book_21 hm.A_a (Nat.le_of_ble_eq_true rfl) (by first | rfl | (simp only [← nI_add, ← pk_mul]; rfl)) (by omega) ?_
    refine z_eqi (y := nI (n)) e12 ?_
    refine z_iconst (v := 1) dX9_book_22 (by decide) ?_
    refine z_isub dX9_book_23 ?_
    refine y_callS (as := [_, _, _]) CX9_isIn LX9_63 SX9_isIn dX9_book_24 rfl (Nat.le_of_ble_eq_true rfl) (Nat.le_of_ble_eq_true rfl) (by omega) (r_isIn _ _ _) (rok_z bI_01) ⟨Nat.le_refl _, Nat.le_refl _, hN, hS⟩ ?_
    refine z_if_ne dX9_book_27 rfl (fun _ => ?_) (fun c => absurd c (bI_ne0.mpr hin))
    refine z_aload_n dX9_book_33 rfl rfl ?_
    refine y_getR FX9_7 dX9_book_34 rfl hm.o hm.f_a ?_
    refine z_sipush (v := 4810) dX9_book_37 (by decide) ?_
    refine z_iconst (v := 2) dX9_book_40 (by decide) ?_
    refine z_iload_n dX9_book_41 rfl rfl ?_
    refine z_imul dX9_book_42 ?_
    refine z_iadd dX9_book_43 ?_
    refine z_iconst (v := 1) dX9_book_44 (by decide) ?_
    refine z_iadd dX9_book_45 ?_
    refine y_ialN (4810 + (2 * i) + 1) dX9_book_46 hm.A_a (Nat.le_of_ble_eq_true rfl) (by first | rfl | (simp only [← nI_add, ← pk_mul]; rfl)) (by omega) ?_
    refine z_eqi (y := nI (v)) ev ?_
    refine z_istore_n dX9_book_47 rfl (Nat.le_of_ble_eq_true rfl) ?_
    refine z_iload_n dX9_book_48 rfl rfl ?_
    refine z_if_ne dX9_book_49 rfl (fun _ => ?_) (fun c => absurd c (by decide))
    refine z_iload_n dX9_book_67 rfl rfl ?_
    refine z_iconst (v := 1) dX9_book_68 (by decide) ?_
    refine z_icmp_ne dX9_book_69 rfl (fun _ => ?_) (fun c => absurd c (by decide))
    refine z_iload_n dX9_book_80 rfl rfl ?_
    refine z_iconst (v := 2) dX9_book_81 (by decide) ?_
    refine z_icmp_ne dX9_book_82 rfl (fun _ => ?_) (fun c => absurd c (by decide))
    refine z_iload_n dX9_book_95 rfl rfl ?_
    refine z_iconst (v := 3) dX9_book_96 (by decide) ?_
    refine z_icmp_ne dX9_book_97 rfl (fun c => absurd (rfl) c) (fun _ => ?_)
    refine z_iload_n dX9_book_100 rfl rfl ?_
    refine z_sipush (v := 10000) dX9_book_101 (by decide) ?_
    refine z_irem dX9_book_104 (by decide) ?_
    refine z_eqi (irem_n (a := v) (d := 10000) (by omega) (by omega) (by omega)) ?_
    refine z_goto dX9_book_105 rfl ?_
    refine z_iret dX9_book_110 ?_
    exact hQ


