/-! the class's reader goes on, writes code (wip/whole/gen9r.py) -/
theorem c_advance {h : Hp} {d n i : Nat} {i0 : Int32} (cr : CR h) (h3 : pI h 472 3 = i0) (e1 : i0 + 1 = nI i) (hc : pI h 473 3 = nI n) (hn : n ≤ 301) (hi : i < n) : Sp d mX2_advance [.ref 472] h none (sI (sI h 472 3 (nI i)) 472 4 (pI h 474 i)) := by
  intro N S Q hN hS hQ
  refine z_aload_n dX2_advance_0 rfl rfl ?_
  refine z_dup dX2_advance_1 rfl ?_
  refine y_getI FX2_33 dX2_advance_2 (Or.inl rfl) cr.1 ?_
  refine z_eqi h3 ?_
  refine z_iconst (v := 1) dX2_advance_5 (by decide) ?_
  refine z_iadd dX2_advance_6 ?_
  refine z_eqi e1 ?_
  refine y_putI FX2_33 dX2_advance_7 (Or.inl rfl) (Or.inl rfl) cr.1 ?_
  refine z_aload_n dX2_advance_10 rfl rfl ?_
  refine y_getI FX2_33 dX2_advance_11 (Or.inl rfl) cr.1 ?_
  refine z_eqi (y := nI (i)) (show _ = nI i by rw [pI_sI, if_pos rfl, if_pos rfl]) ?_
  refine z_if_lt dX2_advance_14 rfl (fun c => absurd c (nI_pos (by omega))) (fun _ => ?_)
  refine z_aload_n dX2_advance_17 rfl rfl ?_
  refine y_getI FX2_33 dX2_advance_18 (Or.inl rfl) cr.1 ?_
  refine z_eqi (y := nI (i)) (show _ = nI i by rw [pI_sI, if_pos rfl, if_pos rfl]) ?_
  refine z_aload_n dX2_advance_21 rfl rfl ?_
  refine y_getR FX2_12 dX2_advance_22 rfl cr.1 cr.2.1 ?_
  refine y_getI FX2_53 dX2_advance_25 (Or.inl rfl) cr.2.2.1 ?_
  refine z_eqi (y := nI (n)) (show _ = nI n by rw [pI_sI_ne (by omega)]; exact hc) ?_
  refine z_icmp_ge dX2_advance_28 rfl (fun c => absurd c (fun q => absurd ((nI_leI (by omega) (by omega)).mp q) (by omega))) (fun _ => ?_)
  refine z_aload_n dX2_advance_31 rfl rfl ?_
  refine y_getI FX2_33 dX2_advance_32 (Or.inl rfl) cr.1 ?_
  refine z_eqi (y := nI (i)) (show _ = nI i by rw [pI_sI, if_pos rfl, if_pos rfl]) ?_
  refine z_aload_n dX2_advance_35 rfl rfl ?_
  refine y_getR FX2_12 dX2_advance_36 rfl cr.1 cr.2.1 ?_
  refine y_getR FX2_56 dX2_advance_39 rfl cr.2.2.1 cr.2.2.2.1.1 ?_
  refine y_alen dX2_advance_42 cr.2.2.2.1.2 ⟨Nat.le_of_ble_eq_true rfl, Nat.le_of_ble_eq_true rfl⟩ rfl ?_
  refine z_icmp_ge dX2_advance_43 rfl (fun c => absurd c (fun q => absurd ((nI_leI (a := 301) (by omega) (by omega)).mp q) (by omega))) (fun _ => ?_)
  refine z_iconst (v := 1) dX2_advance_46 (by decide) ?_
  refine z_goto dX2_advance_47 rfl ?_
  refine z_istore_n dX2_advance_51 rfl (Nat.le_of_ble_eq_true rfl) ?_
  refine z_aload_n dX2_advance_52 rfl rfl ?_
  refine z_iload_n dX2_advance_53 rfl rfl ?_
  refine z_if_eq dX2_advance_54 rfl (fun c => absurd c (by decide)) (fun _ => ?_)
  refine z_aload_n dX2_advance_57 rfl rfl ?_
  refine y_getR FX2_12 dX2_advance_58 rfl cr.1 cr.2.1 ?_
  refine y_getR FX2_56 dX2_advance_61 rfl cr.2.2.1 cr.2.2.2.1.1 ?_
  refine z_aload_n dX2_advance_64 rfl rfl ?_
  refine y_getI FX2_33 dX2_advance_65 (Or.inl rfl) cr.1 ?_
  refine z_eqi (y := nI (i)) (show _ = nI i by rw [pI_sI, if_pos rfl, if_pos rfl]) ?_
  refine y_ialN (i) dX2_advance_68 cr.2.2.2.1.2 (Nat.le_of_ble_eq_true rfl) (rfl) (by omega) ?_
  refine z_eqi (show _ = pI h 474 i by rw [pI_sI_ne (by omega)]) ?_
  refine z_goto dX2_advance_69 rfl ?_
  refine y_putI FX2_43 dX2_advance_74 (Or.inl rfl) (Or.inl rfl) cr.1 ?_
  refine z_vret dX2_advance_77 ?_
  exact hQ
theorem c_advanceN {h : Hp} {d n i : Nat} {i0 : Int32} (cr : CR h) (h3 : pI h 472 3 = i0) (e1 : i0 + 1 = nI i) (hc : pI h 473 3 = nI n) (hn : n ≤ 301) (hi : n ≤ i) (hi2 : i ≤ 1000) : Sp d mX2_advance [.ref 472] h none (sI (sI h 472 3 (nI i)) 472 4 54) := by
  intro N S Q hN hS hQ
  refine z_aload_n dX2_advance_0 rfl rfl ?_
  refine z_dup dX2_advance_1 rfl ?_
  refine y_getI FX2_33 dX2_advance_2 (Or.inl rfl) cr.1 ?_
  refine z_eqi h3 ?_
  refine z_iconst (v := 1) dX2_advance_5 (by decide) ?_
  refine z_iadd dX2_advance_6 ?_
  refine z_eqi e1 ?_
  refine y_putI FX2_33 dX2_advance_7 (Or.inl rfl) (Or.inl rfl) cr.1 ?_
  refine z_aload_n dX2_advance_10 rfl rfl ?_
  refine y_getI FX2_33 dX2_advance_11 (Or.inl rfl) cr.1 ?_
  refine z_eqi (y := nI (i)) (show _ = nI i by rw [pI_sI, if_pos rfl, if_pos rfl]) ?_
  refine z_if_lt dX2_advance_14 rfl (fun c => absurd c (nI_pos (by omega))) (fun _ => ?_)
  refine z_aload_n dX2_advance_17 rfl rfl ?_
  refine y_getI FX2_33 dX2_advance_18 (Or.inl rfl) cr.1 ?_
  refine z_eqi (y := nI (i)) (show _ = nI i by rw [pI_sI, if_pos rfl, if_pos rfl]) ?_
  refine z_aload_n dX2_advance_21 rfl rfl ?_
  refine y_getR FX2_12 dX2_advance_22 rfl cr.1 cr.2.1 ?_
  refine y_getI FX2_53 dX2_advance_25 (Or.inl rfl) cr.2.2.1 ?_
  refine z_eqi (y := nI (n)) (show _ = nI n by rw [pI_sI_ne (by omega)]; exact hc) ?_
  refine z_icmp_ge dX2_advance_28 rfl (fun _ => ?_) (fun c => absurd ((nI_leI (by omega) (by omega)).mpr hi) c)
  refine z_iconst (v := 0) dX2_advance_50 (by decide) ?_
  refine z_istore_n dX2_advance_51 rfl (Nat.le_of_ble_eq_true rfl) ?_
  refine z_aload_n dX2_advance_52 rfl rfl ?_
  refine z_iload_n dX2_advance_53 rfl rfl ?_
  refine z_if_eq dX2_advance_54 rfl (fun _ => ?_) (fun c => absurd (by decide) c)
  refine z_bipush (v := 54) dX2_advance_72 (by decide) ?_
  refine y_putI FX2_43 dX2_advance_74 (Or.inl rfl) (Or.inl rfl) cr.1 ?_
  refine z_vret dX2_advance_77 ?_
  exact hQ
theorem c_emit0 {h : Hp} {d L : Nat} {v : Int32} (cr : CR h) (h5 : pI h 472 5 = nI 0) (h2 : pI h 472 2 = nI L) (hL : L < 300) : Sp d mX2_emit [.ref 472, .int v] h none (sI (sI h 477 L v) 472 2 (nI (L + 1))) := by
  intro N S Q hN hS hQ
  refine z_aload_n dX2_emit_0 rfl rfl ?_
  refine y_getI FX2_40 dX2_emit_1 (Or.inl rfl) cr.1 ?_
  refine z_eqi h5 ?_
  refine z_if_ne dX2_emit_4 rfl (fun c => absurd (rfl) c) (fun _ => ?_)
  refine z_aload_n dX2_emit_7 rfl rfl ?_
  refine y_getI FX2_105 dX2_emit_8 (Or.inl rfl) cr.1 ?_
  refine z_eqi (y := nI (L)) h2 ?_
  refine z_if_lt dX2_emit_11 rfl (fun c => absurd c (nI_pos (by omega))) (fun _ => ?_)
  refine z_aload_n dX2_emit_14 rfl rfl ?_
  refine y_getI FX2_105 dX2_emit_15 (Or.inl rfl) cr.1 ?_
  refine z_eqi (y := nI (L)) h2 ?_
  refine z_aload_n dX2_emit_18 rfl rfl ?_
  refine y_getR FX2_18 dX2_emit_19 rfl cr.1 cr.2.2.2.2.2.2.1 ?_
  refine y_alen dX2_emit_22 cr.2.2.2.2.2.2.2 ⟨Nat.le_of_ble_eq_true rfl, Nat.le_of_ble_eq_true rfl⟩ rfl ?_
  refine z_icmp_ge dX2_emit_23 rfl (fun c => absurd c (fun q => absurd ((nI_leI (a := 300) (by omega) (by omega)).mp q) (by omega))) (fun _ => ?_)
  refine z_aload_n dX2_emit_26 rfl rfl ?_
  refine y_getR FX2_18 dX2_emit_27 rfl cr.1 cr.2.2.2.2.2.2.1 ?_
  refine z_aload_n dX2_emit_30 rfl rfl ?_
  refine y_getI FX2_105 dX2_emit_31 (Or.inl rfl) cr.1 ?_
  refine z_eqi (y := nI (L)) h2 ?_
  refine z_iload_n dX2_emit_34 rfl rfl ?_
  refine y_iasN (L) dX2_emit_35 cr.2.2.2.2.2.2.2 (Nat.le_of_ble_eq_true rfl) (rfl) (by omega) ?_
  refine z_aload_n dX2_emit_36 rfl rfl ?_
  refine z_dup dX2_emit_37 rfl ?_
  refine y_getI FX2_105 dX2_emit_38 (Or.inl rfl) cr.1 ?_
  refine z_eqi (y := nI (L)) (show _ = nI L by rw [pI_sI_ne (by omega)]; exact h2) ?_
  refine z_iconst (v := 1) dX2_emit_41 (by decide) ?_
  refine z_iadd dX2_emit_42 ?_
  refine z_eqi (nI_1 L) ?_
  refine y_putI FX2_105 dX2_emit_43 (Or.inl rfl) (Or.inl rfl) cr.1 ?_
  refine z_vret dX2_emit_46 ?_
  exact hQ
theorem c_emit1 {h : Hp} {d w : Nat} {v : Int32} (cr : CR h) (h5 : pI h 472 5 = nI w) (hw : 1 ≤ w ∧ w ≤ 9) : Sp d mX2_emit [.ref 472, .int v] h none h := by
  intro N S Q hN hS hQ
  refine z_aload_n dX2_emit_0 rfl rfl ?_
  refine y_getI FX2_40 dX2_emit_1 (Or.inl rfl) cr.1 ?_
  refine z_eqi (y := nI (w)) h5 ?_
  refine z_if_ne dX2_emit_4 rfl (fun _ => ?_) (fun c => absurd c (fun q => absurd ((nI_eq (b := 0) (by omega) (by omega)).mp q) (by omega)))
  refine z_vret dX2_emit_46 ?_
  exact hQ

