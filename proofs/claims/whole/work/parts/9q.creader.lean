/-! the class's reader: its shape, its smallest methods (wip/whole/gen9q.py) -/
/-- the reader's shape -/
def CR (h : Hp) : Prop := IO h 2 472 ∧ pR h 472 0 = some 473 ∧ IO h 6 473 ∧ (pR h 473 0 = some 474 ∧ IA h 10 301 474) ∧ (pR h 473 1 = some 475 ∧ IA h 10 301 475) ∧ (pR h 473 2 = some 476 ∧ IA h 10 301 476) ∧ (pR h 472 1 = some 477 ∧ IA h 10 300 477)
theorem SS.cr {h h1 : Hp} (hs : SS h h1) (c : CR h) : CR h1 := ⟨hs.O c.1, by rw [hs.R]; exact c.2.1, hs.O c.2.2.1, ⟨by rw [hs.R]; exact c.2.2.2.1.1, hs.A c.2.2.2.1.2⟩, ⟨by rw [hs.R]; exact c.2.2.2.2.1.1, hs.A c.2.2.2.2.1.2⟩, ⟨by rw [hs.R]; exact c.2.2.2.2.2.1.1, hs.A c.2.2.2.2.2.1.2⟩, ⟨by rw [hs.R]; exact c.2.2.2.2.2.2.1, hs.A c.2.2.2.2.2.2.2⟩⟩

theorem c_blame0 {h : Hp} {d z : Nat} (cr : CR h) (h5 : pI h 472 5 = nI 0) : Sp d mX2_blame [.ref 472, .int (nI z)] h none (sI h 472 5 (nI z)) := by
  intro N S Q hN hS hQ
  refine z_aload_n dX2_blame_0 rfl rfl ?_
  refine y_getI FX2_40 dX2_blame_1 (Or.inl rfl) cr.1 ?_
  refine z_eqi h5 ?_
  refine z_if_ne dX2_blame_4 rfl (fun c => absurd (rfl) c) (fun _ => ?_)
  refine z_aload_n dX2_blame_7 rfl rfl ?_
  refine z_iload_n dX2_blame_8 rfl rfl ?_
  refine y_putI FX2_40 dX2_blame_9 (Or.inl rfl) (Or.inl rfl) cr.1 ?_
  refine z_vret dX2_blame_12 ?_
  exact hQ
theorem c_blame1 {h : Hp} {d z w : Nat} (cr : CR h) (h5 : pI h 472 5 = nI w) (hw : 1 ≤ w ∧ w ≤ 9) : Sp d mX2_blame [.ref 472, .int (nI z)] h none h := by
  intro N S Q hN hS hQ
  refine z_aload_n dX2_blame_0 rfl rfl ?_
  refine y_getI FX2_40 dX2_blame_1 (Or.inl rfl) cr.1 ?_
  refine z_eqi (y := nI (w)) h5 ?_
  refine z_if_ne dX2_blame_4 rfl (fun _ => ?_) (fun c => absurd c (fun q => absurd ((nI_eq (b := 0) (by omega) (by omega)).mp q) (by omega)))
  refine z_vret dX2_blame_12 ?_
  exact hQ

theorem c_numberAt {h : Hp} {d n i : Nat} (cr : CR h) (h3 : pI h 473 3 = nI n) (hn : n ≤ 301) (hi : i < n) : Sp d mX6_numberAt [.ref 473, .int (nI i)] h (some (.int (pI h 475 i))) h := by
  intro N S Q hN hS hQ
  refine z_iload_n dX6_numberAt_0 rfl rfl ?_
  refine z_if_lt dX6_numberAt_1 rfl (fun c => absurd c (nI_pos (by omega))) (fun _ => ?_)
  refine z_iload_n dX6_numberAt_4 rfl rfl ?_
  refine z_aload_n dX6_numberAt_5 rfl rfl ?_
  refine y_getI FX6_21 dX6_numberAt_6 (Or.inl rfl) cr.2.2.1 ?_
  refine z_eqi (y := nI (n)) h3 ?_
  refine z_icmp_ge dX6_numberAt_9 rfl (fun c => absurd c (fun q => absurd ((nI_leI (by omega) (by omega)).mp q) (by omega))) (fun _ => ?_)
  refine z_iload_n dX6_numberAt_12 rfl rfl ?_
  refine z_aload_n dX6_numberAt_13 rfl rfl ?_
  refine y_getR FX6_15 dX6_numberAt_14 rfl cr.2.2.1 cr.2.2.2.2.1.1 ?_
  refine y_alen dX6_numberAt_17 cr.2.2.2.2.1.2 ⟨Nat.le_of_ble_eq_true rfl, Nat.le_of_ble_eq_true rfl⟩ rfl ?_
  refine z_icmp_ge dX6_numberAt_18 rfl (fun c => absurd c (fun q => absurd ((nI_leI (a := 301) (by omega) (by omega)).mp q) (by omega))) (fun _ => ?_)
  refine z_aload_n dX6_numberAt_21 rfl rfl ?_
  refine y_getR FX6_15 dX6_numberAt_22 rfl cr.2.2.1 cr.2.2.2.2.1.1 ?_
  refine z_iload_n dX6_numberAt_25 rfl rfl ?_
  refine y_ialN (i) dX6_numberAt_26 cr.2.2.2.2.1.2 (Nat.le_of_ble_eq_true rfl) (rfl) (by omega) ?_
  refine z_goto dX6_numberAt_27 rfl ?_
  refine z_iret dX6_numberAt_31 ?_
  exact hQ

theorem c_placeAt {h : Hp} {d n i : Nat} (cr : CR h) (h3 : pI h 473 3 = nI n) (hn : n ≤ 301) (hi : i < n) : Sp d mX6_placeAt [.ref 473, .int (nI i)] h (some (.int (pI h 476 i))) h := by
  intro N S Q hN hS hQ
  refine z_iload_n dX6_placeAt_0 rfl rfl ?_
  refine z_if_lt dX6_placeAt_1 rfl (fun c => absurd c (nI_pos (by omega))) (fun _ => ?_)
  refine z_iload_n dX6_placeAt_4 rfl rfl ?_
  refine z_aload_n dX6_placeAt_5 rfl rfl ?_
  refine y_getI FX6_21 dX6_placeAt_6 (Or.inl rfl) cr.2.2.1 ?_
  refine z_eqi (y := nI (n)) h3 ?_
  refine z_icmp_ge dX6_placeAt_9 rfl (fun c => absurd c (fun q => absurd ((nI_leI (by omega) (by omega)).mp q) (by omega))) (fun _ => ?_)
  refine z_iload_n dX6_placeAt_12 rfl rfl ?_
  refine z_aload_n dX6_placeAt_13 rfl rfl ?_
  refine y_getR FX6_18 dX6_placeAt_14 rfl cr.2.2.1 cr.2.2.2.2.2.1.1 ?_
  refine y_alen dX6_placeAt_17 cr.2.2.2.2.2.1.2 ⟨Nat.le_of_ble_eq_true rfl, Nat.le_of_ble_eq_true rfl⟩ rfl ?_
  refine z_icmp_ge dX6_placeAt_18 rfl (fun c => absurd c (fun q => absurd ((nI_leI (a := 301) (by omega) (by omega)).mp q) (by omega))) (fun _ => ?_)
  refine z_aload_n dX6_placeAt_21 rfl rfl ?_
  refine y_getR FX6_18 dX6_placeAt_22 rfl cr.2.2.1 cr.2.2.2.2.2.1.1 ?_
  refine z_iload_n dX6_placeAt_25 rfl rfl ?_
  refine y_ialN (i) dX6_placeAt_26 cr.2.2.2.2.2.1.2 (Nat.le_of_ble_eq_true rfl) (rfl) (by omega) ?_
  refine z_goto dX6_placeAt_27 rfl ?_
  refine z_iret dX6_placeAt_31 ?_
  exact hQ

