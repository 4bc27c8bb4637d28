/-! rows and worlds are taken from others (walks by program: wip/whole/gen36.py) -/
theorem mmin_n {x y : Nat} (hx : x < 2 ^ 31) (hy : y < 2 ^ 31) : (if nI y < nI x then nI y else nI x) = nI (min x y) := by
  by_cases h : y < x
  · rw [if_pos ((nI_ltI hy hx).mpr h), Nat.min_eq_right (by omega)]
  · rw [if_neg (fun q => h ((nI_ltI hy hx).mp q)), Nat.min_eq_left (by omega)]
theorem mmax_n {x y : Nat} (hx : x < 2 ^ 31) (hy : y < 2 ^ 31) : (if nI x < nI y then nI y else nI x) = nI (max x y) := by
  by_cases h : x < y
  · rw [if_pos ((nI_ltI hx hy).mpr h), Nat.max_eq_right (by omega)]
  · rw [if_neg (fun q => h ((nI_ltI hx hy).mp q)), Nat.max_eq_left (by omega)]
theorem y_copyN {d N S : Nat} {M : Mi} {pc : Nat} {lv : List (Option Value)} {st : List Value} {h : Hp} {Q : Option Value → Hp → Prop} {k k0 index n0 n1 : Nat} (p q m : Nat) (hL : Cond.methodLink M.1.cls index arraycopyName ∈ TB) (hd : decode M.2.1 pc = .ok (.invokestatic index, 3)) (hdd : 1 ≤ d) (hroom : (st.map fun v => v.category).sum ≤ 8) (h0 : IA h 10 n0 k0) (h1 : IA h 10 n1 k) {x y z : Int32} (ex : x = nI p) (ey : y = nI q) (ez : z = nI m) (g1 : p + m ≤ n0) (g2 : q + m ≤ n1) (hn : n0 < 2 ^ 31 ∧ n1 < 2 ^ 31)
    (kk : T d N S M (pc + 3) lv st (sA h k (va_cpy (pI h k0) (pI h k) p q m)) Q) : T d N S M pc lv (.int z :: .int y :: .ref k :: .int x :: .ref k0 :: st) h Q := by
  subst ex; subst ey; subst ez
  refine z_copy hL Kcopy_native Kcopy_static Kini_System hd hdd hroom h0.1 h0.2.1 h0.2.2 h1.1 h1.2.1 h1.2.2 (nI_pos (by omega)) (nI_pos (by omega)) (nI_pos (by omega)) (by rw [nI_clamp (by omega), nI_clamp (by omega)]; exact g1) (by rw [nI_clamp (by omega), nI_clamp (by omega)]; exact g2) ?_
  rw [nI_clamp (by omega), nI_clamp (by omega), nI_clamp (by omega)]
  exact kk
/-- rows taken from others -/
def takeH (h : Hp) (k k2 w n2 m : Nat) : Hp := sI (sA h (k + 1) (va_cpy (pI h (k2 + 1)) (pI h (k + 1)) 0 0 (n2 * w))) k 3 (nI m)
theorem takeH_ss {h : Hp} {k k2 w n2 m : Nat} : SS h (takeH h k k2 w n2 m) := rfl
theorem takeH_j {h : Hp} {k k2 w n2 m : Nat} : pJ (takeH h k k2 w n2 m) = pJ h := rfl
theorem takeH_ne {h : Hp} {k k2 w n2 m a : Nat} (h1 : a ≠ k) (h2 : a ≠ k + 1) : pI (takeH h k k2 w n2 m) a = pI h a := by
  unfold takeH
  rw [pI_sI_ne h1, pI_sA_ne h2]
theorem takeH_at {h : Hp} {k k2 w n2 m j : Nat} : pI (takeH h k k2 w n2 m) (k + 1) j = if j < n2 * w then pI h (k2 + 1) j else pI h (k + 1) j := by
  unfold takeH
  rw [pI_sI_ne (by omega), pI_sA, if_pos rfl]
  unfold va_cpy
  by_cases hj : j < n2 * w
  · rw [if_pos ⟨by omega, by omega⟩, if_pos hj]
    congr 1
    omega
  · rw [if_neg (by omega), if_neg hj]
theorem takeH_c {h : Hp} {k k2 w ms n n2 m : Nat} (hc : RwC h k w ms n) (hm : m ≤ ms) : RwC (takeH h k k2 w n2 m) k w ms m := by
  obtain ⟨c0, c1, c3, c4, c5, c6, c7⟩ := hc
  unfold takeH RwC
  refine ⟨?_, ?_, ?_, hm, c5, c6, c7⟩
  · rw [pI_sI, if_pos rfl, if_neg (by omega), pI_sA_ne (by omega)]; exact c0
  · rw [pI_sI, if_pos rfl, if_neg (by omega), pI_sA_ne (by omega)]; exact c1
  · rw [pI_sI, if_pos rfl, if_pos rfl]

theorem s_take {h : Hp} {d k k2 w ms n n2 kp : Nat} (hR : RwS h k w ms) (hC : RwC h k w ms n) (gR : RwS h k2 w ms) (gC : RwC h k2 w ms n2) (hkp : kp ≤ ms) (hne : k2 ≠ k ∧ k2 ≠ k + 1) (hd : 1 ≤ d) : Sp d mX4_take [.ref k, .ref k2, .int (nI kp)] h none (takeH h k k2 w n2 (max kp n2)) := by
  intro N S Q hN hS hQ
  obtain ⟨hR1, hR2, hR3⟩ := hR
  obtain ⟨gR1, gR2, gR3⟩ := gR
  obtain ⟨h0, h1, h3, h4, h5, h6, h7⟩ := hC
  obtain ⟨g0, g1, g3, g4, g5, g6, g7⟩ := gC
  have hsm := rows_small h7 h6
  have hle : n2 * w ≤ ms * w := Nat.mul_le_mul_right w g4
  have hmx : max kp n2 ≤ ms := Nat.max_le.mpr ⟨hkp, g4⟩
  have e1 : (if Int32.ofNat (ms * w) < Int32.ofNat (ms * w) then Int32.ofNat (ms * w) else Int32.ofNat (ms * w)) = nI (ms * w) := by rw [ite_self]; rfl
  have e2 : (if nI (ms * w) < nI (n2 * w) then nI (ms * w) else nI (n2 * w)) = nI (n2 * w) := by rw [mmin_n (by omega) (by omega), Nat.min_eq_left hle]
  have e3 : (if (0 : Int32) < nI (n2 * w) then nI (n2 * w) else 0) = nI (n2 * w) := by
    have := mmax_n (x := 0) (y := n2 * w) (by omega) (by omega)
    rw [Nat.max_eq_right (by omega)] at this
    exact this
  refine z_aload_n dX4_take_0 rfl rfl ?_
  refine y_getI FX4_28 dX4_take_1 (Or.inl rfl) gR1 ?_
  refine z_eqi (y := nI (n2)) (show _ = nI (n2) by first | exact g3 | (rw [pI_sA_ne (by omega)]; exact g3)) ?_
  refine z_aload_n dX4_take_4 rfl rfl ?_
  refine y_getI FX4_21 dX4_take_5 (Or.inl rfl) gR1 ?_
  refine z_eqi (y := nI (w)) (show _ = nI (w) by first | exact g1 | (rw [pI_sA_ne (by omega)]; exact g1)) ?_
  refine z_imul dX4_take_8 ?_
  refine z_eqi (pk_mul n2 w) ?_
  refine z_aload_n dX4_take_9 rfl rfl ?_
  refine y_getR FX4_24 dX4_take_10 rfl gR1 gR2 ?_
  refine y_alen dX4_take_13 gR3 ⟨Nat.le_of_ble_eq_true rfl, Nat.le_of_ble_eq_true rfl⟩ rfl ?_
  refine z_aload_n dX4_take_14 rfl rfl ?_
  refine y_getR FX4_24 dX4_take_15 rfl hR1 hR2 ?_
  refine y_alen dX4_take_18 hR3 ⟨Nat.le_of_ble_eq_true rfl, Nat.le_of_ble_eq_true rfl⟩ rfl ?_
  refine z_mmin Kmin_X4_43 Kmin_static Kini_Math Kmin_code dX4_take_19 (by omega) (Nat.le_of_ble_eq_true rfl) ?_
  refine z_eqi e1 ?_
  refine z_mmin Kmin_X4_43 Kmin_static Kini_Math Kmin_code dX4_take_22 (by omega) (Nat.le_of_ble_eq_true rfl) ?_
  refine z_eqi e2 ?_
  refine z_istore_n dX4_take_25 rfl (Nat.le_of_ble_eq_true rfl) ?_
  refine z_aload_n dX4_take_26 rfl rfl ?_
  refine y_getR FX4_24 dX4_take_27 rfl gR1 gR2 ?_
  refine z_iconst (v := 0) dX4_take_30 (by decide) ?_
  refine z_aload_n dX4_take_31 rfl rfl ?_
  refine y_getR FX4_24 dX4_take_32 rfl hR1 hR2 ?_
  refine z_iconst (v := 0) dX4_take_35 (by decide) ?_
  refine z_iconst (v := 0) dX4_take_36 (by decide) ?_
  refine z_iload_n dX4_take_37 rfl rfl ?_
  refine z_mmax Kmax_X4_9 Kmax_static Kini_Math Kmax_code dX4_take_38 (by omega) (Nat.le_of_ble_eq_true rfl) ?_
  refine z_eqi (show _ = nI (n2 * w) from e3) ?_
  refine y_copyN 0 0 (n2 * w) Kcopy_X4_37 dX4_take_41 (by omega) (Nat.le_of_ble_eq_true rfl) gR3 hR3 rfl rfl rfl (by omega) (by omega) ⟨by omega, by omega⟩ ?_
  refine z_aload_n dX4_take_44 rfl rfl ?_
  refine z_aload_n dX4_take_45 rfl rfl ?_
  refine y_getI FX4_15 dX4_take_46 (Or.inl rfl) hR1 ?_
  refine z_eqi (y := nI (ms)) (show _ = nI (ms) by first | exact h0 | (rw [pI_sA_ne (by omega)]; exact h0)) ?_
  refine z_iload_n dX4_take_49 rfl rfl ?_
  refine z_aload_n dX4_take_50 rfl rfl ?_
  refine y_getI FX4_28 dX4_take_51 (Or.inl rfl) gR1 ?_
  refine z_eqi (y := nI (n2)) (show _ = nI (n2) by first | exact g3 | (rw [pI_sA_ne (by omega)]; exact g3)) ?_
  refine z_mmax Kmax_X4_9 Kmax_static Kini_Math Kmax_code dX4_take_54 (by omega) (Nat.le_of_ble_eq_true rfl) ?_
  refine z_eqi (mmax_n (x := kp) (y := n2) (by omega) (by omega)) ?_
  refine z_mmin Kmin_X4_43 Kmin_static Kini_Math Kmin_code dX4_take_57 (by omega) (Nat.le_of_ble_eq_true rfl) ?_
  refine z_eqi (show _ = nI (max kp n2) by rw [mmin_n (by omega) (by omega), Nat.min_eq_right (by omega)]) ?_
  refine y_putI FX4_28 dX4_take_60 (Or.inl rfl) (Or.inl rfl) hR1 ?_
  refine z_vret dX4_take_63 ?_
  exact hQ

