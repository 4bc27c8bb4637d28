/-! the world as both sides hold it: reading and writing (walks by program: wip/whole/gen44.py) -/
def ppx (p c : Nat) : Nat := 6 + (p * 3 + c)
def pcx (k c : Nat) : Nat := 21 + (k * 6 + c)
theorem up_e {a : Fl} {i j v : Nat} (h : j = i) : up a i v j = v := by rw [h, up_s]
theorem wx_pp {p c : Nat} (hp : p < 5) (hc : c < 3) : wx (ppx p c) = 13 + 5 * p + c := by
  rw [← wx_p hp hc]
  unfold ppx
  exact congrArg wx (by omega)
theorem wx_pc {k c : Nat} (hk : k < 12) (hc : c < 6) : wx (pcx k c) = 38 + 6 * k + c := by
  have := wx_c (i := k * 6 + c) (by omega)
  unfold pcx
  rw [this]
  omega
/-- the reference's row holds the world W (else a) -/
theorem RM.w {s : Fl × Fl × Nat × Int32 × Int32 × (Nat → Int32)} {a W : Fl} {h : Hp} {i j v : Nat} {x : Int32} (hr : RM (uns a W, s) h) (hi : i = wx j) (hj : j < 153) (hx : x = nI v) : RM (uns a (up W j v), s) (sI h 489 i x) := by
  subst hi
  have := hr.aN (i := wx j) (v := v) (x := x) (wx_lt hj).2 hx
  show RM (uns a (up W j v), s) _
  rw [← uns_up hj]
  exact this
theorem RM.wat {s : Fl × Fl × Nat × Int32 × Int32 × (Nat → Int32)} {a W : Fl} {h : Hp} {i : Nat} (hr : RM (uns a W, s) h) (j : Nat) (hi : i = wx j) (hj : j < 153) : pI h 489 i = nI (W j) := by
  subst hi
  rw [hr.at (wx_lt hj).1 (wx_lt hj).2]
  show nI (uns a W (wx j)) = _
  rw [uns_wx hj]
theorem RM.un {s : Ms} {h : Hp} (hr : RM s h) : RM (uns s.1 (snap s.1), s.2) h := by rw [uns_snap]; exact hr
/-- what is outside of the world -/
theorem uns_o {a W : Fl} {i : Nat} (h : i ≠ 1 ∧ (i < 8 ∨ (110 ≤ i ∧ i < 4810))) : uns a W i = a i := by
  unfold uns
  rw [if_neg (by omega), if_neg (by omega), if_neg (by omega), if_neg (by omega), if_neg (by omega)]
theorem RM.oat {s : Fl × Fl × Nat × Int32 × Int32 × (Nat → Int32)} {a W : Fl} {h : Hp} {i : Nat} (hr : RM (uns a W, s) h) (hi : i ≠ 1 ∧ i ≠ 3 ∧ (i < 8 ∨ (110 ≤ i ∧ i < 4810))) : pI h 489 i = nI (a i) := by
  rw [hr.at (by omega) (by omega)]
  show nI (uns a W i) = _
  rw [uns_o (by omega)]
theorem WV.setP {h : Hp} {w p c v : Nat} {x : Int32} {W : Fl} (hv : WV h w W) (hp : p < W 0) (hc : c < 3) (hx : x = nI v) : WV (sI h (w + 1 + 1) (p * 3 + c) x) w (up W (ppx p c) v) := by
  obtain ⟨w1, w2, w3, w4, w5, w6, w7, w8, w9⟩ := hv
  have b0 := w4.2.2.2.1
  unfold ppx
  refine ⟨?_, ?_, ?_, ?_, fun i hi => ?_, ?_, fun i hi => ?_, ?_, fun i hi => ?_⟩
  · rw [pI_sI_ne (by omega), up_n (by omega)]; exact w1
  · rw [pI_sI_ne (by omega), up_n (by omega)]; exact w2
  · rw [pI_sI_ne (by omega), up_n (by omega)]; exact w3
  · rw [up_n (by omega)]; exact w4.fr (pI_sI_ne (by omega))
  · rw [up_n (by omega)] at hi
    rw [show w + 2 = w + 1 + 1 by omega, pI_sI, if_pos rfl]
    by_cases h1 : i = p * 3 + c
    · rw [if_pos h1, up_e (by omega), hx]
    · rw [if_neg h1, up_n (by omega)]; exact w5 i hi
  · rw [up_n (by omega)]; exact w6.fr (pI_sI_ne (by omega))
  · rw [up_n (by omega)] at hi
    rw [pI_sI_ne (by omega), up_n (by omega)]; exact w7 i hi
  · rw [up_n (by omega)]; exact w8.fr (pI_sI_ne (by omega))
  · rw [up_n (by omega)] at hi
    rw [pI_sI_ne (by omega), up_n (by omega), up_n (by omega)]; exact w9 i hi
theorem WV.setC {h : Hp} {w k c v : Nat} {x : Int32} {W : Fl} (hv : WV h w W) (hk : k < W 4) (hc : c < 6) (hx : x = nI v) : WV (sI h (w + 3 + 1) (k * 6 + c) x) w (up W (pcx k c) v) := by
  obtain ⟨w1, w2, w3, w4, w5, w6, w7, w8, w9⟩ := hv
  have b0 := w4.2.2.2.1
  have b4 := w6.2.2.2.1
  unfold pcx
  refine ⟨?_, ?_, ?_, ?_, fun i hi => ?_, ?_, fun i hi => ?_, ?_, fun i hi => ?_⟩
  · rw [pI_sI_ne (by omega), up_n (by omega)]; exact w1
  · rw [pI_sI_ne (by omega), up_n (by omega)]; exact w2
  · rw [pI_sI_ne (by omega), up_n (by omega)]; exact w3
  · rw [up_n (by omega)]; exact w4.fr (pI_sI_ne (by omega))
  · rw [up_n (by omega)] at hi
    rw [pI_sI_ne (by omega), up_n (by omega)]; exact w5 i hi
  · rw [up_n (by omega)]; exact w6.fr (pI_sI_ne (by omega))
  · rw [up_n (by omega)] at hi
    rw [show w + 4 = w + 3 + 1 by omega, pI_sI, if_pos rfl]
    by_cases h1 : i = k * 6 + c
    · rw [if_pos h1, up_e (by omega), hx]
    · rw [if_neg h1, up_n (by omega)]; exact w7 i hi
  · rw [up_n (by omega)]; exact w8.fr (pI_sI_ne (by omega))
  · rw [up_n (by omega)] at hi
    rw [pI_sI_ne (by omega), up_n (by omega), up_n (by omega)]; exact w9 i hi
theorem WV.set {h : Hp} {w j v : Nat} {x : Int32} {W : Fl} (hv : WV h w W) (hj : j < 3) (hx : x = nI v) : WV (sI h w j x) w (up W (j + 1) v) := by
  obtain ⟨w1, w2, w3, w4, w5, w6, w7, w8, w9⟩ := hv
  have b0 := w4.2.2.2.1
  have b4 := w6.2.2.2.1
  refine ⟨?_, ?_, ?_, ?_, fun i hi => ?_, ?_, fun i hi => ?_, ?_, fun i hi => ?_⟩
  · rw [pI_sI, if_pos rfl]
    by_cases h1 : 0 = j
    · rw [if_pos h1, up_e (by omega), hx]
    · rw [if_neg h1, up_n (by omega)]; exact w1
  · rw [pI_sI, if_pos rfl]
    by_cases h1 : 1 = j
    · rw [if_pos h1, up_e (by omega), hx]
    · rw [if_neg h1, up_n (by omega)]; exact w2
  · rw [pI_sI, if_pos rfl]
    by_cases h1 : 2 = j
    · rw [if_pos h1, up_e (by omega), hx]
    · rw [if_neg h1, up_n (by omega)]; exact w3
  · rw [up_n (by omega)]; exact w4.fr (pI_sI_ne (by omega))
  · rw [up_n (by omega)] at hi
    rw [pI_sI_ne (by omega), up_n (by omega)]; exact w5 i hi
  · rw [up_n (by omega)]; exact w6.fr (pI_sI_ne (by omega))
  · rw [up_n (by omega)] at hi
    rw [pI_sI_ne (by omega), up_n (by omega)]; exact w7 i hi
  · rw [up_n (by omega)]; exact w8.fr (pI_sI_ne (by omega))
  · rw [up_n (by omega)] at hi
    rw [pI_sI_ne (by omega), up_n (by omega), up_n (by omega)]; exact w9 i hi
/-- one more prophecy, of zeros -/
def gwC (W : Fl) : Fl := fun i => if i = 4 then W 4 + 1 else if pcx (W 4) 0 ≤ i ∧ i < pcx (W 4) 0 + 6 then 0 else W i
theorem WV.growC {h : Hp} {w : Nat} {W : Fl} (hv : WV h w W) (hk : W 4 < 12) : WV (growH h (w + 3) 6 (W 4)) w (gwC W) := by
  obtain ⟨w1, w2, w3, w4, w5, w6, w7, w8, w9⟩ := hv
  have b0 := w4.2.2.2.1
  have g : ∀ i, i ≠ 4 → ¬ (21 + (W 4 * 6 + 0) ≤ i ∧ i < 21 + (W 4 * 6 + 0) + 6) → gwC W i = W i := fun i h1 h2 => by
    unfold gwC pcx
    rw [if_neg h1, if_neg h2]
  have g4 : gwC W 4 = W 4 + 1 := rfl
  refine ⟨?_, ?_, ?_, ?_, fun i hi => ?_, ?_, fun i hi => ?_, ?_, fun i hi => ?_⟩
  · rw [growH_ne (by omega) (by omega), g 1 (by omega) (by omega)]; exact w1
  · rw [growH_ne (by omega) (by omega), g 2 (by omega) (by omega)]; exact w2
  · rw [growH_ne (by omega) (by omega), g 3 (by omega) (by omega)]; exact w3
  · rw [g 0 (by omega) (by omega)]; exact w4.fr (growH_ne (by omega) (by omega))
  · rw [g 0 (by omega) (by omega)] at hi
    rw [growH_ne (by omega) (by omega), g _ (by omega) (by omega)]; exact w5 i hi
  · rw [g4]; exact w6.grow hk
  · rw [g4] at hi
    rw [show w + 4 = w + 3 + 1 by omega, growH_at]
    by_cases h1 : W 4 * 6 ≤ i ∧ i < W 4 * 6 + 6
    · rw [if_pos h1]
      unfold gwC pcx
      rw [if_neg (by omega), if_pos (by omega)]
      rfl
    · rw [if_neg h1, g _ (by omega) (by omega)]; exact w7 i (by omega)
  · rw [g 5 (by omega) (by omega)]; exact w8.fr (growH_ne (by omega) (by omega))
  · rw [g 5 (by omega) (by omega)] at hi
    rw [growH_ne (by omega) (by omega), g _ (by omega) (by omega), g _ (by omega) (by omega)]; exact w9 i hi
theorem WV.p {h : Hp} {w p c : Nat} {W : Fl} (hv : WV h w W) (hp : p < W 0) (hc : c < 3) : pI h (w + 1 + 1) (p * 3 + c) = nI (W (ppx p c)) := hv.2.2.2.2.1 (p * 3 + c) (by omega)
theorem WV.k {h : Hp} {w k c : Nat} {W : Fl} (hv : WV h w W) (hk : k < W 4) (hc : c < 6) : pI h (w + 3 + 1) (k * 6 + c) = nI (W (pcx k c)) := hv.2.2.2.2.2.2.1 (k * 6 + c) (by omega)
def wGain (W : Fl) (p m : Nat) : Fl := up W (ppx p 0) (min 9999 (W (ppx p 0) + m))
def wLose (W : Fl) (p m : Nat) : Fl := up W (ppx p 0) (W (ppx p 0) - m)

theorem c_gain {h : Hp} {d w : Nat} {W : Fl} (hw : WoS h w) (hv : WV h w W) {p m : Nat} (hp : p < W 0) (hb : W (ppx p 0) ≤ 9999) (hm : m ≤ 9999) (hd : 1 ≤ d) : Sp d mX7_gain [.ref w, .int (nI p), .int (nI m)] h none (sI h (w + 1 + 1) (p * 3 + 0) (nI (min 9999 (W (ppx p 0) + m)))) := by
  intro N S Q hN hS hQ
  refine z_aload_n dX7_gain_0 rfl rfl ?_
  refine y_getR FX7_20 dX7_gain_1 rfl hw.1 hw.2.1 ?_
  refine z_iload_n dX7_gain_4 rfl rfl ?_
  refine z_iconst (v := 0) dX7_gain_5 (by decide) ?_
  refine y_callV (as := [_, _]) CX4_get LX7_48 IX4_get VX4_get ⟨rfl, Nat.le_of_ble_eq_true rfl⟩ dX7_gain_6 hw.2.2.1.1 rfl (Nat.le_of_ble_eq_true rfl) (Nat.le_of_ble_eq_true rfl) (by omega) (s_get (w := 3) (ms := 5) (i := p) (j := 0) (by exact hw.2.2.1) hv.2.2.2.1 hp (by omega)) rok_i ⟨Nat.le_refl _, Nat.le_refl _, hN, hS⟩ ?_
  refine z_eqi (hv.p hp (by omega)) ?_
  refine z_iload_n dX7_gain_9 rfl rfl ?_
  refine z_iadd dX7_gain_10 ?_
  refine z_eqi (nI_add _ m) ?_
  refine z_istore_n dX7_gain_11 rfl (Nat.le_of_ble_eq_true rfl) ?_
  refine z_aload_n dX7_gain_12 rfl rfl ?_
  refine y_getR FX7_20 dX7_gain_13 rfl hw.1 hw.2.1 ?_
  refine z_iload_n dX7_gain_16 rfl rfl ?_
  refine z_iconst (v := 0) dX7_gain_17 (by decide) ?_
  refine z_sipush (v := 9999) dX7_gain_18 (by decide) ?_
  refine z_iload_n dX7_gain_21 rfl rfl ?_
  refine z_mmin Kmin_X7_66 Kmin_static Kini_Math Kmin_code dX7_gain_22 (by omega) (Nat.le_of_ble_eq_true rfl) ?_
  refine z_eqi (show _ = nI (min 9999 (W (ppx p 0) + m)) from mmin_n (x := 9999) (y := W (ppx p 0) + m) (by omega) (by omega)) ?_
  refine y_callV (as := [_, _, _]) CX4_set LX7_71 IX4_set VX4_set ⟨rfl, Nat.le_of_ble_eq_true rfl⟩ dX7_gain_25 hw.2.2.1.1 rfl (Nat.le_of_ble_eq_true rfl) (Nat.le_of_ble_eq_true rfl) (by omega) (s_set (w := 3) (ms := 5) (i := p) (j := 0) (by exact hw.2.2.1) hv.2.2.2.1 hp (by omega)) rok_v ⟨Nat.le_refl _, Nat.le_refl _, hN, hS⟩ ?_
  refine z_vret dX7_gain_28 ?_
  exact hQ

theorem c_lose {h : Hp} {d w : Nat} {W : Fl} (hw : WoS h w) (hv : WV h w W) {p m : Nat} (hp : p < W 0) (hm : m ≤ W (ppx p 0)) (hd : 1 ≤ d) : Sp d mX7_lose [.ref w, .int (nI p), .int (nI m)] h none (sI h (w + 1 + 1) (p * 3 + 0) (nI (W (ppx p 0) - m))) := by
  intro N S Q hN hS hQ
  refine z_aload_n dX7_lose_0 rfl rfl ?_
  refine y_getR FX7_20 dX7_lose_1 rfl hw.1 hw.2.1 ?_
  refine z_iload_n dX7_lose_4 rfl rfl ?_
  refine z_iconst (v := 0) dX7_lose_5 (by decide) ?_
  refine z_aload_n dX7_lose_6 rfl rfl ?_
  refine y_getR FX7_20 dX7_lose_7 rfl hw.1 hw.2.1 ?_
  refine z_iload_n dX7_lose_10 rfl rfl ?_
  refine z_iconst (v := 0) dX7_lose_11 (by decide) ?_
  refine y_callV (as := [_, _]) CX4_get LX7_48 IX4_get VX4_get ⟨rfl, Nat.le_of_ble_eq_true rfl⟩ dX7_lose_12 hw.2.2.1.1 rfl (Nat.le_of_ble_eq_true rfl) (Nat.le_of_ble_eq_true rfl) (by omega) (s_get (w := 3) (ms := 5) (i := p) (j := 0) (by exact hw.2.2.1) hv.2.2.2.1 hp (by omega)) rok_i ⟨Nat.le_refl _, Nat.le_refl _, hN, hS⟩ ?_
  refine z_eqi (hv.p hp (by omega)) ?_
  refine z_iload_n dX7_lose_15 rfl rfl ?_
  refine z_isub dX7_lose_16 ?_
  refine z_eqi (pk_sub hm) ?_
  refine y_callV (as := [_, _, _]) CX4_set LX7_71 IX4_set VX4_set ⟨rfl, Nat.le_of_ble_eq_true rfl⟩ dX7_lose_17 hw.2.2.1.1 rfl (Nat.le_of_ble_eq_true rfl) (Nat.le_of_ble_eq_true rfl) (by omega) (s_set (w := 3) (ms := 5) (i := p) (j := 0) (by exact hw.2.2.1) hv.2.2.2.1 hp (by omega)) rok_v ⟨Nat.le_refl _, Nat.le_refl _, hN, hS⟩ ?_
  refine z_vret dX7_lose_20 ?_
  exact hQ

theorem and_bit {n k : Nat} (hk : k < 31) (hn : n < 2 ^ 31) : (nI n &&& (1 <<< (nI k &&& 31)) = 0) ↔ n.testBit k = false := by
  rw [nI_bit hk, nI_and, show (0 : Int32) = nI 0 from rfl, nI_eq (Nat.lt_of_le_of_lt Nat.and_le_left hn) (by omega)]
  constructor
  · intro q
    have := congrArg (fun m => m.testBit k) q
    simpa [Nat.testBit_and, Nat.testBit_two_pow_self] using this
  · intro q
    refine Nat.eq_of_testBit_eq (fun i => ?_)
    rw [Nat.testBit_and, Nat.testBit_two_pow]
    by_cases hi : k = i
    · subst hi; simp [q]
    · simp [hi]

theorem c_isSo {h : Hp} {d w : Nat} {W : Fl} (hw : WoS h w) (hv : WV h w W) {f : Nat} (hf : f < 31) (hb : W 3 < 256) (hd : 1 ≤ d) : Sp d mX7_isSo [.ref w, .int (nI f)] h (some (.int (bI ((W 3).testBit f = true)))) h := by
  intro N S Q hN hS hQ
  refine z_aload_n dX7_isSo_0 rfl rfl ?_
  refine y_getI FX7_33 dX7_isSo_1 (Or.inl rfl) hw.1 ?_
  refine z_eqi hv.2.2.1 ?_
  refine z_iload_n dX7_isSo_4 rfl rfl ?_
  refine y_callS (as := [_]) CX8_bit LX7_40 SX8_bit dX7_isSo_5 rfl (Nat.le_of_ble_eq_true rfl) (Nat.le_of_ble_eq_true rfl) (by omega) (s_bit _) rok_i ⟨Nat.le_refl _, Nat.le_refl _, hN, hS⟩ ?_
  refine z_iand dX7_isSo_8 ?_
  refine z_if_eq dX7_isSo_9 rfl (fun c9 => ?_) (fun c9 => ?_)
  · -- to 16
    refine z_iconst (v := 0) dX7_isSo_16 (by decide) ?_
    refine z_iret dX7_isSo_17 ?_
    first
      | (rw [bI_f (by rw [(and_bit hf (by omega)).mp c9]; decide)] at hQ; exact hQ)
      | (rw [bI_t (by have := fun q => c9 ((and_bit hf (by omega)).mpr q); simpa using this)] at hQ; exact hQ)
  · -- on
    refine z_iconst (v := 1) dX7_isSo_12 (by decide) ?_
    refine z_goto dX7_isSo_13 rfl ?_
    refine z_iret dX7_isSo_17 ?_
    first
      | (rw [bI_f (by rw [(and_bit hf (by omega)).mp c9]; decide)] at hQ; exact hQ)
      | (rw [bI_t (by have := fun q => c9 ((and_bit hf (by omega)).mpr q); simpa using this)] at hQ; exact hQ)

theorem r_cut {h : Hp} {d : Nat} (v : Int64) (lo hi : Int32) : Sp d mX9_cut [.long v, .int lo, .int hi] h (some (.int (if v < lo.toInt64 then lo else if hi.toInt64 < v then hi else v.toInt32))) h := by
  intro N S Q hN hS hQ
  refine z_lload_n dX9_cut_0 rfl rfl ?_
  refine z_iload_n dX9_cut_1 rfl rfl ?_
  refine z_i2l dX9_cut_2 ?_
  refine z_lcmp dX9_cut_3 ?_
  refine z_if_ge dX9_cut_4 rfl (fun c4 => ?_) (fun c4 => ?_)
  · -- to 11
    refine z_lload_n dX9_cut_11 rfl rfl ?_
    refine z_iload_n dX9_cut_12 rfl rfl ?_
    refine z_i2l dX9_cut_13 ?_
    refine z_lcmp dX9_cut_14 ?_
    refine z_if_le dX9_cut_15 rfl (fun c15 => ?_) (fun c15 => ?_)
    · -- to 22
      refine z_lload_n dX9_cut_22 rfl rfl ?_
      refine z_l2i dX9_cut_23 ?_
      refine z_iret dX9_cut_24 ?_
      first
        | (rw [if_pos (Int64.not_le.mp (fun q => c4 ((lg_cmp_ge _ _).mpr q)))] at hQ; exact hQ)
        | (rw [if_neg (Int64.not_lt.mpr ((lg_cmp_ge _ _).mp c4)), if_neg (Int64.not_lt.mpr ((lg_cmp_le _ _).mp c15))] at hQ; exact hQ)
        | (rw [if_neg (Int64.not_lt.mpr ((lg_cmp_ge _ _).mp c4)), if_pos (Int64.not_le.mp (fun q => c15 ((lg_cmp_le _ _).mpr q)))] at hQ; exact hQ)
    · -- on
      refine z_iload_n dX9_cut_18 rfl rfl ?_
      refine z_goto dX9_cut_19 rfl ?_
      refine z_iret dX9_cut_24 ?_
      first
        | (rw [if_pos (Int64.not_le.mp (fun q => c4 ((lg_cmp_ge _ _).mpr q)))] at hQ; exact hQ)
        | (rw [if_neg (Int64.not_lt.mpr ((lg_cmp_ge _ _).mp c4)), if_neg (Int64.not_lt.mpr ((lg_cmp_le _ _).mp c15))] at hQ; exact hQ)
        | (rw [if_neg (Int64.not_lt.mpr ((lg_cmp_ge _ _).mp c4)), if_pos (Int64.not_le.mp (fun q => c15 ((lg_cmp_le _ _).mpr q)))] at hQ; exact hQ)
  · -- on
    refine z_iload_n dX9_cut_7 rfl rfl ?_
    refine z_goto dX9_cut_8 rfl ?_
    refine z_iret dX9_cut_24 ?_
    first
      | (rw [if_pos (Int64.not_le.mp (fun q => c4 ((lg_cmp_ge _ _).mpr q)))] at hQ; exact hQ)
      | (rw [if_neg (Int64.not_lt.mpr ((lg_cmp_ge _ _).mp c4)), if_neg (Int64.not_lt.mpr ((lg_cmp_le _ _).mp c15))] at hQ; exact hQ)
      | (rw [if_neg (Int64.not_lt.mpr ((lg_cmp_ge _ _).mp c4)), if_pos (Int64.not_le.mp (fun q => c15 ((lg_cmp_le _ _).mpr q)))] at hQ; exact hQ)

theorem r_cutN {h : Hp} {d : Nat} {n t : Nat} (hn : n < 2 ^ 31) (ht : t < 2 ^ 31) : Sp d mX9_cut [.long (nI n).toInt64, .int 0, .int (nI t)] h (some (.int (nI (min t n)))) h := by
  have := r_cut (h := h) (d := d) (nI n).toInt64 0 (nI t)
  rw [nI_l hn, nI_l ht, show (0 : Int32).toInt64 = lN 0 from rfl, if_neg (fun q => absurd ((lN_lt hn (by omega)).mp q) (by omega)), lN_i] at this
  rw [nI_l hn]
  by_cases hc : t < n
  · rw [if_pos ((lN_lt ht hn).mpr hc)] at this
    rw [Nat.min_eq_left (by omega)]
    exact this
  · rw [if_neg (fun q => hc ((lN_lt ht hn).mp q))] at this
    rw [Nat.min_eq_right (by omega)]
    exact this

