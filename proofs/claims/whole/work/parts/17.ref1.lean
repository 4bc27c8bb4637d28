/-! the reference: small methods (walks by program: wip/whole/gen17.py) -/
theorem r_isIn {h : Hp} {d : Nat} (v lo hi : Int32) : Sp d mX9_isIn [.int v, .int lo, .int hi] h (some (.int (bI (lo ≤ v ∧ v ≤ hi)))) h := by
  intro N S Q hN hS hQ
  refine z_iload_n dX9_isIn_0 rfl rfl ?_
  refine z_iload_n dX9_isIn_1 rfl rfl ?_
  refine z_icmp_lt dX9_isIn_2 rfl (fun c2 => ?_) (fun c2 => ?_)
  · -- to 14
    refine z_iconst (v := 0) dX9_isIn_14 (by decide) ?_
    refine z_iret dX9_isIn_15 ?_
    first
      | (rw [bI_f (by simp only [Int32.lt_iff_toInt_lt, Int32.le_iff_toInt_le, Int32.not_lt, Int32.not_le] at *; omega)] at hQ; exact hQ)
      | (rw [bI_t (by simp only [Int32.lt_iff_toInt_lt, Int32.le_iff_toInt_le, Int32.not_lt, Int32.not_le] at *; omega)] at hQ; exact hQ)
  · -- on
    refine z_iload_n dX9_isIn_5 rfl rfl ?_
    refine z_iload_n dX9_isIn_6 rfl rfl ?_
    refine z_icmp_gt dX9_isIn_7 rfl (fun c7 => ?_) (fun c7 => ?_)
    · -- to 14
      refine z_iconst (v := 0) dX9_isIn_14 (by decide) ?_
      refine z_iret dX9_isIn_15 ?_
      first
        | (rw [bI_f (by simp only [Int32.lt_iff_toInt_lt, Int32.le_iff_toInt_le, Int32.not_lt, Int32.not_le] at *; omega)] at hQ; exact hQ)
        | (rw [bI_t (by simp only [Int32.lt_iff_toInt_lt, Int32.le_iff_toInt_le, Int32.not_lt, Int32.not_le] at *; omega)] at hQ; exact hQ)
    · -- on
      refine z_iconst (v := 1) dX9_isIn_10 (by decide) ?_
      refine z_goto dX9_isIn_11 rfl ?_
      refine z_iret dX9_isIn_15 ?_
      first
        | (rw [bI_f (by simp only [Int32.lt_iff_toInt_lt, Int32.le_iff_toInt_le, Int32.not_lt, Int32.not_le] at *; omega)] at hQ; exact hQ)
        | (rw [bI_t (by simp only [Int32.lt_iff_toInt_lt, Int32.le_iff_toInt_le, Int32.not_lt, Int32.not_le] at *; omega)] at hQ; exact hQ)

theorem r_has {h : Hp} {d : Nat} {n k : Nat} (hk : k < 31) (hn : n < 2 ^ 31) : Sp d mX9_has [.int (nI n), .int (nI k)] h (some (.int (bI (n.testBit k = true)))) h := by
  intro N S Q hN hS hQ
  refine z_iload_n dX9_has_0 rfl rfl ?_
  refine z_iload_n dX9_has_1 rfl rfl ?_
  refine z_ishr dX9_has_2 ?_
  refine z_iconst (v := 1) dX9_has_3 (by decide) ?_
  refine z_iand dX9_has_4 ?_
  refine z_iconst (v := 1) dX9_has_5 (by decide) ?_
  refine z_icmp_ne dX9_has_6 rfl (fun c6 => ?_) (fun c6 => ?_)
  · -- to 13
    refine z_iconst (v := 0) dX9_has_13 (by decide) ?_
    refine z_iret dX9_has_14 ?_
    first
      | (rw [bI_f (fun q => absurd ((has_iff hk hn).mpr q) (by assumption))] at hQ; exact hQ)
      | (rw [bI_t ((has_iff hk hn).mp (by simp_all))] at hQ; exact hQ)
  · -- on
    refine z_iconst (v := 1) dX9_has_9 (by decide) ?_
    refine z_goto dX9_has_10 rfl ?_
    refine z_iret dX9_has_14 ?_
    first
      | (rw [bI_f (fun q => absurd ((has_iff hk hn).mpr q) (by assumption))] at hQ; exact hQ)
      | (rw [bI_t ((has_iff hk hn).mp (by simp_all))] at hQ; exact hQ)

theorem r_isFact {h : Hp} {d : Nat} (hm : SM h) {n : Nat} (e : pI h 489 0 = nI n) (hn : n < 2 ^ 31) (x : Int32) (hd : 1 ≤ d) : Sp d mX9_isFact [.ref 488, .int x] h (some (.int (bI (vin x n)))) h := by
  intro N S Q hN hS hQ
  rw [← bI_congr (le_pred hn)] at hQ
  refine z_iload_n dX9_isFact_0 rfl rfl ?_
  refine z_iconst (v := 0) dX9_isFact_1 (by decide) ?_
  refine z_aload_n dX9_isFact_2 rfl rfl ?_
  refine y_getR FX9_7 dX9_isFact_3 rfl hm.o hm.f_a ?_
  refine z_iconst (v := 0) dX9_isFact_6 (by decide) ?_
  refine y_ialN (0) dX9_isFact_7 hm.A_a (Nat.le_of_ble_eq_true rfl) (by first | rfl | (simp only [← nI_add, ← pk_mul]; rfl)) (by omega) ?_
  refine z_iconst (v := 1) dX9_isFact_8 (by decide) ?_
  refine z_isub dX9_isFact_9 ?_
  refine y_callS (as := [_, _, _]) CX9_isIn LX9_63 SX9_isIn dX9_isFact_10 rfl (Nat.le_of_ble_eq_true rfl) (Nat.le_of_ble_eq_true rfl) (by omega) (r_isIn _ _ _) (rok_z bI_01) ⟨Nat.le_refl _, Nat.le_refl _, hN, hS⟩ ?_
  refine z_iret dX9_isFact_13 ?_
  rw [e]
  exact hQ

theorem r_isProphet {h : Hp} {d : Nat} (hm : SM h) {n : Nat} (e : pI h 489 1 = nI n) (hn : n < 2 ^ 31) (x : Int32) (hd : 1 ≤ d) : Sp d mX9_isProphet [.ref 488, .int x] h (some (.int (bI (vin x n)))) h := by
  intro N S Q hN hS hQ
  rw [← bI_congr (le_pred hn)] at hQ
  refine z_iload_n dX9_isProphet_0 rfl rfl ?_
  refine z_iconst (v := 0) dX9_isProphet_1 (by decide) ?_
  refine z_aload_n dX9_isProphet_2 rfl rfl ?_
  refine y_getR FX9_7 dX9_isProphet_3 rfl hm.o hm.f_a ?_
  refine z_iconst (v := 1) dX9_isProphet_6 (by decide) ?_
  refine y_ialN (1) dX9_isProphet_7 hm.A_a (Nat.le_of_ble_eq_true rfl) (by first | rfl | (simp only [← nI_add, ← pk_mul]; rfl)) (by omega) ?_
  refine z_iconst (v := 1) dX9_isProphet_8 (by decide) ?_
  refine z_isub dX9_isProphet_9 ?_
  refine y_callS (as := [_, _, _]) CX9_isIn LX9_63 SX9_isIn dX9_isProphet_10 rfl (Nat.le_of_ble_eq_true rfl) (Nat.le_of_ble_eq_true rfl) (by omega) (r_isIn _ _ _) (rok_z bI_01) ⟨Nat.le_refl _, Nat.le_refl _, hN, hS⟩ ?_
  refine z_iret dX9_isProphet_13 ?_
  rw [e]
  exact hQ

theorem r_isProphecy {h : Hp} {d : Nat} (hm : SM h) {n : Nat} (e : pI h 489 11 = nI n) (hn : n < 2 ^ 31) (x : Int32) (hd : 1 ≤ d) : Sp d mX9_isProphecy [.ref 488, .int x] h (some (.int (bI (vin x n)))) h := by
  intro N S Q hN hS hQ
  rw [← bI_congr (le_pred hn)] at hQ
  refine z_iload_n dX9_isProphecy_0 rfl rfl ?_
  refine z_iconst (v := 0) dX9_isProphecy_1 (by decide) ?_
  refine z_aload_n dX9_isProphecy_2 rfl rfl ?_
  refine y_getR FX9_7 dX9_isProphecy_3 rfl hm.o hm.f_a ?_
  refine z_bipush (v := 11) dX9_isProphecy_6 (by decide) ?_
  refine y_ialN (11) dX9_isProphecy_8 hm.A_a (Nat.le_of_ble_eq_true rfl) (by first | rfl | (simp only [← nI_add, ← pk_mul]; rfl)) (by omega) ?_
  refine z_iconst (v := 1) dX9_isProphecy_9 (by decide) ?_
  refine z_isub dX9_isProphecy_10 ?_
  refine y_callS (as := [_, _, _]) CX9_isIn LX9_63 SX9_isIn dX9_isProphecy_11 rfl (Nat.le_of_ble_eq_true rfl) (Nat.le_of_ble_eq_true rfl) (by omega) (r_isIn _ _ _) (rok_z bI_01) ⟨Nat.le_refl _, Nat.le_refl _, hN, hS⟩ ?_
  refine z_iret dX9_isProphecy_14 ?_
  rw [e]
  exact hQ

theorem bits_eq {n : Nat} (h0 : n ≠ 0) : nI n &&& (nI n - 1) = nI (n &&& (n - 1)) := by
  rw [show (1 : Int32) = nI 1 from rfl, pk_sub (by omega), nI_and]
theorem bI_eq0 {b : Prop} [Decidable b] : bI b = 0 ↔ ¬ b := by
  by_cases hb : b
  · rw [bI_t hb]; simp [hb]
  · rw [bI_f hb]; simp [hb]
theorem bI_ne0 {b : Prop} [Decidable b] : ¬ bI b = 0 ↔ b := by
  by_cases hb : b
  · rw [bI_t hb]; simp [hb]
  · rw [bI_f hb]; simp [hb]
theorem bI_eq1 {b : Prop} [Decidable b] : bI b = 1 ↔ b := by
  by_cases hb : b
  · rw [bI_t hb]; simp [hb]
  · rw [bI_f hb]; simp [hb]

theorem r_bits_loop {h : Hp} {d N S : Nat} {Q : Option Value → Hp → Prop} {x0 : Int32} : ∀ b n k : Nat, n ≤ b → n < 4096 → Q (some (.int (nI (k + pcn n)))) h → T d N S mX9_bits 4 [some (.int x0), some (.int (nI k)), some (.int (nI n))] [] h Q := by
  intro b
  induction b with
  | zero =>
    intro n k hb hn hQ
    have h0 : n = 0 := by omega
    subst h0
    refine z_iload_n dX9_bits_4 rfl rfl ?_
    refine z_if_eq dX9_bits_5 rfl (fun _ => ?_) (fun c => absurd (rfl) c)
    refine z_iload_n dX9_bits_20 rfl rfl ?_
    refine z_iret dX9_bits_21 ?_
    exact hQ
  | succ b ih =>
    intro n k hb hn hQ
    by_cases h0 : n = 0
    · subst h0
      refine z_iload_n dX9_bits_4 rfl rfl ?_
      refine z_if_eq dX9_bits_5 rfl (fun _ => ?_) (fun c => absurd (rfl) c)
      refine z_iload_n dX9_bits_20 rfl rfl ?_
      refine z_iret dX9_bits_21 ?_
      exact hQ
    · have hp := pcn_step hn h0
      refine z_iload_n dX9_bits_4 rfl rfl ?_
      refine z_if_eq dX9_bits_5 rfl (fun c => absurd c (nI_ne0 (by omega) (by omega))) (fun _ => ?_)
      refine z_iinc dX9_bits_8 rfl (nI_1 _) (Nat.le_of_ble_eq_true rfl) ?_
      refine z_iload_n dX9_bits_11 rfl rfl ?_
      refine z_iload_n dX9_bits_12 rfl rfl ?_
      refine z_iconst (v := 1) dX9_bits_13 (by decide) ?_
      refine z_isub dX9_bits_14 ?_
      refine z_iand dX9_bits_15 ?_
      refine z_eqi (bits_eq h0) ?_
      refine z_istore_n dX9_bits_16 rfl (Nat.le_of_ble_eq_true rfl) ?_
      refine z_goto dX9_bits_17 rfl ?_
      exact ih _ (k + 1) (by omega) (by omega) (by rw [show k + 1 + pcn (n &&& (n - 1)) = k + pcn n by omega]; exact hQ)

theorem r_bits {h : Hp} {d : Nat} {n : Nat} (hn : n < 4096) : Sp d mX9_bits [.int (nI n)] h (some (.int (nI (pcn n)))) h := by
  intro N S Q hN hS hQ
  refine z_iconst (v := 0) dX9_bits_0 (by decide) ?_
  refine z_istore_n dX9_bits_1 rfl (Nat.le_of_ble_eq_true rfl) ?_
  refine z_iload_n dX9_bits_2 rfl rfl ?_
  refine z_istore_n dX9_bits_3 rfl (Nat.le_of_ble_eq_true rfl) ?_
  exact r_bits_loop n n 0 (Nat.le_refl _) hn (by rw [Nat.zero_add]; exact hQ)

theorem r_areFacts {h : Hp} {d : Nat} (hm : SM h) {n : Nat} (e : pI h 489 0 = nI n) (hn : n ≤ 8) (x : Int32) (hd : 1 ≤ d) : Sp d mX9_areFacts [.ref 488, .int x] h (some (.int (bI (1 ≤ x ∧ x < nI (2 ^ n))))) h := by
  intro N S Q hN hS hQ
  have e2 : (1 : Int32) <<< (nI n &&& 31) - 1 = nI (2 ^ n) - 1 := by rw [nI_bit (by omega)]
  have e3 : (1 ≤ x ∧ x ≤ (1 : Int32) <<< (nI n &&& 31) - 1) ↔ (1 ≤ x ∧ x < nI (2 ^ n)) := by
    have hp : 2 ^ n ≤ 2 ^ 8 := Nat.pow_le_pow_right (by omega) hn
    have h1 : 0 < 2 ^ n := Nat.pow_pos (by omega)
    rw [e2, show (1 : Int32) = nI 1 from rfl, pk_sub (by omega)]
    simp only [Int32.le_iff_toInt_le, Int32.lt_iff_toInt_lt]
    rw [nI_toInt (n := 2 ^ n) (by omega), nI_toInt (n := 2 ^ n - 1) (by omega)]
    constructor <;> (rintro ⟨q1, q2⟩; exact ⟨q1, by omega⟩)
  rw [← bI_congr e3] at hQ
  refine z_iload_n dX9_areFacts_0 rfl rfl ?_
  refine z_iconst (v := 1) dX9_areFacts_1 (by decide) ?_
  refine z_iconst (v := 1) dX9_areFacts_2 (by decide) ?_
  refine z_aload_n dX9_areFacts_3 rfl rfl ?_
  refine y_getR FX9_7 dX9_areFacts_4 rfl hm.o hm.f_a ?_
  refine z_iconst (v := 0) dX9_areFacts_7 (by decide) ?_
  refine y_ialN (0) dX9_areFacts_8 hm.A_a (Nat.le_of_ble_eq_true rfl) (by first | rfl | (simp only [← nI_add, ← pk_mul]; rfl)) (by omega) ?_
  refine z_eqi (y := nI (n)) e ?_
  refine z_ishl dX9_areFacts_9 ?_
  refine z_iconst (v := 1) dX9_areFacts_10 (by decide) ?_
  refine z_isub dX9_areFacts_11 ?_
  refine y_callS (as := [_, _, _]) CX9_isIn LX9_63 SX9_isIn dX9_areFacts_12 rfl (Nat.le_of_ble_eq_true rfl) (Nat.le_of_ble_eq_true rfl) (by omega) (r_isIn _ _ _) (rok_z bI_01) ⟨Nat.le_refl _, Nat.le_refl _, hN, hS⟩ ?_
  refine z_iret dX9_areFacts_15 ?_
  exact hQ

theorem r_get {h : Hp} {d : Nat} (hm : SM h) {j w : Nat} (hj : j < 5) (hw : w < 5) : Sp d mX9_get [.ref 488, .int (nI j), .int (nI w)] h (some (.int (pI h 489 (13 + 5 * j + w)))) h := by
  intro N S Q hN hS hQ
  refine z_aload_n dX9_get_0 rfl rfl ?_
  refine y_getR FX9_7 dX9_get_1 rfl hm.o hm.f_a ?_
  refine z_bipush (v := 13) dX9_get_4 (by decide) ?_
  refine z_iconst (v := 5) dX9_get_6 (by decide) ?_
  refine z_iload_n dX9_get_7 rfl rfl ?_
  refine z_imul dX9_get_8 ?_
  refine z_iadd dX9_get_9 ?_
  refine z_iload_n dX9_get_10 rfl rfl ?_
  refine z_iadd dX9_get_11 ?_
  refine y_ialN (13 + (5 * j) + w) dX9_get_12 hm.A_a (Nat.le_of_ble_eq_true rfl) (by first | rfl | (simp only [← nI_add, ← pk_mul]; rfl)) (by omega) ?_
  refine z_iret dX9_get_13 ?_
  exact hQ

theorem r_got {h : Hp} {d : Nat} (hm : SM h) {j w : Nat} (hj : j < 12) (hw : w < 6) : Sp d mX9_got [.ref 488, .int (nI j), .int (nI w)] h (some (.int (pI h 489 (38 + 6 * j + w)))) h := by
  intro N S Q hN hS hQ
  refine z_aload_n dX9_got_0 rfl rfl ?_
  refine y_getR FX9_7 dX9_got_1 rfl hm.o hm.f_a ?_
  refine z_bipush (v := 38) dX9_got_4 (by decide) ?_
  refine z_bipush (v := 6) dX9_got_6 (by decide) ?_
  refine z_iload_n dX9_got_8 rfl rfl ?_
  refine z_imul dX9_got_9 ?_
  refine z_iadd dX9_got_10 ?_
  refine z_iload_n dX9_got_11 rfl rfl ?_
  refine z_iadd dX9_got_12 ?_
  refine y_ialN (38 + (6 * j) + w) dX9_got_13 hm.A_a (Nat.le_of_ble_eq_true rfl) (by first | rfl | (simp only [← nI_add, ← pk_mul]; rfl)) (by omega) ?_
  refine z_iret dX9_got_14 ?_
  exact hQ

theorem r_put {h : Hp} {d : Nat} (hm : SM h) {j w : Nat} {v : Int32} (hj : j < 5) (hw : w < 5) : Sp d mX9_put [.ref 488, .int (nI j), .int (nI w), .int v] h none (sI h 489 (13 + 5 * j + w) v) := by
  intro N S Q hN hS hQ
  refine z_aload_n dX9_put_0 rfl rfl ?_
  refine y_getR FX9_7 dX9_put_1 rfl hm.o hm.f_a ?_
  refine z_bipush (v := 13) dX9_put_4 (by decide) ?_
  refine z_iconst (v := 5) dX9_put_6 (by decide) ?_
  refine z_iload_n dX9_put_7 rfl rfl ?_
  refine z_imul dX9_put_8 ?_
  refine z_iadd dX9_put_9 ?_
  refine z_iload_n dX9_put_10 rfl rfl ?_
  refine z_iadd dX9_put_11 ?_
  refine z_iload_n dX9_put_12 rfl rfl ?_
  refine y_iasN (13 + (5 * j) + w) dX9_put_13 hm.A_a (Nat.le_of_ble_eq_true rfl) (by first | rfl | (simp only [← nI_add, ← pk_mul]; rfl)) (by omega) ?_
  refine z_vret dX9_put_14 ?_
  exact hQ

theorem r_lay {h : Hp} {d : Nat} (hm : SM h) {j w : Nat} {v : Int32} (hj : j < 12) (hw : w < 6) : Sp d mX9_lay [.ref 488, .int (nI j), .int (nI w), .int v] h none (sI h 489 (38 + 6 * j + w) v) := by
  intro N S Q hN hS hQ
  refine z_aload_n dX9_lay_0 rfl rfl ?_
  refine y_getR FX9_7 dX9_lay_1 rfl hm.o hm.f_a ?_
  refine z_bipush (v := 38) dX9_lay_4 (by decide) ?_
  refine z_bipush (v := 6) dX9_lay_6 (by decide) ?_
  refine z_iload_n dX9_lay_8 rfl rfl ?_
  refine z_imul dX9_lay_9 ?_
  refine z_iadd dX9_lay_10 ?_
  refine z_iload_n dX9_lay_11 rfl rfl ?_
  refine z_iadd dX9_lay_12 ?_
  refine z_iload_n dX9_lay_13 rfl rfl ?_
  refine y_iasN (38 + (6 * j) + w) dX9_lay_14 hm.A_a (Nat.le_of_ble_eq_true rfl) (by first | rfl | (simp only [← nI_add, ← pk_mul]; rfl)) (by omega) ?_
  refine z_vret dX9_lay_15 ?_
  exact hQ

/-- is it so: all or any of the facts f, the facts g being so -/
def metB (al f g : Nat) : Bool := if al = 1 then f &&& g == f else f &&& g != 0

theorem r_isSo {h : Hp} {d : Nat} {al f g : Nat} (ha : al = 0 ∨ al = 1) (hf : f < 256) (hg : g < 256) : Sp d mX9_isSo [.int (nI al), .int (nI f), .int (nI g)] h (some (.int (bI (metB al f g = true)))) h := by
  intro N S Q hN hS hQ
  have q1 := nI_sub_iff hf hg
  have q2 := nI_meet_iff (f := f) (g := g) (by omega)
  rcases ha with rfl | rfl
  · -- any
    refine z_iload_n dX9_isSo_0 rfl rfl ?_
    refine z_if_eq dX9_isSo_1 rfl (fun _ => ?_) (fun c => absurd (rfl) c)
    refine z_iload_n dX9_isSo_20 rfl rfl ?_
    refine z_iload_n dX9_isSo_21 rfl rfl ?_
    refine z_iand dX9_isSo_22 ?_
    refine z_if_eq dX9_isSo_23 rfl (fun c23 => ?_) (fun c23 => ?_)
    · -- to 30
      refine z_iconst (v := 0) dX9_isSo_30 (by decide) ?_
      refine z_iret dX9_isSo_31 ?_
      first
        | (rw [bI_f (by simp_all [metB])] at hQ; exact hQ)
        | (rw [bI_t (by simp_all [metB])] at hQ; exact hQ)
    · -- on
      refine z_iconst (v := 1) dX9_isSo_26 (by decide) ?_
      refine z_goto dX9_isSo_27 rfl ?_
      refine z_iret dX9_isSo_31 ?_
      first
        | (rw [bI_f (by simp_all [metB])] at hQ; exact hQ)
        | (rw [bI_t (by simp_all [metB])] at hQ; exact hQ)
  · -- all
    refine z_iload_n dX9_isSo_0 rfl rfl ?_
    refine z_if_eq dX9_isSo_1 rfl (fun c => absurd c (by decide)) (fun _ => ?_)
    refine z_iload_n dX9_isSo_4 rfl rfl ?_
    refine z_iload_n dX9_isSo_5 rfl rfl ?_
    refine z_iconst (v := -1) dX9_isSo_6 (by decide) ?_
    refine z_ixor dX9_isSo_7 ?_
    refine z_iand dX9_isSo_8 ?_
    refine z_if_ne dX9_isSo_9 rfl (fun c9 => ?_) (fun c9 => ?_)
    · -- to 16
      refine z_iconst (v := 0) dX9_isSo_16 (by decide) ?_
      refine z_goto dX9_isSo_17 rfl ?_
      refine z_iret dX9_isSo_31 ?_
      first
        | (rw [bI_f (by simp_all [metB])] at hQ; exact hQ)
        | (rw [bI_t (by simp_all [metB])] at hQ; exact hQ)
    · -- on
      refine z_iconst (v := 1) dX9_isSo_12 (by decide) ?_
      refine z_goto dX9_isSo_13 rfl ?_
      refine z_iret dX9_isSo_31 ?_
      first
        | (rw [bI_f (by simp_all [metB])] at hQ; exact hQ)
        | (rw [bI_t (by simp_all [metB])] at hQ; exact hQ)

theorem r_isSoIn {h : Hp} {d : Nat} (hm : SM h) {k al f g : Nat} (hk : k < 12) (e1 : pI h 489 (38 + 6 * k + 1) = nI al) (ha : al = 0 ∨ al = 1) (e2 : pI h 489 (38 + 6 * k + 2) = nI f) (hf : f < 256) (hg : g < 256) (hd : 1 ≤ d) : Sp d mX9_isSoIn [.ref 488, .int (nI k), .int (nI g)] h (some (.int (bI (metB al f g = true)))) h := by
  intro N S Q hN hS hQ
  rcases ha with rfl | rfl
  · -- any
    refine z_aload_n dX9_isSoIn_0 rfl rfl ?_
    refine z_iload_n dX9_isSoIn_1 rfl rfl ?_
    refine z_iconst (v := 1) dX9_isSoIn_2 (by decide) ?_
    refine y_callV (as := [_, _]) CX9_got LX9_67 IX9_got VX9_got ⟨rfl, Nat.le_of_ble_eq_true rfl⟩ dX9_isSoIn_3 hm.o rfl (Nat.le_of_ble_eq_true rfl) (Nat.le_of_ble_eq_true rfl) (by omega) (r_got (by exact hm) hk (Nat.le_of_ble_eq_true rfl)) rok_i ⟨Nat.le_refl _, Nat.le_refl _, hN, hS⟩ ?_
    refine z_iconst (v := 1) dX9_isSoIn_6 (by decide) ?_
    refine z_icmp_ne dX9_isSoIn_7 rfl (fun _ => ?_) (fun c => absurd c (by rw [e1]; decide))
    refine z_iconst (v := 0) dX9_isSoIn_14 (by decide) ?_
    refine z_aload_n dX9_isSoIn_15 rfl rfl ?_
    refine z_iload_n dX9_isSoIn_16 rfl rfl ?_
    refine z_iconst (v := 2) dX9_isSoIn_17 (by decide) ?_
    refine y_callV (as := [_, _]) CX9_got LX9_67 IX9_got VX9_got ⟨rfl, Nat.le_of_ble_eq_true rfl⟩ dX9_isSoIn_18 hm.o rfl (Nat.le_of_ble_eq_true rfl) (Nat.le_of_ble_eq_true rfl) (by omega) (r_got (by exact hm) hk (Nat.le_of_ble_eq_true rfl)) rok_i ⟨Nat.le_refl _, Nat.le_refl _, hN, hS⟩ ?_
    refine z_iload_n dX9_isSoIn_21 rfl rfl ?_
    refine y_callS (as := [_, _, _]) CX9_isSo LX9_71 SX9_isSo dX9_isSoIn_22 rfl (Nat.le_of_ble_eq_true rfl) (Nat.le_of_ble_eq_true rfl) (by omega) (by rw [e2]; exact r_isSo (al := 0) (Or.inl rfl) hf hg) (rok_z bI_01) ⟨Nat.le_refl _, Nat.le_refl _, hN, hS⟩ ?_
    refine z_iret dX9_isSoIn_25 ?_
    exact hQ
  · -- all
    refine z_aload_n dX9_isSoIn_0 rfl rfl ?_
    refine z_iload_n dX9_isSoIn_1 rfl rfl ?_
    refine z_iconst (v := 1) dX9_isSoIn_2 (by decide) ?_
    refine y_callV (as := [_, _]) CX9_got LX9_67 IX9_got VX9_got ⟨rfl, Nat.le_of_ble_eq_true rfl⟩ dX9_isSoIn_3 hm.o rfl (Nat.le_of_ble_eq_true rfl) (Nat.le_of_ble_eq_true rfl) (by omega) (r_got (by exact hm) hk (Nat.le_of_ble_eq_true rfl)) rok_i ⟨Nat.le_refl _, Nat.le_refl _, hN, hS⟩ ?_
    refine z_iconst (v := 1) dX9_isSoIn_6 (by decide) ?_
    refine z_icmp_ne dX9_isSoIn_7 rfl (fun c => absurd (by rw [e1]; decide) c) (fun _ => ?_)
    refine z_iconst (v := 1) dX9_isSoIn_10 (by decide) ?_
    refine z_goto dX9_isSoIn_11 rfl ?_
    refine z_aload_n dX9_isSoIn_15 rfl rfl ?_
    refine z_iload_n dX9_isSoIn_16 rfl rfl ?_
    refine z_iconst (v := 2) dX9_isSoIn_17 (by decide) ?_
    refine y_callV (as := [_, _]) CX9_got LX9_67 IX9_got VX9_got ⟨rfl, Nat.le_of_ble_eq_true rfl⟩ dX9_isSoIn_18 hm.o rfl (Nat.le_of_ble_eq_true rfl) (Nat.le_of_ble_eq_true rfl) (by omega) (r_got (by exact hm) hk (Nat.le_of_ble_eq_true rfl)) rok_i ⟨Nat.le_refl _, Nat.le_refl _, hN, hS⟩ ?_
    refine z_iload_n dX9_isSoIn_21 rfl rfl ?_
    refine y_callS (as := [_, _, _]) CX9_isSo LX9_71 SX9_isSo dX9_isSoIn_22 rfl (Nat.le_of_ble_eq_true rfl) (Nat.le_of_ble_eq_true rfl) (by omega) (by rw [e2]; exact r_isSo (al := 1) (Or.inr rfl) hf hg) (rok_z bI_01) ⟨Nat.le_refl _, Nat.le_refl _, hN, hS⟩ ?_
    refine z_iret dX9_isSoIn_25 ?_
    exact hQ

theorem r_isOpen {h : Hp} {d : Nat} (hm : SM h) {n : Nat} (e : pI h 489 11 = nI n) (hn : n ≤ 12) (x : Int32) (hd : 2 ≤ d) : Sp d mX9_isOpen [.ref 488, .int x] h (some (.int (bI (vin x n ∧ pI h 489 (38 + 6 * x.toNatClampNeg + 5) = 0)))) h := by
  intro N S Q hN hS hQ
  by_cases hx : vin x n
  · obtain ⟨j, hj, rfl⟩ := vin_of (by omega) hx
    rw [nI_clamp (by omega)] at hQ
    refine z_aload_n dX9_isOpen_0 rfl rfl ?_
    refine z_iload_n dX9_isOpen_1 rfl rfl ?_
    refine y_callV (as := [_]) CX9_isProphecy LX9_75 IX9_isProphecy VX9_isProphecy ⟨rfl, Nat.le_of_ble_eq_true rfl⟩ dX9_isOpen_2 hm.o rfl (Nat.le_of_ble_eq_true rfl) (Nat.le_of_ble_eq_true rfl) (by omega) (r_isProphecy (d := 1) (by exact hm) e (by omega) _ (Nat.le_refl _)) (rok_z bI_01) ⟨Nat.le_refl _, Nat.le_refl _, hN, hS⟩ ?_
    refine z_if_eq dX9_isOpen_5 rfl (fun c => absurd c (bI_ne0.mpr hx)) (fun _ => ?_)
    refine z_aload_n dX9_isOpen_8 rfl rfl ?_
    refine z_iload_n dX9_isOpen_9 rfl rfl ?_
    refine z_iconst (v := 5) dX9_isOpen_10 (by decide) ?_
    refine y_callV (as := [_, _]) CX9_got LX9_67 IX9_got VX9_got ⟨rfl, Nat.le_of_ble_eq_true rfl⟩ dX9_isOpen_11 hm.o rfl (Nat.le_of_ble_eq_true rfl) (Nat.le_of_ble_eq_true rfl) (by omega) (r_got (d := 1) (by exact hm) (j := j) (w := 5) (by omega) (Nat.le_of_ble_eq_true rfl)) rok_i ⟨Nat.le_refl _, Nat.le_refl _, hN, hS⟩ ?_
    refine z_if_ne dX9_isOpen_14 rfl (fun c14 => ?_) (fun c14 => ?_)
    · -- to 21
      refine z_iconst (v := 0) dX9_isOpen_21 (by decide) ?_
      refine z_iret dX9_isOpen_22 ?_
      first
        | (rw [bI_t ⟨hx, c14⟩] at hQ; exact hQ)
        | (rw [bI_f (fun q => c14 q.2)] at hQ; exact hQ)
    · -- on
      refine z_iconst (v := 1) dX9_isOpen_17 (by decide) ?_
      refine z_goto dX9_isOpen_18 rfl ?_
      refine z_iret dX9_isOpen_22 ?_
      first
        | (rw [bI_t ⟨hx, c14⟩] at hQ; exact hQ)
        | (rw [bI_f (fun q => c14 q.2)] at hQ; exact hQ)
  · rw [bI_f (fun q => hx q.1)] at hQ
    refine z_aload_n dX9_isOpen_0 rfl rfl ?_
    refine z_iload_n dX9_isOpen_1 rfl rfl ?_
    refine y_callV (as := [_]) CX9_isProphecy LX9_75 IX9_isProphecy VX9_isProphecy ⟨rfl, Nat.le_of_ble_eq_true rfl⟩ dX9_isOpen_2 hm.o rfl (Nat.le_of_ble_eq_true rfl) (Nat.le_of_ble_eq_true rfl) (by omega) (r_isProphecy (d := 1) (by exact hm) e (by omega) _ (Nat.le_refl _)) (rok_z bI_01) ⟨Nat.le_refl _, Nat.le_refl _, hN, hS⟩ ?_
    refine z_if_eq dX9_isOpen_5 rfl (fun _ => ?_) (fun c => absurd (bI_eq0.mpr hx) c)
    refine z_iconst (v := 0) dX9_isOpen_21 (by decide) ?_
    refine z_iret dX9_isOpen_22 ?_
    exact hQ

