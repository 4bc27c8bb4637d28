/-! duels: the class, its small methods (walks by program: wip/whole/gen92.py) -/
/-- two bits of a whole number -/
def en (x : Int32) (k : Nat) : Nat := (if x.toBitVec.getLsbD (2 * k) = true then 1 else 0) + (if x.toBitVec.getLsbD (2 * k + 1) = true then 2 else 0)
theorem en_lt {x : Int32} {k : Nat} : en x k < 4 := by
  unfold en
  split <;> split <;> omega
theorem en_or {x : Int32} {k k2 r : Nat} (hk : k < 16) (hk2 : k2 < 16) (hr : r = 1 ∨ r = 2) : en (x ||| nI (r * 2 ^ (k * 2))) k2 = if k2 = k then en x k ||| r else en x k2 := by
  have e : r * 2 ^ (k * 2) = 2 ^ (k * 2 + (r - 1)) := by
    rcases hr with rfl | rfl
    · rw [Nat.one_mul]; rfl
    · rw [show k * 2 + (2 - 1) = k * 2 + 1 from rfl, Nat.pow_succ, Nat.mul_comm]
  have g : ∀ j, j < 32 → (x ||| nI (r * 2 ^ (k * 2))).toBitVec.getLsbD j = (x.toBitVec.getLsbD j || decide (k * 2 + (r - 1) = j)) := fun j hj => by
    rw [Int32.toBitVec_or, BitVec.getLsbD_or, nI_bv, BitVec.getLsbD_ofNat, e, Nat.testBit_two_pow, decide_eq_true hj, Bool.true_and]
  unfold en
  rw [g _ (by omega), g _ (by omega)]
  by_cases q : k2 = k
  · subst q
    rw [if_pos rfl]
    rcases hr with rfl | rfl
    · rw [show decide (k2 * 2 + (1 - 1) = 2 * k2) = true from decide_eq_true (by omega), show decide (k2 * 2 + (1 - 1) = 2 * k2 + 1) = false from decide_eq_false (by omega)]
      cases x.toBitVec.getLsbD (2 * k2) <;> cases x.toBitVec.getLsbD (2 * k2 + 1) <;> decide
    · rw [show decide (k2 * 2 + (2 - 1) = 2 * k2) = false from decide_eq_false (by omega), show decide (k2 * 2 + (2 - 1) = 2 * k2 + 1) = true from decide_eq_true (by omega)]
      cases x.toBitVec.getLsbD (2 * k2) <;> cases x.toBitVec.getLsbD (2 * k2 + 1) <;> decide
  · rw [if_neg q, show decide (k * 2 + (r - 1) = 2 * k2) = false from decide_eq_false (by omega), show decide (k * 2 + (r - 1) = 2 * k2 + 1) = false from decide_eq_false (by omega), Bool.or_false, Bool.or_false]
theorem rec_en {x : Int32} {k : Nat} (hk : k < 16) : (x >>> (nI (k * 2) &&& 31)) &&& 3 = nI (en x k) := by
  apply Int32.toBitVec_inj.mp
  rw [Int32.toBitVec_and, nI_bv, show (x >>> (nI (k * 2) &&& 31)).toBitVec = x.toBitVec.sshiftRight ((nI (k * 2) &&& 31).toBitVec.smod 32).toNat from rfl, sh31 (k * 2) (by omega), show (3 : Int32).toBitVec = BitVec.ofNat 32 3 from rfl]
  apply BitVec.eq_of_getLsbD_eq
  intro i hi
  rw [BitVec.getLsbD_and, BitVec.getLsbD_sshiftRight, BitVec.getLsbD_ofNat, BitVec.getLsbD_ofNat, decide_eq_true hi, Bool.true_and, Bool.true_and]
  have hn : decide (32 ≤ i) = false := decide_eq_false (by omega)
  rw [hn]
  by_cases h2 : i < 2
  · rw [if_pos (by omega)]
    rcases (show i = 0 ∨ i = 1 by omega) with rfl | rfl
    · unfold en
      rw [show k * 2 + 0 = 2 * k by omega]
      cases x.toBitVec.getLsbD (2 * k) <;> cases x.toBitVec.getLsbD (2 * k + 1) <;> decide
    · unfold en
      rw [show k * 2 + 1 = 2 * k + 1 by omega]
      cases x.toBitVec.getLsbD (2 * k) <;> cases x.toBitVec.getLsbD (2 * k + 1) <;> decide
  · rw [bit_hi (x := 3) (n := 2) (by omega) (by omega), bit_hi (x := en x k) (n := 2) en_lt (by omega), Bool.and_false]
/-- a number for each position -/
def stO (L s i : Nat) : Nat := if L.testBit i = true then 0 else if s.testBit i = true then 1 else 2
def psO (L s : Nat) : Nat → Nat
  | 0 => 0
  | i + 1 => psO L s i * 3 + stO L s i
theorem stO_lt {L s i : Nat} : stO L s i < 3 := by
  unfold stO
  split
  · omega
  · split <;> omega
theorem psO_lt {L s : Nat} : ∀ i, psO L s i < 3 ^ i := by
  intro i
  induction i with
  | zero => show 0 < 1; omega
  | succ i ih =>
    have := stO_lt (L := L) (s := s) (i := i)
    show psO L s i * 3 + stO L s i < 3 ^ (i + 1)
    rw [Nat.pow_succ]
    omega
theorem psO_inj {L s L2 s2 : Nat} : ∀ n, psO L s n = psO L2 s2 n → ∀ i, i < n → stO L s i = stO L2 s2 i := by
  intro n
  induction n with
  | zero => intro _ i hi; omega
  | succ n ih =>
    intro h i hi
    have h : psO L s n * 3 + stO L s n = psO L2 s2 n * 3 + stO L2 s2 n := h
    have a := stO_lt (L := L) (s := s) (i := n)
    have b := stO_lt (L := L2) (s := s2) (i := n)
    by_cases e : i = n
    · subst e; omega
    · exact ih (by omega) i (by omega)
theorem psO_eq {L s L2 s2 : Nat} (hL : L < 256) (hs : s < 256) (hL2 : L2 < 256) (hs2 : s2 < 256) (d1 : L &&& s = 0) (d2 : L2 &&& s2 = 0) (h : psO L s 8 = psO L2 s2 8) : L = L2 ∧ s = s2 := by
  have st := psO_inj 8 h
  have a1 := and0.mp d1
  have a2 := and0.mp d2
  have key : ∀ i, i < 8 → L.testBit i = L2.testBit i ∧ s.testBit i = s2.testBit i := fun i hi => by
    have := st i hi
    unfold stO at this
    have q1 := a1 i
    have q2 := a2 i
    cases e1 : L.testBit i <;> cases e2 : L2.testBit i <;> cases e3 : s.testBit i <;> cases e4 : s2.testBit i <;> simp_all
  constructor
  · apply Nat.eq_of_testBit_eq
    intro i
    by_cases hi : i < 8
    · exact (key i hi).1
    · rw [bit_hi (n := 8) hL (by omega), bit_hi (n := 8) hL2 (by omega)]
  · apply Nat.eq_of_testBit_eq
    intro i
    by_cases hi : i < 8
    · exact (key i hi).2
    · rw [bit_hi (n := 8) hs (by omega), bit_hi (n := 8) hs2 (by omega)]
/-- the contest's shape -/
def CK (h : Hp) : Prop := IO h 0 484 ∧ pR h 484 0 = some 485 ∧ IA h 10 8 485 ∧ pR h 484 4 = some 486 ∧ IA h 10 411 486
theorem SS.ck {h h1 : Hp} (hs : SS h h1) (c : CK h) : CK h1 := ⟨hs.O c.1, by rw [hs.R]; exact c.2.1, hs.A c.2.2.1, by rw [hs.R]; exact c.2.2.2.1, hs.A c.2.2.2.2⟩
def TBl (h : Hp) (tb : Nat → Nat) : Prop := ∀ p, p < 6561 → en (pI h 486 (p / 16)) (p % 16) = tb p

theorem c_recall {h : Hp} {d p : Nat} {tb : Nat → Nat} (ck : CK h) (ht : TBl h tb) (hp : p < 6561) : Sp d mX0_recall [.ref 484, .int (nI p)] h (some (.int (nI (tb p)))) h := by
  intro N S Q hN hS hQ
  refine z_iload_n dX0_recall_0 rfl rfl ?_
  refine z_bipush (v := 16) dX0_recall_1 (by decide) ?_
  refine z_idiv dX0_recall_3 (by decide) ?_
  refine z_eqi (pk_div (a := p) (d := 16) (by omega) (by omega) (by omega)) ?_
  refine z_istore_n dX0_recall_4 rfl (Nat.le_of_ble_eq_true rfl) ?_
  refine z_iload_n dX0_recall_5 rfl rfl ?_
  refine z_if_lt dX0_recall_6 rfl (fun c => absurd c (nI_pos (by omega))) (fun _ => ?_)
  refine z_iload_n dX0_recall_9 rfl rfl ?_
  refine z_aload_n dX0_recall_10 rfl rfl ?_
  refine y_getR FX0_15 dX0_recall_11 rfl ck.1 ck.2.2.2.1 ?_
  refine y_alen dX0_recall_14 ck.2.2.2.2 ⟨Nat.le_of_ble_eq_true rfl, Nat.le_of_ble_eq_true rfl⟩ rfl ?_
  refine z_icmp_ge dX0_recall_15 rfl (fun c => absurd c (fun q => absurd ((nI_leI (a := 411) (by omega) (by omega)).mp q) (by omega))) (fun _ => ?_)
  refine z_aload_n dX0_recall_18 rfl rfl ?_
  refine y_getR FX0_15 dX0_recall_19 rfl ck.1 ck.2.2.2.1 ?_
  refine z_iload_n dX0_recall_22 rfl rfl ?_
  refine y_ialN (p / 16) dX0_recall_23 ck.2.2.2.2 (Nat.le_of_ble_eq_true rfl) (rfl) (by omega) ?_
  refine z_iload_n dX0_recall_24 rfl rfl ?_
  refine z_bipush (v := 16) dX0_recall_25 (by decide) ?_
  refine z_irem dX0_recall_27 (by decide) ?_
  refine z_eqi (irem_n (a := p) (d := 16) (by omega) (by omega) (by omega)) ?_
  refine z_iconst (v := 2) dX0_recall_28 (by decide) ?_
  refine z_imul dX0_recall_29 ?_
  refine z_eqi (pk_mul (p % 16) 2) ?_
  refine z_ishr dX0_recall_30 ?_
  refine z_iconst (v := 3) dX0_recall_31 (by decide) ?_
  refine z_iand dX0_recall_32 ?_
  refine z_eqi (show _ = nI (tb p) from (rec_en (by omega)).trans (congrArg nI (ht p hp))) ?_
  refine z_goto dX0_recall_33 rfl ?_
  refine z_iret dX0_recall_37 ?_
  exact hQ
def kpH (h : Hp) (p r : Nat) : Hp := sI h 486 (p / 16) (pI h 486 (p / 16) ||| nI (r * 2 ^ (p % 16 * 2)))
theorem c_keep {h : Hp} {d p r : Nat} (ck : CK h) (hp : p < 6561) (hr : r = 1 ∨ r = 2) : Sp d mX0_keep [.ref 484, .int (nI p), .int (nI r)] h none (kpH h p r) := by
  have sm : r * 2 ^ (p % 16 * 2) < 2 ^ 32 := by
    have : 2 ^ (p % 16 * 2) ≤ 2 ^ 30 := Nat.pow_le_pow_right (by omega) (by omega)
    rcases hr with rfl | rfl <;> omega
  intro N S Q hN hS hQ
  refine z_iload_n dX0_keep_0 rfl rfl ?_
  refine z_bipush (v := 16) dX0_keep_1 (by decide) ?_
  refine z_idiv dX0_keep_3 (by decide) ?_
  refine z_eqi (pk_div (a := p) (d := 16) (by omega) (by omega) (by omega)) ?_
  refine z_istore_n dX0_keep_4 rfl (Nat.le_of_ble_eq_true rfl) ?_
  refine z_iload_n dX0_keep_5 rfl rfl ?_
  refine z_if_lt dX0_keep_6 rfl (fun c => absurd c (nI_pos (by omega))) (fun _ => ?_)
  refine z_iload_n dX0_keep_9 rfl rfl ?_
  refine z_aload_n dX0_keep_10 rfl rfl ?_
  refine y_getR FX0_15 dX0_keep_11 rfl ck.1 ck.2.2.2.1 ?_
  refine y_alen dX0_keep_14 ck.2.2.2.2 ⟨Nat.le_of_ble_eq_true rfl, Nat.le_of_ble_eq_true rfl⟩ rfl ?_
  refine z_icmp_ge dX0_keep_15 rfl (fun c => absurd c (fun q => absurd ((nI_leI (a := 411) (by omega) (by omega)).mp q) (by omega))) (fun _ => ?_)
  refine z_aload_n dX0_keep_18 rfl rfl ?_
  refine y_getR FX0_15 dX0_keep_19 rfl ck.1 ck.2.2.2.1 ?_
  refine z_iload_n dX0_keep_22 rfl rfl ?_
  refine z_dup2_11 dX0_keep_23 rfl rfl ?_
  refine y_ialN (p / 16) dX0_keep_24 ck.2.2.2.2 (Nat.le_of_ble_eq_true rfl) (rfl) (by omega) ?_
  refine z_iload_n dX0_keep_25 rfl rfl ?_
  refine z_iload_n dX0_keep_26 rfl rfl ?_
  refine z_bipush (v := 16) dX0_keep_27 (by decide) ?_
  refine z_irem dX0_keep_29 (by decide) ?_
  refine z_eqi (irem_n (a := p) (d := 16) (by omega) (by omega) (by omega)) ?_
  refine z_iconst (v := 2) dX0_keep_30 (by decide) ?_
  refine z_imul dX0_keep_31 ?_
  refine z_eqi (pk_mul (p % 16) 2) ?_
  refine z_ishl dX0_keep_32 ?_
  refine z_eqi (nI_shl (a := r) (by omega) sm) ?_
  refine z_ior dX0_keep_33 ?_
  refine y_iasN (p / 16) dX0_keep_34 ck.2.2.2.2 (Nat.le_of_ble_eq_true rfl) (rfl) (by omega) ?_
  refine z_vret dX0_keep_35 ?_
  exact hQ
theorem TBl.keep {h : Hp} {p r : Nat} {tb : Nat → Nat} (ht : TBl h tb) (hp : p < 6561) (hr : r = 1 ∨ r = 2) : TBl (kpH h p r) (fun q => if q = p then tb p ||| r else tb q) := fun q hq => by
  unfold kpH
  rw [pI_sI, if_pos rfl]
  show _ = if q = p then tb p ||| r else tb q
  by_cases e : q / 16 = p / 16
  · rw [if_pos e, en_or (by omega) (by omega) hr]
    by_cases e2 : q % 16 = p % 16
    · rw [if_pos e2, if_pos (by omega), ht p hp]
    · rw [if_neg e2, if_neg (by omega), ← ht q hq, e]
  · rw [if_neg e, if_neg (by intro c; subst c; exact e rfl)]
    exact ht q hq

theorem c_positionOf {h : Hp} {d L s : Nat} (hL : L < 256) (hs : s < 256) (hd : 1 ≤ d) : Sp d mX0_positionOf [.int (nI L), .int (nI s)] h (some (.int (nI (psO L s 8)))) h := by
  intro N S Q hN hS hQ
  have X : ∀ r i (o4 : Option Value), i + r = 8 → T d N S mX0_positionOf 4 [some (.int (nI L)), some (.int (nI s)), some (.int (nI (psO L s i))), some (.int (nI i)), o4] [] h Q := by
    intro r
    induction r with
    | zero =>
      intro i o4 hi
      have e : i = 8 := by omega
      subst e
      refine z_iload_n dX0_positionOf_4 rfl rfl ?_
      refine z_bipush (v := 8) dX0_positionOf_5 (by decide) ?_
      refine z_icmp_ge dX0_positionOf_7 rfl (fun _ => ?_) (fun c => absurd (by decide) c)
      refine z_iload_n dX0_positionOf_52 rfl rfl ?_
      refine z_iret dX0_positionOf_53 ?_
      exact hQ
    | succ r ih =>
      intro i o4 hi
      have zlt : L.testBit i = true → ¬ nI L &&& (1 <<< (nI i &&& 31)) = 0 := fun hb q => by
        have := (and_bit (by omega) (by omega)).mp q
        rw [hb] at this
        exact absurd this (by decide)
      have zlf : ¬ L.testBit i = true → nI L &&& (1 <<< (nI i &&& 31)) = 0 := fun hb => (and_bit (by omega) (by omega)).mpr (by simpa using hb)
      have zst : s.testBit i = true → ¬ nI s &&& (1 <<< (nI i &&& 31)) = 0 := fun hb q => by
        have := (and_bit (by omega) (by omega)).mp q
        rw [hb] at this
        exact absurd this (by decide)
      have zsf : ¬ s.testBit i = true → nI s &&& (1 <<< (nI i &&& 31)) = 0 := fun hb => (and_bit (by omega) (by omega)).mpr (by simpa using hb)
      by_cases h1 : L.testBit i = true
      · have e : stO L s i = 0 := if_pos h1
        refine z_iload_n dX0_positionOf_4 rfl rfl ?_
        refine z_bipush (v := 8) dX0_positionOf_5 (by decide) ?_
        refine z_icmp_ge dX0_positionOf_7 rfl (fun c => absurd c (fun q => absurd ((nI_leI (a := 8) (by omega) (by omega)).mp q) (by omega))) (fun _ => ?_)
        refine z_iload_n dX0_positionOf_10 rfl rfl ?_
        refine z_iload_n dX0_positionOf_11 rfl rfl ?_
        refine y_callS (as := [_]) CX8_bit LX0_43 SX8_bit dX0_positionOf_12 rfl (Nat.le_of_ble_eq_true rfl) (Nat.le_of_ble_eq_true rfl) (by omega) (s_bit _) rok_i ⟨Nat.le_refl _, Nat.le_refl _, hN, hS⟩ ?_
        refine z_iand dX0_positionOf_15 ?_
        refine z_if_eq dX0_positionOf_16 rfl (fun c => absurd c (zlt h1)) (fun _ => ?_)
        refine z_iconst (v := 0) dX0_positionOf_19 (by decide) ?_
        refine z_goto dX0_positionOf_20 rfl ?_
        refine z_istore dX0_positionOf_37 (Nat.le_of_ble_eq_true rfl) ?_
        refine z_iload_n dX0_positionOf_39 rfl rfl ?_
        refine z_iconst (v := 3) dX0_positionOf_40 (by decide) ?_
        refine z_imul dX0_positionOf_41 ?_
        refine z_eqi (pk_mul _ 3) ?_
        refine z_iload dX0_positionOf_42 rfl ?_
        refine z_iadd dX0_positionOf_44 ?_
        refine z_eqi (nI_add _ 0) ?_
        refine z_istore_n dX0_positionOf_45 rfl (Nat.le_of_ble_eq_true rfl) ?_
        refine z_iinc dX0_positionOf_46 rfl (nI_1 _) (Nat.le_of_ble_eq_true rfl) ?_
        refine z_goto dX0_positionOf_49 rfl ?_
        have K2 := ih (i + 1) (some (.int 0)) (by omega)
        rw [show psO L s (i + 1) = psO L s i * 3 + 0 by show _ * 3 + stO L s i = _; rw [e]] at K2
        exact K2
      · by_cases h2 : s.testBit i = true
        · have e : stO L s i = 1 := by unfold stO; rw [if_neg h1, if_pos h2]
          refine z_iload_n dX0_positionOf_4 rfl rfl ?_
          refine z_bipush (v := 8) dX0_positionOf_5 (by decide) ?_
          refine z_icmp_ge dX0_positionOf_7 rfl (fun c => absurd c (fun q => absurd ((nI_leI (a := 8) (by omega) (by omega)).mp q) (by omega))) (fun _ => ?_)
          refine z_iload_n dX0_positionOf_10 rfl rfl ?_
          refine z_iload_n dX0_positionOf_11 rfl rfl ?_
          refine y_callS (as := [_]) CX8_bit LX0_43 SX8_bit dX0_positionOf_12 rfl (Nat.le_of_ble_eq_true rfl) (Nat.le_of_ble_eq_true rfl) (by omega) (s_bit _) rok_i ⟨Nat.le_refl _, Nat.le_refl _, hN, hS⟩ ?_
          refine z_iand dX0_positionOf_15 ?_
          refine z_if_eq dX0_positionOf_16 rfl (fun _ => ?_) (fun c => absurd (zlf h1) c)
          refine z_iload_n dX0_positionOf_23 rfl rfl ?_
          refine z_iload_n dX0_positionOf_24 rfl rfl ?_
          refine y_callS (as := [_]) CX8_bit LX0_43 SX8_bit dX0_positionOf_25 rfl (Nat.le_of_ble_eq_true rfl) (Nat.le_of_ble_eq_true rfl) (by omega) (s_bit _) rok_i ⟨Nat.le_refl _, Nat.le_refl _, hN, hS⟩ ?_
          refine z_iand dX0_positionOf_28 ?_
          refine z_if_eq dX0_positionOf_29 rfl (fun c => absurd c (zst h2)) (fun _ => ?_)
          refine z_iconst (v := 1) dX0_positionOf_32 (by decide) ?_
          refine z_goto dX0_positionOf_33 rfl ?_
          refine z_istore dX0_positionOf_37 (Nat.le_of_ble_eq_true rfl) ?_
          refine z_iload_n dX0_positionOf_39 rfl rfl ?_
          refine z_iconst (v := 3) dX0_positionOf_40 (by decide) ?_
          refine z_imul dX0_positionOf_41 ?_
          refine z_eqi (pk_mul _ 3) ?_
          refine z_iload dX0_positionOf_42 rfl ?_
          refine z_iadd dX0_positionOf_44 ?_
          refine z_eqi (nI_add _ 1) ?_
          refine z_istore_n dX0_positionOf_45 rfl (Nat.le_of_ble_eq_true rfl) ?_
          refine z_iinc dX0_positionOf_46 rfl (nI_1 _) (Nat.le_of_ble_eq_true rfl) ?_
          refine z_goto dX0_positionOf_49 rfl ?_
          have K2 := ih (i + 1) (some (.int 1)) (by omega)
          rw [show psO L s (i + 1) = psO L s i * 3 + 1 by show _ * 3 + stO L s i = _; rw [e]] at K2
          exact K2
        · have e : stO L s i = 2 := by unfold stO; rw [if_neg h1, if_neg h2]
          refine z_iload_n dX0_positionOf_4 rfl rfl ?_
          refine z_bipush (v := 8) dX0_positionOf_5 (by decide) ?_
          refine z_icmp_ge dX0_positionOf_7 rfl (fun c => absurd c (fun q => absurd ((nI_leI (a := 8) (by omega) (by omega)).mp q) (by omega))) (fun _ => ?_)
          refine z_iload_n dX0_positionOf_10 rfl rfl ?_
          refine z_iload_n dX0_positionOf_11 rfl rfl ?_
          refine y_callS (as := [_]) CX8_bit LX0_43 SX8_bit dX0_positionOf_12 rfl (Nat.le_of_ble_eq_true rfl) (Nat.le_of_ble_eq_true rfl) (by omega) (s_bit _) rok_i ⟨Nat.le_refl _, Nat.le_refl _, hN, hS⟩ ?_
          refine z_iand dX0_positionOf_15 ?_
          refine z_if_eq dX0_positionOf_16 rfl (fun _ => ?_) (fun c => absurd (zlf h1) c)
          refine z_iload_n dX0_positionOf_23 rfl rfl ?_
          refine z_iload_n dX0_positionOf_24 rfl rfl ?_
          refine y_callS (as := [_]) CX8_bit LX0_43 SX8_bit dX0_positionOf_25 rfl (Nat.le_of_ble_eq_true rfl) (Nat.le_of_ble_eq_true rfl) (by omega) (s_bit _) rok_i ⟨Nat.le_refl _, Nat.le_refl _, hN, hS⟩ ?_
          refine z_iand dX0_positionOf_28 ?_
          refine z_if_eq dX0_positionOf_29 rfl (fun _ => ?_) (fun c => absurd (zsf h2) c)
          refine z_iconst (v := 2) dX0_positionOf_36 (by decide) ?_
          refine z_istore dX0_positionOf_37 (Nat.le_of_ble_eq_true rfl) ?_
          refine z_iload_n dX0_positionOf_39 rfl rfl ?_
          refine z_iconst (v := 3) dX0_positionOf_40 (by decide) ?_
          refine z_imul dX0_positionOf_41 ?_
          refine z_eqi (pk_mul _ 3) ?_
          refine z_iload dX0_positionOf_42 rfl ?_
          refine z_iadd dX0_positionOf_44 ?_
          refine z_eqi (nI_add _ 2) ?_
          refine z_istore_n dX0_positionOf_45 rfl (Nat.le_of_ble_eq_true rfl) ?_
          refine z_iinc dX0_positionOf_46 rfl (nI_1 _) (Nat.le_of_ble_eq_true rfl) ?_
          refine z_goto dX0_positionOf_49 rfl ?_
          have K2 := ih (i + 1) (some (.int 2)) (by omega)
          rw [show psO L s (i + 1) = psO L s i * 3 + 2 by show _ * 3 + stO L s i = _; rw [e]] at K2
          exact K2
  refine z_iconst (v := 0) dX0_positionOf_0 (by decide) ?_
  refine z_istore_n dX0_positionOf_1 rfl (Nat.le_of_ble_eq_true rfl) ?_
  refine z_iconst (v := 0) dX0_positionOf_2 (by decide) ?_
  refine z_istore_n dX0_positionOf_3 rfl (Nat.le_of_ble_eq_true rfl) ?_
  exact X 8 0 none (by omega)

/-- what the contest knows of the first n words -/
def CWd (h : Hp) (a : Fl) (n : Nat) (m c : Nat) (w : Nat → Nat) : Prop := pI h 484 2 = nI m ∧ m < 256 ∧ pI h 484 1 = nI c ∧ c ≤ n ∧ (∀ j, j < c → pI h 485 j = nI (w j) ∧ w j < 256) ∧ ∀ so, so < 256 → (winB a so n = true ↔ sub m so ∧ ∀ j, j < c → ¬ w j &&& so = 0)

theorem c_isWon {h : Hp} {d g n m c : Nat} {w : Nat → Nat} {a : Fl} (ck : CK h) (cw : CWd h a n m c w) (hn : n ≤ 8) (hg : g < 256) : Sp d mX0_isWon [.ref 484, .int (nI g)] h (some (.int (bI (winB a g n = true)))) h := by
  have hm := cw.2.1
  have hc := cw.2.2.2.1
  have iff := cw.2.2.2.2.2 g hg
  have d0 := dif0 (x := m) (y := g) (by omega)
  have dl := dif_le m g
  intro N S Q hN hS hQ
  by_cases hs : dif m g = 0
  · have hsub := d0.mp hs
    have X : ∀ r i, i + r = c → (∀ j, j < i → ¬ w j &&& g = 0) → T d N S mX0_isWon 15 [some (.ref 484), some (.int (nI g)), some (.int (nI i))] [] h Q := by
      intro r
      induction r with
      | zero =>
        intro i hi ha
        have e : i = c := by omega
        subst e
        rw [bI_t (iff.mpr ⟨hsub, ha⟩)] at hQ
        refine z_iload_n dX0_isWon_15 rfl rfl ?_
        refine z_aload_n dX0_isWon_16 rfl rfl ?_
        refine y_getI FX0_24 dX0_isWon_17 (Or.inl rfl) ck.1 ?_
        refine z_eqi (y := nI (i)) cw.2.2.1 ?_
        refine z_icmp_ge dX0_isWon_20 rfl (fun _ => ?_) (fun c => absurd (Int32.le_refl _) c)
        refine z_iconst (v := 1) dX0_isWon_51 (by decide) ?_
        refine z_iret dX0_isWon_52 ?_
        exact hQ
      | succ r ih =>
        intro i hi ha
        have wl := (cw.2.2.2.2.1 i (by omega)).2
        have al : w i &&& g ≤ w i := Nat.and_le_left
        by_cases hz : w i &&& g = 0
        · rw [bI_f (fun q => (iff.mp q).2 i (by omega) hz)] at hQ
          refine z_iload_n dX0_isWon_15 rfl rfl ?_
          refine z_aload_n dX0_isWon_16 rfl rfl ?_
          refine y_getI FX0_24 dX0_isWon_17 (Or.inl rfl) ck.1 ?_
          refine z_eqi (y := nI (c)) cw.2.2.1 ?_
          refine z_icmp_ge dX0_isWon_20 rfl (fun c => absurd c (fun q => absurd ((nI_leI (by omega) (by omega)).mp q) (by omega))) (fun _ => ?_)
          refine z_iload_n dX0_isWon_23 rfl rfl ?_
          refine z_aload_n dX0_isWon_24 rfl rfl ?_
          refine y_getR FX0_9 dX0_isWon_25 rfl ck.1 ck.2.1 ?_
          refine y_alen dX0_isWon_28 ck.2.2.1 ⟨Nat.le_of_ble_eq_true rfl, Nat.le_of_ble_eq_true rfl⟩ rfl ?_
          refine z_icmp_ge dX0_isWon_29 rfl (fun c => absurd c (fun q => absurd ((nI_leI (a := 8) (by omega) (by omega)).mp q) (by omega))) (fun _ => ?_)
          refine z_aload_n dX0_isWon_32 rfl rfl ?_
          refine y_getR FX0_9 dX0_isWon_33 rfl ck.1 ck.2.1 ?_
          refine z_iload_n dX0_isWon_36 rfl rfl ?_
          refine y_ialN (i) dX0_isWon_37 ck.2.2.1 (Nat.le_of_ble_eq_true rfl) (rfl) (by omega) ?_
          refine z_eqi (cw.2.2.2.2.1 i (by omega)).1 ?_
          refine z_iload_n dX0_isWon_38 rfl rfl ?_
          refine z_iand dX0_isWon_39 ?_
          refine z_eqi (nI_and (w i) g) ?_
          refine z_if_ne dX0_isWon_40 rfl (fun c => absurd (congrArg nI hz) c) (fun _ => ?_)
          refine z_iconst (v := 0) dX0_isWon_43 (by decide) ?_
          refine z_iret dX0_isWon_44 ?_
          exact hQ
        · skip
          refine z_iload_n dX0_isWon_15 rfl rfl ?_
          refine z_aload_n dX0_isWon_16 rfl rfl ?_
          refine y_getI FX0_24 dX0_isWon_17 (Or.inl rfl) ck.1 ?_
          refine z_eqi (y := nI (c)) cw.2.2.1 ?_
          refine z_icmp_ge dX0_isWon_20 rfl (fun c => absurd c (fun q => absurd ((nI_leI (by omega) (by omega)).mp q) (by omega))) (fun _ => ?_)
          refine z_iload_n dX0_isWon_23 rfl rfl ?_
          refine z_aload_n dX0_isWon_24 rfl rfl ?_
          refine y_getR FX0_9 dX0_isWon_25 rfl ck.1 ck.2.1 ?_
          refine y_alen dX0_isWon_28 ck.2.2.1 ⟨Nat.le_of_ble_eq_true rfl, Nat.le_of_ble_eq_true rfl⟩ rfl ?_
          refine z_icmp_ge dX0_isWon_29 rfl (fun c => absurd c (fun q => absurd ((nI_leI (a := 8) (by omega) (by omega)).mp q) (by omega))) (fun _ => ?_)
          refine z_aload_n dX0_isWon_32 rfl rfl ?_
          refine y_getR FX0_9 dX0_isWon_33 rfl ck.1 ck.2.1 ?_
          refine z_iload_n dX0_isWon_36 rfl rfl ?_
          refine y_ialN (i) dX0_isWon_37 ck.2.2.1 (Nat.le_of_ble_eq_true rfl) (rfl) (by omega) ?_
          refine z_eqi (cw.2.2.2.2.1 i (by omega)).1 ?_
          refine z_iload_n dX0_isWon_38 rfl rfl ?_
          refine z_iand dX0_isWon_39 ?_
          refine z_eqi (nI_and (w i) g) ?_
          refine z_if_ne dX0_isWon_40 rfl (fun _ => ?_) (fun c => absurd c (fun q => hz ((nI_eq (b := 0) (by omega) (by omega)).mp q)))
          refine z_iinc dX0_isWon_45 rfl (nI_1 _) (Nat.le_of_ble_eq_true rfl) ?_
          refine z_goto dX0_isWon_48 rfl ?_
          refine ih (i + 1) (by omega) (fun j hj => ?_)
          by_cases e : j = i
          · rw [e]; exact hz
          · exact ha j (by omega)
    refine z_aload_n dX0_isWon_0 rfl rfl ?_
    refine y_getI FX0_28 dX0_isWon_1 (Or.inl rfl) ck.1 ?_
    refine z_eqi (y := nI (m)) cw.1 ?_
    refine z_iload_n dX0_isWon_4 rfl rfl ?_
    refine z_iconst (v := -1) dX0_isWon_5 (by decide) ?_
    refine z_ixor dX0_isWon_6 ?_
    refine z_iand dX0_isWon_7 ?_
    refine z_eqi (nI_dif m g) ?_
    refine z_if_eq dX0_isWon_8 rfl (fun _ => ?_) (fun c => absurd (congrArg nI hs) c)
    refine z_iconst (v := 0) dX0_isWon_13 (by decide) ?_
    refine z_istore_n dX0_isWon_14 rfl (Nat.le_of_ble_eq_true rfl) ?_
    exact X c 0 (by omega) (fun j hj => by omega)
  · rw [bI_f (fun q => hs (d0.mpr (iff.mp q).1))] at hQ
    refine z_aload_n dX0_isWon_0 rfl rfl ?_
    refine y_getI FX0_28 dX0_isWon_1 (Or.inl rfl) ck.1 ?_
    refine z_eqi (y := nI (m)) cw.1 ?_
    refine z_iload_n dX0_isWon_4 rfl rfl ?_
    refine z_iconst (v := -1) dX0_isWon_5 (by decide) ?_
    refine z_ixor dX0_isWon_6 ?_
    refine z_iand dX0_isWon_7 ?_
    refine z_eqi (nI_dif m g) ?_
    refine z_if_eq dX0_isWon_8 rfl (fun c => absurd c (fun q => hs ((nI_eq (b := 0) (by omega) (by omega)).mp q))) (fun _ => ?_)
    refine z_iconst (v := 0) dX0_isWon_11 (by decide) ?_
    refine z_iret dX0_isWon_12 ?_
    exact hQ

