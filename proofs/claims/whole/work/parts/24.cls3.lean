/-! the class: words on offer, what was heard, what was owed, prophets (walks by program: wip/whole/gen24.py) -/
/-- rows that stay -/
theorem RwV.keep {h h1 : Hp} {k w ms c p : Nat} {a a' : Fl} (hv : RwV h k w ms (a c) a p) (e0 : pI h1 k = pI h k) (e1 : pI h1 (k + 1) = pI h (k + 1)) (ec : a' c = a c) (e : ∀ i, p ≤ i → i < p + ms * w → a' i = a i) : RwV h1 k w ms (a' c) a' p := by
  rw [ec]
  have hle := Nat.mul_le_mul_right w hv.1.2.2.2.1
  exact (hv.fr e0 e1).cg (fun i hi => (e (p + i) (by omega) (by omega)).symm)
/-- a market whose rows of facts, words, heard and owed alone are told anew -/
theorem MV.rows {h h1 : Hp} {b : Nat} {a a' : Fl} {tx : Nat → Nat → Prop} (hv : MV h b a tx) (h4 : a 4 ≤ 30) (hR : pR h1 = pR h) (fr : ∀ k, (k < b + 9 ∨ b + 16 < k) → pI h1 k = pI h k) (g : ∀ i, (i = 1 ∨ i = 2 ∨ i = 3 ∨ i = 4 ∨ (8 ≤ i ∧ i < 110) ∨ 190 ≤ i) → a' i = a i)
    (cF : RwV h1 (b + 9) 2 8 (a' 0) a' 110) (cO : RwV h1 (b + 11) 4 8 (a' 5) a' 126) (cH : RwV h1 (b + 13) 2 8 (a' 6) a' 158) (cW : RwV h1 (b + 15) 2 8 (a' 7) a' 174) : MV h1 b a' tx := by
  obtain ⟨v1, ⟨e, v2, v2b, v2c⟩, v3, v4, vF, v6, v7, v8, v9, v10, v11⟩ := hv
  refine ⟨(v1.fr (fun k q1 q2 => fr k (by omega))).cg (fun i hi => ?_), ⟨e, v2, by rw [fr _ (by omega)]; exact v2b, fun t ht => ?_⟩, ?_, fun i hi => ?_, cF, cO, cH, cW, ?_, ?_, fun t ht => ?_⟩
  · unfold snap
    split
    · rw [g 1 (by omega)]
    · split
      · rw [g _ (by omega)]
      · split
        · rw [g _ (by omega)]
        · split
          · rw [g _ (by omega)]
          · rw [g _ (by omega)]
  · rw [g 4 (by omega)] at ht
    refine ((v2c t ht).fr (fun k q1 q2 => fr k (by omega))).cg (fun i hi => ?_)
    rw [g _ (by omega)]
  · rw [fr _ (by omega), g 4 (by omega)]; exact v3
  · obtain ⟨W, hW⟩ := v4 i hi
    exact ⟨W, hW.fr (fun k q1 q2 => fr k (by omega))⟩
  · rw [fr _ (by omega), g 2 (by omega)]; exact v9
  · rw [fr _ (by omega), v10]
    unfold cI
    rw [if_pos rfl, if_pos rfl, g 3 (by omega)]
  · rw [g 2 (by omega)] at ht
    rw [hR]
    exact v11 t ht
theorem RwV.nil {h h1 : Hp} {k w ms n p : Nat} {a : Fl} (hv : RwV h k w ms n a p) (e : pI h1 k = pI (sI h k 3 0) k) : RwV h1 k w ms 0 a p := by
  obtain ⟨⟨c0, c1, c3, c4, c5, c6, c7⟩, -⟩ := hv
  refine ⟨⟨?_, ?_, ?_, by omega, c5, c6, c7⟩, fun i hi => by omega⟩
  · rw [e, pI_sI, if_pos rfl, if_neg (by omega)]; exact c0
  · rw [e, pI_sI, if_pos rfl, if_neg (by omega)]; exact c1
  · rw [e, pI_sI, if_pos rfl, if_pos rfl]; rfl

theorem s_everyFact {h : Hp} {d n : Nat} (h8 : IO h 8 8) (hx0 : pR h 8 0 = some 9) (hs : MkS h 9) (e : pI h 18 3 = nI n) (hn : n ≤ 8) (hd : 1 ≤ d) : Sp d mX8_everyFact [.ref 8] h (some (.int (nI (2 ^ n) - 1))) h := by
  intro N S Q hN hS hQ
  refine z_aload_n dX8_everyFact_0 rfl rfl ?_
  refine y_getR FX8_10 dX8_everyFact_1 rfl h8 hx0 ?_
  refine y_getR FX8_65 dX8_everyFact_4 rfl hs.o hs.f4 ?_
  refine y_getI FX8_130 dX8_everyFact_7 (Or.inl rfl) hs.facts.1 ?_
  refine z_eqi (y := nI (n)) e ?_
  refine y_callS (as := [_]) CX8_bit LX8_163 SX8_bit dX8_everyFact_10 rfl (Nat.le_of_ble_eq_true rfl) (Nat.le_of_ble_eq_true rfl) (by omega) (s_bit _) rok_i ⟨Nat.le_refl _, Nat.le_refl _, hN, hS⟩ ?_
  refine z_eqi (nI_bit (by omega)) ?_
  refine z_iconst (v := 1) dX8_everyFact_13 (by decide) ?_
  refine z_isub dX8_everyFact_14 ?_
  refine z_iret dX8_everyFact_15 ?_
  exact hQ

theorem s_someFacts {h : Hp} {d n : Nat} (h8 : IO h 8 8) (hx0 : pR h 8 0 = some 9) (hs : MkS h 9) (e : pI h 18 3 = nI n) (hn : n ≤ 8) (x : Int32) (hd : 2 ≤ d) : Sp d mX8_someFacts [.ref 8, .int x] h (some (.int (bI (1 ≤ x ∧ x < nI (2 ^ n))))) h := by
  intro N S Q hN hS hQ
  have e3 : (1 ≤ x ∧ x ≤ nI (2 ^ n) - 1) ↔ (1 ≤ x ∧ x < nI (2 ^ n)) := by
    have hp := pow_le8 hn
    rw [show (1 : Int32) = nI 1 from rfl, pk_sub (by omega)]
    simp only [Int32.le_iff_toInt_le, Int32.lt_iff_toInt_lt]
    rw [nI_toInt (n := 2 ^ n) (by omega), nI_toInt (n := 2 ^ n - 1) (by omega)]
    constructor <;> (rintro ⟨q1, q2⟩; exact ⟨q1, by omega⟩)
  rw [← bI_congr e3] at hQ
  refine z_iload_n dX8_someFacts_0 rfl rfl ?_
  refine z_iconst (v := 1) dX8_someFacts_1 (by decide) ?_
  refine z_aload_n dX8_someFacts_2 rfl rfl ?_
  refine y_callV (as := []) CX8_everyFact LX8_393 IX8_everyFact VX8_everyFact ⟨rfl, Nat.le_of_ble_eq_true rfl⟩ dX8_someFacts_3 h8 rfl (Nat.le_of_ble_eq_true rfl) (Nat.le_of_ble_eq_true rfl) (by omega) (s_everyFact (d := 1) h8 hx0 (by exact hs) e hn (Nat.le_refl _)) rok_i ⟨Nat.le_refl _, Nat.le_refl _, hN, hS⟩ ?_
  refine y_callS (as := [_, _, _]) CX8_within LX8_61 SX8_within dX8_someFacts_6 rfl (Nat.le_of_ble_eq_true rfl) (Nat.le_of_ble_eq_true rfl) (by omega) (s_within _ _ _) (rok_z bI_01) ⟨Nat.le_refl _, Nat.le_refl _, hN, hS⟩ ?_
  refine z_iret dX8_someFacts_9 ?_
  exact hQ

def pairH (h : Hp) (k n : Nat) (x y : Int32) : Hp := sI (sI (growH h k 2 n) (k + 1) (n * 2 + 0) x) (k + 1) (n * 2 + 1) y

theorem nI_ne1 {n : Nat} (h : n < 2 ^ 31) : ¬ nI n = -1 := fun q => absurd (q ▸ nI_pos' h) (by decide)

theorem s_addPair {h : Hp} {d k ms n : Nat} {x y : Int32} (hR : RwS h k 2 ms) (hC : RwC h k 2 ms n) (hf : n < ms) (hd : 3 ≤ d) : Sp d mX8_addPair [.ref k, .int x, .int y] h (some (.int (nI (n + 1)))) (pairH h k n x y) := by
  intro N S Q hN hS hQ
  have hms : ms ≤ 30 := hC.2.2.2.2.2.2
  have hC1 : RwC (growH h k 2 n) k 2 ms (n + 1) := hC.grow hf
  have hC2 : RwC (sI (growH h k 2 n) (k + 1) (n * 2 + 0) x) k 2 ms (n + 1) := hC1.fr (pI_sI_ne (by omega))
  have hC3 : RwC (sI (sI (growH h k 2 n) (k + 1) (n * 2 + 0) x) (k + 1) (n * 2 + 1) y) k 2 ms (n + 1) := hC2.fr (pI_sI_ne (by omega))
  refine z_aload_n dX8_addPair_0 rfl rfl ?_
  refine y_callV (as := []) CX4_grow LX8_69 IX4_grow VX4_grow ⟨rfl, Nat.le_of_ble_eq_true rfl⟩ dX8_addPair_1 hR.1 rfl (Nat.le_of_ble_eq_true rfl) (Nat.le_of_ble_eq_true rfl) (by omega) (s_grow (d := 2) hR hC hf (Nat.le_refl _)) rok_i ⟨Nat.le_refl _, Nat.le_refl _, hN, hS⟩ ?_
  refine z_istore_n dX8_addPair_4 rfl (Nat.le_of_ble_eq_true rfl) ?_
  refine z_iload_n dX8_addPair_5 rfl rfl ?_
  refine z_iconst (v := -1) dX8_addPair_6 (by decide) ?_
  refine z_icmp_ne dX8_addPair_7 rfl (fun _ => ?_) (fun c => absurd c (fun q => absurd q (nI_ne1 (by omega))))
  refine z_aload_n dX8_addPair_13 rfl rfl ?_
  refine z_iload_n dX8_addPair_14 rfl rfl ?_
  refine z_iconst (v := 0) dX8_addPair_15 (by decide) ?_
  refine z_iload_n dX8_addPair_16 rfl rfl ?_
  refine y_callV (as := [_, _, _]) CX4_set LX8_75 IX4_set VX4_set ⟨rfl, Nat.le_of_ble_eq_true rfl⟩ dX8_addPair_17 hR.1 rfl (Nat.le_of_ble_eq_true rfl) (Nat.le_of_ble_eq_true rfl) (by omega) (s_set (d := 2) (i := n) (j := 0) (by exact hR) hC1 (by omega) (Nat.le_of_ble_eq_true rfl)) rok_v ⟨Nat.le_refl _, Nat.le_refl _, hN, hS⟩ ?_
  refine z_aload_n dX8_addPair_20 rfl rfl ?_
  refine z_iload_n dX8_addPair_21 rfl rfl ?_
  refine z_iconst (v := 1) dX8_addPair_22 (by decide) ?_
  refine z_iload_n dX8_addPair_23 rfl rfl ?_
  refine y_callV (as := [_, _, _]) CX4_set LX8_75 IX4_set VX4_set ⟨rfl, Nat.le_of_ble_eq_true rfl⟩ dX8_addPair_24 hR.1 rfl (Nat.le_of_ble_eq_true rfl) (Nat.le_of_ble_eq_true rfl) (by omega) (s_set (d := 2) (i := n) (j := 1) (by exact hR) hC2 (by omega) (Nat.le_of_ble_eq_true rfl)) rok_v ⟨Nat.le_refl _, Nat.le_refl _, hN, hS⟩ ?_
  refine z_aload_n dX8_addPair_27 rfl rfl ?_
  refine y_getI FX8_130 dX8_addPair_28 (Or.inl rfl) hR.1 ?_
  refine z_iret dX8_addPair_31 ?_
  rw [hC3.2.2.1]
  exact hQ

theorem s_addPairN {h : Hp} {d k ms n : Nat} {x y : Int32} (hR : RwS h k 2 ms) (hC : RwC h k 2 ms n) (hf : n = ms) (hd : 3 ≤ d) : Sp d mX8_addPair [.ref k, .int x, .int y] h (some (.int (-2))) h := by
  intro N S Q hN hS hQ
  refine z_aload_n dX8_addPair_0 rfl rfl ?_
  refine y_callV (as := []) CX4_grow LX8_69 IX4_grow VX4_grow ⟨rfl, Nat.le_of_ble_eq_true rfl⟩ dX8_addPair_1 hR.1 rfl (Nat.le_of_ble_eq_true rfl) (Nat.le_of_ble_eq_true rfl) (by omega) (s_growN (d := 2) hR hC hf) rok_i ⟨Nat.le_refl _, Nat.le_refl _, hN, hS⟩ ?_
  refine z_istore_n dX8_addPair_4 rfl (Nat.le_of_ble_eq_true rfl) ?_
  refine z_iload_n dX8_addPair_5 rfl rfl ?_
  refine z_iconst (v := -1) dX8_addPair_6 (by decide) ?_
  refine z_icmp_ne dX8_addPair_7 rfl (fun c => absurd (rfl) c) (fun _ => ?_)
  refine z_bipush (v := -2) dX8_addPair_10 (by decide) ?_
  refine z_iret dX8_addPair_12 ?_
  exact hQ

theorem C_heard {h : Hp} {d : Nat} {a : Fl} {tx : Nat → Nat → Prop} (h8 : IO h 8 8) (hx0 : pR h 8 0 = some 9) (hs : MkS h 9) (hv : MV h 9 a tx) (hi : IC a) (f : Int32) {b : Nat} (hb : b = 0 ∨ b = 1) (hd : 4 ≤ d) : ∃ h1, Sp d mX8_heard [.ref 8, .int f, .int (nI b)] h (some (.int (mHeard a f b).1)) h1 ∧ MV h1 9 (mHeard a f b).2 tx ∧ FR 9 236 h h1 := by
  have hv0 := hv
  obtain ⟨v1, v2, v3, v4, vF, v6, v7, v8, v9, v10, v11⟩ := hv
  obtain ⟨i0, -, -, -, i4, -, i6, -⟩ := hi
  have eF : pI h 18 3 = nI (a 0) := vF.1.2.2.1
  by_cases hc : f = -1
  · subst hc
    have hf : mHeard a (-1) b = (0, up a 6 0) := by unfold mHeard; rw [if_pos rfl]
    rw [hf]
    have fr2 : ∀ k, k ≠ 22 → pI (sI h 22 3 0) k = pI h k := fun k hk => pI_sI_ne hk
    have gg : ∀ i, i ≠ 6 → up a 6 0 i = a i := fun i hi => up_n hi
    refine ⟨sI h 22 3 0, ?_, show MV (sI h 22 3 0) 9 (up a 6 0) tx from hv0.rows i4 rfl (fun k hk => fr2 k (by omega)) (fun i hi => gg i (by omega)) (vF.keep (fr2 18 (by omega)) (fr2 19 (by omega)) (gg 0 (by omega)) (fun i q1 q2 => gg i (by omega))) (v6.keep (fr2 20 (by omega)) (fr2 21 (by omega)) (gg 5 (by omega)) (fun i q1 q2 => gg i (by omega))) (by rw [up_s]; exact (v7.nil rfl).cg (fun i hi => by omega)) (v8.keep (fr2 24 (by omega)) (fr2 25 (by omega)) (gg 7 (by omega)) (fun i q1 q2 => gg i (by omega))), FR.rf.sI (by omega)⟩
    intro N S Q hN hS hQ
    refine z_iload_n dX8_heard_0 rfl rfl ?_
    refine z_iconst (v := -1) dX8_heard_1 (by decide) ?_
    refine z_icmp_ne dX8_heard_2 rfl (fun c => absurd (rfl) c) (fun _ => ?_)
    refine z_aload_n dX8_heard_5 rfl rfl ?_
    refine y_getR FX8_10 dX8_heard_6 rfl h8 hx0 ?_
    refine y_getR FX8_373 dX8_heard_9 rfl hs.o hs.f6 ?_
    refine y_callV (as := []) CX4_clear LX8_353 IX4_clear VX4_clear ⟨rfl, Nat.le_of_ble_eq_true rfl⟩ dX8_heard_12 hs.heard.1 rfl (Nat.le_of_ble_eq_true rfl) (Nat.le_of_ble_eq_true rfl) (by omega) (s_clear (by exact hs.heard)) rok_v ⟨Nat.le_refl _, Nat.le_refl _, hN, hS⟩ ?_
    refine z_iconst (v := 0) dX8_heard_15 (by decide) ?_
    refine z_iret dX8_heard_16 ?_
    exact hQ
  · by_cases hg : vin f (a 0)
    · obtain ⟨f', hf', rfl⟩ := vin_of (by omega) hg
      by_cases h68 : a 6 < 8
      · have hf : mHeard a (nI f') b = (nI (a 6 + 1), up (up (up a (158 + 2 * a 6) f') (158 + 2 * a 6 + 1) b) 6 (a 6 + 1)) := by
          unfold mHeard
          rw [if_neg hc, if_pos ⟨hg, h68⟩, nn_nI (by omega)]
        rw [hf]
        have fr2 : ∀ k, (k ≠ 22 ∧ k ≠ 23) → pI (pairH h 22 (a 6) (nI f') (nI b)) k = pI h k := fun k hk => by unfold pairH; rw [pI_sI_ne hk.2, pI_sI_ne hk.2, growH_ne hk.1 hk.2]
        have gg : ∀ i, (i ≠ 6 ∧ (i < 158 ∨ 174 ≤ i)) → up (up (up a (158 + 2 * a 6) f') (158 + 2 * a 6 + 1) b) 6 (a 6 + 1) i = a i := fun i hi => by simp only [up]; rw [if_neg hi.1, if_neg (by omega), if_neg (by omega)]
        refine ⟨pairH h 22 (a 6) (nI f') (nI b), ?_, show MV (pairH h 22 (a 6) (nI f') (nI b)) 9 (up (up (up a (158 + 2 * a 6) f') (158 + 2 * a 6 + 1) b) 6 (a 6 + 1)) tx from hv0.rows i4 rfl (fun k hk => fr2 k (by omega)) (fun i hi => gg i (by omega)) (vF.keep (fr2 18 (by omega)) (fr2 19 (by omega)) (gg 0 (by omega)) (fun i q1 q2 => gg i (by omega))) (v6.keep (fr2 20 (by omega)) (fr2 21 (by omega)) (gg 5 (by omega)) (fun i q1 q2 => gg i (by omega))) (by rw [up_s]; exact v7.add2 h68 (fun i hi => by simp only [up]; rw [if_neg (by omega), if_neg (by omega), if_neg (by omega)]) (by simp only [up]; rw [if_neg (by omega), if_neg (by omega), if_pos (by omega)]) (by simp only [up]; rw [if_neg (by omega), if_pos (by omega)])) (v8.keep (fr2 24 (by omega)) (fr2 25 (by omega)) (gg 7 (by omega)) (fun i q1 q2 => gg i (by omega))), ((FR.rf.grow (by omega)).sI (by omega)).sI (by omega)⟩
        intro N S Q hN hS hQ
        rcases hb with rfl | rfl
        · -- b
          refine z_iload_n dX8_heard_0 rfl rfl ?_
          refine z_iconst (v := -1) dX8_heard_1 (by decide) ?_
          refine z_icmp_ne dX8_heard_2 rfl (fun _ => ?_) (fun c => absurd c (hc))
          refine z_aload_n dX8_heard_17 rfl rfl ?_
          refine y_getR FX8_10 dX8_heard_18 rfl h8 hx0 ?_
          refine y_getR FX8_65 dX8_heard_21 rfl hs.o hs.f4 ?_
          refine z_iload_n dX8_heard_24 rfl rfl ?_
          refine y_callV (as := [_]) CX4_has LX8_140 IX4_has VX4_has ⟨rfl, Nat.le_of_ble_eq_true rfl⟩ dX8_heard_25 hs.facts.1 rfl (Nat.le_of_ble_eq_true rfl) (Nat.le_of_ble_eq_true rfl) (by omega) (s_has (d := 3) (by exact hs.facts) vF.1 _) (rok_z bI_01) ⟨Nat.le_refl _, Nat.le_refl _, hN, hS⟩ ?_
          refine z_if_eq dX8_heard_28 rfl (fun c => absurd c (bI_ne0.mpr hg)) (fun _ => ?_)
          refine z_aload_n dX8_heard_31 rfl rfl ?_
          refine y_getR FX8_10 dX8_heard_32 rfl h8 hx0 ?_
          refine y_getR FX8_373 dX8_heard_35 rfl hs.o hs.f6 ?_
          refine z_iload_n dX8_heard_38 rfl rfl ?_
          refine z_iload_n dX8_heard_39 rfl rfl ?_
          refine z_if_eq dX8_heard_40 rfl (fun _ => ?_) (fun c => absurd (rfl) c)
          refine z_iconst (v := 0) dX8_heard_47 (by decide) ?_
          refine y_callS (as := [_, _, _]) CX8_addPair LX8_376 SX8_addPair dX8_heard_48 rfl (Nat.le_of_ble_eq_true rfl) (Nat.le_of_ble_eq_true rfl) (by omega) (s_addPair (d := 3) (by exact hs.heard) v7.1 h68 (Nat.le_refl _)) rok_i ⟨Nat.le_refl _, Nat.le_refl _, hN, hS⟩ ?_
          refine z_goto dX8_heard_51 rfl ?_
          refine z_iret dX8_heard_56 ?_
          exact hQ
        · -- b
          refine z_iload_n dX8_heard_0 rfl rfl ?_
          refine z_iconst (v := -1) dX8_heard_1 (by decide) ?_
          refine z_icmp_ne dX8_heard_2 rfl (fun _ => ?_) (fun c => absurd c (hc))
          refine z_aload_n dX8_heard_17 rfl rfl ?_
          refine y_getR FX8_10 dX8_heard_18 rfl h8 hx0 ?_
          refine y_getR FX8_65 dX8_heard_21 rfl hs.o hs.f4 ?_
          refine z_iload_n dX8_heard_24 rfl rfl ?_
          refine y_callV (as := [_]) CX4_has LX8_140 IX4_has VX4_has ⟨rfl, Nat.le_of_ble_eq_true rfl⟩ dX8_heard_25 hs.facts.1 rfl (Nat.le_of_ble_eq_true rfl) (Nat.le_of_ble_eq_true rfl) (by omega) (s_has (d := 3) (by exact hs.facts) vF.1 _) (rok_z bI_01) ⟨Nat.le_refl _, Nat.le_refl _, hN, hS⟩ ?_
          refine z_if_eq dX8_heard_28 rfl (fun c => absurd c (bI_ne0.mpr hg)) (fun _ => ?_)
          refine z_aload_n dX8_heard_31 rfl rfl ?_
          refine y_getR FX8_10 dX8_heard_32 rfl h8 hx0 ?_
          refine y_getR FX8_373 dX8_heard_35 rfl hs.o hs.f6 ?_
          refine z_iload_n dX8_heard_38 rfl rfl ?_
          refine z_iload_n dX8_heard_39 rfl rfl ?_
          refine z_if_eq dX8_heard_40 rfl (fun c => absurd c (by decide)) (fun _ => ?_)
          refine z_iconst (v := 1) dX8_heard_43 (by decide) ?_
          refine z_goto dX8_heard_44 rfl ?_
          refine y_callS (as := [_, _, _]) CX8_addPair LX8_376 SX8_addPair dX8_heard_48 rfl (Nat.le_of_ble_eq_true rfl) (Nat.le_of_ble_eq_true rfl) (by omega) (s_addPair (d := 3) (by exact hs.heard) v7.1 h68 (Nat.le_refl _)) rok_i ⟨Nat.le_refl _, Nat.le_refl _, hN, hS⟩ ?_
          refine z_goto dX8_heard_51 rfl ?_
          refine z_iret dX8_heard_56 ?_
          exact hQ
      · have hf : mHeard a (nI f') b = (-2, a) := by
          unfold mHeard
          rw [if_neg hc, if_neg (fun q => h68 q.2)]
        rw [hf]
        refine ⟨h, ?_, hv0, FR.rf⟩
        intro N S Q hN hS hQ
        rcases hb with rfl | rfl
        · -- b
          refine z_iload_n dX8_heard_0 rfl rfl ?_
          refine z_iconst (v := -1) dX8_heard_1 (by decide) ?_
          refine z_icmp_ne dX8_heard_2 rfl (fun _ => ?_) (fun c => absurd c (hc))
          refine z_aload_n dX8_heard_17 rfl rfl ?_
          refine y_getR FX8_10 dX8_heard_18 rfl h8 hx0 ?_
          refine y_getR FX8_65 dX8_heard_21 rfl hs.o hs.f4 ?_
          refine z_iload_n dX8_heard_24 rfl rfl ?_
          refine y_callV (as := [_]) CX4_has LX8_140 IX4_has VX4_has ⟨rfl, Nat.le_of_ble_eq_true rfl⟩ dX8_heard_25 hs.facts.1 rfl (Nat.le_of_ble_eq_true rfl) (Nat.le_of_ble_eq_true rfl) (by omega) (s_has (d := 3) (by exact hs.facts) vF.1 _) (rok_z bI_01) ⟨Nat.le_refl _, Nat.le_refl _, hN, hS⟩ ?_
          refine z_if_eq dX8_heard_28 rfl (fun c => absurd c (bI_ne0.mpr hg)) (fun _ => ?_)
          refine z_aload_n dX8_heard_31 rfl rfl ?_
          refine y_getR FX8_10 dX8_heard_32 rfl h8 hx0 ?_
          refine y_getR FX8_373 dX8_heard_35 rfl hs.o hs.f6 ?_
          refine z_iload_n dX8_heard_38 rfl rfl ?_
          refine z_iload_n dX8_heard_39 rfl rfl ?_
          refine z_if_eq dX8_heard_40 rfl (fun _ => ?_) (fun c => absurd (rfl) c)
          refine z_iconst (v := 0) dX8_heard_47 (by decide) ?_
          refine y_callS (as := [_, _, _]) CX8_addPair LX8_376 SX8_addPair dX8_heard_48 rfl (Nat.le_of_ble_eq_true rfl) (Nat.le_of_ble_eq_true rfl) (by omega) (s_addPairN (d := 3) (by exact hs.heard) v7.1 (by omega) (Nat.le_refl _)) rok_i ⟨Nat.le_refl _, Nat.le_refl _, hN, hS⟩ ?_
          refine z_goto dX8_heard_51 rfl ?_
          refine z_iret dX8_heard_56 ?_
          exact hQ
        · -- b
          refine z_iload_n dX8_heard_0 rfl rfl ?_
          refine z_iconst (v := -1) dX8_heard_1 (by decide) ?_
          refine z_icmp_ne dX8_heard_2 rfl (fun _ => ?_) (fun c => absurd c (hc))
          refine z_aload_n dX8_heard_17 rfl rfl ?_
          refine y_getR FX8_10 dX8_heard_18 rfl h8 hx0 ?_
          refine y_getR FX8_65 dX8_heard_21 rfl hs.o hs.f4 ?_
          refine z_iload_n dX8_heard_24 rfl rfl ?_
          refine y_callV (as := [_]) CX4_has LX8_140 IX4_has VX4_has ⟨rfl, Nat.le_of_ble_eq_true rfl⟩ dX8_heard_25 hs.facts.1 rfl (Nat.le_of_ble_eq_true rfl) (Nat.le_of_ble_eq_true rfl) (by omega) (s_has (d := 3) (by exact hs.facts) vF.1 _) (rok_z bI_01) ⟨Nat.le_refl _, Nat.le_refl _, hN, hS⟩ ?_
          refine z_if_eq dX8_heard_28 rfl (fun c => absurd c (bI_ne0.mpr hg)) (fun _ => ?_)
          refine z_aload_n dX8_heard_31 rfl rfl ?_
          refine y_getR FX8_10 dX8_heard_32 rfl h8 hx0 ?_
          refine y_getR FX8_373 dX8_heard_35 rfl hs.o hs.f6 ?_
          refine z_iload_n dX8_heard_38 rfl rfl ?_
          refine z_iload_n dX8_heard_39 rfl rfl ?_
          refine z_if_eq dX8_heard_40 rfl (fun c => absurd c (by decide)) (fun _ => ?_)
          refine z_iconst (v := 1) dX8_heard_43 (by decide) ?_
          refine z_goto dX8_heard_44 rfl ?_
          refine y_callS (as := [_, _, _]) CX8_addPair LX8_376 SX8_addPair dX8_heard_48 rfl (Nat.le_of_ble_eq_true rfl) (Nat.le_of_ble_eq_true rfl) (by omega) (s_addPairN (d := 3) (by exact hs.heard) v7.1 (by omega) (Nat.le_refl _)) rok_i ⟨Nat.le_refl _, Nat.le_refl _, hN, hS⟩ ?_
          refine z_goto dX8_heard_51 rfl ?_
          refine z_iret dX8_heard_56 ?_
          exact hQ
    · have hf : mHeard a f b = (-2, a) := by
        unfold mHeard
        rw [if_neg hc, if_neg (fun q => hg q.1)]
      rw [hf]
      refine ⟨h, ?_, hv0, FR.rf⟩
      intro N S Q hN hS hQ
      refine z_iload_n dX8_heard_0 rfl rfl ?_
      refine z_iconst (v := -1) dX8_heard_1 (by decide) ?_
      refine z_icmp_ne dX8_heard_2 rfl (fun _ => ?_) (fun c => absurd c (hc))
      refine z_aload_n dX8_heard_17 rfl rfl ?_
      refine y_getR FX8_10 dX8_heard_18 rfl h8 hx0 ?_
      refine y_getR FX8_65 dX8_heard_21 rfl hs.o hs.f4 ?_
      refine z_iload_n dX8_heard_24 rfl rfl ?_
      refine y_callV (as := [_]) CX4_has LX8_140 IX4_has VX4_has ⟨rfl, Nat.le_of_ble_eq_true rfl⟩ dX8_heard_25 hs.facts.1 rfl (Nat.le_of_ble_eq_true rfl) (Nat.le_of_ble_eq_true rfl) (by omega) (s_has (d := 3) (by exact hs.facts) vF.1 _) (rok_z bI_01) ⟨Nat.le_refl _, Nat.le_refl _, hN, hS⟩ ?_
      refine z_if_eq dX8_heard_28 rfl (fun _ => ?_) (fun c => absurd (bI_eq0.mpr hg) c)
      refine z_bipush (v := -2) dX8_heard_54 (by decide) ?_
      refine z_iret dX8_heard_56 ?_
      exact hQ

