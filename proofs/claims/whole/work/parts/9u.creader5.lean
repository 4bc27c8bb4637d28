/-! the class's reader: its state, its steps (wip/whole/gen9u.py) -/
/-- what is read: tokens of kinds K, n of them and 54 behind; numbers W -/
def CT (h0 : Hp) (K W : Nat → Nat) (n : Nat) : Prop := CR h0 ∧ pI h0 473 3 = nI (n + 1) ∧ n ≤ 300 ∧ (∀ j, j ≤ n → pI h0 474 j = nI (K j)) ∧ (∀ j, n ≤ j → K j = 54) ∧ (∀ j, j ≤ n → K j = 52 → pI h0 475 j = nI (min 10000 (W j))) ∧ (∀ j, K j ≤ 54)
theorem CT.of {h0 h1 : Hp} {K W : Nat → Nat} {n : Nat} (c : CT h0 K W n) (hs : SS h0 h1) (e3 : pI h1 473 = pI h0 473) (e4 : pI h1 474 = pI h0 474) (e5 : pI h1 475 = pI h0 475) : CT h1 K W n := ⟨hs.cr c.1, by rw [e3]; exact c.2.1, c.2.2.1, by rw [e4]; exact c.2.2.2.1, c.2.2.2.2.1, by rw [e5]; exact c.2.2.2.2.2.1, c.2.2.2.2.2.2⟩
theorem CT.lt {h0 : Hp} {K W : Nat → Nat} {n : Nat} (c : CT h0 K W n) : ∀ j, K j < 53 → j < n := fun j hj => by
  by_cases q : n ≤ j
  · exact absurd (c.2.2.2.2.1 j q) (by omega)
  · omega
/-- the reader stands at token i, its fault is z; since h0 nothing but its reading has changed -/
def RA (h0 : Hp) (K : Nat → Nat) (n z i : Nat) (h : Hp) : Prop := SS h0 h ∧ (∀ k, k ≠ 472 → k ≠ 477 → pI h k = pI h0 k) ∧ pJ h = pJ h0 ∧ (∀ j, (j < 2 ∨ 5 < j) → pI h 472 j = pI h0 472 j) ∧ pI h 472 3 = nI i ∧ pI h 472 4 = nI (K i) ∧ pI h 472 5 = nI z ∧ i ≤ n ∧ z ≤ 9
/-- its code stays -/
def KC (h h1 : Hp) : Prop := pI h1 477 = pI h 477 ∧ pI h1 472 2 = pI h 472 2
theorem KC.rf {h : Hp} : KC h h := ⟨rfl, rfl⟩
theorem KC.tr {a b c : Hp} (x : KC a b) (y : KC b c) : KC a c := ⟨y.1.trans x.1, y.2.trans x.2⟩
/-- and its code is c -/
def RCd (h0 : Hp) (K : Nat → Nat) (n z i : Nat) (c : Cd) (h : Hp) : Prop := RA h0 K n z i h ∧ pI h 472 2 = nI c.length ∧ ∀ j q, c[j]? = some q → pI h 477 j = cnv q.1 q.2
def RQ (h0 : Hp) (K : Nat → Nat) (n a z i : Nat) (c : Cd) (h : Hp) : Prop := RCd h0 K n z i c h ∧ c.length + a ≤ i
theorem ss_n {h h1 : Hp} {N : Nat} (s : SS h h1) (q : pn h1 ≤ N) : pn h ≤ N := by rw [← s.n]; exact q
theorem ss_s {h h1 : Hp} {S : Nat} (s : SS h h1) (q : ps h1 ≤ S) : ps h ≤ S := by rw [← s.s]; exact q
theorem ss_n' {h h1 : Hp} {N : Nat} (s : SS h h1) (q : pn h ≤ N) : pn h1 ≤ N := by rw [s.n]; exact q
theorem ss_s' {h h1 : Hp} {S : Nat} (s : SS h h1) (q : ps h ≤ S) : ps h1 ≤ S := by rw [s.s]; exact q
section RAS
variable {h0 h h1 : Hp} {K W : Nat → Nat} {n a z z1 i i1 : Nat} {c : Cd}
theorem RA.ss (q : RA h0 K n z i h) (q1 : RA h0 K n z1 i1 h1) : SS h h1 := q1.1.trans q.1.symm
theorem RA.cr (ct : CT h0 K W n) (q : RA h0 K n z i h) : CR h := q.1.cr ct.1
theorem RA.c3 (ct : CT h0 K W n) (q : RA h0 K n z i h) : pI h 473 3 = nI (n + 1) := by rw [q.2.1 473 (by omega) (by omega)]; exact ct.2.1
theorem RA.hg {N S : Nat} (q : RA h0 K n z i h) (q1 : RA h0 K n z1 i1 h1) (hN : pn h0 ≤ N) (hS : ps h0 ≤ S) : pn h ≤ pn h1 ∧ ps h ≤ ps h1 ∧ pn h1 ≤ N ∧ ps h1 ≤ S := hg_ss (q.ss q1) (ss_n' q.1 hN) (ss_s' q.1 hS)
theorem RCd.mv (q : RCd h0 K n z i c h) (q1 : RA h0 K n z1 i1 h1) (k : KC h h1) : RCd h0 K n z1 i1 c h1 := ⟨q1, by rw [k.2]; exact q.2.1, by rw [k.1]; exact q.2.2⟩
theorem RQ.mv (q : RQ h0 K n a z i c h) (q1 : RA h0 K n z1 i1 h1) (k : KC h h1) {a1 : Nat} (hb : c.length + a1 ≤ i1) : RQ h0 K n a1 z1 i1 c h1 := ⟨q.1.mv q1 k, hb⟩
theorem RQ.le {a1 : Nat} (q : RQ h0 K n a z i c h) (ha : a1 ≤ a) : RQ h0 K n a1 z i c h := ⟨q.1, by have := q.2; omega⟩
theorem a_adv {d : Nat} (ct : CT h0 K W n) (q : RA h0 K n z i h) (hi : i < n) : ∃ h1, Sp d mX2_advance [.ref 472] h none h1 ∧ RA h0 K n z (i + 1) h1 ∧ KC h h1 := by
  have n3 := ct.2.2.1
  have e4 : pI h 474 (i + 1) = nI (K (i + 1)) := by rw [q.2.1 474 (by omega) (by omega)]; exact ct.2.2.2.1 (i + 1) (by omega)
  refine ⟨_, c_advance (q.cr ct) q.2.2.2.2.1 (nI_1 i) (q.c3 ct) (by omega) (by omega), ⟨q.1, fun k k1 k2 => ?_, q.2.2.1, fun j hj => ?_, ?_, ?_, ?_, by omega, q.2.2.2.2.2.2.2.2⟩, ?_, ?_⟩
  · rw [pI_sI_ne k1, pI_sI_ne k1]; exact q.2.1 k k1 k2
  · rw [pI_sI, if_pos rfl, if_neg (by omega), pI_sI, if_pos rfl, if_neg (by omega)]; exact q.2.2.2.1 j hj
  · rw [pI_sI, if_pos rfl, if_neg (by omega), pI_sI, if_pos rfl, if_pos rfl]
  · rw [pI_sI, if_pos rfl, if_pos rfl]; exact e4
  · rw [pI_sI, if_pos rfl, if_neg (by omega), pI_sI, if_pos rfl, if_neg (by omega)]; exact q.2.2.2.2.2.2.1
  · rw [pI_sI_ne (by omega), pI_sI_ne (by omega)]
  · rw [pI_sI, if_pos rfl, if_neg (by omega), pI_sI, if_pos rfl, if_neg (by omega)]
theorem a_bl0 {d w : Nat} (ct : CT h0 K W n) (q : RA h0 K n 0 i h) (hw : w ≤ 9) : ∃ h1, Sp d mX2_blame [.ref 472, .int (nI w)] h none h1 ∧ RA h0 K n w i h1 ∧ KC h h1 := by
  refine ⟨_, c_blame0 (q.cr ct) q.2.2.2.2.2.2.1, ⟨q.1, fun k k1 k2 => ?_, q.2.2.1, fun j hj => ?_, ?_, ?_, ?_, q.2.2.2.2.2.2.2.1, hw⟩, ?_, ?_⟩
  · rw [pI_sI_ne k1]; exact q.2.1 k k1 k2
  · rw [pI_sI, if_pos rfl, if_neg (by omega)]; exact q.2.2.2.1 j hj
  · rw [pI_sI, if_pos rfl, if_neg (by omega)]; exact q.2.2.2.2.1
  · rw [pI_sI, if_pos rfl, if_neg (by omega)]; exact q.2.2.2.2.2.1
  · rw [pI_sI, if_pos rfl, if_pos rfl]
  · rw [pI_sI_ne (by omega)]
  · rw [pI_sI, if_pos rfl, if_neg (by omega)]
theorem a_bl1 {d w : Nat} (ct : CT h0 K W n) (q : RA h0 K n z i h) (hz : 1 ≤ z) : Sp d mX2_blame [.ref 472, .int (nI w)] h none h := c_blame1 (q.cr ct) q.2.2.2.2.2.2.1 ⟨hz, q.2.2.2.2.2.2.2.2⟩
theorem c_em0 {d o v : Nat} {x : Int32} (ct : CT h0 K W n) (q : RCd h0 K n 0 i c h) (hl : c.length < 300) (hx : x = cnv o v) : ∃ h1, Sp d mX2_emit [.ref 472, .int x] h none h1 ∧ RCd h0 K n 0 i (c ++ [(o, v)]) h1 := by
  obtain ⟨q, e2, ec⟩ := q
  have ni := q.2.2.2.2.2.2.2.1
  refine ⟨_, c_emit0 (q.cr ct) q.2.2.2.2.2.2.1 e2 hl, ⟨⟨q.1, fun k k1 k2 => ?_, q.2.2.1, fun j hj => ?_, ?_, ?_, ?_, ni, q.2.2.2.2.2.2.2.2⟩, ?_, fun j r hj => ?_⟩⟩
  · rw [pI_sI_ne k1, pI_sI_ne k2]; exact q.2.1 k k1 k2
  · rw [pI_sI, if_pos rfl, if_neg (by omega), pI_sI_ne (by omega)]; exact q.2.2.2.1 j hj
  · rw [pI_sI, if_pos rfl, if_neg (by omega), pI_sI_ne (by omega)]; exact q.2.2.2.2.1
  · rw [pI_sI, if_pos rfl, if_neg (by omega), pI_sI_ne (by omega)]; exact q.2.2.2.2.2.1
  · rw [pI_sI, if_pos rfl, if_neg (by omega), pI_sI_ne (by omega)]; exact q.2.2.2.2.2.2.1
  · rw [pI_sI, if_pos rfl, if_pos rfl, len1]
  · rw [pI_sI_ne (by omega), pI_sI, if_pos rfl]
    by_cases hl : j < c.length
    · rw [List.getElem?_append_left hl] at hj
      rw [if_neg (by omega)]
      exact ec j r hj
    · rw [List.getElem?_append_right (by omega)] at hj
      have hj2 : j - c.length = 0 := by
        by_cases q0 : j - c.length = 0
        · exact q0
        · rw [List.getElem?_eq_none (by show 1 ≤ _; omega)] at hj
          cases hj
      rw [hj2] at hj
      have hj : some (o, v) = some r := hj
      cases hj
      rw [if_pos (by omega)]
      exact hx
theorem q_em0 {d o v : Nat} {x : Int32} (ct : CT h0 K W n) (q : RQ h0 K n (a + 1) 0 i c h) (hx : x = cnv o v) : ∃ h1, Sp d mX2_emit [.ref 472, .int x] h none h1 ∧ RQ h0 K n a 0 i (c ++ [(o, v)]) h1 := by
  have n3 := ct.2.2.1
  have ni := q.1.1.2.2.2.2.2.2.2.1
  have bd := q.2
  obtain ⟨h1, s1, q1⟩ := c_em0 (d := d) ct q.1 (by omega) hx
  exact ⟨h1, s1, q1, by rw [len1]; omega⟩
theorem q_em1 {d : Nat} {x : Int32} (ct : CT h0 K W n) (q : RA h0 K n z i h) (hz : 1 ≤ z) : Sp d mX2_emit [.ref 472, .int x] h none h := c_emit1 (q.cr ct) q.2.2.2.2.2.2.1 ⟨hz, q.2.2.2.2.2.2.2.2⟩
end RAS

theorem a_exy {h0 h : Hp} {K W : Nat → Nat} {n i d : Nat} (ct : CT h0 K W n) {w : Nat} (q : RA h0 K n 0 i h) (hw : K i = w) (hi : i < n) (hd : 1 ≤ d) : ∃ h1, Sp d mX2_expect [.ref 472, .int (nI w)] h none h1 ∧ RA h0 K n 0 (i + 1) h1 ∧ KC h h1 := by
  have n3 := ct.2.2.1
  have cr := q.cr ct
  have k54 := ct.2.2.2.2.2.2 i
  have in1 := q.2.2.2.2.2.2.2.1
  have z9 := q.2.2.2.2.2.2.2.2
  obtain ⟨h1, s1, q1, k1⟩ := a_adv (d := 0) ct q hi
  refine ⟨h1, ?_, q1, k1⟩
  intro N S Q hN hS hQ
  have hN : pn h ≤ N := ss_n (q.ss q1) hN
  have hS : ps h ≤ S := ss_s (q.ss q1) hS
  refine z_aload_n dX2_expect_0 rfl rfl ?_
  refine y_getI FX2_40 dX2_expect_1 (Or.inl rfl) cr.1 ?_
  refine z_eqi (y := nI (0)) q.2.2.2.2.2.2.1 ?_
  refine z_if_ne dX2_expect_4 rfl (fun c => absurd (rfl) c) (fun _ => ?_)
  refine z_aload_n dX2_expect_7 rfl rfl ?_
  refine y_getI FX2_43 dX2_expect_8 (Or.inl rfl) cr.1 ?_
  refine z_eqi (y := nI (K i)) q.2.2.2.2.2.1 ?_
  refine z_iload_n dX2_expect_11 rfl rfl ?_
  refine z_icmp_eq dX2_expect_12 rfl (fun _ => ?_) (fun c => absurd (congrArg nI hw) c)
  refine z_aload_n dX2_expect_20 rfl rfl ?_
  refine y_getI FX2_40 dX2_expect_21 (Or.inl rfl) cr.1 ?_
  refine z_eqi (y := nI (0)) q.2.2.2.2.2.2.1 ?_
  refine z_if_ne dX2_expect_24 rfl (fun c => absurd (rfl) c) (fun _ => ?_)
  refine z_aload_n dX2_expect_27 rfl rfl ?_
  refine y_callV (as := []) CX2_advance LX2_37 IX2_advance VX2_advance ⟨rfl, Nat.le_of_ble_eq_true rfl⟩ dX2_expect_28 cr.1 rfl (Nat.le_of_ble_eq_true rfl) (Nat.le_of_ble_eq_true rfl) (by omega) s1 rok_v (hg_ss (q.ss q1) hN hS) ?_
  refine z_vret dX2_expect_31 ?_
  exact hQ
theorem a_exn {h0 h : Hp} {K W : Nat → Nat} {n i d : Nat} (ct : CT h0 K W n) {w : Nat} (q : RA h0 K n 0 i h) (hw : ¬ K i = w) (hw6 : w ≤ 60) (hd : 1 ≤ d) : ∃ h1, Sp d mX2_expect [.ref 472, .int (nI w)] h none h1 ∧ RA h0 K n 1 i h1 ∧ KC h h1 := by
  have n3 := ct.2.2.1
  have cr := q.cr ct
  have k54 := ct.2.2.2.2.2.2 i
  have in1 := q.2.2.2.2.2.2.2.1
  have z9 := q.2.2.2.2.2.2.2.2
  obtain ⟨h1, s1, q1, k1⟩ := a_bl0 (d := 0) (w := 1) ct q (by omega)
  refine ⟨h1, ?_, q1, k1⟩
  intro N S Q hN hS hQ
  have hN : pn h ≤ N := ss_n (q.ss q1) hN
  have hS : ps h ≤ S := ss_s (q.ss q1) hS
  refine z_aload_n dX2_expect_0 rfl rfl ?_
  refine y_getI FX2_40 dX2_expect_1 (Or.inl rfl) cr.1 ?_
  refine z_eqi (y := nI (0)) q.2.2.2.2.2.2.1 ?_
  refine z_if_ne dX2_expect_4 rfl (fun c => absurd (rfl) c) (fun _ => ?_)
  refine z_aload_n dX2_expect_7 rfl rfl ?_
  refine y_getI FX2_43 dX2_expect_8 (Or.inl rfl) cr.1 ?_
  refine z_eqi (y := nI (K i)) q.2.2.2.2.2.1 ?_
  refine z_iload_n dX2_expect_11 rfl rfl ?_
  refine z_icmp_eq dX2_expect_12 rfl (fun c => absurd c (fun w => hw ((nI_eq (by omega) (by omega)).mp w))) (fun _ => ?_)
  refine z_aload_n dX2_expect_15 rfl rfl ?_
  refine z_iconst (v := 1) dX2_expect_16 (by decide) ?_
  refine y_callV (as := [_]) CX2_blame LX2_59 IX2_blame VX2_blame ⟨rfl, Nat.le_of_ble_eq_true rfl⟩ dX2_expect_17 cr.1 rfl (Nat.le_of_ble_eq_true rfl) (Nat.le_of_ble_eq_true rfl) (by omega) s1 rok_v (hg_ss (q.ss q1) hN hS) ?_
  refine z_aload_n dX2_expect_20 rfl rfl ?_
  refine y_getI FX2_40 dX2_expect_21 (Or.inl rfl) ((q.ss q1).O cr.1) ?_
  refine z_eqi (y := nI (1)) q1.2.2.2.2.2.2.1 ?_
  refine z_if_ne dX2_expect_24 rfl (fun _ => ?_) (fun c => absurd c (by decide))
  refine z_vret dX2_expect_31 ?_
  exact hQ
theorem a_ex1 {h0 h : Hp} {K W : Nat → Nat} {n i d : Nat} (ct : CT h0 K W n) {w z : Nat} (q : RA h0 K n z i h) (hz : 1 ≤ z) : Sp d mX2_expect [.ref 472, .int (nI w)] h none h := by
  have n3 := ct.2.2.1
  have cr := q.cr ct
  have k54 := ct.2.2.2.2.2.2 i
  have in1 := q.2.2.2.2.2.2.2.1
  have z9 := q.2.2.2.2.2.2.2.2
  intro N S Q hN hS hQ
  refine z_aload_n dX2_expect_0 rfl rfl ?_
  refine y_getI FX2_40 dX2_expect_1 (Or.inl rfl) cr.1 ?_
  refine z_eqi (y := nI (z)) q.2.2.2.2.2.2.1 ?_
  refine z_if_ne dX2_expect_4 rfl (fun _ => ?_) (fun c => absurd c (fun w => absurd ((nI_eq (b := 0) (by omega) (by omega)).mp w) (by omega)))
  refine z_aload_n dX2_expect_20 rfl rfl ?_
  refine y_getI FX2_40 dX2_expect_21 (Or.inl rfl) cr.1 ?_
  refine z_eqi (y := nI (z)) q.2.2.2.2.2.2.1 ?_
  refine z_if_ne dX2_expect_24 rfl (fun _ => ?_) (fun c => absurd c (fun w => absurd ((nI_eq (b := 0) (by omega) (by omega)).mp w) (by omega)))
  refine z_vret dX2_expect_31 ?_
  exact hQ

theorem a_num1 {h0 h : Hp} {K W : Nat → Nat} {n i d : Nat} (ct : CT h0 K W n) {lo hi z : Nat} (q : RA h0 K n z i h) (hz : 1 ≤ z) : Sp d mX2_readNumber [.ref 472, .int (nI lo), .int (nI hi)] h (some (.int 0)) h := by
  have n3 := ct.2.2.1
  have cr := q.cr ct
  have k54 := ct.2.2.2.2.2.2 i
  have in1 := q.2.2.2.2.2.2.2.1
  have z9 := q.2.2.2.2.2.2.2.2
  intro N S Q hN hS hQ
  refine z_aload_n dX2_readNumber_0 rfl rfl ?_
  refine y_getI FX2_40 dX2_readNumber_1 (Or.inl rfl) cr.1 ?_
  refine z_eqi (y := nI (z)) q.2.2.2.2.2.2.1 ?_
  refine z_if_eq dX2_readNumber_4 rfl (fun c => absurd c (fun w => absurd ((nI_eq (b := 0) (by omega) (by omega)).mp w) (by omega))) (fun _ => ?_)
  refine z_iconst (v := 0) dX2_readNumber_7 (by decide) ?_
  refine z_iret dX2_readNumber_8 ?_
  exact hQ
theorem a_numP {h0 h : Hp} {K W : Nat → Nat} {n i d : Nat} (ct : CT h0 K W n) {lo hi : Nat} (q : RA h0 K n 0 i h) (hk : ¬ K i = 52) (hd : 1 ≤ d) : ∃ h1, Sp d mX2_readNumber [.ref 472, .int (nI lo), .int (nI hi)] h (some (.int 0)) h1 ∧ RA h0 K n 1 i h1 ∧ KC h h1 := by
  have n3 := ct.2.2.1
  have cr := q.cr ct
  have k54 := ct.2.2.2.2.2.2 i
  have in1 := q.2.2.2.2.2.2.2.1
  have z9 := q.2.2.2.2.2.2.2.2
  have nA := c_numberAt (d := 0) cr (q.c3 ct) (by omega) (show i < n + 1 by omega)
  rw [q.2.1 475 (by omega) (by omega)] at nA
  obtain ⟨h1, s1, q1, k1⟩ := a_bl0 (d := 0) (w := 1) ct q (by omega)
  refine ⟨h1, ?_, q1, k1⟩
  intro N S Q hN hS hQ
  have hN : pn h ≤ N := ss_n (q.ss q1) hN
  have hS : ps h ≤ S := ss_s (q.ss q1) hS
  refine z_aload_n dX2_readNumber_0 rfl rfl ?_
  refine y_getI FX2_40 dX2_readNumber_1 (Or.inl rfl) cr.1 ?_
  refine z_eqi (y := nI (0)) q.2.2.2.2.2.2.1 ?_
  refine z_if_eq dX2_readNumber_4 rfl (fun _ => ?_) (fun c => absurd (rfl) c)
  refine z_aload_n dX2_readNumber_9 rfl rfl ?_
  refine y_getR FX2_12 dX2_readNumber_10 rfl cr.1 cr.2.1 ?_
  refine z_aload_n dX2_readNumber_13 rfl rfl ?_
  refine y_getI FX2_33 dX2_readNumber_14 (Or.inl rfl) cr.1 ?_
  refine z_eqi (y := nI (i)) q.2.2.2.2.1 ?_
  refine y_callV (as := [_]) CX6_numberAt LX2_63 IX6_numberAt VX6_numberAt ⟨rfl, Nat.le_of_ble_eq_true rfl⟩ dX2_readNumber_17 cr.2.2.1 rfl (Nat.le_of_ble_eq_true rfl) (Nat.le_of_ble_eq_true rfl) (by omega) nA rok_i ⟨Nat.le_refl _, Nat.le_refl _, hN, hS⟩ ?_
  refine z_istore_n dX2_readNumber_20 rfl (Nat.le_of_ble_eq_true rfl) ?_
  refine z_aload_n dX2_readNumber_21 rfl rfl ?_
  refine y_getI FX2_43 dX2_readNumber_22 (Or.inl rfl) cr.1 ?_
  refine z_eqi (y := nI (K i)) q.2.2.2.2.2.1 ?_
  refine z_bipush (v := 52) dX2_readNumber_25 (by decide) ?_
  refine z_icmp_eq dX2_readNumber_27 rfl (fun c => absurd c (fun w => hk ((nI_eq (b := 52) (by omega) (by omega)).mp w))) (fun _ => ?_)
  refine z_aload_n dX2_readNumber_30 rfl rfl ?_
  refine z_iconst (v := 1) dX2_readNumber_31 (by decide) ?_
  refine y_callV (as := [_]) CX2_blame LX2_59 IX2_blame VX2_blame ⟨rfl, Nat.le_of_ble_eq_true rfl⟩ dX2_readNumber_32 cr.1 rfl (Nat.le_of_ble_eq_true rfl) (Nat.le_of_ble_eq_true rfl) (by omega) s1 rok_v (hg_ss (q.ss q1) hN hS) ?_
  refine z_goto dX2_readNumber_35 rfl ?_
  refine z_aload_n dX2_readNumber_60 rfl rfl ?_
  refine y_getI FX2_40 dX2_readNumber_61 (Or.inl rfl) ((q.ss q1).O cr.1) ?_
  refine z_eqi (y := nI (1)) q1.2.2.2.2.2.2.1 ?_
  refine z_if_ne dX2_readNumber_64 rfl (fun _ => ?_) (fun c => absurd c (by decide))
  refine z_iconst (v := 0) dX2_readNumber_71 (by decide) ?_
  refine z_iret dX2_readNumber_72 ?_
  exact hQ
theorem a_numY {h0 h : Hp} {K W : Nat → Nat} {n i d : Nat} (ct : CT h0 K W n) {lo hi : Nat} (q : RA h0 K n 0 i h) (hk : K i = 52) (hl : lo ≤ W i ∧ W i ≤ hi) (h9 : hi ≤ 9999) (hd : 1 ≤ d) : ∃ h1, Sp d mX2_readNumber [.ref 472, .int (nI lo), .int (nI hi)] h (some (.int (nI (W i)))) h1 ∧ RA h0 K n 0 (i + 1) h1 ∧ KC h h1 := by
  have n3 := ct.2.2.1
  have cr := q.cr ct
  have k54 := ct.2.2.2.2.2.2 i
  have in1 := q.2.2.2.2.2.2.2.1
  have z9 := q.2.2.2.2.2.2.2.2
  have nA := c_numberAt (d := 0) cr (q.c3 ct) (by omega) (show i < n + 1 by omega)
  rw [q.2.1 475 (by omega) (by omega)] at nA
  rw [ct.2.2.2.2.2.1 i in1 hk, show min 10000 (W i) = W i by omega] at nA
  obtain ⟨h1, s1, q1, k1⟩ := a_adv (d := 0) ct q (ct.lt i (by omega))
  refine ⟨h1, ?_, q1, k1⟩
  intro N S Q hN hS hQ
  have hN : pn h ≤ N := ss_n (q.ss q1) hN
  have hS : ps h ≤ S := ss_s (q.ss q1) hS
  refine z_aload_n dX2_readNumber_0 rfl rfl ?_
  refine y_getI FX2_40 dX2_readNumber_1 (Or.inl rfl) cr.1 ?_
  refine z_eqi (y := nI (0)) q.2.2.2.2.2.2.1 ?_
  refine z_if_eq dX2_readNumber_4 rfl (fun _ => ?_) (fun c => absurd (rfl) c)
  refine z_aload_n dX2_readNumber_9 rfl rfl ?_
  refine y_getR FX2_12 dX2_readNumber_10 rfl cr.1 cr.2.1 ?_
  refine z_aload_n dX2_readNumber_13 rfl rfl ?_
  refine y_getI FX2_33 dX2_readNumber_14 (Or.inl rfl) cr.1 ?_
  refine z_eqi (y := nI (i)) q.2.2.2.2.1 ?_
  refine y_callV (as := [_]) CX6_numberAt LX2_63 IX6_numberAt VX6_numberAt ⟨rfl, Nat.le_of_ble_eq_true rfl⟩ dX2_readNumber_17 cr.2.2.1 rfl (Nat.le_of_ble_eq_true rfl) (Nat.le_of_ble_eq_true rfl) (by omega) nA rok_i ⟨Nat.le_refl _, Nat.le_refl _, hN, hS⟩ ?_
  refine z_istore_n dX2_readNumber_20 rfl (Nat.le_of_ble_eq_true rfl) ?_
  refine z_aload_n dX2_readNumber_21 rfl rfl ?_
  refine y_getI FX2_43 dX2_readNumber_22 (Or.inl rfl) cr.1 ?_
  refine z_eqi (y := nI (K i)) q.2.2.2.2.2.1 ?_
  refine z_bipush (v := 52) dX2_readNumber_25 (by decide) ?_
  refine z_icmp_eq dX2_readNumber_27 rfl (fun _ => ?_) (fun c => absurd (congrArg nI hk) c)
  refine z_iload_n dX2_readNumber_38 rfl rfl ?_
  refine z_iload_n dX2_readNumber_39 rfl rfl ?_
  refine z_icmp_lt dX2_readNumber_40 rfl (fun c => absurd c (fun w => absurd ((nI_ltI (by omega) (by omega)).mp w) (by omega))) (fun _ => ?_)
  refine z_iload_n dX2_readNumber_43 rfl rfl ?_
  refine z_iload_n dX2_readNumber_44 rfl rfl ?_
  refine z_icmp_le dX2_readNumber_45 rfl (fun _ => ?_) (fun c => absurd ((nI_leI (by omega) (by omega)).mpr hl.2) c)
  refine z_aload_n dX2_readNumber_56 rfl rfl ?_
  refine y_callV (as := []) CX2_advance LX2_37 IX2_advance VX2_advance ⟨rfl, Nat.le_of_ble_eq_true rfl⟩ dX2_readNumber_57 cr.1 rfl (Nat.le_of_ble_eq_true rfl) (Nat.le_of_ble_eq_true rfl) (by omega) s1 rok_v (hg_ss (q.ss q1) hN hS) ?_
  refine z_aload_n dX2_readNumber_60 rfl rfl ?_
  refine y_getI FX2_40 dX2_readNumber_61 (Or.inl rfl) ((q.ss q1).O cr.1) ?_
  refine z_eqi (y := nI (0)) q1.2.2.2.2.2.2.1 ?_
  refine z_if_ne dX2_readNumber_64 rfl (fun c => absurd (rfl) c) (fun _ => ?_)
  refine z_iload_n dX2_readNumber_67 rfl rfl ?_
  refine z_goto dX2_readNumber_68 rfl ?_
  refine z_iret dX2_readNumber_72 ?_
  exact hQ
theorem a_numN {h0 h : Hp} {K W : Nat → Nat} {n i d : Nat} (ct : CT h0 K W n) {lo hi : Nat} (q : RA h0 K n 0 i h) (hk : K i = 52) (hl : ¬ (lo ≤ W i ∧ W i ≤ hi)) (h9 : lo ≤ 9999 ∧ hi ≤ 9999) (hd : 1 ≤ d) : ∃ h1, Sp d mX2_readNumber [.ref 472, .int (nI lo), .int (nI hi)] h (some (.int 0)) h1 ∧ RA h0 K n 2 i h1 ∧ KC h h1 := by
  have n3 := ct.2.2.1
  have cr := q.cr ct
  have k54 := ct.2.2.2.2.2.2 i
  have in1 := q.2.2.2.2.2.2.2.1
  have z9 := q.2.2.2.2.2.2.2.2
  have nA := c_numberAt (d := 0) cr (q.c3 ct) (by omega) (show i < n + 1 by omega)
  rw [q.2.1 475 (by omega) (by omega)] at nA
  rw [ct.2.2.2.2.2.1 i in1 hk] at nA
  obtain ⟨h1, s1, q1, k1⟩ := a_bl0 (d := 0) (w := 2) ct q (by omega)
  refine ⟨h1, ?_, q1, k1⟩
  intro N S Q hN hS hQ
  have hN : pn h ≤ N := ss_n (q.ss q1) hN
  have hS : ps h ≤ S := ss_s (q.ss q1) hS
  by_cases hlo : min 10000 (W i) < lo
  · skip
    refine z_aload_n dX2_readNumber_0 rfl rfl ?_
    refine y_getI FX2_40 dX2_readNumber_1 (Or.inl rfl) cr.1 ?_
    refine z_eqi (y := nI (0)) q.2.2.2.2.2.2.1 ?_
    refine z_if_eq dX2_readNumber_4 rfl (fun _ => ?_) (fun c => absurd (rfl) c)
    refine z_aload_n dX2_readNumber_9 rfl rfl ?_
    refine y_getR FX2_12 dX2_readNumber_10 rfl cr.1 cr.2.1 ?_
    refine z_aload_n dX2_readNumber_13 rfl rfl ?_
    refine y_getI FX2_33 dX2_readNumber_14 (Or.inl rfl) cr.1 ?_
    refine z_eqi (y := nI (i)) q.2.2.2.2.1 ?_
    refine y_callV (as := [_]) CX6_numberAt LX2_63 IX6_numberAt VX6_numberAt ⟨rfl, Nat.le_of_ble_eq_true rfl⟩ dX2_readNumber_17 cr.2.2.1 rfl (Nat.le_of_ble_eq_true rfl) (Nat.le_of_ble_eq_true rfl) (by omega) nA rok_i ⟨Nat.le_refl _, Nat.le_refl _, hN, hS⟩ ?_
    refine z_istore_n dX2_readNumber_20 rfl (Nat.le_of_ble_eq_true rfl) ?_
    refine z_aload_n dX2_readNumber_21 rfl rfl ?_
    refine y_getI FX2_43 dX2_readNumber_22 (Or.inl rfl) cr.1 ?_
    refine z_eqi (y := nI (K i)) q.2.2.2.2.2.1 ?_
    refine z_bipush (v := 52) dX2_readNumber_25 (by decide) ?_
    refine z_icmp_eq dX2_readNumber_27 rfl (fun _ => ?_) (fun c => absurd (congrArg nI hk) c)
    refine z_iload_n dX2_readNumber_38 rfl rfl ?_
    refine z_iload_n dX2_readNumber_39 rfl rfl ?_
    refine z_icmp_lt dX2_readNumber_40 rfl (fun _ => ?_) (fun c => absurd ((nI_ltI (by omega) (by omega)).mpr hlo) c)
    refine z_aload_n dX2_readNumber_48 rfl rfl ?_
    refine z_iconst (v := 2) dX2_readNumber_49 (by decide) ?_
    refine y_callV (as := [_]) CX2_blame LX2_59 IX2_blame VX2_blame ⟨rfl, Nat.le_of_ble_eq_true rfl⟩ dX2_readNumber_50 cr.1 rfl (Nat.le_of_ble_eq_true rfl) (Nat.le_of_ble_eq_true rfl) (by omega) s1 rok_v (hg_ss (q.ss q1) hN hS) ?_
    refine z_goto dX2_readNumber_53 rfl ?_
    refine z_aload_n dX2_readNumber_60 rfl rfl ?_
    refine y_getI FX2_40 dX2_readNumber_61 (Or.inl rfl) ((q.ss q1).O cr.1) ?_
    refine z_eqi (y := nI (2)) q1.2.2.2.2.2.2.1 ?_
    refine z_if_ne dX2_readNumber_64 rfl (fun _ => ?_) (fun c => absurd c (by decide))
    refine z_iconst (v := 0) dX2_readNumber_71 (by decide) ?_
    refine z_iret dX2_readNumber_72 ?_
    exact hQ
  · skip
    refine z_aload_n dX2_readNumber_0 rfl rfl ?_
    refine y_getI FX2_40 dX2_readNumber_1 (Or.inl rfl) cr.1 ?_
    refine z_eqi (y := nI (0)) q.2.2.2.2.2.2.1 ?_
    refine z_if_eq dX2_readNumber_4 rfl (fun _ => ?_) (fun c => absurd (rfl) c)
    refine z_aload_n dX2_readNumber_9 rfl rfl ?_
    refine y_getR FX2_12 dX2_readNumber_10 rfl cr.1 cr.2.1 ?_
    refine z_aload_n dX2_readNumber_13 rfl rfl ?_
    refine y_getI FX2_33 dX2_readNumber_14 (Or.inl rfl) cr.1 ?_
    refine z_eqi (y := nI (i)) q.2.2.2.2.1 ?_
    refine y_callV (as := [_]) CX6_numberAt LX2_63 IX6_numberAt VX6_numberAt ⟨rfl, Nat.le_of_ble_eq_true rfl⟩ dX2_readNumber_17 cr.2.2.1 rfl (Nat.le_of_ble_eq_true rfl) (Nat.le_of_ble_eq_true rfl) (by omega) nA rok_i ⟨Nat.le_refl _, Nat.le_refl _, hN, hS⟩ ?_
    refine z_istore_n dX2_readNumber_20 rfl (Nat.le_of_ble_eq_true rfl) ?_
    refine z_aload_n dX2_readNumber_21 rfl rfl ?_
    refine y_getI FX2_43 dX2_readNumber_22 (Or.inl rfl) cr.1 ?_
    refine z_eqi (y := nI (K i)) q.2.2.2.2.2.1 ?_
    refine z_bipush (v := 52) dX2_readNumber_25 (by decide) ?_
    refine z_icmp_eq dX2_readNumber_27 rfl (fun _ => ?_) (fun c => absurd (congrArg nI hk) c)
    refine z_iload_n dX2_readNumber_38 rfl rfl ?_
    refine z_iload_n dX2_readNumber_39 rfl rfl ?_
    refine z_icmp_lt dX2_readNumber_40 rfl (fun c => absurd c (fun w => hlo ((nI_ltI (by omega) (by omega)).mp w))) (fun _ => ?_)
    refine z_iload_n dX2_readNumber_43 rfl rfl ?_
    refine z_iload_n dX2_readNumber_44 rfl rfl ?_
    refine z_icmp_le dX2_readNumber_45 rfl (fun c => absurd c (fun w => absurd ((nI_leI (by omega) (by omega)).mp w) (by omega))) (fun _ => ?_)
    refine z_aload_n dX2_readNumber_48 rfl rfl ?_
    refine z_iconst (v := 2) dX2_readNumber_49 (by decide) ?_
    refine y_callV (as := [_]) CX2_blame LX2_59 IX2_blame VX2_blame ⟨rfl, Nat.le_of_ble_eq_true rfl⟩ dX2_readNumber_50 cr.1 rfl (Nat.le_of_ble_eq_true rfl) (Nat.le_of_ble_eq_true rfl) (by omega) s1 rok_v (hg_ss (q.ss q1) hN hS) ?_
    refine z_goto dX2_readNumber_53 rfl ?_
    refine z_aload_n dX2_readNumber_60 rfl rfl ?_
    refine y_getI FX2_40 dX2_readNumber_61 (Or.inl rfl) ((q.ss q1).O cr.1) ?_
    refine z_eqi (y := nI (2)) q1.2.2.2.2.2.2.1 ?_
    refine z_if_ne dX2_readNumber_64 rfl (fun _ => ?_) (fun c => absurd c (by decide))
    refine z_iconst (v := 0) dX2_readNumber_71 (by decide) ?_
    refine z_iret dX2_readNumber_72 ?_
    exact hQ

