/-! the reference's object: its cells; numbers -/
theorem i32_lit {n : Nat} : Int32.ofNat n = nI n := rfl
section NRULES
variable {d N S : Nat} {M : Mi} {pc : Nat} {lv : List (Option Value)} {st : List Value} {h : Hp} {Q : Option Value → Hp → Prop} {k n : Nat}
theorem nI_cl {m n : Nat} (hm : m < n) (hn : n < 2 ^ 31) : (nI m).toNatClampNeg = m := nI_clamp (Nat.lt_trans hm hn)
theorem y_ialN {j : Int32} (m : Nat) (hd : decode M.2.1 pc = .ok (.iaload, 1)) (ha : IA h 10 n k) (hn : n < 2 ^ 31) (hj : j = nI m) (hm : m < n) (kk : T d N S M (pc + 1) lv (.int (pI h k m) :: st) h Q) : T d N S M pc lv (.int j :: .ref k :: st) h Q := by
  subst hj
  refine y_iald hd ha (vp_in_nI hm hn) ?_
  rw [nI_cl hm hn]
  exact kk
theorem y_lalN {j : Int32} (m : Nat) (hd : decode M.2.1 pc = .ok (.laload, 1)) (ha : IA h 11 n k) (hn : n < 2 ^ 31) (hj : j = nI m) (hm : m < n) (kk : T d N S M (pc + 1) lv (.long (pJ h k m) :: st) h Q) : T d N S M pc lv (.int j :: .ref k :: st) h Q := by
  subst hj
  refine y_lald hd ha (vp_in_nI hm hn) ?_
  rw [nI_cl hm hn]
  exact kk
theorem y_zalN {j : Int32} (m : Nat) (hd : decode M.2.1 pc = .ok (.baload, 1)) (ha : IA h 12 n k) (hn : n < 2 ^ 31) (hj : j = nI m) (hm : m < n) (kk : T d N S M (pc + 1) lv (.int (pI h k m) :: st) h Q) : T d N S M pc lv (.int j :: .ref k :: st) h Q := by
  subst hj
  refine y_zald hd ha (vp_in_nI hm hn) ?_
  rw [nI_cl hm hn]
  exact kk
theorem y_iasN {j x : Int32} (m : Nat) (hd : decode M.2.1 pc = .ok (.iastore, 1)) (ha : IA h 10 n k) (hn : n < 2 ^ 31) (hj : j = nI m) (hm : m < n) (kk : T d N S M (pc + 1) lv st (sI h k m x) Q) : T d N S M pc lv (.int x :: .int j :: .ref k :: st) h Q := by
  subst hj
  refine y_iast hd ha (vp_in_nI hm hn) ?_
  rw [nI_cl hm hn]
  exact kk
theorem y_zasN {j x : Int32} (m : Nat) (hd : decode M.2.1 pc = .ok (.bastore, 1)) (ha : IA h 12 n k) (hn : n < 2 ^ 31) (hj : j = nI m) (hm : m < n) (hx : x = 0 ∨ x = 1) (kk : T d N S M (pc + 1) lv st (sI h k m x) Q) : T d N S M pc lv (.int x :: .int j :: .ref k :: st) h Q := by
  subst hj
  refine y_zast hd ha (vp_in_nI hm hn) hx ?_
  rw [nI_cl hm hn]
  exact kk
theorem y_lasN {j : Int32} {x : Int64} (m : Nat) (hd : decode M.2.1 pc = .ok (.lastore, 1)) (ha : IA h 11 n k) (hn : n < 2 ^ 31) (hj : j = nI m) (hm : m < n) (kk : T d N S M (pc + 1) lv st (sJ h k m x) Q) : T d N S M pc lv (.long x :: .int j :: .ref k :: st) h Q := by
  subst hj
  refine y_last hd ha (vp_in_nI hm hn) ?_
  rw [nI_cl hm hn]
  exact kk
/-- what is on the stack under another name -/
theorem z_eqi {x y : Int32} (he : x = y) (kk : T d N S M pc lv (.int y :: st) h Q) : T d N S M pc lv (.int x :: st) h Q := by rw [he]; exact kk
theorem z_eql {x y : Int64} (he : x = y) (kk : T d N S M pc lv (.long y :: st) h Q) : T d N S M pc lv (.long x :: st) h Q := by rw [he]; exact kk
end NRULES
/-- the reference at 488, its rows behind it -/

def SM (h : Hp) : Prop := IO h 9 488 ∧ (pR h 488 0 = some 489 ∧ IA h 10 4870 489) ∧ (pR h 488 1 = some 490 ∧ IA h 10 4870 490) ∧ (pR h 488 2 = some 491 ∧ IA h 10 3012 491) ∧ (pR h 488 3 = some 492 ∧ IA h 10 300 492) ∧ (pR h 488 15 = some 493 ∧ IA h 10 160 493) ∧ (pR h 488 20 = some 494 ∧ IA h 10 11 494) ∧ (pR h 488 21 = some 495 ∧ IA h 11 330 495) ∧ (pR h 488 22 = some 496 ∧ IA h 12 330 496) ∧ (pR h 488 25 = some 497 ∧ IA h 10 110 497) ∧ (pR h 488 28 = some 498 ∧ IA h 10 256 498) ∧ (pR h 488 29 = some 499 ∧ IA h 12 6561 499) ∧ (pR h 488 30 = some 500 ∧ IA h 10 9 500)
theorem SM.f_a {h : Hp} (hm : SM h) : pR h 488 0 = some 489 := hm.2.1.1
theorem SM.A_a {h : Hp} (hm : SM h) : IA h 10 4870 489 := hm.2.1.2
theorem SM.f_image {h : Hp} (hm : SM h) : pR h 488 1 = some 490 := hm.2.2.1.1
theorem SM.A_image {h : Hp} (hm : SM h) : IA h 10 4870 490 := hm.2.2.1.2
theorem SM.f_texts {h : Hp} (hm : SM h) : pR h 488 2 = some 491 := hm.2.2.2.1.1
theorem SM.A_texts {h : Hp} (hm : SM h) : IA h 10 3012 491 := hm.2.2.2.1.2
theorem SM.f_tape {h : Hp} (hm : SM h) : pR h 488 3 = some 492 := hm.2.2.2.2.1.1
theorem SM.A_tape {h : Hp} (hm : SM h) : IA h 10 300 492 := hm.2.2.2.2.1.2
theorem SM.f_pile {h : Hp} (hm : SM h) : pR h 488 15 = some 493 := hm.2.2.2.2.2.1.1
theorem SM.A_pile {h : Hp} (hm : SM h) : IA h 10 160 493 := hm.2.2.2.2.2.1.2
theorem SM.f_named {h : Hp} (hm : SM h) : pR h 488 20 = some 494 := hm.2.2.2.2.2.2.1.1
theorem SM.A_named {h : Hp} (hm : SM h) : IA h 10 11 494 := hm.2.2.2.2.2.2.1.2
theorem SM.f_values {h : Hp} (hm : SM h) : pR h 488 21 = some 495 := hm.2.2.2.2.2.2.2.1.1
theorem SM.A_values {h : Hp} (hm : SM h) : IA h 11 330 495 := hm.2.2.2.2.2.2.2.1.2
theorem SM.f_truth {h : Hp} (hm : SM h) : pR h 488 22 = some 496 := hm.2.2.2.2.2.2.2.2.1.1
theorem SM.A_truth {h : Hp} (hm : SM h) : IA h 12 330 496 := hm.2.2.2.2.2.2.2.2.1.2
theorem SM.f_aside {h : Hp} (hm : SM h) : pR h 488 25 = some 497 := hm.2.2.2.2.2.2.2.2.2.1.1
theorem SM.A_aside {h : Hp} (hm : SM h) : IA h 10 110 497 := hm.2.2.2.2.2.2.2.2.2.1.2
theorem SM.f_wrongIn {h : Hp} (hm : SM h) : pR h 488 28 = some 498 := hm.2.2.2.2.2.2.2.2.2.2.1.1
theorem SM.A_wrongIn {h : Hp} (hm : SM h) : IA h 10 256 498 := hm.2.2.2.2.2.2.2.2.2.2.1.2
theorem SM.f_comesAbout {h : Hp} (hm : SM h) : pR h 488 29 = some 499 := hm.2.2.2.2.2.2.2.2.2.2.2.1.1
theorem SM.A_comesAbout {h : Hp} (hm : SM h) : IA h 12 6561 499 := hm.2.2.2.2.2.2.2.2.2.2.2.1.2
theorem SM.f_threes {h : Hp} (hm : SM h) : pR h 488 30 = some 500 := hm.2.2.2.2.2.2.2.2.2.2.2.2.1
theorem SM.A_threes {h : Hp} (hm : SM h) : IA h 10 9 500 := hm.2.2.2.2.2.2.2.2.2.2.2.2.2
theorem SM.o {h : Hp} (hm : SM h) : IO h 9 488 := hm.1
theorem SS.M {h h1 : Hp} (hs : SS h h1) (hm : SM h) : SM h1 := by
  unfold SM at *
  unfold IO IA at *
  rw [hs.n, hs.K, hs.R]
  exact hm
/-- whole numbers as naturals -/
theorem vp_in_le {x : Int32} {n : Nat} (hn : n < 2 ^ 31) : (0 ≤ x ∧ x ≤ nI n - 1) ↔ vp_in x n := by
  rw [vp_in_iff]
  have e : (nI n - 1).toInt = (n : Int) - 1 := by
    rw [show (1 : Int32) = nI 1 from rfl]
    rcases Nat.eq_zero_or_pos n with h0 | h0
    · subst h0; decide
    · rw [pk_sub h0, nI_toInt (by omega)]; omega
  rw [Int32.le_iff_toInt_le, Int32.le_iff_toInt_le, e]
  constructor
  · rintro ⟨a, b⟩
    exact ⟨by simpa using a, by omega⟩
  · rintro ⟨a, b⟩
    exact ⟨by simpa using a, by omega⟩
theorem vp_in_lt {x : Int32} {n : Nat} (hn : n < 2 ^ 31) : (0 ≤ x ∧ x < nI n) ↔ vp_in x n := by
  rw [vp_in_iff, Int32.le_iff_toInt_le, Int32.lt_iff_toInt_lt, nI_toInt hn]
  constructor
  · rintro ⟨a, b⟩
    exact ⟨by simpa using a, b⟩
  · rintro ⟨a, b⟩
    exact ⟨by simpa using a, b⟩
theorem bI_congr {a b : Prop} [Decidable a] [Decidable b] (h : a ↔ b) : bI a = bI b := by
  by_cases ha : a
  · rw [bI_t ha, bI_t (h.mp ha)]
  · rw [bI_f ha, bI_f (fun hb => ha (h.mpr hb))]
