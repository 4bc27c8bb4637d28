/-! texts of a market; one market taken from another (walks by program: wip/whole/gen43.py) -/
theorem c_textAt {h : Hp} {d b n j x : Nat} (hs : MkS h b) (e : pI h b 9 = nI n) (hn : n ≤ 4) (hj : j < n) (hx : pR h (b + 17) j = some x) : Sp d mX1_textAt [.ref b, .int (nI j)] h (some (.ref x)) h := by
  intro N S Q hN hS hQ
  refine z_iload_n dX1_textAt_0 rfl rfl ?_
  refine z_if_lt dX1_textAt_1 rfl (fun c => absurd c (nI_pos (by omega))) (fun _ => ?_)
  refine z_iload_n dX1_textAt_4 rfl rfl ?_
  refine z_aload_n dX1_textAt_5 rfl rfl ?_
  refine y_getI FX1_70 dX1_textAt_6 (Or.inl rfl) hs.o ?_
  refine z_eqi (y := nI (n)) e ?_
  refine z_icmp_ge dX1_textAt_9 rfl (fun c => absurd c (fun q => absurd ((nI_leI (by omega) (by omega)).mp q) (by omega))) (fun _ => ?_)
  refine z_iload_n dX1_textAt_12 rfl rfl ?_
  refine z_aload_n dX1_textAt_13 rfl rfl ?_
  refine y_getR FX1_42 dX1_textAt_14 rfl hs.o hs.f8 ?_
  refine y_alen dX1_textAt_17 hs.texts ⟨Nat.le_of_ble_eq_true rfl, Nat.le_of_ble_eq_true rfl⟩ rfl ?_
  refine z_icmp_ge dX1_textAt_18 rfl (fun c => absurd c (fun q => absurd ((nI_leI (a := 4) (by omega) (by omega)).mp q) (by omega))) (fun _ => ?_)
  refine z_aload_n dX1_textAt_21 rfl rfl ?_
  refine y_getR FX1_42 dX1_textAt_22 rfl hs.o hs.f8 ?_
  refine z_iload_n dX1_textAt_25 rfl rfl ?_
  refine y_aaldT (x := x) dX1_textAt_26 hs.texts (vp_in_nI (by omega) (by omega)) (by rw [nI_clamp (by omega)]; exact hx) ?_
  refine z_goto dX1_textAt_27 rfl ?_
  refine z_aret dX1_textAt_31 ?_
  exact hQ

theorem c_textAtN {h : Hp} {d b n : Nat} {x : Int32} (hs : MkS h b) (e : pI h b 9 = nI n) (hj : ¬ vin x n) : Sp d mX1_textAt [.ref b, .int x] h (some .null) h := by
  intro N S Q hN hS hQ
  by_cases c1 : x < 0
  · refine z_iload_n dX1_textAt_0 rfl rfl ?_
    refine z_if_lt dX1_textAt_1 rfl (fun _ => ?_) (fun c => absurd (c1) c)
    refine z_null dX1_textAt_30 ?_
    refine z_aretN dX1_textAt_31 ?_
    exact hQ
  · have c2 : nI n ≤ x := Int32.not_lt.mp (fun q => hj ⟨Int32.not_lt.mp c1, q⟩)
    refine z_iload_n dX1_textAt_0 rfl rfl ?_
    refine z_if_lt dX1_textAt_1 rfl (fun c => absurd c (c1)) (fun _ => ?_)
    refine z_iload_n dX1_textAt_4 rfl rfl ?_
    refine z_aload_n dX1_textAt_5 rfl rfl ?_
    refine y_getI FX1_70 dX1_textAt_6 (Or.inl rfl) hs.o ?_
    refine z_eqi (y := nI (n)) e ?_
    refine z_icmp_ge dX1_textAt_9 rfl (fun _ => ?_) (fun c => absurd (c2) c)
    refine z_null dX1_textAt_30 ?_
    refine z_aretN dX1_textAt_31 ?_
    exact hQ

theorem c_ruling {h : Hp} {d b n j x : Nat} (hs : MkS h b) (e : pI h b 9 = nI n) (hn : n ≤ 4) (hj : j < n) (e10 : pI h b 10 = nI j) (hx : pR h (b + 17) j = some x) (hd : 1 ≤ d) : Sp d mX1_ruling [.ref b] h (some (.ref x)) h := by
  intro N S Q hN hS hQ
  refine z_aload_n dX1_ruling_0 rfl rfl ?_
  refine z_aload_n dX1_ruling_1 rfl rfl ?_
  refine y_getI FX1_46 dX1_ruling_2 (Or.inl rfl) hs.o ?_
  refine z_eqi (y := nI (j)) e10 ?_
  refine y_callV (as := [_]) CX1_textAt LX1_73 IX1_textAt VX1_textAt ⟨rfl, Nat.le_of_ble_eq_true rfl⟩ dX1_ruling_5 hs.o rfl (Nat.le_of_ble_eq_true rfl) (Nat.le_of_ble_eq_true rfl) (by omega) (c_textAt (d := 0) (by exact hs) e hn hj (by exact hx)) (rok_o rfl) ⟨Nat.le_refl _, Nat.le_refl _, hN, hS⟩ ?_
  refine z_aret dX1_ruling_8 ?_
  exact hQ

theorem c_rulingN {h : Hp} {d b n : Nat} (hs : MkS h b) (e : pI h b 9 = nI n) (e10 : pI h b 10 = -1) (hd : 1 ≤ d) : Sp d mX1_ruling [.ref b] h (some .null) h := by
  intro N S Q hN hS hQ
  refine z_aload_n dX1_ruling_0 rfl rfl ?_
  refine z_aload_n dX1_ruling_1 rfl rfl ?_
  refine y_getI FX1_46 dX1_ruling_2 (Or.inl rfl) hs.o ?_
  refine z_eqi e10 ?_
  refine y_callV (as := [_]) CX1_textAt LX1_73 IX1_textAt VX1_textAt ⟨rfl, Nat.le_of_ble_eq_true rfl⟩ dX1_ruling_5 hs.o rfl (Nat.le_of_ble_eq_true rfl) (Nat.le_of_ble_eq_true rfl) (by omega) (c_textAtN (d := 0) (by exact hs) e (fun q => absurd q.1 (by decide))) (rok_n rfl) ⟨Nat.le_refl _, Nat.le_refl _, hN, hS⟩ ?_
  refine z_aretN dX1_ruling_8 ?_
  exact hQ

def addH (h : Hp) (b n x : Nat) : Hp := sI (sR h (b + 17) n (some x)) b 9 (nI (n + 1))
theorem c_addText {h : Hp} {d b n x : Nat} (hs : MkS h b) (e : pI h b 9 = nI n) (hn : n < 4) (hx : IO h 5 x) : Sp d mX1_addText [.ref b, .ref x] h (some (.int (nI n))) (addH h b n x) := by
  intro N S Q hN hS hQ
  refine z_aload_n dX1_addText_0 rfl rfl ?_
  refine y_getI FX1_70 dX1_addText_1 (Or.inl rfl) hs.o ?_
  refine z_eqi (show _ = nI n from e) ?_
  refine z_if_lt dX1_addText_4 rfl (fun c => absurd c (nI_pos (by omega))) (fun _ => ?_)
  refine z_aload_n dX1_addText_7 rfl rfl ?_
  refine y_getI FX1_70 dX1_addText_8 (Or.inl rfl) hs.o ?_
  refine z_eqi (show _ = nI n from e) ?_
  refine z_aload_n dX1_addText_11 rfl rfl ?_
  refine y_getR FX1_42 dX1_addText_12 rfl hs.o hs.f8 ?_
  refine y_alen dX1_addText_15 hs.texts ⟨Nat.le_of_ble_eq_true rfl, Nat.le_of_ble_eq_true rfl⟩ rfl ?_
  refine z_icmp_lt dX1_addText_16 rfl (fun _ => ?_) (fun c => absurd ((nI_ltI (b := 4) (by omega) (by omega)).mpr hn) c)
  refine z_aload_n dX1_addText_21 rfl rfl ?_
  refine y_getR FX1_42 dX1_addText_22 rfl hs.o hs.f8 ?_
  refine z_aload_n dX1_addText_25 rfl rfl ?_
  refine y_getI FX1_70 dX1_addText_26 (Or.inl rfl) hs.o ?_
  refine z_eqi (show _ = nI n from e) ?_
  refine z_aload_n dX1_addText_29 rfl rfl ?_
  refine z_aast (n := 4) (t := 13) dX1_addText_30 hs.texts.1 hs.texts.2.1 (Or.inl ⟨rfl, hx.2.2⟩) hx.1 hx.2.1 hs.texts.2.2 (vp_in_nI (by omega) (by omega)) ?_
  rw [nI_clamp (show n < 2 ^ 31 by omega)]
  refine z_aload_n dX1_addText_31 rfl rfl ?_
  refine z_dup dX1_addText_32 rfl ?_
  refine y_getI FX1_70 dX1_addText_33 (Or.inl rfl) hs.o ?_
  refine z_eqi (show _ = nI n from e) ?_
  refine z_iconst (v := 1) dX1_addText_36 (by decide) ?_
  refine z_iadd dX1_addText_37 ?_
  refine z_eqi (nI_1 n) ?_
  refine y_putI FX1_70 dX1_addText_38 (Or.inl rfl) (Or.inl rfl) hs.o ?_
  refine z_aload_n dX1_addText_41 rfl rfl ?_
  refine y_getI FX1_70 dX1_addText_42 (Or.inl rfl) hs.o ?_
  refine z_eqi (show _ = nI (n + 1) by rw [pI_sI, if_pos rfl, if_pos rfl]) ?_
  refine z_iconst (v := 1) dX1_addText_45 (by decide) ?_
  refine z_isub dX1_addText_46 ?_
  refine z_eqi (nI_pred n) ?_
  refine z_iret dX1_addText_47 ?_
  exact hQ

/-- only the market at b has changed: whole numbers, and its row of texts -/
def FX (b : Nat) (h h1 : Hp) : Prop := pn h1 = pn h ∧ ps h1 = ps h ∧ pK h1 = pK h ∧ pJ h1 = pJ h ∧ (∀ k, (k < b ∨ b + 227 < k) → pI h1 k = pI h k) ∧ (∀ k, k ≠ b + 17 → pR h1 k = pR h k)
theorem FX.rf {b : Nat} {h : Hp} : FX b h h := ⟨rfl, rfl, rfl, rfl, fun _ _ => rfl, fun _ _ => rfl⟩
theorem FX.tr {b : Nat} {x y z : Hp} (h1 : FX b x y) (h2 : FX b y z) : FX b x z := ⟨h2.1.trans h1.1, h2.2.1.trans h1.2.1, h2.2.2.1.trans h1.2.2.1, h2.2.2.2.1.trans h1.2.2.2.1, fun k hk => (h2.2.2.2.2.1 k hk).trans (h1.2.2.2.2.1 k hk), fun k hk => (h2.2.2.2.2.2 k hk).trans (h1.2.2.2.2.2 k hk)⟩
theorem FR.x {b : Nat} {h h1 : Hp} (hf : FR b (b + 227) h h1) : FX b h h1 := ⟨hf.1.n, hf.1.s, hf.1.K, hf.2.1, hf.2.2, fun k _ => by rw [hf.1.R]⟩
theorem pR_sR_ne {h : Hp} {k i a : Nat} {v : Option Nat} (hne : a ≠ k) : pR (sR h k i v) a = pR h a := by
  unfold pR sR p2
  simp only [if_neg hne]
theorem pR_sR_s {h : Hp} {k i j : Nat} {v : Option Nat} : pR (sR h k i v) k j = if j = i then v else pR h k j := by
  unfold pR sR p2
  simp only [if_pos]
theorem addH_x {h : Hp} {b n x : Nat} : FX b h (addH h b n x) := ⟨rfl, rfl, rfl, rfl, fun k hk => by unfold addH; rw [pI_sI_ne (by omega)]; rfl, fun k hk => pR_sR_ne hk⟩
theorem FX.O {b c k : Nat} {h h1 : Hp} (hf : FX b h h1) (ho : IO h c k) : IO h1 c k := by unfold IO; rw [hf.1, hf.2.2.1]; exact ho
theorem FX.A {b t n k : Nat} {h h1 : Hp} (hf : FX b h h1) (ho : IA h t n k) : IA h1 t n k := by unfold IA; rw [hf.1, hf.2.2.1]; exact ho
theorem FX.rw {b k w ms : Nat} {h h1 : Hp} (hf : FX b h h1) (hk : k ≠ b + 17) (hr : RwS h k w ms) : RwS h1 k w ms := ⟨hf.O hr.1, by rw [hf.2.2.2.2.2 k hk]; exact hr.2.1, hf.A hr.2.2⟩
theorem FX.wo {b w : Nat} {h h1 : Hp} (hf : FX b h h1) (hk : ∀ k, w ≤ k → k ≤ w + 5 → k ≠ b + 17) (hw : WoS h w) : WoS h1 w := by
  obtain ⟨w1, w2, w3, w4, w5, w6, w7⟩ := hw
  have r := hf.2.2.2.2.2 w (hk w (by omega) (by omega))
  exact ⟨hf.O w1, by rw [r]; exact w2, hf.rw (hk _ (by omega) (by omega)) w3, by rw [r]; exact w4, hf.rw (hk _ (by omega) (by omega)) w5, by rw [r]; exact w6, hf.rw (hk _ (by omega) (by omega)) w7⟩
theorem FX.mk {b c : Nat} {h h1 : Hp} (hf : FX b h h1) (hc : c = b ∨ b + 227 < c ∨ c + 227 < b) (hm : MkS h c) : MkS h1 c := by
  obtain ⟨m1, m2, m3, m4, m5, m6, m7, m8, m9⟩ := hm
  have r := hf.2.2.2.2.2 c (by omega)
  have r8 := hf.2.2.2.2.2 (c + 8) (by omega)
  exact ⟨hf.O m1, ⟨by rw [r]; exact m2.1, hf.wo (fun k _ _ => by omega) m2.2⟩, ⟨by rw [r]; exact m3.1, hf.A m3.2⟩, fun i hi => ⟨by rw [r8]; exact (m4 i hi).1, hf.wo (fun k _ _ => by omega) (m4 i hi).2⟩, ⟨by rw [r]; exact m5.1, hf.rw (by omega) m5.2⟩, ⟨by rw [r]; exact m6.1, hf.rw (by omega) m6.2⟩, ⟨by rw [r]; exact m7.1, hf.rw (by omega) m7.2⟩, ⟨by rw [r]; exact m8.1, hf.rw (by omega) m8.2⟩, ⟨by rw [r]; exact m9.1, hf.A m9.2⟩⟩
theorem FX.M {b : Nat} {h h1 : Hp} (hf : FX b h h1) (hb : b + 17 < 488) (hm : SM h) : SM h1 := by
  unfold SM at *
  unfold IO IA at *
  rw [hf.1, hf.2.2.1, hf.2.2.2.2.2 488 (by omega)]
  exact hm

/-- so far the first n worlds have been taken -/
def CF (h : Hp) (b c n : Nat) (h' : Hp) : Prop := FR b (b + 227) h h' ∧ (∀ j, j < n → ∀ W, WV h (c + 18 + 7 * j) W → WV h' (b + 18 + 7 * j) W) ∧ (∀ j, j < 30 → ∃ W, WV h' (b + 18 + 7 * j) W) ∧ (∀ W, WV h (c + 1) W → WV h' (b + 1) W) ∧ pI h' b = pI h b ∧ ∀ k, b + 8 ≤ k → k ≤ b + 17 → pI h' k = pI h k
theorem WV.same {h h2 : Hp} {w v : Nat} {V W : Fl} (s : WV h2 w V) (g : WV h v V) (k : WV h v W) : WV h2 w W := by
  obtain ⟨s1, s2, s3, s4, s5, s6, s7, s8, s9⟩ := s
  obtain ⟨g1, g2, g3, g4, g5, g6, g7, g8, g9⟩ := g
  obtain ⟨k1, k2, k3, k4, k5, k6, k7, k8, k9⟩ := k
  have b0 := g4.2.2.2.1
  have b4 := g6.2.2.2.1
  have b5 := g8.2.2.2.1
  have c0 := k4.2.2.2.1
  have c4 := k6.2.2.2.1
  have c5 := k8.2.2.2.1
  have e0 : V 0 = W 0 := (nI_eq (by omega) (by omega)).mp (g4.2.2.1.symm.trans k4.2.2.1)
  have e4 : V 4 = W 4 := (nI_eq (by omega) (by omega)).mp (g6.2.2.1.symm.trans k6.2.2.1)
  have e5 : V 5 = W 5 := (nI_eq (by omega) (by omega)).mp (g8.2.2.1.symm.trans k8.2.2.1)
  refine ⟨s1.trans (g1.symm.trans k1), s2.trans (g2.symm.trans k2), s3.trans (g3.symm.trans k3), e0 ▸ s4, fun i hi => ?_, e4 ▸ s6, fun i hi => ?_, e5 ▸ s8, fun i hi => ⟨?_, ?_⟩⟩
  · rw [s5 i (by omega), ← g5 i (by omega)]; exact k5 i hi
  · rw [s7 i (by omega), ← g7 i (by omega)]; exact k7 i hi
  · rw [(s9 i (by omega)).1, ← (g9 i (by omega)).1]; exact (k9 i hi).1
  · rw [(s9 i (by omega)).2, ← (g9 i (by omega)).2]; exact (k9 i hi).2
theorem WV.mv {h h1 : Hp} {w : Nat} (e : ∀ k, w ≤ k → k ≤ w + 6 → pI h1 k = pI h k) (W : Fl) (hw : WV h w W) : WV h1 w W := hw.fr e

theorem c_copy_l1 {h : Hp} {d b c : Nat} (hs : MkS h b) (gs : MkS h c) (hne : b + 227 < c ∨ c + 227 < b) (hd : 3 ≤ d) (hw : ∀ j, j < 30 → ∃ W, WV h (c + 18 + 7 * j) W) : ∀ r i : Nat, i + r = 30 → ∀ h', CF h b c i h' → ∃ h'', CF h b c 30 h'' ∧ ∀ (N S : Nat) (Q : Option Value → Hp → Prop), pn h ≤ N → ps h ≤ S → (∀ z3 z4 : Option Value, T d N S mX1_copyFrom 55 [some (.ref b), some (.ref c), some (.int (nI 30)), z3, z4] [] h'' Q) → ∀ z3 z4 : Option Value, T d N S mX1_copyFrom 14 [some (.ref b), some (.ref c), some (.int (nI i)), z3, z4] [] h' Q := by
  intro r
  induction r with
  | zero =>
    intro i hi h' hf
    have e : i = 30 := by omega
    subst e
    refine ⟨h', hf, fun N S Q hN hS K z3 z4 => ?_⟩
    refine z_iload_n dX1_copyFrom_14 rfl rfl ?_
    refine z_bipush (v := 30) dX1_copyFrom_15 (by decide) ?_
    refine z_icmp_ge dX1_copyFrom_17 rfl (fun _ => ?_) (fun c => absurd (by decide) c)
    exact K _ _
  | succ r ih =>
    intro i hi h' hf
    obtain ⟨f1, f2, f3, f4, f5, f6⟩ := hf
    have hlt : i < 30 := by omega
    obtain ⟨W, hW⟩ := f3 i hlt
    obtain ⟨V, hV⟩ := hw i hlt
    have hV' : WV h' (c + 18 + 7 * i) V := hV.fr (fun k _ _ => f1.2.2 k (by omega))
    obtain ⟨h2, t1, s2, s3⟩ := c_take0 (d := 2) (f1.1.wo (hs.wS hlt)) hW (f1.1.wo (gs.wS hlt)) hV' (by omega) (Nat.le_refl _)
    have k2 : ∀ j, j < i + 1 → ∀ W, WV h (c + 18 + 7 * j) W → WV h2 (b + 18 + 7 * j) W := by
      intro j hj W1 hW1
      by_cases hji : j = i
      · subst hji
        exact WV.same s2 hV hW1
      · exact (f2 j (by omega) W1 hW1).fr (fun k _ _ => s3.2.2 k (by omega))
    have k3 : ∀ j, j < 30 → ∃ W, WV h2 (b + 18 + 7 * j) W := by
      intro j hj
      by_cases hji : j = i
      · subst hji; exact ⟨V, s2⟩
      · obtain ⟨W1, hW1⟩ := f3 j hj
        exact ⟨W1, hW1.fr (fun k _ _ => s3.2.2 k (by omega))⟩
    have k4 : ∀ W, WV h (c + 1) W → WV h2 (b + 1) W := fun W1 hW1 => (f4 W1 hW1).fr (fun k _ _ => s3.2.2 k (by omega))
    have k5 : pI h2 b = pI h b := (s3.2.2 b (by omega)).trans f5
    have k6 : ∀ k, b + 8 ≤ k → k ≤ b + 17 → pI h2 k = pI h k := fun k q1 q2 => (s3.2.2 k (by omega)).trans (f6 k q1 q2)
    obtain ⟨h'', cf, J⟩ := ih (i + 1) (by omega) h2 ⟨f1.tr (s3.wide (by omega) (by omega)), k2, k3, k4, k5, k6⟩
    refine ⟨h'', cf, fun N S Q hN hS K z3 z4 => ?_⟩
    have hN' : pn h' ≤ N := by rw [f1.1.n]; exact hN
    have hS' : ps h' ≤ S := by rw [f1.1.s]; exact hS
    refine z_iload_n dX1_copyFrom_14 rfl rfl ?_
    refine z_bipush (v := 30) dX1_copyFrom_15 (by decide) ?_
    refine z_icmp_ge dX1_copyFrom_17 rfl (fun c => absurd c (fun q => absurd ((nI_leI (a := 30) (by omega) (by omega)).mp q) (by omega))) (fun _ => ?_)
    refine z_aload_n dX1_copyFrom_20 rfl rfl ?_
    refine z_iload_n dX1_copyFrom_21 rfl rfl ?_
    refine y_callV (as := [_]) CX1_pastAt LX1_56 IX1_pastAt VX1_pastAt ⟨rfl, Nat.le_of_ble_eq_true rfl⟩ dX1_copyFrom_22 (f1.1.O hs.o) rfl (Nat.le_of_ble_eq_true rfl) (Nat.le_of_ble_eq_true rfl) (by omega) (c_pastAt (b := b) (n := i) (f1.1.mk hs) (by omega)) (rok_o rfl) ⟨Nat.le_refl _, Nat.le_refl _, hN', hS'⟩ ?_
    rw [Nat.mod_eq_of_lt hlt]
    refine z_astore_n dX1_copyFrom_25 rfl (Nat.le_of_ble_eq_true rfl) ?_
    refine z_aload_n dX1_copyFrom_26 rfl rfl ?_
    refine z_iload_n dX1_copyFrom_27 rfl rfl ?_
    refine y_callV (as := [_]) CX1_pastAt LX1_56 IX1_pastAt VX1_pastAt ⟨rfl, Nat.le_of_ble_eq_true rfl⟩ dX1_copyFrom_28 (f1.1.O gs.o) rfl (Nat.le_of_ble_eq_true rfl) (Nat.le_of_ble_eq_true rfl) (by omega) (c_pastAt (b := c) (n := i) (f1.1.mk gs) (by omega)) (rok_o rfl) ⟨Nat.le_refl _, Nat.le_refl _, hN', hS'⟩ ?_
    rw [Nat.mod_eq_of_lt hlt]
    refine z_astore dX1_copyFrom_31 (Nat.le_of_ble_eq_true rfl) ?_
    refine z_aload_n dX1_copyFrom_33 rfl rfl ?_
    refine z_ifnull dX1_copyFrom_34 ?_
    refine z_aload dX1_copyFrom_37 rfl ?_
    refine z_ifnull dX1_copyFrom_39 ?_
    refine z_aload_n dX1_copyFrom_42 rfl rfl ?_
    refine z_aload dX1_copyFrom_43 rfl ?_
    refine z_iconst (v := 0) dX1_copyFrom_45 (by decide) ?_
    refine y_callV (as := [_, _]) CX7_take LX1_60 IX7_take VX7_take ⟨rfl, Nat.le_of_ble_eq_true rfl⟩ dX1_copyFrom_46 (f1.1.O (hs.wS hlt).1) rfl (Nat.le_of_ble_eq_true rfl) (Nat.le_of_ble_eq_true rfl) (by omega) t1 rok_v (hg_ss s3.1 hN' hS') ?_
    refine z_iinc dX1_copyFrom_49 rfl (nI_1 _) (Nat.le_of_ble_eq_true rfl) ?_
    refine z_goto dX1_copyFrom_52 rfl ?_
    exact J N S Q hN hS K _ _

/-- so far the first n texts have been taken -/
def TX (g : Hp) (b c n : Nat) (h' : Hp) : Prop := FX b g h' ∧ (∀ k, k ≠ b → pI h' k = pI g k) ∧ (∀ j, j ≠ 9 → pI h' b j = pI g b j) ∧ pI h' b 9 = nI n ∧ ∀ j, j < n → pR h' (b + 17) j = pR g (c + 17) j

theorem c_copy_l2 {g : Hp} {d b c n : Nat} (hs : MkS g b) (gs : MkS g c) (hne : b + 227 < c ∨ c + 227 < b) (hd : 1 ≤ d) (e9 : pI g c 9 = nI n) (h4 : n ≤ 4) (hx0 : ∀ t, t < n → ∃ x, pR g (c + 17) t = some x ∧ IO g 5 x) : ∀ r i : Nat, i + r = n → ∀ h', TX g b c i h' → ∃ h'', TX g b c n h'' ∧ ∀ (z3 z4 : Option Value) (N S : Nat) (Q : Option Value → Hp → Prop), pn g ≤ N → ps g ≤ S → (T d N S mX1_copyFrom 150 [some (.ref b), some (.ref c), some (.int (nI n)), z3, z4] [] h'' Q) → T d N S mX1_copyFrom 126 [some (.ref b), some (.ref c), some (.int (nI i)), z3, z4] [] h' Q := by
  intro r
  induction r with
  | zero =>
    intro i hi h' hf
    have e : i = n := by omega
    rw [e] at hf ⊢
    refine ⟨h', hf, fun z3 z4 N S Q hN hS K => ?_⟩
    obtain ⟨f1, f2, f3, f4, f5⟩ := hf
    refine z_iload_n dX1_copyFrom_126 rfl rfl ?_
    refine z_aload_n dX1_copyFrom_127 rfl rfl ?_
    refine y_getI FX1_70 dX1_copyFrom_128 (Or.inl rfl) (f1.O gs.o) ?_
    refine z_eqi (y := nI (n)) (show _ = nI n by rw [f2 c (by omega)]; exact e9) ?_
    refine z_icmp_ge dX1_copyFrom_131 rfl (fun _ => ?_) (fun c => absurd ((nI_leI (by omega) (by omega)).mpr (Nat.le_refl _)) c)
    exact K
  | succ r ih =>
    intro i hi h' hf
    obtain ⟨f1, f2, f3, f4, f5⟩ := hf
    obtain ⟨x, hx, hio⟩ := hx0 i (by omega)
    obtain ⟨h'', cf, J⟩ := ih (i + 1) (by omega) (addH h' b i x) ⟨f1.tr addH_x, fun k hk => by unfold addH; rw [pI_sI_ne hk]; exact f2 k hk, fun j hj => by unfold addH; rw [pI_sI, if_pos rfl, if_neg hj]; exact f3 j hj, by unfold addH; rw [pI_sI, if_pos rfl, if_pos rfl], fun j hj => by
      show pR (sR h' (b + 17) i (some x)) (b + 17) j = _
      rw [pR_sR_s]
      by_cases hji : j = i
      · rw [if_pos hji, hji, hx]
      · rw [if_neg hji]; exact f5 j (by omega)⟩
    refine ⟨h'', cf, fun z3 z4 N S Q hN hS K => ?_⟩
    have hN' : pn h' ≤ N := by rw [f1.1]; exact hN
    have hS' : ps h' ≤ S := by rw [f1.2.1]; exact hS
    refine z_iload_n dX1_copyFrom_126 rfl rfl ?_
    refine z_aload_n dX1_copyFrom_127 rfl rfl ?_
    refine y_getI FX1_70 dX1_copyFrom_128 (Or.inl rfl) (f1.O gs.o) ?_
    refine z_eqi (y := nI (n)) (show _ = nI n by rw [f2 c (by omega)]; exact e9) ?_
    refine z_icmp_ge dX1_copyFrom_131 rfl (fun c => absurd c (fun q => absurd ((nI_leI (by omega) (by omega)).mp q) (by omega))) (fun _ => ?_)
    refine z_aload_n dX1_copyFrom_134 rfl rfl ?_
    refine z_aload_n dX1_copyFrom_135 rfl rfl ?_
    refine z_iload_n dX1_copyFrom_136 rfl rfl ?_
    refine y_callV (as := [_]) CX1_textAt LX1_73 IX1_textAt VX1_textAt ⟨rfl, Nat.le_of_ble_eq_true rfl⟩ dX1_copyFrom_137 (f1.O gs.o) rfl (Nat.le_of_ble_eq_true rfl) (Nat.le_of_ble_eq_true rfl) (by omega) (c_textAt (b := c) (n := n) (j := i) (f1.mk (by omega) gs) (by rw [f2 c (by omega)]; exact e9) h4 (by omega) (by rw [f1.2.2.2.2.2 (c + 17) (by omega)]; exact (by exact hx))) (rok_o rfl) ⟨Nat.le_refl _, Nat.le_refl _, hN', hS'⟩ ?_
    refine y_callV (as := [_]) CX1_addText LX1_80 IX1_addText VX1_addText ⟨rfl, Nat.le_of_ble_eq_true rfl⟩ dX1_copyFrom_140 (f1.O hs.o) rfl (Nat.le_of_ble_eq_true rfl) (Nat.le_of_ble_eq_true rfl) (by omega) (c_addText (b := b) (n := i) (x := x) (f1.mk (by omega) hs) f4 (by omega) (f1.O hio)) rok_i ⟨Nat.le_refl _, Nat.le_refl _, hN', hS'⟩ ?_
    refine z_pop dX1_copyFrom_143 rfl ?_
    refine z_iinc dX1_copyFrom_144 rfl (nI_1 _) (Nat.le_of_ble_eq_true rfl) ?_
    refine z_goto dX1_copyFrom_147 rfl ?_
    exact J _ _ N S Q hN hS K

theorem takeH_v {h h0 : Hp} {k k2 w ms n n2 m p : Nat} {a : Fl} (hc : RwC h k w ms n) (hv : RwV h0 k2 w ms n2 a p) (hm : m = n2) (e : pI h (k2 + 1) = pI h0 (k2 + 1)) : RwV (takeH h k k2 w n2 m) k w ms n2 a p := by
  subst hm
  refine ⟨takeH_c hc hv.1.2.2.2.1, fun i hi => ?_⟩
  rw [takeH_at, if_pos hi, e]
  exact hv.2 i hi
theorem c_copyFrom {h : Hp} {d b c : Nat} {a ab : Fl} {tx txb : Nat → Nat → Prop} (hs : MkS h b) (gs : MkS h c) (hne : b + 227 < c ∨ c + 227 < b) (hvb : MV h b ab txb) (hv : MV h c a tx) (hi : IC a) (hx : ∀ t x, tx t x → IO h 5 x) (hd : 3 ≤ d) : ∃ h1, Sp d mX1_copyFrom [.ref b, .ref c] h none h1 ∧ MV h1 b a tx ∧ FX b h h1 := by
  obtain ⟨h0, t1, s2, s3⟩ := c_take0 (d := 2) hs.now hvb.1 gs.now hv.1 (by omega) (Nat.le_refl _)
  have cf0 : CF h b c 0 h0 := ⟨s3.wide (by omega) (by omega), fun j hj => absurd hj (by omega), fun j hj => by
    obtain ⟨W1, hW1⟩ := hvb.2.2.2.1 j hj
    exact ⟨W1, hW1.fr (fun k _ _ => s3.2.2 k (by omega))⟩, fun W hW => WV.same s2 hv.1 hW, s3.2.2 b (by omega), fun k _ _ => s3.2.2 k (by omega)⟩
  obtain ⟨h', cf, J1⟩ := c_copy_l1 hs gs hne hd hv.2.2.2.1 30 0 (by omega) h0 cf0
  obtain ⟨f1, f2, f3, f4, f5, f6⟩ := cf
  have rb9 : RwC h' (b + 9) 2 8 (ab 0) := hvb.2.2.2.2.1.1.fr (f6 _ (by omega) (by omega))
  have rb11 : RwC h' (b + 11) 4 8 (ab 5) := hvb.2.2.2.2.2.1.1.fr (f6 _ (by omega) (by omega))
  have rb13 : RwC h' (b + 13) 2 8 (ab 6) := hvb.2.2.2.2.2.2.1.1.fr (f6 _ (by omega) (by omega))
  have rb15 : RwC h' (b + 15) 2 8 (ab 7) := hvb.2.2.2.2.2.2.2.1.1.fr (f6 _ (by omega) (by omega))
  have rc9 : RwC h' (c + 9) 2 8 (a 0) := hv.2.2.2.2.1.1.fr (f1.2.2 _ (by omega))
  have rc11 : RwC h' (c + 11) 4 8 (a 5) := hv.2.2.2.2.2.1.1.fr (f1.2.2 _ (by omega))
  have rc13 : RwC h' (c + 13) 2 8 (a 6) := hv.2.2.2.2.2.2.1.1.fr (f1.2.2 _ (by omega))
  have rc15 : RwC h' (c + 15) 2 8 (a 7) := hv.2.2.2.2.2.2.2.1.1.fr (f1.2.2 _ (by omega))
  have hne2 : ∀ k, c ≤ k → k ≤ c + 227 → ¬ (b ≤ k ∧ k ≤ b + 227) := fun k q1 q2 => by omega
  have hG : FR b (b + 227) h' (sI (takeH (takeH (takeH (takeH (sI (sI h' b 2 (pI h c 2)) b 3 (pI h c 3)) (b + 9) (c + 9) 2 (a 0) (max 0 (a 0))) (b + 11) (c + 11) 4 (a 5) (max 0 (a 5))) (b + 13) (c + 13) 2 (a 6) (max 0 (a 6))) (b + 15) (c + 15) 2 (a 7) (max 0 (a 7))) b 9 (nI 0)) := (((((((FR.rf.sI (by omega)).sI (by omega)).take (by omega)).take (by omega)).take (by omega)).take (by omega)).sI (by omega))
  have ha2 : a 2 ≤ 4 := hi.2.2.1
  have hgc : ∀ k, c ≤ k → k ≤ c + 227 → pI (sI (takeH (takeH (takeH (takeH (sI (sI h' b 2 (pI h c 2)) b 3 (pI h c 3)) (b + 9) (c + 9) 2 (a 0) (max 0 (a 0))) (b + 11) (c + 11) 4 (a 5) (max 0 (a 5))) (b + 13) (c + 13) 2 (a 6) (max 0 (a 6))) (b + 15) (c + 15) 2 (a 7) (max 0 (a 7))) b 9 (nI 0)) k = pI h k := fun k q1 q2 => (hG.2.2 k (by omega)).trans (f1.2.2 k (by omega))
  obtain ⟨h2', tx2, J2⟩ := c_copy_l2 (g := (sI (takeH (takeH (takeH (takeH (sI (sI h' b 2 (pI h c 2)) b 3 (pI h c 3)) (b + 9) (c + 9) 2 (a 0) (max 0 (a 0))) (b + 11) (c + 11) 4 (a 5) (max 0 (a 5))) (b + 13) (c + 13) 2 (a 6) (max 0 (a 6))) (b + 15) (c + 15) 2 (a 7) (max 0 (a 7))) b 9 (nI 0))) (d := d) (n := a 2) (hG.1.mk (f1.1.mk hs)) (hG.1.mk (f1.1.mk gs)) hne (by omega) (by rw [hgc c (by omega) (by omega)]; exact hv.2.2.2.2.2.2.2.2.1) ha2 (fun t ht => by
    obtain ⟨x, q1, q2⟩ := hv.2.2.2.2.2.2.2.2.2.2 t ht
    exact ⟨x, by rw [hG.1.R, f1.1.R]; exact q1, hG.1.O (f1.1.O (hx t x q2))⟩) (a 2) 0 (by omega) (sI (takeH (takeH (takeH (takeH (sI (sI h' b 2 (pI h c 2)) b 3 (pI h c 3)) (b + 9) (c + 9) 2 (a 0) (max 0 (a 0))) (b + 11) (c + 11) 4 (a 5) (max 0 (a 5))) (b + 13) (c + 13) 2 (a 6) (max 0 (a 6))) (b + 15) (c + 15) 2 (a 7) (max 0 (a 7))) b 9 (nI 0)) ⟨FX.rf, fun _ _ => rfl, fun _ _ => rfl, by rw [pI_sI, if_pos rfl, if_pos rfl], fun j hj => absurd hj (by omega)⟩
  obtain ⟨x1, x2, x3, x4, x5⟩ := tx2
  have gb2 : pI (sI (takeH (takeH (takeH (takeH (sI (sI h' b 2 (pI h c 2)) b 3 (pI h c 3)) (b + 9) (c + 9) 2 (a 0) (max 0 (a 0))) (b + 11) (c + 11) 4 (a 5) (max 0 (a 5))) (b + 13) (c + 13) 2 (a 6) (max 0 (a 6))) (b + 15) (c + 15) 2 (a 7) (max 0 (a 7))) b 9 (nI 0)) b 2 = pI h c 2 := by rw [pI_sI, if_pos rfl, if_neg (by omega), takeH_ne (by omega) (by omega), takeH_ne (by omega) (by omega), takeH_ne (by omega) (by omega), takeH_ne (by omega) (by omega), pI_sI, if_pos rfl, if_neg (by omega), pI_sI, if_pos rfl, if_pos rfl]
  have gb3 : pI (sI (takeH (takeH (takeH (takeH (sI (sI h' b 2 (pI h c 2)) b 3 (pI h c 3)) (b + 9) (c + 9) 2 (a 0) (max 0 (a 0))) (b + 11) (c + 11) 4 (a 5) (max 0 (a 5))) (b + 13) (c + 13) 2 (a 6) (max 0 (a 6))) (b + 15) (c + 15) 2 (a 7) (max 0 (a 7))) b 9 (nI 0)) b 3 = pI h c 3 := by rw [pI_sI, if_pos rfl, if_neg (by omega), takeH_ne (by omega) (by omega), takeH_ne (by omega) (by omega), takeH_ne (by omega) (by omega), takeH_ne (by omega) (by omega), pI_sI, if_pos rfl, if_pos rfl]
  have gw : ∀ k, (b + 1 ≤ k ∧ k ≤ b + 8) ∨ (b + 17 ≤ k) → pI (sI (takeH (takeH (takeH (takeH (sI (sI h' b 2 (pI h c 2)) b 3 (pI h c 3)) (b + 9) (c + 9) 2 (a 0) (max 0 (a 0))) (b + 11) (c + 11) 4 (a 5) (max 0 (a 5))) (b + 13) (c + 13) 2 (a 6) (max 0 (a 6))) (b + 15) (c + 15) 2 (a 7) (max 0 (a 7))) b 9 (nI 0)) k = pI h' k := fun k q => by
    rw [pI_sI_ne (by omega), takeH_ne (by omega) (by omega), takeH_ne (by omega) (by omega), takeH_ne (by omega) (by omega), takeH_ne (by omega) (by omega), pI_sI_ne (by omega), pI_sI_ne (by omega)]
  have r9 : RwV (sI (takeH (takeH (takeH (takeH (sI (sI h' b 2 (pI h c 2)) b 3 (pI h c 3)) (b + 9) (c + 9) 2 (a 0) (max 0 (a 0))) (b + 11) (c + 11) 4 (a 5) (max 0 (a 5))) (b + 13) (c + 13) 2 (a 6) (max 0 (a 6))) (b + 15) (c + 15) 2 (a 7) (max 0 (a 7))) b 9 (nI 0)) (b + 9) 2 8 (a 0) a 110 := by
    refine RwV.fr (takeH_v (h := (sI (sI h' b 2 (pI h c 2)) b 3 (pI h c 3))) (h0 := h) (m := max 0 (a 0)) (RwC.fr rb9 (by (repeat (first | rw [takeH_ne (by omega) (by omega)] | rw [pI_sI_ne (by omega)])))) hv.2.2.2.2.1 (by omega) ?_) ?_ ?_
    · rw [pI_sI_ne (by omega), pI_sI_ne (by omega)]; exact f1.2.2 _ (by omega)
    · rw [pI_sI_ne (by omega), takeH_ne (by omega) (by omega), takeH_ne (by omega) (by omega), takeH_ne (by omega) (by omega)]
    · rw [pI_sI_ne (by omega), takeH_ne (by omega) (by omega), takeH_ne (by omega) (by omega), takeH_ne (by omega) (by omega)]
  have r11 : RwV (sI (takeH (takeH (takeH (takeH (sI (sI h' b 2 (pI h c 2)) b 3 (pI h c 3)) (b + 9) (c + 9) 2 (a 0) (max 0 (a 0))) (b + 11) (c + 11) 4 (a 5) (max 0 (a 5))) (b + 13) (c + 13) 2 (a 6) (max 0 (a 6))) (b + 15) (c + 15) 2 (a 7) (max 0 (a 7))) b 9 (nI 0)) (b + 11) 4 8 (a 5) a 126 := by
    refine RwV.fr (takeH_v (h := (takeH (sI (sI h' b 2 (pI h c 2)) b 3 (pI h c 3)) (b + 9) (c + 9) 2 (a 0) (max 0 (a 0)))) (h0 := h) (m := max 0 (a 5)) (RwC.fr rb11 (by (repeat (first | rw [takeH_ne (by omega) (by omega)] | rw [pI_sI_ne (by omega)])))) hv.2.2.2.2.2.1 (by omega) ?_) ?_ ?_
    · rw [takeH_ne (by omega) (by omega), pI_sI_ne (by omega), pI_sI_ne (by omega)]; exact f1.2.2 _ (by omega)
    · rw [pI_sI_ne (by omega), takeH_ne (by omega) (by omega), takeH_ne (by omega) (by omega)]
    · rw [pI_sI_ne (by omega), takeH_ne (by omega) (by omega), takeH_ne (by omega) (by omega)]
  have r13 : RwV (sI (takeH (takeH (takeH (takeH (sI (sI h' b 2 (pI h c 2)) b 3 (pI h c 3)) (b + 9) (c + 9) 2 (a 0) (max 0 (a 0))) (b + 11) (c + 11) 4 (a 5) (max 0 (a 5))) (b + 13) (c + 13) 2 (a 6) (max 0 (a 6))) (b + 15) (c + 15) 2 (a 7) (max 0 (a 7))) b 9 (nI 0)) (b + 13) 2 8 (a 6) a 158 := by
    refine RwV.fr (takeH_v (h := (takeH (takeH (sI (sI h' b 2 (pI h c 2)) b 3 (pI h c 3)) (b + 9) (c + 9) 2 (a 0) (max 0 (a 0))) (b + 11) (c + 11) 4 (a 5) (max 0 (a 5)))) (h0 := h) (m := max 0 (a 6)) (RwC.fr rb13 (by (repeat (first | rw [takeH_ne (by omega) (by omega)] | rw [pI_sI_ne (by omega)])))) hv.2.2.2.2.2.2.1 (by omega) ?_) ?_ ?_
    · rw [takeH_ne (by omega) (by omega), takeH_ne (by omega) (by omega), pI_sI_ne (by omega), pI_sI_ne (by omega)]; exact f1.2.2 _ (by omega)
    · rw [pI_sI_ne (by omega), takeH_ne (by omega) (by omega)]
    · rw [pI_sI_ne (by omega), takeH_ne (by omega) (by omega)]
  have r15 : RwV (sI (takeH (takeH (takeH (takeH (sI (sI h' b 2 (pI h c 2)) b 3 (pI h c 3)) (b + 9) (c + 9) 2 (a 0) (max 0 (a 0))) (b + 11) (c + 11) 4 (a 5) (max 0 (a 5))) (b + 13) (c + 13) 2 (a 6) (max 0 (a 6))) (b + 15) (c + 15) 2 (a 7) (max 0 (a 7))) b 9 (nI 0)) (b + 15) 2 8 (a 7) a 174 := by
    refine RwV.fr (takeH_v (h := (takeH (takeH (takeH (sI (sI h' b 2 (pI h c 2)) b 3 (pI h c 3)) (b + 9) (c + 9) 2 (a 0) (max 0 (a 0))) (b + 11) (c + 11) 4 (a 5) (max 0 (a 5))) (b + 13) (c + 13) 2 (a 6) (max 0 (a 6)))) (h0 := h) (m := max 0 (a 7)) (RwC.fr rb15 (by (repeat (first | rw [takeH_ne (by omega) (by omega)] | rw [pI_sI_ne (by omega)])))) hv.2.2.2.2.2.2.2.1 (by omega) ?_) ?_ ?_
    · rw [takeH_ne (by omega) (by omega), takeH_ne (by omega) (by omega), takeH_ne (by omega) (by omega), pI_sI_ne (by omega), pI_sI_ne (by omega)]; exact f1.2.2 _ (by omega)
    · rw [pI_sI_ne (by omega)]
    · rw [pI_sI_ne (by omega)]
  clear hG
  have fin : ∀ k, k ≠ b → pI (sI h2' b 10 (pI h2' c 10)) k = pI (sI (takeH (takeH (takeH (takeH (sI (sI h' b 2 (pI h c 2)) b 3 (pI h c 3)) (b + 9) (c + 9) 2 (a 0) (max 0 (a 0))) (b + 11) (c + 11) 4 (a 5) (max 0 (a 5))) (b + 13) (c + 13) 2 (a 6) (max 0 (a 6))) (b + 15) (c + 15) 2 (a 7) (max 0 (a 7))) b 9 (nI 0)) k := fun k hk => by rw [pI_sI_ne hk]; exact x2 k hk
  refine ⟨sI h2' b 10 (pI h2' c 10), ?_, ?_, ?_⟩
  · intro N S Q hN hS hQ
    have hN2 : pn (sI (takeH (takeH (takeH (takeH (sI (sI h' b 2 (pI h c 2)) b 3 (pI h c 3)) (b + 9) (c + 9) 2 (a 0) (max 0 (a 0))) (b + 11) (c + 11) 4 (a 5) (max 0 (a 5))) (b + 13) (c + 13) 2 (a 6) (max 0 (a 6))) (b + 15) (c + 15) 2 (a 7) (max 0 (a 7))) b 9 (nI 0)) ≤ N := by rw [← x1.1]; exact hN
    have hS2 : ps (sI (takeH (takeH (takeH (takeH (sI (sI h' b 2 (pI h c 2)) b 3 (pI h c 3)) (b + 9) (c + 9) 2 (a 0) (max 0 (a 0))) (b + 11) (c + 11) 4 (a 5) (max 0 (a 5))) (b + 13) (c + 13) 2 (a 6) (max 0 (a 6))) (b + 15) (c + 15) 2 (a 7) (max 0 (a 7))) b 9 (nI 0)) ≤ S := by rw [← x1.2.1]; exact hS
    have hN' : pn h' ≤ N := hN2
    have hS' : ps h' ≤ S := hS2
    have hN : pn h ≤ N := by rw [← f1.1.n]; exact hN'
    have hS : ps h ≤ S := by rw [← f1.1.s]; exact hS'
    refine z_aload_n dX1_copyFrom_0 rfl rfl ?_
    refine y_getR FX1_12 dX1_copyFrom_1 rfl hs.o hs.f0 ?_
    refine z_aload_n dX1_copyFrom_4 rfl rfl ?_
    refine y_getR FX1_12 dX1_copyFrom_5 rfl gs.o gs.f0 ?_
    refine z_iconst (v := 0) dX1_copyFrom_8 (by decide) ?_
    refine y_callV (as := [_, _]) CX7_take LX1_60 IX7_take VX7_take ⟨rfl, Nat.le_of_ble_eq_true rfl⟩ dX1_copyFrom_9 hs.now.1 rfl (Nat.le_of_ble_eq_true rfl) (Nat.le_of_ble_eq_true rfl) (by omega) t1 rok_v (hg_ss s3.1 hN hS) ?_
    refine z_iconst (v := 0) dX1_copyFrom_12 (by decide) ?_
    refine z_eqi (show _ = nI 0 from rfl) ?_
    refine z_istore_n dX1_copyFrom_13 rfl (Nat.le_of_ble_eq_true rfl) ?_
    refine J1 N S Q hN hS (fun z3 z4 => ?_) none none
    refine z_aload_n dX1_copyFrom_55 rfl rfl ?_
    refine z_aload_n dX1_copyFrom_56 rfl rfl ?_
    refine y_getI FX1_50 dX1_copyFrom_57 (Or.inl rfl) (f1.1.O gs.o) ?_
    refine z_eqi (show _ = pI h c 2 by rw [f1.2.2 c (by omega)]) ?_
    refine y_putI FX1_50 dX1_copyFrom_60 (Or.inl rfl) (Or.inl rfl) (f1.1.O hs.o) ?_
    refine z_aload_n dX1_copyFrom_63 rfl rfl ?_
    refine z_aload_n dX1_copyFrom_64 rfl rfl ?_
    refine y_getI FX1_53 dX1_copyFrom_65 (Or.inl rfl) (f1.1.O gs.o) ?_
    refine z_eqi (show _ = pI h c 3 by rw [pI_sI_ne (by omega), f1.2.2 c (by omega)]) ?_
    refine y_putI FX1_53 dX1_copyFrom_68 (Or.inl rfl) (Or.inl rfl) (f1.1.O hs.o) ?_
    refine z_aload_n dX1_copyFrom_71 rfl rfl ?_
    refine y_getR FX1_27 dX1_copyFrom_72 rfl (f1.1.O hs.o) ((f1.1.mk hs).f4) ?_
    refine z_aload_n dX1_copyFrom_75 rfl rfl ?_
    refine y_getR FX1_27 dX1_copyFrom_76 rfl (f1.1.O gs.o) ((f1.1.mk gs).f4) ?_
    refine z_iconst (v := 0) dX1_copyFrom_79 (by decide) ?_
    refine y_callV (as := [_, _]) CX4_take LX1_77 IX4_take VX4_take ⟨rfl, Nat.le_of_ble_eq_true rfl⟩ dX1_copyFrom_80 (f1.1.O hs.facts.1) rfl (Nat.le_of_ble_eq_true rfl) (Nat.le_of_ble_eq_true rfl) (by omega) (s_take (k := b + 9) (k2 := c + 9) (w := 2) (ms := 8) (n := ab 0) (n2 := a 0) (kp := 0) (by exact f1.1.rw (by exact hs.facts)) (RwC.fr rb9 (by (repeat (first | rw [takeH_ne (by omega) (by omega)] | rw [pI_sI_ne (by omega)])))) (by exact f1.1.rw gs.facts) (RwC.fr rc9 (by (repeat (first | rw [takeH_ne (by omega) (by omega)] | rw [pI_sI_ne (by omega)])))) (Nat.zero_le _) ⟨by omega, by omega⟩ (by omega)) rok_v ⟨Nat.le_refl _, Nat.le_refl _, hN', hS'⟩ ?_
    refine z_aload_n dX1_copyFrom_83 rfl rfl ?_
    refine y_getR FX1_31 dX1_copyFrom_84 rfl (f1.1.O hs.o) ((f1.1.mk hs).f5) ?_
    refine z_aload_n dX1_copyFrom_87 rfl rfl ?_
    refine y_getR FX1_31 dX1_copyFrom_88 rfl (f1.1.O gs.o) ((f1.1.mk gs).f5) ?_
    refine z_iconst (v := 0) dX1_copyFrom_91 (by decide) ?_
    refine y_callV (as := [_, _]) CX4_take LX1_77 IX4_take VX4_take ⟨rfl, Nat.le_of_ble_eq_true rfl⟩ dX1_copyFrom_92 (f1.1.O hs.offers.1) rfl (Nat.le_of_ble_eq_true rfl) (Nat.le_of_ble_eq_true rfl) (by omega) (s_take (k := b + 11) (k2 := c + 11) (w := 4) (ms := 8) (n := ab 5) (n2 := a 5) (kp := 0) (by exact f1.1.rw (by exact hs.offers)) (RwC.fr rb11 (by (repeat (first | rw [takeH_ne (by omega) (by omega)] | rw [pI_sI_ne (by omega)])))) (by exact f1.1.rw gs.offers) (RwC.fr rc11 (by (repeat (first | rw [takeH_ne (by omega) (by omega)] | rw [pI_sI_ne (by omega)])))) (Nat.zero_le _) ⟨by omega, by omega⟩ (by omega)) rok_v ⟨Nat.le_refl _, Nat.le_refl _, hN', hS'⟩ ?_
    refine z_aload_n dX1_copyFrom_95 rfl rfl ?_
    refine y_getR FX1_34 dX1_copyFrom_96 rfl (f1.1.O hs.o) ((f1.1.mk hs).f6) ?_
    refine z_aload_n dX1_copyFrom_99 rfl rfl ?_
    refine y_getR FX1_34 dX1_copyFrom_100 rfl (f1.1.O gs.o) ((f1.1.mk gs).f6) ?_
    refine z_iconst (v := 0) dX1_copyFrom_103 (by decide) ?_
    refine y_callV (as := [_, _]) CX4_take LX1_77 IX4_take VX4_take ⟨rfl, Nat.le_of_ble_eq_true rfl⟩ dX1_copyFrom_104 (f1.1.O hs.heard.1) rfl (Nat.le_of_ble_eq_true rfl) (Nat.le_of_ble_eq_true rfl) (by omega) (s_take (k := b + 13) (k2 := c + 13) (w := 2) (ms := 8) (n := ab 6) (n2 := a 6) (kp := 0) (by exact f1.1.rw (by exact hs.heard)) (RwC.fr rb13 (by (repeat (first | rw [takeH_ne (by omega) (by omega)] | rw [pI_sI_ne (by omega)])))) (by exact f1.1.rw gs.heard) (RwC.fr rc13 (by (repeat (first | rw [takeH_ne (by omega) (by omega)] | rw [pI_sI_ne (by omega)])))) (Nat.zero_le _) ⟨by omega, by omega⟩ (by omega)) rok_v ⟨Nat.le_refl _, Nat.le_refl _, hN', hS'⟩ ?_
    refine z_aload_n dX1_copyFrom_107 rfl rfl ?_
    refine y_getR FX1_37 dX1_copyFrom_108 rfl (f1.1.O hs.o) ((f1.1.mk hs).f7) ?_
    refine z_aload_n dX1_copyFrom_111 rfl rfl ?_
    refine y_getR FX1_37 dX1_copyFrom_112 rfl (f1.1.O gs.o) ((f1.1.mk gs).f7) ?_
    refine z_iconst (v := 0) dX1_copyFrom_115 (by decide) ?_
    refine y_callV (as := [_, _]) CX4_take LX1_77 IX4_take VX4_take ⟨rfl, Nat.le_of_ble_eq_true rfl⟩ dX1_copyFrom_116 (f1.1.O hs.owed.1) rfl (Nat.le_of_ble_eq_true rfl) (Nat.le_of_ble_eq_true rfl) (by omega) (s_take (k := b + 15) (k2 := c + 15) (w := 2) (ms := 8) (n := ab 7) (n2 := a 7) (kp := 0) (by exact f1.1.rw (by exact hs.owed)) (RwC.fr rb15 (by (repeat (first | rw [takeH_ne (by omega) (by omega)] | rw [pI_sI_ne (by omega)])))) (by exact f1.1.rw gs.owed) (RwC.fr rc15 (by (repeat (first | rw [takeH_ne (by omega) (by omega)] | rw [pI_sI_ne (by omega)])))) (Nat.zero_le _) ⟨by omega, by omega⟩ (by omega)) rok_v ⟨Nat.le_refl _, Nat.le_refl _, hN', hS'⟩ ?_
    refine z_aload_n dX1_copyFrom_119 rfl rfl ?_
    refine z_iconst (v := 0) dX1_copyFrom_120 (by decide) ?_
    refine y_putI FX1_70 dX1_copyFrom_121 (Or.inl rfl) (Or.inl rfl) (f1.1.O hs.o) ?_
    refine z_iconst (v := 0) dX1_copyFrom_124 (by decide) ?_
    refine z_eqi (show _ = nI 0 from rfl) ?_
    refine z_istore_n dX1_copyFrom_125 rfl (Nat.le_of_ble_eq_true rfl) ?_
    refine J2 z3 z4 N S Q hN2 hS2 ?_
    refine z_aload_n dX1_copyFrom_150 rfl rfl ?_
    refine z_aload_n dX1_copyFrom_151 rfl rfl ?_
    refine y_getI FX1_46 dX1_copyFrom_152 (Or.inl rfl) (x1.O (f1.1.O gs.o)) ?_
    refine y_putI FX1_46 dX1_copyFrom_155 (Or.inl rfl) (Or.inl rfl) (x1.O (f1.1.O hs.o)) ?_
    refine z_vret dX1_copyFrom_158 ?_
    exact hQ
  · obtain ⟨m1, ⟨e, he, e2, hst⟩, m3, m4, m5, m6, m7, m8, m9, m10, m11⟩ := hv
    refine ⟨?_, ⟨e, he, ?_, fun t ht => ?_⟩, ?_, fun i hi => ?_, ?_, ?_, ?_, ?_, ?_, ?_, fun t ht => ?_⟩
    · exact (f4 _ m1).fr (fun k _ _ => by rw [fin k (by omega)]; exact gw k (by omega))
    · rw [pI_sI, if_pos rfl, if_neg (by omega), x3 2 (by omega), gb2]; exact e2
    · have hm : (e + t) % 30 < 30 := Nat.mod_lt _ (by omega)
      exact (f2 _ hm _ (hst t ht)).fr (fun k _ _ => by rw [fin k (by omega)]; exact gw k (by omega))
    · rw [pI_sI, if_pos rfl, if_neg (by omega), x3 3 (by omega), gb3]; exact m3
    · obtain ⟨W1, hW1⟩ := f3 i hi
      exact ⟨W1, hW1.fr (fun k _ _ => by rw [fin k (by omega)]; exact gw k (by omega))⟩
    · exact r9.fr (fin _ (by omega)) (fin _ (by omega))
    · exact r11.fr (fin _ (by omega)) (fin _ (by omega))
    · exact r13.fr (fin _ (by omega)) (fin _ (by omega))
    · exact r15.fr (fin _ (by omega)) (fin _ (by omega))
    · rw [pI_sI, if_pos rfl, if_neg (by omega)]; exact x4
    · rw [pI_sI, if_pos rfl, if_pos rfl, x2 c (by omega), hgc c (by omega) (by omega)]; exact m10
    · obtain ⟨x, q1, q2⟩ := m11 t ht
      refine ⟨x, ?_, q2⟩
      show pR h2' (b + 17) t = some x
      rw [x5 t ht]
      show pR h' (c + 17) t = some x
      rw [f1.1.R]
      exact q1
  · refine FX.tr (f1.x) (FX.tr (FR.x ?_) (FX.tr x1 ?_))
    · exact (((((((FR.rf.sI (by omega)).sI (by omega)).take (by omega)).take (by omega)).take (by omega)).take (by omega)).sI (by omega))
    · exact FR.x (FR.rf.sI (by omega))

theorem C_image {h : Hp} {d : Nat} {a i : Fl} {tx txi : Nat → Nat → Prop} (h8 : IO h 8 8) (hx0 : pR h 8 0 = some 9) (hx1 : pR h 8 1 = some 237) (hs : MkS h 9) (hs2 : MkS h 237) (hv : MV h 9 a tx) (hv2 : MV h 237 i txi) (hi : IC a) (hx : ∀ t x, tx t x → IO h 5 x) (hd : 4 ≤ d) : ∃ h1, Sp d mX8_image [.ref 8] h (some (.int (nI (a 8)))) h1 ∧ MV h1 237 a tx ∧ FX 237 h h1 := by
  obtain ⟨h1, t1, s2, x1⟩ := c_copyFrom (d := 3) (b := 237) (c := 9) hs2 hs (by omega) hv2 hv hi hx (Nat.le_refl _)
  refine ⟨h1, ?_, s2, x1⟩
  intro N S Q hN hS hQ
  have ev : pI h1 10 0 = (nI (a 8)) := by rw [x1.2.2.2.2.1 10 (by omega)]; exact hv.1.1
  refine z_aload_n dX8_image_0 rfl rfl ?_
  refine y_getR FX8_16 dX8_image_1 rfl (by first | exact h8 | exact x1.O h8) hx1 ?_
  refine z_aload_n dX8_image_4 rfl rfl ?_
  refine y_getR FX8_10 dX8_image_5 rfl (by first | exact h8 | exact x1.O h8) (by first | exact hx0 | (rw [x1.2.2.2.2.2 8 (by omega)]; exact hx0)) ?_
  refine y_callV (as := [_]) CX1_copyFrom LX8_409 IX1_copyFrom VX1_copyFrom ⟨rfl, Nat.le_of_ble_eq_true rfl⟩ dX8_image_8 hs2.o rfl (Nat.le_of_ble_eq_true rfl) (Nat.le_of_ble_eq_true rfl) (by omega) t1 rok_v ⟨by rw [x1.1]; exact Nat.le_refl _, by rw [x1.2.1]; exact Nat.le_refl _, hN, hS⟩ ?_
  refine z_aload_n dX8_image_11 rfl rfl ?_
  refine y_getR FX8_10 dX8_image_12 rfl (by first | exact h8 | exact x1.O h8) (by first | exact hx0 | (rw [x1.2.2.2.2.2 8 (by omega)]; exact hx0)) ?_
  refine y_getR FX8_79 dX8_image_15 rfl (by first | exact hs.o | exact x1.O hs.o) (x1.mk (by omega) hs).f0 ?_
  refine y_getI FX8_133 dX8_image_18 (Or.inl rfl) (x1.O hs.now.1) ?_
  refine z_eqi ev ?_
  refine z_iret dX8_image_21 ?_
  exact hQ

theorem C_back {h : Hp} {d : Nat} {a i : Fl} {tx txi : Nat → Nat → Prop} (h8 : IO h 8 8) (hx0 : pR h 8 0 = some 9) (hx1 : pR h 8 1 = some 237) (hs : MkS h 9) (hs2 : MkS h 237) (hv : MV h 9 a tx) (hv2 : MV h 237 i txi) (hi : IC i) (hx : ∀ t x, txi t x → IO h 5 x) (hd : 4 ≤ d) : ∃ h1, Sp d mX8_back [.ref 8] h (some (.int (nI (i 8)))) h1 ∧ MV h1 9 i txi ∧ FX 9 h h1 := by
  obtain ⟨h1, t1, s2, x1⟩ := c_copyFrom (d := 3) (b := 9) (c := 237) hs hs2 (by omega) hv hv2 hi hx (Nat.le_refl _)
  refine ⟨h1, ?_, s2, x1⟩
  intro N S Q hN hS hQ
  have ev : pI h1 10 0 = (nI (i 8)) := s2.1.1
  refine z_aload_n dX8_back_0 rfl rfl ?_
  refine y_getR FX8_10 dX8_back_1 rfl (by first | exact h8 | exact x1.O h8) (by first | exact hx0 | (rw [x1.2.2.2.2.2 8 (by omega)]; exact hx0)) ?_
  refine z_aload_n dX8_back_4 rfl rfl ?_
  refine y_getR FX8_16 dX8_back_5 rfl (by first | exact h8 | exact x1.O h8) hx1 ?_
  refine y_callV (as := [_]) CX1_copyFrom LX8_409 IX1_copyFrom VX1_copyFrom ⟨rfl, Nat.le_of_ble_eq_true rfl⟩ dX8_back_8 (by first | exact hs.o | exact x1.O hs.o) rfl (Nat.le_of_ble_eq_true rfl) (Nat.le_of_ble_eq_true rfl) (by omega) t1 rok_v ⟨by rw [x1.1]; exact Nat.le_refl _, by rw [x1.2.1]; exact Nat.le_refl _, hN, hS⟩ ?_
  refine z_aload_n dX8_back_11 rfl rfl ?_
  refine y_getR FX8_10 dX8_back_12 rfl (by first | exact h8 | exact x1.O h8) (by first | exact hx0 | (rw [x1.2.2.2.2.2 8 (by omega)]; exact hx0)) ?_
  refine y_getR FX8_79 dX8_back_15 rfl (by first | exact hs.o | exact x1.O hs.o) (x1.mk (by omega) hs).f0 ?_
  refine y_getI FX8_133 dX8_back_18 (Or.inl rfl) (x1.O hs.now.1) ?_
  refine z_eqi ev ?_
  refine z_iret dX8_back_21 ?_
  exact hQ

