/-! the reference reads a sum: what is open, what was compared (walks by program: wip/whole/gen9b.py) -/
theorem r_next {s : Ms} {t w0 so i op wh : Nat} {ro : List Nat} {c : Cd} {h : Hp} {d : Nat} (rp : RP s t w0 so i ro op wh c h) (ht : ITp s) (hd : 1 ≤ d) : ∃ h1, Sp d mX9_nextToken [.ref 488] h none h1 ∧ RP s t w0 so (i + 1) ro op wh c h1 ∧ FQ h h1 ∧ pI h1 493 = pI h 493 := by
  obtain ⟨tf, hr, em, fr, nt, e12, e13, e14, e16, e17, e18, pil⟩ := id rp
  have hm := hr.m
  obtain ⟨h1, k1, k2, k3⟩ := r_nextToken (s := wTf s tf) (x := tA (TPs s) (TNs s) (i + 1)) (d := d) hr ht (tA_le _) nt.1 hd
  refine ⟨h1, k1, ⟨tf, k2.rm hr, em, fr, k3, ?_, ?_, ?_, ?_, ?_, ?_, PIL.fr (k2.2.1 493 (by omega)) _ pil⟩, k2.q, k2.2.1 493 (by omega)⟩
  · rw [k2.2.2.1 12 (by omega)]; exact e12
  · rw [k2.2.2.1 13 (by omega)]; exact e13
  · rw [k2.2.2.1 14 (by omega)]; exact e14
  · rw [k2.2.2.1 16 (by omega)]; exact e16
  · rw [k2.2.2.1 17 (by omega)]; exact e17
  · rw [k2.2.2.1 18 (by omega)]; exact e18
def opI : List Nat → Nat
  | [] => 0
  | x :: r => if 40 ≤ x then r.length + 1 else opI r
def opV : List Nat → Int32
  | [] => -1
  | x :: r => if 40 ≤ x then nI x else opV r
def cpd : List Nat → Bool
  | [] => false
  | x :: r => if 4 < rk x then cpd r else rk x == 4

theorem r_openAt_loop {h : Hp} {d N S : Nat} {Q : Option Value → Hp → Prop} (hm : SM h) : ∀ ro : List Nat, PIL h ro → ro.length ≤ 160 → Q (some (.int (cT (opI ro)))) h → T d N S mX9_openAt 7 [some (.ref 488), some (.int (cT ro.length))] [] h Q := by
  intro ro
  induction ro with
  | nil =>
    intro _ _ hQ
    have hQ : Q (some (.int (-1))) h := hQ
    show T d N S mX9_openAt 7 [some (.ref 488), some (.int (-1))] [] h Q
    refine z_iload_n dX9_openAt_7 rfl rfl ?_
    refine z_if_lt dX9_openAt_8 rfl (fun _ => ?_) (fun c => absurd (by decide) c)
    refine z_iload_n dX9_openAt_28 rfl rfl ?_
    refine z_iret dX9_openAt_29 ?_
    exact hQ
  | cons x r ih =>
    intro pil hl hQ
    obtain ⟨px, x44, pr⟩ := pil
    have hl : r.length + 1 ≤ 160 := hl
    rw [show (x :: r).length = r.length + 1 from rfl, cT_s]
    by_cases h40 : 40 ≤ x
    · rw [show opI (x :: r) = r.length + 1 from if_pos h40, cT_s] at hQ
      refine z_iload_n dX9_openAt_7 rfl rfl ?_
      refine z_if_lt dX9_openAt_8 rfl (fun c => absurd c (nI_pos (by omega))) (fun _ => ?_)
      refine z_aload_n dX9_openAt_11 rfl rfl ?_
      refine y_getR FX9_29 dX9_openAt_12 rfl hm.o hm.f_pile ?_
      refine z_iload_n dX9_openAt_15 rfl rfl ?_
      refine y_ialN (r.length) dX9_openAt_16 hm.A_pile (Nat.le_of_ble_eq_true rfl) (rfl) (by omega) ?_
      refine z_eqi px ?_
      refine z_bipush (v := 40) dX9_openAt_17 (by decide) ?_
      refine z_icmp_ge dX9_openAt_19 rfl (fun _ => ?_) (fun c => absurd ((nI_leI (a := 40) (by omega) (by omega)).mpr h40) c)
      refine z_iload_n dX9_openAt_28 rfl rfl ?_
      refine z_iret dX9_openAt_29 ?_
      exact hQ
    · rw [show opI (x :: r) = opI r from if_neg h40] at hQ
      refine z_iload_n dX9_openAt_7 rfl rfl ?_
      refine z_if_lt dX9_openAt_8 rfl (fun c => absurd c (nI_pos (by omega))) (fun _ => ?_)
      refine z_aload_n dX9_openAt_11 rfl rfl ?_
      refine y_getR FX9_29 dX9_openAt_12 rfl hm.o hm.f_pile ?_
      refine z_iload_n dX9_openAt_15 rfl rfl ?_
      refine y_ialN (r.length) dX9_openAt_16 hm.A_pile (Nat.le_of_ble_eq_true rfl) (rfl) (by omega) ?_
      refine z_eqi px ?_
      refine z_bipush (v := 40) dX9_openAt_17 (by decide) ?_
      refine z_icmp_ge dX9_openAt_19 rfl (fun c => absurd c (fun q => absurd ((nI_leI (a := 40) (by omega) (by omega)).mp q) (by omega))) (fun _ => ?_)
      refine z_iinc dX9_openAt_22 rfl (cT_dec r.length) (Nat.le_of_ble_eq_true rfl) ?_
      refine z_goto dX9_openAt_25 rfl ?_
      exact ih pr (by omega) hQ
theorem cT_pred (k : Nat) : nI k - 1 = cT k := by
  cases k with
  | zero => decide
  | succ k => rw [cT_s]; exact nI_pred k
theorem r_openAt {s : Ms} {t w0 so i op wh : Nat} {ro : List Nat} {c : Cd} {h : Hp} {d : Nat} (rp : RP s t w0 so i ro op wh c h) (hl : ro.length ≤ 160) : Sp d mX9_openAt [.ref 488] h (some (.int (cT (opI ro)))) h := by
  obtain ⟨tf, hr, em, fr, nt, e12, e13, e14, e16, e17, e18, pil⟩ := id rp
  have hm := hr.m
  intro N S Q hN hS hQ
  refine z_aload_n dX9_openAt_0 rfl rfl ?_
  refine y_getI FX9_153 dX9_openAt_1 (Or.inl rfl) hm.o ?_
  refine z_eqi (y := nI (ro.length)) e16 ?_
  refine z_iconst (v := 1) dX9_openAt_4 (by decide) ?_
  refine z_isub dX9_openAt_5 ?_
  refine z_eqi (cT_pred ro.length) ?_
  refine z_istore_n dX9_openAt_6 rfl (Nat.le_of_ble_eq_true rfl) ?_
  exact r_openAt_loop hm ro pil hl hQ
theorem opV_at {h : Hp} : ∀ ro : List Nat, PIL h ro → (opI ro = 0 ∧ opV ro = -1) ∨ ∃ k x, opI ro = k + 1 ∧ k < ro.length ∧ opV ro = nI x ∧ pI h 493 k = nI x ∧ 40 ≤ x ∧ x ≤ 44 := by
  intro ro
  induction ro with
  | nil => intro _; exact Or.inl ⟨rfl, rfl⟩
  | cons x r ih =>
    intro p
    by_cases h40 : 40 ≤ x
    · exact Or.inr ⟨r.length, x, if_pos h40, Nat.lt_succ_self _, if_pos h40, p.1, h40, p.2.1⟩
    · rcases ih p.2.2 with ⟨a, b⟩ | ⟨k, y, a, b, c, d, e, f⟩
      · exact Or.inl ⟨by rw [show opI (x :: r) = opI r from if_neg h40]; exact a, by rw [show opV (x :: r) = opV r from if_neg h40]; exact b⟩
      · exact Or.inr ⟨k, y, by rw [show opI (x :: r) = opI r from if_neg h40]; exact a, Nat.lt_succ_of_lt b, by rw [show opV (x :: r) = opV r from if_neg h40]; exact c, d, e, f⟩
theorem r_openNow {s : Ms} {t w0 so i op wh : Nat} {ro : List Nat} {c : Cd} {h : Hp} {d : Nat} (rp : RP s t w0 so i ro op wh c h) (hl : ro.length ≤ 160) (hd : 1 ≤ d) : Sp d mX9_openNow [.ref 488] h (some (.int (opV ro))) h := by
  obtain ⟨tf, hr, em, fr, nt, e12, e13, e14, e16, e17, e18, pil⟩ := id rp
  have hm := hr.m
  have oa := r_openAt (d := 0) rp hl
  intro N S Q hN hS hQ
  rcases opV_at ro pil with ⟨a, b⟩ | ⟨k, x, a, b, e, f, g, y⟩
  · rw [a] at oa
    rw [b] at hQ
    refine z_aload_n dX9_openNow_0 rfl rfl ?_
    refine y_callV (as := []) CX9_openAt LX9_166 IX9_openAt VX9_openAt ⟨rfl, Nat.le_of_ble_eq_true rfl⟩ dX9_openNow_1 hm.o rfl (Nat.le_of_ble_eq_true rfl) (Nat.le_of_ble_eq_true rfl) (by omega) oa rok_i ⟨Nat.le_refl _, Nat.le_refl _, hN, hS⟩ ?_
    refine z_if_ge dX9_openNow_4 rfl (fun c => absurd c (by decide)) (fun _ => ?_)
    refine z_iconst (v := -1) dX9_openNow_7 (by decide) ?_
    refine z_goto dX9_openNow_8 rfl ?_
    refine z_iret dX9_openNow_20 ?_
    exact hQ
  · rw [a, cT_s] at oa
    rw [e] at hQ
    refine z_aload_n dX9_openNow_0 rfl rfl ?_
    refine y_callV (as := []) CX9_openAt LX9_166 IX9_openAt VX9_openAt ⟨rfl, Nat.le_of_ble_eq_true rfl⟩ dX9_openNow_1 hm.o rfl (Nat.le_of_ble_eq_true rfl) (Nat.le_of_ble_eq_true rfl) (by omega) oa rok_i ⟨Nat.le_refl _, Nat.le_refl _, hN, hS⟩ ?_
    refine z_if_ge dX9_openNow_4 rfl (fun _ => ?_) (fun c => absurd (nI_pos' (by omega)) c)
    refine z_aload_n dX9_openNow_11 rfl rfl ?_
    refine y_getR FX9_29 dX9_openNow_12 rfl hm.o hm.f_pile ?_
    refine z_aload_n dX9_openNow_15 rfl rfl ?_
    refine y_callV (as := []) CX9_openAt LX9_166 IX9_openAt VX9_openAt ⟨rfl, Nat.le_of_ble_eq_true rfl⟩ dX9_openNow_16 hm.o rfl (Nat.le_of_ble_eq_true rfl) (Nat.le_of_ble_eq_true rfl) (by omega) oa rok_i ⟨Nat.le_refl _, Nat.le_refl _, hN, hS⟩ ?_
    refine y_ialN (k) dX9_openNow_19 hm.A_pile (Nat.le_of_ble_eq_true rfl) (rfl) (by omega) ?_
    refine z_eqi f ?_
    refine z_iret dX9_openNow_20 ?_
    exact hQ
theorem r_cmp_loop {h : Hp} {d N S : Nat} {Q : Option Value → Hp → Prop} (hm : SM h) (hN : pn h ≤ N) (hS : ps h ≤ S) (hd : 1 ≤ d) : ∀ ro : List Nat, PIL h ro → ro.length ≤ 160 → Q (some (.int (bI (cpd ro = true)))) h → T d N S mX9_isCompared 7 [some (.ref 488), some (.int (cT ro.length))] [] h Q := by
  intro ro
  induction ro with
  | nil =>
    intro _ _ hQ
    have hQ : Q (some (.int 0)) h := hQ
    show T d N S mX9_isCompared 7 [some (.ref 488), some (.int (-1))] [] h Q
    refine z_iload_n dX9_isCompared_7 rfl rfl ?_
    refine z_if_lt dX9_isCompared_8 rfl (fun _ => ?_) (fun c => absurd (by decide) c)
    refine z_iload_n dX9_isCompared_30 rfl rfl ?_
    refine z_if_lt dX9_isCompared_31 rfl (fun _ => ?_) (fun c => absurd (by decide) c)
    refine z_iconst (v := 0) dX9_isCompared_51 (by decide) ?_
    refine z_iret dX9_isCompared_52 ?_
    exact hQ
  | cons x r ih =>
    intro pil hl hQ
    obtain ⟨px, x44, pr⟩ := pil
    have rx := rk_le x
    have hl : r.length + 1 ≤ 160 := hl
    rw [show (x :: r).length = r.length + 1 from rfl, cT_s]
    by_cases h4 : 4 < rk x
    · rw [show cpd (x :: r) = cpd r from if_pos h4] at hQ
      refine z_iload_n dX9_isCompared_7 rfl rfl ?_
      refine z_if_lt dX9_isCompared_8 rfl (fun c => absurd c (nI_pos (by omega))) (fun _ => ?_)
      refine z_aload_n dX9_isCompared_11 rfl rfl ?_
      refine y_getR FX9_29 dX9_isCompared_12 rfl hm.o hm.f_pile ?_
      refine z_iload_n dX9_isCompared_15 rfl rfl ?_
      refine y_ialN (r.length) dX9_isCompared_16 hm.A_pile (Nat.le_of_ble_eq_true rfl) (rfl) (by omega) ?_
      refine z_eqi px ?_
      refine y_callS (as := [_]) CX9_rank LX9_156 SX9_rank dX9_isCompared_17 rfl (Nat.le_of_ble_eq_true rfl) (Nat.le_of_ble_eq_true rfl) (by omega) (r_rank (d := 0) (o := x) x44) rok_i ⟨Nat.le_refl _, Nat.le_refl _, hN, hS⟩ ?_
      refine z_iconst (v := 4) dX9_isCompared_20 (by decide) ?_
      refine z_icmp_le dX9_isCompared_21 rfl (fun c => absurd c (fun q => absurd ((nI_leI (b := 4) (by omega) (by omega)).mp q) (by omega))) (fun _ => ?_)
      refine z_iinc dX9_isCompared_24 rfl (cT_dec r.length) (Nat.le_of_ble_eq_true rfl) ?_
      refine z_goto dX9_isCompared_27 rfl ?_
      exact ih pr (by omega) hQ
    · rw [show cpd (x :: r) = (rk x == 4) from if_neg h4] at hQ
      by_cases e4 : rk x = 4
      · rw [bI_t (by rw [e4]; rfl)] at hQ
        refine z_iload_n dX9_isCompared_7 rfl rfl ?_
        refine z_if_lt dX9_isCompared_8 rfl (fun c => absurd c (nI_pos (by omega))) (fun _ => ?_)
        refine z_aload_n dX9_isCompared_11 rfl rfl ?_
        refine y_getR FX9_29 dX9_isCompared_12 rfl hm.o hm.f_pile ?_
        refine z_iload_n dX9_isCompared_15 rfl rfl ?_
        refine y_ialN (r.length) dX9_isCompared_16 hm.A_pile (Nat.le_of_ble_eq_true rfl) (rfl) (by omega) ?_
        refine z_eqi px ?_
        refine y_callS (as := [_]) CX9_rank LX9_156 SX9_rank dX9_isCompared_17 rfl (Nat.le_of_ble_eq_true rfl) (Nat.le_of_ble_eq_true rfl) (by omega) (r_rank (d := 0) (o := x) x44) rok_i ⟨Nat.le_refl _, Nat.le_refl _, hN, hS⟩ ?_
        refine z_iconst (v := 4) dX9_isCompared_20 (by decide) ?_
        refine z_icmp_le dX9_isCompared_21 rfl (fun _ => ?_) (fun c => absurd ((nI_leI (b := 4) (by omega) (by omega)).mpr (by omega)) c)
        refine z_iload_n dX9_isCompared_30 rfl rfl ?_
        refine z_if_lt dX9_isCompared_31 rfl (fun c => absurd c (nI_pos (by omega))) (fun _ => ?_)
        refine z_aload_n dX9_isCompared_34 rfl rfl ?_
        refine y_getR FX9_29 dX9_isCompared_35 rfl hm.o hm.f_pile ?_
        refine z_iload_n dX9_isCompared_38 rfl rfl ?_
        refine y_ialN (r.length) dX9_isCompared_39 hm.A_pile (Nat.le_of_ble_eq_true rfl) (rfl) (by omega) ?_
        refine z_eqi px ?_
        refine y_callS (as := [_]) CX9_rank LX9_156 SX9_rank dX9_isCompared_40 rfl (Nat.le_of_ble_eq_true rfl) (Nat.le_of_ble_eq_true rfl) (by omega) (r_rank (d := 0) (o := x) x44) rok_i ⟨Nat.le_refl _, Nat.le_refl _, hN, hS⟩ ?_
        refine z_iconst (v := 4) dX9_isCompared_43 (by decide) ?_
        refine z_icmp_ne dX9_isCompared_44 rfl (fun c => absurd (congrArg nI e4) c) (fun _ => ?_)
        refine z_iconst (v := 1) dX9_isCompared_47 (by decide) ?_
        refine z_goto dX9_isCompared_48 rfl ?_
        refine z_iret dX9_isCompared_52 ?_
        exact hQ
      · rw [bI_f (fun q => e4 (by simpa using q))] at hQ
        refine z_iload_n dX9_isCompared_7 rfl rfl ?_
        refine z_if_lt dX9_isCompared_8 rfl (fun c => absurd c (nI_pos (by omega))) (fun _ => ?_)
        refine z_aload_n dX9_isCompared_11 rfl rfl ?_
        refine y_getR FX9_29 dX9_isCompared_12 rfl hm.o hm.f_pile ?_
        refine z_iload_n dX9_isCompared_15 rfl rfl ?_
        refine y_ialN (r.length) dX9_isCompared_16 hm.A_pile (Nat.le_of_ble_eq_true rfl) (rfl) (by omega) ?_
        refine z_eqi px ?_
        refine y_callS (as := [_]) CX9_rank LX9_156 SX9_rank dX9_isCompared_17 rfl (Nat.le_of_ble_eq_true rfl) (Nat.le_of_ble_eq_true rfl) (by omega) (r_rank (d := 0) (o := x) x44) rok_i ⟨Nat.le_refl _, Nat.le_refl _, hN, hS⟩ ?_
        refine z_iconst (v := 4) dX9_isCompared_20 (by decide) ?_
        refine z_icmp_le dX9_isCompared_21 rfl (fun _ => ?_) (fun c => absurd ((nI_leI (b := 4) (by omega) (by omega)).mpr (by omega)) c)
        refine z_iload_n dX9_isCompared_30 rfl rfl ?_
        refine z_if_lt dX9_isCompared_31 rfl (fun c => absurd c (nI_pos (by omega))) (fun _ => ?_)
        refine z_aload_n dX9_isCompared_34 rfl rfl ?_
        refine y_getR FX9_29 dX9_isCompared_35 rfl hm.o hm.f_pile ?_
        refine z_iload_n dX9_isCompared_38 rfl rfl ?_
        refine y_ialN (r.length) dX9_isCompared_39 hm.A_pile (Nat.le_of_ble_eq_true rfl) (rfl) (by omega) ?_
        refine z_eqi px ?_
        refine y_callS (as := [_]) CX9_rank LX9_156 SX9_rank dX9_isCompared_40 rfl (Nat.le_of_ble_eq_true rfl) (Nat.le_of_ble_eq_true rfl) (by omega) (r_rank (d := 0) (o := x) x44) rok_i ⟨Nat.le_refl _, Nat.le_refl _, hN, hS⟩ ?_
        refine z_iconst (v := 4) dX9_isCompared_43 (by decide) ?_
        refine z_icmp_ne dX9_isCompared_44 rfl (fun _ => ?_) (fun c => absurd c (fun q => e4 ((nI_eq (b := 4) (by omega) (by omega)).mp q)))
        refine z_iconst (v := 0) dX9_isCompared_51 (by decide) ?_
        refine z_iret dX9_isCompared_52 ?_
        exact hQ
theorem r_isCompared {s : Ms} {t w0 so i op wh : Nat} {ro : List Nat} {c : Cd} {h : Hp} {d : Nat} (rp : RP s t w0 so i ro op wh c h) (hl : ro.length ≤ 160) (hd : 1 ≤ d) : Sp d mX9_isCompared [.ref 488] h (some (.int (bI (cpd ro = true)))) h := by
  obtain ⟨tf, hr, em, fr, nt, e12, e13, e14, e16, e17, e18, pil⟩ := id rp
  have hm := hr.m
  intro N S Q hN hS hQ
  refine z_aload_n dX9_isCompared_0 rfl rfl ?_
  refine y_getI FX9_153 dX9_isCompared_1 (Or.inl rfl) hm.o ?_
  refine z_eqi (y := nI (ro.length)) e16 ?_
  refine z_iconst (v := 1) dX9_isCompared_4 (by decide) ?_
  refine z_isub dX9_isCompared_5 ?_
  refine z_eqi (cT_pred ro.length) ?_
  refine z_istore_n dX9_isCompared_6 rfl (Nat.le_of_ble_eq_true rfl) ?_
  exact r_cmp_loop hm hN hS hd ro pil hl hQ
def askP : List Nat → Prop
  | [] => False
  | x :: r => opV (x :: r) = 42 ∧ (40 ≤ x ∨ (1 ≤ rk x ∧ rk x ≤ 3))

theorem r_ask_y {s : Ms} {t w0 so i op wh : Nat} {ro : List Nat} {c : Cd} {h : Hp} {d : Nat} (rp : RP s t w0 so i ro op wh c h) (hl : ro.length ≤ 160) (ha : askP ro) (hd : 2 ≤ d) : Sp d mX9_isAskAhead [.ref 488] h (some (.int 1)) h := by
  obtain ⟨tf, hr, em, fr, nt, e12, e13, e14, e16, e17, e18, pil⟩ := id rp
  have hm := hr.m
  have on := r_openNow (d := 1) rp hl (Nat.le_refl _)
  cases ro with
  | nil => exact absurd ha id
  | cons x r =>
    obtain ⟨px, x44, pr⟩ := pil
    have e16 : pI h 488 16 = nI (r.length + 1) := e16
    have hl : r.length + 1 ≤ 160 := hl
    obtain ⟨a1, a2⟩ := ha
    rw [a1] at on
    intro N S Q hN hS hQ
    by_cases h40 : 40 ≤ x
    · skip
      refine z_aload_n dX9_isAskAhead_0 rfl rfl ?_
      refine y_callV (as := []) CX9_openNow LX9_170 IX9_openNow VX9_openNow ⟨rfl, Nat.le_of_ble_eq_true rfl⟩ dX9_isAskAhead_1 hm.o rfl (Nat.le_of_ble_eq_true rfl) (Nat.le_of_ble_eq_true rfl) (by omega) on rok_i ⟨Nat.le_refl _, Nat.le_refl _, hN, hS⟩ ?_
      refine z_bipush (v := 42) dX9_isAskAhead_4 (by decide) ?_
      refine z_icmp_ne dX9_isAskAhead_6 rfl (fun c => absurd (rfl) c) (fun _ => ?_)
      refine z_aload_n dX9_isAskAhead_9 rfl rfl ?_
      refine y_getR FX9_29 dX9_isAskAhead_10 rfl hm.o hm.f_pile ?_
      refine z_aload_n dX9_isAskAhead_13 rfl rfl ?_
      refine y_getI FX9_153 dX9_isAskAhead_14 (Or.inl rfl) hm.o ?_
      refine z_eqi (y := nI (r.length + 1)) e16 ?_
      refine z_iconst (v := 1) dX9_isAskAhead_17 (by decide) ?_
      refine z_isub dX9_isAskAhead_18 ?_
      refine z_eqi (nI_pred r.length) ?_
      refine y_ialN (r.length) dX9_isAskAhead_19 hm.A_pile (Nat.le_of_ble_eq_true rfl) (rfl) (by omega) ?_
      refine z_eqi px ?_
      refine z_bipush (v := 40) dX9_isAskAhead_20 (by decide) ?_
      refine z_icmp_ge dX9_isAskAhead_22 rfl (fun _ => ?_) (fun c => absurd ((nI_leI (a := 40) (by omega) (by omega)).mpr h40) c)
      refine z_iconst (v := 1) dX9_isAskAhead_47 (by decide) ?_
      refine z_goto dX9_isAskAhead_48 rfl ?_
      refine z_iret dX9_isAskAhead_52 ?_
      exact hQ
    · have a3 := a2.resolve_left h40
      refine z_aload_n dX9_isAskAhead_0 rfl rfl ?_
      refine y_callV (as := []) CX9_openNow LX9_170 IX9_openNow VX9_openNow ⟨rfl, Nat.le_of_ble_eq_true rfl⟩ dX9_isAskAhead_1 hm.o rfl (Nat.le_of_ble_eq_true rfl) (Nat.le_of_ble_eq_true rfl) (by omega) on rok_i ⟨Nat.le_refl _, Nat.le_refl _, hN, hS⟩ ?_
      refine z_bipush (v := 42) dX9_isAskAhead_4 (by decide) ?_
      refine z_icmp_ne dX9_isAskAhead_6 rfl (fun c => absurd (rfl) c) (fun _ => ?_)
      refine z_aload_n dX9_isAskAhead_9 rfl rfl ?_
      refine y_getR FX9_29 dX9_isAskAhead_10 rfl hm.o hm.f_pile ?_
      refine z_aload_n dX9_isAskAhead_13 rfl rfl ?_
      refine y_getI FX9_153 dX9_isAskAhead_14 (Or.inl rfl) hm.o ?_
      refine z_eqi (y := nI (r.length + 1)) e16 ?_
      refine z_iconst (v := 1) dX9_isAskAhead_17 (by decide) ?_
      refine z_isub dX9_isAskAhead_18 ?_
      refine z_eqi (nI_pred r.length) ?_
      refine y_ialN (r.length) dX9_isAskAhead_19 hm.A_pile (Nat.le_of_ble_eq_true rfl) (rfl) (by omega) ?_
      refine z_eqi px ?_
      refine z_bipush (v := 40) dX9_isAskAhead_20 (by decide) ?_
      refine z_icmp_ge dX9_isAskAhead_22 rfl (fun c => absurd c (fun q => absurd ((nI_leI (a := 40) (by omega) (by omega)).mp q) (by omega))) (fun _ => ?_)
      refine z_aload_n dX9_isAskAhead_25 rfl rfl ?_
      refine y_getR FX9_29 dX9_isAskAhead_26 rfl hm.o hm.f_pile ?_
      refine z_aload_n dX9_isAskAhead_29 rfl rfl ?_
      refine y_getI FX9_153 dX9_isAskAhead_30 (Or.inl rfl) hm.o ?_
      refine z_eqi (y := nI (r.length + 1)) e16 ?_
      refine z_iconst (v := 1) dX9_isAskAhead_33 (by decide) ?_
      refine z_isub dX9_isAskAhead_34 ?_
      refine z_eqi (nI_pred r.length) ?_
      refine y_ialN (r.length) dX9_isAskAhead_35 hm.A_pile (Nat.le_of_ble_eq_true rfl) (rfl) (by omega) ?_
      refine z_eqi px ?_
      refine y_callS (as := [_]) CX9_rank LX9_156 SX9_rank dX9_isAskAhead_36 rfl (Nat.le_of_ble_eq_true rfl) (Nat.le_of_ble_eq_true rfl) (by omega) (r_rank (d := 0) (o := x) x44) rok_i ⟨Nat.le_refl _, Nat.le_refl _, hN, hS⟩ ?_
      refine z_iconst (v := 1) dX9_isAskAhead_39 (by decide) ?_
      refine z_iconst (v := 3) dX9_isAskAhead_40 (by decide) ?_
      refine y_callS (as := [_, _, _]) CX9_isIn LX9_63 SX9_isIn dX9_isAskAhead_41 rfl (Nat.le_of_ble_eq_true rfl) (Nat.le_of_ble_eq_true rfl) (by omega) (r_isIn _ _ _) (rok_z bI_01) ⟨Nat.le_refl _, Nat.le_refl _, hN, hS⟩ ?_
      refine z_if_eq dX9_isAskAhead_44 rfl (fun c => absurd c (bI_ne0.mpr ⟨(nI_leI (a := 1) (by omega) (by omega)).mpr a3.1, (nI_leI (b := 3) (by omega) (by omega)).mpr a3.2⟩)) (fun _ => ?_)
      refine z_iconst (v := 1) dX9_isAskAhead_47 (by decide) ?_
      refine z_goto dX9_isAskAhead_48 rfl ?_
      refine z_iret dX9_isAskAhead_52 ?_
      exact hQ
theorem r_ask_n {s : Ms} {t w0 so i op wh : Nat} {ro : List Nat} {c : Cd} {h : Hp} {d : Nat} (rp : RP s t w0 so i ro op wh c h) (hl : ro.length ≤ 160) (ha : ¬ askP ro) (hd : 2 ≤ d) : Sp d mX9_isAskAhead [.ref 488] h (some (.int 0)) h := by
  obtain ⟨tf, hr, em, fr, nt, e12, e13, e14, e16, e17, e18, pil⟩ := id rp
  have hm := hr.m
  have on := r_openNow (d := 1) rp hl (Nat.le_refl _)
  intro N S Q hN hS hQ
  by_cases h42 : opV ro = 42
  · cases ro with
    | nil => exact absurd h42 (by decide)
    | cons x r =>
      obtain ⟨px, x44, pr⟩ := pil
      have e16 : pI h 488 16 = nI (r.length + 1) := e16
      have hl : r.length + 1 ≤ 160 := hl
      have rx := rk_le x
      rw [h42] at on
      have h40 : ¬ 40 ≤ x := fun q => ha ⟨h42, Or.inl q⟩
      have h13 : ¬ (1 ≤ rk x ∧ rk x ≤ 3) := fun q => ha ⟨h42, Or.inr q⟩
      refine z_aload_n dX9_isAskAhead_0 rfl rfl ?_
      refine y_callV (as := []) CX9_openNow LX9_170 IX9_openNow VX9_openNow ⟨rfl, Nat.le_of_ble_eq_true rfl⟩ dX9_isAskAhead_1 hm.o rfl (Nat.le_of_ble_eq_true rfl) (Nat.le_of_ble_eq_true rfl) (by omega) on rok_i ⟨Nat.le_refl _, Nat.le_refl _, hN, hS⟩ ?_
      refine z_bipush (v := 42) dX9_isAskAhead_4 (by decide) ?_
      refine z_icmp_ne dX9_isAskAhead_6 rfl (fun c => absurd (rfl) c) (fun _ => ?_)
      refine z_aload_n dX9_isAskAhead_9 rfl rfl ?_
      refine y_getR FX9_29 dX9_isAskAhead_10 rfl hm.o hm.f_pile ?_
      refine z_aload_n dX9_isAskAhead_13 rfl rfl ?_
      refine y_getI FX9_153 dX9_isAskAhead_14 (Or.inl rfl) hm.o ?_
      refine z_eqi (y := nI (r.length + 1)) e16 ?_
      refine z_iconst (v := 1) dX9_isAskAhead_17 (by decide) ?_
      refine z_isub dX9_isAskAhead_18 ?_
      refine z_eqi (nI_pred r.length) ?_
      refine y_ialN (r.length) dX9_isAskAhead_19 hm.A_pile (Nat.le_of_ble_eq_true rfl) (rfl) (by omega) ?_
      refine z_eqi px ?_
      refine z_bipush (v := 40) dX9_isAskAhead_20 (by decide) ?_
      refine z_icmp_ge dX9_isAskAhead_22 rfl (fun c => absurd c (fun q => absurd ((nI_leI (a := 40) (by omega) (by omega)).mp q) (by omega))) (fun _ => ?_)
      refine z_aload_n dX9_isAskAhead_25 rfl rfl ?_
      refine y_getR FX9_29 dX9_isAskAhead_26 rfl hm.o hm.f_pile ?_
      refine z_aload_n dX9_isAskAhead_29 rfl rfl ?_
      refine y_getI FX9_153 dX9_isAskAhead_30 (Or.inl rfl) hm.o ?_
      refine z_eqi (y := nI (r.length + 1)) e16 ?_
      refine z_iconst (v := 1) dX9_isAskAhead_33 (by decide) ?_
      refine z_isub dX9_isAskAhead_34 ?_
      refine z_eqi (nI_pred r.length) ?_
      refine y_ialN (r.length) dX9_isAskAhead_35 hm.A_pile (Nat.le_of_ble_eq_true rfl) (rfl) (by omega) ?_
      refine z_eqi px ?_
      refine y_callS (as := [_]) CX9_rank LX9_156 SX9_rank dX9_isAskAhead_36 rfl (Nat.le_of_ble_eq_true rfl) (Nat.le_of_ble_eq_true rfl) (by omega) (r_rank (d := 0) (o := x) x44) rok_i ⟨Nat.le_refl _, Nat.le_refl _, hN, hS⟩ ?_
      refine z_iconst (v := 1) dX9_isAskAhead_39 (by decide) ?_
      refine z_iconst (v := 3) dX9_isAskAhead_40 (by decide) ?_
      refine y_callS (as := [_, _, _]) CX9_isIn LX9_63 SX9_isIn dX9_isAskAhead_41 rfl (Nat.le_of_ble_eq_true rfl) (Nat.le_of_ble_eq_true rfl) (by omega) (r_isIn _ _ _) (rok_z bI_01) ⟨Nat.le_refl _, Nat.le_refl _, hN, hS⟩ ?_
      refine z_if_eq dX9_isAskAhead_44 rfl (fun _ => ?_) (fun c => absurd (bI_eq0.mpr (fun q => h13 ⟨(nI_leI (a := 1) (by omega) (by omega)).mp q.1, (nI_leI (b := 3) (by omega) (by omega)).mp q.2⟩)) c)
      refine z_iconst (v := 0) dX9_isAskAhead_51 (by decide) ?_
      refine z_iret dX9_isAskAhead_52 ?_
      exact hQ
  · skip
    refine z_aload_n dX9_isAskAhead_0 rfl rfl ?_
    refine y_callV (as := []) CX9_openNow LX9_170 IX9_openNow VX9_openNow ⟨rfl, Nat.le_of_ble_eq_true rfl⟩ dX9_isAskAhead_1 hm.o rfl (Nat.le_of_ble_eq_true rfl) (Nat.le_of_ble_eq_true rfl) (by omega) on rok_i ⟨Nat.le_refl _, Nat.le_refl _, hN, hS⟩ ?_
    refine z_bipush (v := 42) dX9_isAskAhead_4 (by decide) ?_
    refine z_icmp_ne dX9_isAskAhead_6 rfl (fun _ => ?_) (fun c => absurd c (h42))
    refine z_iconst (v := 0) dX9_isAskAhead_51 (by decide) ?_
    refine z_iret dX9_isAskAhead_52 ?_
    exact hQ

theorem r_push {s : Ms} {t w0 so i op wh : Nat} {ro : List Nat} {c : Cd} {h : Hp} {d : Nat} {x op2 wh2 : Nat} (rp : RP s t w0 so i ro op wh c h) (hx : x ≤ 44) : RP s t w0 so i (x :: ro) op2 wh2 c (sI (sI (sI (sI h 488 17 (nI op2)) 493 ro.length (nI x)) 488 16 (nI (ro.length + 1))) 488 18 (nI wh2)) := by
  obtain ⟨tf, hr, em, fr, nt, e12, e13, e14, e16, e17, e18, pil⟩ := id rp
  have hm := hr.m
  refine rp.fld (fun tf hr => rm_f (rm_f (rm_p (rm_f hr (by omega)) (by omega)) (by omega)) (by omega)) (fun j q1 q2 => by rw [pI_sI, if_pos rfl, if_neg (by omega), pI_sI, if_pos rfl, if_neg (by omega), pI_sI_ne (by omega), pI_sI, if_pos rfl, if_neg (by omega)]) rfl ?_ ?_ ?_ ⟨?_, hx, ?_⟩
  · rw [pI_sI, if_pos rfl, if_neg (by omega), pI_sI, if_pos rfl, if_pos rfl]; rfl
  · rw [pI_sI, if_pos rfl, if_neg (by omega), pI_sI, if_pos rfl, if_neg (by omega), pI_sI_ne (by omega), pI_sI, if_pos rfl, if_pos rfl]
  · rw [pI_sI, if_pos rfl, if_pos rfl]
  · rw [pI_sI_ne (by omega), pI_sI_ne (by omega), pI_sI, if_pos rfl, if_pos rfl]
  · refine PIL.fr (h := sI (sI h 488 17 (nI op2)) 493 ro.length (nI x)) ?_ _ (PIL.up _ (Nat.le_refl _) (PIL.fr ?_ _ pil))
    · rw [pI_sI_ne (by omega), pI_sI_ne (by omega)]
    · rw [pI_sI_ne (by omega)]
theorem RP.keep18 {s : Ms} {t w0 so i op wh : Nat} {ro : List Nat} {c : Cd} {h : Hp} {d : Nat} (rp : RP s t w0 so i ro op wh c h) (e : h = sI h 488 18 (nI wh)) : True := trivial
theorem r_opened8 {s : Ms} {t w0 so i op wh : Nat} {ro : List Nat} {c : Cd} {h : Hp} {d : Nat} {x : Nat} (rp : RP s t w0 so i ro op wh c h) (h8 : op = 8) : Sp d mX9_opened [.ref 488, .int (nI x)] h (some (.int 3)) h := by
  obtain ⟨tf, hr, em, fr, nt, e12, e13, e14, e16, e17, e18, pil⟩ := id rp
  have hm := hr.m
  intro N S Q hN hS hQ
  refine z_aload_n dX9_opened_0 rfl rfl ?_
  refine y_getI FX9_163 dX9_opened_1 (Or.inl rfl) hm.o ?_
  refine z_eqi (y := nI (op)) e17 ?_
  refine z_bipush (v := 8) dX9_opened_4 (by decide) ?_
  refine z_icmp_ne dX9_opened_6 rfl (fun c => absurd (congrArg nI h8) c) (fun _ => ?_)
  refine z_iconst (v := 3) dX9_opened_9 (by decide) ?_
  refine z_iret dX9_opened_10 ?_
  exact hQ

