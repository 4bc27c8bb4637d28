/-! the book and the ledger of the class; the image of the reference (walks by program: wip/whole/gen35.py) -/
theorem C_book {h : Hp} {d : Nat} {a : Fl} {tx : Nat → Nat → Prop} (h8 : IO h 8 8) (hx0 : pR h 8 0 = some 9) (hs : MkS h 9) (hv : MV h 9 a tx) (hb : IB a) (i w : Int32) (hd : 2 ≤ d) : Sp d mX8_book [.ref 8, .int i, .int w] h (some (.int (mBook a i w))) h := by
  have hC : RwC h 15 2 30 (a 12) := hv.1.2.2.2.2.2.2.2.1
  have h30 := hC.2.2.2.1
  intro N S Q hN hS hQ
  unfold mBook at hQ
  by_cases hc : i = -1
  · subst hc
    rw [if_pos rfl] at hQ
    refine z_aload_n dX8_book_0 rfl rfl ?_
    refine y_getR FX8_10 dX8_book_1 rfl h8 hx0 ?_
    refine y_getR FX8_79 dX8_book_4 rfl hs.o hs.f0 ?_
    refine z_astore_n dX8_book_7 rfl (Nat.le_of_ble_eq_true rfl) ?_
    refine z_iload_n dX8_book_8 rfl rfl ?_
    refine z_iconst (v := -1) dX8_book_9 (by decide) ?_
    refine z_icmp_ne dX8_book_10 rfl (fun c => absurd (rfl) c) (fun _ => ?_)
    refine z_aload_n dX8_book_13 rfl rfl ?_
    refine y_getR FX8_266 dX8_book_14 rfl hs.now.1 hs.now.2.2.2.2.2.1 ?_
    refine y_getI FX8_130 dX8_book_17 (Or.inl rfl) hs.now.2.2.2.2.2.2.1 ?_
    refine z_eqi (y := nI (a 12)) hC.2.2.1 ?_
    refine z_iret dX8_book_20 ?_
    exact hQ
  · rw [if_neg hc] at hQ
    by_cases hin : vin i (a 12)
    · obtain ⟨j, hj, rfl⟩ := vin_of (by omega) hin
      by_cases hw : inr w 0 3
      · obtain ⟨w', hw', rfl⟩ := inr_of (n := 3) (by omega) hw
        rw [if_pos ⟨hin, hw⟩, nn_nI (by omega), nn_nI (by omega)] at hQ
        refine z_aload_n dX8_book_0 rfl rfl ?_
        refine y_getR FX8_10 dX8_book_1 rfl h8 hx0 ?_
        refine y_getR FX8_79 dX8_book_4 rfl hs.o hs.f0 ?_
        refine z_astore_n dX8_book_7 rfl (Nat.le_of_ble_eq_true rfl) ?_
        refine z_iload_n dX8_book_8 rfl rfl ?_
        refine z_iconst (v := -1) dX8_book_9 (by decide) ?_
        refine z_icmp_ne dX8_book_10 rfl (fun _ => ?_) (fun c => absurd c (hc))
        refine z_aload_n dX8_book_21 rfl rfl ?_
        refine y_getR FX8_266 dX8_book_22 rfl hs.now.1 hs.now.2.2.2.2.2.1 ?_
        refine z_iload_n dX8_book_25 rfl rfl ?_
        refine y_callV (as := [_]) CX4_has LX8_140 IX4_has VX4_has ⟨rfl, Nat.le_of_ble_eq_true rfl⟩ dX8_book_26 hs.now.2.2.2.2.2.2.1 rfl (Nat.le_of_ble_eq_true rfl) (Nat.le_of_ble_eq_true rfl) (by omega) (s_has (k := 15) (w := 2) (ms := 30) (by exact hs.now.2.2.2.2.2.2) hC _) (rok_z bI_01) ⟨Nat.le_refl _, Nat.le_refl _, hN, hS⟩ ?_
        refine z_if_eq dX8_book_29 rfl (fun c => absurd c (bI_ne0.mpr hin)) (fun _ => ?_)
        refine z_iload_n dX8_book_32 rfl rfl ?_
        refine z_iconst (v := 0) dX8_book_33 (by decide) ?_
        refine z_iconst (v := 3) dX8_book_34 (by decide) ?_
        refine y_callS (as := [_, _, _]) CX8_within LX8_61 SX8_within dX8_book_35 rfl (Nat.le_of_ble_eq_true rfl) (Nat.le_of_ble_eq_true rfl) (by omega) (s_within _ _ _) (rok_z bI_01) ⟨Nat.le_refl _, Nat.le_refl _, hN, hS⟩ ?_
        refine z_if_eq dX8_book_38 rfl (fun c => absurd c (bI_ne0.mpr hw)) (fun _ => ?_)
        refine z_aload_n dX8_book_41 rfl rfl ?_
        refine z_iload_n dX8_book_42 rfl rfl ?_
        refine z_iload_n dX8_book_43 rfl rfl ?_
        refine y_callV (as := [_, _]) CX7_written LX8_269 IX7_written VX7_written ⟨rfl, Nat.le_of_ble_eq_true rfl⟩ dX8_book_44 hs.now.1 rfl (Nat.le_of_ble_eq_true rfl) (Nat.le_of_ble_eq_true rfl) (by omega) (c_writtenN (d := 1) (i := j) (w := w') (by exact hs) hv hb hj (by omega) (Nat.le_refl _)) rok_i ⟨Nat.le_refl _, Nat.le_refl _, hN, hS⟩ ?_
        refine z_goto dX8_book_47 rfl ?_
        refine z_iret dX8_book_52 ?_
        exact hQ
      · rw [if_neg (fun q => hw q.2)] at hQ
        refine z_aload_n dX8_book_0 rfl rfl ?_
        refine y_getR FX8_10 dX8_book_1 rfl h8 hx0 ?_
        refine y_getR FX8_79 dX8_book_4 rfl hs.o hs.f0 ?_
        refine z_astore_n dX8_book_7 rfl (Nat.le_of_ble_eq_true rfl) ?_
        refine z_iload_n dX8_book_8 rfl rfl ?_
        refine z_iconst (v := -1) dX8_book_9 (by decide) ?_
        refine z_icmp_ne dX8_book_10 rfl (fun _ => ?_) (fun c => absurd c (hc))
        refine z_aload_n dX8_book_21 rfl rfl ?_
        refine y_getR FX8_266 dX8_book_22 rfl hs.now.1 hs.now.2.2.2.2.2.1 ?_
        refine z_iload_n dX8_book_25 rfl rfl ?_
        refine y_callV (as := [_]) CX4_has LX8_140 IX4_has VX4_has ⟨rfl, Nat.le_of_ble_eq_true rfl⟩ dX8_book_26 hs.now.2.2.2.2.2.2.1 rfl (Nat.le_of_ble_eq_true rfl) (Nat.le_of_ble_eq_true rfl) (by omega) (s_has (k := 15) (w := 2) (ms := 30) (by exact hs.now.2.2.2.2.2.2) hC _) (rok_z bI_01) ⟨Nat.le_refl _, Nat.le_refl _, hN, hS⟩ ?_
        refine z_if_eq dX8_book_29 rfl (fun c => absurd c (bI_ne0.mpr hin)) (fun _ => ?_)
        refine z_iload_n dX8_book_32 rfl rfl ?_
        refine z_iconst (v := 0) dX8_book_33 (by decide) ?_
        refine z_iconst (v := 3) dX8_book_34 (by decide) ?_
        refine y_callS (as := [_, _, _]) CX8_within LX8_61 SX8_within dX8_book_35 rfl (Nat.le_of_ble_eq_true rfl) (Nat.le_of_ble_eq_true rfl) (by omega) (s_within _ _ _) (rok_z bI_01) ⟨Nat.le_refl _, Nat.le_refl _, hN, hS⟩ ?_
        refine z_if_eq dX8_book_38 rfl (fun _ => ?_) (fun c => absurd (bI_eq0.mpr hw) c)
        refine z_bipush (v := -2) dX8_book_50 (by decide) ?_
        refine z_iret dX8_book_52 ?_
        exact hQ
    · rw [if_neg (fun q => hin q.1)] at hQ
      refine z_aload_n dX8_book_0 rfl rfl ?_
      refine y_getR FX8_10 dX8_book_1 rfl h8 hx0 ?_
      refine y_getR FX8_79 dX8_book_4 rfl hs.o hs.f0 ?_
      refine z_astore_n dX8_book_7 rfl (Nat.le_of_ble_eq_true rfl) ?_
      refine z_iload_n dX8_book_8 rfl rfl ?_
      refine z_iconst (v := -1) dX8_book_9 (by decide) ?_
      refine z_icmp_ne dX8_book_10 rfl (fun _ => ?_) (fun c => absurd c (hc))
      refine z_aload_n dX8_book_21 rfl rfl ?_
      refine y_getR FX8_266 dX8_book_22 rfl hs.now.1 hs.now.2.2.2.2.2.1 ?_
      refine z_iload_n dX8_book_25 rfl rfl ?_
      refine y_callV (as := [_]) CX4_has LX8_140 IX4_has VX4_has ⟨rfl, Nat.le_of_ble_eq_true rfl⟩ dX8_book_26 hs.now.2.2.2.2.2.2.1 rfl (Nat.le_of_ble_eq_true rfl) (Nat.le_of_ble_eq_true rfl) (by omega) (s_has (k := 15) (w := 2) (ms := 30) (by exact hs.now.2.2.2.2.2.2) hC _) (rok_z bI_01) ⟨Nat.le_refl _, Nat.le_refl _, hN, hS⟩ ?_
      refine z_if_eq dX8_book_29 rfl (fun _ => ?_) (fun c => absurd (bI_eq0.mpr hin) c)
      refine z_bipush (v := -2) dX8_book_50 (by decide) ?_
      refine z_iret dX8_book_52 ?_
      exact hQ

theorem c_ledger_loop {h : Hp} {d N S n w : Nat} {a : Fl} {tx : Nat → Nat → Prop} {f : Nat → Nat} {Q : Option Value → Hp → Prop} (h8 : IO h 8 8) (hx0 : pR h 8 0 = some 9) (hs : MkS h 9) (hv : MV h 9 a tx) (hb : IB a) (hn : a 12 = n) (hw : w ≤ 2) (hf : f = fun i => if bkF a i 2 = w then bkF a i 3 else 0) (hd : 2 ≤ d) (hN : pn h ≤ N) (hS : ps h ≤ S) (hQ : Q (some (.int (nI (sumF f n)))) h) : ∀ r i : Nat, i + r = n → T d N S mX8_ledger 16 [some (.ref 8), some (.int (nI w)), some (.int (nI (sumF f i))), some (.int (nI i))] [] h Q := by
  intro r
  induction r with
  | zero =>
    intro i hi
    have e : i = n := by omega
    rw [e]
    have hC : RwC h 15 2 30 n := by rw [← hn]; exact hv.1.2.2.2.2.2.2.2.1
    have h30 := hC.2.2.2.1
    refine z_iload_n dX8_ledger_16 rfl rfl ?_
    refine z_aload_n dX8_ledger_17 rfl rfl ?_
    refine y_getR FX8_10 dX8_ledger_18 rfl h8 hx0 ?_
    refine y_getR FX8_79 dX8_ledger_21 rfl hs.o hs.f0 ?_
    refine y_getR FX8_266 dX8_ledger_24 rfl hs.now.1 hs.now.2.2.2.2.2.1 ?_
    refine y_getI FX8_130 dX8_ledger_27 (Or.inl rfl) hs.now.2.2.2.2.2.2.1 ?_
    refine z_eqi (y := nI (n)) hC.2.2.1 ?_
    refine z_icmp_ge dX8_ledger_30 rfl (fun _ => ?_) (fun c => absurd ((nI_leI (by omega) (by omega)).mpr (Nat.le_refl _)) c)
    refine z_iload_n dX8_ledger_74 rfl rfl ?_
    refine z_iret dX8_ledger_75 ?_
    exact hQ
  | succ r ih =>
    intro i hi
    have hC : RwC h 15 2 30 n := by rw [← hn]; exact hv.1.2.2.2.2.2.2.2.1
    have h30 := hC.2.2.2.1
    have hlt := bkF_lt hb (show i < a 12 by omega)
    by_cases q : bkF a i 2 = w
    · have en : sumF f (i + 1) = sumF f i + bkF a i 3 := by rw [sumF_s, hf]; simp only [q]; rfl
      refine z_iload_n dX8_ledger_16 rfl rfl ?_
      refine z_aload_n dX8_ledger_17 rfl rfl ?_
      refine y_getR FX8_10 dX8_ledger_18 rfl h8 hx0 ?_
      refine y_getR FX8_79 dX8_ledger_21 rfl hs.o hs.f0 ?_
      refine y_getR FX8_266 dX8_ledger_24 rfl hs.now.1 hs.now.2.2.2.2.2.1 ?_
      refine y_getI FX8_130 dX8_ledger_27 (Or.inl rfl) hs.now.2.2.2.2.2.2.1 ?_
      refine z_eqi (y := nI (n)) hC.2.2.1 ?_
      refine z_icmp_ge dX8_ledger_30 rfl (fun c => absurd c (fun q => absurd ((nI_leI (by omega) (by omega)).mp q) (by omega))) (fun _ => ?_)
      refine z_iload_n dX8_ledger_33 rfl rfl ?_
      refine z_aload_n dX8_ledger_34 rfl rfl ?_
      refine y_getR FX8_10 dX8_ledger_35 rfl h8 hx0 ?_
      refine y_getR FX8_79 dX8_ledger_38 rfl hs.o hs.f0 ?_
      refine z_iload_n dX8_ledger_41 rfl rfl ?_
      refine z_iconst (v := 2) dX8_ledger_42 (by decide) ?_
      refine y_callV (as := [_, _]) CX7_written LX8_269 IX7_written VX7_written ⟨rfl, Nat.le_of_ble_eq_true rfl⟩ dX8_ledger_43 hs.now.1 rfl (Nat.le_of_ble_eq_true rfl) (Nat.le_of_ble_eq_true rfl) (by omega) (c_writtenN (d := 1) (i := i) (w := 2) (by exact hs) hv hb (by omega) (by omega) (Nat.le_refl _)) rok_i ⟨Nat.le_refl _, Nat.le_refl _, hN, hS⟩ ?_
      refine z_iload_n dX8_ledger_46 rfl rfl ?_
      refine z_icmp_ne dX8_ledger_47 rfl (fun c => absurd (by rw [q]) c) (fun _ => ?_)
      refine z_aload_n dX8_ledger_50 rfl rfl ?_
      refine y_getR FX8_10 dX8_ledger_51 rfl h8 hx0 ?_
      refine y_getR FX8_79 dX8_ledger_54 rfl hs.o hs.f0 ?_
      refine z_iload_n dX8_ledger_57 rfl rfl ?_
      refine z_iconst (v := 3) dX8_ledger_58 (by decide) ?_
      refine y_callV (as := [_, _]) CX7_written LX8_269 IX7_written VX7_written ⟨rfl, Nat.le_of_ble_eq_true rfl⟩ dX8_ledger_59 hs.now.1 rfl (Nat.le_of_ble_eq_true rfl) (Nat.le_of_ble_eq_true rfl) (by omega) (c_writtenN (d := 1) (i := i) (w := 3) (by exact hs) hv hb (by omega) (by omega) (Nat.le_refl _)) rok_i ⟨Nat.le_refl _, Nat.le_refl _, hN, hS⟩ ?_
      refine z_goto dX8_ledger_62 rfl ?_
      refine z_iadd dX8_ledger_66 ?_
      refine z_eqi (nI_add _ _) ?_
      refine z_istore_n dX8_ledger_67 rfl (Nat.le_of_ble_eq_true rfl) ?_
      refine z_iinc dX8_ledger_68 rfl (nI_1 _) (Nat.le_of_ble_eq_true rfl) ?_
      refine z_goto dX8_ledger_71 rfl ?_
      have hh := ih (i + 1) (by omega)
      rw [en] at hh
      exact hh
    · have en : sumF f (i + 1) = sumF f i + 0 := by rw [sumF_s, hf]; simp only [q]; rfl
      refine z_iload_n dX8_ledger_16 rfl rfl ?_
      refine z_aload_n dX8_ledger_17 rfl rfl ?_
      refine y_getR FX8_10 dX8_ledger_18 rfl h8 hx0 ?_
      refine y_getR FX8_79 dX8_ledger_21 rfl hs.o hs.f0 ?_
      refine y_getR FX8_266 dX8_ledger_24 rfl hs.now.1 hs.now.2.2.2.2.2.1 ?_
      refine y_getI FX8_130 dX8_ledger_27 (Or.inl rfl) hs.now.2.2.2.2.2.2.1 ?_
      refine z_eqi (y := nI (n)) hC.2.2.1 ?_
      refine z_icmp_ge dX8_ledger_30 rfl (fun c => absurd c (fun q => absurd ((nI_leI (by omega) (by omega)).mp q) (by omega))) (fun _ => ?_)
      refine z_iload_n dX8_ledger_33 rfl rfl ?_
      refine z_aload_n dX8_ledger_34 rfl rfl ?_
      refine y_getR FX8_10 dX8_ledger_35 rfl h8 hx0 ?_
      refine y_getR FX8_79 dX8_ledger_38 rfl hs.o hs.f0 ?_
      refine z_iload_n dX8_ledger_41 rfl rfl ?_
      refine z_iconst (v := 2) dX8_ledger_42 (by decide) ?_
      refine y_callV (as := [_, _]) CX7_written LX8_269 IX7_written VX7_written ⟨rfl, Nat.le_of_ble_eq_true rfl⟩ dX8_ledger_43 hs.now.1 rfl (Nat.le_of_ble_eq_true rfl) (Nat.le_of_ble_eq_true rfl) (by omega) (c_writtenN (d := 1) (i := i) (w := 2) (by exact hs) hv hb (by omega) (by omega) (Nat.le_refl _)) rok_i ⟨Nat.le_refl _, Nat.le_refl _, hN, hS⟩ ?_
      refine z_iload_n dX8_ledger_46 rfl rfl ?_
      refine z_icmp_ne dX8_ledger_47 rfl (fun _ => ?_) (fun c => absurd c (fun c => q ((nI_eq (by omega) (by omega)).mp c)))
      refine z_iconst (v := 0) dX8_ledger_65 (by decide) ?_
      refine z_iadd dX8_ledger_66 ?_
      refine z_eqi (nI_add _ 0) ?_
      refine z_istore_n dX8_ledger_67 rfl (Nat.le_of_ble_eq_true rfl) ?_
      refine z_iinc dX8_ledger_68 rfl (nI_1 _) (Nat.le_of_ble_eq_true rfl) ?_
      refine z_goto dX8_ledger_71 rfl ?_
      have hh := ih (i + 1) (by omega)
      rw [en] at hh
      exact hh

theorem C_ledger {h : Hp} {d : Nat} {a : Fl} {tx : Nat → Nat → Prop} (h8 : IO h 8 8) (hx0 : pR h 8 0 = some 9) (hs : MkS h 9) (hv : MV h 9 a tx) (hb : IB a) (w : Int32) (hd : 2 ≤ d) : Sp d mX8_ledger [.ref 8, .int w] h (some (.int (mLedger a w))) h := by
  intro N S Q hN hS hQ
  unfold mLedger at hQ
  by_cases hc : inr w 0 2
  · obtain ⟨w', hw', rfl⟩ := inr_of (n := 2) (by omega) hc
    rw [if_pos hc, nn_nI (by omega)] at hQ
    refine z_iload_n dX8_ledger_0 rfl rfl ?_
    refine z_iconst (v := 0) dX8_ledger_1 (by decide) ?_
    refine z_iconst (v := 2) dX8_ledger_2 (by decide) ?_
    refine y_callS (as := [_, _, _]) CX8_within LX8_61 SX8_within dX8_ledger_3 rfl (Nat.le_of_ble_eq_true rfl) (Nat.le_of_ble_eq_true rfl) (by omega) (s_within _ _ _) (rok_z bI_01) ⟨Nat.le_refl _, Nat.le_refl _, hN, hS⟩ ?_
    refine z_if_ne dX8_ledger_6 rfl (fun _ => ?_) (fun c => absurd c (bI_ne0.mpr hc))
    refine z_iconst (v := 0) dX8_ledger_12 (by decide) ?_
    refine z_istore_n dX8_ledger_13 rfl (Nat.le_of_ble_eq_true rfl) ?_
    refine z_iconst (v := 0) dX8_ledger_14 (by decide) ?_
    refine z_istore_n dX8_ledger_15 rfl (Nat.le_of_ble_eq_true rfl) ?_
    exact c_ledger_loop h8 hx0 hs hv hb rfl hw' rfl hd hN hS hQ (a 12) 0 (by omega)
  · rw [if_neg hc] at hQ
    refine z_iload_n dX8_ledger_0 rfl rfl ?_
    refine z_iconst (v := 0) dX8_ledger_1 (by decide) ?_
    refine z_iconst (v := 2) dX8_ledger_2 (by decide) ?_
    refine y_callS (as := [_, _, _]) CX8_within LX8_61 SX8_within dX8_ledger_3 rfl (Nat.le_of_ble_eq_true rfl) (Nat.le_of_ble_eq_true rfl) (by omega) (s_within _ _ _) (rok_z bI_01) ⟨Nat.le_refl _, Nat.le_refl _, hN, hS⟩ ?_
    refine z_if_ne dX8_ledger_6 rfl (fun c => absurd (bI_eq0.mpr hc) c) (fun _ => ?_)
    refine z_bipush (v := -2) dX8_ledger_9 (by decide) ?_
    refine z_iret dX8_ledger_11 ?_
    exact hQ

def mImage (s : Ms) : Int32 × Ms := (nI (s.1 8), (s.1, s.1, s.2.2))
def mBack (s : Ms) : Int32 × Ms := (nI (s.2.1 8), (s.2.1, s.2.1, s.2.2))
theorem cpyF_in {f g : Nat → Int32} {i j : Nat} (h : j < i) : cpyF f g i j = f j := if_pos h

theorem R_image {s : Ms} {h : Hp} {d : Nat} (hr : RM s h) (hd : 1 ≤ d) : ∃ h1, Sp d mX9_image [.ref 488] h (some (.int (mImage s).1)) h1 ∧ RM (mImage s).2 h1 ∧ FM h h1 := by
  have hm := hr.m
  refine ⟨sA h 490 (cpyF (pI h 489) (pI h 490) 4870), ?_, ?_, FM.rf.sA (by omega)⟩
  · intro N S Q hN hS hQ
    refine z_aload_n dX9_image_0 rfl rfl ?_
    refine y_getR FX9_7 dX9_image_1 rfl hm.o hm.f_a ?_
    refine z_aload_n dX9_image_4 rfl rfl ?_
    refine y_getR FX9_13 dX9_image_5 rfl hm.o hm.f_image ?_
    refine y_callS (as := [_, _]) CX9_copy LX9_59 SX9_copy dX9_image_8 rfl (Nat.le_of_ble_eq_true rfl) (Nat.le_of_ble_eq_true rfl) (by omega) (r_copy (x := 489) (y := 490) (by exact hm.A_a) (by exact hm.A_image) (by omega)) rok_v ⟨Nat.le_refl _, Nat.le_refl _, hN, hS⟩ ?_
    refine z_aload_n dX9_image_11 rfl rfl ?_
    refine y_getR FX9_7 dX9_image_12 rfl hm.o hm.f_a ?_
    refine z_bipush (v := 8) dX9_image_15 (by decide) ?_
    refine y_ialN (8) dX9_image_17 hm.A_a (Nat.le_of_ble_eq_true rfl) (rfl) (by omega) ?_
    refine z_eqi (show _ = nI (s.1 8) by rw [pI_sA, if_neg (by omega)]; exact hr.at (by omega) (by omega)) ?_
    refine z_iret dX9_image_18 ?_
    exact hQ
  · obtain ⟨r1, r2, r3, r4, r5, r6, r7, r8, r9⟩ := hr
    refine ⟨r1, fun j hj => ?_, fun j hj => ?_, fun j hj => ?_, ?_, ?_, ?_, fun j hj => ?_, ?_⟩
    · rw [pI_sA, if_neg (by omega)]; exact r2 j hj
    · rw [pI_sA, if_pos rfl, cpyF_in hj]; exact r2 j hj
    · rw [pI_sA, if_neg (by omega)]; exact r4 j hj
    · rw [pI_sA, if_neg (by omega)]; exact r5
    · rw [pI_sA, if_neg (by omega)]; exact r6
    · rw [pI_sA, if_neg (by omega)]; exact r7
    · rw [pI_sA, if_neg (by omega)]; exact r8 j hj
    · rw [pI_sA, if_neg (by omega)]; exact r9

theorem R_back {s : Ms} {h : Hp} {d : Nat} (hr : RM s h) (hd : 1 ≤ d) : ∃ h1, Sp d mX9_back [.ref 488] h (some (.int (mBack s).1)) h1 ∧ RM (mBack s).2 h1 ∧ FM h h1 := by
  have hm := hr.m
  refine ⟨sA h 489 (cpyF (pI h 490) (pI h 489) 4870), ?_, ?_, FM.rf.sA (by omega)⟩
  · intro N S Q hN hS hQ
    refine z_aload_n dX9_back_0 rfl rfl ?_
    refine y_getR FX9_13 dX9_back_1 rfl hm.o hm.f_image ?_
    refine z_aload_n dX9_back_4 rfl rfl ?_
    refine y_getR FX9_7 dX9_back_5 rfl hm.o hm.f_a ?_
    refine y_callS (as := [_, _]) CX9_copy LX9_59 SX9_copy dX9_back_8 rfl (Nat.le_of_ble_eq_true rfl) (Nat.le_of_ble_eq_true rfl) (by omega) (r_copy (x := 490) (y := 489) (by exact hm.A_image) (by exact hm.A_a) (by omega)) rok_v ⟨Nat.le_refl _, Nat.le_refl _, hN, hS⟩ ?_
    refine z_aload_n dX9_back_11 rfl rfl ?_
    refine y_getR FX9_7 dX9_back_12 rfl hm.o hm.f_a ?_
    refine z_bipush (v := 8) dX9_back_15 (by decide) ?_
    refine y_ialN (8) dX9_back_17 hm.A_a (Nat.le_of_ble_eq_true rfl) (rfl) (by omega) ?_
    refine z_eqi (show _ = nI (s.2.1 8) by rw [pI_sA, if_pos rfl, cpyF_in (by omega), hr.2.2.1 8 (by omega), cI_n (by omega)]) ?_
    refine z_iret dX9_back_18 ?_
    exact hQ
  · obtain ⟨r1, r2, r3, r4, r5, r6, r7, r8, r9⟩ := hr
    refine ⟨r1, fun j hj => ?_, fun j hj => ?_, fun j hj => ?_, ?_, ?_, ?_, fun j hj => ?_, ?_⟩
    · rw [pI_sA, if_pos rfl, cpyF_in hj]; exact r3 j hj
    · rw [pI_sA, if_neg (by omega)]; exact r3 j hj
    · rw [pI_sA, if_neg (by omega)]; exact r4 j hj
    · rw [pI_sA, if_neg (by omega)]; exact r5
    · rw [pI_sA, if_neg (by omega)]; exact r6
    · rw [pI_sA, if_neg (by omega)]; exact r7
    · rw [pI_sA, if_neg (by omega)]; exact r8 j hj
    · rw [pI_sA, if_neg (by omega)]; exact r9

