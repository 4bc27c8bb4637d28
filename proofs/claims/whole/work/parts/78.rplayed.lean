/-! played: the reference (walks by program: wip/whole/gen78.py) -/
theorem mFact_ge {a : Fl} {o c : Int32} (h : ¬ (mFact a o c).1 = -1) : ¬ (mFact a o c).1 < 0 := by
  unfold mFact at *
  split at h
  · rename_i q
    rw [if_pos q]
    exact nI_pos (by omega)
  · exact absurd rfl h
theorem mProphet_ge {a : Fl} {o c : Int32} (h : ¬ (mProphet a o c).1 = -1) : ¬ (mProphet a o c).1 < 0 := by
  unfold mProphet at *
  split at h
  · rename_i q
    rw [if_pos q]
    exact nI_pos (by omega)
  · exact absurd rfl h
theorem mForetell_ge {a : Fl} {p f d e : Int32} {al : Nat} (h : ¬ (mForetell a p al f d e).1 = -1) : ¬ (mForetell a p al f d e).1 < 0 := by
  unfold mForetell at *
  split at h
  · rename_i q
    have := q.1.2.2
    rw [if_pos q]
    exact nI_pos (by omega)
  · exact absurd rfl h

theorem r_isPlayed_0 {s : Ms} {h : Hp} {d t k : Nat} (hr : RM s h) (hj : JY s.2.2.2.2.2.2 s.1) (ht : t < 4) (hk : k < 24) (hs : s.2.2.2.2.2.2 (753 * t + 1 + 6 * k) = nI 0) (hb : TXB s.2.2.2.2.2.2 t) (hc : k < cnt s.2.2.2.2.2.2 t) (hd : 8 ≤ d) : ∃ h1, Sp d mX9_isPlayed [.ref 488, .int (nI (753 * t + 1 + 6 * k))] h (some (.int (plS s.2.2.2.2.2.2 t k s.1).1)) h1 ∧ RM ((plS s.2.2.2.2.2.2 t k s.1).2, s.2) h1 ∧ FM h h1 := by
  have hm := hr.m
  have tx : ∀ c, c < 6 → pI h 491 (753 * t + 1 + 6 * k + c) = s.2.2.2.2.2.2 (753 * t + 1 + 6 * k + c) := fun c hc => hr.2.2.2.2.2.2.2.1 _ (by omega)
  have eq : plS s.2.2.2.2.2.2 t k s.1 = (1, s.1) := by
    unfold plS
    rw [if_neg (by rw [hs]; decide), if_neg (by rw [hs]; decide), if_neg (by rw [hs]; decide), if_neg (by rw [hs]; decide), if_neg (by rw [hs]; decide), if_neg (by rw [hs]; decide), if_neg (by rw [hs]; decide)]
  rw [eq]
  refine ⟨h, ?_, hr, FM.rf⟩
  intro N S Q hN hS hQ
  refine z_aload_n dX9_isPlayed_0 rfl rfl ?_
  refine y_getR FX9_16 dX9_isPlayed_1 rfl hm.o hm.f_texts ?_
  refine z_iload_n dX9_isPlayed_4 rfl rfl ?_
  refine z_iconst (v := 1) dX9_isPlayed_5 (by decide) ?_
  refine z_iadd dX9_isPlayed_6 ?_
  refine y_ialN (753 * t + 1 + 6 * k + 1) dX9_isPlayed_7 hm.A_texts (Nat.le_of_ble_eq_true rfl) (by first | rfl | (simp only [← nI_add, ← pk_mul]; rfl)) (by omega) ?_
  refine z_eqi (tx 1 (by omega)) ?_
  refine z_istore_n dX9_isPlayed_8 rfl (Nat.le_of_ble_eq_true rfl) ?_
  refine z_aload_n dX9_isPlayed_9 rfl rfl ?_
  refine y_getR FX9_16 dX9_isPlayed_10 rfl hm.o hm.f_texts ?_
  refine z_iload_n dX9_isPlayed_13 rfl rfl ?_
  refine z_iconst (v := 2) dX9_isPlayed_14 (by decide) ?_
  refine z_iadd dX9_isPlayed_15 ?_
  refine y_ialN (753 * t + 1 + 6 * k + 2) dX9_isPlayed_16 hm.A_texts (Nat.le_of_ble_eq_true rfl) (by first | rfl | (simp only [← nI_add, ← pk_mul]; rfl)) (by omega) ?_
  refine z_eqi (tx 2 (by omega)) ?_
  refine z_istore_n dX9_isPlayed_17 rfl (Nat.le_of_ble_eq_true rfl) ?_
  refine z_aload_n dX9_isPlayed_18 rfl rfl ?_
  refine y_getR FX9_16 dX9_isPlayed_19 rfl hm.o hm.f_texts ?_
  refine z_iload_n dX9_isPlayed_22 rfl rfl ?_
  refine y_ialN (753 * t + 1 + 6 * k) dX9_isPlayed_23 hm.A_texts (Nat.le_of_ble_eq_true rfl) (by first | rfl | (simp only [← nI_add, ← pk_mul]; rfl)) (by omega) ?_
  refine z_eqi (show _ = nI 0 from (tx 0 (by omega)).trans hs) ?_
  refine z_tableOut (tgt := 181) dX9_isPlayed_24 (by decide) rfl ?_
  refine z_iconst (v := 1) dX9_isPlayed_181 (by decide) ?_
  refine z_iret dX9_isPlayed_182 ?_
  exact hQ

theorem r_isPlayed_1 {s : Ms} {h : Hp} {d t k : Nat} (hr : RM s h) (hj : JY s.2.2.2.2.2.2 s.1) (ht : t < 4) (hk : k < 24) (hs : s.2.2.2.2.2.2 (753 * t + 1 + 6 * k) = nI 1) (hb : TXB s.2.2.2.2.2.2 t) (hc : k < cnt s.2.2.2.2.2.2 t) (hd : 8 ≤ d) : ∃ h1, Sp d mX9_isPlayed [.ref 488, .int (nI (753 * t + 1 + 6 * k))] h (some (.int (plS s.2.2.2.2.2.2 t k s.1).1)) h1 ∧ RM ((plS s.2.2.2.2.2.2 t k s.1).2, s.2) h1 ∧ FM h h1 := by
  have hm := hr.m
  have tx : ∀ c, c < 6 → pI h 491 (753 * t + 1 + 6 * k + c) = s.2.2.2.2.2.2 (753 * t + 1 + 6 * k + c) := fun c hc => hr.2.2.2.2.2.2.2.1 _ (by omega)
  have eq : plS s.2.2.2.2.2.2 t k s.1 = (1, s.1) := by
    unfold plS
    rw [if_neg (by rw [hs]; decide), if_neg (by rw [hs]; decide), if_neg (by rw [hs]; decide), if_neg (by rw [hs]; decide), if_neg (by rw [hs]; decide), if_neg (by rw [hs]; decide), if_neg (by rw [hs]; decide)]
  rw [eq]
  refine ⟨h, ?_, hr, FM.rf⟩
  intro N S Q hN hS hQ
  refine z_aload_n dX9_isPlayed_0 rfl rfl ?_
  refine y_getR FX9_16 dX9_isPlayed_1 rfl hm.o hm.f_texts ?_
  refine z_iload_n dX9_isPlayed_4 rfl rfl ?_
  refine z_iconst (v := 1) dX9_isPlayed_5 (by decide) ?_
  refine z_iadd dX9_isPlayed_6 ?_
  refine y_ialN (753 * t + 1 + 6 * k + 1) dX9_isPlayed_7 hm.A_texts (Nat.le_of_ble_eq_true rfl) (by first | rfl | (simp only [← nI_add, ← pk_mul]; rfl)) (by omega) ?_
  refine z_eqi (tx 1 (by omega)) ?_
  refine z_istore_n dX9_isPlayed_8 rfl (Nat.le_of_ble_eq_true rfl) ?_
  refine z_aload_n dX9_isPlayed_9 rfl rfl ?_
  refine y_getR FX9_16 dX9_isPlayed_10 rfl hm.o hm.f_texts ?_
  refine z_iload_n dX9_isPlayed_13 rfl rfl ?_
  refine z_iconst (v := 2) dX9_isPlayed_14 (by decide) ?_
  refine z_iadd dX9_isPlayed_15 ?_
  refine y_ialN (753 * t + 1 + 6 * k + 2) dX9_isPlayed_16 hm.A_texts (Nat.le_of_ble_eq_true rfl) (by first | rfl | (simp only [← nI_add, ← pk_mul]; rfl)) (by omega) ?_
  refine z_eqi (tx 2 (by omega)) ?_
  refine z_istore_n dX9_isPlayed_17 rfl (Nat.le_of_ble_eq_true rfl) ?_
  refine z_aload_n dX9_isPlayed_18 rfl rfl ?_
  refine y_getR FX9_16 dX9_isPlayed_19 rfl hm.o hm.f_texts ?_
  refine z_iload_n dX9_isPlayed_22 rfl rfl ?_
  refine y_ialN (753 * t + 1 + 6 * k) dX9_isPlayed_23 hm.A_texts (Nat.le_of_ble_eq_true rfl) (by first | rfl | (simp only [← nI_add, ← pk_mul]; rfl)) (by omega) ?_
  refine z_eqi (show _ = nI 1 from (tx 0 (by omega)).trans hs) ?_
  refine z_tableOut (tgt := 181) dX9_isPlayed_24 (by decide) rfl ?_
  refine z_iconst (v := 1) dX9_isPlayed_181 (by decide) ?_
  refine z_iret dX9_isPlayed_182 ?_
  exact hQ

theorem r_isPlayed_2 {s : Ms} {h : Hp} {d t k : Nat} (hr : RM s h) (hj : JY s.2.2.2.2.2.2 s.1) (ht : t < 4) (hk : k < 24) (hs : s.2.2.2.2.2.2 (753 * t + 1 + 6 * k) = nI 2) (hb : TXB s.2.2.2.2.2.2 t) (hc : k < cnt s.2.2.2.2.2.2 t) (hd : 8 ≤ d) : ∃ h1, Sp d mX9_isPlayed [.ref 488, .int (nI (753 * t + 1 + 6 * k))] h (some (.int (plS s.2.2.2.2.2.2 t k s.1).1)) h1 ∧ RM ((plS s.2.2.2.2.2.2 t k s.1).2, s.2) h1 ∧ FM h h1 := by
  have hm := hr.m
  have tx : ∀ c, c < 6 → pI h 491 (753 * t + 1 + 6 * k + c) = s.2.2.2.2.2.2 (753 * t + 1 + 6 * k + c) := fun c hc => hr.2.2.2.2.2.2.2.1 _ (by omega)
  have eq : plS s.2.2.2.2.2.2 t k s.1 = (1, s.1) := by
    unfold plS
    rw [if_neg (by rw [hs]; decide), if_neg (by rw [hs]; decide), if_neg (by rw [hs]; decide), if_neg (by rw [hs]; decide), if_neg (by rw [hs]; decide), if_neg (by rw [hs]; decide), if_neg (by rw [hs]; decide)]
  rw [eq]
  refine ⟨h, ?_, hr, FM.rf⟩
  intro N S Q hN hS hQ
  refine z_aload_n dX9_isPlayed_0 rfl rfl ?_
  refine y_getR FX9_16 dX9_isPlayed_1 rfl hm.o hm.f_texts ?_
  refine z_iload_n dX9_isPlayed_4 rfl rfl ?_
  refine z_iconst (v := 1) dX9_isPlayed_5 (by decide) ?_
  refine z_iadd dX9_isPlayed_6 ?_
  refine y_ialN (753 * t + 1 + 6 * k + 1) dX9_isPlayed_7 hm.A_texts (Nat.le_of_ble_eq_true rfl) (by first | rfl | (simp only [← nI_add, ← pk_mul]; rfl)) (by omega) ?_
  refine z_eqi (tx 1 (by omega)) ?_
  refine z_istore_n dX9_isPlayed_8 rfl (Nat.le_of_ble_eq_true rfl) ?_
  refine z_aload_n dX9_isPlayed_9 rfl rfl ?_
  refine y_getR FX9_16 dX9_isPlayed_10 rfl hm.o hm.f_texts ?_
  refine z_iload_n dX9_isPlayed_13 rfl rfl ?_
  refine z_iconst (v := 2) dX9_isPlayed_14 (by decide) ?_
  refine z_iadd dX9_isPlayed_15 ?_
  refine y_ialN (753 * t + 1 + 6 * k + 2) dX9_isPlayed_16 hm.A_texts (Nat.le_of_ble_eq_true rfl) (by first | rfl | (simp only [← nI_add, ← pk_mul]; rfl)) (by omega) ?_
  refine z_eqi (tx 2 (by omega)) ?_
  refine z_istore_n dX9_isPlayed_17 rfl (Nat.le_of_ble_eq_true rfl) ?_
  refine z_aload_n dX9_isPlayed_18 rfl rfl ?_
  refine y_getR FX9_16 dX9_isPlayed_19 rfl hm.o hm.f_texts ?_
  refine z_iload_n dX9_isPlayed_22 rfl rfl ?_
  refine y_ialN (753 * t + 1 + 6 * k) dX9_isPlayed_23 hm.A_texts (Nat.le_of_ble_eq_true rfl) (by first | rfl | (simp only [← nI_add, ← pk_mul]; rfl)) (by omega) ?_
  refine z_eqi (show _ = nI 2 from (tx 0 (by omega)).trans hs) ?_
  refine z_tableOut (tgt := 181) dX9_isPlayed_24 (by decide) rfl ?_
  refine z_iconst (v := 1) dX9_isPlayed_181 (by decide) ?_
  refine z_iret dX9_isPlayed_182 ?_
  exact hQ

theorem r_isPlayed_3 {s : Ms} {h : Hp} {d t k : Nat} (hr : RM s h) (hj : JY s.2.2.2.2.2.2 s.1) (ht : t < 4) (hk : k < 24) (hs : s.2.2.2.2.2.2 (753 * t + 1 + 6 * k) = nI 3) (hb : TXB s.2.2.2.2.2.2 t) (hc : k < cnt s.2.2.2.2.2.2 t) (hd : 8 ≤ d) : ∃ h1, Sp d mX9_isPlayed [.ref 488, .int (nI (753 * t + 1 + 6 * k))] h (some (.int (plS s.2.2.2.2.2.2 t k s.1).1)) h1 ∧ RM ((plS s.2.2.2.2.2.2 t k s.1).2, s.2) h1 ∧ FM h h1 := by
  have hm := hr.m
  have tx : ∀ c, c < 6 → pI h 491 (753 * t + 1 + 6 * k + c) = s.2.2.2.2.2.2 (753 * t + 1 + 6 * k + c) := fun c hc => hr.2.2.2.2.2.2.2.1 _ (by omega)
  have eq : plS s.2.2.2.2.2.2 t k s.1 = (bI (¬ (mFact s.1 (s.2.2.2.2.2.2 (753 * t + 1 + 6 * k + 1)) (s.2.2.2.2.2.2 (753 * t + 1 + 6 * k + 2))).1 = -1), (mFact s.1 (s.2.2.2.2.2.2 (753 * t + 1 + 6 * k + 1)) (s.2.2.2.2.2.2 (753 * t + 1 + 6 * k + 2))).2) := by
    unfold plS
    rw [if_pos hs]
  rw [eq]
  obtain ⟨g, f1, f2, f3⟩ := R_fact (d := 7) hr hj.1.1 (s.2.2.2.2.2.2 (753 * t + 1 + 6 * k + 1)) (s.2.2.2.2.2.2 (753 * t + 1 + 6 * k + 2)) (by omega)
  refine ⟨g, ?_, f2, f3⟩
  intro N S Q hN hS hQ
  have hN : pn h ≤ N := by rw [← f3.1.n]; exact hN
  have hS : ps h ≤ S := by rw [← f3.1.s]; exact hS
  by_cases hq : (mFact s.1 (s.2.2.2.2.2.2 (753 * t + 1 + 6 * k + 1)) (s.2.2.2.2.2.2 (753 * t + 1 + 6 * k + 2))).1 = -1
  · rw [bI_f (fun q => q hq)] at hQ
    rw [hq] at f1
    refine z_aload_n dX9_isPlayed_0 rfl rfl ?_
    refine y_getR FX9_16 dX9_isPlayed_1 rfl hm.o hm.f_texts ?_
    refine z_iload_n dX9_isPlayed_4 rfl rfl ?_
    refine z_iconst (v := 1) dX9_isPlayed_5 (by decide) ?_
    refine z_iadd dX9_isPlayed_6 ?_
    refine y_ialN (753 * t + 1 + 6 * k + 1) dX9_isPlayed_7 hm.A_texts (Nat.le_of_ble_eq_true rfl) (by first | rfl | (simp only [← nI_add, ← pk_mul]; rfl)) (by omega) ?_
    refine z_eqi (tx 1 (by omega)) ?_
    refine z_istore_n dX9_isPlayed_8 rfl (Nat.le_of_ble_eq_true rfl) ?_
    refine z_aload_n dX9_isPlayed_9 rfl rfl ?_
    refine y_getR FX9_16 dX9_isPlayed_10 rfl hm.o hm.f_texts ?_
    refine z_iload_n dX9_isPlayed_13 rfl rfl ?_
    refine z_iconst (v := 2) dX9_isPlayed_14 (by decide) ?_
    refine z_iadd dX9_isPlayed_15 ?_
    refine y_ialN (753 * t + 1 + 6 * k + 2) dX9_isPlayed_16 hm.A_texts (Nat.le_of_ble_eq_true rfl) (by first | rfl | (simp only [← nI_add, ← pk_mul]; rfl)) (by omega) ?_
    refine z_eqi (tx 2 (by omega)) ?_
    refine z_istore_n dX9_isPlayed_17 rfl (Nat.le_of_ble_eq_true rfl) ?_
    refine z_aload_n dX9_isPlayed_18 rfl rfl ?_
    refine y_getR FX9_16 dX9_isPlayed_19 rfl hm.o hm.f_texts ?_
    refine z_iload_n dX9_isPlayed_22 rfl rfl ?_
    refine y_ialN (753 * t + 1 + 6 * k) dX9_isPlayed_23 hm.A_texts (Nat.le_of_ble_eq_true rfl) (by first | rfl | (simp only [← nI_add, ← pk_mul]; rfl)) (by omega) ?_
    refine z_eqi (show _ = nI 3 from (tx 0 (by omega)).trans hs) ?_
    refine z_tableIn (off := 44) (tgt := 68) dX9_isPlayed_24 (by decide) (by decide) rfl rfl ?_
    refine z_aload_n dX9_isPlayed_68 rfl rfl ?_
    refine z_iload_n dX9_isPlayed_69 rfl rfl ?_
    refine z_iload_n dX9_isPlayed_70 rfl rfl ?_
    refine y_callV (as := [_, _]) CX9_fact LX9_400 IX9_fact VX9_fact ⟨rfl, Nat.le_of_ble_eq_true rfl⟩ dX9_isPlayed_71 hm.o rfl (Nat.le_of_ble_eq_true rfl) (Nat.le_of_ble_eq_true rfl) (by omega) f1 rok_i (hg_ss f3.1 hN hS) ?_
    refine z_if_lt dX9_isPlayed_74 rfl (fun _ => ?_) (fun c => absurd (by decide) c)
    refine z_iconst (v := 0) dX9_isPlayed_81 (by decide) ?_
    refine z_iret dX9_isPlayed_82 ?_
    exact hQ
  · rw [bI_t hq] at hQ
    have ge := mFact_ge hq
    refine z_aload_n dX9_isPlayed_0 rfl rfl ?_
    refine y_getR FX9_16 dX9_isPlayed_1 rfl hm.o hm.f_texts ?_
    refine z_iload_n dX9_isPlayed_4 rfl rfl ?_
    refine z_iconst (v := 1) dX9_isPlayed_5 (by decide) ?_
    refine z_iadd dX9_isPlayed_6 ?_
    refine y_ialN (753 * t + 1 + 6 * k + 1) dX9_isPlayed_7 hm.A_texts (Nat.le_of_ble_eq_true rfl) (by first | rfl | (simp only [← nI_add, ← pk_mul]; rfl)) (by omega) ?_
    refine z_eqi (tx 1 (by omega)) ?_
    refine z_istore_n dX9_isPlayed_8 rfl (Nat.le_of_ble_eq_true rfl) ?_
    refine z_aload_n dX9_isPlayed_9 rfl rfl ?_
    refine y_getR FX9_16 dX9_isPlayed_10 rfl hm.o hm.f_texts ?_
    refine z_iload_n dX9_isPlayed_13 rfl rfl ?_
    refine z_iconst (v := 2) dX9_isPlayed_14 (by decide) ?_
    refine z_iadd dX9_isPlayed_15 ?_
    refine y_ialN (753 * t + 1 + 6 * k + 2) dX9_isPlayed_16 hm.A_texts (Nat.le_of_ble_eq_true rfl) (by first | rfl | (simp only [← nI_add, ← pk_mul]; rfl)) (by omega) ?_
    refine z_eqi (tx 2 (by omega)) ?_
    refine z_istore_n dX9_isPlayed_17 rfl (Nat.le_of_ble_eq_true rfl) ?_
    refine z_aload_n dX9_isPlayed_18 rfl rfl ?_
    refine y_getR FX9_16 dX9_isPlayed_19 rfl hm.o hm.f_texts ?_
    refine z_iload_n dX9_isPlayed_22 rfl rfl ?_
    refine y_ialN (753 * t + 1 + 6 * k) dX9_isPlayed_23 hm.A_texts (Nat.le_of_ble_eq_true rfl) (by first | rfl | (simp only [← nI_add, ← pk_mul]; rfl)) (by omega) ?_
    refine z_eqi (show _ = nI 3 from (tx 0 (by omega)).trans hs) ?_
    refine z_tableIn (off := 44) (tgt := 68) dX9_isPlayed_24 (by decide) (by decide) rfl rfl ?_
    refine z_aload_n dX9_isPlayed_68 rfl rfl ?_
    refine z_iload_n dX9_isPlayed_69 rfl rfl ?_
    refine z_iload_n dX9_isPlayed_70 rfl rfl ?_
    refine y_callV (as := [_, _]) CX9_fact LX9_400 IX9_fact VX9_fact ⟨rfl, Nat.le_of_ble_eq_true rfl⟩ dX9_isPlayed_71 hm.o rfl (Nat.le_of_ble_eq_true rfl) (Nat.le_of_ble_eq_true rfl) (by omega) f1 rok_i (hg_ss f3.1 hN hS) ?_
    refine z_if_lt dX9_isPlayed_74 rfl (fun c => absurd c (ge)) (fun _ => ?_)
    refine z_iconst (v := 1) dX9_isPlayed_77 (by decide) ?_
    refine z_goto dX9_isPlayed_78 rfl ?_
    refine z_iret dX9_isPlayed_82 ?_
    exact hQ

theorem r_isPlayed_4 {s : Ms} {h : Hp} {d t k : Nat} (hr : RM s h) (hj : JY s.2.2.2.2.2.2 s.1) (ht : t < 4) (hk : k < 24) (hs : s.2.2.2.2.2.2 (753 * t + 1 + 6 * k) = nI 4) (hb : TXB s.2.2.2.2.2.2 t) (hc : k < cnt s.2.2.2.2.2.2 t) (hd : 8 ≤ d) : ∃ h1, Sp d mX9_isPlayed [.ref 488, .int (nI (753 * t + 1 + 6 * k))] h (some (.int (plS s.2.2.2.2.2.2 t k s.1).1)) h1 ∧ RM ((plS s.2.2.2.2.2.2 t k s.1).2, s.2) h1 ∧ FM h h1 := by
  have hm := hr.m
  have tx : ∀ c, c < 6 → pI h 491 (753 * t + 1 + 6 * k + c) = s.2.2.2.2.2.2 (753 * t + 1 + 6 * k + c) := fun c hc => hr.2.2.2.2.2.2.2.1 _ (by omega)
  have eq : plS s.2.2.2.2.2.2 t k s.1 = (bI (¬ (mProphet s.1 (s.2.2.2.2.2.2 (753 * t + 1 + 6 * k + 1)) (s.2.2.2.2.2.2 (753 * t + 1 + 6 * k + 2))).1 = -1), (mProphet s.1 (s.2.2.2.2.2.2 (753 * t + 1 + 6 * k + 1)) (s.2.2.2.2.2.2 (753 * t + 1 + 6 * k + 2))).2) := by
    unfold plS
    rw [if_neg (by rw [hs]; decide), if_pos hs]
  rw [eq]
  obtain ⟨g, f1, f2, f3⟩ := R_prophet (d := 7) hr hj.1.1 (s.2.2.2.2.2.2 (753 * t + 1 + 6 * k + 1)) (s.2.2.2.2.2.2 (753 * t + 1 + 6 * k + 2)) (by omega)
  refine ⟨g, ?_, f2, f3⟩
  intro N S Q hN hS hQ
  have hN : pn h ≤ N := by rw [← f3.1.n]; exact hN
  have hS : ps h ≤ S := by rw [← f3.1.s]; exact hS
  by_cases hq : (mProphet s.1 (s.2.2.2.2.2.2 (753 * t + 1 + 6 * k + 1)) (s.2.2.2.2.2.2 (753 * t + 1 + 6 * k + 2))).1 = -1
  · rw [bI_f (fun q => q hq)] at hQ
    rw [hq] at f1
    refine z_aload_n dX9_isPlayed_0 rfl rfl ?_
    refine y_getR FX9_16 dX9_isPlayed_1 rfl hm.o hm.f_texts ?_
    refine z_iload_n dX9_isPlayed_4 rfl rfl ?_
    refine z_iconst (v := 1) dX9_isPlayed_5 (by decide) ?_
    refine z_iadd dX9_isPlayed_6 ?_
    refine y_ialN (753 * t + 1 + 6 * k + 1) dX9_isPlayed_7 hm.A_texts (Nat.le_of_ble_eq_true rfl) (by first | rfl | (simp only [← nI_add, ← pk_mul]; rfl)) (by omega) ?_
    refine z_eqi (tx 1 (by omega)) ?_
    refine z_istore_n dX9_isPlayed_8 rfl (Nat.le_of_ble_eq_true rfl) ?_
    refine z_aload_n dX9_isPlayed_9 rfl rfl ?_
    refine y_getR FX9_16 dX9_isPlayed_10 rfl hm.o hm.f_texts ?_
    refine z_iload_n dX9_isPlayed_13 rfl rfl ?_
    refine z_iconst (v := 2) dX9_isPlayed_14 (by decide) ?_
    refine z_iadd dX9_isPlayed_15 ?_
    refine y_ialN (753 * t + 1 + 6 * k + 2) dX9_isPlayed_16 hm.A_texts (Nat.le_of_ble_eq_true rfl) (by first | rfl | (simp only [← nI_add, ← pk_mul]; rfl)) (by omega) ?_
    refine z_eqi (tx 2 (by omega)) ?_
    refine z_istore_n dX9_isPlayed_17 rfl (Nat.le_of_ble_eq_true rfl) ?_
    refine z_aload_n dX9_isPlayed_18 rfl rfl ?_
    refine y_getR FX9_16 dX9_isPlayed_19 rfl hm.o hm.f_texts ?_
    refine z_iload_n dX9_isPlayed_22 rfl rfl ?_
    refine y_ialN (753 * t + 1 + 6 * k) dX9_isPlayed_23 hm.A_texts (Nat.le_of_ble_eq_true rfl) (by first | rfl | (simp only [← nI_add, ← pk_mul]; rfl)) (by omega) ?_
    refine z_eqi (show _ = nI 4 from (tx 0 (by omega)).trans hs) ?_
    refine z_tableIn (off := 59) (tgt := 83) dX9_isPlayed_24 (by decide) (by decide) rfl rfl ?_
    refine z_aload_n dX9_isPlayed_83 rfl rfl ?_
    refine z_iload_n dX9_isPlayed_84 rfl rfl ?_
    refine z_iload_n dX9_isPlayed_85 rfl rfl ?_
    refine y_callV (as := [_, _]) CX9_prophet LX9_403 IX9_prophet VX9_prophet ⟨rfl, Nat.le_of_ble_eq_true rfl⟩ dX9_isPlayed_86 hm.o rfl (Nat.le_of_ble_eq_true rfl) (Nat.le_of_ble_eq_true rfl) (by omega) f1 rok_i (hg_ss f3.1 hN hS) ?_
    refine z_if_lt dX9_isPlayed_89 rfl (fun _ => ?_) (fun c => absurd (by decide) c)
    refine z_iconst (v := 0) dX9_isPlayed_96 (by decide) ?_
    refine z_iret dX9_isPlayed_97 ?_
    exact hQ
  · rw [bI_t hq] at hQ
    have ge := mProphet_ge hq
    refine z_aload_n dX9_isPlayed_0 rfl rfl ?_
    refine y_getR FX9_16 dX9_isPlayed_1 rfl hm.o hm.f_texts ?_
    refine z_iload_n dX9_isPlayed_4 rfl rfl ?_
    refine z_iconst (v := 1) dX9_isPlayed_5 (by decide) ?_
    refine z_iadd dX9_isPlayed_6 ?_
    refine y_ialN (753 * t + 1 + 6 * k + 1) dX9_isPlayed_7 hm.A_texts (Nat.le_of_ble_eq_true rfl) (by first | rfl | (simp only [← nI_add, ← pk_mul]; rfl)) (by omega) ?_
    refine z_eqi (tx 1 (by omega)) ?_
    refine z_istore_n dX9_isPlayed_8 rfl (Nat.le_of_ble_eq_true rfl) ?_
    refine z_aload_n dX9_isPlayed_9 rfl rfl ?_
    refine y_getR FX9_16 dX9_isPlayed_10 rfl hm.o hm.f_texts ?_
    refine z_iload_n dX9_isPlayed_13 rfl rfl ?_
    refine z_iconst (v := 2) dX9_isPlayed_14 (by decide) ?_
    refine z_iadd dX9_isPlayed_15 ?_
    refine y_ialN (753 * t + 1 + 6 * k + 2) dX9_isPlayed_16 hm.A_texts (Nat.le_of_ble_eq_true rfl) (by first | rfl | (simp only [← nI_add, ← pk_mul]; rfl)) (by omega) ?_
    refine z_eqi (tx 2 (by omega)) ?_
    refine z_istore_n dX9_isPlayed_17 rfl (Nat.le_of_ble_eq_true rfl) ?_
    refine z_aload_n dX9_isPlayed_18 rfl rfl ?_
    refine y_getR FX9_16 dX9_isPlayed_19 rfl hm.o hm.f_texts ?_
    refine z_iload_n dX9_isPlayed_22 rfl rfl ?_
    refine y_ialN (753 * t + 1 + 6 * k) dX9_isPlayed_23 hm.A_texts (Nat.le_of_ble_eq_true rfl) (by first | rfl | (simp only [← nI_add, ← pk_mul]; rfl)) (by omega) ?_
    refine z_eqi (show _ = nI 4 from (tx 0 (by omega)).trans hs) ?_
    refine z_tableIn (off := 59) (tgt := 83) dX9_isPlayed_24 (by decide) (by decide) rfl rfl ?_
    refine z_aload_n dX9_isPlayed_83 rfl rfl ?_
    refine z_iload_n dX9_isPlayed_84 rfl rfl ?_
    refine z_iload_n dX9_isPlayed_85 rfl rfl ?_
    refine y_callV (as := [_, _]) CX9_prophet LX9_403 IX9_prophet VX9_prophet ⟨rfl, Nat.le_of_ble_eq_true rfl⟩ dX9_isPlayed_86 hm.o rfl (Nat.le_of_ble_eq_true rfl) (Nat.le_of_ble_eq_true rfl) (by omega) f1 rok_i (hg_ss f3.1 hN hS) ?_
    refine z_if_lt dX9_isPlayed_89 rfl (fun c => absurd c (ge)) (fun _ => ?_)
    refine z_iconst (v := 1) dX9_isPlayed_92 (by decide) ?_
    refine z_goto dX9_isPlayed_93 rfl ?_
    refine z_iret dX9_isPlayed_97 ?_
    exact hQ

theorem r_isPlayed_5 {s : Ms} {h : Hp} {d t k : Nat} (hr : RM s h) (hj : JY s.2.2.2.2.2.2 s.1) (ht : t < 4) (hk : k < 24) (hs : s.2.2.2.2.2.2 (753 * t + 1 + 6 * k) = nI 5) (hb : TXB s.2.2.2.2.2.2 t) (hc : k < cnt s.2.2.2.2.2.2 t) (hd : 8 ≤ d) : ∃ h1, Sp d mX9_isPlayed [.ref 488, .int (nI (753 * t + 1 + 6 * k))] h (some (.int (plS s.2.2.2.2.2.2 t k s.1).1)) h1 ∧ RM ((plS s.2.2.2.2.2.2 t k s.1).2, s.2) h1 ∧ FM h h1 := by
  have hm := hr.m
  have tx : ∀ c, c < 6 → pI h 491 (753 * t + 1 + 6 * k + c) = s.2.2.2.2.2.2 (753 * t + 1 + 6 * k + c) := fun c hc => hr.2.2.2.2.2.2.2.1 _ (by omega)
  by_cases hw : s.2.2.2.2.2.2 (753 * t + 1 + 6 * k + 2) = 1
  · skip
    have eq : plS s.2.2.2.2.2.2 t k s.1 = (bI (¬ (mForetell s.1 (s.2.2.2.2.2.2 (753 * t + 1 + 6 * k + 1)) 1 (s.2.2.2.2.2.2 (753 * t + 1 + 6 * k + 3)) (s.2.2.2.2.2.2 (753 * t + 1 + 6 * k + 4)) (s.2.2.2.2.2.2 (753 * t + 1 + 6 * k + 5))).1 = -1), (mForetell s.1 (s.2.2.2.2.2.2 (753 * t + 1 + 6 * k + 1)) 1 (s.2.2.2.2.2.2 (753 * t + 1 + 6 * k + 3)) (s.2.2.2.2.2.2 (753 * t + 1 + 6 * k + 4)) (s.2.2.2.2.2.2 (753 * t + 1 + 6 * k + 5))).2) := by
      unfold plS
      rw [if_neg (by rw [hs]; decide), if_neg (by rw [hs]; decide), if_pos hs, if_pos hw]
    rw [eq]
    obtain ⟨g, f1, f2, f3⟩ := R_foretell (d := 7) hr hj.1.1 hj.ip (s.2.2.2.2.2.2 (753 * t + 1 + 6 * k + 1)) (al := 1) (by omega) (s.2.2.2.2.2.2 (753 * t + 1 + 6 * k + 3)) (s.2.2.2.2.2.2 (753 * t + 1 + 6 * k + 4)) (s.2.2.2.2.2.2 (753 * t + 1 + 6 * k + 5)) (by omega)
    refine ⟨g, ?_, f2, f3⟩
    intro N S Q hN hS hQ
    have hN : pn h ≤ N := by rw [← f3.1.n]; exact hN
    have hS : ps h ≤ S := by rw [← f3.1.s]; exact hS
    by_cases hq : (mForetell s.1 (s.2.2.2.2.2.2 (753 * t + 1 + 6 * k + 1)) 1 (s.2.2.2.2.2.2 (753 * t + 1 + 6 * k + 3)) (s.2.2.2.2.2.2 (753 * t + 1 + 6 * k + 4)) (s.2.2.2.2.2.2 (753 * t + 1 + 6 * k + 5))).1 = -1
    · rw [bI_f (fun q => q hq)] at hQ
      rw [hq] at f1
      refine z_aload_n dX9_isPlayed_0 rfl rfl ?_
      refine y_getR FX9_16 dX9_isPlayed_1 rfl hm.o hm.f_texts ?_
      refine z_iload_n dX9_isPlayed_4 rfl rfl ?_
      refine z_iconst (v := 1) dX9_isPlayed_5 (by decide) ?_
      refine z_iadd dX9_isPlayed_6 ?_
      refine y_ialN (753 * t + 1 + 6 * k + 1) dX9_isPlayed_7 hm.A_texts (Nat.le_of_ble_eq_true rfl) (by first | rfl | (simp only [← nI_add, ← pk_mul]; rfl)) (by omega) ?_
      refine z_eqi (tx 1 (by omega)) ?_
      refine z_istore_n dX9_isPlayed_8 rfl (Nat.le_of_ble_eq_true rfl) ?_
      refine z_aload_n dX9_isPlayed_9 rfl rfl ?_
      refine y_getR FX9_16 dX9_isPlayed_10 rfl hm.o hm.f_texts ?_
      refine z_iload_n dX9_isPlayed_13 rfl rfl ?_
      refine z_iconst (v := 2) dX9_isPlayed_14 (by decide) ?_
      refine z_iadd dX9_isPlayed_15 ?_
      refine y_ialN (753 * t + 1 + 6 * k + 2) dX9_isPlayed_16 hm.A_texts (Nat.le_of_ble_eq_true rfl) (by first | rfl | (simp only [← nI_add, ← pk_mul]; rfl)) (by omega) ?_
      refine z_eqi (tx 2 (by omega)) ?_
      refine z_istore_n dX9_isPlayed_17 rfl (Nat.le_of_ble_eq_true rfl) ?_
      refine z_aload_n dX9_isPlayed_18 rfl rfl ?_
      refine y_getR FX9_16 dX9_isPlayed_19 rfl hm.o hm.f_texts ?_
      refine z_iload_n dX9_isPlayed_22 rfl rfl ?_
      refine y_ialN (753 * t + 1 + 6 * k) dX9_isPlayed_23 hm.A_texts (Nat.le_of_ble_eq_true rfl) (by first | rfl | (simp only [← nI_add, ← pk_mul]; rfl)) (by omega) ?_
      refine z_eqi (show _ = nI 5 from (tx 0 (by omega)).trans hs) ?_
      refine z_tableIn (off := 74) (tgt := 98) dX9_isPlayed_24 (by decide) (by decide) rfl rfl ?_
      refine z_aload_n dX9_isPlayed_98 rfl rfl ?_
      refine z_iload_n dX9_isPlayed_99 rfl rfl ?_
      refine z_iload_n dX9_isPlayed_100 rfl rfl ?_
      refine z_iconst (v := 1) dX9_isPlayed_101 (by decide) ?_
      refine z_icmp_ne dX9_isPlayed_102 rfl (fun c => absurd (hw) c) (fun _ => ?_)
      refine z_iconst (v := 1) dX9_isPlayed_105 (by decide) ?_
      refine z_goto dX9_isPlayed_106 rfl ?_
      refine z_aload_n dX9_isPlayed_110 rfl rfl ?_
      refine y_getR FX9_16 dX9_isPlayed_111 rfl hm.o hm.f_texts ?_
      refine z_iload_n dX9_isPlayed_114 rfl rfl ?_
      refine z_iconst (v := 3) dX9_isPlayed_115 (by decide) ?_
      refine z_iadd dX9_isPlayed_116 ?_
      refine y_ialN (753 * t + 1 + 6 * k + 3) dX9_isPlayed_117 hm.A_texts (Nat.le_of_ble_eq_true rfl) (by first | rfl | (simp only [← nI_add, ← pk_mul]; rfl)) (by omega) ?_
      refine z_eqi (tx 3 (by omega)) ?_
      refine z_aload_n dX9_isPlayed_118 rfl rfl ?_
      refine y_getR FX9_16 dX9_isPlayed_119 rfl hm.o hm.f_texts ?_
      refine z_iload_n dX9_isPlayed_122 rfl rfl ?_
      refine z_iconst (v := 4) dX9_isPlayed_123 (by decide) ?_
      refine z_iadd dX9_isPlayed_124 ?_
      refine y_ialN (753 * t + 1 + 6 * k + 4) dX9_isPlayed_125 hm.A_texts (Nat.le_of_ble_eq_true rfl) (by first | rfl | (simp only [← nI_add, ← pk_mul]; rfl)) (by omega) ?_
      refine z_eqi (tx 4 (by omega)) ?_
      refine z_aload_n dX9_isPlayed_126 rfl rfl ?_
      refine y_getR FX9_16 dX9_isPlayed_127 rfl hm.o hm.f_texts ?_
      refine z_iload_n dX9_isPlayed_130 rfl rfl ?_
      refine z_iconst (v := 5) dX9_isPlayed_131 (by decide) ?_
      refine z_iadd dX9_isPlayed_132 ?_
      refine y_ialN (753 * t + 1 + 6 * k + 5) dX9_isPlayed_133 hm.A_texts (Nat.le_of_ble_eq_true rfl) (by first | rfl | (simp only [← nI_add, ← pk_mul]; rfl)) (by omega) ?_
      refine z_eqi (tx 5 (by omega)) ?_
      refine y_callV (as := [_, _, _, _, _]) CX9_foretell LX9_406 IX9_foretell VX9_foretell ⟨rfl, Nat.le_of_ble_eq_true rfl⟩ dX9_isPlayed_134 hm.o rfl (Nat.le_of_ble_eq_true rfl) (Nat.le_of_ble_eq_true rfl) (by omega) f1 rok_i (hg_ss f3.1 hN hS) ?_
      refine z_if_lt dX9_isPlayed_137 rfl (fun _ => ?_) (fun c => absurd (by decide) c)
      refine z_iconst (v := 0) dX9_isPlayed_144 (by decide) ?_
      refine z_iret dX9_isPlayed_145 ?_
      exact hQ
    · rw [bI_t hq] at hQ
      have ge := mForetell_ge hq
      refine z_aload_n dX9_isPlayed_0 rfl rfl ?_
      refine y_getR FX9_16 dX9_isPlayed_1 rfl hm.o hm.f_texts ?_
      refine z_iload_n dX9_isPlayed_4 rfl rfl ?_
      refine z_iconst (v := 1) dX9_isPlayed_5 (by decide) ?_
      refine z_iadd dX9_isPlayed_6 ?_
      refine y_ialN (753 * t + 1 + 6 * k + 1) dX9_isPlayed_7 hm.A_texts (Nat.le_of_ble_eq_true rfl) (by first | rfl | (simp only [← nI_add, ← pk_mul]; rfl)) (by omega) ?_
      refine z_eqi (tx 1 (by omega)) ?_
      refine z_istore_n dX9_isPlayed_8 rfl (Nat.le_of_ble_eq_true rfl) ?_
      refine z_aload_n dX9_isPlayed_9 rfl rfl ?_
      refine y_getR FX9_16 dX9_isPlayed_10 rfl hm.o hm.f_texts ?_
      refine z_iload_n dX9_isPlayed_13 rfl rfl ?_
      refine z_iconst (v := 2) dX9_isPlayed_14 (by decide) ?_
      refine z_iadd dX9_isPlayed_15 ?_
      refine y_ialN (753 * t + 1 + 6 * k + 2) dX9_isPlayed_16 hm.A_texts (Nat.le_of_ble_eq_true rfl) (by first | rfl | (simp only [← nI_add, ← pk_mul]; rfl)) (by omega) ?_
      refine z_eqi (tx 2 (by omega)) ?_
      refine z_istore_n dX9_isPlayed_17 rfl (Nat.le_of_ble_eq_true rfl) ?_
      refine z_aload_n dX9_isPlayed_18 rfl rfl ?_
      refine y_getR FX9_16 dX9_isPlayed_19 rfl hm.o hm.f_texts ?_
      refine z_iload_n dX9_isPlayed_22 rfl rfl ?_
      refine y_ialN (753 * t + 1 + 6 * k) dX9_isPlayed_23 hm.A_texts (Nat.le_of_ble_eq_true rfl) (by first | rfl | (simp only [← nI_add, ← pk_mul]; rfl)) (by omega) ?_
      refine z_eqi (show _ = nI 5 from (tx 0 (by omega)).trans hs) ?_
      refine z_tableIn (off := 74) (tgt := 98) dX9_isPlayed_24 (by decide) (by decide) rfl rfl ?_
      refine z_aload_n dX9_isPlayed_98 rfl rfl ?_
      refine z_iload_n dX9_isPlayed_99 rfl rfl ?_
      refine z_iload_n dX9_isPlayed_100 rfl rfl ?_
      refine z_iconst (v := 1) dX9_isPlayed_101 (by decide) ?_
      refine z_icmp_ne dX9_isPlayed_102 rfl (fun c => absurd (hw) c) (fun _ => ?_)
      refine z_iconst (v := 1) dX9_isPlayed_105 (by decide) ?_
      refine z_goto dX9_isPlayed_106 rfl ?_
      refine z_aload_n dX9_isPlayed_110 rfl rfl ?_
      refine y_getR FX9_16 dX9_isPlayed_111 rfl hm.o hm.f_texts ?_
      refine z_iload_n dX9_isPlayed_114 rfl rfl ?_
      refine z_iconst (v := 3) dX9_isPlayed_115 (by decide) ?_
      refine z_iadd dX9_isPlayed_116 ?_
      refine y_ialN (753 * t + 1 + 6 * k + 3) dX9_isPlayed_117 hm.A_texts (Nat.le_of_ble_eq_true rfl) (by first | rfl | (simp only [← nI_add, ← pk_mul]; rfl)) (by omega) ?_
      refine z_eqi (tx 3 (by omega)) ?_
      refine z_aload_n dX9_isPlayed_118 rfl rfl ?_
      refine y_getR FX9_16 dX9_isPlayed_119 rfl hm.o hm.f_texts ?_
      refine z_iload_n dX9_isPlayed_122 rfl rfl ?_
      refine z_iconst (v := 4) dX9_isPlayed_123 (by decide) ?_
      refine z_iadd dX9_isPlayed_124 ?_
      refine y_ialN (753 * t + 1 + 6 * k + 4) dX9_isPlayed_125 hm.A_texts (Nat.le_of_ble_eq_true rfl) (by first | rfl | (simp only [← nI_add, ← pk_mul]; rfl)) (by omega) ?_
      refine z_eqi (tx 4 (by omega)) ?_
      refine z_aload_n dX9_isPlayed_126 rfl rfl ?_
      refine y_getR FX9_16 dX9_isPlayed_127 rfl hm.o hm.f_texts ?_
      refine z_iload_n dX9_isPlayed_130 rfl rfl ?_
      refine z_iconst (v := 5) dX9_isPlayed_131 (by decide) ?_
      refine z_iadd dX9_isPlayed_132 ?_
      refine y_ialN (753 * t + 1 + 6 * k + 5) dX9_isPlayed_133 hm.A_texts (Nat.le_of_ble_eq_true rfl) (by first | rfl | (simp only [← nI_add, ← pk_mul]; rfl)) (by omega) ?_
      refine z_eqi (tx 5 (by omega)) ?_
      refine y_callV (as := [_, _, _, _, _]) CX9_foretell LX9_406 IX9_foretell VX9_foretell ⟨rfl, Nat.le_of_ble_eq_true rfl⟩ dX9_isPlayed_134 hm.o rfl (Nat.le_of_ble_eq_true rfl) (Nat.le_of_ble_eq_true rfl) (by omega) f1 rok_i (hg_ss f3.1 hN hS) ?_
      refine z_if_lt dX9_isPlayed_137 rfl (fun c => absurd c (ge)) (fun _ => ?_)
      refine z_iconst (v := 1) dX9_isPlayed_140 (by decide) ?_
      refine z_goto dX9_isPlayed_141 rfl ?_
      refine z_iret dX9_isPlayed_145 ?_
      exact hQ
  · skip
    have eq : plS s.2.2.2.2.2.2 t k s.1 = (bI (¬ (mForetell s.1 (s.2.2.2.2.2.2 (753 * t + 1 + 6 * k + 1)) 0 (s.2.2.2.2.2.2 (753 * t + 1 + 6 * k + 3)) (s.2.2.2.2.2.2 (753 * t + 1 + 6 * k + 4)) (s.2.2.2.2.2.2 (753 * t + 1 + 6 * k + 5))).1 = -1), (mForetell s.1 (s.2.2.2.2.2.2 (753 * t + 1 + 6 * k + 1)) 0 (s.2.2.2.2.2.2 (753 * t + 1 + 6 * k + 3)) (s.2.2.2.2.2.2 (753 * t + 1 + 6 * k + 4)) (s.2.2.2.2.2.2 (753 * t + 1 + 6 * k + 5))).2) := by
      unfold plS
      rw [if_neg (by rw [hs]; decide), if_neg (by rw [hs]; decide), if_pos hs, if_neg hw]
    rw [eq]
    obtain ⟨g, f1, f2, f3⟩ := R_foretell (d := 7) hr hj.1.1 hj.ip (s.2.2.2.2.2.2 (753 * t + 1 + 6 * k + 1)) (al := 0) (by omega) (s.2.2.2.2.2.2 (753 * t + 1 + 6 * k + 3)) (s.2.2.2.2.2.2 (753 * t + 1 + 6 * k + 4)) (s.2.2.2.2.2.2 (753 * t + 1 + 6 * k + 5)) (by omega)
    refine ⟨g, ?_, f2, f3⟩
    intro N S Q hN hS hQ
    have hN : pn h ≤ N := by rw [← f3.1.n]; exact hN
    have hS : ps h ≤ S := by rw [← f3.1.s]; exact hS
    by_cases hq : (mForetell s.1 (s.2.2.2.2.2.2 (753 * t + 1 + 6 * k + 1)) 0 (s.2.2.2.2.2.2 (753 * t + 1 + 6 * k + 3)) (s.2.2.2.2.2.2 (753 * t + 1 + 6 * k + 4)) (s.2.2.2.2.2.2 (753 * t + 1 + 6 * k + 5))).1 = -1
    · rw [bI_f (fun q => q hq)] at hQ
      rw [hq] at f1
      refine z_aload_n dX9_isPlayed_0 rfl rfl ?_
      refine y_getR FX9_16 dX9_isPlayed_1 rfl hm.o hm.f_texts ?_
      refine z_iload_n dX9_isPlayed_4 rfl rfl ?_
      refine z_iconst (v := 1) dX9_isPlayed_5 (by decide) ?_
      refine z_iadd dX9_isPlayed_6 ?_
      refine y_ialN (753 * t + 1 + 6 * k + 1) dX9_isPlayed_7 hm.A_texts (Nat.le_of_ble_eq_true rfl) (by first | rfl | (simp only [← nI_add, ← pk_mul]; rfl)) (by omega) ?_
      refine z_eqi (tx 1 (by omega)) ?_
      refine z_istore_n dX9_isPlayed_8 rfl (Nat.le_of_ble_eq_true rfl) ?_
      refine z_aload_n dX9_isPlayed_9 rfl rfl ?_
      refine y_getR FX9_16 dX9_isPlayed_10 rfl hm.o hm.f_texts ?_
      refine z_iload_n dX9_isPlayed_13 rfl rfl ?_
      refine z_iconst (v := 2) dX9_isPlayed_14 (by decide) ?_
      refine z_iadd dX9_isPlayed_15 ?_
      refine y_ialN (753 * t + 1 + 6 * k + 2) dX9_isPlayed_16 hm.A_texts (Nat.le_of_ble_eq_true rfl) (by first | rfl | (simp only [← nI_add, ← pk_mul]; rfl)) (by omega) ?_
      refine z_eqi (tx 2 (by omega)) ?_
      refine z_istore_n dX9_isPlayed_17 rfl (Nat.le_of_ble_eq_true rfl) ?_
      refine z_aload_n dX9_isPlayed_18 rfl rfl ?_
      refine y_getR FX9_16 dX9_isPlayed_19 rfl hm.o hm.f_texts ?_
      refine z_iload_n dX9_isPlayed_22 rfl rfl ?_
      refine y_ialN (753 * t + 1 + 6 * k) dX9_isPlayed_23 hm.A_texts (Nat.le_of_ble_eq_true rfl) (by first | rfl | (simp only [← nI_add, ← pk_mul]; rfl)) (by omega) ?_
      refine z_eqi (show _ = nI 5 from (tx 0 (by omega)).trans hs) ?_
      refine z_tableIn (off := 74) (tgt := 98) dX9_isPlayed_24 (by decide) (by decide) rfl rfl ?_
      refine z_aload_n dX9_isPlayed_98 rfl rfl ?_
      refine z_iload_n dX9_isPlayed_99 rfl rfl ?_
      refine z_iload_n dX9_isPlayed_100 rfl rfl ?_
      refine z_iconst (v := 1) dX9_isPlayed_101 (by decide) ?_
      refine z_icmp_ne dX9_isPlayed_102 rfl (fun _ => ?_) (fun c => absurd c (hw))
      refine z_iconst (v := 0) dX9_isPlayed_109 (by decide) ?_
      refine z_aload_n dX9_isPlayed_110 rfl rfl ?_
      refine y_getR FX9_16 dX9_isPlayed_111 rfl hm.o hm.f_texts ?_
      refine z_iload_n dX9_isPlayed_114 rfl rfl ?_
      refine z_iconst (v := 3) dX9_isPlayed_115 (by decide) ?_
      refine z_iadd dX9_isPlayed_116 ?_
      refine y_ialN (753 * t + 1 + 6 * k + 3) dX9_isPlayed_117 hm.A_texts (Nat.le_of_ble_eq_true rfl) (by first | rfl | (simp only [← nI_add, ← pk_mul]; rfl)) (by omega) ?_
      refine z_eqi (tx 3 (by omega)) ?_
      refine z_aload_n dX9_isPlayed_118 rfl rfl ?_
      refine y_getR FX9_16 dX9_isPlayed_119 rfl hm.o hm.f_texts ?_
      refine z_iload_n dX9_isPlayed_122 rfl rfl ?_
      refine z_iconst (v := 4) dX9_isPlayed_123 (by decide) ?_
      refine z_iadd dX9_isPlayed_124 ?_
      refine y_ialN (753 * t + 1 + 6 * k + 4) dX9_isPlayed_125 hm.A_texts (Nat.le_of_ble_eq_true rfl) (by first | rfl | (simp only [← nI_add, ← pk_mul]; rfl)) (by omega) ?_
      refine z_eqi (tx 4 (by omega)) ?_
      refine z_aload_n dX9_isPlayed_126 rfl rfl ?_
      refine y_getR FX9_16 dX9_isPlayed_127 rfl hm.o hm.f_texts ?_
      refine z_iload_n dX9_isPlayed_130 rfl rfl ?_
      refine z_iconst (v := 5) dX9_isPlayed_131 (by decide) ?_
      refine z_iadd dX9_isPlayed_132 ?_
      refine y_ialN (753 * t + 1 + 6 * k + 5) dX9_isPlayed_133 hm.A_texts (Nat.le_of_ble_eq_true rfl) (by first | rfl | (simp only [← nI_add, ← pk_mul]; rfl)) (by omega) ?_
      refine z_eqi (tx 5 (by omega)) ?_
      refine y_callV (as := [_, _, _, _, _]) CX9_foretell LX9_406 IX9_foretell VX9_foretell ⟨rfl, Nat.le_of_ble_eq_true rfl⟩ dX9_isPlayed_134 hm.o rfl (Nat.le_of_ble_eq_true rfl) (Nat.le_of_ble_eq_true rfl) (by omega) f1 rok_i (hg_ss f3.1 hN hS) ?_
      refine z_if_lt dX9_isPlayed_137 rfl (fun _ => ?_) (fun c => absurd (by decide) c)
      refine z_iconst (v := 0) dX9_isPlayed_144 (by decide) ?_
      refine z_iret dX9_isPlayed_145 ?_
      exact hQ
    · rw [bI_t hq] at hQ
      have ge := mForetell_ge hq
      refine z_aload_n dX9_isPlayed_0 rfl rfl ?_
      refine y_getR FX9_16 dX9_isPlayed_1 rfl hm.o hm.f_texts ?_
      refine z_iload_n dX9_isPlayed_4 rfl rfl ?_
      refine z_iconst (v := 1) dX9_isPlayed_5 (by decide) ?_
      refine z_iadd dX9_isPlayed_6 ?_
      refine y_ialN (753 * t + 1 + 6 * k + 1) dX9_isPlayed_7 hm.A_texts (Nat.le_of_ble_eq_true rfl) (by first | rfl | (simp only [← nI_add, ← pk_mul]; rfl)) (by omega) ?_
      refine z_eqi (tx 1 (by omega)) ?_
      refine z_istore_n dX9_isPlayed_8 rfl (Nat.le_of_ble_eq_true rfl) ?_
      refine z_aload_n dX9_isPlayed_9 rfl rfl ?_
      refine y_getR FX9_16 dX9_isPlayed_10 rfl hm.o hm.f_texts ?_
      refine z_iload_n dX9_isPlayed_13 rfl rfl ?_
      refine z_iconst (v := 2) dX9_isPlayed_14 (by decide) ?_
      refine z_iadd dX9_isPlayed_15 ?_
      refine y_ialN (753 * t + 1 + 6 * k + 2) dX9_isPlayed_16 hm.A_texts (Nat.le_of_ble_eq_true rfl) (by first | rfl | (simp only [← nI_add, ← pk_mul]; rfl)) (by omega) ?_
      refine z_eqi (tx 2 (by omega)) ?_
      refine z_istore_n dX9_isPlayed_17 rfl (Nat.le_of_ble_eq_true rfl) ?_
      refine z_aload_n dX9_isPlayed_18 rfl rfl ?_
      refine y_getR FX9_16 dX9_isPlayed_19 rfl hm.o hm.f_texts ?_
      refine z_iload_n dX9_isPlayed_22 rfl rfl ?_
      refine y_ialN (753 * t + 1 + 6 * k) dX9_isPlayed_23 hm.A_texts (Nat.le_of_ble_eq_true rfl) (by first | rfl | (simp only [← nI_add, ← pk_mul]; rfl)) (by omega) ?_
      refine z_eqi (show _ = nI 5 from (tx 0 (by omega)).trans hs) ?_
      refine z_tableIn (off := 74) (tgt := 98) dX9_isPlayed_24 (by decide) (by decide) rfl rfl ?_
      refine z_aload_n dX9_isPlayed_98 rfl rfl ?_
      refine z_iload_n dX9_isPlayed_99 rfl rfl ?_
      refine z_iload_n dX9_isPlayed_100 rfl rfl ?_
      refine z_iconst (v := 1) dX9_isPlayed_101 (by decide) ?_
      refine z_icmp_ne dX9_isPlayed_102 rfl (fun _ => ?_) (fun c => absurd c (hw))
      refine z_iconst (v := 0) dX9_isPlayed_109 (by decide) ?_
      refine z_aload_n dX9_isPlayed_110 rfl rfl ?_
      refine y_getR FX9_16 dX9_isPlayed_111 rfl hm.o hm.f_texts ?_
      refine z_iload_n dX9_isPlayed_114 rfl rfl ?_
      refine z_iconst (v := 3) dX9_isPlayed_115 (by decide) ?_
      refine z_iadd dX9_isPlayed_116 ?_
      refine y_ialN (753 * t + 1 + 6 * k + 3) dX9_isPlayed_117 hm.A_texts (Nat.le_of_ble_eq_true rfl) (by first | rfl | (simp only [← nI_add, ← pk_mul]; rfl)) (by omega) ?_
      refine z_eqi (tx 3 (by omega)) ?_
      refine z_aload_n dX9_isPlayed_118 rfl rfl ?_
      refine y_getR FX9_16 dX9_isPlayed_119 rfl hm.o hm.f_texts ?_
      refine z_iload_n dX9_isPlayed_122 rfl rfl ?_
      refine z_iconst (v := 4) dX9_isPlayed_123 (by decide) ?_
      refine z_iadd dX9_isPlayed_124 ?_
      refine y_ialN (753 * t + 1 + 6 * k + 4) dX9_isPlayed_125 hm.A_texts (Nat.le_of_ble_eq_true rfl) (by first | rfl | (simp only [← nI_add, ← pk_mul]; rfl)) (by omega) ?_
      refine z_eqi (tx 4 (by omega)) ?_
      refine z_aload_n dX9_isPlayed_126 rfl rfl ?_
      refine y_getR FX9_16 dX9_isPlayed_127 rfl hm.o hm.f_texts ?_
      refine z_iload_n dX9_isPlayed_130 rfl rfl ?_
      refine z_iconst (v := 5) dX9_isPlayed_131 (by decide) ?_
      refine z_iadd dX9_isPlayed_132 ?_
      refine y_ialN (753 * t + 1 + 6 * k + 5) dX9_isPlayed_133 hm.A_texts (Nat.le_of_ble_eq_true rfl) (by first | rfl | (simp only [← nI_add, ← pk_mul]; rfl)) (by omega) ?_
      refine z_eqi (tx 5 (by omega)) ?_
      refine y_callV (as := [_, _, _, _, _]) CX9_foretell LX9_406 IX9_foretell VX9_foretell ⟨rfl, Nat.le_of_ble_eq_true rfl⟩ dX9_isPlayed_134 hm.o rfl (Nat.le_of_ble_eq_true rfl) (Nat.le_of_ble_eq_true rfl) (by omega) f1 rok_i (hg_ss f3.1 hN hS) ?_
      refine z_if_lt dX9_isPlayed_137 rfl (fun c => absurd c (ge)) (fun _ => ?_)
      refine z_iconst (v := 1) dX9_isPlayed_140 (by decide) ?_
      refine z_goto dX9_isPlayed_141 rfl ?_
      refine z_iret dX9_isPlayed_145 ?_
      exact hQ

theorem r_isPlayed_6 {s : Ms} {h : Hp} {d t k : Nat} (hr : RM s h) (hj : JY s.2.2.2.2.2.2 s.1) (ht : t < 4) (hk : k < 24) (hs : s.2.2.2.2.2.2 (753 * t + 1 + 6 * k) = nI 6) (hb : TXB s.2.2.2.2.2.2 t) (hc : k < cnt s.2.2.2.2.2.2 t) (hd : 8 ≤ d) : ∃ h1, Sp d mX9_isPlayed [.ref 488, .int (nI (753 * t + 1 + 6 * k))] h (some (.int (plS s.2.2.2.2.2.2 t k s.1).1)) h1 ∧ RM ((plS s.2.2.2.2.2.2 t k s.1).2, s.2) h1 ∧ FM h h1 := by
  have hm := hr.m
  have tx : ∀ c, c < 6 → pI h 491 (753 * t + 1 + 6 * k + c) = s.2.2.2.2.2.2 (753 * t + 1 + 6 * k + c) := fun c hc => hr.2.2.2.2.2.2.2.1 _ (by omega)
  have eq : plS s.2.2.2.2.2.2 t k s.1 = (mBring s.1 0 (s.2.2.2.2.2.2 (753 * t + 1 + 6 * k + 2)) (s.2.2.2.2.2.2 (753 * t + 1 + 6 * k + 1))) := by
    unfold plS
    rw [if_neg (by rw [hs]; decide), if_neg (by rw [hs]; decide), if_neg (by rw [hs]; decide), if_pos hs]
  have r01 := plS_01 (tf := s.2.2.2.2.2.2) (t := t) (k := k) (a := s.1)
  rw [eq] at r01 ⊢
  obtain ⟨g, f1, f2, f3⟩ := R_bring (d := 7) hr hj.1.1 hj.ip hj.1.2.2.1 (s.2.2.2.2.2.2 (753 * t + 1 + 6 * k + 2)) (s.2.2.2.2.2.2 (753 * t + 1 + 6 * k + 1)) (by omega)
  refine ⟨g, ?_, f2, f3⟩
  intro N S Q hN hS hQ
  have hN : pn h ≤ N := by rw [← f3.1.n]; exact hN
  have hS : ps h ≤ S := by rw [← f3.1.s]; exact hS
  refine z_aload_n dX9_isPlayed_0 rfl rfl ?_
  refine y_getR FX9_16 dX9_isPlayed_1 rfl hm.o hm.f_texts ?_
  refine z_iload_n dX9_isPlayed_4 rfl rfl ?_
  refine z_iconst (v := 1) dX9_isPlayed_5 (by decide) ?_
  refine z_iadd dX9_isPlayed_6 ?_
  refine y_ialN (753 * t + 1 + 6 * k + 1) dX9_isPlayed_7 hm.A_texts (Nat.le_of_ble_eq_true rfl) (by first | rfl | (simp only [← nI_add, ← pk_mul]; rfl)) (by omega) ?_
  refine z_eqi (tx 1 (by omega)) ?_
  refine z_istore_n dX9_isPlayed_8 rfl (Nat.le_of_ble_eq_true rfl) ?_
  refine z_aload_n dX9_isPlayed_9 rfl rfl ?_
  refine y_getR FX9_16 dX9_isPlayed_10 rfl hm.o hm.f_texts ?_
  refine z_iload_n dX9_isPlayed_13 rfl rfl ?_
  refine z_iconst (v := 2) dX9_isPlayed_14 (by decide) ?_
  refine z_iadd dX9_isPlayed_15 ?_
  refine y_ialN (753 * t + 1 + 6 * k + 2) dX9_isPlayed_16 hm.A_texts (Nat.le_of_ble_eq_true rfl) (by first | rfl | (simp only [← nI_add, ← pk_mul]; rfl)) (by omega) ?_
  refine z_eqi (tx 2 (by omega)) ?_
  refine z_istore_n dX9_isPlayed_17 rfl (Nat.le_of_ble_eq_true rfl) ?_
  refine z_aload_n dX9_isPlayed_18 rfl rfl ?_
  refine y_getR FX9_16 dX9_isPlayed_19 rfl hm.o hm.f_texts ?_
  refine z_iload_n dX9_isPlayed_22 rfl rfl ?_
  refine y_ialN (753 * t + 1 + 6 * k) dX9_isPlayed_23 hm.A_texts (Nat.le_of_ble_eq_true rfl) (by first | rfl | (simp only [← nI_add, ← pk_mul]; rfl)) (by omega) ?_
  refine z_eqi (show _ = nI 6 from (tx 0 (by omega)).trans hs) ?_
  refine z_tableIn (off := 122) (tgt := 146) dX9_isPlayed_24 (by decide) (by decide) rfl rfl ?_
  refine z_aload_n dX9_isPlayed_146 rfl rfl ?_
  refine z_iload_n dX9_isPlayed_147 rfl rfl ?_
  refine z_iload_n dX9_isPlayed_148 rfl rfl ?_
  refine y_callV (as := [_, _]) CX9_bring LX9_410 IX9_bring VX9_bring ⟨rfl, Nat.le_of_ble_eq_true rfl⟩ dX9_isPlayed_149 hm.o rfl (Nat.le_of_ble_eq_true rfl) (Nat.le_of_ble_eq_true rfl) (by omega) f1 (rok_z r01) (hg_ss f3.1 hN hS) ?_
  refine z_iret dX9_isPlayed_152 ?_
  exact hQ

theorem r_isPlayed_7 {s : Ms} {h : Hp} {d t k : Nat} (hr : RM s h) (hj : JY s.2.2.2.2.2.2 s.1) (ht : t < 4) (hk : k < 24) (hs : s.2.2.2.2.2.2 (753 * t + 1 + 6 * k) = nI 7) (hb : TXB s.2.2.2.2.2.2 t) (hc : k < cnt s.2.2.2.2.2.2 t) (hd : 8 ≤ d) : ∃ h1, Sp d mX9_isPlayed [.ref 488, .int (nI (753 * t + 1 + 6 * k))] h (some (.int (plS s.2.2.2.2.2.2 t k s.1).1)) h1 ∧ RM ((plS s.2.2.2.2.2.2 t k s.1).2, s.2) h1 ∧ FM h h1 := by
  have hm := hr.m
  have tx : ∀ c, c < 6 → pI h 491 (753 * t + 1 + 6 * k + c) = s.2.2.2.2.2.2 (753 * t + 1 + 6 * k + c) := fun c hc => hr.2.2.2.2.2.2.2.1 _ (by omega)
  have eq : plS s.2.2.2.2.2.2 t k s.1 = (mBring s.1 1 (s.2.2.2.2.2.2 (753 * t + 1 + 6 * k + 2)) (s.2.2.2.2.2.2 (753 * t + 1 + 6 * k + 1))) := by
    unfold plS
    rw [if_neg (by rw [hs]; decide), if_neg (by rw [hs]; decide), if_neg (by rw [hs]; decide), if_neg (by rw [hs]; decide), if_pos hs]
  have r01 := plS_01 (tf := s.2.2.2.2.2.2) (t := t) (k := k) (a := s.1)
  rw [eq] at r01 ⊢
  obtain ⟨g, f1, f2, f3⟩ := R_spoil (d := 7) hr hj.1.1 hj.ip hj.1.2.2.1 (s.2.2.2.2.2.2 (753 * t + 1 + 6 * k + 2)) (s.2.2.2.2.2.2 (753 * t + 1 + 6 * k + 1)) (by omega)
  refine ⟨g, ?_, f2, f3⟩
  intro N S Q hN hS hQ
  have hN : pn h ≤ N := by rw [← f3.1.n]; exact hN
  have hS : ps h ≤ S := by rw [← f3.1.s]; exact hS
  refine z_aload_n dX9_isPlayed_0 rfl rfl ?_
  refine y_getR FX9_16 dX9_isPlayed_1 rfl hm.o hm.f_texts ?_
  refine z_iload_n dX9_isPlayed_4 rfl rfl ?_
  refine z_iconst (v := 1) dX9_isPlayed_5 (by decide) ?_
  refine z_iadd dX9_isPlayed_6 ?_
  refine y_ialN (753 * t + 1 + 6 * k + 1) dX9_isPlayed_7 hm.A_texts (Nat.le_of_ble_eq_true rfl) (by first | rfl | (simp only [← nI_add, ← pk_mul]; rfl)) (by omega) ?_
  refine z_eqi (tx 1 (by omega)) ?_
  refine z_istore_n dX9_isPlayed_8 rfl (Nat.le_of_ble_eq_true rfl) ?_
  refine z_aload_n dX9_isPlayed_9 rfl rfl ?_
  refine y_getR FX9_16 dX9_isPlayed_10 rfl hm.o hm.f_texts ?_
  refine z_iload_n dX9_isPlayed_13 rfl rfl ?_
  refine z_iconst (v := 2) dX9_isPlayed_14 (by decide) ?_
  refine z_iadd dX9_isPlayed_15 ?_
  refine y_ialN (753 * t + 1 + 6 * k + 2) dX9_isPlayed_16 hm.A_texts (Nat.le_of_ble_eq_true rfl) (by first | rfl | (simp only [← nI_add, ← pk_mul]; rfl)) (by omega) ?_
  refine z_eqi (tx 2 (by omega)) ?_
  refine z_istore_n dX9_isPlayed_17 rfl (Nat.le_of_ble_eq_true rfl) ?_
  refine z_aload_n dX9_isPlayed_18 rfl rfl ?_
  refine y_getR FX9_16 dX9_isPlayed_19 rfl hm.o hm.f_texts ?_
  refine z_iload_n dX9_isPlayed_22 rfl rfl ?_
  refine y_ialN (753 * t + 1 + 6 * k) dX9_isPlayed_23 hm.A_texts (Nat.le_of_ble_eq_true rfl) (by first | rfl | (simp only [← nI_add, ← pk_mul]; rfl)) (by omega) ?_
  refine z_eqi (show _ = nI 7 from (tx 0 (by omega)).trans hs) ?_
  refine z_tableIn (off := 129) (tgt := 153) dX9_isPlayed_24 (by decide) (by decide) rfl rfl ?_
  refine z_aload_n dX9_isPlayed_153 rfl rfl ?_
  refine z_iload_n dX9_isPlayed_154 rfl rfl ?_
  refine z_iload_n dX9_isPlayed_155 rfl rfl ?_
  refine y_callV (as := [_, _]) CX9_spoil LX9_413 IX9_spoil VX9_spoil ⟨rfl, Nat.le_of_ble_eq_true rfl⟩ dX9_isPlayed_156 hm.o rfl (Nat.le_of_ble_eq_true rfl) (Nat.le_of_ble_eq_true rfl) (by omega) f1 (rok_z r01) (hg_ss f3.1 hN hS) ?_
  refine z_iret dX9_isPlayed_159 ?_
  exact hQ

theorem r_isPlayed_8 {s : Ms} {h : Hp} {d t k : Nat} (hr : RM s h) (hj : JY s.2.2.2.2.2.2 s.1) (ht : t < 4) (hk : k < 24) (hs : s.2.2.2.2.2.2 (753 * t + 1 + 6 * k) = nI 8) (hb : TXB s.2.2.2.2.2.2 t) (hc : k < cnt s.2.2.2.2.2.2 t) (hd : 8 ≤ d) : ∃ h1, Sp d mX9_isPlayed [.ref 488, .int (nI (753 * t + 1 + 6 * k))] h (some (.int (plS s.2.2.2.2.2.2 t k s.1).1)) h1 ∧ RM ((plS s.2.2.2.2.2.2 t k s.1).2, s.2) h1 ∧ FM h h1 := by
  have hm := hr.m
  have tx : ∀ c, c < 6 → pI h 491 (753 * t + 1 + 6 * k + c) = s.2.2.2.2.2.2 (753 * t + 1 + 6 * k + c) := fun c hc => hr.2.2.2.2.2.2.2.1 _ (by omega)
  have eq : plS s.2.2.2.2.2.2 t k s.1 = (mSell s.1 (s.2.2.2.2.2.2 (753 * t + 1 + 6 * k + 1)) (s.2.2.2.2.2.2 (753 * t + 1 + 6 * k + 2)) (s.2.2.2.2.2.2 (753 * t + 1 + 6 * k + 3))) := by
    unfold plS
    rw [if_neg (by rw [hs]; decide), if_neg (by rw [hs]; decide), if_neg (by rw [hs]; decide), if_neg (by rw [hs]; decide), if_neg (by rw [hs]; decide), if_pos hs]
  have r01 := plS_01 (tf := s.2.2.2.2.2.2) (t := t) (k := k) (a := s.1)
  rw [eq] at r01 ⊢
  obtain ⟨g, f1, f2, f3⟩ := R_sell (d := 7) hr hj.1.1.2.2.2.2.1 hj.1.2.1 hj.1.1.1 (s.2.2.2.2.2.2 (753 * t + 1 + 6 * k + 1)) (s.2.2.2.2.2.2 (753 * t + 1 + 6 * k + 2)) (s.2.2.2.2.2.2 (753 * t + 1 + 6 * k + 3)) (by omega)
  refine ⟨g, ?_, f2, f3⟩
  intro N S Q hN hS hQ
  have hN : pn h ≤ N := by rw [← f3.1.n]; exact hN
  have hS : ps h ≤ S := by rw [← f3.1.s]; exact hS
  refine z_aload_n dX9_isPlayed_0 rfl rfl ?_
  refine y_getR FX9_16 dX9_isPlayed_1 rfl hm.o hm.f_texts ?_
  refine z_iload_n dX9_isPlayed_4 rfl rfl ?_
  refine z_iconst (v := 1) dX9_isPlayed_5 (by decide) ?_
  refine z_iadd dX9_isPlayed_6 ?_
  refine y_ialN (753 * t + 1 + 6 * k + 1) dX9_isPlayed_7 hm.A_texts (Nat.le_of_ble_eq_true rfl) (by first | rfl | (simp only [← nI_add, ← pk_mul]; rfl)) (by omega) ?_
  refine z_eqi (tx 1 (by omega)) ?_
  refine z_istore_n dX9_isPlayed_8 rfl (Nat.le_of_ble_eq_true rfl) ?_
  refine z_aload_n dX9_isPlayed_9 rfl rfl ?_
  refine y_getR FX9_16 dX9_isPlayed_10 rfl hm.o hm.f_texts ?_
  refine z_iload_n dX9_isPlayed_13 rfl rfl ?_
  refine z_iconst (v := 2) dX9_isPlayed_14 (by decide) ?_
  refine z_iadd dX9_isPlayed_15 ?_
  refine y_ialN (753 * t + 1 + 6 * k + 2) dX9_isPlayed_16 hm.A_texts (Nat.le_of_ble_eq_true rfl) (by first | rfl | (simp only [← nI_add, ← pk_mul]; rfl)) (by omega) ?_
  refine z_eqi (tx 2 (by omega)) ?_
  refine z_istore_n dX9_isPlayed_17 rfl (Nat.le_of_ble_eq_true rfl) ?_
  refine z_aload_n dX9_isPlayed_18 rfl rfl ?_
  refine y_getR FX9_16 dX9_isPlayed_19 rfl hm.o hm.f_texts ?_
  refine z_iload_n dX9_isPlayed_22 rfl rfl ?_
  refine y_ialN (753 * t + 1 + 6 * k) dX9_isPlayed_23 hm.A_texts (Nat.le_of_ble_eq_true rfl) (by first | rfl | (simp only [← nI_add, ← pk_mul]; rfl)) (by omega) ?_
  refine z_eqi (show _ = nI 8 from (tx 0 (by omega)).trans hs) ?_
  refine z_tableIn (off := 136) (tgt := 160) dX9_isPlayed_24 (by decide) (by decide) rfl rfl ?_
  refine z_aload_n dX9_isPlayed_160 rfl rfl ?_
  refine z_iload_n dX9_isPlayed_161 rfl rfl ?_
  refine z_iload_n dX9_isPlayed_162 rfl rfl ?_
  refine z_aload_n dX9_isPlayed_163 rfl rfl ?_
  refine y_getR FX9_16 dX9_isPlayed_164 rfl hm.o hm.f_texts ?_
  refine z_iload_n dX9_isPlayed_167 rfl rfl ?_
  refine z_iconst (v := 3) dX9_isPlayed_168 (by decide) ?_
  refine z_iadd dX9_isPlayed_169 ?_
  refine y_ialN (753 * t + 1 + 6 * k + 3) dX9_isPlayed_170 hm.A_texts (Nat.le_of_ble_eq_true rfl) (by first | rfl | (simp only [← nI_add, ← pk_mul]; rfl)) (by omega) ?_
  refine z_eqi (tx 3 (by omega)) ?_
  refine y_callV (as := [_, _, _]) CX9_sell LX9_416 IX9_sell VX9_sell ⟨rfl, Nat.le_of_ble_eq_true rfl⟩ dX9_isPlayed_171 hm.o rfl (Nat.le_of_ble_eq_true rfl) (Nat.le_of_ble_eq_true rfl) (by omega) f1 (rok_z r01) (hg_ss f3.1 hN hS) ?_
  refine z_iret dX9_isPlayed_174 ?_
  exact hQ

theorem r_isPlayed_9 {s : Ms} {h : Hp} {d t k : Nat} (hr : RM s h) (hj : JY s.2.2.2.2.2.2 s.1) (ht : t < 4) (hk : k < 24) (hs : s.2.2.2.2.2.2 (753 * t + 1 + 6 * k) = nI 9) (hb : TXB s.2.2.2.2.2.2 t) (hc : k < cnt s.2.2.2.2.2.2 t) (hd : 8 ≤ d) : ∃ h1, Sp d mX9_isPlayed [.ref 488, .int (nI (753 * t + 1 + 6 * k))] h (some (.int (plS s.2.2.2.2.2.2 t k s.1).1)) h1 ∧ RM ((plS s.2.2.2.2.2.2 t k s.1).2, s.2) h1 ∧ FM h h1 := by
  have hm := hr.m
  have tx : ∀ c, c < 6 → pI h 491 (753 * t + 1 + 6 * k + c) = s.2.2.2.2.2.2 (753 * t + 1 + 6 * k + c) := fun c hc => hr.2.2.2.2.2.2.2.1 _ (by omega)
  obtain ⟨n, hn, hv1⟩ := hb k hc hs
  have eq : plS s.2.2.2.2.2.2 t k s.1 = (bI (s.1 8 + n ≤ 9999), dyA s.2.2.2.2.2.2 (min n (9999 - s.1 8)) s.1) := by
    unfold plS
    rw [if_neg (by rw [hs]; decide), if_neg (by rw [hs]; decide), if_neg (by rw [hs]; decide), if_neg (by rw [hs]; decide), if_neg (by rw [hs]; decide), if_neg (by rw [hs]; decide), if_pos hs, hv1, nn_nI (by omega)]
  rw [eq]
  have r01 := bI_01 (b := s.1 8 + n ≤ 9999)
  obtain ⟨g, f1, f2, _, f3⟩ := r_arePassed (d := 7) hr hj.1 hn (by omega)
  refine ⟨g, ?_, f2, f3⟩
  intro N S Q hN hS hQ
  have hN : pn h ≤ N := by rw [← f3.1.n]; exact hN
  have hS : ps h ≤ S := by rw [← f3.1.s]; exact hS
  refine z_aload_n dX9_isPlayed_0 rfl rfl ?_
  refine y_getR FX9_16 dX9_isPlayed_1 rfl hm.o hm.f_texts ?_
  refine z_iload_n dX9_isPlayed_4 rfl rfl ?_
  refine z_iconst (v := 1) dX9_isPlayed_5 (by decide) ?_
  refine z_iadd dX9_isPlayed_6 ?_
  refine y_ialN (753 * t + 1 + 6 * k + 1) dX9_isPlayed_7 hm.A_texts (Nat.le_of_ble_eq_true rfl) (by first | rfl | (simp only [← nI_add, ← pk_mul]; rfl)) (by omega) ?_
  refine z_eqi ((tx 1 (by omega)).trans hv1) ?_
  refine z_istore_n dX9_isPlayed_8 rfl (Nat.le_of_ble_eq_true rfl) ?_
  refine z_aload_n dX9_isPlayed_9 rfl rfl ?_
  refine y_getR FX9_16 dX9_isPlayed_10 rfl hm.o hm.f_texts ?_
  refine z_iload_n dX9_isPlayed_13 rfl rfl ?_
  refine z_iconst (v := 2) dX9_isPlayed_14 (by decide) ?_
  refine z_iadd dX9_isPlayed_15 ?_
  refine y_ialN (753 * t + 1 + 6 * k + 2) dX9_isPlayed_16 hm.A_texts (Nat.le_of_ble_eq_true rfl) (by first | rfl | (simp only [← nI_add, ← pk_mul]; rfl)) (by omega) ?_
  refine z_eqi (tx 2 (by omega)) ?_
  refine z_istore_n dX9_isPlayed_17 rfl (Nat.le_of_ble_eq_true rfl) ?_
  refine z_aload_n dX9_isPlayed_18 rfl rfl ?_
  refine y_getR FX9_16 dX9_isPlayed_19 rfl hm.o hm.f_texts ?_
  refine z_iload_n dX9_isPlayed_22 rfl rfl ?_
  refine y_ialN (753 * t + 1 + 6 * k) dX9_isPlayed_23 hm.A_texts (Nat.le_of_ble_eq_true rfl) (by first | rfl | (simp only [← nI_add, ← pk_mul]; rfl)) (by omega) ?_
  refine z_eqi (show _ = nI 9 from (tx 0 (by omega)).trans hs) ?_
  refine z_tableIn (off := 151) (tgt := 175) dX9_isPlayed_24 (by decide) (by decide) rfl rfl ?_
  refine z_aload_n dX9_isPlayed_175 rfl rfl ?_
  refine z_iload_n dX9_isPlayed_176 rfl rfl ?_
  refine y_callV (as := [_]) CX9_arePassed LX9_397 IX9_arePassed VX9_arePassed ⟨rfl, Nat.le_of_ble_eq_true rfl⟩ dX9_isPlayed_177 hm.o rfl (Nat.le_of_ble_eq_true rfl) (Nat.le_of_ble_eq_true rfl) (by omega) f1 (rok_z r01) (hg_ss f3.1 hN hS) ?_
  refine z_iret dX9_isPlayed_180 ?_
  exact hQ

theorem r_isPlayed {s : Ms} {h : Hp} {d t k : Nat} (hr : RM s h) (hj : JY s.2.2.2.2.2.2 s.1) (ht : t < 4) (hx : TXV s.2.2.2.2.2.2 t) (hb : TXB s.2.2.2.2.2.2 t) (hc : k < cnt s.2.2.2.2.2.2 t) (hd : 8 ≤ d) : ∃ h1, Sp d mX9_isPlayed [.ref 488, .int (nI (753 * t + 1 + 6 * k))] h (some (.int (plS s.2.2.2.2.2.2 t k s.1).1)) h1 ∧ RM ((plS s.2.2.2.2.2.2 t k s.1).2, s.2) h1 ∧ FM h h1 := by
  obtain ⟨sv, h9, hs⟩ := hx.2.2.1 k hc
  have hk : k < 24 := Nat.lt_of_lt_of_le hc hx.1
  rcases (show sv = 0 ∨ sv = 1 ∨ sv = 2 ∨ sv = 3 ∨ sv = 4 ∨ sv = 5 ∨ sv = 6 ∨ sv = 7 ∨ sv = 8 ∨ sv = 9 by omega) with rfl | rfl | rfl | rfl | rfl | rfl | rfl | rfl | rfl | rfl
  · exact r_isPlayed_0 hr hj ht hk hs hb hc hd
  · exact r_isPlayed_1 hr hj ht hk hs hb hc hd
  · exact r_isPlayed_2 hr hj ht hk hs hb hc hd
  · exact r_isPlayed_3 hr hj ht hk hs hb hc hd
  · exact r_isPlayed_4 hr hj ht hk hs hb hc hd
  · exact r_isPlayed_5 hr hj ht hk hs hb hc hd
  · exact r_isPlayed_6 hr hj ht hk hs hb hc hd
  · exact r_isPlayed_7 hr hj ht hk hs hb hc hd
  · exact r_isPlayed_8 hr hj ht hk hs hb hc hd
  · exact r_isPlayed_9 hr hj ht hk hs hb hc hd
theorem r_played_loop {s2 : Mr} {tf : Nat → Int32} {h : Hp} {d t : Nat} (htf : tf = s2.2.2.2.2.2) (ht : t < 4) (hx : TXV tf t) (hb : TXB tf t) (hd : 9 ≤ d) : ∀ r k a (h1 : Hp), k + r = cnt tf t → JY tf a → RM (a, s2) h1 → FM h h1 → ∃ h2, RM ((plL tf t r k a).2, s2) h2 ∧ FM h h2 ∧ ∀ (N S : Nat) (Q : Option Value → Hp → Prop), pn h ≤ N → ps h ≤ S → Q (some (.int (plL tf t r k a).1)) h2 → T d N S mX9_played 21 [some (.ref 488), some (.int (nI t)), some (.int (nI k))] [] h1 Q := by
  have c24 := hx.1
  intro r
  induction r with
  | zero =>
    intro k a h1 hi hj hr1 f1
    have hm := hr1.m
    refine ⟨h1, hr1, f1, fun N S Q hN hS hQ => ?_⟩
    refine z_iload_n dX9_played_21 rfl rfl ?_
    refine z_aload_n dX9_played_22 rfl rfl ?_
    refine y_getR FX9_16 dX9_played_23 rfl hm.o hm.f_texts ?_
    refine z_sipush (v := 753) dX9_played_26 (by decide) ?_
    refine z_iload_n dX9_played_29 rfl rfl ?_
    refine z_imul dX9_played_30 ?_
    refine y_ialN (753 * t) dX9_played_31 hm.A_texts (Nat.le_of_ble_eq_true rfl) (by first | rfl | (simp only [← nI_add, ← pk_mul]; rfl)) (by omega) ?_
    refine z_eqi (show _ = nI (cnt tf t) by rw [hr1.2.2.2.2.2.2.2.1 _ (by omega)]; subst htf; exact hx.2.1) ?_
    refine z_icmp_ge dX9_played_32 rfl (fun _ => ?_) (fun c => absurd ((nI_leI (by omega) (by omega)).mpr (by omega)) c)
    refine z_iconst (v := -1) dX9_played_62 (by decide) ?_
    refine z_iret dX9_played_63 ?_
    exact hQ
  | succ r ih =>
    intro k a h1 hi hj hr1 f1
    have hm := hr1.m
    obtain ⟨g, q1, q2, q3⟩ := r_isPlayed (s := (a, s2)) (d := 8) (t := t) (k := k) hr1 (by rw [← htf]; exact hj) ht (by rw [← htf]; exact hx) (by rw [← htf]; exact hb) (by rw [← htf]; omega) (Nat.le_refl _)
    rw [← htf] at q1 q2
    have es : plL tf t (r + 1) k a = if (plS tf t k a).1 = 0 then (nI k, (plS tf t k a).2) else plL tf t r (k + 1) (plS tf t k a).2 := rfl
    by_cases h0 : (plS tf t k a).1 = 0
    · rw [es, if_pos h0]
      refine ⟨g, q2, f1.tr q3, fun N S Q hN hS hQ => ?_⟩
      have hN1 : pn h1 ≤ N := by rw [f1.1.n]; exact hN
      have hS1 : ps h1 ≤ S := by rw [f1.1.s]; exact hS
      refine z_iload_n dX9_played_21 rfl rfl ?_
      refine z_aload_n dX9_played_22 rfl rfl ?_
      refine y_getR FX9_16 dX9_played_23 rfl hm.o hm.f_texts ?_
      refine z_sipush (v := 753) dX9_played_26 (by decide) ?_
      refine z_iload_n dX9_played_29 rfl rfl ?_
      refine z_imul dX9_played_30 ?_
      refine y_ialN (753 * t) dX9_played_31 hm.A_texts (Nat.le_of_ble_eq_true rfl) (by first | rfl | (simp only [← nI_add, ← pk_mul]; rfl)) (by omega) ?_
      refine z_eqi (show _ = nI (cnt tf t) by rw [hr1.2.2.2.2.2.2.2.1 _ (by omega)]; subst htf; exact hx.2.1) ?_
      refine z_icmp_ge dX9_played_32 rfl (fun c => absurd c (fun q => absurd ((nI_leI (by omega) (by omega)).mp q) (by omega))) (fun _ => ?_)
      refine z_aload_n dX9_played_35 rfl rfl ?_
      refine z_sipush (v := 753) dX9_played_36 (by decide) ?_
      refine z_iload_n dX9_played_39 rfl rfl ?_
      refine z_imul dX9_played_40 ?_
      refine z_iconst (v := 1) dX9_played_41 (by decide) ?_
      refine z_iadd dX9_played_42 ?_
      refine z_bipush (v := 6) dX9_played_43 (by decide) ?_
      refine z_iload_n dX9_played_45 rfl rfl ?_
      refine z_imul dX9_played_46 ?_
      refine z_iadd dX9_played_47 ?_
      refine z_eqi (show _ = nI (753 * t + 1 + 6 * k) from by simp only [← nI_add, ← pk_mul]; rfl) ?_
      refine y_callV (as := [_]) CX9_isPlayed LX9_419 IX9_isPlayed VX9_isPlayed ⟨rfl, Nat.le_of_ble_eq_true rfl⟩ dX9_played_48 hm.o rfl (Nat.le_of_ble_eq_true rfl) (Nat.le_of_ble_eq_true rfl) (by omega) q1 (rok_z plS_01) (hg_ss q3.1 hN1 hS1) ?_
      refine z_if_ne dX9_played_51 rfl (fun c => absurd (h0) c) (fun _ => ?_)
      refine z_iload_n dX9_played_54 rfl rfl ?_
      refine z_iret dX9_played_55 ?_
      exact hQ
    · rw [es, if_neg h0]
      obtain ⟨h2, k0, k1, K⟩ := ih (k + 1) _ g (by omega) (jy_plS hj) q2 (f1.tr q3)
      refine ⟨h2, k0, k1, fun N S Q hN hS hQ => ?_⟩
      have hN1 : pn h1 ≤ N := by rw [f1.1.n]; exact hN
      have hS1 : ps h1 ≤ S := by rw [f1.1.s]; exact hS
      refine z_iload_n dX9_played_21 rfl rfl ?_
      refine z_aload_n dX9_played_22 rfl rfl ?_
      refine y_getR FX9_16 dX9_played_23 rfl hm.o hm.f_texts ?_
      refine z_sipush (v := 753) dX9_played_26 (by decide) ?_
      refine z_iload_n dX9_played_29 rfl rfl ?_
      refine z_imul dX9_played_30 ?_
      refine y_ialN (753 * t) dX9_played_31 hm.A_texts (Nat.le_of_ble_eq_true rfl) (by first | rfl | (simp only [← nI_add, ← pk_mul]; rfl)) (by omega) ?_
      refine z_eqi (show _ = nI (cnt tf t) by rw [hr1.2.2.2.2.2.2.2.1 _ (by omega)]; subst htf; exact hx.2.1) ?_
      refine z_icmp_ge dX9_played_32 rfl (fun c => absurd c (fun q => absurd ((nI_leI (by omega) (by omega)).mp q) (by omega))) (fun _ => ?_)
      refine z_aload_n dX9_played_35 rfl rfl ?_
      refine z_sipush (v := 753) dX9_played_36 (by decide) ?_
      refine z_iload_n dX9_played_39 rfl rfl ?_
      refine z_imul dX9_played_40 ?_
      refine z_iconst (v := 1) dX9_played_41 (by decide) ?_
      refine z_iadd dX9_played_42 ?_
      refine z_bipush (v := 6) dX9_played_43 (by decide) ?_
      refine z_iload_n dX9_played_45 rfl rfl ?_
      refine z_imul dX9_played_46 ?_
      refine z_iadd dX9_played_47 ?_
      refine z_eqi (show _ = nI (753 * t + 1 + 6 * k) from by simp only [← nI_add, ← pk_mul]; rfl) ?_
      refine y_callV (as := [_]) CX9_isPlayed LX9_419 IX9_isPlayed VX9_isPlayed ⟨rfl, Nat.le_of_ble_eq_true rfl⟩ dX9_played_48 hm.o rfl (Nat.le_of_ble_eq_true rfl) (Nat.le_of_ble_eq_true rfl) (by omega) q1 (rok_z plS_01) (hg_ss q3.1 hN1 hS1) ?_
      refine z_if_ne dX9_played_51 rfl (fun _ => ?_) (fun c => absurd c (h0))
      refine z_iinc dX9_played_56 rfl (nI_1 _) (Nat.le_of_ble_eq_true rfl) ?_
      refine z_goto dX9_played_59 rfl ?_
      exact K N S Q hN hS hQ

theorem R_played {s : Ms} {h : Hp} {d : Nat} (hr : RM s h) (hj : JY s.2.2.2.2.2.2 s.1) (ht : IT s.2.2.2.2.2.2 s.1) (hb : ∀ t, t < s.1 2 → TXB s.2.2.2.2.2.2 t) (x : Int32) (hd : 9 ≤ d) : ∃ h1, Sp d mX9_played [.ref 488, .int x] h (some (.int (mPlayed s.2.2.2.2.2.2 s.1 x).1)) h1 ∧ RM ((mPlayed s.2.2.2.2.2.2 s.1 x).2, s.2) h1 ∧ FM h h1 := by
  have hm := hr.m
  have v2 := hj.1.1.2.2.1
  by_cases hc : vin x (s.1 2)
  · have eq : mPlayed s.2.2.2.2.2.2 s.1 x = plL s.2.2.2.2.2.2 (nn x) (cnt s.2.2.2.2.2.2 (nn x)) 0 s.1 := if_pos hc
    rw [eq]
    have hv := (le_pred (n := s.1 2) (by omega)).mpr hc
    obtain ⟨t, htt, rfl⟩ := vin_of (by omega) hc
    rw [nn_nI (by omega)]
    obtain ⟨h2, k0, k1, K⟩ := r_played_loop (h := h) (d := d) rfl (by omega) (ht t htt) (hb t htt) hd (cnt s.2.2.2.2.2.2 t) 0 s.1 h (by omega) hj hr FM.rf
    refine ⟨h2, ?_, k0, k1⟩
    intro N S Q hN hS hQ
    have hN : pn h ≤ N := by rw [← k1.1.n]; exact hN
    have hS : ps h ≤ S := by rw [← k1.1.s]; exact hS
    refine z_iload_n dX9_played_0 rfl rfl ?_
    refine z_iconst (v := 0) dX9_played_1 (by decide) ?_
    refine z_aload_n dX9_played_2 rfl rfl ?_
    refine y_getR FX9_7 dX9_played_3 rfl hm.o hm.f_a ?_
    refine z_iconst (v := 2) dX9_played_6 (by decide) ?_
    refine y_ialN (2) dX9_played_7 hm.A_a (Nat.le_of_ble_eq_true rfl) (rfl) (by omega) ?_
    refine z_eqi (show _ = nI (s.1 2) from hr.at (by omega) (by omega)) ?_
    refine z_iconst (v := 1) dX9_played_8 (by decide) ?_
    refine z_isub dX9_played_9 ?_
    refine y_callS (as := [_, _, _]) CX9_isIn LX9_63 SX9_isIn dX9_played_10 rfl (Nat.le_of_ble_eq_true rfl) (Nat.le_of_ble_eq_true rfl) (by omega) (r_isIn _ _ _) (rok_z bI_01) ⟨Nat.le_refl _, Nat.le_refl _, hN, hS⟩ ?_
    refine z_if_ne dX9_played_13 rfl (fun _ => ?_) (fun c => absurd c (bI_ne0.mpr hv))
    refine z_iconst (v := 0) dX9_played_19 (by decide) ?_
    refine z_istore_n dX9_played_20 rfl (Nat.le_of_ble_eq_true rfl) ?_
    exact K N S Q hN hS hQ
  · have eq : mPlayed s.2.2.2.2.2.2 s.1 x = (-2, s.1) := if_neg hc
    rw [eq]
    refine ⟨h, ?_, hr, FM.rf⟩
    intro N S Q hN hS hQ
    refine z_iload_n dX9_played_0 rfl rfl ?_
    refine z_iconst (v := 0) dX9_played_1 (by decide) ?_
    refine z_aload_n dX9_played_2 rfl rfl ?_
    refine y_getR FX9_7 dX9_played_3 rfl hm.o hm.f_a ?_
    refine z_iconst (v := 2) dX9_played_6 (by decide) ?_
    refine y_ialN (2) dX9_played_7 hm.A_a (Nat.le_of_ble_eq_true rfl) (rfl) (by omega) ?_
    refine z_eqi (show _ = nI (s.1 2) from hr.at (by omega) (by omega)) ?_
    refine z_iconst (v := 1) dX9_played_8 (by decide) ?_
    refine z_isub dX9_played_9 ?_
    refine y_callS (as := [_, _, _]) CX9_isIn LX9_63 SX9_isIn dX9_played_10 rfl (Nat.le_of_ble_eq_true rfl) (Nat.le_of_ble_eq_true rfl) (by omega) (r_isIn _ _ _) (rok_z bI_01) ⟨Nat.le_refl _, Nat.le_refl _, hN, hS⟩ ?_
    refine z_if_ne dX9_played_13 rfl (fun c => absurd (bI_eq0.mpr (fun q => hc ((le_pred (by omega)).mp q))) c) (fun _ => ?_)
    refine z_bipush (v := -2) dX9_played_16 (by decide) ?_
    refine z_iret dX9_played_18 ?_
    exact hQ

