/-! foretell of the class (walks by program: wip/whole/gen46.py) -/
theorem IC.keep {a : Fl} (hi : IC a) : IC (mKeep a) := by
  have h4 := hi.2.2.2.2.1
  have g : ∀ i, i < 13 → i ≠ 4 → mKeep a i = a i := fun i h1 h2 => mKeep_out h4 h2 (by omega)
  have g4 : mKeep a 4 ≤ 30 := by rw [mKeep_4]; split <;> omega
  unfold IC
  rw [g 0 (by omega) (by omega), g 1 (by omega) (by omega), g 2 (by omega) (by omega), g 3 (by omega) (by omega), g 5 (by omega) (by omega), g 6 (by omega) (by omega), g 7 (by omega) (by omega), g 8 (by omega) (by omega), g 9 (by omega) (by omega), g 10 (by omega) (by omega), g 11 (by omega) (by omega), g 12 (by omega) (by omega)]
  exact ⟨hi.1, hi.2.1, hi.2.2.1, hi.2.2.2.1, g4, hi.2.2.2.2.2⟩

theorem c_mayHold {h : Hp} {d : Nat} {a : Fl} {tx : Nat → Nat → Prop} (h8 : IO h 8 8) (hx0 : pR h 8 0 = some 9) (hs : MkS h 9) (hv : MV h 9 a tx) (hi : IC a) (hp : IP a) (p : Int32) (hd : 1 ≤ d) : Sp d mX8_mayHold [.ref 8, .int p] h (some (.int (bI (vin p (a 1) ∧ a (13 + 5 * nn p + 2) = 0)))) h := by
  intro N S Q hN hS hQ
  have v1 := hi.2.1
  have hP : RwC h 11 3 5 (a 1) := hv.1.2.2.2.1
  by_cases hin : vin p (a 1)
  · obtain ⟨j, hj, rfl⟩ := vin_of (by omega) hin
    have hb := (hp j hj).2.2.1
    refine z_aload_n dX8_mayHold_0 rfl rfl ?_
    refine y_getR FX8_10 dX8_mayHold_1 rfl h8 hx0 ?_
    refine y_getR FX8_79 dX8_mayHold_4 rfl hs.o hs.f0 ?_
    refine y_getR FX8_82 dX8_mayHold_7 rfl hs.now.1 hs.now.2.1 ?_
    refine z_astore_n dX8_mayHold_10 rfl (Nat.le_of_ble_eq_true rfl) ?_
    refine z_aload_n dX8_mayHold_11 rfl rfl ?_
    refine z_iload_n dX8_mayHold_12 rfl rfl ?_
    refine y_callV (as := [_]) CX4_has LX8_140 IX4_has VX4_has ⟨rfl, Nat.le_of_ble_eq_true rfl⟩ dX8_mayHold_13 hs.now.2.2.1.1 rfl (Nat.le_of_ble_eq_true rfl) (Nat.le_of_ble_eq_true rfl) (by omega) (s_has (k := 11) (w := 3) (ms := 5) (by exact hs.now.2.2.1) hP _) (rok_z bI_01) ⟨Nat.le_refl _, Nat.le_refl _, hN, hS⟩ ?_
    refine z_if_eq dX8_mayHold_16 rfl (fun c => absurd c (bI_ne0.mpr hin)) (fun _ => ?_)
    refine z_aload_n dX8_mayHold_19 rfl rfl ?_
    refine z_iload_n dX8_mayHold_20 rfl rfl ?_
    refine z_iconst (v := 2) dX8_mayHold_21 (by decide) ?_
    refine y_callV (as := [_, _]) CX4_get LX8_143 IX4_get VX4_get ⟨rfl, Nat.le_of_ble_eq_true rfl⟩ dX8_mayHold_22 hs.now.2.2.1.1 rfl (Nat.le_of_ble_eq_true rfl) (Nat.le_of_ble_eq_true rfl) (by omega) (s_get (k := 11) (w := 3) (ms := 5) (i := j) (j := 2) (by exact hs.now.2.2.1) hP hj (by omega)) rok_i ⟨Nat.le_refl _, Nat.le_refl _, hN, hS⟩ ?_
    refine z_eqi (show _ = nI (a (13 + 5 * j + 2)) from wv_p hv.1 v1 hj (by omega)) ?_
    refine z_if_ne dX8_mayHold_25 rfl (fun c25 => ?_) (fun c25 => ?_)
    · -- to 32
      refine z_iconst (v := 0) dX8_mayHold_32 (by decide) ?_
      refine z_iret dX8_mayHold_33 ?_
      first
        | (rw [bI_f (fun q => c25 (by have := q.2; rw [nn_nI (by omega)] at this; rw [this]; rfl))] at hQ; exact hQ)
        | (rw [bI_t ⟨hin, by rw [nn_nI (by omega)]; exact (nI_eq (b := 0) (by omega) (by omega)).mp (Classical.not_not.mp c25)⟩] at hQ; exact hQ)
        | (rw [bI_t ⟨hin, by rw [nn_nI (by omega)]; exact (nI_eq (b := 0) (by omega) (by omega)).mp c25⟩] at hQ; exact hQ)
    · -- on
      refine z_iconst (v := 1) dX8_mayHold_28 (by decide) ?_
      refine z_goto dX8_mayHold_29 rfl ?_
      refine z_iret dX8_mayHold_33 ?_
      first
        | (rw [bI_f (fun q => c25 (by have := q.2; rw [nn_nI (by omega)] at this; rw [this]; rfl))] at hQ; exact hQ)
        | (rw [bI_t ⟨hin, by rw [nn_nI (by omega)]; exact (nI_eq (b := 0) (by omega) (by omega)).mp (Classical.not_not.mp c25)⟩] at hQ; exact hQ)
        | (rw [bI_t ⟨hin, by rw [nn_nI (by omega)]; exact (nI_eq (b := 0) (by omega) (by omega)).mp c25⟩] at hQ; exact hQ)
  · rw [bI_f (fun q => hin q.1)] at hQ
    refine z_aload_n dX8_mayHold_0 rfl rfl ?_
    refine y_getR FX8_10 dX8_mayHold_1 rfl h8 hx0 ?_
    refine y_getR FX8_79 dX8_mayHold_4 rfl hs.o hs.f0 ?_
    refine y_getR FX8_82 dX8_mayHold_7 rfl hs.now.1 hs.now.2.1 ?_
    refine z_astore_n dX8_mayHold_10 rfl (Nat.le_of_ble_eq_true rfl) ?_
    refine z_aload_n dX8_mayHold_11 rfl rfl ?_
    refine z_iload_n dX8_mayHold_12 rfl rfl ?_
    refine y_callV (as := [_]) CX4_has LX8_140 IX4_has VX4_has ⟨rfl, Nat.le_of_ble_eq_true rfl⟩ dX8_mayHold_13 hs.now.2.2.1.1 rfl (Nat.le_of_ble_eq_true rfl) (Nat.le_of_ble_eq_true rfl) (by omega) (s_has (k := 11) (w := 3) (ms := 5) (by exact hs.now.2.2.1) hP _) (rok_z bI_01) ⟨Nat.le_refl _, Nat.le_refl _, hN, hS⟩ ?_
    refine z_if_eq dX8_mayHold_16 rfl (fun _ => ?_) (fun c => absurd (bI_eq0.mpr hin) c)
    refine z_iconst (v := 0) dX8_mayHold_32 (by decide) ?_
    refine z_iret dX8_mayHold_33 ?_
    exact hQ

theorem c_mayForetell {h : Hp} {d : Nat} {a : Fl} {tx : Nat → Nat → Prop} (h8 : IO h 8 8) (hx0 : pR h 8 0 = some 9) (hs : MkS h 9) (hv : MV h 9 a tx) (hi : IC a) (hp : IP a) (p f e g : Int32) (hd : 3 ≤ d) : Sp d mX8_mayForetell [.ref 8, .int p, .int f, .int e, .int g] h (some (.int (bI (okF a p ∧ okG a f e g)))) h := by
  intro N S Q hN hS hQ
  have v0 := hi.1
  have v11 := hi.2.2.2.2.2.2.2.2.2.2.2.1
  have e0 : pI h 18 3 = nI (a 0) := hv.2.2.2.2.1.1.2.2.1
  have e11 : pI h 13 3 = nI (a 11) := hv.1.2.2.2.2.2.1.2.2.1
  refine z_aload_n dX8_mayForetell_0 rfl rfl ?_
  refine z_iload_n dX8_mayForetell_1 rfl rfl ?_
  refine y_callV (as := [_]) CX8_mayHold LX8_120 IX8_mayHold VX8_mayHold ⟨rfl, Nat.le_of_ble_eq_true rfl⟩ dX8_mayForetell_2 h8 rfl (Nat.le_of_ble_eq_true rfl) (Nat.le_of_ble_eq_true rfl) (by omega) (c_mayHold (d := 1) (by exact h8) (by exact hx0) (by exact hs) hv hi hp _ (Nat.le_refl _)) (rok_z bI_01) ⟨Nat.le_refl _, Nat.le_refl _, hN, hS⟩ ?_
  refine z_if_eq dX8_mayForetell_5 rfl (fun c5 => ?_) (fun c5 => ?_)
  · -- to 60
    refine z_iconst (v := 0) dX8_mayForetell_60 (by decide) ?_
    refine z_iret dX8_mayForetell_61 ?_
    first
      | (rw [bI_t ⟨⟨(bI_ne0.mp c5).1, (bI_ne0.mp c5).2, Nat.lt_of_not_le (fun q => c53 ((nI_leI (a := 12) (by omega) (by omega)).mpr q))⟩, bI_ne0.mp c13, bI_ne0.mp c23, bI_ne0.mp c35⟩] at hQ; exact hQ)
      | (rw [bI_f (fun q => absurd q.1.2.2 (Nat.not_lt.mpr ((nI_leI (a := 12) (by omega) (by omega)).mp c53)))] at hQ; exact hQ)
      | (rw [bI_f (fun q => absurd q.2.2.2 (bI_eq0.mp c35))] at hQ; exact hQ)
      | (rw [bI_f (fun q => absurd q.2.2.1 (bI_eq0.mp c23))] at hQ; exact hQ)
      | (rw [bI_f (fun q => absurd q.2.1 (bI_eq0.mp c13))] at hQ; exact hQ)
      | (rw [bI_f (fun q => (bI_eq0.mp c5) ⟨q.1.1, q.1.2.1⟩)] at hQ; exact hQ)
  · -- on
    refine z_aload_n dX8_mayForetell_8 rfl rfl ?_
    refine z_iload_n dX8_mayForetell_9 rfl rfl ?_
    refine y_callV (as := [_]) CX8_someFacts LX8_124 IX8_someFacts VX8_someFacts ⟨rfl, Nat.le_of_ble_eq_true rfl⟩ dX8_mayForetell_10 h8 rfl (Nat.le_of_ble_eq_true rfl) (Nat.le_of_ble_eq_true rfl) (by omega) (s_someFacts (d := 2) (by exact h8) (by exact hx0) (by exact hs) e0 v0 _ (Nat.le_refl _)) (rok_z bI_01) ⟨Nat.le_refl _, Nat.le_refl _, hN, hS⟩ ?_
    refine z_if_eq dX8_mayForetell_13 rfl (fun c13 => ?_) (fun c13 => ?_)
    · -- to 60
      refine z_iconst (v := 0) dX8_mayForetell_60 (by decide) ?_
      refine z_iret dX8_mayForetell_61 ?_
      first
        | (rw [bI_t ⟨⟨(bI_ne0.mp c5).1, (bI_ne0.mp c5).2, Nat.lt_of_not_le (fun q => c53 ((nI_leI (a := 12) (by omega) (by omega)).mpr q))⟩, bI_ne0.mp c13, bI_ne0.mp c23, bI_ne0.mp c35⟩] at hQ; exact hQ)
        | (rw [bI_f (fun q => absurd q.1.2.2 (Nat.not_lt.mpr ((nI_leI (a := 12) (by omega) (by omega)).mp c53)))] at hQ; exact hQ)
        | (rw [bI_f (fun q => absurd q.2.2.2 (bI_eq0.mp c35))] at hQ; exact hQ)
        | (rw [bI_f (fun q => absurd q.2.2.1 (bI_eq0.mp c23))] at hQ; exact hQ)
        | (rw [bI_f (fun q => absurd q.2.1 (bI_eq0.mp c13))] at hQ; exact hQ)
        | (rw [bI_f (fun q => (bI_eq0.mp c5) ⟨q.1.1, q.1.2.1⟩)] at hQ; exact hQ)
    · -- on
      refine z_iload_n dX8_mayForetell_16 rfl rfl ?_
      refine z_iconst (v := 1) dX8_mayForetell_17 (by decide) ?_
      refine z_bipush (v := 99) dX8_mayForetell_18 (by decide) ?_
      refine y_callS (as := [_, _, _]) CX8_within LX8_61 SX8_within dX8_mayForetell_20 rfl (Nat.le_of_ble_eq_true rfl) (Nat.le_of_ble_eq_true rfl) (by omega) (s_within _ _ _) (rok_z bI_01) ⟨Nat.le_refl _, Nat.le_refl _, hN, hS⟩ ?_
      refine z_if_eq dX8_mayForetell_23 rfl (fun c23 => ?_) (fun c23 => ?_)
      · -- to 60
        refine z_iconst (v := 0) dX8_mayForetell_60 (by decide) ?_
        refine z_iret dX8_mayForetell_61 ?_
        first
          | (rw [bI_t ⟨⟨(bI_ne0.mp c5).1, (bI_ne0.mp c5).2, Nat.lt_of_not_le (fun q => c53 ((nI_leI (a := 12) (by omega) (by omega)).mpr q))⟩, bI_ne0.mp c13, bI_ne0.mp c23, bI_ne0.mp c35⟩] at hQ; exact hQ)
          | (rw [bI_f (fun q => absurd q.1.2.2 (Nat.not_lt.mpr ((nI_leI (a := 12) (by omega) (by omega)).mp c53)))] at hQ; exact hQ)
          | (rw [bI_f (fun q => absurd q.2.2.2 (bI_eq0.mp c35))] at hQ; exact hQ)
          | (rw [bI_f (fun q => absurd q.2.2.1 (bI_eq0.mp c23))] at hQ; exact hQ)
          | (rw [bI_f (fun q => absurd q.2.1 (bI_eq0.mp c13))] at hQ; exact hQ)
          | (rw [bI_f (fun q => (bI_eq0.mp c5) ⟨q.1.1, q.1.2.1⟩)] at hQ; exact hQ)
      · -- on
        refine z_iload dX8_mayForetell_26 rfl ?_
        refine z_iconst (v := 0) dX8_mayForetell_28 (by decide) ?_
        refine z_sipush (v := 999) dX8_mayForetell_29 (by decide) ?_
        refine y_callS (as := [_, _, _]) CX8_within LX8_61 SX8_within dX8_mayForetell_32 rfl (Nat.le_of_ble_eq_true rfl) (Nat.le_of_ble_eq_true rfl) (by omega) (s_within _ _ _) (rok_z bI_01) ⟨Nat.le_refl _, Nat.le_refl _, hN, hS⟩ ?_
        refine z_if_eq dX8_mayForetell_35 rfl (fun c35 => ?_) (fun c35 => ?_)
        · -- to 60
          refine z_iconst (v := 0) dX8_mayForetell_60 (by decide) ?_
          refine z_iret dX8_mayForetell_61 ?_
          first
            | (rw [bI_t ⟨⟨(bI_ne0.mp c5).1, (bI_ne0.mp c5).2, Nat.lt_of_not_le (fun q => c53 ((nI_leI (a := 12) (by omega) (by omega)).mpr q))⟩, bI_ne0.mp c13, bI_ne0.mp c23, bI_ne0.mp c35⟩] at hQ; exact hQ)
            | (rw [bI_f (fun q => absurd q.1.2.2 (Nat.not_lt.mpr ((nI_leI (a := 12) (by omega) (by omega)).mp c53)))] at hQ; exact hQ)
            | (rw [bI_f (fun q => absurd q.2.2.2 (bI_eq0.mp c35))] at hQ; exact hQ)
            | (rw [bI_f (fun q => absurd q.2.2.1 (bI_eq0.mp c23))] at hQ; exact hQ)
            | (rw [bI_f (fun q => absurd q.2.1 (bI_eq0.mp c13))] at hQ; exact hQ)
            | (rw [bI_f (fun q => (bI_eq0.mp c5) ⟨q.1.1, q.1.2.1⟩)] at hQ; exact hQ)
        · -- on
          refine z_aload_n dX8_mayForetell_38 rfl rfl ?_
          refine y_getR FX8_10 dX8_mayForetell_39 rfl h8 hx0 ?_
          refine y_getR FX8_79 dX8_mayForetell_42 rfl hs.o hs.f0 ?_
          refine y_getR FX8_127 dX8_mayForetell_45 rfl hs.now.1 hs.now.2.2.2.1 ?_
          refine y_getI FX8_130 dX8_mayForetell_48 (Or.inl rfl) hs.now.2.2.2.2.1.1 ?_
          refine z_eqi (y := nI (a 11)) e11 ?_
          refine z_bipush (v := 12) dX8_mayForetell_51 (by decide) ?_
          refine z_icmp_ge dX8_mayForetell_53 rfl (fun c53 => ?_) (fun c53 => ?_)
          · -- to 60
            refine z_iconst (v := 0) dX8_mayForetell_60 (by decide) ?_
            refine z_iret dX8_mayForetell_61 ?_
            first
              | (rw [bI_t ⟨⟨(bI_ne0.mp c5).1, (bI_ne0.mp c5).2, Nat.lt_of_not_le (fun q => c53 ((nI_leI (a := 12) (by omega) (by omega)).mpr q))⟩, bI_ne0.mp c13, bI_ne0.mp c23, bI_ne0.mp c35⟩] at hQ; exact hQ)
              | (rw [bI_f (fun q => absurd q.1.2.2 (Nat.not_lt.mpr ((nI_leI (a := 12) (by omega) (by omega)).mp c53)))] at hQ; exact hQ)
              | (rw [bI_f (fun q => absurd q.2.2.2 (bI_eq0.mp c35))] at hQ; exact hQ)
              | (rw [bI_f (fun q => absurd q.2.2.1 (bI_eq0.mp c23))] at hQ; exact hQ)
              | (rw [bI_f (fun q => absurd q.2.1 (bI_eq0.mp c13))] at hQ; exact hQ)
              | (rw [bI_f (fun q => (bI_eq0.mp c5) ⟨q.1.1, q.1.2.1⟩)] at hQ; exact hQ)
          · -- on
            refine z_iconst (v := 1) dX8_mayForetell_56 (by decide) ?_
            refine z_goto dX8_mayForetell_57 rfl ?_
            refine z_iret dX8_mayForetell_61 ?_
            first
              | (rw [bI_t ⟨⟨(bI_ne0.mp c5).1, (bI_ne0.mp c5).2, Nat.lt_of_not_le (fun q => c53 ((nI_leI (a := 12) (by omega) (by omega)).mpr q))⟩, bI_ne0.mp c13, bI_ne0.mp c23, bI_ne0.mp c35⟩] at hQ; exact hQ)
              | (rw [bI_f (fun q => absurd q.1.2.2 (Nat.not_lt.mpr ((nI_leI (a := 12) (by omega) (by omega)).mp c53)))] at hQ; exact hQ)
              | (rw [bI_f (fun q => absurd q.2.2.2 (bI_eq0.mp c35))] at hQ; exact hQ)
              | (rw [bI_f (fun q => absurd q.2.2.1 (bI_eq0.mp c23))] at hQ; exact hQ)
              | (rw [bI_f (fun q => absurd q.2.1 (bI_eq0.mp c13))] at hQ; exact hQ)
              | (rw [bI_f (fun q => (bI_eq0.mp c5) ⟨q.1.1, q.1.2.1⟩)] at hQ; exact hQ)

theorem c_doForetell {h : Hp} {d p al f dd fee : Nat} {a : Fl} {tx : Nat → Nat → Prop} (h8 : IO h 8 8) (hx0 : pR h 8 0 = some 9) (hs : MkS h 9) (hv : MV h 9 a tx) (hi : IC a) (hp1 : p < a 1) (hk : a 11 < 12) (hb : snap a (ppx p 0) ≤ 9999) (hfee : fee ≤ 9999) (hal : al = 0 ∨ al = 1) (hd : 3 ≤ d) : ∃ h1, Sp d mX8_doForetell [.ref 8, .int (nI p), .int (nI al), .int (nI f), .int (nI dd), .int (nI fee)] h (some (.int (nI (a 11)))) h1 ∧ MV h1 9 (mFore a p al f dd fee) tx ∧ FR 9 236 h h1 := by
  have v1 := hi.2.1
  have hC : RwC h 13 6 12 (a 11) := hv.1.2.2.2.2.2.1
  have hC0 : RwC (growH h 13 6 (a 11)) 13 6 12 (a 11 + 1) := hC.grow hk
  have vG : WV (growH h 13 6 (a 11)) 10 (gwC (snap a)) := WV.growC (w := 10) hv.1 hk
  have g4 : gwC (snap a) 4 = a 11 + 1 := rfl
  have q4 : ∀ c v U, U 4 = a 11 + 1 → up U (pcx (a 11) c) v 4 = a 11 + 1 := fun c v U hU => by rw [up_n (by unfold pcx; omega)]; exact hU
  have vU := ((((vG.setC (k := a 11) (c := 0) (v := p) (by omega) (by omega) rfl).setC (k := a 11) (c := 1) (v := al) (by rw [q4 _ _ _ g4]; omega) (by omega) rfl).setC (k := a 11) (c := 2) (v := f) (by rw [q4 _ _ _ (q4 _ _ _ g4)]; omega) (by omega) rfl).setC (k := a 11) (c := 3) (v := a 8 + dd) (by rw [q4 _ _ _ (q4 _ _ _ (q4 _ _ _ g4))]; omega) (by omega) rfl).setC (k := a 11) (c := 4) (v := fee) (by rw [q4 _ _ _ (q4 _ _ _ (q4 _ _ _ (q4 _ _ _ g4)))]; omega) (by omega) rfl
  generalize hU : up (up (up (up (up (gwC (snap a)) (pcx (a 11) 0) p) (pcx (a 11) 1) al) (pcx (a 11) 2) f) (pcx (a 11) 3) (a 8 + dd)) (pcx (a 11) 4) fee = U at vU
  have uo : ∀ i, i ≠ 4 → ¬ (21 + a 11 * 6 ≤ i ∧ i < 21 + a 11 * 6 + 6) → U i = snap a i := fun i h1 h2 => by
    rw [← hU]
    unfold pcx
    rw [up_n (by omega), up_n (by omega), up_n (by omega), up_n (by omega), up_n (by omega)]
    unfold gwC pcx
    rw [if_neg h1, if_neg (by rw [snap_4]; omega)]
  have u0 : U 0 = a 1 := uo 0 (by omega) (by omega)
  have uP : U (ppx p 0) = snap a (ppx p 0) := uo _ (by unfold ppx; omega) (by unfold ppx; omega)
  refine ⟨(sI (sI (sI (sI (sI (sI (growH h 13 6 (a 11)) 14 (a 11 * 6 + 0) (nI p)) 14 (a 11 * 6 + 1) (nI al)) 14 (a 11 * 6 + 2) (nI f)) 14 (a 11 * 6 + 3) (nI (a 8 + dd))) 14 (a 11 * 6 + 4) (nI fee)) 12 (p * 3 + 0) (nI (min 9999 (snap a (ppx p 0) + fee)))), ?_, ?_, (((((((FR.rf.grow (by omega)).sI (by omega)).sI (by omega)).sI (by omega)).sI (by omega)).sI (by omega)).sI (by omega))⟩
  · intro N S Q hN hS hQ
    rcases hal with rfl | rfl
    · refine z_aload_n dX8_doForetell_0 rfl rfl ?_
      refine y_getR FX8_10 dX8_doForetell_1 rfl h8 hx0 ?_
      refine y_getR FX8_79 dX8_doForetell_4 rfl hs.o hs.f0 ?_
      refine z_astore dX8_doForetell_7 (Nat.le_of_ble_eq_true rfl) ?_
      refine z_aload dX8_doForetell_9 rfl ?_
      refine y_getR FX8_127 dX8_doForetell_11 rfl hs.now.1 hs.now.2.2.2.1 ?_
      refine z_astore dX8_doForetell_14 (Nat.le_of_ble_eq_true rfl) ?_
      refine z_aload dX8_doForetell_16 rfl ?_
      refine y_callV (as := []) CX4_grow LX8_69 IX4_grow VX4_grow ⟨rfl, Nat.le_of_ble_eq_true rfl⟩ dX8_doForetell_18 hs.now.2.2.2.2.1.1 rfl (Nat.le_of_ble_eq_true rfl) (Nat.le_of_ble_eq_true rfl) (by omega) (s_grow (k := 13) (w := 6) (ms := 12) (n := a 11) (d := 2) (by exact hs.now.2.2.2.2.1) hC hk (Nat.le_refl _)) rok_i ⟨Nat.le_refl _, Nat.le_refl _, hN, hS⟩ ?_
      refine z_istore dX8_doForetell_21 (Nat.le_of_ble_eq_true rfl) ?_
      refine z_aload dX8_doForetell_23 rfl ?_
      refine z_iload dX8_doForetell_25 rfl ?_
      refine z_iconst (v := 0) dX8_doForetell_27 (by decide) ?_
      refine z_iload_n dX8_doForetell_28 rfl rfl ?_
      refine y_callV (as := [_, _, _]) CX4_set LX8_75 IX4_set VX4_set ⟨rfl, Nat.le_of_ble_eq_true rfl⟩ dX8_doForetell_29 hs.now.2.2.2.2.1.1 rfl (Nat.le_of_ble_eq_true rfl) (Nat.le_of_ble_eq_true rfl) (by omega) (s_set (k := 13) (w := 6) (ms := 12) (n := a 11 + 1) (i := a 11) (j := 0) (by exact hs.now.2.2.2.2.1) (hC0.fr (by (repeat rw [pI_sI_ne (by omega)]) <;> rfl)) (by omega) (by omega)) rok_v ⟨Nat.le_refl _, Nat.le_refl _, hN, hS⟩ ?_
      refine z_aload dX8_doForetell_32 rfl ?_
      refine z_iload dX8_doForetell_34 rfl ?_
      refine z_iconst (v := 1) dX8_doForetell_36 (by decide) ?_
      refine z_iload_n dX8_doForetell_37 rfl rfl ?_
      refine z_if_eq dX8_doForetell_38 rfl (fun _ => ?_) (fun c => absurd (rfl) c)
      refine z_iconst (v := 0) dX8_doForetell_45 (by decide) ?_
      refine y_callV (as := [_, _, _]) CX4_set LX8_75 IX4_set VX4_set ⟨rfl, Nat.le_of_ble_eq_true rfl⟩ dX8_doForetell_46 hs.now.2.2.2.2.1.1 rfl (Nat.le_of_ble_eq_true rfl) (Nat.le_of_ble_eq_true rfl) (by omega) (s_set (k := 13) (w := 6) (ms := 12) (n := a 11 + 1) (i := a 11) (j := 1) (by exact hs.now.2.2.2.2.1) (hC0.fr (by (repeat rw [pI_sI_ne (by omega)]) <;> rfl)) (by omega) (by omega)) rok_v ⟨Nat.le_refl _, Nat.le_refl _, hN, hS⟩ ?_
      refine z_aload dX8_doForetell_49 rfl ?_
      refine z_iload dX8_doForetell_51 rfl ?_
      refine z_iconst (v := 2) dX8_doForetell_53 (by decide) ?_
      refine z_iload_n dX8_doForetell_54 rfl rfl ?_
      refine y_callV (as := [_, _, _]) CX4_set LX8_75 IX4_set VX4_set ⟨rfl, Nat.le_of_ble_eq_true rfl⟩ dX8_doForetell_55 hs.now.2.2.2.2.1.1 rfl (Nat.le_of_ble_eq_true rfl) (Nat.le_of_ble_eq_true rfl) (by omega) (s_set (k := 13) (w := 6) (ms := 12) (n := a 11 + 1) (i := a 11) (j := 2) (by exact hs.now.2.2.2.2.1) (hC0.fr (by (repeat rw [pI_sI_ne (by omega)]) <;> rfl)) (by omega) (by omega)) rok_v ⟨Nat.le_refl _, Nat.le_refl _, hN, hS⟩ ?_
      refine z_aload dX8_doForetell_58 rfl ?_
      refine z_iload dX8_doForetell_60 rfl ?_
      refine z_iconst (v := 3) dX8_doForetell_62 (by decide) ?_
      refine z_aload dX8_doForetell_63 rfl ?_
      refine y_getI FX8_133 dX8_doForetell_65 (Or.inl rfl) hs.now.1 ?_
      refine z_eqi (show _ = nI (a 8) by (repeat rw [pI_sI_ne (by omega)]); rw [growH_ne (by omega) (by omega)]; exact hv.1.1) ?_
      refine z_iload dX8_doForetell_68 rfl ?_
      refine z_iadd dX8_doForetell_70 ?_
      refine z_eqi (nI_add (a 8) dd) ?_
      refine y_callV (as := [_, _, _]) CX4_set LX8_75 IX4_set VX4_set ⟨rfl, Nat.le_of_ble_eq_true rfl⟩ dX8_doForetell_71 hs.now.2.2.2.2.1.1 rfl (Nat.le_of_ble_eq_true rfl) (Nat.le_of_ble_eq_true rfl) (by omega) (s_set (k := 13) (w := 6) (ms := 12) (n := a 11 + 1) (i := a 11) (j := 3) (by exact hs.now.2.2.2.2.1) (hC0.fr (by (repeat rw [pI_sI_ne (by omega)]) <;> rfl)) (by omega) (by omega)) rok_v ⟨Nat.le_refl _, Nat.le_refl _, hN, hS⟩ ?_
      refine z_aload dX8_doForetell_74 rfl ?_
      refine z_iload dX8_doForetell_76 rfl ?_
      refine z_iconst (v := 4) dX8_doForetell_78 (by decide) ?_
      refine z_iload dX8_doForetell_79 rfl ?_
      refine y_callV (as := [_, _, _]) CX4_set LX8_75 IX4_set VX4_set ⟨rfl, Nat.le_of_ble_eq_true rfl⟩ dX8_doForetell_81 hs.now.2.2.2.2.1.1 rfl (Nat.le_of_ble_eq_true rfl) (Nat.le_of_ble_eq_true rfl) (by omega) (s_set (k := 13) (w := 6) (ms := 12) (n := a 11 + 1) (i := a 11) (j := 4) (by exact hs.now.2.2.2.2.1) (hC0.fr (by (repeat rw [pI_sI_ne (by omega)]) <;> rfl)) (by omega) (by omega)) rok_v ⟨Nat.le_refl _, Nat.le_refl _, hN, hS⟩ ?_
      refine z_aload dX8_doForetell_84 rfl ?_
      refine z_iload_n dX8_doForetell_86 rfl rfl ?_
      refine z_iload dX8_doForetell_87 rfl ?_
      refine y_callV (as := [_, _]) CX7_gain LX8_136 IX7_gain VX7_gain ⟨rfl, Nat.le_of_ble_eq_true rfl⟩ dX8_doForetell_89 hs.now.1 rfl (Nat.le_of_ble_eq_true rfl) (Nat.le_of_ble_eq_true rfl) (by omega) (c_gain (w := 10) (p := p) (m := fee) (W := U) (d := 1) (by exact (by exact hs.now)) vU (by rw [u0]; exact hp1) (by rw [uP]; exact hb) (by omega) (Nat.le_refl _)) rok_v ⟨Nat.le_refl _, Nat.le_refl _, hN, hS⟩ ?_
      rw [uP]
      refine z_iload dX8_doForetell_92 rfl ?_
      refine z_iret dX8_doForetell_94 ?_
      exact hQ
    · refine z_aload_n dX8_doForetell_0 rfl rfl ?_
      refine y_getR FX8_10 dX8_doForetell_1 rfl h8 hx0 ?_
      refine y_getR FX8_79 dX8_doForetell_4 rfl hs.o hs.f0 ?_
      refine z_astore dX8_doForetell_7 (Nat.le_of_ble_eq_true rfl) ?_
      refine z_aload dX8_doForetell_9 rfl ?_
      refine y_getR FX8_127 dX8_doForetell_11 rfl hs.now.1 hs.now.2.2.2.1 ?_
      refine z_astore dX8_doForetell_14 (Nat.le_of_ble_eq_true rfl) ?_
      refine z_aload dX8_doForetell_16 rfl ?_
      refine y_callV (as := []) CX4_grow LX8_69 IX4_grow VX4_grow ⟨rfl, Nat.le_of_ble_eq_true rfl⟩ dX8_doForetell_18 hs.now.2.2.2.2.1.1 rfl (Nat.le_of_ble_eq_true rfl) (Nat.le_of_ble_eq_true rfl) (by omega) (s_grow (k := 13) (w := 6) (ms := 12) (n := a 11) (d := 2) (by exact hs.now.2.2.2.2.1) hC hk (Nat.le_refl _)) rok_i ⟨Nat.le_refl _, Nat.le_refl _, hN, hS⟩ ?_
      refine z_istore dX8_doForetell_21 (Nat.le_of_ble_eq_true rfl) ?_
      refine z_aload dX8_doForetell_23 rfl ?_
      refine z_iload dX8_doForetell_25 rfl ?_
      refine z_iconst (v := 0) dX8_doForetell_27 (by decide) ?_
      refine z_iload_n dX8_doForetell_28 rfl rfl ?_
      refine y_callV (as := [_, _, _]) CX4_set LX8_75 IX4_set VX4_set ⟨rfl, Nat.le_of_ble_eq_true rfl⟩ dX8_doForetell_29 hs.now.2.2.2.2.1.1 rfl (Nat.le_of_ble_eq_true rfl) (Nat.le_of_ble_eq_true rfl) (by omega) (s_set (k := 13) (w := 6) (ms := 12) (n := a 11 + 1) (i := a 11) (j := 0) (by exact hs.now.2.2.2.2.1) (hC0.fr (by (repeat rw [pI_sI_ne (by omega)]) <;> rfl)) (by omega) (by omega)) rok_v ⟨Nat.le_refl _, Nat.le_refl _, hN, hS⟩ ?_
      refine z_aload dX8_doForetell_32 rfl ?_
      refine z_iload dX8_doForetell_34 rfl ?_
      refine z_iconst (v := 1) dX8_doForetell_36 (by decide) ?_
      refine z_iload_n dX8_doForetell_37 rfl rfl ?_
      refine z_if_eq dX8_doForetell_38 rfl (fun c => absurd c (by decide)) (fun _ => ?_)
      refine z_iconst (v := 1) dX8_doForetell_41 (by decide) ?_
      refine z_goto dX8_doForetell_42 rfl ?_
      refine y_callV (as := [_, _, _]) CX4_set LX8_75 IX4_set VX4_set ⟨rfl, Nat.le_of_ble_eq_true rfl⟩ dX8_doForetell_46 hs.now.2.2.2.2.1.1 rfl (Nat.le_of_ble_eq_true rfl) (Nat.le_of_ble_eq_true rfl) (by omega) (s_set (k := 13) (w := 6) (ms := 12) (n := a 11 + 1) (i := a 11) (j := 1) (by exact hs.now.2.2.2.2.1) (hC0.fr (by (repeat rw [pI_sI_ne (by omega)]) <;> rfl)) (by omega) (by omega)) rok_v ⟨Nat.le_refl _, Nat.le_refl _, hN, hS⟩ ?_
      refine z_aload dX8_doForetell_49 rfl ?_
      refine z_iload dX8_doForetell_51 rfl ?_
      refine z_iconst (v := 2) dX8_doForetell_53 (by decide) ?_
      refine z_iload_n dX8_doForetell_54 rfl rfl ?_
      refine y_callV (as := [_, _, _]) CX4_set LX8_75 IX4_set VX4_set ⟨rfl, Nat.le_of_ble_eq_true rfl⟩ dX8_doForetell_55 hs.now.2.2.2.2.1.1 rfl (Nat.le_of_ble_eq_true rfl) (Nat.le_of_ble_eq_true rfl) (by omega) (s_set (k := 13) (w := 6) (ms := 12) (n := a 11 + 1) (i := a 11) (j := 2) (by exact hs.now.2.2.2.2.1) (hC0.fr (by (repeat rw [pI_sI_ne (by omega)]) <;> rfl)) (by omega) (by omega)) rok_v ⟨Nat.le_refl _, Nat.le_refl _, hN, hS⟩ ?_
      refine z_aload dX8_doForetell_58 rfl ?_
      refine z_iload dX8_doForetell_60 rfl ?_
      refine z_iconst (v := 3) dX8_doForetell_62 (by decide) ?_
      refine z_aload dX8_doForetell_63 rfl ?_
      refine y_getI FX8_133 dX8_doForetell_65 (Or.inl rfl) hs.now.1 ?_
      refine z_eqi (show _ = nI (a 8) by (repeat rw [pI_sI_ne (by omega)]); rw [growH_ne (by omega) (by omega)]; exact hv.1.1) ?_
      refine z_iload dX8_doForetell_68 rfl ?_
      refine z_iadd dX8_doForetell_70 ?_
      refine z_eqi (nI_add (a 8) dd) ?_
      refine y_callV (as := [_, _, _]) CX4_set LX8_75 IX4_set VX4_set ⟨rfl, Nat.le_of_ble_eq_true rfl⟩ dX8_doForetell_71 hs.now.2.2.2.2.1.1 rfl (Nat.le_of_ble_eq_true rfl) (Nat.le_of_ble_eq_true rfl) (by omega) (s_set (k := 13) (w := 6) (ms := 12) (n := a 11 + 1) (i := a 11) (j := 3) (by exact hs.now.2.2.2.2.1) (hC0.fr (by (repeat rw [pI_sI_ne (by omega)]) <;> rfl)) (by omega) (by omega)) rok_v ⟨Nat.le_refl _, Nat.le_refl _, hN, hS⟩ ?_
      refine z_aload dX8_doForetell_74 rfl ?_
      refine z_iload dX8_doForetell_76 rfl ?_
      refine z_iconst (v := 4) dX8_doForetell_78 (by decide) ?_
      refine z_iload dX8_doForetell_79 rfl ?_
      refine y_callV (as := [_, _, _]) CX4_set LX8_75 IX4_set VX4_set ⟨rfl, Nat.le_of_ble_eq_true rfl⟩ dX8_doForetell_81 hs.now.2.2.2.2.1.1 rfl (Nat.le_of_ble_eq_true rfl) (Nat.le_of_ble_eq_true rfl) (by omega) (s_set (k := 13) (w := 6) (ms := 12) (n := a 11 + 1) (i := a 11) (j := 4) (by exact hs.now.2.2.2.2.1) (hC0.fr (by (repeat rw [pI_sI_ne (by omega)]) <;> rfl)) (by omega) (by omega)) rok_v ⟨Nat.le_refl _, Nat.le_refl _, hN, hS⟩ ?_
      refine z_aload dX8_doForetell_84 rfl ?_
      refine z_iload_n dX8_doForetell_86 rfl rfl ?_
      refine z_iload dX8_doForetell_87 rfl ?_
      refine y_callV (as := [_, _]) CX7_gain LX8_136 IX7_gain VX7_gain ⟨rfl, Nat.le_of_ble_eq_true rfl⟩ dX8_doForetell_89 hs.now.1 rfl (Nat.le_of_ble_eq_true rfl) (Nat.le_of_ble_eq_true rfl) (by omega) (c_gain (w := 10) (p := p) (m := fee) (W := U) (d := 1) (by exact (by exact hs.now)) vU (by rw [u0]; exact hp1) (by rw [uP]; exact hb) (by omega) (Nat.le_refl _)) rok_v ⟨Nat.le_refl _, Nat.le_refl _, hN, hS⟩ ?_
      rw [uP]
      refine z_iload dX8_doForetell_92 rfl ?_
      refine z_iret dX8_doForetell_94 ?_
      exact hQ
  · refine hv.now hi.2.2.2.2.1 rfl (fun k hk => ?_) (fun i hi => ?_) ?_
    · rw [pI_sI_ne (by omega), pI_sI_ne (by omega), pI_sI_ne (by omega), pI_sI_ne (by omega), pI_sI_ne (by omega), pI_sI_ne (by omega), growH_ne (by omega) (by omega)]
    · exact uns_o (by omega)
    · have vF := vU.setP (p := p) (c := 0) (v := min 9999 (snap a (ppx p 0) + fee)) (by rw [u0]; exact hp1) (by omega) rfl
      refine vF.cg (fun i hi => ?_)
      unfold mFore
      rw [snap_uns hi]
      unfold wFore wGain
      have e4 : snap a 4 = a 11 := rfl
      have e1 : snap a 1 = a 8 := rfl
      rw [e4, e1]
      have eP : up (up (up (up (up (up (up (snap a) (pcx (a 11) 0) p) (pcx (a 11) 1) al) (pcx (a 11) 2) f) (pcx (a 11) 3) (a 8 + dd)) (pcx (a 11) 4) fee) (pcx (a 11) 5) 0) 4 (a 11 + 1) (ppx p 0) = snap a (ppx p 0) := by
        unfold pcx ppx
        rw [up_n (by omega), up_n (by omega), up_n (by omega), up_n (by omega), up_n (by omega), up_n (by omega), up_n (by omega)]
      rw [eP]
      by_cases hiP : i = ppx p 0
      · rw [hiP, up_s, up_s]
      · rw [up_n hiP, up_n hiP]
        by_cases hi4 : i = 4
        · rw [hi4, up_s, ← hU]
          exact q4 _ _ _ (q4 _ _ _ (q4 _ _ _ (q4 _ _ _ (q4 _ _ _ g4))))
        · rw [up_n hi4]
          by_cases hr : 21 + a 11 * 6 ≤ i ∧ i < 21 + a 11 * 6 + 6
          · obtain ⟨c, hc, rfl⟩ : ∃ c, c < 6 ∧ i = 21 + (a 11 * 6 + c) := ⟨i - (21 + a 11 * 6), by omega, by omega⟩
            rw [← hU]
            unfold pcx
            rcases (show c = 0 ∨ c = 1 ∨ c = 2 ∨ c = 3 ∨ c = 4 ∨ c = 5 by omega) with rfl | rfl | rfl | rfl | rfl | rfl
            · rw [up_n (by omega), up_n (by omega), up_n (by omega), up_n (by omega), up_s, up_n (by omega), up_n (by omega), up_n (by omega), up_n (by omega), up_n (by omega), up_s]
            · rw [up_n (by omega), up_n (by omega), up_n (by omega), up_s, up_n (by omega), up_n (by omega), up_n (by omega), up_n (by omega), up_s]
            · rw [up_n (by omega), up_n (by omega), up_s, up_n (by omega), up_n (by omega), up_n (by omega), up_s]
            · rw [up_n (by omega), up_s, up_n (by omega), up_n (by omega), up_s]
            · rw [up_s, up_n (by omega), up_s]
            · rw [up_n (by omega), up_n (by omega), up_n (by omega), up_n (by omega), up_n (by omega), up_s]
              unfold gwC pcx
              rw [if_neg (by omega), if_pos (by rw [e4]; omega)]
          · rw [uo i hi4 hr]
            unfold pcx
            rw [up_n (by omega), up_n (by omega), up_n (by omega), up_n (by omega), up_n (by omega), up_n (by omega)]

theorem C_foretell {h : Hp} {d : Nat} {a : Fl} {tx : Nat → Nat → Prop} (h8 : IO h 8 8) (hx0 : pR h 8 0 = some 9) (hs : MkS h 9) (hv : MV h 9 a tx) (hi : IC a) (hp : IP a) (p : Int32) {al : Nat} (hal : al = 0 ∨ al = 1) (f e g : Int32) (hd : 4 ≤ d) : ∃ h1, Sp d mX8_foretell [.ref 8, .int p, .int (nI al), .int f, .int e, .int g] h (some (.int (mForetell a p al f e g).1)) h1 ∧ MV h1 9 (mForetell a p al f e g).2 tx ∧ FR 9 236 h h1 := by
  have v0 := hi.1
  have v1 := hi.2.1
  by_cases hc : okF a p ∧ okG a f e g
  · have eq : mForetell a p al f e g = (nI (a 11), mFore (mKeep a) (nn p) al (nn f) (nn e) (nn g)) := if_pos hc
    rw [eq]
    obtain ⟨hF, hf1, he1, hg1⟩ := id hc
    obtain ⟨j, hj, rfl⟩ := vin_of (by omega) hF.1
    obtain ⟨k1h, k1, k2, k3⟩ := c_remember (d := 3) hs hv hi.2.2.2.2.1 (by omega)
    have p2 : 2 ^ a 0 ≤ 2 ^ 8 := Nat.pow_le_pow_right (by omega) v0
    obtain ⟨f', hf', rfl⟩ := inr_of (n := 256) (x := f) (by omega) ⟨Int32.le_trans (by decide) hf1.1, Int32.le_of_lt (Int32.lt_of_lt_of_le hf1.2 (nI_le (by omega) (by omega)))⟩
    obtain ⟨e', he', rfl⟩ := inr_of (n := 99) (x := e) (by omega) ⟨Int32.le_trans (by decide) he1.1, he1.2⟩
    obtain ⟨g', hg', rfl⟩ := inr_of (n := 999) (x := g) (by omega) hg1
    rw [nn_nI (by omega), nn_nI (by omega), nn_nI (by omega), nn_nI (by omega)]
    have hk11 : mKeep a 11 = a 11 := mKeep_out hi.2.2.2.2.1 (by omega) (by omega)
    have hk1 : mKeep a 1 = a 1 := mKeep_out hi.2.2.2.2.1 (by omega) (by omega)
    have hkp : mKeep a (13 + 5 * j + 0) = a (13 + 5 * j + 0) := mKeep_out hi.2.2.2.2.1 (by omega) (by omega)
    obtain ⟨fh, f1, f2, f3⟩ := c_doForetell (d := 3) (p := j) (al := al) (f := f') (dd := e') (fee := g') (k3.1.O h8) (by rw [k3.1.R]; exact hx0) (k3.1.mk hs) k2 (IC.keep hi) (by rw [hk1]; exact hj) (by rw [hk11]; exact hF.2.2) (by rw [snap_pp (by omega) (by omega), hkp]; exact (hp j hj).1) (by omega) hal (Nat.le_refl _)
    rw [hk11] at f1
    refine ⟨fh, ?_, f2, k3.tr f3⟩
    intro N S Q hN hS hQ
    have hN : pn h ≤ N := by rw [← (k3.tr f3).1.n]; exact hN
    have hS : ps h ≤ S := by rw [← (k3.tr f3).1.s]; exact hS
    refine z_aload_n dX8_foretell_0 rfl rfl ?_
    refine z_iload_n dX8_foretell_1 rfl rfl ?_
    refine z_iload_n dX8_foretell_2 rfl rfl ?_
    refine z_iload dX8_foretell_3 rfl ?_
    refine z_iload dX8_foretell_5 rfl ?_
    refine y_callV (as := [_, _, _, _]) CX8_mayForetell LX8_109 IX8_mayForetell VX8_mayForetell ⟨rfl, Nat.le_of_ble_eq_true rfl⟩ dX8_foretell_7 h8 rfl (Nat.le_of_ble_eq_true rfl) (Nat.le_of_ble_eq_true rfl) (by omega) (c_mayForetell (d := 3) (by exact h8) (by exact hx0) (by exact hs) hv hi hp _ _ _ _ (Nat.le_refl _)) (rok_z bI_01) ⟨Nat.le_refl _, Nat.le_refl _, hN, hS⟩ ?_
    refine z_if_ne dX8_foretell_10 rfl (fun _ => ?_) (fun c => absurd c (bI_ne0.mpr hc))
    refine z_aload_n dX8_foretell_15 rfl rfl ?_
    refine y_getR FX8_10 dX8_foretell_16 rfl h8 hx0 ?_
    refine y_callV (as := []) CX1_remember LX8_113 IX1_remember VX1_remember ⟨rfl, Nat.le_of_ble_eq_true rfl⟩ dX8_foretell_19 hs.o rfl (Nat.le_of_ble_eq_true rfl) (Nat.le_of_ble_eq_true rfl) (by omega) k1 rok_v (hg_ss k3.1 hN hS) ?_
    refine z_aload_n dX8_foretell_22 rfl rfl ?_
    refine z_iload_n dX8_foretell_23 rfl rfl ?_
    refine z_iload_n dX8_foretell_24 rfl rfl ?_
    refine z_iload_n dX8_foretell_25 rfl rfl ?_
    refine z_iload dX8_foretell_26 rfl ?_
    refine z_iload dX8_foretell_28 rfl ?_
    refine y_callV (as := [_, _, _, _, _]) CX8_doForetell LX8_116 IX8_doForetell VX8_doForetell ⟨rfl, Nat.le_of_ble_eq_true rfl⟩ dX8_foretell_30 (k3.1.O h8) rfl (Nat.le_of_ble_eq_true rfl) (Nat.le_of_ble_eq_true rfl) (by omega) f1 rok_i (hg_ss f3.1 (by rw [k3.1.n]; exact hN) (by rw [k3.1.s]; exact hS)) ?_
    refine z_iret dX8_foretell_33 ?_
    exact hQ
  · have eq : mForetell a p al f e g = (-1, a) := if_neg hc
    rw [eq]
    refine ⟨h, ?_, hv, FR.rf⟩
    intro N S Q hN hS hQ
    refine z_aload_n dX8_foretell_0 rfl rfl ?_
    refine z_iload_n dX8_foretell_1 rfl rfl ?_
    refine z_iload_n dX8_foretell_2 rfl rfl ?_
    refine z_iload dX8_foretell_3 rfl ?_
    refine z_iload dX8_foretell_5 rfl ?_
    refine y_callV (as := [_, _, _, _]) CX8_mayForetell LX8_109 IX8_mayForetell VX8_mayForetell ⟨rfl, Nat.le_of_ble_eq_true rfl⟩ dX8_foretell_7 h8 rfl (Nat.le_of_ble_eq_true rfl) (Nat.le_of_ble_eq_true rfl) (by omega) (c_mayForetell (d := 3) (by exact h8) (by exact hx0) (by exact hs) hv hi hp _ _ _ _ (Nat.le_refl _)) (rok_z bI_01) ⟨Nat.le_refl _, Nat.le_refl _, hN, hS⟩ ?_
    refine z_if_ne dX8_foretell_10 rfl (fun c => absurd (bI_eq0.mpr hc) c) (fun _ => ?_)
    refine z_iconst (v := -1) dX8_foretell_13 (by decide) ?_
    refine z_iret dX8_foretell_14 ?_
    exact hQ

