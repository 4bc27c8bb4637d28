/-! the class reads prophecies (wip/whole/genac.py) -/
theorem bit_0 {v : Nat} (hv : v ≤ 7) : (1 : Int32) <<< (nI v &&& 31) = nI (0 ||| 2 ^ v) := by
  rw [nI_bit (by omega), Nat.zero_or]

/-- behind a fact: a comma and more, or the end -/
def rdXl (K W : Nat → Nat) (f j st : Nat) : Nat × Nat × Nat := if K j = 50 then (match f with
  | 0 => (7, j, 0)
  | f + 1 => rdX K W f (j + 1) st) else (0, j, st)
theorem rdX_l {K W : Nat → Nat} {f i st : Nat} : rdX K W f i st = if K i = 52 then (if W i ≤ 7 then rdXl K W f (i + 1) (st ||| 2 ^ W i) else (2, i, 0)) else (1, i, 0) := by
  cases f with
  | zero => rfl
  | succ f => rfl

theorem l_fz {h0 h : Hp} {K W : Nat → Nat} {n z i c d N S : Nat} {v : Int32} {Q : Option Value → Hp → Prop} (ct : CT h0 K W n) (q : RA h0 K n z i h) (hz : 1 ≤ z) (hQ : Q (some (.int v)) h) : T d N S mX2_readFacts 13 [some (.ref 472), some (.int v), some (.int (nI c))] [] h Q := by
  have n3 := ct.2.2.1
  have cr := q.cr ct
  have k54 := ct.2.2.2.2.2.2 i
  have in1 := q.2.2.2.2.2.2.2.1
  have z9 := q.2.2.2.2.2.2.2.2
  refine z_aload_n dX2_readFacts_13 rfl rfl ?_
  refine y_getI FX2_40 dX2_readFacts_14 (Or.inl rfl) cr.1 ?_
  refine z_eqi (y := nI (z)) q.2.2.2.2.2.2.1 ?_
  refine z_if_ne dX2_readFacts_17 rfl (fun _ => ?_) (fun c => absurd c (fun w => absurd ((nI_eq (b := 0) (by omega) (by omega)).mp w) (by omega)))
  refine z_iload_n dX2_readFacts_73 rfl rfl ?_
  refine z_iret dX2_readFacts_74 ?_
  exact hQ
theorem l_facts2 {h0 : Hp} {K W : Nat → Nat} {n d : Nat} (ct : CT h0 K W n) (hd : 2 ≤ d) : ∀ f c j st h, c + f = 8 → RA h0 K n 0 j h → ∃ v h1, RA h0 K n (rdXl K W f j st).1 (rdXl K W f j st).2.1 h1 ∧ ((rdXl K W f j st).1 = 0 → v = nI (rdXl K W f j st).2.2) ∧ ∀ N S Q, pn h0 ≤ N → ps h0 ≤ S → Q (some (.int v)) h1 → T d N S mX2_readFacts 13 [some (.ref 472), some (.int (nI st)), some (.int (nI c))] [] h Q := by
  intro f
  induction f with
  | zero =>
    intro c j st h hc q
    have c8 : c = 8 := by omega
    subst c8
    have n3 := ct.2.2.1
    have cr := q.cr ct
    have k54 := ct.2.2.2.2.2.2 j
    have in1 := q.2.2.2.2.2.2.2.1
    have z9 := q.2.2.2.2.2.2.2.2
    by_cases k1 : K j = 50
    · obtain ⟨h1, s1, q1, _⟩ := a_bl0 (d := 0) (w := 7) ct q (by omega)
      rw [show rdXl K W 0 j st = (7, j, 0) from if_pos k1]
      refine ⟨nI st, h1, q1, fun w => (by cases w), ?_⟩
      intro N S Q hN hS hQ
      refine z_aload_n dX2_readFacts_13 rfl rfl ?_
      refine y_getI FX2_40 dX2_readFacts_14 (Or.inl rfl) cr.1 ?_
      refine z_eqi (y := nI (0)) q.2.2.2.2.2.2.1 ?_
      refine z_if_ne dX2_readFacts_17 rfl (fun c => absurd (rfl) c) (fun _ => ?_)
      refine z_aload_n dX2_readFacts_20 rfl rfl ?_
      refine y_getI FX2_43 dX2_readFacts_21 (Or.inl rfl) cr.1 ?_
      refine z_eqi (y := nI (K j)) q.2.2.2.2.2.1 ?_
      refine z_bipush (v := 50) dX2_readFacts_24 (by decide) ?_
      refine z_icmp_ne dX2_readFacts_26 rfl (fun c => absurd (congrArg nI k1) c) (fun _ => ?_)
      refine z_iload_n dX2_readFacts_29 rfl rfl ?_
      refine z_bipush (v := 8) dX2_readFacts_30 (by decide) ?_
      refine z_icmp_gt dX2_readFacts_32 rfl (fun c => absurd c (by decide)) (fun _ => ?_)
      refine z_iload_n dX2_readFacts_35 rfl rfl ?_
      refine z_bipush (v := 8) dX2_readFacts_36 (by decide) ?_
      refine z_icmp_ne dX2_readFacts_38 rfl (fun c => absurd (by decide) c) (fun _ => ?_)
      refine z_aload_n dX2_readFacts_41 rfl rfl ?_
      refine z_bipush (v := 7) dX2_readFacts_42 (by decide) ?_
      refine y_callV (as := [_]) CX2_blame LX2_59 IX2_blame VX2_blame ⟨rfl, Nat.le_of_ble_eq_true rfl⟩ dX2_readFacts_44 cr.1 rfl (Nat.le_of_ble_eq_true rfl) (Nat.le_of_ble_eq_true rfl) (by omega) s1 rok_v (q.hg q1 hN hS) ?_
      refine z_goto dX2_readFacts_47 rfl ?_
      refine z_iinc dX2_readFacts_67 rfl (nI_1 8) (Nat.le_of_ble_eq_true rfl) ?_
      refine z_goto dX2_readFacts_70 rfl ?_
      exact l_fz (c := 9) ct q1 (by omega) hQ
    · rw [show rdXl K W 0 j st = (0, j, st) from if_neg k1]
      refine ⟨nI st, h, q, fun _ => rfl, ?_⟩
      intro N S Q hN hS hQ
      refine z_aload_n dX2_readFacts_13 rfl rfl ?_
      refine y_getI FX2_40 dX2_readFacts_14 (Or.inl rfl) cr.1 ?_
      refine z_eqi (y := nI (0)) q.2.2.2.2.2.2.1 ?_
      refine z_if_ne dX2_readFacts_17 rfl (fun c => absurd (rfl) c) (fun _ => ?_)
      refine z_aload_n dX2_readFacts_20 rfl rfl ?_
      refine y_getI FX2_43 dX2_readFacts_21 (Or.inl rfl) cr.1 ?_
      refine z_eqi (y := nI (K j)) q.2.2.2.2.2.1 ?_
      refine z_bipush (v := 50) dX2_readFacts_24 (by decide) ?_
      refine z_icmp_ne dX2_readFacts_26 rfl (fun _ => ?_) (fun c => absurd c (fun w => k1 ((nI_eq (b := 50) (by omega) (by omega)).mp w)))
      refine z_iload_n dX2_readFacts_73 rfl rfl ?_
      refine z_iret dX2_readFacts_74 ?_
      exact hQ
  | succ f ih =>
    intro c j st h hc q
    have n3 := ct.2.2.1
    have cr := q.cr ct
    have k54 := ct.2.2.2.2.2.2 j
    have in1 := q.2.2.2.2.2.2.2.1
    have z9 := q.2.2.2.2.2.2.2.2
    by_cases k1 : K j = 50
    · obtain ⟨h1, s1, q1, _⟩ := a_adv (d := 0) ct q (ct.lt j (by omega))
      have k542 := ct.2.2.2.2.2.2 (j + 1)
      rw [show rdXl K W (f + 1) j st = rdX K W f (j + 1) st from if_pos k1, rdX_l]
      by_cases k2 : K (j + 1) = 52
      · rw [if_pos k2]
        by_cases k3 : W (j + 1) ≤ 7
        · rw [if_pos k3]
          obtain ⟨h2, s2, q2, _⟩ := a_numY (d := 1) (lo := 0) (hi := 7) ct q1 k2 ⟨Nat.zero_le _, k3⟩ (by omega) (Nat.le_refl _)
          obtain ⟨v, h3, q3, e3, t3⟩ := ih (c + 1) (j + 1 + 1) (st ||| 2 ^ W (j + 1)) h2 (by omega) q2
          refine ⟨v, h3, q3, e3, ?_⟩
          intro N S Q hN hS hQ
          refine z_aload_n dX2_readFacts_13 rfl rfl ?_
          refine y_getI FX2_40 dX2_readFacts_14 (Or.inl rfl) cr.1 ?_
          refine z_eqi (y := nI (0)) q.2.2.2.2.2.2.1 ?_
          refine z_if_ne dX2_readFacts_17 rfl (fun c => absurd (rfl) c) (fun _ => ?_)
          refine z_aload_n dX2_readFacts_20 rfl rfl ?_
          refine y_getI FX2_43 dX2_readFacts_21 (Or.inl rfl) cr.1 ?_
          refine z_eqi (y := nI (K j)) q.2.2.2.2.2.1 ?_
          refine z_bipush (v := 50) dX2_readFacts_24 (by decide) ?_
          refine z_icmp_ne dX2_readFacts_26 rfl (fun c => absurd (congrArg nI k1) c) (fun _ => ?_)
          refine z_iload_n dX2_readFacts_29 rfl rfl ?_
          refine z_bipush (v := 8) dX2_readFacts_30 (by decide) ?_
          refine z_icmp_gt dX2_readFacts_32 rfl (fun c => absurd c (fun w => absurd ((nI_ltI (a := 8) (by omega) (by omega)).mp w) (by omega))) (fun _ => ?_)
          refine z_iload_n dX2_readFacts_35 rfl rfl ?_
          refine z_bipush (v := 8) dX2_readFacts_36 (by decide) ?_
          refine z_icmp_ne dX2_readFacts_38 rfl (fun _ => ?_) (fun c => absurd c (fun w => absurd ((nI_eq (b := 8) (by omega) (by omega)).mp w) (by omega)))
          refine z_aload_n dX2_readFacts_50 rfl rfl ?_
          refine y_callV (as := []) CX2_advance LX2_37 IX2_advance VX2_advance ⟨rfl, Nat.le_of_ble_eq_true rfl⟩ dX2_readFacts_51 cr.1 rfl (Nat.le_of_ble_eq_true rfl) (Nat.le_of_ble_eq_true rfl) (by omega) s1 rok_v (q.hg q1 hN hS) ?_
          refine z_iload_n dX2_readFacts_54 rfl rfl ?_
          refine z_aload_n dX2_readFacts_55 rfl rfl ?_
          refine z_iconst (v := 0) dX2_readFacts_56 (by decide) ?_
          refine z_bipush (v := 7) dX2_readFacts_57 (by decide) ?_
          refine y_callV (as := [_, _]) CX2_readNumber LX2_121 IX2_readNumber VX2_readNumber ⟨rfl, Nat.le_of_ble_eq_true rfl⟩ dX2_readFacts_59 ((q.ss q1).O cr.1) rfl (Nat.le_of_ble_eq_true rfl) (Nat.le_of_ble_eq_true rfl) (by omega) s2 rok_i (q1.hg q2 hN hS) ?_
          refine y_callS (as := [_]) CX8_bit LX2_128 SX8_bit dX2_readFacts_62 rfl (Nat.le_of_ble_eq_true rfl) (Nat.le_of_ble_eq_true rfl) (by omega) (s_bit (d := 0) _) rok_i (q2.hg q2 hN hS) ?_
          refine z_ior dX2_readFacts_65 ?_
          refine z_eqi (bit_or k3) ?_
          refine z_istore_n dX2_readFacts_66 rfl (Nat.le_of_ble_eq_true rfl) ?_
          refine z_iinc dX2_readFacts_67 rfl (nI_1 c) (Nat.le_of_ble_eq_true rfl) ?_
          refine z_goto dX2_readFacts_70 rfl ?_
          exact t3 N S Q hN hS hQ
        · rw [if_neg k3]
          obtain ⟨h2, s2, q2, _⟩ := a_numN (d := 1) (lo := 0) (hi := 7) ct q1 k2 (fun w => k3 w.2) (by omega) (Nat.le_refl _)
          refine ⟨nI st ||| ((1 : Int32) <<< ((0 : Int32) &&& 31)), h2, q2, fun w => (by cases w), ?_⟩
          intro N S Q hN hS hQ
          refine z_aload_n dX2_readFacts_13 rfl rfl ?_
          refine y_getI FX2_40 dX2_readFacts_14 (Or.inl rfl) cr.1 ?_
          refine z_eqi (y := nI (0)) q.2.2.2.2.2.2.1 ?_
          refine z_if_ne dX2_readFacts_17 rfl (fun c => absurd (rfl) c) (fun _ => ?_)
          refine z_aload_n dX2_readFacts_20 rfl rfl ?_
          refine y_getI FX2_43 dX2_readFacts_21 (Or.inl rfl) cr.1 ?_
          refine z_eqi (y := nI (K j)) q.2.2.2.2.2.1 ?_
          refine z_bipush (v := 50) dX2_readFacts_24 (by decide) ?_
          refine z_icmp_ne dX2_readFacts_26 rfl (fun c => absurd (congrArg nI k1) c) (fun _ => ?_)
          refine z_iload_n dX2_readFacts_29 rfl rfl ?_
          refine z_bipush (v := 8) dX2_readFacts_30 (by decide) ?_
          refine z_icmp_gt dX2_readFacts_32 rfl (fun c => absurd c (fun w => absurd ((nI_ltI (a := 8) (by omega) (by omega)).mp w) (by omega))) (fun _ => ?_)
          refine z_iload_n dX2_readFacts_35 rfl rfl ?_
          refine z_bipush (v := 8) dX2_readFacts_36 (by decide) ?_
          refine z_icmp_ne dX2_readFacts_38 rfl (fun _ => ?_) (fun c => absurd c (fun w => absurd ((nI_eq (b := 8) (by omega) (by omega)).mp w) (by omega)))
          refine z_aload_n dX2_readFacts_50 rfl rfl ?_
          refine y_callV (as := []) CX2_advance LX2_37 IX2_advance VX2_advance ⟨rfl, Nat.le_of_ble_eq_true rfl⟩ dX2_readFacts_51 cr.1 rfl (Nat.le_of_ble_eq_true rfl) (Nat.le_of_ble_eq_true rfl) (by omega) s1 rok_v (q.hg q1 hN hS) ?_
          refine z_iload_n dX2_readFacts_54 rfl rfl ?_
          refine z_aload_n dX2_readFacts_55 rfl rfl ?_
          refine z_iconst (v := 0) dX2_readFacts_56 (by decide) ?_
          refine z_bipush (v := 7) dX2_readFacts_57 (by decide) ?_
          refine y_callV (as := [_, _]) CX2_readNumber LX2_121 IX2_readNumber VX2_readNumber ⟨rfl, Nat.le_of_ble_eq_true rfl⟩ dX2_readFacts_59 ((q.ss q1).O cr.1) rfl (Nat.le_of_ble_eq_true rfl) (Nat.le_of_ble_eq_true rfl) (by omega) s2 rok_i (q1.hg q2 hN hS) ?_
          refine y_callS (as := [_]) CX8_bit LX2_128 SX8_bit dX2_readFacts_62 rfl (Nat.le_of_ble_eq_true rfl) (Nat.le_of_ble_eq_true rfl) (by omega) (s_bit (d := 0) _) rok_i (q2.hg q2 hN hS) ?_
          refine z_ior dX2_readFacts_65 ?_
          refine z_istore_n dX2_readFacts_66 rfl (Nat.le_of_ble_eq_true rfl) ?_
          refine z_iinc dX2_readFacts_67 rfl (nI_1 c) (Nat.le_of_ble_eq_true rfl) ?_
          refine z_goto dX2_readFacts_70 rfl ?_
          exact l_fz (c := c + 1) ct q2 (by omega) hQ
      · rw [if_neg k2]
        obtain ⟨h2, s2, q2, _⟩ := a_numP (d := 1) (lo := 0) (hi := 7) ct q1 k2 (Nat.le_refl _)
        refine ⟨nI st ||| ((1 : Int32) <<< ((0 : Int32) &&& 31)), h2, q2, fun w => (by cases w), ?_⟩
        intro N S Q hN hS hQ
        refine z_aload_n dX2_readFacts_13 rfl rfl ?_
        refine y_getI FX2_40 dX2_readFacts_14 (Or.inl rfl) cr.1 ?_
        refine z_eqi (y := nI (0)) q.2.2.2.2.2.2.1 ?_
        refine z_if_ne dX2_readFacts_17 rfl (fun c => absurd (rfl) c) (fun _ => ?_)
        refine z_aload_n dX2_readFacts_20 rfl rfl ?_
        refine y_getI FX2_43 dX2_readFacts_21 (Or.inl rfl) cr.1 ?_
        refine z_eqi (y := nI (K j)) q.2.2.2.2.2.1 ?_
        refine z_bipush (v := 50) dX2_readFacts_24 (by decide) ?_
        refine z_icmp_ne dX2_readFacts_26 rfl (fun c => absurd (congrArg nI k1) c) (fun _ => ?_)
        refine z_iload_n dX2_readFacts_29 rfl rfl ?_
        refine z_bipush (v := 8) dX2_readFacts_30 (by decide) ?_
        refine z_icmp_gt dX2_readFacts_32 rfl (fun c => absurd c (fun w => absurd ((nI_ltI (a := 8) (by omega) (by omega)).mp w) (by omega))) (fun _ => ?_)
        refine z_iload_n dX2_readFacts_35 rfl rfl ?_
        refine z_bipush (v := 8) dX2_readFacts_36 (by decide) ?_
        refine z_icmp_ne dX2_readFacts_38 rfl (fun _ => ?_) (fun c => absurd c (fun w => absurd ((nI_eq (b := 8) (by omega) (by omega)).mp w) (by omega)))
        refine z_aload_n dX2_readFacts_50 rfl rfl ?_
        refine y_callV (as := []) CX2_advance LX2_37 IX2_advance VX2_advance ⟨rfl, Nat.le_of_ble_eq_true rfl⟩ dX2_readFacts_51 cr.1 rfl (Nat.le_of_ble_eq_true rfl) (Nat.le_of_ble_eq_true rfl) (by omega) s1 rok_v (q.hg q1 hN hS) ?_
        refine z_iload_n dX2_readFacts_54 rfl rfl ?_
        refine z_aload_n dX2_readFacts_55 rfl rfl ?_
        refine z_iconst (v := 0) dX2_readFacts_56 (by decide) ?_
        refine z_bipush (v := 7) dX2_readFacts_57 (by decide) ?_
        refine y_callV (as := [_, _]) CX2_readNumber LX2_121 IX2_readNumber VX2_readNumber ⟨rfl, Nat.le_of_ble_eq_true rfl⟩ dX2_readFacts_59 ((q.ss q1).O cr.1) rfl (Nat.le_of_ble_eq_true rfl) (Nat.le_of_ble_eq_true rfl) (by omega) s2 rok_i (q1.hg q2 hN hS) ?_
        refine y_callS (as := [_]) CX8_bit LX2_128 SX8_bit dX2_readFacts_62 rfl (Nat.le_of_ble_eq_true rfl) (Nat.le_of_ble_eq_true rfl) (by omega) (s_bit (d := 0) _) rok_i (q2.hg q2 hN hS) ?_
        refine z_ior dX2_readFacts_65 ?_
        refine z_istore_n dX2_readFacts_66 rfl (Nat.le_of_ble_eq_true rfl) ?_
        refine z_iinc dX2_readFacts_67 rfl (nI_1 c) (Nat.le_of_ble_eq_true rfl) ?_
        refine z_goto dX2_readFacts_70 rfl ?_
        exact l_fz (c := c + 1) ct q2 (by omega) hQ
    · rw [show rdXl K W (f + 1) j st = (0, j, st) from if_neg k1]
      refine ⟨nI st, h, q, fun _ => rfl, ?_⟩
      intro N S Q hN hS hQ
      refine z_aload_n dX2_readFacts_13 rfl rfl ?_
      refine y_getI FX2_40 dX2_readFacts_14 (Or.inl rfl) cr.1 ?_
      refine z_eqi (y := nI (0)) q.2.2.2.2.2.2.1 ?_
      refine z_if_ne dX2_readFacts_17 rfl (fun c => absurd (rfl) c) (fun _ => ?_)
      refine z_aload_n dX2_readFacts_20 rfl rfl ?_
      refine y_getI FX2_43 dX2_readFacts_21 (Or.inl rfl) cr.1 ?_
      refine z_eqi (y := nI (K j)) q.2.2.2.2.2.1 ?_
      refine z_bipush (v := 50) dX2_readFacts_24 (by decide) ?_
      refine z_icmp_ne dX2_readFacts_26 rfl (fun _ => ?_) (fun c => absurd c (fun w => k1 ((nI_eq (b := 50) (by omega) (by omega)).mp w)))
      refine z_iload_n dX2_readFacts_73 rfl rfl ?_
      refine z_iret dX2_readFacts_74 ?_
      exact hQ

theorem c_readFacts {h0 h : Hp} {K W : Nat → Nat} {n z i d : Nat} (ct : CT h0 K W n) (q : RA h0 K n z i h) (hd : 2 ≤ d) : ∃ v h1, Sp d mX2_readFacts [.ref 472] h (some (.int v)) h1 ∧ (z = 0 → RA h0 K n (rdX K W 7 i 0).1 (rdX K W 7 i 0).2.1 h1 ∧ ((rdX K W 7 i 0).1 = 0 → v = nI (rdX K W 7 i 0).2.2)) ∧ (¬ z = 0 → h1 = h) := by
  have n3 := ct.2.2.1
  have cr := q.cr ct
  have k54 := ct.2.2.2.2.2.2 i
  have in1 := q.2.2.2.2.2.2.2.1
  have z9 := q.2.2.2.2.2.2.2.2
  by_cases hz : z = 0
  · subst hz
    rw [rdX_l]
    by_cases k2 : K i = 52
    · rw [if_pos k2]
      by_cases k3 : W i ≤ 7
      · rw [if_pos k3]
        obtain ⟨h2, s2, q2, _⟩ := a_numY (d := 1) (lo := 0) (hi := 7) ct q k2 ⟨Nat.zero_le _, k3⟩ (by omega) (Nat.le_refl _)
        obtain ⟨v, h3, q3, e3, t3⟩ := l_facts2 ct hd 7 1 (i + 1) (0 ||| 2 ^ W i) h2 rfl q2
        refine ⟨v, h3, ?_, fun _ => ⟨q3, e3⟩, fun w => absurd rfl w⟩
        intro N S Q hN hS hQ
        have hN : pn h0 ≤ N := ss_n q3.1 hN
        have hS : ps h0 ≤ S := ss_s q3.1 hS
        refine z_aload_n dX2_readFacts_0 rfl rfl ?_
        refine z_iconst (v := 0) dX2_readFacts_1 (by decide) ?_
        refine z_bipush (v := 7) dX2_readFacts_2 (by decide) ?_
        refine y_callV (as := [_, _]) CX2_readNumber LX2_121 IX2_readNumber VX2_readNumber ⟨rfl, Nat.le_of_ble_eq_true rfl⟩ dX2_readFacts_4 cr.1 rfl (Nat.le_of_ble_eq_true rfl) (Nat.le_of_ble_eq_true rfl) (by omega) s2 rok_i (q.hg q2 hN hS) ?_
        refine y_callS (as := [_]) CX8_bit LX2_128 SX8_bit dX2_readFacts_7 rfl (Nat.le_of_ble_eq_true rfl) (Nat.le_of_ble_eq_true rfl) (by omega) (s_bit (d := 0) _) rok_i (q2.hg q2 hN hS) ?_
        refine z_eqi (bit_0 k3) ?_
        refine z_istore_n dX2_readFacts_10 rfl (Nat.le_of_ble_eq_true rfl) ?_
        refine z_iconst (v := 1) dX2_readFacts_11 (by decide) ?_
        refine z_istore_n dX2_readFacts_12 rfl (Nat.le_of_ble_eq_true rfl) ?_
        exact t3 N S Q hN hS hQ
      · rw [if_neg k3]
        obtain ⟨h2, s2, q2, _⟩ := a_numN (d := 1) (lo := 0) (hi := 7) ct q k2 (fun w => k3 w.2) (by omega) (Nat.le_refl _)
        refine ⟨(1 : Int32) <<< ((0 : Int32) &&& 31), h2, ?_, fun _ => ⟨q2, fun w => (by cases w)⟩, fun w => absurd rfl w⟩
        intro N S Q hN hS hQ
        have hN : pn h0 ≤ N := ss_n q2.1 hN
        have hS : ps h0 ≤ S := ss_s q2.1 hS
        refine z_aload_n dX2_readFacts_0 rfl rfl ?_
        refine z_iconst (v := 0) dX2_readFacts_1 (by decide) ?_
        refine z_bipush (v := 7) dX2_readFacts_2 (by decide) ?_
        refine y_callV (as := [_, _]) CX2_readNumber LX2_121 IX2_readNumber VX2_readNumber ⟨rfl, Nat.le_of_ble_eq_true rfl⟩ dX2_readFacts_4 cr.1 rfl (Nat.le_of_ble_eq_true rfl) (Nat.le_of_ble_eq_true rfl) (by omega) s2 rok_i (q.hg q2 hN hS) ?_
        refine y_callS (as := [_]) CX8_bit LX2_128 SX8_bit dX2_readFacts_7 rfl (Nat.le_of_ble_eq_true rfl) (Nat.le_of_ble_eq_true rfl) (by omega) (s_bit (d := 0) _) rok_i (q2.hg q2 hN hS) ?_
        refine z_istore_n dX2_readFacts_10 rfl (Nat.le_of_ble_eq_true rfl) ?_
        refine z_iconst (v := 1) dX2_readFacts_11 (by decide) ?_
        refine z_istore_n dX2_readFacts_12 rfl (Nat.le_of_ble_eq_true rfl) ?_
        exact l_fz (c := 1) ct q2 (by omega) hQ
    · rw [if_neg k2]
      obtain ⟨h2, s2, q2, _⟩ := a_numP (d := 1) (lo := 0) (hi := 7) ct q k2 (Nat.le_refl _)
      refine ⟨(1 : Int32) <<< ((0 : Int32) &&& 31), h2, ?_, fun _ => ⟨q2, fun w => (by cases w)⟩, fun w => absurd rfl w⟩
      intro N S Q hN hS hQ
      have hN : pn h0 ≤ N := ss_n q2.1 hN
      have hS : ps h0 ≤ S := ss_s q2.1 hS
      refine z_aload_n dX2_readFacts_0 rfl rfl ?_
      refine z_iconst (v := 0) dX2_readFacts_1 (by decide) ?_
      refine z_bipush (v := 7) dX2_readFacts_2 (by decide) ?_
      refine y_callV (as := [_, _]) CX2_readNumber LX2_121 IX2_readNumber VX2_readNumber ⟨rfl, Nat.le_of_ble_eq_true rfl⟩ dX2_readFacts_4 cr.1 rfl (Nat.le_of_ble_eq_true rfl) (Nat.le_of_ble_eq_true rfl) (by omega) s2 rok_i (q.hg q2 hN hS) ?_
      refine y_callS (as := [_]) CX8_bit LX2_128 SX8_bit dX2_readFacts_7 rfl (Nat.le_of_ble_eq_true rfl) (Nat.le_of_ble_eq_true rfl) (by omega) (s_bit (d := 0) _) rok_i (q2.hg q2 hN hS) ?_
      refine z_istore_n dX2_readFacts_10 rfl (Nat.le_of_ble_eq_true rfl) ?_
      refine z_iconst (v := 1) dX2_readFacts_11 (by decide) ?_
      refine z_istore_n dX2_readFacts_12 rfl (Nat.le_of_ble_eq_true rfl) ?_
      exact l_fz (c := 1) ct q2 (by omega) hQ
  · have s2 := a_num1 (d := 1) (lo := 0) (hi := 7) ct q (by omega)
    refine ⟨(1 : Int32) <<< ((0 : Int32) &&& 31), h, ?_, fun w => absurd w hz, fun _ => rfl⟩
    intro N S Q hN hS hQ
    have hN : pn h0 ≤ N := ss_n q.1 hN
    have hS : ps h0 ≤ S := ss_s q.1 hS
    refine z_aload_n dX2_readFacts_0 rfl rfl ?_
    refine z_iconst (v := 0) dX2_readFacts_1 (by decide) ?_
    refine z_bipush (v := 7) dX2_readFacts_2 (by decide) ?_
    refine y_callV (as := [_, _]) CX2_readNumber LX2_121 IX2_readNumber VX2_readNumber ⟨rfl, Nat.le_of_ble_eq_true rfl⟩ dX2_readFacts_4 cr.1 rfl (Nat.le_of_ble_eq_true rfl) (Nat.le_of_ble_eq_true rfl) (by omega) s2 rok_i (q.hg q hN hS) ?_
    refine y_callS (as := [_]) CX8_bit LX2_128 SX8_bit dX2_readFacts_7 rfl (Nat.le_of_ble_eq_true rfl) (Nat.le_of_ble_eq_true rfl) (by omega) (s_bit (d := 0) _) rok_i (q.hg q hN hS) ?_
    refine z_istore_n dX2_readFacts_10 rfl (Nat.le_of_ble_eq_true rfl) ?_
    refine z_iconst (v := 1) dX2_readFacts_11 (by decide) ?_
    refine z_istore_n dX2_readFacts_12 rfl (Nat.le_of_ble_eq_true rfl) ?_
    exact l_fz (c := 1) ct q (by omega) hQ

/-- all or any; facts -/
def stAl (K : Nat → Nat) (y : Nat × Nat × List Nat) : Nat × Nat × List Nat := if y.1 = 0 then (if K y.2.1 = 14 then (0, y.2.1 + 1, y.2.2 ++ [1]) else if K y.2.1 = 13 then (0, y.2.1 + 1, y.2.2 ++ [0]) else (1, y.2.1, y.2.2)) else y
def stX (K W : Nat → Nat) (y : Nat × Nat × List Nat) : Nat × Nat × List Nat := if y.1 = 0 then ((rdX K W 7 y.2.1 0).1, (rdX K W 7 y.2.1 0).2.1, y.2.2 ++ [(rdX K W 7 y.2.1 0).2.2]) else y
theorem stAl_z {K : Nat → Nat} {y : Nat × Nat × List Nat} (h : ¬ y.1 = 0) : stAl K y = y := if_neg h
theorem stX_z {K W : Nat → Nat} {y : Nat × Nat × List Nat} (h : ¬ y.1 = 0) : stX K W y = y := if_neg h
abbrev fAll (K W : Nat → Nat) (i : Nat) : Nat × Nat × List Nat := stNm K W 0 999 (stE K 16 (stNm K W 1 99 (stE K 15 (stX K W (stAl K (stNm K W 0 4 (0, i, [])))))))
theorem rdF_st {K W : Nat → Nat} {i : Nat} : (rdF K W i).1 = (fAll K W i).1 ∧ (rdF K W i).2.1 = (fAll K W i).2.1 ∧ ((fAll K W i).1 = 0 → rdF K W i = fAll K W i) := by
  have allz : ∀ y : Nat × Nat × List Nat, ¬ y.1 = 0 → stNm K W 0 999 (stE K 16 (stNm K W 1 99 (stE K 15 (stX K W (stAl K y))))) = y := fun y h => by rw [stAl_z h, stX_z h, stE_z h, stNm_z h, stE_z h, stNm_z h]
  have xz : ∀ y : Nat × Nat × List Nat, ¬ y.1 = 0 → stNm K W 0 999 (stE K 16 (stNm K W 1 99 (stE K 15 (stX K W y)))) = y := fun y h => by rw [stX_z h, stE_z h, stNm_z h, stE_z h, stNm_z h]
  unfold rdF
  by_cases k1 : K i = 52
  · rw [if_pos k1]
    by_cases k2 : W i ≤ 4
    · rw [if_pos k2]
      have e1 : stNm K W 0 4 (0, i, []) = (0, i + 1, [W i]) := by
        unfold stNm
        rw [if_pos rfl, if_pos k1, if_pos ⟨Nat.zero_le _, k2⟩]
        rfl
      show _ = (stNm K W 0 999 (stE K 16 (stNm K W 1 99 (stE K 15 (stX K W (stAl K (stNm K W 0 4 (0, i, [])))))))).1 ∧ _ = (stNm K W 0 999 (stE K 16 (stNm K W 1 99 (stE K 15 (stX K W (stAl K (stNm K W 0 4 (0, i, [])))))))).2.1 ∧ ((stNm K W 0 999 (stE K 16 (stNm K W 1 99 (stE K 15 (stX K W (stAl K (stNm K W 0 4 (0, i, [])))))))).1 = 0 → _ = stNm K W 0 999 (stE K 16 (stNm K W 1 99 (stE K 15 (stX K W (stAl K (stNm K W 0 4 (0, i, []))))))))
      rw [e1]
      by_cases k3 : K (i + 1) = 14 ∨ K (i + 1) = 13
      · rw [if_pos k3]
        have e2 : stAl K (0, i + 1, [W i]) = (0, i + 2, [W i, if K (i + 1) = 14 then 1 else 0]) := by
          unfold stAl
          rw [if_pos rfl]
          by_cases k4 : K (i + 1) = 14
          · rw [if_pos k4, if_pos k4]; rfl
          · rw [if_neg k4, if_neg k4, if_pos (k3.resolve_left k4)]; rfl
        rw [e2]
        unfold rdF2
        by_cases hx : (rdX K W 7 (i + 2) 0).1 = 0
        · rw [if_pos hx]
          have e3 : stX K W (0, i + 2, [W i, if K (i + 1) = 14 then 1 else 0]) = (0, (rdX K W 7 (i + 2) 0).2.1, [W i, (if K (i + 1) = 14 then 1 else 0), (rdX K W 7 (i + 2) 0).2.2]) := by
            unfold stX
            rw [if_pos rfl]
            show ((rdX K W 7 (i + 2) 0).1, _) = _
            rw [hx]
            rfl
          rw [e3, ← rdW_st2]
          exact ⟨rfl, rfl, fun _ => rfl⟩
        · rw [if_neg hx]
          have e3 : stX K W (0, i + 2, [W i, if K (i + 1) = 14 then 1 else 0]) = ((rdX K W 7 (i + 2) 0).1, (rdX K W 7 (i + 2) 0).2.1, [W i, (if K (i + 1) = 14 then 1 else 0)] ++ [(rdX K W 7 (i + 2) 0).2.2]) := if_pos rfl
          have hy : ¬ ((rdX K W 7 (i + 2) 0).1, (rdX K W 7 (i + 2) 0).2.1, [W i, (if K (i + 1) = 14 then 1 else 0)] ++ [(rdX K W 7 (i + 2) 0).2.2]).1 = 0 := hx
          rw [e3, stE_z hy, stNm_z hy, stE_z hy, stNm_z hy]
          exact ⟨rfl, rfl, fun w => absurd w hx⟩
      · rw [if_neg k3]
        have e2 : stAl K (0, i + 1, [W i]) = (1, i + 1, [W i]) := by
          unfold stAl
          rw [if_pos rfl, if_neg (fun w => k3 (Or.inl w)), if_neg (fun w => k3 (Or.inr w))]
        rw [e2, xz _ (by show ¬ 1 = 0; omega)]
        exact ⟨rfl, rfl, fun w => (by cases w)⟩
    · rw [if_neg k2]
      have e1 : fAll K W i = (2, i, []) := by
        unfold fAll
        rw [show stNm K W 0 4 (0, i, []) = (2, i, []) by unfold stNm; rw [if_pos rfl, if_pos k1, if_neg (fun w => k2 w.2)]]
        exact allz _ (by show ¬ 2 = 0; omega)
      rw [e1]
      exact ⟨rfl, rfl, fun w => (by cases w)⟩
  · rw [if_neg k1]
    have e1 : fAll K W i = (1, i, []) := by
      unfold fAll
      rw [show stNm K W 0 4 (0, i, []) = (1, i, []) by unfold stNm; rw [if_pos rfl, if_neg k1]]
      exact allz _ (by show ¬ 1 = 0; omega)
    rw [e1]
    exact ⟨rfl, rfl, fun w => (by cases w)⟩
theorem AS.cg {x n s : Nat} {K W : Nat → Nat} {L : List Cl} {y y' : Nat × Nat × List Nat} {h : Hp} (q : AS x K W n L s y h) (e1 : y'.1 = y.1) (e2 : y'.2.1 = y.2.1) (e3 : y.1 = 0 → y' = y) : AS x K W n L s y' h := by
  obtain ⟨q1, q2, q3, q4, q5, q6⟩ := q
  exact ⟨by rw [e1, e2]; exact q1, q2, q3, q4, q5, fun w => by rw [e1] at w; rw [e3 w]; exact q6 w⟩
theorem stAl_l {K : Nat → Nat} {y : Nat × Nat × List Nat} : (stAl K y).1 = 0 → (stAl K y).2.2.length = y.2.2.length + 1 ∧ y.1 = 0 := by
  unfold stAl
  split
  · next hz =>
    split
    · intro _; exact ⟨len1n _ _, hz⟩
    · split
      · intro _; exact ⟨len1n _ _, hz⟩
      · intro w; cases w
  · next hz => intro w; exact absurd w hz
theorem stX_l {K W : Nat → Nat} {y : Nat × Nat × List Nat} : (stX K W y).1 = 0 → (stX K W y).2.2.length = y.2.2.length + 1 ∧ y.1 = 0 := by
  unfold stX
  split
  · next hz => intro _; exact ⟨len1n _ _, hz⟩
  · next hz => intro w; exact absurd w hz
/-- all or any, in two steps: its number is laid, then the word is wanted -/
theorem g_all {x n s d : Nat} {K W : Nat → Nat} {L : List Cl} {y : Nat × Nat × List Nat} {h : Hp} (q : AS x K W n L s y h) (wf : ∀ p ∈ L, WFq p) (hc : 2 = y.2.2.length + 1 ∨ ¬ y.1 = 0) (hd : 1 ≤ d) {b w : Nat} (hb : (K y.2.1 = 14 ∧ b = 1 ∧ w = 14) ∨ (¬ K y.2.1 = 14 ∧ b = 0 ∧ w = 13)) : ∃ h1, (∀ d1, Sp d1 mX4_set [.ref (x + 1), .int (nI L.length), .int (nI 2), .int (nI b)] h none (sI h (x + 1 + 1) (L.length * 6 + 2) (nI b))) ∧ Sp d mX2_expect [.ref 472, .int (nI w)] (sI h (x + 1 + 1) (L.length * 6 + 2) (nI b)) none h1 ∧ AS x K W n L s (stAl K y) h1 ∧ FC x h h1 ∧ pI (sI h (x + 1 + 1) (L.length * 6 + 2) (nI b)) 472 4 = nI (K y.2.1) := by
  have st : ∀ d1, Sp d1 mX4_set [.ref (x + 1), .int (nI L.length), .int (nI 2), .int (nI b)] h none (sI h (x + 1 + 1) (L.length * 6 + 2) (nI b)) := fun d1 => s_set q.rw.1 q.rw.2 (by omega) (by omega)
  have x5 := q.2.2.1.1
  have tk : pI (sI h (x + 1 + 1) (L.length * 6 + 2) (nI b)) 472 4 = nI (K y.2.1) := by rw [pI_sI_ne (by omega)]; exact q.1.2.2.2.2.2.2.1
  have f0 : FC x h (sI h (x + 1 + 1) (L.length * 6 + 2) (nI b)) := FC.rf.st
  by_cases hz : y.1 = 0
  · have hc : 2 = y.2.2.length + 1 := hc.resolve_right (fun w => w hz)
    have q1 := q.set (c := 2) (v := nI b) (ns := y.2.2 ++ [b]) wf (by omega) (fun _ j u hj => by
      by_cases e : j + 1 = 2
      · rw [if_pos e]
        rw [List.getElem?_append_right (by omega), show j - y.2.2.length = 0 by omega] at hj
        cases hj
        rfl
      · rw [if_neg e]
        have := lt_of_some hj
        rw [len1n] at this
        rw [List.getElem?_append_left (by omega)] at hj
        exact hj)
    obtain ⟨h1, s1, q2, f1⟩ := g_exp (d := d) (w := w) q1 (by omega) hd
    refine ⟨h1, st, s1, ?_, f0.tr f1, tk⟩
    have ee : stE K w (y.1, y.2.1, y.2.2 ++ [b]) = if K y.2.1 = w then (0, y.2.1 + 1, y.2.2 ++ [b]) else (1, y.2.1, y.2.2 ++ [b]) := if_pos hz
    rw [ee] at q2
    rcases hb with ⟨k1, rfl, rfl⟩ | ⟨k1, rfl, rfl⟩
    · rw [if_pos k1] at q2
      rw [show stAl K y = (0, y.2.1 + 1, y.2.2 ++ [1]) by unfold stAl; rw [if_pos hz, if_pos k1]]
      exact q2
    · by_cases k2 : K y.2.1 = 13
      · rw [if_pos k2] at q2
        rw [show stAl K y = (0, y.2.1 + 1, y.2.2 ++ [0]) by unfold stAl; rw [if_pos hz, if_neg k1, if_pos k2]]
        exact q2
      · rw [if_neg k2] at q2
        rw [show stAl K y = (1, y.2.1, y.2.2) by unfold stAl; rw [if_pos hz, if_neg k1, if_neg k2]]
        exact q2.cg rfl rfl (fun w => (by cases w))
  · have q1 := q.set (c := 2) (v := nI b) (ns := y.2.2) wf (by omega) (fun w => absurd w hz)
    obtain ⟨h1, s1, q2, f1⟩ := g_exp (d := d) (w := w) q1 (by omega) hd
    refine ⟨h1, st, s1, ?_, f0.tr f1, tk⟩
    rw [stE_z (by exact hz)] at q2
    rw [stAl_z hz]
    exact q2
theorem g_fac {x n s d : Nat} {K W : Nat → Nat} {L : List Cl} {y : Nat × Nat × List Nat} {h : Hp} (q : AS x K W n L s y h) (wf : ∀ p ∈ L, WFq p) (hc : 3 = y.2.2.length + 1 ∨ ¬ y.1 = 0) (hd : 2 ≤ d) : ∃ v h1, Sp d mX2_readFacts [.ref 472] h (some (.int v)) h1 ∧ (∀ d1, Sp d1 mX4_set [.ref (x + 1), .int (nI L.length), .int (nI 3), .int v] h1 none (sI h1 (x + 1 + 1) (L.length * 6 + 3) v)) ∧ AS x K W n L s (stX K W y) (sI h1 (x + 1 + 1) (L.length * 6 + 3) v) ∧ FC x h h1 := by
  obtain ⟨v, h1, s1, e1, e2⟩ := c_readFacts (d := d) q.1.1 q.1.2 hd
  by_cases hz : y.1 = 0
  · obtain ⟨r1, e3⟩ := e1 hz
    have hc : 3 = y.2.2.length + 1 := hc.resolve_right (fun w => w hz)
    have q1 := q.mv r1 (fun _ => hz)
    refine ⟨v, h1, s1, fun d1 => s_set q1.rw.1 q1.rw.2 (by omega) (by omega), ?_, r1.fc⟩
    rw [show stX K W y = ((rdX K W 7 y.2.1 0).1, (rdX K W 7 y.2.1 0).2.1, y.2.2 ++ [(rdX K W 7 y.2.1 0).2.2]) from if_pos hz]
    refine q1.set (c := 3) (v := v) (ns := y.2.2 ++ [(rdX K W 7 y.2.1 0).2.2]) wf (by omega) (fun w j u hj => ?_)
    by_cases e : j + 1 = 3
    · rw [if_pos e]
      rw [List.getElem?_append_right (by omega), show j - y.2.2.length = 0 by omega] at hj
      cases hj
      exact e3 w
    · rw [if_neg e]
      have := lt_of_some hj
      rw [len1n] at this
      rw [List.getElem?_append_left (by omega)] at hj
      exact hj
  · have eh := e2 hz
    subst eh
    refine ⟨v, h1, s1, fun d1 => s_set q.rw.1 q.rw.2 (by omega) (by omega), ?_, FC.rf⟩
    rw [stX_z hz]
    exact q.set wf (by omega) (fun w => absurd w hz)

theorem c_readForetell {x n s i d : Nat} {K W : Nat → Nat} {L : List Cl} {h : Hp} (q : AS x K W n L s (0, i, []) h) (wf : ∀ p ∈ L, WFq p) (hd : 3 ≤ d) : ∃ h1, Sp d mX2_readForetell [.ref 472, .int (nI L.length)] h none h1 ∧ AS x K W n L s (rdF K W i) h1 ∧ FC x h h1 := by
  obtain ⟨v1, g1, s1, u1, q1, f1⟩ := g_num (d := 1) (lo := 0) (hi := 4) (c := 1) q wf (by omega) (Or.inl rfl) (by omega) (Nat.le_refl _)
  have k54 := q.1.1.2.2.2.2.2.2 (stNm K W 0 4 (0, i, ([] : List Nat))).2.1
  have ln2 : 2 = (stNm K W 0 4 (0, i, ([] : List Nat))).2.2.length + 1 ∨ ¬ (stNm K W 0 4 (0, i, ([] : List Nat))).1 = 0 := by
    by_cases w : (stNm K W 0 4 (0, i, ([] : List Nat))).1 = 0
    · left
      obtain ⟨a0, w0⟩ := stNm_l w
      rw [a0]
      rfl
    · exact Or.inr w
  have ln3 : 3 = (stAl K (stNm K W 0 4 (0, i, ([] : List Nat)))).2.2.length + 1 ∨ ¬ (stAl K (stNm K W 0 4 (0, i, ([] : List Nat)))).1 = 0 := by
    by_cases w : (stAl K (stNm K W 0 4 (0, i, ([] : List Nat)))).1 = 0
    · left
      obtain ⟨a0, w0⟩ := stAl_l w
      obtain ⟨a1, w1⟩ := stNm_l w0
      rw [a0, a1]
      rfl
    · exact Or.inr w
  have ln5 : 4 = (stE K 15 (stX K W (stAl K (stNm K W 0 4 (0, i, ([] : List Nat)))))).2.2.length + 1 ∨ ¬ (stE K 15 (stX K W (stAl K (stNm K W 0 4 (0, i, ([] : List Nat)))))).1 = 0 := by
    by_cases w : (stE K 15 (stX K W (stAl K (stNm K W 0 4 (0, i, ([] : List Nat)))))).1 = 0
    · left
      obtain ⟨a0, w0⟩ := stE_l w
      obtain ⟨a1, w1⟩ := stX_l w0
      obtain ⟨a2, w2⟩ := stAl_l w1
      obtain ⟨a3, w3⟩ := stNm_l w2
      rw [a0, a1, a2, a3]
      rfl
    · exact Or.inr w
  have ln7 : 5 = (stE K 16 (stNm K W 1 99 (stE K 15 (stX K W (stAl K (stNm K W 0 4 (0, i, ([] : List Nat)))))))).2.2.length + 1 ∨ ¬ (stE K 16 (stNm K W 1 99 (stE K 15 (stX K W (stAl K (stNm K W 0 4 (0, i, ([] : List Nat)))))))).1 = 0 := by
    by_cases w : (stE K 16 (stNm K W 1 99 (stE K 15 (stX K W (stAl K (stNm K W 0 4 (0, i, ([] : List Nat)))))))).1 = 0
    · left
      obtain ⟨a0, w0⟩ := stE_l w
      obtain ⟨a1, w1⟩ := stNm_l w0
      obtain ⟨a2, w2⟩ := stE_l w1
      obtain ⟨a3, w3⟩ := stX_l w2
      obtain ⟨a4, w4⟩ := stAl_l w3
      obtain ⟨a5, w5⟩ := stNm_l w4
      rw [a0, a1, a2, a3, a4, a5]
      rfl
    · exact Or.inr w
  by_cases k14 : K (stNm K W 0 4 (0, i, ([] : List Nat))).2.1 = 14
  · obtain ⟨g2, u2, s2, q2, f2, t2⟩ := g_all (d := 1) (b := 1) (w := 14) q1 wf ln2 (Nat.le_refl _) (Or.inl ⟨k14, rfl, rfl⟩)
    have c2 := f1.st.tr f2
    have fe : FC x (sI (sI g1 (x + 1 + 1) (L.length * 6 + 1) v1) (x + 1 + 1) (L.length * 6 + 2) (nI 1)) g2 := ⟨f2.1, f2.2.1, fun k k1 k0 k2 k3 => by rw [f2.2.2 k k1 k0 k2 k3, pI_sI_ne k3, pI_sI_ne k3, pI_sI_ne k3]⟩
    obtain ⟨v3, g3, s3, u3, q3, f3⟩ := g_fac (d := 2) q2 wf ln3 (Nat.le_refl _)
    have c3 := c2.tr f3
    obtain ⟨g4, s4, q4, f4⟩ := g_exp (d := 1) (w := 15) q3 (by omega) (Nat.le_refl _)
    have c4 := c3.st.tr f4
    obtain ⟨v5, g5, s5, u5, q5, f5⟩ := g_num (d := 1) (lo := 1) (hi := 99) (c := 4) q4 wf (by omega) ln5 (by omega) (Nat.le_refl _)
    have c5 := c4.tr f5
    obtain ⟨g6, s6, q6, f6⟩ := g_exp (d := 1) (w := 16) q5 (by omega) (Nat.le_refl _)
    have c6 := c5.st.tr f6
    obtain ⟨v7, g7, s7, u7, q7, f7⟩ := g_num (d := 1) (lo := 0) (hi := 999) (c := 5) q6 wf (by omega) ln7 (by omega) (Nat.le_refl _)
    have c7 := c6.tr f7
    obtain ⟨e1, e2, e3⟩ := rdF_st (K := K) (W := W) (i := i)
    refine ⟨_, ?_, q7.cg e1 e2 e3, c7.st⟩
    intro N S Q hN hS hQ
    have hN : pn h ≤ N := ss_n c7.st.1 hN
    have hS : ps h ≤ S := ss_s c7.st.1 hS
    refine z_aload_n dX2_readForetell_0 rfl rfl ?_
    refine y_getR FX2_25 dX2_readForetell_1 rfl (q.1.1.1.1) q.2.1 ?_
    refine y_getR FX2_74 dX2_readForetell_4 rfl q.2.2.1.2.1 q.2.2.1.2.2.1 ?_
    refine z_astore_n dX2_readForetell_7 rfl (Nat.le_of_ble_eq_true rfl) ?_
    refine z_aload_n dX2_readForetell_8 rfl rfl ?_
    refine z_iload_n dX2_readForetell_9 rfl rfl ?_
    refine z_iconst (v := 1) dX2_readForetell_10 (by decide) ?_
    refine z_aload_n dX2_readForetell_11 rfl rfl ?_
    refine z_iconst (v := 0) dX2_readForetell_12 (by decide) ?_
    refine z_iconst (v := 4) dX2_readForetell_13 (by decide) ?_
    refine y_callV (as := [_, _]) CX2_readNumber LX2_121 IX2_readNumber VX2_readNumber ⟨rfl, Nat.le_of_ble_eq_true rfl⟩ dX2_readForetell_14 (q.1.1.1.1) rfl (Nat.le_of_ble_eq_true rfl) (Nat.le_of_ble_eq_true rfl) (by omega) s1 rok_i (hg_ss f1.1 hN hS) ?_
    refine y_callV (as := [_, _, _]) CX4_set LX2_85 IX4_set VX4_set ⟨rfl, Nat.le_of_ble_eq_true rfl⟩ dX2_readForetell_17 (f1.1.O q.2.2.1.2.2.2.1.1) rfl (Nat.le_of_ble_eq_true rfl) (Nat.le_of_ble_eq_true rfl) (by omega) (u1 0) rok_v ⟨Nat.le_refl _, Nat.le_refl _, ss_n' f1.1 hN, ss_s' f1.1 hS⟩ ?_
    refine z_aload_n dX2_readForetell_20 rfl rfl ?_
    refine z_iload_n dX2_readForetell_21 rfl rfl ?_
    refine z_iconst (v := 2) dX2_readForetell_22 (by decide) ?_
    refine z_aload_n dX2_readForetell_23 rfl rfl ?_
    refine y_getI FX2_43 dX2_readForetell_24 (Or.inl rfl) (f1.st.1.O (q.1.1.1.1)) ?_
    refine z_eqi (y := nI (K (stNm K W 0 4 (0, i, ([] : List Nat))).2.1)) q1.1.2.2.2.2.2.2.1 ?_
    refine z_bipush (v := 14) dX2_readForetell_27 (by decide) ?_
    refine z_icmp_ne dX2_readForetell_29 rfl (fun c => absurd (congrArg nI k14) c) (fun _ => ?_)
    refine z_iconst (v := 1) dX2_readForetell_32 (by decide) ?_
    refine z_goto dX2_readForetell_33 rfl ?_
    refine y_callV (as := [_, _, _]) CX4_set LX2_85 IX4_set VX4_set ⟨rfl, Nat.le_of_ble_eq_true rfl⟩ dX2_readForetell_37 (f1.st.1.O q.2.2.1.2.2.2.1.1) rfl (Nat.le_of_ble_eq_true rfl) (Nat.le_of_ble_eq_true rfl) (by omega) (u2 0) rok_v ⟨Nat.le_refl _, Nat.le_refl _, ss_n' f1.1 hN, ss_s' f1.1 hS⟩ ?_
    refine z_aload_n dX2_readForetell_40 rfl rfl ?_
    refine z_aload_n dX2_readForetell_41 rfl rfl ?_
    refine y_getI FX2_43 dX2_readForetell_42 (Or.inl rfl) (f1.st.st.1.O (q.1.1.1.1)) ?_
    refine z_eqi (y := nI (K (stNm K W 0 4 (0, i, ([] : List Nat))).2.1)) t2 ?_
    refine z_bipush (v := 14) dX2_readForetell_45 (by decide) ?_
    refine z_icmp_ne dX2_readForetell_47 rfl (fun c => absurd (congrArg nI k14) c) (fun _ => ?_)
    refine z_bipush (v := 14) dX2_readForetell_50 (by decide) ?_
    refine z_goto dX2_readForetell_52 rfl ?_
    refine y_callV (as := [_]) CX2_expect LX2_99 IX2_expect VX2_expect ⟨rfl, Nat.le_of_ble_eq_true rfl⟩ dX2_readForetell_57 (f1.st.st.1.O (q.1.1.1.1)) rfl (Nat.le_of_ble_eq_true rfl) (Nat.le_of_ble_eq_true rfl) (by omega) s2 rok_v ⟨by rw [fe.1.n]; exact Nat.le_refl _, by rw [fe.1.s]; exact Nat.le_refl _, ss_n' c2.1 hN, ss_s' c2.1 hS⟩ ?_
    refine z_aload_n dX2_readForetell_60 rfl rfl ?_
    refine z_iload_n dX2_readForetell_61 rfl rfl ?_
    refine z_iconst (v := 3) dX2_readForetell_62 (by decide) ?_
    refine z_aload_n dX2_readForetell_63 rfl rfl ?_
    refine y_callV (as := []) CX2_readFacts LX2_125 IX2_readFacts VX2_readFacts ⟨rfl, Nat.le_of_ble_eq_true rfl⟩ dX2_readForetell_64 (c2.1.O (q.1.1.1.1)) rfl (Nat.le_of_ble_eq_true rfl) (Nat.le_of_ble_eq_true rfl) (by omega) s3 rok_i (hg_ss f3.1 (ss_n' c2.1 hN) (ss_s' c2.1 hS)) ?_
    refine y_callV (as := [_, _, _]) CX4_set LX2_85 IX4_set VX4_set ⟨rfl, Nat.le_of_ble_eq_true rfl⟩ dX2_readForetell_67 (c3.1.O q.2.2.1.2.2.2.1.1) rfl (Nat.le_of_ble_eq_true rfl) (Nat.le_of_ble_eq_true rfl) (by omega) (u3 0) rok_v ⟨Nat.le_refl _, Nat.le_refl _, ss_n' c3.1 hN, ss_s' c3.1 hS⟩ ?_
    refine z_aload_n dX2_readForetell_70 rfl rfl ?_
    refine z_bipush (v := 15) dX2_readForetell_71 (by decide) ?_
    refine y_callV (as := [_]) CX2_expect LX2_99 IX2_expect VX2_expect ⟨rfl, Nat.le_of_ble_eq_true rfl⟩ dX2_readForetell_73 (c3.st.1.O (q.1.1.1.1)) rfl (Nat.le_of_ble_eq_true rfl) (Nat.le_of_ble_eq_true rfl) (by omega) s4 rok_v (hg_ss f4.1 (ss_n' c3.st.1 hN) (ss_s' c3.st.1 hS)) ?_
    refine z_aload_n dX2_readForetell_76 rfl rfl ?_
    refine z_iload_n dX2_readForetell_77 rfl rfl ?_
    refine z_iconst (v := 4) dX2_readForetell_78 (by decide) ?_
    refine z_aload_n dX2_readForetell_79 rfl rfl ?_
    refine z_iconst (v := 1) dX2_readForetell_80 (by decide) ?_
    refine z_bipush (v := 99) dX2_readForetell_81 (by decide) ?_
    refine y_callV (as := [_, _]) CX2_readNumber LX2_121 IX2_readNumber VX2_readNumber ⟨rfl, Nat.le_of_ble_eq_true rfl⟩ dX2_readForetell_83 (c4.1.O (q.1.1.1.1)) rfl (Nat.le_of_ble_eq_true rfl) (Nat.le_of_ble_eq_true rfl) (by omega) s5 rok_i (hg_ss f5.1 (ss_n' c4.1 hN) (ss_s' c4.1 hS)) ?_
    refine y_callV (as := [_, _, _]) CX4_set LX2_85 IX4_set VX4_set ⟨rfl, Nat.le_of_ble_eq_true rfl⟩ dX2_readForetell_86 (c5.1.O q.2.2.1.2.2.2.1.1) rfl (Nat.le_of_ble_eq_true rfl) (Nat.le_of_ble_eq_true rfl) (by omega) (u5 0) rok_v ⟨Nat.le_refl _, Nat.le_refl _, ss_n' c5.1 hN, ss_s' c5.1 hS⟩ ?_
    refine z_aload_n dX2_readForetell_89 rfl rfl ?_
    refine z_bipush (v := 16) dX2_readForetell_90 (by decide) ?_
    refine y_callV (as := [_]) CX2_expect LX2_99 IX2_expect VX2_expect ⟨rfl, Nat.le_of_ble_eq_true rfl⟩ dX2_readForetell_92 (c5.st.1.O (q.1.1.1.1)) rfl (Nat.le_of_ble_eq_true rfl) (Nat.le_of_ble_eq_true rfl) (by omega) s6 rok_v (hg_ss f6.1 (ss_n' c5.st.1 hN) (ss_s' c5.st.1 hS)) ?_
    refine z_aload_n dX2_readForetell_95 rfl rfl ?_
    refine z_iload_n dX2_readForetell_96 rfl rfl ?_
    refine z_iconst (v := 5) dX2_readForetell_97 (by decide) ?_
    refine z_aload_n dX2_readForetell_98 rfl rfl ?_
    refine z_iconst (v := 0) dX2_readForetell_99 (by decide) ?_
    refine z_sipush (v := 999) dX2_readForetell_100 (by decide) ?_
    refine y_callV (as := [_, _]) CX2_readNumber LX2_121 IX2_readNumber VX2_readNumber ⟨rfl, Nat.le_of_ble_eq_true rfl⟩ dX2_readForetell_103 (c6.1.O (q.1.1.1.1)) rfl (Nat.le_of_ble_eq_true rfl) (Nat.le_of_ble_eq_true rfl) (by omega) s7 rok_i (hg_ss f7.1 (ss_n' c6.1 hN) (ss_s' c6.1 hS)) ?_
    refine y_callV (as := [_, _, _]) CX4_set LX2_85 IX4_set VX4_set ⟨rfl, Nat.le_of_ble_eq_true rfl⟩ dX2_readForetell_106 (c7.1.O q.2.2.1.2.2.2.1.1) rfl (Nat.le_of_ble_eq_true rfl) (Nat.le_of_ble_eq_true rfl) (by omega) (u7 0) rok_v ⟨Nat.le_refl _, Nat.le_refl _, ss_n' c7.1 hN, ss_s' c7.1 hS⟩ ?_
    refine z_vret dX2_readForetell_109 ?_
    exact hQ
  · obtain ⟨g2, u2, s2, q2, f2, t2⟩ := g_all (d := 1) (b := 0) (w := 13) q1 wf ln2 (Nat.le_refl _) (Or.inr ⟨k14, rfl, rfl⟩)
    have c2 := f1.st.tr f2
    have fe : FC x (sI (sI g1 (x + 1 + 1) (L.length * 6 + 1) v1) (x + 1 + 1) (L.length * 6 + 2) (nI 0)) g2 := ⟨f2.1, f2.2.1, fun k k1 k0 k2 k3 => by rw [f2.2.2 k k1 k0 k2 k3, pI_sI_ne k3, pI_sI_ne k3, pI_sI_ne k3]⟩
    obtain ⟨v3, g3, s3, u3, q3, f3⟩ := g_fac (d := 2) q2 wf ln3 (Nat.le_refl _)
    have c3 := c2.tr f3
    obtain ⟨g4, s4, q4, f4⟩ := g_exp (d := 1) (w := 15) q3 (by omega) (Nat.le_refl _)
    have c4 := c3.st.tr f4
    obtain ⟨v5, g5, s5, u5, q5, f5⟩ := g_num (d := 1) (lo := 1) (hi := 99) (c := 4) q4 wf (by omega) ln5 (by omega) (Nat.le_refl _)
    have c5 := c4.tr f5
    obtain ⟨g6, s6, q6, f6⟩ := g_exp (d := 1) (w := 16) q5 (by omega) (Nat.le_refl _)
    have c6 := c5.st.tr f6
    obtain ⟨v7, g7, s7, u7, q7, f7⟩ := g_num (d := 1) (lo := 0) (hi := 999) (c := 5) q6 wf (by omega) ln7 (by omega) (Nat.le_refl _)
    have c7 := c6.tr f7
    obtain ⟨e1, e2, e3⟩ := rdF_st (K := K) (W := W) (i := i)
    refine ⟨_, ?_, q7.cg e1 e2 e3, c7.st⟩
    intro N S Q hN hS hQ
    have hN : pn h ≤ N := ss_n c7.st.1 hN
    have hS : ps h ≤ S := ss_s c7.st.1 hS
    refine z_aload_n dX2_readForetell_0 rfl rfl ?_
    refine y_getR FX2_25 dX2_readForetell_1 rfl (q.1.1.1.1) q.2.1 ?_
    refine y_getR FX2_74 dX2_readForetell_4 rfl q.2.2.1.2.1 q.2.2.1.2.2.1 ?_
    refine z_astore_n dX2_readForetell_7 rfl (Nat.le_of_ble_eq_true rfl) ?_
    refine z_aload_n dX2_readForetell_8 rfl rfl ?_
    refine z_iload_n dX2_readForetell_9 rfl rfl ?_
    refine z_iconst (v := 1) dX2_readForetell_10 (by decide) ?_
    refine z_aload_n dX2_readForetell_11 rfl rfl ?_
    refine z_iconst (v := 0) dX2_readForetell_12 (by decide) ?_
    refine z_iconst (v := 4) dX2_readForetell_13 (by decide) ?_
    refine y_callV (as := [_, _]) CX2_readNumber LX2_121 IX2_readNumber VX2_readNumber ⟨rfl, Nat.le_of_ble_eq_true rfl⟩ dX2_readForetell_14 (q.1.1.1.1) rfl (Nat.le_of_ble_eq_true rfl) (Nat.le_of_ble_eq_true rfl) (by omega) s1 rok_i (hg_ss f1.1 hN hS) ?_
    refine y_callV (as := [_, _, _]) CX4_set LX2_85 IX4_set VX4_set ⟨rfl, Nat.le_of_ble_eq_true rfl⟩ dX2_readForetell_17 (f1.1.O q.2.2.1.2.2.2.1.1) rfl (Nat.le_of_ble_eq_true rfl) (Nat.le_of_ble_eq_true rfl) (by omega) (u1 0) rok_v ⟨Nat.le_refl _, Nat.le_refl _, ss_n' f1.1 hN, ss_s' f1.1 hS⟩ ?_
    refine z_aload_n dX2_readForetell_20 rfl rfl ?_
    refine z_iload_n dX2_readForetell_21 rfl rfl ?_
    refine z_iconst (v := 2) dX2_readForetell_22 (by decide) ?_
    refine z_aload_n dX2_readForetell_23 rfl rfl ?_
    refine y_getI FX2_43 dX2_readForetell_24 (Or.inl rfl) (f1.st.1.O (q.1.1.1.1)) ?_
    refine z_eqi (y := nI (K (stNm K W 0 4 (0, i, ([] : List Nat))).2.1)) q1.1.2.2.2.2.2.2.1 ?_
    refine z_bipush (v := 14) dX2_readForetell_27 (by decide) ?_
    refine z_icmp_ne dX2_readForetell_29 rfl (fun _ => ?_) (fun c => absurd c (fun w => k14 ((nI_eq (b := 14) (by omega) (by omega)).mp w)))
    refine z_iconst (v := 0) dX2_readForetell_36 (by decide) ?_
    refine y_callV (as := [_, _, _]) CX4_set LX2_85 IX4_set VX4_set ⟨rfl, Nat.le_of_ble_eq_true rfl⟩ dX2_readForetell_37 (f1.st.1.O q.2.2.1.2.2.2.1.1) rfl (Nat.le_of_ble_eq_true rfl) (Nat.le_of_ble_eq_true rfl) (by omega) (u2 0) rok_v ⟨Nat.le_refl _, Nat.le_refl _, ss_n' f1.1 hN, ss_s' f1.1 hS⟩ ?_
    refine z_aload_n dX2_readForetell_40 rfl rfl ?_
    refine z_aload_n dX2_readForetell_41 rfl rfl ?_
    refine y_getI FX2_43 dX2_readForetell_42 (Or.inl rfl) (f1.st.st.1.O (q.1.1.1.1)) ?_
    refine z_eqi (y := nI (K (stNm K W 0 4 (0, i, ([] : List Nat))).2.1)) t2 ?_
    refine z_bipush (v := 14) dX2_readForetell_45 (by decide) ?_
    refine z_icmp_ne dX2_readForetell_47 rfl (fun _ => ?_) (fun c => absurd c (fun w => k14 ((nI_eq (b := 14) (by omega) (by omega)).mp w)))
    refine z_bipush (v := 13) dX2_readForetell_55 (by decide) ?_
    refine y_callV (as := [_]) CX2_expect LX2_99 IX2_expect VX2_expect ⟨rfl, Nat.le_of_ble_eq_true rfl⟩ dX2_readForetell_57 (f1.st.st.1.O (q.1.1.1.1)) rfl (Nat.le_of_ble_eq_true rfl) (Nat.le_of_ble_eq_true rfl) (by omega) s2 rok_v ⟨by rw [fe.1.n]; exact Nat.le_refl _, by rw [fe.1.s]; exact Nat.le_refl _, ss_n' c2.1 hN, ss_s' c2.1 hS⟩ ?_
    refine z_aload_n dX2_readForetell_60 rfl rfl ?_
    refine z_iload_n dX2_readForetell_61 rfl rfl ?_
    refine z_iconst (v := 3) dX2_readForetell_62 (by decide) ?_
    refine z_aload_n dX2_readForetell_63 rfl rfl ?_
    refine y_callV (as := []) CX2_readFacts LX2_125 IX2_readFacts VX2_readFacts ⟨rfl, Nat.le_of_ble_eq_true rfl⟩ dX2_readForetell_64 (c2.1.O (q.1.1.1.1)) rfl (Nat.le_of_ble_eq_true rfl) (Nat.le_of_ble_eq_true rfl) (by omega) s3 rok_i (hg_ss f3.1 (ss_n' c2.1 hN) (ss_s' c2.1 hS)) ?_
    refine y_callV (as := [_, _, _]) CX4_set LX2_85 IX4_set VX4_set ⟨rfl, Nat.le_of_ble_eq_true rfl⟩ dX2_readForetell_67 (c3.1.O q.2.2.1.2.2.2.1.1) rfl (Nat.le_of_ble_eq_true rfl) (Nat.le_of_ble_eq_true rfl) (by omega) (u3 0) rok_v ⟨Nat.le_refl _, Nat.le_refl _, ss_n' c3.1 hN, ss_s' c3.1 hS⟩ ?_
    refine z_aload_n dX2_readForetell_70 rfl rfl ?_
    refine z_bipush (v := 15) dX2_readForetell_71 (by decide) ?_
    refine y_callV (as := [_]) CX2_expect LX2_99 IX2_expect VX2_expect ⟨rfl, Nat.le_of_ble_eq_true rfl⟩ dX2_readForetell_73 (c3.st.1.O (q.1.1.1.1)) rfl (Nat.le_of_ble_eq_true rfl) (Nat.le_of_ble_eq_true rfl) (by omega) s4 rok_v (hg_ss f4.1 (ss_n' c3.st.1 hN) (ss_s' c3.st.1 hS)) ?_
    refine z_aload_n dX2_readForetell_76 rfl rfl ?_
    refine z_iload_n dX2_readForetell_77 rfl rfl ?_
    refine z_iconst (v := 4) dX2_readForetell_78 (by decide) ?_
    refine z_aload_n dX2_readForetell_79 rfl rfl ?_
    refine z_iconst (v := 1) dX2_readForetell_80 (by decide) ?_
    refine z_bipush (v := 99) dX2_readForetell_81 (by decide) ?_
    refine y_callV (as := [_, _]) CX2_readNumber LX2_121 IX2_readNumber VX2_readNumber ⟨rfl, Nat.le_of_ble_eq_true rfl⟩ dX2_readForetell_83 (c4.1.O (q.1.1.1.1)) rfl (Nat.le_of_ble_eq_true rfl) (Nat.le_of_ble_eq_true rfl) (by omega) s5 rok_i (hg_ss f5.1 (ss_n' c4.1 hN) (ss_s' c4.1 hS)) ?_
    refine y_callV (as := [_, _, _]) CX4_set LX2_85 IX4_set VX4_set ⟨rfl, Nat.le_of_ble_eq_true rfl⟩ dX2_readForetell_86 (c5.1.O q.2.2.1.2.2.2.1.1) rfl (Nat.le_of_ble_eq_true rfl) (Nat.le_of_ble_eq_true rfl) (by omega) (u5 0) rok_v ⟨Nat.le_refl _, Nat.le_refl _, ss_n' c5.1 hN, ss_s' c5.1 hS⟩ ?_
    refine z_aload_n dX2_readForetell_89 rfl rfl ?_
    refine z_bipush (v := 16) dX2_readForetell_90 (by decide) ?_
    refine y_callV (as := [_]) CX2_expect LX2_99 IX2_expect VX2_expect ⟨rfl, Nat.le_of_ble_eq_true rfl⟩ dX2_readForetell_92 (c5.st.1.O (q.1.1.1.1)) rfl (Nat.le_of_ble_eq_true rfl) (Nat.le_of_ble_eq_true rfl) (by omega) s6 rok_v (hg_ss f6.1 (ss_n' c5.st.1 hN) (ss_s' c5.st.1 hS)) ?_
    refine z_aload_n dX2_readForetell_95 rfl rfl ?_
    refine z_iload_n dX2_readForetell_96 rfl rfl ?_
    refine z_iconst (v := 5) dX2_readForetell_97 (by decide) ?_
    refine z_aload_n dX2_readForetell_98 rfl rfl ?_
    refine z_iconst (v := 0) dX2_readForetell_99 (by decide) ?_
    refine z_sipush (v := 999) dX2_readForetell_100 (by decide) ?_
    refine y_callV (as := [_, _]) CX2_readNumber LX2_121 IX2_readNumber VX2_readNumber ⟨rfl, Nat.le_of_ble_eq_true rfl⟩ dX2_readForetell_103 (c6.1.O (q.1.1.1.1)) rfl (Nat.le_of_ble_eq_true rfl) (Nat.le_of_ble_eq_true rfl) (by omega) s7 rok_i (hg_ss f7.1 (ss_n' c6.1 hN) (ss_s' c6.1 hS)) ?_
    refine y_callV (as := [_, _, _]) CX4_set LX2_85 IX4_set VX4_set ⟨rfl, Nat.le_of_ble_eq_true rfl⟩ dX2_readForetell_106 (c7.1.O q.2.2.1.2.2.2.1.1) rfl (Nat.le_of_ble_eq_true rfl) (Nat.le_of_ble_eq_true rfl) (by omega) (u7 0) rok_v ⟨Nat.le_refl _, Nat.le_refl _, ss_n' c7.1 hN, ss_s' c7.1 hS⟩ ?_
    refine z_vret dX2_readForetell_109 ?_
    exact hQ

