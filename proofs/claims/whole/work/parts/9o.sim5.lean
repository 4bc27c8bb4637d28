/-! the reference goes along the descent: all (wip/whole/gen9o.py) -/
theorem s_0 {h0 : Hp} {d N S : Nat} {Q : Option Value → Hp → Prop} {s : Ms} {t w0 so n : Nat} {f : Nat} (cx : CXr h0 d N S s t so n) (a0 : A0 h0 d N S Q s t w0 so n f) (a3 : A3 h0 d N S Q s t w0 so n f) (a9 : A9 h0 d N S Q s t w0 so n f) : A0 h0 d N S Q s t w0 so n (f + 1) := by
  intro ro op i c z j e bd hl ha hr hf hp
  have b8 := bd.2.2.2
  have b1 := bd.1
  have b2 := bd.2.1
  have b3 := bd.2.2.1
  obtain ⟨ht, ht4, hN, hS, hd, hK, n3, hso⟩ := id cx
  have hr : rdOne (tK (TPs s) (TNs s)) (wN s) so (rdK s so f) op i c = some (z, j, e) := hr
  unfold rdOne at hr
  by_cases k52 : (tK (TPs s) (TNs s)) i = 52
  · rw [if_pos k52] at hr
    have hi : i < n := hK i (by omega)
    by_cases hb : 9999 < wN s i
    · rw [if_pos hb] at hr
      cases hr
      exact go_big ht k52 hb hN hS hd (hf (by omega))
    · rw [if_neg hb] at hr
      cases hr
      exact go_num ht ht4 (by omega) k52 hb hN hS hd (ge_x ht ht4 (by omega) (by rw [len1]; omega) b3 (by omega) (hp rfl))
  · rw [if_neg k52] at hr
    by_cases kn : nm1 ((tK (TPs s) (TNs s)) i) < 11
    · rw [if_pos kn] at hr
      have hi : i < n := hK i (nm1_lt kn)
      by_cases ok : nm1 ((tK (TPs s) (TNs s)) i) < 2 ∨ (nm1 ((tK (TPs s) (TNs s)) i) < 5 ↔ so = 0)
      · rw [if_pos ok] at hr
        cases hr
        exact go_name ht ht4 (by omega) (by omega) hso (nm_eq kn) k52 ok hN hS hd (ge_x ht ht4 (by omega) (by rw [len1]; omega) b3 (by omega) (hp rfl))
      · rw [if_neg ok] at hr
        cases hr
        exact go_nameN ht (by omega) hso (nm_eq kn) k52 ok hN hS hd (hf (by omega))
    · rw [if_neg kn] at hr
      by_cases w : (tK (TPs s) (TNs s)) i = 48 ∨ (tK (TPs s) (TNs s)) i = 45 ∨ (tK (TPs s) (TNs s)) i = 20 ∨ (tK (TPs s) (TNs s)) i = 22 ∨ (tK (TPs s) (TNs s)) i = 23
      · rw [if_pos w] at hr
        have hi : i < n := hK i (by omega)
        by_cases h8 : 8 ≤ op
        · rw [if_pos h8] at hr
          cases hr
          rcases w with w | w | w | w | w
          · exact go_deep_48 ht w (by omega) hN hS hd (hf (by omega))
          · exact go_deep_45 ht w (by omega) hN hS hd (hf (by omega))
          · exact go_deep_20 ht w (by omega) hN hS hd (hf (by omega))
          · exact go_deep_22 ht w (by omega) hN hS hd (hf (by omega))
          · exact go_deep_23 ht w (by omega) hN hS hd (hf (by omega))
        · rw [if_neg h8] at hr
          unfold rdIn at hr
          by_cases k1 : (tK (TPs s) (TNs s)) i = 48
          · rw [if_pos k1] at hr
            exact go_open_48 ht k1 (by omega) (by omega) hN hS hd (o_br cx a3 ro op i c z j e bd hl (by omega) hi hf hp hr)
          · rw [if_neg k1] at hr
            by_cases k2 : (tK (TPs s) (TNs s)) i = 45
            · rw [if_pos k2] at hr
              exact go_open_45 ht k2 (by omega) (by omega) hN hS hd (o_un cx a0 (by omega) ro op i c z j e bd hl (by omega) hi hf hp hr)
            · rw [if_neg k2] at hr
              by_cases k3 : (tK (TPs s) (TNs s)) i = 22
              · rw [if_pos k3] at hr
                exact go_open_22 ht k3 (by omega) (by omega) hN hS hd (o_un cx a0 (by omega) ro op i c z j e bd hl (by omega) hi hf hp hr)
              · rw [if_neg k3] at hr
                by_cases k4 : (tK (TPs s) (TNs s)) i = 20
                · rw [if_pos k4] at hr
                  exact go_open_20 ht k4 (by omega) (by omega) hN hS hd (o_pc cx a0 ro op i c z j e bd hl (by omega) hi hf hp hr)
                · rw [if_neg k4] at hr
                  exact go_open_23 ht (by omega) (by omega) (by omega) hN hS hd (o_if cx a3 a9 ro op i c z j e bd hl (by omega) hi hf hp hr)
      · rw [if_neg w] at hr
        cases hr
        exact go_other ht (nm_n kn) ⟨by omega, by omega, by omega, by omega, by omega, by omega⟩ (by omega) ha hN hS hd (hf (by omega))
theorem a_all {h0 : Hp} {d N S : Nat} {Q : Option Value → Hp → Prop} {s : Ms} {t w0 so n : Nat} (cx : CXr h0 d N S s t so n) : ∀ f, A0 h0 d N S Q s t w0 so n f ∧ A1 h0 d N S Q s t w0 so n f ∧ A2 h0 d N S Q s t w0 so n f ∧ A3 h0 d N S Q s t w0 so n f ∧ A4 h0 d N S Q s t w0 so n f ∧ A5 h0 d N S Q s t w0 so n f ∧ A6 h0 d N S Q s t w0 so n f ∧ A7 h0 d N S Q s t w0 so n f ∧ A8 h0 d N S Q s t w0 so n f ∧ A9 h0 d N S Q s t w0 so n f ∧ A10 h0 d N S Q s t w0 so n f := by
  intro f
  induction f with
  | zero =>
    refine ⟨?_, ?_, ?_, ?_, ?_, ?_, ?_, ?_, ?_, ?_, ?_⟩
    · intro ro op i c z j e _ _ _ h; cases h
    · intro ro op i c z j e _ _ _ _ _ h; cases h
    · intro ro op i c z j e _ _ _ _ h; cases h
    · intro ro op i c z j e _ _ _ _ _ h; cases h
    · intro ro op i c z j e _ _ _ _ _ h; cases h
    · intro ro op i c z j e _ _ _ _ _ _ h; cases h
    · intro ro op i c z j e _ _ _ _ _ h; cases h
    · intro ro op i c z j e _ _ _ _ _ h; cases h
    · intro ro op i c z j e _ _ _ _ _ _ h; cases h
    · intro ro op i c z j e _ _ _ _ _ h; cases h
    · intro ro op i c z j e _ _ _ _ _ _ h; cases h
  | succ f ih =>
    obtain ⟨a0, a1, a2, a3, a4, a5, a6, a7, a8, a9, a10⟩ := ih
    exact ⟨s_0 cx a0 a3 a9, s_1 cx a0 a2, s_2 cx a0 a2, s_3 cx a1 a4, s_4 cx a1 a4, s_5 cx a3, s_6 cx a5 a6, s_7 cx a6 a8, s_8 cx a6 a8, s_9 cx a7 a10, s_10 cx a7 a10⟩

