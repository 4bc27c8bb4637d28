/-! the class's reader reads a sum as the descent does (wip/whole/gen9z.py) -/
theorem bm_0 {h0 : Hp} {K W : Nat → Nat} {so n t r : Nat} {M : Mi} : BM h0 K W so n 0 t M r := by
  intro op i c a z j e h _ _ hr
  cases hr
theorem c_all {h0 : Hp} {K W : Nat → Nat} {so n : Nat} (ct : CT h0 K W n) (hso : so ≤ 2) (hcl : pI h0 472 6 = nI (so + 1)) : ∀ f, BM h0 K W so n f 0 mX2_readOne 3 ∧ BM h0 K W so n f 1 mX2_readProduct 4 ∧ BLProduct h0 K W so n f ∧ BM h0 K W so n f 3 mX2_readSum 5 ∧ BLSum h0 K W so n f ∧ BM h0 K W so n f 5 mX2_readComparison 6 ∧ BM h0 K W so n f 6 mX2_readAsk 7 ∧ BM h0 K W so n f 7 mX2_readBoth 8 ∧ BLBoth h0 K W so n f ∧ BM h0 K W so n f 9 mX2_readEither 9 ∧ BLEither h0 K W so n f := by
  intro f
  induction f with
  | zero =>
    refine ⟨bm_0, bm_0, ?_, bm_0, ?_, bm_0, bm_0, bm_0, ?_, bm_0, ?_⟩
    · intro op i c a z j e h k v _ _ _ hr
      cases hr
    · intro op i c a z j e h k v _ _ _ hr
      cases hr
    · intro op i c a z j e h k _ _ _ hr
      cases hr
    · intro op i c a z j e h k _ _ _ hr
      cases hr
  | succ f ih =>
    obtain ⟨b0, b1, l2, b3, l4, b5, b6, b7, l8, b9, l10⟩ := ih
    exact ⟨c_mOne ct hso hcl b0 b3 b9, c_mProduct ct b0 l2, c_lProduct ct b0 l2, c_mSum ct b1 l4, c_lSum ct b1 l4, c_mComparison ct b3, c_mAsk ct b5 b6, c_mBoth ct b6 l8, c_lBoth ct b6 l8, c_mEither ct b7 l10, c_lEither ct b7 l10⟩
/-- a sum, all of it -/
theorem c_readSum {h0 h : Hp} {K W : Nat → Nat} {so n f i z j : Nat} {c e : Cd} (ct : CT h0 K W n) (hso : so ≤ 2) (hcl : pI h0 472 6 = nI (so + 1)) (q : RQ h0 K n 0 0 i c h) (hr : rd K W so f 3 0 i c = some (z, j, e)) : ∃ h1, Sp 133 mX2_readSum [.ref 472, .int 0] h none h1 ∧ RQ h0 K n 0 z j e h1 := (c_all ct hso hcl f).2.2.2.1 0 i c 0 z j e h (by omega) q hr

