/-! what holds at the start (wip/whole/genc9.py) -/
def s00 : Ms := (a00, a00, fun _ => 0, 0, -1, -1, fun _ => 0)
theorem pa_00 {tf : Nat → Int32} : PA tf a00 := by
  have n : ∀ k, ¬ k < 0 := fun k => Nat.not_lt_zero k
  refine ⟨⟨⟨by unfold IC; decide, ?_, fun f hf => absurd hf (n f), fun q => absurd rfl q⟩, fun f hf => absurd hf (n f)⟩, fun f hf => absurd hf (n f), fun f hf => absurd hf (n f), fun f hf => absurd hf (n f), fun f hf => absurd hf (n f), fun f hf => absurd hf (n f), fun f hf => absurd hf (n f), fun f hf => absurd hf (n f)⟩
  exact ⟨by decide, fun f hf => absurd hf (n f), fun f hf => absurd hf (n f), fun f hf => absurd hf (n f)⟩
theorem inv_0 {L P0 : Nat} {xs : Nat → Int32} {h h1 : Hp} (st8 : ST8 h1 8) (st9 : ST9 h1 488) (f : FG 8 h h1) (sc : SCR h L xs) (z0 : I0 h 0) (p : pn h1 = 501) (q : ps h1 = P0) : INV L xs P0 0 h1 := by
  obtain ⟨o8, ⟨r0, r1, r2, r3, r4, r5, r6⟩, ⟨m1, m2⟩, ⟨m3, m4⟩, ⟨w1, w2⟩, v4, v5, v6, ⟨t1, t2⟩, ⟨i1, i2, i3⟩⟩ := st8
  obtain ⟨n0, n1, n2, n3, n4, n5, n6, n7, n8⟩ := st9
  have s1 := sc.1
  refine ⟨s00, ⟨n0, n1, n2, fun i _ => ?_, n4, n5, n6, fun i _ => ?_, n8⟩, ⟨⟨⟨o8, r0, r4, v5, m1, f.1.Z z0⟩, m2 _⟩, ⟨r2, w1, W0, w2⟩, v6, v4, m3, ⟨r1, r3, r5, r6⟩, t1, m4 _, ⟨fun i _ => ?_, i1⟩, i2, i3⟩, ⟨pa_00, pa_00, ⟨Nat.zero_le _, fun _ _ => (show 0 < 256 by decide)⟩, Nat.le_refl _⟩, ⟨by omega, by rw [f.1.2 1 s1]; exact sc.2.1, fun i hi => by rw [(f.2.2 1 (by omega)).1]; exact sc.2.2 i hi⟩, by omega, by omega, by omega⟩
  · exact congrFun n3 i
  · exact congrFun n7 i
  · exact congrFun t2 i

