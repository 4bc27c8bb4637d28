/-! the reference reads a sum: its state, what it emits, what it settles (walks by program: wip/whole/gen9a.py) -/
def rk (o : Nat) : Nat := if 40 ≤ o then 0 else if o = 22 then 1 else if o = 21 then 2 else if o = 20 then 3 else if 10 ≤ o then 4 else if o = 5 ∨ o = 2 ∨ o = 4 then 7 else if 8 ≤ o then 6 else 5
theorem rk_le (o : Nat) : rk o ≤ 7 := by
  unfold rk
  repeat' split
  all_goals omega
/-- the pile, its top first -/
def PIL (h : Hp) : List Nat → Prop
  | [] => True
  | x :: r => pI h 493 r.length = nI x ∧ x ≤ 44 ∧ PIL h r
abbrev Cd : Type := List (Nat × Nat)
/-- code lies behind w0 -/
def EM (tf : Nat → Int32) (t w0 : Nat) (c : Cd) : Prop := ∀ j q, c[j]? = some q → tf (753 * t + 145 + 2 * (w0 + j)) = nI q.1 ∧ tf (753 * t + 145 + 2 * (w0 + j) + 1) = nI q.2
abbrev wTf (s : Ms) (tf : Nat → Int32) : Ms := (s.1, s.2.1, s.2.2.1, s.2.2.2.1, s.2.2.2.2.1, s.2.2.2.2.2.1, tf)
def RP (s : Ms) (t w0 so i : Nat) (ro : List Nat) (op wh : Nat) (c : Cd) (h : Hp) : Prop := ∃ tf, RM (wTf s tf) h ∧ EM tf t w0 c ∧ (∀ j, (j < 753 * t + 145 + 2 * w0 ∨ 753 * t + 753 ≤ j) → tf j = s.2.2.2.2.2.2 j) ∧ NTK s (tP (TPs s) (TNs s) i) h ∧ pI h 488 12 = nI (753 * t) ∧ pI h 488 13 = nI (w0 + c.length) ∧ pI h 488 14 = nI so ∧ pI h 488 16 = nI ro.length ∧ pI h 488 17 = nI op ∧ pI h 488 18 = nI wh ∧ PIL h ro
/-- only the reference's reading has changed -/
def FQ (h h1 : Hp) : Prop := SS h h1 ∧ (∀ k, k ≠ 488 → k ≠ 491 → k ≠ 493 → pI h1 k = pI h k) ∧ (∀ j, (j < 7 ∨ (10 < j ∧ j ≠ 13 ∧ j ≠ 16 ∧ j ≠ 17 ∧ j ≠ 18)) → pI h1 488 j = pI h 488 j) ∧ (∀ k, k ≠ 488 → pJ h1 k = pJ h k)
theorem FQ.rf {h : Hp} : FQ h h := ⟨SS.rf, fun _ _ _ _ => rfl, fun _ _ => rfl, fun _ _ => rfl⟩
theorem FQ.tr {a b c : Hp} (h1 : FQ a b) (h2 : FQ b c) : FQ a c := ⟨h1.1.tr h2.1, fun k q1 q2 q3 => (h2.2.1 k q1 q2 q3).trans (h1.2.1 k q1 q2 q3), fun j hj => (h2.2.2.1 j hj).trans (h1.2.2.1 j hj), fun k hk => (h2.2.2.2 k hk).trans (h1.2.2.2 k hk)⟩
theorem FN.q {h h1 : Hp} (f : FN h h1) : FQ h h1 := ⟨f.1, fun k q1 _ _ => f.2.1 k q1, fun j hj => f.2.2.1 j (by omega), f.2.2.2.1⟩
theorem FQ.f {h h1 : Hp} {j : Nat} {v : Int32} (f : FQ h h1) (hj : j = 13 ∨ j = 16 ∨ j = 17 ∨ j = 18) : FQ h (sI h1 488 j v) := ⟨f.1, fun k q1 q2 q3 => by rw [pI_sI_ne q1]; exact f.2.1 k q1 q2 q3, fun i hi => by rw [pI_sI, if_pos rfl, if_neg (by omega)]; exact f.2.2.1 i hi, f.2.2.2⟩
theorem FQ.c {h h1 : Hp} {k j : Nat} {v : Int32} (f : FQ h h1) (hk : k = 491 ∨ k = 493) : FQ h (sI h1 k j v) := ⟨f.1, fun a q1 q2 q3 => by rw [pI_sI_ne (by omega)]; exact f.2.1 a q1 q2 q3, fun i hi => by rw [pI_sI_ne (by omega)]; exact f.2.2.1 i hi, f.2.2.2⟩
theorem FQ.fm {h h1 : Hp} (f : FQ h h1) : FM h h1 := ⟨f.1, fun k hk => ⟨f.2.1 k (by omega) (by omega) (by omega), f.2.2.2 k (by omega)⟩⟩
theorem PIL.fr {h h1 : Hp} (e : pI h1 493 = pI h 493) : ∀ ro, PIL h ro → PIL h1 ro := by
  intro ro
  induction ro with
  | nil => intro _; trivial
  | cons x r ih => intro p; exact ⟨by rw [e]; exact p.1, p.2.1, ih p.2.2⟩
theorem PIL.up {h : Hp} {k : Nat} {v : Int32} : ∀ ro, ro.length ≤ k → PIL h ro → PIL (sI h 493 k v) ro := by
  intro ro
  induction ro with
  | nil => intro _ _; trivial
  | cons x r ih =>
    intro hk p
    have hk : r.length + 1 ≤ k := hk
    exact ⟨by rw [pI_sI, if_pos rfl, if_neg (by omega)]; exact p.1, p.2.1, ih (by omega) p.2.2⟩
theorem NTK.fr {s : Ms} {p : Nat} {h h1 : Hp} (n : NTK s p h) (e : ∀ j, 7 ≤ j → j ≤ 10 → pI h1 488 j = pI h 488 j) (eJ : pJ h1 488 11 = pJ h 488 11) : NTK s p h1 := by
  obtain ⟨a, b, c, d, f⟩ := n
  refine ⟨by rw [e 7 (by omega) (by omega)]; exact a, by rw [e 8 (by omega) (by omega)]; exact b, by rw [e 9 (by omega) (by omega)]; exact c, fun q1 q2 => by rw [eJ]; exact d q1 q2, fun q1 q2 => by rw [e 10 (by omega) (by omega)]; exact f q1 q2⟩
/-- a field of the reading is written -/
theorem rm_f {s : Ms} {h : Hp} {j : Nat} {v : Int32} (hr : RM s h) (hj : 7 ≤ j ∧ j ≠ 23) : RM s (sI h 488 j v) := by
  obtain ⟨r1, r2, r3, r4, r5, r6, r7, r8, r9⟩ := hr
  refine ⟨r1, fun i hi => ?_, fun i hi => ?_, fun i hi => ?_, ?_, ?_, ?_, fun i hi => ?_, ?_⟩
  · rw [pI_sI_ne (by omega)]; exact r2 i hi
  · rw [pI_sI_ne (by omega)]; exact r3 i hi
  · rw [pI_sI_ne (by omega)]; exact r4 i hi
  · rw [pI_sI, if_pos rfl, if_neg (by omega)]; exact r5
  · rw [pI_sI, if_pos rfl, if_neg (by omega)]; exact r6
  · rw [pI_sI, if_pos rfl, if_neg (by omega)]; exact r7
  · rw [pI_sI_ne (by omega)]; exact r8 i hi
  · rw [pI_sI, if_pos rfl, if_neg (by omega)]; exact r9
theorem rm_p {s : Ms} {h : Hp} {k j : Nat} {v : Int32} (hr : RM s h) (hk : 493 ≤ k) : RM s (sI h k j v) := by
  rw [sI_row]
  exact rm_row hr hk
theorem rm_t {s : Ms} {h : Hp} {k : Nat} {v : Int32} {tf : Nat → Int32} (hr : RM (wTf s tf) h) : RM (wTf s (fun j => if j = k then v else tf j)) (sI h 491 k v) := by
  obtain ⟨r1, r2, r3, r4, r5, r6, r7, r8, r9⟩ := hr
  refine ⟨r1, fun i hi => ?_, fun i hi => ?_, fun i hi => ?_, ?_, ?_, ?_, fun i hi => ?_, ?_⟩
  · rw [pI_sI_ne (by omega)]; exact r2 i hi
  · rw [pI_sI_ne (by omega)]; exact r3 i hi
  · rw [pI_sI_ne (by omega)]; exact r4 i hi
  · rw [pI_sI_ne (by omega)]; exact r5
  · rw [pI_sI_ne (by omega)]; exact r6
  · rw [pI_sI_ne (by omega)]; exact r7
  · rw [pI_sI, if_pos rfl]
    show _ = if i = k then v else tf i
    by_cases e : i = k
    · rw [if_pos e, if_pos e]
    · rw [if_neg e, if_neg e]; exact r8 i hi
  · rw [pI_sI_ne (by omega)]; exact r9
theorem EM.snoc {tf : Nat → Int32} {t w0 a b : Nat} {c : Cd} (e : EM tf t w0 c) : EM (fun j => if j = 753 * t + 145 + 2 * (w0 + c.length) + 1 then nI b else (if j = 753 * t + 145 + 2 * (w0 + c.length) then nI a else tf j)) t w0 (c ++ [(a, b)]) := fun j q hq => by
  by_cases hj : j < c.length
  · rw [List.getElem?_append_left hj] at hq
    show (if _ then _ else (if _ then _ else _)) = _ ∧ (if _ then _ else (if _ then _ else _)) = _
    rw [if_neg (by omega), if_neg (by omega), if_neg (by omega), if_neg (by omega)]
    exact e j q hq
  · have hlen : j < (c ++ [(a, b)]).length := by
      have := List.getElem?_eq_some_iff.mp hq
      exact this.1
    rw [List.length_append] at hlen
    have hlen : j < c.length + 1 := hlen
    have ej : j = c.length := by omega
    rw [ej, List.getElem?_append_right (Nat.le_refl _), Nat.sub_self] at hq
    have hq : (a, b) = q := by simpa using hq
    rw [← hq, ej]
    show (if _ then _ else (if _ then _ else _)) = _ ∧ (if _ then _ else (if _ then _ else _)) = _
    rw [if_neg (by omega), if_pos rfl, if_pos rfl]
    exact ⟨rfl, rfl⟩

theorem r_rank {h : Hp} {d o : Nat} (ho : o ≤ 44) : Sp d mX9_rank [.int (nI o)] h (some (.int (nI (rk o)))) h := by
  intro N S Q hN hS hQ
  rcases (show o = 0 ∨ o = 1 ∨ o = 2 ∨ o = 3 ∨ o = 4 ∨ o = 5 ∨ o = 6 ∨ o = 7 ∨ o = 8 ∨ o = 9 ∨ o = 10 ∨ o = 11 ∨ o = 12 ∨ o = 13 ∨ o = 14 ∨ o = 15 ∨ o = 16 ∨ o = 17 ∨ o = 18 ∨ o = 19 ∨ o = 20 ∨ o = 21 ∨ o = 22 ∨ o = 23 ∨ o = 24 ∨ o = 25 ∨ o = 26 ∨ o = 27 ∨ o = 28 ∨ o = 29 ∨ o = 30 ∨ o = 31 ∨ o = 32 ∨ o = 33 ∨ o = 34 ∨ o = 35 ∨ o = 36 ∨ o = 37 ∨ o = 38 ∨ o = 39 ∨ o = 40 ∨ o = 41 ∨ o = 42 ∨ o = 43 ∨ o = 44 by omega) with rfl | rfl | rfl | rfl | rfl | rfl | rfl | rfl | rfl | rfl | rfl | rfl | rfl | rfl | rfl | rfl | rfl | rfl | rfl | rfl | rfl | rfl | rfl | rfl | rfl | rfl | rfl | rfl | rfl | rfl | rfl | rfl | rfl | rfl | rfl | rfl | rfl | rfl | rfl | rfl | rfl | rfl | rfl | rfl | rfl
  · skip
    refine z_iload_n dX9_rank_0 rfl rfl ?_
    refine z_bipush (v := 40) dX9_rank_1 (by decide) ?_
    refine z_icmp_lt dX9_rank_3 rfl (fun _ => ?_) (fun c => absurd (by decide) c)
    refine z_iload_n dX9_rank_10 rfl rfl ?_
    refine z_bipush (v := 22) dX9_rank_11 (by decide) ?_
    refine z_icmp_ne dX9_rank_13 rfl (fun _ => ?_) (fun c => absurd c (by decide))
    refine z_iload_n dX9_rank_20 rfl rfl ?_
    refine z_bipush (v := 21) dX9_rank_21 (by decide) ?_
    refine z_icmp_ne dX9_rank_23 rfl (fun _ => ?_) (fun c => absurd c (by decide))
    refine z_iload_n dX9_rank_30 rfl rfl ?_
    refine z_bipush (v := 20) dX9_rank_31 (by decide) ?_
    refine z_icmp_ne dX9_rank_33 rfl (fun _ => ?_) (fun c => absurd c (by decide))
    refine z_iload_n dX9_rank_40 rfl rfl ?_
    refine z_bipush (v := 10) dX9_rank_41 (by decide) ?_
    refine z_icmp_lt dX9_rank_43 rfl (fun _ => ?_) (fun c => absurd (by decide) c)
    refine z_iload_n dX9_rank_50 rfl rfl ?_
    refine z_iconst (v := 5) dX9_rank_51 (by decide) ?_
    refine z_icmp_eq dX9_rank_52 rfl (fun c => absurd c (by decide)) (fun _ => ?_)
    refine z_iload_n dX9_rank_55 rfl rfl ?_
    refine z_iconst (v := 2) dX9_rank_56 (by decide) ?_
    refine z_icmp_eq dX9_rank_57 rfl (fun c => absurd c (by decide)) (fun _ => ?_)
    refine z_iload_n dX9_rank_60 rfl rfl ?_
    refine z_iconst (v := 4) dX9_rank_61 (by decide) ?_
    refine z_icmp_ne dX9_rank_62 rfl (fun _ => ?_) (fun c => absurd c (by decide))
    refine z_iload_n dX9_rank_70 rfl rfl ?_
    refine z_bipush (v := 8) dX9_rank_71 (by decide) ?_
    refine z_icmp_lt dX9_rank_73 rfl (fun _ => ?_) (fun c => absurd (by decide) c)
    refine z_iconst (v := 5) dX9_rank_81 (by decide) ?_
    refine z_iret dX9_rank_82 ?_
    exact hQ
  · skip
    refine z_iload_n dX9_rank_0 rfl rfl ?_
    refine z_bipush (v := 40) dX9_rank_1 (by decide) ?_
    refine z_icmp_lt dX9_rank_3 rfl (fun _ => ?_) (fun c => absurd (by decide) c)
    refine z_iload_n dX9_rank_10 rfl rfl ?_
    refine z_bipush (v := 22) dX9_rank_11 (by decide) ?_
    refine z_icmp_ne dX9_rank_13 rfl (fun _ => ?_) (fun c => absurd c (by decide))
    refine z_iload_n dX9_rank_20 rfl rfl ?_
    refine z_bipush (v := 21) dX9_rank_21 (by decide) ?_
    refine z_icmp_ne dX9_rank_23 rfl (fun _ => ?_) (fun c => absurd c (by decide))
    refine z_iload_n dX9_rank_30 rfl rfl ?_
    refine z_bipush (v := 20) dX9_rank_31 (by decide) ?_
    refine z_icmp_ne dX9_rank_33 rfl (fun _ => ?_) (fun c => absurd c (by decide))
    refine z_iload_n dX9_rank_40 rfl rfl ?_
    refine z_bipush (v := 10) dX9_rank_41 (by decide) ?_
    refine z_icmp_lt dX9_rank_43 rfl (fun _ => ?_) (fun c => absurd (by decide) c)
    refine z_iload_n dX9_rank_50 rfl rfl ?_
    refine z_iconst (v := 5) dX9_rank_51 (by decide) ?_
    refine z_icmp_eq dX9_rank_52 rfl (fun c => absurd c (by decide)) (fun _ => ?_)
    refine z_iload_n dX9_rank_55 rfl rfl ?_
    refine z_iconst (v := 2) dX9_rank_56 (by decide) ?_
    refine z_icmp_eq dX9_rank_57 rfl (fun c => absurd c (by decide)) (fun _ => ?_)
    refine z_iload_n dX9_rank_60 rfl rfl ?_
    refine z_iconst (v := 4) dX9_rank_61 (by decide) ?_
    refine z_icmp_ne dX9_rank_62 rfl (fun _ => ?_) (fun c => absurd c (by decide))
    refine z_iload_n dX9_rank_70 rfl rfl ?_
    refine z_bipush (v := 8) dX9_rank_71 (by decide) ?_
    refine z_icmp_lt dX9_rank_73 rfl (fun _ => ?_) (fun c => absurd (by decide) c)
    refine z_iconst (v := 5) dX9_rank_81 (by decide) ?_
    refine z_iret dX9_rank_82 ?_
    exact hQ
  · skip
    refine z_iload_n dX9_rank_0 rfl rfl ?_
    refine z_bipush (v := 40) dX9_rank_1 (by decide) ?_
    refine z_icmp_lt dX9_rank_3 rfl (fun _ => ?_) (fun c => absurd (by decide) c)
    refine z_iload_n dX9_rank_10 rfl rfl ?_
    refine z_bipush (v := 22) dX9_rank_11 (by decide) ?_
    refine z_icmp_ne dX9_rank_13 rfl (fun _ => ?_) (fun c => absurd c (by decide))
    refine z_iload_n dX9_rank_20 rfl rfl ?_
    refine z_bipush (v := 21) dX9_rank_21 (by decide) ?_
    refine z_icmp_ne dX9_rank_23 rfl (fun _ => ?_) (fun c => absurd c (by decide))
    refine z_iload_n dX9_rank_30 rfl rfl ?_
    refine z_bipush (v := 20) dX9_rank_31 (by decide) ?_
    refine z_icmp_ne dX9_rank_33 rfl (fun _ => ?_) (fun c => absurd c (by decide))
    refine z_iload_n dX9_rank_40 rfl rfl ?_
    refine z_bipush (v := 10) dX9_rank_41 (by decide) ?_
    refine z_icmp_lt dX9_rank_43 rfl (fun _ => ?_) (fun c => absurd (by decide) c)
    refine z_iload_n dX9_rank_50 rfl rfl ?_
    refine z_iconst (v := 5) dX9_rank_51 (by decide) ?_
    refine z_icmp_eq dX9_rank_52 rfl (fun c => absurd c (by decide)) (fun _ => ?_)
    refine z_iload_n dX9_rank_55 rfl rfl ?_
    refine z_iconst (v := 2) dX9_rank_56 (by decide) ?_
    refine z_icmp_eq dX9_rank_57 rfl (fun _ => ?_) (fun c => absurd (by decide) c)
    refine z_bipush (v := 7) dX9_rank_65 (by decide) ?_
    refine z_goto dX9_rank_67 rfl ?_
    refine z_iret dX9_rank_82 ?_
    exact hQ
  · skip
    refine z_iload_n dX9_rank_0 rfl rfl ?_
    refine z_bipush (v := 40) dX9_rank_1 (by decide) ?_
    refine z_icmp_lt dX9_rank_3 rfl (fun _ => ?_) (fun c => absurd (by decide) c)
    refine z_iload_n dX9_rank_10 rfl rfl ?_
    refine z_bipush (v := 22) dX9_rank_11 (by decide) ?_
    refine z_icmp_ne dX9_rank_13 rfl (fun _ => ?_) (fun c => absurd c (by decide))
    refine z_iload_n dX9_rank_20 rfl rfl ?_
    refine z_bipush (v := 21) dX9_rank_21 (by decide) ?_
    refine z_icmp_ne dX9_rank_23 rfl (fun _ => ?_) (fun c => absurd c (by decide))
    refine z_iload_n dX9_rank_30 rfl rfl ?_
    refine z_bipush (v := 20) dX9_rank_31 (by decide) ?_
    refine z_icmp_ne dX9_rank_33 rfl (fun _ => ?_) (fun c => absurd c (by decide))
    refine z_iload_n dX9_rank_40 rfl rfl ?_
    refine z_bipush (v := 10) dX9_rank_41 (by decide) ?_
    refine z_icmp_lt dX9_rank_43 rfl (fun _ => ?_) (fun c => absurd (by decide) c)
    refine z_iload_n dX9_rank_50 rfl rfl ?_
    refine z_iconst (v := 5) dX9_rank_51 (by decide) ?_
    refine z_icmp_eq dX9_rank_52 rfl (fun c => absurd c (by decide)) (fun _ => ?_)
    refine z_iload_n dX9_rank_55 rfl rfl ?_
    refine z_iconst (v := 2) dX9_rank_56 (by decide) ?_
    refine z_icmp_eq dX9_rank_57 rfl (fun c => absurd c (by decide)) (fun _ => ?_)
    refine z_iload_n dX9_rank_60 rfl rfl ?_
    refine z_iconst (v := 4) dX9_rank_61 (by decide) ?_
    refine z_icmp_ne dX9_rank_62 rfl (fun _ => ?_) (fun c => absurd c (by decide))
    refine z_iload_n dX9_rank_70 rfl rfl ?_
    refine z_bipush (v := 8) dX9_rank_71 (by decide) ?_
    refine z_icmp_lt dX9_rank_73 rfl (fun _ => ?_) (fun c => absurd (by decide) c)
    refine z_iconst (v := 5) dX9_rank_81 (by decide) ?_
    refine z_iret dX9_rank_82 ?_
    exact hQ
  · skip
    refine z_iload_n dX9_rank_0 rfl rfl ?_
    refine z_bipush (v := 40) dX9_rank_1 (by decide) ?_
    refine z_icmp_lt dX9_rank_3 rfl (fun _ => ?_) (fun c => absurd (by decide) c)
    refine z_iload_n dX9_rank_10 rfl rfl ?_
    refine z_bipush (v := 22) dX9_rank_11 (by decide) ?_
    refine z_icmp_ne dX9_rank_13 rfl (fun _ => ?_) (fun c => absurd c (by decide))
    refine z_iload_n dX9_rank_20 rfl rfl ?_
    refine z_bipush (v := 21) dX9_rank_21 (by decide) ?_
    refine z_icmp_ne dX9_rank_23 rfl (fun _ => ?_) (fun c => absurd c (by decide))
    refine z_iload_n dX9_rank_30 rfl rfl ?_
    refine z_bipush (v := 20) dX9_rank_31 (by decide) ?_
    refine z_icmp_ne dX9_rank_33 rfl (fun _ => ?_) (fun c => absurd c (by decide))
    refine z_iload_n dX9_rank_40 rfl rfl ?_
    refine z_bipush (v := 10) dX9_rank_41 (by decide) ?_
    refine z_icmp_lt dX9_rank_43 rfl (fun _ => ?_) (fun c => absurd (by decide) c)
    refine z_iload_n dX9_rank_50 rfl rfl ?_
    refine z_iconst (v := 5) dX9_rank_51 (by decide) ?_
    refine z_icmp_eq dX9_rank_52 rfl (fun c => absurd c (by decide)) (fun _ => ?_)
    refine z_iload_n dX9_rank_55 rfl rfl ?_
    refine z_iconst (v := 2) dX9_rank_56 (by decide) ?_
    refine z_icmp_eq dX9_rank_57 rfl (fun c => absurd c (by decide)) (fun _ => ?_)
    refine z_iload_n dX9_rank_60 rfl rfl ?_
    refine z_iconst (v := 4) dX9_rank_61 (by decide) ?_
    refine z_icmp_ne dX9_rank_62 rfl (fun c => absurd (by decide) c) (fun _ => ?_)
    refine z_bipush (v := 7) dX9_rank_65 (by decide) ?_
    refine z_goto dX9_rank_67 rfl ?_
    refine z_iret dX9_rank_82 ?_
    exact hQ
  · skip
    refine z_iload_n dX9_rank_0 rfl rfl ?_
    refine z_bipush (v := 40) dX9_rank_1 (by decide) ?_
    refine z_icmp_lt dX9_rank_3 rfl (fun _ => ?_) (fun c => absurd (by decide) c)
    refine z_iload_n dX9_rank_10 rfl rfl ?_
    refine z_bipush (v := 22) dX9_rank_11 (by decide) ?_
    refine z_icmp_ne dX9_rank_13 rfl (fun _ => ?_) (fun c => absurd c (by decide))
    refine z_iload_n dX9_rank_20 rfl rfl ?_
    refine z_bipush (v := 21) dX9_rank_21 (by decide) ?_
    refine z_icmp_ne dX9_rank_23 rfl (fun _ => ?_) (fun c => absurd c (by decide))
    refine z_iload_n dX9_rank_30 rfl rfl ?_
    refine z_bipush (v := 20) dX9_rank_31 (by decide) ?_
    refine z_icmp_ne dX9_rank_33 rfl (fun _ => ?_) (fun c => absurd c (by decide))
    refine z_iload_n dX9_rank_40 rfl rfl ?_
    refine z_bipush (v := 10) dX9_rank_41 (by decide) ?_
    refine z_icmp_lt dX9_rank_43 rfl (fun _ => ?_) (fun c => absurd (by decide) c)
    refine z_iload_n dX9_rank_50 rfl rfl ?_
    refine z_iconst (v := 5) dX9_rank_51 (by decide) ?_
    refine z_icmp_eq dX9_rank_52 rfl (fun _ => ?_) (fun c => absurd (by decide) c)
    refine z_bipush (v := 7) dX9_rank_65 (by decide) ?_
    refine z_goto dX9_rank_67 rfl ?_
    refine z_iret dX9_rank_82 ?_
    exact hQ
  · skip
    refine z_iload_n dX9_rank_0 rfl rfl ?_
    refine z_bipush (v := 40) dX9_rank_1 (by decide) ?_
    refine z_icmp_lt dX9_rank_3 rfl (fun _ => ?_) (fun c => absurd (by decide) c)
    refine z_iload_n dX9_rank_10 rfl rfl ?_
    refine z_bipush (v := 22) dX9_rank_11 (by decide) ?_
    refine z_icmp_ne dX9_rank_13 rfl (fun _ => ?_) (fun c => absurd c (by decide))
    refine z_iload_n dX9_rank_20 rfl rfl ?_
    refine z_bipush (v := 21) dX9_rank_21 (by decide) ?_
    refine z_icmp_ne dX9_rank_23 rfl (fun _ => ?_) (fun c => absurd c (by decide))
    refine z_iload_n dX9_rank_30 rfl rfl ?_
    refine z_bipush (v := 20) dX9_rank_31 (by decide) ?_
    refine z_icmp_ne dX9_rank_33 rfl (fun _ => ?_) (fun c => absurd c (by decide))
    refine z_iload_n dX9_rank_40 rfl rfl ?_
    refine z_bipush (v := 10) dX9_rank_41 (by decide) ?_
    refine z_icmp_lt dX9_rank_43 rfl (fun _ => ?_) (fun c => absurd (by decide) c)
    refine z_iload_n dX9_rank_50 rfl rfl ?_
    refine z_iconst (v := 5) dX9_rank_51 (by decide) ?_
    refine z_icmp_eq dX9_rank_52 rfl (fun c => absurd c (by decide)) (fun _ => ?_)
    refine z_iload_n dX9_rank_55 rfl rfl ?_
    refine z_iconst (v := 2) dX9_rank_56 (by decide) ?_
    refine z_icmp_eq dX9_rank_57 rfl (fun c => absurd c (by decide)) (fun _ => ?_)
    refine z_iload_n dX9_rank_60 rfl rfl ?_
    refine z_iconst (v := 4) dX9_rank_61 (by decide) ?_
    refine z_icmp_ne dX9_rank_62 rfl (fun _ => ?_) (fun c => absurd c (by decide))
    refine z_iload_n dX9_rank_70 rfl rfl ?_
    refine z_bipush (v := 8) dX9_rank_71 (by decide) ?_
    refine z_icmp_lt dX9_rank_73 rfl (fun _ => ?_) (fun c => absurd (by decide) c)
    refine z_iconst (v := 5) dX9_rank_81 (by decide) ?_
    refine z_iret dX9_rank_82 ?_
    exact hQ
  · skip
    refine z_iload_n dX9_rank_0 rfl rfl ?_
    refine z_bipush (v := 40) dX9_rank_1 (by decide) ?_
    refine z_icmp_lt dX9_rank_3 rfl (fun _ => ?_) (fun c => absurd (by decide) c)
    refine z_iload_n dX9_rank_10 rfl rfl ?_
    refine z_bipush (v := 22) dX9_rank_11 (by decide) ?_
    refine z_icmp_ne dX9_rank_13 rfl (fun _ => ?_) (fun c => absurd c (by decide))
    refine z_iload_n dX9_rank_20 rfl rfl ?_
    refine z_bipush (v := 21) dX9_rank_21 (by decide) ?_
    refine z_icmp_ne dX9_rank_23 rfl (fun _ => ?_) (fun c => absurd c (by decide))
    refine z_iload_n dX9_rank_30 rfl rfl ?_
    refine z_bipush (v := 20) dX9_rank_31 (by decide) ?_
    refine z_icmp_ne dX9_rank_33 rfl (fun _ => ?_) (fun c => absurd c (by decide))
    refine z_iload_n dX9_rank_40 rfl rfl ?_
    refine z_bipush (v := 10) dX9_rank_41 (by decide) ?_
    refine z_icmp_lt dX9_rank_43 rfl (fun _ => ?_) (fun c => absurd (by decide) c)
    refine z_iload_n dX9_rank_50 rfl rfl ?_
    refine z_iconst (v := 5) dX9_rank_51 (by decide) ?_
    refine z_icmp_eq dX9_rank_52 rfl (fun c => absurd c (by decide)) (fun _ => ?_)
    refine z_iload_n dX9_rank_55 rfl rfl ?_
    refine z_iconst (v := 2) dX9_rank_56 (by decide) ?_
    refine z_icmp_eq dX9_rank_57 rfl (fun c => absurd c (by decide)) (fun _ => ?_)
    refine z_iload_n dX9_rank_60 rfl rfl ?_
    refine z_iconst (v := 4) dX9_rank_61 (by decide) ?_
    refine z_icmp_ne dX9_rank_62 rfl (fun _ => ?_) (fun c => absurd c (by decide))
    refine z_iload_n dX9_rank_70 rfl rfl ?_
    refine z_bipush (v := 8) dX9_rank_71 (by decide) ?_
    refine z_icmp_lt dX9_rank_73 rfl (fun _ => ?_) (fun c => absurd (by decide) c)
    refine z_iconst (v := 5) dX9_rank_81 (by decide) ?_
    refine z_iret dX9_rank_82 ?_
    exact hQ
  · skip
    refine z_iload_n dX9_rank_0 rfl rfl ?_
    refine z_bipush (v := 40) dX9_rank_1 (by decide) ?_
    refine z_icmp_lt dX9_rank_3 rfl (fun _ => ?_) (fun c => absurd (by decide) c)
    refine z_iload_n dX9_rank_10 rfl rfl ?_
    refine z_bipush (v := 22) dX9_rank_11 (by decide) ?_
    refine z_icmp_ne dX9_rank_13 rfl (fun _ => ?_) (fun c => absurd c (by decide))
    refine z_iload_n dX9_rank_20 rfl rfl ?_
    refine z_bipush (v := 21) dX9_rank_21 (by decide) ?_
    refine z_icmp_ne dX9_rank_23 rfl (fun _ => ?_) (fun c => absurd c (by decide))
    refine z_iload_n dX9_rank_30 rfl rfl ?_
    refine z_bipush (v := 20) dX9_rank_31 (by decide) ?_
    refine z_icmp_ne dX9_rank_33 rfl (fun _ => ?_) (fun c => absurd c (by decide))
    refine z_iload_n dX9_rank_40 rfl rfl ?_
    refine z_bipush (v := 10) dX9_rank_41 (by decide) ?_
    refine z_icmp_lt dX9_rank_43 rfl (fun _ => ?_) (fun c => absurd (by decide) c)
    refine z_iload_n dX9_rank_50 rfl rfl ?_
    refine z_iconst (v := 5) dX9_rank_51 (by decide) ?_
    refine z_icmp_eq dX9_rank_52 rfl (fun c => absurd c (by decide)) (fun _ => ?_)
    refine z_iload_n dX9_rank_55 rfl rfl ?_
    refine z_iconst (v := 2) dX9_rank_56 (by decide) ?_
    refine z_icmp_eq dX9_rank_57 rfl (fun c => absurd c (by decide)) (fun _ => ?_)
    refine z_iload_n dX9_rank_60 rfl rfl ?_
    refine z_iconst (v := 4) dX9_rank_61 (by decide) ?_
    refine z_icmp_ne dX9_rank_62 rfl (fun _ => ?_) (fun c => absurd c (by decide))
    refine z_iload_n dX9_rank_70 rfl rfl ?_
    refine z_bipush (v := 8) dX9_rank_71 (by decide) ?_
    refine z_icmp_lt dX9_rank_73 rfl (fun c => absurd c (by decide)) (fun _ => ?_)
    refine z_bipush (v := 6) dX9_rank_76 (by decide) ?_
    refine z_goto dX9_rank_78 rfl ?_
    refine z_iret dX9_rank_82 ?_
    exact hQ
  · skip
    refine z_iload_n dX9_rank_0 rfl rfl ?_
    refine z_bipush (v := 40) dX9_rank_1 (by decide) ?_
    refine z_icmp_lt dX9_rank_3 rfl (fun _ => ?_) (fun c => absurd (by decide) c)
    refine z_iload_n dX9_rank_10 rfl rfl ?_
    refine z_bipush (v := 22) dX9_rank_11 (by decide) ?_
    refine z_icmp_ne dX9_rank_13 rfl (fun _ => ?_) (fun c => absurd c (by decide))
    refine z_iload_n dX9_rank_20 rfl rfl ?_
    refine z_bipush (v := 21) dX9_rank_21 (by decide) ?_
    refine z_icmp_ne dX9_rank_23 rfl (fun _ => ?_) (fun c => absurd c (by decide))
    refine z_iload_n dX9_rank_30 rfl rfl ?_
    refine z_bipush (v := 20) dX9_rank_31 (by decide) ?_
    refine z_icmp_ne dX9_rank_33 rfl (fun _ => ?_) (fun c => absurd c (by decide))
    refine z_iload_n dX9_rank_40 rfl rfl ?_
    refine z_bipush (v := 10) dX9_rank_41 (by decide) ?_
    refine z_icmp_lt dX9_rank_43 rfl (fun _ => ?_) (fun c => absurd (by decide) c)
    refine z_iload_n dX9_rank_50 rfl rfl ?_
    refine z_iconst (v := 5) dX9_rank_51 (by decide) ?_
    refine z_icmp_eq dX9_rank_52 rfl (fun c => absurd c (by decide)) (fun _ => ?_)
    refine z_iload_n dX9_rank_55 rfl rfl ?_
    refine z_iconst (v := 2) dX9_rank_56 (by decide) ?_
    refine z_icmp_eq dX9_rank_57 rfl (fun c => absurd c (by decide)) (fun _ => ?_)
    refine z_iload_n dX9_rank_60 rfl rfl ?_
    refine z_iconst (v := 4) dX9_rank_61 (by decide) ?_
    refine z_icmp_ne dX9_rank_62 rfl (fun _ => ?_) (fun c => absurd c (by decide))
    refine z_iload_n dX9_rank_70 rfl rfl ?_
    refine z_bipush (v := 8) dX9_rank_71 (by decide) ?_
    refine z_icmp_lt dX9_rank_73 rfl (fun c => absurd c (by decide)) (fun _ => ?_)
    refine z_bipush (v := 6) dX9_rank_76 (by decide) ?_
    refine z_goto dX9_rank_78 rfl ?_
    refine z_iret dX9_rank_82 ?_
    exact hQ
  · skip
    refine z_iload_n dX9_rank_0 rfl rfl ?_
    refine z_bipush (v := 40) dX9_rank_1 (by decide) ?_
    refine z_icmp_lt dX9_rank_3 rfl (fun _ => ?_) (fun c => absurd (by decide) c)
    refine z_iload_n dX9_rank_10 rfl rfl ?_
    refine z_bipush (v := 22) dX9_rank_11 (by decide) ?_
    refine z_icmp_ne dX9_rank_13 rfl (fun _ => ?_) (fun c => absurd c (by decide))
    refine z_iload_n dX9_rank_20 rfl rfl ?_
    refine z_bipush (v := 21) dX9_rank_21 (by decide) ?_
    refine z_icmp_ne dX9_rank_23 rfl (fun _ => ?_) (fun c => absurd c (by decide))
    refine z_iload_n dX9_rank_30 rfl rfl ?_
    refine z_bipush (v := 20) dX9_rank_31 (by decide) ?_
    refine z_icmp_ne dX9_rank_33 rfl (fun _ => ?_) (fun c => absurd c (by decide))
    refine z_iload_n dX9_rank_40 rfl rfl ?_
    refine z_bipush (v := 10) dX9_rank_41 (by decide) ?_
    refine z_icmp_lt dX9_rank_43 rfl (fun c => absurd c (by decide)) (fun _ => ?_)
    refine z_iconst (v := 4) dX9_rank_46 (by decide) ?_
    refine z_goto dX9_rank_47 rfl ?_
    refine z_iret dX9_rank_82 ?_
    exact hQ
  · skip
    refine z_iload_n dX9_rank_0 rfl rfl ?_
    refine z_bipush (v := 40) dX9_rank_1 (by decide) ?_
    refine z_icmp_lt dX9_rank_3 rfl (fun _ => ?_) (fun c => absurd (by decide) c)
    refine z_iload_n dX9_rank_10 rfl rfl ?_
    refine z_bipush (v := 22) dX9_rank_11 (by decide) ?_
    refine z_icmp_ne dX9_rank_13 rfl (fun _ => ?_) (fun c => absurd c (by decide))
    refine z_iload_n dX9_rank_20 rfl rfl ?_
    refine z_bipush (v := 21) dX9_rank_21 (by decide) ?_
    refine z_icmp_ne dX9_rank_23 rfl (fun _ => ?_) (fun c => absurd c (by decide))
    refine z_iload_n dX9_rank_30 rfl rfl ?_
    refine z_bipush (v := 20) dX9_rank_31 (by decide) ?_
    refine z_icmp_ne dX9_rank_33 rfl (fun _ => ?_) (fun c => absurd c (by decide))
    refine z_iload_n dX9_rank_40 rfl rfl ?_
    refine z_bipush (v := 10) dX9_rank_41 (by decide) ?_
    refine z_icmp_lt dX9_rank_43 rfl (fun c => absurd c (by decide)) (fun _ => ?_)
    refine z_iconst (v := 4) dX9_rank_46 (by decide) ?_
    refine z_goto dX9_rank_47 rfl ?_
    refine z_iret dX9_rank_82 ?_
    exact hQ
  · skip
    refine z_iload_n dX9_rank_0 rfl rfl ?_
    refine z_bipush (v := 40) dX9_rank_1 (by decide) ?_
    refine z_icmp_lt dX9_rank_3 rfl (fun _ => ?_) (fun c => absurd (by decide) c)
    refine z_iload_n dX9_rank_10 rfl rfl ?_
    refine z_bipush (v := 22) dX9_rank_11 (by decide) ?_
    refine z_icmp_ne dX9_rank_13 rfl (fun _ => ?_) (fun c => absurd c (by decide))
    refine z_iload_n dX9_rank_20 rfl rfl ?_
    refine z_bipush (v := 21) dX9_rank_21 (by decide) ?_
    refine z_icmp_ne dX9_rank_23 rfl (fun _ => ?_) (fun c => absurd c (by decide))
    refine z_iload_n dX9_rank_30 rfl rfl ?_
    refine z_bipush (v := 20) dX9_rank_31 (by decide) ?_
    refine z_icmp_ne dX9_rank_33 rfl (fun _ => ?_) (fun c => absurd c (by decide))
    refine z_iload_n dX9_rank_40 rfl rfl ?_
    refine z_bipush (v := 10) dX9_rank_41 (by decide) ?_
    refine z_icmp_lt dX9_rank_43 rfl (fun c => absurd c (by decide)) (fun _ => ?_)
    refine z_iconst (v := 4) dX9_rank_46 (by decide) ?_
    refine z_goto dX9_rank_47 rfl ?_
    refine z_iret dX9_rank_82 ?_
    exact hQ
  · skip
    refine z_iload_n dX9_rank_0 rfl rfl ?_
    refine z_bipush (v := 40) dX9_rank_1 (by decide) ?_
    refine z_icmp_lt dX9_rank_3 rfl (fun _ => ?_) (fun c => absurd (by decide) c)
    refine z_iload_n dX9_rank_10 rfl rfl ?_
    refine z_bipush (v := 22) dX9_rank_11 (by decide) ?_
    refine z_icmp_ne dX9_rank_13 rfl (fun _ => ?_) (fun c => absurd c (by decide))
    refine z_iload_n dX9_rank_20 rfl rfl ?_
    refine z_bipush (v := 21) dX9_rank_21 (by decide) ?_
    refine z_icmp_ne dX9_rank_23 rfl (fun _ => ?_) (fun c => absurd c (by decide))
    refine z_iload_n dX9_rank_30 rfl rfl ?_
    refine z_bipush (v := 20) dX9_rank_31 (by decide) ?_
    refine z_icmp_ne dX9_rank_33 rfl (fun _ => ?_) (fun c => absurd c (by decide))
    refine z_iload_n dX9_rank_40 rfl rfl ?_
    refine z_bipush (v := 10) dX9_rank_41 (by decide) ?_
    refine z_icmp_lt dX9_rank_43 rfl (fun c => absurd c (by decide)) (fun _ => ?_)
    refine z_iconst (v := 4) dX9_rank_46 (by decide) ?_
    refine z_goto dX9_rank_47 rfl ?_
    refine z_iret dX9_rank_82 ?_
    exact hQ
  · skip
    refine z_iload_n dX9_rank_0 rfl rfl ?_
    refine z_bipush (v := 40) dX9_rank_1 (by decide) ?_
    refine z_icmp_lt dX9_rank_3 rfl (fun _ => ?_) (fun c => absurd (by decide) c)
    refine z_iload_n dX9_rank_10 rfl rfl ?_
    refine z_bipush (v := 22) dX9_rank_11 (by decide) ?_
    refine z_icmp_ne dX9_rank_13 rfl (fun _ => ?_) (fun c => absurd c (by decide))
    refine z_iload_n dX9_rank_20 rfl rfl ?_
    refine z_bipush (v := 21) dX9_rank_21 (by decide) ?_
    refine z_icmp_ne dX9_rank_23 rfl (fun _ => ?_) (fun c => absurd c (by decide))
    refine z_iload_n dX9_rank_30 rfl rfl ?_
    refine z_bipush (v := 20) dX9_rank_31 (by decide) ?_
    refine z_icmp_ne dX9_rank_33 rfl (fun _ => ?_) (fun c => absurd c (by decide))
    refine z_iload_n dX9_rank_40 rfl rfl ?_
    refine z_bipush (v := 10) dX9_rank_41 (by decide) ?_
    refine z_icmp_lt dX9_rank_43 rfl (fun c => absurd c (by decide)) (fun _ => ?_)
    refine z_iconst (v := 4) dX9_rank_46 (by decide) ?_
    refine z_goto dX9_rank_47 rfl ?_
    refine z_iret dX9_rank_82 ?_
    exact hQ
  · skip
    refine z_iload_n dX9_rank_0 rfl rfl ?_
    refine z_bipush (v := 40) dX9_rank_1 (by decide) ?_
    refine z_icmp_lt dX9_rank_3 rfl (fun _ => ?_) (fun c => absurd (by decide) c)
    refine z_iload_n dX9_rank_10 rfl rfl ?_
    refine z_bipush (v := 22) dX9_rank_11 (by decide) ?_
    refine z_icmp_ne dX9_rank_13 rfl (fun _ => ?_) (fun c => absurd c (by decide))
    refine z_iload_n dX9_rank_20 rfl rfl ?_
    refine z_bipush (v := 21) dX9_rank_21 (by decide) ?_
    refine z_icmp_ne dX9_rank_23 rfl (fun _ => ?_) (fun c => absurd c (by decide))
    refine z_iload_n dX9_rank_30 rfl rfl ?_
    refine z_bipush (v := 20) dX9_rank_31 (by decide) ?_
    refine z_icmp_ne dX9_rank_33 rfl (fun _ => ?_) (fun c => absurd c (by decide))
    refine z_iload_n dX9_rank_40 rfl rfl ?_
    refine z_bipush (v := 10) dX9_rank_41 (by decide) ?_
    refine z_icmp_lt dX9_rank_43 rfl (fun c => absurd c (by decide)) (fun _ => ?_)
    refine z_iconst (v := 4) dX9_rank_46 (by decide) ?_
    refine z_goto dX9_rank_47 rfl ?_
    refine z_iret dX9_rank_82 ?_
    exact hQ
  · skip
    refine z_iload_n dX9_rank_0 rfl rfl ?_
    refine z_bipush (v := 40) dX9_rank_1 (by decide) ?_
    refine z_icmp_lt dX9_rank_3 rfl (fun _ => ?_) (fun c => absurd (by decide) c)
    refine z_iload_n dX9_rank_10 rfl rfl ?_
    refine z_bipush (v := 22) dX9_rank_11 (by decide) ?_
    refine z_icmp_ne dX9_rank_13 rfl (fun _ => ?_) (fun c => absurd c (by decide))
    refine z_iload_n dX9_rank_20 rfl rfl ?_
    refine z_bipush (v := 21) dX9_rank_21 (by decide) ?_
    refine z_icmp_ne dX9_rank_23 rfl (fun _ => ?_) (fun c => absurd c (by decide))
    refine z_iload_n dX9_rank_30 rfl rfl ?_
    refine z_bipush (v := 20) dX9_rank_31 (by decide) ?_
    refine z_icmp_ne dX9_rank_33 rfl (fun _ => ?_) (fun c => absurd c (by decide))
    refine z_iload_n dX9_rank_40 rfl rfl ?_
    refine z_bipush (v := 10) dX9_rank_41 (by decide) ?_
    refine z_icmp_lt dX9_rank_43 rfl (fun c => absurd c (by decide)) (fun _ => ?_)
    refine z_iconst (v := 4) dX9_rank_46 (by decide) ?_
    refine z_goto dX9_rank_47 rfl ?_
    refine z_iret dX9_rank_82 ?_
    exact hQ
  · skip
    refine z_iload_n dX9_rank_0 rfl rfl ?_
    refine z_bipush (v := 40) dX9_rank_1 (by decide) ?_
    refine z_icmp_lt dX9_rank_3 rfl (fun _ => ?_) (fun c => absurd (by decide) c)
    refine z_iload_n dX9_rank_10 rfl rfl ?_
    refine z_bipush (v := 22) dX9_rank_11 (by decide) ?_
    refine z_icmp_ne dX9_rank_13 rfl (fun _ => ?_) (fun c => absurd c (by decide))
    refine z_iload_n dX9_rank_20 rfl rfl ?_
    refine z_bipush (v := 21) dX9_rank_21 (by decide) ?_
    refine z_icmp_ne dX9_rank_23 rfl (fun _ => ?_) (fun c => absurd c (by decide))
    refine z_iload_n dX9_rank_30 rfl rfl ?_
    refine z_bipush (v := 20) dX9_rank_31 (by decide) ?_
    refine z_icmp_ne dX9_rank_33 rfl (fun _ => ?_) (fun c => absurd c (by decide))
    refine z_iload_n dX9_rank_40 rfl rfl ?_
    refine z_bipush (v := 10) dX9_rank_41 (by decide) ?_
    refine z_icmp_lt dX9_rank_43 rfl (fun c => absurd c (by decide)) (fun _ => ?_)
    refine z_iconst (v := 4) dX9_rank_46 (by decide) ?_
    refine z_goto dX9_rank_47 rfl ?_
    refine z_iret dX9_rank_82 ?_
    exact hQ
  · skip
    refine z_iload_n dX9_rank_0 rfl rfl ?_
    refine z_bipush (v := 40) dX9_rank_1 (by decide) ?_
    refine z_icmp_lt dX9_rank_3 rfl (fun _ => ?_) (fun c => absurd (by decide) c)
    refine z_iload_n dX9_rank_10 rfl rfl ?_
    refine z_bipush (v := 22) dX9_rank_11 (by decide) ?_
    refine z_icmp_ne dX9_rank_13 rfl (fun _ => ?_) (fun c => absurd c (by decide))
    refine z_iload_n dX9_rank_20 rfl rfl ?_
    refine z_bipush (v := 21) dX9_rank_21 (by decide) ?_
    refine z_icmp_ne dX9_rank_23 rfl (fun _ => ?_) (fun c => absurd c (by decide))
    refine z_iload_n dX9_rank_30 rfl rfl ?_
    refine z_bipush (v := 20) dX9_rank_31 (by decide) ?_
    refine z_icmp_ne dX9_rank_33 rfl (fun _ => ?_) (fun c => absurd c (by decide))
    refine z_iload_n dX9_rank_40 rfl rfl ?_
    refine z_bipush (v := 10) dX9_rank_41 (by decide) ?_
    refine z_icmp_lt dX9_rank_43 rfl (fun c => absurd c (by decide)) (fun _ => ?_)
    refine z_iconst (v := 4) dX9_rank_46 (by decide) ?_
    refine z_goto dX9_rank_47 rfl ?_
    refine z_iret dX9_rank_82 ?_
    exact hQ
  · skip
    refine z_iload_n dX9_rank_0 rfl rfl ?_
    refine z_bipush (v := 40) dX9_rank_1 (by decide) ?_
    refine z_icmp_lt dX9_rank_3 rfl (fun _ => ?_) (fun c => absurd (by decide) c)
    refine z_iload_n dX9_rank_10 rfl rfl ?_
    refine z_bipush (v := 22) dX9_rank_11 (by decide) ?_
    refine z_icmp_ne dX9_rank_13 rfl (fun _ => ?_) (fun c => absurd c (by decide))
    refine z_iload_n dX9_rank_20 rfl rfl ?_
    refine z_bipush (v := 21) dX9_rank_21 (by decide) ?_
    refine z_icmp_ne dX9_rank_23 rfl (fun _ => ?_) (fun c => absurd c (by decide))
    refine z_iload_n dX9_rank_30 rfl rfl ?_
    refine z_bipush (v := 20) dX9_rank_31 (by decide) ?_
    refine z_icmp_ne dX9_rank_33 rfl (fun _ => ?_) (fun c => absurd c (by decide))
    refine z_iload_n dX9_rank_40 rfl rfl ?_
    refine z_bipush (v := 10) dX9_rank_41 (by decide) ?_
    refine z_icmp_lt dX9_rank_43 rfl (fun c => absurd c (by decide)) (fun _ => ?_)
    refine z_iconst (v := 4) dX9_rank_46 (by decide) ?_
    refine z_goto dX9_rank_47 rfl ?_
    refine z_iret dX9_rank_82 ?_
    exact hQ
  · skip
    refine z_iload_n dX9_rank_0 rfl rfl ?_
    refine z_bipush (v := 40) dX9_rank_1 (by decide) ?_
    refine z_icmp_lt dX9_rank_3 rfl (fun _ => ?_) (fun c => absurd (by decide) c)
    refine z_iload_n dX9_rank_10 rfl rfl ?_
    refine z_bipush (v := 22) dX9_rank_11 (by decide) ?_
    refine z_icmp_ne dX9_rank_13 rfl (fun _ => ?_) (fun c => absurd c (by decide))
    refine z_iload_n dX9_rank_20 rfl rfl ?_
    refine z_bipush (v := 21) dX9_rank_21 (by decide) ?_
    refine z_icmp_ne dX9_rank_23 rfl (fun _ => ?_) (fun c => absurd c (by decide))
    refine z_iload_n dX9_rank_30 rfl rfl ?_
    refine z_bipush (v := 20) dX9_rank_31 (by decide) ?_
    refine z_icmp_ne dX9_rank_33 rfl (fun c => absurd (by decide) c) (fun _ => ?_)
    refine z_iconst (v := 3) dX9_rank_36 (by decide) ?_
    refine z_goto dX9_rank_37 rfl ?_
    refine z_iret dX9_rank_82 ?_
    exact hQ
  · skip
    refine z_iload_n dX9_rank_0 rfl rfl ?_
    refine z_bipush (v := 40) dX9_rank_1 (by decide) ?_
    refine z_icmp_lt dX9_rank_3 rfl (fun _ => ?_) (fun c => absurd (by decide) c)
    refine z_iload_n dX9_rank_10 rfl rfl ?_
    refine z_bipush (v := 22) dX9_rank_11 (by decide) ?_
    refine z_icmp_ne dX9_rank_13 rfl (fun _ => ?_) (fun c => absurd c (by decide))
    refine z_iload_n dX9_rank_20 rfl rfl ?_
    refine z_bipush (v := 21) dX9_rank_21 (by decide) ?_
    refine z_icmp_ne dX9_rank_23 rfl (fun c => absurd (by decide) c) (fun _ => ?_)
    refine z_iconst (v := 2) dX9_rank_26 (by decide) ?_
    refine z_goto dX9_rank_27 rfl ?_
    refine z_iret dX9_rank_82 ?_
    exact hQ
  · skip
    refine z_iload_n dX9_rank_0 rfl rfl ?_
    refine z_bipush (v := 40) dX9_rank_1 (by decide) ?_
    refine z_icmp_lt dX9_rank_3 rfl (fun _ => ?_) (fun c => absurd (by decide) c)
    refine z_iload_n dX9_rank_10 rfl rfl ?_
    refine z_bipush (v := 22) dX9_rank_11 (by decide) ?_
    refine z_icmp_ne dX9_rank_13 rfl (fun c => absurd (by decide) c) (fun _ => ?_)
    refine z_iconst (v := 1) dX9_rank_16 (by decide) ?_
    refine z_goto dX9_rank_17 rfl ?_
    refine z_iret dX9_rank_82 ?_
    exact hQ
  · skip
    refine z_iload_n dX9_rank_0 rfl rfl ?_
    refine z_bipush (v := 40) dX9_rank_1 (by decide) ?_
    refine z_icmp_lt dX9_rank_3 rfl (fun _ => ?_) (fun c => absurd (by decide) c)
    refine z_iload_n dX9_rank_10 rfl rfl ?_
    refine z_bipush (v := 22) dX9_rank_11 (by decide) ?_
    refine z_icmp_ne dX9_rank_13 rfl (fun _ => ?_) (fun c => absurd c (by decide))
    refine z_iload_n dX9_rank_20 rfl rfl ?_
    refine z_bipush (v := 21) dX9_rank_21 (by decide) ?_
    refine z_icmp_ne dX9_rank_23 rfl (fun _ => ?_) (fun c => absurd c (by decide))
    refine z_iload_n dX9_rank_30 rfl rfl ?_
    refine z_bipush (v := 20) dX9_rank_31 (by decide) ?_
    refine z_icmp_ne dX9_rank_33 rfl (fun _ => ?_) (fun c => absurd c (by decide))
    refine z_iload_n dX9_rank_40 rfl rfl ?_
    refine z_bipush (v := 10) dX9_rank_41 (by decide) ?_
    refine z_icmp_lt dX9_rank_43 rfl (fun c => absurd c (by decide)) (fun _ => ?_)
    refine z_iconst (v := 4) dX9_rank_46 (by decide) ?_
    refine z_goto dX9_rank_47 rfl ?_
    refine z_iret dX9_rank_82 ?_
    exact hQ
  · skip
    refine z_iload_n dX9_rank_0 rfl rfl ?_
    refine z_bipush (v := 40) dX9_rank_1 (by decide) ?_
    refine z_icmp_lt dX9_rank_3 rfl (fun _ => ?_) (fun c => absurd (by decide) c)
    refine z_iload_n dX9_rank_10 rfl rfl ?_
    refine z_bipush (v := 22) dX9_rank_11 (by decide) ?_
    refine z_icmp_ne dX9_rank_13 rfl (fun _ => ?_) (fun c => absurd c (by decide))
    refine z_iload_n dX9_rank_20 rfl rfl ?_
    refine z_bipush (v := 21) dX9_rank_21 (by decide) ?_
    refine z_icmp_ne dX9_rank_23 rfl (fun _ => ?_) (fun c => absurd c (by decide))
    refine z_iload_n dX9_rank_30 rfl rfl ?_
    refine z_bipush (v := 20) dX9_rank_31 (by decide) ?_
    refine z_icmp_ne dX9_rank_33 rfl (fun _ => ?_) (fun c => absurd c (by decide))
    refine z_iload_n dX9_rank_40 rfl rfl ?_
    refine z_bipush (v := 10) dX9_rank_41 (by decide) ?_
    refine z_icmp_lt dX9_rank_43 rfl (fun c => absurd c (by decide)) (fun _ => ?_)
    refine z_iconst (v := 4) dX9_rank_46 (by decide) ?_
    refine z_goto dX9_rank_47 rfl ?_
    refine z_iret dX9_rank_82 ?_
    exact hQ
  · skip
    refine z_iload_n dX9_rank_0 rfl rfl ?_
    refine z_bipush (v := 40) dX9_rank_1 (by decide) ?_
    refine z_icmp_lt dX9_rank_3 rfl (fun _ => ?_) (fun c => absurd (by decide) c)
    refine z_iload_n dX9_rank_10 rfl rfl ?_
    refine z_bipush (v := 22) dX9_rank_11 (by decide) ?_
    refine z_icmp_ne dX9_rank_13 rfl (fun _ => ?_) (fun c => absurd c (by decide))
    refine z_iload_n dX9_rank_20 rfl rfl ?_
    refine z_bipush (v := 21) dX9_rank_21 (by decide) ?_
    refine z_icmp_ne dX9_rank_23 rfl (fun _ => ?_) (fun c => absurd c (by decide))
    refine z_iload_n dX9_rank_30 rfl rfl ?_
    refine z_bipush (v := 20) dX9_rank_31 (by decide) ?_
    refine z_icmp_ne dX9_rank_33 rfl (fun _ => ?_) (fun c => absurd c (by decide))
    refine z_iload_n dX9_rank_40 rfl rfl ?_
    refine z_bipush (v := 10) dX9_rank_41 (by decide) ?_
    refine z_icmp_lt dX9_rank_43 rfl (fun c => absurd c (by decide)) (fun _ => ?_)
    refine z_iconst (v := 4) dX9_rank_46 (by decide) ?_
    refine z_goto dX9_rank_47 rfl ?_
    refine z_iret dX9_rank_82 ?_
    exact hQ
  · skip
    refine z_iload_n dX9_rank_0 rfl rfl ?_
    refine z_bipush (v := 40) dX9_rank_1 (by decide) ?_
    refine z_icmp_lt dX9_rank_3 rfl (fun _ => ?_) (fun c => absurd (by decide) c)
    refine z_iload_n dX9_rank_10 rfl rfl ?_
    refine z_bipush (v := 22) dX9_rank_11 (by decide) ?_
    refine z_icmp_ne dX9_rank_13 rfl (fun _ => ?_) (fun c => absurd c (by decide))
    refine z_iload_n dX9_rank_20 rfl rfl ?_
    refine z_bipush (v := 21) dX9_rank_21 (by decide) ?_
    refine z_icmp_ne dX9_rank_23 rfl (fun _ => ?_) (fun c => absurd c (by decide))
    refine z_iload_n dX9_rank_30 rfl rfl ?_
    refine z_bipush (v := 20) dX9_rank_31 (by decide) ?_
    refine z_icmp_ne dX9_rank_33 rfl (fun _ => ?_) (fun c => absurd c (by decide))
    refine z_iload_n dX9_rank_40 rfl rfl ?_
    refine z_bipush (v := 10) dX9_rank_41 (by decide) ?_
    refine z_icmp_lt dX9_rank_43 rfl (fun c => absurd c (by decide)) (fun _ => ?_)
    refine z_iconst (v := 4) dX9_rank_46 (by decide) ?_
    refine z_goto dX9_rank_47 rfl ?_
    refine z_iret dX9_rank_82 ?_
    exact hQ
  · skip
    refine z_iload_n dX9_rank_0 rfl rfl ?_
    refine z_bipush (v := 40) dX9_rank_1 (by decide) ?_
    refine z_icmp_lt dX9_rank_3 rfl (fun _ => ?_) (fun c => absurd (by decide) c)
    refine z_iload_n dX9_rank_10 rfl rfl ?_
    refine z_bipush (v := 22) dX9_rank_11 (by decide) ?_
    refine z_icmp_ne dX9_rank_13 rfl (fun _ => ?_) (fun c => absurd c (by decide))
    refine z_iload_n dX9_rank_20 rfl rfl ?_
    refine z_bipush (v := 21) dX9_rank_21 (by decide) ?_
    refine z_icmp_ne dX9_rank_23 rfl (fun _ => ?_) (fun c => absurd c (by decide))
    refine z_iload_n dX9_rank_30 rfl rfl ?_
    refine z_bipush (v := 20) dX9_rank_31 (by decide) ?_
    refine z_icmp_ne dX9_rank_33 rfl (fun _ => ?_) (fun c => absurd c (by decide))
    refine z_iload_n dX9_rank_40 rfl rfl ?_
    refine z_bipush (v := 10) dX9_rank_41 (by decide) ?_
    refine z_icmp_lt dX9_rank_43 rfl (fun c => absurd c (by decide)) (fun _ => ?_)
    refine z_iconst (v := 4) dX9_rank_46 (by decide) ?_
    refine z_goto dX9_rank_47 rfl ?_
    refine z_iret dX9_rank_82 ?_
    exact hQ
  · skip
    refine z_iload_n dX9_rank_0 rfl rfl ?_
    refine z_bipush (v := 40) dX9_rank_1 (by decide) ?_
    refine z_icmp_lt dX9_rank_3 rfl (fun _ => ?_) (fun c => absurd (by decide) c)
    refine z_iload_n dX9_rank_10 rfl rfl ?_
    refine z_bipush (v := 22) dX9_rank_11 (by decide) ?_
    refine z_icmp_ne dX9_rank_13 rfl (fun _ => ?_) (fun c => absurd c (by decide))
    refine z_iload_n dX9_rank_20 rfl rfl ?_
    refine z_bipush (v := 21) dX9_rank_21 (by decide) ?_
    refine z_icmp_ne dX9_rank_23 rfl (fun _ => ?_) (fun c => absurd c (by decide))
    refine z_iload_n dX9_rank_30 rfl rfl ?_
    refine z_bipush (v := 20) dX9_rank_31 (by decide) ?_
    refine z_icmp_ne dX9_rank_33 rfl (fun _ => ?_) (fun c => absurd c (by decide))
    refine z_iload_n dX9_rank_40 rfl rfl ?_
    refine z_bipush (v := 10) dX9_rank_41 (by decide) ?_
    refine z_icmp_lt dX9_rank_43 rfl (fun c => absurd c (by decide)) (fun _ => ?_)
    refine z_iconst (v := 4) dX9_rank_46 (by decide) ?_
    refine z_goto dX9_rank_47 rfl ?_
    refine z_iret dX9_rank_82 ?_
    exact hQ
  · skip
    refine z_iload_n dX9_rank_0 rfl rfl ?_
    refine z_bipush (v := 40) dX9_rank_1 (by decide) ?_
    refine z_icmp_lt dX9_rank_3 rfl (fun _ => ?_) (fun c => absurd (by decide) c)
    refine z_iload_n dX9_rank_10 rfl rfl ?_
    refine z_bipush (v := 22) dX9_rank_11 (by decide) ?_
    refine z_icmp_ne dX9_rank_13 rfl (fun _ => ?_) (fun c => absurd c (by decide))
    refine z_iload_n dX9_rank_20 rfl rfl ?_
    refine z_bipush (v := 21) dX9_rank_21 (by decide) ?_
    refine z_icmp_ne dX9_rank_23 rfl (fun _ => ?_) (fun c => absurd c (by decide))
    refine z_iload_n dX9_rank_30 rfl rfl ?_
    refine z_bipush (v := 20) dX9_rank_31 (by decide) ?_
    refine z_icmp_ne dX9_rank_33 rfl (fun _ => ?_) (fun c => absurd c (by decide))
    refine z_iload_n dX9_rank_40 rfl rfl ?_
    refine z_bipush (v := 10) dX9_rank_41 (by decide) ?_
    refine z_icmp_lt dX9_rank_43 rfl (fun c => absurd c (by decide)) (fun _ => ?_)
    refine z_iconst (v := 4) dX9_rank_46 (by decide) ?_
    refine z_goto dX9_rank_47 rfl ?_
    refine z_iret dX9_rank_82 ?_
    exact hQ
  · skip
    refine z_iload_n dX9_rank_0 rfl rfl ?_
    refine z_bipush (v := 40) dX9_rank_1 (by decide) ?_
    refine z_icmp_lt dX9_rank_3 rfl (fun _ => ?_) (fun c => absurd (by decide) c)
    refine z_iload_n dX9_rank_10 rfl rfl ?_
    refine z_bipush (v := 22) dX9_rank_11 (by decide) ?_
    refine z_icmp_ne dX9_rank_13 rfl (fun _ => ?_) (fun c => absurd c (by decide))
    refine z_iload_n dX9_rank_20 rfl rfl ?_
    refine z_bipush (v := 21) dX9_rank_21 (by decide) ?_
    refine z_icmp_ne dX9_rank_23 rfl (fun _ => ?_) (fun c => absurd c (by decide))
    refine z_iload_n dX9_rank_30 rfl rfl ?_
    refine z_bipush (v := 20) dX9_rank_31 (by decide) ?_
    refine z_icmp_ne dX9_rank_33 rfl (fun _ => ?_) (fun c => absurd c (by decide))
    refine z_iload_n dX9_rank_40 rfl rfl ?_
    refine z_bipush (v := 10) dX9_rank_41 (by decide) ?_
    refine z_icmp_lt dX9_rank_43 rfl (fun c => absurd c (by decide)) (fun _ => ?_)
    refine z_iconst (v := 4) dX9_rank_46 (by decide) ?_
    refine z_goto dX9_rank_47 rfl ?_
    refine z_iret dX9_rank_82 ?_
    exact hQ
  · skip
    refine z_iload_n dX9_rank_0 rfl rfl ?_
    refine z_bipush (v := 40) dX9_rank_1 (by decide) ?_
    refine z_icmp_lt dX9_rank_3 rfl (fun _ => ?_) (fun c => absurd (by decide) c)
    refine z_iload_n dX9_rank_10 rfl rfl ?_
    refine z_bipush (v := 22) dX9_rank_11 (by decide) ?_
    refine z_icmp_ne dX9_rank_13 rfl (fun _ => ?_) (fun c => absurd c (by decide))
    refine z_iload_n dX9_rank_20 rfl rfl ?_
    refine z_bipush (v := 21) dX9_rank_21 (by decide) ?_
    refine z_icmp_ne dX9_rank_23 rfl (fun _ => ?_) (fun c => absurd c (by decide))
    refine z_iload_n dX9_rank_30 rfl rfl ?_
    refine z_bipush (v := 20) dX9_rank_31 (by decide) ?_
    refine z_icmp_ne dX9_rank_33 rfl (fun _ => ?_) (fun c => absurd c (by decide))
    refine z_iload_n dX9_rank_40 rfl rfl ?_
    refine z_bipush (v := 10) dX9_rank_41 (by decide) ?_
    refine z_icmp_lt dX9_rank_43 rfl (fun c => absurd c (by decide)) (fun _ => ?_)
    refine z_iconst (v := 4) dX9_rank_46 (by decide) ?_
    refine z_goto dX9_rank_47 rfl ?_
    refine z_iret dX9_rank_82 ?_
    exact hQ
  · skip
    refine z_iload_n dX9_rank_0 rfl rfl ?_
    refine z_bipush (v := 40) dX9_rank_1 (by decide) ?_
    refine z_icmp_lt dX9_rank_3 rfl (fun _ => ?_) (fun c => absurd (by decide) c)
    refine z_iload_n dX9_rank_10 rfl rfl ?_
    refine z_bipush (v := 22) dX9_rank_11 (by decide) ?_
    refine z_icmp_ne dX9_rank_13 rfl (fun _ => ?_) (fun c => absurd c (by decide))
    refine z_iload_n dX9_rank_20 rfl rfl ?_
    refine z_bipush (v := 21) dX9_rank_21 (by decide) ?_
    refine z_icmp_ne dX9_rank_23 rfl (fun _ => ?_) (fun c => absurd c (by decide))
    refine z_iload_n dX9_rank_30 rfl rfl ?_
    refine z_bipush (v := 20) dX9_rank_31 (by decide) ?_
    refine z_icmp_ne dX9_rank_33 rfl (fun _ => ?_) (fun c => absurd c (by decide))
    refine z_iload_n dX9_rank_40 rfl rfl ?_
    refine z_bipush (v := 10) dX9_rank_41 (by decide) ?_
    refine z_icmp_lt dX9_rank_43 rfl (fun c => absurd c (by decide)) (fun _ => ?_)
    refine z_iconst (v := 4) dX9_rank_46 (by decide) ?_
    refine z_goto dX9_rank_47 rfl ?_
    refine z_iret dX9_rank_82 ?_
    exact hQ
  · skip
    refine z_iload_n dX9_rank_0 rfl rfl ?_
    refine z_bipush (v := 40) dX9_rank_1 (by decide) ?_
    refine z_icmp_lt dX9_rank_3 rfl (fun _ => ?_) (fun c => absurd (by decide) c)
    refine z_iload_n dX9_rank_10 rfl rfl ?_
    refine z_bipush (v := 22) dX9_rank_11 (by decide) ?_
    refine z_icmp_ne dX9_rank_13 rfl (fun _ => ?_) (fun c => absurd c (by decide))
    refine z_iload_n dX9_rank_20 rfl rfl ?_
    refine z_bipush (v := 21) dX9_rank_21 (by decide) ?_
    refine z_icmp_ne dX9_rank_23 rfl (fun _ => ?_) (fun c => absurd c (by decide))
    refine z_iload_n dX9_rank_30 rfl rfl ?_
    refine z_bipush (v := 20) dX9_rank_31 (by decide) ?_
    refine z_icmp_ne dX9_rank_33 rfl (fun _ => ?_) (fun c => absurd c (by decide))
    refine z_iload_n dX9_rank_40 rfl rfl ?_
    refine z_bipush (v := 10) dX9_rank_41 (by decide) ?_
    refine z_icmp_lt dX9_rank_43 rfl (fun c => absurd c (by decide)) (fun _ => ?_)
    refine z_iconst (v := 4) dX9_rank_46 (by decide) ?_
    refine z_goto dX9_rank_47 rfl ?_
    refine z_iret dX9_rank_82 ?_
    exact hQ
  · skip
    refine z_iload_n dX9_rank_0 rfl rfl ?_
    refine z_bipush (v := 40) dX9_rank_1 (by decide) ?_
    refine z_icmp_lt dX9_rank_3 rfl (fun _ => ?_) (fun c => absurd (by decide) c)
    refine z_iload_n dX9_rank_10 rfl rfl ?_
    refine z_bipush (v := 22) dX9_rank_11 (by decide) ?_
    refine z_icmp_ne dX9_rank_13 rfl (fun _ => ?_) (fun c => absurd c (by decide))
    refine z_iload_n dX9_rank_20 rfl rfl ?_
    refine z_bipush (v := 21) dX9_rank_21 (by decide) ?_
    refine z_icmp_ne dX9_rank_23 rfl (fun _ => ?_) (fun c => absurd c (by decide))
    refine z_iload_n dX9_rank_30 rfl rfl ?_
    refine z_bipush (v := 20) dX9_rank_31 (by decide) ?_
    refine z_icmp_ne dX9_rank_33 rfl (fun _ => ?_) (fun c => absurd c (by decide))
    refine z_iload_n dX9_rank_40 rfl rfl ?_
    refine z_bipush (v := 10) dX9_rank_41 (by decide) ?_
    refine z_icmp_lt dX9_rank_43 rfl (fun c => absurd c (by decide)) (fun _ => ?_)
    refine z_iconst (v := 4) dX9_rank_46 (by decide) ?_
    refine z_goto dX9_rank_47 rfl ?_
    refine z_iret dX9_rank_82 ?_
    exact hQ
  · skip
    refine z_iload_n dX9_rank_0 rfl rfl ?_
    refine z_bipush (v := 40) dX9_rank_1 (by decide) ?_
    refine z_icmp_lt dX9_rank_3 rfl (fun _ => ?_) (fun c => absurd (by decide) c)
    refine z_iload_n dX9_rank_10 rfl rfl ?_
    refine z_bipush (v := 22) dX9_rank_11 (by decide) ?_
    refine z_icmp_ne dX9_rank_13 rfl (fun _ => ?_) (fun c => absurd c (by decide))
    refine z_iload_n dX9_rank_20 rfl rfl ?_
    refine z_bipush (v := 21) dX9_rank_21 (by decide) ?_
    refine z_icmp_ne dX9_rank_23 rfl (fun _ => ?_) (fun c => absurd c (by decide))
    refine z_iload_n dX9_rank_30 rfl rfl ?_
    refine z_bipush (v := 20) dX9_rank_31 (by decide) ?_
    refine z_icmp_ne dX9_rank_33 rfl (fun _ => ?_) (fun c => absurd c (by decide))
    refine z_iload_n dX9_rank_40 rfl rfl ?_
    refine z_bipush (v := 10) dX9_rank_41 (by decide) ?_
    refine z_icmp_lt dX9_rank_43 rfl (fun c => absurd c (by decide)) (fun _ => ?_)
    refine z_iconst (v := 4) dX9_rank_46 (by decide) ?_
    refine z_goto dX9_rank_47 rfl ?_
    refine z_iret dX9_rank_82 ?_
    exact hQ
  · skip
    refine z_iload_n dX9_rank_0 rfl rfl ?_
    refine z_bipush (v := 40) dX9_rank_1 (by decide) ?_
    refine z_icmp_lt dX9_rank_3 rfl (fun _ => ?_) (fun c => absurd (by decide) c)
    refine z_iload_n dX9_rank_10 rfl rfl ?_
    refine z_bipush (v := 22) dX9_rank_11 (by decide) ?_
    refine z_icmp_ne dX9_rank_13 rfl (fun _ => ?_) (fun c => absurd c (by decide))
    refine z_iload_n dX9_rank_20 rfl rfl ?_
    refine z_bipush (v := 21) dX9_rank_21 (by decide) ?_
    refine z_icmp_ne dX9_rank_23 rfl (fun _ => ?_) (fun c => absurd c (by decide))
    refine z_iload_n dX9_rank_30 rfl rfl ?_
    refine z_bipush (v := 20) dX9_rank_31 (by decide) ?_
    refine z_icmp_ne dX9_rank_33 rfl (fun _ => ?_) (fun c => absurd c (by decide))
    refine z_iload_n dX9_rank_40 rfl rfl ?_
    refine z_bipush (v := 10) dX9_rank_41 (by decide) ?_
    refine z_icmp_lt dX9_rank_43 rfl (fun c => absurd c (by decide)) (fun _ => ?_)
    refine z_iconst (v := 4) dX9_rank_46 (by decide) ?_
    refine z_goto dX9_rank_47 rfl ?_
    refine z_iret dX9_rank_82 ?_
    exact hQ
  · skip
    refine z_iload_n dX9_rank_0 rfl rfl ?_
    refine z_bipush (v := 40) dX9_rank_1 (by decide) ?_
    refine z_icmp_lt dX9_rank_3 rfl (fun _ => ?_) (fun c => absurd (by decide) c)
    refine z_iload_n dX9_rank_10 rfl rfl ?_
    refine z_bipush (v := 22) dX9_rank_11 (by decide) ?_
    refine z_icmp_ne dX9_rank_13 rfl (fun _ => ?_) (fun c => absurd c (by decide))
    refine z_iload_n dX9_rank_20 rfl rfl ?_
    refine z_bipush (v := 21) dX9_rank_21 (by decide) ?_
    refine z_icmp_ne dX9_rank_23 rfl (fun _ => ?_) (fun c => absurd c (by decide))
    refine z_iload_n dX9_rank_30 rfl rfl ?_
    refine z_bipush (v := 20) dX9_rank_31 (by decide) ?_
    refine z_icmp_ne dX9_rank_33 rfl (fun _ => ?_) (fun c => absurd c (by decide))
    refine z_iload_n dX9_rank_40 rfl rfl ?_
    refine z_bipush (v := 10) dX9_rank_41 (by decide) ?_
    refine z_icmp_lt dX9_rank_43 rfl (fun c => absurd c (by decide)) (fun _ => ?_)
    refine z_iconst (v := 4) dX9_rank_46 (by decide) ?_
    refine z_goto dX9_rank_47 rfl ?_
    refine z_iret dX9_rank_82 ?_
    exact hQ
  · skip
    refine z_iload_n dX9_rank_0 rfl rfl ?_
    refine z_bipush (v := 40) dX9_rank_1 (by decide) ?_
    refine z_icmp_lt dX9_rank_3 rfl (fun _ => ?_) (fun c => absurd (by decide) c)
    refine z_iload_n dX9_rank_10 rfl rfl ?_
    refine z_bipush (v := 22) dX9_rank_11 (by decide) ?_
    refine z_icmp_ne dX9_rank_13 rfl (fun _ => ?_) (fun c => absurd c (by decide))
    refine z_iload_n dX9_rank_20 rfl rfl ?_
    refine z_bipush (v := 21) dX9_rank_21 (by decide) ?_
    refine z_icmp_ne dX9_rank_23 rfl (fun _ => ?_) (fun c => absurd c (by decide))
    refine z_iload_n dX9_rank_30 rfl rfl ?_
    refine z_bipush (v := 20) dX9_rank_31 (by decide) ?_
    refine z_icmp_ne dX9_rank_33 rfl (fun _ => ?_) (fun c => absurd c (by decide))
    refine z_iload_n dX9_rank_40 rfl rfl ?_
    refine z_bipush (v := 10) dX9_rank_41 (by decide) ?_
    refine z_icmp_lt dX9_rank_43 rfl (fun c => absurd c (by decide)) (fun _ => ?_)
    refine z_iconst (v := 4) dX9_rank_46 (by decide) ?_
    refine z_goto dX9_rank_47 rfl ?_
    refine z_iret dX9_rank_82 ?_
    exact hQ
  · skip
    refine z_iload_n dX9_rank_0 rfl rfl ?_
    refine z_bipush (v := 40) dX9_rank_1 (by decide) ?_
    refine z_icmp_lt dX9_rank_3 rfl (fun _ => ?_) (fun c => absurd (by decide) c)
    refine z_iload_n dX9_rank_10 rfl rfl ?_
    refine z_bipush (v := 22) dX9_rank_11 (by decide) ?_
    refine z_icmp_ne dX9_rank_13 rfl (fun _ => ?_) (fun c => absurd c (by decide))
    refine z_iload_n dX9_rank_20 rfl rfl ?_
    refine z_bipush (v := 21) dX9_rank_21 (by decide) ?_
    refine z_icmp_ne dX9_rank_23 rfl (fun _ => ?_) (fun c => absurd c (by decide))
    refine z_iload_n dX9_rank_30 rfl rfl ?_
    refine z_bipush (v := 20) dX9_rank_31 (by decide) ?_
    refine z_icmp_ne dX9_rank_33 rfl (fun _ => ?_) (fun c => absurd c (by decide))
    refine z_iload_n dX9_rank_40 rfl rfl ?_
    refine z_bipush (v := 10) dX9_rank_41 (by decide) ?_
    refine z_icmp_lt dX9_rank_43 rfl (fun c => absurd c (by decide)) (fun _ => ?_)
    refine z_iconst (v := 4) dX9_rank_46 (by decide) ?_
    refine z_goto dX9_rank_47 rfl ?_
    refine z_iret dX9_rank_82 ?_
    exact hQ
  · skip
    refine z_iload_n dX9_rank_0 rfl rfl ?_
    refine z_bipush (v := 40) dX9_rank_1 (by decide) ?_
    refine z_icmp_lt dX9_rank_3 rfl (fun c => absurd c (by decide)) (fun _ => ?_)
    refine z_iconst (v := 0) dX9_rank_6 (by decide) ?_
    refine z_goto dX9_rank_7 rfl ?_
    refine z_iret dX9_rank_82 ?_
    exact hQ
  · skip
    refine z_iload_n dX9_rank_0 rfl rfl ?_
    refine z_bipush (v := 40) dX9_rank_1 (by decide) ?_
    refine z_icmp_lt dX9_rank_3 rfl (fun c => absurd c (by decide)) (fun _ => ?_)
    refine z_iconst (v := 0) dX9_rank_6 (by decide) ?_
    refine z_goto dX9_rank_7 rfl ?_
    refine z_iret dX9_rank_82 ?_
    exact hQ
  · skip
    refine z_iload_n dX9_rank_0 rfl rfl ?_
    refine z_bipush (v := 40) dX9_rank_1 (by decide) ?_
    refine z_icmp_lt dX9_rank_3 rfl (fun c => absurd c (by decide)) (fun _ => ?_)
    refine z_iconst (v := 0) dX9_rank_6 (by decide) ?_
    refine z_goto dX9_rank_7 rfl ?_
    refine z_iret dX9_rank_82 ?_
    exact hQ
  · skip
    refine z_iload_n dX9_rank_0 rfl rfl ?_
    refine z_bipush (v := 40) dX9_rank_1 (by decide) ?_
    refine z_icmp_lt dX9_rank_3 rfl (fun c => absurd c (by decide)) (fun _ => ?_)
    refine z_iconst (v := 0) dX9_rank_6 (by decide) ?_
    refine z_goto dX9_rank_7 rfl ?_
    refine z_iret dX9_rank_82 ?_
    exact hQ
  · skip
    refine z_iload_n dX9_rank_0 rfl rfl ?_
    refine z_bipush (v := 40) dX9_rank_1 (by decide) ?_
    refine z_icmp_lt dX9_rank_3 rfl (fun c => absurd c (by decide)) (fun _ => ?_)
    refine z_iconst (v := 0) dX9_rank_6 (by decide) ?_
    refine z_goto dX9_rank_7 rfl ?_
    refine z_iret dX9_rank_82 ?_
    exact hQ

theorem r_emit {s : Ms} {t w0 so i op wh : Nat} {ro : List Nat} {c : Cd} {h : Hp} {d o v : Nat} (rp : RP s t w0 so i ro op wh c h) (ht : t < 4) (hw : w0 + c.length ≤ 303) : ∃ h1, Sp d mX9_emit [.ref 488, .int (nI o), .int (nI v)] h none h1 ∧ RP s t w0 so i ro op wh (c ++ [(o, v)]) h1 ∧ FQ h h1 ∧ pI h1 493 = pI h 493 := by
  obtain ⟨tf, hr, em, fr, nt, e12, e13, e14, e16, e17, e18, pil⟩ := rp
  have hm := hr.m
  refine ⟨(sI (sI (sI h 491 (753 * t + 145 + 2 * (w0 + c.length)) (nI o)) 491 (753 * t + 145 + 2 * (w0 + c.length) + 1) (nI v)) 488 13 (nI (w0 + c.length + 1))), ?_, ⟨_, rm_f (rm_t (rm_t hr)) (by omega), em.snoc, fun j hj => ?_, ?_, ?_, ?_, ?_, ?_, ?_, ?_, ?_⟩, ((FQ.rf.c (Or.inl rfl)).c (Or.inl rfl)).f (by omega), by rw [pI_sI_ne (by omega), pI_sI_ne (by omega), pI_sI_ne (by omega)]⟩
  · intro N S Q hN hS hQ
    refine z_aload_n dX9_emit_0 rfl rfl ?_
    refine y_getR FX9_16 dX9_emit_1 rfl hm.o hm.f_texts ?_
    refine z_aload_n dX9_emit_4 rfl rfl ?_
    refine y_getI FX9_144 dX9_emit_5 (Or.inl rfl) hm.o ?_
    refine z_eqi (y := nI (753 * t)) (show _ = nI (753 * t) by first | exact e12 | (rw [pI_sI_ne (by omega)]; exact e12)) ?_
    refine z_sipush (v := 145) dX9_emit_8 (by decide) ?_
    refine z_iadd dX9_emit_11 ?_
    refine z_iconst (v := 2) dX9_emit_12 (by decide) ?_
    refine z_aload_n dX9_emit_13 rfl rfl ?_
    refine y_getI FX9_147 dX9_emit_14 (Or.inl rfl) hm.o ?_
    refine z_eqi (y := nI (w0 + c.length)) (show _ = nI (w0 + c.length) by first | exact e13 | (rw [pI_sI_ne (by omega)]; exact e13) | (rw [pI_sI_ne (by omega), pI_sI_ne (by omega)]; exact e13)) ?_
    refine z_imul dX9_emit_17 ?_
    refine z_iadd dX9_emit_18 ?_
    refine z_iload_n dX9_emit_19 rfl rfl ?_
    refine y_iasN (753 * t + 145 + 2 * (w0 + c.length)) dX9_emit_20 hm.A_texts (Nat.le_of_ble_eq_true rfl) (by first | rfl | (simp only [← nI_add, ← pk_mul]; rfl)) (by omega) ?_
    refine z_aload_n dX9_emit_21 rfl rfl ?_
    refine y_getR FX9_16 dX9_emit_22 rfl hm.o hm.f_texts ?_
    refine z_aload_n dX9_emit_25 rfl rfl ?_
    refine y_getI FX9_144 dX9_emit_26 (Or.inl rfl) hm.o ?_
    refine z_eqi (y := nI (753 * t)) (show _ = nI (753 * t) by first | exact e12 | (rw [pI_sI_ne (by omega)]; exact e12)) ?_
    refine z_sipush (v := 145) dX9_emit_29 (by decide) ?_
    refine z_iadd dX9_emit_32 ?_
    refine z_iconst (v := 2) dX9_emit_33 (by decide) ?_
    refine z_aload_n dX9_emit_34 rfl rfl ?_
    refine y_getI FX9_147 dX9_emit_35 (Or.inl rfl) hm.o ?_
    refine z_eqi (y := nI (w0 + c.length)) (show _ = nI (w0 + c.length) by first | exact e13 | (rw [pI_sI_ne (by omega)]; exact e13) | (rw [pI_sI_ne (by omega), pI_sI_ne (by omega)]; exact e13)) ?_
    refine z_imul dX9_emit_38 ?_
    refine z_iadd dX9_emit_39 ?_
    refine z_iconst (v := 1) dX9_emit_40 (by decide) ?_
    refine z_iadd dX9_emit_41 ?_
    refine z_iload_n dX9_emit_42 rfl rfl ?_
    refine y_iasN (753 * t + 145 + 2 * (w0 + c.length) + 1) dX9_emit_43 hm.A_texts (Nat.le_of_ble_eq_true rfl) (by first | rfl | (simp only [← nI_add, ← pk_mul]; rfl)) (by omega) ?_
    refine z_aload_n dX9_emit_44 rfl rfl ?_
    refine z_dup dX9_emit_45 rfl ?_
    refine y_getI FX9_147 dX9_emit_46 (Or.inl rfl) hm.o ?_
    refine z_eqi (y := nI (w0 + c.length)) (show _ = nI (w0 + c.length) by first | exact e13 | (rw [pI_sI_ne (by omega)]; exact e13) | (rw [pI_sI_ne (by omega), pI_sI_ne (by omega)]; exact e13)) ?_
    refine z_iconst (v := 1) dX9_emit_49 (by decide) ?_
    refine z_iadd dX9_emit_50 ?_
    refine z_eqi (nI_1 _) ?_
    refine y_putI FX9_147 dX9_emit_51 (Or.inl rfl) (Or.inl rfl) hm.o ?_
    refine z_vret dX9_emit_54 ?_
    exact hQ
  · show (if _ then _ else (if _ then _ else _)) = _
    rw [if_neg (by omega), if_neg (by omega)]
    exact fr j hj
  · exact nt.fr (fun j q1 q2 => by rw [pI_sI, if_pos rfl, if_neg (by omega), pI_sI_ne (by omega), pI_sI_ne (by omega)]) rfl
  · rw [pI_sI, if_pos rfl, if_neg (by omega), pI_sI_ne (by omega), pI_sI_ne (by omega)]; exact e12
  · rw [pI_sI, if_pos rfl, if_pos rfl, List.length_append]; rfl
  · rw [pI_sI, if_pos rfl, if_neg (by omega), pI_sI_ne (by omega), pI_sI_ne (by omega)]; exact e14
  · rw [pI_sI, if_pos rfl, if_neg (by omega), pI_sI_ne (by omega), pI_sI_ne (by omega)]; exact e16
  · rw [pI_sI, if_pos rfl, if_neg (by omega), pI_sI_ne (by omega), pI_sI_ne (by omega)]; exact e17
  · rw [pI_sI, if_pos rfl, if_neg (by omega), pI_sI_ne (by omega), pI_sI_ne (by omega)]; exact e18
  · exact PIL.fr (by rw [pI_sI_ne (by omega), pI_sI_ne (by omega), pI_sI_ne (by omega)]) _ pil
theorem RP.fld {s : Ms} {t w0 so i op wh op2 wh2 : Nat} {ro ro2 : List Nat} {c : Cd} {h h1 : Hp} (rp : RP s t w0 so i ro op wh c h) (rm : ∀ tf, RM (wTf s tf) h → RM (wTf s tf) h1) (e : ∀ j, 7 ≤ j → j ≤ 14 → pI h1 488 j = pI h 488 j) (eJ : pJ h1 = pJ h) (e16 : pI h1 488 16 = nI ro2.length) (e17 : pI h1 488 17 = nI op2) (e18 : pI h1 488 18 = nI wh2) (pil : PIL h1 ro2) : RP s t w0 so i ro2 op2 wh2 c h1 := by
  obtain ⟨tf, hr, em, fr, nt, f12, f13, f14, f16, f17, f18, p⟩ := rp
  exact ⟨tf, rm tf hr, em, fr, nt.fr (fun j q1 q2 => e j q1 (by omega)) (by rw [eJ]), by rw [e 12 (by omega) (by omega)]; exact f12, by rw [e 13 (by omega) (by omega)]; exact f13, by rw [e 14 (by omega) (by omega)]; exact f14, e16, e17, e18, pil⟩

def dOp (x : Nat) : Nat := if rk x = 7 ∨ x = 20 then 1 else 0
def stl (l : Nat) : List Nat → Nat → Cd → List Nat × Nat × Cd
  | [], op, c => ([], op, c)
  | x :: r, op, c => if l ≤ rk x then stl l r (op - dOp x) (c ++ [(x, 0)]) else (x :: r, op, c)
/-- how many of a pile are open -/
def nOp : List Nat → Nat
  | [] => 0
  | x :: r => dOp x + nOp r

theorem r_settle {s : Ms} {t w0 so i wh l : Nat} {h : Hp} {d : Nat} (ht : t < 4) (hl : l ≤ 7) (hd : 1 ≤ d) : ∀ (ro : List Nat) (op : Nat) (c : Cd) (h1 : Hp), RP s t w0 so i ro op wh c h1 → FQ h h1 → ro.length ≤ 159 → w0 + c.length + ro.length ≤ 304 → nOp ro ≤ op → op ≤ 100 → ∃ h2, RP s t w0 so i (stl l ro op c).1 (stl l ro op c).2.1 wh (stl l ro op c).2.2 h2 ∧ FQ h h2 ∧ ∀ (N S : Nat) (Q : Option Value → Hp → Prop), pn h ≤ N → ps h ≤ S → Q none h2 → T d N S mX9_settle 0 [some (.ref 488), some (.int (nI l))] [] h1 Q := by
  intro ro
  induction ro with
  | nil =>
    intro op c h1 rp f1 h159 hw ho h100
    obtain ⟨tf, hr, em, fr, nt, e12, e13, e14, e16, e17, e18, pil⟩ := id rp
    have hm := hr.m
    refine ⟨h1, rp, f1, fun N S Q hN hS hQ => ?_⟩
    have e16 : pI h1 488 16 = nI 0 := e16
    refine z_aload_n dX9_settle_0 rfl rfl ?_
    refine y_getI FX9_153 dX9_settle_1 (Or.inl rfl) hm.o ?_
    refine z_eqi (y := nI (0)) e16 ?_
    refine z_if_le dX9_settle_4 rfl (fun _ => ?_) (fun c => absurd (by decide) c)
    refine z_vret dX9_settle_93 ?_
    exact hQ
  | cons x r ih =>
    intro op c h1 rp f1 h159 hw ho h100
    obtain ⟨tf, hr, em, fr, nt, e12, e13, e14, e16, e17, e18, pil⟩ := id rp
    have hm := hr.m
    obtain ⟨px, x44, pr⟩ := id pil
    have hl1 : (x :: r).length = r.length + 1 := rfl
    rw [hl1] at h159 hw e16
    have ho : dOp x + nOp r ≤ op := ho
    have rx := rk_le x
    have hpos : ¬ nI (r.length + 1) ≤ 0 := fun q => absurd ((nI_leI (b := 0) (by omega) (by omega)).mp q) (by omega)
    by_cases hlr : l ≤ rk x
    · have es : stl l (x :: r) op c = stl l r (op - dOp x) (c ++ [(x, 0)]) := if_pos hlr
      rw [es]
      have rp1 : RP s t w0 so i r op wh c (sI h1 488 16 (nI r.length)) := rp.fld (fun tf hr => rm_f hr (by omega)) (fun j q1 q2 => by rw [pI_sI, if_pos rfl, if_neg (by omega)]) rfl (by rw [pI_sI, if_pos rfl, if_pos rfl]) (by rw [pI_sI, if_pos rfl, if_neg (by omega)]; exact e17) (by rw [pI_sI, if_pos rfl, if_neg (by omega)]; exact e18) (PIL.fr (by rw [pI_sI_ne (by omega)]) _ pr)
      obtain ⟨g, m1, m2, m3, m4⟩ := r_emit (d := 0) (o := x) (v := 0) rp1 ht (by omega)
      have f2 : FQ h g := (f1.f (by omega)).tr m3
      have pg : pI g 493 r.length = nI x := by rw [m4, pI_sI_ne (by omega)]; exact px
      obtain ⟨tg, hrg, _, _, _, _, _, _, g16, g17, g18, pilg⟩ := id m2
      have cl : (c ++ [(x, 0)]).length = c.length + 1 := by rw [List.length_append]; rfl
      by_cases h7 : rk x = 7
      · have ed : dOp x = 1 := if_pos (Or.inl h7)
        rw [ed] at ho ⊢
        have rp2 : RP s t w0 so i r (op - 1) wh (c ++ [(x, 0)]) (sI g 488 17 (nI (op - 1))) := m2.fld (fun tf hr => rm_f hr (by omega)) (fun j q1 q2 => by rw [pI_sI, if_pos rfl, if_neg (by omega)]) rfl (by rw [pI_sI, if_pos rfl, if_neg (by omega)]; exact g16) (by rw [pI_sI, if_pos rfl, if_pos rfl]) (by rw [pI_sI, if_pos rfl, if_neg (by omega)]; exact g18) (PIL.fr (by rw [pI_sI_ne (by omega)]) _ pilg)
        obtain ⟨h2, k1, k2, K⟩ := ih (op - 1) (c ++ [(x, 0)]) _ rp2 (f2.f (by omega)) (by omega) (by omega) (by omega) (by omega)
        refine ⟨h2, k1, k2, fun N S Q hN hS hQ => ?_⟩
        have hN1 : pn h1 ≤ N := by rw [f1.1.n]; exact hN
        have hS1 : ps h1 ≤ S := by rw [f1.1.s]; exact hS
        have hN2 : pn g ≤ N := by rw [f2.1.n]; exact hN
        have hS2 : ps g ≤ S := by rw [f2.1.s]; exact hS
        refine z_aload_n dX9_settle_0 rfl rfl ?_
        refine y_getI FX9_153 dX9_settle_1 (Or.inl rfl) hm.o ?_
        refine z_eqi (y := nI (r.length + 1)) e16 ?_
        refine z_if_le dX9_settle_4 rfl (fun c => absurd c (hpos)) (fun _ => ?_)
        refine z_aload_n dX9_settle_7 rfl rfl ?_
        refine y_getR FX9_29 dX9_settle_8 rfl hm.o hm.f_pile ?_
        refine z_aload_n dX9_settle_11 rfl rfl ?_
        refine y_getI FX9_153 dX9_settle_12 (Or.inl rfl) hm.o ?_
        refine z_eqi (y := nI (r.length + 1)) e16 ?_
        refine z_iconst (v := 1) dX9_settle_15 (by decide) ?_
        refine z_isub dX9_settle_16 ?_
        refine z_eqi (nI_pred r.length) ?_
        refine y_ialN (r.length) dX9_settle_17 hm.A_pile (Nat.le_of_ble_eq_true rfl) (rfl) (by omega) ?_
        refine z_eqi px ?_
        refine y_callS (as := [_]) CX9_rank LX9_156 SX9_rank dX9_settle_18 rfl (Nat.le_of_ble_eq_true rfl) (Nat.le_of_ble_eq_true rfl) (by omega) (r_rank (d := 0) (o := x) x44) rok_i ⟨Nat.le_refl _, Nat.le_refl _, hN1, hS1⟩ ?_
        refine z_iload_n dX9_settle_21 rfl rfl ?_
        refine z_icmp_lt dX9_settle_22 rfl (fun c => absurd c (fun q => absurd ((nI_ltI (by omega) (by omega)).mp q) (by omega))) (fun _ => ?_)
        refine z_aload_n dX9_settle_25 rfl rfl ?_
        refine z_dup dX9_settle_26 rfl ?_
        refine y_getI FX9_153 dX9_settle_27 (Or.inl rfl) hm.o ?_
        refine z_eqi (y := nI (r.length + 1)) e16 ?_
        refine z_iconst (v := 1) dX9_settle_30 (by decide) ?_
        refine z_isub dX9_settle_31 ?_
        refine z_eqi (nI_pred r.length) ?_
        refine y_putI FX9_153 dX9_settle_32 (Or.inl rfl) (Or.inl rfl) hm.o ?_
        refine z_aload_n dX9_settle_35 rfl rfl ?_
        refine z_aload_n dX9_settle_36 rfl rfl ?_
        refine y_getR FX9_29 dX9_settle_37 rfl hm.o hm.f_pile ?_
        refine z_aload_n dX9_settle_40 rfl rfl ?_
        refine y_getI FX9_153 dX9_settle_41 (Or.inl rfl) hm.o ?_
        refine z_eqi (y := nI (r.length)) (show _ = nI r.length by rw [pI_sI, if_pos rfl, if_pos rfl]) ?_
        refine y_ialN (r.length) dX9_settle_44 hm.A_pile (Nat.le_of_ble_eq_true rfl) (rfl) (by omega) ?_
        refine z_eqi (show _ = nI x by rw [pI_sI_ne (by omega)]; exact px) ?_
        refine z_iconst (v := 0) dX9_settle_45 (by decide) ?_
        refine y_callV (as := [_, _]) CX9_emit LX9_159 IX9_emit VX9_emit ⟨rfl, Nat.le_of_ble_eq_true rfl⟩ dX9_settle_46 hm.o rfl (Nat.le_of_ble_eq_true rfl) (Nat.le_of_ble_eq_true rfl) (by omega) m1 rok_v (hg_ss m3.1 hN1 hS1) ?_
        refine z_aload_n dX9_settle_49 rfl rfl ?_
        refine y_getR FX9_29 dX9_settle_50 rfl (m3.1.O hm.o) (by first | (rw [m3.1.R]; exact hm.f_pile) | exact (congrFun (congrFun m3.1.R _) _).trans hm.f_pile) ?_
        refine z_aload_n dX9_settle_53 rfl rfl ?_
        refine y_getI FX9_153 dX9_settle_54 (Or.inl rfl) (m3.1.O hm.o) ?_
        refine z_eqi (y := nI (r.length)) g16 ?_
        refine y_ialN (r.length) dX9_settle_57 (m3.1.A hm.A_pile) (Nat.le_of_ble_eq_true rfl) (rfl) (by omega) ?_
        refine z_eqi pg ?_
        refine y_callS (as := [_]) CX9_rank LX9_156 SX9_rank dX9_settle_58 rfl (Nat.le_of_ble_eq_true rfl) (Nat.le_of_ble_eq_true rfl) (by omega) (r_rank (d := 0) (o := x) x44) rok_i ⟨Nat.le_refl _, Nat.le_refl _, hN2, hS2⟩ ?_
        refine z_bipush (v := 7) dX9_settle_61 (by decide) ?_
        refine z_icmp_eq dX9_settle_63 rfl (fun _ => ?_) (fun c => absurd (congrArg nI h7) c)
        refine z_aload_n dX9_settle_80 rfl rfl ?_
        refine z_dup dX9_settle_81 rfl ?_
        refine y_getI FX9_163 dX9_settle_82 (Or.inl rfl) (m3.1.O hm.o) ?_
        refine z_eqi (y := nI (op)) g17 ?_
        refine z_iconst (v := 1) dX9_settle_85 (by decide) ?_
        refine z_isub dX9_settle_86 ?_
        refine z_eqi (show _ = nI (op - 1) from pk_sub (a := op) (b := 1) (by omega)) ?_
        refine y_putI FX9_163 dX9_settle_87 (Or.inl rfl) (Or.inl rfl) (m3.1.O hm.o) ?_
        refine z_goto dX9_settle_90 rfl ?_
        exact K N S Q hN hS hQ
      · by_cases h20 : x = 20
        · have ed : dOp x = 1 := if_pos (Or.inr h20)
          rw [ed] at ho ⊢
          have rp2 : RP s t w0 so i r (op - 1) wh (c ++ [(x, 0)]) (sI g 488 17 (nI (op - 1))) := m2.fld (fun tf hr => rm_f hr (by omega)) (fun j q1 q2 => by rw [pI_sI, if_pos rfl, if_neg (by omega)]) rfl (by rw [pI_sI, if_pos rfl, if_neg (by omega)]; exact g16) (by rw [pI_sI, if_pos rfl, if_pos rfl]) (by rw [pI_sI, if_pos rfl, if_neg (by omega)]; exact g18) (PIL.fr (by rw [pI_sI_ne (by omega)]) _ pilg)
          obtain ⟨h2, k1, k2, K⟩ := ih (op - 1) (c ++ [(x, 0)]) _ rp2 (f2.f (by omega)) (by omega) (by omega) (by omega) (by omega)
          refine ⟨h2, k1, k2, fun N S Q hN hS hQ => ?_⟩
          have hN1 : pn h1 ≤ N := by rw [f1.1.n]; exact hN
          have hS1 : ps h1 ≤ S := by rw [f1.1.s]; exact hS
          have hN2 : pn g ≤ N := by rw [f2.1.n]; exact hN
          have hS2 : ps g ≤ S := by rw [f2.1.s]; exact hS
          refine z_aload_n dX9_settle_0 rfl rfl ?_
          refine y_getI FX9_153 dX9_settle_1 (Or.inl rfl) hm.o ?_
          refine z_eqi (y := nI (r.length + 1)) e16 ?_
          refine z_if_le dX9_settle_4 rfl (fun c => absurd c (hpos)) (fun _ => ?_)
          refine z_aload_n dX9_settle_7 rfl rfl ?_
          refine y_getR FX9_29 dX9_settle_8 rfl hm.o hm.f_pile ?_
          refine z_aload_n dX9_settle_11 rfl rfl ?_
          refine y_getI FX9_153 dX9_settle_12 (Or.inl rfl) hm.o ?_
          refine z_eqi (y := nI (r.length + 1)) e16 ?_
          refine z_iconst (v := 1) dX9_settle_15 (by decide) ?_
          refine z_isub dX9_settle_16 ?_
          refine z_eqi (nI_pred r.length) ?_
          refine y_ialN (r.length) dX9_settle_17 hm.A_pile (Nat.le_of_ble_eq_true rfl) (rfl) (by omega) ?_
          refine z_eqi px ?_
          refine y_callS (as := [_]) CX9_rank LX9_156 SX9_rank dX9_settle_18 rfl (Nat.le_of_ble_eq_true rfl) (Nat.le_of_ble_eq_true rfl) (by omega) (r_rank (d := 0) (o := x) x44) rok_i ⟨Nat.le_refl _, Nat.le_refl _, hN1, hS1⟩ ?_
          refine z_iload_n dX9_settle_21 rfl rfl ?_
          refine z_icmp_lt dX9_settle_22 rfl (fun c => absurd c (fun q => absurd ((nI_ltI (by omega) (by omega)).mp q) (by omega))) (fun _ => ?_)
          refine z_aload_n dX9_settle_25 rfl rfl ?_
          refine z_dup dX9_settle_26 rfl ?_
          refine y_getI FX9_153 dX9_settle_27 (Or.inl rfl) hm.o ?_
          refine z_eqi (y := nI (r.length + 1)) e16 ?_
          refine z_iconst (v := 1) dX9_settle_30 (by decide) ?_
          refine z_isub dX9_settle_31 ?_
          refine z_eqi (nI_pred r.length) ?_
          refine y_putI FX9_153 dX9_settle_32 (Or.inl rfl) (Or.inl rfl) hm.o ?_
          refine z_aload_n dX9_settle_35 rfl rfl ?_
          refine z_aload_n dX9_settle_36 rfl rfl ?_
          refine y_getR FX9_29 dX9_settle_37 rfl hm.o hm.f_pile ?_
          refine z_aload_n dX9_settle_40 rfl rfl ?_
          refine y_getI FX9_153 dX9_settle_41 (Or.inl rfl) hm.o ?_
          refine z_eqi (y := nI (r.length)) (show _ = nI r.length by rw [pI_sI, if_pos rfl, if_pos rfl]) ?_
          refine y_ialN (r.length) dX9_settle_44 hm.A_pile (Nat.le_of_ble_eq_true rfl) (rfl) (by omega) ?_
          refine z_eqi (show _ = nI x by rw [pI_sI_ne (by omega)]; exact px) ?_
          refine z_iconst (v := 0) dX9_settle_45 (by decide) ?_
          refine y_callV (as := [_, _]) CX9_emit LX9_159 IX9_emit VX9_emit ⟨rfl, Nat.le_of_ble_eq_true rfl⟩ dX9_settle_46 hm.o rfl (Nat.le_of_ble_eq_true rfl) (Nat.le_of_ble_eq_true rfl) (by omega) m1 rok_v (hg_ss m3.1 hN1 hS1) ?_
          refine z_aload_n dX9_settle_49 rfl rfl ?_
          refine y_getR FX9_29 dX9_settle_50 rfl (m3.1.O hm.o) (by first | (rw [m3.1.R]; exact hm.f_pile) | exact (congrFun (congrFun m3.1.R _) _).trans hm.f_pile) ?_
          refine z_aload_n dX9_settle_53 rfl rfl ?_
          refine y_getI FX9_153 dX9_settle_54 (Or.inl rfl) (m3.1.O hm.o) ?_
          refine z_eqi (y := nI (r.length)) g16 ?_
          refine y_ialN (r.length) dX9_settle_57 (m3.1.A hm.A_pile) (Nat.le_of_ble_eq_true rfl) (rfl) (by omega) ?_
          refine z_eqi pg ?_
          refine y_callS (as := [_]) CX9_rank LX9_156 SX9_rank dX9_settle_58 rfl (Nat.le_of_ble_eq_true rfl) (Nat.le_of_ble_eq_true rfl) (by omega) (r_rank (d := 0) (o := x) x44) rok_i ⟨Nat.le_refl _, Nat.le_refl _, hN2, hS2⟩ ?_
          refine z_bipush (v := 7) dX9_settle_61 (by decide) ?_
          refine z_icmp_eq dX9_settle_63 rfl (fun c => absurd c (fun q => h7 ((nI_eq (b := 7) (by omega) (by omega)).mp q))) (fun _ => ?_)
          refine z_aload_n dX9_settle_66 rfl rfl ?_
          refine y_getR FX9_29 dX9_settle_67 rfl (m3.1.O hm.o) (by first | (rw [m3.1.R]; exact hm.f_pile) | exact (congrFun (congrFun m3.1.R _) _).trans hm.f_pile) ?_
          refine z_aload_n dX9_settle_70 rfl rfl ?_
          refine y_getI FX9_153 dX9_settle_71 (Or.inl rfl) (m3.1.O hm.o) ?_
          refine z_eqi (y := nI (r.length)) g16 ?_
          refine y_ialN (r.length) dX9_settle_74 (m3.1.A hm.A_pile) (Nat.le_of_ble_eq_true rfl) (rfl) (by omega) ?_
          refine z_eqi pg ?_
          refine z_bipush (v := 20) dX9_settle_75 (by decide) ?_
          refine z_icmp_ne dX9_settle_77 rfl (fun c => absurd (congrArg nI h20) c) (fun _ => ?_)
          refine z_aload_n dX9_settle_80 rfl rfl ?_
          refine z_dup dX9_settle_81 rfl ?_
          refine y_getI FX9_163 dX9_settle_82 (Or.inl rfl) (m3.1.O hm.o) ?_
          refine z_eqi (y := nI (op)) g17 ?_
          refine z_iconst (v := 1) dX9_settle_85 (by decide) ?_
          refine z_isub dX9_settle_86 ?_
          refine z_eqi (show _ = nI (op - 1) from pk_sub (a := op) (b := 1) (by omega)) ?_
          refine y_putI FX9_163 dX9_settle_87 (Or.inl rfl) (Or.inl rfl) (m3.1.O hm.o) ?_
          refine z_goto dX9_settle_90 rfl ?_
          exact K N S Q hN hS hQ
        · have ed : dOp x = 0 := if_neg (fun q => by rcases q with q | q; exact h7 q; exact h20 q)
          rw [ed] at ho ⊢
          obtain ⟨h2, k1, k2, K⟩ := ih (op - 0) (c ++ [(x, 0)]) g m2 f2 (by omega) (by omega) (by omega) (by omega)
          refine ⟨h2, k1, k2, fun N S Q hN hS hQ => ?_⟩
          have hN1 : pn h1 ≤ N := by rw [f1.1.n]; exact hN
          have hS1 : ps h1 ≤ S := by rw [f1.1.s]; exact hS
          have hN2 : pn g ≤ N := by rw [f2.1.n]; exact hN
          have hS2 : ps g ≤ S := by rw [f2.1.s]; exact hS
          refine z_aload_n dX9_settle_0 rfl rfl ?_
          refine y_getI FX9_153 dX9_settle_1 (Or.inl rfl) hm.o ?_
          refine z_eqi (y := nI (r.length + 1)) e16 ?_
          refine z_if_le dX9_settle_4 rfl (fun c => absurd c (hpos)) (fun _ => ?_)
          refine z_aload_n dX9_settle_7 rfl rfl ?_
          refine y_getR FX9_29 dX9_settle_8 rfl hm.o hm.f_pile ?_
          refine z_aload_n dX9_settle_11 rfl rfl ?_
          refine y_getI FX9_153 dX9_settle_12 (Or.inl rfl) hm.o ?_
          refine z_eqi (y := nI (r.length + 1)) e16 ?_
          refine z_iconst (v := 1) dX9_settle_15 (by decide) ?_
          refine z_isub dX9_settle_16 ?_
          refine z_eqi (nI_pred r.length) ?_
          refine y_ialN (r.length) dX9_settle_17 hm.A_pile (Nat.le_of_ble_eq_true rfl) (rfl) (by omega) ?_
          refine z_eqi px ?_
          refine y_callS (as := [_]) CX9_rank LX9_156 SX9_rank dX9_settle_18 rfl (Nat.le_of_ble_eq_true rfl) (Nat.le_of_ble_eq_true rfl) (by omega) (r_rank (d := 0) (o := x) x44) rok_i ⟨Nat.le_refl _, Nat.le_refl _, hN1, hS1⟩ ?_
          refine z_iload_n dX9_settle_21 rfl rfl ?_
          refine z_icmp_lt dX9_settle_22 rfl (fun c => absurd c (fun q => absurd ((nI_ltI (by omega) (by omega)).mp q) (by omega))) (fun _ => ?_)
          refine z_aload_n dX9_settle_25 rfl rfl ?_
          refine z_dup dX9_settle_26 rfl ?_
          refine y_getI FX9_153 dX9_settle_27 (Or.inl rfl) hm.o ?_
          refine z_eqi (y := nI (r.length + 1)) e16 ?_
          refine z_iconst (v := 1) dX9_settle_30 (by decide) ?_
          refine z_isub dX9_settle_31 ?_
          refine z_eqi (nI_pred r.length) ?_
          refine y_putI FX9_153 dX9_settle_32 (Or.inl rfl) (Or.inl rfl) hm.o ?_
          refine z_aload_n dX9_settle_35 rfl rfl ?_
          refine z_aload_n dX9_settle_36 rfl rfl ?_
          refine y_getR FX9_29 dX9_settle_37 rfl hm.o hm.f_pile ?_
          refine z_aload_n dX9_settle_40 rfl rfl ?_
          refine y_getI FX9_153 dX9_settle_41 (Or.inl rfl) hm.o ?_
          refine z_eqi (y := nI (r.length)) (show _ = nI r.length by rw [pI_sI, if_pos rfl, if_pos rfl]) ?_
          refine y_ialN (r.length) dX9_settle_44 hm.A_pile (Nat.le_of_ble_eq_true rfl) (rfl) (by omega) ?_
          refine z_eqi (show _ = nI x by rw [pI_sI_ne (by omega)]; exact px) ?_
          refine z_iconst (v := 0) dX9_settle_45 (by decide) ?_
          refine y_callV (as := [_, _]) CX9_emit LX9_159 IX9_emit VX9_emit ⟨rfl, Nat.le_of_ble_eq_true rfl⟩ dX9_settle_46 hm.o rfl (Nat.le_of_ble_eq_true rfl) (Nat.le_of_ble_eq_true rfl) (by omega) m1 rok_v (hg_ss m3.1 hN1 hS1) ?_
          refine z_aload_n dX9_settle_49 rfl rfl ?_
          refine y_getR FX9_29 dX9_settle_50 rfl (m3.1.O hm.o) (by first | (rw [m3.1.R]; exact hm.f_pile) | exact (congrFun (congrFun m3.1.R _) _).trans hm.f_pile) ?_
          refine z_aload_n dX9_settle_53 rfl rfl ?_
          refine y_getI FX9_153 dX9_settle_54 (Or.inl rfl) (m3.1.O hm.o) ?_
          refine z_eqi (y := nI (r.length)) g16 ?_
          refine y_ialN (r.length) dX9_settle_57 (m3.1.A hm.A_pile) (Nat.le_of_ble_eq_true rfl) (rfl) (by omega) ?_
          refine z_eqi pg ?_
          refine y_callS (as := [_]) CX9_rank LX9_156 SX9_rank dX9_settle_58 rfl (Nat.le_of_ble_eq_true rfl) (Nat.le_of_ble_eq_true rfl) (by omega) (r_rank (d := 0) (o := x) x44) rok_i ⟨Nat.le_refl _, Nat.le_refl _, hN2, hS2⟩ ?_
          refine z_bipush (v := 7) dX9_settle_61 (by decide) ?_
          refine z_icmp_eq dX9_settle_63 rfl (fun c => absurd c (fun q => h7 ((nI_eq (b := 7) (by omega) (by omega)).mp q))) (fun _ => ?_)
          refine z_aload_n dX9_settle_66 rfl rfl ?_
          refine y_getR FX9_29 dX9_settle_67 rfl (m3.1.O hm.o) (by first | (rw [m3.1.R]; exact hm.f_pile) | exact (congrFun (congrFun m3.1.R _) _).trans hm.f_pile) ?_
          refine z_aload_n dX9_settle_70 rfl rfl ?_
          refine y_getI FX9_153 dX9_settle_71 (Or.inl rfl) (m3.1.O hm.o) ?_
          refine z_eqi (y := nI (r.length)) g16 ?_
          refine y_ialN (r.length) dX9_settle_74 (m3.1.A hm.A_pile) (Nat.le_of_ble_eq_true rfl) (rfl) (by omega) ?_
          refine z_eqi pg ?_
          refine z_bipush (v := 20) dX9_settle_75 (by decide) ?_
          refine z_icmp_ne dX9_settle_77 rfl (fun _ => ?_) (fun c => absurd c (fun q => h20 ((nI_eq (b := 20) (by omega) (by omega)).mp q)))
          exact K N S Q hN hS hQ
    · have es : stl l (x :: r) op c = (x :: r, op, c) := if_neg hlr
      rw [es]
      refine ⟨h1, rp, f1, fun N S Q hN hS hQ => ?_⟩
      have hN1 : pn h1 ≤ N := by rw [f1.1.n]; exact hN
      have hS1 : ps h1 ≤ S := by rw [f1.1.s]; exact hS
      refine z_aload_n dX9_settle_0 rfl rfl ?_
      refine y_getI FX9_153 dX9_settle_1 (Or.inl rfl) hm.o ?_
      refine z_eqi (y := nI (r.length + 1)) e16 ?_
      refine z_if_le dX9_settle_4 rfl (fun c => absurd c (hpos)) (fun _ => ?_)
      refine z_aload_n dX9_settle_7 rfl rfl ?_
      refine y_getR FX9_29 dX9_settle_8 rfl hm.o hm.f_pile ?_
      refine z_aload_n dX9_settle_11 rfl rfl ?_
      refine y_getI FX9_153 dX9_settle_12 (Or.inl rfl) hm.o ?_
      refine z_eqi (y := nI (r.length + 1)) e16 ?_
      refine z_iconst (v := 1) dX9_settle_15 (by decide) ?_
      refine z_isub dX9_settle_16 ?_
      refine z_eqi (nI_pred r.length) ?_
      refine y_ialN (r.length) dX9_settle_17 hm.A_pile (Nat.le_of_ble_eq_true rfl) (rfl) (by omega) ?_
      refine z_eqi px ?_
      refine y_callS (as := [_]) CX9_rank LX9_156 SX9_rank dX9_settle_18 rfl (Nat.le_of_ble_eq_true rfl) (Nat.le_of_ble_eq_true rfl) (by omega) (r_rank (d := 0) (o := x) x44) rok_i ⟨Nat.le_refl _, Nat.le_refl _, hN1, hS1⟩ ?_
      refine z_iload_n dX9_settle_21 rfl rfl ?_
      refine z_icmp_lt dX9_settle_22 rfl (fun _ => ?_) (fun c => absurd ((nI_ltI (by omega) (by omega)).mpr (by omega)) c)
      refine z_vret dX9_settle_93 ?_
      exact hQ

