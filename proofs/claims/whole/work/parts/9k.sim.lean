/-! the reference goes along the descent: all but one (wip/whole/gen9k.py) -/
def wN (s : Ms) (i : Nat) : Nat := nmR (TPs s) (tP (TPs s) (TNs s) i) (tkE (TPs s) (TNs s) (tP (TPs s) (TNs s) i) - tP (TPs s) (TNs s) i)
abbrev rdK (s : Ms) (so f tag op i : Nat) (c : Cd) : RO := rd (tK (TPs s) (TNs s)) (wN s) so f tag op i c
def CXr (h0 : Hp) (d N S : Nat) (s : Ms) (t so n : Nat) : Prop := ITp s ∧ t < 4 ∧ pn h0 ≤ N ∧ ps h0 ≤ S ∧ 6 ≤ d ∧ (∀ j, (tK (TPs s) (TNs s)) j < 53 → j < n) ∧ n ≤ 300 ∧ so ≤ 9
def BD (w0 n : Nat) (ro : List Nat) (op i : Nat) (c : Cd) : Prop := w0 + c.length + ro.length ≤ i ∧ i ≤ n ∧ nOp ro ≤ op ∧ op ≤ 8
def FLZ (h0 : Hp) (Q : Option Value → Hp → Prop) (s : Ms) (t w0 so z j : Nat) : Prop := z ≠ 0 → FLT h0 Q s t w0 so z j
theorem rd_f {s : Ms} {so n f tag op i z j : Nat} {c e : Cd} (hK : ∀ j, (tK (TPs s) (TNs s)) j < 53 → j < n) (ht : tag ≤ 10) (hi : i ≤ n) (hp : PRE tag ((tK (TPs s) (TNs s)) i)) (h : rdK s so f tag op i c = some (z, j, e)) : j ≤ n ∧ i ≤ j ∧ e.length + i ≤ c.length + j ∧ (z = 0 → STP tag ((tK (TPs s) (TNs s)) j)) := rd_fact hK f tag op i c ht hi hp z j e h
theorem BD.up {w0 n op i j : Nat} {ro : List Nat} {c e : Cd} (b : BD w0 n ro op i c) (h1 : j ≤ n) (h2 : e.length + i ≤ c.length + j) : BD w0 n ro op j e := ⟨by have := b.1; omega, h1, b.2.2⟩
theorem BD.o {w0 n op i o : Nat} {ro : List Nat} {c : Cd} (b : BD w0 n ro op i c) (hi : i < n) (hd : dOp o = 0) : BD w0 n (o :: ro) op (i + 1) c := ⟨by have := b.1; show w0 + c.length + (ro.length + 1) ≤ i + 1; omega, hi, by show dOp o + nOp ro ≤ op; have := b.2.2.1; omega, b.2.2.2⟩
theorem dOp_le (x : Nat) : dOp x ≤ 1 := by
  unfold dOp
  split <;> omega
theorem BD.x {w0 n op i x : Nat} {ro : List Nat} {c : Cd} (b : BD w0 n ro op i c) (hi : i < n) (h8 : op < 8) : BD w0 n (x :: ro) (op + 1) (i + 1) c := ⟨by have := b.1; show w0 + c.length + (ro.length + 1) ≤ i + 1; omega, hi, by show dOp x + nOp ro ≤ op + 1; have := b.2.2.1; have := dOp_le x; omega, by omega⟩
theorem nask {x : Nat} {r : List Nat} (h : x < 40) (h4 : 4 ≤ rk x) : ¬ askP (x :: r) := fun q => by
  have q : opV (x :: r) = 42 ∧ (40 ≤ x ∨ (1 ≤ rk x ∧ rk x ≤ 3)) := q
  omega
theorem cpd_lo {x : Nat} {r : List Nat} (h : rk x < 4) : cpd (x :: r) = false := by
  show (if 4 < rk x then cpd r else rk x == 4) = false
  rw [if_neg (by omega)]
  exact beq_false_of_ne (by omega)
theorem lg_step {h0 : Hp} {d N S : Nat} {Q : Option Value → Hp → Prop} {s : Ms} {t w0 so n : Nat} {l o i op : Nat} {ro : List Nat} {c : Cd} (cx : CXr h0 d N S s t so n) (bd : BD w0 n ro op i c) (h : tpl l ro) (hb : ∀ p, (∀ x ∈ p, l ≤ rk x ∧ rk x ≤ 6) → (l ≤ 4 → cpd (p ++ ro) = true) → btw ((tK (TPs s) (TNs s)) i) (p ++ ro) = nI o) (h44 : o ≤ 44) (hlo : rk o = 4 ∧ l = 5 ∨ ¬ rk o = 4 ∧ l = rk o) (hl : ro.length ≤ 60) (k : GO h0 d N S Q s t w0 so (i + 1) (o :: ro) op 0 c) : LG h0 d N S Q s t w0 so l i ro op c := by
  obtain ⟨ht, ht4, hN, hS, hd, hK, n3, _⟩ := cx
  obtain ⟨b1, b2, b3, b4⟩ := bd
  intro p c' h1 h2 h3 h4 h5
  have el : (p ++ ro).length = p.length + ro.length := List.length_append ..
  have ec : c'.length + p.length = c.length := by rw [← h5, List.length_append, List.length_map]
  exact go_o ht (hb p h1 h2) h44 hlo (by rw [stl_lag h p c' h1, h5]) (by omega) ht4 (by omega) (by omega) (by rw [nOp_app]; omega) (by omega) hN hS hd k

def A0 (h0 : Hp) (d N S : Nat) (Q : Option Value → Hp → Prop) (s : Ms) (t w0 so n : Nat) (f : Nat) : Prop := ∀ (ro : List Nat) (op i : Nat) (c : Cd) (z j : Nat) (e : Cd), BD w0 n ro op i c → ro.length ≤ 6 * op + 5 → ((tK (TPs s) (TNs s)) i = 29 → ¬ askP ro) → rdK s so f 0 op i c = some (z, j, e) → FLZ h0 Q s t w0 so z j → (z = 0 → GX h0 d N S Q s t w0 so j (stl 7 ro op e)) → GO h0 d N S Q s t w0 so i ro op 0 c

def A1 (h0 : Hp) (d N S : Nat) (Q : Option Value → Hp → Prop) (s : Ms) (t w0 so n : Nat) (f : Nat) : Prop := ∀ (ro : List Nat) (op i : Nat) (c : Cd) (z j : Nat) (e : Cd), BD w0 n ro op i c → ro.length ≤ 6 * op + 4 → tpl 6 ro → tpn ro → ((tK (TPs s) (TNs s)) i = 29 → ¬ askP ro) → rdK s so f 1 op i c = some (z, j, e) → FLZ h0 Q s t w0 so z j → (z = 0 → LG h0 d N S Q s t w0 so 6 j ro op e) → GO h0 d N S Q s t w0 so i ro op 0 c

def A2 (h0 : Hp) (d N S : Nat) (Q : Option Value → Hp → Prop) (s : Ms) (t w0 so n : Nat) (f : Nat) : Prop := ∀ (ro : List Nat) (op i : Nat) (c : Cd) (z j : Nat) (e : Cd), BD w0 n ro op i c → ro.length ≤ 6 * op + 4 → tpl 6 ro → tpn ro → rdK s so f 2 op i c = some (z, j, e) → FLZ h0 Q s t w0 so z j → (z = 0 → LG h0 d N S Q s t w0 so 6 j ro op e) → LG h0 d N S Q s t w0 so 6 i ro op c

def A3 (h0 : Hp) (d N S : Nat) (Q : Option Value → Hp → Prop) (s : Ms) (t w0 so n : Nat) (f : Nat) : Prop := ∀ (ro : List Nat) (op i : Nat) (c : Cd) (z j : Nat) (e : Cd), BD w0 n ro op i c → ro.length ≤ 6 * op + 3 → tpl 5 ro → tpn ro → ((tK (TPs s) (TNs s)) i = 29 → ¬ askP ro) → rdK s so f 3 op i c = some (z, j, e) → FLZ h0 Q s t w0 so z j → (z = 0 → LG h0 d N S Q s t w0 so 5 j ro op e) → GO h0 d N S Q s t w0 so i ro op 0 c

def A4 (h0 : Hp) (d N S : Nat) (Q : Option Value → Hp → Prop) (s : Ms) (t w0 so n : Nat) (f : Nat) : Prop := ∀ (ro : List Nat) (op i : Nat) (c : Cd) (z j : Nat) (e : Cd), BD w0 n ro op i c → ro.length ≤ 6 * op + 3 → tpl 5 ro → tpn ro → STP 1 ((tK (TPs s) (TNs s)) i) → rdK s so f 4 op i c = some (z, j, e) → FLZ h0 Q s t w0 so z j → (z = 0 → LG h0 d N S Q s t w0 so 5 j ro op e) → LG h0 d N S Q s t w0 so 5 i ro op c

def A5 (h0 : Hp) (d N S : Nat) (Q : Option Value → Hp → Prop) (s : Ms) (t w0 so n : Nat) (f : Nat) : Prop := ∀ (ro : List Nat) (op i : Nat) (c : Cd) (z j : Nat) (e : Cd), BD w0 n ro op i c → ro.length ≤ 6 * op + 2 → tpl 4 ro → tpn ro → askP ro → ¬ (tK (TPs s) (TNs s)) i = 29 → rdK s so f 5 op i c = some (z, j, e) → FLZ h0 Q s t w0 so z j → (z = 0 → LG h0 d N S Q s t w0 so 4 j ro op e) → GO h0 d N S Q s t w0 so i ro op 0 c

def A6 (h0 : Hp) (d N S : Nat) (Q : Option Value → Hp → Prop) (s : Ms) (t w0 so n : Nat) (f : Nat) : Prop := ∀ (ro : List Nat) (op i : Nat) (c : Cd) (z j : Nat) (e : Cd), BD w0 n ro op i c → ro.length ≤ 6 * op + 2 → tpl 4 ro → tpn ro → askP ro → rdK s so f 6 op i c = some (z, j, e) → FLZ h0 Q s t w0 so z j → (z = 0 → LG h0 d N S Q s t w0 so 3 j ro op e) → GO h0 d N S Q s t w0 so i ro op 0 c

def A7 (h0 : Hp) (d N S : Nat) (Q : Option Value → Hp → Prop) (s : Ms) (t w0 so n : Nat) (f : Nat) : Prop := ∀ (ro : List Nat) (op i : Nat) (c : Cd) (z j : Nat) (e : Cd), BD w0 n ro op i c → ro.length ≤ 6 * op + 1 → tpl 2 ro → tpn ro → askP ro → rdK s so f 7 op i c = some (z, j, e) → FLZ h0 Q s t w0 so z j → (z = 0 → LG h0 d N S Q s t w0 so 2 j ro op e) → GO h0 d N S Q s t w0 so i ro op 0 c

def A8 (h0 : Hp) (d N S : Nat) (Q : Option Value → Hp → Prop) (s : Ms) (t w0 so n : Nat) (f : Nat) : Prop := ∀ (ro : List Nat) (op i : Nat) (c : Cd) (z j : Nat) (e : Cd), BD w0 n ro op i c → ro.length ≤ 6 * op + 1 → tpl 2 ro → tpn ro → askP ro → STP 6 ((tK (TPs s) (TNs s)) i) → rdK s so f 8 op i c = some (z, j, e) → FLZ h0 Q s t w0 so z j → (z = 0 → LG h0 d N S Q s t w0 so 2 j ro op e) → LG h0 d N S Q s t w0 so 2 i ro op c

def A9 (h0 : Hp) (d N S : Nat) (Q : Option Value → Hp → Prop) (s : Ms) (t w0 so n : Nat) (f : Nat) : Prop := ∀ (ro : List Nat) (op i : Nat) (c : Cd) (z j : Nat) (e : Cd), BD w0 n ro op i c → ro.length ≤ 6 * op → tpl 1 ro → tpn ro → askP ro → rdK s so f 9 op i c = some (z, j, e) → FLZ h0 Q s t w0 so z j → (z = 0 → LG h0 d N S Q s t w0 so 1 j ro op e) → GO h0 d N S Q s t w0 so i ro op 0 c

def A10 (h0 : Hp) (d N S : Nat) (Q : Option Value → Hp → Prop) (s : Ms) (t w0 so n : Nat) (f : Nat) : Prop := ∀ (ro : List Nat) (op i : Nat) (c : Cd) (z j : Nat) (e : Cd), BD w0 n ro op i c → ro.length ≤ 6 * op → tpl 1 ro → tpn ro → askP ro → STP 7 ((tK (TPs s) (TNs s)) i) → rdK s so f 10 op i c = some (z, j, e) → FLZ h0 Q s t w0 so z j → (z = 0 → LG h0 d N S Q s t w0 so 1 j ro op e) → LG h0 d N S Q s t w0 so 1 i ro op c

theorem tpl_up {l l' : Nat} {ro : List Nat} (hl : l ≤ l') (h : tpl l ro) : tpl l' ro := by
  cases ro with
  | nil => exact True.intro
  | cons x r => have h : rk x < l := h
                show rk x < l'
                omega
theorem s_1 {h0 : Hp} {d N S : Nat} {Q : Option Value → Hp → Prop} {s : Ms} {t w0 so n : Nat} {f : Nat} (cx : CXr h0 d N S s t so n) (a0 : A0 h0 d N S Q s t w0 so n f) (a2 : A2 h0 d N S Q s t w0 so n f) : A1 h0 d N S Q s t w0 so n (f + 1) := by
  intro ro op i c z j e bd hl h6 hn ha hr hf hp
  obtain ⟨z1, j1, e1, r1, q⟩ := bnd_some (show bnd (rdK s so f 0 op i c) (rdK s so f 2 op) = some (z, j, e) from hr)
  obtain ⟨f1, f2, f3, f4⟩ := rd_f cx.2.2.2.2.2.1 (by omega) bd.2.1 (pre_t (by omega)) r1
  rcases q with ⟨q0, q⟩ | ⟨q0, q⟩
  · exact a0 ro op i c z1 j1 e1 bd (by omega) ha r1 (fun w => absurd q0 w) (fun _ => gx_top (tpl_up (by omega) h6) hn (lg_nil (l := 6) (by omega) (by omega) bd.2.2.2 (a2 ro op j1 e1 z j e (bd.up f1 f3) hl h6 hn q hf hp)))
  · cases q
    exact a0 ro op i c z j e bd (by omega) ha r1 hf (fun w => absurd w q0)
theorem s_3 {h0 : Hp} {d N S : Nat} {Q : Option Value → Hp → Prop} {s : Ms} {t w0 so n : Nat} {f : Nat} (cx : CXr h0 d N S s t so n) (a1 : A1 h0 d N S Q s t w0 so n f) (a4 : A4 h0 d N S Q s t w0 so n f) : A3 h0 d N S Q s t w0 so n (f + 1) := by
  intro ro op i c z j e bd hl h5 hn ha hr hf hp
  obtain ⟨z1, j1, e1, r1, q⟩ := bnd_some (show bnd (rdK s so f 1 op i c) (rdK s so f 4 op) = some (z, j, e) from hr)
  obtain ⟨f1, f2, f3, f4⟩ := rd_f cx.2.2.2.2.2.1 (by omega) bd.2.1 (pre_t (by omega)) r1
  rcases q with ⟨q0, q⟩ | ⟨q0, q⟩
  · exact a1 ro op i c z1 j1 e1 bd (by omega) (tpl_up (by omega) h5) hn ha r1 (fun w => absurd q0 w) (fun _ => lg_mono (l := 5) (by omega) (by omega) (a4 ro op j1 e1 z j e (bd.up f1 f3) hl h5 hn (f4 q0) q hf hp))
  · cases q
    exact a1 ro op i c z j e bd (by omega) (tpl_up (by omega) h5) hn ha r1 hf (fun w => absurd w q0)
theorem s_7 {h0 : Hp} {d N S : Nat} {Q : Option Value → Hp → Prop} {s : Ms} {t w0 so n : Nat} {f : Nat} (cx : CXr h0 d N S s t so n) (a6 : A6 h0 d N S Q s t w0 so n f) (a8 : A8 h0 d N S Q s t w0 so n f) : A7 h0 d N S Q s t w0 so n (f + 1) := by
  intro ro op i c z j e bd hl h2 hn ha hr hf hp
  obtain ⟨z1, j1, e1, r1, q⟩ := bnd_some (show bnd (rdK s so f 6 op i c) (rdK s so f 8 op) = some (z, j, e) from hr)
  obtain ⟨f1, f2, f3, f4⟩ := rd_f cx.2.2.2.2.2.1 (by omega) bd.2.1 (pre_t (by omega)) r1
  rcases q with ⟨q0, q⟩ | ⟨q0, q⟩
  · exact a6 ro op i c z1 j1 e1 bd (by omega) (tpl_up (by omega) h2) hn ha r1 (fun w => absurd q0 w) (fun _ => lg_mono (l := 2) (by omega) (by omega) (a8 ro op j1 e1 z j e (bd.up f1 f3) hl h2 hn ha (f4 q0) q hf hp))
  · cases q
    exact a6 ro op i c z j e bd (by omega) (tpl_up (by omega) h2) hn ha r1 hf (fun w => absurd w q0)
theorem s_9 {h0 : Hp} {d N S : Nat} {Q : Option Value → Hp → Prop} {s : Ms} {t w0 so n : Nat} {f : Nat} (cx : CXr h0 d N S s t so n) (a7 : A7 h0 d N S Q s t w0 so n f) (a10 : A10 h0 d N S Q s t w0 so n f) : A9 h0 d N S Q s t w0 so n (f + 1) := by
  intro ro op i c z j e bd hl h1 hn ha hr hf hp
  obtain ⟨z1, j1, e1, r1, q⟩ := bnd_some (show bnd (rdK s so f 7 op i c) (rdK s so f 10 op) = some (z, j, e) from hr)
  obtain ⟨f1, f2, f3, f4⟩ := rd_f cx.2.2.2.2.2.1 (by omega) bd.2.1 (pre_t (by omega)) r1
  rcases q with ⟨q0, q⟩ | ⟨q0, q⟩
  · exact a7 ro op i c z1 j1 e1 bd (by omega) (tpl_up (by omega) h1) hn ha r1 (fun w => absurd q0 w) (fun _ => lg_mono (l := 1) (by omega) (by omega) (a10 ro op j1 e1 z j e (bd.up f1 f3) hl h1 hn ha (f4 q0) q hf hp))
  · cases q
    exact a7 ro op i c z j e bd (by omega) (tpl_up (by omega) h1) hn ha r1 hf (fun w => absurd w q0)

theorem ask42 {ro : List Nat} (h : askP ro) : opV ro = 42 := by
  cases ro with
  | nil => exact absurd h id
  | cons x r => exact h.1
theorem askC {x : Nat} {r : List Nat} (hx : x = 20 ∨ x = 21 ∨ x = 22) (h : opV r = 42) : askP (x :: r) := by
  rcases hx with rfl | rfl | rfl
  all_goals exact ⟨h, Or.inr ⟨by decide, by decide⟩⟩

theorem s_2 {h0 : Hp} {d N S : Nat} {Q : Option Value → Hp → Prop} {s : Ms} {t w0 so n : Nat} {f : Nat} (cx : CXr h0 d N S s t so n) (a0 : A0 h0 d N S Q s t w0 so n f) (a2 : A2 h0 d N S Q s t w0 so n f) : A2 h0 d N S Q s t w0 so n (f + 1) := by
  intro ro op i c z j e bd hl hT hn hr hf hp
  have hr : rdPL (tK (TPs s) (TNs s)) (rdK s so f) op i c = some (z, j, e) := hr
  unfold rdPL at hr
  by_cases q : (tK (TPs s) (TNs s)) i = 46 ∨ (tK (TPs s) (TNs s)) i = 47
  · rw [if_pos q] at hr
    have hi : i < n := cx.2.2.2.2.2.1 i (by omega)
    obtain ⟨z1, j1, e1, r1, q1⟩ := bnd_some hr
    obtain ⟨f1, f2, f3, f4⟩ := rd_f (s := s) cx.2.2.2.2.2.1 (by omega) hi (pre_t (by omega)) r1
    have b8 := bd.2.2.2
    have hd0 : dOp (((tK (TPs s) (TNs s)) i - 38)) = 0 := by rcases q with q | q <;> rw [q] <;> rfl
    have hrk : rk (((tK (TPs s) (TNs s)) i - 38)) = 6 := by rcases q with q | q <;> rw [q] <;> rfl
    refine lg_step (o := ((tK (TPs s) (TNs s)) i - 38)) cx bd hT (fun p h1 h2 => by rcases q with q | q <;> rw [q] <;> rfl) (by omega) (Or.inr ⟨by omega, hrk.symm⟩) (by omega) ?_
    rcases q1 with ⟨q0, q1⟩ | ⟨q0, q1⟩
    · exact a0 (((tK (TPs s) (TNs s)) i - 38) :: ro) op (i + 1) c z1 j1 e1 (bd.o hi hd0) (show ro.length + 1 ≤ 6 * op + 5 by omega) (fun _ => nask (by omega) (by omega)) r1 (fun w => absurd q0 w) (fun _ => gx_top (show rk (((tK (TPs s) (TNs s)) i - 38)) < 7 by omega) (show ((tK (TPs s) (TNs s)) i - 38) ≠ 41 by omega) (by have g := (lg_up (l := 6) (l' := 6) (o := ((tK (TPs s) (TNs s)) i - 38)) ⟨by omega, by omega⟩ (by omega) (by omega) (a2 ro op j1 (e1 ++ [(((tK (TPs s) (TNs s)) i - 38), 0)]) z j e (bd.up f1 (by rw [len1]; omega)) hl hT hn q1 hf hp)); rw [hd0] at g; exact lg_nil (l := 6) (by omega) (show ro.length + 1 ≤ 6 * op + 6 by omega) bd.2.2.2 g))
    · cases q1
      exact a0 (((tK (TPs s) (TNs s)) i - 38) :: ro) op (i + 1) c z j e (bd.o hi hd0) (show ro.length + 1 ≤ 6 * op + 5 by omega) (fun _ => nask (by omega) (by omega)) r1 hf (fun w => absurd w q0)
  · rw [if_neg q] at hr
    cases hr
    exact hp rfl

theorem s_4 {h0 : Hp} {d N S : Nat} {Q : Option Value → Hp → Prop} {s : Ms} {t w0 so n : Nat} {f : Nat} (cx : CXr h0 d N S s t so n) (a1 : A1 h0 d N S Q s t w0 so n f) (a4 : A4 h0 d N S Q s t w0 so n f) : A4 h0 d N S Q s t w0 so n (f + 1) := by
  intro ro op i c z j e bd hl hT hn hs hr hf hp
  have hr : rdSL (tK (TPs s) (TNs s)) (rdK s so f) op i c = some (z, j, e) := hr
  unfold rdSL at hr
  by_cases q : (tK (TPs s) (TNs s)) i = 44 ∨ (tK (TPs s) (TNs s)) i = 45
  · rw [if_pos q] at hr
    have hi : i < n := cx.2.2.2.2.2.1 i (by omega)
    obtain ⟨z1, j1, e1, r1, q1⟩ := bnd_some hr
    obtain ⟨f1, f2, f3, f4⟩ := rd_f (s := s) cx.2.2.2.2.2.1 (by omega) hi (pre_t (by omega)) r1
    have b8 := bd.2.2.2
    have hd0 : dOp (((tK (TPs s) (TNs s)) i - 38)) = 0 := by rcases q with q | q <;> rw [q] <;> rfl
    have hrk : rk (((tK (TPs s) (TNs s)) i - 38)) = 5 := by rcases q with q | q <;> rw [q] <;> rfl
    refine lg_step (o := ((tK (TPs s) (TNs s)) i - 38)) cx bd hT (fun p h1 h2 => by rcases q with q | q <;> rw [q] <;> rfl) (by omega) (Or.inr ⟨by omega, hrk.symm⟩) (by omega) ?_
    rcases q1 with ⟨q0, q1⟩ | ⟨q0, q1⟩
    · exact a1 (((tK (TPs s) (TNs s)) i - 38) :: ro) op (i + 1) c z1 j1 e1 (bd.o hi hd0) (show ro.length + 1 ≤ 6 * op + 4 by omega) (show rk (((tK (TPs s) (TNs s)) i - 38)) < 6 by omega) (show ((tK (TPs s) (TNs s)) i - 38) ≠ 41 by omega) (fun _ => nask (by omega) (by omega)) r1 (fun w => absurd q0 w) (fun _ => by have g := (lg_up (l := 5) (l' := 6) (o := ((tK (TPs s) (TNs s)) i - 38)) ⟨by omega, by omega⟩ (by omega) (by omega) (a4 ro op j1 (e1 ++ [(((tK (TPs s) (TNs s)) i - 38), 0)]) z j e (bd.up f1 (by rw [len1]; omega)) hl hT hn (by have := f4 q0; unfold STP at this ⊢; omega) q1 hf hp)); rw [hd0] at g; exact g)
    · cases q1
      exact a1 (((tK (TPs s) (TNs s)) i - 38) :: ro) op (i + 1) c z j e (bd.o hi hd0) (show ro.length + 1 ≤ 6 * op + 4 by omega) (show rk (((tK (TPs s) (TNs s)) i - 38)) < 6 by omega) (show ((tK (TPs s) (TNs s)) i - 38) ≠ 41 by omega) (fun _ => nask (by omega) (by omega)) r1 hf (fun w => absurd w q0)
  · rw [if_neg q] at hr
    cases hr
    exact hp rfl

theorem s_8 {h0 : Hp} {d N S : Nat} {Q : Option Value → Hp → Prop} {s : Ms} {t w0 so n : Nat} {f : Nat} (cx : CXr h0 d N S s t so n) (a6 : A6 h0 d N S Q s t w0 so n f) (a8 : A8 h0 d N S Q s t w0 so n f) : A8 h0 d N S Q s t w0 so n (f + 1) := by
  intro ro op i c z j e bd hl hT hn ha hs hr hf hp
  have hr : rdBL (tK (TPs s) (TNs s)) (rdK s so f) op i c = some (z, j, e) := hr
  unfold rdBL at hr
  by_cases q : (tK (TPs s) (TNs s)) i = 28
  · rw [if_pos q] at hr
    have hi : i < n := cx.2.2.2.2.2.1 i (by omega)
    obtain ⟨z1, j1, e1, r1, q1⟩ := bnd_some hr
    obtain ⟨f1, f2, f3, f4⟩ := rd_f (s := s) cx.2.2.2.2.2.1 (by omega) hi (pre_t (by omega)) r1
    have b8 := bd.2.2.2
    have hd0 : dOp (21) = 0 := by rfl
    have hrk : rk (21) = 2 := by rfl
    refine lg_step (o := 21) cx bd hT (fun p h1 h2 => by
      have ov : opV (p ++ ro) = 42 := by rw [opV_lo p ro (fun x hx => ⟨by have := (h1 x hx).1; omega, (h1 x hx).2⟩)]; exact ask42 ha
      unfold btw
      rw [q, if_neg (by omega), if_neg (by omega), if_neg (by omega), if_neg (by omega), if_neg (fun w => w ov), if_neg (fun w => w (h2 (by omega)))]
      rfl) (by omega) (Or.inr ⟨by omega, hrk.symm⟩) (by omega) ?_
    rcases q1 with ⟨q0, q1⟩ | ⟨q0, q1⟩
    · exact a6 (21 :: ro) op (i + 1) c z1 j1 e1 (bd.o hi hd0) (show ro.length + 1 ≤ 6 * op + 2 by omega) (show rk (21) < 4 by omega) (show 21 ≠ 41 by omega) (askC (by omega) (ask42 ha)) r1 (fun w => absurd q0 w) (fun _ => by have g := (lg_up (l := 2) (l' := 3) (o := 21) ⟨by omega, by omega⟩ (by omega) (by omega) (a8 ro op j1 (e1 ++ [(21, 0)]) z j e (bd.up f1 (by rw [len1]; omega)) hl hT hn ha (by have := f4 q0; unfold STP at this ⊢; omega) q1 hf hp)); rw [hd0] at g; exact g)
    · cases q1
      exact a6 (21 :: ro) op (i + 1) c z j e (bd.o hi hd0) (show ro.length + 1 ≤ 6 * op + 2 by omega) (show rk (21) < 4 by omega) (show 21 ≠ 41 by omega) (askC (by omega) (ask42 ha)) r1 hf (fun w => absurd w q0)
  · rw [if_neg q] at hr
    cases hr
    exact hp rfl

theorem s_10 {h0 : Hp} {d N S : Nat} {Q : Option Value → Hp → Prop} {s : Ms} {t w0 so n : Nat} {f : Nat} (cx : CXr h0 d N S s t so n) (a7 : A7 h0 d N S Q s t w0 so n f) (a10 : A10 h0 d N S Q s t w0 so n f) : A10 h0 d N S Q s t w0 so n (f + 1) := by
  intro ro op i c z j e bd hl hT hn ha hs hr hf hp
  have hr : rdEL (tK (TPs s) (TNs s)) (rdK s so f) op i c = some (z, j, e) := hr
  unfold rdEL at hr
  by_cases q : (tK (TPs s) (TNs s)) i = 27
  · rw [if_pos q] at hr
    have hi : i < n := cx.2.2.2.2.2.1 i (by omega)
    obtain ⟨z1, j1, e1, r1, q1⟩ := bnd_some hr
    obtain ⟨f1, f2, f3, f4⟩ := rd_f (s := s) cx.2.2.2.2.2.1 (by omega) hi (pre_t (by omega)) r1
    have b8 := bd.2.2.2
    have hd0 : dOp (22) = 0 := by rfl
    have hrk : rk (22) = 1 := by rfl
    refine lg_step (o := 22) cx bd hT (fun p h1 h2 => by
      have ov : opV (p ++ ro) = 42 := by rw [opV_lo p ro (fun x hx => ⟨by have := (h1 x hx).1; omega, (h1 x hx).2⟩)]; exact ask42 ha
      unfold btw
      rw [q, if_neg (by omega), if_neg (by omega), if_neg (by omega), if_neg (by omega), if_neg (fun w => w ov), if_neg (fun w => w (h2 (by omega)))]
      rfl) (by omega) (Or.inr ⟨by omega, hrk.symm⟩) (by omega) ?_
    rcases q1 with ⟨q0, q1⟩ | ⟨q0, q1⟩
    · exact a7 (22 :: ro) op (i + 1) c z1 j1 e1 (bd.o hi hd0) (show ro.length + 1 ≤ 6 * op + 1 by omega) (show rk (22) < 2 by omega) (show 22 ≠ 41 by omega) (askC (by omega) (ask42 ha)) r1 (fun w => absurd q0 w) (fun _ => by have g := (lg_up (l := 1) (l' := 2) (o := 22) ⟨by omega, by omega⟩ (by omega) (by omega) (a10 ro op j1 (e1 ++ [(22, 0)]) z j e (bd.up f1 (by rw [len1]; omega)) hl hT hn ha (by have := f4 q0; unfold STP at this ⊢; omega) q1 hf hp)); rw [hd0] at g; exact g)
    · cases q1
      exact a7 (22 :: ro) op (i + 1) c z j e (bd.o hi hd0) (show ro.length + 1 ≤ 6 * op + 1 by omega) (show rk (22) < 2 by omega) (show 22 ≠ 41 by omega) (askC (by omega) (ask42 ha)) r1 hf (fun w => absurd w q0)
  · rw [if_neg q] at hr
    cases hr
    exact hp rfl

