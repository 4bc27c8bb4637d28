/-! years: the class (walks by program: wip/whole/gen76.py) -/
theorem CZ.x {h : Hp} {a : Fl} {tf : Nat → Int32} {v : Nat} (c : CZ h a tf) (h4 : a 4 ≤ 30) : CZ (sI h 10 1 (nI v)) (up a 9 v) tf := by
  have f : FR 9 236 h (sI h 10 1 (nI v)) := FR.rf.sI (by omega)
  refine ⟨f.1.cb c.1, ?_⟩
  rw [up_9]
  refine c.2.now2 h4 rfl (fun k q1 q2 q3 => by rw [pI_sI_ne (by omega)]) (txc_fz f.z) (fun i hi => uns_o (by omega)) ?_
  exact (c.2.1.set (j := 1) (by omega) rfl).cg (fun i hi => (snap_uns hi).symm)
theorem CZ.a {h h1 : Hp} {a a' : Fl} {tf : Nat → Int32} (c : CZ h a tf) (f : FR 9 236 h h1) (m : MV h1 9 a' (TXC h tf)) (h4 : a' 4 ≤ 30) : CZ h1 a' tf ∧ FZ h h1 := ⟨c.of f m h4, f.z⟩
theorem yok {a : Fl} {x : Nat} (h0 : a 0 ≠ 0) (h8 : a 0 ≤ 8) : okG a (nI (yF a x)) (nI (1 + x % 9)) (nI (x % 50)) := by
  obtain ⟨q1, q2⟩ := yF_b (a := a) (x := x) h0
  have p8 : 2 ^ a 0 ≤ 2 ^ 8 := Nat.pow_le_pow_right (by omega) h8
  refine ⟨⟨(nI_leI (a := 1) (by omega) (by omega)).mpr q1, (nI_ltI (by omega) (by omega)).mpr q2⟩, ⟨(nI_leI (a := 1) (by omega) (by omega)).mpr (by omega), (nI_leI (b := 99) (by omega) (by omega)).mpr (by omega)⟩, ⟨(nI_leI (a := 0) (by omega) (by omega)).mpr (by omega), (nI_leI (b := 999) (by omega) (by omega)).mpr (by omega)⟩⟩

theorem c_act_z1 {h : Hp} {a : Fl} {tf : Nat → Int32} {d x : Nat} (c1 : CZ h a tf) (hj : JY tf a) (hx : x < 30553) (hd : 4 ≤ d) (z : a 1 = 0) : Sp d mX8_act [.ref 8, .int (nI x), .int (nI (x % 6))] h none h := by
  have v0 := hj.1.1.1
  have v1 := hj.1.1.2.1
  have v4 := hj.1.1.2.2.2.2.1
  intro N S Q hN hS hQ
  refine z_aload_n dX8_act_0 rfl rfl ?_
  refine y_getR FX8_10 dX8_act_1 rfl c1.1.1 c1.1.2.1 ?_
  refine y_getR FX8_79 dX8_act_4 rfl c1.1.2.2.2.2.1.o c1.1.2.2.2.2.1.f0 ?_
  refine y_getR FX8_82 dX8_act_7 rfl c1.1.2.2.2.2.1.now.1 c1.1.2.2.2.2.1.now.2.1 ?_
  refine y_getI FX8_130 dX8_act_10 (Or.inl rfl) c1.1.2.2.2.2.1.now.2.2.1.1 ?_
  refine z_eqi (y := nI (a 1)) (show _ = nI (a 1) from c1.2.1.2.2.2.1.2.2.1) ?_
  refine z_istore_n dX8_act_13 rfl (Nat.le_of_ble_eq_true rfl) ?_
  refine z_aload_n dX8_act_14 rfl rfl ?_
  refine y_getR FX8_10 dX8_act_15 rfl c1.1.1 c1.1.2.1 ?_
  refine y_getR FX8_65 dX8_act_18 rfl c1.1.2.2.2.2.1.o c1.1.2.2.2.2.1.f4 ?_
  refine y_getI FX8_130 dX8_act_21 (Or.inl rfl) c1.1.2.2.2.2.1.facts.1 ?_
  refine z_eqi (y := nI (a 0)) (show _ = nI (a 0) from c1.2.2.2.2.2.1.1.2.2.1) ?_
  refine z_istore dX8_act_24 (Nat.le_of_ble_eq_true rfl) ?_
  refine z_iload_n dX8_act_26 rfl rfl ?_
  refine z_if_eq dX8_act_27 rfl (fun _ => ?_) (fun c => absurd (congrArg nI (show _ = 0 from by omega)) c)
  refine z_vret dX8_act_35 ?_
  exact hQ

theorem c_act_z2 {h : Hp} {a : Fl} {tf : Nat → Int32} {d x : Nat} (c1 : CZ h a tf) (hj : JY tf a) (hx : x < 30553) (hd : 4 ≤ d) (z : a 1 ≠ 0) (z2 : a 0 = 0) : Sp d mX8_act [.ref 8, .int (nI x), .int (nI (x % 6))] h none h := by
  have v0 := hj.1.1.1
  have v1 := hj.1.1.2.1
  have v4 := hj.1.1.2.2.2.2.1
  intro N S Q hN hS hQ
  refine z_aload_n dX8_act_0 rfl rfl ?_
  refine y_getR FX8_10 dX8_act_1 rfl c1.1.1 c1.1.2.1 ?_
  refine y_getR FX8_79 dX8_act_4 rfl c1.1.2.2.2.2.1.o c1.1.2.2.2.2.1.f0 ?_
  refine y_getR FX8_82 dX8_act_7 rfl c1.1.2.2.2.2.1.now.1 c1.1.2.2.2.2.1.now.2.1 ?_
  refine y_getI FX8_130 dX8_act_10 (Or.inl rfl) c1.1.2.2.2.2.1.now.2.2.1.1 ?_
  refine z_eqi (y := nI (a 1)) (show _ = nI (a 1) from c1.2.1.2.2.2.1.2.2.1) ?_
  refine z_istore_n dX8_act_13 rfl (Nat.le_of_ble_eq_true rfl) ?_
  refine z_aload_n dX8_act_14 rfl rfl ?_
  refine y_getR FX8_10 dX8_act_15 rfl c1.1.1 c1.1.2.1 ?_
  refine y_getR FX8_65 dX8_act_18 rfl c1.1.2.2.2.2.1.o c1.1.2.2.2.2.1.f4 ?_
  refine y_getI FX8_130 dX8_act_21 (Or.inl rfl) c1.1.2.2.2.2.1.facts.1 ?_
  refine z_eqi (y := nI (a 0)) (show _ = nI (a 0) from c1.2.2.2.2.2.1.1.2.2.1) ?_
  refine z_istore dX8_act_24 (Nat.le_of_ble_eq_true rfl) ?_
  refine z_iload_n dX8_act_26 rfl rfl ?_
  refine z_if_eq dX8_act_27 rfl (fun c => absurd c (fun q => absurd ((nI_eq (b := 0) (by omega) (by omega)).mp q) (by omega))) (fun _ => ?_)
  refine z_iload dX8_act_30 rfl ?_
  refine z_if_ne dX8_act_32 rfl (fun c => absurd (congrArg nI (show _ = 0 by omega)) c) (fun _ => ?_)
  refine z_vret dX8_act_35 ?_
  exact hQ

theorem c_act_f1 {h : Hp} {a : Fl} {tf : Nat → Int32} {d x : Nat} (c1 : CZ h a tf) (hj : JY tf a) (hx : x < 30553) (hd : 4 ≤ d) (z1 : a 1 ≠ 0) (z0 : a 0 ≠ 0) (h2 : x % 6 < 2) (h4 : x % 4 = 0) (hk : okF a (nI (x % a 1))) : ∃ h1, Sp d mX8_act [.ref 8, .int (nI x), .int (nI (x % 6))] h none h1 ∧ CZ h1 (mFore a (x % a 1) 1 (yF a x) (1 + x % 9) (x % 50)) tf ∧ FZ h h1 := by
  have v0 := hj.1.1.1
  have v1 := hj.1.1.2.1
  have v4 := hj.1.1.2.2.2.2.1
  have b1 : x % a 1 < a 1 := Nat.mod_lt _ (by omega)
  have b0 : x % a 0 < a 0 := Nat.mod_lt _ (by omega)
  have b2 : x / 6 % a 0 < a 0 := Nat.mod_lt _ (by omega)
  have hb := (hj.ip _ b1).1
  obtain ⟨g, q1, q2, q3⟩ := c_doForetell (d := 3) (p := x % a 1) (al := 1) (f := yF a x) (dd := 1 + x % 9) (fee := x % 50) c1.1.1 c1.1.2.1 c1.1.2.2.2.2.1 c1.2 hj.1.1 b1 hk.2.2 (by rw [snap_pp (by omega) (by omega)]; exact hb) (by omega) (by omega) (Nat.le_refl _)
  have q3 : FR 9 236 h g := q3
  refine ⟨g, ?_, c1.of q3 q2 (by show uns a _ 4 ≤ 30; rw [uns_o (by omega)]; exact v4), q3.z⟩
  have ok : ¬ bI (okF a (nI (x % a 1)) ∧ okG a (nI (yF a x)) (nI (1 + x % 9)) (nI (x % 50))) = 0 := bI_ne0.mpr ⟨hk, yok z0 v0⟩
  intro N S Q hN hS hQ
  have hN : pn h ≤ N := by rw [← q3.1.n]; exact hN
  have hS : ps h ≤ S := by rw [← q3.1.s]; exact hS
  refine z_aload_n dX8_act_0 rfl rfl ?_
  refine y_getR FX8_10 dX8_act_1 rfl c1.1.1 c1.1.2.1 ?_
  refine y_getR FX8_79 dX8_act_4 rfl c1.1.2.2.2.2.1.o c1.1.2.2.2.2.1.f0 ?_
  refine y_getR FX8_82 dX8_act_7 rfl c1.1.2.2.2.2.1.now.1 c1.1.2.2.2.2.1.now.2.1 ?_
  refine y_getI FX8_130 dX8_act_10 (Or.inl rfl) c1.1.2.2.2.2.1.now.2.2.1.1 ?_
  refine z_eqi (y := nI (a 1)) (show _ = nI (a 1) from c1.2.1.2.2.2.1.2.2.1) ?_
  refine z_istore_n dX8_act_13 rfl (Nat.le_of_ble_eq_true rfl) ?_
  refine z_aload_n dX8_act_14 rfl rfl ?_
  refine y_getR FX8_10 dX8_act_15 rfl c1.1.1 c1.1.2.1 ?_
  refine y_getR FX8_65 dX8_act_18 rfl c1.1.2.2.2.2.1.o c1.1.2.2.2.2.1.f4 ?_
  refine y_getI FX8_130 dX8_act_21 (Or.inl rfl) c1.1.2.2.2.2.1.facts.1 ?_
  refine z_eqi (y := nI (a 0)) (show _ = nI (a 0) from c1.2.2.2.2.2.1.1.2.2.1) ?_
  refine z_istore dX8_act_24 (Nat.le_of_ble_eq_true rfl) ?_
  refine z_iload_n dX8_act_26 rfl rfl ?_
  refine z_if_eq dX8_act_27 rfl (fun c => absurd c (fun q => absurd ((nI_eq (b := 0) (by omega) (by omega)).mp q) (by omega))) (fun _ => ?_)
  refine z_iload dX8_act_30 rfl ?_
  refine z_if_ne dX8_act_32 rfl (fun _ => ?_) (fun c => absurd c (fun q => absurd ((nI_eq (b := 0) (by omega) (by omega)).mp q) (by omega)))
  refine z_iload_n dX8_act_36 rfl rfl ?_
  refine z_iload_n dX8_act_37 rfl rfl ?_
  refine z_irem dX8_act_38 (fun q => absurd ((nI_eq (b := 0) (by omega) (by omega)).mp q) (by omega)) ?_
  refine z_eqi (irem_n (a := x) (d := a 1) (by omega) (by omega) (by omega)) ?_
  refine z_istore dX8_act_39 (Nat.le_of_ble_eq_true rfl) ?_
  refine z_iload_n dX8_act_41 rfl rfl ?_
  refine z_bipush (v := 6) dX8_act_42 (by decide) ?_
  refine z_idiv dX8_act_44 (by decide) ?_
  refine z_eqi (pk_div (a := x) (d := 6) (by omega) (by omega) (by omega)) ?_
  refine z_iload dX8_act_45 rfl ?_
  refine z_irem dX8_act_47 (fun q => absurd ((nI_eq (b := 0) (by omega) (by omega)).mp q) (by omega)) ?_
  refine z_eqi (irem_n (a := x / 6) (d := a 0) (by omega) (by omega) (by omega)) ?_
  refine z_istore dX8_act_48 (Nat.le_of_ble_eq_true rfl) ?_
  show T d N S mX8_act 50 [some (.ref 8), some (.int (nI x)), some (.int (nI (x % 6))), some (.int (nI (a 1))), some (.int (nI (a 0))), some (.int (nI (x % a 1))), some (.int (nI (x / 6 % a 0))), none, none, none] [] h Q
  refine z_iload_n dX8_act_50 rfl rfl ?_
  refine z_iconst (v := 2) dX8_act_51 (by decide) ?_
  refine z_icmp_lt dX8_act_52 rfl (fun _ => ?_) (fun c => absurd ((nI_ltI (b := 2) (by omega) (by omega)).mpr (by omega)) c)
  refine z_iload_n dX8_act_85 rfl rfl ?_
  refine z_iload dX8_act_86 rfl ?_
  refine z_irem dX8_act_88 (fun q => absurd ((nI_eq (b := 0) (by omega) (by omega)).mp q) (by omega)) ?_
  refine z_eqi (irem_n (a := x) (d := a 0) (by omega) (by omega) (by omega)) ?_
  refine y_callS (as := [_]) CX8_bit LX8_163 SX8_bit dX8_act_89 rfl (Nat.le_of_ble_eq_true rfl) (Nat.le_of_ble_eq_true rfl) (by omega) (s_bit _) rok_i ⟨Nat.le_refl _, Nat.le_refl _, hN, hS⟩ ?_
  refine z_eqi (nI_bit (show x % a 0 < 31 by omega)) ?_
  refine z_iload dX8_act_92 rfl ?_
  refine y_callS (as := [_]) CX8_bit LX8_163 SX8_bit dX8_act_94 rfl (Nat.le_of_ble_eq_true rfl) (Nat.le_of_ble_eq_true rfl) (by omega) (s_bit _) rok_i ⟨Nat.le_refl _, Nat.le_refl _, hN, hS⟩ ?_
  refine z_eqi (nI_bit (show x / 6 % a 0 < 31 by omega)) ?_
  refine z_ior dX8_act_97 ?_
  refine z_eqi (show _ = nI (yF a x) from nI_or _ _) ?_
  refine z_istore dX8_act_98 (Nat.le_of_ble_eq_true rfl) ?_
  show T d N S mX8_act 100 [some (.ref 8), some (.int (nI x)), some (.int (nI (x % 6))), some (.int (nI (a 1))), some (.int (nI (a 0))), some (.int (nI (x % a 1))), some (.int (nI (x / 6 % a 0))), some (.int (nI (yF a x))), none, none] [] h Q
  refine z_iconst (v := 1) dX8_act_100 (by decide) ?_
  refine z_iload_n dX8_act_101 rfl rfl ?_
  refine z_bipush (v := 9) dX8_act_102 (by decide) ?_
  refine z_irem dX8_act_104 (by decide) ?_
  refine z_eqi (irem_n (a := x) (d := 9) (by omega) (by omega) (by omega)) ?_
  refine z_iadd dX8_act_105 ?_
  refine z_eqi (nI_add 1 (x % 9)) ?_
  refine z_istore dX8_act_106 (Nat.le_of_ble_eq_true rfl) ?_
  refine z_iload_n dX8_act_108 rfl rfl ?_
  refine z_bipush (v := 50) dX8_act_109 (by decide) ?_
  refine z_irem dX8_act_111 (by decide) ?_
  refine z_eqi (irem_n (a := x) (d := 50) (by omega) (by omega) (by omega)) ?_
  refine z_istore dX8_act_112 (Nat.le_of_ble_eq_true rfl) ?_
  show T d N S mX8_act 114 [some (.ref 8), some (.int (nI x)), some (.int (nI (x % 6))), some (.int (nI (a 1))), some (.int (nI (a 0))), some (.int (nI (x % a 1))), some (.int (nI (x / 6 % a 0))), some (.int (nI (yF a x))), some (.int (nI (1 + x % 9))), some (.int (nI (x % 50)))] [] h Q
  refine z_aload_n dX8_act_114 rfl rfl ?_
  refine z_iload dX8_act_115 rfl ?_
  refine z_iload dX8_act_117 rfl ?_
  refine z_iload dX8_act_119 rfl ?_
  refine z_iload dX8_act_121 rfl ?_
  refine y_callV (as := [_, _, _, _]) CX8_mayForetell LX8_109 IX8_mayForetell VX8_mayForetell ⟨rfl, Nat.le_of_ble_eq_true rfl⟩ dX8_act_123 c1.1.1 rfl (Nat.le_of_ble_eq_true rfl) (Nat.le_of_ble_eq_true rfl) (by omega) (c_mayForetell (d := 3) c1.1.1 c1.1.2.1 c1.1.2.2.2.2.1 c1.2 hj.1.1 hj.ip _ _ _ _ (Nat.le_refl _)) (rok_z bI_01) ⟨Nat.le_refl _, Nat.le_refl _, hN, hS⟩ ?_
  refine z_if_eq dX8_act_126 rfl (fun c => absurd c (ok)) (fun _ => ?_)
  refine z_aload_n dX8_act_129 rfl rfl ?_
  refine z_iload dX8_act_130 rfl ?_
  refine z_iload_n dX8_act_132 rfl rfl ?_
  refine z_iconst (v := 4) dX8_act_133 (by decide) ?_
  refine z_irem dX8_act_134 (by decide) ?_
  refine z_eqi (irem_n (a := x) (d := 4) (by omega) (by omega) (by omega)) ?_
  refine z_if_ne dX8_act_135 rfl (fun c => absurd (congrArg nI (show _ = 0 by omega)) c) (fun _ => ?_)
  refine z_iconst (v := 1) dX8_act_138 (by decide) ?_
  refine z_goto dX8_act_139 rfl ?_
  refine z_iload dX8_act_143 rfl ?_
  refine z_iload dX8_act_145 rfl ?_
  refine z_iload dX8_act_147 rfl ?_
  refine y_callV (as := [_, _, _, _, _]) CX8_doForetell LX8_116 IX8_doForetell VX8_doForetell ⟨rfl, Nat.le_of_ble_eq_true rfl⟩ dX8_act_149 c1.1.1 rfl (Nat.le_of_ble_eq_true rfl) (Nat.le_of_ble_eq_true rfl) (by omega) q1 rok_i (hg_ss q3.1 hN hS) ?_
  refine z_pop dX8_act_152 rfl ?_
  refine z_vret dX8_act_153 ?_
  exact hQ

theorem c_act_f0 {h : Hp} {a : Fl} {tf : Nat → Int32} {d x : Nat} (c1 : CZ h a tf) (hj : JY tf a) (hx : x < 30553) (hd : 4 ≤ d) (z1 : a 1 ≠ 0) (z0 : a 0 ≠ 0) (h2 : x % 6 < 2) (h4 : ¬ x % 4 = 0) (hk : okF a (nI (x % a 1))) : ∃ h1, Sp d mX8_act [.ref 8, .int (nI x), .int (nI (x % 6))] h none h1 ∧ CZ h1 (mFore a (x % a 1) 0 (yF a x) (1 + x % 9) (x % 50)) tf ∧ FZ h h1 := by
  have v0 := hj.1.1.1
  have v1 := hj.1.1.2.1
  have v4 := hj.1.1.2.2.2.2.1
  have b1 : x % a 1 < a 1 := Nat.mod_lt _ (by omega)
  have b0 : x % a 0 < a 0 := Nat.mod_lt _ (by omega)
  have b2 : x / 6 % a 0 < a 0 := Nat.mod_lt _ (by omega)
  have hb := (hj.ip _ b1).1
  obtain ⟨g, q1, q2, q3⟩ := c_doForetell (d := 3) (p := x % a 1) (al := 0) (f := yF a x) (dd := 1 + x % 9) (fee := x % 50) c1.1.1 c1.1.2.1 c1.1.2.2.2.2.1 c1.2 hj.1.1 b1 hk.2.2 (by rw [snap_pp (by omega) (by omega)]; exact hb) (by omega) (by omega) (Nat.le_refl _)
  have q3 : FR 9 236 h g := q3
  refine ⟨g, ?_, c1.of q3 q2 (by show uns a _ 4 ≤ 30; rw [uns_o (by omega)]; exact v4), q3.z⟩
  have ok : ¬ bI (okF a (nI (x % a 1)) ∧ okG a (nI (yF a x)) (nI (1 + x % 9)) (nI (x % 50))) = 0 := bI_ne0.mpr ⟨hk, yok z0 v0⟩
  intro N S Q hN hS hQ
  have hN : pn h ≤ N := by rw [← q3.1.n]; exact hN
  have hS : ps h ≤ S := by rw [← q3.1.s]; exact hS
  refine z_aload_n dX8_act_0 rfl rfl ?_
  refine y_getR FX8_10 dX8_act_1 rfl c1.1.1 c1.1.2.1 ?_
  refine y_getR FX8_79 dX8_act_4 rfl c1.1.2.2.2.2.1.o c1.1.2.2.2.2.1.f0 ?_
  refine y_getR FX8_82 dX8_act_7 rfl c1.1.2.2.2.2.1.now.1 c1.1.2.2.2.2.1.now.2.1 ?_
  refine y_getI FX8_130 dX8_act_10 (Or.inl rfl) c1.1.2.2.2.2.1.now.2.2.1.1 ?_
  refine z_eqi (y := nI (a 1)) (show _ = nI (a 1) from c1.2.1.2.2.2.1.2.2.1) ?_
  refine z_istore_n dX8_act_13 rfl (Nat.le_of_ble_eq_true rfl) ?_
  refine z_aload_n dX8_act_14 rfl rfl ?_
  refine y_getR FX8_10 dX8_act_15 rfl c1.1.1 c1.1.2.1 ?_
  refine y_getR FX8_65 dX8_act_18 rfl c1.1.2.2.2.2.1.o c1.1.2.2.2.2.1.f4 ?_
  refine y_getI FX8_130 dX8_act_21 (Or.inl rfl) c1.1.2.2.2.2.1.facts.1 ?_
  refine z_eqi (y := nI (a 0)) (show _ = nI (a 0) from c1.2.2.2.2.2.1.1.2.2.1) ?_
  refine z_istore dX8_act_24 (Nat.le_of_ble_eq_true rfl) ?_
  refine z_iload_n dX8_act_26 rfl rfl ?_
  refine z_if_eq dX8_act_27 rfl (fun c => absurd c (fun q => absurd ((nI_eq (b := 0) (by omega) (by omega)).mp q) (by omega))) (fun _ => ?_)
  refine z_iload dX8_act_30 rfl ?_
  refine z_if_ne dX8_act_32 rfl (fun _ => ?_) (fun c => absurd c (fun q => absurd ((nI_eq (b := 0) (by omega) (by omega)).mp q) (by omega)))
  refine z_iload_n dX8_act_36 rfl rfl ?_
  refine z_iload_n dX8_act_37 rfl rfl ?_
  refine z_irem dX8_act_38 (fun q => absurd ((nI_eq (b := 0) (by omega) (by omega)).mp q) (by omega)) ?_
  refine z_eqi (irem_n (a := x) (d := a 1) (by omega) (by omega) (by omega)) ?_
  refine z_istore dX8_act_39 (Nat.le_of_ble_eq_true rfl) ?_
  refine z_iload_n dX8_act_41 rfl rfl ?_
  refine z_bipush (v := 6) dX8_act_42 (by decide) ?_
  refine z_idiv dX8_act_44 (by decide) ?_
  refine z_eqi (pk_div (a := x) (d := 6) (by omega) (by omega) (by omega)) ?_
  refine z_iload dX8_act_45 rfl ?_
  refine z_irem dX8_act_47 (fun q => absurd ((nI_eq (b := 0) (by omega) (by omega)).mp q) (by omega)) ?_
  refine z_eqi (irem_n (a := x / 6) (d := a 0) (by omega) (by omega) (by omega)) ?_
  refine z_istore dX8_act_48 (Nat.le_of_ble_eq_true rfl) ?_
  show T d N S mX8_act 50 [some (.ref 8), some (.int (nI x)), some (.int (nI (x % 6))), some (.int (nI (a 1))), some (.int (nI (a 0))), some (.int (nI (x % a 1))), some (.int (nI (x / 6 % a 0))), none, none, none] [] h Q
  refine z_iload_n dX8_act_50 rfl rfl ?_
  refine z_iconst (v := 2) dX8_act_51 (by decide) ?_
  refine z_icmp_lt dX8_act_52 rfl (fun _ => ?_) (fun c => absurd ((nI_ltI (b := 2) (by omega) (by omega)).mpr (by omega)) c)
  refine z_iload_n dX8_act_85 rfl rfl ?_
  refine z_iload dX8_act_86 rfl ?_
  refine z_irem dX8_act_88 (fun q => absurd ((nI_eq (b := 0) (by omega) (by omega)).mp q) (by omega)) ?_
  refine z_eqi (irem_n (a := x) (d := a 0) (by omega) (by omega) (by omega)) ?_
  refine y_callS (as := [_]) CX8_bit LX8_163 SX8_bit dX8_act_89 rfl (Nat.le_of_ble_eq_true rfl) (Nat.le_of_ble_eq_true rfl) (by omega) (s_bit _) rok_i ⟨Nat.le_refl _, Nat.le_refl _, hN, hS⟩ ?_
  refine z_eqi (nI_bit (show x % a 0 < 31 by omega)) ?_
  refine z_iload dX8_act_92 rfl ?_
  refine y_callS (as := [_]) CX8_bit LX8_163 SX8_bit dX8_act_94 rfl (Nat.le_of_ble_eq_true rfl) (Nat.le_of_ble_eq_true rfl) (by omega) (s_bit _) rok_i ⟨Nat.le_refl _, Nat.le_refl _, hN, hS⟩ ?_
  refine z_eqi (nI_bit (show x / 6 % a 0 < 31 by omega)) ?_
  refine z_ior dX8_act_97 ?_
  refine z_eqi (show _ = nI (yF a x) from nI_or _ _) ?_
  refine z_istore dX8_act_98 (Nat.le_of_ble_eq_true rfl) ?_
  show T d N S mX8_act 100 [some (.ref 8), some (.int (nI x)), some (.int (nI (x % 6))), some (.int (nI (a 1))), some (.int (nI (a 0))), some (.int (nI (x % a 1))), some (.int (nI (x / 6 % a 0))), some (.int (nI (yF a x))), none, none] [] h Q
  refine z_iconst (v := 1) dX8_act_100 (by decide) ?_
  refine z_iload_n dX8_act_101 rfl rfl ?_
  refine z_bipush (v := 9) dX8_act_102 (by decide) ?_
  refine z_irem dX8_act_104 (by decide) ?_
  refine z_eqi (irem_n (a := x) (d := 9) (by omega) (by omega) (by omega)) ?_
  refine z_iadd dX8_act_105 ?_
  refine z_eqi (nI_add 1 (x % 9)) ?_
  refine z_istore dX8_act_106 (Nat.le_of_ble_eq_true rfl) ?_
  refine z_iload_n dX8_act_108 rfl rfl ?_
  refine z_bipush (v := 50) dX8_act_109 (by decide) ?_
  refine z_irem dX8_act_111 (by decide) ?_
  refine z_eqi (irem_n (a := x) (d := 50) (by omega) (by omega) (by omega)) ?_
  refine z_istore dX8_act_112 (Nat.le_of_ble_eq_true rfl) ?_
  show T d N S mX8_act 114 [some (.ref 8), some (.int (nI x)), some (.int (nI (x % 6))), some (.int (nI (a 1))), some (.int (nI (a 0))), some (.int (nI (x % a 1))), some (.int (nI (x / 6 % a 0))), some (.int (nI (yF a x))), some (.int (nI (1 + x % 9))), some (.int (nI (x % 50)))] [] h Q
  refine z_aload_n dX8_act_114 rfl rfl ?_
  refine z_iload dX8_act_115 rfl ?_
  refine z_iload dX8_act_117 rfl ?_
  refine z_iload dX8_act_119 rfl ?_
  refine z_iload dX8_act_121 rfl ?_
  refine y_callV (as := [_, _, _, _]) CX8_mayForetell LX8_109 IX8_mayForetell VX8_mayForetell ⟨rfl, Nat.le_of_ble_eq_true rfl⟩ dX8_act_123 c1.1.1 rfl (Nat.le_of_ble_eq_true rfl) (Nat.le_of_ble_eq_true rfl) (by omega) (c_mayForetell (d := 3) c1.1.1 c1.1.2.1 c1.1.2.2.2.2.1 c1.2 hj.1.1 hj.ip _ _ _ _ (Nat.le_refl _)) (rok_z bI_01) ⟨Nat.le_refl _, Nat.le_refl _, hN, hS⟩ ?_
  refine z_if_eq dX8_act_126 rfl (fun c => absurd c (ok)) (fun _ => ?_)
  refine z_aload_n dX8_act_129 rfl rfl ?_
  refine z_iload dX8_act_130 rfl ?_
  refine z_iload_n dX8_act_132 rfl rfl ?_
  refine z_iconst (v := 4) dX8_act_133 (by decide) ?_
  refine z_irem dX8_act_134 (by decide) ?_
  refine z_eqi (irem_n (a := x) (d := 4) (by omega) (by omega) (by omega)) ?_
  refine z_if_ne dX8_act_135 rfl (fun _ => ?_) (fun c => absurd c (fun q => absurd ((nI_eq (b := 0) (by omega) (by omega)).mp q) (by omega)))
  refine z_iconst (v := 0) dX8_act_142 (by decide) ?_
  refine z_iload dX8_act_143 rfl ?_
  refine z_iload dX8_act_145 rfl ?_
  refine z_iload dX8_act_147 rfl ?_
  refine y_callV (as := [_, _, _, _, _]) CX8_doForetell LX8_116 IX8_doForetell VX8_doForetell ⟨rfl, Nat.le_of_ble_eq_true rfl⟩ dX8_act_149 c1.1.1 rfl (Nat.le_of_ble_eq_true rfl) (Nat.le_of_ble_eq_true rfl) (by omega) q1 rok_i (hg_ss q3.1 hN hS) ?_
  refine z_pop dX8_act_152 rfl ?_
  refine z_vret dX8_act_153 ?_
  exact hQ

theorem c_act_fn {h : Hp} {a : Fl} {tf : Nat → Int32} {d x : Nat} (c1 : CZ h a tf) (hj : JY tf a) (hx : x < 30553) (hd : 4 ≤ d) (z1 : a 1 ≠ 0) (z0 : a 0 ≠ 0) (h2 : x % 6 < 2) (hk : ¬ okF a (nI (x % a 1))) : Sp d mX8_act [.ref 8, .int (nI x), .int (nI (x % 6))] h none h := by
  have v0 := hj.1.1.1
  have v1 := hj.1.1.2.1
  have v4 := hj.1.1.2.2.2.2.1
  have b1 : x % a 1 < a 1 := Nat.mod_lt _ (by omega)
  have b0 : x % a 0 < a 0 := Nat.mod_lt _ (by omega)
  have b2 : x / 6 % a 0 < a 0 := Nat.mod_lt _ (by omega)
  intro N S Q hN hS hQ
  refine z_aload_n dX8_act_0 rfl rfl ?_
  refine y_getR FX8_10 dX8_act_1 rfl c1.1.1 c1.1.2.1 ?_
  refine y_getR FX8_79 dX8_act_4 rfl c1.1.2.2.2.2.1.o c1.1.2.2.2.2.1.f0 ?_
  refine y_getR FX8_82 dX8_act_7 rfl c1.1.2.2.2.2.1.now.1 c1.1.2.2.2.2.1.now.2.1 ?_
  refine y_getI FX8_130 dX8_act_10 (Or.inl rfl) c1.1.2.2.2.2.1.now.2.2.1.1 ?_
  refine z_eqi (y := nI (a 1)) (show _ = nI (a 1) from c1.2.1.2.2.2.1.2.2.1) ?_
  refine z_istore_n dX8_act_13 rfl (Nat.le_of_ble_eq_true rfl) ?_
  refine z_aload_n dX8_act_14 rfl rfl ?_
  refine y_getR FX8_10 dX8_act_15 rfl c1.1.1 c1.1.2.1 ?_
  refine y_getR FX8_65 dX8_act_18 rfl c1.1.2.2.2.2.1.o c1.1.2.2.2.2.1.f4 ?_
  refine y_getI FX8_130 dX8_act_21 (Or.inl rfl) c1.1.2.2.2.2.1.facts.1 ?_
  refine z_eqi (y := nI (a 0)) (show _ = nI (a 0) from c1.2.2.2.2.2.1.1.2.2.1) ?_
  refine z_istore dX8_act_24 (Nat.le_of_ble_eq_true rfl) ?_
  refine z_iload_n dX8_act_26 rfl rfl ?_
  refine z_if_eq dX8_act_27 rfl (fun c => absurd c (fun q => absurd ((nI_eq (b := 0) (by omega) (by omega)).mp q) (by omega))) (fun _ => ?_)
  refine z_iload dX8_act_30 rfl ?_
  refine z_if_ne dX8_act_32 rfl (fun _ => ?_) (fun c => absurd c (fun q => absurd ((nI_eq (b := 0) (by omega) (by omega)).mp q) (by omega)))
  refine z_iload_n dX8_act_36 rfl rfl ?_
  refine z_iload_n dX8_act_37 rfl rfl ?_
  refine z_irem dX8_act_38 (fun q => absurd ((nI_eq (b := 0) (by omega) (by omega)).mp q) (by omega)) ?_
  refine z_eqi (irem_n (a := x) (d := a 1) (by omega) (by omega) (by omega)) ?_
  refine z_istore dX8_act_39 (Nat.le_of_ble_eq_true rfl) ?_
  refine z_iload_n dX8_act_41 rfl rfl ?_
  refine z_bipush (v := 6) dX8_act_42 (by decide) ?_
  refine z_idiv dX8_act_44 (by decide) ?_
  refine z_eqi (pk_div (a := x) (d := 6) (by omega) (by omega) (by omega)) ?_
  refine z_iload dX8_act_45 rfl ?_
  refine z_irem dX8_act_47 (fun q => absurd ((nI_eq (b := 0) (by omega) (by omega)).mp q) (by omega)) ?_
  refine z_eqi (irem_n (a := x / 6) (d := a 0) (by omega) (by omega) (by omega)) ?_
  refine z_istore dX8_act_48 (Nat.le_of_ble_eq_true rfl) ?_
  show T d N S mX8_act 50 [some (.ref 8), some (.int (nI x)), some (.int (nI (x % 6))), some (.int (nI (a 1))), some (.int (nI (a 0))), some (.int (nI (x % a 1))), some (.int (nI (x / 6 % a 0))), none, none, none] [] h Q
  refine z_iload_n dX8_act_50 rfl rfl ?_
  refine z_iconst (v := 2) dX8_act_51 (by decide) ?_
  refine z_icmp_lt dX8_act_52 rfl (fun _ => ?_) (fun c => absurd ((nI_ltI (b := 2) (by omega) (by omega)).mpr (by omega)) c)
  refine z_iload_n dX8_act_85 rfl rfl ?_
  refine z_iload dX8_act_86 rfl ?_
  refine z_irem dX8_act_88 (fun q => absurd ((nI_eq (b := 0) (by omega) (by omega)).mp q) (by omega)) ?_
  refine z_eqi (irem_n (a := x) (d := a 0) (by omega) (by omega) (by omega)) ?_
  refine y_callS (as := [_]) CX8_bit LX8_163 SX8_bit dX8_act_89 rfl (Nat.le_of_ble_eq_true rfl) (Nat.le_of_ble_eq_true rfl) (by omega) (s_bit _) rok_i ⟨Nat.le_refl _, Nat.le_refl _, hN, hS⟩ ?_
  refine z_eqi (nI_bit (show x % a 0 < 31 by omega)) ?_
  refine z_iload dX8_act_92 rfl ?_
  refine y_callS (as := [_]) CX8_bit LX8_163 SX8_bit dX8_act_94 rfl (Nat.le_of_ble_eq_true rfl) (Nat.le_of_ble_eq_true rfl) (by omega) (s_bit _) rok_i ⟨Nat.le_refl _, Nat.le_refl _, hN, hS⟩ ?_
  refine z_eqi (nI_bit (show x / 6 % a 0 < 31 by omega)) ?_
  refine z_ior dX8_act_97 ?_
  refine z_eqi (show _ = nI (yF a x) from nI_or _ _) ?_
  refine z_istore dX8_act_98 (Nat.le_of_ble_eq_true rfl) ?_
  show T d N S mX8_act 100 [some (.ref 8), some (.int (nI x)), some (.int (nI (x % 6))), some (.int (nI (a 1))), some (.int (nI (a 0))), some (.int (nI (x % a 1))), some (.int (nI (x / 6 % a 0))), some (.int (nI (yF a x))), none, none] [] h Q
  refine z_iconst (v := 1) dX8_act_100 (by decide) ?_
  refine z_iload_n dX8_act_101 rfl rfl ?_
  refine z_bipush (v := 9) dX8_act_102 (by decide) ?_
  refine z_irem dX8_act_104 (by decide) ?_
  refine z_eqi (irem_n (a := x) (d := 9) (by omega) (by omega) (by omega)) ?_
  refine z_iadd dX8_act_105 ?_
  refine z_eqi (nI_add 1 (x % 9)) ?_
  refine z_istore dX8_act_106 (Nat.le_of_ble_eq_true rfl) ?_
  refine z_iload_n dX8_act_108 rfl rfl ?_
  refine z_bipush (v := 50) dX8_act_109 (by decide) ?_
  refine z_irem dX8_act_111 (by decide) ?_
  refine z_eqi (irem_n (a := x) (d := 50) (by omega) (by omega) (by omega)) ?_
  refine z_istore dX8_act_112 (Nat.le_of_ble_eq_true rfl) ?_
  show T d N S mX8_act 114 [some (.ref 8), some (.int (nI x)), some (.int (nI (x % 6))), some (.int (nI (a 1))), some (.int (nI (a 0))), some (.int (nI (x % a 1))), some (.int (nI (x / 6 % a 0))), some (.int (nI (yF a x))), some (.int (nI (1 + x % 9))), some (.int (nI (x % 50)))] [] h Q
  refine z_aload_n dX8_act_114 rfl rfl ?_
  refine z_iload dX8_act_115 rfl ?_
  refine z_iload dX8_act_117 rfl ?_
  refine z_iload dX8_act_119 rfl ?_
  refine z_iload dX8_act_121 rfl ?_
  refine y_callV (as := [_, _, _, _]) CX8_mayForetell LX8_109 IX8_mayForetell VX8_mayForetell ⟨rfl, Nat.le_of_ble_eq_true rfl⟩ dX8_act_123 c1.1.1 rfl (Nat.le_of_ble_eq_true rfl) (Nat.le_of_ble_eq_true rfl) (by omega) (c_mayForetell (d := 3) c1.1.1 c1.1.2.1 c1.1.2.2.2.2.1 c1.2 hj.1.1 hj.ip _ _ _ _ (Nat.le_refl _)) (rok_z bI_01) ⟨Nat.le_refl _, Nat.le_refl _, hN, hS⟩ ?_
  refine z_if_eq dX8_act_126 rfl (fun _ => ?_) (fun c => absurd (bI_eq0.mpr (fun q => hk q.1)) c)
  refine z_vret dX8_act_153 ?_
  exact hQ

theorem c_act_t0 {h : Hp} {a : Fl} {tf : Nat → Int32} {d x : Nat} (c1 : CZ h a tf) (hj : JY tf a) (hx : x < 30553) (hd : 4 ≤ d) (z1 : a 1 ≠ 0) (z0 : a 0 ≠ 0) (h6 : x % 6 = 2) (hk : okT a (nI (x % a 1)) (nI (x / 6 % a 0)) 0) : ∃ h1, Sp d mX8_act [.ref 8, .int (nI x), .int (nI (x % 6))] h none h1 ∧ CZ h1 (mTurn a (x % a 1) (x / 6 % a 0)) tf ∧ FZ h h1 := by
  have v0 := hj.1.1.1
  have v1 := hj.1.1.2.1
  have v4 := hj.1.1.2.2.2.2.1
  have b1 : x % a 1 < a 1 := Nat.mod_lt _ (by omega)
  have b0 : x % a 0 < a 0 := Nat.mod_lt _ (by omega)
  have b2 : x / 6 % a 0 < a 0 := Nat.mod_lt _ (by omega)
  obtain ⟨hk1, hk2, hk3, hk4⟩ := id hk
  rw [nn_nI (by omega), nn_nI (by omega)] at hk4
  obtain ⟨g, q1, q2, q3⟩ := c_doTurn (d := 2) (j := x % a 1) (k := x / 6 % a 0) c1.1.1 c1.1.2.1 c1.1.2.2.2.2.1 c1.2 hj.1.1 b1 b2 (by rw [snap_pp (by omega) (by omega)]; exact hk4) (Nat.le_refl _)
  have q3 : FR 9 236 h g := q3
  refine ⟨g, ?_, c1.of q3 q2 (by show uns a _ 4 ≤ 30; rw [uns_o (by omega)]; exact v4), q3.z⟩
  intro N S Q hN hS hQ
  have hN : pn h ≤ N := by rw [← q3.1.n]; exact hN
  have hS : ps h ≤ S := by rw [← q3.1.s]; exact hS
  refine z_aload_n dX8_act_0 rfl rfl ?_
  refine y_getR FX8_10 dX8_act_1 rfl c1.1.1 c1.1.2.1 ?_
  refine y_getR FX8_79 dX8_act_4 rfl c1.1.2.2.2.2.1.o c1.1.2.2.2.2.1.f0 ?_
  refine y_getR FX8_82 dX8_act_7 rfl c1.1.2.2.2.2.1.now.1 c1.1.2.2.2.2.1.now.2.1 ?_
  refine y_getI FX8_130 dX8_act_10 (Or.inl rfl) c1.1.2.2.2.2.1.now.2.2.1.1 ?_
  refine z_eqi (y := nI (a 1)) (show _ = nI (a 1) from c1.2.1.2.2.2.1.2.2.1) ?_
  refine z_istore_n dX8_act_13 rfl (Nat.le_of_ble_eq_true rfl) ?_
  refine z_aload_n dX8_act_14 rfl rfl ?_
  refine y_getR FX8_10 dX8_act_15 rfl c1.1.1 c1.1.2.1 ?_
  refine y_getR FX8_65 dX8_act_18 rfl c1.1.2.2.2.2.1.o c1.1.2.2.2.2.1.f4 ?_
  refine y_getI FX8_130 dX8_act_21 (Or.inl rfl) c1.1.2.2.2.2.1.facts.1 ?_
  refine z_eqi (y := nI (a 0)) (show _ = nI (a 0) from c1.2.2.2.2.2.1.1.2.2.1) ?_
  refine z_istore dX8_act_24 (Nat.le_of_ble_eq_true rfl) ?_
  refine z_iload_n dX8_act_26 rfl rfl ?_
  refine z_if_eq dX8_act_27 rfl (fun c => absurd c (fun q => absurd ((nI_eq (b := 0) (by omega) (by omega)).mp q) (by omega))) (fun _ => ?_)
  refine z_iload dX8_act_30 rfl ?_
  refine z_if_ne dX8_act_32 rfl (fun _ => ?_) (fun c => absurd c (fun q => absurd ((nI_eq (b := 0) (by omega) (by omega)).mp q) (by omega)))
  refine z_iload_n dX8_act_36 rfl rfl ?_
  refine z_iload_n dX8_act_37 rfl rfl ?_
  refine z_irem dX8_act_38 (fun q => absurd ((nI_eq (b := 0) (by omega) (by omega)).mp q) (by omega)) ?_
  refine z_eqi (irem_n (a := x) (d := a 1) (by omega) (by omega) (by omega)) ?_
  refine z_istore dX8_act_39 (Nat.le_of_ble_eq_true rfl) ?_
  refine z_iload_n dX8_act_41 rfl rfl ?_
  refine z_bipush (v := 6) dX8_act_42 (by decide) ?_
  refine z_idiv dX8_act_44 (by decide) ?_
  refine z_eqi (pk_div (a := x) (d := 6) (by omega) (by omega) (by omega)) ?_
  refine z_iload dX8_act_45 rfl ?_
  refine z_irem dX8_act_47 (fun q => absurd ((nI_eq (b := 0) (by omega) (by omega)).mp q) (by omega)) ?_
  refine z_eqi (irem_n (a := x / 6) (d := a 0) (by omega) (by omega) (by omega)) ?_
  refine z_istore dX8_act_48 (Nat.le_of_ble_eq_true rfl) ?_
  show T d N S mX8_act 50 [some (.ref 8), some (.int (nI x)), some (.int (nI (x % 6))), some (.int (nI (a 1))), some (.int (nI (a 0))), some (.int (nI (x % a 1))), some (.int (nI (x / 6 % a 0))), none, none, none] [] h Q
  refine z_iload_n dX8_act_50 rfl rfl ?_
  refine z_iconst (v := 2) dX8_act_51 (by decide) ?_
  refine z_icmp_lt dX8_act_52 rfl (fun c => absurd c (fun q => absurd ((nI_ltI (b := 2) (by omega) (by omega)).mp q) (by omega))) (fun _ => ?_)
  refine z_aload_n dX8_act_55 rfl rfl ?_
  refine z_iload dX8_act_56 rfl ?_
  refine z_iload dX8_act_58 rfl ?_
  refine z_iload_n dX8_act_60 rfl rfl ?_
  refine z_iconst (v := 3) dX8_act_61 (by decide) ?_
  refine z_icmp_ne dX8_act_62 rfl (fun _ => ?_) (fun c => absurd c (fun q => absurd ((nI_eq (b := 3) (by omega) (by omega)).mp q) (by omega)))
  refine z_iconst (v := 0) dX8_act_69 (by decide) ?_
  refine y_callV (as := [_, _, _]) CX8_mayTurn LX8_147 IX8_mayTurn VX8_mayTurn ⟨rfl, Nat.le_of_ble_eq_true rfl⟩ dX8_act_70 c1.1.1 rfl (Nat.le_of_ble_eq_true rfl) (Nat.le_of_ble_eq_true rfl) (by omega) (c_mayTurn (so := 0) (d := 2) c1.1.1 c1.1.2.1 c1.1.2.2.2.2.1 c1.2 hj.1.1 hj.ip hj.1.2.2.1 _ _ (by omega) (Nat.le_refl _)) (rok_z bI_01) ⟨Nat.le_refl _, Nat.le_refl _, hN, hS⟩ ?_
  refine z_if_eq dX8_act_73 rfl (fun c => absurd c (bI_ne0.mpr hk)) (fun _ => ?_)
  refine z_aload_n dX8_act_76 rfl rfl ?_
  refine z_iload dX8_act_77 rfl ?_
  refine z_iload dX8_act_79 rfl ?_
  refine y_callV (as := [_, _]) CX8_doTurn LX8_151 IX8_doTurn VX8_doTurn ⟨rfl, Nat.le_of_ble_eq_true rfl⟩ dX8_act_81 c1.1.1 rfl (Nat.le_of_ble_eq_true rfl) (Nat.le_of_ble_eq_true rfl) (by omega) q1 rok_v (hg_ss q3.1 hN hS) ?_
  refine z_vret dX8_act_84 ?_
  exact hQ

theorem c_act_n0 {h : Hp} {a : Fl} {tf : Nat → Int32} {d x : Nat} (c1 : CZ h a tf) (hj : JY tf a) (hx : x < 30553) (hd : 4 ≤ d) (z1 : a 1 ≠ 0) (z0 : a 0 ≠ 0) (h6 : x % 6 = 2) (hk : ¬ okT a (nI (x % a 1)) (nI (x / 6 % a 0)) 0) : Sp d mX8_act [.ref 8, .int (nI x), .int (nI (x % 6))] h none h := by
  have v0 := hj.1.1.1
  have v1 := hj.1.1.2.1
  have v4 := hj.1.1.2.2.2.2.1
  have b1 : x % a 1 < a 1 := Nat.mod_lt _ (by omega)
  have b0 : x % a 0 < a 0 := Nat.mod_lt _ (by omega)
  have b2 : x / 6 % a 0 < a 0 := Nat.mod_lt _ (by omega)
  intro N S Q hN hS hQ
  refine z_aload_n dX8_act_0 rfl rfl ?_
  refine y_getR FX8_10 dX8_act_1 rfl c1.1.1 c1.1.2.1 ?_
  refine y_getR FX8_79 dX8_act_4 rfl c1.1.2.2.2.2.1.o c1.1.2.2.2.2.1.f0 ?_
  refine y_getR FX8_82 dX8_act_7 rfl c1.1.2.2.2.2.1.now.1 c1.1.2.2.2.2.1.now.2.1 ?_
  refine y_getI FX8_130 dX8_act_10 (Or.inl rfl) c1.1.2.2.2.2.1.now.2.2.1.1 ?_
  refine z_eqi (y := nI (a 1)) (show _ = nI (a 1) from c1.2.1.2.2.2.1.2.2.1) ?_
  refine z_istore_n dX8_act_13 rfl (Nat.le_of_ble_eq_true rfl) ?_
  refine z_aload_n dX8_act_14 rfl rfl ?_
  refine y_getR FX8_10 dX8_act_15 rfl c1.1.1 c1.1.2.1 ?_
  refine y_getR FX8_65 dX8_act_18 rfl c1.1.2.2.2.2.1.o c1.1.2.2.2.2.1.f4 ?_
  refine y_getI FX8_130 dX8_act_21 (Or.inl rfl) c1.1.2.2.2.2.1.facts.1 ?_
  refine z_eqi (y := nI (a 0)) (show _ = nI (a 0) from c1.2.2.2.2.2.1.1.2.2.1) ?_
  refine z_istore dX8_act_24 (Nat.le_of_ble_eq_true rfl) ?_
  refine z_iload_n dX8_act_26 rfl rfl ?_
  refine z_if_eq dX8_act_27 rfl (fun c => absurd c (fun q => absurd ((nI_eq (b := 0) (by omega) (by omega)).mp q) (by omega))) (fun _ => ?_)
  refine z_iload dX8_act_30 rfl ?_
  refine z_if_ne dX8_act_32 rfl (fun _ => ?_) (fun c => absurd c (fun q => absurd ((nI_eq (b := 0) (by omega) (by omega)).mp q) (by omega)))
  refine z_iload_n dX8_act_36 rfl rfl ?_
  refine z_iload_n dX8_act_37 rfl rfl ?_
  refine z_irem dX8_act_38 (fun q => absurd ((nI_eq (b := 0) (by omega) (by omega)).mp q) (by omega)) ?_
  refine z_eqi (irem_n (a := x) (d := a 1) (by omega) (by omega) (by omega)) ?_
  refine z_istore dX8_act_39 (Nat.le_of_ble_eq_true rfl) ?_
  refine z_iload_n dX8_act_41 rfl rfl ?_
  refine z_bipush (v := 6) dX8_act_42 (by decide) ?_
  refine z_idiv dX8_act_44 (by decide) ?_
  refine z_eqi (pk_div (a := x) (d := 6) (by omega) (by omega) (by omega)) ?_
  refine z_iload dX8_act_45 rfl ?_
  refine z_irem dX8_act_47 (fun q => absurd ((nI_eq (b := 0) (by omega) (by omega)).mp q) (by omega)) ?_
  refine z_eqi (irem_n (a := x / 6) (d := a 0) (by omega) (by omega) (by omega)) ?_
  refine z_istore dX8_act_48 (Nat.le_of_ble_eq_true rfl) ?_
  show T d N S mX8_act 50 [some (.ref 8), some (.int (nI x)), some (.int (nI (x % 6))), some (.int (nI (a 1))), some (.int (nI (a 0))), some (.int (nI (x % a 1))), some (.int (nI (x / 6 % a 0))), none, none, none] [] h Q
  refine z_iload_n dX8_act_50 rfl rfl ?_
  refine z_iconst (v := 2) dX8_act_51 (by decide) ?_
  refine z_icmp_lt dX8_act_52 rfl (fun c => absurd c (fun q => absurd ((nI_ltI (b := 2) (by omega) (by omega)).mp q) (by omega))) (fun _ => ?_)
  refine z_aload_n dX8_act_55 rfl rfl ?_
  refine z_iload dX8_act_56 rfl ?_
  refine z_iload dX8_act_58 rfl ?_
  refine z_iload_n dX8_act_60 rfl rfl ?_
  refine z_iconst (v := 3) dX8_act_61 (by decide) ?_
  refine z_icmp_ne dX8_act_62 rfl (fun _ => ?_) (fun c => absurd c (fun q => absurd ((nI_eq (b := 3) (by omega) (by omega)).mp q) (by omega)))
  refine z_iconst (v := 0) dX8_act_69 (by decide) ?_
  refine y_callV (as := [_, _, _]) CX8_mayTurn LX8_147 IX8_mayTurn VX8_mayTurn ⟨rfl, Nat.le_of_ble_eq_true rfl⟩ dX8_act_70 c1.1.1 rfl (Nat.le_of_ble_eq_true rfl) (Nat.le_of_ble_eq_true rfl) (by omega) (c_mayTurn (so := 0) (d := 2) c1.1.1 c1.1.2.1 c1.1.2.2.2.2.1 c1.2 hj.1.1 hj.ip hj.1.2.2.1 _ _ (by omega) (Nat.le_refl _)) (rok_z bI_01) ⟨Nat.le_refl _, Nat.le_refl _, hN, hS⟩ ?_
  refine z_if_eq dX8_act_73 rfl (fun _ => ?_) (fun c => absurd (bI_eq0.mpr hk) c)
  refine z_vret dX8_act_84 ?_
  exact hQ

theorem c_act_t1 {h : Hp} {a : Fl} {tf : Nat → Int32} {d x : Nat} (c1 : CZ h a tf) (hj : JY tf a) (hx : x < 30553) (hd : 4 ≤ d) (z1 : a 1 ≠ 0) (z0 : a 0 ≠ 0) (h6 : x % 6 = 3) (hk : okT a (nI (x % a 1)) (nI (x / 6 % a 0)) 1) : ∃ h1, Sp d mX8_act [.ref 8, .int (nI x), .int (nI (x % 6))] h none h1 ∧ CZ h1 (mTurn a (x % a 1) (x / 6 % a 0)) tf ∧ FZ h h1 := by
  have v0 := hj.1.1.1
  have v1 := hj.1.1.2.1
  have v4 := hj.1.1.2.2.2.2.1
  have b1 : x % a 1 < a 1 := Nat.mod_lt _ (by omega)
  have b0 : x % a 0 < a 0 := Nat.mod_lt _ (by omega)
  have b2 : x / 6 % a 0 < a 0 := Nat.mod_lt _ (by omega)
  obtain ⟨hk1, hk2, hk3, hk4⟩ := id hk
  rw [nn_nI (by omega), nn_nI (by omega)] at hk4
  obtain ⟨g, q1, q2, q3⟩ := c_doTurn (d := 2) (j := x % a 1) (k := x / 6 % a 0) c1.1.1 c1.1.2.1 c1.1.2.2.2.2.1 c1.2 hj.1.1 b1 b2 (by rw [snap_pp (by omega) (by omega)]; exact hk4) (Nat.le_refl _)
  have q3 : FR 9 236 h g := q3
  refine ⟨g, ?_, c1.of q3 q2 (by show uns a _ 4 ≤ 30; rw [uns_o (by omega)]; exact v4), q3.z⟩
  intro N S Q hN hS hQ
  have hN : pn h ≤ N := by rw [← q3.1.n]; exact hN
  have hS : ps h ≤ S := by rw [← q3.1.s]; exact hS
  refine z_aload_n dX8_act_0 rfl rfl ?_
  refine y_getR FX8_10 dX8_act_1 rfl c1.1.1 c1.1.2.1 ?_
  refine y_getR FX8_79 dX8_act_4 rfl c1.1.2.2.2.2.1.o c1.1.2.2.2.2.1.f0 ?_
  refine y_getR FX8_82 dX8_act_7 rfl c1.1.2.2.2.2.1.now.1 c1.1.2.2.2.2.1.now.2.1 ?_
  refine y_getI FX8_130 dX8_act_10 (Or.inl rfl) c1.1.2.2.2.2.1.now.2.2.1.1 ?_
  refine z_eqi (y := nI (a 1)) (show _ = nI (a 1) from c1.2.1.2.2.2.1.2.2.1) ?_
  refine z_istore_n dX8_act_13 rfl (Nat.le_of_ble_eq_true rfl) ?_
  refine z_aload_n dX8_act_14 rfl rfl ?_
  refine y_getR FX8_10 dX8_act_15 rfl c1.1.1 c1.1.2.1 ?_
  refine y_getR FX8_65 dX8_act_18 rfl c1.1.2.2.2.2.1.o c1.1.2.2.2.2.1.f4 ?_
  refine y_getI FX8_130 dX8_act_21 (Or.inl rfl) c1.1.2.2.2.2.1.facts.1 ?_
  refine z_eqi (y := nI (a 0)) (show _ = nI (a 0) from c1.2.2.2.2.2.1.1.2.2.1) ?_
  refine z_istore dX8_act_24 (Nat.le_of_ble_eq_true rfl) ?_
  refine z_iload_n dX8_act_26 rfl rfl ?_
  refine z_if_eq dX8_act_27 rfl (fun c => absurd c (fun q => absurd ((nI_eq (b := 0) (by omega) (by omega)).mp q) (by omega))) (fun _ => ?_)
  refine z_iload dX8_act_30 rfl ?_
  refine z_if_ne dX8_act_32 rfl (fun _ => ?_) (fun c => absurd c (fun q => absurd ((nI_eq (b := 0) (by omega) (by omega)).mp q) (by omega)))
  refine z_iload_n dX8_act_36 rfl rfl ?_
  refine z_iload_n dX8_act_37 rfl rfl ?_
  refine z_irem dX8_act_38 (fun q => absurd ((nI_eq (b := 0) (by omega) (by omega)).mp q) (by omega)) ?_
  refine z_eqi (irem_n (a := x) (d := a 1) (by omega) (by omega) (by omega)) ?_
  refine z_istore dX8_act_39 (Nat.le_of_ble_eq_true rfl) ?_
  refine z_iload_n dX8_act_41 rfl rfl ?_
  refine z_bipush (v := 6) dX8_act_42 (by decide) ?_
  refine z_idiv dX8_act_44 (by decide) ?_
  refine z_eqi (pk_div (a := x) (d := 6) (by omega) (by omega) (by omega)) ?_
  refine z_iload dX8_act_45 rfl ?_
  refine z_irem dX8_act_47 (fun q => absurd ((nI_eq (b := 0) (by omega) (by omega)).mp q) (by omega)) ?_
  refine z_eqi (irem_n (a := x / 6) (d := a 0) (by omega) (by omega) (by omega)) ?_
  refine z_istore dX8_act_48 (Nat.le_of_ble_eq_true rfl) ?_
  show T d N S mX8_act 50 [some (.ref 8), some (.int (nI x)), some (.int (nI (x % 6))), some (.int (nI (a 1))), some (.int (nI (a 0))), some (.int (nI (x % a 1))), some (.int (nI (x / 6 % a 0))), none, none, none] [] h Q
  refine z_iload_n dX8_act_50 rfl rfl ?_
  refine z_iconst (v := 2) dX8_act_51 (by decide) ?_
  refine z_icmp_lt dX8_act_52 rfl (fun c => absurd c (fun q => absurd ((nI_ltI (b := 2) (by omega) (by omega)).mp q) (by omega))) (fun _ => ?_)
  refine z_aload_n dX8_act_55 rfl rfl ?_
  refine z_iload dX8_act_56 rfl ?_
  refine z_iload dX8_act_58 rfl ?_
  refine z_iload_n dX8_act_60 rfl rfl ?_
  refine z_iconst (v := 3) dX8_act_61 (by decide) ?_
  refine z_icmp_ne dX8_act_62 rfl (fun c => absurd (congrArg nI (show _ = 3 by omega)) c) (fun _ => ?_)
  refine z_iconst (v := 1) dX8_act_65 (by decide) ?_
  refine z_goto dX8_act_66 rfl ?_
  refine y_callV (as := [_, _, _]) CX8_mayTurn LX8_147 IX8_mayTurn VX8_mayTurn ⟨rfl, Nat.le_of_ble_eq_true rfl⟩ dX8_act_70 c1.1.1 rfl (Nat.le_of_ble_eq_true rfl) (Nat.le_of_ble_eq_true rfl) (by omega) (c_mayTurn (so := 1) (d := 2) c1.1.1 c1.1.2.1 c1.1.2.2.2.2.1 c1.2 hj.1.1 hj.ip hj.1.2.2.1 _ _ (by omega) (Nat.le_refl _)) (rok_z bI_01) ⟨Nat.le_refl _, Nat.le_refl _, hN, hS⟩ ?_
  refine z_if_eq dX8_act_73 rfl (fun c => absurd c (bI_ne0.mpr hk)) (fun _ => ?_)
  refine z_aload_n dX8_act_76 rfl rfl ?_
  refine z_iload dX8_act_77 rfl ?_
  refine z_iload dX8_act_79 rfl ?_
  refine y_callV (as := [_, _]) CX8_doTurn LX8_151 IX8_doTurn VX8_doTurn ⟨rfl, Nat.le_of_ble_eq_true rfl⟩ dX8_act_81 c1.1.1 rfl (Nat.le_of_ble_eq_true rfl) (Nat.le_of_ble_eq_true rfl) (by omega) q1 rok_v (hg_ss q3.1 hN hS) ?_
  refine z_vret dX8_act_84 ?_
  exact hQ

theorem c_act_n1 {h : Hp} {a : Fl} {tf : Nat → Int32} {d x : Nat} (c1 : CZ h a tf) (hj : JY tf a) (hx : x < 30553) (hd : 4 ≤ d) (z1 : a 1 ≠ 0) (z0 : a 0 ≠ 0) (h6 : x % 6 = 3) (hk : ¬ okT a (nI (x % a 1)) (nI (x / 6 % a 0)) 1) : Sp d mX8_act [.ref 8, .int (nI x), .int (nI (x % 6))] h none h := by
  have v0 := hj.1.1.1
  have v1 := hj.1.1.2.1
  have v4 := hj.1.1.2.2.2.2.1
  have b1 : x % a 1 < a 1 := Nat.mod_lt _ (by omega)
  have b0 : x % a 0 < a 0 := Nat.mod_lt _ (by omega)
  have b2 : x / 6 % a 0 < a 0 := Nat.mod_lt _ (by omega)
  intro N S Q hN hS hQ
  refine z_aload_n dX8_act_0 rfl rfl ?_
  refine y_getR FX8_10 dX8_act_1 rfl c1.1.1 c1.1.2.1 ?_
  refine y_getR FX8_79 dX8_act_4 rfl c1.1.2.2.2.2.1.o c1.1.2.2.2.2.1.f0 ?_
  refine y_getR FX8_82 dX8_act_7 rfl c1.1.2.2.2.2.1.now.1 c1.1.2.2.2.2.1.now.2.1 ?_
  refine y_getI FX8_130 dX8_act_10 (Or.inl rfl) c1.1.2.2.2.2.1.now.2.2.1.1 ?_
  refine z_eqi (y := nI (a 1)) (show _ = nI (a 1) from c1.2.1.2.2.2.1.2.2.1) ?_
  refine z_istore_n dX8_act_13 rfl (Nat.le_of_ble_eq_true rfl) ?_
  refine z_aload_n dX8_act_14 rfl rfl ?_
  refine y_getR FX8_10 dX8_act_15 rfl c1.1.1 c1.1.2.1 ?_
  refine y_getR FX8_65 dX8_act_18 rfl c1.1.2.2.2.2.1.o c1.1.2.2.2.2.1.f4 ?_
  refine y_getI FX8_130 dX8_act_21 (Or.inl rfl) c1.1.2.2.2.2.1.facts.1 ?_
  refine z_eqi (y := nI (a 0)) (show _ = nI (a 0) from c1.2.2.2.2.2.1.1.2.2.1) ?_
  refine z_istore dX8_act_24 (Nat.le_of_ble_eq_true rfl) ?_
  refine z_iload_n dX8_act_26 rfl rfl ?_
  refine z_if_eq dX8_act_27 rfl (fun c => absurd c (fun q => absurd ((nI_eq (b := 0) (by omega) (by omega)).mp q) (by omega))) (fun _ => ?_)
  refine z_iload dX8_act_30 rfl ?_
  refine z_if_ne dX8_act_32 rfl (fun _ => ?_) (fun c => absurd c (fun q => absurd ((nI_eq (b := 0) (by omega) (by omega)).mp q) (by omega)))
  refine z_iload_n dX8_act_36 rfl rfl ?_
  refine z_iload_n dX8_act_37 rfl rfl ?_
  refine z_irem dX8_act_38 (fun q => absurd ((nI_eq (b := 0) (by omega) (by omega)).mp q) (by omega)) ?_
  refine z_eqi (irem_n (a := x) (d := a 1) (by omega) (by omega) (by omega)) ?_
  refine z_istore dX8_act_39 (Nat.le_of_ble_eq_true rfl) ?_
  refine z_iload_n dX8_act_41 rfl rfl ?_
  refine z_bipush (v := 6) dX8_act_42 (by decide) ?_
  refine z_idiv dX8_act_44 (by decide) ?_
  refine z_eqi (pk_div (a := x) (d := 6) (by omega) (by omega) (by omega)) ?_
  refine z_iload dX8_act_45 rfl ?_
  refine z_irem dX8_act_47 (fun q => absurd ((nI_eq (b := 0) (by omega) (by omega)).mp q) (by omega)) ?_
  refine z_eqi (irem_n (a := x / 6) (d := a 0) (by omega) (by omega) (by omega)) ?_
  refine z_istore dX8_act_48 (Nat.le_of_ble_eq_true rfl) ?_
  show T d N S mX8_act 50 [some (.ref 8), some (.int (nI x)), some (.int (nI (x % 6))), some (.int (nI (a 1))), some (.int (nI (a 0))), some (.int (nI (x % a 1))), some (.int (nI (x / 6 % a 0))), none, none, none] [] h Q
  refine z_iload_n dX8_act_50 rfl rfl ?_
  refine z_iconst (v := 2) dX8_act_51 (by decide) ?_
  refine z_icmp_lt dX8_act_52 rfl (fun c => absurd c (fun q => absurd ((nI_ltI (b := 2) (by omega) (by omega)).mp q) (by omega))) (fun _ => ?_)
  refine z_aload_n dX8_act_55 rfl rfl ?_
  refine z_iload dX8_act_56 rfl ?_
  refine z_iload dX8_act_58 rfl ?_
  refine z_iload_n dX8_act_60 rfl rfl ?_
  refine z_iconst (v := 3) dX8_act_61 (by decide) ?_
  refine z_icmp_ne dX8_act_62 rfl (fun c => absurd (congrArg nI (show _ = 3 by omega)) c) (fun _ => ?_)
  refine z_iconst (v := 1) dX8_act_65 (by decide) ?_
  refine z_goto dX8_act_66 rfl ?_
  refine y_callV (as := [_, _, _]) CX8_mayTurn LX8_147 IX8_mayTurn VX8_mayTurn ⟨rfl, Nat.le_of_ble_eq_true rfl⟩ dX8_act_70 c1.1.1 rfl (Nat.le_of_ble_eq_true rfl) (Nat.le_of_ble_eq_true rfl) (by omega) (c_mayTurn (so := 1) (d := 2) c1.1.1 c1.1.2.1 c1.1.2.2.2.2.1 c1.2 hj.1.1 hj.ip hj.1.2.2.1 _ _ (by omega) (Nat.le_refl _)) (rok_z bI_01) ⟨Nat.le_refl _, Nat.le_refl _, hN, hS⟩ ?_
  refine z_if_eq dX8_act_73 rfl (fun _ => ?_) (fun c => absurd (bI_eq0.mpr hk) c)
  refine z_vret dX8_act_84 ?_
  exact hQ

theorem c_act {h : Hp} {a : Fl} {tf : Nat → Int32} {d x : Nat} (c1 : CZ h a tf) (hj : JY tf a) (hx : x < 30553) (h3 : ¬ 3 < x % 6) (h35 : x % 6 = 3 → x % 5 = 0) (hd : 4 ≤ d) : ∃ h1, Sp d mX8_act [.ref 8, .int (nI x), .int (nI (x % 6))] h none h1 ∧ CZ h1 (mHap tf a x) tf ∧ FZ h h1 := by
  unfold mHap
  rw [if_neg h3]
  by_cases hz : a 1 = 0 ∨ a 0 = 0
  · rw [if_pos hz]
    by_cases hz1 : a 1 = 0
    · exact ⟨h, c_act_z1 c1 hj hx hd hz1, c1, FZ.rf⟩
    · exact ⟨h, c_act_z2 c1 hj hx hd hz1 (by omega), c1, FZ.rf⟩
  · rw [if_neg hz]
    have z1 : a 1 ≠ 0 := by omega
    have z0 : a 0 ≠ 0 := by omega
    by_cases h2 : x % 6 < 2
    · rw [if_pos h2]
      by_cases hk : okF a (nI (x % a 1))
      · rw [if_pos hk]
        by_cases h4 : x % 4 = 0
        · rw [show yAl x = 1 from if_pos h4]
          exact c_act_f1 c1 hj hx hd z1 z0 h2 h4 hk
        · rw [show yAl x = 0 from if_neg h4]
          exact c_act_f0 c1 hj hx hd z1 z0 h2 h4 hk
      · rw [if_neg hk]
        exact ⟨h, c_act_fn c1 hj hx hd z1 z0 h2 hk, c1, FZ.rf⟩
    · rw [if_neg h2]
      by_cases h22 : x % 6 = 2
      · rw [if_pos h22]
        by_cases hk : okT a (nI (x % a 1)) (nI (x / 6 % a 0)) 0
        · rw [if_pos hk]
          exact c_act_t0 c1 hj hx hd z1 z0 h22 hk
        · rw [if_neg hk]
          exact ⟨h, c_act_n0 c1 hj hx hd z1 z0 h22 hk, c1, FZ.rf⟩
      · rw [if_neg h22]
        have h33 : x % 6 = 3 := by omega
        have h5 := h35 h33
        by_cases hk : okT a (nI (x % a 1)) (nI (x / 6 % a 0)) 1
        · rw [if_pos ⟨h5, hk⟩]
          exact c_act_t1 c1 hj hx hd z1 z0 h33 hk
        · rw [if_neg (fun q => hk q.2)]
          exact ⟨h, c_act_n1 c1 hj hx hd z1 z0 h33 hk, c1, FZ.rf⟩

theorem c_takeTurn {h : Hp} {a : Fl} {tf : Nat → Int32} {d x : Nat} (c1 : CZ h a tf) (hj : JY tf a) (hx : x < 30553) (hd : 7 ≤ d) : ∃ h1, Sp d mX8_takeTurn [.ref 8, .int (nI x)] h none h1 ∧ CZ h1 (mHap tf a x) tf ∧ FZ h h1 := by
  have v8 := hj.1.1.2.2.2.2.2.2.2.2.1
  by_cases h3 : 3 < x % 6
  · have eq : mHap tf a x = if a 8 < 9999 then mPass tf a else a := if_pos h3
    rw [eq]
    by_cases h9 : a 8 < 9999
    · rw [if_pos h9]
      obtain ⟨g, q1, q2, q3⟩ := c_passN (d := 6) c1 hj.1 (Nat.le_refl _)
      refine ⟨g, ?_, q2, q3⟩
      intro N S Q hN hS hQ
      have hN : pn h ≤ N := by rw [← q3.1.n]; exact hN
      have hS : ps h ≤ S := by rw [← q3.1.s]; exact hS
      refine z_iload_n dX8_takeTurn_0 rfl rfl ?_
      refine z_bipush (v := 6) dX8_takeTurn_1 (by decide) ?_
      refine z_irem dX8_takeTurn_3 (by decide) ?_
      refine z_eqi (irem_n (a := x) (d := 6) (by omega) (by omega) (by omega)) ?_
      refine z_istore_n dX8_takeTurn_4 rfl (Nat.le_of_ble_eq_true rfl) ?_
      refine z_iload_n dX8_takeTurn_5 rfl rfl ?_
      refine z_iconst (v := 2) dX8_takeTurn_6 (by decide) ?_
      refine z_icmp_le dX8_takeTurn_7 rfl (fun c => absurd c (fun q => absurd ((nI_leI (b := 2) (by omega) (by omega)).mp q) (by omega))) (fun _ => ?_)
      refine z_iload_n dX8_takeTurn_10 rfl rfl ?_
      refine z_iconst (v := 3) dX8_takeTurn_11 (by decide) ?_
      refine z_icmp_ne dX8_takeTurn_12 rfl (fun _ => ?_) (fun c => absurd c (fun q => absurd ((nI_eq (b := 3) (by omega) (by omega)).mp q) (by omega)))
      refine z_iload_n dX8_takeTurn_27 rfl rfl ?_
      refine z_iconst (v := 3) dX8_takeTurn_28 (by decide) ?_
      refine z_icmp_le dX8_takeTurn_29 rfl (fun c => absurd c (fun q => absurd ((nI_leI (b := 3) (by omega) (by omega)).mp q) (by omega))) (fun _ => ?_)
      refine z_aload_n dX8_takeTurn_32 rfl rfl ?_
      refine y_getR FX8_10 dX8_takeTurn_33 rfl c1.1.1 c1.1.2.1 ?_
      refine y_getR FX8_79 dX8_takeTurn_36 rfl c1.1.2.2.2.2.1.o c1.1.2.2.2.2.1.f0 ?_
      refine y_getI FX8_133 dX8_takeTurn_39 (Or.inl rfl) c1.1.2.2.2.2.1.now.1 ?_
      refine z_eqi (y := nI (a 8)) (show _ = nI (a 8) from c1.2.1.1) ?_
      refine z_sipush (v := 9999) dX8_takeTurn_42 (by decide) ?_
      refine z_icmp_ge dX8_takeTurn_45 rfl (fun c => absurd c (fun q => absurd ((nI_leI (a := 9999) (by omega) (by omega)).mp q) (by omega))) (fun _ => ?_)
      refine z_aload_n dX8_takeTurn_48 rfl rfl ?_
      refine z_aload_n dX8_takeTurn_49 rfl rfl ?_
      refine y_getR FX8_10 dX8_takeTurn_50 rfl c1.1.1 c1.1.2.1 ?_
      refine y_getR FX8_79 dX8_takeTurn_53 rfl c1.1.2.2.2.2.1.o c1.1.2.2.2.2.1.f0 ?_
      refine y_callV (as := [_]) CX8_passDay LX8_173 IX8_passDay VX8_passDay ⟨rfl, Nat.le_of_ble_eq_true rfl⟩ dX8_takeTurn_56 c1.1.1 rfl (Nat.le_of_ble_eq_true rfl) (Nat.le_of_ble_eq_true rfl) (by omega) q1 rok_i (hg_ss q3.1 hN hS) ?_
      refine z_pop dX8_takeTurn_59 rfl ?_
      refine z_vret dX8_takeTurn_60 ?_
      exact hQ
    · rw [if_neg h9]
      refine ⟨h, ?_, c1, FZ.rf⟩
      intro N S Q hN hS hQ
      refine z_iload_n dX8_takeTurn_0 rfl rfl ?_
      refine z_bipush (v := 6) dX8_takeTurn_1 (by decide) ?_
      refine z_irem dX8_takeTurn_3 (by decide) ?_
      refine z_eqi (irem_n (a := x) (d := 6) (by omega) (by omega) (by omega)) ?_
      refine z_istore_n dX8_takeTurn_4 rfl (Nat.le_of_ble_eq_true rfl) ?_
      refine z_iload_n dX8_takeTurn_5 rfl rfl ?_
      refine z_iconst (v := 2) dX8_takeTurn_6 (by decide) ?_
      refine z_icmp_le dX8_takeTurn_7 rfl (fun c => absurd c (fun q => absurd ((nI_leI (b := 2) (by omega) (by omega)).mp q) (by omega))) (fun _ => ?_)
      refine z_iload_n dX8_takeTurn_10 rfl rfl ?_
      refine z_iconst (v := 3) dX8_takeTurn_11 (by decide) ?_
      refine z_icmp_ne dX8_takeTurn_12 rfl (fun _ => ?_) (fun c => absurd c (fun q => absurd ((nI_eq (b := 3) (by omega) (by omega)).mp q) (by omega)))
      refine z_iload_n dX8_takeTurn_27 rfl rfl ?_
      refine z_iconst (v := 3) dX8_takeTurn_28 (by decide) ?_
      refine z_icmp_le dX8_takeTurn_29 rfl (fun c => absurd c (fun q => absurd ((nI_leI (b := 3) (by omega) (by omega)).mp q) (by omega))) (fun _ => ?_)
      refine z_aload_n dX8_takeTurn_32 rfl rfl ?_
      refine y_getR FX8_10 dX8_takeTurn_33 rfl c1.1.1 c1.1.2.1 ?_
      refine y_getR FX8_79 dX8_takeTurn_36 rfl c1.1.2.2.2.2.1.o c1.1.2.2.2.2.1.f0 ?_
      refine y_getI FX8_133 dX8_takeTurn_39 (Or.inl rfl) c1.1.2.2.2.2.1.now.1 ?_
      refine z_eqi (y := nI (a 8)) (show _ = nI (a 8) from c1.2.1.1) ?_
      refine z_sipush (v := 9999) dX8_takeTurn_42 (by decide) ?_
      refine z_icmp_ge dX8_takeTurn_45 rfl (fun _ => ?_) (fun c => absurd ((nI_leI (a := 9999) (by omega) (by omega)).mpr (by omega)) c)
      refine z_vret dX8_takeTurn_60 ?_
      exact hQ
  · by_cases h35 : x % 6 = 3 → x % 5 = 0
    · obtain ⟨g, q1, q2, q3⟩ := c_act (d := 4) c1 hj hx h3 h35 (Nat.le_refl _)
      refine ⟨g, ?_, q2, q3⟩
      intro N S Q hN hS hQ
      have hN : pn h ≤ N := by rw [← q3.1.n]; exact hN
      have hS : ps h ≤ S := by rw [← q3.1.s]; exact hS
      by_cases h2 : x % 6 ≤ 2
      · skip
        refine z_iload_n dX8_takeTurn_0 rfl rfl ?_
        refine z_bipush (v := 6) dX8_takeTurn_1 (by decide) ?_
        refine z_irem dX8_takeTurn_3 (by decide) ?_
        refine z_eqi (irem_n (a := x) (d := 6) (by omega) (by omega) (by omega)) ?_
        refine z_istore_n dX8_takeTurn_4 rfl (Nat.le_of_ble_eq_true rfl) ?_
        refine z_iload_n dX8_takeTurn_5 rfl rfl ?_
        refine z_iconst (v := 2) dX8_takeTurn_6 (by decide) ?_
        refine z_icmp_le dX8_takeTurn_7 rfl (fun _ => ?_) (fun c => absurd ((nI_leI (b := 2) (by omega) (by omega)).mpr (by omega)) c)
        refine z_aload_n dX8_takeTurn_21 rfl rfl ?_
        refine z_iload_n dX8_takeTurn_22 rfl rfl ?_
        refine z_iload_n dX8_takeTurn_23 rfl rfl ?_
        refine y_callV (as := [_, _]) CX8_act LX8_254 IX8_act VX8_act ⟨rfl, Nat.le_of_ble_eq_true rfl⟩ dX8_takeTurn_24 c1.1.1 rfl (Nat.le_of_ble_eq_true rfl) (Nat.le_of_ble_eq_true rfl) (by omega) q1 rok_v (hg_ss q3.1 hN hS) ?_
        refine z_iload_n dX8_takeTurn_27 rfl rfl ?_
        refine z_iconst (v := 3) dX8_takeTurn_28 (by decide) ?_
        refine z_icmp_le dX8_takeTurn_29 rfl (fun _ => ?_) (fun c => absurd ((nI_leI (b := 3) (by omega) (by omega)).mpr (by omega)) c)
        refine z_vret dX8_takeTurn_60 ?_
        exact hQ
      · have h5 := h35 (by omega)
        refine z_iload_n dX8_takeTurn_0 rfl rfl ?_
        refine z_bipush (v := 6) dX8_takeTurn_1 (by decide) ?_
        refine z_irem dX8_takeTurn_3 (by decide) ?_
        refine z_eqi (irem_n (a := x) (d := 6) (by omega) (by omega) (by omega)) ?_
        refine z_istore_n dX8_takeTurn_4 rfl (Nat.le_of_ble_eq_true rfl) ?_
        refine z_iload_n dX8_takeTurn_5 rfl rfl ?_
        refine z_iconst (v := 2) dX8_takeTurn_6 (by decide) ?_
        refine z_icmp_le dX8_takeTurn_7 rfl (fun c => absurd c (fun q => absurd ((nI_leI (b := 2) (by omega) (by omega)).mp q) (by omega))) (fun _ => ?_)
        refine z_iload_n dX8_takeTurn_10 rfl rfl ?_
        refine z_iconst (v := 3) dX8_takeTurn_11 (by decide) ?_
        refine z_icmp_ne dX8_takeTurn_12 rfl (fun c => absurd (congrArg nI (show _ = 3 by omega)) c) (fun _ => ?_)
        refine z_iload_n dX8_takeTurn_15 rfl rfl ?_
        refine z_iconst (v := 5) dX8_takeTurn_16 (by decide) ?_
        refine z_irem dX8_takeTurn_17 (by decide) ?_
        refine z_eqi (irem_n (a := x) (d := 5) (by omega) (by omega) (by omega)) ?_
        refine z_if_ne dX8_takeTurn_18 rfl (fun c => absurd (congrArg nI (show _ = 0 by omega)) c) (fun _ => ?_)
        refine z_aload_n dX8_takeTurn_21 rfl rfl ?_
        refine z_iload_n dX8_takeTurn_22 rfl rfl ?_
        refine z_iload_n dX8_takeTurn_23 rfl rfl ?_
        refine y_callV (as := [_, _]) CX8_act LX8_254 IX8_act VX8_act ⟨rfl, Nat.le_of_ble_eq_true rfl⟩ dX8_takeTurn_24 c1.1.1 rfl (Nat.le_of_ble_eq_true rfl) (Nat.le_of_ble_eq_true rfl) (by omega) q1 rok_v (hg_ss q3.1 hN hS) ?_
        refine z_iload_n dX8_takeTurn_27 rfl rfl ?_
        refine z_iconst (v := 3) dX8_takeTurn_28 (by decide) ?_
        refine z_icmp_le dX8_takeTurn_29 rfl (fun _ => ?_) (fun c => absurd ((nI_leI (b := 3) (by omega) (by omega)).mpr (by omega)) c)
        refine z_vret dX8_takeTurn_60 ?_
        exact hQ
    · have eq : mHap tf a x = a := by
        unfold mHap
        rw [if_neg h3]
        split
        · rfl
        · rw [if_neg (by omega), if_neg (by omega), if_neg (fun q => h35 (fun _ => q.1))]
      rw [eq]
      refine ⟨h, ?_, c1, FZ.rf⟩
      intro N S Q hN hS hQ
      have h5 : ¬ x % 5 = 0 := fun q => h35 (fun _ => q)
      have h33 : x % 6 = 3 := by omega
      refine z_iload_n dX8_takeTurn_0 rfl rfl ?_
      refine z_bipush (v := 6) dX8_takeTurn_1 (by decide) ?_
      refine z_irem dX8_takeTurn_3 (by decide) ?_
      refine z_eqi (irem_n (a := x) (d := 6) (by omega) (by omega) (by omega)) ?_
      refine z_istore_n dX8_takeTurn_4 rfl (Nat.le_of_ble_eq_true rfl) ?_
      refine z_iload_n dX8_takeTurn_5 rfl rfl ?_
      refine z_iconst (v := 2) dX8_takeTurn_6 (by decide) ?_
      refine z_icmp_le dX8_takeTurn_7 rfl (fun c => absurd c (fun q => absurd ((nI_leI (b := 2) (by omega) (by omega)).mp q) (by omega))) (fun _ => ?_)
      refine z_iload_n dX8_takeTurn_10 rfl rfl ?_
      refine z_iconst (v := 3) dX8_takeTurn_11 (by decide) ?_
      refine z_icmp_ne dX8_takeTurn_12 rfl (fun c => absurd (congrArg nI (show _ = 3 by omega)) c) (fun _ => ?_)
      refine z_iload_n dX8_takeTurn_15 rfl rfl ?_
      refine z_iconst (v := 5) dX8_takeTurn_16 (by decide) ?_
      refine z_irem dX8_takeTurn_17 (by decide) ?_
      refine z_eqi (irem_n (a := x) (d := 5) (by omega) (by omega) (by omega)) ?_
      refine z_if_ne dX8_takeTurn_18 rfl (fun _ => ?_) (fun c => absurd c (fun q => absurd ((nI_eq (b := 0) (by omega) (by omega)).mp q) (by omega)))
      refine z_iload_n dX8_takeTurn_27 rfl rfl ?_
      refine z_iconst (v := 3) dX8_takeTurn_28 (by decide) ?_
      refine z_icmp_le dX8_takeTurn_29 rfl (fun _ => ?_) (fun c => absurd ((nI_leI (b := 3) (by omega) (by omega)).mpr (by omega)) c)
      refine z_vret dX8_takeTurn_60 ?_
      exact hQ

theorem c_years_loop {h : Hp} {a : Fl} {tf : Nat → Int32} {d n x : Nat} (hj : JY tf a) (hn : n ≤ 40) (hd : 8 ≤ d) : ∀ r i (h1 : Hp), i + r = n → CZ h1 (yrs tf i a) tf → FZ h h1 → ∃ h2, CZ h2 (yrs tf n a) tf ∧ FZ h h2 ∧ ∀ (N S : Nat) (Q : Option Value → Hp → Prop), pn h ≤ N → ps h ≤ S → Q (some (.int (nI (yrs tf n a 8)))) h2 → T d N S mX8_years 49 [some (.ref 8), some (.int (nI x)), some (.int (nI n)), some (.int (nI i))] [] h1 Q := by
  intro r
  induction r with
  | zero =>
    intro i h1 hi c1 f1
    have e : i = n := by omega
    subst e
    refine ⟨h1, c1, f1, fun N S Q hN hS hQ => ?_⟩
    refine z_iload_n dX8_years_49 rfl rfl ?_
    refine z_iload_n dX8_years_50 rfl rfl ?_
    refine z_icmp_ge dX8_years_51 rfl (fun _ => ?_) (fun c => absurd (Int32.le_refl _) c)
    refine z_aload_n dX8_years_74 rfl rfl ?_
    refine y_getR FX8_10 dX8_years_75 rfl c1.1.1 c1.1.2.1 ?_
    refine y_getR FX8_79 dX8_years_78 rfl c1.1.2.2.2.2.1.o c1.1.2.2.2.2.1.f0 ?_
    refine y_getI FX8_133 dX8_years_81 (Or.inl rfl) c1.1.2.2.2.2.1.now.1 ?_
    refine z_eqi (show _ = nI (yrs tf i a 8) from c1.2.1.1) ?_
    refine z_iret dX8_years_84 ?_
    exact hQ
  | succ r ih =>
    intro i h1 hi c1 f1
    have jy := jy_yrs hj i
    have es : yrs tf (i + 1) a = mHap tf (up (yrs tf i a) 9 (nxD (yrs tf i a 9))) (yrs tf i a 9) := rfl
    generalize yrs tf i a = V at *
    have v9 : V 9 < 30553 := jy.1.1.2.2.2.2.2.2.2.2.2.1
    have v9' : snap V 2 < 30553 := v9
    have j2 := jy.nx (v := nxD (V 9)) (Nat.mod_lt _ (by omega))
    have c2 := c1.x (v := nxD (V 9)) jy.1.1.2.2.2.2.1
    obtain ⟨g, q1, q2, q3⟩ := c_takeTurn (d := 7) c2 j2 v9 (Nat.le_refl _)
    have f2 : FZ h1 (sI h1 10 1 (nI (nxD (V 9)))) := (FR.rf.sI (by omega) : FR 9 236 h1 (sI h1 10 1 (nI (nxD (V 9))))).z
    obtain ⟨h2, k0, k1, K⟩ := ih (i + 1) g (by omega) (by rw [es]; exact q2) ((f1.tr f2).tr q3)
    refine ⟨h2, k0, k1, fun N S Q hN hS hQ => ?_⟩
    have hN1 : pn h1 ≤ N := by rw [f1.1.n]; exact hN
    have hS1 : ps h1 ≤ S := by rw [f1.1.s]; exact hS
    refine z_iload_n dX8_years_49 rfl rfl ?_
    refine z_iload_n dX8_years_50 rfl rfl ?_
    refine z_icmp_ge dX8_years_51 rfl (fun c => absurd c (fun q => absurd ((nI_leI (by omega) (by omega)).mp q) (by omega))) (fun _ => ?_)
    refine z_aload_n dX8_years_54 rfl rfl ?_
    refine z_aload_n dX8_years_55 rfl rfl ?_
    refine y_getR FX8_10 dX8_years_56 rfl c1.1.1 c1.1.2.1 ?_
    refine y_getR FX8_79 dX8_years_59 rfl c1.1.2.2.2.2.1.o c1.1.2.2.2.2.1.f0 ?_
    refine y_callV (as := []) CX7_draw LX8_177 IX7_draw VX7_draw ⟨rfl, Nat.le_of_ble_eq_true rfl⟩ dX8_years_62 c1.1.2.2.2.2.1.now.1 rfl (Nat.le_of_ble_eq_true rfl) (Nat.le_of_ble_eq_true rfl) (by omega) (c_draw c1.1.2.2.2.2.1.now c1.2.1 v9') rok_i ⟨Nat.le_refl _, Nat.le_refl _, hN1, hS1⟩ ?_
    refine y_callV (as := [_]) CX8_takeTurn LX8_251 IX8_takeTurn VX8_takeTurn ⟨rfl, Nat.le_of_ble_eq_true rfl⟩ dX8_years_65 c1.1.1 rfl (Nat.le_of_ble_eq_true rfl) (Nat.le_of_ble_eq_true rfl) (by omega) q1 rok_v (hg_ss q3.1 hN1 hS1) ?_
    refine z_iinc dX8_years_68 rfl (nI_1 _) (Nat.le_of_ble_eq_true rfl) ?_
    refine z_goto dX8_years_71 rfl ?_
    exact K N S Q hN hS hQ

theorem C_years {h : Hp} {a : Fl} {tf : Nat → Int32} {d : Nat} (c1 : CZ h a tf) (hj : JY tf a) (x n : Int32) (hd : 8 ≤ d) : ∃ h1, Sp d mX8_years [.ref 8, .int x, .int n] h (some (.int (mYears tf a x n).1)) h1 ∧ CZ h1 (mYears tf a x n).2 tf ∧ FZ h h1 := by
  have v4 := hj.1.1.2.2.2.2.1
  by_cases hc : inr x 0 9999 ∧ inr n 1 40
  · obtain ⟨n, hn, rfl⟩ := inr_of (n := 40) (x := n) (by omega) ⟨Int32.le_trans (by decide) hc.2.1, hc.2.2⟩
    obtain ⟨x, hx, rfl⟩ := inr_of (n := 9999) (by omega) hc.1
    have eq : mYears tf a (nI x) (nI n) = (nI (yrs tf n (up (mKeep a) 9 (x * 2 + 191)) 8), yrs tf n (up (mKeep a) 9 (x * 2 + 191))) := by
      unfold mYears
      rw [if_pos hc, nn_nI (by omega), nn_nI (by omega)]
    rw [eq]
    obtain ⟨g1, k1, k2, k3⟩ := c_rem (d := 3) c1 v4 (Nat.le_refl _)
    have jk := hj.keep
    have c2 := k2.x (v := x * 2 + 191) jk.1.1.2.2.2.2.1
    have j1 := jk.nx (v := x * 2 + 191) (by omega)
    have f2 : FZ g1 (sI g1 10 1 (nI (x * 2 + 191))) := (FR.rf.sI (by omega) : FR 9 236 g1 (sI g1 10 1 (nI (x * 2 + 191)))).z
    obtain ⟨h2, q1, q2, K⟩ := c_years_loop (h := sI g1 10 1 (nI (x * 2 + 191))) (x := x) (d := d) j1 hn hd n 0 _ (by omega) c2 FZ.rf
    have ff : FZ h h2 := (k3.tr f2).tr q2
    refine ⟨h2, ?_, q1, ff⟩
    intro N S Q hN hS hQ
    have hN : pn h ≤ N := by rw [← ff.1.n]; exact hN
    have hS : ps h ≤ S := by rw [← ff.1.s]; exact hS
    have hN1 : pn g1 ≤ N := by rw [k3.1.n]; exact hN
    have hS1 : ps g1 ≤ S := by rw [k3.1.s]; exact hS
    refine z_iload_n dX8_years_0 rfl rfl ?_
    refine z_iconst (v := 0) dX8_years_1 (by decide) ?_
    refine z_sipush (v := 9999) dX8_years_2 (by decide) ?_
    refine y_callS (as := [_, _, _]) CX8_within LX8_61 SX8_within dX8_years_5 rfl (Nat.le_of_ble_eq_true rfl) (Nat.le_of_ble_eq_true rfl) (by omega) (s_within _ _ _) (rok_z bI_01) ⟨Nat.le_refl _, Nat.le_refl _, hN, hS⟩ ?_
    refine z_if_eq dX8_years_8 rfl (fun c => absurd c (bI_ne0.mpr hc.1)) (fun _ => ?_)
    refine z_iload_n dX8_years_11 rfl rfl ?_
    refine z_iconst (v := 1) dX8_years_12 (by decide) ?_
    refine z_bipush (v := 40) dX8_years_13 (by decide) ?_
    refine y_callS (as := [_, _, _]) CX8_within LX8_61 SX8_within dX8_years_15 rfl (Nat.le_of_ble_eq_true rfl) (Nat.le_of_ble_eq_true rfl) (by omega) (s_within _ _ _) (rok_z bI_01) ⟨Nat.le_refl _, Nat.le_refl _, hN, hS⟩ ?_
    refine z_if_ne dX8_years_18 rfl (fun _ => ?_) (fun c => absurd c (bI_ne0.mpr hc.2))
    refine z_aload_n dX8_years_23 rfl rfl ?_
    refine y_getR FX8_10 dX8_years_24 rfl c1.1.1 c1.1.2.1 ?_
    refine y_callV (as := []) CX1_remember LX8_113 IX1_remember VX1_remember ⟨rfl, Nat.le_of_ble_eq_true rfl⟩ dX8_years_27 c1.1.2.2.2.2.1.o rfl (Nat.le_of_ble_eq_true rfl) (Nat.le_of_ble_eq_true rfl) (by omega) k1 rok_v (hg_ss k3.1 hN hS) ?_
    refine z_aload_n dX8_years_30 rfl rfl ?_
    refine y_getR FX8_10 dX8_years_31 rfl (k3.1.O c1.1.1) (by first | (rw [k3.1.R]; exact c1.1.2.1) | exact (congrFun (congrFun k3.1.R _) _).trans c1.1.2.1) ?_
    refine y_getR FX8_79 dX8_years_34 rfl (k3.1.O c1.1.2.2.2.2.1.o) (by first | (rw [k3.1.R]; exact c1.1.2.2.2.2.1.f0) | exact (congrFun (congrFun k3.1.R _) _).trans c1.1.2.2.2.2.1.f0) ?_
    refine z_iload_n dX8_years_37 rfl rfl ?_
    refine z_iconst (v := 2) dX8_years_38 (by decide) ?_
    refine z_imul dX8_years_39 ?_
    refine z_eqi (pk_mul x 2) ?_
    refine z_sipush (v := 191) dX8_years_40 (by decide) ?_
    refine z_iadd dX8_years_43 ?_
    refine z_eqi (nI_add (x * 2) 191) ?_
    refine y_putI FX8_248 dX8_years_44 (Or.inl rfl) (Or.inl rfl) (k3.1.O c1.1.2.2.2.2.1.now.1) ?_
    refine z_iconst (v := 0) dX8_years_47 (by decide) ?_
    refine z_istore_n dX8_years_48 rfl (Nat.le_of_ble_eq_true rfl) ?_
    exact K N S Q hN1 hS1 hQ
  · have eq : mYears tf a x n = (-1, a) := if_neg hc
    rw [eq]
    refine ⟨h, ?_, c1, FZ.rf⟩
    intro N S Q hN hS hQ
    by_cases k1 : inr x 0 9999
    · skip
      refine z_iload_n dX8_years_0 rfl rfl ?_
      refine z_iconst (v := 0) dX8_years_1 (by decide) ?_
      refine z_sipush (v := 9999) dX8_years_2 (by decide) ?_
      refine y_callS (as := [_, _, _]) CX8_within LX8_61 SX8_within dX8_years_5 rfl (Nat.le_of_ble_eq_true rfl) (Nat.le_of_ble_eq_true rfl) (by omega) (s_within _ _ _) (rok_z bI_01) ⟨Nat.le_refl _, Nat.le_refl _, hN, hS⟩ ?_
      refine z_if_eq dX8_years_8 rfl (fun c => absurd c (bI_ne0.mpr k1)) (fun _ => ?_)
      refine z_iload_n dX8_years_11 rfl rfl ?_
      refine z_iconst (v := 1) dX8_years_12 (by decide) ?_
      refine z_bipush (v := 40) dX8_years_13 (by decide) ?_
      refine y_callS (as := [_, _, _]) CX8_within LX8_61 SX8_within dX8_years_15 rfl (Nat.le_of_ble_eq_true rfl) (Nat.le_of_ble_eq_true rfl) (by omega) (s_within _ _ _) (rok_z bI_01) ⟨Nat.le_refl _, Nat.le_refl _, hN, hS⟩ ?_
      refine z_if_ne dX8_years_18 rfl (fun c => absurd (bI_eq0.mpr (fun q => hc ⟨k1, q⟩)) c) (fun _ => ?_)
      refine z_iconst (v := -1) dX8_years_21 (by decide) ?_
      refine z_iret dX8_years_22 ?_
      exact hQ
    · skip
      refine z_iload_n dX8_years_0 rfl rfl ?_
      refine z_iconst (v := 0) dX8_years_1 (by decide) ?_
      refine z_sipush (v := 9999) dX8_years_2 (by decide) ?_
      refine y_callS (as := [_, _, _]) CX8_within LX8_61 SX8_within dX8_years_5 rfl (Nat.le_of_ble_eq_true rfl) (Nat.le_of_ble_eq_true rfl) (by omega) (s_within _ _ _) (rok_z bI_01) ⟨Nat.le_refl _, Nat.le_refl _, hN, hS⟩ ?_
      refine z_if_eq dX8_years_8 rfl (fun _ => ?_) (fun c => absurd (bI_eq0.mpr k1) c)
      refine z_iconst (v := -1) dX8_years_21 (by decide) ?_
      refine z_iret dX8_years_22 ?_
      exact hQ

