/-! the reference reads acts; calls whose end is not known beforehand (wip/whole/gena4.py) -/
section CQ
variable {d d' N S : Nat} {M M' : Mi} {pc : Nat} {lv : List (Option Value)} {st : List Value} {h h1 : Hp} {Q P : Option Value → Hp → Prop} {k ci index n : Nat} {as : List Value} {r0 : Option Value}
theorem z_callVQ (hC' : CL M' n) (hL : LK M.1.cls index M') (hin : Cond.instanceMethod M'.1 ∈ TB) (hsel : Cond.selects M'.1.cls M'.1 M'.1 ∈ TB) (hci : (vwCl[ci]?).map (fun q => q.1) = some M'.1.cls ∧ ci < 10) (hd : decode M.2.1 pc = .ok (.invokevirtual index, 3)) (ho : IO h ci k) (hn : as.length = n) (hla : (la (.ref k :: as)).length ≤ M'.2.2.1) (hroom : (st.map fun v => v.category).sum ≤ 8) (hdd : d + 1 ≤ d') (hT : T d (pn h) (ps h) M' 0 (lap M' (.ref k :: as)) [] h P) (hok : ∀ r h', P r h' → rok M'.2.2.2 r ∧ SS h h') (kk : ∀ r h', P r h' → T d' N S M (pc + 3) lv (r.toList ++ st) h' Q) : T d' N S M pc lv (as.reverse ++ .ref k :: st) h Q := by
  intro E p l e R s m args below meth cc H locs n0 s0 ls Z hC hR hS h1' h2 h3 h4 h5 h6' h7 h8 hl hq
  obtain ⟨c1, c2, c3, c4, c5, c6⟩ := hC'
  have hM := met_T l E c5 (by rw [lgsl_tv]; exact hla) hT (Nat.le_refl _) (Nat.le_refl _) (fun r h' hr => (hok r h' hr).1)
  have hws : ∀ w ∈ WS M', ∀ (a' : Array Value) (U : State), s.WarmedH U.vm → w.before a' U = true := by
    intro w hw a' U hW
    rcases List.mem_cons.mp hw with rfl | hw
    · exact mv_word c1 (cxW hC c1) hW
    · exact mv_word hw (cxW hC hw) hW
  have hsig : ∀ sig, parseMethodDescriptor M'.1.desc = some sig → n = sig.parameters.length := fun sig hs => by
    rw [hs] at c4
    exact (Option.some.inj c4).symm
  have hrm : (rmT d (pn h) (ps h) h).frames + 1 ≤ R.frames ∧ 8 + (M'.2.2.1 + 11) + (rmT d (pn h) (ps h) h).locals ≤ R.locals := ⟨by show d + 1 ≤ _; omega, by show 8 + (M'.2.2.1 + 11) + 48 * d ≤ _; omega⟩
  have hrecv : ∃ cell : Cell, H[ph E k]? = some cell ∧ cell.vm.isStatics = false ∧ s.vm.findClass M'.1.cls = some cell.cls := by
    have hat := hR.2.2.1 k ho.1 ho.2.1
    rw [pe_o ho.2.2 hci.2] at hat
    cases hcl : vwCl[ci]? with
    | none => rw [hcl] at hci; cases hci.1
    | some q =>
      have := va_recv (q0 := 0) (cxK hC) (va_P_one hat) hcl rfl
      rw [hcl] at hci
      rw [show M'.1.cls = q.1 from (Option.some.inj hci.1).symm]
      exact this
  have hPre : PreV s H M'.1.cls (ph E k) (PcT E (.ref k :: as) h) (as.map (tv E)) := ⟨pcT_blind, hrecv, fun U hU hW => ⟨rfl, by rw [hU]; exact hR, va_K.moved hW.alike (cxK hC), old_move (cxO hC) hS (cxB hC) hU hW, by rw [hU]; exact Nat.le_trans (cxB hC) hS.1⟩⟩
  have hfit : pn h - n0 + (pn h - pn h) ≤ R.cells ∧ ps h - s0 + (ps h - ps h) ≤ R.slots := ⟨by rw [h5]; omega, by rw [h6']; omega⟩
  have hstk : (F0 m pc ls (List.map (tv E) (as.reverse ++ .ref k :: st))).stack = (as.map (tv E)).reverse ++ .ref (ph E k) :: st.map (tv E) := by
    show List.map (tv E) (as.reverse ++ .ref k :: st) = _
    rw [List.map_append, List.map_reverse, List.map_cons]
    rfl
  have hrest : 2 * (F0 m pc ls (List.map (tv E) (as.reverse ++ .ref k :: st))).monitorRoom + ((st.map (tv E)).map fun v => v.category).sum ≤ 8 := lv_room (by rw [sum_tv]; exact hroom)
  have hrun : va_Run p l e R s m args below meth cc H locs (pn h - n0) (ps h - s0) (pn h - pn h) (ps h - ps h) (F0 m pc ls (List.map (tv E) (as.reverse ++ .ref k :: st))) (st.map (tv E)) (QcT E (pn h) (ps h) P (Value.ref (ph E k) :: as.map (tv E)).toArray) (pA E) := by
    rcases hL with hL | ⟨host, hL⟩
    · exact va_runV (As := as.map (tv E)) (b := ph E k) ⟨hC.1, hC.2.1, hC.2.2.1, hC.2.2.2.1, hC.2.2.2.2.1⟩ hM ⟨⟨rfl, rfl, hrm.1, hrm.2, hws, List.mem_cons_self, cxW hC c1, cxW hC c2, c3, hsig, cxW hC hL⟩, cxW hC hin, cxW hC hsel⟩ hPre rfl (by rw [List.length_map]; exact hn) hl.1 hstk hrest hd hfit
    · exact va_runVN (As := as.map (tv E)) (b := ph E k) ⟨hC.1, hC.2.1, hC.2.2.1, hC.2.2.2.1, hC.2.2.2.2.1⟩ hM ⟨⟨⟨rfl, rfl, hrm.1, hrm.2, hws, List.mem_cons_self⟩, cxW hC c1, cxW hC c2, c3, hsig, cxW hC hL⟩, cxW hC hin, cxW hC hsel⟩ hPre rfl (by rw [List.length_map]; exact hn) hl.1 hstk hrest hd hfit
  refine run_T hrun hS (fun r h' H1 locs1 hr hR1 hS1 => ?_)
  have hs := (hok r h' hr).2
  have this := kk r h' hr E p l e R s m args below meth cc H1 locs1 n0 s0 ls Z hC hR1 hS1 (by rw [hs.n]; omega) (by rw [hs.n]; omega) (by rw [hs.s]; omega) (by rw [hs.s]; omega) h5 h6' h7 h8 hl hq
  rw [show pn h - n0 + (pn h - pn h) = pn h' - n0 by rw [hs.n]; omega, show ps h - s0 + (ps h - ps h) = ps h' - s0 by rw [hs.s]; omega]
  rw [List.map_append] at this
  rw [show (Option.map (tv E) r).toList = r.toList.map (tv E) by cases r <;> rfl]
  exact this
/-- method M begun in h ends with some r and h' of P -/
def Sq (d : Nat) (M : Mi) (as : List Value) (h : Hp) (P : Option Value → Hp → Prop) : Prop := ∀ (N S : Nat) (Q : Option Value → Hp → Prop), pn h ≤ N → ps h ≤ S → (∀ r h', P r h' → Q r h') → T d N S M 0 (lap M as) [] h Q
theorem Sq.of (hs : Sp d M as h r0 h1) (s : SS h h1) (hp : P r0 h1) : Sq d M as h P := fun N S Q hN hS hQ => hs N S Q (ss_n' s hN) (ss_s' s hS) (hQ _ _ hp)
theorem Sq.deep (hs : Sq d M as h P) (hd : d ≤ d') : Sq d' M as h P := fun N S Q a b c => z_deep (hs N S Q a b c) hd
theorem y_callVQ (hC' : CL M' n) (hL : LK M.1.cls index M') (hin : Cond.instanceMethod M'.1 ∈ TB) (hsel : Cond.selects M'.1.cls M'.1 M'.1 ∈ TB) (hci : (vwCl[ci]?).map (fun q => q.1) = some M'.1.cls ∧ ci < 10) (hd : decode M.2.1 pc = .ok (.invokevirtual index, 3)) (ho : IO h ci k) (hn : as.length = n) (hla : (la (.ref k :: as)).length ≤ M'.2.2.1) (hroom : (st.map fun v => v.category).sum ≤ 8) (hdd : d + 1 ≤ d') (hT : Sq d M' (.ref k :: as) h P) (hok : ∀ r h', P r h' → rok M'.2.2.2 r ∧ SS h h') (kk : ∀ r h', P r h' → T d' N S M (pc + 3) lv (r.toList ++ st) h' Q) : T d' N S M pc lv (as.reverse ++ .ref k :: st) h Q :=
  z_callVQ hC' hL hin hsel hci hd ho hn hla hroom hdd (hT _ _ _ (Nat.le_refl _) (Nat.le_refl _) (fun _ _ q => q)) hok kk
end CQ
/-- the reference reads: at token i of text t, w of its code written, the laws on begun -/
def RTs (s : Ms) (t : Nat) (tf : Nat → Int32) (i w : Nat) (so : Int32) (on : Nat) (h : Hp) : Prop := RM (wTf s tf) h ∧ NTK s (tP (TPs s) (TNs s) i) h ∧ pI h 488 12 = nI (753 * t) ∧ pI h 488 13 = nI w ∧ pI h 488 14 = so ∧ pI h 488 19 = nI on
def FR4 (h h1 : Hp) : Prop := SS h h1 ∧ (∀ k, k ≠ 488 → k ≠ 491 → k ≠ 493 → pI h1 k = pI h k) ∧ (∀ k, k ≠ 488 → pJ h1 k = pJ h k)
theorem FR4.rf {h : Hp} : FR4 h h := ⟨SS.rf, fun _ _ _ _ => rfl, fun _ _ => rfl⟩
theorem FR4.tr {a b c : Hp} (x : FR4 a b) (y : FR4 b c) : FR4 a c := ⟨x.1.tr y.1, fun k q1 q2 q3 => (y.2.1 k q1 q2 q3).trans (x.2.1 k q1 q2 q3), fun k q => (y.2.2 k q).trans (x.2.2 k q)⟩
theorem FQ.x {h h1 : Hp} (f : FQ h h1) : FR4 h h1 := ⟨f.1, f.2.1, f.2.2.2⟩
theorem FR4.fm {h h1 : Hp} (f : FR4 h h1) : FM h h1 := ⟨f.1, fun k hk => ⟨f.2.1 k (by omega) (by omega) (by omega), f.2.2 k (by omega)⟩⟩
theorem FR4.i {h h1 : Hp} {k j : Nat} {v : Int32} (f : FR4 h h1) (hk : k = 488 ∨ k = 491) : FR4 h (sI h1 k j v) := ⟨f.1, fun a q1 q2 q3 => by rw [pI_sI_ne (by omega)]; exact f.2.1 a q1 q2 q3, f.2.2⟩
def upT (tf : Nat → Int32) (k : Nat) (v : Int32) : Nat → Int32 := fun j => if j = k then v else tf j
theorem upT_s {tf : Nat → Int32} {k : Nat} {v : Int32} : upT tf k v k = v := if_pos rfl
theorem upT_n {tf : Nat → Int32} {k j : Nat} {v : Int32} (h : j ≠ k) : upT tf k v j = tf j := if_neg h
theorem tk52 {tp : Fl} {n p : Nat} (h : tkK tp n p = 52) : p < n ∧ isD (tp p) = true := by
  unfold tkK at h
  split at h
  · omega
  · split at h
    · have := kdW_le (tp := tp) (p := p) (e := rnF isL tp n p)
      omega
    · split at h
      · next q1 _ q3 => exact ⟨by omega, q3⟩
      · split at h
        · split at h <;> omega
        · have := sg_ne (tp p)
          omega
section RTS
variable {s : Ms} {t : Nat} {tf : Nat → Int32} {i w on : Nat} {so : Int32} {h : Hp} {d : Nat}
theorem wN_le (hk : tK (TPs s) (TNs s) i = 52) : wN s i ≤ 1000000 := by
  have q := tk52 (show tkK (TPs s) (TNs s) (tP (TPs s) (TNs s) i) = 52 from hk)
  refine nmR_le _ (fun j hj => ?_)
  have hL : ¬ isL (TPs s (tP (TPs s) (TNs s) i)) = true := fun w => by have := isL_b w; have := isD_b.mp q.2; omega
  rw [show tkE (TPs s) (TNs s) (tP (TPs s) (TNs s) i) = rnF isD (TPs s) (TNs s) (tP (TPs s) (TNs s) i) by unfold tkE; rw [if_neg (by omega), if_neg hL, if_pos q.2]] at hj
  exact (isD_b.mp (rnF_all (P := isD) (tp := TPs s) (n := TNs s) (i := tP (TPs s) (TNs s) i) (j := tP (TPs s) (TNs s) i + j) (by omega) (by omega)).2).2
theorem RTs.tk (q : RTs s t tf i w so on h) : pI h 488 9 = nI (rtk (TPs s) (TNs s) (tP (TPs s) (TNs s) i)) := q.2.1.2.2.1
theorem RTs.nu (q : RTs s t tf i w so on h) (hk : tK (TPs s) (TNs s) i = 52) : pI h 488 10 = nI (wN s i) := by
  have q2 := tk52 (show tkK (TPs s) (TNs s) (tP (TPs s) (TNs s) i) = 52 from hk)
  exact q.2.1.2.2.2.2 q2.1 q2.2
theorem ITp.b (ht : ITp s) : ∀ p, p < TNs s → TPs s p < 256 := fun p hp => ht.2 p (by have := ht.1; have : TNs s = s.2.2.2.1 := rfl; omega)
theorem RTs.wr (q : RTs s t tf i w so on h) (x : Nat) (v : Int32) : RTs s t (upT tf x v) i w so on (sI h 491 x v) := ⟨rm_t q.1, q.2.1.fr (fun j _ _ => by rw [pI_sI_ne (by omega)]) rfl, by rw [pI_sI_ne (by omega)]; exact q.2.2.1, by rw [pI_sI_ne (by omega)]; exact q.2.2.2.1, by rw [pI_sI_ne (by omega)]; exact q.2.2.2.2.1, by rw [pI_sI_ne (by omega)]; exact q.2.2.2.2.2⟩
theorem r_nx (q : RTs s t tf i w so on h) (ht : ITp s) (hd : 1 ≤ d) : ∃ h1, Sp d mX9_nextToken [.ref 488] h none h1 ∧ RTs s t tf (i + 1) w so on h1 ∧ FR4 h h1 := by
  obtain ⟨hr, nt, e12, e13, e14, e19⟩ := q
  obtain ⟨h1, k1, k2, k3⟩ := r_nextToken (s := wTf s tf) (x := tA (TPs s) (TNs s) (i + 1)) (d := d) hr ht (tA_le _) nt.1 hd
  refine ⟨h1, k1, ⟨k2.rm hr, k3, ?_, ?_, ?_, ?_⟩, k2.q.x⟩
  · rw [k2.2.2.1 12 (by omega)]; exact e12
  · rw [k2.2.2.1 13 (by omega)]; exact e13
  · rw [k2.2.2.1 14 (by omega)]; exact e14
  · rw [k2.2.2.1 19 (by omega)]; exact e19
end RTS

theorem r_fig1 {s : Ms} {t : Nat} {tf : Nat → Int32} {i w on : Nat} {so : Int32} {h : Hp} {d : Nat} (q : RTs s t tf i w so on h) (ht : ITp s) {x lo hi : Nat} (hk : ¬ (tK (TPs s) (TNs s)) i = 52) : Sp d mX9_figure [.ref 488, .int (nI x), .int (nI lo), .int (nI hi)] h (some (.int 1)) h := by
  have hm := q.1.m
  have rb := rtk_lt (tp := TPs s) (n := TNs s) (p := (tP (TPs s) (TNs s) i)) (ht.b _)
  intro N S Q hN hS hQ
  refine z_aload_n dX9_figure_0 rfl rfl ?_
  refine y_getI FX9_106 dX9_figure_1 (Or.inl rfl) hm.o ?_
  refine z_eqi (y := nI (rtk (TPs s) (TNs s) (tP (TPs s) (TNs s) i))) q.tk ?_
  refine z_iconst (v := 1) dX9_figure_4 (by decide) ?_
  refine z_icmp_eq dX9_figure_5 rfl (fun c => absurd c (fun w => hk (rt_small.2.1.mp ((nI_eq (b := 1) (by omega) (by omega)).mp w)))) (fun _ => ?_)
  refine z_iconst (v := 1) dX9_figure_8 (by decide) ?_
  refine z_iret dX9_figure_9 ?_
  exact hQ
theorem r_fig2 {s : Ms} {t : Nat} {tf : Nat → Int32} {i w on : Nat} {so : Int32} {h : Hp} {d : Nat} (q : RTs s t tf i w so on h) (ht : ITp s) {x lo hi : Nat} (hk : (tK (TPs s) (TNs s)) i = 52) (hl : ¬ (lo ≤ wN s i ∧ wN s i ≤ hi)) (hb : lo ≤ 9999 ∧ hi ≤ 9999) (hd : 1 ≤ d) : Sp d mX9_figure [.ref 488, .int (nI x), .int (nI lo), .int (nI hi)] h (some (.int 2)) h := by
  have hm := q.1.m
  have rb := rtk_lt (tp := TPs s) (n := TNs s) (p := (tP (TPs s) (TNs s) i)) (ht.b _)
  have wb := wN_le hk
  intro N S Q hN hS hQ
  refine z_aload_n dX9_figure_0 rfl rfl ?_
  refine y_getI FX9_106 dX9_figure_1 (Or.inl rfl) hm.o ?_
  refine z_eqi (y := nI (rtk (TPs s) (TNs s) (tP (TPs s) (TNs s) i))) q.tk ?_
  refine z_iconst (v := 1) dX9_figure_4 (by decide) ?_
  refine z_icmp_eq dX9_figure_5 rfl (fun _ => ?_) (fun c => absurd (congrArg nI (rt_small.2.1.mpr hk)) c)
  refine z_aload_n dX9_figure_10 rfl rfl ?_
  refine y_getI FX9_112 dX9_figure_11 (Or.inl rfl) hm.o ?_
  refine z_eqi (y := nI (wN s i)) (q.nu hk) ?_
  refine z_iload_n dX9_figure_14 rfl rfl ?_
  refine z_iload_n dX9_figure_15 rfl rfl ?_
  refine y_callS (as := [_, _, _]) CX9_isIn LX9_63 SX9_isIn dX9_figure_16 rfl (Nat.le_of_ble_eq_true rfl) (Nat.le_of_ble_eq_true rfl) (by omega) (r_isIn _ _ _) (rok_z bI_01) ⟨Nat.le_refl _, Nat.le_refl _, hN, hS⟩ ?_
  refine z_if_ne dX9_figure_19 rfl (fun c => absurd (bI_eq0.mpr (fun w => hl ⟨(nI_leI (by omega) (by omega)).mp w.1, (nI_leI (by omega) (by omega)).mp w.2⟩)) c) (fun _ => ?_)
  refine z_iconst (v := 2) dX9_figure_22 (by decide) ?_
  refine z_iret dX9_figure_23 ?_
  exact hQ
theorem r_figY {s : Ms} {t : Nat} {tf : Nat → Int32} {i w on : Nat} {so : Int32} {h : Hp} {d : Nat} (q : RTs s t tf i w so on h) (ht : ITp s) {x lo hi : Nat} (hk : (tK (TPs s) (TNs s)) i = 52) (hl : lo ≤ wN s i ∧ wN s i ≤ hi) (hb : lo ≤ 9999 ∧ hi ≤ 9999) (hx : x < 3012) (hd : 2 ≤ d) : ∃ h1, Sp d mX9_figure [.ref 488, .int (nI x), .int (nI lo), .int (nI hi)] h (some (.int 0)) h1 ∧ RTs s t (upT tf x (nI (wN s i))) (i + 1) w so on h1 ∧ FR4 h h1 := by
  have hm := q.1.m
  have rb := rtk_lt (tp := TPs s) (n := TNs s) (p := (tP (TPs s) (TNs s) i)) (ht.b _)
  have wb := wN_le hk
  obtain ⟨h1, s1, q1, f1⟩ := r_nx (d := 1) (q.wr x (nI (wN s i))) ht (Nat.le_refl _)
  have f2 : FR4 h h1 := (FR4.rf.i (Or.inr rfl)).tr f1
  refine ⟨h1, ?_, q1, f2⟩
  intro N S Q hN hS hQ
  have hN : pn h ≤ N := ss_n f2.1 hN
  have hS : ps h ≤ S := ss_s f2.1 hS
  refine z_aload_n dX9_figure_0 rfl rfl ?_
  refine y_getI FX9_106 dX9_figure_1 (Or.inl rfl) hm.o ?_
  refine z_eqi (y := nI (rtk (TPs s) (TNs s) (tP (TPs s) (TNs s) i))) q.tk ?_
  refine z_iconst (v := 1) dX9_figure_4 (by decide) ?_
  refine z_icmp_eq dX9_figure_5 rfl (fun _ => ?_) (fun c => absurd (congrArg nI (rt_small.2.1.mpr hk)) c)
  refine z_aload_n dX9_figure_10 rfl rfl ?_
  refine y_getI FX9_112 dX9_figure_11 (Or.inl rfl) hm.o ?_
  refine z_eqi (y := nI (wN s i)) (q.nu hk) ?_
  refine z_iload_n dX9_figure_14 rfl rfl ?_
  refine z_iload_n dX9_figure_15 rfl rfl ?_
  refine y_callS (as := [_, _, _]) CX9_isIn LX9_63 SX9_isIn dX9_figure_16 rfl (Nat.le_of_ble_eq_true rfl) (Nat.le_of_ble_eq_true rfl) (by omega) (r_isIn _ _ _) (rok_z bI_01) ⟨Nat.le_refl _, Nat.le_refl _, hN, hS⟩ ?_
  refine z_if_ne dX9_figure_19 rfl (fun _ => ?_) (fun c => absurd c (bI_ne0.mpr ⟨(nI_leI (by omega) (by omega)).mpr hl.1, (nI_leI (by omega) (by omega)).mpr hl.2⟩))
  refine z_aload_n dX9_figure_24 rfl rfl ?_
  refine y_getR FX9_16 dX9_figure_25 rfl hm.o hm.f_texts ?_
  refine z_iload_n dX9_figure_28 rfl rfl ?_
  refine z_aload_n dX9_figure_29 rfl rfl ?_
  refine y_getI FX9_112 dX9_figure_30 (Or.inl rfl) hm.o ?_
  refine z_eqi (y := nI (wN s i)) (q.nu hk) ?_
  refine y_iasN (x) dX9_figure_33 hm.A_texts (Nat.le_of_ble_eq_true rfl) (rfl) (by omega) ?_
  refine z_aload_n dX9_figure_34 rfl rfl ?_
  refine y_callV (as := []) CX9_nextToken LX9_173 IX9_nextToken VX9_nextToken ⟨rfl, Nat.le_of_ble_eq_true rfl⟩ dX9_figure_35 hm.o rfl (Nat.le_of_ble_eq_true rfl) (Nat.le_of_ble_eq_true rfl) (by omega) s1 rok_v (hg_ss f1.1 hN hS) ?_
  refine z_iconst (v := 0) dX9_figure_38 (by decide) ?_
  refine z_iret dX9_figure_39 ?_
  exact hQ

theorem r_wor0 {s : Ms} {t : Nat} {tf : Nat → Int32} {i w on : Nat} {so : Int32} {h : Hp} {d : Nat} (q : RTs s t tf i w so on h) (ht : ITp s) {x lo hi v k : Nat} (iff : (rtk (TPs s) (TNs s) (tP (TPs s) (TNs s) i) = 2 ∧ spR (TPs s) (tP (TPs s) (TNs s) i) (tkE (TPs s) (TNs s) (tP (TPs s) (TNs s) i) - (tP (TPs s) (TNs s) i)) = v) ↔ tkK (TPs s) (TNs s) (tP (TPs s) (TNs s) i) = k) (hv : v < 2 ^ 62) (hk : ¬ (tK (TPs s) (TNs s)) i = k) (hd : 1 ≤ d) : Sp d mX9_worded [.ref 488, .long (lN v), .int (nI x), .int (nI lo), .int (nI hi)] h (some (.int 1)) h := by
  have hm := q.1.m
  have rb := rtk_lt (tp := TPs s) (n := TNs s) (p := (tP (TPs s) (TNs s) i)) (ht.b _)
  intro N S Q hN hS hQ
  refine z_aload_n dX9_worded_0 rfl rfl ?_
  refine z_lload_n dX9_worded_1 rfl rfl ?_
  refine y_callV (as := [_]) CX9_isWord LX9_192 IX9_isWord VX9_isWord ⟨rfl, Nat.le_of_ble_eq_true rfl⟩ dX9_worded_2 hm.o rfl (Nat.le_of_ble_eq_true rfl) (Nat.le_of_ble_eq_true rfl) (by omega) (r_isWord (d := 0) (k := k) (by exact hm) ht q.2.1 tP_le hv iff) (rok_z bI_01) ⟨Nat.le_refl _, Nat.le_refl _, hN, hS⟩ ?_
  refine z_if_ne dX9_worded_5 rfl (fun c => absurd (bI_eq0.mpr hk) c) (fun _ => ?_)
  refine z_iconst (v := 1) dX9_worded_8 (by decide) ?_
  refine z_iret dX9_worded_9 ?_
  exact hQ
/-- behind its word: what figure does at the next token -/
theorem r_worY {s : Ms} {t : Nat} {tf : Nat → Int32} {i w on : Nat} {so : Int32} {h : Hp} {d : Nat} (q : RTs s t tf i w so on h) (ht : ITp s) {x lo hi v k : Nat} (iff : (rtk (TPs s) (TNs s) (tP (TPs s) (TNs s) i) = 2 ∧ spR (TPs s) (tP (TPs s) (TNs s) i) (tkE (TPs s) (TNs s) (tP (TPs s) (TNs s) i) - (tP (TPs s) (TNs s) i)) = v) ↔ tkK (TPs s) (TNs s) (tP (TPs s) (TNs s) i) = k) (hv : v < 2 ^ 62) (hk : (tK (TPs s) (TNs s)) i = k) {z : Int32} {P : Hp → Prop} (hf : ∀ h1, RTs s t tf (i + 1) w so on h1 → ∃ h2, Sp 2 mX9_figure [.ref 488, .int (nI x), .int (nI lo), .int (nI hi)] h1 (some (.int z)) h2 ∧ P h2 ∧ FR4 h1 h2) (hd : 3 ≤ d) : ∃ h2, Sp d mX9_worded [.ref 488, .long (lN v), .int (nI x), .int (nI lo), .int (nI hi)] h (some (.int z)) h2 ∧ P h2 ∧ FR4 h h2 := by
  have hm := q.1.m
  have rb := rtk_lt (tp := TPs s) (n := TNs s) (p := (tP (TPs s) (TNs s) i)) (ht.b _)
  obtain ⟨h1, s1, q1, f1⟩ := r_nx (d := 1) q ht (Nat.le_refl _)
  obtain ⟨h2, s2, p2, f2⟩ := hf h1 q1
  refine ⟨h2, ?_, p2, f1.tr f2⟩
  intro N S Q hN hS hQ
  have hN : pn h ≤ N := ss_n (f1.tr f2).1 hN
  have hS : ps h ≤ S := ss_s (f1.tr f2).1 hS
  have hN1 : pn h1 ≤ N := ss_n' f1.1 hN
  have hS1 : ps h1 ≤ S := ss_s' f1.1 hS
  refine z_aload_n dX9_worded_0 rfl rfl ?_
  refine z_lload_n dX9_worded_1 rfl rfl ?_
  refine y_callV (as := [_]) CX9_isWord LX9_192 IX9_isWord VX9_isWord ⟨rfl, Nat.le_of_ble_eq_true rfl⟩ dX9_worded_2 hm.o rfl (Nat.le_of_ble_eq_true rfl) (Nat.le_of_ble_eq_true rfl) (by omega) (r_isWord (d := 0) (k := k) (by exact hm) ht q.2.1 tP_le hv iff) (rok_z bI_01) ⟨Nat.le_refl _, Nat.le_refl _, hN, hS⟩ ?_
  refine z_if_ne dX9_worded_5 rfl (fun _ => ?_) (fun c => absurd c (bI_ne0.mpr hk))
  refine z_aload_n dX9_worded_10 rfl rfl ?_
  refine y_callV (as := []) CX9_nextToken LX9_173 IX9_nextToken VX9_nextToken ⟨rfl, Nat.le_of_ble_eq_true rfl⟩ dX9_worded_11 hm.o rfl (Nat.le_of_ble_eq_true rfl) (Nat.le_of_ble_eq_true rfl) (by omega) s1 rok_v (hg_ss f1.1 hN hS) ?_
  refine z_aload_n dX9_worded_14 rfl rfl ?_
  refine z_iload_n dX9_worded_15 rfl rfl ?_
  refine z_iload dX9_worded_16 rfl ?_
  refine z_iload dX9_worded_18 rfl ?_
  refine y_callV (as := [_, _, _]) CX9_figure LX9_224 IX9_figure VX9_figure ⟨rfl, Nat.le_of_ble_eq_true rfl⟩ dX9_worded_20 (f1.1.O hm.o) rfl (Nat.le_of_ble_eq_true rfl) (Nat.le_of_ble_eq_true rfl) (by omega) s2 rok_i (hg_ss f2.1 hN1 hS1) ?_
  refine z_iret dX9_worded_23 ?_
  exact hQ
/-- what is read and written of numbers with a word before each: their cells from x on -/
def wrN (tf : Nat → Int32) (x : Nat) : List Nat → Nat → Int32
  | [] => tf
  | v :: r => wrN (upT tf x (nI v)) (x + 1) r
theorem wrN_app (tf : Nat → Int32) : ∀ (ns : List Nat) (x v : Nat), wrN tf x (ns ++ [v]) = upT (wrN tf x ns) (x + ns.length) (nI v) := by
  intro ns
  induction ns generalizing tf with
  | nil => intro x v; rfl
  | cons u r ih =>
    intro x v
    show wrN (upT tf x (nI u)) (x + 1) (r ++ [v]) = upT (wrN (upT tf x (nI u)) (x + 1) r) (x + (r.length + 1)) (nI v)
    rw [ih, show x + 1 + r.length = x + (r.length + 1) by omega]
theorem wrN_n {tf : Nat → Int32} : ∀ (ns : List Nat) (x j : Nat), (j < x ∨ x + ns.length ≤ j) → wrN tf x ns j = tf j := by
  intro ns
  induction ns generalizing tf with
  | nil => intro x j _; rfl
  | cons u r ih =>
    intro x j hj
    have hj : j < x ∨ x + (r.length + 1) ≤ j := hj
    show wrN (upT tf x (nI u)) (x + 1) r j = tf j
    rw [ih (x + 1) j (by omega), upT_n (by omega)]
theorem wrN_y {tf : Nat → Int32} : ∀ (ns : List Nat) (x j v : Nat), ns[j]? = some v → wrN tf x ns (x + j) = nI v := by
  intro ns
  induction ns generalizing tf with
  | nil => intro x j v h; cases h
  | cons u r ih =>
    intro x j v h
    show wrN (upT tf x (nI u)) (x + 1) r (x + j) = nI v
    cases j with
    | zero =>
      cases h
      rw [wrN_n r (x + 1) (x + 0) (by omega)]
      exact upT_s
    | succ j =>
      rw [show x + (j + 1) = x + 1 + j by omega]
      exact ih (x + 1) j v h

