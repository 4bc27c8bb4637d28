/-! the law's cases (wip/whole/genb6.py) -/
/-- the script: L whole numbers xs at the cell 1 -/
def SCR (h : Hp) (L : Nat) (xs : Nat → Int32) : Prop := 1 < pn h ∧ pK h 1 = (10, L) ∧ ∀ i, i < L → pI h 1 i = xs i
def b01 (x : Int32) : Nat := if x = 0 then 0 else 1
theorem b01_01 (x : Int32) : b01 x = 0 ∨ b01 x = 1 := by
  unfold b01
  by_cases h : x = 0
  · rw [if_pos h]; exact Or.inl rfl
  · rw [if_neg h]; exact Or.inr rfl
/-- both do the same at these arguments, and what must hold holds again -/
def PrI (L : Nat) (xs : Nat → Int32) (I : Nat → Hp → Prop) (N S c : Nat) (M8 M9 : Mi) (as : List Value) (h : Hp) : Prop := ∃ x h1, Sp 139 M8 (.ref 8 :: as) h (some (.int x)) h1 ∧ rok M8.2.2.2 (some (.int x)) ∧ (pn h ≤ pn h1 ∧ ps h ≤ ps h1 ∧ pn h1 ≤ N ∧ ps h1 ≤ S) ∧ IO h1 9 488 ∧ SCR h1 L xs ∧ Sq 139 M9 (.ref 488 :: as) h1 (fun r' h2 => r' = some (.int x) ∧ SS h1 h2 ∧ I (c + 1) h2)
def PrJ (L : Nat) (xs : Nat → Int32) (I : Nat → Hp → Prop) (N S c : Nat) (M8 M9 : Mi) (as : List Value) (h : Hp) : Prop := ∃ x h1, Sp 139 M8 (.ref 8 :: as) h (some (.long x)) h1 ∧ rok M8.2.2.2 (some (.long x)) ∧ (pn h ≤ pn h1 ∧ ps h ≤ ps h1 ∧ pn h1 ≤ N ∧ ps h1 ≤ S) ∧ IO h1 9 488 ∧ SCR h1 L xs ∧ Sq 139 M9 (.ref 488 :: as) h1 (fun r' h2 => r' = some (.long x) ∧ SS h1 h2 ∧ I (c + 1) h2)
def lvL (i : Nat) : List (Option Value) := [some (.ref 1), some (.ref 8), some (.ref 488), some (.int (nI i))]
theorem l_ld {d N S pc i j L : Nat} {n : Int} {st : List Value} {h : Hp} {Q : Option Value → Hp → Prop} {xs : Nat → Int32} (d0 : decode cL_law pc = .ok (.aload_n 0, 1)) (d1 : decode cL_law (pc + 1) = .ok (.iload_n 3, 1)) (d2 : decode cL_law (pc + 1 + 1) = .ok (.iconst n, 1)) (hn : Int32.ofInt n = nI j) (d3 : decode cL_law (pc + 1 + 1 + 1) = .ok (.iadd, 1)) (d4 : decode cL_law (pc + 1 + 1 + 1 + 1) = .ok (.iaload, 1)) (c : SCR h L xs) (hL : L ≤ 3072) (hj : i + j < L) (kk : T d N S mL_law (pc + 5) (lvL i) (.int (xs (i + j)) :: st) h Q) : T d N S mL_law pc (lvL i) st h Q := by
  refine z_aload_n d0 rfl rfl ?_
  refine z_iload_n d1 rfl rfl ?_
  refine z_iconst d2 hn ?_
  refine z_iadd d3 ?_
  rw [nI_add]
  refine z_iald d4 c.1 c.2.1 (vp_in_nI hj (by omega)) ?_
  rw [nI_cl hj (by omega), c.2.2 _ hj]
  exact kk
theorem l_bl {d N S pc i : Nat} {x : Int32} {st : List Value} {h : Hp} {Q : Option Value → Hp → Prop} (d0 : decode cL_law pc = .ok (.ifCond .eq 7, 3)) (d1 : decode cL_law (pc + 3) = .ok (.iconst 1, 1)) (d2 : decode cL_law (pc + 3 + 1) = .ok (.goto 4, 3)) (d3 : decode cL_law (pc + 7) = .ok (.iconst 0, 1)) (kk : T d N S mL_law (pc + 7 + 1) (lvL i) (.int (nI (b01 x)) :: st) h Q) : T d N S mL_law pc (lvL i) (.int x :: st) h Q := by
  refine z_if_eq d0 (tgt := pc + 7) (by omega) (fun e => ?_) (fun e => ?_)
  · refine z_iconst (v := nI (b01 x)) d3 (by unfold b01; rw [if_pos e]; decide) kk
  · refine z_iconst (v := nI (b01 x)) d1 (by unfold b01; rw [if_neg e]; decide) ?_
    exact z_goto d2 (tgt := pc + 7 + 1) (by omega) kk

theorem law_fact {N S L i c : Nat} {xs : Nat → Int32} {h : Hp} {I : Nat → Hp → Prop} {Q : Option Value → Hp → Prop} (o8 : IO h 8 8) (sc : SCR h L xs) (hL : L ≤ 3072) (hi : i + 5 < L) (hp : PrI L xs I N S c mX8_fact mX9_fact [.int (xs (i + 1)), .int (xs (i + 2))] h) (kk : ∀ h2, I (c + 1) h2 → T 140 N S mL_law 1667 (lvL i) [] h2 Q) : T 140 N S mL_law 220 (lvL i) [] h Q := by
  obtain ⟨x, h1, s1, k1, g1, o9, sc1, s2⟩ := hp
  refine z_aload_n dL_law_220 rfl rfl ?_
  refine l_ld dL_law_221 dL_law_222 dL_law_223 (j := 1) (by decide) dL_law_224 dL_law_225 sc hL (by omega) ?_
  refine l_ld dL_law_226 dL_law_227 dL_law_228 (j := 2) (by decide) dL_law_229 dL_law_230 sc hL (by omega) ?_
  refine y_callV (as := [.int (xs (i + 1)), .int (xs (i + 2))]) (d := 139) CX8_fact LL_13 IX8_fact VX8_fact ⟨rfl, by decide⟩ dL_law_231 o8 rfl (Nat.le_of_ble_eq_true rfl) (Nat.le_of_ble_eq_true rfl) (Nat.le_refl _) s1 k1 g1 ?_
  refine z_aload_n dL_law_234 rfl rfl ?_
  refine l_ld dL_law_235 dL_law_236 dL_law_237 (j := 1) (by decide) dL_law_238 dL_law_239 sc1 hL (by omega) ?_
  refine l_ld dL_law_240 dL_law_241 dL_law_242 (j := 2) (by decide) dL_law_243 dL_law_244 sc1 hL (by omega) ?_
  refine y_callVQ (as := [.int (xs (i + 1)), .int (xs (i + 2))]) (d := 139) CX9_fact LL_17 IX9_fact VX9_fact ⟨rfl, by decide⟩ dL_law_245 o9 rfl (Nat.le_of_ble_eq_true rfl) (Nat.le_of_ble_eq_true rfl) (Nat.le_refl _) s2 (fun r h' q => ⟨by rw [q.1]; exact k1, q.2.1⟩) ?_
  rintro r h2 ⟨rfl, _, q⟩
  exact z_icmp_eq dL_law_248 (tgt := 1667) (by decide) (fun _ => kk h2 q) (fun e => absurd rfl e)

theorem law_prophet {N S L i c : Nat} {xs : Nat → Int32} {h : Hp} {I : Nat → Hp → Prop} {Q : Option Value → Hp → Prop} (o8 : IO h 8 8) (sc : SCR h L xs) (hL : L ≤ 3072) (hi : i + 5 < L) (hp : PrI L xs I N S c mX8_prophet mX9_prophet [.int (xs (i + 1)), .int (xs (i + 2))] h) (kk : ∀ h2, I (c + 1) h2 → T 140 N S mL_law 1667 (lvL i) [] h2 Q) : T 140 N S mL_law 253 (lvL i) [] h Q := by
  obtain ⟨x, h1, s1, k1, g1, o9, sc1, s2⟩ := hp
  refine z_aload_n dL_law_253 rfl rfl ?_
  refine l_ld dL_law_254 dL_law_255 dL_law_256 (j := 1) (by decide) dL_law_257 dL_law_258 sc hL (by omega) ?_
  refine l_ld dL_law_259 dL_law_260 dL_law_261 (j := 2) (by decide) dL_law_262 dL_law_263 sc hL (by omega) ?_
  refine y_callV (as := [.int (xs (i + 1)), .int (xs (i + 2))]) (d := 139) CX8_prophet LL_18 IX8_prophet VX8_prophet ⟨rfl, by decide⟩ dL_law_264 o8 rfl (Nat.le_of_ble_eq_true rfl) (Nat.le_of_ble_eq_true rfl) (Nat.le_refl _) s1 k1 g1 ?_
  refine z_aload_n dL_law_267 rfl rfl ?_
  refine l_ld dL_law_268 dL_law_269 dL_law_270 (j := 1) (by decide) dL_law_271 dL_law_272 sc1 hL (by omega) ?_
  refine l_ld dL_law_273 dL_law_274 dL_law_275 (j := 2) (by decide) dL_law_276 dL_law_277 sc1 hL (by omega) ?_
  refine y_callVQ (as := [.int (xs (i + 1)), .int (xs (i + 2))]) (d := 139) CX9_prophet LL_21 IX9_prophet VX9_prophet ⟨rfl, by decide⟩ dL_law_278 o9 rfl (Nat.le_of_ble_eq_true rfl) (Nat.le_of_ble_eq_true rfl) (Nat.le_refl _) s2 (fun r h' q => ⟨by rw [q.1]; exact k1, q.2.1⟩) ?_
  rintro r h2 ⟨rfl, _, q⟩
  exact z_icmp_eq dL_law_281 (tgt := 1667) (by decide) (fun _ => kk h2 q) (fun e => absurd rfl e)

theorem law_feed {N S L i c : Nat} {xs : Nat → Int32} {h : Hp} {I : Nat → Hp → Prop} {Q : Option Value → Hp → Prop} (o8 : IO h 8 8) (sc : SCR h L xs) (hL : L ≤ 3072) (hi : i + 5 < L) (hp : PrI L xs I N S c mX8_feed mX9_feed [.int (xs (i + 1)), .int (xs (i + 2)), .int (xs (i + 3)), .int (xs (i + 4)), .int (xs (i + 5))] h) (kk : ∀ h2, I (c + 1) h2 → T 140 N S mL_law 1667 (lvL i) [] h2 Q) : T 140 N S mL_law 286 (lvL i) [] h Q := by
  obtain ⟨x, h1, s1, k1, g1, o9, sc1, s2⟩ := hp
  refine z_aload_n dL_law_286 rfl rfl ?_
  refine l_ld dL_law_287 dL_law_288 dL_law_289 (j := 1) (by decide) dL_law_290 dL_law_291 sc hL (by omega) ?_
  refine l_ld dL_law_292 dL_law_293 dL_law_294 (j := 2) (by decide) dL_law_295 dL_law_296 sc hL (by omega) ?_
  refine l_ld dL_law_297 dL_law_298 dL_law_299 (j := 3) (by decide) dL_law_300 dL_law_301 sc hL (by omega) ?_
  refine l_ld dL_law_302 dL_law_303 dL_law_304 (j := 4) (by decide) dL_law_305 dL_law_306 sc hL (by omega) ?_
  refine l_ld dL_law_307 dL_law_308 dL_law_309 (j := 5) (by decide) dL_law_310 dL_law_311 sc hL (by omega) ?_
  refine y_callV (as := [.int (xs (i + 1)), .int (xs (i + 2)), .int (xs (i + 3)), .int (xs (i + 4)), .int (xs (i + 5))]) (d := 139) CX8_feed LL_22 IX8_feed VX8_feed ⟨rfl, by decide⟩ dL_law_312 o8 rfl (Nat.le_of_ble_eq_true rfl) (Nat.le_of_ble_eq_true rfl) (Nat.le_refl _) s1 k1 g1 ?_
  refine z_aload_n dL_law_315 rfl rfl ?_
  refine l_ld dL_law_316 dL_law_317 dL_law_318 (j := 1) (by decide) dL_law_319 dL_law_320 sc1 hL (by omega) ?_
  refine l_ld dL_law_321 dL_law_322 dL_law_323 (j := 2) (by decide) dL_law_324 dL_law_325 sc1 hL (by omega) ?_
  refine l_ld dL_law_326 dL_law_327 dL_law_328 (j := 3) (by decide) dL_law_329 dL_law_330 sc1 hL (by omega) ?_
  refine l_ld dL_law_331 dL_law_332 dL_law_333 (j := 4) (by decide) dL_law_334 dL_law_335 sc1 hL (by omega) ?_
  refine l_ld dL_law_336 dL_law_337 dL_law_338 (j := 5) (by decide) dL_law_339 dL_law_340 sc1 hL (by omega) ?_
  refine y_callVQ (as := [.int (xs (i + 1)), .int (xs (i + 2)), .int (xs (i + 3)), .int (xs (i + 4)), .int (xs (i + 5))]) (d := 139) CX9_feed LL_26 IX9_feed VX9_feed ⟨rfl, by decide⟩ dL_law_341 o9 rfl (Nat.le_of_ble_eq_true rfl) (Nat.le_of_ble_eq_true rfl) (Nat.le_refl _) s2 (fun r h' q => ⟨by rw [q.1]; exact k1, q.2.1⟩) ?_
  rintro r h2 ⟨rfl, _, q⟩
  exact z_icmp_eq dL_law_344 (tgt := 1667) (by decide) (fun _ => kk h2 q) (fun e => absurd rfl e)

theorem law_end {N S L i c : Nat} {xs : Nat → Int32} {h : Hp} {I : Nat → Hp → Prop} {Q : Option Value → Hp → Prop} (o8 : IO h 8 8) (sc : SCR h L xs) (hL : L ≤ 3072) (hi : i + 5 < L) (hp : PrI L xs I N S c mX8_end mX9_end [.int (xs (i + 1))] h) (kk : ∀ h2, I (c + 1) h2 → T 140 N S mL_law 1667 (lvL i) [] h2 Q) : T 140 N S mL_law 349 (lvL i) [] h Q := by
  obtain ⟨x, h1, s1, k1, g1, o9, sc1, s2⟩ := hp
  refine z_aload_n dL_law_349 rfl rfl ?_
  refine l_ld dL_law_350 dL_law_351 dL_law_352 (j := 1) (by decide) dL_law_353 dL_law_354 sc hL (by omega) ?_
  refine y_callV (as := [.int (xs (i + 1))]) (d := 139) CX8_end LL_27 IX8_end VX8_end ⟨rfl, by decide⟩ dL_law_355 o8 rfl (Nat.le_of_ble_eq_true rfl) (Nat.le_of_ble_eq_true rfl) (Nat.le_refl _) s1 k1 g1 ?_
  refine z_aload_n dL_law_358 rfl rfl ?_
  refine l_ld dL_law_359 dL_law_360 dL_law_361 (j := 1) (by decide) dL_law_362 dL_law_363 sc1 hL (by omega) ?_
  refine y_callVQ (as := [.int (xs (i + 1))]) (d := 139) CX9_end LL_31 IX9_end VX9_end ⟨rfl, by decide⟩ dL_law_364 o9 rfl (Nat.le_of_ble_eq_true rfl) (Nat.le_of_ble_eq_true rfl) (Nat.le_refl _) s2 (fun r h' q => ⟨by rw [q.1]; exact k1, q.2.1⟩) ?_
  rintro r h2 ⟨rfl, _, q⟩
  exact z_icmp_eq dL_law_367 (tgt := 1667) (by decide) (fun _ => kk h2 q) (fun e => absurd rfl e)

theorem law_text {N S L i c : Nat} {xs : Nat → Int32} {h : Hp} {I : Nat → Hp → Prop} {Q : Option Value → Hp → Prop} (o8 : IO h 8 8) (sc : SCR h L xs) (hL : L ≤ 3072) (hi : i + 5 < L) (hp : PrI L xs I N S c mX8_text mX9_text [] h) (kk : ∀ h2, I (c + 1) h2 → T 140 N S mL_law 1667 (lvL i) [] h2 Q) : T 140 N S mL_law 372 (lvL i) [] h Q := by
  obtain ⟨x, h1, s1, k1, g1, o9, sc1, s2⟩ := hp
  refine z_aload_n dL_law_372 rfl rfl ?_
  refine y_callV (as := []) (d := 139) CX8_text LL_32 IX8_text VX8_text ⟨rfl, by decide⟩ dL_law_373 o8 rfl (Nat.le_of_ble_eq_true rfl) (Nat.le_of_ble_eq_true rfl) (Nat.le_refl _) s1 k1 g1 ?_
  refine z_aload_n dL_law_376 rfl rfl ?_
  refine y_callVQ (as := []) (d := 139) CX9_text LL_36 IX9_text VX9_text ⟨rfl, by decide⟩ dL_law_377 o9 rfl (Nat.le_of_ble_eq_true rfl) (Nat.le_of_ble_eq_true rfl) (Nat.le_refl _) s2 (fun r h' q => ⟨by rw [q.1]; exact k1, q.2.1⟩) ?_
  rintro r h2 ⟨rfl, _, q⟩
  exact z_icmp_eq dL_law_380 (tgt := 1667) (by decide) (fun _ => kk h2 q) (fun e => absurd rfl e)

theorem law_fault {N S L i c : Nat} {xs : Nat → Int32} {h : Hp} {I : Nat → Hp → Prop} {Q : Option Value → Hp → Prop} (o8 : IO h 8 8) (sc : SCR h L xs) (hL : L ≤ 3072) (hi : i + 5 < L) (hp : PrI L xs I N S c mX8_fault mX9_fault [.int (xs (i + 1))] h) (kk : ∀ h2, I (c + 1) h2 → T 140 N S mL_law 1667 (lvL i) [] h2 Q) : T 140 N S mL_law 385 (lvL i) [] h Q := by
  obtain ⟨x, h1, s1, k1, g1, o9, sc1, s2⟩ := hp
  refine z_aload_n dL_law_385 rfl rfl ?_
  refine l_ld dL_law_386 dL_law_387 dL_law_388 (j := 1) (by decide) dL_law_389 dL_law_390 sc hL (by omega) ?_
  refine y_callV (as := [.int (xs (i + 1))]) (d := 139) CX8_fault LL_37 IX8_fault VX8_fault ⟨rfl, by decide⟩ dL_law_391 o8 rfl (Nat.le_of_ble_eq_true rfl) (Nat.le_of_ble_eq_true rfl) (Nat.le_refl _) s1 k1 g1 ?_
  refine z_aload_n dL_law_394 rfl rfl ?_
  refine l_ld dL_law_395 dL_law_396 dL_law_397 (j := 1) (by decide) dL_law_398 dL_law_399 sc1 hL (by omega) ?_
  refine y_callVQ (as := [.int (xs (i + 1))]) (d := 139) CX9_fault LL_40 IX9_fault VX9_fault ⟨rfl, by decide⟩ dL_law_400 o9 rfl (Nat.le_of_ble_eq_true rfl) (Nat.le_of_ble_eq_true rfl) (Nat.le_refl _) s2 (fun r h' q => ⟨by rw [q.1]; exact k1, q.2.1⟩) ?_
  rintro r h2 ⟨rfl, _, q⟩
  exact z_icmp_eq dL_law_403 (tgt := 1667) (by decide) (fun _ => kk h2 q) (fun e => absurd rfl e)

theorem law_by {N S L i c : Nat} {xs : Nat → Int32} {h : Hp} {I : Nat → Hp → Prop} {Q : Option Value → Hp → Prop} (o8 : IO h 8 8) (sc : SCR h L xs) (hL : L ≤ 3072) (hi : i + 5 < L) (hp : PrI L xs I N S c mX8_by mX9_by [.int (xs (i + 1))] h) (kk : ∀ h2, I (c + 1) h2 → T 140 N S mL_law 1667 (lvL i) [] h2 Q) : T 140 N S mL_law 408 (lvL i) [] h Q := by
  obtain ⟨x, h1, s1, k1, g1, o9, sc1, s2⟩ := hp
  refine z_aload_n dL_law_408 rfl rfl ?_
  refine l_ld dL_law_409 dL_law_410 dL_law_411 (j := 1) (by decide) dL_law_412 dL_law_413 sc hL (by omega) ?_
  refine y_callV (as := [.int (xs (i + 1))]) (d := 139) CX8_by LL_41 IX8_by VX8_by ⟨rfl, by decide⟩ dL_law_414 o8 rfl (Nat.le_of_ble_eq_true rfl) (Nat.le_of_ble_eq_true rfl) (Nat.le_refl _) s1 k1 g1 ?_
  refine z_aload_n dL_law_417 rfl rfl ?_
  refine l_ld dL_law_418 dL_law_419 dL_law_420 (j := 1) (by decide) dL_law_421 dL_law_422 sc1 hL (by omega) ?_
  refine y_callVQ (as := [.int (xs (i + 1))]) (d := 139) CX9_by LL_45 IX9_by VX9_by ⟨rfl, by decide⟩ dL_law_423 o9 rfl (Nat.le_of_ble_eq_true rfl) (Nat.le_of_ble_eq_true rfl) (Nat.le_refl _) s2 (fun r h' q => ⟨by rw [q.1]; exact k1, q.2.1⟩) ?_
  rintro r h2 ⟨rfl, _, q⟩
  exact z_icmp_eq dL_law_426 (tgt := 1667) (by decide) (fun _ => kk h2 q) (fun e => absurd rfl e)

theorem law_foretell {N S L i c : Nat} {xs : Nat → Int32} {h : Hp} {I : Nat → Hp → Prop} {Q : Option Value → Hp → Prop} (o8 : IO h 8 8) (sc : SCR h L xs) (hL : L ≤ 3072) (hi : i + 5 < L) (hp : PrI L xs I N S c mX8_foretell mX9_foretell [.int (xs (i + 1)), .int (nI (b01 (xs (i + 2)))), .int (xs (i + 3)), .int (xs (i + 4)), .int (xs (i + 5))] h) (kk : ∀ h2, I (c + 1) h2 → T 140 N S mL_law 1667 (lvL i) [] h2 Q) : T 140 N S mL_law 431 (lvL i) [] h Q := by
  obtain ⟨x, h1, s1, k1, g1, o9, sc1, s2⟩ := hp
  refine z_aload_n dL_law_431 rfl rfl ?_
  refine l_ld dL_law_432 dL_law_433 dL_law_434 (j := 1) (by decide) dL_law_435 dL_law_436 sc hL (by omega) ?_
  refine l_ld dL_law_437 dL_law_438 dL_law_439 (j := 2) (by decide) dL_law_440 dL_law_441 sc hL (by omega) ?_
  refine l_bl dL_law_442 dL_law_445 dL_law_446 dL_law_449 ?_
  refine l_ld dL_law_450 dL_law_451 dL_law_452 (j := 3) (by decide) dL_law_453 dL_law_454 sc hL (by omega) ?_
  refine l_ld dL_law_455 dL_law_456 dL_law_457 (j := 4) (by decide) dL_law_458 dL_law_459 sc hL (by omega) ?_
  refine l_ld dL_law_460 dL_law_461 dL_law_462 (j := 5) (by decide) dL_law_463 dL_law_464 sc hL (by omega) ?_
  refine y_callV (as := [.int (xs (i + 1)), .int (nI (b01 (xs (i + 2)))), .int (xs (i + 3)), .int (xs (i + 4)), .int (xs (i + 5))]) (d := 139) CX8_foretell LL_46 IX8_foretell VX8_foretell ⟨rfl, by decide⟩ dL_law_465 o8 rfl (Nat.le_of_ble_eq_true rfl) (Nat.le_of_ble_eq_true rfl) (Nat.le_refl _) s1 k1 g1 ?_
  refine z_aload_n dL_law_468 rfl rfl ?_
  refine l_ld dL_law_469 dL_law_470 dL_law_471 (j := 1) (by decide) dL_law_472 dL_law_473 sc1 hL (by omega) ?_
  refine l_ld dL_law_474 dL_law_475 dL_law_476 (j := 2) (by decide) dL_law_477 dL_law_478 sc1 hL (by omega) ?_
  refine l_bl dL_law_479 dL_law_482 dL_law_483 dL_law_486 ?_
  refine l_ld dL_law_487 dL_law_488 dL_law_489 (j := 3) (by decide) dL_law_490 dL_law_491 sc1 hL (by omega) ?_
  refine l_ld dL_law_492 dL_law_493 dL_law_494 (j := 4) (by decide) dL_law_495 dL_law_496 sc1 hL (by omega) ?_
  refine l_ld dL_law_497 dL_law_498 dL_law_499 (j := 5) (by decide) dL_law_500 dL_law_501 sc1 hL (by omega) ?_
  refine y_callVQ (as := [.int (xs (i + 1)), .int (nI (b01 (xs (i + 2)))), .int (xs (i + 3)), .int (xs (i + 4)), .int (xs (i + 5))]) (d := 139) CX9_foretell LL_50 IX9_foretell VX9_foretell ⟨rfl, by decide⟩ dL_law_502 o9 rfl (Nat.le_of_ble_eq_true rfl) (Nat.le_of_ble_eq_true rfl) (Nat.le_refl _) s2 (fun r h' q => ⟨by rw [q.1]; exact k1, q.2.1⟩) ?_
  rintro r h2 ⟨rfl, _, q⟩
  exact z_icmp_eq dL_law_505 (tgt := 1667) (by decide) (fun _ => kk h2 q) (fun e => absurd rfl e)

theorem law_bring {N S L i c : Nat} {xs : Nat → Int32} {h : Hp} {I : Nat → Hp → Prop} {Q : Option Value → Hp → Prop} (o8 : IO h 8 8) (sc : SCR h L xs) (hL : L ≤ 3072) (hi : i + 5 < L) (hp : PrI L xs I N S c mX8_bring mX9_bring [.int (xs (i + 1)), .int (xs (i + 2))] h) (kk : ∀ h2, I (c + 1) h2 → T 140 N S mL_law 1667 (lvL i) [] h2 Q) : T 140 N S mL_law 510 (lvL i) [] h Q := by
  obtain ⟨x, h1, s1, k1, g1, o9, sc1, s2⟩ := hp
  refine z_aload_n dL_law_510 rfl rfl ?_
  refine l_ld dL_law_511 dL_law_512 dL_law_513 (j := 1) (by decide) dL_law_514 dL_law_515 sc hL (by omega) ?_
  refine l_ld dL_law_516 dL_law_517 dL_law_518 (j := 2) (by decide) dL_law_519 dL_law_520 sc hL (by omega) ?_
  refine y_callV (as := [.int (xs (i + 1)), .int (xs (i + 2))]) (d := 139) CX8_bring LL_51 IX8_bring VX8_bring ⟨rfl, by decide⟩ dL_law_521 o8 rfl (Nat.le_of_ble_eq_true rfl) (Nat.le_of_ble_eq_true rfl) (Nat.le_refl _) s1 k1 g1 ?_
  refine z_aload_n dL_law_524 rfl rfl ?_
  refine l_ld dL_law_525 dL_law_526 dL_law_527 (j := 1) (by decide) dL_law_528 dL_law_529 sc1 hL (by omega) ?_
  refine l_ld dL_law_530 dL_law_531 dL_law_532 (j := 2) (by decide) dL_law_533 dL_law_534 sc1 hL (by omega) ?_
  refine y_callVQ (as := [.int (xs (i + 1)), .int (xs (i + 2))]) (d := 139) CX9_bring LL_55 IX9_bring VX9_bring ⟨rfl, by decide⟩ dL_law_535 o9 rfl (Nat.le_of_ble_eq_true rfl) (Nat.le_of_ble_eq_true rfl) (Nat.le_refl _) s2 (fun r h' q => ⟨by rw [q.1]; exact k1, q.2.1⟩) ?_
  rintro r h2 ⟨rfl, _, q⟩
  exact z_icmp_eq dL_law_538 (tgt := 1667) (by decide) (fun _ => kk h2 q) (fun e => absurd rfl e)

theorem law_spoil {N S L i c : Nat} {xs : Nat → Int32} {h : Hp} {I : Nat → Hp → Prop} {Q : Option Value → Hp → Prop} (o8 : IO h 8 8) (sc : SCR h L xs) (hL : L ≤ 3072) (hi : i + 5 < L) (hp : PrI L xs I N S c mX8_spoil mX9_spoil [.int (xs (i + 1)), .int (xs (i + 2))] h) (kk : ∀ h2, I (c + 1) h2 → T 140 N S mL_law 1667 (lvL i) [] h2 Q) : T 140 N S mL_law 543 (lvL i) [] h Q := by
  obtain ⟨x, h1, s1, k1, g1, o9, sc1, s2⟩ := hp
  refine z_aload_n dL_law_543 rfl rfl ?_
  refine l_ld dL_law_544 dL_law_545 dL_law_546 (j := 1) (by decide) dL_law_547 dL_law_548 sc hL (by omega) ?_
  refine l_ld dL_law_549 dL_law_550 dL_law_551 (j := 2) (by decide) dL_law_552 dL_law_553 sc hL (by omega) ?_
  refine y_callV (as := [.int (xs (i + 1)), .int (xs (i + 2))]) (d := 139) CX8_spoil LL_56 IX8_spoil VX8_spoil ⟨rfl, by decide⟩ dL_law_554 o8 rfl (Nat.le_of_ble_eq_true rfl) (Nat.le_of_ble_eq_true rfl) (Nat.le_refl _) s1 k1 g1 ?_
  refine z_aload_n dL_law_557 rfl rfl ?_
  refine l_ld dL_law_558 dL_law_559 dL_law_560 (j := 1) (by decide) dL_law_561 dL_law_562 sc1 hL (by omega) ?_
  refine l_ld dL_law_563 dL_law_564 dL_law_565 (j := 2) (by decide) dL_law_566 dL_law_567 sc1 hL (by omega) ?_
  refine y_callVQ (as := [.int (xs (i + 1)), .int (xs (i + 2))]) (d := 139) CX9_spoil LL_59 IX9_spoil VX9_spoil ⟨rfl, by decide⟩ dL_law_568 o9 rfl (Nat.le_of_ble_eq_true rfl) (Nat.le_of_ble_eq_true rfl) (Nat.le_refl _) s2 (fun r h' q => ⟨by rw [q.1]; exact k1, q.2.1⟩) ?_
  rintro r h2 ⟨rfl, _, q⟩
  exact z_icmp_eq dL_law_571 (tgt := 1667) (by decide) (fun _ => kk h2 q) (fun e => absurd rfl e)

theorem law_sell {N S L i c : Nat} {xs : Nat → Int32} {h : Hp} {I : Nat → Hp → Prop} {Q : Option Value → Hp → Prop} (o8 : IO h 8 8) (sc : SCR h L xs) (hL : L ≤ 3072) (hi : i + 5 < L) (hp : PrI L xs I N S c mX8_sell mX9_sell [.int (xs (i + 1)), .int (xs (i + 2)), .int (xs (i + 3))] h) (kk : ∀ h2, I (c + 1) h2 → T 140 N S mL_law 1667 (lvL i) [] h2 Q) : T 140 N S mL_law 576 (lvL i) [] h Q := by
  obtain ⟨x, h1, s1, k1, g1, o9, sc1, s2⟩ := hp
  refine z_aload_n dL_law_576 rfl rfl ?_
  refine l_ld dL_law_577 dL_law_578 dL_law_579 (j := 1) (by decide) dL_law_580 dL_law_581 sc hL (by omega) ?_
  refine l_ld dL_law_582 dL_law_583 dL_law_584 (j := 2) (by decide) dL_law_585 dL_law_586 sc hL (by omega) ?_
  refine l_ld dL_law_587 dL_law_588 dL_law_589 (j := 3) (by decide) dL_law_590 dL_law_591 sc hL (by omega) ?_
  refine y_callV (as := [.int (xs (i + 1)), .int (xs (i + 2)), .int (xs (i + 3))]) (d := 139) CX8_sell LL_60 IX8_sell VX8_sell ⟨rfl, by decide⟩ dL_law_592 o8 rfl (Nat.le_of_ble_eq_true rfl) (Nat.le_of_ble_eq_true rfl) (Nat.le_refl _) s1 k1 g1 ?_
  refine z_aload_n dL_law_595 rfl rfl ?_
  refine l_ld dL_law_596 dL_law_597 dL_law_598 (j := 1) (by decide) dL_law_599 dL_law_600 sc1 hL (by omega) ?_
  refine l_ld dL_law_601 dL_law_602 dL_law_603 (j := 2) (by decide) dL_law_604 dL_law_605 sc1 hL (by omega) ?_
  refine l_ld dL_law_606 dL_law_607 dL_law_608 (j := 3) (by decide) dL_law_609 dL_law_610 sc1 hL (by omega) ?_
  refine y_callVQ (as := [.int (xs (i + 1)), .int (xs (i + 2)), .int (xs (i + 3))]) (d := 139) CX9_sell LL_64 IX9_sell VX9_sell ⟨rfl, by decide⟩ dL_law_611 o9 rfl (Nat.le_of_ble_eq_true rfl) (Nat.le_of_ble_eq_true rfl) (Nat.le_refl _) s2 (fun r h' q => ⟨by rw [q.1]; exact k1, q.2.1⟩) ?_
  rintro r h2 ⟨rfl, _, q⟩
  exact z_icmp_eq dL_law_614 (tgt := 1667) (by decide) (fun _ => kk h2 q) (fun e => absurd rfl e)

theorem law_day {N S L i c : Nat} {xs : Nat → Int32} {h : Hp} {I : Nat → Hp → Prop} {Q : Option Value → Hp → Prop} (o8 : IO h 8 8) (sc : SCR h L xs) (hL : L ≤ 3072) (hi : i + 5 < L) (hp : PrI L xs I N S c mX8_day mX9_day [.int (xs (i + 1))] h) (kk : ∀ h2, I (c + 1) h2 → T 140 N S mL_law 1667 (lvL i) [] h2 Q) : T 140 N S mL_law 619 (lvL i) [] h Q := by
  obtain ⟨x, h1, s1, k1, g1, o9, sc1, s2⟩ := hp
  refine z_aload_n dL_law_619 rfl rfl ?_
  refine l_ld dL_law_620 dL_law_621 dL_law_622 (j := 1) (by decide) dL_law_623 dL_law_624 sc hL (by omega) ?_
  refine y_callV (as := [.int (xs (i + 1))]) (d := 139) CX8_day LL_65 IX8_day VX8_day ⟨rfl, by decide⟩ dL_law_625 o8 rfl (Nat.le_of_ble_eq_true rfl) (Nat.le_of_ble_eq_true rfl) (Nat.le_refl _) s1 k1 g1 ?_
  refine z_aload_n dL_law_628 rfl rfl ?_
  refine l_ld dL_law_629 dL_law_630 dL_law_631 (j := 1) (by decide) dL_law_632 dL_law_633 sc1 hL (by omega) ?_
  refine y_callVQ (as := [.int (xs (i + 1))]) (d := 139) CX9_day LL_68 IX9_day VX9_day ⟨rfl, by decide⟩ dL_law_634 o9 rfl (Nat.le_of_ble_eq_true rfl) (Nat.le_of_ble_eq_true rfl) (Nat.le_refl _) s2 (fun r h' q => ⟨by rw [q.1]; exact k1, q.2.1⟩) ?_
  rintro r h2 ⟨rfl, _, q⟩
  exact z_icmp_eq dL_law_637 (tgt := 1667) (by decide) (fun _ => kk h2 q) (fun e => absurd rfl e)

theorem law_played {N S L i c : Nat} {xs : Nat → Int32} {h : Hp} {I : Nat → Hp → Prop} {Q : Option Value → Hp → Prop} (o8 : IO h 8 8) (sc : SCR h L xs) (hL : L ≤ 3072) (hi : i + 5 < L) (hp : PrI L xs I N S c mX8_played mX9_played [.int (xs (i + 1))] h) (kk : ∀ h2, I (c + 1) h2 → T 140 N S mL_law 1667 (lvL i) [] h2 Q) : T 140 N S mL_law 642 (lvL i) [] h Q := by
  obtain ⟨x, h1, s1, k1, g1, o9, sc1, s2⟩ := hp
  refine z_aload_n dL_law_642 rfl rfl ?_
  refine l_ld dL_law_643 dL_law_644 dL_law_645 (j := 1) (by decide) dL_law_646 dL_law_647 sc hL (by omega) ?_
  refine y_callV (as := [.int (xs (i + 1))]) (d := 139) CX8_played LL_69 IX8_played VX8_played ⟨rfl, by decide⟩ dL_law_648 o8 rfl (Nat.le_of_ble_eq_true rfl) (Nat.le_of_ble_eq_true rfl) (Nat.le_refl _) s1 k1 g1 ?_
  refine z_aload_n dL_law_651 rfl rfl ?_
  refine l_ld dL_law_652 dL_law_653 dL_law_654 (j := 1) (by decide) dL_law_655 dL_law_656 sc1 hL (by omega) ?_
  refine y_callVQ (as := [.int (xs (i + 1))]) (d := 139) CX9_played LL_72 IX9_played VX9_played ⟨rfl, by decide⟩ dL_law_657 o9 rfl (Nat.le_of_ble_eq_true rfl) (Nat.le_of_ble_eq_true rfl) (Nat.le_refl _) s2 (fun r h' q => ⟨by rw [q.1]; exact k1, q.2.1⟩) ?_
  rintro r h2 ⟨rfl, _, q⟩
  exact z_icmp_eq dL_law_660 (tgt := 1667) (by decide) (fun _ => kk h2 q) (fun e => absurd rfl e)

theorem law_years {N S L i c : Nat} {xs : Nat → Int32} {h : Hp} {I : Nat → Hp → Prop} {Q : Option Value → Hp → Prop} (o8 : IO h 8 8) (sc : SCR h L xs) (hL : L ≤ 3072) (hi : i + 5 < L) (hp : PrI L xs I N S c mX8_years mX9_years [.int (xs (i + 1)), .int (xs (i + 2))] h) (kk : ∀ h2, I (c + 1) h2 → T 140 N S mL_law 1667 (lvL i) [] h2 Q) : T 140 N S mL_law 665 (lvL i) [] h Q := by
  obtain ⟨x, h1, s1, k1, g1, o9, sc1, s2⟩ := hp
  refine z_aload_n dL_law_665 rfl rfl ?_
  refine l_ld dL_law_666 dL_law_667 dL_law_668 (j := 1) (by decide) dL_law_669 dL_law_670 sc hL (by omega) ?_
  refine l_ld dL_law_671 dL_law_672 dL_law_673 (j := 2) (by decide) dL_law_674 dL_law_675 sc hL (by omega) ?_
  refine y_callV (as := [.int (xs (i + 1)), .int (xs (i + 2))]) (d := 139) CX8_years LL_73 IX8_years VX8_years ⟨rfl, by decide⟩ dL_law_676 o8 rfl (Nat.le_of_ble_eq_true rfl) (Nat.le_of_ble_eq_true rfl) (Nat.le_refl _) s1 k1 g1 ?_
  refine z_aload_n dL_law_679 rfl rfl ?_
  refine l_ld dL_law_680 dL_law_681 dL_law_682 (j := 1) (by decide) dL_law_683 dL_law_684 sc1 hL (by omega) ?_
  refine l_ld dL_law_685 dL_law_686 dL_law_687 (j := 2) (by decide) dL_law_688 dL_law_689 sc1 hL (by omega) ?_
  refine y_callVQ (as := [.int (xs (i + 1)), .int (xs (i + 2))]) (d := 139) CX9_years LL_76 IX9_years VX9_years ⟨rfl, by decide⟩ dL_law_690 o9 rfl (Nat.le_of_ble_eq_true rfl) (Nat.le_of_ble_eq_true rfl) (Nat.le_refl _) s2 (fun r h' q => ⟨by rw [q.1]; exact k1, q.2.1⟩) ?_
  rintro r h2 ⟨rfl, _, q⟩
  exact z_icmp_eq dL_law_693 (tgt := 1667) (by decide) (fun _ => kk h2 q) (fun e => absurd rfl e)

theorem law_undo {N S L i c : Nat} {xs : Nat → Int32} {h : Hp} {I : Nat → Hp → Prop} {Q : Option Value → Hp → Prop} (o8 : IO h 8 8) (sc : SCR h L xs) (hL : L ≤ 3072) (hi : i + 5 < L) (hp : PrI L xs I N S c mX8_undo mX9_undo [] h) (kk : ∀ h2, I (c + 1) h2 → T 140 N S mL_law 1667 (lvL i) [] h2 Q) : T 140 N S mL_law 698 (lvL i) [] h Q := by
  obtain ⟨x, h1, s1, k1, g1, o9, sc1, s2⟩ := hp
  refine z_aload_n dL_law_698 rfl rfl ?_
  refine y_callV (as := []) (d := 139) CX8_undo LL_77 IX8_undo VX8_undo ⟨rfl, by decide⟩ dL_law_699 o8 rfl (Nat.le_of_ble_eq_true rfl) (Nat.le_of_ble_eq_true rfl) (Nat.le_refl _) s1 k1 g1 ?_
  refine z_aload_n dL_law_702 rfl rfl ?_
  refine y_callVQ (as := []) (d := 139) CX9_undo LL_80 IX9_undo VX9_undo ⟨rfl, by decide⟩ dL_law_703 o9 rfl (Nat.le_of_ble_eq_true rfl) (Nat.le_of_ble_eq_true rfl) (Nat.le_refl _) s2 (fun r h' q => ⟨by rw [q.1]; exact k1, q.2.1⟩) ?_
  rintro r h2 ⟨rfl, _, q⟩
  exact z_icmp_eq dL_law_706 (tgt := 1667) (by decide) (fun _ => kk h2 q) (fun e => absurd rfl e)

theorem law_of {N S L i c : Nat} {xs : Nat → Int32} {h : Hp} {I : Nat → Hp → Prop} {Q : Option Value → Hp → Prop} (o8 : IO h 8 8) (sc : SCR h L xs) (hL : L ≤ 3072) (hi : i + 5 < L) (hp : PrI L xs I N S c mX8_of mX9_of [.int (xs (i + 1)), .int (xs (i + 2))] h) (kk : ∀ h2, I (c + 1) h2 → T 140 N S mL_law 1667 (lvL i) [] h2 Q) : T 140 N S mL_law 711 (lvL i) [] h Q := by
  obtain ⟨x, h1, s1, k1, g1, o9, sc1, s2⟩ := hp
  refine z_aload_n dL_law_711 rfl rfl ?_
  refine l_ld dL_law_712 dL_law_713 dL_law_714 (j := 1) (by decide) dL_law_715 dL_law_716 sc hL (by omega) ?_
  refine l_ld dL_law_717 dL_law_718 dL_law_719 (j := 2) (by decide) dL_law_720 dL_law_721 sc hL (by omega) ?_
  refine y_callV (as := [.int (xs (i + 1)), .int (xs (i + 2))]) (d := 139) CX8_of LL_81 IX8_of VX8_of ⟨rfl, by decide⟩ dL_law_722 o8 rfl (Nat.le_of_ble_eq_true rfl) (Nat.le_of_ble_eq_true rfl) (Nat.le_refl _) s1 k1 g1 ?_
  refine z_aload_n dL_law_725 rfl rfl ?_
  refine l_ld dL_law_726 dL_law_727 dL_law_728 (j := 1) (by decide) dL_law_729 dL_law_730 sc1 hL (by omega) ?_
  refine l_ld dL_law_731 dL_law_732 dL_law_733 (j := 2) (by decide) dL_law_734 dL_law_735 sc1 hL (by omega) ?_
  refine y_callVQ (as := [.int (xs (i + 1)), .int (xs (i + 2))]) (d := 139) CX9_of LL_84 IX9_of VX9_of ⟨rfl, by decide⟩ dL_law_736 o9 rfl (Nat.le_of_ble_eq_true rfl) (Nat.le_of_ble_eq_true rfl) (Nat.le_refl _) s2 (fun r h' q => ⟨by rw [q.1]; exact k1, q.2.1⟩) ?_
  rintro r h2 ⟨rfl, _, q⟩
  exact z_icmp_eq dL_law_739 (tgt := 1667) (by decide) (fun _ => kk h2 q) (fun e => absurd rfl e)

theorem law_ofFact {N S L i c : Nat} {xs : Nat → Int32} {h : Hp} {I : Nat → Hp → Prop} {Q : Option Value → Hp → Prop} (o8 : IO h 8 8) (sc : SCR h L xs) (hL : L ≤ 3072) (hi : i + 5 < L) (hp : PrI L xs I N S c mX8_ofFact mX9_ofFact [.int (xs (i + 1)), .int (xs (i + 2))] h) (kk : ∀ h2, I (c + 1) h2 → T 140 N S mL_law 1667 (lvL i) [] h2 Q) : T 140 N S mL_law 744 (lvL i) [] h Q := by
  obtain ⟨x, h1, s1, k1, g1, o9, sc1, s2⟩ := hp
  refine z_aload_n dL_law_744 rfl rfl ?_
  refine l_ld dL_law_745 dL_law_746 dL_law_747 (j := 1) (by decide) dL_law_748 dL_law_749 sc hL (by omega) ?_
  refine l_ld dL_law_750 dL_law_751 dL_law_752 (j := 2) (by decide) dL_law_753 dL_law_754 sc hL (by omega) ?_
  refine y_callV (as := [.int (xs (i + 1)), .int (xs (i + 2))]) (d := 139) CX8_ofFact LL_85 IX8_ofFact VX8_ofFact ⟨rfl, by decide⟩ dL_law_755 o8 rfl (Nat.le_of_ble_eq_true rfl) (Nat.le_of_ble_eq_true rfl) (Nat.le_refl _) s1 k1 g1 ?_
  refine z_aload_n dL_law_758 rfl rfl ?_
  refine l_ld dL_law_759 dL_law_760 dL_law_761 (j := 1) (by decide) dL_law_762 dL_law_763 sc1 hL (by omega) ?_
  refine l_ld dL_law_764 dL_law_765 dL_law_766 (j := 2) (by decide) dL_law_767 dL_law_768 sc1 hL (by omega) ?_
  refine y_callVQ (as := [.int (xs (i + 1)), .int (xs (i + 2))]) (d := 139) CX9_ofFact LL_88 IX9_ofFact VX9_ofFact ⟨rfl, by decide⟩ dL_law_769 o9 rfl (Nat.le_of_ble_eq_true rfl) (Nat.le_of_ble_eq_true rfl) (Nat.le_refl _) s2 (fun r h' q => ⟨by rw [q.1]; exact k1, q.2.1⟩) ?_
  rintro r h2 ⟨rfl, _, q⟩
  exact z_icmp_eq dL_law_772 (tgt := 1667) (by decide) (fun _ => kk h2 q) (fun e => absurd rfl e)

theorem law_word {N S L i c : Nat} {xs : Nat → Int32} {h : Hp} {I : Nat → Hp → Prop} {Q : Option Value → Hp → Prop} (o8 : IO h 8 8) (sc : SCR h L xs) (hL : L ≤ 3072) (hi : i + 5 < L) (hp : PrI L xs I N S c mX8_word mX9_word [.int (xs (i + 1)), .int (xs (i + 2))] h) (kk : ∀ h2, I (c + 1) h2 → T 140 N S mL_law 1667 (lvL i) [] h2 Q) : T 140 N S mL_law 777 (lvL i) [] h Q := by
  obtain ⟨x, h1, s1, k1, g1, o9, sc1, s2⟩ := hp
  refine z_aload_n dL_law_777 rfl rfl ?_
  refine l_ld dL_law_778 dL_law_779 dL_law_780 (j := 1) (by decide) dL_law_781 dL_law_782 sc hL (by omega) ?_
  refine l_ld dL_law_783 dL_law_784 dL_law_785 (j := 2) (by decide) dL_law_786 dL_law_787 sc hL (by omega) ?_
  refine y_callV (as := [.int (xs (i + 1)), .int (xs (i + 2))]) (d := 139) CX8_word LL_89 IX8_word VX8_word ⟨rfl, by decide⟩ dL_law_788 o8 rfl (Nat.le_of_ble_eq_true rfl) (Nat.le_of_ble_eq_true rfl) (Nat.le_refl _) s1 k1 g1 ?_
  refine z_aload_n dL_law_791 rfl rfl ?_
  refine l_ld dL_law_792 dL_law_793 dL_law_794 (j := 1) (by decide) dL_law_795 dL_law_796 sc1 hL (by omega) ?_
  refine l_ld dL_law_797 dL_law_798 dL_law_799 (j := 2) (by decide) dL_law_800 dL_law_801 sc1 hL (by omega) ?_
  refine y_callVQ (as := [.int (xs (i + 1)), .int (xs (i + 2))]) (d := 139) CX9_word LL_92 IX9_word VX9_word ⟨rfl, by decide⟩ dL_law_802 o9 rfl (Nat.le_of_ble_eq_true rfl) (Nat.le_of_ble_eq_true rfl) (Nat.le_refl _) s2 (fun r h' q => ⟨by rw [q.1]; exact k1, q.2.1⟩) ?_
  rintro r h2 ⟨rfl, _, q⟩
  exact z_icmp_eq dL_law_805 (tgt := 1667) (by decide) (fun _ => kk h2 q) (fun e => absurd rfl e)

theorem law_is {N S L i c : Nat} {xs : Nat → Int32} {h : Hp} {I : Nat → Hp → Prop} {Q : Option Value → Hp → Prop} (o8 : IO h 8 8) (sc : SCR h L xs) (hL : L ≤ 3072) (hi : i + 5 < L) (hp : PrI L xs I N S c mX8_is mX9_is [.int (xs (i + 1))] h) (kk : ∀ h2, I (c + 1) h2 → T 140 N S mL_law 1667 (lvL i) [] h2 Q) : T 140 N S mL_law 810 (lvL i) [] h Q := by
  obtain ⟨x, h1, s1, k1, g1, o9, sc1, s2⟩ := hp
  refine z_aload_n dL_law_810 rfl rfl ?_
  refine l_ld dL_law_811 dL_law_812 dL_law_813 (j := 1) (by decide) dL_law_814 dL_law_815 sc hL (by omega) ?_
  refine y_callV (as := [.int (xs (i + 1))]) (d := 139) CX8_is LL_93 IX8_is VX8_is ⟨rfl, by decide⟩ dL_law_816 o8 rfl (Nat.le_of_ble_eq_true rfl) (Nat.le_of_ble_eq_true rfl) (Nat.le_refl _) s1 k1 g1 ?_
  refine z_aload_n dL_law_819 rfl rfl ?_
  refine l_ld dL_law_820 dL_law_821 dL_law_822 (j := 1) (by decide) dL_law_823 dL_law_824 sc1 hL (by omega) ?_
  refine y_callVQ (as := [.int (xs (i + 1))]) (d := 139) CX9_is LL_96 IX9_is VX9_is ⟨rfl, by decide⟩ dL_law_825 o9 rfl (Nat.le_of_ble_eq_true rfl) (Nat.le_of_ble_eq_true rfl) (Nat.le_refl _) s2 (fun r h' q => ⟨by rw [q.1]; exact k1, q.2.1⟩) ?_
  rintro r h2 ⟨rfl, _, q⟩
  exact z_icmp_eq dL_law_828 (tgt := 1667) (by decide) (fun _ => kk h2 q) (fun e => absurd rfl e)

theorem law_book {N S L i c : Nat} {xs : Nat → Int32} {h : Hp} {I : Nat → Hp → Prop} {Q : Option Value → Hp → Prop} (o8 : IO h 8 8) (sc : SCR h L xs) (hL : L ≤ 3072) (hi : i + 5 < L) (hp : PrI L xs I N S c mX8_book mX9_book [.int (xs (i + 1)), .int (xs (i + 2))] h) (kk : ∀ h2, I (c + 1) h2 → T 140 N S mL_law 1667 (lvL i) [] h2 Q) : T 140 N S mL_law 833 (lvL i) [] h Q := by
  obtain ⟨x, h1, s1, k1, g1, o9, sc1, s2⟩ := hp
  refine z_aload_n dL_law_833 rfl rfl ?_
  refine l_ld dL_law_834 dL_law_835 dL_law_836 (j := 1) (by decide) dL_law_837 dL_law_838 sc hL (by omega) ?_
  refine l_ld dL_law_839 dL_law_840 dL_law_841 (j := 2) (by decide) dL_law_842 dL_law_843 sc hL (by omega) ?_
  refine y_callV (as := [.int (xs (i + 1)), .int (xs (i + 2))]) (d := 139) CX8_book LL_97 IX8_book VX8_book ⟨rfl, by decide⟩ dL_law_844 o8 rfl (Nat.le_of_ble_eq_true rfl) (Nat.le_of_ble_eq_true rfl) (Nat.le_refl _) s1 k1 g1 ?_
  refine z_aload_n dL_law_847 rfl rfl ?_
  refine l_ld dL_law_848 dL_law_849 dL_law_850 (j := 1) (by decide) dL_law_851 dL_law_852 sc1 hL (by omega) ?_
  refine l_ld dL_law_853 dL_law_854 dL_law_855 (j := 2) (by decide) dL_law_856 dL_law_857 sc1 hL (by omega) ?_
  refine y_callVQ (as := [.int (xs (i + 1)), .int (xs (i + 2))]) (d := 139) CX9_book LL_100 IX9_book VX9_book ⟨rfl, by decide⟩ dL_law_858 o9 rfl (Nat.le_of_ble_eq_true rfl) (Nat.le_of_ble_eq_true rfl) (Nat.le_refl _) s2 (fun r h' q => ⟨by rw [q.1]; exact k1, q.2.1⟩) ?_
  rintro r h2 ⟨rfl, _, q⟩
  exact z_icmp_eq dL_law_861 (tgt := 1667) (by decide) (fun _ => kk h2 q) (fun e => absurd rfl e)

theorem law_ahead {N S L i c : Nat} {xs : Nat → Int32} {h : Hp} {I : Nat → Hp → Prop} {Q : Option Value → Hp → Prop} (o8 : IO h 8 8) (sc : SCR h L xs) (hL : L ≤ 3072) (hi : i + 5 < L) (hp : PrI L xs I N S c mX8_ahead mX9_ahead [.int (xs (i + 1)), .int (xs (i + 2)), .int (xs (i + 3))] h) (kk : ∀ h2, I (c + 1) h2 → T 140 N S mL_law 1667 (lvL i) [] h2 Q) : T 140 N S mL_law 866 (lvL i) [] h Q := by
  obtain ⟨x, h1, s1, k1, g1, o9, sc1, s2⟩ := hp
  refine z_aload_n dL_law_866 rfl rfl ?_
  refine l_ld dL_law_867 dL_law_868 dL_law_869 (j := 1) (by decide) dL_law_870 dL_law_871 sc hL (by omega) ?_
  refine l_ld dL_law_872 dL_law_873 dL_law_874 (j := 2) (by decide) dL_law_875 dL_law_876 sc hL (by omega) ?_
  refine l_ld dL_law_877 dL_law_878 dL_law_879 (j := 3) (by decide) dL_law_880 dL_law_881 sc hL (by omega) ?_
  refine y_callV (as := [.int (xs (i + 1)), .int (xs (i + 2)), .int (xs (i + 3))]) (d := 139) CX8_ahead LL_101 IX8_ahead VX8_ahead ⟨rfl, by decide⟩ dL_law_882 o8 rfl (Nat.le_of_ble_eq_true rfl) (Nat.le_of_ble_eq_true rfl) (Nat.le_refl _) s1 k1 g1 ?_
  refine z_aload_n dL_law_885 rfl rfl ?_
  refine l_ld dL_law_886 dL_law_887 dL_law_888 (j := 1) (by decide) dL_law_889 dL_law_890 sc1 hL (by omega) ?_
  refine l_ld dL_law_891 dL_law_892 dL_law_893 (j := 2) (by decide) dL_law_894 dL_law_895 sc1 hL (by omega) ?_
  refine l_ld dL_law_896 dL_law_897 dL_law_898 (j := 3) (by decide) dL_law_899 dL_law_900 sc1 hL (by omega) ?_
  refine y_callVQ (as := [.int (xs (i + 1)), .int (xs (i + 2)), .int (xs (i + 3))]) (d := 139) CX9_ahead LL_105 IX9_ahead VX9_ahead ⟨rfl, by decide⟩ dL_law_901 o9 rfl (Nat.le_of_ble_eq_true rfl) (Nat.le_of_ble_eq_true rfl) (Nat.le_refl _) s2 (fun r h' q => ⟨by rw [q.1]; exact k1, q.2.1⟩) ?_
  rintro r h2 ⟨rfl, _, q⟩
  exact z_icmp_eq dL_law_904 (tgt := 1667) (by decide) (fun _ => kk h2 q) (fun e => absurd rfl e)

theorem law_until {N S L i c : Nat} {xs : Nat → Int32} {h : Hp} {I : Nat → Hp → Prop} {Q : Option Value → Hp → Prop} (o8 : IO h 8 8) (sc : SCR h L xs) (hL : L ≤ 3072) (hi : i + 5 < L) (hp : PrI L xs I N S c mX8_until mX9_until [.int (xs (i + 1))] h) (kk : ∀ h2, I (c + 1) h2 → T 140 N S mL_law 1667 (lvL i) [] h2 Q) : T 140 N S mL_law 909 (lvL i) [] h Q := by
  obtain ⟨x, h1, s1, k1, g1, o9, sc1, s2⟩ := hp
  refine z_aload_n dL_law_909 rfl rfl ?_
  refine l_ld dL_law_910 dL_law_911 dL_law_912 (j := 1) (by decide) dL_law_913 dL_law_914 sc hL (by omega) ?_
  refine y_callV (as := [.int (xs (i + 1))]) (d := 139) CX8_until LL_106 IX8_until VX8_until ⟨rfl, by decide⟩ dL_law_915 o8 rfl (Nat.le_of_ble_eq_true rfl) (Nat.le_of_ble_eq_true rfl) (Nat.le_refl _) s1 k1 g1 ?_
  refine z_aload_n dL_law_918 rfl rfl ?_
  refine l_ld dL_law_919 dL_law_920 dL_law_921 (j := 1) (by decide) dL_law_922 dL_law_923 sc1 hL (by omega) ?_
  refine y_callVQ (as := [.int (xs (i + 1))]) (d := 139) CX9_until LL_109 IX9_until VX9_until ⟨rfl, by decide⟩ dL_law_924 o9 rfl (Nat.le_of_ble_eq_true rfl) (Nat.le_of_ble_eq_true rfl) (Nat.le_refl _) s2 (fun r h' q => ⟨by rw [q.1]; exact k1, q.2.1⟩) ?_
  rintro r h2 ⟨rfl, _, q⟩
  exact z_icmp_eq dL_law_927 (tgt := 1667) (by decide) (fun _ => kk h2 q) (fun e => absurd rfl e)

theorem lg_self (x : Int64) : lg_cmp x x = 0 := by
  unfold lg_cmp
  rw [if_neg (Int64.lt_irrefl), if_pos rfl]

theorem law_odds {N S L i c : Nat} {xs : Nat → Int32} {h : Hp} {I : Nat → Hp → Prop} {Q : Option Value → Hp → Prop} (o8 : IO h 8 8) (sc : SCR h L xs) (hL : L ≤ 3072) (hi : i + 5 < L) (hp : PrJ L xs I N S c mX8_odds mX9_odds [.int (nI (b01 (xs (i + 1)))), .int (xs (i + 2)), .int (xs (i + 3)), .int (nI (b01 (xs (i + 4))))] h) (kk : ∀ h2, I (c + 1) h2 → T 140 N S mL_law 1667 (lvL i) [] h2 Q) : T 140 N S mL_law 932 (lvL i) [] h Q := by
  obtain ⟨x, h1, s1, k1, g1, o9, sc1, s2⟩ := hp
  refine z_aload_n dL_law_932 rfl rfl ?_
  refine l_ld dL_law_933 dL_law_934 dL_law_935 (j := 1) (by decide) dL_law_936 dL_law_937 sc hL (by omega) ?_
  refine l_bl dL_law_938 dL_law_941 dL_law_942 dL_law_945 ?_
  refine l_ld dL_law_946 dL_law_947 dL_law_948 (j := 2) (by decide) dL_law_949 dL_law_950 sc hL (by omega) ?_
  refine l_ld dL_law_951 dL_law_952 dL_law_953 (j := 3) (by decide) dL_law_954 dL_law_955 sc hL (by omega) ?_
  refine l_ld dL_law_956 dL_law_957 dL_law_958 (j := 4) (by decide) dL_law_959 dL_law_960 sc hL (by omega) ?_
  refine l_bl dL_law_961 dL_law_964 dL_law_965 dL_law_968 ?_
  refine y_callV (as := [.int (nI (b01 (xs (i + 1)))), .int (xs (i + 2)), .int (xs (i + 3)), .int (nI (b01 (xs (i + 4))))]) (d := 139) CX8_odds LL_110 IX8_odds VX8_odds ⟨rfl, by decide⟩ dL_law_969 o8 rfl (Nat.le_of_ble_eq_true rfl) (Nat.le_of_ble_eq_true rfl) (Nat.le_refl _) s1 k1 g1 ?_
  refine z_aload_n dL_law_972 rfl rfl ?_
  refine l_ld dL_law_973 dL_law_974 dL_law_975 (j := 1) (by decide) dL_law_976 dL_law_977 sc1 hL (by omega) ?_
  refine l_bl dL_law_978 dL_law_981 dL_law_982 dL_law_985 ?_
  refine l_ld dL_law_986 dL_law_987 dL_law_988 (j := 2) (by decide) dL_law_989 dL_law_990 sc1 hL (by omega) ?_
  refine l_ld dL_law_991 dL_law_992 dL_law_993 (j := 3) (by decide) dL_law_994 dL_law_995 sc1 hL (by omega) ?_
  refine l_ld dL_law_996 dL_law_997 dL_law_998 (j := 4) (by decide) dL_law_999 dL_law_1000 sc1 hL (by omega) ?_
  refine l_bl dL_law_1001 dL_law_1004 dL_law_1005 dL_law_1008 ?_
  refine y_callVQ (as := [.int (nI (b01 (xs (i + 1)))), .int (xs (i + 2)), .int (xs (i + 3)), .int (nI (b01 (xs (i + 4))))]) (d := 139) CX9_odds LL_114 IX9_odds VX9_odds ⟨rfl, by decide⟩ dL_law_1009 o9 rfl (Nat.le_of_ble_eq_true rfl) (Nat.le_of_ble_eq_true rfl) (Nat.le_refl _) s2 (fun r h' q => ⟨by rw [q.1]; exact k1, q.2.1⟩) ?_
  rintro r h2 ⟨rfl, _, q⟩
  refine z_lcmp dL_law_1012 ?_
  exact z_if_eq dL_law_1013 (tgt := 1667) (by decide) (fun _ => kk h2 q) (fun e => absurd (lg_self x) e)

theorem law_least {N S L i c : Nat} {xs : Nat → Int32} {h : Hp} {I : Nat → Hp → Prop} {Q : Option Value → Hp → Prop} (o8 : IO h 8 8) (sc : SCR h L xs) (hL : L ≤ 3072) (hi : i + 5 < L) (hp : PrI L xs I N S c mX8_least mX9_least [.int (xs (i + 1)), .int (nI (b01 (xs (i + 2))))] h) (kk : ∀ h2, I (c + 1) h2 → T 140 N S mL_law 1667 (lvL i) [] h2 Q) : T 140 N S mL_law 1018 (lvL i) [] h Q := by
  obtain ⟨x, h1, s1, k1, g1, o9, sc1, s2⟩ := hp
  refine z_aload_n dL_law_1018 rfl rfl ?_
  refine l_ld dL_law_1019 dL_law_1020 dL_law_1021 (j := 1) (by decide) dL_law_1022 dL_law_1023 sc hL (by omega) ?_
  refine l_ld dL_law_1024 dL_law_1025 dL_law_1026 (j := 2) (by decide) dL_law_1027 dL_law_1028 sc hL (by omega) ?_
  refine l_bl dL_law_1029 dL_law_1032 dL_law_1033 dL_law_1036 ?_
  refine y_callV (as := [.int (xs (i + 1)), .int (nI (b01 (xs (i + 2))))]) (d := 139) CX8_least LL_115 IX8_least VX8_least ⟨rfl, by decide⟩ dL_law_1037 o8 rfl (Nat.le_of_ble_eq_true rfl) (Nat.le_of_ble_eq_true rfl) (Nat.le_refl _) s1 k1 g1 ?_
  refine z_aload_n dL_law_1040 rfl rfl ?_
  refine l_ld dL_law_1041 dL_law_1042 dL_law_1043 (j := 1) (by decide) dL_law_1044 dL_law_1045 sc1 hL (by omega) ?_
  refine l_ld dL_law_1046 dL_law_1047 dL_law_1048 (j := 2) (by decide) dL_law_1049 dL_law_1050 sc1 hL (by omega) ?_
  refine l_bl dL_law_1051 dL_law_1054 dL_law_1055 dL_law_1058 ?_
  refine y_callVQ (as := [.int (xs (i + 1)), .int (nI (b01 (xs (i + 2))))]) (d := 139) CX9_least LL_119 IX9_least VX9_least ⟨rfl, by decide⟩ dL_law_1059 o9 rfl (Nat.le_of_ble_eq_true rfl) (Nat.le_of_ble_eq_true rfl) (Nat.le_refl _) s2 (fun r h' q => ⟨by rw [q.1]; exact k1, q.2.1⟩) ?_
  rintro r h2 ⟨rfl, _, q⟩
  exact z_icmp_eq dL_law_1062 (tgt := 1667) (by decide) (fun _ => kk h2 q) (fun e => absurd rfl e)

theorem law_stop {N S L i c : Nat} {xs : Nat → Int32} {h : Hp} {I : Nat → Hp → Prop} {Q : Option Value → Hp → Prop} (o8 : IO h 8 8) (sc : SCR h L xs) (hL : L ≤ 3072) (hi : i + 5 < L) (hp : PrI L xs I N S c mX8_stop mX9_stop [.int (xs (i + 1))] h) (kk : ∀ h2, I (c + 1) h2 → T 140 N S mL_law 1667 (lvL i) [] h2 Q) : T 140 N S mL_law 1067 (lvL i) [] h Q := by
  obtain ⟨x, h1, s1, k1, g1, o9, sc1, s2⟩ := hp
  refine z_aload_n dL_law_1067 rfl rfl ?_
  refine l_ld dL_law_1068 dL_law_1069 dL_law_1070 (j := 1) (by decide) dL_law_1071 dL_law_1072 sc hL (by omega) ?_
  refine y_callV (as := [.int (xs (i + 1))]) (d := 139) CX8_stop LL_120 IX8_stop VX8_stop ⟨rfl, by decide⟩ dL_law_1073 o8 rfl (Nat.le_of_ble_eq_true rfl) (Nat.le_of_ble_eq_true rfl) (Nat.le_refl _) s1 k1 g1 ?_
  refine z_aload_n dL_law_1076 rfl rfl ?_
  refine l_ld dL_law_1077 dL_law_1078 dL_law_1079 (j := 1) (by decide) dL_law_1080 dL_law_1081 sc1 hL (by omega) ?_
  refine y_callVQ (as := [.int (xs (i + 1))]) (d := 139) CX9_stop LL_123 IX9_stop VX9_stop ⟨rfl, by decide⟩ dL_law_1082 o9 rfl (Nat.le_of_ble_eq_true rfl) (Nat.le_of_ble_eq_true rfl) (Nat.le_refl _) s2 (fun r h' q => ⟨by rw [q.1]; exact k1, q.2.1⟩) ?_
  rintro r h2 ⟨rfl, _, q⟩
  exact z_icmp_eq dL_law_1085 (tgt := 1667) (by decide) (fun _ => kk h2 q) (fun e => absurd rfl e)

theorem law_offer {N S L i c : Nat} {xs : Nat → Int32} {h : Hp} {I : Nat → Hp → Prop} {Q : Option Value → Hp → Prop} (o8 : IO h 8 8) (sc : SCR h L xs) (hL : L ≤ 3072) (hi : i + 5 < L) (hp : PrI L xs I N S c mX8_offer mX9_offer [.int (nI (b01 (xs (i + 1)))), .int (xs (i + 2)), .int (xs (i + 3)), .int (xs (i + 4))] h) (kk : ∀ h2, I (c + 1) h2 → T 140 N S mL_law 1667 (lvL i) [] h2 Q) : T 140 N S mL_law 1090 (lvL i) [] h Q := by
  obtain ⟨x, h1, s1, k1, g1, o9, sc1, s2⟩ := hp
  refine z_aload_n dL_law_1090 rfl rfl ?_
  refine l_ld dL_law_1091 dL_law_1092 dL_law_1093 (j := 1) (by decide) dL_law_1094 dL_law_1095 sc hL (by omega) ?_
  refine l_bl dL_law_1096 dL_law_1099 dL_law_1100 dL_law_1103 ?_
  refine l_ld dL_law_1104 dL_law_1105 dL_law_1106 (j := 2) (by decide) dL_law_1107 dL_law_1108 sc hL (by omega) ?_
  refine l_ld dL_law_1109 dL_law_1110 dL_law_1111 (j := 3) (by decide) dL_law_1112 dL_law_1113 sc hL (by omega) ?_
  refine l_ld dL_law_1114 dL_law_1115 dL_law_1116 (j := 4) (by decide) dL_law_1117 dL_law_1118 sc hL (by omega) ?_
  refine y_callV (as := [.int (nI (b01 (xs (i + 1)))), .int (xs (i + 2)), .int (xs (i + 3)), .int (xs (i + 4))]) (d := 139) CX8_offer LL_124 IX8_offer VX8_offer ⟨rfl, by decide⟩ dL_law_1119 o8 rfl (Nat.le_of_ble_eq_true rfl) (Nat.le_of_ble_eq_true rfl) (Nat.le_refl _) s1 k1 g1 ?_
  refine z_aload_n dL_law_1122 rfl rfl ?_
  refine l_ld dL_law_1123 dL_law_1124 dL_law_1125 (j := 1) (by decide) dL_law_1126 dL_law_1127 sc1 hL (by omega) ?_
  refine l_bl dL_law_1128 dL_law_1131 dL_law_1132 dL_law_1135 ?_
  refine l_ld dL_law_1136 dL_law_1137 dL_law_1138 (j := 2) (by decide) dL_law_1139 dL_law_1140 sc1 hL (by omega) ?_
  refine l_ld dL_law_1141 dL_law_1142 dL_law_1143 (j := 3) (by decide) dL_law_1144 dL_law_1145 sc1 hL (by omega) ?_
  refine l_ld dL_law_1146 dL_law_1147 dL_law_1148 (j := 4) (by decide) dL_law_1149 dL_law_1150 sc1 hL (by omega) ?_
  refine y_callVQ (as := [.int (nI (b01 (xs (i + 1)))), .int (xs (i + 2)), .int (xs (i + 3)), .int (xs (i + 4))]) (d := 139) CX9_offer LL_128 IX9_offer VX9_offer ⟨rfl, by decide⟩ dL_law_1151 o9 rfl (Nat.le_of_ble_eq_true rfl) (Nat.le_of_ble_eq_true rfl) (Nat.le_refl _) s2 (fun r h' q => ⟨by rw [q.1]; exact k1, q.2.1⟩) ?_
  rintro r h2 ⟨rfl, _, q⟩
  exact z_icmp_eq dL_law_1154 (tgt := 1667) (by decide) (fun _ => kk h2 q) (fun e => absurd rfl e)

theorem law_purse {N S L i c : Nat} {xs : Nat → Int32} {h : Hp} {I : Nat → Hp → Prop} {Q : Option Value → Hp → Prop} (o8 : IO h 8 8) (sc : SCR h L xs) (hL : L ≤ 3072) (hi : i + 5 < L) (hp : PrI L xs I N S c mX8_purse mX9_purse [.int (xs (i + 1)), .int (nI (b01 (xs (i + 2))))] h) (kk : ∀ h2, I (c + 1) h2 → T 140 N S mL_law 1667 (lvL i) [] h2 Q) : T 140 N S mL_law 1159 (lvL i) [] h Q := by
  obtain ⟨x, h1, s1, k1, g1, o9, sc1, s2⟩ := hp
  refine z_aload_n dL_law_1159 rfl rfl ?_
  refine l_ld dL_law_1160 dL_law_1161 dL_law_1162 (j := 1) (by decide) dL_law_1163 dL_law_1164 sc hL (by omega) ?_
  refine l_ld dL_law_1165 dL_law_1166 dL_law_1167 (j := 2) (by decide) dL_law_1168 dL_law_1169 sc hL (by omega) ?_
  refine l_bl dL_law_1170 dL_law_1173 dL_law_1174 dL_law_1177 ?_
  refine y_callV (as := [.int (xs (i + 1)), .int (nI (b01 (xs (i + 2))))]) (d := 139) CX8_purse LL_129 IX8_purse VX8_purse ⟨rfl, by decide⟩ dL_law_1178 o8 rfl (Nat.le_of_ble_eq_true rfl) (Nat.le_of_ble_eq_true rfl) (Nat.le_refl _) s1 k1 g1 ?_
  refine z_aload_n dL_law_1181 rfl rfl ?_
  refine l_ld dL_law_1182 dL_law_1183 dL_law_1184 (j := 1) (by decide) dL_law_1185 dL_law_1186 sc1 hL (by omega) ?_
  refine l_ld dL_law_1187 dL_law_1188 dL_law_1189 (j := 2) (by decide) dL_law_1190 dL_law_1191 sc1 hL (by omega) ?_
  refine l_bl dL_law_1192 dL_law_1195 dL_law_1196 dL_law_1199 ?_
  refine y_callVQ (as := [.int (xs (i + 1)), .int (nI (b01 (xs (i + 2))))]) (d := 139) CX9_purse LL_132 IX9_purse VX9_purse ⟨rfl, by decide⟩ dL_law_1200 o9 rfl (Nat.le_of_ble_eq_true rfl) (Nat.le_of_ble_eq_true rfl) (Nat.le_refl _) s2 (fun r h' q => ⟨by rw [q.1]; exact k1, q.2.1⟩) ?_
  rintro r h2 ⟨rfl, _, q⟩
  exact z_icmp_eq dL_law_1203 (tgt := 1667) (by decide) (fun _ => kk h2 q) (fun e => absurd rfl e)

theorem law_worst {N S L i c : Nat} {xs : Nat → Int32} {h : Hp} {I : Nat → Hp → Prop} {Q : Option Value → Hp → Prop} (o8 : IO h 8 8) (sc : SCR h L xs) (hL : L ≤ 3072) (hi : i + 5 < L) (hp : PrI L xs I N S c mX8_worst mX9_worst [.int (xs (i + 1))] h) (kk : ∀ h2, I (c + 1) h2 → T 140 N S mL_law 1667 (lvL i) [] h2 Q) : T 140 N S mL_law 1208 (lvL i) [] h Q := by
  obtain ⟨x, h1, s1, k1, g1, o9, sc1, s2⟩ := hp
  refine z_aload_n dL_law_1208 rfl rfl ?_
  refine l_ld dL_law_1209 dL_law_1210 dL_law_1211 (j := 1) (by decide) dL_law_1212 dL_law_1213 sc hL (by omega) ?_
  refine y_callV (as := [.int (xs (i + 1))]) (d := 139) CX8_worst LL_133 IX8_worst VX8_worst ⟨rfl, by decide⟩ dL_law_1214 o8 rfl (Nat.le_of_ble_eq_true rfl) (Nat.le_of_ble_eq_true rfl) (Nat.le_refl _) s1 k1 g1 ?_
  refine z_aload_n dL_law_1217 rfl rfl ?_
  refine l_ld dL_law_1218 dL_law_1219 dL_law_1220 (j := 1) (by decide) dL_law_1221 dL_law_1222 sc1 hL (by omega) ?_
  refine y_callVQ (as := [.int (xs (i + 1))]) (d := 139) CX9_worst LL_136 IX9_worst VX9_worst ⟨rfl, by decide⟩ dL_law_1223 o9 rfl (Nat.le_of_ble_eq_true rfl) (Nat.le_of_ble_eq_true rfl) (Nat.le_refl _) s2 (fun r h' q => ⟨by rw [q.1]; exact k1, q.2.1⟩) ?_
  rintro r h2 ⟨rfl, _, q⟩
  exact z_icmp_eq dL_law_1226 (tgt := 1667) (by decide) (fun _ => kk h2 q) (fun e => absurd rfl e)

theorem law_heard {N S L i c : Nat} {xs : Nat → Int32} {h : Hp} {I : Nat → Hp → Prop} {Q : Option Value → Hp → Prop} (o8 : IO h 8 8) (sc : SCR h L xs) (hL : L ≤ 3072) (hi : i + 5 < L) (hp : PrI L xs I N S c mX8_heard mX9_heard [.int (xs (i + 1)), .int (nI (b01 (xs (i + 2))))] h) (kk : ∀ h2, I (c + 1) h2 → T 140 N S mL_law 1667 (lvL i) [] h2 Q) : T 140 N S mL_law 1231 (lvL i) [] h Q := by
  obtain ⟨x, h1, s1, k1, g1, o9, sc1, s2⟩ := hp
  refine z_aload_n dL_law_1231 rfl rfl ?_
  refine l_ld dL_law_1232 dL_law_1233 dL_law_1234 (j := 1) (by decide) dL_law_1235 dL_law_1236 sc hL (by omega) ?_
  refine l_ld dL_law_1237 dL_law_1238 dL_law_1239 (j := 2) (by decide) dL_law_1240 dL_law_1241 sc hL (by omega) ?_
  refine l_bl dL_law_1242 dL_law_1245 dL_law_1246 dL_law_1249 ?_
  refine y_callV (as := [.int (xs (i + 1)), .int (nI (b01 (xs (i + 2))))]) (d := 139) CX8_heard LL_137 IX8_heard VX8_heard ⟨rfl, by decide⟩ dL_law_1250 o8 rfl (Nat.le_of_ble_eq_true rfl) (Nat.le_of_ble_eq_true rfl) (Nat.le_refl _) s1 k1 g1 ?_
  refine z_aload_n dL_law_1253 rfl rfl ?_
  refine l_ld dL_law_1254 dL_law_1255 dL_law_1256 (j := 1) (by decide) dL_law_1257 dL_law_1258 sc1 hL (by omega) ?_
  refine l_ld dL_law_1259 dL_law_1260 dL_law_1261 (j := 2) (by decide) dL_law_1262 dL_law_1263 sc1 hL (by omega) ?_
  refine l_bl dL_law_1264 dL_law_1267 dL_law_1268 dL_law_1271 ?_
  refine y_callVQ (as := [.int (xs (i + 1)), .int (nI (b01 (xs (i + 2))))]) (d := 139) CX9_heard LL_140 IX9_heard VX9_heard ⟨rfl, by decide⟩ dL_law_1272 o9 rfl (Nat.le_of_ble_eq_true rfl) (Nat.le_of_ble_eq_true rfl) (Nat.le_refl _) s2 (fun r h' q => ⟨by rw [q.1]; exact k1, q.2.1⟩) ?_
  rintro r h2 ⟨rfl, _, q⟩
  exact z_icmp_eq dL_law_1275 (tgt := 1667) (by decide) (fun _ => kk h2 q) (fun e => absurd rfl e)

theorem law_worlds {N S L i c : Nat} {xs : Nat → Int32} {h : Hp} {I : Nat → Hp → Prop} {Q : Option Value → Hp → Prop} (o8 : IO h 8 8) (sc : SCR h L xs) (hL : L ≤ 3072) (hi : i + 5 < L) (hp : PrI L xs I N S c mX8_worlds mX9_worlds [.int (xs (i + 1)), .int (xs (i + 2))] h) (kk : ∀ h2, I (c + 1) h2 → T 140 N S mL_law 1667 (lvL i) [] h2 Q) : T 140 N S mL_law 1280 (lvL i) [] h Q := by
  obtain ⟨x, h1, s1, k1, g1, o9, sc1, s2⟩ := hp
  refine z_aload_n dL_law_1280 rfl rfl ?_
  refine l_ld dL_law_1281 dL_law_1282 dL_law_1283 (j := 1) (by decide) dL_law_1284 dL_law_1285 sc hL (by omega) ?_
  refine l_ld dL_law_1286 dL_law_1287 dL_law_1288 (j := 2) (by decide) dL_law_1289 dL_law_1290 sc hL (by omega) ?_
  refine y_callV (as := [.int (xs (i + 1)), .int (xs (i + 2))]) (d := 139) CX8_worlds LL_141 IX8_worlds VX8_worlds ⟨rfl, by decide⟩ dL_law_1291 o8 rfl (Nat.le_of_ble_eq_true rfl) (Nat.le_of_ble_eq_true rfl) (Nat.le_refl _) s1 k1 g1 ?_
  refine z_aload_n dL_law_1294 rfl rfl ?_
  refine l_ld dL_law_1295 dL_law_1296 dL_law_1297 (j := 1) (by decide) dL_law_1298 dL_law_1299 sc1 hL (by omega) ?_
  refine l_ld dL_law_1300 dL_law_1301 dL_law_1302 (j := 2) (by decide) dL_law_1303 dL_law_1304 sc1 hL (by omega) ?_
  refine y_callVQ (as := [.int (xs (i + 1)), .int (xs (i + 2))]) (d := 139) CX9_worlds LL_144 IX9_worlds VX9_worlds ⟨rfl, by decide⟩ dL_law_1305 o9 rfl (Nat.le_of_ble_eq_true rfl) (Nat.le_of_ble_eq_true rfl) (Nat.le_refl _) s2 (fun r h' q => ⟨by rw [q.1]; exact k1, q.2.1⟩) ?_
  rintro r h2 ⟨rfl, _, q⟩
  exact z_icmp_eq dL_law_1308 (tgt := 1667) (by decide) (fun _ => kk h2 q) (fun e => absurd rfl e)

theorem law_tells {N S L i c : Nat} {xs : Nat → Int32} {h : Hp} {I : Nat → Hp → Prop} {Q : Option Value → Hp → Prop} (o8 : IO h 8 8) (sc : SCR h L xs) (hL : L ≤ 3072) (hi : i + 5 < L) (hp : PrI L xs I N S c mX8_tells mX9_tells [.int (xs (i + 1))] h) (kk : ∀ h2, I (c + 1) h2 → T 140 N S mL_law 1667 (lvL i) [] h2 Q) : T 140 N S mL_law 1313 (lvL i) [] h Q := by
  obtain ⟨x, h1, s1, k1, g1, o9, sc1, s2⟩ := hp
  refine z_aload_n dL_law_1313 rfl rfl ?_
  refine l_ld dL_law_1314 dL_law_1315 dL_law_1316 (j := 1) (by decide) dL_law_1317 dL_law_1318 sc hL (by omega) ?_
  refine y_callV (as := [.int (xs (i + 1))]) (d := 139) CX8_tells LL_145 IX8_tells VX8_tells ⟨rfl, by decide⟩ dL_law_1319 o8 rfl (Nat.le_of_ble_eq_true rfl) (Nat.le_of_ble_eq_true rfl) (Nat.le_refl _) s1 k1 g1 ?_
  refine z_aload_n dL_law_1322 rfl rfl ?_
  refine l_ld dL_law_1323 dL_law_1324 dL_law_1325 (j := 1) (by decide) dL_law_1326 dL_law_1327 sc1 hL (by omega) ?_
  refine y_callVQ (as := [.int (xs (i + 1))]) (d := 139) CX9_tells LL_148 IX9_tells VX9_tells ⟨rfl, by decide⟩ dL_law_1328 o9 rfl (Nat.le_of_ble_eq_true rfl) (Nat.le_of_ble_eq_true rfl) (Nat.le_refl _) s2 (fun r h' q => ⟨by rw [q.1]; exact k1, q.2.1⟩) ?_
  rintro r h2 ⟨rfl, _, q⟩
  exact z_icmp_eq dL_law_1331 (tgt := 1667) (by decide) (fun _ => kk h2 q) (fun e => absurd rfl e)

theorem law_duel {N S L i c : Nat} {xs : Nat → Int32} {h : Hp} {I : Nat → Hp → Prop} {Q : Option Value → Hp → Prop} (o8 : IO h 8 8) (sc : SCR h L xs) (hL : L ≤ 3072) (hi : i + 5 < L) (hp : PrI L xs I N S c mX8_duel mX9_duel [.int (nI (b01 (xs (i + 1)))), .int (nI (b01 (xs (i + 2))))] h) (kk : ∀ h2, I (c + 1) h2 → T 140 N S mL_law 1667 (lvL i) [] h2 Q) : T 140 N S mL_law 1336 (lvL i) [] h Q := by
  obtain ⟨x, h1, s1, k1, g1, o9, sc1, s2⟩ := hp
  refine z_aload_n dL_law_1336 rfl rfl ?_
  refine l_ld dL_law_1337 dL_law_1338 dL_law_1339 (j := 1) (by decide) dL_law_1340 dL_law_1341 sc hL (by omega) ?_
  refine l_bl dL_law_1342 dL_law_1345 dL_law_1346 dL_law_1349 ?_
  refine l_ld dL_law_1350 dL_law_1351 dL_law_1352 (j := 2) (by decide) dL_law_1353 dL_law_1354 sc hL (by omega) ?_
  refine l_bl dL_law_1355 dL_law_1358 dL_law_1359 dL_law_1362 ?_
  refine y_callV (as := [.int (nI (b01 (xs (i + 1)))), .int (nI (b01 (xs (i + 2))))]) (d := 139) CX8_duel LL_149 IX8_duel VX8_duel ⟨rfl, by decide⟩ dL_law_1363 o8 rfl (Nat.le_of_ble_eq_true rfl) (Nat.le_of_ble_eq_true rfl) (Nat.le_refl _) s1 k1 g1 ?_
  refine z_aload_n dL_law_1366 rfl rfl ?_
  refine l_ld dL_law_1367 dL_law_1368 dL_law_1369 (j := 1) (by decide) dL_law_1370 dL_law_1371 sc1 hL (by omega) ?_
  refine l_bl dL_law_1372 dL_law_1375 dL_law_1376 dL_law_1379 ?_
  refine l_ld dL_law_1380 dL_law_1381 dL_law_1382 (j := 2) (by decide) dL_law_1383 dL_law_1384 sc1 hL (by omega) ?_
  refine l_bl dL_law_1385 dL_law_1388 dL_law_1389 dL_law_1392 ?_
  refine y_callVQ (as := [.int (nI (b01 (xs (i + 1)))), .int (nI (b01 (xs (i + 2))))]) (d := 139) CX9_duel LL_153 IX9_duel VX9_duel ⟨rfl, by decide⟩ dL_law_1393 o9 rfl (Nat.le_of_ble_eq_true rfl) (Nat.le_of_ble_eq_true rfl) (Nat.le_refl _) s2 (fun r h' q => ⟨by rw [q.1]; exact k1, q.2.1⟩) ?_
  rintro r h2 ⟨rfl, _, q⟩
  exact z_icmp_eq dL_law_1396 (tgt := 1667) (by decide) (fun _ => kk h2 q) (fun e => absurd rfl e)

theorem law_fair {N S L i c : Nat} {xs : Nat → Int32} {h : Hp} {I : Nat → Hp → Prop} {Q : Option Value → Hp → Prop} (o8 : IO h 8 8) (sc : SCR h L xs) (hL : L ≤ 3072) (hi : i + 5 < L) (hp : PrJ L xs I N S c mX8_fair mX9_fair [.int (nI (b01 (xs (i + 1)))), .int (xs (i + 2)), .int (xs (i + 3)), .int (xs (i + 4)), .int (nI (b01 (xs (i + 5))))] h) (kk : ∀ h2, I (c + 1) h2 → T 140 N S mL_law 1667 (lvL i) [] h2 Q) : T 140 N S mL_law 1401 (lvL i) [] h Q := by
  obtain ⟨x, h1, s1, k1, g1, o9, sc1, s2⟩ := hp
  refine z_aload_n dL_law_1401 rfl rfl ?_
  refine l_ld dL_law_1402 dL_law_1403 dL_law_1404 (j := 1) (by decide) dL_law_1405 dL_law_1406 sc hL (by omega) ?_
  refine l_bl dL_law_1407 dL_law_1410 dL_law_1411 dL_law_1414 ?_
  refine l_ld dL_law_1415 dL_law_1416 dL_law_1417 (j := 2) (by decide) dL_law_1418 dL_law_1419 sc hL (by omega) ?_
  refine l_ld dL_law_1420 dL_law_1421 dL_law_1422 (j := 3) (by decide) dL_law_1423 dL_law_1424 sc hL (by omega) ?_
  refine l_ld dL_law_1425 dL_law_1426 dL_law_1427 (j := 4) (by decide) dL_law_1428 dL_law_1429 sc hL (by omega) ?_
  refine l_ld dL_law_1430 dL_law_1431 dL_law_1432 (j := 5) (by decide) dL_law_1433 dL_law_1434 sc hL (by omega) ?_
  refine l_bl dL_law_1435 dL_law_1438 dL_law_1439 dL_law_1442 ?_
  refine y_callV (as := [.int (nI (b01 (xs (i + 1)))), .int (xs (i + 2)), .int (xs (i + 3)), .int (xs (i + 4)), .int (nI (b01 (xs (i + 5))))]) (d := 139) CX8_fair LL_154 IX8_fair VX8_fair ⟨rfl, by decide⟩ dL_law_1443 o8 rfl (Nat.le_of_ble_eq_true rfl) (Nat.le_of_ble_eq_true rfl) (Nat.le_refl _) s1 k1 g1 ?_
  refine z_aload_n dL_law_1446 rfl rfl ?_
  refine l_ld dL_law_1447 dL_law_1448 dL_law_1449 (j := 1) (by decide) dL_law_1450 dL_law_1451 sc1 hL (by omega) ?_
  refine l_bl dL_law_1452 dL_law_1455 dL_law_1456 dL_law_1459 ?_
  refine l_ld dL_law_1460 dL_law_1461 dL_law_1462 (j := 2) (by decide) dL_law_1463 dL_law_1464 sc1 hL (by omega) ?_
  refine l_ld dL_law_1465 dL_law_1466 dL_law_1467 (j := 3) (by decide) dL_law_1468 dL_law_1469 sc1 hL (by omega) ?_
  refine l_ld dL_law_1470 dL_law_1471 dL_law_1472 (j := 4) (by decide) dL_law_1473 dL_law_1474 sc1 hL (by omega) ?_
  refine l_ld dL_law_1475 dL_law_1476 dL_law_1477 (j := 5) (by decide) dL_law_1478 dL_law_1479 sc1 hL (by omega) ?_
  refine l_bl dL_law_1480 dL_law_1483 dL_law_1484 dL_law_1487 ?_
  refine y_callVQ (as := [.int (nI (b01 (xs (i + 1)))), .int (xs (i + 2)), .int (xs (i + 3)), .int (xs (i + 4)), .int (nI (b01 (xs (i + 5))))]) (d := 139) CX9_fair LL_158 IX9_fair VX9_fair ⟨rfl, by decide⟩ dL_law_1488 o9 rfl (Nat.le_of_ble_eq_true rfl) (Nat.le_of_ble_eq_true rfl) (Nat.le_refl _) s2 (fun r h' q => ⟨by rw [q.1]; exact k1, q.2.1⟩) ?_
  rintro r h2 ⟨rfl, _, q⟩
  refine z_lcmp dL_law_1491 ?_
  exact z_if_eq dL_law_1492 (tgt := 1667) (by decide) (fun _ => kk h2 q) (fun e => absurd (lg_self x) e)

theorem law_owed {N S L i c : Nat} {xs : Nat → Int32} {h : Hp} {I : Nat → Hp → Prop} {Q : Option Value → Hp → Prop} (o8 : IO h 8 8) (sc : SCR h L xs) (hL : L ≤ 3072) (hi : i + 5 < L) (hp : PrI L xs I N S c mX8_owed mX9_owed [.int (xs (i + 1)), .int (xs (i + 2))] h) (kk : ∀ h2, I (c + 1) h2 → T 140 N S mL_law 1667 (lvL i) [] h2 Q) : T 140 N S mL_law 1497 (lvL i) [] h Q := by
  obtain ⟨x, h1, s1, k1, g1, o9, sc1, s2⟩ := hp
  refine z_aload_n dL_law_1497 rfl rfl ?_
  refine l_ld dL_law_1498 dL_law_1499 dL_law_1500 (j := 1) (by decide) dL_law_1501 dL_law_1502 sc hL (by omega) ?_
  refine l_ld dL_law_1503 dL_law_1504 dL_law_1505 (j := 2) (by decide) dL_law_1506 dL_law_1507 sc hL (by omega) ?_
  refine y_callV (as := [.int (xs (i + 1)), .int (xs (i + 2))]) (d := 139) CX8_owed LL_159 IX8_owed VX8_owed ⟨rfl, by decide⟩ dL_law_1508 o8 rfl (Nat.le_of_ble_eq_true rfl) (Nat.le_of_ble_eq_true rfl) (Nat.le_refl _) s1 k1 g1 ?_
  refine z_aload_n dL_law_1511 rfl rfl ?_
  refine l_ld dL_law_1512 dL_law_1513 dL_law_1514 (j := 1) (by decide) dL_law_1515 dL_law_1516 sc1 hL (by omega) ?_
  refine l_ld dL_law_1517 dL_law_1518 dL_law_1519 (j := 2) (by decide) dL_law_1520 dL_law_1521 sc1 hL (by omega) ?_
  refine y_callVQ (as := [.int (xs (i + 1)), .int (xs (i + 2))]) (d := 139) CX9_owed LL_162 IX9_owed VX9_owed ⟨rfl, by decide⟩ dL_law_1522 o9 rfl (Nat.le_of_ble_eq_true rfl) (Nat.le_of_ble_eq_true rfl) (Nat.le_refl _) s2 (fun r h' q => ⟨by rw [q.1]; exact k1, q.2.1⟩) ?_
  rintro r h2 ⟨rfl, _, q⟩
  exact z_icmp_eq dL_law_1525 (tgt := 1667) (by decide) (fun _ => kk h2 q) (fun e => absurd rfl e)

theorem law_whose {N S L i c : Nat} {xs : Nat → Int32} {h : Hp} {I : Nat → Hp → Prop} {Q : Option Value → Hp → Prop} (o8 : IO h 8 8) (sc : SCR h L xs) (hL : L ≤ 3072) (hi : i + 5 < L) (hp : PrI L xs I N S c mX8_whose mX9_whose [] h) (kk : ∀ h2, I (c + 1) h2 → T 140 N S mL_law 1667 (lvL i) [] h2 Q) : T 140 N S mL_law 1530 (lvL i) [] h Q := by
  obtain ⟨x, h1, s1, k1, g1, o9, sc1, s2⟩ := hp
  refine z_aload_n dL_law_1530 rfl rfl ?_
  refine y_callV (as := []) (d := 139) CX8_whose LL_163 IX8_whose VX8_whose ⟨rfl, by decide⟩ dL_law_1531 o8 rfl (Nat.le_of_ble_eq_true rfl) (Nat.le_of_ble_eq_true rfl) (Nat.le_refl _) s1 k1 g1 ?_
  refine z_aload_n dL_law_1534 rfl rfl ?_
  refine y_callVQ (as := []) (d := 139) CX9_whose LL_166 IX9_whose VX9_whose ⟨rfl, by decide⟩ dL_law_1535 o9 rfl (Nat.le_of_ble_eq_true rfl) (Nat.le_of_ble_eq_true rfl) (Nat.le_refl _) s2 (fun r h' q => ⟨by rw [q.1]; exact k1, q.2.1⟩) ?_
  rintro r h2 ⟨rfl, _, q⟩
  exact z_icmp_eq dL_law_1538 (tgt := 1667) (by decide) (fun _ => kk h2 q) (fun e => absurd rfl e)

theorem law_famous {N S L i c : Nat} {xs : Nat → Int32} {h : Hp} {I : Nat → Hp → Prop} {Q : Option Value → Hp → Prop} (o8 : IO h 8 8) (sc : SCR h L xs) (hL : L ≤ 3072) (hi : i + 5 < L) (hp : PrI L xs I N S c mX8_famous mX9_famous [] h) (kk : ∀ h2, I (c + 1) h2 → T 140 N S mL_law 1667 (lvL i) [] h2 Q) : T 140 N S mL_law 1543 (lvL i) [] h Q := by
  obtain ⟨x, h1, s1, k1, g1, o9, sc1, s2⟩ := hp
  refine z_aload_n dL_law_1543 rfl rfl ?_
  refine y_callV (as := []) (d := 139) CX8_famous LL_167 IX8_famous VX8_famous ⟨rfl, by decide⟩ dL_law_1544 o8 rfl (Nat.le_of_ble_eq_true rfl) (Nat.le_of_ble_eq_true rfl) (Nat.le_refl _) s1 k1 g1 ?_
  refine z_aload_n dL_law_1547 rfl rfl ?_
  refine y_callVQ (as := []) (d := 139) CX9_famous LL_170 IX9_famous VX9_famous ⟨rfl, by decide⟩ dL_law_1548 o9 rfl (Nat.le_of_ble_eq_true rfl) (Nat.le_of_ble_eq_true rfl) (Nat.le_refl _) s2 (fun r h' q => ⟨by rw [q.1]; exact k1, q.2.1⟩) ?_
  rintro r h2 ⟨rfl, _, q⟩
  exact z_icmp_eq dL_law_1551 (tgt := 1667) (by decide) (fun _ => kk h2 q) (fun e => absurd rfl e)

theorem law_richest {N S L i c : Nat} {xs : Nat → Int32} {h : Hp} {I : Nat → Hp → Prop} {Q : Option Value → Hp → Prop} (o8 : IO h 8 8) (sc : SCR h L xs) (hL : L ≤ 3072) (hi : i + 5 < L) (hp : PrI L xs I N S c mX8_richest mX9_richest [] h) (kk : ∀ h2, I (c + 1) h2 → T 140 N S mL_law 1667 (lvL i) [] h2 Q) : T 140 N S mL_law 1556 (lvL i) [] h Q := by
  obtain ⟨x, h1, s1, k1, g1, o9, sc1, s2⟩ := hp
  refine z_aload_n dL_law_1556 rfl rfl ?_
  refine y_callV (as := []) (d := 139) CX8_richest LL_171 IX8_richest VX8_richest ⟨rfl, by decide⟩ dL_law_1557 o8 rfl (Nat.le_of_ble_eq_true rfl) (Nat.le_of_ble_eq_true rfl) (Nat.le_refl _) s1 k1 g1 ?_
  refine z_aload_n dL_law_1560 rfl rfl ?_
  refine y_callVQ (as := []) (d := 139) CX9_richest LL_174 IX9_richest VX9_richest ⟨rfl, by decide⟩ dL_law_1561 o9 rfl (Nat.le_of_ble_eq_true rfl) (Nat.le_of_ble_eq_true rfl) (Nat.le_refl _) s2 (fun r h' q => ⟨by rw [q.1]; exact k1, q.2.1⟩) ?_
  rintro r h2 ⟨rfl, _, q⟩
  exact z_icmp_eq dL_law_1564 (tgt := 1667) (by decide) (fun _ => kk h2 q) (fun e => absurd rfl e)

theorem law_ruined {N S L i c : Nat} {xs : Nat → Int32} {h : Hp} {I : Nat → Hp → Prop} {Q : Option Value → Hp → Prop} (o8 : IO h 8 8) (sc : SCR h L xs) (hL : L ≤ 3072) (hi : i + 5 < L) (hp : PrI L xs I N S c mX8_ruined mX9_ruined [] h) (kk : ∀ h2, I (c + 1) h2 → T 140 N S mL_law 1667 (lvL i) [] h2 Q) : T 140 N S mL_law 1569 (lvL i) [] h Q := by
  obtain ⟨x, h1, s1, k1, g1, o9, sc1, s2⟩ := hp
  refine z_aload_n dL_law_1569 rfl rfl ?_
  refine y_callV (as := []) (d := 139) CX8_ruined LL_175 IX8_ruined VX8_ruined ⟨rfl, by decide⟩ dL_law_1570 o8 rfl (Nat.le_of_ble_eq_true rfl) (Nat.le_of_ble_eq_true rfl) (Nat.le_refl _) s1 k1 g1 ?_
  refine z_aload_n dL_law_1573 rfl rfl ?_
  refine y_callVQ (as := []) (d := 139) CX9_ruined LL_178 IX9_ruined VX9_ruined ⟨rfl, by decide⟩ dL_law_1574 o9 rfl (Nat.le_of_ble_eq_true rfl) (Nat.le_of_ble_eq_true rfl) (Nat.le_refl _) s2 (fun r h' q => ⟨by rw [q.1]; exact k1, q.2.1⟩) ?_
  rintro r h2 ⟨rfl, _, q⟩
  exact z_icmp_eq dL_law_1577 (tgt := 1667) (by decide) (fun _ => kk h2 q) (fun e => absurd rfl e)

theorem law_idle {N S L i c : Nat} {xs : Nat → Int32} {h : Hp} {I : Nat → Hp → Prop} {Q : Option Value → Hp → Prop} (o8 : IO h 8 8) (sc : SCR h L xs) (hL : L ≤ 3072) (hi : i + 5 < L) (hp : PrI L xs I N S c mX8_idle mX9_idle [] h) (kk : ∀ h2, I (c + 1) h2 → T 140 N S mL_law 1667 (lvL i) [] h2 Q) : T 140 N S mL_law 1582 (lvL i) [] h Q := by
  obtain ⟨x, h1, s1, k1, g1, o9, sc1, s2⟩ := hp
  refine z_aload_n dL_law_1582 rfl rfl ?_
  refine y_callV (as := []) (d := 139) CX8_idle LL_179 IX8_idle VX8_idle ⟨rfl, by decide⟩ dL_law_1583 o8 rfl (Nat.le_of_ble_eq_true rfl) (Nat.le_of_ble_eq_true rfl) (Nat.le_refl _) s1 k1 g1 ?_
  refine z_aload_n dL_law_1586 rfl rfl ?_
  refine y_callVQ (as := []) (d := 139) CX9_idle LL_182 IX9_idle VX9_idle ⟨rfl, by decide⟩ dL_law_1587 o9 rfl (Nat.le_of_ble_eq_true rfl) (Nat.le_of_ble_eq_true rfl) (Nat.le_refl _) s2 (fun r h' q => ⟨by rw [q.1]; exact k1, q.2.1⟩) ?_
  rintro r h2 ⟨rfl, _, q⟩
  exact z_icmp_eq dL_law_1590 (tgt := 1667) (by decide) (fun _ => kk h2 q) (fun e => absurd rfl e)

theorem law_ledger {N S L i c : Nat} {xs : Nat → Int32} {h : Hp} {I : Nat → Hp → Prop} {Q : Option Value → Hp → Prop} (o8 : IO h 8 8) (sc : SCR h L xs) (hL : L ≤ 3072) (hi : i + 5 < L) (hp : PrI L xs I N S c mX8_ledger mX9_ledger [.int (xs (i + 1))] h) (kk : ∀ h2, I (c + 1) h2 → T 140 N S mL_law 1667 (lvL i) [] h2 Q) : T 140 N S mL_law 1595 (lvL i) [] h Q := by
  obtain ⟨x, h1, s1, k1, g1, o9, sc1, s2⟩ := hp
  refine z_aload_n dL_law_1595 rfl rfl ?_
  refine l_ld dL_law_1596 dL_law_1597 dL_law_1598 (j := 1) (by decide) dL_law_1599 dL_law_1600 sc hL (by omega) ?_
  refine y_callV (as := [.int (xs (i + 1))]) (d := 139) CX8_ledger LL_183 IX8_ledger VX8_ledger ⟨rfl, by decide⟩ dL_law_1601 o8 rfl (Nat.le_of_ble_eq_true rfl) (Nat.le_of_ble_eq_true rfl) (Nat.le_refl _) s1 k1 g1 ?_
  refine z_aload_n dL_law_1604 rfl rfl ?_
  refine l_ld dL_law_1605 dL_law_1606 dL_law_1607 (j := 1) (by decide) dL_law_1608 dL_law_1609 sc1 hL (by omega) ?_
  refine y_callVQ (as := [.int (xs (i + 1))]) (d := 139) CX9_ledger LL_186 IX9_ledger VX9_ledger ⟨rfl, by decide⟩ dL_law_1610 o9 rfl (Nat.le_of_ble_eq_true rfl) (Nat.le_of_ble_eq_true rfl) (Nat.le_refl _) s2 (fun r h' q => ⟨by rw [q.1]; exact k1, q.2.1⟩) ?_
  rintro r h2 ⟨rfl, _, q⟩
  exact z_icmp_eq dL_law_1613 (tgt := 1667) (by decide) (fun _ => kk h2 q) (fun e => absurd rfl e)

theorem law_image {N S L i c : Nat} {xs : Nat → Int32} {h : Hp} {I : Nat → Hp → Prop} {Q : Option Value → Hp → Prop} (o8 : IO h 8 8) (sc : SCR h L xs) (hL : L ≤ 3072) (hi : i + 5 < L) (hp : PrI L xs I N S c mX8_image mX9_image [] h) (kk : ∀ h2, I (c + 1) h2 → T 140 N S mL_law 1667 (lvL i) [] h2 Q) : T 140 N S mL_law 1618 (lvL i) [] h Q := by
  obtain ⟨x, h1, s1, k1, g1, o9, sc1, s2⟩ := hp
  refine z_aload_n dL_law_1618 rfl rfl ?_
  refine y_callV (as := []) (d := 139) CX8_image LL_187 IX8_image VX8_image ⟨rfl, by decide⟩ dL_law_1619 o8 rfl (Nat.le_of_ble_eq_true rfl) (Nat.le_of_ble_eq_true rfl) (Nat.le_refl _) s1 k1 g1 ?_
  refine z_aload_n dL_law_1622 rfl rfl ?_
  refine y_callVQ (as := []) (d := 139) CX9_image LL_190 IX9_image VX9_image ⟨rfl, by decide⟩ dL_law_1623 o9 rfl (Nat.le_of_ble_eq_true rfl) (Nat.le_of_ble_eq_true rfl) (Nat.le_refl _) s2 (fun r h' q => ⟨by rw [q.1]; exact k1, q.2.1⟩) ?_
  rintro r h2 ⟨rfl, _, q⟩
  exact z_icmp_eq dL_law_1626 (tgt := 1667) (by decide) (fun _ => kk h2 q) (fun e => absurd rfl e)

theorem law_back {N S L i c : Nat} {xs : Nat → Int32} {h : Hp} {I : Nat → Hp → Prop} {Q : Option Value → Hp → Prop} (o8 : IO h 8 8) (sc : SCR h L xs) (hL : L ≤ 3072) (hi : i + 5 < L) (hp : PrI L xs I N S c mX8_back mX9_back [] h) (kk : ∀ h2, I (c + 1) h2 → T 140 N S mL_law 1667 (lvL i) [] h2 Q) : T 140 N S mL_law 1631 (lvL i) [] h Q := by
  obtain ⟨x, h1, s1, k1, g1, o9, sc1, s2⟩ := hp
  refine z_aload_n dL_law_1631 rfl rfl ?_
  refine y_callV (as := []) (d := 139) CX8_back LL_191 IX8_back VX8_back ⟨rfl, by decide⟩ dL_law_1632 o8 rfl (Nat.le_of_ble_eq_true rfl) (Nat.le_of_ble_eq_true rfl) (Nat.le_refl _) s1 k1 g1 ?_
  refine z_aload_n dL_law_1635 rfl rfl ?_
  refine y_callVQ (as := []) (d := 139) CX9_back LL_194 IX9_back VX9_back ⟨rfl, by decide⟩ dL_law_1636 o9 rfl (Nat.le_of_ble_eq_true rfl) (Nat.le_of_ble_eq_true rfl) (Nat.le_refl _) s2 (fun r h' q => ⟨by rw [q.1]; exact k1, q.2.1⟩) ?_
  rintro r h2 ⟨rfl, _, q⟩
  exact z_icmp_eq dL_law_1639 (tgt := 1667) (by decide) (fun _ => kk h2 q) (fun e => absurd rfl e)

theorem law_about {N S L i c : Nat} {xs : Nat → Int32} {h : Hp} {I : Nat → Hp → Prop} {Q : Option Value → Hp → Prop} (o8 : IO h 8 8) (sc : SCR h L xs) (hL : L ≤ 3072) (hi : i + 5 < L) (hp : PrI L xs I N S c mX8_about mX9_about [.int (xs (i + 1))] h) (kk : ∀ h2, I (c + 1) h2 → T 140 N S mL_law 1667 (lvL i) [] h2 Q) : T 140 N S mL_law 1644 (lvL i) [] h Q := by
  obtain ⟨x, h1, s1, k1, g1, o9, sc1, s2⟩ := hp
  refine z_aload_n dL_law_1644 rfl rfl ?_
  refine l_ld dL_law_1645 dL_law_1646 dL_law_1647 (j := 1) (by decide) dL_law_1648 dL_law_1649 sc hL (by omega) ?_
  refine y_callV (as := [.int (xs (i + 1))]) (d := 139) CX8_about LL_195 IX8_about VX8_about ⟨rfl, by decide⟩ dL_law_1650 o8 rfl (Nat.le_of_ble_eq_true rfl) (Nat.le_of_ble_eq_true rfl) (Nat.le_refl _) s1 k1 g1 ?_
  refine z_aload_n dL_law_1653 rfl rfl ?_
  refine l_ld dL_law_1654 dL_law_1655 dL_law_1656 (j := 1) (by decide) dL_law_1657 dL_law_1658 sc1 hL (by omega) ?_
  refine y_callVQ (as := [.int (xs (i + 1))]) (d := 139) CX9_about LL_198 IX9_about VX9_about ⟨rfl, by decide⟩ dL_law_1659 o9 rfl (Nat.le_of_ble_eq_true rfl) (Nat.le_of_ble_eq_true rfl) (Nat.le_refl _) s2 (fun r h' q => ⟨by rw [q.1]; exact k1, q.2.1⟩) ?_
  rintro r h2 ⟨rfl, _, q⟩
  exact z_icmp_eq dL_law_1662 (tgt := 1667) (by decide) (fun _ => kk h2 q) (fun e => absurd rfl e)

