/-! the law's loop (wip/whole/genb7.py) -/
/-- both do the same, whatever the script asks at the place i -/
def ALLp (L : Nat) (xs : Nat → Int32) (I : Nat → Hp → Prop) (N S c i : Nat) (h : Hp) : Prop :=
  PrI L xs I N S c mX8_fact mX9_fact [.int (xs (i + 1)), .int (xs (i + 2))] h ∧
  PrI L xs I N S c mX8_prophet mX9_prophet [.int (xs (i + 1)), .int (xs (i + 2))] h ∧
  PrI L xs I N S c mX8_feed mX9_feed [.int (xs (i + 1)), .int (xs (i + 2)), .int (xs (i + 3)), .int (xs (i + 4)), .int (xs (i + 5))] h ∧
  PrI L xs I N S c mX8_end mX9_end [.int (xs (i + 1))] h ∧
  PrI L xs I N S c mX8_text mX9_text [] h ∧
  PrI L xs I N S c mX8_fault mX9_fault [.int (xs (i + 1))] h ∧
  PrI L xs I N S c mX8_by mX9_by [.int (xs (i + 1))] h ∧
  PrI L xs I N S c mX8_foretell mX9_foretell [.int (xs (i + 1)), .int (nI (b01 (xs (i + 2)))), .int (xs (i + 3)), .int (xs (i + 4)), .int (xs (i + 5))] h ∧
  PrI L xs I N S c mX8_bring mX9_bring [.int (xs (i + 1)), .int (xs (i + 2))] h ∧
  PrI L xs I N S c mX8_spoil mX9_spoil [.int (xs (i + 1)), .int (xs (i + 2))] h ∧
  PrI L xs I N S c mX8_sell mX9_sell [.int (xs (i + 1)), .int (xs (i + 2)), .int (xs (i + 3))] h ∧
  PrI L xs I N S c mX8_day mX9_day [.int (xs (i + 1))] h ∧
  PrI L xs I N S c mX8_played mX9_played [.int (xs (i + 1))] h ∧
  PrI L xs I N S c mX8_years mX9_years [.int (xs (i + 1)), .int (xs (i + 2))] h ∧
  PrI L xs I N S c mX8_undo mX9_undo [] h ∧
  PrI L xs I N S c mX8_of mX9_of [.int (xs (i + 1)), .int (xs (i + 2))] h ∧
  PrI L xs I N S c mX8_ofFact mX9_ofFact [.int (xs (i + 1)), .int (xs (i + 2))] h ∧
  PrI L xs I N S c mX8_word mX9_word [.int (xs (i + 1)), .int (xs (i + 2))] h ∧
  PrI L xs I N S c mX8_is mX9_is [.int (xs (i + 1))] h ∧
  PrI L xs I N S c mX8_book mX9_book [.int (xs (i + 1)), .int (xs (i + 2))] h ∧
  PrI L xs I N S c mX8_ahead mX9_ahead [.int (xs (i + 1)), .int (xs (i + 2)), .int (xs (i + 3))] h ∧
  PrI L xs I N S c mX8_until mX9_until [.int (xs (i + 1))] h ∧
  PrJ L xs I N S c mX8_odds mX9_odds [.int (nI (b01 (xs (i + 1)))), .int (xs (i + 2)), .int (xs (i + 3)), .int (nI (b01 (xs (i + 4))))] h ∧
  PrI L xs I N S c mX8_least mX9_least [.int (xs (i + 1)), .int (nI (b01 (xs (i + 2))))] h ∧
  PrI L xs I N S c mX8_stop mX9_stop [.int (xs (i + 1))] h ∧
  PrI L xs I N S c mX8_offer mX9_offer [.int (nI (b01 (xs (i + 1)))), .int (xs (i + 2)), .int (xs (i + 3)), .int (xs (i + 4))] h ∧
  PrI L xs I N S c mX8_purse mX9_purse [.int (xs (i + 1)), .int (nI (b01 (xs (i + 2))))] h ∧
  PrI L xs I N S c mX8_worst mX9_worst [.int (xs (i + 1))] h ∧
  PrI L xs I N S c mX8_heard mX9_heard [.int (xs (i + 1)), .int (nI (b01 (xs (i + 2))))] h ∧
  PrI L xs I N S c mX8_worlds mX9_worlds [.int (xs (i + 1)), .int (xs (i + 2))] h ∧
  PrI L xs I N S c mX8_tells mX9_tells [.int (xs (i + 1))] h ∧
  PrI L xs I N S c mX8_duel mX9_duel [.int (nI (b01 (xs (i + 1)))), .int (nI (b01 (xs (i + 2))))] h ∧
  PrJ L xs I N S c mX8_fair mX9_fair [.int (nI (b01 (xs (i + 1)))), .int (xs (i + 2)), .int (xs (i + 3)), .int (xs (i + 4)), .int (nI (b01 (xs (i + 5))))] h ∧
  PrI L xs I N S c mX8_owed mX9_owed [.int (xs (i + 1)), .int (xs (i + 2))] h ∧
  PrI L xs I N S c mX8_whose mX9_whose [] h ∧
  PrI L xs I N S c mX8_famous mX9_famous [] h ∧
  PrI L xs I N S c mX8_richest mX9_richest [] h ∧
  PrI L xs I N S c mX8_ruined mX9_ruined [] h ∧
  PrI L xs I N S c mX8_idle mX9_idle [] h ∧
  PrI L xs I N S c mX8_ledger mX9_ledger [.int (xs (i + 1))] h ∧
  PrI L xs I N S c mX8_image mX9_image [] h ∧
  PrI L xs I N S c mX8_back mX9_back [] h ∧
  PrI L xs I N S c mX8_about mX9_about [.int (xs (i + 1))] h
theorem and63 (x : Int32) : ∃ k, k < 64 ∧ x &&& 63 = nI k := by
  refine ⟨x.toBitVec.toNat &&& 63, Nat.lt_of_le_of_lt Nat.and_le_right (by decide), ?_⟩
  rw [← nI_and]
  have e : x = nI x.toBitVec.toNat := nI_of_bv (by rw [BitVec.ofNat_toNat, BitVec.setWidth_eq])
  rw [← e]
  rfl
theorem l_more {L i : Nat} (hL : L ≤ 3072) (hi : i ≤ 3072) (hn : ¬ nI L - 6 < nI i) : i + 5 < L := by
  rw [Int32.lt_iff_toInt_lt, show (6 : Int32) = nI 6 from rfl, pk_sub_toInt (by omega) (by omega), nI_toInt (by omega)] at hn
  omega

set_option maxHeartbeats 1000000 in
theorem law_loop {N S L : Nat} {xs : Nat → Int32} {I : Nat → Hp → Prop} (hL : L ≤ 3072) (hI : ∀ c h, I c h → IO h 8 8 ∧ SCR h L xs) (hx : ∀ c h, I c h → I (c + 1) h) (hs : ∀ c h, c < 512 → 6 * c + 5 < L → I c h → ALLp L xs I N S c (6 * c) h) : ∀ n c h, c + n = 512 → 6 * c ≤ L → I c h → T 140 N S mL_law 18 (lvL (6 * c)) [] h (fun r _ => r = some (.int 1)) := by
  intro n
  induction n with
  | zero =>
    intro c h hc h6 hi
    obtain ⟨o8, sc⟩ := hI c h hi
    refine z_iload_n dL_law_18 rfl rfl ?_
    refine z_aload_n dL_law_19 rfl rfl ?_
    refine z_alen dL_law_20 sc.1 sc.2.1 (by decide) rfl ?_
    refine z_bipush (v := 6) dL_law_21 (by decide) ?_
    refine z_isub dL_law_23 ?_
    refine z_icmp_gt dL_law_24 (tgt := 1673) rfl (fun _ => ?_) (fun e => ?_)
    · refine z_iconst (v := 1) dL_law_1673 (by decide) ?_
      exact z_iret dL_law_1674 rfl
    · have := l_more hL (by omega) e
      omega
  | succ n ih =>
    intro c h hc0 h6 hi
    have hc : c < 512 := by omega
    obtain ⟨o8, sc⟩ := hI c h hi
    refine z_iload_n dL_law_18 rfl rfl ?_
    refine z_aload_n dL_law_19 rfl rfl ?_
    refine z_alen dL_law_20 sc.1 sc.2.1 (by decide) rfl ?_
    refine z_bipush (v := 6) dL_law_21 (by decide) ?_
    refine z_isub dL_law_23 ?_
    refine z_icmp_gt dL_law_24 (tgt := 1673) rfl (fun _ => ?_) (fun e => ?_)
    · refine z_iconst (v := 1) dL_law_1673 (by decide) ?_
      exact z_iret dL_law_1674 rfl
    have hm := l_more hL (by omega) e
    have nx : ∀ h2, I (c + 1) h2 → T 140 N S mL_law 1667 (lvL (6 * c)) [] h2 (fun r _ => r = some (.int 1)) := fun h2 q => by
      refine z_iinc (v := nI (6 * (c + 1))) dL_law_1667 rfl (by show nI (6 * c) + nI 6 = nI (6 * (c + 1)); rw [nI_add]; rfl) (by decide) ?_
      refine z_goto dL_law_1670 (tgt := 18) rfl ?_
      exact ih (c + 1) h2 (by omega) (by omega) q
    refine z_aload_n dL_law_27 rfl rfl ?_
    refine z_iload_n dL_law_28 rfl rfl ?_
    refine z_iald dL_law_29 sc.1 sc.2.1 (vp_in_nI (show 6 * c < L by omega) (by omega)) ?_
    refine z_bipush (v := 63) dL_law_30 (by decide) ?_
    refine z_iand dL_law_32 ?_
    obtain ⟨k, hk, ek⟩ := and63 (pI h 1 (nI (6 * c)).toNatClampNeg)
    rw [ek]
    clear ek
    by_cases h42 : 42 < k
    · refine z_tableOut (tgt := 1667) dL_law_33 (Or.inr (by rw [nI_toInt (by omega)]; omega)) rfl ?_
      exact nx h (hx c h hi)
    have hk : k = 0 ∨ k = 1 ∨ k = 2 ∨ k = 3 ∨ k = 4 ∨ k = 5 ∨ k = 6 ∨ k = 7 ∨ k = 8 ∨ k = 9 ∨ k = 10 ∨ k = 11 ∨ k = 12 ∨ k = 13 ∨ k = 14 ∨ k = 15 ∨ k = 16 ∨ k = 17 ∨ k = 18 ∨ k = 19 ∨ k = 20 ∨ k = 21 ∨ k = 22 ∨ k = 23 ∨ k = 24 ∨ k = 25 ∨ k = 26 ∨ k = 27 ∨ k = 28 ∨ k = 29 ∨ k = 30 ∨ k = 31 ∨ k = 32 ∨ k = 33 ∨ k = 34 ∨ k = 35 ∨ k = 36 ∨ k = 37 ∨ k = 38 ∨ k = 39 ∨ k = 40 ∨ k = 41 ∨ k = 42 := by omega
    rcases hk with rfl | rfl | rfl | rfl | rfl | rfl | rfl | rfl | rfl | rfl | rfl | rfl | rfl | rfl | rfl | rfl | rfl | rfl | rfl | rfl | rfl | rfl | rfl | rfl | rfl | rfl | rfl | rfl | rfl | rfl | rfl | rfl | rfl | rfl | rfl | rfl | rfl | rfl | rfl | rfl | rfl | rfl | rfl
    · exact z_tableIn (off := 187) (tgt := 220) dL_law_33 (by decide) (by decide) rfl rfl (law_fact o8 sc hL hm (hs c h hc hm hi).1 nx)
    · exact z_tableIn (off := 220) (tgt := 253) dL_law_33 (by decide) (by decide) rfl rfl (law_prophet o8 sc hL hm (hs c h hc hm hi).2.1 nx)
    · exact z_tableIn (off := 253) (tgt := 286) dL_law_33 (by decide) (by decide) rfl rfl (law_feed o8 sc hL hm (hs c h hc hm hi).2.2.1 nx)
    · exact z_tableIn (off := 316) (tgt := 349) dL_law_33 (by decide) (by decide) rfl rfl (law_end o8 sc hL hm (hs c h hc hm hi).2.2.2.1 nx)
    · exact z_tableIn (off := 339) (tgt := 372) dL_law_33 (by decide) (by decide) rfl rfl (law_text o8 sc hL hm (hs c h hc hm hi).2.2.2.2.1 nx)
    · exact z_tableIn (off := 352) (tgt := 385) dL_law_33 (by decide) (by decide) rfl rfl (law_fault o8 sc hL hm (hs c h hc hm hi).2.2.2.2.2.1 nx)
    · exact z_tableIn (off := 375) (tgt := 408) dL_law_33 (by decide) (by decide) rfl rfl (law_by o8 sc hL hm (hs c h hc hm hi).2.2.2.2.2.2.1 nx)
    · exact z_tableIn (off := 398) (tgt := 431) dL_law_33 (by decide) (by decide) rfl rfl (law_foretell o8 sc hL hm (hs c h hc hm hi).2.2.2.2.2.2.2.1 nx)
    · exact z_tableIn (off := 477) (tgt := 510) dL_law_33 (by decide) (by decide) rfl rfl (law_bring o8 sc hL hm (hs c h hc hm hi).2.2.2.2.2.2.2.2.1 nx)
    · exact z_tableIn (off := 510) (tgt := 543) dL_law_33 (by decide) (by decide) rfl rfl (law_spoil o8 sc hL hm (hs c h hc hm hi).2.2.2.2.2.2.2.2.2.1 nx)
    · exact z_tableIn (off := 543) (tgt := 576) dL_law_33 (by decide) (by decide) rfl rfl (law_sell o8 sc hL hm (hs c h hc hm hi).2.2.2.2.2.2.2.2.2.2.1 nx)
    · exact z_tableIn (off := 586) (tgt := 619) dL_law_33 (by decide) (by decide) rfl rfl (law_day o8 sc hL hm (hs c h hc hm hi).2.2.2.2.2.2.2.2.2.2.2.1 nx)
    · exact z_tableIn (off := 609) (tgt := 642) dL_law_33 (by decide) (by decide) rfl rfl (law_played o8 sc hL hm (hs c h hc hm hi).2.2.2.2.2.2.2.2.2.2.2.2.1 nx)
    · exact z_tableIn (off := 632) (tgt := 665) dL_law_33 (by decide) (by decide) rfl rfl (law_years o8 sc hL hm (hs c h hc hm hi).2.2.2.2.2.2.2.2.2.2.2.2.2.1 nx)
    · exact z_tableIn (off := 665) (tgt := 698) dL_law_33 (by decide) (by decide) rfl rfl (law_undo o8 sc hL hm (hs c h hc hm hi).2.2.2.2.2.2.2.2.2.2.2.2.2.2.1 nx)
    · exact z_tableIn (off := 678) (tgt := 711) dL_law_33 (by decide) (by decide) rfl rfl (law_of o8 sc hL hm (hs c h hc hm hi).2.2.2.2.2.2.2.2.2.2.2.2.2.2.2.1 nx)
    · exact z_tableIn (off := 711) (tgt := 744) dL_law_33 (by decide) (by decide) rfl rfl (law_ofFact o8 sc hL hm (hs c h hc hm hi).2.2.2.2.2.2.2.2.2.2.2.2.2.2.2.2.1 nx)
    · exact z_tableIn (off := 744) (tgt := 777) dL_law_33 (by decide) (by decide) rfl rfl (law_word o8 sc hL hm (hs c h hc hm hi).2.2.2.2.2.2.2.2.2.2.2.2.2.2.2.2.2.1 nx)
    · exact z_tableIn (off := 777) (tgt := 810) dL_law_33 (by decide) (by decide) rfl rfl (law_is o8 sc hL hm (hs c h hc hm hi).2.2.2.2.2.2.2.2.2.2.2.2.2.2.2.2.2.2.1 nx)
    · exact z_tableIn (off := 800) (tgt := 833) dL_law_33 (by decide) (by decide) rfl rfl (law_book o8 sc hL hm (hs c h hc hm hi).2.2.2.2.2.2.2.2.2.2.2.2.2.2.2.2.2.2.2.1 nx)
    · exact z_tableIn (off := 833) (tgt := 866) dL_law_33 (by decide) (by decide) rfl rfl (law_ahead o8 sc hL hm (hs c h hc hm hi).2.2.2.2.2.2.2.2.2.2.2.2.2.2.2.2.2.2.2.2.1 nx)
    · exact z_tableIn (off := 876) (tgt := 909) dL_law_33 (by decide) (by decide) rfl rfl (law_until o8 sc hL hm (hs c h hc hm hi).2.2.2.2.2.2.2.2.2.2.2.2.2.2.2.2.2.2.2.2.2.1 nx)
    · exact z_tableIn (off := 899) (tgt := 932) dL_law_33 (by decide) (by decide) rfl rfl (law_odds o8 sc hL hm (hs c h hc hm hi).2.2.2.2.2.2.2.2.2.2.2.2.2.2.2.2.2.2.2.2.2.2.1 nx)
    · exact z_tableIn (off := 985) (tgt := 1018) dL_law_33 (by decide) (by decide) rfl rfl (law_least o8 sc hL hm (hs c h hc hm hi).2.2.2.2.2.2.2.2.2.2.2.2.2.2.2.2.2.2.2.2.2.2.2.1 nx)
    · exact z_tableIn (off := 1034) (tgt := 1067) dL_law_33 (by decide) (by decide) rfl rfl (law_stop o8 sc hL hm (hs c h hc hm hi).2.2.2.2.2.2.2.2.2.2.2.2.2.2.2.2.2.2.2.2.2.2.2.2.1 nx)
    · exact z_tableIn (off := 1057) (tgt := 1090) dL_law_33 (by decide) (by decide) rfl rfl (law_offer o8 sc hL hm (hs c h hc hm hi).2.2.2.2.2.2.2.2.2.2.2.2.2.2.2.2.2.2.2.2.2.2.2.2.2.1 nx)
    · exact z_tableIn (off := 1126) (tgt := 1159) dL_law_33 (by decide) (by decide) rfl rfl (law_purse o8 sc hL hm (hs c h hc hm hi).2.2.2.2.2.2.2.2.2.2.2.2.2.2.2.2.2.2.2.2.2.2.2.2.2.2.1 nx)
    · exact z_tableIn (off := 1175) (tgt := 1208) dL_law_33 (by decide) (by decide) rfl rfl (law_worst o8 sc hL hm (hs c h hc hm hi).2.2.2.2.2.2.2.2.2.2.2.2.2.2.2.2.2.2.2.2.2.2.2.2.2.2.2.1 nx)
    · exact z_tableIn (off := 1198) (tgt := 1231) dL_law_33 (by decide) (by decide) rfl rfl (law_heard o8 sc hL hm (hs c h hc hm hi).2.2.2.2.2.2.2.2.2.2.2.2.2.2.2.2.2.2.2.2.2.2.2.2.2.2.2.2.1 nx)
    · exact z_tableIn (off := 1247) (tgt := 1280) dL_law_33 (by decide) (by decide) rfl rfl (law_worlds o8 sc hL hm (hs c h hc hm hi).2.2.2.2.2.2.2.2.2.2.2.2.2.2.2.2.2.2.2.2.2.2.2.2.2.2.2.2.2.1 nx)
    · exact z_tableIn (off := 1280) (tgt := 1313) dL_law_33 (by decide) (by decide) rfl rfl (law_tells o8 sc hL hm (hs c h hc hm hi).2.2.2.2.2.2.2.2.2.2.2.2.2.2.2.2.2.2.2.2.2.2.2.2.2.2.2.2.2.2.1 nx)
    · exact z_tableIn (off := 1303) (tgt := 1336) dL_law_33 (by decide) (by decide) rfl rfl (law_duel o8 sc hL hm (hs c h hc hm hi).2.2.2.2.2.2.2.2.2.2.2.2.2.2.2.2.2.2.2.2.2.2.2.2.2.2.2.2.2.2.2.1 nx)
    · exact z_tableIn (off := 1368) (tgt := 1401) dL_law_33 (by decide) (by decide) rfl rfl (law_fair o8 sc hL hm (hs c h hc hm hi).2.2.2.2.2.2.2.2.2.2.2.2.2.2.2.2.2.2.2.2.2.2.2.2.2.2.2.2.2.2.2.2.1 nx)
    · exact z_tableIn (off := 1464) (tgt := 1497) dL_law_33 (by decide) (by decide) rfl rfl (law_owed o8 sc hL hm (hs c h hc hm hi).2.2.2.2.2.2.2.2.2.2.2.2.2.2.2.2.2.2.2.2.2.2.2.2.2.2.2.2.2.2.2.2.2.1 nx)
    · exact z_tableIn (off := 1497) (tgt := 1530) dL_law_33 (by decide) (by decide) rfl rfl (law_whose o8 sc hL hm (hs c h hc hm hi).2.2.2.2.2.2.2.2.2.2.2.2.2.2.2.2.2.2.2.2.2.2.2.2.2.2.2.2.2.2.2.2.2.2.1 nx)
    · exact z_tableIn (off := 1510) (tgt := 1543) dL_law_33 (by decide) (by decide) rfl rfl (law_famous o8 sc hL hm (hs c h hc hm hi).2.2.2.2.2.2.2.2.2.2.2.2.2.2.2.2.2.2.2.2.2.2.2.2.2.2.2.2.2.2.2.2.2.2.2.1 nx)
    · exact z_tableIn (off := 1523) (tgt := 1556) dL_law_33 (by decide) (by decide) rfl rfl (law_richest o8 sc hL hm (hs c h hc hm hi).2.2.2.2.2.2.2.2.2.2.2.2.2.2.2.2.2.2.2.2.2.2.2.2.2.2.2.2.2.2.2.2.2.2.2.2.1 nx)
    · exact z_tableIn (off := 1536) (tgt := 1569) dL_law_33 (by decide) (by decide) rfl rfl (law_ruined o8 sc hL hm (hs c h hc hm hi).2.2.2.2.2.2.2.2.2.2.2.2.2.2.2.2.2.2.2.2.2.2.2.2.2.2.2.2.2.2.2.2.2.2.2.2.2.1 nx)
    · exact z_tableIn (off := 1549) (tgt := 1582) dL_law_33 (by decide) (by decide) rfl rfl (law_idle o8 sc hL hm (hs c h hc hm hi).2.2.2.2.2.2.2.2.2.2.2.2.2.2.2.2.2.2.2.2.2.2.2.2.2.2.2.2.2.2.2.2.2.2.2.2.2.2.1 nx)
    · exact z_tableIn (off := 1562) (tgt := 1595) dL_law_33 (by decide) (by decide) rfl rfl (law_ledger o8 sc hL hm (hs c h hc hm hi).2.2.2.2.2.2.2.2.2.2.2.2.2.2.2.2.2.2.2.2.2.2.2.2.2.2.2.2.2.2.2.2.2.2.2.2.2.2.2.1 nx)
    · exact z_tableIn (off := 1585) (tgt := 1618) dL_law_33 (by decide) (by decide) rfl rfl (law_image o8 sc hL hm (hs c h hc hm hi).2.2.2.2.2.2.2.2.2.2.2.2.2.2.2.2.2.2.2.2.2.2.2.2.2.2.2.2.2.2.2.2.2.2.2.2.2.2.2.2.1 nx)
    · exact z_tableIn (off := 1598) (tgt := 1631) dL_law_33 (by decide) (by decide) rfl rfl (law_back o8 sc hL hm (hs c h hc hm hi).2.2.2.2.2.2.2.2.2.2.2.2.2.2.2.2.2.2.2.2.2.2.2.2.2.2.2.2.2.2.2.2.2.2.2.2.2.2.2.2.2.1 nx)
    · exact z_tableIn (off := 1611) (tgt := 1644) dL_law_33 (by decide) (by decide) rfl rfl (law_about o8 sc hL hm (hs c h hc hm hi).2.2.2.2.2.2.2.2.2.2.2.2.2.2.2.2.2.2.2.2.2.2.2.2.2.2.2.2.2.2.2.2.2.2.2.2.2.2.2.2.2.2 nx)

