/-! what the tables say: methods, links, fields (by program: wip/whole/mkfacts.py) -/
set_option maxRecDepth 100000 in
theorem inX0 : ∀ w ∈ u_ws RX0 TX0 5, w ∈ TB := fun w hw => List.mem_filter.mpr (by
  have h0 : u_ws RX0 TX0 5 = ([399, 401, 403, 405, 407] : List Nat).filterMap (fun i => lw_tbl[i]?) := by decide +kernel
  have h1 : (u_ws RX0 TX0 5).all mvb = true := by decide +kernel
  refine ⟨?_, List.all_eq_true.mp h1 w hw⟩
  rw [h0] at hw
  obtain ⟨i, -, hi⟩ := List.mem_filterMap.mp hw
  exact List.mem_of_getElem? hi)
set_option maxRecDepth 100000 in
theorem inX1 : ∀ w ∈ u_ws RX1 TX1 11, w ∈ TB := fun w hw => List.mem_filter.mpr (by
  have h0 : u_ws RX1 TX1 11 = ([271, 273, 275, 277, 279, 281, 283, 285, 287, 289, 291] : List Nat).filterMap (fun i => lw_tbl[i]?) := by decide +kernel
  have h1 : (u_ws RX1 TX1 11).all mvb = true := by decide +kernel
  refine ⟨?_, List.all_eq_true.mp h1 w hw⟩
  rw [h0] at hw
  obtain ⟨i, -, hi⟩ := List.mem_filterMap.mp hw
  exact List.mem_of_getElem? hi)
set_option maxRecDepth 100000 in
theorem inX2 : ∀ w ∈ u_ws RX2 TX2 8, w ∈ TB := fun w hw => List.mem_filter.mpr (by
  have h0 : u_ws RX2 TX2 8 = ([357, 359, 361, 363, 365, 367, 369, 371] : List Nat).filterMap (fun i => lw_tbl[i]?) := by decide +kernel
  have h1 : (u_ws RX2 TX2 8).all mvb = true := by decide +kernel
  refine ⟨?_, List.all_eq_true.mp h1 w hw⟩
  rw [h0] at hw
  obtain ⟨i, -, hi⟩ := List.mem_filterMap.mp hw
  exact List.mem_of_getElem? hi)
set_option maxRecDepth 100000 in
theorem inX3 : ∀ w ∈ u_ws RX3 TX3 2, w ∈ TB := fun w hw => List.mem_filter.mpr (by
  have h0 : u_ws RX3 TX3 2 = ([382, 384] : List Nat).filterMap (fun i => lw_tbl[i]?) := by decide +kernel
  have h1 : (u_ws RX3 TX3 2).all mvb = true := by decide +kernel
  refine ⟨?_, List.all_eq_true.mp h1 w hw⟩
  rw [h0] at hw
  obtain ⟨i, -, hi⟩ := List.mem_filterMap.mp hw
  exact List.mem_of_getElem? hi)
set_option maxRecDepth 100000 in
theorem inX4 : ∀ w ∈ u_ws RX4 TX4 4, w ∈ TB := fun w hw => List.mem_filter.mpr (by
  have h0 : u_ws RX4 TX4 4 = ([211, 213, 215, 217] : List Nat).filterMap (fun i => lw_tbl[i]?) := by decide +kernel
  have h1 : (u_ws RX4 TX4 4).all mvb = true := by decide +kernel
  refine ⟨?_, List.all_eq_true.mp h1 w hw⟩
  rw [h0] at hw
  obtain ⟨i, -, hi⟩ := List.mem_filterMap.mp hw
  exact List.mem_of_getElem? hi)
set_option maxRecDepth 100000 in
theorem inX5 : ∀ w ∈ u_ws RX5 TX5 4, w ∈ TB := fun w hw => List.mem_filter.mpr (by
  have h0 : u_ws RX5 TX5 4 = ([339, 341, 343, 345] : List Nat).filterMap (fun i => lw_tbl[i]?) := by decide +kernel
  have h1 : (u_ws RX5 TX5 4).all mvb = true := by decide +kernel
  refine ⟨?_, List.all_eq_true.mp h1 w hw⟩
  rw [h0] at hw
  obtain ⟨i, -, hi⟩ := List.mem_filterMap.mp hw
  exact List.mem_of_getElem? hi)
set_option maxRecDepth 100000 in
theorem inX6 : ∀ w ∈ u_ws RX6 TX6 4, w ∈ TB := fun w hw => List.mem_filter.mpr (by
  have h0 : u_ws RX6 TX6 4 = ([314, 316, 318, 320] : List Nat).filterMap (fun i => lw_tbl[i]?) := by decide +kernel
  have h1 : (u_ws RX6 TX6 4).all mvb = true := by decide +kernel
  refine ⟨?_, List.all_eq_true.mp h1 w hw⟩
  rw [h0] at hw
  obtain ⟨i, -, hi⟩ := List.mem_filterMap.mp hw
  exact List.mem_of_getElem? hi)
set_option maxRecDepth 100000 in
theorem inX7 : ∀ w ∈ u_ws RX7 TX7 6, w ∈ TB := fun w hw => List.mem_filter.mpr (by
  have h0 : u_ws RX7 TX7 6 = ([234, 236, 238, 240, 242, 244] : List Nat).filterMap (fun i => lw_tbl[i]?) := by decide +kernel
  have h1 : (u_ws RX7 TX7 6).all mvb = true := by decide +kernel
  refine ⟨?_, List.all_eq_true.mp h1 w hw⟩
  rw [h0] at hw
  obtain ⟨i, -, hi⟩ := List.mem_filterMap.mp hw
  exact List.mem_of_getElem? hi)
set_option maxRecDepth 100000 in
theorem inX8 : ∀ w ∈ u_ws RX8 TX8 10, w ∈ TB := fun w hw => List.mem_filter.mpr (by
  have h0 : u_ws RX8 TX8 10 = ([420, 422, 424, 426, 428, 430, 432, 434, 436, 438] : List Nat).filterMap (fun i => lw_tbl[i]?) := by decide +kernel
  have h1 : (u_ws RX8 TX8 10).all mvb = true := by decide +kernel
  refine ⟨?_, List.all_eq_true.mp h1 w hw⟩
  rw [h0] at hw
  obtain ⟨i, -, hi⟩ := List.mem_filterMap.mp hw
  exact List.mem_of_getElem? hi)
set_option maxRecDepth 100000 in
theorem inX9 : ∀ w ∈ u_ws RX9 TX9 31, w ∈ TB := fun w hw => List.mem_filter.mpr (by
  have h0 : u_ws RX9 TX9 31 = ([1298, 1300, 1302, 1304, 1306, 1308, 1310, 1312, 1314, 1316, 1318, 1320, 1322, 1324, 1326, 1328, 1330, 1332, 1334, 1336, 1338, 1340, 1342, 1344, 1346, 1348, 1350, 1352, 1354, 1356, 1358] : List Nat).filterMap (fun i => lw_tbl[i]?) := by decide +kernel
  have h1 : (u_ws RX9 TX9 31).all mvb = true := by decide +kernel
  refine ⟨?_, List.all_eq_true.mp h1 w hw⟩
  rw [h0] at hw
  obtain ⟨i, -, hi⟩ := List.mem_filterMap.mp hw
  exact List.mem_of_getElem? hi)
abbrev mX0_init : Mi := (yX0_init, cX0_init, 1, none)
theorem CX0_init : CL mX0_init 0 := ⟨tb_in 391 (by decide +kernel) (by decide +kernel), tb_in 163 (by decide +kernel) (by decide +kernel), ⟨by decide +kernel, by decide +kernel⟩, by decide +kernel, by decide +kernel, Nat.le_of_ble_eq_true rfl⟩
theorem IX0_init : Cond.instanceMethod mX0_init.1 ∈ TB := tb_in 390 (by decide +kernel) (by decide +kernel)
abbrev mX0_begin : Mi := (yX0_begin, cX0_begin, 4, none)
theorem CX0_begin : CL mX0_begin 1 := ⟨tb_in 1135 (by decide +kernel) (by decide +kernel), tb_in 163 (by decide +kernel) (by decide +kernel), ⟨by decide +kernel, by decide +kernel⟩, by decide +kernel, by decide +kernel, Nat.le_of_ble_eq_true rfl⟩
theorem IX0_begin : Cond.instanceMethod mX0_begin.1 ∈ TB := tb_in 1133 (by decide +kernel) (by decide +kernel)
theorem VX0_begin : Cond.selects mX0_begin.1.cls mX0_begin.1 mX0_begin.1 ∈ TB := tb_in 1134 (by decide +kernel) (by decide +kernel)
abbrev mX0_firstFact : Mi := (yX0_firstFact, cX0_firstFact, 3, (some .int))
theorem CX0_firstFact : CL mX0_firstFact 1 := ⟨tb_in 1143 (by decide +kernel) (by decide +kernel), tb_in 163 (by decide +kernel) (by decide +kernel), ⟨by decide +kernel, by decide +kernel⟩, by decide +kernel, by decide +kernel, Nat.le_of_ble_eq_true rfl⟩
theorem IX0_firstFact : Cond.instanceMethod mX0_firstFact.1 ∈ TB := tb_in 1141 (by decide +kernel) (by decide +kernel)
theorem VX0_firstFact : Cond.selects mX0_firstFact.1.cls mX0_firstFact.1 mX0_firstFact.1 ∈ TB := tb_in 1142 (by decide +kernel) (by decide +kernel)
abbrev mX0_comesAbout : Mi := (yX0_comesAbout, cX0_comesAbout, 9, (some .boolean))
theorem CX0_comesAbout : CL mX0_comesAbout 4 := ⟨tb_in 1152 (by decide +kernel) (by decide +kernel), tb_in 163 (by decide +kernel) (by decide +kernel), ⟨by decide +kernel, by decide +kernel⟩, by decide +kernel, by decide +kernel, Nat.le_of_ble_eq_true rfl⟩
theorem IX0_comesAbout : Cond.instanceMethod mX0_comesAbout.1 ∈ TB := tb_in 1151 (by decide +kernel) (by decide +kernel)
theorem VX0_comesAbout : Cond.selects mX0_comesAbout.1.cls mX0_comesAbout.1 mX0_comesAbout.1 ∈ TB := tb_in 54 (by decide +kernel) (by decide +kernel)
abbrev mX0_comesAboutBy : Mi := (yX0_comesAboutBy, cX0_comesAboutBy, 7, (some .boolean))
theorem CX0_comesAboutBy : CL mX0_comesAboutBy 5 := ⟨tb_in 1148 (by decide +kernel) (by decide +kernel), tb_in 163 (by decide +kernel) (by decide +kernel), ⟨by decide +kernel, by decide +kernel⟩, by decide +kernel, by decide +kernel, Nat.le_of_ble_eq_true rfl⟩
theorem IX0_comesAboutBy : Cond.instanceMethod mX0_comesAboutBy.1 ∈ TB := tb_in 1147 (by decide +kernel) (by decide +kernel)
theorem VX0_comesAboutBy : Cond.selects mX0_comesAboutBy.1.cls mX0_comesAboutBy.1 mX0_comesAboutBy.1 ∈ TB := tb_in 53 (by decide +kernel) (by decide +kernel)
abbrev mX0_isWon : Mi := (yX0_isWon, cX0_isWon, 3, (some .boolean))
theorem CX0_isWon : CL mX0_isWon 1 := ⟨tb_in 1156 (by decide +kernel) (by decide +kernel), tb_in 163 (by decide +kernel) (by decide +kernel), ⟨by decide +kernel, by decide +kernel⟩, by decide +kernel, by decide +kernel, Nat.le_of_ble_eq_true rfl⟩
theorem IX0_isWon : Cond.instanceMethod mX0_isWon.1 ∈ TB := tb_in 1155 (by decide +kernel) (by decide +kernel)
theorem VX0_isWon : Cond.selects mX0_isWon.1.cls mX0_isWon.1 mX0_isWon.1 ∈ TB := tb_in 55 (by decide +kernel) (by decide +kernel)
abbrev mX0_positionOf : Mi := (yX0_positionOf, cX0_positionOf, 5, (some .int))
theorem CX0_positionOf : CL mX0_positionOf 2 := ⟨tb_in 1159 (by decide +kernel) (by decide +kernel), tb_in 163 (by decide +kernel) (by decide +kernel), ⟨by decide +kernel, by decide +kernel⟩, by decide +kernel, by decide +kernel, Nat.le_of_ble_eq_true rfl⟩
theorem SX0_positionOf : Cond.static mX0_positionOf.1 ∈ TB := tb_in 1158 (by decide +kernel) (by decide +kernel)
abbrev mX0_recall : Mi := (yX0_recall, cX0_recall, 3, (some .int))
theorem CX0_recall : CL mX0_recall 1 := ⟨tb_in 1163 (by decide +kernel) (by decide +kernel), tb_in 163 (by decide +kernel) (by decide +kernel), ⟨by decide +kernel, by decide +kernel⟩, by decide +kernel, by decide +kernel, Nat.le_of_ble_eq_true rfl⟩
theorem IX0_recall : Cond.instanceMethod mX0_recall.1 ∈ TB := tb_in 1162 (by decide +kernel) (by decide +kernel)
theorem VX0_recall : Cond.selects mX0_recall.1.cls mX0_recall.1 mX0_recall.1 ∈ TB := tb_in 56 (by decide +kernel) (by decide +kernel)
abbrev mX0_keep : Mi := (yX0_keep, cX0_keep, 4, none)
theorem CX0_keep : CL mX0_keep 2 := ⟨tb_in 1167 (by decide +kernel) (by decide +kernel), tb_in 163 (by decide +kernel) (by decide +kernel), ⟨by decide +kernel, by decide +kernel⟩, by decide +kernel, by decide +kernel, Nat.le_of_ble_eq_true rfl⟩
theorem IX0_keep : Cond.instanceMethod mX0_keep.1 ∈ TB := tb_in 1166 (by decide +kernel) (by decide +kernel)
theorem VX0_keep : Cond.selects mX0_keep.1.cls mX0_keep.1 mX0_keep.1 ∈ TB := tb_in 57 (by decide +kernel) (by decide +kernel)
abbrev mX1_init : Mi := (yX1_init, cX1_init, 2, none)
theorem CX1_init : CL mX1_init 0 := ⟨tb_in 185 (by decide +kernel) (by decide +kernel), tb_in 155 (by decide +kernel) (by decide +kernel), ⟨by decide +kernel, by decide +kernel⟩, by decide +kernel, by decide +kernel, Nat.le_of_ble_eq_true rfl⟩
theorem IX1_init : Cond.instanceMethod mX1_init.1 ∈ TB := tb_in 184 (by decide +kernel) (by decide +kernel)
abbrev mX1_remember : Mi := (yX1_remember, cX1_remember, 2, none)
theorem CX1_remember : CL mX1_remember 0 := ⟨tb_in 785 (by decide +kernel) (by decide +kernel), tb_in 155 (by decide +kernel) (by decide +kernel), ⟨by decide +kernel, by decide +kernel⟩, by decide +kernel, by decide +kernel, Nat.le_of_ble_eq_true rfl⟩
theorem IX1_remember : Cond.instanceMethod mX1_remember.1 ∈ TB := tb_in 783 (by decide +kernel) (by decide +kernel)
theorem VX1_remember : Cond.selects mX1_remember.1.cls mX1_remember.1 mX1_remember.1 ∈ TB := tb_in 784 (by decide +kernel) (by decide +kernel)
abbrev mX1_takeBack : Mi := (yX1_takeBack, cX1_takeBack, 2, (some .int))
theorem CX1_takeBack : CL mX1_takeBack 0 := ⟨tb_in 1001 (by decide +kernel) (by decide +kernel), tb_in 155 (by decide +kernel) (by decide +kernel), ⟨by decide +kernel, by decide +kernel⟩, by decide +kernel, by decide +kernel, Nat.le_of_ble_eq_true rfl⟩
theorem IX1_takeBack : Cond.instanceMethod mX1_takeBack.1 ∈ TB := tb_in 999 (by decide +kernel) (by decide +kernel)
theorem VX1_takeBack : Cond.selects mX1_takeBack.1.cls mX1_takeBack.1 mX1_takeBack.1 ∈ TB := tb_in 1000 (by decide +kernel) (by decide +kernel)
abbrev mX1_pastAt : Mi := (yX1_pastAt, cX1_pastAt, 3, (some (.object "ProphetLiable$World")))
theorem CX1_pastAt : CL mX1_pastAt 1 := ⟨tb_in 789 (by decide +kernel) (by decide +kernel), tb_in 155 (by decide +kernel) (by decide +kernel), ⟨by decide +kernel, by decide +kernel⟩, by decide +kernel, by decide +kernel, Nat.le_of_ble_eq_true rfl⟩
theorem IX1_pastAt : Cond.instanceMethod mX1_pastAt.1 ∈ TB := tb_in 788 (by decide +kernel) (by decide +kernel)
theorem VX1_pastAt : Cond.selects mX1_pastAt.1.cls mX1_pastAt.1 mX1_pastAt.1 ∈ TB := tb_in 26 (by decide +kernel) (by decide +kernel)
abbrev mX1_addText : Mi := (yX1_addText, cX1_addText, 2, (some .int))
theorem CX1_addText : CL mX1_addText 1 := ⟨tb_in 743 (by decide +kernel) (by decide +kernel), tb_in 155 (by decide +kernel) (by decide +kernel), ⟨by decide +kernel, by decide +kernel⟩, by decide +kernel, by decide +kernel, Nat.le_of_ble_eq_true rfl⟩
theorem IX1_addText : Cond.instanceMethod mX1_addText.1 ∈ TB := tb_in 741 (by decide +kernel) (by decide +kernel)
theorem VX1_addText : Cond.selects mX1_addText.1.cls mX1_addText.1 mX1_addText.1 ∈ TB := tb_in 742 (by decide +kernel) (by decide +kernel)
abbrev mX1_textAt : Mi := (yX1_textAt, cX1_textAt, 2, (some (.object "ProphetLiable$Text")))
theorem CX1_textAt : CL mX1_textAt 1 := ⟨tb_in 877 (by decide +kernel) (by decide +kernel), tb_in 155 (by decide +kernel) (by decide +kernel), ⟨by decide +kernel, by decide +kernel⟩, by decide +kernel, by decide +kernel, Nat.le_of_ble_eq_true rfl⟩
theorem IX1_textAt : Cond.instanceMethod mX1_textAt.1 ∈ TB := tb_in 875 (by decide +kernel) (by decide +kernel)
theorem VX1_textAt : Cond.selects mX1_textAt.1.cls mX1_textAt.1 mX1_textAt.1 ∈ TB := tb_in 876 (by decide +kernel) (by decide +kernel)
abbrev mX1_ruling : Mi := (yX1_ruling, cX1_ruling, 1, (some (.object "ProphetLiable$Text")))
theorem CX1_ruling : CL mX1_ruling 0 := ⟨tb_in 873 (by decide +kernel) (by decide +kernel), tb_in 155 (by decide +kernel) (by decide +kernel), ⟨by decide +kernel, by decide +kernel⟩, by decide +kernel, by decide +kernel, Nat.le_of_ble_eq_true rfl⟩
theorem IX1_ruling : Cond.instanceMethod mX1_ruling.1 ∈ TB := tb_in 871 (by decide +kernel) (by decide +kernel)
theorem VX1_ruling : Cond.selects mX1_ruling.1.cls mX1_ruling.1 mX1_ruling.1 ∈ TB := tb_in 872 (by decide +kernel) (by decide +kernel)
abbrev mX1_copyFrom : Mi := (yX1_copyFrom, cX1_copyFrom, 5, none)
theorem CX1_copyFrom : CL mX1_copyFrom 1 := ⟨tb_in 1247 (by decide +kernel) (by decide +kernel), tb_in 155 (by decide +kernel) (by decide +kernel), ⟨by decide +kernel, by decide +kernel⟩, by decide +kernel, by decide +kernel, Nat.le_of_ble_eq_true rfl⟩
theorem IX1_copyFrom : Cond.instanceMethod mX1_copyFrom.1 ∈ TB := tb_in 1245 (by decide +kernel) (by decide +kernel)
theorem VX1_copyFrom : Cond.selects mX1_copyFrom.1.cls mX1_copyFrom.1 mX1_copyFrom.1 ∈ TB := tb_in 1246 (by decide +kernel) (by decide +kernel)
abbrev mX2_init : Mi := (yX2_init, cX2_init, 1, none)
theorem CX2_init : CL mX2_init 0 := ⟨tb_in 300 (by decide +kernel) (by decide +kernel), tb_in 159 (by decide +kernel) (by decide +kernel), ⟨by decide +kernel, by decide +kernel⟩, by decide +kernel, by decide +kernel, Nat.le_of_ble_eq_true rfl⟩
theorem IX2_init : Cond.instanceMethod mX2_init.1 ∈ TB := tb_in 299 (by decide +kernel) (by decide +kernel)
abbrev mX2_read : Mi := (yX2_read, cX2_read, 4, (some (.object "ProphetLiable$Text")))
theorem CX2_read : CL mX2_read 2 := ⟨tb_in 485 (by decide +kernel) (by decide +kernel), tb_in 159 (by decide +kernel) (by decide +kernel), ⟨by decide +kernel, by decide +kernel⟩, by decide +kernel, by decide +kernel, Nat.le_of_ble_eq_true rfl⟩
theorem IX2_read : Cond.instanceMethod mX2_read.1 ∈ TB := tb_in 483 (by decide +kernel) (by decide +kernel)
theorem VX2_read : Cond.selects mX2_read.1.cls mX2_read.1 mX2_read.1 ∈ TB := tb_in 484 (by decide +kernel) (by decide +kernel)
abbrev mX2_place : Mi := (yX2_place, cX2_place, 1, (some .int))
theorem CX2_place : CL mX2_place 0 := ⟨tb_in 735 (by decide +kernel) (by decide +kernel), tb_in 159 (by decide +kernel) (by decide +kernel), ⟨by decide +kernel, by decide +kernel⟩, by decide +kernel, by decide +kernel, Nat.le_of_ble_eq_true rfl⟩
theorem IX2_place : Cond.instanceMethod mX2_place.1 ∈ TB := tb_in 733 (by decide +kernel) (by decide +kernel)
theorem VX2_place : Cond.selects mX2_place.1.cls mX2_place.1 mX2_place.1 ∈ TB := tb_in 734 (by decide +kernel) (by decide +kernel)
abbrev mX2_advance : Mi := (yX2_advance, cX2_advance, 2, none)
theorem CX2_advance : CL mX2_advance 0 := ⟨tb_in 628 (by decide +kernel) (by decide +kernel), tb_in 159 (by decide +kernel) (by decide +kernel), ⟨by decide +kernel, by decide +kernel⟩, by decide +kernel, by decide +kernel, Nat.le_of_ble_eq_true rfl⟩
theorem IX2_advance : Cond.instanceMethod mX2_advance.1 ∈ TB := tb_in 627 (by decide +kernel) (by decide +kernel)
theorem VX2_advance : Cond.selects mX2_advance.1.cls mX2_advance.1 mX2_advance.1 ∈ TB := tb_in 2 (by decide +kernel) (by decide +kernel)
abbrev mX2_blame : Mi := (yX2_blame, cX2_blame, 2, none)
theorem CX2_blame : CL mX2_blame 1 := ⟨tb_in 637 (by decide +kernel) (by decide +kernel), tb_in 159 (by decide +kernel) (by decide +kernel), ⟨by decide +kernel, by decide +kernel⟩, by decide +kernel, by decide +kernel, Nat.le_of_ble_eq_true rfl⟩
theorem IX2_blame : Cond.instanceMethod mX2_blame.1 ∈ TB := tb_in 636 (by decide +kernel) (by decide +kernel)
theorem VX2_blame : Cond.selects mX2_blame.1.cls mX2_blame.1 mX2_blame.1 ∈ TB := tb_in 4 (by decide +kernel) (by decide +kernel)
abbrev mX2_expect : Mi := (yX2_expect, cX2_expect, 2, none)
theorem CX2_expect : CL mX2_expect 1 := ⟨tb_in 689 (by decide +kernel) (by decide +kernel), tb_in 159 (by decide +kernel) (by decide +kernel), ⟨by decide +kernel, by decide +kernel⟩, by decide +kernel, by decide +kernel, Nat.le_of_ble_eq_true rfl⟩
theorem IX2_expect : Cond.instanceMethod mX2_expect.1 ∈ TB := tb_in 688 (by decide +kernel) (by decide +kernel)
theorem VX2_expect : Cond.selects mX2_expect.1.cls mX2_expect.1 mX2_expect.1 ∈ TB := tb_in 13 (by decide +kernel) (by decide +kernel)
abbrev mX2_readNumber : Mi := (yX2_readNumber, cX2_readNumber, 4, (some .int))
theorem CX2_readNumber : CL mX2_readNumber 2 := ⟨tb_in 663 (by decide +kernel) (by decide +kernel), tb_in 159 (by decide +kernel) (by decide +kernel), ⟨by decide +kernel, by decide +kernel⟩, by decide +kernel, by decide +kernel, Nat.le_of_ble_eq_true rfl⟩
theorem IX2_readNumber : Cond.instanceMethod mX2_readNumber.1 ∈ TB := tb_in 662 (by decide +kernel) (by decide +kernel)
theorem VX2_readNumber : Cond.selects mX2_readNumber.1.cls mX2_readNumber.1 mX2_readNumber.1 ∈ TB := tb_in 9 (by decide +kernel) (by decide +kernel)
abbrev mX2_readClause : Mi := (yX2_readClause, cX2_readClause, 4, none)
theorem CX2_readClause : CL mX2_readClause 0 := ⟨tb_in 632 (by decide +kernel) (by decide +kernel), tb_in 159 (by decide +kernel) (by decide +kernel), ⟨by decide +kernel, by decide +kernel⟩, by decide +kernel, by decide +kernel, Nat.le_of_ble_eq_true rfl⟩
theorem IX2_readClause : Cond.instanceMethod mX2_readClause.1 ∈ TB := tb_in 631 (by decide +kernel) (by decide +kernel)
theorem VX2_readClause : Cond.selects mX2_readClause.1.cls mX2_readClause.1 mX2_readClause.1 ∈ TB := tb_in 3 (by decide +kernel) (by decide +kernel)
abbrev mX2_readLaw : Mi := (yX2_readLaw, cX2_readLaw, 3, none)
theorem CX2_readLaw : CL mX2_readLaw 1 := ⟨tb_in 647 (by decide +kernel) (by decide +kernel), tb_in 159 (by decide +kernel) (by decide +kernel), ⟨by decide +kernel, by decide +kernel⟩, by decide +kernel, by decide +kernel, Nat.le_of_ble_eq_true rfl⟩
theorem IX2_readLaw : Cond.instanceMethod mX2_readLaw.1 ∈ TB := tb_in 646 (by decide +kernel) (by decide +kernel)
theorem VX2_readLaw : Cond.selects mX2_readLaw.1.cls mX2_readLaw.1 mX2_readLaw.1 ∈ TB := tb_in 5 (by decide +kernel) (by decide +kernel)
abbrev mX2_readAct : Mi := (yX2_readAct, cX2_readAct, 4, none)
theorem CX2_readAct : CL mX2_readAct 2 := ⟨tb_in 731 (by decide +kernel) (by decide +kernel), tb_in 159 (by decide +kernel) (by decide +kernel), ⟨by decide +kernel, by decide +kernel⟩, by decide +kernel, by decide +kernel, Nat.le_of_ble_eq_true rfl⟩
theorem IX2_readAct : Cond.instanceMethod mX2_readAct.1 ∈ TB := tb_in 730 (by decide +kernel) (by decide +kernel)
theorem VX2_readAct : Cond.selects mX2_readAct.1.cls mX2_readAct.1 mX2_readAct.1 ∈ TB := tb_in 21 (by decide +kernel) (by decide +kernel)
abbrev mX2_readForetell : Mi := (yX2_readForetell, cX2_readForetell, 3, none)
theorem CX2_readForetell : CL mX2_readForetell 1 := ⟨tb_in 720 (by decide +kernel) (by decide +kernel), tb_in 159 (by decide +kernel) (by decide +kernel), ⟨by decide +kernel, by decide +kernel⟩, by decide +kernel, by decide +kernel, Nat.le_of_ble_eq_true rfl⟩
theorem IX2_readForetell : Cond.instanceMethod mX2_readForetell.1 ∈ TB := tb_in 719 (by decide +kernel) (by decide +kernel)
theorem VX2_readForetell : Cond.selects mX2_readForetell.1.cls mX2_readForetell.1 mX2_readForetell.1 ∈ TB := tb_in 19 (by decide +kernel) (by decide +kernel)
abbrev mX2_readFacts : Mi := (yX2_readFacts, cX2_readFacts, 3, (some .int))
theorem CX2_readFacts : CL mX2_readFacts 0 := ⟨tb_in 724 (by decide +kernel) (by decide +kernel), tb_in 159 (by decide +kernel) (by decide +kernel), ⟨by decide +kernel, by decide +kernel⟩, by decide +kernel, by decide +kernel, Nat.le_of_ble_eq_true rfl⟩
theorem IX2_readFacts : Cond.instanceMethod mX2_readFacts.1 ∈ TB := tb_in 723 (by decide +kernel) (by decide +kernel)
theorem VX2_readFacts : Cond.selects mX2_readFacts.1.cls mX2_readFacts.1 mX2_readFacts.1 ∈ TB := tb_in 20 (by decide +kernel) (by decide +kernel)
abbrev mX2_emit : Mi := (yX2_emit, cX2_emit, 2, none)
theorem CX2_emit : CL mX2_emit 1 := ⟨tb_in 671 (by decide +kernel) (by decide +kernel), tb_in 159 (by decide +kernel) (by decide +kernel), ⟨by decide +kernel, by decide +kernel⟩, by decide +kernel, by decide +kernel, Nat.le_of_ble_eq_true rfl⟩
theorem IX2_emit : Cond.instanceMethod mX2_emit.1 ∈ TB := tb_in 670 (by decide +kernel) (by decide +kernel)
theorem VX2_emit : Cond.selects mX2_emit.1.cls mX2_emit.1 mX2_emit.1 ∈ TB := tb_in 10 (by decide +kernel) (by decide +kernel)
abbrev mX2_readSum : Mi := (yX2_readSum, cX2_readSum, 4, none)
theorem CX2_readSum : CL mX2_readSum 1 := ⟨tb_in 651 (by decide +kernel) (by decide +kernel), tb_in 159 (by decide +kernel) (by decide +kernel), ⟨by decide +kernel, by decide +kernel⟩, by decide +kernel, by decide +kernel, Nat.le_of_ble_eq_true rfl⟩
theorem IX2_readSum : Cond.instanceMethod mX2_readSum.1 ∈ TB := tb_in 650 (by decide +kernel) (by decide +kernel)
theorem VX2_readSum : Cond.selects mX2_readSum.1.cls mX2_readSum.1 mX2_readSum.1 ∈ TB := tb_in 6 (by decide +kernel) (by decide +kernel)
abbrev mX2_readProduct : Mi := (yX2_readProduct, cX2_readProduct, 4, none)
theorem CX2_readProduct : CL mX2_readProduct 1 := ⟨tb_in 655 (by decide +kernel) (by decide +kernel), tb_in 159 (by decide +kernel) (by decide +kernel), ⟨by decide +kernel, by decide +kernel⟩, by decide +kernel, by decide +kernel, Nat.le_of_ble_eq_true rfl⟩
theorem IX2_readProduct : Cond.instanceMethod mX2_readProduct.1 ∈ TB := tb_in 654 (by decide +kernel) (by decide +kernel)
theorem VX2_readProduct : Cond.selects mX2_readProduct.1.cls mX2_readProduct.1 mX2_readProduct.1 ∈ TB := tb_in 7 (by decide +kernel) (by decide +kernel)
abbrev mX2_readOne : Mi := (yX2_readOne, cX2_readOne, 3, none)
theorem CX2_readOne : CL mX2_readOne 1 := ⟨tb_in 659 (by decide +kernel) (by decide +kernel), tb_in 159 (by decide +kernel) (by decide +kernel), ⟨by decide +kernel, by decide +kernel⟩, by decide +kernel, by decide +kernel, Nat.le_of_ble_eq_true rfl⟩
theorem IX2_readOne : Cond.instanceMethod mX2_readOne.1 ∈ TB := tb_in 658 (by decide +kernel) (by decide +kernel)
theorem VX2_readOne : Cond.selects mX2_readOne.1.cls mX2_readOne.1 mX2_readOne.1 ∈ TB := tb_in 8 (by decide +kernel) (by decide +kernel)
abbrev mX2_opensOne : Mi := (yX2_opensOne, cX2_opensOne, 1, (some .boolean))
theorem CX2_opensOne : CL mX2_opensOne 1 := ⟨tb_in 681 (by decide +kernel) (by decide +kernel), tb_in 159 (by decide +kernel) (by decide +kernel), ⟨by decide +kernel, by decide +kernel⟩, by decide +kernel, by decide +kernel, Nat.le_of_ble_eq_true rfl⟩
theorem SX2_opensOne : Cond.static mX2_opensOne.1 ∈ TB := tb_in 680 (by decide +kernel) (by decide +kernel)
abbrev mX2_isName : Mi := (yX2_isName, cX2_isName, 1, (some .boolean))
theorem CX2_isName : CL mX2_isName 1 := ⟨tb_in 674 (by decide +kernel) (by decide +kernel), tb_in 159 (by decide +kernel) (by decide +kernel), ⟨by decide +kernel, by decide +kernel⟩, by decide +kernel, by decide +kernel, Nat.le_of_ble_eq_true rfl⟩
theorem SX2_isName : Cond.static mX2_isName.1 ∈ TB := tb_in 673 (by decide +kernel) (by decide +kernel)
abbrev mX2_readName : Mi := (yX2_readName, cX2_readName, 3, none)
theorem CX2_readName : CL mX2_readName 1 := ⟨tb_in 678 (by decide +kernel) (by decide +kernel), tb_in 159 (by decide +kernel) (by decide +kernel), ⟨by decide +kernel, by decide +kernel⟩, by decide +kernel, by decide +kernel, Nat.le_of_ble_eq_true rfl⟩
theorem IX2_readName : Cond.instanceMethod mX2_readName.1 ∈ TB := tb_in 677 (by decide +kernel) (by decide +kernel)
theorem VX2_readName : Cond.selects mX2_readName.1.cls mX2_readName.1 mX2_readName.1 ∈ TB := tb_in 11 (by decide +kernel) (by decide +kernel)
abbrev mX2_readInside : Mi := (yX2_readInside, cX2_readInside, 3, none)
theorem CX2_readInside : CL mX2_readInside 2 := ⟨tb_in 685 (by decide +kernel) (by decide +kernel), tb_in 159 (by decide +kernel) (by decide +kernel), ⟨by decide +kernel, by decide +kernel⟩, by decide +kernel, by decide +kernel, Nat.le_of_ble_eq_true rfl⟩
theorem IX2_readInside : Cond.instanceMethod mX2_readInside.1 ∈ TB := tb_in 684 (by decide +kernel) (by decide +kernel)
theorem VX2_readInside : Cond.selects mX2_readInside.1.cls mX2_readInside.1 mX2_readInside.1 ∈ TB := tb_in 12 (by decide +kernel) (by decide +kernel)
abbrev mX2_readIf : Mi := (yX2_readIf, cX2_readIf, 2, none)
theorem CX2_readIf : CL mX2_readIf 1 := ⟨tb_in 693 (by decide +kernel) (by decide +kernel), tb_in 159 (by decide +kernel) (by decide +kernel), ⟨by decide +kernel, by decide +kernel⟩, by decide +kernel, by decide +kernel, Nat.le_of_ble_eq_true rfl⟩
theorem IX2_readIf : Cond.instanceMethod mX2_readIf.1 ∈ TB := tb_in 692 (by decide +kernel) (by decide +kernel)
theorem VX2_readIf : Cond.selects mX2_readIf.1.cls mX2_readIf.1 mX2_readIf.1 ∈ TB := tb_in 14 (by decide +kernel) (by decide +kernel)
abbrev mX2_readEither : Mi := (yX2_readEither, cX2_readEither, 3, none)
theorem CX2_readEither : CL mX2_readEither 1 := ⟨tb_in 697 (by decide +kernel) (by decide +kernel), tb_in 159 (by decide +kernel) (by decide +kernel), ⟨by decide +kernel, by decide +kernel⟩, by decide +kernel, by decide +kernel, Nat.le_of_ble_eq_true rfl⟩
theorem IX2_readEither : Cond.instanceMethod mX2_readEither.1 ∈ TB := tb_in 696 (by decide +kernel) (by decide +kernel)
theorem VX2_readEither : Cond.selects mX2_readEither.1.cls mX2_readEither.1 mX2_readEither.1 ∈ TB := tb_in 15 (by decide +kernel) (by decide +kernel)
abbrev mX2_readBoth : Mi := (yX2_readBoth, cX2_readBoth, 3, none)
theorem CX2_readBoth : CL mX2_readBoth 1 := ⟨tb_in 701 (by decide +kernel) (by decide +kernel), tb_in 159 (by decide +kernel) (by decide +kernel), ⟨by decide +kernel, by decide +kernel⟩, by decide +kernel, by decide +kernel, Nat.le_of_ble_eq_true rfl⟩
theorem IX2_readBoth : Cond.instanceMethod mX2_readBoth.1 ∈ TB := tb_in 700 (by decide +kernel) (by decide +kernel)
theorem VX2_readBoth : Cond.selects mX2_readBoth.1.cls mX2_readBoth.1 mX2_readBoth.1 ∈ TB := tb_in 16 (by decide +kernel) (by decide +kernel)
abbrev mX2_readAsk : Mi := (yX2_readAsk, cX2_readAsk, 2, none)
theorem CX2_readAsk : CL mX2_readAsk 1 := ⟨tb_in 705 (by decide +kernel) (by decide +kernel), tb_in 159 (by decide +kernel) (by decide +kernel), ⟨by decide +kernel, by decide +kernel⟩, by decide +kernel, by decide +kernel, Nat.le_of_ble_eq_true rfl⟩
theorem IX2_readAsk : Cond.instanceMethod mX2_readAsk.1 ∈ TB := tb_in 704 (by decide +kernel) (by decide +kernel)
theorem VX2_readAsk : Cond.selects mX2_readAsk.1.cls mX2_readAsk.1 mX2_readAsk.1 ∈ TB := tb_in 17 (by decide +kernel) (by decide +kernel)
abbrev mX2_readComparison : Mi := (yX2_readComparison, cX2_readComparison, 3, none)
theorem CX2_readComparison : CL mX2_readComparison 1 := ⟨tb_in 709 (by decide +kernel) (by decide +kernel), tb_in 159 (by decide +kernel) (by decide +kernel), ⟨by decide +kernel, by decide +kernel⟩, by decide +kernel, by decide +kernel, Nat.le_of_ble_eq_true rfl⟩
theorem IX2_readComparison : Cond.instanceMethod mX2_readComparison.1 ∈ TB := tb_in 708 (by decide +kernel) (by decide +kernel)
theorem VX2_readComparison : Cond.selects mX2_readComparison.1.cls mX2_readComparison.1 mX2_readComparison.1 ∈ TB := tb_in 18 (by decide +kernel) (by decide +kernel)
abbrev mX3_init : Mi := (yX3_init, cX3_init, 1, none)
theorem CX3_init : CL mX3_init 0 := ⟨tb_in 378 (by decide +kernel) (by decide +kernel), tb_in 162 (by decide +kernel) (by decide +kernel), ⟨by decide +kernel, by decide +kernel⟩, by decide +kernel, by decide +kernel, Nat.le_of_ble_eq_true rfl⟩
theorem IX3_init : Cond.instanceMethod mX3_init.1 ∈ TB := tb_in 377 (by decide +kernel) (by decide +kernel)
abbrev mX3_tell : Mi := (yX3_tell, cX3_tell, 3, none)
theorem CX3_tell : CL mX3_tell 2 := ⟨tb_in 886 (by decide +kernel) (by decide +kernel), tb_in 162 (by decide +kernel) (by decide +kernel), ⟨by decide +kernel, by decide +kernel⟩, by decide +kernel, by decide +kernel, Nat.le_of_ble_eq_true rfl⟩
theorem IX3_tell : Cond.instanceMethod mX3_tell.1 ∈ TB := tb_in 884 (by decide +kernel) (by decide +kernel)
theorem VX3_tell : Cond.selects mX3_tell.1.cls mX3_tell.1 mX3_tell.1 ∈ TB := tb_in 885 (by decide +kernel) (by decide +kernel)
abbrev mX3_run : Mi := (yX3_run, cX3_run, 7, (some .int))
theorem CX3_run : CL mX3_run 2 := ⟨tb_in 896 (by decide +kernel) (by decide +kernel), tb_in 162 (by decide +kernel) (by decide +kernel), ⟨by decide +kernel, by decide +kernel⟩, by decide +kernel, by decide +kernel, Nat.le_of_ble_eq_true rfl⟩
theorem IX3_run : Cond.instanceMethod mX3_run.1 ∈ TB := tb_in 894 (by decide +kernel) (by decide +kernel)
theorem VX3_run : Cond.selects mX3_run.1.cls mX3_run.1 mX3_run.1 ∈ TB := tb_in 895 (by decide +kernel) (by decide +kernel)
abbrev mX3_takesOf : Mi := (yX3_takesOf, cX3_takesOf, 3, (some .int))
theorem CX3_takesOf : CL mX3_takesOf 1 := ⟨tb_in 899 (by decide +kernel) (by decide +kernel), tb_in 162 (by decide +kernel) (by decide +kernel), ⟨by decide +kernel, by decide +kernel⟩, by decide +kernel, by decide +kernel, Nat.le_of_ble_eq_true rfl⟩
theorem SX3_takesOf : Cond.static mX3_takesOf.1 ∈ TB := tb_in 898 (by decide +kernel) (by decide +kernel)
abbrev mX3_simple : Mi := (yX3_simple, cX3_simple, 2, (some .int))
theorem CX3_simple : CL mX3_simple 1 := ⟨tb_in 904 (by decide +kernel) (by decide +kernel), tb_in 162 (by decide +kernel) (by decide +kernel), ⟨by decide +kernel, by decide +kernel⟩, by decide +kernel, by decide +kernel, Nat.le_of_ble_eq_true rfl⟩
theorem IX3_simple : Cond.instanceMethod mX3_simple.1 ∈ TB := tb_in 903 (by decide +kernel) (by decide +kernel)
theorem VX3_simple : Cond.selects mX3_simple.1.cls mX3_simple.1 mX3_simple.1 ∈ TB := tb_in 32 (by decide +kernel) (by decide +kernel)
abbrev mX3_limit : Mi := (yX3_limit, cX3_limit, 2, (some .int))
theorem CX3_limit : CL mX3_limit 1 := ⟨tb_in 912 (by decide +kernel) (by decide +kernel), tb_in 162 (by decide +kernel) (by decide +kernel), ⟨by decide +kernel, by decide +kernel⟩, by decide +kernel, by decide +kernel, Nat.le_of_ble_eq_true rfl⟩
theorem SX3_limit : Cond.static mX3_limit.1 ∈ TB := tb_in 911 (by decide +kernel) (by decide +kernel)
abbrev mX3_value : Mi := (yX3_value, cX3_value, 8, (some .long))
theorem CX3_value : CL mX3_value 5 := ⟨tb_in 907 (by decide +kernel) (by decide +kernel), tb_in 162 (by decide +kernel) (by decide +kernel), ⟨by decide +kernel, by decide +kernel⟩, by decide +kernel, by decide +kernel, Nat.le_of_ble_eq_true rfl⟩
theorem SX3_value : Cond.static mX3_value.1 ∈ TB := tb_in 906 (by decide +kernel) (by decide +kernel)
abbrev mX4_init : Mi := (yX4_init, cX4_init, 3, none)
theorem CX4_init : CL mX4_init 2 := ⟨tb_in 197 (by decide +kernel) (by decide +kernel), tb_in 157 (by decide +kernel) (by decide +kernel), ⟨by decide +kernel, by decide +kernel⟩, by decide +kernel, by decide +kernel, Nat.le_of_ble_eq_true rfl⟩
theorem IX4_init : Cond.instanceMethod mX4_init.1 ∈ TB := tb_in 196 (by decide +kernel) (by decide +kernel)
abbrev mX4_has : Mi := (yX4_has, cX4_has, 2, (some .boolean))
theorem CX4_has : CL mX4_has 1 := ⟨tb_in 768 (by decide +kernel) (by decide +kernel), tb_in 157 (by decide +kernel) (by decide +kernel), ⟨by decide +kernel, by decide +kernel⟩, by decide +kernel, by decide +kernel, Nat.le_of_ble_eq_true rfl⟩
theorem IX4_has : Cond.instanceMethod mX4_has.1 ∈ TB := tb_in 766 (by decide +kernel) (by decide +kernel)
theorem VX4_has : Cond.selects mX4_has.1.cls mX4_has.1 mX4_has.1 ∈ TB := tb_in 767 (by decide +kernel) (by decide +kernel)
abbrev mX4_get : Mi := (yX4_get, cX4_get, 5, (some .int))
theorem CX4_get : CL mX4_get 2 := ⟨tb_in 772 (by decide +kernel) (by decide +kernel), tb_in 157 (by decide +kernel) (by decide +kernel), ⟨by decide +kernel, by decide +kernel⟩, by decide +kernel, by decide +kernel, Nat.le_of_ble_eq_true rfl⟩
theorem IX4_get : Cond.instanceMethod mX4_get.1 ∈ TB := tb_in 770 (by decide +kernel) (by decide +kernel)
theorem VX4_get : Cond.selects mX4_get.1.cls mX4_get.1 mX4_get.1 ∈ TB := tb_in 771 (by decide +kernel) (by decide +kernel)
abbrev mX4_set : Mi := (yX4_set, cX4_set, 6, none)
theorem CX4_set : CL mX4_set 3 := ⟨tb_in 461 (by decide +kernel) (by decide +kernel), tb_in 157 (by decide +kernel) (by decide +kernel), ⟨by decide +kernel, by decide +kernel⟩, by decide +kernel, by decide +kernel, Nat.le_of_ble_eq_true rfl⟩
theorem IX4_set : Cond.instanceMethod mX4_set.1 ∈ TB := tb_in 459 (by decide +kernel) (by decide +kernel)
theorem VX4_set : Cond.selects mX4_set.1.cls mX4_set.1 mX4_set.1 ∈ TB := tb_in 460 (by decide +kernel) (by decide +kernel)
abbrev mX4_grow : Mi := (yX4_grow, cX4_grow, 3, (some .int))
theorem CX4_grow : CL mX4_grow 0 := ⟨tb_in 451 (by decide +kernel) (by decide +kernel), tb_in 157 (by decide +kernel) (by decide +kernel), ⟨by decide +kernel, by decide +kernel⟩, by decide +kernel, by decide +kernel, Nat.le_of_ble_eq_true rfl⟩
theorem IX4_grow : Cond.instanceMethod mX4_grow.1 ∈ TB := tb_in 449 (by decide +kernel) (by decide +kernel)
theorem VX4_grow : Cond.selects mX4_grow.1.cls mX4_grow.1 mX4_grow.1 ∈ TB := tb_in 450 (by decide +kernel) (by decide +kernel)
abbrev mX4_makeRoom : Mi := (yX4_makeRoom, cX4_makeRoom, 1, none)
theorem CX4_makeRoom : CL mX4_makeRoom 0 := ⟨tb_in 852 (by decide +kernel) (by decide +kernel), tb_in 157 (by decide +kernel) (by decide +kernel), ⟨by decide +kernel, by decide +kernel⟩, by decide +kernel, by decide +kernel, Nat.le_of_ble_eq_true rfl⟩
theorem IX4_makeRoom : Cond.instanceMethod mX4_makeRoom.1 ∈ TB := tb_in 850 (by decide +kernel) (by decide +kernel)
theorem VX4_makeRoom : Cond.selects mX4_makeRoom.1.cls mX4_makeRoom.1 mX4_makeRoom.1 ∈ TB := tb_in 851 (by decide +kernel) (by decide +kernel)
abbrev mX4_clear : Mi := (yX4_clear, cX4_clear, 1, none)
theorem CX4_clear : CL mX4_clear 0 := ⟨tb_in 1115 (by decide +kernel) (by decide +kernel), tb_in 157 (by decide +kernel) (by decide +kernel), ⟨by decide +kernel, by decide +kernel⟩, by decide +kernel, by decide +kernel, Nat.le_of_ble_eq_true rfl⟩
theorem IX4_clear : Cond.instanceMethod mX4_clear.1 ∈ TB := tb_in 1113 (by decide +kernel) (by decide +kernel)
theorem VX4_clear : Cond.selects mX4_clear.1.cls mX4_clear.1 mX4_clear.1 ∈ TB := tb_in 1114 (by decide +kernel) (by decide +kernel)
abbrev mX4_take : Mi := (yX4_take, cX4_take, 4, none)
theorem CX4_take : CL mX4_take 2 := ⟨tb_in 797 (by decide +kernel) (by decide +kernel), tb_in 157 (by decide +kernel) (by decide +kernel), ⟨by decide +kernel, by decide +kernel⟩, by decide +kernel, by decide +kernel, Nat.le_of_ble_eq_true rfl⟩
theorem IX4_take : Cond.instanceMethod mX4_take.1 ∈ TB := tb_in 795 (by decide +kernel) (by decide +kernel)
theorem VX4_take : Cond.selects mX4_take.1.cls mX4_take.1 mX4_take.1 ∈ TB := tb_in 796 (by decide +kernel) (by decide +kernel)
abbrev mX5_init : Mi := (yX5_init, cX5_init, 1, none)
theorem CX5_init : CL mX5_init 0 := ⟨tb_in 327 (by decide +kernel) (by decide +kernel), tb_in 161 (by decide +kernel) (by decide +kernel), ⟨by decide +kernel, by decide +kernel⟩, by decide +kernel, by decide +kernel, Nat.le_of_ble_eq_true rfl⟩
theorem IX5_init : Cond.instanceMethod mX5_init.1 ∈ TB := tb_in 326 (by decide +kernel) (by decide +kernel)
abbrev mX5_law : Mi := (yX5_law, cX5_law, 2, (some (.array .int)))
theorem CX5_law : CL mX5_law 1 := ⟨tb_in 641 (by decide +kernel) (by decide +kernel), tb_in 161 (by decide +kernel) (by decide +kernel), ⟨by decide +kernel, by decide +kernel⟩, by decide +kernel, by decide +kernel, Nat.le_of_ble_eq_true rfl⟩
theorem IX5_law : Cond.instanceMethod mX5_law.1 ∈ TB := tb_in 639 (by decide +kernel) (by decide +kernel)
theorem VX5_law : Cond.selects mX5_law.1.cls mX5_law.1 mX5_law.1 ∈ TB := tb_in 640 (by decide +kernel) (by decide +kernel)
abbrev mX5_putLaw : Mi := (yX5_putLaw, cX5_putLaw, 3, none)
theorem CX5_putLaw : CL mX5_putLaw 2 := ⟨tb_in 716 (by decide +kernel) (by decide +kernel), tb_in 161 (by decide +kernel) (by decide +kernel), ⟨by decide +kernel, by decide +kernel⟩, by decide +kernel, by decide +kernel, Nat.le_of_ble_eq_true rfl⟩
theorem IX5_putLaw : Cond.instanceMethod mX5_putLaw.1 ∈ TB := tb_in 714 (by decide +kernel) (by decide +kernel)
theorem VX5_putLaw : Cond.selects mX5_putLaw.1.cls mX5_putLaw.1 mX5_putLaw.1 ∈ TB := tb_in 715 (by decide +kernel) (by decide +kernel)
abbrev mX6_init : Mi := (yX6_init, cX6_init, 1, none)
theorem CX6_init : CL mX6_init 0 := ⟨tb_in 306 (by decide +kernel) (by decide +kernel), tb_in 160 (by decide +kernel) (by decide +kernel), ⟨by decide +kernel, by decide +kernel⟩, by decide +kernel, by decide +kernel, Nat.le_of_ble_eq_true rfl⟩
theorem IX6_init : Cond.instanceMethod mX6_init.1 ∈ TB := tb_in 305 (by decide +kernel) (by decide +kernel)
abbrev mX6_numberAt : Mi := (yX6_numberAt, cX6_numberAt, 2, (some .int))
theorem CX6_numberAt : CL mX6_numberAt 1 := ⟨tb_in 667 (by decide +kernel) (by decide +kernel), tb_in 160 (by decide +kernel) (by decide +kernel), ⟨by decide +kernel, by decide +kernel⟩, by decide +kernel, by decide +kernel, Nat.le_of_ble_eq_true rfl⟩
theorem IX6_numberAt : Cond.instanceMethod mX6_numberAt.1 ∈ TB := tb_in 665 (by decide +kernel) (by decide +kernel)
theorem VX6_numberAt : Cond.selects mX6_numberAt.1.cls mX6_numberAt.1 mX6_numberAt.1 ∈ TB := tb_in 666 (by decide +kernel) (by decide +kernel)
abbrev mX6_placeAt : Mi := (yX6_placeAt, cX6_placeAt, 2, (some .int))
theorem CX6_placeAt : CL mX6_placeAt 1 := ⟨tb_in 739 (by decide +kernel) (by decide +kernel), tb_in 160 (by decide +kernel) (by decide +kernel), ⟨by decide +kernel, by decide +kernel⟩, by decide +kernel, by decide +kernel, Nat.le_of_ble_eq_true rfl⟩
theorem IX6_placeAt : Cond.instanceMethod mX6_placeAt.1 ∈ TB := tb_in 737 (by decide +kernel) (by decide +kernel)
theorem VX6_placeAt : Cond.selects mX6_placeAt.1.cls mX6_placeAt.1 mX6_placeAt.1 ∈ TB := tb_in 738 (by decide +kernel) (by decide +kernel)
abbrev mX6_split : Mi := (yX6_split, cX6_split, 9, none)
theorem CX6_split : CL mX6_split 2 := ⟨tb_in 489 (by decide +kernel) (by decide +kernel), tb_in 160 (by decide +kernel) (by decide +kernel), ⟨by decide +kernel, by decide +kernel⟩, by decide +kernel, by decide +kernel, Nat.le_of_ble_eq_true rfl⟩
theorem IX6_split : Cond.instanceMethod mX6_split.1 ∈ TB := tb_in 487 (by decide +kernel) (by decide +kernel)
theorem VX6_split : Cond.selects mX6_split.1.cls mX6_split.1 mX6_split.1 ∈ TB := tb_in 488 (by decide +kernel) (by decide +kernel)
abbrev mX6_add : Mi := (yX6_add, cX6_add, 4, none)
theorem CX6_add : CL mX6_add 3 := ⟨tb_in 559 (by decide +kernel) (by decide +kernel), tb_in 160 (by decide +kernel) (by decide +kernel), ⟨by decide +kernel, by decide +kernel⟩, by decide +kernel, by decide +kernel, Nat.le_of_ble_eq_true rfl⟩
theorem IX6_add : Cond.instanceMethod mX6_add.1 ∈ TB := tb_in 558 (by decide +kernel) (by decide +kernel)
theorem VX6_add : Cond.selects mX6_add.1.cls mX6_add.1 mX6_add.1 ∈ TB := tb_in 1 (by decide +kernel) (by decide +kernel)
abbrev mX6_isLetter : Mi := (yX6_isLetter, cX6_isLetter, 1, (some .boolean))
theorem CX6_isLetter : CL mX6_isLetter 1 := ⟨tb_in 495 (by decide +kernel) (by decide +kernel), tb_in 160 (by decide +kernel) (by decide +kernel), ⟨by decide +kernel, by decide +kernel⟩, by decide +kernel, by decide +kernel, Nat.le_of_ble_eq_true rfl⟩
theorem SX6_isLetter : Cond.static mX6_isLetter.1 ∈ TB := tb_in 494 (by decide +kernel) (by decide +kernel)
abbrev mX6_isDigit : Mi := (yX6_isDigit, cX6_isDigit, 1, (some .boolean))
theorem CX6_isDigit : CL mX6_isDigit 1 := ⟨tb_in 562 (by decide +kernel) (by decide +kernel), tb_in 160 (by decide +kernel) (by decide +kernel), ⟨by decide +kernel, by decide +kernel⟩, by decide +kernel, by decide +kernel, Nat.le_of_ble_eq_true rfl⟩
theorem SX6_isDigit : Cond.static mX6_isDigit.1 ∈ TB := tb_in 561 (by decide +kernel) (by decide +kernel)
abbrev mX6_behindWord : Mi := (yX6_behindWord, cX6_behindWord, 4, (some .int))
theorem CX6_behindWord : CL mX6_behindWord 3 := ⟨tb_in 499 (by decide +kernel) (by decide +kernel), tb_in 160 (by decide +kernel) (by decide +kernel), ⟨by decide +kernel, by decide +kernel⟩, by decide +kernel, by decide +kernel, Nat.le_of_ble_eq_true rfl⟩
theorem SX6_behindWord : Cond.static mX6_behindWord.1 ∈ TB := tb_in 498 (by decide +kernel) (by decide +kernel)
abbrev mX6_behindNumber : Mi := (yX6_behindNumber, cX6_behindNumber, 4, (some .int))
theorem CX6_behindNumber : CL mX6_behindNumber 3 := ⟨tb_in 565 (by decide +kernel) (by decide +kernel), tb_in 160 (by decide +kernel) (by decide +kernel), ⟨by decide +kernel, by decide +kernel⟩, by decide +kernel, by decide +kernel, Nat.le_of_ble_eq_true rfl⟩
theorem SX6_behindNumber : Cond.static mX6_behindNumber.1 ∈ TB := tb_in 564 (by decide +kernel) (by decide +kernel)
abbrev mX6_numberOf : Mi := (yX6_numberOf, cX6_numberOf, 5, (some .int))
theorem CX6_numberOf : CL mX6_numberOf 3 := ⟨tb_in 568 (by decide +kernel) (by decide +kernel), tb_in 160 (by decide +kernel) (by decide +kernel), ⟨by decide +kernel, by decide +kernel⟩, by decide +kernel, by decide +kernel, Nat.le_of_ble_eq_true rfl⟩
theorem SX6_numberOf : Cond.static mX6_numberOf.1 ∈ TB := tb_in 567 (by decide +kernel) (by decide +kernel)
abbrev mX6_wordOf : Mi := (yX6_wordOf, cX6_wordOf, 6, (some .int))
theorem CX6_wordOf : CL mX6_wordOf 3 := ⟨tb_in 502 (by decide +kernel) (by decide +kernel), tb_in 160 (by decide +kernel) (by decide +kernel), ⟨by decide +kernel, by decide +kernel⟩, by decide +kernel, by decide +kernel, Nat.le_of_ble_eq_true rfl⟩
theorem SX6_wordOf : Cond.static mX6_wordOf.1 ∈ TB := tb_in 501 (by decide +kernel) (by decide +kernel)
abbrev mX6_isLike : Mi := (yX6_isLike, cX6_isLike, 6, (some .boolean))
theorem CX6_isLike : CL mX6_isLike 4 := ⟨tb_in 554 (by decide +kernel) (by decide +kernel), tb_in 160 (by decide +kernel) (by decide +kernel), ⟨by decide +kernel, by decide +kernel⟩, by decide +kernel, by decide +kernel, Nat.le_of_ble_eq_true rfl⟩
theorem SX6_isLike : Cond.static mX6_isLike.1 ∈ TB := tb_in 553 (by decide +kernel) (by decide +kernel)
abbrev mX7_init : Mi := (yX7_init, cX7_init, 1, none)
theorem CX7_init : CL mX7_init 0 := ⟨tb_in 191 (by decide +kernel) (by decide +kernel), tb_in 156 (by decide +kernel) (by decide +kernel), ⟨by decide +kernel, by decide +kernel⟩, by decide +kernel, by decide +kernel, Nat.le_of_ble_eq_true rfl⟩
theorem IX7_init : Cond.instanceMethod mX7_init.1 ∈ TB := tb_in 190 (by decide +kernel) (by decide +kernel)
abbrev mX7_take : Mi := (yX7_take, cX7_take, 3, none)
theorem CX7_take : CL mX7_take 2 := ⟨tb_in 793 (by decide +kernel) (by decide +kernel), tb_in 156 (by decide +kernel) (by decide +kernel), ⟨by decide +kernel, by decide +kernel⟩, by decide +kernel, by decide +kernel, Nat.le_of_ble_eq_true rfl⟩
theorem IX7_take : Cond.instanceMethod mX7_take.1 ∈ TB := tb_in 791 (by decide +kernel) (by decide +kernel)
theorem VX7_take : Cond.selects mX7_take.1.cls mX7_take.1 mX7_take.1 ∈ TB := tb_in 792 (by decide +kernel) (by decide +kernel)
abbrev mX7_draw : Mi := (yX7_draw, cX7_draw, 2, (some .int))
theorem CX7_draw : CL mX7_draw 0 := ⟨tb_in 865 (by decide +kernel) (by decide +kernel), tb_in 156 (by decide +kernel) (by decide +kernel), ⟨by decide +kernel, by decide +kernel⟩, by decide +kernel, by decide +kernel, Nat.le_of_ble_eq_true rfl⟩
theorem IX7_draw : Cond.instanceMethod mX7_draw.1 ∈ TB := tb_in 863 (by decide +kernel) (by decide +kernel)
theorem VX7_draw : Cond.selects mX7_draw.1.cls mX7_draw.1 mX7_draw.1 ∈ TB := tb_in 864 (by decide +kernel) (by decide +kernel)
abbrev mX7_isSo : Mi := (yX7_isSo, cX7_isSo, 2, (some .boolean))
theorem CX7_isSo : CL mX7_isSo 1 := ⟨tb_in 822 (by decide +kernel) (by decide +kernel), tb_in 156 (by decide +kernel) (by decide +kernel), ⟨by decide +kernel, by decide +kernel⟩, by decide +kernel, by decide +kernel, Nat.le_of_ble_eq_true rfl⟩
theorem IX7_isSo : Cond.instanceMethod mX7_isSo.1 ∈ TB := tb_in 820 (by decide +kernel) (by decide +kernel)
theorem VX7_isSo : Cond.selects mX7_isSo.1.cls mX7_isSo.1 mX7_isSo.1 ∈ TB := tb_in 821 (by decide +kernel) (by decide +kernel)
abbrev mX7_isOpen : Mi := (yX7_isOpen, cX7_isOpen, 2, (some .boolean))
theorem CX7_isOpen : CL mX7_isOpen 1 := ⟨tb_in 843 (by decide +kernel) (by decide +kernel), tb_in 156 (by decide +kernel) (by decide +kernel), ⟨by decide +kernel, by decide +kernel⟩, by decide +kernel, by decide +kernel, Nat.le_of_ble_eq_true rfl⟩
theorem IX7_isOpen : Cond.instanceMethod mX7_isOpen.1 ∈ TB := tb_in 841 (by decide +kernel) (by decide +kernel)
theorem VX7_isOpen : Cond.selects mX7_isOpen.1.cls mX7_isOpen.1 mX7_isOpen.1 ∈ TB := tb_in 842 (by decide +kernel) (by decide +kernel)
abbrev mX7_openOf : Mi := (yX7_openOf, cX7_openOf, 4, (some .int))
theorem CX7_openOf : CL mX7_openOf 1 := ⟨tb_in 1009 (by decide +kernel) (by decide +kernel), tb_in 156 (by decide +kernel) (by decide +kernel), ⟨by decide +kernel, by decide +kernel⟩, by decide +kernel, by decide +kernel, Nat.le_of_ble_eq_true rfl⟩
theorem IX7_openOf : Cond.instanceMethod mX7_openOf.1 ∈ TB := tb_in 1007 (by decide +kernel) (by decide +kernel)
theorem VX7_openOf : Cond.selects mX7_openOf.1.cls mX7_openOf.1 mX7_openOf.1 ∈ TB := tb_in 1008 (by decide +kernel) (by decide +kernel)
abbrev mX7_holds : Mi := (yX7_holds, cX7_holds, 2, (some .boolean))
theorem CX7_holds : CL mX7_holds 1 := ⟨tb_in 933 (by decide +kernel) (by decide +kernel), tb_in 156 (by decide +kernel) (by decide +kernel), ⟨by decide +kernel, by decide +kernel⟩, by decide +kernel, by decide +kernel, Nat.le_of_ble_eq_true rfl⟩
theorem IX7_holds : Cond.instanceMethod mX7_holds.1 ∈ TB := tb_in 931 (by decide +kernel) (by decide +kernel)
theorem VX7_holds : Cond.selects mX7_holds.1.cls mX7_holds.1 mX7_holds.1 ∈ TB := tb_in 932 (by decide +kernel) (by decide +kernel)
abbrev mX7_wouldHold : Mi := (yX7_wouldHold, cX7_wouldHold, 3, (some .boolean))
theorem CX7_wouldHold : CL mX7_wouldHold 2 := ⟨tb_in 937 (by decide +kernel) (by decide +kernel), tb_in 156 (by decide +kernel) (by decide +kernel), ⟨by decide +kernel, by decide +kernel⟩, by decide +kernel, by decide +kernel, Nat.le_of_ble_eq_true rfl⟩
theorem IX7_wouldHold : Cond.instanceMethod mX7_wouldHold.1 ∈ TB := tb_in 935 (by decide +kernel) (by decide +kernel)
theorem VX7_wouldHold : Cond.selects mX7_wouldHold.1.cls mX7_wouldHold.1 mX7_wouldHold.1 ∈ TB := tb_in 936 (by decide +kernel) (by decide +kernel)
abbrev mX7_gain : Mi := (yX7_gain, cX7_gain, 4, none)
theorem CX7_gain : CL mX7_gain 2 := ⟨tb_in 807 (by decide +kernel) (by decide +kernel), tb_in 156 (by decide +kernel) (by decide +kernel), ⟨by decide +kernel, by decide +kernel⟩, by decide +kernel, by decide +kernel, Nat.le_of_ble_eq_true rfl⟩
theorem IX7_gain : Cond.instanceMethod mX7_gain.1 ∈ TB := tb_in 805 (by decide +kernel) (by decide +kernel)
theorem VX7_gain : Cond.selects mX7_gain.1.cls mX7_gain.1 mX7_gain.1 ∈ TB := tb_in 806 (by decide +kernel) (by decide +kernel)
abbrev mX7_lose : Mi := (yX7_lose, cX7_lose, 3, none)
theorem CX7_lose : CL mX7_lose 2 := ⟨tb_in 831 (by decide +kernel) (by decide +kernel), tb_in 156 (by decide +kernel) (by decide +kernel), ⟨by decide +kernel, by decide +kernel⟩, by decide +kernel, by decide +kernel, Nat.le_of_ble_eq_true rfl⟩
theorem IX7_lose : Cond.instanceMethod mX7_lose.1 ∈ TB := tb_in 829 (by decide +kernel) (by decide +kernel)
theorem VX7_lose : Cond.selects mX7_lose.1.cls mX7_lose.1 mX7_lose.1 ∈ TB := tb_in 830 (by decide +kernel) (by decide +kernel)
abbrev mX7_comeTrue : Mi := (yX7_comeTrue, cX7_comeTrue, 5, none)
theorem CX7_comeTrue : CL mX7_comeTrue 2 := ⟨tb_in 952 (by decide +kernel) (by decide +kernel), tb_in 156 (by decide +kernel) (by decide +kernel), ⟨by decide +kernel, by decide +kernel⟩, by decide +kernel, by decide +kernel, Nat.le_of_ble_eq_true rfl⟩
theorem IX7_comeTrue : Cond.instanceMethod mX7_comeTrue.1 ∈ TB := tb_in 950 (by decide +kernel) (by decide +kernel)
theorem VX7_comeTrue : Cond.selects mX7_comeTrue.1.cls mX7_comeTrue.1 mX7_comeTrue.1 ∈ TB := tb_in 951 (by decide +kernel) (by decide +kernel)
abbrev mX7_fail : Mi := (yX7_fail, cX7_fail, 5, none)
theorem CX7_fail : CL mX7_fail 2 := ⟨tb_in 961 (by decide +kernel) (by decide +kernel), tb_in 156 (by decide +kernel) (by decide +kernel), ⟨by decide +kernel, by decide +kernel⟩, by decide +kernel, by decide +kernel, Nat.le_of_ble_eq_true rfl⟩
theorem IX7_fail : Cond.instanceMethod mX7_fail.1 ∈ TB := tb_in 959 (by decide +kernel) (by decide +kernel)
theorem VX7_fail : Cond.selects mX7_fail.1.cls mX7_fail.1 mX7_fail.1 ∈ TB := tb_in 960 (by decide +kernel) (by decide +kernel)
abbrev mX7_write : Mi := (yX7_write, cX7_write, 5, none)
theorem CX7_write : CL mX7_write 3 := ⟨tb_in 848 (by decide +kernel) (by decide +kernel), tb_in 156 (by decide +kernel) (by decide +kernel), ⟨by decide +kernel, by decide +kernel⟩, by decide +kernel, by decide +kernel, Nat.le_of_ble_eq_true rfl⟩
theorem IX7_write : Cond.instanceMethod mX7_write.1 ∈ TB := tb_in 846 (by decide +kernel) (by decide +kernel)
theorem VX7_write : Cond.selects mX7_write.1.cls mX7_write.1 mX7_write.1 ∈ TB := tb_in 847 (by decide +kernel) (by decide +kernel)
abbrev mX7_written : Mi := (yX7_written, cX7_written, 4, (some .int))
theorem CX7_written : CL mX7_written 2 := ⟨tb_in 1034 (by decide +kernel) (by decide +kernel), tb_in 156 (by decide +kernel) (by decide +kernel), ⟨by decide +kernel, by decide +kernel⟩, by decide +kernel, by decide +kernel, Nat.le_of_ble_eq_true rfl⟩
theorem IX7_written : Cond.instanceMethod mX7_written.1 ∈ TB := tb_in 1032 (by decide +kernel) (by decide +kernel)
theorem VX7_written : Cond.selects mX7_written.1.cls mX7_written.1 mX7_written.1 ∈ TB := tb_in 1033 (by decide +kernel) (by decide +kernel)
