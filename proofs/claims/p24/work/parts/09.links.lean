/-! WHAT THE TABLES SAY, a theorem each (by program) -/
theorem in_of (ws : List Cond) (ps : List Nat) (hp : ws = ps.filterMap (fun i => lw_tbl[i]?)) (h : ws.all goodWord = true) : ∀ w ∈ ws, w ∈ lw_w := by
  intro w hw
  have h1 := List.all_eq_true.mp h w hw
  rw [hp] at hw
  obtain ⟨i, -, hi⟩ := List.mem_filterMap.mp hw
  exact lw_w_at hi h1
set_option maxRecDepth 20000 in
theorem cls_0 : CLS 0 RX0 TX0 12 := ⟨rfl, in_of _ [190, 192, 194, 196, 198, 200, 202, 204, 206, 208, 210, 212] (by decide +kernel) (by decide +kernel), ⟨tyX0, tyX0_ok⟩, nmX0⟩
set_option maxRecDepth 20000 in
theorem cls_1 : CLS 1 RX1 TX1 3 := ⟨rfl, in_of _ [228, 230, 232] (by decide +kernel) (by decide +kernel), ⟨tyX1, tyX1_ok⟩, nmX1⟩
set_option maxRecDepth 20000 in
theorem cls_2 : CLS 2 RX2 TX2 3 := ⟨rfl, in_of _ [171, 173, 175] (by decide +kernel) (by decide +kernel), ⟨tyX2, tyX2_ok⟩, nmX2⟩
set_option maxRecDepth 20000 in
theorem cls_3 : CLS 3 RX3 TX3 8 := ⟨rfl, in_of _ [130, 132, 134, 136, 138, 140, 142, 144] (by decide +kernel) (by decide +kernel), ⟨tyX3, tyX3_ok⟩, nmX3⟩
set_option maxRecDepth 20000 in
theorem cls_4 : CLS 4 RX4 TX4 9 := ⟨rfl, in_of _ [77, 79, 81, 83, 85, 87, 89, 91, 93] (by decide +kernel) (by decide +kernel), ⟨tyX4, tyX4_ok⟩, nmX4⟩
set_option maxRecDepth 20000 in
theorem cls_5 : CLS 5 RX5 TX5 2 := ⟨rfl, in_of _ [156, 158] (by decide +kernel) (by decide +kernel), ⟨tyX5, tyX5_ok⟩, nmX5⟩
set_option maxRecDepth 20000 in
theorem cls_6 : CLS 6 RX6 TX6 5 := ⟨rfl, in_of _ [250, 252, 254, 256, 258] (by decide +kernel) (by decide +kernel), ⟨tyX6, tyX6_ok⟩, nmX6⟩
set_option maxRecDepth 20000 in
theorem cls_7 : CLS 7 RX7 TX7 6 := ⟨rfl, in_of _ [268, 270, 272, 274, 276, 278] (by decide +kernel) (by decide +kernel), ⟨tyX7, tyX7_ok⟩, nmX7⟩
abbrev mJ13_bitCount_95d88 : Mth := (yJ13_bitCount_95d88, cJ13_bitCount_95d88, 2, (some .int), 0)
theorem ok_J13_bitCount_95d88 : MOK mJ13_bitCount_95d88 1 := ⟨lw_w_at (i := 314) (by decide +kernel) (by decide +kernel), lw_w_at (i := 32) (by decide +kernel) (by decide +kernel), by decide +kernel, by decide +kernel, by decide +kernel⟩
abbrev mJ6_bitCount_0f7a4 : Mth := (yJ6_bitCount_0f7a4, cJ6_bitCount_0f7a4, 1, (some .int), 0)
theorem ok_J6_bitCount_0f7a4 : MOK mJ6_bitCount_0f7a4 1 := ⟨lw_w_at (i := 363) (by decide +kernel) (by decide +kernel), lw_w_at (i := 33) (by decide +kernel) (by decide +kernel), by decide +kernel, by decide +kernel, by decide +kernel⟩
abbrev mJ7_fill_53178 : Mth := (yJ7_fill_53178, cJ7_fill_53178, 4, none, 0)
theorem ok_J7_fill_53178 : MOK mJ7_fill_53178 2 := ⟨lw_w_at (i := 388) (by decide +kernel) (by decide +kernel), lw_w_at (i := 31) (by decide +kernel) (by decide +kernel), by decide +kernel, by decide +kernel, by decide +kernel⟩
abbrev mJ9_abs_0f7a4 : Mth := (yJ9_abs_0f7a4, cJ9_abs_0f7a4, 1, (some .int), 0)
theorem ok_J9_abs_0f7a4 : MOK mJ9_abs_0f7a4 1 := ⟨lw_w_at (i := 376) (by decide +kernel) (by decide +kernel), lw_w_at (i := 34) (by decide +kernel) (by decide +kernel), by decide +kernel, by decide +kernel, by decide +kernel⟩
abbrev mJ9_min_7cf53 : Mth := (yJ9_min_7cf53, cJ9_min_7cf53, 2, (some .int), 0)
theorem ok_J9_min_7cf53 : MOK mJ9_min_7cf53 2 := ⟨lw_w_at (i := 624) (by decide +kernel) (by decide +kernel), lw_w_at (i := 34) (by decide +kernel) (by decide +kernel), by decide +kernel, by decide +kernel, by decide +kernel⟩
abbrev mL_cell : Mth := (yL_cell, cL_cell, 2, (some .int), 0)
theorem ok_L_cell : MOK mL_cell 2 := ⟨lw_w_at (i := 449) (by decide +kernel) (by decide +kernel), lw_w_at (i := 21) (by decide +kernel) (by decide +kernel), by decide +kernel, by decide +kernel, by decide +kernel⟩
abbrev mL_up : Mth := (yL_up, cL_up, 2, (some .int), 0)
theorem ok_L_up : MOK mL_up 2 := ⟨lw_w_at (i := 453) (by decide +kernel) (by decide +kernel), lw_w_at (i := 21) (by decide +kernel) (by decide +kernel), by decide +kernel, by decide +kernel, by decide +kernel⟩
abbrev mX0_at : Mth := (yX0_at, cX0_at, 2, (some .int), 0)
theorem ok_X0_at : MOK mX0_at 2 := ⟨lw_w_at (i := 426) (by decide +kernel) (by decide +kernel), lw_w_at (i := 24) (by decide +kernel) (by decide +kernel), by decide +kernel, by decide +kernel, by decide +kernel⟩
abbrev mX0_energyOf : Mth := (yX0_energyOf, cX0_energyOf, 2, (some .int), 0)
theorem ok_X0_energyOf : MOK mX0_energyOf 1 := ⟨lw_w_at (i := 411) (by decide +kernel) (by decide +kernel), lw_w_at (i := 24) (by decide +kernel) (by decide +kernel), by decide +kernel, by decide +kernel, by decide +kernel⟩
abbrev mX0_forget : Mth := (yX0_forget, cX0_forget, 1, none, 0)
theorem ok_X0_forget : MOK mX0_forget 0 := ⟨lw_w_at (i := 481) (by decide +kernel) (by decide +kernel), lw_w_at (i := 24) (by decide +kernel) (by decide +kernel), by decide +kernel, by decide +kernel, by decide +kernel⟩
abbrev mX0_manyWithUps : Mth := (yX0_manyWithUps, cX0_manyWithUps, 6, (some .int), 0)
theorem ok_X0_manyWithUps : MOK mX0_manyWithUps 2 := ⟨lw_w_at (i := 641) (by decide +kernel) (by decide +kernel), lw_w_at (i := 24) (by decide +kernel) (by decide +kernel), by decide +kernel, by decide +kernel, by decide +kernel⟩
abbrev mX2_costOfNext : Mth := (yX2_costOfNext, cX2_costOfNext, 5, (some .int), 0)
theorem ok_X2_costOfNext : MOK mX2_costOfNext 4 := ⟨lw_w_at (i := 621) (by decide +kernel) (by decide +kernel), lw_w_at (i := 27) (by decide +kernel) (by decide +kernel), by decide +kernel, by decide +kernel, by decide +kernel⟩
abbrev mX3_price : Mth := (yX3_price, cX3_price, 3, (some .int), 0)
theorem ok_X3_price : MOK mX3_price 3 := ⟨lw_w_at (i := 369) (by decide +kernel) (by decide +kernel), lw_w_at (i := 25) (by decide +kernel) (by decide +kernel), by decide +kernel, by decide +kernel, by decide +kernel⟩
abbrev mX3_seam : Mth := (yX3_seam, cX3_seam, 3, (some .int), 0)
theorem ok_X3_seam : MOK mX3_seam 2 := ⟨lw_w_at (i := 407) (by decide +kernel) (by decide +kernel), lw_w_at (i := 25) (by decide +kernel) (by decide +kernel), by decide +kernel, by decide +kernel, by decide +kernel⟩
abbrev mX4_alike : Mth := (yX4_alike, cX4_alike, 3, (some .long), 0)
theorem ok_X4_alike : MOK mX4_alike 1 := ⟨lw_w_at (i := 341) (by decide +kernel) (by decide +kernel), lw_w_at (i := 23) (by decide +kernel) (by decide +kernel), by decide +kernel, by decide +kernel, by decide +kernel⟩
abbrev mX4_besideAcross : Mth := (yX4_besideAcross, cX4_besideAcross, 3, (some .long), 0)
theorem ok_X4_besideAcross : MOK mX4_besideAcross 1 := ⟨lw_w_at (i := 321) (by decide +kernel) (by decide +kernel), lw_w_at (i := 23) (by decide +kernel) (by decide +kernel), by decide +kernel, by decide +kernel, by decide +kernel⟩
abbrev mX4_closed : Mth := (yX4_closed, cX4_closed, 1, (some .boolean), 0)
theorem ok_X4_closed : MOK mX4_closed 0 := ⟨lw_w_at (i := 307) (by decide +kernel) (by decide +kernel), lw_w_at (i := 23) (by decide +kernel) (by decide +kernel), by decide +kernel, by decide +kernel, by decide +kernel⟩
abbrev mX4_has : Mth := (yX4_has, cX4_has, 3, (some .boolean), 0)
theorem ok_X4_has : MOK mX4_has 2 := ⟨lw_w_at (i := 329) (by decide +kernel) (by decide +kernel), lw_w_at (i := 23) (by decide +kernel) (by decide +kernel), by decide +kernel, by decide +kernel, by decide +kernel⟩
abbrev mX4_place : Mth := (yX4_place, cX4_place, 2, (some .int), 0)
theorem ok_X4_place : MOK mX4_place 2 := ⟨lw_w_at (i := 54) (by decide +kernel) (by decide +kernel), lw_w_at (i := 23) (by decide +kernel) (by decide +kernel), by decide +kernel, by decide +kernel, by decide +kernel⟩
abbrev mX5_addShifted : Mth := (yX5_addShifted, cX5_addShifted, 5, none, 0)
theorem ok_X5_addShifted : MOK mX5_addShifted 4 := ⟨lw_w_at (i := 403) (by decide +kernel) (by decide +kernel), lw_w_at (i := 26) (by decide +kernel) (by decide +kernel), by decide +kernel, by decide +kernel, by decide +kernel⟩
abbrev mX6_append : Mth := (yX6_append, cX6_append, 2, (some .boolean), 0)
theorem ok_X6_append : MOK mX6_append 1 := ⟨lw_w_at (i := 551) (by decide +kernel) (by decide +kernel), lw_w_at (i := 29) (by decide +kernel) (by decide +kernel), by decide +kernel, by decide +kernel, by decide +kernel⟩
abbrev mX6_isWhole : Mth := (yX6_isWhole, cX6_isWhole, 2, (some .boolean), 0)
theorem ok_X6_isWhole : MOK mX6_isWhole 1 := ⟨lw_w_at (i := 563) (by decide +kernel) (by decide +kernel), lw_w_at (i := 29) (by decide +kernel) (by decide +kernel), by decide +kernel, by decide +kernel, by decide +kernel⟩
abbrev mX6_rowsAllowed : Mth := (yX6_rowsAllowed, cX6_rowsAllowed, 1, (some .int), 0)
theorem ok_X6_rowsAllowed : MOK mX6_rowsAllowed 0 := ⟨lw_w_at (i := 567) (by decide +kernel) (by decide +kernel), lw_w_at (i := 29) (by decide +kernel) (by decide +kernel), by decide +kernel, by decide +kernel, by decide +kernel⟩
abbrev mX7_bitsOf : Mth := (yX7_bitsOf, cX7_bitsOf, 4, (some .int), 0)
theorem ok_X7_bitsOf : MOK mX7_bitsOf 1 := ⟨lw_w_at (i := 653) (by decide +kernel) (by decide +kernel), lw_w_at (i := 22) (by decide +kernel) (by decide +kernel), by decide +kernel, by decide +kernel, by decide +kernel⟩
abbrev mX7_clearText : Mth := (yX7_clearText, cX7_clearText, 2, (some .int), 0)
theorem ok_X7_clearText : MOK mX7_clearText 0 := ⟨lw_w_at (i := 543) (by decide +kernel) (by decide +kernel), lw_w_at (i := 22) (by decide +kernel) (by decide +kernel), by decide +kernel, by decide +kernel, by decide +kernel⟩
abbrev mX7_reason : Mth := (yX7_reason, cX7_reason, 1, (some .int), 0)
theorem ok_X7_reason : MOK mX7_reason 1 := ⟨lw_w_at (i := 513) (by decide +kernel) (by decide +kernel), lw_w_at (i := 22) (by decide +kernel) (by decide +kernel), by decide +kernel, by decide +kernel, by decide +kernel⟩
abbrev mX0_manyAtEnergy : Mth := (yX0_manyAtEnergy, cX0_manyAtEnergy, 4, (some .int), 1)
theorem ok_X0_manyAtEnergy : MOK mX0_manyAtEnergy 1 := ⟨lw_w_at (i := 423) (by decide +kernel) (by decide +kernel), lw_w_at (i := 24) (by decide +kernel) (by decide +kernel), by decide +kernel, by decide +kernel, by decide +kernel⟩
abbrev mX2_init : Mth := (yX2_init, cX2_init, 1, none, 1)
theorem ok_X2_init : MOK mX2_init 0 := ⟨lw_w_at (i := 165) (by decide +kernel) (by decide +kernel), lw_w_at (i := 27) (by decide +kernel) (by decide +kernel), by decide +kernel, by decide +kernel, by decide +kernel⟩
abbrev mX2_isLeast : Mth := (yX2_isLeast, cX2_isLeast, 5, (some .boolean), 1)
theorem ok_X2_isLeast : MOK mX2_isLeast 4 := ⟨lw_w_at (i := 637) (by decide +kernel) (by decide +kernel), lw_w_at (i := 27) (by decide +kernel) (by decide +kernel), by decide +kernel, by decide +kernel, by decide +kernel⟩
abbrev mX2_lookBehind : Mth := (yX2_lookBehind, cX2_lookBehind, 8, (some .int), 1)
theorem ok_X2_lookBehind : MOK mX2_lookBehind 2 := ⟨lw_w_at (i := 616) (by decide +kernel) (by decide +kernel), lw_w_at (i := 27) (by decide +kernel) (by decide +kernel), by decide +kernel, by decide +kernel, by decide +kernel⟩
abbrev mX3_init : Mth := (yX3_init, cX3_init, 1, none, 1)
theorem ok_X3_init : MOK mX3_init 0 := ⟨lw_w_at (i := 107) (by decide +kernel) (by decide +kernel), lw_w_at (i := 25) (by decide +kernel) (by decide +kernel), by decide +kernel, by decide +kernel, by decide +kernel⟩
abbrev mX3_priceAcross : Mth := (yX3_priceAcross, cX3_priceAcross, 6, none, 1)
theorem ok_X3_priceAcross : MOK mX3_priceAcross 1 := ⟨lw_w_at (i := 373) (by decide +kernel) (by decide +kernel), lw_w_at (i := 25) (by decide +kernel) (by decide +kernel), by decide +kernel, by decide +kernel, by decide +kernel⟩
abbrev mX3_priceAlong : Mth := (yX3_priceAlong, cX3_priceAlong, 4, none, 1)
theorem ok_X3_priceAlong : MOK mX3_priceAlong 1 := ⟨lw_w_at (i := 360) (by decide +kernel) (by decide +kernel), lw_w_at (i := 25) (by decide +kernel) (by decide +kernel), by decide +kernel, by decide +kernel, by decide +kernel⟩
abbrev mX4_allCells : Mth := (yX4_allCells, cX4_allCells, 5, (some .long), 1)
theorem ok_X4_allCells : MOK mX4_allCells 2 := ⟨lw_w_at (i := 51) (by decide +kernel) (by decide +kernel), lw_w_at (i := 23) (by decide +kernel) (by decide +kernel), by decide +kernel, by decide +kernel, by decide +kernel⟩
abbrev mX4_besideAlong : Mth := (yX4_besideAlong, cX4_besideAlong, 6, (some .long), 1)
theorem ok_X4_besideAlong : MOK mX4_besideAlong 1 := ⟨lw_w_at (i := 303) (by decide +kernel) (by decide +kernel), lw_w_at (i := 23) (by decide +kernel) (by decide +kernel), by decide +kernel, by decide +kernel, by decide +kernel⟩
abbrev mX4_bit : Mth := (yX4_bit, cX4_bit, 2, (some .long), 1)
theorem ok_X4_bit : MOK mX4_bit 2 := ⟨lw_w_at (i := 295) (by decide +kernel) (by decide +kernel), lw_w_at (i := 23) (by decide +kernel) (by decide +kernel), by decide +kernel, by decide +kernel, by decide +kernel⟩
abbrev mX4_copyFrom : Mth := (yX4_copyFrom, cX4_copyFrom, 2, none, 1)
theorem ok_X4_copyFrom : MOK mX4_copyFrom 1 := ⟨lw_w_at (i := 469) (by decide +kernel) (by decide +kernel), lw_w_at (i := 23) (by decide +kernel) (by decide +kernel), by decide +kernel, by decide +kernel, by decide +kernel⟩
abbrev mX4_fieldAt : Mth := (yX4_fieldAt, cX4_fieldAt, 3, (some .int), 1)
theorem ok_X4_fieldAt : MOK mX4_fieldAt 2 := ⟨lw_w_at (i := 325) (by decide +kernel) (by decide +kernel), lw_w_at (i := 23) (by decide +kernel) (by decide +kernel), by decide +kernel, by decide +kernel, by decide +kernel⟩
abbrev mX4_flip : Mth := (yX4_flip, cX4_flip, 3, none, 1)
theorem ok_X4_flip : MOK mX4_flip 1 := ⟨lw_w_at (i := 492) (by decide +kernel) (by decide +kernel), lw_w_at (i := 23) (by decide +kernel) (by decide +kernel), by decide +kernel, by decide +kernel, by decide +kernel⟩
abbrev mX4_kindOf : Mth := (yX4_kindOf, cX4_kindOf, 2, (some .int), 1)
theorem ok_X4_kindOf : MOK mX4_kindOf 1 := ⟨lw_w_at (i := 667) (by decide +kernel) (by decide +kernel), lw_w_at (i := 23) (by decide +kernel) (by decide +kernel), by decide +kernel, by decide +kernel, by decide +kernel⟩
abbrev mX4_putField : Mth := (yX4_putField, cX4_putField, 4, none, 1)
theorem ok_X4_putField : MOK mX4_putField 3 := ⟨lw_w_at (i := 523) (by decide +kernel) (by decide +kernel), lw_w_at (i := 23) (by decide +kernel) (by decide +kernel), by decide +kernel, by decide +kernel, by decide +kernel⟩
abbrev mX4_spinSum : Mth := (yX4_spinSum, cX4_spinSum, 3, (some .int), 1)
theorem ok_X4_spinSum : MOK mX4_spinSum 1 := ⟨lw_w_at (i := 311) (by decide +kernel) (by decide +kernel), lw_w_at (i := 23) (by decide +kernel) (by decide +kernel), by decide +kernel, by decide +kernel, by decide +kernel⟩
abbrev mX5_addColumn : Mth := (yX5_addColumn, cX5_addColumn, 6, none, 1)
theorem ok_X5_addColumn : MOK mX5_addColumn 2 := ⟨lw_w_at (i := 400) (by decide +kernel) (by decide +kernel), lw_w_at (i := 26) (by decide +kernel) (by decide +kernel), by decide +kernel, by decide +kernel, by decide +kernel⟩
abbrev mX5_begin : Mth := (yX5_begin, cX5_begin, 6, none, 1)
theorem ok_X5_begin : MOK mX5_begin 3 := ⟨lw_w_at (i := 396) (by decide +kernel) (by decide +kernel), lw_w_at (i := 26) (by decide +kernel) (by decide +kernel), by decide +kernel, by decide +kernel, by decide +kernel⟩
abbrev mX5_init : Mth := (yX5_init, cX5_init, 1, none, 1)
theorem ok_X5_init : MOK mX5_init 0 := ⟨lw_w_at (i := 151) (by decide +kernel) (by decide +kernel), lw_w_at (i := 26) (by decide +kernel) (by decide +kernel), by decide +kernel, by decide +kernel, by decide +kernel⟩
abbrev mX6_init : Mth := (yX6_init, cX6_init, 1, none, 1)
theorem ok_X6_init : MOK mX6_init 0 := ⟨lw_w_at (i := 239) (by decide +kernel) (by decide +kernel), lw_w_at (i := 29) (by decide +kernel) (by decide +kernel), by decide +kernel, by decide +kernel, by decide +kernel⟩
abbrev mX7_type : Mth := (yX7_type, cX7_type, 2, (some .int), 1)
theorem ok_X7_type : MOK mX7_type 1 := ⟨lw_w_at (i := 547) (by decide +kernel) (by decide +kernel), lw_w_at (i := 22) (by decide +kernel) (by decide +kernel), by decide +kernel, by decide +kernel, by decide +kernel⟩
abbrev mX0_init : Mth := (yX0_init, cX0_init, 1, none, 2)
theorem ok_X0_init : MOK mX0_init 0 := ⟨lw_w_at (i := 101) (by decide +kernel) (by decide +kernel), lw_w_at (i := 24) (by decide +kernel) (by decide +kernel), by decide +kernel, by decide +kernel, by decide +kernel⟩
abbrev mX1_record : Mth := (yX1_record, cX1_record, 2, none, 2)
theorem ok_X1_record : MOK mX1_record 1 := ⟨lw_w_at (i := 465) (by decide +kernel) (by decide +kernel), lw_w_at (i := 28) (by decide +kernel) (by decide +kernel), by decide +kernel, by decide +kernel, by decide +kernel⟩
abbrev mX2_addColumn : Mth := (yX2_addColumn, cX2_addColumn, 5, none, 2)
theorem ok_X2_addColumn : MOK mX2_addColumn 2 := ⟨lw_w_at (i := 633) (by decide +kernel) (by decide +kernel), lw_w_at (i := 27) (by decide +kernel) (by decide +kernel), by decide +kernel, by decide +kernel, by decide +kernel⟩
abbrev mX2_leastCost : Mth := (yX2_leastCost, cX2_leastCost, 4, (some .int), 2)
theorem ok_X2_leastCost : MOK mX2_leastCost 1 := ⟨lw_w_at (i := 612) (by decide +kernel) (by decide +kernel), lw_w_at (i := 27) (by decide +kernel) (by decide +kernel), by decide +kernel, by decide +kernel, by decide +kernel⟩
abbrev mX3_priceFields : Mth := (yX3_priceFields, cX3_priceFields, 8, (some .int), 2)
theorem ok_X3_priceFields : MOK mX3_priceFields 2 := ⟨lw_w_at (i := 380) (by decide +kernel) (by decide +kernel), lw_w_at (i := 25) (by decide +kernel) (by decide +kernel), by decide +kernel, by decide +kernel, by decide +kernel⟩
abbrev mX4_beside : Mth := (yX4_beside, cX4_beside, 3, (some .long), 2)
theorem ok_X4_beside : MOK mX4_beside 1 := ⟨lw_w_at (i := 337) (by decide +kernel) (by decide +kernel), lw_w_at (i := 23) (by decide +kernel) (by decide +kernel), by decide +kernel, by decide +kernel, by decide +kernel⟩
abbrev mX4_init : Mth := (yX4_init, cX4_init, 1, none, 2)
theorem ok_X4_init : MOK mX4_init 0 := ⟨lw_w_at (i := 47) (by decide +kernel) (by decide +kernel), lw_w_at (i := 23) (by decide +kernel) (by decide +kernel), by decide +kernel, by decide +kernel, by decide +kernel⟩
abbrev mX4_pullOfNeighbours : Mth := (yX4_pullOfNeighbours, cX4_pullOfNeighbours, 3, (some .int), 2)
theorem ok_X4_pullOfNeighbours : MOK mX4_pullOfNeighbours 1 := ⟨lw_w_at (i := 299) (by decide +kernel) (by decide +kernel), lw_w_at (i := 23) (by decide +kernel) (by decide +kernel), by decide +kernel, by decide +kernel, by decide +kernel⟩
abbrev mX4_remake : Mth := (yX4_remake, cX4_remake, 4, none, 2)
theorem ok_X4_remake : MOK mX4_remake 3 := ⟨lw_w_at (i := 476) (by decide +kernel) (by decide +kernel), lw_w_at (i := 23) (by decide +kernel) (by decide +kernel), by decide +kernel, by decide +kernel, by decide +kernel⟩
abbrev mX4_spinAt : Mth := (yX4_spinAt, cX4_spinAt, 3, (some .int), 2)
theorem ok_X4_spinAt : MOK mX4_spinAt 2 := ⟨lw_w_at (i := 292) (by decide +kernel) (by decide +kernel), lw_w_at (i := 23) (by decide +kernel) (by decide +kernel), by decide +kernel, by decide +kernel, by decide +kernel⟩
abbrev mX5_addStrips : Mth := (yX5_addStrips, cX5_addStrips, 6, none, 2)
theorem ok_X5_addStrips : MOK mX5_addStrips 4 := ⟨lw_w_at (i := 392) (by decide +kernel) (by decide +kernel), lw_w_at (i := 26) (by decide +kernel) (by decide +kernel), by decide +kernel, by decide +kernel, by decide +kernel⟩
abbrev mX6_firstFault : Mth := (yX6_firstFault, cX6_firstFault, 4, (some .int), 2)
theorem ok_X6_firstFault : MOK mX6_firstFault 0 := ⟨lw_w_at (i := 559) (by decide +kernel) (by decide +kernel), lw_w_at (i := 29) (by decide +kernel) (by decide +kernel), by decide +kernel, by decide +kernel, by decide +kernel⟩
abbrev mX7_column : Mth := (yX7_column, cX7_column, 2, (some .int), 2)
theorem ok_X7_column : MOK mX7_column 1 := ⟨lw_w_at (i := 663) (by decide +kernel) (by decide +kernel), lw_w_at (i := 22) (by decide +kernel) (by decide +kernel), by decide +kernel, by decide +kernel, by decide +kernel⟩
