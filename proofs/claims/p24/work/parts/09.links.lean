/-! WHAT THE TABLES SAY, a theorem each (by program) -/
theorem in_of (ws : List Cond) (ps : List Nat) (hp : ws = ps.filterMap (fun i => lw_tbl[i]?)) (h : ws.all goodWord = true) : ∀ w ∈ ws, w ∈ lw_w := by
  intro w hw
  have h1 := List.all_eq_true.mp h w hw
  rw [hp] at hw
  obtain ⟨i, -, hi⟩ := List.mem_filterMap.mp hw
  exact lw_w_at hi h1
set_option maxRecDepth 20000 in
theorem cls_0 : CLS 0 RX0 TX0 12 := ⟨rfl, in_of _ [190, 192, 194, 196, 198, 200, 202, 204, 206, 208, 210, 212] (by decide +kernel) (by decide +kernel), ⟨tyX0, tyX0_ok⟩, nmX0⟩
set_option maxRecDepth 20000 in
theorem cls_1 : CLS 1 RX1 TX1 3 := ⟨rfl, in_of _ [228, 230, 232] (by decide +kernel) (by decide +kernel), ⟨tyX1, tyX1_ok⟩, nmX1⟩
set_option maxRecDepth 20000 in
theorem cls_2 : CLS 2 RX2 TX2 3 := ⟨rfl, in_of _ [171, 173, 175] (by decide +kernel) (by decide +kernel), ⟨tyX2, tyX2_ok⟩, nmX2⟩
set_option maxRecDepth 20000 in
theorem cls_3 : CLS 3 RX3 TX3 8 := ⟨rfl, in_of _ [130, 132, 134, 136, 138, 140, 142, 144] (by decide +kernel) (by decide +kernel), ⟨tyX3, tyX3_ok⟩, nmX3⟩
set_option maxRecDepth 20000 in
theorem cls_4 : CLS 4 RX4 TX4 9 := ⟨rfl, in_of _ [77, 79, 81, 83, 85, 87, 89, 91, 93] (by decide +kernel) (by decide +kernel), ⟨tyX4, tyX4_ok⟩, nmX4⟩
set_option maxRecDepth 20000 in
theorem cls_5 : CLS 5 RX5 TX5 2 := ⟨rfl, in_of _ [156, 158] (by decide +kernel) (by decide +kernel), ⟨tyX5, tyX5_ok⟩, nmX5⟩
set_option maxRecDepth 20000 in
theorem cls_6 : CLS 6 RX6 TX6 5 := ⟨rfl, in_of _ [250, 252, 254, 256, 258] (by decide +kernel) (by decide +kernel), ⟨tyX6, tyX6_ok⟩, nmX6⟩
set_option maxRecDepth 20000 in
theorem cls_7 : CLS 7 RX7 TX7 6 := ⟨rfl, in_of _ [268, 270, 272, 274, 276, 278] (by decide +kernel) (by decide +kernel), ⟨tyX7, tyX7_ok⟩, nmX7⟩
abbrev mJ13_bitCount_95d88 : Mth := (yJ13_bitCount_95d88, cJ13_bitCount_95d88, 2, (some .int), 0)
theorem ok_J13_bitCount_95d88 : MOK mJ13_bitCount_95d88 1 := ⟨lw_w_at (i := 314) (by decide +kernel) (by decide +kernel), lw_w_at (i := 32) (by decide +kernel) (by decide +kernel), by decide +kernel, by decide +kernel, by decide +kernel⟩
abbrev mJ6_bitCount_0f7a4 : Mth := (yJ6_bitCount_0f7a4, cJ6_bitCount_0f7a4, 1, (some .int), 0)
theorem ok_J6_bitCount_0f7a4 : MOK mJ6_bitCount_0f7a4 1 := ⟨lw_w_at (i := 363) (by decide +kernel) (by decide +kernel), lw_w_at (i := 33) (by decide +kernel) (by decide +kernel), by decide +kernel, by decide +kernel, by decide +kernel⟩
abbrev mJ7_fill_53178 : Mth := (yJ7_fill_53178, cJ7_fill_53178, 4, none, 0)
theorem ok_J7_fill_53178 : MOK mJ7_fill_53178 2 := ⟨lw_w_at (i := 388) (by decide +kernel) (by decide +kernel), lw_w_at (i := 31) (by decide +kernel) (by decide +kernel), by decide +kernel, by decide +kernel, by decide +kernel⟩
abbrev mJ9_abs_0f7a4 : Mth := (yJ9_abs_0f7a4, cJ9_abs_0f7a4, 1, (some .int), 0)
theorem ok_J9_abs_0f7a4 : MOK mJ9_abs_0f7a4 1 := ⟨lw_w_at (i := 376) (by decide +kernel) (by decide +kernel), lw_w_at (i := 34) (by decide +kernel) (by decide +kernel), by decide +kernel, by decide +kernel, by decide +kernel⟩
abbrev mJ9_min_7cf53 : Mth := (yJ9_min_7cf53, cJ9_min_7cf53, 2, (some .int), 0)
theorem ok_J9_min_7cf53 : MOK mJ9_min_7cf53 2 := ⟨lw_w_at (i := 624) (by decide +kernel) (by decide +kernel), lw_w_at (i := 34) (by decide +kernel) (by decide +kernel), by decide +kernel, by decide +kernel, by decide +kernel⟩
abbrev mL_cell : Mth := (yL_cell, cL_cell, 2, (some .int), 0)
theorem ok_L_cell : MOK mL_cell 2 := ⟨lw_w_at (i := 449) (by decide +kernel) (by decide +kernel), lw_w_at (i := 21) (by decide +kernel) (by decide +kernel), by decide +kernel, by decide +kernel, by decide +kernel⟩
abbrev mL_up : Mth := (yL_up, cL_up, 2, (some .int), 0)
theorem ok_L_up : MOK mL_up 2 := ⟨lw_w_at (i := 453) (by decide +kernel) (by decide +kernel), lw_w_at (i := 21) (by decide +kernel) (by decide +kernel), by decide +kernel, by decide +kernel, by decide +kernel⟩
abbrev mX0_at : Mth := (yX0_at, cX0_at, 2, (some .int), 0)
theorem ok_X0_at : MOK mX0_at 2 := ⟨lw_w_at (i := 426) (by decide +kernel) (by decide +kernel), lw_w_at (i := 24) (by decide +kernel) (by decide +kernel), by decide +kernel, by decide +kernel, by decide +kernel⟩
abbrev mX0_energyOf : Mth := (yX0_energyOf, cX0_energyOf, 2, (some .int), 0)
theorem ok_X0_energyOf : MOK mX0_energyOf 1 := ⟨lw_w_at (i := 411) (by decide +kernel) (by decide +kernel), lw_w_at (i := 24) (by decide +kernel) (by decide +kernel), by decide +kernel, by decide +kernel, by decide +kernel⟩
abbrev mX0_forget : Mth := (yX0_forget, cX0_forget, 1, none, 0)
theorem ok_X0_forget : MOK mX0_forget 0 := ⟨lw_w_at (i := 481) (by decide +kernel) (by decide +kernel), lw_w_at (i := 24) (by decide +kernel) (by decide +kernel), by decide +kernel, by decide +kernel, by decide +kernel⟩
abbrev mX0_manyWithUps : Mth := (yX0_manyWithUps, cX0_manyWithUps, 6, (some .int), 0)
theorem ok_X0_manyWithUps : MOK mX0_manyWithUps 2 := ⟨lw_w_at (i := 641) (by decide +kernel) (by decide +kernel), lw_w_at (i := 24) (by decide +kernel) (by decide +kernel), by decide +kernel, by decide +kernel, by decide +kernel⟩
abbrev mX2_costOfNext : Mth := (yX2_costOfNext, cX2_costOfNext, 5, (some .int), 0)
theorem ok_X2_costOfNext : MOK mX2_costOfNext 4 := ⟨lw_w_at (i := 621) (by decide +kernel) (by decide +kernel), lw_w_at (i := 27) (by decide +kernel) (by decide +kernel), by decide +kernel, by decide +kernel, by decide +kernel⟩
abbrev mX3_price : Mth := (yX3_price, cX3_price, 3, (some .int), 0)
theorem ok_X3_price : MOK mX3_price 3 := ⟨lw_w_at (i := 369) (by decide +kernel) (by decide +kernel), lw_w_at (i := 25) (by decide +kernel) (by decide +kernel), by decide +kernel, by decide +kernel, by decide +kernel⟩
abbrev mX3_seam : Mth := (yX3_seam, cX3_seam, 3, (some .int), 0)
theorem ok_X3_seam : MOK mX3_seam 2 := ⟨lw_w_at (i := 407) (by decide +kernel) (by decide +kernel), lw_w_at (i := 25) (by decide +kernel) (by decide +kernel), by decide +kernel, by decide +kernel, by decide +kernel⟩
abbrev mX4_alike : Mth := (yX4_alike, cX4_alike, 3, (some .long), 0)
theorem ok_X4_alike : MOK mX4_alike 1 := ⟨lw_w_at (i := 341) (by decide +kernel) (by decide +kernel), lw_w_at (i := 23) (by decide +kernel) (by decide +kernel), by decide +kernel, by decide +kernel, by decide +kernel⟩
abbrev mX4_besideAcross : Mth := (yX4_besideAcross, cX4_besideAcross, 3, (some .long), 0)
theorem ok_X4_besideAcross : MOK mX4_besideAcross 1 := ⟨lw_w_at (i := 321) (by decide +kernel) (by decide +kernel), lw_w_at (i := 23) (by decide +kernel) (by decide +kernel), by decide +kernel, by decide +kernel, by decide +kernel⟩
abbrev mX4_closed : Mth := (yX4_closed, cX4_closed, 1, (some .boolean), 0)
theorem ok_X4_closed : MOK mX4_closed 0 := ⟨lw_w_at (i := 307) (by decide +kernel) (by decide +kernel), lw_w_at (i := 23) (by decide +kernel) (by decide +kernel), by decide +kernel, by decide +kernel, by decide +kernel⟩
abbrev mX4_has : Mth := (yX4_has, cX4_has, 3, (some .boolean), 0)
theorem ok_X4_has : MOK mX4_has 2 := ⟨lw_w_at (i := 329) (by decide +kernel) (by decide +kernel), lw_w_at (i := 23) (by decide +kernel) (by decide +kernel), by decide +kernel, by decide +kernel, by decide +kernel⟩
abbrev mX4_place : Mth := (yX4_place, cX4_place, 2, (some .int), 0)
theorem ok_X4_place : MOK mX4_place 2 := ⟨lw_w_at (i := 54) (by decide +kernel) (by decide +kernel), lw_w_at (i := 23) (by decide +kernel) (by decide +kernel), by decide +kernel, by decide +kernel, by decide +kernel⟩
abbrev mX5_addShifted : Mth := (yX5_addShifted, cX5_addShifted, 5, none, 0)
theorem ok_X5_addShifted : MOK mX5_addShifted 4 := ⟨lw_w_at (i := 403) (by decide +kernel) (by decide +kernel), lw_w_at (i := 26) (by decide +kernel) (by decide +kernel), by decide +kernel, by decide +kernel, by decide +kernel⟩
abbrev mX6_append : Mth := (yX6_append, cX6_append, 2, (some .boolean), 0)
theorem ok_X6_append : MOK mX6_append 1 := ⟨lw_w_at (i := 551) (by decide +kernel) (by decide +kernel), lw_w_at (i := 29) (by decide +kernel) (by decide +kernel), by decide +kernel, by decide +kernel, by decide +kernel⟩
abbrev mX6_isWhole : Mth := (yX6_isWhole, cX6_isWhole, 2, (some .boolean), 0)
theorem ok_X6_isWhole : MOK mX6_isWhole 1 := ⟨lw_w_at (i := 563) (by decide +kernel) (by decide +kernel), lw_w_at (i := 29) (by decide +kernel) (by decide +kernel), by decide +kernel, by decide +kernel, by decide +kernel⟩
abbrev mX6_rowsAllowed : Mth := (yX6_rowsAllowed, cX6_rowsAllowed, 1, (some .int), 0)
theorem ok_X6_rowsAllowed : MOK mX6_rowsAllowed 0 := ⟨lw_w_at (i := 567) (by decide +kernel) (by decide +kernel), lw_w_at (i := 29) (by decide +kernel) (by decide +kernel), by decide +kernel, by decide +kernel, by decide +kernel⟩
abbrev mX7_bitsOf : Mth := (yX7_bitsOf, cX7_bitsOf, 4, (some .int), 0)
theorem ok_X7_bitsOf : MOK mX7_bitsOf 1 := ⟨lw_w_at (i := 653) (by decide +kernel) (by decide +kernel), lw_w_at (i := 22) (by decide +kernel) (by decide +kernel), by decide +kernel, by decide +kernel, by decide +kernel⟩
abbrev mX7_clearText : Mth := (yX7_clearText, cX7_clearText, 2, (some .int), 0)
theorem ok_X7_clearText : MOK mX7_clearText 0 := ⟨lw_w_at (i := 543) (by decide +kernel) (by decide +kernel), lw_w_at (i := 22) (by decide +kernel) (by decide +kernel), by decide +kernel, by decide +kernel, by decide +kernel⟩
abbrev mX7_reason : Mth := (yX7_reason, cX7_reason, 1, (some .int), 0)
theorem ok_X7_reason : MOK mX7_reason 1 := ⟨lw_w_at (i := 513) (by decide +kernel) (by decide +kernel), lw_w_at (i := 22) (by decide +kernel) (by decide +kernel), by decide +kernel, by decide +kernel, by decide +kernel⟩
abbrev mX0_manyAtEnergy : Mth := (yX0_manyAtEnergy, cX0_manyAtEnergy, 4, (some .int), 1)
theorem ok_X0_manyAtEnergy : MOK mX0_manyAtEnergy 1 := ⟨lw_w_at (i := 423) (by decide +kernel) (by decide +kernel), lw_w_at (i := 24) (by decide +kernel) (by decide +kernel), by decide +kernel, by decide +kernel, by decide +kernel⟩
abbrev mX2_init : Mth := (yX2_init, cX2_init, 1, none, 1)
theorem ok_X2_init : MOK mX2_init 0 := ⟨lw_w_at (i := 165) (by decide +kernel) (by decide +kernel), lw_w_at (i := 27) (by decide +kernel) (by decide +kernel), by decide +kernel, by decide +kernel, by decide +kernel⟩
abbrev mX2_isLeast : Mth := (yX2_isLeast, cX2_isLeast, 5, (some .boolean), 1)
theorem ok_X2_isLeast : MOK mX2_isLeast 4 := ⟨lw_w_at (i := 637) (by decide +kernel) (by decide +kernel), lw_w_at (i := 27) (by decide +kernel) (by decide +kernel), by decide +kernel, by decide +kernel, by decide +kernel⟩
abbrev mX2_lookBehind : Mth := (yX2_lookBehind, cX2_lookBehind, 8, (some .int), 1)
theorem ok_X2_lookBehind : MOK mX2_lookBehind 2 := ⟨lw_w_at (i := 616) (by decide +kernel) (by decide +kernel), lw_w_at (i := 27) (by decide +kernel) (by decide +kernel), by decide +kernel, by decide +kernel, by decide +kernel⟩
abbrev mX3_init : Mth := (yX3_init, cX3_init, 1, none, 1)
theorem ok_X3_init : MOK mX3_init 0 := ⟨lw_w_at (i := 107) (by decide +kernel) (by decide +kernel), lw_w_at (i := 25) (by decide +kernel) (by decide +kernel), by decide +kernel, by decide +kernel, by decide +kernel⟩
abbrev mX3_priceAcross : Mth := (yX3_priceAcross, cX3_priceAcross, 6, none, 1)
theorem ok_X3_priceAcross : MOK mX3_priceAcross 1 := ⟨lw_w_at (i := 373) (by decide +kernel) (by decide +kernel), lw_w_at (i := 25) (by decide +kernel) (by decide +kernel), by decide +kernel, by decide +kernel, by decide +kernel⟩
abbrev mX3_priceAlong : Mth := (yX3_priceAlong, cX3_priceAlong, 4, none, 1)
theorem ok_X3_priceAlong : MOK mX3_priceAlong 1 := ⟨lw_w_at (i := 360) (by decide +kernel) (by decide +kernel), lw_w_at (i := 25) (by decide +kernel) (by decide +kernel), by decide +kernel, by decide +kernel, by decide +kernel⟩
abbrev mX4_allCells : Mth := (yX4_allCells, cX4_allCells, 5, (some .long), 1)
theorem ok_X4_allCells : MOK mX4_allCells 2 := ⟨lw_w_at (i := 51) (by decide +kernel) (by decide +kernel), lw_w_at (i := 23) (by decide +kernel) (by decide +kernel), by decide +kernel, by decide +kernel, by decide +kernel⟩
abbrev mX4_besideAlong : Mth := (yX4_besideAlong, cX4_besideAlong, 6, (some .long), 1)
theorem ok_X4_besideAlong : MOK mX4_besideAlong 1 := ⟨lw_w_at (i := 303) (by decide +kernel) (by decide +kernel), lw_w_at (i := 23) (by decide +kernel) (by decide +kernel), by decide +kernel, by decide +kernel, by decide +kernel⟩
abbrev mX4_bit : Mth := (yX4_bit, cX4_bit, 2, (some .long), 1)
theorem ok_X4_bit : MOK mX4_bit 2 := ⟨lw_w_at (i := 295) (by decide +kernel) (by decide +kernel), lw_w_at (i := 23) (by decide +kernel) (by decide +kernel), by decide +kernel, by decide +kernel, by decide +kernel⟩
abbrev mX4_copyFrom : Mth := (yX4_copyFrom, cX4_copyFrom, 2, none, 1)
theorem ok_X4_copyFrom : MOK mX4_copyFrom 1 := ⟨lw_w_at (i := 469) (by decide +kernel) (by decide +kernel), lw_w_at (i := 23) (by decide +kernel) (by decide +kernel), by decide +kernel, by decide +kernel, by decide +kernel⟩
abbrev mX4_fieldAt : Mth := (yX4_fieldAt, cX4_fieldAt, 3, (some .int), 1)
theorem ok_X4_fieldAt : MOK mX4_fieldAt 2 := ⟨lw_w_at (i := 325) (by decide +kernel) (by decide +kernel), lw_w_at (i := 23) (by decide +kernel) (by decide +kernel), by decide +kernel, by decide +kernel, by decide +kernel⟩
abbrev mX4_flip : Mth := (yX4_flip, cX4_flip, 3, none, 1)
theorem ok_X4_flip : MOK mX4_flip 1 := ⟨lw_w_at (i := 492) (by decide +kernel) (by decide +kernel), lw_w_at (i := 23) (by decide +kernel) (by decide +kernel), by decide +kernel, by decide +kernel, by decide +kernel⟩
abbrev mX4_kindOf : Mth := (yX4_kindOf, cX4_kindOf, 2, (some .int), 1)
theorem ok_X4_kindOf : MOK mX4_kindOf 1 := ⟨lw_w_at (i := 667) (by decide +kernel) (by decide +kernel), lw_w_at (i := 23) (by decide +kernel) (by decide +kernel), by decide +kernel, by decide +kernel, by decide +kernel⟩
abbrev mX4_putField : Mth := (yX4_putField, cX4_putField, 4, none, 1)
theorem ok_X4_putField : MOK mX4_putField 3 := ⟨lw_w_at (i := 523) (by decide +kernel) (by decide +kernel), lw_w_at (i := 23) (by decide +kernel) (by decide +kernel), by decide +kernel, by decide +kernel, by decide +kernel⟩
abbrev mX4_spinSum : Mth := (yX4_spinSum, cX4_spinSum, 3, (some .int), 1)
theorem ok_X4_spinSum : MOK mX4_spinSum 1 := ⟨lw_w_at (i := 311) (by decide +kernel) (by decide +kernel), lw_w_at (i := 23) (by decide +kernel) (by decide +kernel), by decide +kernel, by decide +kernel, by decide +kernel⟩
abbrev mX5_addColumn : Mth := (yX5_addColumn, cX5_addColumn, 6, none, 1)
theorem ok_X5_addColumn : MOK mX5_addColumn 2 := ⟨lw_w_at (i := 400) (by decide +kernel) (by decide +kernel), lw_w_at (i := 26) (by decide +kernel) (by decide +kernel), by decide +kernel, by decide +kernel, by decide +kernel⟩
abbrev mX5_begin : Mth := (yX5_begin, cX5_begin, 6, none, 1)
theorem ok_X5_begin : MOK mX5_begin 3 := ⟨lw_w_at (i := 396) (by decide +kernel) (by decide +kernel), lw_w_at (i := 26) (by decide +kernel) (by decide +kernel), by decide +kernel, by decide +kernel, by decide +kernel⟩
abbrev mX5_init : Mth := (yX5_init, cX5_init, 1, none, 1)
theorem ok_X5_init : MOK mX5_init 0 := ⟨lw_w_at (i := 151) (by decide +kernel) (by decide +kernel), lw_w_at (i := 26) (by decide +kernel) (by decide +kernel), by decide +kernel, by decide +kernel, by decide +kernel⟩
abbrev mX6_init : Mth := (yX6_init, cX6_init, 1, none, 1)
theorem ok_X6_init : MOK mX6_init 0 := ⟨lw_w_at (i := 239) (by decide +kernel) (by decide +kernel), lw_w_at (i := 29) (by decide +kernel) (by decide +kernel), by decide +kernel, by decide +kernel, by decide +kernel⟩
abbrev mX7_type : Mth := (yX7_type, cX7_type, 2, (some .int), 1)
theorem ok_X7_type : MOK mX7_type 1 := ⟨lw_w_at (i := 547) (by decide +kernel) (by decide +kernel), lw_w_at (i := 22) (by decide +kernel) (by decide +kernel), by decide +kernel, by decide +kernel, by decide +kernel⟩
abbrev mX0_init : Mth := (yX0_init, cX0_init, 1, none, 2)
theorem ok_X0_init : MOK mX0_init 0 := ⟨lw_w_at (i := 101) (by decide +kernel) (by decide +kernel), lw_w_at (i := 24) (by decide +kernel) (by decide +kernel), by decide +kernel, by decide +kernel, by decide +kernel⟩
abbrev mX1_record : Mth := (yX1_record, cX1_record, 2, none, 2)
theorem ok_X1_record : MOK mX1_record 1 := ⟨lw_w_at (i := 465) (by decide +kernel) (by decide +kernel), lw_w_at (i := 28) (by decide +kernel) (by decide +kernel), by decide +kernel, by decide +kernel, by decide +kernel⟩
abbrev mX2_addColumn : Mth := (yX2_addColumn, cX2_addColumn, 5, none, 2)
theorem ok_X2_addColumn : MOK mX2_addColumn 2 := ⟨lw_w_at (i := 633) (by decide +kernel) (by decide +kernel), lw_w_at (i := 27) (by decide +kernel) (by decide +kernel), by decide +kernel, by decide +kernel, by decide +kernel⟩
abbrev mX2_leastCost : Mth := (yX2_leastCost, cX2_leastCost, 4, (some .int), 2)
theorem ok_X2_leastCost : MOK mX2_leastCost 1 := ⟨lw_w_at (i := 612) (by decide +kernel) (by decide +kernel), lw_w_at (i := 27) (by decide +kernel) (by decide +kernel), by decide +kernel, by decide +kernel, by decide +kernel⟩
abbrev mX3_priceFields : Mth := (yX3_priceFields, cX3_priceFields, 8, (some .int), 2)
theorem ok_X3_priceFields : MOK mX3_priceFields 2 := ⟨lw_w_at (i := 380) (by decide +kernel) (by decide +kernel), lw_w_at (i := 25) (by decide +kernel) (by decide +kernel), by decide +kernel, by decide +kernel, by decide +kernel⟩
abbrev mX4_beside : Mth := (yX4_beside, cX4_beside, 3, (some .long), 2)
theorem ok_X4_beside : MOK mX4_beside 1 := ⟨lw_w_at (i := 337) (by decide +kernel) (by decide +kernel), lw_w_at (i := 23) (by decide +kernel) (by decide +kernel), by decide +kernel, by decide +kernel, by decide +kernel⟩
abbrev mX4_init : Mth := (yX4_init, cX4_init, 1, none, 2)
theorem ok_X4_init : MOK mX4_init 0 := ⟨lw_w_at (i := 47) (by decide +kernel) (by decide +kernel), lw_w_at (i := 23) (by decide +kernel) (by decide +kernel), by decide +kernel, by decide +kernel, by decide +kernel⟩
abbrev mX4_pullOfNeighbours : Mth := (yX4_pullOfNeighbours, cX4_pullOfNeighbours, 3, (some .int), 2)
theorem ok_X4_pullOfNeighbours : MOK mX4_pullOfNeighbours 1 := ⟨lw_w_at (i := 299) (by decide +kernel) (by decide +kernel), lw_w_at (i := 23) (by decide +kernel) (by decide +kernel), by decide +kernel, by decide +kernel, by decide +kernel⟩
abbrev mX4_remake : Mth := (yX4_remake, cX4_remake, 4, none, 2)
theorem ok_X4_remake : MOK mX4_remake 3 := ⟨lw_w_at (i := 476) (by decide +kernel) (by decide +kernel), lw_w_at (i := 23) (by decide +kernel) (by decide +kernel), by decide +kernel, by decide +kernel, by decide +kernel⟩
abbrev mX4_spinAt : Mth := (yX4_spinAt, cX4_spinAt, 3, (some .int), 2)
theorem ok_X4_spinAt : MOK mX4_spinAt 2 := ⟨lw_w_at (i := 292) (by decide +kernel) (by decide +kernel), lw_w_at (i := 23) (by decide +kernel) (by decide +kernel), by decide +kernel, by decide +kernel, by decide +kernel⟩
abbrev mX5_addStrips : Mth := (yX5_addStrips, cX5_addStrips, 6, none, 2)
theorem ok_X5_addStrips : MOK mX5_addStrips 4 := ⟨lw_w_at (i := 392) (by decide +kernel) (by decide +kernel), lw_w_at (i := 26) (by decide +kernel) (by decide +kernel), by decide +kernel, by decide +kernel, by decide +kernel⟩
abbrev mX6_firstFault : Mth := (yX6_firstFault, cX6_firstFault, 4, (some .int), 2)
theorem ok_X6_firstFault : MOK mX6_firstFault 0 := ⟨lw_w_at (i := 559) (by decide +kernel) (by decide +kernel), lw_w_at (i := 29) (by decide +kernel) (by decide +kernel), by decide +kernel, by decide +kernel, by decide +kernel⟩
abbrev mX7_column : Mth := (yX7_column, cX7_column, 2, (some .int), 2)
theorem ok_X7_column : MOK mX7_column 1 := ⟨lw_w_at (i := 663) (by decide +kernel) (by decide +kernel), lw_w_at (i := 22) (by decide +kernel) (by decide +kernel), by decide +kernel, by decide +kernel, by decide +kernel⟩
abbrev mX1_init : Mth := (yX1_init, cX1_init, 2, none, 3)
theorem ok_X1_init : MOK mX1_init 0 := ⟨lw_w_at (i := 219) (by decide +kernel) (by decide +kernel), lw_w_at (i := 28) (by decide +kernel) (by decide +kernel), by decide +kernel, by decide +kernel, by decide +kernel⟩
abbrev mX2_addUps : Mth := (yX2_addUps, cX2_addUps, 5, none, 3)
theorem ok_X2_addUps : MOK mX2_addUps 3 := ⟨lw_w_at (i := 628) (by decide +kernel) (by decide +kernel), lw_w_at (i := 27) (by decide +kernel) (by decide +kernel), by decide +kernel, by decide +kernel, by decide +kernel⟩
abbrev mX3_takeFrom : Mth := (yX3_takeFrom, cX3_takeFrom, 9, none, 3)
theorem ok_X3_takeFrom : MOK mX3_takeFrom 2 := ⟨lw_w_at (i := 355) (by decide +kernel) (by decide +kernel), lw_w_at (i := 25) (by decide +kernel) (by decide +kernel), by decide +kernel, by decide +kernel, by decide +kernel⟩
abbrev mX4_energy : Mth := (yX4_energy, cX4_energy, 6, (some .int), 3)
theorem ok_X4_energy : MOK mX4_energy 0 := ⟨lw_w_at (i := 288) (by decide +kernel) (by decide +kernel), lw_w_at (i := 23) (by decide +kernel) (by decide +kernel), by decide +kernel, by decide +kernel, by decide +kernel⟩
abbrev mX4_gain : Mth := (yX4_gain, cX4_gain, 4, (some .int), 3)
theorem ok_X4_gain : MOK mX4_gain 2 := ⟨lw_w_at (i := 442) (by decide +kernel) (by decide +kernel), lw_w_at (i := 23) (by decide +kernel) (by decide +kernel), by decide +kernel, by decide +kernel, by decide +kernel⟩
abbrev mX4_pairs : Mth := (yX4_pairs, cX4_pairs, 4, (some .int), 3)
theorem ok_X4_pairs : MOK mX4_pairs 0 := ⟨lw_w_at (i := 446) (by decide +kernel) (by decide +kernel), lw_w_at (i := 23) (by decide +kernel) (by decide +kernel), by decide +kernel, by decide +kernel, by decide +kernel⟩
abbrev mX4_patchOf : Mth := (yX4_patchOf, cX4_patchOf, 10, (some .long), 3)
theorem ok_X4_patchOf : MOK mX4_patchOf 1 := ⟨lw_w_at (i := 434) (by decide +kernel) (by decide +kernel), lw_w_at (i := 23) (by decide +kernel) (by decide +kernel), by decide +kernel, by decide +kernel, by decide +kernel⟩
abbrev mX4_walls : Mth := (yX4_walls, cX4_walls, 6, (some .int), 3)
theorem ok_X4_walls : MOK mX4_walls 0 := ⟨lw_w_at (i := 333) (by decide +kernel) (by decide +kernel), lw_w_at (i := 23) (by decide +kernel) (by decide +kernel), by decide +kernel, by decide +kernel, by decide +kernel⟩
abbrev mX5_fill : Mth := (yX5_fill, cX5_fill, 4, none, 3)
theorem ok_X5_fill : MOK mX5_fill 2 := ⟨lw_w_at (i := 385) (by decide +kernel) (by decide +kernel), lw_w_at (i := 26) (by decide +kernel) (by decide +kernel), by decide +kernel, by decide +kernel, by decide +kernel⟩
abbrev mX7_lay : Mth := (yX7_lay, cX7_lay, 4, (some .int), 3)
theorem ok_X7_lay : MOK mX7_lay 3 := ⟨lw_w_at (i := 461) (by decide +kernel) (by decide +kernel), lw_w_at (i := 22) (by decide +kernel) (by decide +kernel), by decide +kernel, by decide +kernel, by decide +kernel⟩
abbrev mX7_read : Mth := (yX7_read, cX7_read, 2, (some .int), 3)
theorem ok_X7_read : MOK mX7_read 0 := ⟨lw_w_at (i := 555) (by decide +kernel) (by decide +kernel), lw_w_at (i := 22) (by decide +kernel) (by decide +kernel), by decide +kernel, by decide +kernel, by decide +kernel⟩
abbrev mX7_setField : Mth := (yX7_setField, cX7_setField, 5, (some .int), 3)
theorem ok_X7_setField : MOK mX7_setField 3 := ⟨lw_w_at (i := 519) (by decide +kernel) (by decide +kernel), lw_w_at (i := 22) (by decide +kernel) (by decide +kernel), by decide +kernel, by decide +kernel, by decide +kernel⟩
abbrev mX7_setPull : Mth := (yX7_setPull, cX7_setPull, 4, (some .int), 3)
theorem ok_X7_setPull : MOK mX7_setPull 2 := ⟨lw_w_at (i := 503) (by decide +kernel) (by decide +kernel), lw_w_at (i := 22) (by decide +kernel) (by decide +kernel), by decide +kernel, by decide +kernel, by decide +kernel⟩
abbrev mL_isText : Mth := (yL_isText, cL_isText, 9, (some .boolean), 4)
theorem ok_L_isText : MOK mL_isText 5 := ⟨lw_w_at (i := 539) (by decide +kernel) (by decide +kernel), lw_w_at (i := 21) (by decide +kernel) (by decide +kernel), by decide +kernel, by decide +kernel, by decide +kernel⟩
abbrev mX0_learnCosts : Mth := (yX0_learnCosts, cX0_learnCosts, 2, none, 4)
theorem ok_X0_learnCosts : MOK mX0_learnCosts 1 := ⟨lw_w_at (i := 351) (by decide +kernel) (by decide +kernel), lw_w_at (i := 24) (by decide +kernel) (by decide +kernel), by decide +kernel, by decide +kernel, by decide +kernel⟩
abbrev mX0_manyWithWalls : Mth := (yX0_manyWithWalls, cX0_manyWithWalls, 3, (some .int), 4)
theorem ok_X0_manyWithWalls : MOK mX0_manyWithWalls 2 := ⟨lw_w_at (i := 595) (by decide +kernel) (by decide +kernel), lw_w_at (i := 24) (by decide +kernel) (by decide +kernel), by decide +kernel, by decide +kernel, by decide +kernel⟩
abbrev mX2_fillUps : Mth := (yX2_fillUps, cX2_fillUps, 5, none, 4)
theorem ok_X2_fillUps : MOK mX2_fillUps 2 := ⟨lw_w_at (i := 607) (by decide +kernel) (by decide +kernel), lw_w_at (i := 27) (by decide +kernel) (by decide +kernel), by decide +kernel, by decide +kernel, by decide +kernel⟩
abbrev mX4_flipGainingCells : Mth := (yX4_flipGainingCells, cX4_flipGainingCells, 4, (some .int), 4)
theorem ok_X4_flipGainingCells : MOK mX4_flipGainingCells 0 := ⟨lw_w_at (i := 535) (by decide +kernel) (by decide +kernel), lw_w_at (i := 23) (by decide +kernel) (by decide +kernel), by decide +kernel, by decide +kernel, by decide +kernel⟩
abbrev mX4_gainingCells : Mth := (yX4_gainingCells, cX4_gainingCells, 4, (some .int), 4)
theorem ok_X4_gainingCells : MOK mX4_gainingCells 0 := ⟨lw_w_at (i := 438) (by decide +kernel) (by decide +kernel), lw_w_at (i := 23) (by decide +kernel) (by decide +kernel), by decide +kernel, by decide +kernel, by decide +kernel⟩
abbrev mX4_patches : Mth := (yX4_patches, cX4_patches, 8, (some .int), 4)
theorem ok_X4_patches : MOK mX4_patches 0 := ⟨lw_w_at (i := 430) (by decide +kernel) (by decide +kernel), lw_w_at (i := 23) (by decide +kernel) (by decide +kernel), by decide +kernel, by decide +kernel, by decide +kernel⟩
abbrev mX7_cell : Mth := (yX7_cell, cX7_cell, 6, (some .int), 4)
theorem ok_X7_cell : MOK mX7_cell 3 := ⟨lw_w_at (i := 507) (by decide +kernel) (by decide +kernel), lw_w_at (i := 22) (by decide +kernel) (by decide +kernel), by decide +kernel, by decide +kernel, by decide +kernel⟩
abbrev mX7_close : Mth := (yX7_close, cX7_close, 2, (some .int), 4)
theorem ok_X7_close : MOK mX7_close 1 := ⟨lw_w_at (i := 499) (by decide +kernel) (by decide +kernel), lw_w_at (i := 22) (by decide +kernel) (by decide +kernel), by decide +kernel, by decide +kernel, by decide +kernel⟩
abbrev mX7_init : Mth := (yX7_init, cX7_init, 1, none, 4)
theorem ok_X7_init : MOK mX7_init 0 := ⟨lw_w_at (i := 39) (by decide +kernel) (by decide +kernel), lw_w_at (i := 22) (by decide +kernel) (by decide +kernel), by decide +kernel, by decide +kernel, by decide +kernel⟩
abbrev mX7_keep : Mth := (yX7_keep, cX7_keep, 1, (some .int), 4)
theorem ok_X7_keep : MOK mX7_keep 0 := ⟨lw_w_at (i := 575) (by decide +kernel) (by decide +kernel), lw_w_at (i := 22) (by decide +kernel) (by decide +kernel), by decide +kernel, by decide +kernel, by decide +kernel⟩
abbrev mX7_restore : Mth := (yX7_restore, cX7_restore, 1, (some .int), 4)
theorem ok_X7_restore : MOK mX7_restore 0 := ⟨lw_w_at (i := 580) (by decide +kernel) (by decide +kernel), lw_w_at (i := 22) (by decide +kernel) (by decide +kernel), by decide +kernel, by decide +kernel, by decide +kernel⟩
abbrev mX7_turn : Mth := (yX7_turn, cX7_turn, 3, (some .int), 4)
theorem ok_X7_turn : MOK mX7_turn 2 := ⟨lw_w_at (i := 527) (by decide +kernel) (by decide +kernel), lw_w_at (i := 22) (by decide +kernel) (by decide +kernel), by decide +kernel, by decide +kernel, by decide +kernel⟩
abbrev mX7_turnPatch : Mth := (yX7_turnPatch, cX7_turnPatch, 5, (some .int), 4)
theorem ok_X7_turnPatch : MOK mX7_turnPatch 2 := ⟨lw_w_at (i := 485) (by decide +kernel) (by decide +kernel), lw_w_at (i := 22) (by decide +kernel) (by decide +kernel), by decide +kernel, by decide +kernel, by decide +kernel⟩
abbrev mL_isSlot : Mth := (yL_isSlot, cL_isSlot, 3, (some .boolean), 5)
theorem ok_L_isSlot : MOK mL_isSlot 3 := ⟨lw_w_at (i := 571) (by decide +kernel) (by decide +kernel), lw_w_at (i := 21) (by decide +kernel) (by decide +kernel), by decide +kernel, by decide +kernel, by decide +kernel⟩
abbrev mX0_greatestEnergy : Mth := (yX0_greatestEnergy, cX0_greatestEnergy, 2, (some .int), 5)
theorem ok_X0_greatestEnergy : MOK mX0_greatestEnergy 1 := ⟨lw_w_at (i := 415) (by decide +kernel) (by decide +kernel), lw_w_at (i := 24) (by decide +kernel) (by decide +kernel), by decide +kernel, by decide +kernel, by decide +kernel⟩
abbrev mX0_leastEnergy : Mth := (yX0_leastEnergy, cX0_leastEnergy, 2, (some .int), 5)
theorem ok_X0_leastEnergy : MOK mX0_leastEnergy 1 := ⟨lw_w_at (i := 347) (by decide +kernel) (by decide +kernel), lw_w_at (i := 24) (by decide +kernel) (by decide +kernel), by decide +kernel, by decide +kernel, by decide +kernel⟩
abbrev mX0_manyOfLeastWithUps : Mth := (yX0_manyOfLeastWithUps, cX0_manyOfLeastWithUps, 3, (some .int), 5)
theorem ok_X0_manyOfLeastWithUps : MOK mX0_manyOfLeastWithUps 2 := ⟨lw_w_at (i := 603) (by decide +kernel) (by decide +kernel), lw_w_at (i := 24) (by decide +kernel) (by decide +kernel), by decide +kernel, by decide +kernel, by decide +kernel⟩
abbrev mX0_manyWithEnergy : Mth := (yX0_manyWithEnergy, cX0_manyWithEnergy, 3, (some .int), 5)
theorem ok_X0_manyWithEnergy : MOK mX0_manyWithEnergy 2 := ⟨lw_w_at (i := 419) (by decide +kernel) (by decide +kernel), lw_w_at (i := 24) (by decide +kernel) (by decide +kernel), by decide +kernel, by decide +kernel, by decide +kernel⟩
abbrev mX0_sumOfWeights : Mth := (yX0_sumOfWeights, cX0_sumOfWeights, 9, (some .float), 5)
theorem ok_X0_sumOfWeights : MOK mX0_sumOfWeights 3 := ⟨lw_w_at (i := 650) (by decide +kernel) (by decide +kernel), lw_w_at (i := 24) (by decide +kernel) (by decide +kernel), by decide +kernel, by decide +kernel, by decide +kernel⟩
abbrev mX7_sweep : Mth := (yX7_sweep, cX7_sweep, 5, (some .int), 5)
theorem ok_X7_sweep : MOK mX7_sweep 1 := ⟨lw_w_at (i := 531) (by decide +kernel) (by decide +kernel), lw_w_at (i := 22) (by decide +kernel) (by decide +kernel), by decide +kernel, by decide +kernel, by decide +kernel⟩
abbrev mX7_withWalls : Mth := (yX7_withWalls, cX7_withWalls, 2, (some .int), 5)
theorem ok_X7_withWalls : MOK mX7_withWalls 1 := ⟨lw_w_at (i := 591) (by decide +kernel) (by decide +kernel), lw_w_at (i := 22) (by decide +kernel) (by decide +kernel), by decide +kernel, by decide +kernel, by decide +kernel⟩
abbrev mX7_count : Mth := (yX7_count, cX7_count, 2, (some .int), 6)
theorem ok_X7_count : MOK mX7_count 1 := ⟨lw_w_at (i := 284) (by decide +kernel) (by decide +kernel), lw_w_at (i := 22) (by decide +kernel) (by decide +kernel), by decide +kernel, by decide +kernel, by decide +kernel⟩
abbrev mX7_heat : Mth := (yX7_heat, cX7_heat, 5, (some .int), 6)
theorem ok_X7_heat : MOK mX7_heat 2 := ⟨lw_w_at (i := 645) (by decide +kernel) (by decide +kernel), lw_w_at (i := 22) (by decide +kernel) (by decide +kernel), by decide +kernel, by decide +kernel, by decide +kernel⟩
abbrev mX7_withEnergy : Mth := (yX7_withEnergy, cX7_withEnergy, 2, (some .int), 6)
theorem ok_X7_withEnergy : MOK mX7_withEnergy 1 := ⟨lw_w_at (i := 587) (by decide +kernel) (by decide +kernel), lw_w_at (i := 22) (by decide +kernel) (by decide +kernel), by decide +kernel, by decide +kernel, by decide +kernel⟩
abbrev mX7_withUps : Mth := (yX7_withUps, cX7_withUps, 3, (some .int), 6)
theorem ok_X7_withUps : MOK mX7_withUps 2 := ⟨lw_w_at (i := 599) (by decide +kernel) (by decide +kernel), lw_w_at (i := 22) (by decide +kernel) (by decide +kernel), by decide +kernel, by decide +kernel, by decide +kernel⟩
abbrev mL_areAlike : Mth := (yL_areAlike, cL_areAlike, 6, (some .boolean), 7)
theorem ok_L_areAlike : MOK mL_areAlike 2 := ⟨lw_w_at (i := 659) (by decide +kernel) (by decide +kernel), lw_w_at (i := 21) (by decide +kernel) (by decide +kernel), by decide +kernel, by decide +kernel, by decide +kernel⟩
abbrev mL_isAll : Mth := (yL_isAll, cL_isAll, 7, (some .boolean), 7)
theorem ok_L_isAll : MOK mL_isAll 3 := ⟨lw_w_at (i := 583) (by decide +kernel) (by decide +kernel), lw_w_at (i := 21) (by decide +kernel) (by decide +kernel), by decide +kernel, by decide +kernel, by decide +kernel⟩
abbrev mL_isLaid : Mth := (yL_isLaid, cL_isLaid, 6, (some .boolean), 7)
theorem ok_L_isLaid : MOK mL_isLaid 5 := ⟨lw_w_at (i := 457) (by decide +kernel) (by decide +kernel), lw_w_at (i := 21) (by decide +kernel) (by decide +kernel), by decide +kernel, by decide +kernel, by decide +kernel⟩
abbrev mL_isWell : Mth := (yL_isWell, cL_isWell, 17, (some .boolean), 7)
theorem ok_L_isWell : MOK mL_isWell 1 := ⟨lw_w_at (i := 670) (by decide +kernel) (by decide +kernel), lw_w_at (i := 21) (by decide +kernel) (by decide +kernel), by decide +kernel, by decide +kernel, by decide +kernel⟩
abbrev mL_isStep : Mth := (yL_isStep, cL_isStep, 14, (some .boolean), 8)
theorem ok_L_isStep : MOK mL_isStep 4 := ⟨lw_w_at (i := 495) (by decide +kernel) (by decide +kernel), lw_w_at (i := 21) (by decide +kernel) (by decide +kernel), by decide +kernel, by decide +kernel, by decide +kernel⟩
theorem fX0_12 : LkF RX0 12 0 0 := ⟨_, _, _, cls_0, by decide, Or.inl (lw_w_at (w := .fieldLink RX0 12 (TX0 0).1 (TX0 0).2.1 (TX0 0).2.2.1) (i := 178) (by decide +kernel) (by decide +kernel))⟩
theorem fX0_100 : LkF RX0 100 3 4 := ⟨_, _, _, cls_3, by decide, Or.inr ⟨_, lw_x_at (w := .fieldLinkNest RX0 100 (TX3 4).1 (TX3 4).2.1 (TX3 4).2.2.1 "SpinStrips") (i := 121) (by decide +kernel) (by decide +kernel)⟩⟩
theorem gX0_52 : LkP RX0 52 0 9 (.boolean) := ⟨_, _, _, cls_0, by decide, Or.inl (lw_w_at (w := .fieldLink RX0 52 (TX0 9).1 (TX0 9).2.1 (TX0 9).2.2.1) (i := 187) (by decide +kernel) (by decide +kernel)), by decide +kernel, rfl⟩
theorem gX0_56 : LkP RX0 56 0 10 (.boolean) := ⟨_, _, _, cls_0, by decide, Or.inl (lw_w_at (w := .fieldLink RX0 56 (TX0 10).1 (TX0 10).2.1 (TX0 10).2.2.1) (i := 188) (by decide +kernel) (by decide +kernel)), by decide +kernel, rfl⟩
theorem gX0_59 : LkP RX0 59 0 11 (.boolean) := ⟨_, _, _, cls_0, by decide, Or.inl (lw_w_at (w := .fieldLink RX0 59 (TX0 11).1 (TX0 11).2.1 (TX0 11).2.2.1) (i := 189) (by decide +kernel) (by decide +kernel)), by decide +kernel, rfl⟩
theorem fX0_85 : LkF RX0 85 4 0 := ⟨_, _, _, cls_4, by decide, Or.inr ⟨_, lw_x_at (w := .fieldLinkNest RX0 85 (TX4 0).1 (TX4 0).2.1 (TX4 0).2.2.1 "SpinStrips") (i := 57) (by decide +kernel) (by decide +kernel)⟩⟩
theorem fX0_90 : LkF RX0 90 4 1 := ⟨_, _, _, cls_4, by decide, Or.inr ⟨_, lw_x_at (w := .fieldLinkNest RX0 90 (TX4 1).1 (TX4 1).2.1 (TX4 1).2.2.1 "SpinStrips") (i := 61) (by decide +kernel) (by decide +kernel)⟩⟩
theorem fX2_60 : LkF RX2 60 3 0 := ⟨_, _, _, cls_3, by decide, Or.inr ⟨_, lw_x_at (w := .fieldLinkNest RX2 60 (TX3 0).1 (TX3 0).2.1 (TX3 0).2.2.1 "SpinStrips") (i := 113) (by decide +kernel) (by decide +kernel)⟩⟩
theorem fX2_73 : LkF RX2 73 3 7 := ⟨_, _, _, cls_3, by decide, Or.inr ⟨_, lw_x_at (w := .fieldLinkNest RX2 73 (TX3 7).1 (TX3 7).2.1 (TX3 7).2.2.1 "SpinStrips") (i := 129) (by decide +kernel) (by decide +kernel)⟩⟩
theorem fX2_70 : LkF RX2 70 3 6 := ⟨_, _, _, cls_3, by decide, Or.inr ⟨_, lw_x_at (w := .fieldLinkNest RX2 70 (TX3 6).1 (TX3 6).2.1 (TX3 6).2.2.1 "SpinStrips") (i := 126) (by decide +kernel) (by decide +kernel)⟩⟩
theorem fX2_11 : LkF RX2 11 2 0 := ⟨_, _, _, cls_2, by decide, Or.inl (lw_w_at (w := .fieldLink RX2 11 (TX2 0).1 (TX2 0).2.1 (TX2 0).2.2.1) (i := 168) (by decide +kernel) (by decide +kernel))⟩
theorem fX3_21 : LkF RX3 21 3 3 := ⟨_, _, _, cls_3, by decide, Or.inl (lw_w_at (w := .fieldLink RX3 21 (TX3 3).1 (TX3 3).2.1 (TX3 3).2.2.1) (i := 118) (by decide +kernel) (by decide +kernel))⟩
theorem fX3_37 : LkF RX3 37 3 7 := ⟨_, _, _, cls_3, by decide, Or.inl (lw_w_at (w := .fieldLink RX3 37 (TX3 7).1 (TX3 7).2.1 (TX3 7).2.2.1) (i := 127) (by decide +kernel) (by decide +kernel))⟩
theorem fX4_36 : LkF RX4 36 4 6 := ⟨_, _, _, cls_4, by decide, Or.inl (lw_w_at (w := .fieldLink RX4 36 (TX4 6).1 (TX4 6).2.1 (TX4 6).2.2.1) (i := 72) (by decide +kernel) (by decide +kernel))⟩
theorem fX4_32 : LkF RX4 32 4 5 := ⟨_, _, _, cls_4, by decide, Or.inl (lw_w_at (w := .fieldLink RX4 32 (TX4 5).1 (TX4 5).2.1 (TX4 5).2.2.1) (i := 71) (by decide +kernel) (by decide +kernel))⟩
theorem fX4_18 : LkF RX4 18 4 2 := ⟨_, _, _, cls_4, by decide, Or.inl (lw_w_at (w := .fieldLink RX4 18 (TX4 2).1 (TX4 2).2.1 (TX4 2).2.2.1) (i := 63) (by decide +kernel) (by decide +kernel))⟩
theorem fX4_9 : LkF RX4 9 4 0 := ⟨_, _, _, cls_4, by decide, Or.inl (lw_w_at (w := .fieldLink RX4 9 (TX4 0).1 (TX4 0).2.1 (TX4 0).2.2.1) (i := 55) (by decide +kernel) (by decide +kernel))⟩
theorem fX4_15 : LkF RX4 15 4 1 := ⟨_, _, _, cls_4, by decide, Or.inl (lw_w_at (w := .fieldLink RX4 15 (TX4 1).1 (TX4 1).2.1 (TX4 1).2.2.1) (i := 59) (by decide +kernel) (by decide +kernel))⟩
theorem fX6_15 : LkF RX6 15 6 1 := ⟨_, _, _, cls_6, by decide, Or.inl (lw_w_at (w := .fieldLink RX6 15 (TX6 1).1 (TX6 1).2.1 (TX6 1).2.2.1) (i := 242) (by decide +kernel) (by decide +kernel))⟩
theorem fX6_9 : LkF RX6 9 6 0 := ⟨_, _, _, cls_6, by decide, Or.inl (lw_w_at (w := .fieldLink RX6 9 (TX6 0).1 (TX6 0).2.1 (TX6 0).2.2.1) (i := 241) (by decide +kernel) (by decide +kernel))⟩
theorem gX6_15 : LkP RX6 15 6 1 (.int) := ⟨_, _, _, cls_6, by decide, Or.inl (lw_w_at (w := .fieldLink RX6 15 (TX6 1).1 (TX6 1).2.1 (TX6 1).2.2.1) (i := 242) (by decide +kernel) (by decide +kernel)), by decide +kernel, rfl⟩
theorem fX6_19 : LkF RX6 19 6 2 := ⟨_, _, _, cls_6, by decide, Or.inl (lw_w_at (w := .fieldLink RX6 19 (TX6 2).1 (TX6 2).2.1 (TX6 2).2.2.1) (i := 244) (by decide +kernel) (by decide +kernel))⟩
theorem fX6_22 : LkF RX6 22 6 3 := ⟨_, _, _, cls_6, by decide, Or.inl (lw_w_at (w := .fieldLink RX6 22 (TX6 3).1 (TX6 3).2.1 (TX6 3).2.2.1) (i := 246) (by decide +kernel) (by decide +kernel))⟩
theorem fX7_40 : LkF RX7 40 7 5 := ⟨_, _, _, cls_7, by decide, Or.inl (lw_w_at (w := .fieldLink RX7 40 (TX7 5).1 (TX7 5).2.1 (TX7 5).2.2.1) (i := 267) (by decide +kernel) (by decide +kernel))⟩
theorem fX7_127 : LkF RX7 127 6 1 := ⟨_, _, _, cls_6, by decide, Or.inr ⟨_, lw_x_at (w := .fieldLinkNest RX7 127 (TX6 1).1 (TX6 1).2.1 (TX6 1).2.2.1 "SpinStrips") (i := 243) (by decide +kernel) (by decide +kernel)⟩⟩
theorem gX7_127 : LkP RX7 127 6 1 (.int) := ⟨_, _, _, cls_6, by decide, Or.inr ⟨_, lw_x_at (w := .fieldLinkNest RX7 127 (TX6 1).1 (TX6 1).2.1 (TX6 1).2.2.1 "SpinStrips") (i := 243) (by decide +kernel) (by decide +kernel)⟩, by decide +kernel, rfl⟩
theorem fX0_35 : LkF RX0 35 0 4 := ⟨_, _, _, cls_0, by decide, Or.inl (lw_w_at (w := .fieldLink RX0 35 (TX0 4).1 (TX0 4).2.1 (TX0 4).2.2.1) (i := 182) (by decide +kernel) (by decide +kernel))⟩
theorem kX0_78 : LkS RX0 78 mX0_at 2 := ⟨ok_X0_at, lw_w_at (i := 424) (by decide +kernel) (by decide +kernel), lw_w_at (i := 425) (by decide +kernel) (by decide +kernel)⟩
theorem kX2_3 : Cond.methodLink RX2 3 Lib.objectInit ∈ lw_w := lw_w_at (i := 166) (by decide +kernel) (by decide +kernel)
theorem gX2_11 : LkQ RX2 11 2 0 (.array (.array .int)) := ⟨_, _, _, cls_2, by decide, lw_w_at (w := .fieldLink RX2 11 (TX2 0).1 (TX2 0).2.1 (TX2 0).2.2.1) (i := 168) (by decide +kernel) (by decide +kernel), by decide +kernel, rfl, rfl⟩
theorem gX2_16 : LkP RX2 16 2 1 (.array (.array .int)) := ⟨_, _, _, cls_2, by decide, Or.inl (lw_w_at (w := .fieldLink RX2 16 (TX2 1).1 (TX2 1).2.1 (TX2 1).2.2.1) (i := 169) (by decide +kernel) (by decide +kernel)), by decide +kernel, rfl⟩
theorem gX2_19 : LkP RX2 19 2 2 (.array (.array .int)) := ⟨_, _, _, cls_2, by decide, Or.inl (lw_w_at (w := .fieldLink RX2 19 (TX2 2).1 (TX2 2).2.1 (TX2 2).2.2.1) (i := 170) (by decide +kernel) (by decide +kernel)), by decide +kernel, rfl⟩
theorem kX2_66 : LkV RX2 66 mX2_costOfNext 4 := ⟨ok_X2_costOfNext, lw_w_at (i := 618) (by decide +kernel) (by decide +kernel), lw_w_at (i := 620) (by decide +kernel) (by decide +kernel), lw_w_at (i := 17) (by decide +kernel) (by decide +kernel)⟩
theorem fX2_26 : LkF RX2 26 3 2 := ⟨_, _, _, cls_3, by decide, Or.inr ⟨_, lw_x_at (w := .fieldLinkNest RX2 26 (TX3 2).1 (TX3 2).2.1 (TX3 2).2.2.1 "SpinStrips") (i := 117) (by decide +kernel) (by decide +kernel)⟩⟩
theorem kX2_63 : LkV RX2 63 mX3_seam 2 := ⟨ok_X3_seam, lw_w_at (i := 617) (by decide +kernel) (by decide +kernel), lw_w_at (i := 405) (by decide +kernel) (by decide +kernel), lw_w_at (i := 406) (by decide +kernel) (by decide +kernel)⟩
theorem kX2_54 : LkS RX2 54 mJ9_min_7cf53 2 := ⟨ok_J9_min_7cf53, lw_w_at (i := 622) (by decide +kernel) (by decide +kernel), lw_w_at (i := 623) (by decide +kernel) (by decide +kernel)⟩
theorem kX3_3 : Cond.methodLink RX3 3 Lib.objectInit ∈ lw_w := lw_w_at (i := 108) (by decide +kernel) (by decide +kernel)
theorem gX3_9 : LkP RX3 9 3 0 (.int) := ⟨_, _, _, cls_3, by decide, Or.inl (lw_w_at (w := .fieldLink RX3 9 (TX3 0).1 (TX3 0).2.1 (TX3 0).2.2.1) (i := 111) (by decide +kernel) (by decide +kernel)), by decide +kernel, rfl⟩
theorem gX3_15 : LkP RX3 15 3 1 (.int) := ⟨_, _, _, cls_3, by decide, Or.inl (lw_w_at (w := .fieldLink RX3 15 (TX3 1).1 (TX3 1).2.1 (TX3 1).2.2.1) (i := 114) (by decide +kernel) (by decide +kernel)), by decide +kernel, rfl⟩
theorem gX3_18 : LkP RX3 18 3 2 (.int) := ⟨_, _, _, cls_3, by decide, Or.inl (lw_w_at (w := .fieldLink RX3 18 (TX3 2).1 (TX3 2).2.1 (TX3 2).2.2.1) (i := 115) (by decide +kernel) (by decide +kernel)), by decide +kernel, rfl⟩
theorem gX3_21 : LkP RX3 21 3 3 (.boolean) := ⟨_, _, _, cls_3, by decide, Or.inl (lw_w_at (w := .fieldLink RX3 21 (TX3 3).1 (TX3 3).2.1 (TX3 3).2.2.1) (i := 118) (by decide +kernel) (by decide +kernel)), by decide +kernel, rfl⟩
theorem gX3_25 : LkP RX3 25 3 4 (.int) := ⟨_, _, _, cls_3, by decide, Or.inl (lw_w_at (w := .fieldLink RX3 25 (TX3 4).1 (TX3 4).2.1 (TX3 4).2.2.1) (i := 120) (by decide +kernel) (by decide +kernel)), by decide +kernel, rfl⟩
theorem gX3_28 : LkQ RX3 28 3 5 (.array .int) := ⟨_, _, _, cls_3, by decide, lw_w_at (w := .fieldLink RX3 28 (TX3 5).1 (TX3 5).2.1 (TX3 5).2.2.1) (i := 122) (by decide +kernel) (by decide +kernel), by decide +kernel, rfl, rfl⟩
theorem gX3_34 : LkQ RX3 34 3 6 (.array (.array .int)) := ⟨_, _, _, cls_3, by decide, lw_w_at (w := .fieldLink RX3 34 (TX3 6).1 (TX3 6).2.1 (TX3 6).2.2.1) (i := 124) (by decide +kernel) (by decide +kernel), by decide +kernel, rfl, rfl⟩
theorem gX3_37 : LkQ RX3 37 3 7 (.array (.array .int)) := ⟨_, _, _, cls_3, by decide, lw_w_at (w := .fieldLink RX3 37 (TX3 7).1 (TX3 7).2.1 (TX3 7).2.2.1) (i := 127) (by decide +kernel) (by decide +kernel), by decide +kernel, rfl, rfl⟩
theorem fX3_15 : LkF RX3 15 3 1 := ⟨_, _, _, cls_3, by decide, Or.inl (lw_w_at (w := .fieldLink RX3 15 (TX3 1).1 (TX3 1).2.1 (TX3 1).2.2.1) (i := 114) (by decide +kernel) (by decide +kernel))⟩
theorem fX3_18 : LkF RX3 18 3 2 := ⟨_, _, _, cls_3, by decide, Or.inl (lw_w_at (w := .fieldLink RX3 18 (TX3 2).1 (TX3 2).2.1 (TX3 2).2.2.1) (i := 115) (by decide +kernel) (by decide +kernel))⟩
theorem kX3_70 : LkS RX3 70 mJ6_bitCount_0f7a4 1 := ⟨ok_J6_bitCount_0f7a4, lw_w_at (i := 361) (by decide +kernel) (by decide +kernel), lw_w_at (i := 362) (by decide +kernel) (by decide +kernel)⟩
theorem fX3_9 : LkF RX3 9 3 0 := ⟨_, _, _, cls_3, by decide, Or.inl (lw_w_at (w := .fieldLink RX3 9 (TX3 0).1 (TX3 0).2.1 (TX3 0).2.2.1) (i := 111) (by decide +kernel) (by decide +kernel))⟩
theorem fX3_34 : LkF RX3 34 3 6 := ⟨_, _, _, cls_3, by decide, Or.inl (lw_w_at (w := .fieldLink RX3 34 (TX3 6).1 (TX3 6).2.1 (TX3 6).2.2.1) (i := 124) (by decide +kernel) (by decide +kernel))⟩
theorem kX3_75 : LkS RX3 75 mX3_price 3 := ⟨ok_X3_price, lw_w_at (i := 367) (by decide +kernel) (by decide +kernel), lw_w_at (i := 368) (by decide +kernel) (by decide +kernel)⟩
theorem kX4_46 : LkS RX4 46 mX4_place 2 := ⟨ok_X4_place, lw_w_at (i := 52) (by decide +kernel) (by decide +kernel), lw_w_at (i := 53) (by decide +kernel) (by decide +kernel)⟩
theorem kX4_75 : LkV RX4 75 mX4_closed 0 := ⟨ok_X4_closed, lw_w_at (i := 304) (by decide +kernel) (by decide +kernel), lw_w_at (i := 305) (by decide +kernel) (by decide +kernel), lw_w_at (i := 306) (by decide +kernel) (by decide +kernel)⟩
theorem gX4_9 : LkP RX4 9 4 0 (.int) := ⟨_, _, _, cls_4, by decide, Or.inl (lw_w_at (w := .fieldLink RX4 9 (TX4 0).1 (TX4 0).2.1 (TX4 0).2.2.1) (i := 55) (by decide +kernel) (by decide +kernel)), by decide +kernel, rfl⟩
theorem gX4_15 : LkP RX4 15 4 1 (.int) := ⟨_, _, _, cls_4, by decide, Or.inl (lw_w_at (w := .fieldLink RX4 15 (TX4 1).1 (TX4 1).2.1 (TX4 1).2.2.1) (i := 59) (by decide +kernel) (by decide +kernel)), by decide +kernel, rfl⟩
theorem gX4_18 : LkP RX4 18 4 2 (.boolean) := ⟨_, _, _, cls_4, by decide, Or.inl (lw_w_at (w := .fieldLink RX4 18 (TX4 2).1 (TX4 2).2.1 (TX4 2).2.2.1) (i := 63) (by decide +kernel) (by decide +kernel)), by decide +kernel, rfl⟩
theorem fX4_22 : LkF RX4 22 4 3 := ⟨_, _, _, cls_4, by decide, Or.inl (lw_w_at (w := .fieldLink RX4 22 (TX4 3).1 (TX4 3).2.1 (TX4 3).2.2.1) (i := 65) (by decide +kernel) (by decide +kernel))⟩
theorem gX4_22 : LkP RX4 22 4 3 (.int) := ⟨_, _, _, cls_4, by decide, Or.inl (lw_w_at (w := .fieldLink RX4 22 (TX4 3).1 (TX4 3).2.1 (TX4 3).2.2.1) (i := 65) (by decide +kernel) (by decide +kernel)), by decide +kernel, rfl⟩
theorem fX4_25 : LkF RX4 25 4 4 := ⟨_, _, _, cls_4, by decide, Or.inl (lw_w_at (w := .fieldLink RX4 25 (TX4 4).1 (TX4 4).2.1 (TX4 4).2.2.1) (i := 68) (by decide +kernel) (by decide +kernel))⟩
theorem gX4_25 : LkP RX4 25 4 4 (.int) := ⟨_, _, _, cls_4, by decide, Or.inl (lw_w_at (w := .fieldLink RX4 25 (TX4 4).1 (TX4 4).2.1 (TX4 4).2.2.1) (i := 68) (by decide +kernel) (by decide +kernel)), by decide +kernel, rfl⟩
theorem gX4_32 : LkP RX4 32 4 5 (.long) := ⟨_, _, _, cls_4, by decide, Or.inl (lw_w_at (w := .fieldLink RX4 32 (TX4 5).1 (TX4 5).2.1 (TX4 5).2.2.1) (i := 71) (by decide +kernel) (by decide +kernel)), by decide +kernel, rfl⟩
theorem gX4_36 : LkP RX4 36 4 6 (.long) := ⟨_, _, _, cls_4, by decide, Or.inl (lw_w_at (w := .fieldLink RX4 36 (TX4 6).1 (TX4 6).2.1 (TX4 6).2.2.1) (i := 72) (by decide +kernel) (by decide +kernel)), by decide +kernel, rfl⟩
theorem fX4_39 : LkF RX4 39 4 7 := ⟨_, _, _, cls_4, by decide, Or.inl (lw_w_at (w := .fieldLink RX4 39 (TX4 7).1 (TX4 7).2.1 (TX4 7).2.2.1) (i := 74) (by decide +kernel) (by decide +kernel))⟩
theorem gX4_39 : LkP RX4 39 4 7 (.int) := ⟨_, _, _, cls_4, by decide, Or.inl (lw_w_at (w := .fieldLink RX4 39 (TX4 7).1 (TX4 7).2.1 (TX4 7).2.2.1) (i := 74) (by decide +kernel) (by decide +kernel)), by decide +kernel, rfl⟩
theorem fX4_42 : LkF RX4 42 4 8 := ⟨_, _, _, cls_4, by decide, Or.inl (lw_w_at (w := .fieldLink RX4 42 (TX4 8).1 (TX4 8).2.1 (TX4 8).2.2.1) (i := 76) (by decide +kernel) (by decide +kernel))⟩
theorem kX4_50 : Cond.methodLink RX4 50 ⟨"java/lang/System", "arraycopy", "(Ljava/lang/Object;ILjava/lang/Object;II)V"⟩ ∈ lw_w := lw_w_at (i := 470) (by decide +kernel) (by decide +kernel)
theorem kX4_65 : LkV RX4 65 mX4_has 2 := ⟨ok_X4_has, lw_w_at (i := 326) (by decide +kernel) (by decide +kernel), lw_w_at (i := 327) (by decide +kernel) (by decide +kernel), lw_w_at (i := 328) (by decide +kernel) (by decide +kernel)⟩
theorem kX4_69 : LkS RX4 69 mJ13_bitCount_95d88 1 := ⟨ok_J13_bitCount_95d88, lw_w_at (i := 312) (by decide +kernel) (by decide +kernel), lw_w_at (i := 313) (by decide +kernel) (by decide +kernel)⟩
theorem fX5_31 : LkF RX5 31 3 2 := ⟨_, _, _, cls_3, by decide, Or.inr ⟨_, lw_x_at (w := .fieldLinkNest RX5 31 (TX3 2).1 (TX3 2).2.1 (TX3 2).2.2.1 "SpinStrips") (i := 116) (by decide +kernel) (by decide +kernel)⟩⟩
theorem fX5_16 : LkF RX5 16 5 1 := ⟨_, _, _, cls_5, by decide, Or.inl (lw_w_at (w := .fieldLink RX5 16 (TX5 1).1 (TX5 1).2.1 (TX5 1).2.2.1) (i := 155) (by decide +kernel) (by decide +kernel))⟩
theorem kX5_19 : LkS RX5 19 mJ7_fill_53178 2 := ⟨ok_J7_fill_53178, lw_w_at (i := 386) (by decide +kernel) (by decide +kernel), lw_w_at (i := 387) (by decide +kernel) (by decide +kernel)⟩
theorem fX5_65 : LkF RX5 65 3 7 := ⟨_, _, _, cls_3, by decide, Or.inr ⟨_, lw_x_at (w := .fieldLinkNest RX5 65 (TX3 7).1 (TX3 7).2.1 (TX3 7).2.2.1 "SpinStrips") (i := 128) (by decide +kernel) (by decide +kernel)⟩⟩
theorem fX5_62 : LkF RX5 62 3 6 := ⟨_, _, _, cls_3, by decide, Or.inr ⟨_, lw_x_at (w := .fieldLinkNest RX5 62 (TX3 6).1 (TX3 6).2.1 (TX3 6).2.2.1 "SpinStrips") (i := 125) (by decide +kernel) (by decide +kernel)⟩⟩
theorem fX5_11 : LkF RX5 11 5 0 := ⟨_, _, _, cls_5, by decide, Or.inl (lw_w_at (w := .fieldLink RX5 11 (TX5 0).1 (TX5 0).2.1 (TX5 0).2.2.1) (i := 154) (by decide +kernel) (by decide +kernel))⟩
theorem fX5_50 : LkF RX5 50 3 5 := ⟨_, _, _, cls_3, by decide, Or.inr ⟨_, lw_x_at (w := .fieldLinkNest RX5 50 (TX3 5).1 (TX3 5).2.1 (TX3 5).2.2.1 "SpinStrips") (i := 123) (by decide +kernel) (by decide +kernel)⟩⟩
theorem kX5_58 : LkS RX5 58 mX5_addShifted 4 := ⟨ok_X5_addShifted, lw_w_at (i := 401) (by decide +kernel) (by decide +kernel), lw_w_at (i := 402) (by decide +kernel) (by decide +kernel)⟩
theorem gX5_11 : LkP RX5 11 5 0 (.array (.array .int)) := ⟨_, _, _, cls_5, by decide, Or.inl (lw_w_at (w := .fieldLink RX5 11 (TX5 0).1 (TX5 0).2.1 (TX5 0).2.2.1) (i := 154) (by decide +kernel) (by decide +kernel)), by decide +kernel, rfl⟩
theorem gX5_16 : LkP RX5 16 5 1 (.array (.array .int)) := ⟨_, _, _, cls_5, by decide, Or.inl (lw_w_at (w := .fieldLink RX5 16 (TX5 1).1 (TX5 1).2.1 (TX5 1).2.2.1) (i := 155) (by decide +kernel) (by decide +kernel)), by decide +kernel, rfl⟩
theorem kX5_3 : Cond.methodLink RX5 3 Lib.objectInit ∈ lw_w := lw_w_at (i := 152) (by decide +kernel) (by decide +kernel)
theorem kX6_3 : Cond.methodLink RX6 3 Lib.objectInit ∈ lw_w := lw_w_at (i := 240) (by decide +kernel) (by decide +kernel)
theorem gX6_9 : LkQ RX6 9 6 0 (.array .char) := ⟨_, _, _, cls_6, by decide, lw_w_at (w := .fieldLink RX6 9 (TX6 0).1 (TX6 0).2.1 (TX6 0).2.2.1) (i := 241) (by decide +kernel) (by decide +kernel), by decide +kernel, rfl, rfl⟩
theorem gX6_19 : LkP RX6 19 6 2 (.int) := ⟨_, _, _, cls_6, by decide, Or.inl (lw_w_at (w := .fieldLink RX6 19 (TX6 2).1 (TX6 2).2.1 (TX6 2).2.2.1) (i := 244) (by decide +kernel) (by decide +kernel)), by decide +kernel, rfl⟩
theorem gX6_22 : LkP RX6 22 6 3 (.int) := ⟨_, _, _, cls_6, by decide, Or.inl (lw_w_at (w := .fieldLink RX6 22 (TX6 3).1 (TX6 3).2.1 (TX6 3).2.2.1) (i := 246) (by decide +kernel) (by decide +kernel)), by decide +kernel, rfl⟩
theorem gX6_25 : LkP RX6 25 6 4 (.long) := ⟨_, _, _, cls_6, by decide, Or.inl (lw_w_at (w := .fieldLink RX6 25 (TX6 4).1 (TX6 4).2.1 (TX6 4).2.2.1) (i := 248) (by decide +kernel) (by decide +kernel)), by decide +kernel, rfl⟩
theorem kX7_123 : LkV RX7 123 mX6_append 1 := ⟨ok_X6_append, lw_w_at (i := 548) (by decide +kernel) (by decide +kernel), lw_w_at (i := 549) (by decide +kernel) (by decide +kernel), lw_w_at (i := 550) (by decide +kernel) (by decide +kernel)⟩
theorem kX0_3 : Cond.methodLink RX0 3 Lib.objectInit ∈ lw_w := lw_w_at (i := 102) (by decide +kernel) (by decide +kernel)
theorem kX0_11 : LkI RX0 11 mX3_init 0 := ⟨ok_X3_init, Or.inr ⟨_, lw_x_at (w := .methodLinkNest RX0 11 yX3_init "SpinStrips") (i := 105) (by decide +kernel) (by decide +kernel)⟩, lw_w_at (i := 106) (by decide +kernel) (by decide +kernel), rfl, rfl⟩
theorem gX0_12 : LkQ RX0 12 0 0 (.object "SpinStrips$Prices") := ⟨_, _, _, cls_0, by decide, lw_w_at (w := .fieldLink RX0 12 (TX0 0).1 (TX0 0).2.1 (TX0 0).2.2.1) (i := 178) (by decide +kernel) (by decide +kernel), by decide +kernel, rfl, rfl⟩
theorem gX0_18 : LkQ RX0 18 0 1 (.object "SpinStrips$Prices") := ⟨_, _, _, cls_0, by decide, lw_w_at (w := .fieldLink RX0 18 (TX0 1).1 (TX0 1).2.1 (TX0 1).2.2.1) (i := 179) (by decide +kernel) (by decide +kernel), by decide +kernel, rfl, rfl⟩
theorem kX0_23 : LkI RX0 23 mX5_init 0 := ⟨ok_X5_init, Or.inr ⟨_, lw_x_at (w := .methodLinkNest RX0 23 yX5_init "SpinStrips") (i := 149) (by decide +kernel) (by decide +kernel)⟩, lw_w_at (i := 150) (by decide +kernel) (by decide +kernel), rfl, rfl⟩
theorem gX0_24 : LkQ RX0 24 0 2 (.object "SpinStrips$Sums") := ⟨_, _, _, cls_0, by decide, lw_w_at (w := .fieldLink RX0 24 (TX0 2).1 (TX0 2).2.1 (TX0 2).2.2.1) (i := 180) (by decide +kernel) (by decide +kernel), by decide +kernel, rfl, rfl⟩
theorem kX0_30 : LkI RX0 30 mX2_init 0 := ⟨ok_X2_init, Or.inr ⟨_, lw_x_at (w := .methodLinkNest RX0 30 yX2_init "SpinStrips") (i := 163) (by decide +kernel) (by decide +kernel)⟩, lw_w_at (i := 164) (by decide +kernel) (by decide +kernel), rfl, rfl⟩
theorem gX0_31 : LkQ RX0 31 0 3 (.object "SpinStrips$Least") := ⟨_, _, _, cls_0, by decide, lw_w_at (w := .fieldLink RX0 31 (TX0 3).1 (TX0 3).2.1 (TX0 3).2.2.1) (i := 181) (by decide +kernel) (by decide +kernel), by decide +kernel, rfl, rfl⟩
theorem gX0_35 : LkQ RX0 35 0 4 (.array .int) := ⟨_, _, _, cls_0, by decide, lw_w_at (w := .fieldLink RX0 35 (TX0 4).1 (TX0 4).2.1 (TX0 4).2.2.1) (i := 182) (by decide +kernel) (by decide +kernel), by decide +kernel, rfl, rfl⟩
theorem gX0_39 : LkQ RX0 39 0 5 (.array .int) := ⟨_, _, _, cls_0, by decide, lw_w_at (w := .fieldLink RX0 39 (TX0 5).1 (TX0 5).2.1 (TX0 5).2.2.1) (i := 183) (by decide +kernel) (by decide +kernel), by decide +kernel, rfl, rfl⟩
theorem gX0_42 : LkQ RX0 42 0 6 (.array .int) := ⟨_, _, _, cls_0, by decide, lw_w_at (w := .fieldLink RX0 42 (TX0 6).1 (TX0 6).2.1 (TX0 6).2.2.1) (i := 184) (by decide +kernel) (by decide +kernel), by decide +kernel, rfl, rfl⟩
theorem gX0_45 : LkP RX0 45 0 7 (.int) := ⟨_, _, _, cls_0, by decide, Or.inl (lw_w_at (w := .fieldLink RX0 45 (TX0 7).1 (TX0 7).2.1 (TX0 7).2.2.1) (i := 185) (by decide +kernel) (by decide +kernel)), by decide +kernel, rfl⟩
theorem gX0_49 : LkP RX0 49 0 8 (.int) := ⟨_, _, _, cls_0, by decide, Or.inl (lw_w_at (w := .fieldLink RX0 49 (TX0 8).1 (TX0 8).2.1 (TX0 8).2.2.1) (i := 186) (by decide +kernel) (by decide +kernel)), by decide +kernel, rfl⟩
theorem fX1_21 : LkF RX1 21 1 2 := ⟨_, _, _, cls_1, by decide, Or.inl (lw_w_at (w := .fieldLink RX1 21 (TX1 2).1 (TX1 2).2.1 (TX1 2).2.2.1) (i := 226) (by decide +kernel) (by decide +kernel))⟩
theorem fX1_17 : LkF RX1 17 1 1 := ⟨_, _, _, cls_1, by decide, Or.inl (lw_w_at (w := .fieldLink RX1 17 (TX1 1).1 (TX1 1).2.1 (TX1 1).2.2.1) (i := 225) (by decide +kernel) (by decide +kernel))⟩
theorem gX1_17 : LkP RX1 17 1 1 (.int) := ⟨_, _, _, cls_1, by decide, Or.inl (lw_w_at (w := .fieldLink RX1 17 (TX1 1).1 (TX1 1).2.1 (TX1 1).2.2.1) (i := 225) (by decide +kernel) (by decide +kernel)), by decide +kernel, rfl⟩
theorem gX1_21 : LkP RX1 21 1 2 (.int) := ⟨_, _, _, cls_1, by decide, Or.inl (lw_w_at (w := .fieldLink RX1 21 (TX1 2).1 (TX1 2).2.1 (TX1 2).2.2.1) (i := 226) (by decide +kernel) (by decide +kernel)), by decide +kernel, rfl⟩
theorem fX1_11 : LkF RX1 11 1 0 := ⟨_, _, _, cls_1, by decide, Or.inl (lw_w_at (w := .fieldLink RX1 11 (TX1 0).1 (TX1 0).2.1 (TX1 0).2.2.1) (i := 224) (by decide +kernel) (by decide +kernel))⟩
theorem kX1_25 : LkV RX1 25 mX4_copyFrom 1 := ⟨ok_X4_copyFrom, lw_w_at (i := 466) (by decide +kernel) (by decide +kernel), lw_w_at (i := 467) (by decide +kernel) (by decide +kernel), lw_w_at (i := 468) (by decide +kernel) (by decide +kernel)⟩
theorem fX2_19 : LkF RX2 19 2 2 := ⟨_, _, _, cls_2, by decide, Or.inl (lw_w_at (w := .fieldLink RX2 19 (TX2 2).1 (TX2 2).2.1 (TX2 2).2.2.1) (i := 170) (by decide +kernel) (by decide +kernel))⟩
theorem kX2_44 : LkS RX2 44 mJ7_fill_53178 2 := ⟨ok_J7_fill_53178, lw_w_at (i := 608) (by decide +kernel) (by decide +kernel), lw_w_at (i := 387) (by decide +kernel) (by decide +kernel)⟩
theorem kX2_85 : LkV RX2 85 mX2_isLeast 4 := ⟨ok_X2_isLeast, lw_w_at (i := 634) (by decide +kernel) (by decide +kernel), lw_w_at (i := 636) (by decide +kernel) (by decide +kernel), lw_w_at (i := 20) (by decide +kernel) (by decide +kernel)⟩
theorem fX2_16 : LkF RX2 16 2 1 := ⟨_, _, _, cls_2, by decide, Or.inl (lw_w_at (w := .fieldLink RX2 16 (TX2 1).1 (TX2 1).2.1 (TX2 1).2.2.1) (i := 169) (by decide +kernel) (by decide +kernel))⟩
theorem kX2_89 : LkS RX2 89 mJ6_bitCount_0f7a4 1 := ⟨ok_J6_bitCount_0f7a4, lw_w_at (i := 629) (by decide +kernel) (by decide +kernel), lw_w_at (i := 362) (by decide +kernel) (by decide +kernel)⟩
theorem kX2_98 : LkS RX2 98 mX5_addShifted 4 := ⟨ok_X5_addShifted, lw_w_at (i := 638) (by decide +kernel) (by decide +kernel), lw_w_at (i := 402) (by decide +kernel) (by decide +kernel)⟩
theorem kX2_36 : LkV RX2 36 mX2_lookBehind 2 := ⟨ok_X2_lookBehind, lw_w_at (i := 613) (by decide +kernel) (by decide +kernel), lw_w_at (i := 615) (by decide +kernel) (by decide +kernel), lw_w_at (i := 16) (by decide +kernel) (by decide +kernel)⟩
theorem kX3_79 : LkV RX3 79 mX4_fieldAt 2 := ⟨ok_X4_fieldAt, lw_w_at (i := 381) (by decide +kernel) (by decide +kernel), lw_w_at (i := 323) (by decide +kernel) (by decide +kernel), lw_w_at (i := 324) (by decide +kernel) (by decide +kernel)⟩
theorem kX3_60 : LkS RX3 60 mJ9_abs_0f7a4 1 := ⟨ok_J9_abs_0f7a4, lw_w_at (i := 374) (by decide +kernel) (by decide +kernel), lw_w_at (i := 375) (by decide +kernel) (by decide +kernel)⟩
theorem kX4_79 : LkV RX4 79 mX4_besideAlong 1 := ⟨ok_X4_besideAlong, lw_w_at (i := 300) (by decide +kernel) (by decide +kernel), lw_w_at (i := 302) (by decide +kernel) (by decide +kernel), lw_w_at (i := 1) (by decide +kernel) (by decide +kernel)⟩
theorem kX4_83 : LkV RX4 83 mX4_besideAcross 1 := ⟨ok_X4_besideAcross, lw_w_at (i := 318) (by decide +kernel) (by decide +kernel), lw_w_at (i := 320) (by decide +kernel) (by decide +kernel), lw_w_at (i := 3) (by decide +kernel) (by decide +kernel)⟩
theorem kX4_3 : Cond.methodLink RX4 3 Lib.objectInit ∈ lw_w := lw_w_at (i := 48) (by decide +kernel) (by decide +kernel)
theorem kX4_28 : LkS RX4 28 mX4_allCells 2 := ⟨ok_X4_allCells, lw_w_at (i := 49) (by decide +kernel) (by decide +kernel), lw_w_at (i := 50) (by decide +kernel) (by decide +kernel)⟩
theorem gX4_42 : LkQ RX4 42 4 8 (.array .int) := ⟨_, _, _, cls_4, by decide, lw_w_at (w := .fieldLink RX4 42 (TX4 8).1 (TX4 8).2.1 (TX4 8).2.2.1) (i := 76) (by decide +kernel) (by decide +kernel), by decide +kernel, rfl, rfl⟩
theorem kX4_88 : LkV RX4 88 mX4_spinSum 1 := ⟨ok_X4_spinSum, lw_w_at (i := 308) (by decide +kernel) (by decide +kernel), lw_w_at (i := 310) (by decide +kernel) (by decide +kernel), lw_w_at (i := 2) (by decide +kernel) (by decide +kernel)⟩
theorem kX4_56 : LkS RX4 56 mJ7_fill_53178 2 := ⟨ok_J7_fill_53178, lw_w_at (i := 477) (by decide +kernel) (by decide +kernel), lw_w_at (i := 387) (by decide +kernel) (by decide +kernel)⟩
theorem kX4_62 : LkS RX4 62 mX4_bit 2 := ⟨ok_X4_bit, lw_w_at (i := 293) (by decide +kernel) (by decide +kernel), lw_w_at (i := 294) (by decide +kernel) (by decide +kernel)⟩
theorem kX5_39 : LkV RX5 39 mX5_begin 3 := ⟨ok_X5_begin, lw_w_at (i := 393) (by decide +kernel) (by decide +kernel), lw_w_at (i := 395) (by decide +kernel) (by decide +kernel), lw_w_at (i := 9) (by decide +kernel) (by decide +kernel)⟩
theorem fX5_43 : LkF RX5 43 3 0 := ⟨_, _, _, cls_3, by decide, Or.inr ⟨_, lw_x_at (w := .fieldLinkNest RX5 43 (TX3 0).1 (TX3 0).2.1 (TX3 0).2.2.1 "SpinStrips") (i := 112) (by decide +kernel) (by decide +kernel)⟩⟩
theorem kX5_46 : LkV RX5 46 mX5_addColumn 2 := ⟨ok_X5_addColumn, lw_w_at (i := 397) (by decide +kernel) (by decide +kernel), lw_w_at (i := 399) (by decide +kernel) (by decide +kernel), lw_w_at (i := 10) (by decide +kernel) (by decide +kernel)⟩
theorem kX5_54 : LkV RX5 54 mX3_seam 2 := ⟨ok_X3_seam, lw_w_at (i := 404) (by decide +kernel) (by decide +kernel), lw_w_at (i := 405) (by decide +kernel) (by decide +kernel), lw_w_at (i := 406) (by decide +kernel) (by decide +kernel)⟩
theorem kX6_29 : LkV RX6 29 mX6_isWhole 1 := ⟨ok_X6_isWhole, lw_w_at (i := 560) (by decide +kernel) (by decide +kernel), lw_w_at (i := 562) (by decide +kernel) (by decide +kernel), lw_w_at (i := 13) (by decide +kernel) (by decide +kernel)⟩
theorem kX6_33 : LkV RX6 33 mX6_rowsAllowed 0 := ⟨ok_X6_rowsAllowed, lw_w_at (i := 564) (by decide +kernel) (by decide +kernel), lw_w_at (i := 566) (by decide +kernel) (by decide +kernel), lw_w_at (i := 14) (by decide +kernel) (by decide +kernel)⟩
theorem fX6_25 : LkF RX6 25 6 4 := ⟨_, _, _, cls_6, by decide, Or.inl (lw_w_at (w := .fieldLink RX6 25 (TX6 4).1 (TX6 4).2.1 (TX6 4).2.2.1) (i := 248) (by decide +kernel) (by decide +kernel))⟩
theorem kX6_37 : LkS RX6 37 mX4_bit 2 := ⟨ok_X4_bit, lw_w_at (i := 568) (by decide +kernel) (by decide +kernel), lw_w_at (i := 294) (by decide +kernel) (by decide +kernel)⟩
theorem fX7_12 : LkF RX7 12 7 0 := ⟨_, _, _, cls_7, by decide, Or.inl (lw_w_at (w := .fieldLink RX7 12 (TX7 0).1 (TX7 0).2.1 (TX7 0).2.2.1) (i := 262) (by decide +kernel) (by decide +kernel))⟩
theorem kX7_83 : LkV RX7 83 mX4_has 2 := ⟨ok_X4_has, lw_w_at (i := 486) (by decide +kernel) (by decide +kernel), lw_w_at (i := 327) (by decide +kernel) (by decide +kernel), lw_w_at (i := 328) (by decide +kernel) (by decide +kernel)⟩
theorem kX7_156 : LkV RX7 156 mX4_kindOf 1 := ⟨ok_X4_kindOf, lw_w_at (i := 664) (by decide +kernel) (by decide +kernel), lw_w_at (i := 665) (by decide +kernel) (by decide +kernel), lw_w_at (i := 666) (by decide +kernel) (by decide +kernel)⟩
theorem kX1_3 : Cond.methodLink RX1 3 Lib.objectInit ∈ lw_w := lw_w_at (i := 220) (by decide +kernel) (by decide +kernel)
theorem gX1_11 : LkQ RX1 11 1 0 (.array (.object "SpinStrips$Strip")) := ⟨_, _, _, cls_1, by decide, lw_w_at (w := .fieldLink RX1 11 (TX1 0).1 (TX1 0).2.1 (TX1 0).2.2.1) (i := 224) (by decide +kernel) (by decide +kernel), by decide +kernel, rfl, rfl⟩
theorem kX1_24 : LkI RX1 24 mX4_init 0 := ⟨ok_X4_init, Or.inr ⟨_, lw_x_at (w := .methodLinkNest RX1 24 yX4_init "SpinStrips") (i := 223) (by decide +kernel) (by decide +kernel)⟩, lw_w_at (i := 46) (by decide +kernel) (by decide +kernel), rfl, rfl⟩
theorem kX2_94 : LkV RX2 94 mX2_addColumn 2 := ⟨ok_X2_addColumn, lw_w_at (i := 630) (by decide +kernel) (by decide +kernel), lw_w_at (i := 632) (by decide +kernel) (by decide +kernel), lw_w_at (i := 19) (by decide +kernel) (by decide +kernel)⟩
theorem fX3_40 : LkF RX3 40 4 0 := ⟨_, _, _, cls_4, by decide, Or.inr ⟨_, lw_x_at (w := .fieldLinkNest RX3 40 (TX4 0).1 (TX4 0).2.1 (TX4 0).2.2.1 "SpinStrips") (i := 56) (by decide +kernel) (by decide +kernel)⟩⟩
theorem fX3_43 : LkF RX3 43 4 1 := ⟨_, _, _, cls_4, by decide, Or.inr ⟨_, lw_x_at (w := .fieldLinkNest RX3 43 (TX4 1).1 (TX4 1).2.1 (TX4 1).2.2.1 "SpinStrips") (i := 60) (by decide +kernel) (by decide +kernel)⟩⟩
theorem kX3_44 : LkV RX3 44 mX4_closed 0 := ⟨ok_X4_closed, lw_w_at (i := 356) (by decide +kernel) (by decide +kernel), lw_w_at (i := 305) (by decide +kernel) (by decide +kernel), lw_w_at (i := 306) (by decide +kernel) (by decide +kernel)⟩
theorem fX3_47 : LkF RX3 47 4 3 := ⟨_, _, _, cls_4, by decide, Or.inr ⟨_, lw_x_at (w := .fieldLinkNest RX3 47 (TX4 3).1 (TX4 3).2.1 (TX4 3).2.2.1 "SpinStrips") (i := 66) (by decide +kernel) (by decide +kernel)⟩⟩
theorem fX3_50 : LkF RX3 50 4 4 := ⟨_, _, _, cls_4, by decide, Or.inr ⟨_, lw_x_at (w := .fieldLinkNest RX3 50 (TX4 4).1 (TX4 4).2.1 (TX4 4).2.2.1 "SpinStrips") (i := 69) (by decide +kernel) (by decide +kernel)⟩⟩
theorem kX3_53 : LkV RX3 53 mX3_priceAlong 1 := ⟨ok_X3_priceAlong, lw_w_at (i := 357) (by decide +kernel) (by decide +kernel), lw_w_at (i := 359) (by decide +kernel) (by decide +kernel), lw_w_at (i := 5) (by decide +kernel) (by decide +kernel)⟩
theorem kX3_57 : LkV RX3 57 mX3_priceAcross 1 := ⟨ok_X3_priceAcross, lw_w_at (i := 370) (by decide +kernel) (by decide +kernel), lw_w_at (i := 372) (by decide +kernel) (by decide +kernel), lw_w_at (i := 6) (by decide +kernel) (by decide +kernel)⟩
theorem kX3_66 : LkV RX3 66 mX3_priceFields 2 := ⟨ok_X3_priceFields, lw_w_at (i := 377) (by decide +kernel) (by decide +kernel), lw_w_at (i := 379) (by decide +kernel) (by decide +kernel), lw_w_at (i := 7) (by decide +kernel) (by decide +kernel)⟩
theorem fX3_28 : LkF RX3 28 3 5 := ⟨_, _, _, cls_3, by decide, Or.inl (lw_w_at (w := .fieldLink RX3 28 (TX3 5).1 (TX3 5).2.1 (TX3 5).2.2.1) (i := 122) (by decide +kernel) (by decide +kernel))⟩
theorem kX4_97 : LkV RX4 97 mX4_spinAt 2 := ⟨ok_X4_spinAt, lw_w_at (i := 289) (by decide +kernel) (by decide +kernel), lw_w_at (i := 290) (by decide +kernel) (by decide +kernel), lw_w_at (i := 291) (by decide +kernel) (by decide +kernel)⟩
theorem kX4_91 : LkV RX4 91 mX4_pullOfNeighbours 1 := ⟨ok_X4_pullOfNeighbours, lw_w_at (i := 296) (by decide +kernel) (by decide +kernel), lw_w_at (i := 298) (by decide +kernel) (by decide +kernel), lw_w_at (i := 0) (by decide +kernel) (by decide +kernel)⟩
theorem kX4_94 : LkV RX4 94 mX4_fieldAt 2 := ⟨ok_X4_fieldAt, lw_w_at (i := 322) (by decide +kernel) (by decide +kernel), lw_w_at (i := 323) (by decide +kernel) (by decide +kernel), lw_w_at (i := 324) (by decide +kernel) (by decide +kernel)⟩
theorem kX4_100 : LkV RX4 100 mX4_beside 1 := ⟨ok_X4_beside, lw_w_at (i := 334) (by decide +kernel) (by decide +kernel), lw_w_at (i := 335) (by decide +kernel) (by decide +kernel), lw_w_at (i := 336) (by decide +kernel) (by decide +kernel)⟩
theorem kX4_103 : LkV RX4 103 mX4_alike 1 := ⟨ok_X4_alike, lw_w_at (i := 338) (by decide +kernel) (by decide +kernel), lw_w_at (i := 339) (by decide +kernel) (by decide +kernel), lw_w_at (i := 340) (by decide +kernel) (by decide +kernel)⟩
theorem fX5_25 : LkF RX5 25 3 3 := ⟨_, _, _, cls_3, by decide, Or.inr ⟨_, lw_x_at (w := .fieldLinkNest RX5 25 (TX3 3).1 (TX3 3).2.1 (TX3 3).2.2.1 "SpinStrips") (i := 119) (by decide +kernel) (by decide +kernel)⟩⟩
theorem kX5_35 : LkV RX5 35 mX5_addStrips 4 := ⟨ok_X5_addStrips, lw_w_at (i := 389) (by decide +kernel) (by decide +kernel), lw_w_at (i := 391) (by decide +kernel) (by decide +kernel), lw_w_at (i := 8) (by decide +kernel) (by decide +kernel)⟩
theorem fX7_26 : LkF RX7 26 7 2 := ⟨_, _, _, cls_7, by decide, Or.inl (lw_w_at (w := .fieldLink RX7 26 (TX7 2).1 (TX7 2).2.1 (TX7 2).2.2.1) (i := 264) (by decide +kernel) (by decide +kernel))⟩
theorem kX7_44 : LkV RX7 44 mX1_record 1 := ⟨ok_X1_record, lw_w_at (i := 462) (by decide +kernel) (by decide +kernel), lw_w_at (i := 463) (by decide +kernel) (by decide +kernel), lw_w_at (i := 464) (by decide +kernel) (by decide +kernel)⟩
theorem kX7_48 : LkV RX7 48 mX4_remake 3 := ⟨ok_X4_remake, lw_w_at (i := 473) (by decide +kernel) (by decide +kernel), lw_w_at (i := 474) (by decide +kernel) (by decide +kernel), lw_w_at (i := 475) (by decide +kernel) (by decide +kernel)⟩
theorem fX7_19 : LkF RX7 19 7 1 := ⟨_, _, _, cls_7, by decide, Or.inl (lw_w_at (w := .fieldLink RX7 19 (TX7 1).1 (TX7 1).2.1 (TX7 1).2.2.1) (i := 263) (by decide +kernel) (by decide +kernel))⟩
theorem kX7_52 : LkV RX7 52 mX0_forget 0 := ⟨ok_X0_forget, lw_w_at (i := 478) (by decide +kernel) (by decide +kernel), lw_w_at (i := 479) (by decide +kernel) (by decide +kernel), lw_w_at (i := 480) (by decide +kernel) (by decide +kernel)⟩
theorem kX7_55 : LkV RX7 55 mX6_firstFault 0 := ⟨ok_X6_firstFault, lw_w_at (i := 556) (by decide +kernel) (by decide +kernel), lw_w_at (i := 557) (by decide +kernel) (by decide +kernel), lw_w_at (i := 558) (by decide +kernel) (by decide +kernel)⟩
theorem fX7_59 : LkF RX7 59 6 2 := ⟨_, _, _, cls_6, by decide, Or.inr ⟨_, lw_x_at (w := .fieldLinkNest RX7 59 (TX6 2).1 (TX6 2).2.1 (TX6 2).2.2.1 "SpinStrips") (i := 245) (by decide +kernel) (by decide +kernel)⟩⟩
theorem fX7_63 : LkF RX7 63 6 3 := ⟨_, _, _, cls_6, by decide, Or.inr ⟨_, lw_x_at (w := .fieldLinkNest RX7 63 (TX6 3).1 (TX6 3).2.1 (TX6 3).2.2.1 "SpinStrips") (i := 247) (by decide +kernel) (by decide +kernel)⟩⟩
theorem fX7_66 : LkF RX7 66 4 2 := ⟨_, _, _, cls_4, by decide, Or.inr ⟨_, lw_x_at (w := .fieldLinkNest RX7 66 (TX4 2).1 (TX4 2).2.1 (TX4 2).2.2.1 "SpinStrips") (i := 64) (by decide +kernel) (by decide +kernel)⟩⟩
theorem fX7_69 : LkF RX7 69 6 4 := ⟨_, _, _, cls_6, by decide, Or.inr ⟨_, lw_x_at (w := .fieldLinkNest RX7 69 (TX6 4).1 (TX6 4).2.1 (TX6 4).2.2.1 "SpinStrips") (i := 249) (by decide +kernel) (by decide +kernel)⟩⟩
theorem gX7_73 : LkP RX7 73 4 6 (.long) := ⟨_, _, _, cls_4, by decide, Or.inr ⟨_, lw_x_at (w := .fieldLinkNest RX7 73 (TX4 6).1 (TX4 6).2.1 (TX4 6).2.2.1 "SpinStrips") (i := 73) (by decide +kernel) (by decide +kernel)⟩, by decide +kernel, rfl⟩
theorem kX7_87 : LkV RX7 87 mX4_fieldAt 2 := ⟨ok_X4_fieldAt, lw_w_at (i := 509) (by decide +kernel) (by decide +kernel), lw_w_at (i := 323) (by decide +kernel) (by decide +kernel), lw_w_at (i := 324) (by decide +kernel) (by decide +kernel)⟩
theorem kX7_91 : LkV RX7 91 mX4_putField 3 := ⟨ok_X4_putField, lw_w_at (i := 520) (by decide +kernel) (by decide +kernel), lw_w_at (i := 521) (by decide +kernel) (by decide +kernel), lw_w_at (i := 522) (by decide +kernel) (by decide +kernel)⟩
theorem fX7_77 : LkF RX7 77 4 4 := ⟨_, _, _, cls_4, by decide, Or.inr ⟨_, lw_x_at (w := .fieldLinkNest RX7 77 (TX4 4).1 (TX4 4).2.1 (TX4 4).2.2.1 "SpinStrips") (i := 70) (by decide +kernel) (by decide +kernel)⟩⟩
theorem fX7_80 : LkF RX7 80 4 3 := ⟨_, _, _, cls_4, by decide, Or.inr ⟨_, lw_x_at (w := .fieldLinkNest RX7 80 (TX4 3).1 (TX4 3).2.1 (TX4 3).2.2.1 "SpinStrips") (i := 67) (by decide +kernel) (by decide +kernel)⟩⟩
theorem gX7_77 : LkP RX7 77 4 4 (.int) := ⟨_, _, _, cls_4, by decide, Or.inr ⟨_, lw_x_at (w := .fieldLinkNest RX7 77 (TX4 4).1 (TX4 4).2.1 (TX4 4).2.2.1 "SpinStrips") (i := 70) (by decide +kernel) (by decide +kernel)⟩, by decide +kernel, rfl⟩
theorem gX7_80 : LkP RX7 80 4 3 (.int) := ⟨_, _, _, cls_4, by decide, Or.inr ⟨_, lw_x_at (w := .fieldLinkNest RX7 80 (TX4 3).1 (TX4 3).2.1 (TX4 3).2.2.1 "SpinStrips") (i := 67) (by decide +kernel) (by decide +kernel)⟩, by decide +kernel, rfl⟩
theorem kL_61 : LkV RL 61 mX7_clearText 0 := ⟨ok_X7_clearText, lw_w_at (i := 540) (by decide +kernel) (by decide +kernel), lw_w_at (i := 541) (by decide +kernel) (by decide +kernel), lw_w_at (i := 542) (by decide +kernel) (by decide +kernel)⟩
theorem kL_65 : LkV RL 65 mX7_type 1 := ⟨ok_X7_type, lw_w_at (i := 544) (by decide +kernel) (by decide +kernel), lw_w_at (i := 545) (by decide +kernel) (by decide +kernel), lw_w_at (i := 546) (by decide +kernel) (by decide +kernel)⟩
theorem kL_23 : LkS RL 23 mL_up 2 := ⟨ok_L_up, lw_w_at (i := 451) (by decide +kernel) (by decide +kernel), lw_w_at (i := 452) (by decide +kernel) (by decide +kernel)⟩
theorem kL_69 : LkV RL 69 mX7_read 0 := ⟨ok_X7_read, lw_w_at (i := 552) (by decide +kernel) (by decide +kernel), lw_w_at (i := 553) (by decide +kernel) (by decide +kernel), lw_w_at (i := 554) (by decide +kernel) (by decide +kernel)⟩
theorem fX0_52 : LkF RX0 52 0 9 := ⟨_, _, _, cls_0, by decide, Or.inl (lw_w_at (w := .fieldLink RX0 52 (TX0 9).1 (TX0 9).2.1 (TX0 9).2.2.1) (i := 187) (by decide +kernel) (by decide +kernel))⟩
theorem kX0_70 : LkV RX0 70 mX3_takeFrom 2 := ⟨ok_X3_takeFrom, lw_w_at (i := 352) (by decide +kernel) (by decide +kernel), lw_w_at (i := 353) (by decide +kernel) (by decide +kernel), lw_w_at (i := 354) (by decide +kernel) (by decide +kernel)⟩
theorem fX0_24 : LkF RX0 24 0 2 := ⟨_, _, _, cls_0, by decide, Or.inl (lw_w_at (w := .fieldLink RX0 24 (TX0 2).1 (TX0 2).2.1 (TX0 2).2.2.1) (i := 180) (by decide +kernel) (by decide +kernel))⟩
theorem kX0_74 : LkV RX0 74 mX5_fill 2 := ⟨ok_X5_fill, lw_w_at (i := 382) (by decide +kernel) (by decide +kernel), lw_w_at (i := 383) (by decide +kernel) (by decide +kernel), lw_w_at (i := 384) (by decide +kernel) (by decide +kernel)⟩
theorem fX0_45 : LkF RX0 45 0 7 := ⟨_, _, _, cls_0, by decide, Or.inl (lw_w_at (w := .fieldLink RX0 45 (TX0 7).1 (TX0 7).2.1 (TX0 7).2.2.1) (i := 185) (by decide +kernel) (by decide +kernel))⟩
theorem fX0_49 : LkF RX0 49 0 8 := ⟨_, _, _, cls_0, by decide, Or.inl (lw_w_at (w := .fieldLink RX0 49 (TX0 8).1 (TX0 8).2.1 (TX0 8).2.2.1) (i := 186) (by decide +kernel) (by decide +kernel))⟩
theorem fX0_56 : LkF RX0 56 0 10 := ⟨_, _, _, cls_0, by decide, Or.inl (lw_w_at (w := .fieldLink RX0 56 (TX0 10).1 (TX0 10).2.1 (TX0 10).2.2.1) (i := 188) (by decide +kernel) (by decide +kernel))⟩
theorem fX0_18 : LkF RX0 18 0 1 := ⟨_, _, _, cls_0, by decide, Or.inl (lw_w_at (w := .fieldLink RX0 18 (TX0 1).1 (TX0 1).2.1 (TX0 1).2.2.1) (i := 179) (by decide +kernel) (by decide +kernel))⟩
theorem fX0_39 : LkF RX0 39 0 5 := ⟨_, _, _, cls_0, by decide, Or.inl (lw_w_at (w := .fieldLink RX0 39 (TX0 5).1 (TX0 5).2.1 (TX0 5).2.2.1) (i := 183) (by decide +kernel) (by decide +kernel))⟩
theorem kX2_22 : LkV RX2 22 mX2_leastCost 1 := ⟨ok_X2_leastCost, lw_w_at (i := 609) (by decide +kernel) (by decide +kernel), lw_w_at (i := 611) (by decide +kernel) (by decide +kernel), lw_w_at (i := 15) (by decide +kernel) (by decide +kernel)⟩
theorem kX2_50 : LkV RX2 50 mX2_addUps 3 := ⟨ok_X2_addUps, lw_w_at (i := 625) (by decide +kernel) (by decide +kernel), lw_w_at (i := 627) (by decide +kernel) (by decide +kernel), lw_w_at (i := 18) (by decide +kernel) (by decide +kernel)⟩
theorem kX4_109 : LkV RX4 109 mX4_gain 2 := ⟨ok_X4_gain, lw_w_at (i := 439) (by decide +kernel) (by decide +kernel), lw_w_at (i := 440) (by decide +kernel) (by decide +kernel), lw_w_at (i := 441) (by decide +kernel) (by decide +kernel)⟩
theorem kX4_112 : LkV RX4 112 mX4_flip 1 := ⟨ok_X4_flip, lw_w_at (i := 536) (by decide +kernel) (by decide +kernel), lw_w_at (i := 490) (by decide +kernel) (by decide +kernel), lw_w_at (i := 491) (by decide +kernel) (by decide +kernel)⟩
theorem kX4_106 : LkV RX4 106 mX4_patchOf 1 := ⟨ok_X4_patchOf, lw_w_at (i := 431) (by decide +kernel) (by decide +kernel), lw_w_at (i := 432) (by decide +kernel) (by decide +kernel), lw_w_at (i := 433) (by decide +kernel) (by decide +kernel)⟩
theorem kX7_95 : LkS RX7 95 mX4_bit 2 := ⟨ok_X4_bit, lw_w_at (i := 487) (by decide +kernel) (by decide +kernel), lw_w_at (i := 294) (by decide +kernel) (by decide +kernel)⟩
theorem kX7_140 : LkV RX7 140 mX4_spinAt 2 := ⟨ok_X4_spinAt, lw_w_at (i := 508) (by decide +kernel) (by decide +kernel), lw_w_at (i := 290) (by decide +kernel) (by decide +kernel), lw_w_at (i := 291) (by decide +kernel) (by decide +kernel)⟩
theorem kX7_143 : LkV RX7 143 mX4_gain 2 := ⟨ok_X4_gain, lw_w_at (i := 510) (by decide +kernel) (by decide +kernel), lw_w_at (i := 440) (by decide +kernel) (by decide +kernel), lw_w_at (i := 441) (by decide +kernel) (by decide +kernel)⟩
theorem kX7_146 : LkS RX7 146 mX7_reason 1 := ⟨ok_X7_reason, lw_w_at (i := 511) (by decide +kernel) (by decide +kernel), lw_w_at (i := 512) (by decide +kernel) (by decide +kernel)⟩
theorem kX7_150 : LkV RX7 150 mX4_beside 1 := ⟨ok_X4_beside, lw_w_at (i := 514) (by decide +kernel) (by decide +kernel), lw_w_at (i := 335) (by decide +kernel) (by decide +kernel), lw_w_at (i := 336) (by decide +kernel) (by decide +kernel)⟩
theorem kX7_107 : LkS RX7 107 mJ13_bitCount_95d88 1 := ⟨ok_J13_bitCount_95d88, lw_w_at (i := 343) (by decide +kernel) (by decide +kernel), lw_w_at (i := 313) (by decide +kernel) (by decide +kernel)⟩
theorem kX7_153 : LkV RX7 153 mX4_alike 1 := ⟨ok_X4_alike, lw_w_at (i := 515) (by decide +kernel) (by decide +kernel), lw_w_at (i := 339) (by decide +kernel) (by decide +kernel), lw_w_at (i := 340) (by decide +kernel) (by decide +kernel)⟩
theorem kX7_103 : LkV RX7 103 mX4_patchOf 1 := ⟨ok_X4_patchOf, lw_w_at (i := 488) (by decide +kernel) (by decide +kernel), lw_w_at (i := 432) (by decide +kernel) (by decide +kernel), lw_w_at (i := 433) (by decide +kernel) (by decide +kernel)⟩
theorem gX7_66 : LkP RX7 66 4 2 (.boolean) := ⟨_, _, _, cls_4, by decide, Or.inr ⟨_, lw_x_at (w := .fieldLinkNest RX7 66 (TX4 2).1 (TX4 2).2.1 (TX4 2).2.2.1 "SpinStrips") (i := 64) (by decide +kernel) (by decide +kernel)⟩, by decide +kernel, rfl⟩
theorem kX7_74 : LkV RX7 74 mX4_energy 0 := ⟨ok_X4_energy, lw_w_at (i := 285) (by decide +kernel) (by decide +kernel), lw_w_at (i := 286) (by decide +kernel) (by decide +kernel), lw_w_at (i := 287) (by decide +kernel) (by decide +kernel)⟩
theorem kX7_3 : Cond.methodLink RX7 3 Lib.objectInit ∈ lw_w := lw_w_at (i := 40) (by decide +kernel) (by decide +kernel)
theorem kX7_11 : LkI RX7 11 mX4_init 0 := ⟨ok_X4_init, Or.inr ⟨_, lw_x_at (w := .methodLinkNest RX7 11 yX4_init "SpinStrips") (i := 45) (by decide +kernel) (by decide +kernel)⟩, lw_w_at (i := 46) (by decide +kernel) (by decide +kernel), rfl, rfl⟩
theorem gX7_12 : LkQ RX7 12 7 0 (.object "SpinStrips$Strip") := ⟨_, _, _, cls_7, by decide, lw_w_at (w := .fieldLink RX7 12 (TX7 0).1 (TX7 0).2.1 (TX7 0).2.2.1) (i := 262) (by decide +kernel) (by decide +kernel), by decide +kernel, rfl, rfl⟩
theorem kX7_18 : LkI RX7 18 mX0_init 0 := ⟨ok_X0_init, Or.inr ⟨_, lw_x_at (w := .methodLinkNest RX7 18 yX0_init "SpinStrips") (i := 99) (by decide +kernel) (by decide +kernel)⟩, lw_w_at (i := 100) (by decide +kernel) (by decide +kernel), rfl, rfl⟩
theorem gX7_19 : LkQ RX7 19 7 1 (.object "SpinStrips$AllStrips") := ⟨_, _, _, cls_7, by decide, lw_w_at (w := .fieldLink RX7 19 (TX7 1).1 (TX7 1).2.1 (TX7 1).2.2.1) (i := 263) (by decide +kernel) (by decide +kernel), by decide +kernel, rfl, rfl⟩
theorem kX7_25 : LkI RX7 25 mX1_init 0 := ⟨ok_X1_init, Or.inl (lw_w_at (i := 217) (by decide +kernel) (by decide +kernel)), lw_w_at (i := 218) (by decide +kernel) (by decide +kernel), rfl, rfl⟩
theorem gX7_26 : LkQ RX7 26 7 2 (.object "SpinStrips$History") := ⟨_, _, _, cls_7, by decide, lw_w_at (w := .fieldLink RX7 26 (TX7 2).1 (TX7 2).2.1 (TX7 2).2.2.1) (i := 264) (by decide +kernel) (by decide +kernel), by decide +kernel, rfl, rfl⟩
theorem gX7_30 : LkQ RX7 30 7 3 (.object "SpinStrips$Strip") := ⟨_, _, _, cls_7, by decide, lw_w_at (w := .fieldLink RX7 30 (TX7 3).1 (TX7 3).2.1 (TX7 3).2.2.1) (i := 265) (by decide +kernel) (by decide +kernel), by decide +kernel, rfl, rfl⟩
theorem gX7_33 : LkP RX7 33 7 4 (.boolean) := ⟨_, _, _, cls_7, by decide, Or.inl (lw_w_at (w := .fieldLink RX7 33 (TX7 4).1 (TX7 4).2.1 (TX7 4).2.2.1) (i := 266) (by decide +kernel) (by decide +kernel)), by decide +kernel, rfl⟩
theorem kX7_39 : LkI RX7 39 mX6_init 0 := ⟨ok_X6_init, Or.inr ⟨_, lw_x_at (w := .methodLinkNest RX7 39 yX6_init "SpinStrips") (i := 237) (by decide +kernel) (by decide +kernel)⟩, lw_w_at (i := 238) (by decide +kernel) (by decide +kernel), rfl, rfl⟩
theorem gX7_40 : LkQ RX7 40 7 5 (.object "SpinStrips$Text") := ⟨_, _, _, cls_7, by decide, lw_w_at (w := .fieldLink RX7 40 (TX7 5).1 (TX7 5).2.1 (TX7 5).2.2.1) (i := 267) (by decide +kernel) (by decide +kernel), by decide +kernel, rfl, rfl⟩
theorem fX7_30 : LkF RX7 30 7 3 := ⟨_, _, _, cls_7, by decide, Or.inl (lw_w_at (w := .fieldLink RX7 30 (TX7 3).1 (TX7 3).2.1 (TX7 3).2.2.1) (i := 265) (by decide +kernel) (by decide +kernel))⟩
theorem kX7_137 : LkV RX7 137 mX4_copyFrom 1 := ⟨ok_X4_copyFrom, lw_w_at (i := 576) (by decide +kernel) (by decide +kernel), lw_w_at (i := 467) (by decide +kernel) (by decide +kernel), lw_w_at (i := 468) (by decide +kernel) (by decide +kernel)⟩
theorem fX7_33 : LkF RX7 33 7 4 := ⟨_, _, _, cls_7, by decide, Or.inl (lw_w_at (w := .fieldLink RX7 33 (TX7 4).1 (TX7 4).2.1 (TX7 4).2.2.1) (i := 266) (by decide +kernel) (by decide +kernel))⟩
theorem kX7_99 : LkV RX7 99 mX4_flip 1 := ⟨ok_X4_flip, lw_w_at (i := 489) (by decide +kernel) (by decide +kernel), lw_w_at (i := 490) (by decide +kernel) (by decide +kernel), lw_w_at (i := 491) (by decide +kernel) (by decide +kernel)⟩
theorem kL_72 : LkV RL 72 mX7_keep 0 := ⟨ok_X7_keep, lw_w_at (i := 572) (by decide +kernel) (by decide +kernel), lw_w_at (i := 573) (by decide +kernel) (by decide +kernel), lw_w_at (i := 574) (by decide +kernel) (by decide +kernel)⟩
theorem kL_75 : LkV RL 75 mX7_restore 0 := ⟨ok_X7_restore, lw_w_at (i := 577) (by decide +kernel) (by decide +kernel), lw_w_at (i := 578) (by decide +kernel) (by decide +kernel), lw_w_at (i := 579) (by decide +kernel) (by decide +kernel)⟩
theorem kX0_62 : LkV RX0 62 mX0_learnCosts 1 := ⟨ok_X0_learnCosts, lw_w_at (i := 348) (by decide +kernel) (by decide +kernel), lw_w_at (i := 350) (by decide +kernel) (by decide +kernel), lw_w_at (i := 4) (by decide +kernel) (by decide +kernel)⟩
theorem kX0_93 : LkV RX0 93 mX0_energyOf 1 := ⟨ok_X0_energyOf, lw_w_at (i := 408) (by decide +kernel) (by decide +kernel), lw_w_at (i := 410) (by decide +kernel) (by decide +kernel), lw_w_at (i := 11) (by decide +kernel) (by decide +kernel)⟩
theorem fX0_59 : LkF RX0 59 0 11 := ⟨_, _, _, cls_0, by decide, Or.inl (lw_w_at (w := .fieldLink RX0 59 (TX0 11).1 (TX0 11).2.1 (TX0 11).2.2.1) (i := 189) (by decide +kernel) (by decide +kernel))⟩
theorem fX0_31 : LkF RX0 31 0 3 := ⟨_, _, _, cls_0, by decide, Or.inl (lw_w_at (w := .fieldLink RX0 31 (TX0 3).1 (TX0 3).2.1 (TX0 3).2.2.1) (i := 181) (by decide +kernel) (by decide +kernel))⟩
theorem fX0_42 : LkF RX0 42 0 6 := ⟨_, _, _, cls_0, by decide, Or.inl (lw_w_at (w := .fieldLink RX0 42 (TX0 6).1 (TX0 6).2.1 (TX0 6).2.2.1) (i := 184) (by decide +kernel) (by decide +kernel))⟩
theorem kX0_82 : LkV RX0 82 mX2_fillUps 2 := ⟨ok_X2_fillUps, lw_w_at (i := 604) (by decide +kernel) (by decide +kernel), lw_w_at (i := 605) (by decide +kernel) (by decide +kernel), lw_w_at (i := 606) (by decide +kernel) (by decide +kernel)⟩
theorem kX0_66 : LkV RX0 66 mX0_manyAtEnergy 1 := ⟨ok_X0_manyAtEnergy, lw_w_at (i := 420) (by decide +kernel) (by decide +kernel), lw_w_at (i := 422) (by decide +kernel) (by decide +kernel), lw_w_at (i := 12) (by decide +kernel) (by decide +kernel)⟩
theorem kX7_113 : LkV RX7 113 mX4_gainingCells 0 := ⟨ok_X4_gainingCells, lw_w_at (i := 435) (by decide +kernel) (by decide +kernel), lw_w_at (i := 436) (by decide +kernel) (by decide +kernel), lw_w_at (i := 437) (by decide +kernel) (by decide +kernel)⟩
theorem kX7_116 : LkV RX7 116 mX4_flipGainingCells 0 := ⟨ok_X4_flipGainingCells, lw_w_at (i := 532) (by decide +kernel) (by decide +kernel), lw_w_at (i := 533) (by decide +kernel) (by decide +kernel), lw_w_at (i := 534) (by decide +kernel) (by decide +kernel)⟩
theorem kX7_163 : LkV RX7 163 mX0_manyWithWalls 2 := ⟨ok_X0_manyWithWalls, lw_w_at (i := 592) (by decide +kernel) (by decide +kernel), lw_w_at (i := 593) (by decide +kernel) (by decide +kernel), lw_w_at (i := 594) (by decide +kernel) (by decide +kernel)⟩
theorem fX7_181 : LkF RX7 181 4 0 := ⟨_, _, _, cls_4, by decide, Or.inr ⟨_, lw_x_at (w := .fieldLinkNest RX7 181 (TX4 0).1 (TX4 0).2.1 (TX4 0).2.2.1 "SpinStrips") (i := 58) (by decide +kernel) (by decide +kernel)⟩⟩
theorem fX7_182 : LkF RX7 182 4 1 := ⟨_, _, _, cls_4, by decide, Or.inr ⟨_, lw_x_at (w := .fieldLinkNest RX7 182 (TX4 1).1 (TX4 1).2.1 (TX4 1).2.2.1 "SpinStrips") (i := 62) (by decide +kernel) (by decide +kernel)⟩⟩
theorem kX7_183 : LkV RX7 183 mX4_walls 0 := ⟨ok_X4_walls, lw_w_at (i := 330) (by decide +kernel) (by decide +kernel), lw_w_at (i := 331) (by decide +kernel) (by decide +kernel), lw_w_at (i := 332) (by decide +kernel) (by decide +kernel)⟩
theorem fX7_73 : LkF RX7 73 4 6 := ⟨_, _, _, cls_4, by decide, Or.inr ⟨_, lw_x_at (w := .fieldLinkNest RX7 73 (TX4 6).1 (TX4 6).2.1 (TX4 6).2.2.1 "SpinStrips") (i := 73) (by decide +kernel) (by decide +kernel)⟩⟩
theorem kX7_186 : LkV RX7 186 mX0_leastEnergy 1 := ⟨ok_X0_leastEnergy, lw_w_at (i := 344) (by decide +kernel) (by decide +kernel), lw_w_at (i := 345) (by decide +kernel) (by decide +kernel), lw_w_at (i := 346) (by decide +kernel) (by decide +kernel)⟩
theorem kX7_190 : LkV RX7 190 mX0_greatestEnergy 1 := ⟨ok_X0_greatestEnergy, lw_w_at (i := 412) (by decide +kernel) (by decide +kernel), lw_w_at (i := 413) (by decide +kernel) (by decide +kernel), lw_w_at (i := 414) (by decide +kernel) (by decide +kernel)⟩
theorem kX7_159 : LkV RX7 159 mX0_manyWithEnergy 2 := ⟨ok_X0_manyWithEnergy, lw_w_at (i := 416) (by decide +kernel) (by decide +kernel), lw_w_at (i := 417) (by decide +kernel) (by decide +kernel), lw_w_at (i := 418) (by decide +kernel) (by decide +kernel)⟩
theorem kX7_193 : LkV RX7 193 mX4_patches 0 := ⟨ok_X4_patches, lw_w_at (i := 427) (by decide +kernel) (by decide +kernel), lw_w_at (i := 428) (by decide +kernel) (by decide +kernel), lw_w_at (i := 429) (by decide +kernel) (by decide +kernel)⟩
theorem fX7_196 : LkF RX7 196 4 7 := ⟨_, _, _, cls_4, by decide, Or.inr ⟨_, lw_x_at (w := .fieldLinkNest RX7 196 (TX4 7).1 (TX4 7).2.1 (TX4 7).2.2.1 "SpinStrips") (i := 75) (by decide +kernel) (by decide +kernel)⟩⟩
theorem kX7_199 : LkV RX7 199 mX4_pairs 0 := ⟨ok_X4_pairs, lw_w_at (i := 443) (by decide +kernel) (by decide +kernel), lw_w_at (i := 444) (by decide +kernel) (by decide +kernel), lw_w_at (i := 445) (by decide +kernel) (by decide +kernel)⟩
theorem fX7_134 : LkF RX7 134 1 2 := ⟨_, _, _, cls_1, by decide, Or.inr ⟨_, lw_x_at (w := .fieldLinkNest RX7 134 (TX1 2).1 (TX1 2).2.1 (TX1 2).2.2.1 "SpinStrips") (i := 227) (by decide +kernel) (by decide +kernel)⟩⟩
theorem kX7_173 : LkV RX7 173 mX0_sumOfWeights 3 := ⟨ok_X0_sumOfWeights, lw_w_at (i := 647) (by decide +kernel) (by decide +kernel), lw_w_at (i := 648) (by decide +kernel) (by decide +kernel), lw_w_at (i := 649) (by decide +kernel) (by decide +kernel)⟩
theorem kX7_177 : LkS RX7 177 mX7_bitsOf 1 := ⟨ok_X7_bitsOf, lw_w_at (i := 651) (by decide +kernel) (by decide +kernel), lw_w_at (i := 652) (by decide +kernel) (by decide +kernel)⟩
theorem kX7_166 : LkV RX7 166 mX0_manyOfLeastWithUps 2 := ⟨ok_X0_manyOfLeastWithUps, lw_w_at (i := 600) (by decide +kernel) (by decide +kernel), lw_w_at (i := 601) (by decide +kernel) (by decide +kernel), lw_w_at (i := 602) (by decide +kernel) (by decide +kernel)⟩
theorem kX7_169 : LkS RX7 169 mX0_manyWithUps 2 := ⟨ok_X0_manyWithUps, lw_w_at (i := 639) (by decide +kernel) (by decide +kernel), lw_w_at (i := 640) (by decide +kernel) (by decide +kernel)⟩
theorem kL_19 : LkV RL 19 mX7_count 1 := ⟨ok_X7_count, lw_w_at (i := 281) (by decide +kernel) (by decide +kernel), lw_w_at (i := 282) (by decide +kernel) (by decide +kernel), lw_w_at (i := 283) (by decide +kernel) (by decide +kernel)⟩
theorem kL_91 : LkV RL 91 mX7_column 1 := ⟨ok_X7_column, lw_w_at (i := 660) (by decide +kernel) (by decide +kernel), lw_w_at (i := 661) (by decide +kernel) (by decide +kernel), lw_w_at (i := 662) (by decide +kernel) (by decide +kernel)⟩
theorem kL_40 : LkV RL 40 mX7_cell 3 := ⟨ok_X7_cell, lw_w_at (i := 504) (by decide +kernel) (by decide +kernel), lw_w_at (i := 505) (by decide +kernel) (by decide +kernel), lw_w_at (i := 506) (by decide +kernel) (by decide +kernel)⟩
theorem kL_78 : LkV RL 78 mX7_withEnergy 1 := ⟨ok_X7_withEnergy, lw_w_at (i := 584) (by decide +kernel) (by decide +kernel), lw_w_at (i := 585) (by decide +kernel) (by decide +kernel), lw_w_at (i := 586) (by decide +kernel) (by decide +kernel)⟩
theorem kL_81 : LkV RL 81 mX7_withWalls 1 := ⟨ok_X7_withWalls, lw_w_at (i := 588) (by decide +kernel) (by decide +kernel), lw_w_at (i := 589) (by decide +kernel) (by decide +kernel), lw_w_at (i := 590) (by decide +kernel) (by decide +kernel)⟩
theorem kL_84 : LkV RL 84 mX7_withUps 2 := ⟨ok_X7_withUps, lw_w_at (i := 596) (by decide +kernel) (by decide +kernel), lw_w_at (i := 597) (by decide +kernel) (by decide +kernel), lw_w_at (i := 598) (by decide +kernel) (by decide +kernel)⟩
theorem kL_88 : LkV RL 88 mX7_heat 2 := ⟨ok_X7_heat, lw_w_at (i := 642) (by decide +kernel) (by decide +kernel), lw_w_at (i := 643) (by decide +kernel) (by decide +kernel), lw_w_at (i := 644) (by decide +kernel) (by decide +kernel)⟩
theorem kL_9 : LkV RL 9 mX7_lay 3 := ⟨ok_X7_lay, lw_w_at (i := 458) (by decide +kernel) (by decide +kernel), lw_w_at (i := 459) (by decide +kernel) (by decide +kernel), lw_w_at (i := 460) (by decide +kernel) (by decide +kernel)⟩
theorem kL_15 : LkV RL 15 mX7_turnPatch 2 := ⟨ok_X7_turnPatch, lw_w_at (i := 482) (by decide +kernel) (by decide +kernel), lw_w_at (i := 483) (by decide +kernel) (by decide +kernel), lw_w_at (i := 484) (by decide +kernel) (by decide +kernel)⟩
theorem kL_28 : LkS RL 28 mL_isLaid 5 := ⟨ok_L_isLaid, lw_w_at (i := 455) (by decide +kernel) (by decide +kernel), lw_w_at (i := 456) (by decide +kernel) (by decide +kernel)⟩
theorem kL_32 : LkV RL 32 mX7_close 1 := ⟨ok_X7_close, lw_w_at (i := 496) (by decide +kernel) (by decide +kernel), lw_w_at (i := 497) (by decide +kernel) (by decide +kernel), lw_w_at (i := 498) (by decide +kernel) (by decide +kernel)⟩
theorem kL_36 : LkV RL 36 mX7_setPull 2 := ⟨ok_X7_setPull, lw_w_at (i := 500) (by decide +kernel) (by decide +kernel), lw_w_at (i := 501) (by decide +kernel) (by decide +kernel), lw_w_at (i := 502) (by decide +kernel) (by decide +kernel)⟩
theorem kL_44 : LkV RL 44 mX7_setField 3 := ⟨ok_X7_setField, lw_w_at (i := 516) (by decide +kernel) (by decide +kernel), lw_w_at (i := 517) (by decide +kernel) (by decide +kernel), lw_w_at (i := 518) (by decide +kernel) (by decide +kernel)⟩
theorem kL_47 : LkV RL 47 mX7_turn 2 := ⟨ok_X7_turn, lw_w_at (i := 524) (by decide +kernel) (by decide +kernel), lw_w_at (i := 525) (by decide +kernel) (by decide +kernel), lw_w_at (i := 526) (by decide +kernel) (by decide +kernel)⟩
theorem kL_50 : LkV RL 50 mX7_sweep 1 := ⟨ok_X7_sweep, lw_w_at (i := 528) (by decide +kernel) (by decide +kernel), lw_w_at (i := 529) (by decide +kernel) (by decide +kernel), lw_w_at (i := 530) (by decide +kernel) (by decide +kernel)⟩
theorem kL_53 : LkS RL 53 mL_isText 5 := ⟨ok_L_isText, lw_w_at (i := 537) (by decide +kernel) (by decide +kernel), lw_w_at (i := 538) (by decide +kernel) (by decide +kernel)⟩
theorem kL_57 : LkS RL 57 mL_isSlot 3 := ⟨ok_L_isSlot, lw_w_at (i := 569) (by decide +kernel) (by decide +kernel), lw_w_at (i := 570) (by decide +kernel) (by decide +kernel)⟩
theorem kL_94 : LkI RL 94 mX7_init 0 := ⟨ok_X7_init, Or.inl (lw_w_at (i := 37) (by decide +kernel) (by decide +kernel)), lw_w_at (i := 38) (by decide +kernel) (by decide +kernel), rfl, rfl⟩
theorem kL_95 : LkS RL 95 mL_cell 2 := ⟨ok_L_cell, lw_w_at (i := 447) (by decide +kernel) (by decide +kernel), lw_w_at (i := 448) (by decide +kernel) (by decide +kernel)⟩
theorem kL_98 : LkS RL 98 mL_isStep 4 := ⟨ok_L_isStep, lw_w_at (i := 493) (by decide +kernel) (by decide +kernel), lw_w_at (i := 494) (by decide +kernel) (by decide +kernel)⟩
theorem kL_102 : LkS RL 102 mL_isWell 1 := ⟨ok_L_isWell, lw_w_at (i := 668) (by decide +kernel) (by decide +kernel), lw_w_at (i := 669) (by decide +kernel) (by decide +kernel)⟩
theorem kL_106 : LkS RL 106 mL_isAll 3 := ⟨ok_L_isAll, lw_w_at (i := 581) (by decide +kernel) (by decide +kernel), lw_w_at (i := 582) (by decide +kernel) (by decide +kernel)⟩
theorem kL_109 : LkS RL 109 mL_areAlike 2 := ⟨ok_L_areAlike, lw_w_at (i := 657) (by decide +kernel) (by decide +kernel), lw_w_at (i := 658) (by decide +kernel) (by decide +kernel)⟩
theorem qJ13_314 : Cond.constantLong RJ13 314 (6148914691236517205 : Int64) ∈ lw_w := lw_w_at (i := 315) (by decide +kernel) (by decide +kernel)
theorem qJ13_316 : Cond.constantLong RJ13 316 (3689348814741910323 : Int64) ∈ lw_w := lw_w_at (i := 316) (by decide +kernel) (by decide +kernel)
theorem qJ13_318 : Cond.constantLong RJ13 318 (1085102592571150095 : Int64) ∈ lw_w := lw_w_at (i := 317) (by decide +kernel) (by decide +kernel)
theorem qX4_86 : Cond.constantLong RX4 86 (-1 : Int64) ∈ lw_w := lw_w_at (i := 342) (by decide +kernel) (by decide +kernel)
theorem qJ6_265 : Cond.constant RJ6 265 (1431655765 : Int32) ∈ lw_w := lw_w_at (i := 364) (by decide +kernel) (by decide +kernel)
theorem qJ6_266 : Cond.constant RJ6 266 (858993459 : Int32) ∈ lw_w := lw_w_at (i := 365) (by decide +kernel) (by decide +kernel)
theorem qJ6_267 : Cond.constant RJ6 267 (252645135 : Int32) ∈ lw_w := lw_w_at (i := 366) (by decide +kernel) (by decide +kernel)
theorem qL_7 : Cond.constant RL 7 (2092033523 : Int32) ∈ lw_w := lw_w_at (i := 450) (by decide +kernel) (by decide +kernel)
theorem qL_8 : Cond.constant RL 8 (2147483647 : Int32) ∈ lw_w := lw_w_at (i := 454) (by decide +kernel) (by decide +kernel)
theorem qX7_172 : Cond.constantFloat RX7 172 (1120403456 : UInt32) ∈ lw_w := lw_w_at (i := 646) (by decide +kernel) (by decide +kernel)
theorem qX7_202 : Cond.constantFloat RX7 202 (1258291200 : UInt32) ∈ lw_w := lw_w_at (i := 654) (by decide +kernel) (by decide +kernel)
theorem qX7_203 : Cond.constant RX7 203 (8388608 : Int32) ∈ lw_w := lw_w_at (i := 655) (by decide +kernel) (by decide +kernel)
theorem qX7_204 : Cond.constant RX7 204 (-2147483648 : Int32) ∈ lw_w := lw_w_at (i := 656) (by decide +kernel) (by decide +kernel)
theorem k_obj1 : Cond.instanceMethod Lib.objectInit ∈ lw_w := lw_w_at (i := 41) (by decide +kernel) (by decide +kernel)
theorem k_obj2 : Cond.code Lib.objectInit ⟨#[0xb1]⟩ 1 none ∈ lw_w := lw_w_at (i := 42) (by decide +kernel) (by decide +kernel)
