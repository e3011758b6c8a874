abbrev mX1_init : Mth := (yX1_init, cX1_init, 2, none, 3)
theorem ok_X1_init : MOK mX1_init 0 := ⟨lw_w_at (i := 219) (by decide +kernel) (by decide +kernel), lw_w_at (i := 28) (by decide +kernel) (by decide +kernel), by decide +kernel, by decide +kernel, by decide +kernel⟩
abbrev mX2_addUps : Mth := (yX2_addUps, cX2_addUps, 5, none, 3)
theorem ok_X2_addUps : MOK mX2_addUps 3 := ⟨lw_w_at (i := 628) (by decide +kernel) (by decide +kernel), lw_w_at (i := 27) (by decide +kernel) (by decide +kernel), by decide +kernel, by decide +kernel, by decide +kernel⟩
abbrev mX3_takeFrom : Mth := (yX3_takeFrom, cX3_takeFrom, 9, none, 3)
theorem ok_X3_takeFrom : MOK mX3_takeFrom 2 := ⟨lw_w_at (i := 355) (by decide +kernel) (by decide +kernel), lw_w_at (i := 25) (by decide +kernel) (by decide +kernel), by decide +kernel, by decide +kernel, by decide +kernel⟩
abbrev mX4_energy : Mth := (yX4_energy, cX4_energy, 6, (some .int), 3)
theorem ok_X4_energy : MOK mX4_energy 0 := ⟨lw_w_at (i := 288) (by decide +kernel) (by decide +kernel), lw_w_at (i := 23) (by decide +kernel) (by decide +kernel), by decide +kernel, by decide +kernel, by decide +kernel⟩
abbrev mX4_gain : Mth := (yX4_gain, cX4_gain, 4, (some .int), 3)
theorem ok_X4_gain : MOK mX4_gain 2 := ⟨lw_w_at (i := 442) (by decide +kernel) (by decide +kernel), lw_w_at (i := 23) (by decide +kernel) (by decide +kernel), by decide +kernel, by decide +kernel, by decide +kernel⟩
abbrev mX4_pairs : Mth := (yX4_pairs, cX4_pairs, 4, (some .int), 3)
theorem ok_X4_pairs : MOK mX4_pairs 0 := ⟨lw_w_at (i := 446) (by decide +kernel) (by decide +kernel), lw_w_at (i := 23) (by decide +kernel) (by decide +kernel), by decide +kernel, by decide +kernel, by decide +kernel⟩
abbrev mX4_patchOf : Mth := (yX4_patchOf, cX4_patchOf, 10, (some .long), 3)
theorem ok_X4_patchOf : MOK mX4_patchOf 1 := ⟨lw_w_at (i := 434) (by decide +kernel) (by decide +kernel), lw_w_at (i := 23) (by decide +kernel) (by decide +kernel), by decide +kernel, by decide +kernel, by decide +kernel⟩
abbrev mX4_walls : Mth := (yX4_walls, cX4_walls, 6, (some .int), 3)
theorem ok_X4_walls : MOK mX4_walls 0 := ⟨lw_w_at (i := 333) (by decide +kernel) (by decide +kernel), lw_w_at (i := 23) (by decide +kernel) (by decide +kernel), by decide +kernel, by decide +kernel, by decide +kernel⟩
abbrev mX5_fill : Mth := (yX5_fill, cX5_fill, 4, none, 3)
theorem ok_X5_fill : MOK mX5_fill 2 := ⟨lw_w_at (i := 385) (by decide +kernel) (by decide +kernel), lw_w_at (i := 26) (by decide +kernel) (by decide +kernel), by decide +kernel, by decide +kernel, by decide +kernel⟩
abbrev mX7_lay : Mth := (yX7_lay, cX7_lay, 4, (some .int), 3)
theorem ok_X7_lay : MOK mX7_lay 3 := ⟨lw_w_at (i := 461) (by decide +kernel) (by decide +kernel), lw_w_at (i := 22) (by decide +kernel) (by decide +kernel), by decide +kernel, by decide +kernel, by decide +kernel⟩
abbrev mX7_read : Mth := (yX7_read, cX7_read, 2, (some .int), 3)
theorem ok_X7_read : MOK mX7_read 0 := ⟨lw_w_at (i := 555) (by decide +kernel) (by decide +kernel), lw_w_at (i := 22) (by decide +kernel) (by decide +kernel), by decide +kernel, by decide +kernel, by decide +kernel⟩
abbrev mX7_setField : Mth := (yX7_setField, cX7_setField, 5, (some .int), 3)
theorem ok_X7_setField : MOK mX7_setField 3 := ⟨lw_w_at (i := 519) (by decide +kernel) (by decide +kernel), lw_w_at (i := 22) (by decide +kernel) (by decide +kernel), by decide +kernel, by decide +kernel, by decide +kernel⟩
abbrev mX7_setPull : Mth := (yX7_setPull, cX7_setPull, 4, (some .int), 3)
theorem ok_X7_setPull : MOK mX7_setPull 2 := ⟨lw_w_at (i := 503) (by decide +kernel) (by decide +kernel), lw_w_at (i := 22) (by decide +kernel) (by decide +kernel), by decide +kernel, by decide +kernel, by decide +kernel⟩
abbrev mL_isText : Mth := (yL_isText, cL_isText, 9, (some .boolean), 4)
theorem ok_L_isText : MOK mL_isText 5 := ⟨lw_w_at (i := 539) (by decide +kernel) (by decide +kernel), lw_w_at (i := 21) (by decide +kernel) (by decide +kernel), by decide +kernel, by decide +kernel, by decide +kernel⟩
abbrev mX0_learnCosts : Mth := (yX0_learnCosts, cX0_learnCosts, 2, none, 4)
theorem ok_X0_learnCosts : MOK mX0_learnCosts 1 := ⟨lw_w_at (i := 351) (by decide +kernel) (by decide +kernel), lw_w_at (i := 24) (by decide +kernel) (by decide +kernel), by decide +kernel, by decide +kernel, by decide +kernel⟩
abbrev mX0_manyWithWalls : Mth := (yX0_manyWithWalls, cX0_manyWithWalls, 3, (some .int), 4)
theorem ok_X0_manyWithWalls : MOK mX0_manyWithWalls 2 := ⟨lw_w_at (i := 595) (by decide +kernel) (by decide +kernel), lw_w_at (i := 24) (by decide +kernel) (by decide +kernel), by decide +kernel, by decide +kernel, by decide +kernel⟩
abbrev mX2_fillUps : Mth := (yX2_fillUps, cX2_fillUps, 5, none, 4)
theorem ok_X2_fillUps : MOK mX2_fillUps 2 := ⟨lw_w_at (i := 607) (by decide +kernel) (by decide +kernel), lw_w_at (i := 27) (by decide +kernel) (by decide +kernel), by decide +kernel, by decide +kernel, by decide +kernel⟩
abbrev mX4_flipGainingCells : Mth := (yX4_flipGainingCells, cX4_flipGainingCells, 4, (some .int), 4)
theorem ok_X4_flipGainingCells : MOK mX4_flipGainingCells 0 := ⟨lw_w_at (i := 535) (by decide +kernel) (by decide +kernel), lw_w_at (i := 23) (by decide +kernel) (by decide +kernel), by decide +kernel, by decide +kernel, by decide +kernel⟩
abbrev mX4_gainingCells : Mth := (yX4_gainingCells, cX4_gainingCells, 4, (some .int), 4)
theorem ok_X4_gainingCells : MOK mX4_gainingCells 0 := ⟨lw_w_at (i := 438) (by decide +kernel) (by decide +kernel), lw_w_at (i := 23) (by decide +kernel) (by decide +kernel), by decide +kernel, by decide +kernel, by decide +kernel⟩
abbrev mX4_patches : Mth := (yX4_patches, cX4_patches, 8, (some .int), 4)
theorem ok_X4_patches : MOK mX4_patches 0 := ⟨lw_w_at (i := 430) (by decide +kernel) (by decide +kernel), lw_w_at (i := 23) (by decide +kernel) (by decide +kernel), by decide +kernel, by decide +kernel, by decide +kernel⟩
abbrev mX7_cell : Mth := (yX7_cell, cX7_cell, 6, (some .int), 4)
theorem ok_X7_cell : MOK mX7_cell 3 := ⟨lw_w_at (i := 507) (by decide +kernel) (by decide +kernel), lw_w_at (i := 22) (by decide +kernel) (by decide +kernel), by decide +kernel, by decide +kernel, by decide +kernel⟩
abbrev mX7_close : Mth := (yX7_close, cX7_close, 2, (some .int), 4)
theorem ok_X7_close : MOK mX7_close 1 := ⟨lw_w_at (i := 499) (by decide +kernel) (by decide +kernel), lw_w_at (i := 22) (by decide +kernel) (by decide +kernel), by decide +kernel, by decide +kernel, by decide +kernel⟩
abbrev mX7_init : Mth := (yX7_init, cX7_init, 1, none, 4)
theorem ok_X7_init : MOK mX7_init 0 := ⟨lw_w_at (i := 39) (by decide +kernel) (by decide +kernel), lw_w_at (i := 22) (by decide +kernel) (by decide +kernel), by decide +kernel, by decide +kernel, by decide +kernel⟩
abbrev mX7_keep : Mth := (yX7_keep, cX7_keep, 1, (some .int), 4)
theorem ok_X7_keep : MOK mX7_keep 0 := ⟨lw_w_at (i := 575) (by decide +kernel) (by decide +kernel), lw_w_at (i := 22) (by decide +kernel) (by decide +kernel), by decide +kernel, by decide +kernel, by decide +kernel⟩
abbrev mX7_restore : Mth := (yX7_restore, cX7_restore, 1, (some .int), 4)
theorem ok_X7_restore : MOK mX7_restore 0 := ⟨lw_w_at (i := 580) (by decide +kernel) (by decide +kernel), lw_w_at (i := 22) (by decide +kernel) (by decide +kernel), by decide +kernel, by decide +kernel, by decide +kernel⟩
abbrev mX7_turn : Mth := (yX7_turn, cX7_turn, 3, (some .int), 4)
theorem ok_X7_turn : MOK mX7_turn 2 := ⟨lw_w_at (i := 527) (by decide +kernel) (by decide +kernel), lw_w_at (i := 22) (by decide +kernel) (by decide +kernel), by decide +kernel, by decide +kernel, by decide +kernel⟩
abbrev mX7_turnPatch : Mth := (yX7_turnPatch, cX7_turnPatch, 5, (some .int), 4)
theorem ok_X7_turnPatch : MOK mX7_turnPatch 2 := ⟨lw_w_at (i := 485) (by decide +kernel) (by decide +kernel), lw_w_at (i := 22) (by decide +kernel) (by decide +kernel), by decide +kernel, by decide +kernel, by decide +kernel⟩
abbrev mL_isSlot : Mth := (yL_isSlot, cL_isSlot, 3, (some .boolean), 5)
theorem ok_L_isSlot : MOK mL_isSlot 3 := ⟨lw_w_at (i := 571) (by decide +kernel) (by decide +kernel), lw_w_at (i := 21) (by decide +kernel) (by decide +kernel), by decide +kernel, by decide +kernel, by decide +kernel⟩
abbrev mX0_greatestEnergy : Mth := (yX0_greatestEnergy, cX0_greatestEnergy, 2, (some .int), 5)
theorem ok_X0_greatestEnergy : MOK mX0_greatestEnergy 1 := ⟨lw_w_at (i := 415) (by decide +kernel) (by decide +kernel), lw_w_at (i := 24) (by decide +kernel) (by decide +kernel), by decide +kernel, by decide +kernel, by decide +kernel⟩
abbrev mX0_leastEnergy : Mth := (yX0_leastEnergy, cX0_leastEnergy, 2, (some .int), 5)
theorem ok_X0_leastEnergy : MOK mX0_leastEnergy 1 := ⟨lw_w_at (i := 347) (by decide +kernel) (by decide +kernel), lw_w_at (i := 24) (by decide +kernel) (by decide +kernel), by decide +kernel, by decide +kernel, by decide +kernel⟩
abbrev mX0_manyOfLeastWithUps : Mth := (yX0_manyOfLeastWithUps, cX0_manyOfLeastWithUps, 3, (some .int), 5)
theorem ok_X0_manyOfLeastWithUps : MOK mX0_manyOfLeastWithUps 2 := ⟨lw_w_at (i := 603) (by decide +kernel) (by decide +kernel), lw_w_at (i := 24) (by decide +kernel) (by decide +kernel), by decide +kernel, by decide +kernel, by decide +kernel⟩
abbrev mX0_manyWithEnergy : Mth := (yX0_manyWithEnergy, cX0_manyWithEnergy, 3, (some .int), 5)
theorem ok_X0_manyWithEnergy : MOK mX0_manyWithEnergy 2 := ⟨lw_w_at (i := 419) (by decide +kernel) (by decide +kernel), lw_w_at (i := 24) (by decide +kernel) (by decide +kernel), by decide +kernel, by decide +kernel, by decide +kernel⟩
abbrev mX0_sumOfWeights : Mth := (yX0_sumOfWeights, cX0_sumOfWeights, 9, (some .float), 5)
theorem ok_X0_sumOfWeights : MOK mX0_sumOfWeights 3 := ⟨lw_w_at (i := 650) (by decide +kernel) (by decide +kernel), lw_w_at (i := 24) (by decide +kernel) (by decide +kernel), by decide +kernel, by decide +kernel, by decide +kernel⟩
abbrev mX7_sweep : Mth := (yX7_sweep, cX7_sweep, 5, (some .int), 5)
theorem ok_X7_sweep : MOK mX7_sweep 1 := ⟨lw_w_at (i := 531) (by decide +kernel) (by decide +kernel), lw_w_at (i := 22) (by decide +kernel) (by decide +kernel), by decide +kernel, by decide +kernel, by decide +kernel⟩
abbrev mX7_withWalls : Mth := (yX7_withWalls, cX7_withWalls, 2, (some .int), 5)
theorem ok_X7_withWalls : MOK mX7_withWalls 1 := ⟨lw_w_at (i := 591) (by decide +kernel) (by decide +kernel), lw_w_at (i := 22) (by decide +kernel) (by decide +kernel), by decide +kernel, by decide +kernel, by decide +kernel⟩
abbrev mX7_count : Mth := (yX7_count, cX7_count, 2, (some .int), 6)
theorem ok_X7_count : MOK mX7_count 1 := ⟨lw_w_at (i := 284) (by decide +kernel) (by decide +kernel), lw_w_at (i := 22) (by decide +kernel) (by decide +kernel), by decide +kernel, by decide +kernel, by decide +kernel⟩
abbrev mX7_heat : Mth := (yX7_heat, cX7_heat, 5, (some .int), 6)
theorem ok_X7_heat : MOK mX7_heat 2 := ⟨lw_w_at (i := 645) (by decide +kernel) (by decide +kernel), lw_w_at (i := 22) (by decide +kernel) (by decide +kernel), by decide +kernel, by decide +kernel, by decide +kernel⟩
abbrev mX7_withEnergy : Mth := (yX7_withEnergy, cX7_withEnergy, 2, (some .int), 6)
theorem ok_X7_withEnergy : MOK mX7_withEnergy 1 := ⟨lw_w_at (i := 587) (by decide +kernel) (by decide +kernel), lw_w_at (i := 22) (by decide +kernel) (by decide +kernel), by decide +kernel, by decide +kernel, by decide +kernel⟩
abbrev mX7_withUps : Mth := (yX7_withUps, cX7_withUps, 3, (some .int), 6)
theorem ok_X7_withUps : MOK mX7_withUps 2 := ⟨lw_w_at (i := 599) (by decide +kernel) (by decide +kernel), lw_w_at (i := 22) (by decide +kernel) (by decide +kernel), by decide +kernel, by decide +kernel, by decide +kernel⟩
abbrev mL_areAlike : Mth := (yL_areAlike, cL_areAlike, 6, (some .boolean), 7)
theorem ok_L_areAlike : MOK mL_areAlike 2 := ⟨lw_w_at (i := 659) (by decide +kernel) (by decide +kernel), lw_w_at (i := 21) (by decide +kernel) (by decide +kernel), by decide +kernel, by decide +kernel, by decide +kernel⟩
abbrev mL_isAll : Mth := (yL_isAll, cL_isAll, 7, (some .boolean), 7)
theorem ok_L_isAll : MOK mL_isAll 3 := ⟨lw_w_at (i := 583) (by decide +kernel) (by decide +kernel), lw_w_at (i := 21) (by decide +kernel) (by decide +kernel), by decide +kernel, by decide +kernel, by decide +kernel⟩
abbrev mL_isLaid : Mth := (yL_isLaid, cL_isLaid, 6, (some .boolean), 7)
theorem ok_L_isLaid : MOK mL_isLaid 5 := ⟨lw_w_at (i := 457) (by decide +kernel) (by decide +kernel), lw_w_at (i := 21) (by decide +kernel) (by decide +kernel), by decide +kernel, by decide +kernel, by decide +kernel⟩
abbrev mL_isWell : Mth := (yL_isWell, cL_isWell, 17, (some .boolean), 7)
theorem ok_L_isWell : MOK mL_isWell 1 := ⟨lw_w_at (i := 670) (by decide +kernel) (by decide +kernel), lw_w_at (i := 21) (by decide +kernel) (by decide +kernel), by decide +kernel, by decide +kernel, by decide +kernel⟩
abbrev mL_isStep : Mth := (yL_isStep, cL_isStep, 14, (some .boolean), 8)
theorem ok_L_isStep : MOK mL_isStep 4 := ⟨lw_w_at (i := 495) (by rfl) (by decide +kernel), lw_w_at (i := 21) (by decide +kernel) (by decide +kernel), by decide +kernel, by decide +kernel, by decide +kernel⟩
theorem fX0_12 : LkF RX0 12 0 0 := ⟨_, _, _, cls_0, by decide, Or.inl (lw_w_at (w := .fieldLink RX0 12 (TX0 0).1 (TX0 0).2.1 (TX0 0).2.2.1) (i := 178) (by decide +kernel) (by decide +kernel))⟩
theorem fX0_100 : LkF RX0 100 3 4 := ⟨_, _, _, cls_3, by decide, Or.inr ⟨_, lw_x_at (w := .fieldLinkNest RX0 100 (TX3 4).1 (TX3 4).2.1 (TX3 4).2.2.1 "SpinStrips") (i := 121) (by decide +kernel) (by decide +kernel)⟩⟩
theorem gX0_52 : LkP RX0 52 0 9 (.boolean) := ⟨_, _, _, cls_0, by decide, Or.inl (lw_w_at (w := .fieldLink RX0 52 (TX0 9).1 (TX0 9).2.1 (TX0 9).2.2.1) (i := 187) (by decide +kernel) (by decide +kernel)), by decide +kernel, rfl⟩
theorem gX0_56 : LkP RX0 56 0 10 (.boolean) := ⟨_, _, _, cls_0, by decide, Or.inl (lw_w_at (w := .fieldLink RX0 56 (TX0 10).1 (TX0 10).2.1 (TX0 10).2.2.1) (i := 188) (by decide +kernel) (by decide +kernel)), by decide +kernel, rfl⟩
theorem gX0_59 : LkP RX0 59 0 11 (.boolean) := ⟨_, _, _, cls_0, by decide, Or.inl (lw_w_at (w := .fieldLink RX0 59 (TX0 11).1 (TX0 11).2.1 (TX0 11).2.2.1) (i := 189) (by decide +kernel) (by decide +kernel)), by decide +kernel, rfl⟩
theorem fX0_85 : LkF RX0 85 4 0 := ⟨_, _, _, cls_4, by decide, Or.inr ⟨_, lw_x_at (w := .fieldLinkNest RX0 85 (TX4 0).1 (TX4 0).2.1 (TX4 0).2.2.1 "SpinStrips") (i := 57) (by decide +kernel) (by decide +kernel)⟩⟩
theorem fX0_90 : LkF RX0 90 4 1 := ⟨_, _, _, cls_4, by decide, Or.inr ⟨_, lw_x_at (w := .fieldLinkNest RX0 90 (TX4 1).1 (TX4 1).2.1 (TX4 1).2.2.1 "SpinStrips") (i := 61) (by decide +kernel) (by decide +kernel)⟩⟩
theorem fX2_60 : LkF RX2 60 3 0 := ⟨_, _, _, cls_3, by decide, Or.inr ⟨_, lw_x_at (w := .fieldLinkNest RX2 60 (TX3 0).1 (TX3 0).2.1 (TX3 0).2.2.1 "SpinStrips") (i := 113) (by decide +kernel) (by decide +kernel)⟩⟩
theorem fX2_73 : LkF RX2 73 3 7 := ⟨_, _, _, cls_3, by decide, Or.inr ⟨_, lw_x_at (w := .fieldLinkNest RX2 73 (TX3 7).1 (TX3 7).2.1 (TX3 7).2.2.1 "SpinStrips") (i := 129) (by decide +kernel) (by decide +kernel)⟩⟩
theorem fX2_70 : LkF RX2 70 3 6 := ⟨_, _, _, cls_3, by decide, Or.inr ⟨_, lw_x_at (w := .fieldLinkNest RX2 70 (TX3 6).1 (TX3 6).2.1 (TX3 6).2.2.1 "SpinStrips") (i := 126) (by decide +kernel) (by decide +kernel)⟩⟩
theorem fX2_11 : LkF RX2 11 2 0 := ⟨_, _, _, cls_2, by decide, Or.inl (lw_w_at (w := .fieldLink RX2 11 (TX2 0).1 (TX2 0).2.1 (TX2 0).2.2.1) (i := 168) (by decide +kernel) (by decide +kernel))⟩
theorem fX3_21 : LkF RX3 21 3 3 := ⟨_, _, _, cls_3, by decide, Or.inl (lw_w_at (w := .fieldLink RX3 21 (TX3 3).1 (TX3 3).2.1 (TX3 3).2.2.1) (i := 118) (by decide +kernel) (by decide +kernel))⟩
theorem fX3_37 : LkF RX3 37 3 7 := ⟨_, _, _, cls_3, by decide, Or.inl (lw_w_at (w := .fieldLink RX3 37 (TX3 7).1 (TX3 7).2.1 (TX3 7).2.2.1) (i := 127) (by decide +kernel) (by decide +kernel))⟩
theorem fX4_36 : LkF RX4 36 4 6 := ⟨_, _, _, cls_4, by decide, Or.inl (lw_w_at (w := .fieldLink RX4 36 (TX4 6).1 (TX4 6).2.1 (TX4 6).2.2.1) (i := 72) (by decide +kernel) (by decide +kernel))⟩
theorem fX4_32 : LkF RX4 32 4 5 := ⟨_, _, _, cls_4, by decide, Or.inl (lw_w_at (w := .fieldLink RX4 32 (TX4 5).1 (TX4 5).2.1 (TX4 5).2.2.1) (i := 71) (by decide +kernel) (by decide +kernel))⟩
theorem fX4_18 : LkF RX4 18 4 2 := ⟨_, _, _, cls_4, by decide, Or.inl (lw_w_at (w := .fieldLink RX4 18 (TX4 2).1 (TX4 2).2.1 (TX4 2).2.2.1) (i := 63) (by decide +kernel) (by decide +kernel))⟩
theorem fX4_9 : LkF RX4 9 4 0 := ⟨_, _, _, cls_4, by decide, Or.inl (lw_w_at (w := .fieldLink RX4 9 (TX4 0).1 (TX4 0).2.1 (TX4 0).2.2.1) (i := 55) (by decide +kernel) (by decide +kernel))⟩
theorem fX4_15 : LkF RX4 15 4 1 := ⟨_, _, _, cls_4, by decide, Or.inl (lw_w_at (w := .fieldLink RX4 15 (TX4 1).1 (TX4 1).2.1 (TX4 1).2.2.1) (i := 59) (by decide +kernel) (by decide +kernel))⟩
theorem fX6_15 : LkF RX6 15 6 1 := ⟨_, _, _, cls_6, by decide, Or.inl (lw_w_at (w := .fieldLink RX6 15 (TX6 1).1 (TX6 1).2.1 (TX6 1).2.2.1) (i := 242) (by decide +kernel) (by decide +kernel))⟩
theorem fX6_9 : LkF RX6 9 6 0 := ⟨_, _, _, cls_6, by decide, Or.inl (lw_w_at (w := .fieldLink RX6 9 (TX6 0).1 (TX6 0).2.1 (TX6 0).2.2.1) (i := 241) (by decide +kernel) (by decide +kernel))⟩
theorem gX6_15 : LkP RX6 15 6 1 (.int) := ⟨_, _, _, cls_6, by decide, Or.inl (lw_w_at (w := .fieldLink RX6 15 (TX6 1).1 (TX6 1).2.1 (TX6 1).2.2.1) (i := 242) (by decide +kernel) (by decide +kernel)), by decide +kernel, rfl⟩
theorem fX6_19 : LkF RX6 19 6 2 := ⟨_, _, _, cls_6, by decide, Or.inl (lw_w_at (w := .fieldLink RX6 19 (TX6 2).1 (TX6 2).2.1 (TX6 2).2.2.1) (i := 244) (by decide +kernel) (by decide +kernel))⟩
theorem fX6_22 : LkF RX6 22 6 3 := ⟨_, _, _, cls_6, by decide, Or.inl (lw_w_at (w := .fieldLink RX6 22 (TX6 3).1 (TX6 3).2.1 (TX6 3).2.2.1) (i := 246) (by decide +kernel) (by decide +kernel))⟩
theorem fX7_40 : LkF RX7 40 7 5 := ⟨_, _, _, cls_7, by decide, Or.inl (lw_w_at (w := .fieldLink RX7 40 (TX7 5).1 (TX7 5).2.1 (TX7 5).2.2.1) (i := 267) (by decide +kernel) (by decide +kernel))⟩
theorem fX7_127 : LkF RX7 127 6 1 := ⟨_, _, _, cls_6, by decide, Or.inr ⟨_, lw_x_at (w := .fieldLinkNest RX7 127 (TX6 1).1 (TX6 1).2.1 (TX6 1).2.2.1 "SpinStrips") (i := 243) (by decide +kernel) (by decide +kernel)⟩⟩
theorem gX7_127 : LkP RX7 127 6 1 (.int) := ⟨_, _, _, cls_6, by decide, Or.inr ⟨_, lw_x_at (w := .fieldLinkNest RX7 127 (TX6 1).1 (TX6 1).2.1 (TX6 1).2.2.1 "SpinStrips") (i := 243) (by decide +kernel) (by decide +kernel)⟩, by decide +kernel, rfl⟩
theorem fX0_35 : LkF RX0 35 0 4 := ⟨_, _, _, cls_0, by decide, Or.inl (lw_w_at (w := .fieldLink RX0 35 (TX0 4).1 (TX0 4).2.1 (TX0 4).2.2.1) (i := 182) (by decide +kernel) (by decide +kernel))⟩
theorem kX0_78 : LkS RX0 78 mX0_at 2 := ⟨ok_X0_at, lw_w_at (i := 424) (by decide +kernel) (by decide +kernel), lw_w_at (i := 425) (by decide +kernel) (by decide +kernel)⟩
theorem kX2_3 : Cond.methodLink RX2 3 Lib.objectInit ∈ lw_w := lw_w_at (i := 166) (by decide +kernel) (by decide +kernel)
theorem gX2_11 : LkQ RX2 11 2 0 (.array (.array .int)) := ⟨_, _, _, cls_2, by decide, lw_w_at (w := .fieldLink RX2 11 (TX2 0).1 (TX2 0).2.1 (TX2 0).2.2.1) (i := 168) (by decide +kernel) (by decide +kernel), by decide +kernel, rfl, rfl⟩
theorem gX2_16 : LkP RX2 16 2 1 (.array (.array .int)) := ⟨_, _, _, cls_2, by decide, Or.inl (lw_w_at (w := .fieldLink RX2 16 (TX2 1).1 (TX2 1).2.1 (TX2 1).2.2.1) (i := 169) (by decide +kernel) (by decide +kernel)), by decide +kernel, rfl⟩
theorem gX2_19 : LkP RX2 19 2 2 (.array (.array .int)) := ⟨_, _, _, cls_2, by decide, Or.inl (lw_w_at (w := .fieldLink RX2 19 (TX2 2).1 (TX2 2).2.1 (TX2 2).2.2.1) (i := 170) (by decide +kernel) (by decide +kernel)), by decide +kernel, rfl⟩
theorem kX2_66 : LkV RX2 66 mX2_costOfNext 4 := ⟨ok_X2_costOfNext, lw_w_at (i := 618) (by decide +kernel) (by decide +kernel), lw_w_at (i := 620) (by decide +kernel) (by decide +kernel), lw_w_at (i := 17) (by decide +kernel) (by decide +kernel)⟩
theorem fX2_26 : LkF RX2 26 3 2 := ⟨_, _, _, cls_3, by decide, Or.inr ⟨_, lw_x_at (w := .fieldLinkNest RX2 26 (TX3 2).1 (TX3 2).2.1 (TX3 2).2.2.1 "SpinStrips") (i := 117) (by decide +kernel) (by decide +kernel)⟩⟩
theorem kX2_63 : LkV RX2 63 mX3_seam 2 := ⟨ok_X3_seam, lw_w_at (i := 617) (by decide +kernel) (by decide +kernel), lw_w_at (i := 405) (by decide +kernel) (by decide +kernel), lw_w_at (i := 406) (by decide +kernel) (by decide +kernel)⟩
theorem kX2_54 : LkS RX2 54 mJ9_min_7cf53 2 := ⟨ok_J9_min_7cf53, lw_w_at (i := 622) (by decide +kernel) (by decide +kernel), lw_w_at (i := 623) (by decide +kernel) (by decide +kernel)⟩
theorem kX3_3 : Cond.methodLink RX3 3 Lib.objectInit ∈ lw_w := lw_w_at (i := 108) (by decide +kernel) (by decide +kernel)
theorem gX3_9 : LkP RX3 9 3 0 (.int) := ⟨_, _, _, cls_3, by decide, Or.inl (lw_w_at (w := .fieldLink RX3 9 (TX3 0).1 (TX3 0).2.1 (TX3 0).2.2.1) (i := 111) (by decide +kernel) (by decide +kernel)), by decide +kernel, rfl⟩
theorem gX3_15 : LkP RX3 15 3 1 (.int) := ⟨_, _, _, cls_3, by decide, Or.inl (lw_w_at (w := .fieldLink RX3 15 (TX3 1).1 (TX3 1).2.1 (TX3 1).2.2.1) (i := 114) (by decide +kernel) (by decide +kernel)), by decide +kernel, rfl⟩
theorem gX3_18 : LkP RX3 18 3 2 (.int) := ⟨_, _, _, cls_3, by decide, Or.inl (lw_w_at (w := .fieldLink RX3 18 (TX3 2).1 (TX3 2).2.1 (TX3 2).2.2.1) (i := 115) (by decide +kernel) (by decide +kernel)), by decide +kernel, rfl⟩
theorem gX3_21 : LkP RX3 21 3 3 (.boolean) := ⟨_, _, _, cls_3, by decide, Or.inl (lw_w_at (w := .fieldLink RX3 21 (TX3 3).1 (TX3 3).2.1 (TX3 3).2.2.1) (i := 118) (by decide +kernel) (by decide +kernel)), by decide +kernel, rfl⟩
theorem gX3_25 : LkP RX3 25 3 4 (.int) := ⟨_, _, _, cls_3, by decide, Or.inl (lw_w_at (w := .fieldLink RX3 25 (TX3 4).1 (TX3 4).2.1 (TX3 4).2.2.1) (i := 120) (by decide +kernel) (by decide +kernel)), by decide +kernel, rfl⟩
