theorem in_X0 : ∀ w ∈ u_ws RX0 TX0 6, w ∈ TT := fun w hw => List.mem_filter.mpr ⟨(show ∀ w ∈ u_ws RX0 TX0 6, w ∈ lw_tbl from by decide +kernel) w hw, (show ∀ w ∈ u_ws RX0 TX0 6, goodWord w = true from by decide +kernel) w hw⟩
theorem in_X2 : ∀ w ∈ u_ws RX2 TX2 2, w ∈ TT := fun w hw => List.mem_filter.mpr ⟨(show ∀ w ∈ u_ws RX2 TX2 2, w ∈ lw_tbl from by decide +kernel) w hw, (show ∀ w ∈ u_ws RX2 TX2 2, goodWord w = true from by decide +kernel) w hw⟩
theorem in_X4 : ∀ w ∈ u_ws RX4 TX4 6, w ∈ TT := fun w hw => List.mem_filter.mpr ⟨(show ∀ w ∈ u_ws RX4 TX4 6, w ∈ lw_tbl from by decide +kernel) w hw, (show ∀ w ∈ u_ws RX4 TX4 6, goodWord w = true from by decide +kernel) w hw⟩
theorem in_X5 : ∀ w ∈ u_ws RX5 TX5 7, w ∈ TT := fun w hw => List.mem_filter.mpr ⟨(show ∀ w ∈ u_ws RX5 TX5 7, w ∈ lw_tbl from by decide +kernel) w hw, (show ∀ w ∈ u_ws RX5 TX5 7, goodWord w = true from by decide +kernel) w hw⟩
theorem in_X6 : ∀ w ∈ u_ws RX6 TX6 8, w ∈ TT := fun w hw => List.mem_filter.mpr ⟨(show ∀ w ∈ u_ws RX6 TX6 8, w ∈ lw_tbl from by decide +kernel) w hw, (show ∀ w ∈ u_ws RX6 TX6 8, goodWord w = true from by decide +kernel) w hw⟩
theorem in_X7 : ∀ w ∈ u_ws RX7 TX7 11, w ∈ TT := fun w hw => List.mem_filter.mpr ⟨(show ∀ w ∈ u_ws RX7 TX7 11, w ∈ lw_tbl from by decide +kernel) w hw, (show ∀ w ∈ u_ws RX7 TX7 11, goodWord w = true from by decide +kernel) w hw⟩
theorem in_X9 : ∀ w ∈ u_ws RX9 TX9 4, w ∈ TT := fun w hw => List.mem_filter.mpr ⟨(show ∀ w ∈ u_ws RX9 TX9 4, w ∈ lw_tbl from by decide +kernel) w hw, (show ∀ w ∈ u_ws RX9 TX9 4, goodWord w = true from by decide +kernel) w hw⟩
theorem in_X10 : ∀ w ∈ u_ws RX10 TX10 41, w ∈ TT := fun w hw => List.mem_filter.mpr ⟨(show ∀ w ∈ u_ws RX10 TX10 41, w ∈ lw_tbl from by decide +kernel) w hw, (show ∀ w ∈ u_ws RX10 TX10 41, goodWord w = true from by decide +kernel) w hw⟩
abbrev kX0_clear : MK := (yX0_clear, cX0_clear, 1, none)
theorem wd_0 : Cond.initialized RX0 ∈ TT := List.mem_filter.mpr ⟨List.mem_of_getElem? (i := 65) (by decide +kernel), by decide +kernel⟩
theorem wd_1 : Cond.code yX0_clear cX0_clear 1 none ∈ TT := List.mem_filter.mpr ⟨List.mem_of_getElem? (i := 374) (by decide +kernel), by decide +kernel⟩
theorem mk_X0_clear : MKok kX0_clear 0 := ⟨wd_0, wd_1, by decide +kernel, by decide⟩
abbrev kX0_isEmpty : MK := (yX0_isEmpty, cX0_isEmpty, 1, (some .boolean))
theorem wd_2 : Cond.code yX0_isEmpty cX0_isEmpty 1 (some .boolean) ∈ TT := List.mem_filter.mpr ⟨List.mem_of_getElem? (i := 393) (by decide +kernel), by decide +kernel⟩
theorem mk_X0_isEmpty : MKok kX0_isEmpty 0 := ⟨wd_0, wd_2, by decide +kernel, by decide⟩
abbrev kX0_open : MK := (yX0_open, cX0_open, 2, none)
theorem wd_3 : Cond.code yX0_open cX0_open 2 none ∈ TT := List.mem_filter.mpr ⟨List.mem_of_getElem? (i := 388) (by decide +kernel), by decide +kernel⟩
theorem mk_X0_open : MKok kX0_open 1 := ⟨wd_0, wd_3, by decide +kernel, by decide⟩
abbrev kX0_close : MK := (yX0_close, cX0_close, 1, none)
theorem wd_4 : Cond.code yX0_close cX0_close 1 none ∈ TT := List.mem_filter.mpr ⟨List.mem_of_getElem? (i := 441) (by decide +kernel), by decide +kernel⟩
theorem mk_X0_close : MKok kX0_close 0 := ⟨wd_0, wd_4, by decide +kernel, by decide⟩
abbrev kX0_statement : MK := (yX0_statement, cX0_statement, 1, (some .int))
theorem wd_5 : Cond.code yX0_statement cX0_statement 1 (some .int) ∈ TT := List.mem_filter.mpr ⟨List.mem_of_getElem? (i := 397) (by decide +kernel), by decide +kernel⟩
theorem mk_X0_statement : MKok kX0_statement 0 := ⟨wd_0, wd_5, by decide +kernel, by decide⟩
abbrev kX0_stage : MK := (yX0_stage, cX0_stage, 1, (some .int))
theorem wd_6 : Cond.code yX0_stage cX0_stage 1 (some .int) ∈ TT := List.mem_filter.mpr ⟨List.mem_of_getElem? (i := 401) (by decide +kernel), by decide +kernel⟩
theorem mk_X0_stage : MKok kX0_stage 0 := ⟨wd_0, wd_6, by decide +kernel, by decide⟩
abbrev kX0_setStage : MK := (yX0_setStage, cX0_setStage, 2, none)
theorem wd_7 : Cond.code yX0_setStage cX0_setStage 2 none ∈ TT := List.mem_filter.mpr ⟨List.mem_of_getElem? (i := 429) (by decide +kernel), by decide +kernel⟩
theorem mk_X0_setStage : MKok kX0_setStage 1 := ⟨wd_0, wd_7, by decide +kernel, by decide⟩
abbrev kX0_keep : MK := (yX0_keep, cX0_keep, 4, none)
theorem wd_8 : Cond.code yX0_keep cX0_keep 4 none ∈ TT := List.mem_filter.mpr ⟨List.mem_of_getElem? (i := 564) (by decide +kernel), by decide +kernel⟩
theorem mk_X0_keep : MKok kX0_keep 3 := ⟨wd_0, wd_8, by decide +kernel, by decide⟩
abbrev kX0_keptEnding : MK := (yX0_keptEnding, cX0_keptEnding, 1, (some .int))
theorem wd_9 : Cond.code yX0_keptEnding cX0_keptEnding 1 (some .int) ∈ TT := List.mem_filter.mpr ⟨List.mem_of_getElem? (i := 572) (by decide +kernel), by decide +kernel⟩
theorem mk_X0_keptEnding : MKok kX0_keptEnding 0 := ⟨wd_0, wd_9, by decide +kernel, by decide⟩
abbrev kX0_keptKind : MK := (yX0_keptKind, cX0_keptKind, 1, (some .int))
theorem wd_10 : Cond.code yX0_keptKind cX0_keptKind 1 (some .int) ∈ TT := List.mem_filter.mpr ⟨List.mem_of_getElem? (i := 576) (by decide +kernel), by decide +kernel⟩
theorem mk_X0_keptKind : MKok kX0_keptKind 0 := ⟨wd_0, wd_10, by decide +kernel, by decide⟩
abbrev kX0_keptNumber : MK := (yX0_keptNumber, cX0_keptNumber, 1, (some .int))
theorem wd_11 : Cond.code yX0_keptNumber cX0_keptNumber 1 (some .int) ∈ TT := List.mem_filter.mpr ⟨List.mem_of_getElem? (i := 580) (by decide +kernel), by decide +kernel⟩
theorem mk_X0_keptNumber : MKok kX0_keptNumber 0 := ⟨wd_0, wd_11, by decide +kernel, by decide⟩
abbrev kX2_clear : MK := (yX2_clear, cX2_clear, 1, none)
theorem wd_12 : Cond.initialized RX2 ∈ TT := List.mem_filter.mpr ⟨List.mem_of_getElem? (i := 64) (by decide +kernel), by decide +kernel⟩
theorem wd_13 : Cond.code yX2_clear cX2_clear 1 none ∈ TT := List.mem_filter.mpr ⟨List.mem_of_getElem? (i := 369) (by decide +kernel), by decide +kernel⟩
theorem mk_X2_clear : MKok kX2_clear 0 := ⟨wd_12, wd_13, by decide +kernel, by decide⟩
abbrev kX2_take : MK := (yX2_take, cX2_take, 2, none)
theorem wd_14 : Cond.code yX2_take cX2_take 2 none ∈ TT := List.mem_filter.mpr ⟨List.mem_of_getElem? (i := 458) (by decide +kernel), by decide +kernel⟩
theorem mk_X2_take : MKok kX2_take 1 := ⟨wd_12, wd_14, by decide +kernel, by decide⟩
abbrev kX2_free : MK := (yX2_free, cX2_free, 2, none)
theorem wd_15 : Cond.code yX2_free cX2_free 2 none ∈ TT := List.mem_filter.mpr ⟨List.mem_of_getElem? (i := 584) (by decide +kernel), by decide +kernel⟩
theorem mk_X2_free : MKok kX2_free 1 := ⟨wd_12, wd_15, by decide +kernel, by decide⟩
abbrev kX2_most : MK := (yX2_most, cX2_most, 1, (some .int))
theorem wd_16 : Cond.code yX2_most cX2_most 1 (some .int) ∈ TT := List.mem_filter.mpr ⟨List.mem_of_getElem? (i := 608) (by decide +kernel), by decide +kernel⟩
theorem mk_X2_most : MKok kX2_most 0 := ⟨wd_12, wd_16, by decide +kernel, by decide⟩
abbrev kX2_sum : MK := (yX2_sum, cX2_sum, 3, (some .int))
theorem wd_17 : Cond.code yX2_sum cX2_sum 3 (some .int) ∈ TT := List.mem_filter.mpr ⟨List.mem_of_getElem? (i := 612) (by decide +kernel), by decide +kernel⟩
theorem mk_X2_sum : MKok kX2_sum 0 := ⟨wd_12, wd_17, by decide +kernel, by decide⟩
abbrev kX3_makingPrice : MK := (yX3_makingPrice, cX3_makingPrice, 1, (some .int))
theorem wd_18 : Cond.initialized RX3 ∈ TT := List.mem_filter.mpr ⟨List.mem_of_getElem? (i := 68) (by decide +kernel), by decide +kernel⟩
theorem wd_19 : Cond.code yX3_makingPrice cX3_makingPrice 1 (some .int) ∈ TT := List.mem_filter.mpr ⟨List.mem_of_getElem? (i := 483) (by decide +kernel), by decide +kernel⟩
theorem mk_X3_makingPrice : MKok kX3_makingPrice 1 := ⟨wd_18, wd_19, by decide +kernel, by decide⟩
abbrev kX4_clear : MK := (yX4_clear, cX4_clear, 1, none)
theorem wd_20 : Cond.initialized RX4 ∈ TT := List.mem_filter.mpr ⟨List.mem_of_getElem? (i := 62) (by decide +kernel), by decide +kernel⟩
theorem wd_21 : Cond.code yX4_clear cX4_clear 1 none ∈ TT := List.mem_filter.mpr ⟨List.mem_of_getElem? (i := 355) (by decide +kernel), by decide +kernel⟩
theorem mk_X4_clear : MKok kX4_clear 0 := ⟨wd_20, wd_21, by decide +kernel, by decide⟩
abbrev kX4_read : MK := (yX4_read, cX4_read, 2, (some .int))
theorem wd_22 : Cond.code yX4_read cX4_read 2 (some .int) ∈ TT := List.mem_filter.mpr ⟨List.mem_of_getElem? (i := 433) (by decide +kernel), by decide +kernel⟩
theorem mk_X4_read : MKok kX4_read 1 := ⟨wd_20, wd_22, by decide +kernel, by decide⟩
abbrev kX4_write : MK := (yX4_write, cX4_write, 3, none)
theorem wd_23 : Cond.code yX4_write cX4_write 3 none ∈ TT := List.mem_filter.mpr ⟨List.mem_of_getElem? (i := 359) (by decide +kernel), by decide +kernel⟩
theorem mk_X4_write : MKok kX4_write 2 := ⟨wd_20, wd_23, by decide +kernel, by decide⟩
abbrev kX4_result : MK := (yX4_result, cX4_result, 1, (some .int))
theorem wd_24 : Cond.code yX4_result cX4_result 1 (some .int) ∈ TT := List.mem_filter.mpr ⟨List.mem_of_getElem? (i := 524) (by decide +kernel), by decide +kernel⟩
theorem mk_X4_result : MKok kX4_result 0 := ⟨wd_20, wd_24, by decide +kernel, by decide⟩
abbrev kX4_setResult : MK := (yX4_setResult, cX4_setResult, 2, none)
theorem wd_25 : Cond.code yX4_setResult cX4_setResult 2 none ∈ TT := List.mem_filter.mpr ⟨List.mem_of_getElem? (i := 520) (by decide +kernel), by decide +kernel⟩
theorem mk_X4_setResult : MKok kX4_setResult 1 := ⟨wd_20, wd_25, by decide +kernel, by decide⟩
abbrev kX4_lengthOf : MK := (yX4_lengthOf, cX4_lengthOf, 2, (some .int))
theorem wd_26 : Cond.code yX4_lengthOf cX4_lengthOf 2 (some .int) ∈ TT := List.mem_filter.mpr ⟨List.mem_of_getElem? (i := 495) (by decide +kernel), by decide +kernel⟩
theorem mk_X4_lengthOf : MKok kX4_lengthOf 1 := ⟨wd_20, wd_26, by decide +kernel, by decide⟩
abbrev kX4_makeRow : MK := (yX4_makeRow, cX4_makeRow, 3, none)
theorem wd_27 : Cond.code yX4_makeRow cX4_makeRow 3 none ∈ TT := List.mem_filter.mpr ⟨List.mem_of_getElem? (i := 487) (by decide +kernel), by decide +kernel⟩
theorem mk_X4_makeRow : MKok kX4_makeRow 2 := ⟨wd_20, wd_27, by decide +kernel, by decide⟩
abbrev kX4_forgetRow : MK := (yX4_forgetRow, cX4_forgetRow, 2, none)
theorem wd_28 : Cond.code yX4_forgetRow cX4_forgetRow 2 none ∈ TT := List.mem_filter.mpr ⟨List.mem_of_getElem? (i := 512) (by decide +kernel), by decide +kernel⟩
theorem mk_X4_forgetRow : MKok kX4_forgetRow 1 := ⟨wd_20, wd_28, by decide +kernel, by decide⟩
abbrev kX4_shareRow : MK := (yX4_shareRow, cX4_shareRow, 3, none)
theorem wd_29 : Cond.code yX4_shareRow cX4_shareRow 3 none ∈ TT := List.mem_filter.mpr ⟨List.mem_of_getElem? (i := 516) (by decide +kernel), by decide +kernel⟩
theorem mk_X4_shareRow : MKok kX4_shareRow 2 := ⟨wd_20, wd_29, by decide +kernel, by decide⟩
abbrev kX4_load : MK := (yX4_load, cX4_load, 4, (some .int))
theorem wd_30 : Cond.code yX4_load cX4_load 4 (some .int) ∈ TT := List.mem_filter.mpr ⟨List.mem_of_getElem? (i := 500) (by decide +kernel), by decide +kernel⟩
theorem mk_X4_load : MKok kX4_load 2 := ⟨wd_20, wd_30, by decide +kernel, by decide⟩
abbrev kX4_store : MK := (yX4_store, cX4_store, 5, none)
theorem wd_31 : Cond.code yX4_store cX4_store 5 none ∈ TT := List.mem_filter.mpr ⟨List.mem_of_getElem? (i := 504) (by decide +kernel), by decide +kernel⟩
theorem mk_X4_store : MKok kX4_store 3 := ⟨wd_20, wd_31, by decide +kernel, by decide⟩
abbrev kX4_equalTo : MK := (yX4_equalTo, cX4_equalTo, 3, (some .boolean))
theorem wd_32 : Cond.code yX4_equalTo cX4_equalTo 3 (some .boolean) ∈ TT := List.mem_filter.mpr ⟨List.mem_of_getElem? (i := 651) (by decide +kernel), by decide +kernel⟩
theorem mk_X4_equalTo : MKok kX4_equalTo 1 := ⟨wd_20, wd_32, by decide +kernel, by decide⟩
abbrev kX4_rowEqualTo : MK := (yX4_rowEqualTo, cX4_rowEqualTo, 5, (some .boolean))
theorem wd_33 : Cond.code yX4_rowEqualTo cX4_rowEqualTo 5 (some .boolean) ∈ TT := List.mem_filter.mpr ⟨List.mem_of_getElem? (i := 655) (by decide +kernel), by decide +kernel⟩
theorem mk_X4_rowEqualTo : MKok kX4_rowEqualTo 2 := ⟨wd_20, wd_33, by decide +kernel, by decide⟩
abbrev kX5_statements : MK := (yX5_statements, cX5_statements, 1, (some .int))
theorem wd_34 : Cond.initialized RX5 ∈ TT := List.mem_filter.mpr ⟨List.mem_of_getElem? (i := 59) (by decide +kernel), by decide +kernel⟩
theorem wd_35 : Cond.code yX5_statements cX5_statements 1 (some .int) ∈ TT := List.mem_filter.mpr ⟨List.mem_of_getElem? (i := 665) (by decide +kernel), by decide +kernel⟩
theorem mk_X5_statements : MKok kX5_statements 0 := ⟨wd_34, wd_35, by decide +kernel, by decide⟩
abbrev kX5_bodies : MK := (yX5_bodies, cX5_bodies, 3, (some .int))
theorem wd_36 : Cond.code yX5_bodies cX5_bodies 3 (some .int) ∈ TT := List.mem_filter.mpr ⟨List.mem_of_getElem? (i := 669) (by decide +kernel), by decide +kernel⟩
theorem mk_X5_bodies : MKok kX5_bodies 0 := ⟨wd_34, wd_36, by decide +kernel, by decide⟩
abbrev kX5_isFull : MK := (yX5_isFull, cX5_isFull, 1, (some .boolean))
theorem wd_37 : Cond.code yX5_isFull cX5_isFull 1 (some .boolean) ∈ TT := List.mem_filter.mpr ⟨List.mem_of_getElem? (i := 305) (by decide +kernel), by decide +kernel⟩
theorem mk_X5_isFull : MKok kX5_isFull 0 := ⟨wd_34, wd_37, by decide +kernel, by decide⟩
abbrev kX5_has : MK := (yX5_has, cX5_has, 2, (some .boolean))
theorem wd_38 : Cond.code yX5_has cX5_has 2 (some .boolean) ∈ TT := List.mem_filter.mpr ⟨List.mem_of_getElem? (i := 290) (by decide +kernel), by decide +kernel⟩
theorem mk_X5_has : MKok kX5_has 1 := ⟨wd_34, wd_38, by decide +kernel, by decide⟩
abbrev kX5_sortOf : MK := (yX5_sortOf, cX5_sortOf, 2, (some .int))
theorem wd_39 : Cond.code yX5_sortOf cX5_sortOf 2 (some .int) ∈ TT := List.mem_filter.mpr ⟨List.mem_of_getElem? (i := 421) (by decide +kernel), by decide +kernel⟩
theorem mk_X5_sortOf : MKok kX5_sortOf 1 := ⟨wd_34, wd_39, by decide +kernel, by decide⟩
abbrev kX5_firstOf : MK := (yX5_firstOf, cX5_firstOf, 2, (some .int))
theorem wd_40 : Cond.code yX5_firstOf cX5_firstOf 2 (some .int) ∈ TT := List.mem_filter.mpr ⟨List.mem_of_getElem? (i := 409) (by decide +kernel), by decide +kernel⟩
theorem mk_X5_firstOf : MKok kX5_firstOf 1 := ⟨wd_34, wd_40, by decide +kernel, by decide⟩
abbrev kX5_secondOf : MK := (yX5_secondOf, cX5_secondOf, 2, (some .int))
theorem wd_41 : Cond.code yX5_secondOf cX5_secondOf 2 (some .int) ∈ TT := List.mem_filter.mpr ⟨List.mem_of_getElem? (i := 413) (by decide +kernel), by decide +kernel⟩
theorem mk_X5_secondOf : MKok kX5_secondOf 1 := ⟨wd_34, wd_41, by decide +kernel, by decide⟩
abbrev kX5_thirdOf : MK := (yX5_thirdOf, cX5_thirdOf, 2, (some .int))
theorem wd_42 : Cond.code yX5_thirdOf cX5_thirdOf 2 (some .int) ∈ TT := List.mem_filter.mpr ⟨List.mem_of_getElem? (i := 417) (by decide +kernel), by decide +kernel⟩
theorem mk_X5_thirdOf : MKok kX5_thirdOf 1 := ⟨wd_34, wd_42, by decide +kernel, by decide⟩
abbrev kX5_bodyOf : MK := (yX5_bodyOf, cX5_bodyOf, 2, (some .int))
theorem wd_43 : Cond.code yX5_bodyOf cX5_bodyOf 2 (some .int) ∈ TT := List.mem_filter.mpr ⟨List.mem_of_getElem? (i := 340) (by decide +kernel), by decide +kernel⟩
theorem mk_X5_bodyOf : MKok kX5_bodyOf 1 := ⟨wd_34, wd_43, by decide +kernel, by decide⟩
abbrev kX5_setBody : MK := (yX5_setBody, cX5_setBody, 3, none)
theorem wd_44 : Cond.code yX5_setBody cX5_setBody 3 none ∈ TT := List.mem_filter.mpr ⟨List.mem_of_getElem? (i := 332) (by decide +kernel), by decide +kernel⟩
theorem mk_X5_setBody : MKok kX5_setBody 2 := ⟨wd_34, wd_44, by decide +kernel, by decide⟩
abbrev kX5_takes : MK := (yX5_takes, cX5_takes, 5, (some .boolean))
theorem wd_45 : Cond.code yX5_takes cX5_takes 5 (some .boolean) ∈ TT := List.mem_filter.mpr ⟨List.mem_of_getElem? (i := 273) (by decide +kernel), by decide +kernel⟩
theorem mk_X5_takes : MKok kX5_takes 4 := ⟨wd_34, wd_45, by decide +kernel, by decide⟩
abbrev kX5_add : MK := (yX5_add, cX5_add, 5, (some .int))
theorem wd_46 : Cond.code yX5_add cX5_add 5 (some .int) ∈ TT := List.mem_filter.mpr ⟨List.mem_of_getElem? (i := 309) (by decide +kernel), by decide +kernel⟩
theorem mk_X5_add : MKok kX5_add 4 := ⟨wd_34, wd_46, by decide +kernel, by decide⟩
abbrev kX5_canLoseLast : MK := (yX5_canLoseLast, cX5_canLoseLast, 2, (some .boolean))
theorem wd_47 : Cond.code yX5_canLoseLast cX5_canLoseLast 2 (some .boolean) ∈ TT := List.mem_filter.mpr ⟨List.mem_of_getElem? (i := 318) (by decide +kernel), by decide +kernel⟩
theorem mk_X5_canLoseLast : MKok kX5_canLoseLast 0 := ⟨wd_34, wd_47, by decide +kernel, by decide⟩
abbrev kX5_loseLast : MK := (yX5_loseLast, cX5_loseLast, 1, (some .int))
theorem wd_48 : Cond.code yX5_loseLast cX5_loseLast 1 (some .int) ∈ TT := List.mem_filter.mpr ⟨List.mem_of_getElem? (i := 322) (by decide +kernel), by decide +kernel⟩
theorem mk_X5_loseLast : MKok kX5_loseLast 0 := ⟨wd_34, wd_48, by decide +kernel, by decide⟩
abbrev kX5_operandsFit : MK := (yX5_operandsFit, cX5_operandsFit, 5, (some .boolean))
theorem wd_49 : Cond.code yX5_operandsFit cX5_operandsFit 5 (some .boolean) ∈ TT := List.mem_filter.mpr ⟨List.mem_of_getElem? (i := 277) (by decide +kernel), by decide +kernel⟩
theorem mk_X5_operandsFit : MKok kX5_operandsFit 4 := ⟨wd_34, wd_49, by decide +kernel, by decide⟩
abbrev kX5_heightWith : MK := (yX5_heightWith, cX5_heightWith, 5, (some .int))
theorem wd_50 : Cond.code yX5_heightWith cX5_heightWith 5 (some .int) ∈ TT := List.mem_filter.mpr ⟨List.mem_of_getElem? (i := 294) (by decide +kernel), by decide +kernel⟩
theorem mk_X5_heightWith : MKok kX5_heightWith 4 := ⟨wd_34, wd_50, by decide +kernel, by decide⟩
abbrev kX5_heightOf : MK := (yX5_heightOf, cX5_heightOf, 2, (some .int))
theorem wd_51 : Cond.code yX5_heightOf cX5_heightOf 2 (some .int) ∈ TT := List.mem_filter.mpr ⟨List.mem_of_getElem? (i := 298) (by decide +kernel), by decide +kernel⟩
theorem mk_X5_heightOf : MKok kX5_heightOf 1 := ⟨wd_34, wd_51, by decide +kernel, by decide⟩
abbrev kX5_isVariable : MK := (yX5_isVariable, cX5_isVariable, 1, (some .boolean))
theorem wd_52 : Cond.code yX5_isVariable cX5_isVariable 1 (some .boolean) ∈ TT := List.mem_filter.mpr ⟨List.mem_of_getElem? (i := 280) (by decide +kernel), by decide +kernel⟩
theorem mk_X5_isVariable : MKok kX5_isVariable 1 := ⟨wd_34, wd_52, by decide +kernel, by decide⟩
abbrev kX5_isRow : MK := (yX5_isRow, cX5_isRow, 1, (some .boolean))
theorem wd_53 : Cond.code yX5_isRow cX5_isRow 1 (some .boolean) ∈ TT := List.mem_filter.mpr ⟨List.mem_of_getElem? (i := 286) (by decide +kernel), by decide +kernel⟩
theorem mk_X5_isRow : MKok kX5_isRow 1 := ⟨wd_34, wd_53, by decide +kernel, by decide⟩
abbrev kX6_fill : MK := (yX6_fill, cX6_fill, 2, none)
theorem wd_54 : Cond.initialized RX6 ∈ TT := List.mem_filter.mpr ⟨List.mem_of_getElem? (i := 63) (by decide +kernel), by decide +kernel⟩
theorem wd_55 : Cond.code yX6_fill cX6_fill 2 none ∈ TT := List.mem_filter.mpr ⟨List.mem_of_getElem? (i := 364) (by decide +kernel), by decide +kernel⟩
theorem mk_X6_fill : MKok kX6_fill 1 := ⟨wd_54, wd_55, by decide +kernel, by decide⟩
abbrev kX6_isByReserve : MK := (yX6_isByReserve, cX6_isByReserve, 1, (some .boolean))
theorem wd_56 : Cond.code yX6_isByReserve cX6_isByReserve 1 (some .boolean) ∈ TT := List.mem_filter.mpr ⟨List.mem_of_getElem? (i := 556) (by decide +kernel), by decide +kernel⟩
theorem mk_X6_isByReserve : MKok kX6_isByReserve 0 := ⟨wd_54, wd_56, by decide +kernel, by decide⟩
abbrev kX6_setByReserve : MK := (yX6_setByReserve, cX6_setByReserve, 2, none)
theorem wd_57 : Cond.code yX6_setByReserve cX6_setByReserve 2 none ∈ TT := List.mem_filter.mpr ⟨List.mem_of_getElem? (i := 560) (by decide +kernel), by decide +kernel⟩
theorem mk_X6_setByReserve : MKok kX6_setByReserve 1 := ⟨wd_54, wd_57, by decide +kernel, by decide⟩
abbrev kX6_pays : MK := (yX6_pays, cX6_pays, 3, (some .boolean))
theorem wd_58 : Cond.code yX6_pays cX6_pays 3 (some .boolean) ∈ TT := List.mem_filter.mpr ⟨List.mem_of_getElem? (i := 378) (by decide +kernel), by decide +kernel⟩
theorem mk_X6_pays : MKok kX6_pays 2 := ⟨wd_54, wd_58, by decide +kernel, by decide⟩
abbrev kX6_noteBegun : MK := (yX6_noteBegun, cX6_noteBegun, 2, none)
theorem wd_59 : Cond.code yX6_noteBegun cX6_noteBegun 2 none ∈ TT := List.mem_filter.mpr ⟨List.mem_of_getElem? (i := 544) (by decide +kernel), by decide +kernel⟩
theorem mk_X6_noteBegun : MKok kX6_noteBegun 1 := ⟨wd_54, wd_59, by decide +kernel, by decide⟩
abbrev kX6_begunAt : MK := (yX6_begunAt, cX6_begunAt, 2, (some .int))
theorem wd_60 : Cond.code yX6_begunAt cX6_begunAt 2 (some .int) ∈ TT := List.mem_filter.mpr ⟨List.mem_of_getElem? (i := 628) (by decide +kernel), by decide +kernel⟩
theorem mk_X6_begunAt : MKok kX6_begunAt 1 := ⟨wd_54, wd_60, by decide +kernel, by decide⟩
abbrev kX6_marksOf : MK := (yX6_marksOf, cX6_marksOf, 2, (some .int))
theorem wd_61 : Cond.code yX6_marksOf cX6_marksOf 2 (some .int) ∈ TT := List.mem_filter.mpr ⟨List.mem_of_getElem? (i := 620) (by decide +kernel), by decide +kernel⟩
theorem mk_X6_marksOf : MKok kX6_marksOf 1 := ⟨wd_54, wd_61, by decide +kernel, by decide⟩
abbrev kX6_spentOfBudget : MK := (yX6_spentOfBudget, cX6_spentOfBudget, 1, (some .int))
theorem wd_62 : Cond.code yX6_spentOfBudget cX6_spentOfBudget 1 (some .int) ∈ TT := List.mem_filter.mpr ⟨List.mem_of_getElem? (i := 600) (by decide +kernel), by decide +kernel⟩
theorem mk_X6_spentOfBudget : MKok kX6_spentOfBudget 0 := ⟨wd_54, wd_62, by decide +kernel, by decide⟩
abbrev kX6_spentOfReserve : MK := (yX6_spentOfReserve, cX6_spentOfReserve, 1, (some .int))
theorem wd_63 : Cond.code yX6_spentOfReserve cX6_spentOfReserve 1 (some .int) ∈ TT := List.mem_filter.mpr ⟨List.mem_of_getElem? (i := 604) (by decide +kernel), by decide +kernel⟩
theorem mk_X6_spentOfReserve : MKok kX6_spentOfReserve 0 := ⟨wd_54, wd_63, by decide +kernel, by decide⟩
abbrev kX7_perform : MK := (yX7_perform, cX7_perform, 6, (some .int))
theorem wd_64 : Cond.initialized RX7 ∈ TT := List.mem_filter.mpr ⟨List.mem_of_getElem? (i := 61) (by decide +kernel), by decide +kernel⟩
theorem wd_65 : Cond.code yX7_perform cX7_perform 6 (some .int) ∈ TT := List.mem_filter.mpr ⟨List.mem_of_getElem? (i := 347) (by decide +kernel), by decide +kernel⟩
theorem mk_X7_perform : MKok kX7_perform 3 := ⟨wd_64, wd_65, by decide +kernel, by decide⟩
abbrev kX7_tell : MK := (yX7_tell, cX7_tell, 2, (some .int))
theorem wd_66 : Cond.code yX7_tell cX7_tell 2 (some .int) ∈ TT := List.mem_filter.mpr ⟨List.mem_of_getElem? (i := 596) (by decide +kernel), by decide +kernel⟩
theorem mk_X7_tell : MKok kX7_tell 1 := ⟨wd_64, wd_66, by decide +kernel, by decide⟩
abbrev kX7_tellsTheSameAs : MK := (yX7_tellsTheSameAs, cX7_tellsTheSameAs, 3, (some .boolean))
theorem wd_67 : Cond.code yX7_tellsTheSameAs cX7_tellsTheSameAs 3 (some .boolean) ∈ TT := List.mem_filter.mpr ⟨List.mem_of_getElem? (i := 646) (by decide +kernel), by decide +kernel⟩
theorem mk_X7_tellsTheSameAs : MKok kX7_tellsTheSameAs 1 := ⟨wd_64, wd_67, by decide +kernel, by decide⟩
abbrev kX7_clear : MK := (yX7_clear, cX7_clear, 3, none)
theorem wd_68 : Cond.code yX7_clear cX7_clear 3 none ∈ TT := List.mem_filter.mpr ⟨List.mem_of_getElem? (i := 351) (by decide +kernel), by decide +kernel⟩
theorem mk_X7_clear : MKok kX7_clear 2 := ⟨wd_64, wd_68, by decide +kernel, by decide⟩
abbrev kX7_begin : MK := (yX7_begin, cX7_begin, 6, none)
theorem wd_69 : Cond.code yX7_begin cX7_begin 6 none ∈ TT := List.mem_filter.mpr ⟨List.mem_of_getElem? (i := 405) (by decide +kernel), by decide +kernel⟩
theorem mk_X7_begin : MKok kX7_begin 1 := ⟨wd_64, wd_69, by decide +kernel, by decide⟩
abbrev kX7_goOn : MK := (yX7_goOn, cX7_goOn, 2, none)
theorem wd_70 : Cond.code yX7_goOn cX7_goOn 2 none ∈ TT := List.mem_filter.mpr ⟨List.mem_of_getElem? (i := 528) (by decide +kernel), by decide +kernel⟩
theorem mk_X7_goOn : MKok kX7_goOn 1 := ⟨wd_64, wd_70, by decide +kernel, by decide⟩
abbrev kX7_goOnWithBoth : MK := (yX7_goOnWithBoth, cX7_goOnWithBoth, 2, none)
theorem wd_71 : Cond.code yX7_goOnWithBoth cX7_goOnWithBoth 2 none ∈ TT := List.mem_filter.mpr ⟨List.mem_of_getElem? (i := 532) (by decide +kernel), by decide +kernel⟩
theorem mk_X7_goOnWithBoth : MKok kX7_goOnWithBoth 1 := ⟨wd_64, wd_71, by decide +kernel, by decide⟩
abbrev kX7_goOnWithLoop : MK := (yX7_goOnWithLoop, cX7_goOnWithLoop, 2, none)
theorem wd_72 : Cond.code yX7_goOnWithLoop cX7_goOnWithLoop 2 none ∈ TT := List.mem_filter.mpr ⟨List.mem_of_getElem? (i := 536) (by decide +kernel), by decide +kernel⟩
theorem mk_X7_goOnWithLoop : MKok kX7_goOnWithLoop 1 := ⟨wd_64, wd_72, by decide +kernel, by decide⟩
abbrev kX7_goOnWithTry : MK := (yX7_goOnWithTry, cX7_goOnWithTry, 3, none)
theorem wd_73 : Cond.code yX7_goOnWithTry cX7_goOnWithTry 3 none ∈ TT := List.mem_filter.mpr ⟨List.mem_of_getElem? (i := 540) (by decide +kernel), by decide +kernel⟩
theorem mk_X7_goOnWithTry : MKok kX7_goOnWithTry 1 := ⟨wd_64, wd_73, by decide +kernel, by decide⟩
abbrev kX7_beginLastPart : MK := (yX7_beginLastPart, cX7_beginLastPart, 3, none)
theorem wd_74 : Cond.code yX7_beginLastPart cX7_beginLastPart 3 none ∈ TT := List.mem_filter.mpr ⟨List.mem_of_getElem? (i := 548) (by decide +kernel), by decide +kernel⟩
theorem mk_X7_beginLastPart : MKok kX7_beginLastPart 1 := ⟨wd_64, wd_74, by decide +kernel, by decide⟩
abbrev kX7_payForLastPart : MK := (yX7_payForLastPart, cX7_payForLastPart, 1, (some .int))
theorem wd_75 : Cond.code yX7_payForLastPart cX7_payForLastPart 1 (some .int) ∈ TT := List.mem_filter.mpr ⟨List.mem_of_getElem? (i := 552) (by decide +kernel), by decide +kernel⟩
theorem mk_X7_payForLastPart : MKok kX7_payForLastPart 0 := ⟨wd_64, wd_75, by decide +kernel, by decide⟩
abbrev kX7_endLastPart : MK := (yX7_endLastPart, cX7_endLastPart, 1, none)
theorem wd_76 : Cond.code yX7_endLastPart cX7_endLastPart 1 none ∈ TT := List.mem_filter.mpr ⟨List.mem_of_getElem? (i := 568) (by decide +kernel), by decide +kernel⟩
theorem mk_X7_endLastPart : MKok kX7_endLastPart 0 := ⟨wd_64, wd_76, by decide +kernel, by decide⟩
abbrev kX7_loopOrEnd : MK := (yX7_loopOrEnd, cX7_loopOrEnd, 3, none)
theorem wd_77 : Cond.code yX7_loopOrEnd cX7_loopOrEnd 3 none ∈ TT := List.mem_filter.mpr ⟨List.mem_of_getElem? (i := 437) (by decide +kernel), by decide +kernel⟩
theorem mk_X7_loopOrEnd : MKok kX7_loopOrEnd 2 := ⟨wd_64, wd_77, by decide +kernel, by decide⟩
abbrev kX7_call : MK := (yX7_call, cX7_call, 3, none)
theorem wd_78 : Cond.code yX7_call cX7_call 3 none ∈ TT := List.mem_filter.mpr ⟨List.mem_of_getElem? (i := 445) (by decide +kernel), by decide +kernel⟩
theorem mk_X7_call : MKok kX7_call 1 := ⟨wd_64, wd_78, by decide +kernel, by decide⟩
abbrev kX7_enter : MK := (yX7_enter, cX7_enter, 2, none)
theorem wd_79 : Cond.code yX7_enter cX7_enter 2 none ∈ TT := List.mem_filter.mpr ⟨List.mem_of_getElem? (i := 383) (by decide +kernel), by decide +kernel⟩
theorem mk_X7_enter : MKok kX7_enter 1 := ⟨wd_64, wd_79, by decide +kernel, by decide⟩
abbrev kX7_doPart : MK := (yX7_doPart, cX7_doPart, 3, none)
theorem wd_80 : Cond.code yX7_doPart cX7_doPart 3 none ∈ TT := List.mem_filter.mpr ⟨List.mem_of_getElem? (i := 425) (by decide +kernel), by decide +kernel⟩
theorem mk_X7_doPart : MKok kX7_doPart 2 := ⟨wd_64, wd_80, by decide +kernel, by decide⟩
abbrev kX7_end : MK := (yX7_end, cX7_end, 2, none)
theorem wd_81 : Cond.code yX7_end cX7_end 2 none ∈ TT := List.mem_filter.mpr ⟨List.mem_of_getElem? (i := 454) (by decide +kernel), by decide +kernel⟩
theorem mk_X7_end : MKok kX7_end 1 := ⟨wd_64, wd_81, by decide +kernel, by decide⟩
abbrev kX7_raise : MK := (yX7_raise, cX7_raise, 3, none)
theorem wd_82 : Cond.code yX7_raise cX7_raise 3 none ∈ TT := List.mem_filter.mpr ⟨List.mem_of_getElem? (i := 450) (by decide +kernel), by decide +kernel⟩
theorem mk_X7_raise : MKok kX7_raise 2 := ⟨wd_64, wd_82, by decide +kernel, by decide⟩
abbrev kX7_doAtOnce : MK := (yX7_doAtOnce, cX7_doAtOnce, 5, none)
theorem wd_83 : Cond.code yX7_doAtOnce cX7_doAtOnce 5 none ∈ TT := List.mem_filter.mpr ⟨List.mem_of_getElem? (i := 464) (by decide +kernel), by decide +kernel⟩
theorem mk_X7_doAtOnce : MKok kX7_doAtOnce 4 := ⟨wd_64, wd_83, by decide +kernel, by decide⟩
abbrev kX7_calculate : MK := (yX7_calculate, cX7_calculate, 7, none)
theorem wd_84 : Cond.code yX7_calculate cX7_calculate 7 none ∈ TT := List.mem_filter.mpr ⟨List.mem_of_getElem? (i := 468) (by decide +kernel), by decide +kernel⟩
theorem mk_X7_calculate : MKok kX7_calculate 4 := ⟨wd_64, wd_84, by decide +kernel, by decide⟩
abbrev kX7_divide : MK := (yX7_divide, cX7_divide, 5, none)
theorem wd_85 : Cond.code yX7_divide cX7_divide 5 none ∈ TT := List.mem_filter.mpr ⟨List.mem_of_getElem? (i := 472) (by decide +kernel), by decide +kernel⟩
theorem mk_X7_divide : MKok kX7_divide 4 := ⟨wd_64, wd_85, by decide +kernel, by decide⟩
abbrev kX7_doWithRow : MK := (yX7_doWithRow, cX7_doWithRow, 5, none)
theorem wd_86 : Cond.code yX7_doWithRow cX7_doWithRow 5 none ∈ TT := List.mem_filter.mpr ⟨List.mem_of_getElem? (i := 476) (by decide +kernel), by decide +kernel⟩
theorem mk_X7_doWithRow : MKok kX7_doWithRow 4 := ⟨wd_64, wd_86, by decide +kernel, by decide⟩
abbrev kX7_makeRow : MK := (yX7_makeRow, cX7_makeRow, 3, none)
theorem wd_87 : Cond.code yX7_makeRow cX7_makeRow 3 none ∈ TT := List.mem_filter.mpr ⟨List.mem_of_getElem? (i := 480) (by decide +kernel), by decide +kernel⟩
theorem mk_X7_makeRow : MKok kX7_makeRow 2 := ⟨wd_64, wd_87, by decide +kernel, by decide⟩
abbrev kX7_measureRow : MK := (yX7_measureRow, cX7_measureRow, 4, none)
theorem wd_88 : Cond.code yX7_measureRow cX7_measureRow 4 none ∈ TT := List.mem_filter.mpr ⟨List.mem_of_getElem? (i := 508) (by decide +kernel), by decide +kernel⟩
theorem mk_X7_measureRow : MKok kX7_measureRow 2 := ⟨wd_64, wd_88, by decide +kernel, by decide⟩
abbrev kX7_reaches : MK := (yX7_reaches, cX7_reaches, 4, (some .boolean))
theorem wd_89 : Cond.code yX7_reaches cX7_reaches 4 (some .boolean) ∈ TT := List.mem_filter.mpr ⟨List.mem_of_getElem? (i := 491) (by decide +kernel), by decide +kernel⟩
theorem mk_X7_reaches : MKok kX7_reaches 2 := ⟨wd_64, wd_89, by decide +kernel, by decide⟩
abbrev kX9_make : MK := (yX9_make, cX9_make, 5, (some .int))
theorem wd_90 : Cond.initialized RX9 ∈ TT := List.mem_filter.mpr ⟨List.mem_of_getElem? (i := 58) (by decide +kernel), by decide +kernel⟩
theorem wd_91 : Cond.code yX9_make cX9_make 5 (some .int) ∈ TT := List.mem_filter.mpr ⟨List.mem_of_getElem? (i := 269) (by decide +kernel), by decide +kernel⟩
theorem mk_X9_make : MKok kX9_make 4 := ⟨wd_90, wd_91, by decide +kernel, by decide⟩
abbrev kX9_drop : MK := (yX9_drop, cX9_drop, 1, (some .int))
theorem wd_92 : Cond.code yX9_drop cX9_drop 1 (some .int) ∈ TT := List.mem_filter.mpr ⟨List.mem_of_getElem? (i := 314) (by decide +kernel), by decide +kernel⟩
theorem mk_X9_drop : MKok kX9_drop 0 := ⟨wd_90, wd_92, by decide +kernel, by decide⟩
abbrev kX9_body : MK := (yX9_body, cX9_body, 4, (some .int))
theorem wd_93 : Cond.code yX9_body cX9_body 4 (some .int) ∈ TT := List.mem_filter.mpr ⟨List.mem_of_getElem? (i := 326) (by decide +kernel), by decide +kernel⟩
theorem mk_X9_body : MKok kX9_body 2 := ⟨wd_90, wd_93, by decide +kernel, by decide⟩
abbrev kX9_run : MK := (yX9_run, cX9_run, 4, (some .int))
theorem wd_94 : Cond.code yX9_run cX9_run 4 (some .int) ∈ TT := List.mem_filter.mpr ⟨List.mem_of_getElem? (i := 336) (by decide +kernel), by decide +kernel⟩
theorem mk_X9_run : MKok kX9_run 3 := ⟨wd_90, wd_94, by decide +kernel, by decide⟩
abbrev kX9_told : MK := (yX9_told, cX9_told, 2, (some .int))
theorem wd_95 : Cond.code yX9_told cX9_told 2 (some .int) ∈ TT := List.mem_filter.mpr ⟨List.mem_of_getElem? (i := 592) (by decide +kernel), by decide +kernel⟩
theorem mk_X9_told : MKok kX9_told 1 := ⟨wd_90, wd_95, by decide +kernel, by decide⟩
abbrev kX9_marks : MK := (yX9_marks, cX9_marks, 2, (some .int))
theorem wd_96 : Cond.code yX9_marks cX9_marks 2 (some .int) ∈ TT := List.mem_filter.mpr ⟨List.mem_of_getElem? (i := 616) (by decide +kernel), by decide +kernel⟩
theorem mk_X9_marks : MKok kX9_marks 1 := ⟨wd_90, wd_96, by decide +kernel, by decide⟩
abbrev kX9_began : MK := (yX9_began, cX9_began, 2, (some .int))
theorem wd_97 : Cond.code yX9_began cX9_began 2 (some .int) ∈ TT := List.mem_filter.mpr ⟨List.mem_of_getElem? (i := 624) (by decide +kernel), by decide +kernel⟩
theorem mk_X9_began : MKok kX9_began 1 := ⟨wd_90, wd_97, by decide +kernel, by decide⟩
abbrev kX9_variable : MK := (yX9_variable, cX9_variable, 2, (some .int))
theorem wd_98 : Cond.code yX9_variable cX9_variable 2 (some .int) ∈ TT := List.mem_filter.mpr ⟨List.mem_of_getElem? (i := 632) (by decide +kernel), by decide +kernel⟩
theorem mk_X9_variable : MKok kX9_variable 1 := ⟨wd_90, wd_98, by decide +kernel, by decide⟩
abbrev kX9_size : MK := (yX9_size, cX9_size, 2, (some .int))
theorem wd_99 : Cond.code yX9_size cX9_size 2 (some .int) ∈ TT := List.mem_filter.mpr ⟨List.mem_of_getElem? (i := 637) (by decide +kernel), by decide +kernel⟩
theorem mk_X9_size : MKok kX9_size 1 := ⟨wd_90, wd_99, by decide +kernel, by decide⟩
abbrev kX9_same : MK := (yX9_same, cX9_same, 7, (some .int))
theorem wd_100 : Cond.code yX9_same cX9_same 7 (some .int) ∈ TT := List.mem_filter.mpr ⟨List.mem_of_getElem? (i := 642) (by decide +kernel), by decide +kernel⟩
theorem mk_X9_same : MKok kX9_same 4 := ⟨wd_90, wd_100, by decide +kernel, by decide⟩
abbrev kX9_count : MK := (yX9_count, cX9_count, 2, (some .int))
theorem wd_101 : Cond.code yX9_count cX9_count 2 (some .int) ∈ TT := List.mem_filter.mpr ⟨List.mem_of_getElem? (i := 661) (by decide +kernel), by decide +kernel⟩
theorem mk_X9_count : MKok kX9_count 1 := ⟨wd_90, wd_101, by decide +kernel, by decide⟩
abbrev kX9_counted : MK := (yX9_counted, cX9_counted, 2, (some .int))
theorem wd_102 : Cond.code yX9_counted cX9_counted 2 (some .int) ∈ TT := List.mem_filter.mpr ⟨List.mem_of_getElem? (i := 588) (by decide +kernel), by decide +kernel⟩
theorem mk_X9_counted : MKok kX9_counted 1 := ⟨wd_90, wd_102, by decide +kernel, by decide⟩
abbrev kX9_isBudget : MK := (yX9_isBudget, cX9_isBudget, 1, (some .boolean))
theorem wd_103 : Cond.code yX9_isBudget cX9_isBudget 1 (some .boolean) ∈ TT := List.mem_filter.mpr ⟨List.mem_of_getElem? (i := 343) (by decide +kernel), by decide +kernel⟩
theorem mk_X9_isBudget : MKok kX9_isBudget 1 := ⟨wd_90, wd_103, by decide +kernel, by decide⟩
abbrev kX9_isBelow : MK := (yX9_isBelow, cX9_isBelow, 2, (some .boolean))
theorem wd_104 : Cond.code yX9_isBelow cX9_isBelow 2 (some .boolean) ∈ TT := List.mem_filter.mpr ⟨List.mem_of_getElem? (i := 283) (by decide +kernel), by decide +kernel⟩
theorem mk_X9_isBelow : MKok kX9_isBelow 2 := ⟨wd_90, wd_104, by decide +kernel, by decide⟩
abbrev kX10_thrown : MK := (yX10_thrown, cX10_thrown, 1, (some .int))
theorem wd_105 : Cond.initialized RX10 ∈ TT := List.mem_filter.mpr ⟨List.mem_of_getElem? (i := 66) (by decide +kernel), by decide +kernel⟩
theorem wd_106 : Cond.code yX10_thrown cX10_thrown 1 (some .int) ∈ TT := List.mem_filter.mpr ⟨List.mem_of_getElem? (i := 802) (by decide +kernel), by decide +kernel⟩
theorem mk_X10_thrown : MKok kX10_thrown 0 := ⟨wd_105, wd_106, by decide +kernel, by decide⟩
abbrev kX10_fail : MK := (yX10_fail, cX10_fail, 2, (some .int))
theorem wd_107 : Cond.code yX10_fail cX10_fail 2 (some .int) ∈ TT := List.mem_filter.mpr ⟨List.mem_of_getElem? (i := 1087) (by decide +kernel), by decide +kernel⟩
theorem mk_X10_fail : MKok kX10_fail 1 := ⟨wd_105, wd_107, by decide +kernel, by decide⟩
abbrev kX10_isIn : MK := (yX10_isIn, cX10_isIn, 2, (some .boolean))
theorem wd_108 : Cond.code yX10_isIn cX10_isIn 2 (some .boolean) ∈ TT := List.mem_filter.mpr ⟨List.mem_of_getElem? (i := 943) (by decide +kernel), by decide +kernel⟩
theorem mk_X10_isIn : MKok kX10_isIn 2 := ⟨wd_105, wd_108, by decide +kernel, by decide⟩
abbrev kX10_isStatement : MK := (yX10_isStatement, cX10_isStatement, 2, (some .boolean))
theorem wd_109 : Cond.code yX10_isStatement cX10_isStatement 2 (some .boolean) ∈ TT := List.mem_filter.mpr ⟨List.mem_of_getElem? (i := 947) (by decide +kernel), by decide +kernel⟩
theorem mk_X10_isStatement : MKok kX10_isStatement 1 := ⟨wd_105, wd_109, by decide +kernel, by decide⟩
abbrev kX10_isRight : MK := (yX10_isRight, cX10_isRight, 5, (some .boolean))
theorem wd_110 : Cond.code yX10_isRight cX10_isRight 5 (some .boolean) ∈ TT := List.mem_filter.mpr ⟨List.mem_of_getElem? (i := 940) (by decide +kernel), by decide +kernel⟩
theorem mk_X10_isRight : MKok kX10_isRight 4 := ⟨wd_105, wd_110, by decide +kernel, by decide⟩
abbrev kX10_highest : MK := (yX10_highest, cX10_highest, 3, (some .int))
theorem wd_111 : Cond.code yX10_highest cX10_highest 3 (some .int) ∈ TT := List.mem_filter.mpr ⟨List.mem_of_getElem? (i := 955) (by decide +kernel), by decide +kernel⟩
theorem mk_X10_highest : MKok kX10_highest 2 := ⟨wd_105, wd_111, by decide +kernel, by decide⟩
abbrev kX10_heightOf : MK := (yX10_heightOf, cX10_heightOf, 5, (some .int))
theorem wd_112 : Cond.code yX10_heightOf cX10_heightOf 5 (some .int) ∈ TT := List.mem_filter.mpr ⟨List.mem_of_getElem? (i := 951) (by decide +kernel), by decide +kernel⟩
theorem mk_X10_heightOf : MKok kX10_heightOf 4 := ⟨wd_105, wd_112, by decide +kernel, by decide⟩
abbrev kX10_make : MK := (yX10_make, cX10_make, 5, (some .int))
theorem wd_113 : Cond.code yX10_make cX10_make 5 (some .int) ∈ TT := List.mem_filter.mpr ⟨List.mem_of_getElem? (i := 936) (by decide +kernel), by decide +kernel⟩
theorem mk_X10_make : MKok kX10_make 4 := ⟨wd_105, wd_113, by decide +kernel, by decide⟩
abbrev kX10_drop : MK := (yX10_drop, cX10_drop, 3, (some .int))
theorem wd_114 : Cond.code yX10_drop cX10_drop 3 (some .int) ∈ TT := List.mem_filter.mpr ⟨List.mem_of_getElem? (i := 959) (by decide +kernel), by decide +kernel⟩
theorem mk_X10_drop : MKok kX10_drop 0 := ⟨wd_105, wd_114, by decide +kernel, by decide⟩
abbrev kX10_body : MK := (yX10_body, cX10_body, 3, (some .int))
theorem wd_115 : Cond.code yX10_body cX10_body 3 (some .int) ∈ TT := List.mem_filter.mpr ⟨List.mem_of_getElem? (i := 963) (by decide +kernel), by decide +kernel⟩
theorem mk_X10_body : MKok kX10_body 2 := ⟨wd_105, wd_115, by decide +kernel, by decide⟩
abbrev kX10_push : MK := (yX10_push, cX10_push, 2, none)
theorem wd_116 : Cond.code yX10_push cX10_push 2 none ∈ TT := List.mem_filter.mpr ⟨List.mem_of_getElem? (i := 995) (by decide +kernel), by decide +kernel⟩
theorem mk_X10_push : MKok kX10_push 1 := ⟨wd_105, wd_116, by decide +kernel, by decide⟩
abbrev kX10_comes : MK := (yX10_comes, cX10_comes, 2, none)
theorem wd_117 : Cond.code yX10_comes cX10_comes 2 none ∈ TT := List.mem_filter.mpr ⟨List.mem_of_getElem? (i := 1003) (by decide +kernel), by decide +kernel⟩
theorem mk_X10_comes : MKok kX10_comes 1 := ⟨wd_105, wd_117, by decide +kernel, by decide⟩
abbrev kX10_throwing : MK := (yX10_throwing, cX10_throwing, 3, none)
theorem wd_118 : Cond.code yX10_throwing cX10_throwing 3 none ∈ TT := List.mem_filter.mpr ⟨List.mem_of_getElem? (i := 1011) (by decide +kernel), by decide +kernel⟩
theorem mk_X10_throwing : MKok kX10_throwing 2 := ⟨wd_105, wd_118, by decide +kernel, by decide⟩
abbrev kX10_pays : MK := (yX10_pays, cX10_pays, 4, (some .boolean))
theorem wd_119 : Cond.code yX10_pays cX10_pays 4 (some .boolean) ∈ TT := List.mem_filter.mpr ⟨List.mem_of_getElem? (i := 983) (by decide +kernel), by decide +kernel⟩
theorem mk_X10_pays : MKok kX10_pays 2 := ⟨wd_105, wd_119, by decide +kernel, by decide⟩
abbrev kX10_endReserve : MK := (yX10_endReserve, cX10_endReserve, 1, none)
theorem wd_120 : Cond.code yX10_endReserve cX10_endReserve 1 none ∈ TT := List.mem_filter.mpr ⟨List.mem_of_getElem? (i := 987) (by decide +kernel), by decide +kernel⟩
theorem mk_X10_endReserve : MKok kX10_endReserve 0 := ⟨wd_105, wd_120, by decide +kernel, by decide⟩
abbrev kX10_leave : MK := (yX10_leave, cX10_leave, 3, none)
theorem wd_121 : Cond.code yX10_leave cX10_leave 3 none ∈ TT := List.mem_filter.mpr ⟨List.mem_of_getElem? (i := 991) (by decide +kernel), by decide +kernel⟩
theorem mk_X10_leave : MKok kX10_leave 1 := ⟨wd_105, wd_121, by decide +kernel, by decide⟩
abbrev kX10_note : MK := (yX10_note, cX10_note, 2, none)
theorem wd_122 : Cond.code yX10_note cX10_note 2 none ∈ TT := List.mem_filter.mpr ⟨List.mem_of_getElem? (i := 1051) (by decide +kernel), by decide +kernel⟩
theorem mk_X10_note : MKok kX10_note 1 := ⟨wd_105, wd_122, by decide +kernel, by decide⟩
abbrev kX10_reckon : MK := (yX10_reckon, cX10_reckon, 5, none)
theorem wd_123 : Cond.code yX10_reckon cX10_reckon 5 none ∈ TT := List.mem_filter.mpr ⟨List.mem_of_getElem? (i := 1035) (by decide +kernel), by decide +kernel⟩
theorem mk_X10_reckon : MKok kX10_reckon 1 := ⟨wd_105, wd_123, by decide +kernel, by decide⟩
abbrev kX10_making : MK := (yX10_making, cX10_making, 4, none)
theorem wd_124 : Cond.code yX10_making cX10_making 4 none ∈ TT := List.mem_filter.mpr ⟨List.mem_of_getElem? (i := 1027) (by decide +kernel), by decide +kernel⟩
theorem mk_X10_making : MKok kX10_making 1 := ⟨wd_105, wd_124, by decide +kernel, by decide⟩
abbrev kX10_has : MK := (yX10_has, cX10_has, 4, (some .boolean))
theorem wd_125 : Cond.code yX10_has cX10_has 4 (some .boolean) ∈ TT := List.mem_filter.mpr ⟨List.mem_of_getElem? (i := 1031) (by decide +kernel), by decide +kernel⟩
theorem mk_X10_has : MKok kX10_has 2 := ⟨wd_105, wd_125, by decide +kernel, by decide⟩
abbrev kX10_simple : MK := (yX10_simple, cX10_simple, 5, none)
theorem wd_126 : Cond.code yX10_simple cX10_simple 5 none ∈ TT := List.mem_filter.mpr ⟨List.mem_of_getElem? (i := 1023) (by decide +kernel), by decide +kernel⟩
theorem mk_X10_simple : MKok kX10_simple 1 := ⟨wd_105, wd_126, by decide +kernel, by decide⟩
abbrev kX10_calls : MK := (yX10_calls, cX10_calls, 3, none)
theorem wd_127 : Cond.code yX10_calls cX10_calls 3 none ∈ TT := List.mem_filter.mpr ⟨List.mem_of_getElem? (i := 1007) (by decide +kernel), by decide +kernel⟩
theorem mk_X10_calls : MKok kX10_calls 1 := ⟨wd_105, wd_127, by decide +kernel, by decide⟩
abbrev kX10_enter : MK := (yX10_enter, cX10_enter, 2, none)
theorem wd_128 : Cond.code yX10_enter cX10_enter 2 none ∈ TT := List.mem_filter.mpr ⟨List.mem_of_getElem? (i := 1015) (by decide +kernel), by decide +kernel⟩
theorem mk_X10_enter : MKok kX10_enter 1 := ⟨wd_105, wd_128, by decide +kernel, by decide⟩
abbrev kX10_locks : MK := (yX10_locks, cX10_locks, 3, none)
theorem wd_129 : Cond.code yX10_locks cX10_locks 3 none ∈ TT := List.mem_filter.mpr ⟨List.mem_of_getElem? (i := 1019) (by decide +kernel), by decide +kernel⟩
theorem mk_X10_locks : MKok kX10_locks 1 := ⟨wd_105, wd_129, by decide +kernel, by decide⟩
abbrev kX10_begin : MK := (yX10_begin, cX10_begin, 2, none)
theorem wd_130 : Cond.code yX10_begin cX10_begin 2 none ∈ TT := List.mem_filter.mpr ⟨List.mem_of_getElem? (i := 999) (by decide +kernel), by decide +kernel⟩
theorem mk_X10_begin : MKok kX10_begin 0 := ⟨wd_105, wd_130, by decide +kernel, by decide⟩
abbrev kX10_second : MK := (yX10_second, cX10_second, 2, none)
theorem wd_131 : Cond.code yX10_second cX10_second 2 none ∈ TT := List.mem_filter.mpr ⟨List.mem_of_getElem? (i := 1043) (by decide +kernel), by decide +kernel⟩
theorem mk_X10_second : MKok kX10_second 1 := ⟨wd_105, wd_131, by decide +kernel, by decide⟩
abbrev kX10_handles : MK := (yX10_handles, cX10_handles, 3, none)
theorem wd_132 : Cond.code yX10_handles cX10_handles 3 none ∈ TT := List.mem_filter.mpr ⟨List.mem_of_getElem? (i := 1047) (by decide +kernel), by decide +kernel⟩
theorem mk_X10_handles : MKok kX10_handles 1 := ⟨wd_105, wd_132, by decide +kernel, by decide⟩
abbrev kX10_finalOf : MK := (yX10_finalOf, cX10_finalOf, 3, none)
theorem wd_133 : Cond.code yX10_finalOf cX10_finalOf 3 none ∈ TT := List.mem_filter.mpr ⟨List.mem_of_getElem? (i := 1055) (by decide +kernel), by decide +kernel⟩
theorem mk_X10_finalOf : MKok kX10_finalOf 1 := ⟨wd_105, wd_133, by decide +kernel, by decide⟩
abbrev kX10_lastDone : MK := (yX10_lastDone, cX10_lastDone, 4, none)
theorem wd_134 : Cond.code yX10_lastDone cX10_lastDone 4 none ∈ TT := List.mem_filter.mpr ⟨List.mem_of_getElem? (i := 1059) (by decide +kernel), by decide +kernel⟩
theorem mk_X10_lastDone : MKok kX10_lastDone 0 := ⟨wd_105, wd_134, by decide +kernel, by decide⟩
abbrev kX10_tell : MK := (yX10_tell, cX10_tell, 3, none)
theorem wd_135 : Cond.code yX10_tell cX10_tell 3 none ∈ TT := List.mem_filter.mpr ⟨List.mem_of_getElem? (i := 1039) (by decide +kernel), by decide +kernel⟩
theorem mk_X10_tell : MKok kX10_tell 0 := ⟨wd_105, wd_135, by decide +kernel, by decide⟩
abbrev kX10_reset : MK := (yX10_reset, cX10_reset, 4, none)
theorem wd_136 : Cond.code yX10_reset cX10_reset 4 none ∈ TT := List.mem_filter.mpr ⟨List.mem_of_getElem? (i := 979) (by decide +kernel), by decide +kernel⟩
theorem mk_X10_reset : MKok kX10_reset 2 := ⟨wd_105, wd_136, by decide +kernel, by decide⟩
abbrev kX10_isRun : MK := (yX10_isRun, cX10_isRun, 3, (some .boolean))
theorem wd_137 : Cond.code yX10_isRun cX10_isRun 3 (some .boolean) ∈ TT := List.mem_filter.mpr ⟨List.mem_of_getElem? (i := 971) (by decide +kernel), by decide +kernel⟩
theorem mk_X10_isRun : MKok kX10_isRun 2 := ⟨wd_105, wd_137, by decide +kernel, by decide⟩
abbrev kX10_runs : MK := (yX10_runs, cX10_runs, 4, (some .int))
theorem wd_138 : Cond.code yX10_runs cX10_runs 4 (some .int) ∈ TT := List.mem_filter.mpr ⟨List.mem_of_getElem? (i := 975) (by decide +kernel), by decide +kernel⟩
theorem mk_X10_runs : MKok kX10_runs 3 := ⟨wd_105, wd_138, by decide +kernel, by decide⟩
abbrev kX10_run : MK := (yX10_run, cX10_run, 4, (some .int))
theorem wd_139 : Cond.code yX10_run cX10_run 4 (some .int) ∈ TT := List.mem_filter.mpr ⟨List.mem_of_getElem? (i := 967) (by decide +kernel), by decide +kernel⟩
theorem mk_X10_run : MKok kX10_run 3 := ⟨wd_105, wd_139, by decide +kernel, by decide⟩
abbrev kX10_told : MK := (yX10_told, cX10_told, 2, (some .int))
theorem wd_140 : Cond.code yX10_told cX10_told 2 (some .int) ∈ TT := List.mem_filter.mpr ⟨List.mem_of_getElem? (i := 1063) (by decide +kernel), by decide +kernel⟩
theorem mk_X10_told : MKok kX10_told 1 := ⟨wd_105, wd_140, by decide +kernel, by decide⟩
abbrev kX10_marks : MK := (yX10_marks, cX10_marks, 2, (some .int))
theorem wd_141 : Cond.code yX10_marks cX10_marks 2 (some .int) ∈ TT := List.mem_filter.mpr ⟨List.mem_of_getElem? (i := 1067) (by decide +kernel), by decide +kernel⟩
theorem mk_X10_marks : MKok kX10_marks 1 := ⟨wd_105, wd_141, by decide +kernel, by decide⟩
abbrev kX10_began : MK := (yX10_began, cX10_began, 2, (some .int))
theorem wd_142 : Cond.code yX10_began cX10_began 2 (some .int) ∈ TT := List.mem_filter.mpr ⟨List.mem_of_getElem? (i := 1071) (by decide +kernel), by decide +kernel⟩
theorem mk_X10_began : MKok kX10_began 1 := ⟨wd_105, wd_142, by decide +kernel, by decide⟩
abbrev kX10_variable : MK := (yX10_variable, cX10_variable, 2, (some .int))
theorem wd_143 : Cond.code yX10_variable cX10_variable 2 (some .int) ∈ TT := List.mem_filter.mpr ⟨List.mem_of_getElem? (i := 1075) (by decide +kernel), by decide +kernel⟩
theorem mk_X10_variable : MKok kX10_variable 1 := ⟨wd_105, wd_143, by decide +kernel, by decide⟩
abbrev kX10_size : MK := (yX10_size, cX10_size, 2, (some .int))
theorem wd_144 : Cond.code yX10_size cX10_size 2 (some .int) ∈ TT := List.mem_filter.mpr ⟨List.mem_of_getElem? (i := 1079) (by decide +kernel), by decide +kernel⟩
theorem mk_X10_size : MKok kX10_size 1 := ⟨wd_105, wd_144, by decide +kernel, by decide⟩
abbrev kX10_item : MK := (yX10_item, cX10_item, 3, (some .int))
theorem wd_145 : Cond.code yX10_item cX10_item 3 (some .int) ∈ TT := List.mem_filter.mpr ⟨List.mem_of_getElem? (i := 1083) (by decide +kernel), by decide +kernel⟩
theorem mk_X10_item : MKok kX10_item 2 := ⟨wd_105, wd_145, by decide +kernel, by decide⟩
abbrev kX10_same : MK := (yX10_same, cX10_same, 9, (some .int))
theorem wd_146 : Cond.code yX10_same cX10_same 9 (some .int) ∈ TT := List.mem_filter.mpr ⟨List.mem_of_getElem? (i := 1091) (by decide +kernel), by decide +kernel⟩
theorem mk_X10_same : MKok kX10_same 4 := ⟨wd_105, wd_146, by decide +kernel, by decide⟩
abbrev kX10_count : MK := (yX10_count, cX10_count, 4, (some .int))
theorem wd_147 : Cond.code yX10_count cX10_count 4 (some .int) ∈ TT := List.mem_filter.mpr ⟨List.mem_of_getElem? (i := 1097) (by decide +kernel), by decide +kernel⟩
theorem mk_X10_count : MKok kX10_count 1 := ⟨wd_105, wd_147, by decide +kernel, by decide⟩
abbrev kJ9_max_7cf53 : MK := (yJ9_max_7cf53, cJ9_max_7cf53, 2, (some .int))
theorem wd_148 : Cond.initialized RJ9 ∈ TT := List.mem_filter.mpr ⟨List.mem_of_getElem? (i := 67) (by decide +kernel), by decide +kernel⟩
theorem wd_149 : Cond.code yJ9_max_7cf53 cJ9_max_7cf53 2 (some .int) ∈ TT := List.mem_filter.mpr ⟨List.mem_of_getElem? (i := 301) (by decide +kernel), by decide +kernel⟩
theorem mk_J9_max_7cf53 : MKok kJ9_max_7cf53 2 := ⟨wd_148, wd_149, by decide +kernel, by decide⟩
abbrev kJ7_fill_53178 : MK := (yJ7_fill_53178, cJ7_fill_53178, 4, none)
theorem wd_150 : Cond.initialized RJ7 ∈ TT := List.mem_filter.mpr ⟨List.mem_of_getElem? (i := 60) (by decide +kernel), by decide +kernel⟩
theorem wd_151 : Cond.code yJ7_fill_53178 cJ7_fill_53178 4 none ∈ TT := List.mem_filter.mpr ⟨List.mem_of_getElem? (i := 92) (by decide +kernel), by decide +kernel⟩
theorem mk_J7_fill_53178 : MKok kJ7_fill_53178 2 := ⟨wd_150, wd_151, by decide +kernel, by decide⟩
theorem wd_152 : Cond.fieldLink RX9 10 "MarkedRuns" "program" "LMarkedRuns$Program;" ∈ TT := List.mem_filter.mpr ⟨List.mem_of_getElem? (i := 253) (by decide +kernel), by decide +kernel⟩
theorem fl_X9_10 : FL RX9 10 6 0 := ⟨RX9, TX9, 4, rfl, by decide, in_X9, Or.inl wd_152⟩
theorem wd_153 : Cond.fieldLink RX9 16 "MarkedRuns" "runsByAnswer" "[I" ∈ TT := List.mem_filter.mpr ⟨List.mem_of_getElem? (i := 254) (by decide +kernel), by decide +kernel⟩
theorem fl_X9_16 : FL RX9 16 6 1 := ⟨RX9, TX9, 4, rfl, by decide, in_X9, Or.inl wd_153⟩
theorem wd_154 : Cond.fieldLink RX9 25 "MarkedRuns" "latest" "LMarkedRuns$Run;" ∈ TT := List.mem_filter.mpr ⟨List.mem_of_getElem? (i := 255) (by decide +kernel), by decide +kernel⟩
theorem fl_X9_25 : FL RX9 25 6 2 := ⟨RX9, TX9, 4, rfl, by decide, in_X9, Or.inl wd_154⟩
theorem fp_X9_25 : FP RX9 25 6 2 (.object "MarkedRuns$Run") := ⟨RX9, TX9, 4, tyX9, rfl, by decide, in_X9, wd_154, tyX9_ok, nmX9, rfl, by decide +kernel⟩
theorem wd_155 : Cond.fieldLink RX9 29 "MarkedRuns" "earlier" "LMarkedRuns$Run;" ∈ TT := List.mem_filter.mpr ⟨List.mem_of_getElem? (i := 256) (by decide +kernel), by decide +kernel⟩
theorem fl_X9_29 : FL RX9 29 6 3 := ⟨RX9, TX9, 4, rfl, by decide, in_X9, Or.inl wd_155⟩
theorem fp_X9_29 : FP RX9 29 6 3 (.object "MarkedRuns$Run") := ⟨RX9, TX9, 4, tyX9, rfl, by decide, in_X9, wd_155, tyX9_ok, nmX9, rfl, by decide +kernel⟩
theorem wd_156 : Cond.fieldLinkNest RX9 82 "MarkedRuns$Run" "purse" "LMarkedRuns$Purse;" "MarkedRuns" ∈ NN := List.mem_filter.mpr ⟨List.mem_of_getElem? (i := 221) (by decide +kernel), by decide +kernel⟩
theorem fl_X9_82 : FL RX9 82 5 2 := ⟨RX7, TX7, 11, rfl, by decide, in_X7, Or.inr ⟨_, wd_156⟩⟩
theorem wd_157 : Cond.fieldLinkNest RX9 94 "MarkedRuns$Run" "memory" "LMarkedRuns$Memory;" "MarkedRuns" ∈ NN := List.mem_filter.mpr ⟨List.mem_of_getElem? (i := 219) (by decide +kernel), by decide +kernel⟩
theorem fl_X9_94 : FL RX9 94 5 1 := ⟨RX7, TX7, 11, rfl, by decide, in_X7, Or.inr ⟨_, wd_157⟩⟩
theorem wd_158 : Cond.fieldLink RX0 11 "MarkedRuns$Frames" "statements" "[I" ∈ TT := List.mem_filter.mpr ⟨List.mem_of_getElem? (i := 198) (by decide +kernel), by decide +kernel⟩
theorem fl_X0_11 : FL RX0 11 0 0 := ⟨RX0, TX0, 6, rfl, by decide, in_X0, Or.inl wd_158⟩
theorem wd_159 : Cond.fieldLink RX0 15 "MarkedRuns$Frames" "stages" "[I" ∈ TT := List.mem_filter.mpr ⟨List.mem_of_getElem? (i := 199) (by decide +kernel), by decide +kernel⟩
theorem fl_X0_15 : FL RX0 15 0 1 := ⟨RX0, TX0, 6, rfl, by decide, in_X0, Or.inl wd_159⟩
theorem wd_160 : Cond.fieldLink RX0 18 "MarkedRuns$Frames" "keptEndings" "[I" ∈ TT := List.mem_filter.mpr ⟨List.mem_of_getElem? (i := 200) (by decide +kernel), by decide +kernel⟩
theorem fl_X0_18 : FL RX0 18 0 2 := ⟨RX0, TX0, 6, rfl, by decide, in_X0, Or.inl wd_160⟩
theorem wd_161 : Cond.fieldLink RX0 21 "MarkedRuns$Frames" "keptKinds" "[I" ∈ TT := List.mem_filter.mpr ⟨List.mem_of_getElem? (i := 201) (by decide +kernel), by decide +kernel⟩
theorem fl_X0_21 : FL RX0 21 0 3 := ⟨RX0, TX0, 6, rfl, by decide, in_X0, Or.inl wd_161⟩
theorem wd_162 : Cond.fieldLink RX0 24 "MarkedRuns$Frames" "keptNumbers" "[I" ∈ TT := List.mem_filter.mpr ⟨List.mem_of_getElem? (i := 202) (by decide +kernel), by decide +kernel⟩
theorem fl_X0_24 : FL RX0 24 0 4 := ⟨RX0, TX0, 6, rfl, by decide, in_X0, Or.inl wd_162⟩
theorem wd_163 : Cond.fieldLink RX0 27 "MarkedRuns$Frames" "depth" "I" ∈ TT := List.mem_filter.mpr ⟨List.mem_of_getElem? (i := 203) (by decide +kernel), by decide +kernel⟩
theorem fl_X0_27 : FL RX0 27 0 5 := ⟨RX0, TX0, 6, rfl, by decide, in_X0, Or.inl wd_163⟩
theorem fp_X0_27 : FP RX0 27 0 5 .int := ⟨RX0, TX0, 6, tyX0, rfl, by decide, in_X0, wd_163, tyX0_ok, nmX0, rfl, by decide +kernel⟩
theorem wd_164 : Cond.fieldLink RX2 9 "MarkedRuns$Locks" "held" "[I" ∈ TT := List.mem_filter.mpr ⟨List.mem_of_getElem? (i := 185) (by decide +kernel), by decide +kernel⟩
theorem fl_X2_9 : FL RX2 9 1 0 := ⟨RX2, TX2, 2, rfl, by decide, in_X2, Or.inl wd_164⟩
theorem wd_165 : Cond.fieldLink RX2 21 "MarkedRuns$Locks" "most" "I" ∈ TT := List.mem_filter.mpr ⟨List.mem_of_getElem? (i := 186) (by decide +kernel), by decide +kernel⟩
theorem fl_X2_21 : FL RX2 21 1 1 := ⟨RX2, TX2, 2, rfl, by decide, in_X2, Or.inl wd_165⟩
theorem fp_X2_21 : FP RX2 21 1 1 .int := ⟨RX2, TX2, 2, tyX2, rfl, by decide, in_X2, wd_165, tyX2_ok, nmX2, rfl, by decide +kernel⟩
theorem wd_166 : Cond.fieldLink RX4 9 "MarkedRuns$Memory" "variables" "[I" ∈ TT := List.mem_filter.mpr ⟨List.mem_of_getElem? (i := 129) (by decide +kernel), by decide +kernel⟩
theorem fl_X4_9 : FL RX4 9 2 0 := ⟨RX4, TX4, 6, rfl, by decide, in_X4, Or.inl wd_166⟩
theorem wd_167 : Cond.fieldLink RX4 15 "MarkedRuns$Memory" "starts" "[I" ∈ TT := List.mem_filter.mpr ⟨List.mem_of_getElem? (i := 130) (by decide +kernel), by decide +kernel⟩
theorem fl_X4_15 : FL RX4 15 2 1 := ⟨RX4, TX4, 6, rfl, by decide, in_X4, Or.inl wd_167⟩
theorem wd_168 : Cond.fieldLink RX4 18 "MarkedRuns$Memory" "lengths" "[I" ∈ TT := List.mem_filter.mpr ⟨List.mem_of_getElem? (i := 131) (by decide +kernel), by decide +kernel⟩
theorem fl_X4_18 : FL RX4 18 2 2 := ⟨RX4, TX4, 6, rfl, by decide, in_X4, Or.inl wd_168⟩
theorem wd_169 : Cond.fieldLink RX4 21 "MarkedRuns$Memory" "cells" "[I" ∈ TT := List.mem_filter.mpr ⟨List.mem_of_getElem? (i := 132) (by decide +kernel), by decide +kernel⟩
theorem fl_X4_21 : FL RX4 21 2 3 := ⟨RX4, TX4, 6, rfl, by decide, in_X4, Or.inl wd_169⟩
theorem wd_170 : Cond.fieldLink RX4 30 "MarkedRuns$Memory" "used" "I" ∈ TT := List.mem_filter.mpr ⟨List.mem_of_getElem? (i := 133) (by decide +kernel), by decide +kernel⟩
theorem fl_X4_30 : FL RX4 30 2 4 := ⟨RX4, TX4, 6, rfl, by decide, in_X4, Or.inl wd_170⟩
theorem fp_X4_30 : FP RX4 30 2 4 .int := ⟨RX4, TX4, 6, tyX4, rfl, by decide, in_X4, wd_170, tyX4_ok, nmX4, rfl, by decide +kernel⟩
theorem wd_171 : Cond.fieldLink RX4 34 "MarkedRuns$Memory" "result" "I" ∈ TT := List.mem_filter.mpr ⟨List.mem_of_getElem? (i := 134) (by decide +kernel), by decide +kernel⟩
theorem fl_X4_34 : FL RX4 34 2 5 := ⟨RX4, TX4, 6, rfl, by decide, in_X4, Or.inl wd_171⟩
theorem fp_X4_34 : FP RX4 34 2 5 .int := ⟨RX4, TX4, 6, tyX4, rfl, by decide, in_X4, wd_171, tyX4_ok, nmX4, rfl, by decide +kernel⟩
theorem wd_172 : Cond.fieldLink RX5 9 "MarkedRuns$Program" "sorts" "[I" ∈ TT := List.mem_filter.mpr ⟨List.mem_of_getElem? (i := 93) (by decide +kernel), by decide +kernel⟩
theorem fl_X5_9 : FL RX5 9 3 0 := ⟨RX5, TX5, 7, rfl, by decide, in_X5, Or.inl wd_172⟩
theorem wd_173 : Cond.fieldLink RX5 15 "MarkedRuns$Program" "firsts" "[I" ∈ TT := List.mem_filter.mpr ⟨List.mem_of_getElem? (i := 94) (by decide +kernel), by decide +kernel⟩
theorem fl_X5_15 : FL RX5 15 3 1 := ⟨RX5, TX5, 7, rfl, by decide, in_X5, Or.inl wd_173⟩
theorem wd_174 : Cond.fieldLink RX5 18 "MarkedRuns$Program" "seconds" "[I" ∈ TT := List.mem_filter.mpr ⟨List.mem_of_getElem? (i := 95) (by decide +kernel), by decide +kernel⟩
theorem fl_X5_18 : FL RX5 18 3 2 := ⟨RX5, TX5, 7, rfl, by decide, in_X5, Or.inl wd_174⟩
theorem wd_175 : Cond.fieldLink RX5 21 "MarkedRuns$Program" "thirds" "[I" ∈ TT := List.mem_filter.mpr ⟨List.mem_of_getElem? (i := 96) (by decide +kernel), by decide +kernel⟩
theorem fl_X5_21 : FL RX5 21 3 3 := ⟨RX5, TX5, 7, rfl, by decide, in_X5, Or.inl wd_175⟩
theorem wd_176 : Cond.fieldLink RX5 24 "MarkedRuns$Program" "heights" "[I" ∈ TT := List.mem_filter.mpr ⟨List.mem_of_getElem? (i := 97) (by decide +kernel), by decide +kernel⟩
theorem fl_X5_24 : FL RX5 24 3 4 := ⟨RX5, TX5, 7, rfl, by decide, in_X5, Or.inl wd_176⟩
theorem wd_177 : Cond.fieldLink RX5 27 "MarkedRuns$Program" "bodyByMethod" "[I" ∈ TT := List.mem_filter.mpr ⟨List.mem_of_getElem? (i := 98) (by decide +kernel), by decide +kernel⟩
theorem fl_X5_27 : FL RX5 27 3 5 := ⟨RX5, TX5, 7, rfl, by decide, in_X5, Or.inl wd_177⟩
theorem wd_178 : Cond.fieldLink RX5 36 "MarkedRuns$Program" "many" "I" ∈ TT := List.mem_filter.mpr ⟨List.mem_of_getElem? (i := 99) (by decide +kernel), by decide +kernel⟩
theorem fl_X5_36 : FL RX5 36 3 6 := ⟨RX5, TX5, 7, rfl, by decide, in_X5, Or.inl wd_178⟩
theorem fp_X5_36 : FP RX5 36 3 6 .int := ⟨RX5, TX5, 7, tyX5, rfl, by decide, in_X5, wd_178, tyX5_ok, nmX5, rfl, by decide +kernel⟩
theorem wd_179 : Cond.fieldLink RX6 11 "MarkedRuns$Purse" "countByMark" "[I" ∈ TT := List.mem_filter.mpr ⟨List.mem_of_getElem? (i := 154) (by decide +kernel), by decide +kernel⟩
theorem fl_X6_11 : FL RX6 11 4 0 := ⟨RX6, TX6, 8, rfl, by decide, in_X6, Or.inl wd_179⟩
theorem wd_180 : Cond.fieldLink RX6 17 "MarkedRuns$Purse" "begun" "[I" ∈ TT := List.mem_filter.mpr ⟨List.mem_of_getElem? (i := 155) (by decide +kernel), by decide +kernel⟩
theorem fl_X6_17 : FL RX6 17 4 1 := ⟨RX6, TX6, 8, rfl, by decide, in_X6, Or.inl wd_180⟩
theorem wd_181 : Cond.fieldLink RX6 26 "MarkedRuns$Purse" "manyBegun" "I" ∈ TT := List.mem_filter.mpr ⟨List.mem_of_getElem? (i := 156) (by decide +kernel), by decide +kernel⟩
theorem fl_X6_26 : FL RX6 26 4 2 := ⟨RX6, TX6, 8, rfl, by decide, in_X6, Or.inl wd_181⟩
theorem fp_X6_26 : FP RX6 26 4 2 .int := ⟨RX6, TX6, 8, tyX6, rfl, by decide, in_X6, wd_181, tyX6_ok, nmX6, rfl, by decide +kernel⟩
theorem wd_182 : Cond.fieldLink RX6 30 "MarkedRuns$Purse" "budget" "I" ∈ TT := List.mem_filter.mpr ⟨List.mem_of_getElem? (i := 157) (by decide +kernel), by decide +kernel⟩
theorem fl_X6_30 : FL RX6 30 4 3 := ⟨RX6, TX6, 8, rfl, by decide, in_X6, Or.inl wd_182⟩
theorem fp_X6_30 : FP RX6 30 4 3 .int := ⟨RX6, TX6, 8, tyX6, rfl, by decide, in_X6, wd_182, tyX6_ok, nmX6, rfl, by decide +kernel⟩
theorem wd_183 : Cond.fieldLink RX6 33 "MarkedRuns$Purse" "reserve" "I" ∈ TT := List.mem_filter.mpr ⟨List.mem_of_getElem? (i := 158) (by decide +kernel), by decide +kernel⟩
theorem fl_X6_33 : FL RX6 33 4 4 := ⟨RX6, TX6, 8, rfl, by decide, in_X6, Or.inl wd_183⟩
theorem fp_X6_33 : FP RX6 33 4 4 .int := ⟨RX6, TX6, 8, tyX6, rfl, by decide, in_X6, wd_183, tyX6_ok, nmX6, rfl, by decide +kernel⟩
theorem wd_184 : Cond.fieldLink RX6 36 "MarkedRuns$Purse" "spentOfBudget" "I" ∈ TT := List.mem_filter.mpr ⟨List.mem_of_getElem? (i := 159) (by decide +kernel), by decide +kernel⟩
theorem fl_X6_36 : FL RX6 36 4 5 := ⟨RX6, TX6, 8, rfl, by decide, in_X6, Or.inl wd_184⟩
theorem fp_X6_36 : FP RX6 36 4 5 .int := ⟨RX6, TX6, 8, tyX6, rfl, by decide, in_X6, wd_184, tyX6_ok, nmX6, rfl, by decide +kernel⟩
theorem wd_185 : Cond.fieldLink RX6 39 "MarkedRuns$Purse" "spentOfReserve" "I" ∈ TT := List.mem_filter.mpr ⟨List.mem_of_getElem? (i := 160) (by decide +kernel), by decide +kernel⟩
theorem fl_X6_39 : FL RX6 39 4 6 := ⟨RX6, TX6, 8, rfl, by decide, in_X6, Or.inl wd_185⟩
theorem fp_X6_39 : FP RX6 39 4 6 .int := ⟨RX6, TX6, 8, tyX6, rfl, by decide, in_X6, wd_185, tyX6_ok, nmX6, rfl, by decide +kernel⟩
theorem wd_186 : Cond.fieldLink RX6 42 "MarkedRuns$Purse" "byReserve" "Z" ∈ TT := List.mem_filter.mpr ⟨List.mem_of_getElem? (i := 161) (by decide +kernel), by decide +kernel⟩
theorem fl_X6_42 : FL RX6 42 4 7 := ⟨RX6, TX6, 8, rfl, by decide, in_X6, Or.inl wd_186⟩
theorem fp_X6_42 : FP RX6 42 4 7 .boolean := ⟨RX6, TX6, 8, tyX6, rfl, by decide, in_X6, wd_186, tyX6_ok, nmX6, rfl, by decide +kernel⟩
theorem wd_187 : Cond.fieldLink RX7 12 "MarkedRuns$Run" "memory" "LMarkedRuns$Memory;" ∈ TT := List.mem_filter.mpr ⟨List.mem_of_getElem? (i := 218) (by decide +kernel), by decide +kernel⟩
theorem fl_X7_12 : FL RX7 12 5 1 := ⟨RX7, TX7, 11, rfl, by decide, in_X7, Or.inl wd_187⟩
theorem wd_188 : Cond.fieldLink RX7 21 "MarkedRuns$Run" "purse" "LMarkedRuns$Purse;" ∈ TT := List.mem_filter.mpr ⟨List.mem_of_getElem? (i := 220) (by decide +kernel), by decide +kernel⟩
theorem fl_X7_21 : FL RX7 21 5 2 := ⟨RX7, TX7, 11, rfl, by decide, in_X7, Or.inl wd_188⟩
theorem wd_189 : Cond.fieldLink RX7 28 "MarkedRuns$Run" "locks" "LMarkedRuns$Locks;" ∈ TT := List.mem_filter.mpr ⟨List.mem_of_getElem? (i := 222) (by decide +kernel), by decide +kernel⟩
theorem fl_X7_28 : FL RX7 28 5 3 := ⟨RX7, TX7, 11, rfl, by decide, in_X7, Or.inl wd_189⟩
theorem wd_190 : Cond.fieldLink RX7 35 "MarkedRuns$Run" "frames" "LMarkedRuns$Frames;" ∈ TT := List.mem_filter.mpr ⟨List.mem_of_getElem? (i := 223) (by decide +kernel), by decide +kernel⟩
theorem fl_X7_35 : FL RX7 35 5 4 := ⟨RX7, TX7, 11, rfl, by decide, in_X7, Or.inl wd_190⟩
theorem wd_191 : Cond.fieldLink RX7 39 "MarkedRuns$Run" "answer" "I" ∈ TT := List.mem_filter.mpr ⟨List.mem_of_getElem? (i := 224) (by decide +kernel), by decide +kernel⟩
theorem fl_X7_39 : FL RX7 39 5 5 := ⟨RX7, TX7, 11, rfl, by decide, in_X7, Or.inl wd_191⟩
theorem fp_X7_39 : FP RX7 39 5 5 .int := ⟨RX7, TX7, 11, tyX7, rfl, by decide, in_X7, wd_191, tyX7_ok, nmX7, rfl, by decide +kernel⟩
theorem wd_192 : Cond.fieldLink RX7 43 "MarkedRuns$Run" "program" "LMarkedRuns$Program;" ∈ TT := List.mem_filter.mpr ⟨List.mem_of_getElem? (i := 217) (by decide +kernel), by decide +kernel⟩
theorem fl_X7_43 : FL RX7 43 5 0 := ⟨RX7, TX7, 11, rfl, by decide, in_X7, Or.inl wd_192⟩
theorem wd_193 : Cond.fieldLink RX7 61 "MarkedRuns$Run" "ending" "I" ∈ TT := List.mem_filter.mpr ⟨List.mem_of_getElem? (i := 227) (by decide +kernel), by decide +kernel⟩
theorem fl_X7_61 : FL RX7 61 5 8 := ⟨RX7, TX7, 11, rfl, by decide, in_X7, Or.inl wd_193⟩
theorem fp_X7_61 : FP RX7 61 5 8 .int := ⟨RX7, TX7, 11, tyX7, rfl, by decide, in_X7, wd_193, tyX7_ok, nmX7, rfl, by decide +kernel⟩
theorem wd_194 : Cond.fieldLink RX7 82 "MarkedRuns$Run" "kind" "I" ∈ TT := List.mem_filter.mpr ⟨List.mem_of_getElem? (i := 228) (by decide +kernel), by decide +kernel⟩
theorem fl_X7_82 : FL RX7 82 5 9 := ⟨RX7, TX7, 11, rfl, by decide, in_X7, Or.inl wd_194⟩
theorem fp_X7_82 : FP RX7 82 5 9 .int := ⟨RX7, TX7, 11, tyX7, rfl, by decide, in_X7, wd_194, tyX7_ok, nmX7, rfl, by decide +kernel⟩
theorem wd_195 : Cond.fieldLink RX7 85 "MarkedRuns$Run" "number" "I" ∈ TT := List.mem_filter.mpr ⟨List.mem_of_getElem? (i := 229) (by decide +kernel), by decide +kernel⟩
theorem fl_X7_85 : FL RX7 85 5 10 := ⟨RX7, TX7, 11, rfl, by decide, in_X7, Or.inl wd_195⟩
theorem fp_X7_85 : FP RX7 85 5 10 .int := ⟨RX7, TX7, 11, tyX7, rfl, by decide, in_X7, wd_195, tyX7_ok, nmX7, rfl, by decide +kernel⟩
theorem wd_196 : Cond.fieldLink RX7 97 "MarkedRuns$Run" "mostMethods" "I" ∈ TT := List.mem_filter.mpr ⟨List.mem_of_getElem? (i := 226) (by decide +kernel), by decide +kernel⟩
theorem fl_X7_97 : FL RX7 97 5 7 := ⟨RX7, TX7, 11, rfl, by decide, in_X7, Or.inl wd_196⟩
theorem fp_X7_97 : FP RX7 97 5 7 .int := ⟨RX7, TX7, 11, tyX7, rfl, by decide, in_X7, wd_196, tyX7_ok, nmX7, rfl, by decide +kernel⟩
theorem wd_197 : Cond.fieldLink RX7 124 "MarkedRuns$Run" "methods" "I" ∈ TT := List.mem_filter.mpr ⟨List.mem_of_getElem? (i := 225) (by decide +kernel), by decide +kernel⟩
theorem fl_X7_124 : FL RX7 124 5 6 := ⟨RX7, TX7, 11, rfl, by decide, in_X7, Or.inl wd_197⟩
theorem fp_X7_124 : FP RX7 124 5 6 .int := ⟨RX7, TX7, 11, tyX7, rfl, by decide, in_X7, wd_197, tyX7_ok, nmX7, rfl, by decide +kernel⟩
theorem wd_198 : Cond.fieldLink RX10 1 "MarkedRunsModel" "thrown" "I" ∈ TT := List.mem_filter.mpr ⟨List.mem_of_getElem? (i := 809) (by decide +kernel), by decide +kernel⟩
theorem fl_X10_1 : FL RX10 1 7 0 := ⟨RX10, TX10, 41, rfl, by decide, in_X10, Or.inl wd_198⟩
theorem fp_X10_1 : FP RX10 1 7 0 .int := ⟨RX10, TX10, 41, tyX10, rfl, by decide, in_X10, wd_198, tyX10_ok, nmX10, rfl, by decide +kernel⟩
theorem wd_199 : Cond.fieldLink RX10 13 "MarkedRunsModel" "sort" "[I" ∈ TT := List.mem_filter.mpr ⟨List.mem_of_getElem? (i := 811) (by decide +kernel), by decide +kernel⟩
theorem fl_X10_13 : FL RX10 13 7 2 := ⟨RX10, TX10, 41, rfl, by decide, in_X10, Or.inl wd_199⟩
theorem wd_200 : Cond.fieldLink RX10 17 "MarkedRunsModel" "partA" "[I" ∈ TT := List.mem_filter.mpr ⟨List.mem_of_getElem? (i := 812) (by decide +kernel), by decide +kernel⟩
theorem fl_X10_17 : FL RX10 17 7 3 := ⟨RX10, TX10, 41, rfl, by decide, in_X10, Or.inl wd_200⟩
theorem wd_201 : Cond.fieldLink RX10 20 "MarkedRunsModel" "partB" "[I" ∈ TT := List.mem_filter.mpr ⟨List.mem_of_getElem? (i := 813) (by decide +kernel), by decide +kernel⟩
theorem fl_X10_20 : FL RX10 20 7 4 := ⟨RX10, TX10, 41, rfl, by decide, in_X10, Or.inl wd_201⟩
theorem wd_202 : Cond.fieldLink RX10 23 "MarkedRunsModel" "partC" "[I" ∈ TT := List.mem_filter.mpr ⟨List.mem_of_getElem? (i := 814) (by decide +kernel), by decide +kernel⟩
theorem fl_X10_23 : FL RX10 23 7 5 := ⟨RX10, TX10, 41, rfl, by decide, in_X10, Or.inl wd_202⟩
theorem wd_203 : Cond.fieldLink RX10 26 "MarkedRunsModel" "height" "[I" ∈ TT := List.mem_filter.mpr ⟨List.mem_of_getElem? (i := 815) (by decide +kernel), by decide +kernel⟩
theorem fl_X10_26 : FL RX10 26 7 6 := ⟨RX10, TX10, 41, rfl, by decide, in_X10, Or.inl wd_203⟩
theorem wd_204 : Cond.fieldLink RX10 29 "MarkedRunsModel" "bodies" "[I" ∈ TT := List.mem_filter.mpr ⟨List.mem_of_getElem? (i := 816) (by decide +kernel), by decide +kernel⟩
theorem fl_X10_29 : FL RX10 29 7 7 := ⟨RX10, TX10, 41, rfl, by decide, in_X10, Or.inl wd_204⟩
theorem wd_205 : Cond.fieldLink RX10 32 "MarkedRunsModel" "variable" "[I" ∈ TT := List.mem_filter.mpr ⟨List.mem_of_getElem? (i := 817) (by decide +kernel), by decide +kernel⟩
theorem fl_X10_32 : FL RX10 32 7 8 := ⟨RX10, TX10, 41, rfl, by decide, in_X10, Or.inl wd_205⟩
theorem wd_206 : Cond.fieldLink RX10 35 "MarkedRunsModel" "row" "[I" ∈ TT := List.mem_filter.mpr ⟨List.mem_of_getElem? (i := 818) (by decide +kernel), by decide +kernel⟩
theorem fl_X10_35 : FL RX10 35 7 9 := ⟨RX10, TX10, 41, rfl, by decide, in_X10, Or.inl wd_206⟩
theorem wd_207 : Cond.fieldLink RX10 38 "MarkedRunsModel" "lock" "[I" ∈ TT := List.mem_filter.mpr ⟨List.mem_of_getElem? (i := 819) (by decide +kernel), by decide +kernel⟩
theorem fl_X10_38 : FL RX10 38 7 10 := ⟨RX10, TX10, 41, rfl, by decide, in_X10, Or.inl wd_207⟩
theorem wd_208 : Cond.fieldLink RX10 41 "MarkedRunsModel" "rowMany" "[I" ∈ TT := List.mem_filter.mpr ⟨List.mem_of_getElem? (i := 821) (by decide +kernel), by decide +kernel⟩
theorem fl_X10_41 : FL RX10 41 7 12 := ⟨RX10, TX10, 41, rfl, by decide, in_X10, Or.inl wd_208⟩
theorem wd_209 : Cond.fieldLink RX10 44 "MarkedRunsModel" "rowAt" "[I" ∈ TT := List.mem_filter.mpr ⟨List.mem_of_getElem? (i := 822) (by decide +kernel), by decide +kernel⟩
theorem fl_X10_44 : FL RX10 44 7 13 := ⟨RX10, TX10, 41, rfl, by decide, in_X10, Or.inl wd_209⟩
theorem wd_210 : Cond.fieldLink RX10 47 "MarkedRunsModel" "cell" "[I" ∈ TT := List.mem_filter.mpr ⟨List.mem_of_getElem? (i := 824) (by decide +kernel), by decide +kernel⟩
theorem fl_X10_47 : FL RX10 47 7 15 := ⟨RX10, TX10, 41, rfl, by decide, in_X10, Or.inl wd_210⟩
theorem wd_211 : Cond.fieldLink RX10 50 "MarkedRunsModel" "marked" "[I" ∈ TT := List.mem_filter.mpr ⟨List.mem_of_getElem? (i := 829) (by decide +kernel), by decide +kernel⟩
theorem fl_X10_50 : FL RX10 50 7 20 := ⟨RX10, TX10, 41, rfl, by decide, in_X10, Or.inl wd_211⟩
theorem wd_212 : Cond.fieldLink RX10 53 "MarkedRunsModel" "log" "[I" ∈ TT := List.mem_filter.mpr ⟨List.mem_of_getElem? (i := 831) (by decide +kernel), by decide +kernel⟩
theorem fl_X10_53 : FL RX10 53 7 22 := ⟨RX10, TX10, 41, rfl, by decide, in_X10, Or.inl wd_212⟩
theorem wd_213 : Cond.fieldLink RX10 56 "MarkedRunsModel" "answer" "I" ∈ TT := List.mem_filter.mpr ⟨List.mem_of_getElem? (i := 835) (by decide +kernel), by decide +kernel⟩
theorem fl_X10_56 : FL RX10 56 7 26 := ⟨RX10, TX10, 41, rfl, by decide, in_X10, Or.inl wd_213⟩
theorem fp_X10_56 : FP RX10 56 7 26 .int := ⟨RX10, TX10, 41, tyX10, rfl, by decide, in_X10, wd_213, tyX10_ok, nmX10, rfl, by decide +kernel⟩
theorem wd_214 : Cond.fieldLink RX10 59 "MarkedRunsModel" "runs" "[I" ∈ TT := List.mem_filter.mpr ⟨List.mem_of_getElem? (i := 838) (by decide +kernel), by decide +kernel⟩
theorem fl_X10_59 : FL RX10 59 7 29 := ⟨RX10, TX10, 41, rfl, by decide, in_X10, Or.inl wd_214⟩
theorem wd_215 : Cond.fieldLink RX10 62 "MarkedRunsModel" "frame" "[I" ∈ TT := List.mem_filter.mpr ⟨List.mem_of_getElem? (i := 840) (by decide +kernel), by decide +kernel⟩
theorem fl_X10_62 : FL RX10 62 7 31 := ⟨RX10, TX10, 41, rfl, by decide, in_X10, Or.inl wd_215⟩
theorem wd_216 : Cond.fieldLink RX10 65 "MarkedRunsModel" "phase" "[I" ∈ TT := List.mem_filter.mpr ⟨List.mem_of_getElem? (i := 841) (by decide +kernel), by decide +kernel⟩
theorem fl_X10_65 : FL RX10 65 7 32 := ⟨RX10, TX10, 41, rfl, by decide, in_X10, Or.inl wd_216⟩
theorem wd_217 : Cond.fieldLink RX10 68 "MarkedRunsModel" "wasState" "[I" ∈ TT := List.mem_filter.mpr ⟨List.mem_of_getElem? (i := 842) (by decide +kernel), by decide +kernel⟩
theorem fl_X10_68 : FL RX10 68 7 33 := ⟨RX10, TX10, 41, rfl, by decide, in_X10, Or.inl wd_217⟩
theorem wd_218 : Cond.fieldLink RX10 71 "MarkedRunsModel" "wasKind" "[I" ∈ TT := List.mem_filter.mpr ⟨List.mem_of_getElem? (i := 843) (by decide +kernel), by decide +kernel⟩
theorem fl_X10_71 : FL RX10 71 7 34 := ⟨RX10, TX10, 41, rfl, by decide, in_X10, Or.inl wd_218⟩
theorem wd_219 : Cond.fieldLink RX10 74 "MarkedRunsModel" "wasNumber" "[I" ∈ TT := List.mem_filter.mpr ⟨List.mem_of_getElem? (i := 844) (by decide +kernel), by decide +kernel⟩
theorem fl_X10_74 : FL RX10 74 7 35 := ⟨RX10, TX10, 41, rfl, by decide, in_X10, Or.inl wd_219⟩
theorem wd_220 : Cond.fieldLink RX10 77 "MarkedRunsModel" "first" "[I" ∈ TT := List.mem_filter.mpr ⟨List.mem_of_getElem? (i := 848) (by decide +kernel), by decide +kernel⟩
theorem fl_X10_77 : FL RX10 77 7 39 := ⟨RX10, TX10, 41, rfl, by decide, in_X10, Or.inl wd_220⟩
theorem wd_221 : Cond.fieldLink RX10 80 "MarkedRunsModel" "firstCell" "[I" ∈ TT := List.mem_filter.mpr ⟨List.mem_of_getElem? (i := 849) (by decide +kernel), by decide +kernel⟩
theorem fl_X10_80 : FL RX10 80 7 40 := ⟨RX10, TX10, 41, rfl, by decide, in_X10, Or.inl wd_221⟩
theorem wd_222 : Cond.fieldLink RX10 83 "MarkedRunsModel" "many" "I" ∈ TT := List.mem_filter.mpr ⟨List.mem_of_getElem? (i := 810) (by decide +kernel), by decide +kernel⟩
theorem fl_X10_83 : FL RX10 83 7 1 := ⟨RX10, TX10, 41, rfl, by decide, in_X10, Or.inl wd_222⟩
theorem fp_X10_83 : FP RX10 83 7 1 .int := ⟨RX10, TX10, 41, tyX10, rfl, by decide, in_X10, wd_222, tyX10_ok, nmX10, rfl, by decide +kernel⟩
theorem wd_223 : Cond.fieldLink RX10 106 "MarkedRunsModel" "high" "I" ∈ TT := List.mem_filter.mpr ⟨List.mem_of_getElem? (i := 839) (by decide +kernel), by decide +kernel⟩
theorem fl_X10_106 : FL RX10 106 7 30 := ⟨RX10, TX10, 41, rfl, by decide, in_X10, Or.inl wd_223⟩
theorem fp_X10_106 : FP RX10 106 7 30 .int := ⟨RX10, TX10, 41, tyX10, rfl, by decide, in_X10, wd_223, tyX10_ok, nmX10, rfl, by decide +kernel⟩
theorem wd_224 : Cond.fieldLink RX10 109 "MarkedRunsModel" "state" "I" ∈ TT := List.mem_filter.mpr ⟨List.mem_of_getElem? (i := 846) (by decide +kernel), by decide +kernel⟩
theorem fl_X10_109 : FL RX10 109 7 37 := ⟨RX10, TX10, 41, rfl, by decide, in_X10, Or.inl wd_224⟩
theorem fp_X10_109 : FP RX10 109 7 37 .int := ⟨RX10, TX10, 41, tyX10, rfl, by decide, in_X10, wd_224, tyX10_ok, nmX10, rfl, by decide +kernel⟩
theorem wd_225 : Cond.fieldLink RX10 112 "MarkedRunsModel" "kind" "I" ∈ TT := List.mem_filter.mpr ⟨List.mem_of_getElem? (i := 836) (by decide +kernel), by decide +kernel⟩
theorem fl_X10_112 : FL RX10 112 7 27 := ⟨RX10, TX10, 41, rfl, by decide, in_X10, Or.inl wd_225⟩
theorem fp_X10_112 : FP RX10 112 7 27 .int := ⟨RX10, TX10, 41, tyX10, rfl, by decide, in_X10, wd_225, tyX10_ok, nmX10, rfl, by decide +kernel⟩
theorem wd_226 : Cond.fieldLink RX10 115 "MarkedRunsModel" "number" "I" ∈ TT := List.mem_filter.mpr ⟨List.mem_of_getElem? (i := 837) (by decide +kernel), by decide +kernel⟩
theorem fl_X10_115 : FL RX10 115 7 28 := ⟨RX10, TX10, 41, rfl, by decide, in_X10, Or.inl wd_226⟩
theorem fp_X10_115 : FP RX10 115 7 28 .int := ⟨RX10, TX10, 41, tyX10, rfl, by decide, in_X10, wd_226, tyX10_ok, nmX10, rfl, by decide +kernel⟩
theorem wd_227 : Cond.fieldLink RX10 122 "MarkedRunsModel" "reserved" "I" ∈ TT := List.mem_filter.mpr ⟨List.mem_of_getElem? (i := 847) (by decide +kernel), by decide +kernel⟩
theorem fl_X10_122 : FL RX10 122 7 38 := ⟨RX10, TX10, 41, rfl, by decide, in_X10, Or.inl wd_227⟩
theorem fp_X10_122 : FP RX10 122 7 38 .int := ⟨RX10, TX10, 41, tyX10, rfl, by decide, in_X10, wd_227, tyX10_ok, nmX10, rfl, by decide +kernel⟩
theorem wd_228 : Cond.fieldLink RX10 125 "MarkedRunsModel" "budget" "I" ∈ TT := List.mem_filter.mpr ⟨List.mem_of_getElem? (i := 825) (by decide +kernel), by decide +kernel⟩
theorem fl_X10_125 : FL RX10 125 7 16 := ⟨RX10, TX10, 41, rfl, by decide, in_X10, Or.inl wd_228⟩
theorem fp_X10_125 : FP RX10 125 7 16 .int := ⟨RX10, TX10, 41, tyX10, rfl, by decide, in_X10, wd_228, tyX10_ok, nmX10, rfl, by decide +kernel⟩
theorem wd_229 : Cond.fieldLink RX10 128 "MarkedRunsModel" "reserve" "I" ∈ TT := List.mem_filter.mpr ⟨List.mem_of_getElem? (i := 826) (by decide +kernel), by decide +kernel⟩
theorem fl_X10_128 : FL RX10 128 7 17 := ⟨RX10, TX10, 41, rfl, by decide, in_X10, Or.inl wd_229⟩
theorem fp_X10_128 : FP RX10 128 7 17 .int := ⟨RX10, TX10, 41, tyX10, rfl, by decide, in_X10, wd_229, tyX10_ok, nmX10, rfl, by decide +kernel⟩
theorem wd_230 : Cond.fieldLink RX10 134 "MarkedRunsModel" "paid" "I" ∈ TT := List.mem_filter.mpr ⟨List.mem_of_getElem? (i := 827) (by decide +kernel), by decide +kernel⟩
theorem fl_X10_134 : FL RX10 134 7 18 := ⟨RX10, TX10, 41, rfl, by decide, in_X10, Or.inl wd_230⟩
theorem fp_X10_134 : FP RX10 134 7 18 .int := ⟨RX10, TX10, 41, tyX10, rfl, by decide, in_X10, wd_230, tyX10_ok, nmX10, rfl, by decide +kernel⟩
theorem wd_231 : Cond.fieldLink RX10 137 "MarkedRunsModel" "paidReserve" "I" ∈ TT := List.mem_filter.mpr ⟨List.mem_of_getElem? (i := 828) (by decide +kernel), by decide +kernel⟩
theorem fl_X10_137 : FL RX10 137 7 19 := ⟨RX10, TX10, 41, rfl, by decide, in_X10, Or.inl wd_231⟩
theorem fp_X10_137 : FP RX10 137 7 19 .int := ⟨RX10, TX10, 41, tyX10, rfl, by decide, in_X10, wd_231, tyX10_ok, nmX10, rfl, by decide +kernel⟩
theorem wd_232 : Cond.fieldLink RX10 143 "MarkedRunsModel" "methods" "I" ∈ TT := List.mem_filter.mpr ⟨List.mem_of_getElem? (i := 845) (by decide +kernel), by decide +kernel⟩
theorem fl_X10_143 : FL RX10 143 7 36 := ⟨RX10, TX10, 41, rfl, by decide, in_X10, Or.inl wd_232⟩
theorem fp_X10_143 : FP RX10 143 7 36 .int := ⟨RX10, TX10, 41, tyX10, rfl, by decide, in_X10, wd_232, tyX10_ok, nmX10, rfl, by decide +kernel⟩
theorem wd_233 : Cond.fieldLink RX10 146 "MarkedRunsModel" "logged" "I" ∈ TT := List.mem_filter.mpr ⟨List.mem_of_getElem? (i := 830) (by decide +kernel), by decide +kernel⟩
theorem fl_X10_146 : FL RX10 146 7 21 := ⟨RX10, TX10, 41, rfl, by decide, in_X10, Or.inl wd_233⟩
theorem fp_X10_146 : FP RX10 146 7 21 .int := ⟨RX10, TX10, 41, tyX10, rfl, by decide, in_X10, wd_233, tyX10_ok, nmX10, rfl, by decide +kernel⟩
theorem wd_234 : Cond.fieldLink RX10 156 "MarkedRunsModel" "rows" "I" ∈ TT := List.mem_filter.mpr ⟨List.mem_of_getElem? (i := 820) (by decide +kernel), by decide +kernel⟩
theorem fl_X10_156 : FL RX10 156 7 11 := ⟨RX10, TX10, 41, rfl, by decide, in_X10, Or.inl wd_234⟩
theorem fp_X10_156 : FP RX10 156 7 11 .int := ⟨RX10, TX10, 41, tyX10, rfl, by decide, in_X10, wd_234, tyX10_ok, nmX10, rfl, by decide +kernel⟩
theorem wd_235 : Cond.fieldLink RX10 159 "MarkedRunsModel" "cells" "I" ∈ TT := List.mem_filter.mpr ⟨List.mem_of_getElem? (i := 823) (by decide +kernel), by decide +kernel⟩
theorem fl_X10_159 : FL RX10 159 7 14 := ⟨RX10, TX10, 41, rfl, by decide, in_X10, Or.inl wd_235⟩
theorem fp_X10_159 : FP RX10 159 7 14 .int := ⟨RX10, TX10, 41, tyX10, rfl, by decide, in_X10, wd_235, tyX10_ok, nmX10, rfl, by decide +kernel⟩
theorem wd_236 : Cond.fieldLink RX10 168 "MarkedRunsModel" "result" "I" ∈ TT := List.mem_filter.mpr ⟨List.mem_of_getElem? (i := 832) (by decide +kernel), by decide +kernel⟩
theorem fl_X10_168 : FL RX10 168 7 23 := ⟨RX10, TX10, 41, rfl, by decide, in_X10, Or.inl wd_236⟩
theorem fp_X10_168 : FP RX10 168 7 23 .int := ⟨RX10, TX10, 41, tyX10, rfl, by decide, in_X10, wd_236, tyX10_ok, nmX10, rfl, by decide +kernel⟩
theorem wd_237 : Cond.fieldLink RX10 177 "MarkedRunsModel" "mostMethods" "I" ∈ TT := List.mem_filter.mpr ⟨List.mem_of_getElem? (i := 833) (by decide +kernel), by decide +kernel⟩
theorem fl_X10_177 : FL RX10 177 7 24 := ⟨RX10, TX10, 41, rfl, by decide, in_X10, Or.inl wd_237⟩
theorem fp_X10_177 : FP RX10 177 7 24 .int := ⟨RX10, TX10, 41, tyX10, rfl, by decide, in_X10, wd_237, tyX10_ok, nmX10, rfl, by decide +kernel⟩
theorem wd_238 : Cond.fieldLink RX10 183 "MarkedRunsModel" "mostLocks" "I" ∈ TT := List.mem_filter.mpr ⟨List.mem_of_getElem? (i := 834) (by decide +kernel), by decide +kernel⟩
theorem fl_X10_183 : FL RX10 183 7 25 := ⟨RX10, TX10, 41, rfl, by decide, in_X10, Or.inl wd_238⟩
theorem fp_X10_183 : FP RX10 183 7 25 .int := ⟨RX10, TX10, 41, tyX10, rfl, by decide, in_X10, wd_238, tyX10_ok, nmX10, rfl, by decide +kernel⟩
theorem wd_239 : Cond.methodLink RX9 32 yX5_takes ∈ TT := List.mem_filter.mpr ⟨List.mem_of_getElem? (i := 270) (by decide +kernel), by decide +kernel⟩
theorem wd_240 : Cond.instanceMethod yX5_takes ∈ TT := List.mem_filter.mpr ⟨List.mem_of_getElem? (i := 271) (by decide +kernel), by decide +kernel⟩
theorem wd_241 : Cond.selects RX5 yX5_takes yX5_takes ∈ TT := List.mem_filter.mpr ⟨List.mem_of_getElem? (i := 272) (by decide +kernel), by decide +kernel⟩
theorem cl_X9_32 : CVok RX9 32 kX5_takes := ⟨wd_239, wd_240, wd_241⟩
theorem wd_242 : Cond.methodLink RX9 36 yX5_isFull ∈ TT := List.mem_filter.mpr ⟨List.mem_of_getElem? (i := 302) (by decide +kernel), by decide +kernel⟩
theorem wd_243 : Cond.instanceMethod yX5_isFull ∈ TT := List.mem_filter.mpr ⟨List.mem_of_getElem? (i := 303) (by decide +kernel), by decide +kernel⟩
theorem wd_244 : Cond.selects RX5 yX5_isFull yX5_isFull ∈ TT := List.mem_filter.mpr ⟨List.mem_of_getElem? (i := 304) (by decide +kernel), by decide +kernel⟩
theorem cl_X9_36 : CVok RX9 36 kX5_isFull := ⟨wd_242, wd_243, wd_244⟩
theorem wd_245 : Cond.methodLink RX9 40 yX5_add ∈ TT := List.mem_filter.mpr ⟨List.mem_of_getElem? (i := 306) (by decide +kernel), by decide +kernel⟩
theorem wd_246 : Cond.instanceMethod yX5_add ∈ TT := List.mem_filter.mpr ⟨List.mem_of_getElem? (i := 307) (by decide +kernel), by decide +kernel⟩
theorem wd_247 : Cond.selects RX5 yX5_add yX5_add ∈ TT := List.mem_filter.mpr ⟨List.mem_of_getElem? (i := 308) (by decide +kernel), by decide +kernel⟩
theorem cl_X9_40 : CVok RX9 40 kX5_add := ⟨wd_245, wd_246, wd_247⟩
theorem wd_248 : Cond.methodLink RX9 44 yX5_canLoseLast ∈ TT := List.mem_filter.mpr ⟨List.mem_of_getElem? (i := 315) (by decide +kernel), by decide +kernel⟩
theorem wd_249 : Cond.instanceMethod yX5_canLoseLast ∈ TT := List.mem_filter.mpr ⟨List.mem_of_getElem? (i := 316) (by decide +kernel), by decide +kernel⟩
theorem wd_250 : Cond.selects RX5 yX5_canLoseLast yX5_canLoseLast ∈ TT := List.mem_filter.mpr ⟨List.mem_of_getElem? (i := 317) (by decide +kernel), by decide +kernel⟩
theorem cl_X9_44 : CVok RX9 44 kX5_canLoseLast := ⟨wd_248, wd_249, wd_250⟩
theorem wd_251 : Cond.methodLink RX9 47 yX5_loseLast ∈ TT := List.mem_filter.mpr ⟨List.mem_of_getElem? (i := 319) (by decide +kernel), by decide +kernel⟩
theorem wd_252 : Cond.instanceMethod yX5_loseLast ∈ TT := List.mem_filter.mpr ⟨List.mem_of_getElem? (i := 320) (by decide +kernel), by decide +kernel⟩
theorem wd_253 : Cond.selects RX5 yX5_loseLast yX5_loseLast ∈ TT := List.mem_filter.mpr ⟨List.mem_of_getElem? (i := 321) (by decide +kernel), by decide +kernel⟩
theorem cl_X9_47 : CVok RX9 47 kX5_loseLast := ⟨wd_251, wd_252, wd_253⟩
theorem wd_254 : Cond.methodLink RX9 51 yX5_has ∈ TT := List.mem_filter.mpr ⟨List.mem_of_getElem? (i := 327) (by decide +kernel), by decide +kernel⟩
theorem wd_255 : Cond.instanceMethod yX5_has ∈ TT := List.mem_filter.mpr ⟨List.mem_of_getElem? (i := 288) (by decide +kernel), by decide +kernel⟩
theorem wd_256 : Cond.selects RX5 yX5_has yX5_has ∈ TT := List.mem_filter.mpr ⟨List.mem_of_getElem? (i := 289) (by decide +kernel), by decide +kernel⟩
theorem cl_X9_51 : CVok RX9 51 kX5_has := ⟨wd_254, wd_255, wd_256⟩
theorem wd_257 : Cond.methodLink RX9 55 yX9_isBelow ∈ TT := List.mem_filter.mpr ⟨List.mem_of_getElem? (i := 328) (by decide +kernel), by decide +kernel⟩
theorem wd_258 : Cond.static yX9_isBelow ∈ TT := List.mem_filter.mpr ⟨List.mem_of_getElem? (i := 282) (by decide +kernel), by decide +kernel⟩
theorem cl_X9_55 : CSok RX9 55 kX9_isBelow := ⟨Or.inl wd_257, wd_258⟩
theorem wd_259 : Cond.methodLink RX9 59 yX5_setBody ∈ TT := List.mem_filter.mpr ⟨List.mem_of_getElem? (i := 329) (by decide +kernel), by decide +kernel⟩
theorem wd_260 : Cond.instanceMethod yX5_setBody ∈ TT := List.mem_filter.mpr ⟨List.mem_of_getElem? (i := 330) (by decide +kernel), by decide +kernel⟩
theorem wd_261 : Cond.selects RX5 yX5_setBody yX5_setBody ∈ TT := List.mem_filter.mpr ⟨List.mem_of_getElem? (i := 331) (by decide +kernel), by decide +kernel⟩
theorem cl_X9_59 : CVok RX9 59 kX5_setBody := ⟨wd_259, wd_260, wd_261⟩
theorem wd_262 : Cond.methodLink RX9 63 yX5_bodyOf ∈ TT := List.mem_filter.mpr ⟨List.mem_of_getElem? (i := 337) (by decide +kernel), by decide +kernel⟩
theorem wd_263 : Cond.instanceMethod yX5_bodyOf ∈ TT := List.mem_filter.mpr ⟨List.mem_of_getElem? (i := 338) (by decide +kernel), by decide +kernel⟩
theorem wd_264 : Cond.selects RX5 yX5_bodyOf yX5_bodyOf ∈ TT := List.mem_filter.mpr ⟨List.mem_of_getElem? (i := 339) (by decide +kernel), by decide +kernel⟩
theorem cl_X9_63 : CVok RX9 63 kX5_bodyOf := ⟨wd_262, wd_263, wd_264⟩
theorem wd_265 : Cond.methodLink RX9 67 yX9_isBudget ∈ TT := List.mem_filter.mpr ⟨List.mem_of_getElem? (i := 341) (by decide +kernel), by decide +kernel⟩
theorem wd_266 : Cond.static yX9_isBudget ∈ TT := List.mem_filter.mpr ⟨List.mem_of_getElem? (i := 342) (by decide +kernel), by decide +kernel⟩
theorem cl_X9_67 : CSok RX9 67 kX9_isBudget := ⟨Or.inl wd_265, wd_266⟩
theorem wd_267 : Cond.methodLink RX9 70 yX7_perform ∈ TT := List.mem_filter.mpr ⟨List.mem_of_getElem? (i := 344) (by decide +kernel), by decide +kernel⟩
theorem wd_268 : Cond.instanceMethod yX7_perform ∈ TT := List.mem_filter.mpr ⟨List.mem_of_getElem? (i := 345) (by decide +kernel), by decide +kernel⟩
theorem wd_269 : Cond.selects RX7 yX7_perform yX7_perform ∈ TT := List.mem_filter.mpr ⟨List.mem_of_getElem? (i := 346) (by decide +kernel), by decide +kernel⟩
theorem cl_X9_70 : CVok RX9 70 kX7_perform := ⟨wd_267, wd_268, wd_269⟩
theorem wd_270 : Cond.methodLink RX9 74 yX9_counted ∈ TT := List.mem_filter.mpr ⟨List.mem_of_getElem? (i := 585) (by decide +kernel), by decide +kernel⟩
theorem wd_271 : Cond.instanceMethod yX9_counted ∈ TT := List.mem_filter.mpr ⟨List.mem_of_getElem? (i := 587) (by decide +kernel), by decide +kernel⟩
theorem wd_272 : Cond.selects RX9 yX9_counted yX9_counted ∈ TT := List.mem_filter.mpr ⟨List.mem_of_getElem? (i := 25) (by decide +kernel), by decide +kernel⟩
theorem cl_X9_74 : CVok RX9 74 kX9_counted := ⟨wd_270, wd_271, wd_272⟩
theorem wd_273 : Cond.methodLink RX9 77 yX7_tell ∈ TT := List.mem_filter.mpr ⟨List.mem_of_getElem? (i := 593) (by decide +kernel), by decide +kernel⟩
theorem wd_274 : Cond.instanceMethod yX7_tell ∈ TT := List.mem_filter.mpr ⟨List.mem_of_getElem? (i := 594) (by decide +kernel), by decide +kernel⟩
theorem wd_275 : Cond.selects RX7 yX7_tell yX7_tell ∈ TT := List.mem_filter.mpr ⟨List.mem_of_getElem? (i := 595) (by decide +kernel), by decide +kernel⟩
theorem cl_X9_77 : CVok RX9 77 kX7_tell := ⟨wd_273, wd_274, wd_275⟩
theorem wd_276 : Cond.methodLink RX9 86 yX6_marksOf ∈ TT := List.mem_filter.mpr ⟨List.mem_of_getElem? (i := 617) (by decide +kernel), by decide +kernel⟩
theorem wd_277 : Cond.instanceMethod yX6_marksOf ∈ TT := List.mem_filter.mpr ⟨List.mem_of_getElem? (i := 618) (by decide +kernel), by decide +kernel⟩
theorem wd_278 : Cond.selects RX6 yX6_marksOf yX6_marksOf ∈ TT := List.mem_filter.mpr ⟨List.mem_of_getElem? (i := 619) (by decide +kernel), by decide +kernel⟩
theorem cl_X9_86 : CVok RX9 86 kX6_marksOf := ⟨wd_276, wd_277, wd_278⟩
theorem wd_279 : Cond.methodLink RX9 91 yX6_begunAt ∈ TT := List.mem_filter.mpr ⟨List.mem_of_getElem? (i := 625) (by decide +kernel), by decide +kernel⟩
theorem wd_280 : Cond.instanceMethod yX6_begunAt ∈ TT := List.mem_filter.mpr ⟨List.mem_of_getElem? (i := 626) (by decide +kernel), by decide +kernel⟩
theorem wd_281 : Cond.selects RX6 yX6_begunAt yX6_begunAt ∈ TT := List.mem_filter.mpr ⟨List.mem_of_getElem? (i := 627) (by decide +kernel), by decide +kernel⟩
theorem cl_X9_91 : CVok RX9 91 kX6_begunAt := ⟨wd_279, wd_280, wd_281⟩
theorem wd_282 : Cond.methodLink RX9 98 yX4_read ∈ TT := List.mem_filter.mpr ⟨List.mem_of_getElem? (i := 633) (by decide +kernel), by decide +kernel⟩
theorem wd_283 : Cond.instanceMethod yX4_read ∈ TT := List.mem_filter.mpr ⟨List.mem_of_getElem? (i := 431) (by decide +kernel), by decide +kernel⟩
theorem wd_284 : Cond.selects RX4 yX4_read yX4_read ∈ TT := List.mem_filter.mpr ⟨List.mem_of_getElem? (i := 432) (by decide +kernel), by decide +kernel⟩
theorem cl_X9_98 : CVok RX9 98 kX4_read := ⟨wd_282, wd_283, wd_284⟩
theorem wd_285 : Cond.methodLink RX9 103 yX4_lengthOf ∈ TT := List.mem_filter.mpr ⟨List.mem_of_getElem? (i := 638) (by decide +kernel), by decide +kernel⟩
theorem wd_286 : Cond.instanceMethod yX4_lengthOf ∈ TT := List.mem_filter.mpr ⟨List.mem_of_getElem? (i := 493) (by decide +kernel), by decide +kernel⟩
theorem wd_287 : Cond.selects RX4 yX4_lengthOf yX4_lengthOf ∈ TT := List.mem_filter.mpr ⟨List.mem_of_getElem? (i := 494) (by decide +kernel), by decide +kernel⟩
theorem cl_X9_103 : CVok RX9 103 kX4_lengthOf := ⟨wd_285, wd_286, wd_287⟩
theorem wd_288 : Cond.methodLink RX9 124 yX7_tellsTheSameAs ∈ TT := List.mem_filter.mpr ⟨List.mem_of_getElem? (i := 643) (by decide +kernel), by decide +kernel⟩
theorem wd_289 : Cond.instanceMethod yX7_tellsTheSameAs ∈ TT := List.mem_filter.mpr ⟨List.mem_of_getElem? (i := 644) (by decide +kernel), by decide +kernel⟩
theorem wd_290 : Cond.selects RX7 yX7_tellsTheSameAs yX7_tellsTheSameAs ∈ TT := List.mem_filter.mpr ⟨List.mem_of_getElem? (i := 645) (by decide +kernel), by decide +kernel⟩
theorem cl_X9_124 : CVok RX9 124 kX7_tellsTheSameAs := ⟨wd_288, wd_289, wd_290⟩
theorem wd_291 : Cond.methodLink RX9 128 yX5_statements ∈ TT := List.mem_filter.mpr ⟨List.mem_of_getElem? (i := 662) (by decide +kernel), by decide +kernel⟩
theorem wd_292 : Cond.instanceMethod yX5_statements ∈ TT := List.mem_filter.mpr ⟨List.mem_of_getElem? (i := 663) (by decide +kernel), by decide +kernel⟩
theorem wd_293 : Cond.selects RX5 yX5_statements yX5_statements ∈ TT := List.mem_filter.mpr ⟨List.mem_of_getElem? (i := 664) (by decide +kernel), by decide +kernel⟩
theorem cl_X9_128 : CVok RX9 128 kX5_statements := ⟨wd_291, wd_292, wd_293⟩
theorem wd_294 : Cond.methodLink RX9 131 yX5_bodies ∈ TT := List.mem_filter.mpr ⟨List.mem_of_getElem? (i := 666) (by decide +kernel), by decide +kernel⟩
theorem wd_295 : Cond.instanceMethod yX5_bodies ∈ TT := List.mem_filter.mpr ⟨List.mem_of_getElem? (i := 667) (by decide +kernel), by decide +kernel⟩
theorem wd_296 : Cond.selects RX5 yX5_bodies yX5_bodies ∈ TT := List.mem_filter.mpr ⟨List.mem_of_getElem? (i := 668) (by decide +kernel), by decide +kernel⟩
theorem cl_X9_131 : CVok RX9 131 kX5_bodies := ⟨wd_294, wd_295, wd_296⟩
theorem wd_297 : Cond.methodLink RX2 15 yJ7_fill_53178 ∈ TT := List.mem_filter.mpr ⟨List.mem_of_getElem? (i := 370) (by decide +kernel), by decide +kernel⟩
theorem wd_298 : Cond.static yJ7_fill_53178 ∈ TT := List.mem_filter.mpr ⟨List.mem_of_getElem? (i := 91) (by decide +kernel), by decide +kernel⟩
theorem cl_X2_15 : CSok RX2 15 kJ7_fill_53178 := ⟨Or.inl wd_297, wd_298⟩
theorem wd_299 : Cond.methodLinkNest RX2 25 yX9_isBelow "MarkedRuns" ∈ NN := List.mem_filter.mpr ⟨List.mem_of_getElem? (i := 459) (by decide +kernel), by decide +kernel⟩
theorem cl_X2_25 : CSok RX2 25 kX9_isBelow := ⟨Or.inr ⟨_, wd_299⟩, wd_258⟩
theorem wd_300 : Cond.methodLink RX2 29 yJ9_max_7cf53 ∈ TT := List.mem_filter.mpr ⟨List.mem_of_getElem? (i := 460) (by decide +kernel), by decide +kernel⟩
theorem wd_301 : Cond.static yJ9_max_7cf53 ∈ TT := List.mem_filter.mpr ⟨List.mem_of_getElem? (i := 300) (by decide +kernel), by decide +kernel⟩
theorem cl_X2_29 : CSok RX2 29 kJ9_max_7cf53 := ⟨Or.inl wd_300, wd_301⟩
theorem wd_302 : Cond.methodLink RX4 24 yJ7_fill_53178 ∈ TT := List.mem_filter.mpr ⟨List.mem_of_getElem? (i := 128) (by decide +kernel), by decide +kernel⟩
theorem cl_X4_24 : CSok RX4 24 kJ7_fill_53178 := ⟨Or.inl wd_302, wd_298⟩
theorem wd_303 : Cond.methodLinkNest RX4 37 yX9_isBelow "MarkedRuns" ∈ NN := List.mem_filter.mpr ⟨List.mem_of_getElem? (i := 360) (by decide +kernel), by decide +kernel⟩
theorem cl_X4_37 : CSok RX4 37 kX9_isBelow := ⟨Or.inr ⟨_, wd_303⟩, wd_258⟩
theorem wd_304 : Cond.methodLink RX4 41 yX4_rowEqualTo ∈ TT := List.mem_filter.mpr ⟨List.mem_of_getElem? (i := 652) (by decide +kernel), by decide +kernel⟩
theorem wd_305 : Cond.instanceMethod yX4_rowEqualTo ∈ TT := List.mem_filter.mpr ⟨List.mem_of_getElem? (i := 654) (by decide +kernel), by decide +kernel⟩
theorem wd_306 : Cond.selects RX4 yX4_rowEqualTo yX4_rowEqualTo ∈ TT := List.mem_filter.mpr ⟨List.mem_of_getElem? (i := 26) (by decide +kernel), by decide +kernel⟩
theorem cl_X4_41 : CVok RX4 41 kX4_rowEqualTo := ⟨wd_304, wd_305, wd_306⟩
theorem wd_307 : Cond.methodLink RX4 45 yX4_lengthOf ∈ TT := List.mem_filter.mpr ⟨List.mem_of_getElem? (i := 656) (by decide +kernel), by decide +kernel⟩
theorem cl_X4_45 : CVok RX4 45 kX4_lengthOf := ⟨wd_307, wd_286, wd_287⟩
theorem wd_308 : Cond.methodLink RX4 49 yX4_load ∈ TT := List.mem_filter.mpr ⟨List.mem_of_getElem? (i := 657) (by decide +kernel), by decide +kernel⟩
theorem wd_309 : Cond.instanceMethod yX4_load ∈ TT := List.mem_filter.mpr ⟨List.mem_of_getElem? (i := 498) (by decide +kernel), by decide +kernel⟩
theorem wd_310 : Cond.selects RX4 yX4_load yX4_load ∈ TT := List.mem_filter.mpr ⟨List.mem_of_getElem? (i := 499) (by decide +kernel), by decide +kernel⟩
theorem cl_X4_49 : CVok RX4 49 kX4_load := ⟨wd_308, wd_309, wd_310⟩
theorem wd_311 : Cond.methodLinkNest RX5 40 yX9_isBelow "MarkedRuns" ∈ NN := List.mem_filter.mpr ⟨List.mem_of_getElem? (i := 281) (by decide +kernel), by decide +kernel⟩
theorem cl_X5_40 : CSok RX5 40 kX9_isBelow := ⟨Or.inr ⟨_, wd_311⟩, wd_258⟩
theorem wd_312 : Cond.methodLink RX5 44 yX5_has ∈ TT := List.mem_filter.mpr ⟨List.mem_of_getElem? (i := 287) (by decide +kernel), by decide +kernel⟩
theorem cl_X5_44 : CVok RX5 44 kX5_has := ⟨wd_312, wd_255, wd_256⟩
theorem wd_313 : Cond.methodLink RX5 48 yX5_operandsFit ∈ TT := List.mem_filter.mpr ⟨List.mem_of_getElem? (i := 274) (by decide +kernel), by decide +kernel⟩
theorem wd_314 : Cond.instanceMethod yX5_operandsFit ∈ TT := List.mem_filter.mpr ⟨List.mem_of_getElem? (i := 276) (by decide +kernel), by decide +kernel⟩
theorem wd_315 : Cond.selects RX5 yX5_operandsFit yX5_operandsFit ∈ TT := List.mem_filter.mpr ⟨List.mem_of_getElem? (i := 0) (by decide +kernel), by decide +kernel⟩
theorem cl_X5_48 : CVok RX5 48 kX5_operandsFit := ⟨wd_313, wd_314, wd_315⟩
theorem wd_316 : Cond.methodLink RX5 52 yX5_heightWith ∈ TT := List.mem_filter.mpr ⟨List.mem_of_getElem? (i := 291) (by decide +kernel), by decide +kernel⟩
theorem wd_317 : Cond.instanceMethod yX5_heightWith ∈ TT := List.mem_filter.mpr ⟨List.mem_of_getElem? (i := 293) (by decide +kernel), by decide +kernel⟩
theorem wd_318 : Cond.selects RX5 yX5_heightWith yX5_heightWith ∈ TT := List.mem_filter.mpr ⟨List.mem_of_getElem? (i := 1) (by decide +kernel), by decide +kernel⟩
theorem cl_X5_52 : CVok RX5 52 kX5_heightWith := ⟨wd_316, wd_317, wd_318⟩
theorem wd_319 : Cond.methodLink RX5 56 yX5_isFull ∈ TT := List.mem_filter.mpr ⟨List.mem_of_getElem? (i := 310) (by decide +kernel), by decide +kernel⟩
theorem cl_X5_56 : CVok RX5 56 kX5_isFull := ⟨wd_319, wd_243, wd_244⟩
theorem wd_320 : Cond.methodLink RX5 60 yJ9_max_7cf53 ∈ TT := List.mem_filter.mpr ⟨List.mem_of_getElem? (i := 299) (by decide +kernel), by decide +kernel⟩
theorem cl_X5_60 : CSok RX5 60 kJ9_max_7cf53 := ⟨Or.inl wd_320, wd_301⟩
theorem wd_321 : Cond.methodLink RX5 66 yX5_isVariable ∈ TT := List.mem_filter.mpr ⟨List.mem_of_getElem? (i := 278) (by decide +kernel), by decide +kernel⟩
theorem wd_322 : Cond.static yX5_isVariable ∈ TT := List.mem_filter.mpr ⟨List.mem_of_getElem? (i := 279) (by decide +kernel), by decide +kernel⟩
theorem cl_X5_66 : CSok RX5 66 kX5_isVariable := ⟨Or.inl wd_321, wd_322⟩
theorem wd_323 : Cond.methodLink RX5 69 yX5_isRow ∈ TT := List.mem_filter.mpr ⟨List.mem_of_getElem? (i := 284) (by decide +kernel), by decide +kernel⟩
theorem wd_324 : Cond.static yX5_isRow ∈ TT := List.mem_filter.mpr ⟨List.mem_of_getElem? (i := 285) (by decide +kernel), by decide +kernel⟩
theorem cl_X5_69 : CSok RX5 69 kX5_isRow := ⟨Or.inl wd_323, wd_324⟩
theorem wd_325 : Cond.methodLink RX5 74 yX5_heightOf ∈ TT := List.mem_filter.mpr ⟨List.mem_of_getElem? (i := 295) (by decide +kernel), by decide +kernel⟩
theorem wd_326 : Cond.instanceMethod yX5_heightOf ∈ TT := List.mem_filter.mpr ⟨List.mem_of_getElem? (i := 297) (by decide +kernel), by decide +kernel⟩
theorem wd_327 : Cond.selects RX5 yX5_heightOf yX5_heightOf ∈ TT := List.mem_filter.mpr ⟨List.mem_of_getElem? (i := 2) (by decide +kernel), by decide +kernel⟩
theorem cl_X5_74 : CVok RX5 74 kX5_heightOf := ⟨wd_325, wd_326, wd_327⟩
theorem wd_328 : Cond.methodLink RX6 20 yJ7_fill_53178 ∈ TT := List.mem_filter.mpr ⟨List.mem_of_getElem? (i := 365) (by decide +kernel), by decide +kernel⟩
theorem cl_X6_20 : CSok RX6 20 kJ7_fill_53178 := ⟨Or.inl wd_328, wd_298⟩
theorem wd_329 : Cond.methodLinkNest RX6 46 yX9_isBelow "MarkedRuns" ∈ NN := List.mem_filter.mpr ⟨List.mem_of_getElem? (i := 379) (by decide +kernel), by decide +kernel⟩
theorem cl_X6_46 : CSok RX6 46 kX9_isBelow := ⟨Or.inr ⟨_, wd_329⟩, wd_258⟩
theorem wd_330 : Cond.methodLink RX7 47 yX7_clear ∈ TT := List.mem_filter.mpr ⟨List.mem_of_getElem? (i := 348) (by decide +kernel), by decide +kernel⟩
theorem wd_331 : Cond.instanceMethod yX7_clear ∈ TT := List.mem_filter.mpr ⟨List.mem_of_getElem? (i := 350) (by decide +kernel), by decide +kernel⟩
theorem wd_332 : Cond.selects RX7 yX7_clear yX7_clear ∈ TT := List.mem_filter.mpr ⟨List.mem_of_getElem? (i := 3) (by decide +kernel), by decide +kernel⟩
theorem cl_X7_47 : CVok RX7 47 kX7_clear := ⟨wd_330, wd_331, wd_332⟩
theorem wd_333 : Cond.methodLink RX7 53 yX6_pays ∈ TT := List.mem_filter.mpr ⟨List.mem_of_getElem? (i := 375) (by decide +kernel), by decide +kernel⟩
theorem wd_334 : Cond.instanceMethod yX6_pays ∈ TT := List.mem_filter.mpr ⟨List.mem_of_getElem? (i := 376) (by decide +kernel), by decide +kernel⟩
theorem wd_335 : Cond.selects RX6 yX6_pays yX6_pays ∈ TT := List.mem_filter.mpr ⟨List.mem_of_getElem? (i := 377) (by decide +kernel), by decide +kernel⟩
theorem cl_X7_53 : CVok RX7 53 kX6_pays := ⟨wd_333, wd_334, wd_335⟩
theorem wd_336 : Cond.methodLink RX7 57 yX7_enter ∈ TT := List.mem_filter.mpr ⟨List.mem_of_getElem? (i := 380) (by decide +kernel), by decide +kernel⟩
theorem wd_337 : Cond.instanceMethod yX7_enter ∈ TT := List.mem_filter.mpr ⟨List.mem_of_getElem? (i := 382) (by decide +kernel), by decide +kernel⟩
theorem wd_338 : Cond.selects RX7 yX7_enter yX7_enter ∈ TT := List.mem_filter.mpr ⟨List.mem_of_getElem? (i := 4) (by decide +kernel), by decide +kernel⟩
theorem cl_X7_57 : CVok RX7 57 kX7_enter := ⟨wd_336, wd_337, wd_338⟩
theorem wd_339 : Cond.methodLink RX7 65 yX0_isEmpty ∈ TT := List.mem_filter.mpr ⟨List.mem_of_getElem? (i := 390) (by decide +kernel), by decide +kernel⟩
theorem wd_340 : Cond.instanceMethod yX0_isEmpty ∈ TT := List.mem_filter.mpr ⟨List.mem_of_getElem? (i := 391) (by decide +kernel), by decide +kernel⟩
theorem wd_341 : Cond.selects RX0 yX0_isEmpty yX0_isEmpty ∈ TT := List.mem_filter.mpr ⟨List.mem_of_getElem? (i := 392) (by decide +kernel), by decide +kernel⟩
theorem cl_X7_65 : CVok RX7 65 kX0_isEmpty := ⟨wd_339, wd_340, wd_341⟩
theorem wd_342 : Cond.methodLink RX7 69 yX0_statement ∈ TT := List.mem_filter.mpr ⟨List.mem_of_getElem? (i := 394) (by decide +kernel), by decide +kernel⟩
theorem wd_343 : Cond.instanceMethod yX0_statement ∈ TT := List.mem_filter.mpr ⟨List.mem_of_getElem? (i := 395) (by decide +kernel), by decide +kernel⟩
theorem wd_344 : Cond.selects RX0 yX0_statement yX0_statement ∈ TT := List.mem_filter.mpr ⟨List.mem_of_getElem? (i := 396) (by decide +kernel), by decide +kernel⟩
theorem cl_X7_69 : CVok RX7 69 kX0_statement := ⟨wd_342, wd_343, wd_344⟩
theorem wd_345 : Cond.methodLink RX7 73 yX0_stage ∈ TT := List.mem_filter.mpr ⟨List.mem_of_getElem? (i := 398) (by decide +kernel), by decide +kernel⟩
theorem wd_346 : Cond.instanceMethod yX0_stage ∈ TT := List.mem_filter.mpr ⟨List.mem_of_getElem? (i := 399) (by decide +kernel), by decide +kernel⟩
theorem wd_347 : Cond.selects RX0 yX0_stage yX0_stage ∈ TT := List.mem_filter.mpr ⟨List.mem_of_getElem? (i := 400) (by decide +kernel), by decide +kernel⟩
theorem cl_X7_73 : CVok RX7 73 kX0_stage := ⟨wd_345, wd_346, wd_347⟩
theorem wd_348 : Cond.methodLink RX7 76 yX7_begin ∈ TT := List.mem_filter.mpr ⟨List.mem_of_getElem? (i := 402) (by decide +kernel), by decide +kernel⟩
theorem wd_349 : Cond.instanceMethod yX7_begin ∈ TT := List.mem_filter.mpr ⟨List.mem_of_getElem? (i := 404) (by decide +kernel), by decide +kernel⟩
theorem wd_350 : Cond.selects RX7 yX7_begin yX7_begin ∈ TT := List.mem_filter.mpr ⟨List.mem_of_getElem? (i := 5) (by decide +kernel), by decide +kernel⟩
theorem cl_X7_76 : CVok RX7 76 kX7_begin := ⟨wd_348, wd_349, wd_350⟩
theorem wd_351 : Cond.methodLink RX7 79 yX7_goOn ∈ TT := List.mem_filter.mpr ⟨List.mem_of_getElem? (i := 525) (by decide +kernel), by decide +kernel⟩
theorem wd_352 : Cond.instanceMethod yX7_goOn ∈ TT := List.mem_filter.mpr ⟨List.mem_of_getElem? (i := 527) (by decide +kernel), by decide +kernel⟩
theorem wd_353 : Cond.selects RX7 yX7_goOn yX7_goOn ∈ TT := List.mem_filter.mpr ⟨List.mem_of_getElem? (i := 18) (by decide +kernel), by decide +kernel⟩
theorem cl_X7_79 : CVok RX7 79 kX7_goOn := ⟨wd_351, wd_352, wd_353⟩
theorem wd_354 : Cond.methodLink RX7 88 yX4_result ∈ TT := List.mem_filter.mpr ⟨List.mem_of_getElem? (i := 521) (by decide +kernel), by decide +kernel⟩
theorem wd_355 : Cond.instanceMethod yX4_result ∈ TT := List.mem_filter.mpr ⟨List.mem_of_getElem? (i := 522) (by decide +kernel), by decide +kernel⟩
theorem wd_356 : Cond.selects RX4 yX4_result yX4_result ∈ TT := List.mem_filter.mpr ⟨List.mem_of_getElem? (i := 523) (by decide +kernel), by decide +kernel⟩
theorem cl_X7_88 : CVok RX7 88 kX4_result := ⟨wd_354, wd_355, wd_356⟩
theorem wd_357 : Cond.methodLink RX7 91 yX6_spentOfBudget ∈ TT := List.mem_filter.mpr ⟨List.mem_of_getElem? (i := 597) (by decide +kernel), by decide +kernel⟩
theorem wd_358 : Cond.instanceMethod yX6_spentOfBudget ∈ TT := List.mem_filter.mpr ⟨List.mem_of_getElem? (i := 598) (by decide +kernel), by decide +kernel⟩
theorem wd_359 : Cond.selects RX6 yX6_spentOfBudget yX6_spentOfBudget ∈ TT := List.mem_filter.mpr ⟨List.mem_of_getElem? (i := 599) (by decide +kernel), by decide +kernel⟩
theorem cl_X7_91 : CVok RX7 91 kX6_spentOfBudget := ⟨wd_357, wd_358, wd_359⟩
theorem wd_360 : Cond.methodLink RX7 94 yX6_spentOfReserve ∈ TT := List.mem_filter.mpr ⟨List.mem_of_getElem? (i := 601) (by decide +kernel), by decide +kernel⟩
theorem wd_361 : Cond.instanceMethod yX6_spentOfReserve ∈ TT := List.mem_filter.mpr ⟨List.mem_of_getElem? (i := 602) (by decide +kernel), by decide +kernel⟩
theorem wd_362 : Cond.selects RX6 yX6_spentOfReserve yX6_spentOfReserve ∈ TT := List.mem_filter.mpr ⟨List.mem_of_getElem? (i := 603) (by decide +kernel), by decide +kernel⟩
theorem cl_X7_94 : CVok RX7 94 kX6_spentOfReserve := ⟨wd_360, wd_361, wd_362⟩
theorem wd_363 : Cond.methodLink RX7 100 yX2_most ∈ TT := List.mem_filter.mpr ⟨List.mem_of_getElem? (i := 605) (by decide +kernel), by decide +kernel⟩
theorem wd_364 : Cond.instanceMethod yX2_most ∈ TT := List.mem_filter.mpr ⟨List.mem_of_getElem? (i := 606) (by decide +kernel), by decide +kernel⟩
theorem wd_365 : Cond.selects RX2 yX2_most yX2_most ∈ TT := List.mem_filter.mpr ⟨List.mem_of_getElem? (i := 607) (by decide +kernel), by decide +kernel⟩
theorem cl_X7_100 : CVok RX7 100 kX2_most := ⟨wd_363, wd_364, wd_365⟩
theorem wd_366 : Cond.methodLink RX7 103 yX2_sum ∈ TT := List.mem_filter.mpr ⟨List.mem_of_getElem? (i := 609) (by decide +kernel), by decide +kernel⟩
theorem wd_367 : Cond.instanceMethod yX2_sum ∈ TT := List.mem_filter.mpr ⟨List.mem_of_getElem? (i := 610) (by decide +kernel), by decide +kernel⟩
theorem wd_368 : Cond.selects RX2 yX2_sum yX2_sum ∈ TT := List.mem_filter.mpr ⟨List.mem_of_getElem? (i := 611) (by decide +kernel), by decide +kernel⟩
theorem cl_X7_103 : CVok RX7 103 kX2_sum := ⟨wd_366, wd_367, wd_368⟩
theorem wd_369 : Cond.methodLink RX7 106 yX7_tell ∈ TT := List.mem_filter.mpr ⟨List.mem_of_getElem? (i := 647) (by decide +kernel), by decide +kernel⟩
theorem cl_X7_106 : CVok RX7 106 kX7_tell := ⟨wd_369, wd_274, wd_275⟩
theorem wd_370 : Cond.methodLink RX7 110 yX4_equalTo ∈ TT := List.mem_filter.mpr ⟨List.mem_of_getElem? (i := 648) (by decide +kernel), by decide +kernel⟩
theorem wd_371 : Cond.instanceMethod yX4_equalTo ∈ TT := List.mem_filter.mpr ⟨List.mem_of_getElem? (i := 649) (by decide +kernel), by decide +kernel⟩
theorem wd_372 : Cond.selects RX4 yX4_equalTo yX4_equalTo ∈ TT := List.mem_filter.mpr ⟨List.mem_of_getElem? (i := 650) (by decide +kernel), by decide +kernel⟩
theorem cl_X7_110 : CVok RX7 110 kX4_equalTo := ⟨wd_370, wd_371, wd_372⟩
theorem wd_373 : Cond.methodLink RX7 114 yX4_clear ∈ TT := List.mem_filter.mpr ⟨List.mem_of_getElem? (i := 352) (by decide +kernel), by decide +kernel⟩
theorem wd_374 : Cond.instanceMethod yX4_clear ∈ TT := List.mem_filter.mpr ⟨List.mem_of_getElem? (i := 353) (by decide +kernel), by decide +kernel⟩
theorem wd_375 : Cond.selects RX4 yX4_clear yX4_clear ∈ TT := List.mem_filter.mpr ⟨List.mem_of_getElem? (i := 354) (by decide +kernel), by decide +kernel⟩
theorem cl_X7_114 : CVok RX7 114 kX4_clear := ⟨wd_373, wd_374, wd_375⟩
theorem wd_376 : Cond.methodLink RX7 116 yX4_write ∈ TT := List.mem_filter.mpr ⟨List.mem_of_getElem? (i := 356) (by decide +kernel), by decide +kernel⟩
theorem wd_377 : Cond.instanceMethod yX4_write ∈ TT := List.mem_filter.mpr ⟨List.mem_of_getElem? (i := 357) (by decide +kernel), by decide +kernel⟩
theorem wd_378 : Cond.selects RX4 yX4_write yX4_write ∈ TT := List.mem_filter.mpr ⟨List.mem_of_getElem? (i := 358) (by decide +kernel), by decide +kernel⟩
theorem cl_X7_116 : CVok RX7 116 kX4_write := ⟨wd_376, wd_377, wd_378⟩
theorem wd_379 : Cond.methodLink RX7 119 yX6_fill ∈ TT := List.mem_filter.mpr ⟨List.mem_of_getElem? (i := 361) (by decide +kernel), by decide +kernel⟩
theorem wd_380 : Cond.instanceMethod yX6_fill ∈ TT := List.mem_filter.mpr ⟨List.mem_of_getElem? (i := 362) (by decide +kernel), by decide +kernel⟩
theorem wd_381 : Cond.selects RX6 yX6_fill yX6_fill ∈ TT := List.mem_filter.mpr ⟨List.mem_of_getElem? (i := 363) (by decide +kernel), by decide +kernel⟩
theorem cl_X7_119 : CVok RX7 119 kX6_fill := ⟨wd_379, wd_380, wd_381⟩
theorem wd_382 : Cond.methodLink RX7 122 yX2_clear ∈ TT := List.mem_filter.mpr ⟨List.mem_of_getElem? (i := 366) (by decide +kernel), by decide +kernel⟩
theorem wd_383 : Cond.instanceMethod yX2_clear ∈ TT := List.mem_filter.mpr ⟨List.mem_of_getElem? (i := 367) (by decide +kernel), by decide +kernel⟩
theorem wd_384 : Cond.selects RX2 yX2_clear yX2_clear ∈ TT := List.mem_filter.mpr ⟨List.mem_of_getElem? (i := 368) (by decide +kernel), by decide +kernel⟩
theorem cl_X7_122 : CVok RX7 122 kX2_clear := ⟨wd_382, wd_383, wd_384⟩
theorem wd_385 : Cond.methodLink RX7 123 yX0_clear ∈ TT := List.mem_filter.mpr ⟨List.mem_of_getElem? (i := 371) (by decide +kernel), by decide +kernel⟩
theorem wd_386 : Cond.instanceMethod yX0_clear ∈ TT := List.mem_filter.mpr ⟨List.mem_of_getElem? (i := 372) (by decide +kernel), by decide +kernel⟩
theorem wd_387 : Cond.selects RX0 yX0_clear yX0_clear ∈ TT := List.mem_filter.mpr ⟨List.mem_of_getElem? (i := 373) (by decide +kernel), by decide +kernel⟩
theorem cl_X7_123 : CVok RX7 123 kX0_clear := ⟨wd_385, wd_386, wd_387⟩
theorem wd_388 : Cond.methodLink RX7 127 yX5_firstOf ∈ TT := List.mem_filter.mpr ⟨List.mem_of_getElem? (i := 406) (by decide +kernel), by decide +kernel⟩
theorem wd_389 : Cond.instanceMethod yX5_firstOf ∈ TT := List.mem_filter.mpr ⟨List.mem_of_getElem? (i := 407) (by decide +kernel), by decide +kernel⟩
theorem wd_390 : Cond.selects RX5 yX5_firstOf yX5_firstOf ∈ TT := List.mem_filter.mpr ⟨List.mem_of_getElem? (i := 408) (by decide +kernel), by decide +kernel⟩
theorem cl_X7_127 : CVok RX7 127 kX5_firstOf := ⟨wd_388, wd_389, wd_390⟩
theorem wd_391 : Cond.methodLink RX7 132 yX5_secondOf ∈ TT := List.mem_filter.mpr ⟨List.mem_of_getElem? (i := 410) (by decide +kernel), by decide +kernel⟩
theorem wd_392 : Cond.instanceMethod yX5_secondOf ∈ TT := List.mem_filter.mpr ⟨List.mem_of_getElem? (i := 411) (by decide +kernel), by decide +kernel⟩
theorem wd_393 : Cond.selects RX5 yX5_secondOf yX5_secondOf ∈ TT := List.mem_filter.mpr ⟨List.mem_of_getElem? (i := 412) (by decide +kernel), by decide +kernel⟩
theorem cl_X7_132 : CVok RX7 132 kX5_secondOf := ⟨wd_391, wd_392, wd_393⟩
theorem wd_394 : Cond.methodLink RX7 135 yX5_thirdOf ∈ TT := List.mem_filter.mpr ⟨List.mem_of_getElem? (i := 414) (by decide +kernel), by decide +kernel⟩
theorem wd_395 : Cond.instanceMethod yX5_thirdOf ∈ TT := List.mem_filter.mpr ⟨List.mem_of_getElem? (i := 415) (by decide +kernel), by decide +kernel⟩
theorem wd_396 : Cond.selects RX5 yX5_thirdOf yX5_thirdOf ∈ TT := List.mem_filter.mpr ⟨List.mem_of_getElem? (i := 416) (by decide +kernel), by decide +kernel⟩
theorem cl_X7_135 : CVok RX7 135 kX5_thirdOf := ⟨wd_394, wd_395, wd_396⟩
theorem wd_397 : Cond.methodLink RX7 138 yX5_sortOf ∈ TT := List.mem_filter.mpr ⟨List.mem_of_getElem? (i := 418) (by decide +kernel), by decide +kernel⟩
theorem wd_398 : Cond.instanceMethod yX5_sortOf ∈ TT := List.mem_filter.mpr ⟨List.mem_of_getElem? (i := 419) (by decide +kernel), by decide +kernel⟩
theorem wd_399 : Cond.selects RX5 yX5_sortOf yX5_sortOf ∈ TT := List.mem_filter.mpr ⟨List.mem_of_getElem? (i := 420) (by decide +kernel), by decide +kernel⟩
theorem cl_X7_138 : CVok RX7 138 kX5_sortOf := ⟨wd_397, wd_398, wd_399⟩
theorem wd_400 : Cond.methodLink RX7 141 yX7_doPart ∈ TT := List.mem_filter.mpr ⟨List.mem_of_getElem? (i := 422) (by decide +kernel), by decide +kernel⟩
theorem wd_401 : Cond.instanceMethod yX7_doPart ∈ TT := List.mem_filter.mpr ⟨List.mem_of_getElem? (i := 424) (by decide +kernel), by decide +kernel⟩
theorem wd_402 : Cond.selects RX7 yX7_doPart yX7_doPart ∈ TT := List.mem_filter.mpr ⟨List.mem_of_getElem? (i := 6) (by decide +kernel), by decide +kernel⟩
theorem cl_X7_141 : CVok RX7 141 kX7_doPart := ⟨wd_400, wd_401, wd_402⟩
theorem wd_403 : Cond.methodLink RX7 144 yX4_read ∈ TT := List.mem_filter.mpr ⟨List.mem_of_getElem? (i := 430) (by decide +kernel), by decide +kernel⟩
theorem cl_X7_144 : CVok RX7 144 kX4_read := ⟨wd_403, wd_283, wd_284⟩
theorem wd_404 : Cond.methodLink RX7 147 yX7_loopOrEnd ∈ TT := List.mem_filter.mpr ⟨List.mem_of_getElem? (i := 434) (by decide +kernel), by decide +kernel⟩
theorem wd_405 : Cond.instanceMethod yX7_loopOrEnd ∈ TT := List.mem_filter.mpr ⟨List.mem_of_getElem? (i := 436) (by decide +kernel), by decide +kernel⟩
theorem wd_406 : Cond.selects RX7 yX7_loopOrEnd yX7_loopOrEnd ∈ TT := List.mem_filter.mpr ⟨List.mem_of_getElem? (i := 7) (by decide +kernel), by decide +kernel⟩
theorem cl_X7_147 : CVok RX7 147 kX7_loopOrEnd := ⟨wd_404, wd_405, wd_406⟩
theorem wd_407 : Cond.methodLink RX7 150 yX7_call ∈ TT := List.mem_filter.mpr ⟨List.mem_of_getElem? (i := 442) (by decide +kernel), by decide +kernel⟩
theorem wd_408 : Cond.instanceMethod yX7_call ∈ TT := List.mem_filter.mpr ⟨List.mem_of_getElem? (i := 444) (by decide +kernel), by decide +kernel⟩
theorem wd_409 : Cond.selects RX7 yX7_call yX7_call ∈ TT := List.mem_filter.mpr ⟨List.mem_of_getElem? (i := 8) (by decide +kernel), by decide +kernel⟩
theorem cl_X7_150 : CVok RX7 150 kX7_call := ⟨wd_407, wd_408, wd_409⟩
theorem wd_410 : Cond.methodLink RX7 153 yX2_take ∈ TT := List.mem_filter.mpr ⟨List.mem_of_getElem? (i := 455) (by decide +kernel), by decide +kernel⟩
theorem wd_411 : Cond.instanceMethod yX2_take ∈ TT := List.mem_filter.mpr ⟨List.mem_of_getElem? (i := 456) (by decide +kernel), by decide +kernel⟩
theorem wd_412 : Cond.selects RX2 yX2_take yX2_take ∈ TT := List.mem_filter.mpr ⟨List.mem_of_getElem? (i := 457) (by decide +kernel), by decide +kernel⟩
theorem cl_X7_153 : CVok RX7 153 kX2_take := ⟨wd_410, wd_411, wd_412⟩
theorem wd_413 : Cond.methodLink RX7 156 yX7_doAtOnce ∈ TT := List.mem_filter.mpr ⟨List.mem_of_getElem? (i := 461) (by decide +kernel), by decide +kernel⟩
theorem wd_414 : Cond.instanceMethod yX7_doAtOnce ∈ TT := List.mem_filter.mpr ⟨List.mem_of_getElem? (i := 463) (by decide +kernel), by decide +kernel⟩
theorem wd_415 : Cond.selects RX7 yX7_doAtOnce yX7_doAtOnce ∈ TT := List.mem_filter.mpr ⟨List.mem_of_getElem? (i := 11) (by decide +kernel), by decide +kernel⟩
theorem cl_X7_156 : CVok RX7 156 kX7_doAtOnce := ⟨wd_413, wd_414, wd_415⟩
theorem wd_416 : Cond.methodLink RX7 160 yX7_goOnWithBoth ∈ TT := List.mem_filter.mpr ⟨List.mem_of_getElem? (i := 529) (by decide +kernel), by decide +kernel⟩
theorem wd_417 : Cond.instanceMethod yX7_goOnWithBoth ∈ TT := List.mem_filter.mpr ⟨List.mem_of_getElem? (i := 531) (by decide +kernel), by decide +kernel⟩
theorem wd_418 : Cond.selects RX7 yX7_goOnWithBoth yX7_goOnWithBoth ∈ TT := List.mem_filter.mpr ⟨List.mem_of_getElem? (i := 19) (by decide +kernel), by decide +kernel⟩
theorem cl_X7_160 : CVok RX7 160 kX7_goOnWithBoth := ⟨wd_416, wd_417, wd_418⟩
theorem wd_419 : Cond.methodLink RX7 163 yX7_goOnWithLoop ∈ TT := List.mem_filter.mpr ⟨List.mem_of_getElem? (i := 533) (by decide +kernel), by decide +kernel⟩
theorem wd_420 : Cond.instanceMethod yX7_goOnWithLoop ∈ TT := List.mem_filter.mpr ⟨List.mem_of_getElem? (i := 535) (by decide +kernel), by decide +kernel⟩
theorem wd_421 : Cond.selects RX7 yX7_goOnWithLoop yX7_goOnWithLoop ∈ TT := List.mem_filter.mpr ⟨List.mem_of_getElem? (i := 20) (by decide +kernel), by decide +kernel⟩
theorem cl_X7_163 : CVok RX7 163 kX7_goOnWithLoop := ⟨wd_419, wd_420, wd_421⟩
theorem wd_422 : Cond.methodLink RX7 166 yX7_end ∈ TT := List.mem_filter.mpr ⟨List.mem_of_getElem? (i := 451) (by decide +kernel), by decide +kernel⟩
theorem wd_423 : Cond.instanceMethod yX7_end ∈ TT := List.mem_filter.mpr ⟨List.mem_of_getElem? (i := 453) (by decide +kernel), by decide +kernel⟩
theorem wd_424 : Cond.selects RX7 yX7_end yX7_end ∈ TT := List.mem_filter.mpr ⟨List.mem_of_getElem? (i := 10) (by decide +kernel), by decide +kernel⟩
theorem cl_X7_166 : CVok RX7 166 kX7_end := ⟨wd_422, wd_423, wd_424⟩
theorem wd_425 : Cond.methodLink RX7 169 yX7_goOnWithTry ∈ TT := List.mem_filter.mpr ⟨List.mem_of_getElem? (i := 537) (by decide +kernel), by decide +kernel⟩
theorem wd_426 : Cond.instanceMethod yX7_goOnWithTry ∈ TT := List.mem_filter.mpr ⟨List.mem_of_getElem? (i := 539) (by decide +kernel), by decide +kernel⟩
theorem wd_427 : Cond.selects RX7 yX7_goOnWithTry yX7_goOnWithTry ∈ TT := List.mem_filter.mpr ⟨List.mem_of_getElem? (i := 21) (by decide +kernel), by decide +kernel⟩
theorem cl_X7_169 : CVok RX7 169 kX7_goOnWithTry := ⟨wd_425, wd_426, wd_427⟩
theorem wd_428 : Cond.methodLink RX7 172 yX7_beginLastPart ∈ TT := List.mem_filter.mpr ⟨List.mem_of_getElem? (i := 545) (by decide +kernel), by decide +kernel⟩
theorem wd_429 : Cond.instanceMethod yX7_beginLastPart ∈ TT := List.mem_filter.mpr ⟨List.mem_of_getElem? (i := 547) (by decide +kernel), by decide +kernel⟩
theorem wd_430 : Cond.selects RX7 yX7_beginLastPart yX7_beginLastPart ∈ TT := List.mem_filter.mpr ⟨List.mem_of_getElem? (i := 22) (by decide +kernel), by decide +kernel⟩
theorem cl_X7_172 : CVok RX7 172 kX7_beginLastPart := ⟨wd_428, wd_429, wd_430⟩
theorem wd_431 : Cond.methodLink RX7 175 yX7_endLastPart ∈ TT := List.mem_filter.mpr ⟨List.mem_of_getElem? (i := 565) (by decide +kernel), by decide +kernel⟩
theorem wd_432 : Cond.instanceMethod yX7_endLastPart ∈ TT := List.mem_filter.mpr ⟨List.mem_of_getElem? (i := 567) (by decide +kernel), by decide +kernel⟩
theorem wd_433 : Cond.selects RX7 yX7_endLastPart yX7_endLastPart ∈ TT := List.mem_filter.mpr ⟨List.mem_of_getElem? (i := 24) (by decide +kernel), by decide +kernel⟩
theorem cl_X7_175 : CVok RX7 175 kX7_endLastPart := ⟨wd_431, wd_432, wd_433⟩
theorem wd_434 : Cond.methodLink RX7 178 yX2_free ∈ TT := List.mem_filter.mpr ⟨List.mem_of_getElem? (i := 581) (by decide +kernel), by decide +kernel⟩
theorem wd_435 : Cond.instanceMethod yX2_free ∈ TT := List.mem_filter.mpr ⟨List.mem_of_getElem? (i := 582) (by decide +kernel), by decide +kernel⟩
theorem wd_436 : Cond.selects RX2 yX2_free yX2_free ∈ TT := List.mem_filter.mpr ⟨List.mem_of_getElem? (i := 583) (by decide +kernel), by decide +kernel⟩
theorem cl_X7_178 : CVok RX7 178 kX2_free := ⟨wd_434, wd_435, wd_436⟩
theorem wd_437 : Cond.methodLink RX7 181 yX0_close ∈ TT := List.mem_filter.mpr ⟨List.mem_of_getElem? (i := 438) (by decide +kernel), by decide +kernel⟩
theorem wd_438 : Cond.instanceMethod yX0_close ∈ TT := List.mem_filter.mpr ⟨List.mem_of_getElem? (i := 439) (by decide +kernel), by decide +kernel⟩
theorem wd_439 : Cond.selects RX0 yX0_close yX0_close ∈ TT := List.mem_filter.mpr ⟨List.mem_of_getElem? (i := 440) (by decide +kernel), by decide +kernel⟩
theorem cl_X7_181 : CVok RX7 181 kX0_close := ⟨wd_437, wd_438, wd_439⟩
theorem wd_440 : Cond.methodLink RX7 184 yX6_noteBegun ∈ TT := List.mem_filter.mpr ⟨List.mem_of_getElem? (i := 541) (by decide +kernel), by decide +kernel⟩
theorem wd_441 : Cond.instanceMethod yX6_noteBegun ∈ TT := List.mem_filter.mpr ⟨List.mem_of_getElem? (i := 542) (by decide +kernel), by decide +kernel⟩
theorem wd_442 : Cond.selects RX6 yX6_noteBegun yX6_noteBegun ∈ TT := List.mem_filter.mpr ⟨List.mem_of_getElem? (i := 543) (by decide +kernel), by decide +kernel⟩
theorem cl_X7_184 : CVok RX7 184 kX6_noteBegun := ⟨wd_440, wd_441, wd_442⟩
theorem wd_443 : Cond.methodLink RX7 189 yX7_payForLastPart ∈ TT := List.mem_filter.mpr ⟨List.mem_of_getElem? (i := 549) (by decide +kernel), by decide +kernel⟩
theorem wd_444 : Cond.instanceMethod yX7_payForLastPart ∈ TT := List.mem_filter.mpr ⟨List.mem_of_getElem? (i := 551) (by decide +kernel), by decide +kernel⟩
theorem wd_445 : Cond.selects RX7 yX7_payForLastPart yX7_payForLastPart ∈ TT := List.mem_filter.mpr ⟨List.mem_of_getElem? (i := 23) (by decide +kernel), by decide +kernel⟩
theorem cl_X7_189 : CVok RX7 189 kX7_payForLastPart := ⟨wd_443, wd_444, wd_445⟩
theorem wd_446 : Cond.methodLink RX7 192 yX0_keep ∈ TT := List.mem_filter.mpr ⟨List.mem_of_getElem? (i := 561) (by decide +kernel), by decide +kernel⟩
theorem wd_447 : Cond.instanceMethod yX0_keep ∈ TT := List.mem_filter.mpr ⟨List.mem_of_getElem? (i := 562) (by decide +kernel), by decide +kernel⟩
theorem wd_448 : Cond.selects RX0 yX0_keep yX0_keep ∈ TT := List.mem_filter.mpr ⟨List.mem_of_getElem? (i := 563) (by decide +kernel), by decide +kernel⟩
theorem cl_X7_192 : CVok RX7 192 kX0_keep := ⟨wd_446, wd_447, wd_448⟩
theorem wd_449 : Cond.methodLink RX7 196 yX6_isByReserve ∈ TT := List.mem_filter.mpr ⟨List.mem_of_getElem? (i := 553) (by decide +kernel), by decide +kernel⟩
theorem wd_450 : Cond.instanceMethod yX6_isByReserve ∈ TT := List.mem_filter.mpr ⟨List.mem_of_getElem? (i := 554) (by decide +kernel), by decide +kernel⟩
theorem wd_451 : Cond.selects RX6 yX6_isByReserve yX6_isByReserve ∈ TT := List.mem_filter.mpr ⟨List.mem_of_getElem? (i := 555) (by decide +kernel), by decide +kernel⟩
theorem cl_X7_196 : CVok RX7 196 kX6_isByReserve := ⟨wd_449, wd_450, wd_451⟩
theorem wd_452 : Cond.methodLink RX7 199 yX6_setByReserve ∈ TT := List.mem_filter.mpr ⟨List.mem_of_getElem? (i := 557) (by decide +kernel), by decide +kernel⟩
theorem wd_453 : Cond.instanceMethod yX6_setByReserve ∈ TT := List.mem_filter.mpr ⟨List.mem_of_getElem? (i := 558) (by decide +kernel), by decide +kernel⟩
theorem wd_454 : Cond.selects RX6 yX6_setByReserve yX6_setByReserve ∈ TT := List.mem_filter.mpr ⟨List.mem_of_getElem? (i := 559) (by decide +kernel), by decide +kernel⟩
theorem cl_X7_199 : CVok RX7 199 kX6_setByReserve := ⟨wd_452, wd_453, wd_454⟩
theorem wd_455 : Cond.methodLink RX7 203 yX0_keptEnding ∈ TT := List.mem_filter.mpr ⟨List.mem_of_getElem? (i := 569) (by decide +kernel), by decide +kernel⟩
theorem wd_456 : Cond.instanceMethod yX0_keptEnding ∈ TT := List.mem_filter.mpr ⟨List.mem_of_getElem? (i := 570) (by decide +kernel), by decide +kernel⟩
theorem wd_457 : Cond.selects RX0 yX0_keptEnding yX0_keptEnding ∈ TT := List.mem_filter.mpr ⟨List.mem_of_getElem? (i := 571) (by decide +kernel), by decide +kernel⟩
theorem cl_X7_203 : CVok RX7 203 kX0_keptEnding := ⟨wd_455, wd_456, wd_457⟩
theorem wd_458 : Cond.methodLink RX7 206 yX0_keptKind ∈ TT := List.mem_filter.mpr ⟨List.mem_of_getElem? (i := 573) (by decide +kernel), by decide +kernel⟩
theorem wd_459 : Cond.instanceMethod yX0_keptKind ∈ TT := List.mem_filter.mpr ⟨List.mem_of_getElem? (i := 574) (by decide +kernel), by decide +kernel⟩
theorem wd_460 : Cond.selects RX0 yX0_keptKind yX0_keptKind ∈ TT := List.mem_filter.mpr ⟨List.mem_of_getElem? (i := 575) (by decide +kernel), by decide +kernel⟩
theorem cl_X7_206 : CVok RX7 206 kX0_keptKind := ⟨wd_458, wd_459, wd_460⟩
theorem wd_461 : Cond.methodLink RX7 209 yX0_keptNumber ∈ TT := List.mem_filter.mpr ⟨List.mem_of_getElem? (i := 577) (by decide +kernel), by decide +kernel⟩
theorem wd_462 : Cond.instanceMethod yX0_keptNumber ∈ TT := List.mem_filter.mpr ⟨List.mem_of_getElem? (i := 578) (by decide +kernel), by decide +kernel⟩
theorem wd_463 : Cond.selects RX0 yX0_keptNumber yX0_keptNumber ∈ TT := List.mem_filter.mpr ⟨List.mem_of_getElem? (i := 579) (by decide +kernel), by decide +kernel⟩
theorem cl_X7_209 : CVok RX7 209 kX0_keptNumber := ⟨wd_461, wd_462, wd_463⟩
theorem wd_464 : Cond.methodLink RX7 212 yX5_bodyOf ∈ TT := List.mem_filter.mpr ⟨List.mem_of_getElem? (i := 446) (by decide +kernel), by decide +kernel⟩
theorem cl_X7_212 : CVok RX7 212 kX5_bodyOf := ⟨wd_464, wd_263, wd_264⟩
theorem wd_465 : Cond.methodLink RX7 215 yX7_raise ∈ TT := List.mem_filter.mpr ⟨List.mem_of_getElem? (i := 447) (by decide +kernel), by decide +kernel⟩
theorem wd_466 : Cond.instanceMethod yX7_raise ∈ TT := List.mem_filter.mpr ⟨List.mem_of_getElem? (i := 449) (by decide +kernel), by decide +kernel⟩
theorem wd_467 : Cond.selects RX7 yX7_raise yX7_raise ∈ TT := List.mem_filter.mpr ⟨List.mem_of_getElem? (i := 9) (by decide +kernel), by decide +kernel⟩
theorem cl_X7_215 : CVok RX7 215 kX7_raise := ⟨wd_465, wd_466, wd_467⟩
theorem wd_468 : Cond.methodLink RX7 218 yX0_setStage ∈ TT := List.mem_filter.mpr ⟨List.mem_of_getElem? (i := 426) (by decide +kernel), by decide +kernel⟩
theorem wd_469 : Cond.instanceMethod yX0_setStage ∈ TT := List.mem_filter.mpr ⟨List.mem_of_getElem? (i := 427) (by decide +kernel), by decide +kernel⟩
theorem wd_470 : Cond.selects RX0 yX0_setStage yX0_setStage ∈ TT := List.mem_filter.mpr ⟨List.mem_of_getElem? (i := 428) (by decide +kernel), by decide +kernel⟩
theorem cl_X7_218 : CVok RX7 218 kX0_setStage := ⟨wd_468, wd_469, wd_470⟩
theorem wd_471 : Cond.methodLink RX7 221 yJ9_max_7cf53 ∈ TT := List.mem_filter.mpr ⟨List.mem_of_getElem? (i := 384) (by decide +kernel), by decide +kernel⟩
theorem cl_X7_221 : CSok RX7 221 kJ9_max_7cf53 := ⟨Or.inl wd_471, wd_301⟩
theorem wd_472 : Cond.methodLink RX7 227 yX0_open ∈ TT := List.mem_filter.mpr ⟨List.mem_of_getElem? (i := 385) (by decide +kernel), by decide +kernel⟩
theorem wd_473 : Cond.instanceMethod yX0_open ∈ TT := List.mem_filter.mpr ⟨List.mem_of_getElem? (i := 386) (by decide +kernel), by decide +kernel⟩
theorem wd_474 : Cond.selects RX0 yX0_open yX0_open ∈ TT := List.mem_filter.mpr ⟨List.mem_of_getElem? (i := 387) (by decide +kernel), by decide +kernel⟩
theorem cl_X7_227 : CVok RX7 227 kX0_open := ⟨wd_472, wd_473, wd_474⟩
theorem wd_475 : Cond.methodLink RX7 232 yX7_calculate ∈ TT := List.mem_filter.mpr ⟨List.mem_of_getElem? (i := 465) (by decide +kernel), by decide +kernel⟩
theorem wd_476 : Cond.instanceMethod yX7_calculate ∈ TT := List.mem_filter.mpr ⟨List.mem_of_getElem? (i := 467) (by decide +kernel), by decide +kernel⟩
theorem wd_477 : Cond.selects RX7 yX7_calculate yX7_calculate ∈ TT := List.mem_filter.mpr ⟨List.mem_of_getElem? (i := 12) (by decide +kernel), by decide +kernel⟩
theorem cl_X7_232 : CVok RX7 232 kX7_calculate := ⟨wd_475, wd_476, wd_477⟩
theorem wd_478 : Cond.methodLink RX7 235 yX7_doWithRow ∈ TT := List.mem_filter.mpr ⟨List.mem_of_getElem? (i := 473) (by decide +kernel), by decide +kernel⟩
theorem wd_479 : Cond.instanceMethod yX7_doWithRow ∈ TT := List.mem_filter.mpr ⟨List.mem_of_getElem? (i := 475) (by decide +kernel), by decide +kernel⟩
theorem wd_480 : Cond.selects RX7 yX7_doWithRow yX7_doWithRow ∈ TT := List.mem_filter.mpr ⟨List.mem_of_getElem? (i := 14) (by decide +kernel), by decide +kernel⟩
theorem cl_X7_235 : CVok RX7 235 kX7_doWithRow := ⟨wd_478, wd_479, wd_480⟩
theorem wd_481 : Cond.methodLink RX7 238 yX4_setResult ∈ TT := List.mem_filter.mpr ⟨List.mem_of_getElem? (i := 517) (by decide +kernel), by decide +kernel⟩
theorem wd_482 : Cond.instanceMethod yX4_setResult ∈ TT := List.mem_filter.mpr ⟨List.mem_of_getElem? (i := 518) (by decide +kernel), by decide +kernel⟩
theorem wd_483 : Cond.selects RX4 yX4_setResult yX4_setResult ∈ TT := List.mem_filter.mpr ⟨List.mem_of_getElem? (i := 519) (by decide +kernel), by decide +kernel⟩
theorem cl_X7_238 : CVok RX7 238 kX4_setResult := ⟨wd_481, wd_482, wd_483⟩
theorem wd_484 : Cond.methodLink RX7 241 yX7_divide ∈ TT := List.mem_filter.mpr ⟨List.mem_of_getElem? (i := 469) (by decide +kernel), by decide +kernel⟩
theorem wd_485 : Cond.instanceMethod yX7_divide ∈ TT := List.mem_filter.mpr ⟨List.mem_of_getElem? (i := 471) (by decide +kernel), by decide +kernel⟩
theorem wd_486 : Cond.selects RX7 yX7_divide yX7_divide ∈ TT := List.mem_filter.mpr ⟨List.mem_of_getElem? (i := 13) (by decide +kernel), by decide +kernel⟩
theorem cl_X7_241 : CVok RX7 241 kX7_divide := ⟨wd_484, wd_485, wd_486⟩
theorem wd_487 : Cond.methodLink RX7 244 yX7_makeRow ∈ TT := List.mem_filter.mpr ⟨List.mem_of_getElem? (i := 477) (by decide +kernel), by decide +kernel⟩
theorem wd_488 : Cond.instanceMethod yX7_makeRow ∈ TT := List.mem_filter.mpr ⟨List.mem_of_getElem? (i := 479) (by decide +kernel), by decide +kernel⟩
theorem wd_489 : Cond.selects RX7 yX7_makeRow yX7_makeRow ∈ TT := List.mem_filter.mpr ⟨List.mem_of_getElem? (i := 15) (by decide +kernel), by decide +kernel⟩
theorem cl_X7_244 : CVok RX7 244 kX7_makeRow := ⟨wd_487, wd_488, wd_489⟩
theorem wd_490 : Cond.methodLink RX7 247 yX7_reaches ∈ TT := List.mem_filter.mpr ⟨List.mem_of_getElem? (i := 488) (by decide +kernel), by decide +kernel⟩
theorem wd_491 : Cond.instanceMethod yX7_reaches ∈ TT := List.mem_filter.mpr ⟨List.mem_of_getElem? (i := 490) (by decide +kernel), by decide +kernel⟩
theorem wd_492 : Cond.selects RX7 yX7_reaches yX7_reaches ∈ TT := List.mem_filter.mpr ⟨List.mem_of_getElem? (i := 16) (by decide +kernel), by decide +kernel⟩
theorem cl_X7_247 : CVok RX7 247 kX7_reaches := ⟨wd_490, wd_491, wd_492⟩
theorem wd_493 : Cond.methodLink RX7 250 yX4_load ∈ TT := List.mem_filter.mpr ⟨List.mem_of_getElem? (i := 497) (by decide +kernel), by decide +kernel⟩
theorem cl_X7_250 : CVok RX7 250 kX4_load := ⟨wd_493, wd_309, wd_310⟩
theorem wd_494 : Cond.methodLink RX7 253 yX4_store ∈ TT := List.mem_filter.mpr ⟨List.mem_of_getElem? (i := 501) (by decide +kernel), by decide +kernel⟩
theorem wd_495 : Cond.instanceMethod yX4_store ∈ TT := List.mem_filter.mpr ⟨List.mem_of_getElem? (i := 502) (by decide +kernel), by decide +kernel⟩
theorem wd_496 : Cond.selects RX4 yX4_store yX4_store ∈ TT := List.mem_filter.mpr ⟨List.mem_of_getElem? (i := 503) (by decide +kernel), by decide +kernel⟩
theorem cl_X7_253 : CVok RX7 253 kX4_store := ⟨wd_494, wd_495, wd_496⟩
theorem wd_497 : Cond.methodLink RX7 256 yX7_measureRow ∈ TT := List.mem_filter.mpr ⟨List.mem_of_getElem? (i := 505) (by decide +kernel), by decide +kernel⟩
theorem wd_498 : Cond.instanceMethod yX7_measureRow ∈ TT := List.mem_filter.mpr ⟨List.mem_of_getElem? (i := 507) (by decide +kernel), by decide +kernel⟩
theorem wd_499 : Cond.selects RX7 yX7_measureRow yX7_measureRow ∈ TT := List.mem_filter.mpr ⟨List.mem_of_getElem? (i := 17) (by decide +kernel), by decide +kernel⟩
theorem cl_X7_256 : CVok RX7 256 kX7_measureRow := ⟨wd_497, wd_498, wd_499⟩
theorem wd_500 : Cond.methodLink RX7 259 yX4_forgetRow ∈ TT := List.mem_filter.mpr ⟨List.mem_of_getElem? (i := 509) (by decide +kernel), by decide +kernel⟩
theorem wd_501 : Cond.instanceMethod yX4_forgetRow ∈ TT := List.mem_filter.mpr ⟨List.mem_of_getElem? (i := 510) (by decide +kernel), by decide +kernel⟩
theorem wd_502 : Cond.selects RX4 yX4_forgetRow yX4_forgetRow ∈ TT := List.mem_filter.mpr ⟨List.mem_of_getElem? (i := 511) (by decide +kernel), by decide +kernel⟩
theorem cl_X7_259 : CVok RX7 259 kX4_forgetRow := ⟨wd_500, wd_501, wd_502⟩
theorem wd_503 : Cond.methodLink RX7 262 yX4_shareRow ∈ TT := List.mem_filter.mpr ⟨List.mem_of_getElem? (i := 513) (by decide +kernel), by decide +kernel⟩
theorem wd_504 : Cond.instanceMethod yX4_shareRow ∈ TT := List.mem_filter.mpr ⟨List.mem_of_getElem? (i := 514) (by decide +kernel), by decide +kernel⟩
theorem wd_505 : Cond.selects RX4 yX4_shareRow yX4_shareRow ∈ TT := List.mem_filter.mpr ⟨List.mem_of_getElem? (i := 515) (by decide +kernel), by decide +kernel⟩
theorem cl_X7_262 : CVok RX7 262 kX4_shareRow := ⟨wd_503, wd_504, wd_505⟩
theorem wd_506 : Cond.methodLink RX7 265 yX3_makingPrice ∈ TT := List.mem_filter.mpr ⟨List.mem_of_getElem? (i := 481) (by decide +kernel), by decide +kernel⟩
theorem wd_507 : Cond.static yX3_makingPrice ∈ TT := List.mem_filter.mpr ⟨List.mem_of_getElem? (i := 482) (by decide +kernel), by decide +kernel⟩
theorem cl_X7_265 : CSok RX7 265 kX3_makingPrice := ⟨Or.inl wd_506, wd_507⟩
theorem wd_508 : Cond.methodLink RX7 268 yX4_makeRow ∈ TT := List.mem_filter.mpr ⟨List.mem_of_getElem? (i := 484) (by decide +kernel), by decide +kernel⟩
theorem wd_509 : Cond.instanceMethod yX4_makeRow ∈ TT := List.mem_filter.mpr ⟨List.mem_of_getElem? (i := 485) (by decide +kernel), by decide +kernel⟩
theorem wd_510 : Cond.selects RX4 yX4_makeRow yX4_makeRow ∈ TT := List.mem_filter.mpr ⟨List.mem_of_getElem? (i := 486) (by decide +kernel), by decide +kernel⟩
theorem cl_X7_268 : CVok RX7 268 kX4_makeRow := ⟨wd_508, wd_509, wd_510⟩
theorem wd_511 : Cond.methodLink RX7 269 yX4_lengthOf ∈ TT := List.mem_filter.mpr ⟨List.mem_of_getElem? (i := 492) (by decide +kernel), by decide +kernel⟩
theorem cl_X7_269 : CVok RX7 269 kX4_lengthOf := ⟨wd_511, wd_286, wd_287⟩
theorem wd_512 : Cond.methodLinkNest RX7 272 yX9_isBelow "MarkedRuns" ∈ NN := List.mem_filter.mpr ⟨List.mem_of_getElem? (i := 496) (by decide +kernel), by decide +kernel⟩
theorem cl_X7_272 : CSok RX7 272 kX9_isBelow := ⟨Or.inr ⟨_, wd_512⟩, wd_258⟩
theorem wd_513 : Cond.methodLink RX10 86 yX10_isIn ∈ TT := List.mem_filter.mpr ⟨List.mem_of_getElem? (i := 941) (by decide +kernel), by decide +kernel⟩
theorem wd_514 : Cond.static yX10_isIn ∈ TT := List.mem_filter.mpr ⟨List.mem_of_getElem? (i := 942) (by decide +kernel), by decide +kernel⟩
theorem cl_X10_86 : CSok RX10 86 kX10_isIn := ⟨Or.inl wd_513, wd_514⟩
theorem wd_515 : Cond.methodLink RX10 90 yX10_isStatement ∈ TT := List.mem_filter.mpr ⟨List.mem_of_getElem? (i := 944) (by decide +kernel), by decide +kernel⟩
theorem wd_516 : Cond.instanceMethod yX10_isStatement ∈ TT := List.mem_filter.mpr ⟨List.mem_of_getElem? (i := 946) (by decide +kernel), by decide +kernel⟩
theorem wd_517 : Cond.selects RX10 yX10_isStatement yX10_isStatement ∈ TT := List.mem_filter.mpr ⟨List.mem_of_getElem? (i := 30) (by decide +kernel), by decide +kernel⟩
theorem cl_X10_90 : CVok RX10 90 kX10_isStatement := ⟨wd_515, wd_516, wd_517⟩
theorem wd_518 : Cond.methodLink RX10 94 yX10_highest ∈ TT := List.mem_filter.mpr ⟨List.mem_of_getElem? (i := 952) (by decide +kernel), by decide +kernel⟩
theorem wd_519 : Cond.instanceMethod yX10_highest ∈ TT := List.mem_filter.mpr ⟨List.mem_of_getElem? (i := 954) (by decide +kernel), by decide +kernel⟩
theorem wd_520 : Cond.selects RX10 yX10_highest yX10_highest ∈ TT := List.mem_filter.mpr ⟨List.mem_of_getElem? (i := 32) (by decide +kernel), by decide +kernel⟩
theorem cl_X10_94 : CVok RX10 94 kX10_highest := ⟨wd_518, wd_519, wd_520⟩
theorem wd_521 : Cond.methodLink RX10 98 yX10_isRight ∈ TT := List.mem_filter.mpr ⟨List.mem_of_getElem? (i := 937) (by decide +kernel), by decide +kernel⟩
theorem wd_522 : Cond.instanceMethod yX10_isRight ∈ TT := List.mem_filter.mpr ⟨List.mem_of_getElem? (i := 939) (by decide +kernel), by decide +kernel⟩
theorem wd_523 : Cond.selects RX10 yX10_isRight yX10_isRight ∈ TT := List.mem_filter.mpr ⟨List.mem_of_getElem? (i := 29) (by decide +kernel), by decide +kernel⟩
theorem cl_X10_98 : CVok RX10 98 kX10_isRight := ⟨wd_521, wd_522, wd_523⟩
theorem wd_524 : Cond.methodLink RX10 102 yX10_heightOf ∈ TT := List.mem_filter.mpr ⟨List.mem_of_getElem? (i := 948) (by decide +kernel), by decide +kernel⟩
theorem wd_525 : Cond.instanceMethod yX10_heightOf ∈ TT := List.mem_filter.mpr ⟨List.mem_of_getElem? (i := 950) (by decide +kernel), by decide +kernel⟩
theorem wd_526 : Cond.selects RX10 yX10_heightOf yX10_heightOf ∈ TT := List.mem_filter.mpr ⟨List.mem_of_getElem? (i := 31) (by decide +kernel), by decide +kernel⟩
theorem cl_X10_102 : CVok RX10 102 kX10_heightOf := ⟨wd_524, wd_525, wd_526⟩
theorem wd_527 : Cond.methodLink RX10 118 yX10_comes ∈ TT := List.mem_filter.mpr ⟨List.mem_of_getElem? (i := 1000) (by decide +kernel), by decide +kernel⟩
theorem wd_528 : Cond.instanceMethod yX10_comes ∈ TT := List.mem_filter.mpr ⟨List.mem_of_getElem? (i := 1002) (by decide +kernel), by decide +kernel⟩
theorem wd_529 : Cond.selects RX10 yX10_comes yX10_comes ∈ TT := List.mem_filter.mpr ⟨List.mem_of_getElem? (i := 41) (by decide +kernel), by decide +kernel⟩
theorem cl_X10_118 : CVok RX10 118 kX10_comes := ⟨wd_527, wd_528, wd_529⟩
theorem wd_530 : Cond.methodLink RX10 131 yX10_endReserve ∈ TT := List.mem_filter.mpr ⟨List.mem_of_getElem? (i := 984) (by decide +kernel), by decide +kernel⟩
theorem wd_531 : Cond.instanceMethod yX10_endReserve ∈ TT := List.mem_filter.mpr ⟨List.mem_of_getElem? (i := 986) (by decide +kernel), by decide +kernel⟩
theorem wd_532 : Cond.selects RX10 yX10_endReserve yX10_endReserve ∈ TT := List.mem_filter.mpr ⟨List.mem_of_getElem? (i := 37) (by decide +kernel), by decide +kernel⟩
theorem cl_X10_131 : CVok RX10 131 kX10_endReserve := ⟨wd_530, wd_531, wd_532⟩
theorem wd_533 : Cond.methodLink RX10 140 yX10_leave ∈ TT := List.mem_filter.mpr ⟨List.mem_of_getElem? (i := 988) (by decide +kernel), by decide +kernel⟩
theorem wd_534 : Cond.instanceMethod yX10_leave ∈ TT := List.mem_filter.mpr ⟨List.mem_of_getElem? (i := 990) (by decide +kernel), by decide +kernel⟩
theorem wd_535 : Cond.selects RX10 yX10_leave yX10_leave ∈ TT := List.mem_filter.mpr ⟨List.mem_of_getElem? (i := 38) (by decide +kernel), by decide +kernel⟩
theorem cl_X10_140 : CVok RX10 140 kX10_leave := ⟨wd_533, wd_534, wd_535⟩
theorem wd_536 : Cond.methodLink RX10 149 yX10_throwing ∈ TT := List.mem_filter.mpr ⟨List.mem_of_getElem? (i := 1008) (by decide +kernel), by decide +kernel⟩
theorem wd_537 : Cond.instanceMethod yX10_throwing ∈ TT := List.mem_filter.mpr ⟨List.mem_of_getElem? (i := 1010) (by decide +kernel), by decide +kernel⟩
theorem wd_538 : Cond.selects RX10 yX10_throwing yX10_throwing ∈ TT := List.mem_filter.mpr ⟨List.mem_of_getElem? (i := 43) (by decide +kernel), by decide +kernel⟩
theorem cl_X10_149 : CVok RX10 149 kX10_throwing := ⟨wd_536, wd_537, wd_538⟩
theorem wd_539 : Cond.methodLink RX10 153 yX10_pays ∈ TT := List.mem_filter.mpr ⟨List.mem_of_getElem? (i := 980) (by decide +kernel), by decide +kernel⟩
theorem wd_540 : Cond.instanceMethod yX10_pays ∈ TT := List.mem_filter.mpr ⟨List.mem_of_getElem? (i := 982) (by decide +kernel), by decide +kernel⟩
theorem wd_541 : Cond.selects RX10 yX10_pays yX10_pays ∈ TT := List.mem_filter.mpr ⟨List.mem_of_getElem? (i := 36) (by decide +kernel), by decide +kernel⟩
theorem cl_X10_153 : CVok RX10 153 kX10_pays := ⟨wd_539, wd_540, wd_541⟩
theorem wd_542 : Cond.methodLink RX10 162 yX10_making ∈ TT := List.mem_filter.mpr ⟨List.mem_of_getElem? (i := 1024) (by decide +kernel), by decide +kernel⟩
theorem wd_543 : Cond.instanceMethod yX10_making ∈ TT := List.mem_filter.mpr ⟨List.mem_of_getElem? (i := 1026) (by decide +kernel), by decide +kernel⟩
theorem wd_544 : Cond.selects RX10 yX10_making yX10_making ∈ TT := List.mem_filter.mpr ⟨List.mem_of_getElem? (i := 47) (by decide +kernel), by decide +kernel⟩
theorem cl_X10_162 : CVok RX10 162 kX10_making := ⟨wd_542, wd_543, wd_544⟩
theorem wd_545 : Cond.methodLink RX10 165 yX10_has ∈ TT := List.mem_filter.mpr ⟨List.mem_of_getElem? (i := 1028) (by decide +kernel), by decide +kernel⟩
theorem wd_546 : Cond.instanceMethod yX10_has ∈ TT := List.mem_filter.mpr ⟨List.mem_of_getElem? (i := 1030) (by decide +kernel), by decide +kernel⟩
theorem wd_547 : Cond.selects RX10 yX10_has yX10_has ∈ TT := List.mem_filter.mpr ⟨List.mem_of_getElem? (i := 48) (by decide +kernel), by decide +kernel⟩
theorem cl_X10_165 : CVok RX10 165 kX10_has := ⟨wd_545, wd_546, wd_547⟩
theorem wd_548 : Cond.methodLink RX10 171 yX10_reckon ∈ TT := List.mem_filter.mpr ⟨List.mem_of_getElem? (i := 1032) (by decide +kernel), by decide +kernel⟩
theorem wd_549 : Cond.instanceMethod yX10_reckon ∈ TT := List.mem_filter.mpr ⟨List.mem_of_getElem? (i := 1034) (by decide +kernel), by decide +kernel⟩
theorem wd_550 : Cond.selects RX10 yX10_reckon yX10_reckon ∈ TT := List.mem_filter.mpr ⟨List.mem_of_getElem? (i := 49) (by decide +kernel), by decide +kernel⟩
theorem cl_X10_171 : CVok RX10 171 kX10_reckon := ⟨wd_548, wd_549, wd_550⟩
theorem wd_551 : Cond.methodLink RX10 174 yX10_enter ∈ TT := List.mem_filter.mpr ⟨List.mem_of_getElem? (i := 1012) (by decide +kernel), by decide +kernel⟩
theorem wd_552 : Cond.instanceMethod yX10_enter ∈ TT := List.mem_filter.mpr ⟨List.mem_of_getElem? (i := 1014) (by decide +kernel), by decide +kernel⟩
theorem wd_553 : Cond.selects RX10 yX10_enter yX10_enter ∈ TT := List.mem_filter.mpr ⟨List.mem_of_getElem? (i := 44) (by decide +kernel), by decide +kernel⟩
theorem cl_X10_174 : CVok RX10 174 kX10_enter := ⟨wd_551, wd_552, wd_553⟩
theorem wd_554 : Cond.methodLink RX10 180 yX10_push ∈ TT := List.mem_filter.mpr ⟨List.mem_of_getElem? (i := 992) (by decide +kernel), by decide +kernel⟩
theorem wd_555 : Cond.instanceMethod yX10_push ∈ TT := List.mem_filter.mpr ⟨List.mem_of_getElem? (i := 994) (by decide +kernel), by decide +kernel⟩
theorem wd_556 : Cond.selects RX10 yX10_push yX10_push ∈ TT := List.mem_filter.mpr ⟨List.mem_of_getElem? (i := 39) (by decide +kernel), by decide +kernel⟩
theorem cl_X10_180 : CVok RX10 180 kX10_push := ⟨wd_554, wd_555, wd_556⟩
theorem wd_557 : Cond.methodLink RX10 186 yX10_calls ∈ TT := List.mem_filter.mpr ⟨List.mem_of_getElem? (i := 1004) (by decide +kernel), by decide +kernel⟩
theorem wd_558 : Cond.instanceMethod yX10_calls ∈ TT := List.mem_filter.mpr ⟨List.mem_of_getElem? (i := 1006) (by decide +kernel), by decide +kernel⟩
theorem wd_559 : Cond.selects RX10 yX10_calls yX10_calls ∈ TT := List.mem_filter.mpr ⟨List.mem_of_getElem? (i := 42) (by decide +kernel), by decide +kernel⟩
theorem cl_X10_186 : CVok RX10 186 kX10_calls := ⟨wd_557, wd_558, wd_559⟩
theorem wd_560 : Cond.methodLink RX10 189 yX10_locks ∈ TT := List.mem_filter.mpr ⟨List.mem_of_getElem? (i := 1016) (by decide +kernel), by decide +kernel⟩
theorem wd_561 : Cond.instanceMethod yX10_locks ∈ TT := List.mem_filter.mpr ⟨List.mem_of_getElem? (i := 1018) (by decide +kernel), by decide +kernel⟩
theorem wd_562 : Cond.selects RX10 yX10_locks yX10_locks ∈ TT := List.mem_filter.mpr ⟨List.mem_of_getElem? (i := 45) (by decide +kernel), by decide +kernel⟩
theorem cl_X10_189 : CVok RX10 189 kX10_locks := ⟨wd_560, wd_561, wd_562⟩
theorem wd_563 : Cond.methodLink RX10 192 yX10_simple ∈ TT := List.mem_filter.mpr ⟨List.mem_of_getElem? (i := 1020) (by decide +kernel), by decide +kernel⟩
theorem wd_564 : Cond.instanceMethod yX10_simple ∈ TT := List.mem_filter.mpr ⟨List.mem_of_getElem? (i := 1022) (by decide +kernel), by decide +kernel⟩
theorem wd_565 : Cond.selects RX10 yX10_simple yX10_simple ∈ TT := List.mem_filter.mpr ⟨List.mem_of_getElem? (i := 46) (by decide +kernel), by decide +kernel⟩
theorem cl_X10_192 : CVok RX10 192 kX10_simple := ⟨wd_563, wd_564, wd_565⟩
theorem wd_566 : Cond.methodLink RX10 195 yX10_note ∈ TT := List.mem_filter.mpr ⟨List.mem_of_getElem? (i := 1048) (by decide +kernel), by decide +kernel⟩
theorem wd_567 : Cond.instanceMethod yX10_note ∈ TT := List.mem_filter.mpr ⟨List.mem_of_getElem? (i := 1050) (by decide +kernel), by decide +kernel⟩
theorem wd_568 : Cond.selects RX10 yX10_note yX10_note ∈ TT := List.mem_filter.mpr ⟨List.mem_of_getElem? (i := 53) (by decide +kernel), by decide +kernel⟩
theorem cl_X10_195 : CVok RX10 195 kX10_note := ⟨wd_566, wd_567, wd_568⟩
theorem wd_569 : Cond.methodLink RX10 198 yX10_second ∈ TT := List.mem_filter.mpr ⟨List.mem_of_getElem? (i := 1040) (by decide +kernel), by decide +kernel⟩
theorem wd_570 : Cond.instanceMethod yX10_second ∈ TT := List.mem_filter.mpr ⟨List.mem_of_getElem? (i := 1042) (by decide +kernel), by decide +kernel⟩
theorem wd_571 : Cond.selects RX10 yX10_second yX10_second ∈ TT := List.mem_filter.mpr ⟨List.mem_of_getElem? (i := 51) (by decide +kernel), by decide +kernel⟩
theorem cl_X10_198 : CVok RX10 198 kX10_second := ⟨wd_569, wd_570, wd_571⟩
theorem wd_572 : Cond.methodLink RX10 201 yX10_handles ∈ TT := List.mem_filter.mpr ⟨List.mem_of_getElem? (i := 1044) (by decide +kernel), by decide +kernel⟩
theorem wd_573 : Cond.instanceMethod yX10_handles ∈ TT := List.mem_filter.mpr ⟨List.mem_of_getElem? (i := 1046) (by decide +kernel), by decide +kernel⟩
theorem wd_574 : Cond.selects RX10 yX10_handles yX10_handles ∈ TT := List.mem_filter.mpr ⟨List.mem_of_getElem? (i := 52) (by decide +kernel), by decide +kernel⟩
theorem cl_X10_201 : CVok RX10 201 kX10_handles := ⟨wd_572, wd_573, wd_574⟩
theorem wd_575 : Cond.methodLink RX10 204 yX10_finalOf ∈ TT := List.mem_filter.mpr ⟨List.mem_of_getElem? (i := 1052) (by decide +kernel), by decide +kernel⟩
theorem wd_576 : Cond.instanceMethod yX10_finalOf ∈ TT := List.mem_filter.mpr ⟨List.mem_of_getElem? (i := 1054) (by decide +kernel), by decide +kernel⟩
theorem wd_577 : Cond.selects RX10 yX10_finalOf yX10_finalOf ∈ TT := List.mem_filter.mpr ⟨List.mem_of_getElem? (i := 54) (by decide +kernel), by decide +kernel⟩
theorem cl_X10_204 : CVok RX10 204 kX10_finalOf := ⟨wd_575, wd_576, wd_577⟩
theorem wd_578 : Cond.methodLink RX10 207 yX10_lastDone ∈ TT := List.mem_filter.mpr ⟨List.mem_of_getElem? (i := 1056) (by decide +kernel), by decide +kernel⟩
theorem wd_579 : Cond.instanceMethod yX10_lastDone ∈ TT := List.mem_filter.mpr ⟨List.mem_of_getElem? (i := 1058) (by decide +kernel), by decide +kernel⟩
theorem wd_580 : Cond.selects RX10 yX10_lastDone yX10_lastDone ∈ TT := List.mem_filter.mpr ⟨List.mem_of_getElem? (i := 55) (by decide +kernel), by decide +kernel⟩
theorem cl_X10_207 : CVok RX10 207 kX10_lastDone := ⟨wd_578, wd_579, wd_580⟩
theorem wd_581 : Cond.methodLink RX10 210 yX10_reset ∈ TT := List.mem_filter.mpr ⟨List.mem_of_getElem? (i := 976) (by decide +kernel), by decide +kernel⟩
theorem wd_582 : Cond.instanceMethod yX10_reset ∈ TT := List.mem_filter.mpr ⟨List.mem_of_getElem? (i := 978) (by decide +kernel), by decide +kernel⟩
theorem wd_583 : Cond.selects RX10 yX10_reset yX10_reset ∈ TT := List.mem_filter.mpr ⟨List.mem_of_getElem? (i := 35) (by decide +kernel), by decide +kernel⟩
theorem cl_X10_210 : CVok RX10 210 kX10_reset := ⟨wd_581, wd_582, wd_583⟩
theorem wd_584 : Cond.methodLink RX10 213 yX10_begin ∈ TT := List.mem_filter.mpr ⟨List.mem_of_getElem? (i := 996) (by decide +kernel), by decide +kernel⟩
theorem wd_585 : Cond.instanceMethod yX10_begin ∈ TT := List.mem_filter.mpr ⟨List.mem_of_getElem? (i := 998) (by decide +kernel), by decide +kernel⟩
theorem wd_586 : Cond.selects RX10 yX10_begin yX10_begin ∈ TT := List.mem_filter.mpr ⟨List.mem_of_getElem? (i := 40) (by decide +kernel), by decide +kernel⟩
theorem cl_X10_213 : CVok RX10 213 kX10_begin := ⟨wd_584, wd_585, wd_586⟩
theorem wd_587 : Cond.methodLink RX10 216 yX10_tell ∈ TT := List.mem_filter.mpr ⟨List.mem_of_getElem? (i := 1036) (by decide +kernel), by decide +kernel⟩
theorem wd_588 : Cond.instanceMethod yX10_tell ∈ TT := List.mem_filter.mpr ⟨List.mem_of_getElem? (i := 1038) (by decide +kernel), by decide +kernel⟩
theorem wd_589 : Cond.selects RX10 yX10_tell yX10_tell ∈ TT := List.mem_filter.mpr ⟨List.mem_of_getElem? (i := 50) (by decide +kernel), by decide +kernel⟩
theorem cl_X10_216 : CVok RX10 216 kX10_tell := ⟨wd_587, wd_588, wd_589⟩
theorem wd_590 : Cond.methodLink RX10 219 yX10_isRun ∈ TT := List.mem_filter.mpr ⟨List.mem_of_getElem? (i := 968) (by decide +kernel), by decide +kernel⟩
theorem wd_591 : Cond.instanceMethod yX10_isRun ∈ TT := List.mem_filter.mpr ⟨List.mem_of_getElem? (i := 970) (by decide +kernel), by decide +kernel⟩
theorem wd_592 : Cond.selects RX10 yX10_isRun yX10_isRun ∈ TT := List.mem_filter.mpr ⟨List.mem_of_getElem? (i := 33) (by decide +kernel), by decide +kernel⟩
theorem cl_X10_219 : CVok RX10 219 kX10_isRun := ⟨wd_590, wd_591, wd_592⟩
theorem wd_593 : Cond.methodLink RX10 222 yX10_runs ∈ TT := List.mem_filter.mpr ⟨List.mem_of_getElem? (i := 972) (by decide +kernel), by decide +kernel⟩
theorem wd_594 : Cond.instanceMethod yX10_runs ∈ TT := List.mem_filter.mpr ⟨List.mem_of_getElem? (i := 974) (by decide +kernel), by decide +kernel⟩
theorem wd_595 : Cond.selects RX10 yX10_runs yX10_runs ∈ TT := List.mem_filter.mpr ⟨List.mem_of_getElem? (i := 34) (by decide +kernel), by decide +kernel⟩
theorem cl_X10_222 : CVok RX10 222 kX10_runs := ⟨wd_593, wd_594, wd_595⟩
theorem wd_596 : Cond.methodLink RX10 225 yX10_fail ∈ TT := List.mem_filter.mpr ⟨List.mem_of_getElem? (i := 1084) (by decide +kernel), by decide +kernel⟩
theorem wd_597 : Cond.instanceMethod yX10_fail ∈ TT := List.mem_filter.mpr ⟨List.mem_of_getElem? (i := 1086) (by decide +kernel), by decide +kernel⟩
theorem wd_598 : Cond.selects RX10 yX10_fail yX10_fail ∈ TT := List.mem_filter.mpr ⟨List.mem_of_getElem? (i := 56) (by decide +kernel), by decide +kernel⟩
theorem cl_X10_225 : CVok RX10 225 kX10_fail := ⟨wd_596, wd_597, wd_598⟩
theorem wd_599 : Cond.methodLink RX10 229 yX10_size ∈ TT := List.mem_filter.mpr ⟨List.mem_of_getElem? (i := 1092) (by decide +kernel), by decide +kernel⟩
theorem wd_600 : Cond.instanceMethod yX10_size ∈ TT := List.mem_filter.mpr ⟨List.mem_of_getElem? (i := 1077) (by decide +kernel), by decide +kernel⟩
theorem wd_601 : Cond.selects RX10 yX10_size yX10_size ∈ TT := List.mem_filter.mpr ⟨List.mem_of_getElem? (i := 1078) (by decide +kernel), by decide +kernel⟩
theorem cl_X10_229 : CVok RX10 229 kX10_size := ⟨wd_599, wd_600, wd_601⟩
theorem wd_602 : Cond.methodLink RX10 232 yX10_item ∈ TT := List.mem_filter.mpr ⟨List.mem_of_getElem? (i := 1093) (by decide +kernel), by decide +kernel⟩
theorem wd_603 : Cond.instanceMethod yX10_item ∈ TT := List.mem_filter.mpr ⟨List.mem_of_getElem? (i := 1081) (by decide +kernel), by decide +kernel⟩
theorem wd_604 : Cond.selects RX10 yX10_item yX10_item ∈ TT := List.mem_filter.mpr ⟨List.mem_of_getElem? (i := 1082) (by decide +kernel), by decide +kernel⟩
theorem cl_X10_232 : CVok RX10 232 kX10_item := ⟨wd_602, wd_603, wd_604⟩
theorem wd_605 : Cond.constant RX7 64 1000000000 ∈ TT := List.mem_filter.mpr ⟨List.mem_of_getElem? (i := 389) (by decide +kernel), by decide +kernel⟩
theorem cn_X7_64 : Cond.constant RX7 64 1000000000 ∈ TT := wd_605
