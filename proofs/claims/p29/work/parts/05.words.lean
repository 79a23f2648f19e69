theorem wC_X5_init : Cond.code yX5_init cX5_init 1 none ∈ ww := ww_of (List.mem_of_getElem? (i := 16) (by decide +kernel)) rfl
theorem wC_X3_init : Cond.code yX3_init cX3_init 2 none ∈ ww := ww_of (List.mem_of_getElem? (i := 24) (by decide +kernel)) rfl
theorem wC_X2_init : Cond.code yX2_init cX2_init 1 none ∈ ww := ww_of (List.mem_of_getElem? (i := 32) (by decide +kernel)) rfl
theorem wC_X0_init : Cond.code yX0_init cX0_init 2 none ∈ ww := ww_of (List.mem_of_getElem? (i := 52) (by decide +kernel)) rfl
theorem wC_X1_init : Cond.code yX1_init cX1_init 2 none ∈ ww := ww_of (List.mem_of_getElem? (i := 127) (by decide +kernel)) rfl
theorem wC_X4_init : Cond.code yX4_init cX4_init 1 none ∈ ww := ww_of (List.mem_of_getElem? (i := 146) (by decide +kernel)) rfl
theorem wC_X5_set : Cond.code yX5_set cX5_set 4 (some .int) ∈ ww := ww_of (List.mem_of_getElem? (i := 186) (by decide +kernel)) rfl
theorem wC_X5_isSetting : Cond.code yX5_isSetting cX5_isSetting 1 (some .boolean) ∈ ww := ww_of (List.mem_of_getElem? (i := 189) (by decide +kernel)) rfl
theorem wC_X5_isWithin : Cond.code yX5_isWithin cX5_isWithin 3 (some .boolean) ∈ ww := ww_of (List.mem_of_getElem? (i := 192) (by decide +kernel)) rfl
theorem wC_X1_record : Cond.code yX1_record cX1_record 2 none ∈ ww := ww_of (List.mem_of_getElem? (i := 200) (by decide +kernel)) rfl
theorem wC_X3_copyFrom : Cond.code yX3_copyFrom cX3_copyFrom 3 none ∈ ww := ww_of (List.mem_of_getElem? (i := 204) (by decide +kernel)) rfl
theorem wC_X0_copyFrom : Cond.code yX0_copyFrom cX0_copyFrom 2 none ∈ ww := ww_of (List.mem_of_getElem? (i := 208) (by decide +kernel)) rfl
theorem wC_X2_copyFrom : Cond.code yX2_copyFrom cX2_copyFrom 2 none ∈ ww := ww_of (List.mem_of_getElem? (i := 212) (by decide +kernel)) rfl
theorem wC_X5_gear : Cond.code yX5_gear cX5_gear 5 (some .int) ∈ ww := ww_of (List.mem_of_getElem? (i := 220) (by decide +kernel)) rfl
theorem wC_X3_faceAt : Cond.code yX3_faceAt cX3_faceAt 2 (some (.object "TowerFaces$Face")) ∈ ww := ww_of (List.mem_of_getElem? (i := 224) (by decide +kernel)) rfl
theorem wC_X5_oil : Cond.code yX5_oil cX5_oil 3 (some .int) ∈ ww := ww_of (List.mem_of_getElem? (i := 229) (by decide +kernel)) rfl
theorem wC_X0_takeOil : Cond.code yX0_takeOil cX0_takeOil 1 none ∈ ww := ww_of (List.mem_of_getElem? (i := 233) (by decide +kernel)) rfl
theorem wC_X5_dial : Cond.code yX5_dial cX5_dial 5 (some .int) ∈ ww := ww_of (List.mem_of_getElem? (i := 240) (by decide +kernel)) rfl
theorem wC_X5_distance : Cond.code yX5_distance cX5_distance 3 (some .int) ∈ ww := ww_of (List.mem_of_getElem? (i := 243) (by decide +kernel)) rfl
theorem wC_X5_bell : Cond.code yX5_bell cX5_bell 3 (some .int) ∈ ww := ww_of (List.mem_of_getElem? (i := 251) (by decide +kernel)) rfl
theorem wC_X5_pass : Cond.code yX5_pass cX5_pass 3 (some .int) ∈ ww := ww_of (List.mem_of_getElem? (i := 255) (by decide +kernel)) rfl
theorem wC_X3_errorOfPassing : Cond.code yX3_errorOfPassing cX3_errorOfPassing 2 (some .int) ∈ ww := ww_of (List.mem_of_getElem? (i := 259) (by decide +kernel)) rfl
theorem wC_X3_passMinutes : Cond.code yX3_passMinutes cX3_passMinutes 4 (some .int) ∈ ww := ww_of (List.mem_of_getElem? (i := 264) (by decide +kernel)) rfl
theorem wC_X3_passMinute : Cond.code yX3_passMinute cX3_passMinute 6 (some .int) ∈ ww := ww_of (List.mem_of_getElem? (i := 268) (by decide +kernel)) rfl
theorem wC_X0_passMinute : Cond.code yX0_passMinute cX0_passMinute 3 (some .int) ∈ ww := ww_of (List.mem_of_getElem? (i := 272) (by decide +kernel)) rfl
theorem wC_X0_slip : Cond.code yX0_slip cX0_slip 1 none ∈ ww := ww_of (List.mem_of_getElem? (i := 276) (by decide +kernel)) rfl
theorem wC_X5_strikesAt : Cond.code yX5_strikesAt cX5_strikesAt 1 (some .int) ∈ ww := ww_of (List.mem_of_getElem? (i := 280) (by decide +kernel)) rfl
theorem wC_X3_strainShaft : Cond.code yX3_strainShaft cX3_strainShaft 5 none ∈ ww := ww_of (List.mem_of_getElem? (i := 284) (by decide +kernel)) rfl
theorem wC_X0_goBack : Cond.code yX0_goBack cX0_goBack 1 none ∈ ww := ww_of (List.mem_of_getElem? (i := 288) (by decide +kernel)) rfl
theorem wC_X3_minuteOfDay : Cond.code yX3_minuteOfDay cX3_minuteOfDay 1 (some .int) ∈ ww := ww_of (List.mem_of_getElem? (i := 292) (by decide +kernel)) rfl
theorem wC_X3_resetFaces : Cond.code yX3_resetFaces cX3_resetFaces 7 (some .int) ∈ ww := ww_of (List.mem_of_getElem? (i := 296) (by decide +kernel)) rfl
theorem wC_X3_timeOfKeeper : Cond.code yX3_timeOfKeeper cX3_timeOfKeeper 2 (some .int) ∈ ww := ww_of (List.mem_of_getElem? (i := 300) (by decide +kernel)) rfl
theorem wC_X2_placeAt : Cond.code yX2_placeAt cX2_placeAt 4 (some .int) ∈ ww := ww_of (List.mem_of_getElem? (i := 304) (by decide +kernel)) rfl
theorem wC_J9_floorMod_7cf53 : Cond.code yJ9_floorMod_7cf53 cJ9_floorMod_7cf53 3 (some .int) ∈ ww := ww_of (List.mem_of_getElem? (i := 307) (by decide +kernel)) rfl
theorem wC_X5_hire : Cond.code yX5_hire cX5_hire 4 (some .int) ∈ ww := ww_of (List.mem_of_getElem? (i := 312) (by decide +kernel)) rfl
theorem wC_X2_errorOfAdding : Cond.code yX2_errorOfAdding cX2_errorOfAdding 3 (some .int) ∈ ww := ww_of (List.mem_of_getElem? (i := 316) (by decide +kernel)) rfl
theorem wC_X2_hasStart : Cond.code yX2_hasStart cX2_hasStart 3 (some .boolean) ∈ ww := ww_of (List.mem_of_getElem? (i := 321) (by decide +kernel)) rfl
theorem wC_X2_add : Cond.code yX2_add cX2_add 4 none ∈ ww := ww_of (List.mem_of_getElem? (i := 325) (by decide +kernel)) rfl
theorem wC_X5_dismiss : Cond.code yX5_dismiss cX5_dismiss 2 (some .int) ∈ ww := ww_of (List.mem_of_getElem? (i := 329) (by decide +kernel)) rfl
theorem wC_X2_remove : Cond.code yX2_remove cX2_remove 5 (some .int) ∈ ww := ww_of (List.mem_of_getElem? (i := 334) (by decide +kernel)) rfl
theorem wC_X5_reset : Cond.code yX5_reset cX5_reset 1 (some .int) ∈ ww := ww_of (List.mem_of_getElem? (i := 338) (by decide +kernel)) rfl
theorem wC_X5_spreadIn : Cond.code yX5_spreadIn cX5_spreadIn 2 (some .int) ∈ ww := ww_of (List.mem_of_getElem? (i := 343) (by decide +kernel)) rfl
theorem wC_X3_spread : Cond.code yX3_spread cX3_spread 10 (some .int) ∈ ww := ww_of (List.mem_of_getElem? (i := 348) (by decide +kernel)) rfl
theorem wC_X5_minutesTo : Cond.code yX5_minutesTo cX5_minutesTo 3 (some .int) ∈ ww := ww_of (List.mem_of_getElem? (i := 353) (by decide +kernel)) rfl
theorem wC_X5_bestOil : Cond.code yX5_bestOil cX5_bestOil 5 (some .int) ∈ ww := ww_of (List.mem_of_getElem? (i := 358) (by decide +kernel)) rfl
theorem wC_X5_errorAfterOil : Cond.code yX5_errorAfterOil cX5_errorAfterOil 3 (some .int) ∈ ww := ww_of (List.mem_of_getElem? (i := 362) (by decide +kernel)) rfl
theorem wC_X3_distancesFromTime : Cond.code yX3_distancesFromTime cX3_distancesFromTime 6 (some .int) ∈ ww := ww_of (List.mem_of_getElem? (i := 366) (by decide +kernel)) rfl
theorem wC_L_cell : Cond.code yL_cell cL_cell 2 (some .int) ∈ ww := ww_of (List.mem_of_getElem? (i := 369) (by decide +kernel)) rfl
theorem wC_L_low : Cond.code yL_low cL_low 2 (some .int) ∈ ww := ww_of (List.mem_of_getElem? (i := 374) (by decide +kernel)) rfl
theorem wC_L_apart : Cond.code yL_apart cL_apart 3 (some .int) ∈ ww := ww_of (List.mem_of_getElem? (i := 378) (by decide +kernel)) rfl
theorem wC_L_reset : Cond.code yL_reset cL_reset 6 (some .int) ∈ ww := ww_of (List.mem_of_getElem? (i := 381) (by decide +kernel)) rfl
theorem wC_L_keeperTime : Cond.code yL_keeperTime cL_keeperTime 2 (some .int) ∈ ww := ww_of (List.mem_of_getElem? (i := 384) (by decide +kernel)) rfl
theorem wC_L_watch : Cond.code yL_watch cL_watch 5 (some .int) ∈ ww := ww_of (List.mem_of_getElem? (i := 387) (by decide +kernel)) rfl
theorem wC_L_minute : Cond.code yL_minute cL_minute 7 (some .int) ∈ ww := ww_of (List.mem_of_getElem? (i := 390) (by decide +kernel)) rfl
theorem wC_L_spread : Cond.code yL_spread cL_spread 4 (some .int) ∈ ww := ww_of (List.mem_of_getElem? (i := 393) (by decide +kernel)) rfl
theorem wC_L_copy : Cond.code yL_copy cL_copy 3 (some (.array .int)) ∈ ww := ww_of (List.mem_of_getElem? (i := 396) (by decide +kernel)) rfl
theorem wC_L_tower : Cond.code yL_tower cL_tower 12 (some .boolean) ∈ ww := ww_of (List.mem_of_getElem? (i := 399) (by decide +kernel)) rfl
theorem wC_X5_face : Cond.code yX5_face cX5_face 4 (some .int) ∈ ww := ww_of (List.mem_of_getElem? (i := 403) (by decide +kernel)) rfl
theorem wC_X5_keeper : Cond.code yX5_keeper cX5_keeper 4 (some .int) ∈ ww := ww_of (List.mem_of_getElem? (i := 407) (by decide +kernel)) rfl
theorem wC_X2_minutesToNext : Cond.code yX2_minutesToNext cX2_minutesToNext 3 (some .int) ∈ ww := ww_of (List.mem_of_getElem? (i := 412) (by decide +kernel)) rfl
theorem wC_X5_keeperTime : Cond.code yX5_keeperTime cX5_keeperTime 1 (some .int) ∈ ww := ww_of (List.mem_of_getElem? (i := 418) (by decide +kernel)) rfl
theorem wC_X5_majority : Cond.code yX5_majority cX5_majority 8 (some .int) ∈ ww := ww_of (List.mem_of_getElem? (i := 423) (by decide +kernel)) rfl
theorem wC_X3_facesWithDial : Cond.code yX3_facesWithDial cX3_facesWithDial 7 (some .int) ∈ ww := ww_of (List.mem_of_getElem? (i := 427) (by decide +kernel)) rfl
theorem wC_X5_total : Cond.code yX5_total cX5_total 2 (some .int) ∈ ww := ww_of (List.mem_of_getElem? (i := 431) (by decide +kernel)) rfl
theorem wC_X3_slipsOfGears : Cond.code yX3_slipsOfGears cX3_slipsOfGears 6 (some .int) ∈ ww := ww_of (List.mem_of_getElem? (i := 436) (by decide +kernel)) rfl
theorem wC_X3_strikesOfBells : Cond.code yX3_strikesOfBells cX3_strikesOfBells 6 (some .int) ∈ ww := ww_of (List.mem_of_getElem? (i := 440) (by decide +kernel)) rfl
theorem wC_L_sum : Cond.code yL_sum cL_sum 2 (some .int) ∈ ww := ww_of (List.mem_of_getElem? (i := 443) (by decide +kernel)) rfl
theorem wC_X5_setting : Cond.code yX5_setting cX5_setting 2 (some .int) ∈ ww := ww_of (List.mem_of_getElem? (i := 447) (by decide +kernel)) rfl
theorem wC_L_bells : Cond.code yL_bells cL_bells 6 (some .boolean) ∈ ww := ww_of (List.mem_of_getElem? (i := 450) (by decide +kernel)) rfl
theorem wC_X5_coming : Cond.code yX5_coming cX5_coming 7 (some .int) ∈ ww := ww_of (List.mem_of_getElem? (i := 454) (by decide +kernel)) rfl
theorem wC_X3_bells : Cond.code yX3_bells cX3_bells 6 (some .int) ∈ ww := ww_of (List.mem_of_getElem? (i := 458) (by decide +kernel)) rfl
theorem wC_X3_faceOfBellInRound : Cond.code yX3_faceOfBellInRound cX3_faceOfBellInRound 6 (some .int) ∈ ww := ww_of (List.mem_of_getElem? (i := 462) (by decide +kernel)) rfl
theorem wC_X0_minutesToHour : Cond.code yX0_minutesToHour cX0_minutesToHour 1 (some .int) ∈ ww := ww_of (List.mem_of_getElem? (i := 466) (by decide +kernel)) rfl
theorem wI_RL : Cond.initialized RL ∈ ww := ww_of (List.mem_of_getElem? (i := 3) (by decide +kernel)) rfl
theorem wI_RX5 : Cond.initialized RX5 ∈ ww := ww_of (List.mem_of_getElem? (i := 4) (by decide +kernel)) rfl
theorem wI_RX3 : Cond.initialized RX3 ∈ ww := ww_of (List.mem_of_getElem? (i := 5) (by decide +kernel)) rfl
theorem wI_RX2 : Cond.initialized RX2 ∈ ww := ww_of (List.mem_of_getElem? (i := 6) (by decide +kernel)) rfl
theorem wI_RX0 : Cond.initialized RX0 ∈ ww := ww_of (List.mem_of_getElem? (i := 7) (by decide +kernel)) rfl
theorem wI_RJ10 : Cond.initialized RJ10 ∈ ww := ww_of (List.mem_of_getElem? (i := 8) (by decide +kernel)) rfl
theorem wI_RX1 : Cond.initialized RX1 ∈ ww := ww_of (List.mem_of_getElem? (i := 9) (by decide +kernel)) rfl
theorem wI_RX4 : Cond.initialized RX4 ∈ ww := ww_of (List.mem_of_getElem? (i := 10) (by decide +kernel)) rfl
theorem wI_RJ9 : Cond.initialized RJ9 ∈ ww := ww_of (List.mem_of_getElem? (i := 11) (by decide +kernel)) rfl
theorem yf_X5_init : yfc yX5_init cX5_init 1 none 0 := ⟨wC_X5_init, wI_RX5, by decide +kernel⟩
theorem yf_X3_init : yfc yX3_init cX3_init 2 none 0 := ⟨wC_X3_init, wI_RX3, by decide +kernel⟩
theorem yf_X2_init : yfc yX2_init cX2_init 1 none 0 := ⟨wC_X2_init, wI_RX2, by decide +kernel⟩
theorem yf_X0_init : yfc yX0_init cX0_init 2 none 1 := ⟨wC_X0_init, wI_RX0, by decide +kernel⟩
theorem yf_X1_init : yfc yX1_init cX1_init 2 none 0 := ⟨wC_X1_init, wI_RX1, by decide +kernel⟩
theorem yf_X4_init : yfc yX4_init cX4_init 1 none 0 := ⟨wC_X4_init, wI_RX4, by decide +kernel⟩
theorem yf_X5_set : yfc yX5_set cX5_set 4 (some .int) 2 := ⟨wC_X5_set, wI_RX5, by decide +kernel⟩
theorem yf_X5_isSetting : yfc yX5_isSetting cX5_isSetting 1 (some .boolean) 1 := ⟨wC_X5_isSetting, wI_RX5, by decide +kernel⟩
theorem yf_X5_isWithin : yfc yX5_isWithin cX5_isWithin 3 (some .boolean) 3 := ⟨wC_X5_isWithin, wI_RX5, by decide +kernel⟩
theorem yf_X1_record : yfc yX1_record cX1_record 2 none 1 := ⟨wC_X1_record, wI_RX1, by decide +kernel⟩
theorem yf_X3_copyFrom : yfc yX3_copyFrom cX3_copyFrom 3 none 1 := ⟨wC_X3_copyFrom, wI_RX3, by decide +kernel⟩
theorem yf_X0_copyFrom : yfc yX0_copyFrom cX0_copyFrom 2 none 1 := ⟨wC_X0_copyFrom, wI_RX0, by decide +kernel⟩
theorem yf_X2_copyFrom : yfc yX2_copyFrom cX2_copyFrom 2 none 1 := ⟨wC_X2_copyFrom, wI_RX2, by decide +kernel⟩
theorem yf_X5_gear : yfc yX5_gear cX5_gear 5 (some .int) 2 := ⟨wC_X5_gear, wI_RX5, by decide +kernel⟩
theorem yf_X3_faceAt : yfc yX3_faceAt cX3_faceAt 2 (some (.object "TowerFaces$Face")) 1 := ⟨wC_X3_faceAt, wI_RX3, by decide +kernel⟩
theorem yf_X5_oil : yfc yX5_oil cX5_oil 3 (some .int) 1 := ⟨wC_X5_oil, wI_RX5, by decide +kernel⟩
theorem yf_X0_takeOil : yfc yX0_takeOil cX0_takeOil 1 none 0 := ⟨wC_X0_takeOil, wI_RX0, by decide +kernel⟩
theorem yf_X5_dial : yfc yX5_dial cX5_dial 5 (some .int) 2 := ⟨wC_X5_dial, wI_RX5, by decide +kernel⟩
theorem yf_X5_distance : yfc yX5_distance cX5_distance 3 (some .int) 2 := ⟨wC_X5_distance, wI_RX5, by decide +kernel⟩
theorem yf_X5_bell : yfc yX5_bell cX5_bell 3 (some .int) 1 := ⟨wC_X5_bell, wI_RX5, by decide +kernel⟩
theorem yf_X5_pass : yfc yX5_pass cX5_pass 3 (some .int) 1 := ⟨wC_X5_pass, wI_RX5, by decide +kernel⟩
theorem yf_X3_errorOfPassing : yfc yX3_errorOfPassing cX3_errorOfPassing 2 (some .int) 1 := ⟨wC_X3_errorOfPassing, wI_RX3, by decide +kernel⟩
theorem yf_X3_passMinutes : yfc yX3_passMinutes cX3_passMinutes 4 (some .int) 1 := ⟨wC_X3_passMinutes, wI_RX3, by decide +kernel⟩
theorem yf_X3_passMinute : yfc yX3_passMinute cX3_passMinute 6 (some .int) 0 := ⟨wC_X3_passMinute, wI_RX3, by decide +kernel⟩
theorem yf_X0_passMinute : yfc yX0_passMinute cX0_passMinute 3 (some .int) 1 := ⟨wC_X0_passMinute, wI_RX0, by decide +kernel⟩
theorem yf_X0_slip : yfc yX0_slip cX0_slip 1 none 0 := ⟨wC_X0_slip, wI_RX0, by decide +kernel⟩
theorem yf_X5_strikesAt : yfc yX5_strikesAt cX5_strikesAt 1 (some .int) 1 := ⟨wC_X5_strikesAt, wI_RX5, by decide +kernel⟩
theorem yf_X3_strainShaft : yfc yX3_strainShaft cX3_strainShaft 5 none 0 := ⟨wC_X3_strainShaft, wI_RX3, by decide +kernel⟩
theorem yf_X0_goBack : yfc yX0_goBack cX0_goBack 1 none 0 := ⟨wC_X0_goBack, wI_RX0, by decide +kernel⟩
theorem yf_X3_minuteOfDay : yfc yX3_minuteOfDay cX3_minuteOfDay 1 (some .int) 0 := ⟨wC_X3_minuteOfDay, wI_RX3, by decide +kernel⟩
theorem yf_X3_resetFaces : yfc yX3_resetFaces cX3_resetFaces 7 (some .int) 0 := ⟨wC_X3_resetFaces, wI_RX3, by decide +kernel⟩
theorem yf_X3_timeOfKeeper : yfc yX3_timeOfKeeper cX3_timeOfKeeper 2 (some .int) 0 := ⟨wC_X3_timeOfKeeper, wI_RX3, by decide +kernel⟩
theorem yf_X2_placeAt : yfc yX2_placeAt cX2_placeAt 4 (some .int) 1 := ⟨wC_X2_placeAt, wI_RX2, by decide +kernel⟩
theorem yf_J9_floorMod_7cf53 : yfc yJ9_floorMod_7cf53 cJ9_floorMod_7cf53 3 (some .int) 2 := ⟨wC_J9_floorMod_7cf53, wI_RJ9, by decide +kernel⟩
theorem yf_X5_hire : yfc yX5_hire cX5_hire 4 (some .int) 2 := ⟨wC_X5_hire, wI_RX5, by decide +kernel⟩
theorem yf_X2_errorOfAdding : yfc yX2_errorOfAdding cX2_errorOfAdding 3 (some .int) 2 := ⟨wC_X2_errorOfAdding, wI_RX2, by decide +kernel⟩
theorem yf_X2_hasStart : yfc yX2_hasStart cX2_hasStart 3 (some .boolean) 1 := ⟨wC_X2_hasStart, wI_RX2, by decide +kernel⟩
theorem yf_X2_add : yfc yX2_add cX2_add 4 none 2 := ⟨wC_X2_add, wI_RX2, by decide +kernel⟩
theorem yf_X5_dismiss : yfc yX5_dismiss cX5_dismiss 2 (some .int) 1 := ⟨wC_X5_dismiss, wI_RX5, by decide +kernel⟩
theorem yf_X2_remove : yfc yX2_remove cX2_remove 5 (some .int) 1 := ⟨wC_X2_remove, wI_RX2, by decide +kernel⟩
theorem yf_X5_reset : yfc yX5_reset cX5_reset 1 (some .int) 0 := ⟨wC_X5_reset, wI_RX5, by decide +kernel⟩
theorem yf_X5_spreadIn : yfc yX5_spreadIn cX5_spreadIn 2 (some .int) 1 := ⟨wC_X5_spreadIn, wI_RX5, by decide +kernel⟩
theorem yf_X3_spread : yfc yX3_spread cX3_spread 10 (some .int) 0 := ⟨wC_X3_spread, wI_RX3, by decide +kernel⟩
theorem yf_X5_minutesTo : yfc yX5_minutesTo cX5_minutesTo 3 (some .int) 1 := ⟨wC_X5_minutesTo, wI_RX5, by decide +kernel⟩
theorem yf_X5_bestOil : yfc yX5_bestOil cX5_bestOil 5 (some .int) 0 := ⟨wC_X5_bestOil, wI_RX5, by decide +kernel⟩
theorem yf_X5_errorAfterOil : yfc yX5_errorAfterOil cX5_errorAfterOil 3 (some .int) 1 := ⟨wC_X5_errorAfterOil, wI_RX5, by decide +kernel⟩
theorem yf_X3_distancesFromTime : yfc yX3_distancesFromTime cX3_distancesFromTime 6 (some .int) 0 := ⟨wC_X3_distancesFromTime, wI_RX3, by decide +kernel⟩
theorem yf_L_cell : yfc yL_cell cL_cell 2 (some .int) 2 := ⟨wC_L_cell, wI_RL, by decide +kernel⟩
theorem yf_L_low : yfc yL_low cL_low 2 (some .int) 2 := ⟨wC_L_low, wI_RL, by decide +kernel⟩
theorem yf_L_apart : yfc yL_apart cL_apart 3 (some .int) 2 := ⟨wC_L_apart, wI_RL, by decide +kernel⟩
theorem yf_L_reset : yfc yL_reset cL_reset 6 (some .int) 3 := ⟨wC_L_reset, wI_RL, by decide +kernel⟩
theorem yf_L_keeperTime : yfc yL_keeperTime cL_keeperTime 2 (some .int) 2 := ⟨wC_L_keeperTime, wI_RL, by decide +kernel⟩
theorem yf_L_watch : yfc yL_watch cL_watch 5 (some .int) 3 := ⟨wC_L_watch, wI_RL, by decide +kernel⟩
theorem yf_L_minute : yfc yL_minute cL_minute 7 (some .int) 3 := ⟨wC_L_minute, wI_RL, by decide +kernel⟩
theorem yf_L_spread : yfc yL_spread cL_spread 4 (some .int) 1 := ⟨wC_L_spread, wI_RL, by decide +kernel⟩
theorem yf_L_copy : yfc yL_copy cL_copy 3 (some (.array .int)) 2 := ⟨wC_L_copy, wI_RL, by decide +kernel⟩
theorem yf_L_tower : yfc yL_tower cL_tower 12 (some .boolean) 5 := ⟨wC_L_tower, wI_RL, by decide +kernel⟩
theorem yf_X5_face : yfc yX5_face cX5_face 4 (some .int) 2 := ⟨wC_X5_face, wI_RX5, by decide +kernel⟩
theorem yf_X5_keeper : yfc yX5_keeper cX5_keeper 4 (some .int) 2 := ⟨wC_X5_keeper, wI_RX5, by decide +kernel⟩
theorem yf_X2_minutesToNext : yfc yX2_minutesToNext cX2_minutesToNext 3 (some .int) 1 := ⟨wC_X2_minutesToNext, wI_RX2, by decide +kernel⟩
theorem yf_X5_keeperTime : yfc yX5_keeperTime cX5_keeperTime 1 (some .int) 0 := ⟨wC_X5_keeperTime, wI_RX5, by decide +kernel⟩
theorem yf_X5_majority : yfc yX5_majority cX5_majority 8 (some .int) 0 := ⟨wC_X5_majority, wI_RX5, by decide +kernel⟩
theorem yf_X3_facesWithDial : yfc yX3_facesWithDial cX3_facesWithDial 7 (some .int) 1 := ⟨wC_X3_facesWithDial, wI_RX3, by decide +kernel⟩
theorem yf_X5_total : yfc yX5_total cX5_total 2 (some .int) 1 := ⟨wC_X5_total, wI_RX5, by decide +kernel⟩
theorem yf_X3_slipsOfGears : yfc yX3_slipsOfGears cX3_slipsOfGears 6 (some .int) 0 := ⟨wC_X3_slipsOfGears, wI_RX3, by decide +kernel⟩
theorem yf_X3_strikesOfBells : yfc yX3_strikesOfBells cX3_strikesOfBells 6 (some .int) 0 := ⟨wC_X3_strikesOfBells, wI_RX3, by decide +kernel⟩
theorem yf_L_sum : yfc yL_sum cL_sum 2 (some .int) 2 := ⟨wC_L_sum, wI_RL, by decide +kernel⟩
theorem yf_X5_setting : yfc yX5_setting cX5_setting 2 (some .int) 1 := ⟨wC_X5_setting, wI_RX5, by decide +kernel⟩
theorem yf_L_bells : yfc yL_bells cL_bells 6 (some .boolean) 2 := ⟨wC_L_bells, wI_RL, by decide +kernel⟩
theorem yf_X5_coming : yfc yX5_coming cX5_coming 7 (some .int) 2 := ⟨wC_X5_coming, wI_RX5, by decide +kernel⟩
theorem yf_X3_bells : yfc yX3_bells cX3_bells 6 (some .int) 0 := ⟨wC_X3_bells, wI_RX3, by decide +kernel⟩
theorem yf_X3_faceOfBellInRound : yfc yX3_faceOfBellInRound cX3_faceOfBellInRound 6 (some .int) 1 := ⟨wC_X3_faceOfBellInRound, wI_RX3, by decide +kernel⟩
theorem yf_X0_minutesToHour : yfc yX0_minutesToHour cX0_minutesToHour 1 (some .int) 0 := ⟨wC_X0_minutesToHour, wI_RX0, by decide +kernel⟩
theorem yl_X0_slip : Cond.selects RX0 yX0_slip yX0_slip ∈ ww := ww_of (List.mem_of_getElem? (i := 0) (by decide +kernel)) rfl
theorem yl_X3_strainShaft : Cond.selects RX3 yX3_strainShaft yX3_strainShaft ∈ ww := ww_of (List.mem_of_getElem? (i := 1) (by decide +kernel)) rfl
theorem yl_X5_errorAfterOil : Cond.selects RX5 yX5_errorAfterOil yX5_errorAfterOil ∈ ww := ww_of (List.mem_of_getElem? (i := 2) (by decide +kernel)) rfl
theorem wK_L_29 : Cond.classLink RL 29 RX5 ∈ ww := ww_of (List.mem_of_getElem? (i := 12) (by decide +kernel)) rfl
theorem wN_RX5 : Cond.instantiable RX5 6 ∈ ww := ww_of (List.mem_of_getElem? (i := 13) (by decide +kernel)) rfl
theorem wM_L_63 : Cond.methodLink RL 63 yX5_init ∈ ww := ww_of (List.mem_of_getElem? (i := 14) (by decide +kernel)) rfl
theorem yo_X5_init : Cond.instanceMethod yX5_init ∈ ww := ww_of (List.mem_of_getElem? (i := 15) (by decide +kernel)) rfl
theorem wM_X5_1 : Cond.methodLink RX5 1 objectInit ∈ ww := ww_of (List.mem_of_getElem? (i := 17) (by decide +kernel)) rfl
theorem yo_objectInit : Cond.instanceMethod objectInit ∈ ww := ww_of (List.mem_of_getElem? (i := 18) (by decide +kernel)) rfl
theorem wK_X5_7 : Cond.classLink RX5 7 RX3 ∈ ww := ww_of (List.mem_of_getElem? (i := 20) (by decide +kernel)) rfl
theorem wN_RX3 : Cond.instantiable RX3 7 ∈ ww := ww_of (List.mem_of_getElem? (i := 21) (by decide +kernel)) rfl
theorem wM_X5_9 : Cond.methodLink RX5 9 yX3_init ∈ ww := ww_of (List.mem_of_getElem? (i := 22) (by decide +kernel)) rfl
theorem yo_X3_init : Cond.instanceMethod yX3_init ∈ ww := ww_of (List.mem_of_getElem? (i := 23) (by decide +kernel)) rfl
theorem wM_X3_3 : Cond.methodLink RX3 3 objectInit ∈ ww := ww_of (List.mem_of_getElem? (i := 25) (by decide +kernel)) rfl
theorem wK_X3_9 : Cond.classLink RX3 9 RX0 ∈ ww := ww_of (List.mem_of_getElem? (i := 26) (by decide +kernel)) rfl
theorem wK_X3_17 : Cond.classLink RX3 17 RX2 ∈ ww := ww_of (List.mem_of_getElem? (i := 28) (by decide +kernel)) rfl
theorem wN_RX2 : Cond.instantiable RX2 3 ∈ ww := ww_of (List.mem_of_getElem? (i := 29) (by decide +kernel)) rfl
theorem yo_X2_init : Cond.instanceMethod yX2_init ∈ ww := ww_of (List.mem_of_getElem? (i := 31) (by decide +kernel)) rfl
theorem wM_X2_3 : Cond.methodLink RX2 3 objectInit ∈ ww := ww_of (List.mem_of_getElem? (i := 33) (by decide +kernel)) rfl
theorem wF_X2_9 : Cond.fieldLink RX2 9 "TowerFaces$Keepers" "starts" "[I" ∈ ww := ww_of (List.mem_of_getElem? (i := 34) (by decide +kernel)) rfl
theorem wF_X5_124 : Cond.fieldLink RX5 124 "TowerFaces$Keepers" "starts" "[I" ∈ ww := ww_of (List.mem_of_getElem? (i := 35) (by decide +kernel)) rfl
theorem wF_X2_15 : Cond.fieldLink RX2 15 "TowerFaces$Keepers" "wrongs" "[I" ∈ ww := ww_of (List.mem_of_getElem? (i := 36) (by decide +kernel)) rfl
theorem wF_X3_90 : Cond.fieldLink RX3 90 "TowerFaces$Keepers" "wrongs" "[I" ∈ ww := ww_of (List.mem_of_getElem? (i := 37) (by decide +kernel)) rfl
theorem wF_X5_127 : Cond.fieldLink RX5 127 "TowerFaces$Keepers" "wrongs" "[I" ∈ ww := ww_of (List.mem_of_getElem? (i := 38) (by decide +kernel)) rfl
theorem wF_X2_24 : Cond.fieldLink RX2 24 "TowerFaces$Keepers" "count" "I" ∈ ww := ww_of (List.mem_of_getElem? (i := 39) (by decide +kernel)) rfl
theorem wF_X5_108 : Cond.fieldLink RX5 108 "TowerFaces$Keepers" "count" "I" ∈ ww := ww_of (List.mem_of_getElem? (i := 40) (by decide +kernel)) rfl
theorem wN_RX0 : Cond.instantiable RX0 7 ∈ ww := ww_of (List.mem_of_getElem? (i := 49) (by decide +kernel)) rfl
theorem wM_X3_28 : Cond.methodLink RX3 28 yX0_init ∈ ww := ww_of (List.mem_of_getElem? (i := 50) (by decide +kernel)) rfl
theorem yo_X0_init : Cond.instanceMethod yX0_init ∈ ww := ww_of (List.mem_of_getElem? (i := 51) (by decide +kernel)) rfl
theorem wM_X0_3 : Cond.methodLink RX0 3 objectInit ∈ ww := ww_of (List.mem_of_getElem? (i := 53) (by decide +kernel)) rfl
theorem wF_X0_19 : Cond.fieldLink RX0 19 "TowerFaces$Face" "dial" "I" ∈ ww := ww_of (List.mem_of_getElem? (i := 54) (by decide +kernel)) rfl
theorem wF_X5_77 : Cond.fieldLink RX5 77 "TowerFaces$Face" "dial" "I" ∈ ww := ww_of (List.mem_of_getElem? (i := 55) (by decide +kernel)) rfl
theorem wF_X3_102 : Cond.fieldLink RX3 102 "TowerFaces$Face" "dial" "I" ∈ ww := ww_of (List.mem_of_getElem? (i := 56) (by decide +kernel)) rfl
theorem wF_X0_9 : Cond.fieldLink RX0 9 "TowerFaces$Face" "teeth" "I" ∈ ww := ww_of (List.mem_of_getElem? (i := 57) (by decide +kernel)) rfl
theorem wF_X5_62 : Cond.fieldLink RX5 62 "TowerFaces$Face" "teeth" "I" ∈ ww := ww_of (List.mem_of_getElem? (i := 58) (by decide +kernel)) rfl
theorem wF_X0_22 : Cond.fieldLink RX0 22 "TowerFaces$Face" "strain" "I" ∈ ww := ww_of (List.mem_of_getElem? (i := 59) (by decide +kernel)) rfl
theorem wF_X5_68 : Cond.fieldLink RX5 68 "TowerFaces$Face" "strain" "I" ∈ ww := ww_of (List.mem_of_getElem? (i := 60) (by decide +kernel)) rfl
theorem wF_X3_108 : Cond.fieldLink RX3 108 "TowerFaces$Face" "strain" "I" ∈ ww := ww_of (List.mem_of_getElem? (i := 61) (by decide +kernel)) rfl
theorem wF_X0_25 : Cond.fieldLink RX0 25 "TowerFaces$Face" "wear" "I" ∈ ww := ww_of (List.mem_of_getElem? (i := 62) (by decide +kernel)) rfl
theorem wF_X5_74 : Cond.fieldLink RX5 74 "TowerFaces$Face" "wear" "I" ∈ ww := ww_of (List.mem_of_getElem? (i := 63) (by decide +kernel)) rfl
theorem wF_X3_81 : Cond.fieldLink RX3 81 "TowerFaces$Face" "wear" "I" ∈ ww := ww_of (List.mem_of_getElem? (i := 64) (by decide +kernel)) rfl
theorem wF_X0_28 : Cond.fieldLink RX0 28 "TowerFaces$Face" "slips" "I" ∈ ww := ww_of (List.mem_of_getElem? (i := 65) (by decide +kernel)) rfl
theorem wF_X3_111 : Cond.fieldLink RX3 111 "TowerFaces$Face" "slips" "I" ∈ ww := ww_of (List.mem_of_getElem? (i := 66) (by decide +kernel)) rfl
theorem wF_X5_136 : Cond.fieldLink RX5 136 "TowerFaces$Face" "slips" "I" ∈ ww := ww_of (List.mem_of_getElem? (i := 67) (by decide +kernel)) rfl
theorem wF_X0_15 : Cond.fieldLink RX0 15 "TowerFaces$Face" "hasBell" "Z" ∈ ww := ww_of (List.mem_of_getElem? (i := 68) (by decide +kernel)) rfl
theorem wF_X5_84 : Cond.fieldLink RX5 84 "TowerFaces$Face" "hasBell" "Z" ∈ ww := ww_of (List.mem_of_getElem? (i := 69) (by decide +kernel)) rfl
theorem wF_X3_120 : Cond.fieldLink RX3 120 "TowerFaces$Face" "hasBell" "Z" ∈ ww := ww_of (List.mem_of_getElem? (i := 70) (by decide +kernel)) rfl
theorem wF_X0_31 : Cond.fieldLink RX0 31 "TowerFaces$Face" "strikes" "I" ∈ ww := ww_of (List.mem_of_getElem? (i := 71) (by decide +kernel)) rfl
theorem wF_X3_114 : Cond.fieldLink RX3 114 "TowerFaces$Face" "strikes" "I" ∈ ww := ww_of (List.mem_of_getElem? (i := 72) (by decide +kernel)) rfl
theorem wF_X5_139 : Cond.fieldLink RX5 139 "TowerFaces$Face" "strikes" "I" ∈ ww := ww_of (List.mem_of_getElem? (i := 73) (by decide +kernel)) rfl
theorem wM_X3_34 : Cond.methodLink RX3 34 arraycopyName ∈ ww := ww_of (List.mem_of_getElem? (i := 91) (by decide +kernel)) rfl
theorem ys_arraycopyName : Cond.static arraycopyName ∈ ww := ww_of (List.mem_of_getElem? (i := 92) (by decide +kernel)) rfl
theorem yv_arraycopy : Cond.native arraycopyName ∈ ww := ww_of (List.mem_of_getElem? (i := 93) (by decide +kernel)) rfl
theorem wF_X3_11 : Cond.fieldLink RX3 11 "TowerFaces$Tower" "faces" "[LTowerFaces$Face;" ∈ ww := ww_of (List.mem_of_getElem? (i := 94) (by decide +kernel)) rfl
theorem wF_X5_166 : Cond.fieldLink RX5 166 "TowerFaces$Tower" "faces" "[LTowerFaces$Face;" ∈ ww := ww_of (List.mem_of_getElem? (i := 95) (by decide +kernel)) rfl
theorem wF_X3_20 : Cond.fieldLink RX3 20 "TowerFaces$Tower" "keepers" "LTowerFaces$Keepers;" ∈ ww := ww_of (List.mem_of_getElem? (i := 96) (by decide +kernel)) rfl
theorem wF_X5_95 : Cond.fieldLink RX5 95 "TowerFaces$Tower" "keepers" "LTowerFaces$Keepers;" ∈ ww := ww_of (List.mem_of_getElem? (i := 97) (by decide +kernel)) rfl
theorem wF_X3_24 : Cond.fieldLink RX3 24 "TowerFaces$Tower" "settings" "[I" ∈ ww := ww_of (List.mem_of_getElem? (i := 98) (by decide +kernel)) rfl
theorem wF_X5_55 : Cond.fieldLink RX5 55 "TowerFaces$Tower" "settings" "[I" ∈ ww := ww_of (List.mem_of_getElem? (i := 99) (by decide +kernel)) rfl
theorem wF_X3_47 : Cond.fieldLink RX3 47 "TowerFaces$Tower" "time" "I" ∈ ww := ww_of (List.mem_of_getElem? (i := 100) (by decide +kernel)) rfl
theorem wF_X5_142 : Cond.fieldLink RX5 142 "TowerFaces$Tower" "time" "I" ∈ ww := ww_of (List.mem_of_getElem? (i := 101) (by decide +kernel)) rfl
theorem wF_X3_51 : Cond.fieldLink RX3 51 "TowerFaces$Tower" "shaftStrain" "I" ∈ ww := ww_of (List.mem_of_getElem? (i := 102) (by decide +kernel)) rfl
theorem wF_X5_148 : Cond.fieldLink RX5 148 "TowerFaces$Tower" "shaftStrain" "I" ∈ ww := ww_of (List.mem_of_getElem? (i := 103) (by decide +kernel)) rfl
theorem wF_X3_54 : Cond.fieldLink RX3 54 "TowerFaces$Tower" "shaftSlips" "I" ∈ ww := ww_of (List.mem_of_getElem? (i := 104) (by decide +kernel)) rfl
theorem wF_X5_151 : Cond.fieldLink RX5 151 "TowerFaces$Tower" "shaftSlips" "I" ∈ ww := ww_of (List.mem_of_getElem? (i := 105) (by decide +kernel)) rfl
theorem wF_X3_57 : Cond.fieldLink RX3 57 "TowerFaces$Tower" "facesSet" "I" ∈ ww := ww_of (List.mem_of_getElem? (i := 106) (by decide +kernel)) rfl
theorem wF_X5_160 : Cond.fieldLink RX5 160 "TowerFaces$Tower" "facesSet" "I" ∈ ww := ww_of (List.mem_of_getElem? (i := 107) (by decide +kernel)) rfl
theorem wK_X5_22 : Cond.classLink RX5 22 RX1 ∈ ww := ww_of (List.mem_of_getElem? (i := 123) (by decide +kernel)) rfl
theorem wN_RX1 : Cond.instantiable RX1 3 ∈ ww := ww_of (List.mem_of_getElem? (i := 124) (by decide +kernel)) rfl
theorem wM_X5_24 : Cond.methodLink RX5 24 yX1_init ∈ ww := ww_of (List.mem_of_getElem? (i := 125) (by decide +kernel)) rfl
theorem yo_X1_init : Cond.instanceMethod yX1_init ∈ ww := ww_of (List.mem_of_getElem? (i := 126) (by decide +kernel)) rfl
theorem wM_X1_3 : Cond.methodLink RX1 3 objectInit ∈ ww := ww_of (List.mem_of_getElem? (i := 128) (by decide +kernel)) rfl
theorem wK_X1_9 : Cond.classLink RX1 9 RX3 ∈ ww := ww_of (List.mem_of_getElem? (i := 129) (by decide +kernel)) rfl
theorem wM_X1_17 : Cond.methodLink RX1 17 yX3_init ∈ ww := ww_of (List.mem_of_getElem? (i := 131) (by decide +kernel)) rfl
theorem wF_X1_11 : Cond.fieldLink RX1 11 "TowerFaces$History" "states" "[LTowerFaces$Tower;" ∈ ww := ww_of (List.mem_of_getElem? (i := 132) (by decide +kernel)) rfl
theorem wF_X1_18 : Cond.fieldLink RX1 18 "TowerFaces$History" "latest" "I" ∈ ww := ww_of (List.mem_of_getElem? (i := 133) (by decide +kernel)) rfl
theorem wF_X1_26 : Cond.fieldLink RX1 26 "TowerFaces$History" "count" "I" ∈ ww := ww_of (List.mem_of_getElem? (i := 134) (by decide +kernel)) rfl
theorem wK_X5_29 : Cond.classLink RX5 29 RX4 ∈ ww := ww_of (List.mem_of_getElem? (i := 142) (by decide +kernel)) rfl
theorem wN_RX4 : Cond.instantiable RX4 7 ∈ ww := ww_of (List.mem_of_getElem? (i := 143) (by decide +kernel)) rfl
theorem yo_X4_init : Cond.instanceMethod yX4_init ∈ ww := ww_of (List.mem_of_getElem? (i := 145) (by decide +kernel)) rfl
theorem wM_X4_3 : Cond.methodLink RX4 3 objectInit ∈ ww := ww_of (List.mem_of_getElem? (i := 147) (by decide +kernel)) rfl
theorem wF_X4_9 : Cond.fieldLink RX4 9 "TowerFaces$WorkText" "signs" "[C" ∈ ww := ww_of (List.mem_of_getElem? (i := 148) (by decide +kernel)) rfl
theorem wF_X5_10 : Cond.fieldLink RX5 10 "TowerFaces" "tower" "LTowerFaces$Tower;" ∈ ww := ww_of (List.mem_of_getElem? (i := 165) (by decide +kernel)) rfl
theorem wF_X5_16 : Cond.fieldLink RX5 16 "TowerFaces" "trial" "LTowerFaces$Tower;" ∈ ww := ww_of (List.mem_of_getElem? (i := 166) (by decide +kernel)) rfl
theorem wF_X5_19 : Cond.fieldLink RX5 19 "TowerFaces" "saved" "LTowerFaces$Tower;" ∈ ww := ww_of (List.mem_of_getElem? (i := 167) (by decide +kernel)) rfl
theorem wF_X5_25 : Cond.fieldLink RX5 25 "TowerFaces" "history" "LTowerFaces$History;" ∈ ww := ww_of (List.mem_of_getElem? (i := 168) (by decide +kernel)) rfl
theorem wF_X5_32 : Cond.fieldLink RX5 32 "TowerFaces" "text" "LTowerFaces$WorkText;" ∈ ww := ww_of (List.mem_of_getElem? (i := 169) (by decide +kernel)) rfl
theorem wM_L_87 : Cond.methodLink RL 87 yX5_set ∈ ww := ww_of (List.mem_of_getElem? (i := 183) (by decide +kernel)) rfl
theorem yo_X5_set : Cond.instanceMethod yX5_set ∈ ww := ww_of (List.mem_of_getElem? (i := 184) (by decide +kernel)) rfl
theorem yl_X5_set : Cond.selects RX5 yX5_set yX5_set ∈ ww := ww_of (List.mem_of_getElem? (i := 185) (by decide +kernel)) rfl
theorem wM_X5_36 : Cond.methodLink RX5 36 yX5_isSetting ∈ ww := ww_of (List.mem_of_getElem? (i := 187) (by decide +kernel)) rfl
theorem ys_X5_isSetting : Cond.static yX5_isSetting ∈ ww := ww_of (List.mem_of_getElem? (i := 188) (by decide +kernel)) rfl
theorem wM_X5_47 : Cond.methodLink RX5 47 yX5_isWithin ∈ ww := ww_of (List.mem_of_getElem? (i := 190) (by decide +kernel)) rfl
theorem ys_X5_isWithin : Cond.static yX5_isWithin ∈ ww := ww_of (List.mem_of_getElem? (i := 191) (by decide +kernel)) rfl
theorem wF_X5_40 : Cond.fieldLink RX5 40 "TowerFaces" "LEAST_SETTING" "[I" ∈ ww := ww_of (List.mem_of_getElem? (i := 193) (by decide +kernel)) rfl
theorem wF_X5_44 : Cond.fieldLink RX5 44 "TowerFaces" "MOST_SETTING" "[I" ∈ ww := ww_of (List.mem_of_getElem? (i := 195) (by decide +kernel)) rfl
theorem wM_X5_51 : Cond.methodLink RX5 51 yX1_record ∈ ww := ww_of (List.mem_of_getElem? (i := 197) (by decide +kernel)) rfl
theorem yo_X1_record : Cond.instanceMethod yX1_record ∈ ww := ww_of (List.mem_of_getElem? (i := 198) (by decide +kernel)) rfl
theorem yl_X1_record : Cond.selects RX1 yX1_record yX1_record ∈ ww := ww_of (List.mem_of_getElem? (i := 199) (by decide +kernel)) rfl
theorem wM_X1_22 : Cond.methodLink RX1 22 yX3_copyFrom ∈ ww := ww_of (List.mem_of_getElem? (i := 201) (by decide +kernel)) rfl
theorem yo_X3_copyFrom : Cond.instanceMethod yX3_copyFrom ∈ ww := ww_of (List.mem_of_getElem? (i := 202) (by decide +kernel)) rfl
theorem yl_X3_copyFrom : Cond.selects RX3 yX3_copyFrom yX3_copyFrom ∈ ww := ww_of (List.mem_of_getElem? (i := 203) (by decide +kernel)) rfl
theorem wM_X3_40 : Cond.methodLink RX3 40 yX0_copyFrom ∈ ww := ww_of (List.mem_of_getElem? (i := 205) (by decide +kernel)) rfl
theorem yo_X0_copyFrom : Cond.instanceMethod yX0_copyFrom ∈ ww := ww_of (List.mem_of_getElem? (i := 206) (by decide +kernel)) rfl
theorem yl_X0_copyFrom : Cond.selects RX0 yX0_copyFrom yX0_copyFrom ∈ ww := ww_of (List.mem_of_getElem? (i := 207) (by decide +kernel)) rfl
theorem wM_X3_44 : Cond.methodLink RX3 44 yX2_copyFrom ∈ ww := ww_of (List.mem_of_getElem? (i := 209) (by decide +kernel)) rfl
theorem yo_X2_copyFrom : Cond.instanceMethod yX2_copyFrom ∈ ww := ww_of (List.mem_of_getElem? (i := 210) (by decide +kernel)) rfl
theorem yl_X2_copyFrom : Cond.selects RX2 yX2_copyFrom yX2_copyFrom ∈ ww := ww_of (List.mem_of_getElem? (i := 211) (by decide +kernel)) rfl
theorem wM_X2_18 : Cond.methodLink RX2 18 arraycopyName ∈ ww := ww_of (List.mem_of_getElem? (i := 213) (by decide +kernel)) rfl
theorem wM_X1_29 : Cond.methodLink RX1 29 Lib.Math.min.name ∈ ww := ww_of (List.mem_of_getElem? (i := 214) (by decide +kernel)) rfl
theorem ys_min : Cond.static Lib.Math.min.name ∈ ww := ww_of (List.mem_of_getElem? (i := 215) (by decide +kernel)) rfl
theorem wM_L_67 : Cond.methodLink RL 67 yX5_gear ∈ ww := ww_of (List.mem_of_getElem? (i := 217) (by decide +kernel)) rfl
theorem yo_X5_gear : Cond.instanceMethod yX5_gear ∈ ww := ww_of (List.mem_of_getElem? (i := 218) (by decide +kernel)) rfl
theorem yl_X5_gear : Cond.selects RX5 yX5_gear yX5_gear ∈ ww := ww_of (List.mem_of_getElem? (i := 219) (by decide +kernel)) rfl
theorem wM_X5_58 : Cond.methodLink RX5 58 yX3_faceAt ∈ ww := ww_of (List.mem_of_getElem? (i := 221) (by decide +kernel)) rfl
theorem yo_X3_faceAt : Cond.instanceMethod yX3_faceAt ∈ ww := ww_of (List.mem_of_getElem? (i := 222) (by decide +kernel)) rfl
theorem yl_X3_faceAt : Cond.selects RX3 yX3_faceAt yX3_faceAt ∈ ww := ww_of (List.mem_of_getElem? (i := 223) (by decide +kernel)) rfl
theorem wM_L_70 : Cond.methodLink RL 70 yX5_oil ∈ ww := ww_of (List.mem_of_getElem? (i := 226) (by decide +kernel)) rfl
theorem yo_X5_oil : Cond.instanceMethod yX5_oil ∈ ww := ww_of (List.mem_of_getElem? (i := 227) (by decide +kernel)) rfl
theorem yl_X5_oil : Cond.selects RX5 yX5_oil yX5_oil ∈ ww := ww_of (List.mem_of_getElem? (i := 228) (by decide +kernel)) rfl
theorem wM_X5_71 : Cond.methodLink RX5 71 yX0_takeOil ∈ ww := ww_of (List.mem_of_getElem? (i := 230) (by decide +kernel)) rfl
theorem yo_X0_takeOil : Cond.instanceMethod yX0_takeOil ∈ ww := ww_of (List.mem_of_getElem? (i := 231) (by decide +kernel)) rfl
theorem yl_X0_takeOil : Cond.selects RX0 yX0_takeOil yX0_takeOil ∈ ww := ww_of (List.mem_of_getElem? (i := 232) (by decide +kernel)) rfl
theorem wM_X0_34 : Cond.methodLink RX0 34 Lib.Math.max.name ∈ ww := ww_of (List.mem_of_getElem? (i := 234) (by decide +kernel)) rfl
theorem ys_max : Cond.static Lib.Math.max.name ∈ ww := ww_of (List.mem_of_getElem? (i := 235) (by decide +kernel)) rfl
theorem wM_L_73 : Cond.methodLink RL 73 yX5_dial ∈ ww := ww_of (List.mem_of_getElem? (i := 237) (by decide +kernel)) rfl
theorem yo_X5_dial : Cond.instanceMethod yX5_dial ∈ ww := ww_of (List.mem_of_getElem? (i := 238) (by decide +kernel)) rfl
theorem yl_X5_dial : Cond.selects RX5 yX5_dial yX5_dial ∈ ww := ww_of (List.mem_of_getElem? (i := 239) (by decide +kernel)) rfl
theorem wM_X5_80 : Cond.methodLink RX5 80 yX5_distance ∈ ww := ww_of (List.mem_of_getElem? (i := 241) (by decide +kernel)) rfl
theorem ys_X5_distance : Cond.static yX5_distance ∈ ww := ww_of (List.mem_of_getElem? (i := 242) (by decide +kernel)) rfl
theorem wM_X5_243 : Cond.methodLink RX5 243 Lib.Math.abs.name ∈ ww := ww_of (List.mem_of_getElem? (i := 244) (by decide +kernel)) rfl
theorem ys_abs : Cond.static Lib.Math.abs.name ∈ ww := ww_of (List.mem_of_getElem? (i := 245) (by decide +kernel)) rfl
theorem wM_X5_248 : Cond.methodLink RX5 248 Lib.Math.min.name ∈ ww := ww_of (List.mem_of_getElem? (i := 247) (by decide +kernel)) rfl
theorem wM_L_76 : Cond.methodLink RL 76 yX5_bell ∈ ww := ww_of (List.mem_of_getElem? (i := 248) (by decide +kernel)) rfl
theorem yo_X5_bell : Cond.instanceMethod yX5_bell ∈ ww := ww_of (List.mem_of_getElem? (i := 249) (by decide +kernel)) rfl
theorem yl_X5_bell : Cond.selects RX5 yX5_bell yX5_bell ∈ ww := ww_of (List.mem_of_getElem? (i := 250) (by decide +kernel)) rfl
theorem wM_L_93 : Cond.methodLink RL 93 yX5_pass ∈ ww := ww_of (List.mem_of_getElem? (i := 252) (by decide +kernel)) rfl
theorem yo_X5_pass : Cond.instanceMethod yX5_pass ∈ ww := ww_of (List.mem_of_getElem? (i := 253) (by decide +kernel)) rfl
theorem yl_X5_pass : Cond.selects RX5 yX5_pass yX5_pass ∈ ww := ww_of (List.mem_of_getElem? (i := 254) (by decide +kernel)) rfl
theorem wM_X5_88 : Cond.methodLink RX5 88 yX3_errorOfPassing ∈ ww := ww_of (List.mem_of_getElem? (i := 256) (by decide +kernel)) rfl
theorem yo_X3_errorOfPassing : Cond.instanceMethod yX3_errorOfPassing ∈ ww := ww_of (List.mem_of_getElem? (i := 257) (by decide +kernel)) rfl
theorem yl_X3_errorOfPassing : Cond.selects RX3 yX3_errorOfPassing yX3_errorOfPassing ∈ ww := ww_of (List.mem_of_getElem? (i := 258) (by decide +kernel)) rfl
theorem wT_X3_64 : Cond.constant RX3 64 (999999) ∈ ww := ww_of (List.mem_of_getElem? (i := 260) (by decide +kernel)) rfl
theorem wM_X5_92 : Cond.methodLink RX5 92 yX3_passMinutes ∈ ww := ww_of (List.mem_of_getElem? (i := 261) (by decide +kernel)) rfl
theorem yo_X3_passMinutes : Cond.instanceMethod yX3_passMinutes ∈ ww := ww_of (List.mem_of_getElem? (i := 262) (by decide +kernel)) rfl
theorem yl_X3_passMinutes : Cond.selects RX3 yX3_passMinutes yX3_passMinutes ∈ ww := ww_of (List.mem_of_getElem? (i := 263) (by decide +kernel)) rfl
theorem wM_X3_65 : Cond.methodLink RX3 65 yX3_passMinute ∈ ww := ww_of (List.mem_of_getElem? (i := 265) (by decide +kernel)) rfl
theorem yo_X3_passMinute : Cond.instanceMethod yX3_passMinute ∈ ww := ww_of (List.mem_of_getElem? (i := 266) (by decide +kernel)) rfl
theorem yl_X3_passMinute : Cond.selects RX3 yX3_passMinute yX3_passMinute ∈ ww := ww_of (List.mem_of_getElem? (i := 267) (by decide +kernel)) rfl
theorem wM_X3_69 : Cond.methodLink RX3 69 yX0_passMinute ∈ ww := ww_of (List.mem_of_getElem? (i := 269) (by decide +kernel)) rfl
theorem yo_X0_passMinute : Cond.instanceMethod yX0_passMinute ∈ ww := ww_of (List.mem_of_getElem? (i := 270) (by decide +kernel)) rfl
theorem yl_X0_passMinute : Cond.selects RX0 yX0_passMinute yX0_passMinute ∈ ww := ww_of (List.mem_of_getElem? (i := 271) (by decide +kernel)) rfl
theorem wM_X0_40 : Cond.methodLink RX0 40 yX0_slip ∈ ww := ww_of (List.mem_of_getElem? (i := 273) (by decide +kernel)) rfl
theorem yo_X0_slip : Cond.instanceMethod yX0_slip ∈ ww := ww_of (List.mem_of_getElem? (i := 275) (by decide +kernel)) rfl
theorem wM_X0_47 : Cond.methodLink RX0 47 Lib.Math.min.name ∈ ww := ww_of (List.mem_of_getElem? (i := 277) (by decide +kernel)) rfl
theorem ys_X5_strikesAt : Cond.static yX5_strikesAt ∈ ww := ww_of (List.mem_of_getElem? (i := 279) (by decide +kernel)) rfl
theorem wM_X3_72 : Cond.methodLink RX3 72 yX3_strainShaft ∈ ww := ww_of (List.mem_of_getElem? (i := 281) (by decide +kernel)) rfl
theorem yo_X3_strainShaft : Cond.instanceMethod yX3_strainShaft ∈ ww := ww_of (List.mem_of_getElem? (i := 283) (by decide +kernel)) rfl
theorem wM_X3_84 : Cond.methodLink RX3 84 yX0_goBack ∈ ww := ww_of (List.mem_of_getElem? (i := 285) (by decide +kernel)) rfl
theorem yo_X0_goBack : Cond.instanceMethod yX0_goBack ∈ ww := ww_of (List.mem_of_getElem? (i := 286) (by decide +kernel)) rfl
theorem yl_X0_goBack : Cond.selects RX0 yX0_goBack yX0_goBack ∈ ww := ww_of (List.mem_of_getElem? (i := 287) (by decide +kernel)) rfl
theorem wM_X3_75 : Cond.methodLink RX3 75 yX3_minuteOfDay ∈ ww := ww_of (List.mem_of_getElem? (i := 289) (by decide +kernel)) rfl
theorem yo_X3_minuteOfDay : Cond.instanceMethod yX3_minuteOfDay ∈ ww := ww_of (List.mem_of_getElem? (i := 290) (by decide +kernel)) rfl
theorem yl_X3_minuteOfDay : Cond.selects RX3 yX3_minuteOfDay yX3_minuteOfDay ∈ ww := ww_of (List.mem_of_getElem? (i := 291) (by decide +kernel)) rfl
theorem wM_X3_78 : Cond.methodLink RX3 78 yX3_resetFaces ∈ ww := ww_of (List.mem_of_getElem? (i := 293) (by decide +kernel)) rfl
theorem yo_X3_resetFaces : Cond.instanceMethod yX3_resetFaces ∈ ww := ww_of (List.mem_of_getElem? (i := 294) (by decide +kernel)) rfl
theorem yl_X3_resetFaces : Cond.selects RX3 yX3_resetFaces yX3_resetFaces ∈ ww := ww_of (List.mem_of_getElem? (i := 295) (by decide +kernel)) rfl
theorem wM_X3_99 : Cond.methodLink RX3 99 yX3_timeOfKeeper ∈ ww := ww_of (List.mem_of_getElem? (i := 297) (by decide +kernel)) rfl
theorem yo_X3_timeOfKeeper : Cond.instanceMethod yX3_timeOfKeeper ∈ ww := ww_of (List.mem_of_getElem? (i := 298) (by decide +kernel)) rfl
theorem yl_X3_timeOfKeeper : Cond.selects RX3 yX3_timeOfKeeper yX3_timeOfKeeper ∈ ww := ww_of (List.mem_of_getElem? (i := 299) (by decide +kernel)) rfl
theorem wM_X3_87 : Cond.methodLink RX3 87 yX2_placeAt ∈ ww := ww_of (List.mem_of_getElem? (i := 301) (by decide +kernel)) rfl
theorem yo_X2_placeAt : Cond.instanceMethod yX2_placeAt ∈ ww := ww_of (List.mem_of_getElem? (i := 302) (by decide +kernel)) rfl
theorem yl_X2_placeAt : Cond.selects RX2 yX2_placeAt yX2_placeAt ∈ ww := ww_of (List.mem_of_getElem? (i := 303) (by decide +kernel)) rfl
theorem wM_X3_93 : Cond.methodLink RX3 93 yJ9_floorMod_7cf53 ∈ ww := ww_of (List.mem_of_getElem? (i := 305) (by decide +kernel)) rfl
theorem ys_J9_floorMod_7cf53 : Cond.static yJ9_floorMod_7cf53 ∈ ww := ww_of (List.mem_of_getElem? (i := 306) (by decide +kernel)) rfl
theorem wM_L_79 : Cond.methodLink RL 79 yX5_hire ∈ ww := ww_of (List.mem_of_getElem? (i := 309) (by decide +kernel)) rfl
theorem yo_X5_hire : Cond.instanceMethod yX5_hire ∈ ww := ww_of (List.mem_of_getElem? (i := 310) (by decide +kernel)) rfl
theorem yl_X5_hire : Cond.selects RX5 yX5_hire yX5_hire ∈ ww := ww_of (List.mem_of_getElem? (i := 311) (by decide +kernel)) rfl
theorem wM_X5_99 : Cond.methodLink RX5 99 yX2_errorOfAdding ∈ ww := ww_of (List.mem_of_getElem? (i := 313) (by decide +kernel)) rfl
theorem yo_X2_errorOfAdding : Cond.instanceMethod yX2_errorOfAdding ∈ ww := ww_of (List.mem_of_getElem? (i := 314) (by decide +kernel)) rfl
theorem yl_X2_errorOfAdding : Cond.selects RX2 yX2_errorOfAdding yX2_errorOfAdding ∈ ww := ww_of (List.mem_of_getElem? (i := 315) (by decide +kernel)) rfl
theorem wM_X2_32 : Cond.methodLink RX2 32 yX2_hasStart ∈ ww := ww_of (List.mem_of_getElem? (i := 318) (by decide +kernel)) rfl
theorem yo_X2_hasStart : Cond.instanceMethod yX2_hasStart ∈ ww := ww_of (List.mem_of_getElem? (i := 319) (by decide +kernel)) rfl
theorem yl_X2_hasStart : Cond.selects RX2 yX2_hasStart yX2_hasStart ∈ ww := ww_of (List.mem_of_getElem? (i := 320) (by decide +kernel)) rfl
theorem wM_X5_104 : Cond.methodLink RX5 104 yX2_add ∈ ww := ww_of (List.mem_of_getElem? (i := 322) (by decide +kernel)) rfl
theorem yo_X2_add : Cond.instanceMethod yX2_add ∈ ww := ww_of (List.mem_of_getElem? (i := 323) (by decide +kernel)) rfl
theorem yl_X2_add : Cond.selects RX2 yX2_add yX2_add ∈ ww := ww_of (List.mem_of_getElem? (i := 324) (by decide +kernel)) rfl
theorem wM_L_82 : Cond.methodLink RL 82 yX5_dismiss ∈ ww := ww_of (List.mem_of_getElem? (i := 326) (by decide +kernel)) rfl
theorem yo_X5_dismiss : Cond.instanceMethod yX5_dismiss ∈ ww := ww_of (List.mem_of_getElem? (i := 327) (by decide +kernel)) rfl
theorem yl_X5_dismiss : Cond.selects RX5 yX5_dismiss yX5_dismiss ∈ ww := ww_of (List.mem_of_getElem? (i := 328) (by decide +kernel)) rfl
theorem wM_X5_111 : Cond.methodLink RX5 111 yX2_hasStart ∈ ww := ww_of (List.mem_of_getElem? (i := 330) (by decide +kernel)) rfl
theorem wM_X5_114 : Cond.methodLink RX5 114 yX2_remove ∈ ww := ww_of (List.mem_of_getElem? (i := 331) (by decide +kernel)) rfl
theorem yo_X2_remove : Cond.instanceMethod yX2_remove ∈ ww := ww_of (List.mem_of_getElem? (i := 332) (by decide +kernel)) rfl
theorem yl_X2_remove : Cond.selects RX2 yX2_remove yX2_remove ∈ ww := ww_of (List.mem_of_getElem? (i := 333) (by decide +kernel)) rfl
theorem wM_L_85 : Cond.methodLink RL 85 yX5_reset ∈ ww := ww_of (List.mem_of_getElem? (i := 335) (by decide +kernel)) rfl
theorem yo_X5_reset : Cond.instanceMethod yX5_reset ∈ ww := ww_of (List.mem_of_getElem? (i := 336) (by decide +kernel)) rfl
theorem yl_X5_reset : Cond.selects RX5 yX5_reset yX5_reset ∈ ww := ww_of (List.mem_of_getElem? (i := 337) (by decide +kernel)) rfl
theorem wM_X5_117 : Cond.methodLink RX5 117 yX3_resetFaces ∈ ww := ww_of (List.mem_of_getElem? (i := 339) (by decide +kernel)) rfl
theorem wM_L_111 : Cond.methodLink RL 111 yX5_spreadIn ∈ ww := ww_of (List.mem_of_getElem? (i := 340) (by decide +kernel)) rfl
theorem yo_X5_spreadIn : Cond.instanceMethod yX5_spreadIn ∈ ww := ww_of (List.mem_of_getElem? (i := 341) (by decide +kernel)) rfl
theorem yl_X5_spreadIn : Cond.selects RX5 yX5_spreadIn yX5_spreadIn ∈ ww := ww_of (List.mem_of_getElem? (i := 342) (by decide +kernel)) rfl
theorem wM_X5_185 : Cond.methodLink RX5 185 yX3_copyFrom ∈ ww := ww_of (List.mem_of_getElem? (i := 344) (by decide +kernel)) rfl
theorem wM_X5_163 : Cond.methodLink RX5 163 yX3_spread ∈ ww := ww_of (List.mem_of_getElem? (i := 345) (by decide +kernel)) rfl
theorem yo_X3_spread : Cond.instanceMethod yX3_spread ∈ ww := ww_of (List.mem_of_getElem? (i := 346) (by decide +kernel)) rfl
theorem yl_X3_spread : Cond.selects RX3 yX3_spread yX3_spread ∈ ww := ww_of (List.mem_of_getElem? (i := 347) (by decide +kernel)) rfl
theorem wM_X3_117 : Cond.methodLink RX3 117 Lib.Math.max.name ∈ ww := ww_of (List.mem_of_getElem? (i := 349) (by decide +kernel)) rfl
theorem wM_L_108 : Cond.methodLink RL 108 yX5_minutesTo ∈ ww := ww_of (List.mem_of_getElem? (i := 350) (by decide +kernel)) rfl
theorem yo_X5_minutesTo : Cond.instanceMethod yX5_minutesTo ∈ ww := ww_of (List.mem_of_getElem? (i := 351) (by decide +kernel)) rfl
theorem yl_X5_minutesTo : Cond.selects RX5 yX5_minutesTo yX5_minutesTo ∈ ww := ww_of (List.mem_of_getElem? (i := 352) (by decide +kernel)) rfl
theorem wM_X5_188 : Cond.methodLink RX5 188 yX3_passMinute ∈ ww := ww_of (List.mem_of_getElem? (i := 354) (by decide +kernel)) rfl
theorem wM_L_114 : Cond.methodLink RL 114 yX5_bestOil ∈ ww := ww_of (List.mem_of_getElem? (i := 355) (by decide +kernel)) rfl
theorem yo_X5_bestOil : Cond.instanceMethod yX5_bestOil ∈ ww := ww_of (List.mem_of_getElem? (i := 356) (by decide +kernel)) rfl
theorem yl_X5_bestOil : Cond.selects RX5 yX5_bestOil yX5_bestOil ∈ ww := ww_of (List.mem_of_getElem? (i := 357) (by decide +kernel)) rfl
theorem wM_X5_191 : Cond.methodLink RX5 191 yX5_errorAfterOil ∈ ww := ww_of (List.mem_of_getElem? (i := 359) (by decide +kernel)) rfl
theorem yo_X5_errorAfterOil : Cond.instanceMethod yX5_errorAfterOil ∈ ww := ww_of (List.mem_of_getElem? (i := 361) (by decide +kernel)) rfl
theorem wM_X5_194 : Cond.methodLink RX5 194 yX3_distancesFromTime ∈ ww := ww_of (List.mem_of_getElem? (i := 363) (by decide +kernel)) rfl
theorem yo_X3_distancesFromTime : Cond.instanceMethod yX3_distancesFromTime ∈ ww := ww_of (List.mem_of_getElem? (i := 364) (by decide +kernel)) rfl
theorem yl_X3_distancesFromTime : Cond.selects RX3 yX3_distancesFromTime yX3_distancesFromTime ∈ ww := ww_of (List.mem_of_getElem? (i := 365) (by decide +kernel)) rfl
theorem wM_L_64 : Cond.methodLink RL 64 yL_cell ∈ ww := ww_of (List.mem_of_getElem? (i := 367) (by decide +kernel)) rfl
theorem ys_L_cell : Cond.static yL_cell ∈ ww := ww_of (List.mem_of_getElem? (i := 368) (by decide +kernel)) rfl
theorem wT_L_7 : Cond.constant RL 7 (32452867) ∈ ww := ww_of (List.mem_of_getElem? (i := 370) (by decide +kernel)) rfl
theorem wT_L_8 : Cond.constant RL 8 (15485863) ∈ ww := ww_of (List.mem_of_getElem? (i := 371) (by decide +kernel)) rfl
theorem wM_L_33 : Cond.methodLink RL 33 yL_low ∈ ww := ww_of (List.mem_of_getElem? (i := 372) (by decide +kernel)) rfl
theorem ys_L_low : Cond.static yL_low ∈ ww := ww_of (List.mem_of_getElem? (i := 373) (by decide +kernel)) rfl
theorem wT_L_9 : Cond.constant RL 9 (2147483647) ∈ ww := ww_of (List.mem_of_getElem? (i := 375) (by decide +kernel)) rfl
theorem wM_L_20 : Cond.methodLink RL 20 yL_apart ∈ ww := ww_of (List.mem_of_getElem? (i := 376) (by decide +kernel)) rfl
theorem ys_L_apart : Cond.static yL_apart ∈ ww := ww_of (List.mem_of_getElem? (i := 377) (by decide +kernel)) rfl
theorem wM_L_24 : Cond.methodLink RL 24 yL_reset ∈ ww := ww_of (List.mem_of_getElem? (i := 379) (by decide +kernel)) rfl
theorem ys_L_reset : Cond.static yL_reset ∈ ww := ww_of (List.mem_of_getElem? (i := 380) (by decide +kernel)) rfl
theorem wM_L_16 : Cond.methodLink RL 16 yL_keeperTime ∈ ww := ww_of (List.mem_of_getElem? (i := 382) (by decide +kernel)) rfl
theorem ys_L_keeperTime : Cond.static yL_keeperTime ∈ ww := ww_of (List.mem_of_getElem? (i := 383) (by decide +kernel)) rfl
theorem wM_L_10 : Cond.methodLink RL 10 yL_watch ∈ ww := ww_of (List.mem_of_getElem? (i := 385) (by decide +kernel)) rfl
theorem ys_L_watch : Cond.static yL_watch ∈ ww := ww_of (List.mem_of_getElem? (i := 386) (by decide +kernel)) rfl
theorem wM_L_90 : Cond.methodLink RL 90 yL_minute ∈ ww := ww_of (List.mem_of_getElem? (i := 388) (by decide +kernel)) rfl
theorem ys_L_minute : Cond.static yL_minute ∈ ww := ww_of (List.mem_of_getElem? (i := 389) (by decide +kernel)) rfl
theorem wM_L_53 : Cond.methodLink RL 53 yL_spread ∈ ww := ww_of (List.mem_of_getElem? (i := 391) (by decide +kernel)) rfl
theorem ys_L_spread : Cond.static yL_spread ∈ ww := ww_of (List.mem_of_getElem? (i := 392) (by decide +kernel)) rfl
theorem wM_L_104 : Cond.methodLink RL 104 yL_copy ∈ ww := ww_of (List.mem_of_getElem? (i := 394) (by decide +kernel)) rfl
theorem ys_L_copy : Cond.static yL_copy ∈ ww := ww_of (List.mem_of_getElem? (i := 395) (by decide +kernel)) rfl
theorem wM_L_96 : Cond.methodLink RL 96 yL_tower ∈ ww := ww_of (List.mem_of_getElem? (i := 397) (by decide +kernel)) rfl
theorem ys_L_tower : Cond.static yL_tower ∈ ww := ww_of (List.mem_of_getElem? (i := 398) (by decide +kernel)) rfl
theorem wM_L_28 : Cond.methodLink RL 28 yX5_face ∈ ww := ww_of (List.mem_of_getElem? (i := 400) (by decide +kernel)) rfl
theorem yo_X5_face : Cond.instanceMethod yX5_face ∈ ww := ww_of (List.mem_of_getElem? (i := 401) (by decide +kernel)) rfl
theorem yl_X5_face : Cond.selects RX5 yX5_face yX5_face ∈ ww := ww_of (List.mem_of_getElem? (i := 402) (by decide +kernel)) rfl
theorem wM_L_36 : Cond.methodLink RL 36 yX5_keeper ∈ ww := ww_of (List.mem_of_getElem? (i := 404) (by decide +kernel)) rfl
theorem yo_X5_keeper : Cond.instanceMethod yX5_keeper ∈ ww := ww_of (List.mem_of_getElem? (i := 405) (by decide +kernel)) rfl
theorem yl_X5_keeper : Cond.selects RX5 yX5_keeper yX5_keeper ∈ ww := ww_of (List.mem_of_getElem? (i := 406) (by decide +kernel)) rfl
theorem wM_X5_121 : Cond.methodLink RX5 121 yX2_placeAt ∈ ww := ww_of (List.mem_of_getElem? (i := 408) (by decide +kernel)) rfl
theorem wM_X5_130 : Cond.methodLink RX5 130 yX2_minutesToNext ∈ ww := ww_of (List.mem_of_getElem? (i := 409) (by decide +kernel)) rfl
theorem yo_X2_minutesToNext : Cond.instanceMethod yX2_minutesToNext ∈ ww := ww_of (List.mem_of_getElem? (i := 410) (by decide +kernel)) rfl
theorem yl_X2_minutesToNext : Cond.selects RX2 yX2_minutesToNext yX2_minutesToNext ∈ ww := ww_of (List.mem_of_getElem? (i := 411) (by decide +kernel)) rfl
theorem wM_X2_36 : Cond.methodLink RX2 36 yX2_placeAt ∈ ww := ww_of (List.mem_of_getElem? (i := 413) (by decide +kernel)) rfl
theorem wM_X2_40 : Cond.methodLink RX2 40 yJ9_floorMod_7cf53 ∈ ww := ww_of (List.mem_of_getElem? (i := 414) (by decide +kernel)) rfl
theorem wM_L_39 : Cond.methodLink RL 39 yX5_keeperTime ∈ ww := ww_of (List.mem_of_getElem? (i := 415) (by decide +kernel)) rfl
theorem yo_X5_keeperTime : Cond.instanceMethod yX5_keeperTime ∈ ww := ww_of (List.mem_of_getElem? (i := 416) (by decide +kernel)) rfl
theorem yl_X5_keeperTime : Cond.selects RX5 yX5_keeperTime yX5_keeperTime ∈ ww := ww_of (List.mem_of_getElem? (i := 417) (by decide +kernel)) rfl
theorem wM_X5_133 : Cond.methodLink RX5 133 yX3_timeOfKeeper ∈ ww := ww_of (List.mem_of_getElem? (i := 419) (by decide +kernel)) rfl
theorem wM_L_42 : Cond.methodLink RL 42 yX5_majority ∈ ww := ww_of (List.mem_of_getElem? (i := 420) (by decide +kernel)) rfl
theorem yo_X5_majority : Cond.instanceMethod yX5_majority ∈ ww := ww_of (List.mem_of_getElem? (i := 421) (by decide +kernel)) rfl
theorem yl_X5_majority : Cond.selects RX5 yX5_majority yX5_majority ∈ ww := ww_of (List.mem_of_getElem? (i := 422) (by decide +kernel)) rfl
theorem wM_X5_170 : Cond.methodLink RX5 170 yX3_facesWithDial ∈ ww := ww_of (List.mem_of_getElem? (i := 424) (by decide +kernel)) rfl
theorem yo_X3_facesWithDial : Cond.instanceMethod yX3_facesWithDial ∈ ww := ww_of (List.mem_of_getElem? (i := 425) (by decide +kernel)) rfl
theorem yl_X3_facesWithDial : Cond.selects RX3 yX3_facesWithDial yX3_facesWithDial ∈ ww := ww_of (List.mem_of_getElem? (i := 426) (by decide +kernel)) rfl
theorem wM_L_45 : Cond.methodLink RL 45 yX5_total ∈ ww := ww_of (List.mem_of_getElem? (i := 428) (by decide +kernel)) rfl
theorem yo_X5_total : Cond.instanceMethod yX5_total ∈ ww := ww_of (List.mem_of_getElem? (i := 429) (by decide +kernel)) rfl
theorem yl_X5_total : Cond.selects RX5 yX5_total yX5_total ∈ ww := ww_of (List.mem_of_getElem? (i := 430) (by decide +kernel)) rfl
theorem wM_X5_145 : Cond.methodLink RX5 145 yX3_minuteOfDay ∈ ww := ww_of (List.mem_of_getElem? (i := 432) (by decide +kernel)) rfl
theorem wM_X5_154 : Cond.methodLink RX5 154 yX3_slipsOfGears ∈ ww := ww_of (List.mem_of_getElem? (i := 433) (by decide +kernel)) rfl
theorem yo_X3_slipsOfGears : Cond.instanceMethod yX3_slipsOfGears ∈ ww := ww_of (List.mem_of_getElem? (i := 434) (by decide +kernel)) rfl
theorem yl_X3_slipsOfGears : Cond.selects RX3 yX3_slipsOfGears yX3_slipsOfGears ∈ ww := ww_of (List.mem_of_getElem? (i := 435) (by decide +kernel)) rfl
theorem wM_X5_157 : Cond.methodLink RX5 157 yX3_strikesOfBells ∈ ww := ww_of (List.mem_of_getElem? (i := 437) (by decide +kernel)) rfl
theorem yo_X3_strikesOfBells : Cond.instanceMethod yX3_strikesOfBells ∈ ww := ww_of (List.mem_of_getElem? (i := 438) (by decide +kernel)) rfl
theorem yl_X3_strikesOfBells : Cond.selects RX3 yX3_strikesOfBells yX3_strikesOfBells ∈ ww := ww_of (List.mem_of_getElem? (i := 439) (by decide +kernel)) rfl
theorem wM_L_49 : Cond.methodLink RL 49 yL_sum ∈ ww := ww_of (List.mem_of_getElem? (i := 441) (by decide +kernel)) rfl
theorem ys_L_sum : Cond.static yL_sum ∈ ww := ww_of (List.mem_of_getElem? (i := 442) (by decide +kernel)) rfl
theorem wM_L_57 : Cond.methodLink RL 57 yX5_setting ∈ ww := ww_of (List.mem_of_getElem? (i := 444) (by decide +kernel)) rfl
theorem yo_X5_setting : Cond.instanceMethod yX5_setting ∈ ww := ww_of (List.mem_of_getElem? (i := 445) (by decide +kernel)) rfl
theorem yl_X5_setting : Cond.selects RX5 yX5_setting yX5_setting ∈ ww := ww_of (List.mem_of_getElem? (i := 446) (by decide +kernel)) rfl
theorem wM_L_100 : Cond.methodLink RL 100 yL_bells ∈ ww := ww_of (List.mem_of_getElem? (i := 448) (by decide +kernel)) rfl
theorem ys_L_bells : Cond.static yL_bells ∈ ww := ww_of (List.mem_of_getElem? (i := 449) (by decide +kernel)) rfl
theorem wM_L_60 : Cond.methodLink RL 60 yX5_coming ∈ ww := ww_of (List.mem_of_getElem? (i := 451) (by decide +kernel)) rfl
theorem yo_X5_coming : Cond.instanceMethod yX5_coming ∈ ww := ww_of (List.mem_of_getElem? (i := 452) (by decide +kernel)) rfl
theorem yl_X5_coming : Cond.selects RX5 yX5_coming yX5_coming ∈ ww := ww_of (List.mem_of_getElem? (i := 453) (by decide +kernel)) rfl
theorem wM_X5_173 : Cond.methodLink RX5 173 yX3_bells ∈ ww := ww_of (List.mem_of_getElem? (i := 455) (by decide +kernel)) rfl
theorem yo_X3_bells : Cond.instanceMethod yX3_bells ∈ ww := ww_of (List.mem_of_getElem? (i := 456) (by decide +kernel)) rfl
theorem yl_X3_bells : Cond.selects RX3 yX3_bells yX3_bells ∈ ww := ww_of (List.mem_of_getElem? (i := 457) (by decide +kernel)) rfl
theorem wM_X5_176 : Cond.methodLink RX5 176 yX3_faceOfBellInRound ∈ ww := ww_of (List.mem_of_getElem? (i := 459) (by decide +kernel)) rfl
theorem yo_X3_faceOfBellInRound : Cond.instanceMethod yX3_faceOfBellInRound ∈ ww := ww_of (List.mem_of_getElem? (i := 460) (by decide +kernel)) rfl
theorem yl_X3_faceOfBellInRound : Cond.selects RX3 yX3_faceOfBellInRound yX3_faceOfBellInRound ∈ ww := ww_of (List.mem_of_getElem? (i := 461) (by decide +kernel)) rfl
theorem wM_X3_124 : Cond.methodLink RX3 124 yX0_minutesToHour ∈ ww := ww_of (List.mem_of_getElem? (i := 463) (by decide +kernel)) rfl
theorem yo_X0_minutesToHour : Cond.instanceMethod yX0_minutesToHour ∈ ww := ww_of (List.mem_of_getElem? (i := 464) (by decide +kernel)) rfl
theorem yl_X0_minutesToHour : Cond.selects RX0 yX0_minutesToHour yX0_minutesToHour ∈ ww := ww_of (List.mem_of_getElem? (i := 465) (by decide +kernel)) rfl
theorem wM_X5_179 : Cond.methodLink RX5 179 yX0_minutesToHour ∈ ww := ww_of (List.mem_of_getElem? (i := 467) (by decide +kernel)) rfl
theorem wM_X5_182 : Cond.methodLink RX5 182 yX5_strikesAt ∈ ww := ww_of (List.mem_of_getElem? (i := 468) (by decide +kernel)) rfl
theorem yi_X0_slip : yin yX0_slip := ⟨yo_X0_slip, yl_X0_slip⟩
theorem yi_X3_strainShaft : yin yX3_strainShaft := ⟨yo_X3_strainShaft, yl_X3_strainShaft⟩
theorem yi_X5_errorAfterOil : yin yX5_errorAfterOil := ⟨yo_X5_errorAfterOil, yl_X5_errorAfterOil⟩
theorem yi_X5_set : yin yX5_set := ⟨yo_X5_set, yl_X5_set⟩
theorem yi_X1_record : yin yX1_record := ⟨yo_X1_record, yl_X1_record⟩
theorem yi_X3_copyFrom : yin yX3_copyFrom := ⟨yo_X3_copyFrom, yl_X3_copyFrom⟩
theorem yi_X0_copyFrom : yin yX0_copyFrom := ⟨yo_X0_copyFrom, yl_X0_copyFrom⟩
theorem yi_X2_copyFrom : yin yX2_copyFrom := ⟨yo_X2_copyFrom, yl_X2_copyFrom⟩
theorem yi_X5_gear : yin yX5_gear := ⟨yo_X5_gear, yl_X5_gear⟩
theorem yi_X3_faceAt : yin yX3_faceAt := ⟨yo_X3_faceAt, yl_X3_faceAt⟩
theorem yi_X5_oil : yin yX5_oil := ⟨yo_X5_oil, yl_X5_oil⟩
theorem yi_X0_takeOil : yin yX0_takeOil := ⟨yo_X0_takeOil, yl_X0_takeOil⟩
theorem yi_X5_dial : yin yX5_dial := ⟨yo_X5_dial, yl_X5_dial⟩
theorem yi_X5_bell : yin yX5_bell := ⟨yo_X5_bell, yl_X5_bell⟩
theorem yi_X5_pass : yin yX5_pass := ⟨yo_X5_pass, yl_X5_pass⟩
theorem yi_X3_errorOfPassing : yin yX3_errorOfPassing := ⟨yo_X3_errorOfPassing, yl_X3_errorOfPassing⟩
theorem yi_X3_passMinutes : yin yX3_passMinutes := ⟨yo_X3_passMinutes, yl_X3_passMinutes⟩
theorem yi_X3_passMinute : yin yX3_passMinute := ⟨yo_X3_passMinute, yl_X3_passMinute⟩
theorem yi_X0_passMinute : yin yX0_passMinute := ⟨yo_X0_passMinute, yl_X0_passMinute⟩
theorem yi_X0_goBack : yin yX0_goBack := ⟨yo_X0_goBack, yl_X0_goBack⟩
theorem yi_X3_minuteOfDay : yin yX3_minuteOfDay := ⟨yo_X3_minuteOfDay, yl_X3_minuteOfDay⟩
theorem yi_X3_resetFaces : yin yX3_resetFaces := ⟨yo_X3_resetFaces, yl_X3_resetFaces⟩
theorem yi_X3_timeOfKeeper : yin yX3_timeOfKeeper := ⟨yo_X3_timeOfKeeper, yl_X3_timeOfKeeper⟩
theorem yi_X2_placeAt : yin yX2_placeAt := ⟨yo_X2_placeAt, yl_X2_placeAt⟩
theorem yi_X5_hire : yin yX5_hire := ⟨yo_X5_hire, yl_X5_hire⟩
theorem yi_X2_errorOfAdding : yin yX2_errorOfAdding := ⟨yo_X2_errorOfAdding, yl_X2_errorOfAdding⟩
theorem yi_X2_hasStart : yin yX2_hasStart := ⟨yo_X2_hasStart, yl_X2_hasStart⟩
theorem yi_X2_add : yin yX2_add := ⟨yo_X2_add, yl_X2_add⟩
theorem yi_X5_dismiss : yin yX5_dismiss := ⟨yo_X5_dismiss, yl_X5_dismiss⟩
theorem yi_X2_remove : yin yX2_remove := ⟨yo_X2_remove, yl_X2_remove⟩
theorem yi_X5_reset : yin yX5_reset := ⟨yo_X5_reset, yl_X5_reset⟩
theorem yi_X5_spreadIn : yin yX5_spreadIn := ⟨yo_X5_spreadIn, yl_X5_spreadIn⟩
theorem yi_X3_spread : yin yX3_spread := ⟨yo_X3_spread, yl_X3_spread⟩
theorem yi_X5_minutesTo : yin yX5_minutesTo := ⟨yo_X5_minutesTo, yl_X5_minutesTo⟩
theorem yi_X5_bestOil : yin yX5_bestOil := ⟨yo_X5_bestOil, yl_X5_bestOil⟩
theorem yi_X3_distancesFromTime : yin yX3_distancesFromTime := ⟨yo_X3_distancesFromTime, yl_X3_distancesFromTime⟩
theorem yi_X5_face : yin yX5_face := ⟨yo_X5_face, yl_X5_face⟩
theorem yi_X5_keeper : yin yX5_keeper := ⟨yo_X5_keeper, yl_X5_keeper⟩
theorem yi_X2_minutesToNext : yin yX2_minutesToNext := ⟨yo_X2_minutesToNext, yl_X2_minutesToNext⟩
theorem yi_X5_keeperTime : yin yX5_keeperTime := ⟨yo_X5_keeperTime, yl_X5_keeperTime⟩
theorem yi_X5_majority : yin yX5_majority := ⟨yo_X5_majority, yl_X5_majority⟩
theorem yi_X3_facesWithDial : yin yX3_facesWithDial := ⟨yo_X3_facesWithDial, yl_X3_facesWithDial⟩
theorem yi_X5_total : yin yX5_total := ⟨yo_X5_total, yl_X5_total⟩
theorem yi_X3_slipsOfGears : yin yX3_slipsOfGears := ⟨yo_X3_slipsOfGears, yl_X3_slipsOfGears⟩
theorem yi_X3_strikesOfBells : yin yX3_strikesOfBells := ⟨yo_X3_strikesOfBells, yl_X3_strikesOfBells⟩
theorem yi_X5_setting : yin yX5_setting := ⟨yo_X5_setting, yl_X5_setting⟩
theorem yi_X5_coming : yin yX5_coming := ⟨yo_X5_coming, yl_X5_coming⟩
theorem yi_X3_bells : yin yX3_bells := ⟨yo_X3_bells, yl_X3_bells⟩
theorem yi_X3_faceOfBellInRound : yin yX3_faceOfBellInRound := ⟨yo_X3_faceOfBellInRound, yl_X3_faceOfBellInRound⟩
theorem yi_X0_minutesToHour : yin yX0_minutesToHour := ⟨yo_X0_minutesToHour, yl_X0_minutesToHour⟩
theorem wA_int : Cond.arrayClass .int ∈ ww := ww_of (List.mem_of_getElem? (i := 48) (by decide +kernel)) rfl
theorem wA_char : Cond.arrayClass .char ∈ ww := ww_of (List.mem_of_getElem? (i := 164) (by decide +kernel)) rfl
theorem wC_object : Cond.code objectInit ⟨#[0xb1]⟩ 1 none ∈ ww := ww_of (List.mem_of_getElem? (i := 19) (by decide +kernel)) rfl
theorem wC_max : Cond.code Lib.Math.max.name Lib.Math.max.code 2 (some .int) ∈ ww := ww_of (List.mem_of_getElem? (i := 236) (by decide +kernel)) rfl
theorem mk_max : mok Lib.Math.max.name Lib.Math.max.code 2 := ⟨ys_max, wC_max⟩
theorem wC_min : Cond.code Lib.Math.min.name Lib.Math.min.code 2 (some .int) ∈ ww := ww_of (List.mem_of_getElem? (i := 216) (by decide +kernel)) rfl
theorem mk_min : mok Lib.Math.min.name Lib.Math.min.code 2 := ⟨ys_min, wC_min⟩
theorem wC_abs : Cond.code Lib.Math.abs.name Lib.Math.abs.code 1 (some .int) ∈ ww := ww_of (List.mem_of_getElem? (i := 246) (by decide +kernel)) rfl
theorem mk_abs : mok Lib.Math.abs.name Lib.Math.abs.code 1 := ⟨ys_abs, wC_abs⟩
theorem in_X0 : ∀ w ∈ u_ws RX0 TX0 7, w ∈ ww := fun w h => ww_of ((by decide +kernel : ∀ w ∈ u_ws RX0 TX0 7, w ∈ lw_tbl) w h) ((by decide +kernel : ∀ w ∈ u_ws RX0 TX0 7, goodWord w = true) w h)
theorem in_X1 : ∀ w ∈ u_ws RX1 TX1 3, w ∈ ww := fun w h => ww_of ((by decide +kernel : ∀ w ∈ u_ws RX1 TX1 3, w ∈ lw_tbl) w h) ((by decide +kernel : ∀ w ∈ u_ws RX1 TX1 3, goodWord w = true) w h)
theorem in_X2 : ∀ w ∈ u_ws RX2 TX2 3, w ∈ ww := fun w h => ww_of ((by decide +kernel : ∀ w ∈ u_ws RX2 TX2 3, w ∈ lw_tbl) w h) ((by decide +kernel : ∀ w ∈ u_ws RX2 TX2 3, goodWord w = true) w h)
theorem in_X3 : ∀ w ∈ u_ws RX3 TX3 7, w ∈ ww := fun w h => ww_of ((by decide +kernel : ∀ w ∈ u_ws RX3 TX3 7, w ∈ lw_tbl) w h) ((by decide +kernel : ∀ w ∈ u_ws RX3 TX3 7, goodWord w = true) w h)
theorem in_X4 : ∀ w ∈ u_ws RX4 TX4 7, w ∈ ww := fun w h => ww_of ((by decide +kernel : ∀ w ∈ u_ws RX4 TX4 7, w ∈ lw_tbl) w h) ((by decide +kernel : ∀ w ∈ u_ws RX4 TX4 7, goodWord w = true) w h)
theorem in_X5 : ∀ w ∈ u_ws RX5 TX5 6, w ∈ ww := fun w h => ww_of ((by decide +kernel : ∀ w ∈ u_ws RX5 TX5 6, w ∈ lw_tbl) w h) ((by decide +kernel : ∀ w ∈ u_ws RX5 TX5 6, goodWord w = true) w h)
