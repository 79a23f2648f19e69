theorem wC_X5_init : Cond.code yX5_init cX5_init 1 none ∈ ww := ww_of (List.mem_of_getElem? (i := 55) (by decide +kernel)) rfl
theorem wC_X3_init : Cond.code yX3_init cX3_init 2 none ∈ ww := ww_of (List.mem_of_getElem? (i := 63) (by decide +kernel)) rfl
theorem wC_X2_init : Cond.code yX2_init cX2_init 1 none ∈ ww := ww_of (List.mem_of_getElem? (i := 71) (by decide +kernel)) rfl
theorem wC_X0_init : Cond.code yX0_init cX0_init 2 none ∈ ww := ww_of (List.mem_of_getElem? (i := 91) (by decide +kernel)) rfl
theorem wC_X1_init : Cond.code yX1_init cX1_init 2 none ∈ ww := ww_of (List.mem_of_getElem? (i := 166) (by decide +kernel)) rfl
theorem wC_X4_init : Cond.code yX4_init cX4_init 1 none ∈ ww := ww_of (List.mem_of_getElem? (i := 186) (by decide +kernel)) rfl
theorem wC_X5_set : Cond.code yX5_set cX5_set 4 (some .int) ∈ ww := ww_of (List.mem_of_getElem? (i := 238) (by decide +kernel)) rfl
theorem wC_X5_isSetting : Cond.code yX5_isSetting cX5_isSetting 1 (some .boolean) ∈ ww := ww_of (List.mem_of_getElem? (i := 241) (by decide +kernel)) rfl
theorem wC_X5_isWithin : Cond.code yX5_isWithin cX5_isWithin 3 (some .boolean) ∈ ww := ww_of (List.mem_of_getElem? (i := 244) (by decide +kernel)) rfl
theorem wC_X1_record : Cond.code yX1_record cX1_record 2 none ∈ ww := ww_of (List.mem_of_getElem? (i := 252) (by decide +kernel)) rfl
theorem wC_X3_copyFrom : Cond.code yX3_copyFrom cX3_copyFrom 3 none ∈ ww := ww_of (List.mem_of_getElem? (i := 256) (by decide +kernel)) rfl
theorem wC_X0_copyFrom : Cond.code yX0_copyFrom cX0_copyFrom 2 none ∈ ww := ww_of (List.mem_of_getElem? (i := 260) (by decide +kernel)) rfl
theorem wC_X2_copyFrom : Cond.code yX2_copyFrom cX2_copyFrom 2 none ∈ ww := ww_of (List.mem_of_getElem? (i := 264) (by decide +kernel)) rfl
theorem wC_X5_setting : Cond.code yX5_setting cX5_setting 2 (some .int) ∈ ww := ww_of (List.mem_of_getElem? (i := 272) (by decide +kernel)) rfl
theorem wC_X5_gear : Cond.code yX5_gear cX5_gear 5 (some .int) ∈ ww := ww_of (List.mem_of_getElem? (i := 276) (by decide +kernel)) rfl
theorem wC_X3_faceAt : Cond.code yX3_faceAt cX3_faceAt 2 (some (.object "TowerFaces$Face")) ∈ ww := ww_of (List.mem_of_getElem? (i := 280) (by decide +kernel)) rfl
theorem wC_X5_oil : Cond.code yX5_oil cX5_oil 3 (some .int) ∈ ww := ww_of (List.mem_of_getElem? (i := 285) (by decide +kernel)) rfl
theorem wC_X0_takeOil : Cond.code yX0_takeOil cX0_takeOil 1 none ∈ ww := ww_of (List.mem_of_getElem? (i := 289) (by decide +kernel)) rfl
theorem wC_X5_dial : Cond.code yX5_dial cX5_dial 5 (some .int) ∈ ww := ww_of (List.mem_of_getElem? (i := 296) (by decide +kernel)) rfl
theorem wC_X5_distance : Cond.code yX5_distance cX5_distance 3 (some .int) ∈ ww := ww_of (List.mem_of_getElem? (i := 299) (by decide +kernel)) rfl
theorem wC_X5_bell : Cond.code yX5_bell cX5_bell 3 (some .int) ∈ ww := ww_of (List.mem_of_getElem? (i := 307) (by decide +kernel)) rfl
theorem wC_X5_pass : Cond.code yX5_pass cX5_pass 3 (some .int) ∈ ww := ww_of (List.mem_of_getElem? (i := 311) (by decide +kernel)) rfl
theorem wC_X3_errorOfPassing : Cond.code yX3_errorOfPassing cX3_errorOfPassing 2 (some .int) ∈ ww := ww_of (List.mem_of_getElem? (i := 315) (by decide +kernel)) rfl
theorem wC_X3_passMinutes : Cond.code yX3_passMinutes cX3_passMinutes 4 (some .int) ∈ ww := ww_of (List.mem_of_getElem? (i := 320) (by decide +kernel)) rfl
theorem wC_X3_passMinute : Cond.code yX3_passMinute cX3_passMinute 6 (some .int) ∈ ww := ww_of (List.mem_of_getElem? (i := 324) (by decide +kernel)) rfl
theorem wC_X0_passMinute : Cond.code yX0_passMinute cX0_passMinute 3 (some .int) ∈ ww := ww_of (List.mem_of_getElem? (i := 328) (by decide +kernel)) rfl
theorem wC_X0_slip : Cond.code yX0_slip cX0_slip 1 none ∈ ww := ww_of (List.mem_of_getElem? (i := 332) (by decide +kernel)) rfl
theorem wC_X5_strikesAt : Cond.code yX5_strikesAt cX5_strikesAt 1 (some .int) ∈ ww := ww_of (List.mem_of_getElem? (i := 336) (by decide +kernel)) rfl
theorem wC_X3_strainShaft : Cond.code yX3_strainShaft cX3_strainShaft 5 none ∈ ww := ww_of (List.mem_of_getElem? (i := 340) (by decide +kernel)) rfl
theorem wC_X0_goBack : Cond.code yX0_goBack cX0_goBack 1 none ∈ ww := ww_of (List.mem_of_getElem? (i := 344) (by decide +kernel)) rfl
theorem wC_X3_minuteOfDay : Cond.code yX3_minuteOfDay cX3_minuteOfDay 1 (some .int) ∈ ww := ww_of (List.mem_of_getElem? (i := 348) (by decide +kernel)) rfl
theorem wC_X3_resetFaces : Cond.code yX3_resetFaces cX3_resetFaces 7 (some .int) ∈ ww := ww_of (List.mem_of_getElem? (i := 352) (by decide +kernel)) rfl
theorem wC_X3_timeOfKeeper : Cond.code yX3_timeOfKeeper cX3_timeOfKeeper 2 (some .int) ∈ ww := ww_of (List.mem_of_getElem? (i := 356) (by decide +kernel)) rfl
theorem wC_X2_placeAt : Cond.code yX2_placeAt cX2_placeAt 4 (some .int) ∈ ww := ww_of (List.mem_of_getElem? (i := 360) (by decide +kernel)) rfl
theorem wC_J9_floorMod_7cf53 : Cond.code yJ9_floorMod_7cf53 cJ9_floorMod_7cf53 3 (some .int) ∈ ww := ww_of (List.mem_of_getElem? (i := 363) (by decide +kernel)) rfl
theorem wC_X5_hire : Cond.code yX5_hire cX5_hire 4 (some .int) ∈ ww := ww_of (List.mem_of_getElem? (i := 368) (by decide +kernel)) rfl
theorem wC_X2_errorOfAdding : Cond.code yX2_errorOfAdding cX2_errorOfAdding 3 (some .int) ∈ ww := ww_of (List.mem_of_getElem? (i := 372) (by decide +kernel)) rfl
theorem wC_X2_hasStart : Cond.code yX2_hasStart cX2_hasStart 3 (some .boolean) ∈ ww := ww_of (List.mem_of_getElem? (i := 377) (by decide +kernel)) rfl
theorem wC_X2_add : Cond.code yX2_add cX2_add 4 none ∈ ww := ww_of (List.mem_of_getElem? (i := 381) (by decide +kernel)) rfl
theorem wC_X5_dismiss : Cond.code yX5_dismiss cX5_dismiss 2 (some .int) ∈ ww := ww_of (List.mem_of_getElem? (i := 385) (by decide +kernel)) rfl
theorem wC_X2_remove : Cond.code yX2_remove cX2_remove 5 (some .int) ∈ ww := ww_of (List.mem_of_getElem? (i := 390) (by decide +kernel)) rfl
theorem wC_X5_reset : Cond.code yX5_reset cX5_reset 1 (some .int) ∈ ww := ww_of (List.mem_of_getElem? (i := 394) (by decide +kernel)) rfl
theorem wC_X5_keeper : Cond.code yX5_keeper cX5_keeper 4 (some .int) ∈ ww := ww_of (List.mem_of_getElem? (i := 399) (by decide +kernel)) rfl
theorem wC_X2_minutesToNext : Cond.code yX2_minutesToNext cX2_minutesToNext 3 (some .int) ∈ ww := ww_of (List.mem_of_getElem? (i := 404) (by decide +kernel)) rfl
theorem wC_X5_keeperTime : Cond.code yX5_keeperTime cX5_keeperTime 1 (some .int) ∈ ww := ww_of (List.mem_of_getElem? (i := 410) (by decide +kernel)) rfl
theorem wC_X5_face : Cond.code yX5_face cX5_face 4 (some .int) ∈ ww := ww_of (List.mem_of_getElem? (i := 415) (by decide +kernel)) rfl
theorem wC_X5_total : Cond.code yX5_total cX5_total 2 (some .int) ∈ ww := ww_of (List.mem_of_getElem? (i := 419) (by decide +kernel)) rfl
theorem wC_X3_slipsOfGears : Cond.code yX3_slipsOfGears cX3_slipsOfGears 6 (some .int) ∈ ww := ww_of (List.mem_of_getElem? (i := 424) (by decide +kernel)) rfl
theorem wC_X3_strikesOfBells : Cond.code yX3_strikesOfBells cX3_strikesOfBells 6 (some .int) ∈ ww := ww_of (List.mem_of_getElem? (i := 428) (by decide +kernel)) rfl
theorem wC_X3_spread : Cond.code yX3_spread cX3_spread 10 (some .int) ∈ ww := ww_of (List.mem_of_getElem? (i := 432) (by decide +kernel)) rfl
theorem wC_X5_majority : Cond.code yX5_majority cX5_majority 8 (some .int) ∈ ww := ww_of (List.mem_of_getElem? (i := 437) (by decide +kernel)) rfl
theorem wC_X3_facesWithDial : Cond.code yX3_facesWithDial cX3_facesWithDial 7 (some .int) ∈ ww := ww_of (List.mem_of_getElem? (i := 441) (by decide +kernel)) rfl
theorem wC_X5_coming : Cond.code yX5_coming cX5_coming 7 (some .int) ∈ ww := ww_of (List.mem_of_getElem? (i := 445) (by decide +kernel)) rfl
theorem wC_X3_bells : Cond.code yX3_bells cX3_bells 6 (some .int) ∈ ww := ww_of (List.mem_of_getElem? (i := 449) (by decide +kernel)) rfl
theorem wC_X3_faceOfBellInRound : Cond.code yX3_faceOfBellInRound cX3_faceOfBellInRound 6 (some .int) ∈ ww := ww_of (List.mem_of_getElem? (i := 453) (by decide +kernel)) rfl
theorem wC_X0_minutesToHour : Cond.code yX0_minutesToHour cX0_minutesToHour 1 (some .int) ∈ ww := ww_of (List.mem_of_getElem? (i := 457) (by decide +kernel)) rfl
theorem wC_X5_spreadIn : Cond.code yX5_spreadIn cX5_spreadIn 2 (some .int) ∈ ww := ww_of (List.mem_of_getElem? (i := 463) (by decide +kernel)) rfl
theorem wC_X5_minutesTo : Cond.code yX5_minutesTo cX5_minutesTo 3 (some .int) ∈ ww := ww_of (List.mem_of_getElem? (i := 468) (by decide +kernel)) rfl
theorem wC_X5_bestOil : Cond.code yX5_bestOil cX5_bestOil 5 (some .int) ∈ ww := ww_of (List.mem_of_getElem? (i := 473) (by decide +kernel)) rfl
theorem wC_X5_errorAfterOil : Cond.code yX5_errorAfterOil cX5_errorAfterOil 3 (some .int) ∈ ww := ww_of (List.mem_of_getElem? (i := 477) (by decide +kernel)) rfl
theorem wC_X3_distancesFromTime : Cond.code yX3_distancesFromTime cX3_distancesFromTime 6 (some .int) ∈ ww := ww_of (List.mem_of_getElem? (i := 481) (by decide +kernel)) rfl
theorem wC_X5_append : Cond.code yX5_append cX5_append 2 (some .int) ∈ ww := ww_of (List.mem_of_getElem? (i := 485) (by decide +kernel)) rfl
theorem wC_X4_add : Cond.code yX4_add cX4_add 2 none ∈ ww := ww_of (List.mem_of_getElem? (i := 489) (by decide +kernel)) rfl
theorem wC_X5_clearText : Cond.code yX5_clearText cX5_clearText 2 (some .int) ∈ ww := ww_of (List.mem_of_getElem? (i := 493) (by decide +kernel)) rfl
theorem wC_X5_errorPosition : Cond.code yX5_errorPosition cX5_errorPosition 1 (some .int) ∈ ww := ww_of (List.mem_of_getElem? (i := 497) (by decide +kernel)) rfl
theorem wC_X4_firstError : Cond.code yX4_firstError cX4_firstError 2 (some .int) ∈ ww := ww_of (List.mem_of_getElem? (i := 501) (by decide +kernel)) rfl
theorem wC_X4_goToStart : Cond.code yX4_goToStart cX4_goToStart 1 none ∈ ww := ww_of (List.mem_of_getElem? (i := 505) (by decide +kernel)) rfl
theorem wC_X4_readWork : Cond.code yX4_readWork cX4_readWork 1 (some .boolean) ∈ ww := ww_of (List.mem_of_getElem? (i := 509) (by decide +kernel)) rfl
theorem wC_X4_readFace : Cond.code yX4_readFace cX4_readFace 1 (some .boolean) ∈ ww := ww_of (List.mem_of_getElem? (i := 513) (by decide +kernel)) rfl
theorem wC_X4_readDigit : Cond.code yX4_readDigit cX4_readDigit 4 (some .int) ∈ ww := ww_of (List.mem_of_getElem? (i := 517) (by decide +kernel)) rfl
theorem wC_X4_readClock : Cond.code yX4_readClock cX4_readClock 5 (some .boolean) ∈ ww := ww_of (List.mem_of_getElem? (i := 522) (by decide +kernel)) rfl
theorem wC_X4_readSign : Cond.code yX4_readSign cX4_readSign 2 (some .boolean) ∈ ww := ww_of (List.mem_of_getElem? (i := 526) (by decide +kernel)) rfl
theorem wC_X4_readWrong : Cond.code yX4_readWrong cX4_readWrong 2 (some .boolean) ∈ ww := ww_of (List.mem_of_getElem? (i := 530) (by decide +kernel)) rfl
theorem wC_X4_readNumber : Cond.code yX4_readNumber cX4_readNumber 5 (some .boolean) ∈ ww := ww_of (List.mem_of_getElem? (i := 534) (by decide +kernel)) rfl
theorem wC_X5_work : Cond.code yX5_work cX5_work 2 (some .int) ∈ ww := ww_of (List.mem_of_getElem? (i := 539) (by decide +kernel)) rfl
theorem wC_X5_doWork : Cond.code yX5_doWork cX5_doWork 1 (some .boolean) ∈ ww := ww_of (List.mem_of_getElem? (i := 545) (by decide +kernel)) rfl
theorem wC_X5_workOnFace : Cond.code yX5_workOnFace cX5_workOnFace 2 (some .boolean) ∈ ww := ww_of (List.mem_of_getElem? (i := 549) (by decide +kernel)) rfl
theorem wC_X5_undo : Cond.code yX5_undo cX5_undo 1 (some .int) ∈ ww := ww_of (List.mem_of_getElem? (i := 554) (by decide +kernel)) rfl
theorem wC_X1_takeBack : Cond.code yX1_takeBack cX1_takeBack 2 none ∈ ww := ww_of (List.mem_of_getElem? (i := 558) (by decide +kernel)) rfl
theorem wC_X5_save : Cond.code yX5_save cX5_save 1 (some .int) ∈ ww := ww_of (List.mem_of_getElem? (i := 562) (by decide +kernel)) rfl
theorem wC_X5_restore : Cond.code yX5_restore cX5_restore 1 (some .int) ∈ ww := ww_of (List.mem_of_getElem? (i := 566) (by decide +kernel)) rfl
theorem wC_X6_init : Cond.code yX6_init cX6_init 2 none ∈ ww := ww_of (List.mem_of_getElem? (i := 571) (by decide +kernel)) rfl
theorem wC_X6_lays : Cond.code yX6_lays cX6_lays 4 none ∈ ww := ww_of (List.mem_of_getElem? (i := 576) (by decide +kernel)) rfl
theorem wC_X6_undo : Cond.code yX6_undo cX6_undo 2 (some .int) ∈ ww := ww_of (List.mem_of_getElem? (i := 617) (by decide +kernel)) rfl
theorem wC_X6_save : Cond.code yX6_save cX6_save 2 (some .int) ∈ ww := ww_of (List.mem_of_getElem? (i := 621) (by decide +kernel)) rfl
theorem wC_X6_restore : Cond.code yX6_restore cX6_restore 2 (some .int) ∈ ww := ww_of (List.mem_of_getElem? (i := 625) (by decide +kernel)) rfl
theorem wC_X6_record : Cond.code yX6_record cX6_record 2 none ∈ ww := ww_of (List.mem_of_getElem? (i := 629) (by decide +kernel)) rfl
theorem wC_X6_set : Cond.code yX6_set cX6_set 4 (some .int) ∈ ww := ww_of (List.mem_of_getElem? (i := 633) (by decide +kernel)) rfl
theorem wC_X6_isInRange : Cond.code yX6_isInRange cX6_isInRange 2 (some .boolean) ∈ ww := ww_of (List.mem_of_getElem? (i := 636) (by decide +kernel)) rfl
theorem wC_X6_in : Cond.code yX6_in cX6_in 3 (some .boolean) ∈ ww := ww_of (List.mem_of_getElem? (i := 639) (by decide +kernel)) rfl
theorem wC_X6_setting : Cond.code yX6_setting cX6_setting 2 (some .int) ∈ ww := ww_of (List.mem_of_getElem? (i := 643) (by decide +kernel)) rfl
theorem wC_X6_gear : Cond.code yX6_gear cX6_gear 4 (some .int) ∈ ww := ww_of (List.mem_of_getElem? (i := 647) (by decide +kernel)) rfl
theorem wC_X6_isFace : Cond.code yX6_isFace cX6_isFace 1 (some .boolean) ∈ ww := ww_of (List.mem_of_getElem? (i := 650) (by decide +kernel)) rfl
theorem wC_X6_of : Cond.code yX6_of cX6_of 3 (some .int) ∈ ww := ww_of (List.mem_of_getElem? (i := 654) (by decide +kernel)) rfl
theorem wC_X6_oil : Cond.code yX6_oil cX6_oil 2 (some .int) ∈ ww := ww_of (List.mem_of_getElem? (i := 658) (by decide +kernel)) rfl
theorem wC_X6_oils : Cond.code yX6_oils cX6_oils 2 (some .int) ∈ ww := ww_of (List.mem_of_getElem? (i := 662) (by decide +kernel)) rfl
theorem wC_X6_dial : Cond.code yX6_dial cX6_dial 3 (some .int) ∈ ww := ww_of (List.mem_of_getElem? (i := 666) (by decide +kernel)) rfl
theorem wC_X6_dials : Cond.code yX6_dials cX6_dials 4 (some .int) ∈ ww := ww_of (List.mem_of_getElem? (i := 670) (by decide +kernel)) rfl
theorem wC_X6_distance : Cond.code yX6_distance cX6_distance 3 (some .int) ∈ ww := ww_of (List.mem_of_getElem? (i := 673) (by decide +kernel)) rfl
theorem wC_X6_bell : Cond.code yX6_bell cX6_bell 2 (some .int) ∈ ww := ww_of (List.mem_of_getElem? (i := 677) (by decide +kernel)) rfl
theorem wC_X6_hangs : Cond.code yX6_hangs cX6_hangs 2 (some .int) ∈ ww := ww_of (List.mem_of_getElem? (i := 681) (by decide +kernel)) rfl
theorem wC_X6_pass : Cond.code yX6_pass cX6_pass 3 (some .int) ∈ ww := ww_of (List.mem_of_getElem? (i := 685) (by decide +kernel)) rfl
theorem wC_X6_whyNotPass : Cond.code yX6_whyNotPass cX6_whyNotPass 2 (some .int) ∈ ww := ww_of (List.mem_of_getElem? (i := 689) (by decide +kernel)) rfl
theorem wC_X6_passes : Cond.code yX6_passes cX6_passes 4 (some .int) ∈ ww := ww_of (List.mem_of_getElem? (i := 694) (by decide +kernel)) rfl
theorem wC_X6_minute : Cond.code yX6_minute cX6_minute 3 (some .int) ∈ ww := ww_of (List.mem_of_getElem? (i := 698) (by decide +kernel)) rfl
theorem wC_X6_turns : Cond.code yX6_turns cX6_turns 5 (some .int) ∈ ww := ww_of (List.mem_of_getElem? (i := 702) (by decide +kernel)) rfl
theorem wC_X6_strikesAt : Cond.code yX6_strikesAt cX6_strikesAt 1 (some .int) ∈ ww := ww_of (List.mem_of_getElem? (i := 705) (by decide +kernel)) rfl
theorem wC_X6_minuteOfDay : Cond.code yX6_minuteOfDay cX6_minuteOfDay 1 (some .int) ∈ ww := ww_of (List.mem_of_getElem? (i := 709) (by decide +kernel)) rfl
theorem wC_X6_resets : Cond.code yX6_resets cX6_resets 4 (some .int) ∈ ww := ww_of (List.mem_of_getElem? (i := 713) (by decide +kernel)) rfl
theorem wC_X6_onWatch : Cond.code yX6_onWatch cX6_onWatch 4 (some .int) ∈ ww := ww_of (List.mem_of_getElem? (i := 717) (by decide +kernel)) rfl
theorem wC_X6_since : Cond.code yX6_since cX6_since 3 (some .int) ∈ ww := ww_of (List.mem_of_getElem? (i := 721) (by decide +kernel)) rfl
theorem wC_X6_startOf : Cond.code yX6_startOf cX6_startOf 2 (some .int) ∈ ww := ww_of (List.mem_of_getElem? (i := 725) (by decide +kernel)) rfl
theorem wC_X6_timeOf : Cond.code yX6_timeOf cX6_timeOf 2 (some .int) ∈ ww := ww_of (List.mem_of_getElem? (i := 729) (by decide +kernel)) rfl
theorem wC_X6_wrongOf : Cond.code yX6_wrongOf cX6_wrongOf 2 (some .int) ∈ ww := ww_of (List.mem_of_getElem? (i := 733) (by decide +kernel)) rfl
theorem wC_X6_hire : Cond.code yX6_hire cX6_hire 4 (some .int) ∈ ww := ww_of (List.mem_of_getElem? (i := 737) (by decide +kernel)) rfl
theorem wC_X6_whyNotHire : Cond.code yX6_whyNotHire cX6_whyNotHire 3 (some .int) ∈ ww := ww_of (List.mem_of_getElem? (i := 741) (by decide +kernel)) rfl
theorem wC_X6_keeperBy : Cond.code yX6_keeperBy cX6_keeperBy 4 (some .int) ∈ ww := ww_of (List.mem_of_getElem? (i := 745) (by decide +kernel)) rfl
theorem wC_X6_hires : Cond.code yX6_hires cX6_hires 3 (some .int) ∈ ww := ww_of (List.mem_of_getElem? (i := 749) (by decide +kernel)) rfl
theorem wC_X6_dismiss : Cond.code yX6_dismiss cX6_dismiss 4 (some .int) ∈ ww := ww_of (List.mem_of_getElem? (i := 753) (by decide +kernel)) rfl
theorem wC_X6_reset : Cond.code yX6_reset cX6_reset 1 (some .int) ∈ ww := ww_of (List.mem_of_getElem? (i := 757) (by decide +kernel)) rfl
theorem wC_X6_keeper : Cond.code yX6_keeper cX6_keeper 7 (some .int) ∈ ww := ww_of (List.mem_of_getElem? (i := 761) (by decide +kernel)) rfl
theorem wC_X6_keeperTime : Cond.code yX6_keeperTime cX6_keeperTime 1 (some .int) ∈ ww := ww_of (List.mem_of_getElem? (i := 765) (by decide +kernel)) rfl
theorem wC_X6_face : Cond.code yX6_face cX6_face 3 (some .int) ∈ ww := ww_of (List.mem_of_getElem? (i := 769) (by decide +kernel)) rfl
theorem wC_X6_total : Cond.code yX6_total cX6_total 2 (some .int) ∈ ww := ww_of (List.mem_of_getElem? (i := 773) (by decide +kernel)) rfl
theorem wC_X6_sum : Cond.code yX6_sum cX6_sum 4 (some .int) ∈ ww := ww_of (List.mem_of_getElem? (i := 777) (by decide +kernel)) rfl
theorem wC_X6_spread : Cond.code yX6_spread cX6_spread 5 (some .int) ∈ ww := ww_of (List.mem_of_getElem? (i := 781) (by decide +kernel)) rfl
theorem wC_X6_majority : Cond.code yX6_majority cX6_majority 6 (some .int) ∈ ww := ww_of (List.mem_of_getElem? (i := 785) (by decide +kernel)) rfl
theorem wC_X6_coming : Cond.code yX6_coming cX6_coming 7 (some .int) ∈ ww := ww_of (List.mem_of_getElem? (i := 789) (by decide +kernel)) rfl
theorem wC_X6_spreadIn : Cond.code yX6_spreadIn cX6_spreadIn 3 (some .int) ∈ ww := ww_of (List.mem_of_getElem? (i := 793) (by decide +kernel)) rfl
theorem wC_X6_putAside : Cond.code yX6_putAside cX6_putAside 2 none ∈ ww := ww_of (List.mem_of_getElem? (i := 797) (by decide +kernel)) rfl
theorem wC_X6_takeBack : Cond.code yX6_takeBack cX6_takeBack 2 none ∈ ww := ww_of (List.mem_of_getElem? (i := 801) (by decide +kernel)) rfl
theorem wC_X6_minutesTo : Cond.code yX6_minutesTo cX6_minutesTo 4 (some .int) ∈ ww := ww_of (List.mem_of_getElem? (i := 805) (by decide +kernel)) rfl
theorem wC_X6_bestOil : Cond.code yX6_bestOil cX6_bestOil 6 (some .int) ∈ ww := ww_of (List.mem_of_getElem? (i := 809) (by decide +kernel)) rfl
theorem wC_X6_append : Cond.code yX6_append cX6_append 2 (some .int) ∈ ww := ww_of (List.mem_of_getElem? (i := 813) (by decide +kernel)) rfl
theorem wC_X6_clearText : Cond.code yX6_clearText cX6_clearText 2 (some .int) ∈ ww := ww_of (List.mem_of_getElem? (i := 817) (by decide +kernel)) rfl
theorem wC_X6_errorPosition : Cond.code yX6_errorPosition cX6_errorPosition 2 (some .int) ∈ ww := ww_of (List.mem_of_getElem? (i := 821) (by decide +kernel)) rfl
theorem wC_X6_readWork : Cond.code yX6_readWork cX6_readWork 4 none ∈ ww := ww_of (List.mem_of_getElem? (i := 825) (by decide +kernel)) rfl
theorem wC_X6_letter : Cond.code yX6_letter cX6_letter 1 (some .int) ∈ ww := ww_of (List.mem_of_getElem? (i := 829) (by decide +kernel)) rfl
theorem wC_X6_wants : Cond.code yX6_wants cX6_wants 2 none ∈ ww := ww_of (List.mem_of_getElem? (i := 833) (by decide +kernel)) rfl
theorem wC_X6_figure : Cond.code yX6_figure cX6_figure 3 (some .int) ∈ ww := ww_of (List.mem_of_getElem? (i := 837) (by decide +kernel)) rfl
theorem wC_X6_clock : Cond.code yX6_clock cX6_clock 4 (some .int) ∈ ww := ww_of (List.mem_of_getElem? (i := 841) (by decide +kernel)) rfl
theorem wC_X6_number : Cond.code yX6_number cX6_number 6 (some .int) ∈ ww := ww_of (List.mem_of_getElem? (i := 845) (by decide +kernel)) rfl
theorem wC_X6_work : Cond.code yX6_work cX6_work 2 (some .int) ∈ ww := ww_of (List.mem_of_getElem? (i := 849) (by decide +kernel)) rfl
theorem wC_X6_doOne : Cond.code yX6_doOne cX6_doOne 5 (some .int) ∈ ww := ww_of (List.mem_of_getElem? (i := 854) (by decide +kernel)) rfl
theorem wI_RL : Cond.initialized RL ∈ ww := ww_of (List.mem_of_getElem? (i := 41) (by decide +kernel)) rfl
theorem wI_RX5 : Cond.initialized RX5 ∈ ww := ww_of (List.mem_of_getElem? (i := 42) (by decide +kernel)) rfl
theorem wI_RX3 : Cond.initialized RX3 ∈ ww := ww_of (List.mem_of_getElem? (i := 43) (by decide +kernel)) rfl
theorem wI_RX2 : Cond.initialized RX2 ∈ ww := ww_of (List.mem_of_getElem? (i := 44) (by decide +kernel)) rfl
theorem wI_RX0 : Cond.initialized RX0 ∈ ww := ww_of (List.mem_of_getElem? (i := 45) (by decide +kernel)) rfl
theorem wI_RJ10 : Cond.initialized RJ10 ∈ ww := ww_of (List.mem_of_getElem? (i := 46) (by decide +kernel)) rfl
theorem wI_RX1 : Cond.initialized RX1 ∈ ww := ww_of (List.mem_of_getElem? (i := 47) (by decide +kernel)) rfl
theorem wI_RX4 : Cond.initialized RX4 ∈ ww := ww_of (List.mem_of_getElem? (i := 48) (by decide +kernel)) rfl
theorem wI_RX6 : Cond.initialized RX6 ∈ ww := ww_of (List.mem_of_getElem? (i := 49) (by decide +kernel)) rfl
theorem wI_RJ9 : Cond.initialized RJ9 ∈ ww := ww_of (List.mem_of_getElem? (i := 50) (by decide +kernel)) rfl
theorem yf_X5_init : yfc yX5_init cX5_init 1 none 0 := ⟨wC_X5_init, wI_RX5, by decide +kernel⟩
theorem yf_X3_init : yfc yX3_init cX3_init 2 none 0 := ⟨wC_X3_init, wI_RX3, by decide +kernel⟩
theorem yf_X2_init : yfc yX2_init cX2_init 1 none 0 := ⟨wC_X2_init, wI_RX2, by decide +kernel⟩
theorem yf_X0_init : yfc yX0_init cX0_init 2 none 1 := ⟨wC_X0_init, wI_RX0, by decide +kernel⟩
theorem yf_X1_init : yfc yX1_init cX1_init 2 none 0 := ⟨wC_X1_init, wI_RX1, by decide +kernel⟩
theorem yf_X4_init : yfc yX4_init cX4_init 1 none 0 := ⟨wC_X4_init, wI_RX4, by decide +kernel⟩
theorem yf_X5_set : yfc yX5_set cX5_set 4 (some .int) 2 := ⟨wC_X5_set, wI_RX5, by decide +kernel⟩
theorem yf_X5_isSetting : yfc yX5_isSetting cX5_isSetting 1 (some .boolean) 1 := ⟨wC_X5_isSetting, wI_RX5, by decide +kernel⟩
theorem yf_X5_isWithin : yfc yX5_isWithin cX5_isWithin 3 (some .boolean) 3 := ⟨wC_X5_isWithin, wI_RX5, by decide +kernel⟩
theorem yf_X1_record : yfc yX1_record cX1_record 2 none 1 := ⟨wC_X1_record, wI_RX1, by decide +kernel⟩
theorem yf_X3_copyFrom : yfc yX3_copyFrom cX3_copyFrom 3 none 1 := ⟨wC_X3_copyFrom, wI_RX3, by decide +kernel⟩
theorem yf_X0_copyFrom : yfc yX0_copyFrom cX0_copyFrom 2 none 1 := ⟨wC_X0_copyFrom, wI_RX0, by decide +kernel⟩
theorem yf_X2_copyFrom : yfc yX2_copyFrom cX2_copyFrom 2 none 1 := ⟨wC_X2_copyFrom, wI_RX2, by decide +kernel⟩
theorem yf_X5_setting : yfc yX5_setting cX5_setting 2 (some .int) 1 := ⟨wC_X5_setting, wI_RX5, by decide +kernel⟩
theorem yf_X5_gear : yfc yX5_gear cX5_gear 5 (some .int) 2 := ⟨wC_X5_gear, wI_RX5, by decide +kernel⟩
theorem yf_X3_faceAt : yfc yX3_faceAt cX3_faceAt 2 (some (.object "TowerFaces$Face")) 1 := ⟨wC_X3_faceAt, wI_RX3, by decide +kernel⟩
theorem yf_X5_oil : yfc yX5_oil cX5_oil 3 (some .int) 1 := ⟨wC_X5_oil, wI_RX5, by decide +kernel⟩
theorem yf_X0_takeOil : yfc yX0_takeOil cX0_takeOil 1 none 0 := ⟨wC_X0_takeOil, wI_RX0, by decide +kernel⟩
theorem yf_X5_dial : yfc yX5_dial cX5_dial 5 (some .int) 2 := ⟨wC_X5_dial, wI_RX5, by decide +kernel⟩
theorem yf_X5_distance : yfc yX5_distance cX5_distance 3 (some .int) 2 := ⟨wC_X5_distance, wI_RX5, by decide +kernel⟩
theorem yf_X5_bell : yfc yX5_bell cX5_bell 3 (some .int) 1 := ⟨wC_X5_bell, wI_RX5, by decide +kernel⟩
theorem yf_X5_pass : yfc yX5_pass cX5_pass 3 (some .int) 1 := ⟨wC_X5_pass, wI_RX5, by decide +kernel⟩
theorem yf_X3_errorOfPassing : yfc yX3_errorOfPassing cX3_errorOfPassing 2 (some .int) 1 := ⟨wC_X3_errorOfPassing, wI_RX3, by decide +kernel⟩
theorem yf_X3_passMinutes : yfc yX3_passMinutes cX3_passMinutes 4 (some .int) 1 := ⟨wC_X3_passMinutes, wI_RX3, by decide +kernel⟩
theorem yf_X3_passMinute : yfc yX3_passMinute cX3_passMinute 6 (some .int) 0 := ⟨wC_X3_passMinute, wI_RX3, by decide +kernel⟩
theorem yf_X0_passMinute : yfc yX0_passMinute cX0_passMinute 3 (some .int) 1 := ⟨wC_X0_passMinute, wI_RX0, by decide +kernel⟩
theorem yf_X0_slip : yfc yX0_slip cX0_slip 1 none 0 := ⟨wC_X0_slip, wI_RX0, by decide +kernel⟩
theorem yf_X5_strikesAt : yfc yX5_strikesAt cX5_strikesAt 1 (some .int) 1 := ⟨wC_X5_strikesAt, wI_RX5, by decide +kernel⟩
theorem yf_X3_strainShaft : yfc yX3_strainShaft cX3_strainShaft 5 none 0 := ⟨wC_X3_strainShaft, wI_RX3, by decide +kernel⟩
theorem yf_X0_goBack : yfc yX0_goBack cX0_goBack 1 none 0 := ⟨wC_X0_goBack, wI_RX0, by decide +kernel⟩
theorem yf_X3_minuteOfDay : yfc yX3_minuteOfDay cX3_minuteOfDay 1 (some .int) 0 := ⟨wC_X3_minuteOfDay, wI_RX3, by decide +kernel⟩
theorem yf_X3_resetFaces : yfc yX3_resetFaces cX3_resetFaces 7 (some .int) 0 := ⟨wC_X3_resetFaces, wI_RX3, by decide +kernel⟩
theorem yf_X3_timeOfKeeper : yfc yX3_timeOfKeeper cX3_timeOfKeeper 2 (some .int) 0 := ⟨wC_X3_timeOfKeeper, wI_RX3, by decide +kernel⟩
theorem yf_X2_placeAt : yfc yX2_placeAt cX2_placeAt 4 (some .int) 1 := ⟨wC_X2_placeAt, wI_RX2, by decide +kernel⟩
theorem yf_J9_floorMod_7cf53 : yfc yJ9_floorMod_7cf53 cJ9_floorMod_7cf53 3 (some .int) 2 := ⟨wC_J9_floorMod_7cf53, wI_RJ9, by decide +kernel⟩
theorem yf_X5_hire : yfc yX5_hire cX5_hire 4 (some .int) 2 := ⟨wC_X5_hire, wI_RX5, by decide +kernel⟩
theorem yf_X2_errorOfAdding : yfc yX2_errorOfAdding cX2_errorOfAdding 3 (some .int) 2 := ⟨wC_X2_errorOfAdding, wI_RX2, by decide +kernel⟩
theorem yf_X2_hasStart : yfc yX2_hasStart cX2_hasStart 3 (some .boolean) 1 := ⟨wC_X2_hasStart, wI_RX2, by decide +kernel⟩
theorem yf_X2_add : yfc yX2_add cX2_add 4 none 2 := ⟨wC_X2_add, wI_RX2, by decide +kernel⟩
theorem yf_X5_dismiss : yfc yX5_dismiss cX5_dismiss 2 (some .int) 1 := ⟨wC_X5_dismiss, wI_RX5, by decide +kernel⟩
theorem yf_X2_remove : yfc yX2_remove cX2_remove 5 (some .int) 1 := ⟨wC_X2_remove, wI_RX2, by decide +kernel⟩
theorem yf_X5_reset : yfc yX5_reset cX5_reset 1 (some .int) 0 := ⟨wC_X5_reset, wI_RX5, by decide +kernel⟩
theorem yf_X5_keeper : yfc yX5_keeper cX5_keeper 4 (some .int) 2 := ⟨wC_X5_keeper, wI_RX5, by decide +kernel⟩
theorem yf_X2_minutesToNext : yfc yX2_minutesToNext cX2_minutesToNext 3 (some .int) 1 := ⟨wC_X2_minutesToNext, wI_RX2, by decide +kernel⟩
theorem yf_X5_keeperTime : yfc yX5_keeperTime cX5_keeperTime 1 (some .int) 0 := ⟨wC_X5_keeperTime, wI_RX5, by decide +kernel⟩
theorem yf_X5_face : yfc yX5_face cX5_face 4 (some .int) 2 := ⟨wC_X5_face, wI_RX5, by decide +kernel⟩
theorem yf_X5_total : yfc yX5_total cX5_total 2 (some .int) 1 := ⟨wC_X5_total, wI_RX5, by decide +kernel⟩
theorem yf_X3_slipsOfGears : yfc yX3_slipsOfGears cX3_slipsOfGears 6 (some .int) 0 := ⟨wC_X3_slipsOfGears, wI_RX3, by decide +kernel⟩
theorem yf_X3_strikesOfBells : yfc yX3_strikesOfBells cX3_strikesOfBells 6 (some .int) 0 := ⟨wC_X3_strikesOfBells, wI_RX3, by decide +kernel⟩
theorem yf_X3_spread : yfc yX3_spread cX3_spread 10 (some .int) 0 := ⟨wC_X3_spread, wI_RX3, by decide +kernel⟩
theorem yf_X5_majority : yfc yX5_majority cX5_majority 8 (some .int) 0 := ⟨wC_X5_majority, wI_RX5, by decide +kernel⟩
theorem yf_X3_facesWithDial : yfc yX3_facesWithDial cX3_facesWithDial 7 (some .int) 1 := ⟨wC_X3_facesWithDial, wI_RX3, by decide +kernel⟩
theorem yf_X5_coming : yfc yX5_coming cX5_coming 7 (some .int) 2 := ⟨wC_X5_coming, wI_RX5, by decide +kernel⟩
theorem yf_X3_bells : yfc yX3_bells cX3_bells 6 (some .int) 0 := ⟨wC_X3_bells, wI_RX3, by decide +kernel⟩
theorem yf_X3_faceOfBellInRound : yfc yX3_faceOfBellInRound cX3_faceOfBellInRound 6 (some .int) 1 := ⟨wC_X3_faceOfBellInRound, wI_RX3, by decide +kernel⟩
theorem yf_X0_minutesToHour : yfc yX0_minutesToHour cX0_minutesToHour 1 (some .int) 0 := ⟨wC_X0_minutesToHour, wI_RX0, by decide +kernel⟩
theorem yf_X5_spreadIn : yfc yX5_spreadIn cX5_spreadIn 2 (some .int) 1 := ⟨wC_X5_spreadIn, wI_RX5, by decide +kernel⟩
theorem yf_X5_minutesTo : yfc yX5_minutesTo cX5_minutesTo 3 (some .int) 1 := ⟨wC_X5_minutesTo, wI_RX5, by decide +kernel⟩
theorem yf_X5_bestOil : yfc yX5_bestOil cX5_bestOil 5 (some .int) 0 := ⟨wC_X5_bestOil, wI_RX5, by decide +kernel⟩
theorem yf_X5_errorAfterOil : yfc yX5_errorAfterOil cX5_errorAfterOil 3 (some .int) 1 := ⟨wC_X5_errorAfterOil, wI_RX5, by decide +kernel⟩
theorem yf_X3_distancesFromTime : yfc yX3_distancesFromTime cX3_distancesFromTime 6 (some .int) 0 := ⟨wC_X3_distancesFromTime, wI_RX3, by decide +kernel⟩
theorem yf_X5_append : yfc yX5_append cX5_append 2 (some .int) 1 := ⟨wC_X5_append, wI_RX5, by decide +kernel⟩
theorem yf_X4_add : yfc yX4_add cX4_add 2 none 1 := ⟨wC_X4_add, wI_RX4, by decide +kernel⟩
theorem yf_X5_clearText : yfc yX5_clearText cX5_clearText 2 (some .int) 0 := ⟨wC_X5_clearText, wI_RX5, by decide +kernel⟩
theorem yf_X5_errorPosition : yfc yX5_errorPosition cX5_errorPosition 1 (some .int) 0 := ⟨wC_X5_errorPosition, wI_RX5, by decide +kernel⟩
theorem yf_X4_firstError : yfc yX4_firstError cX4_firstError 2 (some .int) 0 := ⟨wC_X4_firstError, wI_RX4, by decide +kernel⟩
theorem yf_X4_goToStart : yfc yX4_goToStart cX4_goToStart 1 none 0 := ⟨wC_X4_goToStart, wI_RX4, by decide +kernel⟩
theorem yf_X4_readWork : yfc yX4_readWork cX4_readWork 1 (some .boolean) 0 := ⟨wC_X4_readWork, wI_RX4, by decide +kernel⟩
theorem yf_X4_readFace : yfc yX4_readFace cX4_readFace 1 (some .boolean) 0 := ⟨wC_X4_readFace, wI_RX4, by decide +kernel⟩
theorem yf_X4_readDigit : yfc yX4_readDigit cX4_readDigit 4 (some .int) 2 := ⟨wC_X4_readDigit, wI_RX4, by decide +kernel⟩
theorem yf_X4_readClock : yfc yX4_readClock cX4_readClock 5 (some .boolean) 0 := ⟨wC_X4_readClock, wI_RX4, by decide +kernel⟩
theorem yf_X4_readSign : yfc yX4_readSign cX4_readSign 2 (some .boolean) 1 := ⟨wC_X4_readSign, wI_RX4, by decide +kernel⟩
theorem yf_X4_readWrong : yfc yX4_readWrong cX4_readWrong 2 (some .boolean) 0 := ⟨wC_X4_readWrong, wI_RX4, by decide +kernel⟩
theorem yf_X4_readNumber : yfc yX4_readNumber cX4_readNumber 5 (some .boolean) 2 := ⟨wC_X4_readNumber, wI_RX4, by decide +kernel⟩
theorem yf_X5_work : yfc yX5_work cX5_work 2 (some .int) 0 := ⟨wC_X5_work, wI_RX5, by decide +kernel⟩
theorem yf_X5_doWork : yfc yX5_doWork cX5_doWork 1 (some .boolean) 0 := ⟨wC_X5_doWork, wI_RX5, by decide +kernel⟩
theorem yf_X5_workOnFace : yfc yX5_workOnFace cX5_workOnFace 2 (some .boolean) 1 := ⟨wC_X5_workOnFace, wI_RX5, by decide +kernel⟩
theorem yf_X5_undo : yfc yX5_undo cX5_undo 1 (some .int) 0 := ⟨wC_X5_undo, wI_RX5, by decide +kernel⟩
theorem yf_X1_takeBack : yfc yX1_takeBack cX1_takeBack 2 none 1 := ⟨wC_X1_takeBack, wI_RX1, by decide +kernel⟩
theorem yf_X5_save : yfc yX5_save cX5_save 1 (some .int) 0 := ⟨wC_X5_save, wI_RX5, by decide +kernel⟩
theorem yf_X5_restore : yfc yX5_restore cX5_restore 1 (some .int) 0 := ⟨wC_X5_restore, wI_RX5, by decide +kernel⟩
theorem yf_X6_init : yfc yX6_init cX6_init 2 none 0 := ⟨wC_X6_init, wI_RX6, by decide +kernel⟩
theorem yf_X6_lays : yfc yX6_lays cX6_lays 4 none 3 := ⟨wC_X6_lays, wI_RX6, by decide +kernel⟩
theorem yf_X6_undo : yfc yX6_undo cX6_undo 2 (some .int) 0 := ⟨wC_X6_undo, wI_RX6, by decide +kernel⟩
theorem yf_X6_save : yfc yX6_save cX6_save 2 (some .int) 0 := ⟨wC_X6_save, wI_RX6, by decide +kernel⟩
theorem yf_X6_restore : yfc yX6_restore cX6_restore 2 (some .int) 0 := ⟨wC_X6_restore, wI_RX6, by decide +kernel⟩
theorem yf_X6_record : yfc yX6_record cX6_record 2 none 0 := ⟨wC_X6_record, wI_RX6, by decide +kernel⟩
theorem yf_X6_set : yfc yX6_set cX6_set 4 (some .int) 2 := ⟨wC_X6_set, wI_RX6, by decide +kernel⟩
theorem yf_X6_isInRange : yfc yX6_isInRange cX6_isInRange 2 (some .boolean) 2 := ⟨wC_X6_isInRange, wI_RX6, by decide +kernel⟩
theorem yf_X6_in : yfc yX6_in cX6_in 3 (some .boolean) 3 := ⟨wC_X6_in, wI_RX6, by decide +kernel⟩
theorem yf_X6_setting : yfc yX6_setting cX6_setting 2 (some .int) 1 := ⟨wC_X6_setting, wI_RX6, by decide +kernel⟩
theorem yf_X6_gear : yfc yX6_gear cX6_gear 4 (some .int) 2 := ⟨wC_X6_gear, wI_RX6, by decide +kernel⟩
theorem yf_X6_isFace : yfc yX6_isFace cX6_isFace 1 (some .boolean) 1 := ⟨wC_X6_isFace, wI_RX6, by decide +kernel⟩
theorem yf_X6_of : yfc yX6_of cX6_of 3 (some .int) 2 := ⟨wC_X6_of, wI_RX6, by decide +kernel⟩
theorem yf_X6_oil : yfc yX6_oil cX6_oil 2 (some .int) 1 := ⟨wC_X6_oil, wI_RX6, by decide +kernel⟩
theorem yf_X6_oils : yfc yX6_oils cX6_oils 2 (some .int) 1 := ⟨wC_X6_oils, wI_RX6, by decide +kernel⟩
theorem yf_X6_dial : yfc yX6_dial cX6_dial 3 (some .int) 2 := ⟨wC_X6_dial, wI_RX6, by decide +kernel⟩
theorem yf_X6_dials : yfc yX6_dials cX6_dials 4 (some .int) 2 := ⟨wC_X6_dials, wI_RX6, by decide +kernel⟩
theorem yf_X6_distance : yfc yX6_distance cX6_distance 3 (some .int) 2 := ⟨wC_X6_distance, wI_RX6, by decide +kernel⟩
theorem yf_X6_bell : yfc yX6_bell cX6_bell 2 (some .int) 1 := ⟨wC_X6_bell, wI_RX6, by decide +kernel⟩
theorem yf_X6_hangs : yfc yX6_hangs cX6_hangs 2 (some .int) 1 := ⟨wC_X6_hangs, wI_RX6, by decide +kernel⟩
theorem yf_X6_pass : yfc yX6_pass cX6_pass 3 (some .int) 1 := ⟨wC_X6_pass, wI_RX6, by decide +kernel⟩
theorem yf_X6_whyNotPass : yfc yX6_whyNotPass cX6_whyNotPass 2 (some .int) 1 := ⟨wC_X6_whyNotPass, wI_RX6, by decide +kernel⟩
theorem yf_X6_passes : yfc yX6_passes cX6_passes 4 (some .int) 1 := ⟨wC_X6_passes, wI_RX6, by decide +kernel⟩
theorem yf_X6_minute : yfc yX6_minute cX6_minute 3 (some .int) 0 := ⟨wC_X6_minute, wI_RX6, by decide +kernel⟩
theorem yf_X6_turns : yfc yX6_turns cX6_turns 5 (some .int) 1 := ⟨wC_X6_turns, wI_RX6, by decide +kernel⟩
theorem yf_X6_strikesAt : yfc yX6_strikesAt cX6_strikesAt 1 (some .int) 1 := ⟨wC_X6_strikesAt, wI_RX6, by decide +kernel⟩
theorem yf_X6_minuteOfDay : yfc yX6_minuteOfDay cX6_minuteOfDay 1 (some .int) 0 := ⟨wC_X6_minuteOfDay, wI_RX6, by decide +kernel⟩
theorem yf_X6_resets : yfc yX6_resets cX6_resets 4 (some .int) 0 := ⟨wC_X6_resets, wI_RX6, by decide +kernel⟩
theorem yf_X6_onWatch : yfc yX6_onWatch cX6_onWatch 4 (some .int) 1 := ⟨wC_X6_onWatch, wI_RX6, by decide +kernel⟩
theorem yf_X6_since : yfc yX6_since cX6_since 3 (some .int) 2 := ⟨wC_X6_since, wI_RX6, by decide +kernel⟩
theorem yf_X6_startOf : yfc yX6_startOf cX6_startOf 2 (some .int) 1 := ⟨wC_X6_startOf, wI_RX6, by decide +kernel⟩
theorem yf_X6_timeOf : yfc yX6_timeOf cX6_timeOf 2 (some .int) 1 := ⟨wC_X6_timeOf, wI_RX6, by decide +kernel⟩
theorem yf_X6_wrongOf : yfc yX6_wrongOf cX6_wrongOf 2 (some .int) 1 := ⟨wC_X6_wrongOf, wI_RX6, by decide +kernel⟩
theorem yf_X6_hire : yfc yX6_hire cX6_hire 4 (some .int) 2 := ⟨wC_X6_hire, wI_RX6, by decide +kernel⟩
theorem yf_X6_whyNotHire : yfc yX6_whyNotHire cX6_whyNotHire 3 (some .int) 2 := ⟨wC_X6_whyNotHire, wI_RX6, by decide +kernel⟩
theorem yf_X6_keeperBy : yfc yX6_keeperBy cX6_keeperBy 4 (some .int) 1 := ⟨wC_X6_keeperBy, wI_RX6, by decide +kernel⟩
theorem yf_X6_hires : yfc yX6_hires cX6_hires 3 (some .int) 2 := ⟨wC_X6_hires, wI_RX6, by decide +kernel⟩
theorem yf_X6_dismiss : yfc yX6_dismiss cX6_dismiss 4 (some .int) 1 := ⟨wC_X6_dismiss, wI_RX6, by decide +kernel⟩
theorem yf_X6_reset : yfc yX6_reset cX6_reset 1 (some .int) 0 := ⟨wC_X6_reset, wI_RX6, by decide +kernel⟩
theorem yf_X6_keeper : yfc yX6_keeper cX6_keeper 7 (some .int) 2 := ⟨wC_X6_keeper, wI_RX6, by decide +kernel⟩
theorem yf_X6_keeperTime : yfc yX6_keeperTime cX6_keeperTime 1 (some .int) 0 := ⟨wC_X6_keeperTime, wI_RX6, by decide +kernel⟩
theorem yf_X6_face : yfc yX6_face cX6_face 3 (some .int) 2 := ⟨wC_X6_face, wI_RX6, by decide +kernel⟩
theorem yf_X6_total : yfc yX6_total cX6_total 2 (some .int) 1 := ⟨wC_X6_total, wI_RX6, by decide +kernel⟩
theorem yf_X6_sum : yfc yX6_sum cX6_sum 4 (some .int) 1 := ⟨wC_X6_sum, wI_RX6, by decide +kernel⟩
theorem yf_X6_spread : yfc yX6_spread cX6_spread 5 (some .int) 0 := ⟨wC_X6_spread, wI_RX6, by decide +kernel⟩
theorem yf_X6_majority : yfc yX6_majority cX6_majority 6 (some .int) 0 := ⟨wC_X6_majority, wI_RX6, by decide +kernel⟩
theorem yf_X6_coming : yfc yX6_coming cX6_coming 7 (some .int) 2 := ⟨wC_X6_coming, wI_RX6, by decide +kernel⟩
theorem yf_X6_spreadIn : yfc yX6_spreadIn cX6_spreadIn 3 (some .int) 1 := ⟨wC_X6_spreadIn, wI_RX6, by decide +kernel⟩
theorem yf_X6_putAside : yfc yX6_putAside cX6_putAside 2 none 0 := ⟨wC_X6_putAside, wI_RX6, by decide +kernel⟩
theorem yf_X6_takeBack : yfc yX6_takeBack cX6_takeBack 2 none 0 := ⟨wC_X6_takeBack, wI_RX6, by decide +kernel⟩
theorem yf_X6_minutesTo : yfc yX6_minutesTo cX6_minutesTo 4 (some .int) 1 := ⟨wC_X6_minutesTo, wI_RX6, by decide +kernel⟩
theorem yf_X6_bestOil : yfc yX6_bestOil cX6_bestOil 6 (some .int) 0 := ⟨wC_X6_bestOil, wI_RX6, by decide +kernel⟩
theorem yf_X6_append : yfc yX6_append cX6_append 2 (some .int) 1 := ⟨wC_X6_append, wI_RX6, by decide +kernel⟩
theorem yf_X6_clearText : yfc yX6_clearText cX6_clearText 2 (some .int) 0 := ⟨wC_X6_clearText, wI_RX6, by decide +kernel⟩
theorem yf_X6_errorPosition : yfc yX6_errorPosition cX6_errorPosition 2 (some .int) 0 := ⟨wC_X6_errorPosition, wI_RX6, by decide +kernel⟩
theorem yf_X6_readWork : yfc yX6_readWork cX6_readWork 4 none 0 := ⟨wC_X6_readWork, wI_RX6, by decide +kernel⟩
theorem yf_X6_letter : yfc yX6_letter cX6_letter 1 (some .int) 0 := ⟨wC_X6_letter, wI_RX6, by decide +kernel⟩
theorem yf_X6_wants : yfc yX6_wants cX6_wants 2 none 1 := ⟨wC_X6_wants, wI_RX6, by decide +kernel⟩
theorem yf_X6_figure : yfc yX6_figure cX6_figure 3 (some .int) 1 := ⟨wC_X6_figure, wI_RX6, by decide +kernel⟩
theorem yf_X6_clock : yfc yX6_clock cX6_clock 4 (some .int) 0 := ⟨wC_X6_clock, wI_RX6, by decide +kernel⟩
theorem yf_X6_number : yfc yX6_number cX6_number 6 (some .int) 2 := ⟨wC_X6_number, wI_RX6, by decide +kernel⟩
theorem yf_X6_work : yfc yX6_work cX6_work 2 (some .int) 0 := ⟨wC_X6_work, wI_RX6, by decide +kernel⟩
theorem yf_X6_doOne : yfc yX6_doOne cX6_doOne 5 (some .int) 1 := ⟨wC_X6_doOne, wI_RX6, by decide +kernel⟩
theorem yl_X0_slip : Cond.selects RX0 yX0_slip yX0_slip ∈ ww := ww_of (List.mem_of_getElem? (i := 0) (by decide +kernel)) rfl
theorem yl_X3_strainShaft : Cond.selects RX3 yX3_strainShaft yX3_strainShaft ∈ ww := ww_of (List.mem_of_getElem? (i := 1) (by decide +kernel)) rfl
theorem yl_X5_errorAfterOil : Cond.selects RX5 yX5_errorAfterOil yX5_errorAfterOil ∈ ww := ww_of (List.mem_of_getElem? (i := 2) (by decide +kernel)) rfl
theorem yl_X4_readFace : Cond.selects RX4 yX4_readFace yX4_readFace ∈ ww := ww_of (List.mem_of_getElem? (i := 3) (by decide +kernel)) rfl
theorem yl_X4_readDigit : Cond.selects RX4 yX4_readDigit yX4_readDigit ∈ ww := ww_of (List.mem_of_getElem? (i := 4) (by decide +kernel)) rfl
theorem yl_X4_readClock : Cond.selects RX4 yX4_readClock yX4_readClock ∈ ww := ww_of (List.mem_of_getElem? (i := 5) (by decide +kernel)) rfl
theorem yl_X4_readWrong : Cond.selects RX4 yX4_readWrong yX4_readWrong ∈ ww := ww_of (List.mem_of_getElem? (i := 6) (by decide +kernel)) rfl
theorem yl_X4_readNumber : Cond.selects RX4 yX4_readNumber yX4_readNumber ∈ ww := ww_of (List.mem_of_getElem? (i := 7) (by decide +kernel)) rfl
theorem yl_X5_doWork : Cond.selects RX5 yX5_doWork yX5_doWork ∈ ww := ww_of (List.mem_of_getElem? (i := 8) (by decide +kernel)) rfl
theorem yl_X5_workOnFace : Cond.selects RX5 yX5_workOnFace yX5_workOnFace ∈ ww := ww_of (List.mem_of_getElem? (i := 9) (by decide +kernel)) rfl
theorem yl_X6_lays : Cond.selects RX6 yX6_lays yX6_lays ∈ ww := ww_of (List.mem_of_getElem? (i := 10) (by decide +kernel)) rfl
theorem yl_X6_record : Cond.selects RX6 yX6_record yX6_record ∈ ww := ww_of (List.mem_of_getElem? (i := 11) (by decide +kernel)) rfl
theorem yl_X6_of : Cond.selects RX6 yX6_of yX6_of ∈ ww := ww_of (List.mem_of_getElem? (i := 12) (by decide +kernel)) rfl
theorem yl_X6_oils : Cond.selects RX6 yX6_oils yX6_oils ∈ ww := ww_of (List.mem_of_getElem? (i := 13) (by decide +kernel)) rfl
theorem yl_X6_dials : Cond.selects RX6 yX6_dials yX6_dials ∈ ww := ww_of (List.mem_of_getElem? (i := 14) (by decide +kernel)) rfl
theorem yl_X6_hangs : Cond.selects RX6 yX6_hangs yX6_hangs ∈ ww := ww_of (List.mem_of_getElem? (i := 15) (by decide +kernel)) rfl
theorem yl_X6_whyNotPass : Cond.selects RX6 yX6_whyNotPass yX6_whyNotPass ∈ ww := ww_of (List.mem_of_getElem? (i := 16) (by decide +kernel)) rfl
theorem yl_X6_passes : Cond.selects RX6 yX6_passes yX6_passes ∈ ww := ww_of (List.mem_of_getElem? (i := 17) (by decide +kernel)) rfl
theorem yl_X6_minute : Cond.selects RX6 yX6_minute yX6_minute ∈ ww := ww_of (List.mem_of_getElem? (i := 18) (by decide +kernel)) rfl
theorem yl_X6_turns : Cond.selects RX6 yX6_turns yX6_turns ∈ ww := ww_of (List.mem_of_getElem? (i := 19) (by decide +kernel)) rfl
theorem yl_X6_minuteOfDay : Cond.selects RX6 yX6_minuteOfDay yX6_minuteOfDay ∈ ww := ww_of (List.mem_of_getElem? (i := 20) (by decide +kernel)) rfl
theorem yl_X6_resets : Cond.selects RX6 yX6_resets yX6_resets ∈ ww := ww_of (List.mem_of_getElem? (i := 21) (by decide +kernel)) rfl
theorem yl_X6_onWatch : Cond.selects RX6 yX6_onWatch yX6_onWatch ∈ ww := ww_of (List.mem_of_getElem? (i := 22) (by decide +kernel)) rfl
theorem yl_X6_since : Cond.selects RX6 yX6_since yX6_since ∈ ww := ww_of (List.mem_of_getElem? (i := 23) (by decide +kernel)) rfl
theorem yl_X6_startOf : Cond.selects RX6 yX6_startOf yX6_startOf ∈ ww := ww_of (List.mem_of_getElem? (i := 24) (by decide +kernel)) rfl
theorem yl_X6_timeOf : Cond.selects RX6 yX6_timeOf yX6_timeOf ∈ ww := ww_of (List.mem_of_getElem? (i := 25) (by decide +kernel)) rfl
theorem yl_X6_wrongOf : Cond.selects RX6 yX6_wrongOf yX6_wrongOf ∈ ww := ww_of (List.mem_of_getElem? (i := 26) (by decide +kernel)) rfl
theorem yl_X6_whyNotHire : Cond.selects RX6 yX6_whyNotHire yX6_whyNotHire ∈ ww := ww_of (List.mem_of_getElem? (i := 27) (by decide +kernel)) rfl
theorem yl_X6_keeperBy : Cond.selects RX6 yX6_keeperBy yX6_keeperBy ∈ ww := ww_of (List.mem_of_getElem? (i := 28) (by decide +kernel)) rfl
theorem yl_X6_hires : Cond.selects RX6 yX6_hires yX6_hires ∈ ww := ww_of (List.mem_of_getElem? (i := 29) (by decide +kernel)) rfl
theorem yl_X6_sum : Cond.selects RX6 yX6_sum yX6_sum ∈ ww := ww_of (List.mem_of_getElem? (i := 30) (by decide +kernel)) rfl
theorem yl_X6_spread : Cond.selects RX6 yX6_spread yX6_spread ∈ ww := ww_of (List.mem_of_getElem? (i := 31) (by decide +kernel)) rfl
theorem yl_X6_putAside : Cond.selects RX6 yX6_putAside yX6_putAside ∈ ww := ww_of (List.mem_of_getElem? (i := 32) (by decide +kernel)) rfl
theorem yl_X6_takeBack : Cond.selects RX6 yX6_takeBack yX6_takeBack ∈ ww := ww_of (List.mem_of_getElem? (i := 33) (by decide +kernel)) rfl
theorem yl_X6_readWork : Cond.selects RX6 yX6_readWork yX6_readWork ∈ ww := ww_of (List.mem_of_getElem? (i := 34) (by decide +kernel)) rfl
theorem yl_X6_letter : Cond.selects RX6 yX6_letter yX6_letter ∈ ww := ww_of (List.mem_of_getElem? (i := 35) (by decide +kernel)) rfl
theorem yl_X6_wants : Cond.selects RX6 yX6_wants yX6_wants ∈ ww := ww_of (List.mem_of_getElem? (i := 36) (by decide +kernel)) rfl
theorem yl_X6_figure : Cond.selects RX6 yX6_figure yX6_figure ∈ ww := ww_of (List.mem_of_getElem? (i := 37) (by decide +kernel)) rfl
theorem yl_X6_clock : Cond.selects RX6 yX6_clock yX6_clock ∈ ww := ww_of (List.mem_of_getElem? (i := 38) (by decide +kernel)) rfl
theorem yl_X6_number : Cond.selects RX6 yX6_number yX6_number ∈ ww := ww_of (List.mem_of_getElem? (i := 39) (by decide +kernel)) rfl
theorem yl_X6_doOne : Cond.selects RX6 yX6_doOne yX6_doOne ∈ ww := ww_of (List.mem_of_getElem? (i := 40) (by decide +kernel)) rfl
theorem wK_L_7 : Cond.classLink RL 7 RX5 ∈ ww := ww_of (List.mem_of_getElem? (i := 51) (by decide +kernel)) rfl
theorem wN_RX5 : Cond.instantiable RX5 6 ∈ ww := ww_of (List.mem_of_getElem? (i := 52) (by decide +kernel)) rfl
theorem wM_L_9 : Cond.methodLink RL 9 yX5_init ∈ ww := ww_of (List.mem_of_getElem? (i := 53) (by decide +kernel)) rfl
theorem yo_X5_init : Cond.instanceMethod yX5_init ∈ ww := ww_of (List.mem_of_getElem? (i := 54) (by decide +kernel)) rfl
theorem wM_X5_1 : Cond.methodLink RX5 1 objectInit ∈ ww := ww_of (List.mem_of_getElem? (i := 56) (by decide +kernel)) rfl
theorem yo_objectInit : Cond.instanceMethod objectInit ∈ ww := ww_of (List.mem_of_getElem? (i := 57) (by decide +kernel)) rfl
theorem wK_X5_7 : Cond.classLink RX5 7 RX3 ∈ ww := ww_of (List.mem_of_getElem? (i := 59) (by decide +kernel)) rfl
theorem wN_RX3 : Cond.instantiable RX3 7 ∈ ww := ww_of (List.mem_of_getElem? (i := 60) (by decide +kernel)) rfl
theorem wM_X5_9 : Cond.methodLink RX5 9 yX3_init ∈ ww := ww_of (List.mem_of_getElem? (i := 61) (by decide +kernel)) rfl
theorem yo_X3_init : Cond.instanceMethod yX3_init ∈ ww := ww_of (List.mem_of_getElem? (i := 62) (by decide +kernel)) rfl
theorem wM_X3_3 : Cond.methodLink RX3 3 objectInit ∈ ww := ww_of (List.mem_of_getElem? (i := 64) (by decide +kernel)) rfl
theorem wK_X3_9 : Cond.classLink RX3 9 RX0 ∈ ww := ww_of (List.mem_of_getElem? (i := 65) (by decide +kernel)) rfl
theorem wK_X3_17 : Cond.classLink RX3 17 RX2 ∈ ww := ww_of (List.mem_of_getElem? (i := 67) (by decide +kernel)) rfl
theorem wN_RX2 : Cond.instantiable RX2 3 ∈ ww := ww_of (List.mem_of_getElem? (i := 68) (by decide +kernel)) rfl
theorem yo_X2_init : Cond.instanceMethod yX2_init ∈ ww := ww_of (List.mem_of_getElem? (i := 70) (by decide +kernel)) rfl
theorem wM_X2_3 : Cond.methodLink RX2 3 objectInit ∈ ww := ww_of (List.mem_of_getElem? (i := 72) (by decide +kernel)) rfl
theorem wF_X2_9 : Cond.fieldLink RX2 9 "TowerFaces$Keepers" "starts" "[I" ∈ ww := ww_of (List.mem_of_getElem? (i := 73) (by decide +kernel)) rfl
theorem wF_X5_124 : Cond.fieldLink RX5 124 "TowerFaces$Keepers" "starts" "[I" ∈ ww := ww_of (List.mem_of_getElem? (i := 74) (by decide +kernel)) rfl
theorem wF_X2_15 : Cond.fieldLink RX2 15 "TowerFaces$Keepers" "wrongs" "[I" ∈ ww := ww_of (List.mem_of_getElem? (i := 75) (by decide +kernel)) rfl
theorem wF_X3_90 : Cond.fieldLink RX3 90 "TowerFaces$Keepers" "wrongs" "[I" ∈ ww := ww_of (List.mem_of_getElem? (i := 76) (by decide +kernel)) rfl
theorem wF_X5_127 : Cond.fieldLink RX5 127 "TowerFaces$Keepers" "wrongs" "[I" ∈ ww := ww_of (List.mem_of_getElem? (i := 77) (by decide +kernel)) rfl
theorem wF_X2_24 : Cond.fieldLink RX2 24 "TowerFaces$Keepers" "count" "I" ∈ ww := ww_of (List.mem_of_getElem? (i := 78) (by decide +kernel)) rfl
theorem wF_X5_108 : Cond.fieldLink RX5 108 "TowerFaces$Keepers" "count" "I" ∈ ww := ww_of (List.mem_of_getElem? (i := 79) (by decide +kernel)) rfl
theorem wN_RX0 : Cond.instantiable RX0 7 ∈ ww := ww_of (List.mem_of_getElem? (i := 88) (by decide +kernel)) rfl
theorem wM_X3_28 : Cond.methodLink RX3 28 yX0_init ∈ ww := ww_of (List.mem_of_getElem? (i := 89) (by decide +kernel)) rfl
theorem yo_X0_init : Cond.instanceMethod yX0_init ∈ ww := ww_of (List.mem_of_getElem? (i := 90) (by decide +kernel)) rfl
theorem wM_X0_3 : Cond.methodLink RX0 3 objectInit ∈ ww := ww_of (List.mem_of_getElem? (i := 92) (by decide +kernel)) rfl
theorem wF_X0_19 : Cond.fieldLink RX0 19 "TowerFaces$Face" "dial" "I" ∈ ww := ww_of (List.mem_of_getElem? (i := 93) (by decide +kernel)) rfl
theorem wF_X5_77 : Cond.fieldLink RX5 77 "TowerFaces$Face" "dial" "I" ∈ ww := ww_of (List.mem_of_getElem? (i := 94) (by decide +kernel)) rfl
theorem wF_X3_102 : Cond.fieldLink RX3 102 "TowerFaces$Face" "dial" "I" ∈ ww := ww_of (List.mem_of_getElem? (i := 95) (by decide +kernel)) rfl
theorem wF_X0_9 : Cond.fieldLink RX0 9 "TowerFaces$Face" "teeth" "I" ∈ ww := ww_of (List.mem_of_getElem? (i := 96) (by decide +kernel)) rfl
theorem wF_X5_62 : Cond.fieldLink RX5 62 "TowerFaces$Face" "teeth" "I" ∈ ww := ww_of (List.mem_of_getElem? (i := 97) (by decide +kernel)) rfl
theorem wF_X0_22 : Cond.fieldLink RX0 22 "TowerFaces$Face" "strain" "I" ∈ ww := ww_of (List.mem_of_getElem? (i := 98) (by decide +kernel)) rfl
theorem wF_X5_68 : Cond.fieldLink RX5 68 "TowerFaces$Face" "strain" "I" ∈ ww := ww_of (List.mem_of_getElem? (i := 99) (by decide +kernel)) rfl
theorem wF_X3_108 : Cond.fieldLink RX3 108 "TowerFaces$Face" "strain" "I" ∈ ww := ww_of (List.mem_of_getElem? (i := 100) (by decide +kernel)) rfl
theorem wF_X0_25 : Cond.fieldLink RX0 25 "TowerFaces$Face" "wear" "I" ∈ ww := ww_of (List.mem_of_getElem? (i := 101) (by decide +kernel)) rfl
theorem wF_X5_74 : Cond.fieldLink RX5 74 "TowerFaces$Face" "wear" "I" ∈ ww := ww_of (List.mem_of_getElem? (i := 102) (by decide +kernel)) rfl
theorem wF_X3_81 : Cond.fieldLink RX3 81 "TowerFaces$Face" "wear" "I" ∈ ww := ww_of (List.mem_of_getElem? (i := 103) (by decide +kernel)) rfl
theorem wF_X0_28 : Cond.fieldLink RX0 28 "TowerFaces$Face" "slips" "I" ∈ ww := ww_of (List.mem_of_getElem? (i := 104) (by decide +kernel)) rfl
theorem wF_X3_111 : Cond.fieldLink RX3 111 "TowerFaces$Face" "slips" "I" ∈ ww := ww_of (List.mem_of_getElem? (i := 105) (by decide +kernel)) rfl
theorem wF_X5_136 : Cond.fieldLink RX5 136 "TowerFaces$Face" "slips" "I" ∈ ww := ww_of (List.mem_of_getElem? (i := 106) (by decide +kernel)) rfl
theorem wF_X0_15 : Cond.fieldLink RX0 15 "TowerFaces$Face" "hasBell" "Z" ∈ ww := ww_of (List.mem_of_getElem? (i := 107) (by decide +kernel)) rfl
theorem wF_X5_84 : Cond.fieldLink RX5 84 "TowerFaces$Face" "hasBell" "Z" ∈ ww := ww_of (List.mem_of_getElem? (i := 108) (by decide +kernel)) rfl
theorem wF_X3_120 : Cond.fieldLink RX3 120 "TowerFaces$Face" "hasBell" "Z" ∈ ww := ww_of (List.mem_of_getElem? (i := 109) (by decide +kernel)) rfl
theorem wF_X0_31 : Cond.fieldLink RX0 31 "TowerFaces$Face" "strikes" "I" ∈ ww := ww_of (List.mem_of_getElem? (i := 110) (by decide +kernel)) rfl
theorem wF_X3_114 : Cond.fieldLink RX3 114 "TowerFaces$Face" "strikes" "I" ∈ ww := ww_of (List.mem_of_getElem? (i := 111) (by decide +kernel)) rfl
theorem wF_X5_139 : Cond.fieldLink RX5 139 "TowerFaces$Face" "strikes" "I" ∈ ww := ww_of (List.mem_of_getElem? (i := 112) (by decide +kernel)) rfl
theorem wM_X3_34 : Cond.methodLink RX3 34 arraycopyName ∈ ww := ww_of (List.mem_of_getElem? (i := 130) (by decide +kernel)) rfl
theorem ys_arraycopyName : Cond.static arraycopyName ∈ ww := ww_of (List.mem_of_getElem? (i := 131) (by decide +kernel)) rfl
theorem yv_arraycopy : Cond.native arraycopyName ∈ ww := ww_of (List.mem_of_getElem? (i := 132) (by decide +kernel)) rfl
theorem wF_X3_11 : Cond.fieldLink RX3 11 "TowerFaces$Tower" "faces" "[LTowerFaces$Face;" ∈ ww := ww_of (List.mem_of_getElem? (i := 133) (by decide +kernel)) rfl
theorem wF_X5_166 : Cond.fieldLink RX5 166 "TowerFaces$Tower" "faces" "[LTowerFaces$Face;" ∈ ww := ww_of (List.mem_of_getElem? (i := 134) (by decide +kernel)) rfl
theorem wF_X3_20 : Cond.fieldLink RX3 20 "TowerFaces$Tower" "keepers" "LTowerFaces$Keepers;" ∈ ww := ww_of (List.mem_of_getElem? (i := 135) (by decide +kernel)) rfl
theorem wF_X5_95 : Cond.fieldLink RX5 95 "TowerFaces$Tower" "keepers" "LTowerFaces$Keepers;" ∈ ww := ww_of (List.mem_of_getElem? (i := 136) (by decide +kernel)) rfl
theorem wF_X3_24 : Cond.fieldLink RX3 24 "TowerFaces$Tower" "settings" "[I" ∈ ww := ww_of (List.mem_of_getElem? (i := 137) (by decide +kernel)) rfl
theorem wF_X5_55 : Cond.fieldLink RX5 55 "TowerFaces$Tower" "settings" "[I" ∈ ww := ww_of (List.mem_of_getElem? (i := 138) (by decide +kernel)) rfl
theorem wF_X3_47 : Cond.fieldLink RX3 47 "TowerFaces$Tower" "time" "I" ∈ ww := ww_of (List.mem_of_getElem? (i := 139) (by decide +kernel)) rfl
theorem wF_X5_142 : Cond.fieldLink RX5 142 "TowerFaces$Tower" "time" "I" ∈ ww := ww_of (List.mem_of_getElem? (i := 140) (by decide +kernel)) rfl
theorem wF_X3_51 : Cond.fieldLink RX3 51 "TowerFaces$Tower" "shaftStrain" "I" ∈ ww := ww_of (List.mem_of_getElem? (i := 141) (by decide +kernel)) rfl
theorem wF_X5_148 : Cond.fieldLink RX5 148 "TowerFaces$Tower" "shaftStrain" "I" ∈ ww := ww_of (List.mem_of_getElem? (i := 142) (by decide +kernel)) rfl
theorem wF_X3_54 : Cond.fieldLink RX3 54 "TowerFaces$Tower" "shaftSlips" "I" ∈ ww := ww_of (List.mem_of_getElem? (i := 143) (by decide +kernel)) rfl
theorem wF_X5_151 : Cond.fieldLink RX5 151 "TowerFaces$Tower" "shaftSlips" "I" ∈ ww := ww_of (List.mem_of_getElem? (i := 144) (by decide +kernel)) rfl
theorem wF_X3_57 : Cond.fieldLink RX3 57 "TowerFaces$Tower" "facesSet" "I" ∈ ww := ww_of (List.mem_of_getElem? (i := 145) (by decide +kernel)) rfl
theorem wF_X5_160 : Cond.fieldLink RX5 160 "TowerFaces$Tower" "facesSet" "I" ∈ ww := ww_of (List.mem_of_getElem? (i := 146) (by decide +kernel)) rfl
theorem wK_X5_22 : Cond.classLink RX5 22 RX1 ∈ ww := ww_of (List.mem_of_getElem? (i := 162) (by decide +kernel)) rfl
theorem wN_RX1 : Cond.instantiable RX1 3 ∈ ww := ww_of (List.mem_of_getElem? (i := 163) (by decide +kernel)) rfl
theorem wM_X5_24 : Cond.methodLink RX5 24 yX1_init ∈ ww := ww_of (List.mem_of_getElem? (i := 164) (by decide +kernel)) rfl
theorem yo_X1_init : Cond.instanceMethod yX1_init ∈ ww := ww_of (List.mem_of_getElem? (i := 165) (by decide +kernel)) rfl
theorem wM_X1_3 : Cond.methodLink RX1 3 objectInit ∈ ww := ww_of (List.mem_of_getElem? (i := 167) (by decide +kernel)) rfl
theorem wK_X1_9 : Cond.classLink RX1 9 RX3 ∈ ww := ww_of (List.mem_of_getElem? (i := 168) (by decide +kernel)) rfl
theorem wM_X1_17 : Cond.methodLink RX1 17 yX3_init ∈ ww := ww_of (List.mem_of_getElem? (i := 170) (by decide +kernel)) rfl
theorem wF_X1_11 : Cond.fieldLink RX1 11 "TowerFaces$History" "states" "[LTowerFaces$Tower;" ∈ ww := ww_of (List.mem_of_getElem? (i := 171) (by decide +kernel)) rfl
theorem wF_X1_18 : Cond.fieldLink RX1 18 "TowerFaces$History" "latest" "I" ∈ ww := ww_of (List.mem_of_getElem? (i := 172) (by decide +kernel)) rfl
theorem wF_X1_26 : Cond.fieldLink RX1 26 "TowerFaces$History" "count" "I" ∈ ww := ww_of (List.mem_of_getElem? (i := 173) (by decide +kernel)) rfl
theorem wF_X5_236 : Cond.fieldLink RX5 236 "TowerFaces$History" "count" "I" ∈ ww := ww_of (List.mem_of_getElem? (i := 174) (by decide +kernel)) rfl
theorem wK_X5_29 : Cond.classLink RX5 29 RX4 ∈ ww := ww_of (List.mem_of_getElem? (i := 182) (by decide +kernel)) rfl
theorem wN_RX4 : Cond.instantiable RX4 7 ∈ ww := ww_of (List.mem_of_getElem? (i := 183) (by decide +kernel)) rfl
theorem yo_X4_init : Cond.instanceMethod yX4_init ∈ ww := ww_of (List.mem_of_getElem? (i := 185) (by decide +kernel)) rfl
theorem wM_X4_3 : Cond.methodLink RX4 3 objectInit ∈ ww := ww_of (List.mem_of_getElem? (i := 187) (by decide +kernel)) rfl
theorem wF_X4_9 : Cond.fieldLink RX4 9 "TowerFaces$WorkText" "signs" "[C" ∈ ww := ww_of (List.mem_of_getElem? (i := 188) (by decide +kernel)) rfl
theorem wF_X4_15 : Cond.fieldLink RX4 15 "TowerFaces$WorkText" "length" "I" ∈ ww := ww_of (List.mem_of_getElem? (i := 189) (by decide +kernel)) rfl
theorem wF_X5_197 : Cond.fieldLink RX5 197 "TowerFaces$WorkText" "length" "I" ∈ ww := ww_of (List.mem_of_getElem? (i := 190) (by decide +kernel)) rfl
theorem wF_X4_19 : Cond.fieldLink RX4 19 "TowerFaces$WorkText" "place" "I" ∈ ww := ww_of (List.mem_of_getElem? (i := 191) (by decide +kernel)) rfl
theorem wF_X4_33 : Cond.fieldLink RX4 33 "TowerFaces$WorkText" "kind" "I" ∈ ww := ww_of (List.mem_of_getElem? (i := 192) (by decide +kernel)) rfl
theorem wF_X5_220 : Cond.fieldLink RX5 220 "TowerFaces$WorkText" "kind" "I" ∈ ww := ww_of (List.mem_of_getElem? (i := 193) (by decide +kernel)) rfl
theorem wF_X4_57 : Cond.fieldLink RX4 57 "TowerFaces$WorkText" "face" "I" ∈ ww := ww_of (List.mem_of_getElem? (i := 194) (by decide +kernel)) rfl
theorem wF_X5_229 : Cond.fieldLink RX5 229 "TowerFaces$WorkText" "face" "I" ∈ ww := ww_of (List.mem_of_getElem? (i := 195) (by decide +kernel)) rfl
theorem wF_X4_60 : Cond.fieldLink RX4 60 "TowerFaces$WorkText" "clock" "I" ∈ ww := ww_of (List.mem_of_getElem? (i := 196) (by decide +kernel)) rfl
theorem wF_X5_223 : Cond.fieldLink RX5 223 "TowerFaces$WorkText" "clock" "I" ∈ ww := ww_of (List.mem_of_getElem? (i := 197) (by decide +kernel)) rfl
theorem wF_X4_63 : Cond.fieldLink RX4 63 "TowerFaces$WorkText" "number" "I" ∈ ww := ww_of (List.mem_of_getElem? (i := 198) (by decide +kernel)) rfl
theorem wF_X5_226 : Cond.fieldLink RX5 226 "TowerFaces$WorkText" "number" "I" ∈ ww := ww_of (List.mem_of_getElem? (i := 199) (by decide +kernel)) rfl
theorem wF_X5_10 : Cond.fieldLink RX5 10 "TowerFaces" "tower" "LTowerFaces$Tower;" ∈ ww := ww_of (List.mem_of_getElem? (i := 216) (by decide +kernel)) rfl
theorem wF_X5_16 : Cond.fieldLink RX5 16 "TowerFaces" "trial" "LTowerFaces$Tower;" ∈ ww := ww_of (List.mem_of_getElem? (i := 217) (by decide +kernel)) rfl
theorem wF_X5_19 : Cond.fieldLink RX5 19 "TowerFaces" "saved" "LTowerFaces$Tower;" ∈ ww := ww_of (List.mem_of_getElem? (i := 218) (by decide +kernel)) rfl
theorem wF_X5_240 : Cond.fieldLink RX5 240 "TowerFaces" "isSaved" "Z" ∈ ww := ww_of (List.mem_of_getElem? (i := 219) (by decide +kernel)) rfl
theorem wF_X5_25 : Cond.fieldLink RX5 25 "TowerFaces" "history" "LTowerFaces$History;" ∈ ww := ww_of (List.mem_of_getElem? (i := 220) (by decide +kernel)) rfl
theorem wF_X5_32 : Cond.fieldLink RX5 32 "TowerFaces" "text" "LTowerFaces$WorkText;" ∈ ww := ww_of (List.mem_of_getElem? (i := 221) (by decide +kernel)) rfl
theorem wM_L_13 : Cond.methodLink RL 13 yX5_set ∈ ww := ww_of (List.mem_of_getElem? (i := 235) (by decide +kernel)) rfl
theorem yo_X5_set : Cond.instanceMethod yX5_set ∈ ww := ww_of (List.mem_of_getElem? (i := 236) (by decide +kernel)) rfl
theorem yl_X5_set : Cond.selects RX5 yX5_set yX5_set ∈ ww := ww_of (List.mem_of_getElem? (i := 237) (by decide +kernel)) rfl
theorem wM_X5_36 : Cond.methodLink RX5 36 yX5_isSetting ∈ ww := ww_of (List.mem_of_getElem? (i := 239) (by decide +kernel)) rfl
theorem ys_X5_isSetting : Cond.static yX5_isSetting ∈ ww := ww_of (List.mem_of_getElem? (i := 240) (by decide +kernel)) rfl
theorem wM_X5_47 : Cond.methodLink RX5 47 yX5_isWithin ∈ ww := ww_of (List.mem_of_getElem? (i := 242) (by decide +kernel)) rfl
theorem ys_X5_isWithin : Cond.static yX5_isWithin ∈ ww := ww_of (List.mem_of_getElem? (i := 243) (by decide +kernel)) rfl
theorem wF_X5_40 : Cond.fieldLink RX5 40 "TowerFaces" "LEAST_SETTING" "[I" ∈ ww := ww_of (List.mem_of_getElem? (i := 245) (by decide +kernel)) rfl
theorem wF_X5_44 : Cond.fieldLink RX5 44 "TowerFaces" "MOST_SETTING" "[I" ∈ ww := ww_of (List.mem_of_getElem? (i := 247) (by decide +kernel)) rfl
theorem wM_X5_51 : Cond.methodLink RX5 51 yX1_record ∈ ww := ww_of (List.mem_of_getElem? (i := 249) (by decide +kernel)) rfl
theorem yo_X1_record : Cond.instanceMethod yX1_record ∈ ww := ww_of (List.mem_of_getElem? (i := 250) (by decide +kernel)) rfl
theorem yl_X1_record : Cond.selects RX1 yX1_record yX1_record ∈ ww := ww_of (List.mem_of_getElem? (i := 251) (by decide +kernel)) rfl
theorem wM_X1_22 : Cond.methodLink RX1 22 yX3_copyFrom ∈ ww := ww_of (List.mem_of_getElem? (i := 253) (by decide +kernel)) rfl
theorem yo_X3_copyFrom : Cond.instanceMethod yX3_copyFrom ∈ ww := ww_of (List.mem_of_getElem? (i := 254) (by decide +kernel)) rfl
theorem yl_X3_copyFrom : Cond.selects RX3 yX3_copyFrom yX3_copyFrom ∈ ww := ww_of (List.mem_of_getElem? (i := 255) (by decide +kernel)) rfl
theorem wM_X3_40 : Cond.methodLink RX3 40 yX0_copyFrom ∈ ww := ww_of (List.mem_of_getElem? (i := 257) (by decide +kernel)) rfl
theorem yo_X0_copyFrom : Cond.instanceMethod yX0_copyFrom ∈ ww := ww_of (List.mem_of_getElem? (i := 258) (by decide +kernel)) rfl
theorem yl_X0_copyFrom : Cond.selects RX0 yX0_copyFrom yX0_copyFrom ∈ ww := ww_of (List.mem_of_getElem? (i := 259) (by decide +kernel)) rfl
theorem wM_X3_44 : Cond.methodLink RX3 44 yX2_copyFrom ∈ ww := ww_of (List.mem_of_getElem? (i := 261) (by decide +kernel)) rfl
theorem yo_X2_copyFrom : Cond.instanceMethod yX2_copyFrom ∈ ww := ww_of (List.mem_of_getElem? (i := 262) (by decide +kernel)) rfl
theorem yl_X2_copyFrom : Cond.selects RX2 yX2_copyFrom yX2_copyFrom ∈ ww := ww_of (List.mem_of_getElem? (i := 263) (by decide +kernel)) rfl
theorem wM_X2_18 : Cond.methodLink RX2 18 arraycopyName ∈ ww := ww_of (List.mem_of_getElem? (i := 265) (by decide +kernel)) rfl
theorem wM_X1_29 : Cond.methodLink RX1 29 Lib.Math.min.name ∈ ww := ww_of (List.mem_of_getElem? (i := 266) (by decide +kernel)) rfl
theorem ys_min : Cond.static Lib.Math.min.name ∈ ww := ww_of (List.mem_of_getElem? (i := 267) (by decide +kernel)) rfl
theorem wM_L_18 : Cond.methodLink RL 18 yX5_setting ∈ ww := ww_of (List.mem_of_getElem? (i := 269) (by decide +kernel)) rfl
theorem yo_X5_setting : Cond.instanceMethod yX5_setting ∈ ww := ww_of (List.mem_of_getElem? (i := 270) (by decide +kernel)) rfl
theorem yl_X5_setting : Cond.selects RX5 yX5_setting yX5_setting ∈ ww := ww_of (List.mem_of_getElem? (i := 271) (by decide +kernel)) rfl
theorem wM_L_23 : Cond.methodLink RL 23 yX5_gear ∈ ww := ww_of (List.mem_of_getElem? (i := 273) (by decide +kernel)) rfl
theorem yo_X5_gear : Cond.instanceMethod yX5_gear ∈ ww := ww_of (List.mem_of_getElem? (i := 274) (by decide +kernel)) rfl
theorem yl_X5_gear : Cond.selects RX5 yX5_gear yX5_gear ∈ ww := ww_of (List.mem_of_getElem? (i := 275) (by decide +kernel)) rfl
theorem wM_X5_58 : Cond.methodLink RX5 58 yX3_faceAt ∈ ww := ww_of (List.mem_of_getElem? (i := 277) (by decide +kernel)) rfl
theorem yo_X3_faceAt : Cond.instanceMethod yX3_faceAt ∈ ww := ww_of (List.mem_of_getElem? (i := 278) (by decide +kernel)) rfl
theorem yl_X3_faceAt : Cond.selects RX3 yX3_faceAt yX3_faceAt ∈ ww := ww_of (List.mem_of_getElem? (i := 279) (by decide +kernel)) rfl
theorem wM_L_27 : Cond.methodLink RL 27 yX5_oil ∈ ww := ww_of (List.mem_of_getElem? (i := 282) (by decide +kernel)) rfl
theorem yo_X5_oil : Cond.instanceMethod yX5_oil ∈ ww := ww_of (List.mem_of_getElem? (i := 283) (by decide +kernel)) rfl
theorem yl_X5_oil : Cond.selects RX5 yX5_oil yX5_oil ∈ ww := ww_of (List.mem_of_getElem? (i := 284) (by decide +kernel)) rfl
theorem wM_X5_71 : Cond.methodLink RX5 71 yX0_takeOil ∈ ww := ww_of (List.mem_of_getElem? (i := 286) (by decide +kernel)) rfl
theorem yo_X0_takeOil : Cond.instanceMethod yX0_takeOil ∈ ww := ww_of (List.mem_of_getElem? (i := 287) (by decide +kernel)) rfl
theorem yl_X0_takeOil : Cond.selects RX0 yX0_takeOil yX0_takeOil ∈ ww := ww_of (List.mem_of_getElem? (i := 288) (by decide +kernel)) rfl
theorem wM_X0_34 : Cond.methodLink RX0 34 Lib.Math.max.name ∈ ww := ww_of (List.mem_of_getElem? (i := 290) (by decide +kernel)) rfl
theorem ys_max : Cond.static Lib.Math.max.name ∈ ww := ww_of (List.mem_of_getElem? (i := 291) (by decide +kernel)) rfl
theorem wM_L_31 : Cond.methodLink RL 31 yX5_dial ∈ ww := ww_of (List.mem_of_getElem? (i := 293) (by decide +kernel)) rfl
theorem yo_X5_dial : Cond.instanceMethod yX5_dial ∈ ww := ww_of (List.mem_of_getElem? (i := 294) (by decide +kernel)) rfl
theorem yl_X5_dial : Cond.selects RX5 yX5_dial yX5_dial ∈ ww := ww_of (List.mem_of_getElem? (i := 295) (by decide +kernel)) rfl
theorem wM_X5_80 : Cond.methodLink RX5 80 yX5_distance ∈ ww := ww_of (List.mem_of_getElem? (i := 297) (by decide +kernel)) rfl
theorem ys_X5_distance : Cond.static yX5_distance ∈ ww := ww_of (List.mem_of_getElem? (i := 298) (by decide +kernel)) rfl
theorem wM_X5_243 : Cond.methodLink RX5 243 Lib.Math.abs.name ∈ ww := ww_of (List.mem_of_getElem? (i := 300) (by decide +kernel)) rfl
theorem ys_abs : Cond.static Lib.Math.abs.name ∈ ww := ww_of (List.mem_of_getElem? (i := 301) (by decide +kernel)) rfl
theorem wM_X5_248 : Cond.methodLink RX5 248 Lib.Math.min.name ∈ ww := ww_of (List.mem_of_getElem? (i := 303) (by decide +kernel)) rfl
theorem wM_L_35 : Cond.methodLink RL 35 yX5_bell ∈ ww := ww_of (List.mem_of_getElem? (i := 304) (by decide +kernel)) rfl
theorem yo_X5_bell : Cond.instanceMethod yX5_bell ∈ ww := ww_of (List.mem_of_getElem? (i := 305) (by decide +kernel)) rfl
theorem yl_X5_bell : Cond.selects RX5 yX5_bell yX5_bell ∈ ww := ww_of (List.mem_of_getElem? (i := 306) (by decide +kernel)) rfl
theorem wM_L_39 : Cond.methodLink RL 39 yX5_pass ∈ ww := ww_of (List.mem_of_getElem? (i := 308) (by decide +kernel)) rfl
theorem yo_X5_pass : Cond.instanceMethod yX5_pass ∈ ww := ww_of (List.mem_of_getElem? (i := 309) (by decide +kernel)) rfl
theorem yl_X5_pass : Cond.selects RX5 yX5_pass yX5_pass ∈ ww := ww_of (List.mem_of_getElem? (i := 310) (by decide +kernel)) rfl
theorem wM_X5_88 : Cond.methodLink RX5 88 yX3_errorOfPassing ∈ ww := ww_of (List.mem_of_getElem? (i := 312) (by decide +kernel)) rfl
theorem yo_X3_errorOfPassing : Cond.instanceMethod yX3_errorOfPassing ∈ ww := ww_of (List.mem_of_getElem? (i := 313) (by decide +kernel)) rfl
theorem yl_X3_errorOfPassing : Cond.selects RX3 yX3_errorOfPassing yX3_errorOfPassing ∈ ww := ww_of (List.mem_of_getElem? (i := 314) (by decide +kernel)) rfl
theorem wT_X3_64 : Cond.constant RX3 64 (999999) ∈ ww := ww_of (List.mem_of_getElem? (i := 316) (by decide +kernel)) rfl
theorem wM_X5_92 : Cond.methodLink RX5 92 yX3_passMinutes ∈ ww := ww_of (List.mem_of_getElem? (i := 317) (by decide +kernel)) rfl
theorem yo_X3_passMinutes : Cond.instanceMethod yX3_passMinutes ∈ ww := ww_of (List.mem_of_getElem? (i := 318) (by decide +kernel)) rfl
theorem yl_X3_passMinutes : Cond.selects RX3 yX3_passMinutes yX3_passMinutes ∈ ww := ww_of (List.mem_of_getElem? (i := 319) (by decide +kernel)) rfl
theorem wM_X3_65 : Cond.methodLink RX3 65 yX3_passMinute ∈ ww := ww_of (List.mem_of_getElem? (i := 321) (by decide +kernel)) rfl
theorem yo_X3_passMinute : Cond.instanceMethod yX3_passMinute ∈ ww := ww_of (List.mem_of_getElem? (i := 322) (by decide +kernel)) rfl
theorem yl_X3_passMinute : Cond.selects RX3 yX3_passMinute yX3_passMinute ∈ ww := ww_of (List.mem_of_getElem? (i := 323) (by decide +kernel)) rfl
theorem wM_X3_69 : Cond.methodLink RX3 69 yX0_passMinute ∈ ww := ww_of (List.mem_of_getElem? (i := 325) (by decide +kernel)) rfl
theorem yo_X0_passMinute : Cond.instanceMethod yX0_passMinute ∈ ww := ww_of (List.mem_of_getElem? (i := 326) (by decide +kernel)) rfl
theorem yl_X0_passMinute : Cond.selects RX0 yX0_passMinute yX0_passMinute ∈ ww := ww_of (List.mem_of_getElem? (i := 327) (by decide +kernel)) rfl
theorem wM_X0_40 : Cond.methodLink RX0 40 yX0_slip ∈ ww := ww_of (List.mem_of_getElem? (i := 329) (by decide +kernel)) rfl
theorem yo_X0_slip : Cond.instanceMethod yX0_slip ∈ ww := ww_of (List.mem_of_getElem? (i := 331) (by decide +kernel)) rfl
theorem wM_X0_47 : Cond.methodLink RX0 47 Lib.Math.min.name ∈ ww := ww_of (List.mem_of_getElem? (i := 333) (by decide +kernel)) rfl
theorem ys_X5_strikesAt : Cond.static yX5_strikesAt ∈ ww := ww_of (List.mem_of_getElem? (i := 335) (by decide +kernel)) rfl
theorem wM_X3_72 : Cond.methodLink RX3 72 yX3_strainShaft ∈ ww := ww_of (List.mem_of_getElem? (i := 337) (by decide +kernel)) rfl
theorem yo_X3_strainShaft : Cond.instanceMethod yX3_strainShaft ∈ ww := ww_of (List.mem_of_getElem? (i := 339) (by decide +kernel)) rfl
theorem wM_X3_84 : Cond.methodLink RX3 84 yX0_goBack ∈ ww := ww_of (List.mem_of_getElem? (i := 341) (by decide +kernel)) rfl
theorem yo_X0_goBack : Cond.instanceMethod yX0_goBack ∈ ww := ww_of (List.mem_of_getElem? (i := 342) (by decide +kernel)) rfl
theorem yl_X0_goBack : Cond.selects RX0 yX0_goBack yX0_goBack ∈ ww := ww_of (List.mem_of_getElem? (i := 343) (by decide +kernel)) rfl
theorem wM_X3_75 : Cond.methodLink RX3 75 yX3_minuteOfDay ∈ ww := ww_of (List.mem_of_getElem? (i := 345) (by decide +kernel)) rfl
theorem yo_X3_minuteOfDay : Cond.instanceMethod yX3_minuteOfDay ∈ ww := ww_of (List.mem_of_getElem? (i := 346) (by decide +kernel)) rfl
theorem yl_X3_minuteOfDay : Cond.selects RX3 yX3_minuteOfDay yX3_minuteOfDay ∈ ww := ww_of (List.mem_of_getElem? (i := 347) (by decide +kernel)) rfl
theorem wM_X3_78 : Cond.methodLink RX3 78 yX3_resetFaces ∈ ww := ww_of (List.mem_of_getElem? (i := 349) (by decide +kernel)) rfl
theorem yo_X3_resetFaces : Cond.instanceMethod yX3_resetFaces ∈ ww := ww_of (List.mem_of_getElem? (i := 350) (by decide +kernel)) rfl
theorem yl_X3_resetFaces : Cond.selects RX3 yX3_resetFaces yX3_resetFaces ∈ ww := ww_of (List.mem_of_getElem? (i := 351) (by decide +kernel)) rfl
theorem wM_X3_99 : Cond.methodLink RX3 99 yX3_timeOfKeeper ∈ ww := ww_of (List.mem_of_getElem? (i := 353) (by decide +kernel)) rfl
theorem yo_X3_timeOfKeeper : Cond.instanceMethod yX3_timeOfKeeper ∈ ww := ww_of (List.mem_of_getElem? (i := 354) (by decide +kernel)) rfl
theorem yl_X3_timeOfKeeper : Cond.selects RX3 yX3_timeOfKeeper yX3_timeOfKeeper ∈ ww := ww_of (List.mem_of_getElem? (i := 355) (by decide +kernel)) rfl
theorem wM_X3_87 : Cond.methodLink RX3 87 yX2_placeAt ∈ ww := ww_of (List.mem_of_getElem? (i := 357) (by decide +kernel)) rfl
theorem yo_X2_placeAt : Cond.instanceMethod yX2_placeAt ∈ ww := ww_of (List.mem_of_getElem? (i := 358) (by decide +kernel)) rfl
theorem yl_X2_placeAt : Cond.selects RX2 yX2_placeAt yX2_placeAt ∈ ww := ww_of (List.mem_of_getElem? (i := 359) (by decide +kernel)) rfl
theorem wM_X3_93 : Cond.methodLink RX3 93 yJ9_floorMod_7cf53 ∈ ww := ww_of (List.mem_of_getElem? (i := 361) (by decide +kernel)) rfl
theorem ys_J9_floorMod_7cf53 : Cond.static yJ9_floorMod_7cf53 ∈ ww := ww_of (List.mem_of_getElem? (i := 362) (by decide +kernel)) rfl
theorem wM_L_43 : Cond.methodLink RL 43 yX5_hire ∈ ww := ww_of (List.mem_of_getElem? (i := 365) (by decide +kernel)) rfl
theorem yo_X5_hire : Cond.instanceMethod yX5_hire ∈ ww := ww_of (List.mem_of_getElem? (i := 366) (by decide +kernel)) rfl
theorem yl_X5_hire : Cond.selects RX5 yX5_hire yX5_hire ∈ ww := ww_of (List.mem_of_getElem? (i := 367) (by decide +kernel)) rfl
theorem wM_X5_99 : Cond.methodLink RX5 99 yX2_errorOfAdding ∈ ww := ww_of (List.mem_of_getElem? (i := 369) (by decide +kernel)) rfl
theorem yo_X2_errorOfAdding : Cond.instanceMethod yX2_errorOfAdding ∈ ww := ww_of (List.mem_of_getElem? (i := 370) (by decide +kernel)) rfl
theorem yl_X2_errorOfAdding : Cond.selects RX2 yX2_errorOfAdding yX2_errorOfAdding ∈ ww := ww_of (List.mem_of_getElem? (i := 371) (by decide +kernel)) rfl
theorem wM_X2_32 : Cond.methodLink RX2 32 yX2_hasStart ∈ ww := ww_of (List.mem_of_getElem? (i := 374) (by decide +kernel)) rfl
theorem yo_X2_hasStart : Cond.instanceMethod yX2_hasStart ∈ ww := ww_of (List.mem_of_getElem? (i := 375) (by decide +kernel)) rfl
theorem yl_X2_hasStart : Cond.selects RX2 yX2_hasStart yX2_hasStart ∈ ww := ww_of (List.mem_of_getElem? (i := 376) (by decide +kernel)) rfl
theorem wM_X5_104 : Cond.methodLink RX5 104 yX2_add ∈ ww := ww_of (List.mem_of_getElem? (i := 378) (by decide +kernel)) rfl
theorem yo_X2_add : Cond.instanceMethod yX2_add ∈ ww := ww_of (List.mem_of_getElem? (i := 379) (by decide +kernel)) rfl
theorem yl_X2_add : Cond.selects RX2 yX2_add yX2_add ∈ ww := ww_of (List.mem_of_getElem? (i := 380) (by decide +kernel)) rfl
theorem wM_L_47 : Cond.methodLink RL 47 yX5_dismiss ∈ ww := ww_of (List.mem_of_getElem? (i := 382) (by decide +kernel)) rfl
theorem yo_X5_dismiss : Cond.instanceMethod yX5_dismiss ∈ ww := ww_of (List.mem_of_getElem? (i := 383) (by decide +kernel)) rfl
theorem yl_X5_dismiss : Cond.selects RX5 yX5_dismiss yX5_dismiss ∈ ww := ww_of (List.mem_of_getElem? (i := 384) (by decide +kernel)) rfl
theorem wM_X5_111 : Cond.methodLink RX5 111 yX2_hasStart ∈ ww := ww_of (List.mem_of_getElem? (i := 386) (by decide +kernel)) rfl
theorem wM_X5_114 : Cond.methodLink RX5 114 yX2_remove ∈ ww := ww_of (List.mem_of_getElem? (i := 387) (by decide +kernel)) rfl
theorem yo_X2_remove : Cond.instanceMethod yX2_remove ∈ ww := ww_of (List.mem_of_getElem? (i := 388) (by decide +kernel)) rfl
theorem yl_X2_remove : Cond.selects RX2 yX2_remove yX2_remove ∈ ww := ww_of (List.mem_of_getElem? (i := 389) (by decide +kernel)) rfl
theorem wM_L_51 : Cond.methodLink RL 51 yX5_reset ∈ ww := ww_of (List.mem_of_getElem? (i := 391) (by decide +kernel)) rfl
theorem yo_X5_reset : Cond.instanceMethod yX5_reset ∈ ww := ww_of (List.mem_of_getElem? (i := 392) (by decide +kernel)) rfl
theorem yl_X5_reset : Cond.selects RX5 yX5_reset yX5_reset ∈ ww := ww_of (List.mem_of_getElem? (i := 393) (by decide +kernel)) rfl
theorem wM_X5_117 : Cond.methodLink RX5 117 yX3_resetFaces ∈ ww := ww_of (List.mem_of_getElem? (i := 395) (by decide +kernel)) rfl
theorem wM_L_56 : Cond.methodLink RL 56 yX5_keeper ∈ ww := ww_of (List.mem_of_getElem? (i := 396) (by decide +kernel)) rfl
theorem yo_X5_keeper : Cond.instanceMethod yX5_keeper ∈ ww := ww_of (List.mem_of_getElem? (i := 397) (by decide +kernel)) rfl
theorem yl_X5_keeper : Cond.selects RX5 yX5_keeper yX5_keeper ∈ ww := ww_of (List.mem_of_getElem? (i := 398) (by decide +kernel)) rfl
theorem wM_X5_121 : Cond.methodLink RX5 121 yX2_placeAt ∈ ww := ww_of (List.mem_of_getElem? (i := 400) (by decide +kernel)) rfl
theorem wM_X5_130 : Cond.methodLink RX5 130 yX2_minutesToNext ∈ ww := ww_of (List.mem_of_getElem? (i := 401) (by decide +kernel)) rfl
theorem yo_X2_minutesToNext : Cond.instanceMethod yX2_minutesToNext ∈ ww := ww_of (List.mem_of_getElem? (i := 402) (by decide +kernel)) rfl
theorem yl_X2_minutesToNext : Cond.selects RX2 yX2_minutesToNext yX2_minutesToNext ∈ ww := ww_of (List.mem_of_getElem? (i := 403) (by decide +kernel)) rfl
theorem wM_X2_36 : Cond.methodLink RX2 36 yX2_placeAt ∈ ww := ww_of (List.mem_of_getElem? (i := 405) (by decide +kernel)) rfl
theorem wM_X2_40 : Cond.methodLink RX2 40 yJ9_floorMod_7cf53 ∈ ww := ww_of (List.mem_of_getElem? (i := 406) (by decide +kernel)) rfl
theorem wM_L_60 : Cond.methodLink RL 60 yX5_keeperTime ∈ ww := ww_of (List.mem_of_getElem? (i := 407) (by decide +kernel)) rfl
theorem yo_X5_keeperTime : Cond.instanceMethod yX5_keeperTime ∈ ww := ww_of (List.mem_of_getElem? (i := 408) (by decide +kernel)) rfl
theorem yl_X5_keeperTime : Cond.selects RX5 yX5_keeperTime yX5_keeperTime ∈ ww := ww_of (List.mem_of_getElem? (i := 409) (by decide +kernel)) rfl
theorem wM_X5_133 : Cond.methodLink RX5 133 yX3_timeOfKeeper ∈ ww := ww_of (List.mem_of_getElem? (i := 411) (by decide +kernel)) rfl
theorem wM_L_64 : Cond.methodLink RL 64 yX5_face ∈ ww := ww_of (List.mem_of_getElem? (i := 412) (by decide +kernel)) rfl
theorem yo_X5_face : Cond.instanceMethod yX5_face ∈ ww := ww_of (List.mem_of_getElem? (i := 413) (by decide +kernel)) rfl
theorem yl_X5_face : Cond.selects RX5 yX5_face yX5_face ∈ ww := ww_of (List.mem_of_getElem? (i := 414) (by decide +kernel)) rfl
theorem wM_L_68 : Cond.methodLink RL 68 yX5_total ∈ ww := ww_of (List.mem_of_getElem? (i := 416) (by decide +kernel)) rfl
theorem yo_X5_total : Cond.instanceMethod yX5_total ∈ ww := ww_of (List.mem_of_getElem? (i := 417) (by decide +kernel)) rfl
theorem yl_X5_total : Cond.selects RX5 yX5_total yX5_total ∈ ww := ww_of (List.mem_of_getElem? (i := 418) (by decide +kernel)) rfl
theorem wM_X5_145 : Cond.methodLink RX5 145 yX3_minuteOfDay ∈ ww := ww_of (List.mem_of_getElem? (i := 420) (by decide +kernel)) rfl
theorem wM_X5_154 : Cond.methodLink RX5 154 yX3_slipsOfGears ∈ ww := ww_of (List.mem_of_getElem? (i := 421) (by decide +kernel)) rfl
theorem yo_X3_slipsOfGears : Cond.instanceMethod yX3_slipsOfGears ∈ ww := ww_of (List.mem_of_getElem? (i := 422) (by decide +kernel)) rfl
theorem yl_X3_slipsOfGears : Cond.selects RX3 yX3_slipsOfGears yX3_slipsOfGears ∈ ww := ww_of (List.mem_of_getElem? (i := 423) (by decide +kernel)) rfl
theorem wM_X5_157 : Cond.methodLink RX5 157 yX3_strikesOfBells ∈ ww := ww_of (List.mem_of_getElem? (i := 425) (by decide +kernel)) rfl
theorem yo_X3_strikesOfBells : Cond.instanceMethod yX3_strikesOfBells ∈ ww := ww_of (List.mem_of_getElem? (i := 426) (by decide +kernel)) rfl
theorem yl_X3_strikesOfBells : Cond.selects RX3 yX3_strikesOfBells yX3_strikesOfBells ∈ ww := ww_of (List.mem_of_getElem? (i := 427) (by decide +kernel)) rfl
theorem wM_X5_163 : Cond.methodLink RX5 163 yX3_spread ∈ ww := ww_of (List.mem_of_getElem? (i := 429) (by decide +kernel)) rfl
theorem yo_X3_spread : Cond.instanceMethod yX3_spread ∈ ww := ww_of (List.mem_of_getElem? (i := 430) (by decide +kernel)) rfl
theorem yl_X3_spread : Cond.selects RX3 yX3_spread yX3_spread ∈ ww := ww_of (List.mem_of_getElem? (i := 431) (by decide +kernel)) rfl
theorem wM_X3_117 : Cond.methodLink RX3 117 Lib.Math.max.name ∈ ww := ww_of (List.mem_of_getElem? (i := 433) (by decide +kernel)) rfl
theorem wM_L_72 : Cond.methodLink RL 72 yX5_majority ∈ ww := ww_of (List.mem_of_getElem? (i := 434) (by decide +kernel)) rfl
theorem yo_X5_majority : Cond.instanceMethod yX5_majority ∈ ww := ww_of (List.mem_of_getElem? (i := 435) (by decide +kernel)) rfl
theorem yl_X5_majority : Cond.selects RX5 yX5_majority yX5_majority ∈ ww := ww_of (List.mem_of_getElem? (i := 436) (by decide +kernel)) rfl
theorem wM_X5_170 : Cond.methodLink RX5 170 yX3_facesWithDial ∈ ww := ww_of (List.mem_of_getElem? (i := 438) (by decide +kernel)) rfl
theorem yo_X3_facesWithDial : Cond.instanceMethod yX3_facesWithDial ∈ ww := ww_of (List.mem_of_getElem? (i := 439) (by decide +kernel)) rfl
theorem yl_X3_facesWithDial : Cond.selects RX3 yX3_facesWithDial yX3_facesWithDial ∈ ww := ww_of (List.mem_of_getElem? (i := 440) (by decide +kernel)) rfl
theorem wM_L_76 : Cond.methodLink RL 76 yX5_coming ∈ ww := ww_of (List.mem_of_getElem? (i := 442) (by decide +kernel)) rfl
theorem yo_X5_coming : Cond.instanceMethod yX5_coming ∈ ww := ww_of (List.mem_of_getElem? (i := 443) (by decide +kernel)) rfl
theorem yl_X5_coming : Cond.selects RX5 yX5_coming yX5_coming ∈ ww := ww_of (List.mem_of_getElem? (i := 444) (by decide +kernel)) rfl
theorem wM_X5_173 : Cond.methodLink RX5 173 yX3_bells ∈ ww := ww_of (List.mem_of_getElem? (i := 446) (by decide +kernel)) rfl
theorem yo_X3_bells : Cond.instanceMethod yX3_bells ∈ ww := ww_of (List.mem_of_getElem? (i := 447) (by decide +kernel)) rfl
theorem yl_X3_bells : Cond.selects RX3 yX3_bells yX3_bells ∈ ww := ww_of (List.mem_of_getElem? (i := 448) (by decide +kernel)) rfl
theorem wM_X5_176 : Cond.methodLink RX5 176 yX3_faceOfBellInRound ∈ ww := ww_of (List.mem_of_getElem? (i := 450) (by decide +kernel)) rfl
theorem yo_X3_faceOfBellInRound : Cond.instanceMethod yX3_faceOfBellInRound ∈ ww := ww_of (List.mem_of_getElem? (i := 451) (by decide +kernel)) rfl
theorem yl_X3_faceOfBellInRound : Cond.selects RX3 yX3_faceOfBellInRound yX3_faceOfBellInRound ∈ ww := ww_of (List.mem_of_getElem? (i := 452) (by decide +kernel)) rfl
theorem wM_X3_124 : Cond.methodLink RX3 124 yX0_minutesToHour ∈ ww := ww_of (List.mem_of_getElem? (i := 454) (by decide +kernel)) rfl
theorem yo_X0_minutesToHour : Cond.instanceMethod yX0_minutesToHour ∈ ww := ww_of (List.mem_of_getElem? (i := 455) (by decide +kernel)) rfl
theorem yl_X0_minutesToHour : Cond.selects RX0 yX0_minutesToHour yX0_minutesToHour ∈ ww := ww_of (List.mem_of_getElem? (i := 456) (by decide +kernel)) rfl
theorem wM_X5_179 : Cond.methodLink RX5 179 yX0_minutesToHour ∈ ww := ww_of (List.mem_of_getElem? (i := 458) (by decide +kernel)) rfl
theorem wM_X5_182 : Cond.methodLink RX5 182 yX5_strikesAt ∈ ww := ww_of (List.mem_of_getElem? (i := 459) (by decide +kernel)) rfl
theorem wM_L_80 : Cond.methodLink RL 80 yX5_spreadIn ∈ ww := ww_of (List.mem_of_getElem? (i := 460) (by decide +kernel)) rfl
theorem yo_X5_spreadIn : Cond.instanceMethod yX5_spreadIn ∈ ww := ww_of (List.mem_of_getElem? (i := 461) (by decide +kernel)) rfl
theorem yl_X5_spreadIn : Cond.selects RX5 yX5_spreadIn yX5_spreadIn ∈ ww := ww_of (List.mem_of_getElem? (i := 462) (by decide +kernel)) rfl
theorem wM_X5_185 : Cond.methodLink RX5 185 yX3_copyFrom ∈ ww := ww_of (List.mem_of_getElem? (i := 464) (by decide +kernel)) rfl
theorem wM_L_84 : Cond.methodLink RL 84 yX5_minutesTo ∈ ww := ww_of (List.mem_of_getElem? (i := 465) (by decide +kernel)) rfl
theorem yo_X5_minutesTo : Cond.instanceMethod yX5_minutesTo ∈ ww := ww_of (List.mem_of_getElem? (i := 466) (by decide +kernel)) rfl
theorem yl_X5_minutesTo : Cond.selects RX5 yX5_minutesTo yX5_minutesTo ∈ ww := ww_of (List.mem_of_getElem? (i := 467) (by decide +kernel)) rfl
theorem wM_X5_188 : Cond.methodLink RX5 188 yX3_passMinute ∈ ww := ww_of (List.mem_of_getElem? (i := 469) (by decide +kernel)) rfl
theorem wM_L_88 : Cond.methodLink RL 88 yX5_bestOil ∈ ww := ww_of (List.mem_of_getElem? (i := 470) (by decide +kernel)) rfl
theorem yo_X5_bestOil : Cond.instanceMethod yX5_bestOil ∈ ww := ww_of (List.mem_of_getElem? (i := 471) (by decide +kernel)) rfl
theorem yl_X5_bestOil : Cond.selects RX5 yX5_bestOil yX5_bestOil ∈ ww := ww_of (List.mem_of_getElem? (i := 472) (by decide +kernel)) rfl
theorem wM_X5_191 : Cond.methodLink RX5 191 yX5_errorAfterOil ∈ ww := ww_of (List.mem_of_getElem? (i := 474) (by decide +kernel)) rfl
theorem yo_X5_errorAfterOil : Cond.instanceMethod yX5_errorAfterOil ∈ ww := ww_of (List.mem_of_getElem? (i := 476) (by decide +kernel)) rfl
theorem wM_X5_194 : Cond.methodLink RX5 194 yX3_distancesFromTime ∈ ww := ww_of (List.mem_of_getElem? (i := 478) (by decide +kernel)) rfl
theorem yo_X3_distancesFromTime : Cond.instanceMethod yX3_distancesFromTime ∈ ww := ww_of (List.mem_of_getElem? (i := 479) (by decide +kernel)) rfl
theorem yl_X3_distancesFromTime : Cond.selects RX3 yX3_distancesFromTime yX3_distancesFromTime ∈ ww := ww_of (List.mem_of_getElem? (i := 480) (by decide +kernel)) rfl
theorem wM_L_92 : Cond.methodLink RL 92 yX5_append ∈ ww := ww_of (List.mem_of_getElem? (i := 482) (by decide +kernel)) rfl
theorem yo_X5_append : Cond.instanceMethod yX5_append ∈ ww := ww_of (List.mem_of_getElem? (i := 483) (by decide +kernel)) rfl
theorem yl_X5_append : Cond.selects RX5 yX5_append yX5_append ∈ ww := ww_of (List.mem_of_getElem? (i := 484) (by decide +kernel)) rfl
theorem wM_X5_200 : Cond.methodLink RX5 200 yX4_add ∈ ww := ww_of (List.mem_of_getElem? (i := 486) (by decide +kernel)) rfl
theorem yo_X4_add : Cond.instanceMethod yX4_add ∈ ww := ww_of (List.mem_of_getElem? (i := 487) (by decide +kernel)) rfl
theorem yl_X4_add : Cond.selects RX4 yX4_add yX4_add ∈ ww := ww_of (List.mem_of_getElem? (i := 488) (by decide +kernel)) rfl
theorem wM_L_96 : Cond.methodLink RL 96 yX5_clearText ∈ ww := ww_of (List.mem_of_getElem? (i := 490) (by decide +kernel)) rfl
theorem yo_X5_clearText : Cond.instanceMethod yX5_clearText ∈ ww := ww_of (List.mem_of_getElem? (i := 491) (by decide +kernel)) rfl
theorem yl_X5_clearText : Cond.selects RX5 yX5_clearText yX5_clearText ∈ ww := ww_of (List.mem_of_getElem? (i := 492) (by decide +kernel)) rfl
theorem wM_L_100 : Cond.methodLink RL 100 yX5_errorPosition ∈ ww := ww_of (List.mem_of_getElem? (i := 494) (by decide +kernel)) rfl
theorem yo_X5_errorPosition : Cond.instanceMethod yX5_errorPosition ∈ ww := ww_of (List.mem_of_getElem? (i := 495) (by decide +kernel)) rfl
theorem yl_X5_errorPosition : Cond.selects RX5 yX5_errorPosition yX5_errorPosition ∈ ww := ww_of (List.mem_of_getElem? (i := 496) (by decide +kernel)) rfl
theorem wM_X5_203 : Cond.methodLink RX5 203 yX4_firstError ∈ ww := ww_of (List.mem_of_getElem? (i := 498) (by decide +kernel)) rfl
theorem yo_X4_firstError : Cond.instanceMethod yX4_firstError ∈ ww := ww_of (List.mem_of_getElem? (i := 499) (by decide +kernel)) rfl
theorem yl_X4_firstError : Cond.selects RX4 yX4_firstError yX4_firstError ∈ ww := ww_of (List.mem_of_getElem? (i := 500) (by decide +kernel)) rfl
theorem wM_X4_22 : Cond.methodLink RX4 22 yX4_goToStart ∈ ww := ww_of (List.mem_of_getElem? (i := 502) (by decide +kernel)) rfl
theorem yo_X4_goToStart : Cond.instanceMethod yX4_goToStart ∈ ww := ww_of (List.mem_of_getElem? (i := 503) (by decide +kernel)) rfl
theorem yl_X4_goToStart : Cond.selects RX4 yX4_goToStart yX4_goToStart ∈ ww := ww_of (List.mem_of_getElem? (i := 504) (by decide +kernel)) rfl
theorem wM_X4_25 : Cond.methodLink RX4 25 yX4_readWork ∈ ww := ww_of (List.mem_of_getElem? (i := 506) (by decide +kernel)) rfl
theorem yo_X4_readWork : Cond.instanceMethod yX4_readWork ∈ ww := ww_of (List.mem_of_getElem? (i := 507) (by decide +kernel)) rfl
theorem yl_X4_readWork : Cond.selects RX4 yX4_readWork yX4_readWork ∈ ww := ww_of (List.mem_of_getElem? (i := 508) (by decide +kernel)) rfl
theorem wM_X4_36 : Cond.methodLink RX4 36 yX4_readFace ∈ ww := ww_of (List.mem_of_getElem? (i := 510) (by decide +kernel)) rfl
theorem yo_X4_readFace : Cond.instanceMethod yX4_readFace ∈ ww := ww_of (List.mem_of_getElem? (i := 512) (by decide +kernel)) rfl
theorem wM_X4_53 : Cond.methodLink RX4 53 yX4_readDigit ∈ ww := ww_of (List.mem_of_getElem? (i := 514) (by decide +kernel)) rfl
theorem yo_X4_readDigit : Cond.instanceMethod yX4_readDigit ∈ ww := ww_of (List.mem_of_getElem? (i := 516) (by decide +kernel)) rfl
theorem wM_X4_39 : Cond.methodLink RX4 39 yX4_readClock ∈ ww := ww_of (List.mem_of_getElem? (i := 519) (by decide +kernel)) rfl
theorem yo_X4_readClock : Cond.instanceMethod yX4_readClock ∈ ww := ww_of (List.mem_of_getElem? (i := 521) (by decide +kernel)) rfl
theorem wM_X4_29 : Cond.methodLink RX4 29 yX4_readSign ∈ ww := ww_of (List.mem_of_getElem? (i := 523) (by decide +kernel)) rfl
theorem yo_X4_readSign : Cond.instanceMethod yX4_readSign ∈ ww := ww_of (List.mem_of_getElem? (i := 524) (by decide +kernel)) rfl
theorem yl_X4_readSign : Cond.selects RX4 yX4_readSign yX4_readSign ∈ ww := ww_of (List.mem_of_getElem? (i := 525) (by decide +kernel)) rfl
theorem wM_X4_42 : Cond.methodLink RX4 42 yX4_readWrong ∈ ww := ww_of (List.mem_of_getElem? (i := 527) (by decide +kernel)) rfl
theorem yo_X4_readWrong : Cond.instanceMethod yX4_readWrong ∈ ww := ww_of (List.mem_of_getElem? (i := 529) (by decide +kernel)) rfl
theorem wM_X4_45 : Cond.methodLink RX4 45 yX4_readNumber ∈ ww := ww_of (List.mem_of_getElem? (i := 531) (by decide +kernel)) rfl
theorem yo_X4_readNumber : Cond.instanceMethod yX4_readNumber ∈ ww := ww_of (List.mem_of_getElem? (i := 533) (by decide +kernel)) rfl
theorem wM_X4_66 : Cond.methodLink RX4 66 Lib.Math.min.name ∈ ww := ww_of (List.mem_of_getElem? (i := 535) (by decide +kernel)) rfl
theorem wM_L_104 : Cond.methodLink RL 104 yX5_work ∈ ww := ww_of (List.mem_of_getElem? (i := 536) (by decide +kernel)) rfl
theorem yo_X5_work : Cond.instanceMethod yX5_work ∈ ww := ww_of (List.mem_of_getElem? (i := 537) (by decide +kernel)) rfl
theorem yl_X5_work : Cond.selects RX5 yX5_work yX5_work ∈ ww := ww_of (List.mem_of_getElem? (i := 538) (by decide +kernel)) rfl
theorem wM_X5_206 : Cond.methodLink RX5 206 yX4_goToStart ∈ ww := ww_of (List.mem_of_getElem? (i := 540) (by decide +kernel)) rfl
theorem wM_X5_209 : Cond.methodLink RX5 209 yX4_readWork ∈ ww := ww_of (List.mem_of_getElem? (i := 541) (by decide +kernel)) rfl
theorem wM_X5_213 : Cond.methodLink RX5 213 yX5_doWork ∈ ww := ww_of (List.mem_of_getElem? (i := 542) (by decide +kernel)) rfl
theorem yo_X5_doWork : Cond.instanceMethod yX5_doWork ∈ ww := ww_of (List.mem_of_getElem? (i := 544) (by decide +kernel)) rfl
theorem wM_X5_232 : Cond.methodLink RX5 232 yX5_workOnFace ∈ ww := ww_of (List.mem_of_getElem? (i := 546) (by decide +kernel)) rfl
theorem yo_X5_workOnFace : Cond.instanceMethod yX5_workOnFace ∈ ww := ww_of (List.mem_of_getElem? (i := 548) (by decide +kernel)) rfl
theorem wM_X5_216 : Cond.methodLink RX5 216 yX4_readSign ∈ ww := ww_of (List.mem_of_getElem? (i := 550) (by decide +kernel)) rfl
theorem wM_L_108 : Cond.methodLink RL 108 yX5_undo ∈ ww := ww_of (List.mem_of_getElem? (i := 551) (by decide +kernel)) rfl
theorem yo_X5_undo : Cond.instanceMethod yX5_undo ∈ ww := ww_of (List.mem_of_getElem? (i := 552) (by decide +kernel)) rfl
theorem yl_X5_undo : Cond.selects RX5 yX5_undo yX5_undo ∈ ww := ww_of (List.mem_of_getElem? (i := 553) (by decide +kernel)) rfl
theorem wM_X5_237 : Cond.methodLink RX5 237 yX1_takeBack ∈ ww := ww_of (List.mem_of_getElem? (i := 555) (by decide +kernel)) rfl
theorem yo_X1_takeBack : Cond.instanceMethod yX1_takeBack ∈ ww := ww_of (List.mem_of_getElem? (i := 556) (by decide +kernel)) rfl
theorem yl_X1_takeBack : Cond.selects RX1 yX1_takeBack yX1_takeBack ∈ ww := ww_of (List.mem_of_getElem? (i := 557) (by decide +kernel)) rfl
theorem wM_L_112 : Cond.methodLink RL 112 yX5_save ∈ ww := ww_of (List.mem_of_getElem? (i := 559) (by decide +kernel)) rfl
theorem yo_X5_save : Cond.instanceMethod yX5_save ∈ ww := ww_of (List.mem_of_getElem? (i := 560) (by decide +kernel)) rfl
theorem yl_X5_save : Cond.selects RX5 yX5_save yX5_save ∈ ww := ww_of (List.mem_of_getElem? (i := 561) (by decide +kernel)) rfl
theorem wM_L_116 : Cond.methodLink RL 116 yX5_restore ∈ ww := ww_of (List.mem_of_getElem? (i := 563) (by decide +kernel)) rfl
theorem yo_X5_restore : Cond.instanceMethod yX5_restore ∈ ww := ww_of (List.mem_of_getElem? (i := 564) (by decide +kernel)) rfl
theorem yl_X5_restore : Cond.selects RX5 yX5_restore yX5_restore ∈ ww := ww_of (List.mem_of_getElem? (i := 565) (by decide +kernel)) rfl
theorem wK_L_10 : Cond.classLink RL 10 RX6 ∈ ww := ww_of (List.mem_of_getElem? (i := 567) (by decide +kernel)) rfl
theorem wN_RX6 : Cond.instantiable RX6 12 ∈ ww := ww_of (List.mem_of_getElem? (i := 568) (by decide +kernel)) rfl
theorem wM_L_12 : Cond.methodLink RL 12 yX6_init ∈ ww := ww_of (List.mem_of_getElem? (i := 569) (by decide +kernel)) rfl
theorem yo_X6_init : Cond.instanceMethod yX6_init ∈ ww := ww_of (List.mem_of_getElem? (i := 570) (by decide +kernel)) rfl
theorem wM_X6_1 : Cond.methodLink RX6 1 objectInit ∈ ww := ww_of (List.mem_of_getElem? (i := 572) (by decide +kernel)) rfl
theorem wM_X6_29 : Cond.methodLink RX6 29 yX6_lays ∈ ww := ww_of (List.mem_of_getElem? (i := 573) (by decide +kernel)) rfl
theorem yo_X6_lays : Cond.instanceMethod yX6_lays ∈ ww := ww_of (List.mem_of_getElem? (i := 575) (by decide +kernel)) rfl
theorem wF_X6_7 : Cond.fieldLink RX6 7 "TowerFacesModel" "z" "[I" ∈ ww := ww_of (List.mem_of_getElem? (i := 577) (by decide +kernel)) rfl
theorem wF_X6_13 : Cond.fieldLink RX6 13 "TowerFacesModel" "past" "[I" ∈ ww := ww_of (List.mem_of_getElem? (i := 578) (by decide +kernel)) rfl
theorem wF_X6_37 : Cond.fieldLink RX6 37 "TowerFacesModel" "pastMany" "I" ∈ ww := ww_of (List.mem_of_getElem? (i := 579) (by decide +kernel)) rfl
theorem wF_X6_16 : Cond.fieldLink RX6 16 "TowerFacesModel" "kept" "[I" ∈ ww := ww_of (List.mem_of_getElem? (i := 580) (by decide +kernel)) rfl
theorem wF_X6_41 : Cond.fieldLink RX6 41 "TowerFacesModel" "isKept" "Z" ∈ ww := ww_of (List.mem_of_getElem? (i := 581) (by decide +kernel)) rfl
theorem wF_X6_19 : Cond.fieldLink RX6 19 "TowerFacesModel" "aside" "[I" ∈ ww := ww_of (List.mem_of_getElem? (i := 582) (by decide +kernel)) rfl
theorem wF_X6_22 : Cond.fieldLink RX6 22 "TowerFacesModel" "buffer" "[C" ∈ ww := ww_of (List.mem_of_getElem? (i := 583) (by decide +kernel)) rfl
theorem wF_X6_132 : Cond.fieldLink RX6 132 "TowerFacesModel" "typed" "I" ∈ ww := ww_of (List.mem_of_getElem? (i := 584) (by decide +kernel)) rfl
theorem wF_X6_26 : Cond.fieldLink RX6 26 "TowerFacesModel" "told" "[I" ∈ ww := ww_of (List.mem_of_getElem? (i := 585) (by decide +kernel)) rfl
theorem wF_X6_151 : Cond.fieldLink RX6 151 "TowerFacesModel" "toldMany" "I" ∈ ww := ww_of (List.mem_of_getElem? (i := 586) (by decide +kernel)) rfl
theorem wF_X6_135 : Cond.fieldLink RX6 135 "TowerFacesModel" "spot" "I" ∈ ww := ww_of (List.mem_of_getElem? (i := 587) (by decide +kernel)) rfl
theorem wF_X6_138 : Cond.fieldLink RX6 138 "TowerFacesModel" "wrong" "I" ∈ ww := ww_of (List.mem_of_getElem? (i := 588) (by decide +kernel)) rfl
theorem wM_L_111 : Cond.methodLink RL 111 yX6_undo ∈ ww := ww_of (List.mem_of_getElem? (i := 614) (by decide +kernel)) rfl
theorem yo_X6_undo : Cond.instanceMethod yX6_undo ∈ ww := ww_of (List.mem_of_getElem? (i := 615) (by decide +kernel)) rfl
theorem yl_X6_undo : Cond.selects RX6 yX6_undo yX6_undo ∈ ww := ww_of (List.mem_of_getElem? (i := 616) (by decide +kernel)) rfl
theorem wM_L_115 : Cond.methodLink RL 115 yX6_save ∈ ww := ww_of (List.mem_of_getElem? (i := 618) (by decide +kernel)) rfl
theorem yo_X6_save : Cond.instanceMethod yX6_save ∈ ww := ww_of (List.mem_of_getElem? (i := 619) (by decide +kernel)) rfl
theorem yl_X6_save : Cond.selects RX6 yX6_save yX6_save ∈ ww := ww_of (List.mem_of_getElem? (i := 620) (by decide +kernel)) rfl
theorem wM_L_119 : Cond.methodLink RL 119 yX6_restore ∈ ww := ww_of (List.mem_of_getElem? (i := 622) (by decide +kernel)) rfl
theorem yo_X6_restore : Cond.instanceMethod yX6_restore ∈ ww := ww_of (List.mem_of_getElem? (i := 623) (by decide +kernel)) rfl
theorem yl_X6_restore : Cond.selects RX6 yX6_restore yX6_restore ∈ ww := ww_of (List.mem_of_getElem? (i := 624) (by decide +kernel)) rfl
theorem wM_X6_45 : Cond.methodLink RX6 45 yX6_record ∈ ww := ww_of (List.mem_of_getElem? (i := 626) (by decide +kernel)) rfl
theorem yo_X6_record : Cond.instanceMethod yX6_record ∈ ww := ww_of (List.mem_of_getElem? (i := 628) (by decide +kernel)) rfl
theorem wM_L_17 : Cond.methodLink RL 17 yX6_set ∈ ww := ww_of (List.mem_of_getElem? (i := 630) (by decide +kernel)) rfl
theorem yo_X6_set : Cond.instanceMethod yX6_set ∈ ww := ww_of (List.mem_of_getElem? (i := 631) (by decide +kernel)) rfl
theorem yl_X6_set : Cond.selects RX6 yX6_set yX6_set ∈ ww := ww_of (List.mem_of_getElem? (i := 632) (by decide +kernel)) rfl
theorem wM_X6_48 : Cond.methodLink RX6 48 yX6_isInRange ∈ ww := ww_of (List.mem_of_getElem? (i := 634) (by decide +kernel)) rfl
theorem ys_X6_isInRange : Cond.static yX6_isInRange ∈ ww := ww_of (List.mem_of_getElem? (i := 635) (by decide +kernel)) rfl
theorem wM_X6_33 : Cond.methodLink RX6 33 yX6_in ∈ ww := ww_of (List.mem_of_getElem? (i := 637) (by decide +kernel)) rfl
theorem ys_X6_in : Cond.static yX6_in ∈ ww := ww_of (List.mem_of_getElem? (i := 638) (by decide +kernel)) rfl
theorem wM_L_22 : Cond.methodLink RL 22 yX6_setting ∈ ww := ww_of (List.mem_of_getElem? (i := 640) (by decide +kernel)) rfl
theorem yo_X6_setting : Cond.instanceMethod yX6_setting ∈ ww := ww_of (List.mem_of_getElem? (i := 641) (by decide +kernel)) rfl
theorem yl_X6_setting : Cond.selects RX6 yX6_setting yX6_setting ∈ ww := ww_of (List.mem_of_getElem? (i := 642) (by decide +kernel)) rfl
theorem wM_L_26 : Cond.methodLink RL 26 yX6_gear ∈ ww := ww_of (List.mem_of_getElem? (i := 644) (by decide +kernel)) rfl
theorem yo_X6_gear : Cond.instanceMethod yX6_gear ∈ ww := ww_of (List.mem_of_getElem? (i := 645) (by decide +kernel)) rfl
theorem yl_X6_gear : Cond.selects RX6 yX6_gear yX6_gear ∈ ww := ww_of (List.mem_of_getElem? (i := 646) (by decide +kernel)) rfl
theorem wM_X6_52 : Cond.methodLink RX6 52 yX6_isFace ∈ ww := ww_of (List.mem_of_getElem? (i := 648) (by decide +kernel)) rfl
theorem ys_X6_isFace : Cond.static yX6_isFace ∈ ww := ww_of (List.mem_of_getElem? (i := 649) (by decide +kernel)) rfl
theorem wM_X6_56 : Cond.methodLink RX6 56 yX6_of ∈ ww := ww_of (List.mem_of_getElem? (i := 651) (by decide +kernel)) rfl
theorem yo_X6_of : Cond.instanceMethod yX6_of ∈ ww := ww_of (List.mem_of_getElem? (i := 653) (by decide +kernel)) rfl
theorem wM_L_30 : Cond.methodLink RL 30 yX6_oil ∈ ww := ww_of (List.mem_of_getElem? (i := 655) (by decide +kernel)) rfl
theorem yo_X6_oil : Cond.instanceMethod yX6_oil ∈ ww := ww_of (List.mem_of_getElem? (i := 656) (by decide +kernel)) rfl
theorem yl_X6_oil : Cond.selects RX6 yX6_oil yX6_oil ∈ ww := ww_of (List.mem_of_getElem? (i := 657) (by decide +kernel)) rfl
theorem wM_X6_60 : Cond.methodLink RX6 60 yX6_oils ∈ ww := ww_of (List.mem_of_getElem? (i := 659) (by decide +kernel)) rfl
theorem yo_X6_oils : Cond.instanceMethod yX6_oils ∈ ww := ww_of (List.mem_of_getElem? (i := 661) (by decide +kernel)) rfl
theorem wM_L_34 : Cond.methodLink RL 34 yX6_dial ∈ ww := ww_of (List.mem_of_getElem? (i := 663) (by decide +kernel)) rfl
theorem yo_X6_dial : Cond.instanceMethod yX6_dial ∈ ww := ww_of (List.mem_of_getElem? (i := 664) (by decide +kernel)) rfl
theorem yl_X6_dial : Cond.selects RX6 yX6_dial yX6_dial ∈ ww := ww_of (List.mem_of_getElem? (i := 665) (by decide +kernel)) rfl
theorem wM_X6_67 : Cond.methodLink RX6 67 yX6_dials ∈ ww := ww_of (List.mem_of_getElem? (i := 667) (by decide +kernel)) rfl
theorem yo_X6_dials : Cond.instanceMethod yX6_dials ∈ ww := ww_of (List.mem_of_getElem? (i := 669) (by decide +kernel)) rfl
theorem wM_X6_64 : Cond.methodLink RX6 64 yX6_distance ∈ ww := ww_of (List.mem_of_getElem? (i := 671) (by decide +kernel)) rfl
theorem ys_X6_distance : Cond.static yX6_distance ∈ ww := ww_of (List.mem_of_getElem? (i := 672) (by decide +kernel)) rfl
theorem wM_L_38 : Cond.methodLink RL 38 yX6_bell ∈ ww := ww_of (List.mem_of_getElem? (i := 674) (by decide +kernel)) rfl
theorem yo_X6_bell : Cond.instanceMethod yX6_bell ∈ ww := ww_of (List.mem_of_getElem? (i := 675) (by decide +kernel)) rfl
theorem yl_X6_bell : Cond.selects RX6 yX6_bell yX6_bell ∈ ww := ww_of (List.mem_of_getElem? (i := 676) (by decide +kernel)) rfl
theorem wM_X6_70 : Cond.methodLink RX6 70 yX6_hangs ∈ ww := ww_of (List.mem_of_getElem? (i := 678) (by decide +kernel)) rfl
theorem yo_X6_hangs : Cond.instanceMethod yX6_hangs ∈ ww := ww_of (List.mem_of_getElem? (i := 680) (by decide +kernel)) rfl
theorem wM_L_42 : Cond.methodLink RL 42 yX6_pass ∈ ww := ww_of (List.mem_of_getElem? (i := 682) (by decide +kernel)) rfl
theorem yo_X6_pass : Cond.instanceMethod yX6_pass ∈ ww := ww_of (List.mem_of_getElem? (i := 683) (by decide +kernel)) rfl
theorem yl_X6_pass : Cond.selects RX6 yX6_pass yX6_pass ∈ ww := ww_of (List.mem_of_getElem? (i := 684) (by decide +kernel)) rfl
theorem wM_X6_90 : Cond.methodLink RX6 90 yX6_whyNotPass ∈ ww := ww_of (List.mem_of_getElem? (i := 686) (by decide +kernel)) rfl
theorem yo_X6_whyNotPass : Cond.instanceMethod yX6_whyNotPass ∈ ww := ww_of (List.mem_of_getElem? (i := 688) (by decide +kernel)) rfl
theorem wT_X6_89 : Cond.constant RX6 89 (999999) ∈ ww := ww_of (List.mem_of_getElem? (i := 690) (by decide +kernel)) rfl
theorem wM_X6_93 : Cond.methodLink RX6 93 yX6_passes ∈ ww := ww_of (List.mem_of_getElem? (i := 691) (by decide +kernel)) rfl
theorem yo_X6_passes : Cond.instanceMethod yX6_passes ∈ ww := ww_of (List.mem_of_getElem? (i := 693) (by decide +kernel)) rfl
theorem wM_X6_86 : Cond.methodLink RX6 86 yX6_minute ∈ ww := ww_of (List.mem_of_getElem? (i := 695) (by decide +kernel)) rfl
theorem yo_X6_minute : Cond.instanceMethod yX6_minute ∈ ww := ww_of (List.mem_of_getElem? (i := 697) (by decide +kernel)) rfl
theorem wM_X6_76 : Cond.methodLink RX6 76 yX6_turns ∈ ww := ww_of (List.mem_of_getElem? (i := 699) (by decide +kernel)) rfl
theorem yo_X6_turns : Cond.instanceMethod yX6_turns ∈ ww := ww_of (List.mem_of_getElem? (i := 701) (by decide +kernel)) rfl
theorem wM_X6_73 : Cond.methodLink RX6 73 yX6_strikesAt ∈ ww := ww_of (List.mem_of_getElem? (i := 703) (by decide +kernel)) rfl
theorem ys_X6_strikesAt : Cond.static yX6_strikesAt ∈ ww := ww_of (List.mem_of_getElem? (i := 704) (by decide +kernel)) rfl
theorem wM_X6_79 : Cond.methodLink RX6 79 yX6_minuteOfDay ∈ ww := ww_of (List.mem_of_getElem? (i := 706) (by decide +kernel)) rfl
theorem yo_X6_minuteOfDay : Cond.instanceMethod yX6_minuteOfDay ∈ ww := ww_of (List.mem_of_getElem? (i := 708) (by decide +kernel)) rfl
theorem wM_X6_83 : Cond.methodLink RX6 83 yX6_resets ∈ ww := ww_of (List.mem_of_getElem? (i := 710) (by decide +kernel)) rfl
theorem yo_X6_resets : Cond.instanceMethod yX6_resets ∈ ww := ww_of (List.mem_of_getElem? (i := 712) (by decide +kernel)) rfl
theorem wM_X6_114 : Cond.methodLink RX6 114 yX6_onWatch ∈ ww := ww_of (List.mem_of_getElem? (i := 714) (by decide +kernel)) rfl
theorem yo_X6_onWatch : Cond.instanceMethod yX6_onWatch ∈ ww := ww_of (List.mem_of_getElem? (i := 716) (by decide +kernel)) rfl
theorem wM_X6_99 : Cond.methodLink RX6 99 yX6_since ∈ ww := ww_of (List.mem_of_getElem? (i := 718) (by decide +kernel)) rfl
theorem yo_X6_since : Cond.instanceMethod yX6_since ∈ ww := ww_of (List.mem_of_getElem? (i := 720) (by decide +kernel)) rfl
theorem wM_X6_96 : Cond.methodLink RX6 96 yX6_startOf ∈ ww := ww_of (List.mem_of_getElem? (i := 722) (by decide +kernel)) rfl
theorem yo_X6_startOf : Cond.instanceMethod yX6_startOf ∈ ww := ww_of (List.mem_of_getElem? (i := 724) (by decide +kernel)) rfl
theorem wM_X6_117 : Cond.methodLink RX6 117 yX6_timeOf ∈ ww := ww_of (List.mem_of_getElem? (i := 726) (by decide +kernel)) rfl
theorem yo_X6_timeOf : Cond.instanceMethod yX6_timeOf ∈ ww := ww_of (List.mem_of_getElem? (i := 728) (by decide +kernel)) rfl
theorem wM_X6_111 : Cond.methodLink RX6 111 yX6_wrongOf ∈ ww := ww_of (List.mem_of_getElem? (i := 730) (by decide +kernel)) rfl
theorem yo_X6_wrongOf : Cond.instanceMethod yX6_wrongOf ∈ ww := ww_of (List.mem_of_getElem? (i := 732) (by decide +kernel)) rfl
theorem wM_L_46 : Cond.methodLink RL 46 yX6_hire ∈ ww := ww_of (List.mem_of_getElem? (i := 734) (by decide +kernel)) rfl
theorem yo_X6_hire : Cond.instanceMethod yX6_hire ∈ ww := ww_of (List.mem_of_getElem? (i := 735) (by decide +kernel)) rfl
theorem yl_X6_hire : Cond.selects RX6 yX6_hire yX6_hire ∈ ww := ww_of (List.mem_of_getElem? (i := 736) (by decide +kernel)) rfl
theorem wM_X6_105 : Cond.methodLink RX6 105 yX6_whyNotHire ∈ ww := ww_of (List.mem_of_getElem? (i := 738) (by decide +kernel)) rfl
theorem yo_X6_whyNotHire : Cond.instanceMethod yX6_whyNotHire ∈ ww := ww_of (List.mem_of_getElem? (i := 740) (by decide +kernel)) rfl
theorem wM_X6_102 : Cond.methodLink RX6 102 yX6_keeperBy ∈ ww := ww_of (List.mem_of_getElem? (i := 742) (by decide +kernel)) rfl
theorem yo_X6_keeperBy : Cond.instanceMethod yX6_keeperBy ∈ ww := ww_of (List.mem_of_getElem? (i := 744) (by decide +kernel)) rfl
theorem wM_X6_108 : Cond.methodLink RX6 108 yX6_hires ∈ ww := ww_of (List.mem_of_getElem? (i := 746) (by decide +kernel)) rfl
theorem yo_X6_hires : Cond.instanceMethod yX6_hires ∈ ww := ww_of (List.mem_of_getElem? (i := 748) (by decide +kernel)) rfl
theorem wM_L_50 : Cond.methodLink RL 50 yX6_dismiss ∈ ww := ww_of (List.mem_of_getElem? (i := 750) (by decide +kernel)) rfl
theorem yo_X6_dismiss : Cond.instanceMethod yX6_dismiss ∈ ww := ww_of (List.mem_of_getElem? (i := 751) (by decide +kernel)) rfl
theorem yl_X6_dismiss : Cond.selects RX6 yX6_dismiss yX6_dismiss ∈ ww := ww_of (List.mem_of_getElem? (i := 752) (by decide +kernel)) rfl
theorem wM_L_55 : Cond.methodLink RL 55 yX6_reset ∈ ww := ww_of (List.mem_of_getElem? (i := 754) (by decide +kernel)) rfl
theorem yo_X6_reset : Cond.instanceMethod yX6_reset ∈ ww := ww_of (List.mem_of_getElem? (i := 755) (by decide +kernel)) rfl
theorem yl_X6_reset : Cond.selects RX6 yX6_reset yX6_reset ∈ ww := ww_of (List.mem_of_getElem? (i := 756) (by decide +kernel)) rfl
theorem wM_L_59 : Cond.methodLink RL 59 yX6_keeper ∈ ww := ww_of (List.mem_of_getElem? (i := 758) (by decide +kernel)) rfl
theorem yo_X6_keeper : Cond.instanceMethod yX6_keeper ∈ ww := ww_of (List.mem_of_getElem? (i := 759) (by decide +kernel)) rfl
theorem yl_X6_keeper : Cond.selects RX6 yX6_keeper yX6_keeper ∈ ww := ww_of (List.mem_of_getElem? (i := 760) (by decide +kernel)) rfl
theorem wM_L_63 : Cond.methodLink RL 63 yX6_keeperTime ∈ ww := ww_of (List.mem_of_getElem? (i := 762) (by decide +kernel)) rfl
theorem yo_X6_keeperTime : Cond.instanceMethod yX6_keeperTime ∈ ww := ww_of (List.mem_of_getElem? (i := 763) (by decide +kernel)) rfl
theorem yl_X6_keeperTime : Cond.selects RX6 yX6_keeperTime yX6_keeperTime ∈ ww := ww_of (List.mem_of_getElem? (i := 764) (by decide +kernel)) rfl
theorem wM_L_67 : Cond.methodLink RL 67 yX6_face ∈ ww := ww_of (List.mem_of_getElem? (i := 766) (by decide +kernel)) rfl
theorem yo_X6_face : Cond.instanceMethod yX6_face ∈ ww := ww_of (List.mem_of_getElem? (i := 767) (by decide +kernel)) rfl
theorem yl_X6_face : Cond.selects RX6 yX6_face yX6_face ∈ ww := ww_of (List.mem_of_getElem? (i := 768) (by decide +kernel)) rfl
theorem wM_L_71 : Cond.methodLink RL 71 yX6_total ∈ ww := ww_of (List.mem_of_getElem? (i := 770) (by decide +kernel)) rfl
theorem yo_X6_total : Cond.instanceMethod yX6_total ∈ ww := ww_of (List.mem_of_getElem? (i := 771) (by decide +kernel)) rfl
theorem yl_X6_total : Cond.selects RX6 yX6_total yX6_total ∈ ww := ww_of (List.mem_of_getElem? (i := 772) (by decide +kernel)) rfl
theorem wM_X6_120 : Cond.methodLink RX6 120 yX6_sum ∈ ww := ww_of (List.mem_of_getElem? (i := 774) (by decide +kernel)) rfl
theorem yo_X6_sum : Cond.instanceMethod yX6_sum ∈ ww := ww_of (List.mem_of_getElem? (i := 776) (by decide +kernel)) rfl
theorem wM_X6_123 : Cond.methodLink RX6 123 yX6_spread ∈ ww := ww_of (List.mem_of_getElem? (i := 778) (by decide +kernel)) rfl
theorem yo_X6_spread : Cond.instanceMethod yX6_spread ∈ ww := ww_of (List.mem_of_getElem? (i := 780) (by decide +kernel)) rfl
theorem wM_L_75 : Cond.methodLink RL 75 yX6_majority ∈ ww := ww_of (List.mem_of_getElem? (i := 782) (by decide +kernel)) rfl
theorem yo_X6_majority : Cond.instanceMethod yX6_majority ∈ ww := ww_of (List.mem_of_getElem? (i := 783) (by decide +kernel)) rfl
theorem yl_X6_majority : Cond.selects RX6 yX6_majority yX6_majority ∈ ww := ww_of (List.mem_of_getElem? (i := 784) (by decide +kernel)) rfl
theorem wM_L_79 : Cond.methodLink RL 79 yX6_coming ∈ ww := ww_of (List.mem_of_getElem? (i := 786) (by decide +kernel)) rfl
theorem yo_X6_coming : Cond.instanceMethod yX6_coming ∈ ww := ww_of (List.mem_of_getElem? (i := 787) (by decide +kernel)) rfl
theorem yl_X6_coming : Cond.selects RX6 yX6_coming yX6_coming ∈ ww := ww_of (List.mem_of_getElem? (i := 788) (by decide +kernel)) rfl
theorem wM_L_83 : Cond.methodLink RL 83 yX6_spreadIn ∈ ww := ww_of (List.mem_of_getElem? (i := 790) (by decide +kernel)) rfl
theorem yo_X6_spreadIn : Cond.instanceMethod yX6_spreadIn ∈ ww := ww_of (List.mem_of_getElem? (i := 791) (by decide +kernel)) rfl
theorem yl_X6_spreadIn : Cond.selects RX6 yX6_spreadIn yX6_spreadIn ∈ ww := ww_of (List.mem_of_getElem? (i := 792) (by decide +kernel)) rfl
theorem wM_X6_126 : Cond.methodLink RX6 126 yX6_putAside ∈ ww := ww_of (List.mem_of_getElem? (i := 794) (by decide +kernel)) rfl
theorem yo_X6_putAside : Cond.instanceMethod yX6_putAside ∈ ww := ww_of (List.mem_of_getElem? (i := 796) (by decide +kernel)) rfl
theorem wM_X6_129 : Cond.methodLink RX6 129 yX6_takeBack ∈ ww := ww_of (List.mem_of_getElem? (i := 798) (by decide +kernel)) rfl
theorem yo_X6_takeBack : Cond.instanceMethod yX6_takeBack ∈ ww := ww_of (List.mem_of_getElem? (i := 800) (by decide +kernel)) rfl
theorem wM_L_87 : Cond.methodLink RL 87 yX6_minutesTo ∈ ww := ww_of (List.mem_of_getElem? (i := 802) (by decide +kernel)) rfl
theorem yo_X6_minutesTo : Cond.instanceMethod yX6_minutesTo ∈ ww := ww_of (List.mem_of_getElem? (i := 803) (by decide +kernel)) rfl
theorem yl_X6_minutesTo : Cond.selects RX6 yX6_minutesTo yX6_minutesTo ∈ ww := ww_of (List.mem_of_getElem? (i := 804) (by decide +kernel)) rfl
theorem wM_L_91 : Cond.methodLink RL 91 yX6_bestOil ∈ ww := ww_of (List.mem_of_getElem? (i := 806) (by decide +kernel)) rfl
theorem yo_X6_bestOil : Cond.instanceMethod yX6_bestOil ∈ ww := ww_of (List.mem_of_getElem? (i := 807) (by decide +kernel)) rfl
theorem yl_X6_bestOil : Cond.selects RX6 yX6_bestOil yX6_bestOil ∈ ww := ww_of (List.mem_of_getElem? (i := 808) (by decide +kernel)) rfl
theorem wM_L_95 : Cond.methodLink RL 95 yX6_append ∈ ww := ww_of (List.mem_of_getElem? (i := 810) (by decide +kernel)) rfl
theorem yo_X6_append : Cond.instanceMethod yX6_append ∈ ww := ww_of (List.mem_of_getElem? (i := 811) (by decide +kernel)) rfl
theorem yl_X6_append : Cond.selects RX6 yX6_append yX6_append ∈ ww := ww_of (List.mem_of_getElem? (i := 812) (by decide +kernel)) rfl
theorem wM_L_99 : Cond.methodLink RL 99 yX6_clearText ∈ ww := ww_of (List.mem_of_getElem? (i := 814) (by decide +kernel)) rfl
theorem yo_X6_clearText : Cond.instanceMethod yX6_clearText ∈ ww := ww_of (List.mem_of_getElem? (i := 815) (by decide +kernel)) rfl
theorem yl_X6_clearText : Cond.selects RX6 yX6_clearText yX6_clearText ∈ ww := ww_of (List.mem_of_getElem? (i := 816) (by decide +kernel)) rfl
theorem wM_L_103 : Cond.methodLink RL 103 yX6_errorPosition ∈ ww := ww_of (List.mem_of_getElem? (i := 818) (by decide +kernel)) rfl
theorem yo_X6_errorPosition : Cond.instanceMethod yX6_errorPosition ∈ ww := ww_of (List.mem_of_getElem? (i := 819) (by decide +kernel)) rfl
theorem yl_X6_errorPosition : Cond.selects RX6 yX6_errorPosition yX6_errorPosition ∈ ww := ww_of (List.mem_of_getElem? (i := 820) (by decide +kernel)) rfl
theorem wM_X6_160 : Cond.methodLink RX6 160 yX6_readWork ∈ ww := ww_of (List.mem_of_getElem? (i := 822) (by decide +kernel)) rfl
theorem yo_X6_readWork : Cond.instanceMethod yX6_readWork ∈ ww := ww_of (List.mem_of_getElem? (i := 824) (by decide +kernel)) rfl
theorem wM_X6_141 : Cond.methodLink RX6 141 yX6_letter ∈ ww := ww_of (List.mem_of_getElem? (i := 826) (by decide +kernel)) rfl
theorem yo_X6_letter : Cond.instanceMethod yX6_letter ∈ ww := ww_of (List.mem_of_getElem? (i := 828) (by decide +kernel)) rfl
theorem wM_X6_144 : Cond.methodLink RX6 144 yX6_wants ∈ ww := ww_of (List.mem_of_getElem? (i := 830) (by decide +kernel)) rfl
theorem yo_X6_wants : Cond.instanceMethod yX6_wants ∈ ww := ww_of (List.mem_of_getElem? (i := 832) (by decide +kernel)) rfl
theorem wM_X6_148 : Cond.methodLink RX6 148 yX6_figure ∈ ww := ww_of (List.mem_of_getElem? (i := 834) (by decide +kernel)) rfl
theorem yo_X6_figure : Cond.instanceMethod yX6_figure ∈ ww := ww_of (List.mem_of_getElem? (i := 836) (by decide +kernel)) rfl
theorem wM_X6_154 : Cond.methodLink RX6 154 yX6_clock ∈ ww := ww_of (List.mem_of_getElem? (i := 838) (by decide +kernel)) rfl
theorem yo_X6_clock : Cond.instanceMethod yX6_clock ∈ ww := ww_of (List.mem_of_getElem? (i := 840) (by decide +kernel)) rfl
theorem wM_X6_157 : Cond.methodLink RX6 157 yX6_number ∈ ww := ww_of (List.mem_of_getElem? (i := 842) (by decide +kernel)) rfl
theorem yo_X6_number : Cond.instanceMethod yX6_number ∈ ww := ww_of (List.mem_of_getElem? (i := 844) (by decide +kernel)) rfl
theorem wM_L_107 : Cond.methodLink RL 107 yX6_work ∈ ww := ww_of (List.mem_of_getElem? (i := 846) (by decide +kernel)) rfl
theorem yo_X6_work : Cond.instanceMethod yX6_work ∈ ww := ww_of (List.mem_of_getElem? (i := 847) (by decide +kernel)) rfl
theorem yl_X6_work : Cond.selects RX6 yX6_work yX6_work ∈ ww := ww_of (List.mem_of_getElem? (i := 848) (by decide +kernel)) rfl
theorem wM_X6_163 : Cond.methodLink RX6 163 yX6_errorPosition ∈ ww := ww_of (List.mem_of_getElem? (i := 850) (by decide +kernel)) rfl
theorem wM_X6_166 : Cond.methodLink RX6 166 yX6_doOne ∈ ww := ww_of (List.mem_of_getElem? (i := 851) (by decide +kernel)) rfl
theorem yo_X6_doOne : Cond.instanceMethod yX6_doOne ∈ ww := ww_of (List.mem_of_getElem? (i := 853) (by decide +kernel)) rfl
theorem yi_X0_slip : yin yX0_slip := ⟨yo_X0_slip, yl_X0_slip⟩
theorem yi_X3_strainShaft : yin yX3_strainShaft := ⟨yo_X3_strainShaft, yl_X3_strainShaft⟩
theorem yi_X5_errorAfterOil : yin yX5_errorAfterOil := ⟨yo_X5_errorAfterOil, yl_X5_errorAfterOil⟩
theorem yi_X4_readFace : yin yX4_readFace := ⟨yo_X4_readFace, yl_X4_readFace⟩
theorem yi_X4_readDigit : yin yX4_readDigit := ⟨yo_X4_readDigit, yl_X4_readDigit⟩
theorem yi_X4_readClock : yin yX4_readClock := ⟨yo_X4_readClock, yl_X4_readClock⟩
theorem yi_X4_readWrong : yin yX4_readWrong := ⟨yo_X4_readWrong, yl_X4_readWrong⟩
theorem yi_X4_readNumber : yin yX4_readNumber := ⟨yo_X4_readNumber, yl_X4_readNumber⟩
theorem yi_X5_doWork : yin yX5_doWork := ⟨yo_X5_doWork, yl_X5_doWork⟩
theorem yi_X5_workOnFace : yin yX5_workOnFace := ⟨yo_X5_workOnFace, yl_X5_workOnFace⟩
theorem yi_X6_lays : yin yX6_lays := ⟨yo_X6_lays, yl_X6_lays⟩
theorem yi_X6_record : yin yX6_record := ⟨yo_X6_record, yl_X6_record⟩
theorem yi_X6_of : yin yX6_of := ⟨yo_X6_of, yl_X6_of⟩
theorem yi_X6_oils : yin yX6_oils := ⟨yo_X6_oils, yl_X6_oils⟩
theorem yi_X6_dials : yin yX6_dials := ⟨yo_X6_dials, yl_X6_dials⟩
theorem yi_X6_hangs : yin yX6_hangs := ⟨yo_X6_hangs, yl_X6_hangs⟩
theorem yi_X6_whyNotPass : yin yX6_whyNotPass := ⟨yo_X6_whyNotPass, yl_X6_whyNotPass⟩
theorem yi_X6_passes : yin yX6_passes := ⟨yo_X6_passes, yl_X6_passes⟩
theorem yi_X6_minute : yin yX6_minute := ⟨yo_X6_minute, yl_X6_minute⟩
theorem yi_X6_turns : yin yX6_turns := ⟨yo_X6_turns, yl_X6_turns⟩
theorem yi_X6_minuteOfDay : yin yX6_minuteOfDay := ⟨yo_X6_minuteOfDay, yl_X6_minuteOfDay⟩
theorem yi_X6_resets : yin yX6_resets := ⟨yo_X6_resets, yl_X6_resets⟩
theorem yi_X6_onWatch : yin yX6_onWatch := ⟨yo_X6_onWatch, yl_X6_onWatch⟩
theorem yi_X6_since : yin yX6_since := ⟨yo_X6_since, yl_X6_since⟩
theorem yi_X6_startOf : yin yX6_startOf := ⟨yo_X6_startOf, yl_X6_startOf⟩
theorem yi_X6_timeOf : yin yX6_timeOf := ⟨yo_X6_timeOf, yl_X6_timeOf⟩
theorem yi_X6_wrongOf : yin yX6_wrongOf := ⟨yo_X6_wrongOf, yl_X6_wrongOf⟩
theorem yi_X6_whyNotHire : yin yX6_whyNotHire := ⟨yo_X6_whyNotHire, yl_X6_whyNotHire⟩
theorem yi_X6_keeperBy : yin yX6_keeperBy := ⟨yo_X6_keeperBy, yl_X6_keeperBy⟩
theorem yi_X6_hires : yin yX6_hires := ⟨yo_X6_hires, yl_X6_hires⟩
theorem yi_X6_sum : yin yX6_sum := ⟨yo_X6_sum, yl_X6_sum⟩
theorem yi_X6_spread : yin yX6_spread := ⟨yo_X6_spread, yl_X6_spread⟩
theorem yi_X6_putAside : yin yX6_putAside := ⟨yo_X6_putAside, yl_X6_putAside⟩
theorem yi_X6_takeBack : yin yX6_takeBack := ⟨yo_X6_takeBack, yl_X6_takeBack⟩
theorem yi_X6_readWork : yin yX6_readWork := ⟨yo_X6_readWork, yl_X6_readWork⟩
theorem yi_X6_letter : yin yX6_letter := ⟨yo_X6_letter, yl_X6_letter⟩
theorem yi_X6_wants : yin yX6_wants := ⟨yo_X6_wants, yl_X6_wants⟩
theorem yi_X6_figure : yin yX6_figure := ⟨yo_X6_figure, yl_X6_figure⟩
theorem yi_X6_clock : yin yX6_clock := ⟨yo_X6_clock, yl_X6_clock⟩
theorem yi_X6_number : yin yX6_number := ⟨yo_X6_number, yl_X6_number⟩
theorem yi_X6_doOne : yin yX6_doOne := ⟨yo_X6_doOne, yl_X6_doOne⟩
theorem yi_X5_set : yin yX5_set := ⟨yo_X5_set, yl_X5_set⟩
theorem yi_X1_record : yin yX1_record := ⟨yo_X1_record, yl_X1_record⟩
theorem yi_X3_copyFrom : yin yX3_copyFrom := ⟨yo_X3_copyFrom, yl_X3_copyFrom⟩
theorem yi_X0_copyFrom : yin yX0_copyFrom := ⟨yo_X0_copyFrom, yl_X0_copyFrom⟩
theorem yi_X2_copyFrom : yin yX2_copyFrom := ⟨yo_X2_copyFrom, yl_X2_copyFrom⟩
theorem yi_X5_setting : yin yX5_setting := ⟨yo_X5_setting, yl_X5_setting⟩
theorem yi_X5_gear : yin yX5_gear := ⟨yo_X5_gear, yl_X5_gear⟩
theorem yi_X3_faceAt : yin yX3_faceAt := ⟨yo_X3_faceAt, yl_X3_faceAt⟩
theorem yi_X5_oil : yin yX5_oil := ⟨yo_X5_oil, yl_X5_oil⟩
theorem yi_X0_takeOil : yin yX0_takeOil := ⟨yo_X0_takeOil, yl_X0_takeOil⟩
theorem yi_X5_dial : yin yX5_dial := ⟨yo_X5_dial, yl_X5_dial⟩
theorem yi_X5_bell : yin yX5_bell := ⟨yo_X5_bell, yl_X5_bell⟩
theorem yi_X5_pass : yin yX5_pass := ⟨yo_X5_pass, yl_X5_pass⟩
theorem yi_X3_errorOfPassing : yin yX3_errorOfPassing := ⟨yo_X3_errorOfPassing, yl_X3_errorOfPassing⟩
theorem yi_X3_passMinutes : yin yX3_passMinutes := ⟨yo_X3_passMinutes, yl_X3_passMinutes⟩
theorem yi_X3_passMinute : yin yX3_passMinute := ⟨yo_X3_passMinute, yl_X3_passMinute⟩
theorem yi_X0_passMinute : yin yX0_passMinute := ⟨yo_X0_passMinute, yl_X0_passMinute⟩
theorem yi_X0_goBack : yin yX0_goBack := ⟨yo_X0_goBack, yl_X0_goBack⟩
theorem yi_X3_minuteOfDay : yin yX3_minuteOfDay := ⟨yo_X3_minuteOfDay, yl_X3_minuteOfDay⟩
theorem yi_X3_resetFaces : yin yX3_resetFaces := ⟨yo_X3_resetFaces, yl_X3_resetFaces⟩
theorem yi_X3_timeOfKeeper : yin yX3_timeOfKeeper := ⟨yo_X3_timeOfKeeper, yl_X3_timeOfKeeper⟩
theorem yi_X2_placeAt : yin yX2_placeAt := ⟨yo_X2_placeAt, yl_X2_placeAt⟩
theorem yi_X5_hire : yin yX5_hire := ⟨yo_X5_hire, yl_X5_hire⟩
theorem yi_X2_errorOfAdding : yin yX2_errorOfAdding := ⟨yo_X2_errorOfAdding, yl_X2_errorOfAdding⟩
theorem yi_X2_hasStart : yin yX2_hasStart := ⟨yo_X2_hasStart, yl_X2_hasStart⟩
theorem yi_X2_add : yin yX2_add := ⟨yo_X2_add, yl_X2_add⟩
theorem yi_X5_dismiss : yin yX5_dismiss := ⟨yo_X5_dismiss, yl_X5_dismiss⟩
theorem yi_X2_remove : yin yX2_remove := ⟨yo_X2_remove, yl_X2_remove⟩
theorem yi_X5_reset : yin yX5_reset := ⟨yo_X5_reset, yl_X5_reset⟩
theorem yi_X5_keeper : yin yX5_keeper := ⟨yo_X5_keeper, yl_X5_keeper⟩
theorem yi_X2_minutesToNext : yin yX2_minutesToNext := ⟨yo_X2_minutesToNext, yl_X2_minutesToNext⟩
theorem yi_X5_keeperTime : yin yX5_keeperTime := ⟨yo_X5_keeperTime, yl_X5_keeperTime⟩
theorem yi_X5_face : yin yX5_face := ⟨yo_X5_face, yl_X5_face⟩
theorem yi_X5_total : yin yX5_total := ⟨yo_X5_total, yl_X5_total⟩
theorem yi_X3_slipsOfGears : yin yX3_slipsOfGears := ⟨yo_X3_slipsOfGears, yl_X3_slipsOfGears⟩
theorem yi_X3_strikesOfBells : yin yX3_strikesOfBells := ⟨yo_X3_strikesOfBells, yl_X3_strikesOfBells⟩
theorem yi_X3_spread : yin yX3_spread := ⟨yo_X3_spread, yl_X3_spread⟩
theorem yi_X5_majority : yin yX5_majority := ⟨yo_X5_majority, yl_X5_majority⟩
theorem yi_X3_facesWithDial : yin yX3_facesWithDial := ⟨yo_X3_facesWithDial, yl_X3_facesWithDial⟩
theorem yi_X5_coming : yin yX5_coming := ⟨yo_X5_coming, yl_X5_coming⟩
theorem yi_X3_bells : yin yX3_bells := ⟨yo_X3_bells, yl_X3_bells⟩
theorem yi_X3_faceOfBellInRound : yin yX3_faceOfBellInRound := ⟨yo_X3_faceOfBellInRound, yl_X3_faceOfBellInRound⟩
theorem yi_X0_minutesToHour : yin yX0_minutesToHour := ⟨yo_X0_minutesToHour, yl_X0_minutesToHour⟩
theorem yi_X5_spreadIn : yin yX5_spreadIn := ⟨yo_X5_spreadIn, yl_X5_spreadIn⟩
theorem yi_X5_minutesTo : yin yX5_minutesTo := ⟨yo_X5_minutesTo, yl_X5_minutesTo⟩
theorem yi_X5_bestOil : yin yX5_bestOil := ⟨yo_X5_bestOil, yl_X5_bestOil⟩
theorem yi_X3_distancesFromTime : yin yX3_distancesFromTime := ⟨yo_X3_distancesFromTime, yl_X3_distancesFromTime⟩
theorem yi_X5_append : yin yX5_append := ⟨yo_X5_append, yl_X5_append⟩
theorem yi_X4_add : yin yX4_add := ⟨yo_X4_add, yl_X4_add⟩
theorem yi_X5_clearText : yin yX5_clearText := ⟨yo_X5_clearText, yl_X5_clearText⟩
theorem yi_X5_errorPosition : yin yX5_errorPosition := ⟨yo_X5_errorPosition, yl_X5_errorPosition⟩
theorem yi_X4_firstError : yin yX4_firstError := ⟨yo_X4_firstError, yl_X4_firstError⟩
theorem yi_X4_goToStart : yin yX4_goToStart := ⟨yo_X4_goToStart, yl_X4_goToStart⟩
theorem yi_X4_readWork : yin yX4_readWork := ⟨yo_X4_readWork, yl_X4_readWork⟩
theorem yi_X4_readSign : yin yX4_readSign := ⟨yo_X4_readSign, yl_X4_readSign⟩
theorem yi_X5_work : yin yX5_work := ⟨yo_X5_work, yl_X5_work⟩
theorem yi_X5_undo : yin yX5_undo := ⟨yo_X5_undo, yl_X5_undo⟩
theorem yi_X1_takeBack : yin yX1_takeBack := ⟨yo_X1_takeBack, yl_X1_takeBack⟩
theorem yi_X5_save : yin yX5_save := ⟨yo_X5_save, yl_X5_save⟩
theorem yi_X5_restore : yin yX5_restore := ⟨yo_X5_restore, yl_X5_restore⟩
theorem yi_X6_undo : yin yX6_undo := ⟨yo_X6_undo, yl_X6_undo⟩
theorem yi_X6_save : yin yX6_save := ⟨yo_X6_save, yl_X6_save⟩
theorem yi_X6_restore : yin yX6_restore := ⟨yo_X6_restore, yl_X6_restore⟩
theorem yi_X6_set : yin yX6_set := ⟨yo_X6_set, yl_X6_set⟩
theorem yi_X6_setting : yin yX6_setting := ⟨yo_X6_setting, yl_X6_setting⟩
theorem yi_X6_gear : yin yX6_gear := ⟨yo_X6_gear, yl_X6_gear⟩
theorem yi_X6_oil : yin yX6_oil := ⟨yo_X6_oil, yl_X6_oil⟩
theorem yi_X6_dial : yin yX6_dial := ⟨yo_X6_dial, yl_X6_dial⟩
theorem yi_X6_bell : yin yX6_bell := ⟨yo_X6_bell, yl_X6_bell⟩
theorem yi_X6_pass : yin yX6_pass := ⟨yo_X6_pass, yl_X6_pass⟩
theorem yi_X6_hire : yin yX6_hire := ⟨yo_X6_hire, yl_X6_hire⟩
theorem yi_X6_dismiss : yin yX6_dismiss := ⟨yo_X6_dismiss, yl_X6_dismiss⟩
theorem yi_X6_reset : yin yX6_reset := ⟨yo_X6_reset, yl_X6_reset⟩
theorem yi_X6_keeper : yin yX6_keeper := ⟨yo_X6_keeper, yl_X6_keeper⟩
theorem yi_X6_keeperTime : yin yX6_keeperTime := ⟨yo_X6_keeperTime, yl_X6_keeperTime⟩
theorem yi_X6_face : yin yX6_face := ⟨yo_X6_face, yl_X6_face⟩
theorem yi_X6_total : yin yX6_total := ⟨yo_X6_total, yl_X6_total⟩
theorem yi_X6_majority : yin yX6_majority := ⟨yo_X6_majority, yl_X6_majority⟩
theorem yi_X6_coming : yin yX6_coming := ⟨yo_X6_coming, yl_X6_coming⟩
theorem yi_X6_spreadIn : yin yX6_spreadIn := ⟨yo_X6_spreadIn, yl_X6_spreadIn⟩
theorem yi_X6_minutesTo : yin yX6_minutesTo := ⟨yo_X6_minutesTo, yl_X6_minutesTo⟩
theorem yi_X6_bestOil : yin yX6_bestOil := ⟨yo_X6_bestOil, yl_X6_bestOil⟩
theorem yi_X6_append : yin yX6_append := ⟨yo_X6_append, yl_X6_append⟩
theorem yi_X6_clearText : yin yX6_clearText := ⟨yo_X6_clearText, yl_X6_clearText⟩
theorem yi_X6_errorPosition : yin yX6_errorPosition := ⟨yo_X6_errorPosition, yl_X6_errorPosition⟩
theorem yi_X6_work : yin yX6_work := ⟨yo_X6_work, yl_X6_work⟩
theorem wA_int : Cond.arrayClass .int ∈ ww := ww_of (List.mem_of_getElem? (i := 87) (by decide +kernel)) rfl
theorem wA_char : Cond.arrayClass .char ∈ ww := ww_of (List.mem_of_getElem? (i := 215) (by decide +kernel)) rfl
theorem wC_object : Cond.code objectInit ⟨#[0xb1]⟩ 1 none ∈ ww := ww_of (List.mem_of_getElem? (i := 58) (by decide +kernel)) rfl
theorem wC_max : Cond.code Lib.Math.max.name Lib.Math.max.code 2 (some .int) ∈ ww := ww_of (List.mem_of_getElem? (i := 292) (by decide +kernel)) rfl
theorem mk_max : mok Lib.Math.max.name Lib.Math.max.code 2 := ⟨ys_max, wC_max⟩
theorem wC_min : Cond.code Lib.Math.min.name Lib.Math.min.code 2 (some .int) ∈ ww := ww_of (List.mem_of_getElem? (i := 268) (by decide +kernel)) rfl
theorem mk_min : mok Lib.Math.min.name Lib.Math.min.code 2 := ⟨ys_min, wC_min⟩
theorem wC_abs : Cond.code Lib.Math.abs.name Lib.Math.abs.code 1 (some .int) ∈ ww := ww_of (List.mem_of_getElem? (i := 302) (by decide +kernel)) rfl
theorem mk_abs : mok Lib.Math.abs.name Lib.Math.abs.code 1 := ⟨ys_abs, wC_abs⟩
theorem in_X0 : ∀ w ∈ u_ws RX0 TX0 7, w ∈ ww := fun w h => ww_of ((by decide +kernel : ∀ w ∈ u_ws RX0 TX0 7, w ∈ lw_tbl) w h) ((by decide +kernel : ∀ w ∈ u_ws RX0 TX0 7, goodWord w = true) w h)
theorem in_X1 : ∀ w ∈ u_ws RX1 TX1 3, w ∈ ww := fun w h => ww_of ((by decide +kernel : ∀ w ∈ u_ws RX1 TX1 3, w ∈ lw_tbl) w h) ((by decide +kernel : ∀ w ∈ u_ws RX1 TX1 3, goodWord w = true) w h)
theorem in_X2 : ∀ w ∈ u_ws RX2 TX2 3, w ∈ ww := fun w h => ww_of ((by decide +kernel : ∀ w ∈ u_ws RX2 TX2 3, w ∈ lw_tbl) w h) ((by decide +kernel : ∀ w ∈ u_ws RX2 TX2 3, goodWord w = true) w h)
theorem in_X3 : ∀ w ∈ u_ws RX3 TX3 7, w ∈ ww := fun w h => ww_of ((by decide +kernel : ∀ w ∈ u_ws RX3 TX3 7, w ∈ lw_tbl) w h) ((by decide +kernel : ∀ w ∈ u_ws RX3 TX3 7, goodWord w = true) w h)
theorem in_X4 : ∀ w ∈ u_ws RX4 TX4 7, w ∈ ww := fun w h => ww_of ((by decide +kernel : ∀ w ∈ u_ws RX4 TX4 7, w ∈ lw_tbl) w h) ((by decide +kernel : ∀ w ∈ u_ws RX4 TX4 7, goodWord w = true) w h)
theorem in_X5 : ∀ w ∈ u_ws RX5 TX5 6, w ∈ ww := fun w h => ww_of ((by decide +kernel : ∀ w ∈ u_ws RX5 TX5 6, w ∈ lw_tbl) w h) ((by decide +kernel : ∀ w ∈ u_ws RX5 TX5 6, goodWord w = true) w h)
theorem in_X6 : ∀ w ∈ u_ws RX6 TX6 12, w ∈ ww := fun w h => ww_of ((by decide +kernel : ∀ w ∈ u_ws RX6 TX6 12, w ∈ lw_tbl) w h) ((by decide +kernel : ∀ w ∈ u_ws RX6 TX6 12, goodWord w = true) w h)
