/-! METHODS, and what the tables say of them: printed by program (wip/whole/gen/facts.py) -/
def MX0_init : gMI := (yX0_init, cX0_init, 1, none)
def MX0_become : gMI := (yX0_become, cX0_become, 7, none)
theorem mf_X0_become : gMf MX0_become 2 := ⟨gTbl_in (List.mem_of_getElem? (i := 899) (by decide +kernel)) (by decide +kernel), gTbl_in (List.mem_of_getElem? (i := 65) (by decide +kernel)) (by decide +kernel), ⟨by decide +kernel, by decide +kernel, by decide +kernel⟩, by decide +kernel⟩
theorem mv_X0_become : gMv MX0_become := ⟨gTbl_in (List.mem_of_getElem? (i := 897) (by decide +kernel)) (by decide +kernel), gTbl_in (List.mem_of_getElem? (i := 898) (by decide +kernel)) (by decide +kernel)⟩
def MX0_commonDivisor : gMI := (yX0_commonDivisor, cX0_commonDivisor, 7, (some .long))
theorem mf_X0_commonDivisor : gMf MX0_commonDivisor 2 := ⟨gTbl_in (List.mem_of_getElem? (i := 902) (by decide +kernel)) (by decide +kernel), gTbl_in (List.mem_of_getElem? (i := 65) (by decide +kernel)) (by decide +kernel), ⟨by decide +kernel, by decide +kernel, by decide +kernel⟩, by decide +kernel⟩
theorem ms_X0_commonDivisor : gMs MX0_commonDivisor := gTbl_in (List.mem_of_getElem? (i := 901) (by decide +kernel)) (by decide +kernel)
def MX1_init : gMI := (yX1_init, cX1_init, 1, none)
def MX1_kindsOfOne : gMI := (yX1_kindsOfOne, cX1_kindsOfOne, 7, (some .int))
theorem mf_X1_kindsOfOne : gMf MX1_kindsOfOne 2 := ⟨gTbl_in (List.mem_of_getElem? (i := 814) (by decide +kernel)) (by decide +kernel), gTbl_in (List.mem_of_getElem? (i := 67) (by decide +kernel)) (by decide +kernel), ⟨by decide +kernel, by decide +kernel, by decide +kernel⟩, by decide +kernel⟩
theorem ms_X1_kindsOfOne : gMs MX1_kindsOfOne := gTbl_in (List.mem_of_getElem? (i := 813) (by decide +kernel)) (by decide +kernel)
def MX1_kindsOfAunt : gMI := (yX1_kindsOfAunt, cX1_kindsOfAunt, 7, (some .int))
theorem mf_X1_kindsOfAunt : gMf MX1_kindsOfAunt 2 := ⟨gTbl_in (List.mem_of_getElem? (i := 837) (by decide +kernel)) (by decide +kernel), gTbl_in (List.mem_of_getElem? (i := 67) (by decide +kernel)) (by decide +kernel), ⟨by decide +kernel, by decide +kernel, by decide +kernel⟩, by decide +kernel⟩
theorem ms_X1_kindsOfAunt : gMs MX1_kindsOfAunt := gTbl_in (List.mem_of_getElem? (i := 836) (by decide +kernel)) (by decide +kernel)
def MX1_bestLook : gMI := (yX1_bestLook, cX1_bestLook, 6, (some .int))
theorem mf_X1_bestLook : gMf MX1_bestLook 1 := ⟨gTbl_in (List.mem_of_getElem? (i := 824) (by decide +kernel)) (by decide +kernel), gTbl_in (List.mem_of_getElem? (i := 67) (by decide +kernel)) (by decide +kernel), ⟨by decide +kernel, by decide +kernel, by decide +kernel⟩, by decide +kernel⟩
theorem mv_X1_bestLook : gMv MX1_bestLook := ⟨gTbl_in (List.mem_of_getElem? (i := 822) (by decide +kernel)) (by decide +kernel), gTbl_in (List.mem_of_getElem? (i := 823) (by decide +kernel)) (by decide +kernel)⟩
def MX1_bestAsk : gMI := (yX1_bestAsk, cX1_bestAsk, 8, (some .int))
theorem mf_X1_bestAsk : gMf MX1_bestAsk 1 := ⟨gTbl_in (List.mem_of_getElem? (i := 846) (by decide +kernel)) (by decide +kernel), gTbl_in (List.mem_of_getElem? (i := 67) (by decide +kernel)) (by decide +kernel), ⟨by decide +kernel, by decide +kernel, by decide +kernel⟩, by decide +kernel⟩
theorem mv_X1_bestAsk : gMv MX1_bestAsk := ⟨gTbl_in (List.mem_of_getElem? (i := 844) (by decide +kernel)) (by decide +kernel), gTbl_in (List.mem_of_getElem? (i := 845) (by decide +kernel)) (by decide +kernel)⟩
def MX1_mostAlike : gMI := (yX1_mostAlike, cX1_mostAlike, 6, (some .int))
theorem mf_X1_mostAlike : gMf MX1_mostAlike 1 := ⟨gTbl_in (List.mem_of_getElem? (i := 828) (by decide +kernel)) (by decide +kernel), gTbl_in (List.mem_of_getElem? (i := 67) (by decide +kernel)) (by decide +kernel), ⟨by decide +kernel, by decide +kernel, by decide +kernel⟩, by decide +kernel⟩
theorem mv_X1_mostAlike : gMv MX1_mostAlike := ⟨gTbl_in (List.mem_of_getElem? (i := 827) (by decide +kernel)) (by decide +kernel), gTbl_in (List.mem_of_getElem? (i := 15) (by decide +kernel)) (by decide +kernel)⟩
def MX2_init : gMI := (yX2_init, cX2_init, 1, none)
def MX2_startAgain : gMI := (yX2_startAgain, cX2_startAgain, 2, none)
theorem mf_X2_startAgain : gMf MX2_startAgain 1 := ⟨gTbl_in (List.mem_of_getElem? (i := 336) (by decide +kernel)) (by decide +kernel), gTbl_in (List.mem_of_getElem? (i := 60) (by decide +kernel)) (by decide +kernel), ⟨by decide +kernel, by decide +kernel, by decide +kernel⟩, by decide +kernel⟩
theorem mv_X2_startAgain : gMv MX2_startAgain := ⟨gTbl_in (List.mem_of_getElem? (i := 334) (by decide +kernel)) (by decide +kernel), gTbl_in (List.mem_of_getElem? (i := 335) (by decide +kernel)) (by decide +kernel)⟩
def MX2_copyFrom : gMI := (yX2_copyFrom, cX2_copyFrom, 2, none)
theorem mf_X2_copyFrom : gMf MX2_copyFrom 1 := ⟨gTbl_in (List.mem_of_getElem? (i := 930) (by decide +kernel)) (by decide +kernel), gTbl_in (List.mem_of_getElem? (i := 60) (by decide +kernel)) (by decide +kernel), ⟨by decide +kernel, by decide +kernel, by decide +kernel⟩, by decide +kernel⟩
theorem mv_X2_copyFrom : gMv MX2_copyFrom := ⟨gTbl_in (List.mem_of_getElem? (i := 928) (by decide +kernel)) (by decide +kernel), gTbl_in (List.mem_of_getElem? (i := 929) (by decide +kernel)) (by decide +kernel)⟩
def MX2_foldedInto : gMI := (yX2_foldedInto, cX2_foldedInto, 5, (some .long))
theorem mf_X2_foldedInto : gMf MX2_foldedInto 1 := ⟨gTbl_in (List.mem_of_getElem? (i := 970) (by decide +kernel)) (by decide +kernel), gTbl_in (List.mem_of_getElem? (i := 60) (by decide +kernel)) (by decide +kernel), ⟨by decide +kernel, by decide +kernel, by decide +kernel⟩, by decide +kernel⟩
theorem mv_X2_foldedInto : gMv MX2_foldedInto := ⟨gTbl_in (List.mem_of_getElem? (i := 968) (by decide +kernel)) (by decide +kernel), gTbl_in (List.mem_of_getElem? (i := 969) (by decide +kernel)) (by decide +kernel)⟩
def MX3_leanAs : gMI := (yX3_leanAs, cX3_leanAs, 5, (some .int))
theorem mf_X3_leanAs : gMf MX3_leanAs 3 := ⟨gTbl_in (List.mem_of_getElem? (i := 529) (by decide +kernel)) (by decide +kernel), gTbl_in (List.mem_of_getElem? (i := 74) (by decide +kernel)) (by decide +kernel), ⟨by decide +kernel, by decide +kernel, by decide +kernel⟩, by decide +kernel⟩
theorem ms_X3_leanAs : gMs MX3_leanAs := gTbl_in (List.mem_of_getElem? (i := 528) (by decide +kernel)) (by decide +kernel)
def MX3_dampAs : gMI := (yX3_dampAs, cX3_dampAs, 6, (some .int))
theorem mf_X3_dampAs : gMf MX3_dampAs 3 := ⟨gTbl_in (List.mem_of_getElem? (i := 535) (by decide +kernel)) (by decide +kernel), gTbl_in (List.mem_of_getElem? (i := 74) (by decide +kernel)) (by decide +kernel), ⟨by decide +kernel, by decide +kernel, by decide +kernel⟩, by decide +kernel⟩
theorem ms_X3_dampAs : gMs MX3_dampAs := gTbl_in (List.mem_of_getElem? (i := 534) (by decide +kernel)) (by decide +kernel)
def MX4_init : gMI := (yX4_init, cX4_init, 1, none)
def MX4_startAgain : gMI := (yX4_startAgain, cX4_startAgain, 2, none)
theorem mf_X4_startAgain : gMf MX4_startAgain 1 := ⟨gTbl_in (List.mem_of_getElem? (i := 340) (by decide +kernel)) (by decide +kernel), gTbl_in (List.mem_of_getElem? (i := 61) (by decide +kernel)) (by decide +kernel), ⟨by decide +kernel, by decide +kernel, by decide +kernel⟩, by decide +kernel⟩
theorem mv_X4_startAgain : gMv MX4_startAgain := ⟨gTbl_in (List.mem_of_getElem? (i := 338) (by decide +kernel)) (by decide +kernel), gTbl_in (List.mem_of_getElem? (i := 339) (by decide +kernel)) (by decide +kernel)⟩
def MX4_copyFrom : gMI := (yX4_copyFrom, cX4_copyFrom, 2, none)
theorem mf_X4_copyFrom : gMf MX4_copyFrom 1 := ⟨gTbl_in (List.mem_of_getElem? (i := 542) (by decide +kernel)) (by decide +kernel), gTbl_in (List.mem_of_getElem? (i := 61) (by decide +kernel)) (by decide +kernel), ⟨by decide +kernel, by decide +kernel, by decide +kernel⟩, by decide +kernel⟩
theorem mv_X4_copyFrom : gMv MX4_copyFrom := ⟨gTbl_in (List.mem_of_getElem? (i := 540) (by decide +kernel)) (by decide +kernel), gTbl_in (List.mem_of_getElem? (i := 541) (by decide +kernel)) (by decide +kernel)⟩
def MX4_addOne : gMI := (yX4_addOne, cX4_addOne, 4, (some .boolean))
theorem mf_X4_addOne : gMf MX4_addOne 3 := ⟨gTbl_in (List.mem_of_getElem? (i := 370) (by decide +kernel)) (by decide +kernel), gTbl_in (List.mem_of_getElem? (i := 61) (by decide +kernel)) (by decide +kernel), ⟨by decide +kernel, by decide +kernel, by decide +kernel⟩, by decide +kernel⟩
theorem mv_X4_addOne : gMv MX4_addOne := ⟨gTbl_in (List.mem_of_getElem? (i := 368) (by decide +kernel)) (by decide +kernel), gTbl_in (List.mem_of_getElem? (i := 369) (by decide +kernel)) (by decide +kernel)⟩
def MX4_addAunt : gMI := (yX4_addAunt, cX4_addAunt, 3, (some .boolean))
theorem mf_X4_addAunt : gMf MX4_addAunt 2 := ⟨gTbl_in (List.mem_of_getElem? (i := 383) (by decide +kernel)) (by decide +kernel), gTbl_in (List.mem_of_getElem? (i := 61) (by decide +kernel)) (by decide +kernel), ⟨by decide +kernel, by decide +kernel, by decide +kernel⟩, by decide +kernel⟩
theorem mv_X4_addAunt : gMv MX4_addAunt := ⟨gTbl_in (List.mem_of_getElem? (i := 381) (by decide +kernel)) (by decide +kernel), gTbl_in (List.mem_of_getElem? (i := 382) (by decide +kernel)) (by decide +kernel)⟩
def MX4_hasOne : gMI := (yX4_hasOne, cX4_hasOne, 2, (some .boolean))
theorem mf_X4_hasOne : gMf MX4_hasOne 1 := ⟨gTbl_in (List.mem_of_getElem? (i := 522) (by decide +kernel)) (by decide +kernel), gTbl_in (List.mem_of_getElem? (i := 61) (by decide +kernel)) (by decide +kernel), ⟨by decide +kernel, by decide +kernel, by decide +kernel⟩, by decide +kernel⟩
theorem mv_X4_hasOne : gMv MX4_hasOne := ⟨gTbl_in (List.mem_of_getElem? (i := 520) (by decide +kernel)) (by decide +kernel), gTbl_in (List.mem_of_getElem? (i := 521) (by decide +kernel)) (by decide +kernel)⟩
def MX4_hasAunt : gMI := (yX4_hasAunt, cX4_hasAunt, 2, (some .boolean))
theorem mf_X4_hasAunt : gMf MX4_hasAunt 1 := ⟨gTbl_in (List.mem_of_getElem? (i := 506) (by decide +kernel)) (by decide +kernel), gTbl_in (List.mem_of_getElem? (i := 61) (by decide +kernel)) (by decide +kernel), ⟨by decide +kernel, by decide +kernel, by decide +kernel⟩, by decide +kernel⟩
theorem mv_X4_hasAunt : gMv MX4_hasAunt := ⟨gTbl_in (List.mem_of_getElem? (i := 504) (by decide +kernel)) (by decide +kernel), gTbl_in (List.mem_of_getElem? (i := 505) (by decide +kernel)) (by decide +kernel)⟩
def MX4_isThere : gMI := (yX4_isThere, cX4_isThere, 2, (some .boolean))
theorem mf_X4_isThere : gMf MX4_isThere 1 := ⟨gTbl_in (List.mem_of_getElem? (i := 589) (by decide +kernel)) (by decide +kernel), gTbl_in (List.mem_of_getElem? (i := 61) (by decide +kernel)) (by decide +kernel), ⟨by decide +kernel, by decide +kernel, by decide +kernel⟩, by decide +kernel⟩
theorem mv_X4_isThere : gMv MX4_isThere := ⟨gTbl_in (List.mem_of_getElem? (i := 587) (by decide +kernel)) (by decide +kernel), gTbl_in (List.mem_of_getElem? (i := 588) (by decide +kernel)) (by decide +kernel)⟩
def MX4_setThere : gMI := (yX4_setThere, cX4_setThere, 3, none)
theorem mf_X4_setThere : gMf MX4_setThere 2 := ⟨gTbl_in (List.mem_of_getElem? (i := 502) (by decide +kernel)) (by decide +kernel), gTbl_in (List.mem_of_getElem? (i := 61) (by decide +kernel)) (by decide +kernel), ⟨by decide +kernel, by decide +kernel, by decide +kernel⟩, by decide +kernel⟩
theorem mv_X4_setThere : gMv MX4_setThere := ⟨gTbl_in (List.mem_of_getElem? (i := 500) (by decide +kernel)) (by decide +kernel), gTbl_in (List.mem_of_getElem? (i := 501) (by decide +kernel)) (by decide +kernel)⟩
def MX4_houseOf : gMI := (yX4_houseOf, cX4_houseOf, 2, (some .int))
theorem mf_X4_houseOf : gMf MX4_houseOf 1 := ⟨gTbl_in (List.mem_of_getElem? (i := 518) (by decide +kernel)) (by decide +kernel), gTbl_in (List.mem_of_getElem? (i := 61) (by decide +kernel)) (by decide +kernel), ⟨by decide +kernel, by decide +kernel, by decide +kernel⟩, by decide +kernel⟩
theorem mv_X4_houseOf : gMv MX4_houseOf := ⟨gTbl_in (List.mem_of_getElem? (i := 516) (by decide +kernel)) (by decide +kernel), gTbl_in (List.mem_of_getElem? (i := 517) (by decide +kernel)) (by decide +kernel)⟩
def MX4_swingOf : gMI := (yX4_swingOf, cX4_swingOf, 2, (some .int))
theorem mf_X4_swingOf : gMf MX4_swingOf 1 := ⟨gTbl_in (List.mem_of_getElem? (i := 572) (by decide +kernel)) (by decide +kernel), gTbl_in (List.mem_of_getElem? (i := 61) (by decide +kernel)) (by decide +kernel), ⟨by decide +kernel, by decide +kernel, by decide +kernel⟩, by decide +kernel⟩
theorem mv_X4_swingOf : gMv MX4_swingOf := ⟨gTbl_in (List.mem_of_getElem? (i := 570) (by decide +kernel)) (by decide +kernel), gTbl_in (List.mem_of_getElem? (i := 571) (by decide +kernel)) (by decide +kernel)⟩
def MX4_setSwing : gMI := (yX4_setSwing, cX4_setSwing, 3, none)
theorem mf_X4_setSwing : gMf MX4_setSwing 2 := ⟨gTbl_in (List.mem_of_getElem? (i := 580) (by decide +kernel)) (by decide +kernel), gTbl_in (List.mem_of_getElem? (i := 61) (by decide +kernel)) (by decide +kernel), ⟨by decide +kernel, by decide +kernel, by decide +kernel⟩, by decide +kernel⟩
theorem mv_X4_setSwing : gMv MX4_setSwing := ⟨gTbl_in (List.mem_of_getElem? (i := 578) (by decide +kernel)) (by decide +kernel), gTbl_in (List.mem_of_getElem? (i := 579) (by decide +kernel)) (by decide +kernel)⟩
def MX4_factOfOne : gMI := (yX4_factOfOne, cX4_factOfOne, 3, (some .int))
theorem mf_X4_factOfOne : gMf MX4_factOfOne 2 := ⟨gTbl_in (List.mem_of_getElem? (i := 611) (by decide +kernel)) (by decide +kernel), gTbl_in (List.mem_of_getElem? (i := 61) (by decide +kernel)) (by decide +kernel), ⟨by decide +kernel, by decide +kernel, by decide +kernel⟩, by decide +kernel⟩
theorem mv_X4_factOfOne : gMv MX4_factOfOne := ⟨gTbl_in (List.mem_of_getElem? (i := 609) (by decide +kernel)) (by decide +kernel), gTbl_in (List.mem_of_getElem? (i := 610) (by decide +kernel)) (by decide +kernel)⟩
def MX4_factOfAunt : gMI := (yX4_factOfAunt, cX4_factOfAunt, 3, (some .int))
theorem mf_X4_factOfAunt : gMf MX4_factOfAunt 2 := ⟨gTbl_in (List.mem_of_getElem? (i := 619) (by decide +kernel)) (by decide +kernel), gTbl_in (List.mem_of_getElem? (i := 61) (by decide +kernel)) (by decide +kernel), ⟨by decide +kernel, by decide +kernel, by decide +kernel⟩, by decide +kernel⟩
theorem mv_X4_factOfAunt : gMv MX4_factOfAunt := ⟨gTbl_in (List.mem_of_getElem? (i := 617) (by decide +kernel)) (by decide +kernel), gTbl_in (List.mem_of_getElem? (i := 618) (by decide +kernel)) (by decide +kernel)⟩
def MX4_leanOf : gMI := (yX4_leanOf, cX4_leanOf, 3, (some .int))
theorem mf_X4_leanOf : gMf MX4_leanOf 2 := ⟨gTbl_in (List.mem_of_getElem? (i := 631) (by decide +kernel)) (by decide +kernel), gTbl_in (List.mem_of_getElem? (i := 61) (by decide +kernel)) (by decide +kernel), ⟨by decide +kernel, by decide +kernel, by decide +kernel⟩, by decide +kernel⟩
theorem mv_X4_leanOf : gMv MX4_leanOf := ⟨gTbl_in (List.mem_of_getElem? (i := 629) (by decide +kernel)) (by decide +kernel), gTbl_in (List.mem_of_getElem? (i := 630) (by decide +kernel)) (by decide +kernel)⟩
def MX4_leaningOf : gMI := (yX4_leaningOf, cX4_leaningOf, 5, (some .int))
theorem mf_X4_leaningOf : gMf MX4_leaningOf 2 := ⟨gTbl_in (List.mem_of_getElem? (i := 526) (by decide +kernel)) (by decide +kernel), gTbl_in (List.mem_of_getElem? (i := 61) (by decide +kernel)) (by decide +kernel), ⟨by decide +kernel, by decide +kernel, by decide +kernel⟩, by decide +kernel⟩
theorem mv_X4_leaningOf : gMv MX4_leaningOf := ⟨gTbl_in (List.mem_of_getElem? (i := 524) (by decide +kernel)) (by decide +kernel), gTbl_in (List.mem_of_getElem? (i := 525) (by decide +kernel)) (by decide +kernel)⟩
def MX4_soundAt : gMI := (yX4_soundAt, cX4_soundAt, 7, (some .int))
theorem mf_X4_soundAt : gMf MX4_soundAt 1 := ⟨gTbl_in (List.mem_of_getElem? (i := 514) (by decide +kernel)) (by decide +kernel), gTbl_in (List.mem_of_getElem? (i := 61) (by decide +kernel)) (by decide +kernel), ⟨by decide +kernel, by decide +kernel, by decide +kernel⟩, by decide +kernel⟩
theorem mv_X4_soundAt : gMv MX4_soundAt := ⟨gTbl_in (List.mem_of_getElem? (i := 512) (by decide +kernel)) (by decide +kernel), gTbl_in (List.mem_of_getElem? (i := 513) (by decide +kernel)) (by decide +kernel)⟩
def MX4_soundsAt : gMI := (yX4_soundsAt, cX4_soundsAt, 2, (some .boolean))
theorem mf_X4_soundsAt : gMf MX4_soundsAt 1 := ⟨gTbl_in (List.mem_of_getElem? (i := 649) (by decide +kernel)) (by decide +kernel), gTbl_in (List.mem_of_getElem? (i := 61) (by decide +kernel)) (by decide +kernel), ⟨by decide +kernel, by decide +kernel, by decide +kernel⟩, by decide +kernel⟩
theorem mv_X4_soundsAt : gMv MX4_soundsAt := ⟨gTbl_in (List.mem_of_getElem? (i := 647) (by decide +kernel)) (by decide +kernel), gTbl_in (List.mem_of_getElem? (i := 648) (by decide +kernel)) (by decide +kernel)⟩
def MX4_reachAt : gMI := (yX4_reachAt, cX4_reachAt, 7, (some .int))
theorem mf_X4_reachAt : gMf MX4_reachAt 2 := ⟨gTbl_in (List.mem_of_getElem? (i := 653) (by decide +kernel)) (by decide +kernel), gTbl_in (List.mem_of_getElem? (i := 61) (by decide +kernel)) (by decide +kernel), ⟨by decide +kernel, by decide +kernel, by decide +kernel⟩, by decide +kernel⟩
theorem mv_X4_reachAt : gMv MX4_reachAt := ⟨gTbl_in (List.mem_of_getElem? (i := 651) (by decide +kernel)) (by decide +kernel), gTbl_in (List.mem_of_getElem? (i := 652) (by decide +kernel)) (by decide +kernel)⟩
def MX4_firstSounding : gMI := (yX4_firstSounding, cX4_firstSounding, 3, (some .int))
theorem mf_X4_firstSounding : gMf MX4_firstSounding 1 := ⟨gTbl_in (List.mem_of_getElem? (i := 645) (by decide +kernel)) (by decide +kernel), gTbl_in (List.mem_of_getElem? (i := 61) (by decide +kernel)) (by decide +kernel), ⟨by decide +kernel, by decide +kernel, by decide +kernel⟩, by decide +kernel⟩
theorem mv_X4_firstSounding : gMv MX4_firstSounding := ⟨gTbl_in (List.mem_of_getElem? (i := 643) (by decide +kernel)) (by decide +kernel), gTbl_in (List.mem_of_getElem? (i := 644) (by decide +kernel)) (by decide +kernel)⟩
def MX4_widestSounding : gMI := (yX4_widestSounding, cX4_widestSounding, 4, (some .int))
theorem mf_X4_widestSounding : gMf MX4_widestSounding 1 := ⟨gTbl_in (List.mem_of_getElem? (i := 700) (by decide +kernel)) (by decide +kernel), gTbl_in (List.mem_of_getElem? (i := 61) (by decide +kernel)) (by decide +kernel), ⟨by decide +kernel, by decide +kernel, by decide +kernel⟩, by decide +kernel⟩
theorem mv_X4_widestSounding : gMv MX4_widestSounding := ⟨gTbl_in (List.mem_of_getElem? (i := 698) (by decide +kernel)) (by decide +kernel), gTbl_in (List.mem_of_getElem? (i := 699) (by decide +kernel)) (by decide +kernel)⟩
def MX4_neededAt : gMI := (yX4_neededAt, cX4_neededAt, 4, (some .int))
theorem mf_X4_neededAt : gMf MX4_neededAt 1 := ⟨gTbl_in (List.mem_of_getElem? (i := 708) (by decide +kernel)) (by decide +kernel), gTbl_in (List.mem_of_getElem? (i := 61) (by decide +kernel)) (by decide +kernel), ⟨by decide +kernel, by decide +kernel, by decide +kernel⟩, by decide +kernel⟩
theorem mv_X4_neededAt : gMv MX4_neededAt := ⟨gTbl_in (List.mem_of_getElem? (i := 706) (by decide +kernel)) (by decide +kernel), gTbl_in (List.mem_of_getElem? (i := 707) (by decide +kernel)) (by decide +kernel)⟩
def MX4_passUpTo : gMI := (yX4_passUpTo, cX4_passUpTo, 4, none)
theorem mf_X4_passUpTo : gMf MX4_passUpTo 2 := ⟨gTbl_in (List.mem_of_getElem? (i := 510) (by decide +kernel)) (by decide +kernel), gTbl_in (List.mem_of_getElem? (i := 61) (by decide +kernel)) (by decide +kernel), ⟨by decide +kernel, by decide +kernel, by decide +kernel⟩, by decide +kernel⟩
theorem mv_X4_passUpTo : gMv MX4_passUpTo := ⟨gTbl_in (List.mem_of_getElem? (i := 508) (by decide +kernel)) (by decide +kernel), gTbl_in (List.mem_of_getElem? (i := 509) (by decide +kernel)) (by decide +kernel)⟩
def MX4_saveInto : gMI := (yX4_saveInto, cX4_saveInto, 4, none)
theorem mf_X4_saveInto : gMf MX4_saveInto 2 := ⟨gTbl_in (List.mem_of_getElem? (i := 562) (by decide +kernel)) (by decide +kernel), gTbl_in (List.mem_of_getElem? (i := 61) (by decide +kernel)) (by decide +kernel), ⟨by decide +kernel, by decide +kernel, by decide +kernel⟩, by decide +kernel⟩
theorem mv_X4_saveInto : gMv MX4_saveInto := ⟨gTbl_in (List.mem_of_getElem? (i := 560) (by decide +kernel)) (by decide +kernel), gTbl_in (List.mem_of_getElem? (i := 561) (by decide +kernel)) (by decide +kernel)⟩
def MX4_restoreFrom : gMI := (yX4_restoreFrom, cX4_restoreFrom, 4, none)
theorem mf_X4_restoreFrom : gMf MX4_restoreFrom 2 := ⟨gTbl_in (List.mem_of_getElem? (i := 603) (by decide +kernel)) (by decide +kernel), gTbl_in (List.mem_of_getElem? (i := 61) (by decide +kernel)) (by decide +kernel), ⟨by decide +kernel, by decide +kernel, by decide +kernel⟩, by decide +kernel⟩
theorem mv_X4_restoreFrom : gMv MX4_restoreFrom := ⟨gTbl_in (List.mem_of_getElem? (i := 601) (by decide +kernel)) (by decide +kernel), gTbl_in (List.mem_of_getElem? (i := 602) (by decide +kernel)) (by decide +kernel)⟩
def MX4_foldedInto : gMI := (yX4_foldedInto, cX4_foldedInto, 7, (some .long))
theorem mf_X4_foldedInto : gMf MX4_foldedInto 1 := ⟨gTbl_in (List.mem_of_getElem? (i := 974) (by decide +kernel)) (by decide +kernel), gTbl_in (List.mem_of_getElem? (i := 61) (by decide +kernel)) (by decide +kernel), ⟨by decide +kernel, by decide +kernel, by decide +kernel⟩, by decide +kernel⟩
theorem mv_X4_foldedInto : gMv MX4_foldedInto := ⟨gTbl_in (List.mem_of_getElem? (i := 972) (by decide +kernel)) (by decide +kernel), gTbl_in (List.mem_of_getElem? (i := 973) (by decide +kernel)) (by decide +kernel)⟩
def MX5_init : gMI := (yX5_init, cX5_init, 1, none)
def MX5_keep : gMI := (yX5_keep, cX5_keep, 2, none)
theorem mf_X5_keep : gMf MX5_keep 1 := ⟨gTbl_in (List.mem_of_getElem? (i := 554) (by decide +kernel)) (by decide +kernel), gTbl_in (List.mem_of_getElem? (i := 63) (by decide +kernel)) (by decide +kernel), ⟨by decide +kernel, by decide +kernel, by decide +kernel⟩, by decide +kernel⟩
theorem mv_X5_keep : gMv MX5_keep := ⟨gTbl_in (List.mem_of_getElem? (i := 552) (by decide +kernel)) (by decide +kernel), gTbl_in (List.mem_of_getElem? (i := 553) (by decide +kernel)) (by decide +kernel)⟩
def MX5_dropOldest : gMI := (yX5_dropOldest, cX5_dropOldest, 2, none)
theorem mf_X5_dropOldest : gMf MX5_dropOldest 0 := ⟨gTbl_in (List.mem_of_getElem? (i := 558) (by decide +kernel)) (by decide +kernel), gTbl_in (List.mem_of_getElem? (i := 63) (by decide +kernel)) (by decide +kernel), ⟨by decide +kernel, by decide +kernel, by decide +kernel⟩, by decide +kernel⟩
theorem mv_X5_dropOldest : gMv MX5_dropOldest := ⟨gTbl_in (List.mem_of_getElem? (i := 557) (by decide +kernel)) (by decide +kernel), gTbl_in (List.mem_of_getElem? (i := 10) (by decide +kernel)) (by decide +kernel)⟩
def MX5_takeBack : gMI := (yX5_takeBack, cX5_takeBack, 2, (some .boolean))
theorem mf_X5_takeBack : gMf MX5_takeBack 1 := ⟨gTbl_in (List.mem_of_getElem? (i := 598) (by decide +kernel)) (by decide +kernel), gTbl_in (List.mem_of_getElem? (i := 63) (by decide +kernel)) (by decide +kernel), ⟨by decide +kernel, by decide +kernel, by decide +kernel⟩, by decide +kernel⟩
theorem mv_X5_takeBack : gMv MX5_takeBack := ⟨gTbl_in (List.mem_of_getElem? (i := 596) (by decide +kernel)) (by decide +kernel), gTbl_in (List.mem_of_getElem? (i := 597) (by decide +kernel)) (by decide +kernel)⟩
def MX5_forgetAll : gMI := (yX5_forgetAll, cX5_forgetAll, 1, none)
theorem mf_X5_forgetAll : gMf MX5_forgetAll 0 := ⟨gTbl_in (List.mem_of_getElem? (i := 348) (by decide +kernel)) (by decide +kernel), gTbl_in (List.mem_of_getElem? (i := 63) (by decide +kernel)) (by decide +kernel), ⟨by decide +kernel, by decide +kernel, by decide +kernel⟩, by decide +kernel⟩
theorem mv_X5_forgetAll : gMv MX5_forgetAll := ⟨gTbl_in (List.mem_of_getElem? (i := 346) (by decide +kernel)) (by decide +kernel), gTbl_in (List.mem_of_getElem? (i := 347) (by decide +kernel)) (by decide +kernel)⟩
def MX5_copyFrom : gMI := (yX5_copyFrom, cX5_copyFrom, 2, none)
theorem mf_X5_copyFrom : gMf MX5_copyFrom 1 := ⟨gTbl_in (List.mem_of_getElem? (i := 940) (by decide +kernel)) (by decide +kernel), gTbl_in (List.mem_of_getElem? (i := 63) (by decide +kernel)) (by decide +kernel), ⟨by decide +kernel, by decide +kernel, by decide +kernel⟩, by decide +kernel⟩
theorem mv_X5_copyFrom : gMv MX5_copyFrom := ⟨gTbl_in (List.mem_of_getElem? (i := 938) (by decide +kernel)) (by decide +kernel), gTbl_in (List.mem_of_getElem? (i := 939) (by decide +kernel)) (by decide +kernel)⟩
def MX6_init : gMI := (yX6_init, cX6_init, 1, none)
def MX6_add : gMI := (yX6_add, cX6_add, 6, (some .boolean))
theorem mf_X6_add : gMf MX6_add 4 := ⟨gTbl_in (List.mem_of_getElem? (i := 749) (by decide +kernel)) (by decide +kernel), gTbl_in (List.mem_of_getElem? (i := 62) (by decide +kernel)) (by decide +kernel), ⟨by decide +kernel, by decide +kernel, by decide +kernel⟩, by decide +kernel⟩
theorem mv_X6_add : gMv MX6_add := ⟨gTbl_in (List.mem_of_getElem? (i := 747) (by decide +kernel)) (by decide +kernel), gTbl_in (List.mem_of_getElem? (i := 748) (by decide +kernel)) (by decide +kernel)⟩
def MX6_cell : gMI := (yX6_cell, cX6_cell, 3, (some .int))
theorem mf_X6_cell : gMf MX6_cell 2 := ⟨gTbl_in (List.mem_of_getElem? (i := 770) (by decide +kernel)) (by decide +kernel), gTbl_in (List.mem_of_getElem? (i := 62) (by decide +kernel)) (by decide +kernel), ⟨by decide +kernel, by decide +kernel, by decide +kernel⟩, by decide +kernel⟩
theorem mv_X6_cell : gMv MX6_cell := ⟨gTbl_in (List.mem_of_getElem? (i := 768) (by decide +kernel)) (by decide +kernel), gTbl_in (List.mem_of_getElem? (i := 769) (by decide +kernel)) (by decide +kernel)⟩
def MX6_forgetAll : gMI := (yX6_forgetAll, cX6_forgetAll, 2, (some .int))
theorem mf_X6_forgetAll : gMf MX6_forgetAll 0 := ⟨gTbl_in (List.mem_of_getElem? (i := 344) (by decide +kernel)) (by decide +kernel), gTbl_in (List.mem_of_getElem? (i := 62) (by decide +kernel)) (by decide +kernel), ⟨by decide +kernel, by decide +kernel, by decide +kernel⟩, by decide +kernel⟩
theorem mv_X6_forgetAll : gMv MX6_forgetAll := ⟨gTbl_in (List.mem_of_getElem? (i := 342) (by decide +kernel)) (by decide +kernel), gTbl_in (List.mem_of_getElem? (i := 343) (by decide +kernel)) (by decide +kernel)⟩
def MX6_copyFrom : gMI := (yX6_copyFrom, cX6_copyFrom, 2, none)
theorem mf_X6_copyFrom : gMf MX6_copyFrom 1 := ⟨gTbl_in (List.mem_of_getElem? (i := 935) (by decide +kernel)) (by decide +kernel), gTbl_in (List.mem_of_getElem? (i := 62) (by decide +kernel)) (by decide +kernel), ⟨by decide +kernel, by decide +kernel, by decide +kernel⟩, by decide +kernel⟩
theorem mv_X6_copyFrom : gMv MX6_copyFrom := ⟨gTbl_in (List.mem_of_getElem? (i := 933) (by decide +kernel)) (by decide +kernel), gTbl_in (List.mem_of_getElem? (i := 934) (by decide +kernel)) (by decide +kernel)⟩
def MX6_foldedInto : gMI := (yX6_foldedInto, cX6_foldedInto, 8, (some .long))
theorem mf_X6_foldedInto : gMf MX6_foldedInto 2 := ⟨gTbl_in (List.mem_of_getElem? (i := 981) (by decide +kernel)) (by decide +kernel), gTbl_in (List.mem_of_getElem? (i := 62) (by decide +kernel)) (by decide +kernel), ⟨by decide +kernel, by decide +kernel, by decide +kernel⟩, by decide +kernel⟩
theorem mv_X6_foldedInto : gMv MX6_foldedInto := ⟨gTbl_in (List.mem_of_getElem? (i := 979) (by decide +kernel)) (by decide +kernel), gTbl_in (List.mem_of_getElem? (i := 980) (by decide +kernel)) (by decide +kernel)⟩
def MX7_init : gMI := (yX7_init, cX7_init, 1, none)
def MX7_append : gMI := (yX7_append, cX7_append, 2, (some .boolean))
theorem mf_X7_append : gMf MX7_append 1 := ⟨gTbl_in (List.mem_of_getElem? (i := 391) (by decide +kernel)) (by decide +kernel), gTbl_in (List.mem_of_getElem? (i := 64) (by decide +kernel)) (by decide +kernel), ⟨by decide +kernel, by decide +kernel, by decide +kernel⟩, by decide +kernel⟩
theorem mv_X7_append : gMv MX7_append := ⟨gTbl_in (List.mem_of_getElem? (i := 389) (by decide +kernel)) (by decide +kernel), gTbl_in (List.mem_of_getElem? (i := 390) (by decide +kernel)) (by decide +kernel)⟩
def MX7_readInto : gMI := (yX7_readInto, cX7_readInto, 4, (some .int))
theorem mf_X7_readInto : gMf MX7_readInto 1 := ⟨gTbl_in (List.mem_of_getElem? (i := 404) (by decide +kernel)) (by decide +kernel), gTbl_in (List.mem_of_getElem? (i := 64) (by decide +kernel)) (by decide +kernel), ⟨by decide +kernel, by decide +kernel, by decide +kernel⟩, by decide +kernel⟩
theorem mv_X7_readInto : gMv MX7_readInto := ⟨gTbl_in (List.mem_of_getElem? (i := 402) (by decide +kernel)) (by decide +kernel), gTbl_in (List.mem_of_getElem? (i := 403) (by decide +kernel)) (by decide +kernel)⟩
def MX7_mayStand : gMI := (yX7_mayStand, cX7_mayStand, 3, (some .boolean))
theorem mf_X7_mayStand : gMf MX7_mayStand 3 := ⟨gTbl_in (List.mem_of_getElem? (i := 480) (by decide +kernel)) (by decide +kernel), gTbl_in (List.mem_of_getElem? (i := 64) (by decide +kernel)) (by decide +kernel), ⟨by decide +kernel, by decide +kernel, by decide +kernel⟩, by decide +kernel⟩
theorem ms_X7_mayStand : gMs MX7_mayStand := gTbl_in (List.mem_of_getElem? (i := 479) (by decide +kernel)) (by decide +kernel)
def MX7_readNumbers : gMI := (yX7_readNumbers, cX7_readNumbers, 3, (some .boolean))
theorem mf_X7_readNumbers : gMf MX7_readNumbers 2 := ⟨gTbl_in (List.mem_of_getElem? (i := 484) (by decide +kernel)) (by decide +kernel), gTbl_in (List.mem_of_getElem? (i := 64) (by decide +kernel)) (by decide +kernel), ⟨by decide +kernel, by decide +kernel, by decide +kernel⟩, by decide +kernel⟩
theorem mv_X7_readNumbers : gMv MX7_readNumbers := ⟨gTbl_in (List.mem_of_getElem? (i := 483) (by decide +kernel)) (by decide +kernel), gTbl_in (List.mem_of_getElem? (i := 6) (by decide +kernel)) (by decide +kernel)⟩
def MX7_carryOut : gMI := (yX7_carryOut, cX7_carryOut, 3, none)
theorem mf_X7_carryOut : gMf MX7_carryOut 2 := ⟨gTbl_in (List.mem_of_getElem? (i := 496) (by decide +kernel)) (by decide +kernel), gTbl_in (List.mem_of_getElem? (i := 64) (by decide +kernel)) (by decide +kernel), ⟨by decide +kernel, by decide +kernel, by decide +kernel⟩, by decide +kernel⟩
theorem mv_X7_carryOut : gMv MX7_carryOut := ⟨gTbl_in (List.mem_of_getElem? (i := 495) (by decide +kernel)) (by decide +kernel), gTbl_in (List.mem_of_getElem? (i := 9) (by decide +kernel)) (by decide +kernel)⟩
def MX7_takeNumber : gMI := (yX7_takeNumber, cX7_takeNumber, 6, (some .boolean))
theorem mf_X7_takeNumber : gMf MX7_takeNumber 3 := ⟨gTbl_in (List.mem_of_getElem? (i := 488) (by decide +kernel)) (by decide +kernel), gTbl_in (List.mem_of_getElem? (i := 64) (by decide +kernel)) (by decide +kernel), ⟨by decide +kernel, by decide +kernel, by decide +kernel⟩, by decide +kernel⟩
theorem mv_X7_takeNumber : gMv MX7_takeNumber := ⟨gTbl_in (List.mem_of_getElem? (i := 487) (by decide +kernel)) (by decide +kernel), gTbl_in (List.mem_of_getElem? (i := 7) (by decide +kernel)) (by decide +kernel)⟩
def MX7_takeSemicolon : gMI := (yX7_takeSemicolon, cX7_takeSemicolon, 1, (some .boolean))
theorem mf_X7_takeSemicolon : gMf MX7_takeSemicolon 0 := ⟨gTbl_in (List.mem_of_getElem? (i := 492) (by decide +kernel)) (by decide +kernel), gTbl_in (List.mem_of_getElem? (i := 64) (by decide +kernel)) (by decide +kernel), ⟨by decide +kernel, by decide +kernel, by decide +kernel⟩, by decide +kernel⟩
theorem mv_X7_takeSemicolon : gMv MX7_takeSemicolon := ⟨gTbl_in (List.mem_of_getElem? (i := 491) (by decide +kernel)) (by decide +kernel), gTbl_in (List.mem_of_getElem? (i := 8) (by decide +kernel)) (by decide +kernel)⟩
def MX7_wordHere : gMI := (yX7_wordHere, cX7_wordHere, 1, (some .int))
theorem mf_X7_wordHere : gMf MX7_wordHere 0 := ⟨gTbl_in (List.mem_of_getElem? (i := 420) (by decide +kernel)) (by decide +kernel), gTbl_in (List.mem_of_getElem? (i := 64) (by decide +kernel)) (by decide +kernel), ⟨by decide +kernel, by decide +kernel, by decide +kernel⟩, by decide +kernel⟩
theorem mv_X7_wordHere : gMv MX7_wordHere := ⟨gTbl_in (List.mem_of_getElem? (i := 419) (by decide +kernel)) (by decide +kernel), gTbl_in (List.mem_of_getElem? (i := 4) (by decide +kernel)) (by decide +kernel)⟩
def MX7_wordIs : gMI := (yX7_wordIs, cX7_wordIs, 3, (some .boolean))
theorem mf_X7_wordIs : gMf MX7_wordIs 1 := ⟨gTbl_in (List.mem_of_getElem? (i := 425) (by decide +kernel)) (by decide +kernel), gTbl_in (List.mem_of_getElem? (i := 64) (by decide +kernel)) (by decide +kernel), ⟨by decide +kernel, by decide +kernel, by decide +kernel⟩, by decide +kernel⟩
theorem mv_X7_wordIs : gMv MX7_wordIs := ⟨gTbl_in (List.mem_of_getElem? (i := 424) (by decide +kernel)) (by decide +kernel), gTbl_in (List.mem_of_getElem? (i := 5) (by decide +kernel)) (by decide +kernel)⟩
def MX7_nextToken : gMI := (yX7_nextToken, cX7_nextToken, 3, none)
theorem mf_X7_nextToken : gMf MX7_nextToken 0 := ⟨gTbl_in (List.mem_of_getElem? (i := 409) (by decide +kernel)) (by decide +kernel), gTbl_in (List.mem_of_getElem? (i := 64) (by decide +kernel)) (by decide +kernel), ⟨by decide +kernel, by decide +kernel, by decide +kernel⟩, by decide +kernel⟩
theorem mv_X7_nextToken : gMv MX7_nextToken := ⟨gTbl_in (List.mem_of_getElem? (i := 408) (by decide +kernel)) (by decide +kernel), gTbl_in (List.mem_of_getElem? (i := 2) (by decide +kernel)) (by decide +kernel)⟩
def MX7_classOf : gMI := (yX7_classOf, cX7_classOf, 1, (some .int))
theorem mf_X7_classOf : gMf MX7_classOf 1 := ⟨gTbl_in (List.mem_of_getElem? (i := 416) (by decide +kernel)) (by decide +kernel), gTbl_in (List.mem_of_getElem? (i := 64) (by decide +kernel)) (by decide +kernel), ⟨by decide +kernel, by decide +kernel, by decide +kernel⟩, by decide +kernel⟩
theorem ms_X7_classOf : gMs MX7_classOf := gTbl_in (List.mem_of_getElem? (i := 415) (by decide +kernel)) (by decide +kernel)
def MX7_byteAt : gMI := (yX7_byteAt, cX7_byteAt, 2, (some .int))
theorem mf_X7_byteAt : gMf MX7_byteAt 1 := ⟨gTbl_in (List.mem_of_getElem? (i := 413) (by decide +kernel)) (by decide +kernel), gTbl_in (List.mem_of_getElem? (i := 64) (by decide +kernel)) (by decide +kernel), ⟨by decide +kernel, by decide +kernel, by decide +kernel⟩, by decide +kernel⟩
theorem mv_X7_byteAt : gMv MX7_byteAt := ⟨gTbl_in (List.mem_of_getElem? (i := 412) (by decide +kernel)) (by decide +kernel), gTbl_in (List.mem_of_getElem? (i := 3) (by decide +kernel)) (by decide +kernel)⟩
def MX8_init : gMI := (yX8_init, cX8_init, 1, none)
def MX8_noiseBehind : gMI := (yX8_noiseBehind, cX8_noiseBehind, 3, (some .int))
theorem mf_X8_noiseBehind : gMf MX8_noiseBehind 2 := ⟨gTbl_in (List.mem_of_getElem? (i := 665) (by decide +kernel)) (by decide +kernel), gTbl_in (List.mem_of_getElem? (i := 66) (by decide +kernel)) (by decide +kernel), ⟨by decide +kernel, by decide +kernel, by decide +kernel⟩, by decide +kernel⟩
theorem mv_X8_noiseBehind : gMv MX8_noiseBehind := ⟨gTbl_in (List.mem_of_getElem? (i := 663) (by decide +kernel)) (by decide +kernel), gTbl_in (List.mem_of_getElem? (i := 664) (by decide +kernel)) (by decide +kernel)⟩
def MX8_fewestAunts : gMI := (yX8_fewestAunts, cX8_fewestAunts, 6, (some .int))
theorem mf_X8_fewestAunts : gMf MX8_fewestAunts 2 := ⟨gTbl_in (List.mem_of_getElem? (i := 675) (by decide +kernel)) (by decide +kernel), gTbl_in (List.mem_of_getElem? (i := 66) (by decide +kernel)) (by decide +kernel), ⟨by decide +kernel, by decide +kernel, by decide +kernel⟩, by decide +kernel⟩
theorem mv_X8_fewestAunts : gMv MX8_fewestAunts := ⟨gTbl_in (List.mem_of_getElem? (i := 673) (by decide +kernel)) (by decide +kernel), gTbl_in (List.mem_of_getElem? (i := 674) (by decide +kernel)) (by decide +kernel)⟩
def MX8_leastPush : gMI := (yX8_leastPush, cX8_leastPush, 5, (some .int))
theorem mf_X8_leastPush : gMf MX8_leastPush 3 := ⟨gTbl_in (List.mem_of_getElem? (i := 690) (by decide +kernel)) (by decide +kernel), gTbl_in (List.mem_of_getElem? (i := 66) (by decide +kernel)) (by decide +kernel), ⟨by decide +kernel, by decide +kernel, by decide +kernel⟩, by decide +kernel⟩
theorem mv_X8_leastPush : gMv MX8_leastPush := ⟨gTbl_in (List.mem_of_getElem? (i := 688) (by decide +kernel)) (by decide +kernel), gTbl_in (List.mem_of_getElem? (i := 689) (by decide +kernel)) (by decide +kernel)⟩
def MX8_lanesThatFit : gMI := (yX8_lanesThatFit, cX8_lanesThatFit, 5, (some .int))
theorem mf_X8_lanesThatFit : gMf MX8_lanesThatFit 2 := ⟨gTbl_in (List.mem_of_getElem? (i := 762) (by decide +kernel)) (by decide +kernel), gTbl_in (List.mem_of_getElem? (i := 66) (by decide +kernel)) (by decide +kernel), ⟨by decide +kernel, by decide +kernel, by decide +kernel⟩, by decide +kernel⟩
theorem mv_X8_lanesThatFit : gMv MX8_lanesThatFit := ⟨gTbl_in (List.mem_of_getElem? (i := 760) (by decide +kernel)) (by decide +kernel), gTbl_in (List.mem_of_getElem? (i := 761) (by decide +kernel)) (by decide +kernel)⟩
def MX8_swingsThatFit : gMI := (yX8_swingsThatFit, cX8_swingsThatFit, 6, (some .int))
theorem mf_X8_swingsThatFit : gMf MX8_swingsThatFit 3 := ⟨gTbl_in (List.mem_of_getElem? (i := 778) (by decide +kernel)) (by decide +kernel), gTbl_in (List.mem_of_getElem? (i := 66) (by decide +kernel)) (by decide +kernel), ⟨by decide +kernel, by decide +kernel, by decide +kernel⟩, by decide +kernel⟩
theorem mv_X8_swingsThatFit : gMv MX8_swingsThatFit := ⟨gTbl_in (List.mem_of_getElem? (i := 776) (by decide +kernel)) (by decide +kernel), gTbl_in (List.mem_of_getElem? (i := 777) (by decide +kernel)) (by decide +kernel)⟩
def MX8_fits : gMI := (yX8_fits, cX8_fits, 4, (some .boolean))
theorem mf_X8_fits : gMf MX8_fits 1 := ⟨gTbl_in (List.mem_of_getElem? (i := 766) (by decide +kernel)) (by decide +kernel), gTbl_in (List.mem_of_getElem? (i := 66) (by decide +kernel)) (by decide +kernel), ⟨by decide +kernel, by decide +kernel, by decide +kernel⟩, by decide +kernel⟩
theorem mv_X8_fits : gMv MX8_fits := ⟨gTbl_in (List.mem_of_getElem? (i := 765) (by decide +kernel)) (by decide +kernel), gTbl_in (List.mem_of_getElem? (i := 14) (by decide +kernel)) (by decide +kernel)⟩
def MX8_bestCount : gMI := (yX8_bestCount, cX8_bestCount, 7, (some .int))
theorem mf_X8_bestCount : gMf MX8_bestCount 2 := ⟨gTbl_in (List.mem_of_getElem? (i := 785) (by decide +kernel)) (by decide +kernel), gTbl_in (List.mem_of_getElem? (i := 66) (by decide +kernel)) (by decide +kernel), ⟨by decide +kernel, by decide +kernel, by decide +kernel⟩, by decide +kernel⟩
theorem ms_X8_bestCount : gMs MX8_bestCount := gTbl_in (List.mem_of_getElem? (i := 784) (by decide +kernel)) (by decide +kernel)
def MX8_lanesUpTo : gMI := (yX8_lanesUpTo, cX8_lanesUpTo, 2, (some .int))
theorem mf_X8_lanesUpTo : gMf MX8_lanesUpTo 1 := ⟨gTbl_in (List.mem_of_getElem? (i := 789) (by decide +kernel)) (by decide +kernel), gTbl_in (List.mem_of_getElem? (i := 66) (by decide +kernel)) (by decide +kernel), ⟨by decide +kernel, by decide +kernel, by decide +kernel⟩, by decide +kernel⟩
theorem ms_X8_lanesUpTo : gMs MX8_lanesUpTo := gTbl_in (List.mem_of_getElem? (i := 788) (by decide +kernel)) (by decide +kernel)
def MX8_play : gMI := (yX8_play, cX8_play, 6, none)
theorem mf_X8_play : gMf MX8_play 4 := ⟨gTbl_in (List.mem_of_getElem? (i := 854) (by decide +kernel)) (by decide +kernel), gTbl_in (List.mem_of_getElem? (i := 66) (by decide +kernel)) (by decide +kernel), ⟨by decide +kernel, by decide +kernel, by decide +kernel⟩, by decide +kernel⟩
theorem mv_X8_play : gMv MX8_play := ⟨gTbl_in (List.mem_of_getElem? (i := 852) (by decide +kernel)) (by decide +kernel), gTbl_in (List.mem_of_getElem? (i := 853) (by decide +kernel)) (by decide +kernel)⟩
def MX8_restingPairs : gMI := (yX8_restingPairs, cX8_restingPairs, 3, (some .int))
theorem mf_X8_restingPairs : gMf MX8_restingPairs 0 := ⟨gTbl_in (List.mem_of_getElem? (i := 860) (by decide +kernel)) (by decide +kernel), gTbl_in (List.mem_of_getElem? (i := 66) (by decide +kernel)) (by decide +kernel), ⟨by decide +kernel, by decide +kernel, by decide +kernel⟩, by decide +kernel⟩
theorem mv_X8_restingPairs : gMv MX8_restingPairs := ⟨gTbl_in (List.mem_of_getElem? (i := 858) (by decide +kernel)) (by decide +kernel), gTbl_in (List.mem_of_getElem? (i := 859) (by decide +kernel)) (by decide +kernel)⟩
def MX8_restingPair : gMI := (yX8_restingPair, cX8_restingPair, 4, (some .int))
theorem mf_X8_restingPair : gMf MX8_restingPair 1 := ⟨gTbl_in (List.mem_of_getElem? (i := 881) (by decide +kernel)) (by decide +kernel), gTbl_in (List.mem_of_getElem? (i := 66) (by decide +kernel)) (by decide +kernel), ⟨by decide +kernel, by decide +kernel, by decide +kernel⟩, by decide +kernel⟩
theorem mv_X8_restingPair : gMv MX8_restingPair := ⟨gTbl_in (List.mem_of_getElem? (i := 879) (by decide +kernel)) (by decide +kernel), gTbl_in (List.mem_of_getElem? (i := 880) (by decide +kernel)) (by decide +kernel)⟩
def MX8_rests : gMI := (yX8_rests, cX8_rests, 4, (some .boolean))
theorem mf_X8_rests : gMf MX8_rests 1 := ⟨gTbl_in (List.mem_of_getElem? (i := 864) (by decide +kernel)) (by decide +kernel), gTbl_in (List.mem_of_getElem? (i := 66) (by decide +kernel)) (by decide +kernel), ⟨by decide +kernel, by decide +kernel, by decide +kernel⟩, by decide +kernel⟩
theorem mv_X8_rests : gMv MX8_rests := ⟨gTbl_in (List.mem_of_getElem? (i := 863) (by decide +kernel)) (by decide +kernel), gTbl_in (List.mem_of_getElem? (i := 16) (by decide +kernel)) (by decide +kernel)⟩
def MX8_swingerGets : gMI := (yX8_swingerGets, cX8_swingerGets, 2, (some .int))
theorem mf_X8_swingerGets : gMf MX8_swingerGets 1 := ⟨gTbl_in (List.mem_of_getElem? (i := 868) (by decide +kernel)) (by decide +kernel), gTbl_in (List.mem_of_getElem? (i := 66) (by decide +kernel)) (by decide +kernel), ⟨by decide +kernel, by decide +kernel, by decide +kernel⟩, by decide +kernel⟩
theorem mv_X8_swingerGets : gMv MX8_swingerGets := ⟨gTbl_in (List.mem_of_getElem? (i := 867) (by decide +kernel)) (by decide +kernel), gTbl_in (List.mem_of_getElem? (i := 17) (by decide +kernel)) (by decide +kernel)⟩
def MX8_auntGets : gMI := (yX8_auntGets, cX8_auntGets, 2, (some .int))
theorem mf_X8_auntGets : gMf MX8_auntGets 1 := ⟨gTbl_in (List.mem_of_getElem? (i := 877) (by decide +kernel)) (by decide +kernel), gTbl_in (List.mem_of_getElem? (i := 66) (by decide +kernel)) (by decide +kernel), ⟨by decide +kernel, by decide +kernel, by decide +kernel⟩, by decide +kernel⟩
theorem mv_X8_auntGets : gMv MX8_auntGets := ⟨gTbl_in (List.mem_of_getElem? (i := 876) (by decide +kernel)) (by decide +kernel), gTbl_in (List.mem_of_getElem? (i := 19) (by decide +kernel)) (by decide +kernel)⟩
def MX8_soundOfPair : gMI := (yX8_soundOfPair, cX8_soundOfPair, 2, (some .int))
theorem mf_X8_soundOfPair : gMf MX8_soundOfPair 1 := ⟨gTbl_in (List.mem_of_getElem? (i := 872) (by decide +kernel)) (by decide +kernel), gTbl_in (List.mem_of_getElem? (i := 66) (by decide +kernel)) (by decide +kernel), ⟨by decide +kernel, by decide +kernel, by decide +kernel⟩, by decide +kernel⟩
theorem mv_X8_soundOfPair : gMv MX8_soundOfPair := ⟨gTbl_in (List.mem_of_getElem? (i := 871) (by decide +kernel)) (by decide +kernel), gTbl_in (List.mem_of_getElem? (i := 18) (by decide +kernel)) (by decide +kernel)⟩
def MX8_soundingShare : gMI := (yX8_soundingShare, cX8_soundingShare, 9, (some .long))
theorem mf_X8_soundingShare : gMf MX8_soundingShare 3 := ⟨gTbl_in (List.mem_of_getElem? (i := 894) (by decide +kernel)) (by decide +kernel), gTbl_in (List.mem_of_getElem? (i := 66) (by decide +kernel)) (by decide +kernel), ⟨by decide +kernel, by decide +kernel, by decide +kernel⟩, by decide +kernel⟩
theorem mv_X8_soundingShare : gMv MX8_soundingShare := ⟨gTbl_in (List.mem_of_getElem? (i := 892) (by decide +kernel)) (by decide +kernel), gTbl_in (List.mem_of_getElem? (i := 893) (by decide +kernel)) (by decide +kernel)⟩
def MX8_soundOfReign : gMI := (yX8_soundOfReign, cX8_soundOfReign, 8, (some .int))
theorem mf_X8_soundOfReign : gMf MX8_soundOfReign 3 := ⟨gTbl_in (List.mem_of_getElem? (i := 911) (by decide +kernel)) (by decide +kernel), gTbl_in (List.mem_of_getElem? (i := 66) (by decide +kernel)) (by decide +kernel), ⟨by decide +kernel, by decide +kernel, by decide +kernel⟩, by decide +kernel⟩
theorem mv_X8_soundOfReign : gMv MX8_soundOfReign := ⟨gTbl_in (List.mem_of_getElem? (i := 909) (by decide +kernel)) (by decide +kernel), gTbl_in (List.mem_of_getElem? (i := 910) (by decide +kernel)) (by decide +kernel)⟩
def MX9_init : gMI := (yX9_init, cX9_init, 1, none)
def MX9_partnerOf : gMI := (yX9_partnerOf, cX9_partnerOf, 2, (some .int))
theorem mf_X9_partnerOf : gMf MX9_partnerOf 1 := ⟨gTbl_in (List.mem_of_getElem? (i := 741) (by decide +kernel)) (by decide +kernel), gTbl_in (List.mem_of_getElem? (i := 68) (by decide +kernel)) (by decide +kernel), ⟨by decide +kernel, by decide +kernel, by decide +kernel⟩, by decide +kernel⟩
theorem mv_X9_partnerOf : gMv MX9_partnerOf := ⟨gTbl_in (List.mem_of_getElem? (i := 739) (by decide +kernel)) (by decide +kernel), gTbl_in (List.mem_of_getElem? (i := 740) (by decide +kernel)) (by decide +kernel)⟩
def MX9_arrange : gMI := (yX9_arrange, cX9_arrange, 6, none)
theorem mf_X9_arrange : gMf MX9_arrange 1 := ⟨gTbl_in (List.mem_of_getElem? (i := 716) (by decide +kernel)) (by decide +kernel), gTbl_in (List.mem_of_getElem? (i := 68) (by decide +kernel)) (by decide +kernel), ⟨by decide +kernel, by decide +kernel, by decide +kernel⟩, by decide +kernel⟩
theorem mv_X9_arrange : gMv MX9_arrange := ⟨gTbl_in (List.mem_of_getElem? (i := 714) (by decide +kernel)) (by decide +kernel), gTbl_in (List.mem_of_getElem? (i := 715) (by decide +kernel)) (by decide +kernel)⟩
def MX9_suitorsOf : gMI := (yX9_suitorsOf, cX9_suitorsOf, 4, (some .int))
theorem mf_X9_suitorsOf : gMf MX9_suitorsOf 2 := ⟨gTbl_in (List.mem_of_getElem? (i := 719) (by decide +kernel)) (by decide +kernel), gTbl_in (List.mem_of_getElem? (i := 68) (by decide +kernel)) (by decide +kernel), ⟨by decide +kernel, by decide +kernel, by decide +kernel⟩, by decide +kernel⟩
theorem ms_X9_suitorsOf : gMs MX9_suitorsOf := gTbl_in (List.mem_of_getElem? (i := 718) (by decide +kernel)) (by decide +kernel)
def MX9_leanAlike : gMI := (yX9_leanAlike, cX9_leanAlike, 4, (some .boolean))
theorem mf_X9_leanAlike : gMf MX9_leanAlike 3 := ⟨gTbl_in (List.mem_of_getElem? (i := 723) (by decide +kernel)) (by decide +kernel), gTbl_in (List.mem_of_getElem? (i := 68) (by decide +kernel)) (by decide +kernel), ⟨by decide +kernel, by decide +kernel, by decide +kernel⟩, by decide +kernel⟩
theorem ms_X9_leanAlike : gMs MX9_leanAlike := gTbl_in (List.mem_of_getElem? (i := 722) (by decide +kernel)) (by decide +kernel)
def MX9_mostPairs : gMI := (yX9_mostPairs, cX9_mostPairs, 5, (some .int))
theorem mf_X9_mostPairs : gMf MX9_mostPairs 3 := ⟨gTbl_in (List.mem_of_getElem? (i := 730) (by decide +kernel)) (by decide +kernel), gTbl_in (List.mem_of_getElem? (i := 68) (by decide +kernel)) (by decide +kernel), ⟨by decide +kernel, by decide +kernel, by decide +kernel⟩, by decide +kernel⟩
theorem ms_X9_mostPairs : gMs MX9_mostPairs := gTbl_in (List.mem_of_getElem? (i := 729) (by decide +kernel)) (by decide +kernel)
def MX9_firstChoice : gMI := (yX9_firstChoice, cX9_firstChoice, 5, (some .int))
theorem mf_X9_firstChoice : gMf MX9_firstChoice 3 := ⟨gTbl_in (List.mem_of_getElem? (i := 736) (by decide +kernel)) (by decide +kernel), gTbl_in (List.mem_of_getElem? (i := 68) (by decide +kernel)) (by decide +kernel), ⟨by decide +kernel, by decide +kernel, by decide +kernel⟩, by decide +kernel⟩
theorem mv_X9_firstChoice : gMv MX9_firstChoice := ⟨gTbl_in (List.mem_of_getElem? (i := 735) (by decide +kernel)) (by decide +kernel), gTbl_in (List.mem_of_getElem? (i := 12) (by decide +kernel)) (by decide +kernel)⟩
def MX10_init : gMI := (yX10_init, cX10_init, 1, none)
def MX10_lane : gMI := (yX10_lane, cX10_lane, 3, (some .int))
theorem mf_X10_lane : gMf MX10_lane 1 := ⟨gTbl_in (List.mem_of_getElem? (i := 325) (by decide +kernel)) (by decide +kernel), gTbl_in (List.mem_of_getElem? (i := 59) (by decide +kernel)) (by decide +kernel), ⟨by decide +kernel, by decide +kernel, by decide +kernel⟩, by decide +kernel⟩
theorem mv_X10_lane : gMv MX10_lane := ⟨gTbl_in (List.mem_of_getElem? (i := 323) (by decide +kernel)) (by decide +kernel), gTbl_in (List.mem_of_getElem? (i := 324) (by decide +kernel)) (by decide +kernel)⟩
def MX10_wide : gMI := (yX10_wide, cX10_wide, 3, (some .int))
theorem mf_X10_wide : gMf MX10_wide 1 := ⟨gTbl_in (List.mem_of_getElem? (i := 352) (by decide +kernel)) (by decide +kernel), gTbl_in (List.mem_of_getElem? (i := 59) (by decide +kernel)) (by decide +kernel), ⟨by decide +kernel, by decide +kernel, by decide +kernel⟩, by decide +kernel⟩
theorem mv_X10_wide : gMv MX10_wide := ⟨gTbl_in (List.mem_of_getElem? (i := 350) (by decide +kernel)) (by decide +kernel), gTbl_in (List.mem_of_getElem? (i := 351) (by decide +kernel)) (by decide +kernel)⟩
def MX10_one : gMI := (yX10_one, cX10_one, 4, (some .int))
theorem mf_X10_one : gMf MX10_one 3 := ⟨gTbl_in (List.mem_of_getElem? (i := 357) (by decide +kernel)) (by decide +kernel), gTbl_in (List.mem_of_getElem? (i := 59) (by decide +kernel)) (by decide +kernel), ⟨by decide +kernel, by decide +kernel, by decide +kernel⟩, by decide +kernel⟩
theorem mv_X10_one : gMv MX10_one := ⟨gTbl_in (List.mem_of_getElem? (i := 355) (by decide +kernel)) (by decide +kernel), gTbl_in (List.mem_of_getElem? (i := 356) (by decide +kernel)) (by decide +kernel)⟩
def MX10_aunt : gMI := (yX10_aunt, cX10_aunt, 3, (some .int))
theorem mf_X10_aunt : gMf MX10_aunt 2 := ⟨gTbl_in (List.mem_of_getElem? (i := 379) (by decide +kernel)) (by decide +kernel), gTbl_in (List.mem_of_getElem? (i := 59) (by decide +kernel)) (by decide +kernel), ⟨by decide +kernel, by decide +kernel, by decide +kernel⟩, by decide +kernel⟩
theorem mv_X10_aunt : gMv MX10_aunt := ⟨gTbl_in (List.mem_of_getElem? (i := 377) (by decide +kernel)) (by decide +kernel), gTbl_in (List.mem_of_getElem? (i := 378) (by decide +kernel)) (by decide +kernel)⟩
def MX10_type : gMI := (yX10_type, cX10_type, 2, (some .int))
theorem mf_X10_type : gMf MX10_type 1 := ⟨gTbl_in (List.mem_of_getElem? (i := 387) (by decide +kernel)) (by decide +kernel), gTbl_in (List.mem_of_getElem? (i := 59) (by decide +kernel)) (by decide +kernel), ⟨by decide +kernel, by decide +kernel, by decide +kernel⟩, by decide +kernel⟩
theorem mv_X10_type : gMv MX10_type := ⟨gTbl_in (List.mem_of_getElem? (i := 385) (by decide +kernel)) (by decide +kernel), gTbl_in (List.mem_of_getElem? (i := 386) (by decide +kernel)) (by decide +kernel)⟩
def MX10_clear : gMI := (yX10_clear, cX10_clear, 2, (some .int))
theorem mf_X10_clear : gMf MX10_clear 0 := ⟨gTbl_in (List.mem_of_getElem? (i := 396) (by decide +kernel)) (by decide +kernel), gTbl_in (List.mem_of_getElem? (i := 59) (by decide +kernel)) (by decide +kernel), ⟨by decide +kernel, by decide +kernel, by decide +kernel⟩, by decide +kernel⟩
theorem mv_X10_clear : gMv MX10_clear := ⟨gTbl_in (List.mem_of_getElem? (i := 394) (by decide +kernel)) (by decide +kernel), gTbl_in (List.mem_of_getElem? (i := 395) (by decide +kernel)) (by decide +kernel)⟩
def MX10_read : gMI := (yX10_read, cX10_read, 2, (some .int))
theorem mf_X10_read : gMf MX10_read 0 := ⟨gTbl_in (List.mem_of_getElem? (i := 400) (by decide +kernel)) (by decide +kernel), gTbl_in (List.mem_of_getElem? (i := 59) (by decide +kernel)) (by decide +kernel), ⟨by decide +kernel, by decide +kernel, by decide +kernel⟩, by decide +kernel⟩
theorem mv_X10_read : gMv MX10_read := ⟨gTbl_in (List.mem_of_getElem? (i := 398) (by decide +kernel)) (by decide +kernel), gTbl_in (List.mem_of_getElem? (i := 399) (by decide +kernel)) (by decide +kernel)⟩
def MX10_counts : gMI := (yX10_counts, cX10_counts, 2, (some .int))
theorem mf_X10_counts : gMf MX10_counts 1 := ⟨gTbl_in (List.mem_of_getElem? (i := 550) (by decide +kernel)) (by decide +kernel), gTbl_in (List.mem_of_getElem? (i := 59) (by decide +kernel)) (by decide +kernel), ⟨by decide +kernel, by decide +kernel, by decide +kernel⟩, by decide +kernel⟩
theorem mv_X10_counts : gMv MX10_counts := ⟨gTbl_in (List.mem_of_getElem? (i := 548) (by decide +kernel)) (by decide +kernel), gTbl_in (List.mem_of_getElem? (i := 549) (by decide +kernel)) (by decide +kernel)⟩
def MX10_swings : gMI := (yX10_swings, cX10_swings, 4, (some .int))
theorem mf_X10_swings : gMf MX10_swings 2 := ⟨gTbl_in (List.mem_of_getElem? (i := 567) (by decide +kernel)) (by decide +kernel), gTbl_in (List.mem_of_getElem? (i := 59) (by decide +kernel)) (by decide +kernel), ⟨by decide +kernel, by decide +kernel, by decide +kernel⟩, by decide +kernel⟩
theorem mv_X10_swings : gMv MX10_swings := ⟨gTbl_in (List.mem_of_getElem? (i := 565) (by decide +kernel)) (by decide +kernel), gTbl_in (List.mem_of_getElem? (i := 566) (by decide +kernel)) (by decide +kernel)⟩
def MX10_sends : gMI := (yX10_sends, cX10_sends, 4, (some .int))
theorem mf_X10_sends : gMf MX10_sends 2 := ⟨gTbl_in (List.mem_of_getElem? (i := 584) (by decide +kernel)) (by decide +kernel), gTbl_in (List.mem_of_getElem? (i := 59) (by decide +kernel)) (by decide +kernel), ⟨by decide +kernel, by decide +kernel, by decide +kernel⟩, by decide +kernel⟩
theorem mv_X10_sends : gMv MX10_sends := ⟨gTbl_in (List.mem_of_getElem? (i := 582) (by decide +kernel)) (by decide +kernel), gTbl_in (List.mem_of_getElem? (i := 583) (by decide +kernel)) (by decide +kernel)⟩
def MX10_undo : gMI := (yX10_undo, cX10_undo, 1, (some .int))
theorem mf_X10_undo : gMf MX10_undo 0 := ⟨gTbl_in (List.mem_of_getElem? (i := 594) (by decide +kernel)) (by decide +kernel), gTbl_in (List.mem_of_getElem? (i := 59) (by decide +kernel)) (by decide +kernel), ⟨by decide +kernel, by decide +kernel, by decide +kernel⟩, by decide +kernel⟩
theorem mv_X10_undo : gMv MX10_undo := ⟨gTbl_in (List.mem_of_getElem? (i := 592) (by decide +kernel)) (by decide +kernel), gTbl_in (List.mem_of_getElem? (i := 593) (by decide +kernel)) (by decide +kernel)⟩
def MX10_of : gMI := (yX10_of, cX10_of, 3, (some .int))
theorem mf_X10_of : gMf MX10_of 2 := ⟨gTbl_in (List.mem_of_getElem? (i := 607) (by decide +kernel)) (by decide +kernel), gTbl_in (List.mem_of_getElem? (i := 59) (by decide +kernel)) (by decide +kernel), ⟨by decide +kernel, by decide +kernel, by decide +kernel⟩, by decide +kernel⟩
theorem mv_X10_of : gMv MX10_of := ⟨gTbl_in (List.mem_of_getElem? (i := 605) (by decide +kernel)) (by decide +kernel), gTbl_in (List.mem_of_getElem? (i := 606) (by decide +kernel)) (by decide +kernel)⟩
def MX10_about : gMI := (yX10_about, cX10_about, 3, (some .int))
theorem mf_X10_about : gMf MX10_about 2 := ⟨gTbl_in (List.mem_of_getElem? (i := 615) (by decide +kernel)) (by decide +kernel), gTbl_in (List.mem_of_getElem? (i := 59) (by decide +kernel)) (by decide +kernel), ⟨by decide +kernel, by decide +kernel, by decide +kernel⟩, by decide +kernel⟩
theorem mv_X10_about : gMv MX10_about := ⟨gTbl_in (List.mem_of_getElem? (i := 613) (by decide +kernel)) (by decide +kernel), gTbl_in (List.mem_of_getElem? (i := 614) (by decide +kernel)) (by decide +kernel)⟩
def MX10_leans : gMI := (yX10_leans, cX10_leans, 4, (some .int))
theorem mf_X10_leans : gMf MX10_leans 3 := ⟨gTbl_in (List.mem_of_getElem? (i := 624) (by decide +kernel)) (by decide +kernel), gTbl_in (List.mem_of_getElem? (i := 59) (by decide +kernel)) (by decide +kernel), ⟨by decide +kernel, by decide +kernel, by decide +kernel⟩, by decide +kernel⟩
theorem mv_X10_leans : gMv MX10_leans := ⟨gTbl_in (List.mem_of_getElem? (i := 622) (by decide +kernel)) (by decide +kernel), gTbl_in (List.mem_of_getElem? (i := 623) (by decide +kernel)) (by decide +kernel)⟩
def MX10_sound : gMI := (yX10_sound, cX10_sound, 2, (some .int))
theorem mf_X10_sound : gMf MX10_sound 1 := ⟨gTbl_in (List.mem_of_getElem? (i := 636) (by decide +kernel)) (by decide +kernel), gTbl_in (List.mem_of_getElem? (i := 59) (by decide +kernel)) (by decide +kernel), ⟨by decide +kernel, by decide +kernel, by decide +kernel⟩, by decide +kernel⟩
theorem mv_X10_sound : gMv MX10_sound := ⟨gTbl_in (List.mem_of_getElem? (i := 634) (by decide +kernel)) (by decide +kernel), gTbl_in (List.mem_of_getElem? (i := 635) (by decide +kernel)) (by decide +kernel)⟩
def MX10_entry : gMI := (yX10_entry, cX10_entry, 1, (some .int))
theorem mf_X10_entry : gMf MX10_entry 0 := ⟨gTbl_in (List.mem_of_getElem? (i := 641) (by decide +kernel)) (by decide +kernel), gTbl_in (List.mem_of_getElem? (i := 59) (by decide +kernel)) (by decide +kernel), ⟨by decide +kernel, by decide +kernel, by decide +kernel⟩, by decide +kernel⟩
theorem mv_X10_entry : gMv MX10_entry := ⟨gTbl_in (List.mem_of_getElem? (i := 639) (by decide +kernel)) (by decide +kernel), gTbl_in (List.mem_of_getElem? (i := 640) (by decide +kernel)) (by decide +kernel)⟩
def MX10_then : gMI := (yX10_then, cX10_then, 2, (some .int))
theorem mf_X10_then : gMf MX10_then 1 := ⟨gTbl_in (List.mem_of_getElem? (i := 661) (by decide +kernel)) (by decide +kernel), gTbl_in (List.mem_of_getElem? (i := 59) (by decide +kernel)) (by decide +kernel), ⟨by decide +kernel, by decide +kernel, by decide +kernel⟩, by decide +kernel⟩
theorem mv_X10_then : gMv MX10_then := ⟨gTbl_in (List.mem_of_getElem? (i := 659) (by decide +kernel)) (by decide +kernel), gTbl_in (List.mem_of_getElem? (i := 660) (by decide +kernel)) (by decide +kernel)⟩
def MX10_still : gMI := (yX10_still, cX10_still, 2, (some .int))
theorem mf_X10_still : gMf MX10_still 1 := ⟨gTbl_in (List.mem_of_getElem? (i := 671) (by decide +kernel)) (by decide +kernel), gTbl_in (List.mem_of_getElem? (i := 59) (by decide +kernel)) (by decide +kernel), ⟨by decide +kernel, by decide +kernel, by decide +kernel⟩, by decide +kernel⟩
theorem mv_X10_still : gMv MX10_still := ⟨gTbl_in (List.mem_of_getElem? (i := 669) (by decide +kernel)) (by decide +kernel), gTbl_in (List.mem_of_getElem? (i := 670) (by decide +kernel)) (by decide +kernel)⟩
def MX10_push : gMI := (yX10_push, cX10_push, 3, (some .int))
theorem mf_X10_push : gMf MX10_push 2 := ⟨gTbl_in (List.mem_of_getElem? (i := 686) (by decide +kernel)) (by decide +kernel), gTbl_in (List.mem_of_getElem? (i := 59) (by decide +kernel)) (by decide +kernel), ⟨by decide +kernel, by decide +kernel, by decide +kernel⟩, by decide +kernel⟩
theorem mv_X10_push : gMv MX10_push := ⟨gTbl_in (List.mem_of_getElem? (i := 684) (by decide +kernel)) (by decide +kernel), gTbl_in (List.mem_of_getElem? (i := 685) (by decide +kernel)) (by decide +kernel)⟩
def MX10_widest : gMI := (yX10_widest, cX10_widest, 1, (some .int))
theorem mf_X10_widest : gMf MX10_widest 0 := ⟨gTbl_in (List.mem_of_getElem? (i := 696) (by decide +kernel)) (by decide +kernel), gTbl_in (List.mem_of_getElem? (i := 59) (by decide +kernel)) (by decide +kernel), ⟨by decide +kernel, by decide +kernel, by decide +kernel⟩, by decide +kernel⟩
theorem mv_X10_widest : gMv MX10_widest := ⟨gTbl_in (List.mem_of_getElem? (i := 694) (by decide +kernel)) (by decide +kernel), gTbl_in (List.mem_of_getElem? (i := 695) (by decide +kernel)) (by decide +kernel)⟩
def MX10_wrong : gMI := (yX10_wrong, cX10_wrong, 2, (some .int))
theorem mf_X10_wrong : gMf MX10_wrong 1 := ⟨gTbl_in (List.mem_of_getElem? (i := 704) (by decide +kernel)) (by decide +kernel), gTbl_in (List.mem_of_getElem? (i := 59) (by decide +kernel)) (by decide +kernel), ⟨by decide +kernel, by decide +kernel, by decide +kernel⟩, by decide +kernel⟩
theorem mv_X10_wrong : gMv MX10_wrong := ⟨gTbl_in (List.mem_of_getElem? (i := 702) (by decide +kernel)) (by decide +kernel), gTbl_in (List.mem_of_getElem? (i := 703) (by decide +kernel)) (by decide +kernel)⟩
def MX10_marry : gMI := (yX10_marry, cX10_marry, 2, (some .int))
theorem mf_X10_marry : gMf MX10_marry 1 := ⟨gTbl_in (List.mem_of_getElem? (i := 712) (by decide +kernel)) (by decide +kernel), gTbl_in (List.mem_of_getElem? (i := 59) (by decide +kernel)) (by decide +kernel), ⟨by decide +kernel, by decide +kernel, by decide +kernel⟩, by decide +kernel⟩
theorem mv_X10_marry : gMv MX10_marry := ⟨gTbl_in (List.mem_of_getElem? (i := 710) (by decide +kernel)) (by decide +kernel), gTbl_in (List.mem_of_getElem? (i := 711) (by decide +kernel)) (by decide +kernel)⟩
def MX10_heard : gMI := (yX10_heard, cX10_heard, 3, (some .int))
theorem mf_X10_heard : gMf MX10_heard 2 := ⟨gTbl_in (List.mem_of_getElem? (i := 745) (by decide +kernel)) (by decide +kernel), gTbl_in (List.mem_of_getElem? (i := 59) (by decide +kernel)) (by decide +kernel), ⟨by decide +kernel, by decide +kernel, by decide +kernel⟩, by decide +kernel⟩
theorem mv_X10_heard : gMv MX10_heard := ⟨gTbl_in (List.mem_of_getElem? (i := 743) (by decide +kernel)) (by decide +kernel), gTbl_in (List.mem_of_getElem? (i := 744) (by decide +kernel)) (by decide +kernel)⟩
def MX10_lanes : gMI := (yX10_lanes, cX10_lanes, 1, (some .int))
theorem mf_X10_lanes : gMf MX10_lanes 0 := ⟨gTbl_in (List.mem_of_getElem? (i := 758) (by decide +kernel)) (by decide +kernel), gTbl_in (List.mem_of_getElem? (i := 59) (by decide +kernel)) (by decide +kernel), ⟨by decide +kernel, by decide +kernel, by decide +kernel⟩, by decide +kernel⟩
theorem mv_X10_lanes : gMv MX10_lanes := ⟨gTbl_in (List.mem_of_getElem? (i := 756) (by decide +kernel)) (by decide +kernel), gTbl_in (List.mem_of_getElem? (i := 757) (by decide +kernel)) (by decide +kernel)⟩
def MX10_swung : gMI := (yX10_swung, cX10_swung, 2, (some .int))
theorem mf_X10_swung : gMf MX10_swung 1 := ⟨gTbl_in (List.mem_of_getElem? (i := 774) (by decide +kernel)) (by decide +kernel), gTbl_in (List.mem_of_getElem? (i := 59) (by decide +kernel)) (by decide +kernel), ⟨by decide +kernel, by decide +kernel, by decide +kernel⟩, by decide +kernel⟩
theorem mv_X10_swung : gMv MX10_swung := ⟨gTbl_in (List.mem_of_getElem? (i := 772) (by decide +kernel)) (by decide +kernel), gTbl_in (List.mem_of_getElem? (i := 773) (by decide +kernel)) (by decide +kernel)⟩
def MX10_hear : gMI := (yX10_hear, cX10_hear, 1, (some .int))
theorem mf_X10_hear : gMf MX10_hear 0 := ⟨gTbl_in (List.mem_of_getElem? (i := 782) (by decide +kernel)) (by decide +kernel), gTbl_in (List.mem_of_getElem? (i := 59) (by decide +kernel)) (by decide +kernel), ⟨by decide +kernel, by decide +kernel, by decide +kernel⟩, by decide +kernel⟩
theorem mv_X10_hear : gMv MX10_hear := ⟨gTbl_in (List.mem_of_getElem? (i := 780) (by decide +kernel)) (by decide +kernel), gTbl_in (List.mem_of_getElem? (i := 781) (by decide +kernel)) (by decide +kernel)⟩
def MX10_note : gMI := (yX10_note, cX10_note, 5, (some .int))
theorem mf_X10_note : gMf MX10_note 4 := ⟨gTbl_in (List.mem_of_getElem? (i := 795) (by decide +kernel)) (by decide +kernel), gTbl_in (List.mem_of_getElem? (i := 59) (by decide +kernel)) (by decide +kernel), ⟨by decide +kernel, by decide +kernel, by decide +kernel⟩, by decide +kernel⟩
theorem mv_X10_note : gMv MX10_note := ⟨gTbl_in (List.mem_of_getElem? (i := 793) (by decide +kernel)) (by decide +kernel), gTbl_in (List.mem_of_getElem? (i := 794) (by decide +kernel)) (by decide +kernel)⟩
def MX10_mark : gMI := (yX10_mark, cX10_mark, 5, (some .int))
theorem mf_X10_mark : gMf MX10_mark 4 := ⟨gTbl_in (List.mem_of_getElem? (i := 802) (by decide +kernel)) (by decide +kernel), gTbl_in (List.mem_of_getElem? (i := 59) (by decide +kernel)) (by decide +kernel), ⟨by decide +kernel, by decide +kernel, by decide +kernel⟩, by decide +kernel⟩
theorem mv_X10_mark : gMv MX10_mark := ⟨gTbl_in (List.mem_of_getElem? (i := 800) (by decide +kernel)) (by decide +kernel), gTbl_in (List.mem_of_getElem? (i := 801) (by decide +kernel)) (by decide +kernel)⟩
def MX10_forget : gMI := (yX10_forget, cX10_forget, 2, (some .int))
theorem mf_X10_forget : gMf MX10_forget 1 := ⟨gTbl_in (List.mem_of_getElem? (i := 806) (by decide +kernel)) (by decide +kernel), gTbl_in (List.mem_of_getElem? (i := 59) (by decide +kernel)) (by decide +kernel), ⟨by decide +kernel, by decide +kernel, by decide +kernel⟩, by decide +kernel⟩
theorem mv_X10_forget : gMv MX10_forget := ⟨gTbl_in (List.mem_of_getElem? (i := 804) (by decide +kernel)) (by decide +kernel), gTbl_in (List.mem_of_getElem? (i := 805) (by decide +kernel)) (by decide +kernel)⟩
def MX10_is : gMI := (yX10_is, cX10_is, 2, (some .int))
theorem mf_X10_is : gMf MX10_is 1 := ⟨gTbl_in (List.mem_of_getElem? (i := 811) (by decide +kernel)) (by decide +kernel), gTbl_in (List.mem_of_getElem? (i := 59) (by decide +kernel)) (by decide +kernel), ⟨by decide +kernel, by decide +kernel, by decide +kernel⟩, by decide +kernel⟩
theorem mv_X10_is : gMv MX10_is := ⟨gTbl_in (List.mem_of_getElem? (i := 809) (by decide +kernel)) (by decide +kernel), gTbl_in (List.mem_of_getElem? (i := 810) (by decide +kernel)) (by decide +kernel)⟩
def MX10_look : gMI := (yX10_look, cX10_look, 2, (some .int))
theorem mf_X10_look : gMf MX10_look 1 := ⟨gTbl_in (List.mem_of_getElem? (i := 820) (by decide +kernel)) (by decide +kernel), gTbl_in (List.mem_of_getElem? (i := 59) (by decide +kernel)) (by decide +kernel), ⟨by decide +kernel, by decide +kernel, by decide +kernel⟩, by decide +kernel⟩
theorem mv_X10_look : gMv MX10_look := ⟨gTbl_in (List.mem_of_getElem? (i := 818) (by decide +kernel)) (by decide +kernel), gTbl_in (List.mem_of_getElem? (i := 819) (by decide +kernel)) (by decide +kernel)⟩
def MX10_kinds : gMI := (yX10_kinds, cX10_kinds, 2, (some .int))
theorem mf_X10_kinds : gMf MX10_kinds 1 := ⟨gTbl_in (List.mem_of_getElem? (i := 834) (by decide +kernel)) (by decide +kernel), gTbl_in (List.mem_of_getElem? (i := 59) (by decide +kernel)) (by decide +kernel), ⟨by decide +kernel, by decide +kernel, by decide +kernel⟩, by decide +kernel⟩
theorem mv_X10_kinds : gMv MX10_kinds := ⟨gTbl_in (List.mem_of_getElem? (i := 832) (by decide +kernel)) (by decide +kernel), gTbl_in (List.mem_of_getElem? (i := 833) (by decide +kernel)) (by decide +kernel)⟩
def MX10_ask : gMI := (yX10_ask, cX10_ask, 2, (some .int))
theorem mf_X10_ask : gMf MX10_ask 1 := ⟨gTbl_in (List.mem_of_getElem? (i := 842) (by decide +kernel)) (by decide +kernel), gTbl_in (List.mem_of_getElem? (i := 59) (by decide +kernel)) (by decide +kernel), ⟨by decide +kernel, by decide +kernel, by decide +kernel⟩, by decide +kernel⟩
theorem mv_X10_ask : gMv MX10_ask := ⟨gTbl_in (List.mem_of_getElem? (i := 840) (by decide +kernel)) (by decide +kernel), gTbl_in (List.mem_of_getElem? (i := 841) (by decide +kernel)) (by decide +kernel)⟩
def MX10_game : gMI := (yX10_game, cX10_game, 5, (some .int))
theorem mf_X10_game : gMf MX10_game 4 := ⟨gTbl_in (List.mem_of_getElem? (i := 850) (by decide +kernel)) (by decide +kernel), gTbl_in (List.mem_of_getElem? (i := 59) (by decide +kernel)) (by decide +kernel), ⟨by decide +kernel, by decide +kernel, by decide +kernel⟩, by decide +kernel⟩
theorem mv_X10_game : gMv MX10_game := ⟨gTbl_in (List.mem_of_getElem? (i := 848) (by decide +kernel)) (by decide +kernel), gTbl_in (List.mem_of_getElem? (i := 849) (by decide +kernel)) (by decide +kernel)⟩
def MX10_slips : gMI := (yX10_slips, cX10_slips, 5, (some .int))
theorem mf_X10_slips : gMf MX10_slips 2 := ⟨gTbl_in (List.mem_of_getElem? (i := 885) (by decide +kernel)) (by decide +kernel), gTbl_in (List.mem_of_getElem? (i := 59) (by decide +kernel)) (by decide +kernel), ⟨by decide +kernel, by decide +kernel, by decide +kernel⟩, by decide +kernel⟩
theorem mv_X10_slips : gMv MX10_slips := ⟨gTbl_in (List.mem_of_getElem? (i := 883) (by decide +kernel)) (by decide +kernel), gTbl_in (List.mem_of_getElem? (i := 884) (by decide +kernel)) (by decide +kernel)⟩
def MX10_reigns : gMI := (yX10_reigns, cX10_reigns, 3, (some .int))
theorem mf_X10_reigns : gMf MX10_reigns 2 := ⟨gTbl_in (List.mem_of_getElem? (i := 906) (by decide +kernel)) (by decide +kernel), gTbl_in (List.mem_of_getElem? (i := 59) (by decide +kernel)) (by decide +kernel), ⟨by decide +kernel, by decide +kernel, by decide +kernel⟩, by decide +kernel⟩
theorem mv_X10_reigns : gMv MX10_reigns := ⟨gTbl_in (List.mem_of_getElem? (i := 904) (by decide +kernel)) (by decide +kernel), gTbl_in (List.mem_of_getElem? (i := 905) (by decide +kernel)) (by decide +kernel)⟩
def MX10_part : gMI := (yX10_part, cX10_part, 2, (some .long))
theorem mf_X10_part : gMf MX10_part 1 := ⟨gTbl_in (List.mem_of_getElem? (i := 922) (by decide +kernel)) (by decide +kernel), gTbl_in (List.mem_of_getElem? (i := 59) (by decide +kernel)) (by decide +kernel), ⟨by decide +kernel, by decide +kernel, by decide +kernel⟩, by decide +kernel⟩
theorem mv_X10_part : gMv MX10_part := ⟨gTbl_in (List.mem_of_getElem? (i := 920) (by decide +kernel)) (by decide +kernel), gTbl_in (List.mem_of_getElem? (i := 921) (by decide +kernel)) (by decide +kernel)⟩
def MX10_image : gMI := (yX10_image, cX10_image, 2, (some .int))
theorem mf_X10_image : gMf MX10_image 1 := ⟨gTbl_in (List.mem_of_getElem? (i := 926) (by decide +kernel)) (by decide +kernel), gTbl_in (List.mem_of_getElem? (i := 59) (by decide +kernel)) (by decide +kernel), ⟨by decide +kernel, by decide +kernel, by decide +kernel⟩, by decide +kernel⟩
theorem mv_X10_image : gMv MX10_image := ⟨gTbl_in (List.mem_of_getElem? (i := 924) (by decide +kernel)) (by decide +kernel), gTbl_in (List.mem_of_getElem? (i := 925) (by decide +kernel)) (by decide +kernel)⟩
def MX10_from : gMI := (yX10_from, cX10_from, 3, (some .int))
theorem mf_X10_from : gMf MX10_from 1 := ⟨gTbl_in (List.mem_of_getElem? (i := 945) (by decide +kernel)) (by decide +kernel), gTbl_in (List.mem_of_getElem? (i := 59) (by decide +kernel)) (by decide +kernel), ⟨by decide +kernel, by decide +kernel, by decide +kernel⟩, by decide +kernel⟩
theorem mv_X10_from : gMv MX10_from := ⟨gTbl_in (List.mem_of_getElem? (i := 943) (by decide +kernel)) (by decide +kernel), gTbl_in (List.mem_of_getElem? (i := 944) (by decide +kernel)) (by decide +kernel)⟩
def MX10_status : gMI := (yX10_status, cX10_status, 2, (some .int))
theorem mf_X10_status : gMf MX10_status 1 := ⟨gTbl_in (List.mem_of_getElem? (i := 949) (by decide +kernel)) (by decide +kernel), gTbl_in (List.mem_of_getElem? (i := 59) (by decide +kernel)) (by decide +kernel), ⟨by decide +kernel, by decide +kernel, by decide +kernel⟩, by decide +kernel⟩
theorem mv_X10_status : gMv MX10_status := ⟨gTbl_in (List.mem_of_getElem? (i := 947) (by decide +kernel)) (by decide +kernel), gTbl_in (List.mem_of_getElem? (i := 948) (by decide +kernel)) (by decide +kernel)⟩
def MX10_count : gMI := (yX10_count, cX10_count, 2, (some .int))
theorem mf_X10_count : gMf MX10_count 1 := ⟨gTbl_in (List.mem_of_getElem? (i := 953) (by decide +kernel)) (by decide +kernel), gTbl_in (List.mem_of_getElem? (i := 59) (by decide +kernel)) (by decide +kernel), ⟨by decide +kernel, by decide +kernel, by decide +kernel⟩, by decide +kernel⟩
theorem mv_X10_count : gMv MX10_count := ⟨gTbl_in (List.mem_of_getElem? (i := 951) (by decide +kernel)) (by decide +kernel), gTbl_in (List.mem_of_getElem? (i := 952) (by decide +kernel)) (by decide +kernel)⟩
def MX10_digest : gMI := (yX10_digest, cX10_digest, 4, (some .long))
theorem mf_X10_digest : gMf MX10_digest 0 := ⟨gTbl_in (List.mem_of_getElem? (i := 961) (by decide +kernel)) (by decide +kernel), gTbl_in (List.mem_of_getElem? (i := 59) (by decide +kernel)) (by decide +kernel), ⟨by decide +kernel, by decide +kernel, by decide +kernel⟩, by decide +kernel⟩
theorem mv_X10_digest : gMv MX10_digest := ⟨gTbl_in (List.mem_of_getElem? (i := 959) (by decide +kernel)) (by decide +kernel), gTbl_in (List.mem_of_getElem? (i := 960) (by decide +kernel)) (by decide +kernel)⟩
def MX10_numberOf : gMI := (yX10_numberOf, cX10_numberOf, 2, (some .int))
theorem mf_X10_numberOf : gMf MX10_numberOf 1 := ⟨gTbl_in (List.mem_of_getElem? (i := 957) (by decide +kernel)) (by decide +kernel), gTbl_in (List.mem_of_getElem? (i := 59) (by decide +kernel)) (by decide +kernel), ⟨by decide +kernel, by decide +kernel, by decide +kernel⟩, by decide +kernel⟩
theorem mv_X10_numberOf : gMv MX10_numberOf := ⟨gTbl_in (List.mem_of_getElem? (i := 956) (by decide +kernel)) (by decide +kernel), gTbl_in (List.mem_of_getElem? (i := 20) (by decide +kernel)) (by decide +kernel)⟩
def MX10_added : gMI := (yX10_added, cX10_added, 3, (some .int))
theorem mf_X10_added : gMf MX10_added 2 := ⟨gTbl_in (List.mem_of_getElem? (i := 754) (by decide +kernel)) (by decide +kernel), gTbl_in (List.mem_of_getElem? (i := 59) (by decide +kernel)) (by decide +kernel), ⟨by decide +kernel, by decide +kernel, by decide +kernel⟩, by decide +kernel⟩
theorem mv_X10_added : gMv MX10_added := ⟨gTbl_in (List.mem_of_getElem? (i := 753) (by decide +kernel)) (by decide +kernel), gTbl_in (List.mem_of_getElem? (i := 13) (by decide +kernel)) (by decide +kernel)⟩
def MX10_refuseBad : gMI := (yX10_refuseBad, cX10_refuseBad, 2, (some .int))
theorem mf_X10_refuseBad : gMf MX10_refuseBad 1 := ⟨gTbl_in (List.mem_of_getElem? (i := 332) (by decide +kernel)) (by decide +kernel), gTbl_in (List.mem_of_getElem? (i := 59) (by decide +kernel)) (by decide +kernel), ⟨by decide +kernel, by decide +kernel, by decide +kernel⟩, by decide +kernel⟩
theorem mv_X10_refuseBad : gMv MX10_refuseBad := ⟨gTbl_in (List.mem_of_getElem? (i := 331) (by decide +kernel)) (by decide +kernel), gTbl_in (List.mem_of_getElem? (i := 0) (by decide +kernel)) (by decide +kernel)⟩
def MX10_refuseNo : gMI := (yX10_refuseNo, cX10_refuseNo, 1, (some .int))
theorem mf_X10_refuseNo : gMf MX10_refuseNo 0 := ⟨gTbl_in (List.mem_of_getElem? (i := 576) (by decide +kernel)) (by decide +kernel), gTbl_in (List.mem_of_getElem? (i := 59) (by decide +kernel)) (by decide +kernel), ⟨by decide +kernel, by decide +kernel, by decide +kernel⟩, by decide +kernel⟩
theorem mv_X10_refuseNo : gMv MX10_refuseNo := ⟨gTbl_in (List.mem_of_getElem? (i := 575) (by decide +kernel)) (by decide +kernel), gTbl_in (List.mem_of_getElem? (i := 11) (by decide +kernel)) (by decide +kernel)⟩
def MX10_refuseFull : gMI := (yX10_refuseFull, cX10_refuseFull, 1, (some .int))
theorem mf_X10_refuseFull : gMf MX10_refuseFull 0 := ⟨gTbl_in (List.mem_of_getElem? (i := 375) (by decide +kernel)) (by decide +kernel), gTbl_in (List.mem_of_getElem? (i := 59) (by decide +kernel)) (by decide +kernel), ⟨by decide +kernel, by decide +kernel, by decide +kernel⟩, by decide +kernel⟩
theorem mv_X10_refuseFull : gMv MX10_refuseFull := ⟨gTbl_in (List.mem_of_getElem? (i := 374) (by decide +kernel)) (by decide +kernel), gTbl_in (List.mem_of_getElem? (i := 1) (by decide +kernel)) (by decide +kernel)⟩
def MX10_outside : gMI := (yX10_outside, cX10_outside, 3, (some .boolean))
theorem mf_X10_outside : gMf MX10_outside 3 := ⟨gTbl_in (List.mem_of_getElem? (i := 328) (by decide +kernel)) (by decide +kernel), gTbl_in (List.mem_of_getElem? (i := 59) (by decide +kernel)) (by decide +kernel), ⟨by decide +kernel, by decide +kernel, by decide +kernel⟩, by decide +kernel⟩
theorem ms_X10_outside : gMs MX10_outside := gTbl_in (List.mem_of_getElem? (i := 327) (by decide +kernel)) (by decide +kernel)
def MX10_notKind : gMI := (yX10_notKind, cX10_notKind, 1, (some .boolean))
theorem mf_X10_notKind : gMf MX10_notKind 1 := ⟨gTbl_in (List.mem_of_getElem? (i := 360) (by decide +kernel)) (by decide +kernel), gTbl_in (List.mem_of_getElem? (i := 59) (by decide +kernel)) (by decide +kernel), ⟨by decide +kernel, by decide +kernel, by decide +kernel⟩, by decide +kernel⟩
theorem ms_X10_notKind : gMs MX10_notKind := gTbl_in (List.mem_of_getElem? (i := 359) (by decide +kernel)) (by decide +kernel)
def MX10_notHouse : gMI := (yX10_notHouse, cX10_notHouse, 1, (some .boolean))
theorem mf_X10_notHouse : gMf MX10_notHouse 1 := ⟨gTbl_in (List.mem_of_getElem? (i := 363) (by decide +kernel)) (by decide +kernel), gTbl_in (List.mem_of_getElem? (i := 59) (by decide +kernel)) (by decide +kernel), ⟨by decide +kernel, by decide +kernel, by decide +kernel⟩, by decide +kernel⟩
theorem ms_X10_notHouse : gMs MX10_notHouse := gTbl_in (List.mem_of_getElem? (i := 362) (by decide +kernel)) (by decide +kernel)
def MX10_notSwing : gMI := (yX10_notSwing, cX10_notSwing, 1, (some .boolean))
theorem mf_X10_notSwing : gMf MX10_notSwing 1 := ⟨gTbl_in (List.mem_of_getElem? (i := 366) (by decide +kernel)) (by decide +kernel), gTbl_in (List.mem_of_getElem? (i := 59) (by decide +kernel)) (by decide +kernel), ⟨by decide +kernel, by decide +kernel, by decide +kernel⟩, by decide +kernel⟩
theorem ms_X10_notSwing : gMs MX10_notSwing := gTbl_in (List.mem_of_getElem? (i := 365) (by decide +kernel)) (by decide +kernel)
def MX10_notAsked : gMI := (yX10_notAsked, cX10_notAsked, 1, (some .boolean))
theorem mf_X10_notAsked : gMf MX10_notAsked 1 := ⟨gTbl_in (List.mem_of_getElem? (i := 627) (by decide +kernel)) (by decide +kernel), gTbl_in (List.mem_of_getElem? (i := 59) (by decide +kernel)) (by decide +kernel), ⟨by decide +kernel, by decide +kernel, by decide +kernel⟩, by decide +kernel⟩
theorem ms_X10_notAsked : gMs MX10_notAsked := gTbl_in (List.mem_of_getElem? (i := 626) (by decide +kernel)) (by decide +kernel)
def MX10_notLean : gMI := (yX10_notLean, cX10_notLean, 1, (some .boolean))
theorem mf_X10_notLean : gMf MX10_notLean 1 := ⟨gTbl_in (List.mem_of_getElem? (i := 798) (by decide +kernel)) (by decide +kernel), gTbl_in (List.mem_of_getElem? (i := 59) (by decide +kernel)) (by decide +kernel), ⟨by decide +kernel, by decide +kernel, by decide +kernel⟩, by decide +kernel⟩
theorem ms_X10_notLean : gMs MX10_notLean := gTbl_in (List.mem_of_getElem? (i := 797) (by decide +kernel)) (by decide +kernel)
def MX10_hasBit : gMI := (yX10_hasBit, cX10_hasBit, 2, (some .boolean))
theorem mf_X10_hasBit : gMf MX10_hasBit 2 := ⟨gTbl_in (List.mem_of_getElem? (i := 532) (by decide +kernel)) (by decide +kernel), gTbl_in (List.mem_of_getElem? (i := 59) (by decide +kernel)) (by decide +kernel), ⟨by decide +kernel, by decide +kernel, by decide +kernel⟩, by decide +kernel⟩
theorem ms_X10_hasBit : gMs MX10_hasBit := gTbl_in (List.mem_of_getElem? (i := 531) (by decide +kernel)) (by decide +kernel)
def MX10_folded : gMI := (yX10_folded, cX10_folded, 4, (some .long))
theorem mf_X10_folded : gMf MX10_folded 2 := ⟨gTbl_in (List.mem_of_getElem? (i := 965) (by decide +kernel)) (by decide +kernel), gTbl_in (List.mem_of_getElem? (i := 59) (by decide +kernel)) (by decide +kernel), ⟨by decide +kernel, by decide +kernel, by decide +kernel⟩, by decide +kernel⟩
theorem ms_X10_folded : gMs MX10_folded := gTbl_in (List.mem_of_getElem? (i := 964) (by decide +kernel)) (by decide +kernel)
def MX10_copyInto : gMI := (yX10_copyInto, cX10_copyInto, 3, none)
theorem mf_X10_copyInto : gMf MX10_copyInto 2 := ⟨gTbl_in (List.mem_of_getElem? (i := 545) (by decide +kernel)) (by decide +kernel), gTbl_in (List.mem_of_getElem? (i := 59) (by decide +kernel)) (by decide +kernel), ⟨by decide +kernel, by decide +kernel, by decide +kernel⟩, by decide +kernel⟩
theorem ms_X10_copyInto : gMs MX10_copyInto := gTbl_in (List.mem_of_getElem? (i := 544) (by decide +kernel)) (by decide +kernel)
def MX10_power : gMI := (yX10_power, cX10_power, 6, (some .long))
theorem mf_X10_power : gMf MX10_power 2 := ⟨gTbl_in (List.mem_of_getElem? (i := 890) (by decide +kernel)) (by decide +kernel), gTbl_in (List.mem_of_getElem? (i := 59) (by decide +kernel)) (by decide +kernel), ⟨by decide +kernel, by decide +kernel, by decide +kernel⟩, by decide +kernel⟩
theorem ms_X10_power : gMs MX10_power := gTbl_in (List.mem_of_getElem? (i := 889) (by decide +kernel)) (by decide +kernel)
def MX11_init : gMI := (yX11_init, cX11_init, 1, none)
def MX11_in : gMI := (yX11_in, cX11_in, 3, (some .boolean))
theorem mf_X11_in : gMf MX11_in 3 := ⟨gTbl_in (List.mem_of_getElem? (i := 1064) (by decide +kernel)) (by decide +kernel), gTbl_in (List.mem_of_getElem? (i := 69) (by decide +kernel)) (by decide +kernel), ⟨by decide +kernel, by decide +kernel, by decide +kernel⟩, by decide +kernel⟩
theorem ms_X11_in : gMs MX11_in := gTbl_in (List.mem_of_getElem? (i := 1063) (by decide +kernel)) (by decide +kernel)
def MX11_has : gMI := (yX11_has, cX11_has, 2, (some .boolean))
theorem mf_X11_has : gMf MX11_has 2 := ⟨gTbl_in (List.mem_of_getElem? (i := 1170) (by decide +kernel)) (by decide +kernel), gTbl_in (List.mem_of_getElem? (i := 69) (by decide +kernel)) (by decide +kernel), ⟨by decide +kernel, by decide +kernel, by decide +kernel⟩, by decide +kernel⟩
theorem ms_X11_has : gMs MX11_has := gTbl_in (List.mem_of_getElem? (i := 1169) (by decide +kernel)) (by decide +kernel)
def MX11_bits : gMI := (yX11_bits, cX11_bits, 3, (some .int))
theorem mf_X11_bits : gMf MX11_bits 1 := ⟨gTbl_in (List.mem_of_getElem? (i := 1243) (by decide +kernel)) (by decide +kernel), gTbl_in (List.mem_of_getElem? (i := 69) (by decide +kernel)) (by decide +kernel), ⟨by decide +kernel, by decide +kernel, by decide +kernel⟩, by decide +kernel⟩
theorem ms_X11_bits : gMs MX11_bits := gTbl_in (List.mem_of_getElem? (i := 1242) (by decide +kernel)) (by decide +kernel)
def MX11_refuse : gMI := (yX11_refuse, cX11_refuse, 2, (some .int))
theorem mf_X11_refuse : gMf MX11_refuse 1 := ⟨gTbl_in (List.mem_of_getElem? (i := 1068) (by decide +kernel)) (by decide +kernel), gTbl_in (List.mem_of_getElem? (i := 69) (by decide +kernel)) (by decide +kernel), ⟨by decide +kernel, by decide +kernel, by decide +kernel⟩, by decide +kernel⟩
theorem mv_X11_refuse : gMv MX11_refuse := ⟨gTbl_in (List.mem_of_getElem? (i := 1067) (by decide +kernel)) (by decide +kernel), gTbl_in (List.mem_of_getElem? (i := 21) (by decide +kernel)) (by decide +kernel)⟩
def MX11_layHouses : gMI := (yX11_layHouses, cX11_layHouses, 3, none)
theorem mf_X11_layHouses : gMf MX11_layHouses 1 := ⟨gTbl_in (List.mem_of_getElem? (i := 1072) (by decide +kernel)) (by decide +kernel), gTbl_in (List.mem_of_getElem? (i := 69) (by decide +kernel)) (by decide +kernel), ⟨by decide +kernel, by decide +kernel, by decide +kernel⟩, by decide +kernel⟩
theorem mv_X11_layHouses : gMv MX11_layHouses := ⟨gTbl_in (List.mem_of_getElem? (i := 1071) (by decide +kernel)) (by decide +kernel), gTbl_in (List.mem_of_getElem? (i := 22) (by decide +kernel)) (by decide +kernel)⟩
def MX11_lane : gMI := (yX11_lane, cX11_lane, 3, (some .int))
theorem mf_X11_lane : gMf MX11_lane 1 := ⟨gTbl_in (List.mem_of_getElem? (i := 1061) (by decide +kernel)) (by decide +kernel), gTbl_in (List.mem_of_getElem? (i := 69) (by decide +kernel)) (by decide +kernel), ⟨by decide +kernel, by decide +kernel, by decide +kernel⟩, by decide +kernel⟩
theorem mv_X11_lane : gMv MX11_lane := ⟨gTbl_in (List.mem_of_getElem? (i := 1059) (by decide +kernel)) (by decide +kernel), gTbl_in (List.mem_of_getElem? (i := 1060) (by decide +kernel)) (by decide +kernel)⟩
def MX11_wide : gMI := (yX11_wide, cX11_wide, 3, (some .int))
theorem mf_X11_wide : gMf MX11_wide 1 := ⟨gTbl_in (List.mem_of_getElem? (i := 1076) (by decide +kernel)) (by decide +kernel), gTbl_in (List.mem_of_getElem? (i := 69) (by decide +kernel)) (by decide +kernel), ⟨by decide +kernel, by decide +kernel, by decide +kernel⟩, by decide +kernel⟩
theorem mv_X11_wide : gMv MX11_wide := ⟨gTbl_in (List.mem_of_getElem? (i := 1074) (by decide +kernel)) (by decide +kernel), gTbl_in (List.mem_of_getElem? (i := 1075) (by decide +kernel)) (by decide +kernel)⟩
def MX11_addOne : gMI := (yX11_addOne, cX11_addOne, 5, none)
theorem mf_X11_addOne : gMf MX11_addOne 3 := ⟨gTbl_in (List.mem_of_getElem? (i := 1084) (by decide +kernel)) (by decide +kernel), gTbl_in (List.mem_of_getElem? (i := 69) (by decide +kernel)) (by decide +kernel), ⟨by decide +kernel, by decide +kernel, by decide +kernel⟩, by decide +kernel⟩
theorem mv_X11_addOne : gMv MX11_addOne := ⟨gTbl_in (List.mem_of_getElem? (i := 1083) (by decide +kernel)) (by decide +kernel), gTbl_in (List.mem_of_getElem? (i := 23) (by decide +kernel)) (by decide +kernel)⟩
def MX11_one : gMI := (yX11_one, cX11_one, 4, (some .int))
theorem mf_X11_one : gMf MX11_one 3 := ⟨gTbl_in (List.mem_of_getElem? (i := 1080) (by decide +kernel)) (by decide +kernel), gTbl_in (List.mem_of_getElem? (i := 69) (by decide +kernel)) (by decide +kernel), ⟨by decide +kernel, by decide +kernel, by decide +kernel⟩, by decide +kernel⟩
theorem mv_X11_one : gMv MX11_one := ⟨gTbl_in (List.mem_of_getElem? (i := 1078) (by decide +kernel)) (by decide +kernel), gTbl_in (List.mem_of_getElem? (i := 1079) (by decide +kernel)) (by decide +kernel)⟩
def MX11_addAunt : gMI := (yX11_addAunt, cX11_addAunt, 4, none)
theorem mf_X11_addAunt : gMf MX11_addAunt 2 := ⟨gTbl_in (List.mem_of_getElem? (i := 1092) (by decide +kernel)) (by decide +kernel), gTbl_in (List.mem_of_getElem? (i := 69) (by decide +kernel)) (by decide +kernel), ⟨by decide +kernel, by decide +kernel, by decide +kernel⟩, by decide +kernel⟩
theorem mv_X11_addAunt : gMv MX11_addAunt := ⟨gTbl_in (List.mem_of_getElem? (i := 1091) (by decide +kernel)) (by decide +kernel), gTbl_in (List.mem_of_getElem? (i := 24) (by decide +kernel)) (by decide +kernel)⟩
def MX11_aunt : gMI := (yX11_aunt, cX11_aunt, 3, (some .int))
theorem mf_X11_aunt : gMf MX11_aunt 2 := ⟨gTbl_in (List.mem_of_getElem? (i := 1088) (by decide +kernel)) (by decide +kernel), gTbl_in (List.mem_of_getElem? (i := 69) (by decide +kernel)) (by decide +kernel), ⟨by decide +kernel, by decide +kernel, by decide +kernel⟩, by decide +kernel⟩
theorem mv_X11_aunt : gMv MX11_aunt := ⟨gTbl_in (List.mem_of_getElem? (i := 1086) (by decide +kernel)) (by decide +kernel), gTbl_in (List.mem_of_getElem? (i := 1087) (by decide +kernel)) (by decide +kernel)⟩
def MX11_type : gMI := (yX11_type, cX11_type, 2, (some .int))
theorem mf_X11_type : gMf MX11_type 1 := ⟨gTbl_in (List.mem_of_getElem? (i := 1096) (by decide +kernel)) (by decide +kernel), gTbl_in (List.mem_of_getElem? (i := 69) (by decide +kernel)) (by decide +kernel), ⟨by decide +kernel, by decide +kernel, by decide +kernel⟩, by decide +kernel⟩
theorem mv_X11_type : gMv MX11_type := ⟨gTbl_in (List.mem_of_getElem? (i := 1094) (by decide +kernel)) (by decide +kernel), gTbl_in (List.mem_of_getElem? (i := 1095) (by decide +kernel)) (by decide +kernel)⟩
def MX11_clear : gMI := (yX11_clear, cX11_clear, 2, (some .int))
theorem mf_X11_clear : gMf MX11_clear 0 := ⟨gTbl_in (List.mem_of_getElem? (i := 1100) (by decide +kernel)) (by decide +kernel), gTbl_in (List.mem_of_getElem? (i := 69) (by decide +kernel)) (by decide +kernel), ⟨by decide +kernel, by decide +kernel, by decide +kernel⟩, by decide +kernel⟩
theorem mv_X11_clear : gMv MX11_clear := ⟨gTbl_in (List.mem_of_getElem? (i := 1098) (by decide +kernel)) (by decide +kernel), gTbl_in (List.mem_of_getElem? (i := 1099) (by decide +kernel)) (by decide +kernel)⟩
def MX11_isLetter : gMI := (yX11_isLetter, cX11_isLetter, 2, (some .boolean))
theorem mf_X11_isLetter : gMf MX11_isLetter 1 := ⟨gTbl_in (List.mem_of_getElem? (i := 1116) (by decide +kernel)) (by decide +kernel), gTbl_in (List.mem_of_getElem? (i := 69) (by decide +kernel)) (by decide +kernel), ⟨by decide +kernel, by decide +kernel, by decide +kernel⟩, by decide +kernel⟩
theorem mv_X11_isLetter : gMv MX11_isLetter := ⟨gTbl_in (List.mem_of_getElem? (i := 1115) (by decide +kernel)) (by decide +kernel), gTbl_in (List.mem_of_getElem? (i := 27) (by decide +kernel)) (by decide +kernel)⟩
def MX11_isFigure : gMI := (yX11_isFigure, cX11_isFigure, 2, (some .boolean))
theorem mf_X11_isFigure : gMf MX11_isFigure 1 := ⟨gTbl_in (List.mem_of_getElem? (i := 1120) (by decide +kernel)) (by decide +kernel), gTbl_in (List.mem_of_getElem? (i := 69) (by decide +kernel)) (by decide +kernel), ⟨by decide +kernel, by decide +kernel, by decide +kernel⟩, by decide +kernel⟩
theorem mv_X11_isFigure : gMv MX11_isFigure := ⟨gTbl_in (List.mem_of_getElem? (i := 1119) (by decide +kernel)) (by decide +kernel), gTbl_in (List.mem_of_getElem? (i := 28) (by decide +kernel)) (by decide +kernel)⟩
def MX11_next : gMI := (yX11_next, cX11_next, 1, none)
theorem mf_X11_next : gMf MX11_next 0 := ⟨gTbl_in (List.mem_of_getElem? (i := 1112) (by decide +kernel)) (by decide +kernel), gTbl_in (List.mem_of_getElem? (i := 69) (by decide +kernel)) (by decide +kernel), ⟨by decide +kernel, by decide +kernel, by decide +kernel⟩, by decide +kernel⟩
theorem mv_X11_next : gMv MX11_next := ⟨gTbl_in (List.mem_of_getElem? (i := 1111) (by decide +kernel)) (by decide +kernel), gTbl_in (List.mem_of_getElem? (i := 26) (by decide +kernel)) (by decide +kernel)⟩
def MX11_isWord : gMI := (yX11_isWord, cX11_isWord, 5, (some .boolean))
theorem mf_X11_isWord : gMf MX11_isWord 1 := ⟨gTbl_in (List.mem_of_getElem? (i := 1128) (by decide +kernel)) (by decide +kernel), gTbl_in (List.mem_of_getElem? (i := 69) (by decide +kernel)) (by decide +kernel), ⟨by decide +kernel, by decide +kernel, by decide +kernel⟩, by decide +kernel⟩
theorem mv_X11_isWord : gMv MX11_isWord := ⟨gTbl_in (List.mem_of_getElem? (i := 1127) (by decide +kernel)) (by decide +kernel), gTbl_in (List.mem_of_getElem? (i := 30) (by decide +kernel)) (by decide +kernel)⟩
def MX11_wordHere : gMI := (yX11_wordHere, cX11_wordHere, 2, (some .int))
theorem mf_X11_wordHere : gMf MX11_wordHere 0 := ⟨gTbl_in (List.mem_of_getElem? (i := 1124) (by decide +kernel)) (by decide +kernel), gTbl_in (List.mem_of_getElem? (i := 69) (by decide +kernel)) (by decide +kernel), ⟨by decide +kernel, by decide +kernel, by decide +kernel⟩, by decide +kernel⟩
theorem mv_X11_wordHere : gMv MX11_wordHere := ⟨gTbl_in (List.mem_of_getElem? (i := 1123) (by decide +kernel)) (by decide +kernel), gTbl_in (List.mem_of_getElem? (i := 29) (by decide +kernel)) (by decide +kernel)⟩
def MX11_number : gMI := (yX11_number, cX11_number, 4, (some .int))
theorem mf_X11_number : gMf MX11_number 2 := ⟨gTbl_in (List.mem_of_getElem? (i := 1140) (by decide +kernel)) (by decide +kernel), gTbl_in (List.mem_of_getElem? (i := 69) (by decide +kernel)) (by decide +kernel), ⟨by decide +kernel, by decide +kernel, by decide +kernel⟩, by decide +kernel⟩
theorem mv_X11_number : gMv MX11_number := ⟨gTbl_in (List.mem_of_getElem? (i := 1139) (by decide +kernel)) (by decide +kernel), gTbl_in (List.mem_of_getElem? (i := 33) (by decide +kernel)) (by decide +kernel)⟩
def MX11_readsLane : gMI := (yX11_readsLane, cX11_readsLane, 2, (some .boolean))
theorem mf_X11_readsLane : gMf MX11_readsLane 0 := ⟨gTbl_in (List.mem_of_getElem? (i := 1136) (by decide +kernel)) (by decide +kernel), gTbl_in (List.mem_of_getElem? (i := 69) (by decide +kernel)) (by decide +kernel), ⟨by decide +kernel, by decide +kernel, by decide +kernel⟩, by decide +kernel⟩
theorem mv_X11_readsLane : gMv MX11_readsLane := ⟨gTbl_in (List.mem_of_getElem? (i := 1135) (by decide +kernel)) (by decide +kernel), gTbl_in (List.mem_of_getElem? (i := 32) (by decide +kernel)) (by decide +kernel)⟩
def MX11_readsOne : gMI := (yX11_readsOne, cX11_readsOne, 4, (some .boolean))
theorem mf_X11_readsOne : gMf MX11_readsOne 0 := ⟨gTbl_in (List.mem_of_getElem? (i := 1144) (by decide +kernel)) (by decide +kernel), gTbl_in (List.mem_of_getElem? (i := 69) (by decide +kernel)) (by decide +kernel), ⟨by decide +kernel, by decide +kernel, by decide +kernel⟩, by decide +kernel⟩
theorem mv_X11_readsOne : gMv MX11_readsOne := ⟨gTbl_in (List.mem_of_getElem? (i := 1143) (by decide +kernel)) (by decide +kernel), gTbl_in (List.mem_of_getElem? (i := 34) (by decide +kernel)) (by decide +kernel)⟩
def MX11_readsAunt : gMI := (yX11_readsAunt, cX11_readsAunt, 3, (some .boolean))
theorem mf_X11_readsAunt : gMf MX11_readsAunt 0 := ⟨gTbl_in (List.mem_of_getElem? (i := 1148) (by decide +kernel)) (by decide +kernel), gTbl_in (List.mem_of_getElem? (i := 69) (by decide +kernel)) (by decide +kernel), ⟨by decide +kernel, by decide +kernel, by decide +kernel⟩, by decide +kernel⟩
theorem mv_X11_readsAunt : gMv MX11_readsAunt := ⟨gTbl_in (List.mem_of_getElem? (i := 1147) (by decide +kernel)) (by decide +kernel), gTbl_in (List.mem_of_getElem? (i := 35) (by decide +kernel)) (by decide +kernel)⟩
def MX11_readsItem : gMI := (yX11_readsItem, cX11_readsItem, 4, (some .boolean))
theorem mf_X11_readsItem : gMf MX11_readsItem 1 := ⟨gTbl_in (List.mem_of_getElem? (i := 1132) (by decide +kernel)) (by decide +kernel), gTbl_in (List.mem_of_getElem? (i := 69) (by decide +kernel)) (by decide +kernel), ⟨by decide +kernel, by decide +kernel, by decide +kernel⟩, by decide +kernel⟩
theorem mv_X11_readsItem : gMv MX11_readsItem := ⟨gTbl_in (List.mem_of_getElem? (i := 1131) (by decide +kernel)) (by decide +kernel), gTbl_in (List.mem_of_getElem? (i := 31) (by decide +kernel)) (by decide +kernel)⟩
def MX11_readItems : gMI := (yX11_readItems, cX11_readItems, 4, (some .int))
theorem mf_X11_readItems : gMf MX11_readItems 1 := ⟨gTbl_in (List.mem_of_getElem? (i := 1108) (by decide +kernel)) (by decide +kernel), gTbl_in (List.mem_of_getElem? (i := 69) (by decide +kernel)) (by decide +kernel), ⟨by decide +kernel, by decide +kernel, by decide +kernel⟩, by decide +kernel⟩
theorem mv_X11_readItems : gMv MX11_readItems := ⟨gTbl_in (List.mem_of_getElem? (i := 1107) (by decide +kernel)) (by decide +kernel), gTbl_in (List.mem_of_getElem? (i := 25) (by decide +kernel)) (by decide +kernel)⟩
def MX11_read : gMI := (yX11_read, cX11_read, 2, (some .int))
theorem mf_X11_read : gMf MX11_read 0 := ⟨gTbl_in (List.mem_of_getElem? (i := 1104) (by decide +kernel)) (by decide +kernel), gTbl_in (List.mem_of_getElem? (i := 69) (by decide +kernel)) (by decide +kernel), ⟨by decide +kernel, by decide +kernel, by decide +kernel⟩, by decide +kernel⟩
theorem mv_X11_read : gMv MX11_read := ⟨gTbl_in (List.mem_of_getElem? (i := 1102) (by decide +kernel)) (by decide +kernel), gTbl_in (List.mem_of_getElem? (i := 1103) (by decide +kernel)) (by decide +kernel)⟩
def MX11_leansBy : gMI := (yX11_leansBy, cX11_leansBy, 5, (some .int))
theorem mf_X11_leansBy : gMf MX11_leansBy 3 := ⟨gTbl_in (List.mem_of_getElem? (i := 1167) (by decide +kernel)) (by decide +kernel), gTbl_in (List.mem_of_getElem? (i := 69) (by decide +kernel)) (by decide +kernel), ⟨by decide +kernel, by decide +kernel, by decide +kernel⟩, by decide +kernel⟩
theorem ms_X11_leansBy : gMs MX11_leansBy := gTbl_in (List.mem_of_getElem? (i := 1166) (by decide +kernel)) (by decide +kernel)
def MX11_dampedPlain : gMI := (yX11_dampedPlain, cX11_dampedPlain, 1, (some .int))
theorem mf_X11_dampedPlain : gMf MX11_dampedPlain 1 := ⟨gTbl_in (List.mem_of_getElem? (i := 1176) (by decide +kernel)) (by decide +kernel), gTbl_in (List.mem_of_getElem? (i := 69) (by decide +kernel)) (by decide +kernel), ⟨by decide +kernel, by decide +kernel, by decide +kernel⟩, by decide +kernel⟩
theorem ms_X11_dampedPlain : gMs MX11_dampedPlain := gTbl_in (List.mem_of_getElem? (i := 1175) (by decide +kernel)) (by decide +kernel)
def MX11_dampedBy : gMI := (yX11_dampedBy, cX11_dampedBy, 3, (some .int))
theorem mf_X11_dampedBy : gMf MX11_dampedBy 3 := ⟨gTbl_in (List.mem_of_getElem? (i := 1173) (by decide +kernel)) (by decide +kernel), gTbl_in (List.mem_of_getElem? (i := 69) (by decide +kernel)) (by decide +kernel), ⟨by decide +kernel, by decide +kernel, by decide +kernel⟩, by decide +kernel⟩
theorem ms_X11_dampedBy : gMs MX11_dampedBy := gTbl_in (List.mem_of_getElem? (i := 1172) (by decide +kernel)) (by decide +kernel)
def MX11_leaning : gMI := (yX11_leaning, cX11_leaning, 6, (some .int))
theorem mf_X11_leaning : gMf MX11_leaning 3 := ⟨gTbl_in (List.mem_of_getElem? (i := 1164) (by decide +kernel)) (by decide +kernel), gTbl_in (List.mem_of_getElem? (i := 69) (by decide +kernel)) (by decide +kernel), ⟨by decide +kernel, by decide +kernel, by decide +kernel⟩, by decide +kernel⟩
theorem mv_X11_leaning : gMv MX11_leaning := ⟨gTbl_in (List.mem_of_getElem? (i := 1163) (by decide +kernel)) (by decide +kernel), gTbl_in (List.mem_of_getElem? (i := 39) (by decide +kernel)) (by decide +kernel)⟩
def MX11_soundBy : gMI := (yX11_soundBy, cX11_soundBy, 11, (some .int))
theorem mf_X11_soundBy : gMf MX11_soundBy 4 := ⟨gTbl_in (List.mem_of_getElem? (i := 1160) (by decide +kernel)) (by decide +kernel), gTbl_in (List.mem_of_getElem? (i := 69) (by decide +kernel)) (by decide +kernel), ⟨by decide +kernel, by decide +kernel, by decide +kernel⟩, by decide +kernel⟩
theorem mv_X11_soundBy : gMv MX11_soundBy := ⟨gTbl_in (List.mem_of_getElem? (i := 1159) (by decide +kernel)) (by decide +kernel), gTbl_in (List.mem_of_getElem? (i := 38) (by decide +kernel)) (by decide +kernel)⟩
def MX11_soundAt : gMI := (yX11_soundAt, cX11_soundAt, 3, (some .int))
theorem mf_X11_soundAt : gMf MX11_soundAt 2 := ⟨gTbl_in (List.mem_of_getElem? (i := 1156) (by decide +kernel)) (by decide +kernel), gTbl_in (List.mem_of_getElem? (i := 69) (by decide +kernel)) (by decide +kernel), ⟨by decide +kernel, by decide +kernel, by decide +kernel⟩, by decide +kernel⟩
theorem mv_X11_soundAt : gMv MX11_soundAt := ⟨gTbl_in (List.mem_of_getElem? (i := 1155) (by decide +kernel)) (by decide +kernel), gTbl_in (List.mem_of_getElem? (i := 37) (by decide +kernel)) (by decide +kernel)⟩
def MX11_goBy : gMI := (yX11_goBy, cX11_goBy, 5, none)
theorem mf_X11_goBy : gMf MX11_goBy 2 := ⟨gTbl_in (List.mem_of_getElem? (i := 1152) (by decide +kernel)) (by decide +kernel), gTbl_in (List.mem_of_getElem? (i := 69) (by decide +kernel)) (by decide +kernel), ⟨by decide +kernel, by decide +kernel, by decide +kernel⟩, by decide +kernel⟩
theorem mv_X11_goBy : gMv MX11_goBy := ⟨gTbl_in (List.mem_of_getElem? (i := 1151) (by decide +kernel)) (by decide +kernel), gTbl_in (List.mem_of_getElem? (i := 36) (by decide +kernel)) (by decide +kernel)⟩
def MX11_keepPast : gMI := (yX11_keepPast, cX11_keepPast, 2, none)
theorem mf_X11_keepPast : gMf MX11_keepPast 0 := ⟨gTbl_in (List.mem_of_getElem? (i := 1184) (by decide +kernel)) (by decide +kernel), gTbl_in (List.mem_of_getElem? (i := 69) (by decide +kernel)) (by decide +kernel), ⟨by decide +kernel, by decide +kernel, by decide +kernel⟩, by decide +kernel⟩
theorem mv_X11_keepPast : gMv MX11_keepPast := ⟨gTbl_in (List.mem_of_getElem? (i := 1183) (by decide +kernel)) (by decide +kernel), gTbl_in (List.mem_of_getElem? (i := 40) (by decide +kernel)) (by decide +kernel)⟩
def MX11_isOne : gMI := (yX11_isOne, cX11_isOne, 2, (some .boolean))
theorem mf_X11_isOne : gMf MX11_isOne 1 := ⟨gTbl_in (List.mem_of_getElem? (i := 1192) (by decide +kernel)) (by decide +kernel), gTbl_in (List.mem_of_getElem? (i := 69) (by decide +kernel)) (by decide +kernel), ⟨by decide +kernel, by decide +kernel, by decide +kernel⟩, by decide +kernel⟩
theorem mv_X11_isOne : gMv MX11_isOne := ⟨gTbl_in (List.mem_of_getElem? (i := 1191) (by decide +kernel)) (by decide +kernel), gTbl_in (List.mem_of_getElem? (i := 41) (by decide +kernel)) (by decide +kernel)⟩
def MX11_isAunt : gMI := (yX11_isAunt, cX11_isAunt, 2, (some .boolean))
theorem mf_X11_isAunt : gMf MX11_isAunt 1 := ⟨gTbl_in (List.mem_of_getElem? (i := 1200) (by decide +kernel)) (by decide +kernel), gTbl_in (List.mem_of_getElem? (i := 69) (by decide +kernel)) (by decide +kernel), ⟨by decide +kernel, by decide +kernel, by decide +kernel⟩, by decide +kernel⟩
theorem mv_X11_isAunt : gMv MX11_isAunt := ⟨gTbl_in (List.mem_of_getElem? (i := 1199) (by decide +kernel)) (by decide +kernel), gTbl_in (List.mem_of_getElem? (i := 42) (by decide +kernel)) (by decide +kernel)⟩
def MX11_counts : gMI := (yX11_counts, cX11_counts, 2, (some .int))
theorem mf_X11_counts : gMf MX11_counts 1 := ⟨gTbl_in (List.mem_of_getElem? (i := 1180) (by decide +kernel)) (by decide +kernel), gTbl_in (List.mem_of_getElem? (i := 69) (by decide +kernel)) (by decide +kernel), ⟨by decide +kernel, by decide +kernel, by decide +kernel⟩, by decide +kernel⟩
theorem mv_X11_counts : gMv MX11_counts := ⟨gTbl_in (List.mem_of_getElem? (i := 1178) (by decide +kernel)) (by decide +kernel), gTbl_in (List.mem_of_getElem? (i := 1179) (by decide +kernel)) (by decide +kernel)⟩
def MX11_swings : gMI := (yX11_swings, cX11_swings, 4, (some .int))
theorem mf_X11_swings : gMf MX11_swings 2 := ⟨gTbl_in (List.mem_of_getElem? (i := 1188) (by decide +kernel)) (by decide +kernel), gTbl_in (List.mem_of_getElem? (i := 69) (by decide +kernel)) (by decide +kernel), ⟨by decide +kernel, by decide +kernel, by decide +kernel⟩, by decide +kernel⟩
theorem mv_X11_swings : gMv MX11_swings := ⟨gTbl_in (List.mem_of_getElem? (i := 1186) (by decide +kernel)) (by decide +kernel), gTbl_in (List.mem_of_getElem? (i := 1187) (by decide +kernel)) (by decide +kernel)⟩
def MX11_sends : gMI := (yX11_sends, cX11_sends, 4, (some .int))
theorem mf_X11_sends : gMf MX11_sends 2 := ⟨gTbl_in (List.mem_of_getElem? (i := 1196) (by decide +kernel)) (by decide +kernel), gTbl_in (List.mem_of_getElem? (i := 69) (by decide +kernel)) (by decide +kernel), ⟨by decide +kernel, by decide +kernel, by decide +kernel⟩, by decide +kernel⟩
theorem mv_X11_sends : gMv MX11_sends := ⟨gTbl_in (List.mem_of_getElem? (i := 1194) (by decide +kernel)) (by decide +kernel), gTbl_in (List.mem_of_getElem? (i := 1195) (by decide +kernel)) (by decide +kernel)⟩
def MX11_undo : gMI := (yX11_undo, cX11_undo, 2, (some .int))
theorem mf_X11_undo : gMf MX11_undo 0 := ⟨gTbl_in (List.mem_of_getElem? (i := 1204) (by decide +kernel)) (by decide +kernel), gTbl_in (List.mem_of_getElem? (i := 69) (by decide +kernel)) (by decide +kernel), ⟨by decide +kernel, by decide +kernel, by decide +kernel⟩, by decide +kernel⟩
theorem mv_X11_undo : gMv MX11_undo := ⟨gTbl_in (List.mem_of_getElem? (i := 1202) (by decide +kernel)) (by decide +kernel), gTbl_in (List.mem_of_getElem? (i := 1203) (by decide +kernel)) (by decide +kernel)⟩
def MX11_of : gMI := (yX11_of, cX11_of, 3, (some .int))
theorem mf_X11_of : gMf MX11_of 2 := ⟨gTbl_in (List.mem_of_getElem? (i := 1208) (by decide +kernel)) (by decide +kernel), gTbl_in (List.mem_of_getElem? (i := 69) (by decide +kernel)) (by decide +kernel), ⟨by decide +kernel, by decide +kernel, by decide +kernel⟩, by decide +kernel⟩
theorem mv_X11_of : gMv MX11_of := ⟨gTbl_in (List.mem_of_getElem? (i := 1206) (by decide +kernel)) (by decide +kernel), gTbl_in (List.mem_of_getElem? (i := 1207) (by decide +kernel)) (by decide +kernel)⟩
def MX11_about : gMI := (yX11_about, cX11_about, 3, (some .int))
theorem mf_X11_about : gMf MX11_about 2 := ⟨gTbl_in (List.mem_of_getElem? (i := 1212) (by decide +kernel)) (by decide +kernel), gTbl_in (List.mem_of_getElem? (i := 69) (by decide +kernel)) (by decide +kernel), ⟨by decide +kernel, by decide +kernel, by decide +kernel⟩, by decide +kernel⟩
theorem mv_X11_about : gMv MX11_about := ⟨gTbl_in (List.mem_of_getElem? (i := 1210) (by decide +kernel)) (by decide +kernel), gTbl_in (List.mem_of_getElem? (i := 1211) (by decide +kernel)) (by decide +kernel)⟩
def MX11_badAs : gMI := (yX11_badAs, cX11_badAs, 2, (some .int))
theorem mf_X11_badAs : gMf MX11_badAs 1 := ⟨gTbl_in (List.mem_of_getElem? (i := 1220) (by decide +kernel)) (by decide +kernel), gTbl_in (List.mem_of_getElem? (i := 69) (by decide +kernel)) (by decide +kernel), ⟨by decide +kernel, by decide +kernel, by decide +kernel⟩, by decide +kernel⟩
theorem mv_X11_badAs : gMv MX11_badAs := ⟨gTbl_in (List.mem_of_getElem? (i := 1219) (by decide +kernel)) (by decide +kernel), gTbl_in (List.mem_of_getElem? (i := 43) (by decide +kernel)) (by decide +kernel)⟩
def MX11_leans : gMI := (yX11_leans, cX11_leans, 4, (some .int))
theorem mf_X11_leans : gMf MX11_leans 3 := ⟨gTbl_in (List.mem_of_getElem? (i := 1216) (by decide +kernel)) (by decide +kernel), gTbl_in (List.mem_of_getElem? (i := 69) (by decide +kernel)) (by decide +kernel), ⟨by decide +kernel, by decide +kernel, by decide +kernel⟩, by decide +kernel⟩
theorem mv_X11_leans : gMv MX11_leans := ⟨gTbl_in (List.mem_of_getElem? (i := 1214) (by decide +kernel)) (by decide +kernel), gTbl_in (List.mem_of_getElem? (i := 1215) (by decide +kernel)) (by decide +kernel)⟩
def MX11_sound : gMI := (yX11_sound, cX11_sound, 2, (some .int))
theorem mf_X11_sound : gMf MX11_sound 1 := ⟨gTbl_in (List.mem_of_getElem? (i := 1224) (by decide +kernel)) (by decide +kernel), gTbl_in (List.mem_of_getElem? (i := 69) (by decide +kernel)) (by decide +kernel), ⟨by decide +kernel, by decide +kernel, by decide +kernel⟩, by decide +kernel⟩
theorem mv_X11_sound : gMv MX11_sound := ⟨gTbl_in (List.mem_of_getElem? (i := 1222) (by decide +kernel)) (by decide +kernel), gTbl_in (List.mem_of_getElem? (i := 1223) (by decide +kernel)) (by decide +kernel)⟩
def MX11_entry : gMI := (yX11_entry, cX11_entry, 2, (some .int))
theorem mf_X11_entry : gMf MX11_entry 0 := ⟨gTbl_in (List.mem_of_getElem? (i := 1228) (by decide +kernel)) (by decide +kernel), gTbl_in (List.mem_of_getElem? (i := 69) (by decide +kernel)) (by decide +kernel), ⟨by decide +kernel, by decide +kernel, by decide +kernel⟩, by decide +kernel⟩
theorem mv_X11_entry : gMv MX11_entry := ⟨gTbl_in (List.mem_of_getElem? (i := 1226) (by decide +kernel)) (by decide +kernel), gTbl_in (List.mem_of_getElem? (i := 1227) (by decide +kernel)) (by decide +kernel)⟩
def MX11_layTried : gMI := (yX11_layTried, cX11_layTried, 2, none)
theorem mf_X11_layTried : gMf MX11_layTried 0 := ⟨gTbl_in (List.mem_of_getElem? (i := 1236) (by decide +kernel)) (by decide +kernel), gTbl_in (List.mem_of_getElem? (i := 69) (by decide +kernel)) (by decide +kernel), ⟨by decide +kernel, by decide +kernel, by decide +kernel⟩, by decide +kernel⟩
theorem mv_X11_layTried : gMv MX11_layTried := ⟨gTbl_in (List.mem_of_getElem? (i := 1235) (by decide +kernel)) (by decide +kernel), gTbl_in (List.mem_of_getElem? (i := 44) (by decide +kernel)) (by decide +kernel)⟩
def MX11_then : gMI := (yX11_then, cX11_then, 2, (some .int))
theorem mf_X11_then : gMf MX11_then 1 := ⟨gTbl_in (List.mem_of_getElem? (i := 1232) (by decide +kernel)) (by decide +kernel), gTbl_in (List.mem_of_getElem? (i := 69) (by decide +kernel)) (by decide +kernel), ⟨by decide +kernel, by decide +kernel, by decide +kernel⟩, by decide +kernel⟩
theorem mv_X11_then : gMv MX11_then := ⟨gTbl_in (List.mem_of_getElem? (i := 1230) (by decide +kernel)) (by decide +kernel), gTbl_in (List.mem_of_getElem? (i := 1231) (by decide +kernel)) (by decide +kernel)⟩
def MX11_isStill : gMI := (yX11_isStill, cX11_isStill, 4, (some .boolean))
theorem mf_X11_isStill : gMf MX11_isStill 1 := ⟨gTbl_in (List.mem_of_getElem? (i := 1247) (by decide +kernel)) (by decide +kernel), gTbl_in (List.mem_of_getElem? (i := 69) (by decide +kernel)) (by decide +kernel), ⟨by decide +kernel, by decide +kernel, by decide +kernel⟩, by decide +kernel⟩
theorem mv_X11_isStill : gMv MX11_isStill := ⟨gTbl_in (List.mem_of_getElem? (i := 1246) (by decide +kernel)) (by decide +kernel), gTbl_in (List.mem_of_getElem? (i := 45) (by decide +kernel)) (by decide +kernel)⟩
def MX11_still : gMI := (yX11_still, cX11_still, 5, (some .int))
theorem mf_X11_still : gMf MX11_still 1 := ⟨gTbl_in (List.mem_of_getElem? (i := 1240) (by decide +kernel)) (by decide +kernel), gTbl_in (List.mem_of_getElem? (i := 69) (by decide +kernel)) (by decide +kernel), ⟨by decide +kernel, by decide +kernel, by decide +kernel⟩, by decide +kernel⟩
theorem mv_X11_still : gMv MX11_still := ⟨gTbl_in (List.mem_of_getElem? (i := 1238) (by decide +kernel)) (by decide +kernel), gTbl_in (List.mem_of_getElem? (i := 1239) (by decide +kernel)) (by decide +kernel)⟩
def MX11_push : gMI := (yX11_push, cX11_push, 4, (some .int))
theorem mf_X11_push : gMf MX11_push 2 := ⟨gTbl_in (List.mem_of_getElem? (i := 1251) (by decide +kernel)) (by decide +kernel), gTbl_in (List.mem_of_getElem? (i := 69) (by decide +kernel)) (by decide +kernel), ⟨by decide +kernel, by decide +kernel, by decide +kernel⟩, by decide +kernel⟩
theorem mv_X11_push : gMv MX11_push := ⟨gTbl_in (List.mem_of_getElem? (i := 1249) (by decide +kernel)) (by decide +kernel), gTbl_in (List.mem_of_getElem? (i := 1250) (by decide +kernel)) (by decide +kernel)⟩
def MX11_widest : gMI := (yX11_widest, cX11_widest, 3, (some .int))
theorem mf_X11_widest : gMf MX11_widest 0 := ⟨gTbl_in (List.mem_of_getElem? (i := 1255) (by decide +kernel)) (by decide +kernel), gTbl_in (List.mem_of_getElem? (i := 69) (by decide +kernel)) (by decide +kernel), ⟨by decide +kernel, by decide +kernel, by decide +kernel⟩, by decide +kernel⟩
theorem mv_X11_widest : gMv MX11_widest := ⟨gTbl_in (List.mem_of_getElem? (i := 1253) (by decide +kernel)) (by decide +kernel), gTbl_in (List.mem_of_getElem? (i := 1254) (by decide +kernel)) (by decide +kernel)⟩
def MX11_wrong : gMI := (yX11_wrong, cX11_wrong, 5, (some .int))
theorem mf_X11_wrong : gMf MX11_wrong 1 := ⟨gTbl_in (List.mem_of_getElem? (i := 1259) (by decide +kernel)) (by decide +kernel), gTbl_in (List.mem_of_getElem? (i := 69) (by decide +kernel)) (by decide +kernel), ⟨by decide +kernel, by decide +kernel, by decide +kernel⟩, by decide +kernel⟩
theorem mv_X11_wrong : gMv MX11_wrong := ⟨gTbl_in (List.mem_of_getElem? (i := 1257) (by decide +kernel)) (by decide +kernel), gTbl_in (List.mem_of_getElem? (i := 1258) (by decide +kernel)) (by decide +kernel)⟩
def MX11_areAlike : gMI := (yX11_areAlike, cX11_areAlike, 6, (some .boolean))
theorem mf_X11_areAlike : gMf MX11_areAlike 2 := ⟨gTbl_in (List.mem_of_getElem? (i := 1279) (by decide +kernel)) (by decide +kernel), gTbl_in (List.mem_of_getElem? (i := 69) (by decide +kernel)) (by decide +kernel), ⟨by decide +kernel, by decide +kernel, by decide +kernel⟩, by decide +kernel⟩
theorem mv_X11_areAlike : gMv MX11_areAlike := ⟨gTbl_in (List.mem_of_getElem? (i := 1278) (by decide +kernel)) (by decide +kernel), gTbl_in (List.mem_of_getElem? (i := 49) (by decide +kernel)) (by decide +kernel)⟩
def MX11_laySides : gMI := (yX11_laySides, cX11_laySides, 2, none)
theorem mf_X11_laySides : gMf MX11_laySides 0 := ⟨gTbl_in (List.mem_of_getElem? (i := 1271) (by decide +kernel)) (by decide +kernel), gTbl_in (List.mem_of_getElem? (i := 69) (by decide +kernel)) (by decide +kernel), ⟨by decide +kernel, by decide +kernel, by decide +kernel⟩, by decide +kernel⟩
theorem mv_X11_laySides : gMv MX11_laySides := ⟨gTbl_in (List.mem_of_getElem? (i := 1270) (by decide +kernel)) (by decide +kernel), gTbl_in (List.mem_of_getElem? (i := 47) (by decide +kernel)) (by decide +kernel)⟩
def MX11_pairsBy : gMI := (yX11_pairsBy, cX11_pairsBy, 9, (some .int))
theorem mf_X11_pairsBy : gMf MX11_pairsBy 1 := ⟨gTbl_in (List.mem_of_getElem? (i := 1275) (by decide +kernel)) (by decide +kernel), gTbl_in (List.mem_of_getElem? (i := 69) (by decide +kernel)) (by decide +kernel), ⟨by decide +kernel, by decide +kernel, by decide +kernel⟩, by decide +kernel⟩
theorem mv_X11_pairsBy : gMv MX11_pairsBy := ⟨gTbl_in (List.mem_of_getElem? (i := 1274) (by decide +kernel)) (by decide +kernel), gTbl_in (List.mem_of_getElem? (i := 48) (by decide +kernel)) (by decide +kernel)⟩
def MX11_mostPairs : gMI := (yX11_mostPairs, cX11_mostPairs, 6, (some .int))
theorem mf_X11_mostPairs : gMf MX11_mostPairs 0 := ⟨gTbl_in (List.mem_of_getElem? (i := 1267) (by decide +kernel)) (by decide +kernel), gTbl_in (List.mem_of_getElem? (i := 69) (by decide +kernel)) (by decide +kernel), ⟨by decide +kernel, by decide +kernel, by decide +kernel⟩, by decide +kernel⟩
theorem mv_X11_mostPairs : gMv MX11_mostPairs := ⟨gTbl_in (List.mem_of_getElem? (i := 1266) (by decide +kernel)) (by decide +kernel), gTbl_in (List.mem_of_getElem? (i := 46) (by decide +kernel)) (by decide +kernel)⟩
def MX11_marry : gMI := (yX11_marry, cX11_marry, 3, (some .int))
theorem mf_X11_marry : gMf MX11_marry 1 := ⟨gTbl_in (List.mem_of_getElem? (i := 1263) (by decide +kernel)) (by decide +kernel), gTbl_in (List.mem_of_getElem? (i := 69) (by decide +kernel)) (by decide +kernel), ⟨by decide +kernel, by decide +kernel, by decide +kernel⟩, by decide +kernel⟩
theorem mv_X11_marry : gMv MX11_marry := ⟨gTbl_in (List.mem_of_getElem? (i := 1261) (by decide +kernel)) (by decide +kernel), gTbl_in (List.mem_of_getElem? (i := 1262) (by decide +kernel)) (by decide +kernel)⟩
def MX11_heard : gMI := (yX11_heard, cX11_heard, 4, (some .int))
theorem mf_X11_heard : gMf MX11_heard 2 := ⟨gTbl_in (List.mem_of_getElem? (i := 1283) (by decide +kernel)) (by decide +kernel), gTbl_in (List.mem_of_getElem? (i := 69) (by decide +kernel)) (by decide +kernel), ⟨by decide +kernel, by decide +kernel, by decide +kernel⟩, by decide +kernel⟩
theorem mv_X11_heard : gMv MX11_heard := ⟨gTbl_in (List.mem_of_getElem? (i := 1281) (by decide +kernel)) (by decide +kernel), gTbl_in (List.mem_of_getElem? (i := 1282) (by decide +kernel)) (by decide +kernel)⟩
def MX11_isHeardSo : gMI := (yX11_isHeardSo, cX11_isHeardSo, 5, (some .boolean))
theorem mf_X11_isHeardSo : gMf MX11_isHeardSo 2 := ⟨gTbl_in (List.mem_of_getElem? (i := 1291) (by decide +kernel)) (by decide +kernel), gTbl_in (List.mem_of_getElem? (i := 69) (by decide +kernel)) (by decide +kernel), ⟨by decide +kernel, by decide +kernel, by decide +kernel⟩, by decide +kernel⟩
theorem mv_X11_isHeardSo : gMv MX11_isHeardSo := ⟨gTbl_in (List.mem_of_getElem? (i := 1290) (by decide +kernel)) (by decide +kernel), gTbl_in (List.mem_of_getElem? (i := 50) (by decide +kernel)) (by decide +kernel)⟩
def MX11_lanes : gMI := (yX11_lanes, cX11_lanes, 3, (some .int))
theorem mf_X11_lanes : gMf MX11_lanes 0 := ⟨gTbl_in (List.mem_of_getElem? (i := 1287) (by decide +kernel)) (by decide +kernel), gTbl_in (List.mem_of_getElem? (i := 69) (by decide +kernel)) (by decide +kernel), ⟨by decide +kernel, by decide +kernel, by decide +kernel⟩, by decide +kernel⟩
theorem mv_X11_lanes : gMv MX11_lanes := ⟨gTbl_in (List.mem_of_getElem? (i := 1285) (by decide +kernel)) (by decide +kernel), gTbl_in (List.mem_of_getElem? (i := 1286) (by decide +kernel)) (by decide +kernel)⟩
def MX11_swung : gMI := (yX11_swung, cX11_swung, 4, (some .int))
theorem mf_X11_swung : gMf MX11_swung 1 := ⟨gTbl_in (List.mem_of_getElem? (i := 1295) (by decide +kernel)) (by decide +kernel), gTbl_in (List.mem_of_getElem? (i := 69) (by decide +kernel)) (by decide +kernel), ⟨by decide +kernel, by decide +kernel, by decide +kernel⟩, by decide +kernel⟩
theorem mv_X11_swung : gMv MX11_swung := ⟨gTbl_in (List.mem_of_getElem? (i := 1293) (by decide +kernel)) (by decide +kernel), gTbl_in (List.mem_of_getElem? (i := 1294) (by decide +kernel)) (by decide +kernel)⟩
def MX11_hear : gMI := (yX11_hear, cX11_hear, 8, (some .int))
theorem mf_X11_hear : gMf MX11_hear 0 := ⟨gTbl_in (List.mem_of_getElem? (i := 1299) (by decide +kernel)) (by decide +kernel), gTbl_in (List.mem_of_getElem? (i := 69) (by decide +kernel)) (by decide +kernel), ⟨by decide +kernel, by decide +kernel, by decide +kernel⟩, by decide +kernel⟩
theorem mv_X11_hear : gMv MX11_hear := ⟨gTbl_in (List.mem_of_getElem? (i := 1297) (by decide +kernel)) (by decide +kernel), gTbl_in (List.mem_of_getElem? (i := 1298) (by decide +kernel)) (by decide +kernel)⟩
def MX11_note : gMI := (yX11_note, cX11_note, 6, (some .int))
theorem mf_X11_note : gMf MX11_note 4 := ⟨gTbl_in (List.mem_of_getElem? (i := 1304) (by decide +kernel)) (by decide +kernel), gTbl_in (List.mem_of_getElem? (i := 69) (by decide +kernel)) (by decide +kernel), ⟨by decide +kernel, by decide +kernel, by decide +kernel⟩, by decide +kernel⟩
theorem mv_X11_note : gMv MX11_note := ⟨gTbl_in (List.mem_of_getElem? (i := 1302) (by decide +kernel)) (by decide +kernel), gTbl_in (List.mem_of_getElem? (i := 1303) (by decide +kernel)) (by decide +kernel)⟩
def MX11_mark : gMI := (yX11_mark, cX11_mark, 6, (some .int))
theorem mf_X11_mark : gMf MX11_mark 4 := ⟨gTbl_in (List.mem_of_getElem? (i := 1308) (by decide +kernel)) (by decide +kernel), gTbl_in (List.mem_of_getElem? (i := 69) (by decide +kernel)) (by decide +kernel), ⟨by decide +kernel, by decide +kernel, by decide +kernel⟩, by decide +kernel⟩
theorem mv_X11_mark : gMv MX11_mark := ⟨gTbl_in (List.mem_of_getElem? (i := 1306) (by decide +kernel)) (by decide +kernel), gTbl_in (List.mem_of_getElem? (i := 1307) (by decide +kernel)) (by decide +kernel)⟩
def MX11_forget : gMI := (yX11_forget, cX11_forget, 4, (some .int))
theorem mf_X11_forget : gMf MX11_forget 1 := ⟨gTbl_in (List.mem_of_getElem? (i := 1312) (by decide +kernel)) (by decide +kernel), gTbl_in (List.mem_of_getElem? (i := 69) (by decide +kernel)) (by decide +kernel), ⟨by decide +kernel, by decide +kernel, by decide +kernel⟩, by decide +kernel⟩
theorem mv_X11_forget : gMv MX11_forget := ⟨gTbl_in (List.mem_of_getElem? (i := 1310) (by decide +kernel)) (by decide +kernel), gTbl_in (List.mem_of_getElem? (i := 1311) (by decide +kernel)) (by decide +kernel)⟩
def MX11_kindsOf : gMI := (yX11_kindsOf, cX11_kindsOf, 6, (some .int))
theorem mf_X11_kindsOf : gMf MX11_kindsOf 1 := ⟨gTbl_in (List.mem_of_getElem? (i := 1320) (by decide +kernel)) (by decide +kernel), gTbl_in (List.mem_of_getElem? (i := 69) (by decide +kernel)) (by decide +kernel), ⟨by decide +kernel, by decide +kernel, by decide +kernel⟩, by decide +kernel⟩
theorem mv_X11_kindsOf : gMv MX11_kindsOf := ⟨gTbl_in (List.mem_of_getElem? (i := 1319) (by decide +kernel)) (by decide +kernel), gTbl_in (List.mem_of_getElem? (i := 51) (by decide +kernel)) (by decide +kernel)⟩
def MX11_is : gMI := (yX11_is, cX11_is, 2, (some .int))
theorem mf_X11_is : gMf MX11_is 1 := ⟨gTbl_in (List.mem_of_getElem? (i := 1316) (by decide +kernel)) (by decide +kernel), gTbl_in (List.mem_of_getElem? (i := 69) (by decide +kernel)) (by decide +kernel), ⟨by decide +kernel, by decide +kernel, by decide +kernel⟩, by decide +kernel⟩
theorem mv_X11_is : gMv MX11_is := ⟨gTbl_in (List.mem_of_getElem? (i := 1314) (by decide +kernel)) (by decide +kernel), gTbl_in (List.mem_of_getElem? (i := 1315) (by decide +kernel)) (by decide +kernel)⟩
def MX11_mostAlike : gMI := (yX11_mostAlike, cX11_mostAlike, 6, (some .int))
theorem mf_X11_mostAlike : gMf MX11_mostAlike 1 := ⟨gTbl_in (List.mem_of_getElem? (i := 1328) (by decide +kernel)) (by decide +kernel), gTbl_in (List.mem_of_getElem? (i := 69) (by decide +kernel)) (by decide +kernel), ⟨by decide +kernel, by decide +kernel, by decide +kernel⟩, by decide +kernel⟩
theorem mv_X11_mostAlike : gMv MX11_mostAlike := ⟨gTbl_in (List.mem_of_getElem? (i := 1327) (by decide +kernel)) (by decide +kernel), gTbl_in (List.mem_of_getElem? (i := 52) (by decide +kernel)) (by decide +kernel)⟩
def MX11_look : gMI := (yX11_look, cX11_look, 7, (some .int))
theorem mf_X11_look : gMf MX11_look 1 := ⟨gTbl_in (List.mem_of_getElem? (i := 1324) (by decide +kernel)) (by decide +kernel), gTbl_in (List.mem_of_getElem? (i := 69) (by decide +kernel)) (by decide +kernel), ⟨by decide +kernel, by decide +kernel, by decide +kernel⟩, by decide +kernel⟩
theorem mv_X11_look : gMv MX11_look := ⟨gTbl_in (List.mem_of_getElem? (i := 1322) (by decide +kernel)) (by decide +kernel), gTbl_in (List.mem_of_getElem? (i := 1323) (by decide +kernel)) (by decide +kernel)⟩
def MX11_auntKinds : gMI := (yX11_auntKinds, cX11_auntKinds, 6, (some .int))
theorem mf_X11_auntKinds : gMf MX11_auntKinds 1 := ⟨gTbl_in (List.mem_of_getElem? (i := 1336) (by decide +kernel)) (by decide +kernel), gTbl_in (List.mem_of_getElem? (i := 69) (by decide +kernel)) (by decide +kernel), ⟨by decide +kernel, by decide +kernel, by decide +kernel⟩, by decide +kernel⟩
theorem mv_X11_auntKinds : gMv MX11_auntKinds := ⟨gTbl_in (List.mem_of_getElem? (i := 1335) (by decide +kernel)) (by decide +kernel), gTbl_in (List.mem_of_getElem? (i := 53) (by decide +kernel)) (by decide +kernel)⟩
def MX11_kinds : gMI := (yX11_kinds, cX11_kinds, 2, (some .int))
theorem mf_X11_kinds : gMf MX11_kinds 1 := ⟨gTbl_in (List.mem_of_getElem? (i := 1332) (by decide +kernel)) (by decide +kernel), gTbl_in (List.mem_of_getElem? (i := 69) (by decide +kernel)) (by decide +kernel), ⟨by decide +kernel, by decide +kernel, by decide +kernel⟩, by decide +kernel⟩
theorem mv_X11_kinds : gMv MX11_kinds := ⟨gTbl_in (List.mem_of_getElem? (i := 1330) (by decide +kernel)) (by decide +kernel), gTbl_in (List.mem_of_getElem? (i := 1331) (by decide +kernel)) (by decide +kernel)⟩
def MX11_ask : gMI := (yX11_ask, cX11_ask, 9, (some .int))
theorem mf_X11_ask : gMf MX11_ask 1 := ⟨gTbl_in (List.mem_of_getElem? (i := 1340) (by decide +kernel)) (by decide +kernel), gTbl_in (List.mem_of_getElem? (i := 69) (by decide +kernel)) (by decide +kernel), ⟨by decide +kernel, by decide +kernel, by decide +kernel⟩, by decide +kernel⟩
theorem mv_X11_ask : gMv MX11_ask := ⟨gTbl_in (List.mem_of_getElem? (i := 1338) (by decide +kernel)) (by decide +kernel), gTbl_in (List.mem_of_getElem? (i := 1339) (by decide +kernel)) (by decide +kernel)⟩
def MX11_rests : gMI := (yX11_rests, cX11_rests, 6, (some .boolean))
theorem mf_X11_rests : gMf MX11_rests 2 := ⟨gTbl_in (List.mem_of_getElem? (i := 1348) (by decide +kernel)) (by decide +kernel), gTbl_in (List.mem_of_getElem? (i := 69) (by decide +kernel)) (by decide +kernel), ⟨by decide +kernel, by decide +kernel, by decide +kernel⟩, by decide +kernel⟩
theorem mv_X11_rests : gMv MX11_rests := ⟨gTbl_in (List.mem_of_getElem? (i := 1347) (by decide +kernel)) (by decide +kernel), gTbl_in (List.mem_of_getElem? (i := 54) (by decide +kernel)) (by decide +kernel)⟩
def MX11_game : gMI := (yX11_game, cX11_game, 8, (some .int))
theorem mf_X11_game : gMf MX11_game 4 := ⟨gTbl_in (List.mem_of_getElem? (i := 1344) (by decide +kernel)) (by decide +kernel), gTbl_in (List.mem_of_getElem? (i := 69) (by decide +kernel)) (by decide +kernel), ⟨by decide +kernel, by decide +kernel, by decide +kernel⟩, by decide +kernel⟩
theorem mv_X11_game : gMv MX11_game := ⟨gTbl_in (List.mem_of_getElem? (i := 1342) (by decide +kernel)) (by decide +kernel), gTbl_in (List.mem_of_getElem? (i := 1343) (by decide +kernel)) (by decide +kernel)⟩
def MX11_tell : gMI := (yX11_tell, cX11_tell, 11, none)
theorem mf_X11_tell : gMf MX11_tell 2 := ⟨gTbl_in (List.mem_of_getElem? (i := 1356) (by decide +kernel)) (by decide +kernel), gTbl_in (List.mem_of_getElem? (i := 69) (by decide +kernel)) (by decide +kernel), ⟨by decide +kernel, by decide +kernel, by decide +kernel⟩, by decide +kernel⟩
theorem mv_X11_tell : gMv MX11_tell := ⟨gTbl_in (List.mem_of_getElem? (i := 1355) (by decide +kernel)) (by decide +kernel), gTbl_in (List.mem_of_getElem? (i := 55) (by decide +kernel)) (by decide +kernel)⟩
def MX11_slips : gMI := (yX11_slips, cX11_slips, 11, (some .int))
theorem mf_X11_slips : gMf MX11_slips 2 := ⟨gTbl_in (List.mem_of_getElem? (i := 1352) (by decide +kernel)) (by decide +kernel), gTbl_in (List.mem_of_getElem? (i := 69) (by decide +kernel)) (by decide +kernel), ⟨by decide +kernel, by decide +kernel, by decide +kernel⟩, by decide +kernel⟩
theorem mv_X11_slips : gMv MX11_slips := ⟨gTbl_in (List.mem_of_getElem? (i := 1350) (by decide +kernel)) (by decide +kernel), gTbl_in (List.mem_of_getElem? (i := 1351) (by decide +kernel)) (by decide +kernel)⟩
def MX11_reigns : gMI := (yX11_reigns, cX11_reigns, 8, (some .int))
theorem mf_X11_reigns : gMf MX11_reigns 2 := ⟨gTbl_in (List.mem_of_getElem? (i := 1360) (by decide +kernel)) (by decide +kernel), gTbl_in (List.mem_of_getElem? (i := 69) (by decide +kernel)) (by decide +kernel), ⟨by decide +kernel, by decide +kernel, by decide +kernel⟩, by decide +kernel⟩
theorem mv_X11_reigns : gMv MX11_reigns := ⟨gTbl_in (List.mem_of_getElem? (i := 1358) (by decide +kernel)) (by decide +kernel), gTbl_in (List.mem_of_getElem? (i := 1359) (by decide +kernel)) (by decide +kernel)⟩
def MX11_part : gMI := (yX11_part, cX11_part, 2, (some .long))
theorem mf_X11_part : gMf MX11_part 1 := ⟨gTbl_in (List.mem_of_getElem? (i := 1372) (by decide +kernel)) (by decide +kernel), gTbl_in (List.mem_of_getElem? (i := 69) (by decide +kernel)) (by decide +kernel), ⟨by decide +kernel, by decide +kernel, by decide +kernel⟩, by decide +kernel⟩
theorem mv_X11_part : gMv MX11_part := ⟨gTbl_in (List.mem_of_getElem? (i := 1370) (by decide +kernel)) (by decide +kernel), gTbl_in (List.mem_of_getElem? (i := 1371) (by decide +kernel)) (by decide +kernel)⟩
def MX11_image : gMI := (yX11_image, cX11_image, 3, (some .int))
theorem mf_X11_image : gMf MX11_image 1 := ⟨gTbl_in (List.mem_of_getElem? (i := 1376) (by decide +kernel)) (by decide +kernel), gTbl_in (List.mem_of_getElem? (i := 69) (by decide +kernel)) (by decide +kernel), ⟨by decide +kernel, by decide +kernel, by decide +kernel⟩, by decide +kernel⟩
theorem mv_X11_image : gMv MX11_image := ⟨gTbl_in (List.mem_of_getElem? (i := 1374) (by decide +kernel)) (by decide +kernel), gTbl_in (List.mem_of_getElem? (i := 1375) (by decide +kernel)) (by decide +kernel)⟩
def MX11_from : gMI := (yX11_from, cX11_from, 3, (some .int))
theorem mf_X11_from : gMf MX11_from 1 := ⟨gTbl_in (List.mem_of_getElem? (i := 1380) (by decide +kernel)) (by decide +kernel), gTbl_in (List.mem_of_getElem? (i := 69) (by decide +kernel)) (by decide +kernel), ⟨by decide +kernel, by decide +kernel, by decide +kernel⟩, by decide +kernel⟩
theorem mv_X11_from : gMv MX11_from := ⟨gTbl_in (List.mem_of_getElem? (i := 1378) (by decide +kernel)) (by decide +kernel), gTbl_in (List.mem_of_getElem? (i := 1379) (by decide +kernel)) (by decide +kernel)⟩
def MX11_status : gMI := (yX11_status, cX11_status, 2, (some .int))
theorem mf_X11_status : gMf MX11_status 1 := ⟨gTbl_in (List.mem_of_getElem? (i := 1384) (by decide +kernel)) (by decide +kernel), gTbl_in (List.mem_of_getElem? (i := 69) (by decide +kernel)) (by decide +kernel), ⟨by decide +kernel, by decide +kernel, by decide +kernel⟩, by decide +kernel⟩
theorem mv_X11_status : gMv MX11_status := ⟨gTbl_in (List.mem_of_getElem? (i := 1382) (by decide +kernel)) (by decide +kernel), gTbl_in (List.mem_of_getElem? (i := 1383) (by decide +kernel)) (by decide +kernel)⟩
def MX11_countOf : gMI := (yX11_countOf, cX11_countOf, 2, (some .int))
theorem mf_X11_countOf : gMf MX11_countOf 1 := ⟨gTbl_in (List.mem_of_getElem? (i := 1392) (by decide +kernel)) (by decide +kernel), gTbl_in (List.mem_of_getElem? (i := 69) (by decide +kernel)) (by decide +kernel), ⟨by decide +kernel, by decide +kernel, by decide +kernel⟩, by decide +kernel⟩
theorem mv_X11_countOf : gMv MX11_countOf := ⟨gTbl_in (List.mem_of_getElem? (i := 1391) (by decide +kernel)) (by decide +kernel), gTbl_in (List.mem_of_getElem? (i := 56) (by decide +kernel)) (by decide +kernel)⟩
def MX11_count : gMI := (yX11_count, cX11_count, 2, (some .int))
theorem mf_X11_count : gMf MX11_count 1 := ⟨gTbl_in (List.mem_of_getElem? (i := 1388) (by decide +kernel)) (by decide +kernel), gTbl_in (List.mem_of_getElem? (i := 69) (by decide +kernel)) (by decide +kernel), ⟨by decide +kernel, by decide +kernel, by decide +kernel⟩, by decide +kernel⟩
theorem mv_X11_count : gMv MX11_count := ⟨gTbl_in (List.mem_of_getElem? (i := 1386) (by decide +kernel)) (by decide +kernel), gTbl_in (List.mem_of_getElem? (i := 1387) (by decide +kernel)) (by decide +kernel)⟩
def MX11_join : gMI := (yX11_join, cX11_join, 8, (some .long))
theorem mf_X11_join : gMf MX11_join 3 := ⟨gTbl_in (List.mem_of_getElem? (i := 1402) (by decide +kernel)) (by decide +kernel), gTbl_in (List.mem_of_getElem? (i := 69) (by decide +kernel)) (by decide +kernel), ⟨by decide +kernel, by decide +kernel, by decide +kernel⟩, by decide +kernel⟩
theorem mv_X11_join : gMv MX11_join := ⟨gTbl_in (List.mem_of_getElem? (i := 1401) (by decide +kernel)) (by decide +kernel), gTbl_in (List.mem_of_getElem? (i := 57) (by decide +kernel)) (by decide +kernel)⟩
def MX11_digest : gMI := (yX11_digest, cX11_digest, 4, (some .long))
theorem mf_X11_digest : gMf MX11_digest 0 := ⟨gTbl_in (List.mem_of_getElem? (i := 1396) (by decide +kernel)) (by decide +kernel), gTbl_in (List.mem_of_getElem? (i := 69) (by decide +kernel)) (by decide +kernel), ⟨by decide +kernel, by decide +kernel, by decide +kernel⟩, by decide +kernel⟩
theorem mv_X11_digest : gMv MX11_digest := ⟨gTbl_in (List.mem_of_getElem? (i := 1394) (by decide +kernel)) (by decide +kernel), gTbl_in (List.mem_of_getElem? (i := 1395) (by decide +kernel)) (by decide +kernel)⟩
def MJ6_bitCount_0f7a4 : gMI := (yJ6_bitCount_0f7a4, cJ6_bitCount_0f7a4, 1, (some .int))
theorem mf_J6_bitCount_0f7a4 : gMf MJ6_bitCount_0f7a4 1 := ⟨gTbl_in (List.mem_of_getElem? (i := 678) (by decide +kernel)) (by decide +kernel), gTbl_in (List.mem_of_getElem? (i := 76) (by decide +kernel)) (by decide +kernel), ⟨by decide +kernel, by decide +kernel, by decide +kernel⟩, by decide +kernel⟩
theorem ms_J6_bitCount_0f7a4 : gMs MJ6_bitCount_0f7a4 := gTbl_in (List.mem_of_getElem? (i := 677) (by decide +kernel)) (by decide +kernel)
def MJ9_abs_0f7a4 : gMI := (yJ9_abs_0f7a4, cJ9_abs_0f7a4, 1, (some .int))
theorem mf_J9_abs_0f7a4 : gMf MJ9_abs_0f7a4 1 := ⟨gTbl_in (List.mem_of_getElem? (i := 727) (by decide +kernel)) (by decide +kernel), gTbl_in (List.mem_of_getElem? (i := 75) (by decide +kernel)) (by decide +kernel), ⟨by decide +kernel, by decide +kernel, by decide +kernel⟩, by decide +kernel⟩
theorem ms_J9_abs_0f7a4 : gMs MJ9_abs_0f7a4 := gTbl_in (List.mem_of_getElem? (i := 726) (by decide +kernel)) (by decide +kernel)
def MJ9_max_7cf53 : gMI := (yJ9_max_7cf53, cJ9_max_7cf53, 2, (some .int))
theorem mf_J9_max_7cf53 : gMf MJ9_max_7cf53 2 := ⟨gTbl_in (List.mem_of_getElem? (i := 657) (by decide +kernel)) (by decide +kernel), gTbl_in (List.mem_of_getElem? (i := 75) (by decide +kernel)) (by decide +kernel), ⟨by decide +kernel, by decide +kernel, by decide +kernel⟩, by decide +kernel⟩
theorem ms_J9_max_7cf53 : gMs MJ9_max_7cf53 := gTbl_in (List.mem_of_getElem? (i := 656) (by decide +kernel)) (by decide +kernel)
def MJ9_min_7cf53 : gMI := (yJ9_min_7cf53, cJ9_min_7cf53, 2, (some .int))
theorem mf_J9_min_7cf53 : gMf MJ9_min_7cf53 2 := ⟨gTbl_in (List.mem_of_getElem? (i := 538) (by decide +kernel)) (by decide +kernel), gTbl_in (List.mem_of_getElem? (i := 75) (by decide +kernel)) (by decide +kernel), ⟨by decide +kernel, by decide +kernel, by decide +kernel⟩, by decide +kernel⟩
theorem ms_J9_min_7cf53 : gMs MJ9_min_7cf53 := gTbl_in (List.mem_of_getElem? (i := 537) (by decide +kernel)) (by decide +kernel)
def MJ0_length_8abf5 : gMI := (yJ0_length_8abf5, cJ0_length_8abf5, 1, (some .int))
theorem mf_J0_length_8abf5 : gMf MJ0_length_8abf5 0 := ⟨gTbl_in (List.mem_of_getElem? (i := 429) (by decide +kernel)) (by decide +kernel), gTbl_in (List.mem_of_getElem? (i := 70) (by decide +kernel)) (by decide +kernel), ⟨by decide +kernel, by decide +kernel, by decide +kernel⟩, by decide +kernel⟩
theorem mv_J0_length_8abf5 : gMv MJ0_length_8abf5 := ⟨gTbl_in (List.mem_of_getElem? (i := 427) (by decide +kernel)) (by decide +kernel), gTbl_in (List.mem_of_getElem? (i := 428) (by decide +kernel)) (by decide +kernel)⟩
def MJ0_charAt_5068e : gMI := (yJ0_charAt_5068e, cJ0_charAt_5068e, 2, (some .char))
theorem mf_J0_charAt_5068e : gMf MJ0_charAt_5068e 1 := ⟨gTbl_in (List.mem_of_getElem? (i := 439) (by decide +kernel)) (by decide +kernel), gTbl_in (List.mem_of_getElem? (i := 70) (by decide +kernel)) (by decide +kernel), ⟨by decide +kernel, by decide +kernel, by decide +kernel⟩, by decide +kernel⟩
theorem mv_J0_charAt_5068e : gMv MJ0_charAt_5068e := ⟨gTbl_in (List.mem_of_getElem? (i := 437) (by decide +kernel)) (by decide +kernel), gTbl_in (List.mem_of_getElem? (i := 438) (by decide +kernel)) (by decide +kernel)⟩
def MJ0_coder_7d493 : gMI := (yJ0_coder_7d493, cJ0_coder_7d493, 1, (some .byte))
theorem mf_J0_coder_7d493 : gMf MJ0_coder_7d493 0 := ⟨gTbl_in (List.mem_of_getElem? (i := 433) (by decide +kernel)) (by decide +kernel), gTbl_in (List.mem_of_getElem? (i := 70) (by decide +kernel)) (by decide +kernel), ⟨by decide +kernel, by decide +kernel, by decide +kernel⟩, by decide +kernel⟩
theorem mv_J0_coder_7d493 : gMv MJ0_coder_7d493 := ⟨gTbl_in (List.mem_of_getElem? (i := 431) (by decide +kernel)) (by decide +kernel), gTbl_in (List.mem_of_getElem? (i := 432) (by decide +kernel)) (by decide +kernel)⟩
def MJ0_isLatin1_aae02 : gMI := (yJ0_isLatin1_aae02, cJ0_isLatin1_aae02, 1, (some .boolean))
theorem mf_J0_isLatin1_aae02 : gMf MJ0_isLatin1_aae02 0 := ⟨gTbl_in (List.mem_of_getElem? (i := 443) (by decide +kernel)) (by decide +kernel), gTbl_in (List.mem_of_getElem? (i := 70) (by decide +kernel)) (by decide +kernel), ⟨by decide +kernel, by decide +kernel, by decide +kernel⟩, by decide +kernel⟩
theorem mv_J0_isLatin1_aae02 : gMv MJ0_isLatin1_aae02 := ⟨gTbl_in (List.mem_of_getElem? (i := 441) (by decide +kernel)) (by decide +kernel), gTbl_in (List.mem_of_getElem? (i := 442) (by decide +kernel)) (by decide +kernel)⟩
def MJ0_checkIndex_df160 : gMI := (yJ0_checkIndex_df160, cJ0_checkIndex_df160, 2, none)
theorem mf_J0_checkIndex_df160 : gMf MJ0_checkIndex_df160 2 := ⟨gTbl_in (List.mem_of_getElem? (i := 449) (by decide +kernel)) (by decide +kernel), gTbl_in (List.mem_of_getElem? (i := 70) (by decide +kernel)) (by decide +kernel), ⟨by decide +kernel, by decide +kernel, by decide +kernel⟩, by decide +kernel⟩
theorem ms_J0_checkIndex_df160 : gMs MJ0_checkIndex_df160 := gTbl_in (List.mem_of_getElem? (i := 448) (by decide +kernel)) (by decide +kernel)
def MJ1_charAt_3b067 : gMI := (yJ1_charAt_3b067, cJ1_charAt_3b067, 2, (some .char))
theorem mf_J1_charAt_3b067 : gMf MJ1_charAt_3b067 2 := ⟨gTbl_in (List.mem_of_getElem? (i := 446) (by decide +kernel)) (by decide +kernel), gTbl_in (List.mem_of_getElem? (i := 71) (by decide +kernel)) (by decide +kernel), ⟨by decide +kernel, by decide +kernel, by decide +kernel⟩, by decide +kernel⟩
theorem ms_J1_charAt_3b067 : gMs MJ1_charAt_3b067 := gTbl_in (List.mem_of_getElem? (i := 445) (by decide +kernel)) (by decide +kernel)
def MJ2_getChar_3b067 : gMI := (yJ2_getChar_3b067, cJ2_getChar_3b067, 2, (some .char))
theorem mf_J2_getChar_3b067 : gMf MJ2_getChar_3b067 2 := ⟨gTbl_in (List.mem_of_getElem? (i := 467) (by decide +kernel)) (by decide +kernel), gTbl_in (List.mem_of_getElem? (i := 73) (by decide +kernel)) (by decide +kernel), ⟨by decide +kernel, by decide +kernel, by decide +kernel⟩, by decide +kernel⟩
theorem ms_J2_getChar_3b067 : gMs MJ2_getChar_3b067 := gTbl_in (List.mem_of_getElem? (i := 466) (by decide +kernel)) (by decide +kernel)
def MJ2_length_9d52b : gMI := (yJ2_length_9d52b, cJ2_length_9d52b, 1, (some .int))
theorem mf_J2_length_9d52b : gMf MJ2_length_9d52b 1 := ⟨gTbl_in (List.mem_of_getElem? (i := 463) (by decide +kernel)) (by decide +kernel), gTbl_in (List.mem_of_getElem? (i := 73) (by decide +kernel)) (by decide +kernel), ⟨by decide +kernel, by decide +kernel, by decide +kernel⟩, by decide +kernel⟩
theorem ms_J2_length_9d52b : gMs MJ2_length_9d52b := gTbl_in (List.mem_of_getElem? (i := 462) (by decide +kernel)) (by decide +kernel)
def MJ2_charAt_3b067 : gMI := (yJ2_charAt_3b067, cJ2_charAt_3b067, 2, (some .char))
theorem mf_J2_charAt_3b067 : gMf MJ2_charAt_3b067 2 := ⟨gTbl_in (List.mem_of_getElem? (i := 457) (by decide +kernel)) (by decide +kernel), gTbl_in (List.mem_of_getElem? (i := 73) (by decide +kernel)) (by decide +kernel), ⟨by decide +kernel, by decide +kernel, by decide +kernel⟩, by decide +kernel⟩
theorem ms_J2_charAt_3b067 : gMs MJ2_charAt_3b067 := gTbl_in (List.mem_of_getElem? (i := 456) (by decide +kernel)) (by decide +kernel)
def MJ2_checkIndex_2214a : gMI := (yJ2_checkIndex_2214a, cJ2_checkIndex_2214a, 2, none)
theorem mf_J2_checkIndex_2214a : gMf MJ2_checkIndex_2214a 2 := ⟨gTbl_in (List.mem_of_getElem? (i := 460) (by decide +kernel)) (by decide +kernel), gTbl_in (List.mem_of_getElem? (i := 73) (by decide +kernel)) (by decide +kernel), ⟨by decide +kernel, by decide +kernel, by decide +kernel⟩, by decide +kernel⟩
theorem ms_J2_checkIndex_2214a : gMs MJ2_checkIndex_2214a := gTbl_in (List.mem_of_getElem? (i := 459) (by decide +kernel)) (by decide +kernel)
def MJ3_checkIndex_8e157 : gMI := (yJ3_checkIndex_8e157, cJ3_checkIndex_8e157, 3, (some .int))
theorem mf_J3_checkIndex_8e157 : gMf MJ3_checkIndex_8e157 3 := ⟨gTbl_in (List.mem_of_getElem? (i := 454) (by decide +kernel)) (by decide +kernel), gTbl_in (List.mem_of_getElem? (i := 72) (by decide +kernel)) (by decide +kernel), ⟨by decide +kernel, by decide +kernel, by decide +kernel⟩, by decide +kernel⟩
theorem ms_J3_checkIndex_8e157 : gMs MJ3_checkIndex_8e157 := gTbl_in (List.mem_of_getElem? (i := 453) (by decide +kernel)) (by decide +kernel)
theorem fl_X0_7 : gFL RX0 7 0 1 := ⟨RX0, TX0, _, rfl, by decide, gTbl_in (List.mem_of_getElem? (i := 232) (by decide +kernel)) (by decide +kernel)⟩
theorem fp_X0_1 : gFP 0 1 .long := ⟨RX0, TX0, _, rfl, rfl, by decide +kernel⟩
theorem ml_X0_13 : Cond.methodLink RX0 13 MX0_commonDivisor.1 ∈ gTbl := gTbl_in (List.mem_of_getElem? (i := 900) (by decide +kernel)) (by decide +kernel)
theorem fl_X0_17 : gFL RX0 17 0 0 := ⟨RX0, TX0, _, rfl, by decide, gTbl_in (List.mem_of_getElem? (i := 230) (by decide +kernel)) (by decide +kernel)⟩
theorem fp_X0_0 : gFP 0 0 .long := ⟨RX0, TX0, _, rfl, rfl, by decide +kernel⟩
theorem fl_X1_9 : gFL RX1 9 1 0 := ⟨RX1, TX1, _, rfl, by decide, gTbl_in (List.mem_of_getElem? (i := 261) (by decide +kernel)) (by decide +kernel)⟩
theorem fl_X1_15 : gFL RX1 15 5 0 := ⟨RX6, TX6, _, rfl, by decide, gTbl_in (List.mem_of_getElem? (i := 154) (by decide +kernel)) (by decide +kernel)⟩
theorem ml_X1_21 : Cond.methodLink RX1 21 MX6_cell.1 ∈ gTbl := gTbl_in (List.mem_of_getElem? (i := 815) (by decide +kernel)) (by decide +kernel)
theorem ml_X1_25 : Cond.methodLink RX1 25 MX3_leanAs.1 ∈ gTbl := gTbl_in (List.mem_of_getElem? (i := 816) (by decide +kernel)) (by decide +kernel)
theorem ml_X1_31 : Cond.methodLink RX1 31 MX3_dampAs.1 ∈ gTbl := gTbl_in (List.mem_of_getElem? (i := 838) (by decide +kernel)) (by decide +kernel)
theorem ml_X1_34 : Cond.methodLink RX1 34 MX1_mostAlike.1 ∈ gTbl := gTbl_in (List.mem_of_getElem? (i := 825) (by decide +kernel)) (by decide +kernel)
theorem ml_X1_38 : Cond.methodLinkNest RX1 38 MX10_hasBit.1 RX10 ∈ lw_tbl := List.mem_of_getElem? (i := 829) (by decide +kernel)
theorem ml_X1_42 : Cond.methodLink RX1 42 MJ9_max_7cf53.1 ∈ gTbl := gTbl_in (List.mem_of_getElem? (i := 830) (by decide +kernel)) (by decide +kernel)
theorem fl_X2_12 : gFL RX2 12 2 0 := ⟨RX2, TX2, _, rfl, by decide, gTbl_in (List.mem_of_getElem? (i := 177) (by decide +kernel)) (by decide +kernel)⟩
theorem fl_X2_21 : gFL RX2 21 2 1 := ⟨RX2, TX2, _, rfl, by decide, gTbl_in (List.mem_of_getElem? (i := 179) (by decide +kernel)) (by decide +kernel)⟩
theorem fl_X2_25 : gFL RX2 25 2 2 := ⟨RX2, TX2, _, rfl, by decide, gTbl_in (List.mem_of_getElem? (i := 181) (by decide +kernel)) (by decide +kernel)⟩
theorem fl_X2_28 : gFL RX2 28 2 3 := ⟨RX2, TX2, _, rfl, by decide, gTbl_in (List.mem_of_getElem? (i := 183) (by decide +kernel)) (by decide +kernel)⟩
theorem fl_X2_34 : gFL RX2 34 2 4 := ⟨RX2, TX2, _, rfl, by decide, gTbl_in (List.mem_of_getElem? (i := 185) (by decide +kernel)) (by decide +kernel)⟩
theorem ml_X2_38 : Cond.methodLink RX2 38 MX4_startAgain.1 ∈ gTbl := gTbl_in (List.mem_of_getElem? (i := 337) (by decide +kernel)) (by decide +kernel)
theorem ml_X2_42 : Cond.methodLink RX2 42 MX6_forgetAll.1 ∈ gTbl := gTbl_in (List.mem_of_getElem? (i := 341) (by decide +kernel)) (by decide +kernel)
theorem ml_X2_46 : Cond.methodLink RX2 46 MX5_forgetAll.1 ∈ gTbl := gTbl_in (List.mem_of_getElem? (i := 345) (by decide +kernel)) (by decide +kernel)
theorem ml_X2_48 : Cond.methodLink RX2 48 MX4_copyFrom.1 ∈ gTbl := gTbl_in (List.mem_of_getElem? (i := 931) (by decide +kernel)) (by decide +kernel)
theorem ml_X2_52 : Cond.methodLink RX2 52 MX6_copyFrom.1 ∈ gTbl := gTbl_in (List.mem_of_getElem? (i := 932) (by decide +kernel)) (by decide +kernel)
theorem ml_X2_55 : Cond.methodLink RX2 55 MX5_copyFrom.1 ∈ gTbl := gTbl_in (List.mem_of_getElem? (i := 937) (by decide +kernel)) (by decide +kernel)
theorem ml_X2_58 : Cond.methodLink RX2 58 MX4_foldedInto.1 ∈ gTbl := gTbl_in (List.mem_of_getElem? (i := 971) (by decide +kernel)) (by decide +kernel)
theorem ml_X2_62 : Cond.methodLink RX2 62 MX6_foldedInto.1 ∈ gTbl := gTbl_in (List.mem_of_getElem? (i := 978) (by decide +kernel)) (by decide +kernel)
theorem fl_X4_9 : gFL RX4 9 3 0 := ⟨RX4, TX4, _, rfl, by decide, gTbl_in (List.mem_of_getElem? (i := 97) (by decide +kernel)) (by decide +kernel)⟩
theorem fp_X4_0 : gFP 3 0 .int := ⟨RX4, TX4, _, rfl, rfl, by decide +kernel⟩
theorem fl_X4_15 : gFL RX4 15 3 2 := ⟨RX4, TX4, _, rfl, by decide, gTbl_in (List.mem_of_getElem? (i := 105) (by decide +kernel)) (by decide +kernel)⟩
theorem fl_X4_19 : gFL RX4 19 3 3 := ⟨RX4, TX4, _, rfl, by decide, gTbl_in (List.mem_of_getElem? (i := 106) (by decide +kernel)) (by decide +kernel)⟩
theorem fl_X4_22 : gFL RX4 22 3 4 := ⟨RX4, TX4, _, rfl, by decide, gTbl_in (List.mem_of_getElem? (i := 107) (by decide +kernel)) (by decide +kernel)⟩
theorem fl_X4_25 : gFL RX4 25 3 6 := ⟨RX4, TX4, _, rfl, by decide, gTbl_in (List.mem_of_getElem? (i := 112) (by decide +kernel)) (by decide +kernel)⟩
theorem fl_X4_28 : gFL RX4 28 3 7 := ⟨RX4, TX4, _, rfl, by decide, gTbl_in (List.mem_of_getElem? (i := 113) (by decide +kernel)) (by decide +kernel)⟩
theorem fl_X4_31 : gFL RX4 31 3 1 := ⟨RX4, TX4, _, rfl, by decide, gTbl_in (List.mem_of_getElem? (i := 101) (by decide +kernel)) (by decide +kernel)⟩
theorem fp_X4_1 : gFP 3 1 .int := ⟨RX4, TX4, _, rfl, rfl, by decide +kernel⟩
theorem fl_X4_34 : gFL RX4 34 3 5 := ⟨RX4, TX4, _, rfl, by decide, gTbl_in (List.mem_of_getElem? (i := 108) (by decide +kernel)) (by decide +kernel)⟩
theorem fp_X4_5 : gFP 3 5 .int := ⟨RX4, TX4, _, rfl, rfl, by decide +kernel⟩
theorem fl_X4_37 : gFL RX4 37 3 8 := ⟨RX4, TX4, _, rfl, by decide, gTbl_in (List.mem_of_getElem? (i := 114) (by decide +kernel)) (by decide +kernel)⟩
theorem fp_X4_8 : gFP 3 8 .int := ⟨RX4, TX4, _, rfl, rfl, by decide +kernel⟩
theorem fl_X4_40 : gFL RX4 40 3 9 := ⟨RX4, TX4, _, rfl, by decide, gTbl_in (List.mem_of_getElem? (i := 118) (by decide +kernel)) (by decide +kernel)⟩
theorem fp_X4_9 : gFP 3 9 .int := ⟨RX4, TX4, _, rfl, rfl, by decide +kernel⟩
theorem fl_X4_43 : gFL RX4 43 3 10 := ⟨RX4, TX4, _, rfl, by decide, gTbl_in (List.mem_of_getElem? (i := 120) (by decide +kernel)) (by decide +kernel)⟩
theorem fp_X4_10 : gFP 3 10 .int := ⟨RX4, TX4, _, rfl, rfl, by decide +kernel⟩
theorem ml_X4_46 : Cond.methodLinkNest RX4 46 MX10_copyInto.1 RX10 ∈ lw_tbl := List.mem_of_getElem? (i := 543) (by decide +kernel)
theorem ml_X4_50 : Cond.methodLinkNest RX4 50 MX10_outside.1 RX10 ∈ lw_tbl := List.mem_of_getElem? (i := 371) (by decide +kernel)
theorem ml_X4_54 : Cond.methodLink RX4 54 MX4_hasAunt.1 ∈ gTbl := gTbl_in (List.mem_of_getElem? (i := 503) (by decide +kernel)) (by decide +kernel)
theorem ml_X4_58 : Cond.methodLinkNest RX4 58 MX10_hasBit.1 RX10 ∈ lw_tbl := List.mem_of_getElem? (i := 530) (by decide +kernel)
theorem ml_X4_62 : Cond.methodLink RX4 62 MX4_hasOne.1 ∈ gTbl := gTbl_in (List.mem_of_getElem? (i := 519) (by decide +kernel)) (by decide +kernel)
theorem ml_X4_65 : Cond.methodLink RX4 65 MX4_isThere.1 ∈ gTbl := gTbl_in (List.mem_of_getElem? (i := 620) (by decide +kernel)) (by decide +kernel)
theorem ml_X4_68 : Cond.methodLink RX4 68 MX3_leanAs.1 ∈ gTbl := gTbl_in (List.mem_of_getElem? (i := 527) (by decide +kernel)) (by decide +kernel)
theorem ml_X4_74 : Cond.methodLink RX4 74 MX3_dampAs.1 ∈ gTbl := gTbl_in (List.mem_of_getElem? (i := 533) (by decide +kernel)) (by decide +kernel)
theorem ml_X4_77 : Cond.methodLink RX4 77 MX4_houseOf.1 ∈ gTbl := gTbl_in (List.mem_of_getElem? (i := 515) (by decide +kernel)) (by decide +kernel)
theorem ml_X4_81 : Cond.methodLink RX4 81 MX4_leaningOf.1 ∈ gTbl := gTbl_in (List.mem_of_getElem? (i := 523) (by decide +kernel)) (by decide +kernel)
theorem ml_X4_85 : Cond.methodLink RX4 85 MX4_reachAt.1 ∈ gTbl := gTbl_in (List.mem_of_getElem? (i := 650) (by decide +kernel)) (by decide +kernel)
theorem ml_X4_88 : Cond.methodLink RX4 88 MX4_leanOf.1 ∈ gTbl := gTbl_in (List.mem_of_getElem? (i := 654) (by decide +kernel)) (by decide +kernel)
theorem ml_X4_91 : Cond.methodLink RX4 91 MJ9_max_7cf53.1 ∈ gTbl := gTbl_in (List.mem_of_getElem? (i := 655) (by decide +kernel)) (by decide +kernel)
theorem ml_X4_96 : Cond.methodLink RX4 96 MX4_soundsAt.1 ∈ gTbl := gTbl_in (List.mem_of_getElem? (i := 646) (by decide +kernel)) (by decide +kernel)
theorem ml_X4_99 : Cond.methodLink RX4 99 MJ9_min_7cf53.1 ∈ gTbl := gTbl_in (List.mem_of_getElem? (i := 536) (by decide +kernel)) (by decide +kernel)
theorem ml_X4_102 : Cond.methodLink RX4 102 MX4_soundAt.1 ∈ gTbl := gTbl_in (List.mem_of_getElem? (i := 511) (by decide +kernel)) (by decide +kernel)
theorem ml_X4_105 : Cond.methodLink RX4 105 MX4_factOfOne.1 ∈ gTbl := gTbl_in (List.mem_of_getElem? (i := 975) (by decide +kernel)) (by decide +kernel)
theorem ml_X4_108 : Cond.methodLinkNest RX4 108 MX10_folded.1 RX10 ∈ lw_tbl := List.mem_of_getElem? (i := 976) (by decide +kernel)
theorem ml_X4_112 : Cond.methodLink RX4 112 MX4_factOfAunt.1 ∈ gTbl := gTbl_in (List.mem_of_getElem? (i := 977) (by decide +kernel)) (by decide +kernel)
theorem fl_X5_11 : gFL RX5 11 4 1 := ⟨RX5, TX5, _, rfl, by decide, gTbl_in (List.mem_of_getElem? (i := 171) (by decide +kernel)) (by decide +kernel)⟩
theorem fl_X5_17 : gFL RX5 17 4 0 := ⟨RX5, TX5, _, rfl, by decide, gTbl_in (List.mem_of_getElem? (i := 169) (by decide +kernel)) (by decide +kernel)⟩
theorem ml_X5_21 : Cond.methodLink RX5 21 MX5_dropOldest.1 ∈ gTbl := gTbl_in (List.mem_of_getElem? (i := 555) (by decide +kernel)) (by decide +kernel)
theorem ml_X5_24 : Cond.methodLink RX5 24 MX4_saveInto.1 ∈ gTbl := gTbl_in (List.mem_of_getElem? (i := 559) (by decide +kernel)) (by decide +kernel)
theorem fp_X5_0 : gFP 4 0 .int := ⟨RX5, TX5, _, rfl, rfl, by decide +kernel⟩
theorem ml_X5_28 : Cond.methodLinkNest RX5 28 MX10_outside.1 RX10 ∈ lw_tbl := List.mem_of_getElem? (i := 599) (by decide +kernel)
theorem ml_X5_32 : Cond.methodLink RX5 32 MX4_restoreFrom.1 ∈ gTbl := gTbl_in (List.mem_of_getElem? (i := 600) (by decide +kernel)) (by decide +kernel)
theorem ml_X5_35 : Cond.methodLinkNest RX5 35 MX10_copyInto.1 RX10 ∈ lw_tbl := List.mem_of_getElem? (i := 941) (by decide +kernel)
theorem fl_X6_9 : gFL RX6 9 5 1 := ⟨RX6, TX6, _, rfl, by decide, gTbl_in (List.mem_of_getElem? (i := 157) (by decide +kernel)) (by decide +kernel)⟩
theorem fl_X6_15 : gFL RX6 15 5 0 := ⟨RX6, TX6, _, rfl, by decide, gTbl_in (List.mem_of_getElem? (i := 153) (by decide +kernel)) (by decide +kernel)⟩
theorem ml_X6_19 : Cond.methodLinkNest RX6 19 MX10_outside.1 RX10 ∈ lw_tbl := List.mem_of_getElem? (i := 750) (by decide +kernel)
theorem fp_X6_0 : gFP 5 0 .int := ⟨RX6, TX6, _, rfl, rfl, by decide +kernel⟩
theorem ml_X6_23 : Cond.methodLinkNest RX6 23 MX10_copyInto.1 RX10 ∈ lw_tbl := List.mem_of_getElem? (i := 936) (by decide +kernel)
theorem ml_X6_27 : Cond.methodLink RX6 27 MX6_cell.1 ∈ gTbl := gTbl_in (List.mem_of_getElem? (i := 982) (by decide +kernel)) (by decide +kernel)
theorem ml_X6_31 : Cond.methodLinkNest RX6 31 MX10_folded.1 RX10 ∈ lw_tbl := List.mem_of_getElem? (i := 983) (by decide +kernel)
theorem fl_X7_9 : gFL RX7 9 6 1 := ⟨RX7, TX7, _, rfl, by decide, gTbl_in (List.mem_of_getElem? (i := 206) (by decide +kernel)) (by decide +kernel)⟩
theorem fl_X7_15 : gFL RX7 15 6 5 := ⟨RX7, TX7, _, rfl, by decide, gTbl_in (List.mem_of_getElem? (i := 210) (by decide +kernel)) (by decide +kernel)⟩
theorem fl_X7_18 : gFL RX7 18 6 0 := ⟨RX7, TX7, _, rfl, by decide, gTbl_in (List.mem_of_getElem? (i := 204) (by decide +kernel)) (by decide +kernel)⟩
theorem ml_X7_22 : Cond.methodLinkNest RX7 22 MX10_outside.1 RX10 ∈ lw_tbl := List.mem_of_getElem? (i := 392) (by decide +kernel)
theorem fp_X7_0 : gFP 6 0 .int := ⟨RX7, TX7, _, rfl, rfl, by decide +kernel⟩
theorem ml_X7_26 : Cond.methodLink RX7 26 MX4_startAgain.1 ∈ gTbl := gTbl_in (List.mem_of_getElem? (i := 405) (by decide +kernel)) (by decide +kernel)
theorem fl_X7_32 : gFL RX7 32 6 4 := ⟨RX7, TX7, _, rfl, by decide, gTbl_in (List.mem_of_getElem? (i := 209) (by decide +kernel)) (by decide +kernel)⟩
theorem fp_X7_4 : gFP 6 4 .int := ⟨RX7, TX7, _, rfl, rfl, by decide +kernel⟩
theorem ml_X7_35 : Cond.methodLink RX7 35 MX7_nextToken.1 ∈ gTbl := gTbl_in (List.mem_of_getElem? (i := 406) (by decide +kernel)) (by decide +kernel)
theorem fl_X7_38 : gFL RX7 38 6 2 := ⟨RX7, TX7, _, rfl, by decide, gTbl_in (List.mem_of_getElem? (i := 207) (by decide +kernel)) (by decide +kernel)⟩
theorem ml_X7_41 : Cond.methodLink RX7 41 MX7_wordHere.1 ∈ gTbl := gTbl_in (List.mem_of_getElem? (i := 417) (by decide +kernel)) (by decide +kernel)
theorem ml_X7_45 : Cond.methodLink RX7 45 MX7_mayStand.1 ∈ gTbl := gTbl_in (List.mem_of_getElem? (i := 478) (by decide +kernel)) (by decide +kernel)
theorem ml_X7_49 : Cond.methodLink RX7 49 MX7_readNumbers.1 ∈ gTbl := gTbl_in (List.mem_of_getElem? (i := 481) (by decide +kernel)) (by decide +kernel)
theorem ml_X7_53 : Cond.methodLink RX7 53 MX7_takeSemicolon.1 ∈ gTbl := gTbl_in (List.mem_of_getElem? (i := 489) (by decide +kernel)) (by decide +kernel)
theorem ml_X7_57 : Cond.methodLink RX7 57 MX7_carryOut.1 ∈ gTbl := gTbl_in (List.mem_of_getElem? (i := 493) (by decide +kernel)) (by decide +kernel)
theorem fl_X7_61 : gFL RX7 61 6 3 := ⟨RX7, TX7, _, rfl, by decide, gTbl_in (List.mem_of_getElem? (i := 208) (by decide +kernel)) (by decide +kernel)⟩
theorem fl_X7_64 : gFL RX7 64 3 1 := ⟨RX4, TX4, _, rfl, by decide, gTbl_in (List.mem_of_getElem? (i := 104) (by decide +kernel)) (by decide +kernel)⟩
theorem fl_X7_67 : gFL RX7 67 3 5 := ⟨RX4, TX4, _, rfl, by decide, gTbl_in (List.mem_of_getElem? (i := 110) (by decide +kernel)) (by decide +kernel)⟩
theorem ml_X7_70 : Cond.methodLink RX7 70 MX7_takeNumber.1 ∈ gTbl := gTbl_in (List.mem_of_getElem? (i := 485) (by decide +kernel)) (by decide +kernel)
theorem fl_X7_73 : gFL RX7 73 3 0 := ⟨RX4, TX4, _, rfl, by decide, gTbl_in (List.mem_of_getElem? (i := 100) (by decide +kernel)) (by decide +kernel)⟩
theorem ml_X7_76 : Cond.methodLink RX7 76 MX4_addOne.1 ∈ gTbl := gTbl_in (List.mem_of_getElem? (i := 497) (by decide +kernel)) (by decide +kernel)
theorem ml_X7_79 : Cond.methodLink RX7 79 MX4_addAunt.1 ∈ gTbl := gTbl_in (List.mem_of_getElem? (i := 498) (by decide +kernel)) (by decide +kernel)
theorem ml_X7_83 : Cond.methodLink RX7 83 MX4_setThere.1 ∈ gTbl := gTbl_in (List.mem_of_getElem? (i := 499) (by decide +kernel)) (by decide +kernel)
theorem ml_X7_87 : Cond.methodLink RX7 87 MX4_passUpTo.1 ∈ gTbl := gTbl_in (List.mem_of_getElem? (i := 507) (by decide +kernel)) (by decide +kernel)
theorem ml_X7_91 : Cond.methodLink RX7 91 MX7_byteAt.1 ∈ gTbl := gTbl_in (List.mem_of_getElem? (i := 410) (by decide +kernel)) (by decide +kernel)
theorem ml_X7_97 : Cond.methodLink RX7 97 MX7_wordIs.1 ∈ gTbl := gTbl_in (List.mem_of_getElem? (i := 422) (by decide +kernel)) (by decide +kernel)
theorem ml_X7_109 : Cond.methodLink RX7 109 MJ0_length_8abf5.1 ∈ gTbl := gTbl_in (List.mem_of_getElem? (i := 426) (by decide +kernel)) (by decide +kernel)
theorem ml_X7_113 : Cond.methodLink RX7 113 MJ0_charAt_5068e.1 ∈ gTbl := gTbl_in (List.mem_of_getElem? (i := 436) (by decide +kernel)) (by decide +kernel)
theorem fp_X7_3 : gFP 6 3 .int := ⟨RX7, TX7, _, rfl, rfl, by decide +kernel⟩
theorem ml_X7_117 : Cond.methodLink RX7 117 MX7_classOf.1 ∈ gTbl := gTbl_in (List.mem_of_getElem? (i := 414) (by decide +kernel)) (by decide +kernel)
theorem fp_X7_2 : gFP 6 2 .int := ⟨RX7, TX7, _, rfl, rfl, by decide +kernel⟩
theorem fl_X8_12 : gFL RX8 12 7 0 := ⟨RX8, TX8, _, rfl, by decide, gTbl_in (List.mem_of_getElem? (i := 247) (by decide +kernel)) (by decide +kernel)⟩
theorem fl_X8_18 : gFL RX8 18 7 1 := ⟨RX8, TX8, _, rfl, by decide, gTbl_in (List.mem_of_getElem? (i := 249) (by decide +kernel)) (by decide +kernel)⟩
theorem ml_X8_22 : Cond.methodLink RX8 22 MX4_copyFrom.1 ∈ gTbl := gTbl_in (List.mem_of_getElem? (i := 666) (by decide +kernel)) (by decide +kernel)
theorem fl_X8_26 : gFL RX8 26 3 9 := ⟨RX4, TX4, _, rfl, by decide, gTbl_in (List.mem_of_getElem? (i := 117) (by decide +kernel)) (by decide +kernel)⟩
theorem ml_X8_30 : Cond.methodLink RX8 30 MX4_passUpTo.1 ∈ gTbl := gTbl_in (List.mem_of_getElem? (i := 667) (by decide +kernel)) (by decide +kernel)
theorem fl_X8_34 : gFL RX8 34 3 10 := ⟨RX4, TX4, _, rfl, by decide, gTbl_in (List.mem_of_getElem? (i := 121) (by decide +kernel)) (by decide +kernel)⟩
theorem fl_X8_37 : gFL RX8 37 3 5 := ⟨RX4, TX4, _, rfl, by decide, gTbl_in (List.mem_of_getElem? (i := 109) (by decide +kernel)) (by decide +kernel)⟩
theorem ml_X8_40 : Cond.methodLink RX8 40 MJ6_bitCount_0f7a4.1 ∈ gTbl := gTbl_in (List.mem_of_getElem? (i := 676) (by decide +kernel)) (by decide +kernel)
theorem fl_X8_46 : gFL RX8 46 3 8 := ⟨RX4, TX4, _, rfl, by decide, gTbl_in (List.mem_of_getElem? (i := 115) (by decide +kernel)) (by decide +kernel)⟩
theorem ml_X8_49 : Cond.methodLink RX8 49 MX4_firstSounding.1 ∈ gTbl := gTbl_in (List.mem_of_getElem? (i := 682) (by decide +kernel)) (by decide +kernel)
theorem ml_X8_52 : Cond.methodLink RX8 52 MX4_setSwing.1 ∈ gTbl := gTbl_in (List.mem_of_getElem? (i := 691) (by decide +kernel)) (by decide +kernel)
theorem ml_X8_55 : Cond.methodLink RX8 55 MX4_soundsAt.1 ∈ gTbl := gTbl_in (List.mem_of_getElem? (i := 692) (by decide +kernel)) (by decide +kernel)
theorem fl_X8_59 : gFL RX8 59 3 0 := ⟨RX4, TX4, _, rfl, by decide, gTbl_in (List.mem_of_getElem? (i := 99) (by decide +kernel)) (by decide +kernel)⟩
theorem ml_X8_62 : Cond.methodLink RX8 62 MX8_fits.1 ∈ gTbl := gTbl_in (List.mem_of_getElem? (i := 763) (by decide +kernel)) (by decide +kernel)
theorem fl_X8_66 : gFL RX8 66 5 0 := ⟨RX6, TX6, _, rfl, by decide, gTbl_in (List.mem_of_getElem? (i := 155) (by decide +kernel)) (by decide +kernel)⟩
theorem ml_X8_71 : Cond.methodLink RX8 71 MX6_cell.1 ∈ gTbl := gTbl_in (List.mem_of_getElem? (i := 767) (by decide +kernel)) (by decide +kernel)
theorem ml_X8_75 : Cond.methodLink RX8 75 MX4_reachAt.1 ∈ gTbl := gTbl_in (List.mem_of_getElem? (i := 786) (by decide +kernel)) (by decide +kernel)
theorem ml_X8_78 : Cond.methodLink RX8 78 MX8_lanesUpTo.1 ∈ gTbl := gTbl_in (List.mem_of_getElem? (i := 787) (by decide +kernel)) (by decide +kernel)
theorem ml_X8_81 : Cond.methodLink RX8 81 MJ9_max_7cf53.1 ∈ gTbl := gTbl_in (List.mem_of_getElem? (i := 791) (by decide +kernel)) (by decide +kernel)
theorem ml_X8_86 : Cond.methodLink RX8 86 MJ9_min_7cf53.1 ∈ gTbl := gTbl_in (List.mem_of_getElem? (i := 790) (by decide +kernel)) (by decide +kernel)
theorem ml_X8_89 : Cond.methodLink RX8 89 MX4_setThere.1 ∈ gTbl := gTbl_in (List.mem_of_getElem? (i := 855) (by decide +kernel)) (by decide +kernel)
theorem ml_X8_93 : Cond.methodLink RX8 93 MX4_soundAt.1 ∈ gTbl := gTbl_in (List.mem_of_getElem? (i := 856) (by decide +kernel)) (by decide +kernel)
theorem ml_X8_96 : Cond.methodLink RX8 96 MX8_rests.1 ∈ gTbl := gTbl_in (List.mem_of_getElem? (i := 861) (by decide +kernel)) (by decide +kernel)
theorem ml_X8_99 : Cond.methodLink RX8 99 MX8_swingerGets.1 ∈ gTbl := gTbl_in (List.mem_of_getElem? (i := 865) (by decide +kernel)) (by decide +kernel)
theorem ml_X8_102 : Cond.methodLink RX8 102 MX8_auntGets.1 ∈ gTbl := gTbl_in (List.mem_of_getElem? (i := 874) (by decide +kernel)) (by decide +kernel)
theorem ml_X8_105 : Cond.methodLink RX8 105 MX8_soundOfPair.1 ∈ gTbl := gTbl_in (List.mem_of_getElem? (i := 869) (by decide +kernel)) (by decide +kernel)
theorem ml_X8_108 : Cond.methodLinkNest RX8 108 MX10_outside.1 RX10 ∈ lw_tbl := List.mem_of_getElem? (i := 873) (by decide +kernel)
theorem ml_X8_112 : Cond.methodLinkNest RX8 112 MX10_power.1 RX10 ∈ lw_tbl := List.mem_of_getElem? (i := 895) (by decide +kernel)
theorem kc_X8_116 : Cond.constantLong RX8 116 1103515245 ∈ gTbl := gTbl_in (List.mem_of_getElem? (i := 912) (by decide +kernel)) (by decide +kernel)
theorem kc_X8_118 : Cond.constantLong RX8 118 12345 ∈ gTbl := gTbl_in (List.mem_of_getElem? (i := 913) (by decide +kernel)) (by decide +kernel)
theorem kc_X8_120 : Cond.constantLong RX8 120 2147483648 ∈ gTbl := gTbl_in (List.mem_of_getElem? (i := 914) (by decide +kernel)) (by decide +kernel)
theorem kc_X8_122 : Cond.constantLong RX8 122 65536 ∈ gTbl := gTbl_in (List.mem_of_getElem? (i := 915) (by decide +kernel)) (by decide +kernel)
theorem kc_X8_124 : Cond.constantLong RX8 124 7 ∈ gTbl := gTbl_in (List.mem_of_getElem? (i := 916) (by decide +kernel)) (by decide +kernel)
theorem kc_X8_126 : Cond.constantLong RX8 126 1048576 ∈ gTbl := gTbl_in (List.mem_of_getElem? (i := 917) (by decide +kernel)) (by decide +kernel)
theorem kc_X8_128 : Cond.constantLong RX8 128 10 ∈ gTbl := gTbl_in (List.mem_of_getElem? (i := 918) (by decide +kernel)) (by decide +kernel)
theorem fl_X9_9 : gFL RX9 9 8 1 := ⟨RX9, TX9, _, rfl, by decide, gTbl_in (List.mem_of_getElem? (i := 273) (by decide +kernel)) (by decide +kernel)⟩
theorem fl_X9_15 : gFL RX9 15 8 2 := ⟨RX9, TX9, _, rfl, by decide, gTbl_in (List.mem_of_getElem? (i := 274) (by decide +kernel)) (by decide +kernel)⟩
theorem ml_X9_18 : Cond.methodLinkNest RX9 18 MX10_outside.1 RX10 ∈ lw_tbl := List.mem_of_getElem? (i := 737) (by decide +kernel)
theorem ml_X9_22 : Cond.methodLink RX9 22 MX9_suitorsOf.1 ∈ gTbl := gTbl_in (List.mem_of_getElem? (i := 717) (by decide +kernel)) (by decide +kernel)
theorem ml_X9_26 : Cond.methodLink RX9 26 MX9_mostPairs.1 ∈ gTbl := gTbl_in (List.mem_of_getElem? (i := 728) (by decide +kernel)) (by decide +kernel)
theorem fl_X9_30 : gFL RX9 30 8 0 := ⟨RX9, TX9, _, rfl, by decide, gTbl_in (List.mem_of_getElem? (i := 271) (by decide +kernel)) (by decide +kernel)⟩
theorem fp_X9_0 : gFP 8 0 .int := ⟨RX9, TX9, _, rfl, rfl, by decide +kernel⟩
theorem ml_X9_34 : Cond.methodLink RX9 34 MX9_firstChoice.1 ∈ gTbl := gTbl_in (List.mem_of_getElem? (i := 733) (by decide +kernel)) (by decide +kernel)
theorem ml_X9_38 : Cond.methodLink RX9 38 MX4_houseOf.1 ∈ gTbl := gTbl_in (List.mem_of_getElem? (i := 720) (by decide +kernel)) (by decide +kernel)
theorem fl_X9_44 : gFL RX9 44 3 1 := ⟨RX4, TX4, _, rfl, by decide, gTbl_in (List.mem_of_getElem? (i := 103) (by decide +kernel)) (by decide +kernel)⟩
theorem ml_X9_47 : Cond.methodLink RX9 47 MX9_leanAlike.1 ∈ gTbl := gTbl_in (List.mem_of_getElem? (i := 721) (by decide +kernel)) (by decide +kernel)
theorem ml_X9_51 : Cond.methodLink RX9 51 MX4_leanOf.1 ∈ gTbl := gTbl_in (List.mem_of_getElem? (i := 724) (by decide +kernel)) (by decide +kernel)
theorem ml_X9_55 : Cond.methodLink RX9 55 MJ9_abs_0f7a4.1 ∈ gTbl := gTbl_in (List.mem_of_getElem? (i := 725) (by decide +kernel)) (by decide +kernel)
theorem ml_X9_60 : Cond.methodLinkNest RX9 60 MX10_hasBit.1 RX10 ∈ lw_tbl := List.mem_of_getElem? (i := 731) (by decide +kernel)
theorem ml_X9_64 : Cond.methodLink RX9 64 MJ9_max_7cf53.1 ∈ gTbl := gTbl_in (List.mem_of_getElem? (i := 732) (by decide +kernel)) (by decide +kernel)
theorem fl_X10_12 : gFL RX10 12 9 0 := ⟨RX10, TX10, _, rfl, by decide, gTbl_in (List.mem_of_getElem? (i := 282) (by decide +kernel)) (by decide +kernel)⟩
theorem fl_X10_16 : gFL RX10 16 9 1 := ⟨RX10, TX10, _, rfl, by decide, gTbl_in (List.mem_of_getElem? (i := 283) (by decide +kernel)) (by decide +kernel)⟩
theorem fl_X10_19 : gFL RX10 19 9 2 := ⟨RX10, TX10, _, rfl, by decide, gTbl_in (List.mem_of_getElem? (i := 284) (by decide +kernel)) (by decide +kernel)⟩
theorem fl_X10_25 : gFL RX10 25 9 5 := ⟨RX10, TX10, _, rfl, by decide, gTbl_in (List.mem_of_getElem? (i := 287) (by decide +kernel)) (by decide +kernel)⟩
theorem fl_X10_32 : gFL RX10 32 9 6 := ⟨RX10, TX10, _, rfl, by decide, gTbl_in (List.mem_of_getElem? (i := 288) (by decide +kernel)) (by decide +kernel)⟩
theorem fl_X10_39 : gFL RX10 39 9 7 := ⟨RX10, TX10, _, rfl, by decide, gTbl_in (List.mem_of_getElem? (i := 289) (by decide +kernel)) (by decide +kernel)⟩
theorem fl_X10_46 : gFL RX10 46 9 8 := ⟨RX10, TX10, _, rfl, by decide, gTbl_in (List.mem_of_getElem? (i := 290) (by decide +kernel)) (by decide +kernel)⟩
theorem fl_X10_53 : gFL RX10 53 9 9 := ⟨RX10, TX10, _, rfl, by decide, gTbl_in (List.mem_of_getElem? (i := 291) (by decide +kernel)) (by decide +kernel)⟩
theorem ml_X10_57 : Cond.methodLink RX10 57 MX10_outside.1 ∈ gTbl := gTbl_in (List.mem_of_getElem? (i := 326) (by decide +kernel)) (by decide +kernel)
theorem ml_X10_61 : Cond.methodLink RX10 61 MX10_refuseBad.1 ∈ gTbl := gTbl_in (List.mem_of_getElem? (i := 329) (by decide +kernel)) (by decide +kernel)
theorem fl_X10_65 : gFL RX10 65 2 0 := ⟨RX2, TX2, _, rfl, by decide, gTbl_in (List.mem_of_getElem? (i := 178) (by decide +kernel)) (by decide +kernel)⟩
theorem fl_X10_69 : gFL RX10 69 3 1 := ⟨RX4, TX4, _, rfl, by decide, gTbl_in (List.mem_of_getElem? (i := 102) (by decide +kernel)) (by decide +kernel)⟩
theorem ml_X10_75 : Cond.methodLink RX10 75 MX2_startAgain.1 ∈ gTbl := gTbl_in (List.mem_of_getElem? (i := 333) (by decide +kernel)) (by decide +kernel)
theorem fl_X10_79 : gFL RX10 79 3 0 := ⟨RX4, TX4, _, rfl, by decide, gTbl_in (List.mem_of_getElem? (i := 98) (by decide +kernel)) (by decide +kernel)⟩
theorem fl_X10_82 : gFL RX10 82 2 4 := ⟨RX2, TX2, _, rfl, by decide, gTbl_in (List.mem_of_getElem? (i := 186) (by decide +kernel)) (by decide +kernel)⟩
theorem ml_X10_86 : Cond.methodLink RX10 86 MX5_forgetAll.1 ∈ gTbl := gTbl_in (List.mem_of_getElem? (i := 353) (by decide +kernel)) (by decide +kernel)
theorem ml_X10_91 : Cond.methodLink RX10 91 MX10_notKind.1 ∈ gTbl := gTbl_in (List.mem_of_getElem? (i := 358) (by decide +kernel)) (by decide +kernel)
theorem ml_X10_95 : Cond.methodLink RX10 95 MX10_notHouse.1 ∈ gTbl := gTbl_in (List.mem_of_getElem? (i := 361) (by decide +kernel)) (by decide +kernel)
theorem ml_X10_98 : Cond.methodLink RX10 98 MX10_notSwing.1 ∈ gTbl := gTbl_in (List.mem_of_getElem? (i := 364) (by decide +kernel)) (by decide +kernel)
theorem ml_X10_101 : Cond.methodLink RX10 101 MX4_addOne.1 ∈ gTbl := gTbl_in (List.mem_of_getElem? (i := 367) (by decide +kernel)) (by decide +kernel)
theorem ml_X10_104 : Cond.methodLink RX10 104 MX10_refuseFull.1 ∈ gTbl := gTbl_in (List.mem_of_getElem? (i := 372) (by decide +kernel)) (by decide +kernel)
theorem ml_X10_108 : Cond.methodLink RX10 108 MX4_addAunt.1 ∈ gTbl := gTbl_in (List.mem_of_getElem? (i := 380) (by decide +kernel)) (by decide +kernel)
theorem fl_X10_112 : gFL RX10 112 3 5 := ⟨RX4, TX4, _, rfl, by decide, gTbl_in (List.mem_of_getElem? (i := 111) (by decide +kernel)) (by decide +kernel)⟩
theorem ml_X10_115 : Cond.methodLink RX10 115 MX7_append.1 ∈ gTbl := gTbl_in (List.mem_of_getElem? (i := 388) (by decide +kernel)) (by decide +kernel)
theorem fl_X10_118 : gFL RX10 118 6 0 := ⟨RX7, TX7, _, rfl, by decide, gTbl_in (List.mem_of_getElem? (i := 205) (by decide +kernel)) (by decide +kernel)⟩
theorem fl_X10_121 : gFL RX10 121 7 0 := ⟨RX8, TX8, _, rfl, by decide, gTbl_in (List.mem_of_getElem? (i := 248) (by decide +kernel)) (by decide +kernel)⟩
theorem ml_X10_122 : Cond.methodLink RX10 122 MX7_readInto.1 ∈ gTbl := gTbl_in (List.mem_of_getElem? (i := 401) (by decide +kernel)) (by decide +kernel)
theorem ml_X10_126 : Cond.methodLink RX10 126 MX4_copyFrom.1 ∈ gTbl := gTbl_in (List.mem_of_getElem? (i := 539) (by decide +kernel)) (by decide +kernel)
theorem ml_X10_130 : Cond.methodLink RX10 130 MX5_keep.1 ∈ gTbl := gTbl_in (List.mem_of_getElem? (i := 551) (by decide +kernel)) (by decide +kernel)
theorem ml_X10_133 : Cond.methodLink RX10 133 MX4_passUpTo.1 ∈ gTbl := gTbl_in (List.mem_of_getElem? (i := 563) (by decide +kernel)) (by decide +kernel)
theorem fl_X10_137 : gFL RX10 137 3 10 := ⟨RX4, TX4, _, rfl, by decide, gTbl_in (List.mem_of_getElem? (i := 122) (by decide +kernel)) (by decide +kernel)⟩
theorem ml_X10_140 : Cond.methodLink RX10 140 MX4_hasOne.1 ∈ gTbl := gTbl_in (List.mem_of_getElem? (i := 568) (by decide +kernel)) (by decide +kernel)
theorem ml_X10_143 : Cond.methodLink RX10 143 MX4_swingOf.1 ∈ gTbl := gTbl_in (List.mem_of_getElem? (i := 569) (by decide +kernel)) (by decide +kernel)
theorem ml_X10_146 : Cond.methodLink RX10 146 MX10_refuseNo.1 ∈ gTbl := gTbl_in (List.mem_of_getElem? (i := 573) (by decide +kernel)) (by decide +kernel)
theorem ml_X10_149 : Cond.methodLink RX10 149 MX4_setSwing.1 ∈ gTbl := gTbl_in (List.mem_of_getElem? (i := 577) (by decide +kernel)) (by decide +kernel)
theorem ml_X10_152 : Cond.methodLink RX10 152 MX4_hasAunt.1 ∈ gTbl := gTbl_in (List.mem_of_getElem? (i := 585) (by decide +kernel)) (by decide +kernel)
theorem ml_X10_155 : Cond.methodLink RX10 155 MX4_isThere.1 ∈ gTbl := gTbl_in (List.mem_of_getElem? (i := 586) (by decide +kernel)) (by decide +kernel)
theorem ml_X10_158 : Cond.methodLink RX10 158 MX4_setThere.1 ∈ gTbl := gTbl_in (List.mem_of_getElem? (i := 590) (by decide +kernel)) (by decide +kernel)
theorem ml_X10_162 : Cond.methodLink RX10 162 MX5_takeBack.1 ∈ gTbl := gTbl_in (List.mem_of_getElem? (i := 595) (by decide +kernel)) (by decide +kernel)
theorem fl_X10_166 : gFL RX10 166 3 9 := ⟨RX4, TX4, _, rfl, by decide, gTbl_in (List.mem_of_getElem? (i := 119) (by decide +kernel)) (by decide +kernel)⟩
theorem ml_X10_169 : Cond.methodLink RX10 169 MX4_factOfOne.1 ∈ gTbl := gTbl_in (List.mem_of_getElem? (i := 608) (by decide +kernel)) (by decide +kernel)
theorem ml_X10_173 : Cond.methodLink RX10 173 MX4_factOfAunt.1 ∈ gTbl := gTbl_in (List.mem_of_getElem? (i := 616) (by decide +kernel)) (by decide +kernel)
theorem ml_X10_176 : Cond.methodLink RX10 176 MX10_notAsked.1 ∈ gTbl := gTbl_in (List.mem_of_getElem? (i := 625) (by decide +kernel)) (by decide +kernel)
theorem ml_X10_179 : Cond.methodLink RX10 179 MX4_leanOf.1 ∈ gTbl := gTbl_in (List.mem_of_getElem? (i := 628) (by decide +kernel)) (by decide +kernel)
theorem ml_X10_182 : Cond.methodLink RX10 182 MX4_leaningOf.1 ∈ gTbl := gTbl_in (List.mem_of_getElem? (i := 632) (by decide +kernel)) (by decide +kernel)
theorem ml_X10_185 : Cond.methodLink RX10 185 MX4_soundAt.1 ∈ gTbl := gTbl_in (List.mem_of_getElem? (i := 637) (by decide +kernel)) (by decide +kernel)
theorem ml_X10_188 : Cond.methodLink RX10 188 MX4_firstSounding.1 ∈ gTbl := gTbl_in (List.mem_of_getElem? (i := 642) (by decide +kernel)) (by decide +kernel)
theorem ml_X10_191 : Cond.methodLink RX10 191 MX8_noiseBehind.1 ∈ gTbl := gTbl_in (List.mem_of_getElem? (i := 662) (by decide +kernel)) (by decide +kernel)
theorem ml_X10_195 : Cond.methodLink RX10 195 MX8_fewestAunts.1 ∈ gTbl := gTbl_in (List.mem_of_getElem? (i := 672) (by decide +kernel)) (by decide +kernel)
theorem ml_X10_198 : Cond.methodLink RX10 198 MX8_leastPush.1 ∈ gTbl := gTbl_in (List.mem_of_getElem? (i := 687) (by decide +kernel)) (by decide +kernel)
theorem ml_X10_202 : Cond.methodLink RX10 202 MX4_widestSounding.1 ∈ gTbl := gTbl_in (List.mem_of_getElem? (i := 697) (by decide +kernel)) (by decide +kernel)
theorem ml_X10_205 : Cond.methodLink RX10 205 MX4_neededAt.1 ∈ gTbl := gTbl_in (List.mem_of_getElem? (i := 705) (by decide +kernel)) (by decide +kernel)
theorem ml_X10_208 : Cond.methodLink RX10 208 MX9_arrange.1 ∈ gTbl := gTbl_in (List.mem_of_getElem? (i := 713) (by decide +kernel)) (by decide +kernel)
theorem fl_X10_211 : gFL RX10 211 8 0 := ⟨RX9, TX9, _, rfl, by decide, gTbl_in (List.mem_of_getElem? (i := 272) (by decide +kernel)) (by decide +kernel)⟩
theorem ml_X10_214 : Cond.methodLink RX10 214 MX9_partnerOf.1 ∈ gTbl := gTbl_in (List.mem_of_getElem? (i := 738) (by decide +kernel)) (by decide +kernel)
theorem fl_X10_217 : gFL RX10 217 2 1 := ⟨RX2, TX2, _, rfl, by decide, gTbl_in (List.mem_of_getElem? (i := 180) (by decide +kernel)) (by decide +kernel)⟩
theorem ml_X10_221 : Cond.methodLink RX10 221 MX6_add.1 ∈ gTbl := gTbl_in (List.mem_of_getElem? (i := 746) (by decide +kernel)) (by decide +kernel)
theorem ml_X10_227 : Cond.methodLink RX10 227 MX10_added.1 ∈ gTbl := gTbl_in (List.mem_of_getElem? (i := 751) (by decide +kernel)) (by decide +kernel)
theorem ml_X10_231 : Cond.methodLink RX10 231 MX8_lanesThatFit.1 ∈ gTbl := gTbl_in (List.mem_of_getElem? (i := 759) (by decide +kernel)) (by decide +kernel)
theorem ml_X10_235 : Cond.methodLink RX10 235 MX8_swingsThatFit.1 ∈ gTbl := gTbl_in (List.mem_of_getElem? (i := 775) (by decide +kernel)) (by decide +kernel)
theorem ml_X10_239 : Cond.methodLink RX10 239 MX8_bestCount.1 ∈ gTbl := gTbl_in (List.mem_of_getElem? (i := 783) (by decide +kernel)) (by decide +kernel)
theorem ml_X10_242 : Cond.methodLink RX10 242 MX10_notLean.1 ∈ gTbl := gTbl_in (List.mem_of_getElem? (i := 796) (by decide +kernel)) (by decide +kernel)
theorem fl_X10_245 : gFL RX10 245 2 2 := ⟨RX2, TX2, _, rfl, by decide, gTbl_in (List.mem_of_getElem? (i := 182) (by decide +kernel)) (by decide +kernel)⟩
theorem fl_X10_248 : gFL RX10 248 2 3 := ⟨RX2, TX2, _, rfl, by decide, gTbl_in (List.mem_of_getElem? (i := 184) (by decide +kernel)) (by decide +kernel)⟩
theorem ml_X10_251 : Cond.methodLink RX10 251 MX6_forgetAll.1 ∈ gTbl := gTbl_in (List.mem_of_getElem? (i := 807) (by decide +kernel)) (by decide +kernel)
theorem ml_X10_253 : Cond.methodLink RX10 253 MX1_kindsOfOne.1 ∈ gTbl := gTbl_in (List.mem_of_getElem? (i := 812) (by decide +kernel)) (by decide +kernel)
theorem ml_X10_257 : Cond.methodLink RX10 257 MX1_bestLook.1 ∈ gTbl := gTbl_in (List.mem_of_getElem? (i := 821) (by decide +kernel)) (by decide +kernel)
theorem ml_X10_260 : Cond.methodLink RX10 260 MX1_kindsOfAunt.1 ∈ gTbl := gTbl_in (List.mem_of_getElem? (i := 835) (by decide +kernel)) (by decide +kernel)
theorem ml_X10_263 : Cond.methodLink RX10 263 MX1_bestAsk.1 ∈ gTbl := gTbl_in (List.mem_of_getElem? (i := 843) (by decide +kernel)) (by decide +kernel)
theorem ml_X10_266 : Cond.methodLink RX10 266 MX8_play.1 ∈ gTbl := gTbl_in (List.mem_of_getElem? (i := 851) (by decide +kernel)) (by decide +kernel)
theorem ml_X10_270 : Cond.methodLink RX10 270 MX8_restingPairs.1 ∈ gTbl := gTbl_in (List.mem_of_getElem? (i := 857) (by decide +kernel)) (by decide +kernel)
theorem ml_X10_273 : Cond.methodLink RX10 273 MX8_restingPair.1 ∈ gTbl := gTbl_in (List.mem_of_getElem? (i := 878) (by decide +kernel)) (by decide +kernel)
theorem kc_X10_276 : Cond.constantLong RX10 276 10 ∈ gTbl := gTbl_in (List.mem_of_getElem? (i := 886) (by decide +kernel)) (by decide +kernel)
theorem fl_X10_278 : gFL RX10 278 3 8 := ⟨RX4, TX4, _, rfl, by decide, gTbl_in (List.mem_of_getElem? (i := 116) (by decide +kernel)) (by decide +kernel)⟩
theorem ml_X10_281 : Cond.methodLink RX10 281 MJ6_bitCount_0f7a4.1 ∈ gTbl := gTbl_in (List.mem_of_getElem? (i := 887) (by decide +kernel)) (by decide +kernel)
theorem ml_X10_286 : Cond.methodLink RX10 286 MX10_power.1 ∈ gTbl := gTbl_in (List.mem_of_getElem? (i := 888) (by decide +kernel)) (by decide +kernel)
theorem ml_X10_290 : Cond.methodLink RX10 290 MX8_soundingShare.1 ∈ gTbl := gTbl_in (List.mem_of_getElem? (i := 891) (by decide +kernel)) (by decide +kernel)
theorem ml_X10_294 : Cond.methodLink RX10 294 MX0_become.1 ∈ gTbl := gTbl_in (List.mem_of_getElem? (i := 896) (by decide +kernel)) (by decide +kernel)
theorem kc_X10_298 : Cond.constant RX10 298 999999 ∈ gTbl := gTbl_in (List.mem_of_getElem? (i := 907) (by decide +kernel)) (by decide +kernel)
theorem ml_X10_299 : Cond.methodLink RX10 299 MX8_soundOfReign.1 ∈ gTbl := gTbl_in (List.mem_of_getElem? (i := 908) (by decide +kernel)) (by decide +kernel)
theorem fl_X10_302 : gFL RX10 302 0 0 := ⟨RX0, TX0, _, rfl, by decide, gTbl_in (List.mem_of_getElem? (i := 231) (by decide +kernel)) (by decide +kernel)⟩
theorem fl_X10_306 : gFL RX10 306 0 1 := ⟨RX0, TX0, _, rfl, by decide, gTbl_in (List.mem_of_getElem? (i := 233) (by decide +kernel)) (by decide +kernel)⟩
theorem ml_X10_309 : Cond.methodLink RX10 309 MX2_copyFrom.1 ∈ gTbl := gTbl_in (List.mem_of_getElem? (i := 927) (by decide +kernel)) (by decide +kernel)
theorem fl_X10_312 : gFL RX10 312 9 3 := ⟨RX10, TX10, _, rfl, by decide, gTbl_in (List.mem_of_getElem? (i := 285) (by decide +kernel)) (by decide +kernel)⟩
theorem fp_X10_3 : gFP 9 3 .boolean := ⟨RX10, TX10, _, rfl, rfl, by decide +kernel⟩
theorem fl_X10_316 : gFL RX10 316 9 4 := ⟨RX10, TX10, _, rfl, by decide, gTbl_in (List.mem_of_getElem? (i := 286) (by decide +kernel)) (by decide +kernel)⟩
theorem fp_X10_4 : gFP 9 4 .boolean := ⟨RX10, TX10, _, rfl, rfl, by decide +kernel⟩
theorem fl_X10_319 : gFL RX10 319 9 10 := ⟨RX10, TX10, _, rfl, by decide, gTbl_in (List.mem_of_getElem? (i := 292) (by decide +kernel)) (by decide +kernel)⟩
theorem fl_X10_322 : gFL RX10 322 9 11 := ⟨RX10, TX10, _, rfl, by decide, gTbl_in (List.mem_of_getElem? (i := 293) (by decide +kernel)) (by decide +kernel)⟩
theorem fl_X10_325 : gFL RX10 325 9 12 := ⟨RX10, TX10, _, rfl, by decide, gTbl_in (List.mem_of_getElem? (i := 294) (by decide +kernel)) (by decide +kernel)⟩
theorem ml_X10_328 : Cond.methodLink RX10 328 MX10_numberOf.1 ∈ gTbl := gTbl_in (List.mem_of_getElem? (i := 954) (by decide +kernel)) (by decide +kernel)
theorem kc_X10_331 : Cond.constantLong RX10 331 1559 ∈ gTbl := gTbl_in (List.mem_of_getElem? (i := 962) (by decide +kernel)) (by decide +kernel)
theorem ml_X10_333 : Cond.methodLink RX10 333 MX10_folded.1 ∈ gTbl := gTbl_in (List.mem_of_getElem? (i := 963) (by decide +kernel)) (by decide +kernel)
theorem ml_X10_337 : Cond.methodLink RX10 337 MX2_foldedInto.1 ∈ gTbl := gTbl_in (List.mem_of_getElem? (i := 967) (by decide +kernel)) (by decide +kernel)
theorem fl_X10_341 : gFL RX10 341 5 0 := ⟨RX6, TX6, _, rfl, by decide, gTbl_in (List.mem_of_getElem? (i := 156) (by decide +kernel)) (by decide +kernel)⟩
theorem fl_X10_344 : gFL RX10 344 4 0 := ⟨RX5, TX5, _, rfl, by decide, gTbl_in (List.mem_of_getElem? (i := 170) (by decide +kernel)) (by decide +kernel)⟩
theorem fp_X10_10 : gFP 9 10 .int := ⟨RX10, TX10, _, rfl, rfl, by decide +kernel⟩
theorem fp_X10_11 : gFP 9 11 .int := ⟨RX10, TX10, _, rfl, rfl, by decide +kernel⟩
theorem fp_X10_12 : gFP 9 12 .int := ⟨RX10, TX10, _, rfl, rfl, by decide +kernel⟩
theorem kc_X10_345 : Cond.constantLong RX10 345 31 ∈ gTbl := gTbl_in (List.mem_of_getElem? (i := 966) (by decide +kernel)) (by decide +kernel)
theorem fl_X11_7 : gFL RX11 7 10 0 := ⟨RX11, TX11, _, rfl, by decide, gTbl_in (List.mem_of_getElem? (i := 990) (by decide +kernel)) (by decide +kernel)⟩
theorem fl_X11_13 : gFL RX11 13 10 1 := ⟨RX11, TX11, _, rfl, by decide, gTbl_in (List.mem_of_getElem? (i := 991) (by decide +kernel)) (by decide +kernel)⟩
theorem fl_X11_17 : gFL RX11 17 10 2 := ⟨RX11, TX11, _, rfl, by decide, gTbl_in (List.mem_of_getElem? (i := 992) (by decide +kernel)) (by decide +kernel)⟩
theorem fl_X11_20 : gFL RX11 20 10 4 := ⟨RX11, TX11, _, rfl, by decide, gTbl_in (List.mem_of_getElem? (i := 994) (by decide +kernel)) (by decide +kernel)⟩
theorem fp_X11_4 : gFP 10 4 .long := ⟨RX11, TX11, _, rfl, rfl, by decide +kernel⟩
theorem fl_X11_24 : gFL RX11 24 10 5 := ⟨RX11, TX11, _, rfl, by decide, gTbl_in (List.mem_of_getElem? (i := 995) (by decide +kernel)) (by decide +kernel)⟩
theorem fl_X11_27 : gFL RX11 27 10 7 := ⟨RX11, TX11, _, rfl, by decide, gTbl_in (List.mem_of_getElem? (i := 997) (by decide +kernel)) (by decide +kernel)⟩
theorem fl_X11_30 : gFL RX11 30 10 13 := ⟨RX11, TX11, _, rfl, by decide, gTbl_in (List.mem_of_getElem? (i := 1003) (by decide +kernel)) (by decide +kernel)⟩
theorem fl_X11_33 : gFL RX11 33 10 14 := ⟨RX11, TX11, _, rfl, by decide, gTbl_in (List.mem_of_getElem? (i := 1004) (by decide +kernel)) (by decide +kernel)⟩
theorem fl_X11_36 : gFL RX11 36 10 15 := ⟨RX11, TX11, _, rfl, by decide, gTbl_in (List.mem_of_getElem? (i := 1005) (by decide +kernel)) (by decide +kernel)⟩
theorem fl_X11_39 : gFL RX11 39 10 18 := ⟨RX11, TX11, _, rfl, by decide, gTbl_in (List.mem_of_getElem? (i := 1008) (by decide +kernel)) (by decide +kernel)⟩
theorem fl_X11_42 : gFL RX11 42 10 19 := ⟨RX11, TX11, _, rfl, by decide, gTbl_in (List.mem_of_getElem? (i := 1009) (by decide +kernel)) (by decide +kernel)⟩
theorem fl_X11_45 : gFL RX11 45 10 20 := ⟨RX11, TX11, _, rfl, by decide, gTbl_in (List.mem_of_getElem? (i := 1010) (by decide +kernel)) (by decide +kernel)⟩
theorem fl_X11_48 : gFL RX11 48 10 21 := ⟨RX11, TX11, _, rfl, by decide, gTbl_in (List.mem_of_getElem? (i := 1011) (by decide +kernel)) (by decide +kernel)⟩
theorem ml_X11_51 : Cond.methodLink RX11 51 MX11_in.1 ∈ gTbl := gTbl_in (List.mem_of_getElem? (i := 1062) (by decide +kernel)) (by decide +kernel)
theorem ml_X11_55 : Cond.methodLink RX11 55 MX11_refuse.1 ∈ gTbl := gTbl_in (List.mem_of_getElem? (i := 1065) (by decide +kernel)) (by decide +kernel)
theorem ml_X11_59 : Cond.methodLink RX11 59 MX11_layHouses.1 ∈ gTbl := gTbl_in (List.mem_of_getElem? (i := 1069) (by decide +kernel)) (by decide +kernel)
theorem ml_X11_63 : Cond.methodLink RX11 63 MX11_addOne.1 ∈ gTbl := gTbl_in (List.mem_of_getElem? (i := 1081) (by decide +kernel)) (by decide +kernel)
theorem ml_X11_67 : Cond.methodLink RX11 67 MX11_addAunt.1 ∈ gTbl := gTbl_in (List.mem_of_getElem? (i := 1089) (by decide +kernel)) (by decide +kernel)
theorem fl_X11_71 : gFL RX11 71 10 6 := ⟨RX11, TX11, _, rfl, by decide, gTbl_in (List.mem_of_getElem? (i := 996) (by decide +kernel)) (by decide +kernel)⟩
theorem fp_X11_6 : gFP 10 6 .int := ⟨RX11, TX11, _, rfl, rfl, by decide +kernel⟩
theorem fl_X11_75 : gFL RX11 75 10 9 := ⟨RX11, TX11, _, rfl, by decide, gTbl_in (List.mem_of_getElem? (i := 999) (by decide +kernel)) (by decide +kernel)⟩
theorem fl_X11_78 : gFL RX11 78 10 8 := ⟨RX11, TX11, _, rfl, by decide, gTbl_in (List.mem_of_getElem? (i := 998) (by decide +kernel)) (by decide +kernel)⟩
theorem fp_X11_8 : gFP 10 8 .int := ⟨RX11, TX11, _, rfl, rfl, by decide +kernel⟩
theorem fp_X11_9 : gFP 10 9 .int := ⟨RX11, TX11, _, rfl, rfl, by decide +kernel⟩
theorem ml_X11_81 : Cond.methodLink RX11 81 MX11_isLetter.1 ∈ gTbl := gTbl_in (List.mem_of_getElem? (i := 1113) (by decide +kernel)) (by decide +kernel)
theorem ml_X11_85 : Cond.methodLink RX11 85 MX11_isFigure.1 ∈ gTbl := gTbl_in (List.mem_of_getElem? (i := 1117) (by decide +kernel)) (by decide +kernel)
theorem ml_X11_88 : Cond.methodLink RX11 88 MX11_isWord.1 ∈ gTbl := gTbl_in (List.mem_of_getElem? (i := 1125) (by decide +kernel)) (by decide +kernel)
theorem ml_X11_91 : Cond.methodLink RX11 91 MX11_next.1 ∈ gTbl := gTbl_in (List.mem_of_getElem? (i := 1109) (by decide +kernel)) (by decide +kernel)
theorem ml_X11_94 : Cond.methodLink RX11 94 MX11_number.1 ∈ gTbl := gTbl_in (List.mem_of_getElem? (i := 1137) (by decide +kernel)) (by decide +kernel)
theorem fl_X11_98 : gFL RX11 98 10 12 := ⟨RX11, TX11, _, rfl, by decide, gTbl_in (List.mem_of_getElem? (i := 1002) (by decide +kernel)) (by decide +kernel)⟩
theorem fl_X11_102 : gFL RX11 102 10 10 := ⟨RX11, TX11, _, rfl, by decide, gTbl_in (List.mem_of_getElem? (i := 1000) (by decide +kernel)) (by decide +kernel)⟩
theorem fp_X11_10 : gFP 10 10 .int := ⟨RX11, TX11, _, rfl, rfl, by decide +kernel⟩
theorem fl_X11_105 : gFL RX11 105 10 11 := ⟨RX11, TX11, _, rfl, by decide, gTbl_in (List.mem_of_getElem? (i := 1001) (by decide +kernel)) (by decide +kernel)⟩
theorem fp_X11_11 : gFP 10 11 .int := ⟨RX11, TX11, _, rfl, rfl, by decide +kernel⟩
theorem ml_X11_108 : Cond.methodLink RX11 108 MX11_readsLane.1 ∈ gTbl := gTbl_in (List.mem_of_getElem? (i := 1133) (by decide +kernel)) (by decide +kernel)
theorem ml_X11_112 : Cond.methodLink RX11 112 MX11_readsOne.1 ∈ gTbl := gTbl_in (List.mem_of_getElem? (i := 1141) (by decide +kernel)) (by decide +kernel)
theorem ml_X11_115 : Cond.methodLink RX11 115 MX11_readsAunt.1 ∈ gTbl := gTbl_in (List.mem_of_getElem? (i := 1145) (by decide +kernel)) (by decide +kernel)
theorem ml_X11_118 : Cond.methodLink RX11 118 MX11_goBy.1 ∈ gTbl := gTbl_in (List.mem_of_getElem? (i := 1149) (by decide +kernel)) (by decide +kernel)
theorem fp_X11_12 : gFP 10 12 .boolean := ⟨RX11, TX11, _, rfl, rfl, by decide +kernel⟩
theorem ml_X11_121 : Cond.methodLink RX11 121 MX11_wordHere.1 ∈ gTbl := gTbl_in (List.mem_of_getElem? (i := 1121) (by decide +kernel)) (by decide +kernel)
theorem ml_X11_125 : Cond.methodLink RX11 125 MX11_readsItem.1 ∈ gTbl := gTbl_in (List.mem_of_getElem? (i := 1129) (by decide +kernel)) (by decide +kernel)
theorem ml_X11_128 : Cond.methodLink RX11 128 MX11_readItems.1 ∈ gTbl := gTbl_in (List.mem_of_getElem? (i := 1105) (by decide +kernel)) (by decide +kernel)
theorem ml_X11_132 : Cond.methodLink RX11 132 MX11_dampedPlain.1 ∈ gTbl := gTbl_in (List.mem_of_getElem? (i := 1174) (by decide +kernel)) (by decide +kernel)
theorem ml_X11_135 : Cond.methodLink RX11 135 MX11_leansBy.1 ∈ gTbl := gTbl_in (List.mem_of_getElem? (i := 1165) (by decide +kernel)) (by decide +kernel)
theorem ml_X11_139 : Cond.methodLink RX11 139 MX11_has.1 ∈ gTbl := gTbl_in (List.mem_of_getElem? (i := 1168) (by decide +kernel)) (by decide +kernel)
theorem ml_X11_143 : Cond.methodLink RX11 143 MX11_dampedBy.1 ∈ gTbl := gTbl_in (List.mem_of_getElem? (i := 1171) (by decide +kernel)) (by decide +kernel)
theorem ml_X11_146 : Cond.methodLink RX11 146 MX11_leaning.1 ∈ gTbl := gTbl_in (List.mem_of_getElem? (i := 1161) (by decide +kernel)) (by decide +kernel)
theorem ml_X11_149 : Cond.methodLink RX11 149 MX11_soundBy.1 ∈ gTbl := gTbl_in (List.mem_of_getElem? (i := 1157) (by decide +kernel)) (by decide +kernel)
theorem ml_X11_153 : Cond.methodLink RX11 153 MX11_soundAt.1 ∈ gTbl := gTbl_in (List.mem_of_getElem? (i := 1153) (by decide +kernel)) (by decide +kernel)
theorem ml_X11_156 : Cond.methodLink RX11 156 MX11_keepPast.1 ∈ gTbl := gTbl_in (List.mem_of_getElem? (i := 1181) (by decide +kernel)) (by decide +kernel)
theorem ml_X11_159 : Cond.methodLink RX11 159 MX11_isOne.1 ∈ gTbl := gTbl_in (List.mem_of_getElem? (i := 1189) (by decide +kernel)) (by decide +kernel)
theorem ml_X11_162 : Cond.methodLink RX11 162 MX11_isAunt.1 ∈ gTbl := gTbl_in (List.mem_of_getElem? (i := 1197) (by decide +kernel)) (by decide +kernel)
theorem ml_X11_165 : Cond.methodLink RX11 165 MX11_badAs.1 ∈ gTbl := gTbl_in (List.mem_of_getElem? (i := 1217) (by decide +kernel)) (by decide +kernel)
theorem ml_X11_168 : Cond.methodLink RX11 168 MX11_layTried.1 ∈ gTbl := gTbl_in (List.mem_of_getElem? (i := 1233) (by decide +kernel)) (by decide +kernel)
theorem ml_X11_171 : Cond.methodLink RX11 171 MX11_bits.1 ∈ gTbl := gTbl_in (List.mem_of_getElem? (i := 1241) (by decide +kernel)) (by decide +kernel)
theorem ml_X11_174 : Cond.methodLink RX11 174 MX11_isStill.1 ∈ gTbl := gTbl_in (List.mem_of_getElem? (i := 1244) (by decide +kernel)) (by decide +kernel)
theorem fl_X11_177 : gFL RX11 177 10 16 := ⟨RX11, TX11, _, rfl, by decide, gTbl_in (List.mem_of_getElem? (i := 1006) (by decide +kernel)) (by decide +kernel)⟩
theorem fp_X11_16 : gFP 10 16 .int := ⟨RX11, TX11, _, rfl, rfl, by decide +kernel⟩
theorem fl_X11_180 : gFL RX11 180 10 17 := ⟨RX11, TX11, _, rfl, by decide, gTbl_in (List.mem_of_getElem? (i := 1007) (by decide +kernel)) (by decide +kernel)⟩
theorem fp_X11_17 : gFP 10 17 .int := ⟨RX11, TX11, _, rfl, rfl, by decide +kernel⟩
theorem ml_X11_183 : Cond.methodLink RX11 183 MX11_areAlike.1 ∈ gTbl := gTbl_in (List.mem_of_getElem? (i := 1276) (by decide +kernel)) (by decide +kernel)
theorem ml_X11_186 : Cond.methodLink RX11 186 MX11_laySides.1 ∈ gTbl := gTbl_in (List.mem_of_getElem? (i := 1268) (by decide +kernel)) (by decide +kernel)
theorem ml_X11_189 : Cond.methodLink RX11 189 MX11_pairsBy.1 ∈ gTbl := gTbl_in (List.mem_of_getElem? (i := 1272) (by decide +kernel)) (by decide +kernel)
theorem ml_X11_192 : Cond.methodLink RX11 192 MX11_mostPairs.1 ∈ gTbl := gTbl_in (List.mem_of_getElem? (i := 1264) (by decide +kernel)) (by decide +kernel)
theorem ml_X11_195 : Cond.methodLink RX11 195 MX11_isHeardSo.1 ∈ gTbl := gTbl_in (List.mem_of_getElem? (i := 1288) (by decide +kernel)) (by decide +kernel)
theorem ml_X11_198 : Cond.methodLink RX11 198 MX11_lanes.1 ∈ gTbl := gTbl_in (List.mem_of_getElem? (i := 1300) (by decide +kernel)) (by decide +kernel)
theorem ml_X11_201 : Cond.methodLink RX11 201 MX11_kindsOf.1 ∈ gTbl := gTbl_in (List.mem_of_getElem? (i := 1317) (by decide +kernel)) (by decide +kernel)
theorem ml_X11_204 : Cond.methodLink RX11 204 MX11_mostAlike.1 ∈ gTbl := gTbl_in (List.mem_of_getElem? (i := 1325) (by decide +kernel)) (by decide +kernel)
theorem ml_X11_207 : Cond.methodLink RX11 207 MX11_auntKinds.1 ∈ gTbl := gTbl_in (List.mem_of_getElem? (i := 1333) (by decide +kernel)) (by decide +kernel)
theorem ml_X11_210 : Cond.methodLink RX11 210 MX11_rests.1 ∈ gTbl := gTbl_in (List.mem_of_getElem? (i := 1345) (by decide +kernel)) (by decide +kernel)
theorem fl_X11_213 : gFL RX11 213 10 3 := ⟨RX11, TX11, _, rfl, by decide, gTbl_in (List.mem_of_getElem? (i := 993) (by decide +kernel)) (by decide +kernel)⟩
theorem fp_X11_3 : gFP 10 3 .long := ⟨RX11, TX11, _, rfl, rfl, by decide +kernel⟩
theorem ml_X11_216 : Cond.methodLink RX11 216 MX11_tell.1 ∈ gTbl := gTbl_in (List.mem_of_getElem? (i := 1353) (by decide +kernel)) (by decide +kernel)
theorem kc_X11_220 : Cond.constant RX11 220 999999 ∈ gTbl := gTbl_in (List.mem_of_getElem? (i := 1361) (by decide +kernel)) (by decide +kernel)
theorem kc_X11_221 : Cond.constantLong RX11 221 1103515245 ∈ gTbl := gTbl_in (List.mem_of_getElem? (i := 1362) (by decide +kernel)) (by decide +kernel)
theorem kc_X11_223 : Cond.constantLong RX11 223 12345 ∈ gTbl := gTbl_in (List.mem_of_getElem? (i := 1363) (by decide +kernel)) (by decide +kernel)
theorem kc_X11_225 : Cond.constantLong RX11 225 2147483648 ∈ gTbl := gTbl_in (List.mem_of_getElem? (i := 1364) (by decide +kernel)) (by decide +kernel)
theorem kc_X11_227 : Cond.constantLong RX11 227 65536 ∈ gTbl := gTbl_in (List.mem_of_getElem? (i := 1365) (by decide +kernel)) (by decide +kernel)
theorem kc_X11_229 : Cond.constantLong RX11 229 7 ∈ gTbl := gTbl_in (List.mem_of_getElem? (i := 1366) (by decide +kernel)) (by decide +kernel)
theorem kc_X11_231 : Cond.constantLong RX11 231 1048576 ∈ gTbl := gTbl_in (List.mem_of_getElem? (i := 1367) (by decide +kernel)) (by decide +kernel)
theorem kc_X11_233 : Cond.constantLong RX11 233 10 ∈ gTbl := gTbl_in (List.mem_of_getElem? (i := 1368) (by decide +kernel)) (by decide +kernel)
theorem ml_X11_235 : Cond.methodLink RX11 235 MX11_countOf.1 ∈ gTbl := gTbl_in (List.mem_of_getElem? (i := 1389) (by decide +kernel)) (by decide +kernel)
theorem kc_X11_238 : Cond.constantLong RX11 238 31 ∈ gTbl := gTbl_in (List.mem_of_getElem? (i := 1398) (by decide +kernel)) (by decide +kernel)
theorem kc_X11_240 : Cond.constantLong RX11 240 1559 ∈ gTbl := gTbl_in (List.mem_of_getElem? (i := 1397) (by decide +kernel)) (by decide +kernel)
theorem ml_X11_242 : Cond.methodLink RX11 242 MX11_join.1 ∈ gTbl := gTbl_in (List.mem_of_getElem? (i := 1399) (by decide +kernel)) (by decide +kernel)
theorem kc_J6_265 : Cond.constant RJ6 265 1431655765 ∈ gTbl := gTbl_in (List.mem_of_getElem? (i := 679) (by decide +kernel)) (by decide +kernel)
theorem kc_J6_266 : Cond.constant RJ6 266 858993459 ∈ gTbl := gTbl_in (List.mem_of_getElem? (i := 680) (by decide +kernel)) (by decide +kernel)
theorem kc_J6_267 : Cond.constant RJ6 267 252645135 ∈ gTbl := gTbl_in (List.mem_of_getElem? (i := 681) (by decide +kernel)) (by decide +kernel)
theorem ml_J0_335 : Cond.methodLink RJ0 335 MJ0_coder_7d493.1 ∈ gTbl := gTbl_in (List.mem_of_getElem? (i := 430) (by decide +kernel)) (by decide +kernel)
theorem ml_J0_492 : Cond.methodLink RJ0 492 MJ0_isLatin1_aae02.1 ∈ gTbl := gTbl_in (List.mem_of_getElem? (i := 440) (by decide +kernel)) (by decide +kernel)
theorem ml_J0_495 : Cond.methodLink RJ0 495 MJ1_charAt_3b067.1 ∈ gTbl := gTbl_in (List.mem_of_getElem? (i := 444) (by decide +kernel)) (by decide +kernel)
theorem ml_J0_498 : Cond.methodLink RJ0 498 MJ2_charAt_3b067.1 ∈ gTbl := gTbl_in (List.mem_of_getElem? (i := 455) (by decide +kernel)) (by decide +kernel)
theorem ml_J0_1059 : Cond.methodLink RJ0 1059 MJ3_checkIndex_8e157.1 ∈ gTbl := gTbl_in (List.mem_of_getElem? (i := 452) (by decide +kernel)) (by decide +kernel)
theorem ml_J1_9 : Cond.methodLink RJ1 9 MJ0_checkIndex_df160.1 ∈ gTbl := gTbl_in (List.mem_of_getElem? (i := 447) (by decide +kernel)) (by decide +kernel)
theorem ml_J2_48 : Cond.methodLink RJ2 48 MJ2_length_9d52b.1 ∈ gTbl := gTbl_in (List.mem_of_getElem? (i := 461) (by decide +kernel)) (by decide +kernel)
theorem ml_J2_67 : Cond.methodLink RJ2 67 MJ2_checkIndex_2214a.1 ∈ gTbl := gTbl_in (List.mem_of_getElem? (i := 458) (by decide +kernel)) (by decide +kernel)
theorem ml_J2_71 : Cond.methodLink RJ2 71 MJ2_getChar_3b067.1 ∈ gTbl := gTbl_in (List.mem_of_getElem? (i := 465) (by decide +kernel)) (by decide +kernel)
theorem ml_J2_414 : Cond.methodLink RJ2 414 MJ0_checkIndex_df160.1 ∈ gTbl := gTbl_in (List.mem_of_getElem? (i := 464) (by decide +kernel)) (by decide +kernel)
