theorem gm {i : Nat} {w : Cond} (h : lw_tbl[i]? = some w) (hg : goodWord w = true) : w ∈ gTbl := List.mem_filter.mpr ⟨List.mem_of_getElem? h, hg⟩
def mX0_init : MI := (yX0_init, cX0_init, 1, none)
theorem bX0_init : mB mX0_init 0 := ⟨gm (i := 317) (by decide +kernel) (by decide +kernel), gm (i := 68) (by decide +kernel) (by decide +kernel), by decide +kernel, by decide +kernel, by decide +kernel, by decide +kernel, by decide +kernel, by decide +kernel⟩
theorem qX0_init : mI mX0_init 0 := ⟨bX0_init, gm (i := 316) (by decide +kernel) (by decide +kernel), rfl⟩
def mX0_add : MI := (yX0_add, cX0_add, 3, none)
theorem bX0_add : mB mX0_add 2 := ⟨gm (i := 809) (by decide +kernel) (by decide +kernel), gm (i := 68) (by decide +kernel) (by decide +kernel), by decide +kernel, by decide +kernel, by decide +kernel, by decide +kernel, by decide +kernel, by decide +kernel⟩
theorem qX0_add : mV mX0_add 2 := ⟨bX0_add, gm (i := 807) (by decide +kernel) (by decide +kernel), gm (i := 808) (by decide +kernel) (by decide +kernel)⟩
def mX0_firstWrong : MI := (yX0_firstWrong, cX0_firstWrong, 3, (some .int))
theorem bX0_firstWrong : mB mX0_firstWrong 1 := ⟨gm (i := 817) (by decide +kernel) (by decide +kernel), gm (i := 68) (by decide +kernel) (by decide +kernel), by decide +kernel, by decide +kernel, by decide +kernel, by decide +kernel, by decide +kernel, by decide +kernel⟩
theorem qX0_firstWrong : mV mX0_firstWrong 1 := ⟨bX0_firstWrong, gm (i := 815) (by decide +kernel) (by decide +kernel), gm (i := 816) (by decide +kernel) (by decide +kernel)⟩
def mX1_init : MI := (yX1_init, cX1_init, 1, none)
theorem bX1_init : mB mX1_init 0 := ⟨gm (i := 245) (by decide +kernel) (by decide +kernel), gm (i := 63) (by decide +kernel) (by decide +kernel), by decide +kernel, by decide +kernel, by decide +kernel, by decide +kernel, by decide +kernel, by decide +kernel⟩
theorem qX1_init : mI mX1_init 0 := ⟨bX1_init, gm (i := 244) (by decide +kernel) (by decide +kernel), rfl⟩
def mX2_init : MI := (yX2_init, cX2_init, 1, none)
theorem bX2_init : mB mX2_init 0 := ⟨gm (i := 184) (by decide +kernel) (by decide +kernel), gm (i := 61) (by decide +kernel) (by decide +kernel), by decide +kernel, by decide +kernel, by decide +kernel, by decide +kernel, by decide +kernel, by decide +kernel⟩
theorem qX2_init : mI mX2_init 0 := ⟨bX2_init, gm (i := 183) (by decide +kernel) (by decide +kernel), rfl⟩
def mX2_hangAll : MI := (yX2_hangAll, cX2_hangAll, 3, none)
theorem bX2_hangAll : mB mX2_hangAll 1 := ⟨gm (i := 433) (by decide +kernel) (by decide +kernel), gm (i := 61) (by decide +kernel) (by decide +kernel), by decide +kernel, by decide +kernel, by decide +kernel, by decide +kernel, by decide +kernel, by decide +kernel⟩
theorem qX2_hangAll : mV mX2_hangAll 1 := ⟨bX2_hangAll, gm (i := 431) (by decide +kernel) (by decide +kernel), gm (i := 432) (by decide +kernel) (by decide +kernel)⟩
def mX2_copyFrom : MI := (yX2_copyFrom, cX2_copyFrom, 2, none)
theorem bX2_copyFrom : mB mX2_copyFrom 1 := ⟨gm (i := 557) (by decide +kernel) (by decide +kernel), gm (i := 61) (by decide +kernel) (by decide +kernel), by decide +kernel, by decide +kernel, by decide +kernel, by decide +kernel, by decide +kernel, by decide +kernel⟩
theorem qX2_copyFrom : mV mX2_copyFrom 1 := ⟨bX2_copyFrom, gm (i := 555) (by decide +kernel) (by decide +kernel), gm (i := 556) (by decide +kernel) (by decide +kernel)⟩
def mX2_flagAt : MI := (yX2_flagAt, cX2_flagAt, 2, (some .int))
theorem bX2_flagAt : mB mX2_flagAt 1 := ⟨gm (i := 528) (by decide +kernel) (by decide +kernel), gm (i := 61) (by decide +kernel) (by decide +kernel), by decide +kernel, by decide +kernel, by decide +kernel, by decide +kernel, by decide +kernel, by decide +kernel⟩
theorem qX2_flagAt : mV mX2_flagAt 1 := ⟨bX2_flagAt, gm (i := 526) (by decide +kernel) (by decide +kernel), gm (i := 527) (by decide +kernel) (by decide +kernel)⟩
def mX2_placeOf : MI := (yX2_placeOf, cX2_placeOf, 3, (some .int))
theorem bX2_placeOf : mB mX2_placeOf 1 := ⟨gm (i := 520) (by decide +kernel) (by decide +kernel), gm (i := 61) (by decide +kernel) (by decide +kernel), by decide +kernel, by decide +kernel, by decide +kernel, by decide +kernel, by decide +kernel, by decide +kernel⟩
theorem qX2_placeOf : mV mX2_placeOf 1 := ⟨bX2_placeOf, gm (i := 518) (by decide +kernel) (by decide +kernel), gm (i := 519) (by decide +kernel) (by decide +kernel)⟩
def mX2_flagsAt : MI := (yX2_flagsAt, cX2_flagsAt, 4, (some .int))
theorem bX2_flagsAt : mB mX2_flagsAt 1 := ⟨gm (i := 540) (by decide +kernel) (by decide +kernel), gm (i := 61) (by decide +kernel) (by decide +kernel), by decide +kernel, by decide +kernel, by decide +kernel, by decide +kernel, by decide +kernel, by decide +kernel⟩
theorem qX2_flagsAt : mV mX2_flagsAt 1 := ⟨bX2_flagsAt, gm (i := 538) (by decide +kernel) (by decide +kernel), gm (i := 539) (by decide +kernel) (by decide +kernel)⟩
def mX2_placesOf : MI := (yX2_placesOf, cX2_placesOf, 4, (some .int))
theorem bX2_placesOf : mB mX2_placesOf 1 := ⟨gm (i := 720) (by decide +kernel) (by decide +kernel), gm (i := 61) (by decide +kernel) (by decide +kernel), by decide +kernel, by decide +kernel, by decide +kernel, by decide +kernel, by decide +kernel, by decide +kernel⟩
theorem qX2_placesOf : mV mX2_placesOf 1 := ⟨bX2_placesOf, gm (i := 718) (by decide +kernel) (by decide +kernel), gm (i := 719) (by decide +kernel) (by decide +kernel)⟩
def mX2_onSet : MI := (yX2_onSet, cX2_onSet, 3, (some .int))
theorem bX2_onSet : mB mX2_onSet 0 := ⟨gm (i := 452) (by decide +kernel) (by decide +kernel), gm (i := 61) (by decide +kernel) (by decide +kernel), by decide +kernel, by decide +kernel, by decide +kernel, by decide +kernel, by decide +kernel, by decide +kernel⟩
theorem qX2_onSet : mV mX2_onSet 0 := ⟨bX2_onSet, gm (i := 450) (by decide +kernel) (by decide +kernel), gm (i := 451) (by decide +kernel) (by decide +kernel)⟩
def mX2_outSet : MI := (yX2_outSet, cX2_outSet, 4, (some .int))
theorem bX2_outSet : mB mX2_outSet 1 := ⟨gm (i := 456) (by decide +kernel) (by decide +kernel), gm (i := 61) (by decide +kernel) (by decide +kernel), by decide +kernel, by decide +kernel, by decide +kernel, by decide +kernel, by decide +kernel, by decide +kernel⟩
theorem qX2_outSet : mV mX2_outSet 1 := ⟨bX2_outSet, gm (i := 454) (by decide +kernel) (by decide +kernel), gm (i := 455) (by decide +kernel) (by decide +kernel)⟩
def mX2_isOut : MI := (yX2_isOut, cX2_isOut, 4, (some .boolean))
theorem bX2_isOut : mB mX2_isOut 2 := ⟨gm (i := 460) (by decide +kernel) (by decide +kernel), gm (i := 61) (by decide +kernel) (by decide +kernel), by decide +kernel, by decide +kernel, by decide +kernel, by decide +kernel, by decide +kernel, by decide +kernel⟩
theorem qX2_isOut : mV mX2_isOut 2 := ⟨bX2_isOut, gm (i := 458) (by decide +kernel) (by decide +kernel), gm (i := 459) (by decide +kernel) (by decide +kernel)⟩
def mX2_turnFront : MI := (yX2_turnFront, cX2_turnFront, 2, none)
theorem bX2_turnFront : mB mX2_turnFront 1 := ⟨gm (i := 565) (by decide +kernel) (by decide +kernel), gm (i := 61) (by decide +kernel) (by decide +kernel), by decide +kernel, by decide +kernel, by decide +kernel, by decide +kernel, by decide +kernel, by decide +kernel⟩
theorem qX2_turnFront : mV mX2_turnFront 1 := ⟨bX2_turnFront, gm (i := 563) (by decide +kernel) (by decide +kernel), gm (i := 564) (by decide +kernel) (by decide +kernel)⟩
def mX2_cutAt : MI := (yX2_cutAt, cX2_cutAt, 2, none)
theorem bX2_cutAt : mB mX2_cutAt 1 := ⟨gm (i := 577) (by decide +kernel) (by decide +kernel), gm (i := 61) (by decide +kernel) (by decide +kernel), by decide +kernel, by decide +kernel, by decide +kernel, by decide +kernel, by decide +kernel, by decide +kernel⟩
theorem qX2_cutAt : mV mX2_cutAt 1 := ⟨bX2_cutAt, gm (i := 575) (by decide +kernel) (by decide +kernel), gm (i := 576) (by decide +kernel) (by decide +kernel)⟩
def mX2_swapEnds : MI := (yX2_swapEnds, cX2_swapEnds, 6, none)
theorem bX2_swapEnds : mB mX2_swapEnds 2 := ⟨gm (i := 569) (by decide +kernel) (by decide +kernel), gm (i := 61) (by decide +kernel) (by decide +kernel), by decide +kernel, by decide +kernel, by decide +kernel, by decide +kernel, by decide +kernel, by decide +kernel⟩
theorem qX2_swapEnds : mV mX2_swapEnds 2 := ⟨bX2_swapEnds, gm (i := 568) (by decide +kernel) (by decide +kernel), gm (i := 11) (by decide +kernel) (by decide +kernel)⟩
def mX2_takeOff : MI := (yX2_takeOff, cX2_takeOff, 3, none)
theorem bX2_takeOff : mB mX2_takeOff 1 := ⟨gm (i := 586) (by decide +kernel) (by decide +kernel), gm (i := 61) (by decide +kernel) (by decide +kernel), by decide +kernel, by decide +kernel, by decide +kernel, by decide +kernel, by decide +kernel, by decide +kernel⟩
theorem qX2_takeOff : mV mX2_takeOff 1 := ⟨bX2_takeOff, gm (i := 584) (by decide +kernel) (by decide +kernel), gm (i := 585) (by decide +kernel) (by decide +kernel)⟩
def mX2_sewOn : MI := (yX2_sewOn, cX2_sewOn, 4, none)
theorem bX2_sewOn : mB mX2_sewOn 2 := ⟨gm (i := 594) (by decide +kernel) (by decide +kernel), gm (i := 61) (by decide +kernel) (by decide +kernel), by decide +kernel, by decide +kernel, by decide +kernel, by decide +kernel, by decide +kernel, by decide +kernel⟩
theorem qX2_sewOn : mV mX2_sewOn 2 := ⟨bX2_sewOn, gm (i := 592) (by decide +kernel) (by decide +kernel), gm (i := 593) (by decide +kernel) (by decide +kernel)⟩
def mX2_passYear : MI := (yX2_passYear, cX2_passYear, 5, none)
theorem bX2_passYear : mB mX2_passYear 1 := ⟨gm (i := 620) (by decide +kernel) (by decide +kernel), gm (i := 61) (by decide +kernel) (by decide +kernel), by decide +kernel, by decide +kernel, by decide +kernel, by decide +kernel, by decide +kernel, by decide +kernel⟩
theorem qX2_passYear : mV mX2_passYear 1 := ⟨bX2_passYear, gm (i := 618) (by decide +kernel) (by decide +kernel), gm (i := 619) (by decide +kernel) (by decide +kernel)⟩
def mX2_rises : MI := (yX2_rises, cX2_rises, 1, (some .boolean))
theorem bX2_rises : mB mX2_rises 0 := ⟨gm (i := 467) (by decide +kernel) (by decide +kernel), gm (i := 61) (by decide +kernel) (by decide +kernel), by decide +kernel, by decide +kernel, by decide +kernel, by decide +kernel, by decide +kernel, by decide +kernel⟩
theorem qX2_rises : mV mX2_rises 0 := ⟨bX2_rises, gm (i := 465) (by decide +kernel) (by decide +kernel), gm (i := 466) (by decide +kernel) (by decide +kernel)⟩
def mX2_rightCut : MI := (yX2_rightCut, cX2_rightCut, 2, (some .int))
theorem bX2_rightCut : mB mX2_rightCut 0 := ⟨gm (i := 479) (by decide +kernel) (by decide +kernel), gm (i := 61) (by decide +kernel) (by decide +kernel), by decide +kernel, by decide +kernel, by decide +kernel, by decide +kernel, by decide +kernel, by decide +kernel⟩
theorem qX2_rightCut : mV mX2_rightCut 0 := ⟨bX2_rightCut, gm (i := 477) (by decide +kernel) (by decide +kernel), gm (i := 478) (by decide +kernel) (by decide +kernel)⟩
def mX2_risesFrom : MI := (yX2_risesFrom, cX2_risesFrom, 3, (some .boolean))
theorem bX2_risesFrom : mB mX2_risesFrom 1 := ⟨gm (i := 471) (by decide +kernel) (by decide +kernel), gm (i := 61) (by decide +kernel) (by decide +kernel), by decide +kernel, by decide +kernel, by decide +kernel, by decide +kernel, by decide +kernel, by decide +kernel⟩
theorem qX2_risesFrom : mV mX2_risesFrom 1 := ⟨bX2_risesFrom, gm (i := 470) (by decide +kernel) (by decide +kernel), gm (i := 8) (by decide +kernel) (by decide +kernel)⟩
def mX2_crossed : MI := (yX2_crossed, cX2_crossed, 4, (some .int))
theorem bX2_crossed : mB mX2_crossed 0 := ⟨gm (i := 475) (by decide +kernel) (by decide +kernel), gm (i := 61) (by decide +kernel) (by decide +kernel), by decide +kernel, by decide +kernel, by decide +kernel, by decide +kernel, by decide +kernel, by decide +kernel⟩
theorem qX2_crossed : mV mX2_crossed 0 := ⟨bX2_crossed, gm (i := 473) (by decide +kernel) (by decide +kernel), gm (i := 474) (by decide +kernel) (by decide +kernel)⟩
def mX2_looseSet : MI := (yX2_looseSet, cX2_looseSet, 5, (some .int))
theorem bX2_looseSet : mB mX2_looseSet 0 := ⟨gm (i := 687) (by decide +kernel) (by decide +kernel), gm (i := 61) (by decide +kernel) (by decide +kernel), by decide +kernel, by decide +kernel, by decide +kernel, by decide +kernel, by decide +kernel, by decide +kernel⟩
theorem qX2_looseSet : mV mX2_looseSet 0 := ⟨bX2_looseSet, gm (i := 685) (by decide +kernel) (by decide +kernel), gm (i := 686) (by decide +kernel) (by decide +kernel)⟩
def mX2_risesWithout : MI := (yX2_risesWithout, cX2_risesWithout, 4, (some .boolean))
theorem bX2_risesWithout : mB mX2_risesWithout 1 := ⟨gm (i := 693) (by decide +kernel) (by decide +kernel), gm (i := 61) (by decide +kernel) (by decide +kernel), by decide +kernel, by decide +kernel, by decide +kernel, by decide +kernel, by decide +kernel, by decide +kernel⟩
theorem qX2_risesWithout : mV mX2_risesWithout 1 := ⟨bX2_risesWithout, gm (i := 692) (by decide +kernel) (by decide +kernel), gm (i := 17) (by decide +kernel) (by decide +kernel)⟩
def mX2_pullAt : MI := (yX2_pullAt, cX2_pullAt, 7, (some .int))
theorem bX2_pullAt : mB mX2_pullAt 3 := ⟨gm (i := 701) (by decide +kernel) (by decide +kernel), gm (i := 61) (by decide +kernel) (by decide +kernel), by decide +kernel, by decide +kernel, by decide +kernel, by decide +kernel, by decide +kernel, by decide +kernel⟩
theorem qX2_pullAt : mV mX2_pullAt 3 := ⟨bX2_pullAt, gm (i := 699) (by decide +kernel) (by decide +kernel), gm (i := 700) (by decide +kernel) (by decide +kernel)⟩
def mX3_init : MI := (yX3_init, cX3_init, 1, none)
theorem bX3_init : mB mX3_init 0 := ⟨gm (i := 299) (by decide +kernel) (by decide +kernel), gm (i := 67) (by decide +kernel) (by decide +kernel), by decide +kernel, by decide +kernel, by decide +kernel, by decide +kernel, by decide +kernel, by decide +kernel⟩
theorem qX3_init : mI mX3_init 0 := ⟨bX3_init, gm (i := 298) (by decide +kernel) (by decide +kernel), rfl⟩
def mX3_add : MI := (yX3_add, cX3_add, 3, none)
theorem bX3_add : mB mX3_add 2 := ⟨gm (i := 779) (by decide +kernel) (by decide +kernel), gm (i := 67) (by decide +kernel) (by decide +kernel), by decide +kernel, by decide +kernel, by decide +kernel, by decide +kernel, by decide +kernel, by decide +kernel⟩
theorem qX3_add : mV mX3_add 2 := ⟨bX3_add, gm (i := 777) (by decide +kernel) (by decide +kernel), gm (i := 778) (by decide +kernel) (by decide +kernel)⟩
def mX3_fitting : MI := (yX3_fitting, cX3_fitting, 6, (some .int))
theorem bX3_fitting : mB mX3_fitting 2 := ⟨gm (i := 787) (by decide +kernel) (by decide +kernel), gm (i := 67) (by decide +kernel) (by decide +kernel), by decide +kernel, by decide +kernel, by decide +kernel, by decide +kernel, by decide +kernel, by decide +kernel⟩
theorem qX3_fitting : mV mX3_fitting 2 := ⟨bX3_fitting, gm (i := 785) (by decide +kernel) (by decide +kernel), gm (i := 786) (by decide +kernel) (by decide +kernel)⟩
def mX3_bestLook : MI := (yX3_bestLook, cX3_bestLook, 9, (some .int))
theorem bX3_bestLook : mB mX3_bestLook 2 := ⟨gm (i := 799) (by decide +kernel) (by decide +kernel), gm (i := 67) (by decide +kernel) (by decide +kernel), by decide +kernel, by decide +kernel, by decide +kernel, by decide +kernel, by decide +kernel, by decide +kernel⟩
theorem qX3_bestLook : mV mX3_bestLook 2 := ⟨bX3_bestLook, gm (i := 797) (by decide +kernel) (by decide +kernel), gm (i := 798) (by decide +kernel) (by decide +kernel)⟩
def mX3_answering : MI := (yX3_answering, cX3_answering, 6, (some .int))
theorem bX3_answering : mB mX3_answering 3 := ⟨gm (i := 790) (by decide +kernel) (by decide +kernel), gm (i := 67) (by decide +kernel) (by decide +kernel), by decide +kernel, by decide +kernel, by decide +kernel, by decide +kernel, by decide +kernel, by decide +kernel⟩
theorem qX3_answering : mS mX3_answering 3 := ⟨bX3_answering, gm (i := 789) (by decide +kernel) (by decide +kernel)⟩
def mX4_init : MI := (yX4_init, cX4_init, 2, none)
theorem bX4_init : mB mX4_init 0 := ⟨gm (i := 224) (by decide +kernel) (by decide +kernel), gm (i := 62) (by decide +kernel) (by decide +kernel), by decide +kernel, by decide +kernel, by decide +kernel, by decide +kernel, by decide +kernel, by decide +kernel⟩
theorem qX4_init : mI mX4_init 0 := ⟨bX4_init, gm (i := 223) (by decide +kernel) (by decide +kernel), rfl⟩
def mX4_forget : MI := (yX4_forget, cX4_forget, 1, none)
theorem bX4_forget : mB mX4_forget 0 := ⟨gm (i := 440) (by decide +kernel) (by decide +kernel), gm (i := 62) (by decide +kernel) (by decide +kernel), by decide +kernel, by decide +kernel, by decide +kernel, by decide +kernel, by decide +kernel, by decide +kernel⟩
theorem qX4_forget : mV mX4_forget 0 := ⟨bX4_forget, gm (i := 438) (by decide +kernel) (by decide +kernel), gm (i := 439) (by decide +kernel) (by decide +kernel)⟩
def mX4_remember : MI := (yX4_remember, cX4_remember, 2, none)
theorem bX4_remember : mB mX4_remember 1 := ⟨gm (i := 553) (by decide +kernel) (by decide +kernel), gm (i := 62) (by decide +kernel) (by decide +kernel), by decide +kernel, by decide +kernel, by decide +kernel, by decide +kernel, by decide +kernel, by decide +kernel⟩
theorem qX4_remember : mV mX4_remember 1 := ⟨bX4_remember, gm (i := 551) (by decide +kernel) (by decide +kernel), gm (i := 552) (by decide +kernel) (by decide +kernel)⟩
def mX4_bringBack : MI := (yX4_bringBack, cX4_bringBack, 3, none)
theorem bX4_bringBack : mB mX4_bringBack 2 := ⟨gm (i := 646) (by decide +kernel) (by decide +kernel), gm (i := 62) (by decide +kernel) (by decide +kernel), by decide +kernel, by decide +kernel, by decide +kernel, by decide +kernel, by decide +kernel, by decide +kernel⟩
theorem qX4_bringBack : mV mX4_bringBack 2 := ⟨bX4_bringBack, gm (i := 644) (by decide +kernel) (by decide +kernel), gm (i := 645) (by decide +kernel) (by decide +kernel)⟩
def mX5_init : MI := (yX5_init, cX5_init, 1, none)
theorem bX5_init : mB mX5_init 0 := ⟨gm (i := 113) (by decide +kernel) (by decide +kernel), gm (i := 60) (by decide +kernel) (by decide +kernel), by decide +kernel, by decide +kernel, by decide +kernel, by decide +kernel, by decide +kernel, by decide +kernel⟩
theorem qX5_init : mI mX5_init 0 := ⟨bX5_init, gm (i := 112) (by decide +kernel) (by decide +kernel), rfl⟩
def mX5_clear : MI := (yX5_clear, cX5_clear, 1, none)
theorem bX5_clear : mB mX5_clear 0 := ⟨gm (i := 384) (by decide +kernel) (by decide +kernel), gm (i := 60) (by decide +kernel) (by decide +kernel), by decide +kernel, by decide +kernel, by decide +kernel, by decide +kernel, by decide +kernel, by decide +kernel⟩
theorem qX5_clear : mV mX5_clear 0 := ⟨bX5_clear, gm (i := 382) (by decide +kernel) (by decide +kernel), gm (i := 383) (by decide +kernel) (by decide +kernel)⟩
def mX5_copyFrom : MI := (yX5_copyFrom, cX5_copyFrom, 2, none)
theorem bX5_copyFrom : mB mX5_copyFrom 1 := ⟨gm (i := 426) (by decide +kernel) (by decide +kernel), gm (i := 60) (by decide +kernel) (by decide +kernel), by decide +kernel, by decide +kernel, by decide +kernel, by decide +kernel, by decide +kernel, by decide +kernel⟩
theorem qX5_copyFrom : mV mX5_copyFrom 1 := ⟨bX5_copyFrom, gm (i := 424) (by decide +kernel) (by decide +kernel), gm (i := 425) (by decide +kernel) (by decide +kernel)⟩
def mX5_hasFlag : MI := (yX5_hasFlag, cX5_hasFlag, 2, (some .boolean))
theorem bX5_hasFlag : mB mX5_hasFlag 1 := ⟨gm (i := 515) (by decide +kernel) (by decide +kernel), gm (i := 60) (by decide +kernel) (by decide +kernel), by decide +kernel, by decide +kernel, by decide +kernel, by decide +kernel, by decide +kernel, by decide +kernel⟩
theorem qX5_hasFlag : mV mX5_hasFlag 1 := ⟨bX5_hasFlag, gm (i := 513) (by decide +kernel) (by decide +kernel), gm (i := 514) (by decide +kernel) (by decide +kernel)⟩
def mX5_allFlags : MI := (yX5_allFlags, cX5_allFlags, 1, (some .int))
theorem bX5_allFlags : mB mX5_allFlags 0 := ⟨gm (i := 716) (by decide +kernel) (by decide +kernel), gm (i := 60) (by decide +kernel) (by decide +kernel), by decide +kernel, by decide +kernel, by decide +kernel, by decide +kernel, by decide +kernel, by decide +kernel⟩
theorem qX5_allFlags : mV mX5_allFlags 0 := ⟨bX5_allFlags, gm (i := 714) (by decide +kernel) (by decide +kernel), gm (i := 715) (by decide +kernel) (by decide +kernel)⟩
def mX5_wordKind : MI := (yX5_wordKind, cX5_wordKind, 3, (some .int))
theorem bX5_wordKind : mB mX5_wordKind 2 := ⟨gm (i := 495) (by decide +kernel) (by decide +kernel), gm (i := 60) (by decide +kernel) (by decide +kernel), by decide +kernel, by decide +kernel, by decide +kernel, by decide +kernel, by decide +kernel, by decide +kernel⟩
theorem qX5_wordKind : mV mX5_wordKind 2 := ⟨bX5_wordKind, gm (i := 493) (by decide +kernel) (by decide +kernel), gm (i := 494) (by decide +kernel) (by decide +kernel)⟩
def mX5_placesOfHook : MI := (yX5_placesOfHook, cX5_placesOfHook, 4, (some .int))
theorem bX5_placesOfHook : mB mX5_placesOfHook 1 := ⟨gm (i := 536) (by decide +kernel) (by decide +kernel), gm (i := 60) (by decide +kernel) (by decide +kernel), by decide +kernel, by decide +kernel, by decide +kernel, by decide +kernel, by decide +kernel, by decide +kernel⟩
theorem qX5_placesOfHook : mV mX5_placesOfHook 1 := ⟨bX5_placesOfHook, gm (i := 534) (by decide +kernel) (by decide +kernel), gm (i := 535) (by decide +kernel) (by decide +kernel)⟩
def mX5_fewestHooks : MI := (yX5_fewestHooks, cX5_fewestHooks, 5, (some .int))
theorem bX5_fewestHooks : mB mX5_fewestHooks 1 := ⟨gm (i := 724) (by decide +kernel) (by decide +kernel), gm (i := 60) (by decide +kernel) (by decide +kernel), by decide +kernel, by decide +kernel, by decide +kernel, by decide +kernel, by decide +kernel, by decide +kernel⟩
theorem qX5_fewestHooks : mV mX5_fewestHooks 1 := ⟨bX5_fewestHooks, gm (i := 722) (by decide +kernel) (by decide +kernel), gm (i := 723) (by decide +kernel) (by decide +kernel)⟩
def mX5_placesOfHooks : MI := (yX5_placesOfHooks, cX5_placesOfHooks, 4, (some .int))
theorem bX5_placesOfHooks : mB mX5_placesOfHooks 1 := ⟨gm (i := 729) (by decide +kernel) (by decide +kernel), gm (i := 60) (by decide +kernel) (by decide +kernel), by decide +kernel, by decide +kernel, by decide +kernel, by decide +kernel, by decide +kernel, by decide +kernel⟩
theorem qX5_placesOfHooks : mV mX5_placesOfHooks 1 := ⟨bX5_placesOfHooks, gm (i := 728) (by decide +kernel) (by decide +kernel), gm (i := 18) (by decide +kernel) (by decide +kernel)⟩
def mX6_init : MI := (yX6_init, cX6_init, 1, none)
theorem bX6_init : mB mX6_init 0 := ⟨gm (i := 86) (by decide +kernel) (by decide +kernel), gm (i := 59) (by decide +kernel) (by decide +kernel), by decide +kernel, by decide +kernel, by decide +kernel, by decide +kernel, by decide +kernel, by decide +kernel⟩
theorem qX6_init : mI mX6_init 0 := ⟨bX6_init, gm (i := 85) (by decide +kernel) (by decide +kernel), rfl⟩
def mX6_readInto : MI := (yX6_readInto, cX6_readInto, 3, none)
theorem bX6_readInto : mB mX6_readInto 1 := ⟨gm (i := 380) (by decide +kernel) (by decide +kernel), gm (i := 59) (by decide +kernel) (by decide +kernel), by decide +kernel, by decide +kernel, by decide +kernel, by decide +kernel, by decide +kernel, by decide +kernel⟩
theorem qX6_readInto : mV mX6_readInto 1 := ⟨bX6_readInto, gm (i := 378) (by decide +kernel) (by decide +kernel), gm (i := 379) (by decide +kernel) (by decide +kernel)⟩
def mX6_readClause : MI := (yX6_readClause, cX6_readClause, 3, none)
theorem bX6_readClause : mB mX6_readClause 1 := ⟨gm (i := 392) (by decide +kernel) (by decide +kernel), gm (i := 59) (by decide +kernel) (by decide +kernel), by decide +kernel, by decide +kernel, by decide +kernel, by decide +kernel, by decide +kernel, by decide +kernel⟩
theorem qX6_readClause : mV mX6_readClause 1 := ⟨bX6_readClause, gm (i := 391) (by decide +kernel) (by decide +kernel), gm (i := 1) (by decide +kernel) (by decide +kernel)⟩
def mX6_isFullFor : MI := (yX6_isFullFor, cX6_isFullFor, 2, (some .boolean))
theorem bX6_isFullFor : mB mX6_isFullFor 2 := ⟨gm (i := 403) (by decide +kernel) (by decide +kernel), gm (i := 59) (by decide +kernel) (by decide +kernel), by decide +kernel, by decide +kernel, by decide +kernel, by decide +kernel, by decide +kernel, by decide +kernel⟩
theorem qX6_isFullFor : mS mX6_isFullFor 2 := ⟨bX6_isFullFor, gm (i := 402) (by decide +kernel) (by decide +kernel)⟩
def mX6_readRest : MI := (yX6_readRest, cX6_readRest, 3, none)
theorem bX6_readRest : mB mX6_readRest 2 := ⟨gm (i := 407) (by decide +kernel) (by decide +kernel), gm (i := 59) (by decide +kernel) (by decide +kernel), by decide +kernel, by decide +kernel, by decide +kernel, by decide +kernel, by decide +kernel, by decide +kernel⟩
theorem qX6_readRest : mV mX6_readRest 2 := ⟨bX6_readRest, gm (i := 406) (by decide +kernel) (by decide +kernel), gm (i := 4) (by decide +kernel) (by decide +kernel)⟩
def mX6_readKinds : MI := (yX6_readKinds, cX6_readKinds, 4, none)
theorem bX6_readKinds : mB mX6_readKinds 1 := ⟨gm (i := 418) (by decide +kernel) (by decide +kernel), gm (i := 59) (by decide +kernel) (by decide +kernel), by decide +kernel, by decide +kernel, by decide +kernel, by decide +kernel, by decide +kernel, by decide +kernel⟩
theorem qX6_readKinds : mV mX6_readKinds 1 := ⟨bX6_readKinds, gm (i := 417) (by decide +kernel) (by decide +kernel), gm (i := 6) (by decide +kernel) (by decide +kernel)⟩
def mX6_readNumber : MI := (yX6_readNumber, cX6_readNumber, 5, (some .int))
theorem bX6_readNumber : mB mX6_readNumber 2 := ⟨gm (i := 411) (by decide +kernel) (by decide +kernel), gm (i := 59) (by decide +kernel) (by decide +kernel), by decide +kernel, by decide +kernel, by decide +kernel, by decide +kernel, by decide +kernel, by decide +kernel⟩
theorem qX6_readNumber : mV mX6_readNumber 2 := ⟨bX6_readNumber, gm (i := 410) (by decide +kernel) (by decide +kernel), gm (i := 5) (by decide +kernel) (by decide +kernel)⟩
def mX6_readMark : MI := (yX6_readMark, cX6_readMark, 2, none)
theorem bX6_readMark : mB mX6_readMark 1 := ⟨gm (i := 422) (by decide +kernel) (by decide +kernel), gm (i := 59) (by decide +kernel) (by decide +kernel), by decide +kernel, by decide +kernel, by decide +kernel, by decide +kernel, by decide +kernel, by decide +kernel⟩
theorem qX6_readMark : mV mX6_readMark 1 := ⟨bX6_readMark, gm (i := 421) (by decide +kernel) (by decide +kernel), gm (i := 7) (by decide +kernel) (by decide +kernel)⟩
def mX6_skipBlanks : MI := (yX6_skipBlanks, cX6_skipBlanks, 1, none)
theorem bX6_skipBlanks : mB mX6_skipBlanks 0 := ⟨gm (i := 388) (by decide +kernel) (by decide +kernel), gm (i := 59) (by decide +kernel) (by decide +kernel), by decide +kernel, by decide +kernel, by decide +kernel, by decide +kernel, by decide +kernel, by decide +kernel⟩
theorem qX6_skipBlanks : mV mX6_skipBlanks 0 := ⟨bX6_skipBlanks, gm (i := 387) (by decide +kernel) (by decide +kernel), gm (i := 0) (by decide +kernel) (by decide +kernel)⟩
def mX6_letterHere : MI := (yX6_letterHere, cX6_letterHere, 1, (some .int))
theorem bX6_letterHere : mB mX6_letterHere 0 := ⟨gm (i := 396) (by decide +kernel) (by decide +kernel), gm (i := 59) (by decide +kernel) (by decide +kernel), by decide +kernel, by decide +kernel, by decide +kernel, by decide +kernel, by decide +kernel, by decide +kernel⟩
theorem qX6_letterHere : mV mX6_letterHere 0 := ⟨bX6_letterHere, gm (i := 395) (by decide +kernel) (by decide +kernel), gm (i := 2) (by decide +kernel) (by decide +kernel)⟩
def mX6_isFigure : MI := (yX6_isFigure, cX6_isFigure, 1, (some .boolean))
theorem bX6_isFigure : mB mX6_isFigure 1 := ⟨gm (i := 414) (by decide +kernel) (by decide +kernel), gm (i := 59) (by decide +kernel) (by decide +kernel), by decide +kernel, by decide +kernel, by decide +kernel, by decide +kernel, by decide +kernel, by decide +kernel⟩
theorem qX6_isFigure : mS mX6_isFigure 1 := ⟨bX6_isFigure, gm (i := 413) (by decide +kernel) (by decide +kernel)⟩
def mX6_blame : MI := (yX6_blame, cX6_blame, 3, none)
theorem bX6_blame : mB mX6_blame 2 := ⟨gm (i := 400) (by decide +kernel) (by decide +kernel), gm (i := 59) (by decide +kernel) (by decide +kernel), by decide +kernel, by decide +kernel, by decide +kernel, by decide +kernel, by decide +kernel, by decide +kernel⟩
theorem qX6_blame : mV mX6_blame 2 := ⟨bX6_blame, gm (i := 399) (by decide +kernel) (by decide +kernel), gm (i := 3) (by decide +kernel) (by decide +kernel)⟩
def mX7_init : MI := (yX7_init, cX7_init, 1, none)
theorem bX7_init : mB mX7_init 0 := ⟨gm (i := 279) (by decide +kernel) (by decide +kernel), gm (i := 65) (by decide +kernel) (by decide +kernel), by decide +kernel, by decide +kernel, by decide +kernel, by decide +kernel, by decide +kernel, by decide +kernel⟩
theorem qX7_init : mI mX7_init 0 := ⟨bX7_init, gm (i := 278) (by decide +kernel) (by decide +kernel), rfl⟩
def mX7_readings : MI := (yX7_readings, cX7_readings, 3, (some .int))
theorem bX7_readings : mB mX7_readings 2 := ⟨gm (i := 484) (by decide +kernel) (by decide +kernel), gm (i := 65) (by decide +kernel) (by decide +kernel), by decide +kernel, by decide +kernel, by decide +kernel, by decide +kernel, by decide +kernel, by decide +kernel⟩
theorem qX7_readings : mV mX7_readings 2 := ⟨bX7_readings, gm (i := 482) (by decide +kernel) (by decide +kernel), gm (i := 483) (by decide +kernel) (by decide +kernel)⟩
def mX7_firstReading : MI := (yX7_firstReading, cX7_firstReading, 7, (some .int))
theorem bX7_firstReading : mB mX7_firstReading 2 := ⟨gm (i := 499) (by decide +kernel) (by decide +kernel), gm (i := 65) (by decide +kernel) (by decide +kernel), by decide +kernel, by decide +kernel, by decide +kernel, by decide +kernel, by decide +kernel, by decide +kernel⟩
theorem qX7_firstReading : mV mX7_firstReading 2 := ⟨bX7_firstReading, gm (i := 497) (by decide +kernel) (by decide +kernel), gm (i := 498) (by decide +kernel) (by decide +kernel)⟩
def mX7_spelt : MI := (yX7_spelt, cX7_spelt, 6, (some .int))
theorem bX7_spelt : mB mX7_spelt 2 := ⟨gm (i := 507) (by decide +kernel) (by decide +kernel), gm (i := 65) (by decide +kernel) (by decide +kernel), by decide +kernel, by decide +kernel, by decide +kernel, by decide +kernel, by decide +kernel, by decide +kernel⟩
theorem qX7_spelt : mV mX7_spelt 2 := ⟨bX7_spelt, gm (i := 505) (by decide +kernel) (by decide +kernel), gm (i := 506) (by decide +kernel) (by decide +kernel)⟩
def mX7_countWays : MI := (yX7_countWays, cX7_countWays, 5, none)
theorem bX7_countWays : mB mX7_countWays 2 := ⟨gm (i := 488) (by decide +kernel) (by decide +kernel), gm (i := 65) (by decide +kernel) (by decide +kernel), by decide +kernel, by decide +kernel, by decide +kernel, by decide +kernel, by decide +kernel, by decide +kernel⟩
theorem qX7_countWays : mV mX7_countWays 2 := ⟨bX7_countWays, gm (i := 487) (by decide +kernel) (by decide +kernel), gm (i := 9) (by decide +kernel) (by decide +kernel)⟩
def mX7_firstWordOn : MI := (yX7_firstWordOn, cX7_firstWordOn, 5, (some .int))
theorem bX7_firstWordOn : mB mX7_firstWordOn 3 := ⟨gm (i := 503) (by decide +kernel) (by decide +kernel), gm (i := 65) (by decide +kernel) (by decide +kernel), by decide +kernel, by decide +kernel, by decide +kernel, by decide +kernel, by decide +kernel, by decide +kernel⟩
theorem qX7_firstWordOn : mV mX7_firstWordOn 3 := ⟨bX7_firstWordOn, gm (i := 502) (by decide +kernel) (by decide +kernel), gm (i := 10) (by decide +kernel) (by decide +kernel)⟩
def mX7_begins : MI := (yX7_begins, cX7_begins, 5, (some .boolean))
theorem bX7_begins : mB mX7_begins 4 := ⟨gm (i := 491) (by decide +kernel) (by decide +kernel), gm (i := 65) (by decide +kernel) (by decide +kernel), by decide +kernel, by decide +kernel, by decide +kernel, by decide +kernel, by decide +kernel, by decide +kernel⟩
theorem qX7_begins : mS mX7_begins 4 := ⟨bX7_begins, gm (i := 490) (by decide +kernel) (by decide +kernel)⟩
def mX8_init : MI := (yX8_init, cX8_init, 1, none)
theorem bX8_init : mB mX8_init 0 := ⟨gm (i := 289) (by decide +kernel) (by decide +kernel), gm (i := 66) (by decide +kernel) (by decide +kernel), by decide +kernel, by decide +kernel, by decide +kernel, by decide +kernel, by decide +kernel, by decide +kernel⟩
theorem qX8_init : mI mX8_init 0 := ⟨bX8_init, gm (i := 288) (by decide +kernel) (by decide +kernel), rfl⟩
def mX8_more : MI := (yX8_more, cX8_more, 3, (some .int))
theorem bX8_more : mB mX8_more 2 := ⟨gm (i := 747) (by decide +kernel) (by decide +kernel), gm (i := 66) (by decide +kernel) (by decide +kernel), by decide +kernel, by decide +kernel, by decide +kernel, by decide +kernel, by decide +kernel, by decide +kernel⟩
theorem qX8_more : mV mX8_more 2 := ⟨bX8_more, gm (i := 745) (by decide +kernel) (by decide +kernel), gm (i := 746) (by decide +kernel) (by decide +kernel)⟩
def mX8_firstEnd : MI := (yX8_firstEnd, cX8_firstEnd, 3, (some .int))
theorem bX8_firstEnd : mB mX8_firstEnd 2 := ⟨gm (i := 765) (by decide +kernel) (by decide +kernel), gm (i := 66) (by decide +kernel) (by decide +kernel), by decide +kernel, by decide +kernel, by decide +kernel, by decide +kernel, by decide +kernel, by decide +kernel⟩
theorem qX8_firstEnd : mV mX8_firstEnd 2 := ⟨bX8_firstEnd, gm (i := 763) (by decide +kernel) (by decide +kernel), gm (i := 764) (by decide +kernel) (by decide +kernel)⟩
def mX8_byFront : MI := (yX8_byFront, cX8_byFront, 3, (some .int))
theorem bX8_byFront : mB mX8_byFront 2 := ⟨gm (i := 757) (by decide +kernel) (by decide +kernel), gm (i := 66) (by decide +kernel) (by decide +kernel), by decide +kernel, by decide +kernel, by decide +kernel, by decide +kernel, by decide +kernel, by decide +kernel⟩
theorem qX8_byFront : mV mX8_byFront 2 := ⟨bX8_byFront, gm (i := 756) (by decide +kernel) (by decide +kernel), gm (i := 21) (by decide +kernel) (by decide +kernel)⟩
def mX8_byBack : MI := (yX8_byBack, cX8_byBack, 3, (some .int))
theorem bX8_byBack : mB mX8_byBack 2 := ⟨gm (i := 761) (by decide +kernel) (by decide +kernel), gm (i := 66) (by decide +kernel) (by decide +kernel), by decide +kernel, by decide +kernel, by decide +kernel, by decide +kernel, by decide +kernel, by decide +kernel⟩
theorem qX8_byBack : mV mX8_byBack 2 := ⟨bX8_byBack, gm (i := 760) (by decide +kernel) (by decide +kernel), gm (i := 22) (by decide +kernel) (by decide +kernel)⟩
def mX8_fillLeads : MI := (yX8_fillLeads, cX8_fillLeads, 7, none)
theorem bX8_fillLeads : mB mX8_fillLeads 2 := ⟨gm (i := 751) (by decide +kernel) (by decide +kernel), gm (i := 66) (by decide +kernel) (by decide +kernel), by decide +kernel, by decide +kernel, by decide +kernel, by decide +kernel, by decide +kernel, by decide +kernel⟩
theorem qX8_fillLeads : mV mX8_fillLeads 2 := ⟨bX8_fillLeads, gm (i := 750) (by decide +kernel) (by decide +kernel), gm (i := 20) (by decide +kernel) (by decide +kernel)⟩
def mX9_init : MI := (yX9_init, cX9_init, 1, none)
theorem bX9_init : mB mX9_init 0 := ⟨gm (i := 266) (by decide +kernel) (by decide +kernel), gm (i := 64) (by decide +kernel) (by decide +kernel), by decide +kernel, by decide +kernel, by decide +kernel, by decide +kernel, by decide +kernel, by decide +kernel⟩
theorem qX9_init : mI mX9_init 0 := ⟨bX9_init, gm (i := 265) (by decide +kernel) (by decide +kernel), rfl⟩
def mX9_fewest : MI := (yX9_fewest, cX9_fewest, 4, (some .int))
theorem bX9_fewest : mB mX9_fewest 1 := ⟨gm (i := 657) (by decide +kernel) (by decide +kernel), gm (i := 64) (by decide +kernel) (by decide +kernel), by decide +kernel, by decide +kernel, by decide +kernel, by decide +kernel, by decide +kernel, by decide +kernel⟩
theorem qX9_fewest : mV mX9_fewest 1 := ⟨bX9_fewest, gm (i := 655) (by decide +kernel) (by decide +kernel), gm (i := 656) (by decide +kernel) (by decide +kernel)⟩
def mX9_firstTurn : MI := (yX9_firstTurn, cX9_firstTurn, 3, (some .int))
theorem bX9_firstTurn : mB mX9_firstTurn 1 := ⟨gm (i := 678) (by decide +kernel) (by decide +kernel), gm (i := 64) (by decide +kernel) (by decide +kernel), by decide +kernel, by decide +kernel, by decide +kernel, by decide +kernel, by decide +kernel, by decide +kernel⟩
theorem qX9_firstTurn : mV mX9_firstTurn 1 := ⟨bX9_firstTurn, gm (i := 676) (by decide +kernel) (by decide +kernel), gm (i := 677) (by decide +kernel) (by decide +kernel)⟩
def mX9_takeRanks : MI := (yX9_takeRanks, cX9_takeRanks, 5, none)
theorem bX9_takeRanks : mB mX9_takeRanks 1 := ⟨gm (i := 661) (by decide +kernel) (by decide +kernel), gm (i := 64) (by decide +kernel) (by decide +kernel), by decide +kernel, by decide +kernel, by decide +kernel, by decide +kernel, by decide +kernel, by decide +kernel⟩
theorem qX9_takeRanks : mV mX9_takeRanks 1 := ⟨bX9_takeRanks, gm (i := 660) (by decide +kernel) (by decide +kernel), gm (i := 15) (by decide +kernel) (by decide +kernel)⟩
def mX9_countGaps : MI := (yX9_countGaps, cX9_countGaps, 3, (some .int))
theorem bX9_countGaps : mB mX9_countGaps 0 := ⟨gm (i := 665) (by decide +kernel) (by decide +kernel), gm (i := 64) (by decide +kernel) (by decide +kernel), by decide +kernel, by decide +kernel, by decide +kernel, by decide +kernel, by decide +kernel, by decide +kernel⟩
theorem qX9_countGaps : mV mX9_countGaps 0 := ⟨bX9_countGaps, gm (i := 664) (by decide +kernel) (by decide +kernel), gm (i := 16) (by decide +kernel) (by decide +kernel)⟩
def mX9_gapBetween : MI := (yX9_gapBetween, cX9_gapBetween, 2, (some .int))
theorem bX9_gapBetween : mB mX9_gapBetween 2 := ⟨gm (i := 668) (by decide +kernel) (by decide +kernel), gm (i := 64) (by decide +kernel) (by decide +kernel), by decide +kernel, by decide +kernel, by decide +kernel, by decide +kernel, by decide +kernel, by decide +kernel⟩
theorem qX9_gapBetween : mS mX9_gapBetween 2 := ⟨bX9_gapBetween, gm (i := 667) (by decide +kernel) (by decide +kernel)⟩
def mX9_firstWithin : MI := (yX9_firstWithin, cX9_firstWithin, 7, (some .int))
theorem bX9_firstWithin : mB mX9_firstWithin 4 := ⟨gm (i := 671) (by decide +kernel) (by decide +kernel), gm (i := 64) (by decide +kernel) (by decide +kernel), by decide +kernel, by decide +kernel, by decide +kernel, by decide +kernel, by decide +kernel, by decide +kernel⟩
theorem qX9_firstWithin : mS mX9_firstWithin 4 := ⟨bX9_firstWithin, gm (i := 670) (by decide +kernel) (by decide +kernel)⟩
def mX9_turnRanks : MI := (yX9_turnRanks, cX9_turnRanks, 5, none)
theorem bX9_turnRanks : mB mX9_turnRanks 2 := ⟨gm (i := 674) (by decide +kernel) (by decide +kernel), gm (i := 64) (by decide +kernel) (by decide +kernel), by decide +kernel, by decide +kernel, by decide +kernel, by decide +kernel, by decide +kernel, by decide +kernel⟩
theorem qX9_turnRanks : mS mX9_turnRanks 2 := ⟨bX9_turnRanks, gm (i := 673) (by decide +kernel) (by decide +kernel)⟩
def mX10_init : MI := (yX10_init, cX10_init, 1, none)
theorem bX10_init : mB mX10_init 0 := ⟨gm (i := 78) (by decide +kernel) (by decide +kernel), gm (i := 58) (by decide +kernel) (by decide +kernel), by decide +kernel, by decide +kernel, by decide +kernel, by decide +kernel, by decide +kernel, by decide +kernel⟩
theorem qX10_init : mI mX10_init 0 := ⟨bX10_init, gm (i := 77) (by decide +kernel) (by decide +kernel), rfl⟩
def mX10_feed : MI := (yX10_feed, cX10_feed, 2, (some .int))
theorem bX10_feed : mB mX10_feed 1 := ⟨gm (i := 370) (by decide +kernel) (by decide +kernel), gm (i := 58) (by decide +kernel) (by decide +kernel), by decide +kernel, by decide +kernel, by decide +kernel, by decide +kernel, by decide +kernel, by decide +kernel⟩
theorem qX10_feed : mV mX10_feed 1 := ⟨bX10_feed, gm (i := 368) (by decide +kernel) (by decide +kernel), gm (i := 369) (by decide +kernel) (by decide +kernel)⟩
def mX10_cord : MI := (yX10_cord, cX10_cord, 2, (some .int))
theorem bX10_cord : mB mX10_cord 0 := ⟨gm (i := 376) (by decide +kernel) (by decide +kernel), gm (i := 58) (by decide +kernel) (by decide +kernel), by decide +kernel, by decide +kernel, by decide +kernel, by decide +kernel, by decide +kernel, by decide +kernel⟩
theorem qX10_cord : mV mX10_cord 0 := ⟨bX10_cord, gm (i := 374) (by decide +kernel) (by decide +kernel), gm (i := 375) (by decide +kernel) (by decide +kernel)⟩
def mX10_fault : MI := (yX10_fault, cX10_fault, 1, (some .int))
theorem bX10_fault : mB mX10_fault 0 := ⟨gm (i := 444) (by decide +kernel) (by decide +kernel), gm (i := 58) (by decide +kernel) (by decide +kernel), by decide +kernel, by decide +kernel, by decide +kernel, by decide +kernel, by decide +kernel, by decide +kernel⟩
theorem qX10_fault : mV mX10_fault 0 := ⟨bX10_fault, gm (i := 442) (by decide +kernel) (by decide +kernel), gm (i := 443) (by decide +kernel) (by decide +kernel)⟩
def mX10_told : MI := (yX10_told, cX10_told, 2, (some .int))
theorem bX10_told : mB mX10_told 1 := ⟨gm (i := 448) (by decide +kernel) (by decide +kernel), gm (i := 58) (by decide +kernel) (by decide +kernel), by decide +kernel, by decide +kernel, by decide +kernel, by decide +kernel, by decide +kernel, by decide +kernel⟩
theorem qX10_told : mV mX10_told 1 := ⟨bX10_told, gm (i := 446) (by decide +kernel) (by decide +kernel), gm (i := 447) (by decide +kernel) (by decide +kernel)⟩
def mX10_flag : MI := (yX10_flag, cX10_flag, 3, (some .int))
theorem bX10_flag : mB mX10_flag 2 := ⟨gm (i := 511) (by decide +kernel) (by decide +kernel), gm (i := 58) (by decide +kernel) (by decide +kernel), by decide +kernel, by decide +kernel, by decide +kernel, by decide +kernel, by decide +kernel, by decide +kernel⟩
theorem qX10_flag : mV mX10_flag 2 := ⟨bX10_flag, gm (i := 509) (by decide +kernel) (by decide +kernel), gm (i := 510) (by decide +kernel) (by decide +kernel)⟩
def mX10_at : MI := (yX10_at, cX10_at, 2, (some .int))
theorem bX10_at : mB mX10_at 1 := ⟨gm (i := 524) (by decide +kernel) (by decide +kernel), gm (i := 58) (by decide +kernel) (by decide +kernel), by decide +kernel, by decide +kernel, by decide +kernel, by decide +kernel, by decide +kernel, by decide +kernel⟩
theorem qX10_at : mV mX10_at 1 := ⟨bX10_at, gm (i := 522) (by decide +kernel) (by decide +kernel), gm (i := 523) (by decide +kernel) (by decide +kernel)⟩
def mX10_hook : MI := (yX10_hook, cX10_hook, 3, (some .int))
theorem bX10_hook : mB mX10_hook 2 := ⟨gm (i := 532) (by decide +kernel) (by decide +kernel), gm (i := 58) (by decide +kernel) (by decide +kernel), by decide +kernel, by decide +kernel, by decide +kernel, by decide +kernel, by decide +kernel, by decide +kernel⟩
theorem qX10_hook : mV mX10_hook 2 := ⟨bX10_hook, gm (i := 530) (by decide +kernel) (by decide +kernel), gm (i := 531) (by decide +kernel) (by decide +kernel)⟩
def mX10_word : MI := (yX10_word, cX10_word, 3, (some .int))
theorem bX10_word : mB mX10_word 2 := ⟨gm (i := 544) (by decide +kernel) (by decide +kernel), gm (i := 58) (by decide +kernel) (by decide +kernel), by decide +kernel, by decide +kernel, by decide +kernel, by decide +kernel, by decide +kernel, by decide +kernel⟩
theorem qX10_word : mV mX10_word 2 := ⟨bX10_word, gm (i := 542) (by decide +kernel) (by decide +kernel), gm (i := 543) (by decide +kernel) (by decide +kernel)⟩
def mX10_turn : MI := (yX10_turn, cX10_turn, 2, (some .int))
theorem bX10_turn : mB mX10_turn 1 := ⟨gm (i := 549) (by decide +kernel) (by decide +kernel), gm (i := 58) (by decide +kernel) (by decide +kernel), by decide +kernel, by decide +kernel, by decide +kernel, by decide +kernel, by decide +kernel, by decide +kernel⟩
theorem qX10_turn : mV mX10_turn 1 := ⟨bX10_turn, gm (i := 547) (by decide +kernel) (by decide +kernel), gm (i := 548) (by decide +kernel) (by decide +kernel)⟩
def mX10_cut : MI := (yX10_cut, cX10_cut, 2, (some .int))
theorem bX10_cut : mB mX10_cut 1 := ⟨gm (i := 573) (by decide +kernel) (by decide +kernel), gm (i := 58) (by decide +kernel) (by decide +kernel), by decide +kernel, by decide +kernel, by decide +kernel, by decide +kernel, by decide +kernel, by decide +kernel⟩
theorem qX10_cut : mV mX10_cut 1 := ⟨bX10_cut, gm (i := 571) (by decide +kernel) (by decide +kernel), gm (i := 572) (by decide +kernel) (by decide +kernel)⟩
def mX10_eat : MI := (yX10_eat, cX10_eat, 3, (some .int))
theorem bX10_eat : mB mX10_eat 1 := ⟨gm (i := 581) (by decide +kernel) (by decide +kernel), gm (i := 58) (by decide +kernel) (by decide +kernel), by decide +kernel, by decide +kernel, by decide +kernel, by decide +kernel, by decide +kernel, by decide +kernel⟩
theorem qX10_eat : mV mX10_eat 1 := ⟨bX10_eat, gm (i := 579) (by decide +kernel) (by decide +kernel), gm (i := 580) (by decide +kernel) (by decide +kernel)⟩
def mX10_sew : MI := (yX10_sew, cX10_sew, 3, (some .int))
theorem bX10_sew : mB mX10_sew 2 := ⟨gm (i := 590) (by decide +kernel) (by decide +kernel), gm (i := 58) (by decide +kernel) (by decide +kernel), by decide +kernel, by decide +kernel, by decide +kernel, by decide +kernel, by decide +kernel, by decide +kernel⟩
theorem qX10_sew : mV mX10_sew 2 := ⟨bX10_sew, gm (i := 588) (by decide +kernel) (by decide +kernel), gm (i := 589) (by decide +kernel) (by decide +kernel)⟩
def mX10_rain : MI := (yX10_rain, cX10_rain, 3, (some .int))
theorem bX10_rain : mB mX10_rain 1 := ⟨gm (i := 598) (by decide +kernel) (by decide +kernel), gm (i := 58) (by decide +kernel) (by decide +kernel), by decide +kernel, by decide +kernel, by decide +kernel, by decide +kernel, by decide +kernel, by decide +kernel⟩
theorem qX10_rain : mV mX10_rain 1 := ⟨bX10_rain, gm (i := 596) (by decide +kernel) (by decide +kernel), gm (i := 597) (by decide +kernel) (by decide +kernel)⟩
def mX10_wind : MI := (yX10_wind, cX10_wind, 3, (some .int))
theorem bX10_wind : mB mX10_wind 1 := ⟨gm (i := 608) (by decide +kernel) (by decide +kernel), gm (i := 58) (by decide +kernel) (by decide +kernel), by decide +kernel, by decide +kernel, by decide +kernel, by decide +kernel, by decide +kernel, by decide +kernel⟩
theorem qX10_wind : mV mX10_wind 1 := ⟨bX10_wind, gm (i := 606) (by decide +kernel) (by decide +kernel), gm (i := 607) (by decide +kernel) (by decide +kernel)⟩
def mX10_year : MI := (yX10_year, cX10_year, 4, (some .int))
theorem bX10_year : mB mX10_year 1 := ⟨gm (i := 612) (by decide +kernel) (by decide +kernel), gm (i := 58) (by decide +kernel) (by decide +kernel), by decide +kernel, by decide +kernel, by decide +kernel, by decide +kernel, by decide +kernel, by decide +kernel⟩
theorem qX10_year : mV mX10_year 1 := ⟨bX10_year, gm (i := 610) (by decide +kernel) (by decide +kernel), gm (i := 611) (by decide +kernel) (by decide +kernel)⟩
def mX10_drift : MI := (yX10_drift, cX10_drift, 4, (some .int))
theorem bX10_drift : mB mX10_drift 1 := ⟨gm (i := 626) (by decide +kernel) (by decide +kernel), gm (i := 58) (by decide +kernel) (by decide +kernel), by decide +kernel, by decide +kernel, by decide +kernel, by decide +kernel, by decide +kernel, by decide +kernel⟩
theorem qX10_drift : mV mX10_drift 1 := ⟨bX10_drift, gm (i := 624) (by decide +kernel) (by decide +kernel), gm (i := 625) (by decide +kernel) (by decide +kernel)⟩
def mX10_undo : MI := (yX10_undo, cX10_undo, 2, (some .int))
theorem bX10_undo : mB mX10_undo 1 := ⟨gm (i := 642) (by decide +kernel) (by decide +kernel), gm (i := 58) (by decide +kernel) (by decide +kernel), by decide +kernel, by decide +kernel, by decide +kernel, by decide +kernel, by decide +kernel, by decide +kernel⟩
theorem qX10_undo : mV mX10_undo 1 := ⟨bX10_undo, gm (i := 640) (by decide +kernel) (by decide +kernel), gm (i := 641) (by decide +kernel) (by decide +kernel)⟩
def mX10_turnings : MI := (yX10_turnings, cX10_turnings, 2, (some .int))
theorem bX10_turnings : mB mX10_turnings 1 := ⟨gm (i := 653) (by decide +kernel) (by decide +kernel), gm (i := 58) (by decide +kernel) (by decide +kernel), by decide +kernel, by decide +kernel, by decide +kernel, by decide +kernel, by decide +kernel, by decide +kernel⟩
theorem qX10_turnings : mV mX10_turnings 1 := ⟨bX10_turnings, gm (i := 651) (by decide +kernel) (by decide +kernel), gm (i := 652) (by decide +kernel) (by decide +kernel)⟩
def mX10_loose : MI := (yX10_loose, cX10_loose, 2, (some .int))
theorem bX10_loose : mB mX10_loose 1 := ⟨gm (i := 683) (by decide +kernel) (by decide +kernel), gm (i := 58) (by decide +kernel) (by decide +kernel), by decide +kernel, by decide +kernel, by decide +kernel, by decide +kernel, by decide +kernel, by decide +kernel⟩
theorem qX10_loose : mV mX10_loose 1 := ⟨bX10_loose, gm (i := 681) (by decide +kernel) (by decide +kernel), gm (i := 682) (by decide +kernel) (by decide +kernel)⟩
def mX10_felt : MI := (yX10_felt, cX10_felt, 3, (some .int))
theorem bX10_felt : mB mX10_felt 2 := ⟨gm (i := 697) (by decide +kernel) (by decide +kernel), gm (i := 58) (by decide +kernel) (by decide +kernel), by decide +kernel, by decide +kernel, by decide +kernel, by decide +kernel, by decide +kernel, by decide +kernel⟩
theorem qX10_felt : mV mX10_felt 2 := ⟨bX10_felt, gm (i := 695) (by decide +kernel) (by decide +kernel), gm (i := 696) (by decide +kernel) (by decide +kernel)⟩
def mX10_farthest : MI := (yX10_farthest, cX10_farthest, 4, (some .int))
theorem bX10_farthest : mB mX10_farthest 1 := ⟨gm (i := 708) (by decide +kernel) (by decide +kernel), gm (i := 58) (by decide +kernel) (by decide +kernel), by decide +kernel, by decide +kernel, by decide +kernel, by decide +kernel, by decide +kernel, by decide +kernel⟩
theorem qX10_farthest : mV mX10_farthest 1 := ⟨bX10_farthest, gm (i := 706) (by decide +kernel) (by decide +kernel), gm (i := 707) (by decide +kernel) (by decide +kernel)⟩
def mX10_hooked : MI := (yX10_hooked, cX10_hooked, 2, (some .int))
theorem bX10_hooked : mB mX10_hooked 1 := ⟨gm (i := 712) (by decide +kernel) (by decide +kernel), gm (i := 58) (by decide +kernel) (by decide +kernel), by decide +kernel, by decide +kernel, by decide +kernel, by decide +kernel, by decide +kernel, by decide +kernel⟩
theorem qX10_hooked : mV mX10_hooked 1 := ⟨bX10_hooked, gm (i := 710) (by decide +kernel) (by decide +kernel), gm (i := 711) (by decide +kernel) (by decide +kernel)⟩
def mX10_gap : MI := (yX10_gap, cX10_gap, 6, (some .int))
theorem bX10_gap : mB mX10_gap 1 := ⟨gm (i := 735) (by decide +kernel) (by decide +kernel), gm (i := 58) (by decide +kernel) (by decide +kernel), by decide +kernel, by decide +kernel, by decide +kernel, by decide +kernel, by decide +kernel, by decide +kernel⟩
theorem qX10_gap : mV mX10_gap 1 := ⟨bX10_gap, gm (i := 733) (by decide +kernel) (by decide +kernel), gm (i := 734) (by decide +kernel) (by decide +kernel)⟩
def mX10_ends : MI := (yX10_ends, cX10_ends, 2, (some .int))
theorem bX10_ends : mB mX10_ends 1 := ⟨gm (i := 743) (by decide +kernel) (by decide +kernel), gm (i := 58) (by decide +kernel) (by decide +kernel), by decide +kernel, by decide +kernel, by decide +kernel, by decide +kernel, by decide +kernel, by decide +kernel⟩
theorem qX10_ends : mV mX10_ends 1 := ⟨bX10_ends, gm (i := 741) (by decide +kernel) (by decide +kernel), gm (i := 742) (by decide +kernel) (by decide +kernel)⟩
def mX10_calm : MI := (yX10_calm, cX10_calm, 6, (some .int))
theorem bX10_calm : mB mX10_calm 2 := ⟨gm (i := 769) (by decide +kernel) (by decide +kernel), gm (i := 58) (by decide +kernel) (by decide +kernel), by decide +kernel, by decide +kernel, by decide +kernel, by decide +kernel, by decide +kernel, by decide +kernel⟩
theorem qX10_calm : mV mX10_calm 2 := ⟨bX10_calm, gm (i := 767) (by decide +kernel) (by decide +kernel), gm (i := 768) (by decide +kernel) (by decide +kernel)⟩
def mX10_old : MI := (yX10_old, cX10_old, 6, (some .int))
theorem bX10_old : mB mX10_old 3 := ⟨gm (i := 775) (by decide +kernel) (by decide +kernel), gm (i := 58) (by decide +kernel) (by decide +kernel), by decide +kernel, by decide +kernel, by decide +kernel, by decide +kernel, by decide +kernel, by decide +kernel⟩
theorem qX10_old : mV mX10_old 3 := ⟨bX10_old, gm (i := 773) (by decide +kernel) (by decide +kernel), gm (i := 774) (by decide +kernel) (by decide +kernel)⟩
def mX10_couldBe : MI := (yX10_couldBe, cX10_couldBe, 1, (some .int))
theorem bX10_couldBe : mB mX10_couldBe 0 := ⟨gm (i := 783) (by decide +kernel) (by decide +kernel), gm (i := 58) (by decide +kernel) (by decide +kernel), by decide +kernel, by decide +kernel, by decide +kernel, by decide +kernel, by decide +kernel, by decide +kernel⟩
theorem qX10_couldBe : mV mX10_couldBe 0 := ⟨bX10_couldBe, gm (i := 781) (by decide +kernel) (by decide +kernel), gm (i := 782) (by decide +kernel) (by decide +kernel)⟩
def mX10_next : MI := (yX10_next, cX10_next, 1, (some .int))
theorem bX10_next : mB mX10_next 0 := ⟨gm (i := 795) (by decide +kernel) (by decide +kernel), gm (i := 58) (by decide +kernel) (by decide +kernel), by decide +kernel, by decide +kernel, by decide +kernel, by decide +kernel, by decide +kernel, by decide +kernel⟩
theorem qX10_next : mV mX10_next 0 := ⟨bX10_next, gm (i := 793) (by decide +kernel) (by decide +kernel), gm (i := 794) (by decide +kernel) (by decide +kernel)⟩
def mX10_write : MI := (yX10_write, cX10_write, 3, (some .int))
theorem bX10_write : mB mX10_write 2 := ⟨gm (i := 805) (by decide +kernel) (by decide +kernel), gm (i := 58) (by decide +kernel) (by decide +kernel), by decide +kernel, by decide +kernel, by decide +kernel, by decide +kernel, by decide +kernel, by decide +kernel⟩
theorem qX10_write : mV mX10_write 2 := ⟨bX10_write, gm (i := 803) (by decide +kernel) (by decide +kernel), gm (i := 804) (by decide +kernel) (by decide +kernel)⟩
def mX10_judge : MI := (yX10_judge, cX10_judge, 1, (some .int))
theorem bX10_judge : mB mX10_judge 0 := ⟨gm (i := 813) (by decide +kernel) (by decide +kernel), gm (i := 58) (by decide +kernel) (by decide +kernel), by decide +kernel, by decide +kernel, by decide +kernel, by decide +kernel, by decide +kernel, by decide +kernel⟩
theorem qX10_judge : mV mX10_judge 0 := ⟨bX10_judge, gm (i := 811) (by decide +kernel) (by decide +kernel), gm (i := 812) (by decide +kernel) (by decide +kernel)⟩
def mX10_tear : MI := (yX10_tear, cX10_tear, 2, (some .int))
theorem bX10_tear : mB mX10_tear 0 := ⟨gm (i := 822) (by decide +kernel) (by decide +kernel), gm (i := 58) (by decide +kernel) (by decide +kernel), by decide +kernel, by decide +kernel, by decide +kernel, by decide +kernel, by decide +kernel, by decide +kernel⟩
theorem qX10_tear : mV mX10_tear 0 := ⟨bX10_tear, gm (i := 820) (by decide +kernel) (by decide +kernel), gm (i := 821) (by decide +kernel) (by decide +kernel)⟩
def mX10_seed : MI := (yX10_seed, cX10_seed, 3, (some .int))
theorem bX10_seed : mB mX10_seed 1 := ⟨gm (i := 826) (by decide +kernel) (by decide +kernel), gm (i := 58) (by decide +kernel) (by decide +kernel), by decide +kernel, by decide +kernel, by decide +kernel, by decide +kernel, by decide +kernel, by decide +kernel⟩
theorem qX10_seed : mV mX10_seed 1 := ⟨bX10_seed, gm (i := 824) (by decide +kernel) (by decide +kernel), gm (i := 825) (by decide +kernel) (by decide +kernel)⟩
def mX10_keep : MI := (yX10_keep, cX10_keep, 2, (some .int))
theorem bX10_keep : mB mX10_keep 1 := ⟨gm (i := 830) (by decide +kernel) (by decide +kernel), gm (i := 58) (by decide +kernel) (by decide +kernel), by decide +kernel, by decide +kernel, by decide +kernel, by decide +kernel, by decide +kernel, by decide +kernel⟩
theorem qX10_keep : mV mX10_keep 1 := ⟨bX10_keep, gm (i := 828) (by decide +kernel) (by decide +kernel), gm (i := 829) (by decide +kernel) (by decide +kernel)⟩
def mX10_goBack : MI := (yX10_goBack, cX10_goBack, 2, (some .int))
theorem bX10_goBack : mB mX10_goBack 1 := ⟨gm (i := 835) (by decide +kernel) (by decide +kernel), gm (i := 58) (by decide +kernel) (by decide +kernel), by decide +kernel, by decide +kernel, by decide +kernel, by decide +kernel, by decide +kernel, by decide +kernel⟩
theorem qX10_goBack : mV mX10_goBack 1 := ⟨bX10_goBack, gm (i := 833) (by decide +kernel) (by decide +kernel), gm (i := 834) (by decide +kernel) (by decide +kernel)⟩
def mX10_offSet : MI := (yX10_offSet, cX10_offSet, 1, (some .int))
theorem bX10_offSet : mB mX10_offSet 0 := ⟨gm (i := 739) (by decide +kernel) (by decide +kernel), gm (i := 58) (by decide +kernel) (by decide +kernel), by decide +kernel, by decide +kernel, by decide +kernel, by decide +kernel, by decide +kernel, by decide +kernel⟩
theorem qX10_offSet : mV mX10_offSet 0 := ⟨bX10_offSet, gm (i := 738) (by decide +kernel) (by decide +kernel), gm (i := 19) (by decide +kernel) (by decide +kernel)⟩
def mX10_yearsRefused : MI := (yX10_yearsRefused, cX10_yearsRefused, 2, (some .int))
theorem bX10_yearsRefused : mB mX10_yearsRefused 1 := ⟨gm (i := 616) (by decide +kernel) (by decide +kernel), gm (i := 58) (by decide +kernel) (by decide +kernel), by decide +kernel, by decide +kernel, by decide +kernel, by decide +kernel, by decide +kernel, by decide +kernel⟩
theorem qX10_yearsRefused : mV mX10_yearsRefused 1 := ⟨bX10_yearsRefused, gm (i := 615) (by decide +kernel) (by decide +kernel), gm (i := 12) (by decide +kernel) (by decide +kernel)⟩
def mX10_draw : MI := (yX10_draw, cX10_draw, 2, (some .int))
theorem bX10_draw : mB mX10_draw 1 := ⟨gm (i := 634) (by decide +kernel) (by decide +kernel), gm (i := 58) (by decide +kernel) (by decide +kernel), by decide +kernel, by decide +kernel, by decide +kernel, by decide +kernel, by decide +kernel, by decide +kernel⟩
theorem qX10_draw : mV mX10_draw 1 := ⟨bX10_draw, gm (i := 633) (by decide +kernel) (by decide +kernel), gm (i := 14) (by decide +kernel) (by decide +kernel)⟩
def mX10_chance : MI := (yX10_chance, cX10_chance, 2, none)
theorem bX10_chance : mB mX10_chance 0 := ⟨gm (i := 630) (by decide +kernel) (by decide +kernel), gm (i := 58) (by decide +kernel) (by decide +kernel), by decide +kernel, by decide +kernel, by decide +kernel, by decide +kernel, by decide +kernel, by decide +kernel⟩
theorem qX10_chance : mV mX10_chance 0 := ⟨bX10_chance, gm (i := 629) (by decide +kernel) (by decide +kernel), gm (i := 13) (by decide +kernel) (by decide +kernel)⟩
def mX10_hasBit : MI := (yX10_hasBit, cX10_hasBit, 2, (some .boolean))
theorem bX10_hasBit : mB mX10_hasBit 2 := ⟨gm (i := 463) (by decide +kernel) (by decide +kernel), gm (i := 58) (by decide +kernel) (by decide +kernel), by decide +kernel, by decide +kernel, by decide +kernel, by decide +kernel, by decide +kernel, by decide +kernel⟩
theorem qX10_hasBit : mS mX10_hasBit 2 := ⟨bX10_hasBit, gm (i := 462) (by decide +kernel) (by decide +kernel)⟩
def mX11_init : MI := (yX11_init, cX11_init, 1, none)
theorem bX11_init : mB mX11_init 0 := ⟨gm (i := 840) (by decide +kernel) (by decide +kernel), gm (i := 69) (by decide +kernel) (by decide +kernel), by decide +kernel, by decide +kernel, by decide +kernel, by decide +kernel, by decide +kernel, by decide +kernel⟩
theorem qX11_init : mI mX11_init 0 := ⟨bX11_init, gm (i := 839) (by decide +kernel) (by decide +kernel), rfl⟩
def mX11_in : MI := (yX11_in, cX11_in, 3, (some .boolean))
theorem bX11_in : mB mX11_in 3 := ⟨gm (i := 925) (by decide +kernel) (by decide +kernel), gm (i := 69) (by decide +kernel) (by decide +kernel), by decide +kernel, by decide +kernel, by decide +kernel, by decide +kernel, by decide +kernel, by decide +kernel⟩
theorem qX11_in : mS mX11_in 3 := ⟨bX11_in, gm (i := 924) (by decide +kernel) (by decide +kernel)⟩
def mX11_has : MI := (yX11_has, cX11_has, 2, (some .boolean))
theorem bX11_has : mB mX11_has 2 := ⟨gm (i := 985) (by decide +kernel) (by decide +kernel), gm (i := 69) (by decide +kernel) (by decide +kernel), by decide +kernel, by decide +kernel, by decide +kernel, by decide +kernel, by decide +kernel, by decide +kernel⟩
theorem qX11_has : mS mX11_has 2 := ⟨bX11_has, gm (i := 984) (by decide +kernel) (by decide +kernel)⟩
def mX11_ones : MI := (yX11_ones, cX11_ones, 3, (some .int))
theorem bX11_ones : mB mX11_ones 1 := ⟨gm (i := 1078) (by decide +kernel) (by decide +kernel), gm (i := 69) (by decide +kernel) (by decide +kernel), by decide +kernel, by decide +kernel, by decide +kernel, by decide +kernel, by decide +kernel, by decide +kernel⟩
theorem qX11_ones : mS mX11_ones 1 := ⟨bX11_ones, gm (i := 1077) (by decide +kernel) (by decide +kernel)⟩
def mX11_isFlag : MI := (yX11_isFlag, cX11_isFlag, 2, (some .boolean))
theorem bX11_isFlag : mB mX11_isFlag 1 := ⟨gm (i := 1021) (by decide +kernel) (by decide +kernel), gm (i := 69) (by decide +kernel) (by decide +kernel), by decide +kernel, by decide +kernel, by decide +kernel, by decide +kernel, by decide +kernel, by decide +kernel⟩
theorem qX11_isFlag : mV mX11_isFlag 1 := ⟨bX11_isFlag, gm (i := 1020) (by decide +kernel) (by decide +kernel), gm (i := 40) (by decide +kernel) (by decide +kernel)⟩
def mX11_feed : MI := (yX11_feed, cX11_feed, 2, (some .int))
theorem bX11_feed : mB mX11_feed 1 := ⟨gm (i := 922) (by decide +kernel) (by decide +kernel), gm (i := 69) (by decide +kernel) (by decide +kernel), by decide +kernel, by decide +kernel, by decide +kernel, by decide +kernel, by decide +kernel, by decide +kernel⟩
theorem qX11_feed : mV mX11_feed 1 := ⟨bX11_feed, gm (i := 920) (by decide +kernel) (by decide +kernel), gm (i := 921) (by decide +kernel) (by decide +kernel)⟩
def mX11_next0 : MI := (yX11_next0, cX11_next0, 1, (some .int))
theorem bX11_next0 : mB mX11_next0 0 := ⟨gm (i := 939) (by decide +kernel) (by decide +kernel), gm (i := 69) (by decide +kernel) (by decide +kernel), by decide +kernel, by decide +kernel, by decide +kernel, by decide +kernel, by decide +kernel, by decide +kernel⟩
theorem qX11_next0 : mV mX11_next0 0 := ⟨bX11_next0, gm (i := 938) (by decide +kernel) (by decide +kernel), gm (i := 24) (by decide +kernel) (by decide +kernel)⟩
def mX11_isFigure : MI := (yX11_isFigure, cX11_isFigure, 1, (some .boolean))
theorem bX11_isFigure : mB mX11_isFigure 1 := ⟨gm (i := 954) (by decide +kernel) (by decide +kernel), gm (i := 69) (by decide +kernel) (by decide +kernel), by decide +kernel, by decide +kernel, by decide +kernel, by decide +kernel, by decide +kernel, by decide +kernel⟩
theorem qX11_isFigure : mS mX11_isFigure 1 := ⟨bX11_isFigure, gm (i := 953) (by decide +kernel) (by decide +kernel)⟩
def mX11_faulty : MI := (yX11_faulty, cX11_faulty, 2, (some .boolean))
theorem bX11_faulty : mB mX11_faulty 1 := ⟨gm (i := 947) (by decide +kernel) (by decide +kernel), gm (i := 69) (by decide +kernel) (by decide +kernel), by decide +kernel, by decide +kernel, by decide +kernel, by decide +kernel, by decide +kernel, by decide +kernel⟩
theorem qX11_faulty : mV mX11_faulty 1 := ⟨bX11_faulty, gm (i := 946) (by decide +kernel) (by decide +kernel), gm (i := 26) (by decide +kernel) (by decide +kernel)⟩
def mX11_number : MI := (yX11_number, cX11_number, 6, (some .boolean))
theorem bX11_number : mB mX11_number 3 := ⟨gm (i := 951) (by decide +kernel) (by decide +kernel), gm (i := 69) (by decide +kernel) (by decide +kernel), by decide +kernel, by decide +kernel, by decide +kernel, by decide +kernel, by decide +kernel, by decide +kernel⟩
theorem qX11_number : mV mX11_number 3 := ⟨bX11_number, gm (i := 950) (by decide +kernel) (by decide +kernel), gm (i := 27) (by decide +kernel) (by decide +kernel)⟩
def mX11_ends : MI := (yX11_ends, cX11_ends, 1, (some .boolean))
theorem bX11_ends : mB mX11_ends 0 := ⟨gm (i := 958) (by decide +kernel) (by decide +kernel), gm (i := 69) (by decide +kernel) (by decide +kernel), by decide +kernel, by decide +kernel, by decide +kernel, by decide +kernel, by decide +kernel, by decide +kernel⟩
theorem qX11_ends : mV mX11_ends 0 := ⟨bX11_ends, gm (i := 957) (by decide +kernel) (by decide +kernel), gm (i := 28) (by decide +kernel) (by decide +kernel)⟩
def mX11_readsWord : MI := (yX11_readsWord, cX11_readsWord, 3, (some .boolean))
theorem bX11_readsWord : mB mX11_readsWord 0 := ⟨gm (i := 962) (by decide +kernel) (by decide +kernel), gm (i := 69) (by decide +kernel) (by decide +kernel), by decide +kernel, by decide +kernel, by decide +kernel, by decide +kernel, by decide +kernel, by decide +kernel⟩
theorem qX11_readsWord : mV mX11_readsWord 0 := ⟨bX11_readsWord, gm (i := 961) (by decide +kernel) (by decide +kernel), gm (i := 29) (by decide +kernel) (by decide +kernel)⟩
def mX11_readsClause : MI := (yX11_readsClause, cX11_readsClause, 4, (some .boolean))
theorem bX11_readsClause : mB mX11_readsClause 1 := ⟨gm (i := 943) (by decide +kernel) (by decide +kernel), gm (i := 69) (by decide +kernel) (by decide +kernel), by decide +kernel, by decide +kernel, by decide +kernel, by decide +kernel, by decide +kernel, by decide +kernel⟩
theorem qX11_readsClause : mV mX11_readsClause 1 := ⟨bX11_readsClause, gm (i := 942) (by decide +kernel) (by decide +kernel), gm (i := 25) (by decide +kernel) (by decide +kernel)⟩
def mX11_reads : MI := (yX11_reads, cX11_reads, 2, (some .boolean))
theorem bX11_reads : mB mX11_reads 0 := ⟨gm (i := 935) (by decide +kernel) (by decide +kernel), gm (i := 69) (by decide +kernel) (by decide +kernel), by decide +kernel, by decide +kernel, by decide +kernel, by decide +kernel, by decide +kernel, by decide +kernel⟩
theorem qX11_reads : mV mX11_reads 0 := ⟨bX11_reads, gm (i := 934) (by decide +kernel) (by decide +kernel), gm (i := 23) (by decide +kernel) (by decide +kernel)⟩
def mX11_cord : MI := (yX11_cord, cX11_cord, 3, (some .int))
theorem bX11_cord : mB mX11_cord 0 := ⟨gm (i := 931) (by decide +kernel) (by decide +kernel), gm (i := 69) (by decide +kernel) (by decide +kernel), by decide +kernel, by decide +kernel, by decide +kernel, by decide +kernel, by decide +kernel, by decide +kernel⟩
theorem qX11_cord : mV mX11_cord 0 := ⟨bX11_cord, gm (i := 929) (by decide +kernel) (by decide +kernel), gm (i := 930) (by decide +kernel) (by decide +kernel)⟩
def mX11_fault : MI := (yX11_fault, cX11_fault, 1, (some .int))
theorem bX11_fault : mB mX11_fault 0 := ⟨gm (i := 966) (by decide +kernel) (by decide +kernel), gm (i := 69) (by decide +kernel) (by decide +kernel), by decide +kernel, by decide +kernel, by decide +kernel, by decide +kernel, by decide +kernel, by decide +kernel⟩
theorem qX11_fault : mV mX11_fault 0 := ⟨bX11_fault, gm (i := 964) (by decide +kernel) (by decide +kernel), gm (i := 965) (by decide +kernel) (by decide +kernel)⟩
def mX11_placeOf : MI := (yX11_placeOf, cX11_placeOf, 4, (some .int))
theorem bX11_placeOf : mB mX11_placeOf 1 := ⟨gm (i := 1026) (by decide +kernel) (by decide +kernel), gm (i := 69) (by decide +kernel) (by decide +kernel), by decide +kernel, by decide +kernel, by decide +kernel, by decide +kernel, by decide +kernel, by decide +kernel⟩
theorem qX11_placeOf : mV mX11_placeOf 1 := ⟨bX11_placeOf, gm (i := 1025) (by decide +kernel) (by decide +kernel), gm (i := 41) (by decide +kernel) (by decide +kernel)⟩
def mX11_isOut : MI := (yX11_isOut, cX11_isOut, 3, (some .boolean))
theorem bX11_isOut : mB mX11_isOut 1 := ⟨gm (i := 982) (by decide +kernel) (by decide +kernel), gm (i := 69) (by decide +kernel) (by decide +kernel), by decide +kernel, by decide +kernel, by decide +kernel, by decide +kernel, by decide +kernel, by decide +kernel⟩
theorem qX11_isOut : mV mX11_isOut 1 := ⟨bX11_isOut, gm (i := 981) (by decide +kernel) (by decide +kernel), gm (i := 32) (by decide +kernel) (by decide +kernel)⟩
def mX11_onIt : MI := (yX11_onIt, cX11_onIt, 3, (some .int))
theorem bX11_onIt : mB mX11_onIt 0 := ⟨gm (i := 974) (by decide +kernel) (by decide +kernel), gm (i := 69) (by decide +kernel) (by decide +kernel), by decide +kernel, by decide +kernel, by decide +kernel, by decide +kernel, by decide +kernel, by decide +kernel⟩
theorem qX11_onIt : mV mX11_onIt 0 := ⟨bX11_onIt, gm (i := 973) (by decide +kernel) (by decide +kernel), gm (i := 30) (by decide +kernel) (by decide +kernel)⟩
def mX11_outs : MI := (yX11_outs, cX11_outs, 3, (some .int))
theorem bX11_outs : mB mX11_outs 0 := ⟨gm (i := 978) (by decide +kernel) (by decide +kernel), gm (i := 69) (by decide +kernel) (by decide +kernel), by decide +kernel, by decide +kernel, by decide +kernel, by decide +kernel, by decide +kernel, by decide +kernel⟩
theorem qX11_outs : mV mX11_outs 0 := ⟨bX11_outs, gm (i := 977) (by decide +kernel) (by decide +kernel), gm (i := 31) (by decide +kernel) (by decide +kernel)⟩
def mX11_crossed : MI := (yX11_crossed, cX11_crossed, 4, (some .int))
theorem bX11_crossed : mB mX11_crossed 0 := ⟨gm (i := 989) (by decide +kernel) (by decide +kernel), gm (i := 69) (by decide +kernel) (by decide +kernel), by decide +kernel, by decide +kernel, by decide +kernel, by decide +kernel, by decide +kernel, by decide +kernel⟩
theorem qX11_crossed : mV mX11_crossed 0 := ⟨bX11_crossed, gm (i := 988) (by decide +kernel) (by decide +kernel), gm (i := 33) (by decide +kernel) (by decide +kernel)⟩
def mX11_cutAt : MI := (yX11_cutAt, cX11_cutAt, 6, (some .int))
theorem bX11_cutAt : mB mX11_cutAt 0 := ⟨gm (i := 993) (by decide +kernel) (by decide +kernel), gm (i := 69) (by decide +kernel) (by decide +kernel), by decide +kernel, by decide +kernel, by decide +kernel, by decide +kernel, by decide +kernel, by decide +kernel⟩
theorem qX11_cutAt : mV mX11_cutAt 0 := ⟨bX11_cutAt, gm (i := 992) (by decide +kernel) (by decide +kernel), gm (i := 34) (by decide +kernel) (by decide +kernel)⟩
def mX11_longOf : MI := (yX11_longOf, cX11_longOf, 3, (some .int))
theorem bX11_longOf : mB mX11_longOf 1 := ⟨gm (i := 1005) (by decide +kernel) (by decide +kernel), gm (i := 69) (by decide +kernel) (by decide +kernel), by decide +kernel, by decide +kernel, by decide +kernel, by decide +kernel, by decide +kernel, by decide +kernel⟩
theorem qX11_longOf : mV mX11_longOf 1 := ⟨bX11_longOf, gm (i := 1004) (by decide +kernel) (by decide +kernel), gm (i := 37) (by decide +kernel) (by decide +kernel)⟩
def mX11_fits : MI := (yX11_fits, cX11_fits, 6, (some .boolean))
theorem bX11_fits : mB mX11_fits 2 := ⟨gm (i := 1001) (by decide +kernel) (by decide +kernel), gm (i := 69) (by decide +kernel) (by decide +kernel), by decide +kernel, by decide +kernel, by decide +kernel, by decide +kernel, by decide +kernel, by decide +kernel⟩
theorem qX11_fits : mV mX11_fits 2 := ⟨bX11_fits, gm (i := 1000) (by decide +kernel) (by decide +kernel), gm (i := 36) (by decide +kernel) (by decide +kernel)⟩
def mX11_readings : MI := (yX11_readings, cX11_readings, 3, (some .int))
theorem bX11_readings : mB mX11_readings 0 := ⟨gm (i := 997) (by decide +kernel) (by decide +kernel), gm (i := 69) (by decide +kernel) (by decide +kernel), by decide +kernel, by decide +kernel, by decide +kernel, by decide +kernel, by decide +kernel, by decide +kernel⟩
theorem qX11_readings : mV mX11_readings 0 := ⟨bX11_readings, gm (i := 996) (by decide +kernel) (by decide +kernel), gm (i := 35) (by decide +kernel) (by decide +kernel)⟩
def mX11_firstOf : MI := (yX11_firstOf, cX11_firstOf, 4, (some .int))
theorem bX11_firstOf : mB mX11_firstOf 0 := ⟨gm (i := 1009) (by decide +kernel) (by decide +kernel), gm (i := 69) (by decide +kernel) (by decide +kernel), by decide +kernel, by decide +kernel, by decide +kernel, by decide +kernel, by decide +kernel, by decide +kernel⟩
theorem qX11_firstOf : mV mX11_firstOf 0 := ⟨bX11_firstOf, gm (i := 1008) (by decide +kernel) (by decide +kernel), gm (i := 38) (by decide +kernel) (by decide +kernel)⟩
def mX11_begun : MI := (yX11_begun, cX11_begun, 4, (some .int))
theorem bX11_begun : mB mX11_begun 0 := ⟨gm (i := 1013) (by decide +kernel) (by decide +kernel), gm (i := 69) (by decide +kernel) (by decide +kernel), by decide +kernel, by decide +kernel, by decide +kernel, by decide +kernel, by decide +kernel, by decide +kernel⟩
theorem qX11_begun : mV mX11_begun 0 := ⟨bX11_begun, gm (i := 1012) (by decide +kernel) (by decide +kernel), gm (i := 39) (by decide +kernel) (by decide +kernel)⟩
def mX11_told : MI := (yX11_told, cX11_told, 2, (some .int))
theorem bX11_told : mB mX11_told 1 := ⟨gm (i := 970) (by decide +kernel) (by decide +kernel), gm (i := 69) (by decide +kernel) (by decide +kernel), by decide +kernel, by decide +kernel, by decide +kernel, by decide +kernel, by decide +kernel, by decide +kernel⟩
theorem qX11_told : mV mX11_told 1 := ⟨bX11_told, gm (i := 968) (by decide +kernel) (by decide +kernel), gm (i := 969) (by decide +kernel) (by decide +kernel)⟩
def mX11_flag : MI := (yX11_flag, cX11_flag, 3, (some .int))
theorem bX11_flag : mB mX11_flag 2 := ⟨gm (i := 1017) (by decide +kernel) (by decide +kernel), gm (i := 69) (by decide +kernel) (by decide +kernel), by decide +kernel, by decide +kernel, by decide +kernel, by decide +kernel, by decide +kernel, by decide +kernel⟩
theorem qX11_flag : mV mX11_flag 2 := ⟨bX11_flag, gm (i := 1015) (by decide +kernel) (by decide +kernel), gm (i := 1016) (by decide +kernel) (by decide +kernel)⟩
def mX11_at : MI := (yX11_at, cX11_at, 2, (some .int))
theorem bX11_at : mB mX11_at 1 := ⟨gm (i := 1030) (by decide +kernel) (by decide +kernel), gm (i := 69) (by decide +kernel) (by decide +kernel), by decide +kernel, by decide +kernel, by decide +kernel, by decide +kernel, by decide +kernel, by decide +kernel⟩
theorem qX11_at : mV mX11_at 1 := ⟨bX11_at, gm (i := 1028) (by decide +kernel) (by decide +kernel), gm (i := 1029) (by decide +kernel) (by decide +kernel)⟩
def mX11_reached : MI := (yX11_reached, cX11_reached, 6, (some .int))
theorem bX11_reached : mB mX11_reached 1 := ⟨gm (i := 1038) (by decide +kernel) (by decide +kernel), gm (i := 69) (by decide +kernel) (by decide +kernel), by decide +kernel, by decide +kernel, by decide +kernel, by decide +kernel, by decide +kernel, by decide +kernel⟩
theorem qX11_reached : mV mX11_reached 1 := ⟨bX11_reached, gm (i := 1037) (by decide +kernel) (by decide +kernel), gm (i := 42) (by decide +kernel) (by decide +kernel)⟩
def mX11_hook : MI := (yX11_hook, cX11_hook, 3, (some .int))
theorem bX11_hook : mB mX11_hook 2 := ⟨gm (i := 1034) (by decide +kernel) (by decide +kernel), gm (i := 69) (by decide +kernel) (by decide +kernel), by decide +kernel, by decide +kernel, by decide +kernel, by decide +kernel, by decide +kernel, by decide +kernel⟩
theorem qX11_hook : mV mX11_hook 2 := ⟨bX11_hook, gm (i := 1032) (by decide +kernel) (by decide +kernel), gm (i := 1033) (by decide +kernel) (by decide +kernel)⟩
def mX11_word : MI := (yX11_word, cX11_word, 3, (some .int))
theorem bX11_word : mB mX11_word 2 := ⟨gm (i := 1042) (by decide +kernel) (by decide +kernel), gm (i := 69) (by decide +kernel) (by decide +kernel), by decide +kernel, by decide +kernel, by decide +kernel, by decide +kernel, by decide +kernel, by decide +kernel⟩
theorem qX11_word : mV mX11_word 2 := ⟨bX11_word, gm (i := 1040) (by decide +kernel) (by decide +kernel), gm (i := 1041) (by decide +kernel) (by decide +kernel)⟩
def mX11_keeps : MI := (yX11_keeps, cX11_keeps, 2, none)
theorem bX11_keeps : mB mX11_keeps 0 := ⟨gm (i := 1050) (by decide +kernel) (by decide +kernel), gm (i := 69) (by decide +kernel) (by decide +kernel), by decide +kernel, by decide +kernel, by decide +kernel, by decide +kernel, by decide +kernel, by decide +kernel⟩
theorem qX11_keeps : mV mX11_keeps 0 := ⟨bX11_keeps, gm (i := 1049) (by decide +kernel) (by decide +kernel), gm (i := 43) (by decide +kernel) (by decide +kernel)⟩
def mX11_turn : MI := (yX11_turn, cX11_turn, 3, (some .int))
theorem bX11_turn : mB mX11_turn 1 := ⟨gm (i := 1046) (by decide +kernel) (by decide +kernel), gm (i := 69) (by decide +kernel) (by decide +kernel), by decide +kernel, by decide +kernel, by decide +kernel, by decide +kernel, by decide +kernel, by decide +kernel⟩
theorem qX11_turn : mV mX11_turn 1 := ⟨bX11_turn, gm (i := 1044) (by decide +kernel) (by decide +kernel), gm (i := 1045) (by decide +kernel) (by decide +kernel)⟩
def mX11_cuts : MI := (yX11_cuts, cX11_cuts, 4, none)
theorem bX11_cuts : mB mX11_cuts 1 := ⟨gm (i := 1058) (by decide +kernel) (by decide +kernel), gm (i := 69) (by decide +kernel) (by decide +kernel), by decide +kernel, by decide +kernel, by decide +kernel, by decide +kernel, by decide +kernel, by decide +kernel⟩
theorem qX11_cuts : mV mX11_cuts 1 := ⟨bX11_cuts, gm (i := 1057) (by decide +kernel) (by decide +kernel), gm (i := 44) (by decide +kernel) (by decide +kernel)⟩
def mX11_cut : MI := (yX11_cut, cX11_cut, 2, (some .int))
theorem bX11_cut : mB mX11_cut 1 := ⟨gm (i := 1054) (by decide +kernel) (by decide +kernel), gm (i := 69) (by decide +kernel) (by decide +kernel), by decide +kernel, by decide +kernel, by decide +kernel, by decide +kernel, by decide +kernel, by decide +kernel⟩
theorem qX11_cut : mV mX11_cut 1 := ⟨bX11_cut, gm (i := 1052) (by decide +kernel) (by decide +kernel), gm (i := 1053) (by decide +kernel) (by decide +kernel)⟩
def mX11_eats : MI := (yX11_eats, cX11_eats, 3, none)
theorem bX11_eats : mB mX11_eats 1 := ⟨gm (i := 1067) (by decide +kernel) (by decide +kernel), gm (i := 69) (by decide +kernel) (by decide +kernel), by decide +kernel, by decide +kernel, by decide +kernel, by decide +kernel, by decide +kernel, by decide +kernel⟩
theorem qX11_eats : mV mX11_eats 1 := ⟨bX11_eats, gm (i := 1066) (by decide +kernel) (by decide +kernel), gm (i := 45) (by decide +kernel) (by decide +kernel)⟩
def mX11_eat : MI := (yX11_eat, cX11_eat, 3, (some .int))
theorem bX11_eat : mB mX11_eat 1 := ⟨gm (i := 1062) (by decide +kernel) (by decide +kernel), gm (i := 69) (by decide +kernel) (by decide +kernel), by decide +kernel, by decide +kernel, by decide +kernel, by decide +kernel, by decide +kernel, by decide +kernel⟩
theorem qX11_eat : mV mX11_eat 1 := ⟨bX11_eat, gm (i := 1060) (by decide +kernel) (by decide +kernel), gm (i := 1061) (by decide +kernel) (by decide +kernel)⟩
def mX11_sew : MI := (yX11_sew, cX11_sew, 4, (some .int))
theorem bX11_sew : mB mX11_sew 2 := ⟨gm (i := 1071) (by decide +kernel) (by decide +kernel), gm (i := 69) (by decide +kernel) (by decide +kernel), by decide +kernel, by decide +kernel, by decide +kernel, by decide +kernel, by decide +kernel, by decide +kernel⟩
theorem qX11_sew : mV mX11_sew 2 := ⟨bX11_sew, gm (i := 1069) (by decide +kernel) (by decide +kernel), gm (i := 1070) (by decide +kernel) (by decide +kernel)⟩
def mX11_rain : MI := (yX11_rain, cX11_rain, 3, (some .int))
theorem bX11_rain : mB mX11_rain 1 := ⟨gm (i := 1075) (by decide +kernel) (by decide +kernel), gm (i := 69) (by decide +kernel) (by decide +kernel), by decide +kernel, by decide +kernel, by decide +kernel, by decide +kernel, by decide +kernel, by decide +kernel⟩
theorem qX11_rain : mV mX11_rain 1 := ⟨bX11_rain, gm (i := 1073) (by decide +kernel) (by decide +kernel), gm (i := 1074) (by decide +kernel) (by decide +kernel)⟩
def mX11_wind : MI := (yX11_wind, cX11_wind, 3, (some .int))
theorem bX11_wind : mB mX11_wind 1 := ⟨gm (i := 1082) (by decide +kernel) (by decide +kernel), gm (i := 69) (by decide +kernel) (by decide +kernel), by decide +kernel, by decide +kernel, by decide +kernel, by decide +kernel, by decide +kernel, by decide +kernel⟩
theorem qX11_wind : mV mX11_wind 1 := ⟨bX11_wind, gm (i := 1080) (by decide +kernel) (by decide +kernel), gm (i := 1081) (by decide +kernel) (by decide +kernel)⟩
def mX11_passes : MI := (yX11_passes, cX11_passes, 4, none)
theorem bX11_passes : mB mX11_passes 0 := ⟨gm (i := 1090) (by decide +kernel) (by decide +kernel), gm (i := 69) (by decide +kernel) (by decide +kernel), by decide +kernel, by decide +kernel, by decide +kernel, by decide +kernel, by decide +kernel, by decide +kernel⟩
theorem qX11_passes : mV mX11_passes 0 := ⟨bX11_passes, gm (i := 1089) (by decide +kernel) (by decide +kernel), gm (i := 46) (by decide +kernel) (by decide +kernel)⟩
def mX11_year : MI := (yX11_year, cX11_year, 3, (some .int))
theorem bX11_year : mB mX11_year 1 := ⟨gm (i := 1086) (by decide +kernel) (by decide +kernel), gm (i := 69) (by decide +kernel) (by decide +kernel), by decide +kernel, by decide +kernel, by decide +kernel, by decide +kernel, by decide +kernel, by decide +kernel⟩
theorem qX11_year : mV mX11_year 1 := ⟨bX11_year, gm (i := 1084) (by decide +kernel) (by decide +kernel), gm (i := 1085) (by decide +kernel) (by decide +kernel)⟩
def mX11_draws : MI := (yX11_draws, cX11_draws, 2, (some .int))
theorem bX11_draws : mB mX11_draws 1 := ⟨gm (i := 1098) (by decide +kernel) (by decide +kernel), gm (i := 69) (by decide +kernel) (by decide +kernel), by decide +kernel, by decide +kernel, by decide +kernel, by decide +kernel, by decide +kernel, by decide +kernel⟩
theorem qX11_draws : mV mX11_draws 1 := ⟨bX11_draws, gm (i := 1097) (by decide +kernel) (by decide +kernel), gm (i := 47) (by decide +kernel) (by decide +kernel)⟩
def mX11_drift : MI := (yX11_drift, cX11_drift, 4, (some .int))
theorem bX11_drift : mB mX11_drift 1 := ⟨gm (i := 1094) (by decide +kernel) (by decide +kernel), gm (i := 69) (by decide +kernel) (by decide +kernel), by decide +kernel, by decide +kernel, by decide +kernel, by decide +kernel, by decide +kernel, by decide +kernel⟩
theorem qX11_drift : mV mX11_drift 1 := ⟨bX11_drift, gm (i := 1092) (by decide +kernel) (by decide +kernel), gm (i := 1093) (by decide +kernel) (by decide +kernel)⟩
def mX11_undo : MI := (yX11_undo, cX11_undo, 3, (some .int))
theorem bX11_undo : mB mX11_undo 1 := ⟨gm (i := 1105) (by decide +kernel) (by decide +kernel), gm (i := 69) (by decide +kernel) (by decide +kernel), by decide +kernel, by decide +kernel, by decide +kernel, by decide +kernel, by decide +kernel, by decide +kernel⟩
theorem qX11_undo : mV mX11_undo 1 := ⟨bX11_undo, gm (i := 1103) (by decide +kernel) (by decide +kernel), gm (i := 1104) (by decide +kernel) (by decide +kernel)⟩
def mX11_farAt : MI := (yX11_farAt, cX11_farAt, 2, (some .int))
theorem bX11_farAt : mB mX11_farAt 1 := ⟨gm (i := 1123) (by decide +kernel) (by decide +kernel), gm (i := 69) (by decide +kernel) (by decide +kernel), by decide +kernel, by decide +kernel, by decide +kernel, by decide +kernel, by decide +kernel, by decide +kernel⟩
theorem qX11_farAt : mV mX11_farAt 1 := ⟨bX11_farAt, gm (i := 1122) (by decide +kernel) (by decide +kernel), gm (i := 50) (by decide +kernel) (by decide +kernel)⟩
def mX11_isFar : MI := (yX11_isFar, cX11_isFar, 5, none)
theorem bX11_isFar : mB mX11_isFar 2 := ⟨gm (i := 1118) (by decide +kernel) (by decide +kernel), gm (i := 69) (by decide +kernel) (by decide +kernel), by decide +kernel, by decide +kernel, by decide +kernel, by decide +kernel, by decide +kernel, by decide +kernel⟩
theorem qX11_isFar : mV mX11_isFar 2 := ⟨bX11_isFar, gm (i := 1117) (by decide +kernel) (by decide +kernel), gm (i := 49) (by decide +kernel) (by decide +kernel)⟩
def mX11_numberOf : MI := (yX11_numberOf, cX11_numberOf, 6, (some .int))
theorem bX11_numberOf : mB mX11_numberOf 2 := ⟨gm (i := 1133) (by decide +kernel) (by decide +kernel), gm (i := 69) (by decide +kernel) (by decide +kernel), by decide +kernel, by decide +kernel, by decide +kernel, by decide +kernel, by decide +kernel, by decide +kernel⟩
theorem qX11_numberOf : mS mX11_numberOf 2 := ⟨bX11_numberOf, gm (i := 1132) (by decide +kernel) (by decide +kernel)⟩
def mX11_orderOf : MI := (yX11_orderOf, cX11_orderOf, 9, none)
theorem bX11_orderOf : mB mX11_orderOf 3 := ⟨gm (i := 1127) (by decide +kernel) (by decide +kernel), gm (i := 69) (by decide +kernel) (by decide +kernel), by decide +kernel, by decide +kernel, by decide +kernel, by decide +kernel, by decide +kernel, by decide +kernel⟩
theorem qX11_orderOf : mV mX11_orderOf 3 := ⟨bX11_orderOf, gm (i := 1126) (by decide +kernel) (by decide +kernel), gm (i := 51) (by decide +kernel) (by decide +kernel)⟩
def mX11_turns : MI := (yX11_turns, cX11_turns, 5, none)
theorem bX11_turns : mB mX11_turns 4 := ⟨gm (i := 1130) (by decide +kernel) (by decide +kernel), gm (i := 69) (by decide +kernel) (by decide +kernel), by decide +kernel, by decide +kernel, by decide +kernel, by decide +kernel, by decide +kernel, by decide +kernel⟩
theorem qX11_turns : mS mX11_turns 4 := ⟨bX11_turns, gm (i := 1129) (by decide +kernel) (by decide +kernel)⟩
def mX11_measures : MI := (yX11_measures, cX11_measures, 8, none)
theorem bX11_measures : mB mX11_measures 1 := ⟨gm (i := 1113) (by decide +kernel) (by decide +kernel), gm (i := 69) (by decide +kernel) (by decide +kernel), by decide +kernel, by decide +kernel, by decide +kernel, by decide +kernel, by decide +kernel, by decide +kernel⟩
theorem qX11_measures : mV mX11_measures 1 := ⟨bX11_measures, gm (i := 1112) (by decide +kernel) (by decide +kernel), gm (i := 48) (by decide +kernel) (by decide +kernel)⟩
def mX11_turnings : MI := (yX11_turnings, cX11_turnings, 6, (some .int))
theorem bX11_turnings : mB mX11_turnings 1 := ⟨gm (i := 1109) (by decide +kernel) (by decide +kernel), gm (i := 69) (by decide +kernel) (by decide +kernel), by decide +kernel, by decide +kernel, by decide +kernel, by decide +kernel, by decide +kernel, by decide +kernel⟩
theorem qX11_turnings : mV mX11_turnings 1 := ⟨bX11_turnings, gm (i := 1107) (by decide +kernel) (by decide +kernel), gm (i := 1108) (by decide +kernel) (by decide +kernel)⟩
def mX11_loose : MI := (yX11_loose, cX11_loose, 8, (some .int))
theorem bX11_loose : mB mX11_loose 1 := ⟨gm (i := 1137) (by decide +kernel) (by decide +kernel), gm (i := 69) (by decide +kernel) (by decide +kernel), by decide +kernel, by decide +kernel, by decide +kernel, by decide +kernel, by decide +kernel, by decide +kernel⟩
theorem qX11_loose : mV mX11_loose 1 := ⟨bX11_loose, gm (i := 1135) (by decide +kernel) (by decide +kernel), gm (i := 1136) (by decide +kernel) (by decide +kernel)⟩
def mX11_feltAt : MI := (yX11_feltAt, cX11_feltAt, 6, (some .int))
theorem bX11_feltAt : mB mX11_feltAt 2 := ⟨gm (i := 1145) (by decide +kernel) (by decide +kernel), gm (i := 69) (by decide +kernel) (by decide +kernel), by decide +kernel, by decide +kernel, by decide +kernel, by decide +kernel, by decide +kernel, by decide +kernel⟩
theorem qX11_feltAt : mV mX11_feltAt 2 := ⟨bX11_feltAt, gm (i := 1144) (by decide +kernel) (by decide +kernel), gm (i := 52) (by decide +kernel) (by decide +kernel)⟩
def mX11_felt : MI := (yX11_felt, cX11_felt, 3, (some .int))
theorem bX11_felt : mB mX11_felt 2 := ⟨gm (i := 1141) (by decide +kernel) (by decide +kernel), gm (i := 69) (by decide +kernel) (by decide +kernel), by decide +kernel, by decide +kernel, by decide +kernel, by decide +kernel, by decide +kernel, by decide +kernel⟩
theorem qX11_felt : mV mX11_felt 2 := ⟨bX11_felt, gm (i := 1139) (by decide +kernel) (by decide +kernel), gm (i := 1140) (by decide +kernel) (by decide +kernel)⟩
def mX11_farthest : MI := (yX11_farthest, cX11_farthest, 4, (some .int))
theorem bX11_farthest : mB mX11_farthest 1 := ⟨gm (i := 1149) (by decide +kernel) (by decide +kernel), gm (i := 69) (by decide +kernel) (by decide +kernel), by decide +kernel, by decide +kernel, by decide +kernel, by decide +kernel, by decide +kernel, by decide +kernel⟩
theorem qX11_farthest : mV mX11_farthest 1 := ⟨bX11_farthest, gm (i := 1147) (by decide +kernel) (by decide +kernel), gm (i := 1148) (by decide +kernel) (by decide +kernel)⟩
def mX11_hooked : MI := (yX11_hooked, cX11_hooked, 6, (some .int))
theorem bX11_hooked : mB mX11_hooked 1 := ⟨gm (i := 1153) (by decide +kernel) (by decide +kernel), gm (i := 69) (by decide +kernel) (by decide +kernel), by decide +kernel, by decide +kernel, by decide +kernel, by decide +kernel, by decide +kernel, by decide +kernel⟩
theorem qX11_hooked : mV mX11_hooked 1 := ⟨bX11_hooked, gm (i := 1151) (by decide +kernel) (by decide +kernel), gm (i := 1152) (by decide +kernel) (by decide +kernel)⟩
def mX11_gap : MI := (yX11_gap, cX11_gap, 6, (some .int))
theorem bX11_gap : mB mX11_gap 1 := ⟨gm (i := 1157) (by decide +kernel) (by decide +kernel), gm (i := 69) (by decide +kernel) (by decide +kernel), by decide +kernel, by decide +kernel, by decide +kernel, by decide +kernel, by decide +kernel, by decide +kernel⟩
theorem qX11_gap : mV mX11_gap 1 := ⟨bX11_gap, gm (i := 1155) (by decide +kernel) (by decide +kernel), gm (i := 1156) (by decide +kernel) (by decide +kernel)⟩
def mX11_heavyAt : MI := (yX11_heavyAt, cX11_heavyAt, 2, (some .int))
theorem bX11_heavyAt : mB mX11_heavyAt 1 := ⟨gm (i := 1165) (by decide +kernel) (by decide +kernel), gm (i := 69) (by decide +kernel) (by decide +kernel), by decide +kernel, by decide +kernel, by decide +kernel, by decide +kernel, by decide +kernel, by decide +kernel⟩
theorem qX11_heavyAt : mV mX11_heavyAt 1 := ⟨bX11_heavyAt, gm (i := 1164) (by decide +kernel) (by decide +kernel), gm (i := 53) (by decide +kernel) (by decide +kernel)⟩
def mX11_moreOf : MI := (yX11_moreOf, cX11_moreOf, 3, (some .int))
theorem bX11_moreOf : mB mX11_moreOf 2 := ⟨gm (i := 1169) (by decide +kernel) (by decide +kernel), gm (i := 69) (by decide +kernel) (by decide +kernel), by decide +kernel, by decide +kernel, by decide +kernel, by decide +kernel, by decide +kernel, by decide +kernel⟩
theorem qX11_moreOf : mV mX11_moreOf 2 := ⟨bX11_moreOf, gm (i := 1168) (by decide +kernel) (by decide +kernel), gm (i := 54) (by decide +kernel) (by decide +kernel)⟩
def mX11_ends_ : MI := (yX11_ends_, cX11_ends_, 8, (some .int))
theorem bX11_ends_ : mB mX11_ends_ 1 := ⟨gm (i := 1161) (by decide +kernel) (by decide +kernel), gm (i := 69) (by decide +kernel) (by decide +kernel), by decide +kernel, by decide +kernel, by decide +kernel, by decide +kernel, by decide +kernel, by decide +kernel⟩
theorem qX11_ends_ : mV mX11_ends_ 1 := ⟨bX11_ends_, gm (i := 1159) (by decide +kernel) (by decide +kernel), gm (i := 1160) (by decide +kernel) (by decide +kernel)⟩
def mX11_calm : MI := (yX11_calm, cX11_calm, 6, (some .int))
theorem bX11_calm : mB mX11_calm 2 := ⟨gm (i := 1173) (by decide +kernel) (by decide +kernel), gm (i := 69) (by decide +kernel) (by decide +kernel), by decide +kernel, by decide +kernel, by decide +kernel, by decide +kernel, by decide +kernel, by decide +kernel⟩
theorem qX11_calm : mV mX11_calm 2 := ⟨bX11_calm, gm (i := 1171) (by decide +kernel) (by decide +kernel), gm (i := 1172) (by decide +kernel) (by decide +kernel)⟩
def mX11_old : MI := (yX11_old, cX11_old, 4, (some .int))
theorem bX11_old : mB mX11_old 3 := ⟨gm (i := 1179) (by decide +kernel) (by decide +kernel), gm (i := 69) (by decide +kernel) (by decide +kernel), by decide +kernel, by decide +kernel, by decide +kernel, by decide +kernel, by decide +kernel, by decide +kernel⟩
theorem qX11_old : mV mX11_old 3 := ⟨bX11_old, gm (i := 1177) (by decide +kernel) (by decide +kernel), gm (i := 1178) (by decide +kernel) (by decide +kernel)⟩
def mX11_isSo : MI := (yX11_isSo, cX11_isSo, 4, (some .boolean))
theorem bX11_isSo : mB mX11_isSo 3 := ⟨gm (i := 1191) (by decide +kernel) (by decide +kernel), gm (i := 69) (by decide +kernel) (by decide +kernel), by decide +kernel, by decide +kernel, by decide +kernel, by decide +kernel, by decide +kernel, by decide +kernel⟩
theorem qX11_isSo : mV mX11_isSo 3 := ⟨bX11_isSo, gm (i := 1190) (by decide +kernel) (by decide +kernel), gm (i := 56) (by decide +kernel) (by decide +kernel)⟩
def mX11_could : MI := (yX11_could, cX11_could, 5, (some .int))
theorem bX11_could : mB mX11_could 0 := ⟨gm (i := 1187) (by decide +kernel) (by decide +kernel), gm (i := 69) (by decide +kernel) (by decide +kernel), by decide +kernel, by decide +kernel, by decide +kernel, by decide +kernel, by decide +kernel, by decide +kernel⟩
theorem qX11_could : mV mX11_could 0 := ⟨bX11_could, gm (i := 1186) (by decide +kernel) (by decide +kernel), gm (i := 55) (by decide +kernel) (by decide +kernel)⟩
def mX11_couldBe : MI := (yX11_couldBe, cX11_couldBe, 1, (some .int))
theorem bX11_couldBe : mB mX11_couldBe 0 := ⟨gm (i := 1183) (by decide +kernel) (by decide +kernel), gm (i := 69) (by decide +kernel) (by decide +kernel), by decide +kernel, by decide +kernel, by decide +kernel, by decide +kernel, by decide +kernel, by decide +kernel⟩
theorem qX11_couldBe : mV mX11_couldBe 0 := ⟨bX11_couldBe, gm (i := 1181) (by decide +kernel) (by decide +kernel), gm (i := 1182) (by decide +kernel) (by decide +kernel)⟩
def mX11_next : MI := (yX11_next, cX11_next, 9, (some .int))
theorem bX11_next : mB mX11_next 0 := ⟨gm (i := 1195) (by decide +kernel) (by decide +kernel), gm (i := 69) (by decide +kernel) (by decide +kernel), by decide +kernel, by decide +kernel, by decide +kernel, by decide +kernel, by decide +kernel, by decide +kernel⟩
theorem qX11_next : mV mX11_next 0 := ⟨bX11_next, gm (i := 1193) (by decide +kernel) (by decide +kernel), gm (i := 1194) (by decide +kernel) (by decide +kernel)⟩
def mX11_write : MI := (yX11_write, cX11_write, 3, (some .int))
theorem bX11_write : mB mX11_write 2 := ⟨gm (i := 1199) (by decide +kernel) (by decide +kernel), gm (i := 69) (by decide +kernel) (by decide +kernel), by decide +kernel, by decide +kernel, by decide +kernel, by decide +kernel, by decide +kernel, by decide +kernel⟩
theorem qX11_write : mV mX11_write 2 := ⟨bX11_write, gm (i := 1197) (by decide +kernel) (by decide +kernel), gm (i := 1198) (by decide +kernel) (by decide +kernel)⟩
def mX11_judge : MI := (yX11_judge, cX11_judge, 4, (some .int))
theorem bX11_judge : mB mX11_judge 0 := ⟨gm (i := 1203) (by decide +kernel) (by decide +kernel), gm (i := 69) (by decide +kernel) (by decide +kernel), by decide +kernel, by decide +kernel, by decide +kernel, by decide +kernel, by decide +kernel, by decide +kernel⟩
theorem qX11_judge : mV mX11_judge 0 := ⟨bX11_judge, gm (i := 1201) (by decide +kernel) (by decide +kernel), gm (i := 1202) (by decide +kernel) (by decide +kernel)⟩
def mX11_tear : MI := (yX11_tear, cX11_tear, 2, (some .int))
theorem bX11_tear : mB mX11_tear 0 := ⟨gm (i := 1207) (by decide +kernel) (by decide +kernel), gm (i := 69) (by decide +kernel) (by decide +kernel), by decide +kernel, by decide +kernel, by decide +kernel, by decide +kernel, by decide +kernel, by decide +kernel⟩
theorem qX11_tear : mV mX11_tear 0 := ⟨bX11_tear, gm (i := 1205) (by decide +kernel) (by decide +kernel), gm (i := 1206) (by decide +kernel) (by decide +kernel)⟩
def mX11_seed : MI := (yX11_seed, cX11_seed, 3, (some .int))
theorem bX11_seed : mB mX11_seed 1 := ⟨gm (i := 1211) (by decide +kernel) (by decide +kernel), gm (i := 69) (by decide +kernel) (by decide +kernel), by decide +kernel, by decide +kernel, by decide +kernel, by decide +kernel, by decide +kernel, by decide +kernel⟩
theorem qX11_seed : mV mX11_seed 1 := ⟨bX11_seed, gm (i := 1209) (by decide +kernel) (by decide +kernel), gm (i := 1210) (by decide +kernel) (by decide +kernel)⟩
def mX11_keep : MI := (yX11_keep, cX11_keep, 3, (some .int))
theorem bX11_keep : mB mX11_keep 1 := ⟨gm (i := 1215) (by decide +kernel) (by decide +kernel), gm (i := 69) (by decide +kernel) (by decide +kernel), by decide +kernel, by decide +kernel, by decide +kernel, by decide +kernel, by decide +kernel, by decide +kernel⟩
theorem qX11_keep : mV mX11_keep 1 := ⟨bX11_keep, gm (i := 1213) (by decide +kernel) (by decide +kernel), gm (i := 1214) (by decide +kernel) (by decide +kernel)⟩
def mX11_goBack : MI := (yX11_goBack, cX11_goBack, 3, (some .int))
theorem bX11_goBack : mB mX11_goBack 1 := ⟨gm (i := 1219) (by decide +kernel) (by decide +kernel), gm (i := 69) (by decide +kernel) (by decide +kernel), by decide +kernel, by decide +kernel, by decide +kernel, by decide +kernel, by decide +kernel, by decide +kernel⟩
theorem qX11_goBack : mV mX11_goBack 1 := ⟨bX11_goBack, gm (i := 1217) (by decide +kernel) (by decide +kernel), gm (i := 1218) (by decide +kernel) (by decide +kernel)⟩
def mJ6_bitCount : MI := (yJ6_bitCount_0f7a4, cJ6_bitCount_0f7a4, 1, (some .int))
theorem bJ6_bitCount : mB mJ6_bitCount 1 := ⟨gm (i := 601) (by decide +kernel) (by decide +kernel), gm (i := 73) (by decide +kernel) (by decide +kernel), by decide +kernel, by decide +kernel, by decide +kernel, by decide +kernel, by decide +kernel, by decide +kernel⟩
theorem qJ6_bitCount : mS mJ6_bitCount 1 := ⟨bJ6_bitCount, gm (i := 600) (by decide +kernel) (by decide +kernel)⟩
def mJ9_floorMod : MI := (yJ9_floorMod_7cf53, cJ9_floorMod_7cf53, 3, (some .int))
theorem bJ9_floorMod : mB mJ9_floorMod 2 := ⟨gm (i := 649) (by decide +kernel) (by decide +kernel), gm (i := 72) (by decide +kernel) (by decide +kernel), by decide +kernel, by decide +kernel, by decide +kernel, by decide +kernel, by decide +kernel, by decide +kernel⟩
theorem qJ9_floorMod : mS mJ9_floorMod 2 := ⟨bJ9_floorMod, gm (i := 648) (by decide +kernel) (by decide +kernel)⟩
def mJ9_max : MI := (yJ9_max_7cf53, cJ9_max_7cf53, 2, (some .int))
theorem bJ9_max : mB mJ9_max 2 := ⟨gm (i := 704) (by decide +kernel) (by decide +kernel), gm (i := 72) (by decide +kernel) (by decide +kernel), by decide +kernel, by decide +kernel, by decide +kernel, by decide +kernel, by decide +kernel, by decide +kernel⟩
theorem qJ9_max : mS mJ9_max 2 := ⟨bJ9_max, gm (i := 703) (by decide +kernel) (by decide +kernel)⟩
def mJ9_min : MI := (yJ9_min_7cf53, cJ9_min_7cf53, 2, (some .int))
theorem bJ9_min : mB mJ9_min 2 := ⟨gm (i := 561) (by decide +kernel) (by decide +kernel), gm (i := 72) (by decide +kernel) (by decide +kernel), by decide +kernel, by decide +kernel, by decide +kernel, by decide +kernel, by decide +kernel, by decide +kernel⟩
theorem qJ9_min : mS mJ9_min 2 := ⟨bJ9_min, gm (i := 560) (by decide +kernel) (by decide +kernel)⟩
def mJ7_fill : MI := (yJ7_fill_53178, cJ7_fill_53178, 4, none)
theorem bJ7_fill : mB mJ7_fill 2 := ⟨gm (i := 436) (by decide +kernel) (by decide +kernel), gm (i := 71) (by decide +kernel) (by decide +kernel), by decide +kernel, by decide +kernel, by decide +kernel, by decide +kernel, by decide +kernel, by decide +kernel⟩
theorem qJ7_fill : mS mJ7_fill 2 := ⟨bJ7_fill, gm (i := 435) (by decide +kernel) (by decide +kernel)⟩
def mL_law : MI := (yL_law, cL_law, 4, (some .boolean))
theorem uX0 : ∀ w ∈ u_ws RX0 TX0 3, w ∈ gTbl := by
  intro w hw
  have h : (u_ws RX0 TX0 3) = [323, 325, 327].filterMap (fun i => lw_tbl[i]?) := by decide +kernel
  have hg : (u_ws RX0 TX0 3).all goodWord = true := by decide +kernel
  have hg' := List.all_eq_true.mp hg w hw
  rw [h] at hw
  obtain ⟨i, -, hi⟩ := List.mem_filterMap.mp hw
  exact gm hi hg'
theorem cfX0 : cF 0 RX0 TX0 3 tyX0 := ⟨rfl, uX0, tyX0_ok, nmX0, by decide +kernel⟩
theorem uX1 : ∀ w ∈ u_ws RX1 TX1 3, w ∈ gTbl := by
  intro w hw
  have h : (u_ws RX1 TX1 3) = [255, 257, 259].filterMap (fun i => lw_tbl[i]?) := by decide +kernel
  have hg : (u_ws RX1 TX1 3).all goodWord = true := by decide +kernel
  have hg' := List.all_eq_true.mp hg w hw
  rw [h] at hw
  obtain ⟨i, -, hi⟩ := List.mem_filterMap.mp hw
  exact gm hi hg'
theorem cfX1 : cF 1 RX1 TX1 3 tyX1 := ⟨rfl, uX1, tyX1_ok, nmX1, by decide +kernel⟩
theorem uX2 : ∀ w ∈ u_ws RX2 TX2 7, w ∈ gTbl := by
  intro w hw
  have h : (u_ws RX2 TX2 7) = [205, 207, 209, 211, 213, 215, 217].filterMap (fun i => lw_tbl[i]?) := by decide +kernel
  have hg : (u_ws RX2 TX2 7).all goodWord = true := by decide +kernel
  have hg' := List.all_eq_true.mp hg w hw
  rw [h] at hw
  obtain ⟨i, -, hi⟩ := List.mem_filterMap.mp hw
  exact gm hi hg'
theorem cfX2 : cF 2 RX2 TX2 7 tyX2 := ⟨rfl, uX2, tyX2_ok, nmX2, by decide +kernel⟩
theorem uX3 : ∀ w ∈ u_ws RX3 TX3 3, w ∈ gTbl := by
  intro w hw
  have h : (u_ws RX3 TX3 3) = [305, 307, 309].filterMap (fun i => lw_tbl[i]?) := by decide +kernel
  have hg : (u_ws RX3 TX3 3).all goodWord = true := by decide +kernel
  have hg' := List.all_eq_true.mp hg w hw
  rw [h] at hw
  obtain ⟨i, -, hi⟩ := List.mem_filterMap.mp hw
  exact gm hi hg'
theorem cfX3 : cF 3 RX3 TX3 3 tyX3 := ⟨rfl, uX3, tyX3_ok, nmX3, by decide +kernel⟩
theorem uX4 : ∀ w ∈ u_ws RX4 TX4 3, w ∈ gTbl := by
  intro w hw
  have h : (u_ws RX4 TX4 3) = [233, 235, 237].filterMap (fun i => lw_tbl[i]?) := by decide +kernel
  have hg : (u_ws RX4 TX4 3).all goodWord = true := by decide +kernel
  have hg' := List.all_eq_true.mp hg w hw
  rw [h] at hw
  obtain ⟨i, -, hi⟩ := List.mem_filterMap.mp hw
  exact gm hi hg'
theorem cfX4 : cF 4 RX4 TX4 3 tyX4 := ⟨rfl, uX4, tyX4_ok, nmX4, by decide +kernel⟩
theorem uX5 : ∀ w ∈ u_ws RX5 TX5 11, w ∈ gTbl := by
  intro w hw
  have h : (u_ws RX5 TX5 11) = [157, 159, 161, 163, 165, 167, 169, 171, 173, 175, 177].filterMap (fun i => lw_tbl[i]?) := by decide +kernel
  have hg : (u_ws RX5 TX5 11).all goodWord = true := by decide +kernel
  have hg' := List.all_eq_true.mp hg w hw
  rw [h] at hw
  obtain ⟨i, -, hi⟩ := List.mem_filterMap.mp hw
  exact gm hi hg'
theorem cfX5 : cF 5 RX5 TX5 11 tyX5 := ⟨rfl, uX5, tyX5_ok, nmX5, by decide +kernel⟩
theorem uX6 : ∀ w ∈ u_ws RX6 TX6 5, w ∈ gTbl := by
  intro w hw
  have h : (u_ws RX6 TX6 5) = [97, 99, 101, 103, 105].filterMap (fun i => lw_tbl[i]?) := by decide +kernel
  have hg : (u_ws RX6 TX6 5).all goodWord = true := by decide +kernel
  have hg' := List.all_eq_true.mp hg w hw
  rw [h] at hw
  obtain ⟨i, -, hi⟩ := List.mem_filterMap.mp hw
  exact gm hi hg'
theorem cfX6 : cF 6 RX6 TX6 5 tyX6 := ⟨rfl, uX6, tyX6_ok, nmX6, by decide +kernel⟩
theorem uX7 : ∀ w ∈ u_ws RX7 TX7 1, w ∈ gTbl := by
  intro w hw
  have h : (u_ws RX7 TX7 1) = [282].filterMap (fun i => lw_tbl[i]?) := by decide +kernel
  have hg : (u_ws RX7 TX7 1).all goodWord = true := by decide +kernel
  have hg' := List.all_eq_true.mp hg w hw
  rw [h] at hw
  obtain ⟨i, -, hi⟩ := List.mem_filterMap.mp hw
  exact gm hi hg'
theorem cfX7 : cF 7 RX7 TX7 1 tyX7 := ⟨rfl, uX7, tyX7_ok, nmX7, by decide +kernel⟩
theorem uX8 : ∀ w ∈ u_ws RX8 TX8 1, w ∈ gTbl := by
  intro w hw
  have h : (u_ws RX8 TX8 1) = [292].filterMap (fun i => lw_tbl[i]?) := by decide +kernel
  have hg : (u_ws RX8 TX8 1).all goodWord = true := by decide +kernel
  have hg' := List.all_eq_true.mp hg w hw
  rw [h] at hw
  obtain ⟨i, -, hi⟩ := List.mem_filterMap.mp hw
  exact gm hi hg'
theorem cfX8 : cF 8 RX8 TX8 1 tyX8 := ⟨rfl, uX8, tyX8_ok, nmX8, by decide +kernel⟩
theorem uX9 : ∀ w ∈ u_ws RX9 TX9 2, w ∈ gTbl := by
  intro w hw
  have h : (u_ws RX9 TX9 2) = [270, 272].filterMap (fun i => lw_tbl[i]?) := by decide +kernel
  have hg : (u_ws RX9 TX9 2).all goodWord = true := by decide +kernel
  have hg' := List.all_eq_true.mp hg w hw
  rw [h] at hw
  obtain ⟨i, -, hi⟩ := List.mem_filterMap.mp hw
  exact gm hi hg'
theorem cfX9 : cF 9 RX9 TX9 2 tyX9 := ⟨rfl, uX9, tyX9_ok, nmX9, by decide +kernel⟩
theorem uX10 : ∀ w ∈ u_ws RX10 TX10 12, w ∈ gTbl := by
  intro w hw
  have h : (u_ws RX10 TX10 12) = [342, 344, 346, 348, 350, 352, 354, 356, 358, 360, 362, 364].filterMap (fun i => lw_tbl[i]?) := by decide +kernel
  have hg : (u_ws RX10 TX10 12).all goodWord = true := by decide +kernel
  have hg' := List.all_eq_true.mp hg w hw
  rw [h] at hw
  obtain ⟨i, -, hi⟩ := List.mem_filterMap.mp hw
  exact gm hi hg'
theorem cfX10 : cF 10 RX10 TX10 12 tyX10 := ⟨rfl, uX10, tyX10_ok, nmX10, by decide +kernel⟩
theorem uX11 : ∀ w ∈ u_ws RX11 TX11 25, w ∈ gTbl := by
  intro w hw
  have h : (u_ws RX11 TX11 25) = [867, 869, 871, 873, 875, 877, 879, 881, 883, 885, 887, 889, 891, 893, 895, 897, 899, 901, 903, 905, 907, 909, 911, 913, 915].filterMap (fun i => lw_tbl[i]?) := by decide +kernel
  have hg : (u_ws RX11 TX11 25).all goodWord = true := by decide +kernel
  have hg' := List.all_eq_true.mp hg w hw
  rw [h] at hw
  obtain ⟨i, -, hi⟩ := List.mem_filterMap.mp hw
  exact gm hi hg'
theorem cfX11 : cF 11 RX11 TX11 25 tyX11 := ⟨rfl, uX11, tyX11_ok, nmX11, by decide +kernel⟩
theorem iiL : Cond.initialized RL ∈ gTbl := gm (i := 57) (by decide +kernel) (by decide +kernel)
theorem iiX10 : Cond.initialized RX10 ∈ gTbl := gm (i := 58) (by decide +kernel) (by decide +kernel)
theorem iiX6 : Cond.initialized RX6 ∈ gTbl := gm (i := 59) (by decide +kernel) (by decide +kernel)
theorem iiX5 : Cond.initialized RX5 ∈ gTbl := gm (i := 60) (by decide +kernel) (by decide +kernel)
theorem iiX2 : Cond.initialized RX2 ∈ gTbl := gm (i := 61) (by decide +kernel) (by decide +kernel)
theorem iiX4 : Cond.initialized RX4 ∈ gTbl := gm (i := 62) (by decide +kernel) (by decide +kernel)
theorem iiX1 : Cond.initialized RX1 ∈ gTbl := gm (i := 63) (by decide +kernel) (by decide +kernel)
theorem iiX9 : Cond.initialized RX9 ∈ gTbl := gm (i := 64) (by decide +kernel) (by decide +kernel)
theorem iiX7 : Cond.initialized RX7 ∈ gTbl := gm (i := 65) (by decide +kernel) (by decide +kernel)
theorem iiX8 : Cond.initialized RX8 ∈ gTbl := gm (i := 66) (by decide +kernel) (by decide +kernel)
theorem iiX3 : Cond.initialized RX3 ∈ gTbl := gm (i := 67) (by decide +kernel) (by decide +kernel)
theorem iiX0 : Cond.initialized RX0 ∈ gTbl := gm (i := 68) (by decide +kernel) (by decide +kernel)
theorem iiX11 : Cond.initialized RX11 ∈ gTbl := gm (i := 69) (by decide +kernel) (by decide +kernel)
theorem iiJ10 : Cond.initialized RJ10 ∈ gTbl := gm (i := 70) (by decide +kernel) (by decide +kernel)
theorem iiJ7 : Cond.initialized RJ7 ∈ gTbl := gm (i := 71) (by decide +kernel) (by decide +kernel)
theorem iiJ9 : Cond.initialized RJ9 ∈ gTbl := gm (i := 72) (by decide +kernel) (by decide +kernel)
theorem iiJ6 : Cond.initialized RJ6 ∈ gTbl := gm (i := 73) (by decide +kernel) (by decide +kernel)
theorem xL_7 : Cond.classLink RL 7 RX10 ∈ gTbl := gm (i := 74) (by decide +kernel) (by decide +kernel)
theorem iaX10 : Cond.instantiable RX10 12 ∈ gTbl := gm (i := 75) (by decide +kernel) (by decide +kernel)
theorem lL_9 : Cond.methodLink RL 9 mX10_init.1 ∈ gTbl := gm (i := 76) (by decide +kernel) (by decide +kernel)
theorem lX10_1 : Cond.methodLink RX10 1 objectInit ∈ gTbl := gm (i := 79) (by decide +kernel) (by decide +kernel)
theorem xX10_7 : Cond.classLink RX10 7 RX6 ∈ gTbl := gm (i := 82) (by decide +kernel) (by decide +kernel)
theorem iaX6 : Cond.instantiable RX6 5 ∈ gTbl := gm (i := 83) (by decide +kernel) (by decide +kernel)
theorem nX10_9 : (RX10, 9, mX6_init.1, "DayCords") ∈ nTbl := List.mem_of_getElem? (i := 0) (by decide +kernel)
theorem lX6_3 : Cond.methodLink RX6 3 objectInit ∈ gTbl := gm (i := 87) (by decide +kernel) (by decide +kernel)
theorem fX6_9 : fS RX6 9 6 0 (.array .int) true := ⟨_, _, _, _, cfX6, by decide, gm (i := 88) (by decide +kernel) (by decide +kernel), rfl, rfl⟩
theorem fX10_91 : fS RX10 91 6 0 (.array .int) true := ⟨_, _, _, _, cfX6, by decide, gm (i := 89) (by decide +kernel) (by decide +kernel), rfl, rfl⟩
theorem fX6_15 : fS RX6 15 6 1 (.int) false := ⟨_, _, _, _, cfX6, by decide, gm (i := 90) (by decide +kernel) (by decide +kernel), rfl, rfl⟩
theorem fX10_87 : fS RX10 87 6 1 (.int) false := ⟨_, _, _, _, cfX6, by decide, gm (i := 91) (by decide +kernel) (by decide +kernel), rfl, rfl⟩
theorem fX6_19 : fS RX6 19 6 2 (.int) false := ⟨_, _, _, _, cfX6, by decide, gm (i := 92) (by decide +kernel) (by decide +kernel), rfl, rfl⟩
theorem fX10_99 : fS RX10 99 6 2 (.int) false := ⟨_, _, _, _, cfX6, by decide, gm (i := 93) (by decide +kernel) (by decide +kernel), rfl, rfl⟩
theorem fX6_22 : fS RX6 22 6 3 (.int) false := ⟨_, _, _, _, cfX6, by decide, gm (i := 94) (by decide +kernel) (by decide +kernel), rfl, rfl⟩
theorem fX10_122 : fS RX10 122 6 3 (.int) false := ⟨_, _, _, _, cfX6, by decide, gm (i := 95) (by decide +kernel) (by decide +kernel), rfl, rfl⟩
theorem fX6_25 : fS RX6 25 6 4 (.int) false := ⟨_, _, _, _, cfX6, by decide, gm (i := 96) (by decide +kernel) (by decide +kernel), rfl, rfl⟩
theorem xX10_16 : Cond.classLink RX10 16 RX5 ∈ gTbl := gm (i := 109) (by decide +kernel) (by decide +kernel)
theorem iaX5 : Cond.instantiable RX5 11 ∈ gTbl := gm (i := 110) (by decide +kernel) (by decide +kernel)
theorem nX10_18 : (RX10, 18, mX5_init.1, "DayCords") ∈ nTbl := List.mem_of_getElem? (i := 1) (by decide +kernel)
theorem lX5_3 : Cond.methodLink RX5 3 objectInit ∈ gTbl := gm (i := 114) (by decide +kernel) (by decide +kernel)
theorem fX5_9 : fS RX5 9 5 0 (.array .int) true := ⟨_, _, _, _, cfX5, by decide, gm (i := 115) (by decide +kernel) (by decide +kernel), rfl, rfl⟩
theorem fX3_44 : fS RX3 44 5 0 (.array .int) true := ⟨_, _, _, _, cfX5, by decide, gm (i := 116) (by decide +kernel) (by decide +kernel), rfl, rfl⟩
theorem fX6_80 : fS RX6 80 5 0 (.array .int) true := ⟨_, _, _, _, cfX5, by decide, gm (i := 117) (by decide +kernel) (by decide +kernel), rfl, rfl⟩
theorem fX10_178 : fS RX10 178 5 0 (.array .int) true := ⟨_, _, _, _, cfX5, by decide, gm (i := 118) (by decide +kernel) (by decide +kernel), rfl, rfl⟩
theorem fX7_41 : fS RX7 41 5 0 (.array .int) true := ⟨_, _, _, _, cfX5, by decide, gm (i := 119) (by decide +kernel) (by decide +kernel), rfl, rfl⟩
theorem fX2_62 : fS RX2 62 5 0 (.array .int) true := ⟨_, _, _, _, cfX5, by decide, gm (i := 120) (by decide +kernel) (by decide +kernel), rfl, rfl⟩
theorem fX5_15 : fS RX5 15 5 1 (.array .int) true := ⟨_, _, _, _, cfX5, by decide, gm (i := 121) (by decide +kernel) (by decide +kernel), rfl, rfl⟩
theorem fX8_38 : fS RX8 38 5 1 (.array .int) true := ⟨_, _, _, _, cfX5, by decide, gm (i := 122) (by decide +kernel) (by decide +kernel), rfl, rfl⟩
theorem fX3_47 : fS RX3 47 5 1 (.array .int) true := ⟨_, _, _, _, cfX5, by decide, gm (i := 123) (by decide +kernel) (by decide +kernel), rfl, rfl⟩
theorem fX6_83 : fS RX6 83 5 1 (.array .int) true := ⟨_, _, _, _, cfX5, by decide, gm (i := 124) (by decide +kernel) (by decide +kernel), rfl, rfl⟩
theorem fX10_181 : fS RX10 181 5 1 (.array .int) true := ⟨_, _, _, _, cfX5, by decide, gm (i := 125) (by decide +kernel) (by decide +kernel), rfl, rfl⟩
theorem fX2_65 : fS RX2 65 5 1 (.array .int) true := ⟨_, _, _, _, cfX5, by decide, gm (i := 126) (by decide +kernel) (by decide +kernel), rfl, rfl⟩
theorem fX5_18 : fS RX5 18 5 2 (.array .int) true := ⟨_, _, _, _, cfX5, by decide, gm (i := 127) (by decide +kernel) (by decide +kernel), rfl, rfl⟩
theorem fX6_95 : fS RX6 95 5 2 (.array .int) true := ⟨_, _, _, _, cfX5, by decide, gm (i := 128) (by decide +kernel) (by decide +kernel), rfl, rfl⟩
theorem fX5_21 : fS RX5 21 5 3 (.array .int) true := ⟨_, _, _, _, cfX5, by decide, gm (i := 129) (by decide +kernel) (by decide +kernel), rfl, rfl⟩
theorem fX7_29 : fS RX7 29 5 3 (.array .int) true := ⟨_, _, _, _, cfX5, by decide, gm (i := 130) (by decide +kernel) (by decide +kernel), rfl, rfl⟩
theorem fX6_98 : fS RX6 98 5 3 (.array .int) true := ⟨_, _, _, _, cfX5, by decide, gm (i := 131) (by decide +kernel) (by decide +kernel), rfl, rfl⟩
theorem fX10_209 : fS RX10 209 5 3 (.array .int) true := ⟨_, _, _, _, cfX5, by decide, gm (i := 132) (by decide +kernel) (by decide +kernel), rfl, rfl⟩
theorem fX5_24 : fS RX5 24 5 4 (.array .int) true := ⟨_, _, _, _, cfX5, by decide, gm (i := 133) (by decide +kernel) (by decide +kernel), rfl, rfl⟩
theorem fX6_89 : fS RX6 89 5 4 (.array .int) true := ⟨_, _, _, _, cfX5, by decide, gm (i := 134) (by decide +kernel) (by decide +kernel), rfl, rfl⟩
theorem fX10_197 : fS RX10 197 5 4 (.array .int) true := ⟨_, _, _, _, cfX5, by decide, gm (i := 135) (by decide +kernel) (by decide +kernel), rfl, rfl⟩
theorem fX5_27 : fS RX5 27 5 5 (.array .int) true := ⟨_, _, _, _, cfX5, by decide, gm (i := 136) (by decide +kernel) (by decide +kernel), rfl, rfl⟩
theorem fX6_92 : fS RX6 92 5 5 (.array .int) true := ⟨_, _, _, _, cfX5, by decide, gm (i := 137) (by decide +kernel) (by decide +kernel), rfl, rfl⟩
theorem fX10_200 : fS RX10 200 5 5 (.array .int) true := ⟨_, _, _, _, cfX5, by decide, gm (i := 138) (by decide +kernel) (by decide +kernel), rfl, rfl⟩
theorem fX5_30 : fS RX5 30 5 6 (.boolean) false := ⟨_, _, _, _, cfX5, by decide, gm (i := 139) (by decide +kernel) (by decide +kernel), rfl, rfl⟩
theorem fX6_44 : fS RX6 44 5 6 (.boolean) false := ⟨_, _, _, _, cfX5, by decide, gm (i := 140) (by decide +kernel) (by decide +kernel), rfl, rfl⟩
theorem fX10_125 : fS RX10 125 5 6 (.boolean) false := ⟨_, _, _, _, cfX5, by decide, gm (i := 141) (by decide +kernel) (by decide +kernel), rfl, rfl⟩
theorem fX5_34 : fS RX5 34 5 7 (.int) false := ⟨_, _, _, _, cfX5, by decide, gm (i := 142) (by decide +kernel) (by decide +kernel), rfl, rfl⟩
theorem fX2_45 : fS RX2 45 5 7 (.int) false := ⟨_, _, _, _, cfX5, by decide, gm (i := 143) (by decide +kernel) (by decide +kernel), rfl, rfl⟩
theorem fX6_77 : fS RX6 77 5 7 (.int) false := ⟨_, _, _, _, cfX5, by decide, gm (i := 144) (by decide +kernel) (by decide +kernel), rfl, rfl⟩
theorem fX5_38 : fS RX5 38 5 8 (.int) false := ⟨_, _, _, _, cfX5, by decide, gm (i := 145) (by decide +kernel) (by decide +kernel), rfl, rfl⟩
theorem fX2_40 : fS RX2 40 5 8 (.int) false := ⟨_, _, _, _, cfX5, by decide, gm (i := 146) (by decide +kernel) (by decide +kernel), rfl, rfl⟩
theorem fX10_119 : fS RX10 119 5 8 (.int) false := ⟨_, _, _, _, cfX5, by decide, gm (i := 147) (by decide +kernel) (by decide +kernel), rfl, rfl⟩
theorem fX6_64 : fS RX6 64 5 8 (.int) false := ⟨_, _, _, _, cfX5, by decide, gm (i := 148) (by decide +kernel) (by decide +kernel), rfl, rfl⟩
theorem fX3_39 : fS RX3 39 5 8 (.int) false := ⟨_, _, _, _, cfX5, by decide, gm (i := 149) (by decide +kernel) (by decide +kernel), rfl, rfl⟩
theorem fX5_41 : fS RX5 41 5 9 (.int) false := ⟨_, _, _, _, cfX5, by decide, gm (i := 150) (by decide +kernel) (by decide +kernel), rfl, rfl⟩
theorem fX7_34 : fS RX7 34 5 9 (.int) false := ⟨_, _, _, _, cfX5, by decide, gm (i := 151) (by decide +kernel) (by decide +kernel), rfl, rfl⟩
theorem fX6_67 : fS RX6 67 5 9 (.int) false := ⟨_, _, _, _, cfX5, by decide, gm (i := 152) (by decide +kernel) (by decide +kernel), rfl, rfl⟩
theorem fX10_128 : fS RX10 128 5 9 (.int) false := ⟨_, _, _, _, cfX5, by decide, gm (i := 153) (by decide +kernel) (by decide +kernel), rfl, rfl⟩
theorem fX5_44 : fS RX5 44 5 10 (.int) false := ⟨_, _, _, _, cfX5, by decide, gm (i := 154) (by decide +kernel) (by decide +kernel), rfl, rfl⟩
theorem fX6_70 : fS RX6 70 5 10 (.int) false := ⟨_, _, _, _, cfX5, by decide, gm (i := 155) (by decide +kernel) (by decide +kernel), rfl, rfl⟩
theorem fX10_131 : fS RX10 131 5 10 (.int) false := ⟨_, _, _, _, cfX5, by decide, gm (i := 156) (by decide +kernel) (by decide +kernel), rfl, rfl⟩
theorem xX10_26 : Cond.classLink RX10 26 RX2 ∈ gTbl := gm (i := 180) (by decide +kernel) (by decide +kernel)
theorem iaX2 : Cond.instantiable RX2 7 ∈ gTbl := gm (i := 181) (by decide +kernel) (by decide +kernel)
theorem nX10_28 : (RX10, 28, mX2_init.1, "DayCords") ∈ nTbl := List.mem_of_getElem? (i := 2) (by decide +kernel)
theorem lX2_3 : Cond.methodLink RX2 3 objectInit ∈ gTbl := gm (i := 185) (by decide +kernel) (by decide +kernel)
theorem fX2_9 : fS RX2 9 2 0 (.array .int) true := ⟨_, _, _, _, cfX2, by decide, gm (i := 186) (by decide +kernel) (by decide +kernel), rfl, rfl⟩
theorem fX8_43 : fS RX8 43 2 0 (.array .int) true := ⟨_, _, _, _, cfX2, by decide, gm (i := 187) (by decide +kernel) (by decide +kernel), rfl, rfl⟩
theorem fX9_40 : fS RX9 40 2 0 (.array .int) true := ⟨_, _, _, _, cfX2, by decide, gm (i := 188) (by decide +kernel) (by decide +kernel), rfl, rfl⟩
theorem fX7_44 : fS RX7 44 2 0 (.array .int) true := ⟨_, _, _, _, cfX2, by decide, gm (i := 189) (by decide +kernel) (by decide +kernel), rfl, rfl⟩
theorem fX2_15 : fS RX2 15 2 1 (.array .int) true := ⟨_, _, _, _, cfX2, by decide, gm (i := 190) (by decide +kernel) (by decide +kernel), rfl, rfl⟩
theorem fX10_188 : fS RX10 188 2 1 (.array .int) true := ⟨_, _, _, _, cfX2, by decide, gm (i := 191) (by decide +kernel) (by decide +kernel), rfl, rfl⟩
theorem fX2_18 : fS RX2 18 2 2 (.array .int) true := ⟨_, _, _, _, cfX2, by decide, gm (i := 192) (by decide +kernel) (by decide +kernel), rfl, rfl⟩
theorem fX10_191 : fS RX10 191 2 2 (.array .int) true := ⟨_, _, _, _, cfX2, by decide, gm (i := 193) (by decide +kernel) (by decide +kernel), rfl, rfl⟩
theorem fX2_21 : fS RX2 21 2 3 (.int) false := ⟨_, _, _, _, cfX2, by decide, gm (i := 194) (by decide +kernel) (by decide +kernel), rfl, rfl⟩
theorem fX8_15 : fS RX8 15 2 3 (.int) false := ⟨_, _, _, _, cfX2, by decide, gm (i := 195) (by decide +kernel) (by decide +kernel), rfl, rfl⟩
theorem fX7_19 : fS RX7 19 2 3 (.int) false := ⟨_, _, _, _, cfX2, by decide, gm (i := 196) (by decide +kernel) (by decide +kernel), rfl, rfl⟩
theorem fX9_35 : fS RX9 35 2 3 (.int) false := ⟨_, _, _, _, cfX2, by decide, gm (i := 197) (by decide +kernel) (by decide +kernel), rfl, rfl⟩
theorem fX10_140 : fS RX10 140 2 3 (.int) false := ⟨_, _, _, _, cfX2, by decide, gm (i := 198) (by decide +kernel) (by decide +kernel), rfl, rfl⟩
theorem fX2_25 : fS RX2 25 2 4 (.int) false := ⟨_, _, _, _, cfX2, by decide, gm (i := 199) (by decide +kernel) (by decide +kernel), rfl, rfl⟩
theorem fX10_149 : fS RX10 149 2 4 (.int) false := ⟨_, _, _, _, cfX2, by decide, gm (i := 200) (by decide +kernel) (by decide +kernel), rfl, rfl⟩
theorem fX2_28 : fS RX2 28 2 5 (.int) false := ⟨_, _, _, _, cfX2, by decide, gm (i := 201) (by decide +kernel) (by decide +kernel), rfl, rfl⟩
theorem fX10_137 : fS RX10 137 2 5 (.int) false := ⟨_, _, _, _, cfX2, by decide, gm (i := 202) (by decide +kernel) (by decide +kernel), rfl, rfl⟩
theorem fX2_31 : fS RX2 31 2 6 (.int) false := ⟨_, _, _, _, cfX2, by decide, gm (i := 203) (by decide +kernel) (by decide +kernel), rfl, rfl⟩
theorem fX10_134 : fS RX10 134 2 6 (.int) false := ⟨_, _, _, _, cfX2, by decide, gm (i := 204) (by decide +kernel) (by decide +kernel), rfl, rfl⟩
theorem xX10_33 : Cond.classLink RX10 33 RX4 ∈ gTbl := gm (i := 220) (by decide +kernel) (by decide +kernel)
theorem iaX4 : Cond.instantiable RX4 3 ∈ gTbl := gm (i := 221) (by decide +kernel) (by decide +kernel)
theorem lX10_35 : Cond.methodLink RX10 35 mX4_init.1 ∈ gTbl := gm (i := 222) (by decide +kernel) (by decide +kernel)
theorem lX4_3 : Cond.methodLink RX4 3 objectInit ∈ gTbl := gm (i := 225) (by decide +kernel) (by decide +kernel)
theorem xX4_9 : Cond.classLink RX4 9 RX2 ∈ gTbl := gm (i := 226) (by decide +kernel) (by decide +kernel)
theorem nX4_24 : (RX4, 24, mX2_init.1, "DayCords") ∈ nTbl := List.mem_of_getElem? (i := 3) (by decide +kernel)
theorem fX4_11 : fS RX4 11 4 0 (.array (.object "DayCords$Line")) true := ⟨_, _, _, _, cfX4, by decide, gm (i := 229) (by decide +kernel) (by decide +kernel), rfl, rfl⟩
theorem fX4_17 : fS RX4 17 4 1 (.int) false := ⟨_, _, _, _, cfX4, by decide, gm (i := 230) (by decide +kernel) (by decide +kernel), rfl, rfl⟩
theorem fX4_21 : fS RX4 21 4 2 (.int) false := ⟨_, _, _, _, cfX4, by decide, gm (i := 231) (by decide +kernel) (by decide +kernel), rfl, rfl⟩
theorem fX10_172 : fS RX10 172 4 2 (.int) false := ⟨_, _, _, _, cfX4, by decide, gm (i := 232) (by decide +kernel) (by decide +kernel), rfl, rfl⟩
theorem xX10_40 : Cond.classLink RX10 40 RX1 ∈ gTbl := gm (i := 240) (by decide +kernel) (by decide +kernel)
theorem iaX1 : Cond.instantiable RX1 3 ∈ gTbl := gm (i := 242) (by decide +kernel) (by decide +kernel)
theorem nX10_42 : (RX10, 42, mX1_init.1, "DayCords") ∈ nTbl := List.mem_of_getElem? (i := 4) (by decide +kernel)
theorem lX1_1 : Cond.methodLink RX1 1 objectInit ∈ gTbl := gm (i := 246) (by decide +kernel) (by decide +kernel)
theorem xX1_7 : Cond.classLink RX1 7 RX2 ∈ gTbl := gm (i := 247) (by decide +kernel) (by decide +kernel)
theorem nX1_9 : (RX1, 9, mX2_init.1, "DayCords") ∈ nTbl := List.mem_of_getElem? (i := 5) (by decide +kernel)
theorem fX1_10 : fS RX1 10 1 0 (.object "DayCords$Line") true := ⟨_, _, _, _, cfX1, by decide, gm (i := 249) (by decide +kernel) (by decide +kernel), rfl, rfl⟩
theorem fX10_308 : fS RX10 308 1 0 (.object "DayCords$Line") true := ⟨_, _, _, _, cfX1, by decide, gm (i := 250) (by decide +kernel) (by decide +kernel), rfl, rfl⟩
theorem fX1_16 : fS RX1 16 1 1 (.int) false := ⟨_, _, _, _, cfX1, by decide, gm (i := 251) (by decide +kernel) (by decide +kernel), rfl, rfl⟩
theorem fX10_305 : fS RX10 305 1 1 (.int) false := ⟨_, _, _, _, cfX1, by decide, gm (i := 252) (by decide +kernel) (by decide +kernel), rfl, rfl⟩
theorem fX1_20 : fS RX1 20 1 2 (.boolean) false := ⟨_, _, _, _, cfX1, by decide, gm (i := 253) (by decide +kernel) (by decide +kernel), rfl, rfl⟩
theorem fX10_115 : fS RX10 115 1 2 (.boolean) false := ⟨_, _, _, _, cfX1, by decide, gm (i := 254) (by decide +kernel) (by decide +kernel), rfl, rfl⟩
theorem xX10_47 : Cond.classLink RX10 47 RX9 ∈ gTbl := gm (i := 262) (by decide +kernel) (by decide +kernel)
theorem iaX9 : Cond.instantiable RX9 2 ∈ gTbl := gm (i := 263) (by decide +kernel) (by decide +kernel)
theorem nX10_49 : (RX10, 49, mX9_init.1, "DayCords") ∈ nTbl := List.mem_of_getElem? (i := 6) (by decide +kernel)
theorem lX9_3 : Cond.methodLink RX9 3 objectInit ∈ gTbl := gm (i := 267) (by decide +kernel) (by decide +kernel)
theorem fX9_9 : fS RX9 9 9 0 (.array .int) true := ⟨_, _, _, _, cfX9, by decide, gm (i := 268) (by decide +kernel) (by decide +kernel), rfl, rfl⟩
theorem fX9_15 : fS RX9 15 9 1 (.int) false := ⟨_, _, _, _, cfX9, by decide, gm (i := 269) (by decide +kernel) (by decide +kernel), rfl, rfl⟩
theorem xX10_54 : Cond.classLink RX10 54 RX7 ∈ gTbl := gm (i := 275) (by decide +kernel) (by decide +kernel)
theorem iaX7 : Cond.instantiable RX7 1 ∈ gTbl := gm (i := 276) (by decide +kernel) (by decide +kernel)
theorem nX10_56 : (RX10, 56, mX7_init.1, "DayCords") ∈ nTbl := List.mem_of_getElem? (i := 7) (by decide +kernel)
theorem lX7_3 : Cond.methodLink RX7 3 objectInit ∈ gTbl := gm (i := 280) (by decide +kernel) (by decide +kernel)
theorem fX7_9 : fS RX7 9 7 0 (.array .int) true := ⟨_, _, _, _, cfX7, by decide, gm (i := 281) (by decide +kernel) (by decide +kernel), rfl, rfl⟩
theorem xX10_61 : Cond.classLink RX10 61 RX8 ∈ gTbl := gm (i := 285) (by decide +kernel) (by decide +kernel)
theorem iaX8 : Cond.instantiable RX8 1 ∈ gTbl := gm (i := 286) (by decide +kernel) (by decide +kernel)
theorem nX10_63 : (RX10, 63, mX8_init.1, "DayCords") ∈ nTbl := List.mem_of_getElem? (i := 8) (by decide +kernel)
theorem lX8_3 : Cond.methodLink RX8 3 objectInit ∈ gTbl := gm (i := 290) (by decide +kernel) (by decide +kernel)
theorem fX8_9 : fS RX8 9 8 0 (.array .int) true := ⟨_, _, _, _, cfX8, by decide, gm (i := 291) (by decide +kernel) (by decide +kernel), rfl, rfl⟩
theorem xX10_68 : Cond.classLink RX10 68 RX3 ∈ gTbl := gm (i := 295) (by decide +kernel) (by decide +kernel)
theorem iaX3 : Cond.instantiable RX3 3 ∈ gTbl := gm (i := 296) (by decide +kernel) (by decide +kernel)
theorem nX10_70 : (RX10, 70, mX3_init.1, "DayCords") ∈ nTbl := List.mem_of_getElem? (i := 9) (by decide +kernel)
theorem lX3_3 : Cond.methodLink RX3 3 objectInit ∈ gTbl := gm (i := 300) (by decide +kernel) (by decide +kernel)
theorem fX3_9 : fS RX3 9 3 0 (.array .int) true := ⟨_, _, _, _, cfX3, by decide, gm (i := 301) (by decide +kernel) (by decide +kernel), rfl, rfl⟩
theorem fX3_15 : fS RX3 15 3 1 (.array .boolean) true := ⟨_, _, _, _, cfX3, by decide, gm (i := 302) (by decide +kernel) (by decide +kernel), rfl, rfl⟩
theorem fX3_19 : fS RX3 19 3 2 (.int) false := ⟨_, _, _, _, cfX3, by decide, gm (i := 303) (by decide +kernel) (by decide +kernel), rfl, rfl⟩
theorem fX10_111 : fS RX10 111 3 2 (.int) false := ⟨_, _, _, _, cfX3, by decide, gm (i := 304) (by decide +kernel) (by decide +kernel), rfl, rfl⟩
theorem xX10_75 : Cond.classLink RX10 75 RX0 ∈ gTbl := gm (i := 313) (by decide +kernel) (by decide +kernel)
theorem iaX0 : Cond.instantiable RX0 3 ∈ gTbl := gm (i := 314) (by decide +kernel) (by decide +kernel)
theorem nX10_77 : (RX10, 77, mX0_init.1, "DayCords") ∈ nTbl := List.mem_of_getElem? (i := 10) (by decide +kernel)
theorem lX0_3 : Cond.methodLink RX0 3 objectInit ∈ gTbl := gm (i := 318) (by decide +kernel) (by decide +kernel)
theorem fX0_9 : fS RX0 9 0 0 (.array .int) true := ⟨_, _, _, _, cfX0, by decide, gm (i := 319) (by decide +kernel) (by decide +kernel), rfl, rfl⟩
theorem fX0_15 : fS RX0 15 0 1 (.array .int) true := ⟨_, _, _, _, cfX0, by decide, gm (i := 320) (by decide +kernel) (by decide +kernel), rfl, rfl⟩
theorem fX0_18 : fS RX0 18 0 2 (.int) false := ⟨_, _, _, _, cfX0, by decide, gm (i := 321) (by decide +kernel) (by decide +kernel), rfl, rfl⟩
theorem fX10_114 : fS RX10 114 0 2 (.int) false := ⟨_, _, _, _, cfX0, by decide, gm (i := 322) (by decide +kernel) (by decide +kernel), rfl, rfl⟩
theorem fX10_10 : fS RX10 10 10 0 (.object "DayCords$Reader") true := ⟨_, _, _, _, cfX10, by decide, gm (i := 330) (by decide +kernel) (by decide +kernel), rfl, rfl⟩
theorem fX10_19 : fS RX10 19 10 1 (.object "DayCords$Plan") true := ⟨_, _, _, _, cfX10, by decide, gm (i := 331) (by decide +kernel) (by decide +kernel), rfl, rfl⟩
theorem fX10_23 : fS RX10 23 10 2 (.object "DayCords$Plan") true := ⟨_, _, _, _, cfX10, by decide, gm (i := 332) (by decide +kernel) (by decide +kernel), rfl, rfl⟩
theorem fX10_29 : fS RX10 29 10 3 (.object "DayCords$Line") true := ⟨_, _, _, _, cfX10, by decide, gm (i := 333) (by decide +kernel) (by decide +kernel), rfl, rfl⟩
theorem fX10_36 : fS RX10 36 10 4 (.object "DayCords$Past") true := ⟨_, _, _, _, cfX10, by decide, gm (i := 334) (by decide +kernel) (by decide +kernel), rfl, rfl⟩
theorem fX10_43 : fS RX10 43 10 5 (.array (.object "DayCords$Image")) true := ⟨_, _, _, _, cfX10, by decide, gm (i := 335) (by decide +kernel) (by decide +kernel), rfl, rfl⟩
theorem fX10_50 : fS RX10 50 10 6 (.object "DayCords$Turner") true := ⟨_, _, _, _, cfX10, by decide, gm (i := 336) (by decide +kernel) (by decide +kernel), rfl, rfl⟩
theorem fX10_57 : fS RX10 57 10 7 (.object "DayCords$Sailor") true := ⟨_, _, _, _, cfX10, by decide, gm (i := 337) (by decide +kernel) (by decide +kernel), rfl, rfl⟩
theorem fX10_64 : fS RX10 64 10 8 (.object "DayCords$Takers") true := ⟨_, _, _, _, cfX10, by decide, gm (i := 338) (by decide +kernel) (by decide +kernel), rfl, rfl⟩
theorem fX10_71 : fS RX10 71 10 9 (.object "DayCords$Looks") true := ⟨_, _, _, _, cfX10, by decide, gm (i := 339) (by decide +kernel) (by decide +kernel), rfl, rfl⟩
theorem fX10_78 : fS RX10 78 10 10 (.object "DayCords$Book") true := ⟨_, _, _, _, cfX10, by decide, gm (i := 340) (by decide +kernel) (by decide +kernel), rfl, rfl⟩
theorem fX10_82 : fS RX10 82 10 11 (.int) false := ⟨_, _, _, _, cfX10, by decide, gm (i := 341) (by decide +kernel) (by decide +kernel), rfl, rfl⟩
theorem lL_13 : Cond.methodLink RL 13 mX10_feed.1 ∈ gTbl := gm (i := 367) (by decide +kernel) (by decide +kernel)
theorem kX10_86 : Cond.constant RX10 86 (Int32.ofInt (-1000000002)) ∈ gTbl := gm (i := 371) (by decide +kernel) (by decide +kernel)
theorem kX10_90 : Cond.constant RX10 90 (Int32.ofInt (-1000000004)) ∈ gTbl := gm (i := 372) (by decide +kernel) (by decide +kernel)
theorem lL_18 : Cond.methodLink RL 18 mX10_cord.1 ∈ gTbl := gm (i := 373) (by decide +kernel) (by decide +kernel)
theorem lX10_95 : Cond.methodLink RX10 95 mX6_readInto.1 ∈ gTbl := gm (i := 377) (by decide +kernel) (by decide +kernel)
theorem lX6_28 : Cond.methodLink RX6 28 mX5_clear.1 ∈ gTbl := gm (i := 381) (by decide +kernel) (by decide +kernel)
theorem lX6_33 : Cond.methodLink RX6 33 mX6_skipBlanks.1 ∈ gTbl := gm (i := 385) (by decide +kernel) (by decide +kernel)
theorem lX6_36 : Cond.methodLink RX6 36 mX6_readClause.1 ∈ gTbl := gm (i := 389) (by decide +kernel) (by decide +kernel)
theorem lX6_40 : Cond.methodLink RX6 40 mX6_letterHere.1 ∈ gTbl := gm (i := 393) (by decide +kernel) (by decide +kernel)
theorem lX6_48 : Cond.methodLink RX6 48 mX6_blame.1 ∈ gTbl := gm (i := 397) (by decide +kernel) (by decide +kernel)
theorem lX6_52 : Cond.methodLink RX6 52 mX6_isFullFor.1 ∈ gTbl := gm (i := 401) (by decide +kernel) (by decide +kernel)
theorem lX6_56 : Cond.methodLink RX6 56 mX6_readRest.1 ∈ gTbl := gm (i := 404) (by decide +kernel) (by decide +kernel)
theorem lX6_73 : Cond.methodLink RX6 73 mX6_readNumber.1 ∈ gTbl := gm (i := 408) (by decide +kernel) (by decide +kernel)
theorem lX6_101 : Cond.methodLink RX6 101 mX6_isFigure.1 ∈ gTbl := gm (i := 412) (by decide +kernel) (by decide +kernel)
theorem lX6_86 : Cond.methodLink RX6 86 mX6_readKinds.1 ∈ gTbl := gm (i := 415) (by decide +kernel) (by decide +kernel)
theorem lX6_60 : Cond.methodLink RX6 60 mX6_readMark.1 ∈ gTbl := gm (i := 419) (by decide +kernel) (by decide +kernel)
theorem lX10_102 : Cond.methodLink RX10 102 mX5_copyFrom.1 ∈ gTbl := gm (i := 423) (by decide +kernel) (by decide +kernel)
theorem lX5_47 : Cond.methodLink RX5 47 arraycopyName ∈ gTbl := gm (i := 427) (by decide +kernel) (by decide +kernel)
theorem lX10_105 : Cond.methodLink RX10 105 mX2_hangAll.1 ∈ gTbl := gm (i := 430) (by decide +kernel) (by decide +kernel)
theorem lX2_34 : Cond.methodLink RX2 34 mJ7_fill.1 ∈ gTbl := gm (i := 434) (by decide +kernel) (by decide +kernel)
theorem lX10_108 : Cond.methodLink RX10 108 mX4_forget.1 ∈ gTbl := gm (i := 437) (by decide +kernel) (by decide +kernel)
theorem lL_23 : Cond.methodLink RL 23 mX10_fault.1 ∈ gTbl := gm (i := 441) (by decide +kernel) (by decide +kernel)
theorem lL_27 : Cond.methodLink RL 27 mX10_told.1 ∈ gTbl := gm (i := 445) (by decide +kernel) (by decide +kernel)
theorem lX10_141 : Cond.methodLink RX10 141 mX2_onSet.1 ∈ gTbl := gm (i := 449) (by decide +kernel) (by decide +kernel)
theorem lX10_145 : Cond.methodLink RX10 145 mX2_outSet.1 ∈ gTbl := gm (i := 453) (by decide +kernel) (by decide +kernel)
theorem lX2_58 : Cond.methodLink RX2 58 mX2_isOut.1 ∈ gTbl := gm (i := 457) (by decide +kernel) (by decide +kernel)
theorem nX2_54 : (RX2, 54, mX10_hasBit.1, "DayCords") ∈ nTbl := List.mem_of_getElem? (i := 11) (by decide +kernel)
theorem lX10_152 : Cond.methodLink RX10 152 mX2_rises.1 ∈ gTbl := gm (i := 464) (by decide +kernel) (by decide +kernel)
theorem lX2_82 : Cond.methodLink RX2 82 mX2_risesFrom.1 ∈ gTbl := gm (i := 468) (by decide +kernel) (by decide +kernel)
theorem lX10_156 : Cond.methodLink RX10 156 mX2_crossed.1 ∈ gTbl := gm (i := 472) (by decide +kernel) (by decide +kernel)
theorem lX10_159 : Cond.methodLink RX10 159 mX2_rightCut.1 ∈ gTbl := gm (i := 476) (by decide +kernel) (by decide +kernel)
theorem lX2_86 : Cond.methodLink RX2 86 mX2_rises.1 ∈ gTbl := gm (i := 480) (by decide +kernel) (by decide +kernel)
theorem lX10_162 : Cond.methodLink RX10 162 mX7_readings.1 ∈ gTbl := gm (i := 481) (by decide +kernel) (by decide +kernel)
theorem lX7_15 : Cond.methodLink RX7 15 mX7_countWays.1 ∈ gTbl := gm (i := 485) (by decide +kernel) (by decide +kernel)
theorem lX7_37 : Cond.methodLink RX7 37 mX7_begins.1 ∈ gTbl := gm (i := 489) (by decide +kernel) (by decide +kernel)
theorem lX7_47 : Cond.methodLink RX7 47 mX5_wordKind.1 ∈ gTbl := gm (i := 492) (by decide +kernel) (by decide +kernel)
theorem lX10_166 : Cond.methodLink RX10 166 mX7_firstReading.1 ∈ gTbl := gm (i := 496) (by decide +kernel) (by decide +kernel)
theorem lX7_25 : Cond.methodLink RX7 25 mX7_firstWordOn.1 ∈ gTbl := gm (i := 500) (by decide +kernel) (by decide +kernel)
theorem lX10_169 : Cond.methodLink RX10 169 mX7_spelt.1 ∈ gTbl := gm (i := 504) (by decide +kernel) (by decide +kernel)
theorem lL_31 : Cond.methodLink RL 31 mX10_flag.1 ∈ gTbl := gm (i := 508) (by decide +kernel) (by decide +kernel)
theorem lX10_173 : Cond.methodLink RX10 173 mX5_hasFlag.1 ∈ gTbl := gm (i := 512) (by decide +kernel) (by decide +kernel)
theorem kX10_177 : Cond.constant RX10 177 (Int32.ofInt (-1000000001)) ∈ gTbl := gm (i := 516) (by decide +kernel) (by decide +kernel)
theorem lX10_184 : Cond.methodLink RX10 184 mX2_placeOf.1 ∈ gTbl := gm (i := 517) (by decide +kernel) (by decide +kernel)
theorem lL_36 : Cond.methodLink RL 36 mX10_at.1 ∈ gTbl := gm (i := 521) (by decide +kernel) (by decide +kernel)
theorem lX10_194 : Cond.methodLink RX10 194 mX2_flagAt.1 ∈ gTbl := gm (i := 525) (by decide +kernel) (by decide +kernel)
theorem lL_40 : Cond.methodLink RL 40 mX10_hook.1 ∈ gTbl := gm (i := 529) (by decide +kernel) (by decide +kernel)
theorem lX10_203 : Cond.methodLink RX10 203 mX5_placesOfHook.1 ∈ gTbl := gm (i := 533) (by decide +kernel) (by decide +kernel)
theorem lX10_206 : Cond.methodLink RX10 206 mX2_flagsAt.1 ∈ gTbl := gm (i := 537) (by decide +kernel) (by decide +kernel)
theorem lL_44 : Cond.methodLink RL 44 mX10_word.1 ∈ gTbl := gm (i := 541) (by decide +kernel) (by decide +kernel)
theorem lX10_212 : Cond.methodLink RX10 212 mX5_wordKind.1 ∈ gTbl := gm (i := 545) (by decide +kernel) (by decide +kernel)
theorem lL_48 : Cond.methodLink RL 48 mX10_turn.1 ∈ gTbl := gm (i := 546) (by decide +kernel) (by decide +kernel)
theorem lX10_216 : Cond.methodLink RX10 216 mX4_remember.1 ∈ gTbl := gm (i := 550) (by decide +kernel) (by decide +kernel)
theorem lX4_25 : Cond.methodLink RX4 25 mX2_copyFrom.1 ∈ gTbl := gm (i := 554) (by decide +kernel) (by decide +kernel)
theorem lX2_48 : Cond.methodLink RX2 48 arraycopyName ∈ gTbl := gm (i := 558) (by decide +kernel) (by decide +kernel)
theorem lX4_29 : Cond.methodLink RX4 29 mJ9_min.1 ∈ gTbl := gm (i := 559) (by decide +kernel) (by decide +kernel)
theorem lX10_220 : Cond.methodLink RX10 220 mX2_turnFront.1 ∈ gTbl := gm (i := 562) (by decide +kernel) (by decide +kernel)
theorem lX2_68 : Cond.methodLink RX2 68 mX2_swapEnds.1 ∈ gTbl := gm (i := 566) (by decide +kernel) (by decide +kernel)
theorem lL_52 : Cond.methodLink RL 52 mX10_cut.1 ∈ gTbl := gm (i := 570) (by decide +kernel) (by decide +kernel)
theorem lX10_224 : Cond.methodLink RX10 224 mX2_cutAt.1 ∈ gTbl := gm (i := 574) (by decide +kernel) (by decide +kernel)
theorem lL_56 : Cond.methodLink RL 56 mX10_eat.1 ∈ gTbl := gm (i := 578) (by decide +kernel) (by decide +kernel)
theorem kX10_227 : Cond.constant RX10 227 (Int32.ofInt (-1000000003)) ∈ gTbl := gm (i := 582) (by decide +kernel) (by decide +kernel)
theorem lX10_228 : Cond.methodLink RX10 228 mX2_takeOff.1 ∈ gTbl := gm (i := 583) (by decide +kernel) (by decide +kernel)
theorem lL_60 : Cond.methodLink RL 60 mX10_sew.1 ∈ gTbl := gm (i := 587) (by decide +kernel) (by decide +kernel)
theorem lX10_231 : Cond.methodLink RX10 231 mX2_sewOn.1 ∈ gTbl := gm (i := 591) (by decide +kernel) (by decide +kernel)
theorem lL_64 : Cond.methodLink RL 64 mX10_rain.1 ∈ gTbl := gm (i := 595) (by decide +kernel) (by decide +kernel)
theorem lX10_235 : Cond.methodLink RX10 235 mJ6_bitCount.1 ∈ gTbl := gm (i := 599) (by decide +kernel) (by decide +kernel)
theorem kJ6_265 : Cond.constant RJ6 265 (Int32.ofInt (1431655765)) ∈ gTbl := gm (i := 602) (by decide +kernel) (by decide +kernel)
theorem kJ6_266 : Cond.constant RJ6 266 (Int32.ofInt (858993459)) ∈ gTbl := gm (i := 603) (by decide +kernel) (by decide +kernel)
theorem kJ6_267 : Cond.constant RJ6 267 (Int32.ofInt (252645135)) ∈ gTbl := gm (i := 604) (by decide +kernel) (by decide +kernel)
theorem lL_69 : Cond.methodLink RL 69 mX10_wind.1 ∈ gTbl := gm (i := 605) (by decide +kernel) (by decide +kernel)
theorem lL_73 : Cond.methodLink RL 73 mX10_year.1 ∈ gTbl := gm (i := 609) (by decide +kernel) (by decide +kernel)
theorem lX10_240 : Cond.methodLink RX10 240 mX10_yearsRefused.1 ∈ gTbl := gm (i := 613) (by decide +kernel) (by decide +kernel)
theorem lX10_243 : Cond.methodLink RX10 243 mX2_passYear.1 ∈ gTbl := gm (i := 617) (by decide +kernel) (by decide +kernel)
theorem lX2_72 : Cond.methodLink RX2 72 mJ9_min.1 ∈ gTbl := gm (i := 621) (by decide +kernel) (by decide +kernel)
theorem lX2_78 : Cond.methodLink RX2 78 mX2_takeOff.1 ∈ gTbl := gm (i := 622) (by decide +kernel) (by decide +kernel)
theorem lL_77 : Cond.methodLink RL 77 mX10_drift.1 ∈ gTbl := gm (i := 623) (by decide +kernel) (by decide +kernel)
theorem lX10_246 : Cond.methodLink RX10 246 mX10_chance.1 ∈ gTbl := gm (i := 627) (by decide +kernel) (by decide +kernel)
theorem lX10_320 : Cond.methodLink RX10 320 mX10_draw.1 ∈ gTbl := gm (i := 631) (by decide +kernel) (by decide +kernel)
theorem kX10_313 : Cond.constantLong RX10 313 (Int64.ofInt (1103515245)) ∈ gTbl := gm (i := 635) (by decide +kernel) (by decide +kernel)
theorem kX10_315 : Cond.constantLong RX10 315 (Int64.ofInt (12345)) ∈ gTbl := gm (i := 636) (by decide +kernel) (by decide +kernel)
theorem kX10_317 : Cond.constantLong RX10 317 (Int64.ofInt (2147483647)) ∈ gTbl := gm (i := 637) (by decide +kernel) (by decide +kernel)
theorem kX10_319 : Cond.constant RX10 319 (Int32.ofInt (65536)) ∈ gTbl := gm (i := 638) (by decide +kernel) (by decide +kernel)
theorem lL_81 : Cond.methodLink RL 81 mX10_undo.1 ∈ gTbl := gm (i := 639) (by decide +kernel) (by decide +kernel)
theorem lX10_249 : Cond.methodLink RX10 249 mX4_bringBack.1 ∈ gTbl := gm (i := 643) (by decide +kernel) (by decide +kernel)
theorem lX4_35 : Cond.methodLink RX4 35 mJ9_floorMod.1 ∈ gTbl := gm (i := 647) (by decide +kernel) (by decide +kernel)
theorem lL_85 : Cond.methodLink RL 85 mX10_turnings.1 ∈ gTbl := gm (i := 650) (by decide +kernel) (by decide +kernel)
theorem lX10_253 : Cond.methodLink RX10 253 mX9_fewest.1 ∈ gTbl := gm (i := 654) (by decide +kernel) (by decide +kernel)
theorem lX9_19 : Cond.methodLink RX9 19 mX9_takeRanks.1 ∈ gTbl := gm (i := 658) (by decide +kernel) (by decide +kernel)
theorem lX9_23 : Cond.methodLink RX9 23 mX9_countGaps.1 ∈ gTbl := gm (i := 662) (by decide +kernel) (by decide +kernel)
theorem lX9_43 : Cond.methodLink RX9 43 mX9_gapBetween.1 ∈ gTbl := gm (i := 666) (by decide +kernel) (by decide +kernel)
theorem lX9_27 : Cond.methodLink RX9 27 mX9_firstWithin.1 ∈ gTbl := gm (i := 669) (by decide +kernel) (by decide +kernel)
theorem lX9_47 : Cond.methodLink RX9 47 mX9_turnRanks.1 ∈ gTbl := gm (i := 672) (by decide +kernel) (by decide +kernel)
theorem lX10_257 : Cond.methodLink RX10 257 mX9_firstTurn.1 ∈ gTbl := gm (i := 675) (by decide +kernel) (by decide +kernel)
theorem lX9_31 : Cond.methodLink RX9 31 mX9_fewest.1 ∈ gTbl := gm (i := 679) (by decide +kernel) (by decide +kernel)
theorem lL_89 : Cond.methodLink RL 89 mX10_loose.1 ∈ gTbl := gm (i := 680) (by decide +kernel) (by decide +kernel)
theorem lX10_260 : Cond.methodLink RX10 260 mX2_looseSet.1 ∈ gTbl := gm (i := 684) (by decide +kernel) (by decide +kernel)
theorem lX2_90 : Cond.methodLink RX2 90 mX2_onSet.1 ∈ gTbl := gm (i := 688) (by decide +kernel) (by decide +kernel)
theorem lX2_94 : Cond.methodLink RX2 94 mJ6_bitCount.1 ∈ gTbl := gm (i := 689) (by decide +kernel) (by decide +kernel)
theorem lX2_100 : Cond.methodLink RX2 100 mX2_risesWithout.1 ∈ gTbl := gm (i := 690) (by decide +kernel) (by decide +kernel)
theorem lL_93 : Cond.methodLink RL 93 mX10_felt.1 ∈ gTbl := gm (i := 694) (by decide +kernel) (by decide +kernel)
theorem lX10_263 : Cond.methodLink RX10 263 mX2_pullAt.1 ∈ gTbl := gm (i := 698) (by decide +kernel) (by decide +kernel)
theorem lX2_103 : Cond.methodLink RX2 103 mJ9_max.1 ∈ gTbl := gm (i := 702) (by decide +kernel) (by decide +kernel)
theorem lL_97 : Cond.methodLink RL 97 mX10_farthest.1 ∈ gTbl := gm (i := 705) (by decide +kernel) (by decide +kernel)
theorem lL_101 : Cond.methodLink RL 101 mX10_hooked.1 ∈ gTbl := gm (i := 709) (by decide +kernel) (by decide +kernel)
theorem lX10_267 : Cond.methodLink RX10 267 mX5_allFlags.1 ∈ gTbl := gm (i := 713) (by decide +kernel) (by decide +kernel)
theorem lX10_270 : Cond.methodLink RX10 270 mX2_placesOf.1 ∈ gTbl := gm (i := 717) (by decide +kernel) (by decide +kernel)
theorem lX10_273 : Cond.methodLink RX10 273 mX5_fewestHooks.1 ∈ gTbl := gm (i := 721) (by decide +kernel) (by decide +kernel)
theorem lX5_53 : Cond.methodLink RX5 53 mJ6_bitCount.1 ∈ gTbl := gm (i := 725) (by decide +kernel) (by decide +kernel)
theorem lX5_59 : Cond.methodLink RX5 59 mX5_placesOfHooks.1 ∈ gTbl := gm (i := 726) (by decide +kernel) (by decide +kernel)
theorem nX5_62 : (RX5, 62, mX10_hasBit.1, "DayCords") ∈ nTbl := List.mem_of_getElem? (i := 12) (by decide +kernel)
theorem lX5_66 : Cond.methodLink RX5 66 mX5_placesOfHook.1 ∈ gTbl := gm (i := 731) (by decide +kernel) (by decide +kernel)
theorem lL_105 : Cond.methodLink RL 105 mX10_gap.1 ∈ gTbl := gm (i := 732) (by decide +kernel) (by decide +kernel)
theorem lX10_276 : Cond.methodLink RX10 276 mX10_offSet.1 ∈ gTbl := gm (i := 736) (by decide +kernel) (by decide +kernel)
theorem lL_109 : Cond.methodLink RL 109 mX10_ends.1 ∈ gTbl := gm (i := 740) (by decide +kernel) (by decide +kernel)
theorem lX10_279 : Cond.methodLink RX10 279 mX8_more.1 ∈ gTbl := gm (i := 744) (by decide +kernel) (by decide +kernel)
theorem lX8_21 : Cond.methodLink RX8 21 mX8_fillLeads.1 ∈ gTbl := gm (i := 748) (by decide +kernel) (by decide +kernel)
theorem lX8_46 : Cond.methodLink RX8 46 mJ7_fill.1 ∈ gTbl := gm (i := 752) (by decide +kernel) (by decide +kernel)
theorem lX8_32 : Cond.methodLink RX8 32 mJ9_max.1 ∈ gTbl := gm (i := 753) (by decide +kernel) (by decide +kernel)
theorem lX8_25 : Cond.methodLink RX8 25 mX8_byFront.1 ∈ gTbl := gm (i := 754) (by decide +kernel) (by decide +kernel)
theorem lX8_29 : Cond.methodLink RX8 29 mX8_byBack.1 ∈ gTbl := gm (i := 758) (by decide +kernel) (by decide +kernel)
theorem lX10_282 : Cond.methodLink RX10 282 mX8_firstEnd.1 ∈ gTbl := gm (i := 762) (by decide +kernel) (by decide +kernel)
theorem lL_113 : Cond.methodLink RL 113 mX10_calm.1 ∈ gTbl := gm (i := 766) (by decide +kernel) (by decide +kernel)
theorem kX10_285 : Cond.constantLong RX10 285 (Int64.ofInt (1000000000)) ∈ gTbl := gm (i := 770) (by decide +kernel) (by decide +kernel)
theorem kX10_287 : Cond.constantLong RX10 287 (Int64.ofInt (100)) ∈ gTbl := gm (i := 771) (by decide +kernel) (by decide +kernel)
theorem lL_117 : Cond.methodLink RL 117 mX10_old.1 ∈ gTbl := gm (i := 772) (by decide +kernel) (by decide +kernel)
theorem lX10_289 : Cond.methodLink RX10 289 mX3_add.1 ∈ gTbl := gm (i := 776) (by decide +kernel) (by decide +kernel)
theorem lL_122 : Cond.methodLink RL 122 mX10_couldBe.1 ∈ gTbl := gm (i := 780) (by decide +kernel) (by decide +kernel)
theorem lX10_293 : Cond.methodLink RX10 293 mX3_fitting.1 ∈ gTbl := gm (i := 784) (by decide +kernel) (by decide +kernel)
theorem lX3_23 : Cond.methodLink RX3 23 mX3_answering.1 ∈ gTbl := gm (i := 788) (by decide +kernel) (by decide +kernel)
theorem nX3_50 : (RX3, 50, mX10_hasBit.1, "DayCords") ∈ nTbl := List.mem_of_getElem? (i := 13) (by decide +kernel)
theorem lL_126 : Cond.methodLink RL 126 mX10_next.1 ∈ gTbl := gm (i := 792) (by decide +kernel) (by decide +kernel)
theorem lX10_297 : Cond.methodLink RX10 297 mX3_bestLook.1 ∈ gTbl := gm (i := 796) (by decide +kernel) (by decide +kernel)
theorem lX3_27 : Cond.methodLink RX3 27 mJ6_bitCount.1 ∈ gTbl := gm (i := 800) (by decide +kernel) (by decide +kernel)
theorem lX3_33 : Cond.methodLink RX3 33 mJ9_max.1 ∈ gTbl := gm (i := 801) (by decide +kernel) (by decide +kernel)
theorem lL_130 : Cond.methodLink RL 130 mX10_write.1 ∈ gTbl := gm (i := 802) (by decide +kernel) (by decide +kernel)
theorem lX10_300 : Cond.methodLink RX10 300 mX0_add.1 ∈ gTbl := gm (i := 806) (by decide +kernel) (by decide +kernel)
theorem lL_134 : Cond.methodLink RL 134 mX10_judge.1 ∈ gTbl := gm (i := 810) (by decide +kernel) (by decide +kernel)
theorem lX10_302 : Cond.methodLink RX10 302 mX0_firstWrong.1 ∈ gTbl := gm (i := 814) (by decide +kernel) (by decide +kernel)
theorem lX0_22 : Cond.methodLink RX0 22 mX2_flagAt.1 ∈ gTbl := gm (i := 818) (by decide +kernel) (by decide +kernel)
theorem lL_138 : Cond.methodLink RL 138 mX10_tear.1 ∈ gTbl := gm (i := 819) (by decide +kernel) (by decide +kernel)
theorem lL_142 : Cond.methodLink RL 142 mX10_seed.1 ∈ gTbl := gm (i := 823) (by decide +kernel) (by decide +kernel)
theorem lL_146 : Cond.methodLink RL 146 mX10_keep.1 ∈ gTbl := gm (i := 827) (by decide +kernel) (by decide +kernel)
theorem lX10_311 : Cond.methodLink RX10 311 mX2_copyFrom.1 ∈ gTbl := gm (i := 831) (by decide +kernel) (by decide +kernel)
theorem lL_150 : Cond.methodLink RL 150 mX10_goBack.1 ∈ gTbl := gm (i := 832) (by decide +kernel) (by decide +kernel)
theorem xL_10 : Cond.classLink RL 10 RX11 ∈ gTbl := gm (i := 836) (by decide +kernel) (by decide +kernel)
theorem iaX11 : Cond.instantiable RX11 25 ∈ gTbl := gm (i := 837) (by decide +kernel) (by decide +kernel)
theorem lL_12 : Cond.methodLink RL 12 mX11_init.1 ∈ gTbl := gm (i := 838) (by decide +kernel) (by decide +kernel)
theorem lX11_1 : Cond.methodLink RX11 1 objectInit ∈ gTbl := gm (i := 841) (by decide +kernel) (by decide +kernel)
theorem fX11_7 : fS RX11 7 11 0 (.array .int) true := ⟨_, _, _, _, cfX11, by decide, gm (i := 842) (by decide +kernel) (by decide +kernel), rfl, rfl⟩
theorem fX11_72 : fS RX11 72 11 1 (.int) false := ⟨_, _, _, _, cfX11, by decide, gm (i := 843) (by decide +kernel) (by decide +kernel), rfl, rfl⟩
theorem fX11_13 : fS RX11 13 11 2 (.array .int) true := ⟨_, _, _, _, cfX11, by decide, gm (i := 844) (by decide +kernel) (by decide +kernel), rfl, rfl⟩
theorem fX11_16 : fS RX11 16 11 3 (.array .int) true := ⟨_, _, _, _, cfX11, by decide, gm (i := 845) (by decide +kernel) (by decide +kernel), rfl, rfl⟩
theorem fX11_19 : fS RX11 19 11 4 (.array .int) true := ⟨_, _, _, _, cfX11, by decide, gm (i := 846) (by decide +kernel) (by decide +kernel), rfl, rfl⟩
theorem fX11_22 : fS RX11 22 11 5 (.array .int) true := ⟨_, _, _, _, cfX11, by decide, gm (i := 847) (by decide +kernel) (by decide +kernel), rfl, rfl⟩
theorem fX11_109 : fS RX11 109 11 6 (.int) false := ⟨_, _, _, _, cfX11, by decide, gm (i := 848) (by decide +kernel) (by decide +kernel), rfl, rfl⟩
theorem fX11_25 : fS RX11 25 11 7 (.array .int) true := ⟨_, _, _, _, cfX11, by decide, gm (i := 849) (by decide +kernel) (by decide +kernel), rfl, rfl⟩
theorem fX11_28 : fS RX11 28 11 8 (.array .boolean) true := ⟨_, _, _, _, cfX11, by decide, gm (i := 850) (by decide +kernel) (by decide +kernel), rfl, rfl⟩
theorem fX11_180 : fS RX11 180 11 9 (.int) false := ⟨_, _, _, _, cfX11, by decide, gm (i := 851) (by decide +kernel) (by decide +kernel), rfl, rfl⟩
theorem fX11_32 : fS RX11 32 11 10 (.array .int) true := ⟨_, _, _, _, cfX11, by decide, gm (i := 852) (by decide +kernel) (by decide +kernel), rfl, rfl⟩
theorem fX11_112 : fS RX11 112 11 11 (.int) false := ⟨_, _, _, _, cfX11, by decide, gm (i := 853) (by decide +kernel) (by decide +kernel), rfl, rfl⟩
theorem fX11_35 : fS RX11 35 11 12 (.array .int) true := ⟨_, _, _, _, cfX11, by decide, gm (i := 854) (by decide +kernel) (by decide +kernel), rfl, rfl⟩
theorem fX11_115 : fS RX11 115 11 13 (.int) false := ⟨_, _, _, _, cfX11, by decide, gm (i := 855) (by decide +kernel) (by decide +kernel), rfl, rfl⟩
theorem fX11_76 : fS RX11 76 11 14 (.int) false := ⟨_, _, _, _, cfX11, by decide, gm (i := 856) (by decide +kernel) (by decide +kernel), rfl, rfl⟩
theorem fX11_38 : fS RX11 38 11 15 (.int) false := ⟨_, _, _, _, cfX11, by decide, gm (i := 857) (by decide +kernel) (by decide +kernel), rfl, rfl⟩
theorem fX11_79 : fS RX11 79 11 16 (.int) false := ⟨_, _, _, _, cfX11, by decide, gm (i := 858) (by decide +kernel) (by decide +kernel), rfl, rfl⟩
theorem fX11_42 : fS RX11 42 11 17 (.array .int) true := ⟨_, _, _, _, cfX11, by decide, gm (i := 859) (by decide +kernel) (by decide +kernel), rfl, rfl⟩
theorem fX11_45 : fS RX11 45 11 18 (.array .int) true := ⟨_, _, _, _, cfX11, by decide, gm (i := 860) (by decide +kernel) (by decide +kernel), rfl, rfl⟩
theorem fX11_48 : fS RX11 48 11 19 (.array .long) true := ⟨_, _, _, _, cfX11, by decide, gm (i := 861) (by decide +kernel) (by decide +kernel), rfl, rfl⟩
theorem fX11_52 : fS RX11 52 11 20 (.int) false := ⟨_, _, _, _, cfX11, by decide, gm (i := 862) (by decide +kernel) (by decide +kernel), rfl, rfl⟩
theorem fX11_55 : fS RX11 55 11 21 (.array .int) true := ⟨_, _, _, _, cfX11, by decide, gm (i := 863) (by decide +kernel) (by decide +kernel), rfl, rfl⟩
theorem fX11_58 : fS RX11 58 11 22 (.array .int) true := ⟨_, _, _, _, cfX11, by decide, gm (i := 864) (by decide +kernel) (by decide +kernel), rfl, rfl⟩
theorem fX11_61 : fS RX11 61 11 23 (.array .int) true := ⟨_, _, _, _, cfX11, by decide, gm (i := 865) (by decide +kernel) (by decide +kernel), rfl, rfl⟩
theorem fX11_64 : fS RX11 64 11 24 (.array .int) true := ⟨_, _, _, _, cfX11, by decide, gm (i := 866) (by decide +kernel) (by decide +kernel), rfl, rfl⟩
theorem lL_17 : Cond.methodLink RL 17 mX11_feed.1 ∈ gTbl := gm (i := 919) (by decide +kernel) (by decide +kernel)
theorem lX11_67 : Cond.methodLink RX11 67 mX11_in.1 ∈ gTbl := gm (i := 923) (by decide +kernel) (by decide +kernel)
theorem kX11_71 : Cond.constant RX11 71 (Int32.ofInt (-1000000002)) ∈ gTbl := gm (i := 926) (by decide +kernel) (by decide +kernel)
theorem kX11_75 : Cond.constant RX11 75 (Int32.ofInt (-1000000004)) ∈ gTbl := gm (i := 927) (by decide +kernel) (by decide +kernel)
theorem lL_22 : Cond.methodLink RL 22 mX11_cord.1 ∈ gTbl := gm (i := 928) (by decide +kernel) (by decide +kernel)
theorem lX11_106 : Cond.methodLink RX11 106 mX11_reads.1 ∈ gTbl := gm (i := 932) (by decide +kernel) (by decide +kernel)
theorem lX11_82 : Cond.methodLink RX11 82 mX11_next0.1 ∈ gTbl := gm (i := 936) (by decide +kernel) (by decide +kernel)
theorem lX11_103 : Cond.methodLink RX11 103 mX11_readsClause.1 ∈ gTbl := gm (i := 940) (by decide +kernel) (by decide +kernel)
theorem lX11_90 : Cond.methodLink RX11 90 mX11_faulty.1 ∈ gTbl := gm (i := 944) (by decide +kernel) (by decide +kernel)
theorem lX11_93 : Cond.methodLink RX11 93 mX11_number.1 ∈ gTbl := gm (i := 948) (by decide +kernel) (by decide +kernel)
theorem lX11_86 : Cond.methodLink RX11 86 mX11_isFigure.1 ∈ gTbl := gm (i := 952) (by decide +kernel) (by decide +kernel)
theorem lX11_96 : Cond.methodLink RX11 96 mX11_ends.1 ∈ gTbl := gm (i := 955) (by decide +kernel) (by decide +kernel)
theorem lX11_100 : Cond.methodLink RX11 100 mX11_readsWord.1 ∈ gTbl := gm (i := 959) (by decide +kernel) (by decide +kernel)
theorem lL_26 : Cond.methodLink RL 26 mX11_fault.1 ∈ gTbl := gm (i := 963) (by decide +kernel) (by decide +kernel)
theorem lL_30 : Cond.methodLink RL 30 mX11_told.1 ∈ gTbl := gm (i := 967) (by decide +kernel) (by decide +kernel)
theorem lX11_135 : Cond.methodLink RX11 135 mX11_onIt.1 ∈ gTbl := gm (i := 971) (by decide +kernel) (by decide +kernel)
theorem lX11_138 : Cond.methodLink RX11 138 mX11_outs.1 ∈ gTbl := gm (i := 975) (by decide +kernel) (by decide +kernel)
theorem lX11_122 : Cond.methodLink RX11 122 mX11_isOut.1 ∈ gTbl := gm (i := 979) (by decide +kernel) (by decide +kernel)
theorem lX11_118 : Cond.methodLink RX11 118 mX11_has.1 ∈ gTbl := gm (i := 983) (by decide +kernel) (by decide +kernel)
theorem lX11_141 : Cond.methodLink RX11 141 mX11_crossed.1 ∈ gTbl := gm (i := 986) (by decide +kernel) (by decide +kernel)
theorem lX11_144 : Cond.methodLink RX11 144 mX11_cutAt.1 ∈ gTbl := gm (i := 990) (by decide +kernel) (by decide +kernel)
theorem lX11_132 : Cond.methodLink RX11 132 mX11_readings.1 ∈ gTbl := gm (i := 994) (by decide +kernel) (by decide +kernel)
theorem lX11_129 : Cond.methodLink RX11 129 mX11_fits.1 ∈ gTbl := gm (i := 998) (by decide +kernel) (by decide +kernel)
theorem lX11_125 : Cond.methodLink RX11 125 mX11_longOf.1 ∈ gTbl := gm (i := 1002) (by decide +kernel) (by decide +kernel)
theorem lX11_147 : Cond.methodLink RX11 147 mX11_firstOf.1 ∈ gTbl := gm (i := 1006) (by decide +kernel) (by decide +kernel)
theorem lX11_150 : Cond.methodLink RX11 150 mX11_begun.1 ∈ gTbl := gm (i := 1010) (by decide +kernel) (by decide +kernel)
theorem lL_35 : Cond.methodLink RL 35 mX11_flag.1 ∈ gTbl := gm (i := 1014) (by decide +kernel) (by decide +kernel)
theorem lX11_153 : Cond.methodLink RX11 153 mX11_isFlag.1 ∈ gTbl := gm (i := 1018) (by decide +kernel) (by decide +kernel)
theorem kX11_156 : Cond.constant RX11 156 (Int32.ofInt (-1000000001)) ∈ gTbl := gm (i := 1022) (by decide +kernel) (by decide +kernel)
theorem lX11_157 : Cond.methodLink RX11 157 mX11_placeOf.1 ∈ gTbl := gm (i := 1023) (by decide +kernel) (by decide +kernel)
theorem lL_39 : Cond.methodLink RL 39 mX11_at.1 ∈ gTbl := gm (i := 1027) (by decide +kernel) (by decide +kernel)
theorem lL_43 : Cond.methodLink RL 43 mX11_hook.1 ∈ gTbl := gm (i := 1031) (by decide +kernel) (by decide +kernel)
theorem lX11_160 : Cond.methodLink RX11 160 mX11_reached.1 ∈ gTbl := gm (i := 1035) (by decide +kernel) (by decide +kernel)
theorem lL_47 : Cond.methodLink RL 47 mX11_word.1 ∈ gTbl := gm (i := 1039) (by decide +kernel) (by decide +kernel)
theorem lL_51 : Cond.methodLink RL 51 mX11_turn.1 ∈ gTbl := gm (i := 1043) (by decide +kernel) (by decide +kernel)
theorem lX11_163 : Cond.methodLink RX11 163 mX11_keeps.1 ∈ gTbl := gm (i := 1047) (by decide +kernel) (by decide +kernel)
theorem lL_55 : Cond.methodLink RL 55 mX11_cut.1 ∈ gTbl := gm (i := 1051) (by decide +kernel) (by decide +kernel)
theorem lX11_166 : Cond.methodLink RX11 166 mX11_cuts.1 ∈ gTbl := gm (i := 1055) (by decide +kernel) (by decide +kernel)
theorem lL_59 : Cond.methodLink RL 59 mX11_eat.1 ∈ gTbl := gm (i := 1059) (by decide +kernel) (by decide +kernel)
theorem kX11_170 : Cond.constant RX11 170 (Int32.ofInt (-1000000003)) ∈ gTbl := gm (i := 1063) (by decide +kernel) (by decide +kernel)
theorem lX11_171 : Cond.methodLink RX11 171 mX11_eats.1 ∈ gTbl := gm (i := 1064) (by decide +kernel) (by decide +kernel)
theorem lL_63 : Cond.methodLink RL 63 mX11_sew.1 ∈ gTbl := gm (i := 1068) (by decide +kernel) (by decide +kernel)
theorem lL_68 : Cond.methodLink RL 68 mX11_rain.1 ∈ gTbl := gm (i := 1072) (by decide +kernel) (by decide +kernel)
theorem lX11_174 : Cond.methodLink RX11 174 mX11_ones.1 ∈ gTbl := gm (i := 1076) (by decide +kernel) (by decide +kernel)
theorem lL_72 : Cond.methodLink RL 72 mX11_wind.1 ∈ gTbl := gm (i := 1079) (by decide +kernel) (by decide +kernel)
theorem lL_76 : Cond.methodLink RL 76 mX11_year.1 ∈ gTbl := gm (i := 1083) (by decide +kernel) (by decide +kernel)
theorem lX11_177 : Cond.methodLink RX11 177 mX11_passes.1 ∈ gTbl := gm (i := 1087) (by decide +kernel) (by decide +kernel)
theorem lL_80 : Cond.methodLink RL 80 mX11_drift.1 ∈ gTbl := gm (i := 1091) (by decide +kernel) (by decide +kernel)
theorem lX11_186 : Cond.methodLink RX11 186 mX11_draws.1 ∈ gTbl := gm (i := 1095) (by decide +kernel) (by decide +kernel)
theorem kX11_183 : Cond.constant RX11 183 (Int32.ofInt (1103515245)) ∈ gTbl := gm (i := 1099) (by decide +kernel) (by decide +kernel)
theorem kX11_184 : Cond.constant RX11 184 (Int32.ofInt (2147483647)) ∈ gTbl := gm (i := 1100) (by decide +kernel) (by decide +kernel)
theorem kX11_185 : Cond.constant RX11 185 (Int32.ofInt (65536)) ∈ gTbl := gm (i := 1101) (by decide +kernel) (by decide +kernel)
theorem lL_84 : Cond.methodLink RL 84 mX11_undo.1 ∈ gTbl := gm (i := 1102) (by decide +kernel) (by decide +kernel)
theorem lL_88 : Cond.methodLink RL 88 mX11_turnings.1 ∈ gTbl := gm (i := 1106) (by decide +kernel) (by decide +kernel)
theorem lX11_212 : Cond.methodLink RX11 212 mX11_measures.1 ∈ gTbl := gm (i := 1110) (by decide +kernel) (by decide +kernel)
theorem kX11_191 : Cond.constantLong RX11 191 (Int64.ofInt (-1)) ∈ gTbl := gm (i := 1114) (by decide +kernel) (by decide +kernel)
theorem lX11_193 : Cond.methodLink RX11 193 mX11_isFar.1 ∈ gTbl := gm (i := 1115) (by decide +kernel) (by decide +kernel)
theorem kX11_189 : Cond.constantLong RX11 189 (Int64.ofInt (15)) ∈ gTbl := gm (i := 1119) (by decide +kernel) (by decide +kernel)
theorem lX11_197 : Cond.methodLink RX11 197 mX11_farAt.1 ∈ gTbl := gm (i := 1120) (by decide +kernel) (by decide +kernel)
theorem lX11_200 : Cond.methodLink RX11 200 mX11_orderOf.1 ∈ gTbl := gm (i := 1124) (by decide +kernel) (by decide +kernel)
theorem lX11_204 : Cond.methodLink RX11 204 mX11_turns.1 ∈ gTbl := gm (i := 1128) (by decide +kernel) (by decide +kernel)
theorem lX11_208 : Cond.methodLink RX11 208 mX11_numberOf.1 ∈ gTbl := gm (i := 1131) (by decide +kernel) (by decide +kernel)
theorem lL_92 : Cond.methodLink RL 92 mX11_loose.1 ∈ gTbl := gm (i := 1134) (by decide +kernel) (by decide +kernel)
theorem lL_96 : Cond.methodLink RL 96 mX11_felt.1 ∈ gTbl := gm (i := 1138) (by decide +kernel) (by decide +kernel)
theorem lX11_215 : Cond.methodLink RX11 215 mX11_feltAt.1 ∈ gTbl := gm (i := 1142) (by decide +kernel) (by decide +kernel)
theorem lL_100 : Cond.methodLink RL 100 mX11_farthest.1 ∈ gTbl := gm (i := 1146) (by decide +kernel) (by decide +kernel)
theorem lL_104 : Cond.methodLink RL 104 mX11_hooked.1 ∈ gTbl := gm (i := 1150) (by decide +kernel) (by decide +kernel)
theorem lL_108 : Cond.methodLink RL 108 mX11_gap.1 ∈ gTbl := gm (i := 1154) (by decide +kernel) (by decide +kernel)
theorem lL_112 : Cond.methodLink RL 112 mX11_ends_.1 ∈ gTbl := gm (i := 1158) (by decide +kernel) (by decide +kernel)
theorem lX11_219 : Cond.methodLink RX11 219 mX11_heavyAt.1 ∈ gTbl := gm (i := 1162) (by decide +kernel) (by decide +kernel)
theorem lX11_222 : Cond.methodLink RX11 222 mX11_moreOf.1 ∈ gTbl := gm (i := 1166) (by decide +kernel) (by decide +kernel)
theorem lL_116 : Cond.methodLink RL 116 mX11_calm.1 ∈ gTbl := gm (i := 1170) (by decide +kernel) (by decide +kernel)
theorem kX11_225 : Cond.constantLong RX11 225 (Int64.ofInt (1000000000)) ∈ gTbl := gm (i := 1174) (by decide +kernel) (by decide +kernel)
theorem kX11_227 : Cond.constantLong RX11 227 (Int64.ofInt (100)) ∈ gTbl := gm (i := 1175) (by decide +kernel) (by decide +kernel)
theorem lL_121 : Cond.methodLink RL 121 mX11_old.1 ∈ gTbl := gm (i := 1176) (by decide +kernel) (by decide +kernel)
theorem lL_125 : Cond.methodLink RL 125 mX11_couldBe.1 ∈ gTbl := gm (i := 1180) (by decide +kernel) (by decide +kernel)
theorem lX11_232 : Cond.methodLink RX11 232 mX11_could.1 ∈ gTbl := gm (i := 1184) (by decide +kernel) (by decide +kernel)
theorem lX11_229 : Cond.methodLink RX11 229 mX11_isSo.1 ∈ gTbl := gm (i := 1188) (by decide +kernel) (by decide +kernel)
theorem lL_129 : Cond.methodLink RL 129 mX11_next.1 ∈ gTbl := gm (i := 1192) (by decide +kernel) (by decide +kernel)
theorem lL_133 : Cond.methodLink RL 133 mX11_write.1 ∈ gTbl := gm (i := 1196) (by decide +kernel) (by decide +kernel)
theorem lL_137 : Cond.methodLink RL 137 mX11_judge.1 ∈ gTbl := gm (i := 1200) (by decide +kernel) (by decide +kernel)
theorem lL_141 : Cond.methodLink RL 141 mX11_tear.1 ∈ gTbl := gm (i := 1204) (by decide +kernel) (by decide +kernel)
theorem lL_145 : Cond.methodLink RL 145 mX11_seed.1 ∈ gTbl := gm (i := 1208) (by decide +kernel) (by decide +kernel)
theorem lL_149 : Cond.methodLink RL 149 mX11_keep.1 ∈ gTbl := gm (i := 1212) (by decide +kernel) (by decide +kernel)
theorem lL_153 : Cond.methodLink RL 153 mX11_goBack.1 ∈ gTbl := gm (i := 1216) (by decide +kernel) (by decide +kernel)
theorem acN : Cond.native arraycopyName ∈ gTbl := gm (i := 429) (by decide +kernel) (by decide +kernel)
theorem acS : Cond.static arraycopyName ∈ gTbl := gm (i := 428) (by decide +kernel) (by decide +kernel)
theorem acI : Cond.initialized "java/lang/System" ∈ gTbl := gm (i := 70) (by decide +kernel) (by decide +kernel)
theorem oiM : Cond.instanceMethod objectInit ∈ gTbl := gm (i := 80) (by decide +kernel) (by decide +kernel)
theorem oiC : Cond.code objectInit ⟨#[0xb1]⟩ 1 none ∈ gTbl := gm (i := 81) (by decide +kernel) (by decide +kernel)
theorem arI : Cond.arrayClass .int ∈ gTbl := gm (i := 108) (by decide +kernel) (by decide +kernel)
theorem arZ : Cond.arrayClass .boolean ∈ gTbl := gm (i := 312) (by decide +kernel) (by decide +kernel)
theorem arJ : Cond.arrayClass .long ∈ gTbl := gm (i := 918) (by decide +kernel) (by decide +kernel)
