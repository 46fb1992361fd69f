abbrev mX1_init : ax_M := (yX1_init, cX1_init, 1, none)
theorem mmX1_init : ax_m mX1_init 0 := ⟨⟨List.mem_of_getElem? (i := 181) (by decide +kernel), by decide +kernel⟩, ⟨List.mem_of_getElem? (i := 108) (by decide +kernel), by decide +kernel⟩, by decide +kernel, by decide +kernel, by decide +kernel, by decide⟩
theorem miX1_init : ax_g (.instanceMethod yX1_init) := ⟨List.mem_of_getElem? (i := 180) (by decide +kernel), by decide +kernel⟩
abbrev mX1_clear : ax_M := (yX1_clear, cX1_clear, 1, none)
theorem mmX1_clear : ax_m mX1_clear 0 := ⟨⟨List.mem_of_getElem? (i := 580) (by decide +kernel), by decide +kernel⟩, ⟨List.mem_of_getElem? (i := 108) (by decide +kernel), by decide +kernel⟩, by decide +kernel, by decide +kernel, by decide +kernel, by decide⟩
theorem miX1_clear : ax_g (.instanceMethod yX1_clear) := ⟨List.mem_of_getElem? (i := 578) (by decide +kernel), by decide +kernel⟩
theorem msX1_clear : ax_g (.selects RX1 yX1_clear yX1_clear) := ⟨List.mem_of_getElem? (i := 579) (by decide +kernel), by decide +kernel⟩
abbrev mX1_addStuff : ax_M := (yX1_addStuff, cX1_addStuff, 5, none)
theorem mmX1_addStuff : ax_m mX1_addStuff 3 := ⟨⟨List.mem_of_getElem? (i := 655) (by decide +kernel), by decide +kernel⟩, ⟨List.mem_of_getElem? (i := 108) (by decide +kernel), by decide +kernel⟩, by decide +kernel, by decide +kernel, by decide +kernel, by decide⟩
theorem miX1_addStuff : ax_g (.instanceMethod yX1_addStuff) := ⟨List.mem_of_getElem? (i := 653) (by decide +kernel), by decide +kernel⟩
theorem msX1_addStuff : ax_g (.selects RX1 yX1_addStuff yX1_addStuff) := ⟨List.mem_of_getElem? (i := 654) (by decide +kernel), by decide +kernel⟩
abbrev mX1_addPlace : ax_M := (yX1_addPlace, cX1_addPlace, 3, none)
theorem mmX1_addPlace : ax_m mX1_addPlace 1 := ⟨⟨List.mem_of_getElem? (i := 663) (by decide +kernel), by decide +kernel⟩, ⟨List.mem_of_getElem? (i := 108) (by decide +kernel), by decide +kernel⟩, by decide +kernel, by decide +kernel, by decide +kernel, by decide⟩
theorem miX1_addPlace : ax_g (.instanceMethod yX1_addPlace) := ⟨List.mem_of_getElem? (i := 661) (by decide +kernel), by decide +kernel⟩
theorem msX1_addPlace : ax_g (.selects RX1 yX1_addPlace yX1_addPlace) := ⟨List.mem_of_getElem? (i := 662) (by decide +kernel), by decide +kernel⟩
abbrev mX1_addRoad : ax_M := (yX1_addRoad, cX1_addRoad, 5, none)
theorem mmX1_addRoad : ax_m mX1_addRoad 4 := ⟨⟨List.mem_of_getElem? (i := 679) (by decide +kernel), by decide +kernel⟩, ⟨List.mem_of_getElem? (i := 108) (by decide +kernel), by decide +kernel⟩, by decide +kernel, by decide +kernel, by decide +kernel, by decide⟩
theorem miX1_addRoad : ax_g (.instanceMethod yX1_addRoad) := ⟨List.mem_of_getElem? (i := 677) (by decide +kernel), by decide +kernel⟩
theorem msX1_addRoad : ax_g (.selects RX1 yX1_addRoad yX1_addRoad) := ⟨List.mem_of_getElem? (i := 678) (by decide +kernel), by decide +kernel⟩
abbrev mX1_stuffNamed : ax_M := (yX1_stuffNamed, cX1_stuffNamed, 3, (some .int))
theorem mmX1_stuffNamed : ax_m mX1_stuffNamed 1 := ⟨⟨List.mem_of_getElem? (i := 629) (by decide +kernel), by decide +kernel⟩, ⟨List.mem_of_getElem? (i := 108) (by decide +kernel), by decide +kernel⟩, by decide +kernel, by decide +kernel, by decide +kernel, by decide⟩
theorem miX1_stuffNamed : ax_g (.instanceMethod yX1_stuffNamed) := ⟨List.mem_of_getElem? (i := 627) (by decide +kernel), by decide +kernel⟩
theorem msX1_stuffNamed : ax_g (.selects RX1 yX1_stuffNamed yX1_stuffNamed) := ⟨List.mem_of_getElem? (i := 628) (by decide +kernel), by decide +kernel⟩
abbrev mX1_placeNamed : ax_M := (yX1_placeNamed, cX1_placeNamed, 3, (some .int))
theorem mmX1_placeNamed : ax_m mX1_placeNamed 1 := ⟨⟨List.mem_of_getElem? (i := 636) (by decide +kernel), by decide +kernel⟩, ⟨List.mem_of_getElem? (i := 108) (by decide +kernel), by decide +kernel⟩, by decide +kernel, by decide +kernel, by decide +kernel, by decide⟩
theorem miX1_placeNamed : ax_g (.instanceMethod yX1_placeNamed) := ⟨List.mem_of_getElem? (i := 634) (by decide +kernel), by decide +kernel⟩
theorem msX1_placeNamed : ax_g (.selects RX1 yX1_placeNamed yX1_placeNamed) := ⟨List.mem_of_getElem? (i := 635) (by decide +kernel), by decide +kernel⟩
abbrev mX1_numberOf : ax_M := (yX1_numberOf, cX1_numberOf, 5, (some .int))
theorem mmX1_numberOf : ax_m mX1_numberOf 3 := ⟨⟨List.mem_of_getElem? (i := 632) (by decide +kernel), by decide +kernel⟩, ⟨List.mem_of_getElem? (i := 108) (by decide +kernel), by decide +kernel⟩, by decide +kernel, by decide +kernel, by decide +kernel, by decide⟩
theorem mtX1_numberOf : ax_g (.static yX1_numberOf) := ⟨List.mem_of_getElem? (i := 631) (by decide +kernel), by decide +kernel⟩
abbrev mX1_hasLaw : ax_M := (yX1_hasLaw, cX1_hasLaw, 2, (some .boolean))
theorem mmX1_hasLaw : ax_m mX1_hasLaw 1 := ⟨⟨List.mem_of_getElem? (i := 703) (by decide +kernel), by decide +kernel⟩, ⟨List.mem_of_getElem? (i := 108) (by decide +kernel), by decide +kernel⟩, by decide +kernel, by decide +kernel, by decide +kernel, by decide⟩
theorem miX1_hasLaw : ax_g (.instanceMethod yX1_hasLaw) := ⟨List.mem_of_getElem? (i := 701) (by decide +kernel), by decide +kernel⟩
theorem msX1_hasLaw : ax_g (.selects RX1 yX1_hasLaw yX1_hasLaw) := ⟨List.mem_of_getElem? (i := 702) (by decide +kernel), by decide +kernel⟩
abbrev mX1_emit : ax_M := (yX1_emit, cX1_emit, 2, none)
theorem mmX1_emit : ax_m mX1_emit 1 := ⟨⟨List.mem_of_getElem? (i := 723) (by decide +kernel), by decide +kernel⟩, ⟨List.mem_of_getElem? (i := 108) (by decide +kernel), by decide +kernel⟩, by decide +kernel, by decide +kernel, by decide +kernel, by decide⟩
theorem miX1_emit : ax_g (.instanceMethod yX1_emit) := ⟨List.mem_of_getElem? (i := 721) (by decide +kernel), by decide +kernel⟩
theorem msX1_emit : ax_g (.selects RX1 yX1_emit yX1_emit) := ⟨List.mem_of_getElem? (i := 722) (by decide +kernel), by decide +kernel⟩
abbrev mX1_fillLaws : ax_M := (yX1_fillLaws, cX1_fillLaws, 1, none)
theorem mmX1_fillLaws : ax_m mX1_fillLaws 0 := ⟨⟨List.mem_of_getElem? (i := 729) (by decide +kernel), by decide +kernel⟩, ⟨List.mem_of_getElem? (i := 108) (by decide +kernel), by decide +kernel⟩, by decide +kernel, by decide +kernel, by decide +kernel, by decide⟩
theorem miX1_fillLaws : ax_g (.instanceMethod yX1_fillLaws) := ⟨List.mem_of_getElem? (i := 727) (by decide +kernel), by decide +kernel⟩
theorem msX1_fillLaws : ax_g (.selects RX1 yX1_fillLaws yX1_fillLaws) := ⟨List.mem_of_getElem? (i := 728) (by decide +kernel), by decide +kernel⟩
abbrev mX1_fillLaw : ax_M := (yX1_fillLaw, cX1_fillLaw, 3, none)
theorem mmX1_fillLaw : ax_m mX1_fillLaw 2 := ⟨⟨List.mem_of_getElem? (i := 733) (by decide +kernel), by decide +kernel⟩, ⟨List.mem_of_getElem? (i := 108) (by decide +kernel), by decide +kernel⟩, by decide +kernel, by decide +kernel, by decide +kernel, by decide⟩
theorem miX1_fillLaw : ax_g (.instanceMethod yX1_fillLaw) := ⟨List.mem_of_getElem? (i := 732) (by decide +kernel), by decide +kernel⟩
theorem msX1_fillLaw : ax_g (.selects RX1 yX1_fillLaw yX1_fillLaw) := ⟨List.mem_of_getElem? (i := 19) (by decide +kernel), by decide +kernel⟩
abbrev mX1_otherEnd : ax_M := (yX1_otherEnd, cX1_otherEnd, 3, (some .int))
theorem mmX1_otherEnd : ax_m mX1_otherEnd 2 := ⟨⟨List.mem_of_getElem? (i := 851) (by decide +kernel), by decide +kernel⟩, ⟨List.mem_of_getElem? (i := 108) (by decide +kernel), by decide +kernel⟩, by decide +kernel, by decide +kernel, by decide +kernel, by decide⟩
theorem miX1_otherEnd : ax_g (.instanceMethod yX1_otherEnd) := ⟨List.mem_of_getElem? (i := 849) (by decide +kernel), by decide +kernel⟩
theorem msX1_otherEnd : ax_g (.selects RX1 yX1_otherEnd yX1_otherEnd) := ⟨List.mem_of_getElem? (i := 850) (by decide +kernel), by decide +kernel⟩
abbrev mX1_take : ax_M := (yX1_take, cX1_take, 2, none)
theorem mmX1_take : ax_m mX1_take 1 := ⟨⟨List.mem_of_getElem? (i := 739) (by decide +kernel), by decide +kernel⟩, ⟨List.mem_of_getElem? (i := 108) (by decide +kernel), by decide +kernel⟩, by decide +kernel, by decide +kernel, by decide +kernel, by decide⟩
theorem miX1_take : ax_g (.instanceMethod yX1_take) := ⟨List.mem_of_getElem? (i := 737) (by decide +kernel), by decide +kernel⟩
theorem msX1_take : ax_g (.selects RX1 yX1_take yX1_take) := ⟨List.mem_of_getElem? (i := 738) (by decide +kernel), by decide +kernel⟩
abbrev mX2_init : ax_M := (yX2_init, cX2_init, 3, none)
theorem mmX2_init : ax_m mX2_init 2 := ⟨⟨List.mem_of_getElem? (i := 303) (by decide +kernel), by decide +kernel⟩, ⟨List.mem_of_getElem? (i := 110) (by decide +kernel), by decide +kernel⟩, by decide +kernel, by decide +kernel, by decide +kernel, by decide⟩
theorem miX2_init : ax_g (.instanceMethod yX2_init) := ⟨List.mem_of_getElem? (i := 302) (by decide +kernel), by decide +kernel⟩
abbrev mX2_read : ax_M := (yX2_read, cX2_read, 2, (some .int))
theorem mmX2_read : ax_m mX2_read 0 := ⟨⟨List.mem_of_getElem? (i := 576) (by decide +kernel), by decide +kernel⟩, ⟨List.mem_of_getElem? (i := 110) (by decide +kernel), by decide +kernel⟩, by decide +kernel, by decide +kernel, by decide +kernel, by decide⟩
theorem miX2_read : ax_g (.instanceMethod yX2_read) := ⟨List.mem_of_getElem? (i := 574) (by decide +kernel), by decide +kernel⟩
theorem msX2_read : ax_g (.selects RX2 yX2_read yX2_read) := ⟨List.mem_of_getElem? (i := 575) (by decide +kernel), by decide +kernel⟩
abbrev mX2_readLine : ax_M := (yX2_readLine, cX2_readLine, 1, none)
theorem mmX2_readLine : ax_m mX2_readLine 0 := ⟨⟨List.mem_of_getElem? (i := 587) (by decide +kernel), by decide +kernel⟩, ⟨List.mem_of_getElem? (i := 110) (by decide +kernel), by decide +kernel⟩, by decide +kernel, by decide +kernel, by decide +kernel, by decide⟩
theorem miX2_readLine : ax_g (.instanceMethod yX2_readLine) := ⟨List.mem_of_getElem? (i := 586) (by decide +kernel), by decide +kernel⟩
theorem msX2_readLine : ax_g (.selects RX2 yX2_readLine yX2_readLine) := ⟨List.mem_of_getElem? (i := 3) (by decide +kernel), by decide +kernel⟩
abbrev mX2_readStuff : ax_M := (yX2_readStuff, cX2_readStuff, 5, none)
theorem mmX2_readStuff : ax_m mX2_readStuff 0 := ⟨⟨List.mem_of_getElem? (i := 599) (by decide +kernel), by decide +kernel⟩, ⟨List.mem_of_getElem? (i := 110) (by decide +kernel), by decide +kernel⟩, by decide +kernel, by decide +kernel, by decide +kernel, by decide⟩
theorem miX2_readStuff : ax_g (.instanceMethod yX2_readStuff) := ⟨List.mem_of_getElem? (i := 598) (by decide +kernel), by decide +kernel⟩
theorem msX2_readStuff : ax_g (.selects RX2 yX2_readStuff yX2_readStuff) := ⟨List.mem_of_getElem? (i := 4) (by decide +kernel), by decide +kernel⟩
abbrev mX2_readPlace : ax_M := (yX2_readPlace, cX2_readPlace, 3, none)
theorem mmX2_readPlace : ax_m mX2_readPlace 0 := ⟨⟨List.mem_of_getElem? (i := 659) (by decide +kernel), by decide +kernel⟩, ⟨List.mem_of_getElem? (i := 110) (by decide +kernel), by decide +kernel⟩, by decide +kernel, by decide +kernel, by decide +kernel, by decide⟩
theorem miX2_readPlace : ax_g (.instanceMethod yX2_readPlace) := ⟨List.mem_of_getElem? (i := 658) (by decide +kernel), by decide +kernel⟩
theorem msX2_readPlace : ax_g (.selects RX2 yX2_readPlace yX2_readPlace) := ⟨List.mem_of_getElem? (i := 11) (by decide +kernel), by decide +kernel⟩
abbrev mX2_readRoad : ax_M := (yX2_readRoad, cX2_readRoad, 5, none)
theorem mmX2_readRoad : ax_m mX2_readRoad 0 := ⟨⟨List.mem_of_getElem? (i := 667) (by decide +kernel), by decide +kernel⟩, ⟨List.mem_of_getElem? (i := 110) (by decide +kernel), by decide +kernel⟩, by decide +kernel, by decide +kernel, by decide +kernel, by decide⟩
theorem miX2_readRoad : ax_g (.instanceMethod yX2_readRoad) := ⟨List.mem_of_getElem? (i := 666) (by decide +kernel), by decide +kernel⟩
theorem msX2_readRoad : ax_g (.selects RX2 yX2_readRoad yX2_readRoad) := ⟨List.mem_of_getElem? (i := 12) (by decide +kernel), by decide +kernel⟩
abbrev mX2_readTrade : ax_M := (yX2_readTrade, cX2_readTrade, 5, none)
theorem mmX2_readTrade : ax_m mX2_readTrade 0 := ⟨⟨List.mem_of_getElem? (i := 683) (by decide +kernel), by decide +kernel⟩, ⟨List.mem_of_getElem? (i := 110) (by decide +kernel), by decide +kernel⟩, by decide +kernel, by decide +kernel, by decide +kernel, by decide⟩
theorem miX2_readTrade : ax_g (.instanceMethod yX2_readTrade) := ⟨List.mem_of_getElem? (i := 682) (by decide +kernel), by decide +kernel⟩
theorem msX2_readTrade : ax_g (.selects RX2 yX2_readTrade yX2_readTrade) := ⟨List.mem_of_getElem? (i := 14) (by decide +kernel), by decide +kernel⟩
abbrev mX2_readLaw : ax_M := (yX2_readLaw, cX2_readLaw, 2, none)
theorem mmX2_readLaw : ax_m mX2_readLaw 1 := ⟨⟨List.mem_of_getElem? (i := 699) (by decide +kernel), by decide +kernel⟩, ⟨List.mem_of_getElem? (i := 110) (by decide +kernel), by decide +kernel⟩, by decide +kernel, by decide +kernel, by decide +kernel, by decide⟩
theorem miX2_readLaw : ax_g (.instanceMethod yX2_readLaw) := ⟨List.mem_of_getElem? (i := 698) (by decide +kernel), by decide +kernel⟩
theorem msX2_readLaw : ax_g (.selects RX2 yX2_readLaw yX2_readLaw) := ⟨List.mem_of_getElem? (i := 16) (by decide +kernel), by decide +kernel⟩
abbrev mX2_readJoined : ax_M := (yX2_readJoined, cX2_readJoined, 6, none)
theorem mmX2_readJoined : ax_m mX2_readJoined 2 := ⟨⟨List.mem_of_getElem? (i := 707) (by decide +kernel), by decide +kernel⟩, ⟨List.mem_of_getElem? (i := 110) (by decide +kernel), by decide +kernel⟩, by decide +kernel, by decide +kernel, by decide +kernel, by decide⟩
theorem miX2_readJoined : ax_g (.instanceMethod yX2_readJoined) := ⟨List.mem_of_getElem? (i := 706) (by decide +kernel), by decide +kernel⟩
theorem msX2_readJoined : ax_g (.selects RX2 yX2_readJoined yX2_readJoined) := ⟨List.mem_of_getElem? (i := 17) (by decide +kernel), by decide +kernel⟩
abbrev mX2_readPart : ax_M := (yX2_readPart, cX2_readPart, 4, none)
theorem mmX2_readPart : ax_m mX2_readPart 1 := ⟨⟨List.mem_of_getElem? (i := 711) (by decide +kernel), by decide +kernel⟩, ⟨List.mem_of_getElem? (i := 110) (by decide +kernel), by decide +kernel⟩, by decide +kernel, by decide +kernel, by decide +kernel, by decide⟩
theorem miX2_readPart : ax_g (.instanceMethod yX2_readPart) := ⟨List.mem_of_getElem? (i := 710) (by decide +kernel), by decide +kernel⟩
theorem msX2_readPart : ax_g (.selects RX2 yX2_readPart yX2_readPart) := ⟨List.mem_of_getElem? (i := 18) (by decide +kernel), by decide +kernel⟩
abbrev mX2_open : ax_M := (yX2_open, cX2_open, 3, none)
theorem mmX2_open : ax_m mX2_open 2 := ⟨⟨List.mem_of_getElem? (i := 603) (by decide +kernel), by decide +kernel⟩, ⟨List.mem_of_getElem? (i := 110) (by decide +kernel), by decide +kernel⟩, by decide +kernel, by decide +kernel, by decide +kernel, by decide⟩
theorem miX2_open : ax_g (.instanceMethod yX2_open) := ⟨List.mem_of_getElem? (i := 602) (by decide +kernel), by decide +kernel⟩
theorem msX2_open : ax_g (.selects RX2 yX2_open yX2_open) := ⟨List.mem_of_getElem? (i := 5) (by decide +kernel), by decide +kernel⟩
abbrev mX2_freshName : ax_M := (yX2_freshName, cX2_freshName, 3, (some .long))
theorem mmX2_freshName : ax_m mX2_freshName 0 := ⟨⟨List.mem_of_getElem? (i := 615) (by decide +kernel), by decide +kernel⟩, ⟨List.mem_of_getElem? (i := 110) (by decide +kernel), by decide +kernel⟩, by decide +kernel, by decide +kernel, by decide +kernel, by decide⟩
theorem miX2_freshName : ax_g (.instanceMethod yX2_freshName) := ⟨List.mem_of_getElem? (i := 614) (by decide +kernel), by decide +kernel⟩
theorem msX2_freshName : ax_g (.selects RX2 yX2_freshName yX2_freshName) := ⟨List.mem_of_getElem? (i := 8) (by decide +kernel), by decide +kernel⟩
abbrev mX2_placeOtherThan : ax_M := (yX2_placeOtherThan, cX2_placeOtherThan, 3, (some .int))
theorem mmX2_placeOtherThan : ax_m mX2_placeOtherThan 1 := ⟨⟨List.mem_of_getElem? (i := 671) (by decide +kernel), by decide +kernel⟩, ⟨List.mem_of_getElem? (i := 110) (by decide +kernel), by decide +kernel⟩, by decide +kernel, by decide +kernel, by decide +kernel, by decide⟩
theorem miX2_placeOtherThan : ax_g (.instanceMethod yX2_placeOtherThan) := ⟨List.mem_of_getElem? (i := 670) (by decide +kernel), by decide +kernel⟩
theorem msX2_placeOtherThan : ax_g (.selects RX2 yX2_placeOtherThan yX2_placeOtherThan) := ⟨List.mem_of_getElem? (i := 13) (by decide +kernel), by decide +kernel⟩
abbrev mX2_stuffHere : ax_M := (yX2_stuffHere, cX2_stuffHere, 2, (some .int))
theorem mmX2_stuffHere : ax_m mX2_stuffHere 0 := ⟨⟨List.mem_of_getElem? (i := 689) (by decide +kernel), by decide +kernel⟩, ⟨List.mem_of_getElem? (i := 110) (by decide +kernel), by decide +kernel⟩, by decide +kernel, by decide +kernel, by decide +kernel, by decide⟩
theorem miX2_stuffHere : ax_g (.instanceMethod yX2_stuffHere) := ⟨List.mem_of_getElem? (i := 688) (by decide +kernel), by decide +kernel⟩
theorem msX2_stuffHere : ax_g (.selects RX2 yX2_stuffHere yX2_stuffHere) := ⟨List.mem_of_getElem? (i := 15) (by decide +kernel), by decide +kernel⟩
abbrev mX2_numberWithin : ax_M := (yX2_numberWithin, cX2_numberWithin, 4, (some .int))
theorem mmX2_numberWithin : ax_m mX2_numberWithin 2 := ⟨⟨List.mem_of_getElem? (i := 646) (by decide +kernel), by decide +kernel⟩, ⟨List.mem_of_getElem? (i := 110) (by decide +kernel), by decide +kernel⟩, by decide +kernel, by decide +kernel, by decide +kernel, by decide⟩
theorem miX2_numberWithin : ax_g (.instanceMethod yX2_numberWithin) := ⟨List.mem_of_getElem? (i := 645) (by decide +kernel), by decide +kernel⟩
theorem msX2_numberWithin : ax_g (.selects RX2 yX2_numberWithin yX2_numberWithin) := ⟨List.mem_of_getElem? (i := 10) (by decide +kernel), by decide +kernel⟩
abbrev mX2_skip : ax_M := (yX2_skip, cX2_skip, 2, none)
theorem mmX2_skip : ax_m mX2_skip 1 := ⟨⟨List.mem_of_getElem? (i := 642) (by decide +kernel), by decide +kernel⟩, ⟨List.mem_of_getElem? (i := 110) (by decide +kernel), by decide +kernel⟩, by decide +kernel, by decide +kernel, by decide +kernel, by decide⟩
theorem miX2_skip : ax_g (.instanceMethod yX2_skip) := ⟨List.mem_of_getElem? (i := 641) (by decide +kernel), by decide +kernel⟩
theorem msX2_skip : ax_g (.selects RX2 yX2_skip yX2_skip) := ⟨List.mem_of_getElem? (i := 9) (by decide +kernel), by decide +kernel⟩
abbrev mX2_step : ax_M := (yX2_step, cX2_step, 1, none)
theorem mmX2_step : ax_m mX2_step 0 := ⟨⟨List.mem_of_getElem? (i := 611) (by decide +kernel), by decide +kernel⟩, ⟨List.mem_of_getElem? (i := 110) (by decide +kernel), by decide +kernel⟩, by decide +kernel, by decide +kernel, by decide +kernel, by decide⟩
theorem miX2_step : ax_g (.instanceMethod yX2_step) := ⟨List.mem_of_getElem? (i := 610) (by decide +kernel), by decide +kernel⟩
theorem msX2_step : ax_g (.selects RX2 yX2_step yX2_step) := ⟨List.mem_of_getElem? (i := 7) (by decide +kernel), by decide +kernel⟩
abbrev mX2_fail : ax_M := (yX2_fail, cX2_fail, 2, none)
theorem mmX2_fail : ax_m mX2_fail 1 := ⟨⟨List.mem_of_getElem? (i := 607) (by decide +kernel), by decide +kernel⟩, ⟨List.mem_of_getElem? (i := 110) (by decide +kernel), by decide +kernel⟩, by decide +kernel, by decide +kernel, by decide +kernel, by decide⟩
theorem miX2_fail : ax_g (.instanceMethod yX2_fail) := ⟨List.mem_of_getElem? (i := 606) (by decide +kernel), by decide +kernel⟩
theorem msX2_fail : ax_g (.selects RX2 yX2_fail yX2_fail) := ⟨List.mem_of_getElem? (i := 6) (by decide +kernel), by decide +kernel⟩
abbrev mX3_init : ax_M := (yX3_init, cX3_init, 2, none)
theorem mmX3_init : ax_m mX3_init 1 := ⟨⟨List.mem_of_getElem? (i := 329) (by decide +kernel), by decide +kernel⟩, ⟨List.mem_of_getElem? (i := 111) (by decide +kernel), by decide +kernel⟩, by decide +kernel, by decide +kernel, by decide +kernel, by decide⟩
theorem miX3_init : ax_g (.instanceMethod yX3_init) := ⟨List.mem_of_getElem? (i := 328) (by decide +kernel), by decide +kernel⟩
abbrev mX3_begin : ax_M := (yX3_begin, cX3_begin, 2, none)
theorem mmX3_begin : ax_m mX3_begin 1 := ⟨⟨List.mem_of_getElem? (i := 751) (by decide +kernel), by decide +kernel⟩, ⟨List.mem_of_getElem? (i := 111) (by decide +kernel), by decide +kernel⟩, by decide +kernel, by decide +kernel, by decide +kernel, by decide⟩
theorem miX3_begin : ax_g (.instanceMethod yX3_begin) := ⟨List.mem_of_getElem? (i := 749) (by decide +kernel), by decide +kernel⟩
theorem msX3_begin : ax_g (.selects RX3 yX3_begin yX3_begin) := ⟨List.mem_of_getElem? (i := 750) (by decide +kernel), by decide +kernel⟩
abbrev mX3_takeRoads : ax_M := (yX3_takeRoads, cX3_takeRoads, 2, none)
theorem mmX3_takeRoads : ax_m mX3_takeRoads 1 := ⟨⟨List.mem_of_getElem? (i := 937) (by decide +kernel), by decide +kernel⟩, ⟨List.mem_of_getElem? (i := 111) (by decide +kernel), by decide +kernel⟩, by decide +kernel, by decide +kernel, by decide +kernel, by decide⟩
theorem miX3_takeRoads : ax_g (.instanceMethod yX3_takeRoads) := ⟨List.mem_of_getElem? (i := 935) (by decide +kernel), by decide +kernel⟩
theorem msX3_takeRoads : ax_g (.selects RX3 yX3_takeRoads yX3_takeRoads) := ⟨List.mem_of_getElem? (i := 936) (by decide +kernel), by decide +kernel⟩
abbrev mX3_takeAll : ax_M := (yX3_takeAll, cX3_takeAll, 2, none)
theorem mmX3_takeAll : ax_m mX3_takeAll 1 := ⟨⟨List.mem_of_getElem? (i := 1008) (by decide +kernel), by decide +kernel⟩, ⟨List.mem_of_getElem? (i := 111) (by decide +kernel), by decide +kernel⟩, by decide +kernel, by decide +kernel, by decide +kernel, by decide⟩
theorem miX3_takeAll : ax_g (.instanceMethod yX3_takeAll) := ⟨List.mem_of_getElem? (i := 1006) (by decide +kernel), by decide +kernel⟩
theorem msX3_takeAll : ax_g (.selects RX3 yX3_takeAll yX3_takeAll) := ⟨List.mem_of_getElem? (i := 1007) (by decide +kernel), by decide +kernel⟩
abbrev mX3_isWorn : ax_M := (yX3_isWorn, cX3_isWorn, 2, (some .boolean))
theorem mmX3_isWorn : ax_m mX3_isWorn 1 := ⟨⟨List.mem_of_getElem? (i := 780) (by decide +kernel), by decide +kernel⟩, ⟨List.mem_of_getElem? (i := 111) (by decide +kernel), by decide +kernel⟩, by decide +kernel, by decide +kernel, by decide +kernel, by decide⟩
theorem miX3_isWorn : ax_g (.instanceMethod yX3_isWorn) := ⟨List.mem_of_getElem? (i := 778) (by decide +kernel), by decide +kernel⟩
theorem msX3_isWorn : ax_g (.selects RX3 yX3_isWorn yX3_isWorn) := ⟨List.mem_of_getElem? (i := 779) (by decide +kernel), by decide +kernel⟩
abbrev mX3_mean : ax_M := (yX3_mean, cX3_mean, 9, (some .int))
theorem mmX3_mean : ax_m mX3_mean 2 := ⟨⟨List.mem_of_getElem? (i := 773) (by decide +kernel), by decide +kernel⟩, ⟨List.mem_of_getElem? (i := 111) (by decide +kernel), by decide +kernel⟩, by decide +kernel, by decide +kernel, by decide +kernel, by decide⟩
theorem miX3_mean : ax_g (.instanceMethod yX3_mean) := ⟨List.mem_of_getElem? (i := 771) (by decide +kernel), by decide +kernel⟩
theorem msX3_mean : ax_g (.selects RX3 yX3_mean yX3_mean) := ⟨List.mem_of_getElem? (i := 772) (by decide +kernel), by decide +kernel⟩
abbrev mX3_keeps : ax_M := (yX3_keeps, cX3_keeps, 2, (some .boolean))
theorem mmX3_keeps : ax_m mX3_keeps 1 := ⟨⟨List.mem_of_getElem? (i := 912) (by decide +kernel), by decide +kernel⟩, ⟨List.mem_of_getElem? (i := 111) (by decide +kernel), by decide +kernel⟩, by decide +kernel, by decide +kernel, by decide +kernel, by decide⟩
theorem miX3_keeps : ax_g (.instanceMethod yX3_keeps) := ⟨List.mem_of_getElem? (i := 910) (by decide +kernel), by decide +kernel⟩
theorem msX3_keeps : ax_g (.selects RX3 yX3_keeps yX3_keeps) := ⟨List.mem_of_getElem? (i := 911) (by decide +kernel), by decide +kernel⟩
abbrev mX3_keepLayer : ax_M := (yX3_keepLayer, cX3_keepLayer, 4, none)
theorem mmX3_keepLayer : ax_m mX3_keepLayer 3 := ⟨⟨List.mem_of_getElem? (i := 908) (by decide +kernel), by decide +kernel⟩, ⟨List.mem_of_getElem? (i := 111) (by decide +kernel), by decide +kernel⟩, by decide +kernel, by decide +kernel, by decide +kernel, by decide⟩
theorem miX3_keepLayer : ax_g (.instanceMethod yX3_keepLayer) := ⟨List.mem_of_getElem? (i := 906) (by decide +kernel), by decide +kernel⟩
theorem msX3_keepLayer : ax_g (.selects RX3 yX3_keepLayer yX3_keepLayer) := ⟨List.mem_of_getElem? (i := 907) (by decide +kernel), by decide +kernel⟩
abbrev mX3_layerCell : ax_M := (yX3_layerCell, cX3_layerCell, 3, (some .int))
theorem mmX3_layerCell : ax_m mX3_layerCell 3 := ⟨⟨List.mem_of_getElem? (i := 915) (by decide +kernel), by decide +kernel⟩, ⟨List.mem_of_getElem? (i := 111) (by decide +kernel), by decide +kernel⟩, by decide +kernel, by decide +kernel, by decide +kernel, by decide⟩
theorem mtX3_layerCell : ax_g (.static yX3_layerCell) := ⟨List.mem_of_getElem? (i := 914) (by decide +kernel), by decide +kernel⟩
abbrev mX4_init : ax_M := (yX4_init, cX4_init, 2, none)
theorem mmX4_init : ax_m mX4_init 1 := ⟨⟨List.mem_of_getElem? (i := 386) (by decide +kernel), by decide +kernel⟩, ⟨List.mem_of_getElem? (i := 112) (by decide +kernel), by decide +kernel⟩, by decide +kernel, by decide +kernel, by decide +kernel, by decide⟩
theorem miX4_init : ax_g (.instanceMethod yX4_init) := ⟨List.mem_of_getElem? (i := 385) (by decide +kernel), by decide +kernel⟩
abbrev mX4_look : ax_M := (yX4_look, cX4_look, 3, none)
theorem mmX4_look : ax_m mX4_look 1 := ⟨⟨List.mem_of_getElem? (i := 805) (by decide +kernel), by decide +kernel⟩, ⟨List.mem_of_getElem? (i := 112) (by decide +kernel), by decide +kernel⟩, by decide +kernel, by decide +kernel, by decide +kernel, by decide⟩
theorem miX4_look : ax_g (.instanceMethod yX4_look) := ⟨List.mem_of_getElem? (i := 803) (by decide +kernel), by decide +kernel⟩
theorem msX4_look : ax_g (.selects RX4 yX4_look yX4_look) := ⟨List.mem_of_getElem? (i := 804) (by decide +kernel), by decide +kernel⟩
abbrev mX4_isWorn : ax_M := (yX4_isWorn, cX4_isWorn, 2, (some .boolean))
theorem mmX4_isWorn : ax_m mX4_isWorn 1 := ⟨⟨List.mem_of_getElem? (i := 815) (by decide +kernel), by decide +kernel⟩, ⟨List.mem_of_getElem? (i := 112) (by decide +kernel), by decide +kernel⟩, by decide +kernel, by decide +kernel, by decide +kernel, by decide⟩
theorem miX4_isWorn : ax_g (.instanceMethod yX4_isWorn) := ⟨List.mem_of_getElem? (i := 813) (by decide +kernel), by decide +kernel⟩
theorem msX4_isWorn : ax_g (.selects RX4 yX4_isWorn yX4_isWorn) := ⟨List.mem_of_getElem? (i := 814) (by decide +kernel), by decide +kernel⟩
abbrev mX4_priceOf : ax_M := (yX4_priceOf, cX4_priceOf, 3, (some .int))
theorem mmX4_priceOf : ax_m mX4_priceOf 2 := ⟨⟨List.mem_of_getElem? (i := 820) (by decide +kernel), by decide +kernel⟩, ⟨List.mem_of_getElem? (i := 112) (by decide +kernel), by decide +kernel⟩, by decide +kernel, by decide +kernel, by decide +kernel, by decide⟩
theorem miX4_priceOf : ax_g (.instanceMethod yX4_priceOf) := ⟨List.mem_of_getElem? (i := 818) (by decide +kernel), by decide +kernel⟩
theorem msX4_priceOf : ax_g (.selects RX4 yX4_priceOf yX4_priceOf) := ⟨List.mem_of_getElem? (i := 819) (by decide +kernel), by decide +kernel⟩
abbrev mX4_shockOf : ax_M := (yX4_shockOf, cX4_shockOf, 4, (some .int))
theorem mmX4_shockOf : ax_m mX4_shockOf 2 := ⟨⟨List.mem_of_getElem? (i := 859) (by decide +kernel), by decide +kernel⟩, ⟨List.mem_of_getElem? (i := 112) (by decide +kernel), by decide +kernel⟩, by decide +kernel, by decide +kernel, by decide +kernel, by decide⟩
theorem miX4_shockOf : ax_g (.instanceMethod yX4_shockOf) := ⟨List.mem_of_getElem? (i := 857) (by decide +kernel), by decide +kernel⟩
theorem msX4_shockOf : ax_g (.selects RX4 yX4_shockOf yX4_shockOf) := ⟨List.mem_of_getElem? (i := 858) (by decide +kernel), by decide +kernel⟩
abbrev mX4_mendOf : ax_M := (yX4_mendOf, cX4_mendOf, 4, (some .int))
theorem mmX4_mendOf : ax_m mX4_mendOf 3 := ⟨⟨List.mem_of_getElem? (i := 901) (by decide +kernel), by decide +kernel⟩, ⟨List.mem_of_getElem? (i := 112) (by decide +kernel), by decide +kernel⟩, by decide +kernel, by decide +kernel, by decide +kernel, by decide⟩
theorem miX4_mendOf : ax_g (.instanceMethod yX4_mendOf) := ⟨List.mem_of_getElem? (i := 899) (by decide +kernel), by decide +kernel⟩
theorem msX4_mendOf : ax_g (.selects RX4 yX4_mendOf yX4_mendOf) := ⟨List.mem_of_getElem? (i := 900) (by decide +kernel), by decide +kernel⟩
abbrev mX4_setRoad : ax_M := (yX4_setRoad, cX4_setRoad, 2, none)
theorem mmX4_setRoad : ax_m mX4_setRoad 1 := ⟨⟨List.mem_of_getElem? (i := 824) (by decide +kernel), by decide +kernel⟩, ⟨List.mem_of_getElem? (i := 112) (by decide +kernel), by decide +kernel⟩, by decide +kernel, by decide +kernel, by decide +kernel, by decide⟩
theorem miX4_setRoad : ax_g (.instanceMethod yX4_setRoad) := ⟨List.mem_of_getElem? (i := 823) (by decide +kernel), by decide +kernel⟩
theorem msX4_setRoad : ax_g (.selects RX4 yX4_setRoad yX4_setRoad) := ⟨List.mem_of_getElem? (i := 24) (by decide +kernel), by decide +kernel⟩
abbrev mX4_value : ax_M := (yX4_value, cX4_value, 5, (some .int))
theorem mmX4_value : ax_m mX4_value 1 := ⟨⟨List.mem_of_getElem? (i := 828) (by decide +kernel), by decide +kernel⟩, ⟨List.mem_of_getElem? (i := 112) (by decide +kernel), by decide +kernel⟩, by decide +kernel, by decide +kernel, by decide +kernel, by decide⟩
theorem miX4_value : ax_g (.instanceMethod yX4_value) := ⟨List.mem_of_getElem? (i := 827) (by decide +kernel), by decide +kernel⟩
theorem msX4_value : ax_g (.selects RX4 yX4_value yX4_value) := ⟨List.mem_of_getElem? (i := 25) (by decide +kernel), by decide +kernel⟩
abbrev mX4_joined : ax_M := (yX4_joined, cX4_joined, 3, (some .int))
theorem mmX4_joined : ax_m mX4_joined 3 := ⟨⟨List.mem_of_getElem? (i := 831) (by decide +kernel), by decide +kernel⟩, ⟨List.mem_of_getElem? (i := 112) (by decide +kernel), by decide +kernel⟩, by decide +kernel, by decide +kernel, by decide +kernel, by decide⟩
theorem mtX4_joined : ax_g (.static yX4_joined) := ⟨List.mem_of_getElem? (i := 830) (by decide +kernel), by decide +kernel⟩
abbrev mX5_init : ax_M := (yX5_init, cX5_init, 1, none)
theorem mmX5_init : ax_m mX5_init 0 := ⟨⟨List.mem_of_getElem? (i := 136) (by decide +kernel), by decide +kernel⟩, ⟨List.mem_of_getElem? (i := 104) (by decide +kernel), by decide +kernel⟩, by decide +kernel, by decide +kernel, by decide +kernel, by decide⟩
theorem miX5_init : ax_g (.instanceMethod yX5_init) := ⟨List.mem_of_getElem? (i := 135) (by decide +kernel), by decide +kernel⟩
abbrev mX5_append : ax_M := (yX5_append, cX5_append, 5, none)
theorem mmX5_append : ax_m mX5_append 1 := ⟨⟨List.mem_of_getElem? (i := 520) (by decide +kernel), by decide +kernel⟩, ⟨List.mem_of_getElem? (i := 104) (by decide +kernel), by decide +kernel⟩, by decide +kernel, by decide +kernel, by decide +kernel, by decide⟩
theorem miX5_append : ax_g (.instanceMethod yX5_append) := ⟨List.mem_of_getElem? (i := 518) (by decide +kernel), by decide +kernel⟩
theorem msX5_append : ax_g (.selects RX5 yX5_append yX5_append) := ⟨List.mem_of_getElem? (i := 519) (by decide +kernel), by decide +kernel⟩
abbrev mX5_signAt : ax_M := (yX5_signAt, cX5_signAt, 2, (some .int))
theorem mmX5_signAt : ax_m mX5_signAt 1 := ⟨⟨List.mem_of_getElem? (i := 536) (by decide +kernel), by decide +kernel⟩, ⟨List.mem_of_getElem? (i := 104) (by decide +kernel), by decide +kernel⟩, by decide +kernel, by decide +kernel, by decide +kernel, by decide⟩
theorem miX5_signAt : ax_g (.instanceMethod yX5_signAt) := ⟨List.mem_of_getElem? (i := 534) (by decide +kernel), by decide +kernel⟩
theorem msX5_signAt : ax_g (.selects RX5 yX5_signAt yX5_signAt) := ⟨List.mem_of_getElem? (i := 535) (by decide +kernel), by decide +kernel⟩
abbrev mX5_hasBlank : ax_M := (yX5_hasBlank, cX5_hasBlank, 2, (some .boolean))
theorem mmX5_hasBlank : ax_m mX5_hasBlank 1 := ⟨⟨List.mem_of_getElem? (i := 532) (by decide +kernel), by decide +kernel⟩, ⟨List.mem_of_getElem? (i := 104) (by decide +kernel), by decide +kernel⟩, by decide +kernel, by decide +kernel, by decide +kernel, by decide⟩
theorem miX5_hasBlank : ax_g (.instanceMethod yX5_hasBlank) := ⟨List.mem_of_getElem? (i := 530) (by decide +kernel), by decide +kernel⟩
theorem msX5_hasBlank : ax_g (.selects RX5 yX5_hasBlank yX5_hasBlank) := ⟨List.mem_of_getElem? (i := 531) (by decide +kernel), by decide +kernel⟩
abbrev mX5_hasLetter : ax_M := (yX5_hasLetter, cX5_hasLetter, 2, (some .boolean))
theorem mmX5_hasLetter : ax_m mX5_hasLetter 1 := ⟨⟨List.mem_of_getElem? (i := 540) (by decide +kernel), by decide +kernel⟩, ⟨List.mem_of_getElem? (i := 104) (by decide +kernel), by decide +kernel⟩, by decide +kernel, by decide +kernel, by decide +kernel, by decide⟩
theorem miX5_hasLetter : ax_g (.instanceMethod yX5_hasLetter) := ⟨List.mem_of_getElem? (i := 538) (by decide +kernel), by decide +kernel⟩
theorem msX5_hasLetter : ax_g (.selects RX5 yX5_hasLetter yX5_hasLetter) := ⟨List.mem_of_getElem? (i := 539) (by decide +kernel), by decide +kernel⟩
abbrev mX5_hasDigit : ax_M := (yX5_hasDigit, cX5_hasDigit, 2, (some .boolean))
theorem mmX5_hasDigit : ax_m mX5_hasDigit 1 := ⟨⟨List.mem_of_getElem? (i := 566) (by decide +kernel), by decide +kernel⟩, ⟨List.mem_of_getElem? (i := 104) (by decide +kernel), by decide +kernel⟩, by decide +kernel, by decide +kernel, by decide +kernel, by decide⟩
theorem miX5_hasDigit : ax_g (.instanceMethod yX5_hasDigit) := ⟨List.mem_of_getElem? (i := 564) (by decide +kernel), by decide +kernel⟩
theorem msX5_hasDigit : ax_g (.selects RX5 yX5_hasDigit yX5_hasDigit) := ⟨List.mem_of_getElem? (i := 565) (by decide +kernel), by decide +kernel⟩
abbrev mX6_longer : ax_M := (yX6_longer, cX6_longer, 3, (some .long))
theorem mmX6_longer : ax_m mX6_longer 2 := ⟨⟨List.mem_of_getElem? (i := 548) (by decide +kernel), by decide +kernel⟩, ⟨List.mem_of_getElem? (i := 107) (by decide +kernel), by decide +kernel⟩, by decide +kernel, by decide +kernel, by decide +kernel, by decide⟩
theorem mtX6_longer : ax_g (.static yX6_longer) := ⟨List.mem_of_getElem? (i := 547) (by decide +kernel), by decide +kernel⟩
abbrev mX6_of : ax_M := (yX6_of, cX6_of, 3, (some (.object "LostRoads$Token")))
theorem mmX6_of : ax_m mX6_of 1 := ⟨⟨List.mem_of_getElem? (i := 553) (by decide +kernel), by decide +kernel⟩, ⟨List.mem_of_getElem? (i := 107) (by decide +kernel), by decide +kernel⟩, by decide +kernel, by decide +kernel, by decide +kernel, by decide⟩
theorem mtX6_of : ax_g (.static yX6_of) := ⟨List.mem_of_getElem? (i := 552) (by decide +kernel), by decide +kernel⟩
abbrev mX6_isName : ax_M := (yX6_isName, cX6_isName, 1, (some .boolean))
theorem mmX6_isName : ax_m mX6_isName 0 := ⟨⟨List.mem_of_getElem? (i := 619) (by decide +kernel), by decide +kernel⟩, ⟨List.mem_of_getElem? (i := 107) (by decide +kernel), by decide +kernel⟩, by decide +kernel, by decide +kernel, by decide +kernel, by decide⟩
theorem miX6_isName : ax_g (.instanceMethod yX6_isName) := ⟨List.mem_of_getElem? (i := 617) (by decide +kernel), by decide +kernel⟩
theorem msX6_isName : ax_g (.selects RX6 yX6_isName yX6_isName) := ⟨List.mem_of_getElem? (i := 618) (by decide +kernel), by decide +kernel⟩
abbrev mX6_isFactIn : ax_M := (yX6_isFactIn, cX6_isFactIn, 2, (some .boolean))
theorem mmX6_isFactIn : ax_m mX6_isFactIn 1 := ⟨⟨List.mem_of_getElem? (i := 715) (by decide +kernel), by decide +kernel⟩, ⟨List.mem_of_getElem? (i := 107) (by decide +kernel), by decide +kernel⟩, by decide +kernel, by decide +kernel, by decide +kernel, by decide⟩
theorem miX6_isFactIn : ax_g (.instanceMethod yX6_isFactIn) := ⟨List.mem_of_getElem? (i := 713) (by decide +kernel), by decide +kernel⟩
theorem msX6_isFactIn : ax_g (.selects RX6 yX6_isFactIn yX6_isFactIn) := ⟨List.mem_of_getElem? (i := 714) (by decide +kernel), by decide +kernel⟩
abbrev mX7_init : ax_M := (yX7_init, cX7_init, 2, none)
theorem mmX7_init : ax_m mX7_init 0 := ⟨⟨List.mem_of_getElem? (i := 152) (by decide +kernel), by decide +kernel⟩, ⟨List.mem_of_getElem? (i := 105) (by decide +kernel), by decide +kernel⟩, by decide +kernel, by decide +kernel, by decide +kernel, by decide⟩
theorem miX7_init : ax_g (.instanceMethod yX7_init) := ⟨List.mem_of_getElem? (i := 151) (by decide +kernel), by decide +kernel⟩
abbrev mX7_cut : ax_M := (yX7_cut, cX7_cut, 4, none)
theorem mmX7_cut : ax_m mX7_cut 1 := ⟨⟨List.mem_of_getElem? (i := 528) (by decide +kernel), by decide +kernel⟩, ⟨List.mem_of_getElem? (i := 105) (by decide +kernel), by decide +kernel⟩, by decide +kernel, by decide +kernel, by decide +kernel, by decide⟩
theorem miX7_cut : ax_g (.instanceMethod yX7_cut) := ⟨List.mem_of_getElem? (i := 526) (by decide +kernel), by decide +kernel⟩
theorem msX7_cut : ax_g (.selects RX7 yX7_cut yX7_cut) := ⟨List.mem_of_getElem? (i := 527) (by decide +kernel), by decide +kernel⟩
abbrev mX7_cutWord : ax_M := (yX7_cutWord, cX7_cutWord, 6, (some .int))
theorem mmX7_cutWord : ax_m mX7_cutWord 2 := ⟨⟨List.mem_of_getElem? (i := 544) (by decide +kernel), by decide +kernel⟩, ⟨List.mem_of_getElem? (i := 105) (by decide +kernel), by decide +kernel⟩, by decide +kernel, by decide +kernel, by decide +kernel, by decide⟩
theorem miX7_cutWord : ax_g (.instanceMethod yX7_cutWord) := ⟨List.mem_of_getElem? (i := 543) (by decide +kernel), by decide +kernel⟩
theorem msX7_cutWord : ax_g (.selects RX7 yX7_cutWord yX7_cutWord) := ⟨List.mem_of_getElem? (i := 0) (by decide +kernel), by decide +kernel⟩
abbrev mX7_cutNumber : ax_M := (yX7_cutNumber, cX7_cutNumber, 5, (some .int))
theorem mmX7_cutNumber : ax_m mX7_cutNumber 2 := ⟨⟨List.mem_of_getElem? (i := 570) (by decide +kernel), by decide +kernel⟩, ⟨List.mem_of_getElem? (i := 105) (by decide +kernel), by decide +kernel⟩, by decide +kernel, by decide +kernel, by decide +kernel, by decide⟩
theorem miX7_cutNumber : ax_g (.instanceMethod yX7_cutNumber) := ⟨List.mem_of_getElem? (i := 569) (by decide +kernel), by decide +kernel⟩
theorem msX7_cutNumber : ax_g (.selects RX7 yX7_cutNumber yX7_cutNumber) := ⟨List.mem_of_getElem? (i := 2) (by decide +kernel), by decide +kernel⟩
abbrev mX7_add : ax_M := (yX7_add, cX7_add, 5, none)
theorem mmX7_add : ax_m mX7_add 3 := ⟨⟨List.mem_of_getElem? (i := 562) (by decide +kernel), by decide +kernel⟩, ⟨List.mem_of_getElem? (i := 105) (by decide +kernel), by decide +kernel⟩, by decide +kernel, by decide +kernel, by decide +kernel, by decide⟩
theorem miX7_add : ax_g (.instanceMethod yX7_add) := ⟨List.mem_of_getElem? (i := 561) (by decide +kernel), by decide +kernel⟩
theorem msX7_add : ax_g (.selects RX7 yX7_add yX7_add) := ⟨List.mem_of_getElem? (i := 1) (by decide +kernel), by decide +kernel⟩
abbrev mX8_init : ax_M := (yX8_init, cX8_init, 1, none)
theorem mmX8_init : ax_m mX8_init 0 := ⟨⟨List.mem_of_getElem? (i := 187) (by decide +kernel), by decide +kernel⟩, ⟨List.mem_of_getElem? (i := 109) (by decide +kernel), by decide +kernel⟩, by decide +kernel, by decide +kernel, by decide +kernel, by decide⟩
theorem miX8_init : ax_g (.instanceMethod yX8_init) := ⟨List.mem_of_getElem? (i := 186) (by decide +kernel), by decide +kernel⟩
abbrev mX8_add : ax_M := (yX8_add, cX8_add, 5, none)
theorem mmX8_add : ax_m mX8_add 4 := ⟨⟨List.mem_of_getElem? (i := 695) (by decide +kernel), by decide +kernel⟩, ⟨List.mem_of_getElem? (i := 109) (by decide +kernel), by decide +kernel⟩, by decide +kernel, by decide +kernel, by decide +kernel, by decide⟩
theorem miX8_add : ax_g (.instanceMethod yX8_add) := ⟨List.mem_of_getElem? (i := 693) (by decide +kernel), by decide +kernel⟩
theorem msX8_add : ax_g (.selects RX8 yX8_add yX8_add) := ⟨List.mem_of_getElem? (i := 694) (by decide +kernel), by decide +kernel⟩
abbrev mX8_take : ax_M := (yX8_take, cX8_take, 2, none)
theorem mmX8_take : ax_m mX8_take 1 := ⟨⟨List.mem_of_getElem? (i := 746) (by decide +kernel), by decide +kernel⟩, ⟨List.mem_of_getElem? (i := 109) (by decide +kernel), by decide +kernel⟩, by decide +kernel, by decide +kernel, by decide +kernel, by decide⟩
theorem miX8_take : ax_g (.instanceMethod yX8_take) := ⟨List.mem_of_getElem? (i := 744) (by decide +kernel), by decide +kernel⟩
theorem msX8_take : ax_g (.selects RX8 yX8_take yX8_take) := ⟨List.mem_of_getElem? (i := 745) (by decide +kernel), by decide +kernel⟩
abbrev mX8_allCarry : ax_M := (yX8_allCarry, cX8_allCarry, 2, none)
theorem mmX8_allCarry : ax_m mX8_allCarry 1 := ⟨⟨List.mem_of_getElem? (i := 958) (by decide +kernel), by decide +kernel⟩, ⟨List.mem_of_getElem? (i := 109) (by decide +kernel), by decide +kernel⟩, by decide +kernel, by decide +kernel, by decide +kernel, by decide⟩
theorem miX8_allCarry : ax_g (.instanceMethod yX8_allCarry) := ⟨List.mem_of_getElem? (i := 956) (by decide +kernel), by decide +kernel⟩
theorem msX8_allCarry : ax_g (.selects RX8 yX8_allCarry yX8_allCarry) := ⟨List.mem_of_getElem? (i := 957) (by decide +kernel), by decide +kernel⟩
abbrev mX9_init : ax_M := (yX9_init, cX9_init, 3, none)
theorem mmX9_init : ax_m mX9_init 2 := ⟨⟨List.mem_of_getElem? (i := 415) (by decide +kernel), by decide +kernel⟩, ⟨List.mem_of_getElem? (i := 113) (by decide +kernel), by decide +kernel⟩, by decide +kernel, by decide +kernel, by decide +kernel, by decide⟩
theorem miX9_init : ax_g (.instanceMethod yX9_init) := ⟨List.mem_of_getElem? (i := 414) (by decide +kernel), by decide +kernel⟩
abbrev mX9_setPrices : ax_M := (yX9_setPrices, cX9_setPrices, 3, none)
theorem mmX9_setPrices : ax_m mX9_setPrices 1 := ⟨⟨List.mem_of_getElem? (i := 811) (by decide +kernel), by decide +kernel⟩, ⟨List.mem_of_getElem? (i := 113) (by decide +kernel), by decide +kernel⟩, by decide +kernel, by decide +kernel, by decide +kernel, by decide⟩
theorem miX9_setPrices : ax_g (.instanceMethod yX9_setPrices) := ⟨List.mem_of_getElem? (i := 809) (by decide +kernel), by decide +kernel⟩
theorem msX9_setPrices : ax_g (.selects RX9 yX9_setPrices yX9_setPrices) := ⟨List.mem_of_getElem? (i := 810) (by decide +kernel), by decide +kernel⟩
abbrev mX9_find : ax_M := (yX9_find, cX9_find, 6, (some .boolean))
theorem mmX9_find : ax_m mX9_find 2 := ⟨⟨List.mem_of_getElem? (i := 838) (by decide +kernel), by decide +kernel⟩, ⟨List.mem_of_getElem? (i := 113) (by decide +kernel), by decide +kernel⟩, by decide +kernel, by decide +kernel, by decide +kernel, by decide⟩
theorem miX9_find : ax_g (.instanceMethod yX9_find) := ⟨List.mem_of_getElem? (i := 836) (by decide +kernel), by decide +kernel⟩
theorem msX9_find : ax_g (.selects RX9 yX9_find yX9_find) := ⟨List.mem_of_getElem? (i := 837) (by decide +kernel), by decide +kernel⟩
abbrev mX9_improve : ax_M := (yX9_improve, cX9_improve, 5, (some .boolean))
theorem mmX9_improve : ax_m mX9_improve 0 := ⟨⟨List.mem_of_getElem? (i := 843) (by decide +kernel), by decide +kernel⟩, ⟨List.mem_of_getElem? (i := 113) (by decide +kernel), by decide +kernel⟩, by decide +kernel, by decide +kernel, by decide +kernel, by decide⟩
theorem miX9_improve : ax_g (.instanceMethod yX9_improve) := ⟨List.mem_of_getElem? (i := 842) (by decide +kernel), by decide +kernel⟩
theorem msX9_improve : ax_g (.selects RX9 yX9_improve yX9_improve) := ⟨List.mem_of_getElem? (i := 26) (by decide +kernel), by decide +kernel⟩
abbrev mX9_firstRoad : ax_M := (yX9_firstRoad, cX9_firstRoad, 4, (some .int))
theorem mmX9_firstRoad : ax_m mX9_firstRoad 1 := ⟨⟨List.mem_of_getElem? (i := 847) (by decide +kernel), by decide +kernel⟩, ⟨List.mem_of_getElem? (i := 113) (by decide +kernel), by decide +kernel⟩, by decide +kernel, by decide +kernel, by decide +kernel, by decide⟩
theorem miX9_firstRoad : ax_g (.instanceMethod yX9_firstRoad) := ⟨List.mem_of_getElem? (i := 846) (by decide +kernel), by decide +kernel⟩
theorem msX9_firstRoad : ax_g (.selects RX9 yX9_firstRoad yX9_firstRoad) := ⟨List.mem_of_getElem? (i := 27) (by decide +kernel), by decide +kernel⟩
abbrev mX10_init : ax_M := (yX10_init, cX10_init, 4, none)
theorem mmX10_init : ax_m mX10_init 3 := ⟨⟨List.mem_of_getElem? (i := 448) (by decide +kernel), by decide +kernel⟩, ⟨List.mem_of_getElem? (i := 114) (by decide +kernel), by decide +kernel⟩, by decide +kernel, by decide +kernel, by decide +kernel, by decide⟩
theorem miX10_init : ax_g (.instanceMethod yX10_init) := ⟨List.mem_of_getElem? (i := 447) (by decide +kernel), by decide +kernel⟩
abbrev mX10_pass : ax_M := (yX10_pass, cX10_pass, 5, none)
theorem mmX10_pass : ax_m mX10_pass 3 := ⟨⟨List.mem_of_getElem? (i := 871) (by decide +kernel), by decide +kernel⟩, ⟨List.mem_of_getElem? (i := 114) (by decide +kernel), by decide +kernel⟩, by decide +kernel, by decide +kernel, by decide +kernel, by decide⟩
theorem miX10_pass : ax_g (.instanceMethod yX10_pass) := ⟨List.mem_of_getElem? (i := 869) (by decide +kernel), by decide +kernel⟩
theorem msX10_pass : ax_g (.selects RX10 yX10_pass yX10_pass) := ⟨List.mem_of_getElem? (i := 870) (by decide +kernel), by decide +kernel⟩
abbrev mX10_carry : ax_M := (yX10_carry, cX10_carry, 9, none)
theorem mmX10_carry : ax_m mX10_carry 3 := ⟨⟨List.mem_of_getElem? (i := 879) (by decide +kernel), by decide +kernel⟩, ⟨List.mem_of_getElem? (i := 114) (by decide +kernel), by decide +kernel⟩, by decide +kernel, by decide +kernel, by decide +kernel, by decide⟩
theorem miX10_carry : ax_g (.instanceMethod yX10_carry) := ⟨List.mem_of_getElem? (i := 878) (by decide +kernel), by decide +kernel⟩
theorem msX10_carry : ax_g (.selects RX10 yX10_carry yX10_carry) := ⟨List.mem_of_getElem? (i := 28) (by decide +kernel), by decide +kernel⟩
abbrev mX10_dropOnPurpose : ax_M := (yX10_dropOnPurpose, cX10_dropOnPurpose, 5, none)
theorem mmX10_dropOnPurpose : ax_m mX10_dropOnPurpose 2 := ⟨⟨List.mem_of_getElem? (i := 885) (by decide +kernel), by decide +kernel⟩, ⟨List.mem_of_getElem? (i := 114) (by decide +kernel), by decide +kernel⟩, by decide +kernel, by decide +kernel, by decide +kernel, by decide⟩
theorem miX10_dropOnPurpose : ax_g (.instanceMethod yX10_dropOnPurpose) := ⟨List.mem_of_getElem? (i := 884) (by decide +kernel), by decide +kernel⟩
theorem msX10_dropOnPurpose : ax_g (.selects RX10 yX10_dropOnPurpose yX10_dropOnPurpose) := ⟨List.mem_of_getElem? (i := 29) (by decide +kernel), by decide +kernel⟩
abbrev mX10_sweep : ax_M := (yX10_sweep, cX10_sweep, 3, none)
theorem mmX10_sweep : ax_m mX10_sweep 1 := ⟨⟨List.mem_of_getElem? (i := 889) (by decide +kernel), by decide +kernel⟩, ⟨List.mem_of_getElem? (i := 114) (by decide +kernel), by decide +kernel⟩, by decide +kernel, by decide +kernel, by decide +kernel, by decide⟩
theorem miX10_sweep : ax_g (.instanceMethod yX10_sweep) := ⟨List.mem_of_getElem? (i := 888) (by decide +kernel), by decide +kernel⟩
theorem msX10_sweep : ax_g (.selects RX10 yX10_sweep yX10_sweep) := ⟨List.mem_of_getElem? (i := 30) (by decide +kernel), by decide +kernel⟩
abbrev mX10_mendRoad : ax_M := (yX10_mendRoad, cX10_mendRoad, 6, none)
theorem mmX10_mendRoad : ax_m mX10_mendRoad 2 := ⟨⟨List.mem_of_getElem? (i := 893) (by decide +kernel), by decide +kernel⟩, ⟨List.mem_of_getElem? (i := 114) (by decide +kernel), by decide +kernel⟩, by decide +kernel, by decide +kernel, by decide +kernel, by decide⟩
theorem miX10_mendRoad : ax_g (.instanceMethod yX10_mendRoad) := ⟨List.mem_of_getElem? (i := 892) (by decide +kernel), by decide +kernel⟩
theorem msX10_mendRoad : ax_g (.selects RX10 yX10_mendRoad yX10_mendRoad) := ⟨List.mem_of_getElem? (i := 31) (by decide +kernel), by decide +kernel⟩
abbrev mX11_init : ax_M := (yX11_init, cX11_init, 1, none)
theorem mmX11_init : ax_m mX11_init 0 := ⟨⟨List.mem_of_getElem? (i := 128) (by decide +kernel), by decide +kernel⟩, ⟨List.mem_of_getElem? (i := 103) (by decide +kernel), by decide +kernel⟩, by decide +kernel, by decide +kernel, by decide +kernel, by decide⟩
theorem miX11_init : ax_g (.instanceMethod yX11_init) := ⟨List.mem_of_getElem? (i := 127) (by decide +kernel), by decide +kernel⟩
abbrev mX11_feed : ax_M := (yX11_feed, cX11_feed, 7, (some .int))
theorem mmX11_feed : ax_m mX11_feed 3 := ⟨⟨List.mem_of_getElem? (i := 516) (by decide +kernel), by decide +kernel⟩, ⟨List.mem_of_getElem? (i := 103) (by decide +kernel), by decide +kernel⟩, by decide +kernel, by decide +kernel, by decide +kernel, by decide⟩
theorem miX11_feed : ax_g (.instanceMethod yX11_feed) := ⟨List.mem_of_getElem? (i := 514) (by decide +kernel), by decide +kernel⟩
theorem msX11_feed : ax_g (.selects RX11 yX11_feed yX11_feed) := ⟨List.mem_of_getElem? (i := 515) (by decide +kernel), by decide +kernel⟩
abbrev mX11_net : ax_M := (yX11_net, cX11_net, 3, (some .int))
theorem mmX11_net : ax_m mX11_net 0 := ⟨⟨List.mem_of_getElem? (i := 524) (by decide +kernel), by decide +kernel⟩, ⟨List.mem_of_getElem? (i := 103) (by decide +kernel), by decide +kernel⟩, by decide +kernel, by decide +kernel, by decide +kernel, by decide⟩
theorem miX11_net : ax_g (.instanceMethod yX11_net) := ⟨List.mem_of_getElem? (i := 522) (by decide +kernel), by decide +kernel⟩
theorem msX11_net : ax_g (.selects RX11 yX11_net yX11_net) := ⟨List.mem_of_getElem? (i := 523) (by decide +kernel), by decide +kernel⟩
abbrev mX11_stuff : ax_M := (yX11_stuff, cX11_stuff, 3, (some .int))
theorem mmX11_stuff : ax_m mX11_stuff 2 := ⟨⟨List.mem_of_getElem? (i := 757) (by decide +kernel), by decide +kernel⟩, ⟨List.mem_of_getElem? (i := 103) (by decide +kernel), by decide +kernel⟩, by decide +kernel, by decide +kernel, by decide +kernel, by decide⟩
theorem miX11_stuff : ax_g (.instanceMethod yX11_stuff) := ⟨List.mem_of_getElem? (i := 755) (by decide +kernel), by decide +kernel⟩
theorem msX11_stuff : ax_g (.selects RX11 yX11_stuff yX11_stuff) := ⟨List.mem_of_getElem? (i := 756) (by decide +kernel), by decide +kernel⟩
abbrev mX11_road : ax_M := (yX11_road, cX11_road, 3, (some .int))
theorem mmX11_road : ax_m mX11_road 2 := ⟨⟨List.mem_of_getElem? (i := 765) (by decide +kernel), by decide +kernel⟩, ⟨List.mem_of_getElem? (i := 103) (by decide +kernel), by decide +kernel⟩, by decide +kernel, by decide +kernel, by decide +kernel, by decide⟩
theorem miX11_road : ax_g (.instanceMethod yX11_road) := ⟨List.mem_of_getElem? (i := 763) (by decide +kernel), by decide +kernel⟩
theorem msX11_road : ax_g (.selects RX11 yX11_road yX11_road) := ⟨List.mem_of_getElem? (i := 764) (by decide +kernel), by decide +kernel⟩
abbrev mX11_surface : ax_M := (yX11_surface, cX11_surface, 3, (some .int))
theorem mmX11_surface : ax_m mX11_surface 2 := ⟨⟨List.mem_of_getElem? (i := 784) (by decide +kernel), by decide +kernel⟩, ⟨List.mem_of_getElem? (i := 103) (by decide +kernel), by decide +kernel⟩, by decide +kernel, by decide +kernel, by decide +kernel, by decide⟩
theorem miX11_surface : ax_g (.instanceMethod yX11_surface) := ⟨List.mem_of_getElem? (i := 782) (by decide +kernel), by decide +kernel⟩
theorem msX11_surface : ax_g (.selects RX11 yX11_surface yX11_surface) := ⟨List.mem_of_getElem? (i := 783) (by decide +kernel), by decide +kernel⟩
abbrev mX11_trade : ax_M := (yX11_trade, cX11_trade, 3, (some .int))
theorem mmX11_trade : ax_m mX11_trade 2 := ⟨⟨List.mem_of_getElem? (i := 789) (by decide +kernel), by decide +kernel⟩, ⟨List.mem_of_getElem? (i := 103) (by decide +kernel), by decide +kernel⟩, by decide +kernel, by decide +kernel, by decide +kernel, by decide⟩
theorem miX11_trade : ax_g (.instanceMethod yX11_trade) := ⟨List.mem_of_getElem? (i := 787) (by decide +kernel), by decide +kernel⟩
theorem msX11_trade : ax_g (.selects RX11 yX11_trade yX11_trade) := ⟨List.mem_of_getElem? (i := 788) (by decide +kernel), by decide +kernel⟩
abbrev mX11_way : ax_M := (yX11_way, cX11_way, 3, (some .int))
theorem mmX11_way : ax_m mX11_way 2 := ⟨⟨List.mem_of_getElem? (i := 797) (by decide +kernel), by decide +kernel⟩, ⟨List.mem_of_getElem? (i := 103) (by decide +kernel), by decide +kernel⟩, by decide +kernel, by decide +kernel, by decide +kernel, by decide⟩
theorem miX11_way : ax_g (.instanceMethod yX11_way) := ⟨List.mem_of_getElem? (i := 795) (by decide +kernel), by decide +kernel⟩
theorem msX11_way : ax_g (.selects RX11 yX11_way yX11_way) := ⟨List.mem_of_getElem? (i := 796) (by decide +kernel), by decide +kernel⟩
abbrev mX11_cost : ax_M := (yX11_cost, cX11_cost, 2, (some .int))
theorem mmX11_cost : ax_m mX11_cost 1 := ⟨⟨List.mem_of_getElem? (i := 1022) (by decide +kernel), by decide +kernel⟩, ⟨List.mem_of_getElem? (i := 103) (by decide +kernel), by decide +kernel⟩, by decide +kernel, by decide +kernel, by decide +kernel, by decide⟩
theorem miX11_cost : ax_g (.instanceMethod yX11_cost) := ⟨List.mem_of_getElem? (i := 1020) (by decide +kernel), by decide +kernel⟩
theorem msX11_cost : ax_g (.selects RX11 yX11_cost yX11_cost) := ⟨List.mem_of_getElem? (i := 1021) (by decide +kernel), by decide +kernel⟩
abbrev mX11_shock : ax_M := (yX11_shock, cX11_shock, 3, (some .int))
theorem mmX11_shock : ax_m mX11_shock 2 := ⟨⟨List.mem_of_getElem? (i := 855) (by decide +kernel), by decide +kernel⟩, ⟨List.mem_of_getElem? (i := 103) (by decide +kernel), by decide +kernel⟩, by decide +kernel, by decide +kernel, by decide +kernel, by decide⟩
theorem miX11_shock : ax_g (.instanceMethod yX11_shock) := ⟨List.mem_of_getElem? (i := 853) (by decide +kernel), by decide +kernel⟩
theorem msX11_shock : ax_g (.selects RX11 yX11_shock yX11_shock) := ⟨List.mem_of_getElem? (i := 854) (by decide +kernel), by decide +kernel⟩
abbrev mX11_years : ax_M := (yX11_years, cX11_years, 3, (some .int))
theorem mmX11_years : ax_m mX11_years 1 := ⟨⟨List.mem_of_getElem? (i := 864) (by decide +kernel), by decide +kernel⟩, ⟨List.mem_of_getElem? (i := 103) (by decide +kernel), by decide +kernel⟩, by decide +kernel, by decide +kernel, by decide +kernel, by decide⟩
theorem miX11_years : ax_g (.instanceMethod yX11_years) := ⟨List.mem_of_getElem? (i := 862) (by decide +kernel), by decide +kernel⟩
theorem msX11_years : ax_g (.selects RX11 yX11_years yX11_years) := ⟨List.mem_of_getElem? (i := 863) (by decide +kernel), by decide +kernel⟩
abbrev mX11_lose : ax_M := (yX11_lose, cX11_lose, 4, (some .boolean))
theorem mmX11_lose : ax_m mX11_lose 3 := ⟨⟨List.mem_of_getElem? (i := 919) (by decide +kernel), by decide +kernel⟩, ⟨List.mem_of_getElem? (i := 103) (by decide +kernel), by decide +kernel⟩, by decide +kernel, by decide +kernel, by decide +kernel, by decide⟩
theorem miX11_lose : ax_g (.instanceMethod yX11_lose) := ⟨List.mem_of_getElem? (i := 917) (by decide +kernel), by decide +kernel⟩
theorem msX11_lose : ax_g (.selects RX11 yX11_lose yX11_lose) := ⟨List.mem_of_getElem? (i := 918) (by decide +kernel), by decide +kernel⟩
abbrev mX11_layer : ax_M := (yX11_layer, cX11_layer, 4, (some .int))
theorem mmX11_layer : ax_m mX11_layer 3 := ⟨⟨List.mem_of_getElem? (i := 923) (by decide +kernel), by decide +kernel⟩, ⟨List.mem_of_getElem? (i := 103) (by decide +kernel), by decide +kernel⟩, by decide +kernel, by decide +kernel, by decide +kernel, by decide⟩
theorem miX11_layer : ax_g (.instanceMethod yX11_layer) := ⟨List.mem_of_getElem? (i := 921) (by decide +kernel), by decide +kernel⟩
theorem msX11_layer : ax_g (.selects RX11 yX11_layer yX11_layer) := ⟨List.mem_of_getElem? (i := 922) (by decide +kernel), by decide +kernel⟩
abbrev mX11_starves : ax_M := (yX11_starves, cX11_starves, 3, (some .int))
theorem mmX11_starves : ax_m mX11_starves 2 := ⟨⟨List.mem_of_getElem? (i := 929) (by decide +kernel), by decide +kernel⟩, ⟨List.mem_of_getElem? (i := 103) (by decide +kernel), by decide +kernel⟩, by decide +kernel, by decide +kernel, by decide +kernel, by decide⟩
theorem miX11_starves : ax_g (.instanceMethod yX11_starves) := ⟨List.mem_of_getElem? (i := 927) (by decide +kernel), by decide +kernel⟩
theorem msX11_starves : ax_g (.selects RX11 yX11_starves yX11_starves) := ⟨List.mem_of_getElem? (i := 928) (by decide +kernel), by decide +kernel⟩
abbrev mX11_purpose : ax_M := (yX11_purpose, cX11_purpose, 5, (some .int))
theorem mmX11_purpose : ax_m mX11_purpose 3 := ⟨⟨List.mem_of_getElem? (i := 946) (by decide +kernel), by decide +kernel⟩, ⟨List.mem_of_getElem? (i := 103) (by decide +kernel), by decide +kernel⟩, by decide +kernel, by decide +kernel, by decide +kernel, by decide⟩
theorem miX11_purpose : ax_g (.instanceMethod yX11_purpose) := ⟨List.mem_of_getElem? (i := 944) (by decide +kernel), by decide +kernel⟩
theorem msX11_purpose : ax_g (.selects RX11 yX11_purpose yX11_purpose) := ⟨List.mem_of_getElem? (i := 945) (by decide +kernel), by decide +kernel⟩
abbrev mX11_table : ax_M := (yX11_table, cX11_table, 7, (some .int))
theorem mmX11_table : ax_m mX11_table 2 := ⟨⟨List.mem_of_getElem? (i := 950) (by decide +kernel), by decide +kernel⟩, ⟨List.mem_of_getElem? (i := 103) (by decide +kernel), by decide +kernel⟩, by decide +kernel, by decide +kernel, by decide +kernel, by decide⟩
theorem miX11_table : ax_g (.instanceMethod yX11_table) := ⟨List.mem_of_getElem? (i := 948) (by decide +kernel), by decide +kernel⟩
theorem msX11_table : ax_g (.selects RX11 yX11_table yX11_table) := ⟨List.mem_of_getElem? (i := 949) (by decide +kernel), by decide +kernel⟩
abbrev mX11_newcomer : ax_M := (yX11_newcomer, cX11_newcomer, 9, (some .int))
theorem mmX11_newcomer : ax_m mX11_newcomer 6 := ⟨⟨List.mem_of_getElem? (i := 1095) (by decide +kernel), by decide +kernel⟩, ⟨List.mem_of_getElem? (i := 103) (by decide +kernel), by decide +kernel⟩, by decide +kernel, by decide +kernel, by decide +kernel, by decide⟩
theorem miX11_newcomer : ax_g (.instanceMethod yX11_newcomer) := ⟨List.mem_of_getElem? (i := 1093) (by decide +kernel), by decide +kernel⟩
theorem msX11_newcomer : ax_g (.selects RX11 yX11_newcomer yX11_newcomer) := ⟨List.mem_of_getElem? (i := 1094) (by decide +kernel), by decide +kernel⟩
abbrev mX11_swept : ax_M := (yX11_swept, cX11_swept, 4, (some .int))
theorem mmX11_swept : ax_m mX11_swept 2 := ⟨⟨List.mem_of_getElem? (i := 1112) (by decide +kernel), by decide +kernel⟩, ⟨List.mem_of_getElem? (i := 103) (by decide +kernel), by decide +kernel⟩, by decide +kernel, by decide +kernel, by decide +kernel, by decide⟩
theorem miX11_swept : ax_g (.instanceMethod yX11_swept) := ⟨List.mem_of_getElem? (i := 1110) (by decide +kernel), by decide +kernel⟩
theorem msX11_swept : ax_g (.selects RX11 yX11_swept yX11_swept) := ⟨List.mem_of_getElem? (i := 1111) (by decide +kernel), by decide +kernel⟩
abbrev mX11_told : ax_M := (yX11_told, cX11_told, 3, (some .boolean))
theorem mmX11_told : ax_m mX11_told 2 := ⟨⟨List.mem_of_getElem? (i := 972) (by decide +kernel), by decide +kernel⟩, ⟨List.mem_of_getElem? (i := 103) (by decide +kernel), by decide +kernel⟩, by decide +kernel, by decide +kernel, by decide +kernel, by decide⟩
theorem miX11_told : ax_g (.instanceMethod yX11_told) := ⟨List.mem_of_getElem? (i := 970) (by decide +kernel), by decide +kernel⟩
theorem msX11_told : ax_g (.selects RX11 yX11_told yX11_told) := ⟨List.mem_of_getElem? (i := 971) (by decide +kernel), by decide +kernel⟩
abbrev mX11_went : ax_M := (yX11_went, cX11_went, 7, (some .int))
theorem mmX11_went : ax_m mX11_went 2 := ⟨⟨List.mem_of_getElem? (i := 976) (by decide +kernel), by decide +kernel⟩, ⟨List.mem_of_getElem? (i := 103) (by decide +kernel), by decide +kernel⟩, by decide +kernel, by decide +kernel, by decide +kernel, by decide⟩
theorem miX11_went : ax_g (.instanceMethod yX11_went) := ⟨List.mem_of_getElem? (i := 974) (by decide +kernel), by decide +kernel⟩
theorem msX11_went : ax_g (.selects RX11 yX11_went yX11_went) := ⟨List.mem_of_getElem? (i := 975) (by decide +kernel), by decide +kernel⟩
abbrev mX11_wars : ax_M := (yX11_wars, cX11_wars, 9, (some .int))
theorem mmX11_wars : ax_m mX11_wars 4 := ⟨⟨List.mem_of_getElem? (i := 984) (by decide +kernel), by decide +kernel⟩, ⟨List.mem_of_getElem? (i := 103) (by decide +kernel), by decide +kernel⟩, by decide +kernel, by decide +kernel, by decide +kernel, by decide⟩
theorem miX11_wars : ax_g (.instanceMethod yX11_wars) := ⟨List.mem_of_getElem? (i := 982) (by decide +kernel), by decide +kernel⟩
theorem msX11_wars : ax_g (.selects RX11 yX11_wars yX11_wars) := ⟨List.mem_of_getElem? (i := 983) (by decide +kernel), by decide +kernel⟩
abbrev mX11_mark : ax_M := (yX11_mark, cX11_mark, 3, (some .boolean))
theorem mmX11_mark : ax_m mX11_mark 2 := ⟨⟨List.mem_of_getElem? (i := 1004) (by decide +kernel), by decide +kernel⟩, ⟨List.mem_of_getElem? (i := 103) (by decide +kernel), by decide +kernel⟩, by decide +kernel, by decide +kernel, by decide +kernel, by decide⟩
theorem miX11_mark : ax_g (.instanceMethod yX11_mark) := ⟨List.mem_of_getElem? (i := 1002) (by decide +kernel), by decide +kernel⟩
theorem msX11_mark : ax_g (.selects RX11 yX11_mark yX11_mark) := ⟨List.mem_of_getElem? (i := 1003) (by decide +kernel), by decide +kernel⟩
abbrev mX11_count : ax_M := (yX11_count, cX11_count, 2, (some .int))
theorem mmX11_count : ax_m mX11_count 1 := ⟨⟨List.mem_of_getElem? (i := 1014) (by decide +kernel), by decide +kernel⟩, ⟨List.mem_of_getElem? (i := 103) (by decide +kernel), by decide +kernel⟩, by decide +kernel, by decide +kernel, by decide +kernel, by decide⟩
theorem miX11_count : ax_g (.instanceMethod yX11_count) := ⟨List.mem_of_getElem? (i := 1012) (by decide +kernel), by decide +kernel⟩
theorem msX11_count : ax_g (.selects RX11 yX11_count yX11_count) := ⟨List.mem_of_getElem? (i := 1013) (by decide +kernel), by decide +kernel⟩
abbrev mX11_isStuff : ax_M := (yX11_isStuff, cX11_isStuff, 2, (some .boolean))
theorem mmX11_isStuff : ax_m mX11_isStuff 1 := ⟨⟨List.mem_of_getElem? (i := 761) (by decide +kernel), by decide +kernel⟩, ⟨List.mem_of_getElem? (i := 103) (by decide +kernel), by decide +kernel⟩, by decide +kernel, by decide +kernel, by decide +kernel, by decide⟩
theorem miX11_isStuff : ax_g (.instanceMethod yX11_isStuff) := ⟨List.mem_of_getElem? (i := 760) (by decide +kernel), by decide +kernel⟩
theorem msX11_isStuff : ax_g (.selects RX11 yX11_isStuff yX11_isStuff) := ⟨List.mem_of_getElem? (i := 20) (by decide +kernel), by decide +kernel⟩
abbrev mX11_isPlace : ax_M := (yX11_isPlace, cX11_isPlace, 2, (some .boolean))
theorem mmX11_isPlace : ax_m mX11_isPlace 1 := ⟨⟨List.mem_of_getElem? (i := 1099) (by decide +kernel), by decide +kernel⟩, ⟨List.mem_of_getElem? (i := 103) (by decide +kernel), by decide +kernel⟩, by decide +kernel, by decide +kernel, by decide +kernel, by decide⟩
theorem miX11_isPlace : ax_g (.instanceMethod yX11_isPlace) := ⟨List.mem_of_getElem? (i := 1098) (by decide +kernel), by decide +kernel⟩
theorem msX11_isPlace : ax_g (.selects RX11 yX11_isPlace yX11_isPlace) := ⟨List.mem_of_getElem? (i := 42) (by decide +kernel), by decide +kernel⟩
abbrev mX11_isRoad : ax_M := (yX11_isRoad, cX11_isRoad, 2, (some .boolean))
theorem mmX11_isRoad : ax_m mX11_isRoad 1 := ⟨⟨List.mem_of_getElem? (i := 769) (by decide +kernel), by decide +kernel⟩, ⟨List.mem_of_getElem? (i := 103) (by decide +kernel), by decide +kernel⟩, by decide +kernel, by decide +kernel, by decide +kernel, by decide⟩
theorem miX11_isRoad : ax_g (.instanceMethod yX11_isRoad) := ⟨List.mem_of_getElem? (i := 768) (by decide +kernel), by decide +kernel⟩
theorem msX11_isRoad : ax_g (.selects RX11 yX11_isRoad yX11_isRoad) := ⟨List.mem_of_getElem? (i := 21) (by decide +kernel), by decide +kernel⟩
abbrev mX11_isTrade : ax_M := (yX11_isTrade, cX11_isTrade, 2, (some .boolean))
theorem mmX11_isTrade : ax_m mX11_isTrade 1 := ⟨⟨List.mem_of_getElem? (i := 793) (by decide +kernel), by decide +kernel⟩, ⟨List.mem_of_getElem? (i := 103) (by decide +kernel), by decide +kernel⟩, by decide +kernel, by decide +kernel, by decide +kernel, by decide⟩
theorem miX11_isTrade : ax_g (.instanceMethod yX11_isTrade) := ⟨List.mem_of_getElem? (i := 792) (by decide +kernel), by decide +kernel⟩
theorem msX11_isTrade : ax_g (.selects RX11 yX11_isTrade yX11_isTrade) := ⟨List.mem_of_getElem? (i := 22) (by decide +kernel), by decide +kernel⟩
abbrev mX11_isYears : ax_M := (yX11_isYears, cX11_isYears, 1, (some .boolean))
theorem mmX11_isYears : ax_m mX11_isYears 1 := ⟨⟨List.mem_of_getElem? (i := 867) (by decide +kernel), by decide +kernel⟩, ⟨List.mem_of_getElem? (i := 103) (by decide +kernel), by decide +kernel⟩, by decide +kernel, by decide +kernel, by decide +kernel, by decide⟩
theorem mtX11_isYears : ax_g (.static yX11_isYears) := ⟨List.mem_of_getElem? (i := 866) (by decide +kernel), by decide +kernel⟩
abbrev mX11_cell : ax_M := (yX11_cell, cX11_cell, 2, (some .int))
theorem mmX11_cell : ax_m mX11_cell 2 := ⟨⟨List.mem_of_getElem? (i := 776) (by decide +kernel), by decide +kernel⟩, ⟨List.mem_of_getElem? (i := 103) (by decide +kernel), by decide +kernel⟩, by decide +kernel, by decide +kernel, by decide +kernel, by decide⟩
theorem mtX11_cell : ax_g (.static yX11_cell) := ⟨List.mem_of_getElem? (i := 775) (by decide +kernel), by decide +kernel⟩
abbrev mX11_within : ax_M := (yX11_within, cX11_within, 3, (some .int))
theorem mmX11_within : ax_m mX11_within 3 := ⟨⟨List.mem_of_getElem? (i := 834) (by decide +kernel), by decide +kernel⟩, ⟨List.mem_of_getElem? (i := 103) (by decide +kernel), by decide +kernel⟩, by decide +kernel, by decide +kernel, by decide +kernel, by decide⟩
theorem mtX11_within : ax_g (.static yX11_within) := ⟨List.mem_of_getElem? (i := 833) (by decide +kernel), by decide +kernel⟩
abbrev mX11_findWayNow : ax_M := (yX11_findWayNow, cX11_findWayNow, 2, (some .boolean))
theorem mmX11_findWayNow : ax_m mX11_findWayNow 1 := ⟨⟨List.mem_of_getElem? (i := 801) (by decide +kernel), by decide +kernel⟩, ⟨List.mem_of_getElem? (i := 103) (by decide +kernel), by decide +kernel⟩, by decide +kernel, by decide +kernel, by decide +kernel, by decide⟩
theorem miX11_findWayNow : ax_g (.instanceMethod yX11_findWayNow) := ⟨List.mem_of_getElem? (i := 800) (by decide +kernel), by decide +kernel⟩
theorem msX11_findWayNow : ax_g (.selects RX11 yX11_findWayNow yX11_findWayNow) := ⟨List.mem_of_getElem? (i := 23) (by decide +kernel), by decide +kernel⟩
abbrev mX11_beginTrial : ax_M := (yX11_beginTrial, cX11_beginTrial, 1, none)
theorem mmX11_beginTrial : ax_m mX11_beginTrial 0 := ⟨⟨List.mem_of_getElem? (i := 933) (by decide +kernel), by decide +kernel⟩, ⟨List.mem_of_getElem? (i := 103) (by decide +kernel), by decide +kernel⟩, by decide +kernel, by decide +kernel, by decide +kernel, by decide⟩
theorem miX11_beginTrial : ax_g (.instanceMethod yX11_beginTrial) := ⟨List.mem_of_getElem? (i := 932) (by decide +kernel), by decide +kernel⟩
theorem msX11_beginTrial : ax_g (.selects RX11 yX11_beginTrial yX11_beginTrial) := ⟨List.mem_of_getElem? (i := 32) (by decide +kernel), by decide +kernel⟩
abbrev mX11_passTrial : ax_M := (yX11_passTrial, cX11_passTrial, 4, none)
theorem mmX11_passTrial : ax_m mX11_passTrial 2 := ⟨⟨List.mem_of_getElem? (i := 963) (by decide +kernel), by decide +kernel⟩, ⟨List.mem_of_getElem? (i := 103) (by decide +kernel), by decide +kernel⟩, by decide +kernel, by decide +kernel, by decide +kernel, by decide⟩
theorem miX11_passTrial : ax_g (.instanceMethod yX11_passTrial) := ⟨List.mem_of_getElem? (i := 962) (by decide +kernel), by decide +kernel⟩
theorem msX11_passTrial : ax_g (.selects RX11 yX11_passTrial yX11_passTrial) := ⟨List.mem_of_getElem? (i := 35) (by decide +kernel), by decide +kernel⟩
abbrev mX11_wornBehind : ax_M := (yX11_wornBehind, cX11_wornBehind, 4, (some .int))
theorem mmX11_wornBehind : ax_m mX11_wornBehind 2 := ⟨⟨List.mem_of_getElem? (i := 942) (by decide +kernel), by decide +kernel⟩, ⟨List.mem_of_getElem? (i := 103) (by decide +kernel), by decide +kernel⟩, by decide +kernel, by decide +kernel, by decide +kernel, by decide⟩
theorem miX11_wornBehind : ax_g (.instanceMethod yX11_wornBehind) := ⟨List.mem_of_getElem? (i := 941) (by decide +kernel), by decide +kernel⟩
theorem msX11_wornBehind : ax_g (.selects RX11 yX11_wornBehind yX11_wornBehind) := ⟨List.mem_of_getElem? (i := 33) (by decide +kernel), by decide +kernel⟩
abbrev mX11_holesAsTold : ax_M := (yX11_holesAsTold, cX11_holesAsTold, 2, (some .int))
theorem mmX11_holesAsTold : ax_m mX11_holesAsTold 1 := ⟨⟨List.mem_of_getElem? (i := 1104) (by decide +kernel), by decide +kernel⟩, ⟨List.mem_of_getElem? (i := 103) (by decide +kernel), by decide +kernel⟩, by decide +kernel, by decide +kernel, by decide +kernel, by decide⟩
theorem miX11_holesAsTold : ax_g (.instanceMethod yX11_holesAsTold) := ⟨List.mem_of_getElem? (i := 1103) (by decide +kernel), by decide +kernel⟩
theorem msX11_holesAsTold : ax_g (.selects RX11 yX11_holesAsTold yX11_holesAsTold) := ⟨List.mem_of_getElem? (i := 43) (by decide +kernel), by decide +kernel⟩
abbrev mX11_holesIfAllCarry : ax_M := (yX11_holesIfAllCarry, cX11_holesIfAllCarry, 3, (some .int))
theorem mmX11_holesIfAllCarry : ax_m mX11_holesIfAllCarry 2 := ⟨⟨List.mem_of_getElem? (i := 954) (by decide +kernel), by decide +kernel⟩, ⟨List.mem_of_getElem? (i := 103) (by decide +kernel), by decide +kernel⟩, by decide +kernel, by decide +kernel, by decide +kernel, by decide⟩
theorem miX11_holesIfAllCarry : ax_g (.instanceMethod yX11_holesIfAllCarry) := ⟨List.mem_of_getElem? (i := 953) (by decide +kernel), by decide +kernel⟩
theorem msX11_holesIfAllCarry : ax_g (.selects RX11 yX11_holesIfAllCarry yX11_holesIfAllCarry) := ⟨List.mem_of_getElem? (i := 34) (by decide +kernel), by decide +kernel⟩
abbrev mX11_holesTogether : ax_M := (yX11_holesTogether, cX11_holesTogether, 4, (some .int))
theorem mmX11_holesTogether : ax_m mX11_holesTogether 1 := ⟨⟨List.mem_of_getElem? (i := 967) (by decide +kernel), by decide +kernel⟩, ⟨List.mem_of_getElem? (i := 103) (by decide +kernel), by decide +kernel⟩, by decide +kernel, by decide +kernel, by decide +kernel, by decide⟩
theorem miX11_holesTogether : ax_g (.instanceMethod yX11_holesTogether) := ⟨List.mem_of_getElem? (i := 966) (by decide +kernel), by decide +kernel⟩
theorem msX11_holesTogether : ax_g (.selects RX11 yX11_holesTogether yX11_holesTogether) := ⟨List.mem_of_getElem? (i := 36) (by decide +kernel), by decide +kernel⟩
abbrev mX11_wornRoads : ax_M := (yX11_wornRoads, cX11_wornRoads, 4, (some .int))
theorem mmX11_wornRoads : ax_m mX11_wornRoads 1 := ⟨⟨List.mem_of_getElem? (i := 1000) (by decide +kernel), by decide +kernel⟩, ⟨List.mem_of_getElem? (i := 103) (by decide +kernel), by decide +kernel⟩, by decide +kernel, by decide +kernel, by decide +kernel, by decide⟩
theorem miX11_wornRoads : ax_g (.instanceMethod yX11_wornRoads) := ⟨List.mem_of_getElem? (i := 999) (by decide +kernel), by decide +kernel⟩
theorem msX11_wornRoads : ax_g (.selects RX11 yX11_wornRoads yX11_wornRoads) := ⟨List.mem_of_getElem? (i := 40) (by decide +kernel), by decide +kernel⟩
abbrev mX11_leavesToldLayer : ax_M := (yX11_leavesToldLayer, cX11_leavesToldLayer, 6, (some .boolean))
theorem mmX11_leavesToldLayer : ax_m mX11_leavesToldLayer 2 := ⟨⟨List.mem_of_getElem? (i := 980) (by decide +kernel), by decide +kernel⟩, ⟨List.mem_of_getElem? (i := 103) (by decide +kernel), by decide +kernel⟩, by decide +kernel, by decide +kernel, by decide +kernel, by decide⟩
theorem miX11_leavesToldLayer : ax_g (.instanceMethod yX11_leavesToldLayer) := ⟨List.mem_of_getElem? (i := 979) (by decide +kernel), by decide +kernel⟩
theorem msX11_leavesToldLayer : ax_g (.selects RX11 yX11_leavesToldLayer yX11_leavesToldLayer) := ⟨List.mem_of_getElem? (i := 37) (by decide +kernel), by decide +kernel⟩
abbrev mX11_cameInWar : ax_M := (yX11_cameInWar, cX11_cameInWar, 5, (some .int))
theorem mmX11_cameInWar : ax_m mX11_cameInWar 1 := ⟨⟨List.mem_of_getElem? (i := 988) (by decide +kernel), by decide +kernel⟩, ⟨List.mem_of_getElem? (i := 103) (by decide +kernel), by decide +kernel⟩, by decide +kernel, by decide +kernel, by decide +kernel, by decide⟩
theorem miX11_cameInWar : ax_g (.instanceMethod yX11_cameInWar) := ⟨List.mem_of_getElem? (i := 987) (by decide +kernel), by decide +kernel⟩
theorem msX11_cameInWar : ax_g (.selects RX11 yX11_cameInWar yX11_cameInWar) := ⟨List.mem_of_getElem? (i := 38) (by decide +kernel), by decide +kernel⟩
abbrev mX11_drawBelow : ax_M := (yX11_drawBelow, cX11_drawBelow, 2, (some .int))
theorem mmX11_drawBelow : ax_m mX11_drawBelow 1 := ⟨⟨List.mem_of_getElem? (i := 992) (by decide +kernel), by decide +kernel⟩, ⟨List.mem_of_getElem? (i := 103) (by decide +kernel), by decide +kernel⟩, by decide +kernel, by decide +kernel, by decide +kernel, by decide⟩
theorem miX11_drawBelow : ax_g (.instanceMethod yX11_drawBelow) := ⟨List.mem_of_getElem? (i := 991) (by decide +kernel), by decide +kernel⟩
theorem msX11_drawBelow : ax_g (.selects RX11 yX11_drawBelow yX11_drawBelow) := ⟨List.mem_of_getElem? (i := 39) (by decide +kernel), by decide +kernel⟩
abbrev mX12_thrown : ax_M := (yX12_thrown, cX12_thrown, 1, (some .int))
theorem mmX12_thrown : ax_m mX12_thrown 0 := ⟨⟨List.mem_of_getElem? (i := 1117) (by decide +kernel), by decide +kernel⟩, ⟨List.mem_of_getElem? (i := 115) (by decide +kernel), by decide +kernel⟩, by decide +kernel, by decide +kernel, by decide +kernel, by decide⟩
theorem miX12_thrown : ax_g (.instanceMethod yX12_thrown) := ⟨List.mem_of_getElem? (i := 1115) (by decide +kernel), by decide +kernel⟩
theorem msX12_thrown : ax_g (.selects RX12 yX12_thrown yX12_thrown) := ⟨List.mem_of_getElem? (i := 1116) (by decide +kernel), by decide +kernel⟩
abbrev mX12_feed : ax_M := (yX12_feed, cX12_feed, 7, (some .int))
theorem mmX12_feed : ax_m mX12_feed 3 := ⟨⟨List.mem_of_getElem? (i := 1121) (by decide +kernel), by decide +kernel⟩, ⟨List.mem_of_getElem? (i := 115) (by decide +kernel), by decide +kernel⟩, by decide +kernel, by decide +kernel, by decide +kernel, by decide⟩
theorem miX12_feed : ax_g (.instanceMethod yX12_feed) := ⟨List.mem_of_getElem? (i := 1119) (by decide +kernel), by decide +kernel⟩
theorem msX12_feed : ax_g (.selects RX12 yX12_feed yX12_feed) := ⟨List.mem_of_getElem? (i := 1120) (by decide +kernel), by decide +kernel⟩
abbrev mX12_lay : ax_M := (yX12_lay, cX12_lay, 5, none)
theorem mmX12_lay : ax_m mX12_lay 1 := ⟨⟨List.mem_of_getElem? (i := 1126) (by decide +kernel), by decide +kernel⟩, ⟨List.mem_of_getElem? (i := 115) (by decide +kernel), by decide +kernel⟩, by decide +kernel, by decide +kernel, by decide +kernel, by decide⟩
theorem miX12_lay : ax_g (.instanceMethod yX12_lay) := ⟨List.mem_of_getElem? (i := 1124) (by decide +kernel), by decide +kernel⟩
theorem msX12_lay : ax_g (.selects RX12 yX12_lay yX12_lay) := ⟨List.mem_of_getElem? (i := 44) (by decide +kernel), by decide +kernel⟩
abbrev mX12_init : ax_M := (yX12_init, cX12_init, 2, none)
theorem mmX12_init : ax_m mX12_init 0 := ⟨⟨List.mem_of_getElem? (i := 1130) (by decide +kernel), by decide +kernel⟩, ⟨List.mem_of_getElem? (i := 115) (by decide +kernel), by decide +kernel⟩, by decide +kernel, by decide +kernel, by decide +kernel, by decide⟩
theorem miX12_init : ax_g (.instanceMethod yX12_init) := ⟨List.mem_of_getElem? (i := 1129) (by decide +kernel), by decide +kernel⟩
abbrev mX12_isLetter : ax_M := (yX12_isLetter, cX12_isLetter, 1, (some .boolean))
theorem mmX12_isLetter : ax_m mX12_isLetter 1 := ⟨⟨List.mem_of_getElem? (i := 1270) (by decide +kernel), by decide +kernel⟩, ⟨List.mem_of_getElem? (i := 115) (by decide +kernel), by decide +kernel⟩, by decide +kernel, by decide +kernel, by decide +kernel, by decide⟩
theorem mtX12_isLetter : ax_g (.static yX12_isLetter) := ⟨List.mem_of_getElem? (i := 1269) (by decide +kernel), by decide +kernel⟩
abbrev mX12_isDigit : ax_M := (yX12_isDigit, cX12_isDigit, 1, (some .boolean))
theorem mmX12_isDigit : ax_m mX12_isDigit 1 := ⟨⟨List.mem_of_getElem? (i := 1277) (by decide +kernel), by decide +kernel⟩, ⟨List.mem_of_getElem? (i := 115) (by decide +kernel), by decide +kernel⟩, by decide +kernel, by decide +kernel, by decide +kernel, by decide⟩
theorem mtX12_isDigit : ax_g (.static yX12_isDigit) := ⟨List.mem_of_getElem? (i := 1276) (by decide +kernel), by decide +kernel⟩
abbrev mX12_rank : ax_M := (yX12_rank, cX12_rank, 1, (some .int))
theorem mmX12_rank : ax_m mX12_rank 1 := ⟨⟨List.mem_of_getElem? (i := 1274) (by decide +kernel), by decide +kernel⟩, ⟨List.mem_of_getElem? (i := 115) (by decide +kernel), by decide +kernel⟩, by decide +kernel, by decide +kernel, by decide +kernel, by decide⟩
theorem mtX12_rank : ax_g (.static yX12_rank) := ⟨List.mem_of_getElem? (i := 1273) (by decide +kernel), by decide +kernel⟩
abbrev mX12_isSignOf : ax_M := (yX12_isSignOf, cX12_isSignOf, 1, (some .boolean))
theorem mmX12_isSignOf : ax_m mX12_isSignOf 1 := ⟨⟨List.mem_of_getElem? (i := 1282) (by decide +kernel), by decide +kernel⟩, ⟨List.mem_of_getElem? (i := 115) (by decide +kernel), by decide +kernel⟩, by decide +kernel, by decide +kernel, by decide +kernel, by decide⟩
theorem mtX12_isSignOf : ax_g (.static yX12_isSignOf) := ⟨List.mem_of_getElem? (i := 1281) (by decide +kernel), by decide +kernel⟩
abbrev mX12_cutAll : ax_M := (yX12_cutAll, cX12_cutAll, 7, none)
theorem mmX12_cutAll : ax_m mX12_cutAll 0 := ⟨⟨List.mem_of_getElem? (i := 1267) (by decide +kernel), by decide +kernel⟩, ⟨List.mem_of_getElem? (i := 115) (by decide +kernel), by decide +kernel⟩, by decide +kernel, by decide +kernel, by decide +kernel, by decide⟩
theorem miX12_cutAll : ax_g (.instanceMethod yX12_cutAll) := ⟨List.mem_of_getElem? (i := 1266) (by decide +kernel), by decide +kernel⟩
theorem msX12_cutAll : ax_g (.selects RX12 yX12_cutAll yX12_cutAll) := ⟨List.mem_of_getElem? (i := 45) (by decide +kernel), by decide +kernel⟩
abbrev mX12_wrong : ax_M := (yX12_wrong, cX12_wrong, 2, none)
theorem mmX12_wrong : ax_m mX12_wrong 1 := ⟨⟨List.mem_of_getElem? (i := 1298) (by decide +kernel), by decide +kernel⟩, ⟨List.mem_of_getElem? (i := 115) (by decide +kernel), by decide +kernel⟩, by decide +kernel, by decide +kernel, by decide +kernel, by decide⟩
theorem miX12_wrong : ax_g (.instanceMethod yX12_wrong) := ⟨List.mem_of_getElem? (i := 1297) (by decide +kernel), by decide +kernel⟩
theorem msX12_wrong : ax_g (.selects RX12 yX12_wrong yX12_wrong) := ⟨List.mem_of_getElem? (i := 49) (by decide +kernel), by decide +kernel⟩
abbrev mX12_isSign : ax_M := (yX12_isSign, cX12_isSign, 2, (some .boolean))
theorem mmX12_isSign : ax_m mX12_isSign 1 := ⟨⟨List.mem_of_getElem? (i := 1374) (by decide +kernel), by decide +kernel⟩, ⟨List.mem_of_getElem? (i := 115) (by decide +kernel), by decide +kernel⟩, by decide +kernel, by decide +kernel, by decide +kernel, by decide⟩
theorem miX12_isSign : ax_g (.instanceMethod yX12_isSign) := ⟨List.mem_of_getElem? (i := 1373) (by decide +kernel), by decide +kernel⟩
theorem msX12_isSign : ax_g (.selects RX12 yX12_isSign yX12_isSign) := ⟨List.mem_of_getElem? (i := 68) (by decide +kernel), by decide +kernel⟩
abbrev mX12_isWord : ax_M := (yX12_isWord, cX12_isWord, 2, (some .boolean))
theorem mmX12_isWord : ax_m mX12_isWord 1 := ⟨⟨List.mem_of_getElem? (i := 1290) (by decide +kernel), by decide +kernel⟩, ⟨List.mem_of_getElem? (i := 115) (by decide +kernel), by decide +kernel⟩, by decide +kernel, by decide +kernel, by decide +kernel, by decide⟩
theorem miX12_isWord : ax_g (.instanceMethod yX12_isWord) := ⟨List.mem_of_getElem? (i := 1289) (by decide +kernel), by decide +kernel⟩
theorem msX12_isWord : ax_g (.selects RX12 yX12_isWord yX12_isWord) := ⟨List.mem_of_getElem? (i := 47) (by decide +kernel), by decide +kernel⟩
abbrev mX12_takeSign : ax_M := (yX12_takeSign, cX12_takeSign, 2, none)
theorem mmX12_takeSign : ax_m mX12_takeSign 1 := ⟨⟨List.mem_of_getElem? (i := 1386) (by decide +kernel), by decide +kernel⟩, ⟨List.mem_of_getElem? (i := 115) (by decide +kernel), by decide +kernel⟩, by decide +kernel, by decide +kernel, by decide +kernel, by decide⟩
theorem miX12_takeSign : ax_g (.instanceMethod yX12_takeSign) := ⟨List.mem_of_getElem? (i := 1385) (by decide +kernel), by decide +kernel⟩
theorem msX12_takeSign : ax_g (.selects RX12 yX12_takeSign yX12_takeSign) := ⟨List.mem_of_getElem? (i := 71) (by decide +kernel), by decide +kernel⟩
abbrev mX12_hasSign : ax_M := (yX12_hasSign, cX12_hasSign, 3, (some .boolean))
theorem mmX12_hasSign : ax_m mX12_hasSign 1 := ⟨⟨List.mem_of_getElem? (i := 1382) (by decide +kernel), by decide +kernel⟩, ⟨List.mem_of_getElem? (i := 115) (by decide +kernel), by decide +kernel⟩, by decide +kernel, by decide +kernel, by decide +kernel, by decide⟩
theorem miX12_hasSign : ax_g (.instanceMethod yX12_hasSign) := ⟨List.mem_of_getElem? (i := 1381) (by decide +kernel), by decide +kernel⟩
theorem msX12_hasSign : ax_g (.selects RX12 yX12_hasSign yX12_hasSign) := ⟨List.mem_of_getElem? (i := 70) (by decide +kernel), by decide +kernel⟩
abbrev mX12_hasWord : ax_M := (yX12_hasWord, cX12_hasWord, 3, (some .boolean))
theorem mmX12_hasWord : ax_m mX12_hasWord 1 := ⟨⟨List.mem_of_getElem? (i := 1322) (by decide +kernel), by decide +kernel⟩, ⟨List.mem_of_getElem? (i := 115) (by decide +kernel), by decide +kernel⟩, by decide +kernel, by decide +kernel, by decide +kernel, by decide⟩
theorem miX12_hasWord : ax_g (.instanceMethod yX12_hasWord) := ⟨List.mem_of_getElem? (i := 1321) (by decide +kernel), by decide +kernel⟩
theorem msX12_hasWord : ax_g (.selects RX12 yX12_hasWord yX12_hasWord) := ⟨List.mem_of_getElem? (i := 55) (by decide +kernel), by decide +kernel⟩
abbrev mX12_takeWord : ax_M := (yX12_takeWord, cX12_takeWord, 2, none)
theorem mmX12_takeWord : ax_m mX12_takeWord 1 := ⟨⟨List.mem_of_getElem? (i := 1318) (by decide +kernel), by decide +kernel⟩, ⟨List.mem_of_getElem? (i := 115) (by decide +kernel), by decide +kernel⟩, by decide +kernel, by decide +kernel, by decide +kernel, by decide⟩
theorem miX12_takeWord : ax_g (.instanceMethod yX12_takeWord) := ⟨List.mem_of_getElem? (i := 1317) (by decide +kernel), by decide +kernel⟩
theorem msX12_takeWord : ax_g (.selects RX12 yX12_takeWord yX12_takeWord) := ⟨List.mem_of_getElem? (i := 54) (by decide +kernel), by decide +kernel⟩
abbrev mX12_within : ax_M := (yX12_within, cX12_within, 3, (some .boolean))
theorem mmX12_within : ax_m mX12_within 3 := ⟨⟨List.mem_of_getElem? (i := 1405) (by decide +kernel), by decide +kernel⟩, ⟨List.mem_of_getElem? (i := 115) (by decide +kernel), by decide +kernel⟩, by decide +kernel, by decide +kernel, by decide +kernel, by decide⟩
theorem mtX12_within : ax_g (.static yX12_within) := ⟨List.mem_of_getElem? (i := 1404) (by decide +kernel), by decide +kernel⟩
abbrev mX12_takeNumber : ax_M := (yX12_takeNumber, cX12_takeNumber, 3, (some .int))
theorem mmX12_takeNumber : ax_m mX12_takeNumber 2 := ⟨⟨List.mem_of_getElem? (i := 1326) (by decide +kernel), by decide +kernel⟩, ⟨List.mem_of_getElem? (i := 115) (by decide +kernel), by decide +kernel⟩, by decide +kernel, by decide +kernel, by decide +kernel, by decide⟩
theorem miX12_takeNumber : ax_g (.instanceMethod yX12_takeNumber) := ⟨List.mem_of_getElem? (i := 1325) (by decide +kernel), by decide +kernel⟩
theorem msX12_takeNumber : ax_g (.selects RX12 yX12_takeNumber yX12_takeNumber) := ⟨List.mem_of_getElem? (i := 56) (by decide +kernel), by decide +kernel⟩
abbrev mX12_takeAfter : ax_M := (yX12_takeAfter, cX12_takeAfter, 4, (some .int))
theorem mmX12_takeAfter : ax_m mX12_takeAfter 3 := ⟨⟨List.mem_of_getElem? (i := 1314) (by decide +kernel), by decide +kernel⟩, ⟨List.mem_of_getElem? (i := 115) (by decide +kernel), by decide +kernel⟩, by decide +kernel, by decide +kernel, by decide +kernel, by decide⟩
theorem miX12_takeAfter : ax_g (.instanceMethod yX12_takeAfter) := ⟨List.mem_of_getElem? (i := 1313) (by decide +kernel), by decide +kernel⟩
theorem msX12_takeAfter : ax_g (.selects RX12 yX12_takeAfter yX12_takeAfter) := ⟨List.mem_of_getElem? (i := 53) (by decide +kernel), by decide +kernel⟩
abbrev mX12_isName : ax_M := (yX12_isName, cX12_isName, 3, (some .boolean))
theorem mmX12_isName : ax_m mX12_isName 0 := ⟨⟨List.mem_of_getElem? (i := 1306) (by decide +kernel), by decide +kernel⟩, ⟨List.mem_of_getElem? (i := 115) (by decide +kernel), by decide +kernel⟩, by decide +kernel, by decide +kernel, by decide +kernel, by decide⟩
theorem miX12_isName : ax_g (.instanceMethod yX12_isName) := ⟨List.mem_of_getElem? (i := 1305) (by decide +kernel), by decide +kernel⟩
theorem msX12_isName : ax_g (.selects RX12 yX12_isName yX12_isName) := ⟨List.mem_of_getElem? (i := 51) (by decide +kernel), by decide +kernel⟩
abbrev mX12_find : ax_M := (yX12_find, cX12_find, 2, (some .int))
theorem mmX12_find : ax_m mX12_find 0 := ⟨⟨List.mem_of_getElem? (i := 1310) (by decide +kernel), by decide +kernel⟩, ⟨List.mem_of_getElem? (i := 115) (by decide +kernel), by decide +kernel⟩, by decide +kernel, by decide +kernel, by decide +kernel, by decide⟩
theorem miX12_find : ax_g (.instanceMethod yX12_find) := ⟨List.mem_of_getElem? (i := 1309) (by decide +kernel), by decide +kernel⟩
theorem msX12_find : ax_g (.selects RX12 yX12_find yX12_find) := ⟨List.mem_of_getElem? (i := 52) (by decide +kernel), by decide +kernel⟩
abbrev mX12_net : ax_M := (yX12_net, cX12_net, 2, (some .int))
theorem mmX12_net : ax_m mX12_net 0 := ⟨⟨List.mem_of_getElem? (i := 1263) (by decide +kernel), by decide +kernel⟩, ⟨List.mem_of_getElem? (i := 115) (by decide +kernel), by decide +kernel⟩, by decide +kernel, by decide +kernel, by decide +kernel, by decide⟩
theorem miX12_net : ax_g (.instanceMethod yX12_net) := ⟨List.mem_of_getElem? (i := 1261) (by decide +kernel), by decide +kernel⟩
theorem msX12_net : ax_g (.selects RX12 yX12_net yX12_net) := ⟨List.mem_of_getElem? (i := 1262) (by decide +kernel), by decide +kernel⟩
abbrev mX12_readLine : ax_M := (yX12_readLine, cX12_readLine, 1, none)
theorem mmX12_readLine : ax_m mX12_readLine 0 := ⟨⟨List.mem_of_getElem? (i := 1286) (by decide +kernel), by decide +kernel⟩, ⟨List.mem_of_getElem? (i := 115) (by decide +kernel), by decide +kernel⟩, by decide +kernel, by decide +kernel, by decide +kernel, by decide⟩
theorem miX12_readLine : ax_g (.instanceMethod yX12_readLine) := ⟨List.mem_of_getElem? (i := 1285) (by decide +kernel), by decide +kernel⟩
theorem msX12_readLine : ax_g (.selects RX12 yX12_readLine yX12_readLine) := ⟨List.mem_of_getElem? (i := 46) (by decide +kernel), by decide +kernel⟩
abbrev mX12_readName : ax_M := (yX12_readName, cX12_readName, 2, none)
theorem mmX12_readName : ax_m mX12_readName 1 := ⟨⟨List.mem_of_getElem? (i := 1302) (by decide +kernel), by decide +kernel⟩, ⟨List.mem_of_getElem? (i := 115) (by decide +kernel), by decide +kernel⟩, by decide +kernel, by decide +kernel, by decide +kernel, by decide⟩
theorem miX12_readName : ax_g (.instanceMethod yX12_readName) := ⟨List.mem_of_getElem? (i := 1301) (by decide +kernel), by decide +kernel⟩
theorem msX12_readName : ax_g (.selects RX12 yX12_readName yX12_readName) := ⟨List.mem_of_getElem? (i := 50) (by decide +kernel), by decide +kernel⟩
abbrev mX12_readStuff : ax_M := (yX12_readStuff, cX12_readStuff, 2, none)
theorem mmX12_readStuff : ax_m mX12_readStuff 0 := ⟨⟨List.mem_of_getElem? (i := 1294) (by decide +kernel), by decide +kernel⟩, ⟨List.mem_of_getElem? (i := 115) (by decide +kernel), by decide +kernel⟩, by decide +kernel, by decide +kernel, by decide +kernel, by decide⟩
theorem miX12_readStuff : ax_g (.instanceMethod yX12_readStuff) := ⟨List.mem_of_getElem? (i := 1293) (by decide +kernel), by decide +kernel⟩
theorem msX12_readStuff : ax_g (.selects RX12 yX12_readStuff yX12_readStuff) := ⟨List.mem_of_getElem? (i := 48) (by decide +kernel), by decide +kernel⟩
abbrev mX12_readPlace : ax_M := (yX12_readPlace, cX12_readPlace, 2, none)
theorem mmX12_readPlace : ax_m mX12_readPlace 0 := ⟨⟨List.mem_of_getElem? (i := 1330) (by decide +kernel), by decide +kernel⟩, ⟨List.mem_of_getElem? (i := 115) (by decide +kernel), by decide +kernel⟩, by decide +kernel, by decide +kernel, by decide +kernel, by decide⟩
theorem miX12_readPlace : ax_g (.instanceMethod yX12_readPlace) := ⟨List.mem_of_getElem? (i := 1329) (by decide +kernel), by decide +kernel⟩
theorem msX12_readPlace : ax_g (.selects RX12 yX12_readPlace yX12_readPlace) := ⟨List.mem_of_getElem? (i := 57) (by decide +kernel), by decide +kernel⟩
abbrev mX12_takeTold : ax_M := (yX12_takeTold, cX12_takeTold, 4, (some .int))
theorem mmX12_takeTold : ax_m mX12_takeTold 2 := ⟨⟨List.mem_of_getElem? (i := 1338) (by decide +kernel), by decide +kernel⟩, ⟨List.mem_of_getElem? (i := 115) (by decide +kernel), by decide +kernel⟩, by decide +kernel, by decide +kernel, by decide +kernel, by decide⟩
theorem miX12_takeTold : ax_g (.instanceMethod yX12_takeTold) := ⟨List.mem_of_getElem? (i := 1337) (by decide +kernel), by decide +kernel⟩
theorem msX12_takeTold : ax_g (.selects RX12 yX12_takeTold yX12_takeTold) := ⟨List.mem_of_getElem? (i := 59) (by decide +kernel), by decide +kernel⟩
abbrev mX12_readRoad : ax_M := (yX12_readRoad, cX12_readRoad, 3, none)
theorem mmX12_readRoad : ax_m mX12_readRoad 0 := ⟨⟨List.mem_of_getElem? (i := 1334) (by decide +kernel), by decide +kernel⟩, ⟨List.mem_of_getElem? (i := 115) (by decide +kernel), by decide +kernel⟩, by decide +kernel, by decide +kernel, by decide +kernel, by decide⟩
theorem miX12_readRoad : ax_g (.instanceMethod yX12_readRoad) := ⟨List.mem_of_getElem? (i := 1333) (by decide +kernel), by decide +kernel⟩
theorem msX12_readRoad : ax_g (.selects RX12 yX12_readRoad yX12_readRoad) := ⟨List.mem_of_getElem? (i := 58) (by decide +kernel), by decide +kernel⟩
abbrev mX12_readTrade : ax_M := (yX12_readTrade, cX12_readTrade, 3, none)
theorem mmX12_readTrade : ax_m mX12_readTrade 0 := ⟨⟨List.mem_of_getElem? (i := 1342) (by decide +kernel), by decide +kernel⟩, ⟨List.mem_of_getElem? (i := 115) (by decide +kernel), by decide +kernel⟩, by decide +kernel, by decide +kernel, by decide +kernel, by decide⟩
theorem miX12_readTrade : ax_g (.instanceMethod yX12_readTrade) := ⟨List.mem_of_getElem? (i := 1341) (by decide +kernel), by decide +kernel⟩
theorem msX12_readTrade : ax_g (.selects RX12 yX12_readTrade yX12_readTrade) := ⟨List.mem_of_getElem? (i := 60) (by decide +kernel), by decide +kernel⟩
abbrev mX12_readLaw : ax_M := (yX12_readLaw, cX12_readLaw, 2, none)
theorem mmX12_readLaw : ax_m mX12_readLaw 0 := ⟨⟨List.mem_of_getElem? (i := 1346) (by decide +kernel), by decide +kernel⟩, ⟨List.mem_of_getElem? (i := 115) (by decide +kernel), by decide +kernel⟩, by decide +kernel, by decide +kernel, by decide +kernel, by decide⟩
theorem miX12_readLaw : ax_g (.instanceMethod yX12_readLaw) := ⟨List.mem_of_getElem? (i := 1345) (by decide +kernel), by decide +kernel⟩
theorem msX12_readLaw : ax_g (.selects RX12 yX12_readLaw yX12_readLaw) := ⟨List.mem_of_getElem? (i := 61) (by decide +kernel), by decide +kernel⟩
abbrev mX12_emit : ax_M := (yX12_emit, cX12_emit, 3, none)
theorem mmX12_emit : ax_m mX12_emit 2 := ⟨⟨List.mem_of_getElem? (i := 1378) (by decide +kernel), by decide +kernel⟩, ⟨List.mem_of_getElem? (i := 115) (by decide +kernel), by decide +kernel⟩, by decide +kernel, by decide +kernel, by decide +kernel, by decide⟩
theorem miX12_emit : ax_g (.instanceMethod yX12_emit) := ⟨List.mem_of_getElem? (i := 1377) (by decide +kernel), by decide +kernel⟩
theorem msX12_emit : ax_g (.selects RX12 yX12_emit yX12_emit) := ⟨List.mem_of_getElem? (i := 69) (by decide +kernel), by decide +kernel⟩
abbrev mX12_all : ax_M := (yX12_all, cX12_all, 3, none)
theorem mmX12_all : ax_m mX12_all 1 := ⟨⟨List.mem_of_getElem? (i := 1350) (by decide +kernel), by decide +kernel⟩, ⟨List.mem_of_getElem? (i := 115) (by decide +kernel), by decide +kernel⟩, by decide +kernel, by decide +kernel, by decide +kernel, by decide⟩
theorem miX12_all : ax_g (.instanceMethod yX12_all) := ⟨List.mem_of_getElem? (i := 1349) (by decide +kernel), by decide +kernel⟩
theorem msX12_all : ax_g (.selects RX12 yX12_all yX12_all) := ⟨List.mem_of_getElem? (i := 62) (by decide +kernel), by decide +kernel⟩
abbrev mX12_test : ax_M := (yX12_test, cX12_test, 3, none)
theorem mmX12_test : ax_m mX12_test 1 := ⟨⟨List.mem_of_getElem? (i := 1354) (by decide +kernel), by decide +kernel⟩, ⟨List.mem_of_getElem? (i := 115) (by decide +kernel), by decide +kernel⟩, by decide +kernel, by decide +kernel, by decide +kernel, by decide⟩
theorem miX12_test : ax_g (.instanceMethod yX12_test) := ⟨List.mem_of_getElem? (i := 1353) (by decide +kernel), by decide +kernel⟩
theorem msX12_test : ax_g (.selects RX12 yX12_test yX12_test) := ⟨List.mem_of_getElem? (i := 63) (by decide +kernel), by decide +kernel⟩
abbrev mX12_sums : ax_M := (yX12_sums, cX12_sums, 3, none)
theorem mmX12_sums : ax_m mX12_sums 1 := ⟨⟨List.mem_of_getElem? (i := 1358) (by decide +kernel), by decide +kernel⟩, ⟨List.mem_of_getElem? (i := 115) (by decide +kernel), by decide +kernel⟩, by decide +kernel, by decide +kernel, by decide +kernel, by decide⟩
theorem miX12_sums : ax_g (.instanceMethod yX12_sums) := ⟨List.mem_of_getElem? (i := 1357) (by decide +kernel), by decide +kernel⟩
theorem msX12_sums : ax_g (.selects RX12 yX12_sums yX12_sums) := ⟨List.mem_of_getElem? (i := 64) (by decide +kernel), by decide +kernel⟩
abbrev mX12_products : ax_M := (yX12_products, cX12_products, 2, none)
theorem mmX12_products : ax_m mX12_products 1 := ⟨⟨List.mem_of_getElem? (i := 1362) (by decide +kernel), by decide +kernel⟩, ⟨List.mem_of_getElem? (i := 115) (by decide +kernel), by decide +kernel⟩, by decide +kernel, by decide +kernel, by decide +kernel, by decide⟩
theorem miX12_products : ax_g (.instanceMethod yX12_products) := ⟨List.mem_of_getElem? (i := 1361) (by decide +kernel), by decide +kernel⟩
theorem msX12_products : ax_g (.selects RX12 yX12_products yX12_products) := ⟨List.mem_of_getElem? (i := 65) (by decide +kernel), by decide +kernel⟩
abbrev mX12_factHere : ax_M := (yX12_factHere, cX12_factHere, 4, (some .int))
theorem mmX12_factHere : ax_m mX12_factHere 0 := ⟨⟨List.mem_of_getElem? (i := 1370) (by decide +kernel), by decide +kernel⟩, ⟨List.mem_of_getElem? (i := 115) (by decide +kernel), by decide +kernel⟩, by decide +kernel, by decide +kernel, by decide +kernel, by decide⟩
theorem miX12_factHere : ax_g (.instanceMethod yX12_factHere) := ⟨List.mem_of_getElem? (i := 1369) (by decide +kernel), by decide +kernel⟩
theorem msX12_factHere : ax_g (.selects RX12 yX12_factHere yX12_factHere) := ⟨List.mem_of_getElem? (i := 67) (by decide +kernel), by decide +kernel⟩
abbrev mX12_takePart : ax_M := (yX12_takePart, cX12_takePart, 4, none)
theorem mmX12_takePart : ax_m mX12_takePart 1 := ⟨⟨List.mem_of_getElem? (i := 1366) (by decide +kernel), by decide +kernel⟩, ⟨List.mem_of_getElem? (i := 115) (by decide +kernel), by decide +kernel⟩, by decide +kernel, by decide +kernel, by decide +kernel, by decide⟩
theorem miX12_takePart : ax_g (.instanceMethod yX12_takePart) := ⟨List.mem_of_getElem? (i := 1365) (by decide +kernel), by decide +kernel⟩
theorem msX12_takePart : ax_g (.selects RX12 yX12_takePart yX12_takePart) := ⟨List.mem_of_getElem? (i := 66) (by decide +kernel), by decide +kernel⟩
abbrev mX12_worthAt : ax_M := (yX12_worthAt, cX12_worthAt, 5, (some .int))
theorem mmX12_worthAt : ax_m mX12_worthAt 1 := ⟨⟨List.mem_of_getElem? (i := 1465) (by decide +kernel), by decide +kernel⟩, ⟨List.mem_of_getElem? (i := 115) (by decide +kernel), by decide +kernel⟩, by decide +kernel, by decide +kernel, by decide +kernel, by decide⟩
theorem miX12_worthAt : ax_g (.instanceMethod yX12_worthAt) := ⟨List.mem_of_getElem? (i := 1464) (by decide +kernel), by decide +kernel⟩
theorem msX12_worthAt : ax_g (.selects RX12 yX12_worthAt yX12_worthAt) := ⟨List.mem_of_getElem? (i := 85) (by decide +kernel), by decide +kernel⟩
abbrev mX12_both : ax_M := (yX12_both, cX12_both, 3, (some .int))
theorem mmX12_both : ax_m mX12_both 3 := ⟨⟨List.mem_of_getElem? (i := 1468) (by decide +kernel), by decide +kernel⟩, ⟨List.mem_of_getElem? (i := 115) (by decide +kernel), by decide +kernel⟩, by decide +kernel, by decide +kernel, by decide +kernel, by decide⟩
theorem mtX12_both : ax_g (.static yX12_both) := ⟨List.mem_of_getElem? (i := 1467) (by decide +kernel), by decide +kernel⟩
abbrev mX12_copies : ax_M := (yX12_copies, cX12_copies, 5, none)
theorem mmX12_copies : ax_m mX12_copies 3 := ⟨⟨List.mem_of_getElem? (i := 1532) (by decide +kernel), by decide +kernel⟩, ⟨List.mem_of_getElem? (i := 115) (by decide +kernel), by decide +kernel⟩, by decide +kernel, by decide +kernel, by decide +kernel, by decide⟩
theorem miX12_copies : ax_g (.instanceMethod yX12_copies) := ⟨List.mem_of_getElem? (i := 1531) (by decide +kernel), by decide +kernel⟩
theorem msX12_copies : ax_g (.selects RX12 yX12_copies yX12_copies) := ⟨List.mem_of_getElem? (i := 93) (by decide +kernel), by decide +kernel⟩
abbrev mX12_aside : ax_M := (yX12_aside, cX12_aside, 1, none)
theorem mmX12_aside : ax_m mX12_aside 0 := ⟨⟨List.mem_of_getElem? (i := 1528) (by decide +kernel), by decide +kernel⟩, ⟨List.mem_of_getElem? (i := 115) (by decide +kernel), by decide +kernel⟩, by decide +kernel, by decide +kernel, by decide +kernel, by decide⟩
theorem miX12_aside : ax_g (.instanceMethod yX12_aside) := ⟨List.mem_of_getElem? (i := 1527) (by decide +kernel), by decide +kernel⟩
theorem msX12_aside : ax_g (.selects RX12 yX12_aside yX12_aside) := ⟨List.mem_of_getElem? (i := 92) (by decide +kernel), by decide +kernel⟩
abbrev mX12_back : ax_M := (yX12_back, cX12_back, 1, none)
theorem mmX12_back : ax_m mX12_back 0 := ⟨⟨List.mem_of_getElem? (i := 1536) (by decide +kernel), by decide +kernel⟩, ⟨List.mem_of_getElem? (i := 115) (by decide +kernel), by decide +kernel⟩, by decide +kernel, by decide +kernel, by decide +kernel, by decide⟩
theorem miX12_back : ax_g (.instanceMethod yX12_back) := ⟨List.mem_of_getElem? (i := 1535) (by decide +kernel), by decide +kernel⟩
theorem msX12_back : ax_g (.selects RX12 yX12_back yX12_back) := ⟨List.mem_of_getElem? (i := 94) (by decide +kernel), by decide +kernel⟩
abbrev mX12_stuffs : ax_M := (yX12_stuffs, cX12_stuffs, 1, (some .int))
theorem mmX12_stuffs : ax_m mX12_stuffs 0 := ⟨⟨List.mem_of_getElem? (i := 1402) (by decide +kernel), by decide +kernel⟩, ⟨List.mem_of_getElem? (i := 115) (by decide +kernel), by decide +kernel⟩, by decide +kernel, by decide +kernel, by decide +kernel, by decide⟩
theorem miX12_stuffs : ax_g (.instanceMethod yX12_stuffs) := ⟨List.mem_of_getElem? (i := 1401) (by decide +kernel), by decide +kernel⟩
theorem msX12_stuffs : ax_g (.selects RX12 yX12_stuffs yX12_stuffs) := ⟨List.mem_of_getElem? (i := 74) (by decide +kernel), by decide +kernel⟩
abbrev mX12_roads : ax_M := (yX12_roads, cX12_roads, 1, (some .int))
theorem mmX12_roads : ax_m mX12_roads 0 := ⟨⟨List.mem_of_getElem? (i := 1390) (by decide +kernel), by decide +kernel⟩, ⟨List.mem_of_getElem? (i := 115) (by decide +kernel), by decide +kernel⟩, by decide +kernel, by decide +kernel, by decide +kernel, by decide⟩
theorem miX12_roads : ax_g (.instanceMethod yX12_roads) := ⟨List.mem_of_getElem? (i := 1389) (by decide +kernel), by decide +kernel⟩
theorem msX12_roads : ax_g (.selects RX12 yX12_roads yX12_roads) := ⟨List.mem_of_getElem? (i := 72) (by decide +kernel), by decide +kernel⟩
abbrev mX12_trades : ax_M := (yX12_trades, cX12_trades, 1, (some .int))
theorem mmX12_trades : ax_m mX12_trades 0 := ⟨⟨List.mem_of_getElem? (i := 1441) (by decide +kernel), by decide +kernel⟩, ⟨List.mem_of_getElem? (i := 115) (by decide +kernel), by decide +kernel⟩, by decide +kernel, by decide +kernel, by decide +kernel, by decide⟩
theorem miX12_trades : ax_g (.instanceMethod yX12_trades) := ⟨List.mem_of_getElem? (i := 1440) (by decide +kernel), by decide +kernel⟩
theorem msX12_trades : ax_g (.selects RX12 yX12_trades yX12_trades) := ⟨List.mem_of_getElem? (i := 80) (by decide +kernel), by decide +kernel⟩
abbrev mX12_isRoad : ax_M := (yX12_isRoad, cX12_isRoad, 2, (some .boolean))
theorem mmX12_isRoad : ax_m mX12_isRoad 1 := ⟨⟨List.mem_of_getElem? (i := 1413) (by decide +kernel), by decide +kernel⟩, ⟨List.mem_of_getElem? (i := 115) (by decide +kernel), by decide +kernel⟩, by decide +kernel, by decide +kernel, by decide +kernel, by decide⟩
theorem miX12_isRoad : ax_g (.instanceMethod yX12_isRoad) := ⟨List.mem_of_getElem? (i := 1412) (by decide +kernel), by decide +kernel⟩
theorem msX12_isRoad : ax_g (.selects RX12 yX12_isRoad yX12_isRoad) := ⟨List.mem_of_getElem? (i := 75) (by decide +kernel), by decide +kernel⟩
abbrev mX12_isStuff : ax_M := (yX12_isStuff, cX12_isStuff, 2, (some .boolean))
theorem mmX12_isStuff : ax_m mX12_isStuff 1 := ⟨⟨List.mem_of_getElem? (i := 1398) (by decide +kernel), by decide +kernel⟩, ⟨List.mem_of_getElem? (i := 115) (by decide +kernel), by decide +kernel⟩, by decide +kernel, by decide +kernel, by decide +kernel, by decide⟩
theorem miX12_isStuff : ax_g (.instanceMethod yX12_isStuff) := ⟨List.mem_of_getElem? (i := 1397) (by decide +kernel), by decide +kernel⟩
theorem msX12_isStuff : ax_g (.selects RX12 yX12_isStuff yX12_isStuff) := ⟨List.mem_of_getElem? (i := 73) (by decide +kernel), by decide +kernel⟩
abbrev mX12_isTrade : ax_M := (yX12_isTrade, cX12_isTrade, 2, (some .boolean))
theorem mmX12_isTrade : ax_m mX12_isTrade 1 := ⟨⟨List.mem_of_getElem? (i := 1437) (by decide +kernel), by decide +kernel⟩, ⟨List.mem_of_getElem? (i := 115) (by decide +kernel), by decide +kernel⟩, by decide +kernel, by decide +kernel, by decide +kernel, by decide⟩
theorem miX12_isTrade : ax_g (.instanceMethod yX12_isTrade) := ⟨List.mem_of_getElem? (i := 1436) (by decide +kernel), by decide +kernel⟩
theorem msX12_isTrade : ax_g (.selects RX12 yX12_isTrade yX12_isTrade) := ⟨List.mem_of_getElem? (i := 79) (by decide +kernel), by decide +kernel⟩
abbrev mX12_areYears : ax_M := (yX12_areYears, cX12_areYears, 1, (some .boolean))
theorem mmX12_areYears : ax_m mX12_areYears 1 := ⟨⟨List.mem_of_getElem? (i := 1495) (by decide +kernel), by decide +kernel⟩, ⟨List.mem_of_getElem? (i := 115) (by decide +kernel), by decide +kernel⟩, by decide +kernel, by decide +kernel, by decide +kernel, by decide⟩
theorem mtX12_areYears : ax_g (.static yX12_areYears) := ⟨List.mem_of_getElem? (i := 1494) (by decide +kernel), by decide +kernel⟩
abbrev mX12_roadOf : ax_M := (yX12_roadOf, cX12_roadOf, 3, (some .int))
theorem mmX12_roadOf : ax_m mX12_roadOf 2 := ⟨⟨List.mem_of_getElem? (i := 1417) (by decide +kernel), by decide +kernel⟩, ⟨List.mem_of_getElem? (i := 115) (by decide +kernel), by decide +kernel⟩, by decide +kernel, by decide +kernel, by decide +kernel, by decide⟩
theorem miX12_roadOf : ax_g (.instanceMethod yX12_roadOf) := ⟨List.mem_of_getElem? (i := 1416) (by decide +kernel), by decide +kernel⟩
theorem msX12_roadOf : ax_g (.selects RX12 yX12_roadOf yX12_roadOf) := ⟨List.mem_of_getElem? (i := 76) (by decide +kernel), by decide +kernel⟩
abbrev mX12_tradeOf : ax_M := (yX12_tradeOf, cX12_tradeOf, 3, (some .int))
theorem mmX12_tradeOf : ax_m mX12_tradeOf 2 := ⟨⟨List.mem_of_getElem? (i := 1445) (by decide +kernel), by decide +kernel⟩, ⟨List.mem_of_getElem? (i := 115) (by decide +kernel), by decide +kernel⟩, by decide +kernel, by decide +kernel, by decide +kernel, by decide⟩
theorem miX12_tradeOf : ax_g (.instanceMethod yX12_tradeOf) := ⟨List.mem_of_getElem? (i := 1444) (by decide +kernel), by decide +kernel⟩
theorem msX12_tradeOf : ax_g (.selects RX12 yX12_tradeOf yX12_tradeOf) := ⟨List.mem_of_getElem? (i := 81) (by decide +kernel), by decide +kernel⟩
abbrev mX12_isWorn : ax_M := (yX12_isWorn, cX12_isWorn, 2, (some .boolean))
theorem mmX12_isWorn : ax_m mX12_isWorn 1 := ⟨⟨List.mem_of_getElem? (i := 1425) (by decide +kernel), by decide +kernel⟩, ⟨List.mem_of_getElem? (i := 115) (by decide +kernel), by decide +kernel⟩, by decide +kernel, by decide +kernel, by decide +kernel, by decide⟩
theorem miX12_isWorn : ax_g (.instanceMethod yX12_isWorn) := ⟨List.mem_of_getElem? (i := 1424) (by decide +kernel), by decide +kernel⟩
theorem msX12_isWorn : ax_g (.selects RX12 yX12_isWorn yX12_isWorn) := ⟨List.mem_of_getElem? (i := 78) (by decide +kernel), by decide +kernel⟩
abbrev mX12_mean : ax_M := (yX12_mean, cX12_mean, 7, (some .int))
theorem mmX12_mean : ax_m mX12_mean 2 := ⟨⟨List.mem_of_getElem? (i := 1421) (by decide +kernel), by decide +kernel⟩, ⟨List.mem_of_getElem? (i := 115) (by decide +kernel), by decide +kernel⟩, by decide +kernel, by decide +kernel, by decide +kernel, by decide⟩
theorem miX12_mean : ax_g (.instanceMethod yX12_mean) := ⟨List.mem_of_getElem? (i := 1420) (by decide +kernel), by decide +kernel⟩
theorem msX12_mean : ax_g (.selects RX12 yX12_mean yX12_mean) := ⟨List.mem_of_getElem? (i := 77) (by decide +kernel), by decide +kernel⟩
abbrev mX12_laysFacts : ax_M := (yX12_laysFacts, cX12_laysFacts, 2, none)
theorem mmX12_laysFacts : ax_m mX12_laysFacts 1 := ⟨⟨List.mem_of_getElem? (i := 1461) (by decide +kernel), by decide +kernel⟩, ⟨List.mem_of_getElem? (i := 115) (by decide +kernel), by decide +kernel⟩, by decide +kernel, by decide +kernel, by decide +kernel, by decide⟩
theorem miX12_laysFacts : ax_g (.instanceMethod yX12_laysFacts) := ⟨List.mem_of_getElem? (i := 1460) (by decide +kernel), by decide +kernel⟩
theorem msX12_laysFacts : ax_g (.selects RX12 yX12_laysFacts yX12_laysFacts) := ⟨List.mem_of_getElem? (i := 84) (by decide +kernel), by decide +kernel⟩
abbrev mX12_clip : ax_M := (yX12_clip, cX12_clip, 3, (some .int))
theorem mmX12_clip : ax_m mX12_clip 3 := ⟨⟨List.mem_of_getElem? (i := 1471) (by decide +kernel), by decide +kernel⟩, ⟨List.mem_of_getElem? (i := 115) (by decide +kernel), by decide +kernel⟩, by decide +kernel, by decide +kernel, by decide +kernel, by decide⟩
theorem mtX12_clip : ax_g (.static yX12_clip) := ⟨List.mem_of_getElem? (i := 1470) (by decide +kernel), by decide +kernel⟩
abbrev mX12_costOf : ax_M := (yX12_costOf, cX12_costOf, 3, (some .int))
theorem mmX12_costOf : ax_m mX12_costOf 2 := ⟨⟨List.mem_of_getElem? (i := 1457) (by decide +kernel), by decide +kernel⟩, ⟨List.mem_of_getElem? (i := 115) (by decide +kernel), by decide +kernel⟩, by decide +kernel, by decide +kernel, by decide +kernel, by decide⟩
theorem miX12_costOf : ax_g (.instanceMethod yX12_costOf) := ⟨List.mem_of_getElem? (i := 1456) (by decide +kernel), by decide +kernel⟩
theorem msX12_costOf : ax_g (.selects RX12 yX12_costOf yX12_costOf) := ⟨List.mem_of_getElem? (i := 83) (by decide +kernel), by decide +kernel⟩
abbrev mX12_shockOf : ax_M := (yX12_shockOf, cX12_shockOf, 3, (some .int))
theorem mmX12_shockOf : ax_m mX12_shockOf 2 := ⟨⟨List.mem_of_getElem? (i := 1488) (by decide +kernel), by decide +kernel⟩, ⟨List.mem_of_getElem? (i := 115) (by decide +kernel), by decide +kernel⟩, by decide +kernel, by decide +kernel, by decide +kernel, by decide⟩
theorem miX12_shockOf : ax_g (.instanceMethod yX12_shockOf) := ⟨List.mem_of_getElem? (i := 1487) (by decide +kernel), by decide +kernel⟩
theorem msX12_shockOf : ax_g (.selects RX12 yX12_shockOf yX12_shockOf) := ⟨List.mem_of_getElem? (i := 87) (by decide +kernel), by decide +kernel⟩
abbrev mX12_mendOf : ax_M := (yX12_mendOf, cX12_mendOf, 4, (some .int))
theorem mmX12_mendOf : ax_m mX12_mendOf 3 := ⟨⟨List.mem_of_getElem? (i := 1512) (by decide +kernel), by decide +kernel⟩, ⟨List.mem_of_getElem? (i := 115) (by decide +kernel), by decide +kernel⟩, by decide +kernel, by decide +kernel, by decide +kernel, by decide⟩
theorem miX12_mendOf : ax_g (.instanceMethod yX12_mendOf) := ⟨List.mem_of_getElem? (i := 1511) (by decide +kernel), by decide +kernel⟩
theorem msX12_mendOf : ax_g (.selects RX12 yX12_mendOf yX12_mendOf) := ⟨List.mem_of_getElem? (i := 91) (by decide +kernel), by decide +kernel⟩
abbrev mX12_findWay : ax_M := (yX12_findWay, cX12_findWay, 3, (some .boolean))
theorem mmX12_findWay : ax_m mX12_findWay 1 := ⟨⟨List.mem_of_getElem? (i := 1453) (by decide +kernel), by decide +kernel⟩, ⟨List.mem_of_getElem? (i := 115) (by decide +kernel), by decide +kernel⟩, by decide +kernel, by decide +kernel, by decide +kernel, by decide⟩
theorem miX12_findWay : ax_g (.instanceMethod yX12_findWay) := ⟨List.mem_of_getElem? (i := 1452) (by decide +kernel), by decide +kernel⟩
theorem msX12_findWay : ax_g (.selects RX12 yX12_findWay yX12_findWay) := ⟨List.mem_of_getElem? (i := 82) (by decide +kernel), by decide +kernel⟩
abbrev mX12_goesOn : ax_M := (yX12_goesOn, cX12_goesOn, 8, none)
theorem mmX12_goesOn : ax_m mX12_goesOn 5 := ⟨⟨List.mem_of_getElem? (i := 1476) (by decide +kernel), by decide +kernel⟩, ⟨List.mem_of_getElem? (i := 115) (by decide +kernel), by decide +kernel⟩, by decide +kernel, by decide +kernel, by decide +kernel, by decide⟩
theorem miX12_goesOn : ax_g (.instanceMethod yX12_goesOn) := ⟨List.mem_of_getElem? (i := 1475) (by decide +kernel), by decide +kernel⟩
theorem msX12_goesOn : ax_g (.selects RX12 yX12_goesOn yX12_goesOn) := ⟨List.mem_of_getElem? (i := 86) (by decide +kernel), by decide +kernel⟩
abbrev mX12_passes : ax_M := (yX12_passes, cX12_passes, 4, none)
theorem mmX12_passes : ax_m mX12_passes 0 := ⟨⟨List.mem_of_getElem? (i := 1499) (by decide +kernel), by decide +kernel⟩, ⟨List.mem_of_getElem? (i := 115) (by decide +kernel), by decide +kernel⟩, by decide +kernel, by decide +kernel, by decide +kernel, by decide⟩
theorem miX12_passes : ax_g (.instanceMethod yX12_passes) := ⟨List.mem_of_getElem? (i := 1498) (by decide +kernel), by decide +kernel⟩
theorem msX12_passes : ax_g (.selects RX12 yX12_passes yX12_passes) := ⟨List.mem_of_getElem? (i := 88) (by decide +kernel), by decide +kernel⟩
abbrev mX12_goesTrade : ax_M := (yX12_goesTrade, cX12_goesTrade, 7, none)
theorem mmX12_goesTrade : ax_m mX12_goesTrade 1 := ⟨⟨List.mem_of_getElem? (i := 1503) (by decide +kernel), by decide +kernel⟩, ⟨List.mem_of_getElem? (i := 115) (by decide +kernel), by decide +kernel⟩, by decide +kernel, by decide +kernel, by decide +kernel, by decide⟩
theorem miX12_goesTrade : ax_g (.instanceMethod yX12_goesTrade) := ⟨List.mem_of_getElem? (i := 1502) (by decide +kernel), by decide +kernel⟩
theorem msX12_goesTrade : ax_g (.selects RX12 yX12_goesTrade yX12_goesTrade) := ⟨List.mem_of_getElem? (i := 89) (by decide +kernel), by decide +kernel⟩
abbrev mX12_mended : ax_M := (yX12_mended, cX12_mended, 5, (some .int))
theorem mmX12_mended : ax_m mX12_mended 1 := ⟨⟨List.mem_of_getElem? (i := 1507) (by decide +kernel), by decide +kernel⟩, ⟨List.mem_of_getElem? (i := 115) (by decide +kernel), by decide +kernel⟩, by decide +kernel, by decide +kernel, by decide +kernel, by decide⟩
theorem miX12_mended : ax_g (.instanceMethod yX12_mended) := ⟨List.mem_of_getElem? (i := 1506) (by decide +kernel), by decide +kernel⟩
theorem msX12_mended : ax_g (.selects RX12 yX12_mended yX12_mended) := ⟨List.mem_of_getElem? (i := 90) (by decide +kernel), by decide +kernel⟩
abbrev mX12_allHoles : ax_M := (yX12_allHoles, cX12_allHoles, 3, (some .int))
theorem mmX12_allHoles : ax_m mX12_allHoles 0 := ⟨⟨List.mem_of_getElem? (i := 1556) (by decide +kernel), by decide +kernel⟩, ⟨List.mem_of_getElem? (i := 115) (by decide +kernel), by decide +kernel⟩, by decide +kernel, by decide +kernel, by decide +kernel, by decide⟩
theorem miX12_allHoles : ax_g (.instanceMethod yX12_allHoles) := ⟨List.mem_of_getElem? (i := 1555) (by decide +kernel), by decide +kernel⟩
theorem msX12_allHoles : ax_g (.selects RX12 yX12_allHoles yX12_allHoles) := ⟨List.mem_of_getElem? (i := 97) (by decide +kernel), by decide +kernel⟩
abbrev mX12_worn : ax_M := (yX12_worn, cX12_worn, 3, (some .int))
theorem mmX12_worn : ax_m mX12_worn 0 := ⟨⟨List.mem_of_getElem? (i := 1596) (by decide +kernel), by decide +kernel⟩, ⟨List.mem_of_getElem? (i := 115) (by decide +kernel), by decide +kernel⟩, by decide +kernel, by decide +kernel, by decide +kernel, by decide⟩
theorem miX12_worn : ax_g (.instanceMethod yX12_worn) := ⟨List.mem_of_getElem? (i := 1595) (by decide +kernel), by decide +kernel⟩
theorem msX12_worn : ax_g (.selects RX12 yX12_worn yX12_worn) := ⟨List.mem_of_getElem? (i := 101) (by decide +kernel), by decide +kernel⟩
abbrev mX12_stuff : ax_M := (yX12_stuff, cX12_stuff, 3, (some .int))
theorem mmX12_stuff : ax_m mX12_stuff 2 := ⟨⟨List.mem_of_getElem? (i := 1394) (by decide +kernel), by decide +kernel⟩, ⟨List.mem_of_getElem? (i := 115) (by decide +kernel), by decide +kernel⟩, by decide +kernel, by decide +kernel, by decide +kernel, by decide⟩
theorem miX12_stuff : ax_g (.instanceMethod yX12_stuff) := ⟨List.mem_of_getElem? (i := 1392) (by decide +kernel), by decide +kernel⟩
theorem msX12_stuff : ax_g (.selects RX12 yX12_stuff yX12_stuff) := ⟨List.mem_of_getElem? (i := 1393) (by decide +kernel), by decide +kernel⟩
abbrev mX12_road : ax_M := (yX12_road, cX12_road, 3, (some .int))
theorem mmX12_road : ax_m mX12_road 2 := ⟨⟨List.mem_of_getElem? (i := 1409) (by decide +kernel), by decide +kernel⟩, ⟨List.mem_of_getElem? (i := 115) (by decide +kernel), by decide +kernel⟩, by decide +kernel, by decide +kernel, by decide +kernel, by decide⟩
theorem miX12_road : ax_g (.instanceMethod yX12_road) := ⟨List.mem_of_getElem? (i := 1407) (by decide +kernel), by decide +kernel⟩
theorem msX12_road : ax_g (.selects RX12 yX12_road yX12_road) := ⟨List.mem_of_getElem? (i := 1408) (by decide +kernel), by decide +kernel⟩
abbrev mX12_surface : ax_M := (yX12_surface, cX12_surface, 3, (some .int))
theorem mmX12_surface : ax_m mX12_surface 2 := ⟨⟨List.mem_of_getElem? (i := 1429) (by decide +kernel), by decide +kernel⟩, ⟨List.mem_of_getElem? (i := 115) (by decide +kernel), by decide +kernel⟩, by decide +kernel, by decide +kernel, by decide +kernel, by decide⟩
theorem miX12_surface : ax_g (.instanceMethod yX12_surface) := ⟨List.mem_of_getElem? (i := 1427) (by decide +kernel), by decide +kernel⟩
theorem msX12_surface : ax_g (.selects RX12 yX12_surface yX12_surface) := ⟨List.mem_of_getElem? (i := 1428) (by decide +kernel), by decide +kernel⟩
abbrev mX12_trade : ax_M := (yX12_trade, cX12_trade, 3, (some .int))
theorem mmX12_trade : ax_m mX12_trade 2 := ⟨⟨List.mem_of_getElem? (i := 1433) (by decide +kernel), by decide +kernel⟩, ⟨List.mem_of_getElem? (i := 115) (by decide +kernel), by decide +kernel⟩, by decide +kernel, by decide +kernel, by decide +kernel, by decide⟩
theorem miX12_trade : ax_g (.instanceMethod yX12_trade) := ⟨List.mem_of_getElem? (i := 1431) (by decide +kernel), by decide +kernel⟩
theorem msX12_trade : ax_g (.selects RX12 yX12_trade yX12_trade) := ⟨List.mem_of_getElem? (i := 1432) (by decide +kernel), by decide +kernel⟩
abbrev mX12_way : ax_M := (yX12_way, cX12_way, 3, (some .int))
theorem mmX12_way : ax_m mX12_way 2 := ⟨⟨List.mem_of_getElem? (i := 1449) (by decide +kernel), by decide +kernel⟩, ⟨List.mem_of_getElem? (i := 115) (by decide +kernel), by decide +kernel⟩, by decide +kernel, by decide +kernel, by decide +kernel, by decide⟩
theorem miX12_way : ax_g (.instanceMethod yX12_way) := ⟨List.mem_of_getElem? (i := 1447) (by decide +kernel), by decide +kernel⟩
theorem msX12_way : ax_g (.selects RX12 yX12_way yX12_way) := ⟨List.mem_of_getElem? (i := 1448) (by decide +kernel), by decide +kernel⟩
abbrev mX12_cost : ax_M := (yX12_cost, cX12_cost, 2, (some .int))
theorem mmX12_cost : ax_m mX12_cost 1 := ⟨⟨List.mem_of_getElem? (i := 1480) (by decide +kernel), by decide +kernel⟩, ⟨List.mem_of_getElem? (i := 115) (by decide +kernel), by decide +kernel⟩, by decide +kernel, by decide +kernel, by decide +kernel, by decide⟩
theorem miX12_cost : ax_g (.instanceMethod yX12_cost) := ⟨List.mem_of_getElem? (i := 1478) (by decide +kernel), by decide +kernel⟩
theorem msX12_cost : ax_g (.selects RX12 yX12_cost yX12_cost) := ⟨List.mem_of_getElem? (i := 1479) (by decide +kernel), by decide +kernel⟩
abbrev mX12_shock : ax_M := (yX12_shock, cX12_shock, 3, (some .int))
theorem mmX12_shock : ax_m mX12_shock 2 := ⟨⟨List.mem_of_getElem? (i := 1484) (by decide +kernel), by decide +kernel⟩, ⟨List.mem_of_getElem? (i := 115) (by decide +kernel), by decide +kernel⟩, by decide +kernel, by decide +kernel, by decide +kernel, by decide⟩
theorem miX12_shock : ax_g (.instanceMethod yX12_shock) := ⟨List.mem_of_getElem? (i := 1482) (by decide +kernel), by decide +kernel⟩
theorem msX12_shock : ax_g (.selects RX12 yX12_shock yX12_shock) := ⟨List.mem_of_getElem? (i := 1483) (by decide +kernel), by decide +kernel⟩
abbrev mX12_years : ax_M := (yX12_years, cX12_years, 3, (some .int))
theorem mmX12_years : ax_m mX12_years 1 := ⟨⟨List.mem_of_getElem? (i := 1492) (by decide +kernel), by decide +kernel⟩, ⟨List.mem_of_getElem? (i := 115) (by decide +kernel), by decide +kernel⟩, by decide +kernel, by decide +kernel, by decide +kernel, by decide⟩
theorem miX12_years : ax_g (.instanceMethod yX12_years) := ⟨List.mem_of_getElem? (i := 1490) (by decide +kernel), by decide +kernel⟩
theorem msX12_years : ax_g (.selects RX12 yX12_years yX12_years) := ⟨List.mem_of_getElem? (i := 1491) (by decide +kernel), by decide +kernel⟩
abbrev mX12_lose : ax_M := (yX12_lose, cX12_lose, 4, (some .boolean))
theorem mmX12_lose : ax_m mX12_lose 3 := ⟨⟨List.mem_of_getElem? (i := 1516) (by decide +kernel), by decide +kernel⟩, ⟨List.mem_of_getElem? (i := 115) (by decide +kernel), by decide +kernel⟩, by decide +kernel, by decide +kernel, by decide +kernel, by decide⟩
theorem miX12_lose : ax_g (.instanceMethod yX12_lose) := ⟨List.mem_of_getElem? (i := 1514) (by decide +kernel), by decide +kernel⟩
theorem msX12_lose : ax_g (.selects RX12 yX12_lose yX12_lose) := ⟨List.mem_of_getElem? (i := 1515) (by decide +kernel), by decide +kernel⟩
abbrev mX12_layer : ax_M := (yX12_layer, cX12_layer, 4, (some .int))
theorem mmX12_layer : ax_m mX12_layer 3 := ⟨⟨List.mem_of_getElem? (i := 1520) (by decide +kernel), by decide +kernel⟩, ⟨List.mem_of_getElem? (i := 115) (by decide +kernel), by decide +kernel⟩, by decide +kernel, by decide +kernel, by decide +kernel, by decide⟩
theorem miX12_layer : ax_g (.instanceMethod yX12_layer) := ⟨List.mem_of_getElem? (i := 1518) (by decide +kernel), by decide +kernel⟩
theorem msX12_layer : ax_g (.selects RX12 yX12_layer yX12_layer) := ⟨List.mem_of_getElem? (i := 1519) (by decide +kernel), by decide +kernel⟩
abbrev mX12_starves : ax_M := (yX12_starves, cX12_starves, 4, (some .int))
theorem mmX12_starves : ax_m mX12_starves 2 := ⟨⟨List.mem_of_getElem? (i := 1524) (by decide +kernel), by decide +kernel⟩, ⟨List.mem_of_getElem? (i := 115) (by decide +kernel), by decide +kernel⟩, by decide +kernel, by decide +kernel, by decide +kernel, by decide⟩
theorem miX12_starves : ax_g (.instanceMethod yX12_starves) := ⟨List.mem_of_getElem? (i := 1522) (by decide +kernel), by decide +kernel⟩
theorem msX12_starves : ax_g (.selects RX12 yX12_starves yX12_starves) := ⟨List.mem_of_getElem? (i := 1523) (by decide +kernel), by decide +kernel⟩
abbrev mX12_holds : ax_M := (yX12_holds, cX12_holds, 7, (some .boolean))
theorem mmX12_holds : ax_m mX12_holds 4 := ⟨⟨List.mem_of_getElem? (i := 1544) (by decide +kernel), by decide +kernel⟩, ⟨List.mem_of_getElem? (i := 115) (by decide +kernel), by decide +kernel⟩, by decide +kernel, by decide +kernel, by decide +kernel, by decide⟩
theorem miX12_holds : ax_g (.instanceMethod yX12_holds) := ⟨List.mem_of_getElem? (i := 1543) (by decide +kernel), by decide +kernel⟩
theorem msX12_holds : ax_g (.selects RX12 yX12_holds yX12_holds) := ⟨List.mem_of_getElem? (i := 95) (by decide +kernel), by decide +kernel⟩
abbrev mX12_purpose : ax_M := (yX12_purpose, cX12_purpose, 5, (some .int))
theorem mmX12_purpose : ax_m mX12_purpose 3 := ⟨⟨List.mem_of_getElem? (i := 1540) (by decide +kernel), by decide +kernel⟩, ⟨List.mem_of_getElem? (i := 115) (by decide +kernel), by decide +kernel⟩, by decide +kernel, by decide +kernel, by decide +kernel, by decide⟩
theorem miX12_purpose : ax_g (.instanceMethod yX12_purpose) := ⟨List.mem_of_getElem? (i := 1538) (by decide +kernel), by decide +kernel⟩
theorem msX12_purpose : ax_g (.selects RX12 yX12_purpose yX12_purpose) := ⟨List.mem_of_getElem? (i := 1539) (by decide +kernel), by decide +kernel⟩
abbrev mX12_holesBehind : ax_M := (yX12_holesBehind, cX12_holesBehind, 3, (some .int))
theorem mmX12_holesBehind : ax_m mX12_holesBehind 1 := ⟨⟨List.mem_of_getElem? (i := 1552) (by decide +kernel), by decide +kernel⟩, ⟨List.mem_of_getElem? (i := 115) (by decide +kernel), by decide +kernel⟩, by decide +kernel, by decide +kernel, by decide +kernel, by decide⟩
theorem miX12_holesBehind : ax_g (.instanceMethod yX12_holesBehind) := ⟨List.mem_of_getElem? (i := 1551) (by decide +kernel), by decide +kernel⟩
theorem msX12_holesBehind : ax_g (.selects RX12 yX12_holesBehind yX12_holesBehind) := ⟨List.mem_of_getElem? (i := 96) (by decide +kernel), by decide +kernel⟩
abbrev mX12_table : ax_M := (yX12_table, cX12_table, 7, (some .int))
theorem mmX12_table : ax_m mX12_table 2 := ⟨⟨List.mem_of_getElem? (i := 1548) (by decide +kernel), by decide +kernel⟩, ⟨List.mem_of_getElem? (i := 115) (by decide +kernel), by decide +kernel⟩, by decide +kernel, by decide +kernel, by decide +kernel, by decide⟩
theorem miX12_table : ax_g (.instanceMethod yX12_table) := ⟨List.mem_of_getElem? (i := 1546) (by decide +kernel), by decide +kernel⟩
theorem msX12_table : ax_g (.selects RX12 yX12_table yX12_table) := ⟨List.mem_of_getElem? (i := 1547) (by decide +kernel), by decide +kernel⟩
abbrev mX12_isPlaceOf : ax_M := (yX12_isPlaceOf, cX12_isPlaceOf, 2, (some .boolean))
theorem mmX12_isPlaceOf : ax_m mX12_isPlaceOf 1 := ⟨⟨List.mem_of_getElem? (i := 1564) (by decide +kernel), by decide +kernel⟩, ⟨List.mem_of_getElem? (i := 115) (by decide +kernel), by decide +kernel⟩, by decide +kernel, by decide +kernel, by decide +kernel, by decide⟩
theorem miX12_isPlaceOf : ax_g (.instanceMethod yX12_isPlaceOf) := ⟨List.mem_of_getElem? (i := 1563) (by decide +kernel), by decide +kernel⟩
theorem msX12_isPlaceOf : ax_g (.selects RX12 yX12_isPlaceOf yX12_isPlaceOf) := ⟨List.mem_of_getElem? (i := 98) (by decide +kernel), by decide +kernel⟩
abbrev mX12_newcomer : ax_M := (yX12_newcomer, cX12_newcomer, 12, (some .int))
theorem mmX12_newcomer : ax_m mX12_newcomer 6 := ⟨⟨List.mem_of_getElem? (i := 1560) (by decide +kernel), by decide +kernel⟩, ⟨List.mem_of_getElem? (i := 115) (by decide +kernel), by decide +kernel⟩, by decide +kernel, by decide +kernel, by decide +kernel, by decide⟩
theorem miX12_newcomer : ax_g (.instanceMethod yX12_newcomer) := ⟨List.mem_of_getElem? (i := 1558) (by decide +kernel), by decide +kernel⟩
theorem msX12_newcomer : ax_g (.selects RX12 yX12_newcomer yX12_newcomer) := ⟨List.mem_of_getElem? (i := 1559) (by decide +kernel), by decide +kernel⟩
abbrev mX12_swept : ax_M := (yX12_swept, cX12_swept, 4, (some .int))
theorem mmX12_swept : ax_m mX12_swept 2 := ⟨⟨List.mem_of_getElem? (i := 1568) (by decide +kernel), by decide +kernel⟩, ⟨List.mem_of_getElem? (i := 115) (by decide +kernel), by decide +kernel⟩, by decide +kernel, by decide +kernel, by decide +kernel, by decide⟩
theorem miX12_swept : ax_g (.instanceMethod yX12_swept) := ⟨List.mem_of_getElem? (i := 1566) (by decide +kernel), by decide +kernel⟩
theorem msX12_swept : ax_g (.selects RX12 yX12_swept yX12_swept) := ⟨List.mem_of_getElem? (i := 1567) (by decide +kernel), by decide +kernel⟩
abbrev mX12_told : ax_M := (yX12_told, cX12_told, 3, (some .boolean))
theorem mmX12_told : ax_m mX12_told 2 := ⟨⟨List.mem_of_getElem? (i := 1572) (by decide +kernel), by decide +kernel⟩, ⟨List.mem_of_getElem? (i := 115) (by decide +kernel), by decide +kernel⟩, by decide +kernel, by decide +kernel, by decide +kernel, by decide⟩
theorem miX12_told : ax_g (.instanceMethod yX12_told) := ⟨List.mem_of_getElem? (i := 1570) (by decide +kernel), by decide +kernel⟩
theorem msX12_told : ax_g (.selects RX12 yX12_told yX12_told) := ⟨List.mem_of_getElem? (i := 1571) (by decide +kernel), by decide +kernel⟩
abbrev mX12_isSo : ax_M := (yX12_isSo, cX12_isSo, 7, (some .boolean))
theorem mmX12_isSo : ax_m mX12_isSo 2 := ⟨⟨List.mem_of_getElem? (i := 1580) (by decide +kernel), by decide +kernel⟩, ⟨List.mem_of_getElem? (i := 115) (by decide +kernel), by decide +kernel⟩, by decide +kernel, by decide +kernel, by decide +kernel, by decide⟩
theorem miX12_isSo : ax_g (.instanceMethod yX12_isSo) := ⟨List.mem_of_getElem? (i := 1579) (by decide +kernel), by decide +kernel⟩
theorem msX12_isSo : ax_g (.selects RX12 yX12_isSo yX12_isSo) := ⟨List.mem_of_getElem? (i := 99) (by decide +kernel), by decide +kernel⟩
abbrev mX12_went : ax_M := (yX12_went, cX12_went, 7, (some .int))
theorem mmX12_went : ax_m mX12_went 2 := ⟨⟨List.mem_of_getElem? (i := 1576) (by decide +kernel), by decide +kernel⟩, ⟨List.mem_of_getElem? (i := 115) (by decide +kernel), by decide +kernel⟩, by decide +kernel, by decide +kernel, by decide +kernel, by decide⟩
theorem miX12_went : ax_g (.instanceMethod yX12_went) := ⟨List.mem_of_getElem? (i := 1574) (by decide +kernel), by decide +kernel⟩
theorem msX12_went : ax_g (.selects RX12 yX12_went yX12_went) := ⟨List.mem_of_getElem? (i := 1575) (by decide +kernel), by decide +kernel⟩
abbrev mX12_draw : ax_M := (yX12_draw, cX12_draw, 2, (some .int))
theorem mmX12_draw : ax_m mX12_draw 1 := ⟨⟨List.mem_of_getElem? (i := 1588) (by decide +kernel), by decide +kernel⟩, ⟨List.mem_of_getElem? (i := 115) (by decide +kernel), by decide +kernel⟩, by decide +kernel, by decide +kernel, by decide +kernel, by decide⟩
theorem miX12_draw : ax_g (.instanceMethod yX12_draw) := ⟨List.mem_of_getElem? (i := 1587) (by decide +kernel), by decide +kernel⟩
theorem msX12_draw : ax_g (.selects RX12 yX12_draw yX12_draw) := ⟨List.mem_of_getElem? (i := 100) (by decide +kernel), by decide +kernel⟩
abbrev mX12_wars : ax_M := (yX12_wars, cX12_wars, 12, (some .int))
theorem mmX12_wars : ax_m mX12_wars 4 := ⟨⟨List.mem_of_getElem? (i := 1584) (by decide +kernel), by decide +kernel⟩, ⟨List.mem_of_getElem? (i := 115) (by decide +kernel), by decide +kernel⟩, by decide +kernel, by decide +kernel, by decide +kernel, by decide⟩
theorem miX12_wars : ax_g (.instanceMethod yX12_wars) := ⟨List.mem_of_getElem? (i := 1582) (by decide +kernel), by decide +kernel⟩
theorem msX12_wars : ax_g (.selects RX12 yX12_wars yX12_wars) := ⟨List.mem_of_getElem? (i := 1583) (by decide +kernel), by decide +kernel⟩
abbrev mX12_mark : ax_M := (yX12_mark, cX12_mark, 3, (some .boolean))
theorem mmX12_mark : ax_m mX12_mark 2 := ⟨⟨List.mem_of_getElem? (i := 1600) (by decide +kernel), by decide +kernel⟩, ⟨List.mem_of_getElem? (i := 115) (by decide +kernel), by decide +kernel⟩, by decide +kernel, by decide +kernel, by decide +kernel, by decide⟩
theorem miX12_mark : ax_g (.instanceMethod yX12_mark) := ⟨List.mem_of_getElem? (i := 1598) (by decide +kernel), by decide +kernel⟩
theorem msX12_mark : ax_g (.selects RX12 yX12_mark yX12_mark) := ⟨List.mem_of_getElem? (i := 1599) (by decide +kernel), by decide +kernel⟩
abbrev mX12_count : ax_M := (yX12_count, cX12_count, 2, (some .int))
theorem mmX12_count : ax_m mX12_count 1 := ⟨⟨List.mem_of_getElem? (i := 1604) (by decide +kernel), by decide +kernel⟩, ⟨List.mem_of_getElem? (i := 115) (by decide +kernel), by decide +kernel⟩, by decide +kernel, by decide +kernel, by decide +kernel, by decide⟩
theorem miX12_count : ax_g (.instanceMethod yX12_count) := ⟨List.mem_of_getElem? (i := 1602) (by decide +kernel), by decide +kernel⟩
theorem msX12_count : ax_g (.selects RX12 yX12_count yX12_count) := ⟨List.mem_of_getElem? (i := 1603) (by decide +kernel), by decide +kernel⟩
abbrev mJx29ce0_ordinal_8abf5 : ax_M := (yJx29ce0_ordinal_8abf5, cJx29ce0_ordinal_8abf5, 1, (some .int))
theorem mmJx29ce0_ordinal_8abf5 : ax_m mJx29ce0_ordinal_8abf5 0 := ⟨⟨List.mem_of_getElem? (i := 595) (by decide +kernel), by decide +kernel⟩, ⟨List.mem_of_getElem? (i := 106) (by decide +kernel), by decide +kernel⟩, by decide +kernel, by decide +kernel, by decide +kernel, by decide⟩
theorem miJx29ce0_ordinal_8abf5 : ax_g (.instanceMethod yJx29ce0_ordinal_8abf5) := ⟨List.mem_of_getElem? (i := 594) (by decide +kernel), by decide +kernel⟩
abbrev mJ7_fill_53178 : ax_M := (yJ7_fill_53178, cJ7_fill_53178, 4, none)
theorem mmJ7_fill_53178 : ax_m mJ7_fill_53178 2 := ⟨⟨List.mem_of_getElem? (i := 583) (by decide +kernel), by decide +kernel⟩, ⟨List.mem_of_getElem? (i := 116) (by decide +kernel), by decide +kernel⟩, by decide +kernel, by decide +kernel, by decide +kernel, by decide⟩
theorem mtJ7_fill_53178 : ax_g (.static yJ7_fill_53178) := ⟨List.mem_of_getElem? (i := 582) (by decide +kernel), by decide +kernel⟩
theorem clL_8 : ax_g (.classLink RL 8 "LostRoads") := ⟨List.mem_of_getElem? (i := 124) (by decide +kernel), by decide +kernel⟩
theorem nwL_8 : ax_N RL 8 9 14 [.null, .null, .null, .null, .null, .null, .null, .null, .null, .null, .null, .null, .null, .long 0] := ⟨_, rfl, rfl, ⟨List.mem_of_getElem? (i := 124) (by decide +kernel), by decide +kernel⟩, ⟨List.mem_of_getElem? (i := 125) (by decide +kernel), by decide +kernel⟩, ⟨List.mem_of_getElem? (i := 103) (by decide +kernel), by decide +kernel⟩, by decide +kernel⟩
theorem lkL_23 : ax_g (.methodLink RL 23 yX11_init) := ⟨List.mem_of_getElem? (i := 126) (by decide +kernel), by decide +kernel⟩
theorem lkX11_1 : ax_g (.methodLink RX11 1 Lib.objectInit) := ⟨List.mem_of_getElem? (i := 129) (by decide +kernel), by decide +kernel⟩
theorem clX11_7 : ax_g (.classLink RX11 7 "LostRoads$Tape") := ⟨List.mem_of_getElem? (i := 132) (by decide +kernel), by decide +kernel⟩
theorem nwX11_7 : ax_N RX11 7 4 2 [.int 0, .null] := ⟨_, rfl, rfl, ⟨List.mem_of_getElem? (i := 132) (by decide +kernel), by decide +kernel⟩, ⟨List.mem_of_getElem? (i := 133) (by decide +kernel), by decide +kernel⟩, ⟨List.mem_of_getElem? (i := 104) (by decide +kernel), by decide +kernel⟩, by decide +kernel⟩
theorem lnX11_9 : (.methodLinkNest RX11 9 yX5_init "LostRoads") ∈ lw_tbl := List.mem_of_getElem? (i := 134) (by decide +kernel)
theorem lkX5_1 : ax_g (.methodLink RX5 1 Lib.objectInit) := ⟨List.mem_of_getElem? (i := 137) (by decide +kernel), by decide +kernel⟩
theorem flX7_33 : ax_F RX7 33 4 0 (.int) false := ⟨_, rfl, by decide, ⟨List.mem_of_getElem? (i := 138) (by decide +kernel), by decide +kernel⟩, by decide +kernel, rfl, rfl⟩
theorem flX11_100 : ax_F RX11 100 4 0 (.int) false := ⟨_, rfl, by decide, ⟨List.mem_of_getElem? (i := 139) (by decide +kernel), by decide +kernel⟩, by decide +kernel, rfl, rfl⟩
theorem flX5_13 : ax_F RX5 13 4 0 (.int) false := ⟨_, rfl, by decide, ⟨List.mem_of_getElem? (i := 140) (by decide +kernel), by decide +kernel⟩, by decide +kernel, rfl, rfl⟩
theorem flX5_9 : ax_F RX5 9 4 1 (.array .byte) true := ⟨_, rfl, by decide, ⟨List.mem_of_getElem? (i := 141) (by decide +kernel), by decide +kernel⟩, by decide +kernel, rfl, rfl⟩
theorem clX11_16 : ax_g (.classLink RX11 16 "LostRoads$Tokens") := ⟨List.mem_of_getElem? (i := 148) (by decide +kernel), by decide +kernel⟩
theorem nwX11_16 : ax_N RX11 16 5 4 [.int 0, .null, .null, .null] := ⟨_, rfl, rfl, ⟨List.mem_of_getElem? (i := 148) (by decide +kernel), by decide +kernel⟩, ⟨List.mem_of_getElem? (i := 149) (by decide +kernel), by decide +kernel⟩, ⟨List.mem_of_getElem? (i := 105) (by decide +kernel), by decide +kernel⟩, by decide +kernel⟩
theorem lkX11_18 : ax_g (.methodLink RX11 18 yX7_init) := ⟨List.mem_of_getElem? (i := 150) (by decide +kernel), by decide +kernel⟩
theorem lkX7_3 : ax_g (.methodLink RX7 3 Lib.objectInit) := ⟨List.mem_of_getElem? (i := 153) (by decide +kernel), by decide +kernel⟩
theorem clX7_11 : ax_g (.classLink RX7 11 "LostRoads$Token") := ⟨List.mem_of_getElem? (i := 154) (by decide +kernel), by decide +kernel⟩
theorem slX7_25 : ax_g (.fieldLink RX7 25 "LostRoads$Token" "END" "LLostRoads$Token;") := ⟨List.mem_of_getElem? (i := 156) (by decide +kernel), by decide +kernel⟩
theorem flX7_29 : ax_F RX7 29 5 0 (.int) false := ⟨_, rfl, by decide, ⟨List.mem_of_getElem? (i := 158) (by decide +kernel), by decide +kernel⟩, by decide +kernel, rfl, rfl⟩
theorem flX2_222 : ax_F RX2 222 5 0 (.int) false := ⟨_, rfl, by decide, ⟨List.mem_of_getElem? (i := 159) (by decide +kernel), by decide +kernel⟩, by decide +kernel, rfl, rfl⟩
theorem flX7_13 : ax_F RX7 13 5 1 (.array (.object "LostRoads$Token")) true := ⟨_, rfl, by decide, ⟨List.mem_of_getElem? (i := 160) (by decide +kernel), by decide +kernel⟩, by decide +kernel, rfl, rfl⟩
theorem flX2_35 : ax_F RX2 35 5 1 (.array (.object "LostRoads$Token")) true := ⟨_, rfl, by decide, ⟨List.mem_of_getElem? (i := 161) (by decide +kernel), by decide +kernel⟩, by decide +kernel, rfl, rfl⟩
theorem flX7_17 : ax_F RX7 17 5 2 (.array .int) true := ⟨_, rfl, by decide, ⟨List.mem_of_getElem? (i := 162) (by decide +kernel), by decide +kernel⟩, by decide +kernel, rfl, rfl⟩
theorem flX2_223 : ax_F RX2 223 5 2 (.array .int) true := ⟨_, rfl, by decide, ⟨List.mem_of_getElem? (i := 163) (by decide +kernel), by decide +kernel⟩, by decide +kernel, rfl, rfl⟩
theorem flX7_21 : ax_F RX7 21 5 3 (.array .long) true := ⟨_, rfl, by decide, ⟨List.mem_of_getElem? (i := 164) (by decide +kernel), by decide +kernel⟩, by decide +kernel, rfl, rfl⟩
theorem flX2_204 : ax_F RX2 204 5 3 (.array .long) true := ⟨_, rfl, by decide, ⟨List.mem_of_getElem? (i := 165) (by decide +kernel), by decide +kernel⟩, by decide +kernel, rfl, rfl⟩
theorem clX11_23 : ax_g (.classLink RX11 23 "LostRoads$Net") := ⟨List.mem_of_getElem? (i := 177) (by decide +kernel), by decide +kernel⟩
theorem nwX11_23 : ax_N RX11 23 0 17 [.int 0, .int 0, .int 0, .null, .null, .null, .null, .null, .null, .null, .null, .null, .null, .null, .null, .int 0, .int 0] := ⟨_, rfl, rfl, ⟨List.mem_of_getElem? (i := 177) (by decide +kernel), by decide +kernel⟩, ⟨List.mem_of_getElem? (i := 178) (by decide +kernel), by decide +kernel⟩, ⟨List.mem_of_getElem? (i := 108) (by decide +kernel), by decide +kernel⟩, by decide +kernel⟩
theorem lnX11_25 : (.methodLinkNest RX11 25 yX1_init "LostRoads") ∈ lw_tbl := List.mem_of_getElem? (i := 179) (by decide +kernel)
theorem lkX1_5 : ax_g (.methodLink RX1 5 Lib.objectInit) := ⟨List.mem_of_getElem? (i := 182) (by decide +kernel), by decide +kernel⟩
theorem clX1_39 : ax_g (.classLink RX1 39 "LostRoads$Trades") := ⟨List.mem_of_getElem? (i := 183) (by decide +kernel), by decide +kernel⟩
theorem nwX1_39 : ax_N RX1 39 6 5 [.int 0, .null, .null, .null, .null] := ⟨_, rfl, rfl, ⟨List.mem_of_getElem? (i := 183) (by decide +kernel), by decide +kernel⟩, ⟨List.mem_of_getElem? (i := 184) (by decide +kernel), by decide +kernel⟩, ⟨List.mem_of_getElem? (i := 109) (by decide +kernel), by decide +kernel⟩, by decide +kernel⟩
theorem lnX1_41 : (.methodLinkNest RX1 41 yX8_init "LostRoads") ∈ lw_tbl := List.mem_of_getElem? (i := 185) (by decide +kernel)
theorem lkX8_3 : ax_g (.methodLink RX8 3 Lib.objectInit) := ⟨List.mem_of_getElem? (i := 188) (by decide +kernel), by decide +kernel⟩
theorem flX8_24 : ax_F RX8 24 6 0 (.int) false := ⟨_, rfl, by decide, ⟨List.mem_of_getElem? (i := 189) (by decide +kernel), by decide +kernel⟩, by decide +kernel, rfl, rfl⟩
theorem flX1_65 : ax_F RX1 65 6 0 (.int) false := ⟨_, rfl, by decide, ⟨List.mem_of_getElem? (i := 190) (by decide +kernel), by decide +kernel⟩, by decide +kernel, rfl, rfl⟩
theorem flX10_46 : ax_F RX10 46 6 0 (.int) false := ⟨_, rfl, by decide, ⟨List.mem_of_getElem? (i := 191) (by decide +kernel), by decide +kernel⟩, by decide +kernel, rfl, rfl⟩
theorem flX2_141 : ax_F RX2 141 6 0 (.int) false := ⟨_, rfl, by decide, ⟨List.mem_of_getElem? (i := 192) (by decide +kernel), by decide +kernel⟩, by decide +kernel, rfl, rfl⟩
theorem flX11_251 : ax_F RX11 251 6 0 (.int) false := ⟨_, rfl, by decide, ⟨List.mem_of_getElem? (i := 193) (by decide +kernel), by decide +kernel⟩, by decide +kernel, rfl, rfl⟩
theorem flX8_9 : ax_F RX8 9 6 1 (.array .int) true := ⟨_, rfl, by decide, ⟨List.mem_of_getElem? (i := 194) (by decide +kernel), by decide +kernel⟩, by decide +kernel, rfl, rfl⟩
theorem flX10_66 : ax_F RX10 66 6 1 (.array .int) true := ⟨_, rfl, by decide, ⟨List.mem_of_getElem? (i := 195) (by decide +kernel), by decide +kernel⟩, by decide +kernel, rfl, rfl⟩
theorem flX11_167 : ax_F RX11 167 6 1 (.array .int) true := ⟨_, rfl, by decide, ⟨List.mem_of_getElem? (i := 196) (by decide +kernel), by decide +kernel⟩, by decide +kernel, rfl, rfl⟩
theorem flX8_15 : ax_F RX8 15 6 2 (.array .int) true := ⟨_, rfl, by decide, ⟨List.mem_of_getElem? (i := 197) (by decide +kernel), by decide +kernel⟩, by decide +kernel, rfl, rfl⟩
theorem flX10_69 : ax_F RX10 69 6 2 (.array .int) true := ⟨_, rfl, by decide, ⟨List.mem_of_getElem? (i := 198) (by decide +kernel), by decide +kernel⟩, by decide +kernel, rfl, rfl⟩
theorem flX11_170 : ax_F RX11 170 6 2 (.array .int) true := ⟨_, rfl, by decide, ⟨List.mem_of_getElem? (i := 199) (by decide +kernel), by decide +kernel⟩, by decide +kernel, rfl, rfl⟩
theorem flX8_18 : ax_F RX8 18 6 3 (.array .int) true := ⟨_, rfl, by decide, ⟨List.mem_of_getElem? (i := 200) (by decide +kernel), by decide +kernel⟩, by decide +kernel, rfl, rfl⟩
theorem flX10_101 : ax_F RX10 101 6 3 (.array .int) true := ⟨_, rfl, by decide, ⟨List.mem_of_getElem? (i := 201) (by decide +kernel), by decide +kernel⟩, by decide +kernel, rfl, rfl⟩
theorem flX11_173 : ax_F RX11 173 6 3 (.array .int) true := ⟨_, rfl, by decide, ⟨List.mem_of_getElem? (i := 202) (by decide +kernel), by decide +kernel⟩, by decide +kernel, rfl, rfl⟩
theorem flX8_21 : ax_F RX8 21 6 4 (.array .int) true := ⟨_, rfl, by decide, ⟨List.mem_of_getElem? (i := 203) (by decide +kernel), by decide +kernel⟩, by decide +kernel, rfl, rfl⟩
theorem flX10_57 : ax_F RX10 57 6 4 (.array .int) true := ⟨_, rfl, by decide, ⟨List.mem_of_getElem? (i := 204) (by decide +kernel), by decide +kernel⟩, by decide +kernel, rfl, rfl⟩
theorem flX11_176 : ax_F RX11 176 6 4 (.array .int) true := ⟨_, rfl, by decide, ⟨List.mem_of_getElem? (i := 205) (by decide +kernel), by decide +kernel⟩, by decide +kernel, rfl, rfl⟩
theorem flX1_55 : ax_F RX1 55 0 0 (.int) false := ⟨_, rfl, by decide, ⟨List.mem_of_getElem? (i := 217) (by decide +kernel), by decide +kernel⟩, by decide +kernel, rfl, rfl⟩
theorem flX2_81 : ax_F RX2 81 0 0 (.int) false := ⟨_, rfl, by decide, ⟨List.mem_of_getElem? (i := 218) (by decide +kernel), by decide +kernel⟩, by decide +kernel, rfl, rfl⟩
theorem flX10_121 : ax_F RX10 121 0 0 (.int) false := ⟨_, rfl, by decide, ⟨List.mem_of_getElem? (i := 219) (by decide +kernel), by decide +kernel⟩, by decide +kernel, rfl, rfl⟩
theorem flX11_242 : ax_F RX11 242 0 0 (.int) false := ⟨_, rfl, by decide, ⟨List.mem_of_getElem? (i := 220) (by decide +kernel), by decide +kernel⟩, by decide +kernel, rfl, rfl⟩
theorem flX1_59 : ax_F RX1 59 0 1 (.int) false := ⟨_, rfl, by decide, ⟨List.mem_of_getElem? (i := 221) (by decide +kernel), by decide +kernel⟩, by decide +kernel, rfl, rfl⟩
theorem flX2_113 : ax_F RX2 113 0 1 (.int) false := ⟨_, rfl, by decide, ⟨List.mem_of_getElem? (i := 222) (by decide +kernel), by decide +kernel⟩, by decide +kernel, rfl, rfl⟩
theorem flX11_295 : ax_F RX11 295 0 1 (.int) false := ⟨_, rfl, by decide, ⟨List.mem_of_getElem? (i := 223) (by decide +kernel), by decide +kernel⟩, by decide +kernel, rfl, rfl⟩
theorem flX4_34 : ax_F RX4 34 0 2 (.int) false := ⟨_, rfl, by decide, ⟨List.mem_of_getElem? (i := 224) (by decide +kernel), by decide +kernel⟩, by decide +kernel, rfl, rfl⟩
theorem flX9_29 : ax_F RX9 29 0 2 (.int) false := ⟨_, rfl, by decide, ⟨List.mem_of_getElem? (i := 225) (by decide +kernel), by decide +kernel⟩, by decide +kernel, rfl, rfl⟩
theorem flX1_62 : ax_F RX1 62 0 2 (.int) false := ⟨_, rfl, by decide, ⟨List.mem_of_getElem? (i := 226) (by decide +kernel), by decide +kernel⟩, by decide +kernel, rfl, rfl⟩
theorem flX10_85 : ax_F RX10 85 0 2 (.int) false := ⟨_, rfl, by decide, ⟨List.mem_of_getElem? (i := 227) (by decide +kernel), by decide +kernel⟩, by decide +kernel, rfl, rfl⟩
theorem flX2_120 : ax_F RX2 120 0 2 (.int) false := ⟨_, rfl, by decide, ⟨List.mem_of_getElem? (i := 228) (by decide +kernel), by decide +kernel⟩, by decide +kernel, rfl, rfl⟩
theorem flX11_279 : ax_F RX11 279 0 2 (.int) false := ⟨_, rfl, by decide, ⟨List.mem_of_getElem? (i := 229) (by decide +kernel), by decide +kernel⟩, by decide +kernel, rfl, rfl⟩
theorem flX1_11 : ax_F RX1 11 0 3 (.array .long) true := ⟨_, rfl, by decide, ⟨List.mem_of_getElem? (i := 230) (by decide +kernel), by decide +kernel⟩, by decide +kernel, rfl, rfl⟩
theorem flX1_17 : ax_F RX1 17 0 4 (.array .long) true := ⟨_, rfl, by decide, ⟨List.mem_of_getElem? (i := 231) (by decide +kernel), by decide +kernel⟩, by decide +kernel, rfl, rfl⟩
theorem flX1_20 : ax_F RX1 20 0 5 (.array .int) true := ⟨_, rfl, by decide, ⟨List.mem_of_getElem? (i := 232) (by decide +kernel), by decide +kernel⟩, by decide +kernel, rfl, rfl⟩
theorem flX4_43 : ax_F RX4 43 0 5 (.array .int) true := ⟨_, rfl, by decide, ⟨List.mem_of_getElem? (i := 233) (by decide +kernel), by decide +kernel⟩, by decide +kernel, rfl, rfl⟩
theorem flX11_122 : ax_F RX11 122 0 5 (.array .int) true := ⟨_, rfl, by decide, ⟨List.mem_of_getElem? (i := 234) (by decide +kernel), by decide +kernel⟩, by decide +kernel, rfl, rfl⟩
theorem flX1_24 : ax_F RX1 24 0 6 (.array .int) true := ⟨_, rfl, by decide, ⟨List.mem_of_getElem? (i := 235) (by decide +kernel), by decide +kernel⟩, by decide +kernel, rfl, rfl⟩
theorem flX4_48 : ax_F RX4 48 0 6 (.array .int) true := ⟨_, rfl, by decide, ⟨List.mem_of_getElem? (i := 236) (by decide +kernel), by decide +kernel⟩, by decide +kernel, rfl, rfl⟩
theorem flX11_126 : ax_F RX11 126 0 6 (.array .int) true := ⟨_, rfl, by decide, ⟨List.mem_of_getElem? (i := 237) (by decide +kernel), by decide +kernel⟩, by decide +kernel, rfl, rfl⟩
theorem flX1_27 : ax_F RX1 27 0 7 (.array .int) true := ⟨_, rfl, by decide, ⟨List.mem_of_getElem? (i := 238) (by decide +kernel), by decide +kernel⟩, by decide +kernel, rfl, rfl⟩
theorem flX9_69 : ax_F RX9 69 0 7 (.array .int) true := ⟨_, rfl, by decide, ⟨List.mem_of_getElem? (i := 239) (by decide +kernel), by decide +kernel⟩, by decide +kernel, rfl, rfl⟩
theorem flX11_135 : ax_F RX11 135 0 7 (.array .int) true := ⟨_, rfl, by decide, ⟨List.mem_of_getElem? (i := 240) (by decide +kernel), by decide +kernel⟩, by decide +kernel, rfl, rfl⟩
theorem flX1_30 : ax_F RX1 30 0 8 (.array .int) true := ⟨_, rfl, by decide, ⟨List.mem_of_getElem? (i := 241) (by decide +kernel), by decide +kernel⟩, by decide +kernel, rfl, rfl⟩
theorem flX9_72 : ax_F RX9 72 0 8 (.array .int) true := ⟨_, rfl, by decide, ⟨List.mem_of_getElem? (i := 242) (by decide +kernel), by decide +kernel⟩, by decide +kernel, rfl, rfl⟩
theorem flX11_138 : ax_F RX11 138 0 8 (.array .int) true := ⟨_, rfl, by decide, ⟨List.mem_of_getElem? (i := 243) (by decide +kernel), by decide +kernel⟩, by decide +kernel, rfl, rfl⟩
theorem flX1_33 : ax_F RX1 33 0 9 (.array .int) true := ⟨_, rfl, by decide, ⟨List.mem_of_getElem? (i := 244) (by decide +kernel), by decide +kernel⟩, by decide +kernel, rfl, rfl⟩
theorem flX11_141 : ax_F RX11 141 0 9 (.array .int) true := ⟨_, rfl, by decide, ⟨List.mem_of_getElem? (i := 245) (by decide +kernel), by decide +kernel⟩, by decide +kernel, rfl, rfl⟩
theorem flX4_71 : ax_F RX4 71 0 9 (.array .int) true := ⟨_, rfl, by decide, ⟨List.mem_of_getElem? (i := 246) (by decide +kernel), by decide +kernel⟩, by decide +kernel, rfl, rfl⟩
theorem flX1_36 : ax_F RX1 36 0 10 (.array .int) true := ⟨_, rfl, by decide, ⟨List.mem_of_getElem? (i := 247) (by decide +kernel), by decide +kernel⟩, by decide +kernel, rfl, rfl⟩
theorem flX3_43 : ax_F RX3 43 0 10 (.array .int) true := ⟨_, rfl, by decide, ⟨List.mem_of_getElem? (i := 248) (by decide +kernel), by decide +kernel⟩, by decide +kernel, rfl, rfl⟩
theorem flX1_42 : ax_F RX1 42 0 11 (.object "LostRoads$Trades") true := ⟨_, rfl, by decide, ⟨List.mem_of_getElem? (i := 249) (by decide +kernel), by decide +kernel⟩, by decide +kernel, rfl, rfl⟩
theorem flX2_137 : ax_F RX2 137 0 11 (.object "LostRoads$Trades") true := ⟨_, rfl, by decide, ⟨List.mem_of_getElem? (i := 250) (by decide +kernel), by decide +kernel⟩, by decide +kernel, rfl, rfl⟩
theorem flX11_164 : ax_F RX11 164 0 11 (.object "LostRoads$Trades") true := ⟨_, rfl, by decide, ⟨List.mem_of_getElem? (i := 251) (by decide +kernel), by decide +kernel⟩, by decide +kernel, rfl, rfl⟩
theorem flX1_46 : ax_F RX1 46 0 12 (.array .int) true := ⟨_, rfl, by decide, ⟨List.mem_of_getElem? (i := 252) (by decide +kernel), by decide +kernel⟩, by decide +kernel, rfl, rfl⟩
theorem flX4_80 : ax_F RX4 80 0 12 (.array .int) true := ⟨_, rfl, by decide, ⟨List.mem_of_getElem? (i := 253) (by decide +kernel), by decide +kernel⟩, by decide +kernel, rfl, rfl⟩
theorem flX1_49 : ax_F RX1 49 0 13 (.array .int) true := ⟨_, rfl, by decide, ⟨List.mem_of_getElem? (i := 254) (by decide +kernel), by decide +kernel⟩, by decide +kernel, rfl, rfl⟩
theorem flX4_74 : ax_F RX4 74 0 13 (.array .int) true := ⟨_, rfl, by decide, ⟨List.mem_of_getElem? (i := 255) (by decide +kernel), by decide +kernel⟩, by decide +kernel, rfl, rfl⟩
theorem flX2_165 : ax_F RX2 165 0 13 (.array .int) true := ⟨_, rfl, by decide, ⟨List.mem_of_getElem? (i := 256) (by decide +kernel), by decide +kernel⟩, by decide +kernel, rfl, rfl⟩
theorem flX1_52 : ax_F RX1 52 0 14 (.array .int) true := ⟨_, rfl, by decide, ⟨List.mem_of_getElem? (i := 257) (by decide +kernel), by decide +kernel⟩, by decide +kernel, rfl, rfl⟩
theorem flX4_77 : ax_F RX4 77 0 14 (.array .int) true := ⟨_, rfl, by decide, ⟨List.mem_of_getElem? (i := 258) (by decide +kernel), by decide +kernel⟩, by decide +kernel, rfl, rfl⟩
theorem flX2_175 : ax_F RX2 175 0 14 (.array .int) true := ⟨_, rfl, by decide, ⟨List.mem_of_getElem? (i := 259) (by decide +kernel), by decide +kernel⟩, by decide +kernel, rfl, rfl⟩
theorem flX1_74 : ax_F RX1 74 0 15 (.int) false := ⟨_, rfl, by decide, ⟨List.mem_of_getElem? (i := 260) (by decide +kernel), by decide +kernel⟩, by decide +kernel, rfl, rfl⟩
theorem flX2_168 : ax_F RX2 168 0 15 (.int) false := ⟨_, rfl, by decide, ⟨List.mem_of_getElem? (i := 261) (by decide +kernel), by decide +kernel⟩, by decide +kernel, rfl, rfl⟩
theorem flX1_77 : ax_F RX1 77 0 16 (.boolean) false := ⟨_, rfl, by decide, ⟨List.mem_of_getElem? (i := 262) (by decide +kernel), by decide +kernel⟩, by decide +kernel, rfl, rfl⟩
theorem flX10_51 : ax_F RX10 51 0 16 (.boolean) false := ⟨_, rfl, by decide, ⟨List.mem_of_getElem? (i := 263) (by decide +kernel), by decide +kernel⟩, by decide +kernel, rfl, rfl⟩
theorem clX11_30 : ax_g (.classLink RX11 30 "LostRoads$Reader") := ⟨List.mem_of_getElem? (i := 299) (by decide +kernel), by decide +kernel⟩
theorem nwX11_30 : ax_N RX11 30 1 6 [.null, .null, .null, .int 0, .int 0, .int 0] := ⟨_, rfl, rfl, ⟨List.mem_of_getElem? (i := 299) (by decide +kernel), by decide +kernel⟩, ⟨List.mem_of_getElem? (i := 300) (by decide +kernel), by decide +kernel⟩, ⟨List.mem_of_getElem? (i := 110) (by decide +kernel), by decide +kernel⟩, by decide +kernel⟩
theorem lkX11_32 : ax_g (.methodLink RX11 32 yX2_init) := ⟨List.mem_of_getElem? (i := 301) (by decide +kernel), by decide +kernel⟩
theorem lkX2_3 : ax_g (.methodLink RX2 3 Lib.objectInit) := ⟨List.mem_of_getElem? (i := 304) (by decide +kernel), by decide +kernel⟩
theorem slX2_9 : ax_g (.fieldLink RX2 9 "LostRoads$Token" "END" "LLostRoads$Token;") := ⟨List.mem_of_getElem? (i := 305) (by decide +kernel), by decide +kernel⟩
theorem flX2_20 : ax_F RX2 20 1 0 (.object "LostRoads$Tokens") true := ⟨_, rfl, by decide, ⟨List.mem_of_getElem? (i := 306) (by decide +kernel), by decide +kernel⟩, by decide +kernel, rfl, rfl⟩
theorem flX2_24 : ax_F RX2 24 1 1 (.object "LostRoads$Net") true := ⟨_, rfl, by decide, ⟨List.mem_of_getElem? (i := 307) (by decide +kernel), by decide +kernel⟩, by decide +kernel, rfl, rfl⟩
theorem flX2_15 : ax_F RX2 15 1 2 (.object "LostRoads$Token") false := ⟨_, rfl, by decide, ⟨List.mem_of_getElem? (i := 308) (by decide +kernel), by decide +kernel⟩, by decide +kernel, rfl, rfl⟩
theorem flX2_32 : ax_F RX2 32 1 3 (.int) false := ⟨_, rfl, by decide, ⟨List.mem_of_getElem? (i := 309) (by decide +kernel), by decide +kernel⟩, by decide +kernel, rfl, rfl⟩
theorem flX2_162 : ax_F RX2 162 1 4 (.int) false := ⟨_, rfl, by decide, ⟨List.mem_of_getElem? (i := 310) (by decide +kernel), by decide +kernel⟩, by decide +kernel, rfl, rfl⟩
theorem flX2_28 : ax_F RX2 28 1 5 (.int) false := ⟨_, rfl, by decide, ⟨List.mem_of_getElem? (i := 311) (by decide +kernel), by decide +kernel⟩, by decide +kernel, rfl, rfl⟩
theorem clX11_42 : ax_g (.classLink RX11 42 "LostRoads$State") := ⟨List.mem_of_getElem? (i := 325) (by decide +kernel), by decide +kernel⟩
theorem nwX11_42 : ax_N RX11 42 2 10 [.int 0, .null, .null, .null, .null, .null, .null, .null, .null, .int 0] := ⟨_, rfl, rfl, ⟨List.mem_of_getElem? (i := 325) (by decide +kernel), by decide +kernel⟩, ⟨List.mem_of_getElem? (i := 326) (by decide +kernel), by decide +kernel⟩, ⟨List.mem_of_getElem? (i := 111) (by decide +kernel), by decide +kernel⟩, by decide +kernel⟩
theorem lkX11_44 : ax_g (.methodLink RX11 44 yX3_init) := ⟨List.mem_of_getElem? (i := 327) (by decide +kernel), by decide +kernel⟩
theorem lkX3_3 : ax_g (.methodLink RX3 3 Lib.objectInit) := ⟨List.mem_of_getElem? (i := 330) (by decide +kernel), by decide +kernel⟩
theorem flX3_40 : ax_F RX3 40 2 0 (.int) false := ⟨_, rfl, by decide, ⟨List.mem_of_getElem? (i := 331) (by decide +kernel), by decide +kernel⟩, by decide +kernel, rfl, rfl⟩
theorem flX10_98 : ax_F RX10 98 2 0 (.int) false := ⟨_, rfl, by decide, ⟨List.mem_of_getElem? (i := 332) (by decide +kernel), by decide +kernel⟩, by decide +kernel, rfl, rfl⟩
theorem flX11_220 : ax_F RX11 220 2 0 (.int) false := ⟨_, rfl, by decide, ⟨List.mem_of_getElem? (i := 333) (by decide +kernel), by decide +kernel⟩, by decide +kernel, rfl, rfl⟩
theorem flX3_9 : ax_F RX3 9 2 1 (.array .int) true := ⟨_, rfl, by decide, ⟨List.mem_of_getElem? (i := 334) (by decide +kernel), by decide +kernel⟩, by decide +kernel, rfl, rfl⟩
theorem flX4_40 : ax_F RX4 40 2 1 (.array .int) true := ⟨_, rfl, by decide, ⟨List.mem_of_getElem? (i := 335) (by decide +kernel), by decide +kernel⟩, by decide +kernel, rfl, rfl⟩
theorem flX11_144 : ax_F RX11 144 2 1 (.array .int) true := ⟨_, rfl, by decide, ⟨List.mem_of_getElem? (i := 336) (by decide +kernel), by decide +kernel⟩, by decide +kernel, rfl, rfl⟩
theorem flX10_127 : ax_F RX10 127 2 1 (.array .int) true := ⟨_, rfl, by decide, ⟨List.mem_of_getElem? (i := 337) (by decide +kernel), by decide +kernel⟩, by decide +kernel, rfl, rfl⟩
theorem flX3_15 : ax_F RX3 15 2 2 (.array .int) true := ⟨_, rfl, by decide, ⟨List.mem_of_getElem? (i := 338) (by decide +kernel), by decide +kernel⟩, by decide +kernel, rfl, rfl⟩
theorem flX11_154 : ax_F RX11 154 2 2 (.array .int) true := ⟨_, rfl, by decide, ⟨List.mem_of_getElem? (i := 339) (by decide +kernel), by decide +kernel⟩, by decide +kernel, rfl, rfl⟩
theorem flX10_143 : ax_F RX10 143 2 2 (.array .int) true := ⟨_, rfl, by decide, ⟨List.mem_of_getElem? (i := 340) (by decide +kernel), by decide +kernel⟩, by decide +kernel, rfl, rfl⟩
theorem flX3_18 : ax_F RX3 18 2 3 (.array .int) true := ⟨_, rfl, by decide, ⟨List.mem_of_getElem? (i := 341) (by decide +kernel), by decide +kernel⟩, by decide +kernel, rfl, rfl⟩
theorem flX10_124 : ax_F RX10 124 2 3 (.array .int) true := ⟨_, rfl, by decide, ⟨List.mem_of_getElem? (i := 342) (by decide +kernel), by decide +kernel⟩, by decide +kernel, rfl, rfl⟩
theorem flX11_223 : ax_F RX11 223 2 3 (.array .int) true := ⟨_, rfl, by decide, ⟨List.mem_of_getElem? (i := 343) (by decide +kernel), by decide +kernel⟩, by decide +kernel, rfl, rfl⟩
theorem flX3_21 : ax_F RX3 21 2 4 (.array .int) true := ⟨_, rfl, by decide, ⟨List.mem_of_getElem? (i := 344) (by decide +kernel), by decide +kernel⟩, by decide +kernel, rfl, rfl⟩
theorem flX10_115 : ax_F RX10 115 2 4 (.array .int) true := ⟨_, rfl, by decide, ⟨List.mem_of_getElem? (i := 345) (by decide +kernel), by decide +kernel⟩, by decide +kernel, rfl, rfl⟩
theorem flX11_129 : ax_F RX11 129 2 4 (.array .int) true := ⟨_, rfl, by decide, ⟨List.mem_of_getElem? (i := 346) (by decide +kernel), by decide +kernel⟩, by decide +kernel, rfl, rfl⟩
theorem flX3_24 : ax_F RX3 24 2 5 (.array .int) true := ⟨_, rfl, by decide, ⟨List.mem_of_getElem? (i := 347) (by decide +kernel), by decide +kernel⟩, by decide +kernel, rfl, rfl⟩
theorem flX10_80 : ax_F RX10 80 2 5 (.array .int) true := ⟨_, rfl, by decide, ⟨List.mem_of_getElem? (i := 348) (by decide +kernel), by decide +kernel⟩, by decide +kernel, rfl, rfl⟩
theorem flX11_179 : ax_F RX11 179 2 5 (.array .int) true := ⟨_, rfl, by decide, ⟨List.mem_of_getElem? (i := 349) (by decide +kernel), by decide +kernel⟩, by decide +kernel, rfl, rfl⟩
theorem flX3_27 : ax_F RX3 27 2 6 (.array .int) true := ⟨_, rfl, by decide, ⟨List.mem_of_getElem? (i := 350) (by decide +kernel), by decide +kernel⟩, by decide +kernel, rfl, rfl⟩
theorem flX10_118 : ax_F RX10 118 2 6 (.array .int) true := ⟨_, rfl, by decide, ⟨List.mem_of_getElem? (i := 351) (by decide +kernel), by decide +kernel⟩, by decide +kernel, rfl, rfl⟩
theorem flX11_182 : ax_F RX11 182 2 6 (.array .int) true := ⟨_, rfl, by decide, ⟨List.mem_of_getElem? (i := 352) (by decide +kernel), by decide +kernel⟩, by decide +kernel, rfl, rfl⟩
theorem flX3_30 : ax_F RX3 30 2 7 (.array .int) true := ⟨_, rfl, by decide, ⟨List.mem_of_getElem? (i := 353) (by decide +kernel), by decide +kernel⟩, by decide +kernel, rfl, rfl⟩
theorem flX11_272 : ax_F RX11 272 2 7 (.array .int) true := ⟨_, rfl, by decide, ⟨List.mem_of_getElem? (i := 354) (by decide +kernel), by decide +kernel⟩, by decide +kernel, rfl, rfl⟩
theorem flX3_37 : ax_F RX3 37 2 8 (.array .int) true := ⟨_, rfl, by decide, ⟨List.mem_of_getElem? (i := 355) (by decide +kernel), by decide +kernel⟩, by decide +kernel, rfl, rfl⟩
theorem flX11_229 : ax_F RX11 229 2 8 (.array .int) true := ⟨_, rfl, by decide, ⟨List.mem_of_getElem? (i := 356) (by decide +kernel), by decide +kernel⟩, by decide +kernel, rfl, rfl⟩
theorem flX3_33 : ax_F RX3 33 2 9 (.int) true := ⟨_, rfl, by decide, ⟨List.mem_of_getElem? (i := 357) (by decide +kernel), by decide +kernel⟩, by decide +kernel, rfl, rfl⟩
theorem clX11_54 : ax_g (.classLink RX11 54 "LostRoads$Trades") := ⟨List.mem_of_getElem? (i := 379) (by decide +kernel), by decide +kernel⟩
theorem nwX11_54 : ax_N RX11 54 6 5 [.int 0, .null, .null, .null, .null] := ⟨_, rfl, rfl, ⟨List.mem_of_getElem? (i := 379) (by decide +kernel), by decide +kernel⟩, ⟨List.mem_of_getElem? (i := 184) (by decide +kernel), by decide +kernel⟩, ⟨List.mem_of_getElem? (i := 109) (by decide +kernel), by decide +kernel⟩, by decide +kernel⟩
theorem lnX11_56 : (.methodLinkNest RX11 56 yX8_init "LostRoads") ∈ lw_tbl := List.mem_of_getElem? (i := 380) (by decide +kernel)
theorem clX11_69 : ax_g (.classLink RX11 69 "LostRoads$Survey") := ⟨List.mem_of_getElem? (i := 382) (by decide +kernel), by decide +kernel⟩
theorem nwX11_69 : ax_N RX11 69 3 7 [.null, .null, .null, .null, .null, .null, .null] := ⟨_, rfl, rfl, ⟨List.mem_of_getElem? (i := 382) (by decide +kernel), by decide +kernel⟩, ⟨List.mem_of_getElem? (i := 383) (by decide +kernel), by decide +kernel⟩, ⟨List.mem_of_getElem? (i := 112) (by decide +kernel), by decide +kernel⟩, by decide +kernel⟩
theorem lkX11_71 : ax_g (.methodLink RX11 71 yX4_init) := ⟨List.mem_of_getElem? (i := 384) (by decide +kernel), by decide +kernel⟩
theorem lkX4_3 : ax_g (.methodLink RX4 3 Lib.objectInit) := ⟨List.mem_of_getElem? (i := 387) (by decide +kernel), by decide +kernel⟩
theorem flX4_30 : ax_F RX4 30 3 0 (.object "LostRoads$Net") true := ⟨_, rfl, by decide, ⟨List.mem_of_getElem? (i := 388) (by decide +kernel), by decide +kernel⟩, by decide +kernel, rfl, rfl⟩
theorem flX4_9 : ax_F RX4 9 3 1 (.array .int) true := ⟨_, rfl, by decide, ⟨List.mem_of_getElem? (i := 389) (by decide +kernel), by decide +kernel⟩, by decide +kernel, rfl, rfl⟩
theorem flX4_15 : ax_F RX4 15 3 2 (.array .int) true := ⟨_, rfl, by decide, ⟨List.mem_of_getElem? (i := 390) (by decide +kernel), by decide +kernel⟩, by decide +kernel, rfl, rfl⟩
theorem flX4_18 : ax_F RX4 18 3 3 (.array .int) true := ⟨_, rfl, by decide, ⟨List.mem_of_getElem? (i := 391) (by decide +kernel), by decide +kernel⟩, by decide +kernel, rfl, rfl⟩
theorem flX4_21 : ax_F RX4 21 3 4 (.array .int) true := ⟨_, rfl, by decide, ⟨List.mem_of_getElem? (i := 392) (by decide +kernel), by decide +kernel⟩, by decide +kernel, rfl, rfl⟩
theorem flX4_24 : ax_F RX4 24 3 5 (.array .int) true := ⟨_, rfl, by decide, ⟨List.mem_of_getElem? (i := 393) (by decide +kernel), by decide +kernel⟩, by decide +kernel, rfl, rfl⟩
theorem flX4_27 : ax_F RX4 27 3 6 (.array .int) true := ⟨_, rfl, by decide, ⟨List.mem_of_getElem? (i := 394) (by decide +kernel), by decide +kernel⟩, by decide +kernel, rfl, rfl⟩
theorem clX11_78 : ax_g (.classLink RX11 78 "LostRoads$WayFinder") := ⟨List.mem_of_getElem? (i := 411) (by decide +kernel), by decide +kernel⟩
theorem nwX11_78 : ax_N RX11 78 7 7 [.int 0, .int 0, .null, .null, .null, .null, .null] := ⟨_, rfl, rfl, ⟨List.mem_of_getElem? (i := 411) (by decide +kernel), by decide +kernel⟩, ⟨List.mem_of_getElem? (i := 412) (by decide +kernel), by decide +kernel⟩, ⟨List.mem_of_getElem? (i := 113) (by decide +kernel), by decide +kernel⟩, by decide +kernel⟩
theorem lkX11_80 : ax_g (.methodLink RX11 80 yX9_init) := ⟨List.mem_of_getElem? (i := 413) (by decide +kernel), by decide +kernel⟩
theorem lkX9_3 : ax_g (.methodLink RX9 3 Lib.objectInit) := ⟨List.mem_of_getElem? (i := 416) (by decide +kernel), by decide +kernel⟩
theorem flX9_46 : ax_F RX9 46 7 0 (.int) false := ⟨_, rfl, by decide, ⟨List.mem_of_getElem? (i := 417) (by decide +kernel), by decide +kernel⟩, by decide +kernel, rfl, rfl⟩
theorem flX10_104 : ax_F RX10 104 7 0 (.int) false := ⟨_, rfl, by decide, ⟨List.mem_of_getElem? (i := 418) (by decide +kernel), by decide +kernel⟩, by decide +kernel, rfl, rfl⟩
theorem flX11_188 : ax_F RX11 188 7 0 (.int) false := ⟨_, rfl, by decide, ⟨List.mem_of_getElem? (i := 419) (by decide +kernel), by decide +kernel⟩, by decide +kernel, rfl, rfl⟩
theorem flX9_59 : ax_F RX9 59 7 1 (.int) false := ⟨_, rfl, by decide, ⟨List.mem_of_getElem? (i := 420) (by decide +kernel), by decide +kernel⟩, by decide +kernel, rfl, rfl⟩
theorem flX11_203 : ax_F RX11 203 7 1 (.int) false := ⟨_, rfl, by decide, ⟨List.mem_of_getElem? (i := 421) (by decide +kernel), by decide +kernel⟩, by decide +kernel, rfl, rfl⟩
theorem flX9_9 : ax_F RX9 9 7 2 (.array .int) true := ⟨_, rfl, by decide, ⟨List.mem_of_getElem? (i := 422) (by decide +kernel), by decide +kernel⟩, by decide +kernel, rfl, rfl⟩
theorem flX10_105 : ax_F RX10 105 7 2 (.array .int) true := ⟨_, rfl, by decide, ⟨List.mem_of_getElem? (i := 423) (by decide +kernel), by decide +kernel⟩, by decide +kernel, rfl, rfl⟩
theorem flX11_191 : ax_F RX11 191 7 2 (.array .int) true := ⟨_, rfl, by decide, ⟨List.mem_of_getElem? (i := 424) (by decide +kernel), by decide +kernel⟩, by decide +kernel, rfl, rfl⟩
theorem flX9_21 : ax_F RX9 21 7 3 (.object "LostRoads$Net") true := ⟨_, rfl, by decide, ⟨List.mem_of_getElem? (i := 425) (by decide +kernel), by decide +kernel⟩, by decide +kernel, rfl, rfl⟩
theorem flX9_25 : ax_F RX9 25 7 4 (.object "LostRoads$Survey") true := ⟨_, rfl, by decide, ⟨List.mem_of_getElem? (i := 426) (by decide +kernel), by decide +kernel⟩, by decide +kernel, rfl, rfl⟩
theorem flX9_15 : ax_F RX9 15 7 5 (.array .int) true := ⟨_, rfl, by decide, ⟨List.mem_of_getElem? (i := 427) (by decide +kernel), by decide +kernel⟩, by decide +kernel, rfl, rfl⟩
theorem flX9_18 : ax_F RX9 18 7 6 (.array .int) true := ⟨_, rfl, by decide, ⟨List.mem_of_getElem? (i := 428) (by decide +kernel), by decide +kernel⟩, by decide +kernel, rfl, rfl⟩
theorem clX11_87 : ax_g (.classLink RX11 87 "LostRoads$Year") := ⟨List.mem_of_getElem? (i := 444) (by decide +kernel), by decide +kernel⟩
theorem nwX11_87 : ax_N RX11 87 8 6 [.int 0, .null, .null, .null, .null, .null] := ⟨_, rfl, rfl, ⟨List.mem_of_getElem? (i := 444) (by decide +kernel), by decide +kernel⟩, ⟨List.mem_of_getElem? (i := 445) (by decide +kernel), by decide +kernel⟩, ⟨List.mem_of_getElem? (i := 114) (by decide +kernel), by decide +kernel⟩, by decide +kernel⟩
theorem lkX11_89 : ax_g (.methodLink RX11 89 yX10_init) := ⟨List.mem_of_getElem? (i := 446) (by decide +kernel), by decide +kernel⟩
theorem lkX10_3 : ax_g (.methodLink RX10 3 Lib.objectInit) := ⟨List.mem_of_getElem? (i := 449) (by decide +kernel), by decide +kernel⟩
theorem flX10_42 : ax_F RX10 42 8 0 (.int) false := ⟨_, rfl, by decide, ⟨List.mem_of_getElem? (i := 450) (by decide +kernel), by decide +kernel⟩, by decide +kernel, rfl, rfl⟩
theorem flX11_321 : ax_F RX11 321 8 0 (.int) false := ⟨_, rfl, by decide, ⟨List.mem_of_getElem? (i := 451) (by decide +kernel), by decide +kernel⟩, by decide +kernel, rfl, rfl⟩
theorem flX10_18 : ax_F RX10 18 8 1 (.object "LostRoads$Net") true := ⟨_, rfl, by decide, ⟨List.mem_of_getElem? (i := 452) (by decide +kernel), by decide +kernel⟩, by decide +kernel, rfl, rfl⟩
theorem flX10_22 : ax_F RX10 22 8 2 (.object "LostRoads$Survey") true := ⟨_, rfl, by decide, ⟨List.mem_of_getElem? (i := 453) (by decide +kernel), by decide +kernel⟩, by decide +kernel, rfl, rfl⟩
theorem flX10_26 : ax_F RX10 26 8 3 (.object "LostRoads$WayFinder") true := ⟨_, rfl, by decide, ⟨List.mem_of_getElem? (i := 454) (by decide +kernel), by decide +kernel⟩, by decide +kernel, rfl, rfl⟩
theorem flX10_9 : ax_F RX10 9 8 4 (.array .int) true := ⟨_, rfl, by decide, ⟨List.mem_of_getElem? (i := 455) (by decide +kernel), by decide +kernel⟩, by decide +kernel, rfl, rfl⟩
theorem flX10_15 : ax_F RX10 15 8 5 (.array .int) true := ⟨_, rfl, by decide, ⟨List.mem_of_getElem? (i := 456) (by decide +kernel), by decide +kernel⟩, by decide +kernel, rfl, rfl⟩
theorem flX11_10 : ax_F RX11 10 9 0 (.object "LostRoads$Tape") true := ⟨_, rfl, by decide, ⟨List.mem_of_getElem? (i := 470) (by decide +kernel), by decide +kernel⟩, by decide +kernel, rfl, rfl⟩
theorem flX11_19 : ax_F RX11 19 9 1 (.object "LostRoads$Tokens") true := ⟨_, rfl, by decide, ⟨List.mem_of_getElem? (i := 471) (by decide +kernel), by decide +kernel⟩, by decide +kernel, rfl, rfl⟩
theorem flX11_26 : ax_F RX11 26 9 2 (.object "LostRoads$Net") true := ⟨_, rfl, by decide, ⟨List.mem_of_getElem? (i := 472) (by decide +kernel), by decide +kernel⟩, by decide +kernel, rfl, rfl⟩
theorem flX11_35 : ax_F RX11 35 9 3 (.object "LostRoads$Reader") true := ⟨_, rfl, by decide, ⟨List.mem_of_getElem? (i := 473) (by decide +kernel), by decide +kernel⟩, by decide +kernel, rfl, rfl⟩
theorem flX11_39 : ax_F RX11 39 9 4 (.object "LostRoads$Net") true := ⟨_, rfl, by decide, ⟨List.mem_of_getElem? (i := 474) (by decide +kernel), by decide +kernel⟩, by decide +kernel, rfl, rfl⟩
theorem flX11_47 : ax_F RX11 47 9 5 (.object "LostRoads$State") true := ⟨_, rfl, by decide, ⟨List.mem_of_getElem? (i := 475) (by decide +kernel), by decide +kernel⟩, by decide +kernel, rfl, rfl⟩
theorem flX11_51 : ax_F RX11 51 9 6 (.object "LostRoads$State") true := ⟨_, rfl, by decide, ⟨List.mem_of_getElem? (i := 476) (by decide +kernel), by decide +kernel⟩, by decide +kernel, rfl, rfl⟩
theorem flX11_57 : ax_F RX11 57 9 7 (.object "LostRoads$Trades") true := ⟨_, rfl, by decide, ⟨List.mem_of_getElem? (i := 477) (by decide +kernel), by decide +kernel⟩, by decide +kernel, rfl, rfl⟩
theorem flX11_61 : ax_F RX11 61 9 8 (.array (.object "LostRoads$State")) true := ⟨_, rfl, by decide, ⟨List.mem_of_getElem? (i := 478) (by decide +kernel), by decide +kernel⟩, by decide +kernel, rfl, rfl⟩
theorem flX11_65 : ax_F RX11 65 9 9 (.array .boolean) true := ⟨_, rfl, by decide, ⟨List.mem_of_getElem? (i := 479) (by decide +kernel), by decide +kernel⟩, by decide +kernel, rfl, rfl⟩
theorem flX11_74 : ax_F RX11 74 9 10 (.object "LostRoads$Survey") true := ⟨_, rfl, by decide, ⟨List.mem_of_getElem? (i := 480) (by decide +kernel), by decide +kernel⟩, by decide +kernel, rfl, rfl⟩
theorem flX11_83 : ax_F RX11 83 9 11 (.object "LostRoads$WayFinder") true := ⟨_, rfl, by decide, ⟨List.mem_of_getElem? (i := 481) (by decide +kernel), by decide +kernel⟩, by decide +kernel, rfl, rfl⟩
theorem flX11_92 : ax_F RX11 92 9 12 (.object "LostRoads$Year") true := ⟨_, rfl, by decide, ⟨List.mem_of_getElem? (i := 482) (by decide +kernel), by decide +kernel⟩, by decide +kernel, rfl, rfl⟩
theorem flX11_282 : ax_F RX11 282 9 13 (.long) false := ⟨_, rfl, by decide, ⟨List.mem_of_getElem? (i := 483) (by decide +kernel), by decide +kernel⟩, by decide +kernel, rfl, rfl⟩
theorem lkL_29 : ax_g (.methodLink RL 29 yX11_feed) := ⟨List.mem_of_getElem? (i := 513) (by decide +kernel), by decide +kernel⟩
theorem lkX11_96 : ax_g (.methodLink RX11 96 yX5_append) := ⟨List.mem_of_getElem? (i := 517) (by decide +kernel), by decide +kernel⟩
theorem lkL_34 : ax_g (.methodLink RL 34 yX11_net) := ⟨List.mem_of_getElem? (i := 521) (by decide +kernel), by decide +kernel⟩
theorem lkX11_104 : ax_g (.methodLink RX11 104 yX7_cut) := ⟨List.mem_of_getElem? (i := 525) (by decide +kernel), by decide +kernel⟩
theorem lkX7_36 : ax_g (.methodLink RX7 36 yX5_hasBlank) := ⟨List.mem_of_getElem? (i := 529) (by decide +kernel), by decide +kernel⟩
theorem lkX5_17 : ax_g (.methodLink RX5 17 yX5_signAt) := ⟨List.mem_of_getElem? (i := 533) (by decide +kernel), by decide +kernel⟩
theorem lkX7_40 : ax_g (.methodLink RX7 40 yX5_hasLetter) := ⟨List.mem_of_getElem? (i := 537) (by decide +kernel), by decide +kernel⟩
theorem lkX7_43 : ax_g (.methodLink RX7 43 yX7_cutWord) := ⟨List.mem_of_getElem? (i := 541) (by decide +kernel), by decide +kernel⟩
theorem lkX7_53 : ax_g (.methodLink RX7 53 yX5_signAt) := ⟨List.mem_of_getElem? (i := 545) (by decide +kernel), by decide +kernel⟩
theorem lkX7_57 : ax_g (.methodLink RX7 57 yX6_longer) := ⟨List.mem_of_getElem? (i := 546) (by decide +kernel), by decide +kernel⟩
theorem slX7_69 : ax_g (.fieldLink RX7 69 "LostRoads$Token" "NOTHING" "LLostRoads$Token;") := ⟨List.mem_of_getElem? (i := 549) (by decide +kernel), by decide +kernel⟩
theorem lkX7_61 : ax_g (.methodLink RX7 61 yX6_of) := ⟨List.mem_of_getElem? (i := 551) (by decide +kernel), by decide +kernel⟩
theorem slX6_146 : ax_g (.fieldLink RX6 146 "LostRoads$Token" "ALL" "[LLostRoads$Token;") := ⟨List.mem_of_getElem? (i := 554) (by decide +kernel), by decide +kernel⟩
theorem slX6_15 : ax_g (.fieldLink RX6 15 "LostRoads$Token" "NAME" "LLostRoads$Token;") := ⟨List.mem_of_getElem? (i := 556) (by decide +kernel), by decide +kernel⟩
theorem slX6_9 : ax_g (.fieldLink RX6 9 "LostRoads$Token" "NOTHING" "LLostRoads$Token;") := ⟨List.mem_of_getElem? (i := 558) (by decide +kernel), by decide +kernel⟩
theorem lkX7_65 : ax_g (.methodLink RX7 65 yX7_add) := ⟨List.mem_of_getElem? (i := 559) (by decide +kernel), by decide +kernel⟩
theorem lkX7_47 : ax_g (.methodLink RX7 47 yX5_hasDigit) := ⟨List.mem_of_getElem? (i := 563) (by decide +kernel), by decide +kernel⟩
theorem lkX7_50 : ax_g (.methodLink RX7 50 yX7_cutNumber) := ⟨List.mem_of_getElem? (i := 567) (by decide +kernel), by decide +kernel⟩
theorem slX7_72 : ax_g (.fieldLink RX7 72 "LostRoads$Token" "NUMBER" "LLostRoads$Token;") := ⟨List.mem_of_getElem? (i := 571) (by decide +kernel), by decide +kernel⟩
theorem lkX11_108 : ax_g (.methodLink RX11 108 yX2_read) := ⟨List.mem_of_getElem? (i := 573) (by decide +kernel), by decide +kernel⟩
theorem lkX2_41 : ax_g (.methodLink RX2 41 yX1_clear) := ⟨List.mem_of_getElem? (i := 577) (by decide +kernel), by decide +kernel⟩
theorem lkX1_68 : ax_g (.methodLink RX1 68 yJ7_fill_53178) := ⟨List.mem_of_getElem? (i := 581) (by decide +kernel), by decide +kernel⟩
theorem lkX2_46 : ax_g (.methodLink RX2 46 yX2_readLine) := ⟨List.mem_of_getElem? (i := 584) (by decide +kernel), by decide +kernel⟩
theorem slX2_52 : ax_g (.fieldLink RX2 52 "LostRoads$1" "$SwitchMap$LostRoads$Token" "[I") := ⟨List.mem_of_getElem? (i := 588) (by decide +kernel), by decide +kernel⟩
theorem lkX2_62 : ax_g (.methodLink RX2 62 yX2_readStuff) := ⟨List.mem_of_getElem? (i := 596) (by decide +kernel), by decide +kernel⟩
theorem lkX2_84 : ax_g (.methodLink RX2 84 yX2_open) := ⟨List.mem_of_getElem? (i := 600) (by decide +kernel), by decide +kernel⟩
theorem lkX2_78 : ax_g (.methodLink RX2 78 yX2_fail) := ⟨List.mem_of_getElem? (i := 604) (by decide +kernel), by decide +kernel⟩
theorem lkX2_187 : ax_g (.methodLink RX2 187 yX2_step) := ⟨List.mem_of_getElem? (i := 608) (by decide +kernel), by decide +kernel⟩
theorem lkX2_88 : ax_g (.methodLink RX2 88 yX2_freshName) := ⟨List.mem_of_getElem? (i := 612) (by decide +kernel), by decide +kernel⟩
theorem lkX2_211 : ax_g (.methodLink RX2 211 yX6_isName) := ⟨List.mem_of_getElem? (i := 616) (by decide +kernel), by decide +kernel⟩
theorem slX6_90 : ax_g (.fieldLink RX6 90 "LostRoads$Token" "BRITTLE" "LLostRoads$Token;") := ⟨List.mem_of_getElem? (i := 620) (by decide +kernel), by decide +kernel⟩
theorem slX6_93 : ax_g (.fieldLink RX6 93 "LostRoads$Token" "LOST" "LLostRoads$Token;") := ⟨List.mem_of_getElem? (i := 622) (by decide +kernel), by decide +kernel⟩
theorem slX6_96 : ax_g (.fieldLink RX6 96 "LostRoads$Token" "STRONG" "LLostRoads$Token;") := ⟨List.mem_of_getElem? (i := 624) (by decide +kernel), by decide +kernel⟩
theorem lkX2_215 : ax_g (.methodLink RX2 215 yX1_stuffNamed) := ⟨List.mem_of_getElem? (i := 626) (by decide +kernel), by decide +kernel⟩
theorem lkX1_81 : ax_g (.methodLink RX1 81 yX1_numberOf) := ⟨List.mem_of_getElem? (i := 630) (by decide +kernel), by decide +kernel⟩
theorem lkX2_219 : ax_g (.methodLink RX2 219 yX1_placeNamed) := ⟨List.mem_of_getElem? (i := 633) (by decide +kernel), by decide +kernel⟩
theorem slX2_92 : ax_g (.fieldLink RX2 92 "LostRoads$Token" "HARD" "LLostRoads$Token;") := ⟨List.mem_of_getElem? (i := 637) (by decide +kernel), by decide +kernel⟩
theorem lkX2_95 : ax_g (.methodLink RX2 95 yX2_skip) := ⟨List.mem_of_getElem? (i := 639) (by decide +kernel), by decide +kernel⟩
theorem lkX2_99 : ax_g (.methodLink RX2 99 yX2_numberWithin) := ⟨List.mem_of_getElem? (i := 643) (by decide +kernel), by decide +kernel⟩
theorem slX2_195 : ax_g (.fieldLink RX2 195 "LostRoads$Token" "NUMBER" "LLostRoads$Token;") := ⟨List.mem_of_getElem? (i := 647) (by decide +kernel), by decide +kernel⟩
theorem slX2_103 : ax_g (.fieldLink RX2 103 "LostRoads$Token" "SOFT" "LLostRoads$Token;") := ⟨List.mem_of_getElem? (i := 648) (by decide +kernel), by decide +kernel⟩
theorem slX2_106 : ax_g (.fieldLink RX2 106 "LostRoads$Token" "SEMICOLON" "LLostRoads$Token;") := ⟨List.mem_of_getElem? (i := 650) (by decide +kernel), by decide +kernel⟩
theorem lkX2_109 : ax_g (.methodLink RX2 109 yX1_addStuff) := ⟨List.mem_of_getElem? (i := 652) (by decide +kernel), by decide +kernel⟩
theorem lkX2_65 : ax_g (.methodLink RX2 65 yX2_readPlace) := ⟨List.mem_of_getElem? (i := 656) (by decide +kernel), by decide +kernel⟩
theorem lkX2_116 : ax_g (.methodLink RX2 116 yX1_addPlace) := ⟨List.mem_of_getElem? (i := 660) (by decide +kernel), by decide +kernel⟩
theorem lkX2_68 : ax_g (.methodLink RX2 68 yX2_readRoad) := ⟨List.mem_of_getElem? (i := 664) (by decide +kernel), by decide +kernel⟩
theorem lkX2_123 : ax_g (.methodLink RX2 123 yX2_placeOtherThan) := ⟨List.mem_of_getElem? (i := 668) (by decide +kernel), by decide +kernel⟩
theorem slX2_127 : ax_g (.fieldLink RX2 127 "LostRoads$Token" "LONG" "LLostRoads$Token;") := ⟨List.mem_of_getElem? (i := 672) (by decide +kernel), by decide +kernel⟩
theorem slX2_130 : ax_g (.fieldLink RX2 130 "LostRoads$Token" "HOLES" "LLostRoads$Token;") := ⟨List.mem_of_getElem? (i := 674) (by decide +kernel), by decide +kernel⟩
theorem lkX2_133 : ax_g (.methodLink RX2 133 yX1_addRoad) := ⟨List.mem_of_getElem? (i := 676) (by decide +kernel), by decide +kernel⟩
theorem lkX2_71 : ax_g (.methodLink RX2 71 yX2_readTrade) := ⟨List.mem_of_getElem? (i := 680) (by decide +kernel), by decide +kernel⟩
theorem slX2_146 : ax_g (.fieldLink RX2 146 "LostRoads$Token" "OF" "LLostRoads$Token;") := ⟨List.mem_of_getElem? (i := 684) (by decide +kernel), by decide +kernel⟩
theorem lkX2_149 : ax_g (.methodLink RX2 149 yX2_stuffHere) := ⟨List.mem_of_getElem? (i := 686) (by decide +kernel), by decide +kernel⟩
theorem slX2_152 : ax_g (.fieldLink RX2 152 "LostRoads$Token" "LOAD" "LLostRoads$Token;") := ⟨List.mem_of_getElem? (i := 690) (by decide +kernel), by decide +kernel⟩
theorem lkX2_155 : ax_g (.methodLink RX2 155 yX8_add) := ⟨List.mem_of_getElem? (i := 692) (by decide +kernel), by decide +kernel⟩
theorem lkX2_74 : ax_g (.methodLink RX2 74 yX2_readLaw) := ⟨List.mem_of_getElem? (i := 696) (by decide +kernel), by decide +kernel⟩
theorem lkX2_158 : ax_g (.methodLink RX2 158 yX1_hasLaw) := ⟨List.mem_of_getElem? (i := 700) (by decide +kernel), by decide +kernel⟩
theorem lkX2_171 : ax_g (.methodLink RX2 171 yX2_readJoined) := ⟨List.mem_of_getElem? (i := 704) (by decide +kernel), by decide +kernel⟩
theorem lkX2_178 : ax_g (.methodLink RX2 178 yX2_readPart) := ⟨List.mem_of_getElem? (i := 708) (by decide +kernel), by decide +kernel⟩
theorem lkX2_192 : ax_g (.methodLink RX2 192 yX6_isFactIn) := ⟨List.mem_of_getElem? (i := 712) (by decide +kernel), by decide +kernel⟩
theorem slX2_198 : ax_g (.fieldLink RX2 198 "LostRoads$Token" "NOT" "LLostRoads$Token;") := ⟨List.mem_of_getElem? (i := 716) (by decide +kernel), by decide +kernel⟩
theorem slX2_201 : ax_g (.fieldLink RX2 201 "LostRoads$Token" "OPEN" "LLostRoads$Token;") := ⟨List.mem_of_getElem? (i := 718) (by decide +kernel), by decide +kernel⟩
theorem lkX2_189 : ax_g (.methodLink RX2 189 yX1_emit) := ⟨List.mem_of_getElem? (i := 720) (by decide +kernel), by decide +kernel⟩
theorem slX2_208 : ax_g (.fieldLink RX2 208 "LostRoads$Token" "CLOSE" "LLostRoads$Token;") := ⟨List.mem_of_getElem? (i := 724) (by decide +kernel), by decide +kernel⟩
theorem lkX2_49 : ax_g (.methodLink RX2 49 yX1_fillLaws) := ⟨List.mem_of_getElem? (i := 726) (by decide +kernel), by decide +kernel⟩
theorem lkX1_85 : ax_g (.methodLink RX1 85 yX1_fillLaw) := ⟨List.mem_of_getElem? (i := 730) (by decide +kernel), by decide +kernel⟩
theorem lkX1_89 : ax_g (.methodLink RX1 89 yX1_hasLaw) := ⟨List.mem_of_getElem? (i := 734) (by decide +kernel), by decide +kernel⟩
theorem lkX1_93 : ax_g (.methodLink RX1 93 yX1_emit) := ⟨List.mem_of_getElem? (i := 735) (by decide +kernel), by decide +kernel⟩
theorem lkX11_112 : ax_g (.methodLink RX11 112 yX1_take) := ⟨List.mem_of_getElem? (i := 736) (by decide +kernel), by decide +kernel⟩
theorem lkX1_97 : ax_g (.methodLink RX1 97 arraycopyName) := ⟨List.mem_of_getElem? (i := 740) (by decide +kernel), by decide +kernel⟩
theorem lkX1_103 : ax_g (.methodLink RX1 103 yX8_take) := ⟨List.mem_of_getElem? (i := 743) (by decide +kernel), by decide +kernel⟩
theorem lkX8_28 : ax_g (.methodLink RX8 28 arraycopyName) := ⟨List.mem_of_getElem? (i := 747) (by decide +kernel), by decide +kernel⟩
theorem lkX11_115 : ax_g (.methodLink RX11 115 yX3_begin) := ⟨List.mem_of_getElem? (i := 748) (by decide +kernel), by decide +kernel⟩
theorem lkX3_48 : ax_g (.methodLink RX3 48 arraycopyName) := ⟨List.mem_of_getElem? (i := 752) (by decide +kernel), by decide +kernel⟩
theorem lkX3_54 : ax_g (.methodLink RX3 54 yJ7_fill_53178) := ⟨List.mem_of_getElem? (i := 753) (by decide +kernel), by decide +kernel⟩
theorem lkL_39 : ax_g (.methodLink RL 39 yX11_stuff) := ⟨List.mem_of_getElem? (i := 754) (by decide +kernel), by decide +kernel⟩
theorem lkX11_118 : ax_g (.methodLink RX11 118 yX11_isStuff) := ⟨List.mem_of_getElem? (i := 758) (by decide +kernel), by decide +kernel⟩
theorem lkL_43 : ax_g (.methodLink RL 43 yX11_road) := ⟨List.mem_of_getElem? (i := 762) (by decide +kernel), by decide +kernel⟩
theorem lkX11_132 : ax_g (.methodLink RX11 132 yX11_isRoad) := ⟨List.mem_of_getElem? (i := 766) (by decide +kernel), by decide +kernel⟩
theorem lkX11_147 : ax_g (.methodLink RX11 147 yX3_mean) := ⟨List.mem_of_getElem? (i := 770) (by decide +kernel), by decide +kernel⟩
theorem lnX3_70 : (.methodLinkNest RX3 70 yX11_cell "LostRoads") ∈ lw_tbl := List.mem_of_getElem? (i := 774) (by decide +kernel)
theorem lkX11_151 : ax_g (.methodLink RX11 151 yX3_isWorn) := ⟨List.mem_of_getElem? (i := 777) (by decide +kernel), by decide +kernel⟩
theorem lkL_47 : ax_g (.methodLink RL 47 yX11_surface) := ⟨List.mem_of_getElem? (i := 781) (by decide +kernel), by decide +kernel⟩
theorem lkX11_157 : ax_g (.methodLink RX11 157 yX11_cell) := ⟨List.mem_of_getElem? (i := 785) (by decide +kernel), by decide +kernel⟩
theorem lkL_51 : ax_g (.methodLink RL 51 yX11_trade) := ⟨List.mem_of_getElem? (i := 786) (by decide +kernel), by decide +kernel⟩
theorem lkX11_161 : ax_g (.methodLink RX11 161 yX11_isTrade) := ⟨List.mem_of_getElem? (i := 790) (by decide +kernel), by decide +kernel⟩
theorem lkL_55 : ax_g (.methodLink RL 55 yX11_way) := ⟨List.mem_of_getElem? (i := 794) (by decide +kernel), by decide +kernel⟩
theorem lkX11_185 : ax_g (.methodLink RX11 185 yX11_findWayNow) := ⟨List.mem_of_getElem? (i := 798) (by decide +kernel), by decide +kernel⟩
theorem lkX11_206 : ax_g (.methodLink RX11 206 yX4_look) := ⟨List.mem_of_getElem? (i := 802) (by decide +kernel), by decide +kernel⟩
theorem lkX4_44 : ax_g (.methodLink RX4 44 yX3_mean) := ⟨List.mem_of_getElem? (i := 806) (by decide +kernel), by decide +kernel⟩
theorem lkX4_49 : ax_g (.methodLink RX4 49 yJ7_fill_53178) := ⟨List.mem_of_getElem? (i := 807) (by decide +kernel), by decide +kernel⟩
theorem lkX11_298 : ax_g (.methodLink RX11 298 yX9_setPrices) := ⟨List.mem_of_getElem? (i := 808) (by decide +kernel), by decide +kernel⟩
theorem lkX9_35 : ax_g (.methodLink RX9 35 yX4_isWorn) := ⟨List.mem_of_getElem? (i := 812) (by decide +kernel), by decide +kernel⟩
theorem cnX9_41 : ax_g (.constant RX9 41 (536870912)) := ⟨List.mem_of_getElem? (i := 816) (by decide +kernel), by decide +kernel⟩
theorem lkX9_42 : ax_g (.methodLink RX9 42 yX4_priceOf) := ⟨List.mem_of_getElem? (i := 817) (by decide +kernel), by decide +kernel⟩
theorem lkX4_55 : ax_g (.methodLink RX4 55 yX4_setRoad) := ⟨List.mem_of_getElem? (i := 821) (by decide +kernel), by decide +kernel⟩
theorem lkX4_59 : ax_g (.methodLink RX4 59 yX4_value) := ⟨List.mem_of_getElem? (i := 825) (by decide +kernel), by decide +kernel⟩
theorem lkX4_83 : ax_g (.methodLink RX4 83 yX4_joined) := ⟨List.mem_of_getElem? (i := 829) (by decide +kernel), by decide +kernel⟩
theorem lnX4_63 : (.methodLinkNest RX4 63 yX11_within "LostRoads") ∈ lw_tbl := List.mem_of_getElem? (i := 832) (by decide +kernel)
theorem lkX11_301 : ax_g (.methodLink RX11 301 yX9_find) := ⟨List.mem_of_getElem? (i := 835) (by decide +kernel), by decide +kernel⟩
theorem lkX9_49 : ax_g (.methodLink RX9 49 yJ7_fill_53178) := ⟨List.mem_of_getElem? (i := 839) (by decide +kernel), by decide +kernel⟩
theorem lkX9_55 : ax_g (.methodLink RX9 55 yX9_improve) := ⟨List.mem_of_getElem? (i := 840) (by decide +kernel), by decide +kernel⟩
theorem lkX9_62 : ax_g (.methodLink RX9 62 yX9_firstRoad) := ⟨List.mem_of_getElem? (i := 844) (by decide +kernel), by decide +kernel⟩
theorem lkX9_66 : ax_g (.methodLink RX9 66 yX1_otherEnd) := ⟨List.mem_of_getElem? (i := 848) (by decide +kernel), by decide +kernel⟩
theorem lkL_68 : ax_g (.methodLink RL 68 yX11_shock) := ⟨List.mem_of_getElem? (i := 852) (by decide +kernel), by decide +kernel⟩
theorem lkX11_210 : ax_g (.methodLink RX11 210 yX4_shockOf) := ⟨List.mem_of_getElem? (i := 856) (by decide +kernel), by decide +kernel⟩
theorem lnX4_67 : (.methodLinkNest RX4 67 yX11_cell "LostRoads") ∈ lw_tbl := List.mem_of_getElem? (i := 860) (by decide +kernel)
theorem lkL_72 : ax_g (.methodLink RL 72 yX11_years) := ⟨List.mem_of_getElem? (i := 861) (by decide +kernel), by decide +kernel⟩
theorem lkX11_213 : ax_g (.methodLink RX11 213 yX11_isYears) := ⟨List.mem_of_getElem? (i := 865) (by decide +kernel), by decide +kernel⟩
theorem lkX11_216 : ax_g (.methodLink RX11 216 yX10_pass) := ⟨List.mem_of_getElem? (i := 868) (by decide +kernel), by decide +kernel⟩
theorem lkX10_30 : ax_g (.methodLink RX10 30 yX4_look) := ⟨List.mem_of_getElem? (i := 872) (by decide +kernel), by decide +kernel⟩
theorem lkX10_36 : ax_g (.methodLink RX10 36 yJ7_fill_53178) := ⟨List.mem_of_getElem? (i := 873) (by decide +kernel), by decide +kernel⟩
theorem lkX10_60 : ax_g (.methodLink RX10 60 yX9_setPrices) := ⟨List.mem_of_getElem? (i := 874) (by decide +kernel), by decide +kernel⟩
theorem lkX10_72 : ax_g (.methodLink RX10 72 yX9_find) := ⟨List.mem_of_getElem? (i := 875) (by decide +kernel), by decide +kernel⟩
theorem lkX10_76 : ax_g (.methodLink RX10 76 yX10_carry) := ⟨List.mem_of_getElem? (i := 876) (by decide +kernel), by decide +kernel⟩
theorem lkX10_108 : ax_g (.methodLink RX10 108 yX4_shockOf) := ⟨List.mem_of_getElem? (i := 880) (by decide +kernel), by decide +kernel⟩
theorem lnX10_112 : (.methodLinkNest RX10 112 yX11_cell "LostRoads") ∈ lw_tbl := List.mem_of_getElem? (i := 881) (by decide +kernel)
theorem lkX10_88 : ax_g (.methodLink RX10 88 yX10_dropOnPurpose) := ⟨List.mem_of_getElem? (i := 882) (by decide +kernel), by decide +kernel⟩
theorem lkX10_92 : ax_g (.methodLink RX10 92 yX10_sweep) := ⟨List.mem_of_getElem? (i := 886) (by decide +kernel), by decide +kernel⟩
theorem lkX10_95 : ax_g (.methodLink RX10 95 yX10_mendRoad) := ⟨List.mem_of_getElem? (i := 890) (by decide +kernel), by decide +kernel⟩
theorem cnX10_130 : ax_g (.constant RX10 130 (999999)) := ⟨List.mem_of_getElem? (i := 894) (by decide +kernel), by decide +kernel⟩
theorem lkX10_131 : ax_g (.methodLink RX10 131 yJ9_min_7cf53) := ⟨List.mem_of_getElem? (i := 895) (by decide +kernel), by decide +kernel⟩
theorem lkX10_136 : ax_g (.methodLink RX10 136 yX4_mendOf) := ⟨List.mem_of_getElem? (i := 898) (by decide +kernel), by decide +kernel⟩
theorem lkX10_140 : ax_g (.methodLink RX10 140 yJ9_max_7cf53) := ⟨List.mem_of_getElem? (i := 902) (by decide +kernel), by decide +kernel⟩
theorem lkX10_146 : ax_g (.methodLink RX10 146 yX3_keepLayer) := ⟨List.mem_of_getElem? (i := 905) (by decide +kernel), by decide +kernel⟩
theorem lkX3_73 : ax_g (.methodLink RX3 73 yX3_keeps) := ⟨List.mem_of_getElem? (i := 909) (by decide +kernel), by decide +kernel⟩
theorem lkX3_77 : ax_g (.methodLink RX3 77 yX3_layerCell) := ⟨List.mem_of_getElem? (i := 913) (by decide +kernel), by decide +kernel⟩
theorem lkL_76 : ax_g (.methodLink RL 76 yX11_lose) := ⟨List.mem_of_getElem? (i := 916) (by decide +kernel), by decide +kernel⟩
theorem lkL_81 : ax_g (.methodLink RL 81 yX11_layer) := ⟨List.mem_of_getElem? (i := 920) (by decide +kernel), by decide +kernel⟩
theorem lkX11_226 : ax_g (.methodLink RX11 226 yX3_keeps) := ⟨List.mem_of_getElem? (i := 924) (by decide +kernel), by decide +kernel⟩
theorem lkX11_232 : ax_g (.methodLink RX11 232 yX3_layerCell) := ⟨List.mem_of_getElem? (i := 925) (by decide +kernel), by decide +kernel⟩
theorem lkL_86 : ax_g (.methodLink RL 86 yX11_starves) := ⟨List.mem_of_getElem? (i := 926) (by decide +kernel), by decide +kernel⟩
theorem lkX11_236 : ax_g (.methodLink RX11 236 yX11_beginTrial) := ⟨List.mem_of_getElem? (i := 930) (by decide +kernel), by decide +kernel⟩
theorem lkX11_304 : ax_g (.methodLink RX11 304 yX3_takeRoads) := ⟨List.mem_of_getElem? (i := 934) (by decide +kernel), by decide +kernel⟩
theorem lkX11_307 : ax_g (.methodLink RX11 307 yX8_take) := ⟨List.mem_of_getElem? (i := 938) (by decide +kernel), by decide +kernel⟩
theorem lkX11_239 : ax_g (.methodLink RX11 239 yX11_wornBehind) := ⟨List.mem_of_getElem? (i := 939) (by decide +kernel), by decide +kernel⟩
theorem lkL_90 : ax_g (.methodLink RL 90 yX11_purpose) := ⟨List.mem_of_getElem? (i := 943) (by decide +kernel), by decide +kernel⟩
theorem lkL_94 : ax_g (.methodLink RL 94 yX11_table) := ⟨List.mem_of_getElem? (i := 947) (by decide +kernel), by decide +kernel⟩
theorem lkX11_245 : ax_g (.methodLink RX11 245 yX11_holesIfAllCarry) := ⟨List.mem_of_getElem? (i := 951) (by decide +kernel), by decide +kernel⟩
theorem lkX11_310 : ax_g (.methodLink RX11 310 yX8_allCarry) := ⟨List.mem_of_getElem? (i := 955) (by decide +kernel), by decide +kernel⟩
theorem lkX8_34 : ax_g (.methodLink RX8 34 yJ7_fill_53178) := ⟨List.mem_of_getElem? (i := 959) (by decide +kernel), by decide +kernel⟩
theorem lkX11_262 : ax_g (.methodLink RX11 262 yX11_passTrial) := ⟨List.mem_of_getElem? (i := 960) (by decide +kernel), by decide +kernel⟩
theorem lkX11_266 : ax_g (.methodLink RX11 266 yX11_holesTogether) := ⟨List.mem_of_getElem? (i := 964) (by decide +kernel), by decide +kernel⟩
theorem lkX11_313 : ax_g (.methodLink RX11 313 yJ9_min_7cf53) := ⟨List.mem_of_getElem? (i := 968) (by decide +kernel), by decide +kernel⟩
theorem lkL_106 : ax_g (.methodLink RL 106 yX11_told) := ⟨List.mem_of_getElem? (i := 969) (by decide +kernel), by decide +kernel⟩
theorem lkL_111 : ax_g (.methodLink RL 111 yX11_went) := ⟨List.mem_of_getElem? (i := 973) (by decide +kernel), by decide +kernel⟩
theorem lkX11_275 : ax_g (.methodLink RX11 275 yX11_leavesToldLayer) := ⟨List.mem_of_getElem? (i := 977) (by decide +kernel), by decide +kernel⟩
theorem lkL_115 : ax_g (.methodLink RL 115 yX11_wars) := ⟨List.mem_of_getElem? (i := 981) (by decide +kernel), by decide +kernel⟩
theorem lkX11_286 : ax_g (.methodLink RX11 286 yX11_cameInWar) := ⟨List.mem_of_getElem? (i := 985) (by decide +kernel), by decide +kernel⟩
theorem lkX11_318 : ax_g (.methodLink RX11 318 yX11_drawBelow) := ⟨List.mem_of_getElem? (i := 989) (by decide +kernel), by decide +kernel⟩
theorem cnX11_324 : ax_g (.constantLong RX11 324 (1103515245)) := ⟨List.mem_of_getElem? (i := 993) (by decide +kernel), by decide +kernel⟩
theorem cnX11_326 : ax_g (.constantLong RX11 326 (12345)) := ⟨List.mem_of_getElem? (i := 994) (by decide +kernel), by decide +kernel⟩
theorem cnX11_328 : ax_g (.constantLong RX11 328 (2147483648)) := ⟨List.mem_of_getElem? (i := 995) (by decide +kernel), by decide +kernel⟩
theorem cnX11_330 : ax_g (.constantLong RX11 330 (65536)) := ⟨List.mem_of_getElem? (i := 996) (by decide +kernel), by decide +kernel⟩
theorem lkX11_289 : ax_g (.methodLink RX11 289 yX11_wornRoads) := ⟨List.mem_of_getElem? (i := 997) (by decide +kernel), by decide +kernel⟩
theorem lkL_120 : ax_g (.methodLink RL 120 yX11_mark) := ⟨List.mem_of_getElem? (i := 1001) (by decide +kernel), by decide +kernel⟩
theorem lkX11_292 : ax_g (.methodLink RX11 292 yX3_takeAll) := ⟨List.mem_of_getElem? (i := 1005) (by decide +kernel), by decide +kernel⟩
theorem lkX3_60 : ax_g (.methodLink RX3 60 yX3_takeRoads) := ⟨List.mem_of_getElem? (i := 1009) (by decide +kernel), by decide +kernel⟩
theorem lkX3_64 : ax_g (.methodLink RX3 64 yJ9_min_7cf53) := ⟨List.mem_of_getElem? (i := 1010) (by decide +kernel), by decide +kernel⟩
theorem lkL_125 : ax_g (.methodLink RL 125 yX11_count) := ⟨List.mem_of_getElem? (i := 1011) (by decide +kernel), by decide +kernel⟩
theorem lkL_59 : ax_g (.methodLink RL 59 yL_cost) := ⟨List.mem_of_getElem? (i := 1015) (by decide +kernel), by decide +kernel⟩
theorem clL_13 : ax_g (.classLink RL 13 "java/util/NoSuchElementException") := ⟨List.mem_of_getElem? (i := 1018) (by decide +kernel), by decide +kernel⟩
theorem lkL_7 : ax_g (.methodLink RL 7 yX11_cost) := ⟨List.mem_of_getElem? (i := 1019) (by decide +kernel), by decide +kernel⟩
theorem clX11_194 : ax_g (.classLink RX11 194 "java/util/NoSuchElementException") := ⟨List.mem_of_getElem? (i := 1023) (by decide +kernel), by decide +kernel⟩
theorem lkL_98 : ax_g (.methodLink RL 98 yL_newcomer) := ⟨List.mem_of_getElem? (i := 1089) (by decide +kernel), by decide +kernel⟩
theorem lkL_15 : ax_g (.methodLink RL 15 yX11_newcomer) := ⟨List.mem_of_getElem? (i := 1092) (by decide +kernel), by decide +kernel⟩
theorem lkX11_248 : ax_g (.methodLink RX11 248 yX11_isPlace) := ⟨List.mem_of_getElem? (i := 1096) (by decide +kernel), by decide +kernel⟩
theorem lkX11_254 : ax_g (.methodLink RX11 254 yX11_holesAsTold) := ⟨List.mem_of_getElem? (i := 1101) (by decide +kernel), by decide +kernel⟩
theorem lkX11_258 : ax_g (.methodLink RX11 258 yX8_add) := ⟨List.mem_of_getElem? (i := 1105) (by decide +kernel), by decide +kernel⟩
theorem lkL_102 : ax_g (.methodLink RL 102 yL_swept) := ⟨List.mem_of_getElem? (i := 1106) (by decide +kernel), by decide +kernel⟩
theorem lkL_19 : ax_g (.methodLink RL 19 yX11_swept) := ⟨List.mem_of_getElem? (i := 1109) (by decide +kernel), by decide +kernel⟩
theorem lkL_65 : ax_g (.methodLink RL 65 yX12_thrown) := ⟨List.mem_of_getElem? (i := 1114) (by decide +kernel), by decide +kernel⟩
theorem lkL_33 : ax_g (.methodLink RL 33 yX12_feed) := ⟨List.mem_of_getElem? (i := 1118) (by decide +kernel), by decide +kernel⟩
theorem lkX12_7 : ax_g (.methodLink RX12 7 yX12_lay) := ⟨List.mem_of_getElem? (i := 1122) (by decide +kernel), by decide +kernel⟩
theorem clL_24 : ax_g (.classLink RL 24 "LostRoadsModel") := ⟨List.mem_of_getElem? (i := 1127) (by decide +kernel), by decide +kernel⟩
theorem nwL_24 : ax_N RL 24 10 36 [.int 0, .null, .int 0, .int 0, .null, .null, .null, .int 0, .int 0, .null, .null, .null, .null, .int 0, .null, .null, .int 0, .int 0, .null, .null, .null, .null, .null, .int 0, .int 0, .int 0, .int 0, .null, .null, .null, .int 0, .int 0, .null, .null, .null, .long 0] := ⟨_, rfl, rfl, ⟨List.mem_of_getElem? (i := 1127) (by decide +kernel), by decide +kernel⟩, ⟨List.mem_of_getElem? (i := 1125) (by decide +kernel), by decide +kernel⟩, ⟨List.mem_of_getElem? (i := 115) (by decide +kernel), by decide +kernel⟩, by decide +kernel⟩
theorem lkL_26 : ax_g (.methodLink RL 26 yX12_init) := ⟨List.mem_of_getElem? (i := 1128) (by decide +kernel), by decide +kernel⟩
theorem lkX12_18 : ax_g (.methodLink RX12 18 Lib.objectInit) := ⟨List.mem_of_getElem? (i := 1131) (by decide +kernel), by decide +kernel⟩
theorem cnX12_34 : ax_g (.constantLong RX12 34 (36651096)) := ⟨List.mem_of_getElem? (i := 1132) (by decide +kernel), by decide +kernel⟩
theorem cnX12_36 : ax_g (.constantLong RX12 36 (407263)) := ⟨List.mem_of_getElem? (i := 1133) (by decide +kernel), by decide +kernel⟩
theorem cnX12_38 : ax_g (.constantLong RX12 38 (983184)) := ⟨List.mem_of_getElem? (i := 1134) (by decide +kernel), by decide +kernel⟩
theorem cnX12_40 : ax_g (.constantLong RX12 40 (30595897)) := ⟨List.mem_of_getElem? (i := 1135) (by decide +kernel), by decide +kernel⟩
theorem cnX12_42 : ax_g (.constantLong RX12 42 (932330)) := ⟨List.mem_of_getElem? (i := 1136) (by decide +kernel), by decide +kernel⟩
theorem cnX12_44 : ax_g (.constantLong RX12 44 (628896)) := ⟨List.mem_of_getElem? (i := 1137) (by decide +kernel), by decide +kernel⟩
theorem cnX12_46 : ax_g (.constantLong RX12 46 (15769715)) := ⟨List.mem_of_getElem? (i := 1138) (by decide +kernel), by decide +kernel⟩
theorem cnX12_48 : ax_g (.constantLong RX12 48 (38396496)) := ⟨List.mem_of_getElem? (i := 1139) (by decide +kernel), by decide +kernel⟩
theorem cnX12_50 : ax_g (.constantLong RX12 50 (561)) := ⟨List.mem_of_getElem? (i := 1140) (by decide +kernel), by decide +kernel⟩
theorem cnX12_52 : ax_g (.constantLong RX12 52 (628412)) := ⟨List.mem_of_getElem? (i := 1141) (by decide +kernel), by decide +kernel⟩
theorem cnX12_54 : ax_g (.constantLong RX12 54 (31549)) := ⟨List.mem_of_getElem? (i := 1142) (by decide +kernel), by decide +kernel⟩
theorem cnX12_56 : ax_g (.constantLong RX12 56 (36034940)) := ⟨List.mem_of_getElem? (i := 1143) (by decide +kernel), by decide +kernel⟩
theorem cnX12_58 : ax_g (.constantLong RX12 58 (665856)) := ⟨List.mem_of_getElem? (i := 1144) (by decide +kernel), by decide +kernel⟩
theorem cnX12_60 : ax_g (.constantLong RX12 60 (19741)) := ⟨List.mem_of_getElem? (i := 1145) (by decide +kernel), by decide +kernel⟩
theorem cnX12_62 : ax_g (.constantLong RX12 62 (1891)) := ⟨List.mem_of_getElem? (i := 1146) (by decide +kernel), by decide +kernel⟩
theorem cnX12_64 : ax_g (.constantLong RX12 64 (573)) := ⟨List.mem_of_getElem? (i := 1147) (by decide +kernel), by decide +kernel⟩
theorem cnX12_66 : ax_g (.constantLong RX12 66 (6397552382)) := ⟨List.mem_of_getElem? (i := 1148) (by decide +kernel), by decide +kernel⟩
theorem cnX12_68 : ax_g (.constantLong RX12 68 (629094)) := ⟨List.mem_of_getElem? (i := 1149) (by decide +kernel), by decide +kernel⟩
theorem cnX12_70 : ax_g (.constantLong RX12 70 (1355951217)) := ⟨List.mem_of_getElem? (i := 1150) (by decide +kernel), by decide +kernel⟩
theorem flX12_1 : ax_F RX12 1 10 0 (.int) false := ⟨_, rfl, by decide, ⟨List.mem_of_getElem? (i := 1151) (by decide +kernel), by decide +kernel⟩, by decide +kernel, rfl, rfl⟩
theorem flX12_14 : ax_F RX12 14 10 1 (.array .int) true := ⟨_, rfl, by decide, ⟨List.mem_of_getElem? (i := 1152) (by decide +kernel), by decide +kernel⟩, by decide +kernel, rfl, rfl⟩
theorem flX12_11 : ax_F RX12 11 10 2 (.int) false := ⟨_, rfl, by decide, ⟨List.mem_of_getElem? (i := 1153) (by decide +kernel), by decide +kernel⟩, by decide +kernel, rfl, rfl⟩
theorem flX12_134 : ax_F RX12 134 10 3 (.int) false := ⟨_, rfl, by decide, ⟨List.mem_of_getElem? (i := 1154) (by decide +kernel), by decide +kernel⟩, by decide +kernel, rfl, rfl⟩
theorem flX12_24 : ax_F RX12 24 10 4 (.array .int) true := ⟨_, rfl, by decide, ⟨List.mem_of_getElem? (i := 1155) (by decide +kernel), by decide +kernel⟩, by decide +kernel, rfl, rfl⟩
theorem flX12_27 : ax_F RX12 27 10 5 (.array .int) true := ⟨_, rfl, by decide, ⟨List.mem_of_getElem? (i := 1156) (by decide +kernel), by decide +kernel⟩, by decide +kernel, rfl, rfl⟩
theorem flX12_30 : ax_F RX12 30 10 6 (.array .long) true := ⟨_, rfl, by decide, ⟨List.mem_of_getElem? (i := 1157) (by decide +kernel), by decide +kernel⟩, by decide +kernel, rfl, rfl⟩
theorem flX12_153 : ax_F RX12 153 10 7 (.int) false := ⟨_, rfl, by decide, ⟨List.mem_of_getElem? (i := 1158) (by decide +kernel), by decide +kernel⟩, by decide +kernel, rfl, rfl⟩
theorem flX12_156 : ax_F RX12 156 10 8 (.int) false := ⟨_, rfl, by decide, ⟨List.mem_of_getElem? (i := 1159) (by decide +kernel), by decide +kernel⟩, by decide +kernel, rfl, rfl⟩
theorem flX12_72 : ax_F RX12 72 10 9 (.array .long) true := ⟨_, rfl, by decide, ⟨List.mem_of_getElem? (i := 1160) (by decide +kernel), by decide +kernel⟩, by decide +kernel, rfl, rfl⟩
theorem flX12_75 : ax_F RX12 75 10 10 (.array .int) true := ⟨_, rfl, by decide, ⟨List.mem_of_getElem? (i := 1161) (by decide +kernel), by decide +kernel⟩, by decide +kernel, rfl, rfl⟩
theorem flX12_78 : ax_F RX12 78 10 11 (.array .int) true := ⟨_, rfl, by decide, ⟨List.mem_of_getElem? (i := 1162) (by decide +kernel), by decide +kernel⟩, by decide +kernel, rfl, rfl⟩
theorem flX12_81 : ax_F RX12 81 10 12 (.array .int) true := ⟨_, rfl, by decide, ⟨List.mem_of_getElem? (i := 1163) (by decide +kernel), by decide +kernel⟩, by decide +kernel, rfl, rfl⟩
theorem flX12_185 : ax_F RX12 185 10 13 (.int) false := ⟨_, rfl, by decide, ⟨List.mem_of_getElem? (i := 1164) (by decide +kernel), by decide +kernel⟩, by decide +kernel, rfl, rfl⟩
theorem flX12_84 : ax_F RX12 84 10 14 (.array .long) true := ⟨_, rfl, by decide, ⟨List.mem_of_getElem? (i := 1165) (by decide +kernel), by decide +kernel⟩, by decide +kernel, rfl, rfl⟩
theorem flX12_87 : ax_F RX12 87 10 15 (.array .int) true := ⟨_, rfl, by decide, ⟨List.mem_of_getElem? (i := 1166) (by decide +kernel), by decide +kernel⟩, by decide +kernel, rfl, rfl⟩
theorem flX12_179 : ax_F RX12 179 10 16 (.int) false := ⟨_, rfl, by decide, ⟨List.mem_of_getElem? (i := 1167) (by decide +kernel), by decide +kernel⟩, by decide +kernel, rfl, rfl⟩
theorem flX12_231 : ax_F RX12 231 10 17 (.int) false := ⟨_, rfl, by decide, ⟨List.mem_of_getElem? (i := 1168) (by decide +kernel), by decide +kernel⟩, by decide +kernel, rfl, rfl⟩
theorem flX12_90 : ax_F RX12 90 10 18 (.array .int) true := ⟨_, rfl, by decide, ⟨List.mem_of_getElem? (i := 1169) (by decide +kernel), by decide +kernel⟩, by decide +kernel, rfl, rfl⟩
theorem flX12_93 : ax_F RX12 93 10 19 (.array .int) true := ⟨_, rfl, by decide, ⟨List.mem_of_getElem? (i := 1170) (by decide +kernel), by decide +kernel⟩, by decide +kernel, rfl, rfl⟩
theorem flX12_96 : ax_F RX12 96 10 20 (.array .int) true := ⟨_, rfl, by decide, ⟨List.mem_of_getElem? (i := 1171) (by decide +kernel), by decide +kernel⟩, by decide +kernel, rfl, rfl⟩
theorem flX12_99 : ax_F RX12 99 10 21 (.array .int) true := ⟨_, rfl, by decide, ⟨List.mem_of_getElem? (i := 1172) (by decide +kernel), by decide +kernel⟩, by decide +kernel, rfl, rfl⟩
theorem flX12_102 : ax_F RX12 102 10 22 (.array .boolean) true := ⟨_, rfl, by decide, ⟨List.mem_of_getElem? (i := 1173) (by decide +kernel), by decide +kernel⟩, by decide +kernel, rfl, rfl⟩
theorem flX12_266 : ax_F RX12 266 10 23 (.boolean) false := ⟨_, rfl, by decide, ⟨List.mem_of_getElem? (i := 1174) (by decide +kernel), by decide +kernel⟩, by decide +kernel, rfl, rfl⟩
theorem flX12_270 : ax_F RX12 270 10 24 (.boolean) false := ⟨_, rfl, by decide, ⟨List.mem_of_getElem? (i := 1175) (by decide +kernel), by decide +kernel⟩, by decide +kernel, rfl, rfl⟩
theorem flX12_106 : ax_F RX12 106 10 25 (.int) false := ⟨_, rfl, by decide, ⟨List.mem_of_getElem? (i := 1176) (by decide +kernel), by decide +kernel⟩, by decide +kernel, rfl, rfl⟩
theorem flX12_109 : ax_F RX12 109 10 26 (.int) false := ⟨_, rfl, by decide, ⟨List.mem_of_getElem? (i := 1177) (by decide +kernel), by decide +kernel⟩, by decide +kernel, rfl, rfl⟩
theorem flX12_112 : ax_F RX12 112 10 27 (.array .int) true := ⟨_, rfl, by decide, ⟨List.mem_of_getElem? (i := 1178) (by decide +kernel), by decide +kernel⟩, by decide +kernel, rfl, rfl⟩
theorem flX12_115 : ax_F RX12 115 10 28 (.array .int) true := ⟨_, rfl, by decide, ⟨List.mem_of_getElem? (i := 1179) (by decide +kernel), by decide +kernel⟩, by decide +kernel, rfl, rfl⟩
theorem flX12_118 : ax_F RX12 118 10 29 (.array .int) true := ⟨_, rfl, by decide, ⟨List.mem_of_getElem? (i := 1180) (by decide +kernel), by decide +kernel⟩, by decide +kernel, rfl, rfl⟩
theorem flX12_301 : ax_F RX12 301 10 30 (.int) false := ⟨_, rfl, by decide, ⟨List.mem_of_getElem? (i := 1181) (by decide +kernel), by decide +kernel⟩, by decide +kernel, rfl, rfl⟩
theorem flX12_304 : ax_F RX12 304 10 31 (.int) false := ⟨_, rfl, by decide, ⟨List.mem_of_getElem? (i := 1182) (by decide +kernel), by decide +kernel⟩, by decide +kernel, rfl, rfl⟩
theorem flX12_121 : ax_F RX12 121 10 32 (.array .int) true := ⟨_, rfl, by decide, ⟨List.mem_of_getElem? (i := 1183) (by decide +kernel), by decide +kernel⟩, by decide +kernel, rfl, rfl⟩
theorem flX12_124 : ax_F RX12 124 10 33 (.array .int) true := ⟨_, rfl, by decide, ⟨List.mem_of_getElem? (i := 1184) (by decide +kernel), by decide +kernel⟩, by decide +kernel, rfl, rfl⟩
theorem flX12_127 : ax_F RX12 127 10 34 (.array .int) true := ⟨_, rfl, by decide, ⟨List.mem_of_getElem? (i := 1185) (by decide +kernel), by decide +kernel⟩, by decide +kernel, rfl, rfl⟩
theorem flX12_372 : ax_F RX12 372 10 35 (.long) false := ⟨_, rfl, by decide, ⟨List.mem_of_getElem? (i := 1186) (by decide +kernel), by decide +kernel⟩, by decide +kernel, rfl, rfl⟩
theorem lkL_38 : ax_g (.methodLink RL 38 yX12_net) := ⟨List.mem_of_getElem? (i := 1260) (by decide +kernel), by decide +kernel⟩
theorem lkX12_182 : ax_g (.methodLink RX12 182 yX12_cutAll) := ⟨List.mem_of_getElem? (i := 1264) (by decide +kernel), by decide +kernel⟩
theorem lkX12_130 : ax_g (.methodLink RX12 130 yX12_isLetter) := ⟨List.mem_of_getElem? (i := 1268) (by decide +kernel), by decide +kernel⟩
theorem cnX12_137 : ax_g (.constantLong RX12 137 (37)) := ⟨List.mem_of_getElem? (i := 1271) (by decide +kernel), by decide +kernel⟩
theorem lkX12_139 : ax_g (.methodLink RX12 139 yX12_rank) := ⟨List.mem_of_getElem? (i := 1272) (by decide +kernel), by decide +kernel⟩
theorem lkX12_143 : ax_g (.methodLink RX12 143 yX12_isDigit) := ⟨List.mem_of_getElem? (i := 1275) (by decide +kernel), by decide +kernel⟩
theorem cnX12_146 : ax_g (.constantLong RX12 146 (10)) := ⟨List.mem_of_getElem? (i := 1278) (by decide +kernel), by decide +kernel⟩
theorem cnX12_148 : ax_g (.constantLong RX12 148 (48)) := ⟨List.mem_of_getElem? (i := 1279) (by decide +kernel), by decide +kernel⟩
theorem lkX12_150 : ax_g (.methodLink RX12 150 yX12_isSignOf) := ⟨List.mem_of_getElem? (i := 1280) (by decide +kernel), by decide +kernel⟩
theorem lkX12_188 : ax_g (.methodLink RX12 188 yX12_readLine) := ⟨List.mem_of_getElem? (i := 1283) (by decide +kernel), by decide +kernel⟩
theorem lkX12_166 : ax_g (.methodLink RX12 166 yX12_isWord) := ⟨List.mem_of_getElem? (i := 1287) (by decide +kernel), by decide +kernel⟩
theorem lkX12_198 : ax_g (.methodLink RX12 198 yX12_readStuff) := ⟨List.mem_of_getElem? (i := 1291) (by decide +kernel), by decide +kernel⟩
theorem lkX12_162 : ax_g (.methodLink RX12 162 yX12_wrong) := ⟨List.mem_of_getElem? (i := 1295) (by decide +kernel), by decide +kernel⟩
theorem lkX12_220 : ax_g (.methodLink RX12 220 yX12_readName) := ⟨List.mem_of_getElem? (i := 1299) (by decide +kernel), by decide +kernel⟩
theorem lkX12_213 : ax_g (.methodLink RX12 213 yX12_isName) := ⟨List.mem_of_getElem? (i := 1303) (by decide +kernel), by decide +kernel⟩
theorem lkX12_217 : ax_g (.methodLink RX12 217 yX12_find) := ⟨List.mem_of_getElem? (i := 1307) (by decide +kernel), by decide +kernel⟩
theorem lkX12_223 : ax_g (.methodLink RX12 223 yX12_takeAfter) := ⟨List.mem_of_getElem? (i := 1311) (by decide +kernel), by decide +kernel⟩
theorem lkX12_172 : ax_g (.methodLink RX12 172 yX12_takeWord) := ⟨List.mem_of_getElem? (i := 1315) (by decide +kernel), by decide +kernel⟩
theorem lkX12_169 : ax_g (.methodLink RX12 169 yX12_hasWord) := ⟨List.mem_of_getElem? (i := 1319) (by decide +kernel), by decide +kernel⟩
theorem lkX12_175 : ax_g (.methodLink RX12 175 yX12_takeNumber) := ⟨List.mem_of_getElem? (i := 1323) (by decide +kernel), by decide +kernel⟩
theorem lkX12_201 : ax_g (.methodLink RX12 201 yX12_readPlace) := ⟨List.mem_of_getElem? (i := 1327) (by decide +kernel), by decide +kernel⟩
theorem lkX12_204 : ax_g (.methodLink RX12 204 yX12_readRoad) := ⟨List.mem_of_getElem? (i := 1331) (by decide +kernel), by decide +kernel⟩
theorem lkX12_227 : ax_g (.methodLink RX12 227 yX12_takeTold) := ⟨List.mem_of_getElem? (i := 1335) (by decide +kernel), by decide +kernel⟩
theorem lkX12_207 : ax_g (.methodLink RX12 207 yX12_readTrade) := ⟨List.mem_of_getElem? (i := 1339) (by decide +kernel), by decide +kernel⟩
theorem lkX12_210 : ax_g (.methodLink RX12 210 yX12_readLaw) := ⟨List.mem_of_getElem? (i := 1343) (by decide +kernel), by decide +kernel⟩
theorem lkX12_234 : ax_g (.methodLink RX12 234 yX12_all) := ⟨List.mem_of_getElem? (i := 1347) (by decide +kernel), by decide +kernel⟩
theorem lkX12_241 : ax_g (.methodLink RX12 241 yX12_test) := ⟨List.mem_of_getElem? (i := 1351) (by decide +kernel), by decide +kernel⟩
theorem lkX12_244 : ax_g (.methodLink RX12 244 yX12_sums) := ⟨List.mem_of_getElem? (i := 1355) (by decide +kernel), by decide +kernel⟩
theorem lkX12_250 : ax_g (.methodLink RX12 250 yX12_products) := ⟨List.mem_of_getElem? (i := 1359) (by decide +kernel), by decide +kernel⟩
theorem lkX12_253 : ax_g (.methodLink RX12 253 yX12_takePart) := ⟨List.mem_of_getElem? (i := 1363) (by decide +kernel), by decide +kernel⟩
theorem lkX12_256 : ax_g (.methodLink RX12 256 yX12_factHere) := ⟨List.mem_of_getElem? (i := 1367) (by decide +kernel), by decide +kernel⟩
theorem lkX12_159 : ax_g (.methodLink RX12 159 yX12_isSign) := ⟨List.mem_of_getElem? (i := 1371) (by decide +kernel), by decide +kernel⟩
theorem lkX12_237 : ax_g (.methodLink RX12 237 yX12_emit) := ⟨List.mem_of_getElem? (i := 1375) (by decide +kernel), by decide +kernel⟩
theorem lkX12_247 : ax_g (.methodLink RX12 247 yX12_hasSign) := ⟨List.mem_of_getElem? (i := 1379) (by decide +kernel), by decide +kernel⟩
theorem lkX12_191 : ax_g (.methodLink RX12 191 yX12_takeSign) := ⟨List.mem_of_getElem? (i := 1383) (by decide +kernel), by decide +kernel⟩
theorem lkX12_194 : ax_g (.methodLink RX12 194 yX12_roads) := ⟨List.mem_of_getElem? (i := 1387) (by decide +kernel), by decide +kernel⟩
theorem lkL_42 : ax_g (.methodLink RL 42 yX12_stuff) := ⟨List.mem_of_getElem? (i := 1391) (by decide +kernel), by decide +kernel⟩
theorem lkX12_330 : ax_g (.methodLink RX12 330 yX12_isStuff) := ⟨List.mem_of_getElem? (i := 1395) (by decide +kernel), by decide +kernel⟩
theorem lkX12_273 : ax_g (.methodLink RX12 273 yX12_stuffs) := ⟨List.mem_of_getElem? (i := 1399) (by decide +kernel), by decide +kernel⟩
theorem lkX12_333 : ax_g (.methodLink RX12 333 yX12_within) := ⟨List.mem_of_getElem? (i := 1403) (by decide +kernel), by decide +kernel⟩
theorem lkL_46 : ax_g (.methodLink RL 46 yX12_road) := ⟨List.mem_of_getElem? (i := 1406) (by decide +kernel), by decide +kernel⟩
theorem lkX12_337 : ax_g (.methodLink RX12 337 yX12_isRoad) := ⟨List.mem_of_getElem? (i := 1410) (by decide +kernel), by decide +kernel⟩
theorem lkX12_279 : ax_g (.methodLink RX12 279 yX12_roadOf) := ⟨List.mem_of_getElem? (i := 1414) (by decide +kernel), by decide +kernel⟩
theorem lkX12_282 : ax_g (.methodLink RX12 282 yX12_mean) := ⟨List.mem_of_getElem? (i := 1418) (by decide +kernel), by decide +kernel⟩
theorem lkX12_311 : ax_g (.methodLink RX12 311 yX12_isWorn) := ⟨List.mem_of_getElem? (i := 1422) (by decide +kernel), by decide +kernel⟩
theorem lkL_50 : ax_g (.methodLink RL 50 yX12_surface) := ⟨List.mem_of_getElem? (i := 1426) (by decide +kernel), by decide +kernel⟩
theorem lkL_54 : ax_g (.methodLink RL 54 yX12_trade) := ⟨List.mem_of_getElem? (i := 1430) (by decide +kernel), by decide +kernel⟩
theorem lkX12_340 : ax_g (.methodLink RX12 340 yX12_isTrade) := ⟨List.mem_of_getElem? (i := 1434) (by decide +kernel), by decide +kernel⟩
theorem lkX12_276 : ax_g (.methodLink RX12 276 yX12_trades) := ⟨List.mem_of_getElem? (i := 1438) (by decide +kernel), by decide +kernel⟩
theorem lkX12_294 : ax_g (.methodLink RX12 294 yX12_tradeOf) := ⟨List.mem_of_getElem? (i := 1442) (by decide +kernel), by decide +kernel⟩
theorem lkL_58 : ax_g (.methodLink RL 58 yX12_way) := ⟨List.mem_of_getElem? (i := 1446) (by decide +kernel), by decide +kernel⟩
theorem lkX12_320 : ax_g (.methodLink RX12 320 yX12_findWay) := ⟨List.mem_of_getElem? (i := 1450) (by decide +kernel), by decide +kernel⟩
theorem lkX12_297 : ax_g (.methodLink RX12 297 yX12_costOf) := ⟨List.mem_of_getElem? (i := 1454) (by decide +kernel), by decide +kernel⟩
theorem lkX12_285 : ax_g (.methodLink RX12 285 yX12_laysFacts) := ⟨List.mem_of_getElem? (i := 1458) (by decide +kernel), by decide +kernel⟩
theorem lkX12_288 : ax_g (.methodLink RX12 288 yX12_worthAt) := ⟨List.mem_of_getElem? (i := 1462) (by decide +kernel), by decide +kernel⟩
theorem lkX12_259 : ax_g (.methodLink RX12 259 yX12_both) := ⟨List.mem_of_getElem? (i := 1466) (by decide +kernel), by decide +kernel⟩
theorem lkX12_291 : ax_g (.methodLink RX12 291 yX12_clip) := ⟨List.mem_of_getElem? (i := 1469) (by decide +kernel), by decide +kernel⟩
theorem cnX12_300 : ax_g (.constant RX12 300 (100000000)) := ⟨List.mem_of_getElem? (i := 1472) (by decide +kernel), by decide +kernel⟩
theorem lkX12_307 : ax_g (.methodLink RX12 307 yX12_goesOn) := ⟨List.mem_of_getElem? (i := 1473) (by decide +kernel), by decide +kernel⟩
theorem lkL_64 : ax_g (.methodLink RL 64 yX12_cost) := ⟨List.mem_of_getElem? (i := 1477) (by decide +kernel), by decide +kernel⟩
theorem lkL_71 : ax_g (.methodLink RL 71 yX12_shock) := ⟨List.mem_of_getElem? (i := 1481) (by decide +kernel), by decide +kernel⟩
theorem lkX12_323 : ax_g (.methodLink RX12 323 yX12_shockOf) := ⟨List.mem_of_getElem? (i := 1485) (by decide +kernel), by decide +kernel⟩
theorem lkL_75 : ax_g (.methodLink RL 75 yX12_years) := ⟨List.mem_of_getElem? (i := 1489) (by decide +kernel), by decide +kernel⟩
theorem lkX12_343 : ax_g (.methodLink RX12 343 yX12_areYears) := ⟨List.mem_of_getElem? (i := 1493) (by decide +kernel), by decide +kernel⟩
theorem lkX12_346 : ax_g (.methodLink RX12 346 yX12_passes) := ⟨List.mem_of_getElem? (i := 1496) (by decide +kernel), by decide +kernel⟩
theorem lkX12_314 : ax_g (.methodLink RX12 314 yX12_goesTrade) := ⟨List.mem_of_getElem? (i := 1500) (by decide +kernel), by decide +kernel⟩
theorem lkX12_317 : ax_g (.methodLink RX12 317 yX12_mended) := ⟨List.mem_of_getElem? (i := 1504) (by decide +kernel), by decide +kernel⟩
theorem cnX12_326 : ax_g (.constant RX12 326 (999999)) := ⟨List.mem_of_getElem? (i := 1508) (by decide +kernel), by decide +kernel⟩
theorem lkX12_327 : ax_g (.methodLink RX12 327 yX12_mendOf) := ⟨List.mem_of_getElem? (i := 1509) (by decide +kernel), by decide +kernel⟩
theorem lkL_80 : ax_g (.methodLink RL 80 yX12_lose) := ⟨List.mem_of_getElem? (i := 1513) (by decide +kernel), by decide +kernel⟩
theorem lkL_85 : ax_g (.methodLink RL 85 yX12_layer) := ⟨List.mem_of_getElem? (i := 1517) (by decide +kernel), by decide +kernel⟩
theorem lkL_89 : ax_g (.methodLink RL 89 yX12_starves) := ⟨List.mem_of_getElem? (i := 1521) (by decide +kernel), by decide +kernel⟩
theorem lkX12_349 : ax_g (.methodLink RX12 349 yX12_aside) := ⟨List.mem_of_getElem? (i := 1525) (by decide +kernel), by decide +kernel⟩
theorem lkX12_262 : ax_g (.methodLink RX12 262 yX12_copies) := ⟨List.mem_of_getElem? (i := 1529) (by decide +kernel), by decide +kernel⟩
theorem lkX12_352 : ax_g (.methodLink RX12 352 yX12_back) := ⟨List.mem_of_getElem? (i := 1533) (by decide +kernel), by decide +kernel⟩
theorem lkL_93 : ax_g (.methodLink RL 93 yX12_purpose) := ⟨List.mem_of_getElem? (i := 1537) (by decide +kernel), by decide +kernel⟩
theorem lkX12_355 : ax_g (.methodLink RX12 355 yX12_holds) := ⟨List.mem_of_getElem? (i := 1541) (by decide +kernel), by decide +kernel⟩
theorem lkL_97 : ax_g (.methodLink RL 97 yX12_table) := ⟨List.mem_of_getElem? (i := 1545) (by decide +kernel), by decide +kernel⟩
theorem lkX12_362 : ax_g (.methodLink RX12 362 yX12_holesBehind) := ⟨List.mem_of_getElem? (i := 1549) (by decide +kernel), by decide +kernel⟩
theorem lkX12_359 : ax_g (.methodLink RX12 359 yX12_allHoles) := ⟨List.mem_of_getElem? (i := 1553) (by decide +kernel), by decide +kernel⟩
theorem lkL_101 : ax_g (.methodLink RL 101 yX12_newcomer) := ⟨List.mem_of_getElem? (i := 1557) (by decide +kernel), by decide +kernel⟩
theorem lkX12_365 : ax_g (.methodLink RX12 365 yX12_isPlaceOf) := ⟨List.mem_of_getElem? (i := 1561) (by decide +kernel), by decide +kernel⟩
theorem lkL_105 : ax_g (.methodLink RL 105 yX12_swept) := ⟨List.mem_of_getElem? (i := 1565) (by decide +kernel), by decide +kernel⟩
theorem lkL_110 : ax_g (.methodLink RL 110 yX12_told) := ⟨List.mem_of_getElem? (i := 1569) (by decide +kernel), by decide +kernel⟩
theorem lkL_114 : ax_g (.methodLink RL 114 yX12_went) := ⟨List.mem_of_getElem? (i := 1573) (by decide +kernel), by decide +kernel⟩
theorem lkX12_368 : ax_g (.methodLink RX12 368 yX12_isSo) := ⟨List.mem_of_getElem? (i := 1577) (by decide +kernel), by decide +kernel⟩
theorem lkL_119 : ax_g (.methodLink RL 119 yX12_wars) := ⟨List.mem_of_getElem? (i := 1581) (by decide +kernel), by decide +kernel⟩
theorem lkX12_384 : ax_g (.methodLink RX12 384 yX12_draw) := ⟨List.mem_of_getElem? (i := 1585) (by decide +kernel), by decide +kernel⟩
theorem cnX12_376 : ax_g (.constantLong RX12 376 (1103515245)) := ⟨List.mem_of_getElem? (i := 1589) (by decide +kernel), by decide +kernel⟩
theorem cnX12_378 : ax_g (.constantLong RX12 378 (12345)) := ⟨List.mem_of_getElem? (i := 1590) (by decide +kernel), by decide +kernel⟩
theorem cnX12_380 : ax_g (.constantLong RX12 380 (2147483648)) := ⟨List.mem_of_getElem? (i := 1591) (by decide +kernel), by decide +kernel⟩
theorem cnX12_382 : ax_g (.constantLong RX12 382 (65536)) := ⟨List.mem_of_getElem? (i := 1592) (by decide +kernel), by decide +kernel⟩
theorem lkX12_387 : ax_g (.methodLink RX12 387 yX12_worn) := ⟨List.mem_of_getElem? (i := 1593) (by decide +kernel), by decide +kernel⟩
theorem lkL_124 : ax_g (.methodLink RL 124 yX12_mark) := ⟨List.mem_of_getElem? (i := 1597) (by decide +kernel), by decide +kernel⟩
theorem lkL_128 : ax_g (.methodLink RL 128 yX12_count) := ⟨List.mem_of_getElem? (i := 1601) (by decide +kernel), by decide +kernel⟩
theorem cnL_27 : ax_g (.constantLong RL 27 (4294967295)) := ⟨List.mem_of_getElem? (i := 1605) (by decide +kernel), by decide +kernel⟩
theorem slX6_125 : ax_g (.fieldLink RX6 125 "LostRoads$Token" "key" "J") := ⟨List.mem_of_getElem? (i := 1622) (by decide +kernel), by decide +kernel⟩
theorem slJx29ce0_7 : ax_g (.fieldLink RJx29ce0 7 "java/lang/Enum" "ordinal" "I") := ⟨List.mem_of_getElem? (i := 1623) (by decide +kernel), by decide +kernel⟩
theorem slX6_136 : ax_g (.fieldLink RX6 136 "LostRoads$Token" "inWay" "Z") := ⟨List.mem_of_getElem? (i := 1624) (by decide +kernel), by decide +kernel⟩
theorem slX6_140 : ax_g (.fieldLink RX6 140 "LostRoads$Token" "inShock" "Z") := ⟨List.mem_of_getElem? (i := 1625) (by decide +kernel), by decide +kernel⟩
theorem slX6_143 : ax_g (.fieldLink RX6 143 "LostRoads$Token" "inMend" "Z") := ⟨List.mem_of_getElem? (i := 1626) (by decide +kernel), by decide +kernel⟩
theorem snX2_184 : (.fieldLinkNest RX2 184 "LostRoads$Token" "step" "I" "LostRoads") ∈ lw_tbl := List.mem_of_getElem? (i := 1627) (by decide +kernel)
theorem snX2_181 : (.fieldLinkNest RX2 181 "LostRoads$Token" "level" "I" "LostRoads") ∈ lw_tbl := List.mem_of_getElem? (i := 1628) (by decide +kernel)
theorem ac_int : ax_g (.arrayClass .int) := ⟨List.mem_of_getElem? (i := 175) (by decide +kernel), by decide +kernel⟩
theorem ac_long : ax_g (.arrayClass .long) := ⟨List.mem_of_getElem? (i := 176) (by decide +kernel), by decide +kernel⟩
theorem ac_byte : ax_g (.arrayClass .byte) := ⟨List.mem_of_getElem? (i := 147) (by decide +kernel), by decide +kernel⟩
theorem ac_boolean : ax_g (.arrayClass .boolean) := ⟨List.mem_of_getElem? (i := 410) (by decide +kernel), by decide +kernel⟩
theorem ao_Token : (.arrayOver (.object "LostRoads$Token")) ∈ lw_tbl := List.mem_of_getElem? (i := 155) (by decide +kernel)
theorem ao_State : (.arrayOver (.object "LostRoads$State")) ∈ lw_tbl := List.mem_of_getElem? (i := 381) (by decide +kernel)
theorem oi_i : ax_g (.instanceMethod Lib.objectInit) := ⟨List.mem_of_getElem? (i := 130) (by decide +kernel), by decide +kernel⟩
theorem oi_c : ax_g (.code Lib.objectInit ⟨#[0xb1]⟩ 1 none) := ⟨List.mem_of_getElem? (i := 131) (by decide +kernel), by decide +kernel⟩
theorem cp_native : ax_g (.native arraycopyName) := ⟨List.mem_of_getElem? (i := 742) (by decide +kernel), by decide +kernel⟩
theorem cp_static : ax_g (.static arraycopyName) := ⟨List.mem_of_getElem? (i := 741) (by decide +kernel), by decide +kernel⟩
theorem cp_init : ax_g (.initialized "java/lang/System") := ⟨List.mem_of_getElem? (i := 118) (by decide +kernel), by decide +kernel⟩
