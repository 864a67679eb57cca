set_option maxRecDepth 100000 in
theorem lc_X2_besideAny : am_cd iX2_besideAny ∈ am_big := am_in (i := 623) rfl rfl
set_option maxRecDepth 100000 in
theorem lc_X2_init : am_cd iX2_init ∈ am_big := am_in (i := 151) rfl rfl
set_option maxRecDepth 100000 in
theorem lc_X2_lowestIn : am_cd iX2_lowestIn ∈ am_big := am_in (i := 619) rfl rfl
set_option maxRecDepth 100000 in
theorem lc_X2_nextRoom : am_cd iX2_nextRoom ∈ am_big := am_in (i := 616) rfl rfl
set_option maxRecDepth 100000 in
theorem lc_X2_turn : am_cd iX2_turn ∈ am_big := am_in (i := 604) rfl rfl
set_option maxRecDepth 100000 in
theorem lc_X2_wayCount : am_cd iX2_wayCount ∈ am_big := am_in (i := 642) rfl rfl
set_option maxRecDepth 100000 in
theorem lc_X3_add : am_cd iX3_add ∈ am_big := am_in (i := 293) rfl rfl
set_option maxRecDepth 100000 in
theorem lc_X3_addAll : am_cd iX3_addAll ∈ am_big := am_in (i := 349) rfl rfl
set_option maxRecDepth 100000 in
theorem lc_X3_at : am_cd iX3_at ∈ am_big := am_in (i := 336) rfl rfl
set_option maxRecDepth 100000 in
theorem lc_X3_copy : am_cd iX3_copy ∈ am_big := am_in (i := 343) rfl rfl
set_option maxRecDepth 100000 in
theorem lc_X3_empty : am_cd iX3_empty ∈ am_big := am_in (i := 193) rfl rfl
set_option maxRecDepth 100000 in
theorem lc_X3_init : am_cd iX3_init ∈ am_big := am_in (i := 46) rfl rfl
set_option maxRecDepth 100000 in
theorem lc_X3_length : am_cd iX3_length ∈ am_big := am_in (i := 189) rfl rfl
set_option maxRecDepth 100000 in
theorem lc_X3_standsIn : am_cd iX3_standsIn ∈ am_big := am_in (i := 499) rfl rfl
set_option maxRecDepth 100000 in
theorem lc_X4_addWord : am_cd iX4_addWord ∈ am_big := am_in (i := 420) rfl rfl
set_option maxRecDepth 100000 in
theorem lc_X4_beginOf : am_cd iX4_beginOf ∈ am_big := am_in (i := 455) rfl rfl
set_option maxRecDepth 100000 in
theorem lc_X4_findLeast : am_cd iX4_findLeast ∈ am_big := am_in (i := 429) rfl rfl
set_option maxRecDepth 100000 in
theorem lc_X4_findWords : am_cd iX4_findWords ∈ am_big := am_in (i := 414) rfl rfl
set_option maxRecDepth 100000 in
theorem lc_X4_init : am_cd iX4_init ∈ am_big := am_in (i := 84) rfl rfl
set_option maxRecDepth 100000 in
theorem lc_X4_lineCount : am_cd iX4_lineCount ∈ am_big := am_in (i := 438) rfl rfl
set_option maxRecDepth 100000 in
theorem lc_X4_longestWord : am_cd iX4_longestWord ∈ am_big := am_in (i := 424) rfl rfl
set_option maxRecDepth 100000 in
theorem lc_X4_set : am_cd iX4_set ∈ am_big := am_in (i := 410) rfl rfl
set_option maxRecDepth 100000 in
theorem lc_X4_signsOf : am_cd iX4_signsOf ∈ am_big := am_in (i := 459) rfl rfl
set_option maxRecDepth 100000 in
theorem lc_X4_sumOfSquares : am_cd iX4_sumOfSquares ∈ am_big := am_in (i := 451) rfl rfl
set_option maxRecDepth 100000 in
theorem lc_X4_takeLines : am_cd iX4_takeLines ∈ am_big := am_in (i := 434) rfl rfl
set_option maxRecDepth 100000 in
theorem lc_X5_add : am_cd iX5_add ∈ am_big := am_in (i := 573) rfl rfl
set_option maxRecDepth 100000 in
theorem lc_X5_init : am_cd iX5_init ∈ am_big := am_in (i := 132) rfl rfl
set_option maxRecDepth 100000 in
theorem lc_X5_lowestAround : am_cd iX5_lowestAround ∈ am_big := am_in (i := 584) rfl rfl
set_option maxRecDepth 100000 in
theorem lc_X5_lowestOverlapped : am_cd iX5_lowestOverlapped ∈ am_big := am_in (i := 565) rfl rfl
set_option maxRecDepth 100000 in
theorem lc_X5_squareOfDistance : am_cd iX5_squareOfDistance ∈ am_big := am_in (i := 569) rfl rfl
set_option maxRecDepth 100000 in
theorem lc_X5_total : am_cd iX5_total ∈ am_big := am_in (i := 555) rfl rfl
set_option maxRecDepth 100000 in
theorem lc_X6_arrow : am_cd iX6_arrow ∈ am_big := am_in (i := 612) rfl rfl
set_option maxRecDepth 100000 in
theorem lc_X6_back : am_cd iX6_back ∈ am_big := am_in (i := 535) rfl rfl
set_option maxRecDepth 100000 in
theorem lc_X6_canBeContracted : am_cd iX6_canBeContracted ∈ am_big := am_in (i := 479) rfl rfl
set_option maxRecDepth 100000 in
theorem lc_X6_cell : am_cd iX6_cell ∈ am_big := am_in (i := 527) rfl rfl
set_option maxRecDepth 100000 in
theorem lc_X6_clear : am_cd iX6_clear ∈ am_big := am_in (i := 185) rfl rfl
set_option maxRecDepth 100000 in
theorem lc_X6_contract : am_cd iX6_contract ∈ am_big := am_in (i := 476) rfl rfl
set_option maxRecDepth 100000 in
theorem lc_X6_count : am_cd iX6_count ∈ am_big := am_in (i := 630) rfl rfl
set_option maxRecDepth 100000 in
theorem lc_X6_falls : am_cd iX6_falls ∈ am_big := am_in (i := 363) rfl rfl
set_option maxRecDepth 100000 in
theorem lc_X6_fingers : am_cd iX6_fingers ∈ am_big := am_in (i := 510) rfl rfl
set_option maxRecDepth 100000 in
theorem lc_X6_firstWrongPlace : am_cd iX6_firstWrongPlace ∈ am_big := am_in (i := 332) rfl rfl
set_option maxRecDepth 100000 in
theorem lc_X6_heard : am_cd iX6_heard ∈ am_big := am_in (i := 580) rfl rfl
set_option maxRecDepth 100000 in
theorem lc_X6_init : am_cd iX6_init ∈ am_big := am_in (i := 38) rfl rfl
set_option maxRecDepth 100000 in
theorem lc_X6_isLetter : am_cd iX6_isLetter ∈ am_big := am_in (i := 273) rfl rfl
set_option maxRecDepth 100000 in
theorem lc_X6_level : am_cd iX6_level ∈ am_big := am_in (i := 466) rfl rfl
set_option maxRecDepth 100000 in
theorem lc_X6_levelOf : am_cd iX6_levelOf ∈ am_big := am_in (i := 469) rfl rfl
set_option maxRecDepth 100000 in
theorem lc_X6_line : am_cd iX6_line ∈ am_big := am_in (i := 445) rfl rfl
set_option maxRecDepth 100000 in
theorem lc_X6_lines : am_cd iX6_lines ∈ am_big := am_in (i := 399) rfl rfl
set_option maxRecDepth 100000 in
theorem lc_X6_mayFollow : am_cd iX6_mayFollow ∈ am_big := am_in (i := 339) rfl rfl
set_option maxRecDepth 100000 in
theorem lc_X6_needCaptionAndLanguage : am_cd iX6_needCaptionAndLanguage ∈ am_big := am_in (i := 304) rfl rfl
set_option maxRecDepth 100000 in
theorem lc_X6_needLanguage : am_cd iX6_needLanguage ∈ am_big := am_in (i := 323) rfl rfl
set_option maxRecDepth 100000 in
theorem lc_X6_needPoint : am_cd iX6_needPoint ∈ am_big := am_in (i := 559) rfl rfl
set_option maxRecDepth 100000 in
theorem lc_X6_needRoom : am_cd iX6_needRoom ∈ am_big := am_in (i := 594) rfl rfl
set_option maxRecDepth 100000 in
theorem lc_X6_ownCell : am_cd iX6_ownCell ∈ am_big := am_in (i := 519) rfl rfl
set_option maxRecDepth 100000 in
theorem lc_X6_ownSign : am_cd iX6_ownSign ∈ am_big := am_in (i := 543) rfl rfl
set_option maxRecDepth 100000 in
theorem lc_X6_shown : am_cd iX6_shown ∈ am_big := am_in (i := 374) rfl rfl
set_option maxRecDepth 100000 in
theorem lc_X6_sign : am_cd iX6_sign ∈ am_big := am_in (i := 386) rfl rfl
set_option maxRecDepth 100000 in
theorem lc_X6_text : am_cd iX6_text ∈ am_big := am_in (i := 301) rfl rfl
set_option maxRecDepth 100000 in
theorem lc_X6_unit : am_cd iX6_unit ∈ am_big := am_in (i := 202) rfl rfl
set_option maxRecDepth 100000 in
theorem lc_X6_way : am_cd iX6_way ∈ am_big := am_in (i := 591) rfl rfl
set_option maxRecDepth 100000 in
theorem lc_X6_zone : am_cd iX6_zone ∈ am_big := am_in (i := 551) rfl rfl
set_option maxRecDepth 100000 in
theorem lc_X7_arrow : am_cd iX7_arrow ∈ am_big := am_in (i := 857) rfl rfl
set_option maxRecDepth 100000 in
theorem lc_X7_back : am_cd iX7_back ∈ am_big := am_in (i := 835) rfl rfl
set_option maxRecDepth 100000 in
theorem lc_X7_below : am_cd iX7_below ∈ am_big := am_in (i := 767) rfl rfl
set_option maxRecDepth 100000 in
theorem lc_X7_cell : am_cd iX7_cell ∈ am_big := am_in (i := 831) rfl rfl
set_option maxRecDepth 100000 in
theorem lc_X7_clear : am_cd iX7_clear ∈ am_big := am_in (i := 757) rfl rfl
set_option maxRecDepth 100000 in
theorem lc_X7_contract : am_cd iX7_contract ∈ am_big := am_in (i := 815) rfl rfl
set_option maxRecDepth 100000 in
theorem lc_X7_count : am_cd iX7_count ∈ am_big := am_in (i := 865) rfl rfl
set_option maxRecDepth 100000 in
theorem lc_X7_falls : am_cd iX7_falls ∈ am_big := am_in (i := 775) rfl rfl
set_option maxRecDepth 100000 in
theorem lc_X7_fault : am_cd iX7_fault ∈ am_big := am_in (i := 771) rfl rfl
set_option maxRecDepth 100000 in
theorem lc_X7_fingers : am_cd iX7_fingers ∈ am_big := am_in (i := 823) rfl rfl
set_option maxRecDepth 100000 in
theorem lc_X7_goes : am_cd iX7_goes ∈ am_big := am_in (i := 753) rfl rfl
set_option maxRecDepth 100000 in
theorem lc_X7_heard : am_cd iX7_heard ∈ am_big := am_in (i := 849) rfl rfl
set_option maxRecDepth 100000 in
theorem lc_X7_init : am_cd iX7_init ∈ am_big := am_in (i := 648) rfl rfl
set_option maxRecDepth 100000 in
theorem lc_X7_isLetter : am_cd iX7_isLetter ∈ am_big := am_in (i := 749) rfl rfl
set_option maxRecDepth 100000 in
theorem lc_X7_isNearer : am_cd iX7_isNearer ∈ am_big := am_in (i := 845) rfl rfl
set_option maxRecDepth 100000 in
theorem lc_X7_isPad : am_cd iX7_isPad ∈ am_big := am_in (i := 819) rfl rfl
set_option maxRecDepth 100000 in
theorem lc_X7_isPair : am_cd iX7_isPair ∈ am_big := am_in (i := 764) rfl rfl
set_option maxRecDepth 100000 in
theorem lc_X7_isPoint : am_cd iX7_isPoint ∈ am_big := am_in (i := 842) rfl rfl
set_option maxRecDepth 100000 in
theorem lc_X7_latest : am_cd iX7_latest ∈ am_big := am_in (i := 795) rfl rfl
set_option maxRecDepth 100000 in
theorem lc_X7_level : am_cd iX7_level ∈ am_big := am_in (i := 811) rfl rfl
set_option maxRecDepth 100000 in
theorem lc_X7_line : am_cd iX7_line ∈ am_big := am_in (i := 807) rfl rfl
set_option maxRecDepth 100000 in
theorem lc_X7_lines : am_cd iX7_lines ∈ am_big := am_in (i := 791) rfl rfl
set_option maxRecDepth 100000 in
theorem lc_X7_measure : am_cd iX7_measure ∈ am_big := am_in (i := 861) rfl rfl
set_option maxRecDepth 100000 in
theorem lc_X7_part : am_cd iX7_part ∈ am_big := am_in (i := 799) rfl rfl
set_option maxRecDepth 100000 in
theorem lc_X7_shown : am_cd iX7_shown ∈ am_big := am_in (i := 779) rfl rfl
set_option maxRecDepth 100000 in
theorem lc_X7_shownIn : am_cd iX7_shownIn ∈ am_big := am_in (i := 783) rfl rfl
set_option maxRecDepth 100000 in
theorem lc_X7_sign : am_cd iX7_sign ∈ am_big := am_in (i := 787) rfl rfl
set_option maxRecDepth 100000 in
theorem lc_X7_solve : am_cd iX7_solve ∈ am_big := am_in (i := 803) rfl rfl
set_option maxRecDepth 100000 in
theorem lc_X7_stands : am_cd iX7_stands ∈ am_big := am_in (i := 827) rfl rfl
set_option maxRecDepth 100000 in
theorem lc_X7_text : am_cd iX7_text ∈ am_big := am_in (i := 761) rfl rfl
set_option maxRecDepth 100000 in
theorem lc_X7_thrown : am_cd iX7_thrown ∈ am_big := am_in (i := 742) rfl rfl
set_option maxRecDepth 100000 in
theorem lc_X7_unit : am_cd iX7_unit ∈ am_big := am_in (i := 746) rfl rfl
set_option maxRecDepth 100000 in
theorem lc_X7_way : am_cd iX7_way ∈ am_big := am_in (i := 853) rfl rfl
set_option maxRecDepth 100000 in
theorem lc_X7_zone : am_cd iX7_zone ∈ am_big := am_in (i := 839) rfl rfl
theorem lv_X6_11 : am_CI RX6 11 1 iX3_init := ⟨List.forall_mem_cons.mpr ⟨am_in (i := 44) (by decide +kernel) (by decide +kernel), List.forall_mem_cons.mpr ⟨am_in (i := 45) (by decide +kernel) (by decide +kernel), List.forall_mem_cons.mpr ⟨am_in (i := 20) (by decide +kernel) (by decide +kernel), fun _ h => absurd h List.not_mem_nil⟩⟩⟩, lc_X3_init, rfl, rfl, rfl, by decide +kernel, by decide +kernel, by decide +kernel⟩
theorem lv_X6_20 : am_CI RX6 20 0 iX0_init := ⟨List.forall_mem_cons.mpr ⟨am_in (i := 61) (by decide +kernel) (by decide +kernel), List.forall_mem_cons.mpr ⟨am_in (i := 62) (by decide +kernel) (by decide +kernel), List.forall_mem_cons.mpr ⟨am_in (i := 22) (by decide +kernel) (by decide +kernel), fun _ h => absurd h List.not_mem_nil⟩⟩⟩, lc_X0_init, rfl, rfl, rfl, by decide +kernel, by decide +kernel, by decide +kernel⟩
theorem lv_X6_27 : am_CI RX6 27 0 iX4_init := ⟨List.forall_mem_cons.mpr ⟨am_in (i := 82) (by decide +kernel) (by decide +kernel), List.forall_mem_cons.mpr ⟨am_in (i := 83) (by decide +kernel) (by decide +kernel), List.forall_mem_cons.mpr ⟨am_in (i := 23) (by decide +kernel) (by decide +kernel), fun _ h => absurd h List.not_mem_nil⟩⟩⟩, lc_X4_init, rfl, rfl, rfl, by decide +kernel, by decide +kernel, by decide +kernel⟩
theorem lv_X6_34 : am_CI RX6 34 0 iX1_init := ⟨List.forall_mem_cons.mpr ⟨am_in (i := 116) (by decide +kernel) (by decide +kernel), List.forall_mem_cons.mpr ⟨am_in (i := 117) (by decide +kernel) (by decide +kernel), List.forall_mem_cons.mpr ⟨am_in (i := 24) (by decide +kernel) (by decide +kernel), fun _ h => absurd h List.not_mem_nil⟩⟩⟩, lc_X1_init, rfl, rfl, rfl, by decide +kernel, by decide +kernel, by decide +kernel⟩
theorem lv_X6_44 : am_CI RX6 44 0 iX5_init := ⟨List.forall_mem_cons.mpr ⟨am_in (i := 130) (by decide +kernel) (by decide +kernel), List.forall_mem_cons.mpr ⟨am_in (i := 131) (by decide +kernel) (by decide +kernel), List.forall_mem_cons.mpr ⟨am_in (i := 25) (by decide +kernel) (by decide +kernel), fun _ h => absurd h List.not_mem_nil⟩⟩⟩, lc_X5_init, rfl, rfl, rfl, by decide +kernel, by decide +kernel, by decide +kernel⟩
theorem lv_X6_51 : am_CI RX6 51 0 iX2_init := ⟨List.forall_mem_cons.mpr ⟨am_in (i := 149) (by decide +kernel) (by decide +kernel), List.forall_mem_cons.mpr ⟨am_in (i := 150) (by decide +kernel) (by decide +kernel), List.forall_mem_cons.mpr ⟨am_in (i := 26) (by decide +kernel) (by decide +kernel), fun _ h => absurd h List.not_mem_nil⟩⟩⟩, lc_X2_init, rfl, rfl, rfl, by decide +kernel, by decide +kernel, by decide +kernel⟩
theorem lv_X6_56 : am_CV RX6 56 3 0 iX3_length := ⟨TX3, 2, rfl, List.forall_mem_cons.mpr ⟨am_in (i := 186) (by decide +kernel) (by decide +kernel), List.forall_mem_cons.mpr ⟨am_in (i := 187) (by decide +kernel) (by decide +kernel), List.forall_mem_cons.mpr ⟨am_in (i := 188) (by decide +kernel) (by decide +kernel), List.forall_mem_cons.mpr ⟨am_in (i := 20) (by decide +kernel) (by decide +kernel), fun _ h => absurd h List.not_mem_nil⟩⟩⟩⟩, lc_X3_length, rfl, by decide +kernel, by decide +kernel, by decide +kernel⟩
theorem lv_X6_67 : am_CS RX6 67 1 iX6_isLetter := ⟨List.forall_mem_cons.mpr ⟨am_in (i := 271) (by decide +kernel) (by decide +kernel), List.forall_mem_cons.mpr ⟨am_in (i := 272) (by decide +kernel) (by decide +kernel), List.forall_mem_cons.mpr ⟨am_in (i := 19) (by decide +kernel) (by decide +kernel), fun _ h => absurd h List.not_mem_nil⟩⟩⟩, lc_X6_isLetter, by decide +kernel, by decide +kernel, by decide +kernel⟩
theorem lv_X6_76 : am_CV RX6 76 3 1 iX3_add := ⟨TX3, 2, rfl, List.forall_mem_cons.mpr ⟨am_in (i := 290) (by decide +kernel) (by decide +kernel), List.forall_mem_cons.mpr ⟨am_in (i := 291) (by decide +kernel) (by decide +kernel), List.forall_mem_cons.mpr ⟨am_in (i := 292) (by decide +kernel) (by decide +kernel), List.forall_mem_cons.mpr ⟨am_in (i := 20) (by decide +kernel) (by decide +kernel), fun _ h => absurd h List.not_mem_nil⟩⟩⟩⟩, lc_X3_add, rfl, by decide +kernel, by decide +kernel, by decide +kernel⟩
theorem lv_X6_79 : am_CV RX6 79 3 0 iX3_empty := ⟨TX3, 2, rfl, List.forall_mem_cons.mpr ⟨am_in (i := 190) (by decide +kernel) (by decide +kernel), List.forall_mem_cons.mpr ⟨am_in (i := 191) (by decide +kernel) (by decide +kernel), List.forall_mem_cons.mpr ⟨am_in (i := 192) (by decide +kernel) (by decide +kernel), List.forall_mem_cons.mpr ⟨am_in (i := 20) (by decide +kernel) (by decide +kernel), fun _ h => absurd h List.not_mem_nil⟩⟩⟩⟩, lc_X3_empty, rfl, by decide +kernel, by decide +kernel, by decide +kernel⟩
theorem lv_X6_82 : am_CS RX6 82 2 iX6_needCaptionAndLanguage := ⟨List.forall_mem_cons.mpr ⟨am_in (i := 302) (by decide +kernel) (by decide +kernel), List.forall_mem_cons.mpr ⟨am_in (i := 303) (by decide +kernel) (by decide +kernel), List.forall_mem_cons.mpr ⟨am_in (i := 19) (by decide +kernel) (by decide +kernel), fun _ h => absurd h List.not_mem_nil⟩⟩⟩, lc_X6_needCaptionAndLanguage, by decide +kernel, by decide +kernel, by decide +kernel⟩
theorem lv_X6_86 : am_CV RX6 86 0 2 iX0_versionsOf := ⟨TX0, 4, rfl, List.forall_mem_cons.mpr ⟨am_in (i := 325) (by decide +kernel) (by decide +kernel), List.forall_mem_cons.mpr ⟨am_in (i := 326) (by decide +kernel) (by decide +kernel), List.forall_mem_cons.mpr ⟨am_in (i := 327) (by decide +kernel) (by decide +kernel), List.forall_mem_cons.mpr ⟨am_in (i := 22) (by decide +kernel) (by decide +kernel), fun _ h => absurd h List.not_mem_nil⟩⟩⟩⟩, lc_X0_versionsOf, rfl, by decide +kernel, by decide +kernel, by decide +kernel⟩
theorem lv_X6_92 : am_CS RX6 92 1 iX6_firstWrongPlace := ⟨List.forall_mem_cons.mpr ⟨am_in (i := 330) (by decide +kernel) (by decide +kernel), List.forall_mem_cons.mpr ⟨am_in (i := 331) (by decide +kernel) (by decide +kernel), List.forall_mem_cons.mpr ⟨am_in (i := 19) (by decide +kernel) (by decide +kernel), fun _ h => absurd h List.not_mem_nil⟩⟩⟩, lc_X6_firstWrongPlace, by decide +kernel, by decide +kernel, by decide +kernel⟩
theorem lv_X6_96 : am_CV RX6 96 3 0 iX3_copy := ⟨TX3, 2, rfl, List.forall_mem_cons.mpr ⟨am_in (i := 340) (by decide +kernel) (by decide +kernel), List.forall_mem_cons.mpr ⟨am_in (i := 341) (by decide +kernel) (by decide +kernel), List.forall_mem_cons.mpr ⟨am_in (i := 342) (by decide +kernel) (by decide +kernel), List.forall_mem_cons.mpr ⟨am_in (i := 20) (by decide +kernel) (by decide +kernel), fun _ h => absurd h List.not_mem_nil⟩⟩⟩⟩, lc_X3_copy, rfl, by decide +kernel, by decide +kernel, by decide +kernel⟩
theorem lv_X6_100 : am_CV RX6 100 0 3 iX0_addVersion := ⟨TX0, 4, rfl, List.forall_mem_cons.mpr ⟨am_in (i := 353) (by decide +kernel) (by decide +kernel), List.forall_mem_cons.mpr ⟨am_in (i := 354) (by decide +kernel) (by decide +kernel), List.forall_mem_cons.mpr ⟨am_in (i := 355) (by decide +kernel) (by decide +kernel), List.forall_mem_cons.mpr ⟨am_in (i := 22) (by decide +kernel) (by decide +kernel), fun _ h => absurd h List.not_mem_nil⟩⟩⟩⟩, lc_X0_addVersion, rfl, by decide +kernel, by decide +kernel, by decide +kernel⟩
theorem lv_X6_104 : am_CS RX6 104 1 iX6_needLanguage := ⟨List.forall_mem_cons.mpr ⟨am_in (i := 321) (by decide +kernel) (by decide +kernel), List.forall_mem_cons.mpr ⟨am_in (i := 322) (by decide +kernel) (by decide +kernel), List.forall_mem_cons.mpr ⟨am_in (i := 19) (by decide +kernel) (by decide +kernel), fun _ h => absurd h List.not_mem_nil⟩⟩⟩, lc_X6_needLanguage, by decide +kernel, by decide +kernel, by decide +kernel⟩
theorem lv_X6_107 : am_CV RX6 107 0 2 iX0_fallBack := ⟨TX0, 4, rfl, List.forall_mem_cons.mpr ⟨am_in (i := 364) (by decide +kernel) (by decide +kernel), List.forall_mem_cons.mpr ⟨am_in (i := 365) (by decide +kernel) (by decide +kernel), List.forall_mem_cons.mpr ⟨am_in (i := 366) (by decide +kernel) (by decide +kernel), List.forall_mem_cons.mpr ⟨am_in (i := 22) (by decide +kernel) (by decide +kernel), fun _ h => absurd h List.not_mem_nil⟩⟩⟩⟩, lc_X0_fallBack, rfl, by decide +kernel, by decide +kernel, by decide +kernel⟩
theorem lv_X6_111 : am_CV RX6 111 0 2 iX0_languageShown := ⟨TX0, 4, rfl, List.forall_mem_cons.mpr ⟨am_in (i := 375) (by decide +kernel) (by decide +kernel), List.forall_mem_cons.mpr ⟨am_in (i := 376) (by decide +kernel) (by decide +kernel), List.forall_mem_cons.mpr ⟨am_in (i := 377) (by decide +kernel) (by decide +kernel), List.forall_mem_cons.mpr ⟨am_in (i := 22) (by decide +kernel) (by decide +kernel), fun _ h => absurd h List.not_mem_nil⟩⟩⟩⟩, lc_X0_languageShown, rfl, by decide +kernel, by decide +kernel, by decide +kernel⟩
theorem lv_X6_114 : am_CV RX6 114 0 3 iX0_version := ⟨TX0, 4, rfl, List.forall_mem_cons.mpr ⟨am_in (i := 387) (by decide +kernel) (by decide +kernel), List.forall_mem_cons.mpr ⟨am_in (i := 388) (by decide +kernel) (by decide +kernel), List.forall_mem_cons.mpr ⟨am_in (i := 389) (by decide +kernel) (by decide +kernel), List.forall_mem_cons.mpr ⟨am_in (i := 22) (by decide +kernel) (by decide +kernel), fun _ h => absurd h List.not_mem_nil⟩⟩⟩⟩, lc_X0_version, rfl, by decide +kernel, by decide +kernel, by decide +kernel⟩
theorem lv_X6_125 : am_CV RX6 125 3 1 iX3_at := ⟨TX3, 2, rfl, List.forall_mem_cons.mpr ⟨am_in (i := 333) (by decide +kernel) (by decide +kernel), List.forall_mem_cons.mpr ⟨am_in (i := 334) (by decide +kernel) (by decide +kernel), List.forall_mem_cons.mpr ⟨am_in (i := 335) (by decide +kernel) (by decide +kernel), List.forall_mem_cons.mpr ⟨am_in (i := 20) (by decide +kernel) (by decide +kernel), fun _ h => absurd h List.not_mem_nil⟩⟩⟩⟩, lc_X3_at, rfl, by decide +kernel, by decide +kernel, by decide +kernel⟩
theorem lv_X6_131 : am_CV RX6 131 0 2 iX0_latestShown := ⟨TX0, 4, rfl, List.forall_mem_cons.mpr ⟨am_in (i := 401) (by decide +kernel) (by decide +kernel), List.forall_mem_cons.mpr ⟨am_in (i := 402) (by decide +kernel) (by decide +kernel), List.forall_mem_cons.mpr ⟨am_in (i := 403) (by decide +kernel) (by decide +kernel), List.forall_mem_cons.mpr ⟨am_in (i := 22) (by decide +kernel) (by decide +kernel), fun _ h => absurd h List.not_mem_nil⟩⟩⟩⟩, lc_X0_latestShown, rfl, by decide +kernel, by decide +kernel, by decide +kernel⟩
theorem lv_X6_135 : am_CV RX6 135 4 2 iX4_set := ⟨TX4, 9, rfl, List.forall_mem_cons.mpr ⟨am_in (i := 407) (by decide +kernel) (by decide +kernel), List.forall_mem_cons.mpr ⟨am_in (i := 408) (by decide +kernel) (by decide +kernel), List.forall_mem_cons.mpr ⟨am_in (i := 409) (by decide +kernel) (by decide +kernel), List.forall_mem_cons.mpr ⟨am_in (i := 23) (by decide +kernel) (by decide +kernel), fun _ h => absurd h List.not_mem_nil⟩⟩⟩⟩, lc_X4_set, rfl, by decide +kernel, by decide +kernel, by decide +kernel⟩
theorem lv_X6_139 : am_CV RX6 139 4 0 iX4_lineCount := ⟨TX4, 9, rfl, List.forall_mem_cons.mpr ⟨am_in (i := 435) (by decide +kernel) (by decide +kernel), List.forall_mem_cons.mpr ⟨am_in (i := 436) (by decide +kernel) (by decide +kernel), List.forall_mem_cons.mpr ⟨am_in (i := 437) (by decide +kernel) (by decide +kernel), List.forall_mem_cons.mpr ⟨am_in (i := 23) (by decide +kernel) (by decide +kernel), fun _ h => absurd h List.not_mem_nil⟩⟩⟩⟩, lc_X4_lineCount, rfl, by decide +kernel, by decide +kernel, by decide +kernel⟩
theorem lv_X6_146 : am_CV RX6 146 4 0 iX4_sumOfSquares := ⟨TX4, 9, rfl, List.forall_mem_cons.mpr ⟨am_in (i := 448) (by decide +kernel) (by decide +kernel), List.forall_mem_cons.mpr ⟨am_in (i := 449) (by decide +kernel) (by decide +kernel), List.forall_mem_cons.mpr ⟨am_in (i := 450) (by decide +kernel) (by decide +kernel), List.forall_mem_cons.mpr ⟨am_in (i := 23) (by decide +kernel) (by decide +kernel), fun _ h => absurd h List.not_mem_nil⟩⟩⟩⟩, lc_X4_sumOfSquares, rfl, by decide +kernel, by decide +kernel, by decide +kernel⟩
theorem lv_X6_149 : am_CV RX6 149 4 1 iX4_beginOf := ⟨TX4, 9, rfl, List.forall_mem_cons.mpr ⟨am_in (i := 452) (by decide +kernel) (by decide +kernel), List.forall_mem_cons.mpr ⟨am_in (i := 453) (by decide +kernel) (by decide +kernel), List.forall_mem_cons.mpr ⟨am_in (i := 454) (by decide +kernel) (by decide +kernel), List.forall_mem_cons.mpr ⟨am_in (i := 23) (by decide +kernel) (by decide +kernel), fun _ h => absurd h List.not_mem_nil⟩⟩⟩⟩, lc_X4_beginOf, rfl, by decide +kernel, by decide +kernel, by decide +kernel⟩
theorem lv_X6_152 : am_CV RX6 152 4 1 iX4_signsOf := ⟨TX4, 9, rfl, List.forall_mem_cons.mpr ⟨am_in (i := 456) (by decide +kernel) (by decide +kernel), List.forall_mem_cons.mpr ⟨am_in (i := 457) (by decide +kernel) (by decide +kernel), List.forall_mem_cons.mpr ⟨am_in (i := 458) (by decide +kernel) (by decide +kernel), List.forall_mem_cons.mpr ⟨am_in (i := 23) (by decide +kernel) (by decide +kernel), fun _ h => absurd h List.not_mem_nil⟩⟩⟩⟩, lc_X4_signsOf, rfl, by decide +kernel, by decide +kernel, by decide +kernel⟩
theorem lv_X6_155 : am_CS RX6 155 1 iX6_levelOf := ⟨List.forall_mem_cons.mpr ⟨am_in (i := 467) (by decide +kernel) (by decide +kernel), List.forall_mem_cons.mpr ⟨am_in (i := 468) (by decide +kernel) (by decide +kernel), List.forall_mem_cons.mpr ⟨am_in (i := 19) (by decide +kernel) (by decide +kernel), fun _ h => absurd h List.not_mem_nil⟩⟩⟩, lc_X6_levelOf, by decide +kernel, by decide +kernel, by decide +kernel⟩
theorem lv_X6_158 : am_CS RX6 158 1 iX6_canBeContracted := ⟨List.forall_mem_cons.mpr ⟨am_in (i := 477) (by decide +kernel) (by decide +kernel), List.forall_mem_cons.mpr ⟨am_in (i := 478) (by decide +kernel) (by decide +kernel), List.forall_mem_cons.mpr ⟨am_in (i := 19) (by decide +kernel) (by decide +kernel), fun _ h => absurd h List.not_mem_nil⟩⟩⟩, lc_X6_canBeContracted, by decide +kernel, by decide +kernel, by decide +kernel⟩
theorem lv_X6_166 : am_CV RX6 166 1 1 iX1_rowOf := ⟨TX1, 2, rfl, List.forall_mem_cons.mpr ⟨am_in (i := 482) (by decide +kernel) (by decide +kernel), List.forall_mem_cons.mpr ⟨am_in (i := 483) (by decide +kernel) (by decide +kernel), List.forall_mem_cons.mpr ⟨am_in (i := 484) (by decide +kernel) (by decide +kernel), List.forall_mem_cons.mpr ⟨am_in (i := 24) (by decide +kernel) (by decide +kernel), fun _ h => absurd h List.not_mem_nil⟩⟩⟩⟩, lc_X1_rowOf, rfl, by decide +kernel, by decide +kernel, by decide +kernel⟩
theorem lv_X6_170 : am_CV RX6 170 1 1 iX1_has := ⟨TX1, 2, rfl, List.forall_mem_cons.mpr ⟨am_in (i := 486) (by decide +kernel) (by decide +kernel), List.forall_mem_cons.mpr ⟨am_in (i := 487) (by decide +kernel) (by decide +kernel), List.forall_mem_cons.mpr ⟨am_in (i := 488) (by decide +kernel) (by decide +kernel), List.forall_mem_cons.mpr ⟨am_in (i := 24) (by decide +kernel) (by decide +kernel), fun _ h => absurd h List.not_mem_nil⟩⟩⟩⟩, lc_X1_has, rfl, by decide +kernel, by decide +kernel, by decide +kernel⟩
theorem lv_X6_173 : am_CV RX6 173 1 2 iX1_put := ⟨TX1, 2, rfl, List.forall_mem_cons.mpr ⟨am_in (i := 500) (by decide +kernel) (by decide +kernel), List.forall_mem_cons.mpr ⟨am_in (i := 501) (by decide +kernel) (by decide +kernel), List.forall_mem_cons.mpr ⟨am_in (i := 502) (by decide +kernel) (by decide +kernel), List.forall_mem_cons.mpr ⟨am_in (i := 24) (by decide +kernel) (by decide +kernel), fun _ h => absurd h List.not_mem_nil⟩⟩⟩⟩, lc_X1_put, rfl, by decide +kernel, by decide +kernel, by decide +kernel⟩
theorem lv_X6_177 : am_CV RX6 177 1 2 iX1_write := ⟨TX1, 2, rfl, List.forall_mem_cons.mpr ⟨am_in (i := 511) (by decide +kernel) (by decide +kernel), List.forall_mem_cons.mpr ⟨am_in (i := 512) (by decide +kernel) (by decide +kernel), List.forall_mem_cons.mpr ⟨am_in (i := 513) (by decide +kernel) (by decide +kernel), List.forall_mem_cons.mpr ⟨am_in (i := 24) (by decide +kernel) (by decide +kernel), fun _ h => absurd h List.not_mem_nil⟩⟩⟩⟩, lc_X1_write, rfl, by decide +kernel, by decide +kernel, by decide +kernel⟩
theorem lv_X6_185 : am_CV RX6 185 1 2 iX1_read := ⟨TX1, 2, rfl, List.forall_mem_cons.mpr ⟨am_in (i := 537) (by decide +kernel) (by decide +kernel), List.forall_mem_cons.mpr ⟨am_in (i := 538) (by decide +kernel) (by decide +kernel), List.forall_mem_cons.mpr ⟨am_in (i := 539) (by decide +kernel) (by decide +kernel), List.forall_mem_cons.mpr ⟨am_in (i := 24) (by decide +kernel) (by decide +kernel), fun _ h => absurd h List.not_mem_nil⟩⟩⟩⟩, lc_X1_read, rfl, by decide +kernel, by decide +kernel, by decide +kernel⟩
theorem lv_X6_188 : am_CV RX6 188 5 0 iX5_total := ⟨TX5, 4, rfl, List.forall_mem_cons.mpr ⟨am_in (i := 552) (by decide +kernel) (by decide +kernel), List.forall_mem_cons.mpr ⟨am_in (i := 553) (by decide +kernel) (by decide +kernel), List.forall_mem_cons.mpr ⟨am_in (i := 554) (by decide +kernel) (by decide +kernel), List.forall_mem_cons.mpr ⟨am_in (i := 25) (by decide +kernel) (by decide +kernel), fun _ h => absurd h List.not_mem_nil⟩⟩⟩⟩, lc_X5_total, rfl, by decide +kernel, by decide +kernel, by decide +kernel⟩
theorem lv_X6_193 : am_CS RX6 193 2 iX6_needPoint := ⟨List.forall_mem_cons.mpr ⟨am_in (i := 557) (by decide +kernel) (by decide +kernel), List.forall_mem_cons.mpr ⟨am_in (i := 558) (by decide +kernel) (by decide +kernel), List.forall_mem_cons.mpr ⟨am_in (i := 19) (by decide +kernel) (by decide +kernel), fun _ h => absurd h List.not_mem_nil⟩⟩⟩, lc_X6_needPoint, by decide +kernel, by decide +kernel, by decide +kernel⟩
