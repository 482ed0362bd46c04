theorem lw0_k {n : Nat} {w : Cond} (h : lw_tbl[n]? = some w) (g : goodWord w = true) : w ∈ lw0 := lw0_in h g
set_option maxRecDepth 100000 in
theorem mt_X8_init : MthN yX8_init cX8_init 2 none 0 := ⟨lw0_in (n := 77) rfl rfl, lw0_in (n := 55) (by decide +kernel) rfl, ⟨by decide, by decide⟩, by decide +kernel, by decide⟩
set_option maxRecDepth 100000 in
theorem mt_X3_init : MthN yX3_init cX3_init 1 none 0 := ⟨lw0_in (n := 89) rfl rfl, lw0_in (n := 56) (by decide +kernel) rfl, ⟨by decide, by decide⟩, by decide +kernel, by decide⟩
set_option maxRecDepth 100000 in
theorem mt_X0_init : MthN yX0_init cX0_init 1 none 0 := ⟨lw0_in (n := 113) rfl rfl, lw0_in (n := 57) (by decide +kernel) rfl, ⟨by decide, by decide⟩, by decide +kernel, by decide⟩
set_option maxRecDepth 100000 in
theorem mt_X7_init : MthN yX7_init cX7_init 1 none 0 := ⟨lw0_in (n := 134) rfl rfl, lw0_in (n := 58) (by decide +kernel) rfl, ⟨by decide, by decide⟩, by decide +kernel, by decide⟩
set_option maxRecDepth 100000 in
theorem mt_J7_fill_53178 : MthN yJ7_fill_53178 cJ7_fill_53178 4 none 2 := ⟨lw0_in (n := 138) rfl rfl, lw0_in (n := 59) (by decide +kernel) rfl, ⟨by decide, by decide⟩, by decide +kernel, by decide⟩
set_option maxRecDepth 100000 in
theorem mt_X6_init : MthN yX6_init cX6_init 1 none 0 := ⟨lw0_in (n := 174) rfl rfl, lw0_in (n := 60) (by decide +kernel) rfl, ⟨by decide, by decide⟩, by decide +kernel, by decide⟩
set_option maxRecDepth 100000 in
theorem mt_X2_init : MthN yX2_init cX2_init 1 none 0 := ⟨lw0_in (n := 180) rfl rfl, lw0_in (n := 61) (by decide +kernel) rfl, ⟨by decide, by decide⟩, by decide +kernel, by decide⟩
set_option maxRecDepth 100000 in
theorem mt_X5_init : MthN yX5_init cX5_init 1 none 0 := ⟨lw0_in (n := 193) rfl rfl, lw0_in (n := 62) (by decide +kernel) rfl, ⟨by decide, by decide⟩, by decide +kernel, by decide⟩
set_option maxRecDepth 100000 in
theorem mt_X4_init : MthN yX4_init cX4_init 1 none 0 := ⟨lw0_in (n := 230) rfl rfl, lw0_in (n := 63) (by decide +kernel) rfl, ⟨by decide, by decide⟩, by decide +kernel, by decide⟩
set_option maxRecDepth 100000 in
theorem mt_X8_door : MthN yX8_door cX8_door 4 (some .int) 3 := ⟨lw0_in (n := 286) rfl rfl, lw0_in (n := 55) (by decide +kernel) rfl, ⟨by decide, by decide⟩, by decide +kernel, by decide⟩
set_option maxRecDepth 100000 in
theorem mt_X8_isBlock : MthN yX8_isBlock cX8_isBlock 1 (some .boolean) 1 := ⟨lw0_in (n := 289) rfl rfl, lw0_in (n := 55) (by decide +kernel) rfl, ⟨by decide, by decide⟩, by decide +kernel, by decide⟩
set_option maxRecDepth 100000 in
theorem mt_X8_refuse : MthN yX8_refuse cX8_refuse 2 (some .int) 1 := ⟨lw0_in (n := 293) rfl rfl, lw0_in (n := 55) (by decide +kernel) rfl, ⟨by decide, by decide⟩, by decide +kernel, by decide⟩
set_option maxRecDepth 100000 in
theorem mt_X8_isLike : MthN yX8_isLike cX8_isLike 1 (some .boolean) 1 := ⟨lw0_in (n := 296) rfl rfl, lw0_in (n := 55) (by decide +kernel) rfl, ⟨by decide, by decide⟩, by decide +kernel, by decide⟩
set_option maxRecDepth 100000 in
theorem mt_X1_init : MthN yX1_init cX1_init 4 none 3 := ⟨lw0_in (n := 300) rfl rfl, lw0_in (n := 65) (by decide +kernel) rfl, ⟨by decide, by decide⟩, by decide +kernel, by decide⟩
set_option maxRecDepth 100000 in
theorem mt_X8_near : MthN yX8_near cX8_near 3 (some .int) 2 := ⟨lw0_in (n := 357) rfl rfl, lw0_in (n := 55) (by decide +kernel) rfl, ⟨by decide, by decide⟩, by decide +kernel, by decide⟩
set_option maxRecDepth 100000 in
theorem mt_X7_join : MthN yX7_join cX7_join 4 (some .boolean) 2 := ⟨lw0_in (n := 361) rfl rfl, lw0_in (n := 58) (by decide +kernel) rfl, ⟨by decide, by decide⟩, by decide +kernel, by decide⟩
set_option maxRecDepth 100000 in
theorem mt_X8_row : MthN yX8_row cX8_row 4 (some .int) 3 := ⟨lw0_in (n := 365) rfl rfl, lw0_in (n := 55) (by decide +kernel) rfl, ⟨by decide, by decide⟩, by decide +kernel, by decide⟩
set_option maxRecDepth 100000 in
theorem mt_X8_isShelf : MthN yX8_isShelf cX8_isShelf 1 (some .boolean) 1 := ⟨lw0_in (n := 368) rfl rfl, lw0_in (n := 55) (by decide +kernel) rfl, ⟨by decide, by decide⟩, by decide +kernel, by decide⟩
set_option maxRecDepth 100000 in
theorem mt_X4_putRow : MthN yX4_putRow cX4_putRow 3 none 2 := ⟨lw0_in (n := 372) rfl rfl, lw0_in (n := 63) (by decide +kernel) rfl, ⟨by decide, by decide⟩, by decide +kernel, by decide⟩
set_option maxRecDepth 100000 in
theorem mt_X4_putNothing : MthN yX4_putNothing cX4_putNothing 1 none 0 := ⟨lw0_in (n := 376) rfl rfl, lw0_in (n := 63) (by decide +kernel) rfl, ⟨by decide, by decide⟩, by decide +kernel, by decide⟩
set_option maxRecDepth 100000 in
theorem mt_J7_fill_d0a16 : MthN yJ7_fill_d0a16 cJ7_fill_d0a16 5 none 2 := ⟨lw0_in (n := 379) rfl rfl, lw0_in (n := 59) (by decide +kernel) rfl, ⟨by decide, by decide⟩, by decide +kernel, by decide⟩
set_option maxRecDepth 100000 in
theorem mt_X8_set : MthN yX8_set cX8_set 6 (some .int) 3 := ⟨lw0_in (n := 383) rfl rfl, lw0_in (n := 55) (by decide +kernel) rfl, ⟨by decide, by decide⟩, by decide +kernel, by decide⟩
set_option maxRecDepth 100000 in
theorem mt_X4_fitAsRow : MthN yX4_fitAsRow cX4_fitAsRow 1 (some .int) 0 := ⟨lw0_in (n := 387) rfl rfl, lw0_in (n := 63) (by decide +kernel) rfl, ⟨by decide, by decide⟩, by decide +kernel, by decide⟩
set_option maxRecDepth 100000 in
theorem mt_X4_isDoor : MthN yX4_isDoor cX4_isDoor 1 (some .boolean) 0 := ⟨lw0_in (n := 391) rfl rfl, lw0_in (n := 63) (by decide +kernel) rfl, ⟨by decide, by decide⟩, by decide +kernel, by decide⟩
set_option maxRecDepth 100000 in
theorem mt_X4_isRow : MthN yX4_isRow cX4_isRow 1 (some .boolean) 0 := ⟨lw0_in (n := 395) rfl rfl, lw0_in (n := 63) (by decide +kernel) rfl, ⟨by decide, by decide⟩, by decide +kernel, by decide⟩
set_option maxRecDepth 100000 in
theorem mt_X4_hasElement : MthN yX4_hasElement cX4_hasElement 2 (some .boolean) 1 := ⟨lw0_in (n := 399) rfl rfl, lw0_in (n := 63) (by decide +kernel) rfl, ⟨by decide, by decide⟩, by decide +kernel, by decide⟩
set_option maxRecDepth 100000 in
theorem mt_X4_putElement : MthN yX4_putElement cX4_putElement 4 none 2 := ⟨lw0_in (n := 403) rfl rfl, lw0_in (n := 63) (by decide +kernel) rfl, ⟨by decide, by decide⟩, by decide +kernel, by decide⟩
set_option maxRecDepth 100000 in
theorem mt_X4_lowestBits : MthN yX4_lowestBits cX4_lowestBits 3 (some .long) 1 := ⟨lw0_in (n := 408) rfl rfl, lw0_in (n := 63) (by decide +kernel) rfl, ⟨by decide, by decide⟩, by decide +kernel, by decide⟩
set_option maxRecDepth 100000 in
theorem mt_X8_copy : MthN yX8_copy cX8_copy 8 (some .int) 5 := ⟨lw0_in (n := 412) rfl rfl, lw0_in (n := 55) (by decide +kernel) rfl, ⟨by decide, by decide⟩, by decide +kernel, by decide⟩
set_option maxRecDepth 100000 in
theorem mt_X4_hasStretch : MthN yX4_hasStretch cX4_hasStretch 3 (some .boolean) 2 := ⟨lw0_in (n := 418) rfl rfl, lw0_in (n := 63) (by decide +kernel) rfl, ⟨by decide, by decide⟩, by decide +kernel, by decide⟩
set_option maxRecDepth 100000 in
theorem mt_X8_element : MthN yX8_element cX8_element 3 (some .long) 2 := ⟨lw0_in (n := 425) rfl rfl, lw0_in (n := 55) (by decide +kernel) rfl, ⟨by decide, by decide⟩, by decide +kernel, by decide⟩
set_option maxRecDepth 100000 in
theorem mt_X8_show : MthN yX8_show cX8_show 3 (some .int) 2 := ⟨lw0_in (n := 429) rfl rfl, lw0_in (n := 55) (by decide +kernel) rfl, ⟨by decide, by decide⟩, by decide +kernel, by decide⟩
set_option maxRecDepth 100000 in
theorem mt_X8_isDoor : MthN yX8_isDoor cX8_isDoor 2 (some .boolean) 1 := ⟨lw0_in (n := 433) rfl rfl, lw0_in (n := 55) (by decide +kernel) rfl, ⟨by decide, by decide⟩, by decide +kernel, by decide⟩
set_option maxRecDepth 100000 in
theorem mt_X4_putDoor : MthN yX4_putDoor cX4_putDoor 2 none 1 := ⟨lw0_in (n := 438) rfl rfl, lw0_in (n := 63) (by decide +kernel) rfl, ⟨by decide, by decide⟩, by decide +kernel, by decide⟩
set_option maxRecDepth 100000 in
theorem mt_X8_holds : MthN yX8_holds cX8_holds 2 (some .int) 1 := ⟨lw0_in (n := 442) rfl rfl, lw0_in (n := 55) (by decide +kernel) rfl, ⟨by decide, by decide⟩, by decide +kernel, by decide⟩
set_option maxRecDepth 100000 in
theorem mt_X4_contents : MthN yX4_contents cX4_contents 1 (some .int) 0 := ⟨lw0_in (n := 446) rfl rfl, lw0_in (n := 63) (by decide +kernel) rfl, ⟨by decide, by decide⟩, by decide +kernel, by decide⟩
set_option maxRecDepth 100000 in
theorem mt_X8_blockIn : MthN yX8_blockIn cX8_blockIn 4 (some .int) 1 := ⟨lw0_in (n := 450) rfl rfl, lw0_in (n := 55) (by decide +kernel) rfl, ⟨by decide, by decide⟩, by decide +kernel, by decide⟩
set_option maxRecDepth 100000 in
theorem mt_X4_fitAsDoor : MthN yX4_fitAsDoor cX4_fitAsDoor 1 (some .int) 0 := ⟨lw0_in (n := 454) rfl rfl, lw0_in (n := 63) (by decide +kernel) rfl, ⟨by decide, by decide⟩, by decide +kernel, by decide⟩
set_option maxRecDepth 100000 in
theorem mt_X8_doorAt : MthN yX8_doorAt cX8_doorAt 2 (some (.object "CensusNight$Door")) 1 := ⟨lw0_in (n := 458) rfl rfl, lw0_in (n := 55) (by decide +kernel) rfl, ⟨by decide, by decide⟩, by decide +kernel, by decide⟩
set_option maxRecDepth 100000 in
theorem mt_X8_law : MthN yX8_law cX8_law 3 (some .int) 1 := ⟨lw0_in (n := 462) rfl rfl, lw0_in (n := 55) (by decide +kernel) rfl, ⟨by decide, by decide⟩, by decide +kernel, by decide⟩
set_option maxRecDepth 100000 in
theorem mt_X3_read : MthN yX3_read cX3_read 2 (some .boolean) 1 := ⟨lw0_in (n := 466) rfl rfl, lw0_in (n := 56) (by decide +kernel) rfl, ⟨by decide, by decide⟩, by decide +kernel, by decide⟩
set_option maxRecDepth 100000 in
theorem mt_X3_firstWrongPlace : MthN yX3_firstWrongPlace cX3_firstWrongPlace 2 (some .int) 1 := ⟨lw0_in (n := 469) rfl rfl, lw0_in (n := 56) (by decide +kernel) rfl, ⟨by decide, by decide⟩, by decide +kernel, by decide⟩
set_option maxRecDepth 100000 in
theorem mt_X4_elementAsInt : MthN yX4_elementAsInt cX4_elementAsInt 2 (some .int) 1 := ⟨lw0_in (n := 473) rfl rfl, lw0_in (n := 63) (by decide +kernel) rfl, ⟨by decide, by decide⟩, by decide +kernel, by decide⟩
set_option maxRecDepth 100000 in
theorem mt_X3_mayStand : MthN yX3_mayStand cX3_mayStand 2 (some .boolean) 2 := ⟨lw0_in (n := 476) rfl rfl, lw0_in (n := 56) (by decide +kernel) rfl, ⟨by decide, by decide⟩, by decide +kernel, by decide⟩
set_option maxRecDepth 100000 in
theorem mt_J0_charAt_5068e : MthN yJ0_charAt_5068e cJ0_charAt_5068e 2 (some .char) 1 := ⟨lw0_in (n := 481) rfl rfl, lw0_in (n := 67) (by decide +kernel) rfl, ⟨by decide, by decide⟩, by decide +kernel, by decide⟩
set_option maxRecDepth 100000 in
theorem mt_J0_isLatin1_aae02 : MthN yJ0_isLatin1_aae02 cJ0_isLatin1_aae02 1 (some .boolean) 0 := ⟨lw0_in (n := 485) rfl rfl, lw0_in (n := 67) (by decide +kernel) rfl, ⟨by decide, by decide⟩, by decide +kernel, by decide⟩
set_option maxRecDepth 100000 in
theorem mt_J1_charAt_3b067 : MthN yJ1_charAt_3b067 cJ1_charAt_3b067 2 (some .char) 2 := ⟨lw0_in (n := 490) rfl rfl, lw0_in (n := 68) (by decide +kernel) rfl, ⟨by decide, by decide⟩, by decide +kernel, by decide⟩
set_option maxRecDepth 100000 in
theorem mt_J0_checkIndex_df160 : MthN yJ0_checkIndex_df160 cJ0_checkIndex_df160 2 none 2 := ⟨lw0_in (n := 493) rfl rfl, lw0_in (n := 67) (by decide +kernel) rfl, ⟨by decide, by decide⟩, by decide +kernel, by decide⟩
set_option maxRecDepth 100000 in
theorem mt_J3_checkIndex_8e157 : MthN yJ3_checkIndex_8e157 cJ3_checkIndex_8e157 3 (some .int) 3 := ⟨lw0_in (n := 498) rfl rfl, lw0_in (n := 69) (by decide +kernel) rfl, ⟨by decide, by decide⟩, by decide +kernel, by decide⟩
set_option maxRecDepth 100000 in
theorem mt_X8_fault : MthN yX8_fault cX8_fault 1 (some .int) 0 := ⟨lw0_in (n := 522) rfl rfl, lw0_in (n := 55) (by decide +kernel) rfl, ⟨by decide, by decide⟩, by decide +kernel, by decide⟩
set_option maxRecDepth 100000 in
theorem mt_X8_truth : MthN yX8_truth cX8_truth 5 (some .int) 2 := ⟨lw0_in (n := 526) rfl rfl, lw0_in (n := 55) (by decide +kernel) rfl, ⟨by decide, by decide⟩, by decide +kernel, by decide⟩
set_option maxRecDepth 100000 in
theorem mt_X1_learnTruth : MthN yX1_learnTruth cX1_learnTruth 3 (some .int) 1 := ⟨lw0_in (n := 530) rfl rfl, lw0_in (n := 65) (by decide +kernel) rfl, ⟨by decide, by decide⟩, by decide +kernel, by decide⟩
set_option maxRecDepth 100000 in
theorem mt_X4_elementAsAge : MthN yX4_elementAsAge cX4_elementAsAge 4 (some .int) 1 := ⟨lw0_in (n := 537) rfl rfl, lw0_in (n := 63) (by decide +kernel) rfl, ⟨by decide, by decide⟩, by decide +kernel, by decide⟩
set_option maxRecDepth 100000 in
theorem mt_X8_paper : MthN yX8_paper cX8_paper 3 (some .int) 1 := ⟨lw0_in (n := 543) rfl rfl, lw0_in (n := 55) (by decide +kernel) rfl, ⟨by decide, by decide⟩, by decide +kernel, by decide⟩
set_option maxRecDepth 100000 in
theorem mt_X1_isToBeAsked : MthN yX1_isToBeAsked cX1_isToBeAsked 1 (some .boolean) 0 := ⟨lw0_in (n := 547) rfl rfl, lw0_in (n := 65) (by decide +kernel) rfl, ⟨by decide, by decide⟩, by decide +kernel, by decide⟩
set_option maxRecDepth 100000 in
theorem mt_X1_takePaper : MthN yX1_takePaper cX1_takePaper 2 (some .int) 0 := ⟨lw0_in (n := 551) rfl rfl, lw0_in (n := 65) (by decide +kernel) rfl, ⟨by decide, by decide⟩, by decide +kernel, by decide⟩
set_option maxRecDepth 100000 in
theorem mt_X1_startReturn : MthN yX1_startReturn cX1_startReturn 2 none 1 := ⟨lw0_in (n := 555) rfl rfl, lw0_in (n := 65) (by decide +kernel) rfl, ⟨by decide, by decide⟩, by decide +kernel, by decide⟩
set_option maxRecDepth 100000 in
theorem mt_X1_addHead : MthN yX1_addHead cX1_addHead 2 none 1 := ⟨lw0_in (n := 559) rfl rfl, lw0_in (n := 65) (by decide +kernel) rfl, ⟨by decide, by decide⟩, by decide +kernel, by decide⟩
set_option maxRecDepth 100000 in
theorem mt_X8_knock : MthN yX8_knock cX8_knock 5 (some .int) 2 := ⟨lw0_in (n := 563) rfl rfl, lw0_in (n := 55) (by decide +kernel) rfl, ⟨by decide, by decide⟩, by decide +kernel, by decide⟩
set_option maxRecDepth 100000 in
theorem mt_X1_takeKnock : MthN yX1_takeKnock cX1_takeKnock 3 (some .boolean) 1 := ⟨lw0_in (n := 567) rfl rfl, lw0_in (n := 65) (by decide +kernel) rfl, ⟨by decide, by decide⟩, by decide +kernel, by decide⟩
set_option maxRecDepth 100000 in
theorem mt_X0_note : MthN yX0_note cX0_note 5 none 3 := ⟨lw0_in (n := 571) rfl rfl, lw0_in (n := 57) (by decide +kernel) rfl, ⟨by decide, by decide⟩, by decide +kernel, by decide⟩
set_option maxRecDepth 100000 in
theorem mt_X8_proxy : MthN yX8_proxy cX8_proxy 4 (some .int) 2 := ⟨lw0_in (n := 575) rfl rfl, lw0_in (n := 55) (by decide +kernel) rfl, ⟨by decide, by decide⟩, by decide +kernel, by decide⟩
set_option maxRecDepth 100000 in
theorem mt_X1_takeProxy : MthN yX1_takeProxy cX1_takeProxy 3 none 1 := ⟨lw0_in (n := 579) rfl rfl, lw0_in (n := 65) (by decide +kernel) rfl, ⟨by decide, by decide⟩, by decide +kernel, by decide⟩
set_option maxRecDepth 100000 in
theorem mt_X8_twice : MthN yX8_twice cX8_twice 7 (some .int) 4 := ⟨lw0_in (n := 583) rfl rfl, lw0_in (n := 55) (by decide +kernel) rfl, ⟨by decide, by decide⟩, by decide +kernel, by decide⟩
set_option maxRecDepth 100000 in
theorem mt_X1_hasHead : MthN yX1_hasHead cX1_hasHead 2 (some .boolean) 1 := ⟨lw0_in (n := 587) rfl rfl, lw0_in (n := 65) (by decide +kernel) rfl, ⟨by decide, by decide⟩, by decide +kernel, by decide⟩
set_option maxRecDepth 100000 in
theorem mt_X1_isStruck : MthN yX1_isStruck cX1_isStruck 2 (some .boolean) 1 := ⟨lw0_in (n := 591) rfl rfl, lw0_in (n := 65) (by decide +kernel) rfl, ⟨by decide, by decide⟩, by decide +kernel, by decide⟩
set_option maxRecDepth 100000 in
theorem mt_X1_strike : MthN yX1_strike cX1_strike 2 none 1 := ⟨lw0_in (n := 595) rfl rfl, lw0_in (n := 65) (by decide +kernel) rfl, ⟨by decide, by decide⟩, by decide +kernel, by decide⟩
set_option maxRecDepth 100000 in
theorem mt_X8_fill : MthN yX8_fill cX8_fill 3 (some .int) 0 := ⟨lw0_in (n := 599) rfl rfl, lw0_in (n := 55) (by decide +kernel) rfl, ⟨by decide, by decide⟩, by decide +kernel, by decide⟩
set_option maxRecDepth 100000 in
theorem mt_X8_fillDoor : MthN yX8_fillDoor cX8_fillDoor 4 (some .boolean) 1 := ⟨lw0_in (n := 603) rfl rfl, lw0_in (n := 55) (by decide +kernel) rfl, ⟨by decide, by decide⟩, by decide +kernel, by decide⟩
set_option maxRecDepth 100000 in
theorem mt_X1_canFill : MthN yX1_canFill cX1_canFill 3 (some .boolean) 1 := ⟨lw0_in (n := 607) rfl rfl, lw0_in (n := 65) (by decide +kernel) rfl, ⟨by decide, by decide⟩, by decide +kernel, by decide⟩
set_option maxRecDepth 100000 in
theorem mt_X1_takeHeadsOf : MthN yX1_takeHeadsOf cX1_takeHeadsOf 4 none 2 := ⟨lw0_in (n := 614) rfl rfl, lw0_in (n := 65) (by decide +kernel) rfl, ⟨by decide, by decide⟩, by decide +kernel, by decide⟩
set_option maxRecDepth 100000 in
theorem mt_X8_from : MthN yX8_from cX8_from 3 (some .int) 1 := ⟨lw0_in (n := 619) rfl rfl, lw0_in (n := 55) (by decide +kernel) rfl, ⟨by decide, by decide⟩, by decide +kernel, by decide⟩
set_option maxRecDepth 100000 in
theorem mt_X8_about : MthN yX8_about cX8_about 4 (some .int) 2 := ⟨lw0_in (n := 623) rfl rfl, lw0_in (n := 55) (by decide +kernel) rfl, ⟨by decide, by decide⟩, by decide +kernel, by decide⟩
set_option maxRecDepth 100000 in
theorem mt_X1_tell : MthN yX1_tell cX1_tell 2 (some .int) 1 := ⟨lw0_in (n := 627) rfl rfl, lw0_in (n := 65) (by decide +kernel) rfl, ⟨by decide, by decide⟩, by decide +kernel, by decide⟩
set_option maxRecDepth 100000 in
theorem mt_J6_bitCount_0f7a4 : MthN yJ6_bitCount_0f7a4 cJ6_bitCount_0f7a4 1 (some .int) 1 := ⟨lw0_in (n := 630) rfl rfl, lw0_in (n := 72) (by decide +kernel) rfl, ⟨by decide, by decide⟩, by decide +kernel, by decide⟩
set_option maxRecDepth 100000 in
theorem mt_X8_age : MthN yX8_age cX8_age 4 (some .int) 2 := ⟨lw0_in (n := 637) rfl rfl, lw0_in (n := 55) (by decide +kernel) rfl, ⟨by decide, by decide⟩, by decide +kernel, by decide⟩
set_option maxRecDepth 100000 in
theorem mt_X8_count : MthN yX8_count cX8_count 7 (some .int) 3 := ⟨lw0_in (n := 641) rfl rfl, lw0_in (n := 55) (by decide +kernel) rfl, ⟨by decide, by decide⟩, by decide +kernel, by decide⟩
set_option maxRecDepth 100000 in
theorem mt_X1_countedInBand : MthN yX1_countedInBand cX1_countedInBand 4 (some .int) 1 := ⟨lw0_in (n := 645) rfl rfl, lw0_in (n := 65) (by decide +kernel) rfl, ⟨by decide, by decide⟩, by decide +kernel, by decide⟩
set_option maxRecDepth 100000 in
theorem mt_X1_bandOf : MthN yX1_bandOf cX1_bandOf 1 (some .int) 1 := ⟨lw0_in (n := 648) rfl rfl, lw0_in (n := 65) (by decide +kernel) rfl, ⟨by decide, by decide⟩, by decide +kernel, by decide⟩
set_option maxRecDepth 100000 in
theorem mt_X8_bestHour : MthN yX8_bestHour cX8_bestHour 2 (some .int) 1 := ⟨lw0_in (n := 652) rfl rfl, lw0_in (n := 55) (by decide +kernel) rfl, ⟨by decide, by decide⟩, by decide +kernel, by decide⟩
set_option maxRecDepth 100000 in
theorem mt_X0_greatest : MthN yX0_greatest cX0_greatest 4 (some .int) 1 := ⟨lw0_in (n := 656) rfl rfl, lw0_in (n := 57) (by decide +kernel) rfl, ⟨by decide, by decide⟩, by decide +kernel, by decide⟩
set_option maxRecDepth 100000 in
theorem mt_X0_isGreater : MthN yX0_isGreater cX0_isGreater 5 (some .boolean) 2 := ⟨lw0_in (n := 660) rfl rfl, lw0_in (n := 57) (by decide +kernel) rfl, ⟨by decide, by decide⟩, by decide +kernel, by decide⟩
set_option maxRecDepth 100000 in
theorem mt_X8_cut : MthN yX8_cut cX8_cut 3 (some .int) 1 := ⟨lw0_in (n := 664) rfl rfl, lw0_in (n := 55) (by decide +kernel) rfl, ⟨by decide, by decide⟩, by decide +kernel, by decide⟩
set_option maxRecDepth 100000 in
theorem mt_X7_clearWork : MthN yX7_clearWork cX7_clearWork 1 none 0 := ⟨lw0_in (n := 668) rfl rfl, lw0_in (n := 58) (by decide +kernel) rfl, ⟨by decide, by decide⟩, by decide +kernel, by decide⟩
set_option maxRecDepth 100000 in
theorem mt_X7_addDoor : MthN yX7_addDoor cX7_addDoor 3 none 2 := ⟨lw0_in (n := 672) rfl rfl, lw0_in (n := 58) (by decide +kernel) rfl, ⟨by decide, by decide⟩, by decide +kernel, by decide⟩
set_option maxRecDepth 100000 in
theorem mt_X7_part : MthN yX7_part cX7_part 2 (some .int) 1 := ⟨lw0_in (n := 676) rfl rfl, lw0_in (n := 58) (by decide +kernel) rfl, ⟨by decide, by decide⟩, by decide +kernel, by decide⟩
set_option maxRecDepth 100000 in
theorem mt_X7_place : MthN yX7_place cX7_place 4 none 3 := ⟨lw0_in (n := 679) rfl rfl, lw0_in (n := 58) (by decide +kernel) rfl, ⟨by decide, by decide⟩, by decide +kernel, by decide⟩
set_option maxRecDepth 100000 in
theorem mt_X7_judge : MthN yX7_judge cX7_judge 4 none 1 := ⟨lw0_in (n := 683) rfl rfl, lw0_in (n := 58) (by decide +kernel) rfl, ⟨by decide, by decide⟩, by decide +kernel, by decide⟩
set_option maxRecDepth 100000 in
theorem mt_X7_workOf : MthN yX7_workOf cX7_workOf 4 (some .int) 1 := ⟨lw0_in (n := 687) rfl rfl, lw0_in (n := 58) (by decide +kernel) rfl, ⟨by decide, by decide⟩, by decide +kernel, by decide⟩
set_option maxRecDepth 100000 in
theorem mt_X7_allTogether : MthN yX7_allTogether cX7_allTogether 3 (some .boolean) 1 := ⟨lw0_in (n := 694) rfl rfl, lw0_in (n := 58) (by decide +kernel) rfl, ⟨by decide, by decide⟩, by decide +kernel, by decide⟩
set_option maxRecDepth 100000 in
theorem mt_X7_isTogether : MthN yX7_isTogether cX7_isTogether 4 (some .boolean) 1 := ⟨lw0_in (n := 698) rfl rfl, lw0_in (n := 58) (by decide +kernel) rfl, ⟨by decide, by decide⟩, by decide +kernel, by decide⟩
set_option maxRecDepth 100000 in
theorem mt_X7_nearOnes : MthN yX7_nearOnes cX7_nearOnes 4 (some .int) 1 := ⟨lw0_in (n := 702) rfl rfl, lw0_in (n := 58) (by decide +kernel) rfl, ⟨by decide, by decide⟩, by decide +kernel, by decide⟩
set_option maxRecDepth 100000 in
theorem mt_X8_walk : MthN yX8_walk cX8_walk 2 (some .int) 1 := ⟨lw0_in (n := 707) rfl rfl, lw0_in (n := 55) (by decide +kernel) rfl, ⟨by decide, by decide⟩, by decide +kernel, by decide⟩
set_option maxRecDepth 100000 in
theorem mt_X7_numberOf : MthN yX7_numberOf cX7_numberOf 2 (some .int) 1 := ⟨lw0_in (n := 711) rfl rfl, lw0_in (n := 58) (by decide +kernel) rfl, ⟨by decide, by decide⟩, by decide +kernel, by decide⟩
set_option maxRecDepth 100000 in
theorem mt_X8_second : MthN yX8_second cX8_second 7 (some .int) 2 := ⟨lw0_in (n := 715) rfl rfl, lw0_in (n := 55) (by decide +kernel) rfl, ⟨by decide, by decide⟩, by decide +kernel, by decide⟩
set_option maxRecDepth 100000 in
theorem mt_X8_doorsOf : MthN yX8_doorsOf cX8_doorsOf 4 (some .int) 1 := ⟨lw0_in (n := 719) rfl rfl, lw0_in (n := 55) (by decide +kernel) rfl, ⟨by decide, by decide⟩, by decide +kernel, by decide⟩
set_option maxRecDepth 100000 in
theorem mt_X8_keepSecond : MthN yX8_keepSecond cX8_keepSecond 6 (some .int) 2 := ⟨lw0_in (n := 724) rfl rfl, lw0_in (n := 55) (by decide +kernel) rfl, ⟨by decide, by decide⟩, by decide +kernel, by decide⟩
set_option maxRecDepth 100000 in
theorem mt_X8_right : MthN yX8_right cX8_right 10 (some .long) 1 := ⟨lw0_in (n := 728) rfl rfl, lw0_in (n := 55) (by decide +kernel) rfl, ⟨by decide, by decide⟩, by decide +kernel, by decide⟩
set_option maxRecDepth 100000 in
theorem mt_X1_counted : MthN yX1_counted cX1_counted 1 (some .int) 0 := ⟨lw0_in (n := 732) rfl rfl, lw0_in (n := 65) (by decide +kernel) rfl, ⟨by decide, by decide⟩, by decide +kernel, by decide⟩
set_option maxRecDepth 100000 in
theorem mt_X8_countedHeads : MthN yX8_countedHeads cX8_countedHeads 3 (some .int) 0 := ⟨lw0_in (n := 737) rfl rfl, lw0_in (n := 55) (by decide +kernel) rfl, ⟨by decide, by decide⟩, by decide +kernel, by decide⟩
set_option maxRecDepth 100000 in
theorem mt_X8_commonDivisor : MthN yX8_commonDivisor cX8_commonDivisor 11 (some .long) 2 := ⟨lw0_in (n := 740) rfl rfl, lw0_in (n := 55) (by decide +kernel) rfl, ⟨by decide, by decide⟩, by decide +kernel, by decide⟩
set_option maxRecDepth 100000 in
theorem mt_X8_heap : MthN yX8_heap cX8_heap 4 (some .int) 0 := ⟨lw0_in (n := 744) rfl rfl, lw0_in (n := 55) (by decide +kernel) rfl, ⟨by decide, by decide⟩, by decide +kernel, by decide⟩
set_option maxRecDepth 100000 in
theorem mt_X1_countedThatMayHeap : MthN yX1_countedThatMayHeap cX1_countedThatMayHeap 5 (some .int) 1 := ⟨lw0_in (n := 748) rfl rfl, lw0_in (n := 65) (by decide +kernel) rfl, ⟨by decide, by decide⟩, by decide +kernel, by decide⟩
set_option maxRecDepth 100000 in
theorem mt_X8_table : MthN yX8_table cX8_table 3 (some .int) 0 := ⟨lw0_in (n := 752) rfl rfl, lw0_in (n := 55) (by decide +kernel) rfl, ⟨by decide, by decide⟩, by decide +kernel, by decide⟩
set_option maxRecDepth 100000 in
theorem mt_X6_draft : MthN yX6_draft cX6_draft 4 none 3 := ⟨lw0_in (n := 757) rfl rfl, lw0_in (n := 60) (by decide +kernel) rfl, ⟨by decide, by decide⟩, by decide +kernel, by decide⟩
set_option maxRecDepth 100000 in
theorem mt_X6_isCell : MthN yX6_isCell cX6_isCell 2 (some .boolean) 2 := ⟨lw0_in (n := 760) rfl rfl, lw0_in (n := 60) (by decide +kernel) rfl, ⟨by decide, by decide⟩, by decide +kernel, by decide⟩
set_option maxRecDepth 100000 in
theorem mt_X6_make : MthN yX6_make cX6_make 3 (some .boolean) 1 := ⟨lw0_in (n := 764) rfl rfl, lw0_in (n := 60) (by decide +kernel) rfl, ⟨by decide, by decide⟩, by decide +kernel, by decide⟩
set_option maxRecDepth 100000 in
theorem mt_X2_find : MthN yX2_find cX2_find 5 (some .int) 2 := ⟨lw0_in (n := 768) rfl rfl, lw0_in (n := 61) (by decide +kernel) rfl, ⟨by decide, by decide⟩, by decide +kernel, by decide⟩
set_option maxRecDepth 100000 in
theorem mt_X2_choose : MthN yX2_choose cX2_choose 6 (some .int) 4 := ⟨lw0_in (n := 771) rfl rfl, lw0_in (n := 61) (by decide +kernel) rfl, ⟨by decide, by decide⟩, by decide +kernel, by decide⟩
set_option maxRecDepth 100000 in
theorem mt_X2_loneLines : MthN yX2_loneLines cX2_loneLines 4 (some .int) 1 := ⟨lw0_in (n := 774) rfl rfl, lw0_in (n := 61) (by decide +kernel) rfl, ⟨by decide, by decide⟩, by decide +kernel, by decide⟩
set_option maxRecDepth 100000 in
theorem mt_X2_isOneCell : MthN yX2_isOneCell cX2_isOneCell 1 (some .boolean) 1 := ⟨lw0_in (n := 777) rfl rfl, lw0_in (n := 61) (by decide +kernel) rfl, ⟨by decide, by decide⟩, by decide +kernel, by decide⟩
set_option maxRecDepth 100000 in
theorem mt_X2_noneFollows : MthN yX2_noneFollows cX2_noneFollows 6 (some .boolean) 1 := ⟨lw0_in (n := 783) rfl rfl, lw0_in (n := 61) (by decide +kernel) rfl, ⟨by decide, by decide⟩, by decide +kernel, by decide⟩
set_option maxRecDepth 100000 in
theorem mt_X2_canShrink : MthN yX2_canShrink cX2_canShrink 8 (some .boolean) 3 := ⟨lw0_in (n := 787) rfl rfl, lw0_in (n := 61) (by decide +kernel) rfl, ⟨by decide, by decide⟩, by decide +kernel, by decide⟩
set_option maxRecDepth 100000 in
theorem mt_X2_columnsOf : MthN yX2_columnsOf cX2_columnsOf 2 (some .int) 1 := ⟨lw0_in (n := 790) rfl rfl, lw0_in (n := 61) (by decide +kernel) rfl, ⟨by decide, by decide⟩, by decide +kernel, by decide⟩
set_option maxRecDepth 100000 in
theorem mt_X2_rowsOf : MthN yX2_rowsOf cX2_rowsOf 2 (some .int) 1 := ⟨lw0_in (n := 793) rfl rfl, lw0_in (n := 61) (by decide +kernel) rfl, ⟨by decide, by decide⟩, by decide +kernel, by decide⟩
set_option maxRecDepth 100000 in
theorem mt_X2_canGrow : MthN yX2_canGrow cX2_canGrow 8 (some .boolean) 3 := ⟨lw0_in (n := 797) rfl rfl, lw0_in (n := 61) (by decide +kernel) rfl, ⟨by decide, by decide⟩, by decide +kernel, by decide⟩
set_option maxRecDepth 100000 in
theorem mt_X6_hiddenCells : MthN yX6_hiddenCells cX6_hiddenCells 1 (some .int) 0 := ⟨lw0_in (n := 803) rfl rfl, lw0_in (n := 60) (by decide +kernel) rfl, ⟨by decide, by decide⟩, by decide +kernel, by decide⟩
set_option maxRecDepth 100000 in
theorem mt_X8_told : MthN yX8_told cX8_told 3 (some .int) 2 := ⟨lw0_in (n := 808) rfl rfl, lw0_in (n := 55) (by decide +kernel) rfl, ⟨by decide, by decide⟩, by decide +kernel, by decide⟩
set_option maxRecDepth 100000 in
theorem mt_X6_tell : MthN yX6_tell cX6_tell 3 (some .int) 2 := ⟨lw0_in (n := 812) rfl rfl, lw0_in (n := 60) (by decide +kernel) rfl, ⟨by decide, by decide⟩, by decide +kernel, by decide⟩
set_option maxRecDepth 100000 in
theorem mt_X6_isHidden : MthN yX6_isHidden cX6_isHidden 3 (some .boolean) 2 := ⟨lw0_in (n := 816) rfl rfl, lw0_in (n := 60) (by decide +kernel) rfl, ⟨by decide, by decide⟩, by decide +kernel, by decide⟩
set_option maxRecDepth 100000 in
theorem mt_X6_sum : MthN yX6_sum cX6_sum 7 (some .int) 2 := ⟨lw0_in (n := 820) rfl rfl, lw0_in (n := 60) (by decide +kernel) rfl, ⟨by decide, by decide⟩, by decide +kernel, by decide⟩
set_option maxRecDepth 100000 in
theorem mt_X8_could : MthN yX8_could cX8_could 4 (some .int) 3 := ⟨lw0_in (n := 824) rfl rfl, lw0_in (n := 55) (by decide +kernel) rfl, ⟨by decide, by decide⟩, by decide +kernel, by decide⟩
set_option maxRecDepth 100000 in
theorem mt_X6_extreme : MthN yX6_extreme cX6_extreme 4 (some .int) 3 := ⟨lw0_in (n := 828) rfl rfl, lw0_in (n := 60) (by decide +kernel) rfl, ⟨by decide, by decide⟩, by decide +kernel, by decide⟩
set_option maxRecDepth 100000 in
theorem mt_X5_extreme : MthN yX5_extreme cX5_extreme 11 (some .int) 4 := ⟨lw0_in (n := 832) rfl rfl, lw0_in (n := 62) (by decide +kernel) rfl, ⟨by decide, by decide⟩, by decide +kernel, by decide⟩
set_option maxRecDepth 100000 in
theorem mt_X5_findWay : MthN yX5_findWay cX5_findWay 6 (some .boolean) 2 := ⟨lw0_in (n := 838) rfl rfl, lw0_in (n := 62) (by decide +kernel) rfl, ⟨by decide, by decide⟩, by decide +kernel, by decide⟩
set_option maxRecDepth 100000 in
theorem mt_X5_canStep : MthN yX5_canStep cX5_canStep 4 (some .boolean) 2 := ⟨lw0_in (n := 843) rfl rfl, lw0_in (n := 62) (by decide +kernel) rfl, ⟨by decide, by decide⟩, by decide +kernel, by decide⟩
set_option maxRecDepth 100000 in
theorem mt_X5_cellOf : MthN yX5_cellOf cX5_cellOf 2 (some .int) 2 := ⟨lw0_in (n := 846) rfl rfl, lw0_in (n := 62) (by decide +kernel) rfl, ⟨by decide, by decide⟩, by decide +kernel, by decide⟩
set_option maxRecDepth 100000 in
theorem mt_X5_wayRoom : MthN yX5_wayRoom cX5_wayRoom 6 (some .int) 2 := ⟨lw0_in (n := 852) rfl rfl, lw0_in (n := 62) (by decide +kernel) rfl, ⟨by decide, by decide⟩, by decide +kernel, by decide⟩
set_option maxRecDepth 100000 in
theorem mt_X5_moveAlong : MthN yX5_moveAlong cX5_moveAlong 6 none 3 := ⟨lw0_in (n := 857) rfl rfl, lw0_in (n := 62) (by decide +kernel) rfl, ⟨by decide, by decide⟩, by decide +kernel, by decide⟩
set_option maxRecDepth 100000 in
theorem mt_X8_status : MthN yX8_status cX8_status 2 (some .int) 1 := ⟨lw0_in (n := 861) rfl rfl, lw0_in (n := 55) (by decide +kernel) rfl, ⟨by decide, by decide⟩, by decide +kernel, by decide⟩
set_option maxRecDepth 100000 in
theorem mt_X8_doorsWith : MthN yX8_doorsWith cX8_doorsWith 4 (some .int) 1 := ⟨lw0_in (n := 865) rfl rfl, lw0_in (n := 55) (by decide +kernel) rfl, ⟨by decide, by decide⟩, by decide +kernel, by decide⟩
set_option maxRecDepth 100000 in
theorem mt_X8_struckHeads : MthN yX8_struckHeads cX8_struckHeads 3 (some .int) 0 := ⟨lw0_in (n := 869) rfl rfl, lw0_in (n := 55) (by decide +kernel) rfl, ⟨by decide, by decide⟩, by decide +kernel, by decide⟩
set_option maxRecDepth 100000 in
theorem mt_X8_doorsToBeAsked : MthN yX8_doorsToBeAsked cX8_doorsToBeAsked 3 (some .int) 0 := ⟨lw0_in (n := 874) rfl rfl, lw0_in (n := 55) (by decide +kernel) rfl, ⟨by decide, by decide⟩, by decide +kernel, by decide⟩
set_option maxRecDepth 100000 in
theorem mt_X9_init : MthN yX9_init cX9_init 2 none 0 := ⟨lw0_in (n := 879) rfl rfl, lw0_in (n := 64) (by decide +kernel) rfl, ⟨by decide, by decide⟩, by decide +kernel, by decide⟩
set_option maxRecDepth 100000 in
theorem mt_X9_door : MthN yX9_door cX9_door 4 (some .int) 3 := ⟨lw0_in (n := 1024) rfl rfl, lw0_in (n := 64) (by decide +kernel) rfl, ⟨by decide, by decide⟩, by decide +kernel, by decide⟩
set_option maxRecDepth 100000 in
theorem mt_X9_isBlock : MthN yX9_isBlock cX9_isBlock 1 (some .boolean) 1 := ⟨lw0_in (n := 1027) rfl rfl, lw0_in (n := 64) (by decide +kernel) rfl, ⟨by decide, by decide⟩, by decide +kernel, by decide⟩
set_option maxRecDepth 100000 in
theorem mt_X9_no : MthN yX9_no cX9_no 2 (some .int) 1 := ⟨lw0_in (n := 1031) rfl rfl, lw0_in (n := 64) (by decide +kernel) rfl, ⟨by decide, by decide⟩, by decide +kernel, by decide⟩
set_option maxRecDepth 100000 in
theorem mt_X9_isIn : MthN yX9_isIn cX9_isIn 6 (some .boolean) 3 := ⟨lw0_in (n := 1035) rfl rfl, lw0_in (n := 64) (by decide +kernel) rfl, ⟨by decide, by decide⟩, by decide +kernel, by decide⟩
set_option maxRecDepth 100000 in
theorem mt_X9_near : MthN yX9_near cX9_near 4 (some .int) 2 := ⟨lw0_in (n := 1040) rfl rfl, lw0_in (n := 64) (by decide +kernel) rfl, ⟨by decide, by decide⟩, by decide +kernel, by decide⟩
set_option maxRecDepth 100000 in
theorem mt_X9_row : MthN yX9_row cX9_row 5 (some .int) 3 := ⟨lw0_in (n := 1044) rfl rfl, lw0_in (n := 64) (by decide +kernel) rfl, ⟨by decide, by decide⟩, by decide +kernel, by decide⟩
set_option maxRecDepth 100000 in
theorem mt_X9_isShelf : MthN yX9_isShelf cX9_isShelf 1 (some .boolean) 1 := ⟨lw0_in (n := 1047) rfl rfl, lw0_in (n := 64) (by decide +kernel) rfl, ⟨by decide, by decide⟩, by decide +kernel, by decide⟩
set_option maxRecDepth 100000 in
theorem mt_X9_set : MthN yX9_set cX9_set 6 (some .int) 3 := ⟨lw0_in (n := 1051) rfl rfl, lw0_in (n := 64) (by decide +kernel) rfl, ⟨by decide, by decide⟩, by decide +kernel, by decide⟩
set_option maxRecDepth 100000 in
theorem mt_X9_notRow : MthN yX9_notRow cX9_notRow 2 (some .int) 1 := ⟨lw0_in (n := 1055) rfl rfl, lw0_in (n := 64) (by decide +kernel) rfl, ⟨by decide, by decide⟩, by decide +kernel, by decide⟩
set_option maxRecDepth 100000 in
theorem mt_X9_fit : MthN yX9_fit cX9_fit 3 (some .long) 2 := ⟨lw0_in (n := 1058) rfl rfl, lw0_in (n := 64) (by decide +kernel) rfl, ⟨by decide, by decide⟩, by decide +kernel, by decide⟩
set_option maxRecDepth 100000 in
theorem mt_X9_copy : MthN yX9_copy cX9_copy 7 (some .int) 5 := ⟨lw0_in (n := 1062) rfl rfl, lw0_in (n := 64) (by decide +kernel) rfl, ⟨by decide, by decide⟩, by decide +kernel, by decide⟩
set_option maxRecDepth 100000 in
theorem mt_X9_element : MthN yX9_element cX9_element 3 (some .long) 2 := ⟨lw0_in (n := 1066) rfl rfl, lw0_in (n := 64) (by decide +kernel) rfl, ⟨by decide, by decide⟩, by decide +kernel, by decide⟩
set_option maxRecDepth 100000 in
theorem mt_X9_show : MthN yX9_show cX9_show 3 (some .int) 2 := ⟨lw0_in (n := 1070) rfl rfl, lw0_in (n := 64) (by decide +kernel) rfl, ⟨by decide, by decide⟩, by decide +kernel, by decide⟩
set_option maxRecDepth 100000 in
theorem mt_X9_isDoor : MthN yX9_isDoor cX9_isDoor 2 (some .boolean) 1 := ⟨lw0_in (n := 1074) rfl rfl, lw0_in (n := 64) (by decide +kernel) rfl, ⟨by decide, by decide⟩, by decide +kernel, by decide⟩
set_option maxRecDepth 100000 in
theorem mt_X9_holds : MthN yX9_holds cX9_holds 2 (some .int) 1 := ⟨lw0_in (n := 1078) rfl rfl, lw0_in (n := 64) (by decide +kernel) rfl, ⟨by decide, by decide⟩, by decide +kernel, by decide⟩
set_option maxRecDepth 100000 in
theorem mt_X9_blockIn : MthN yX9_blockIn cX9_blockIn 2 (some .int) 1 := ⟨lw0_in (n := 1082) rfl rfl, lw0_in (n := 64) (by decide +kernel) rfl, ⟨by decide, by decide⟩, by decide +kernel, by decide⟩
set_option maxRecDepth 100000 in
theorem mt_X9_law : MthN yX9_law cX9_law 3 (some .int) 1 := ⟨lw0_in (n := 1086) rfl rfl, lw0_in (n := 64) (by decide +kernel) rfl, ⟨by decide, by decide⟩, by decide +kernel, by decide⟩
set_option maxRecDepth 100000 in
theorem mt_X9_broken : MthN yX9_broken cX9_broken 5 (some .int) 1 := ⟨lw0_in (n := 1090) rfl rfl, lw0_in (n := 64) (by decide +kernel) rfl, ⟨by decide, by decide⟩, by decide +kernel, by decide⟩
set_option maxRecDepth 100000 in
theorem mt_X9_letter : MthN yX9_letter cX9_letter 3 (some .int) 2 := ⟨lw0_in (n := 1094) rfl rfl, lw0_in (n := 64) (by decide +kernel) rfl, ⟨by decide, by decide⟩, by decide +kernel, by decide⟩
set_option maxRecDepth 100000 in
theorem mt_X9_fault : MthN yX9_fault cX9_fault 1 (some .int) 0 := ⟨lw0_in (n := 1101) rfl rfl, lw0_in (n := 64) (by decide +kernel) rfl, ⟨by decide, by decide⟩, by decide +kernel, by decide⟩
set_option maxRecDepth 100000 in
theorem mt_X9_truth : MthN yX9_truth cX9_truth 8 (some .int) 2 := ⟨lw0_in (n := 1105) rfl rfl, lw0_in (n := 64) (by decide +kernel) rfl, ⟨by decide, by decide⟩, by decide +kernel, by decide⟩
set_option maxRecDepth 100000 in
theorem mt_X9_isLeast : MthN yX9_isLeast cX9_isLeast 3 (some .boolean) 2 := ⟨lw0_in (n := 1108) rfl rfl, lw0_in (n := 64) (by decide +kernel) rfl, ⟨by decide, by decide⟩, by decide +kernel, by decide⟩
set_option maxRecDepth 100000 in
theorem mt_X9_paper : MthN yX9_paper cX9_paper 4 (some .int) 1 := ⟨lw0_in (n := 1114) rfl rfl, lw0_in (n := 64) (by decide +kernel) rfl, ⟨by decide, by decide⟩, by decide +kernel, by decide⟩
set_option maxRecDepth 100000 in
theorem mt_X9_isToBeAsked : MthN yX9_isToBeAsked cX9_isToBeAsked 2 (some .boolean) 1 := ⟨lw0_in (n := 1118) rfl rfl, lw0_in (n := 64) (by decide +kernel) rfl, ⟨by decide, by decide⟩, by decide +kernel, by decide⟩
set_option maxRecDepth 100000 in
theorem mt_X9_returns : MthN yX9_returns cX9_returns 5 none 3 := ⟨lw0_in (n := 1122) rfl rfl, lw0_in (n := 64) (by decide +kernel) rfl, ⟨by decide, by decide⟩, by decide +kernel, by decide⟩
set_option maxRecDepth 100000 in
theorem mt_X9_knock : MthN yX9_knock cX9_knock 4 (some .int) 2 := ⟨lw0_in (n := 1126) rfl rfl, lw0_in (n := 64) (by decide +kernel) rfl, ⟨by decide, by decide⟩, by decide +kernel, by decide⟩
set_option maxRecDepth 100000 in
theorem mt_X9_proxy : MthN yX9_proxy cX9_proxy 3 (some .int) 2 := ⟨lw0_in (n := 1131) rfl rfl, lw0_in (n := 64) (by decide +kernel) rfl, ⟨by decide, by decide⟩, by decide +kernel, by decide⟩
set_option maxRecDepth 100000 in
theorem mt_X9_twice : MthN yX9_twice cX9_twice 6 (some .int) 4 := ⟨lw0_in (n := 1136) rfl rfl, lw0_in (n := 64) (by decide +kernel) rfl, ⟨by decide, by decide⟩, by decide +kernel, by decide⟩
set_option maxRecDepth 100000 in
theorem mt_X9_isHead : MthN yX9_isHead cX9_isHead 3 (some .boolean) 2 := ⟨lw0_in (n := 1140) rfl rfl, lw0_in (n := 64) (by decide +kernel) rfl, ⟨by decide, by decide⟩, by decide +kernel, by decide⟩
set_option maxRecDepth 100000 in
theorem mt_X9_fill : MthN yX9_fill cX9_fill 5 (some .int) 0 := ⟨lw0_in (n := 1144) rfl rfl, lw0_in (n := 64) (by decide +kernel) rfl, ⟨by decide, by decide⟩, by decide +kernel, by decide⟩
set_option maxRecDepth 100000 in
theorem mt_X9_donor : MthN yX9_donor cX9_donor 7 (some .int) 1 := ⟨lw0_in (n := 1148) rfl rfl, lw0_in (n := 64) (by decide +kernel) rfl, ⟨by decide, by decide⟩, by decide +kernel, by decide⟩
set_option maxRecDepth 100000 in
theorem mt_X9_from : MthN yX9_from cX9_from 2 (some .int) 1 := ⟨lw0_in (n := 1152) rfl rfl, lw0_in (n := 64) (by decide +kernel) rfl, ⟨by decide, by decide⟩, by decide +kernel, by decide⟩
set_option maxRecDepth 100000 in
theorem mt_X9_about : MthN yX9_about cX9_about 3 (some .int) 2 := ⟨lw0_in (n := 1156) rfl rfl, lw0_in (n := 64) (by decide +kernel) rfl, ⟨by decide, by decide⟩, by decide +kernel, by decide⟩
set_option maxRecDepth 100000 in
theorem mt_X9_struckAt : MthN yX9_struckAt cX9_struckAt 4 (some .int) 1 := ⟨lw0_in (n := 1160) rfl rfl, lw0_in (n := 64) (by decide +kernel) rfl, ⟨by decide, by decide⟩, by decide +kernel, by decide⟩
set_option maxRecDepth 100000 in
theorem mt_X9_age : MthN yX9_age cX9_age 3 (some .int) 2 := ⟨lw0_in (n := 1164) rfl rfl, lw0_in (n := 64) (by decide +kernel) rfl, ⟨by decide, by decide⟩, by decide +kernel, by decide⟩
set_option maxRecDepth 100000 in
theorem mt_X9_count : MthN yX9_count cX9_count 4 (some .int) 3 := ⟨lw0_in (n := 1168) rfl rfl, lw0_in (n := 64) (by decide +kernel) rfl, ⟨by decide, by decide⟩, by decide +kernel, by decide⟩
set_option maxRecDepth 100000 in
theorem mt_X9_counted : MthN yX9_counted cX9_counted 7 (some .int) 3 := ⟨lw0_in (n := 1172) rfl rfl, lw0_in (n := 64) (by decide +kernel) rfl, ⟨by decide, by decide⟩, by decide +kernel, by decide⟩
set_option maxRecDepth 100000 in
theorem mt_X9_bandOf : MthN yX9_bandOf cX9_bandOf 1 (some .int) 1 := ⟨lw0_in (n := 1175) rfl rfl, lw0_in (n := 64) (by decide +kernel) rfl, ⟨by decide, by decide⟩, by decide +kernel, by decide⟩
set_option maxRecDepth 100000 in
theorem mt_X9_bestHour : MthN yX9_bestHour cX9_bestHour 6 (some .int) 1 := ⟨lw0_in (n := 1179) rfl rfl, lw0_in (n := 64) (by decide +kernel) rfl, ⟨by decide, by decide⟩, by decide +kernel, by decide⟩
set_option maxRecDepth 100000 in
theorem mt_X9_cut : MthN yX9_cut cX9_cut 8 (some .int) 1 := ⟨lw0_in (n := 1183) rfl rfl, lw0_in (n := 64) (by decide +kernel) rfl, ⟨by decide, by decide⟩, by decide +kernel, by decide⟩
set_option maxRecDepth 100000 in
theorem mt_X9_walksUpTo : MthN yX9_walksUpTo cX9_walksUpTo 4 (some .int) 1 := ⟨lw0_in (n := 1188) rfl rfl, lw0_in (n := 64) (by decide +kernel) rfl, ⟨by decide, by decide⟩, by decide +kernel, by decide⟩
set_option maxRecDepth 100000 in
theorem mt_X9_greatestWork : MthN yX9_greatestWork cX9_greatestWork 7 (some .int) 2 := ⟨lw0_in (n := 1192) rfl rfl, lw0_in (n := 64) (by decide +kernel) rfl, ⟨by decide, by decide⟩, by decide +kernel, by decide⟩
set_option maxRecDepth 100000 in
theorem mt_X9_hangs : MthN yX9_hangs cX9_hangs 8 (some .boolean) 1 := ⟨lw0_in (n := 1196) rfl rfl, lw0_in (n := 64) (by decide +kernel) rfl, ⟨by decide, by decide⟩, by decide +kernel, by decide⟩
set_option maxRecDepth 100000 in
theorem mt_X9_nextWalks : MthN yX9_nextWalks cX9_nextWalks 3 (some .boolean) 0 := ⟨lw0_in (n := 1200) rfl rfl, lw0_in (n := 64) (by decide +kernel) rfl, ⟨by decide, by decide⟩, by decide +kernel, by decide⟩
set_option maxRecDepth 100000 in
theorem mt_X9_walk : MthN yX9_walk cX9_walk 2 (some .int) 1 := ⟨lw0_in (n := 1204) rfl rfl, lw0_in (n := 64) (by decide +kernel) rfl, ⟨by decide, by decide⟩, by decide +kernel, by decide⟩
set_option maxRecDepth 100000 in
theorem mt_X9_second : MthN yX9_second cX9_second 8 (some .int) 2 := ⟨lw0_in (n := 1208) rfl rfl, lw0_in (n := 64) (by decide +kernel) rfl, ⟨by decide, by decide⟩, by decide +kernel, by decide⟩
set_option maxRecDepth 100000 in
theorem mt_X9_right : MthN yX9_right cX9_right 10 (some .long) 1 := ⟨lw0_in (n := 1213) rfl rfl, lw0_in (n := 64) (by decide +kernel) rfl, ⟨by decide, by decide⟩, by decide +kernel, by decide⟩
set_option maxRecDepth 100000 in
theorem mt_X9_lesser : MthN yX9_lesser cX9_lesser 2 (some .int) 2 := ⟨lw0_in (n := 1216) rfl rfl, lw0_in (n := 64) (by decide +kernel) rfl, ⟨by decide, by decide⟩, by decide +kernel, by decide⟩
set_option maxRecDepth 100000 in
theorem mt_X9_countedAll : MthN yX9_countedAll cX9_countedAll 3 (some .int) 0 := ⟨lw0_in (n := 1220) rfl rfl, lw0_in (n := 64) (by decide +kernel) rfl, ⟨by decide, by decide⟩, by decide +kernel, by decide⟩
set_option maxRecDepth 100000 in
theorem mt_X9_divisor : MthN yX9_divisor cX9_divisor 10 (some .long) 2 := ⟨lw0_in (n := 1223) rfl rfl, lw0_in (n := 64) (by decide +kernel) rfl, ⟨by decide, by decide⟩, by decide +kernel, by decide⟩
set_option maxRecDepth 100000 in
theorem mt_X9_heap : MthN yX9_heap cX9_heap 4 (some .int) 0 := ⟨lw0_in (n := 1227) rfl rfl, lw0_in (n := 64) (by decide +kernel) rfl, ⟨by decide, by decide⟩, by decide +kernel, by decide⟩
set_option maxRecDepth 100000 in
theorem mt_X9_table : MthN yX9_table cX9_table 4 (some .int) 0 := ⟨lw0_in (n := 1233) rfl rfl, lw0_in (n := 64) (by decide +kernel) rfl, ⟨by decide, by decide⟩, by decide +kernel, by decide⟩
set_option maxRecDepth 100000 in
theorem mt_X9_findOthers : MthN yX9_findOthers cX9_findOthers 3 (some .boolean) 1 := ⟨lw0_in (n := 1237) rfl rfl, lw0_in (n := 64) (by decide +kernel) rfl, ⟨by decide, by decide⟩, by decide +kernel, by decide⟩
set_option maxRecDepth 100000 in
theorem mt_X9_areOthers : MthN yX9_areOthers cX9_areOthers 3 (some .boolean) 1 := ⟨lw0_in (n := 1241) rfl rfl, lw0_in (n := 64) (by decide +kernel) rfl, ⟨by decide, by decide⟩, by decide +kernel, by decide⟩
set_option maxRecDepth 100000 in
theorem mt_X9_isSmall : MthN yX9_isSmall cX9_isSmall 2 (some .boolean) 1 := ⟨lw0_in (n := 1245) rfl rfl, lw0_in (n := 64) (by decide +kernel) rfl, ⟨by decide, by decide⟩, by decide +kernel, by decide⟩
set_option maxRecDepth 100000 in
theorem mt_X9_hides : MthN yX9_hides cX9_hides 3 none 1 := ⟨lw0_in (n := 1249) rfl rfl, lw0_in (n := 64) (by decide +kernel) rfl, ⟨by decide, by decide⟩, by decide +kernel, by decide⟩
set_option maxRecDepth 100000 in
theorem mt_X9_isSafe : MthN yX9_isSafe cX9_isSafe 2 (some .boolean) 0 := ⟨lw0_in (n := 1253) rfl rfl, lw0_in (n := 64) (by decide +kernel) rfl, ⟨by decide, by decide⟩, by decide +kernel, by decide⟩
set_option maxRecDepth 100000 in
theorem mt_X9_canRise : MthN yX9_canRise cX9_canRise 4 (some .boolean) 3 := ⟨lw0_in (n := 1257) rfl rfl, lw0_in (n := 64) (by decide +kernel) rfl, ⟨by decide, by decide⟩, by decide +kernel, by decide⟩
set_option maxRecDepth 100000 in
theorem mt_X9_finds : MthN yX9_finds cX9_finds 11 (some .boolean) 5 := ⟨lw0_in (n := 1261) rfl rfl, lw0_in (n := 64) (by decide +kernel) rfl, ⟨by decide, by decide⟩, by decide +kernel, by decide⟩
set_option maxRecDepth 100000 in
theorem mt_X9_canFall : MthN yX9_canFall cX9_canFall 4 (some .boolean) 3 := ⟨lw0_in (n := 1265) rfl rfl, lw0_in (n := 64) (by decide +kernel) rfl, ⟨by decide, by decide⟩, by decide +kernel, by decide⟩
set_option maxRecDepth 100000 in
theorem mt_X9_nextOthers : MthN yX9_nextOthers cX9_nextOthers 4 (some .boolean) 1 := ⟨lw0_in (n := 1269) rfl rfl, lw0_in (n := 64) (by decide +kernel) rfl, ⟨by decide, by decide⟩, by decide +kernel, by decide⟩
set_option maxRecDepth 100000 in
theorem mt_X9_told : MthN yX9_told cX9_told 5 (some .int) 2 := ⟨lw0_in (n := 1273) rfl rfl, lw0_in (n := 64) (by decide +kernel) rfl, ⟨by decide, by decide⟩, by decide +kernel, by decide⟩
set_option maxRecDepth 100000 in
theorem mt_X9_could : MthN yX9_could cX9_could 6 (some .int) 3 := ⟨lw0_in (n := 1279) rfl rfl, lw0_in (n := 64) (by decide +kernel) rfl, ⟨by decide, by decide⟩, by decide +kernel, by decide⟩
set_option maxRecDepth 100000 in
theorem mt_X9_moves : MthN yX9_moves cX9_moves 7 none 2 := ⟨lw0_in (n := 1284) rfl rfl, lw0_in (n := 64) (by decide +kernel) rfl, ⟨by decide, by decide⟩, by decide +kernel, by decide⟩
set_option maxRecDepth 100000 in
theorem mt_X9_status : MthN yX9_status cX9_status 4 (some .int) 1 := ⟨lw0_in (n := 1288) rfl rfl, lw0_in (n := 64) (by decide +kernel) rfl, ⟨by decide, by decide⟩, by decide +kernel, by decide⟩
theorem wc_L_7 : Cond.classLink RL 7 RX8 ∈ lw0 := lw0_in (n := 73) (by decide +kernel) rfl
theorem cl_L_7 : LkC RL 7 8 10 := ⟨RX8, TX8, tyX8, rfl, by decide, wc_L_7, lw0_in (n := 74) (by decide +kernel) rfl, lw0_in (n := 55) (by decide +kernel) rfl, tyX8_ok, by decide +kernel⟩
theorem lk_L_9 : LkI RL 9 yX8_init cX8_init 2 0 := ⟨mt_X8_init, lw0_in (n := 75) (by decide +kernel) rfl, lw0_in (n := 76) (by decide +kernel) rfl, rfl⟩
theorem lo_X8_1 : Cond.methodLink RX8 1 objectInit ∈ lw0 := lw0_in (n := 78) (by decide +kernel) rfl
theorem wc_X8_9 : Cond.classLink RX8 9 RX4 ∈ lw0 := lw0_in (n := 81) (by decide +kernel) rfl
theorem cl_X8_9 : LkC RX8 9 4 4 := ⟨RX4, TX4, tyX4, rfl, by decide, wc_X8_9, lw0_in (n := 227) (by decide +kernel) rfl, lw0_in (n := 63) (by decide +kernel) rfl, tyX4_ok, by decide +kernel⟩
theorem wc_X8_15 : Cond.classLink RX8 15 RX1 ∈ lw0 := lw0_in (n := 83) (by decide +kernel) rfl
theorem cl_X8_15 : LkC RX8 15 1 14 := ⟨RX1, TX1, tyX1, rfl, by decide, wc_X8_15, lw0_in (n := 297) (by decide +kernel) rfl, lw0_in (n := 65) (by decide +kernel) rfl, tyX1_ok, by decide +kernel⟩
theorem wc_X8_25 : Cond.classLink RX8 25 RX3 ∈ lw0 := lw0_in (n := 85) (by decide +kernel) rfl
theorem cl_X8_25 : LkC RX8 25 3 4 := ⟨RX3, TX3, tyX3, rfl, by decide, wc_X8_25, lw0_in (n := 86) (by decide +kernel) rfl, lw0_in (n := 56) (by decide +kernel) rfl, tyX3_ok, by decide +kernel⟩
theorem lk_X8_27 : LkN RX8 27 yX3_init cX3_init 1 0 := ⟨mt_X3_init, by decide +kernel, lw0_in (n := 88) (by decide +kernel) rfl, rfl⟩
theorem lo_X3_3 : Cond.methodLink RX3 3 objectInit ∈ lw0 := lw0_in (n := 90) (by decide +kernel) rfl
theorem fl_X3_9 : LkF RX3 9 3 4 0 := ⟨RX3, TX3, rfl, by decide, by decide, lw0_in (n := 91) (by decide +kernel) rfl⟩
theorem fl_X8_172 : LkF RX8 172 3 4 0 := ⟨RX3, TX3, rfl, by decide, by decide, lw0_in (n := 92) (by decide +kernel) rfl⟩
theorem fl_X3_15 : LkF RX3 15 3 4 1 := ⟨RX3, TX3, rfl, by decide, by decide, lw0_in (n := 93) (by decide +kernel) rfl⟩
theorem fl_X8_188 : LkF RX8 188 3 4 1 := ⟨RX3, TX3, rfl, by decide, by decide, lw0_in (n := 94) (by decide +kernel) rfl⟩
theorem fl_X3_18 : LkF RX3 18 3 4 2 := ⟨RX3, TX3, rfl, by decide, by decide, lw0_in (n := 95) (by decide +kernel) rfl⟩
theorem fl_X8_273 : LkF RX8 273 3 4 2 := ⟨RX3, TX3, rfl, by decide, by decide, lw0_in (n := 96) (by decide +kernel) rfl⟩
theorem fl_X3_21 : LkF RX3 21 3 4 3 := ⟨RX3, TX3, rfl, by decide, by decide, lw0_in (n := 97) (by decide +kernel) rfl⟩
theorem fl_X8_150 : LkF RX8 150 3 4 3 := ⟨RX3, TX3, rfl, by decide, by decide, lw0_in (n := 98) (by decide +kernel) rfl⟩
theorem ac_int : Cond.arrayClass .int ∈ lw0 := lw0_in (n := 108) (by decide +kernel) rfl
theorem wc_X8_32 : Cond.classLink RX8 32 RX0 ∈ lw0 := lw0_in (n := 109) (by decide +kernel) rfl
theorem cl_X8_32 : LkC RX8 32 0 4 := ⟨RX0, TX0, tyX0, rfl, by decide, wc_X8_32, lw0_in (n := 110) (by decide +kernel) rfl, lw0_in (n := 57) (by decide +kernel) rfl, tyX0_ok, by decide +kernel⟩
theorem lk_X8_34 : LkN RX8 34 yX0_init cX0_init 1 0 := ⟨mt_X0_init, by decide +kernel, lw0_in (n := 112) (by decide +kernel) rfl, rfl⟩
theorem lo_X0_3 : Cond.methodLink RX0 3 objectInit ∈ lw0 := lw0_in (n := 114) (by decide +kernel) rfl
theorem fl_X0_9 : LkF RX0 9 0 4 0 := ⟨RX0, TX0, rfl, by decide, by decide, lw0_in (n := 115) (by decide +kernel) rfl⟩
theorem fl_X0_15 : LkF RX0 15 0 4 1 := ⟨RX0, TX0, rfl, by decide, by decide, lw0_in (n := 116) (by decide +kernel) rfl⟩
theorem fl_X0_18 : LkF RX0 18 0 4 2 := ⟨RX0, TX0, rfl, by decide, by decide, lw0_in (n := 117) (by decide +kernel) rfl⟩
theorem fl_X8_293 : LkF RX8 293 0 4 2 := ⟨RX0, TX0, rfl, by decide, by decide, lw0_in (n := 118) (by decide +kernel) rfl⟩
theorem fl_X0_22 : LkF RX0 22 0 4 3 := ⟨RX0, TX0, rfl, by decide, by decide, lw0_in (n := 119) (by decide +kernel) rfl⟩
theorem fl_X8_296 : LkF RX8 296 0 4 3 := ⟨RX0, TX0, rfl, by decide, by decide, lw0_in (n := 120) (by decide +kernel) rfl⟩
theorem wc_X8_39 : Cond.classLink RX8 39 RX7 ∈ lw0 := lw0_in (n := 130) (by decide +kernel) rfl
theorem cl_X8_39 : LkC RX8 39 7 10 := ⟨RX7, TX7, tyX7, rfl, by decide, wc_X8_39, lw0_in (n := 131) (by decide +kernel) rfl, lw0_in (n := 58) (by decide +kernel) rfl, tyX7_ok, by decide +kernel⟩
theorem lk_X8_41 : LkI RX8 41 yX7_init cX7_init 1 0 := ⟨mt_X7_init, lw0_in (n := 132) (by decide +kernel) rfl, lw0_in (n := 133) (by decide +kernel) rfl, rfl⟩
theorem lo_X7_3 : Cond.methodLink RX7 3 objectInit ∈ lw0 := lw0_in (n := 135) (by decide +kernel) rfl
theorem lk_X7_30 : LkS RX7 30 yJ7_fill_53178 cJ7_fill_53178 4 none 2 := ⟨mt_J7_fill_53178, lw0_in (n := 136) (by decide +kernel) rfl, lw0_in (n := 137) (by decide +kernel) rfl⟩
theorem fl_X7_9 : LkF RX7 9 7 10 0 := ⟨RX7, TX7, rfl, by decide, by decide, lw0_in (n := 139) (by decide +kernel) rfl⟩
theorem fl_X7_15 : LkF RX7 15 7 10 1 := ⟨RX7, TX7, rfl, by decide, by decide, lw0_in (n := 140) (by decide +kernel) rfl⟩
theorem fl_X7_18 : LkF RX7 18 7 10 2 := ⟨RX7, TX7, rfl, by decide, by decide, lw0_in (n := 141) (by decide +kernel) rfl⟩
theorem fl_X7_21 : LkF RX7 21 7 10 3 := ⟨RX7, TX7, rfl, by decide, by decide, lw0_in (n := 142) (by decide +kernel) rfl⟩
theorem fl_X7_24 : LkF RX7 24 7 10 4 := ⟨RX7, TX7, rfl, by decide, by decide, lw0_in (n := 143) (by decide +kernel) rfl⟩
theorem fl_X7_27 : LkF RX7 27 7 10 5 := ⟨RX7, TX7, rfl, by decide, by decide, lw0_in (n := 144) (by decide +kernel) rfl⟩
theorem fl_X7_36 : LkF RX7 36 7 10 6 := ⟨RX7, TX7, rfl, by decide, by decide, lw0_in (n := 145) (by decide +kernel) rfl⟩
theorem fl_X7_40 : LkF RX7 40 7 10 7 := ⟨RX7, TX7, rfl, by decide, by decide, lw0_in (n := 146) (by decide +kernel) rfl⟩
theorem fl_X7_43 : LkF RX7 43 7 10 8 := ⟨RX7, TX7, rfl, by decide, by decide, lw0_in (n := 147) (by decide +kernel) rfl⟩
theorem fl_X7_46 : LkF RX7 46 7 10 9 := ⟨RX7, TX7, rfl, by decide, by decide, lw0_in (n := 148) (by decide +kernel) rfl⟩
theorem wc_X8_46 : Cond.classLink RX8 46 RX6 ∈ lw0 := lw0_in (n := 170) (by decide +kernel) rfl
theorem cl_X8_46 : LkC RX8 46 6 6 := ⟨RX6, TX6, tyX6, rfl, by decide, wc_X8_46, lw0_in (n := 171) (by decide +kernel) rfl, lw0_in (n := 60) (by decide +kernel) rfl, tyX6_ok, by decide +kernel⟩
theorem lk_X8_48 : LkN RX8 48 yX6_init cX6_init 1 0 := ⟨mt_X6_init, by decide +kernel, lw0_in (n := 173) (by decide +kernel) rfl, rfl⟩
theorem lo_X6_3 : Cond.methodLink RX6 3 objectInit ∈ lw0 := lw0_in (n := 175) (by decide +kernel) rfl
theorem wc_X6_18 : Cond.classLink RX6 18 RX2 ∈ lw0 := lw0_in (n := 176) (by decide +kernel) rfl
theorem cl_X6_18 : LkC RX6 18 2 2 := ⟨RX2, TX2, tyX2, rfl, by decide, wc_X6_18, lw0_in (n := 177) (by decide +kernel) rfl, lw0_in (n := 61) (by decide +kernel) rfl, tyX2_ok, by decide +kernel⟩
theorem lk_X6_20 : LkN RX6 20 yX2_init cX2_init 1 0 := ⟨mt_X2_init, by decide +kernel, lw0_in (n := 179) (by decide +kernel) rfl, rfl⟩
theorem lo_X2_5 : Cond.methodLink RX2 5 objectInit ∈ lw0 := lw0_in (n := 181) (by decide +kernel) rfl
theorem fl_X2_11 : LkF RX2 11 2 2 0 := ⟨RX2, TX2, rfl, by decide, by decide, lw0_in (n := 182) (by decide +kernel) rfl⟩
theorem fl_X2_17 : LkF RX2 17 2 2 1 := ⟨RX2, TX2, rfl, by decide, by decide, lw0_in (n := 183) (by decide +kernel) rfl⟩
theorem wc_X6_25 : Cond.classLink RX6 25 RX5 ∈ lw0 := lw0_in (n := 189) (by decide +kernel) rfl
theorem cl_X6_25 : LkC RX6 25 5 4 := ⟨RX5, TX5, tyX5, rfl, by decide, wc_X6_25, lw0_in (n := 190) (by decide +kernel) rfl, lw0_in (n := 62) (by decide +kernel) rfl, tyX5_ok, by decide +kernel⟩
theorem lk_X6_27 : LkN RX6 27 yX5_init cX5_init 1 0 := ⟨mt_X5_init, by decide +kernel, lw0_in (n := 192) (by decide +kernel) rfl, rfl⟩
theorem lo_X5_3 : Cond.methodLink RX5 3 objectInit ∈ lw0 := lw0_in (n := 194) (by decide +kernel) rfl
theorem fl_X5_11 : LkF RX5 11 5 4 0 := ⟨RX5, TX5, rfl, by decide, by decide, lw0_in (n := 195) (by decide +kernel) rfl⟩
theorem fl_X5_17 : LkF RX5 17 5 4 1 := ⟨RX5, TX5, rfl, by decide, by decide, lw0_in (n := 196) (by decide +kernel) rfl⟩
theorem fl_X5_20 : LkF RX5 20 5 4 2 := ⟨RX5, TX5, rfl, by decide, by decide, lw0_in (n := 197) (by decide +kernel) rfl⟩
theorem fl_X5_29 : LkF RX5 29 5 4 3 := ⟨RX5, TX5, rfl, by decide, by decide, lw0_in (n := 198) (by decide +kernel) rfl⟩
theorem fl_X6_11 : LkF RX6 11 6 6 0 := ⟨RX6, TX6, rfl, by decide, by decide, lw0_in (n := 208) (by decide +kernel) rfl⟩
theorem fl_X6_15 : LkF RX6 15 6 6 1 := ⟨RX6, TX6, rfl, by decide, by decide, lw0_in (n := 209) (by decide +kernel) rfl⟩
theorem fl_X6_21 : LkF RX6 21 6 6 2 := ⟨RX6, TX6, rfl, by decide, by decide, lw0_in (n := 210) (by decide +kernel) rfl⟩
theorem fl_X6_28 : LkF RX6 28 6 6 3 := ⟨RX6, TX6, rfl, by decide, by decide, lw0_in (n := 211) (by decide +kernel) rfl⟩
theorem fl_X6_46 : LkF RX6 46 6 6 4 := ⟨RX6, TX6, rfl, by decide, by decide, lw0_in (n := 212) (by decide +kernel) rfl⟩
theorem fl_X6_50 : LkF RX6 50 6 6 5 := ⟨RX6, TX6, rfl, by decide, by decide, lw0_in (n := 213) (by decide +kernel) rfl⟩
theorem lk_X8_53 : LkN RX8 53 yX4_init cX4_init 1 0 := ⟨mt_X4_init, by decide +kernel, lw0_in (n := 229) (by decide +kernel) rfl, rfl⟩
theorem lo_X4_3 : Cond.methodLink RX4 3 objectInit ∈ lw0 := lw0_in (n := 231) (by decide +kernel) rfl
theorem fl_X4_11 : LkF RX4 11 4 4 0 := ⟨RX4, TX4, rfl, by decide, by decide, lw0_in (n := 232) (by decide +kernel) rfl⟩
theorem fl_X8_111 : LkF RX8 111 4 4 0 := ⟨RX4, TX4, rfl, by decide, by decide, lw0_in (n := 233) (by decide +kernel) rfl⟩
theorem fl_X4_15 : LkF RX4 15 4 4 1 := ⟨RX4, TX4, rfl, by decide, by decide, lw0_in (n := 234) (by decide +kernel) rfl⟩
theorem fl_X8_105 : LkF RX8 105 4 4 1 := ⟨RX4, TX4, rfl, by decide, by decide, lw0_in (n := 235) (by decide +kernel) rfl⟩
theorem fl_X1_37 : LkF RX1 37 4 4 2 := ⟨RX4, TX4, rfl, by decide, by decide, lw0_in (n := 236) (by decide +kernel) rfl⟩
theorem fl_X3_34 : LkF RX3 34 4 4 2 := ⟨RX4, TX4, rfl, by decide, by decide, lw0_in (n := 237) (by decide +kernel) rfl⟩
theorem fl_X4_22 : LkF RX4 22 4 4 2 := ⟨RX4, TX4, rfl, by decide, by decide, lw0_in (n := 238) (by decide +kernel) rfl⟩
theorem fl_X8_153 : LkF RX8 153 4 4 2 := ⟨RX4, TX4, rfl, by decide, by decide, lw0_in (n := 239) (by decide +kernel) rfl⟩
theorem fl_X4_19 : LkF RX4 19 4 4 3 := ⟨RX4, TX4, rfl, by decide, by decide, lw0_in (n := 240) (by decide +kernel) rfl⟩
theorem fl_X8_136 : LkF RX8 136 4 4 3 := ⟨RX4, TX4, rfl, by decide, by decide, lw0_in (n := 241) (by decide +kernel) rfl⟩
theorem ac_long : Cond.arrayClass .long ∈ lw0 := lw0_in (n := 251) (by decide +kernel) rfl
theorem fl_X8_11 : LkF RX8 11 8 10 0 := ⟨RX8, TX8, rfl, by decide, by decide, lw0_in (n := 252) (by decide +kernel) rfl⟩
theorem fl_X8_17 : LkF RX8 17 8 10 1 := ⟨RX8, TX8, rfl, by decide, by decide, lw0_in (n := 253) (by decide +kernel) rfl⟩
theorem fl_X8_21 : LkF RX8 21 8 10 2 := ⟨RX8, TX8, rfl, by decide, by decide, lw0_in (n := 254) (by decide +kernel) rfl⟩
theorem fl_X8_28 : LkF RX8 28 8 10 3 := ⟨RX8, TX8, rfl, by decide, by decide, lw0_in (n := 255) (by decide +kernel) rfl⟩
theorem fl_X8_35 : LkF RX8 35 8 10 4 := ⟨RX8, TX8, rfl, by decide, by decide, lw0_in (n := 256) (by decide +kernel) rfl⟩
theorem fl_X8_42 : LkF RX8 42 8 10 5 := ⟨RX8, TX8, rfl, by decide, by decide, lw0_in (n := 257) (by decide +kernel) rfl⟩
theorem fl_X8_49 : LkF RX8 49 8 10 6 := ⟨RX8, TX8, rfl, by decide, by decide, lw0_in (n := 258) (by decide +kernel) rfl⟩
theorem fl_X8_69 : LkF RX8 69 8 10 7 := ⟨RX8, TX8, rfl, by decide, by decide, lw0_in (n := 259) (by decide +kernel) rfl⟩
theorem fl_X8_302 : LkF RX8 302 8 10 8 := ⟨RX8, TX8, rfl, by decide, by decide, lw0_in (n := 260) (by decide +kernel) rfl⟩
theorem fl_X8_65 : LkF RX8 65 8 10 9 := ⟨RX8, TX8, rfl, by decide, by decide, lw0_in (n := 261) (by decide +kernel) rfl⟩
theorem lk_L_13 : LkV RL 13 yX8_door cX8_door 4 (some .int) 3 8 := ⟨mt_X8_door, lw0_in (n := 283) (by decide +kernel) rfl, lw0_in (n := 284) (by decide +kernel) rfl, lw0_in (n := 285) (by decide +kernel) rfl, by decide, rfl⟩
theorem lk_X8_54 : LkS RX8 54 yX8_isBlock cX8_isBlock 1 (some .boolean) 1 := ⟨mt_X8_isBlock, lw0_in (n := 287) (by decide +kernel) rfl, lw0_in (n := 288) (by decide +kernel) rfl⟩
theorem lk_X8_58 : LkV RX8 58 yX8_refuse cX8_refuse 2 (some .int) 1 8 := ⟨mt_X8_refuse, lw0_in (n := 290) (by decide +kernel) rfl, lw0_in (n := 292) (by decide +kernel) rfl, lw0_in (n := 0) (by decide +kernel) rfl, by decide, rfl⟩
theorem lk_X8_62 : LkS RX8 62 yX8_isLike cX8_isLike 1 (some .boolean) 1 := ⟨mt_X8_isLike, lw0_in (n := 294) (by decide +kernel) rfl, lw0_in (n := 295) (by decide +kernel) rfl⟩
theorem lk_X8_73 : LkI RX8 73 yX1_init cX1_init 4 3 := ⟨mt_X1_init, lw0_in (n := 298) (by decide +kernel) rfl, lw0_in (n := 299) (by decide +kernel) rfl, rfl⟩
theorem lo_X1_3 : Cond.methodLink RX1 3 objectInit ∈ lw0 := lw0_in (n := 301) (by decide +kernel) rfl
theorem fl_X1_28 : LkF RX1 28 1 14 0 := ⟨RX1, TX1, rfl, by decide, by decide, lw0_in (n := 302) (by decide +kernel) rfl⟩
theorem fl_X8_143 : LkF RX8 143 1 14 0 := ⟨RX1, TX1, rfl, by decide, by decide, lw0_in (n := 303) (by decide +kernel) rfl⟩
theorem fl_X1_31 : LkF RX1 31 1 14 1 := ⟨RX1, TX1, rfl, by decide, by decide, lw0_in (n := 304) (by decide +kernel) rfl⟩
theorem fl_X8_178 : LkF RX8 178 1 14 1 := ⟨RX1, TX1, rfl, by decide, by decide, lw0_in (n := 305) (by decide +kernel) rfl⟩
theorem fl_X1_34 : LkF RX1 34 1 14 2 := ⟨RX1, TX1, rfl, by decide, by decide, lw0_in (n := 306) (by decide +kernel) rfl⟩
theorem fl_X1_9 : LkF RX1 9 1 14 3 := ⟨RX1, TX1, rfl, by decide, by decide, lw0_in (n := 307) (by decide +kernel) rfl⟩
theorem fl_X1_15 : LkF RX1 15 1 14 4 := ⟨RX1, TX1, rfl, by decide, by decide, lw0_in (n := 308) (by decide +kernel) rfl⟩
theorem fl_X8_212 : LkF RX8 212 1 14 4 := ⟨RX1, TX1, rfl, by decide, by decide, lw0_in (n := 309) (by decide +kernel) rfl⟩
theorem fl_X1_48 : LkF RX1 48 1 14 5 := ⟨RX1, TX1, rfl, by decide, by decide, lw0_in (n := 310) (by decide +kernel) rfl⟩
theorem fl_X1_18 : LkF RX1 18 1 14 6 := ⟨RX1, TX1, rfl, by decide, by decide, lw0_in (n := 311) (by decide +kernel) rfl⟩
theorem fl_X8_185 : LkF RX8 185 1 14 6 := ⟨RX1, TX1, rfl, by decide, by decide, lw0_in (n := 312) (by decide +kernel) rfl⟩
theorem fl_X1_55 : LkF RX1 55 1 14 7 := ⟨RX1, TX1, rfl, by decide, by decide, lw0_in (n := 313) (by decide +kernel) rfl⟩
theorem fl_X8_163 : LkF RX8 163 1 14 7 := ⟨RX1, TX1, rfl, by decide, by decide, lw0_in (n := 314) (by decide +kernel) rfl⟩
theorem fl_X1_59 : LkF RX1 59 1 14 8 := ⟨RX1, TX1, rfl, by decide, by decide, lw0_in (n := 315) (by decide +kernel) rfl⟩
theorem fl_X1_62 : LkF RX1 62 1 14 9 := ⟨RX1, TX1, rfl, by decide, by decide, lw0_in (n := 316) (by decide +kernel) rfl⟩
theorem fl_X8_320 : LkF RX8 320 1 14 9 := ⟨RX1, TX1, rfl, by decide, by decide, lw0_in (n := 317) (by decide +kernel) rfl⟩
theorem fl_X1_72 : LkF RX1 72 1 14 10 := ⟨RX1, TX1, rfl, by decide, by decide, lw0_in (n := 318) (by decide +kernel) rfl⟩
theorem fl_X8_169 : LkF RX8 169 1 14 10 := ⟨RX1, TX1, rfl, by decide, by decide, lw0_in (n := 319) (by decide +kernel) rfl⟩
theorem fl_X1_75 : LkF RX1 75 1 14 11 := ⟨RX1, TX1, rfl, by decide, by decide, lw0_in (n := 320) (by decide +kernel) rfl⟩
theorem fl_X1_22 : LkF RX1 22 1 14 12 := ⟨RX1, TX1, rfl, by decide, by decide, lw0_in (n := 321) (by decide +kernel) rfl⟩
theorem fl_X8_206 : LkF RX8 206 1 14 12 := ⟨RX1, TX1, rfl, by decide, by decide, lw0_in (n := 322) (by decide +kernel) rfl⟩
theorem fl_X1_25 : LkF RX1 25 1 14 13 := ⟨RX1, TX1, rfl, by decide, by decide, lw0_in (n := 323) (by decide +kernel) rfl⟩
theorem fl_X8_244 : LkF RX8 244 1 14 13 := ⟨RX1, TX1, rfl, by decide, by decide, lw0_in (n := 324) (by decide +kernel) rfl⟩
theorem lk_L_18 : LkV RL 18 yX8_near cX8_near 3 (some .int) 2 8 := ⟨mt_X8_near, lw0_in (n := 354) (by decide +kernel) rfl, lw0_in (n := 355) (by decide +kernel) rfl, lw0_in (n := 356) (by decide +kernel) rfl, by decide, rfl⟩
theorem lk_X8_76 : LkV RX8 76 yX7_join cX7_join 4 (some .boolean) 2 7 := ⟨mt_X7_join, lw0_in (n := 358) (by decide +kernel) rfl, lw0_in (n := 359) (by decide +kernel) rfl, lw0_in (n := 360) (by decide +kernel) rfl, by decide, rfl⟩
theorem lk_L_23 : LkV RL 23 yX8_row cX8_row 4 (some .int) 3 8 := ⟨mt_X8_row, lw0_in (n := 362) (by decide +kernel) rfl, lw0_in (n := 363) (by decide +kernel) rfl, lw0_in (n := 364) (by decide +kernel) rfl, by decide, rfl⟩
theorem lk_X8_80 : LkS RX8 80 yX8_isShelf cX8_isShelf 1 (some .boolean) 1 := ⟨mt_X8_isShelf, lw0_in (n := 366) (by decide +kernel) rfl, lw0_in (n := 367) (by decide +kernel) rfl⟩
theorem lk_X8_83 : LkV RX8 83 yX4_putRow cX4_putRow 3 none 2 4 := ⟨mt_X4_putRow, lw0_in (n := 369) (by decide +kernel) rfl, lw0_in (n := 370) (by decide +kernel) rfl, lw0_in (n := 371) (by decide +kernel) rfl, by decide, rfl⟩
theorem lk_X4_25 : LkV RX4 25 yX4_putNothing cX4_putNothing 1 none 0 4 := ⟨mt_X4_putNothing, lw0_in (n := 373) (by decide +kernel) rfl, lw0_in (n := 374) (by decide +kernel) rfl, lw0_in (n := 375) (by decide +kernel) rfl, by decide, rfl⟩
theorem lk_X4_28 : LkS RX4 28 yJ7_fill_d0a16 cJ7_fill_d0a16 5 none 2 := ⟨mt_J7_fill_d0a16, lw0_in (n := 377) (by decide +kernel) rfl, lw0_in (n := 378) (by decide +kernel) rfl⟩
theorem lk_L_29 : LkV RL 29 yX8_set cX8_set 6 (some .int) 3 8 := ⟨mt_X8_set, lw0_in (n := 380) (by decide +kernel) rfl, lw0_in (n := 381) (by decide +kernel) rfl, lw0_in (n := 382) (by decide +kernel) rfl, by decide, rfl⟩
theorem lk_X8_87 : LkV RX8 87 yX4_fitAsRow cX4_fitAsRow 1 (some .int) 0 4 := ⟨mt_X4_fitAsRow, lw0_in (n := 384) (by decide +kernel) rfl, lw0_in (n := 385) (by decide +kernel) rfl, lw0_in (n := 386) (by decide +kernel) rfl, by decide, rfl⟩
theorem lk_X4_38 : LkV RX4 38 yX4_isDoor cX4_isDoor 1 (some .boolean) 0 4 := ⟨mt_X4_isDoor, lw0_in (n := 388) (by decide +kernel) rfl, lw0_in (n := 389) (by decide +kernel) rfl, lw0_in (n := 390) (by decide +kernel) rfl, by decide, rfl⟩
theorem lk_X4_34 : LkV RX4 34 yX4_isRow cX4_isRow 1 (some .boolean) 0 4 := ⟨mt_X4_isRow, lw0_in (n := 392) (by decide +kernel) rfl, lw0_in (n := 393) (by decide +kernel) rfl, lw0_in (n := 394) (by decide +kernel) rfl, by decide, rfl⟩
theorem lk_X8_91 : LkV RX8 91 yX4_hasElement cX4_hasElement 2 (some .boolean) 1 4 := ⟨mt_X4_hasElement, lw0_in (n := 396) (by decide +kernel) rfl, lw0_in (n := 397) (by decide +kernel) rfl, lw0_in (n := 398) (by decide +kernel) rfl, by decide, rfl⟩
theorem lk_X8_94 : LkV RX8 94 yX4_putElement cX4_putElement 4 none 2 4 := ⟨mt_X4_putElement, lw0_in (n := 400) (by decide +kernel) rfl, lw0_in (n := 401) (by decide +kernel) rfl, lw0_in (n := 402) (by decide +kernel) rfl, by decide, rfl⟩
theorem lk_X4_41 : LkV RX4 41 yX4_hasElement cX4_hasElement 2 (some .boolean) 1 4 := ⟨mt_X4_hasElement, lw0_in (n := 404) (by decide +kernel) rfl, lw0_in (n := 397) (by decide +kernel) rfl, lw0_in (n := 398) (by decide +kernel) rfl, by decide, rfl⟩
theorem lk_X4_45 : LkV RX4 45 yX4_lowestBits cX4_lowestBits 3 (some .long) 1 4 := ⟨mt_X4_lowestBits, lw0_in (n := 405) (by decide +kernel) rfl, lw0_in (n := 407) (by decide +kernel) rfl, lw0_in (n := 1) (by decide +kernel) rfl, by decide, rfl⟩
theorem lk_L_34 : LkV RL 34 yX8_copy cX8_copy 8 (some .int) 5 8 := ⟨mt_X8_copy, lw0_in (n := 409) (by decide +kernel) rfl, lw0_in (n := 410) (by decide +kernel) rfl, lw0_in (n := 411) (by decide +kernel) rfl, by decide, rfl⟩
theorem lk_X8_98 : LkV RX8 98 yX4_isDoor cX4_isDoor 1 (some .boolean) 0 4 := ⟨mt_X4_isDoor, lw0_in (n := 413) (by decide +kernel) rfl, lw0_in (n := 389) (by decide +kernel) rfl, lw0_in (n := 390) (by decide +kernel) rfl, by decide, rfl⟩
theorem lk_X8_102 : LkV RX8 102 yX4_isRow cX4_isRow 1 (some .boolean) 0 4 := ⟨mt_X4_isRow, lw0_in (n := 414) (by decide +kernel) rfl, lw0_in (n := 393) (by decide +kernel) rfl, lw0_in (n := 394) (by decide +kernel) rfl, by decide, rfl⟩
theorem lk_X8_108 : LkV RX8 108 yX4_hasStretch cX4_hasStretch 3 (some .boolean) 2 4 := ⟨mt_X4_hasStretch, lw0_in (n := 415) (by decide +kernel) rfl, lw0_in (n := 416) (by decide +kernel) rfl, lw0_in (n := 417) (by decide +kernel) rfl, by decide, rfl⟩
theorem lj_X8_115 : Cond.methodLink RX8 115 arraycopyName ∈ lw0 := lw0_in (n := 419) (by decide +kernel) rfl
theorem nat_copy : Cond.native arraycopyName ∈ lw0 := lw0_in (n := 421) (by decide +kernel) rfl
theorem lk_L_39 : LkV RL 39 yX8_element cX8_element 3 (some .long) 2 8 := ⟨mt_X8_element, lw0_in (n := 422) (by decide +kernel) rfl, lw0_in (n := 423) (by decide +kernel) rfl, lw0_in (n := 424) (by decide +kernel) rfl, by decide, rfl⟩
theorem lk_L_44 : LkV RL 44 yX8_show cX8_show 3 (some .int) 2 8 := ⟨mt_X8_show, lw0_in (n := 426) (by decide +kernel) rfl, lw0_in (n := 427) (by decide +kernel) rfl, lw0_in (n := 428) (by decide +kernel) rfl, by decide, rfl⟩
theorem lk_X8_121 : LkV RX8 121 yX8_isDoor cX8_isDoor 2 (some .boolean) 1 8 := ⟨mt_X8_isDoor, lw0_in (n := 430) (by decide +kernel) rfl, lw0_in (n := 432) (by decide +kernel) rfl, lw0_in (n := 2) (by decide +kernel) rfl, by decide, rfl⟩
theorem lk_X8_123 : LkV RX8 123 yX4_putNothing cX4_putNothing 1 none 0 4 := ⟨mt_X4_putNothing, lw0_in (n := 434) (by decide +kernel) rfl, lw0_in (n := 374) (by decide +kernel) rfl, lw0_in (n := 375) (by decide +kernel) rfl, by decide, rfl⟩
theorem lk_X8_126 : LkV RX8 126 yX4_putDoor cX4_putDoor 2 none 1 4 := ⟨mt_X4_putDoor, lw0_in (n := 435) (by decide +kernel) rfl, lw0_in (n := 436) (by decide +kernel) rfl, lw0_in (n := 437) (by decide +kernel) rfl, by decide, rfl⟩
theorem lk_L_48 : LkV RL 48 yX8_holds cX8_holds 2 (some .int) 1 8 := ⟨mt_X8_holds, lw0_in (n := 439) (by decide +kernel) rfl, lw0_in (n := 440) (by decide +kernel) rfl, lw0_in (n := 441) (by decide +kernel) rfl, by decide, rfl⟩
theorem lk_X8_130 : LkV RX8 130 yX4_contents cX4_contents 1 (some .int) 0 4 := ⟨mt_X4_contents, lw0_in (n := 443) (by decide +kernel) rfl, lw0_in (n := 444) (by decide +kernel) rfl, lw0_in (n := 445) (by decide +kernel) rfl, by decide, rfl⟩
theorem lk_L_53 : LkV RL 53 yX8_blockIn cX8_blockIn 4 (some .int) 1 8 := ⟨mt_X8_blockIn, lw0_in (n := 447) (by decide +kernel) rfl, lw0_in (n := 448) (by decide +kernel) rfl, lw0_in (n := 449) (by decide +kernel) rfl, by decide, rfl⟩
theorem lk_X8_133 : LkV RX8 133 yX4_fitAsDoor cX4_fitAsDoor 1 (some .int) 0 4 := ⟨mt_X4_fitAsDoor, lw0_in (n := 451) (by decide +kernel) rfl, lw0_in (n := 452) (by decide +kernel) rfl, lw0_in (n := 453) (by decide +kernel) rfl, by decide, rfl⟩
theorem lk_X8_139 : LkV RX8 139 yX8_doorAt cX8_doorAt 2 (some (.object "CensusNight$Door")) 1 8 := ⟨mt_X8_doorAt, lw0_in (n := 455) (by decide +kernel) rfl, lw0_in (n := 457) (by decide +kernel) rfl, lw0_in (n := 3) (by decide +kernel) rfl, by decide, rfl⟩
theorem lk_L_57 : LkV RL 57 yX8_law cX8_law 3 (some .int) 1 8 := ⟨mt_X8_law, lw0_in (n := 459) (by decide +kernel) rfl, lw0_in (n := 460) (by decide +kernel) rfl, lw0_in (n := 461) (by decide +kernel) rfl, by decide, rfl⟩
theorem lk_X8_146 : LkV RX8 146 yX3_read cX3_read 2 (some .boolean) 1 3 := ⟨mt_X3_read, lw0_in (n := 463) (by decide +kernel) rfl, lw0_in (n := 464) (by decide +kernel) rfl, lw0_in (n := 465) (by decide +kernel) rfl, by decide, rfl⟩
theorem lk_X3_24 : LkS RX3 24 yX3_firstWrongPlace cX3_firstWrongPlace 2 (some .int) 1 := ⟨mt_X3_firstWrongPlace, lw0_in (n := 467) (by decide +kernel) rfl, lw0_in (n := 468) (by decide +kernel) rfl⟩
theorem lk_X3_28 : LkV RX3 28 yX4_elementAsInt cX4_elementAsInt 2 (some .int) 1 4 := ⟨mt_X4_elementAsInt, lw0_in (n := 470) (by decide +kernel) rfl, lw0_in (n := 471) (by decide +kernel) rfl, lw0_in (n := 472) (by decide +kernel) rfl, by decide, rfl⟩
theorem lk_X3_37 : LkS RX3 37 yX3_mayStand cX3_mayStand 2 (some .boolean) 2 := ⟨mt_X3_mayStand, lw0_in (n := 474) (by decide +kernel) rfl, lw0_in (n := 475) (by decide +kernel) rfl⟩
theorem lk_J0_495 : LkS RJ0 495 yJ1_charAt_3b067 cJ1_charAt_3b067 2 (some .char) 2 := ⟨mt_J1_charAt_3b067, lw0_in (n := 488) (by decide +kernel) rfl, lw0_in (n := 489) (by decide +kernel) rfl⟩
theorem lk_J1_9 : LkS RJ1 9 yJ0_checkIndex_df160 cJ0_checkIndex_df160 2 none 2 := ⟨mt_J0_checkIndex_df160, lw0_in (n := 491) (by decide +kernel) rfl, lw0_in (n := 492) (by decide +kernel) rfl⟩
theorem lk_J0_1059 : LkS RJ0 1059 yJ3_checkIndex_8e157 cJ3_checkIndex_8e157 3 (some .int) 3 := ⟨mt_J3_checkIndex_8e157, lw0_in (n := 496) (by decide +kernel) rfl, lw0_in (n := 497) (by decide +kernel) rfl⟩
theorem ac_byte : Cond.arrayClass .byte ∈ lw0 := lw0_in (n := 518) (by decide +kernel) rfl
theorem lk_L_61 : LkV RL 61 yX8_fault cX8_fault 1 (some .int) 0 8 := ⟨mt_X8_fault, lw0_in (n := 519) (by decide +kernel) rfl, lw0_in (n := 520) (by decide +kernel) rfl, lw0_in (n := 521) (by decide +kernel) rfl, by decide, rfl⟩
theorem lk_L_66 : LkV RL 66 yX8_truth cX8_truth 5 (some .int) 2 8 := ⟨mt_X8_truth, lw0_in (n := 523) (by decide +kernel) rfl, lw0_in (n := 524) (by decide +kernel) rfl, lw0_in (n := 525) (by decide +kernel) rfl, by decide, rfl⟩
theorem lk_X8_156 : LkV RX8 156 yX1_learnTruth cX1_learnTruth 3 (some .int) 1 1 := ⟨mt_X1_learnTruth, lw0_in (n := 527) (by decide +kernel) rfl, lw0_in (n := 528) (by decide +kernel) rfl, lw0_in (n := 529) (by decide +kernel) rfl, by decide, rfl⟩
theorem lj_X1_42 : Cond.methodLink RX1 42 Lib.Math.min.name ∈ lw0 := lw0_in (n := 531) (by decide +kernel) rfl
theorem lk_X1_51 : LkV RX1 51 yX4_elementAsAge cX4_elementAsAge 4 (some .int) 1 4 := ⟨mt_X4_elementAsAge, lw0_in (n := 534) (by decide +kernel) rfl, lw0_in (n := 535) (by decide +kernel) rfl, lw0_in (n := 536) (by decide +kernel) rfl, by decide, rfl⟩
theorem lk_X4_49 : LkV RX4 49 yX4_elementAsInt cX4_elementAsInt 2 (some .int) 1 4 := ⟨mt_X4_elementAsInt, lw0_in (n := 538) (by decide +kernel) rfl, lw0_in (n := 471) (by decide +kernel) rfl, lw0_in (n := 472) (by decide +kernel) rfl, by decide, rfl⟩
theorem kc_X4_55 : Cond.constantLong RX4 55 (-9223372036854775808) ∈ lw0 := lw0_in (n := 539) (by decide +kernel) rfl
theorem lk_L_70 : LkV RL 70 yX8_paper cX8_paper 3 (some .int) 1 8 := ⟨mt_X8_paper, lw0_in (n := 540) (by decide +kernel) rfl, lw0_in (n := 541) (by decide +kernel) rfl, lw0_in (n := 542) (by decide +kernel) rfl, by decide, rfl⟩
theorem lk_X8_160 : LkV RX8 160 yX1_isToBeAsked cX1_isToBeAsked 1 (some .boolean) 0 1 := ⟨mt_X1_isToBeAsked, lw0_in (n := 544) (by decide +kernel) rfl, lw0_in (n := 545) (by decide +kernel) rfl, lw0_in (n := 546) (by decide +kernel) rfl, by decide, rfl⟩
theorem lk_X8_166 : LkV RX8 166 yX1_takePaper cX1_takePaper 2 (some .int) 0 1 := ⟨mt_X1_takePaper, lw0_in (n := 548) (by decide +kernel) rfl, lw0_in (n := 549) (by decide +kernel) rfl, lw0_in (n := 550) (by decide +kernel) rfl, by decide, rfl⟩
theorem lk_X1_65 : LkV RX1 65 yX1_startReturn cX1_startReturn 2 none 1 1 := ⟨mt_X1_startReturn, lw0_in (n := 552) (by decide +kernel) rfl, lw0_in (n := 554) (by decide +kernel) rfl, lw0_in (n := 4) (by decide +kernel) rfl, by decide, rfl⟩
theorem lk_X1_69 : LkV RX1 69 yX1_addHead cX1_addHead 2 none 1 1 := ⟨mt_X1_addHead, lw0_in (n := 556) (by decide +kernel) rfl, lw0_in (n := 558) (by decide +kernel) rfl, lw0_in (n := 5) (by decide +kernel) rfl, by decide, rfl⟩
theorem lk_L_74 : LkV RL 74 yX8_knock cX8_knock 5 (some .int) 2 8 := ⟨mt_X8_knock, lw0_in (n := 560) (by decide +kernel) rfl, lw0_in (n := 561) (by decide +kernel) rfl, lw0_in (n := 562) (by decide +kernel) rfl, by decide, rfl⟩
theorem lk_X8_175 : LkV RX8 175 yX1_takeKnock cX1_takeKnock 3 (some .boolean) 1 1 := ⟨mt_X1_takeKnock, lw0_in (n := 564) (by decide +kernel) rfl, lw0_in (n := 565) (by decide +kernel) rfl, lw0_in (n := 566) (by decide +kernel) rfl, by decide, rfl⟩
theorem lk_X8_181 : LkV RX8 181 yX0_note cX0_note 5 none 3 0 := ⟨mt_X0_note, lw0_in (n := 568) (by decide +kernel) rfl, lw0_in (n := 569) (by decide +kernel) rfl, lw0_in (n := 570) (by decide +kernel) rfl, by decide, rfl⟩
theorem lk_L_78 : LkV RL 78 yX8_proxy cX8_proxy 4 (some .int) 2 8 := ⟨mt_X8_proxy, lw0_in (n := 572) (by decide +kernel) rfl, lw0_in (n := 573) (by decide +kernel) rfl, lw0_in (n := 574) (by decide +kernel) rfl, by decide, rfl⟩
theorem lk_X8_191 : LkV RX8 191 yX1_takeProxy cX1_takeProxy 3 none 1 1 := ⟨mt_X1_takeProxy, lw0_in (n := 576) (by decide +kernel) rfl, lw0_in (n := 577) (by decide +kernel) rfl, lw0_in (n := 578) (by decide +kernel) rfl, by decide, rfl⟩
theorem lk_L_82 : LkV RL 82 yX8_twice cX8_twice 7 (some .int) 4 8 := ⟨mt_X8_twice, lw0_in (n := 580) (by decide +kernel) rfl, lw0_in (n := 581) (by decide +kernel) rfl, lw0_in (n := 582) (by decide +kernel) rfl, by decide, rfl⟩
theorem lk_X8_194 : LkV RX8 194 yX1_hasHead cX1_hasHead 2 (some .boolean) 1 1 := ⟨mt_X1_hasHead, lw0_in (n := 584) (by decide +kernel) rfl, lw0_in (n := 585) (by decide +kernel) rfl, lw0_in (n := 586) (by decide +kernel) rfl, by decide, rfl⟩
theorem lk_X8_197 : LkV RX8 197 yX1_isStruck cX1_isStruck 2 (some .boolean) 1 1 := ⟨mt_X1_isStruck, lw0_in (n := 588) (by decide +kernel) rfl, lw0_in (n := 589) (by decide +kernel) rfl, lw0_in (n := 590) (by decide +kernel) rfl, by decide, rfl⟩
theorem lk_X8_200 : LkV RX8 200 yX1_strike cX1_strike 2 none 1 1 := ⟨mt_X1_strike, lw0_in (n := 592) (by decide +kernel) rfl, lw0_in (n := 593) (by decide +kernel) rfl, lw0_in (n := 594) (by decide +kernel) rfl, by decide, rfl⟩
theorem lk_L_87 : LkV RL 87 yX8_fill cX8_fill 3 (some .int) 0 8 := ⟨mt_X8_fill, lw0_in (n := 596) (by decide +kernel) rfl, lw0_in (n := 597) (by decide +kernel) rfl, lw0_in (n := 598) (by decide +kernel) rfl, by decide, rfl⟩
theorem lk_X8_203 : LkV RX8 203 yX8_fillDoor cX8_fillDoor 4 (some .boolean) 1 8 := ⟨mt_X8_fillDoor, lw0_in (n := 600) (by decide +kernel) rfl, lw0_in (n := 602) (by decide +kernel) rfl, lw0_in (n := 6) (by decide +kernel) rfl, by decide, rfl⟩
theorem lk_X8_310 : LkV RX8 310 yX1_canFill cX1_canFill 3 (some .boolean) 1 1 := ⟨mt_X1_canFill, lw0_in (n := 604) (by decide +kernel) rfl, lw0_in (n := 605) (by decide +kernel) rfl, lw0_in (n := 606) (by decide +kernel) rfl, by decide, rfl⟩
theorem lj_X8_313 : Cond.methodLink RX8 313 Lib.Math.abs.name ∈ lw0 := lw0_in (n := 608) (by decide +kernel) rfl
theorem lk_X8_316 : LkV RX8 316 yX1_takeHeadsOf cX1_takeHeadsOf 4 none 2 1 := ⟨mt_X1_takeHeadsOf, lw0_in (n := 611) (by decide +kernel) rfl, lw0_in (n := 612) (by decide +kernel) rfl, lw0_in (n := 613) (by decide +kernel) rfl, by decide, rfl⟩
theorem lk_X1_78 : LkV RX1 78 yX1_isStruck cX1_isStruck 2 (some .boolean) 1 1 := ⟨mt_X1_isStruck, lw0_in (n := 615) (by decide +kernel) rfl, lw0_in (n := 589) (by decide +kernel) rfl, lw0_in (n := 590) (by decide +kernel) rfl, by decide, rfl⟩
theorem lk_L_91 : LkV RL 91 yX8_from cX8_from 3 (some .int) 1 8 := ⟨mt_X8_from, lw0_in (n := 616) (by decide +kernel) rfl, lw0_in (n := 617) (by decide +kernel) rfl, lw0_in (n := 618) (by decide +kernel) rfl, by decide, rfl⟩
theorem lk_L_95 : LkV RL 95 yX8_about cX8_about 4 (some .int) 2 8 := ⟨mt_X8_about, lw0_in (n := 620) (by decide +kernel) rfl, lw0_in (n := 621) (by decide +kernel) rfl, lw0_in (n := 622) (by decide +kernel) rfl, by decide, rfl⟩
theorem lk_X8_209 : LkV RX8 209 yX1_tell cX1_tell 2 (some .int) 1 1 := ⟨mt_X1_tell, lw0_in (n := 624) (by decide +kernel) rfl, lw0_in (n := 625) (by decide +kernel) rfl, lw0_in (n := 626) (by decide +kernel) rfl, by decide, rfl⟩
theorem lk_X1_82 : LkS RX1 82 yJ6_bitCount_0f7a4 cJ6_bitCount_0f7a4 1 (some .int) 1 := ⟨mt_J6_bitCount_0f7a4, lw0_in (n := 628) (by decide +kernel) rfl, lw0_in (n := 629) (by decide +kernel) rfl⟩
theorem kc_J6_265 : Cond.constant RJ6 265 (1431655765) ∈ lw0 := lw0_in (n := 631) (by decide +kernel) rfl
theorem kc_J6_266 : Cond.constant RJ6 266 (858993459) ∈ lw0 := lw0_in (n := 632) (by decide +kernel) rfl
theorem kc_J6_267 : Cond.constant RJ6 267 (252645135) ∈ lw0 := lw0_in (n := 633) (by decide +kernel) rfl
theorem lk_L_99 : LkV RL 99 yX8_age cX8_age 4 (some .int) 2 8 := ⟨mt_X8_age, lw0_in (n := 634) (by decide +kernel) rfl, lw0_in (n := 635) (by decide +kernel) rfl, lw0_in (n := 636) (by decide +kernel) rfl, by decide, rfl⟩
theorem lk_L_103 : LkV RL 103 yX8_count cX8_count 7 (some .int) 3 8 := ⟨mt_X8_count, lw0_in (n := 638) (by decide +kernel) rfl, lw0_in (n := 639) (by decide +kernel) rfl, lw0_in (n := 640) (by decide +kernel) rfl, by decide, rfl⟩
theorem lk_X8_215 : LkV RX8 215 yX1_countedInBand cX1_countedInBand 4 (some .int) 1 1 := ⟨mt_X1_countedInBand, lw0_in (n := 642) (by decide +kernel) rfl, lw0_in (n := 643) (by decide +kernel) rfl, lw0_in (n := 644) (by decide +kernel) rfl, by decide, rfl⟩
theorem lk_X1_87 : LkS RX1 87 yX1_bandOf cX1_bandOf 1 (some .int) 1 := ⟨mt_X1_bandOf, lw0_in (n := 646) (by decide +kernel) rfl, lw0_in (n := 647) (by decide +kernel) rfl⟩
theorem lk_L_108 : LkV RL 108 yX8_bestHour cX8_bestHour 2 (some .int) 1 8 := ⟨mt_X8_bestHour, lw0_in (n := 649) (by decide +kernel) rfl, lw0_in (n := 650) (by decide +kernel) rfl, lw0_in (n := 651) (by decide +kernel) rfl, by decide, rfl⟩
theorem lk_X8_218 : LkV RX8 218 yX0_greatest cX0_greatest 4 (some .int) 1 0 := ⟨mt_X0_greatest, lw0_in (n := 653) (by decide +kernel) rfl, lw0_in (n := 654) (by decide +kernel) rfl, lw0_in (n := 655) (by decide +kernel) rfl, by decide, rfl⟩
theorem lk_X0_25 : LkV RX0 25 yX0_isGreater cX0_isGreater 5 (some .boolean) 2 0 := ⟨mt_X0_isGreater, lw0_in (n := 657) (by decide +kernel) rfl, lw0_in (n := 659) (by decide +kernel) rfl, lw0_in (n := 7) (by decide +kernel) rfl, by decide, rfl⟩
theorem lk_L_112 : LkV RL 112 yX8_cut cX8_cut 3 (some .int) 1 8 := ⟨mt_X8_cut, lw0_in (n := 661) (by decide +kernel) rfl, lw0_in (n := 662) (by decide +kernel) rfl, lw0_in (n := 663) (by decide +kernel) rfl, by decide, rfl⟩
theorem lk_X8_221 : LkV RX8 221 yX7_clearWork cX7_clearWork 1 none 0 7 := ⟨mt_X7_clearWork, lw0_in (n := 665) (by decide +kernel) rfl, lw0_in (n := 666) (by decide +kernel) rfl, lw0_in (n := 667) (by decide +kernel) rfl, by decide, rfl⟩
theorem lk_X8_224 : LkV RX8 224 yX7_addDoor cX7_addDoor 3 none 2 7 := ⟨mt_X7_addDoor, lw0_in (n := 669) (by decide +kernel) rfl, lw0_in (n := 670) (by decide +kernel) rfl, lw0_in (n := 671) (by decide +kernel) rfl, by decide, rfl⟩
theorem lk_X8_228 : LkV RX8 228 yX7_part cX7_part 2 (some .int) 1 7 := ⟨mt_X7_part, lw0_in (n := 673) (by decide +kernel) rfl, lw0_in (n := 674) (by decide +kernel) rfl, lw0_in (n := 675) (by decide +kernel) rfl, by decide, rfl⟩
theorem lk_X7_49 : LkS RX7 49 yX7_place cX7_place 4 none 3 := ⟨mt_X7_place, lw0_in (n := 677) (by decide +kernel) rfl, lw0_in (n := 678) (by decide +kernel) rfl⟩
theorem lk_X7_59 : LkV RX7 59 yX7_judge cX7_judge 4 none 1 7 := ⟨mt_X7_judge, lw0_in (n := 680) (by decide +kernel) rfl, lw0_in (n := 682) (by decide +kernel) rfl, lw0_in (n := 8) (by decide +kernel) rfl, by decide, rfl⟩
theorem lk_X7_69 : LkV RX7 69 yX7_workOf cX7_workOf 4 (some .int) 1 7 := ⟨mt_X7_workOf, lw0_in (n := 684) (by decide +kernel) rfl, lw0_in (n := 686) (by decide +kernel) rfl, lw0_in (n := 9) (by decide +kernel) rfl, by decide, rfl⟩
theorem lj_X7_63 : Cond.methodLink RX7 63 Lib.Math.max.name ∈ lw0 := lw0_in (n := 688) (by decide +kernel) rfl
theorem lk_X7_73 : LkV RX7 73 yX7_allTogether cX7_allTogether 3 (some .boolean) 1 7 := ⟨mt_X7_allTogether, lw0_in (n := 691) (by decide +kernel) rfl, lw0_in (n := 693) (by decide +kernel) rfl, lw0_in (n := 10) (by decide +kernel) rfl, by decide, rfl⟩
theorem lk_X7_77 : LkV RX7 77 yX7_isTogether cX7_isTogether 4 (some .boolean) 1 7 := ⟨mt_X7_isTogether, lw0_in (n := 695) (by decide +kernel) rfl, lw0_in (n := 697) (by decide +kernel) rfl, lw0_in (n := 11) (by decide +kernel) rfl, by decide, rfl⟩
theorem lk_X7_80 : LkV RX7 80 yX7_nearOnes cX7_nearOnes 4 (some .int) 1 7 := ⟨mt_X7_nearOnes, lw0_in (n := 699) (by decide +kernel) rfl, lw0_in (n := 701) (by decide +kernel) rfl, lw0_in (n := 12) (by decide +kernel) rfl, by decide, rfl⟩
theorem lj_X7_53 : Cond.methodLink RX7 53 arraycopyName ∈ lw0 := lw0_in (n := 703) (by decide +kernel) rfl
theorem lk_L_116 : LkV RL 116 yX8_walk cX8_walk 2 (some .int) 1 8 := ⟨mt_X8_walk, lw0_in (n := 704) (by decide +kernel) rfl, lw0_in (n := 705) (by decide +kernel) rfl, lw0_in (n := 706) (by decide +kernel) rfl, by decide, rfl⟩
theorem lk_X8_231 : LkV RX8 231 yX7_numberOf cX7_numberOf 2 (some .int) 1 7 := ⟨mt_X7_numberOf, lw0_in (n := 708) (by decide +kernel) rfl, lw0_in (n := 709) (by decide +kernel) rfl, lw0_in (n := 710) (by decide +kernel) rfl, by decide, rfl⟩
theorem lk_L_120 : LkV RL 120 yX8_second cX8_second 7 (some .int) 2 8 := ⟨mt_X8_second, lw0_in (n := 712) (by decide +kernel) rfl, lw0_in (n := 713) (by decide +kernel) rfl, lw0_in (n := 714) (by decide +kernel) rfl, by decide, rfl⟩
theorem lk_X8_234 : LkV RX8 234 yX8_doorsOf cX8_doorsOf 4 (some .int) 1 8 := ⟨mt_X8_doorsOf, lw0_in (n := 716) (by decide +kernel) rfl, lw0_in (n := 718) (by decide +kernel) rfl, lw0_in (n := 13) (by decide +kernel) rfl, by decide, rfl⟩
theorem lk_X8_237 : LkV RX8 237 yX4_elementAsInt cX4_elementAsInt 2 (some .int) 1 4 := ⟨mt_X4_elementAsInt, lw0_in (n := 720) (by decide +kernel) rfl, lw0_in (n := 471) (by decide +kernel) rfl, lw0_in (n := 472) (by decide +kernel) rfl, by decide, rfl⟩
theorem lk_X8_240 : LkV RX8 240 yX8_keepSecond cX8_keepSecond 6 (some .int) 2 8 := ⟨mt_X8_keepSecond, lw0_in (n := 721) (by decide +kernel) rfl, lw0_in (n := 723) (by decide +kernel) rfl, lw0_in (n := 14) (by decide +kernel) rfl, by decide, rfl⟩
theorem lk_L_124 : LkV RL 124 yX8_right cX8_right 10 (some .long) 1 8 := ⟨mt_X8_right, lw0_in (n := 725) (by decide +kernel) rfl, lw0_in (n := 726) (by decide +kernel) rfl, lw0_in (n := 727) (by decide +kernel) rfl, by decide, rfl⟩
theorem lk_X8_247 : LkV RX8 247 yX1_counted cX1_counted 1 (some .int) 0 1 := ⟨mt_X1_counted, lw0_in (n := 729) (by decide +kernel) rfl, lw0_in (n := 730) (by decide +kernel) rfl, lw0_in (n := 731) (by decide +kernel) rfl, by decide, rfl⟩
theorem lj_X8_250 : Cond.methodLink RX8 250 Lib.Math.min.name ∈ lw0 := lw0_in (n := 733) (by decide +kernel) rfl
theorem lk_X8_256 : LkV RX8 256 yX8_countedHeads cX8_countedHeads 3 (some .int) 0 8 := ⟨mt_X8_countedHeads, lw0_in (n := 734) (by decide +kernel) rfl, lw0_in (n := 736) (by decide +kernel) rfl, lw0_in (n := 15) (by decide +kernel) rfl, by decide, rfl⟩
theorem lk_X8_259 : LkS RX8 259 yX8_commonDivisor cX8_commonDivisor 11 (some .long) 2 := ⟨mt_X8_commonDivisor, lw0_in (n := 738) (by decide +kernel) rfl, lw0_in (n := 739) (by decide +kernel) rfl⟩
theorem lk_L_129 : LkV RL 129 yX8_heap cX8_heap 4 (some .int) 0 8 := ⟨mt_X8_heap, lw0_in (n := 741) (by decide +kernel) rfl, lw0_in (n := 742) (by decide +kernel) rfl, lw0_in (n := 743) (by decide +kernel) rfl, by decide, rfl⟩
theorem lk_X8_263 : LkV RX8 263 yX1_countedThatMayHeap cX1_countedThatMayHeap 5 (some .int) 1 1 := ⟨mt_X1_countedThatMayHeap, lw0_in (n := 745) (by decide +kernel) rfl, lw0_in (n := 746) (by decide +kernel) rfl, lw0_in (n := 747) (by decide +kernel) rfl, by decide, rfl⟩
theorem lk_L_133 : LkV RL 133 yX8_table cX8_table 3 (some .int) 0 8 := ⟨mt_X8_table, lw0_in (n := 749) (by decide +kernel) rfl, lw0_in (n := 750) (by decide +kernel) rfl, lw0_in (n := 751) (by decide +kernel) rfl, by decide, rfl⟩
theorem lk_X8_266 : LkV RX8 266 yX8_count cX8_count 7 (some .int) 3 8 := ⟨mt_X8_count, lw0_in (n := 753) (by decide +kernel) rfl, lw0_in (n := 639) (by decide +kernel) rfl, lw0_in (n := 640) (by decide +kernel) rfl, by decide, rfl⟩
theorem lk_X8_270 : LkV RX8 270 yX6_draft cX6_draft 4 none 3 6 := ⟨mt_X6_draft, lw0_in (n := 754) (by decide +kernel) rfl, lw0_in (n := 755) (by decide +kernel) rfl, lw0_in (n := 756) (by decide +kernel) rfl, by decide, rfl⟩
theorem lk_X6_32 : LkS RX6 32 yX6_isCell cX6_isCell 2 (some .boolean) 2 := ⟨mt_X6_isCell, lw0_in (n := 758) (by decide +kernel) rfl, lw0_in (n := 759) (by decide +kernel) rfl⟩
theorem lk_X8_276 : LkV RX8 276 yX6_make cX6_make 3 (some .boolean) 1 6 := ⟨mt_X6_make, lw0_in (n := 761) (by decide +kernel) rfl, lw0_in (n := 762) (by decide +kernel) rfl, lw0_in (n := 763) (by decide +kernel) rfl, by decide, rfl⟩
theorem lk_X6_36 : LkV RX6 36 yX2_find cX2_find 5 (some .int) 2 2 := ⟨mt_X2_find, lw0_in (n := 765) (by decide +kernel) rfl, lw0_in (n := 766) (by decide +kernel) rfl, lw0_in (n := 767) (by decide +kernel) rfl, by decide, rfl⟩
theorem lk_X2_20 : LkS RX2 20 yX2_choose cX2_choose 6 (some .int) 4 := ⟨mt_X2_choose, lw0_in (n := 769) (by decide +kernel) rfl, lw0_in (n := 770) (by decide +kernel) rfl⟩
theorem lk_X2_24 : LkS RX2 24 yX2_loneLines cX2_loneLines 4 (some .int) 1 := ⟨mt_X2_loneLines, lw0_in (n := 772) (by decide +kernel) rfl, lw0_in (n := 773) (by decide +kernel) rfl⟩
theorem lk_X2_33 : LkS RX2 33 yX2_isOneCell cX2_isOneCell 1 (some .boolean) 1 := ⟨mt_X2_isOneCell, lw0_in (n := 775) (by decide +kernel) rfl, lw0_in (n := 776) (by decide +kernel) rfl⟩
theorem kc_X2_36 : Cond.constant RX2 36 (1118481) ∈ lw0 := lw0_in (n := 778) (by decide +kernel) rfl
theorem lj_X2_37 : Cond.methodLink RX2 37 Lib.Math.max.name ∈ lw0 := lw0_in (n := 779) (by decide +kernel) rfl
theorem lk_X2_28 : LkV RX2 28 yX2_noneFollows cX2_noneFollows 6 (some .boolean) 1 2 := ⟨mt_X2_noneFollows, lw0_in (n := 780) (by decide +kernel) rfl, lw0_in (n := 782) (by decide +kernel) rfl, lw0_in (n := 16) (by decide +kernel) rfl, by decide, rfl⟩
theorem lk_X2_43 : LkV RX2 43 yX2_canShrink cX2_canShrink 8 (some .boolean) 3 2 := ⟨mt_X2_canShrink, lw0_in (n := 784) (by decide +kernel) rfl, lw0_in (n := 786) (by decide +kernel) rfl, lw0_in (n := 17) (by decide +kernel) rfl, by decide, rfl⟩
theorem lk_X2_50 : LkS RX2 50 yX2_columnsOf cX2_columnsOf 2 (some .int) 1 := ⟨mt_X2_columnsOf, lw0_in (n := 788) (by decide +kernel) rfl, lw0_in (n := 789) (by decide +kernel) rfl⟩
theorem lk_X2_53 : LkS RX2 53 yX2_rowsOf cX2_rowsOf 2 (some .int) 1 := ⟨mt_X2_rowsOf, lw0_in (n := 791) (by decide +kernel) rfl, lw0_in (n := 792) (by decide +kernel) rfl⟩
theorem lk_X2_47 : LkV RX2 47 yX2_canGrow cX2_canGrow 8 (some .boolean) 3 2 := ⟨mt_X2_canGrow, lw0_in (n := 794) (by decide +kernel) rfl, lw0_in (n := 796) (by decide +kernel) rfl, lw0_in (n := 18) (by decide +kernel) rfl, by decide, rfl⟩
theorem kc_X2_32 : Cond.constant RX2 32 (16777215) ∈ lw0 := lw0_in (n := 798) (by decide +kernel) rfl
theorem lj_X6_40 : Cond.methodLink RX6 40 arraycopyName ∈ lw0 := lw0_in (n := 799) (by decide +kernel) rfl
theorem lk_X8_279 : LkV RX8 279 yX6_hiddenCells cX6_hiddenCells 1 (some .int) 0 6 := ⟨mt_X6_hiddenCells, lw0_in (n := 800) (by decide +kernel) rfl, lw0_in (n := 801) (by decide +kernel) rfl, lw0_in (n := 802) (by decide +kernel) rfl, by decide, rfl⟩
theorem lk_X6_54 : LkS RX6 54 yJ6_bitCount_0f7a4 cJ6_bitCount_0f7a4 1 (some .int) 1 := ⟨mt_J6_bitCount_0f7a4, lw0_in (n := 804) (by decide +kernel) rfl, lw0_in (n := 629) (by decide +kernel) rfl⟩
theorem lk_L_137 : LkV RL 137 yX8_told cX8_told 3 (some .int) 2 8 := ⟨mt_X8_told, lw0_in (n := 805) (by decide +kernel) rfl, lw0_in (n := 806) (by decide +kernel) rfl, lw0_in (n := 807) (by decide +kernel) rfl, by decide, rfl⟩
theorem lk_X8_282 : LkV RX8 282 yX6_tell cX6_tell 3 (some .int) 2 6 := ⟨mt_X6_tell, lw0_in (n := 809) (by decide +kernel) rfl, lw0_in (n := 810) (by decide +kernel) rfl, lw0_in (n := 811) (by decide +kernel) rfl, by decide, rfl⟩
theorem lk_X6_60 : LkV RX6 60 yX6_isHidden cX6_isHidden 3 (some .boolean) 2 6 := ⟨mt_X6_isHidden, lw0_in (n := 813) (by decide +kernel) rfl, lw0_in (n := 815) (by decide +kernel) rfl, lw0_in (n := 19) (by decide +kernel) rfl, by decide, rfl⟩
theorem lk_X6_63 : LkV RX6 63 yX6_sum cX6_sum 7 (some .int) 2 6 := ⟨mt_X6_sum, lw0_in (n := 817) (by decide +kernel) rfl, lw0_in (n := 819) (by decide +kernel) rfl, lw0_in (n := 20) (by decide +kernel) rfl, by decide, rfl⟩
theorem lk_L_141 : LkV RL 141 yX8_could cX8_could 4 (some .int) 3 8 := ⟨mt_X8_could, lw0_in (n := 821) (by decide +kernel) rfl, lw0_in (n := 822) (by decide +kernel) rfl, lw0_in (n := 823) (by decide +kernel) rfl, by decide, rfl⟩
theorem lk_X8_284 : LkV RX8 284 yX6_extreme cX6_extreme 4 (some .int) 3 6 := ⟨mt_X6_extreme, lw0_in (n := 825) (by decide +kernel) rfl, lw0_in (n := 826) (by decide +kernel) rfl, lw0_in (n := 827) (by decide +kernel) rfl, by decide, rfl⟩
theorem lk_X6_67 : LkV RX6 67 yX5_extreme cX5_extreme 11 (some .int) 4 5 := ⟨mt_X5_extreme, lw0_in (n := 829) (by decide +kernel) rfl, lw0_in (n := 830) (by decide +kernel) rfl, lw0_in (n := 831) (by decide +kernel) rfl, by decide, rfl⟩
theorem lj_X5_23 : Cond.methodLink RX5 23 arraycopyName ∈ lw0 := lw0_in (n := 833) (by decide +kernel) rfl
theorem kc_X5_33 : Cond.constant RX5 33 (100000) ∈ lw0 := lw0_in (n := 834) (by decide +kernel) rfl
theorem lk_X5_34 : LkV RX5 34 yX5_findWay cX5_findWay 6 (some .boolean) 2 5 := ⟨mt_X5_findWay, lw0_in (n := 835) (by decide +kernel) rfl, lw0_in (n := 837) (by decide +kernel) rfl, lw0_in (n := 21) (by decide +kernel) rfl, by decide, rfl⟩
theorem lk_X5_51 : LkS RX5 51 yJ7_fill_53178 cJ7_fill_53178 4 none 2 := ⟨mt_J7_fill_53178, lw0_in (n := 839) (by decide +kernel) rfl, lw0_in (n := 137) (by decide +kernel) rfl⟩
theorem lk_X5_57 : LkV RX5 57 yX5_canStep cX5_canStep 4 (some .boolean) 2 5 := ⟨mt_X5_canStep, lw0_in (n := 840) (by decide +kernel) rfl, lw0_in (n := 842) (by decide +kernel) rfl, lw0_in (n := 22) (by decide +kernel) rfl, by decide, rfl⟩
theorem lk_X5_60 : LkS RX5 60 yX5_cellOf cX5_cellOf 2 (some .int) 2 := ⟨mt_X5_cellOf, lw0_in (n := 844) (by decide +kernel) rfl, lw0_in (n := 845) (by decide +kernel) rfl⟩
theorem lj_X5_42 : Cond.methodLink RX5 42 Lib.Math.min.name ∈ lw0 := lw0_in (n := 847) (by decide +kernel) rfl
theorem lj_X5_63 : Cond.methodLink RX5 63 Lib.Math.max.name ∈ lw0 := lw0_in (n := 848) (by decide +kernel) rfl
theorem lk_X5_38 : LkV RX5 38 yX5_wayRoom cX5_wayRoom 6 (some .int) 2 5 := ⟨mt_X5_wayRoom, lw0_in (n := 849) (by decide +kernel) rfl, lw0_in (n := 851) (by decide +kernel) rfl, lw0_in (n := 23) (by decide +kernel) rfl, by decide, rfl⟩
theorem kc_X5_68 : Cond.constant RX5 68 (2147483647) ∈ lw0 := lw0_in (n := 853) (by decide +kernel) rfl
theorem lk_X5_47 : LkV RX5 47 yX5_moveAlong cX5_moveAlong 6 none 3 5 := ⟨mt_X5_moveAlong, lw0_in (n := 854) (by decide +kernel) rfl, lw0_in (n := 856) (by decide +kernel) rfl, lw0_in (n := 24) (by decide +kernel) rfl, by decide, rfl⟩
theorem lk_L_145 : LkV RL 145 yX8_status cX8_status 2 (some .int) 1 8 := ⟨mt_X8_status, lw0_in (n := 858) (by decide +kernel) rfl, lw0_in (n := 859) (by decide +kernel) rfl, lw0_in (n := 860) (by decide +kernel) rfl, by decide, rfl⟩
theorem lk_X8_287 : LkV RX8 287 yX8_doorsWith cX8_doorsWith 4 (some .int) 1 8 := ⟨mt_X8_doorsWith, lw0_in (n := 862) (by decide +kernel) rfl, lw0_in (n := 864) (by decide +kernel) rfl, lw0_in (n := 25) (by decide +kernel) rfl, by decide, rfl⟩
theorem lk_X8_290 : LkV RX8 290 yX8_struckHeads cX8_struckHeads 3 (some .int) 0 8 := ⟨mt_X8_struckHeads, lw0_in (n := 866) (by decide +kernel) rfl, lw0_in (n := 868) (by decide +kernel) rfl, lw0_in (n := 26) (by decide +kernel) rfl, by decide, rfl⟩
theorem lk_X8_305 : LkS RX8 305 yJ6_bitCount_0f7a4 cJ6_bitCount_0f7a4 1 (some .int) 1 := ⟨mt_J6_bitCount_0f7a4, lw0_in (n := 870) (by decide +kernel) rfl, lw0_in (n := 629) (by decide +kernel) rfl⟩
theorem lk_X8_299 : LkV RX8 299 yX8_doorsToBeAsked cX8_doorsToBeAsked 3 (some .int) 0 8 := ⟨mt_X8_doorsToBeAsked, lw0_in (n := 871) (by decide +kernel) rfl, lw0_in (n := 873) (by decide +kernel) rfl, lw0_in (n := 27) (by decide +kernel) rfl, by decide, rfl⟩
theorem wc_L_10 : Cond.classLink RL 10 RX9 ∈ lw0 := lw0_in (n := 875) (by decide +kernel) rfl
theorem cl_L_10 : LkC RL 10 9 46 := ⟨RX9, TX9, tyX9, rfl, by decide, wc_L_10, lw0_in (n := 876) (by decide +kernel) rfl, lw0_in (n := 64) (by decide +kernel) rfl, tyX9_ok, by decide +kernel⟩
theorem lk_L_12 : LkI RL 12 yX9_init cX9_init 2 0 := ⟨mt_X9_init, lw0_in (n := 877) (by decide +kernel) rfl, lw0_in (n := 878) (by decide +kernel) rfl, rfl⟩
theorem lo_X9_1 : Cond.methodLink RX9 1 objectInit ∈ lw0 := lw0_in (n := 880) (by decide +kernel) rfl
theorem fl_X9_7 : LkF RX9 7 9 46 0 := ⟨RX9, TX9, rfl, by decide, by decide, lw0_in (n := 881) (by decide +kernel) rfl⟩
theorem fl_X9_13 : LkF RX9 13 9 46 1 := ⟨RX9, TX9, rfl, by decide, by decide, lw0_in (n := 882) (by decide +kernel) rfl⟩
theorem fl_X9_16 : LkF RX9 16 9 46 2 := ⟨RX9, TX9, rfl, by decide, by decide, lw0_in (n := 883) (by decide +kernel) rfl⟩
theorem fl_X9_19 : LkF RX9 19 9 46 3 := ⟨RX9, TX9, rfl, by decide, by decide, lw0_in (n := 884) (by decide +kernel) rfl⟩
theorem fl_X9_22 : LkF RX9 22 9 46 4 := ⟨RX9, TX9, rfl, by decide, by decide, lw0_in (n := 885) (by decide +kernel) rfl⟩
theorem fl_X9_25 : LkF RX9 25 9 46 5 := ⟨RX9, TX9, rfl, by decide, by decide, lw0_in (n := 886) (by decide +kernel) rfl⟩
theorem fl_X9_28 : LkF RX9 28 9 46 6 := ⟨RX9, TX9, rfl, by decide, by decide, lw0_in (n := 887) (by decide +kernel) rfl⟩
theorem fl_X9_31 : LkF RX9 31 9 46 7 := ⟨RX9, TX9, rfl, by decide, by decide, lw0_in (n := 888) (by decide +kernel) rfl⟩
theorem fl_X9_34 : LkF RX9 34 9 46 8 := ⟨RX9, TX9, rfl, by decide, by decide, lw0_in (n := 889) (by decide +kernel) rfl⟩
theorem fl_X9_37 : LkF RX9 37 9 46 9 := ⟨RX9, TX9, rfl, by decide, by decide, lw0_in (n := 890) (by decide +kernel) rfl⟩
theorem fl_X9_40 : LkF RX9 40 9 46 10 := ⟨RX9, TX9, rfl, by decide, by decide, lw0_in (n := 891) (by decide +kernel) rfl⟩
theorem fl_X9_43 : LkF RX9 43 9 46 11 := ⟨RX9, TX9, rfl, by decide, by decide, lw0_in (n := 892) (by decide +kernel) rfl⟩
theorem fl_X9_46 : LkF RX9 46 9 46 12 := ⟨RX9, TX9, rfl, by decide, by decide, lw0_in (n := 893) (by decide +kernel) rfl⟩
theorem fl_X9_50 : LkF RX9 50 9 46 13 := ⟨RX9, TX9, rfl, by decide, by decide, lw0_in (n := 894) (by decide +kernel) rfl⟩
theorem fl_X9_53 : LkF RX9 53 9 46 14 := ⟨RX9, TX9, rfl, by decide, by decide, lw0_in (n := 895) (by decide +kernel) rfl⟩
theorem fl_X9_56 : LkF RX9 56 9 46 15 := ⟨RX9, TX9, rfl, by decide, by decide, lw0_in (n := 896) (by decide +kernel) rfl⟩
theorem fl_X9_59 : LkF RX9 59 9 46 16 := ⟨RX9, TX9, rfl, by decide, by decide, lw0_in (n := 897) (by decide +kernel) rfl⟩
theorem fl_X9_139 : LkF RX9 139 9 46 17 := ⟨RX9, TX9, rfl, by decide, by decide, lw0_in (n := 898) (by decide +kernel) rfl⟩
theorem fl_X9_62 : LkF RX9 62 9 46 18 := ⟨RX9, TX9, rfl, by decide, by decide, lw0_in (n := 899) (by decide +kernel) rfl⟩
theorem fl_X9_66 : LkF RX9 66 9 46 19 := ⟨RX9, TX9, rfl, by decide, by decide, lw0_in (n := 900) (by decide +kernel) rfl⟩
theorem fl_X9_69 : LkF RX9 69 9 46 20 := ⟨RX9, TX9, rfl, by decide, by decide, lw0_in (n := 901) (by decide +kernel) rfl⟩
theorem fl_X9_72 : LkF RX9 72 9 46 21 := ⟨RX9, TX9, rfl, by decide, by decide, lw0_in (n := 902) (by decide +kernel) rfl⟩
theorem fl_X9_158 : LkF RX9 158 9 46 22 := ⟨RX9, TX9, rfl, by decide, by decide, lw0_in (n := 903) (by decide +kernel) rfl⟩
theorem fl_X9_75 : LkF RX9 75 9 46 23 := ⟨RX9, TX9, rfl, by decide, by decide, lw0_in (n := 904) (by decide +kernel) rfl⟩
theorem fl_X9_78 : LkF RX9 78 9 46 24 := ⟨RX9, TX9, rfl, by decide, by decide, lw0_in (n := 905) (by decide +kernel) rfl⟩
theorem fl_X9_81 : LkF RX9 81 9 46 25 := ⟨RX9, TX9, rfl, by decide, by decide, lw0_in (n := 906) (by decide +kernel) rfl⟩
theorem fl_X9_84 : LkF RX9 84 9 46 26 := ⟨RX9, TX9, rfl, by decide, by decide, lw0_in (n := 907) (by decide +kernel) rfl⟩
theorem fl_X9_87 : LkF RX9 87 9 46 27 := ⟨RX9, TX9, rfl, by decide, by decide, lw0_in (n := 908) (by decide +kernel) rfl⟩
theorem fl_X9_90 : LkF RX9 90 9 46 28 := ⟨RX9, TX9, rfl, by decide, by decide, lw0_in (n := 909) (by decide +kernel) rfl⟩
theorem fl_X9_93 : LkF RX9 93 9 46 29 := ⟨RX9, TX9, rfl, by decide, by decide, lw0_in (n := 910) (by decide +kernel) rfl⟩
theorem fl_X9_97 : LkF RX9 97 9 46 30 := ⟨RX9, TX9, rfl, by decide, by decide, lw0_in (n := 911) (by decide +kernel) rfl⟩
theorem fl_X9_100 : LkF RX9 100 9 46 31 := ⟨RX9, TX9, rfl, by decide, by decide, lw0_in (n := 912) (by decide +kernel) rfl⟩
theorem fl_X9_103 : LkF RX9 103 9 46 32 := ⟨RX9, TX9, rfl, by decide, by decide, lw0_in (n := 913) (by decide +kernel) rfl⟩
theorem fl_X9_106 : LkF RX9 106 9 46 33 := ⟨RX9, TX9, rfl, by decide, by decide, lw0_in (n := 914) (by decide +kernel) rfl⟩
theorem fl_X9_109 : LkF RX9 109 9 46 34 := ⟨RX9, TX9, rfl, by decide, by decide, lw0_in (n := 915) (by decide +kernel) rfl⟩
theorem fl_X9_112 : LkF RX9 112 9 46 35 := ⟨RX9, TX9, rfl, by decide, by decide, lw0_in (n := 916) (by decide +kernel) rfl⟩
theorem fl_X9_224 : LkF RX9 224 9 46 36 := ⟨RX9, TX9, rfl, by decide, by decide, lw0_in (n := 917) (by decide +kernel) rfl⟩
theorem fl_X9_115 : LkF RX9 115 9 46 37 := ⟨RX9, TX9, rfl, by decide, by decide, lw0_in (n := 918) (by decide +kernel) rfl⟩
theorem fl_X9_118 : LkF RX9 118 9 46 38 := ⟨RX9, TX9, rfl, by decide, by decide, lw0_in (n := 919) (by decide +kernel) rfl⟩
theorem fl_X9_121 : LkF RX9 121 9 46 39 := ⟨RX9, TX9, rfl, by decide, by decide, lw0_in (n := 920) (by decide +kernel) rfl⟩
theorem fl_X9_124 : LkF RX9 124 9 46 40 := ⟨RX9, TX9, rfl, by decide, by decide, lw0_in (n := 921) (by decide +kernel) rfl⟩
theorem fl_X9_127 : LkF RX9 127 9 46 41 := ⟨RX9, TX9, rfl, by decide, by decide, lw0_in (n := 922) (by decide +kernel) rfl⟩
theorem fl_X9_289 : LkF RX9 289 9 46 42 := ⟨RX9, TX9, rfl, by decide, by decide, lw0_in (n := 923) (by decide +kernel) rfl⟩
theorem fl_X9_130 : LkF RX9 130 9 46 43 := ⟨RX9, TX9, rfl, by decide, by decide, lw0_in (n := 924) (by decide +kernel) rfl⟩
theorem fl_X9_133 : LkF RX9 133 9 46 44 := ⟨RX9, TX9, rfl, by decide, by decide, lw0_in (n := 925) (by decide +kernel) rfl⟩
theorem fl_X9_136 : LkF RX9 136 9 46 45 := ⟨RX9, TX9, rfl, by decide, by decide, lw0_in (n := 926) (by decide +kernel) rfl⟩
theorem ac_boolean : Cond.arrayClass .boolean ∈ lw0 := lw0_in (n := 1020) (by decide +kernel) rfl
theorem lk_L_17 : LkV RL 17 yX9_door cX9_door 4 (some .int) 3 9 := ⟨mt_X9_door, lw0_in (n := 1021) (by decide +kernel) rfl, lw0_in (n := 1022) (by decide +kernel) rfl, lw0_in (n := 1023) (by decide +kernel) rfl, by decide, rfl⟩
theorem lk_X9_142 : LkS RX9 142 yX9_isBlock cX9_isBlock 1 (some .boolean) 1 := ⟨mt_X9_isBlock, lw0_in (n := 1025) (by decide +kernel) rfl, lw0_in (n := 1026) (by decide +kernel) rfl⟩
theorem lk_X9_146 : LkV RX9 146 yX9_no cX9_no 2 (some .int) 1 9 := ⟨mt_X9_no, lw0_in (n := 1028) (by decide +kernel) rfl, lw0_in (n := 1030) (by decide +kernel) rfl, lw0_in (n := 28) (by decide +kernel) rfl, by decide, rfl⟩
theorem kc_X9_150 : Cond.constantLong RX9 150 (3) ∈ lw0 := lw0_in (n := 1032) (by decide +kernel) rfl
theorem lk_X9_152 : LkS RX9 152 yX9_isIn cX9_isIn 6 (some .boolean) 3 := ⟨mt_X9_isIn, lw0_in (n := 1033) (by decide +kernel) rfl, lw0_in (n := 1034) (by decide +kernel) rfl⟩
theorem kc_X9_156 : Cond.constantLong RX9 156 (1023) ∈ lw0 := lw0_in (n := 1036) (by decide +kernel) rfl
theorem lk_L_22 : LkV RL 22 yX9_near cX9_near 4 (some .int) 2 9 := ⟨mt_X9_near, lw0_in (n := 1037) (by decide +kernel) rfl, lw0_in (n := 1038) (by decide +kernel) rfl, lw0_in (n := 1039) (by decide +kernel) rfl, by decide, rfl⟩
theorem lk_L_26 : LkV RL 26 yX9_row cX9_row 5 (some .int) 3 9 := ⟨mt_X9_row, lw0_in (n := 1041) (by decide +kernel) rfl, lw0_in (n := 1042) (by decide +kernel) rfl, lw0_in (n := 1043) (by decide +kernel) rfl, by decide, rfl⟩
theorem lk_X9_162 : LkS RX9 162 yX9_isShelf cX9_isShelf 1 (some .boolean) 1 := ⟨mt_X9_isShelf, lw0_in (n := 1045) (by decide +kernel) rfl, lw0_in (n := 1046) (by decide +kernel) rfl⟩
theorem lk_L_33 : LkV RL 33 yX9_set cX9_set 6 (some .int) 3 9 := ⟨mt_X9_set, lw0_in (n := 1048) (by decide +kernel) rfl, lw0_in (n := 1049) (by decide +kernel) rfl, lw0_in (n := 1050) (by decide +kernel) rfl, by decide, rfl⟩
theorem lk_X9_165 : LkV RX9 165 yX9_notRow cX9_notRow 2 (some .int) 1 9 := ⟨mt_X9_notRow, lw0_in (n := 1052) (by decide +kernel) rfl, lw0_in (n := 1054) (by decide +kernel) rfl, lw0_in (n := 29) (by decide +kernel) rfl, by decide, rfl⟩
theorem lk_X9_168 : LkS RX9 168 yX9_fit cX9_fit 3 (some .long) 2 := ⟨mt_X9_fit, lw0_in (n := 1056) (by decide +kernel) rfl, lw0_in (n := 1057) (by decide +kernel) rfl⟩
theorem lk_L_38 : LkV RL 38 yX9_copy cX9_copy 7 (some .int) 5 9 := ⟨mt_X9_copy, lw0_in (n := 1059) (by decide +kernel) rfl, lw0_in (n := 1060) (by decide +kernel) rfl, lw0_in (n := 1061) (by decide +kernel) rfl, by decide, rfl⟩
theorem lk_L_43 : LkV RL 43 yX9_element cX9_element 3 (some .long) 2 9 := ⟨mt_X9_element, lw0_in (n := 1063) (by decide +kernel) rfl, lw0_in (n := 1064) (by decide +kernel) rfl, lw0_in (n := 1065) (by decide +kernel) rfl, by decide, rfl⟩
theorem lk_L_47 : LkV RL 47 yX9_show cX9_show 3 (some .int) 2 9 := ⟨mt_X9_show, lw0_in (n := 1067) (by decide +kernel) rfl, lw0_in (n := 1068) (by decide +kernel) rfl, lw0_in (n := 1069) (by decide +kernel) rfl, by decide, rfl⟩
theorem lk_X9_172 : LkV RX9 172 yX9_isDoor cX9_isDoor 2 (some .boolean) 1 9 := ⟨mt_X9_isDoor, lw0_in (n := 1071) (by decide +kernel) rfl, lw0_in (n := 1073) (by decide +kernel) rfl, lw0_in (n := 30) (by decide +kernel) rfl, by decide, rfl⟩
theorem lk_L_52 : LkV RL 52 yX9_holds cX9_holds 2 (some .int) 1 9 := ⟨mt_X9_holds, lw0_in (n := 1075) (by decide +kernel) rfl, lw0_in (n := 1076) (by decide +kernel) rfl, lw0_in (n := 1077) (by decide +kernel) rfl, by decide, rfl⟩
theorem lk_L_56 : LkV RL 56 yX9_blockIn cX9_blockIn 2 (some .int) 1 9 := ⟨mt_X9_blockIn, lw0_in (n := 1079) (by decide +kernel) rfl, lw0_in (n := 1080) (by decide +kernel) rfl, lw0_in (n := 1081) (by decide +kernel) rfl, by decide, rfl⟩
theorem lk_L_60 : LkV RL 60 yX9_law cX9_law 3 (some .int) 1 9 := ⟨mt_X9_law, lw0_in (n := 1083) (by decide +kernel) rfl, lw0_in (n := 1084) (by decide +kernel) rfl, lw0_in (n := 1085) (by decide +kernel) rfl, by decide, rfl⟩
theorem lk_X9_185 : LkV RX9 185 yX9_broken cX9_broken 5 (some .int) 1 9 := ⟨mt_X9_broken, lw0_in (n := 1087) (by decide +kernel) rfl, lw0_in (n := 1089) (by decide +kernel) rfl, lw0_in (n := 31) (by decide +kernel) rfl, by decide, rfl⟩
theorem lk_X9_175 : LkV RX9 175 yX9_letter cX9_letter 3 (some .int) 2 9 := ⟨mt_X9_letter, lw0_in (n := 1091) (by decide +kernel) rfl, lw0_in (n := 1093) (by decide +kernel) rfl, lw0_in (n := 32) (by decide +kernel) rfl, by decide, rfl⟩
theorem kc_X9_179 : Cond.constantLong RX9 179 (50) ∈ lw0 := lw0_in (n := 1095) (by decide +kernel) rfl
theorem kc_X9_181 : Cond.constantLong RX9 181 (49) ∈ lw0 := lw0_in (n := 1096) (by decide +kernel) rfl
theorem kc_X9_183 : Cond.constantLong RX9 183 (57) ∈ lw0 := lw0_in (n := 1097) (by decide +kernel) rfl
theorem lk_L_65 : LkV RL 65 yX9_fault cX9_fault 1 (some .int) 0 9 := ⟨mt_X9_fault, lw0_in (n := 1098) (by decide +kernel) rfl, lw0_in (n := 1099) (by decide +kernel) rfl, lw0_in (n := 1100) (by decide +kernel) rfl, by decide, rfl⟩
theorem lk_L_69 : LkV RL 69 yX9_truth cX9_truth 8 (some .int) 2 9 := ⟨mt_X9_truth, lw0_in (n := 1102) (by decide +kernel) rfl, lw0_in (n := 1103) (by decide +kernel) rfl, lw0_in (n := 1104) (by decide +kernel) rfl, by decide, rfl⟩
theorem lk_X9_190 : LkS RX9 190 yX9_isLeast cX9_isLeast 3 (some .boolean) 2 := ⟨mt_X9_isLeast, lw0_in (n := 1106) (by decide +kernel) rfl, lw0_in (n := 1107) (by decide +kernel) rfl⟩
theorem kc_X9_188 : Cond.constantLong RX9 188 (-9223372036854775808) ∈ lw0 := lw0_in (n := 1109) (by decide +kernel) rfl
theorem kc_X9_194 : Cond.constantLong RX9 194 (110) ∈ lw0 := lw0_in (n := 1110) (by decide +kernel) rfl
theorem lk_L_73 : LkV RL 73 yX9_paper cX9_paper 4 (some .int) 1 9 := ⟨mt_X9_paper, lw0_in (n := 1111) (by decide +kernel) rfl, lw0_in (n := 1112) (by decide +kernel) rfl, lw0_in (n := 1113) (by decide +kernel) rfl, by decide, rfl⟩
theorem lk_X9_196 : LkV RX9 196 yX9_isToBeAsked cX9_isToBeAsked 2 (some .boolean) 1 9 := ⟨mt_X9_isToBeAsked, lw0_in (n := 1115) (by decide +kernel) rfl, lw0_in (n := 1117) (by decide +kernel) rfl, lw0_in (n := 33) (by decide +kernel) rfl, by decide, rfl⟩
theorem lk_X9_199 : LkV RX9 199 yX9_returns cX9_returns 5 none 3 9 := ⟨mt_X9_returns, lw0_in (n := 1119) (by decide +kernel) rfl, lw0_in (n := 1121) (by decide +kernel) rfl, lw0_in (n := 34) (by decide +kernel) rfl, by decide, rfl⟩
theorem lk_L_77 : LkV RL 77 yX9_knock cX9_knock 4 (some .int) 2 9 := ⟨mt_X9_knock, lw0_in (n := 1123) (by decide +kernel) rfl, lw0_in (n := 1124) (by decide +kernel) rfl, lw0_in (n := 1125) (by decide +kernel) rfl, by decide, rfl⟩
theorem kc_X9_203 : Cond.constantLong RX9 203 (9) ∈ lw0 := lw0_in (n := 1127) (by decide +kernel) rfl
theorem lk_L_81 : LkV RL 81 yX9_proxy cX9_proxy 3 (some .int) 2 9 := ⟨mt_X9_proxy, lw0_in (n := 1128) (by decide +kernel) rfl, lw0_in (n := 1129) (by decide +kernel) rfl, lw0_in (n := 1130) (by decide +kernel) rfl, by decide, rfl⟩
theorem kc_X9_205 : Cond.constantLong RX9 205 (12) ∈ lw0 := lw0_in (n := 1132) (by decide +kernel) rfl
theorem lk_L_86 : LkV RL 86 yX9_twice cX9_twice 6 (some .int) 4 9 := ⟨mt_X9_twice, lw0_in (n := 1133) (by decide +kernel) rfl, lw0_in (n := 1134) (by decide +kernel) rfl, lw0_in (n := 1135) (by decide +kernel) rfl, by decide, rfl⟩
theorem lk_X9_207 : LkV RX9 207 yX9_isHead cX9_isHead 3 (some .boolean) 2 9 := ⟨mt_X9_isHead, lw0_in (n := 1137) (by decide +kernel) rfl, lw0_in (n := 1139) (by decide +kernel) rfl, lw0_in (n := 35) (by decide +kernel) rfl, by decide, rfl⟩
theorem lk_L_90 : LkV RL 90 yX9_fill cX9_fill 5 (some .int) 0 9 := ⟨mt_X9_fill, lw0_in (n := 1141) (by decide +kernel) rfl, lw0_in (n := 1142) (by decide +kernel) rfl, lw0_in (n := 1143) (by decide +kernel) rfl, by decide, rfl⟩
theorem lk_X9_211 : LkV RX9 211 yX9_donor cX9_donor 7 (some .int) 1 9 := ⟨mt_X9_donor, lw0_in (n := 1145) (by decide +kernel) rfl, lw0_in (n := 1147) (by decide +kernel) rfl, lw0_in (n := 36) (by decide +kernel) rfl, by decide, rfl⟩
theorem lk_L_94 : LkV RL 94 yX9_from cX9_from 2 (some .int) 1 9 := ⟨mt_X9_from, lw0_in (n := 1149) (by decide +kernel) rfl, lw0_in (n := 1150) (by decide +kernel) rfl, lw0_in (n := 1151) (by decide +kernel) rfl, by decide, rfl⟩
theorem lk_L_98 : LkV RL 98 yX9_about cX9_about 3 (some .int) 2 9 := ⟨mt_X9_about, lw0_in (n := 1153) (by decide +kernel) rfl, lw0_in (n := 1154) (by decide +kernel) rfl, lw0_in (n := 1155) (by decide +kernel) rfl, by decide, rfl⟩
theorem lk_X9_214 : LkV RX9 214 yX9_struckAt cX9_struckAt 4 (some .int) 1 9 := ⟨mt_X9_struckAt, lw0_in (n := 1157) (by decide +kernel) rfl, lw0_in (n := 1159) (by decide +kernel) rfl, lw0_in (n := 37) (by decide +kernel) rfl, by decide, rfl⟩
theorem lk_L_102 : LkV RL 102 yX9_age cX9_age 3 (some .int) 2 9 := ⟨mt_X9_age, lw0_in (n := 1161) (by decide +kernel) rfl, lw0_in (n := 1162) (by decide +kernel) rfl, lw0_in (n := 1163) (by decide +kernel) rfl, by decide, rfl⟩
theorem lk_L_107 : LkV RL 107 yX9_count cX9_count 4 (some .int) 3 9 := ⟨mt_X9_count, lw0_in (n := 1165) (by decide +kernel) rfl, lw0_in (n := 1166) (by decide +kernel) rfl, lw0_in (n := 1167) (by decide +kernel) rfl, by decide, rfl⟩
theorem lk_X9_220 : LkV RX9 220 yX9_counted cX9_counted 7 (some .int) 3 9 := ⟨mt_X9_counted, lw0_in (n := 1169) (by decide +kernel) rfl, lw0_in (n := 1171) (by decide +kernel) rfl, lw0_in (n := 38) (by decide +kernel) rfl, by decide, rfl⟩
theorem lk_X9_217 : LkS RX9 217 yX9_bandOf cX9_bandOf 1 (some .int) 1 := ⟨mt_X9_bandOf, lw0_in (n := 1173) (by decide +kernel) rfl, lw0_in (n := 1174) (by decide +kernel) rfl⟩
theorem lk_L_111 : LkV RL 111 yX9_bestHour cX9_bestHour 6 (some .int) 1 9 := ⟨mt_X9_bestHour, lw0_in (n := 1176) (by decide +kernel) rfl, lw0_in (n := 1177) (by decide +kernel) rfl, lw0_in (n := 1178) (by decide +kernel) rfl, by decide, rfl⟩
theorem lk_L_115 : LkV RL 115 yX9_cut cX9_cut 8 (some .int) 1 9 := ⟨mt_X9_cut, lw0_in (n := 1180) (by decide +kernel) rfl, lw0_in (n := 1181) (by decide +kernel) rfl, lw0_in (n := 1182) (by decide +kernel) rfl, by decide, rfl⟩
theorem kc_X9_233 : Cond.constantLong RX9 233 (24) ∈ lw0 := lw0_in (n := 1184) (by decide +kernel) rfl
theorem lk_X9_230 : LkV RX9 230 yX9_walksUpTo cX9_walksUpTo 4 (some .int) 1 9 := ⟨mt_X9_walksUpTo, lw0_in (n := 1185) (by decide +kernel) rfl, lw0_in (n := 1187) (by decide +kernel) rfl, lw0_in (n := 39) (by decide +kernel) rfl, by decide, rfl⟩
theorem lk_X9_235 : LkV RX9 235 yX9_greatestWork cX9_greatestWork 7 (some .int) 2 9 := ⟨mt_X9_greatestWork, lw0_in (n := 1189) (by decide +kernel) rfl, lw0_in (n := 1191) (by decide +kernel) rfl, lw0_in (n := 40) (by decide +kernel) rfl, by decide, rfl⟩
theorem lk_X9_227 : LkV RX9 227 yX9_hangs cX9_hangs 8 (some .boolean) 1 9 := ⟨mt_X9_hangs, lw0_in (n := 1193) (by decide +kernel) rfl, lw0_in (n := 1195) (by decide +kernel) rfl, lw0_in (n := 41) (by decide +kernel) rfl, by decide, rfl⟩
theorem lk_X9_238 : LkV RX9 238 yX9_nextWalks cX9_nextWalks 3 (some .boolean) 0 9 := ⟨mt_X9_nextWalks, lw0_in (n := 1197) (by decide +kernel) rfl, lw0_in (n := 1199) (by decide +kernel) rfl, lw0_in (n := 42) (by decide +kernel) rfl, by decide, rfl⟩
theorem lk_L_119 : LkV RL 119 yX9_walk cX9_walk 2 (some .int) 1 9 := ⟨mt_X9_walk, lw0_in (n := 1201) (by decide +kernel) rfl, lw0_in (n := 1202) (by decide +kernel) rfl, lw0_in (n := 1203) (by decide +kernel) rfl, by decide, rfl⟩
theorem lk_L_123 : LkV RL 123 yX9_second cX9_second 8 (some .int) 2 9 := ⟨mt_X9_second, lw0_in (n := 1205) (by decide +kernel) rfl, lw0_in (n := 1206) (by decide +kernel) rfl, lw0_in (n := 1207) (by decide +kernel) rfl, by decide, rfl⟩
theorem kc_X9_242 : Cond.constantLong RX9 242 (99) ∈ lw0 := lw0_in (n := 1209) (by decide +kernel) rfl
theorem lk_L_128 : LkV RL 128 yX9_right cX9_right 10 (some .long) 1 9 := ⟨mt_X9_right, lw0_in (n := 1210) (by decide +kernel) rfl, lw0_in (n := 1211) (by decide +kernel) rfl, lw0_in (n := 1212) (by decide +kernel) rfl, by decide, rfl⟩
theorem lk_X9_244 : LkS RX9 244 yX9_lesser cX9_lesser 2 (some .int) 2 := ⟨mt_X9_lesser, lw0_in (n := 1214) (by decide +kernel) rfl, lw0_in (n := 1215) (by decide +kernel) rfl⟩
theorem lk_X9_247 : LkV RX9 247 yX9_countedAll cX9_countedAll 3 (some .int) 0 9 := ⟨mt_X9_countedAll, lw0_in (n := 1217) (by decide +kernel) rfl, lw0_in (n := 1219) (by decide +kernel) rfl, lw0_in (n := 43) (by decide +kernel) rfl, by decide, rfl⟩
theorem lk_X9_251 : LkS RX9 251 yX9_divisor cX9_divisor 10 (some .long) 2 := ⟨mt_X9_divisor, lw0_in (n := 1221) (by decide +kernel) rfl, lw0_in (n := 1222) (by decide +kernel) rfl⟩
theorem lk_L_132 : LkV RL 132 yX9_heap cX9_heap 4 (some .int) 0 9 := ⟨mt_X9_heap, lw0_in (n := 1224) (by decide +kernel) rfl, lw0_in (n := 1225) (by decide +kernel) rfl, lw0_in (n := 1226) (by decide +kernel) rfl, by decide, rfl⟩
theorem kc_X9_255 : Cond.constantLong RX9 255 (23) ∈ lw0 := lw0_in (n := 1228) (by decide +kernel) rfl
theorem kc_X9_257 : Cond.constantLong RX9 257 (62) ∈ lw0 := lw0_in (n := 1229) (by decide +kernel) rfl
theorem lk_L_136 : LkV RL 136 yX9_table cX9_table 4 (some .int) 0 9 := ⟨mt_X9_table, lw0_in (n := 1230) (by decide +kernel) rfl, lw0_in (n := 1231) (by decide +kernel) rfl, lw0_in (n := 1232) (by decide +kernel) rfl, by decide, rfl⟩
theorem lk_X9_286 : LkV RX9 286 yX9_findOthers cX9_findOthers 3 (some .boolean) 1 9 := ⟨mt_X9_findOthers, lw0_in (n := 1234) (by decide +kernel) rfl, lw0_in (n := 1236) (by decide +kernel) rfl, lw0_in (n := 44) (by decide +kernel) rfl, by decide, rfl⟩
theorem lk_X9_273 : LkV RX9 273 yX9_areOthers cX9_areOthers 3 (some .boolean) 1 9 := ⟨mt_X9_areOthers, lw0_in (n := 1238) (by decide +kernel) rfl, lw0_in (n := 1240) (by decide +kernel) rfl, lw0_in (n := 45) (by decide +kernel) rfl, by decide, rfl⟩
theorem lk_X9_263 : LkV RX9 263 yX9_isSmall cX9_isSmall 2 (some .boolean) 1 9 := ⟨mt_X9_isSmall, lw0_in (n := 1242) (by decide +kernel) rfl, lw0_in (n := 1244) (by decide +kernel) rfl, lw0_in (n := 46) (by decide +kernel) rfl, by decide, rfl⟩
theorem lk_X9_276 : LkV RX9 276 yX9_hides cX9_hides 3 none 1 9 := ⟨mt_X9_hides, lw0_in (n := 1246) (by decide +kernel) rfl, lw0_in (n := 1248) (by decide +kernel) rfl, lw0_in (n := 47) (by decide +kernel) rfl, by decide, rfl⟩
theorem lk_X9_280 : LkV RX9 280 yX9_isSafe cX9_isSafe 2 (some .boolean) 0 9 := ⟨mt_X9_isSafe, lw0_in (n := 1250) (by decide +kernel) rfl, lw0_in (n := 1252) (by decide +kernel) rfl, lw0_in (n := 48) (by decide +kernel) rfl, by decide, rfl⟩
theorem lk_X9_266 : LkV RX9 266 yX9_canRise cX9_canRise 4 (some .boolean) 3 9 := ⟨mt_X9_canRise, lw0_in (n := 1254) (by decide +kernel) rfl, lw0_in (n := 1256) (by decide +kernel) rfl, lw0_in (n := 49) (by decide +kernel) rfl, by decide, rfl⟩
theorem lk_X9_259 : LkV RX9 259 yX9_finds cX9_finds 11 (some .boolean) 5 9 := ⟨mt_X9_finds, lw0_in (n := 1258) (by decide +kernel) rfl, lw0_in (n := 1260) (by decide +kernel) rfl, lw0_in (n := 50) (by decide +kernel) rfl, by decide, rfl⟩
theorem lk_X9_270 : LkV RX9 270 yX9_canFall cX9_canFall 4 (some .boolean) 3 9 := ⟨mt_X9_canFall, lw0_in (n := 1262) (by decide +kernel) rfl, lw0_in (n := 1264) (by decide +kernel) rfl, lw0_in (n := 51) (by decide +kernel) rfl, by decide, rfl⟩
theorem lk_X9_283 : LkV RX9 283 yX9_nextOthers cX9_nextOthers 4 (some .boolean) 1 9 := ⟨mt_X9_nextOthers, lw0_in (n := 1266) (by decide +kernel) rfl, lw0_in (n := 1268) (by decide +kernel) rfl, lw0_in (n := 52) (by decide +kernel) rfl, by decide, rfl⟩
theorem lk_L_140 : LkV RL 140 yX9_told cX9_told 5 (some .int) 2 9 := ⟨mt_X9_told, lw0_in (n := 1270) (by decide +kernel) rfl, lw0_in (n := 1271) (by decide +kernel) rfl, lw0_in (n := 1272) (by decide +kernel) rfl, by decide, rfl⟩
theorem kc_X9_292 : Cond.constantLong RX9 292 (6) ∈ lw0 := lw0_in (n := 1274) (by decide +kernel) rfl
theorem kc_X9_294 : Cond.constantLong RX9 294 (4) ∈ lw0 := lw0_in (n := 1275) (by decide +kernel) rfl
theorem lk_L_144 : LkV RL 144 yX9_could cX9_could 6 (some .int) 3 9 := ⟨mt_X9_could, lw0_in (n := 1276) (by decide +kernel) rfl, lw0_in (n := 1277) (by decide +kernel) rfl, lw0_in (n := 1278) (by decide +kernel) rfl, by decide, rfl⟩
theorem kc_X9_296 : Cond.constantLong RX9 296 (5) ∈ lw0 := lw0_in (n := 1280) (by decide +kernel) rfl
theorem lk_X9_298 : LkV RX9 298 yX9_moves cX9_moves 7 none 2 9 := ⟨mt_X9_moves, lw0_in (n := 1281) (by decide +kernel) rfl, lw0_in (n := 1283) (by decide +kernel) rfl, lw0_in (n := 53) (by decide +kernel) rfl, by decide, rfl⟩
theorem lk_L_148 : LkV RL 148 yX9_status cX9_status 4 (some .int) 1 9 := ⟨mt_X9_status, lw0_in (n := 1285) (by decide +kernel) rfl, lw0_in (n := 1286) (by decide +kernel) rfl, lw0_in (n := 1287) (by decide +kernel) rfl, by decide, rfl⟩
theorem kc_X9_302 : Cond.constantLong RX9 302 (11) ∈ lw0 := lw0_in (n := 1289) (by decide +kernel) rfl
theorem kc_X9_304 : Cond.constantLong RX9 304 (17) ∈ lw0 := lw0_in (n := 1290) (by decide +kernel) rfl
theorem kc_L_27 : Cond.constantLong RL 27 (4294967295) ∈ lw0 := lw0_in (n := 1291) (by decide +kernel) rfl
theorem oi_inst : Cond.instanceMethod objectInit ∈ lw0 := lw0_in (n := 79) (by decide +kernel) rfl
theorem oi_code : Cond.code objectInit ⟨#[0xb1]⟩ 1 none ∈ lw0 := lw0_in (n := 80) (by decide +kernel) rfl
theorem ms_max : Cond.static Lib.Math.max.name ∈ lw0 := lw0_in (n := 689) (by decide +kernel) rfl
theorem mc_max : Cond.code Lib.Math.max.name Lib.Math.max.code 2 (some .int) ∈ lw0 := lw0_in (n := 690) (by decide +kernel) rfl
theorem ms_min : Cond.static Lib.Math.min.name ∈ lw0 := lw0_in (n := 532) (by decide +kernel) rfl
theorem mc_min : Cond.code Lib.Math.min.name Lib.Math.min.code 2 (some .int) ∈ lw0 := lw0_in (n := 533) (by decide +kernel) rfl
theorem ms_abs : Cond.static Lib.Math.abs.name ∈ lw0 := lw0_in (n := 609) (by decide +kernel) rfl
theorem mc_abs : Cond.code Lib.Math.abs.name Lib.Math.abs.code 1 (some .int) ∈ lw0 := lw0_in (n := 610) (by decide +kernel) rfl
theorem mi_math : Cond.initialized "java/lang/Math" ∈ lw0 := lw0_in (n := 71) (by decide +kernel) rfl
theorem mi_sys : Cond.initialized "java/lang/System" ∈ lw0 := lw0_in (n := 66) (by decide +kernel) rfl
theorem ms_copy : Cond.static arraycopyName ∈ lw0 := lw0_in (n := 420) (by decide +kernel) rfl
theorem ft_0_0 : FtP RX0 0 4 0 := fun C T h => by cases h; exact ⟨rfl, rfl, Or.inr ⟨_, tyX0_ok 0 (by decide)⟩⟩
theorem ft_0_1 : FtP RX0 0 4 1 := fun C T h => by cases h; exact ⟨rfl, rfl, Or.inr ⟨_, tyX0_ok 1 (by decide)⟩⟩
theorem ft_0_2 : FtI 0 4 2 := fun C T h => by cases h; exact ⟨rfl, tyX0_ok 2 (by decide)⟩
theorem ft_0_3 : FtI 0 4 3 := fun C T h => by cases h; exact ⟨rfl, tyX0_ok 3 (by decide)⟩
theorem ft_1_0 : FtF RX1 1 14 0 := fun C T h => by cases h; exact ⟨rfl, rfl, tyX1_ok 0 (by decide)⟩
theorem ft_1_1 : FtF RX1 1 14 1 := fun C T h => by cases h; exact ⟨rfl, rfl, tyX1_ok 1 (by decide)⟩
theorem ft_1_2 : FtF RX1 1 14 2 := fun C T h => by cases h; exact ⟨rfl, rfl, tyX1_ok 2 (by decide)⟩
theorem ft_1_3 : FtP RX1 1 14 3 := fun C T h => by cases h; exact ⟨rfl, rfl, Or.inr ⟨_, tyX1_ok 3 (by decide)⟩⟩
theorem ft_1_4 : FtP RX1 1 14 4 := fun C T h => by cases h; exact ⟨rfl, rfl, Or.inr ⟨_, tyX1_ok 4 (by decide)⟩⟩
theorem ft_1_5 : FtI 1 14 5 := fun C T h => by cases h; exact ⟨rfl, tyX1_ok 5 (by decide)⟩
theorem ft_1_6 : FtI 1 14 6 := fun C T h => by cases h; exact ⟨rfl, tyX1_ok 6 (by decide)⟩
theorem ft_1_7 : FtZ 1 14 7 := fun C T h => by cases h; exact ⟨rfl, tyX1_ok 7 (by decide)⟩
theorem ft_1_8 : FtI 1 14 8 := fun C T h => by cases h; exact ⟨rfl, tyX1_ok 8 (by decide)⟩
theorem ft_1_9 : FtI 1 14 9 := fun C T h => by cases h; exact ⟨rfl, tyX1_ok 9 (by decide)⟩
theorem ft_1_10 : FtI 1 14 10 := fun C T h => by cases h; exact ⟨rfl, tyX1_ok 10 (by decide)⟩
theorem ft_1_11 : FtI 1 14 11 := fun C T h => by cases h; exact ⟨rfl, tyX1_ok 11 (by decide)⟩
theorem ft_1_12 : FtI 1 14 12 := fun C T h => by cases h; exact ⟨rfl, tyX1_ok 12 (by decide)⟩
theorem ft_1_13 : FtI 1 14 13 := fun C T h => by cases h; exact ⟨rfl, tyX1_ok 13 (by decide)⟩
theorem ft_2_0 : FtI 2 2 0 := fun C T h => by cases h; exact ⟨rfl, tyX2_ok 0 (by decide)⟩
theorem ft_2_1 : FtI 2 2 1 := fun C T h => by cases h; exact ⟨rfl, tyX2_ok 1 (by decide)⟩
theorem ft_3_0 : FtI 3 4 0 := fun C T h => by cases h; exact ⟨rfl, tyX3_ok 0 (by decide)⟩
theorem ft_3_1 : FtI 3 4 1 := fun C T h => by cases h; exact ⟨rfl, tyX3_ok 1 (by decide)⟩
theorem ft_3_2 : FtI 3 4 2 := fun C T h => by cases h; exact ⟨rfl, tyX3_ok 2 (by decide)⟩
theorem ft_3_3 : FtI 3 4 3 := fun C T h => by cases h; exact ⟨rfl, tyX3_ok 3 (by decide)⟩
theorem ft_4_0 : FtP RX4 4 4 0 := fun C T h => by cases h; exact ⟨rfl, rfl, Or.inr ⟨_, tyX4_ok 0 (by decide)⟩⟩
theorem ft_4_1 : FtI 4 4 1 := fun C T h => by cases h; exact ⟨rfl, tyX4_ok 1 (by decide)⟩
theorem ft_4_2 : FtI 4 4 2 := fun C T h => by cases h; exact ⟨rfl, tyX4_ok 2 (by decide)⟩
theorem ft_4_3 : FtI 4 4 3 := fun C T h => by cases h; exact ⟨rfl, tyX4_ok 3 (by decide)⟩
theorem ft_5_0 : FtP RX5 5 4 0 := fun C T h => by cases h; exact ⟨rfl, rfl, Or.inr ⟨_, tyX5_ok 0 (by decide)⟩⟩
theorem ft_5_1 : FtP RX5 5 4 1 := fun C T h => by cases h; exact ⟨rfl, rfl, Or.inr ⟨_, tyX5_ok 1 (by decide)⟩⟩
theorem ft_5_2 : FtP RX5 5 4 2 := fun C T h => by cases h; exact ⟨rfl, rfl, Or.inr ⟨_, tyX5_ok 2 (by decide)⟩⟩
theorem ft_5_3 : FtI 5 4 3 := fun C T h => by cases h; exact ⟨rfl, tyX5_ok 3 (by decide)⟩
theorem ft_6_0 : FtP RX6 6 6 0 := fun C T h => by cases h; exact ⟨rfl, rfl, Or.inr ⟨_, tyX6_ok 0 (by decide)⟩⟩
theorem ft_6_1 : FtP RX6 6 6 1 := fun C T h => by cases h; exact ⟨rfl, rfl, Or.inr ⟨_, tyX6_ok 1 (by decide)⟩⟩
theorem ft_6_2 : FtP RX6 6 6 2 := fun C T h => by cases h; exact ⟨rfl, rfl, Or.inl ⟨_, tyX6_ok 2 (by decide)⟩⟩
theorem ft_6_3 : FtP RX6 6 6 3 := fun C T h => by cases h; exact ⟨rfl, rfl, Or.inl ⟨_, tyX6_ok 3 (by decide)⟩⟩
theorem ft_6_4 : FtI 6 6 4 := fun C T h => by cases h; exact ⟨rfl, tyX6_ok 4 (by decide)⟩
theorem ft_6_5 : FtZ 6 6 5 := fun C T h => by cases h; exact ⟨rfl, tyX6_ok 5 (by decide)⟩
theorem ft_7_0 : FtP RX7 7 10 0 := fun C T h => by cases h; exact ⟨rfl, rfl, Or.inr ⟨_, tyX7_ok 0 (by decide)⟩⟩
theorem ft_7_1 : FtP RX7 7 10 1 := fun C T h => by cases h; exact ⟨rfl, rfl, Or.inr ⟨_, tyX7_ok 1 (by decide)⟩⟩
theorem ft_7_2 : FtP RX7 7 10 2 := fun C T h => by cases h; exact ⟨rfl, rfl, Or.inr ⟨_, tyX7_ok 2 (by decide)⟩⟩
theorem ft_7_3 : FtP RX7 7 10 3 := fun C T h => by cases h; exact ⟨rfl, rfl, Or.inr ⟨_, tyX7_ok 3 (by decide)⟩⟩
theorem ft_7_4 : FtP RX7 7 10 4 := fun C T h => by cases h; exact ⟨rfl, rfl, Or.inr ⟨_, tyX7_ok 4 (by decide)⟩⟩
theorem ft_7_5 : FtP RX7 7 10 5 := fun C T h => by cases h; exact ⟨rfl, rfl, Or.inr ⟨_, tyX7_ok 5 (by decide)⟩⟩
theorem ft_7_6 : FtI 7 10 6 := fun C T h => by cases h; exact ⟨rfl, tyX7_ok 6 (by decide)⟩
theorem ft_7_7 : FtI 7 10 7 := fun C T h => by cases h; exact ⟨rfl, tyX7_ok 7 (by decide)⟩
theorem ft_7_8 : FtI 7 10 8 := fun C T h => by cases h; exact ⟨rfl, tyX7_ok 8 (by decide)⟩
theorem ft_7_9 : FtI 7 10 9 := fun C T h => by cases h; exact ⟨rfl, tyX7_ok 9 (by decide)⟩
theorem ft_8_0 : FtP RX8 8 10 0 := fun C T h => by cases h; exact ⟨rfl, rfl, Or.inr ⟨_, tyX8_ok 0 (by decide)⟩⟩
theorem ft_8_1 : FtP RX8 8 10 1 := fun C T h => by cases h; exact ⟨rfl, rfl, Or.inr ⟨_, tyX8_ok 1 (by decide)⟩⟩
theorem ft_8_2 : FtP RX8 8 10 2 := fun C T h => by cases h; exact ⟨rfl, rfl, Or.inr ⟨_, tyX8_ok 2 (by decide)⟩⟩
theorem ft_8_3 : FtP RX8 8 10 3 := fun C T h => by cases h; exact ⟨rfl, rfl, Or.inl ⟨_, tyX8_ok 3 (by decide)⟩⟩
theorem ft_8_4 : FtP RX8 8 10 4 := fun C T h => by cases h; exact ⟨rfl, rfl, Or.inl ⟨_, tyX8_ok 4 (by decide)⟩⟩
theorem ft_8_5 : FtP RX8 8 10 5 := fun C T h => by cases h; exact ⟨rfl, rfl, Or.inl ⟨_, tyX8_ok 5 (by decide)⟩⟩
theorem ft_8_6 : FtP RX8 8 10 6 := fun C T h => by cases h; exact ⟨rfl, rfl, Or.inl ⟨_, tyX8_ok 6 (by decide)⟩⟩
theorem ft_8_7 : FtI 8 10 7 := fun C T h => by cases h; exact ⟨rfl, tyX8_ok 7 (by decide)⟩
theorem ft_8_8 : FtI 8 10 8 := fun C T h => by cases h; exact ⟨rfl, tyX8_ok 8 (by decide)⟩
theorem ft_8_9 : FtZ 8 10 9 := fun C T h => by cases h; exact ⟨rfl, tyX8_ok 9 (by decide)⟩
theorem ft_9_0 : FtP RX9 9 46 0 := fun C T h => by cases h; exact ⟨rfl, rfl, Or.inr ⟨_, tyX9_ok 0 (by decide)⟩⟩
theorem ft_9_1 : FtP RX9 9 46 1 := fun C T h => by cases h; exact ⟨rfl, rfl, Or.inr ⟨_, tyX9_ok 1 (by decide)⟩⟩
theorem ft_9_2 : FtP RX9 9 46 2 := fun C T h => by cases h; exact ⟨rfl, rfl, Or.inr ⟨_, tyX9_ok 2 (by decide)⟩⟩
theorem ft_9_3 : FtP RX9 9 46 3 := fun C T h => by cases h; exact ⟨rfl, rfl, Or.inr ⟨_, tyX9_ok 3 (by decide)⟩⟩
theorem ft_9_4 : FtP RX9 9 46 4 := fun C T h => by cases h; exact ⟨rfl, rfl, Or.inr ⟨_, tyX9_ok 4 (by decide)⟩⟩
theorem ft_9_5 : FtP RX9 9 46 5 := fun C T h => by cases h; exact ⟨rfl, rfl, Or.inr ⟨_, tyX9_ok 5 (by decide)⟩⟩
theorem ft_9_6 : FtP RX9 9 46 6 := fun C T h => by cases h; exact ⟨rfl, rfl, Or.inr ⟨_, tyX9_ok 6 (by decide)⟩⟩
theorem ft_9_7 : FtP RX9 9 46 7 := fun C T h => by cases h; exact ⟨rfl, rfl, Or.inr ⟨_, tyX9_ok 7 (by decide)⟩⟩
theorem ft_9_8 : FtP RX9 9 46 8 := fun C T h => by cases h; exact ⟨rfl, rfl, Or.inr ⟨_, tyX9_ok 8 (by decide)⟩⟩
theorem ft_9_9 : FtP RX9 9 46 9 := fun C T h => by cases h; exact ⟨rfl, rfl, Or.inr ⟨_, tyX9_ok 9 (by decide)⟩⟩
theorem ft_9_10 : FtP RX9 9 46 10 := fun C T h => by cases h; exact ⟨rfl, rfl, Or.inr ⟨_, tyX9_ok 10 (by decide)⟩⟩
theorem ft_9_11 : FtP RX9 9 46 11 := fun C T h => by cases h; exact ⟨rfl, rfl, Or.inr ⟨_, tyX9_ok 11 (by decide)⟩⟩
theorem ft_9_12 : FtP RX9 9 46 12 := fun C T h => by cases h; exact ⟨rfl, rfl, Or.inr ⟨_, tyX9_ok 12 (by decide)⟩⟩
theorem ft_9_13 : FtP RX9 9 46 13 := fun C T h => by cases h; exact ⟨rfl, rfl, Or.inr ⟨_, tyX9_ok 13 (by decide)⟩⟩
theorem ft_9_14 : FtP RX9 9 46 14 := fun C T h => by cases h; exact ⟨rfl, rfl, Or.inr ⟨_, tyX9_ok 14 (by decide)⟩⟩
theorem ft_9_15 : FtP RX9 9 46 15 := fun C T h => by cases h; exact ⟨rfl, rfl, Or.inr ⟨_, tyX9_ok 15 (by decide)⟩⟩
theorem ft_9_16 : FtP RX9 9 46 16 := fun C T h => by cases h; exact ⟨rfl, rfl, Or.inr ⟨_, tyX9_ok 16 (by decide)⟩⟩
theorem ft_9_17 : FtI 9 46 17 := fun C T h => by cases h; exact ⟨rfl, tyX9_ok 17 (by decide)⟩
theorem ft_9_18 : FtI 9 46 18 := fun C T h => by cases h; exact ⟨rfl, tyX9_ok 18 (by decide)⟩
theorem ft_9_19 : FtI 9 46 19 := fun C T h => by cases h; exact ⟨rfl, tyX9_ok 19 (by decide)⟩
theorem ft_9_20 : FtI 9 46 20 := fun C T h => by cases h; exact ⟨rfl, tyX9_ok 20 (by decide)⟩
theorem ft_9_21 : FtI 9 46 21 := fun C T h => by cases h; exact ⟨rfl, tyX9_ok 21 (by decide)⟩
theorem ft_9_22 : FtZ 9 46 22 := fun C T h => by cases h; exact ⟨rfl, tyX9_ok 22 (by decide)⟩
theorem ft_9_23 : FtP RX9 9 46 23 := fun C T h => by cases h; exact ⟨rfl, rfl, Or.inr ⟨_, tyX9_ok 23 (by decide)⟩⟩
theorem ft_9_24 : FtP RX9 9 46 24 := fun C T h => by cases h; exact ⟨rfl, rfl, Or.inr ⟨_, tyX9_ok 24 (by decide)⟩⟩
theorem ft_9_25 : FtP RX9 9 46 25 := fun C T h => by cases h; exact ⟨rfl, rfl, Or.inr ⟨_, tyX9_ok 25 (by decide)⟩⟩
theorem ft_9_26 : FtP RX9 9 46 26 := fun C T h => by cases h; exact ⟨rfl, rfl, Or.inr ⟨_, tyX9_ok 26 (by decide)⟩⟩
theorem ft_9_27 : FtP RX9 9 46 27 := fun C T h => by cases h; exact ⟨rfl, rfl, Or.inr ⟨_, tyX9_ok 27 (by decide)⟩⟩
theorem ft_9_28 : FtP RX9 9 46 28 := fun C T h => by cases h; exact ⟨rfl, rfl, Or.inr ⟨_, tyX9_ok 28 (by decide)⟩⟩
theorem ft_9_29 : FtP RX9 9 46 29 := fun C T h => by cases h; exact ⟨rfl, rfl, Or.inr ⟨_, tyX9_ok 29 (by decide)⟩⟩
theorem ft_9_30 : FtP RX9 9 46 30 := fun C T h => by cases h; exact ⟨rfl, rfl, Or.inr ⟨_, tyX9_ok 30 (by decide)⟩⟩
theorem ft_9_31 : FtP RX9 9 46 31 := fun C T h => by cases h; exact ⟨rfl, rfl, Or.inr ⟨_, tyX9_ok 31 (by decide)⟩⟩
theorem ft_9_32 : FtP RX9 9 46 32 := fun C T h => by cases h; exact ⟨rfl, rfl, Or.inr ⟨_, tyX9_ok 32 (by decide)⟩⟩
theorem ft_9_33 : FtP RX9 9 46 33 := fun C T h => by cases h; exact ⟨rfl, rfl, Or.inr ⟨_, tyX9_ok 33 (by decide)⟩⟩
theorem ft_9_34 : FtP RX9 9 46 34 := fun C T h => by cases h; exact ⟨rfl, rfl, Or.inr ⟨_, tyX9_ok 34 (by decide)⟩⟩
theorem ft_9_35 : FtP RX9 9 46 35 := fun C T h => by cases h; exact ⟨rfl, rfl, Or.inr ⟨_, tyX9_ok 35 (by decide)⟩⟩
theorem ft_9_36 : FtI 9 46 36 := fun C T h => by cases h; exact ⟨rfl, tyX9_ok 36 (by decide)⟩
theorem ft_9_37 : FtP RX9 9 46 37 := fun C T h => by cases h; exact ⟨rfl, rfl, Or.inr ⟨_, tyX9_ok 37 (by decide)⟩⟩
theorem ft_9_38 : FtP RX9 9 46 38 := fun C T h => by cases h; exact ⟨rfl, rfl, Or.inr ⟨_, tyX9_ok 38 (by decide)⟩⟩
theorem ft_9_39 : FtP RX9 9 46 39 := fun C T h => by cases h; exact ⟨rfl, rfl, Or.inr ⟨_, tyX9_ok 39 (by decide)⟩⟩
theorem ft_9_40 : FtP RX9 9 46 40 := fun C T h => by cases h; exact ⟨rfl, rfl, Or.inr ⟨_, tyX9_ok 40 (by decide)⟩⟩
theorem ft_9_41 : FtP RX9 9 46 41 := fun C T h => by cases h; exact ⟨rfl, rfl, Or.inr ⟨_, tyX9_ok 41 (by decide)⟩⟩
theorem ft_9_42 : FtZ 9 46 42 := fun C T h => by cases h; exact ⟨rfl, tyX9_ok 42 (by decide)⟩
theorem ft_9_43 : FtP RX9 9 46 43 := fun C T h => by cases h; exact ⟨rfl, rfl, Or.inr ⟨_, tyX9_ok 43 (by decide)⟩⟩
theorem ft_9_44 : FtP RX9 9 46 44 := fun C T h => by cases h; exact ⟨rfl, rfl, Or.inr ⟨_, tyX9_ok 44 (by decide)⟩⟩
theorem ft_9_45 : FtP RX9 9 46 45 := fun C T h => by cases h; exact ⟨rfl, rfl, Or.inr ⟨_, tyX9_ok 45 (by decide)⟩⟩
