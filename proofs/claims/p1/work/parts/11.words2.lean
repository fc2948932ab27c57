theorem ki_CG_lower : Cond.instanceMethod y_CG_lower ∈ tb := tb_t (List.mem_of_getElem? (i := 798) (by decide +kernel)) (by decide +kernel)
theorem ks_CG_lower : Cond.selects "ChanceGame" y_CG_lower y_CG_lower ∈ tb := tb_t (List.mem_of_getElem? (i := 799) (by decide +kernel)) (by decide +kernel)
theorem e_CG_mixed : cg_E y_CG_mixed b_CG_mixed 1 (some .int) 0 := ⟨tb_t (List.mem_of_getElem? (i := 382) (by decide +kernel)) (by decide +kernel), kn_CG, by decide, by decide, by decide +kernel⟩
theorem ki_CG_mixed : Cond.instanceMethod y_CG_mixed ∈ tb := tb_t (List.mem_of_getElem? (i := 380) (by decide +kernel)) (by decide +kernel)
theorem ks_CG_mixed : Cond.selects "ChanceGame" y_CG_mixed y_CG_mixed ∈ tb := tb_t (List.mem_of_getElem? (i := 381) (by decide +kernel)) (by decide +kernel)
theorem e_CG_owner : cg_E y_CG_owner b_CG_owner 2 (some .int) 1 := ⟨tb_t (List.mem_of_getElem? (i := 405) (by decide +kernel)) (by decide +kernel), kn_CG, by decide, by decide, by decide +kernel⟩
theorem ki_CG_owner : Cond.instanceMethod y_CG_owner ∈ tb := tb_t (List.mem_of_getElem? (i := 403) (by decide +kernel)) (by decide +kernel)
theorem ks_CG_owner : Cond.selects "ChanceGame" y_CG_owner y_CG_owner ∈ tb := tb_t (List.mem_of_getElem? (i := 404) (by decide +kernel)) (by decide +kernel)
theorem e_CG_place : cg_E y_CG_place b_CG_place 1 (some .int) 0 := ⟨tb_t (List.mem_of_getElem? (i := 374) (by decide +kernel)) (by decide +kernel), kn_CG, by decide, by decide, by decide +kernel⟩
theorem ki_CG_place : Cond.instanceMethod y_CG_place ∈ tb := tb_t (List.mem_of_getElem? (i := 372) (by decide +kernel)) (by decide +kernel)
theorem ks_CG_place : Cond.selects "ChanceGame" y_CG_place y_CG_place ∈ tb := tb_t (List.mem_of_getElem? (i := 373) (by decide +kernel)) (by decide +kernel)
theorem e_CG_read : cg_E y_CG_read b_CG_read 1 (some .int) 0 := ⟨tb_t (List.mem_of_getElem? (i := 433) (by decide +kernel)) (by decide +kernel), kn_CG, by decide, by decide, by decide +kernel⟩
theorem ki_CG_read : Cond.instanceMethod y_CG_read ∈ tb := tb_t (List.mem_of_getElem? (i := 431) (by decide +kernel)) (by decide +kernel)
theorem ks_CG_read : Cond.selects "ChanceGame" y_CG_read y_CG_read ∈ tb := tb_t (List.mem_of_getElem? (i := 432) (by decide +kernel)) (by decide +kernel)
theorem e_CG_solve : cg_E y_CG_solve b_CG_solve 2 (some .int) 0 := ⟨tb_t (List.mem_of_getElem? (i := 596) (by decide +kernel)) (by decide +kernel), kn_CG, by decide, by decide, by decide +kernel⟩
theorem ki_CG_solve : Cond.instanceMethod y_CG_solve ∈ tb := tb_t (List.mem_of_getElem? (i := 594) (by decide +kernel)) (by decide +kernel)
theorem ks_CG_solve : Cond.selects "ChanceGame" y_CG_solve y_CG_solve ∈ tb := tb_t (List.mem_of_getElem? (i := 595) (by decide +kernel)) (by decide +kernel)
theorem e_CG_states : cg_E y_CG_states b_CG_states 1 (some .int) 0 := ⟨tb_t (List.mem_of_getElem? (i := 378) (by decide +kernel)) (by decide +kernel), kn_CG, by decide, by decide, by decide +kernel⟩
theorem ki_CG_states : Cond.instanceMethod y_CG_states ∈ tb := tb_t (List.mem_of_getElem? (i := 376) (by decide +kernel)) (by decide +kernel)
theorem ks_CG_states : Cond.selects "ChanceGame" y_CG_states y_CG_states ∈ tb := tb_t (List.mem_of_getElem? (i := 377) (by decide +kernel)) (by decide +kernel)
theorem e_CG_target : cg_E y_CG_target b_CG_target 2 (some .boolean) 1 := ⟨tb_t (List.mem_of_getElem? (i := 398) (by decide +kernel)) (by decide +kernel), kn_CG, by decide, by decide, by decide +kernel⟩
theorem ki_CG_target : Cond.instanceMethod y_CG_target ∈ tb := tb_t (List.mem_of_getElem? (i := 396) (by decide +kernel)) (by decide +kernel)
theorem ks_CG_target : Cond.selects "ChanceGame" y_CG_target y_CG_target ∈ tb := tb_t (List.mem_of_getElem? (i := 397) (by decide +kernel)) (by decide +kernel)
theorem e_CG_type : cg_E y_CG_type b_CG_type 4 (some .int) 2 := ⟨tb_t (List.mem_of_getElem? (i := 352) (by decide +kernel)) (by decide +kernel), kn_CG, by decide, by decide, by decide +kernel⟩
theorem ki_CG_type : Cond.instanceMethod y_CG_type ∈ tb := tb_t (List.mem_of_getElem? (i := 350) (by decide +kernel)) (by decide +kernel)
theorem ks_CG_type : Cond.selects "ChanceGame" y_CG_type y_CG_type ∈ tb := tb_t (List.mem_of_getElem? (i := 351) (by decide +kernel)) (by decide +kernel)
theorem e_CG_upper : cg_E y_CG_upper b_CG_upper 2 (some .long) 1 := ⟨tb_t (List.mem_of_getElem? (i := 772) (by decide +kernel)) (by decide +kernel), kn_CG, by decide, by decide, by decide +kernel⟩
theorem ki_CG_upper : Cond.instanceMethod y_CG_upper ∈ tb := tb_t (List.mem_of_getElem? (i := 770) (by decide +kernel)) (by decide +kernel)
theorem ks_CG_upper : Cond.selects "ChanceGame" y_CG_upper y_CG_upper ∈ tb := tb_t (List.mem_of_getElem? (i := 771) (by decide +kernel)) (by decide +kernel)
theorem e_CG_variable : cg_E y_CG_variable b_CG_variable 3 (some .int) 2 := ⟨tb_t (List.mem_of_getElem? (i := 386) (by decide +kernel)) (by decide +kernel), kn_CG, by decide, by decide, by decide +kernel⟩
theorem ki_CG_variable : Cond.instanceMethod y_CG_variable ∈ tb := tb_t (List.mem_of_getElem? (i := 384) (by decide +kernel)) (by decide +kernel)
theorem ks_CG_variable : Cond.selects "ChanceGame" y_CG_variable y_CG_variable ∈ tb := tb_t (List.mem_of_getElem? (i := 385) (by decide +kernel)) (by decide +kernel)
theorem e_CG_wipe : cg_E y_CG_wipe b_CG_wipe 1 (some .int) 0 := ⟨tb_t (List.mem_of_getElem? (i := 366) (by decide +kernel)) (by decide +kernel), kn_CG, by decide, by decide, by decide +kernel⟩
theorem ki_CG_wipe : Cond.instanceMethod y_CG_wipe ∈ tb := tb_t (List.mem_of_getElem? (i := 364) (by decide +kernel)) (by decide +kernel)
theorem ks_CG_wipe : Cond.selects "ChanceGame" y_CG_wipe y_CG_wipe ∈ tb := tb_t (List.mem_of_getElem? (i := 365) (by decide +kernel)) (by decide +kernel)
theorem e_At_init : cg_E y_At_init b_At_init 1 none 0 := ⟨tb_t (List.mem_of_getElem? (i := 251) (by decide +kernel)) (by decide +kernel), kn_At, by decide, by decide, by decide +kernel⟩
theorem ki_At_init : Cond.instanceMethod y_At_init ∈ tb := tb_t (List.mem_of_getElem? (i := 250) (by decide +kernel)) (by decide +kernel)
theorem e_Br_init : cg_E y_Br_init b_Br_init 1 none 0 := ⟨tb_t (List.mem_of_getElem? (i := 92) (by decide +kernel)) (by decide +kernel), kn_Br, by decide, by decide, by decide +kernel⟩
theorem ki_Br_init : Cond.instanceMethod y_Br_init ∈ tb := tb_t (List.mem_of_getElem? (i := 91) (by decide +kernel)) (by decide +kernel)
theorem e_Cm_init : cg_E y_Cm_init b_Cm_init 2 none 0 := ⟨tb_t (List.mem_of_getElem? (i := 83) (by decide +kernel)) (by decide +kernel), kn_Cm, by decide, by decide, by decide +kernel⟩
theorem ki_Cm_init : Cond.instanceMethod y_Cm_init ∈ tb := tb_t (List.mem_of_getElem? (i := 82) (by decide +kernel)) (by decide +kernel)
theorem e_Eq_init : cg_E y_Eq_init b_Eq_init 1 none 0 := ⟨tb_t (List.mem_of_getElem? (i := 267) (by decide +kernel)) (by decide +kernel), kn_Eq, by decide, by decide, by decide +kernel⟩
theorem ki_Eq_init : Cond.instanceMethod y_Eq_init ∈ tb := tb_t (List.mem_of_getElem? (i := 266) (by decide +kernel)) (by decide +kernel)
theorem e_Fo_init : cg_E y_Fo_init b_Fo_init 1 none 0 := ⟨tb_t (List.mem_of_getElem? (i := 192) (by decide +kernel)) (by decide +kernel), kn_Fo, by decide, by decide, by decide +kernel⟩
theorem ki_Fo_init : Cond.instanceMethod y_Fo_init ∈ tb := tb_t (List.mem_of_getElem? (i := 191) (by decide +kernel)) (by decide +kernel)
theorem e_Fo_has : cg_E y_Fo_has b_Fo_has 2 (some .boolean) 1 := ⟨tb_t (List.mem_of_getElem? (i := 390) (by decide +kernel)) (by decide +kernel), kn_Fo, by decide, by decide, by decide +kernel⟩
theorem ki_Fo_has : Cond.instanceMethod y_Fo_has ∈ tb := tb_t (List.mem_of_getElem? (i := 388) (by decide +kernel)) (by decide +kernel)
theorem ks_Fo_has : Cond.selects "ChanceGame$Found" y_Fo_has y_Fo_has ∈ tb := tb_t (List.mem_of_getElem? (i := 389) (by decide +kernel)) (by decide +kernel)
theorem e_Gm_init : cg_E y_Gm_init b_Gm_init 2 none 0 := ⟨tb_t (List.mem_of_getElem? (i := 56) (by decide +kernel)) (by decide +kernel), kn_Gm, by decide, by decide, by decide +kernel⟩
theorem ki_Gm_init : Cond.instanceMethod y_Gm_init ∈ tb := tb_t (List.mem_of_getElem? (i := 55) (by decide +kernel)) (by decide +kernel)
theorem e_Gm_clear : cg_E y_Gm_clear b_Gm_clear 2 none 0 := ⟨tb_t (List.mem_of_getElem? (i := 441) (by decide +kernel)) (by decide +kernel), kn_Gm, by decide, by decide, by decide +kernel⟩
theorem ki_Gm_clear : Cond.instanceMethod y_Gm_clear ∈ tb := tb_t (List.mem_of_getElem? (i := 439) (by decide +kernel)) (by decide +kernel)
theorem ks_Gm_clear : Cond.selects "ChanceGame$Game" y_Gm_clear y_Gm_clear ∈ tb := tb_t (List.mem_of_getElem? (i := 440) (by decide +kernel)) (by decide +kernel)
theorem e_Go_init : cg_E y_Go_init b_Go_init 1 none 0 := ⟨tb_t (List.mem_of_getElem? (i := 315) (by decide +kernel)) (by decide +kernel), kn_Go, by decide, by decide, by decide +kernel⟩
theorem ki_Go_init : Cond.instanceMethod y_Go_init ∈ tb := tb_t (List.mem_of_getElem? (i := 314) (by decide +kernel)) (by decide +kernel)
theorem e_Gu_init : cg_E y_Gu_init b_Gu_init 1 none 0 := ⟨tb_t (List.mem_of_getElem? (i := 64) (by decide +kernel)) (by decide +kernel), kn_Gu, by decide, by decide, by decide +kernel⟩
theorem ki_Gu_init : Cond.instanceMethod y_Gu_init ∈ tb := tb_t (List.mem_of_getElem? (i := 63) (by decide +kernel)) (by decide +kernel)
theorem e_Rd_init : cg_E y_Rd_init b_Rd_init 1 none 0 := ⟨tb_t (List.mem_of_getElem? (i := 34) (by decide +kernel)) (by decide +kernel), kn_Rd, by decide, by decide, by decide +kernel⟩
theorem ki_Rd_init : Cond.instanceMethod y_Rd_init ∈ tb := tb_t (List.mem_of_getElem? (i := 33) (by decide +kernel)) (by decide +kernel)
theorem e_Rd_expect : cg_E y_Rd_expect b_Rd_expect 2 none 1 := ⟨tb_t (List.mem_of_getElem? (i := 536) (by decide +kernel)) (by decide +kernel), kn_Rd, by decide, by decide, by decide +kernel⟩
theorem ki_Rd_expect : Cond.instanceMethod y_Rd_expect ∈ tb := tb_t (List.mem_of_getElem? (i := 535) (by decide +kernel)) (by decide +kernel)
theorem ks_Rd_expect : Cond.selects "ChanceGame$Reader" y_Rd_expect y_Rd_expect ∈ tb := tb_s (q := (y_Rd_expect, 4)) (List.mem_of_getElem? (i := 5) (by decide +kernel))
theorem e_Rd_here : cg_E y_Rd_here b_Rd_here 1 (some .char) 0 := ⟨tb_t (List.mem_of_getElem? (i := 445) (by decide +kernel)) (by decide +kernel), kn_Rd, by decide, by decide, by decide +kernel⟩
theorem ki_Rd_here : Cond.instanceMethod y_Rd_here ∈ tb := tb_t (List.mem_of_getElem? (i := 444) (by decide +kernel)) (by decide +kernel)
theorem ks_Rd_here : Cond.selects "ChanceGame$Reader" y_Rd_here y_Rd_here ∈ tb := tb_s (q := (y_Rd_here, 4)) (List.mem_of_getElem? (i := 0) (by decide +kernel))
theorem e_Rd_isName : cg_E y_Rd_isName b_Rd_isName 1 (some .boolean) 1 := ⟨tb_t (List.mem_of_getElem? (i := 448) (by decide +kernel)) (by decide +kernel), kn_Rd, by decide, by decide, by decide +kernel⟩
theorem kt_Rd_isName : Cond.static y_Rd_isName ∈ tb := tb_t (List.mem_of_getElem? (i := 447) (by decide +kernel)) (by decide +kernel)
theorem e_Rd_isPlusOrMinus : cg_E y_Rd_isPlusOrMinus b_Rd_isPlusOrMinus 1 (some .boolean) 1 := ⟨tb_t (List.mem_of_getElem? (i := 543) (by decide +kernel)) (by decide +kernel), kn_Rd, by decide, by decide, by decide +kernel⟩
theorem kt_Rd_isPlusOrMinus : Cond.static y_Rd_isPlusOrMinus ∈ tb := tb_t (List.mem_of_getElem? (i := 542) (by decide +kernel)) (by decide +kernel)
theorem e_Rd_readInPlaceOf : cg_E y_Rd_readInPlaceOf b_Rd_readInPlaceOf 3 (some (.object "ChanceGame$Game")) 1 := ⟨tb_t (List.mem_of_getElem? (i := 437) (by decide +kernel)) (by decide +kernel), kn_Rd, by decide, by decide, by decide +kernel⟩
theorem ki_Rd_readInPlaceOf : Cond.instanceMethod y_Rd_readInPlaceOf ∈ tb := tb_t (List.mem_of_getElem? (i := 435) (by decide +kernel)) (by decide +kernel)
theorem ks_Rd_readInPlaceOf : Cond.selects "ChanceGame$Reader" y_Rd_readInPlaceOf y_Rd_readInPlaceOf ∈ tb := tb_t (List.mem_of_getElem? (i := 436) (by decide +kernel)) (by decide +kernel)
theorem e_Rd_refuse : cg_E y_Rd_refuse b_Rd_refuse 2 none 1 := ⟨tb_t (List.mem_of_getElem? (i := 457) (by decide +kernel)) (by decide +kernel), kn_Rd, by decide, by decide, by decide +kernel⟩
theorem ki_Rd_refuse : Cond.instanceMethod y_Rd_refuse ∈ tb := tb_t (List.mem_of_getElem? (i := 456) (by decide +kernel)) (by decide +kernel)
theorem ks_Rd_refuse : Cond.selects "ChanceGame$Reader" y_Rd_refuse y_Rd_refuse ∈ tb := tb_s (q := (y_Rd_refuse, 4)) (List.mem_of_getElem? (i := 2) (by decide +kernel))
theorem e_Rd_skips : cg_E y_Rd_skips b_Rd_skips 2 (some .boolean) 1 := ⟨tb_t (List.mem_of_getElem? (i := 540) (by decide +kernel)) (by decide +kernel), kn_Rd, by decide, by decide, by decide +kernel⟩
theorem ki_Rd_skips : Cond.instanceMethod y_Rd_skips ∈ tb := tb_t (List.mem_of_getElem? (i := 539) (by decide +kernel)) (by decide +kernel)
theorem ks_Rd_skips : Cond.selects "ChanceGame$Reader" y_Rd_skips y_Rd_skips ∈ tb := tb_s (q := (y_Rd_skips, 4)) (List.mem_of_getElem? (i := 6) (by decide +kernel))
theorem e_Tx_init : cg_E y_Tx_init b_Tx_init 1 none 0 := ⟨tb_t (List.mem_of_getElem? (i := 40) (by decide +kernel)) (by decide +kernel), kn_Tx, by decide, by decide, by decide +kernel⟩
theorem ki_Tx_init : Cond.instanceMethod y_Tx_init ∈ tb := tb_t (List.mem_of_getElem? (i := 39) (by decide +kernel)) (by decide +kernel)
theorem e_Tx_append : cg_E y_Tx_append b_Tx_append 5 (some .int) 2 := ⟨tb_t (List.mem_of_getElem? (i := 356) (by decide +kernel)) (by decide +kernel), kn_Tx, by decide, by decide, by decide +kernel⟩
theorem ki_Tx_append : Cond.instanceMethod y_Tx_append ∈ tb := tb_t (List.mem_of_getElem? (i := 354) (by decide +kernel)) (by decide +kernel)
theorem ks_Tx_append : Cond.selects "ChanceGame$Text" y_Tx_append y_Tx_append ∈ tb := tb_t (List.mem_of_getElem? (i := 355) (by decide +kernel)) (by decide +kernel)
theorem e_Tx_areTypeable : cg_E y_Tx_areTypeable b_Tx_areTypeable 5 (some .boolean) 2 := ⟨tb_t (List.mem_of_getElem? (i := 359) (by decide +kernel)) (by decide +kernel), kn_Tx, by decide, by decide, by decide +kernel⟩
theorem kt_Tx_areTypeable : Cond.static y_Tx_areTypeable ∈ tb := tb_t (List.mem_of_getElem? (i := 358) (by decide +kernel)) (by decide +kernel)
theorem e_Tx_byteAt : cg_E y_Tx_byteAt b_Tx_byteAt 3 (some .int) 2 := ⟨tb_t (List.mem_of_getElem? (i := 362) (by decide +kernel)) (by decide +kernel), kn_Tx, by decide, by decide, by decide +kernel⟩
theorem kt_Tx_byteAt : Cond.static y_Tx_byteAt ∈ tb := tb_t (List.mem_of_getElem? (i := 361) (by decide +kernel)) (by decide +kernel)
theorem e_Tx_clear : cg_E y_Tx_clear b_Tx_clear 2 (some .int) 0 := ⟨tb_t (List.mem_of_getElem? (i := 370) (by decide +kernel)) (by decide +kernel), kn_Tx, by decide, by decide, by decide +kernel⟩
theorem ki_Tx_clear : Cond.instanceMethod y_Tx_clear ∈ tb := tb_t (List.mem_of_getElem? (i := 368) (by decide +kernel)) (by decide +kernel)
theorem ks_Tx_clear : Cond.selects "ChanceGame$Text" y_Tx_clear y_Tx_clear ∈ tb := tb_t (List.mem_of_getElem? (i := 369) (by decide +kernel)) (by decide +kernel)
theorem e_Va_init : cg_E y_Va_init b_Va_init 1 none 0 := ⟨tb_t (List.mem_of_getElem? (i := 186) (by decide +kernel)) (by decide +kernel), kn_Va, by decide, by decide, by decide +kernel⟩
theorem ki_Va_init : Cond.instanceMethod y_Va_init ∈ tb := tb_t (List.mem_of_getElem? (i := 185) (by decide +kernel)) (by decide +kernel)
theorem ew_La_good : Cond.codeWith y_La_good b_La_good 4 (some .int) [(0, 9, 12, 18), (0, 9, 15, 24)] ∈ tb := tb_t (List.mem_of_getElem? (i := 803) (by decide +kernel)) (by decide +kernel)
theorem kt_La_good : Cond.static y_La_good ∈ tb := tb_t (List.mem_of_getElem? (i := 802) (by decide +kernel)) (by decide +kernel)
theorem ew_La_lower : Cond.codeWith y_La_lower b_La_lower 4 (some .int) [(0, 8, 11, 18), (0, 8, 14, 24)] ∈ tb := tb_t (List.mem_of_getElem? (i := 796) (by decide +kernel)) (by decide +kernel)
theorem kt_La_lower : Cond.static y_La_lower ∈ tb := tb_t (List.mem_of_getElem? (i := 795) (by decide +kernel)) (by decide +kernel)
theorem ew_La_read : Cond.codeWith y_La_read b_La_read 3 (some .int) [(0, 8, 11, 13)] ∈ tb := tb_t (List.mem_of_getElem? (i := 428) (by decide +kernel)) (by decide +kernel)
theorem kt_La_read : Cond.static y_La_read ∈ tb := tb_t (List.mem_of_getElem? (i := 427) (by decide +kernel)) (by decide +kernel)
theorem ew_La_solve : Cond.codeWith y_La_solve b_La_solve 3 (some .int) [(0, 8, 11, 18)] ∈ tb := tb_t (List.mem_of_getElem? (i := 591) (by decide +kernel)) (by decide +kernel)
theorem kt_La_solve : Cond.static y_La_solve ∈ tb := tb_t (List.mem_of_getElem? (i := 590) (by decide +kernel)) (by decide +kernel)
theorem ew_La_upper : Cond.codeWith y_La_upper b_La_upper 4 (some .int) [(0, 8, 11, 18), (0, 8, 14, 24)] ∈ tb := tb_t (List.mem_of_getElem? (i := 767) (by decide +kernel)) (by decide +kernel)
theorem kt_La_upper : Cond.static y_La_upper ∈ tb := tb_t (List.mem_of_getElem? (i := 766) (by decide +kernel)) (by decide +kernel)
theorem e_Mo_init : cg_E y_Mo_init b_Mo_init 1 none 0 := ⟨tb_t (List.mem_of_getElem? (i := 812) (by decide +kernel)) (by decide +kernel), kn_Mo, by decide, by decide, by decide +kernel⟩
theorem ki_Mo_init : Cond.instanceMethod y_Mo_init ∈ tb := tb_t (List.mem_of_getElem? (i := 811) (by decide +kernel)) (by decide +kernel)
theorem e_Mo_branch : cg_E y_Mo_branch b_Mo_branch 7 (some .int) 3 := ⟨tb_t (List.mem_of_getElem? (i := 1161) (by decide +kernel)) (by decide +kernel), kn_Mo, by decide, by decide, by decide +kernel⟩
theorem ki_Mo_branch : Cond.instanceMethod y_Mo_branch ∈ tb := tb_t (List.mem_of_getElem? (i := 1159) (by decide +kernel)) (by decide +kernel)
theorem ks_Mo_branch : Cond.selects "ChanceGameModel" y_Mo_branch y_Mo_branch ∈ tb := tb_t (List.mem_of_getElem? (i := 1160) (by decide +kernel)) (by decide +kernel)
theorem e_Mo_choice : cg_E y_Mo_choice b_Mo_choice 3 (some .int) 2 := ⟨tb_t (List.mem_of_getElem? (i := 1157) (by decide +kernel)) (by decide +kernel), kn_Mo, by decide, by decide, by decide +kernel⟩
theorem ki_Mo_choice : Cond.instanceMethod y_Mo_choice ∈ tb := tb_t (List.mem_of_getElem? (i := 1155) (by decide +kernel)) (by decide +kernel)
theorem ks_Mo_choice : Cond.selects "ChanceGameModel" y_Mo_choice y_Mo_choice ∈ tb := tb_t (List.mem_of_getElem? (i := 1156) (by decide +kernel)) (by decide +kernel)
theorem e_Mo_fail : cg_E y_Mo_fail b_Mo_fail 2 (some .boolean) 1 := ⟨tb_t (List.mem_of_getElem? (i := 983) (by decide +kernel)) (by decide +kernel), kn_Mo, by decide, by decide, by decide +kernel⟩
theorem ki_Mo_fail : Cond.instanceMethod y_Mo_fail ∈ tb := tb_t (List.mem_of_getElem? (i := 982) (by decide +kernel)) (by decide +kernel)
theorem ks_Mo_fail : Cond.selects "ChanceGameModel" y_Mo_fail y_Mo_fail ∈ tb := tb_s (q := (y_Mo_fail, 42)) (List.mem_of_getElem? (i := 34) (by decide +kernel))
theorem e_Mo_good : cg_E y_Mo_good b_Mo_good 2 (some .int) 1 := ⟨tb_t (List.mem_of_getElem? (i := 1177) (by decide +kernel)) (by decide +kernel), kn_Mo, by decide, by decide, by decide +kernel⟩
theorem ki_Mo_good : Cond.instanceMethod y_Mo_good ∈ tb := tb_t (List.mem_of_getElem? (i := 1175) (by decide +kernel)) (by decide +kernel)
theorem ks_Mo_good : Cond.selects "ChanceGameModel" y_Mo_good y_Mo_good ∈ tb := tb_t (List.mem_of_getElem? (i := 1176) (by decide +kernel)) (by decide +kernel)
theorem e_Mo_here : cg_E y_Mo_here b_Mo_here 1 (some .int) 0 := ⟨tb_t (List.mem_of_getElem? (i := 975) (by decide +kernel)) (by decide +kernel), kn_Mo, by decide, by decide, by decide +kernel⟩
theorem ki_Mo_here : Cond.instanceMethod y_Mo_here ∈ tb := tb_t (List.mem_of_getElem? (i := 974) (by decide +kernel)) (by decide +kernel)
theorem ks_Mo_here : Cond.selects "ChanceGameModel" y_Mo_here y_Mo_here ∈ tb := tb_s (q := (y_Mo_here, 42)) (List.mem_of_getElem? (i := 32) (by decide +kernel))
theorem e_Mo_isName : cg_E y_Mo_isName b_Mo_isName 1 (some .boolean) 0 := ⟨tb_t (List.mem_of_getElem? (i := 971) (by decide +kernel)) (by decide +kernel), kn_Mo, by decide, by decide, by decide +kernel⟩
theorem ki_Mo_isName : Cond.instanceMethod y_Mo_isName ∈ tb := tb_t (List.mem_of_getElem? (i := 970) (by decide +kernel)) (by decide +kernel)
theorem ks_Mo_isName : Cond.selects "ChanceGameModel" y_Mo_isName y_Mo_isName ∈ tb := tb_s (q := (y_Mo_isName, 42)) (List.mem_of_getElem? (i := 31) (by decide +kernel))
theorem e_Mo_isState : cg_E y_Mo_isState b_Mo_isState 2 (some .boolean) 1 := ⟨tb_t (List.mem_of_getElem? (i := 1145) (by decide +kernel)) (by decide +kernel), kn_Mo, by decide, by decide, by decide +kernel⟩
theorem ki_Mo_isState : Cond.instanceMethod y_Mo_isState ∈ tb := tb_t (List.mem_of_getElem? (i := 1144) (by decide +kernel)) (by decide +kernel)
theorem ks_Mo_isState : Cond.selects "ChanceGameModel" y_Mo_isState y_Mo_isState ∈ tb := tb_s (q := (y_Mo_isState, 42)) (List.mem_of_getElem? (i := 67) (by decide +kernel))
theorem e_Mo_lower : cg_E y_Mo_lower b_Mo_lower 2 (some .long) 1 := ⟨tb_t (List.mem_of_getElem? (i := 1173) (by decide +kernel)) (by decide +kernel), kn_Mo, by decide, by decide, by decide +kernel⟩
theorem ki_Mo_lower : Cond.instanceMethod y_Mo_lower ∈ tb := tb_t (List.mem_of_getElem? (i := 1171) (by decide +kernel)) (by decide +kernel)
theorem ks_Mo_lower : Cond.selects "ChanceGameModel" y_Mo_lower y_Mo_lower ∈ tb := tb_t (List.mem_of_getElem? (i := 1172) (by decide +kernel)) (by decide +kernel)
theorem e_Mo_mixed : cg_E y_Mo_mixed b_Mo_mixed 1 (some .int) 0 := ⟨tb_t (List.mem_of_getElem? (i := 1137) (by decide +kernel)) (by decide +kernel), kn_Mo, by decide, by decide, by decide +kernel⟩
theorem ki_Mo_mixed : Cond.instanceMethod y_Mo_mixed ∈ tb := tb_t (List.mem_of_getElem? (i := 1135) (by decide +kernel)) (by decide +kernel)
theorem ks_Mo_mixed : Cond.selects "ChanceGameModel" y_Mo_mixed y_Mo_mixed ∈ tb := tb_t (List.mem_of_getElem? (i := 1136) (by decide +kernel)) (by decide +kernel)
theorem e_Mo_needsValue : cg_E y_Mo_needsValue b_Mo_needsValue 2 (some .boolean) 1 := ⟨tb_t (List.mem_of_getElem? (i := 1169) (by decide +kernel)) (by decide +kernel), kn_Mo, by decide, by decide, by decide +kernel⟩
theorem ki_Mo_needsValue : Cond.instanceMethod y_Mo_needsValue ∈ tb := tb_t (List.mem_of_getElem? (i := 1168) (by decide +kernel)) (by decide +kernel)
theorem ks_Mo_needsValue : Cond.selects "ChanceGameModel" y_Mo_needsValue y_Mo_needsValue ∈ tb := tb_s (q := (y_Mo_needsValue, 42)) (List.mem_of_getElem? (i := 68) (by decide +kernel))
theorem e_Mo_owner : cg_E y_Mo_owner b_Mo_owner 2 (some .int) 1 := ⟨tb_t (List.mem_of_getElem? (i := 1153) (by decide +kernel)) (by decide +kernel), kn_Mo, by decide, by decide, by decide +kernel⟩
theorem ki_Mo_owner : Cond.instanceMethod y_Mo_owner ∈ tb := tb_t (List.mem_of_getElem? (i := 1151) (by decide +kernel)) (by decide +kernel)
theorem ks_Mo_owner : Cond.selects "ChanceGameModel" y_Mo_owner y_Mo_owner ∈ tb := tb_t (List.mem_of_getElem? (i := 1152) (by decide +kernel)) (by decide +kernel)
theorem e_Mo_place : cg_E y_Mo_place b_Mo_place 1 (some .int) 0 := ⟨tb_t (List.mem_of_getElem? (i := 1038) (by decide +kernel)) (by decide +kernel), kn_Mo, by decide, by decide, by decide +kernel⟩
theorem ki_Mo_place : Cond.instanceMethod y_Mo_place ∈ tb := tb_t (List.mem_of_getElem? (i := 1036) (by decide +kernel)) (by decide +kernel)
theorem ks_Mo_place : Cond.selects "ChanceGameModel" y_Mo_place y_Mo_place ∈ tb := tb_t (List.mem_of_getElem? (i := 1037) (by decide +kernel)) (by decide +kernel)
theorem e_Mo_read : cg_E y_Mo_read b_Mo_read 1 (some .int) 0 := ⟨tb_t (List.mem_of_getElem? (i := 963) (by decide +kernel)) (by decide +kernel), kn_Mo, by decide, by decide, by decide +kernel⟩
theorem ki_Mo_read : Cond.instanceMethod y_Mo_read ∈ tb := tb_t (List.mem_of_getElem? (i := 961) (by decide +kernel)) (by decide +kernel)
theorem ks_Mo_read : Cond.selects "ChanceGameModel" y_Mo_read y_Mo_read ∈ tb := tb_t (List.mem_of_getElem? (i := 962) (by decide +kernel)) (by decide +kernel)
theorem e_Mo_readAll : cg_E y_Mo_readAll b_Mo_readAll 2 (some .boolean) 0 := ⟨tb_t (List.mem_of_getElem? (i := 967) (by decide +kernel)) (by decide +kernel), kn_Mo, by decide, by decide, by decide +kernel⟩
theorem ki_Mo_readAll : Cond.instanceMethod y_Mo_readAll ∈ tb := tb_t (List.mem_of_getElem? (i := 966) (by decide +kernel)) (by decide +kernel)
theorem ks_Mo_readAll : Cond.selects "ChanceGameModel" y_Mo_readAll y_Mo_readAll ∈ tb := tb_s (q := (y_Mo_readAll, 42)) (List.mem_of_getElem? (i := 30) (by decide +kernel))
theorem e_Mo_refuse : cg_E y_Mo_refuse b_Mo_refuse 2 (some .int) 1 := ⟨tb_t (List.mem_of_getElem? (i := 1034) (by decide +kernel)) (by decide +kernel), kn_Mo, by decide, by decide, by decide +kernel⟩
theorem ki_Mo_refuse : Cond.instanceMethod y_Mo_refuse ∈ tb := tb_t (List.mem_of_getElem? (i := 1033) (by decide +kernel)) (by decide +kernel)
theorem ks_Mo_refuse : Cond.selects "ChanceGameModel" y_Mo_refuse y_Mo_refuse ∈ tb := tb_s (q := (y_Mo_refuse, 42)) (List.mem_of_getElem? (i := 46) (by decide +kernel))
theorem e_Mo_solve : cg_E y_Mo_solve b_Mo_solve 5 (some .int) 0 := ⟨tb_t (List.mem_of_getElem? (i := 1042) (by decide +kernel)) (by decide +kernel), kn_Mo, by decide, by decide, by decide +kernel⟩
