theorem k_1020 : Jvm.Cond.methodLink "ChanceGameModel" (172 : Nat) ({ cls := "ChanceGameModel", name := "updateAt", desc := "(IIII)I" } : Jvm.MethodName) ∈ tb := tb_t (List.mem_of_getElem? (i := 1020) (by decide +kernel)) (by decide +kernel)
theorem k_1023 : Jvm.Cond.methodLink "ChanceGameModel" (176 : Nat) ({ cls := "ChanceGameModel", name := "readUpdate", desc := "(II)Z" } : Jvm.MethodName) ∈ tb := tb_t (List.mem_of_getElem? (i := 1023) (by decide +kernel)) (by decide +kernel)
theorem k_1027 : Jvm.Cond.methodLink "ChanceGameModel" (194 : Nat) ({ cls := "ChanceGameModel", name := "refuse", desc := "(I)I" } : Jvm.MethodName) ∈ tb := tb_t (List.mem_of_getElem? (i := 1027) (by decide +kernel)) (by decide +kernel)
theorem k_1039 : Jvm.Cond.methodLink "ChanceGameModel" (276 : Nat) ({ cls := "ChanceGameModel", name := "explore", desc := "()I" } : Jvm.MethodName) ∈ tb := tb_t (List.mem_of_getElem? (i := 1039) (by decide +kernel)) (by decide +kernel)
theorem k_1043 : Jvm.Cond.methodLink "ChanceGameModel" (216 : Nat) ({ cls := "ChanceGameModel", name := "find", desc := "()I" } : Jvm.MethodName) ∈ tb := tb_t (List.mem_of_getElem? (i := 1043) (by decide +kernel)) (by decide +kernel)
theorem k_1047 : Jvm.Cond.methodLink "ChanceGameModel" (209 : Nat) ({ cls := "ChanceGameModel", name := "holds", desc := "(II)Z" } : Jvm.MethodName) ∈ tb := tb_t (List.mem_of_getElem? (i := 1047) (by decide +kernel)) (by decide +kernel)
theorem k_1051 : Jvm.Cond.methodLink "ChanceGameModel" (205 : Nat) ({ cls := "ChanceGameModel", name := "sumIn", desc := "(II)I" } : Jvm.MethodName) ∈ tb := tb_t (List.mem_of_getElem? (i := 1051) (by decide +kernel)) (by decide +kernel)
theorem k_1055 : Jvm.Cond.methodLink "ChanceGameModel" (219 : Nat) ({ cls := "ChanceGameModel", name := "enable", desc := "(I)Z" } : Jvm.MethodName) ∈ tb := tb_t (List.mem_of_getElem? (i := 1055) (by decide +kernel)) (by decide +kernel)
theorem k_1059 : Jvm.Cond.methodLink "ChanceGameModel" (222 : Nat) ({ cls := "ChanceGameModel", name := "follow", desc := "(I)Z" } : Jvm.MethodName) ∈ tb := tb_t (List.mem_of_getElem? (i := 1059) (by decide +kernel)) (by decide +kernel)
theorem k_1063 : Jvm.Cond.methodLink "ChanceGameModel" (212 : Nat) ({ cls := "ChanceGameModel", name := "takeBranch", desc := "(III)V" } : Jvm.MethodName) ∈ tb := tb_t (List.mem_of_getElem? (i := 1063) (by decide +kernel)) (by decide +kernel)
theorem k_1067 : Jvm.Cond.methodLink "ChanceGameModel" (267 : Nat) ({ cls := "ChanceGameModel", name := "allowAll", desc := "()V" } : Jvm.MethodName) ∈ tb := tb_t (List.mem_of_getElem? (i := 1067) (by decide +kernel)) (by decide +kernel)
theorem k_1071 : Jvm.Cond.methodLink "ChanceGameModel" (270 : Nat) ({ cls := "ChanceGameModel", name := "solveGame", desc := "()V" } : Jvm.MethodName) ∈ tb := tb_t (List.mem_of_getElem? (i := 1071) (by decide +kernel)) (by decide +kernel)
theorem k_1075 : Jvm.Cond.methodLink "ChanceGameModel" (228 : Nat) ({ cls := "ChanceGameModel", name := "has", desc := "(II)Z" } : Jvm.MethodName) ∈ tb := tb_t (List.mem_of_getElem? (i := 1075) (by decide +kernel)) (by decide +kernel)
theorem k_1078 : Jvm.Cond.methodLink "ChanceGameModel" (257 : Nat) ({ cls := "ChanceGameModel", name := "findLost", desc := "()V" } : Jvm.MethodName) ∈ tb := tb_t (List.mem_of_getElem? (i := 1078) (by decide +kernel)) (by decide +kernel)
theorem k_1082 : Jvm.Cond.methodLink "ChanceGameModel" (231 : Nat) ({ cls := "ChanceGameModel", name := "staysLost", desc := "(I)Z" } : Jvm.MethodName) ∈ tb := tb_t (List.mem_of_getElem? (i := 1082) (by decide +kernel)) (by decide +kernel)
theorem k_1086 : Jvm.Cond.methodLink "ChanceGameModel" (225 : Nat) ({ cls := "ChanceGameModel", name := "leadsToLost", desc := "(II)Z" } : Jvm.MethodName) ∈ tb := tb_t (List.mem_of_getElem? (i := 1086) (by decide +kernel)) (by decide +kernel)
theorem k_1090 : Jvm.Cond.methodLink "ChanceGameModel" (260 : Nat) ({ cls := "ChanceGameModel", name := "evaluate", desc := "()V" } : Jvm.MethodName) ∈ tb := tb_t (List.mem_of_getElem? (i := 1090) (by decide +kernel)) (by decide +kernel)
theorem k_1094 : Jvm.Cond.methodLink "ChanceGameModel" (237 : Nat) ({ cls := "ChanceGameModel", name := "equations", desc := "()V" } : Jvm.MethodName) ∈ tb := tb_t (List.mem_of_getElem? (i := 1094) (by decide +kernel)) (by decide +kernel)
theorem k_1098 : Jvm.Cond.methodLink "ChanceGameModel" (240 : Nat) ({ cls := "ChanceGameModel", name := "determinant", desc := "(I)J" } : Jvm.MethodName) ∈ tb := tb_t (List.mem_of_getElem? (i := 1098) (by decide +kernel)) (by decide +kernel)
theorem k_1102 : Jvm.Cond.constantLong "ChanceGameModel" (248 : Nat) (-1 : Int64) ∈ tb := tb_t (List.mem_of_getElem? (i := 1102) (by decide +kernel)) (by decide +kernel)
theorem k_1103 : Jvm.Cond.methodLink "ChanceGameModel" (263 : Nat) ({ cls := "ChanceGameModel", name := "improveAll", desc := "(Z)Z" } : Jvm.MethodName) ∈ tb := tb_t (List.mem_of_getElem? (i := 1103) (by decide +kernel)) (by decide +kernel)
theorem k_1107 : Jvm.Cond.methodLink "ChanceGameModel" (254 : Nat) ({ cls := "ChanceGameModel", name := "improve", desc := "(I)Z" } : Jvm.MethodName) ∈ tb := tb_t (List.mem_of_getElem? (i := 1107) (by decide +kernel)) (by decide +kernel)
theorem k_1111 : Jvm.Cond.methodLink "ChanceGameModel" (250 : Nat) ({ cls := "ChanceGameModel", name := "worth", desc := "(II)J" } : Jvm.MethodName) ∈ tb := tb_t (List.mem_of_getElem? (i := 1111) (by decide +kernel)) (by decide +kernel)
theorem k_1115 : Jvm.Cond.methodLink "ChanceGameModel" (279 : Nat) ({ cls := "ChanceGameModel", name := "divisor", desc := "(JJ)J" } : Jvm.MethodName) ∈ tb := tb_t (List.mem_of_getElem? (i := 1115) (by decide +kernel)) (by decide +kernel)
theorem k_1118 : Jvm.Cond.methodLink "ChanceGameModel" (283 : Nat) ({ cls := "ChanceGameModel", name := "findBest", desc := "(Z)V" } : Jvm.MethodName) ∈ tb := tb_t (List.mem_of_getElem? (i := 1118) (by decide +kernel)) (by decide +kernel)
theorem k_1122 : Jvm.Cond.methodLink "ChanceGameModel" (273 : Nat) ({ cls := "ChanceGameModel", name := "isKept", desc := "()Z" } : Jvm.MethodName) ∈ tb := tb_t (List.mem_of_getElem? (i := 1122) (by decide +kernel)) (by decide +kernel)
theorem k_1138 : Jvm.Cond.methodLink "ChanceGameModel" (287 : Nat) ({ cls := "ChanceGameModel", name := "isState", desc := "(I)Z" } : Jvm.MethodName) ∈ tb := tb_t (List.mem_of_getElem? (i := 1138) (by decide +kernel)) (by decide +kernel)
theorem k_1162 : Jvm.Cond.methodLink "ChanceGameModel" (290 : Nat) ({ cls := "ChanceGameModel", name := "needsValue", desc := "(I)Z" } : Jvm.MethodName) ∈ tb := tb_t (List.mem_of_getElem? (i := 1162) (by decide +kernel)) (by decide +kernel)
theorem e_Tx_byteAt : cg_E y_Tx_byteAt b_Tx_byteAt 3 (some .int) 2 := ⟨tb_t (List.mem_of_getElem? (i := 362) (by decide +kernel)) (by decide +kernel), kn_Tx, by decide, by decide, by decide +kernel⟩
theorem kt_Tx_byteAt : Cond.static y_Tx_byteAt ∈ tb := tb_t (List.mem_of_getElem? (i := 361) (by decide +kernel)) (by decide +kernel)
theorem e_Tx_areTypeable : cg_E y_Tx_areTypeable b_Tx_areTypeable 5 (some .boolean) 2 := ⟨tb_t (List.mem_of_getElem? (i := 359) (by decide +kernel)) (by decide +kernel), kn_Tx, by decide, by decide, by decide +kernel⟩
theorem kt_Tx_areTypeable : Cond.static y_Tx_areTypeable ∈ tb := tb_t (List.mem_of_getElem? (i := 358) (by decide +kernel)) (by decide +kernel)
theorem e_Tx_append : cg_E y_Tx_append b_Tx_append 5 (some .int) 2 := ⟨tb_t (List.mem_of_getElem? (i := 356) (by decide +kernel)) (by decide +kernel), kn_Tx, by decide, by decide, by decide +kernel⟩
theorem ki_Tx_append : Cond.instanceMethod y_Tx_append ∈ tb := tb_t (List.mem_of_getElem? (i := 354) (by decide +kernel)) (by decide +kernel)
theorem ks_Tx_append : Cond.selects "ChanceGame$Text" y_Tx_append y_Tx_append ∈ tb := tb_t (List.mem_of_getElem? (i := 355) (by decide +kernel)) (by decide +kernel)
theorem e_CG_type : cg_E y_CG_type b_CG_type 4 (some .int) 2 := ⟨tb_t (List.mem_of_getElem? (i := 352) (by decide +kernel)) (by decide +kernel), kn_CG, by decide, by decide, by decide +kernel⟩
theorem ki_CG_type : Cond.instanceMethod y_CG_type ∈ tb := tb_t (List.mem_of_getElem? (i := 350) (by decide +kernel)) (by decide +kernel)
theorem ks_CG_type : Cond.selects "ChanceGame" y_CG_type y_CG_type ∈ tb := tb_t (List.mem_of_getElem? (i := 351) (by decide +kernel)) (by decide +kernel)
theorem e_Tx_clear : cg_E y_Tx_clear b_Tx_clear 2 (some .int) 0 := ⟨tb_t (List.mem_of_getElem? (i := 370) (by decide +kernel)) (by decide +kernel), kn_Tx, by decide, by decide, by decide +kernel⟩
theorem ki_Tx_clear : Cond.instanceMethod y_Tx_clear ∈ tb := tb_t (List.mem_of_getElem? (i := 368) (by decide +kernel)) (by decide +kernel)
theorem ks_Tx_clear : Cond.selects "ChanceGame$Text" y_Tx_clear y_Tx_clear ∈ tb := tb_t (List.mem_of_getElem? (i := 369) (by decide +kernel)) (by decide +kernel)
theorem e_CG_wipe : cg_E y_CG_wipe b_CG_wipe 1 (some .int) 0 := ⟨tb_t (List.mem_of_getElem? (i := 366) (by decide +kernel)) (by decide +kernel), kn_CG, by decide, by decide, by decide +kernel⟩
theorem ki_CG_wipe : Cond.instanceMethod y_CG_wipe ∈ tb := tb_t (List.mem_of_getElem? (i := 364) (by decide +kernel)) (by decide +kernel)
theorem ks_CG_wipe : Cond.selects "ChanceGame" y_CG_wipe y_CG_wipe ∈ tb := tb_t (List.mem_of_getElem? (i := 365) (by decide +kernel)) (by decide +kernel)
theorem e_Gm_clear : cg_E y_Gm_clear b_Gm_clear 2 none 0 := ⟨tb_t (List.mem_of_getElem? (i := 441) (by decide +kernel)) (by decide +kernel), kn_Gm, by decide, by decide, by decide +kernel⟩
theorem ki_Gm_clear : Cond.instanceMethod y_Gm_clear ∈ tb := tb_t (List.mem_of_getElem? (i := 439) (by decide +kernel)) (by decide +kernel)
theorem ks_Gm_clear : Cond.selects "ChanceGame$Game" y_Gm_clear y_Gm_clear ∈ tb := tb_t (List.mem_of_getElem? (i := 440) (by decide +kernel)) (by decide +kernel)
theorem e_Rd_here : cg_E y_Rd_here b_Rd_here 1 (some .char) 0 := ⟨tb_t (List.mem_of_getElem? (i := 445) (by decide +kernel)) (by decide +kernel), kn_Rd, by decide, by decide, by decide +kernel⟩
theorem ki_Rd_here : Cond.instanceMethod y_Rd_here ∈ tb := tb_t (List.mem_of_getElem? (i := 444) (by decide +kernel)) (by decide +kernel)
theorem ks_Rd_here : Cond.selects "ChanceGame$Reader" y_Rd_here y_Rd_here ∈ tb := tb_s (q := (y_Rd_here, 4)) (List.mem_of_getElem? (i := 0) (by decide +kernel))
theorem e_Rd_isName : cg_E y_Rd_isName b_Rd_isName 1 (some .boolean) 1 := ⟨tb_t (List.mem_of_getElem? (i := 448) (by decide +kernel)) (by decide +kernel), kn_Rd, by decide, by decide, by decide +kernel⟩
theorem kt_Rd_isName : Cond.static y_Rd_isName ∈ tb := tb_t (List.mem_of_getElem? (i := 447) (by decide +kernel)) (by decide +kernel)
theorem e_Gm_hasVariable : cg_E y_Gm_hasVariable b_Gm_hasVariable 2 (some .boolean) 1 := ⟨tb_t (List.mem_of_getElem? (i := 394) (by decide +kernel)) (by decide +kernel), kn_Gm, by decide, by decide, by decide +kernel⟩
theorem ki_Gm_hasVariable : Cond.instanceMethod y_Gm_hasVariable ∈ tb := tb_t (List.mem_of_getElem? (i := 392) (by decide +kernel)) (by decide +kernel)
theorem ks_Gm_hasVariable : Cond.selects "ChanceGame$Game" y_Gm_hasVariable y_Gm_hasVariable ∈ tb := tb_t (List.mem_of_getElem? (i := 393) (by decide +kernel)) (by decide +kernel)
theorem e_Rd_refuse : cg_E y_Rd_refuse b_Rd_refuse 2 none 1 := ⟨tb_t (List.mem_of_getElem? (i := 457) (by decide +kernel)) (by decide +kernel), kn_Rd, by decide, by decide, by decide +kernel⟩
theorem ki_Rd_refuse : Cond.instanceMethod y_Rd_refuse ∈ tb := tb_t (List.mem_of_getElem? (i := 456) (by decide +kernel)) (by decide +kernel)
theorem ks_Rd_refuse : Cond.selects "ChanceGame$Reader" y_Rd_refuse y_Rd_refuse ∈ tb := tb_s (q := (y_Rd_refuse, 4)) (List.mem_of_getElem? (i := 2) (by decide +kernel))
theorem e_Rd_isDigit : cg_E y_Rd_isDigit b_Rd_isDigit 1 (some .boolean) 1 := ⟨tb_t (List.mem_of_getElem? (i := 532) (by decide +kernel)) (by decide +kernel), kn_Rd, by decide, by decide, by decide +kernel⟩
theorem kt_Rd_isDigit : Cond.static y_Rd_isDigit ∈ tb := tb_t (List.mem_of_getElem? (i := 531) (by decide +kernel)) (by decide +kernel)
theorem e_Rd_readNumber : cg_E y_Rd_readNumber b_Rd_readNumber 7 (some .int) 2 := ⟨tb_t (List.mem_of_getElem? (i := 529) (by decide +kernel)) (by decide +kernel), kn_Rd, by decide, by decide, by decide +kernel⟩
theorem ki_Rd_readNumber : Cond.instanceMethod y_Rd_readNumber ∈ tb := tb_t (List.mem_of_getElem? (i := 528) (by decide +kernel)) (by decide +kernel)
theorem ks_Rd_readNumber : Cond.selects "ChanceGame$Reader" y_Rd_readNumber y_Rd_readNumber ∈ tb := tb_s (q := (y_Rd_readNumber, 4)) (List.mem_of_getElem? (i := 4) (by decide +kernel))
theorem e_Rd_skips : cg_E y_Rd_skips b_Rd_skips 2 (some .boolean) 1 := ⟨tb_t (List.mem_of_getElem? (i := 540) (by decide +kernel)) (by decide +kernel), kn_Rd, by decide, by decide, by decide +kernel⟩
theorem ki_Rd_skips : Cond.instanceMethod y_Rd_skips ∈ tb := tb_t (List.mem_of_getElem? (i := 539) (by decide +kernel)) (by decide +kernel)
theorem ks_Rd_skips : Cond.selects "ChanceGame$Reader" y_Rd_skips y_Rd_skips ∈ tb := tb_s (q := (y_Rd_skips, 4)) (List.mem_of_getElem? (i := 6) (by decide +kernel))
theorem e_Rd_expect : cg_E y_Rd_expect b_Rd_expect 2 none 1 := ⟨tb_t (List.mem_of_getElem? (i := 536) (by decide +kernel)) (by decide +kernel), kn_Rd, by decide, by decide, by decide +kernel⟩
theorem ki_Rd_expect : Cond.instanceMethod y_Rd_expect ∈ tb := tb_t (List.mem_of_getElem? (i := 535) (by decide +kernel)) (by decide +kernel)
theorem ks_Rd_expect : Cond.selects "ChanceGame$Reader" y_Rd_expect y_Rd_expect ∈ tb := tb_s (q := (y_Rd_expect, 4)) (List.mem_of_getElem? (i := 5) (by decide +kernel))
theorem e_Rd_readVariable : cg_E y_Rd_readVariable b_Rd_readVariable 2 none 0 := ⟨tb_t (List.mem_of_getElem? (i := 452) (by decide +kernel)) (by decide +kernel), kn_Rd, by decide, by decide, by decide +kernel⟩
theorem ki_Rd_readVariable : Cond.instanceMethod y_Rd_readVariable ∈ tb := tb_t (List.mem_of_getElem? (i := 451) (by decide +kernel)) (by decide +kernel)
theorem ks_Rd_readVariable : Cond.selects "ChanceGame$Reader" y_Rd_readVariable y_Rd_readVariable ∈ tb := tb_s (q := (y_Rd_readVariable, 4)) (List.mem_of_getElem? (i := 1) (by decide +kernel))
theorem e_Rd_isPlusOrMinus : cg_E y_Rd_isPlusOrMinus b_Rd_isPlusOrMinus 1 (some .boolean) 1 := ⟨tb_t (List.mem_of_getElem? (i := 543) (by decide +kernel)) (by decide +kernel), kn_Rd, by decide, by decide, by decide +kernel⟩
theorem kt_Rd_isPlusOrMinus : Cond.static y_Rd_isPlusOrMinus ∈ tb := tb_t (List.mem_of_getElem? (i := 542) (by decide +kernel)) (by decide +kernel)
theorem e_Gu_clear : cg_E y_Gu_clear b_Gu_clear 2 none 0 := ⟨tb_t (List.mem_of_getElem? (i := 555) (by decide +kernel)) (by decide +kernel), kn_Gu, by decide, by decide, by decide +kernel⟩
theorem ki_Gu_clear : Cond.instanceMethod y_Gu_clear ∈ tb := tb_t (List.mem_of_getElem? (i := 553) (by decide +kernel)) (by decide +kernel)
theorem ks_Gu_clear : Cond.selects "ChanceGame$Guard" y_Gu_clear y_Gu_clear ∈ tb := tb_t (List.mem_of_getElem? (i := 554) (by decide +kernel)) (by decide +kernel)
theorem e_Rd_readName : cg_E y_Rd_readName b_Rd_readName 2 (some .int) 0 := ⟨tb_t (List.mem_of_getElem? (i := 563) (by decide +kernel)) (by decide +kernel), kn_Rd, by decide, by decide, by decide +kernel⟩
theorem ki_Rd_readName : Cond.instanceMethod y_Rd_readName ∈ tb := tb_t (List.mem_of_getElem? (i := 562) (by decide +kernel)) (by decide +kernel)
theorem ks_Rd_readName : Cond.selects "ChanceGame$Reader" y_Rd_readName y_Rd_readName ∈ tb := tb_s (q := (y_Rd_readName, 4)) (List.mem_of_getElem? (i := 10) (by decide +kernel))
theorem e_Rd_readSum : cg_E y_Rd_readSum b_Rd_readSum 7 none 3 := ⟨tb_t (List.mem_of_getElem? (i := 559) (by decide +kernel)) (by decide +kernel), kn_Rd, by decide, by decide, by decide +kernel⟩
theorem ki_Rd_readSum : Cond.instanceMethod y_Rd_readSum ∈ tb := tb_t (List.mem_of_getElem? (i := 558) (by decide +kernel)) (by decide +kernel)
theorem ks_Rd_readSum : Cond.selects "ChanceGame$Reader" y_Rd_readSum y_Rd_readSum ∈ tb := tb_s (q := (y_Rd_readSum, 4)) (List.mem_of_getElem? (i := 9) (by decide +kernel))
theorem e_Rd_isComparison : cg_E y_Rd_isComparison b_Rd_isComparison 1 (some .boolean) 1 := ⟨tb_t (List.mem_of_getElem? (i := 566) (by decide +kernel)) (by decide +kernel), kn_Rd, by decide, by decide, by decide +kernel⟩
theorem kt_Rd_isComparison : Cond.static y_Rd_isComparison ∈ tb := tb_t (List.mem_of_getElem? (i := 565) (by decide +kernel)) (by decide +kernel)
theorem e_Rd_readGuard : cg_E y_Rd_readGuard b_Rd_readGuard 4 none 1 := ⟨tb_t (List.mem_of_getElem? (i := 551) (by decide +kernel)) (by decide +kernel), kn_Rd, by decide, by decide, by decide +kernel⟩
theorem ki_Rd_readGuard : Cond.instanceMethod y_Rd_readGuard ∈ tb := tb_t (List.mem_of_getElem? (i := 550) (by decide +kernel)) (by decide +kernel)
theorem ks_Rd_readGuard : Cond.selects "ChanceGame$Reader" y_Rd_readGuard y_Rd_readGuard ∈ tb := tb_s (q := (y_Rd_readGuard, 4)) (List.mem_of_getElem? (i := 8) (by decide +kernel))
theorem e_Br_clearSum : cg_E y_Br_clearSum b_Br_clearSum 3 none 1 := ⟨tb_t (List.mem_of_getElem? (i := 578) (by decide +kernel)) (by decide +kernel), kn_Br, by decide, by decide, by decide +kernel⟩
theorem ki_Br_clearSum : Cond.instanceMethod y_Br_clearSum ∈ tb := tb_t (List.mem_of_getElem? (i := 576) (by decide +kernel)) (by decide +kernel)
theorem ks_Br_clearSum : Cond.selects "ChanceGame$Branch" y_Br_clearSum y_Br_clearSum ∈ tb := tb_t (List.mem_of_getElem? (i := 577) (by decide +kernel)) (by decide +kernel)
theorem e_Br_clear : cg_E y_Br_clear b_Br_clear 2 none 0 := ⟨tb_t (List.mem_of_getElem? (i := 574) (by decide +kernel)) (by decide +kernel), kn_Br, by decide, by decide, by decide +kernel⟩
theorem ki_Br_clear : Cond.instanceMethod y_Br_clear ∈ tb := tb_t (List.mem_of_getElem? (i := 572) (by decide +kernel)) (by decide +kernel)
theorem ks_Br_clear : Cond.selects "ChanceGame$Branch" y_Br_clear y_Br_clear ∈ tb := tb_t (List.mem_of_getElem? (i := 573) (by decide +kernel)) (by decide +kernel)
theorem e_CG_hasBit : cg_E y_CG_hasBit b_CG_hasBit 2 (some .boolean) 2 := ⟨tb_t (List.mem_of_getElem? (i := 401) (by decide +kernel)) (by decide +kernel), kn_CG, by decide, by decide, by decide +kernel⟩
theorem kt_CG_hasBit : Cond.static y_CG_hasBit ∈ tb := tb_t (List.mem_of_getElem? (i := 400) (by decide +kernel)) (by decide +kernel)
theorem e_Rd_readBranch : cg_E y_Rd_readBranch b_Rd_readBranch 8 none 2 := ⟨tb_t (List.mem_of_getElem? (i := 570) (by decide +kernel)) (by decide +kernel), kn_Rd, by decide, by decide, by decide +kernel⟩
theorem ki_Rd_readBranch : Cond.instanceMethod y_Rd_readBranch ∈ tb := tb_t (List.mem_of_getElem? (i := 569) (by decide +kernel)) (by decide +kernel)
theorem ks_Rd_readBranch : Cond.selects "ChanceGame$Reader" y_Rd_readBranch y_Rd_readBranch ∈ tb := tb_s (q := (y_Rd_readBranch, 4)) (List.mem_of_getElem? (i := 11) (by decide +kernel))
theorem e_Rd_readCommand : cg_E y_Rd_readCommand b_Rd_readCommand 5 none 1 := ⟨tb_t (List.mem_of_getElem? (i := 547) (by decide +kernel)) (by decide +kernel), kn_Rd, by decide, by decide, by decide +kernel⟩
theorem ki_Rd_readCommand : Cond.instanceMethod y_Rd_readCommand ∈ tb := tb_t (List.mem_of_getElem? (i := 546) (by decide +kernel)) (by decide +kernel)
theorem ks_Rd_readCommand : Cond.selects "ChanceGame$Reader" y_Rd_readCommand y_Rd_readCommand ∈ tb := tb_s (q := (y_Rd_readCommand, 4)) (List.mem_of_getElem? (i := 7) (by decide +kernel))
theorem e_Rd_readInPlaceOf : cg_E y_Rd_readInPlaceOf b_Rd_readInPlaceOf 3 (some (.object "ChanceGame$Game")) 1 := ⟨tb_t (List.mem_of_getElem? (i := 437) (by decide +kernel)) (by decide +kernel), kn_Rd, by decide, by decide, by decide +kernel⟩
theorem ki_Rd_readInPlaceOf : Cond.instanceMethod y_Rd_readInPlaceOf ∈ tb := tb_t (List.mem_of_getElem? (i := 435) (by decide +kernel)) (by decide +kernel)
theorem ks_Rd_readInPlaceOf : Cond.selects "ChanceGame$Reader" y_Rd_readInPlaceOf y_Rd_readInPlaceOf ∈ tb := tb_t (List.mem_of_getElem? (i := 436) (by decide +kernel)) (by decide +kernel)
theorem e_Fo_clear : cg_E y_Fo_clear b_Fo_clear 1 none 0 := ⟨tb_t (List.mem_of_getElem? (i := 588) (by decide +kernel)) (by decide +kernel), kn_Fo, by decide, by decide, by decide +kernel⟩
theorem ki_Fo_clear : Cond.instanceMethod y_Fo_clear ∈ tb := tb_t (List.mem_of_getElem? (i := 587) (by decide +kernel)) (by decide +kernel)
theorem ks_Fo_clear : Cond.selects "ChanceGame$Found" y_Fo_clear y_Fo_clear ∈ tb := tb_s (q := (y_Fo_clear, 11)) (List.mem_of_getElem? (i := 12) (by decide +kernel))
theorem e_Fo_begin : cg_E y_Fo_begin b_Fo_begin 2 none 1 := ⟨tb_t (List.mem_of_getElem? (i := 584) (by decide +kernel)) (by decide +kernel), kn_Fo, by decide, by decide, by decide +kernel⟩
theorem ki_Fo_begin : Cond.instanceMethod y_Fo_begin ∈ tb := tb_t (List.mem_of_getElem? (i := 582) (by decide +kernel)) (by decide +kernel)
theorem ks_Fo_begin : Cond.selects "ChanceGame$Found" y_Fo_begin y_Fo_begin ∈ tb := tb_t (List.mem_of_getElem? (i := 583) (by decide +kernel)) (by decide +kernel)
theorem e_CG_read : cg_E y_CG_read b_CG_read 1 (some .int) 0 := ⟨tb_t (List.mem_of_getElem? (i := 433) (by decide +kernel)) (by decide +kernel), kn_CG, by decide, by decide, by decide +kernel⟩
theorem ki_CG_read : Cond.instanceMethod y_CG_read ∈ tb := tb_t (List.mem_of_getElem? (i := 431) (by decide +kernel)) (by decide +kernel)
theorem ks_CG_read : Cond.selects "ChanceGame" y_CG_read y_CG_read ∈ tb := tb_t (List.mem_of_getElem? (i := 432) (by decide +kernel)) (by decide +kernel)
theorem e_CG_place : cg_E y_CG_place b_CG_place 1 (some .int) 0 := ⟨tb_t (List.mem_of_getElem? (i := 374) (by decide +kernel)) (by decide +kernel), kn_CG, by decide, by decide, by decide +kernel⟩
theorem ki_CG_place : Cond.instanceMethod y_CG_place ∈ tb := tb_t (List.mem_of_getElem? (i := 372) (by decide +kernel)) (by decide +kernel)
theorem ks_CG_place : Cond.selects "ChanceGame" y_CG_place y_CG_place ∈ tb := tb_t (List.mem_of_getElem? (i := 373) (by decide +kernel)) (by decide +kernel)
theorem e_Gm_commandsOfMax : cg_E y_Gm_commandsOfMax b_Gm_commandsOfMax 3 (some .int) 0 := ⟨tb_t (List.mem_of_getElem? (i := 620) (by decide +kernel)) (by decide +kernel), kn_Gm, by decide, by decide, by decide +kernel⟩
theorem ki_Gm_commandsOfMax : Cond.instanceMethod y_Gm_commandsOfMax ∈ tb := tb_t (List.mem_of_getElem? (i := 618) (by decide +kernel)) (by decide +kernel)
theorem ks_Gm_commandsOfMax : Cond.selects "ChanceGame$Game" y_Gm_commandsOfMax y_Gm_commandsOfMax ∈ tb := tb_t (List.mem_of_getElem? (i := 619) (by decide +kernel)) (by decide +kernel)
theorem e_CG_sumAt : cg_E y_CG_sumAt b_CG_sumAt 5 (some .int) 3 := ⟨tb_t (List.mem_of_getElem? (i := 634) (by decide +kernel)) (by decide +kernel), kn_CG, by decide, by decide, by decide +kernel⟩
theorem kt_CG_sumAt : Cond.static y_CG_sumAt ∈ tb := tb_t (List.mem_of_getElem? (i := 633) (by decide +kernel)) (by decide +kernel)
theorem e_Gu_isAsSaid : cg_E y_Gu_isAsSaid b_Gu_isAsSaid 2 (some .boolean) 2 := ⟨tb_t (List.mem_of_getElem? (i := 637) (by decide +kernel)) (by decide +kernel), kn_Gu, by decide, by decide, by decide +kernel⟩
theorem kt_Gu_isAsSaid : Cond.static y_Gu_isAsSaid ∈ tb := tb_t (List.mem_of_getElem? (i := 636) (by decide +kernel)) (by decide +kernel)
theorem e_Gu_holds : cg_E y_Gu_holds b_Gu_holds 3 (some .boolean) 1 := ⟨tb_t (List.mem_of_getElem? (i := 631) (by decide +kernel)) (by decide +kernel), kn_Gu, by decide, by decide, by decide +kernel⟩
theorem ki_Gu_holds : Cond.instanceMethod y_Gu_holds ∈ tb := tb_t (List.mem_of_getElem? (i := 629) (by decide +kernel)) (by decide +kernel)
theorem ks_Gu_holds : Cond.selects "ChanceGame$Guard" y_Gu_holds y_Gu_holds ∈ tb := tb_t (List.mem_of_getElem? (i := 630) (by decide +kernel)) (by decide +kernel)
theorem e_Gm_enabledIn : cg_E y_Gm_enabledIn b_Gm_enabledIn 4 (some .int) 1 := ⟨tb_t (List.mem_of_getElem? (i := 641) (by decide +kernel)) (by decide +kernel), kn_Gm, by decide, by decide, by decide +kernel⟩
theorem ki_Gm_enabledIn : Cond.instanceMethod y_Gm_enabledIn ∈ tb := tb_t (List.mem_of_getElem? (i := 639) (by decide +kernel)) (by decide +kernel)
theorem ks_Gm_enabledIn : Cond.selects "ChanceGame$Game" y_Gm_enabledIn y_Gm_enabledIn ∈ tb := tb_t (List.mem_of_getElem? (i := 640) (by decide +kernel)) (by decide +kernel)
theorem e_Fo_add : cg_E y_Fo_add b_Fo_add 3 none 1 := ⟨tb_t (List.mem_of_getElem? (i := 624) (by decide +kernel)) (by decide +kernel), kn_Fo, by decide, by decide, by decide +kernel⟩
theorem ki_Fo_add : Cond.instanceMethod y_Fo_add ∈ tb := tb_t (List.mem_of_getElem? (i := 623) (by decide +kernel)) (by decide +kernel)
theorem ks_Fo_add : Cond.selects "ChanceGame$Found" y_Fo_add y_Fo_add ∈ tb := tb_s (q := (y_Fo_add, 11)) (List.mem_of_getElem? (i := 13) (by decide +kernel))
theorem e_Fo_isOfMax : cg_E y_Fo_isOfMax b_Fo_isOfMax 2 (some .boolean) 1 := ⟨tb_t (List.mem_of_getElem? (i := 413) (by decide +kernel)) (by decide +kernel), kn_Fo, by decide, by decide, by decide +kernel⟩
theorem ki_Fo_isOfMax : Cond.instanceMethod y_Fo_isOfMax ∈ tb := tb_t (List.mem_of_getElem? (i := 411) (by decide +kernel)) (by decide +kernel)
theorem ks_Fo_isOfMax : Cond.selects "ChanceGame$Found" y_Fo_isOfMax y_Fo_isOfMax ∈ tb := tb_t (List.mem_of_getElem? (i := 412) (by decide +kernel)) (by decide +kernel)
theorem e_Gm_follow : cg_E y_Gm_follow b_Gm_follow 6 none 3 := ⟨tb_t (List.mem_of_getElem? (i := 652) (by decide +kernel)) (by decide +kernel), kn_Gm, by decide, by decide, by decide +kernel⟩
theorem ki_Gm_follow : Cond.instanceMethod y_Gm_follow ∈ tb := tb_t (List.mem_of_getElem? (i := 650) (by decide +kernel)) (by decide +kernel)
theorem ks_Gm_follow : Cond.selects "ChanceGame$Game" y_Gm_follow y_Gm_follow ∈ tb := tb_t (List.mem_of_getElem? (i := 651) (by decide +kernel)) (by decide +kernel)
theorem e_Fo_numberOf : cg_E y_Fo_numberOf b_Fo_numberOf 5 (some .int) 1 := ⟨tb_t (List.mem_of_getElem? (i := 663) (by decide +kernel)) (by decide +kernel), kn_Fo, by decide, by decide, by decide +kernel⟩
theorem ki_Fo_numberOf : Cond.instanceMethod y_Fo_numberOf ∈ tb := tb_t (List.mem_of_getElem? (i := 662) (by decide +kernel)) (by decide +kernel)
theorem ks_Fo_numberOf : Cond.selects "ChanceGame$Found" y_Fo_numberOf y_Fo_numberOf ∈ tb := tb_s (q := (y_Fo_numberOf, 11)) (List.mem_of_getElem? (i := 15) (by decide +kernel))
theorem e_Fo_findFrom : cg_E y_Fo_findFrom b_Fo_findFrom 6 (some .boolean) 1 := ⟨tb_t (List.mem_of_getElem? (i := 647) (by decide +kernel)) (by decide +kernel), kn_Fo, by decide, by decide, by decide +kernel⟩
theorem ki_Fo_findFrom : Cond.instanceMethod y_Fo_findFrom ∈ tb := tb_t (List.mem_of_getElem? (i := 646) (by decide +kernel)) (by decide +kernel)
theorem ks_Fo_findFrom : Cond.selects "ChanceGame$Found" y_Fo_findFrom y_Fo_findFrom ∈ tb := tb_s (q := (y_Fo_findFrom, 11)) (List.mem_of_getElem? (i := 14) (by decide +kernel))
theorem e_Fo_explore : cg_E y_Fo_explore b_Fo_explore 2 (some .int) 0 := ⟨tb_t (List.mem_of_getElem? (i := 616) (by decide +kernel)) (by decide +kernel), kn_Fo, by decide, by decide, by decide +kernel⟩
theorem ki_Fo_explore : Cond.instanceMethod y_Fo_explore ∈ tb := tb_t (List.mem_of_getElem? (i := 614) (by decide +kernel)) (by decide +kernel)
theorem ks_Fo_explore : Cond.selects "ChanceGame$Found" y_Fo_explore y_Fo_explore ∈ tb := tb_t (List.mem_of_getElem? (i := 615) (by decide +kernel)) (by decide +kernel)
theorem e_Fo_linkCommand : cg_E y_Fo_linkCommand b_Fo_linkCommand 6 none 2 := ⟨tb_t (List.mem_of_getElem? (i := 671) (by decide +kernel)) (by decide +kernel), kn_Fo, by decide, by decide, by decide +kernel⟩
theorem ki_Fo_linkCommand : Cond.instanceMethod y_Fo_linkCommand ∈ tb := tb_t (List.mem_of_getElem? (i := 670) (by decide +kernel)) (by decide +kernel)
theorem ks_Fo_linkCommand : Cond.selects "ChanceGame$Found" y_Fo_linkCommand y_Fo_linkCommand ∈ tb := tb_s (q := (y_Fo_linkCommand, 11)) (List.mem_of_getElem? (i := 16) (by decide +kernel))
theorem e_Fo_link : cg_E y_Fo_link b_Fo_link 3 none 0 := ⟨tb_t (List.mem_of_getElem? (i := 667) (by decide +kernel)) (by decide +kernel), kn_Fo, by decide, by decide, by decide +kernel⟩
theorem ki_Fo_link : Cond.instanceMethod y_Fo_link ∈ tb := tb_t (List.mem_of_getElem? (i := 665) (by decide +kernel)) (by decide +kernel)
theorem ks_Fo_link : Cond.selects "ChanceGame$Found" y_Fo_link y_Fo_link ∈ tb := tb_t (List.mem_of_getElem? (i := 666) (by decide +kernel)) (by decide +kernel)
theorem e_Fo_choicesOf : cg_E y_Fo_choicesOf b_Fo_choicesOf 2 (some .int) 1 := ⟨tb_t (List.mem_of_getElem? (i := 409) (by decide +kernel)) (by decide +kernel), kn_Fo, by decide, by decide, by decide +kernel⟩
theorem ki_Fo_choicesOf : Cond.instanceMethod y_Fo_choicesOf ∈ tb := tb_t (List.mem_of_getElem? (i := 407) (by decide +kernel)) (by decide +kernel)
theorem ks_Fo_choicesOf : Cond.selects "ChanceGame$Found" y_Fo_choicesOf y_Fo_choicesOf ∈ tb := tb_t (List.mem_of_getElem? (i := 408) (by decide +kernel)) (by decide +kernel)
theorem e_At_canComeNearer : cg_E y_At_canComeNearer b_At_canComeNearer 5 (some .boolean) 3 := ⟨tb_t (List.mem_of_getElem? (i := 694) (by decide +kernel)) (by decide +kernel), kn_At, by decide, by decide, by decide +kernel⟩
theorem ki_At_canComeNearer : Cond.instanceMethod y_At_canComeNearer ∈ tb := tb_t (List.mem_of_getElem? (i := 693) (by decide +kernel)) (by decide +kernel)
theorem ks_At_canComeNearer : Cond.selects "ChanceGame$Attraction" y_At_canComeNearer y_At_canComeNearer ∈ tb := tb_s (q := (y_At_canComeNearer, 2)) (List.mem_of_getElem? (i := 19) (by decide +kernel))
theorem e_At_mustComeNearer : cg_E y_At_mustComeNearer b_At_mustComeNearer 5 (some .boolean) 3 := ⟨tb_t (List.mem_of_getElem? (i := 698) (by decide +kernel)) (by decide +kernel), kn_At, by decide, by decide, by decide +kernel⟩
theorem ki_At_mustComeNearer : Cond.instanceMethod y_At_mustComeNearer ∈ tb := tb_t (List.mem_of_getElem? (i := 697) (by decide +kernel)) (by decide +kernel)
theorem ks_At_mustComeNearer : Cond.selects "ChanceGame$Attraction" y_At_mustComeNearer y_At_mustComeNearer ∈ tb := tb_s (q := (y_At_mustComeNearer, 2)) (List.mem_of_getElem? (i := 20) (by decide +kernel))
theorem e_At_isDrawn : cg_E y_At_isDrawn b_At_isDrawn 4 (some .boolean) 3 := ⟨tb_t (List.mem_of_getElem? (i := 689) (by decide +kernel)) (by decide +kernel), kn_At, by decide, by decide, by decide +kernel⟩
theorem ki_At_isDrawn : Cond.instanceMethod y_At_isDrawn ∈ tb := tb_t (List.mem_of_getElem? (i := 688) (by decide +kernel)) (by decide +kernel)
theorem ks_At_isDrawn : Cond.selects "ChanceGame$Attraction" y_At_isDrawn y_At_isDrawn ∈ tb := tb_s (q := (y_At_isDrawn, 2)) (List.mem_of_getElem? (i := 18) (by decide +kernel))
theorem e_At_drawnTo : cg_E y_At_drawnTo b_At_drawnTo 6 (some .int) 2 := ⟨tb_t (List.mem_of_getElem? (i := 684) (by decide +kernel)) (by decide +kernel), kn_At, by decide, by decide, by decide +kernel⟩
theorem ki_At_drawnTo : Cond.instanceMethod y_At_drawnTo ∈ tb := tb_t (List.mem_of_getElem? (i := 682) (by decide +kernel)) (by decide +kernel)
theorem ks_At_drawnTo : Cond.selects "ChanceGame$Attraction" y_At_drawnTo y_At_drawnTo ∈ tb := tb_t (List.mem_of_getElem? (i := 683) (by decide +kernel)) (by decide +kernel)
theorem e_CG_firstBit : cg_E y_CG_firstBit b_CG_firstBit 2 (some .int) 1 := ⟨tb_t (List.mem_of_getElem? (i := 702) (by decide +kernel)) (by decide +kernel), kn_CG, by decide, by decide, by decide +kernel⟩
theorem kt_CG_firstBit : Cond.static y_CG_firstBit ∈ tb := tb_t (List.mem_of_getElem? (i := 701) (by decide +kernel)) (by decide +kernel)
theorem e_Va_chooseFirst : cg_E y_Va_chooseFirst b_Va_chooseFirst 2 none 0 := ⟨tb_t (List.mem_of_getElem? (i := 679) (by decide +kernel)) (by decide +kernel), kn_Va, by decide, by decide, by decide +kernel⟩
theorem ki_Va_chooseFirst : Cond.instanceMethod y_Va_chooseFirst ∈ tb := tb_t (List.mem_of_getElem? (i := 678) (by decide +kernel)) (by decide +kernel)
theorem ks_Va_chooseFirst : Cond.selects "ChanceGame$Values" y_Va_chooseFirst y_Va_chooseFirst ∈ tb := tb_s (q := (y_Va_chooseFirst, 7)) (List.mem_of_getElem? (i := 17) (by decide +kernel))
theorem e_Eq_clear : cg_E y_Eq_clear b_Eq_clear 3 none 0 := ⟨tb_t (List.mem_of_getElem? (i := 711) (by decide +kernel)) (by decide +kernel), kn_Eq, by decide, by decide, by decide +kernel⟩
theorem ki_Eq_clear : Cond.instanceMethod y_Eq_clear ∈ tb := tb_t (List.mem_of_getElem? (i := 709) (by decide +kernel)) (by decide +kernel)
theorem ks_Eq_clear : Cond.selects "ChanceGame$Equations" y_Eq_clear y_Eq_clear ∈ tb := tb_t (List.mem_of_getElem? (i := 710) (by decide +kernel)) (by decide +kernel)
theorem e_Va_isOpen : cg_E y_Va_isOpen b_Va_isOpen 2 (some .boolean) 1 := ⟨tb_t (List.mem_of_getElem? (i := 715) (by decide +kernel)) (by decide +kernel), kn_Va, by decide, by decide, by decide +kernel⟩
theorem ki_Va_isOpen : Cond.instanceMethod y_Va_isOpen ∈ tb := tb_t (List.mem_of_getElem? (i := 714) (by decide +kernel)) (by decide +kernel)
theorem ks_Va_isOpen : Cond.selects "ChanceGame$Values" y_Va_isOpen y_Va_isOpen ∈ tb := tb_s (q := (y_Va_isOpen, 7)) (List.mem_of_getElem? (i := 22) (by decide +kernel))
theorem e_Fo_next : cg_E y_Fo_next b_Fo_next 4 (some .int) 3 := ⟨tb_t (List.mem_of_getElem? (i := 425) (by decide +kernel)) (by decide +kernel), kn_Fo, by decide, by decide, by decide +kernel⟩
theorem ki_Fo_next : Cond.instanceMethod y_Fo_next ∈ tb := tb_t (List.mem_of_getElem? (i := 423) (by decide +kernel)) (by decide +kernel)
theorem ks_Fo_next : Cond.selects "ChanceGame$Found" y_Fo_next y_Fo_next ∈ tb := tb_t (List.mem_of_getElem? (i := 424) (by decide +kernel)) (by decide +kernel)
theorem e_Va_setEquation : cg_E y_Va_setEquation b_Va_setEquation 6 none 3 := ⟨tb_t (List.mem_of_getElem? (i := 720) (by decide +kernel)) (by decide +kernel), kn_Va, by decide, by decide, by decide +kernel⟩
theorem ki_Va_setEquation : Cond.instanceMethod y_Va_setEquation ∈ tb := tb_t (List.mem_of_getElem? (i := 719) (by decide +kernel)) (by decide +kernel)
theorem ks_Va_setEquation : Cond.selects "ChanceGame$Values" y_Va_setEquation y_Va_setEquation ∈ tb := tb_s (q := (y_Va_setEquation, 7)) (List.mem_of_getElem? (i := 23) (by decide +kernel))
theorem e_Va_setEquations : cg_E y_Va_setEquations b_Va_setEquations 2 none 0 := ⟨tb_t (List.mem_of_getElem? (i := 707) (by decide +kernel)) (by decide +kernel), kn_Va, by decide, by decide, by decide +kernel⟩
theorem ki_Va_setEquations : Cond.instanceMethod y_Va_setEquations ∈ tb := tb_t (List.mem_of_getElem? (i := 706) (by decide +kernel)) (by decide +kernel)
theorem ks_Va_setEquations : Cond.selects "ChanceGame$Values" y_Va_setEquations y_Va_setEquations ∈ tb := tb_s (q := (y_Va_setEquations, 7)) (List.mem_of_getElem? (i := 21) (by decide +kernel))
theorem e_Eq_eliminate : cg_E y_Eq_eliminate b_Eq_eliminate 9 none 3 := ⟨tb_t (List.mem_of_getElem? (i := 729) (by decide +kernel)) (by decide +kernel), kn_Eq, by decide, by decide, by decide +kernel⟩
theorem ki_Eq_eliminate : Cond.instanceMethod y_Eq_eliminate ∈ tb := tb_t (List.mem_of_getElem? (i := 728) (by decide +kernel)) (by decide +kernel)
theorem ks_Eq_eliminate : Cond.selects "ChanceGame$Equations" y_Eq_eliminate y_Eq_eliminate ∈ tb := tb_s (q := (y_Eq_eliminate, 3)) (List.mem_of_getElem? (i := 24) (by decide +kernel))
theorem e_Eq_solveFor : cg_E y_Eq_solveFor b_Eq_solveFor 6 none 1 := ⟨tb_t (List.mem_of_getElem? (i := 725) (by decide +kernel)) (by decide +kernel), kn_Eq, by decide, by decide, by decide +kernel⟩
theorem ki_Eq_solveFor : Cond.instanceMethod y_Eq_solveFor ∈ tb := tb_t (List.mem_of_getElem? (i := 723) (by decide +kernel)) (by decide +kernel)
theorem ks_Eq_solveFor : Cond.selects "ChanceGame$Equations" y_Eq_solveFor y_Eq_solveFor ∈ tb := tb_t (List.mem_of_getElem? (i := 724) (by decide +kernel)) (by decide +kernel)
theorem e_Va_weigh : cg_E y_Va_weigh b_Va_weigh 7 (some .long) 2 := ⟨tb_t (List.mem_of_getElem? (i := 741) (by decide +kernel)) (by decide +kernel), kn_Va, by decide, by decide, by decide +kernel⟩
theorem ki_Va_weigh : Cond.instanceMethod y_Va_weigh ∈ tb := tb_t (List.mem_of_getElem? (i := 740) (by decide +kernel)) (by decide +kernel)
theorem ks_Va_weigh : Cond.selects "ChanceGame$Values" y_Va_weigh y_Va_weigh ∈ tb := tb_s (q := (y_Va_weigh, 7)) (List.mem_of_getElem? (i := 27) (by decide +kernel))
theorem e_Va_bestChoice : cg_E y_Va_bestChoice b_Va_bestChoice 11 (some .int) 2 := ⟨tb_t (List.mem_of_getElem? (i := 737) (by decide +kernel)) (by decide +kernel), kn_Va, by decide, by decide, by decide +kernel⟩
theorem ki_Va_bestChoice : Cond.instanceMethod y_Va_bestChoice ∈ tb := tb_t (List.mem_of_getElem? (i := 736) (by decide +kernel)) (by decide +kernel)
theorem ks_Va_bestChoice : Cond.selects "ChanceGame$Values" y_Va_bestChoice y_Va_bestChoice ∈ tb := tb_s (q := (y_Va_bestChoice, 7)) (List.mem_of_getElem? (i := 26) (by decide +kernel))
theorem e_Va_improve : cg_E y_Va_improve b_Va_improve 5 (some .boolean) 1 := ⟨tb_t (List.mem_of_getElem? (i := 733) (by decide +kernel)) (by decide +kernel), kn_Va, by decide, by decide, by decide +kernel⟩
theorem ki_Va_improve : Cond.instanceMethod y_Va_improve ∈ tb := tb_t (List.mem_of_getElem? (i := 732) (by decide +kernel)) (by decide +kernel)
theorem ks_Va_improve : Cond.selects "ChanceGame$Values" y_Va_improve y_Va_improve ∈ tb := tb_s (q := (y_Va_improve, 7)) (List.mem_of_getElem? (i := 25) (by decide +kernel))
theorem e_Va_commonDivisor : cg_E y_Va_commonDivisor b_Va_commonDivisor 11 (some .long) 2 := ⟨tb_t (List.mem_of_getElem? (i := 744) (by decide +kernel)) (by decide +kernel), kn_Va, by decide, by decide, by decide +kernel⟩
theorem kt_Va_commonDivisor : Cond.static y_Va_commonDivisor ∈ tb := tb_t (List.mem_of_getElem? (i := 743) (by decide +kernel)) (by decide +kernel)
theorem e_Va_compute : cg_E y_Va_compute b_Va_compute 5 none 0 := ⟨tb_t (List.mem_of_getElem? (i := 675) (by decide +kernel)) (by decide +kernel), kn_Va, by decide, by decide, by decide +kernel⟩
theorem ki_Va_compute : Cond.instanceMethod y_Va_compute ∈ tb := tb_t (List.mem_of_getElem? (i := 673) (by decide +kernel)) (by decide +kernel)
theorem ks_Va_compute : Cond.selects "ChanceGame$Values" y_Va_compute y_Va_compute ∈ tb := tb_t (List.mem_of_getElem? (i := 674) (by decide +kernel)) (by decide +kernel)
theorem e_Va_isTight : cg_E y_Va_isTight b_Va_isTight 3 (some .boolean) 2 := ⟨tb_t (List.mem_of_getElem? (i := 757) (by decide +kernel)) (by decide +kernel), kn_Va, by decide, by decide, by decide +kernel⟩
theorem ki_Va_isTight : Cond.instanceMethod y_Va_isTight ∈ tb := tb_t (List.mem_of_getElem? (i := 755) (by decide +kernel)) (by decide +kernel)
theorem ks_Va_isTight : Cond.selects "ChanceGame$Values" y_Va_isTight y_Va_isTight ∈ tb := tb_t (List.mem_of_getElem? (i := 756) (by decide +kernel)) (by decide +kernel)
theorem e_Go_tightChoices : cg_E y_Go_tightChoices b_Go_tightChoices 5 (some .int) 3 := ⟨tb_t (List.mem_of_getElem? (i := 751) (by decide +kernel)) (by decide +kernel), kn_Go, by decide, by decide, by decide +kernel⟩
theorem kt_Go_tightChoices : Cond.static y_Go_tightChoices ∈ tb := tb_t (List.mem_of_getElem? (i := 750) (by decide +kernel)) (by decide +kernel)
theorem e_Go_chooseForMax : cg_E y_Go_chooseForMax b_Go_chooseForMax 7 none 3 := ⟨tb_t (List.mem_of_getElem? (i := 762) (by decide +kernel)) (by decide +kernel), kn_Go, by decide, by decide, by decide +kernel⟩
theorem ki_Go_chooseForMax : Cond.instanceMethod y_Go_chooseForMax ∈ tb := tb_t (List.mem_of_getElem? (i := 761) (by decide +kernel)) (by decide +kernel)
theorem ks_Go_chooseForMax : Cond.selects "ChanceGame$GoodChoices" y_Go_chooseForMax y_Go_chooseForMax ∈ tb := tb_s (q := (y_Go_chooseForMax, 2)) (List.mem_of_getElem? (i := 28) (by decide +kernel))
theorem e_Go_choose : cg_E y_Go_choose b_Go_choose 6 none 2 := ⟨tb_t (List.mem_of_getElem? (i := 748) (by decide +kernel)) (by decide +kernel), kn_Go, by decide, by decide, by decide +kernel⟩
theorem ki_Go_choose : Cond.instanceMethod y_Go_choose ∈ tb := tb_t (List.mem_of_getElem? (i := 746) (by decide +kernel)) (by decide +kernel)
theorem ks_Go_choose : Cond.selects "ChanceGame$GoodChoices" y_Go_choose y_Go_choose ∈ tb := tb_t (List.mem_of_getElem? (i := 747) (by decide +kernel)) (by decide +kernel)
theorem e_CG_solve : cg_E y_CG_solve b_CG_solve 2 (some .int) 0 := ⟨tb_t (List.mem_of_getElem? (i := 596) (by decide +kernel)) (by decide +kernel), kn_CG, by decide, by decide, by decide +kernel⟩
theorem ki_CG_solve : Cond.instanceMethod y_CG_solve ∈ tb := tb_t (List.mem_of_getElem? (i := 594) (by decide +kernel)) (by decide +kernel)
theorem ks_CG_solve : Cond.selects "ChanceGame" y_CG_solve y_CG_solve ∈ tb := tb_t (List.mem_of_getElem? (i := 595) (by decide +kernel)) (by decide +kernel)
theorem e_CG_states : cg_E y_CG_states b_CG_states 1 (some .int) 0 := ⟨tb_t (List.mem_of_getElem? (i := 378) (by decide +kernel)) (by decide +kernel), kn_CG, by decide, by decide, by decide +kernel⟩
theorem ki_CG_states : Cond.instanceMethod y_CG_states ∈ tb := tb_t (List.mem_of_getElem? (i := 376) (by decide +kernel)) (by decide +kernel)
theorem ks_CG_states : Cond.selects "ChanceGame" y_CG_states y_CG_states ∈ tb := tb_t (List.mem_of_getElem? (i := 377) (by decide +kernel)) (by decide +kernel)
theorem e_CG_mixed : cg_E y_CG_mixed b_CG_mixed 1 (some .int) 0 := ⟨tb_t (List.mem_of_getElem? (i := 382) (by decide +kernel)) (by decide +kernel), kn_CG, by decide, by decide, by decide +kernel⟩
theorem ki_CG_mixed : Cond.instanceMethod y_CG_mixed ∈ tb := tb_t (List.mem_of_getElem? (i := 380) (by decide +kernel)) (by decide +kernel)
theorem ks_CG_mixed : Cond.selects "ChanceGame" y_CG_mixed y_CG_mixed ∈ tb := tb_t (List.mem_of_getElem? (i := 381) (by decide +kernel)) (by decide +kernel)
theorem e_Fo_has : cg_E y_Fo_has b_Fo_has 2 (some .boolean) 1 := ⟨tb_t (List.mem_of_getElem? (i := 390) (by decide +kernel)) (by decide +kernel), kn_Fo, by decide, by decide, by decide +kernel⟩
theorem ki_Fo_has : Cond.instanceMethod y_Fo_has ∈ tb := tb_t (List.mem_of_getElem? (i := 388) (by decide +kernel)) (by decide +kernel)
theorem ks_Fo_has : Cond.selects "ChanceGame$Found" y_Fo_has y_Fo_has ∈ tb := tb_t (List.mem_of_getElem? (i := 389) (by decide +kernel)) (by decide +kernel)
theorem e_CG_variable : cg_E y_CG_variable b_CG_variable 3 (some .int) 2 := ⟨tb_t (List.mem_of_getElem? (i := 386) (by decide +kernel)) (by decide +kernel), kn_CG, by decide, by decide, by decide +kernel⟩
theorem ki_CG_variable : Cond.instanceMethod y_CG_variable ∈ tb := tb_t (List.mem_of_getElem? (i := 384) (by decide +kernel)) (by decide +kernel)
theorem ks_CG_variable : Cond.selects "ChanceGame" y_CG_variable y_CG_variable ∈ tb := tb_t (List.mem_of_getElem? (i := 385) (by decide +kernel)) (by decide +kernel)
theorem e_CG_target : cg_E y_CG_target b_CG_target 2 (some .boolean) 1 := ⟨tb_t (List.mem_of_getElem? (i := 398) (by decide +kernel)) (by decide +kernel), kn_CG, by decide, by decide, by decide +kernel⟩
theorem ki_CG_target : Cond.instanceMethod y_CG_target ∈ tb := tb_t (List.mem_of_getElem? (i := 396) (by decide +kernel)) (by decide +kernel)
theorem ks_CG_target : Cond.selects "ChanceGame" y_CG_target y_CG_target ∈ tb := tb_t (List.mem_of_getElem? (i := 397) (by decide +kernel)) (by decide +kernel)
theorem e_CG_owner : cg_E y_CG_owner b_CG_owner 2 (some .int) 1 := ⟨tb_t (List.mem_of_getElem? (i := 405) (by decide +kernel)) (by decide +kernel), kn_CG, by decide, by decide, by decide +kernel⟩
theorem ki_CG_owner : Cond.instanceMethod y_CG_owner ∈ tb := tb_t (List.mem_of_getElem? (i := 403) (by decide +kernel)) (by decide +kernel)
theorem ks_CG_owner : Cond.selects "ChanceGame" y_CG_owner y_CG_owner ∈ tb := tb_t (List.mem_of_getElem? (i := 404) (by decide +kernel)) (by decide +kernel)
theorem e_CG_choice : cg_E y_CG_choice b_CG_choice 6 (some .int) 2 := ⟨tb_t (List.mem_of_getElem? (i := 417) (by decide +kernel)) (by decide +kernel), kn_CG, by decide, by decide, by decide +kernel⟩
theorem ki_CG_choice : Cond.instanceMethod y_CG_choice ∈ tb := tb_t (List.mem_of_getElem? (i := 415) (by decide +kernel)) (by decide +kernel)
theorem ks_CG_choice : Cond.selects "ChanceGame" y_CG_choice y_CG_choice ∈ tb := tb_t (List.mem_of_getElem? (i := 416) (by decide +kernel)) (by decide +kernel)
theorem e_CG_branch : cg_E y_CG_branch b_CG_branch 6 (some .int) 3 := ⟨tb_t (List.mem_of_getElem? (i := 421) (by decide +kernel)) (by decide +kernel), kn_CG, by decide, by decide, by decide +kernel⟩
theorem ki_CG_branch : Cond.instanceMethod y_CG_branch ∈ tb := tb_t (List.mem_of_getElem? (i := 419) (by decide +kernel)) (by decide +kernel)
theorem ks_CG_branch : Cond.selects "ChanceGame" y_CG_branch y_CG_branch ∈ tb := tb_t (List.mem_of_getElem? (i := 420) (by decide +kernel)) (by decide +kernel)
theorem e_CG_checkValueOf : cg_E y_CG_checkValueOf b_CG_checkValueOf 2 none 1 := ⟨tb_t (List.mem_of_getElem? (i := 776) (by decide +kernel)) (by decide +kernel), kn_CG, by decide, by decide, by decide +kernel⟩
theorem ki_CG_checkValueOf : Cond.instanceMethod y_CG_checkValueOf ∈ tb := tb_t (List.mem_of_getElem? (i := 775) (by decide +kernel)) (by decide +kernel)
theorem ks_CG_checkValueOf : Cond.selects "ChanceGame" y_CG_checkValueOf y_CG_checkValueOf ∈ tb := tb_s (q := (y_CG_checkValueOf, 7)) (List.mem_of_getElem? (i := 29) (by decide +kernel))
theorem e_CG_upper : cg_E y_CG_upper b_CG_upper 2 (some .long) 1 := ⟨tb_t (List.mem_of_getElem? (i := 772) (by decide +kernel)) (by decide +kernel), kn_CG, by decide, by decide, by decide +kernel⟩
theorem ki_CG_upper : Cond.instanceMethod y_CG_upper ∈ tb := tb_t (List.mem_of_getElem? (i := 770) (by decide +kernel)) (by decide +kernel)
theorem ks_CG_upper : Cond.selects "ChanceGame" y_CG_upper y_CG_upper ∈ tb := tb_t (List.mem_of_getElem? (i := 771) (by decide +kernel)) (by decide +kernel)
theorem e_CG_lower : cg_E y_CG_lower b_CG_lower 2 (some .long) 1 := ⟨tb_t (List.mem_of_getElem? (i := 800) (by decide +kernel)) (by decide +kernel), kn_CG, by decide, by decide, by decide +kernel⟩
theorem ki_CG_lower : Cond.instanceMethod y_CG_lower ∈ tb := tb_t (List.mem_of_getElem? (i := 798) (by decide +kernel)) (by decide +kernel)
theorem ks_CG_lower : Cond.selects "ChanceGame" y_CG_lower y_CG_lower ∈ tb := tb_t (List.mem_of_getElem? (i := 799) (by decide +kernel)) (by decide +kernel)
theorem e_CG_good : cg_E y_CG_good b_CG_good 2 (some .int) 1 := ⟨tb_t (List.mem_of_getElem? (i := 807) (by decide +kernel)) (by decide +kernel), kn_CG, by decide, by decide, by decide +kernel⟩
theorem ki_CG_good : Cond.instanceMethod y_CG_good ∈ tb := tb_t (List.mem_of_getElem? (i := 805) (by decide +kernel)) (by decide +kernel)
theorem ks_CG_good : Cond.selects "ChanceGame" y_CG_good y_CG_good ∈ tb := tb_t (List.mem_of_getElem? (i := 806) (by decide +kernel)) (by decide +kernel)
theorem e_Mo_refuse : cg_E y_Mo_refuse b_Mo_refuse 2 (some .int) 1 := ⟨tb_t (List.mem_of_getElem? (i := 1030) (by decide +kernel)) (by decide +kernel), kn_Mo, by decide, by decide, by decide +kernel⟩
theorem ki_Mo_refuse : Cond.instanceMethod y_Mo_refuse ∈ tb := tb_t (List.mem_of_getElem? (i := 1029) (by decide +kernel)) (by decide +kernel)
theorem ks_Mo_refuse : Cond.selects "ChanceGameModel" y_Mo_refuse y_Mo_refuse ∈ tb := tb_s (q := (y_Mo_refuse, 42)) (List.mem_of_getElem? (i := 46) (by decide +kernel))
theorem e_Mo_within : cg_E y_Mo_within b_Mo_within 3 (some .boolean) 3 := ⟨tb_t (List.mem_of_getElem? (i := 948) (by decide +kernel)) (by decide +kernel), kn_Mo, by decide, by decide, by decide +kernel⟩
theorem kt_Mo_within : Cond.static y_Mo_within ∈ tb := tb_t (List.mem_of_getElem? (i := 947) (by decide +kernel)) (by decide +kernel)
theorem e_Mo_type : cg_E y_Mo_type b_Mo_type 7 (some .int) 2 := ⟨tb_t (List.mem_of_getElem? (i := 945) (by decide +kernel)) (by decide +kernel), kn_Mo, by decide, by decide, by decide +kernel⟩
theorem ki_Mo_type : Cond.instanceMethod y_Mo_type ∈ tb := tb_t (List.mem_of_getElem? (i := 943) (by decide +kernel)) (by decide +kernel)
theorem ks_Mo_type : Cond.selects "ChanceGameModel" y_Mo_type y_Mo_type ∈ tb := tb_t (List.mem_of_getElem? (i := 944) (by decide +kernel)) (by decide +kernel)
theorem e_Mo_wipe : cg_E y_Mo_wipe b_Mo_wipe 2 (some .int) 0 := ⟨tb_t (List.mem_of_getElem? (i := 955) (by decide +kernel)) (by decide +kernel), kn_Mo, by decide, by decide, by decide +kernel⟩
theorem ki_Mo_wipe : Cond.instanceMethod y_Mo_wipe ∈ tb := tb_t (List.mem_of_getElem? (i := 953) (by decide +kernel)) (by decide +kernel)
theorem ks_Mo_wipe : Cond.selects "ChanceGameModel" y_Mo_wipe y_Mo_wipe ∈ tb := tb_t (List.mem_of_getElem? (i := 954) (by decide +kernel)) (by decide +kernel)
theorem e_Mo_here : cg_E y_Mo_here b_Mo_here 1 (some .int) 0 := ⟨tb_t (List.mem_of_getElem? (i := 971) (by decide +kernel)) (by decide +kernel), kn_Mo, by decide, by decide, by decide +kernel⟩
theorem ki_Mo_here : Cond.instanceMethod y_Mo_here ∈ tb := tb_t (List.mem_of_getElem? (i := 970) (by decide +kernel)) (by decide +kernel)
theorem ks_Mo_here : Cond.selects "ChanceGameModel" y_Mo_here y_Mo_here ∈ tb := tb_s (q := (y_Mo_here, 42)) (List.mem_of_getElem? (i := 32) (by decide +kernel))
theorem e_Mo_fail : cg_E y_Mo_fail b_Mo_fail 2 (some .boolean) 1 := ⟨tb_t (List.mem_of_getElem? (i := 979) (by decide +kernel)) (by decide +kernel), kn_Mo, by decide, by decide, by decide +kernel⟩
theorem ki_Mo_fail : Cond.instanceMethod y_Mo_fail ∈ tb := tb_t (List.mem_of_getElem? (i := 978) (by decide +kernel)) (by decide +kernel)
theorem ks_Mo_fail : Cond.selects "ChanceGameModel" y_Mo_fail y_Mo_fail ∈ tb := tb_s (q := (y_Mo_fail, 42)) (List.mem_of_getElem? (i := 34) (by decide +kernel))
theorem e_Mo_want : cg_E y_Mo_want b_Mo_want 2 (some .boolean) 1 := ⟨tb_t (List.mem_of_getElem? (i := 991) (by decide +kernel)) (by decide +kernel), kn_Mo, by decide, by decide, by decide +kernel⟩
theorem ki_Mo_want : Cond.instanceMethod y_Mo_want ∈ tb := tb_t (List.mem_of_getElem? (i := 990) (by decide +kernel)) (by decide +kernel)
theorem ks_Mo_want : Cond.selects "ChanceGameModel" y_Mo_want y_Mo_want ∈ tb := tb_s (q := (y_Mo_want, 42)) (List.mem_of_getElem? (i := 37) (by decide +kernel))
theorem e_Mo_isDigit : cg_E y_Mo_isDigit b_Mo_isDigit 1 (some .boolean) 0 := ⟨tb_t (List.mem_of_getElem? (i := 987) (by decide +kernel)) (by decide +kernel), kn_Mo, by decide, by decide, by decide +kernel⟩
theorem ki_Mo_isDigit : Cond.instanceMethod y_Mo_isDigit ∈ tb := tb_t (List.mem_of_getElem? (i := 986) (by decide +kernel)) (by decide +kernel)
theorem ks_Mo_isDigit : Cond.selects "ChanceGameModel" y_Mo_isDigit y_Mo_isDigit ∈ tb := tb_s (q := (y_Mo_isDigit, 42)) (List.mem_of_getElem? (i := 36) (by decide +kernel))
theorem e_Mo_isName : cg_E y_Mo_isName b_Mo_isName 1 (some .boolean) 0 := ⟨tb_t (List.mem_of_getElem? (i := 967) (by decide +kernel)) (by decide +kernel), kn_Mo, by decide, by decide, by decide +kernel⟩
theorem ki_Mo_isName : Cond.instanceMethod y_Mo_isName ∈ tb := tb_t (List.mem_of_getElem? (i := 966) (by decide +kernel)) (by decide +kernel)
theorem ks_Mo_isName : Cond.selects "ChanceGameModel" y_Mo_isName y_Mo_isName ∈ tb := tb_s (q := (y_Mo_isName, 42)) (List.mem_of_getElem? (i := 31) (by decide +kernel))
theorem e_Mo_readNumber : cg_E y_Mo_readNumber b_Mo_readNumber 5 (some .boolean) 2 := ⟨tb_t (List.mem_of_getElem? (i := 983) (by decide +kernel)) (by decide +kernel), kn_Mo, by decide, by decide, by decide +kernel⟩
theorem ki_Mo_readNumber : Cond.instanceMethod y_Mo_readNumber ∈ tb := tb_t (List.mem_of_getElem? (i := 982) (by decide +kernel)) (by decide +kernel)
theorem ks_Mo_readNumber : Cond.selects "ChanceGameModel" y_Mo_readNumber y_Mo_readNumber ∈ tb := tb_s (q := (y_Mo_readNumber, 42)) (List.mem_of_getElem? (i := 35) (by decide +kernel))
theorem e_Mo_isKnown : cg_E y_Mo_isKnown b_Mo_isKnown 1 (some .boolean) 0 := ⟨tb_t (List.mem_of_getElem? (i := 1015) (by decide +kernel)) (by decide +kernel), kn_Mo, by decide, by decide, by decide +kernel⟩
theorem ki_Mo_isKnown : Cond.instanceMethod y_Mo_isKnown ∈ tb := tb_t (List.mem_of_getElem? (i := 1014) (by decide +kernel)) (by decide +kernel)
theorem ks_Mo_isKnown : Cond.selects "ChanceGameModel" y_Mo_isKnown y_Mo_isKnown ∈ tb := tb_s (q := (y_Mo_isKnown, 42)) (List.mem_of_getElem? (i := 43) (by decide +kernel))
theorem e_Mo_declare : cg_E y_Mo_declare b_Mo_declare 2 (some .boolean) 0 := ⟨tb_t (List.mem_of_getElem? (i := 975) (by decide +kernel)) (by decide +kernel), kn_Mo, by decide, by decide, by decide +kernel⟩
theorem ki_Mo_declare : Cond.instanceMethod y_Mo_declare ∈ tb := tb_t (List.mem_of_getElem? (i := 974) (by decide +kernel)) (by decide +kernel)
theorem ks_Mo_declare : Cond.selects "ChanceGameModel" y_Mo_declare y_Mo_declare ∈ tb := tb_s (q := (y_Mo_declare, 42)) (List.mem_of_getElem? (i := 33) (by decide +kernel))
theorem e_Mo_readItem : cg_E y_Mo_readItem b_Mo_readItem 4 (some .boolean) 2 := ⟨tb_t (List.mem_of_getElem? (i := 1011) (by decide +kernel)) (by decide +kernel), kn_Mo, by decide, by decide, by decide +kernel⟩
theorem ki_Mo_readItem : Cond.instanceMethod y_Mo_readItem ∈ tb := tb_t (List.mem_of_getElem? (i := 1010) (by decide +kernel)) (by decide +kernel)
theorem ks_Mo_readItem : Cond.selects "ChanceGameModel" y_Mo_readItem y_Mo_readItem ∈ tb := tb_s (q := (y_Mo_readItem, 42)) (List.mem_of_getElem? (i := 42) (by decide +kernel))
theorem e_Mo_readSum : cg_E y_Mo_readSum b_Mo_readSum 3 (some .boolean) 1 := ⟨tb_t (List.mem_of_getElem? (i := 1007) (by decide +kernel)) (by decide +kernel), kn_Mo, by decide, by decide, by decide +kernel⟩
theorem ki_Mo_readSum : Cond.instanceMethod y_Mo_readSum ∈ tb := tb_t (List.mem_of_getElem? (i := 1006) (by decide +kernel)) (by decide +kernel)
theorem ks_Mo_readSum : Cond.selects "ChanceGameModel" y_Mo_readSum y_Mo_readSum ∈ tb := tb_s (q := (y_Mo_readSum, 42)) (List.mem_of_getElem? (i := 41) (by decide +kernel))
