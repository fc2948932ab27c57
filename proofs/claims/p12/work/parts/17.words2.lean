theorem e_Mo_readTest : cg_E y_Mo_readTest b_Mo_readTest 5 (some .boolean) 2 := ⟨tb_t (List.mem_of_getElem? (i := 1003) (by decide +kernel)) (by decide +kernel), kn_Mo, by decide, by decide, by decide +kernel⟩
theorem ki_Mo_readTest : Cond.instanceMethod y_Mo_readTest ∈ tb := tb_t (List.mem_of_getElem? (i := 1002) (by decide +kernel)) (by decide +kernel)
theorem ks_Mo_readTest : Cond.selects "ChanceGameModel" y_Mo_readTest y_Mo_readTest ∈ tb := tb_s (q := (y_Mo_readTest, 42)) (List.mem_of_getElem? (i := 40) (by decide +kernel))
theorem e_Mo_readGuard : cg_E y_Mo_readGuard b_Mo_readGuard 3 (some .boolean) 1 := ⟨tb_t (List.mem_of_getElem? (i := 999) (by decide +kernel)) (by decide +kernel), kn_Mo, by decide, by decide, by decide +kernel⟩
theorem ki_Mo_readGuard : Cond.instanceMethod y_Mo_readGuard ∈ tb := tb_t (List.mem_of_getElem? (i := 998) (by decide +kernel)) (by decide +kernel)
theorem ks_Mo_readGuard : Cond.selects "ChanceGameModel" y_Mo_readGuard y_Mo_readGuard ∈ tb := tb_s (q := (y_Mo_readGuard, 42)) (List.mem_of_getElem? (i := 39) (by decide +kernel))
theorem e_Mo_updateAt : cg_E y_Mo_updateAt b_Mo_updateAt 4 (some .int) 4 := ⟨tb_t (List.mem_of_getElem? (i := 1022) (by decide +kernel)) (by decide +kernel), kn_Mo, by decide, by decide, by decide +kernel⟩
theorem kt_Mo_updateAt : Cond.static y_Mo_updateAt ∈ tb := tb_t (List.mem_of_getElem? (i := 1021) (by decide +kernel)) (by decide +kernel)
theorem e_Mo_readUpdate : cg_E y_Mo_readUpdate b_Mo_readUpdate 5 (some .boolean) 2 := ⟨tb_t (List.mem_of_getElem? (i := 1026) (by decide +kernel)) (by decide +kernel), kn_Mo, by decide, by decide, by decide +kernel⟩
theorem ki_Mo_readUpdate : Cond.instanceMethod y_Mo_readUpdate ∈ tb := tb_t (List.mem_of_getElem? (i := 1025) (by decide +kernel)) (by decide +kernel)
theorem ks_Mo_readUpdate : Cond.selects "ChanceGameModel" y_Mo_readUpdate y_Mo_readUpdate ∈ tb := tb_s (q := (y_Mo_readUpdate, 42)) (List.mem_of_getElem? (i := 45) (by decide +kernel))
theorem e_Mo_readBranch : cg_E y_Mo_readBranch b_Mo_readBranch 5 (some .boolean) 1 := ⟨tb_t (List.mem_of_getElem? (i := 1019) (by decide +kernel)) (by decide +kernel), kn_Mo, by decide, by decide, by decide +kernel⟩
theorem ki_Mo_readBranch : Cond.instanceMethod y_Mo_readBranch ∈ tb := tb_t (List.mem_of_getElem? (i := 1018) (by decide +kernel)) (by decide +kernel)
theorem ks_Mo_readBranch : Cond.selects "ChanceGameModel" y_Mo_readBranch y_Mo_readBranch ∈ tb := tb_s (q := (y_Mo_readBranch, 42)) (List.mem_of_getElem? (i := 44) (by decide +kernel))
theorem e_Mo_readCommand : cg_E y_Mo_readCommand b_Mo_readCommand 3 (some .boolean) 0 := ⟨tb_t (List.mem_of_getElem? (i := 995) (by decide +kernel)) (by decide +kernel), kn_Mo, by decide, by decide, by decide +kernel⟩
theorem ki_Mo_readCommand : Cond.instanceMethod y_Mo_readCommand ∈ tb := tb_t (List.mem_of_getElem? (i := 994) (by decide +kernel)) (by decide +kernel)
theorem ks_Mo_readCommand : Cond.selects "ChanceGameModel" y_Mo_readCommand y_Mo_readCommand ∈ tb := tb_s (q := (y_Mo_readCommand, 42)) (List.mem_of_getElem? (i := 38) (by decide +kernel))
theorem e_Mo_readAll : cg_E y_Mo_readAll b_Mo_readAll 2 (some .boolean) 0 := ⟨tb_t (List.mem_of_getElem? (i := 963) (by decide +kernel)) (by decide +kernel), kn_Mo, by decide, by decide, by decide +kernel⟩
theorem ki_Mo_readAll : Cond.instanceMethod y_Mo_readAll ∈ tb := tb_t (List.mem_of_getElem? (i := 962) (by decide +kernel)) (by decide +kernel)
theorem ks_Mo_readAll : Cond.selects "ChanceGameModel" y_Mo_readAll y_Mo_readAll ∈ tb := tb_s (q := (y_Mo_readAll, 42)) (List.mem_of_getElem? (i := 30) (by decide +kernel))
theorem e_Mo_read : cg_E y_Mo_read b_Mo_read 1 (some .int) 0 := ⟨tb_t (List.mem_of_getElem? (i := 959) (by decide +kernel)) (by decide +kernel), kn_Mo, by decide, by decide, by decide +kernel⟩
theorem ki_Mo_read : Cond.instanceMethod y_Mo_read ∈ tb := tb_t (List.mem_of_getElem? (i := 957) (by decide +kernel)) (by decide +kernel)
theorem ks_Mo_read : Cond.selects "ChanceGameModel" y_Mo_read y_Mo_read ∈ tb := tb_t (List.mem_of_getElem? (i := 958) (by decide +kernel)) (by decide +kernel)
theorem e_Mo_place : cg_E y_Mo_place b_Mo_place 1 (some .int) 0 := ⟨tb_t (List.mem_of_getElem? (i := 1034) (by decide +kernel)) (by decide +kernel), kn_Mo, by decide, by decide, by decide +kernel⟩
theorem ki_Mo_place : Cond.instanceMethod y_Mo_place ∈ tb := tb_t (List.mem_of_getElem? (i := 1032) (by decide +kernel)) (by decide +kernel)
theorem ks_Mo_place : Cond.selects "ChanceGameModel" y_Mo_place y_Mo_place ∈ tb := tb_t (List.mem_of_getElem? (i := 1033) (by decide +kernel)) (by decide +kernel)
theorem e_Mo_sumIn : cg_E y_Mo_sumIn b_Mo_sumIn 6 (some .int) 2 := ⟨tb_t (List.mem_of_getElem? (i := 1054) (by decide +kernel)) (by decide +kernel), kn_Mo, by decide, by decide, by decide +kernel⟩
theorem ki_Mo_sumIn : Cond.instanceMethod y_Mo_sumIn ∈ tb := tb_t (List.mem_of_getElem? (i := 1053) (by decide +kernel)) (by decide +kernel)
theorem ks_Mo_sumIn : Cond.selects "ChanceGameModel" y_Mo_sumIn y_Mo_sumIn ∈ tb := tb_s (q := (y_Mo_sumIn, 42)) (List.mem_of_getElem? (i := 50) (by decide +kernel))
theorem e_Mo_holds : cg_E y_Mo_holds b_Mo_holds 9 (some .boolean) 2 := ⟨tb_t (List.mem_of_getElem? (i := 1050) (by decide +kernel)) (by decide +kernel), kn_Mo, by decide, by decide, by decide +kernel⟩
theorem ki_Mo_holds : Cond.instanceMethod y_Mo_holds ∈ tb := tb_t (List.mem_of_getElem? (i := 1049) (by decide +kernel)) (by decide +kernel)
theorem ks_Mo_holds : Cond.selects "ChanceGameModel" y_Mo_holds y_Mo_holds ∈ tb := tb_s (q := (y_Mo_holds, 42)) (List.mem_of_getElem? (i := 49) (by decide +kernel))
theorem e_Mo_find : cg_E y_Mo_find b_Mo_find 2 (some .int) 0 := ⟨tb_t (List.mem_of_getElem? (i := 1046) (by decide +kernel)) (by decide +kernel), kn_Mo, by decide, by decide, by decide +kernel⟩
theorem ki_Mo_find : Cond.instanceMethod y_Mo_find ∈ tb := tb_t (List.mem_of_getElem? (i := 1045) (by decide +kernel)) (by decide +kernel)
theorem ks_Mo_find : Cond.selects "ChanceGameModel" y_Mo_find y_Mo_find ∈ tb := tb_s (q := (y_Mo_find, 42)) (List.mem_of_getElem? (i := 48) (by decide +kernel))
theorem e_Mo_enable : cg_E y_Mo_enable b_Mo_enable 4 (some .boolean) 1 := ⟨tb_t (List.mem_of_getElem? (i := 1058) (by decide +kernel)) (by decide +kernel), kn_Mo, by decide, by decide, by decide +kernel⟩
theorem ki_Mo_enable : Cond.instanceMethod y_Mo_enable ∈ tb := tb_t (List.mem_of_getElem? (i := 1057) (by decide +kernel)) (by decide +kernel)
theorem ks_Mo_enable : Cond.selects "ChanceGameModel" y_Mo_enable y_Mo_enable ∈ tb := tb_s (q := (y_Mo_enable, 42)) (List.mem_of_getElem? (i := 51) (by decide +kernel))
theorem e_Mo_takeBranch : cg_E y_Mo_takeBranch b_Mo_takeBranch 8 none 3 := ⟨tb_t (List.mem_of_getElem? (i := 1066) (by decide +kernel)) (by decide +kernel), kn_Mo, by decide, by decide, by decide +kernel⟩
theorem ki_Mo_takeBranch : Cond.instanceMethod y_Mo_takeBranch ∈ tb := tb_t (List.mem_of_getElem? (i := 1065) (by decide +kernel)) (by decide +kernel)
theorem ks_Mo_takeBranch : Cond.selects "ChanceGameModel" y_Mo_takeBranch y_Mo_takeBranch ∈ tb := tb_s (q := (y_Mo_takeBranch, 42)) (List.mem_of_getElem? (i := 53) (by decide +kernel))
theorem e_Mo_follow : cg_E y_Mo_follow b_Mo_follow 6 (some .boolean) 1 := ⟨tb_t (List.mem_of_getElem? (i := 1062) (by decide +kernel)) (by decide +kernel), kn_Mo, by decide, by decide, by decide +kernel⟩
theorem ki_Mo_follow : Cond.instanceMethod y_Mo_follow ∈ tb := tb_t (List.mem_of_getElem? (i := 1061) (by decide +kernel)) (by decide +kernel)
theorem ks_Mo_follow : Cond.selects "ChanceGameModel" y_Mo_follow y_Mo_follow ∈ tb := tb_s (q := (y_Mo_follow, 42)) (List.mem_of_getElem? (i := 52) (by decide +kernel))
theorem e_Mo_explore : cg_E y_Mo_explore b_Mo_explore 2 (some .int) 0 := ⟨tb_t (List.mem_of_getElem? (i := 1042) (by decide +kernel)) (by decide +kernel), kn_Mo, by decide, by decide, by decide +kernel⟩
theorem ki_Mo_explore : Cond.instanceMethod y_Mo_explore ∈ tb := tb_t (List.mem_of_getElem? (i := 1041) (by decide +kernel)) (by decide +kernel)
theorem ks_Mo_explore : Cond.selects "ChanceGameModel" y_Mo_explore y_Mo_explore ∈ tb := tb_s (q := (y_Mo_explore, 42)) (List.mem_of_getElem? (i := 47) (by decide +kernel))
theorem e_Mo_has : cg_E y_Mo_has b_Mo_has 2 (some .boolean) 2 := ⟨tb_t (List.mem_of_getElem? (i := 1077) (by decide +kernel)) (by decide +kernel), kn_Mo, by decide, by decide, by decide +kernel⟩
theorem kt_Mo_has : Cond.static y_Mo_has ∈ tb := tb_t (List.mem_of_getElem? (i := 1076) (by decide +kernel)) (by decide +kernel)
theorem e_Mo_leadsToLost : cg_E y_Mo_leadsToLost b_Mo_leadsToLost 6 (some .boolean) 2 := ⟨tb_t (List.mem_of_getElem? (i := 1089) (by decide +kernel)) (by decide +kernel), kn_Mo, by decide, by decide, by decide +kernel⟩
theorem ki_Mo_leadsToLost : Cond.instanceMethod y_Mo_leadsToLost ∈ tb := tb_t (List.mem_of_getElem? (i := 1088) (by decide +kernel)) (by decide +kernel)
theorem ks_Mo_leadsToLost : Cond.selects "ChanceGameModel" y_Mo_leadsToLost y_Mo_leadsToLost ∈ tb := tb_s (q := (y_Mo_leadsToLost, 42)) (List.mem_of_getElem? (i := 58) (by decide +kernel))
theorem e_Mo_staysLost : cg_E y_Mo_staysLost b_Mo_staysLost 4 (some .boolean) 1 := ⟨tb_t (List.mem_of_getElem? (i := 1085) (by decide +kernel)) (by decide +kernel), kn_Mo, by decide, by decide, by decide +kernel⟩
theorem ki_Mo_staysLost : Cond.instanceMethod y_Mo_staysLost ∈ tb := tb_t (List.mem_of_getElem? (i := 1084) (by decide +kernel)) (by decide +kernel)
theorem ks_Mo_staysLost : Cond.selects "ChanceGameModel" y_Mo_staysLost y_Mo_staysLost ∈ tb := tb_s (q := (y_Mo_staysLost, 42)) (List.mem_of_getElem? (i := 57) (by decide +kernel))
theorem e_Mo_findLost : cg_E y_Mo_findLost b_Mo_findLost 4 none 0 := ⟨tb_t (List.mem_of_getElem? (i := 1081) (by decide +kernel)) (by decide +kernel), kn_Mo, by decide, by decide, by decide +kernel⟩
theorem ki_Mo_findLost : Cond.instanceMethod y_Mo_findLost ∈ tb := tb_t (List.mem_of_getElem? (i := 1080) (by decide +kernel)) (by decide +kernel)
theorem ks_Mo_findLost : Cond.selects "ChanceGameModel" y_Mo_findLost y_Mo_findLost ∈ tb := tb_s (q := (y_Mo_findLost, 42)) (List.mem_of_getElem? (i := 56) (by decide +kernel))
theorem e_Mo_equations : cg_E y_Mo_equations b_Mo_equations 7 none 0 := ⟨tb_t (List.mem_of_getElem? (i := 1097) (by decide +kernel)) (by decide +kernel), kn_Mo, by decide, by decide, by decide +kernel⟩
theorem ki_Mo_equations : Cond.instanceMethod y_Mo_equations ∈ tb := tb_t (List.mem_of_getElem? (i := 1096) (by decide +kernel)) (by decide +kernel)
theorem ks_Mo_equations : Cond.selects "ChanceGameModel" y_Mo_equations y_Mo_equations ∈ tb := tb_s (q := (y_Mo_equations, 42)) (List.mem_of_getElem? (i := 60) (by decide +kernel))
theorem e_Mo_determinant : cg_E y_Mo_determinant b_Mo_determinant 11 (some .long) 1 := ⟨tb_t (List.mem_of_getElem? (i := 1101) (by decide +kernel)) (by decide +kernel), kn_Mo, by decide, by decide, by decide +kernel⟩
theorem ki_Mo_determinant : Cond.instanceMethod y_Mo_determinant ∈ tb := tb_t (List.mem_of_getElem? (i := 1100) (by decide +kernel)) (by decide +kernel)
theorem ks_Mo_determinant : Cond.selects "ChanceGameModel" y_Mo_determinant y_Mo_determinant ∈ tb := tb_s (q := (y_Mo_determinant, 42)) (List.mem_of_getElem? (i := 61) (by decide +kernel))
theorem e_Mo_evaluate : cg_E y_Mo_evaluate b_Mo_evaluate 4 none 0 := ⟨tb_t (List.mem_of_getElem? (i := 1093) (by decide +kernel)) (by decide +kernel), kn_Mo, by decide, by decide, by decide +kernel⟩
theorem ki_Mo_evaluate : Cond.instanceMethod y_Mo_evaluate ∈ tb := tb_t (List.mem_of_getElem? (i := 1092) (by decide +kernel)) (by decide +kernel)
theorem ks_Mo_evaluate : Cond.selects "ChanceGameModel" y_Mo_evaluate y_Mo_evaluate ∈ tb := tb_s (q := (y_Mo_evaluate, 42)) (List.mem_of_getElem? (i := 59) (by decide +kernel))
theorem e_Mo_worth : cg_E y_Mo_worth b_Mo_worth 7 (some .long) 2 := ⟨tb_t (List.mem_of_getElem? (i := 1114) (by decide +kernel)) (by decide +kernel), kn_Mo, by decide, by decide, by decide +kernel⟩
theorem ki_Mo_worth : Cond.instanceMethod y_Mo_worth ∈ tb := tb_t (List.mem_of_getElem? (i := 1113) (by decide +kernel)) (by decide +kernel)
theorem ks_Mo_worth : Cond.selects "ChanceGameModel" y_Mo_worth y_Mo_worth ∈ tb := tb_s (q := (y_Mo_worth, 42)) (List.mem_of_getElem? (i := 64) (by decide +kernel))
theorem e_Mo_improve : cg_E y_Mo_improve b_Mo_improve 13 (some .boolean) 1 := ⟨tb_t (List.mem_of_getElem? (i := 1110) (by decide +kernel)) (by decide +kernel), kn_Mo, by decide, by decide, by decide +kernel⟩
theorem ki_Mo_improve : Cond.instanceMethod y_Mo_improve ∈ tb := tb_t (List.mem_of_getElem? (i := 1109) (by decide +kernel)) (by decide +kernel)
theorem ks_Mo_improve : Cond.selects "ChanceGameModel" y_Mo_improve y_Mo_improve ∈ tb := tb_s (q := (y_Mo_improve, 42)) (List.mem_of_getElem? (i := 63) (by decide +kernel))
theorem e_Mo_improveAll : cg_E y_Mo_improveAll b_Mo_improveAll 4 (some .boolean) 1 := ⟨tb_t (List.mem_of_getElem? (i := 1106) (by decide +kernel)) (by decide +kernel), kn_Mo, by decide, by decide, by decide +kernel⟩
theorem ki_Mo_improveAll : Cond.instanceMethod y_Mo_improveAll ∈ tb := tb_t (List.mem_of_getElem? (i := 1105) (by decide +kernel)) (by decide +kernel)
theorem ks_Mo_improveAll : Cond.selects "ChanceGameModel" y_Mo_improveAll y_Mo_improveAll ∈ tb := tb_s (q := (y_Mo_improveAll, 42)) (List.mem_of_getElem? (i := 62) (by decide +kernel))
theorem e_Mo_solveGame : cg_E y_Mo_solveGame b_Mo_solveGame 3 none 0 := ⟨tb_t (List.mem_of_getElem? (i := 1074) (by decide +kernel)) (by decide +kernel), kn_Mo, by decide, by decide, by decide +kernel⟩
theorem ki_Mo_solveGame : Cond.instanceMethod y_Mo_solveGame ∈ tb := tb_t (List.mem_of_getElem? (i := 1073) (by decide +kernel)) (by decide +kernel)
theorem ks_Mo_solveGame : Cond.selects "ChanceGameModel" y_Mo_solveGame y_Mo_solveGame ∈ tb := tb_s (q := (y_Mo_solveGame, 42)) (List.mem_of_getElem? (i := 55) (by decide +kernel))
theorem e_Mo_divisor : cg_E y_Mo_divisor b_Mo_divisor 10 (some .long) 2 := ⟨tb_t (List.mem_of_getElem? (i := 1117) (by decide +kernel)) (by decide +kernel), kn_Mo, by decide, by decide, by decide +kernel⟩
theorem kt_Mo_divisor : Cond.static y_Mo_divisor ∈ tb := tb_t (List.mem_of_getElem? (i := 1116) (by decide +kernel)) (by decide +kernel)
theorem e_Mo_isKept : cg_E y_Mo_isKept b_Mo_isKept 3 (some .boolean) 0 := ⟨tb_t (List.mem_of_getElem? (i := 1125) (by decide +kernel)) (by decide +kernel), kn_Mo, by decide, by decide, by decide +kernel⟩
theorem ki_Mo_isKept : Cond.instanceMethod y_Mo_isKept ∈ tb := tb_t (List.mem_of_getElem? (i := 1124) (by decide +kernel)) (by decide +kernel)
theorem ks_Mo_isKept : Cond.selects "ChanceGameModel" y_Mo_isKept y_Mo_isKept ∈ tb := tb_s (q := (y_Mo_isKept, 42)) (List.mem_of_getElem? (i := 66) (by decide +kernel))
theorem e_Mo_allowAll : cg_E y_Mo_allowAll b_Mo_allowAll 2 none 0 := ⟨tb_t (List.mem_of_getElem? (i := 1070) (by decide +kernel)) (by decide +kernel), kn_Mo, by decide, by decide, by decide +kernel⟩
theorem ki_Mo_allowAll : Cond.instanceMethod y_Mo_allowAll ∈ tb := tb_t (List.mem_of_getElem? (i := 1069) (by decide +kernel)) (by decide +kernel)
theorem ks_Mo_allowAll : Cond.selects "ChanceGameModel" y_Mo_allowAll y_Mo_allowAll ∈ tb := tb_s (q := (y_Mo_allowAll, 42)) (List.mem_of_getElem? (i := 54) (by decide +kernel))
theorem e_Mo_findBest : cg_E y_Mo_findBest b_Mo_findBest 5 none 1 := ⟨tb_t (List.mem_of_getElem? (i := 1121) (by decide +kernel)) (by decide +kernel), kn_Mo, by decide, by decide, by decide +kernel⟩
theorem ki_Mo_findBest : Cond.instanceMethod y_Mo_findBest ∈ tb := tb_t (List.mem_of_getElem? (i := 1120) (by decide +kernel)) (by decide +kernel)
theorem ks_Mo_findBest : Cond.selects "ChanceGameModel" y_Mo_findBest y_Mo_findBest ∈ tb := tb_s (q := (y_Mo_findBest, 42)) (List.mem_of_getElem? (i := 65) (by decide +kernel))
theorem e_Mo_solve : cg_E y_Mo_solve b_Mo_solve 5 (some .int) 0 := ⟨tb_t (List.mem_of_getElem? (i := 1038) (by decide +kernel)) (by decide +kernel), kn_Mo, by decide, by decide, by decide +kernel⟩
theorem ki_Mo_solve : Cond.instanceMethod y_Mo_solve ∈ tb := tb_t (List.mem_of_getElem? (i := 1036) (by decide +kernel)) (by decide +kernel)
theorem ks_Mo_solve : Cond.selects "ChanceGameModel" y_Mo_solve y_Mo_solve ∈ tb := tb_t (List.mem_of_getElem? (i := 1037) (by decide +kernel)) (by decide +kernel)
theorem e_Mo_isState : cg_E y_Mo_isState b_Mo_isState 2 (some .boolean) 1 := ⟨tb_t (List.mem_of_getElem? (i := 1141) (by decide +kernel)) (by decide +kernel), kn_Mo, by decide, by decide, by decide +kernel⟩
theorem ki_Mo_isState : Cond.instanceMethod y_Mo_isState ∈ tb := tb_t (List.mem_of_getElem? (i := 1140) (by decide +kernel)) (by decide +kernel)
theorem ks_Mo_isState : Cond.selects "ChanceGameModel" y_Mo_isState y_Mo_isState ∈ tb := tb_s (q := (y_Mo_isState, 42)) (List.mem_of_getElem? (i := 67) (by decide +kernel))
theorem e_Mo_states : cg_E y_Mo_states b_Mo_states 1 (some .int) 0 := ⟨tb_t (List.mem_of_getElem? (i := 1129) (by decide +kernel)) (by decide +kernel), kn_Mo, by decide, by decide, by decide +kernel⟩
theorem ki_Mo_states : Cond.instanceMethod y_Mo_states ∈ tb := tb_t (List.mem_of_getElem? (i := 1127) (by decide +kernel)) (by decide +kernel)
theorem ks_Mo_states : Cond.selects "ChanceGameModel" y_Mo_states y_Mo_states ∈ tb := tb_t (List.mem_of_getElem? (i := 1128) (by decide +kernel)) (by decide +kernel)
theorem e_Mo_mixed : cg_E y_Mo_mixed b_Mo_mixed 1 (some .int) 0 := ⟨tb_t (List.mem_of_getElem? (i := 1133) (by decide +kernel)) (by decide +kernel), kn_Mo, by decide, by decide, by decide +kernel⟩
theorem ki_Mo_mixed : Cond.instanceMethod y_Mo_mixed ∈ tb := tb_t (List.mem_of_getElem? (i := 1131) (by decide +kernel)) (by decide +kernel)
theorem ks_Mo_mixed : Cond.selects "ChanceGameModel" y_Mo_mixed y_Mo_mixed ∈ tb := tb_t (List.mem_of_getElem? (i := 1132) (by decide +kernel)) (by decide +kernel)
theorem e_Mo_variable : cg_E y_Mo_variable b_Mo_variable 3 (some .int) 2 := ⟨tb_t (List.mem_of_getElem? (i := 1137) (by decide +kernel)) (by decide +kernel), kn_Mo, by decide, by decide, by decide +kernel⟩
theorem ki_Mo_variable : Cond.instanceMethod y_Mo_variable ∈ tb := tb_t (List.mem_of_getElem? (i := 1135) (by decide +kernel)) (by decide +kernel)
theorem ks_Mo_variable : Cond.selects "ChanceGameModel" y_Mo_variable y_Mo_variable ∈ tb := tb_t (List.mem_of_getElem? (i := 1136) (by decide +kernel)) (by decide +kernel)
theorem e_Mo_target : cg_E y_Mo_target b_Mo_target 2 (some .boolean) 1 := ⟨tb_t (List.mem_of_getElem? (i := 1145) (by decide +kernel)) (by decide +kernel), kn_Mo, by decide, by decide, by decide +kernel⟩
theorem ki_Mo_target : Cond.instanceMethod y_Mo_target ∈ tb := tb_t (List.mem_of_getElem? (i := 1143) (by decide +kernel)) (by decide +kernel)
theorem ks_Mo_target : Cond.selects "ChanceGameModel" y_Mo_target y_Mo_target ∈ tb := tb_t (List.mem_of_getElem? (i := 1144) (by decide +kernel)) (by decide +kernel)
theorem e_Mo_owner : cg_E y_Mo_owner b_Mo_owner 2 (some .int) 1 := ⟨tb_t (List.mem_of_getElem? (i := 1149) (by decide +kernel)) (by decide +kernel), kn_Mo, by decide, by decide, by decide +kernel⟩
theorem ki_Mo_owner : Cond.instanceMethod y_Mo_owner ∈ tb := tb_t (List.mem_of_getElem? (i := 1147) (by decide +kernel)) (by decide +kernel)
theorem ks_Mo_owner : Cond.selects "ChanceGameModel" y_Mo_owner y_Mo_owner ∈ tb := tb_t (List.mem_of_getElem? (i := 1148) (by decide +kernel)) (by decide +kernel)
theorem e_Mo_choice : cg_E y_Mo_choice b_Mo_choice 3 (some .int) 2 := ⟨tb_t (List.mem_of_getElem? (i := 1153) (by decide +kernel)) (by decide +kernel), kn_Mo, by decide, by decide, by decide +kernel⟩
theorem ki_Mo_choice : Cond.instanceMethod y_Mo_choice ∈ tb := tb_t (List.mem_of_getElem? (i := 1151) (by decide +kernel)) (by decide +kernel)
theorem ks_Mo_choice : Cond.selects "ChanceGameModel" y_Mo_choice y_Mo_choice ∈ tb := tb_t (List.mem_of_getElem? (i := 1152) (by decide +kernel)) (by decide +kernel)
theorem e_Mo_branch : cg_E y_Mo_branch b_Mo_branch 7 (some .int) 3 := ⟨tb_t (List.mem_of_getElem? (i := 1157) (by decide +kernel)) (by decide +kernel), kn_Mo, by decide, by decide, by decide +kernel⟩
theorem ki_Mo_branch : Cond.instanceMethod y_Mo_branch ∈ tb := tb_t (List.mem_of_getElem? (i := 1155) (by decide +kernel)) (by decide +kernel)
theorem ks_Mo_branch : Cond.selects "ChanceGameModel" y_Mo_branch y_Mo_branch ∈ tb := tb_t (List.mem_of_getElem? (i := 1156) (by decide +kernel)) (by decide +kernel)
theorem e_Mo_needsValue : cg_E y_Mo_needsValue b_Mo_needsValue 2 (some .boolean) 1 := ⟨tb_t (List.mem_of_getElem? (i := 1165) (by decide +kernel)) (by decide +kernel), kn_Mo, by decide, by decide, by decide +kernel⟩
theorem ki_Mo_needsValue : Cond.instanceMethod y_Mo_needsValue ∈ tb := tb_t (List.mem_of_getElem? (i := 1164) (by decide +kernel)) (by decide +kernel)
theorem ks_Mo_needsValue : Cond.selects "ChanceGameModel" y_Mo_needsValue y_Mo_needsValue ∈ tb := tb_s (q := (y_Mo_needsValue, 42)) (List.mem_of_getElem? (i := 68) (by decide +kernel))
theorem e_Mo_upper : cg_E y_Mo_upper b_Mo_upper 2 (some .long) 1 := ⟨tb_t (List.mem_of_getElem? (i := 1161) (by decide +kernel)) (by decide +kernel), kn_Mo, by decide, by decide, by decide +kernel⟩
theorem ki_Mo_upper : Cond.instanceMethod y_Mo_upper ∈ tb := tb_t (List.mem_of_getElem? (i := 1159) (by decide +kernel)) (by decide +kernel)
theorem ks_Mo_upper : Cond.selects "ChanceGameModel" y_Mo_upper y_Mo_upper ∈ tb := tb_t (List.mem_of_getElem? (i := 1160) (by decide +kernel)) (by decide +kernel)
theorem e_Mo_lower : cg_E y_Mo_lower b_Mo_lower 2 (some .long) 1 := ⟨tb_t (List.mem_of_getElem? (i := 1169) (by decide +kernel)) (by decide +kernel), kn_Mo, by decide, by decide, by decide +kernel⟩
theorem ki_Mo_lower : Cond.instanceMethod y_Mo_lower ∈ tb := tb_t (List.mem_of_getElem? (i := 1167) (by decide +kernel)) (by decide +kernel)
theorem ks_Mo_lower : Cond.selects "ChanceGameModel" y_Mo_lower y_Mo_lower ∈ tb := tb_t (List.mem_of_getElem? (i := 1168) (by decide +kernel)) (by decide +kernel)
theorem e_Mo_good : cg_E y_Mo_good b_Mo_good 2 (some .int) 1 := ⟨tb_t (List.mem_of_getElem? (i := 1173) (by decide +kernel)) (by decide +kernel), kn_Mo, by decide, by decide, by decide +kernel⟩
theorem ki_Mo_good : Cond.instanceMethod y_Mo_good ∈ tb := tb_t (List.mem_of_getElem? (i := 1171) (by decide +kernel)) (by decide +kernel)
theorem ks_Mo_good : Cond.selects "ChanceGameModel" y_Mo_good y_Mo_good ∈ tb := tb_t (List.mem_of_getElem? (i := 1172) (by decide +kernel)) (by decide +kernel)
theorem kq_max_c : Cond.code Lib.Math.max.name Lib.Math.max.code 2 (some .int) ∈ tb := tb_t (List.mem_of_getElem? (i := 659) (by decide +kernel)) (by decide +kernel)
theorem kq_max_s : Cond.static Lib.Math.max.name ∈ tb := tb_t (List.mem_of_getElem? (i := 658) (by decide +kernel)) (by decide +kernel)
theorem kq_min_c : Cond.code Lib.Math.min.name Lib.Math.min.code 2 (some .int) ∈ tb := tb_t (List.mem_of_getElem? (i := 656) (by decide +kernel)) (by decide +kernel)
theorem kq_min_s : Cond.static Lib.Math.min.name ∈ tb := tb_t (List.mem_of_getElem? (i := 655) (by decide +kernel)) (by decide +kernel)
theorem kq_Math : Jvm.Cond.initialized "java/lang/Math" ∈ tb := tb_t (List.mem_of_getElem? (i := 20) (by decide +kernel)) (by decide +kernel)
theorem kq_ac_n : Cond.native arraycopyName ∈ tb := tb_t (List.mem_of_getElem? (i := 627) (by decide +kernel)) (by decide +kernel)
theorem kq_ac_s : Cond.static arraycopyName ∈ tb := tb_t (List.mem_of_getElem? (i := 626) (by decide +kernel)) (by decide +kernel)
theorem kq_System : Jvm.Cond.initialized "java/lang/System" ∈ tb := tb_t (List.mem_of_getElem? (i := 19) (by decide +kernel)) (by decide +kernel)
set_option maxRecDepth 100000 in
theorem at_Rd_162 {n0 : Nat} {s : State} {args : Array Value} : (∀ w ∈ tb, w.before args s = true) → cg_hp n0 s → ∀ w ∈ Bundle.ownAtoms "ChanceGame$Reader" 162 "java/lang/IllegalArgumentException" ["java/lang/RuntimeException", "java/lang/Exception"], w.before args s = true := cg_atoms (by decide +kernel)
set_option maxRecDepth 100000 in
theorem at_CG_84 {n0 : Nat} {s : State} {args : Array Value} : (∀ w ∈ tb, w.before args s = true) → cg_hp n0 s → ∀ w ∈ Bundle.ownAtoms "ChanceGame" 84 "java/lang/IllegalStateException" ["java/lang/RuntimeException", "java/lang/Exception"], w.before args s = true := cg_atoms (by decide +kernel)
set_option maxRecDepth 100000 in
theorem at_CG_172 {n0 : Nat} {s : State} {args : Array Value} : (∀ w ∈ tb, w.before args s = true) → cg_hp n0 s → ∀ w ∈ Bundle.ownAtoms "ChanceGame" 172 "java/lang/IndexOutOfBoundsException" ["java/lang/RuntimeException", "java/lang/Exception"], w.before args s = true := cg_atoms (by decide +kernel)
theorem T_0 : 0 < nC ∧ TC 0 = .inl (0, ks_CG) := by decide +kernel
theorem T_1 : 1 < nC ∧ TC 1 = .inl (1, ks_Rd) := by decide +kernel
theorem T_2 : 2 < nC ∧ TC 2 = .inl (2, ks_Tx) := by decide +kernel
theorem T_3 : 3 < nC ∧ TC 3 = .inr (1, 200) := by decide +kernel
theorem T_141 : 141 < nC ∧ TC 141 = .inl (7, ks_Va) := by decide +kernel
theorem T_142 : 142 < nC ∧ TC 142 = .inl (8, ks_Fo) := by decide +kernel
theorem T_280 : 280 < nC ∧ TC 280 = .inr (4, 8) := by decide +kernel
theorem T_281 : 281 < nC ∧ TC 281 = .inr (0, 3) := by decide +kernel
theorem T_289 : 289 < nC ∧ TC 289 = .inr (0, 8) := by decide +kernel
theorem T_290 : 290 < nC ∧ TC 290 = .inr (4, 8) := by decide +kernel
theorem T_291 : 291 < nC ∧ TC 291 = .inr (0, 10) := by decide +kernel
theorem T_299 : 299 < nC ∧ TC 299 = .inr (4, 8) := by decide +kernel
theorem T_309 : 309 < nC ∧ TC 309 = .inl (9, ks_At) := by decide +kernel
theorem T_310 : 310 < nC ∧ TC 310 = .inr (0, 8) := by decide +kernel
theorem T_311 : 311 < nC ∧ TC 311 = .inr (0, 8) := by decide +kernel
theorem T_312 : 312 < nC ∧ TC 312 = .inl (10, ks_Eq) := by decide +kernel
theorem T_313 : 313 < nC ∧ TC 313 = .inr (5, 8) := by decide +kernel
theorem T_314 : 314 < nC ∧ TC 314 = .inr (3, 9) := by decide +kernel
theorem T_322 : 322 < nC ∧ TC 322 = .inr (3, 8) := by decide +kernel
theorem T_323 : 323 < nC ∧ TC 323 = .inr (0, 8) := by decide +kernel
theorem T_324 : 324 < nC ∧ TC 324 = .inr (3, 8) := by decide +kernel
theorem T_325 : 325 < nC ∧ TC 325 = .inr (3, 8) := by decide +kernel
theorem T_326 : 326 < nC ∧ TC 326 = .inl (11, ks_Go) := by decide +kernel
theorem T_327 : 327 < nC ∧ TC 327 = .inl (9, ks_At) := by decide +kernel
theorem T_328 : 328 < nC ∧ TC 328 = .inr (0, 8) := by decide +kernel
theorem T_330 : 330 < nC ∧ TC 330 = .inr (0, 8) := by decide +kernel
theorem T_331 : 331 < nC ∧ TC 331 = .inl (12, ks_Mo) := by decide +kernel
theorem T_332 : 332 < nC ∧ TC 332 = .inr (0, 200) := by decide +kernel
theorem T_333 : 333 < nC ∧ TC 333 = .inr (0, 6) := by decide +kernel
theorem T_334 : 334 < nC ∧ TC 334 = .inr (0, 6) := by decide +kernel
theorem T_335 : 335 < nC ∧ TC 335 = .inr (0, 2) := by decide +kernel
theorem T_336 : 336 < nC ∧ TC 336 = .inr (2, 20) := by decide +kernel
theorem T_337 : 337 < nC ∧ TC 337 = .inr (0, 20) := by decide +kernel
theorem T_338 : 338 < nC ∧ TC 338 = .inr (0, 20) := by decide +kernel
theorem T_339 : 339 < nC ∧ TC 339 = .inr (0, 80) := by decide +kernel
theorem T_340 : 340 < nC ∧ TC 340 = .inr (0, 22) := by decide +kernel
theorem T_341 : 341 < nC ∧ TC 341 = .inr (0, 88) := by decide +kernel
theorem T_342 : 342 < nC ∧ TC 342 = .inr (0, 416) := by decide +kernel
theorem T_343 : 343 < nC ∧ TC 343 = .inr (0, 1664) := by decide +kernel
theorem T_344 : 344 < nC ∧ TC 344 = .inr (2, 1664) := by decide +kernel
theorem T_345 : 345 < nC ∧ TC 345 = .inr (0, 24) := by decide +kernel
theorem T_346 : 346 < nC ∧ TC 346 = .inr (2, 8) := by decide +kernel
theorem T_347 : 347 < nC ∧ TC 347 = .inr (2, 8) := by decide +kernel
theorem T_348 : 348 < nC ∧ TC 348 = .inr (0, 80) := by decide +kernel
theorem T_349 : 349 < nC ∧ TC 349 = .inr (0, 8) := by decide +kernel
theorem T_350 : 350 < nC ∧ TC 350 = .inr (0, 320) := by decide +kernel
theorem T_351 : 351 < nC ∧ TC 351 = .inr (0, 3) := by decide +kernel
theorem T_352 : 352 < nC ∧ TC 352 = .inr (0, 8) := by decide +kernel
theorem T_353 : 353 < nC ∧ TC 353 = .inr (0, 8) := by decide +kernel
theorem T_354 : 354 < nC ∧ TC 354 = .inr (2, 8) := by decide +kernel
theorem T_355 : 355 < nC ∧ TC 355 = .inr (0, 8) := by decide +kernel
theorem T_356 : 356 < nC ∧ TC 356 = .inr (3, 72) := by decide +kernel
theorem T_357 : 357 < nC ∧ TC 357 = .inr (3, 64) := by decide +kernel
theorem T_358 : 358 < nC ∧ TC 358 = .inr (3, 8) := by decide +kernel
theorem T_359 : 359 < nC ∧ TC 359 = .inr (3, 8) := by decide +kernel
theorem T_360 : 360 < nC ∧ TC 360 = .inr (3, 8) := by decide +kernel
theorem T_361 : 361 < nC ∧ TC 361 = .inr (0, 8) := by decide +kernel
