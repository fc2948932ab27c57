theorem ki_Mo_solve : Cond.instanceMethod y_Mo_solve ∈ tb := tb_t (List.mem_of_getElem? (i := 1040) (by decide +kernel)) (by decide +kernel)
theorem ks_Mo_solve : Cond.selects "ChanceGameModel" y_Mo_solve y_Mo_solve ∈ tb := tb_t (List.mem_of_getElem? (i := 1041) (by decide +kernel)) (by decide +kernel)
theorem e_Mo_states : cg_E y_Mo_states b_Mo_states 1 (some .int) 0 := ⟨tb_t (List.mem_of_getElem? (i := 1133) (by decide +kernel)) (by decide +kernel), kn_Mo, by decide, by decide, by decide +kernel⟩
theorem ki_Mo_states : Cond.instanceMethod y_Mo_states ∈ tb := tb_t (List.mem_of_getElem? (i := 1131) (by decide +kernel)) (by decide +kernel)
theorem ks_Mo_states : Cond.selects "ChanceGameModel" y_Mo_states y_Mo_states ∈ tb := tb_t (List.mem_of_getElem? (i := 1132) (by decide +kernel)) (by decide +kernel)
theorem e_Mo_target : cg_E y_Mo_target b_Mo_target 2 (some .boolean) 1 := ⟨tb_t (List.mem_of_getElem? (i := 1149) (by decide +kernel)) (by decide +kernel), kn_Mo, by decide, by decide, by decide +kernel⟩
theorem ki_Mo_target : Cond.instanceMethod y_Mo_target ∈ tb := tb_t (List.mem_of_getElem? (i := 1147) (by decide +kernel)) (by decide +kernel)
theorem ks_Mo_target : Cond.selects "ChanceGameModel" y_Mo_target y_Mo_target ∈ tb := tb_t (List.mem_of_getElem? (i := 1148) (by decide +kernel)) (by decide +kernel)
theorem e_Mo_thrown : cg_E y_Mo_thrown b_Mo_thrown 1 (some .int) 0 := ⟨tb_t (List.mem_of_getElem? (i := 945) (by decide +kernel)) (by decide +kernel), kn_Mo, by decide, by decide, by decide +kernel⟩
theorem ki_Mo_thrown : Cond.instanceMethod y_Mo_thrown ∈ tb := tb_t (List.mem_of_getElem? (i := 943) (by decide +kernel)) (by decide +kernel)
theorem ks_Mo_thrown : Cond.selects "ChanceGameModel" y_Mo_thrown y_Mo_thrown ∈ tb := tb_t (List.mem_of_getElem? (i := 944) (by decide +kernel)) (by decide +kernel)
theorem e_Mo_type : cg_E y_Mo_type b_Mo_type 7 (some .int) 2 := ⟨tb_t (List.mem_of_getElem? (i := 949) (by decide +kernel)) (by decide +kernel), kn_Mo, by decide, by decide, by decide +kernel⟩
theorem ki_Mo_type : Cond.instanceMethod y_Mo_type ∈ tb := tb_t (List.mem_of_getElem? (i := 947) (by decide +kernel)) (by decide +kernel)
theorem ks_Mo_type : Cond.selects "ChanceGameModel" y_Mo_type y_Mo_type ∈ tb := tb_t (List.mem_of_getElem? (i := 948) (by decide +kernel)) (by decide +kernel)
theorem e_Mo_upper : cg_E y_Mo_upper b_Mo_upper 2 (some .long) 1 := ⟨tb_t (List.mem_of_getElem? (i := 1165) (by decide +kernel)) (by decide +kernel), kn_Mo, by decide, by decide, by decide +kernel⟩
theorem ki_Mo_upper : Cond.instanceMethod y_Mo_upper ∈ tb := tb_t (List.mem_of_getElem? (i := 1163) (by decide +kernel)) (by decide +kernel)
theorem ks_Mo_upper : Cond.selects "ChanceGameModel" y_Mo_upper y_Mo_upper ∈ tb := tb_t (List.mem_of_getElem? (i := 1164) (by decide +kernel)) (by decide +kernel)
theorem e_Mo_variable : cg_E y_Mo_variable b_Mo_variable 3 (some .int) 2 := ⟨tb_t (List.mem_of_getElem? (i := 1141) (by decide +kernel)) (by decide +kernel), kn_Mo, by decide, by decide, by decide +kernel⟩
theorem ki_Mo_variable : Cond.instanceMethod y_Mo_variable ∈ tb := tb_t (List.mem_of_getElem? (i := 1139) (by decide +kernel)) (by decide +kernel)
theorem ks_Mo_variable : Cond.selects "ChanceGameModel" y_Mo_variable y_Mo_variable ∈ tb := tb_t (List.mem_of_getElem? (i := 1140) (by decide +kernel)) (by decide +kernel)
theorem e_Mo_want : cg_E y_Mo_want b_Mo_want 2 (some .boolean) 1 := ⟨tb_t (List.mem_of_getElem? (i := 995) (by decide +kernel)) (by decide +kernel), kn_Mo, by decide, by decide, by decide +kernel⟩
theorem ki_Mo_want : Cond.instanceMethod y_Mo_want ∈ tb := tb_t (List.mem_of_getElem? (i := 994) (by decide +kernel)) (by decide +kernel)
theorem ks_Mo_want : Cond.selects "ChanceGameModel" y_Mo_want y_Mo_want ∈ tb := tb_s (q := (y_Mo_want, 42)) (List.mem_of_getElem? (i := 37) (by decide +kernel))
theorem e_Mo_wipe : cg_E y_Mo_wipe b_Mo_wipe 2 (some .int) 0 := ⟨tb_t (List.mem_of_getElem? (i := 959) (by decide +kernel)) (by decide +kernel), kn_Mo, by decide, by decide, by decide +kernel⟩
theorem ki_Mo_wipe : Cond.instanceMethod y_Mo_wipe ∈ tb := tb_t (List.mem_of_getElem? (i := 957) (by decide +kernel)) (by decide +kernel)
theorem ks_Mo_wipe : Cond.selects "ChanceGameModel" y_Mo_wipe y_Mo_wipe ∈ tb := tb_t (List.mem_of_getElem? (i := 958) (by decide +kernel)) (by decide +kernel)
theorem e_Mo_within : cg_E y_Mo_within b_Mo_within 3 (some .boolean) 3 := ⟨tb_t (List.mem_of_getElem? (i := 952) (by decide +kernel)) (by decide +kernel), kn_Mo, by decide, by decide, by decide +kernel⟩
theorem kt_Mo_within : Cond.static y_Mo_within ∈ tb := tb_t (List.mem_of_getElem? (i := 951) (by decide +kernel)) (by decide +kernel)
set_option maxRecDepth 100000 in
theorem at_Rd_162 {n0 : Nat} {s : State} {args : Array Value} : (∀ w ∈ tb, w.before args s = true) → cg_hp n0 s → ∀ w ∈ Bundle.ownAtoms "ChanceGame$Reader" 162 "java/lang/IllegalArgumentException" ["java/lang/RuntimeException", "java/lang/Exception"], w.before args s = true := cg_atoms (by decide +kernel)
set_option maxRecDepth 100000 in
theorem at_CG_84 {n0 : Nat} {s : State} {args : Array Value} : (∀ w ∈ tb, w.before args s = true) → cg_hp n0 s → ∀ w ∈ Bundle.ownAtoms "ChanceGame" 84 "java/lang/IllegalStateException" ["java/lang/RuntimeException", "java/lang/Exception"], w.before args s = true := cg_atoms (by decide +kernel)
