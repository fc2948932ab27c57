theorem d_CG_init_0 : decode b_CG_init 0 = .ok (.aload_n 0, 1) := by decide +kernel
theorem d_CG_init_1 : decode b_CG_init 1 = .ok (.invokespecial 3, 3) := by decide +kernel
theorem d_CG_init_4 : decode b_CG_init 4 = .ok (.aload_n 0, 1) := by decide +kernel
theorem d_CG_init_5 : decode b_CG_init 5 = .ok (.new 9, 3) := by decide +kernel
theorem d_CG_init_8 : decode b_CG_init 8 = .ok (.dup, 1) := by decide +kernel
theorem d_CG_init_9 : decode b_CG_init 9 = .ok (.invokespecial 11, 3) := by decide +kernel
theorem d_CG_init_12 : decode b_CG_init 12 = .ok (.putfield 12, 3) := by decide +kernel
theorem d_CG_init_15 : decode b_CG_init 15 = .ok (.aload_n 0, 1) := by decide +kernel
theorem d_CG_init_16 : decode b_CG_init 16 = .ok (.aload_n 0, 1) := by decide +kernel
theorem d_CG_init_17 : decode b_CG_init 17 = .ok (.getfield 12, 3) := by decide +kernel
theorem d_CG_init_20 : decode b_CG_init 20 = .ok (.getfield 16, 3) := by decide +kernel
theorem d_CG_init_23 : decode b_CG_init 23 = .ok (.putfield 20, 3) := by decide +kernel
theorem d_CG_init_26 : decode b_CG_init 26 = .ok (.aload_n 0, 1) := by decide +kernel
theorem d_CG_init_27 : decode b_CG_init 27 = .ok (.new 21, 3) := by decide +kernel
theorem d_CG_init_30 : decode b_CG_init 30 = .ok (.dup, 1) := by decide +kernel
theorem d_CG_init_31 : decode b_CG_init 31 = .ok (.invokespecial 23, 3) := by decide +kernel
theorem d_CG_init_34 : decode b_CG_init 34 = .ok (.putfield 24, 3) := by decide +kernel
theorem d_CG_init_37 : decode b_CG_init 37 = .ok (.aload_n 0, 1) := by decide +kernel
theorem d_CG_init_38 : decode b_CG_init 38 = .ok (.aload_n 0, 1) := by decide +kernel
theorem d_CG_init_39 : decode b_CG_init 39 = .ok (.getfield 24, 3) := by decide +kernel
theorem d_CG_init_42 : decode b_CG_init 42 = .ok (.getfield 28, 3) := by decide +kernel
theorem d_CG_init_45 : decode b_CG_init 45 = .ok (.putfield 32, 3) := by decide +kernel
theorem d_CG_init_48 : decode b_CG_init 48 = .ok (.aload_n 0, 1) := by decide +kernel
theorem d_CG_init_49 : decode b_CG_init 49 = .ok (.new 33, 3) := by decide +kernel
theorem d_CG_init_52 : decode b_CG_init 52 = .ok (.dup, 1) := by decide +kernel
theorem d_CG_init_53 : decode b_CG_init 53 = .ok (.invokespecial 35, 3) := by decide +kernel
theorem d_CG_init_56 : decode b_CG_init 56 = .ok (.putfield 36, 3) := by decide +kernel
theorem d_CG_init_59 : decode b_CG_init 59 = .ok (.aload_n 0, 1) := by decide +kernel
theorem d_CG_init_60 : decode b_CG_init 60 = .ok (.iconst 0, 1) := by decide +kernel
theorem d_CG_init_61 : decode b_CG_init 61 = .ok (.putfield 40, 3) := by decide +kernel
theorem d_CG_init_64 : decode b_CG_init 64 = .ok (.aload_n 0, 1) := by decide +kernel
theorem d_CG_init_65 : decode b_CG_init 65 = .ok (.iconst 0, 1) := by decide +kernel
theorem d_CG_init_66 : decode b_CG_init 66 = .ok (.putfield 44, 3) := by decide +kernel
theorem d_CG_init_69 : decode b_CG_init 69 = .ok (.return_, 1) := by decide +kernel
theorem d_CG_branch_0 : decode b_CG_branch 0 = .ok (.aload_n 0, 1) := by decide +kernel
theorem d_CG_branch_1 : decode b_CG_branch 1 = .ok (.getfield 32, 3) := by decide +kernel
theorem d_CG_branch_4 : decode b_CG_branch 4 = .ok (.iload_n 1, 1) := by decide +kernel
theorem d_CG_branch_5 : decode b_CG_branch 5 = .ok (.invokevirtual 104, 3) := by decide +kernel
theorem d_CG_branch_8 : decode b_CG_branch 8 = .ok (.ifCond .eq 37, 3) := by decide +kernel
theorem d_CG_branch_45 : decode b_CG_branch 45 = .ok (.iconst (-1), 1) := by decide +kernel
theorem d_CG_branch_46 : decode b_CG_branch 46 = .ok (.ireturn, 1) := by decide +kernel
theorem d_CG_checkValueOf_0 : decode b_CG_checkValueOf 0 = .ok (.aload_n 0, 1) := by decide +kernel
theorem d_CG_checkValueOf_1 : decode b_CG_checkValueOf 1 = .ok (.getfield 44, 3) := by decide +kernel
theorem d_CG_checkValueOf_4 : decode b_CG_checkValueOf 4 = .ok (.ifCond .ne 13, 3) := by decide +kernel
theorem d_CG_checkValueOf_7 : decode b_CG_checkValueOf 7 = .ok (.new 80, 3) := by decide +kernel
theorem d_CG_checkValueOf_10 : decode b_CG_checkValueOf 10 = .ok (.dup, 1) := by decide +kernel
theorem d_CG_checkValueOf_11 : decode b_CG_checkValueOf 11 = .ok (.ldc 166, 2) := by decide +kernel
theorem d_CG_checkValueOf_13 : decode b_CG_checkValueOf 13 = .ok (.invokespecial 84, 3) := by decide +kernel
theorem d_CG_checkValueOf_16 : decode b_CG_checkValueOf 16 = .ok (.athrow, 1) := by decide +kernel
theorem d_CG_choice_0 : decode b_CG_choice 0 = .ok (.aload_n 0, 1) := by decide +kernel
theorem d_CG_choice_1 : decode b_CG_choice 1 = .ok (.getfield 32, 3) := by decide +kernel
theorem d_CG_choice_4 : decode b_CG_choice 4 = .ok (.iload_n 1, 1) := by decide +kernel
theorem d_CG_choice_5 : decode b_CG_choice 5 = .ok (.invokevirtual 104, 3) := by decide +kernel
theorem d_CG_choice_8 : decode b_CG_choice 8 = .ok (.ifCond .eq 7, 3) := by decide +kernel
theorem d_CG_choice_15 : decode b_CG_choice 15 = .ok (.iconst (-1), 1) := by decide +kernel
theorem d_CG_choice_16 : decode b_CG_choice 16 = .ok (.ireturn, 1) := by decide +kernel
theorem d_CG_good_0 : decode b_CG_good 0 = .ok (.aload_n 0, 1) := by decide +kernel
theorem d_CG_good_1 : decode b_CG_good 1 = .ok (.iload_n 1, 1) := by decide +kernel
theorem d_CG_good_2 : decode b_CG_good 2 = .ok (.invokevirtual 152, 3) := by decide +kernel
theorem d_CG_lower_0 : decode b_CG_lower 0 = .ok (.aload_n 0, 1) := by decide +kernel
theorem d_CG_lower_1 : decode b_CG_lower 1 = .ok (.iload_n 1, 1) := by decide +kernel
theorem d_CG_lower_2 : decode b_CG_lower 2 = .ok (.invokevirtual 152, 3) := by decide +kernel
theorem d_CG_mixed_0 : decode b_CG_mixed 0 = .ok (.aload_n 0, 1) := by decide +kernel
theorem d_CG_mixed_1 : decode b_CG_mixed 1 = .ok (.getfield 32, 3) := by decide +kernel
theorem d_CG_mixed_4 : decode b_CG_mixed 4 = .ok (.getfield 101, 3) := by decide +kernel
theorem d_CG_mixed_7 : decode b_CG_mixed 7 = .ok (.ireturn, 1) := by decide +kernel
theorem d_CG_owner_0 : decode b_CG_owner 0 = .ok (.aload_n 0, 1) := by decide +kernel
theorem d_CG_owner_1 : decode b_CG_owner 1 = .ok (.getfield 32, 3) := by decide +kernel
theorem d_CG_owner_4 : decode b_CG_owner 4 = .ok (.iload_n 1, 1) := by decide +kernel
theorem d_CG_owner_5 : decode b_CG_owner 5 = .ok (.invokevirtual 104, 3) := by decide +kernel
theorem d_CG_owner_8 : decode b_CG_owner 8 = .ok (.ifCond .eq 14, 3) := by decide +kernel
theorem d_CG_owner_22 : decode b_CG_owner 22 = .ok (.iconst (-1), 1) := by decide +kernel
theorem d_CG_owner_23 : decode b_CG_owner 23 = .ok (.ireturn, 1) := by decide +kernel
theorem d_CG_place_0 : decode b_CG_place 0 = .ok (.aload_n 0, 1) := by decide +kernel
theorem d_CG_place_1 : decode b_CG_place 1 = .ok (.getfield 12, 3) := by decide +kernel
theorem d_CG_place_4 : decode b_CG_place 4 = .ok (.getfield 77, 3) := by decide +kernel
theorem d_CG_place_7 : decode b_CG_place 7 = .ok (.ireturn, 1) := by decide +kernel
theorem d_CG_read_0 : decode b_CG_read 0 = .ok (.aload_n 0, 1) := by decide +kernel
theorem d_CG_read_1 : decode b_CG_read 1 = .ok (.getfield 32, 3) := by decide +kernel
theorem d_CG_read_4 : decode b_CG_read 4 = .ok (.aload_n 0, 1) := by decide +kernel
theorem d_CG_read_5 : decode b_CG_read 5 = .ok (.getfield 12, 3) := by decide +kernel
theorem d_CG_read_8 : decode b_CG_read 8 = .ok (.aload_n 0, 1) := by decide +kernel
theorem d_CG_read_9 : decode b_CG_read 9 = .ok (.getfield 32, 3) := by decide +kernel
theorem d_CG_read_12 : decode b_CG_read 12 = .ok (.getfield 57, 3) := by decide +kernel
theorem d_CG_read_15 : decode b_CG_read 15 = .ok (.invokevirtual 63, 3) := by decide +kernel
theorem d_CG_solve_0 : decode b_CG_solve 0 = .ok (.aload_n 0, 1) := by decide +kernel
theorem d_CG_solve_1 : decode b_CG_solve 1 = .ok (.getfield 40, 3) := by decide +kernel
theorem d_CG_solve_4 : decode b_CG_solve 4 = .ok (.ifCond .ne 13, 3) := by decide +kernel
theorem d_CG_solve_7 : decode b_CG_solve 7 = .ok (.new 80, 3) := by decide +kernel
theorem d_CG_solve_10 : decode b_CG_solve 10 = .ok (.dup, 1) := by decide +kernel
theorem d_CG_solve_11 : decode b_CG_solve 11 = .ok (.ldc 82, 2) := by decide +kernel
theorem d_CG_solve_13 : decode b_CG_solve 13 = .ok (.invokespecial 84, 3) := by decide +kernel
theorem d_CG_solve_16 : decode b_CG_solve 16 = .ok (.athrow, 1) := by decide +kernel
theorem d_CG_states_0 : decode b_CG_states 0 = .ok (.aload_n 0, 1) := by decide +kernel
theorem d_CG_states_1 : decode b_CG_states 1 = .ok (.getfield 32, 3) := by decide +kernel
theorem d_CG_states_4 : decode b_CG_states 4 = .ok (.getfield 100, 3) := by decide +kernel
theorem d_CG_states_7 : decode b_CG_states 7 = .ok (.ireturn, 1) := by decide +kernel
theorem d_CG_target_0 : decode b_CG_target 0 = .ok (.aload_n 0, 1) := by decide +kernel
theorem d_CG_target_1 : decode b_CG_target 1 = .ok (.getfield 32, 3) := by decide +kernel
theorem d_CG_target_4 : decode b_CG_target 4 = .ok (.iload_n 1, 1) := by decide +kernel
theorem d_CG_target_5 : decode b_CG_target 5 = .ok (.invokevirtual 104, 3) := by decide +kernel
theorem d_CG_target_8 : decode b_CG_target 8 = .ok (.ifCond .eq 21, 3) := by decide +kernel
theorem d_CG_target_29 : decode b_CG_target 29 = .ok (.iconst 0, 1) := by decide +kernel
theorem d_CG_target_30 : decode b_CG_target 30 = .ok (.ireturn, 1) := by decide +kernel
theorem d_CG_type_0 : decode b_CG_type 0 = .ok (.aload_n 0, 1) := by decide +kernel
theorem d_CG_type_1 : decode b_CG_type 1 = .ok (.getfield 20, 3) := by decide +kernel
theorem d_CG_type_4 : decode b_CG_type 4 = .ok (.lload_n 1, 1) := by decide +kernel
theorem d_CG_type_5 : decode b_CG_type 5 = .ok (.iload_n 3, 1) := by decide +kernel
theorem d_CG_type_6 : decode b_CG_type 6 = .ok (.invokevirtual 47, 3) := by decide +kernel
theorem d_CG_type_9 : decode b_CG_type 9 = .ok (.ireturn, 1) := by decide +kernel
theorem d_CG_upper_0 : decode b_CG_upper 0 = .ok (.aload_n 0, 1) := by decide +kernel
theorem d_CG_upper_1 : decode b_CG_upper 1 = .ok (.iload_n 1, 1) := by decide +kernel
theorem d_CG_upper_2 : decode b_CG_upper 2 = .ok (.invokevirtual 152, 3) := by decide +kernel
theorem d_CG_variable_0 : decode b_CG_variable 0 = .ok (.aload_n 0, 1) := by decide +kernel
theorem d_CG_variable_1 : decode b_CG_variable 1 = .ok (.getfield 32, 3) := by decide +kernel
theorem d_CG_variable_4 : decode b_CG_variable 4 = .ok (.iload_n 1, 1) := by decide +kernel
theorem d_CG_variable_5 : decode b_CG_variable 5 = .ok (.invokevirtual 104, 3) := by decide +kernel
theorem d_CG_variable_8 : decode b_CG_variable 8 = .ok (.ifCond .eq 26, 3) := by decide +kernel
theorem d_CG_variable_34 : decode b_CG_variable 34 = .ok (.iconst (-1), 1) := by decide +kernel
theorem d_CG_variable_35 : decode b_CG_variable 35 = .ok (.ireturn, 1) := by decide +kernel
theorem d_CG_wipe_0 : decode b_CG_wipe 0 = .ok (.aload_n 0, 1) := by decide +kernel
theorem d_CG_wipe_1 : decode b_CG_wipe 1 = .ok (.getfield 20, 3) := by decide +kernel
theorem d_CG_wipe_4 : decode b_CG_wipe 4 = .ok (.invokevirtual 53, 3) := by decide +kernel
theorem d_CG_wipe_7 : decode b_CG_wipe 7 = .ok (.ireturn, 1) := by decide +kernel
theorem d_Rd_init_0 : decode b_Rd_init 0 = .ok (.aload_n 0, 1) := by decide +kernel
theorem d_Rd_init_1 : decode b_Rd_init 1 = .ok (.invokespecial 3, 3) := by decide +kernel
theorem d_Rd_init_4 : decode b_Rd_init 4 = .ok (.aload_n 0, 1) := by decide +kernel
theorem d_Rd_init_5 : decode b_Rd_init 5 = .ok (.new 9, 3) := by decide +kernel
theorem d_Rd_init_8 : decode b_Rd_init 8 = .ok (.dup, 1) := by decide +kernel
theorem d_Rd_init_9 : decode b_Rd_init 9 = .ok (.invokespecial 11, 3) := by decide +kernel
theorem d_Rd_init_12 : decode b_Rd_init 12 = .ok (.putfield 12, 3) := by decide +kernel
theorem d_Rd_init_15 : decode b_Rd_init 15 = .ok (.aload_n 0, 1) := by decide +kernel
theorem d_Rd_init_16 : decode b_Rd_init 16 = .ok (.new 18, 3) := by decide +kernel
theorem d_Rd_init_19 : decode b_Rd_init 19 = .ok (.dup, 1) := by decide +kernel
theorem d_Rd_init_20 : decode b_Rd_init 20 = .ok (.invokespecial 20, 3) := by decide +kernel
theorem d_Rd_init_23 : decode b_Rd_init 23 = .ok (.putfield 21, 3) := by decide +kernel
theorem d_Rd_init_26 : decode b_Rd_init 26 = .ok (.aload_n 0, 1) := by decide +kernel
theorem d_Rd_init_27 : decode b_Rd_init 27 = .ok (.iconst 0, 1) := by decide +kernel
theorem d_Rd_init_28 : decode b_Rd_init 28 = .ok (.putfield 25, 3) := by decide +kernel
theorem d_Rd_init_31 : decode b_Rd_init 31 = .ok (.aload_n 0, 1) := by decide +kernel
theorem d_Rd_init_32 : decode b_Rd_init 32 = .ok (.iconst (-1), 1) := by decide +kernel
theorem d_Rd_init_33 : decode b_Rd_init 33 = .ok (.putfield 29, 3) := by decide +kernel
theorem d_Rd_init_36 : decode b_Rd_init 36 = .ok (.return_, 1) := by decide +kernel
theorem d_Rd_expect_0 : decode b_Rd_expect 0 = .ok (.aload_n 0, 1) := by decide +kernel
theorem d_Rd_expect_1 : decode b_Rd_expect 1 = .ok (.iload_n 1, 1) := by decide +kernel
theorem d_Rd_expect_2 : decode b_Rd_expect 2 = .ok (.invokevirtual 118, 3) := by decide +kernel
theorem d_Rd_expect_5 : decode b_Rd_expect 5 = .ok (.ifCond .ne 11, 3) := by decide +kernel
theorem d_Rd_expect_8 : decode b_Rd_expect 8 = .ok (.aload_n 0, 1) := by decide +kernel
theorem d_Rd_expect_9 : decode b_Rd_expect 9 = .ok (.aload_n 0, 1) := by decide +kernel
theorem d_Rd_expect_10 : decode b_Rd_expect 10 = .ok (.getfield 25, 3) := by decide +kernel
theorem d_Rd_expect_13 : decode b_Rd_expect 13 = .ok (.invokevirtual 75, 3) := by decide +kernel
theorem d_Rd_here_0 : decode b_Rd_here 0 = .ok (.aload_n 0, 1) := by decide +kernel
theorem d_Rd_here_1 : decode b_Rd_here 1 = .ok (.getfield 25, 3) := by decide +kernel
theorem d_Rd_here_4 : decode b_Rd_here 4 = .ok (.aload_n 0, 1) := by decide +kernel
theorem d_Rd_here_5 : decode b_Rd_here 5 = .ok (.getfield 12, 3) := by decide +kernel
theorem d_Rd_here_8 : decode b_Rd_here 8 = .ok (.getfield 72, 3) := by decide +kernel
theorem d_Rd_here_11 : decode b_Rd_here 11 = .ok (.if_icmp .ge 18, 3) := by decide +kernel
theorem d_Rd_here_29 : decode b_Rd_here 29 = .ok (.iconst 0, 1) := by decide +kernel
theorem d_Rd_here_30 : decode b_Rd_here 30 = .ok (.ireturn, 1) := by decide +kernel
theorem d_Rd_isName_0 : decode b_Rd_isName 0 = .ok (.iload_n 0, 1) := by decide +kernel
theorem d_Rd_isName_1 : decode b_Rd_isName 1 = .ok (.bipush 97, 2) := by decide +kernel
theorem d_Rd_isName_3 : decode b_Rd_isName 3 = .ok (.if_icmp .lt 13, 3) := by decide +kernel
theorem d_Rd_isName_16 : decode b_Rd_isName 16 = .ok (.iconst 0, 1) := by decide +kernel
theorem d_Rd_isName_17 : decode b_Rd_isName 17 = .ok (.ireturn, 1) := by decide +kernel
theorem d_Rd_isPlusOrMinus_0 : decode b_Rd_isPlusOrMinus 0 = .ok (.iload_n 0, 1) := by decide +kernel
theorem d_Rd_isPlusOrMinus_1 : decode b_Rd_isPlusOrMinus 1 = .ok (.bipush 43, 2) := by decide +kernel
theorem d_Rd_isPlusOrMinus_3 : decode b_Rd_isPlusOrMinus 3 = .ok (.if_icmp .eq 9, 3) := by decide +kernel
theorem d_Rd_isPlusOrMinus_6 : decode b_Rd_isPlusOrMinus 6 = .ok (.iload_n 0, 1) := by decide +kernel
theorem d_Rd_isPlusOrMinus_7 : decode b_Rd_isPlusOrMinus 7 = .ok (.bipush 45, 2) := by decide +kernel
theorem d_Rd_isPlusOrMinus_9 : decode b_Rd_isPlusOrMinus 9 = .ok (.if_icmp .ne 7, 3) := by decide +kernel
theorem d_Rd_isPlusOrMinus_16 : decode b_Rd_isPlusOrMinus 16 = .ok (.iconst 0, 1) := by decide +kernel
theorem d_Rd_isPlusOrMinus_17 : decode b_Rd_isPlusOrMinus 17 = .ok (.ireturn, 1) := by decide +kernel
theorem d_Rd_readInPlaceOf_0 : decode b_Rd_readInPlaceOf 0 = .ok (.aload_n 0, 1) := by decide +kernel
theorem d_Rd_readInPlaceOf_1 : decode b_Rd_readInPlaceOf 1 = .ok (.iconst 0, 1) := by decide +kernel
theorem d_Rd_readInPlaceOf_2 : decode b_Rd_readInPlaceOf 2 = .ok (.putfield 25, 3) := by decide +kernel
theorem d_Rd_readInPlaceOf_5 : decode b_Rd_readInPlaceOf 5 = .ok (.aload_n 0, 1) := by decide +kernel
theorem d_Rd_readInPlaceOf_6 : decode b_Rd_readInPlaceOf 6 = .ok (.getfield 21, 3) := by decide +kernel
theorem d_Rd_readInPlaceOf_9 : decode b_Rd_readInPlaceOf 9 = .ok (.invokevirtual 32, 3) := by decide +kernel
theorem d_Rd_readInPlaceOf_12 : decode b_Rd_readInPlaceOf 12 = .ok (.iconst 0, 1) := by decide +kernel
theorem d_Rd_readInPlaceOf_13 : decode b_Rd_readInPlaceOf 13 = .ok (.istore_n 2, 1) := by decide +kernel
theorem d_Rd_readInPlaceOf_14 : decode b_Rd_readInPlaceOf 14 = .ok (.iload_n 2, 1) := by decide +kernel
theorem d_Rd_readInPlaceOf_15 : decode b_Rd_readInPlaceOf 15 = .ok (.iconst 3, 1) := by decide +kernel
theorem d_Rd_readInPlaceOf_16 : decode b_Rd_readInPlaceOf 16 = .ok (.if_icmp .ge 23, 3) := by decide +kernel
theorem d_Rd_readInPlaceOf_19 : decode b_Rd_readInPlaceOf 19 = .ok (.aload_n 0, 1) := by decide +kernel
theorem d_Rd_readInPlaceOf_20 : decode b_Rd_readInPlaceOf 20 = .ok (.invokevirtual 35, 3) := by decide +kernel
theorem d_Rd_readInPlaceOf_23 : decode b_Rd_readInPlaceOf 23 = .ok (.invokestatic 39, 3) := by decide +kernel
theorem d_Rd_readInPlaceOf_26 : decode b_Rd_readInPlaceOf 26 = .ok (.ifCond .eq 13, 3) := by decide +kernel
theorem d_Rd_readInPlaceOf_39 : decode b_Rd_readInPlaceOf 39 = .ok (.iconst 0, 1) := by decide +kernel
theorem d_Rd_readInPlaceOf_40 : decode b_Rd_readInPlaceOf 40 = .ok (.istore_n 2, 1) := by decide +kernel
theorem d_Rd_readInPlaceOf_41 : decode b_Rd_readInPlaceOf 41 = .ok (.iload_n 2, 1) := by decide +kernel
theorem d_Rd_readInPlaceOf_42 : decode b_Rd_readInPlaceOf 42 = .ok (.bipush 10, 2) := by decide +kernel
theorem d_Rd_readInPlaceOf_44 : decode b_Rd_readInPlaceOf 44 = .ok (.if_icmp .ge 45, 3) := by decide +kernel
theorem d_Rd_readInPlaceOf_47 : decode b_Rd_readInPlaceOf 47 = .ok (.aload_n 0, 1) := by decide +kernel
theorem d_Rd_readInPlaceOf_48 : decode b_Rd_readInPlaceOf 48 = .ok (.invokevirtual 35, 3) := by decide +kernel
theorem d_Rd_readInPlaceOf_51 : decode b_Rd_readInPlaceOf 51 = .ok (.invokestatic 46, 3) := by decide +kernel
theorem d_Rd_readInPlaceOf_54 : decode b_Rd_readInPlaceOf 54 = .ok (.ifCond .eq 35, 3) := by decide +kernel
theorem d_Rd_readInPlaceOf_89 : decode b_Rd_readInPlaceOf 89 = .ok (.aload_n 0, 1) := by decide +kernel
theorem d_Rd_readInPlaceOf_90 : decode b_Rd_readInPlaceOf 90 = .ok (.bipush 33, 2) := by decide +kernel
theorem d_Rd_readInPlaceOf_92 : decode b_Rd_readInPlaceOf 92 = .ok (.invokevirtual 60, 3) := by decide +kernel
theorem d_Rd_refuse_0 : decode b_Rd_refuse 0 = .ok (.aload_n 0, 1) := by decide +kernel
theorem d_Rd_refuse_1 : decode b_Rd_refuse 1 = .ok (.iload_n 1, 1) := by decide +kernel
theorem d_Rd_refuse_2 : decode b_Rd_refuse 2 = .ok (.putfield 29, 3) := by decide +kernel
theorem d_Rd_refuse_5 : decode b_Rd_refuse 5 = .ok (.new 158, 3) := by decide +kernel
theorem d_Rd_refuse_8 : decode b_Rd_refuse 8 = .ok (.dup, 1) := by decide +kernel
theorem d_Rd_refuse_9 : decode b_Rd_refuse 9 = .ok (.ldc 160, 2) := by decide +kernel
theorem d_Rd_refuse_11 : decode b_Rd_refuse 11 = .ok (.invokespecial 162, 3) := by decide +kernel
theorem d_Rd_refuse_14 : decode b_Rd_refuse 14 = .ok (.athrow, 1) := by decide +kernel
theorem d_Rd_skips_0 : decode b_Rd_skips 0 = .ok (.aload_n 0, 1) := by decide +kernel
theorem d_Rd_skips_1 : decode b_Rd_skips 1 = .ok (.invokevirtual 35, 3) := by decide +kernel
theorem d_Rd_skips_4 : decode b_Rd_skips 4 = .ok (.iload_n 1, 1) := by decide +kernel
theorem d_Rd_skips_5 : decode b_Rd_skips 5 = .ok (.if_icmp .eq 5, 3) := by decide +kernel
theorem d_Rd_skips_8 : decode b_Rd_skips 8 = .ok (.iconst 0, 1) := by decide +kernel
theorem d_Rd_skips_9 : decode b_Rd_skips 9 = .ok (.ireturn, 1) := by decide +kernel
theorem d_Tx_init_0 : decode b_Tx_init 0 = .ok (.aload_n 0, 1) := by decide +kernel
theorem d_Tx_init_1 : decode b_Tx_init 1 = .ok (.invokespecial 3, 3) := by decide +kernel
theorem d_Tx_init_4 : decode b_Tx_init 4 = .ok (.aload_n 0, 1) := by decide +kernel
theorem d_Tx_init_5 : decode b_Tx_init 5 = .ok (.sipush 200, 3) := by decide +kernel
theorem d_Tx_init_8 : decode b_Tx_init 8 = .ok (.newarray .char, 2) := by decide +kernel
theorem d_Tx_init_10 : decode b_Tx_init 10 = .ok (.putfield 9, 3) := by decide +kernel
theorem d_Tx_init_13 : decode b_Tx_init 13 = .ok (.aload_n 0, 1) := by decide +kernel
theorem d_Tx_init_14 : decode b_Tx_init 14 = .ok (.iconst 0, 1) := by decide +kernel
theorem d_Tx_init_15 : decode b_Tx_init 15 = .ok (.putfield 15, 3) := by decide +kernel
theorem d_Tx_init_18 : decode b_Tx_init 18 = .ok (.return_, 1) := by decide +kernel
theorem d_Tx_append_0 : decode b_Tx_append 0 = .ok (.iload_n 3, 1) := by decide +kernel
theorem d_Tx_append_1 : decode b_Tx_append 1 = .ok (.iconst 1, 1) := by decide +kernel
theorem d_Tx_append_2 : decode b_Tx_append 2 = .ok (.if_icmp .lt 29, 3) := by decide +kernel
theorem d_Tx_append_5 : decode b_Tx_append 5 = .ok (.iload_n 3, 1) := by decide +kernel
theorem d_Tx_append_6 : decode b_Tx_append 6 = .ok (.bipush 8, 2) := by decide +kernel
theorem d_Tx_append_8 : decode b_Tx_append 8 = .ok (.if_icmp .gt 23, 3) := by decide +kernel
theorem d_Tx_append_11 : decode b_Tx_append 11 = .ok (.aload_n 0, 1) := by decide +kernel
theorem d_Tx_append_12 : decode b_Tx_append 12 = .ok (.getfield 15, 3) := by decide +kernel
theorem d_Tx_append_15 : decode b_Tx_append 15 = .ok (.iload_n 3, 1) := by decide +kernel
theorem d_Tx_append_16 : decode b_Tx_append 16 = .ok (.iadd, 1) := by decide +kernel
theorem d_Tx_append_17 : decode b_Tx_append 17 = .ok (.sipush 200, 3) := by decide +kernel
theorem d_Tx_append_20 : decode b_Tx_append 20 = .ok (.if_icmp .gt 11, 3) := by decide +kernel
theorem d_Tx_append_23 : decode b_Tx_append 23 = .ok (.lload_n 1, 1) := by decide +kernel
theorem d_Tx_append_24 : decode b_Tx_append 24 = .ok (.iload_n 3, 1) := by decide +kernel
theorem d_Tx_append_25 : decode b_Tx_append 25 = .ok (.invokestatic 19, 3) := by decide +kernel
theorem d_Tx_append_28 : decode b_Tx_append 28 = .ok (.ifCond .ne 5, 3) := by decide +kernel
theorem d_Tx_append_31 : decode b_Tx_append 31 = .ok (.iconst (-1), 1) := by decide +kernel
theorem d_Tx_append_32 : decode b_Tx_append 32 = .ok (.ireturn, 1) := by decide +kernel
theorem d_Tx_append_33 : decode b_Tx_append 33 = .ok (.iload_n 3, 1) := by decide +kernel
theorem d_Tx_append_34 : decode b_Tx_append 34 = .ok (.iconst 1, 1) := by decide +kernel
theorem d_Tx_append_35 : decode b_Tx_append 35 = .ok (.isub, 1) := by decide +kernel
theorem d_Tx_append_36 : decode b_Tx_append 36 = .ok (.istore 4, 2) := by decide +kernel
theorem d_Tx_append_38 : decode b_Tx_append 38 = .ok (.iload 4, 2) := by decide +kernel
theorem d_Tx_append_40 : decode b_Tx_append 40 = .ok (.ifCond .lt 35, 3) := by decide +kernel
theorem d_Tx_append_43 : decode b_Tx_append 43 = .ok (.aload_n 0, 1) := by decide +kernel
theorem d_Tx_append_44 : decode b_Tx_append 44 = .ok (.getfield 9, 3) := by decide +kernel
theorem d_Tx_append_47 : decode b_Tx_append 47 = .ok (.aload_n 0, 1) := by decide +kernel
theorem d_Tx_append_48 : decode b_Tx_append 48 = .ok (.getfield 15, 3) := by decide +kernel
theorem d_Tx_append_51 : decode b_Tx_append 51 = .ok (.lload_n 1, 1) := by decide +kernel
theorem d_Tx_append_52 : decode b_Tx_append 52 = .ok (.iload 4, 2) := by decide +kernel
theorem d_Tx_append_54 : decode b_Tx_append 54 = .ok (.invokestatic 23, 3) := by decide +kernel
theorem d_Tx_append_57 : decode b_Tx_append 57 = .ok (.i2c, 1) := by decide +kernel
theorem d_Tx_append_58 : decode b_Tx_append 58 = .ok (.castore, 1) := by decide +kernel
theorem d_Tx_append_59 : decode b_Tx_append 59 = .ok (.aload_n 0, 1) := by decide +kernel
theorem d_Tx_append_60 : decode b_Tx_append 60 = .ok (.dup, 1) := by decide +kernel
theorem d_Tx_append_61 : decode b_Tx_append 61 = .ok (.getfield 15, 3) := by decide +kernel
theorem d_Tx_append_64 : decode b_Tx_append 64 = .ok (.iconst 1, 1) := by decide +kernel
theorem d_Tx_append_65 : decode b_Tx_append 65 = .ok (.iadd, 1) := by decide +kernel
theorem d_Tx_append_66 : decode b_Tx_append 66 = .ok (.putfield 15, 3) := by decide +kernel
theorem d_Tx_append_69 : decode b_Tx_append 69 = .ok (.iinc 4 (-1), 3) := by decide +kernel
theorem d_Tx_append_72 : decode b_Tx_append 72 = .ok (.goto (-34), 3) := by decide +kernel
theorem d_Tx_append_75 : decode b_Tx_append 75 = .ok (.aload_n 0, 1) := by decide +kernel
theorem d_Tx_append_76 : decode b_Tx_append 76 = .ok (.getfield 15, 3) := by decide +kernel
theorem d_Tx_append_79 : decode b_Tx_append 79 = .ok (.ireturn, 1) := by decide +kernel
theorem d_Tx_areTypeable_0 : decode b_Tx_areTypeable 0 = .ok (.iconst 0, 1) := by decide +kernel
theorem d_Tx_areTypeable_1 : decode b_Tx_areTypeable 1 = .ok (.istore_n 3, 1) := by decide +kernel
theorem d_Tx_areTypeable_2 : decode b_Tx_areTypeable 2 = .ok (.iload_n 3, 1) := by decide +kernel
theorem d_Tx_areTypeable_3 : decode b_Tx_areTypeable 3 = .ok (.iload_n 2, 1) := by decide +kernel
theorem d_Tx_areTypeable_4 : decode b_Tx_areTypeable 4 = .ok (.if_icmp .ge 32, 3) := by decide +kernel
theorem d_Tx_areTypeable_7 : decode b_Tx_areTypeable 7 = .ok (.lload_n 0, 1) := by decide +kernel
theorem d_Tx_areTypeable_8 : decode b_Tx_areTypeable 8 = .ok (.iload_n 3, 1) := by decide +kernel
theorem d_Tx_areTypeable_9 : decode b_Tx_areTypeable 9 = .ok (.invokestatic 23, 3) := by decide +kernel
theorem d_Tx_areTypeable_12 : decode b_Tx_areTypeable 12 = .ok (.istore 4, 2) := by decide +kernel
theorem d_Tx_areTypeable_14 : decode b_Tx_areTypeable 14 = .ok (.iload 4, 2) := by decide +kernel
theorem d_Tx_areTypeable_16 : decode b_Tx_areTypeable 16 = .ok (.bipush 33, 2) := by decide +kernel
theorem d_Tx_areTypeable_18 : decode b_Tx_areTypeable 18 = .ok (.if_icmp .lt 10, 3) := by decide +kernel
theorem d_Tx_areTypeable_21 : decode b_Tx_areTypeable 21 = .ok (.iload 4, 2) := by decide +kernel
theorem d_Tx_areTypeable_23 : decode b_Tx_areTypeable 23 = .ok (.bipush 126, 2) := by decide +kernel
theorem d_Tx_areTypeable_25 : decode b_Tx_areTypeable 25 = .ok (.if_icmp .le 5, 3) := by decide +kernel
theorem d_Tx_areTypeable_28 : decode b_Tx_areTypeable 28 = .ok (.iconst 0, 1) := by decide +kernel
theorem d_Tx_areTypeable_29 : decode b_Tx_areTypeable 29 = .ok (.ireturn, 1) := by decide +kernel
theorem d_Tx_areTypeable_30 : decode b_Tx_areTypeable 30 = .ok (.iinc 3 1, 3) := by decide +kernel
theorem d_Tx_areTypeable_33 : decode b_Tx_areTypeable 33 = .ok (.goto (-31), 3) := by decide +kernel
theorem d_Tx_areTypeable_36 : decode b_Tx_areTypeable 36 = .ok (.iconst 1, 1) := by decide +kernel
theorem d_Tx_areTypeable_37 : decode b_Tx_areTypeable 37 = .ok (.ireturn, 1) := by decide +kernel
theorem d_Tx_byteAt_0 : decode b_Tx_byteAt 0 = .ok (.lload_n 0, 1) := by decide +kernel
theorem d_Tx_byteAt_1 : decode b_Tx_byteAt 1 = .ok (.bipush 8, 2) := by decide +kernel
theorem d_Tx_byteAt_3 : decode b_Tx_byteAt 3 = .ok (.iload_n 2, 1) := by decide +kernel
theorem d_Tx_byteAt_4 : decode b_Tx_byteAt 4 = .ok (.imul, 1) := by decide +kernel
theorem d_Tx_byteAt_5 : decode b_Tx_byteAt 5 = .ok (.lshr, 1) := by decide +kernel
theorem d_Tx_byteAt_6 : decode b_Tx_byteAt 6 = .ok (.l2i, 1) := by decide +kernel
theorem d_Tx_byteAt_7 : decode b_Tx_byteAt 7 = .ok (.sipush 255, 3) := by decide +kernel
theorem d_Tx_byteAt_10 : decode b_Tx_byteAt 10 = .ok (.iand, 1) := by decide +kernel
theorem d_Tx_byteAt_11 : decode b_Tx_byteAt 11 = .ok (.ireturn, 1) := by decide +kernel
theorem d_Tx_clear_0 : decode b_Tx_clear 0 = .ok (.aload_n 0, 1) := by decide +kernel
theorem d_Tx_clear_1 : decode b_Tx_clear 1 = .ok (.getfield 15, 3) := by decide +kernel
theorem d_Tx_clear_4 : decode b_Tx_clear 4 = .ok (.istore_n 1, 1) := by decide +kernel
theorem d_Tx_clear_5 : decode b_Tx_clear 5 = .ok (.aload_n 0, 1) := by decide +kernel
theorem d_Tx_clear_6 : decode b_Tx_clear 6 = .ok (.iconst 0, 1) := by decide +kernel
theorem d_Tx_clear_7 : decode b_Tx_clear 7 = .ok (.putfield 15, 3) := by decide +kernel
theorem d_Tx_clear_10 : decode b_Tx_clear 10 = .ok (.iload_n 1, 1) := by decide +kernel
theorem d_Tx_clear_11 : decode b_Tx_clear 11 = .ok (.ireturn, 1) := by decide +kernel
theorem d_Gm_init_0 : decode b_Gm_init 0 = .ok (.aload_n 0, 1) := by decide +kernel
theorem d_Gm_init_1 : decode b_Gm_init 1 = .ok (.invokespecial 3, 3) := by decide +kernel
theorem d_Gm_init_4 : decode b_Gm_init 4 = .ok (.aload_n 0, 1) := by decide +kernel
theorem d_Gm_init_5 : decode b_Gm_init 5 = .ok (.iconst 3, 1) := by decide +kernel
theorem d_Gm_init_6 : decode b_Gm_init 6 = .ok (.newarray .int, 2) := by decide +kernel
theorem d_Gm_init_8 : decode b_Gm_init 8 = .ok (.putfield 9, 3) := by decide +kernel
theorem d_Gm_init_11 : decode b_Gm_init 11 = .ok (.aload_n 0, 1) := by decide +kernel
theorem d_Gm_init_12 : decode b_Gm_init 12 = .ok (.iconst 3, 1) := by decide +kernel
theorem d_Gm_init_13 : decode b_Gm_init 13 = .ok (.newarray .int, 2) := by decide +kernel
theorem d_Gm_init_15 : decode b_Gm_init 15 = .ok (.putfield 15, 3) := by decide +kernel
theorem d_Gm_init_18 : decode b_Gm_init 18 = .ok (.aload_n 0, 1) := by decide +kernel
theorem d_Gm_init_19 : decode b_Gm_init 19 = .ok (.bipush 10, 2) := by decide +kernel
theorem d_Gm_init_21 : decode b_Gm_init 21 = .ok (.anewarray 18, 3) := by decide +kernel
theorem d_Gm_init_24 : decode b_Gm_init 24 = .ok (.putfield 20, 3) := by decide +kernel
theorem d_Gm_init_27 : decode b_Gm_init 27 = .ok (.aload_n 0, 1) := by decide +kernel
theorem d_Gm_init_28 : decode b_Gm_init 28 = .ok (.new 24, 3) := by decide +kernel
theorem d_Gm_init_31 : decode b_Gm_init 31 = .ok (.dup, 1) := by decide +kernel
theorem d_Gm_init_32 : decode b_Gm_init 32 = .ok (.invokespecial 26, 3) := by decide +kernel
theorem d_Gm_init_35 : decode b_Gm_init 35 = .ok (.putfield 27, 3) := by decide +kernel
theorem d_Gm_init_38 : decode b_Gm_init 38 = .ok (.aload_n 0, 1) := by decide +kernel
theorem d_Gm_init_39 : decode b_Gm_init 39 = .ok (.iconst 0, 1) := by decide +kernel
theorem d_Gm_init_40 : decode b_Gm_init 40 = .ok (.putfield 31, 3) := by decide +kernel
theorem d_Gm_init_43 : decode b_Gm_init 43 = .ok (.iconst 0, 1) := by decide +kernel
theorem d_Gm_init_44 : decode b_Gm_init 44 = .ok (.istore_n 1, 1) := by decide +kernel
theorem d_Gm_init_45 : decode b_Gm_init 45 = .ok (.iload_n 1, 1) := by decide +kernel
theorem d_Gm_init_46 : decode b_Gm_init 46 = .ok (.bipush 10, 2) := by decide +kernel
theorem d_Gm_init_48 : decode b_Gm_init 48 = .ok (.if_icmp .ge 22, 3) := by decide +kernel
theorem d_Gm_init_51 : decode b_Gm_init 51 = .ok (.aload_n 0, 1) := by decide +kernel
theorem d_Gm_init_52 : decode b_Gm_init 52 = .ok (.getfield 20, 3) := by decide +kernel
theorem d_Gm_init_55 : decode b_Gm_init 55 = .ok (.iload_n 1, 1) := by decide +kernel
theorem d_Gm_init_56 : decode b_Gm_init 56 = .ok (.new 18, 3) := by decide +kernel
theorem d_Gm_init_59 : decode b_Gm_init 59 = .ok (.dup, 1) := by decide +kernel
theorem d_Gm_init_60 : decode b_Gm_init 60 = .ok (.invokespecial 35, 3) := by decide +kernel
theorem d_Gm_init_63 : decode b_Gm_init 63 = .ok (.aastore, 1) := by decide +kernel
theorem d_Gm_init_64 : decode b_Gm_init 64 = .ok (.iinc 1 1, 3) := by decide +kernel
theorem d_Gm_init_67 : decode b_Gm_init 67 = .ok (.goto (-22), 3) := by decide +kernel
theorem d_Gm_init_70 : decode b_Gm_init 70 = .ok (.return_, 1) := by decide +kernel
theorem d_Gm_clear_0 : decode b_Gm_clear 0 = .ok (.iconst 0, 1) := by decide +kernel
theorem d_Gm_clear_1 : decode b_Gm_clear 1 = .ok (.istore_n 1, 1) := by decide +kernel
theorem d_Gm_clear_2 : decode b_Gm_clear 2 = .ok (.iload_n 1, 1) := by decide +kernel
theorem d_Gm_clear_3 : decode b_Gm_clear 3 = .ok (.iconst 3, 1) := by decide +kernel
theorem d_Gm_clear_4 : decode b_Gm_clear 4 = .ok (.if_icmp .ge 23, 3) := by decide +kernel
theorem d_Gm_clear_7 : decode b_Gm_clear 7 = .ok (.aload_n 0, 1) := by decide +kernel
theorem d_Gm_clear_8 : decode b_Gm_clear 8 = .ok (.getfield 9, 3) := by decide +kernel
theorem d_Gm_clear_11 : decode b_Gm_clear 11 = .ok (.iload_n 1, 1) := by decide +kernel
theorem d_Gm_clear_12 : decode b_Gm_clear 12 = .ok (.iconst 0, 1) := by decide +kernel
theorem d_Gm_clear_13 : decode b_Gm_clear 13 = .ok (.iastore, 1) := by decide +kernel
theorem d_Gm_clear_14 : decode b_Gm_clear 14 = .ok (.aload_n 0, 1) := by decide +kernel
theorem d_Gm_clear_15 : decode b_Gm_clear 15 = .ok (.getfield 15, 3) := by decide +kernel
theorem d_Gm_clear_18 : decode b_Gm_clear 18 = .ok (.iload_n 1, 1) := by decide +kernel
theorem d_Gm_clear_19 : decode b_Gm_clear 19 = .ok (.iconst 0, 1) := by decide +kernel
theorem d_Gm_clear_20 : decode b_Gm_clear 20 = .ok (.iastore, 1) := by decide +kernel
theorem d_Gm_clear_21 : decode b_Gm_clear 21 = .ok (.iinc 1 1, 3) := by decide +kernel
theorem d_Gm_clear_24 : decode b_Gm_clear 24 = .ok (.goto (-22), 3) := by decide +kernel
theorem d_Gm_clear_27 : decode b_Gm_clear 27 = .ok (.aload_n 0, 1) := by decide +kernel
theorem d_Gm_clear_28 : decode b_Gm_clear 28 = .ok (.iconst 0, 1) := by decide +kernel
theorem d_Gm_clear_29 : decode b_Gm_clear 29 = .ok (.putfield 31, 3) := by decide +kernel
theorem d_Gm_clear_32 : decode b_Gm_clear 32 = .ok (.return_, 1) := by decide +kernel
theorem d_Cm_init_0 : decode b_Cm_init 0 = .ok (.aload_n 0, 1) := by decide +kernel
theorem d_Cm_init_1 : decode b_Cm_init 1 = .ok (.invokespecial 3, 3) := by decide +kernel
theorem d_Cm_init_4 : decode b_Cm_init 4 = .ok (.aload_n 0, 1) := by decide +kernel
theorem d_Cm_init_5 : decode b_Cm_init 5 = .ok (.new 9, 3) := by decide +kernel
theorem d_Cm_init_8 : decode b_Cm_init 8 = .ok (.dup, 1) := by decide +kernel
theorem d_Cm_init_9 : decode b_Cm_init 9 = .ok (.invokespecial 11, 3) := by decide +kernel
theorem d_Cm_init_12 : decode b_Cm_init 12 = .ok (.putfield 12, 3) := by decide +kernel
theorem d_Cm_init_15 : decode b_Cm_init 15 = .ok (.aload_n 0, 1) := by decide +kernel
theorem d_Cm_init_16 : decode b_Cm_init 16 = .ok (.iconst 4, 1) := by decide +kernel
theorem d_Cm_init_17 : decode b_Cm_init 17 = .ok (.anewarray 18, 3) := by decide +kernel
theorem d_Cm_init_20 : decode b_Cm_init 20 = .ok (.putfield 20, 3) := by decide +kernel
theorem d_Cm_init_23 : decode b_Cm_init 23 = .ok (.aload_n 0, 1) := by decide +kernel
theorem d_Cm_init_24 : decode b_Cm_init 24 = .ok (.iconst 0, 1) := by decide +kernel
theorem d_Cm_init_25 : decode b_Cm_init 25 = .ok (.putfield 24, 3) := by decide +kernel
theorem d_Cm_init_28 : decode b_Cm_init 28 = .ok (.aload_n 0, 1) := by decide +kernel
theorem d_Cm_init_29 : decode b_Cm_init 29 = .ok (.iconst 0, 1) := by decide +kernel
theorem d_Cm_init_30 : decode b_Cm_init 30 = .ok (.putfield 28, 3) := by decide +kernel
theorem d_Cm_init_33 : decode b_Cm_init 33 = .ok (.aload_n 0, 1) := by decide +kernel
theorem d_Cm_init_34 : decode b_Cm_init 34 = .ok (.iconst 0, 1) := by decide +kernel
theorem d_Cm_init_35 : decode b_Cm_init 35 = .ok (.putfield 32, 3) := by decide +kernel
theorem d_Cm_init_38 : decode b_Cm_init 38 = .ok (.iconst 0, 1) := by decide +kernel
theorem d_Cm_init_39 : decode b_Cm_init 39 = .ok (.istore_n 1, 1) := by decide +kernel
theorem d_Cm_init_40 : decode b_Cm_init 40 = .ok (.iload_n 1, 1) := by decide +kernel
theorem d_Cm_init_41 : decode b_Cm_init 41 = .ok (.iconst 4, 1) := by decide +kernel
theorem d_Cm_init_42 : decode b_Cm_init 42 = .ok (.if_icmp .ge 22, 3) := by decide +kernel
theorem d_Cm_init_45 : decode b_Cm_init 45 = .ok (.aload_n 0, 1) := by decide +kernel
theorem d_Cm_init_46 : decode b_Cm_init 46 = .ok (.getfield 20, 3) := by decide +kernel
theorem d_Cm_init_49 : decode b_Cm_init 49 = .ok (.iload_n 1, 1) := by decide +kernel
theorem d_Cm_init_50 : decode b_Cm_init 50 = .ok (.new 18, 3) := by decide +kernel
theorem d_Cm_init_53 : decode b_Cm_init 53 = .ok (.dup, 1) := by decide +kernel
theorem d_Cm_init_54 : decode b_Cm_init 54 = .ok (.invokespecial 35, 3) := by decide +kernel
theorem d_Cm_init_57 : decode b_Cm_init 57 = .ok (.aastore, 1) := by decide +kernel
theorem d_Cm_init_58 : decode b_Cm_init 58 = .ok (.iinc 1 1, 3) := by decide +kernel
theorem d_Cm_init_61 : decode b_Cm_init 61 = .ok (.goto (-21), 3) := by decide +kernel
theorem d_Cm_init_64 : decode b_Cm_init 64 = .ok (.return_, 1) := by decide +kernel
theorem d_Gu_init_0 : decode b_Gu_init 0 = .ok (.aload_n 0, 1) := by decide +kernel
theorem d_Gu_init_1 : decode b_Gu_init 1 = .ok (.invokespecial 3, 3) := by decide +kernel
