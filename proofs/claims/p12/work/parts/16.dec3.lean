theorem d_Go_chooseForMax_27 : decode b_Go_chooseForMax 27 = .ok (.iastore, 1) := by decide +kernel
theorem d_Go_chooseForMax_28 : decode b_Go_chooseForMax 28 = .ok (.iconst 0, 1) := by decide +kernel
theorem d_Go_chooseForMax_29 : decode b_Go_chooseForMax 29 = .ok (.istore 6, 2) := by decide +kernel
theorem d_Go_chooseForMax_31 : decode b_Go_chooseForMax 31 = .ok (.iload 6, 2) := by decide +kernel
theorem d_Go_chooseForMax_33 : decode b_Go_chooseForMax 33 = .ok (.aload_n 1, 1) := by decide +kernel
theorem d_Go_chooseForMax_34 : decode b_Go_chooseForMax 34 = .ok (.getfield 55, 3) := by decide +kernel
theorem d_Go_chooseForMax_37 : decode b_Go_chooseForMax 37 = .ok (.getfield 59, 3) := by decide +kernel
theorem d_Go_chooseForMax_40 : decode b_Go_chooseForMax 40 = .ok (.if_icmp .ge 64, 3) := by decide +kernel
theorem d_Go_chooseForMax_43 : decode b_Go_chooseForMax 43 = .ok (.aload_n 0, 1) := by decide +kernel
theorem d_Go_chooseForMax_44 : decode b_Go_chooseForMax 44 = .ok (.getfield 18, 3) := by decide +kernel
theorem d_Go_chooseForMax_47 : decode b_Go_chooseForMax 47 = .ok (.iload_n 2, 1) := by decide +kernel
theorem d_Go_chooseForMax_48 : decode b_Go_chooseForMax 48 = .ok (.iaload, 1) := by decide +kernel
theorem d_Go_chooseForMax_49 : decode b_Go_chooseForMax 49 = .ok (.iconst (-1), 1) := by decide +kernel
theorem d_Go_chooseForMax_50 : decode b_Go_chooseForMax 50 = .ok (.if_icmp .ne 54, 3) := by decide +kernel
theorem d_Go_chooseForMax_53 : decode b_Go_chooseForMax 53 = .ok (.iload 5, 2) := by decide +kernel
theorem d_Go_chooseForMax_55 : decode b_Go_chooseForMax 55 = .ok (.iload 6, 2) := by decide +kernel
theorem d_Go_chooseForMax_57 : decode b_Go_chooseForMax 57 = .ok (.invokestatic 65, 3) := by decide +kernel
theorem d_Go_chooseForMax_60 : decode b_Go_chooseForMax 60 = .ok (.ifCond .eq 38, 3) := by decide +kernel
theorem d_Go_chooseForMax_63 : decode b_Go_chooseForMax 63 = .ok (.aload_n 0, 1) := by decide +kernel
theorem d_Go_chooseForMax_64 : decode b_Go_chooseForMax 64 = .ok (.getfield 12, 3) := by decide +kernel
theorem d_Go_chooseForMax_67 : decode b_Go_chooseForMax 67 = .ok (.getfield 28, 3) := by decide +kernel
theorem d_Go_chooseForMax_70 : decode b_Go_chooseForMax 70 = .ok (.iload_n 2, 1) := by decide +kernel
theorem d_Go_chooseForMax_71 : decode b_Go_chooseForMax 71 = .ok (.iconst 1, 1) := by decide +kernel
theorem d_Go_chooseForMax_72 : decode b_Go_chooseForMax 72 = .ok (.iload 6, 2) := by decide +kernel
theorem d_Go_chooseForMax_74 : decode b_Go_chooseForMax 74 = .ok (.ishl, 1) := by decide +kernel
theorem d_Go_chooseForMax_75 : decode b_Go_chooseForMax 75 = .ok (.iastore, 1) := by decide +kernel
theorem d_Go_chooseForMax_76 : decode b_Go_chooseForMax 76 = .ok (.aload_n 0, 1) := by decide +kernel
theorem d_Go_chooseForMax_77 : decode b_Go_chooseForMax 77 = .ok (.getfield 12, 3) := by decide +kernel
theorem d_Go_chooseForMax_80 : decode b_Go_chooseForMax 80 = .ok (.aload_n 1, 1) := by decide +kernel
theorem d_Go_chooseForMax_81 : decode b_Go_chooseForMax 81 = .ok (.iload_n 3, 1) := by decide +kernel
theorem d_Go_chooseForMax_82 : decode b_Go_chooseForMax 82 = .ok (.invokevirtual 72, 3) := by decide +kernel
theorem d_Go_chooseForMax_85 : decode b_Go_chooseForMax 85 = .ok (.iload 4, 2) := by decide +kernel
theorem d_Go_chooseForMax_87 : decode b_Go_chooseForMax 87 = .ok (.if_icmp .ne 11, 3) := by decide +kernel
theorem d_Go_chooseForMax_90 : decode b_Go_chooseForMax 90 = .ok (.aload_n 0, 1) := by decide +kernel
theorem d_Go_chooseForMax_91 : decode b_Go_chooseForMax 91 = .ok (.getfield 18, 3) := by decide +kernel
theorem d_Go_chooseForMax_94 : decode b_Go_chooseForMax 94 = .ok (.iload_n 2, 1) := by decide +kernel
theorem d_Go_chooseForMax_95 : decode b_Go_chooseForMax 95 = .ok (.iload 6, 2) := by decide +kernel
theorem d_Go_chooseForMax_97 : decode b_Go_chooseForMax 97 = .ok (.iastore, 1) := by decide +kernel
theorem d_Go_chooseForMax_98 : decode b_Go_chooseForMax 98 = .ok (.iinc 6 1, 3) := by decide +kernel
theorem d_Go_chooseForMax_101 : decode b_Go_chooseForMax 101 = .ok (.goto (-70), 3) := by decide +kernel
theorem d_Go_chooseForMax_104 : decode b_Go_chooseForMax 104 = .ok (.return_, 1) := by decide +kernel
theorem d_Go_choose_0 : decode b_Go_choose 0 = .ok (.iconst 0, 1) := by decide +kernel
theorem d_Go_choose_1 : decode b_Go_choose 1 = .ok (.istore_n 3, 1) := by decide +kernel
theorem d_Go_choose_2 : decode b_Go_choose 2 = .ok (.iload_n 3, 1) := by decide +kernel
theorem d_Go_choose_3 : decode b_Go_choose 3 = .ok (.aload_n 1, 1) := by decide +kernel
theorem d_Go_choose_4 : decode b_Go_choose 4 = .ok (.getfield 22, 3) := by decide +kernel
theorem d_Go_choose_7 : decode b_Go_choose 7 = .ok (.if_icmp .ge 24, 3) := by decide +kernel
theorem d_Go_choose_10 : decode b_Go_choose 10 = .ok (.aload_n 0, 1) := by decide +kernel
theorem d_Go_choose_11 : decode b_Go_choose 11 = .ok (.getfield 12, 3) := by decide +kernel
theorem d_Go_choose_14 : decode b_Go_choose 14 = .ok (.getfield 28, 3) := by decide +kernel
theorem d_Go_choose_17 : decode b_Go_choose 17 = .ok (.iload_n 3, 1) := by decide +kernel
theorem d_Go_choose_18 : decode b_Go_choose 18 = .ok (.aload_n 1, 1) := by decide +kernel
theorem d_Go_choose_19 : decode b_Go_choose 19 = .ok (.aload_n 2, 1) := by decide +kernel
theorem d_Go_choose_20 : decode b_Go_choose 20 = .ok (.iload_n 3, 1) := by decide +kernel
theorem d_Go_choose_21 : decode b_Go_choose 21 = .ok (.invokestatic 31, 3) := by decide +kernel
theorem d_Go_choose_24 : decode b_Go_choose 24 = .ok (.iastore, 1) := by decide +kernel
theorem d_Go_choose_25 : decode b_Go_choose 25 = .ok (.iinc 3 1, 3) := by decide +kernel
theorem d_Go_choose_28 : decode b_Go_choose 28 = .ok (.goto (-26), 3) := by decide +kernel
theorem d_Go_choose_31 : decode b_Go_choose 31 = .ok (.iconst 1, 1) := by decide +kernel
theorem d_Go_choose_32 : decode b_Go_choose 32 = .ok (.aload_n 1, 1) := by decide +kernel
theorem d_Go_choose_33 : decode b_Go_choose 33 = .ok (.getfield 22, 3) := by decide +kernel
theorem d_Go_choose_36 : decode b_Go_choose 36 = .ok (.ishl, 1) := by decide +kernel
theorem d_Go_choose_37 : decode b_Go_choose 37 = .ok (.iconst 1, 1) := by decide +kernel
theorem d_Go_choose_38 : decode b_Go_choose 38 = .ok (.isub, 1) := by decide +kernel
theorem d_Go_choose_39 : decode b_Go_choose 39 = .ok (.istore_n 3, 1) := by decide +kernel
theorem d_Go_choose_40 : decode b_Go_choose 40 = .ok (.aload_n 1, 1) := by decide +kernel
theorem d_Go_choose_41 : decode b_Go_choose 41 = .ok (.getfield 35, 3) := by decide +kernel
theorem d_Go_choose_44 : decode b_Go_choose 44 = .ok (.iload_n 3, 1) := by decide +kernel
theorem d_Go_choose_45 : decode b_Go_choose 45 = .ok (.aload_n 2, 1) := by decide +kernel
theorem d_Go_choose_46 : decode b_Go_choose 46 = .ok (.getfield 38, 3) := by decide +kernel
theorem d_Go_choose_49 : decode b_Go_choose 49 = .ok (.iconst (-1), 1) := by decide +kernel
theorem d_Go_choose_50 : decode b_Go_choose 50 = .ok (.ixor, 1) := by decide +kernel
theorem d_Go_choose_51 : decode b_Go_choose 51 = .ok (.iand, 1) := by decide +kernel
theorem d_Go_choose_52 : decode b_Go_choose 52 = .ok (.ior, 1) := by decide +kernel
theorem d_Go_choose_53 : decode b_Go_choose 53 = .ok (.istore 4, 2) := by decide +kernel
theorem d_Go_choose_55 : decode b_Go_choose 55 = .ok (.iconst 0, 1) := by decide +kernel
theorem d_Go_choose_56 : decode b_Go_choose 56 = .ok (.istore 5, 2) := by decide +kernel
theorem d_Go_choose_58 : decode b_Go_choose 58 = .ok (.iload 5, 2) := by decide +kernel
theorem d_Go_choose_60 : decode b_Go_choose 60 = .ok (.aload_n 1, 1) := by decide +kernel
theorem d_Go_choose_61 : decode b_Go_choose 61 = .ok (.getfield 22, 3) := by decide +kernel
theorem d_Go_choose_64 : decode b_Go_choose 64 = .ok (.if_icmp .ge 50, 3) := by decide +kernel
theorem d_Go_choose_67 : decode b_Go_choose 67 = .ok (.aload_n 1, 1) := by decide +kernel
theorem d_Go_choose_68 : decode b_Go_choose 68 = .ok (.iload 5, 2) := by decide +kernel
theorem d_Go_choose_70 : decode b_Go_choose 70 = .ok (.invokevirtual 43, 3) := by decide +kernel
theorem d_Go_choose_73 : decode b_Go_choose 73 = .ok (.ifCond .eq 15, 3) := by decide +kernel
theorem d_Go_choose_76 : decode b_Go_choose 76 = .ok (.aload_n 0, 1) := by decide +kernel
theorem d_Go_choose_77 : decode b_Go_choose 77 = .ok (.aload_n 1, 1) := by decide +kernel
theorem d_Go_choose_78 : decode b_Go_choose 78 = .ok (.iload 5, 2) := by decide +kernel
theorem d_Go_choose_80 : decode b_Go_choose 80 = .ok (.iload 4, 2) := by decide +kernel
theorem d_Go_choose_82 : decode b_Go_choose 82 = .ok (.invokevirtual 47, 3) := by decide +kernel
theorem d_Go_choose_85 : decode b_Go_choose 85 = .ok (.goto 23, 3) := by decide +kernel
theorem d_Go_choose_88 : decode b_Go_choose 88 = .ok (.aload_n 0, 1) := by decide +kernel
theorem d_Go_choose_89 : decode b_Go_choose 89 = .ok (.getfield 18, 3) := by decide +kernel
theorem d_Go_choose_92 : decode b_Go_choose 92 = .ok (.iload 5, 2) := by decide +kernel
theorem d_Go_choose_94 : decode b_Go_choose 94 = .ok (.aload_n 0, 1) := by decide +kernel
theorem d_Go_choose_95 : decode b_Go_choose 95 = .ok (.getfield 12, 3) := by decide +kernel
theorem d_Go_choose_98 : decode b_Go_choose 98 = .ok (.getfield 28, 3) := by decide +kernel
theorem d_Go_choose_101 : decode b_Go_choose 101 = .ok (.iload 5, 2) := by decide +kernel
theorem d_Go_choose_103 : decode b_Go_choose 103 = .ok (.iaload, 1) := by decide +kernel
theorem d_Go_choose_104 : decode b_Go_choose 104 = .ok (.invokestatic 51, 3) := by decide +kernel
theorem d_Go_choose_107 : decode b_Go_choose 107 = .ok (.iastore, 1) := by decide +kernel
theorem d_Go_choose_108 : decode b_Go_choose 108 = .ok (.iinc 5 1, 3) := by decide +kernel
theorem d_Go_choose_111 : decode b_Go_choose 111 = .ok (.goto (-53), 3) := by decide +kernel
theorem d_Go_choose_114 : decode b_Go_choose 114 = .ok (.return_, 1) := by decide +kernel
theorem d_CG_solve_0 : decode b_CG_solve 0 = .ok (.aload_n 0, 1) := by decide +kernel
theorem d_CG_solve_1 : decode b_CG_solve 1 = .ok (.getfield 40, 3) := by decide +kernel
theorem d_CG_solve_4 : decode b_CG_solve 4 = .ok (.ifCond .ne 13, 3) := by decide +kernel
theorem d_CG_solve_7 : decode b_CG_solve 7 = .ok (.new 80, 3) := by decide +kernel
theorem d_CG_solve_10 : decode b_CG_solve 10 = .ok (.dup, 1) := by decide +kernel
theorem d_CG_solve_11 : decode b_CG_solve 11 = .ok (.ldc 82, 2) := by decide +kernel
theorem d_CG_solve_13 : decode b_CG_solve 13 = .ok (.invokespecial 84, 3) := by decide +kernel
theorem d_CG_solve_16 : decode b_CG_solve 16 = .ok (.athrow, 1) := by decide +kernel
theorem d_CG_solve_17 : decode b_CG_solve 17 = .ok (.aload_n 0, 1) := by decide +kernel
theorem d_CG_solve_18 : decode b_CG_solve 18 = .ok (.getfield 32, 3) := by decide +kernel
theorem d_CG_solve_21 : decode b_CG_solve 21 = .ok (.invokevirtual 87, 3) := by decide +kernel
theorem d_CG_solve_24 : decode b_CG_solve 24 = .ok (.istore_n 1, 1) := by decide +kernel
theorem d_CG_solve_25 : decode b_CG_solve 25 = .ok (.aload_n 0, 1) := by decide +kernel
theorem d_CG_solve_26 : decode b_CG_solve 26 = .ok (.getfield 32, 3) := by decide +kernel
theorem d_CG_solve_29 : decode b_CG_solve 29 = .ok (.invokevirtual 90, 3) := by decide +kernel
theorem d_CG_solve_32 : decode b_CG_solve 32 = .ok (.aload_n 0, 1) := by decide +kernel
theorem d_CG_solve_33 : decode b_CG_solve 33 = .ok (.iload_n 1, 1) := by decide +kernel
theorem d_CG_solve_34 : decode b_CG_solve 34 = .ok (.ifCond .le 7, 3) := by decide +kernel
theorem d_CG_solve_37 : decode b_CG_solve 37 = .ok (.iconst 1, 1) := by decide +kernel
theorem d_CG_solve_38 : decode b_CG_solve 38 = .ok (.goto 4, 3) := by decide +kernel
theorem d_CG_solve_41 : decode b_CG_solve 41 = .ok (.iconst 0, 1) := by decide +kernel
theorem d_CG_solve_42 : decode b_CG_solve 42 = .ok (.putfield 44, 3) := by decide +kernel
theorem d_CG_solve_45 : decode b_CG_solve 45 = .ok (.aload_n 0, 1) := by decide +kernel
theorem d_CG_solve_46 : decode b_CG_solve 46 = .ok (.getfield 44, 3) := by decide +kernel
theorem d_CG_solve_49 : decode b_CG_solve 49 = .ok (.ifCond .eq 25, 3) := by decide +kernel
theorem d_CG_solve_52 : decode b_CG_solve 52 = .ok (.aload_n 0, 1) := by decide +kernel
theorem d_CG_solve_53 : decode b_CG_solve 53 = .ok (.getfield 24, 3) := by decide +kernel
theorem d_CG_solve_56 : decode b_CG_solve 56 = .ok (.invokevirtual 93, 3) := by decide +kernel
theorem d_CG_solve_59 : decode b_CG_solve 59 = .ok (.aload_n 0, 1) := by decide +kernel
theorem d_CG_solve_60 : decode b_CG_solve 60 = .ok (.getfield 36, 3) := by decide +kernel
theorem d_CG_solve_63 : decode b_CG_solve 63 = .ok (.aload_n 0, 1) := by decide +kernel
theorem d_CG_solve_64 : decode b_CG_solve 64 = .ok (.getfield 32, 3) := by decide +kernel
theorem d_CG_solve_67 : decode b_CG_solve 67 = .ok (.aload_n 0, 1) := by decide +kernel
theorem d_CG_solve_68 : decode b_CG_solve 68 = .ok (.getfield 24, 3) := by decide +kernel
theorem d_CG_solve_71 : decode b_CG_solve 71 = .ok (.invokevirtual 96, 3) := by decide +kernel
theorem d_CG_solve_74 : decode b_CG_solve 74 = .ok (.iload_n 1, 1) := by decide +kernel
theorem d_CG_solve_75 : decode b_CG_solve 75 = .ok (.ireturn, 1) := by decide +kernel
theorem d_CG_states_0 : decode b_CG_states 0 = .ok (.aload_n 0, 1) := by decide +kernel
theorem d_CG_states_1 : decode b_CG_states 1 = .ok (.getfield 32, 3) := by decide +kernel
theorem d_CG_states_4 : decode b_CG_states 4 = .ok (.getfield 100, 3) := by decide +kernel
theorem d_CG_states_7 : decode b_CG_states 7 = .ok (.ireturn, 1) := by decide +kernel
theorem d_CG_mixed_0 : decode b_CG_mixed 0 = .ok (.aload_n 0, 1) := by decide +kernel
theorem d_CG_mixed_1 : decode b_CG_mixed 1 = .ok (.getfield 32, 3) := by decide +kernel
theorem d_CG_mixed_4 : decode b_CG_mixed 4 = .ok (.getfield 101, 3) := by decide +kernel
theorem d_CG_mixed_7 : decode b_CG_mixed 7 = .ok (.ireturn, 1) := by decide +kernel
theorem d_Fo_has_0 : decode b_Fo_has 0 = .ok (.iload_n 1, 1) := by decide +kernel
theorem d_Fo_has_1 : decode b_Fo_has 1 = .ok (.ifCond .lt 15, 3) := by decide +kernel
theorem d_Fo_has_4 : decode b_Fo_has 4 = .ok (.iload_n 1, 1) := by decide +kernel
theorem d_Fo_has_5 : decode b_Fo_has 5 = .ok (.aload_n 0, 1) := by decide +kernel
theorem d_Fo_has_6 : decode b_Fo_has 6 = .ok (.getfield 18, 3) := by decide +kernel
theorem d_Fo_has_9 : decode b_Fo_has 9 = .ok (.if_icmp .ge 7, 3) := by decide +kernel
theorem d_Fo_has_12 : decode b_Fo_has 12 = .ok (.iconst 1, 1) := by decide +kernel
theorem d_Fo_has_13 : decode b_Fo_has 13 = .ok (.goto 4, 3) := by decide +kernel
theorem d_Fo_has_16 : decode b_Fo_has 16 = .ok (.iconst 0, 1) := by decide +kernel
theorem d_Fo_has_17 : decode b_Fo_has 17 = .ok (.ireturn, 1) := by decide +kernel
theorem d_CG_variable_0 : decode b_CG_variable 0 = .ok (.aload_n 0, 1) := by decide +kernel
theorem d_CG_variable_1 : decode b_CG_variable 1 = .ok (.getfield 32, 3) := by decide +kernel
theorem d_CG_variable_4 : decode b_CG_variable 4 = .ok (.iload_n 1, 1) := by decide +kernel
theorem d_CG_variable_5 : decode b_CG_variable 5 = .ok (.invokevirtual 104, 3) := by decide +kernel
theorem d_CG_variable_8 : decode b_CG_variable 8 = .ok (.ifCond .eq 26, 3) := by decide +kernel
theorem d_CG_variable_11 : decode b_CG_variable 11 = .ok (.iload_n 2, 1) := by decide +kernel
theorem d_CG_variable_12 : decode b_CG_variable 12 = .ok (.ifCond .lt 22, 3) := by decide +kernel
theorem d_CG_variable_15 : decode b_CG_variable 15 = .ok (.iload_n 2, 1) := by decide +kernel
theorem d_CG_variable_16 : decode b_CG_variable 16 = .ok (.iconst 3, 1) := by decide +kernel
theorem d_CG_variable_17 : decode b_CG_variable 17 = .ok (.if_icmp .ge 17, 3) := by decide +kernel
theorem d_CG_variable_20 : decode b_CG_variable 20 = .ok (.aload_n 0, 1) := by decide +kernel
theorem d_CG_variable_21 : decode b_CG_variable 21 = .ok (.getfield 32, 3) := by decide +kernel
theorem d_CG_variable_24 : decode b_CG_variable 24 = .ok (.getfield 57, 3) := by decide +kernel
theorem d_CG_variable_27 : decode b_CG_variable 27 = .ok (.iload_n 2, 1) := by decide +kernel
theorem d_CG_variable_28 : decode b_CG_variable 28 = .ok (.invokevirtual 108, 3) := by decide +kernel
theorem d_CG_variable_31 : decode b_CG_variable 31 = .ok (.ifCond .ne 5, 3) := by decide +kernel
theorem d_CG_variable_34 : decode b_CG_variable 34 = .ok (.iconst (-1), 1) := by decide +kernel
theorem d_CG_variable_35 : decode b_CG_variable 35 = .ok (.ireturn, 1) := by decide +kernel
theorem d_CG_variable_36 : decode b_CG_variable 36 = .ok (.aload_n 0, 1) := by decide +kernel
theorem d_CG_variable_37 : decode b_CG_variable 37 = .ok (.getfield 32, 3) := by decide +kernel
theorem d_CG_variable_40 : decode b_CG_variable 40 = .ok (.getfield 111, 3) := by decide +kernel
theorem d_CG_variable_43 : decode b_CG_variable 43 = .ok (.iload_n 1, 1) := by decide +kernel
theorem d_CG_variable_44 : decode b_CG_variable 44 = .ok (.aaload, 1) := by decide +kernel
theorem d_CG_variable_45 : decode b_CG_variable 45 = .ok (.iload_n 2, 1) := by decide +kernel
theorem d_CG_variable_46 : decode b_CG_variable 46 = .ok (.iaload, 1) := by decide +kernel
theorem d_CG_variable_47 : decode b_CG_variable 47 = .ok (.ireturn, 1) := by decide +kernel
theorem d_CG_target_0 : decode b_CG_target 0 = .ok (.aload_n 0, 1) := by decide +kernel
theorem d_CG_target_1 : decode b_CG_target 1 = .ok (.getfield 32, 3) := by decide +kernel
theorem d_CG_target_4 : decode b_CG_target 4 = .ok (.iload_n 1, 1) := by decide +kernel
theorem d_CG_target_5 : decode b_CG_target 5 = .ok (.invokevirtual 104, 3) := by decide +kernel
theorem d_CG_target_8 : decode b_CG_target 8 = .ok (.ifCond .eq 21, 3) := by decide +kernel
theorem d_CG_target_11 : decode b_CG_target 11 = .ok (.aload_n 0, 1) := by decide +kernel
theorem d_CG_target_12 : decode b_CG_target 12 = .ok (.getfield 32, 3) := by decide +kernel
theorem d_CG_target_15 : decode b_CG_target 15 = .ok (.getfield 114, 3) := by decide +kernel
theorem d_CG_target_18 : decode b_CG_target 18 = .ok (.iload_n 1, 1) := by decide +kernel
theorem d_CG_target_19 : decode b_CG_target 19 = .ok (.invokestatic 117, 3) := by decide +kernel
theorem d_CG_target_22 : decode b_CG_target 22 = .ok (.ifCond .eq 7, 3) := by decide +kernel
theorem d_CG_target_25 : decode b_CG_target 25 = .ok (.iconst 1, 1) := by decide +kernel
theorem d_CG_target_26 : decode b_CG_target 26 = .ok (.goto 4, 3) := by decide +kernel
theorem d_CG_target_29 : decode b_CG_target 29 = .ok (.iconst 0, 1) := by decide +kernel
theorem d_CG_target_30 : decode b_CG_target 30 = .ok (.ireturn, 1) := by decide +kernel
theorem d_CG_owner_0 : decode b_CG_owner 0 = .ok (.aload_n 0, 1) := by decide +kernel
theorem d_CG_owner_1 : decode b_CG_owner 1 = .ok (.getfield 32, 3) := by decide +kernel
theorem d_CG_owner_4 : decode b_CG_owner 4 = .ok (.iload_n 1, 1) := by decide +kernel
theorem d_CG_owner_5 : decode b_CG_owner 5 = .ok (.invokevirtual 104, 3) := by decide +kernel
theorem d_CG_owner_8 : decode b_CG_owner 8 = .ok (.ifCond .eq 14, 3) := by decide +kernel
theorem d_CG_owner_11 : decode b_CG_owner 11 = .ok (.aload_n 0, 1) := by decide +kernel
theorem d_CG_owner_12 : decode b_CG_owner 12 = .ok (.getfield 32, 3) := by decide +kernel
theorem d_CG_owner_15 : decode b_CG_owner 15 = .ok (.iload_n 1, 1) := by decide +kernel
theorem d_CG_owner_16 : decode b_CG_owner 16 = .ok (.invokevirtual 121, 3) := by decide +kernel
theorem d_CG_owner_19 : decode b_CG_owner 19 = .ok (.ifCond .ne 5, 3) := by decide +kernel
theorem d_CG_owner_22 : decode b_CG_owner 22 = .ok (.iconst (-1), 1) := by decide +kernel
theorem d_CG_owner_23 : decode b_CG_owner 23 = .ok (.ireturn, 1) := by decide +kernel
theorem d_CG_owner_24 : decode b_CG_owner 24 = .ok (.aload_n 0, 1) := by decide +kernel
theorem d_CG_owner_25 : decode b_CG_owner 25 = .ok (.getfield 32, 3) := by decide +kernel
theorem d_CG_owner_28 : decode b_CG_owner 28 = .ok (.iload_n 1, 1) := by decide +kernel
theorem d_CG_owner_29 : decode b_CG_owner 29 = .ok (.invokevirtual 125, 3) := by decide +kernel
theorem d_CG_owner_32 : decode b_CG_owner 32 = .ok (.ifCond .eq 7, 3) := by decide +kernel
theorem d_CG_owner_35 : decode b_CG_owner 35 = .ok (.iconst 1, 1) := by decide +kernel
theorem d_CG_owner_36 : decode b_CG_owner 36 = .ok (.goto 4, 3) := by decide +kernel
theorem d_CG_owner_39 : decode b_CG_owner 39 = .ok (.iconst 0, 1) := by decide +kernel
theorem d_CG_owner_40 : decode b_CG_owner 40 = .ok (.ireturn, 1) := by decide +kernel
theorem d_CG_choice_0 : decode b_CG_choice 0 = .ok (.aload_n 0, 1) := by decide +kernel
theorem d_CG_choice_1 : decode b_CG_choice 1 = .ok (.getfield 32, 3) := by decide +kernel
theorem d_CG_choice_4 : decode b_CG_choice 4 = .ok (.iload_n 1, 1) := by decide +kernel
theorem d_CG_choice_5 : decode b_CG_choice 5 = .ok (.invokevirtual 104, 3) := by decide +kernel
theorem d_CG_choice_8 : decode b_CG_choice 8 = .ok (.ifCond .eq 7, 3) := by decide +kernel
theorem d_CG_choice_11 : decode b_CG_choice 11 = .ok (.iload_n 2, 1) := by decide +kernel
theorem d_CG_choice_12 : decode b_CG_choice 12 = .ok (.ifCond .ge 5, 3) := by decide +kernel
theorem d_CG_choice_15 : decode b_CG_choice 15 = .ok (.iconst (-1), 1) := by decide +kernel
theorem d_CG_choice_16 : decode b_CG_choice 16 = .ok (.ireturn, 1) := by decide +kernel
theorem d_CG_choice_17 : decode b_CG_choice 17 = .ok (.aload_n 0, 1) := by decide +kernel
theorem d_CG_choice_18 : decode b_CG_choice 18 = .ok (.getfield 32, 3) := by decide +kernel
theorem d_CG_choice_21 : decode b_CG_choice 21 = .ok (.iload_n 1, 1) := by decide +kernel
theorem d_CG_choice_22 : decode b_CG_choice 22 = .ok (.invokevirtual 121, 3) := by decide +kernel
theorem d_CG_choice_25 : decode b_CG_choice 25 = .ok (.istore_n 3, 1) := by decide +kernel
theorem d_CG_choice_26 : decode b_CG_choice 26 = .ok (.iconst 0, 1) := by decide +kernel
theorem d_CG_choice_27 : decode b_CG_choice 27 = .ok (.istore 4, 2) := by decide +kernel
theorem d_CG_choice_29 : decode b_CG_choice 29 = .ok (.iconst 0, 1) := by decide +kernel
theorem d_CG_choice_30 : decode b_CG_choice 30 = .ok (.istore 5, 2) := by decide +kernel
theorem d_CG_choice_32 : decode b_CG_choice 32 = .ok (.iload 5, 2) := by decide +kernel
theorem d_CG_choice_34 : decode b_CG_choice 34 = .ok (.bipush 10, 2) := by decide +kernel
theorem d_CG_choice_36 : decode b_CG_choice 36 = .ok (.if_icmp .ge 30, 3) := by decide +kernel
theorem d_CG_choice_39 : decode b_CG_choice 39 = .ok (.iload_n 3, 1) := by decide +kernel
theorem d_CG_choice_40 : decode b_CG_choice 40 = .ok (.iload 5, 2) := by decide +kernel
theorem d_CG_choice_42 : decode b_CG_choice 42 = .ok (.invokestatic 117, 3) := by decide +kernel
theorem d_CG_choice_45 : decode b_CG_choice 45 = .ok (.ifCond .eq 15, 3) := by decide +kernel
theorem d_CG_choice_48 : decode b_CG_choice 48 = .ok (.iload 4, 2) := by decide +kernel
theorem d_CG_choice_50 : decode b_CG_choice 50 = .ok (.iload_n 2, 1) := by decide +kernel
theorem d_CG_choice_51 : decode b_CG_choice 51 = .ok (.if_icmp .ne 6, 3) := by decide +kernel
theorem d_CG_choice_54 : decode b_CG_choice 54 = .ok (.iload 5, 2) := by decide +kernel
theorem d_CG_choice_56 : decode b_CG_choice 56 = .ok (.ireturn, 1) := by decide +kernel
theorem d_CG_choice_57 : decode b_CG_choice 57 = .ok (.iinc 4 1, 3) := by decide +kernel
theorem d_CG_choice_60 : decode b_CG_choice 60 = .ok (.iinc 5 1, 3) := by decide +kernel
theorem d_CG_choice_63 : decode b_CG_choice 63 = .ok (.goto (-31), 3) := by decide +kernel
theorem d_CG_choice_66 : decode b_CG_choice 66 = .ok (.iconst (-1), 1) := by decide +kernel
theorem d_CG_choice_67 : decode b_CG_choice 67 = .ok (.ireturn, 1) := by decide +kernel
theorem d_CG_branch_0 : decode b_CG_branch 0 = .ok (.aload_n 0, 1) := by decide +kernel
theorem d_CG_branch_1 : decode b_CG_branch 1 = .ok (.getfield 32, 3) := by decide +kernel
theorem d_CG_branch_4 : decode b_CG_branch 4 = .ok (.iload_n 1, 1) := by decide +kernel
theorem d_CG_branch_5 : decode b_CG_branch 5 = .ok (.invokevirtual 104, 3) := by decide +kernel
theorem d_CG_branch_8 : decode b_CG_branch 8 = .ok (.ifCond .eq 37, 3) := by decide +kernel
theorem d_CG_branch_11 : decode b_CG_branch 11 = .ok (.iload_n 2, 1) := by decide +kernel
theorem d_CG_branch_12 : decode b_CG_branch 12 = .ok (.ifCond .lt 33, 3) := by decide +kernel
theorem d_CG_branch_15 : decode b_CG_branch 15 = .ok (.iload_n 2, 1) := by decide +kernel
theorem d_CG_branch_16 : decode b_CG_branch 16 = .ok (.aload_n 0, 1) := by decide +kernel
theorem d_CG_branch_17 : decode b_CG_branch 17 = .ok (.getfield 32, 3) := by decide +kernel
theorem d_CG_branch_20 : decode b_CG_branch 20 = .ok (.getfield 57, 3) := by decide +kernel
theorem d_CG_branch_23 : decode b_CG_branch 23 = .ok (.getfield 71, 3) := by decide +kernel
theorem d_CG_branch_26 : decode b_CG_branch 26 = .ok (.if_icmp .ge 19, 3) := by decide +kernel
theorem d_CG_branch_29 : decode b_CG_branch 29 = .ok (.aload_n 0, 1) := by decide +kernel
theorem d_CG_branch_30 : decode b_CG_branch 30 = .ok (.getfield 32, 3) := by decide +kernel
theorem d_CG_branch_33 : decode b_CG_branch 33 = .ok (.getfield 128, 3) := by decide +kernel
theorem d_CG_branch_36 : decode b_CG_branch 36 = .ok (.iload_n 1, 1) := by decide +kernel
theorem d_CG_branch_37 : decode b_CG_branch 37 = .ok (.iaload, 1) := by decide +kernel
theorem d_CG_branch_38 : decode b_CG_branch 38 = .ok (.iload_n 2, 1) := by decide +kernel
theorem d_CG_branch_39 : decode b_CG_branch 39 = .ok (.invokestatic 117, 3) := by decide +kernel
theorem d_CG_branch_42 : decode b_CG_branch 42 = .ok (.ifCond .ne 5, 3) := by decide +kernel
theorem d_CG_branch_45 : decode b_CG_branch 45 = .ok (.iconst (-1), 1) := by decide +kernel
theorem d_CG_branch_46 : decode b_CG_branch 46 = .ok (.ireturn, 1) := by decide +kernel
theorem d_CG_branch_47 : decode b_CG_branch 47 = .ok (.aload_n 0, 1) := by decide +kernel
theorem d_CG_branch_48 : decode b_CG_branch 48 = .ok (.getfield 32, 3) := by decide +kernel
theorem d_CG_branch_51 : decode b_CG_branch 51 = .ok (.getfield 57, 3) := by decide +kernel
theorem d_CG_branch_54 : decode b_CG_branch 54 = .ok (.getfield 132, 3) := by decide +kernel
theorem d_CG_branch_57 : decode b_CG_branch 57 = .ok (.iload_n 2, 1) := by decide +kernel
theorem d_CG_branch_58 : decode b_CG_branch 58 = .ok (.aaload, 1) := by decide +kernel
theorem d_CG_branch_59 : decode b_CG_branch 59 = .ok (.astore 4, 2) := by decide +kernel
theorem d_CG_branch_61 : decode b_CG_branch 61 = .ok (.iload_n 3, 1) := by decide +kernel
theorem d_CG_branch_62 : decode b_CG_branch 62 = .ok (.ifCond .lt 12, 3) := by decide +kernel
theorem d_CG_branch_65 : decode b_CG_branch 65 = .ok (.iload_n 3, 1) := by decide +kernel
theorem d_CG_branch_66 : decode b_CG_branch 66 = .ok (.aload 4, 2) := by decide +kernel
theorem d_CG_branch_68 : decode b_CG_branch 68 = .ok (.getfield 136, 3) := by decide +kernel
theorem d_CG_branch_71 : decode b_CG_branch 71 = .ok (.if_icmp .lt 5, 3) := by decide +kernel
theorem d_CG_branch_74 : decode b_CG_branch 74 = .ok (.iconst (-1), 1) := by decide +kernel
theorem d_CG_branch_75 : decode b_CG_branch 75 = .ok (.ireturn, 1) := by decide +kernel
theorem d_CG_branch_76 : decode b_CG_branch 76 = .ok (.aload_n 0, 1) := by decide +kernel
theorem d_CG_branch_77 : decode b_CG_branch 77 = .ok (.getfield 32, 3) := by decide +kernel
theorem d_CG_branch_80 : decode b_CG_branch 80 = .ok (.iload_n 1, 1) := by decide +kernel
theorem d_CG_branch_81 : decode b_CG_branch 81 = .ok (.iload_n 2, 1) := by decide +kernel
theorem d_CG_branch_82 : decode b_CG_branch 82 = .ok (.iload_n 3, 1) := by decide +kernel
theorem d_CG_branch_83 : decode b_CG_branch 83 = .ok (.invokevirtual 139, 3) := by decide +kernel
theorem d_CG_branch_86 : decode b_CG_branch 86 = .ok (.istore 5, 2) := by decide +kernel
theorem d_CG_branch_88 : decode b_CG_branch 88 = .ok (.iload 5, 2) := by decide +kernel
theorem d_CG_branch_90 : decode b_CG_branch 90 = .ok (.iconst (-1), 1) := by decide +kernel
theorem d_CG_branch_91 : decode b_CG_branch 91 = .ok (.if_icmp .ne 7, 3) := by decide +kernel
theorem d_CG_branch_94 : decode b_CG_branch 94 = .ok (.iconst (-1), 1) := by decide +kernel
theorem d_CG_branch_95 : decode b_CG_branch 95 = .ok (.goto 19, 3) := by decide +kernel
theorem d_CG_branch_98 : decode b_CG_branch 98 = .ok (.bipush 10, 2) := by decide +kernel
theorem d_CG_branch_100 : decode b_CG_branch 100 = .ok (.iload 5, 2) := by decide +kernel
theorem d_CG_branch_102 : decode b_CG_branch 102 = .ok (.imul, 1) := by decide +kernel
theorem d_CG_branch_103 : decode b_CG_branch 103 = .ok (.aload 4, 2) := by decide +kernel
theorem d_CG_branch_105 : decode b_CG_branch 105 = .ok (.getfield 143, 3) := by decide +kernel
theorem d_CG_branch_108 : decode b_CG_branch 108 = .ok (.iload_n 3, 1) := by decide +kernel
theorem d_CG_branch_109 : decode b_CG_branch 109 = .ok (.aaload, 1) := by decide +kernel
theorem d_CG_branch_110 : decode b_CG_branch 110 = .ok (.getfield 147, 3) := by decide +kernel
theorem d_CG_branch_113 : decode b_CG_branch 113 = .ok (.iadd, 1) := by decide +kernel
theorem d_CG_branch_114 : decode b_CG_branch 114 = .ok (.ireturn, 1) := by decide +kernel
theorem d_CG_checkValueOf_0 : decode b_CG_checkValueOf 0 = .ok (.aload_n 0, 1) := by decide +kernel
theorem d_CG_checkValueOf_1 : decode b_CG_checkValueOf 1 = .ok (.getfield 44, 3) := by decide +kernel
theorem d_CG_checkValueOf_4 : decode b_CG_checkValueOf 4 = .ok (.ifCond .ne 13, 3) := by decide +kernel
theorem d_CG_checkValueOf_7 : decode b_CG_checkValueOf 7 = .ok (.new 80, 3) := by decide +kernel
theorem d_CG_checkValueOf_10 : decode b_CG_checkValueOf 10 = .ok (.dup, 1) := by decide +kernel
theorem d_CG_checkValueOf_11 : decode b_CG_checkValueOf 11 = .ok (.ldc 166, 2) := by decide +kernel
theorem d_CG_checkValueOf_13 : decode b_CG_checkValueOf 13 = .ok (.invokespecial 84, 3) := by decide +kernel
theorem d_CG_checkValueOf_16 : decode b_CG_checkValueOf 16 = .ok (.athrow, 1) := by decide +kernel
theorem d_CG_checkValueOf_17 : decode b_CG_checkValueOf 17 = .ok (.aload_n 0, 1) := by decide +kernel
theorem d_CG_checkValueOf_18 : decode b_CG_checkValueOf 18 = .ok (.getfield 32, 3) := by decide +kernel
theorem d_CG_checkValueOf_21 : decode b_CG_checkValueOf 21 = .ok (.iload_n 1, 1) := by decide +kernel
theorem d_CG_checkValueOf_22 : decode b_CG_checkValueOf 22 = .ok (.invokevirtual 104, 3) := by decide +kernel
theorem d_CG_checkValueOf_25 : decode b_CG_checkValueOf 25 = .ok (.ifCond .ne 13, 3) := by decide +kernel
theorem d_CG_checkValueOf_28 : decode b_CG_checkValueOf 28 = .ok (.new 168, 3) := by decide +kernel
theorem d_CG_checkValueOf_31 : decode b_CG_checkValueOf 31 = .ok (.dup, 1) := by decide +kernel
theorem d_CG_checkValueOf_32 : decode b_CG_checkValueOf 32 = .ok (.ldc 170, 2) := by decide +kernel
theorem d_CG_checkValueOf_34 : decode b_CG_checkValueOf 34 = .ok (.invokespecial 172, 3) := by decide +kernel
theorem d_CG_checkValueOf_37 : decode b_CG_checkValueOf 37 = .ok (.athrow, 1) := by decide +kernel
theorem d_CG_checkValueOf_38 : decode b_CG_checkValueOf 38 = .ok (.return_, 1) := by decide +kernel
theorem d_CG_upper_0 : decode b_CG_upper 0 = .ok (.aload_n 0, 1) := by decide +kernel
theorem d_CG_upper_1 : decode b_CG_upper 1 = .ok (.iload_n 1, 1) := by decide +kernel
theorem d_CG_upper_2 : decode b_CG_upper 2 = .ok (.invokevirtual 152, 3) := by decide +kernel
theorem d_CG_upper_5 : decode b_CG_upper 5 = .ok (.aload_n 0, 1) := by decide +kernel
theorem d_CG_upper_6 : decode b_CG_upper 6 = .ok (.getfield 24, 3) := by decide +kernel
theorem d_CG_upper_9 : decode b_CG_upper 9 = .ok (.getfield 156, 3) := by decide +kernel
theorem d_CG_upper_12 : decode b_CG_upper 12 = .ok (.iload_n 1, 1) := by decide +kernel
theorem d_CG_upper_13 : decode b_CG_upper 13 = .ok (.laload, 1) := by decide +kernel
theorem d_CG_upper_14 : decode b_CG_upper 14 = .ok (.lreturn, 1) := by decide +kernel
theorem d_CG_lower_0 : decode b_CG_lower 0 = .ok (.aload_n 0, 1) := by decide +kernel
theorem d_CG_lower_1 : decode b_CG_lower 1 = .ok (.iload_n 1, 1) := by decide +kernel
theorem d_CG_lower_2 : decode b_CG_lower 2 = .ok (.invokevirtual 152, 3) := by decide +kernel
theorem d_CG_lower_5 : decode b_CG_lower 5 = .ok (.aload_n 0, 1) := by decide +kernel
theorem d_CG_lower_6 : decode b_CG_lower 6 = .ok (.getfield 24, 3) := by decide +kernel
theorem d_CG_lower_9 : decode b_CG_lower 9 = .ok (.getfield 160, 3) := by decide +kernel
theorem d_CG_lower_12 : decode b_CG_lower 12 = .ok (.iload_n 1, 1) := by decide +kernel
theorem d_CG_lower_13 : decode b_CG_lower 13 = .ok (.laload, 1) := by decide +kernel
theorem d_CG_lower_14 : decode b_CG_lower 14 = .ok (.lreturn, 1) := by decide +kernel
theorem d_CG_good_0 : decode b_CG_good 0 = .ok (.aload_n 0, 1) := by decide +kernel
theorem d_CG_good_1 : decode b_CG_good 1 = .ok (.iload_n 1, 1) := by decide +kernel
theorem d_CG_good_2 : decode b_CG_good 2 = .ok (.invokevirtual 152, 3) := by decide +kernel
theorem d_CG_good_5 : decode b_CG_good 5 = .ok (.aload_n 0, 1) := by decide +kernel
theorem d_CG_good_6 : decode b_CG_good 6 = .ok (.getfield 36, 3) := by decide +kernel
theorem d_CG_good_9 : decode b_CG_good 9 = .ok (.getfield 163, 3) := by decide +kernel
theorem d_CG_good_12 : decode b_CG_good 12 = .ok (.iload_n 1, 1) := by decide +kernel
theorem d_CG_good_13 : decode b_CG_good 13 = .ok (.iaload, 1) := by decide +kernel
theorem d_CG_good_14 : decode b_CG_good 14 = .ok (.ireturn, 1) := by decide +kernel
theorem d_Mo_refuse_0 : decode b_Mo_refuse 0 = .ok (.aload_n 0, 1) := by decide +kernel
theorem d_Mo_refuse_1 : decode b_Mo_refuse 1 = .ok (.iload_n 1, 1) := by decide +kernel
theorem d_Mo_refuse_2 : decode b_Mo_refuse 2 = .ok (.putfield 112, 3) := by decide +kernel
theorem d_Mo_refuse_5 : decode b_Mo_refuse 5 = .ok (.iconst 0, 1) := by decide +kernel
theorem d_Mo_refuse_6 : decode b_Mo_refuse 6 = .ok (.ireturn, 1) := by decide +kernel
theorem d_Mo_within_0 : decode b_Mo_within 0 = .ok (.iload_n 0, 1) := by decide +kernel
theorem d_Mo_within_1 : decode b_Mo_within 1 = .ok (.iload_n 1, 1) := by decide +kernel
theorem d_Mo_within_2 : decode b_Mo_within 2 = .ok (.if_icmp .lt 12, 3) := by decide +kernel
theorem d_Mo_within_5 : decode b_Mo_within 5 = .ok (.iload_n 0, 1) := by decide +kernel
theorem d_Mo_within_6 : decode b_Mo_within 6 = .ok (.iload_n 2, 1) := by decide +kernel
theorem d_Mo_within_7 : decode b_Mo_within 7 = .ok (.if_icmp .gt 7, 3) := by decide +kernel
theorem d_Mo_within_10 : decode b_Mo_within 10 = .ok (.iconst 1, 1) := by decide +kernel
theorem d_Mo_within_11 : decode b_Mo_within 11 = .ok (.goto 4, 3) := by decide +kernel
theorem d_Mo_within_14 : decode b_Mo_within 14 = .ok (.iconst 0, 1) := by decide +kernel
theorem d_Mo_within_15 : decode b_Mo_within 15 = .ok (.ireturn, 1) := by decide +kernel
theorem d_Mo_type_0 : decode b_Mo_type 0 = .ok (.aload_n 0, 1) := by decide +kernel
theorem d_Mo_type_1 : decode b_Mo_type 1 = .ok (.iconst 0, 1) := by decide +kernel
theorem d_Mo_type_2 : decode b_Mo_type 2 = .ok (.putfield 112, 3) := by decide +kernel
theorem d_Mo_type_5 : decode b_Mo_type 5 = .ok (.iload_n 3, 1) := by decide +kernel
theorem d_Mo_type_6 : decode b_Mo_type 6 = .ok (.iconst 1, 1) := by decide +kernel
theorem d_Mo_type_7 : decode b_Mo_type 7 = .ok (.bipush 8, 2) := by decide +kernel
theorem d_Mo_type_9 : decode b_Mo_type 9 = .ok (.invokestatic 115, 3) := by decide +kernel
theorem d_Mo_type_12 : decode b_Mo_type 12 = .ok (.ifCond .eq 15, 3) := by decide +kernel
theorem d_Mo_type_15 : decode b_Mo_type 15 = .ok (.aload_n 0, 1) := by decide +kernel
theorem d_Mo_type_16 : decode b_Mo_type 16 = .ok (.getfield 119, 3) := by decide +kernel
theorem d_Mo_type_19 : decode b_Mo_type 19 = .ok (.iload_n 3, 1) := by decide +kernel
theorem d_Mo_type_20 : decode b_Mo_type 20 = .ok (.iadd, 1) := by decide +kernel
theorem d_Mo_type_21 : decode b_Mo_type 21 = .ok (.sipush 200, 3) := by decide +kernel
theorem d_Mo_type_24 : decode b_Mo_type 24 = .ok (.if_icmp .le 5, 3) := by decide +kernel
theorem d_Mo_type_27 : decode b_Mo_type 27 = .ok (.iconst (-1), 1) := by decide +kernel
theorem d_Mo_type_28 : decode b_Mo_type 28 = .ok (.ireturn, 1) := by decide +kernel
theorem d_Mo_type_29 : decode b_Mo_type 29 = .ok (.iconst 0, 1) := by decide +kernel
theorem d_Mo_type_30 : decode b_Mo_type 30 = .ok (.istore 4, 2) := by decide +kernel
theorem d_Mo_type_32 : decode b_Mo_type 32 = .ok (.iload 4, 2) := by decide +kernel
theorem d_Mo_type_34 : decode b_Mo_type 34 = .ok (.iload_n 3, 1) := by decide +kernel
theorem d_Mo_type_35 : decode b_Mo_type 35 = .ok (.if_icmp .ge 42, 3) := by decide +kernel
theorem d_Mo_type_38 : decode b_Mo_type 38 = .ok (.lload_n 1, 1) := by decide +kernel
theorem d_Mo_type_39 : decode b_Mo_type 39 = .ok (.bipush 8, 2) := by decide +kernel
theorem d_Mo_type_41 : decode b_Mo_type 41 = .ok (.iload 4, 2) := by decide +kernel
theorem d_Mo_type_43 : decode b_Mo_type 43 = .ok (.imul, 1) := by decide +kernel
theorem d_Mo_type_44 : decode b_Mo_type 44 = .ok (.lshr, 1) := by decide +kernel
theorem d_Mo_type_45 : decode b_Mo_type 45 = .ok (.ldc2_w 122, 3) := by decide +kernel
theorem d_Mo_type_48 : decode b_Mo_type 48 = .ok (.land, 1) := by decide +kernel
theorem d_Mo_type_49 : decode b_Mo_type 49 = .ok (.lstore 5, 2) := by decide +kernel
theorem d_Mo_type_51 : decode b_Mo_type 51 = .ok (.lload 5, 2) := by decide +kernel
theorem d_Mo_type_53 : decode b_Mo_type 53 = .ok (.ldc2_w 124, 3) := by decide +kernel
theorem d_Mo_type_56 : decode b_Mo_type 56 = .ok (.lcmp, 1) := by decide +kernel
theorem d_Mo_type_57 : decode b_Mo_type 57 = .ok (.ifCond .lt 12, 3) := by decide +kernel
theorem d_Mo_type_60 : decode b_Mo_type 60 = .ok (.lload 5, 2) := by decide +kernel
theorem d_Mo_type_62 : decode b_Mo_type 62 = .ok (.ldc2_w 126, 3) := by decide +kernel
theorem d_Mo_type_65 : decode b_Mo_type 65 = .ok (.lcmp, 1) := by decide +kernel
theorem d_Mo_type_66 : decode b_Mo_type 66 = .ok (.ifCond .le 5, 3) := by decide +kernel
theorem d_Mo_type_69 : decode b_Mo_type 69 = .ok (.iconst (-1), 1) := by decide +kernel
theorem d_Mo_type_70 : decode b_Mo_type 70 = .ok (.ireturn, 1) := by decide +kernel
theorem d_Mo_type_71 : decode b_Mo_type 71 = .ok (.iinc 4 1, 3) := by decide +kernel
theorem d_Mo_type_74 : decode b_Mo_type 74 = .ok (.goto (-42), 3) := by decide +kernel
theorem d_Mo_type_77 : decode b_Mo_type 77 = .ok (.iload_n 3, 1) := by decide +kernel
theorem d_Mo_type_78 : decode b_Mo_type 78 = .ok (.iconst 1, 1) := by decide +kernel
theorem d_Mo_type_79 : decode b_Mo_type 79 = .ok (.isub, 1) := by decide +kernel
theorem d_Mo_type_80 : decode b_Mo_type 80 = .ok (.istore 4, 2) := by decide +kernel
theorem d_Mo_type_82 : decode b_Mo_type 82 = .ok (.iload 4, 2) := by decide +kernel
theorem d_Mo_type_84 : decode b_Mo_type 84 = .ok (.ifCond .lt 40, 3) := by decide +kernel
theorem d_Mo_type_87 : decode b_Mo_type 87 = .ok (.aload_n 0, 1) := by decide +kernel
theorem d_Mo_type_88 : decode b_Mo_type 88 = .ok (.getfield 7, 3) := by decide +kernel
theorem d_Mo_type_91 : decode b_Mo_type 91 = .ok (.aload_n 0, 1) := by decide +kernel
theorem d_Mo_type_92 : decode b_Mo_type 92 = .ok (.getfield 119, 3) := by decide +kernel
theorem d_Mo_type_95 : decode b_Mo_type 95 = .ok (.lload_n 1, 1) := by decide +kernel
theorem d_Mo_type_96 : decode b_Mo_type 96 = .ok (.bipush 8, 2) := by decide +kernel
theorem d_Mo_type_98 : decode b_Mo_type 98 = .ok (.iload 4, 2) := by decide +kernel
theorem d_Mo_type_100 : decode b_Mo_type 100 = .ok (.imul, 1) := by decide +kernel
theorem d_Mo_type_101 : decode b_Mo_type 101 = .ok (.lshr, 1) := by decide +kernel
theorem d_Mo_type_102 : decode b_Mo_type 102 = .ok (.ldc2_w 122, 3) := by decide +kernel
theorem d_Mo_type_105 : decode b_Mo_type 105 = .ok (.land, 1) := by decide +kernel
theorem d_Mo_type_106 : decode b_Mo_type 106 = .ok (.l2i, 1) := by decide +kernel
theorem d_Mo_type_107 : decode b_Mo_type 107 = .ok (.iastore, 1) := by decide +kernel
theorem d_Mo_type_108 : decode b_Mo_type 108 = .ok (.aload_n 0, 1) := by decide +kernel
theorem d_Mo_type_109 : decode b_Mo_type 109 = .ok (.dup, 1) := by decide +kernel
theorem d_Mo_type_110 : decode b_Mo_type 110 = .ok (.getfield 119, 3) := by decide +kernel
theorem d_Mo_type_113 : decode b_Mo_type 113 = .ok (.iconst 1, 1) := by decide +kernel
theorem d_Mo_type_114 : decode b_Mo_type 114 = .ok (.iadd, 1) := by decide +kernel
theorem d_Mo_type_115 : decode b_Mo_type 115 = .ok (.putfield 119, 3) := by decide +kernel
theorem d_Mo_type_118 : decode b_Mo_type 118 = .ok (.iinc 4 (-1), 3) := by decide +kernel
theorem d_Mo_type_121 : decode b_Mo_type 121 = .ok (.goto (-39), 3) := by decide +kernel
theorem d_Mo_type_124 : decode b_Mo_type 124 = .ok (.aload_n 0, 1) := by decide +kernel
theorem d_Mo_type_125 : decode b_Mo_type 125 = .ok (.getfield 119, 3) := by decide +kernel
theorem d_Mo_type_128 : decode b_Mo_type 128 = .ok (.ireturn, 1) := by decide +kernel
theorem d_Mo_wipe_0 : decode b_Mo_wipe 0 = .ok (.aload_n 0, 1) := by decide +kernel
theorem d_Mo_wipe_1 : decode b_Mo_wipe 1 = .ok (.iconst 0, 1) := by decide +kernel
theorem d_Mo_wipe_2 : decode b_Mo_wipe 2 = .ok (.putfield 112, 3) := by decide +kernel
theorem d_Mo_wipe_5 : decode b_Mo_wipe 5 = .ok (.aload_n 0, 1) := by decide +kernel
theorem d_Mo_wipe_6 : decode b_Mo_wipe 6 = .ok (.getfield 119, 3) := by decide +kernel
theorem d_Mo_wipe_9 : decode b_Mo_wipe 9 = .ok (.istore_n 1, 1) := by decide +kernel
theorem d_Mo_wipe_10 : decode b_Mo_wipe 10 = .ok (.aload_n 0, 1) := by decide +kernel
theorem d_Mo_wipe_11 : decode b_Mo_wipe 11 = .ok (.iconst 0, 1) := by decide +kernel
theorem d_Mo_wipe_12 : decode b_Mo_wipe 12 = .ok (.putfield 119, 3) := by decide +kernel
theorem d_Mo_wipe_15 : decode b_Mo_wipe 15 = .ok (.iload_n 1, 1) := by decide +kernel
theorem d_Mo_wipe_16 : decode b_Mo_wipe 16 = .ok (.ireturn, 1) := by decide +kernel
theorem d_Mo_here_0 : decode b_Mo_here 0 = .ok (.aload_n 0, 1) := by decide +kernel
theorem d_Mo_here_1 : decode b_Mo_here 1 = .ok (.getfield 128, 3) := by decide +kernel
theorem d_Mo_here_4 : decode b_Mo_here 4 = .ok (.aload_n 0, 1) := by decide +kernel
theorem d_Mo_here_5 : decode b_Mo_here 5 = .ok (.getfield 119, 3) := by decide +kernel
theorem d_Mo_here_8 : decode b_Mo_here 8 = .ok (.if_icmp .ge 15, 3) := by decide +kernel
theorem d_Mo_here_11 : decode b_Mo_here 11 = .ok (.aload_n 0, 1) := by decide +kernel
theorem d_Mo_here_12 : decode b_Mo_here 12 = .ok (.getfield 7, 3) := by decide +kernel
theorem d_Mo_here_15 : decode b_Mo_here 15 = .ok (.aload_n 0, 1) := by decide +kernel
theorem d_Mo_here_16 : decode b_Mo_here 16 = .ok (.getfield 128, 3) := by decide +kernel
theorem d_Mo_here_19 : decode b_Mo_here 19 = .ok (.iaload, 1) := by decide +kernel
theorem d_Mo_here_20 : decode b_Mo_here 20 = .ok (.goto 4, 3) := by decide +kernel
theorem d_Mo_here_23 : decode b_Mo_here 23 = .ok (.iconst 0, 1) := by decide +kernel
theorem d_Mo_here_24 : decode b_Mo_here 24 = .ok (.ireturn, 1) := by decide +kernel
theorem d_Mo_fail_0 : decode b_Mo_fail 0 = .ok (.aload_n 0, 1) := by decide +kernel
theorem d_Mo_fail_1 : decode b_Mo_fail 1 = .ok (.iload_n 1, 1) := by decide +kernel
theorem d_Mo_fail_2 : decode b_Mo_fail 2 = .ok (.putfield 13, 3) := by decide +kernel
theorem d_Mo_fail_5 : decode b_Mo_fail 5 = .ok (.iconst 0, 1) := by decide +kernel
theorem d_Mo_fail_6 : decode b_Mo_fail 6 = .ok (.ireturn, 1) := by decide +kernel
theorem d_Mo_want_0 : decode b_Mo_want 0 = .ok (.aload_n 0, 1) := by decide +kernel
theorem d_Mo_want_1 : decode b_Mo_want 1 = .ok (.invokevirtual 131, 3) := by decide +kernel
theorem d_Mo_want_4 : decode b_Mo_want 4 = .ok (.iload_n 1, 1) := by decide +kernel
theorem d_Mo_want_5 : decode b_Mo_want 5 = .ok (.if_icmp .eq 12, 3) := by decide +kernel
theorem d_Mo_want_8 : decode b_Mo_want 8 = .ok (.aload_n 0, 1) := by decide +kernel
theorem d_Mo_want_9 : decode b_Mo_want 9 = .ok (.aload_n 0, 1) := by decide +kernel
theorem d_Mo_want_10 : decode b_Mo_want 10 = .ok (.getfield 128, 3) := by decide +kernel
theorem d_Mo_want_13 : decode b_Mo_want 13 = .ok (.invokevirtual 135, 3) := by decide +kernel
theorem d_Mo_want_16 : decode b_Mo_want 16 = .ok (.ireturn, 1) := by decide +kernel
theorem d_Mo_want_17 : decode b_Mo_want 17 = .ok (.aload_n 0, 1) := by decide +kernel
theorem d_Mo_want_18 : decode b_Mo_want 18 = .ok (.dup, 1) := by decide +kernel
theorem d_Mo_want_19 : decode b_Mo_want 19 = .ok (.getfield 128, 3) := by decide +kernel
theorem d_Mo_want_22 : decode b_Mo_want 22 = .ok (.iconst 1, 1) := by decide +kernel
theorem d_Mo_want_23 : decode b_Mo_want 23 = .ok (.iadd, 1) := by decide +kernel
theorem d_Mo_want_24 : decode b_Mo_want 24 = .ok (.putfield 128, 3) := by decide +kernel
theorem d_Mo_want_27 : decode b_Mo_want 27 = .ok (.iconst 1, 1) := by decide +kernel
theorem d_Mo_want_28 : decode b_Mo_want 28 = .ok (.ireturn, 1) := by decide +kernel
theorem d_Mo_isDigit_0 : decode b_Mo_isDigit 0 = .ok (.aload_n 0, 1) := by decide +kernel
theorem d_Mo_isDigit_1 : decode b_Mo_isDigit 1 = .ok (.invokevirtual 131, 3) := by decide +kernel
theorem d_Mo_isDigit_4 : decode b_Mo_isDigit 4 = .ok (.bipush 48, 2) := by decide +kernel
theorem d_Mo_isDigit_6 : decode b_Mo_isDigit 6 = .ok (.bipush 57, 2) := by decide +kernel
theorem d_Mo_isDigit_8 : decode b_Mo_isDigit 8 = .ok (.invokestatic 115, 3) := by decide +kernel
theorem d_Mo_isDigit_11 : decode b_Mo_isDigit 11 = .ok (.ireturn, 1) := by decide +kernel
theorem d_Mo_isName_0 : decode b_Mo_isName 0 = .ok (.aload_n 0, 1) := by decide +kernel
theorem d_Mo_isName_1 : decode b_Mo_isName 1 = .ok (.invokevirtual 131, 3) := by decide +kernel
theorem d_Mo_isName_4 : decode b_Mo_isName 4 = .ok (.bipush 97, 2) := by decide +kernel
theorem d_Mo_isName_6 : decode b_Mo_isName 6 = .ok (.bipush 99, 2) := by decide +kernel
theorem d_Mo_isName_8 : decode b_Mo_isName 8 = .ok (.invokestatic 115, 3) := by decide +kernel
theorem d_Mo_isName_11 : decode b_Mo_isName 11 = .ok (.ireturn, 1) := by decide +kernel
theorem d_Mo_readNumber_0 : decode b_Mo_readNumber 0 = .ok (.aload_n 0, 1) := by decide +kernel
theorem d_Mo_readNumber_1 : decode b_Mo_readNumber 1 = .ok (.invokevirtual 139, 3) := by decide +kernel
theorem d_Mo_readNumber_4 : decode b_Mo_readNumber 4 = .ok (.ifCond .ne 12, 3) := by decide +kernel
theorem d_Mo_readNumber_7 : decode b_Mo_readNumber 7 = .ok (.aload_n 0, 1) := by decide +kernel
theorem d_Mo_readNumber_8 : decode b_Mo_readNumber 8 = .ok (.aload_n 0, 1) := by decide +kernel
theorem d_Mo_readNumber_9 : decode b_Mo_readNumber 9 = .ok (.getfield 128, 3) := by decide +kernel
theorem d_Mo_readNumber_12 : decode b_Mo_readNumber 12 = .ok (.invokevirtual 135, 3) := by decide +kernel
theorem d_Mo_readNumber_15 : decode b_Mo_readNumber 15 = .ok (.ireturn, 1) := by decide +kernel
theorem d_Mo_readNumber_16 : decode b_Mo_readNumber 16 = .ok (.aload_n 0, 1) := by decide +kernel
theorem d_Mo_readNumber_17 : decode b_Mo_readNumber 17 = .ok (.getfield 128, 3) := by decide +kernel
theorem d_Mo_readNumber_20 : decode b_Mo_readNumber 20 = .ok (.istore_n 3, 1) := by decide +kernel
theorem d_Mo_readNumber_21 : decode b_Mo_readNumber 21 = .ok (.aload_n 0, 1) := by decide +kernel
theorem d_Mo_readNumber_22 : decode b_Mo_readNumber 22 = .ok (.iconst 0, 1) := by decide +kernel
theorem d_Mo_readNumber_23 : decode b_Mo_readNumber 23 = .ok (.putfield 143, 3) := by decide +kernel
theorem d_Mo_readNumber_26 : decode b_Mo_readNumber 26 = .ok (.aload_n 0, 1) := by decide +kernel
theorem d_Mo_readNumber_27 : decode b_Mo_readNumber 27 = .ok (.invokevirtual 139, 3) := by decide +kernel
theorem d_Mo_readNumber_30 : decode b_Mo_readNumber 30 = .ok (.ifCond .eq 49, 3) := by decide +kernel
theorem d_Mo_readNumber_33 : decode b_Mo_readNumber 33 = .ok (.aload_n 0, 1) := by decide +kernel
theorem d_Mo_readNumber_34 : decode b_Mo_readNumber 34 = .ok (.aload_n 0, 1) := by decide +kernel
theorem d_Mo_readNumber_35 : decode b_Mo_readNumber 35 = .ok (.getfield 143, 3) := by decide +kernel
theorem d_Mo_readNumber_38 : decode b_Mo_readNumber 38 = .ok (.bipush 99, 2) := by decide +kernel
theorem d_Mo_readNumber_40 : decode b_Mo_readNumber 40 = .ok (.if_icmp .le 8, 3) := by decide +kernel
theorem d_Mo_readNumber_43 : decode b_Mo_readNumber 43 = .ok (.bipush 100, 2) := by decide +kernel
theorem d_Mo_readNumber_45 : decode b_Mo_readNumber 45 = .ok (.goto 18, 3) := by decide +kernel
theorem d_Mo_readNumber_48 : decode b_Mo_readNumber 48 = .ok (.bipush 10, 2) := by decide +kernel
theorem d_Mo_readNumber_50 : decode b_Mo_readNumber 50 = .ok (.aload_n 0, 1) := by decide +kernel
theorem d_Mo_readNumber_51 : decode b_Mo_readNumber 51 = .ok (.getfield 143, 3) := by decide +kernel
theorem d_Mo_readNumber_54 : decode b_Mo_readNumber 54 = .ok (.imul, 1) := by decide +kernel
theorem d_Mo_readNumber_55 : decode b_Mo_readNumber 55 = .ok (.aload_n 0, 1) := by decide +kernel
theorem d_Mo_readNumber_56 : decode b_Mo_readNumber 56 = .ok (.invokevirtual 131, 3) := by decide +kernel
theorem d_Mo_readNumber_59 : decode b_Mo_readNumber 59 = .ok (.iadd, 1) := by decide +kernel
theorem d_Mo_readNumber_60 : decode b_Mo_readNumber 60 = .ok (.bipush 48, 2) := by decide +kernel
theorem d_Mo_readNumber_62 : decode b_Mo_readNumber 62 = .ok (.isub, 1) := by decide +kernel
theorem d_Mo_readNumber_63 : decode b_Mo_readNumber 63 = .ok (.putfield 143, 3) := by decide +kernel
theorem d_Mo_readNumber_66 : decode b_Mo_readNumber 66 = .ok (.aload_n 0, 1) := by decide +kernel
theorem d_Mo_readNumber_67 : decode b_Mo_readNumber 67 = .ok (.dup, 1) := by decide +kernel
theorem d_Mo_readNumber_68 : decode b_Mo_readNumber 68 = .ok (.getfield 128, 3) := by decide +kernel
theorem d_Mo_readNumber_71 : decode b_Mo_readNumber 71 = .ok (.iconst 1, 1) := by decide +kernel
theorem d_Mo_readNumber_72 : decode b_Mo_readNumber 72 = .ok (.iadd, 1) := by decide +kernel
theorem d_Mo_readNumber_73 : decode b_Mo_readNumber 73 = .ok (.putfield 128, 3) := by decide +kernel
theorem d_Mo_readNumber_76 : decode b_Mo_readNumber 76 = .ok (.goto (-50), 3) := by decide +kernel
theorem d_Mo_readNumber_79 : decode b_Mo_readNumber 79 = .ok (.aload_n 0, 1) := by decide +kernel
theorem d_Mo_readNumber_80 : decode b_Mo_readNumber 80 = .ok (.getfield 7, 3) := by decide +kernel
theorem d_Mo_readNumber_83 : decode b_Mo_readNumber 83 = .ok (.iload_n 3, 1) := by decide +kernel
theorem d_Mo_readNumber_84 : decode b_Mo_readNumber 84 = .ok (.iaload, 1) := by decide +kernel
theorem d_Mo_readNumber_85 : decode b_Mo_readNumber 85 = .ok (.bipush 48, 2) := by decide +kernel
theorem d_Mo_readNumber_87 : decode b_Mo_readNumber 87 = .ok (.if_icmp .ne 17, 3) := by decide +kernel
theorem d_Mo_readNumber_90 : decode b_Mo_readNumber 90 = .ok (.aload_n 0, 1) := by decide +kernel
theorem d_Mo_readNumber_91 : decode b_Mo_readNumber 91 = .ok (.getfield 128, 3) := by decide +kernel
theorem d_Mo_readNumber_94 : decode b_Mo_readNumber 94 = .ok (.iload_n 3, 1) := by decide +kernel
theorem d_Mo_readNumber_95 : decode b_Mo_readNumber 95 = .ok (.iconst 1, 1) := by decide +kernel
theorem d_Mo_readNumber_96 : decode b_Mo_readNumber 96 = .ok (.iadd, 1) := by decide +kernel
theorem d_Mo_readNumber_97 : decode b_Mo_readNumber 97 = .ok (.if_icmp .le 7, 3) := by decide +kernel
theorem d_Mo_readNumber_100 : decode b_Mo_readNumber 100 = .ok (.iconst 1, 1) := by decide +kernel
theorem d_Mo_readNumber_101 : decode b_Mo_readNumber 101 = .ok (.goto 4, 3) := by decide +kernel
theorem d_Mo_readNumber_104 : decode b_Mo_readNumber 104 = .ok (.iconst 0, 1) := by decide +kernel
theorem d_Mo_readNumber_105 : decode b_Mo_readNumber 105 = .ok (.istore 4, 2) := by decide +kernel
theorem d_Mo_readNumber_107 : decode b_Mo_readNumber 107 = .ok (.iload 4, 2) := by decide +kernel
theorem d_Mo_readNumber_109 : decode b_Mo_readNumber 109 = .ok (.ifCond .ne 15, 3) := by decide +kernel
theorem d_Mo_readNumber_112 : decode b_Mo_readNumber 112 = .ok (.aload_n 0, 1) := by decide +kernel
theorem d_Mo_readNumber_113 : decode b_Mo_readNumber 113 = .ok (.getfield 143, 3) := by decide +kernel
theorem d_Mo_readNumber_116 : decode b_Mo_readNumber 116 = .ok (.iload_n 1, 1) := by decide +kernel
theorem d_Mo_readNumber_117 : decode b_Mo_readNumber 117 = .ok (.iload_n 2, 1) := by decide +kernel
theorem d_Mo_readNumber_118 : decode b_Mo_readNumber 118 = .ok (.invokestatic 115, 3) := by decide +kernel
theorem d_Mo_readNumber_121 : decode b_Mo_readNumber 121 = .ok (.ifCond .ne 11, 3) := by decide +kernel
theorem d_Mo_readNumber_124 : decode b_Mo_readNumber 124 = .ok (.aload_n 0, 1) := by decide +kernel
theorem d_Mo_readNumber_125 : decode b_Mo_readNumber 125 = .ok (.iload_n 3, 1) := by decide +kernel
theorem d_Mo_readNumber_126 : decode b_Mo_readNumber 126 = .ok (.invokevirtual 135, 3) := by decide +kernel
theorem d_Mo_readNumber_129 : decode b_Mo_readNumber 129 = .ok (.ifCond .eq 7, 3) := by decide +kernel
theorem d_Mo_readNumber_132 : decode b_Mo_readNumber 132 = .ok (.iconst 1, 1) := by decide +kernel
theorem d_Mo_readNumber_133 : decode b_Mo_readNumber 133 = .ok (.goto 4, 3) := by decide +kernel
theorem d_Mo_readNumber_136 : decode b_Mo_readNumber 136 = .ok (.iconst 0, 1) := by decide +kernel
theorem d_Mo_readNumber_137 : decode b_Mo_readNumber 137 = .ok (.ireturn, 1) := by decide +kernel
theorem d_Mo_isKnown_0 : decode b_Mo_isKnown 0 = .ok (.aload_n 0, 1) := by decide +kernel
theorem d_Mo_isKnown_1 : decode b_Mo_isKnown 1 = .ok (.invokevirtual 146, 3) := by decide +kernel
theorem d_Mo_isKnown_4 : decode b_Mo_isKnown 4 = .ok (.ifCond .eq 29, 3) := by decide +kernel
theorem d_Mo_isKnown_7 : decode b_Mo_isKnown 7 = .ok (.aload_n 0, 1) := by decide +kernel
theorem d_Mo_isKnown_8 : decode b_Mo_isKnown 8 = .ok (.getfield 20, 3) := by decide +kernel
theorem d_Mo_isKnown_11 : decode b_Mo_isKnown 11 = .ok (.iconst 3, 1) := by decide +kernel
theorem d_Mo_isKnown_12 : decode b_Mo_isKnown 12 = .ok (.aload_n 0, 1) := by decide +kernel
theorem d_Mo_isKnown_13 : decode b_Mo_isKnown 13 = .ok (.getfield 149, 3) := by decide +kernel
theorem d_Mo_isKnown_16 : decode b_Mo_isKnown 16 = .ok (.imul, 1) := by decide +kernel
theorem d_Mo_isKnown_17 : decode b_Mo_isKnown 17 = .ok (.aload_n 0, 1) := by decide +kernel
theorem d_Mo_isKnown_18 : decode b_Mo_isKnown 18 = .ok (.invokevirtual 131, 3) := by decide +kernel
theorem d_Mo_isKnown_21 : decode b_Mo_isKnown 21 = .ok (.iadd, 1) := by decide +kernel
theorem d_Mo_isKnown_22 : decode b_Mo_isKnown 22 = .ok (.bipush 97, 2) := by decide +kernel
theorem d_Mo_isKnown_24 : decode b_Mo_isKnown 24 = .ok (.isub, 1) := by decide +kernel
theorem d_Mo_isKnown_25 : decode b_Mo_isKnown 25 = .ok (.iaload, 1) := by decide +kernel
theorem d_Mo_isKnown_26 : decode b_Mo_isKnown 26 = .ok (.ifCond .le 7, 3) := by decide +kernel
theorem d_Mo_isKnown_29 : decode b_Mo_isKnown 29 = .ok (.iconst 1, 1) := by decide +kernel
theorem d_Mo_isKnown_30 : decode b_Mo_isKnown 30 = .ok (.goto 4, 3) := by decide +kernel
theorem d_Mo_isKnown_33 : decode b_Mo_isKnown 33 = .ok (.iconst 0, 1) := by decide +kernel
theorem d_Mo_isKnown_34 : decode b_Mo_isKnown 34 = .ok (.ireturn, 1) := by decide +kernel
theorem d_Mo_declare_0 : decode b_Mo_declare 0 = .ok (.iconst 3, 1) := by decide +kernel
theorem d_Mo_declare_1 : decode b_Mo_declare 1 = .ok (.aload_n 0, 1) := by decide +kernel
theorem d_Mo_declare_2 : decode b_Mo_declare 2 = .ok (.getfield 149, 3) := by decide +kernel
theorem d_Mo_declare_5 : decode b_Mo_declare 5 = .ok (.imul, 1) := by decide +kernel
theorem d_Mo_declare_6 : decode b_Mo_declare 6 = .ok (.aload_n 0, 1) := by decide +kernel
theorem d_Mo_declare_7 : decode b_Mo_declare 7 = .ok (.invokevirtual 131, 3) := by decide +kernel
theorem d_Mo_declare_10 : decode b_Mo_declare 10 = .ok (.iadd, 1) := by decide +kernel
theorem d_Mo_declare_11 : decode b_Mo_declare 11 = .ok (.bipush 97, 2) := by decide +kernel
theorem d_Mo_declare_13 : decode b_Mo_declare 13 = .ok (.isub, 1) := by decide +kernel
theorem d_Mo_declare_14 : decode b_Mo_declare 14 = .ok (.istore_n 1, 1) := by decide +kernel
theorem d_Mo_declare_15 : decode b_Mo_declare 15 = .ok (.aload_n 0, 1) := by decide +kernel
theorem d_Mo_declare_16 : decode b_Mo_declare 16 = .ok (.getfield 20, 3) := by decide +kernel
theorem d_Mo_declare_19 : decode b_Mo_declare 19 = .ok (.iload_n 1, 1) := by decide +kernel
theorem d_Mo_declare_20 : decode b_Mo_declare 20 = .ok (.iaload, 1) := by decide +kernel
theorem d_Mo_declare_21 : decode b_Mo_declare 21 = .ok (.ifCond .le 12, 3) := by decide +kernel
theorem d_Mo_declare_24 : decode b_Mo_declare 24 = .ok (.aload_n 0, 1) := by decide +kernel
theorem d_Mo_declare_25 : decode b_Mo_declare 25 = .ok (.aload_n 0, 1) := by decide +kernel
theorem d_Mo_declare_26 : decode b_Mo_declare 26 = .ok (.getfield 128, 3) := by decide +kernel
theorem d_Mo_declare_29 : decode b_Mo_declare 29 = .ok (.invokevirtual 135, 3) := by decide +kernel
theorem d_Mo_declare_32 : decode b_Mo_declare 32 = .ok (.ireturn, 1) := by decide +kernel
theorem d_Mo_declare_33 : decode b_Mo_declare 33 = .ok (.aload_n 0, 1) := by decide +kernel
theorem d_Mo_declare_34 : decode b_Mo_declare 34 = .ok (.dup, 1) := by decide +kernel
theorem d_Mo_declare_35 : decode b_Mo_declare 35 = .ok (.getfield 128, 3) := by decide +kernel
theorem d_Mo_declare_38 : decode b_Mo_declare 38 = .ok (.iconst 1, 1) := by decide +kernel
theorem d_Mo_declare_39 : decode b_Mo_declare 39 = .ok (.iadd, 1) := by decide +kernel
theorem d_Mo_declare_40 : decode b_Mo_declare 40 = .ok (.putfield 128, 3) := by decide +kernel
theorem d_Mo_declare_43 : decode b_Mo_declare 43 = .ok (.aload_n 0, 1) := by decide +kernel
theorem d_Mo_declare_44 : decode b_Mo_declare 44 = .ok (.iconst 1, 1) := by decide +kernel
theorem d_Mo_declare_45 : decode b_Mo_declare 45 = .ok (.bipush 9, 2) := by decide +kernel
theorem d_Mo_declare_47 : decode b_Mo_declare 47 = .ok (.invokevirtual 152, 3) := by decide +kernel
theorem d_Mo_declare_50 : decode b_Mo_declare 50 = .ok (.ifCond .ne 5, 3) := by decide +kernel
theorem d_Mo_declare_53 : decode b_Mo_declare 53 = .ok (.iconst 0, 1) := by decide +kernel
theorem d_Mo_declare_54 : decode b_Mo_declare 54 = .ok (.ireturn, 1) := by decide +kernel
theorem d_Mo_declare_55 : decode b_Mo_declare 55 = .ok (.aload_n 0, 1) := by decide +kernel
theorem d_Mo_declare_56 : decode b_Mo_declare 56 = .ok (.getfield 20, 3) := by decide +kernel
theorem d_Mo_declare_59 : decode b_Mo_declare 59 = .ok (.iload_n 1, 1) := by decide +kernel
theorem d_Mo_declare_60 : decode b_Mo_declare 60 = .ok (.aload_n 0, 1) := by decide +kernel
theorem d_Mo_declare_61 : decode b_Mo_declare 61 = .ok (.getfield 143, 3) := by decide +kernel
theorem d_Mo_declare_64 : decode b_Mo_declare 64 = .ok (.iastore, 1) := by decide +kernel
theorem d_Mo_declare_65 : decode b_Mo_declare 65 = .ok (.aload_n 0, 1) := by decide +kernel
theorem d_Mo_declare_66 : decode b_Mo_declare 66 = .ok (.bipush 58, 2) := by decide +kernel
theorem d_Mo_declare_68 : decode b_Mo_declare 68 = .ok (.invokevirtual 156, 3) := by decide +kernel
theorem d_Mo_declare_71 : decode b_Mo_declare 71 = .ok (.ifCond .eq 15, 3) := by decide +kernel
theorem d_Mo_declare_74 : decode b_Mo_declare 74 = .ok (.aload_n 0, 1) := by decide +kernel
theorem d_Mo_declare_75 : decode b_Mo_declare 75 = .ok (.iconst 0, 1) := by decide +kernel
theorem d_Mo_declare_76 : decode b_Mo_declare 76 = .ok (.aload_n 0, 1) := by decide +kernel
theorem d_Mo_declare_77 : decode b_Mo_declare 77 = .ok (.getfield 143, 3) := by decide +kernel
theorem d_Mo_declare_80 : decode b_Mo_declare 80 = .ok (.invokevirtual 152, 3) := by decide +kernel
theorem d_Mo_declare_83 : decode b_Mo_declare 83 = .ok (.ifCond .ne 5, 3) := by decide +kernel
theorem d_Mo_declare_86 : decode b_Mo_declare 86 = .ok (.iconst 0, 1) := by decide +kernel
theorem d_Mo_declare_87 : decode b_Mo_declare 87 = .ok (.ireturn, 1) := by decide +kernel
theorem d_Mo_declare_88 : decode b_Mo_declare 88 = .ok (.aload_n 0, 1) := by decide +kernel
theorem d_Mo_declare_89 : decode b_Mo_declare 89 = .ok (.getfield 23, 3) := by decide +kernel
theorem d_Mo_declare_92 : decode b_Mo_declare 92 = .ok (.iload_n 1, 1) := by decide +kernel
theorem d_Mo_declare_93 : decode b_Mo_declare 93 = .ok (.aload_n 0, 1) := by decide +kernel
theorem d_Mo_declare_94 : decode b_Mo_declare 94 = .ok (.getfield 143, 3) := by decide +kernel
theorem d_Mo_declare_97 : decode b_Mo_declare 97 = .ok (.iastore, 1) := by decide +kernel
theorem d_Mo_declare_98 : decode b_Mo_declare 98 = .ok (.aload_n 0, 1) := by decide +kernel
theorem d_Mo_declare_99 : decode b_Mo_declare 99 = .ok (.bipush 59, 2) := by decide +kernel
theorem d_Mo_declare_101 : decode b_Mo_declare 101 = .ok (.invokevirtual 156, 3) := by decide +kernel
theorem d_Mo_declare_104 : decode b_Mo_declare 104 = .ok (.ireturn, 1) := by decide +kernel
theorem d_Mo_readItem_0 : decode b_Mo_readItem 0 = .ok (.iconst 4, 1) := by decide +kernel
theorem d_Mo_readItem_1 : decode b_Mo_readItem 1 = .ok (.iload_n 1, 1) := by decide +kernel
theorem d_Mo_readItem_2 : decode b_Mo_readItem 2 = .ok (.imul, 1) := by decide +kernel
theorem d_Mo_readItem_3 : decode b_Mo_readItem 3 = .ok (.aload_n 0, 1) := by decide +kernel
theorem d_Mo_readItem_4 : decode b_Mo_readItem 4 = .ok (.getfield 48, 3) := by decide +kernel
theorem d_Mo_readItem_7 : decode b_Mo_readItem 7 = .ok (.iload_n 1, 1) := by decide +kernel
theorem d_Mo_readItem_8 : decode b_Mo_readItem 8 = .ok (.iaload, 1) := by decide +kernel
theorem d_Mo_readItem_9 : decode b_Mo_readItem 9 = .ok (.iadd, 1) := by decide +kernel
theorem d_Mo_readItem_10 : decode b_Mo_readItem 10 = .ok (.istore_n 3, 1) := by decide +kernel
theorem d_Mo_readItem_11 : decode b_Mo_readItem 11 = .ok (.aload_n 0, 1) := by decide +kernel
theorem d_Mo_readItem_12 : decode b_Mo_readItem 12 = .ok (.getfield 54, 3) := by decide +kernel
theorem d_Mo_readItem_15 : decode b_Mo_readItem 15 = .ok (.iload_n 3, 1) := by decide +kernel
theorem d_Mo_readItem_16 : decode b_Mo_readItem 16 = .ok (.iload_n 2, 1) := by decide +kernel
theorem d_Mo_readItem_17 : decode b_Mo_readItem 17 = .ok (.bastore, 1) := by decide +kernel
theorem d_Mo_readItem_18 : decode b_Mo_readItem 18 = .ok (.aload_n 0, 1) := by decide +kernel
theorem d_Mo_readItem_19 : decode b_Mo_readItem 19 = .ok (.invokevirtual 139, 3) := by decide +kernel
theorem d_Mo_readItem_22 : decode b_Mo_readItem 22 = .ok (.ifCond .eq 28, 3) := by decide +kernel
theorem d_Mo_readItem_25 : decode b_Mo_readItem 25 = .ok (.aload_n 0, 1) := by decide +kernel
theorem d_Mo_readItem_26 : decode b_Mo_readItem 26 = .ok (.iconst 0, 1) := by decide +kernel
theorem d_Mo_readItem_27 : decode b_Mo_readItem 27 = .ok (.bipush 99, 2) := by decide +kernel
theorem d_Mo_readItem_29 : decode b_Mo_readItem 29 = .ok (.invokevirtual 152, 3) := by decide +kernel
theorem d_Mo_readItem_32 : decode b_Mo_readItem 32 = .ok (.ifCond .ne 5, 3) := by decide +kernel
theorem d_Mo_readItem_35 : decode b_Mo_readItem 35 = .ok (.iconst 0, 1) := by decide +kernel
theorem d_Mo_readItem_36 : decode b_Mo_readItem 36 = .ok (.ireturn, 1) := by decide +kernel
theorem d_Mo_readItem_37 : decode b_Mo_readItem 37 = .ok (.aload_n 0, 1) := by decide +kernel
theorem d_Mo_readItem_38 : decode b_Mo_readItem 38 = .ok (.getfield 51, 3) := by decide +kernel
theorem d_Mo_readItem_41 : decode b_Mo_readItem 41 = .ok (.iload_n 3, 1) := by decide +kernel
theorem d_Mo_readItem_42 : decode b_Mo_readItem 42 = .ok (.aload_n 0, 1) := by decide +kernel
theorem d_Mo_readItem_43 : decode b_Mo_readItem 43 = .ok (.getfield 143, 3) := by decide +kernel
theorem d_Mo_readItem_46 : decode b_Mo_readItem 46 = .ok (.iastore, 1) := by decide +kernel
theorem d_Mo_readItem_47 : decode b_Mo_readItem 47 = .ok (.goto 45, 3) := by decide +kernel
theorem d_Mo_readItem_50 : decode b_Mo_readItem 50 = .ok (.aload_n 0, 1) := by decide +kernel
theorem d_Mo_readItem_51 : decode b_Mo_readItem 51 = .ok (.invokevirtual 159, 3) := by decide +kernel
theorem d_Mo_readItem_54 : decode b_Mo_readItem 54 = .ok (.ifCond .ne 12, 3) := by decide +kernel
theorem d_Mo_readItem_57 : decode b_Mo_readItem 57 = .ok (.aload_n 0, 1) := by decide +kernel
theorem d_Mo_readItem_58 : decode b_Mo_readItem 58 = .ok (.aload_n 0, 1) := by decide +kernel
theorem d_Mo_readItem_59 : decode b_Mo_readItem 59 = .ok (.getfield 128, 3) := by decide +kernel
theorem d_Mo_readItem_62 : decode b_Mo_readItem 62 = .ok (.invokevirtual 135, 3) := by decide +kernel
theorem d_Mo_readItem_65 : decode b_Mo_readItem 65 = .ok (.ireturn, 1) := by decide +kernel
theorem d_Mo_readItem_66 : decode b_Mo_readItem 66 = .ok (.aload_n 0, 1) := by decide +kernel
