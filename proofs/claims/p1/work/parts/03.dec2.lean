theorem d_Mo_readAll_39 : decode b_Mo_readAll 39 = .ok (.iconst 3, 1) := by decide +kernel
theorem d_Mo_readAll_40 : decode b_Mo_readAll 40 = .ok (.aload_n 0, 1) := by decide +kernel
theorem d_Mo_readAll_41 : decode b_Mo_readAll 41 = .ok (.getfield 149, 3) := by decide +kernel
theorem d_Mo_readAll_44 : decode b_Mo_readAll 44 = .ok (.imul, 1) := by decide +kernel
theorem d_Mo_readAll_45 : decode b_Mo_readAll 45 = .ok (.iconst 3, 1) := by decide +kernel
theorem d_Mo_readAll_46 : decode b_Mo_readAll 46 = .ok (.iadd, 1) := by decide +kernel
theorem d_Mo_readAll_47 : decode b_Mo_readAll 47 = .ok (.if_icmp .ge 23, 3) := by decide +kernel
theorem d_Mo_readAll_50 : decode b_Mo_readAll 50 = .ok (.aload_n 0, 1) := by decide +kernel
theorem d_Mo_readAll_51 : decode b_Mo_readAll 51 = .ok (.getfield 20, 3) := by decide +kernel
theorem d_Mo_readAll_54 : decode b_Mo_readAll 54 = .ok (.iload_n 1, 1) := by decide +kernel
theorem d_Mo_readAll_55 : decode b_Mo_readAll 55 = .ok (.iconst 0, 1) := by decide +kernel
theorem d_Mo_readAll_56 : decode b_Mo_readAll 56 = .ok (.iastore, 1) := by decide +kernel
theorem d_Mo_readAll_57 : decode b_Mo_readAll 57 = .ok (.aload_n 0, 1) := by decide +kernel
theorem d_Mo_readAll_58 : decode b_Mo_readAll 58 = .ok (.getfield 23, 3) := by decide +kernel
theorem d_Mo_readAll_61 : decode b_Mo_readAll 61 = .ok (.iload_n 1, 1) := by decide +kernel
theorem d_Mo_readAll_62 : decode b_Mo_readAll 62 = .ok (.iconst 0, 1) := by decide +kernel
theorem d_Mo_readAll_63 : decode b_Mo_readAll 63 = .ok (.iastore, 1) := by decide +kernel
theorem d_Mo_readAll_64 : decode b_Mo_readAll 64 = .ok (.iinc 1 1, 3) := by decide +kernel
theorem d_Mo_readAll_67 : decode b_Mo_readAll 67 = .ok (.goto (-29), 3) := by decide +kernel
theorem d_Mo_readAll_70 : decode b_Mo_readAll 70 = .ok (.aload_n 0, 1) := by decide +kernel
theorem d_Mo_readAll_71 : decode b_Mo_readAll 71 = .ok (.invokevirtual 146, 3) := by decide +kernel
theorem d_Mo_readAll_74 : decode b_Mo_readAll 74 = .ok (.ifCond .eq 12, 3) := by decide +kernel
theorem d_Mo_readAll_86 : decode b_Mo_readAll 86 = .ok (.aload_n 0, 1) := by decide +kernel
theorem d_Mo_readAll_87 : decode b_Mo_readAll 87 = .ok (.invokevirtual 131, 3) := by decide +kernel
theorem d_Mo_readAll_90 : decode b_Mo_readAll 90 = .ok (.bipush 43, 2) := by decide +kernel
theorem d_Mo_readAll_92 : decode b_Mo_readAll 92 = .ok (.if_icmp .eq 12, 3) := by decide +kernel
theorem d_Mo_readAll_95 : decode b_Mo_readAll 95 = .ok (.aload_n 0, 1) := by decide +kernel
theorem d_Mo_readAll_96 : decode b_Mo_readAll 96 = .ok (.invokevirtual 131, 3) := by decide +kernel
theorem d_Mo_readAll_99 : decode b_Mo_readAll 99 = .ok (.bipush 45, 2) := by decide +kernel
theorem d_Mo_readAll_101 : decode b_Mo_readAll 101 = .ok (.if_icmp .ne 12, 3) := by decide +kernel
theorem d_Mo_readAll_113 : decode b_Mo_readAll 113 = .ok (.aload_n 0, 1) := by decide +kernel
theorem d_Mo_readAll_114 : decode b_Mo_readAll 114 = .ok (.bipush 33, 2) := by decide +kernel
theorem d_Mo_readAll_116 : decode b_Mo_readAll 116 = .ok (.invokevirtual 156, 3) := by decide +kernel
theorem d_Mo_readAll_119 : decode b_Mo_readAll 119 = .ok (.ifCond .eq 38, 3) := by decide +kernel
theorem d_Mo_readAll_157 : decode b_Mo_readAll 157 = .ok (.iconst 0, 1) := by decide +kernel
theorem d_Mo_readAll_158 : decode b_Mo_readAll 158 = .ok (.ireturn, 1) := by decide +kernel
theorem d_Mo_refuse_0 : decode b_Mo_refuse 0 = .ok (.aload_n 0, 1) := by decide +kernel
theorem d_Mo_refuse_1 : decode b_Mo_refuse 1 = .ok (.iload_n 1, 1) := by decide +kernel
theorem d_Mo_refuse_2 : decode b_Mo_refuse 2 = .ok (.putfield 112, 3) := by decide +kernel
theorem d_Mo_refuse_5 : decode b_Mo_refuse 5 = .ok (.iconst 0, 1) := by decide +kernel
theorem d_Mo_refuse_6 : decode b_Mo_refuse 6 = .ok (.ireturn, 1) := by decide +kernel
theorem d_Mo_solve_0 : decode b_Mo_solve 0 = .ok (.aload_n 0, 1) := by decide +kernel
theorem d_Mo_solve_1 : decode b_Mo_solve 1 = .ok (.aload_n 0, 1) := by decide +kernel
theorem d_Mo_solve_2 : decode b_Mo_solve 2 = .ok (.getfield 17, 3) := by decide +kernel
theorem d_Mo_solve_5 : decode b_Mo_solve 5 = .ok (.ifCond .ge 7, 3) := by decide +kernel
theorem d_Mo_solve_8 : decode b_Mo_solve 8 = .ok (.iconst 1, 1) := by decide +kernel
theorem d_Mo_solve_9 : decode b_Mo_solve 9 = .ok (.goto 4, 3) := by decide +kernel
theorem d_Mo_solve_13 : decode b_Mo_solve 13 = .ok (.putfield 112, 3) := by decide +kernel
theorem d_Mo_solve_16 : decode b_Mo_solve 16 = .ok (.aload_n 0, 1) := by decide +kernel
theorem d_Mo_solve_17 : decode b_Mo_solve 17 = .ok (.getfield 112, 3) := by decide +kernel
theorem d_Mo_solve_20 : decode b_Mo_solve 20 = .ok (.ifCond .le 5, 3) := by decide +kernel
theorem d_Mo_solve_23 : decode b_Mo_solve 23 = .ok (.iconst 0, 1) := by decide +kernel
theorem d_Mo_solve_24 : decode b_Mo_solve 24 = .ok (.ireturn, 1) := by decide +kernel
theorem d_Mo_states_0 : decode b_Mo_states 0 = .ok (.aload_n 0, 1) := by decide +kernel
theorem d_Mo_states_1 : decode b_Mo_states 1 = .ok (.iconst 0, 1) := by decide +kernel
theorem d_Mo_states_2 : decode b_Mo_states 2 = .ok (.putfield 112, 3) := by decide +kernel
theorem d_Mo_states_5 : decode b_Mo_states 5 = .ok (.aload_n 0, 1) := by decide +kernel
theorem d_Mo_states_6 : decode b_Mo_states 6 = .ok (.getfield 198, 3) := by decide +kernel
theorem d_Mo_states_9 : decode b_Mo_states 9 = .ok (.ireturn, 1) := by decide +kernel
theorem d_Mo_target_0 : decode b_Mo_target 0 = .ok (.aload_n 0, 1) := by decide +kernel
theorem d_Mo_target_1 : decode b_Mo_target 1 = .ok (.iconst 0, 1) := by decide +kernel
theorem d_Mo_target_2 : decode b_Mo_target 2 = .ok (.putfield 112, 3) := by decide +kernel
theorem d_Mo_target_5 : decode b_Mo_target 5 = .ok (.aload_n 0, 1) := by decide +kernel
theorem d_Mo_target_6 : decode b_Mo_target 6 = .ok (.iload_n 1, 1) := by decide +kernel
theorem d_Mo_target_7 : decode b_Mo_target 7 = .ok (.invokevirtual 287, 3) := by decide +kernel
theorem d_Mo_target_10 : decode b_Mo_target 10 = .ok (.ifCond .eq 16, 3) := by decide +kernel
theorem d_Mo_target_26 : decode b_Mo_target 26 = .ok (.iconst 0, 1) := by decide +kernel
theorem d_Mo_target_27 : decode b_Mo_target 27 = .ok (.ireturn, 1) := by decide +kernel
theorem d_Mo_thrown_0 : decode b_Mo_thrown 0 = .ok (.aload_n 0, 1) := by decide +kernel
theorem d_Mo_thrown_1 : decode b_Mo_thrown 1 = .ok (.getfield 112, 3) := by decide +kernel
theorem d_Mo_thrown_4 : decode b_Mo_thrown 4 = .ok (.ireturn, 1) := by decide +kernel
theorem d_Mo_type_0 : decode b_Mo_type 0 = .ok (.aload_n 0, 1) := by decide +kernel
theorem d_Mo_type_1 : decode b_Mo_type 1 = .ok (.iconst 0, 1) := by decide +kernel
theorem d_Mo_type_2 : decode b_Mo_type 2 = .ok (.putfield 112, 3) := by decide +kernel
theorem d_Mo_type_5 : decode b_Mo_type 5 = .ok (.iload_n 3, 1) := by decide +kernel
theorem d_Mo_type_6 : decode b_Mo_type 6 = .ok (.iconst 1, 1) := by decide +kernel
theorem d_Mo_type_7 : decode b_Mo_type 7 = .ok (.bipush 8, 2) := by decide +kernel
theorem d_Mo_type_9 : decode b_Mo_type 9 = .ok (.invokestatic 115, 3) := by decide +kernel
theorem d_Mo_type_12 : decode b_Mo_type 12 = .ok (.ifCond .eq 15, 3) := by decide +kernel
theorem d_Mo_type_15 : decode b_Mo_type 15 = .ok (.aload_n 0, 1) := by decide +kernel
theorem d_Mo_type_16 : decode b_Mo_type 16 = .ok (.getfield 119, 3) := by decide +kernel
theorem d_Mo_type_19 : decode b_Mo_type 19 = .ok (.iload_n 3, 1) := by decide +kernel
theorem d_Mo_type_20 : decode b_Mo_type 20 = .ok (.iadd, 1) := by decide +kernel
theorem d_Mo_type_21 : decode b_Mo_type 21 = .ok (.sipush 200, 3) := by decide +kernel
theorem d_Mo_type_24 : decode b_Mo_type 24 = .ok (.if_icmp .le 5, 3) := by decide +kernel
theorem d_Mo_type_27 : decode b_Mo_type 27 = .ok (.iconst (-1), 1) := by decide +kernel
theorem d_Mo_type_28 : decode b_Mo_type 28 = .ok (.ireturn, 1) := by decide +kernel
theorem d_Mo_type_29 : decode b_Mo_type 29 = .ok (.iconst 0, 1) := by decide +kernel
theorem d_Mo_type_30 : decode b_Mo_type 30 = .ok (.istore 4, 2) := by decide +kernel
theorem d_Mo_type_32 : decode b_Mo_type 32 = .ok (.iload 4, 2) := by decide +kernel
theorem d_Mo_type_34 : decode b_Mo_type 34 = .ok (.iload_n 3, 1) := by decide +kernel
theorem d_Mo_type_35 : decode b_Mo_type 35 = .ok (.if_icmp .ge 42, 3) := by decide +kernel
theorem d_Mo_type_38 : decode b_Mo_type 38 = .ok (.lload_n 1, 1) := by decide +kernel
theorem d_Mo_type_39 : decode b_Mo_type 39 = .ok (.bipush 8, 2) := by decide +kernel
theorem d_Mo_type_41 : decode b_Mo_type 41 = .ok (.iload 4, 2) := by decide +kernel
theorem d_Mo_type_43 : decode b_Mo_type 43 = .ok (.imul, 1) := by decide +kernel
theorem d_Mo_type_44 : decode b_Mo_type 44 = .ok (.lshr, 1) := by decide +kernel
theorem d_Mo_type_45 : decode b_Mo_type 45 = .ok (.ldc2_w 122, 3) := by decide +kernel
theorem d_Mo_type_48 : decode b_Mo_type 48 = .ok (.land, 1) := by decide +kernel
theorem d_Mo_type_49 : decode b_Mo_type 49 = .ok (.lstore 5, 2) := by decide +kernel
theorem d_Mo_type_51 : decode b_Mo_type 51 = .ok (.lload 5, 2) := by decide +kernel
theorem d_Mo_type_53 : decode b_Mo_type 53 = .ok (.ldc2_w 124, 3) := by decide +kernel
theorem d_Mo_type_56 : decode b_Mo_type 56 = .ok (.lcmp, 1) := by decide +kernel
theorem d_Mo_type_57 : decode b_Mo_type 57 = .ok (.ifCond .lt 12, 3) := by decide +kernel
theorem d_Mo_type_60 : decode b_Mo_type 60 = .ok (.lload 5, 2) := by decide +kernel
theorem d_Mo_type_62 : decode b_Mo_type 62 = .ok (.ldc2_w 126, 3) := by decide +kernel
theorem d_Mo_type_65 : decode b_Mo_type 65 = .ok (.lcmp, 1) := by decide +kernel
theorem d_Mo_type_66 : decode b_Mo_type 66 = .ok (.ifCond .le 5, 3) := by decide +kernel
theorem d_Mo_type_69 : decode b_Mo_type 69 = .ok (.iconst (-1), 1) := by decide +kernel
theorem d_Mo_type_70 : decode b_Mo_type 70 = .ok (.ireturn, 1) := by decide +kernel
theorem d_Mo_type_71 : decode b_Mo_type 71 = .ok (.iinc 4 1, 3) := by decide +kernel
theorem d_Mo_type_74 : decode b_Mo_type 74 = .ok (.goto (-42), 3) := by decide +kernel
theorem d_Mo_type_77 : decode b_Mo_type 77 = .ok (.iload_n 3, 1) := by decide +kernel
theorem d_Mo_type_78 : decode b_Mo_type 78 = .ok (.iconst 1, 1) := by decide +kernel
theorem d_Mo_type_79 : decode b_Mo_type 79 = .ok (.isub, 1) := by decide +kernel
theorem d_Mo_type_80 : decode b_Mo_type 80 = .ok (.istore 4, 2) := by decide +kernel
theorem d_Mo_type_82 : decode b_Mo_type 82 = .ok (.iload 4, 2) := by decide +kernel
theorem d_Mo_type_84 : decode b_Mo_type 84 = .ok (.ifCond .lt 40, 3) := by decide +kernel
theorem d_Mo_type_87 : decode b_Mo_type 87 = .ok (.aload_n 0, 1) := by decide +kernel
theorem d_Mo_type_88 : decode b_Mo_type 88 = .ok (.getfield 7, 3) := by decide +kernel
theorem d_Mo_type_91 : decode b_Mo_type 91 = .ok (.aload_n 0, 1) := by decide +kernel
theorem d_Mo_type_92 : decode b_Mo_type 92 = .ok (.getfield 119, 3) := by decide +kernel
theorem d_Mo_type_95 : decode b_Mo_type 95 = .ok (.lload_n 1, 1) := by decide +kernel
theorem d_Mo_type_96 : decode b_Mo_type 96 = .ok (.bipush 8, 2) := by decide +kernel
theorem d_Mo_type_98 : decode b_Mo_type 98 = .ok (.iload 4, 2) := by decide +kernel
theorem d_Mo_type_100 : decode b_Mo_type 100 = .ok (.imul, 1) := by decide +kernel
theorem d_Mo_type_101 : decode b_Mo_type 101 = .ok (.lshr, 1) := by decide +kernel
theorem d_Mo_type_102 : decode b_Mo_type 102 = .ok (.ldc2_w 122, 3) := by decide +kernel
theorem d_Mo_type_105 : decode b_Mo_type 105 = .ok (.land, 1) := by decide +kernel
theorem d_Mo_type_106 : decode b_Mo_type 106 = .ok (.l2i, 1) := by decide +kernel
theorem d_Mo_type_107 : decode b_Mo_type 107 = .ok (.iastore, 1) := by decide +kernel
theorem d_Mo_type_108 : decode b_Mo_type 108 = .ok (.aload_n 0, 1) := by decide +kernel
theorem d_Mo_type_109 : decode b_Mo_type 109 = .ok (.dup, 1) := by decide +kernel
theorem d_Mo_type_110 : decode b_Mo_type 110 = .ok (.getfield 119, 3) := by decide +kernel
theorem d_Mo_type_113 : decode b_Mo_type 113 = .ok (.iconst 1, 1) := by decide +kernel
theorem d_Mo_type_114 : decode b_Mo_type 114 = .ok (.iadd, 1) := by decide +kernel
theorem d_Mo_type_115 : decode b_Mo_type 115 = .ok (.putfield 119, 3) := by decide +kernel
theorem d_Mo_type_118 : decode b_Mo_type 118 = .ok (.iinc 4 (-1), 3) := by decide +kernel
theorem d_Mo_type_121 : decode b_Mo_type 121 = .ok (.goto (-39), 3) := by decide +kernel
theorem d_Mo_type_124 : decode b_Mo_type 124 = .ok (.aload_n 0, 1) := by decide +kernel
theorem d_Mo_type_125 : decode b_Mo_type 125 = .ok (.getfield 119, 3) := by decide +kernel
theorem d_Mo_type_128 : decode b_Mo_type 128 = .ok (.ireturn, 1) := by decide +kernel
theorem d_Mo_upper_0 : decode b_Mo_upper 0 = .ok (.aload_n 0, 1) := by decide +kernel
theorem d_Mo_upper_1 : decode b_Mo_upper 1 = .ok (.iload_n 1, 1) := by decide +kernel
theorem d_Mo_upper_2 : decode b_Mo_upper 2 = .ok (.invokevirtual 290, 3) := by decide +kernel
theorem d_Mo_upper_5 : decode b_Mo_upper 5 = .ok (.ifCond .eq 12, 3) := by decide +kernel
theorem d_Mo_upper_17 : decode b_Mo_upper 17 = .ok (.lconst 0, 1) := by decide +kernel
theorem d_Mo_upper_18 : decode b_Mo_upper 18 = .ok (.lreturn, 1) := by decide +kernel
theorem d_Mo_variable_0 : decode b_Mo_variable 0 = .ok (.aload_n 0, 1) := by decide +kernel
theorem d_Mo_variable_1 : decode b_Mo_variable 1 = .ok (.iconst 0, 1) := by decide +kernel
theorem d_Mo_variable_2 : decode b_Mo_variable 2 = .ok (.putfield 112, 3) := by decide +kernel
theorem d_Mo_variable_5 : decode b_Mo_variable 5 = .ok (.aload_n 0, 1) := by decide +kernel
theorem d_Mo_variable_6 : decode b_Mo_variable 6 = .ok (.iload_n 1, 1) := by decide +kernel
theorem d_Mo_variable_7 : decode b_Mo_variable 7 = .ok (.invokevirtual 287, 3) := by decide +kernel
theorem d_Mo_variable_10 : decode b_Mo_variable 10 = .ok (.ifCond .eq 41, 3) := by decide +kernel
theorem d_Mo_variable_51 : decode b_Mo_variable 51 = .ok (.iconst (-1), 1) := by decide +kernel
theorem d_Mo_variable_52 : decode b_Mo_variable 52 = .ok (.ireturn, 1) := by decide +kernel
theorem d_Mo_want_0 : decode b_Mo_want 0 = .ok (.aload_n 0, 1) := by decide +kernel
theorem d_Mo_want_1 : decode b_Mo_want 1 = .ok (.invokevirtual 131, 3) := by decide +kernel
theorem d_Mo_want_4 : decode b_Mo_want 4 = .ok (.iload_n 1, 1) := by decide +kernel
theorem d_Mo_want_5 : decode b_Mo_want 5 = .ok (.if_icmp .eq 12, 3) := by decide +kernel
theorem d_Mo_want_8 : decode b_Mo_want 8 = .ok (.aload_n 0, 1) := by decide +kernel
theorem d_Mo_want_9 : decode b_Mo_want 9 = .ok (.aload_n 0, 1) := by decide +kernel
theorem d_Mo_want_10 : decode b_Mo_want 10 = .ok (.getfield 128, 3) := by decide +kernel
theorem d_Mo_want_13 : decode b_Mo_want 13 = .ok (.invokevirtual 135, 3) := by decide +kernel
theorem d_Mo_want_16 : decode b_Mo_want 16 = .ok (.ireturn, 1) := by decide +kernel
theorem d_Mo_wipe_0 : decode b_Mo_wipe 0 = .ok (.aload_n 0, 1) := by decide +kernel
theorem d_Mo_wipe_1 : decode b_Mo_wipe 1 = .ok (.iconst 0, 1) := by decide +kernel
theorem d_Mo_wipe_2 : decode b_Mo_wipe 2 = .ok (.putfield 112, 3) := by decide +kernel
theorem d_Mo_wipe_5 : decode b_Mo_wipe 5 = .ok (.aload_n 0, 1) := by decide +kernel
theorem d_Mo_wipe_6 : decode b_Mo_wipe 6 = .ok (.getfield 119, 3) := by decide +kernel
theorem d_Mo_wipe_9 : decode b_Mo_wipe 9 = .ok (.istore_n 1, 1) := by decide +kernel
theorem d_Mo_wipe_10 : decode b_Mo_wipe 10 = .ok (.aload_n 0, 1) := by decide +kernel
theorem d_Mo_wipe_11 : decode b_Mo_wipe 11 = .ok (.iconst 0, 1) := by decide +kernel
theorem d_Mo_wipe_12 : decode b_Mo_wipe 12 = .ok (.putfield 119, 3) := by decide +kernel
theorem d_Mo_wipe_15 : decode b_Mo_wipe 15 = .ok (.iload_n 1, 1) := by decide +kernel
theorem d_Mo_wipe_16 : decode b_Mo_wipe 16 = .ok (.ireturn, 1) := by decide +kernel
theorem d_Mo_within_0 : decode b_Mo_within 0 = .ok (.iload_n 0, 1) := by decide +kernel
theorem d_Mo_within_1 : decode b_Mo_within 1 = .ok (.iload_n 1, 1) := by decide +kernel
theorem d_Mo_within_2 : decode b_Mo_within 2 = .ok (.if_icmp .lt 12, 3) := by decide +kernel
theorem d_Mo_within_5 : decode b_Mo_within 5 = .ok (.iload_n 0, 1) := by decide +kernel
theorem d_Mo_within_6 : decode b_Mo_within 6 = .ok (.iload_n 2, 1) := by decide +kernel
theorem d_Mo_within_7 : decode b_Mo_within 7 = .ok (.if_icmp .gt 7, 3) := by decide +kernel
theorem d_Mo_within_10 : decode b_Mo_within 10 = .ok (.iconst 1, 1) := by decide +kernel
theorem d_Mo_within_11 : decode b_Mo_within 11 = .ok (.goto 4, 3) := by decide +kernel
theorem d_Mo_within_14 : decode b_Mo_within 14 = .ok (.iconst 0, 1) := by decide +kernel
theorem d_Mo_within_15 : decode b_Mo_within 15 = .ok (.ireturn, 1) := by decide +kernel
theorem d_La_good_0 : decode b_La_good 0 = .ok (.aload_n 2, 1) := by decide +kernel
theorem d_La_good_1 : decode b_La_good 1 = .ok (.iconst 0, 1) := by decide +kernel
theorem d_La_good_2 : decode b_La_good 2 = .ok (.aload_n 0, 1) := by decide +kernel
theorem d_La_good_3 : decode b_La_good 3 = .ok (.iload_n 1, 1) := by decide +kernel
theorem d_La_good_4 : decode b_La_good 4 = .ok (.invokevirtual 29, 3) := by decide +kernel
theorem d_La_good_12 : decode b_La_good 12 = .ok (.astore_n 3, 1) := by decide +kernel
theorem d_La_good_13 : decode b_La_good 13 = .ok (.iconst 1, 1) := by decide +kernel
theorem d_La_good_14 : decode b_La_good 14 = .ok (.ireturn, 1) := by decide +kernel
theorem d_La_law_0 : decode code 0 = .ok (.new 8, 3) := by decide +kernel
theorem d_La_law_3 : decode code 3 = .ok (.dup, 1) := by decide +kernel
theorem d_La_law_4 : decode code 4 = .ok (.invokespecial 33, 3) := by decide +kernel
theorem d_La_law_7 : decode code 7 = .ok (.astore_n 1, 1) := by decide +kernel
theorem d_La_law_8 : decode code 8 = .ok (.new 34, 3) := by decide +kernel
theorem d_La_law_11 : decode code 11 = .ok (.dup, 1) := by decide +kernel
theorem d_La_law_12 : decode code 12 = .ok (.invokespecial 36, 3) := by decide +kernel
theorem d_La_law_15 : decode code 15 = .ok (.astore_n 2, 1) := by decide +kernel
theorem d_La_law_16 : decode code 16 = .ok (.iconst 1, 1) := by decide +kernel
theorem d_La_law_17 : decode code 17 = .ok (.newarray .long, 2) := by decide +kernel
theorem d_La_law_19 : decode code 19 = .ok (.astore_n 3, 1) := by decide +kernel
theorem d_La_law_20 : decode code 20 = .ok (.iconst 0, 1) := by decide +kernel
theorem d_La_law_21 : decode code 21 = .ok (.istore 4, 2) := by decide +kernel
theorem d_La_law_23 : decode code 23 = .ok (.iload 4, 2) := by decide +kernel
theorem d_La_law_25 : decode code 25 = .ok (.aload_n 0, 1) := by decide +kernel
theorem d_La_law_26 : decode code 26 = .ok (.arraylength, 1) := by decide +kernel
theorem d_La_law_27 : decode code 27 = .ok (.iconst 4, 1) := by decide +kernel
theorem d_La_law_28 : decode code 28 = .ok (.isub, 1) := by decide +kernel
theorem d_La_law_29 : decode code 29 = .ok (.if_icmp .gt 637, 3) := by decide +kernel
theorem d_La_law_32 : decode code 32 = .ok (.aload_n 0, 1) := by decide +kernel
theorem d_La_law_33 : decode code 33 = .ok (.iload 4, 2) := by decide +kernel
theorem d_La_law_35 : decode code 35 = .ok (.iaload, 1) := by decide +kernel
theorem d_La_law_36 : decode code 36 = .ok (.bipush 15, 2) := by decide +kernel
theorem d_La_law_38 : decode code 38 = .ok (.iand, 1) := by decide +kernel
theorem d_La_law_39 : decode code 39 = .ok (.tableswitch 621 0 14 #[73, 142, 155, 199, 212, 256, 269, 282, 319, 344, 369, 406, 455, 510, 565], 73) := by decide +kernel
theorem d_La_law_112 : decode code 112 = .ok (.aload_n 1, 1) := by decide +kernel
theorem d_La_law_113 : decode code 113 = .ok (.aload_n 0, 1) := by decide +kernel
theorem d_La_law_114 : decode code 114 = .ok (.iload 4, 2) := by decide +kernel
theorem d_La_law_116 : decode code 116 = .ok (.iconst 1, 1) := by decide +kernel
theorem d_La_law_117 : decode code 117 = .ok (.iadd, 1) := by decide +kernel
theorem d_La_law_118 : decode code 118 = .ok (.iaload, 1) := by decide +kernel
theorem d_La_law_119 : decode code 119 = .ok (.i2l, 1) := by decide +kernel
theorem d_La_law_120 : decode code 120 = .ok (.bipush 32, 2) := by decide +kernel
theorem d_La_law_122 : decode code 122 = .ok (.lshl, 1) := by decide +kernel
theorem d_La_law_123 : decode code 123 = .ok (.aload_n 0, 1) := by decide +kernel
theorem d_La_law_124 : decode code 124 = .ok (.iload 4, 2) := by decide +kernel
theorem d_La_law_126 : decode code 126 = .ok (.iconst 2, 1) := by decide +kernel
theorem d_La_law_127 : decode code 127 = .ok (.iadd, 1) := by decide +kernel
theorem d_La_law_128 : decode code 128 = .ok (.iaload, 1) := by decide +kernel
theorem d_La_law_129 : decode code 129 = .ok (.i2l, 1) := by decide +kernel
theorem d_La_law_130 : decode code 130 = .ok (.ldc2_w 37, 3) := by decide +kernel
theorem d_La_law_133 : decode code 133 = .ok (.land, 1) := by decide +kernel
theorem d_La_law_134 : decode code 134 = .ok (.lor, 1) := by decide +kernel
theorem d_La_law_135 : decode code 135 = .ok (.aload_n 0, 1) := by decide +kernel
theorem d_La_law_136 : decode code 136 = .ok (.iload 4, 2) := by decide +kernel
theorem d_La_law_138 : decode code 138 = .ok (.iconst 3, 1) := by decide +kernel
theorem d_La_law_139 : decode code 139 = .ok (.iadd, 1) := by decide +kernel
theorem d_La_law_140 : decode code 140 = .ok (.iaload, 1) := by decide +kernel
theorem d_La_law_141 : decode code 141 = .ok (.invokevirtual 39, 3) := by decide +kernel
theorem d_La_law_144 : decode code 144 = .ok (.aload_n 2, 1) := by decide +kernel
theorem d_La_law_145 : decode code 145 = .ok (.aload_n 0, 1) := by decide +kernel
theorem d_La_law_146 : decode code 146 = .ok (.iload 4, 2) := by decide +kernel
theorem d_La_law_148 : decode code 148 = .ok (.iconst 1, 1) := by decide +kernel
theorem d_La_law_149 : decode code 149 = .ok (.iadd, 1) := by decide +kernel
theorem d_La_law_150 : decode code 150 = .ok (.iaload, 1) := by decide +kernel
theorem d_La_law_151 : decode code 151 = .ok (.i2l, 1) := by decide +kernel
theorem d_La_law_152 : decode code 152 = .ok (.bipush 32, 2) := by decide +kernel
theorem d_La_law_154 : decode code 154 = .ok (.lshl, 1) := by decide +kernel
theorem d_La_law_155 : decode code 155 = .ok (.aload_n 0, 1) := by decide +kernel
theorem d_La_law_156 : decode code 156 = .ok (.iload 4, 2) := by decide +kernel
theorem d_La_law_158 : decode code 158 = .ok (.iconst 2, 1) := by decide +kernel
theorem d_La_law_159 : decode code 159 = .ok (.iadd, 1) := by decide +kernel
theorem d_La_law_160 : decode code 160 = .ok (.iaload, 1) := by decide +kernel
theorem d_La_law_161 : decode code 161 = .ok (.i2l, 1) := by decide +kernel
theorem d_La_law_162 : decode code 162 = .ok (.ldc2_w 37, 3) := by decide +kernel
theorem d_La_law_165 : decode code 165 = .ok (.land, 1) := by decide +kernel
theorem d_La_law_166 : decode code 166 = .ok (.lor, 1) := by decide +kernel
theorem d_La_law_167 : decode code 167 = .ok (.aload_n 0, 1) := by decide +kernel
theorem d_La_law_168 : decode code 168 = .ok (.iload 4, 2) := by decide +kernel
theorem d_La_law_170 : decode code 170 = .ok (.iconst 3, 1) := by decide +kernel
theorem d_La_law_171 : decode code 171 = .ok (.iadd, 1) := by decide +kernel
theorem d_La_law_172 : decode code 172 = .ok (.iaload, 1) := by decide +kernel
theorem d_La_law_173 : decode code 173 = .ok (.invokevirtual 43, 3) := by decide +kernel
theorem d_La_law_176 : decode code 176 = .ok (.if_icmp .eq 484, 3) := by decide +kernel
theorem d_La_law_181 : decode code 181 = .ok (.aload_n 1, 1) := by decide +kernel
theorem d_La_law_182 : decode code 182 = .ok (.invokevirtual 44, 3) := by decide +kernel
theorem d_La_law_185 : decode code 185 = .ok (.aload_n 2, 1) := by decide +kernel
theorem d_La_law_186 : decode code 186 = .ok (.invokevirtual 47, 3) := by decide +kernel
theorem d_La_law_189 : decode code 189 = .ok (.if_icmp .eq 471, 3) := by decide +kernel
theorem d_La_law_194 : decode code 194 = .ok (.aload_n 1, 1) := by decide +kernel
theorem d_La_law_195 : decode code 195 = .ok (.aload_n 3, 1) := by decide +kernel
theorem d_La_law_196 : decode code 196 = .ok (.invokestatic 48, 3) := by decide +kernel
theorem d_La_law_199 : decode code 199 = .ok (.istore 5, 2) := by decide +kernel
theorem d_La_law_201 : decode code 201 = .ok (.aload_n 2, 1) := by decide +kernel
theorem d_La_law_202 : decode code 202 = .ok (.invokevirtual 53, 3) := by decide +kernel
theorem d_La_law_205 : decode code 205 = .ok (.istore 6, 2) := by decide +kernel
theorem d_La_law_207 : decode code 207 = .ok (.aload_n 2, 1) := by decide +kernel
theorem d_La_law_208 : decode code 208 = .ok (.invokevirtual 54, 3) := by decide +kernel
theorem d_La_law_211 : decode code 211 = .ok (.iload 5, 2) := by decide +kernel
theorem d_La_law_213 : decode code 213 = .ok (.if_icmp .eq 5, 3) := by decide +kernel
theorem d_La_law_218 : decode code 218 = .ok (.iload 5, 2) := by decide +kernel
theorem d_La_law_220 : decode code 220 = .ok (.ifCond .ne 15, 3) := by decide +kernel
theorem d_La_law_235 : decode code 235 = .ok (.goto 425, 3) := by decide +kernel
theorem d_La_law_238 : decode code 238 = .ok (.aload_n 1, 1) := by decide +kernel
theorem d_La_law_239 : decode code 239 = .ok (.invokevirtual 57, 3) := by decide +kernel
theorem d_La_law_242 : decode code 242 = .ok (.aload_n 2, 1) := by decide +kernel
theorem d_La_law_243 : decode code 243 = .ok (.invokevirtual 60, 3) := by decide +kernel
theorem d_La_law_246 : decode code 246 = .ok (.if_icmp .eq 414, 3) := by decide +kernel
theorem d_La_law_251 : decode code 251 = .ok (.aload_n 1, 1) := by decide +kernel
theorem d_La_law_252 : decode code 252 = .ok (.aload_n 3, 1) := by decide +kernel
theorem d_La_law_253 : decode code 253 = .ok (.invokestatic 61, 3) := by decide +kernel
theorem d_La_law_256 : decode code 256 = .ok (.istore 5, 2) := by decide +kernel
theorem d_La_law_258 : decode code 258 = .ok (.aload_n 2, 1) := by decide +kernel
theorem d_La_law_259 : decode code 259 = .ok (.invokevirtual 63, 3) := by decide +kernel
theorem d_La_law_262 : decode code 262 = .ok (.istore 6, 2) := by decide +kernel
theorem d_La_law_264 : decode code 264 = .ok (.aload_n 2, 1) := by decide +kernel
theorem d_La_law_265 : decode code 265 = .ok (.invokevirtual 54, 3) := by decide +kernel
theorem d_La_law_268 : decode code 268 = .ok (.iload 5, 2) := by decide +kernel
theorem d_La_law_270 : decode code 270 = .ok (.if_icmp .eq 5, 3) := by decide +kernel
theorem d_La_law_275 : decode code 275 = .ok (.iload 5, 2) := by decide +kernel
theorem d_La_law_277 : decode code 277 = .ok (.ifCond .ne 15, 3) := by decide +kernel
theorem d_La_law_292 : decode code 292 = .ok (.goto 368, 3) := by decide +kernel
theorem d_La_law_295 : decode code 295 = .ok (.aload_n 1, 1) := by decide +kernel
theorem d_La_law_296 : decode code 296 = .ok (.invokevirtual 64, 3) := by decide +kernel
theorem d_La_law_299 : decode code 299 = .ok (.aload_n 2, 1) := by decide +kernel
theorem d_La_law_300 : decode code 300 = .ok (.invokevirtual 67, 3) := by decide +kernel
theorem d_La_law_303 : decode code 303 = .ok (.if_icmp .eq 357, 3) := by decide +kernel
theorem d_La_law_308 : decode code 308 = .ok (.aload_n 1, 1) := by decide +kernel
theorem d_La_law_309 : decode code 309 = .ok (.invokevirtual 68, 3) := by decide +kernel
theorem d_La_law_312 : decode code 312 = .ok (.aload_n 2, 1) := by decide +kernel
theorem d_La_law_313 : decode code 313 = .ok (.invokevirtual 71, 3) := by decide +kernel
theorem d_La_law_316 : decode code 316 = .ok (.if_icmp .eq 344, 3) := by decide +kernel
theorem d_La_law_321 : decode code 321 = .ok (.aload_n 1, 1) := by decide +kernel
theorem d_La_law_322 : decode code 322 = .ok (.aload_n 0, 1) := by decide +kernel
theorem d_La_law_323 : decode code 323 = .ok (.iload 4, 2) := by decide +kernel
theorem d_La_law_325 : decode code 325 = .ok (.iconst 1, 1) := by decide +kernel
theorem d_La_law_326 : decode code 326 = .ok (.iadd, 1) := by decide +kernel
theorem d_La_law_327 : decode code 327 = .ok (.iaload, 1) := by decide +kernel
theorem d_La_law_328 : decode code 328 = .ok (.aload_n 0, 1) := by decide +kernel
theorem d_La_law_329 : decode code 329 = .ok (.iload 4, 2) := by decide +kernel
theorem d_La_law_331 : decode code 331 = .ok (.iconst 2, 1) := by decide +kernel
theorem d_La_law_332 : decode code 332 = .ok (.iadd, 1) := by decide +kernel
theorem d_La_law_333 : decode code 333 = .ok (.iaload, 1) := by decide +kernel
theorem d_La_law_334 : decode code 334 = .ok (.invokevirtual 72, 3) := by decide +kernel
theorem d_La_law_337 : decode code 337 = .ok (.aload_n 2, 1) := by decide +kernel
theorem d_La_law_338 : decode code 338 = .ok (.aload_n 0, 1) := by decide +kernel
theorem d_La_law_339 : decode code 339 = .ok (.iload 4, 2) := by decide +kernel
theorem d_La_law_341 : decode code 341 = .ok (.iconst 1, 1) := by decide +kernel
theorem d_La_law_342 : decode code 342 = .ok (.iadd, 1) := by decide +kernel
theorem d_La_law_343 : decode code 343 = .ok (.iaload, 1) := by decide +kernel
theorem d_La_law_344 : decode code 344 = .ok (.aload_n 0, 1) := by decide +kernel
theorem d_La_law_345 : decode code 345 = .ok (.iload 4, 2) := by decide +kernel
theorem d_La_law_347 : decode code 347 = .ok (.iconst 2, 1) := by decide +kernel
theorem d_La_law_348 : decode code 348 = .ok (.iadd, 1) := by decide +kernel
theorem d_La_law_349 : decode code 349 = .ok (.iaload, 1) := by decide +kernel
theorem d_La_law_350 : decode code 350 = .ok (.invokevirtual 76, 3) := by decide +kernel
theorem d_La_law_353 : decode code 353 = .ok (.if_icmp .eq 307, 3) := by decide +kernel
theorem d_La_law_358 : decode code 358 = .ok (.aload_n 1, 1) := by decide +kernel
theorem d_La_law_359 : decode code 359 = .ok (.aload_n 0, 1) := by decide +kernel
theorem d_La_law_360 : decode code 360 = .ok (.iload 4, 2) := by decide +kernel
theorem d_La_law_362 : decode code 362 = .ok (.iconst 1, 1) := by decide +kernel
theorem d_La_law_363 : decode code 363 = .ok (.iadd, 1) := by decide +kernel
theorem d_La_law_364 : decode code 364 = .ok (.iaload, 1) := by decide +kernel
theorem d_La_law_365 : decode code 365 = .ok (.invokevirtual 77, 3) := by decide +kernel
theorem d_La_law_368 : decode code 368 = .ok (.aload_n 2, 1) := by decide +kernel
theorem d_La_law_369 : decode code 369 = .ok (.aload_n 0, 1) := by decide +kernel
theorem d_La_law_370 : decode code 370 = .ok (.iload 4, 2) := by decide +kernel
theorem d_La_law_372 : decode code 372 = .ok (.iconst 1, 1) := by decide +kernel
theorem d_La_law_373 : decode code 373 = .ok (.iadd, 1) := by decide +kernel
theorem d_La_law_374 : decode code 374 = .ok (.iaload, 1) := by decide +kernel
theorem d_La_law_375 : decode code 375 = .ok (.invokevirtual 81, 3) := by decide +kernel
theorem d_La_law_378 : decode code 378 = .ok (.if_icmp .eq 282, 3) := by decide +kernel
theorem d_La_law_383 : decode code 383 = .ok (.aload_n 1, 1) := by decide +kernel
theorem d_La_law_384 : decode code 384 = .ok (.aload_n 0, 1) := by decide +kernel
theorem d_La_law_385 : decode code 385 = .ok (.iload 4, 2) := by decide +kernel
theorem d_La_law_387 : decode code 387 = .ok (.iconst 1, 1) := by decide +kernel
theorem d_La_law_388 : decode code 388 = .ok (.iadd, 1) := by decide +kernel
theorem d_La_law_389 : decode code 389 = .ok (.iaload, 1) := by decide +kernel
theorem d_La_law_390 : decode code 390 = .ok (.invokevirtual 82, 3) := by decide +kernel
theorem d_La_law_393 : decode code 393 = .ok (.aload_n 2, 1) := by decide +kernel
theorem d_La_law_394 : decode code 394 = .ok (.aload_n 0, 1) := by decide +kernel
theorem d_La_law_395 : decode code 395 = .ok (.iload 4, 2) := by decide +kernel
theorem d_La_law_397 : decode code 397 = .ok (.iconst 1, 1) := by decide +kernel
theorem d_La_law_398 : decode code 398 = .ok (.iadd, 1) := by decide +kernel
theorem d_La_law_399 : decode code 399 = .ok (.iaload, 1) := by decide +kernel
theorem d_La_law_400 : decode code 400 = .ok (.invokevirtual 85, 3) := by decide +kernel
theorem d_La_law_403 : decode code 403 = .ok (.if_icmp .eq 257, 3) := by decide +kernel
theorem d_La_law_408 : decode code 408 = .ok (.aload_n 1, 1) := by decide +kernel
theorem d_La_law_409 : decode code 409 = .ok (.aload_n 0, 1) := by decide +kernel
theorem d_La_law_410 : decode code 410 = .ok (.iload 4, 2) := by decide +kernel
theorem d_La_law_412 : decode code 412 = .ok (.iconst 1, 1) := by decide +kernel
theorem d_La_law_413 : decode code 413 = .ok (.iadd, 1) := by decide +kernel
theorem d_La_law_414 : decode code 414 = .ok (.iaload, 1) := by decide +kernel
theorem d_La_law_415 : decode code 415 = .ok (.aload_n 0, 1) := by decide +kernel
theorem d_La_law_416 : decode code 416 = .ok (.iload 4, 2) := by decide +kernel
theorem d_La_law_418 : decode code 418 = .ok (.iconst 2, 1) := by decide +kernel
theorem d_La_law_419 : decode code 419 = .ok (.iadd, 1) := by decide +kernel
theorem d_La_law_420 : decode code 420 = .ok (.iaload, 1) := by decide +kernel
theorem d_La_law_421 : decode code 421 = .ok (.invokevirtual 86, 3) := by decide +kernel
theorem d_La_law_424 : decode code 424 = .ok (.aload_n 2, 1) := by decide +kernel
theorem d_La_law_425 : decode code 425 = .ok (.aload_n 0, 1) := by decide +kernel
theorem d_La_law_426 : decode code 426 = .ok (.iload 4, 2) := by decide +kernel
theorem d_La_law_428 : decode code 428 = .ok (.iconst 1, 1) := by decide +kernel
theorem d_La_law_429 : decode code 429 = .ok (.iadd, 1) := by decide +kernel
theorem d_La_law_430 : decode code 430 = .ok (.iaload, 1) := by decide +kernel
theorem d_La_law_431 : decode code 431 = .ok (.aload_n 0, 1) := by decide +kernel
theorem d_La_law_432 : decode code 432 = .ok (.iload 4, 2) := by decide +kernel
theorem d_La_law_434 : decode code 434 = .ok (.iconst 2, 1) := by decide +kernel
theorem d_La_law_435 : decode code 435 = .ok (.iadd, 1) := by decide +kernel
theorem d_La_law_436 : decode code 436 = .ok (.iaload, 1) := by decide +kernel
theorem d_La_law_437 : decode code 437 = .ok (.invokevirtual 89, 3) := by decide +kernel
theorem d_La_law_440 : decode code 440 = .ok (.if_icmp .eq 220, 3) := by decide +kernel
theorem d_La_law_445 : decode code 445 = .ok (.aload_n 1, 1) := by decide +kernel
theorem d_La_law_446 : decode code 446 = .ok (.aload_n 0, 1) := by decide +kernel
theorem d_La_law_447 : decode code 447 = .ok (.iload 4, 2) := by decide +kernel
