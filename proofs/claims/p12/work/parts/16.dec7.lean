theorem d_Mo_divisor_18 : decode b_Mo_divisor 18 = .ok (.lstore 8, 2) := by decide +kernel
theorem d_Mo_divisor_20 : decode b_Mo_divisor 20 = .ok (.lload 6, 2) := by decide +kernel
theorem d_Mo_divisor_22 : decode b_Mo_divisor 22 = .ok (.lstore 4, 2) := by decide +kernel
theorem d_Mo_divisor_24 : decode b_Mo_divisor 24 = .ok (.lload 8, 2) := by decide +kernel
theorem d_Mo_divisor_26 : decode b_Mo_divisor 26 = .ok (.lstore 6, 2) := by decide +kernel
theorem d_Mo_divisor_28 : decode b_Mo_divisor 28 = .ok (.goto (-22), 3) := by decide +kernel
theorem d_Mo_divisor_31 : decode b_Mo_divisor 31 = .ok (.lload 4, 2) := by decide +kernel
theorem d_Mo_divisor_33 : decode b_Mo_divisor 33 = .ok (.lreturn, 1) := by decide +kernel
theorem d_Mo_isKept_0 : decode b_Mo_isKept 0 = .ok (.iconst 1, 1) := by decide +kernel
theorem d_Mo_isKept_1 : decode b_Mo_isKept 1 = .ok (.istore_n 1, 1) := by decide +kernel
theorem d_Mo_isKept_2 : decode b_Mo_isKept 2 = .ok (.iconst 0, 1) := by decide +kernel
theorem d_Mo_isKept_3 : decode b_Mo_isKept 3 = .ok (.istore_n 2, 1) := by decide +kernel
theorem d_Mo_isKept_4 : decode b_Mo_isKept 4 = .ok (.iload_n 2, 1) := by decide +kernel
theorem d_Mo_isKept_5 : decode b_Mo_isKept 5 = .ok (.aload_n 0, 1) := by decide +kernel
theorem d_Mo_isKept_6 : decode b_Mo_isKept 6 = .ok (.getfield 198, 3) := by decide +kernel
theorem d_Mo_isKept_9 : decode b_Mo_isKept 9 = .ok (.if_icmp .ge 47, 3) := by decide +kernel
theorem d_Mo_isKept_12 : decode b_Mo_isKept 12 = .ok (.iload_n 1, 1) := by decide +kernel
theorem d_Mo_isKept_13 : decode b_Mo_isKept 13 = .ok (.ifCond .eq 35, 3) := by decide +kernel
theorem d_Mo_isKept_16 : decode b_Mo_isKept 16 = .ok (.aload_n 0, 1) := by decide +kernel
theorem d_Mo_isKept_17 : decode b_Mo_isKept 17 = .ok (.getfield 100, 3) := by decide +kernel
theorem d_Mo_isKept_20 : decode b_Mo_isKept 20 = .ok (.iload_n 2, 1) := by decide +kernel
theorem d_Mo_isKept_21 : decode b_Mo_isKept 21 = .ok (.laload, 1) := by decide +kernel
theorem d_Mo_isKept_22 : decode b_Mo_isKept 22 = .ok (.aload_n 0, 1) := by decide +kernel
theorem d_Mo_isKept_23 : decode b_Mo_isKept 23 = .ok (.getfield 106, 3) := by decide +kernel
theorem d_Mo_isKept_26 : decode b_Mo_isKept 26 = .ok (.iload_n 2, 1) := by decide +kernel
theorem d_Mo_isKept_27 : decode b_Mo_isKept 27 = .ok (.laload, 1) := by decide +kernel
theorem d_Mo_isKept_28 : decode b_Mo_isKept 28 = .ok (.lmul, 1) := by decide +kernel
theorem d_Mo_isKept_29 : decode b_Mo_isKept 29 = .ok (.aload_n 0, 1) := by decide +kernel
theorem d_Mo_isKept_30 : decode b_Mo_isKept 30 = .ok (.getfield 103, 3) := by decide +kernel
theorem d_Mo_isKept_33 : decode b_Mo_isKept 33 = .ok (.iload_n 2, 1) := by decide +kernel
theorem d_Mo_isKept_34 : decode b_Mo_isKept 34 = .ok (.laload, 1) := by decide +kernel
theorem d_Mo_isKept_35 : decode b_Mo_isKept 35 = .ok (.aload_n 0, 1) := by decide +kernel
theorem d_Mo_isKept_36 : decode b_Mo_isKept 36 = .ok (.getfield 244, 3) := by decide +kernel
theorem d_Mo_isKept_39 : decode b_Mo_isKept 39 = .ok (.lmul, 1) := by decide +kernel
theorem d_Mo_isKept_40 : decode b_Mo_isKept 40 = .ok (.lcmp, 1) := by decide +kernel
theorem d_Mo_isKept_41 : decode b_Mo_isKept 41 = .ok (.ifCond .ne 7, 3) := by decide +kernel
theorem d_Mo_isKept_44 : decode b_Mo_isKept 44 = .ok (.iconst 1, 1) := by decide +kernel
theorem d_Mo_isKept_45 : decode b_Mo_isKept 45 = .ok (.goto 4, 3) := by decide +kernel
theorem d_Mo_isKept_48 : decode b_Mo_isKept 48 = .ok (.iconst 0, 1) := by decide +kernel
theorem d_Mo_isKept_49 : decode b_Mo_isKept 49 = .ok (.istore_n 1, 1) := by decide +kernel
theorem d_Mo_isKept_50 : decode b_Mo_isKept 50 = .ok (.iinc 2 1, 3) := by decide +kernel
theorem d_Mo_isKept_53 : decode b_Mo_isKept 53 = .ok (.goto (-49), 3) := by decide +kernel
theorem d_Mo_isKept_56 : decode b_Mo_isKept 56 = .ok (.iload_n 1, 1) := by decide +kernel
theorem d_Mo_isKept_57 : decode b_Mo_isKept 57 = .ok (.ireturn, 1) := by decide +kernel
theorem d_Mo_allowAll_0 : decode b_Mo_allowAll 0 = .ok (.iconst 0, 1) := by decide +kernel
theorem d_Mo_allowAll_1 : decode b_Mo_allowAll 1 = .ok (.istore_n 1, 1) := by decide +kernel
theorem d_Mo_allowAll_2 : decode b_Mo_allowAll 2 = .ok (.iload_n 1, 1) := by decide +kernel
theorem d_Mo_allowAll_3 : decode b_Mo_allowAll 3 = .ok (.aload_n 0, 1) := by decide +kernel
theorem d_Mo_allowAll_4 : decode b_Mo_allowAll 4 = .ok (.getfield 198, 3) := by decide +kernel
theorem d_Mo_allowAll_7 : decode b_Mo_allowAll 7 = .ok (.if_icmp .ge 25, 3) := by decide +kernel
theorem d_Mo_allowAll_10 : decode b_Mo_allowAll 10 = .ok (.aload_n 0, 1) := by decide +kernel
theorem d_Mo_allowAll_11 : decode b_Mo_allowAll 11 = .ok (.getfield 81, 3) := by decide +kernel
theorem d_Mo_allowAll_14 : decode b_Mo_allowAll 14 = .ok (.iload_n 1, 1) := by decide +kernel
theorem d_Mo_allowAll_15 : decode b_Mo_allowAll 15 = .ok (.iconst 1, 1) := by decide +kernel
theorem d_Mo_allowAll_16 : decode b_Mo_allowAll 16 = .ok (.aload_n 0, 1) := by decide +kernel
theorem d_Mo_allowAll_17 : decode b_Mo_allowAll 17 = .ok (.getfield 72, 3) := by decide +kernel
theorem d_Mo_allowAll_20 : decode b_Mo_allowAll 20 = .ok (.iload_n 1, 1) := by decide +kernel
theorem d_Mo_allowAll_21 : decode b_Mo_allowAll 21 = .ok (.iaload, 1) := by decide +kernel
theorem d_Mo_allowAll_22 : decode b_Mo_allowAll 22 = .ok (.ishl, 1) := by decide +kernel
theorem d_Mo_allowAll_23 : decode b_Mo_allowAll 23 = .ok (.iconst 1, 1) := by decide +kernel
theorem d_Mo_allowAll_24 : decode b_Mo_allowAll 24 = .ok (.isub, 1) := by decide +kernel
theorem d_Mo_allowAll_25 : decode b_Mo_allowAll 25 = .ok (.iastore, 1) := by decide +kernel
theorem d_Mo_allowAll_26 : decode b_Mo_allowAll 26 = .ok (.iinc 1 1, 3) := by decide +kernel
theorem d_Mo_allowAll_29 : decode b_Mo_allowAll 29 = .ok (.goto (-27), 3) := by decide +kernel
theorem d_Mo_allowAll_32 : decode b_Mo_allowAll 32 = .ok (.return_, 1) := by decide +kernel
theorem d_Mo_findBest_0 : decode b_Mo_findBest 0 = .ok (.aload_n 0, 1) := by decide +kernel
theorem d_Mo_findBest_1 : decode b_Mo_findBest 1 = .ok (.invokevirtual 267, 3) := by decide +kernel
theorem d_Mo_findBest_4 : decode b_Mo_findBest 4 = .ok (.iconst 0, 1) := by decide +kernel
theorem d_Mo_findBest_5 : decode b_Mo_findBest 5 = .ok (.istore_n 2, 1) := by decide +kernel
theorem d_Mo_findBest_6 : decode b_Mo_findBest 6 = .ok (.iload_n 2, 1) := by decide +kernel
theorem d_Mo_findBest_7 : decode b_Mo_findBest 7 = .ok (.aload_n 0, 1) := by decide +kernel
theorem d_Mo_findBest_8 : decode b_Mo_findBest 8 = .ok (.getfield 198, 3) := by decide +kernel
theorem d_Mo_findBest_11 : decode b_Mo_findBest 11 = .ok (.if_icmp .ge 92, 3) := by decide +kernel
theorem d_Mo_findBest_14 : decode b_Mo_findBest 14 = .ok (.aload_n 0, 1) := by decide +kernel
theorem d_Mo_findBest_15 : decode b_Mo_findBest 15 = .ok (.getfield 72, 3) := by decide +kernel
theorem d_Mo_findBest_18 : decode b_Mo_findBest 18 = .ok (.iload_n 2, 1) := by decide +kernel
theorem d_Mo_findBest_19 : decode b_Mo_findBest 19 = .ok (.iaload, 1) := by decide +kernel
theorem d_Mo_findBest_20 : decode b_Mo_findBest 20 = .ok (.ifCond .le 77, 3) := by decide +kernel
theorem d_Mo_findBest_23 : decode b_Mo_findBest 23 = .ok (.aload_n 0, 1) := by decide +kernel
theorem d_Mo_findBest_24 : decode b_Mo_findBest 24 = .ok (.getfield 66, 3) := by decide +kernel
theorem d_Mo_findBest_27 : decode b_Mo_findBest 27 = .ok (.iload_n 2, 1) := by decide +kernel
theorem d_Mo_findBest_28 : decode b_Mo_findBest 28 = .ok (.baload, 1) := by decide +kernel
theorem d_Mo_findBest_29 : decode b_Mo_findBest 29 = .ok (.iload_n 1, 1) := by decide +kernel
theorem d_Mo_findBest_30 : decode b_Mo_findBest 30 = .ok (.if_icmp .ne 67, 3) := by decide +kernel
theorem d_Mo_findBest_33 : decode b_Mo_findBest 33 = .ok (.iconst (-1), 1) := by decide +kernel
theorem d_Mo_findBest_34 : decode b_Mo_findBest 34 = .ok (.istore_n 3, 1) := by decide +kernel
theorem d_Mo_findBest_35 : decode b_Mo_findBest 35 = .ok (.iconst 0, 1) := by decide +kernel
theorem d_Mo_findBest_36 : decode b_Mo_findBest 36 = .ok (.istore 4, 2) := by decide +kernel
theorem d_Mo_findBest_38 : decode b_Mo_findBest 38 = .ok (.iload 4, 2) := by decide +kernel
theorem d_Mo_findBest_40 : decode b_Mo_findBest 40 = .ok (.ifCond .ne 40, 3) := by decide +kernel
theorem d_Mo_findBest_43 : decode b_Mo_findBest 43 = .ok (.iload_n 3, 1) := by decide +kernel
theorem d_Mo_findBest_44 : decode b_Mo_findBest 44 = .ok (.aload_n 0, 1) := by decide +kernel
theorem d_Mo_findBest_45 : decode b_Mo_findBest 45 = .ok (.getfield 72, 3) := by decide +kernel
theorem d_Mo_findBest_48 : decode b_Mo_findBest 48 = .ok (.iload_n 2, 1) := by decide +kernel
theorem d_Mo_findBest_49 : decode b_Mo_findBest 49 = .ok (.iaload, 1) := by decide +kernel
theorem d_Mo_findBest_50 : decode b_Mo_findBest 50 = .ok (.iconst 1, 1) := by decide +kernel
theorem d_Mo_findBest_51 : decode b_Mo_findBest 51 = .ok (.isub, 1) := by decide +kernel
theorem d_Mo_findBest_52 : decode b_Mo_findBest 52 = .ok (.if_icmp .ge 28, 3) := by decide +kernel
theorem d_Mo_findBest_55 : decode b_Mo_findBest 55 = .ok (.iinc 3 1, 3) := by decide +kernel
theorem d_Mo_findBest_58 : decode b_Mo_findBest 58 = .ok (.aload_n 0, 1) := by decide +kernel
theorem d_Mo_findBest_59 : decode b_Mo_findBest 59 = .ok (.getfield 81, 3) := by decide +kernel
theorem d_Mo_findBest_62 : decode b_Mo_findBest 62 = .ok (.iload_n 2, 1) := by decide +kernel
theorem d_Mo_findBest_63 : decode b_Mo_findBest 63 = .ok (.iconst 1, 1) := by decide +kernel
theorem d_Mo_findBest_64 : decode b_Mo_findBest 64 = .ok (.iload_n 3, 1) := by decide +kernel
theorem d_Mo_findBest_65 : decode b_Mo_findBest 65 = .ok (.ishl, 1) := by decide +kernel
theorem d_Mo_findBest_66 : decode b_Mo_findBest 66 = .ok (.iastore, 1) := by decide +kernel
theorem d_Mo_findBest_67 : decode b_Mo_findBest 67 = .ok (.aload_n 0, 1) := by decide +kernel
theorem d_Mo_findBest_68 : decode b_Mo_findBest 68 = .ok (.invokevirtual 270, 3) := by decide +kernel
theorem d_Mo_findBest_71 : decode b_Mo_findBest 71 = .ok (.aload_n 0, 1) := by decide +kernel
theorem d_Mo_findBest_72 : decode b_Mo_findBest 72 = .ok (.invokevirtual 273, 3) := by decide +kernel
theorem d_Mo_findBest_75 : decode b_Mo_findBest 75 = .ok (.istore 4, 2) := by decide +kernel
theorem d_Mo_findBest_77 : decode b_Mo_findBest 77 = .ok (.goto (-39), 3) := by decide +kernel
theorem d_Mo_findBest_80 : decode b_Mo_findBest 80 = .ok (.aload_n 0, 1) := by decide +kernel
theorem d_Mo_findBest_81 : decode b_Mo_findBest 81 = .ok (.getfield 109, 3) := by decide +kernel
theorem d_Mo_findBest_84 : decode b_Mo_findBest 84 = .ok (.iload_n 2, 1) := by decide +kernel
theorem d_Mo_findBest_85 : decode b_Mo_findBest 85 = .ok (.aload_n 0, 1) := by decide +kernel
theorem d_Mo_findBest_86 : decode b_Mo_findBest 86 = .ok (.getfield 69, 3) := by decide +kernel
theorem d_Mo_findBest_89 : decode b_Mo_findBest 89 = .ok (.bipush 10, 2) := by decide +kernel
theorem d_Mo_findBest_91 : decode b_Mo_findBest 91 = .ok (.iload_n 2, 1) := by decide +kernel
theorem d_Mo_findBest_92 : decode b_Mo_findBest 92 = .ok (.imul, 1) := by decide +kernel
theorem d_Mo_findBest_93 : decode b_Mo_findBest 93 = .ok (.iload_n 3, 1) := by decide +kernel
theorem d_Mo_findBest_94 : decode b_Mo_findBest 94 = .ok (.iadd, 1) := by decide +kernel
theorem d_Mo_findBest_95 : decode b_Mo_findBest 95 = .ok (.iaload, 1) := by decide +kernel
theorem d_Mo_findBest_96 : decode b_Mo_findBest 96 = .ok (.iastore, 1) := by decide +kernel
theorem d_Mo_findBest_97 : decode b_Mo_findBest 97 = .ok (.iinc 2 1, 3) := by decide +kernel
theorem d_Mo_findBest_100 : decode b_Mo_findBest 100 = .ok (.goto (-94), 3) := by decide +kernel
theorem d_Mo_findBest_103 : decode b_Mo_findBest 103 = .ok (.return_, 1) := by decide +kernel
theorem d_Mo_solve_0 : decode b_Mo_solve 0 = .ok (.aload_n 0, 1) := by decide +kernel
theorem d_Mo_solve_1 : decode b_Mo_solve 1 = .ok (.aload_n 0, 1) := by decide +kernel
theorem d_Mo_solve_2 : decode b_Mo_solve 2 = .ok (.getfield 17, 3) := by decide +kernel
theorem d_Mo_solve_5 : decode b_Mo_solve 5 = .ok (.ifCond .ge 7, 3) := by decide +kernel
theorem d_Mo_solve_8 : decode b_Mo_solve 8 = .ok (.iconst 1, 1) := by decide +kernel
theorem d_Mo_solve_9 : decode b_Mo_solve 9 = .ok (.goto 4, 3) := by decide +kernel
theorem d_Mo_solve_12 : decode b_Mo_solve 12 = .ok (.iconst 0, 1) := by decide +kernel
theorem d_Mo_solve_13 : decode b_Mo_solve 13 = .ok (.putfield 112, 3) := by decide +kernel
theorem d_Mo_solve_16 : decode b_Mo_solve 16 = .ok (.aload_n 0, 1) := by decide +kernel
theorem d_Mo_solve_17 : decode b_Mo_solve 17 = .ok (.getfield 112, 3) := by decide +kernel
theorem d_Mo_solve_20 : decode b_Mo_solve 20 = .ok (.ifCond .le 5, 3) := by decide +kernel
theorem d_Mo_solve_23 : decode b_Mo_solve 23 = .ok (.iconst 0, 1) := by decide +kernel
theorem d_Mo_solve_24 : decode b_Mo_solve 24 = .ok (.ireturn, 1) := by decide +kernel
theorem d_Mo_solve_25 : decode b_Mo_solve 25 = .ok (.aload_n 0, 1) := by decide +kernel
theorem d_Mo_solve_26 : decode b_Mo_solve 26 = .ok (.iconst 0, 1) := by decide +kernel
theorem d_Mo_solve_27 : decode b_Mo_solve 27 = .ok (.putfield 201, 3) := by decide +kernel
theorem d_Mo_solve_30 : decode b_Mo_solve 30 = .ok (.aload_n 0, 1) := by decide +kernel
theorem d_Mo_solve_31 : decode b_Mo_solve 31 = .ok (.invokevirtual 276, 3) := by decide +kernel
theorem d_Mo_solve_34 : decode b_Mo_solve 34 = .ok (.istore_n 1, 1) := by decide +kernel
theorem d_Mo_solve_35 : decode b_Mo_solve 35 = .ok (.iload_n 1, 1) := by decide +kernel
theorem d_Mo_solve_36 : decode b_Mo_solve 36 = .ok (.ifCond .ge 5, 3) := by decide +kernel
theorem d_Mo_solve_39 : decode b_Mo_solve 39 = .ok (.iload_n 1, 1) := by decide +kernel
theorem d_Mo_solve_40 : decode b_Mo_solve 40 = .ok (.ireturn, 1) := by decide +kernel
theorem d_Mo_solve_41 : decode b_Mo_solve 41 = .ok (.aload_n 0, 1) := by decide +kernel
theorem d_Mo_solve_42 : decode b_Mo_solve 42 = .ok (.invokevirtual 267, 3) := by decide +kernel
theorem d_Mo_solve_45 : decode b_Mo_solve 45 = .ok (.aload_n 0, 1) := by decide +kernel
theorem d_Mo_solve_46 : decode b_Mo_solve 46 = .ok (.invokevirtual 270, 3) := by decide +kernel
theorem d_Mo_solve_49 : decode b_Mo_solve 49 = .ok (.iconst 0, 1) := by decide +kernel
theorem d_Mo_solve_50 : decode b_Mo_solve 50 = .ok (.istore_n 2, 1) := by decide +kernel
theorem d_Mo_solve_51 : decode b_Mo_solve 51 = .ok (.iload_n 2, 1) := by decide +kernel
theorem d_Mo_solve_52 : decode b_Mo_solve 52 = .ok (.aload_n 0, 1) := by decide +kernel
theorem d_Mo_solve_53 : decode b_Mo_solve 53 = .ok (.getfield 198, 3) := by decide +kernel
theorem d_Mo_solve_56 : decode b_Mo_solve 56 = .ok (.if_icmp .ge 56, 3) := by decide +kernel
theorem d_Mo_solve_59 : decode b_Mo_solve 59 = .ok (.aload_n 0, 1) := by decide +kernel
theorem d_Mo_solve_60 : decode b_Mo_solve 60 = .ok (.getfield 100, 3) := by decide +kernel
theorem d_Mo_solve_63 : decode b_Mo_solve 63 = .ok (.iload_n 2, 1) := by decide +kernel
theorem d_Mo_solve_64 : decode b_Mo_solve 64 = .ok (.laload, 1) := by decide +kernel
theorem d_Mo_solve_65 : decode b_Mo_solve 65 = .ok (.aload_n 0, 1) := by decide +kernel
theorem d_Mo_solve_66 : decode b_Mo_solve 66 = .ok (.getfield 244, 3) := by decide +kernel
theorem d_Mo_solve_69 : decode b_Mo_solve 69 = .ok (.invokestatic 279, 3) := by decide +kernel
theorem d_Mo_solve_72 : decode b_Mo_solve 72 = .ok (.lstore_n 3, 1) := by decide +kernel
theorem d_Mo_solve_73 : decode b_Mo_solve 73 = .ok (.aload_n 0, 1) := by decide +kernel
theorem d_Mo_solve_74 : decode b_Mo_solve 74 = .ok (.getfield 103, 3) := by decide +kernel
theorem d_Mo_solve_77 : decode b_Mo_solve 77 = .ok (.iload_n 2, 1) := by decide +kernel
theorem d_Mo_solve_78 : decode b_Mo_solve 78 = .ok (.aload_n 0, 1) := by decide +kernel
theorem d_Mo_solve_79 : decode b_Mo_solve 79 = .ok (.getfield 100, 3) := by decide +kernel
theorem d_Mo_solve_82 : decode b_Mo_solve 82 = .ok (.iload_n 2, 1) := by decide +kernel
theorem d_Mo_solve_83 : decode b_Mo_solve 83 = .ok (.laload, 1) := by decide +kernel
theorem d_Mo_solve_84 : decode b_Mo_solve 84 = .ok (.lload_n 3, 1) := by decide +kernel
theorem d_Mo_solve_85 : decode b_Mo_solve 85 = .ok (.ldiv, 1) := by decide +kernel
theorem d_Mo_solve_86 : decode b_Mo_solve 86 = .ok (.lastore, 1) := by decide +kernel
theorem d_Mo_solve_87 : decode b_Mo_solve 87 = .ok (.aload_n 0, 1) := by decide +kernel
theorem d_Mo_solve_88 : decode b_Mo_solve 88 = .ok (.getfield 106, 3) := by decide +kernel
theorem d_Mo_solve_91 : decode b_Mo_solve 91 = .ok (.iload_n 2, 1) := by decide +kernel
theorem d_Mo_solve_92 : decode b_Mo_solve 92 = .ok (.aload_n 0, 1) := by decide +kernel
theorem d_Mo_solve_93 : decode b_Mo_solve 93 = .ok (.getfield 244, 3) := by decide +kernel
theorem d_Mo_solve_96 : decode b_Mo_solve 96 = .ok (.lload_n 3, 1) := by decide +kernel
theorem d_Mo_solve_97 : decode b_Mo_solve 97 = .ok (.ldiv, 1) := by decide +kernel
theorem d_Mo_solve_98 : decode b_Mo_solve 98 = .ok (.lastore, 1) := by decide +kernel
theorem d_Mo_solve_99 : decode b_Mo_solve 99 = .ok (.aload_n 0, 1) := by decide +kernel
theorem d_Mo_solve_100 : decode b_Mo_solve 100 = .ok (.getfield 109, 3) := by decide +kernel
theorem d_Mo_solve_103 : decode b_Mo_solve 103 = .ok (.iload_n 2, 1) := by decide +kernel
theorem d_Mo_solve_104 : decode b_Mo_solve 104 = .ok (.iconst (-1), 1) := by decide +kernel
theorem d_Mo_solve_105 : decode b_Mo_solve 105 = .ok (.iastore, 1) := by decide +kernel
theorem d_Mo_solve_106 : decode b_Mo_solve 106 = .ok (.iinc 2 1, 3) := by decide +kernel
theorem d_Mo_solve_109 : decode b_Mo_solve 109 = .ok (.goto (-58), 3) := by decide +kernel
theorem d_Mo_solve_112 : decode b_Mo_solve 112 = .ok (.aload_n 0, 1) := by decide +kernel
theorem d_Mo_solve_113 : decode b_Mo_solve 113 = .ok (.iconst 1, 1) := by decide +kernel
theorem d_Mo_solve_114 : decode b_Mo_solve 114 = .ok (.invokevirtual 283, 3) := by decide +kernel
theorem d_Mo_solve_117 : decode b_Mo_solve 117 = .ok (.aload_n 0, 1) := by decide +kernel
theorem d_Mo_solve_118 : decode b_Mo_solve 118 = .ok (.iconst 0, 1) := by decide +kernel
theorem d_Mo_solve_119 : decode b_Mo_solve 119 = .ok (.invokevirtual 283, 3) := by decide +kernel
theorem d_Mo_solve_122 : decode b_Mo_solve 122 = .ok (.aload_n 0, 1) := by decide +kernel
theorem d_Mo_solve_123 : decode b_Mo_solve 123 = .ok (.iconst 1, 1) := by decide +kernel
theorem d_Mo_solve_124 : decode b_Mo_solve 124 = .ok (.putfield 201, 3) := by decide +kernel
theorem d_Mo_solve_127 : decode b_Mo_solve 127 = .ok (.iload_n 1, 1) := by decide +kernel
theorem d_Mo_solve_128 : decode b_Mo_solve 128 = .ok (.ireturn, 1) := by decide +kernel
theorem d_Mo_isState_0 : decode b_Mo_isState 0 = .ok (.iload_n 1, 1) := by decide +kernel
theorem d_Mo_isState_1 : decode b_Mo_isState 1 = .ok (.iconst 0, 1) := by decide +kernel
theorem d_Mo_isState_2 : decode b_Mo_isState 2 = .ok (.aload_n 0, 1) := by decide +kernel
theorem d_Mo_isState_3 : decode b_Mo_isState 3 = .ok (.getfield 198, 3) := by decide +kernel
theorem d_Mo_isState_6 : decode b_Mo_isState 6 = .ok (.iconst 1, 1) := by decide +kernel
theorem d_Mo_isState_7 : decode b_Mo_isState 7 = .ok (.isub, 1) := by decide +kernel
theorem d_Mo_isState_8 : decode b_Mo_isState 8 = .ok (.invokestatic 115, 3) := by decide +kernel
theorem d_Mo_isState_11 : decode b_Mo_isState 11 = .ok (.ireturn, 1) := by decide +kernel
theorem d_Mo_states_0 : decode b_Mo_states 0 = .ok (.aload_n 0, 1) := by decide +kernel
theorem d_Mo_states_1 : decode b_Mo_states 1 = .ok (.iconst 0, 1) := by decide +kernel
theorem d_Mo_states_2 : decode b_Mo_states 2 = .ok (.putfield 112, 3) := by decide +kernel
theorem d_Mo_states_5 : decode b_Mo_states 5 = .ok (.aload_n 0, 1) := by decide +kernel
theorem d_Mo_states_6 : decode b_Mo_states 6 = .ok (.getfield 198, 3) := by decide +kernel
theorem d_Mo_states_9 : decode b_Mo_states 9 = .ok (.ireturn, 1) := by decide +kernel
theorem d_Mo_mixed_0 : decode b_Mo_mixed 0 = .ok (.aload_n 0, 1) := by decide +kernel
theorem d_Mo_mixed_1 : decode b_Mo_mixed 1 = .ok (.iconst 0, 1) := by decide +kernel
theorem d_Mo_mixed_2 : decode b_Mo_mixed 2 = .ok (.putfield 112, 3) := by decide +kernel
theorem d_Mo_mixed_5 : decode b_Mo_mixed 5 = .ok (.aload_n 0, 1) := by decide +kernel
theorem d_Mo_mixed_6 : decode b_Mo_mixed 6 = .ok (.getfield 57, 3) := by decide +kernel
theorem d_Mo_mixed_9 : decode b_Mo_mixed 9 = .ok (.ireturn, 1) := by decide +kernel
theorem d_Mo_variable_0 : decode b_Mo_variable 0 = .ok (.aload_n 0, 1) := by decide +kernel
theorem d_Mo_variable_1 : decode b_Mo_variable 1 = .ok (.iconst 0, 1) := by decide +kernel
theorem d_Mo_variable_2 : decode b_Mo_variable 2 = .ok (.putfield 112, 3) := by decide +kernel
theorem d_Mo_variable_5 : decode b_Mo_variable 5 = .ok (.aload_n 0, 1) := by decide +kernel
theorem d_Mo_variable_6 : decode b_Mo_variable 6 = .ok (.iload_n 1, 1) := by decide +kernel
theorem d_Mo_variable_7 : decode b_Mo_variable 7 = .ok (.invokevirtual 287, 3) := by decide +kernel
theorem d_Mo_variable_10 : decode b_Mo_variable 10 = .ok (.ifCond .eq 41, 3) := by decide +kernel
theorem d_Mo_variable_13 : decode b_Mo_variable 13 = .ok (.iload_n 2, 1) := by decide +kernel
theorem d_Mo_variable_14 : decode b_Mo_variable 14 = .ok (.iconst 0, 1) := by decide +kernel
theorem d_Mo_variable_15 : decode b_Mo_variable 15 = .ok (.iconst 2, 1) := by decide +kernel
theorem d_Mo_variable_16 : decode b_Mo_variable 16 = .ok (.invokestatic 115, 3) := by decide +kernel
theorem d_Mo_variable_19 : decode b_Mo_variable 19 = .ok (.ifCond .eq 32, 3) := by decide +kernel
theorem d_Mo_variable_22 : decode b_Mo_variable 22 = .ok (.aload_n 0, 1) := by decide +kernel
theorem d_Mo_variable_23 : decode b_Mo_variable 23 = .ok (.getfield 20, 3) := by decide +kernel
theorem d_Mo_variable_26 : decode b_Mo_variable 26 = .ok (.iconst 3, 1) := by decide +kernel
theorem d_Mo_variable_27 : decode b_Mo_variable 27 = .ok (.aload_n 0, 1) := by decide +kernel
theorem d_Mo_variable_28 : decode b_Mo_variable 28 = .ok (.getfield 17, 3) := by decide +kernel
theorem d_Mo_variable_31 : decode b_Mo_variable 31 = .ok (.imul, 1) := by decide +kernel
theorem d_Mo_variable_32 : decode b_Mo_variable 32 = .ok (.iload_n 2, 1) := by decide +kernel
theorem d_Mo_variable_33 : decode b_Mo_variable 33 = .ok (.iadd, 1) := by decide +kernel
theorem d_Mo_variable_34 : decode b_Mo_variable 34 = .ok (.iaload, 1) := by decide +kernel
theorem d_Mo_variable_35 : decode b_Mo_variable 35 = .ok (.ifCond .le 16, 3) := by decide +kernel
theorem d_Mo_variable_38 : decode b_Mo_variable 38 = .ok (.aload_n 0, 1) := by decide +kernel
theorem d_Mo_variable_39 : decode b_Mo_variable 39 = .ok (.getfield 60, 3) := by decide +kernel
theorem d_Mo_variable_42 : decode b_Mo_variable 42 = .ok (.iconst 3, 1) := by decide +kernel
theorem d_Mo_variable_43 : decode b_Mo_variable 43 = .ok (.iload_n 1, 1) := by decide +kernel
theorem d_Mo_variable_44 : decode b_Mo_variable 44 = .ok (.imul, 1) := by decide +kernel
theorem d_Mo_variable_45 : decode b_Mo_variable 45 = .ok (.iload_n 2, 1) := by decide +kernel
theorem d_Mo_variable_46 : decode b_Mo_variable 46 = .ok (.iadd, 1) := by decide +kernel
theorem d_Mo_variable_47 : decode b_Mo_variable 47 = .ok (.iaload, 1) := by decide +kernel
theorem d_Mo_variable_48 : decode b_Mo_variable 48 = .ok (.goto 4, 3) := by decide +kernel
theorem d_Mo_variable_51 : decode b_Mo_variable 51 = .ok (.iconst (-1), 1) := by decide +kernel
theorem d_Mo_variable_52 : decode b_Mo_variable 52 = .ok (.ireturn, 1) := by decide +kernel
theorem d_Mo_target_0 : decode b_Mo_target 0 = .ok (.aload_n 0, 1) := by decide +kernel
theorem d_Mo_target_1 : decode b_Mo_target 1 = .ok (.iconst 0, 1) := by decide +kernel
theorem d_Mo_target_2 : decode b_Mo_target 2 = .ok (.putfield 112, 3) := by decide +kernel
theorem d_Mo_target_5 : decode b_Mo_target 5 = .ok (.aload_n 0, 1) := by decide +kernel
theorem d_Mo_target_6 : decode b_Mo_target 6 = .ok (.iload_n 1, 1) := by decide +kernel
theorem d_Mo_target_7 : decode b_Mo_target 7 = .ok (.invokevirtual 287, 3) := by decide +kernel
theorem d_Mo_target_10 : decode b_Mo_target 10 = .ok (.ifCond .eq 16, 3) := by decide +kernel
theorem d_Mo_target_13 : decode b_Mo_target 13 = .ok (.aload_n 0, 1) := by decide +kernel
theorem d_Mo_target_14 : decode b_Mo_target 14 = .ok (.getfield 63, 3) := by decide +kernel
theorem d_Mo_target_17 : decode b_Mo_target 17 = .ok (.iload_n 1, 1) := by decide +kernel
theorem d_Mo_target_18 : decode b_Mo_target 18 = .ok (.baload, 1) := by decide +kernel
theorem d_Mo_target_19 : decode b_Mo_target 19 = .ok (.ifCond .eq 7, 3) := by decide +kernel
theorem d_Mo_target_22 : decode b_Mo_target 22 = .ok (.iconst 1, 1) := by decide +kernel
theorem d_Mo_target_23 : decode b_Mo_target 23 = .ok (.goto 4, 3) := by decide +kernel
theorem d_Mo_target_26 : decode b_Mo_target 26 = .ok (.iconst 0, 1) := by decide +kernel
theorem d_Mo_target_27 : decode b_Mo_target 27 = .ok (.ireturn, 1) := by decide +kernel
theorem d_Mo_owner_0 : decode b_Mo_owner 0 = .ok (.aload_n 0, 1) := by decide +kernel
theorem d_Mo_owner_1 : decode b_Mo_owner 1 = .ok (.iconst 0, 1) := by decide +kernel
theorem d_Mo_owner_2 : decode b_Mo_owner 2 = .ok (.putfield 112, 3) := by decide +kernel
theorem d_Mo_owner_5 : decode b_Mo_owner 5 = .ok (.aload_n 0, 1) := by decide +kernel
theorem d_Mo_owner_6 : decode b_Mo_owner 6 = .ok (.iload_n 1, 1) := by decide +kernel
theorem d_Mo_owner_7 : decode b_Mo_owner 7 = .ok (.invokevirtual 287, 3) := by decide +kernel
theorem d_Mo_owner_10 : decode b_Mo_owner 10 = .ok (.ifCond .eq 12, 3) := by decide +kernel
theorem d_Mo_owner_13 : decode b_Mo_owner 13 = .ok (.aload_n 0, 1) := by decide +kernel
theorem d_Mo_owner_14 : decode b_Mo_owner 14 = .ok (.getfield 72, 3) := by decide +kernel
theorem d_Mo_owner_17 : decode b_Mo_owner 17 = .ok (.iload_n 1, 1) := by decide +kernel
theorem d_Mo_owner_18 : decode b_Mo_owner 18 = .ok (.iaload, 1) := by decide +kernel
theorem d_Mo_owner_19 : decode b_Mo_owner 19 = .ok (.ifCond .ne 7, 3) := by decide +kernel
theorem d_Mo_owner_22 : decode b_Mo_owner 22 = .ok (.iconst (-1), 1) := by decide +kernel
theorem d_Mo_owner_23 : decode b_Mo_owner 23 = .ok (.goto 17, 3) := by decide +kernel
theorem d_Mo_owner_26 : decode b_Mo_owner 26 = .ok (.aload_n 0, 1) := by decide +kernel
theorem d_Mo_owner_27 : decode b_Mo_owner 27 = .ok (.getfield 66, 3) := by decide +kernel
theorem d_Mo_owner_30 : decode b_Mo_owner 30 = .ok (.iload_n 1, 1) := by decide +kernel
theorem d_Mo_owner_31 : decode b_Mo_owner 31 = .ok (.baload, 1) := by decide +kernel
theorem d_Mo_owner_32 : decode b_Mo_owner 32 = .ok (.ifCond .eq 7, 3) := by decide +kernel
theorem d_Mo_owner_35 : decode b_Mo_owner 35 = .ok (.iconst 1, 1) := by decide +kernel
theorem d_Mo_owner_36 : decode b_Mo_owner 36 = .ok (.goto 4, 3) := by decide +kernel
theorem d_Mo_owner_39 : decode b_Mo_owner 39 = .ok (.iconst 0, 1) := by decide +kernel
theorem d_Mo_owner_40 : decode b_Mo_owner 40 = .ok (.ireturn, 1) := by decide +kernel
theorem d_Mo_choice_0 : decode b_Mo_choice 0 = .ok (.aload_n 0, 1) := by decide +kernel
theorem d_Mo_choice_1 : decode b_Mo_choice 1 = .ok (.iconst 0, 1) := by decide +kernel
theorem d_Mo_choice_2 : decode b_Mo_choice 2 = .ok (.putfield 112, 3) := by decide +kernel
theorem d_Mo_choice_5 : decode b_Mo_choice 5 = .ok (.aload_n 0, 1) := by decide +kernel
theorem d_Mo_choice_6 : decode b_Mo_choice 6 = .ok (.iload_n 1, 1) := by decide +kernel
theorem d_Mo_choice_7 : decode b_Mo_choice 7 = .ok (.invokevirtual 287, 3) := by decide +kernel
theorem d_Mo_choice_10 : decode b_Mo_choice 10 = .ok (.ifCond .eq 33, 3) := by decide +kernel
theorem d_Mo_choice_13 : decode b_Mo_choice 13 = .ok (.iload_n 2, 1) := by decide +kernel
theorem d_Mo_choice_14 : decode b_Mo_choice 14 = .ok (.iconst 0, 1) := by decide +kernel
theorem d_Mo_choice_15 : decode b_Mo_choice 15 = .ok (.aload_n 0, 1) := by decide +kernel
theorem d_Mo_choice_16 : decode b_Mo_choice 16 = .ok (.getfield 72, 3) := by decide +kernel
theorem d_Mo_choice_19 : decode b_Mo_choice 19 = .ok (.iload_n 1, 1) := by decide +kernel
theorem d_Mo_choice_20 : decode b_Mo_choice 20 = .ok (.iaload, 1) := by decide +kernel
theorem d_Mo_choice_21 : decode b_Mo_choice 21 = .ok (.iconst 1, 1) := by decide +kernel
theorem d_Mo_choice_22 : decode b_Mo_choice 22 = .ok (.isub, 1) := by decide +kernel
theorem d_Mo_choice_23 : decode b_Mo_choice 23 = .ok (.invokestatic 115, 3) := by decide +kernel
theorem d_Mo_choice_26 : decode b_Mo_choice 26 = .ok (.ifCond .eq 17, 3) := by decide +kernel
theorem d_Mo_choice_29 : decode b_Mo_choice 29 = .ok (.aload_n 0, 1) := by decide +kernel
theorem d_Mo_choice_30 : decode b_Mo_choice 30 = .ok (.getfield 69, 3) := by decide +kernel
theorem d_Mo_choice_33 : decode b_Mo_choice 33 = .ok (.bipush 10, 2) := by decide +kernel
theorem d_Mo_choice_35 : decode b_Mo_choice 35 = .ok (.iload_n 1, 1) := by decide +kernel
theorem d_Mo_choice_36 : decode b_Mo_choice 36 = .ok (.imul, 1) := by decide +kernel
theorem d_Mo_choice_37 : decode b_Mo_choice 37 = .ok (.iload_n 2, 1) := by decide +kernel
theorem d_Mo_choice_38 : decode b_Mo_choice 38 = .ok (.iadd, 1) := by decide +kernel
theorem d_Mo_choice_39 : decode b_Mo_choice 39 = .ok (.iaload, 1) := by decide +kernel
theorem d_Mo_choice_40 : decode b_Mo_choice 40 = .ok (.goto 4, 3) := by decide +kernel
theorem d_Mo_choice_43 : decode b_Mo_choice 43 = .ok (.iconst (-1), 1) := by decide +kernel
theorem d_Mo_choice_44 : decode b_Mo_choice 44 = .ok (.ireturn, 1) := by decide +kernel
theorem d_Mo_branch_0 : decode b_Mo_branch 0 = .ok (.aload_n 0, 1) := by decide +kernel
theorem d_Mo_branch_1 : decode b_Mo_branch 1 = .ok (.iconst 0, 1) := by decide +kernel
theorem d_Mo_branch_2 : decode b_Mo_branch 2 = .ok (.putfield 112, 3) := by decide +kernel
theorem d_Mo_branch_5 : decode b_Mo_branch 5 = .ok (.aload_n 0, 1) := by decide +kernel
theorem d_Mo_branch_6 : decode b_Mo_branch 6 = .ok (.iload_n 1, 1) := by decide +kernel
theorem d_Mo_branch_7 : decode b_Mo_branch 7 = .ok (.invokevirtual 287, 3) := by decide +kernel
theorem d_Mo_branch_10 : decode b_Mo_branch 10 = .ok (.ifCond .ne 5, 3) := by decide +kernel
theorem d_Mo_branch_13 : decode b_Mo_branch 13 = .ok (.iconst (-1), 1) := by decide +kernel
theorem d_Mo_branch_14 : decode b_Mo_branch 14 = .ok (.ireturn, 1) := by decide +kernel
theorem d_Mo_branch_15 : decode b_Mo_branch 15 = .ok (.iconst (-1), 1) := by decide +kernel
theorem d_Mo_branch_16 : decode b_Mo_branch 16 = .ok (.istore 4, 2) := by decide +kernel
theorem d_Mo_branch_18 : decode b_Mo_branch 18 = .ok (.iconst 0, 1) := by decide +kernel
theorem d_Mo_branch_19 : decode b_Mo_branch 19 = .ok (.istore 5, 2) := by decide +kernel
theorem d_Mo_branch_21 : decode b_Mo_branch 21 = .ok (.iload 5, 2) := by decide +kernel
theorem d_Mo_branch_23 : decode b_Mo_branch 23 = .ok (.aload_n 0, 1) := by decide +kernel
theorem d_Mo_branch_24 : decode b_Mo_branch 24 = .ok (.getfield 72, 3) := by decide +kernel
theorem d_Mo_branch_27 : decode b_Mo_branch 27 = .ok (.iload_n 1, 1) := by decide +kernel
theorem d_Mo_branch_28 : decode b_Mo_branch 28 = .ok (.iaload, 1) := by decide +kernel
theorem d_Mo_branch_29 : decode b_Mo_branch 29 = .ok (.if_icmp .ge 102, 3) := by decide +kernel
theorem d_Mo_branch_32 : decode b_Mo_branch 32 = .ok (.aload_n 0, 1) := by decide +kernel
theorem d_Mo_branch_33 : decode b_Mo_branch 33 = .ok (.getfield 69, 3) := by decide +kernel
theorem d_Mo_branch_36 : decode b_Mo_branch 36 = .ok (.bipush 10, 2) := by decide +kernel
theorem d_Mo_branch_38 : decode b_Mo_branch 38 = .ok (.iload_n 1, 1) := by decide +kernel
theorem d_Mo_branch_39 : decode b_Mo_branch 39 = .ok (.imul, 1) := by decide +kernel
theorem d_Mo_branch_40 : decode b_Mo_branch 40 = .ok (.iload 5, 2) := by decide +kernel
theorem d_Mo_branch_42 : decode b_Mo_branch 42 = .ok (.iadd, 1) := by decide +kernel
theorem d_Mo_branch_43 : decode b_Mo_branch 43 = .ok (.iaload, 1) := by decide +kernel
theorem d_Mo_branch_44 : decode b_Mo_branch 44 = .ok (.iload_n 2, 1) := by decide +kernel
theorem d_Mo_branch_45 : decode b_Mo_branch 45 = .ok (.if_icmp .ne 80, 3) := by decide +kernel
theorem d_Mo_branch_48 : decode b_Mo_branch 48 = .ok (.iload_n 3, 1) := by decide +kernel
theorem d_Mo_branch_49 : decode b_Mo_branch 49 = .ok (.iconst 0, 1) := by decide +kernel
theorem d_Mo_branch_50 : decode b_Mo_branch 50 = .ok (.aload_n 0, 1) := by decide +kernel
theorem d_Mo_branch_51 : decode b_Mo_branch 51 = .ok (.getfield 33, 3) := by decide +kernel
theorem d_Mo_branch_54 : decode b_Mo_branch 54 = .ok (.bipush 10, 2) := by decide +kernel
theorem d_Mo_branch_56 : decode b_Mo_branch 56 = .ok (.aload_n 0, 1) := by decide +kernel
theorem d_Mo_branch_57 : decode b_Mo_branch 57 = .ok (.getfield 17, 3) := by decide +kernel
theorem d_Mo_branch_60 : decode b_Mo_branch 60 = .ok (.imul, 1) := by decide +kernel
theorem d_Mo_branch_61 : decode b_Mo_branch 61 = .ok (.iload_n 2, 1) := by decide +kernel
theorem d_Mo_branch_62 : decode b_Mo_branch 62 = .ok (.iadd, 1) := by decide +kernel
theorem d_Mo_branch_63 : decode b_Mo_branch 63 = .ok (.iaload, 1) := by decide +kernel
theorem d_Mo_branch_64 : decode b_Mo_branch 64 = .ok (.iconst 1, 1) := by decide +kernel
theorem d_Mo_branch_65 : decode b_Mo_branch 65 = .ok (.isub, 1) := by decide +kernel
theorem d_Mo_branch_66 : decode b_Mo_branch 66 = .ok (.invokestatic 115, 3) := by decide +kernel
theorem d_Mo_branch_69 : decode b_Mo_branch 69 = .ok (.ifCond .eq 56, 3) := by decide +kernel
theorem d_Mo_branch_72 : decode b_Mo_branch 72 = .ok (.aload_n 0, 1) := by decide +kernel
theorem d_Mo_branch_73 : decode b_Mo_branch 73 = .ok (.getfield 75, 3) := by decide +kernel
theorem d_Mo_branch_76 : decode b_Mo_branch 76 = .ok (.bipush 40, 2) := by decide +kernel
theorem d_Mo_branch_78 : decode b_Mo_branch 78 = .ok (.iload_n 1, 1) := by decide +kernel
theorem d_Mo_branch_79 : decode b_Mo_branch 79 = .ok (.imul, 1) := by decide +kernel
theorem d_Mo_branch_80 : decode b_Mo_branch 80 = .ok (.iconst 4, 1) := by decide +kernel
theorem d_Mo_branch_81 : decode b_Mo_branch 81 = .ok (.iload 5, 2) := by decide +kernel
theorem d_Mo_branch_83 : decode b_Mo_branch 83 = .ok (.imul, 1) := by decide +kernel
theorem d_Mo_branch_84 : decode b_Mo_branch 84 = .ok (.iadd, 1) := by decide +kernel
theorem d_Mo_branch_85 : decode b_Mo_branch 85 = .ok (.iload_n 3, 1) := by decide +kernel
theorem d_Mo_branch_86 : decode b_Mo_branch 86 = .ok (.iadd, 1) := by decide +kernel
theorem d_Mo_branch_87 : decode b_Mo_branch 87 = .ok (.iaload, 1) := by decide +kernel
theorem d_Mo_branch_88 : decode b_Mo_branch 88 = .ok (.istore 6, 2) := by decide +kernel
theorem d_Mo_branch_90 : decode b_Mo_branch 90 = .ok (.iload 6, 2) := by decide +kernel
theorem d_Mo_branch_92 : decode b_Mo_branch 92 = .ok (.ifCond .ge 7, 3) := by decide +kernel
theorem d_Mo_branch_95 : decode b_Mo_branch 95 = .ok (.iconst (-1), 1) := by decide +kernel
theorem d_Mo_branch_96 : decode b_Mo_branch 96 = .ok (.goto 27, 3) := by decide +kernel
theorem d_Mo_branch_99 : decode b_Mo_branch 99 = .ok (.bipush 10, 2) := by decide +kernel
theorem d_Mo_branch_101 : decode b_Mo_branch 101 = .ok (.iload 6, 2) := by decide +kernel
theorem d_Mo_branch_103 : decode b_Mo_branch 103 = .ok (.imul, 1) := by decide +kernel
theorem d_Mo_branch_104 : decode b_Mo_branch 104 = .ok (.aload_n 0, 1) := by decide +kernel
theorem d_Mo_branch_105 : decode b_Mo_branch 105 = .ok (.getfield 39, 3) := by decide +kernel
theorem d_Mo_branch_108 : decode b_Mo_branch 108 = .ok (.iconst 4, 1) := by decide +kernel
theorem d_Mo_branch_109 : decode b_Mo_branch 109 = .ok (.bipush 10, 2) := by decide +kernel
theorem d_Mo_branch_111 : decode b_Mo_branch 111 = .ok (.aload_n 0, 1) := by decide +kernel
theorem d_Mo_branch_112 : decode b_Mo_branch 112 = .ok (.getfield 17, 3) := by decide +kernel
theorem d_Mo_branch_115 : decode b_Mo_branch 115 = .ok (.imul, 1) := by decide +kernel
theorem d_Mo_branch_116 : decode b_Mo_branch 116 = .ok (.iload_n 2, 1) := by decide +kernel
theorem d_Mo_branch_117 : decode b_Mo_branch 117 = .ok (.iadd, 1) := by decide +kernel
theorem d_Mo_branch_118 : decode b_Mo_branch 118 = .ok (.imul, 1) := by decide +kernel
theorem d_Mo_branch_119 : decode b_Mo_branch 119 = .ok (.iload_n 3, 1) := by decide +kernel
theorem d_Mo_branch_120 : decode b_Mo_branch 120 = .ok (.iadd, 1) := by decide +kernel
theorem d_Mo_branch_121 : decode b_Mo_branch 121 = .ok (.iaload, 1) := by decide +kernel
theorem d_Mo_branch_122 : decode b_Mo_branch 122 = .ok (.iadd, 1) := by decide +kernel
theorem d_Mo_branch_123 : decode b_Mo_branch 123 = .ok (.istore 4, 2) := by decide +kernel
theorem d_Mo_branch_125 : decode b_Mo_branch 125 = .ok (.iinc 5 1, 3) := by decide +kernel
theorem d_Mo_branch_128 : decode b_Mo_branch 128 = .ok (.goto (-107), 3) := by decide +kernel
theorem d_Mo_branch_131 : decode b_Mo_branch 131 = .ok (.iload 4, 2) := by decide +kernel
theorem d_Mo_branch_133 : decode b_Mo_branch 133 = .ok (.ireturn, 1) := by decide +kernel
theorem d_Mo_needsValue_0 : decode b_Mo_needsValue 0 = .ok (.aload_n 0, 1) := by decide +kernel
theorem d_Mo_needsValue_1 : decode b_Mo_needsValue 1 = .ok (.aload_n 0, 1) := by decide +kernel
theorem d_Mo_needsValue_2 : decode b_Mo_needsValue 2 = .ok (.getfield 201, 3) := by decide +kernel
theorem d_Mo_needsValue_5 : decode b_Mo_needsValue 5 = .ok (.ifCond .ne 7, 3) := by decide +kernel
theorem d_Mo_needsValue_8 : decode b_Mo_needsValue 8 = .ok (.iconst 1, 1) := by decide +kernel
theorem d_Mo_needsValue_9 : decode b_Mo_needsValue 9 = .ok (.goto 16, 3) := by decide +kernel
theorem d_Mo_needsValue_12 : decode b_Mo_needsValue 12 = .ok (.aload_n 0, 1) := by decide +kernel
theorem d_Mo_needsValue_13 : decode b_Mo_needsValue 13 = .ok (.iload_n 1, 1) := by decide +kernel
theorem d_Mo_needsValue_14 : decode b_Mo_needsValue 14 = .ok (.invokevirtual 287, 3) := by decide +kernel
theorem d_Mo_needsValue_17 : decode b_Mo_needsValue 17 = .ok (.ifCond .ne 7, 3) := by decide +kernel
theorem d_Mo_needsValue_20 : decode b_Mo_needsValue 20 = .ok (.iconst 2, 1) := by decide +kernel
theorem d_Mo_needsValue_21 : decode b_Mo_needsValue 21 = .ok (.goto 4, 3) := by decide +kernel
theorem d_Mo_needsValue_24 : decode b_Mo_needsValue 24 = .ok (.iconst 0, 1) := by decide +kernel
theorem d_Mo_needsValue_25 : decode b_Mo_needsValue 25 = .ok (.putfield 112, 3) := by decide +kernel
theorem d_Mo_needsValue_28 : decode b_Mo_needsValue 28 = .ok (.aload_n 0, 1) := by decide +kernel
theorem d_Mo_needsValue_29 : decode b_Mo_needsValue 29 = .ok (.getfield 112, 3) := by decide +kernel
theorem d_Mo_needsValue_32 : decode b_Mo_needsValue 32 = .ok (.ifCond .ne 7, 3) := by decide +kernel
theorem d_Mo_needsValue_35 : decode b_Mo_needsValue 35 = .ok (.iconst 1, 1) := by decide +kernel
theorem d_Mo_needsValue_36 : decode b_Mo_needsValue 36 = .ok (.goto 4, 3) := by decide +kernel
theorem d_Mo_needsValue_39 : decode b_Mo_needsValue 39 = .ok (.iconst 0, 1) := by decide +kernel
theorem d_Mo_needsValue_40 : decode b_Mo_needsValue 40 = .ok (.ireturn, 1) := by decide +kernel
theorem d_Mo_upper_0 : decode b_Mo_upper 0 = .ok (.aload_n 0, 1) := by decide +kernel
theorem d_Mo_upper_1 : decode b_Mo_upper 1 = .ok (.iload_n 1, 1) := by decide +kernel
theorem d_Mo_upper_2 : decode b_Mo_upper 2 = .ok (.invokevirtual 290, 3) := by decide +kernel
theorem d_Mo_upper_5 : decode b_Mo_upper 5 = .ok (.ifCond .eq 12, 3) := by decide +kernel
theorem d_Mo_upper_8 : decode b_Mo_upper 8 = .ok (.aload_n 0, 1) := by decide +kernel
theorem d_Mo_upper_9 : decode b_Mo_upper 9 = .ok (.getfield 103, 3) := by decide +kernel
theorem d_Mo_upper_12 : decode b_Mo_upper 12 = .ok (.iload_n 1, 1) := by decide +kernel
theorem d_Mo_upper_13 : decode b_Mo_upper 13 = .ok (.laload, 1) := by decide +kernel
theorem d_Mo_upper_14 : decode b_Mo_upper 14 = .ok (.goto 4, 3) := by decide +kernel
theorem d_Mo_upper_17 : decode b_Mo_upper 17 = .ok (.lconst 0, 1) := by decide +kernel
theorem d_Mo_upper_18 : decode b_Mo_upper 18 = .ok (.lreturn, 1) := by decide +kernel
theorem d_Mo_lower_0 : decode b_Mo_lower 0 = .ok (.aload_n 0, 1) := by decide +kernel
theorem d_Mo_lower_1 : decode b_Mo_lower 1 = .ok (.iload_n 1, 1) := by decide +kernel
theorem d_Mo_lower_2 : decode b_Mo_lower 2 = .ok (.invokevirtual 290, 3) := by decide +kernel
theorem d_Mo_lower_5 : decode b_Mo_lower 5 = .ok (.ifCond .eq 12, 3) := by decide +kernel
theorem d_Mo_lower_8 : decode b_Mo_lower 8 = .ok (.aload_n 0, 1) := by decide +kernel
theorem d_Mo_lower_9 : decode b_Mo_lower 9 = .ok (.getfield 106, 3) := by decide +kernel
theorem d_Mo_lower_12 : decode b_Mo_lower 12 = .ok (.iload_n 1, 1) := by decide +kernel
theorem d_Mo_lower_13 : decode b_Mo_lower 13 = .ok (.laload, 1) := by decide +kernel
theorem d_Mo_lower_14 : decode b_Mo_lower 14 = .ok (.goto 4, 3) := by decide +kernel
theorem d_Mo_lower_17 : decode b_Mo_lower 17 = .ok (.lconst 0, 1) := by decide +kernel
theorem d_Mo_lower_18 : decode b_Mo_lower 18 = .ok (.lreturn, 1) := by decide +kernel
theorem d_Mo_good_0 : decode b_Mo_good 0 = .ok (.aload_n 0, 1) := by decide +kernel
theorem d_Mo_good_1 : decode b_Mo_good 1 = .ok (.iload_n 1, 1) := by decide +kernel
theorem d_Mo_good_2 : decode b_Mo_good 2 = .ok (.invokevirtual 290, 3) := by decide +kernel
theorem d_Mo_good_5 : decode b_Mo_good 5 = .ok (.ifCond .eq 12, 3) := by decide +kernel
theorem d_Mo_good_8 : decode b_Mo_good 8 = .ok (.aload_n 0, 1) := by decide +kernel
theorem d_Mo_good_9 : decode b_Mo_good 9 = .ok (.getfield 109, 3) := by decide +kernel
theorem d_Mo_good_12 : decode b_Mo_good 12 = .ok (.iload_n 1, 1) := by decide +kernel
theorem d_Mo_good_13 : decode b_Mo_good 13 = .ok (.iaload, 1) := by decide +kernel
theorem d_Mo_good_14 : decode b_Mo_good 14 = .ok (.goto 4, 3) := by decide +kernel
theorem d_Mo_good_17 : decode b_Mo_good 17 = .ok (.iconst 0, 1) := by decide +kernel
theorem d_Mo_good_18 : decode b_Mo_good 18 = .ok (.ireturn, 1) := by decide +kernel
