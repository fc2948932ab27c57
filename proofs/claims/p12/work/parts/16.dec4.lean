theorem d_Mo_readItem_67 : decode b_Mo_readItem 67 = .ok (.getfield 51, 3) := by decide +kernel
theorem d_Mo_readItem_70 : decode b_Mo_readItem 70 = .ok (.iload_n 3, 1) := by decide +kernel
theorem d_Mo_readItem_71 : decode b_Mo_readItem 71 = .ok (.bipush 100, 2) := by decide +kernel
theorem d_Mo_readItem_73 : decode b_Mo_readItem 73 = .ok (.aload_n 0, 1) := by decide +kernel
theorem d_Mo_readItem_74 : decode b_Mo_readItem 74 = .ok (.invokevirtual 131, 3) := by decide +kernel
theorem d_Mo_readItem_77 : decode b_Mo_readItem 77 = .ok (.iadd, 1) := by decide +kernel
theorem d_Mo_readItem_78 : decode b_Mo_readItem 78 = .ok (.bipush 97, 2) := by decide +kernel
theorem d_Mo_readItem_80 : decode b_Mo_readItem 80 = .ok (.isub, 1) := by decide +kernel
theorem d_Mo_readItem_81 : decode b_Mo_readItem 81 = .ok (.iastore, 1) := by decide +kernel
theorem d_Mo_readItem_82 : decode b_Mo_readItem 82 = .ok (.aload_n 0, 1) := by decide +kernel
theorem d_Mo_readItem_83 : decode b_Mo_readItem 83 = .ok (.dup, 1) := by decide +kernel
theorem d_Mo_readItem_84 : decode b_Mo_readItem 84 = .ok (.getfield 128, 3) := by decide +kernel
theorem d_Mo_readItem_87 : decode b_Mo_readItem 87 = .ok (.iconst 1, 1) := by decide +kernel
theorem d_Mo_readItem_88 : decode b_Mo_readItem 88 = .ok (.iadd, 1) := by decide +kernel
theorem d_Mo_readItem_89 : decode b_Mo_readItem 89 = .ok (.putfield 128, 3) := by decide +kernel
theorem d_Mo_readItem_92 : decode b_Mo_readItem 92 = .ok (.aload_n 0, 1) := by decide +kernel
theorem d_Mo_readItem_93 : decode b_Mo_readItem 93 = .ok (.getfield 48, 3) := by decide +kernel
theorem d_Mo_readItem_96 : decode b_Mo_readItem 96 = .ok (.iload_n 1, 1) := by decide +kernel
theorem d_Mo_readItem_97 : decode b_Mo_readItem 97 = .ok (.dup2, 1) := by decide +kernel
theorem d_Mo_readItem_98 : decode b_Mo_readItem 98 = .ok (.iaload, 1) := by decide +kernel
theorem d_Mo_readItem_99 : decode b_Mo_readItem 99 = .ok (.iconst 1, 1) := by decide +kernel
theorem d_Mo_readItem_100 : decode b_Mo_readItem 100 = .ok (.iadd, 1) := by decide +kernel
theorem d_Mo_readItem_101 : decode b_Mo_readItem 101 = .ok (.iastore, 1) := by decide +kernel
theorem d_Mo_readItem_102 : decode b_Mo_readItem 102 = .ok (.iconst 1, 1) := by decide +kernel
theorem d_Mo_readItem_103 : decode b_Mo_readItem 103 = .ok (.ireturn, 1) := by decide +kernel
theorem d_Mo_readSum_0 : decode b_Mo_readSum 0 = .ok (.aload_n 0, 1) := by decide +kernel
theorem d_Mo_readSum_1 : decode b_Mo_readSum 1 = .ok (.getfield 48, 3) := by decide +kernel
theorem d_Mo_readSum_4 : decode b_Mo_readSum 4 = .ok (.iload_n 1, 1) := by decide +kernel
theorem d_Mo_readSum_5 : decode b_Mo_readSum 5 = .ok (.iconst 0, 1) := by decide +kernel
theorem d_Mo_readSum_6 : decode b_Mo_readSum 6 = .ok (.iastore, 1) := by decide +kernel
theorem d_Mo_readSum_7 : decode b_Mo_readSum 7 = .ok (.aload_n 0, 1) := by decide +kernel
theorem d_Mo_readSum_8 : decode b_Mo_readSum 8 = .ok (.iload_n 1, 1) := by decide +kernel
theorem d_Mo_readSum_9 : decode b_Mo_readSum 9 = .ok (.iconst 0, 1) := by decide +kernel
theorem d_Mo_readSum_10 : decode b_Mo_readSum 10 = .ok (.invokevirtual 162, 3) := by decide +kernel
theorem d_Mo_readSum_13 : decode b_Mo_readSum 13 = .ok (.ifCond .ne 5, 3) := by decide +kernel
theorem d_Mo_readSum_16 : decode b_Mo_readSum 16 = .ok (.iconst 0, 1) := by decide +kernel
theorem d_Mo_readSum_17 : decode b_Mo_readSum 17 = .ok (.ireturn, 1) := by decide +kernel
theorem d_Mo_readSum_18 : decode b_Mo_readSum 18 = .ok (.aload_n 0, 1) := by decide +kernel
theorem d_Mo_readSum_19 : decode b_Mo_readSum 19 = .ok (.invokevirtual 131, 3) := by decide +kernel
theorem d_Mo_readSum_22 : decode b_Mo_readSum 22 = .ok (.bipush 43, 2) := by decide +kernel
theorem d_Mo_readSum_24 : decode b_Mo_readSum 24 = .ok (.if_icmp .eq 12, 3) := by decide +kernel
theorem d_Mo_readSum_27 : decode b_Mo_readSum 27 = .ok (.aload_n 0, 1) := by decide +kernel
theorem d_Mo_readSum_28 : decode b_Mo_readSum 28 = .ok (.invokevirtual 131, 3) := by decide +kernel
theorem d_Mo_readSum_31 : decode b_Mo_readSum 31 = .ok (.bipush 45, 2) := by decide +kernel
theorem d_Mo_readSum_33 : decode b_Mo_readSum 33 = .ok (.if_icmp .ne 61, 3) := by decide +kernel
theorem d_Mo_readSum_36 : decode b_Mo_readSum 36 = .ok (.aload_n 0, 1) := by decide +kernel
theorem d_Mo_readSum_37 : decode b_Mo_readSum 37 = .ok (.invokevirtual 131, 3) := by decide +kernel
theorem d_Mo_readSum_40 : decode b_Mo_readSum 40 = .ok (.bipush 45, 2) := by decide +kernel
theorem d_Mo_readSum_42 : decode b_Mo_readSum 42 = .ok (.if_icmp .ne 7, 3) := by decide +kernel
theorem d_Mo_readSum_45 : decode b_Mo_readSum 45 = .ok (.iconst 1, 1) := by decide +kernel
theorem d_Mo_readSum_46 : decode b_Mo_readSum 46 = .ok (.goto 4, 3) := by decide +kernel
theorem d_Mo_readSum_49 : decode b_Mo_readSum 49 = .ok (.iconst 0, 1) := by decide +kernel
theorem d_Mo_readSum_50 : decode b_Mo_readSum 50 = .ok (.istore_n 2, 1) := by decide +kernel
theorem d_Mo_readSum_51 : decode b_Mo_readSum 51 = .ok (.aload_n 0, 1) := by decide +kernel
theorem d_Mo_readSum_52 : decode b_Mo_readSum 52 = .ok (.getfield 48, 3) := by decide +kernel
theorem d_Mo_readSum_55 : decode b_Mo_readSum 55 = .ok (.iload_n 1, 1) := by decide +kernel
theorem d_Mo_readSum_56 : decode b_Mo_readSum 56 = .ok (.iaload, 1) := by decide +kernel
theorem d_Mo_readSum_57 : decode b_Mo_readSum 57 = .ok (.iconst 4, 1) := by decide +kernel
theorem d_Mo_readSum_58 : decode b_Mo_readSum 58 = .ok (.if_icmp .ne 12, 3) := by decide +kernel
theorem d_Mo_readSum_61 : decode b_Mo_readSum 61 = .ok (.aload_n 0, 1) := by decide +kernel
theorem d_Mo_readSum_62 : decode b_Mo_readSum 62 = .ok (.aload_n 0, 1) := by decide +kernel
theorem d_Mo_readSum_63 : decode b_Mo_readSum 63 = .ok (.getfield 128, 3) := by decide +kernel
theorem d_Mo_readSum_66 : decode b_Mo_readSum 66 = .ok (.invokevirtual 135, 3) := by decide +kernel
theorem d_Mo_readSum_69 : decode b_Mo_readSum 69 = .ok (.ireturn, 1) := by decide +kernel
theorem d_Mo_readSum_70 : decode b_Mo_readSum 70 = .ok (.aload_n 0, 1) := by decide +kernel
theorem d_Mo_readSum_71 : decode b_Mo_readSum 71 = .ok (.dup, 1) := by decide +kernel
theorem d_Mo_readSum_72 : decode b_Mo_readSum 72 = .ok (.getfield 128, 3) := by decide +kernel
theorem d_Mo_readSum_75 : decode b_Mo_readSum 75 = .ok (.iconst 1, 1) := by decide +kernel
theorem d_Mo_readSum_76 : decode b_Mo_readSum 76 = .ok (.iadd, 1) := by decide +kernel
theorem d_Mo_readSum_77 : decode b_Mo_readSum 77 = .ok (.putfield 128, 3) := by decide +kernel
theorem d_Mo_readSum_80 : decode b_Mo_readSum 80 = .ok (.aload_n 0, 1) := by decide +kernel
theorem d_Mo_readSum_81 : decode b_Mo_readSum 81 = .ok (.iload_n 1, 1) := by decide +kernel
theorem d_Mo_readSum_82 : decode b_Mo_readSum 82 = .ok (.iload_n 2, 1) := by decide +kernel
theorem d_Mo_readSum_83 : decode b_Mo_readSum 83 = .ok (.invokevirtual 162, 3) := by decide +kernel
theorem d_Mo_readSum_86 : decode b_Mo_readSum 86 = .ok (.ifCond .ne 5, 3) := by decide +kernel
theorem d_Mo_readSum_89 : decode b_Mo_readSum 89 = .ok (.iconst 0, 1) := by decide +kernel
theorem d_Mo_readSum_90 : decode b_Mo_readSum 90 = .ok (.ireturn, 1) := by decide +kernel
theorem d_Mo_readSum_91 : decode b_Mo_readSum 91 = .ok (.goto (-73), 3) := by decide +kernel
theorem d_Mo_readSum_94 : decode b_Mo_readSum 94 = .ok (.iconst 1, 1) := by decide +kernel
theorem d_Mo_readSum_95 : decode b_Mo_readSum 95 = .ok (.ireturn, 1) := by decide +kernel
theorem d_Mo_readTest_0 : decode b_Mo_readTest 0 = .ok (.sipush 208, 3) := by decide +kernel
theorem d_Mo_readTest_3 : decode b_Mo_readTest 3 = .ok (.aload_n 0, 1) := by decide +kernel
theorem d_Mo_readTest_4 : decode b_Mo_readTest 4 = .ok (.getfield 149, 3) := by decide +kernel
theorem d_Mo_readTest_7 : decode b_Mo_readTest 7 = .ok (.imul, 1) := by decide +kernel
theorem d_Mo_readTest_8 : decode b_Mo_readTest 8 = .ok (.bipush 8, 2) := by decide +kernel
theorem d_Mo_readTest_10 : decode b_Mo_readTest 10 = .ok (.iload_n 1, 1) := by decide +kernel
theorem d_Mo_readTest_11 : decode b_Mo_readTest 11 = .ok (.imul, 1) := by decide +kernel
theorem d_Mo_readTest_12 : decode b_Mo_readTest 12 = .ok (.iadd, 1) := by decide +kernel
theorem d_Mo_readTest_13 : decode b_Mo_readTest 13 = .ok (.iconst 2, 1) := by decide +kernel
theorem d_Mo_readTest_14 : decode b_Mo_readTest 14 = .ok (.iload_n 2, 1) := by decide +kernel
theorem d_Mo_readTest_15 : decode b_Mo_readTest 15 = .ok (.imul, 1) := by decide +kernel
theorem d_Mo_readTest_16 : decode b_Mo_readTest 16 = .ok (.iadd, 1) := by decide +kernel
theorem d_Mo_readTest_17 : decode b_Mo_readTest 17 = .ok (.istore_n 3, 1) := by decide +kernel
theorem d_Mo_readTest_18 : decode b_Mo_readTest 18 = .ok (.aload_n 0, 1) := by decide +kernel
theorem d_Mo_readTest_19 : decode b_Mo_readTest 19 = .ok (.iload_n 3, 1) := by decide +kernel
theorem d_Mo_readTest_20 : decode b_Mo_readTest 20 = .ok (.invokevirtual 166, 3) := by decide +kernel
theorem d_Mo_readTest_23 : decode b_Mo_readTest 23 = .ok (.ifCond .ne 5, 3) := by decide +kernel
theorem d_Mo_readTest_26 : decode b_Mo_readTest 26 = .ok (.iconst 0, 1) := by decide +kernel
theorem d_Mo_readTest_27 : decode b_Mo_readTest 27 = .ok (.ireturn, 1) := by decide +kernel
theorem d_Mo_readTest_28 : decode b_Mo_readTest 28 = .ok (.aload_n 0, 1) := by decide +kernel
theorem d_Mo_readTest_29 : decode b_Mo_readTest 29 = .ok (.invokevirtual 131, 3) := by decide +kernel
theorem d_Mo_readTest_32 : decode b_Mo_readTest 32 = .ok (.istore 4, 2) := by decide +kernel
theorem d_Mo_readTest_34 : decode b_Mo_readTest 34 = .ok (.iload 4, 2) := by decide +kernel
theorem d_Mo_readTest_36 : decode b_Mo_readTest 36 = .ok (.bipush 60, 2) := by decide +kernel
theorem d_Mo_readTest_38 : decode b_Mo_readTest 38 = .ok (.if_icmp .eq 33, 3) := by decide +kernel
theorem d_Mo_readTest_41 : decode b_Mo_readTest 41 = .ok (.iload 4, 2) := by decide +kernel
theorem d_Mo_readTest_43 : decode b_Mo_readTest 43 = .ok (.bipush 62, 2) := by decide +kernel
theorem d_Mo_readTest_45 : decode b_Mo_readTest 45 = .ok (.if_icmp .eq 26, 3) := by decide +kernel
theorem d_Mo_readTest_48 : decode b_Mo_readTest 48 = .ok (.iload 4, 2) := by decide +kernel
theorem d_Mo_readTest_50 : decode b_Mo_readTest 50 = .ok (.bipush 61, 2) := by decide +kernel
theorem d_Mo_readTest_52 : decode b_Mo_readTest 52 = .ok (.if_icmp .eq 19, 3) := by decide +kernel
theorem d_Mo_readTest_55 : decode b_Mo_readTest 55 = .ok (.iload 4, 2) := by decide +kernel
theorem d_Mo_readTest_57 : decode b_Mo_readTest 57 = .ok (.bipush 35, 2) := by decide +kernel
theorem d_Mo_readTest_59 : decode b_Mo_readTest 59 = .ok (.if_icmp .eq 12, 3) := by decide +kernel
theorem d_Mo_readTest_62 : decode b_Mo_readTest 62 = .ok (.aload_n 0, 1) := by decide +kernel
theorem d_Mo_readTest_63 : decode b_Mo_readTest 63 = .ok (.aload_n 0, 1) := by decide +kernel
theorem d_Mo_readTest_64 : decode b_Mo_readTest 64 = .ok (.getfield 128, 3) := by decide +kernel
theorem d_Mo_readTest_67 : decode b_Mo_readTest 67 = .ok (.invokevirtual 135, 3) := by decide +kernel
theorem d_Mo_readTest_70 : decode b_Mo_readTest 70 = .ok (.ireturn, 1) := by decide +kernel
theorem d_Mo_readTest_71 : decode b_Mo_readTest 71 = .ok (.aload_n 0, 1) := by decide +kernel
theorem d_Mo_readTest_72 : decode b_Mo_readTest 72 = .ok (.getfield 45, 3) := by decide +kernel
theorem d_Mo_readTest_75 : decode b_Mo_readTest 75 = .ok (.bipush 44, 2) := by decide +kernel
theorem d_Mo_readTest_77 : decode b_Mo_readTest 77 = .ok (.aload_n 0, 1) := by decide +kernel
theorem d_Mo_readTest_78 : decode b_Mo_readTest 78 = .ok (.getfield 149, 3) := by decide +kernel
theorem d_Mo_readTest_81 : decode b_Mo_readTest 81 = .ok (.imul, 1) := by decide +kernel
theorem d_Mo_readTest_82 : decode b_Mo_readTest 82 = .ok (.iconst 4, 1) := by decide +kernel
theorem d_Mo_readTest_83 : decode b_Mo_readTest 83 = .ok (.iload_n 1, 1) := by decide +kernel
theorem d_Mo_readTest_84 : decode b_Mo_readTest 84 = .ok (.imul, 1) := by decide +kernel
theorem d_Mo_readTest_85 : decode b_Mo_readTest 85 = .ok (.iadd, 1) := by decide +kernel
theorem d_Mo_readTest_86 : decode b_Mo_readTest 86 = .ok (.iload_n 2, 1) := by decide +kernel
theorem d_Mo_readTest_87 : decode b_Mo_readTest 87 = .ok (.iadd, 1) := by decide +kernel
theorem d_Mo_readTest_88 : decode b_Mo_readTest 88 = .ok (.iload 4, 2) := by decide +kernel
theorem d_Mo_readTest_90 : decode b_Mo_readTest 90 = .ok (.iastore, 1) := by decide +kernel
theorem d_Mo_readTest_91 : decode b_Mo_readTest 91 = .ok (.aload_n 0, 1) := by decide +kernel
theorem d_Mo_readTest_92 : decode b_Mo_readTest 92 = .ok (.dup, 1) := by decide +kernel
theorem d_Mo_readTest_93 : decode b_Mo_readTest 93 = .ok (.getfield 128, 3) := by decide +kernel
theorem d_Mo_readTest_96 : decode b_Mo_readTest 96 = .ok (.iconst 1, 1) := by decide +kernel
theorem d_Mo_readTest_97 : decode b_Mo_readTest 97 = .ok (.iadd, 1) := by decide +kernel
theorem d_Mo_readTest_98 : decode b_Mo_readTest 98 = .ok (.putfield 128, 3) := by decide +kernel
theorem d_Mo_readTest_101 : decode b_Mo_readTest 101 = .ok (.aload_n 0, 1) := by decide +kernel
theorem d_Mo_readTest_102 : decode b_Mo_readTest 102 = .ok (.iload_n 3, 1) := by decide +kernel
theorem d_Mo_readTest_103 : decode b_Mo_readTest 103 = .ok (.iconst 1, 1) := by decide +kernel
theorem d_Mo_readTest_104 : decode b_Mo_readTest 104 = .ok (.iadd, 1) := by decide +kernel
theorem d_Mo_readTest_105 : decode b_Mo_readTest 105 = .ok (.invokevirtual 166, 3) := by decide +kernel
theorem d_Mo_readTest_108 : decode b_Mo_readTest 108 = .ok (.ireturn, 1) := by decide +kernel
theorem d_Mo_readGuard_0 : decode b_Mo_readGuard 0 = .ok (.bipush 11, 2) := by decide +kernel
theorem d_Mo_readGuard_2 : decode b_Mo_readGuard 2 = .ok (.aload_n 0, 1) := by decide +kernel
theorem d_Mo_readGuard_3 : decode b_Mo_readGuard 3 = .ok (.getfield 149, 3) := by decide +kernel
theorem d_Mo_readGuard_6 : decode b_Mo_readGuard 6 = .ok (.imul, 1) := by decide +kernel
theorem d_Mo_readGuard_7 : decode b_Mo_readGuard 7 = .ok (.iload_n 1, 1) := by decide +kernel
theorem d_Mo_readGuard_8 : decode b_Mo_readGuard 8 = .ok (.iadd, 1) := by decide +kernel
theorem d_Mo_readGuard_9 : decode b_Mo_readGuard 9 = .ok (.istore_n 2, 1) := by decide +kernel
theorem d_Mo_readGuard_10 : decode b_Mo_readGuard 10 = .ok (.aload_n 0, 1) := by decide +kernel
theorem d_Mo_readGuard_11 : decode b_Mo_readGuard 11 = .ok (.getfield 42, 3) := by decide +kernel
theorem d_Mo_readGuard_14 : decode b_Mo_readGuard 14 = .ok (.iload_n 2, 1) := by decide +kernel
theorem d_Mo_readGuard_15 : decode b_Mo_readGuard 15 = .ok (.iconst 1, 1) := by decide +kernel
theorem d_Mo_readGuard_16 : decode b_Mo_readGuard 16 = .ok (.iastore, 1) := by decide +kernel
theorem d_Mo_readGuard_17 : decode b_Mo_readGuard 17 = .ok (.aload_n 0, 1) := by decide +kernel
theorem d_Mo_readGuard_18 : decode b_Mo_readGuard 18 = .ok (.iload_n 1, 1) := by decide +kernel
theorem d_Mo_readGuard_19 : decode b_Mo_readGuard 19 = .ok (.iconst 0, 1) := by decide +kernel
theorem d_Mo_readGuard_20 : decode b_Mo_readGuard 20 = .ok (.invokevirtual 169, 3) := by decide +kernel
theorem d_Mo_readGuard_23 : decode b_Mo_readGuard 23 = .ok (.ifCond .ne 5, 3) := by decide +kernel
theorem d_Mo_readGuard_26 : decode b_Mo_readGuard 26 = .ok (.iconst 0, 1) := by decide +kernel
theorem d_Mo_readGuard_27 : decode b_Mo_readGuard 27 = .ok (.ireturn, 1) := by decide +kernel
theorem d_Mo_readGuard_28 : decode b_Mo_readGuard 28 = .ok (.aload_n 0, 1) := by decide +kernel
theorem d_Mo_readGuard_29 : decode b_Mo_readGuard 29 = .ok (.invokevirtual 131, 3) := by decide +kernel
theorem d_Mo_readGuard_32 : decode b_Mo_readGuard 32 = .ok (.bipush 38, 2) := by decide +kernel
theorem d_Mo_readGuard_34 : decode b_Mo_readGuard 34 = .ok (.if_icmp .ne 61, 3) := by decide +kernel
theorem d_Mo_readGuard_37 : decode b_Mo_readGuard 37 = .ok (.aload_n 0, 1) := by decide +kernel
theorem d_Mo_readGuard_38 : decode b_Mo_readGuard 38 = .ok (.getfield 42, 3) := by decide +kernel
theorem d_Mo_readGuard_41 : decode b_Mo_readGuard 41 = .ok (.iload_n 2, 1) := by decide +kernel
theorem d_Mo_readGuard_42 : decode b_Mo_readGuard 42 = .ok (.iaload, 1) := by decide +kernel
theorem d_Mo_readGuard_43 : decode b_Mo_readGuard 43 = .ok (.iconst 4, 1) := by decide +kernel
theorem d_Mo_readGuard_44 : decode b_Mo_readGuard 44 = .ok (.if_icmp .ne 12, 3) := by decide +kernel
theorem d_Mo_readGuard_47 : decode b_Mo_readGuard 47 = .ok (.aload_n 0, 1) := by decide +kernel
theorem d_Mo_readGuard_48 : decode b_Mo_readGuard 48 = .ok (.aload_n 0, 1) := by decide +kernel
theorem d_Mo_readGuard_49 : decode b_Mo_readGuard 49 = .ok (.getfield 128, 3) := by decide +kernel
theorem d_Mo_readGuard_52 : decode b_Mo_readGuard 52 = .ok (.invokevirtual 135, 3) := by decide +kernel
theorem d_Mo_readGuard_55 : decode b_Mo_readGuard 55 = .ok (.ireturn, 1) := by decide +kernel
theorem d_Mo_readGuard_56 : decode b_Mo_readGuard 56 = .ok (.aload_n 0, 1) := by decide +kernel
theorem d_Mo_readGuard_57 : decode b_Mo_readGuard 57 = .ok (.dup, 1) := by decide +kernel
theorem d_Mo_readGuard_58 : decode b_Mo_readGuard 58 = .ok (.getfield 128, 3) := by decide +kernel
theorem d_Mo_readGuard_61 : decode b_Mo_readGuard 61 = .ok (.iconst 1, 1) := by decide +kernel
theorem d_Mo_readGuard_62 : decode b_Mo_readGuard 62 = .ok (.iadd, 1) := by decide +kernel
theorem d_Mo_readGuard_63 : decode b_Mo_readGuard 63 = .ok (.putfield 128, 3) := by decide +kernel
theorem d_Mo_readGuard_66 : decode b_Mo_readGuard 66 = .ok (.aload_n 0, 1) := by decide +kernel
theorem d_Mo_readGuard_67 : decode b_Mo_readGuard 67 = .ok (.iload_n 1, 1) := by decide +kernel
theorem d_Mo_readGuard_68 : decode b_Mo_readGuard 68 = .ok (.aload_n 0, 1) := by decide +kernel
theorem d_Mo_readGuard_69 : decode b_Mo_readGuard 69 = .ok (.getfield 42, 3) := by decide +kernel
theorem d_Mo_readGuard_72 : decode b_Mo_readGuard 72 = .ok (.iload_n 2, 1) := by decide +kernel
theorem d_Mo_readGuard_73 : decode b_Mo_readGuard 73 = .ok (.iaload, 1) := by decide +kernel
theorem d_Mo_readGuard_74 : decode b_Mo_readGuard 74 = .ok (.invokevirtual 169, 3) := by decide +kernel
theorem d_Mo_readGuard_77 : decode b_Mo_readGuard 77 = .ok (.ifCond .ne 5, 3) := by decide +kernel
theorem d_Mo_readGuard_80 : decode b_Mo_readGuard 80 = .ok (.iconst 0, 1) := by decide +kernel
theorem d_Mo_readGuard_81 : decode b_Mo_readGuard 81 = .ok (.ireturn, 1) := by decide +kernel
theorem d_Mo_readGuard_82 : decode b_Mo_readGuard 82 = .ok (.aload_n 0, 1) := by decide +kernel
theorem d_Mo_readGuard_83 : decode b_Mo_readGuard 83 = .ok (.getfield 42, 3) := by decide +kernel
theorem d_Mo_readGuard_86 : decode b_Mo_readGuard 86 = .ok (.iload_n 2, 1) := by decide +kernel
theorem d_Mo_readGuard_87 : decode b_Mo_readGuard 87 = .ok (.dup2, 1) := by decide +kernel
theorem d_Mo_readGuard_88 : decode b_Mo_readGuard 88 = .ok (.iaload, 1) := by decide +kernel
theorem d_Mo_readGuard_89 : decode b_Mo_readGuard 89 = .ok (.iconst 1, 1) := by decide +kernel
theorem d_Mo_readGuard_90 : decode b_Mo_readGuard 90 = .ok (.iadd, 1) := by decide +kernel
theorem d_Mo_readGuard_91 : decode b_Mo_readGuard 91 = .ok (.iastore, 1) := by decide +kernel
theorem d_Mo_readGuard_92 : decode b_Mo_readGuard 92 = .ok (.goto (-64), 3) := by decide +kernel
theorem d_Mo_readGuard_95 : decode b_Mo_readGuard 95 = .ok (.iconst 1, 1) := by decide +kernel
theorem d_Mo_readGuard_96 : decode b_Mo_readGuard 96 = .ok (.ireturn, 1) := by decide +kernel
theorem d_Mo_updateAt_0 : decode b_Mo_updateAt 0 = .ok (.sipush 208, 3) := by decide +kernel
theorem d_Mo_updateAt_3 : decode b_Mo_updateAt 3 = .ok (.iload_n 0, 1) := by decide +kernel
theorem d_Mo_updateAt_4 : decode b_Mo_updateAt 4 = .ok (.imul, 1) := by decide +kernel
theorem d_Mo_updateAt_5 : decode b_Mo_updateAt 5 = .ok (.bipush 88, 2) := by decide +kernel
theorem d_Mo_updateAt_7 : decode b_Mo_updateAt 7 = .ok (.iadd, 1) := by decide +kernel
theorem d_Mo_updateAt_8 : decode b_Mo_updateAt 8 = .ok (.bipush 12, 2) := by decide +kernel
theorem d_Mo_updateAt_10 : decode b_Mo_updateAt 10 = .ok (.iload_n 1, 1) := by decide +kernel
theorem d_Mo_updateAt_11 : decode b_Mo_updateAt 11 = .ok (.imul, 1) := by decide +kernel
theorem d_Mo_updateAt_12 : decode b_Mo_updateAt 12 = .ok (.iadd, 1) := by decide +kernel
theorem d_Mo_updateAt_13 : decode b_Mo_updateAt 13 = .ok (.iconst 3, 1) := by decide +kernel
theorem d_Mo_updateAt_14 : decode b_Mo_updateAt 14 = .ok (.iload_n 2, 1) := by decide +kernel
theorem d_Mo_updateAt_15 : decode b_Mo_updateAt 15 = .ok (.imul, 1) := by decide +kernel
theorem d_Mo_updateAt_16 : decode b_Mo_updateAt 16 = .ok (.iadd, 1) := by decide +kernel
theorem d_Mo_updateAt_17 : decode b_Mo_updateAt 17 = .ok (.iload_n 3, 1) := by decide +kernel
theorem d_Mo_updateAt_18 : decode b_Mo_updateAt 18 = .ok (.iadd, 1) := by decide +kernel
theorem d_Mo_updateAt_19 : decode b_Mo_updateAt 19 = .ok (.ireturn, 1) := by decide +kernel
theorem d_Mo_readUpdate_0 : decode b_Mo_readUpdate 0 = .ok (.aload_n 0, 1) := by decide +kernel
theorem d_Mo_readUpdate_1 : decode b_Mo_readUpdate 1 = .ok (.getfield 128, 3) := by decide +kernel
theorem d_Mo_readUpdate_4 : decode b_Mo_readUpdate 4 = .ok (.istore_n 3, 1) := by decide +kernel
theorem d_Mo_readUpdate_5 : decode b_Mo_readUpdate 5 = .ok (.aload_n 0, 1) := by decide +kernel
theorem d_Mo_readUpdate_6 : decode b_Mo_readUpdate 6 = .ok (.invokevirtual 159, 3) := by decide +kernel
theorem d_Mo_readUpdate_9 : decode b_Mo_readUpdate 9 = .ok (.ifCond .ne 12, 3) := by decide +kernel
theorem d_Mo_readUpdate_12 : decode b_Mo_readUpdate 12 = .ok (.aload_n 0, 1) := by decide +kernel
theorem d_Mo_readUpdate_13 : decode b_Mo_readUpdate 13 = .ok (.aload_n 0, 1) := by decide +kernel
theorem d_Mo_readUpdate_14 : decode b_Mo_readUpdate 14 = .ok (.getfield 128, 3) := by decide +kernel
theorem d_Mo_readUpdate_17 : decode b_Mo_readUpdate 17 = .ok (.invokevirtual 135, 3) := by decide +kernel
theorem d_Mo_readUpdate_20 : decode b_Mo_readUpdate 20 = .ok (.ireturn, 1) := by decide +kernel
theorem d_Mo_readUpdate_21 : decode b_Mo_readUpdate 21 = .ok (.aload_n 0, 1) := by decide +kernel
theorem d_Mo_readUpdate_22 : decode b_Mo_readUpdate 22 = .ok (.getfield 149, 3) := by decide +kernel
theorem d_Mo_readUpdate_25 : decode b_Mo_readUpdate 25 = .ok (.iload_n 1, 1) := by decide +kernel
theorem d_Mo_readUpdate_26 : decode b_Mo_readUpdate 26 = .ok (.iload_n 2, 1) := by decide +kernel
theorem d_Mo_readUpdate_27 : decode b_Mo_readUpdate 27 = .ok (.aload_n 0, 1) := by decide +kernel
theorem d_Mo_readUpdate_28 : decode b_Mo_readUpdate 28 = .ok (.invokevirtual 131, 3) := by decide +kernel
theorem d_Mo_readUpdate_31 : decode b_Mo_readUpdate 31 = .ok (.bipush 97, 2) := by decide +kernel
theorem d_Mo_readUpdate_33 : decode b_Mo_readUpdate 33 = .ok (.isub, 1) := by decide +kernel
theorem d_Mo_readUpdate_34 : decode b_Mo_readUpdate 34 = .ok (.invokestatic 172, 3) := by decide +kernel
theorem d_Mo_readUpdate_37 : decode b_Mo_readUpdate 37 = .ok (.istore 4, 2) := by decide +kernel
theorem d_Mo_readUpdate_39 : decode b_Mo_readUpdate 39 = .ok (.aload_n 0, 1) := by decide +kernel
theorem d_Mo_readUpdate_40 : decode b_Mo_readUpdate 40 = .ok (.dup, 1) := by decide +kernel
theorem d_Mo_readUpdate_41 : decode b_Mo_readUpdate 41 = .ok (.getfield 128, 3) := by decide +kernel
theorem d_Mo_readUpdate_44 : decode b_Mo_readUpdate 44 = .ok (.iconst 1, 1) := by decide +kernel
theorem d_Mo_readUpdate_45 : decode b_Mo_readUpdate 45 = .ok (.iadd, 1) := by decide +kernel
theorem d_Mo_readUpdate_46 : decode b_Mo_readUpdate 46 = .ok (.putfield 128, 3) := by decide +kernel
theorem d_Mo_readUpdate_49 : decode b_Mo_readUpdate 49 = .ok (.aload_n 0, 1) := by decide +kernel
theorem d_Mo_readUpdate_50 : decode b_Mo_readUpdate 50 = .ok (.getfield 48, 3) := by decide +kernel
theorem d_Mo_readUpdate_53 : decode b_Mo_readUpdate 53 = .ok (.iload 4, 2) := by decide +kernel
theorem d_Mo_readUpdate_55 : decode b_Mo_readUpdate 55 = .ok (.iaload, 1) := by decide +kernel
theorem d_Mo_readUpdate_56 : decode b_Mo_readUpdate 56 = .ok (.ifCond .le 9, 3) := by decide +kernel
theorem d_Mo_readUpdate_59 : decode b_Mo_readUpdate 59 = .ok (.aload_n 0, 1) := by decide +kernel
theorem d_Mo_readUpdate_60 : decode b_Mo_readUpdate 60 = .ok (.iload_n 3, 1) := by decide +kernel
theorem d_Mo_readUpdate_61 : decode b_Mo_readUpdate 61 = .ok (.invokevirtual 135, 3) := by decide +kernel
theorem d_Mo_readUpdate_64 : decode b_Mo_readUpdate 64 = .ok (.ireturn, 1) := by decide +kernel
theorem d_Mo_readUpdate_65 : decode b_Mo_readUpdate 65 = .ok (.aload_n 0, 1) := by decide +kernel
theorem d_Mo_readUpdate_66 : decode b_Mo_readUpdate 66 = .ok (.bipush 61, 2) := by decide +kernel
theorem d_Mo_readUpdate_68 : decode b_Mo_readUpdate 68 = .ok (.invokevirtual 156, 3) := by decide +kernel
theorem d_Mo_readUpdate_71 : decode b_Mo_readUpdate 71 = .ok (.ifCond .eq 16, 3) := by decide +kernel
theorem d_Mo_readUpdate_74 : decode b_Mo_readUpdate 74 = .ok (.aload_n 0, 1) := by decide +kernel
theorem d_Mo_readUpdate_75 : decode b_Mo_readUpdate 75 = .ok (.iload 4, 2) := by decide +kernel
theorem d_Mo_readUpdate_77 : decode b_Mo_readUpdate 77 = .ok (.invokevirtual 166, 3) := by decide +kernel
theorem d_Mo_readUpdate_80 : decode b_Mo_readUpdate 80 = .ok (.ifCond .eq 7, 3) := by decide +kernel
theorem d_Mo_readUpdate_83 : decode b_Mo_readUpdate 83 = .ok (.iconst 1, 1) := by decide +kernel
theorem d_Mo_readUpdate_84 : decode b_Mo_readUpdate 84 = .ok (.goto 4, 3) := by decide +kernel
theorem d_Mo_readUpdate_87 : decode b_Mo_readUpdate 87 = .ok (.iconst 0, 1) := by decide +kernel
theorem d_Mo_readUpdate_88 : decode b_Mo_readUpdate 88 = .ok (.ireturn, 1) := by decide +kernel
theorem d_Mo_readBranch_0 : decode b_Mo_readBranch 0 = .ok (.bipush 10, 2) := by decide +kernel
theorem d_Mo_readBranch_2 : decode b_Mo_readBranch 2 = .ok (.aload_n 0, 1) := by decide +kernel
theorem d_Mo_readBranch_3 : decode b_Mo_readBranch 3 = .ok (.getfield 149, 3) := by decide +kernel
theorem d_Mo_readBranch_6 : decode b_Mo_readBranch 6 = .ok (.imul, 1) := by decide +kernel
theorem d_Mo_readBranch_7 : decode b_Mo_readBranch 7 = .ok (.iload_n 1, 1) := by decide +kernel
theorem d_Mo_readBranch_8 : decode b_Mo_readBranch 8 = .ok (.iadd, 1) := by decide +kernel
theorem d_Mo_readBranch_9 : decode b_Mo_readBranch 9 = .ok (.istore_n 2, 1) := by decide +kernel
theorem d_Mo_readBranch_10 : decode b_Mo_readBranch 10 = .ok (.aload_n 0, 1) := by decide +kernel
theorem d_Mo_readBranch_11 : decode b_Mo_readBranch 11 = .ok (.iconst 1, 1) := by decide +kernel
theorem d_Mo_readBranch_12 : decode b_Mo_readBranch 12 = .ok (.bipush 6, 2) := by decide +kernel
theorem d_Mo_readBranch_14 : decode b_Mo_readBranch 14 = .ok (.aload_n 0, 1) := by decide +kernel
theorem d_Mo_readBranch_15 : decode b_Mo_readBranch 15 = .ok (.getfield 36, 3) := by decide +kernel
theorem d_Mo_readBranch_18 : decode b_Mo_readBranch 18 = .ok (.iload_n 2, 1) := by decide +kernel
theorem d_Mo_readBranch_19 : decode b_Mo_readBranch 19 = .ok (.iaload, 1) := by decide +kernel
theorem d_Mo_readBranch_20 : decode b_Mo_readBranch 20 = .ok (.isub, 1) := by decide +kernel
theorem d_Mo_readBranch_21 : decode b_Mo_readBranch 21 = .ok (.invokevirtual 152, 3) := by decide +kernel
theorem d_Mo_readBranch_24 : decode b_Mo_readBranch 24 = .ok (.ifCond .ne 5, 3) := by decide +kernel
theorem d_Mo_readBranch_27 : decode b_Mo_readBranch 27 = .ok (.iconst 0, 1) := by decide +kernel
theorem d_Mo_readBranch_28 : decode b_Mo_readBranch 28 = .ok (.ireturn, 1) := by decide +kernel
theorem d_Mo_readBranch_29 : decode b_Mo_readBranch 29 = .ok (.aload_n 0, 1) := by decide +kernel
theorem d_Mo_readBranch_30 : decode b_Mo_readBranch 30 = .ok (.getfield 33, 3) := by decide +kernel
theorem d_Mo_readBranch_33 : decode b_Mo_readBranch 33 = .ok (.iload_n 2, 1) := by decide +kernel
theorem d_Mo_readBranch_34 : decode b_Mo_readBranch 34 = .ok (.iaload, 1) := by decide +kernel
theorem d_Mo_readBranch_35 : decode b_Mo_readBranch 35 = .ok (.istore_n 3, 1) := by decide +kernel
theorem d_Mo_readBranch_36 : decode b_Mo_readBranch 36 = .ok (.aload_n 0, 1) := by decide +kernel
theorem d_Mo_readBranch_37 : decode b_Mo_readBranch 37 = .ok (.getfield 39, 3) := by decide +kernel
theorem d_Mo_readBranch_40 : decode b_Mo_readBranch 40 = .ok (.iconst 4, 1) := by decide +kernel
theorem d_Mo_readBranch_41 : decode b_Mo_readBranch 41 = .ok (.iload_n 2, 1) := by decide +kernel
theorem d_Mo_readBranch_42 : decode b_Mo_readBranch 42 = .ok (.imul, 1) := by decide +kernel
theorem d_Mo_readBranch_43 : decode b_Mo_readBranch 43 = .ok (.iload_n 3, 1) := by decide +kernel
theorem d_Mo_readBranch_44 : decode b_Mo_readBranch 44 = .ok (.iadd, 1) := by decide +kernel
theorem d_Mo_readBranch_45 : decode b_Mo_readBranch 45 = .ok (.aload_n 0, 1) := by decide +kernel
theorem d_Mo_readBranch_46 : decode b_Mo_readBranch 46 = .ok (.getfield 143, 3) := by decide +kernel
theorem d_Mo_readBranch_49 : decode b_Mo_readBranch 49 = .ok (.iastore, 1) := by decide +kernel
theorem d_Mo_readBranch_50 : decode b_Mo_readBranch 50 = .ok (.aload_n 0, 1) := by decide +kernel
theorem d_Mo_readBranch_51 : decode b_Mo_readBranch 51 = .ok (.getfield 36, 3) := by decide +kernel
theorem d_Mo_readBranch_54 : decode b_Mo_readBranch 54 = .ok (.iload_n 2, 1) := by decide +kernel
theorem d_Mo_readBranch_55 : decode b_Mo_readBranch 55 = .ok (.aload_n 0, 1) := by decide +kernel
theorem d_Mo_readBranch_56 : decode b_Mo_readBranch 56 = .ok (.getfield 36, 3) := by decide +kernel
theorem d_Mo_readBranch_59 : decode b_Mo_readBranch 59 = .ok (.iload_n 2, 1) := by decide +kernel
theorem d_Mo_readBranch_60 : decode b_Mo_readBranch 60 = .ok (.iaload, 1) := by decide +kernel
theorem d_Mo_readBranch_61 : decode b_Mo_readBranch 61 = .ok (.aload_n 0, 1) := by decide +kernel
theorem d_Mo_readBranch_62 : decode b_Mo_readBranch 62 = .ok (.getfield 143, 3) := by decide +kernel
theorem d_Mo_readBranch_65 : decode b_Mo_readBranch 65 = .ok (.iadd, 1) := by decide +kernel
theorem d_Mo_readBranch_66 : decode b_Mo_readBranch 66 = .ok (.iastore, 1) := by decide +kernel
theorem d_Mo_readBranch_67 : decode b_Mo_readBranch 67 = .ok (.aload_n 0, 1) := by decide +kernel
theorem d_Mo_readBranch_68 : decode b_Mo_readBranch 68 = .ok (.getfield 33, 3) := by decide +kernel
theorem d_Mo_readBranch_71 : decode b_Mo_readBranch 71 = .ok (.iload_n 2, 1) := by decide +kernel
theorem d_Mo_readBranch_72 : decode b_Mo_readBranch 72 = .ok (.dup2, 1) := by decide +kernel
theorem d_Mo_readBranch_73 : decode b_Mo_readBranch 73 = .ok (.iaload, 1) := by decide +kernel
theorem d_Mo_readBranch_74 : decode b_Mo_readBranch 74 = .ok (.iconst 1, 1) := by decide +kernel
theorem d_Mo_readBranch_75 : decode b_Mo_readBranch 75 = .ok (.iadd, 1) := by decide +kernel
theorem d_Mo_readBranch_76 : decode b_Mo_readBranch 76 = .ok (.iastore, 1) := by decide +kernel
theorem d_Mo_readBranch_77 : decode b_Mo_readBranch 77 = .ok (.iconst 0, 1) := by decide +kernel
theorem d_Mo_readBranch_78 : decode b_Mo_readBranch 78 = .ok (.istore 4, 2) := by decide +kernel
theorem d_Mo_readBranch_80 : decode b_Mo_readBranch 80 = .ok (.iload 4, 2) := by decide +kernel
theorem d_Mo_readBranch_82 : decode b_Mo_readBranch 82 = .ok (.iconst 3, 1) := by decide +kernel
theorem d_Mo_readBranch_83 : decode b_Mo_readBranch 83 = .ok (.if_icmp .ge 26, 3) := by decide +kernel
theorem d_Mo_readBranch_86 : decode b_Mo_readBranch 86 = .ok (.aload_n 0, 1) := by decide +kernel
theorem d_Mo_readBranch_87 : decode b_Mo_readBranch 87 = .ok (.getfield 48, 3) := by decide +kernel
theorem d_Mo_readBranch_90 : decode b_Mo_readBranch 90 = .ok (.aload_n 0, 1) := by decide +kernel
theorem d_Mo_readBranch_91 : decode b_Mo_readBranch 91 = .ok (.getfield 149, 3) := by decide +kernel
theorem d_Mo_readBranch_94 : decode b_Mo_readBranch 94 = .ok (.iload_n 1, 1) := by decide +kernel
theorem d_Mo_readBranch_95 : decode b_Mo_readBranch 95 = .ok (.iload_n 3, 1) := by decide +kernel
theorem d_Mo_readBranch_96 : decode b_Mo_readBranch 96 = .ok (.iload 4, 2) := by decide +kernel
theorem d_Mo_readBranch_98 : decode b_Mo_readBranch 98 = .ok (.invokestatic 172, 3) := by decide +kernel
theorem d_Mo_readBranch_101 : decode b_Mo_readBranch 101 = .ok (.iconst 0, 1) := by decide +kernel
theorem d_Mo_readBranch_102 : decode b_Mo_readBranch 102 = .ok (.iastore, 1) := by decide +kernel
theorem d_Mo_readBranch_103 : decode b_Mo_readBranch 103 = .ok (.iinc 4 1, 3) := by decide +kernel
theorem d_Mo_readBranch_106 : decode b_Mo_readBranch 106 = .ok (.goto (-26), 3) := by decide +kernel
theorem d_Mo_readBranch_109 : decode b_Mo_readBranch 109 = .ok (.aload_n 0, 1) := by decide +kernel
theorem d_Mo_readBranch_110 : decode b_Mo_readBranch 110 = .ok (.invokevirtual 131, 3) := by decide +kernel
theorem d_Mo_readBranch_113 : decode b_Mo_readBranch 113 = .ok (.bipush 58, 2) := by decide +kernel
theorem d_Mo_readBranch_115 : decode b_Mo_readBranch 115 = .ok (.if_icmp .ne 7, 3) := by decide +kernel
theorem d_Mo_readBranch_118 : decode b_Mo_readBranch 118 = .ok (.iconst 1, 1) := by decide +kernel
theorem d_Mo_readBranch_119 : decode b_Mo_readBranch 119 = .ok (.goto 4, 3) := by decide +kernel
theorem d_Mo_readBranch_122 : decode b_Mo_readBranch 122 = .ok (.iconst 0, 1) := by decide +kernel
theorem d_Mo_readBranch_123 : decode b_Mo_readBranch 123 = .ok (.istore 4, 2) := by decide +kernel
theorem d_Mo_readBranch_125 : decode b_Mo_readBranch 125 = .ok (.iload 4, 2) := by decide +kernel
theorem d_Mo_readBranch_127 : decode b_Mo_readBranch 127 = .ok (.ifCond .eq 43, 3) := by decide +kernel
theorem d_Mo_readBranch_130 : decode b_Mo_readBranch 130 = .ok (.aload_n 0, 1) := by decide +kernel
theorem d_Mo_readBranch_131 : decode b_Mo_readBranch 131 = .ok (.dup, 1) := by decide +kernel
theorem d_Mo_readBranch_132 : decode b_Mo_readBranch 132 = .ok (.getfield 128, 3) := by decide +kernel
theorem d_Mo_readBranch_135 : decode b_Mo_readBranch 135 = .ok (.iconst 1, 1) := by decide +kernel
theorem d_Mo_readBranch_136 : decode b_Mo_readBranch 136 = .ok (.iadd, 1) := by decide +kernel
theorem d_Mo_readBranch_137 : decode b_Mo_readBranch 137 = .ok (.putfield 128, 3) := by decide +kernel
theorem d_Mo_readBranch_140 : decode b_Mo_readBranch 140 = .ok (.aload_n 0, 1) := by decide +kernel
theorem d_Mo_readBranch_141 : decode b_Mo_readBranch 141 = .ok (.iload_n 1, 1) := by decide +kernel
theorem d_Mo_readBranch_142 : decode b_Mo_readBranch 142 = .ok (.iload_n 3, 1) := by decide +kernel
theorem d_Mo_readBranch_143 : decode b_Mo_readBranch 143 = .ok (.invokevirtual 176, 3) := by decide +kernel
theorem d_Mo_readBranch_146 : decode b_Mo_readBranch 146 = .ok (.ifCond .ne 5, 3) := by decide +kernel
theorem d_Mo_readBranch_149 : decode b_Mo_readBranch 149 = .ok (.iconst 0, 1) := by decide +kernel
theorem d_Mo_readBranch_150 : decode b_Mo_readBranch 150 = .ok (.ireturn, 1) := by decide +kernel
theorem d_Mo_readBranch_151 : decode b_Mo_readBranch 151 = .ok (.aload_n 0, 1) := by decide +kernel
theorem d_Mo_readBranch_152 : decode b_Mo_readBranch 152 = .ok (.invokevirtual 131, 3) := by decide +kernel
theorem d_Mo_readBranch_155 : decode b_Mo_readBranch 155 = .ok (.bipush 44, 2) := by decide +kernel
theorem d_Mo_readBranch_157 : decode b_Mo_readBranch 157 = .ok (.if_icmp .ne 7, 3) := by decide +kernel
theorem d_Mo_readBranch_160 : decode b_Mo_readBranch 160 = .ok (.iconst 1, 1) := by decide +kernel
theorem d_Mo_readBranch_161 : decode b_Mo_readBranch 161 = .ok (.goto 4, 3) := by decide +kernel
theorem d_Mo_readBranch_164 : decode b_Mo_readBranch 164 = .ok (.iconst 0, 1) := by decide +kernel
theorem d_Mo_readBranch_165 : decode b_Mo_readBranch 165 = .ok (.istore 4, 2) := by decide +kernel
theorem d_Mo_readBranch_167 : decode b_Mo_readBranch 167 = .ok (.goto (-42), 3) := by decide +kernel
theorem d_Mo_readBranch_170 : decode b_Mo_readBranch 170 = .ok (.iconst 1, 1) := by decide +kernel
theorem d_Mo_readBranch_171 : decode b_Mo_readBranch 171 = .ok (.ireturn, 1) := by decide +kernel
theorem d_Mo_readCommand_0 : decode b_Mo_readCommand 0 = .ok (.aload_n 0, 1) := by decide +kernel
theorem d_Mo_readCommand_1 : decode b_Mo_readCommand 1 = .ok (.getfield 26, 3) := by decide +kernel
theorem d_Mo_readCommand_4 : decode b_Mo_readCommand 4 = .ok (.aload_n 0, 1) := by decide +kernel
theorem d_Mo_readCommand_5 : decode b_Mo_readCommand 5 = .ok (.getfield 149, 3) := by decide +kernel
theorem d_Mo_readCommand_8 : decode b_Mo_readCommand 8 = .ok (.iaload, 1) := by decide +kernel
theorem d_Mo_readCommand_9 : decode b_Mo_readCommand 9 = .ok (.istore_n 1, 1) := by decide +kernel
theorem d_Mo_readCommand_10 : decode b_Mo_readCommand 10 = .ok (.iload_n 1, 1) := by decide +kernel
theorem d_Mo_readCommand_11 : decode b_Mo_readCommand 11 = .ok (.bipush 10, 2) := by decide +kernel
theorem d_Mo_readCommand_13 : decode b_Mo_readCommand 13 = .ok (.if_icmp .ne 12, 3) := by decide +kernel
theorem d_Mo_readCommand_16 : decode b_Mo_readCommand 16 = .ok (.aload_n 0, 1) := by decide +kernel
theorem d_Mo_readCommand_17 : decode b_Mo_readCommand 17 = .ok (.aload_n 0, 1) := by decide +kernel
theorem d_Mo_readCommand_18 : decode b_Mo_readCommand 18 = .ok (.getfield 128, 3) := by decide +kernel
theorem d_Mo_readCommand_21 : decode b_Mo_readCommand 21 = .ok (.invokevirtual 135, 3) := by decide +kernel
theorem d_Mo_readCommand_24 : decode b_Mo_readCommand 24 = .ok (.ireturn, 1) := by decide +kernel
theorem d_Mo_readCommand_25 : decode b_Mo_readCommand 25 = .ok (.bipush 10, 2) := by decide +kernel
theorem d_Mo_readCommand_27 : decode b_Mo_readCommand 27 = .ok (.aload_n 0, 1) := by decide +kernel
theorem d_Mo_readCommand_28 : decode b_Mo_readCommand 28 = .ok (.getfield 149, 3) := by decide +kernel
theorem d_Mo_readCommand_31 : decode b_Mo_readCommand 31 = .ok (.imul, 1) := by decide +kernel
theorem d_Mo_readCommand_32 : decode b_Mo_readCommand 32 = .ok (.iload_n 1, 1) := by decide +kernel
theorem d_Mo_readCommand_33 : decode b_Mo_readCommand 33 = .ok (.iadd, 1) := by decide +kernel
theorem d_Mo_readCommand_34 : decode b_Mo_readCommand 34 = .ok (.istore_n 2, 1) := by decide +kernel
theorem d_Mo_readCommand_35 : decode b_Mo_readCommand 35 = .ok (.aload_n 0, 1) := by decide +kernel
theorem d_Mo_readCommand_36 : decode b_Mo_readCommand 36 = .ok (.getfield 29, 3) := by decide +kernel
theorem d_Mo_readCommand_39 : decode b_Mo_readCommand 39 = .ok (.iload_n 2, 1) := by decide +kernel
theorem d_Mo_readCommand_40 : decode b_Mo_readCommand 40 = .ok (.aload_n 0, 1) := by decide +kernel
theorem d_Mo_readCommand_41 : decode b_Mo_readCommand 41 = .ok (.invokevirtual 131, 3) := by decide +kernel
theorem d_Mo_readCommand_44 : decode b_Mo_readCommand 44 = .ok (.bipush 43, 2) := by decide +kernel
theorem d_Mo_readCommand_46 : decode b_Mo_readCommand 46 = .ok (.if_icmp .ne 7, 3) := by decide +kernel
theorem d_Mo_readCommand_49 : decode b_Mo_readCommand 49 = .ok (.iconst 1, 1) := by decide +kernel
theorem d_Mo_readCommand_50 : decode b_Mo_readCommand 50 = .ok (.goto 4, 3) := by decide +kernel
theorem d_Mo_readCommand_53 : decode b_Mo_readCommand 53 = .ok (.iconst 0, 1) := by decide +kernel
theorem d_Mo_readCommand_54 : decode b_Mo_readCommand 54 = .ok (.bastore, 1) := by decide +kernel
theorem d_Mo_readCommand_55 : decode b_Mo_readCommand 55 = .ok (.aload_n 0, 1) := by decide +kernel
theorem d_Mo_readCommand_56 : decode b_Mo_readCommand 56 = .ok (.getfield 33, 3) := by decide +kernel
theorem d_Mo_readCommand_59 : decode b_Mo_readCommand 59 = .ok (.iload_n 2, 1) := by decide +kernel
theorem d_Mo_readCommand_60 : decode b_Mo_readCommand 60 = .ok (.iconst 0, 1) := by decide +kernel
theorem d_Mo_readCommand_61 : decode b_Mo_readCommand 61 = .ok (.iastore, 1) := by decide +kernel
theorem d_Mo_readCommand_62 : decode b_Mo_readCommand 62 = .ok (.aload_n 0, 1) := by decide +kernel
theorem d_Mo_readCommand_63 : decode b_Mo_readCommand 63 = .ok (.getfield 36, 3) := by decide +kernel
theorem d_Mo_readCommand_66 : decode b_Mo_readCommand 66 = .ok (.iload_n 2, 1) := by decide +kernel
theorem d_Mo_readCommand_67 : decode b_Mo_readCommand 67 = .ok (.iconst 0, 1) := by decide +kernel
theorem d_Mo_readCommand_68 : decode b_Mo_readCommand 68 = .ok (.iastore, 1) := by decide +kernel
theorem d_Mo_readCommand_69 : decode b_Mo_readCommand 69 = .ok (.aload_n 0, 1) := by decide +kernel
theorem d_Mo_readCommand_70 : decode b_Mo_readCommand 70 = .ok (.dup, 1) := by decide +kernel
theorem d_Mo_readCommand_71 : decode b_Mo_readCommand 71 = .ok (.getfield 128, 3) := by decide +kernel
theorem d_Mo_readCommand_74 : decode b_Mo_readCommand 74 = .ok (.iconst 1, 1) := by decide +kernel
theorem d_Mo_readCommand_75 : decode b_Mo_readCommand 75 = .ok (.iadd, 1) := by decide +kernel
theorem d_Mo_readCommand_76 : decode b_Mo_readCommand 76 = .ok (.putfield 128, 3) := by decide +kernel
theorem d_Mo_readCommand_79 : decode b_Mo_readCommand 79 = .ok (.aload_n 0, 1) := by decide +kernel
theorem d_Mo_readCommand_80 : decode b_Mo_readCommand 80 = .ok (.iload_n 1, 1) := by decide +kernel
theorem d_Mo_readCommand_81 : decode b_Mo_readCommand 81 = .ok (.invokevirtual 179, 3) := by decide +kernel
theorem d_Mo_readCommand_84 : decode b_Mo_readCommand 84 = .ok (.ifCond .eq 20, 3) := by decide +kernel
theorem d_Mo_readCommand_87 : decode b_Mo_readCommand 87 = .ok (.aload_n 0, 1) := by decide +kernel
theorem d_Mo_readCommand_88 : decode b_Mo_readCommand 88 = .ok (.bipush 63, 2) := by decide +kernel
theorem d_Mo_readCommand_90 : decode b_Mo_readCommand 90 = .ok (.invokevirtual 156, 3) := by decide +kernel
theorem d_Mo_readCommand_93 : decode b_Mo_readCommand 93 = .ok (.ifCond .eq 11, 3) := by decide +kernel
theorem d_Mo_readCommand_96 : decode b_Mo_readCommand 96 = .ok (.aload_n 0, 1) := by decide +kernel
theorem d_Mo_readCommand_97 : decode b_Mo_readCommand 97 = .ok (.iload_n 1, 1) := by decide +kernel
theorem d_Mo_readCommand_98 : decode b_Mo_readCommand 98 = .ok (.invokevirtual 182, 3) := by decide +kernel
theorem d_Mo_readCommand_101 : decode b_Mo_readCommand 101 = .ok (.ifCond .ne 5, 3) := by decide +kernel
theorem d_Mo_readCommand_104 : decode b_Mo_readCommand 104 = .ok (.iconst 0, 1) := by decide +kernel
theorem d_Mo_readCommand_105 : decode b_Mo_readCommand 105 = .ok (.ireturn, 1) := by decide +kernel
theorem d_Mo_readCommand_106 : decode b_Mo_readCommand 106 = .ok (.aload_n 0, 1) := by decide +kernel
theorem d_Mo_readCommand_107 : decode b_Mo_readCommand 107 = .ok (.invokevirtual 131, 3) := by decide +kernel
theorem d_Mo_readCommand_110 : decode b_Mo_readCommand 110 = .ok (.bipush 124, 2) := by decide +kernel
theorem d_Mo_readCommand_112 : decode b_Mo_readCommand 112 = .ok (.if_icmp .ne 42, 3) := by decide +kernel
theorem d_Mo_readCommand_115 : decode b_Mo_readCommand 115 = .ok (.aload_n 0, 1) := by decide +kernel
theorem d_Mo_readCommand_116 : decode b_Mo_readCommand 116 = .ok (.getfield 33, 3) := by decide +kernel
theorem d_Mo_readCommand_119 : decode b_Mo_readCommand 119 = .ok (.iload_n 2, 1) := by decide +kernel
theorem d_Mo_readCommand_120 : decode b_Mo_readCommand 120 = .ok (.iaload, 1) := by decide +kernel
theorem d_Mo_readCommand_121 : decode b_Mo_readCommand 121 = .ok (.iconst 4, 1) := by decide +kernel
theorem d_Mo_readCommand_122 : decode b_Mo_readCommand 122 = .ok (.if_icmp .ne 12, 3) := by decide +kernel
theorem d_Mo_readCommand_125 : decode b_Mo_readCommand 125 = .ok (.aload_n 0, 1) := by decide +kernel
theorem d_Mo_readCommand_126 : decode b_Mo_readCommand 126 = .ok (.aload_n 0, 1) := by decide +kernel
theorem d_Mo_readCommand_127 : decode b_Mo_readCommand 127 = .ok (.getfield 128, 3) := by decide +kernel
theorem d_Mo_readCommand_130 : decode b_Mo_readCommand 130 = .ok (.invokevirtual 135, 3) := by decide +kernel
theorem d_Mo_readCommand_133 : decode b_Mo_readCommand 133 = .ok (.ireturn, 1) := by decide +kernel
theorem d_Mo_readCommand_134 : decode b_Mo_readCommand 134 = .ok (.aload_n 0, 1) := by decide +kernel
theorem d_Mo_readCommand_135 : decode b_Mo_readCommand 135 = .ok (.dup, 1) := by decide +kernel
theorem d_Mo_readCommand_136 : decode b_Mo_readCommand 136 = .ok (.getfield 128, 3) := by decide +kernel
theorem d_Mo_readCommand_139 : decode b_Mo_readCommand 139 = .ok (.iconst 1, 1) := by decide +kernel
theorem d_Mo_readCommand_140 : decode b_Mo_readCommand 140 = .ok (.iadd, 1) := by decide +kernel
theorem d_Mo_readCommand_141 : decode b_Mo_readCommand 141 = .ok (.putfield 128, 3) := by decide +kernel
theorem d_Mo_readCommand_144 : decode b_Mo_readCommand 144 = .ok (.aload_n 0, 1) := by decide +kernel
theorem d_Mo_readCommand_145 : decode b_Mo_readCommand 145 = .ok (.iload_n 1, 1) := by decide +kernel
theorem d_Mo_readCommand_146 : decode b_Mo_readCommand 146 = .ok (.invokevirtual 182, 3) := by decide +kernel
theorem d_Mo_readCommand_149 : decode b_Mo_readCommand 149 = .ok (.ifCond .ne (-43), 3) := by decide +kernel
theorem d_Mo_readCommand_152 : decode b_Mo_readCommand 152 = .ok (.iconst 0, 1) := by decide +kernel
theorem d_Mo_readCommand_153 : decode b_Mo_readCommand 153 = .ok (.ireturn, 1) := by decide +kernel
theorem d_Mo_readCommand_154 : decode b_Mo_readCommand 154 = .ok (.aload_n 0, 1) := by decide +kernel
theorem d_Mo_readCommand_155 : decode b_Mo_readCommand 155 = .ok (.getfield 26, 3) := by decide +kernel
theorem d_Mo_readCommand_158 : decode b_Mo_readCommand 158 = .ok (.aload_n 0, 1) := by decide +kernel
theorem d_Mo_readCommand_159 : decode b_Mo_readCommand 159 = .ok (.getfield 149, 3) := by decide +kernel
theorem d_Mo_readCommand_162 : decode b_Mo_readCommand 162 = .ok (.dup2, 1) := by decide +kernel
theorem d_Mo_readCommand_163 : decode b_Mo_readCommand 163 = .ok (.iaload, 1) := by decide +kernel
theorem d_Mo_readCommand_164 : decode b_Mo_readCommand 164 = .ok (.iconst 1, 1) := by decide +kernel
theorem d_Mo_readCommand_165 : decode b_Mo_readCommand 165 = .ok (.iadd, 1) := by decide +kernel
theorem d_Mo_readCommand_166 : decode b_Mo_readCommand 166 = .ok (.iastore, 1) := by decide +kernel
theorem d_Mo_readCommand_167 : decode b_Mo_readCommand 167 = .ok (.aload_n 0, 1) := by decide +kernel
theorem d_Mo_readCommand_168 : decode b_Mo_readCommand 168 = .ok (.bipush 59, 2) := by decide +kernel
theorem d_Mo_readCommand_170 : decode b_Mo_readCommand 170 = .ok (.invokevirtual 156, 3) := by decide +kernel
theorem d_Mo_readCommand_173 : decode b_Mo_readCommand 173 = .ok (.ireturn, 1) := by decide +kernel
theorem d_Mo_readAll_0 : decode b_Mo_readAll 0 = .ok (.aload_n 0, 1) := by decide +kernel
theorem d_Mo_readAll_1 : decode b_Mo_readAll 1 = .ok (.iconst 0, 1) := by decide +kernel
theorem d_Mo_readAll_2 : decode b_Mo_readAll 2 = .ok (.putfield 128, 3) := by decide +kernel
theorem d_Mo_readAll_5 : decode b_Mo_readAll 5 = .ok (.aload_n 0, 1) := by decide +kernel
theorem d_Mo_readAll_6 : decode b_Mo_readAll 6 = .ok (.aload_n 0, 1) := by decide +kernel
theorem d_Mo_readAll_7 : decode b_Mo_readAll 7 = .ok (.getfield 17, 3) := by decide +kernel
theorem d_Mo_readAll_10 : decode b_Mo_readAll 10 = .ok (.ifCond .ne 7, 3) := by decide +kernel
theorem d_Mo_readAll_13 : decode b_Mo_readAll 13 = .ok (.iconst 1, 1) := by decide +kernel
theorem d_Mo_readAll_14 : decode b_Mo_readAll 14 = .ok (.goto 4, 3) := by decide +kernel
theorem d_Mo_readAll_17 : decode b_Mo_readAll 17 = .ok (.iconst 0, 1) := by decide +kernel
theorem d_Mo_readAll_18 : decode b_Mo_readAll 18 = .ok (.putfield 149, 3) := by decide +kernel
theorem d_Mo_readAll_21 : decode b_Mo_readAll 21 = .ok (.aload_n 0, 1) := by decide +kernel
theorem d_Mo_readAll_22 : decode b_Mo_readAll 22 = .ok (.getfield 26, 3) := by decide +kernel
theorem d_Mo_readAll_25 : decode b_Mo_readAll 25 = .ok (.aload_n 0, 1) := by decide +kernel
theorem d_Mo_readAll_26 : decode b_Mo_readAll 26 = .ok (.getfield 149, 3) := by decide +kernel
theorem d_Mo_readAll_29 : decode b_Mo_readAll 29 = .ok (.iconst 0, 1) := by decide +kernel
theorem d_Mo_readAll_30 : decode b_Mo_readAll 30 = .ok (.iastore, 1) := by decide +kernel
theorem d_Mo_readAll_31 : decode b_Mo_readAll 31 = .ok (.iconst 3, 1) := by decide +kernel
theorem d_Mo_readAll_32 : decode b_Mo_readAll 32 = .ok (.aload_n 0, 1) := by decide +kernel
theorem d_Mo_readAll_33 : decode b_Mo_readAll 33 = .ok (.getfield 149, 3) := by decide +kernel
theorem d_Mo_readAll_36 : decode b_Mo_readAll 36 = .ok (.imul, 1) := by decide +kernel
theorem d_Mo_readAll_37 : decode b_Mo_readAll 37 = .ok (.istore_n 1, 1) := by decide +kernel
theorem d_Mo_readAll_38 : decode b_Mo_readAll 38 = .ok (.iload_n 1, 1) := by decide +kernel
theorem d_Mo_readAll_39 : decode b_Mo_readAll 39 = .ok (.iconst 3, 1) := by decide +kernel
theorem d_Mo_readAll_40 : decode b_Mo_readAll 40 = .ok (.aload_n 0, 1) := by decide +kernel
theorem d_Mo_readAll_41 : decode b_Mo_readAll 41 = .ok (.getfield 149, 3) := by decide +kernel
theorem d_Mo_readAll_44 : decode b_Mo_readAll 44 = .ok (.imul, 1) := by decide +kernel
theorem d_Mo_readAll_45 : decode b_Mo_readAll 45 = .ok (.iconst 3, 1) := by decide +kernel
theorem d_Mo_readAll_46 : decode b_Mo_readAll 46 = .ok (.iadd, 1) := by decide +kernel
theorem d_Mo_readAll_47 : decode b_Mo_readAll 47 = .ok (.if_icmp .ge 23, 3) := by decide +kernel
theorem d_Mo_readAll_50 : decode b_Mo_readAll 50 = .ok (.aload_n 0, 1) := by decide +kernel
theorem d_Mo_readAll_51 : decode b_Mo_readAll 51 = .ok (.getfield 20, 3) := by decide +kernel
theorem d_Mo_readAll_54 : decode b_Mo_readAll 54 = .ok (.iload_n 1, 1) := by decide +kernel
theorem d_Mo_readAll_55 : decode b_Mo_readAll 55 = .ok (.iconst 0, 1) := by decide +kernel
theorem d_Mo_readAll_56 : decode b_Mo_readAll 56 = .ok (.iastore, 1) := by decide +kernel
theorem d_Mo_readAll_57 : decode b_Mo_readAll 57 = .ok (.aload_n 0, 1) := by decide +kernel
theorem d_Mo_readAll_58 : decode b_Mo_readAll 58 = .ok (.getfield 23, 3) := by decide +kernel
theorem d_Mo_readAll_61 : decode b_Mo_readAll 61 = .ok (.iload_n 1, 1) := by decide +kernel
theorem d_Mo_readAll_62 : decode b_Mo_readAll 62 = .ok (.iconst 0, 1) := by decide +kernel
theorem d_Mo_readAll_63 : decode b_Mo_readAll 63 = .ok (.iastore, 1) := by decide +kernel
theorem d_Mo_readAll_64 : decode b_Mo_readAll 64 = .ok (.iinc 1 1, 3) := by decide +kernel
theorem d_Mo_readAll_67 : decode b_Mo_readAll 67 = .ok (.goto (-29), 3) := by decide +kernel
theorem d_Mo_readAll_70 : decode b_Mo_readAll 70 = .ok (.aload_n 0, 1) := by decide +kernel
theorem d_Mo_readAll_71 : decode b_Mo_readAll 71 = .ok (.invokevirtual 146, 3) := by decide +kernel
theorem d_Mo_readAll_74 : decode b_Mo_readAll 74 = .ok (.ifCond .eq 12, 3) := by decide +kernel
theorem d_Mo_readAll_77 : decode b_Mo_readAll 77 = .ok (.aload_n 0, 1) := by decide +kernel
theorem d_Mo_readAll_78 : decode b_Mo_readAll 78 = .ok (.invokevirtual 185, 3) := by decide +kernel
theorem d_Mo_readAll_81 : decode b_Mo_readAll 81 = .ok (.ifCond .ne (-11), 3) := by decide +kernel
theorem d_Mo_readAll_84 : decode b_Mo_readAll 84 = .ok (.iconst 0, 1) := by decide +kernel
theorem d_Mo_readAll_85 : decode b_Mo_readAll 85 = .ok (.ireturn, 1) := by decide +kernel
theorem d_Mo_readAll_86 : decode b_Mo_readAll 86 = .ok (.aload_n 0, 1) := by decide +kernel
theorem d_Mo_readAll_87 : decode b_Mo_readAll 87 = .ok (.invokevirtual 131, 3) := by decide +kernel
theorem d_Mo_readAll_90 : decode b_Mo_readAll 90 = .ok (.bipush 43, 2) := by decide +kernel
theorem d_Mo_readAll_92 : decode b_Mo_readAll 92 = .ok (.if_icmp .eq 12, 3) := by decide +kernel
theorem d_Mo_readAll_95 : decode b_Mo_readAll 95 = .ok (.aload_n 0, 1) := by decide +kernel
theorem d_Mo_readAll_96 : decode b_Mo_readAll 96 = .ok (.invokevirtual 131, 3) := by decide +kernel
theorem d_Mo_readAll_99 : decode b_Mo_readAll 99 = .ok (.bipush 45, 2) := by decide +kernel
theorem d_Mo_readAll_101 : decode b_Mo_readAll 101 = .ok (.if_icmp .ne 12, 3) := by decide +kernel
theorem d_Mo_readAll_104 : decode b_Mo_readAll 104 = .ok (.aload_n 0, 1) := by decide +kernel
theorem d_Mo_readAll_105 : decode b_Mo_readAll 105 = .ok (.invokevirtual 188, 3) := by decide +kernel
theorem d_Mo_readAll_108 : decode b_Mo_readAll 108 = .ok (.ifCond .ne (-22), 3) := by decide +kernel
theorem d_Mo_readAll_111 : decode b_Mo_readAll 111 = .ok (.iconst 0, 1) := by decide +kernel
theorem d_Mo_readAll_112 : decode b_Mo_readAll 112 = .ok (.ireturn, 1) := by decide +kernel
theorem d_Mo_readAll_113 : decode b_Mo_readAll 113 = .ok (.aload_n 0, 1) := by decide +kernel
theorem d_Mo_readAll_114 : decode b_Mo_readAll 114 = .ok (.bipush 33, 2) := by decide +kernel
theorem d_Mo_readAll_116 : decode b_Mo_readAll 116 = .ok (.invokevirtual 156, 3) := by decide +kernel
theorem d_Mo_readAll_119 : decode b_Mo_readAll 119 = .ok (.ifCond .eq 38, 3) := by decide +kernel
theorem d_Mo_readAll_122 : decode b_Mo_readAll 122 = .ok (.aload_n 0, 1) := by decide +kernel
theorem d_Mo_readAll_123 : decode b_Mo_readAll 123 = .ok (.bipush 10, 2) := by decide +kernel
theorem d_Mo_readAll_125 : decode b_Mo_readAll 125 = .ok (.invokevirtual 179, 3) := by decide +kernel
theorem d_Mo_readAll_128 : decode b_Mo_readAll 128 = .ok (.ifCond .eq 29, 3) := by decide +kernel
theorem d_Mo_readAll_131 : decode b_Mo_readAll 131 = .ok (.aload_n 0, 1) := by decide +kernel
theorem d_Mo_readAll_132 : decode b_Mo_readAll 132 = .ok (.getfield 128, 3) := by decide +kernel
theorem d_Mo_readAll_135 : decode b_Mo_readAll 135 = .ok (.aload_n 0, 1) := by decide +kernel
theorem d_Mo_readAll_136 : decode b_Mo_readAll 136 = .ok (.getfield 119, 3) := by decide +kernel
theorem d_Mo_readAll_139 : decode b_Mo_readAll 139 = .ok (.if_icmp .eq 14, 3) := by decide +kernel
theorem d_Mo_readAll_142 : decode b_Mo_readAll 142 = .ok (.aload_n 0, 1) := by decide +kernel
theorem d_Mo_readAll_143 : decode b_Mo_readAll 143 = .ok (.aload_n 0, 1) := by decide +kernel
theorem d_Mo_readAll_144 : decode b_Mo_readAll 144 = .ok (.getfield 128, 3) := by decide +kernel
theorem d_Mo_readAll_147 : decode b_Mo_readAll 147 = .ok (.invokevirtual 135, 3) := by decide +kernel
theorem d_Mo_readAll_150 : decode b_Mo_readAll 150 = .ok (.ifCond .eq 7, 3) := by decide +kernel
theorem d_Mo_readAll_153 : decode b_Mo_readAll 153 = .ok (.iconst 1, 1) := by decide +kernel
theorem d_Mo_readAll_154 : decode b_Mo_readAll 154 = .ok (.goto 4, 3) := by decide +kernel
theorem d_Mo_readAll_157 : decode b_Mo_readAll 157 = .ok (.iconst 0, 1) := by decide +kernel
theorem d_Mo_readAll_158 : decode b_Mo_readAll 158 = .ok (.ireturn, 1) := by decide +kernel
theorem d_Mo_read_0 : decode b_Mo_read 0 = .ok (.aload_n 0, 1) := by decide +kernel
theorem d_Mo_read_1 : decode b_Mo_read 1 = .ok (.iconst 0, 1) := by decide +kernel
theorem d_Mo_read_2 : decode b_Mo_read 2 = .ok (.putfield 112, 3) := by decide +kernel
theorem d_Mo_read_5 : decode b_Mo_read 5 = .ok (.aload_n 0, 1) := by decide +kernel
theorem d_Mo_read_6 : decode b_Mo_read 6 = .ok (.invokevirtual 191, 3) := by decide +kernel
theorem d_Mo_read_9 : decode b_Mo_read 9 = .ok (.ifCond .ne 9, 3) := by decide +kernel
theorem d_Mo_read_12 : decode b_Mo_read 12 = .ok (.aload_n 0, 1) := by decide +kernel
theorem d_Mo_read_13 : decode b_Mo_read 13 = .ok (.iconst 1, 1) := by decide +kernel
theorem d_Mo_read_14 : decode b_Mo_read 14 = .ok (.invokevirtual 194, 3) := by decide +kernel
theorem d_Mo_read_17 : decode b_Mo_read 17 = .ok (.ireturn, 1) := by decide +kernel
theorem d_Mo_read_18 : decode b_Mo_read 18 = .ok (.aload_n 0, 1) := by decide +kernel
theorem d_Mo_read_19 : decode b_Mo_read 19 = .ok (.aload_n 0, 1) := by decide +kernel
theorem d_Mo_read_20 : decode b_Mo_read 20 = .ok (.getfield 149, 3) := by decide +kernel
theorem d_Mo_read_23 : decode b_Mo_read 23 = .ok (.putfield 17, 3) := by decide +kernel
theorem d_Mo_read_26 : decode b_Mo_read 26 = .ok (.aload_n 0, 1) := by decide +kernel
theorem d_Mo_read_27 : decode b_Mo_read 27 = .ok (.iconst 0, 1) := by decide +kernel
theorem d_Mo_read_28 : decode b_Mo_read 28 = .ok (.putfield 119, 3) := by decide +kernel
theorem d_Mo_read_31 : decode b_Mo_read 31 = .ok (.aload_n 0, 1) := by decide +kernel
theorem d_Mo_read_32 : decode b_Mo_read 32 = .ok (.iconst 0, 1) := by decide +kernel
theorem d_Mo_read_33 : decode b_Mo_read 33 = .ok (.putfield 198, 3) := by decide +kernel
theorem d_Mo_read_36 : decode b_Mo_read 36 = .ok (.aload_n 0, 1) := by decide +kernel
theorem d_Mo_read_37 : decode b_Mo_read 37 = .ok (.iconst (-1), 1) := by decide +kernel
theorem d_Mo_read_38 : decode b_Mo_read 38 = .ok (.putfield 57, 3) := by decide +kernel
theorem d_Mo_read_41 : decode b_Mo_read 41 = .ok (.aload_n 0, 1) := by decide +kernel
theorem d_Mo_read_42 : decode b_Mo_read 42 = .ok (.iconst 0, 1) := by decide +kernel
theorem d_Mo_read_43 : decode b_Mo_read 43 = .ok (.putfield 201, 3) := by decide +kernel
theorem d_Mo_read_46 : decode b_Mo_read 46 = .ok (.aload_n 0, 1) := by decide +kernel
theorem d_Mo_read_47 : decode b_Mo_read 47 = .ok (.getfield 26, 3) := by decide +kernel
theorem d_Mo_read_50 : decode b_Mo_read 50 = .ok (.aload_n 0, 1) := by decide +kernel
theorem d_Mo_read_51 : decode b_Mo_read 51 = .ok (.getfield 17, 3) := by decide +kernel
theorem d_Mo_read_54 : decode b_Mo_read 54 = .ok (.iaload, 1) := by decide +kernel
theorem d_Mo_read_55 : decode b_Mo_read 55 = .ok (.ireturn, 1) := by decide +kernel
theorem d_Mo_place_0 : decode b_Mo_place 0 = .ok (.aload_n 0, 1) := by decide +kernel
theorem d_Mo_place_1 : decode b_Mo_place 1 = .ok (.iconst 0, 1) := by decide +kernel
theorem d_Mo_place_2 : decode b_Mo_place 2 = .ok (.putfield 112, 3) := by decide +kernel
theorem d_Mo_place_5 : decode b_Mo_place 5 = .ok (.aload_n 0, 1) := by decide +kernel
theorem d_Mo_place_6 : decode b_Mo_place 6 = .ok (.getfield 13, 3) := by decide +kernel
theorem d_Mo_place_9 : decode b_Mo_place 9 = .ok (.ireturn, 1) := by decide +kernel
theorem d_Mo_sumIn_0 : decode b_Mo_sumIn 0 = .ok (.iconst 0, 1) := by decide +kernel
theorem d_Mo_sumIn_1 : decode b_Mo_sumIn 1 = .ok (.istore_n 3, 1) := by decide +kernel
theorem d_Mo_sumIn_2 : decode b_Mo_sumIn 2 = .ok (.iconst 4, 1) := by decide +kernel
theorem d_Mo_sumIn_3 : decode b_Mo_sumIn 3 = .ok (.iload_n 1, 1) := by decide +kernel
theorem d_Mo_sumIn_4 : decode b_Mo_sumIn 4 = .ok (.imul, 1) := by decide +kernel
theorem d_Mo_sumIn_5 : decode b_Mo_sumIn 5 = .ok (.istore 4, 2) := by decide +kernel
theorem d_Mo_sumIn_7 : decode b_Mo_sumIn 7 = .ok (.iload 4, 2) := by decide +kernel
theorem d_Mo_sumIn_9 : decode b_Mo_sumIn 9 = .ok (.iconst 4, 1) := by decide +kernel
theorem d_Mo_sumIn_10 : decode b_Mo_sumIn 10 = .ok (.iload_n 1, 1) := by decide +kernel
theorem d_Mo_sumIn_11 : decode b_Mo_sumIn 11 = .ok (.imul, 1) := by decide +kernel
theorem d_Mo_sumIn_12 : decode b_Mo_sumIn 12 = .ok (.aload_n 0, 1) := by decide +kernel
theorem d_Mo_sumIn_13 : decode b_Mo_sumIn 13 = .ok (.getfield 48, 3) := by decide +kernel
theorem d_Mo_sumIn_16 : decode b_Mo_sumIn 16 = .ok (.iload_n 1, 1) := by decide +kernel
theorem d_Mo_sumIn_17 : decode b_Mo_sumIn 17 = .ok (.iaload, 1) := by decide +kernel
theorem d_Mo_sumIn_18 : decode b_Mo_sumIn 18 = .ok (.iadd, 1) := by decide +kernel
theorem d_Mo_sumIn_19 : decode b_Mo_sumIn 19 = .ok (.if_icmp .ge 74, 3) := by decide +kernel
theorem d_Mo_sumIn_22 : decode b_Mo_sumIn 22 = .ok (.aload_n 0, 1) := by decide +kernel
theorem d_Mo_sumIn_23 : decode b_Mo_sumIn 23 = .ok (.getfield 51, 3) := by decide +kernel
theorem d_Mo_sumIn_26 : decode b_Mo_sumIn 26 = .ok (.iload 4, 2) := by decide +kernel
theorem d_Mo_sumIn_28 : decode b_Mo_sumIn 28 = .ok (.iaload, 1) := by decide +kernel
theorem d_Mo_sumIn_29 : decode b_Mo_sumIn 29 = .ok (.bipush 100, 2) := by decide +kernel
theorem d_Mo_sumIn_31 : decode b_Mo_sumIn 31 = .ok (.if_icmp .ge 13, 3) := by decide +kernel
theorem d_Mo_sumIn_34 : decode b_Mo_sumIn 34 = .ok (.aload_n 0, 1) := by decide +kernel
theorem d_Mo_sumIn_35 : decode b_Mo_sumIn 35 = .ok (.getfield 51, 3) := by decide +kernel
theorem d_Mo_sumIn_38 : decode b_Mo_sumIn 38 = .ok (.iload 4, 2) := by decide +kernel
theorem d_Mo_sumIn_40 : decode b_Mo_sumIn 40 = .ok (.iaload, 1) := by decide +kernel
theorem d_Mo_sumIn_41 : decode b_Mo_sumIn 41 = .ok (.goto 22, 3) := by decide +kernel
theorem d_Mo_sumIn_44 : decode b_Mo_sumIn 44 = .ok (.aload_n 0, 1) := by decide +kernel
theorem d_Mo_sumIn_45 : decode b_Mo_sumIn 45 = .ok (.getfield 60, 3) := by decide +kernel
theorem d_Mo_sumIn_48 : decode b_Mo_sumIn 48 = .ok (.iconst 3, 1) := by decide +kernel
theorem d_Mo_sumIn_49 : decode b_Mo_sumIn 49 = .ok (.iload_n 2, 1) := by decide +kernel
theorem d_Mo_sumIn_50 : decode b_Mo_sumIn 50 = .ok (.imul, 1) := by decide +kernel
theorem d_Mo_sumIn_51 : decode b_Mo_sumIn 51 = .ok (.aload_n 0, 1) := by decide +kernel
theorem d_Mo_sumIn_52 : decode b_Mo_sumIn 52 = .ok (.getfield 51, 3) := by decide +kernel
theorem d_Mo_sumIn_55 : decode b_Mo_sumIn 55 = .ok (.iload 4, 2) := by decide +kernel
theorem d_Mo_sumIn_57 : decode b_Mo_sumIn 57 = .ok (.iaload, 1) := by decide +kernel
theorem d_Mo_sumIn_58 : decode b_Mo_sumIn 58 = .ok (.iadd, 1) := by decide +kernel
theorem d_Mo_sumIn_59 : decode b_Mo_sumIn 59 = .ok (.bipush 100, 2) := by decide +kernel
theorem d_Mo_sumIn_61 : decode b_Mo_sumIn 61 = .ok (.isub, 1) := by decide +kernel
theorem d_Mo_sumIn_62 : decode b_Mo_sumIn 62 = .ok (.iaload, 1) := by decide +kernel
theorem d_Mo_sumIn_63 : decode b_Mo_sumIn 63 = .ok (.istore 5, 2) := by decide +kernel
theorem d_Mo_sumIn_65 : decode b_Mo_sumIn 65 = .ok (.aload_n 0, 1) := by decide +kernel
theorem d_Mo_sumIn_66 : decode b_Mo_sumIn 66 = .ok (.getfield 54, 3) := by decide +kernel
theorem d_Mo_sumIn_69 : decode b_Mo_sumIn 69 = .ok (.iload 4, 2) := by decide +kernel
theorem d_Mo_sumIn_71 : decode b_Mo_sumIn 71 = .ok (.baload, 1) := by decide +kernel
theorem d_Mo_sumIn_72 : decode b_Mo_sumIn 72 = .ok (.ifCond .eq 10, 3) := by decide +kernel
theorem d_Mo_sumIn_75 : decode b_Mo_sumIn 75 = .ok (.iload_n 3, 1) := by decide +kernel
theorem d_Mo_sumIn_76 : decode b_Mo_sumIn 76 = .ok (.iload 5, 2) := by decide +kernel
theorem d_Mo_sumIn_78 : decode b_Mo_sumIn 78 = .ok (.isub, 1) := by decide +kernel
theorem d_Mo_sumIn_79 : decode b_Mo_sumIn 79 = .ok (.goto 7, 3) := by decide +kernel
theorem d_Mo_sumIn_82 : decode b_Mo_sumIn 82 = .ok (.iload_n 3, 1) := by decide +kernel
theorem d_Mo_sumIn_83 : decode b_Mo_sumIn 83 = .ok (.iload 5, 2) := by decide +kernel
theorem d_Mo_sumIn_85 : decode b_Mo_sumIn 85 = .ok (.iadd, 1) := by decide +kernel
theorem d_Mo_sumIn_86 : decode b_Mo_sumIn 86 = .ok (.istore_n 3, 1) := by decide +kernel
theorem d_Mo_sumIn_87 : decode b_Mo_sumIn 87 = .ok (.iinc 4 1, 3) := by decide +kernel
theorem d_Mo_sumIn_90 : decode b_Mo_sumIn 90 = .ok (.goto (-83), 3) := by decide +kernel
theorem d_Mo_sumIn_93 : decode b_Mo_sumIn 93 = .ok (.iload_n 3, 1) := by decide +kernel
theorem d_Mo_sumIn_94 : decode b_Mo_sumIn 94 = .ok (.ireturn, 1) := by decide +kernel
theorem d_Mo_holds_0 : decode b_Mo_holds 0 = .ok (.iconst 1, 1) := by decide +kernel
theorem d_Mo_holds_1 : decode b_Mo_holds 1 = .ok (.istore_n 3, 1) := by decide +kernel
theorem d_Mo_holds_2 : decode b_Mo_holds 2 = .ok (.iconst 0, 1) := by decide +kernel
theorem d_Mo_holds_3 : decode b_Mo_holds 3 = .ok (.istore 4, 2) := by decide +kernel
theorem d_Mo_holds_5 : decode b_Mo_holds 5 = .ok (.iload 4, 2) := by decide +kernel
theorem d_Mo_holds_7 : decode b_Mo_holds 7 = .ok (.aload_n 0, 1) := by decide +kernel
theorem d_Mo_holds_8 : decode b_Mo_holds 8 = .ok (.getfield 42, 3) := by decide +kernel
theorem d_Mo_holds_11 : decode b_Mo_holds 11 = .ok (.bipush 11, 2) := by decide +kernel
theorem d_Mo_holds_13 : decode b_Mo_holds 13 = .ok (.aload_n 0, 1) := by decide +kernel
theorem d_Mo_holds_14 : decode b_Mo_holds 14 = .ok (.getfield 17, 3) := by decide +kernel
theorem d_Mo_holds_17 : decode b_Mo_holds 17 = .ok (.imul, 1) := by decide +kernel
theorem d_Mo_holds_18 : decode b_Mo_holds 18 = .ok (.iload_n 1, 1) := by decide +kernel
theorem d_Mo_holds_19 : decode b_Mo_holds 19 = .ok (.iadd, 1) := by decide +kernel
theorem d_Mo_holds_20 : decode b_Mo_holds 20 = .ok (.iaload, 1) := by decide +kernel
theorem d_Mo_holds_21 : decode b_Mo_holds 21 = .ok (.if_icmp .ge 138, 3) := by decide +kernel
theorem d_Mo_holds_24 : decode b_Mo_holds 24 = .ok (.sipush 208, 3) := by decide +kernel
theorem d_Mo_holds_27 : decode b_Mo_holds 27 = .ok (.aload_n 0, 1) := by decide +kernel
theorem d_Mo_holds_28 : decode b_Mo_holds 28 = .ok (.getfield 17, 3) := by decide +kernel
theorem d_Mo_holds_31 : decode b_Mo_holds 31 = .ok (.imul, 1) := by decide +kernel
theorem d_Mo_holds_32 : decode b_Mo_holds 32 = .ok (.bipush 8, 2) := by decide +kernel
theorem d_Mo_holds_34 : decode b_Mo_holds 34 = .ok (.iload_n 1, 1) := by decide +kernel
theorem d_Mo_holds_35 : decode b_Mo_holds 35 = .ok (.imul, 1) := by decide +kernel
theorem d_Mo_holds_36 : decode b_Mo_holds 36 = .ok (.iadd, 1) := by decide +kernel
theorem d_Mo_holds_37 : decode b_Mo_holds 37 = .ok (.iconst 2, 1) := by decide +kernel
theorem d_Mo_holds_38 : decode b_Mo_holds 38 = .ok (.iload 4, 2) := by decide +kernel
theorem d_Mo_holds_40 : decode b_Mo_holds 40 = .ok (.imul, 1) := by decide +kernel
theorem d_Mo_holds_41 : decode b_Mo_holds 41 = .ok (.iadd, 1) := by decide +kernel
theorem d_Mo_holds_42 : decode b_Mo_holds 42 = .ok (.istore 5, 2) := by decide +kernel
theorem d_Mo_holds_44 : decode b_Mo_holds 44 = .ok (.aload_n 0, 1) := by decide +kernel
theorem d_Mo_holds_45 : decode b_Mo_holds 45 = .ok (.iload 5, 2) := by decide +kernel
theorem d_Mo_holds_47 : decode b_Mo_holds 47 = .ok (.iload_n 2, 1) := by decide +kernel
theorem d_Mo_holds_48 : decode b_Mo_holds 48 = .ok (.invokevirtual 205, 3) := by decide +kernel
theorem d_Mo_holds_51 : decode b_Mo_holds 51 = .ok (.istore 6, 2) := by decide +kernel
theorem d_Mo_holds_53 : decode b_Mo_holds 53 = .ok (.aload_n 0, 1) := by decide +kernel
theorem d_Mo_holds_54 : decode b_Mo_holds 54 = .ok (.iload 5, 2) := by decide +kernel
theorem d_Mo_holds_56 : decode b_Mo_holds 56 = .ok (.iconst 1, 1) := by decide +kernel
theorem d_Mo_holds_57 : decode b_Mo_holds 57 = .ok (.iadd, 1) := by decide +kernel
theorem d_Mo_holds_58 : decode b_Mo_holds 58 = .ok (.iload_n 2, 1) := by decide +kernel
theorem d_Mo_holds_59 : decode b_Mo_holds 59 = .ok (.invokevirtual 205, 3) := by decide +kernel
theorem d_Mo_holds_62 : decode b_Mo_holds 62 = .ok (.istore 7, 2) := by decide +kernel
theorem d_Mo_holds_64 : decode b_Mo_holds 64 = .ok (.aload_n 0, 1) := by decide +kernel
theorem d_Mo_holds_65 : decode b_Mo_holds 65 = .ok (.getfield 45, 3) := by decide +kernel
theorem d_Mo_holds_68 : decode b_Mo_holds 68 = .ok (.bipush 44, 2) := by decide +kernel
