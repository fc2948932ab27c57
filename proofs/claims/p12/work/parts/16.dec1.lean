theorem d_Rd_readCommand_133 : decode b_Rd_readCommand 133 = .ok (.iinc 3 1, 3) := by decide +kernel
theorem d_Rd_readCommand_136 : decode b_Rd_readCommand 136 = .ok (.goto (-80), 3) := by decide +kernel
theorem d_Rd_readCommand_139 : decode b_Rd_readCommand 139 = .ok (.aload_n 0, 1) := by decide +kernel
theorem d_Rd_readCommand_140 : decode b_Rd_readCommand 140 = .ok (.bipush 59, 2) := by decide +kernel
theorem d_Rd_readCommand_142 : decode b_Rd_readCommand 142 = .ok (.invokevirtual 60, 3) := by decide +kernel
theorem d_Rd_readCommand_145 : decode b_Rd_readCommand 145 = .ok (.return_, 1) := by decide +kernel
theorem d_Rd_readInPlaceOf_0 : decode b_Rd_readInPlaceOf 0 = .ok (.aload_n 0, 1) := by decide +kernel
theorem d_Rd_readInPlaceOf_1 : decode b_Rd_readInPlaceOf 1 = .ok (.iconst 0, 1) := by decide +kernel
theorem d_Rd_readInPlaceOf_2 : decode b_Rd_readInPlaceOf 2 = .ok (.putfield 25, 3) := by decide +kernel
theorem d_Rd_readInPlaceOf_5 : decode b_Rd_readInPlaceOf 5 = .ok (.aload_n 0, 1) := by decide +kernel
theorem d_Rd_readInPlaceOf_6 : decode b_Rd_readInPlaceOf 6 = .ok (.getfield 21, 3) := by decide +kernel
theorem d_Rd_readInPlaceOf_9 : decode b_Rd_readInPlaceOf 9 = .ok (.invokevirtual 32, 3) := by decide +kernel
theorem d_Rd_readInPlaceOf_12 : decode b_Rd_readInPlaceOf 12 = .ok (.iconst 0, 1) := by decide +kernel
theorem d_Rd_readInPlaceOf_13 : decode b_Rd_readInPlaceOf 13 = .ok (.istore_n 2, 1) := by decide +kernel
theorem d_Rd_readInPlaceOf_14 : decode b_Rd_readInPlaceOf 14 = .ok (.iload_n 2, 1) := by decide +kernel
theorem d_Rd_readInPlaceOf_15 : decode b_Rd_readInPlaceOf 15 = .ok (.iconst 3, 1) := by decide +kernel
theorem d_Rd_readInPlaceOf_16 : decode b_Rd_readInPlaceOf 16 = .ok (.if_icmp .ge 23, 3) := by decide +kernel
theorem d_Rd_readInPlaceOf_19 : decode b_Rd_readInPlaceOf 19 = .ok (.aload_n 0, 1) := by decide +kernel
theorem d_Rd_readInPlaceOf_20 : decode b_Rd_readInPlaceOf 20 = .ok (.invokevirtual 35, 3) := by decide +kernel
theorem d_Rd_readInPlaceOf_23 : decode b_Rd_readInPlaceOf 23 = .ok (.invokestatic 39, 3) := by decide +kernel
theorem d_Rd_readInPlaceOf_26 : decode b_Rd_readInPlaceOf 26 = .ok (.ifCond .eq 13, 3) := by decide +kernel
theorem d_Rd_readInPlaceOf_29 : decode b_Rd_readInPlaceOf 29 = .ok (.aload_n 0, 1) := by decide +kernel
theorem d_Rd_readInPlaceOf_30 : decode b_Rd_readInPlaceOf 30 = .ok (.invokevirtual 43, 3) := by decide +kernel
theorem d_Rd_readInPlaceOf_33 : decode b_Rd_readInPlaceOf 33 = .ok (.iinc 2 1, 3) := by decide +kernel
theorem d_Rd_readInPlaceOf_36 : decode b_Rd_readInPlaceOf 36 = .ok (.goto (-22), 3) := by decide +kernel
theorem d_Rd_readInPlaceOf_39 : decode b_Rd_readInPlaceOf 39 = .ok (.iconst 0, 1) := by decide +kernel
theorem d_Rd_readInPlaceOf_40 : decode b_Rd_readInPlaceOf 40 = .ok (.istore_n 2, 1) := by decide +kernel
theorem d_Rd_readInPlaceOf_41 : decode b_Rd_readInPlaceOf 41 = .ok (.iload_n 2, 1) := by decide +kernel
theorem d_Rd_readInPlaceOf_42 : decode b_Rd_readInPlaceOf 42 = .ok (.bipush 10, 2) := by decide +kernel
theorem d_Rd_readInPlaceOf_44 : decode b_Rd_readInPlaceOf 44 = .ok (.if_icmp .ge 45, 3) := by decide +kernel
theorem d_Rd_readInPlaceOf_47 : decode b_Rd_readInPlaceOf 47 = .ok (.aload_n 0, 1) := by decide +kernel
theorem d_Rd_readInPlaceOf_48 : decode b_Rd_readInPlaceOf 48 = .ok (.invokevirtual 35, 3) := by decide +kernel
theorem d_Rd_readInPlaceOf_51 : decode b_Rd_readInPlaceOf 51 = .ok (.invokestatic 46, 3) := by decide +kernel
theorem d_Rd_readInPlaceOf_54 : decode b_Rd_readInPlaceOf 54 = .ok (.ifCond .eq 35, 3) := by decide +kernel
theorem d_Rd_readInPlaceOf_57 : decode b_Rd_readInPlaceOf 57 = .ok (.aload_n 0, 1) := by decide +kernel
theorem d_Rd_readInPlaceOf_58 : decode b_Rd_readInPlaceOf 58 = .ok (.aload_n 0, 1) := by decide +kernel
theorem d_Rd_readInPlaceOf_59 : decode b_Rd_readInPlaceOf 59 = .ok (.getfield 21, 3) := by decide +kernel
theorem d_Rd_readInPlaceOf_62 : decode b_Rd_readInPlaceOf 62 = .ok (.getfield 49, 3) := by decide +kernel
theorem d_Rd_readInPlaceOf_65 : decode b_Rd_readInPlaceOf 65 = .ok (.iload_n 2, 1) := by decide +kernel
theorem d_Rd_readInPlaceOf_66 : decode b_Rd_readInPlaceOf 66 = .ok (.aaload, 1) := by decide +kernel
theorem d_Rd_readInPlaceOf_67 : decode b_Rd_readInPlaceOf 67 = .ok (.invokevirtual 53, 3) := by decide +kernel
theorem d_Rd_readInPlaceOf_70 : decode b_Rd_readInPlaceOf 70 = .ok (.aload_n 0, 1) := by decide +kernel
theorem d_Rd_readInPlaceOf_71 : decode b_Rd_readInPlaceOf 71 = .ok (.getfield 21, 3) := by decide +kernel
theorem d_Rd_readInPlaceOf_74 : decode b_Rd_readInPlaceOf 74 = .ok (.dup, 1) := by decide +kernel
theorem d_Rd_readInPlaceOf_75 : decode b_Rd_readInPlaceOf 75 = .ok (.getfield 57, 3) := by decide +kernel
theorem d_Rd_readInPlaceOf_78 : decode b_Rd_readInPlaceOf 78 = .ok (.iconst 1, 1) := by decide +kernel
theorem d_Rd_readInPlaceOf_79 : decode b_Rd_readInPlaceOf 79 = .ok (.iadd, 1) := by decide +kernel
theorem d_Rd_readInPlaceOf_80 : decode b_Rd_readInPlaceOf 80 = .ok (.putfield 57, 3) := by decide +kernel
theorem d_Rd_readInPlaceOf_83 : decode b_Rd_readInPlaceOf 83 = .ok (.iinc 2 1, 3) := by decide +kernel
theorem d_Rd_readInPlaceOf_86 : decode b_Rd_readInPlaceOf 86 = .ok (.goto (-45), 3) := by decide +kernel
theorem d_Rd_readInPlaceOf_89 : decode b_Rd_readInPlaceOf 89 = .ok (.aload_n 0, 1) := by decide +kernel
theorem d_Rd_readInPlaceOf_90 : decode b_Rd_readInPlaceOf 90 = .ok (.bipush 33, 2) := by decide +kernel
theorem d_Rd_readInPlaceOf_92 : decode b_Rd_readInPlaceOf 92 = .ok (.invokevirtual 60, 3) := by decide +kernel
theorem d_Rd_readInPlaceOf_95 : decode b_Rd_readInPlaceOf 95 = .ok (.aload_n 0, 1) := by decide +kernel
theorem d_Rd_readInPlaceOf_96 : decode b_Rd_readInPlaceOf 96 = .ok (.aload_n 0, 1) := by decide +kernel
theorem d_Rd_readInPlaceOf_97 : decode b_Rd_readInPlaceOf 97 = .ok (.getfield 21, 3) := by decide +kernel
theorem d_Rd_readInPlaceOf_100 : decode b_Rd_readInPlaceOf 100 = .ok (.getfield 64, 3) := by decide +kernel
theorem d_Rd_readInPlaceOf_103 : decode b_Rd_readInPlaceOf 103 = .ok (.invokevirtual 68, 3) := by decide +kernel
theorem d_Rd_readInPlaceOf_106 : decode b_Rd_readInPlaceOf 106 = .ok (.aload_n 0, 1) := by decide +kernel
theorem d_Rd_readInPlaceOf_107 : decode b_Rd_readInPlaceOf 107 = .ok (.getfield 25, 3) := by decide +kernel
theorem d_Rd_readInPlaceOf_110 : decode b_Rd_readInPlaceOf 110 = .ok (.aload_n 0, 1) := by decide +kernel
theorem d_Rd_readInPlaceOf_111 : decode b_Rd_readInPlaceOf 111 = .ok (.getfield 12, 3) := by decide +kernel
theorem d_Rd_readInPlaceOf_114 : decode b_Rd_readInPlaceOf 114 = .ok (.getfield 72, 3) := by decide +kernel
theorem d_Rd_readInPlaceOf_117 : decode b_Rd_readInPlaceOf 117 = .ok (.if_icmp .ge 11, 3) := by decide +kernel
theorem d_Rd_readInPlaceOf_120 : decode b_Rd_readInPlaceOf 120 = .ok (.aload_n 0, 1) := by decide +kernel
theorem d_Rd_readInPlaceOf_121 : decode b_Rd_readInPlaceOf 121 = .ok (.aload_n 0, 1) := by decide +kernel
theorem d_Rd_readInPlaceOf_122 : decode b_Rd_readInPlaceOf 122 = .ok (.getfield 25, 3) := by decide +kernel
theorem d_Rd_readInPlaceOf_125 : decode b_Rd_readInPlaceOf 125 = .ok (.invokevirtual 75, 3) := by decide +kernel
theorem d_Rd_readInPlaceOf_128 : decode b_Rd_readInPlaceOf 128 = .ok (.aload_n 0, 1) := by decide +kernel
theorem d_Rd_readInPlaceOf_129 : decode b_Rd_readInPlaceOf 129 = .ok (.getfield 21, 3) := by decide +kernel
theorem d_Rd_readInPlaceOf_132 : decode b_Rd_readInPlaceOf 132 = .ok (.astore_n 2, 1) := by decide +kernel
theorem d_Rd_readInPlaceOf_133 : decode b_Rd_readInPlaceOf 133 = .ok (.aload_n 0, 1) := by decide +kernel
theorem d_Rd_readInPlaceOf_134 : decode b_Rd_readInPlaceOf 134 = .ok (.aload_n 1, 1) := by decide +kernel
theorem d_Rd_readInPlaceOf_135 : decode b_Rd_readInPlaceOf 135 = .ok (.putfield 21, 3) := by decide +kernel
theorem d_Rd_readInPlaceOf_138 : decode b_Rd_readInPlaceOf 138 = .ok (.aload_n 2, 1) := by decide +kernel
theorem d_Rd_readInPlaceOf_139 : decode b_Rd_readInPlaceOf 139 = .ok (.areturn, 1) := by decide +kernel
theorem d_Fo_clear_0 : decode b_Fo_clear 0 = .ok (.aload_n 0, 1) := by decide +kernel
theorem d_Fo_clear_1 : decode b_Fo_clear 1 = .ok (.iconst 0, 1) := by decide +kernel
theorem d_Fo_clear_2 : decode b_Fo_clear 2 = .ok (.putfield 18, 3) := by decide +kernel
theorem d_Fo_clear_5 : decode b_Fo_clear 5 = .ok (.aload_n 0, 1) := by decide +kernel
theorem d_Fo_clear_6 : decode b_Fo_clear 6 = .ok (.iconst 0, 1) := by decide +kernel
theorem d_Fo_clear_7 : decode b_Fo_clear 7 = .ok (.putfield 28, 3) := by decide +kernel
theorem d_Fo_clear_10 : decode b_Fo_clear 10 = .ok (.aload_n 0, 1) := by decide +kernel
theorem d_Fo_clear_11 : decode b_Fo_clear 11 = .ok (.iconst 0, 1) := by decide +kernel
theorem d_Fo_clear_12 : decode b_Fo_clear 12 = .ok (.putfield 25, 3) := by decide +kernel
theorem d_Fo_clear_15 : decode b_Fo_clear 15 = .ok (.aload_n 0, 1) := by decide +kernel
theorem d_Fo_clear_16 : decode b_Fo_clear 16 = .ok (.iconst (-1), 1) := by decide +kernel
theorem d_Fo_clear_17 : decode b_Fo_clear 17 = .ok (.putfield 22, 3) := by decide +kernel
theorem d_Fo_clear_20 : decode b_Fo_clear 20 = .ok (.return_, 1) := by decide +kernel
theorem d_Fo_begin_0 : decode b_Fo_begin 0 = .ok (.aload_n 0, 1) := by decide +kernel
theorem d_Fo_begin_1 : decode b_Fo_begin 1 = .ok (.aload_n 1, 1) := by decide +kernel
theorem d_Fo_begin_2 : decode b_Fo_begin 2 = .ok (.putfield 12, 3) := by decide +kernel
theorem d_Fo_begin_5 : decode b_Fo_begin 5 = .ok (.aload_n 0, 1) := by decide +kernel
theorem d_Fo_begin_6 : decode b_Fo_begin 6 = .ok (.invokevirtual 52, 3) := by decide +kernel
theorem d_Fo_begin_9 : decode b_Fo_begin 9 = .ok (.return_, 1) := by decide +kernel
theorem d_CG_read_0 : decode b_CG_read 0 = .ok (.aload_n 0, 1) := by decide +kernel
theorem d_CG_read_1 : decode b_CG_read 1 = .ok (.getfield 32, 3) := by decide +kernel
theorem d_CG_read_4 : decode b_CG_read 4 = .ok (.aload_n 0, 1) := by decide +kernel
theorem d_CG_read_5 : decode b_CG_read 5 = .ok (.getfield 12, 3) := by decide +kernel
theorem d_CG_read_8 : decode b_CG_read 8 = .ok (.aload_n 0, 1) := by decide +kernel
theorem d_CG_read_9 : decode b_CG_read 9 = .ok (.getfield 32, 3) := by decide +kernel
theorem d_CG_read_12 : decode b_CG_read 12 = .ok (.getfield 57, 3) := by decide +kernel
theorem d_CG_read_15 : decode b_CG_read 15 = .ok (.invokevirtual 63, 3) := by decide +kernel
theorem d_CG_read_18 : decode b_CG_read 18 = .ok (.invokevirtual 67, 3) := by decide +kernel
theorem d_CG_read_21 : decode b_CG_read 21 = .ok (.aload_n 0, 1) := by decide +kernel
theorem d_CG_read_22 : decode b_CG_read 22 = .ok (.iconst 1, 1) := by decide +kernel
theorem d_CG_read_23 : decode b_CG_read 23 = .ok (.putfield 40, 3) := by decide +kernel
theorem d_CG_read_26 : decode b_CG_read 26 = .ok (.aload_n 0, 1) := by decide +kernel
theorem d_CG_read_27 : decode b_CG_read 27 = .ok (.iconst 0, 1) := by decide +kernel
theorem d_CG_read_28 : decode b_CG_read 28 = .ok (.putfield 44, 3) := by decide +kernel
theorem d_CG_read_31 : decode b_CG_read 31 = .ok (.aload_n 0, 1) := by decide +kernel
theorem d_CG_read_32 : decode b_CG_read 32 = .ok (.getfield 20, 3) := by decide +kernel
theorem d_CG_read_35 : decode b_CG_read 35 = .ok (.invokevirtual 53, 3) := by decide +kernel
theorem d_CG_read_38 : decode b_CG_read 38 = .ok (.pop, 1) := by decide +kernel
theorem d_CG_read_39 : decode b_CG_read 39 = .ok (.aload_n 0, 1) := by decide +kernel
theorem d_CG_read_40 : decode b_CG_read 40 = .ok (.getfield 32, 3) := by decide +kernel
theorem d_CG_read_43 : decode b_CG_read 43 = .ok (.getfield 57, 3) := by decide +kernel
theorem d_CG_read_46 : decode b_CG_read 46 = .ok (.getfield 71, 3) := by decide +kernel
theorem d_CG_read_49 : decode b_CG_read 49 = .ok (.ireturn, 1) := by decide +kernel
theorem d_CG_place_0 : decode b_CG_place 0 = .ok (.aload_n 0, 1) := by decide +kernel
theorem d_CG_place_1 : decode b_CG_place 1 = .ok (.getfield 12, 3) := by decide +kernel
theorem d_CG_place_4 : decode b_CG_place 4 = .ok (.getfield 77, 3) := by decide +kernel
theorem d_CG_place_7 : decode b_CG_place 7 = .ok (.ireturn, 1) := by decide +kernel
theorem d_Gm_commandsOfMax_0 : decode b_Gm_commandsOfMax 0 = .ok (.iconst 0, 1) := by decide +kernel
theorem d_Gm_commandsOfMax_1 : decode b_Gm_commandsOfMax 1 = .ok (.istore_n 1, 1) := by decide +kernel
theorem d_Gm_commandsOfMax_2 : decode b_Gm_commandsOfMax 2 = .ok (.iconst 0, 1) := by decide +kernel
theorem d_Gm_commandsOfMax_3 : decode b_Gm_commandsOfMax 3 = .ok (.istore_n 2, 1) := by decide +kernel
theorem d_Gm_commandsOfMax_4 : decode b_Gm_commandsOfMax 4 = .ok (.iload_n 2, 1) := by decide +kernel
theorem d_Gm_commandsOfMax_5 : decode b_Gm_commandsOfMax 5 = .ok (.aload_n 0, 1) := by decide +kernel
theorem d_Gm_commandsOfMax_6 : decode b_Gm_commandsOfMax 6 = .ok (.getfield 31, 3) := by decide +kernel
theorem d_Gm_commandsOfMax_9 : decode b_Gm_commandsOfMax 9 = .ok (.if_icmp .ge 27, 3) := by decide +kernel
theorem d_Gm_commandsOfMax_12 : decode b_Gm_commandsOfMax 12 = .ok (.aload_n 0, 1) := by decide +kernel
theorem d_Gm_commandsOfMax_13 : decode b_Gm_commandsOfMax 13 = .ok (.getfield 20, 3) := by decide +kernel
theorem d_Gm_commandsOfMax_16 : decode b_Gm_commandsOfMax 16 = .ok (.iload_n 2, 1) := by decide +kernel
theorem d_Gm_commandsOfMax_17 : decode b_Gm_commandsOfMax 17 = .ok (.aaload, 1) := by decide +kernel
theorem d_Gm_commandsOfMax_18 : decode b_Gm_commandsOfMax 18 = .ok (.getfield 43, 3) := by decide +kernel
theorem d_Gm_commandsOfMax_21 : decode b_Gm_commandsOfMax 21 = .ok (.ifCond .eq 9, 3) := by decide +kernel
theorem d_Gm_commandsOfMax_24 : decode b_Gm_commandsOfMax 24 = .ok (.iload_n 1, 1) := by decide +kernel
theorem d_Gm_commandsOfMax_25 : decode b_Gm_commandsOfMax 25 = .ok (.iconst 1, 1) := by decide +kernel
theorem d_Gm_commandsOfMax_26 : decode b_Gm_commandsOfMax 26 = .ok (.iload_n 2, 1) := by decide +kernel
theorem d_Gm_commandsOfMax_27 : decode b_Gm_commandsOfMax 27 = .ok (.ishl, 1) := by decide +kernel
theorem d_Gm_commandsOfMax_28 : decode b_Gm_commandsOfMax 28 = .ok (.ior, 1) := by decide +kernel
theorem d_Gm_commandsOfMax_29 : decode b_Gm_commandsOfMax 29 = .ok (.istore_n 1, 1) := by decide +kernel
theorem d_Gm_commandsOfMax_30 : decode b_Gm_commandsOfMax 30 = .ok (.iinc 2 1, 3) := by decide +kernel
theorem d_Gm_commandsOfMax_33 : decode b_Gm_commandsOfMax 33 = .ok (.goto (-29), 3) := by decide +kernel
theorem d_Gm_commandsOfMax_36 : decode b_Gm_commandsOfMax 36 = .ok (.iload_n 1, 1) := by decide +kernel
theorem d_Gm_commandsOfMax_37 : decode b_Gm_commandsOfMax 37 = .ok (.ireturn, 1) := by decide +kernel
theorem d_CG_sumAt_0 : decode b_CG_sumAt 0 = .ok (.aload_n 0, 1) := by decide +kernel
theorem d_CG_sumAt_1 : decode b_CG_sumAt 1 = .ok (.iload_n 1, 1) := by decide +kernel
theorem d_CG_sumAt_2 : decode b_CG_sumAt 2 = .ok (.iconst 3, 1) := by decide +kernel
theorem d_CG_sumAt_3 : decode b_CG_sumAt 3 = .ok (.iadd, 1) := by decide +kernel
theorem d_CG_sumAt_4 : decode b_CG_sumAt 4 = .ok (.iaload, 1) := by decide +kernel
theorem d_CG_sumAt_5 : decode b_CG_sumAt 5 = .ok (.istore_n 3, 1) := by decide +kernel
theorem d_CG_sumAt_6 : decode b_CG_sumAt 6 = .ok (.iconst 0, 1) := by decide +kernel
theorem d_CG_sumAt_7 : decode b_CG_sumAt 7 = .ok (.istore 4, 2) := by decide +kernel
theorem d_CG_sumAt_9 : decode b_CG_sumAt 9 = .ok (.iload 4, 2) := by decide +kernel
theorem d_CG_sumAt_11 : decode b_CG_sumAt 11 = .ok (.iconst 3, 1) := by decide +kernel
theorem d_CG_sumAt_12 : decode b_CG_sumAt 12 = .ok (.if_icmp .ge 23, 3) := by decide +kernel
theorem d_CG_sumAt_15 : decode b_CG_sumAt 15 = .ok (.iload_n 3, 1) := by decide +kernel
theorem d_CG_sumAt_16 : decode b_CG_sumAt 16 = .ok (.aload_n 0, 1) := by decide +kernel
theorem d_CG_sumAt_17 : decode b_CG_sumAt 17 = .ok (.iload_n 1, 1) := by decide +kernel
theorem d_CG_sumAt_18 : decode b_CG_sumAt 18 = .ok (.iload 4, 2) := by decide +kernel
theorem d_CG_sumAt_20 : decode b_CG_sumAt 20 = .ok (.iadd, 1) := by decide +kernel
theorem d_CG_sumAt_21 : decode b_CG_sumAt 21 = .ok (.iaload, 1) := by decide +kernel
theorem d_CG_sumAt_22 : decode b_CG_sumAt 22 = .ok (.aload_n 2, 1) := by decide +kernel
theorem d_CG_sumAt_23 : decode b_CG_sumAt 23 = .ok (.iload 4, 2) := by decide +kernel
theorem d_CG_sumAt_25 : decode b_CG_sumAt 25 = .ok (.iaload, 1) := by decide +kernel
theorem d_CG_sumAt_26 : decode b_CG_sumAt 26 = .ok (.imul, 1) := by decide +kernel
theorem d_CG_sumAt_27 : decode b_CG_sumAt 27 = .ok (.iadd, 1) := by decide +kernel
theorem d_CG_sumAt_28 : decode b_CG_sumAt 28 = .ok (.istore_n 3, 1) := by decide +kernel
theorem d_CG_sumAt_29 : decode b_CG_sumAt 29 = .ok (.iinc 4 1, 3) := by decide +kernel
theorem d_CG_sumAt_32 : decode b_CG_sumAt 32 = .ok (.goto (-23), 3) := by decide +kernel
theorem d_CG_sumAt_35 : decode b_CG_sumAt 35 = .ok (.iload_n 3, 1) := by decide +kernel
theorem d_CG_sumAt_36 : decode b_CG_sumAt 36 = .ok (.ireturn, 1) := by decide +kernel
theorem d_Gu_isAsSaid_0 : decode b_Gu_isAsSaid 0 = .ok (.iload_n 0, 1) := by decide +kernel
theorem d_Gu_isAsSaid_1 : decode b_Gu_isAsSaid 1 = .ok (.bipush 60, 2) := by decide +kernel
theorem d_Gu_isAsSaid_3 : decode b_Gu_isAsSaid 3 = .ok (.if_icmp .ne 13, 3) := by decide +kernel
theorem d_Gu_isAsSaid_6 : decode b_Gu_isAsSaid 6 = .ok (.iload_n 1, 1) := by decide +kernel
theorem d_Gu_isAsSaid_7 : decode b_Gu_isAsSaid 7 = .ok (.ifCond .ge 7, 3) := by decide +kernel
theorem d_Gu_isAsSaid_10 : decode b_Gu_isAsSaid 10 = .ok (.iconst 1, 1) := by decide +kernel
theorem d_Gu_isAsSaid_11 : decode b_Gu_isAsSaid 11 = .ok (.goto 4, 3) := by decide +kernel
theorem d_Gu_isAsSaid_14 : decode b_Gu_isAsSaid 14 = .ok (.iconst 0, 1) := by decide +kernel
theorem d_Gu_isAsSaid_15 : decode b_Gu_isAsSaid 15 = .ok (.ireturn, 1) := by decide +kernel
theorem d_Gu_isAsSaid_16 : decode b_Gu_isAsSaid 16 = .ok (.iload_n 0, 1) := by decide +kernel
theorem d_Gu_isAsSaid_17 : decode b_Gu_isAsSaid 17 = .ok (.bipush 62, 2) := by decide +kernel
theorem d_Gu_isAsSaid_19 : decode b_Gu_isAsSaid 19 = .ok (.if_icmp .ne 13, 3) := by decide +kernel
theorem d_Gu_isAsSaid_22 : decode b_Gu_isAsSaid 22 = .ok (.iload_n 1, 1) := by decide +kernel
theorem d_Gu_isAsSaid_23 : decode b_Gu_isAsSaid 23 = .ok (.ifCond .le 7, 3) := by decide +kernel
theorem d_Gu_isAsSaid_26 : decode b_Gu_isAsSaid 26 = .ok (.iconst 1, 1) := by decide +kernel
theorem d_Gu_isAsSaid_27 : decode b_Gu_isAsSaid 27 = .ok (.goto 4, 3) := by decide +kernel
theorem d_Gu_isAsSaid_30 : decode b_Gu_isAsSaid 30 = .ok (.iconst 0, 1) := by decide +kernel
theorem d_Gu_isAsSaid_31 : decode b_Gu_isAsSaid 31 = .ok (.ireturn, 1) := by decide +kernel
theorem d_Gu_isAsSaid_32 : decode b_Gu_isAsSaid 32 = .ok (.iload_n 1, 1) := by decide +kernel
theorem d_Gu_isAsSaid_33 : decode b_Gu_isAsSaid 33 = .ok (.ifCond .ne 7, 3) := by decide +kernel
theorem d_Gu_isAsSaid_36 : decode b_Gu_isAsSaid 36 = .ok (.iconst 1, 1) := by decide +kernel
theorem d_Gu_isAsSaid_37 : decode b_Gu_isAsSaid 37 = .ok (.goto 4, 3) := by decide +kernel
theorem d_Gu_isAsSaid_40 : decode b_Gu_isAsSaid 40 = .ok (.iconst 0, 1) := by decide +kernel
theorem d_Gu_isAsSaid_41 : decode b_Gu_isAsSaid 41 = .ok (.iload_n 0, 1) := by decide +kernel
theorem d_Gu_isAsSaid_42 : decode b_Gu_isAsSaid 42 = .ok (.bipush 61, 2) := by decide +kernel
theorem d_Gu_isAsSaid_44 : decode b_Gu_isAsSaid 44 = .ok (.if_icmp .ne 7, 3) := by decide +kernel
theorem d_Gu_isAsSaid_47 : decode b_Gu_isAsSaid 47 = .ok (.iconst 1, 1) := by decide +kernel
theorem d_Gu_isAsSaid_48 : decode b_Gu_isAsSaid 48 = .ok (.goto 4, 3) := by decide +kernel
theorem d_Gu_isAsSaid_51 : decode b_Gu_isAsSaid 51 = .ok (.iconst 0, 1) := by decide +kernel
theorem d_Gu_isAsSaid_52 : decode b_Gu_isAsSaid 52 = .ok (.if_icmp .ne 7, 3) := by decide +kernel
theorem d_Gu_isAsSaid_55 : decode b_Gu_isAsSaid 55 = .ok (.iconst 1, 1) := by decide +kernel
theorem d_Gu_isAsSaid_56 : decode b_Gu_isAsSaid 56 = .ok (.goto 4, 3) := by decide +kernel
theorem d_Gu_isAsSaid_59 : decode b_Gu_isAsSaid 59 = .ok (.iconst 0, 1) := by decide +kernel
theorem d_Gu_isAsSaid_60 : decode b_Gu_isAsSaid 60 = .ok (.ireturn, 1) := by decide +kernel
theorem d_Gu_holds_0 : decode b_Gu_holds 0 = .ok (.iconst 0, 1) := by decide +kernel
theorem d_Gu_holds_1 : decode b_Gu_holds 1 = .ok (.istore_n 2, 1) := by decide +kernel
theorem d_Gu_holds_2 : decode b_Gu_holds 2 = .ok (.iload_n 2, 1) := by decide +kernel
theorem d_Gu_holds_3 : decode b_Gu_holds 3 = .ok (.aload_n 0, 1) := by decide +kernel
theorem d_Gu_holds_4 : decode b_Gu_holds 4 = .ok (.getfield 19, 3) := by decide +kernel
theorem d_Gu_holds_7 : decode b_Gu_holds 7 = .ok (.if_icmp .ge 34, 3) := by decide +kernel
theorem d_Gu_holds_10 : decode b_Gu_holds 10 = .ok (.aload_n 0, 1) := by decide +kernel
theorem d_Gu_holds_11 : decode b_Gu_holds 11 = .ok (.getfield 15, 3) := by decide +kernel
theorem d_Gu_holds_14 : decode b_Gu_holds 14 = .ok (.iload_n 2, 1) := by decide +kernel
theorem d_Gu_holds_15 : decode b_Gu_holds 15 = .ok (.caload, 1) := by decide +kernel
theorem d_Gu_holds_16 : decode b_Gu_holds 16 = .ok (.aload_n 0, 1) := by decide +kernel
theorem d_Gu_holds_17 : decode b_Gu_holds 17 = .ok (.getfield 9, 3) := by decide +kernel
theorem d_Gu_holds_20 : decode b_Gu_holds 20 = .ok (.iload_n 2, 1) := by decide +kernel
theorem d_Gu_holds_21 : decode b_Gu_holds 21 = .ok (.iconst 4, 1) := by decide +kernel
theorem d_Gu_holds_22 : decode b_Gu_holds 22 = .ok (.imul, 1) := by decide +kernel
theorem d_Gu_holds_23 : decode b_Gu_holds 23 = .ok (.aload_n 1, 1) := by decide +kernel
theorem d_Gu_holds_24 : decode b_Gu_holds 24 = .ok (.invokestatic 23, 3) := by decide +kernel
theorem d_Gu_holds_27 : decode b_Gu_holds 27 = .ok (.invokestatic 27, 3) := by decide +kernel
theorem d_Gu_holds_30 : decode b_Gu_holds 30 = .ok (.ifCond .ne 5, 3) := by decide +kernel
theorem d_Gu_holds_33 : decode b_Gu_holds 33 = .ok (.iconst 0, 1) := by decide +kernel
theorem d_Gu_holds_34 : decode b_Gu_holds 34 = .ok (.ireturn, 1) := by decide +kernel
theorem d_Gu_holds_35 : decode b_Gu_holds 35 = .ok (.iinc 2 1, 3) := by decide +kernel
theorem d_Gu_holds_38 : decode b_Gu_holds 38 = .ok (.goto (-36), 3) := by decide +kernel
theorem d_Gu_holds_41 : decode b_Gu_holds 41 = .ok (.iconst 1, 1) := by decide +kernel
theorem d_Gu_holds_42 : decode b_Gu_holds 42 = .ok (.ireturn, 1) := by decide +kernel
theorem d_Gm_enabledIn_0 : decode b_Gm_enabledIn 0 = .ok (.iconst 0, 1) := by decide +kernel
theorem d_Gm_enabledIn_1 : decode b_Gm_enabledIn 1 = .ok (.istore_n 2, 1) := by decide +kernel
theorem d_Gm_enabledIn_2 : decode b_Gm_enabledIn 2 = .ok (.iconst 0, 1) := by decide +kernel
theorem d_Gm_enabledIn_3 : decode b_Gm_enabledIn 3 = .ok (.istore_n 3, 1) := by decide +kernel
theorem d_Gm_enabledIn_4 : decode b_Gm_enabledIn 4 = .ok (.iload_n 3, 1) := by decide +kernel
theorem d_Gm_enabledIn_5 : decode b_Gm_enabledIn 5 = .ok (.aload_n 0, 1) := by decide +kernel
theorem d_Gm_enabledIn_6 : decode b_Gm_enabledIn 6 = .ok (.getfield 31, 3) := by decide +kernel
theorem d_Gm_enabledIn_9 : decode b_Gm_enabledIn 9 = .ok (.if_icmp .ge 31, 3) := by decide +kernel
theorem d_Gm_enabledIn_12 : decode b_Gm_enabledIn 12 = .ok (.aload_n 0, 1) := by decide +kernel
theorem d_Gm_enabledIn_13 : decode b_Gm_enabledIn 13 = .ok (.getfield 20, 3) := by decide +kernel
theorem d_Gm_enabledIn_16 : decode b_Gm_enabledIn 16 = .ok (.iload_n 3, 1) := by decide +kernel
theorem d_Gm_enabledIn_17 : decode b_Gm_enabledIn 17 = .ok (.aaload, 1) := by decide +kernel
theorem d_Gm_enabledIn_18 : decode b_Gm_enabledIn 18 = .ok (.getfield 36, 3) := by decide +kernel
theorem d_Gm_enabledIn_21 : decode b_Gm_enabledIn 21 = .ok (.aload_n 1, 1) := by decide +kernel
theorem d_Gm_enabledIn_22 : decode b_Gm_enabledIn 22 = .ok (.invokevirtual 39, 3) := by decide +kernel
theorem d_Gm_enabledIn_25 : decode b_Gm_enabledIn 25 = .ok (.ifCond .eq 9, 3) := by decide +kernel
theorem d_Gm_enabledIn_28 : decode b_Gm_enabledIn 28 = .ok (.iload_n 2, 1) := by decide +kernel
theorem d_Gm_enabledIn_29 : decode b_Gm_enabledIn 29 = .ok (.iconst 1, 1) := by decide +kernel
theorem d_Gm_enabledIn_30 : decode b_Gm_enabledIn 30 = .ok (.iload_n 3, 1) := by decide +kernel
theorem d_Gm_enabledIn_31 : decode b_Gm_enabledIn 31 = .ok (.ishl, 1) := by decide +kernel
theorem d_Gm_enabledIn_32 : decode b_Gm_enabledIn 32 = .ok (.ior, 1) := by decide +kernel
theorem d_Gm_enabledIn_33 : decode b_Gm_enabledIn 33 = .ok (.istore_n 2, 1) := by decide +kernel
theorem d_Gm_enabledIn_34 : decode b_Gm_enabledIn 34 = .ok (.iinc 3 1, 3) := by decide +kernel
theorem d_Gm_enabledIn_37 : decode b_Gm_enabledIn 37 = .ok (.goto (-33), 3) := by decide +kernel
theorem d_Gm_enabledIn_40 : decode b_Gm_enabledIn 40 = .ok (.iload_n 2, 1) := by decide +kernel
theorem d_Gm_enabledIn_41 : decode b_Gm_enabledIn 41 = .ok (.ireturn, 1) := by decide +kernel
theorem d_Fo_add_0 : decode b_Fo_add 0 = .ok (.aload_n 0, 1) := by decide +kernel
theorem d_Fo_add_1 : decode b_Fo_add 1 = .ok (.getfield 18, 3) := by decide +kernel
theorem d_Fo_add_4 : decode b_Fo_add 4 = .ok (.istore_n 2, 1) := by decide +kernel
theorem d_Fo_add_5 : decode b_Fo_add 5 = .ok (.aload_n 0, 1) := by decide +kernel
theorem d_Fo_add_6 : decode b_Fo_add 6 = .ok (.dup, 1) := by decide +kernel
theorem d_Fo_add_7 : decode b_Fo_add 7 = .ok (.getfield 18, 3) := by decide +kernel
theorem d_Fo_add_10 : decode b_Fo_add 10 = .ok (.iconst 1, 1) := by decide +kernel
theorem d_Fo_add_11 : decode b_Fo_add 11 = .ok (.iadd, 1) := by decide +kernel
theorem d_Fo_add_12 : decode b_Fo_add 12 = .ok (.putfield 18, 3) := by decide +kernel
theorem d_Fo_add_15 : decode b_Fo_add 15 = .ok (.aload_n 1, 1) := by decide +kernel
theorem d_Fo_add_16 : decode b_Fo_add 16 = .ok (.iconst 0, 1) := by decide +kernel
theorem d_Fo_add_17 : decode b_Fo_add 17 = .ok (.aload_n 0, 1) := by decide +kernel
theorem d_Fo_add_18 : decode b_Fo_add 18 = .ok (.getfield 36, 3) := by decide +kernel
theorem d_Fo_add_21 : decode b_Fo_add 21 = .ok (.iload_n 2, 1) := by decide +kernel
theorem d_Fo_add_22 : decode b_Fo_add 22 = .ok (.aaload, 1) := by decide +kernel
theorem d_Fo_add_23 : decode b_Fo_add 23 = .ok (.iconst 0, 1) := by decide +kernel
theorem d_Fo_add_24 : decode b_Fo_add 24 = .ok (.iconst 3, 1) := by decide +kernel
theorem d_Fo_add_25 : decode b_Fo_add 25 = .ok (.invokestatic 97, 3) := by decide +kernel
theorem d_Fo_add_28 : decode b_Fo_add 28 = .ok (.aload_n 0, 1) := by decide +kernel
theorem d_Fo_add_29 : decode b_Fo_add 29 = .ok (.getfield 12, 3) := by decide +kernel
theorem d_Fo_add_32 : decode b_Fo_add 32 = .ok (.getfield 103, 3) := by decide +kernel
theorem d_Fo_add_35 : decode b_Fo_add 35 = .ok (.aload_n 1, 1) := by decide +kernel
theorem d_Fo_add_36 : decode b_Fo_add 36 = .ok (.invokevirtual 107, 3) := by decide +kernel
theorem d_Fo_add_39 : decode b_Fo_add 39 = .ok (.ifCond .eq 25, 3) := by decide +kernel
theorem d_Fo_add_42 : decode b_Fo_add 42 = .ok (.aload_n 0, 1) := by decide +kernel
theorem d_Fo_add_43 : decode b_Fo_add 43 = .ok (.dup, 1) := by decide +kernel
theorem d_Fo_add_44 : decode b_Fo_add 44 = .ok (.getfield 25, 3) := by decide +kernel
theorem d_Fo_add_47 : decode b_Fo_add 47 = .ok (.iconst 1, 1) := by decide +kernel
theorem d_Fo_add_48 : decode b_Fo_add 48 = .ok (.iload_n 2, 1) := by decide +kernel
theorem d_Fo_add_49 : decode b_Fo_add 49 = .ok (.ishl, 1) := by decide +kernel
theorem d_Fo_add_50 : decode b_Fo_add 50 = .ok (.ior, 1) := by decide +kernel
theorem d_Fo_add_51 : decode b_Fo_add 51 = .ok (.putfield 25, 3) := by decide +kernel
theorem d_Fo_add_54 : decode b_Fo_add 54 = .ok (.aload_n 0, 1) := by decide +kernel
theorem d_Fo_add_55 : decode b_Fo_add 55 = .ok (.getfield 39, 3) := by decide +kernel
theorem d_Fo_add_58 : decode b_Fo_add 58 = .ok (.iload_n 2, 1) := by decide +kernel
theorem d_Fo_add_59 : decode b_Fo_add 59 = .ok (.iconst 0, 1) := by decide +kernel
theorem d_Fo_add_60 : decode b_Fo_add 60 = .ok (.iastore, 1) := by decide +kernel
theorem d_Fo_add_61 : decode b_Fo_add 61 = .ok (.goto 17, 3) := by decide +kernel
theorem d_Fo_add_64 : decode b_Fo_add 64 = .ok (.aload_n 0, 1) := by decide +kernel
theorem d_Fo_add_65 : decode b_Fo_add 65 = .ok (.getfield 39, 3) := by decide +kernel
theorem d_Fo_add_68 : decode b_Fo_add 68 = .ok (.iload_n 2, 1) := by decide +kernel
theorem d_Fo_add_69 : decode b_Fo_add 69 = .ok (.aload_n 0, 1) := by decide +kernel
theorem d_Fo_add_70 : decode b_Fo_add 70 = .ok (.getfield 12, 3) := by decide +kernel
theorem d_Fo_add_73 : decode b_Fo_add 73 = .ok (.aload_n 1, 1) := by decide +kernel
theorem d_Fo_add_74 : decode b_Fo_add 74 = .ok (.invokevirtual 113, 3) := by decide +kernel
theorem d_Fo_add_77 : decode b_Fo_add 77 = .ok (.iastore, 1) := by decide +kernel
theorem d_Fo_add_78 : decode b_Fo_add 78 = .ok (.return_, 1) := by decide +kernel
theorem d_Fo_isOfMax_0 : decode b_Fo_isOfMax 0 = .ok (.iload_n 1, 1) := by decide +kernel
theorem d_Fo_isOfMax_1 : decode b_Fo_isOfMax 1 = .ok (.aload_n 0, 1) := by decide +kernel
theorem d_Fo_isOfMax_2 : decode b_Fo_isOfMax 2 = .ok (.getfield 28, 3) := by decide +kernel
theorem d_Fo_isOfMax_5 : decode b_Fo_isOfMax 5 = .ok (.if_icmp .ge 21, 3) := by decide +kernel
theorem d_Fo_isOfMax_8 : decode b_Fo_isOfMax 8 = .ok (.aload_n 0, 1) := by decide +kernel
theorem d_Fo_isOfMax_9 : decode b_Fo_isOfMax 9 = .ok (.getfield 39, 3) := by decide +kernel
theorem d_Fo_isOfMax_12 : decode b_Fo_isOfMax 12 = .ok (.iload_n 1, 1) := by decide +kernel
theorem d_Fo_isOfMax_13 : decode b_Fo_isOfMax 13 = .ok (.iaload, 1) := by decide +kernel
theorem d_Fo_isOfMax_14 : decode b_Fo_isOfMax 14 = .ok (.aload_n 0, 1) := by decide +kernel
theorem d_Fo_isOfMax_15 : decode b_Fo_isOfMax 15 = .ok (.getfield 31, 3) := by decide +kernel
theorem d_Fo_isOfMax_18 : decode b_Fo_isOfMax 18 = .ok (.iand, 1) := by decide +kernel
theorem d_Fo_isOfMax_19 : decode b_Fo_isOfMax 19 = .ok (.ifCond .eq 7, 3) := by decide +kernel
theorem d_Fo_isOfMax_22 : decode b_Fo_isOfMax 22 = .ok (.iconst 1, 1) := by decide +kernel
theorem d_Fo_isOfMax_23 : decode b_Fo_isOfMax 23 = .ok (.goto 4, 3) := by decide +kernel
theorem d_Fo_isOfMax_26 : decode b_Fo_isOfMax 26 = .ok (.iconst 0, 1) := by decide +kernel
theorem d_Fo_isOfMax_27 : decode b_Fo_isOfMax 27 = .ok (.ireturn, 1) := by decide +kernel
theorem d_Gm_follow_0 : decode b_Gm_follow 0 = .ok (.iconst 0, 1) := by decide +kernel
theorem d_Gm_follow_1 : decode b_Gm_follow 1 = .ok (.istore 4, 2) := by decide +kernel
theorem d_Gm_follow_3 : decode b_Gm_follow 3 = .ok (.iload 4, 2) := by decide +kernel
theorem d_Gm_follow_5 : decode b_Gm_follow 5 = .ok (.iconst 3, 1) := by decide +kernel
theorem d_Gm_follow_6 : decode b_Gm_follow 6 = .ok (.if_icmp .ge 43, 3) := by decide +kernel
theorem d_Gm_follow_9 : decode b_Gm_follow 9 = .ok (.aload_n 2, 1) := by decide +kernel
theorem d_Gm_follow_10 : decode b_Gm_follow 10 = .ok (.getfield 47, 3) := by decide +kernel
theorem d_Gm_follow_13 : decode b_Gm_follow 13 = .ok (.iload 4, 2) := by decide +kernel
theorem d_Gm_follow_15 : decode b_Gm_follow 15 = .ok (.iconst 4, 1) := by decide +kernel
theorem d_Gm_follow_16 : decode b_Gm_follow 16 = .ok (.imul, 1) := by decide +kernel
theorem d_Gm_follow_17 : decode b_Gm_follow 17 = .ok (.aload_n 1, 1) := by decide +kernel
theorem d_Gm_follow_18 : decode b_Gm_follow 18 = .ok (.invokestatic 52, 3) := by decide +kernel
theorem d_Gm_follow_21 : decode b_Gm_follow 21 = .ok (.istore 5, 2) := by decide +kernel
theorem d_Gm_follow_23 : decode b_Gm_follow 23 = .ok (.aload_n 3, 1) := by decide +kernel
theorem d_Gm_follow_24 : decode b_Gm_follow 24 = .ok (.iload 4, 2) := by decide +kernel
theorem d_Gm_follow_26 : decode b_Gm_follow 26 = .ok (.iconst 0, 1) := by decide +kernel
theorem d_Gm_follow_27 : decode b_Gm_follow 27 = .ok (.aload_n 0, 1) := by decide +kernel
theorem d_Gm_follow_28 : decode b_Gm_follow 28 = .ok (.getfield 9, 3) := by decide +kernel
theorem d_Gm_follow_31 : decode b_Gm_follow 31 = .ok (.iload 4, 2) := by decide +kernel
theorem d_Gm_follow_33 : decode b_Gm_follow 33 = .ok (.iaload, 1) := by decide +kernel
theorem d_Gm_follow_34 : decode b_Gm_follow 34 = .ok (.iload 5, 2) := by decide +kernel
theorem d_Gm_follow_36 : decode b_Gm_follow 36 = .ok (.invokestatic 56, 3) := by decide +kernel
theorem d_Gm_follow_39 : decode b_Gm_follow 39 = .ok (.invokestatic 62, 3) := by decide +kernel
theorem d_Gm_follow_42 : decode b_Gm_follow 42 = .ok (.iastore, 1) := by decide +kernel
theorem d_Gm_follow_43 : decode b_Gm_follow 43 = .ok (.iinc 4 1, 3) := by decide +kernel
theorem d_Gm_follow_46 : decode b_Gm_follow 46 = .ok (.goto (-43), 3) := by decide +kernel
theorem d_Gm_follow_49 : decode b_Gm_follow 49 = .ok (.return_, 1) := by decide +kernel
theorem d_Fo_numberOf_0 : decode b_Fo_numberOf 0 = .ok (.iconst 0, 1) := by decide +kernel
theorem d_Fo_numberOf_1 : decode b_Fo_numberOf 1 = .ok (.istore_n 2, 1) := by decide +kernel
theorem d_Fo_numberOf_2 : decode b_Fo_numberOf 2 = .ok (.iload_n 2, 1) := by decide +kernel
theorem d_Fo_numberOf_3 : decode b_Fo_numberOf 3 = .ok (.aload_n 0, 1) := by decide +kernel
theorem d_Fo_numberOf_4 : decode b_Fo_numberOf 4 = .ok (.getfield 18, 3) := by decide +kernel
theorem d_Fo_numberOf_7 : decode b_Fo_numberOf 7 = .ok (.if_icmp .ge 58, 3) := by decide +kernel
theorem d_Fo_numberOf_10 : decode b_Fo_numberOf 10 = .ok (.iconst 1, 1) := by decide +kernel
theorem d_Fo_numberOf_11 : decode b_Fo_numberOf 11 = .ok (.istore_n 3, 1) := by decide +kernel
theorem d_Fo_numberOf_12 : decode b_Fo_numberOf 12 = .ok (.iconst 0, 1) := by decide +kernel
theorem d_Fo_numberOf_13 : decode b_Fo_numberOf 13 = .ok (.istore 4, 2) := by decide +kernel
theorem d_Fo_numberOf_15 : decode b_Fo_numberOf 15 = .ok (.iload 4, 2) := by decide +kernel
theorem d_Fo_numberOf_17 : decode b_Fo_numberOf 17 = .ok (.iconst 3, 1) := by decide +kernel
theorem d_Fo_numberOf_18 : decode b_Fo_numberOf 18 = .ok (.if_icmp .ge 35, 3) := by decide +kernel
theorem d_Fo_numberOf_21 : decode b_Fo_numberOf 21 = .ok (.iload_n 3, 1) := by decide +kernel
theorem d_Fo_numberOf_22 : decode b_Fo_numberOf 22 = .ok (.ifCond .eq 23, 3) := by decide +kernel
theorem d_Fo_numberOf_25 : decode b_Fo_numberOf 25 = .ok (.aload_n 0, 1) := by decide +kernel
theorem d_Fo_numberOf_26 : decode b_Fo_numberOf 26 = .ok (.getfield 36, 3) := by decide +kernel
theorem d_Fo_numberOf_29 : decode b_Fo_numberOf 29 = .ok (.iload_n 2, 1) := by decide +kernel
theorem d_Fo_numberOf_30 : decode b_Fo_numberOf 30 = .ok (.aaload, 1) := by decide +kernel
theorem d_Fo_numberOf_31 : decode b_Fo_numberOf 31 = .ok (.iload 4, 2) := by decide +kernel
theorem d_Fo_numberOf_33 : decode b_Fo_numberOf 33 = .ok (.iaload, 1) := by decide +kernel
theorem d_Fo_numberOf_34 : decode b_Fo_numberOf 34 = .ok (.aload_n 1, 1) := by decide +kernel
theorem d_Fo_numberOf_35 : decode b_Fo_numberOf 35 = .ok (.iload 4, 2) := by decide +kernel
theorem d_Fo_numberOf_37 : decode b_Fo_numberOf 37 = .ok (.iaload, 1) := by decide +kernel
theorem d_Fo_numberOf_38 : decode b_Fo_numberOf 38 = .ok (.if_icmp .ne 7, 3) := by decide +kernel
theorem d_Fo_numberOf_41 : decode b_Fo_numberOf 41 = .ok (.iconst 1, 1) := by decide +kernel
theorem d_Fo_numberOf_42 : decode b_Fo_numberOf 42 = .ok (.goto 4, 3) := by decide +kernel
theorem d_Fo_numberOf_45 : decode b_Fo_numberOf 45 = .ok (.iconst 0, 1) := by decide +kernel
theorem d_Fo_numberOf_46 : decode b_Fo_numberOf 46 = .ok (.istore_n 3, 1) := by decide +kernel
theorem d_Fo_numberOf_47 : decode b_Fo_numberOf 47 = .ok (.iinc 4 1, 3) := by decide +kernel
theorem d_Fo_numberOf_50 : decode b_Fo_numberOf 50 = .ok (.goto (-35), 3) := by decide +kernel
theorem d_Fo_numberOf_53 : decode b_Fo_numberOf 53 = .ok (.iload_n 3, 1) := by decide +kernel
theorem d_Fo_numberOf_54 : decode b_Fo_numberOf 54 = .ok (.ifCond .eq 5, 3) := by decide +kernel
theorem d_Fo_numberOf_57 : decode b_Fo_numberOf 57 = .ok (.iload_n 2, 1) := by decide +kernel
theorem d_Fo_numberOf_58 : decode b_Fo_numberOf 58 = .ok (.ireturn, 1) := by decide +kernel
theorem d_Fo_numberOf_59 : decode b_Fo_numberOf 59 = .ok (.iinc 2 1, 3) := by decide +kernel
theorem d_Fo_numberOf_62 : decode b_Fo_numberOf 62 = .ok (.goto (-60), 3) := by decide +kernel
theorem d_Fo_numberOf_65 : decode b_Fo_numberOf 65 = .ok (.iconst (-1), 1) := by decide +kernel
theorem d_Fo_numberOf_66 : decode b_Fo_numberOf 66 = .ok (.ireturn, 1) := by decide +kernel
theorem d_Fo_findFrom_0 : decode b_Fo_findFrom 0 = .ok (.iconst 0, 1) := by decide +kernel
theorem d_Fo_findFrom_1 : decode b_Fo_findFrom 1 = .ok (.istore_n 2, 1) := by decide +kernel
theorem d_Fo_findFrom_2 : decode b_Fo_findFrom 2 = .ok (.iload_n 2, 1) := by decide +kernel
theorem d_Fo_findFrom_3 : decode b_Fo_findFrom 3 = .ok (.aload_n 0, 1) := by decide +kernel
theorem d_Fo_findFrom_4 : decode b_Fo_findFrom 4 = .ok (.getfield 12, 3) := by decide +kernel
theorem d_Fo_findFrom_7 : decode b_Fo_findFrom 7 = .ok (.getfield 73, 3) := by decide +kernel
theorem d_Fo_findFrom_10 : decode b_Fo_findFrom 10 = .ok (.if_icmp .ge 122, 3) := by decide +kernel
theorem d_Fo_findFrom_13 : decode b_Fo_findFrom 13 = .ok (.aload_n 0, 1) := by decide +kernel
theorem d_Fo_findFrom_14 : decode b_Fo_findFrom 14 = .ok (.getfield 39, 3) := by decide +kernel
theorem d_Fo_findFrom_17 : decode b_Fo_findFrom 17 = .ok (.iload_n 1, 1) := by decide +kernel
theorem d_Fo_findFrom_18 : decode b_Fo_findFrom 18 = .ok (.iaload, 1) := by decide +kernel
theorem d_Fo_findFrom_19 : decode b_Fo_findFrom 19 = .ok (.iload_n 2, 1) := by decide +kernel
theorem d_Fo_findFrom_20 : decode b_Fo_findFrom 20 = .ok (.invokestatic 74, 3) := by decide +kernel
theorem d_Fo_findFrom_23 : decode b_Fo_findFrom 23 = .ok (.ifCond .eq 103, 3) := by decide +kernel
theorem d_Fo_findFrom_26 : decode b_Fo_findFrom 26 = .ok (.aload_n 0, 1) := by decide +kernel
theorem d_Fo_findFrom_27 : decode b_Fo_findFrom 27 = .ok (.getfield 12, 3) := by decide +kernel
theorem d_Fo_findFrom_30 : decode b_Fo_findFrom 30 = .ok (.getfield 78, 3) := by decide +kernel
theorem d_Fo_findFrom_33 : decode b_Fo_findFrom 33 = .ok (.iload_n 2, 1) := by decide +kernel
theorem d_Fo_findFrom_34 : decode b_Fo_findFrom 34 = .ok (.aaload, 1) := by decide +kernel
theorem d_Fo_findFrom_35 : decode b_Fo_findFrom 35 = .ok (.astore_n 3, 1) := by decide +kernel
theorem d_Fo_findFrom_36 : decode b_Fo_findFrom 36 = .ok (.iconst 0, 1) := by decide +kernel
theorem d_Fo_findFrom_37 : decode b_Fo_findFrom 37 = .ok (.istore 4, 2) := by decide +kernel
theorem d_Fo_findFrom_39 : decode b_Fo_findFrom 39 = .ok (.iload 4, 2) := by decide +kernel
theorem d_Fo_findFrom_41 : decode b_Fo_findFrom 41 = .ok (.aload_n 3, 1) := by decide +kernel
theorem d_Fo_findFrom_42 : decode b_Fo_findFrom 42 = .ok (.getfield 82, 3) := by decide +kernel
theorem d_Fo_findFrom_45 : decode b_Fo_findFrom 45 = .ok (.if_icmp .ge 81, 3) := by decide +kernel
theorem d_Fo_findFrom_48 : decode b_Fo_findFrom 48 = .ok (.aload_n 0, 1) := by decide +kernel
theorem d_Fo_findFrom_49 : decode b_Fo_findFrom 49 = .ok (.getfield 12, 3) := by decide +kernel
theorem d_Fo_findFrom_52 : decode b_Fo_findFrom 52 = .ok (.aload_n 0, 1) := by decide +kernel
theorem d_Fo_findFrom_53 : decode b_Fo_findFrom 53 = .ok (.getfield 36, 3) := by decide +kernel
theorem d_Fo_findFrom_56 : decode b_Fo_findFrom 56 = .ok (.iload_n 1, 1) := by decide +kernel
theorem d_Fo_findFrom_57 : decode b_Fo_findFrom 57 = .ok (.aaload, 1) := by decide +kernel
theorem d_Fo_findFrom_58 : decode b_Fo_findFrom 58 = .ok (.aload_n 3, 1) := by decide +kernel
theorem d_Fo_findFrom_59 : decode b_Fo_findFrom 59 = .ok (.getfield 85, 3) := by decide +kernel
theorem d_Fo_findFrom_62 : decode b_Fo_findFrom 62 = .ok (.iload 4, 2) := by decide +kernel
theorem d_Fo_findFrom_64 : decode b_Fo_findFrom 64 = .ok (.aaload, 1) := by decide +kernel
theorem d_Fo_findFrom_65 : decode b_Fo_findFrom 65 = .ok (.aload_n 0, 1) := by decide +kernel
theorem d_Fo_findFrom_66 : decode b_Fo_findFrom 66 = .ok (.getfield 49, 3) := by decide +kernel
theorem d_Fo_findFrom_69 : decode b_Fo_findFrom 69 = .ok (.invokevirtual 89, 3) := by decide +kernel
theorem d_Fo_findFrom_72 : decode b_Fo_findFrom 72 = .ok (.aload_n 0, 1) := by decide +kernel
theorem d_Fo_findFrom_73 : decode b_Fo_findFrom 73 = .ok (.aload_n 0, 1) := by decide +kernel
theorem d_Fo_findFrom_74 : decode b_Fo_findFrom 74 = .ok (.getfield 49, 3) := by decide +kernel
theorem d_Fo_findFrom_77 : decode b_Fo_findFrom 77 = .ok (.invokevirtual 93, 3) := by decide +kernel
theorem d_Fo_findFrom_80 : decode b_Fo_findFrom 80 = .ok (.iconst (-1), 1) := by decide +kernel
theorem d_Fo_findFrom_81 : decode b_Fo_findFrom 81 = .ok (.if_icmp .ne 7, 3) := by decide +kernel
theorem d_Fo_findFrom_84 : decode b_Fo_findFrom 84 = .ok (.iconst 1, 1) := by decide +kernel
theorem d_Fo_findFrom_85 : decode b_Fo_findFrom 85 = .ok (.goto 4, 3) := by decide +kernel
theorem d_Fo_findFrom_88 : decode b_Fo_findFrom 88 = .ok (.iconst 0, 1) := by decide +kernel
theorem d_Fo_findFrom_89 : decode b_Fo_findFrom 89 = .ok (.istore 5, 2) := by decide +kernel
theorem d_Fo_findFrom_91 : decode b_Fo_findFrom 91 = .ok (.iload 5, 2) := by decide +kernel
theorem d_Fo_findFrom_93 : decode b_Fo_findFrom 93 = .ok (.ifCond .eq 14, 3) := by decide +kernel
theorem d_Fo_findFrom_96 : decode b_Fo_findFrom 96 = .ok (.aload_n 0, 1) := by decide +kernel
theorem d_Fo_findFrom_97 : decode b_Fo_findFrom 97 = .ok (.getfield 18, 3) := by decide +kernel
theorem d_Fo_findFrom_100 : decode b_Fo_findFrom 100 = .ok (.bipush 8, 2) := by decide +kernel
theorem d_Fo_findFrom_102 : decode b_Fo_findFrom 102 = .ok (.if_icmp .ne 5, 3) := by decide +kernel
theorem d_Fo_findFrom_105 : decode b_Fo_findFrom 105 = .ok (.iconst 0, 1) := by decide +kernel
theorem d_Fo_findFrom_106 : decode b_Fo_findFrom 106 = .ok (.ireturn, 1) := by decide +kernel
theorem d_Fo_findFrom_107 : decode b_Fo_findFrom 107 = .ok (.iload 5, 2) := by decide +kernel
theorem d_Fo_findFrom_109 : decode b_Fo_findFrom 109 = .ok (.ifCond .eq 11, 3) := by decide +kernel
theorem d_Fo_findFrom_112 : decode b_Fo_findFrom 112 = .ok (.aload_n 0, 1) := by decide +kernel
theorem d_Fo_findFrom_113 : decode b_Fo_findFrom 113 = .ok (.aload_n 0, 1) := by decide +kernel
theorem d_Fo_findFrom_114 : decode b_Fo_findFrom 114 = .ok (.getfield 49, 3) := by decide +kernel
theorem d_Fo_findFrom_117 : decode b_Fo_findFrom 117 = .ok (.invokevirtual 62, 3) := by decide +kernel
theorem d_Fo_findFrom_120 : decode b_Fo_findFrom 120 = .ok (.iinc 4 1, 3) := by decide +kernel
theorem d_Fo_findFrom_123 : decode b_Fo_findFrom 123 = .ok (.goto (-84), 3) := by decide +kernel
theorem d_Fo_findFrom_126 : decode b_Fo_findFrom 126 = .ok (.iinc 2 1, 3) := by decide +kernel
theorem d_Fo_findFrom_129 : decode b_Fo_findFrom 129 = .ok (.goto (-127), 3) := by decide +kernel
theorem d_Fo_findFrom_132 : decode b_Fo_findFrom 132 = .ok (.iconst 1, 1) := by decide +kernel
theorem d_Fo_findFrom_133 : decode b_Fo_findFrom 133 = .ok (.ireturn, 1) := by decide +kernel
theorem d_Fo_explore_0 : decode b_Fo_explore 0 = .ok (.aload_n 0, 1) := by decide +kernel
theorem d_Fo_explore_1 : decode b_Fo_explore 1 = .ok (.invokevirtual 52, 3) := by decide +kernel
theorem d_Fo_explore_4 : decode b_Fo_explore 4 = .ok (.aload_n 0, 1) := by decide +kernel
theorem d_Fo_explore_5 : decode b_Fo_explore 5 = .ok (.aload_n 0, 1) := by decide +kernel
theorem d_Fo_explore_6 : decode b_Fo_explore 6 = .ok (.getfield 12, 3) := by decide +kernel
theorem d_Fo_explore_9 : decode b_Fo_explore 9 = .ok (.invokevirtual 55, 3) := by decide +kernel
theorem d_Fo_explore_12 : decode b_Fo_explore 12 = .ok (.putfield 31, 3) := by decide +kernel
theorem d_Fo_explore_15 : decode b_Fo_explore 15 = .ok (.aload_n 0, 1) := by decide +kernel
theorem d_Fo_explore_16 : decode b_Fo_explore 16 = .ok (.aload_n 0, 1) := by decide +kernel
theorem d_Fo_explore_17 : decode b_Fo_explore 17 = .ok (.getfield 12, 3) := by decide +kernel
theorem d_Fo_explore_20 : decode b_Fo_explore 20 = .ok (.getfield 59, 3) := by decide +kernel
theorem d_Fo_explore_23 : decode b_Fo_explore 23 = .ok (.invokevirtual 62, 3) := by decide +kernel
theorem d_Fo_explore_26 : decode b_Fo_explore 26 = .ok (.iconst 0, 1) := by decide +kernel
theorem d_Fo_explore_27 : decode b_Fo_explore 27 = .ok (.istore_n 1, 1) := by decide +kernel
theorem d_Fo_explore_28 : decode b_Fo_explore 28 = .ok (.iload_n 1, 1) := by decide +kernel
theorem d_Fo_explore_29 : decode b_Fo_explore 29 = .ok (.bipush 8, 2) := by decide +kernel
theorem d_Fo_explore_31 : decode b_Fo_explore 31 = .ok (.if_icmp .ge 70, 3) := by decide +kernel
theorem d_Fo_explore_34 : decode b_Fo_explore 34 = .ok (.iload_n 1, 1) := by decide +kernel
theorem d_Fo_explore_35 : decode b_Fo_explore 35 = .ok (.aload_n 0, 1) := by decide +kernel
theorem d_Fo_explore_36 : decode b_Fo_explore 36 = .ok (.getfield 18, 3) := by decide +kernel
theorem d_Fo_explore_39 : decode b_Fo_explore 39 = .ok (.if_icmp .ge 62, 3) := by decide +kernel
theorem d_Fo_explore_42 : decode b_Fo_explore 42 = .ok (.aload_n 0, 1) := by decide +kernel
theorem d_Fo_explore_43 : decode b_Fo_explore 43 = .ok (.dup, 1) := by decide +kernel
theorem d_Fo_explore_44 : decode b_Fo_explore 44 = .ok (.getfield 28, 3) := by decide +kernel
theorem d_Fo_explore_47 : decode b_Fo_explore 47 = .ok (.iconst 1, 1) := by decide +kernel
theorem d_Fo_explore_48 : decode b_Fo_explore 48 = .ok (.iadd, 1) := by decide +kernel
theorem d_Fo_explore_49 : decode b_Fo_explore 49 = .ok (.putfield 28, 3) := by decide +kernel
theorem d_Fo_explore_52 : decode b_Fo_explore 52 = .ok (.aload_n 0, 1) := by decide +kernel
theorem d_Fo_explore_53 : decode b_Fo_explore 53 = .ok (.iload_n 1, 1) := by decide +kernel
theorem d_Fo_explore_54 : decode b_Fo_explore 54 = .ok (.invokevirtual 66, 3) := by decide +kernel
theorem d_Fo_explore_57 : decode b_Fo_explore 57 = .ok (.ifCond .eq 27, 3) := by decide +kernel
theorem d_Fo_explore_60 : decode b_Fo_explore 60 = .ok (.aload_n 0, 1) := by decide +kernel
theorem d_Fo_explore_61 : decode b_Fo_explore 61 = .ok (.getfield 39, 3) := by decide +kernel
theorem d_Fo_explore_64 : decode b_Fo_explore 64 = .ok (.iload_n 1, 1) := by decide +kernel
theorem d_Fo_explore_65 : decode b_Fo_explore 65 = .ok (.iaload, 1) := by decide +kernel
theorem d_Fo_explore_66 : decode b_Fo_explore 66 = .ok (.aload_n 0, 1) := by decide +kernel
theorem d_Fo_explore_67 : decode b_Fo_explore 67 = .ok (.getfield 31, 3) := by decide +kernel
theorem d_Fo_explore_70 : decode b_Fo_explore 70 = .ok (.iconst (-1), 1) := by decide +kernel
theorem d_Fo_explore_71 : decode b_Fo_explore 71 = .ok (.ixor, 1) := by decide +kernel
theorem d_Fo_explore_72 : decode b_Fo_explore 72 = .ok (.iand, 1) := by decide +kernel
theorem d_Fo_explore_73 : decode b_Fo_explore 73 = .ok (.ifCond .eq 11, 3) := by decide +kernel
theorem d_Fo_explore_76 : decode b_Fo_explore 76 = .ok (.aload_n 0, 1) := by decide +kernel
theorem d_Fo_explore_77 : decode b_Fo_explore 77 = .ok (.iload_n 1, 1) := by decide +kernel
theorem d_Fo_explore_78 : decode b_Fo_explore 78 = .ok (.putfield 22, 3) := by decide +kernel
theorem d_Fo_explore_81 : decode b_Fo_explore 81 = .ok (.bipush (-2), 2) := by decide +kernel
theorem d_Fo_explore_83 : decode b_Fo_explore 83 = .ok (.ireturn, 1) := by decide +kernel
theorem d_Fo_explore_84 : decode b_Fo_explore 84 = .ok (.aload_n 0, 1) := by decide +kernel
theorem d_Fo_explore_85 : decode b_Fo_explore 85 = .ok (.iload_n 1, 1) := by decide +kernel
theorem d_Fo_explore_86 : decode b_Fo_explore 86 = .ok (.invokevirtual 70, 3) := by decide +kernel
theorem d_Fo_explore_89 : decode b_Fo_explore 89 = .ok (.ifCond .ne 6, 3) := by decide +kernel
theorem d_Fo_explore_92 : decode b_Fo_explore 92 = .ok (.bipush (-3), 2) := by decide +kernel
theorem d_Fo_explore_94 : decode b_Fo_explore 94 = .ok (.ireturn, 1) := by decide +kernel
theorem d_Fo_explore_95 : decode b_Fo_explore 95 = .ok (.iinc 1 1, 3) := by decide +kernel
theorem d_Fo_explore_98 : decode b_Fo_explore 98 = .ok (.goto (-70), 3) := by decide +kernel
theorem d_Fo_explore_101 : decode b_Fo_explore 101 = .ok (.aload_n 0, 1) := by decide +kernel
theorem d_Fo_explore_102 : decode b_Fo_explore 102 = .ok (.getfield 18, 3) := by decide +kernel
theorem d_Fo_explore_105 : decode b_Fo_explore 105 = .ok (.ireturn, 1) := by decide +kernel
theorem d_Fo_linkCommand_0 : decode b_Fo_linkCommand 0 = .ok (.aload_n 0, 1) := by decide +kernel
theorem d_Fo_linkCommand_1 : decode b_Fo_linkCommand 1 = .ok (.getfield 12, 3) := by decide +kernel
theorem d_Fo_linkCommand_4 : decode b_Fo_linkCommand 4 = .ok (.getfield 78, 3) := by decide +kernel
theorem d_Fo_linkCommand_7 : decode b_Fo_linkCommand 7 = .ok (.iload_n 2, 1) := by decide +kernel
theorem d_Fo_linkCommand_8 : decode b_Fo_linkCommand 8 = .ok (.aaload, 1) := by decide +kernel
theorem d_Fo_linkCommand_9 : decode b_Fo_linkCommand 9 = .ok (.astore_n 3, 1) := by decide +kernel
theorem d_Fo_linkCommand_10 : decode b_Fo_linkCommand 10 = .ok (.iconst 0, 1) := by decide +kernel
theorem d_Fo_linkCommand_11 : decode b_Fo_linkCommand 11 = .ok (.istore 4, 2) := by decide +kernel
theorem d_Fo_linkCommand_13 : decode b_Fo_linkCommand 13 = .ok (.iload 4, 2) := by decide +kernel
theorem d_Fo_linkCommand_15 : decode b_Fo_linkCommand 15 = .ok (.aload_n 3, 1) := by decide +kernel
theorem d_Fo_linkCommand_16 : decode b_Fo_linkCommand 16 = .ok (.getfield 82, 3) := by decide +kernel
theorem d_Fo_linkCommand_19 : decode b_Fo_linkCommand 19 = .ok (.if_icmp .ge 79, 3) := by decide +kernel
theorem d_Fo_linkCommand_22 : decode b_Fo_linkCommand 22 = .ok (.aload_n 0, 1) := by decide +kernel
theorem d_Fo_linkCommand_23 : decode b_Fo_linkCommand 23 = .ok (.getfield 12, 3) := by decide +kernel
theorem d_Fo_linkCommand_26 : decode b_Fo_linkCommand 26 = .ok (.aload_n 0, 1) := by decide +kernel
theorem d_Fo_linkCommand_27 : decode b_Fo_linkCommand 27 = .ok (.getfield 36, 3) := by decide +kernel
theorem d_Fo_linkCommand_30 : decode b_Fo_linkCommand 30 = .ok (.iload_n 1, 1) := by decide +kernel
theorem d_Fo_linkCommand_31 : decode b_Fo_linkCommand 31 = .ok (.aaload, 1) := by decide +kernel
theorem d_Fo_linkCommand_32 : decode b_Fo_linkCommand 32 = .ok (.aload_n 3, 1) := by decide +kernel
theorem d_Fo_linkCommand_33 : decode b_Fo_linkCommand 33 = .ok (.getfield 85, 3) := by decide +kernel
theorem d_Fo_linkCommand_36 : decode b_Fo_linkCommand 36 = .ok (.iload 4, 2) := by decide +kernel
theorem d_Fo_linkCommand_38 : decode b_Fo_linkCommand 38 = .ok (.aaload, 1) := by decide +kernel
theorem d_Fo_linkCommand_39 : decode b_Fo_linkCommand 39 = .ok (.aload_n 0, 1) := by decide +kernel
theorem d_Fo_linkCommand_40 : decode b_Fo_linkCommand 40 = .ok (.getfield 49, 3) := by decide +kernel
theorem d_Fo_linkCommand_43 : decode b_Fo_linkCommand 43 = .ok (.invokevirtual 89, 3) := by decide +kernel
theorem d_Fo_linkCommand_46 : decode b_Fo_linkCommand 46 = .ok (.aload_n 0, 1) := by decide +kernel
theorem d_Fo_linkCommand_47 : decode b_Fo_linkCommand 47 = .ok (.aload_n 0, 1) := by decide +kernel
theorem d_Fo_linkCommand_48 : decode b_Fo_linkCommand 48 = .ok (.getfield 49, 3) := by decide +kernel
theorem d_Fo_linkCommand_51 : decode b_Fo_linkCommand 51 = .ok (.invokevirtual 93, 3) := by decide +kernel
theorem d_Fo_linkCommand_54 : decode b_Fo_linkCommand 54 = .ok (.istore 5, 2) := by decide +kernel
theorem d_Fo_linkCommand_56 : decode b_Fo_linkCommand 56 = .ok (.aload_n 0, 1) := by decide +kernel
theorem d_Fo_linkCommand_57 : decode b_Fo_linkCommand 57 = .ok (.getfield 46, 3) := by decide +kernel
theorem d_Fo_linkCommand_60 : decode b_Fo_linkCommand 60 = .ok (.iload_n 1, 1) := by decide +kernel
theorem d_Fo_linkCommand_61 : decode b_Fo_linkCommand 61 = .ok (.aaload, 1) := by decide +kernel
theorem d_Fo_linkCommand_62 : decode b_Fo_linkCommand 62 = .ok (.iload_n 2, 1) := by decide +kernel
theorem d_Fo_linkCommand_63 : decode b_Fo_linkCommand 63 = .ok (.iconst 4, 1) := by decide +kernel
theorem d_Fo_linkCommand_64 : decode b_Fo_linkCommand 64 = .ok (.imul, 1) := by decide +kernel
theorem d_Fo_linkCommand_65 : decode b_Fo_linkCommand 65 = .ok (.iload 4, 2) := by decide +kernel
theorem d_Fo_linkCommand_67 : decode b_Fo_linkCommand 67 = .ok (.iadd, 1) := by decide +kernel
theorem d_Fo_linkCommand_68 : decode b_Fo_linkCommand 68 = .ok (.iload 5, 2) := by decide +kernel
theorem d_Fo_linkCommand_70 : decode b_Fo_linkCommand 70 = .ok (.iastore, 1) := by decide +kernel
theorem d_Fo_linkCommand_71 : decode b_Fo_linkCommand 71 = .ok (.iload 5, 2) := by decide +kernel
theorem d_Fo_linkCommand_73 : decode b_Fo_linkCommand 73 = .ok (.iconst (-1), 1) := by decide +kernel
theorem d_Fo_linkCommand_74 : decode b_Fo_linkCommand 74 = .ok (.if_icmp .eq 18, 3) := by decide +kernel
theorem d_Fo_linkCommand_77 : decode b_Fo_linkCommand 77 = .ok (.aload_n 0, 1) := by decide +kernel
theorem d_Fo_linkCommand_78 : decode b_Fo_linkCommand 78 = .ok (.getfield 43, 3) := by decide +kernel
theorem d_Fo_linkCommand_81 : decode b_Fo_linkCommand 81 = .ok (.iload_n 1, 1) := by decide +kernel
theorem d_Fo_linkCommand_82 : decode b_Fo_linkCommand 82 = .ok (.aaload, 1) := by decide +kernel
theorem d_Fo_linkCommand_83 : decode b_Fo_linkCommand 83 = .ok (.iload_n 2, 1) := by decide +kernel
theorem d_Fo_linkCommand_84 : decode b_Fo_linkCommand 84 = .ok (.dup2, 1) := by decide +kernel
theorem d_Fo_linkCommand_85 : decode b_Fo_linkCommand 85 = .ok (.iaload, 1) := by decide +kernel
theorem d_Fo_linkCommand_86 : decode b_Fo_linkCommand 86 = .ok (.iconst 1, 1) := by decide +kernel
theorem d_Fo_linkCommand_87 : decode b_Fo_linkCommand 87 = .ok (.iload 5, 2) := by decide +kernel
theorem d_Fo_linkCommand_89 : decode b_Fo_linkCommand 89 = .ok (.ishl, 1) := by decide +kernel
theorem d_Fo_linkCommand_90 : decode b_Fo_linkCommand 90 = .ok (.ior, 1) := by decide +kernel
theorem d_Fo_linkCommand_91 : decode b_Fo_linkCommand 91 = .ok (.iastore, 1) := by decide +kernel
theorem d_Fo_linkCommand_92 : decode b_Fo_linkCommand 92 = .ok (.iinc 4 1, 3) := by decide +kernel
theorem d_Fo_linkCommand_95 : decode b_Fo_linkCommand 95 = .ok (.goto (-82), 3) := by decide +kernel
theorem d_Fo_linkCommand_98 : decode b_Fo_linkCommand 98 = .ok (.return_, 1) := by decide +kernel
theorem d_Fo_link_0 : decode b_Fo_link 0 = .ok (.iconst 0, 1) := by decide +kernel
theorem d_Fo_link_1 : decode b_Fo_link 1 = .ok (.istore_n 1, 1) := by decide +kernel
theorem d_Fo_link_2 : decode b_Fo_link 2 = .ok (.iload_n 1, 1) := by decide +kernel
theorem d_Fo_link_3 : decode b_Fo_link 3 = .ok (.aload_n 0, 1) := by decide +kernel
theorem d_Fo_link_4 : decode b_Fo_link 4 = .ok (.getfield 18, 3) := by decide +kernel
theorem d_Fo_link_7 : decode b_Fo_link 7 = .ok (.if_icmp .ge 56, 3) := by decide +kernel
theorem d_Fo_link_10 : decode b_Fo_link 10 = .ok (.iconst 0, 1) := by decide +kernel
theorem d_Fo_link_11 : decode b_Fo_link 11 = .ok (.istore_n 2, 1) := by decide +kernel
theorem d_Fo_link_12 : decode b_Fo_link 12 = .ok (.iload_n 2, 1) := by decide +kernel
theorem d_Fo_link_13 : decode b_Fo_link 13 = .ok (.aload_n 0, 1) := by decide +kernel
theorem d_Fo_link_14 : decode b_Fo_link 14 = .ok (.getfield 12, 3) := by decide +kernel
theorem d_Fo_link_17 : decode b_Fo_link 17 = .ok (.getfield 73, 3) := by decide +kernel
theorem d_Fo_link_20 : decode b_Fo_link 20 = .ok (.if_icmp .ge 37, 3) := by decide +kernel
theorem d_Fo_link_23 : decode b_Fo_link 23 = .ok (.aload_n 0, 1) := by decide +kernel
theorem d_Fo_link_24 : decode b_Fo_link 24 = .ok (.getfield 43, 3) := by decide +kernel
theorem d_Fo_link_27 : decode b_Fo_link 27 = .ok (.iload_n 1, 1) := by decide +kernel
theorem d_Fo_link_28 : decode b_Fo_link 28 = .ok (.aaload, 1) := by decide +kernel
theorem d_Fo_link_29 : decode b_Fo_link 29 = .ok (.iload_n 2, 1) := by decide +kernel
theorem d_Fo_link_30 : decode b_Fo_link 30 = .ok (.iconst 0, 1) := by decide +kernel
theorem d_Fo_link_31 : decode b_Fo_link 31 = .ok (.iastore, 1) := by decide +kernel
theorem d_Fo_link_32 : decode b_Fo_link 32 = .ok (.aload_n 0, 1) := by decide +kernel
theorem d_Fo_link_33 : decode b_Fo_link 33 = .ok (.getfield 39, 3) := by decide +kernel
theorem d_Fo_link_36 : decode b_Fo_link 36 = .ok (.iload_n 1, 1) := by decide +kernel
theorem d_Fo_link_37 : decode b_Fo_link 37 = .ok (.iaload, 1) := by decide +kernel
theorem d_Fo_link_38 : decode b_Fo_link 38 = .ok (.iload_n 2, 1) := by decide +kernel
theorem d_Fo_link_39 : decode b_Fo_link 39 = .ok (.invokestatic 74, 3) := by decide +kernel
theorem d_Fo_link_42 : decode b_Fo_link 42 = .ok (.ifCond .eq 9, 3) := by decide +kernel
theorem d_Fo_link_45 : decode b_Fo_link 45 = .ok (.aload_n 0, 1) := by decide +kernel
theorem d_Fo_link_46 : decode b_Fo_link 46 = .ok (.iload_n 1, 1) := by decide +kernel
theorem d_Fo_link_47 : decode b_Fo_link 47 = .ok (.iload_n 2, 1) := by decide +kernel
theorem d_Fo_link_48 : decode b_Fo_link 48 = .ok (.invokevirtual 116, 3) := by decide +kernel
theorem d_Fo_link_51 : decode b_Fo_link 51 = .ok (.iinc 2 1, 3) := by decide +kernel
theorem d_Fo_link_54 : decode b_Fo_link 54 = .ok (.goto (-42), 3) := by decide +kernel
theorem d_Fo_link_57 : decode b_Fo_link 57 = .ok (.iinc 1 1, 3) := by decide +kernel
theorem d_Fo_link_60 : decode b_Fo_link 60 = .ok (.goto (-58), 3) := by decide +kernel
theorem d_Fo_link_63 : decode b_Fo_link 63 = .ok (.return_, 1) := by decide +kernel
theorem d_Fo_choicesOf_0 : decode b_Fo_choicesOf 0 = .ok (.iload_n 1, 1) := by decide +kernel
theorem d_Fo_choicesOf_1 : decode b_Fo_choicesOf 1 = .ok (.aload_n 0, 1) := by decide +kernel
theorem d_Fo_choicesOf_2 : decode b_Fo_choicesOf 2 = .ok (.getfield 28, 3) := by decide +kernel
theorem d_Fo_choicesOf_5 : decode b_Fo_choicesOf 5 = .ok (.if_icmp .ge 12, 3) := by decide +kernel
theorem d_Fo_choicesOf_8 : decode b_Fo_choicesOf 8 = .ok (.aload_n 0, 1) := by decide +kernel
theorem d_Fo_choicesOf_9 : decode b_Fo_choicesOf 9 = .ok (.getfield 39, 3) := by decide +kernel
theorem d_Fo_choicesOf_12 : decode b_Fo_choicesOf 12 = .ok (.iload_n 1, 1) := by decide +kernel
theorem d_Fo_choicesOf_13 : decode b_Fo_choicesOf 13 = .ok (.iaload, 1) := by decide +kernel
theorem d_Fo_choicesOf_14 : decode b_Fo_choicesOf 14 = .ok (.goto 4, 3) := by decide +kernel
theorem d_Fo_choicesOf_17 : decode b_Fo_choicesOf 17 = .ok (.iconst 0, 1) := by decide +kernel
theorem d_Fo_choicesOf_18 : decode b_Fo_choicesOf 18 = .ok (.ireturn, 1) := by decide +kernel
theorem d_At_canComeNearer_0 : decode b_At_canComeNearer 0 = .ok (.iconst 0, 1) := by decide +kernel
theorem d_At_canComeNearer_1 : decode b_At_canComeNearer 1 = .ok (.istore 4, 2) := by decide +kernel
theorem d_At_canComeNearer_3 : decode b_At_canComeNearer 3 = .ok (.iload 4, 2) := by decide +kernel
theorem d_At_canComeNearer_5 : decode b_At_canComeNearer 5 = .ok (.aload_n 1, 1) := by decide +kernel
theorem d_At_canComeNearer_6 : decode b_At_canComeNearer 6 = .ok (.getfield 42, 3) := by decide +kernel
theorem d_At_canComeNearer_9 : decode b_At_canComeNearer 9 = .ok (.getfield 46, 3) := by decide +kernel
theorem d_At_canComeNearer_12 : decode b_At_canComeNearer 12 = .ok (.if_icmp .ge 47, 3) := by decide +kernel
theorem d_At_canComeNearer_15 : decode b_At_canComeNearer 15 = .ok (.aload_n 0, 1) := by decide +kernel
theorem d_At_canComeNearer_16 : decode b_At_canComeNearer 16 = .ok (.getfield 9, 3) := by decide +kernel
theorem d_At_canComeNearer_19 : decode b_At_canComeNearer 19 = .ok (.iload_n 2, 1) := by decide +kernel
theorem d_At_canComeNearer_20 : decode b_At_canComeNearer 20 = .ok (.iaload, 1) := by decide +kernel
theorem d_At_canComeNearer_21 : decode b_At_canComeNearer 21 = .ok (.iload 4, 2) := by decide +kernel
theorem d_At_canComeNearer_23 : decode b_At_canComeNearer 23 = .ok (.invokestatic 24, 3) := by decide +kernel
theorem d_At_canComeNearer_26 : decode b_At_canComeNearer 26 = .ok (.ifCond .eq 27, 3) := by decide +kernel
theorem d_At_canComeNearer_29 : decode b_At_canComeNearer 29 = .ok (.aload_n 1, 1) := by decide +kernel
theorem d_At_canComeNearer_30 : decode b_At_canComeNearer 30 = .ok (.getfield 49, 3) := by decide +kernel
theorem d_At_canComeNearer_33 : decode b_At_canComeNearer 33 = .ok (.iload_n 2, 1) := by decide +kernel
theorem d_At_canComeNearer_34 : decode b_At_canComeNearer 34 = .ok (.aaload, 1) := by decide +kernel
theorem d_At_canComeNearer_35 : decode b_At_canComeNearer 35 = .ok (.iload 4, 2) := by decide +kernel
theorem d_At_canComeNearer_37 : decode b_At_canComeNearer 37 = .ok (.iaload, 1) := by decide +kernel
theorem d_At_canComeNearer_38 : decode b_At_canComeNearer 38 = .ok (.iload_n 3, 1) := by decide +kernel
theorem d_At_canComeNearer_39 : decode b_At_canComeNearer 39 = .ok (.iand, 1) := by decide +kernel
theorem d_At_canComeNearer_40 : decode b_At_canComeNearer 40 = .ok (.ifCond .eq 13, 3) := by decide +kernel
theorem d_At_canComeNearer_43 : decode b_At_canComeNearer 43 = .ok (.aload_n 0, 1) := by decide +kernel
theorem d_At_canComeNearer_44 : decode b_At_canComeNearer 44 = .ok (.getfield 15, 3) := by decide +kernel
theorem d_At_canComeNearer_47 : decode b_At_canComeNearer 47 = .ok (.iload_n 2, 1) := by decide +kernel
theorem d_At_canComeNearer_48 : decode b_At_canComeNearer 48 = .ok (.iload 4, 2) := by decide +kernel
theorem d_At_canComeNearer_50 : decode b_At_canComeNearer 50 = .ok (.iastore, 1) := by decide +kernel
theorem d_At_canComeNearer_51 : decode b_At_canComeNearer 51 = .ok (.iconst 1, 1) := by decide +kernel
theorem d_At_canComeNearer_52 : decode b_At_canComeNearer 52 = .ok (.ireturn, 1) := by decide +kernel
theorem d_At_canComeNearer_53 : decode b_At_canComeNearer 53 = .ok (.iinc 4 1, 3) := by decide +kernel
theorem d_At_canComeNearer_56 : decode b_At_canComeNearer 56 = .ok (.goto (-53), 3) := by decide +kernel
theorem d_At_canComeNearer_59 : decode b_At_canComeNearer 59 = .ok (.iconst 0, 1) := by decide +kernel
theorem d_At_canComeNearer_60 : decode b_At_canComeNearer 60 = .ok (.ireturn, 1) := by decide +kernel
theorem d_At_mustComeNearer_0 : decode b_At_mustComeNearer 0 = .ok (.iconst 0, 1) := by decide +kernel
theorem d_At_mustComeNearer_1 : decode b_At_mustComeNearer 1 = .ok (.istore 4, 2) := by decide +kernel
theorem d_At_mustComeNearer_3 : decode b_At_mustComeNearer 3 = .ok (.iload 4, 2) := by decide +kernel
theorem d_At_mustComeNearer_5 : decode b_At_mustComeNearer 5 = .ok (.aload_n 1, 1) := by decide +kernel
theorem d_At_mustComeNearer_6 : decode b_At_mustComeNearer 6 = .ok (.getfield 42, 3) := by decide +kernel
theorem d_At_mustComeNearer_9 : decode b_At_mustComeNearer 9 = .ok (.getfield 46, 3) := by decide +kernel
theorem d_At_mustComeNearer_12 : decode b_At_mustComeNearer 12 = .ok (.if_icmp .ge 39, 3) := by decide +kernel
theorem d_At_mustComeNearer_15 : decode b_At_mustComeNearer 15 = .ok (.aload_n 0, 1) := by decide +kernel
theorem d_At_mustComeNearer_16 : decode b_At_mustComeNearer 16 = .ok (.getfield 9, 3) := by decide +kernel
theorem d_At_mustComeNearer_19 : decode b_At_mustComeNearer 19 = .ok (.iload_n 2, 1) := by decide +kernel
theorem d_At_mustComeNearer_20 : decode b_At_mustComeNearer 20 = .ok (.iaload, 1) := by decide +kernel
theorem d_At_mustComeNearer_21 : decode b_At_mustComeNearer 21 = .ok (.iload 4, 2) := by decide +kernel
theorem d_At_mustComeNearer_23 : decode b_At_mustComeNearer 23 = .ok (.invokestatic 24, 3) := by decide +kernel
theorem d_At_mustComeNearer_26 : decode b_At_mustComeNearer 26 = .ok (.ifCond .eq 19, 3) := by decide +kernel
theorem d_At_mustComeNearer_29 : decode b_At_mustComeNearer 29 = .ok (.aload_n 1, 1) := by decide +kernel
theorem d_At_mustComeNearer_30 : decode b_At_mustComeNearer 30 = .ok (.getfield 49, 3) := by decide +kernel
theorem d_At_mustComeNearer_33 : decode b_At_mustComeNearer 33 = .ok (.iload_n 2, 1) := by decide +kernel
theorem d_At_mustComeNearer_34 : decode b_At_mustComeNearer 34 = .ok (.aaload, 1) := by decide +kernel
theorem d_At_mustComeNearer_35 : decode b_At_mustComeNearer 35 = .ok (.iload 4, 2) := by decide +kernel
theorem d_At_mustComeNearer_37 : decode b_At_mustComeNearer 37 = .ok (.iaload, 1) := by decide +kernel
theorem d_At_mustComeNearer_38 : decode b_At_mustComeNearer 38 = .ok (.iload_n 3, 1) := by decide +kernel
theorem d_At_mustComeNearer_39 : decode b_At_mustComeNearer 39 = .ok (.iand, 1) := by decide +kernel
theorem d_At_mustComeNearer_40 : decode b_At_mustComeNearer 40 = .ok (.ifCond .ne 5, 3) := by decide +kernel
theorem d_At_mustComeNearer_43 : decode b_At_mustComeNearer 43 = .ok (.iconst 0, 1) := by decide +kernel
theorem d_At_mustComeNearer_44 : decode b_At_mustComeNearer 44 = .ok (.ireturn, 1) := by decide +kernel
theorem d_At_mustComeNearer_45 : decode b_At_mustComeNearer 45 = .ok (.iinc 4 1, 3) := by decide +kernel
theorem d_At_mustComeNearer_48 : decode b_At_mustComeNearer 48 = .ok (.goto (-45), 3) := by decide +kernel
theorem d_At_mustComeNearer_51 : decode b_At_mustComeNearer 51 = .ok (.aload_n 0, 1) := by decide +kernel
theorem d_At_mustComeNearer_52 : decode b_At_mustComeNearer 52 = .ok (.getfield 9, 3) := by decide +kernel
theorem d_At_mustComeNearer_55 : decode b_At_mustComeNearer 55 = .ok (.iload_n 2, 1) := by decide +kernel
theorem d_At_mustComeNearer_56 : decode b_At_mustComeNearer 56 = .ok (.iaload, 1) := by decide +kernel
theorem d_At_mustComeNearer_57 : decode b_At_mustComeNearer 57 = .ok (.ifCond .eq 7, 3) := by decide +kernel
theorem d_At_mustComeNearer_60 : decode b_At_mustComeNearer 60 = .ok (.iconst 1, 1) := by decide +kernel
theorem d_At_mustComeNearer_61 : decode b_At_mustComeNearer 61 = .ok (.goto 4, 3) := by decide +kernel
theorem d_At_mustComeNearer_64 : decode b_At_mustComeNearer 64 = .ok (.iconst 0, 1) := by decide +kernel
theorem d_At_mustComeNearer_65 : decode b_At_mustComeNearer 65 = .ok (.ireturn, 1) := by decide +kernel
theorem d_At_isDrawn_0 : decode b_At_isDrawn 0 = .ok (.aload_n 1, 1) := by decide +kernel
theorem d_At_isDrawn_1 : decode b_At_isDrawn 1 = .ok (.iload_n 2, 1) := by decide +kernel
theorem d_At_isDrawn_2 : decode b_At_isDrawn 2 = .ok (.invokevirtual 32, 3) := by decide +kernel
theorem d_At_isDrawn_5 : decode b_At_isDrawn 5 = .ok (.ifCond .eq 13, 3) := by decide +kernel
theorem d_At_isDrawn_8 : decode b_At_isDrawn 8 = .ok (.aload_n 0, 1) := by decide +kernel
theorem d_At_isDrawn_9 : decode b_At_isDrawn 9 = .ok (.aload_n 1, 1) := by decide +kernel
theorem d_At_isDrawn_10 : decode b_At_isDrawn 10 = .ok (.iload_n 2, 1) := by decide +kernel
theorem d_At_isDrawn_11 : decode b_At_isDrawn 11 = .ok (.iload_n 3, 1) := by decide +kernel
theorem d_At_isDrawn_12 : decode b_At_isDrawn 12 = .ok (.invokevirtual 36, 3) := by decide +kernel
theorem d_At_isDrawn_15 : decode b_At_isDrawn 15 = .ok (.goto 10, 3) := by decide +kernel
