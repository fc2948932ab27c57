theorem d_At_isDrawn_18 : decode b_At_isDrawn 18 = .ok (.aload_n 0, 1) := by decide +kernel
theorem d_At_isDrawn_19 : decode b_At_isDrawn 19 = .ok (.aload_n 1, 1) := by decide +kernel
theorem d_At_isDrawn_20 : decode b_At_isDrawn 20 = .ok (.iload_n 2, 1) := by decide +kernel
theorem d_At_isDrawn_21 : decode b_At_isDrawn 21 = .ok (.iload_n 3, 1) := by decide +kernel
theorem d_At_isDrawn_22 : decode b_At_isDrawn 22 = .ok (.invokevirtual 39, 3) := by decide +kernel
theorem d_At_isDrawn_25 : decode b_At_isDrawn 25 = .ok (.ireturn, 1) := by decide +kernel
theorem d_At_drawnTo_0 : decode b_At_drawnTo 0 = .ok (.iload_n 2, 1) := by decide +kernel
theorem d_At_drawnTo_1 : decode b_At_drawnTo 1 = .ok (.istore_n 3, 1) := by decide +kernel
theorem d_At_drawnTo_2 : decode b_At_drawnTo 2 = .ok (.iconst 0, 1) := by decide +kernel
theorem d_At_drawnTo_3 : decode b_At_drawnTo 3 = .ok (.istore 4, 2) := by decide +kernel
theorem d_At_drawnTo_5 : decode b_At_drawnTo 5 = .ok (.iload 4, 2) := by decide +kernel
theorem d_At_drawnTo_7 : decode b_At_drawnTo 7 = .ok (.aload_n 1, 1) := by decide +kernel
theorem d_At_drawnTo_8 : decode b_At_drawnTo 8 = .ok (.getfield 18, 3) := by decide +kernel
theorem d_At_drawnTo_11 : decode b_At_drawnTo 11 = .ok (.if_icmp .ge 54, 3) := by decide +kernel
theorem d_At_drawnTo_14 : decode b_At_drawnTo 14 = .ok (.iconst 0, 1) := by decide +kernel
theorem d_At_drawnTo_15 : decode b_At_drawnTo 15 = .ok (.istore 5, 2) := by decide +kernel
theorem d_At_drawnTo_17 : decode b_At_drawnTo 17 = .ok (.iload 5, 2) := by decide +kernel
theorem d_At_drawnTo_19 : decode b_At_drawnTo 19 = .ok (.aload_n 1, 1) := by decide +kernel
theorem d_At_drawnTo_20 : decode b_At_drawnTo 20 = .ok (.getfield 18, 3) := by decide +kernel
theorem d_At_drawnTo_23 : decode b_At_drawnTo 23 = .ok (.if_icmp .ge 36, 3) := by decide +kernel
theorem d_At_drawnTo_26 : decode b_At_drawnTo 26 = .ok (.iload_n 3, 1) := by decide +kernel
theorem d_At_drawnTo_27 : decode b_At_drawnTo 27 = .ok (.iload 5, 2) := by decide +kernel
theorem d_At_drawnTo_29 : decode b_At_drawnTo 29 = .ok (.invokestatic 24, 3) := by decide +kernel
theorem d_At_drawnTo_32 : decode b_At_drawnTo 32 = .ok (.ifCond .ne 21, 3) := by decide +kernel
theorem d_At_drawnTo_35 : decode b_At_drawnTo 35 = .ok (.aload_n 0, 1) := by decide +kernel
theorem d_At_drawnTo_36 : decode b_At_drawnTo 36 = .ok (.aload_n 1, 1) := by decide +kernel
theorem d_At_drawnTo_37 : decode b_At_drawnTo 37 = .ok (.iload 5, 2) := by decide +kernel
theorem d_At_drawnTo_39 : decode b_At_drawnTo 39 = .ok (.iload_n 3, 1) := by decide +kernel
theorem d_At_drawnTo_40 : decode b_At_drawnTo 40 = .ok (.invokevirtual 28, 3) := by decide +kernel
theorem d_At_drawnTo_43 : decode b_At_drawnTo 43 = .ok (.ifCond .eq 10, 3) := by decide +kernel
theorem d_At_drawnTo_46 : decode b_At_drawnTo 46 = .ok (.iload_n 3, 1) := by decide +kernel
theorem d_At_drawnTo_47 : decode b_At_drawnTo 47 = .ok (.iconst 1, 1) := by decide +kernel
theorem d_At_drawnTo_48 : decode b_At_drawnTo 48 = .ok (.iload 5, 2) := by decide +kernel
theorem d_At_drawnTo_50 : decode b_At_drawnTo 50 = .ok (.ishl, 1) := by decide +kernel
theorem d_At_drawnTo_51 : decode b_At_drawnTo 51 = .ok (.ior, 1) := by decide +kernel
theorem d_At_drawnTo_52 : decode b_At_drawnTo 52 = .ok (.istore_n 3, 1) := by decide +kernel
theorem d_At_drawnTo_53 : decode b_At_drawnTo 53 = .ok (.iinc 5 1, 3) := by decide +kernel
theorem d_At_drawnTo_56 : decode b_At_drawnTo 56 = .ok (.goto (-39), 3) := by decide +kernel
theorem d_At_drawnTo_59 : decode b_At_drawnTo 59 = .ok (.iinc 4 1, 3) := by decide +kernel
theorem d_At_drawnTo_62 : decode b_At_drawnTo 62 = .ok (.goto (-57), 3) := by decide +kernel
theorem d_At_drawnTo_65 : decode b_At_drawnTo 65 = .ok (.iload_n 3, 1) := by decide +kernel
theorem d_At_drawnTo_66 : decode b_At_drawnTo 66 = .ok (.ireturn, 1) := by decide +kernel
theorem d_CG_firstBit_0 : decode b_CG_firstBit 0 = .ok (.iconst 0, 1) := by decide +kernel
theorem d_CG_firstBit_1 : decode b_CG_firstBit 1 = .ok (.istore_n 1, 1) := by decide +kernel
theorem d_CG_firstBit_2 : decode b_CG_firstBit 2 = .ok (.iload_n 1, 1) := by decide +kernel
theorem d_CG_firstBit_3 : decode b_CG_firstBit 3 = .ok (.bipush 10, 2) := by decide +kernel
theorem d_CG_firstBit_5 : decode b_CG_firstBit 5 = .ok (.if_icmp .ge 19, 3) := by decide +kernel
theorem d_CG_firstBit_8 : decode b_CG_firstBit 8 = .ok (.iload_n 0, 1) := by decide +kernel
theorem d_CG_firstBit_9 : decode b_CG_firstBit 9 = .ok (.iload_n 1, 1) := by decide +kernel
theorem d_CG_firstBit_10 : decode b_CG_firstBit 10 = .ok (.invokestatic 117, 3) := by decide +kernel
theorem d_CG_firstBit_13 : decode b_CG_firstBit 13 = .ok (.ifCond .eq 5, 3) := by decide +kernel
theorem d_CG_firstBit_16 : decode b_CG_firstBit 16 = .ok (.iload_n 1, 1) := by decide +kernel
theorem d_CG_firstBit_17 : decode b_CG_firstBit 17 = .ok (.ireturn, 1) := by decide +kernel
theorem d_CG_firstBit_18 : decode b_CG_firstBit 18 = .ok (.iinc 1 1, 3) := by decide +kernel
theorem d_CG_firstBit_21 : decode b_CG_firstBit 21 = .ok (.goto (-19), 3) := by decide +kernel
theorem d_CG_firstBit_24 : decode b_CG_firstBit 24 = .ok (.iconst (-1), 1) := by decide +kernel
theorem d_CG_firstBit_25 : decode b_CG_firstBit 25 = .ok (.ireturn, 1) := by decide +kernel
theorem d_Va_chooseFirst_0 : decode b_Va_chooseFirst 0 = .ok (.iconst 0, 1) := by decide +kernel
theorem d_Va_chooseFirst_1 : decode b_Va_chooseFirst 1 = .ok (.istore_n 1, 1) := by decide +kernel
theorem d_Va_chooseFirst_2 : decode b_Va_chooseFirst 2 = .ok (.iload_n 1, 1) := by decide +kernel
theorem d_Va_chooseFirst_3 : decode b_Va_chooseFirst 3 = .ok (.aload_n 0, 1) := by decide +kernel
theorem d_Va_chooseFirst_4 : decode b_Va_chooseFirst 4 = .ok (.getfield 12, 3) := by decide +kernel
theorem d_Va_chooseFirst_7 : decode b_Va_chooseFirst 7 = .ok (.getfield 54, 3) := by decide +kernel
theorem d_Va_chooseFirst_10 : decode b_Va_chooseFirst 10 = .ok (.if_icmp .ge 26, 3) := by decide +kernel
theorem d_Va_chooseFirst_13 : decode b_Va_chooseFirst 13 = .ok (.aload_n 0, 1) := by decide +kernel
theorem d_Va_chooseFirst_14 : decode b_Va_chooseFirst 14 = .ok (.getfield 21, 3) := by decide +kernel
theorem d_Va_chooseFirst_17 : decode b_Va_chooseFirst 17 = .ok (.getfield 94, 3) := by decide +kernel
theorem d_Va_chooseFirst_20 : decode b_Va_chooseFirst 20 = .ok (.iload_n 1, 1) := by decide +kernel
theorem d_Va_chooseFirst_21 : decode b_Va_chooseFirst 21 = .ok (.aload_n 0, 1) := by decide +kernel
theorem d_Va_chooseFirst_22 : decode b_Va_chooseFirst 22 = .ok (.getfield 12, 3) := by decide +kernel
theorem d_Va_chooseFirst_25 : decode b_Va_chooseFirst 25 = .ok (.iload_n 1, 1) := by decide +kernel
theorem d_Va_chooseFirst_26 : decode b_Va_chooseFirst 26 = .ok (.invokevirtual 97, 3) := by decide +kernel
theorem d_Va_chooseFirst_29 : decode b_Va_chooseFirst 29 = .ok (.iastore, 1) := by decide +kernel
theorem d_Va_chooseFirst_30 : decode b_Va_chooseFirst 30 = .ok (.iinc 1 1, 3) := by decide +kernel
theorem d_Va_chooseFirst_33 : decode b_Va_chooseFirst 33 = .ok (.goto (-31), 3) := by decide +kernel
theorem d_Va_chooseFirst_36 : decode b_Va_chooseFirst 36 = .ok (.aload_n 0, 1) := by decide +kernel
theorem d_Va_chooseFirst_37 : decode b_Va_chooseFirst 37 = .ok (.aload_n 0, 1) := by decide +kernel
theorem d_Va_chooseFirst_38 : decode b_Va_chooseFirst 38 = .ok (.getfield 21, 3) := by decide +kernel
theorem d_Va_chooseFirst_41 : decode b_Va_chooseFirst 41 = .ok (.aload_n 0, 1) := by decide +kernel
theorem d_Va_chooseFirst_42 : decode b_Va_chooseFirst 42 = .ok (.getfield 12, 3) := by decide +kernel
theorem d_Va_chooseFirst_45 : decode b_Va_chooseFirst 45 = .ok (.aload_n 0, 1) := by decide +kernel
theorem d_Va_chooseFirst_46 : decode b_Va_chooseFirst 46 = .ok (.getfield 12, 3) := by decide +kernel
theorem d_Va_chooseFirst_49 : decode b_Va_chooseFirst 49 = .ok (.getfield 101, 3) := by decide +kernel
theorem d_Va_chooseFirst_52 : decode b_Va_chooseFirst 52 = .ok (.invokevirtual 104, 3) := by decide +kernel
theorem d_Va_chooseFirst_55 : decode b_Va_chooseFirst 55 = .ok (.putfield 36, 3) := by decide +kernel
theorem d_Va_chooseFirst_58 : decode b_Va_chooseFirst 58 = .ok (.iconst 0, 1) := by decide +kernel
theorem d_Va_chooseFirst_59 : decode b_Va_chooseFirst 59 = .ok (.istore_n 1, 1) := by decide +kernel
theorem d_Va_chooseFirst_60 : decode b_Va_chooseFirst 60 = .ok (.iload_n 1, 1) := by decide +kernel
theorem d_Va_chooseFirst_61 : decode b_Va_chooseFirst 61 = .ok (.aload_n 0, 1) := by decide +kernel
theorem d_Va_chooseFirst_62 : decode b_Va_chooseFirst 62 = .ok (.getfield 12, 3) := by decide +kernel
theorem d_Va_chooseFirst_65 : decode b_Va_chooseFirst 65 = .ok (.getfield 54, 3) := by decide +kernel
theorem d_Va_chooseFirst_68 : decode b_Va_chooseFirst 68 = .ok (.if_icmp .ge 49, 3) := by decide +kernel
theorem d_Va_chooseFirst_71 : decode b_Va_chooseFirst 71 = .ok (.aload_n 0, 1) := by decide +kernel
theorem d_Va_chooseFirst_72 : decode b_Va_chooseFirst 72 = .ok (.getfield 32, 3) := by decide +kernel
theorem d_Va_chooseFirst_75 : decode b_Va_chooseFirst 75 = .ok (.iload_n 1, 1) := by decide +kernel
theorem d_Va_chooseFirst_76 : decode b_Va_chooseFirst 76 = .ok (.aload_n 0, 1) := by decide +kernel
theorem d_Va_chooseFirst_77 : decode b_Va_chooseFirst 77 = .ok (.getfield 12, 3) := by decide +kernel
theorem d_Va_chooseFirst_80 : decode b_Va_chooseFirst 80 = .ok (.iload_n 1, 1) := by decide +kernel
theorem d_Va_chooseFirst_81 : decode b_Va_chooseFirst 81 = .ok (.invokevirtual 108, 3) := by decide +kernel
theorem d_Va_chooseFirst_84 : decode b_Va_chooseFirst 84 = .ok (.ifCond .eq 15, 3) := by decide +kernel
theorem d_Va_chooseFirst_87 : decode b_Va_chooseFirst 87 = .ok (.aload_n 0, 1) := by decide +kernel
theorem d_Va_chooseFirst_88 : decode b_Va_chooseFirst 88 = .ok (.getfield 21, 3) := by decide +kernel
theorem d_Va_chooseFirst_91 : decode b_Va_chooseFirst 91 = .ok (.getfield 112, 3) := by decide +kernel
theorem d_Va_chooseFirst_94 : decode b_Va_chooseFirst 94 = .ok (.iload_n 1, 1) := by decide +kernel
theorem d_Va_chooseFirst_95 : decode b_Va_chooseFirst 95 = .ok (.iaload, 1) := by decide +kernel
theorem d_Va_chooseFirst_96 : decode b_Va_chooseFirst 96 = .ok (.goto 14, 3) := by decide +kernel
theorem d_Va_chooseFirst_99 : decode b_Va_chooseFirst 99 = .ok (.aload_n 0, 1) := by decide +kernel
theorem d_Va_chooseFirst_100 : decode b_Va_chooseFirst 100 = .ok (.getfield 12, 3) := by decide +kernel
theorem d_Va_chooseFirst_103 : decode b_Va_chooseFirst 103 = .ok (.iload_n 1, 1) := by decide +kernel
theorem d_Va_chooseFirst_104 : decode b_Va_chooseFirst 104 = .ok (.invokevirtual 97, 3) := by decide +kernel
theorem d_Va_chooseFirst_107 : decode b_Va_chooseFirst 107 = .ok (.invokestatic 115, 3) := by decide +kernel
theorem d_Va_chooseFirst_110 : decode b_Va_chooseFirst 110 = .ok (.iastore, 1) := by decide +kernel
theorem d_Va_chooseFirst_111 : decode b_Va_chooseFirst 111 = .ok (.iinc 1 1, 3) := by decide +kernel
theorem d_Va_chooseFirst_114 : decode b_Va_chooseFirst 114 = .ok (.goto (-54), 3) := by decide +kernel
theorem d_Va_chooseFirst_117 : decode b_Va_chooseFirst 117 = .ok (.return_, 1) := by decide +kernel
theorem d_Eq_clear_0 : decode b_Eq_clear 0 = .ok (.iconst 0, 1) := by decide +kernel
theorem d_Eq_clear_1 : decode b_Eq_clear 1 = .ok (.istore_n 1, 1) := by decide +kernel
theorem d_Eq_clear_2 : decode b_Eq_clear 2 = .ok (.iload_n 1, 1) := by decide +kernel
theorem d_Eq_clear_3 : decode b_Eq_clear 3 = .ok (.bipush 8, 2) := by decide +kernel
theorem d_Eq_clear_5 : decode b_Eq_clear 5 = .ok (.if_icmp .ge 32, 3) := by decide +kernel
theorem d_Eq_clear_8 : decode b_Eq_clear 8 = .ok (.iconst 0, 1) := by decide +kernel
theorem d_Eq_clear_9 : decode b_Eq_clear 9 = .ok (.istore_n 2, 1) := by decide +kernel
theorem d_Eq_clear_10 : decode b_Eq_clear 10 = .ok (.iload_n 2, 1) := by decide +kernel
theorem d_Eq_clear_11 : decode b_Eq_clear 11 = .ok (.bipush 8, 2) := by decide +kernel
theorem d_Eq_clear_13 : decode b_Eq_clear 13 = .ok (.if_icmp .gt 18, 3) := by decide +kernel
theorem d_Eq_clear_16 : decode b_Eq_clear 16 = .ok (.aload_n 0, 1) := by decide +kernel
theorem d_Eq_clear_17 : decode b_Eq_clear 17 = .ok (.getfield 11, 3) := by decide +kernel
theorem d_Eq_clear_20 : decode b_Eq_clear 20 = .ok (.iload_n 1, 1) := by decide +kernel
theorem d_Eq_clear_21 : decode b_Eq_clear 21 = .ok (.aaload, 1) := by decide +kernel
theorem d_Eq_clear_22 : decode b_Eq_clear 22 = .ok (.iload_n 2, 1) := by decide +kernel
theorem d_Eq_clear_23 : decode b_Eq_clear 23 = .ok (.lconst 0, 1) := by decide +kernel
theorem d_Eq_clear_24 : decode b_Eq_clear 24 = .ok (.lastore, 1) := by decide +kernel
theorem d_Eq_clear_25 : decode b_Eq_clear 25 = .ok (.iinc 2 1, 3) := by decide +kernel
theorem d_Eq_clear_28 : decode b_Eq_clear 28 = .ok (.goto (-18), 3) := by decide +kernel
theorem d_Eq_clear_31 : decode b_Eq_clear 31 = .ok (.iinc 1 1, 3) := by decide +kernel
theorem d_Eq_clear_34 : decode b_Eq_clear 34 = .ok (.goto (-32), 3) := by decide +kernel
theorem d_Eq_clear_37 : decode b_Eq_clear 37 = .ok (.return_, 1) := by decide +kernel
theorem d_Va_isOpen_0 : decode b_Va_isOpen 0 = .ok (.aload_n 0, 1) := by decide +kernel
theorem d_Va_isOpen_1 : decode b_Va_isOpen 1 = .ok (.getfield 36, 3) := by decide +kernel
theorem d_Va_isOpen_4 : decode b_Va_isOpen 4 = .ok (.iload_n 1, 1) := by decide +kernel
theorem d_Va_isOpen_5 : decode b_Va_isOpen 5 = .ok (.invokestatic 118, 3) := by decide +kernel
theorem d_Va_isOpen_8 : decode b_Va_isOpen 8 = .ok (.ifCond .eq 21, 3) := by decide +kernel
theorem d_Va_isOpen_11 : decode b_Va_isOpen 11 = .ok (.aload_n 0, 1) := by decide +kernel
theorem d_Va_isOpen_12 : decode b_Va_isOpen 12 = .ok (.getfield 12, 3) := by decide +kernel
theorem d_Va_isOpen_15 : decode b_Va_isOpen 15 = .ok (.getfield 101, 3) := by decide +kernel
theorem d_Va_isOpen_18 : decode b_Va_isOpen 18 = .ok (.iload_n 1, 1) := by decide +kernel
theorem d_Va_isOpen_19 : decode b_Va_isOpen 19 = .ok (.invokestatic 118, 3) := by decide +kernel
theorem d_Va_isOpen_22 : decode b_Va_isOpen 22 = .ok (.ifCond .ne 7, 3) := by decide +kernel
theorem d_Va_isOpen_25 : decode b_Va_isOpen 25 = .ok (.iconst 1, 1) := by decide +kernel
theorem d_Va_isOpen_26 : decode b_Va_isOpen 26 = .ok (.goto 4, 3) := by decide +kernel
theorem d_Va_isOpen_29 : decode b_Va_isOpen 29 = .ok (.iconst 0, 1) := by decide +kernel
theorem d_Va_isOpen_30 : decode b_Va_isOpen 30 = .ok (.ireturn, 1) := by decide +kernel
theorem d_Fo_next_0 : decode b_Fo_next 0 = .ok (.aload_n 0, 1) := by decide +kernel
theorem d_Fo_next_1 : decode b_Fo_next 1 = .ok (.getfield 46, 3) := by decide +kernel
theorem d_Fo_next_4 : decode b_Fo_next 4 = .ok (.iload_n 1, 1) := by decide +kernel
theorem d_Fo_next_5 : decode b_Fo_next 5 = .ok (.aaload, 1) := by decide +kernel
theorem d_Fo_next_6 : decode b_Fo_next 6 = .ok (.iload_n 2, 1) := by decide +kernel
theorem d_Fo_next_7 : decode b_Fo_next 7 = .ok (.iconst 4, 1) := by decide +kernel
theorem d_Fo_next_8 : decode b_Fo_next 8 = .ok (.imul, 1) := by decide +kernel
theorem d_Fo_next_9 : decode b_Fo_next 9 = .ok (.iload_n 3, 1) := by decide +kernel
theorem d_Fo_next_10 : decode b_Fo_next 10 = .ok (.iadd, 1) := by decide +kernel
theorem d_Fo_next_11 : decode b_Fo_next 11 = .ok (.iaload, 1) := by decide +kernel
theorem d_Fo_next_12 : decode b_Fo_next 12 = .ok (.ireturn, 1) := by decide +kernel
theorem d_Va_setEquation_0 : decode b_Va_setEquation 0 = .ok (.aload_n 0, 1) := by decide +kernel
theorem d_Va_setEquation_1 : decode b_Va_setEquation 1 = .ok (.getfield 12, 3) := by decide +kernel
theorem d_Va_setEquation_4 : decode b_Va_setEquation 4 = .ok (.getfield 79, 3) := by decide +kernel
theorem d_Va_setEquation_7 : decode b_Va_setEquation 7 = .ok (.getfield 83, 3) := by decide +kernel
theorem d_Va_setEquation_10 : decode b_Va_setEquation 10 = .ok (.iload_n 3, 1) := by decide +kernel
theorem d_Va_setEquation_11 : decode b_Va_setEquation 11 = .ok (.aaload, 1) := by decide +kernel
theorem d_Va_setEquation_12 : decode b_Va_setEquation 12 = .ok (.astore 4, 2) := by decide +kernel
theorem d_Va_setEquation_14 : decode b_Va_setEquation 14 = .ok (.aload_n 1, 1) := by decide +kernel
theorem d_Va_setEquation_15 : decode b_Va_setEquation 15 = .ok (.iload_n 2, 1) := by decide +kernel
theorem d_Va_setEquation_16 : decode b_Va_setEquation 16 = .ok (.dup2, 1) := by decide +kernel
theorem d_Va_setEquation_17 : decode b_Va_setEquation 17 = .ok (.laload, 1) := by decide +kernel
theorem d_Va_setEquation_18 : decode b_Va_setEquation 18 = .ok (.aload 4, 2) := by decide +kernel
theorem d_Va_setEquation_20 : decode b_Va_setEquation 20 = .ok (.getfield 89, 3) := by decide +kernel
theorem d_Va_setEquation_23 : decode b_Va_setEquation 23 = .ok (.i2l, 1) := by decide +kernel
theorem d_Va_setEquation_24 : decode b_Va_setEquation 24 = .ok (.ladd, 1) := by decide +kernel
theorem d_Va_setEquation_25 : decode b_Va_setEquation 25 = .ok (.lastore, 1) := by decide +kernel
theorem d_Va_setEquation_26 : decode b_Va_setEquation 26 = .ok (.iconst 0, 1) := by decide +kernel
theorem d_Va_setEquation_27 : decode b_Va_setEquation 27 = .ok (.istore 5, 2) := by decide +kernel
theorem d_Va_setEquation_29 : decode b_Va_setEquation 29 = .ok (.iload 5, 2) := by decide +kernel
theorem d_Va_setEquation_31 : decode b_Va_setEquation 31 = .ok (.aload 4, 2) := by decide +kernel
theorem d_Va_setEquation_33 : decode b_Va_setEquation 33 = .ok (.getfield 136, 3) := by decide +kernel
theorem d_Va_setEquation_36 : decode b_Va_setEquation 36 = .ok (.if_icmp .ge 37, 3) := by decide +kernel
theorem d_Va_setEquation_39 : decode b_Va_setEquation 39 = .ok (.aload_n 1, 1) := by decide +kernel
theorem d_Va_setEquation_40 : decode b_Va_setEquation 40 = .ok (.aload_n 0, 1) := by decide +kernel
theorem d_Va_setEquation_41 : decode b_Va_setEquation 41 = .ok (.getfield 12, 3) := by decide +kernel
theorem d_Va_setEquation_44 : decode b_Va_setEquation 44 = .ok (.iload_n 2, 1) := by decide +kernel
theorem d_Va_setEquation_45 : decode b_Va_setEquation 45 = .ok (.iload_n 3, 1) := by decide +kernel
theorem d_Va_setEquation_46 : decode b_Va_setEquation 46 = .ok (.iload 5, 2) := by decide +kernel
theorem d_Va_setEquation_48 : decode b_Va_setEquation 48 = .ok (.invokevirtual 137, 3) := by decide +kernel
theorem d_Va_setEquation_51 : decode b_Va_setEquation 51 = .ok (.dup2, 1) := by decide +kernel
theorem d_Va_setEquation_52 : decode b_Va_setEquation 52 = .ok (.laload, 1) := by decide +kernel
theorem d_Va_setEquation_53 : decode b_Va_setEquation 53 = .ok (.aload 4, 2) := by decide +kernel
theorem d_Va_setEquation_55 : decode b_Va_setEquation 55 = .ok (.getfield 141, 3) := by decide +kernel
theorem d_Va_setEquation_58 : decode b_Va_setEquation 58 = .ok (.iload 5, 2) := by decide +kernel
theorem d_Va_setEquation_60 : decode b_Va_setEquation 60 = .ok (.aaload, 1) := by decide +kernel
theorem d_Va_setEquation_61 : decode b_Va_setEquation 61 = .ok (.getfield 145, 3) := by decide +kernel
theorem d_Va_setEquation_64 : decode b_Va_setEquation 64 = .ok (.i2l, 1) := by decide +kernel
theorem d_Va_setEquation_65 : decode b_Va_setEquation 65 = .ok (.lsub, 1) := by decide +kernel
theorem d_Va_setEquation_66 : decode b_Va_setEquation 66 = .ok (.lastore, 1) := by decide +kernel
theorem d_Va_setEquation_67 : decode b_Va_setEquation 67 = .ok (.iinc 5 1, 3) := by decide +kernel
theorem d_Va_setEquation_70 : decode b_Va_setEquation 70 = .ok (.goto (-41), 3) := by decide +kernel
theorem d_Va_setEquation_73 : decode b_Va_setEquation 73 = .ok (.return_, 1) := by decide +kernel
theorem d_Va_setEquations_0 : decode b_Va_setEquations 0 = .ok (.aload_n 0, 1) := by decide +kernel
theorem d_Va_setEquations_1 : decode b_Va_setEquations 1 = .ok (.getfield 28, 3) := by decide +kernel
theorem d_Va_setEquations_4 : decode b_Va_setEquations 4 = .ok (.invokevirtual 122, 3) := by decide +kernel
theorem d_Va_setEquations_7 : decode b_Va_setEquations 7 = .ok (.iconst 0, 1) := by decide +kernel
theorem d_Va_setEquations_8 : decode b_Va_setEquations 8 = .ok (.istore_n 1, 1) := by decide +kernel
theorem d_Va_setEquations_9 : decode b_Va_setEquations 9 = .ok (.iload_n 1, 1) := by decide +kernel
theorem d_Va_setEquations_10 : decode b_Va_setEquations 10 = .ok (.aload_n 0, 1) := by decide +kernel
theorem d_Va_setEquations_11 : decode b_Va_setEquations 11 = .ok (.getfield 12, 3) := by decide +kernel
theorem d_Va_setEquations_14 : decode b_Va_setEquations 14 = .ok (.getfield 54, 3) := by decide +kernel
theorem d_Va_setEquations_17 : decode b_Va_setEquations 17 = .ok (.if_icmp .ge 88, 3) := by decide +kernel
theorem d_Va_setEquations_20 : decode b_Va_setEquations 20 = .ok (.aload_n 0, 1) := by decide +kernel
theorem d_Va_setEquations_21 : decode b_Va_setEquations 21 = .ok (.iload_n 1, 1) := by decide +kernel
theorem d_Va_setEquations_22 : decode b_Va_setEquations 22 = .ok (.invokevirtual 125, 3) := by decide +kernel
theorem d_Va_setEquations_25 : decode b_Va_setEquations 25 = .ok (.ifCond .eq 26, 3) := by decide +kernel
theorem d_Va_setEquations_28 : decode b_Va_setEquations 28 = .ok (.aload_n 0, 1) := by decide +kernel
theorem d_Va_setEquations_29 : decode b_Va_setEquations 29 = .ok (.aload_n 0, 1) := by decide +kernel
theorem d_Va_setEquations_30 : decode b_Va_setEquations 30 = .ok (.getfield 28, 3) := by decide +kernel
theorem d_Va_setEquations_33 : decode b_Va_setEquations 33 = .ok (.getfield 128, 3) := by decide +kernel
theorem d_Va_setEquations_36 : decode b_Va_setEquations 36 = .ok (.iload_n 1, 1) := by decide +kernel
theorem d_Va_setEquations_37 : decode b_Va_setEquations 37 = .ok (.aaload, 1) := by decide +kernel
theorem d_Va_setEquations_38 : decode b_Va_setEquations 38 = .ok (.iload_n 1, 1) := by decide +kernel
theorem d_Va_setEquations_39 : decode b_Va_setEquations 39 = .ok (.aload_n 0, 1) := by decide +kernel
theorem d_Va_setEquations_40 : decode b_Va_setEquations 40 = .ok (.getfield 32, 3) := by decide +kernel
theorem d_Va_setEquations_43 : decode b_Va_setEquations 43 = .ok (.iload_n 1, 1) := by decide +kernel
theorem d_Va_setEquations_44 : decode b_Va_setEquations 44 = .ok (.iaload, 1) := by decide +kernel
theorem d_Va_setEquations_45 : decode b_Va_setEquations 45 = .ok (.invokevirtual 132, 3) := by decide +kernel
theorem d_Va_setEquations_48 : decode b_Va_setEquations 48 = .ok (.goto 51, 3) := by decide +kernel
theorem d_Va_setEquations_51 : decode b_Va_setEquations 51 = .ok (.aload_n 0, 1) := by decide +kernel
theorem d_Va_setEquations_52 : decode b_Va_setEquations 52 = .ok (.getfield 28, 3) := by decide +kernel
theorem d_Va_setEquations_55 : decode b_Va_setEquations 55 = .ok (.getfield 128, 3) := by decide +kernel
theorem d_Va_setEquations_58 : decode b_Va_setEquations 58 = .ok (.iload_n 1, 1) := by decide +kernel
theorem d_Va_setEquations_59 : decode b_Va_setEquations 59 = .ok (.aaload, 1) := by decide +kernel
theorem d_Va_setEquations_60 : decode b_Va_setEquations 60 = .ok (.iload_n 1, 1) := by decide +kernel
theorem d_Va_setEquations_61 : decode b_Va_setEquations 61 = .ok (.lconst 1, 1) := by decide +kernel
theorem d_Va_setEquations_62 : decode b_Va_setEquations 62 = .ok (.lastore, 1) := by decide +kernel
theorem d_Va_setEquations_63 : decode b_Va_setEquations 63 = .ok (.aload_n 0, 1) := by decide +kernel
theorem d_Va_setEquations_64 : decode b_Va_setEquations 64 = .ok (.getfield 28, 3) := by decide +kernel
theorem d_Va_setEquations_67 : decode b_Va_setEquations 67 = .ok (.getfield 128, 3) := by decide +kernel
theorem d_Va_setEquations_70 : decode b_Va_setEquations 70 = .ok (.iload_n 1, 1) := by decide +kernel
theorem d_Va_setEquations_71 : decode b_Va_setEquations 71 = .ok (.aaload, 1) := by decide +kernel
theorem d_Va_setEquations_72 : decode b_Va_setEquations 72 = .ok (.aload_n 0, 1) := by decide +kernel
theorem d_Va_setEquations_73 : decode b_Va_setEquations 73 = .ok (.getfield 12, 3) := by decide +kernel
theorem d_Va_setEquations_76 : decode b_Va_setEquations 76 = .ok (.getfield 54, 3) := by decide +kernel
theorem d_Va_setEquations_79 : decode b_Va_setEquations 79 = .ok (.aload_n 0, 1) := by decide +kernel
theorem d_Va_setEquations_80 : decode b_Va_setEquations 80 = .ok (.getfield 12, 3) := by decide +kernel
theorem d_Va_setEquations_83 : decode b_Va_setEquations 83 = .ok (.getfield 101, 3) := by decide +kernel
theorem d_Va_setEquations_86 : decode b_Va_setEquations 86 = .ok (.iload_n 1, 1) := by decide +kernel
theorem d_Va_setEquations_87 : decode b_Va_setEquations 87 = .ok (.invokestatic 118, 3) := by decide +kernel
theorem d_Va_setEquations_90 : decode b_Va_setEquations 90 = .ok (.ifCond .eq 7, 3) := by decide +kernel
theorem d_Va_setEquations_93 : decode b_Va_setEquations 93 = .ok (.lconst 1, 1) := by decide +kernel
theorem d_Va_setEquations_94 : decode b_Va_setEquations 94 = .ok (.goto 4, 3) := by decide +kernel
theorem d_Va_setEquations_97 : decode b_Va_setEquations 97 = .ok (.lconst 0, 1) := by decide +kernel
theorem d_Va_setEquations_98 : decode b_Va_setEquations 98 = .ok (.lastore, 1) := by decide +kernel
theorem d_Va_setEquations_99 : decode b_Va_setEquations 99 = .ok (.iinc 1 1, 3) := by decide +kernel
theorem d_Va_setEquations_102 : decode b_Va_setEquations 102 = .ok (.goto (-93), 3) := by decide +kernel
theorem d_Va_setEquations_105 : decode b_Va_setEquations 105 = .ok (.return_, 1) := by decide +kernel
theorem d_Eq_eliminate_0 : decode b_Eq_eliminate 0 = .ok (.aload_n 0, 1) := by decide +kernel
theorem d_Eq_eliminate_1 : decode b_Eq_eliminate 1 = .ok (.getfield 20, 3) := by decide +kernel
theorem d_Eq_eliminate_4 : decode b_Eq_eliminate 4 = .ok (.lconst 0, 1) := by decide +kernel
theorem d_Eq_eliminate_5 : decode b_Eq_eliminate 5 = .ok (.lcmp, 1) := by decide +kernel
theorem d_Eq_eliminate_6 : decode b_Eq_eliminate 6 = .ok (.ifCond .ne 4, 3) := by decide +kernel
theorem d_Eq_eliminate_9 : decode b_Eq_eliminate 9 = .ok (.return_, 1) := by decide +kernel
theorem d_Eq_eliminate_10 : decode b_Eq_eliminate 10 = .ok (.aload_n 0, 1) := by decide +kernel
theorem d_Eq_eliminate_11 : decode b_Eq_eliminate 11 = .ok (.getfield 11, 3) := by decide +kernel
theorem d_Eq_eliminate_14 : decode b_Eq_eliminate 14 = .ok (.iload_n 2, 1) := by decide +kernel
theorem d_Eq_eliminate_15 : decode b_Eq_eliminate 15 = .ok (.aaload, 1) := by decide +kernel
theorem d_Eq_eliminate_16 : decode b_Eq_eliminate 16 = .ok (.iload_n 2, 1) := by decide +kernel
theorem d_Eq_eliminate_17 : decode b_Eq_eliminate 17 = .ok (.laload, 1) := by decide +kernel
theorem d_Eq_eliminate_18 : decode b_Eq_eliminate 18 = .ok (.lstore 4, 2) := by decide +kernel
theorem d_Eq_eliminate_20 : decode b_Eq_eliminate 20 = .ok (.aload_n 0, 1) := by decide +kernel
theorem d_Eq_eliminate_21 : decode b_Eq_eliminate 21 = .ok (.getfield 11, 3) := by decide +kernel
theorem d_Eq_eliminate_24 : decode b_Eq_eliminate 24 = .ok (.iload_n 1, 1) := by decide +kernel
theorem d_Eq_eliminate_25 : decode b_Eq_eliminate 25 = .ok (.aaload, 1) := by decide +kernel
theorem d_Eq_eliminate_26 : decode b_Eq_eliminate 26 = .ok (.iload_n 2, 1) := by decide +kernel
theorem d_Eq_eliminate_27 : decode b_Eq_eliminate 27 = .ok (.laload, 1) := by decide +kernel
theorem d_Eq_eliminate_28 : decode b_Eq_eliminate 28 = .ok (.lstore 6, 2) := by decide +kernel
theorem d_Eq_eliminate_30 : decode b_Eq_eliminate 30 = .ok (.iload_n 2, 1) := by decide +kernel
theorem d_Eq_eliminate_31 : decode b_Eq_eliminate 31 = .ok (.iconst 1, 1) := by decide +kernel
theorem d_Eq_eliminate_32 : decode b_Eq_eliminate 32 = .ok (.iadd, 1) := by decide +kernel
theorem d_Eq_eliminate_33 : decode b_Eq_eliminate 33 = .ok (.istore 8, 2) := by decide +kernel
theorem d_Eq_eliminate_35 : decode b_Eq_eliminate 35 = .ok (.iload 8, 2) := by decide +kernel
theorem d_Eq_eliminate_37 : decode b_Eq_eliminate 37 = .ok (.iload_n 3, 1) := by decide +kernel
theorem d_Eq_eliminate_38 : decode b_Eq_eliminate 38 = .ok (.if_icmp .gt 48, 3) := by decide +kernel
theorem d_Eq_eliminate_41 : decode b_Eq_eliminate 41 = .ok (.aload_n 0, 1) := by decide +kernel
theorem d_Eq_eliminate_42 : decode b_Eq_eliminate 42 = .ok (.getfield 11, 3) := by decide +kernel
theorem d_Eq_eliminate_45 : decode b_Eq_eliminate 45 = .ok (.iload_n 1, 1) := by decide +kernel
theorem d_Eq_eliminate_46 : decode b_Eq_eliminate 46 = .ok (.aaload, 1) := by decide +kernel
theorem d_Eq_eliminate_47 : decode b_Eq_eliminate 47 = .ok (.iload 8, 2) := by decide +kernel
theorem d_Eq_eliminate_49 : decode b_Eq_eliminate 49 = .ok (.lload 4, 2) := by decide +kernel
theorem d_Eq_eliminate_51 : decode b_Eq_eliminate 51 = .ok (.aload_n 0, 1) := by decide +kernel
theorem d_Eq_eliminate_52 : decode b_Eq_eliminate 52 = .ok (.getfield 11, 3) := by decide +kernel
theorem d_Eq_eliminate_55 : decode b_Eq_eliminate 55 = .ok (.iload_n 1, 1) := by decide +kernel
theorem d_Eq_eliminate_56 : decode b_Eq_eliminate 56 = .ok (.aaload, 1) := by decide +kernel
theorem d_Eq_eliminate_57 : decode b_Eq_eliminate 57 = .ok (.iload 8, 2) := by decide +kernel
theorem d_Eq_eliminate_59 : decode b_Eq_eliminate 59 = .ok (.laload, 1) := by decide +kernel
theorem d_Eq_eliminate_60 : decode b_Eq_eliminate 60 = .ok (.lmul, 1) := by decide +kernel
theorem d_Eq_eliminate_61 : decode b_Eq_eliminate 61 = .ok (.lload 6, 2) := by decide +kernel
theorem d_Eq_eliminate_63 : decode b_Eq_eliminate 63 = .ok (.aload_n 0, 1) := by decide +kernel
theorem d_Eq_eliminate_64 : decode b_Eq_eliminate 64 = .ok (.getfield 11, 3) := by decide +kernel
theorem d_Eq_eliminate_67 : decode b_Eq_eliminate 67 = .ok (.iload_n 2, 1) := by decide +kernel
theorem d_Eq_eliminate_68 : decode b_Eq_eliminate 68 = .ok (.aaload, 1) := by decide +kernel
theorem d_Eq_eliminate_69 : decode b_Eq_eliminate 69 = .ok (.iload 8, 2) := by decide +kernel
theorem d_Eq_eliminate_71 : decode b_Eq_eliminate 71 = .ok (.laload, 1) := by decide +kernel
theorem d_Eq_eliminate_72 : decode b_Eq_eliminate 72 = .ok (.lmul, 1) := by decide +kernel
theorem d_Eq_eliminate_73 : decode b_Eq_eliminate 73 = .ok (.lsub, 1) := by decide +kernel
theorem d_Eq_eliminate_74 : decode b_Eq_eliminate 74 = .ok (.aload_n 0, 1) := by decide +kernel
theorem d_Eq_eliminate_75 : decode b_Eq_eliminate 75 = .ok (.getfield 20, 3) := by decide +kernel
theorem d_Eq_eliminate_78 : decode b_Eq_eliminate 78 = .ok (.ldiv, 1) := by decide +kernel
theorem d_Eq_eliminate_79 : decode b_Eq_eliminate 79 = .ok (.lastore, 1) := by decide +kernel
theorem d_Eq_eliminate_80 : decode b_Eq_eliminate 80 = .ok (.iinc 8 1, 3) := by decide +kernel
theorem d_Eq_eliminate_83 : decode b_Eq_eliminate 83 = .ok (.goto (-48), 3) := by decide +kernel
theorem d_Eq_eliminate_86 : decode b_Eq_eliminate 86 = .ok (.return_, 1) := by decide +kernel
theorem d_Eq_solveFor_0 : decode b_Eq_solveFor 0 = .ok (.aload_n 0, 1) := by decide +kernel
theorem d_Eq_solveFor_1 : decode b_Eq_solveFor 1 = .ok (.lconst 1, 1) := by decide +kernel
theorem d_Eq_solveFor_2 : decode b_Eq_solveFor 2 = .ok (.putfield 20, 3) := by decide +kernel
theorem d_Eq_solveFor_5 : decode b_Eq_solveFor 5 = .ok (.iconst 0, 1) := by decide +kernel
theorem d_Eq_solveFor_6 : decode b_Eq_solveFor 6 = .ok (.istore_n 2, 1) := by decide +kernel
theorem d_Eq_solveFor_7 : decode b_Eq_solveFor 7 = .ok (.iload_n 2, 1) := by decide +kernel
theorem d_Eq_solveFor_8 : decode b_Eq_solveFor 8 = .ok (.iload_n 1, 1) := by decide +kernel
theorem d_Eq_solveFor_9 : decode b_Eq_solveFor 9 = .ok (.if_icmp .ge 52, 3) := by decide +kernel
theorem d_Eq_solveFor_12 : decode b_Eq_solveFor 12 = .ok (.aload_n 0, 1) := by decide +kernel
theorem d_Eq_solveFor_13 : decode b_Eq_solveFor 13 = .ok (.getfield 11, 3) := by decide +kernel
theorem d_Eq_solveFor_16 : decode b_Eq_solveFor 16 = .ok (.iload_n 2, 1) := by decide +kernel
theorem d_Eq_solveFor_17 : decode b_Eq_solveFor 17 = .ok (.aaload, 1) := by decide +kernel
theorem d_Eq_solveFor_18 : decode b_Eq_solveFor 18 = .ok (.iload_n 2, 1) := by decide +kernel
theorem d_Eq_solveFor_19 : decode b_Eq_solveFor 19 = .ok (.laload, 1) := by decide +kernel
theorem d_Eq_solveFor_20 : decode b_Eq_solveFor 20 = .ok (.lstore_n 3, 1) := by decide +kernel
theorem d_Eq_solveFor_21 : decode b_Eq_solveFor 21 = .ok (.iconst 0, 1) := by decide +kernel
theorem d_Eq_solveFor_22 : decode b_Eq_solveFor 22 = .ok (.istore 5, 2) := by decide +kernel
theorem d_Eq_solveFor_24 : decode b_Eq_solveFor 24 = .ok (.iload 5, 2) := by decide +kernel
theorem d_Eq_solveFor_26 : decode b_Eq_solveFor 26 = .ok (.iload_n 1, 1) := by decide +kernel
theorem d_Eq_solveFor_27 : decode b_Eq_solveFor 27 = .ok (.if_icmp .ge 23, 3) := by decide +kernel
theorem d_Eq_solveFor_30 : decode b_Eq_solveFor 30 = .ok (.iload 5, 2) := by decide +kernel
theorem d_Eq_solveFor_32 : decode b_Eq_solveFor 32 = .ok (.iload_n 2, 1) := by decide +kernel
theorem d_Eq_solveFor_33 : decode b_Eq_solveFor 33 = .ok (.if_icmp .eq 11, 3) := by decide +kernel
theorem d_Eq_solveFor_36 : decode b_Eq_solveFor 36 = .ok (.aload_n 0, 1) := by decide +kernel
theorem d_Eq_solveFor_37 : decode b_Eq_solveFor 37 = .ok (.iload 5, 2) := by decide +kernel
theorem d_Eq_solveFor_39 : decode b_Eq_solveFor 39 = .ok (.iload_n 2, 1) := by decide +kernel
theorem d_Eq_solveFor_40 : decode b_Eq_solveFor 40 = .ok (.iload_n 1, 1) := by decide +kernel
theorem d_Eq_solveFor_41 : decode b_Eq_solveFor 41 = .ok (.invokevirtual 24, 3) := by decide +kernel
theorem d_Eq_solveFor_44 : decode b_Eq_solveFor 44 = .ok (.iinc 5 1, 3) := by decide +kernel
theorem d_Eq_solveFor_47 : decode b_Eq_solveFor 47 = .ok (.goto (-23), 3) := by decide +kernel
theorem d_Eq_solveFor_50 : decode b_Eq_solveFor 50 = .ok (.aload_n 0, 1) := by decide +kernel
theorem d_Eq_solveFor_51 : decode b_Eq_solveFor 51 = .ok (.lload_n 3, 1) := by decide +kernel
theorem d_Eq_solveFor_52 : decode b_Eq_solveFor 52 = .ok (.putfield 20, 3) := by decide +kernel
theorem d_Eq_solveFor_55 : decode b_Eq_solveFor 55 = .ok (.iinc 2 1, 3) := by decide +kernel
theorem d_Eq_solveFor_58 : decode b_Eq_solveFor 58 = .ok (.goto (-51), 3) := by decide +kernel
theorem d_Eq_solveFor_61 : decode b_Eq_solveFor 61 = .ok (.iconst 0, 1) := by decide +kernel
theorem d_Eq_solveFor_62 : decode b_Eq_solveFor 62 = .ok (.istore_n 2, 1) := by decide +kernel
theorem d_Eq_solveFor_63 : decode b_Eq_solveFor 63 = .ok (.iload_n 2, 1) := by decide +kernel
theorem d_Eq_solveFor_64 : decode b_Eq_solveFor 64 = .ok (.iload_n 1, 1) := by decide +kernel
theorem d_Eq_solveFor_65 : decode b_Eq_solveFor 65 = .ok (.if_icmp .ge 23, 3) := by decide +kernel
theorem d_Eq_solveFor_68 : decode b_Eq_solveFor 68 = .ok (.aload_n 0, 1) := by decide +kernel
theorem d_Eq_solveFor_69 : decode b_Eq_solveFor 69 = .ok (.getfield 16, 3) := by decide +kernel
theorem d_Eq_solveFor_72 : decode b_Eq_solveFor 72 = .ok (.iload_n 2, 1) := by decide +kernel
theorem d_Eq_solveFor_73 : decode b_Eq_solveFor 73 = .ok (.aload_n 0, 1) := by decide +kernel
theorem d_Eq_solveFor_74 : decode b_Eq_solveFor 74 = .ok (.getfield 11, 3) := by decide +kernel
theorem d_Eq_solveFor_77 : decode b_Eq_solveFor 77 = .ok (.iload_n 2, 1) := by decide +kernel
theorem d_Eq_solveFor_78 : decode b_Eq_solveFor 78 = .ok (.aaload, 1) := by decide +kernel
theorem d_Eq_solveFor_79 : decode b_Eq_solveFor 79 = .ok (.iload_n 1, 1) := by decide +kernel
theorem d_Eq_solveFor_80 : decode b_Eq_solveFor 80 = .ok (.laload, 1) := by decide +kernel
theorem d_Eq_solveFor_81 : decode b_Eq_solveFor 81 = .ok (.lastore, 1) := by decide +kernel
theorem d_Eq_solveFor_82 : decode b_Eq_solveFor 82 = .ok (.iinc 2 1, 3) := by decide +kernel
theorem d_Eq_solveFor_85 : decode b_Eq_solveFor 85 = .ok (.goto (-22), 3) := by decide +kernel
theorem d_Eq_solveFor_88 : decode b_Eq_solveFor 88 = .ok (.return_, 1) := by decide +kernel
theorem d_Va_weigh_0 : decode b_Va_weigh 0 = .ok (.aload_n 0, 1) := by decide +kernel
theorem d_Va_weigh_1 : decode b_Va_weigh 1 = .ok (.getfield 12, 3) := by decide +kernel
theorem d_Va_weigh_4 : decode b_Va_weigh 4 = .ok (.getfield 79, 3) := by decide +kernel
theorem d_Va_weigh_7 : decode b_Va_weigh 7 = .ok (.getfield 83, 3) := by decide +kernel
theorem d_Va_weigh_10 : decode b_Va_weigh 10 = .ok (.iload_n 2, 1) := by decide +kernel
theorem d_Va_weigh_11 : decode b_Va_weigh 11 = .ok (.aaload, 1) := by decide +kernel
theorem d_Va_weigh_12 : decode b_Va_weigh 12 = .ok (.astore_n 3, 1) := by decide +kernel
theorem d_Va_weigh_13 : decode b_Va_weigh 13 = .ok (.lconst 0, 1) := by decide +kernel
theorem d_Va_weigh_14 : decode b_Va_weigh 14 = .ok (.lstore 4, 2) := by decide +kernel
theorem d_Va_weigh_16 : decode b_Va_weigh 16 = .ok (.iconst 0, 1) := by decide +kernel
theorem d_Va_weigh_17 : decode b_Va_weigh 17 = .ok (.istore 6, 2) := by decide +kernel
theorem d_Va_weigh_19 : decode b_Va_weigh 19 = .ok (.iload 6, 2) := by decide +kernel
theorem d_Va_weigh_21 : decode b_Va_weigh 21 = .ok (.aload_n 3, 1) := by decide +kernel
theorem d_Va_weigh_22 : decode b_Va_weigh 22 = .ok (.getfield 136, 3) := by decide +kernel
theorem d_Va_weigh_25 : decode b_Va_weigh 25 = .ok (.if_icmp .ge 45, 3) := by decide +kernel
theorem d_Va_weigh_28 : decode b_Va_weigh 28 = .ok (.lload 4, 2) := by decide +kernel
theorem d_Va_weigh_30 : decode b_Va_weigh 30 = .ok (.aload_n 3, 1) := by decide +kernel
theorem d_Va_weigh_31 : decode b_Va_weigh 31 = .ok (.getfield 141, 3) := by decide +kernel
theorem d_Va_weigh_34 : decode b_Va_weigh 34 = .ok (.iload 6, 2) := by decide +kernel
theorem d_Va_weigh_36 : decode b_Va_weigh 36 = .ok (.aaload, 1) := by decide +kernel
theorem d_Va_weigh_37 : decode b_Va_weigh 37 = .ok (.getfield 145, 3) := by decide +kernel
theorem d_Va_weigh_40 : decode b_Va_weigh 40 = .ok (.i2l, 1) := by decide +kernel
theorem d_Va_weigh_41 : decode b_Va_weigh 41 = .ok (.aload_n 0, 1) := by decide +kernel
theorem d_Va_weigh_42 : decode b_Va_weigh 42 = .ok (.getfield 28, 3) := by decide +kernel
theorem d_Va_weigh_45 : decode b_Va_weigh 45 = .ok (.getfield 65, 3) := by decide +kernel
theorem d_Va_weigh_48 : decode b_Va_weigh 48 = .ok (.aload_n 0, 1) := by decide +kernel
theorem d_Va_weigh_49 : decode b_Va_weigh 49 = .ok (.getfield 12, 3) := by decide +kernel
theorem d_Va_weigh_52 : decode b_Va_weigh 52 = .ok (.iload_n 1, 1) := by decide +kernel
theorem d_Va_weigh_53 : decode b_Va_weigh 53 = .ok (.iload_n 2, 1) := by decide +kernel
theorem d_Va_weigh_54 : decode b_Va_weigh 54 = .ok (.iload 6, 2) := by decide +kernel
theorem d_Va_weigh_56 : decode b_Va_weigh 56 = .ok (.invokevirtual 137, 3) := by decide +kernel
theorem d_Va_weigh_59 : decode b_Va_weigh 59 = .ok (.laload, 1) := by decide +kernel
theorem d_Va_weigh_60 : decode b_Va_weigh 60 = .ok (.lmul, 1) := by decide +kernel
theorem d_Va_weigh_61 : decode b_Va_weigh 61 = .ok (.ladd, 1) := by decide +kernel
theorem d_Va_weigh_62 : decode b_Va_weigh 62 = .ok (.lstore 4, 2) := by decide +kernel
theorem d_Va_weigh_64 : decode b_Va_weigh 64 = .ok (.iinc 6 1, 3) := by decide +kernel
theorem d_Va_weigh_67 : decode b_Va_weigh 67 = .ok (.goto (-48), 3) := by decide +kernel
theorem d_Va_weigh_70 : decode b_Va_weigh 70 = .ok (.lload 4, 2) := by decide +kernel
theorem d_Va_weigh_72 : decode b_Va_weigh 72 = .ok (.lreturn, 1) := by decide +kernel
theorem d_Va_bestChoice_0 : decode b_Va_bestChoice 0 = .ok (.aload_n 0, 1) := by decide +kernel
theorem d_Va_bestChoice_1 : decode b_Va_bestChoice 1 = .ok (.getfield 32, 3) := by decide +kernel
theorem d_Va_bestChoice_4 : decode b_Va_bestChoice 4 = .ok (.iload_n 1, 1) := by decide +kernel
theorem d_Va_bestChoice_5 : decode b_Va_bestChoice 5 = .ok (.iaload, 1) := by decide +kernel
theorem d_Va_bestChoice_6 : decode b_Va_bestChoice 6 = .ok (.istore_n 3, 1) := by decide +kernel
theorem d_Va_bestChoice_7 : decode b_Va_bestChoice 7 = .ok (.aload_n 0, 1) := by decide +kernel
theorem d_Va_bestChoice_8 : decode b_Va_bestChoice 8 = .ok (.iload_n 1, 1) := by decide +kernel
theorem d_Va_bestChoice_9 : decode b_Va_bestChoice 9 = .ok (.iload_n 3, 1) := by decide +kernel
theorem d_Va_bestChoice_10 : decode b_Va_bestChoice 10 = .ok (.invokevirtual 75, 3) := by decide +kernel
theorem d_Va_bestChoice_13 : decode b_Va_bestChoice 13 = .ok (.lstore 4, 2) := by decide +kernel
theorem d_Va_bestChoice_15 : decode b_Va_bestChoice 15 = .ok (.iconst 0, 1) := by decide +kernel
theorem d_Va_bestChoice_16 : decode b_Va_bestChoice 16 = .ok (.istore 6, 2) := by decide +kernel
theorem d_Va_bestChoice_18 : decode b_Va_bestChoice 18 = .ok (.iload 6, 2) := by decide +kernel
theorem d_Va_bestChoice_20 : decode b_Va_bestChoice 20 = .ok (.aload_n 0, 1) := by decide +kernel
theorem d_Va_bestChoice_21 : decode b_Va_bestChoice 21 = .ok (.getfield 12, 3) := by decide +kernel
theorem d_Va_bestChoice_24 : decode b_Va_bestChoice 24 = .ok (.getfield 79, 3) := by decide +kernel
theorem d_Va_bestChoice_27 : decode b_Va_bestChoice 27 = .ok (.getfield 152, 3) := by decide +kernel
theorem d_Va_bestChoice_30 : decode b_Va_bestChoice 30 = .ok (.if_icmp .ge 104, 3) := by decide +kernel
theorem d_Va_bestChoice_33 : decode b_Va_bestChoice 33 = .ok (.aload_n 0, 1) := by decide +kernel
theorem d_Va_bestChoice_34 : decode b_Va_bestChoice 34 = .ok (.getfield 12, 3) := by decide +kernel
theorem d_Va_bestChoice_37 : decode b_Va_bestChoice 37 = .ok (.iload_n 1, 1) := by decide +kernel
theorem d_Va_bestChoice_38 : decode b_Va_bestChoice 38 = .ok (.invokevirtual 97, 3) := by decide +kernel
theorem d_Va_bestChoice_41 : decode b_Va_bestChoice 41 = .ok (.iload 6, 2) := by decide +kernel
theorem d_Va_bestChoice_43 : decode b_Va_bestChoice 43 = .ok (.invokestatic 118, 3) := by decide +kernel
theorem d_Va_bestChoice_46 : decode b_Va_bestChoice 46 = .ok (.ifCond .eq 82, 3) := by decide +kernel
theorem d_Va_bestChoice_49 : decode b_Va_bestChoice 49 = .ok (.aload_n 0, 1) := by decide +kernel
theorem d_Va_bestChoice_50 : decode b_Va_bestChoice 50 = .ok (.iload_n 1, 1) := by decide +kernel
theorem d_Va_bestChoice_51 : decode b_Va_bestChoice 51 = .ok (.iload 6, 2) := by decide +kernel
theorem d_Va_bestChoice_53 : decode b_Va_bestChoice 53 = .ok (.invokevirtual 75, 3) := by decide +kernel
theorem d_Va_bestChoice_56 : decode b_Va_bestChoice 56 = .ok (.lstore 7, 2) := by decide +kernel
theorem d_Va_bestChoice_58 : decode b_Va_bestChoice 58 = .ok (.lload 7, 2) := by decide +kernel
theorem d_Va_bestChoice_60 : decode b_Va_bestChoice 60 = .ok (.aload_n 0, 1) := by decide +kernel
theorem d_Va_bestChoice_61 : decode b_Va_bestChoice 61 = .ok (.getfield 12, 3) := by decide +kernel
theorem d_Va_bestChoice_64 : decode b_Va_bestChoice 64 = .ok (.getfield 79, 3) := by decide +kernel
theorem d_Va_bestChoice_67 : decode b_Va_bestChoice 67 = .ok (.getfield 83, 3) := by decide +kernel
theorem d_Va_bestChoice_70 : decode b_Va_bestChoice 70 = .ok (.iload_n 3, 1) := by decide +kernel
theorem d_Va_bestChoice_71 : decode b_Va_bestChoice 71 = .ok (.aaload, 1) := by decide +kernel
theorem d_Va_bestChoice_72 : decode b_Va_bestChoice 72 = .ok (.getfield 89, 3) := by decide +kernel
theorem d_Va_bestChoice_75 : decode b_Va_bestChoice 75 = .ok (.i2l, 1) := by decide +kernel
theorem d_Va_bestChoice_76 : decode b_Va_bestChoice 76 = .ok (.lmul, 1) := by decide +kernel
theorem d_Va_bestChoice_77 : decode b_Va_bestChoice 77 = .ok (.lload 4, 2) := by decide +kernel
theorem d_Va_bestChoice_79 : decode b_Va_bestChoice 79 = .ok (.aload_n 0, 1) := by decide +kernel
theorem d_Va_bestChoice_80 : decode b_Va_bestChoice 80 = .ok (.getfield 12, 3) := by decide +kernel
theorem d_Va_bestChoice_83 : decode b_Va_bestChoice 83 = .ok (.getfield 79, 3) := by decide +kernel
theorem d_Va_bestChoice_86 : decode b_Va_bestChoice 86 = .ok (.getfield 83, 3) := by decide +kernel
theorem d_Va_bestChoice_89 : decode b_Va_bestChoice 89 = .ok (.iload 6, 2) := by decide +kernel
theorem d_Va_bestChoice_91 : decode b_Va_bestChoice 91 = .ok (.aaload, 1) := by decide +kernel
theorem d_Va_bestChoice_92 : decode b_Va_bestChoice 92 = .ok (.getfield 89, 3) := by decide +kernel
theorem d_Va_bestChoice_95 : decode b_Va_bestChoice 95 = .ok (.i2l, 1) := by decide +kernel
theorem d_Va_bestChoice_96 : decode b_Va_bestChoice 96 = .ok (.lmul, 1) := by decide +kernel
theorem d_Va_bestChoice_97 : decode b_Va_bestChoice 97 = .ok (.lsub, 1) := by decide +kernel
theorem d_Va_bestChoice_98 : decode b_Va_bestChoice 98 = .ok (.lstore 9, 2) := by decide +kernel
theorem d_Va_bestChoice_100 : decode b_Va_bestChoice 100 = .ok (.iload_n 2, 1) := by decide +kernel
theorem d_Va_bestChoice_101 : decode b_Va_bestChoice 101 = .ok (.ifCond .eq 13, 3) := by decide +kernel
theorem d_Va_bestChoice_104 : decode b_Va_bestChoice 104 = .ok (.lload 9, 2) := by decide +kernel
theorem d_Va_bestChoice_106 : decode b_Va_bestChoice 106 = .ok (.lconst 0, 1) := by decide +kernel
theorem d_Va_bestChoice_107 : decode b_Va_bestChoice 107 = .ok (.lcmp, 1) := by decide +kernel
theorem d_Va_bestChoice_108 : decode b_Va_bestChoice 108 = .ok (.ifCond .le 20, 3) := by decide +kernel
theorem d_Va_bestChoice_111 : decode b_Va_bestChoice 111 = .ok (.goto 10, 3) := by decide +kernel
theorem d_Va_bestChoice_114 : decode b_Va_bestChoice 114 = .ok (.lload 9, 2) := by decide +kernel
theorem d_Va_bestChoice_116 : decode b_Va_bestChoice 116 = .ok (.lconst 0, 1) := by decide +kernel
theorem d_Va_bestChoice_117 : decode b_Va_bestChoice 117 = .ok (.lcmp, 1) := by decide +kernel
theorem d_Va_bestChoice_118 : decode b_Va_bestChoice 118 = .ok (.ifCond .ge 10, 3) := by decide +kernel
theorem d_Va_bestChoice_121 : decode b_Va_bestChoice 121 = .ok (.iload 6, 2) := by decide +kernel
theorem d_Va_bestChoice_123 : decode b_Va_bestChoice 123 = .ok (.istore_n 3, 1) := by decide +kernel
theorem d_Va_bestChoice_124 : decode b_Va_bestChoice 124 = .ok (.lload 7, 2) := by decide +kernel
theorem d_Va_bestChoice_126 : decode b_Va_bestChoice 126 = .ok (.lstore 4, 2) := by decide +kernel
theorem d_Va_bestChoice_128 : decode b_Va_bestChoice 128 = .ok (.iinc 6 1, 3) := by decide +kernel
theorem d_Va_bestChoice_131 : decode b_Va_bestChoice 131 = .ok (.goto (-113), 3) := by decide +kernel
theorem d_Va_bestChoice_134 : decode b_Va_bestChoice 134 = .ok (.iload_n 3, 1) := by decide +kernel
theorem d_Va_bestChoice_135 : decode b_Va_bestChoice 135 = .ok (.ireturn, 1) := by decide +kernel
theorem d_Va_improve_0 : decode b_Va_improve 0 = .ok (.iconst 0, 1) := by decide +kernel
theorem d_Va_improve_1 : decode b_Va_improve 1 = .ok (.istore_n 2, 1) := by decide +kernel
theorem d_Va_improve_2 : decode b_Va_improve 2 = .ok (.iconst 0, 1) := by decide +kernel
theorem d_Va_improve_3 : decode b_Va_improve 3 = .ok (.istore_n 3, 1) := by decide +kernel
theorem d_Va_improve_4 : decode b_Va_improve 4 = .ok (.iload_n 3, 1) := by decide +kernel
theorem d_Va_improve_5 : decode b_Va_improve 5 = .ok (.aload_n 0, 1) := by decide +kernel
theorem d_Va_improve_6 : decode b_Va_improve 6 = .ok (.getfield 12, 3) := by decide +kernel
theorem d_Va_improve_9 : decode b_Va_improve 9 = .ok (.getfield 54, 3) := by decide +kernel
theorem d_Va_improve_12 : decode b_Va_improve 12 = .ok (.if_icmp .ge 66, 3) := by decide +kernel
theorem d_Va_improve_15 : decode b_Va_improve 15 = .ok (.aload_n 0, 1) := by decide +kernel
theorem d_Va_improve_16 : decode b_Va_improve 16 = .ok (.iload_n 3, 1) := by decide +kernel
theorem d_Va_improve_17 : decode b_Va_improve 17 = .ok (.invokevirtual 125, 3) := by decide +kernel
theorem d_Va_improve_20 : decode b_Va_improve 20 = .ok (.ifCond .eq 52, 3) := by decide +kernel
theorem d_Va_improve_23 : decode b_Va_improve 23 = .ok (.aload_n 0, 1) := by decide +kernel
theorem d_Va_improve_24 : decode b_Va_improve 24 = .ok (.getfield 12, 3) := by decide +kernel
theorem d_Va_improve_27 : decode b_Va_improve 27 = .ok (.iload_n 3, 1) := by decide +kernel
theorem d_Va_improve_28 : decode b_Va_improve 28 = .ok (.invokevirtual 108, 3) := by decide +kernel
theorem d_Va_improve_31 : decode b_Va_improve 31 = .ok (.iload_n 1, 1) := by decide +kernel
theorem d_Va_improve_32 : decode b_Va_improve 32 = .ok (.if_icmp .ne 40, 3) := by decide +kernel
theorem d_Va_improve_35 : decode b_Va_improve 35 = .ok (.aload_n 0, 1) := by decide +kernel
theorem d_Va_improve_36 : decode b_Va_improve 36 = .ok (.iload_n 3, 1) := by decide +kernel
theorem d_Va_improve_37 : decode b_Va_improve 37 = .ok (.iload_n 1, 1) := by decide +kernel
theorem d_Va_improve_38 : decode b_Va_improve 38 = .ok (.invokevirtual 148, 3) := by decide +kernel
theorem d_Va_improve_41 : decode b_Va_improve 41 = .ok (.istore 4, 2) := by decide +kernel
theorem d_Va_improve_43 : decode b_Va_improve 43 = .ok (.iload_n 2, 1) := by decide +kernel
theorem d_Va_improve_44 : decode b_Va_improve 44 = .ok (.ifCond .ne 14, 3) := by decide +kernel
theorem d_Va_improve_47 : decode b_Va_improve 47 = .ok (.iload 4, 2) := by decide +kernel
theorem d_Va_improve_49 : decode b_Va_improve 49 = .ok (.aload_n 0, 1) := by decide +kernel
theorem d_Va_improve_50 : decode b_Va_improve 50 = .ok (.getfield 32, 3) := by decide +kernel
theorem d_Va_improve_53 : decode b_Va_improve 53 = .ok (.iload_n 3, 1) := by decide +kernel
theorem d_Va_improve_54 : decode b_Va_improve 54 = .ok (.iaload, 1) := by decide +kernel
theorem d_Va_improve_55 : decode b_Va_improve 55 = .ok (.if_icmp .eq 7, 3) := by decide +kernel
theorem d_Va_improve_58 : decode b_Va_improve 58 = .ok (.iconst 1, 1) := by decide +kernel
theorem d_Va_improve_59 : decode b_Va_improve 59 = .ok (.goto 4, 3) := by decide +kernel
theorem d_Va_improve_62 : decode b_Va_improve 62 = .ok (.iconst 0, 1) := by decide +kernel
theorem d_Va_improve_63 : decode b_Va_improve 63 = .ok (.istore_n 2, 1) := by decide +kernel
theorem d_Va_improve_64 : decode b_Va_improve 64 = .ok (.aload_n 0, 1) := by decide +kernel
theorem d_Va_improve_65 : decode b_Va_improve 65 = .ok (.getfield 32, 3) := by decide +kernel
theorem d_Va_improve_68 : decode b_Va_improve 68 = .ok (.iload_n 3, 1) := by decide +kernel
theorem d_Va_improve_69 : decode b_Va_improve 69 = .ok (.iload 4, 2) := by decide +kernel
theorem d_Va_improve_71 : decode b_Va_improve 71 = .ok (.iastore, 1) := by decide +kernel
theorem d_Va_improve_72 : decode b_Va_improve 72 = .ok (.iinc 3 1, 3) := by decide +kernel
theorem d_Va_improve_75 : decode b_Va_improve 75 = .ok (.goto (-71), 3) := by decide +kernel
theorem d_Va_improve_78 : decode b_Va_improve 78 = .ok (.iload_n 2, 1) := by decide +kernel
theorem d_Va_improve_79 : decode b_Va_improve 79 = .ok (.ireturn, 1) := by decide +kernel
theorem d_Va_commonDivisor_0 : decode b_Va_commonDivisor 0 = .ok (.lload_n 2, 1) := by decide +kernel
theorem d_Va_commonDivisor_1 : decode b_Va_commonDivisor 1 = .ok (.lstore 4, 2) := by decide +kernel
theorem d_Va_commonDivisor_3 : decode b_Va_commonDivisor 3 = .ok (.lload_n 0, 1) := by decide +kernel
theorem d_Va_commonDivisor_4 : decode b_Va_commonDivisor 4 = .ok (.lstore 6, 2) := by decide +kernel
theorem d_Va_commonDivisor_6 : decode b_Va_commonDivisor 6 = .ok (.iconst 0, 1) := by decide +kernel
theorem d_Va_commonDivisor_7 : decode b_Va_commonDivisor 7 = .ok (.istore 8, 2) := by decide +kernel
theorem d_Va_commonDivisor_9 : decode b_Va_commonDivisor 9 = .ok (.iload 8, 2) := by decide +kernel
theorem d_Va_commonDivisor_11 : decode b_Va_commonDivisor 11 = .ok (.sipush 128, 3) := by decide +kernel
theorem d_Va_commonDivisor_14 : decode b_Va_commonDivisor 14 = .ok (.if_icmp .ge 31, 3) := by decide +kernel
theorem d_Va_commonDivisor_17 : decode b_Va_commonDivisor 17 = .ok (.lload 6, 2) := by decide +kernel
theorem d_Va_commonDivisor_19 : decode b_Va_commonDivisor 19 = .ok (.lconst 0, 1) := by decide +kernel
theorem d_Va_commonDivisor_20 : decode b_Va_commonDivisor 20 = .ok (.lcmp, 1) := by decide +kernel
theorem d_Va_commonDivisor_21 : decode b_Va_commonDivisor 21 = .ok (.ifCond .eq 24, 3) := by decide +kernel
theorem d_Va_commonDivisor_24 : decode b_Va_commonDivisor 24 = .ok (.lload 4, 2) := by decide +kernel
theorem d_Va_commonDivisor_26 : decode b_Va_commonDivisor 26 = .ok (.lload 6, 2) := by decide +kernel
theorem d_Va_commonDivisor_28 : decode b_Va_commonDivisor 28 = .ok (.lrem, 1) := by decide +kernel
theorem d_Va_commonDivisor_29 : decode b_Va_commonDivisor 29 = .ok (.lstore 9, 2) := by decide +kernel
theorem d_Va_commonDivisor_31 : decode b_Va_commonDivisor 31 = .ok (.lload 6, 2) := by decide +kernel
theorem d_Va_commonDivisor_33 : decode b_Va_commonDivisor 33 = .ok (.lstore 4, 2) := by decide +kernel
theorem d_Va_commonDivisor_35 : decode b_Va_commonDivisor 35 = .ok (.lload 9, 2) := by decide +kernel
theorem d_Va_commonDivisor_37 : decode b_Va_commonDivisor 37 = .ok (.lstore 6, 2) := by decide +kernel
theorem d_Va_commonDivisor_39 : decode b_Va_commonDivisor 39 = .ok (.iinc 8 1, 3) := by decide +kernel
theorem d_Va_commonDivisor_42 : decode b_Va_commonDivisor 42 = .ok (.goto (-33), 3) := by decide +kernel
theorem d_Va_commonDivisor_45 : decode b_Va_commonDivisor 45 = .ok (.lload 4, 2) := by decide +kernel
theorem d_Va_commonDivisor_47 : decode b_Va_commonDivisor 47 = .ok (.lconst 0, 1) := by decide +kernel
theorem d_Va_commonDivisor_48 : decode b_Va_commonDivisor 48 = .ok (.lcmp, 1) := by decide +kernel
theorem d_Va_commonDivisor_49 : decode b_Va_commonDivisor 49 = .ok (.ifCond .ne 7, 3) := by decide +kernel
theorem d_Va_commonDivisor_52 : decode b_Va_commonDivisor 52 = .ok (.lconst 1, 1) := by decide +kernel
theorem d_Va_commonDivisor_53 : decode b_Va_commonDivisor 53 = .ok (.goto 5, 3) := by decide +kernel
theorem d_Va_commonDivisor_56 : decode b_Va_commonDivisor 56 = .ok (.lload 4, 2) := by decide +kernel
theorem d_Va_commonDivisor_58 : decode b_Va_commonDivisor 58 = .ok (.lreturn, 1) := by decide +kernel
theorem d_Va_compute_0 : decode b_Va_compute 0 = .ok (.aload_n 0, 1) := by decide +kernel
theorem d_Va_compute_1 : decode b_Va_compute 1 = .ok (.invokevirtual 47, 3) := by decide +kernel
theorem d_Va_compute_4 : decode b_Va_compute 4 = .ok (.iconst 1, 1) := by decide +kernel
theorem d_Va_compute_5 : decode b_Va_compute 5 = .ok (.istore_n 1, 1) := by decide +kernel
theorem d_Va_compute_6 : decode b_Va_compute 6 = .ok (.iconst 0, 1) := by decide +kernel
theorem d_Va_compute_7 : decode b_Va_compute 7 = .ok (.istore_n 2, 1) := by decide +kernel
theorem d_Va_compute_8 : decode b_Va_compute 8 = .ok (.iload_n 2, 1) := by decide +kernel
theorem d_Va_compute_9 : decode b_Va_compute 9 = .ok (.ldc 50, 2) := by decide +kernel
theorem d_Va_compute_11 : decode b_Va_compute 11 = .ok (.if_icmp .ge 53, 3) := by decide +kernel
theorem d_Va_compute_14 : decode b_Va_compute 14 = .ok (.iload_n 1, 1) := by decide +kernel
theorem d_Va_compute_15 : decode b_Va_compute 15 = .ok (.ifCond .eq 49, 3) := by decide +kernel
theorem d_Va_compute_18 : decode b_Va_compute 18 = .ok (.aload_n 0, 1) := by decide +kernel
theorem d_Va_compute_19 : decode b_Va_compute 19 = .ok (.invokevirtual 51, 3) := by decide +kernel
theorem d_Va_compute_22 : decode b_Va_compute 22 = .ok (.aload_n 0, 1) := by decide +kernel
theorem d_Va_compute_23 : decode b_Va_compute 23 = .ok (.getfield 28, 3) := by decide +kernel
theorem d_Va_compute_26 : decode b_Va_compute 26 = .ok (.aload_n 0, 1) := by decide +kernel
theorem d_Va_compute_27 : decode b_Va_compute 27 = .ok (.getfield 12, 3) := by decide +kernel
theorem d_Va_compute_30 : decode b_Va_compute 30 = .ok (.getfield 54, 3) := by decide +kernel
theorem d_Va_compute_33 : decode b_Va_compute 33 = .ok (.invokevirtual 57, 3) := by decide +kernel
theorem d_Va_compute_36 : decode b_Va_compute 36 = .ok (.aload_n 0, 1) := by decide +kernel
theorem d_Va_compute_37 : decode b_Va_compute 37 = .ok (.iconst 0, 1) := by decide +kernel
theorem d_Va_compute_38 : decode b_Va_compute 38 = .ok (.invokevirtual 61, 3) := by decide +kernel
theorem d_Va_compute_41 : decode b_Va_compute 41 = .ok (.ifCond .ne 11, 3) := by decide +kernel
theorem d_Va_compute_44 : decode b_Va_compute 44 = .ok (.aload_n 0, 1) := by decide +kernel
theorem d_Va_compute_45 : decode b_Va_compute 45 = .ok (.iconst 1, 1) := by decide +kernel
theorem d_Va_compute_46 : decode b_Va_compute 46 = .ok (.invokevirtual 61, 3) := by decide +kernel
theorem d_Va_compute_49 : decode b_Va_compute 49 = .ok (.ifCond .eq 7, 3) := by decide +kernel
theorem d_Va_compute_52 : decode b_Va_compute 52 = .ok (.iconst 1, 1) := by decide +kernel
theorem d_Va_compute_53 : decode b_Va_compute 53 = .ok (.goto 4, 3) := by decide +kernel
theorem d_Va_compute_56 : decode b_Va_compute 56 = .ok (.iconst 0, 1) := by decide +kernel
theorem d_Va_compute_57 : decode b_Va_compute 57 = .ok (.istore_n 1, 1) := by decide +kernel
theorem d_Va_compute_58 : decode b_Va_compute 58 = .ok (.iinc 2 1, 3) := by decide +kernel
theorem d_Va_compute_61 : decode b_Va_compute 61 = .ok (.goto (-53), 3) := by decide +kernel
theorem d_Va_compute_64 : decode b_Va_compute 64 = .ok (.iconst 0, 1) := by decide +kernel
theorem d_Va_compute_65 : decode b_Va_compute 65 = .ok (.istore_n 2, 1) := by decide +kernel
theorem d_Va_compute_66 : decode b_Va_compute 66 = .ok (.iload_n 2, 1) := by decide +kernel
theorem d_Va_compute_67 : decode b_Va_compute 67 = .ok (.aload_n 0, 1) := by decide +kernel
theorem d_Va_compute_68 : decode b_Va_compute 68 = .ok (.getfield 12, 3) := by decide +kernel
theorem d_Va_compute_71 : decode b_Va_compute 71 = .ok (.getfield 54, 3) := by decide +kernel
theorem d_Va_compute_74 : decode b_Va_compute 74 = .ok (.if_icmp .ge 61, 3) := by decide +kernel
theorem d_Va_compute_77 : decode b_Va_compute 77 = .ok (.aload_n 0, 1) := by decide +kernel
theorem d_Va_compute_78 : decode b_Va_compute 78 = .ok (.getfield 28, 3) := by decide +kernel
theorem d_Va_compute_81 : decode b_Va_compute 81 = .ok (.getfield 65, 3) := by decide +kernel
theorem d_Va_compute_84 : decode b_Va_compute 84 = .ok (.iload_n 2, 1) := by decide +kernel
theorem d_Va_compute_85 : decode b_Va_compute 85 = .ok (.laload, 1) := by decide +kernel
theorem d_Va_compute_86 : decode b_Va_compute 86 = .ok (.aload_n 0, 1) := by decide +kernel
theorem d_Va_compute_87 : decode b_Va_compute 87 = .ok (.getfield 28, 3) := by decide +kernel
theorem d_Va_compute_90 : decode b_Va_compute 90 = .ok (.getfield 68, 3) := by decide +kernel
theorem d_Va_compute_93 : decode b_Va_compute 93 = .ok (.invokestatic 71, 3) := by decide +kernel
theorem d_Va_compute_96 : decode b_Va_compute 96 = .ok (.lstore_n 3, 1) := by decide +kernel
theorem d_Va_compute_97 : decode b_Va_compute 97 = .ok (.aload_n 0, 1) := by decide +kernel
theorem d_Va_compute_98 : decode b_Va_compute 98 = .ok (.getfield 40, 3) := by decide +kernel
theorem d_Va_compute_101 : decode b_Va_compute 101 = .ok (.iload_n 2, 1) := by decide +kernel
theorem d_Va_compute_102 : decode b_Va_compute 102 = .ok (.aload_n 0, 1) := by decide +kernel
theorem d_Va_compute_103 : decode b_Va_compute 103 = .ok (.getfield 28, 3) := by decide +kernel
theorem d_Va_compute_106 : decode b_Va_compute 106 = .ok (.getfield 65, 3) := by decide +kernel
theorem d_Va_compute_109 : decode b_Va_compute 109 = .ok (.iload_n 2, 1) := by decide +kernel
theorem d_Va_compute_110 : decode b_Va_compute 110 = .ok (.laload, 1) := by decide +kernel
theorem d_Va_compute_111 : decode b_Va_compute 111 = .ok (.lload_n 3, 1) := by decide +kernel
theorem d_Va_compute_112 : decode b_Va_compute 112 = .ok (.ldiv, 1) := by decide +kernel
theorem d_Va_compute_113 : decode b_Va_compute 113 = .ok (.lastore, 1) := by decide +kernel
theorem d_Va_compute_114 : decode b_Va_compute 114 = .ok (.aload_n 0, 1) := by decide +kernel
theorem d_Va_compute_115 : decode b_Va_compute 115 = .ok (.getfield 44, 3) := by decide +kernel
theorem d_Va_compute_118 : decode b_Va_compute 118 = .ok (.iload_n 2, 1) := by decide +kernel
theorem d_Va_compute_119 : decode b_Va_compute 119 = .ok (.aload_n 0, 1) := by decide +kernel
theorem d_Va_compute_120 : decode b_Va_compute 120 = .ok (.getfield 28, 3) := by decide +kernel
theorem d_Va_compute_123 : decode b_Va_compute 123 = .ok (.getfield 68, 3) := by decide +kernel
theorem d_Va_compute_126 : decode b_Va_compute 126 = .ok (.lload_n 3, 1) := by decide +kernel
theorem d_Va_compute_127 : decode b_Va_compute 127 = .ok (.ldiv, 1) := by decide +kernel
theorem d_Va_compute_128 : decode b_Va_compute 128 = .ok (.lastore, 1) := by decide +kernel
theorem d_Va_compute_129 : decode b_Va_compute 129 = .ok (.iinc 2 1, 3) := by decide +kernel
theorem d_Va_compute_132 : decode b_Va_compute 132 = .ok (.goto (-66), 3) := by decide +kernel
theorem d_Va_compute_135 : decode b_Va_compute 135 = .ok (.return_, 1) := by decide +kernel
theorem d_Va_isTight_0 : decode b_Va_isTight 0 = .ok (.aload_n 0, 1) := by decide +kernel
theorem d_Va_isTight_1 : decode b_Va_isTight 1 = .ok (.iload_n 1, 1) := by decide +kernel
theorem d_Va_isTight_2 : decode b_Va_isTight 2 = .ok (.iload_n 2, 1) := by decide +kernel
theorem d_Va_isTight_3 : decode b_Va_isTight 3 = .ok (.invokevirtual 75, 3) := by decide +kernel
theorem d_Va_isTight_6 : decode b_Va_isTight 6 = .ok (.aload_n 0, 1) := by decide +kernel
theorem d_Va_isTight_7 : decode b_Va_isTight 7 = .ok (.getfield 12, 3) := by decide +kernel
theorem d_Va_isTight_10 : decode b_Va_isTight 10 = .ok (.getfield 79, 3) := by decide +kernel
theorem d_Va_isTight_13 : decode b_Va_isTight 13 = .ok (.getfield 83, 3) := by decide +kernel
theorem d_Va_isTight_16 : decode b_Va_isTight 16 = .ok (.iload_n 2, 1) := by decide +kernel
theorem d_Va_isTight_17 : decode b_Va_isTight 17 = .ok (.aaload, 1) := by decide +kernel
theorem d_Va_isTight_18 : decode b_Va_isTight 18 = .ok (.getfield 89, 3) := by decide +kernel
theorem d_Va_isTight_21 : decode b_Va_isTight 21 = .ok (.i2l, 1) := by decide +kernel
theorem d_Va_isTight_22 : decode b_Va_isTight 22 = .ok (.aload_n 0, 1) := by decide +kernel
theorem d_Va_isTight_23 : decode b_Va_isTight 23 = .ok (.getfield 28, 3) := by decide +kernel
theorem d_Va_isTight_26 : decode b_Va_isTight 26 = .ok (.getfield 65, 3) := by decide +kernel
theorem d_Va_isTight_29 : decode b_Va_isTight 29 = .ok (.iload_n 1, 1) := by decide +kernel
theorem d_Va_isTight_30 : decode b_Va_isTight 30 = .ok (.laload, 1) := by decide +kernel
theorem d_Va_isTight_31 : decode b_Va_isTight 31 = .ok (.lmul, 1) := by decide +kernel
theorem d_Va_isTight_32 : decode b_Va_isTight 32 = .ok (.lcmp, 1) := by decide +kernel
theorem d_Va_isTight_33 : decode b_Va_isTight 33 = .ok (.ifCond .ne 7, 3) := by decide +kernel
theorem d_Va_isTight_36 : decode b_Va_isTight 36 = .ok (.iconst 1, 1) := by decide +kernel
theorem d_Va_isTight_37 : decode b_Va_isTight 37 = .ok (.goto 4, 3) := by decide +kernel
theorem d_Va_isTight_40 : decode b_Va_isTight 40 = .ok (.iconst 0, 1) := by decide +kernel
theorem d_Va_isTight_41 : decode b_Va_isTight 41 = .ok (.ireturn, 1) := by decide +kernel
theorem d_Go_tightChoices_0 : decode b_Go_tightChoices 0 = .ok (.iconst 0, 1) := by decide +kernel
theorem d_Go_tightChoices_1 : decode b_Go_tightChoices 1 = .ok (.istore_n 3, 1) := by decide +kernel
theorem d_Go_tightChoices_2 : decode b_Go_tightChoices 2 = .ok (.iconst 0, 1) := by decide +kernel
theorem d_Go_tightChoices_3 : decode b_Go_tightChoices 3 = .ok (.istore 4, 2) := by decide +kernel
theorem d_Go_tightChoices_5 : decode b_Go_tightChoices 5 = .ok (.iload 4, 2) := by decide +kernel
theorem d_Go_tightChoices_7 : decode b_Go_tightChoices 7 = .ok (.aload_n 0, 1) := by decide +kernel
theorem d_Go_tightChoices_8 : decode b_Go_tightChoices 8 = .ok (.getfield 55, 3) := by decide +kernel
theorem d_Go_tightChoices_11 : decode b_Go_tightChoices 11 = .ok (.getfield 59, 3) := by decide +kernel
theorem d_Go_tightChoices_14 : decode b_Go_tightChoices 14 = .ok (.if_icmp .ge 39, 3) := by decide +kernel
theorem d_Go_tightChoices_17 : decode b_Go_tightChoices 17 = .ok (.aload_n 0, 1) := by decide +kernel
theorem d_Go_tightChoices_18 : decode b_Go_tightChoices 18 = .ok (.iload_n 2, 1) := by decide +kernel
theorem d_Go_tightChoices_19 : decode b_Go_tightChoices 19 = .ok (.invokevirtual 62, 3) := by decide +kernel
theorem d_Go_tightChoices_22 : decode b_Go_tightChoices 22 = .ok (.iload 4, 2) := by decide +kernel
theorem d_Go_tightChoices_24 : decode b_Go_tightChoices 24 = .ok (.invokestatic 65, 3) := by decide +kernel
theorem d_Go_tightChoices_27 : decode b_Go_tightChoices 27 = .ok (.ifCond .eq 20, 3) := by decide +kernel
theorem d_Go_tightChoices_30 : decode b_Go_tightChoices 30 = .ok (.aload_n 1, 1) := by decide +kernel
theorem d_Go_tightChoices_31 : decode b_Go_tightChoices 31 = .ok (.iload_n 2, 1) := by decide +kernel
theorem d_Go_tightChoices_32 : decode b_Go_tightChoices 32 = .ok (.iload 4, 2) := by decide +kernel
theorem d_Go_tightChoices_34 : decode b_Go_tightChoices 34 = .ok (.invokevirtual 69, 3) := by decide +kernel
theorem d_Go_tightChoices_37 : decode b_Go_tightChoices 37 = .ok (.ifCond .eq 10, 3) := by decide +kernel
theorem d_Go_tightChoices_40 : decode b_Go_tightChoices 40 = .ok (.iload_n 3, 1) := by decide +kernel
theorem d_Go_tightChoices_41 : decode b_Go_tightChoices 41 = .ok (.iconst 1, 1) := by decide +kernel
theorem d_Go_tightChoices_42 : decode b_Go_tightChoices 42 = .ok (.iload 4, 2) := by decide +kernel
theorem d_Go_tightChoices_44 : decode b_Go_tightChoices 44 = .ok (.ishl, 1) := by decide +kernel
theorem d_Go_tightChoices_45 : decode b_Go_tightChoices 45 = .ok (.ior, 1) := by decide +kernel
theorem d_Go_tightChoices_46 : decode b_Go_tightChoices 46 = .ok (.istore_n 3, 1) := by decide +kernel
theorem d_Go_tightChoices_47 : decode b_Go_tightChoices 47 = .ok (.iinc 4 1, 3) := by decide +kernel
theorem d_Go_tightChoices_50 : decode b_Go_tightChoices 50 = .ok (.goto (-45), 3) := by decide +kernel
theorem d_Go_tightChoices_53 : decode b_Go_tightChoices 53 = .ok (.iload_n 3, 1) := by decide +kernel
theorem d_Go_tightChoices_54 : decode b_Go_tightChoices 54 = .ok (.ireturn, 1) := by decide +kernel
theorem d_Go_chooseForMax_0 : decode b_Go_chooseForMax 0 = .ok (.iconst 1, 1) := by decide +kernel
theorem d_Go_chooseForMax_1 : decode b_Go_chooseForMax 1 = .ok (.aload_n 1, 1) := by decide +kernel
theorem d_Go_chooseForMax_2 : decode b_Go_chooseForMax 2 = .ok (.getfield 22, 3) := by decide +kernel
theorem d_Go_chooseForMax_5 : decode b_Go_chooseForMax 5 = .ok (.ishl, 1) := by decide +kernel
theorem d_Go_chooseForMax_6 : decode b_Go_chooseForMax 6 = .ok (.iconst 1, 1) := by decide +kernel
theorem d_Go_chooseForMax_7 : decode b_Go_chooseForMax 7 = .ok (.isub, 1) := by decide +kernel
theorem d_Go_chooseForMax_8 : decode b_Go_chooseForMax 8 = .ok (.istore 4, 2) := by decide +kernel
theorem d_Go_chooseForMax_10 : decode b_Go_chooseForMax 10 = .ok (.aload_n 0, 1) := by decide +kernel
theorem d_Go_chooseForMax_11 : decode b_Go_chooseForMax 11 = .ok (.getfield 12, 3) := by decide +kernel
theorem d_Go_chooseForMax_14 : decode b_Go_chooseForMax 14 = .ok (.getfield 28, 3) := by decide +kernel
theorem d_Go_chooseForMax_17 : decode b_Go_chooseForMax 17 = .ok (.iload_n 2, 1) := by decide +kernel
theorem d_Go_chooseForMax_18 : decode b_Go_chooseForMax 18 = .ok (.iaload, 1) := by decide +kernel
theorem d_Go_chooseForMax_19 : decode b_Go_chooseForMax 19 = .ok (.istore 5, 2) := by decide +kernel
theorem d_Go_chooseForMax_21 : decode b_Go_chooseForMax 21 = .ok (.aload_n 0, 1) := by decide +kernel
theorem d_Go_chooseForMax_22 : decode b_Go_chooseForMax 22 = .ok (.getfield 18, 3) := by decide +kernel
theorem d_Go_chooseForMax_25 : decode b_Go_chooseForMax 25 = .ok (.iload_n 2, 1) := by decide +kernel
theorem d_Go_chooseForMax_26 : decode b_Go_chooseForMax 26 = .ok (.iconst (-1), 1) := by decide +kernel
