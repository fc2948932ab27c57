theorem d_Tx_byteAt_0 : decode b_Tx_byteAt 0 = .ok (.lload_n 0, 1) := by decide +kernel
theorem d_Tx_byteAt_1 : decode b_Tx_byteAt 1 = .ok (.bipush 8, 2) := by decide +kernel
theorem d_Tx_byteAt_3 : decode b_Tx_byteAt 3 = .ok (.iload_n 2, 1) := by decide +kernel
theorem d_Tx_byteAt_4 : decode b_Tx_byteAt 4 = .ok (.imul, 1) := by decide +kernel
theorem d_Tx_byteAt_5 : decode b_Tx_byteAt 5 = .ok (.lshr, 1) := by decide +kernel
theorem d_Tx_byteAt_6 : decode b_Tx_byteAt 6 = .ok (.l2i, 1) := by decide +kernel
theorem d_Tx_byteAt_7 : decode b_Tx_byteAt 7 = .ok (.sipush 255, 3) := by decide +kernel
theorem d_Tx_byteAt_10 : decode b_Tx_byteAt 10 = .ok (.iand, 1) := by decide +kernel
theorem d_Tx_byteAt_11 : decode b_Tx_byteAt 11 = .ok (.ireturn, 1) := by decide +kernel
theorem d_Tx_areTypeable_0 : decode b_Tx_areTypeable 0 = .ok (.iconst 0, 1) := by decide +kernel
theorem d_Tx_areTypeable_1 : decode b_Tx_areTypeable 1 = .ok (.istore_n 3, 1) := by decide +kernel
theorem d_Tx_areTypeable_2 : decode b_Tx_areTypeable 2 = .ok (.iload_n 3, 1) := by decide +kernel
theorem d_Tx_areTypeable_3 : decode b_Tx_areTypeable 3 = .ok (.iload_n 2, 1) := by decide +kernel
theorem d_Tx_areTypeable_4 : decode b_Tx_areTypeable 4 = .ok (.if_icmp .ge 32, 3) := by decide +kernel
theorem d_Tx_areTypeable_7 : decode b_Tx_areTypeable 7 = .ok (.lload_n 0, 1) := by decide +kernel
theorem d_Tx_areTypeable_8 : decode b_Tx_areTypeable 8 = .ok (.iload_n 3, 1) := by decide +kernel
theorem d_Tx_areTypeable_9 : decode b_Tx_areTypeable 9 = .ok (.invokestatic 23, 3) := by decide +kernel
theorem d_Tx_areTypeable_12 : decode b_Tx_areTypeable 12 = .ok (.istore 4, 2) := by decide +kernel
theorem d_Tx_areTypeable_14 : decode b_Tx_areTypeable 14 = .ok (.iload 4, 2) := by decide +kernel
theorem d_Tx_areTypeable_16 : decode b_Tx_areTypeable 16 = .ok (.bipush 33, 2) := by decide +kernel
theorem d_Tx_areTypeable_18 : decode b_Tx_areTypeable 18 = .ok (.if_icmp .lt 10, 3) := by decide +kernel
theorem d_Tx_areTypeable_21 : decode b_Tx_areTypeable 21 = .ok (.iload 4, 2) := by decide +kernel
theorem d_Tx_areTypeable_23 : decode b_Tx_areTypeable 23 = .ok (.bipush 126, 2) := by decide +kernel
theorem d_Tx_areTypeable_25 : decode b_Tx_areTypeable 25 = .ok (.if_icmp .le 5, 3) := by decide +kernel
theorem d_Tx_areTypeable_28 : decode b_Tx_areTypeable 28 = .ok (.iconst 0, 1) := by decide +kernel
theorem d_Tx_areTypeable_29 : decode b_Tx_areTypeable 29 = .ok (.ireturn, 1) := by decide +kernel
theorem d_Tx_areTypeable_30 : decode b_Tx_areTypeable 30 = .ok (.iinc 3 1, 3) := by decide +kernel
theorem d_Tx_areTypeable_33 : decode b_Tx_areTypeable 33 = .ok (.goto (-31), 3) := by decide +kernel
theorem d_Tx_areTypeable_36 : decode b_Tx_areTypeable 36 = .ok (.iconst 1, 1) := by decide +kernel
theorem d_Tx_areTypeable_37 : decode b_Tx_areTypeable 37 = .ok (.ireturn, 1) := by decide +kernel
theorem d_Tx_append_0 : decode b_Tx_append 0 = .ok (.iload_n 3, 1) := by decide +kernel
theorem d_Tx_append_1 : decode b_Tx_append 1 = .ok (.iconst 1, 1) := by decide +kernel
theorem d_Tx_append_2 : decode b_Tx_append 2 = .ok (.if_icmp .lt 29, 3) := by decide +kernel
theorem d_Tx_append_5 : decode b_Tx_append 5 = .ok (.iload_n 3, 1) := by decide +kernel
theorem d_Tx_append_6 : decode b_Tx_append 6 = .ok (.bipush 8, 2) := by decide +kernel
theorem d_Tx_append_8 : decode b_Tx_append 8 = .ok (.if_icmp .gt 23, 3) := by decide +kernel
theorem d_Tx_append_11 : decode b_Tx_append 11 = .ok (.aload_n 0, 1) := by decide +kernel
theorem d_Tx_append_12 : decode b_Tx_append 12 = .ok (.getfield 15, 3) := by decide +kernel
theorem d_Tx_append_15 : decode b_Tx_append 15 = .ok (.iload_n 3, 1) := by decide +kernel
theorem d_Tx_append_16 : decode b_Tx_append 16 = .ok (.iadd, 1) := by decide +kernel
theorem d_Tx_append_17 : decode b_Tx_append 17 = .ok (.sipush 200, 3) := by decide +kernel
theorem d_Tx_append_20 : decode b_Tx_append 20 = .ok (.if_icmp .gt 11, 3) := by decide +kernel
theorem d_Tx_append_23 : decode b_Tx_append 23 = .ok (.lload_n 1, 1) := by decide +kernel
theorem d_Tx_append_24 : decode b_Tx_append 24 = .ok (.iload_n 3, 1) := by decide +kernel
theorem d_Tx_append_25 : decode b_Tx_append 25 = .ok (.invokestatic 19, 3) := by decide +kernel
theorem d_Tx_append_28 : decode b_Tx_append 28 = .ok (.ifCond .ne 5, 3) := by decide +kernel
theorem d_Tx_append_31 : decode b_Tx_append 31 = .ok (.iconst (-1), 1) := by decide +kernel
theorem d_Tx_append_32 : decode b_Tx_append 32 = .ok (.ireturn, 1) := by decide +kernel
theorem d_Tx_append_33 : decode b_Tx_append 33 = .ok (.iload_n 3, 1) := by decide +kernel
theorem d_Tx_append_34 : decode b_Tx_append 34 = .ok (.iconst 1, 1) := by decide +kernel
theorem d_Tx_append_35 : decode b_Tx_append 35 = .ok (.isub, 1) := by decide +kernel
theorem d_Tx_append_36 : decode b_Tx_append 36 = .ok (.istore 4, 2) := by decide +kernel
theorem d_Tx_append_38 : decode b_Tx_append 38 = .ok (.iload 4, 2) := by decide +kernel
theorem d_Tx_append_40 : decode b_Tx_append 40 = .ok (.ifCond .lt 35, 3) := by decide +kernel
theorem d_Tx_append_43 : decode b_Tx_append 43 = .ok (.aload_n 0, 1) := by decide +kernel
theorem d_Tx_append_44 : decode b_Tx_append 44 = .ok (.getfield 9, 3) := by decide +kernel
theorem d_Tx_append_47 : decode b_Tx_append 47 = .ok (.aload_n 0, 1) := by decide +kernel
theorem d_Tx_append_48 : decode b_Tx_append 48 = .ok (.getfield 15, 3) := by decide +kernel
theorem d_Tx_append_51 : decode b_Tx_append 51 = .ok (.lload_n 1, 1) := by decide +kernel
theorem d_Tx_append_52 : decode b_Tx_append 52 = .ok (.iload 4, 2) := by decide +kernel
theorem d_Tx_append_54 : decode b_Tx_append 54 = .ok (.invokestatic 23, 3) := by decide +kernel
theorem d_Tx_append_57 : decode b_Tx_append 57 = .ok (.i2c, 1) := by decide +kernel
theorem d_Tx_append_58 : decode b_Tx_append 58 = .ok (.castore, 1) := by decide +kernel
theorem d_Tx_append_59 : decode b_Tx_append 59 = .ok (.aload_n 0, 1) := by decide +kernel
theorem d_Tx_append_60 : decode b_Tx_append 60 = .ok (.dup, 1) := by decide +kernel
theorem d_Tx_append_61 : decode b_Tx_append 61 = .ok (.getfield 15, 3) := by decide +kernel
theorem d_Tx_append_64 : decode b_Tx_append 64 = .ok (.iconst 1, 1) := by decide +kernel
theorem d_Tx_append_65 : decode b_Tx_append 65 = .ok (.iadd, 1) := by decide +kernel
theorem d_Tx_append_66 : decode b_Tx_append 66 = .ok (.putfield 15, 3) := by decide +kernel
theorem d_Tx_append_69 : decode b_Tx_append 69 = .ok (.iinc 4 (-1), 3) := by decide +kernel
theorem d_Tx_append_72 : decode b_Tx_append 72 = .ok (.goto (-34), 3) := by decide +kernel
theorem d_Tx_append_75 : decode b_Tx_append 75 = .ok (.aload_n 0, 1) := by decide +kernel
theorem d_Tx_append_76 : decode b_Tx_append 76 = .ok (.getfield 15, 3) := by decide +kernel
theorem d_Tx_append_79 : decode b_Tx_append 79 = .ok (.ireturn, 1) := by decide +kernel
theorem d_CG_type_0 : decode b_CG_type 0 = .ok (.aload_n 0, 1) := by decide +kernel
theorem d_CG_type_1 : decode b_CG_type 1 = .ok (.getfield 20, 3) := by decide +kernel
theorem d_CG_type_4 : decode b_CG_type 4 = .ok (.lload_n 1, 1) := by decide +kernel
theorem d_CG_type_5 : decode b_CG_type 5 = .ok (.iload_n 3, 1) := by decide +kernel
theorem d_CG_type_6 : decode b_CG_type 6 = .ok (.invokevirtual 47, 3) := by decide +kernel
theorem d_CG_type_9 : decode b_CG_type 9 = .ok (.ireturn, 1) := by decide +kernel
theorem d_Tx_clear_0 : decode b_Tx_clear 0 = .ok (.aload_n 0, 1) := by decide +kernel
theorem d_Tx_clear_1 : decode b_Tx_clear 1 = .ok (.getfield 15, 3) := by decide +kernel
theorem d_Tx_clear_4 : decode b_Tx_clear 4 = .ok (.istore_n 1, 1) := by decide +kernel
theorem d_Tx_clear_5 : decode b_Tx_clear 5 = .ok (.aload_n 0, 1) := by decide +kernel
theorem d_Tx_clear_6 : decode b_Tx_clear 6 = .ok (.iconst 0, 1) := by decide +kernel
theorem d_Tx_clear_7 : decode b_Tx_clear 7 = .ok (.putfield 15, 3) := by decide +kernel
theorem d_Tx_clear_10 : decode b_Tx_clear 10 = .ok (.iload_n 1, 1) := by decide +kernel
theorem d_Tx_clear_11 : decode b_Tx_clear 11 = .ok (.ireturn, 1) := by decide +kernel
theorem d_CG_wipe_0 : decode b_CG_wipe 0 = .ok (.aload_n 0, 1) := by decide +kernel
theorem d_CG_wipe_1 : decode b_CG_wipe 1 = .ok (.getfield 20, 3) := by decide +kernel
theorem d_CG_wipe_4 : decode b_CG_wipe 4 = .ok (.invokevirtual 53, 3) := by decide +kernel
theorem d_CG_wipe_7 : decode b_CG_wipe 7 = .ok (.ireturn, 1) := by decide +kernel
theorem d_Gm_clear_0 : decode b_Gm_clear 0 = .ok (.iconst 0, 1) := by decide +kernel
theorem d_Gm_clear_1 : decode b_Gm_clear 1 = .ok (.istore_n 1, 1) := by decide +kernel
theorem d_Gm_clear_2 : decode b_Gm_clear 2 = .ok (.iload_n 1, 1) := by decide +kernel
theorem d_Gm_clear_3 : decode b_Gm_clear 3 = .ok (.iconst 3, 1) := by decide +kernel
theorem d_Gm_clear_4 : decode b_Gm_clear 4 = .ok (.if_icmp .ge 23, 3) := by decide +kernel
theorem d_Gm_clear_7 : decode b_Gm_clear 7 = .ok (.aload_n 0, 1) := by decide +kernel
theorem d_Gm_clear_8 : decode b_Gm_clear 8 = .ok (.getfield 9, 3) := by decide +kernel
theorem d_Gm_clear_11 : decode b_Gm_clear 11 = .ok (.iload_n 1, 1) := by decide +kernel
theorem d_Gm_clear_12 : decode b_Gm_clear 12 = .ok (.iconst 0, 1) := by decide +kernel
theorem d_Gm_clear_13 : decode b_Gm_clear 13 = .ok (.iastore, 1) := by decide +kernel
theorem d_Gm_clear_14 : decode b_Gm_clear 14 = .ok (.aload_n 0, 1) := by decide +kernel
theorem d_Gm_clear_15 : decode b_Gm_clear 15 = .ok (.getfield 15, 3) := by decide +kernel
theorem d_Gm_clear_18 : decode b_Gm_clear 18 = .ok (.iload_n 1, 1) := by decide +kernel
theorem d_Gm_clear_19 : decode b_Gm_clear 19 = .ok (.iconst 0, 1) := by decide +kernel
theorem d_Gm_clear_20 : decode b_Gm_clear 20 = .ok (.iastore, 1) := by decide +kernel
theorem d_Gm_clear_21 : decode b_Gm_clear 21 = .ok (.iinc 1 1, 3) := by decide +kernel
theorem d_Gm_clear_24 : decode b_Gm_clear 24 = .ok (.goto (-22), 3) := by decide +kernel
theorem d_Gm_clear_27 : decode b_Gm_clear 27 = .ok (.aload_n 0, 1) := by decide +kernel
theorem d_Gm_clear_28 : decode b_Gm_clear 28 = .ok (.iconst 0, 1) := by decide +kernel
theorem d_Gm_clear_29 : decode b_Gm_clear 29 = .ok (.putfield 31, 3) := by decide +kernel
theorem d_Gm_clear_32 : decode b_Gm_clear 32 = .ok (.return_, 1) := by decide +kernel
theorem d_Rd_here_0 : decode b_Rd_here 0 = .ok (.aload_n 0, 1) := by decide +kernel
theorem d_Rd_here_1 : decode b_Rd_here 1 = .ok (.getfield 25, 3) := by decide +kernel
theorem d_Rd_here_4 : decode b_Rd_here 4 = .ok (.aload_n 0, 1) := by decide +kernel
theorem d_Rd_here_5 : decode b_Rd_here 5 = .ok (.getfield 12, 3) := by decide +kernel
theorem d_Rd_here_8 : decode b_Rd_here 8 = .ok (.getfield 72, 3) := by decide +kernel
theorem d_Rd_here_11 : decode b_Rd_here 11 = .ok (.if_icmp .ge 18, 3) := by decide +kernel
theorem d_Rd_here_14 : decode b_Rd_here 14 = .ok (.aload_n 0, 1) := by decide +kernel
theorem d_Rd_here_15 : decode b_Rd_here 15 = .ok (.getfield 12, 3) := by decide +kernel
theorem d_Rd_here_18 : decode b_Rd_here 18 = .ok (.getfield 155, 3) := by decide +kernel
theorem d_Rd_here_21 : decode b_Rd_here 21 = .ok (.aload_n 0, 1) := by decide +kernel
theorem d_Rd_here_22 : decode b_Rd_here 22 = .ok (.getfield 25, 3) := by decide +kernel
theorem d_Rd_here_25 : decode b_Rd_here 25 = .ok (.caload, 1) := by decide +kernel
theorem d_Rd_here_26 : decode b_Rd_here 26 = .ok (.goto 4, 3) := by decide +kernel
theorem d_Rd_here_29 : decode b_Rd_here 29 = .ok (.iconst 0, 1) := by decide +kernel
theorem d_Rd_here_30 : decode b_Rd_here 30 = .ok (.ireturn, 1) := by decide +kernel
theorem d_Rd_isName_0 : decode b_Rd_isName 0 = .ok (.iload_n 0, 1) := by decide +kernel
theorem d_Rd_isName_1 : decode b_Rd_isName 1 = .ok (.bipush 97, 2) := by decide +kernel
theorem d_Rd_isName_3 : decode b_Rd_isName 3 = .ok (.if_icmp .lt 13, 3) := by decide +kernel
theorem d_Rd_isName_6 : decode b_Rd_isName 6 = .ok (.iload_n 0, 1) := by decide +kernel
theorem d_Rd_isName_7 : decode b_Rd_isName 7 = .ok (.bipush 100, 2) := by decide +kernel
theorem d_Rd_isName_9 : decode b_Rd_isName 9 = .ok (.if_icmp .ge 7, 3) := by decide +kernel
theorem d_Rd_isName_12 : decode b_Rd_isName 12 = .ok (.iconst 1, 1) := by decide +kernel
theorem d_Rd_isName_13 : decode b_Rd_isName 13 = .ok (.goto 4, 3) := by decide +kernel
theorem d_Rd_isName_16 : decode b_Rd_isName 16 = .ok (.iconst 0, 1) := by decide +kernel
theorem d_Rd_isName_17 : decode b_Rd_isName 17 = .ok (.ireturn, 1) := by decide +kernel
theorem d_Gm_hasVariable_0 : decode b_Gm_hasVariable 0 = .ok (.aload_n 0, 1) := by decide +kernel
theorem d_Gm_hasVariable_1 : decode b_Gm_hasVariable 1 = .ok (.getfield 9, 3) := by decide +kernel
theorem d_Gm_hasVariable_4 : decode b_Gm_hasVariable 4 = .ok (.iload_n 1, 1) := by decide +kernel
theorem d_Gm_hasVariable_5 : decode b_Gm_hasVariable 5 = .ok (.iaload, 1) := by decide +kernel
theorem d_Gm_hasVariable_6 : decode b_Gm_hasVariable 6 = .ok (.ifCond .le 7, 3) := by decide +kernel
theorem d_Gm_hasVariable_9 : decode b_Gm_hasVariable 9 = .ok (.iconst 1, 1) := by decide +kernel
theorem d_Gm_hasVariable_10 : decode b_Gm_hasVariable 10 = .ok (.goto 4, 3) := by decide +kernel
theorem d_Gm_hasVariable_13 : decode b_Gm_hasVariable 13 = .ok (.iconst 0, 1) := by decide +kernel
theorem d_Gm_hasVariable_14 : decode b_Gm_hasVariable 14 = .ok (.ireturn, 1) := by decide +kernel
theorem d_Rd_refuse_0 : decode b_Rd_refuse 0 = .ok (.aload_n 0, 1) := by decide +kernel
theorem d_Rd_refuse_1 : decode b_Rd_refuse 1 = .ok (.iload_n 1, 1) := by decide +kernel
theorem d_Rd_refuse_2 : decode b_Rd_refuse 2 = .ok (.putfield 29, 3) := by decide +kernel
theorem d_Rd_refuse_5 : decode b_Rd_refuse 5 = .ok (.new 158, 3) := by decide +kernel
theorem d_Rd_refuse_8 : decode b_Rd_refuse 8 = .ok (.dup, 1) := by decide +kernel
theorem d_Rd_refuse_9 : decode b_Rd_refuse 9 = .ok (.ldc 160, 2) := by decide +kernel
theorem d_Rd_refuse_11 : decode b_Rd_refuse 11 = .ok (.invokespecial 162, 3) := by decide +kernel
theorem d_Rd_refuse_14 : decode b_Rd_refuse 14 = .ok (.athrow, 1) := by decide +kernel
theorem d_Rd_isDigit_0 : decode b_Rd_isDigit 0 = .ok (.iload_n 0, 1) := by decide +kernel
theorem d_Rd_isDigit_1 : decode b_Rd_isDigit 1 = .ok (.bipush 48, 2) := by decide +kernel
theorem d_Rd_isDigit_3 : decode b_Rd_isDigit 3 = .ok (.if_icmp .lt 13, 3) := by decide +kernel
theorem d_Rd_isDigit_6 : decode b_Rd_isDigit 6 = .ok (.iload_n 0, 1) := by decide +kernel
theorem d_Rd_isDigit_7 : decode b_Rd_isDigit 7 = .ok (.bipush 57, 2) := by decide +kernel
theorem d_Rd_isDigit_9 : decode b_Rd_isDigit 9 = .ok (.if_icmp .gt 7, 3) := by decide +kernel
theorem d_Rd_isDigit_12 : decode b_Rd_isDigit 12 = .ok (.iconst 1, 1) := by decide +kernel
theorem d_Rd_isDigit_13 : decode b_Rd_isDigit 13 = .ok (.goto 4, 3) := by decide +kernel
theorem d_Rd_isDigit_16 : decode b_Rd_isDigit 16 = .ok (.iconst 0, 1) := by decide +kernel
theorem d_Rd_isDigit_17 : decode b_Rd_isDigit 17 = .ok (.ireturn, 1) := by decide +kernel
theorem d_Rd_readNumber_0 : decode b_Rd_readNumber 0 = .ok (.aload_n 0, 1) := by decide +kernel
theorem d_Rd_readNumber_1 : decode b_Rd_readNumber 1 = .ok (.getfield 25, 3) := by decide +kernel
theorem d_Rd_readNumber_4 : decode b_Rd_readNumber 4 = .ok (.istore_n 3, 1) := by decide +kernel
theorem d_Rd_readNumber_5 : decode b_Rd_readNumber 5 = .ok (.iconst 0, 1) := by decide +kernel
theorem d_Rd_readNumber_6 : decode b_Rd_readNumber 6 = .ok (.istore 4, 2) := by decide +kernel
theorem d_Rd_readNumber_8 : decode b_Rd_readNumber 8 = .ok (.aload_n 0, 1) := by decide +kernel
theorem d_Rd_readNumber_9 : decode b_Rd_readNumber 9 = .ok (.getfield 25, 3) := by decide +kernel
theorem d_Rd_readNumber_12 : decode b_Rd_readNumber 12 = .ok (.aload_n 0, 1) := by decide +kernel
theorem d_Rd_readNumber_13 : decode b_Rd_readNumber 13 = .ok (.getfield 12, 3) := by decide +kernel
theorem d_Rd_readNumber_16 : decode b_Rd_readNumber 16 = .ok (.getfield 72, 3) := by decide +kernel
theorem d_Rd_readNumber_19 : decode b_Rd_readNumber 19 = .ok (.if_icmp .ge 41, 3) := by decide +kernel
theorem d_Rd_readNumber_22 : decode b_Rd_readNumber 22 = .ok (.aload_n 0, 1) := by decide +kernel
theorem d_Rd_readNumber_23 : decode b_Rd_readNumber 23 = .ok (.invokevirtual 35, 3) := by decide +kernel
theorem d_Rd_readNumber_26 : decode b_Rd_readNumber 26 = .ok (.invokestatic 152, 3) := by decide +kernel
theorem d_Rd_readNumber_29 : decode b_Rd_readNumber 29 = .ok (.ifCond .eq 31, 3) := by decide +kernel
theorem d_Rd_readNumber_32 : decode b_Rd_readNumber 32 = .ok (.bipush 10, 2) := by decide +kernel
theorem d_Rd_readNumber_34 : decode b_Rd_readNumber 34 = .ok (.iload 4, 2) := by decide +kernel
theorem d_Rd_readNumber_36 : decode b_Rd_readNumber 36 = .ok (.imul, 1) := by decide +kernel
theorem d_Rd_readNumber_37 : decode b_Rd_readNumber 37 = .ok (.aload_n 0, 1) := by decide +kernel
theorem d_Rd_readNumber_38 : decode b_Rd_readNumber 38 = .ok (.invokevirtual 35, 3) := by decide +kernel
theorem d_Rd_readNumber_41 : decode b_Rd_readNumber 41 = .ok (.bipush 48, 2) := by decide +kernel
theorem d_Rd_readNumber_43 : decode b_Rd_readNumber 43 = .ok (.isub, 1) := by decide +kernel
theorem d_Rd_readNumber_44 : decode b_Rd_readNumber 44 = .ok (.iadd, 1) := by decide +kernel
theorem d_Rd_readNumber_45 : decode b_Rd_readNumber 45 = .ok (.istore 4, 2) := by decide +kernel
theorem d_Rd_readNumber_47 : decode b_Rd_readNumber 47 = .ok (.aload_n 0, 1) := by decide +kernel
theorem d_Rd_readNumber_48 : decode b_Rd_readNumber 48 = .ok (.dup, 1) := by decide +kernel
theorem d_Rd_readNumber_49 : decode b_Rd_readNumber 49 = .ok (.getfield 25, 3) := by decide +kernel
theorem d_Rd_readNumber_52 : decode b_Rd_readNumber 52 = .ok (.iconst 1, 1) := by decide +kernel
theorem d_Rd_readNumber_53 : decode b_Rd_readNumber 53 = .ok (.iadd, 1) := by decide +kernel
theorem d_Rd_readNumber_54 : decode b_Rd_readNumber 54 = .ok (.putfield 25, 3) := by decide +kernel
theorem d_Rd_readNumber_57 : decode b_Rd_readNumber 57 = .ok (.goto (-49), 3) := by decide +kernel
theorem d_Rd_readNumber_60 : decode b_Rd_readNumber 60 = .ok (.aload_n 0, 1) := by decide +kernel
theorem d_Rd_readNumber_61 : decode b_Rd_readNumber 61 = .ok (.getfield 25, 3) := by decide +kernel
theorem d_Rd_readNumber_64 : decode b_Rd_readNumber 64 = .ok (.iload_n 3, 1) := by decide +kernel
theorem d_Rd_readNumber_65 : decode b_Rd_readNumber 65 = .ok (.isub, 1) := by decide +kernel
theorem d_Rd_readNumber_66 : decode b_Rd_readNumber 66 = .ok (.istore 5, 2) := by decide +kernel
theorem d_Rd_readNumber_68 : decode b_Rd_readNumber 68 = .ok (.iload 5, 2) := by decide +kernel
theorem d_Rd_readNumber_70 : decode b_Rd_readNumber 70 = .ok (.iconst 1, 1) := by decide +kernel
theorem d_Rd_readNumber_71 : decode b_Rd_readNumber 71 = .ok (.if_icmp .eq 23, 3) := by decide +kernel
theorem d_Rd_readNumber_74 : decode b_Rd_readNumber 74 = .ok (.iload 5, 2) := by decide +kernel
theorem d_Rd_readNumber_76 : decode b_Rd_readNumber 76 = .ok (.iconst 2, 1) := by decide +kernel
theorem d_Rd_readNumber_77 : decode b_Rd_readNumber 77 = .ok (.if_icmp .ne 21, 3) := by decide +kernel
theorem d_Rd_readNumber_80 : decode b_Rd_readNumber 80 = .ok (.aload_n 0, 1) := by decide +kernel
theorem d_Rd_readNumber_81 : decode b_Rd_readNumber 81 = .ok (.getfield 12, 3) := by decide +kernel
theorem d_Rd_readNumber_84 : decode b_Rd_readNumber 84 = .ok (.getfield 155, 3) := by decide +kernel
theorem d_Rd_readNumber_87 : decode b_Rd_readNumber 87 = .ok (.iload_n 3, 1) := by decide +kernel
theorem d_Rd_readNumber_88 : decode b_Rd_readNumber 88 = .ok (.caload, 1) := by decide +kernel
theorem d_Rd_readNumber_89 : decode b_Rd_readNumber 89 = .ok (.bipush 48, 2) := by decide +kernel
theorem d_Rd_readNumber_91 : decode b_Rd_readNumber 91 = .ok (.if_icmp .eq 7, 3) := by decide +kernel
theorem d_Rd_readNumber_94 : decode b_Rd_readNumber 94 = .ok (.iconst 1, 1) := by decide +kernel
theorem d_Rd_readNumber_95 : decode b_Rd_readNumber 95 = .ok (.goto 4, 3) := by decide +kernel
theorem d_Rd_readNumber_98 : decode b_Rd_readNumber 98 = .ok (.iconst 0, 1) := by decide +kernel
theorem d_Rd_readNumber_99 : decode b_Rd_readNumber 99 = .ok (.istore 6, 2) := by decide +kernel
theorem d_Rd_readNumber_101 : decode b_Rd_readNumber 101 = .ok (.iload 6, 2) := by decide +kernel
theorem d_Rd_readNumber_103 : decode b_Rd_readNumber 103 = .ok (.ifCond .eq 15, 3) := by decide +kernel
theorem d_Rd_readNumber_106 : decode b_Rd_readNumber 106 = .ok (.iload 4, 2) := by decide +kernel
theorem d_Rd_readNumber_108 : decode b_Rd_readNumber 108 = .ok (.iload_n 1, 1) := by decide +kernel
theorem d_Rd_readNumber_109 : decode b_Rd_readNumber 109 = .ok (.if_icmp .lt 9, 3) := by decide +kernel
theorem d_Rd_readNumber_112 : decode b_Rd_readNumber 112 = .ok (.iload 4, 2) := by decide +kernel
theorem d_Rd_readNumber_114 : decode b_Rd_readNumber 114 = .ok (.iload_n 2, 1) := by decide +kernel
theorem d_Rd_readNumber_115 : decode b_Rd_readNumber 115 = .ok (.if_icmp .le 8, 3) := by decide +kernel
theorem d_Rd_readNumber_118 : decode b_Rd_readNumber 118 = .ok (.aload_n 0, 1) := by decide +kernel
theorem d_Rd_readNumber_119 : decode b_Rd_readNumber 119 = .ok (.iload_n 3, 1) := by decide +kernel
theorem d_Rd_readNumber_120 : decode b_Rd_readNumber 120 = .ok (.invokevirtual 75, 3) := by decide +kernel
theorem d_Rd_readNumber_123 : decode b_Rd_readNumber 123 = .ok (.iload 4, 2) := by decide +kernel
theorem d_Rd_readNumber_125 : decode b_Rd_readNumber 125 = .ok (.ireturn, 1) := by decide +kernel
theorem d_Rd_skips_0 : decode b_Rd_skips 0 = .ok (.aload_n 0, 1) := by decide +kernel
theorem d_Rd_skips_1 : decode b_Rd_skips 1 = .ok (.invokevirtual 35, 3) := by decide +kernel
theorem d_Rd_skips_4 : decode b_Rd_skips 4 = .ok (.iload_n 1, 1) := by decide +kernel
theorem d_Rd_skips_5 : decode b_Rd_skips 5 = .ok (.if_icmp .eq 5, 3) := by decide +kernel
theorem d_Rd_skips_8 : decode b_Rd_skips 8 = .ok (.iconst 0, 1) := by decide +kernel
theorem d_Rd_skips_9 : decode b_Rd_skips 9 = .ok (.ireturn, 1) := by decide +kernel
theorem d_Rd_skips_10 : decode b_Rd_skips 10 = .ok (.aload_n 0, 1) := by decide +kernel
theorem d_Rd_skips_11 : decode b_Rd_skips 11 = .ok (.dup, 1) := by decide +kernel
theorem d_Rd_skips_12 : decode b_Rd_skips 12 = .ok (.getfield 25, 3) := by decide +kernel
theorem d_Rd_skips_15 : decode b_Rd_skips 15 = .ok (.iconst 1, 1) := by decide +kernel
theorem d_Rd_skips_16 : decode b_Rd_skips 16 = .ok (.iadd, 1) := by decide +kernel
theorem d_Rd_skips_17 : decode b_Rd_skips 17 = .ok (.putfield 25, 3) := by decide +kernel
theorem d_Rd_skips_20 : decode b_Rd_skips 20 = .ok (.iconst 1, 1) := by decide +kernel
theorem d_Rd_skips_21 : decode b_Rd_skips 21 = .ok (.ireturn, 1) := by decide +kernel
theorem d_Rd_expect_0 : decode b_Rd_expect 0 = .ok (.aload_n 0, 1) := by decide +kernel
theorem d_Rd_expect_1 : decode b_Rd_expect 1 = .ok (.iload_n 1, 1) := by decide +kernel
theorem d_Rd_expect_2 : decode b_Rd_expect 2 = .ok (.invokevirtual 118, 3) := by decide +kernel
theorem d_Rd_expect_5 : decode b_Rd_expect 5 = .ok (.ifCond .ne 11, 3) := by decide +kernel
theorem d_Rd_expect_8 : decode b_Rd_expect 8 = .ok (.aload_n 0, 1) := by decide +kernel
theorem d_Rd_expect_9 : decode b_Rd_expect 9 = .ok (.aload_n 0, 1) := by decide +kernel
theorem d_Rd_expect_10 : decode b_Rd_expect 10 = .ok (.getfield 25, 3) := by decide +kernel
theorem d_Rd_expect_13 : decode b_Rd_expect 13 = .ok (.invokevirtual 75, 3) := by decide +kernel
theorem d_Rd_expect_16 : decode b_Rd_expect 16 = .ok (.return_, 1) := by decide +kernel
theorem d_Rd_readVariable_0 : decode b_Rd_readVariable 0 = .ok (.aload_n 0, 1) := by decide +kernel
theorem d_Rd_readVariable_1 : decode b_Rd_readVariable 1 = .ok (.invokevirtual 35, 3) := by decide +kernel
theorem d_Rd_readVariable_4 : decode b_Rd_readVariable 4 = .ok (.bipush 97, 2) := by decide +kernel
theorem d_Rd_readVariable_6 : decode b_Rd_readVariable 6 = .ok (.isub, 1) := by decide +kernel
theorem d_Rd_readVariable_7 : decode b_Rd_readVariable 7 = .ok (.istore_n 1, 1) := by decide +kernel
theorem d_Rd_readVariable_8 : decode b_Rd_readVariable 8 = .ok (.aload_n 0, 1) := by decide +kernel
theorem d_Rd_readVariable_9 : decode b_Rd_readVariable 9 = .ok (.getfield 21, 3) := by decide +kernel
theorem d_Rd_readVariable_12 : decode b_Rd_readVariable 12 = .ok (.iload_n 1, 1) := by decide +kernel
theorem d_Rd_readVariable_13 : decode b_Rd_readVariable 13 = .ok (.invokevirtual 79, 3) := by decide +kernel
theorem d_Rd_readVariable_16 : decode b_Rd_readVariable 16 = .ok (.ifCond .eq 11, 3) := by decide +kernel
theorem d_Rd_readVariable_19 : decode b_Rd_readVariable 19 = .ok (.aload_n 0, 1) := by decide +kernel
theorem d_Rd_readVariable_20 : decode b_Rd_readVariable 20 = .ok (.aload_n 0, 1) := by decide +kernel
theorem d_Rd_readVariable_21 : decode b_Rd_readVariable 21 = .ok (.getfield 25, 3) := by decide +kernel
theorem d_Rd_readVariable_24 : decode b_Rd_readVariable 24 = .ok (.invokevirtual 75, 3) := by decide +kernel
theorem d_Rd_readVariable_27 : decode b_Rd_readVariable 27 = .ok (.aload_n 0, 1) := by decide +kernel
theorem d_Rd_readVariable_28 : decode b_Rd_readVariable 28 = .ok (.dup, 1) := by decide +kernel
theorem d_Rd_readVariable_29 : decode b_Rd_readVariable 29 = .ok (.getfield 25, 3) := by decide +kernel
theorem d_Rd_readVariable_32 : decode b_Rd_readVariable 32 = .ok (.iconst 1, 1) := by decide +kernel
theorem d_Rd_readVariable_33 : decode b_Rd_readVariable 33 = .ok (.iadd, 1) := by decide +kernel
theorem d_Rd_readVariable_34 : decode b_Rd_readVariable 34 = .ok (.putfield 25, 3) := by decide +kernel
theorem d_Rd_readVariable_37 : decode b_Rd_readVariable 37 = .ok (.aload_n 0, 1) := by decide +kernel
theorem d_Rd_readVariable_38 : decode b_Rd_readVariable 38 = .ok (.getfield 21, 3) := by decide +kernel
theorem d_Rd_readVariable_41 : decode b_Rd_readVariable 41 = .ok (.getfield 83, 3) := by decide +kernel
theorem d_Rd_readVariable_44 : decode b_Rd_readVariable 44 = .ok (.iload_n 1, 1) := by decide +kernel
theorem d_Rd_readVariable_45 : decode b_Rd_readVariable 45 = .ok (.aload_n 0, 1) := by decide +kernel
theorem d_Rd_readVariable_46 : decode b_Rd_readVariable 46 = .ok (.iconst 1, 1) := by decide +kernel
theorem d_Rd_readVariable_47 : decode b_Rd_readVariable 47 = .ok (.bipush 9, 2) := by decide +kernel
theorem d_Rd_readVariable_49 : decode b_Rd_readVariable 49 = .ok (.invokevirtual 87, 3) := by decide +kernel
theorem d_Rd_readVariable_52 : decode b_Rd_readVariable 52 = .ok (.iastore, 1) := by decide +kernel
theorem d_Rd_readVariable_53 : decode b_Rd_readVariable 53 = .ok (.aload_n 0, 1) := by decide +kernel
theorem d_Rd_readVariable_54 : decode b_Rd_readVariable 54 = .ok (.bipush 58, 2) := by decide +kernel
theorem d_Rd_readVariable_56 : decode b_Rd_readVariable 56 = .ok (.invokevirtual 60, 3) := by decide +kernel
theorem d_Rd_readVariable_59 : decode b_Rd_readVariable 59 = .ok (.aload_n 0, 1) := by decide +kernel
theorem d_Rd_readVariable_60 : decode b_Rd_readVariable 60 = .ok (.getfield 21, 3) := by decide +kernel
theorem d_Rd_readVariable_63 : decode b_Rd_readVariable 63 = .ok (.getfield 91, 3) := by decide +kernel
theorem d_Rd_readVariable_66 : decode b_Rd_readVariable 66 = .ok (.iload_n 1, 1) := by decide +kernel
theorem d_Rd_readVariable_67 : decode b_Rd_readVariable 67 = .ok (.aload_n 0, 1) := by decide +kernel
theorem d_Rd_readVariable_68 : decode b_Rd_readVariable 68 = .ok (.iconst 0, 1) := by decide +kernel
theorem d_Rd_readVariable_69 : decode b_Rd_readVariable 69 = .ok (.aload_n 0, 1) := by decide +kernel
theorem d_Rd_readVariable_70 : decode b_Rd_readVariable 70 = .ok (.getfield 21, 3) := by decide +kernel
theorem d_Rd_readVariable_73 : decode b_Rd_readVariable 73 = .ok (.getfield 83, 3) := by decide +kernel
theorem d_Rd_readVariable_76 : decode b_Rd_readVariable 76 = .ok (.iload_n 1, 1) := by decide +kernel
theorem d_Rd_readVariable_77 : decode b_Rd_readVariable 77 = .ok (.iaload, 1) := by decide +kernel
theorem d_Rd_readVariable_78 : decode b_Rd_readVariable 78 = .ok (.invokevirtual 87, 3) := by decide +kernel
theorem d_Rd_readVariable_81 : decode b_Rd_readVariable 81 = .ok (.iastore, 1) := by decide +kernel
theorem d_Rd_readVariable_82 : decode b_Rd_readVariable 82 = .ok (.aload_n 0, 1) := by decide +kernel
theorem d_Rd_readVariable_83 : decode b_Rd_readVariable 83 = .ok (.bipush 59, 2) := by decide +kernel
theorem d_Rd_readVariable_85 : decode b_Rd_readVariable 85 = .ok (.invokevirtual 60, 3) := by decide +kernel
theorem d_Rd_readVariable_88 : decode b_Rd_readVariable 88 = .ok (.return_, 1) := by decide +kernel
theorem d_Rd_isPlusOrMinus_0 : decode b_Rd_isPlusOrMinus 0 = .ok (.iload_n 0, 1) := by decide +kernel
theorem d_Rd_isPlusOrMinus_1 : decode b_Rd_isPlusOrMinus 1 = .ok (.bipush 43, 2) := by decide +kernel
theorem d_Rd_isPlusOrMinus_3 : decode b_Rd_isPlusOrMinus 3 = .ok (.if_icmp .eq 9, 3) := by decide +kernel
theorem d_Rd_isPlusOrMinus_6 : decode b_Rd_isPlusOrMinus 6 = .ok (.iload_n 0, 1) := by decide +kernel
theorem d_Rd_isPlusOrMinus_7 : decode b_Rd_isPlusOrMinus 7 = .ok (.bipush 45, 2) := by decide +kernel
theorem d_Rd_isPlusOrMinus_9 : decode b_Rd_isPlusOrMinus 9 = .ok (.if_icmp .ne 7, 3) := by decide +kernel
theorem d_Rd_isPlusOrMinus_12 : decode b_Rd_isPlusOrMinus 12 = .ok (.iconst 1, 1) := by decide +kernel
theorem d_Rd_isPlusOrMinus_13 : decode b_Rd_isPlusOrMinus 13 = .ok (.goto 4, 3) := by decide +kernel
theorem d_Rd_isPlusOrMinus_16 : decode b_Rd_isPlusOrMinus 16 = .ok (.iconst 0, 1) := by decide +kernel
theorem d_Rd_isPlusOrMinus_17 : decode b_Rd_isPlusOrMinus 17 = .ok (.ireturn, 1) := by decide +kernel
theorem d_Gu_clear_0 : decode b_Gu_clear 0 = .ok (.iconst 0, 1) := by decide +kernel
theorem d_Gu_clear_1 : decode b_Gu_clear 1 = .ok (.istore_n 1, 1) := by decide +kernel
theorem d_Gu_clear_2 : decode b_Gu_clear 2 = .ok (.iload_n 1, 1) := by decide +kernel
theorem d_Gu_clear_3 : decode b_Gu_clear 3 = .ok (.aload_n 0, 1) := by decide +kernel
theorem d_Gu_clear_4 : decode b_Gu_clear 4 = .ok (.getfield 9, 3) := by decide +kernel
theorem d_Gu_clear_7 : decode b_Gu_clear 7 = .ok (.arraylength, 1) := by decide +kernel
theorem d_Gu_clear_8 : decode b_Gu_clear 8 = .ok (.if_icmp .ge 16, 3) := by decide +kernel
theorem d_Gu_clear_11 : decode b_Gu_clear 11 = .ok (.aload_n 0, 1) := by decide +kernel
theorem d_Gu_clear_12 : decode b_Gu_clear 12 = .ok (.getfield 9, 3) := by decide +kernel
theorem d_Gu_clear_15 : decode b_Gu_clear 15 = .ok (.iload_n 1, 1) := by decide +kernel
theorem d_Gu_clear_16 : decode b_Gu_clear 16 = .ok (.iconst 0, 1) := by decide +kernel
theorem d_Gu_clear_17 : decode b_Gu_clear 17 = .ok (.iastore, 1) := by decide +kernel
theorem d_Gu_clear_18 : decode b_Gu_clear 18 = .ok (.iinc 1 1, 3) := by decide +kernel
theorem d_Gu_clear_21 : decode b_Gu_clear 21 = .ok (.goto (-19), 3) := by decide +kernel
theorem d_Gu_clear_24 : decode b_Gu_clear 24 = .ok (.aload_n 0, 1) := by decide +kernel
theorem d_Gu_clear_25 : decode b_Gu_clear 25 = .ok (.iconst 0, 1) := by decide +kernel
theorem d_Gu_clear_26 : decode b_Gu_clear 26 = .ok (.putfield 19, 3) := by decide +kernel
theorem d_Gu_clear_29 : decode b_Gu_clear 29 = .ok (.return_, 1) := by decide +kernel
theorem d_Rd_readName_0 : decode b_Rd_readName 0 = .ok (.aload_n 0, 1) := by decide +kernel
theorem d_Rd_readName_1 : decode b_Rd_readName 1 = .ok (.invokevirtual 35, 3) := by decide +kernel
theorem d_Rd_readName_4 : decode b_Rd_readName 4 = .ok (.bipush 97, 2) := by decide +kernel
theorem d_Rd_readName_6 : decode b_Rd_readName 6 = .ok (.isub, 1) := by decide +kernel
theorem d_Rd_readName_7 : decode b_Rd_readName 7 = .ok (.istore_n 1, 1) := by decide +kernel
theorem d_Rd_readName_8 : decode b_Rd_readName 8 = .ok (.iload_n 1, 1) := by decide +kernel
theorem d_Rd_readName_9 : decode b_Rd_readName 9 = .ok (.ifCond .lt 19, 3) := by decide +kernel
theorem d_Rd_readName_12 : decode b_Rd_readName 12 = .ok (.iload_n 1, 1) := by decide +kernel
theorem d_Rd_readName_13 : decode b_Rd_readName 13 = .ok (.iconst 3, 1) := by decide +kernel
theorem d_Rd_readName_14 : decode b_Rd_readName 14 = .ok (.if_icmp .ge 14, 3) := by decide +kernel
theorem d_Rd_readName_17 : decode b_Rd_readName 17 = .ok (.aload_n 0, 1) := by decide +kernel
theorem d_Rd_readName_18 : decode b_Rd_readName 18 = .ok (.getfield 21, 3) := by decide +kernel
theorem d_Rd_readName_21 : decode b_Rd_readName 21 = .ok (.iload_n 1, 1) := by decide +kernel
theorem d_Rd_readName_22 : decode b_Rd_readName 22 = .ok (.invokevirtual 79, 3) := by decide +kernel
theorem d_Rd_readName_25 : decode b_Rd_readName 25 = .ok (.ifCond .ne 11, 3) := by decide +kernel
theorem d_Rd_readName_28 : decode b_Rd_readName 28 = .ok (.aload_n 0, 1) := by decide +kernel
theorem d_Rd_readName_29 : decode b_Rd_readName 29 = .ok (.aload_n 0, 1) := by decide +kernel
theorem d_Rd_readName_30 : decode b_Rd_readName 30 = .ok (.getfield 25, 3) := by decide +kernel
theorem d_Rd_readName_33 : decode b_Rd_readName 33 = .ok (.invokevirtual 75, 3) := by decide +kernel
theorem d_Rd_readName_36 : decode b_Rd_readName 36 = .ok (.aload_n 0, 1) := by decide +kernel
theorem d_Rd_readName_37 : decode b_Rd_readName 37 = .ok (.dup, 1) := by decide +kernel
theorem d_Rd_readName_38 : decode b_Rd_readName 38 = .ok (.getfield 25, 3) := by decide +kernel
theorem d_Rd_readName_41 : decode b_Rd_readName 41 = .ok (.iconst 1, 1) := by decide +kernel
theorem d_Rd_readName_42 : decode b_Rd_readName 42 = .ok (.iadd, 1) := by decide +kernel
theorem d_Rd_readName_43 : decode b_Rd_readName 43 = .ok (.putfield 25, 3) := by decide +kernel
theorem d_Rd_readName_46 : decode b_Rd_readName 46 = .ok (.iload_n 1, 1) := by decide +kernel
theorem d_Rd_readName_47 : decode b_Rd_readName 47 = .ok (.ireturn, 1) := by decide +kernel
theorem d_Rd_readSum_0 : decode b_Rd_readSum 0 = .ok (.iload_n 3, 1) := by decide +kernel
theorem d_Rd_readSum_1 : decode b_Rd_readSum 1 = .ok (.istore 4, 2) := by decide +kernel
theorem d_Rd_readSum_3 : decode b_Rd_readSum 3 = .ok (.iconst 1, 1) := by decide +kernel
theorem d_Rd_readSum_4 : decode b_Rd_readSum 4 = .ok (.istore 5, 2) := by decide +kernel
theorem d_Rd_readSum_6 : decode b_Rd_readSum 6 = .ok (.iconst 0, 1) := by decide +kernel
theorem d_Rd_readSum_7 : decode b_Rd_readSum 7 = .ok (.istore 6, 2) := by decide +kernel
theorem d_Rd_readSum_9 : decode b_Rd_readSum 9 = .ok (.iload 6, 2) := by decide +kernel
theorem d_Rd_readSum_11 : decode b_Rd_readSum 11 = .ok (.iconst 4, 1) := by decide +kernel
theorem d_Rd_readSum_12 : decode b_Rd_readSum 12 = .ok (.if_icmp .ge 115, 3) := by decide +kernel
theorem d_Rd_readSum_15 : decode b_Rd_readSum 15 = .ok (.iload 5, 2) := by decide +kernel
theorem d_Rd_readSum_17 : decode b_Rd_readSum 17 = .ok (.ifCond .eq 110, 3) := by decide +kernel
theorem d_Rd_readSum_20 : decode b_Rd_readSum 20 = .ok (.aload_n 0, 1) := by decide +kernel
theorem d_Rd_readSum_21 : decode b_Rd_readSum 21 = .ok (.invokevirtual 35, 3) := by decide +kernel
theorem d_Rd_readSum_24 : decode b_Rd_readSum 24 = .ok (.invokestatic 39, 3) := by decide +kernel
theorem d_Rd_readSum_27 : decode b_Rd_readSum 27 = .ok (.ifCond .eq 19, 3) := by decide +kernel
theorem d_Rd_readSum_30 : decode b_Rd_readSum 30 = .ok (.aload_n 1, 1) := by decide +kernel
theorem d_Rd_readSum_31 : decode b_Rd_readSum 31 = .ok (.iload_n 2, 1) := by decide +kernel
theorem d_Rd_readSum_32 : decode b_Rd_readSum 32 = .ok (.aload_n 0, 1) := by decide +kernel
theorem d_Rd_readSum_33 : decode b_Rd_readSum 33 = .ok (.invokevirtual 140, 3) := by decide +kernel
theorem d_Rd_readSum_36 : decode b_Rd_readSum 36 = .ok (.iadd, 1) := by decide +kernel
theorem d_Rd_readSum_37 : decode b_Rd_readSum 37 = .ok (.dup2, 1) := by decide +kernel
theorem d_Rd_readSum_38 : decode b_Rd_readSum 38 = .ok (.iaload, 1) := by decide +kernel
theorem d_Rd_readSum_39 : decode b_Rd_readSum 39 = .ok (.iload 4, 2) := by decide +kernel
theorem d_Rd_readSum_41 : decode b_Rd_readSum 41 = .ok (.iadd, 1) := by decide +kernel
theorem d_Rd_readSum_42 : decode b_Rd_readSum 42 = .ok (.iastore, 1) := by decide +kernel
theorem d_Rd_readSum_43 : decode b_Rd_readSum 43 = .ok (.goto 21, 3) := by decide +kernel
theorem d_Rd_readSum_46 : decode b_Rd_readSum 46 = .ok (.aload_n 1, 1) := by decide +kernel
theorem d_Rd_readSum_47 : decode b_Rd_readSum 47 = .ok (.iload_n 2, 1) := by decide +kernel
theorem d_Rd_readSum_48 : decode b_Rd_readSum 48 = .ok (.iconst 3, 1) := by decide +kernel
theorem d_Rd_readSum_49 : decode b_Rd_readSum 49 = .ok (.iadd, 1) := by decide +kernel
theorem d_Rd_readSum_50 : decode b_Rd_readSum 50 = .ok (.dup2, 1) := by decide +kernel
theorem d_Rd_readSum_51 : decode b_Rd_readSum 51 = .ok (.iaload, 1) := by decide +kernel
theorem d_Rd_readSum_52 : decode b_Rd_readSum 52 = .ok (.iload 4, 2) := by decide +kernel
theorem d_Rd_readSum_54 : decode b_Rd_readSum 54 = .ok (.aload_n 0, 1) := by decide +kernel
theorem d_Rd_readSum_55 : decode b_Rd_readSum 55 = .ok (.iconst 0, 1) := by decide +kernel
theorem d_Rd_readSum_56 : decode b_Rd_readSum 56 = .ok (.bipush 99, 2) := by decide +kernel
theorem d_Rd_readSum_58 : decode b_Rd_readSum 58 = .ok (.invokevirtual 87, 3) := by decide +kernel
theorem d_Rd_readSum_61 : decode b_Rd_readSum 61 = .ok (.imul, 1) := by decide +kernel
theorem d_Rd_readSum_62 : decode b_Rd_readSum 62 = .ok (.iadd, 1) := by decide +kernel
theorem d_Rd_readSum_63 : decode b_Rd_readSum 63 = .ok (.iastore, 1) := by decide +kernel
theorem d_Rd_readSum_64 : decode b_Rd_readSum 64 = .ok (.iload 6, 2) := by decide +kernel
theorem d_Rd_readSum_66 : decode b_Rd_readSum 66 = .ok (.iconst 1, 1) := by decide +kernel
theorem d_Rd_readSum_67 : decode b_Rd_readSum 67 = .ok (.iadd, 1) := by decide +kernel
theorem d_Rd_readSum_68 : decode b_Rd_readSum 68 = .ok (.iconst 4, 1) := by decide +kernel
theorem d_Rd_readSum_69 : decode b_Rd_readSum 69 = .ok (.if_icmp .ge 17, 3) := by decide +kernel
theorem d_Rd_readSum_72 : decode b_Rd_readSum 72 = .ok (.aload_n 0, 1) := by decide +kernel
theorem d_Rd_readSum_73 : decode b_Rd_readSum 73 = .ok (.invokevirtual 35, 3) := by decide +kernel
theorem d_Rd_readSum_76 : decode b_Rd_readSum 76 = .ok (.invokestatic 46, 3) := by decide +kernel
theorem d_Rd_readSum_79 : decode b_Rd_readSum 79 = .ok (.ifCond .eq 7, 3) := by decide +kernel
theorem d_Rd_readSum_82 : decode b_Rd_readSum 82 = .ok (.iconst 1, 1) := by decide +kernel
theorem d_Rd_readSum_83 : decode b_Rd_readSum 83 = .ok (.goto 4, 3) := by decide +kernel
theorem d_Rd_readSum_86 : decode b_Rd_readSum 86 = .ok (.iconst 0, 1) := by decide +kernel
theorem d_Rd_readSum_87 : decode b_Rd_readSum 87 = .ok (.istore 5, 2) := by decide +kernel
theorem d_Rd_readSum_89 : decode b_Rd_readSum 89 = .ok (.iload 5, 2) := by decide +kernel
theorem d_Rd_readSum_91 : decode b_Rd_readSum 91 = .ok (.ifCond .eq 30, 3) := by decide +kernel
theorem d_Rd_readSum_94 : decode b_Rd_readSum 94 = .ok (.aload_n 0, 1) := by decide +kernel
theorem d_Rd_readSum_95 : decode b_Rd_readSum 95 = .ok (.invokevirtual 35, 3) := by decide +kernel
theorem d_Rd_readSum_98 : decode b_Rd_readSum 98 = .ok (.bipush 45, 2) := by decide +kernel
theorem d_Rd_readSum_100 : decode b_Rd_readSum 100 = .ok (.if_icmp .ne 8, 3) := by decide +kernel
theorem d_Rd_readSum_103 : decode b_Rd_readSum 103 = .ok (.iload_n 3, 1) := by decide +kernel
theorem d_Rd_readSum_104 : decode b_Rd_readSum 104 = .ok (.ineg, 1) := by decide +kernel
theorem d_Rd_readSum_105 : decode b_Rd_readSum 105 = .ok (.goto 4, 3) := by decide +kernel
theorem d_Rd_readSum_108 : decode b_Rd_readSum 108 = .ok (.iload_n 3, 1) := by decide +kernel
theorem d_Rd_readSum_109 : decode b_Rd_readSum 109 = .ok (.istore 4, 2) := by decide +kernel
theorem d_Rd_readSum_111 : decode b_Rd_readSum 111 = .ok (.aload_n 0, 1) := by decide +kernel
theorem d_Rd_readSum_112 : decode b_Rd_readSum 112 = .ok (.dup, 1) := by decide +kernel
theorem d_Rd_readSum_113 : decode b_Rd_readSum 113 = .ok (.getfield 25, 3) := by decide +kernel
theorem d_Rd_readSum_116 : decode b_Rd_readSum 116 = .ok (.iconst 1, 1) := by decide +kernel
theorem d_Rd_readSum_117 : decode b_Rd_readSum 117 = .ok (.iadd, 1) := by decide +kernel
theorem d_Rd_readSum_118 : decode b_Rd_readSum 118 = .ok (.putfield 25, 3) := by decide +kernel
theorem d_Rd_readSum_121 : decode b_Rd_readSum 121 = .ok (.iinc 6 1, 3) := by decide +kernel
theorem d_Rd_readSum_124 : decode b_Rd_readSum 124 = .ok (.goto (-115), 3) := by decide +kernel
theorem d_Rd_readSum_127 : decode b_Rd_readSum 127 = .ok (.return_, 1) := by decide +kernel
theorem d_Rd_isComparison_0 : decode b_Rd_isComparison 0 = .ok (.iload_n 0, 1) := by decide +kernel
theorem d_Rd_isComparison_1 : decode b_Rd_isComparison 1 = .ok (.bipush 60, 2) := by decide +kernel
theorem d_Rd_isComparison_3 : decode b_Rd_isComparison 3 = .ok (.if_icmp .eq 21, 3) := by decide +kernel
theorem d_Rd_isComparison_6 : decode b_Rd_isComparison 6 = .ok (.iload_n 0, 1) := by decide +kernel
theorem d_Rd_isComparison_7 : decode b_Rd_isComparison 7 = .ok (.bipush 62, 2) := by decide +kernel
theorem d_Rd_isComparison_9 : decode b_Rd_isComparison 9 = .ok (.if_icmp .eq 15, 3) := by decide +kernel
theorem d_Rd_isComparison_12 : decode b_Rd_isComparison 12 = .ok (.iload_n 0, 1) := by decide +kernel
theorem d_Rd_isComparison_13 : decode b_Rd_isComparison 13 = .ok (.bipush 61, 2) := by decide +kernel
theorem d_Rd_isComparison_15 : decode b_Rd_isComparison 15 = .ok (.if_icmp .eq 9, 3) := by decide +kernel
theorem d_Rd_isComparison_18 : decode b_Rd_isComparison 18 = .ok (.iload_n 0, 1) := by decide +kernel
theorem d_Rd_isComparison_19 : decode b_Rd_isComparison 19 = .ok (.bipush 35, 2) := by decide +kernel
theorem d_Rd_isComparison_21 : decode b_Rd_isComparison 21 = .ok (.if_icmp .ne 7, 3) := by decide +kernel
theorem d_Rd_isComparison_24 : decode b_Rd_isComparison 24 = .ok (.iconst 1, 1) := by decide +kernel
theorem d_Rd_isComparison_25 : decode b_Rd_isComparison 25 = .ok (.goto 4, 3) := by decide +kernel
theorem d_Rd_isComparison_28 : decode b_Rd_isComparison 28 = .ok (.iconst 0, 1) := by decide +kernel
theorem d_Rd_isComparison_29 : decode b_Rd_isComparison 29 = .ok (.ireturn, 1) := by decide +kernel
theorem d_Rd_readGuard_0 : decode b_Rd_readGuard 0 = .ok (.aload_n 1, 1) := by decide +kernel
theorem d_Rd_readGuard_1 : decode b_Rd_readGuard 1 = .ok (.invokevirtual 121, 3) := by decide +kernel
theorem d_Rd_readGuard_4 : decode b_Rd_readGuard 4 = .ok (.iconst 1, 1) := by decide +kernel
theorem d_Rd_readGuard_5 : decode b_Rd_readGuard 5 = .ok (.istore_n 2, 1) := by decide +kernel
theorem d_Rd_readGuard_6 : decode b_Rd_readGuard 6 = .ok (.iconst 0, 1) := by decide +kernel
theorem d_Rd_readGuard_7 : decode b_Rd_readGuard 7 = .ok (.istore_n 3, 1) := by decide +kernel
theorem d_Rd_readGuard_8 : decode b_Rd_readGuard 8 = .ok (.iload_n 3, 1) := by decide +kernel
theorem d_Rd_readGuard_9 : decode b_Rd_readGuard 9 = .ok (.iconst 4, 1) := by decide +kernel
theorem d_Rd_readGuard_10 : decode b_Rd_readGuard 10 = .ok (.if_icmp .ge 108, 3) := by decide +kernel
theorem d_Rd_readGuard_13 : decode b_Rd_readGuard 13 = .ok (.iload_n 2, 1) := by decide +kernel
theorem d_Rd_readGuard_14 : decode b_Rd_readGuard 14 = .ok (.ifCond .eq 104, 3) := by decide +kernel
theorem d_Rd_readGuard_17 : decode b_Rd_readGuard 17 = .ok (.aload_n 0, 1) := by decide +kernel
theorem d_Rd_readGuard_18 : decode b_Rd_readGuard 18 = .ok (.aload_n 1, 1) := by decide +kernel
theorem d_Rd_readGuard_19 : decode b_Rd_readGuard 19 = .ok (.getfield 124, 3) := by decide +kernel
theorem d_Rd_readGuard_22 : decode b_Rd_readGuard 22 = .ok (.iload_n 3, 1) := by decide +kernel
theorem d_Rd_readGuard_23 : decode b_Rd_readGuard 23 = .ok (.iconst 4, 1) := by decide +kernel
theorem d_Rd_readGuard_24 : decode b_Rd_readGuard 24 = .ok (.imul, 1) := by decide +kernel
theorem d_Rd_readGuard_25 : decode b_Rd_readGuard 25 = .ok (.iconst 1, 1) := by decide +kernel
theorem d_Rd_readGuard_26 : decode b_Rd_readGuard 26 = .ok (.invokevirtual 127, 3) := by decide +kernel
theorem d_Rd_readGuard_29 : decode b_Rd_readGuard 29 = .ok (.aload_n 1, 1) := by decide +kernel
theorem d_Rd_readGuard_30 : decode b_Rd_readGuard 30 = .ok (.getfield 131, 3) := by decide +kernel
theorem d_Rd_readGuard_33 : decode b_Rd_readGuard 33 = .ok (.iload_n 3, 1) := by decide +kernel
theorem d_Rd_readGuard_34 : decode b_Rd_readGuard 34 = .ok (.aload_n 0, 1) := by decide +kernel
theorem d_Rd_readGuard_35 : decode b_Rd_readGuard 35 = .ok (.invokevirtual 35, 3) := by decide +kernel
theorem d_Rd_readGuard_38 : decode b_Rd_readGuard 38 = .ok (.castore, 1) := by decide +kernel
theorem d_Rd_readGuard_39 : decode b_Rd_readGuard 39 = .ok (.aload_n 0, 1) := by decide +kernel
theorem d_Rd_readGuard_40 : decode b_Rd_readGuard 40 = .ok (.invokevirtual 35, 3) := by decide +kernel
theorem d_Rd_readGuard_43 : decode b_Rd_readGuard 43 = .ok (.invokestatic 135, 3) := by decide +kernel
theorem d_Rd_readGuard_46 : decode b_Rd_readGuard 46 = .ok (.ifCond .ne 11, 3) := by decide +kernel
theorem d_Rd_readGuard_49 : decode b_Rd_readGuard 49 = .ok (.aload_n 0, 1) := by decide +kernel
theorem d_Rd_readGuard_50 : decode b_Rd_readGuard 50 = .ok (.aload_n 0, 1) := by decide +kernel
theorem d_Rd_readGuard_51 : decode b_Rd_readGuard 51 = .ok (.getfield 25, 3) := by decide +kernel
theorem d_Rd_readGuard_54 : decode b_Rd_readGuard 54 = .ok (.invokevirtual 75, 3) := by decide +kernel
theorem d_Rd_readGuard_57 : decode b_Rd_readGuard 57 = .ok (.aload_n 0, 1) := by decide +kernel
theorem d_Rd_readGuard_58 : decode b_Rd_readGuard 58 = .ok (.dup, 1) := by decide +kernel
theorem d_Rd_readGuard_59 : decode b_Rd_readGuard 59 = .ok (.getfield 25, 3) := by decide +kernel
theorem d_Rd_readGuard_62 : decode b_Rd_readGuard 62 = .ok (.iconst 1, 1) := by decide +kernel
theorem d_Rd_readGuard_63 : decode b_Rd_readGuard 63 = .ok (.iadd, 1) := by decide +kernel
theorem d_Rd_readGuard_64 : decode b_Rd_readGuard 64 = .ok (.putfield 25, 3) := by decide +kernel
theorem d_Rd_readGuard_67 : decode b_Rd_readGuard 67 = .ok (.aload_n 0, 1) := by decide +kernel
theorem d_Rd_readGuard_68 : decode b_Rd_readGuard 68 = .ok (.aload_n 1, 1) := by decide +kernel
theorem d_Rd_readGuard_69 : decode b_Rd_readGuard 69 = .ok (.getfield 124, 3) := by decide +kernel
theorem d_Rd_readGuard_72 : decode b_Rd_readGuard 72 = .ok (.iload_n 3, 1) := by decide +kernel
theorem d_Rd_readGuard_73 : decode b_Rd_readGuard 73 = .ok (.iconst 4, 1) := by decide +kernel
theorem d_Rd_readGuard_74 : decode b_Rd_readGuard 74 = .ok (.imul, 1) := by decide +kernel
theorem d_Rd_readGuard_75 : decode b_Rd_readGuard 75 = .ok (.iconst (-1), 1) := by decide +kernel
theorem d_Rd_readGuard_76 : decode b_Rd_readGuard 76 = .ok (.invokevirtual 127, 3) := by decide +kernel
theorem d_Rd_readGuard_79 : decode b_Rd_readGuard 79 = .ok (.aload_n 1, 1) := by decide +kernel
theorem d_Rd_readGuard_80 : decode b_Rd_readGuard 80 = .ok (.dup, 1) := by decide +kernel
theorem d_Rd_readGuard_81 : decode b_Rd_readGuard 81 = .ok (.getfield 138, 3) := by decide +kernel
theorem d_Rd_readGuard_84 : decode b_Rd_readGuard 84 = .ok (.iconst 1, 1) := by decide +kernel
theorem d_Rd_readGuard_85 : decode b_Rd_readGuard 85 = .ok (.iadd, 1) := by decide +kernel
theorem d_Rd_readGuard_86 : decode b_Rd_readGuard 86 = .ok (.putfield 138, 3) := by decide +kernel
theorem d_Rd_readGuard_89 : decode b_Rd_readGuard 89 = .ok (.aload_n 1, 1) := by decide +kernel
theorem d_Rd_readGuard_90 : decode b_Rd_readGuard 90 = .ok (.getfield 138, 3) := by decide +kernel
theorem d_Rd_readGuard_93 : decode b_Rd_readGuard 93 = .ok (.iconst 4, 1) := by decide +kernel
theorem d_Rd_readGuard_94 : decode b_Rd_readGuard 94 = .ok (.if_icmp .ge 16, 3) := by decide +kernel
theorem d_Rd_readGuard_97 : decode b_Rd_readGuard 97 = .ok (.aload_n 0, 1) := by decide +kernel
theorem d_Rd_readGuard_98 : decode b_Rd_readGuard 98 = .ok (.bipush 38, 2) := by decide +kernel
theorem d_Rd_readGuard_100 : decode b_Rd_readGuard 100 = .ok (.invokevirtual 118, 3) := by decide +kernel
theorem d_Rd_readGuard_103 : decode b_Rd_readGuard 103 = .ok (.ifCond .eq 7, 3) := by decide +kernel
theorem d_Rd_readGuard_106 : decode b_Rd_readGuard 106 = .ok (.iconst 1, 1) := by decide +kernel
theorem d_Rd_readGuard_107 : decode b_Rd_readGuard 107 = .ok (.goto 4, 3) := by decide +kernel
theorem d_Rd_readGuard_110 : decode b_Rd_readGuard 110 = .ok (.iconst 0, 1) := by decide +kernel
theorem d_Rd_readGuard_111 : decode b_Rd_readGuard 111 = .ok (.istore_n 2, 1) := by decide +kernel
theorem d_Rd_readGuard_112 : decode b_Rd_readGuard 112 = .ok (.iinc 3 1, 3) := by decide +kernel
theorem d_Rd_readGuard_115 : decode b_Rd_readGuard 115 = .ok (.goto (-107), 3) := by decide +kernel
theorem d_Rd_readGuard_118 : decode b_Rd_readGuard 118 = .ok (.return_, 1) := by decide +kernel
theorem d_Br_clearSum_0 : decode b_Br_clearSum 0 = .ok (.iconst 0, 1) := by decide +kernel
theorem d_Br_clearSum_1 : decode b_Br_clearSum 1 = .ok (.istore_n 2, 1) := by decide +kernel
theorem d_Br_clearSum_2 : decode b_Br_clearSum 2 = .ok (.iload_n 2, 1) := by decide +kernel
theorem d_Br_clearSum_3 : decode b_Br_clearSum 3 = .ok (.iconst 4, 1) := by decide +kernel
theorem d_Br_clearSum_4 : decode b_Br_clearSum 4 = .ok (.if_icmp .ge 20, 3) := by decide +kernel
theorem d_Br_clearSum_7 : decode b_Br_clearSum 7 = .ok (.aload_n 0, 1) := by decide +kernel
theorem d_Br_clearSum_8 : decode b_Br_clearSum 8 = .ok (.getfield 9, 3) := by decide +kernel
theorem d_Br_clearSum_11 : decode b_Br_clearSum 11 = .ok (.iload_n 1, 1) := by decide +kernel
theorem d_Br_clearSum_12 : decode b_Br_clearSum 12 = .ok (.iconst 4, 1) := by decide +kernel
theorem d_Br_clearSum_13 : decode b_Br_clearSum 13 = .ok (.imul, 1) := by decide +kernel
theorem d_Br_clearSum_14 : decode b_Br_clearSum 14 = .ok (.iload_n 2, 1) := by decide +kernel
theorem d_Br_clearSum_15 : decode b_Br_clearSum 15 = .ok (.iadd, 1) := by decide +kernel
theorem d_Br_clearSum_16 : decode b_Br_clearSum 16 = .ok (.iconst 0, 1) := by decide +kernel
theorem d_Br_clearSum_17 : decode b_Br_clearSum 17 = .ok (.iastore, 1) := by decide +kernel
theorem d_Br_clearSum_18 : decode b_Br_clearSum 18 = .ok (.iinc 2 1, 3) := by decide +kernel
theorem d_Br_clearSum_21 : decode b_Br_clearSum 21 = .ok (.goto (-19), 3) := by decide +kernel
theorem d_Br_clearSum_24 : decode b_Br_clearSum 24 = .ok (.return_, 1) := by decide +kernel
theorem d_Br_clear_0 : decode b_Br_clear 0 = .ok (.aload_n 0, 1) := by decide +kernel
theorem d_Br_clear_1 : decode b_Br_clear 1 = .ok (.iconst 0, 1) := by decide +kernel
theorem d_Br_clear_2 : decode b_Br_clear 2 = .ok (.putfield 15, 3) := by decide +kernel
theorem d_Br_clear_5 : decode b_Br_clear 5 = .ok (.iconst 0, 1) := by decide +kernel
theorem d_Br_clear_6 : decode b_Br_clear 6 = .ok (.istore_n 1, 1) := by decide +kernel
theorem d_Br_clear_7 : decode b_Br_clear 7 = .ok (.iload_n 1, 1) := by decide +kernel
theorem d_Br_clear_8 : decode b_Br_clear 8 = .ok (.iconst 3, 1) := by decide +kernel
theorem d_Br_clear_9 : decode b_Br_clear 9 = .ok (.if_icmp .ge 25, 3) := by decide +kernel
theorem d_Br_clear_12 : decode b_Br_clear 12 = .ok (.aload_n 0, 1) := by decide +kernel
theorem d_Br_clear_13 : decode b_Br_clear 13 = .ok (.iload_n 1, 1) := by decide +kernel
theorem d_Br_clear_14 : decode b_Br_clear 14 = .ok (.invokevirtual 19, 3) := by decide +kernel
theorem d_Br_clear_17 : decode b_Br_clear 17 = .ok (.aload_n 0, 1) := by decide +kernel
theorem d_Br_clear_18 : decode b_Br_clear 18 = .ok (.getfield 9, 3) := by decide +kernel
theorem d_Br_clear_21 : decode b_Br_clear 21 = .ok (.iload_n 1, 1) := by decide +kernel
theorem d_Br_clear_22 : decode b_Br_clear 22 = .ok (.iconst 4, 1) := by decide +kernel
theorem d_Br_clear_23 : decode b_Br_clear 23 = .ok (.imul, 1) := by decide +kernel
theorem d_Br_clear_24 : decode b_Br_clear 24 = .ok (.iload_n 1, 1) := by decide +kernel
theorem d_Br_clear_25 : decode b_Br_clear 25 = .ok (.iadd, 1) := by decide +kernel
theorem d_Br_clear_26 : decode b_Br_clear 26 = .ok (.iconst 1, 1) := by decide +kernel
theorem d_Br_clear_27 : decode b_Br_clear 27 = .ok (.iastore, 1) := by decide +kernel
theorem d_Br_clear_28 : decode b_Br_clear 28 = .ok (.iinc 1 1, 3) := by decide +kernel
theorem d_Br_clear_31 : decode b_Br_clear 31 = .ok (.goto (-24), 3) := by decide +kernel
theorem d_Br_clear_34 : decode b_Br_clear 34 = .ok (.return_, 1) := by decide +kernel
theorem d_CG_hasBit_0 : decode b_CG_hasBit 0 = .ok (.iload_n 0, 1) := by decide +kernel
theorem d_CG_hasBit_1 : decode b_CG_hasBit 1 = .ok (.iload_n 1, 1) := by decide +kernel
theorem d_CG_hasBit_2 : decode b_CG_hasBit 2 = .ok (.ishr, 1) := by decide +kernel
theorem d_CG_hasBit_3 : decode b_CG_hasBit 3 = .ok (.iconst 1, 1) := by decide +kernel
theorem d_CG_hasBit_4 : decode b_CG_hasBit 4 = .ok (.iand, 1) := by decide +kernel
theorem d_CG_hasBit_5 : decode b_CG_hasBit 5 = .ok (.ifCond .eq 7, 3) := by decide +kernel
theorem d_CG_hasBit_8 : decode b_CG_hasBit 8 = .ok (.iconst 1, 1) := by decide +kernel
theorem d_CG_hasBit_9 : decode b_CG_hasBit 9 = .ok (.goto 4, 3) := by decide +kernel
theorem d_CG_hasBit_12 : decode b_CG_hasBit 12 = .ok (.iconst 0, 1) := by decide +kernel
theorem d_CG_hasBit_13 : decode b_CG_hasBit 13 = .ok (.ireturn, 1) := by decide +kernel
theorem d_Rd_readBranch_0 : decode b_Rd_readBranch 0 = .ok (.aload_n 1, 1) := by decide +kernel
theorem d_Rd_readBranch_1 : decode b_Rd_readBranch 1 = .ok (.invokevirtual 139, 3) := by decide +kernel
theorem d_Rd_readBranch_4 : decode b_Rd_readBranch 4 = .ok (.aload_n 1, 1) := by decide +kernel
theorem d_Rd_readBranch_5 : decode b_Rd_readBranch 5 = .ok (.aload_n 0, 1) := by decide +kernel
theorem d_Rd_readBranch_6 : decode b_Rd_readBranch 6 = .ok (.iconst 1, 1) := by decide +kernel
theorem d_Rd_readBranch_7 : decode b_Rd_readBranch 7 = .ok (.iload_n 2, 1) := by decide +kernel
theorem d_Rd_readBranch_8 : decode b_Rd_readBranch 8 = .ok (.invokevirtual 87, 3) := by decide +kernel
theorem d_Rd_readBranch_11 : decode b_Rd_readBranch 11 = .ok (.putfield 115, 3) := by decide +kernel
theorem d_Rd_readBranch_14 : decode b_Rd_readBranch 14 = .ok (.iconst 0, 1) := by decide +kernel
theorem d_Rd_readBranch_15 : decode b_Rd_readBranch 15 = .ok (.istore_n 3, 1) := by decide +kernel
theorem d_Rd_readBranch_16 : decode b_Rd_readBranch 16 = .ok (.aload_n 0, 1) := by decide +kernel
theorem d_Rd_readBranch_17 : decode b_Rd_readBranch 17 = .ok (.bipush 58, 2) := by decide +kernel
theorem d_Rd_readBranch_19 : decode b_Rd_readBranch 19 = .ok (.invokevirtual 118, 3) := by decide +kernel
theorem d_Rd_readBranch_22 : decode b_Rd_readBranch 22 = .ok (.istore 4, 2) := by decide +kernel
theorem d_Rd_readBranch_24 : decode b_Rd_readBranch 24 = .ok (.iconst 0, 1) := by decide +kernel
theorem d_Rd_readBranch_25 : decode b_Rd_readBranch 25 = .ok (.istore 5, 2) := by decide +kernel
theorem d_Rd_readBranch_27 : decode b_Rd_readBranch 27 = .ok (.iload 5, 2) := by decide +kernel
theorem d_Rd_readBranch_29 : decode b_Rd_readBranch 29 = .ok (.iconst 3, 1) := by decide +kernel
theorem d_Rd_readBranch_30 : decode b_Rd_readBranch 30 = .ok (.if_icmp .gt 81, 3) := by decide +kernel
theorem d_Rd_readBranch_33 : decode b_Rd_readBranch 33 = .ok (.iload 4, 2) := by decide +kernel
theorem d_Rd_readBranch_35 : decode b_Rd_readBranch 35 = .ok (.ifCond .eq 76, 3) := by decide +kernel
theorem d_Rd_readBranch_38 : decode b_Rd_readBranch 38 = .ok (.aload_n 0, 1) := by decide +kernel
theorem d_Rd_readBranch_39 : decode b_Rd_readBranch 39 = .ok (.getfield 25, 3) := by decide +kernel
theorem d_Rd_readBranch_42 : decode b_Rd_readBranch 42 = .ok (.istore 6, 2) := by decide +kernel
theorem d_Rd_readBranch_44 : decode b_Rd_readBranch 44 = .ok (.aload_n 0, 1) := by decide +kernel
theorem d_Rd_readBranch_45 : decode b_Rd_readBranch 45 = .ok (.invokevirtual 140, 3) := by decide +kernel
theorem d_Rd_readBranch_48 : decode b_Rd_readBranch 48 = .ok (.istore 7, 2) := by decide +kernel
theorem d_Rd_readBranch_50 : decode b_Rd_readBranch 50 = .ok (.iload_n 3, 1) := by decide +kernel
theorem d_Rd_readBranch_51 : decode b_Rd_readBranch 51 = .ok (.iload 7, 2) := by decide +kernel
theorem d_Rd_readBranch_53 : decode b_Rd_readBranch 53 = .ok (.invokestatic 144, 3) := by decide +kernel
theorem d_Rd_readBranch_56 : decode b_Rd_readBranch 56 = .ok (.ifCond .eq 9, 3) := by decide +kernel
theorem d_Rd_readBranch_59 : decode b_Rd_readBranch 59 = .ok (.aload_n 0, 1) := by decide +kernel
theorem d_Rd_readBranch_60 : decode b_Rd_readBranch 60 = .ok (.iload 6, 2) := by decide +kernel
theorem d_Rd_readBranch_62 : decode b_Rd_readBranch 62 = .ok (.invokevirtual 75, 3) := by decide +kernel
theorem d_Rd_readBranch_65 : decode b_Rd_readBranch 65 = .ok (.iload_n 3, 1) := by decide +kernel
theorem d_Rd_readBranch_66 : decode b_Rd_readBranch 66 = .ok (.iconst 1, 1) := by decide +kernel
theorem d_Rd_readBranch_67 : decode b_Rd_readBranch 67 = .ok (.iload 7, 2) := by decide +kernel
theorem d_Rd_readBranch_69 : decode b_Rd_readBranch 69 = .ok (.ishl, 1) := by decide +kernel
theorem d_Rd_readBranch_70 : decode b_Rd_readBranch 70 = .ok (.ior, 1) := by decide +kernel
theorem d_Rd_readBranch_71 : decode b_Rd_readBranch 71 = .ok (.istore_n 3, 1) := by decide +kernel
theorem d_Rd_readBranch_72 : decode b_Rd_readBranch 72 = .ok (.aload_n 0, 1) := by decide +kernel
theorem d_Rd_readBranch_73 : decode b_Rd_readBranch 73 = .ok (.bipush 61, 2) := by decide +kernel
theorem d_Rd_readBranch_75 : decode b_Rd_readBranch 75 = .ok (.invokevirtual 60, 3) := by decide +kernel
theorem d_Rd_readBranch_78 : decode b_Rd_readBranch 78 = .ok (.aload_n 1, 1) := by decide +kernel
theorem d_Rd_readBranch_79 : decode b_Rd_readBranch 79 = .ok (.iload 7, 2) := by decide +kernel
theorem d_Rd_readBranch_81 : decode b_Rd_readBranch 81 = .ok (.invokevirtual 148, 3) := by decide +kernel
theorem d_Rd_readBranch_84 : decode b_Rd_readBranch 84 = .ok (.aload_n 0, 1) := by decide +kernel
theorem d_Rd_readBranch_85 : decode b_Rd_readBranch 85 = .ok (.aload_n 1, 1) := by decide +kernel
theorem d_Rd_readBranch_86 : decode b_Rd_readBranch 86 = .ok (.getfield 151, 3) := by decide +kernel
theorem d_Rd_readBranch_89 : decode b_Rd_readBranch 89 = .ok (.iload 7, 2) := by decide +kernel
theorem d_Rd_readBranch_91 : decode b_Rd_readBranch 91 = .ok (.iconst 4, 1) := by decide +kernel
theorem d_Rd_readBranch_92 : decode b_Rd_readBranch 92 = .ok (.imul, 1) := by decide +kernel
theorem d_Rd_readBranch_93 : decode b_Rd_readBranch 93 = .ok (.iconst 1, 1) := by decide +kernel
theorem d_Rd_readBranch_94 : decode b_Rd_readBranch 94 = .ok (.invokevirtual 127, 3) := by decide +kernel
theorem d_Rd_readBranch_97 : decode b_Rd_readBranch 97 = .ok (.aload_n 0, 1) := by decide +kernel
theorem d_Rd_readBranch_98 : decode b_Rd_readBranch 98 = .ok (.bipush 44, 2) := by decide +kernel
theorem d_Rd_readBranch_100 : decode b_Rd_readBranch 100 = .ok (.invokevirtual 118, 3) := by decide +kernel
theorem d_Rd_readBranch_103 : decode b_Rd_readBranch 103 = .ok (.istore 4, 2) := by decide +kernel
theorem d_Rd_readBranch_105 : decode b_Rd_readBranch 105 = .ok (.iinc 5 1, 3) := by decide +kernel
theorem d_Rd_readBranch_108 : decode b_Rd_readBranch 108 = .ok (.goto (-81), 3) := by decide +kernel
theorem d_Rd_readBranch_111 : decode b_Rd_readBranch 111 = .ok (.return_, 1) := by decide +kernel
theorem d_Rd_readCommand_0 : decode b_Rd_readCommand 0 = .ok (.aload_n 1, 1) := by decide +kernel
theorem d_Rd_readCommand_1 : decode b_Rd_readCommand 1 = .ok (.aload_n 0, 1) := by decide +kernel
theorem d_Rd_readCommand_2 : decode b_Rd_readCommand 2 = .ok (.invokevirtual 35, 3) := by decide +kernel
theorem d_Rd_readCommand_5 : decode b_Rd_readCommand 5 = .ok (.bipush 43, 2) := by decide +kernel
theorem d_Rd_readCommand_7 : decode b_Rd_readCommand 7 = .ok (.if_icmp .ne 7, 3) := by decide +kernel
theorem d_Rd_readCommand_10 : decode b_Rd_readCommand 10 = .ok (.iconst 1, 1) := by decide +kernel
theorem d_Rd_readCommand_11 : decode b_Rd_readCommand 11 = .ok (.goto 4, 3) := by decide +kernel
theorem d_Rd_readCommand_14 : decode b_Rd_readCommand 14 = .ok (.iconst 0, 1) := by decide +kernel
theorem d_Rd_readCommand_15 : decode b_Rd_readCommand 15 = .ok (.putfield 94, 3) := by decide +kernel
theorem d_Rd_readCommand_18 : decode b_Rd_readCommand 18 = .ok (.aload_n 0, 1) := by decide +kernel
theorem d_Rd_readCommand_19 : decode b_Rd_readCommand 19 = .ok (.dup, 1) := by decide +kernel
theorem d_Rd_readCommand_20 : decode b_Rd_readCommand 20 = .ok (.getfield 25, 3) := by decide +kernel
theorem d_Rd_readCommand_23 : decode b_Rd_readCommand 23 = .ok (.iconst 1, 1) := by decide +kernel
theorem d_Rd_readCommand_24 : decode b_Rd_readCommand 24 = .ok (.iadd, 1) := by decide +kernel
theorem d_Rd_readCommand_25 : decode b_Rd_readCommand 25 = .ok (.putfield 25, 3) := by decide +kernel
theorem d_Rd_readCommand_28 : decode b_Rd_readCommand 28 = .ok (.aload_n 0, 1) := by decide +kernel
theorem d_Rd_readCommand_29 : decode b_Rd_readCommand 29 = .ok (.aload_n 1, 1) := by decide +kernel
theorem d_Rd_readCommand_30 : decode b_Rd_readCommand 30 = .ok (.getfield 100, 3) := by decide +kernel
theorem d_Rd_readCommand_33 : decode b_Rd_readCommand 33 = .ok (.invokevirtual 68, 3) := by decide +kernel
theorem d_Rd_readCommand_36 : decode b_Rd_readCommand 36 = .ok (.aload_n 0, 1) := by decide +kernel
theorem d_Rd_readCommand_37 : decode b_Rd_readCommand 37 = .ok (.bipush 63, 2) := by decide +kernel
theorem d_Rd_readCommand_39 : decode b_Rd_readCommand 39 = .ok (.invokevirtual 60, 3) := by decide +kernel
theorem d_Rd_readCommand_42 : decode b_Rd_readCommand 42 = .ok (.aload_n 1, 1) := by decide +kernel
theorem d_Rd_readCommand_43 : decode b_Rd_readCommand 43 = .ok (.iconst 0, 1) := by decide +kernel
theorem d_Rd_readCommand_44 : decode b_Rd_readCommand 44 = .ok (.putfield 103, 3) := by decide +kernel
theorem d_Rd_readCommand_47 : decode b_Rd_readCommand 47 = .ok (.aload_n 1, 1) := by decide +kernel
theorem d_Rd_readCommand_48 : decode b_Rd_readCommand 48 = .ok (.iconst 0, 1) := by decide +kernel
theorem d_Rd_readCommand_49 : decode b_Rd_readCommand 49 = .ok (.putfield 104, 3) := by decide +kernel
theorem d_Rd_readCommand_52 : decode b_Rd_readCommand 52 = .ok (.iconst 1, 1) := by decide +kernel
theorem d_Rd_readCommand_53 : decode b_Rd_readCommand 53 = .ok (.istore_n 2, 1) := by decide +kernel
theorem d_Rd_readCommand_54 : decode b_Rd_readCommand 54 = .ok (.iconst 0, 1) := by decide +kernel
theorem d_Rd_readCommand_55 : decode b_Rd_readCommand 55 = .ok (.istore_n 3, 1) := by decide +kernel
theorem d_Rd_readCommand_56 : decode b_Rd_readCommand 56 = .ok (.iload_n 3, 1) := by decide +kernel
theorem d_Rd_readCommand_57 : decode b_Rd_readCommand 57 = .ok (.iconst 4, 1) := by decide +kernel
theorem d_Rd_readCommand_58 : decode b_Rd_readCommand 58 = .ok (.if_icmp .ge 81, 3) := by decide +kernel
theorem d_Rd_readCommand_61 : decode b_Rd_readCommand 61 = .ok (.iload_n 2, 1) := by decide +kernel
theorem d_Rd_readCommand_62 : decode b_Rd_readCommand 62 = .ok (.ifCond .eq 77, 3) := by decide +kernel
theorem d_Rd_readCommand_65 : decode b_Rd_readCommand 65 = .ok (.aload_n 1, 1) := by decide +kernel
theorem d_Rd_readCommand_66 : decode b_Rd_readCommand 66 = .ok (.getfield 107, 3) := by decide +kernel
theorem d_Rd_readCommand_69 : decode b_Rd_readCommand 69 = .ok (.iload_n 3, 1) := by decide +kernel
theorem d_Rd_readCommand_70 : decode b_Rd_readCommand 70 = .ok (.aaload, 1) := by decide +kernel
theorem d_Rd_readCommand_71 : decode b_Rd_readCommand 71 = .ok (.astore 4, 2) := by decide +kernel
theorem d_Rd_readCommand_73 : decode b_Rd_readCommand 73 = .ok (.aload_n 0, 1) := by decide +kernel
theorem d_Rd_readCommand_74 : decode b_Rd_readCommand 74 = .ok (.aload 4, 2) := by decide +kernel
theorem d_Rd_readCommand_76 : decode b_Rd_readCommand 76 = .ok (.bipush 6, 2) := by decide +kernel
theorem d_Rd_readCommand_78 : decode b_Rd_readCommand 78 = .ok (.aload_n 1, 1) := by decide +kernel
theorem d_Rd_readCommand_79 : decode b_Rd_readCommand 79 = .ok (.getfield 104, 3) := by decide +kernel
theorem d_Rd_readCommand_82 : decode b_Rd_readCommand 82 = .ok (.isub, 1) := by decide +kernel
theorem d_Rd_readCommand_83 : decode b_Rd_readCommand 83 = .ok (.invokevirtual 111, 3) := by decide +kernel
theorem d_Rd_readCommand_86 : decode b_Rd_readCommand 86 = .ok (.aload_n 1, 1) := by decide +kernel
theorem d_Rd_readCommand_87 : decode b_Rd_readCommand 87 = .ok (.dup, 1) := by decide +kernel
theorem d_Rd_readCommand_88 : decode b_Rd_readCommand 88 = .ok (.getfield 104, 3) := by decide +kernel
theorem d_Rd_readCommand_91 : decode b_Rd_readCommand 91 = .ok (.aload 4, 2) := by decide +kernel
theorem d_Rd_readCommand_93 : decode b_Rd_readCommand 93 = .ok (.getfield 115, 3) := by decide +kernel
theorem d_Rd_readCommand_96 : decode b_Rd_readCommand 96 = .ok (.iadd, 1) := by decide +kernel
theorem d_Rd_readCommand_97 : decode b_Rd_readCommand 97 = .ok (.putfield 104, 3) := by decide +kernel
theorem d_Rd_readCommand_100 : decode b_Rd_readCommand 100 = .ok (.aload_n 1, 1) := by decide +kernel
theorem d_Rd_readCommand_101 : decode b_Rd_readCommand 101 = .ok (.dup, 1) := by decide +kernel
theorem d_Rd_readCommand_102 : decode b_Rd_readCommand 102 = .ok (.getfield 103, 3) := by decide +kernel
theorem d_Rd_readCommand_105 : decode b_Rd_readCommand 105 = .ok (.iconst 1, 1) := by decide +kernel
theorem d_Rd_readCommand_106 : decode b_Rd_readCommand 106 = .ok (.iadd, 1) := by decide +kernel
theorem d_Rd_readCommand_107 : decode b_Rd_readCommand 107 = .ok (.putfield 103, 3) := by decide +kernel
theorem d_Rd_readCommand_110 : decode b_Rd_readCommand 110 = .ok (.aload_n 1, 1) := by decide +kernel
theorem d_Rd_readCommand_111 : decode b_Rd_readCommand 111 = .ok (.getfield 103, 3) := by decide +kernel
theorem d_Rd_readCommand_114 : decode b_Rd_readCommand 114 = .ok (.iconst 4, 1) := by decide +kernel
theorem d_Rd_readCommand_115 : decode b_Rd_readCommand 115 = .ok (.if_icmp .ge 16, 3) := by decide +kernel
theorem d_Rd_readCommand_118 : decode b_Rd_readCommand 118 = .ok (.aload_n 0, 1) := by decide +kernel
theorem d_Rd_readCommand_119 : decode b_Rd_readCommand 119 = .ok (.bipush 124, 2) := by decide +kernel
theorem d_Rd_readCommand_121 : decode b_Rd_readCommand 121 = .ok (.invokevirtual 118, 3) := by decide +kernel
theorem d_Rd_readCommand_124 : decode b_Rd_readCommand 124 = .ok (.ifCond .eq 7, 3) := by decide +kernel
theorem d_Rd_readCommand_127 : decode b_Rd_readCommand 127 = .ok (.iconst 1, 1) := by decide +kernel
theorem d_Rd_readCommand_128 : decode b_Rd_readCommand 128 = .ok (.goto 4, 3) := by decide +kernel
theorem d_Rd_readCommand_131 : decode b_Rd_readCommand 131 = .ok (.iconst 0, 1) := by decide +kernel
theorem d_Rd_readCommand_132 : decode b_Rd_readCommand 132 = .ok (.istore_n 2, 1) := by decide +kernel
