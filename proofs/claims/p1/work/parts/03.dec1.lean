theorem d_Gu_init_4 : decode b_Gu_init 4 = .ok (.aload_n 0, 1) := by decide +kernel
theorem d_Gu_init_5 : decode b_Gu_init 5 = .ok (.bipush 16, 2) := by decide +kernel
theorem d_Gu_init_7 : decode b_Gu_init 7 = .ok (.newarray .int, 2) := by decide +kernel
theorem d_Gu_init_9 : decode b_Gu_init 9 = .ok (.putfield 9, 3) := by decide +kernel
theorem d_Gu_init_12 : decode b_Gu_init 12 = .ok (.aload_n 0, 1) := by decide +kernel
theorem d_Gu_init_13 : decode b_Gu_init 13 = .ok (.iconst 4, 1) := by decide +kernel
theorem d_Gu_init_14 : decode b_Gu_init 14 = .ok (.newarray .char, 2) := by decide +kernel
theorem d_Gu_init_16 : decode b_Gu_init 16 = .ok (.putfield 15, 3) := by decide +kernel
theorem d_Gu_init_19 : decode b_Gu_init 19 = .ok (.aload_n 0, 1) := by decide +kernel
theorem d_Gu_init_20 : decode b_Gu_init 20 = .ok (.iconst 0, 1) := by decide +kernel
theorem d_Gu_init_21 : decode b_Gu_init 21 = .ok (.putfield 19, 3) := by decide +kernel
theorem d_Gu_init_24 : decode b_Gu_init 24 = .ok (.return_, 1) := by decide +kernel
theorem d_Br_init_0 : decode b_Br_init 0 = .ok (.aload_n 0, 1) := by decide +kernel
theorem d_Br_init_1 : decode b_Br_init 1 = .ok (.invokespecial 3, 3) := by decide +kernel
theorem d_Br_init_4 : decode b_Br_init 4 = .ok (.aload_n 0, 1) := by decide +kernel
theorem d_Br_init_5 : decode b_Br_init 5 = .ok (.bipush 12, 2) := by decide +kernel
theorem d_Br_init_7 : decode b_Br_init 7 = .ok (.newarray .int, 2) := by decide +kernel
theorem d_Br_init_9 : decode b_Br_init 9 = .ok (.putfield 9, 3) := by decide +kernel
theorem d_Br_init_12 : decode b_Br_init 12 = .ok (.aload_n 0, 1) := by decide +kernel
theorem d_Br_init_13 : decode b_Br_init 13 = .ok (.iconst 0, 1) := by decide +kernel
theorem d_Br_init_14 : decode b_Br_init 14 = .ok (.putfield 15, 3) := by decide +kernel
theorem d_Br_init_17 : decode b_Br_init 17 = .ok (.return_, 1) := by decide +kernel
theorem d_Va_init_0 : decode b_Va_init 0 = .ok (.aload_n 0, 1) := by decide +kernel
theorem d_Va_init_1 : decode b_Va_init 1 = .ok (.invokespecial 3, 3) := by decide +kernel
theorem d_Va_init_4 : decode b_Va_init 4 = .ok (.aload_n 0, 1) := by decide +kernel
theorem d_Va_init_5 : decode b_Va_init 5 = .ok (.new 9, 3) := by decide +kernel
theorem d_Va_init_8 : decode b_Va_init 8 = .ok (.dup, 1) := by decide +kernel
theorem d_Va_init_9 : decode b_Va_init 9 = .ok (.invokespecial 11, 3) := by decide +kernel
theorem d_Va_init_12 : decode b_Va_init 12 = .ok (.putfield 12, 3) := by decide +kernel
theorem d_Va_init_15 : decode b_Va_init 15 = .ok (.aload_n 0, 1) := by decide +kernel
theorem d_Va_init_16 : decode b_Va_init 16 = .ok (.new 18, 3) := by decide +kernel
theorem d_Va_init_19 : decode b_Va_init 19 = .ok (.dup, 1) := by decide +kernel
theorem d_Va_init_20 : decode b_Va_init 20 = .ok (.invokespecial 20, 3) := by decide +kernel
theorem d_Va_init_23 : decode b_Va_init 23 = .ok (.putfield 21, 3) := by decide +kernel
theorem d_Va_init_26 : decode b_Va_init 26 = .ok (.aload_n 0, 1) := by decide +kernel
theorem d_Va_init_27 : decode b_Va_init 27 = .ok (.new 25, 3) := by decide +kernel
theorem d_Va_init_30 : decode b_Va_init 30 = .ok (.dup, 1) := by decide +kernel
theorem d_Va_init_31 : decode b_Va_init 31 = .ok (.invokespecial 27, 3) := by decide +kernel
theorem d_Va_init_34 : decode b_Va_init 34 = .ok (.putfield 28, 3) := by decide +kernel
theorem d_Va_init_37 : decode b_Va_init 37 = .ok (.aload_n 0, 1) := by decide +kernel
theorem d_Va_init_38 : decode b_Va_init 38 = .ok (.bipush 8, 2) := by decide +kernel
theorem d_Va_init_40 : decode b_Va_init 40 = .ok (.newarray .int, 2) := by decide +kernel
theorem d_Va_init_42 : decode b_Va_init 42 = .ok (.putfield 32, 3) := by decide +kernel
theorem d_Va_init_45 : decode b_Va_init 45 = .ok (.aload_n 0, 1) := by decide +kernel
theorem d_Va_init_46 : decode b_Va_init 46 = .ok (.iconst 0, 1) := by decide +kernel
theorem d_Va_init_47 : decode b_Va_init 47 = .ok (.putfield 36, 3) := by decide +kernel
theorem d_Va_init_50 : decode b_Va_init 50 = .ok (.aload_n 0, 1) := by decide +kernel
theorem d_Va_init_51 : decode b_Va_init 51 = .ok (.bipush 8, 2) := by decide +kernel
theorem d_Va_init_53 : decode b_Va_init 53 = .ok (.newarray .long, 2) := by decide +kernel
theorem d_Va_init_55 : decode b_Va_init 55 = .ok (.putfield 40, 3) := by decide +kernel
theorem d_Va_init_58 : decode b_Va_init 58 = .ok (.aload_n 0, 1) := by decide +kernel
theorem d_Va_init_59 : decode b_Va_init 59 = .ok (.bipush 8, 2) := by decide +kernel
theorem d_Va_init_61 : decode b_Va_init 61 = .ok (.newarray .long, 2) := by decide +kernel
theorem d_Va_init_63 : decode b_Va_init 63 = .ok (.putfield 44, 3) := by decide +kernel
theorem d_Va_init_66 : decode b_Va_init 66 = .ok (.return_, 1) := by decide +kernel
theorem d_Fo_init_0 : decode b_Fo_init 0 = .ok (.aload_n 0, 1) := by decide +kernel
theorem d_Fo_init_1 : decode b_Fo_init 1 = .ok (.invokespecial 3, 3) := by decide +kernel
theorem d_Fo_init_4 : decode b_Fo_init 4 = .ok (.aload_n 0, 1) := by decide +kernel
theorem d_Fo_init_5 : decode b_Fo_init 5 = .ok (.new 9, 3) := by decide +kernel
theorem d_Fo_init_8 : decode b_Fo_init 8 = .ok (.dup, 1) := by decide +kernel
theorem d_Fo_init_9 : decode b_Fo_init 9 = .ok (.invokespecial 11, 3) := by decide +kernel
theorem d_Fo_init_12 : decode b_Fo_init 12 = .ok (.putfield 12, 3) := by decide +kernel
theorem d_Fo_init_15 : decode b_Fo_init 15 = .ok (.aload_n 0, 1) := by decide +kernel
theorem d_Fo_init_16 : decode b_Fo_init 16 = .ok (.iconst 0, 1) := by decide +kernel
theorem d_Fo_init_17 : decode b_Fo_init 17 = .ok (.putfield 18, 3) := by decide +kernel
theorem d_Fo_init_20 : decode b_Fo_init 20 = .ok (.aload_n 0, 1) := by decide +kernel
theorem d_Fo_init_21 : decode b_Fo_init 21 = .ok (.iconst (-1), 1) := by decide +kernel
theorem d_Fo_init_22 : decode b_Fo_init 22 = .ok (.putfield 22, 3) := by decide +kernel
theorem d_Fo_init_25 : decode b_Fo_init 25 = .ok (.aload_n 0, 1) := by decide +kernel
theorem d_Fo_init_26 : decode b_Fo_init 26 = .ok (.iconst 0, 1) := by decide +kernel
theorem d_Fo_init_27 : decode b_Fo_init 27 = .ok (.putfield 25, 3) := by decide +kernel
theorem d_Fo_init_30 : decode b_Fo_init 30 = .ok (.aload_n 0, 1) := by decide +kernel
theorem d_Fo_init_31 : decode b_Fo_init 31 = .ok (.iconst 0, 1) := by decide +kernel
theorem d_Fo_init_32 : decode b_Fo_init 32 = .ok (.putfield 28, 3) := by decide +kernel
theorem d_Fo_init_35 : decode b_Fo_init 35 = .ok (.aload_n 0, 1) := by decide +kernel
theorem d_Fo_init_36 : decode b_Fo_init 36 = .ok (.iconst 0, 1) := by decide +kernel
theorem d_Fo_init_37 : decode b_Fo_init 37 = .ok (.putfield 31, 3) := by decide +kernel
theorem d_Fo_init_40 : decode b_Fo_init 40 = .ok (.aload_n 0, 1) := by decide +kernel
theorem d_Fo_init_41 : decode b_Fo_init 41 = .ok (.bipush 8, 2) := by decide +kernel
theorem d_Fo_init_43 : decode b_Fo_init 43 = .ok (.iconst 3, 1) := by decide +kernel
theorem d_Fo_init_44 : decode b_Fo_init 44 = .ok (.multianewarray 34 2, 4) := by decide +kernel
theorem d_Fo_init_48 : decode b_Fo_init 48 = .ok (.putfield 36, 3) := by decide +kernel
theorem d_Fo_init_51 : decode b_Fo_init 51 = .ok (.aload_n 0, 1) := by decide +kernel
theorem d_Fo_init_52 : decode b_Fo_init 52 = .ok (.bipush 8, 2) := by decide +kernel
theorem d_Fo_init_54 : decode b_Fo_init 54 = .ok (.newarray .int, 2) := by decide +kernel
theorem d_Fo_init_56 : decode b_Fo_init 56 = .ok (.putfield 39, 3) := by decide +kernel
theorem d_Fo_init_59 : decode b_Fo_init 59 = .ok (.aload_n 0, 1) := by decide +kernel
theorem d_Fo_init_60 : decode b_Fo_init 60 = .ok (.bipush 8, 2) := by decide +kernel
theorem d_Fo_init_62 : decode b_Fo_init 62 = .ok (.bipush 10, 2) := by decide +kernel
theorem d_Fo_init_64 : decode b_Fo_init 64 = .ok (.multianewarray 34 2, 4) := by decide +kernel
theorem d_Fo_init_68 : decode b_Fo_init 68 = .ok (.putfield 43, 3) := by decide +kernel
theorem d_Fo_init_71 : decode b_Fo_init 71 = .ok (.aload_n 0, 1) := by decide +kernel
theorem d_Fo_init_72 : decode b_Fo_init 72 = .ok (.bipush 8, 2) := by decide +kernel
theorem d_Fo_init_74 : decode b_Fo_init 74 = .ok (.bipush 40, 2) := by decide +kernel
theorem d_Fo_init_76 : decode b_Fo_init 76 = .ok (.multianewarray 34 2, 4) := by decide +kernel
theorem d_Fo_init_80 : decode b_Fo_init 80 = .ok (.putfield 46, 3) := by decide +kernel
theorem d_Fo_init_83 : decode b_Fo_init 83 = .ok (.aload_n 0, 1) := by decide +kernel
theorem d_Fo_init_84 : decode b_Fo_init 84 = .ok (.iconst 3, 1) := by decide +kernel
theorem d_Fo_init_85 : decode b_Fo_init 85 = .ok (.newarray .int, 2) := by decide +kernel
theorem d_Fo_init_87 : decode b_Fo_init 87 = .ok (.putfield 49, 3) := by decide +kernel
theorem d_Fo_init_90 : decode b_Fo_init 90 = .ok (.return_, 1) := by decide +kernel
theorem d_Fo_has_0 : decode b_Fo_has 0 = .ok (.iload_n 1, 1) := by decide +kernel
theorem d_Fo_has_1 : decode b_Fo_has 1 = .ok (.ifCond .lt 15, 3) := by decide +kernel
theorem d_Fo_has_4 : decode b_Fo_has 4 = .ok (.iload_n 1, 1) := by decide +kernel
theorem d_Fo_has_5 : decode b_Fo_has 5 = .ok (.aload_n 0, 1) := by decide +kernel
theorem d_Fo_has_6 : decode b_Fo_has 6 = .ok (.getfield 18, 3) := by decide +kernel
theorem d_Fo_has_9 : decode b_Fo_has 9 = .ok (.if_icmp .ge 7, 3) := by decide +kernel
theorem d_Fo_has_16 : decode b_Fo_has 16 = .ok (.iconst 0, 1) := by decide +kernel
theorem d_Fo_has_17 : decode b_Fo_has 17 = .ok (.ireturn, 1) := by decide +kernel
theorem d_At_init_0 : decode b_At_init 0 = .ok (.aload_n 0, 1) := by decide +kernel
theorem d_At_init_1 : decode b_At_init 1 = .ok (.invokespecial 3, 3) := by decide +kernel
theorem d_At_init_4 : decode b_At_init 4 = .ok (.aload_n 0, 1) := by decide +kernel
theorem d_At_init_5 : decode b_At_init 5 = .ok (.bipush 8, 2) := by decide +kernel
theorem d_At_init_7 : decode b_At_init 7 = .ok (.newarray .int, 2) := by decide +kernel
theorem d_At_init_9 : decode b_At_init 9 = .ok (.putfield 9, 3) := by decide +kernel
theorem d_At_init_12 : decode b_At_init 12 = .ok (.aload_n 0, 1) := by decide +kernel
theorem d_At_init_13 : decode b_At_init 13 = .ok (.bipush 8, 2) := by decide +kernel
theorem d_At_init_15 : decode b_At_init 15 = .ok (.newarray .int, 2) := by decide +kernel
theorem d_At_init_17 : decode b_At_init 17 = .ok (.putfield 15, 3) := by decide +kernel
theorem d_At_init_20 : decode b_At_init 20 = .ok (.return_, 1) := by decide +kernel
theorem d_Eq_init_0 : decode b_Eq_init 0 = .ok (.aload_n 0, 1) := by decide +kernel
theorem d_Eq_init_1 : decode b_Eq_init 1 = .ok (.invokespecial 3, 3) := by decide +kernel
theorem d_Eq_init_4 : decode b_Eq_init 4 = .ok (.aload_n 0, 1) := by decide +kernel
theorem d_Eq_init_5 : decode b_Eq_init 5 = .ok (.bipush 8, 2) := by decide +kernel
theorem d_Eq_init_7 : decode b_Eq_init 7 = .ok (.bipush 9, 2) := by decide +kernel
theorem d_Eq_init_9 : decode b_Eq_init 9 = .ok (.multianewarray 9 2, 4) := by decide +kernel
theorem d_Eq_init_13 : decode b_Eq_init 13 = .ok (.putfield 11, 3) := by decide +kernel
theorem d_Eq_init_16 : decode b_Eq_init 16 = .ok (.aload_n 0, 1) := by decide +kernel
theorem d_Eq_init_17 : decode b_Eq_init 17 = .ok (.bipush 8, 2) := by decide +kernel
theorem d_Eq_init_19 : decode b_Eq_init 19 = .ok (.newarray .long, 2) := by decide +kernel
theorem d_Eq_init_21 : decode b_Eq_init 21 = .ok (.putfield 16, 3) := by decide +kernel
theorem d_Eq_init_24 : decode b_Eq_init 24 = .ok (.aload_n 0, 1) := by decide +kernel
theorem d_Eq_init_25 : decode b_Eq_init 25 = .ok (.lconst 1, 1) := by decide +kernel
theorem d_Eq_init_26 : decode b_Eq_init 26 = .ok (.putfield 20, 3) := by decide +kernel
theorem d_Eq_init_29 : decode b_Eq_init 29 = .ok (.return_, 1) := by decide +kernel
theorem d_Go_init_0 : decode b_Go_init 0 = .ok (.aload_n 0, 1) := by decide +kernel
theorem d_Go_init_1 : decode b_Go_init 1 = .ok (.invokespecial 3, 3) := by decide +kernel
theorem d_Go_init_4 : decode b_Go_init 4 = .ok (.aload_n 0, 1) := by decide +kernel
theorem d_Go_init_5 : decode b_Go_init 5 = .ok (.new 9, 3) := by decide +kernel
theorem d_Go_init_8 : decode b_Go_init 8 = .ok (.dup, 1) := by decide +kernel
theorem d_Go_init_9 : decode b_Go_init 9 = .ok (.invokespecial 11, 3) := by decide +kernel
theorem d_Go_init_12 : decode b_Go_init 12 = .ok (.putfield 12, 3) := by decide +kernel
theorem d_Go_init_15 : decode b_Go_init 15 = .ok (.aload_n 0, 1) := by decide +kernel
theorem d_Go_init_16 : decode b_Go_init 16 = .ok (.bipush 8, 2) := by decide +kernel
theorem d_Go_init_18 : decode b_Go_init 18 = .ok (.newarray .int, 2) := by decide +kernel
theorem d_Go_init_20 : decode b_Go_init 20 = .ok (.putfield 18, 3) := by decide +kernel
theorem d_Go_init_23 : decode b_Go_init 23 = .ok (.return_, 1) := by decide +kernel
theorem d_Mo_init_0 : decode b_Mo_init 0 = .ok (.aload_n 0, 1) := by decide +kernel
theorem d_Mo_init_1 : decode b_Mo_init 1 = .ok (.invokespecial 1, 3) := by decide +kernel
theorem d_Mo_init_4 : decode b_Mo_init 4 = .ok (.aload_n 0, 1) := by decide +kernel
theorem d_Mo_init_5 : decode b_Mo_init 5 = .ok (.sipush 200, 3) := by decide +kernel
theorem d_Mo_init_8 : decode b_Mo_init 8 = .ok (.newarray .int, 2) := by decide +kernel
theorem d_Mo_init_10 : decode b_Mo_init 10 = .ok (.putfield 7, 3) := by decide +kernel
theorem d_Mo_init_13 : decode b_Mo_init 13 = .ok (.aload_n 0, 1) := by decide +kernel
theorem d_Mo_init_14 : decode b_Mo_init 14 = .ok (.iconst (-1), 1) := by decide +kernel
theorem d_Mo_init_15 : decode b_Mo_init 15 = .ok (.putfield 13, 3) := by decide +kernel
theorem d_Mo_init_18 : decode b_Mo_init 18 = .ok (.aload_n 0, 1) := by decide +kernel
theorem d_Mo_init_19 : decode b_Mo_init 19 = .ok (.iconst (-1), 1) := by decide +kernel
theorem d_Mo_init_20 : decode b_Mo_init 20 = .ok (.putfield 17, 3) := by decide +kernel
theorem d_Mo_init_23 : decode b_Mo_init 23 = .ok (.aload_n 0, 1) := by decide +kernel
theorem d_Mo_init_24 : decode b_Mo_init 24 = .ok (.bipush 6, 2) := by decide +kernel
theorem d_Mo_init_26 : decode b_Mo_init 26 = .ok (.newarray .int, 2) := by decide +kernel
theorem d_Mo_init_28 : decode b_Mo_init 28 = .ok (.putfield 20, 3) := by decide +kernel
theorem d_Mo_init_31 : decode b_Mo_init 31 = .ok (.aload_n 0, 1) := by decide +kernel
theorem d_Mo_init_32 : decode b_Mo_init 32 = .ok (.bipush 6, 2) := by decide +kernel
theorem d_Mo_init_34 : decode b_Mo_init 34 = .ok (.newarray .int, 2) := by decide +kernel
theorem d_Mo_init_36 : decode b_Mo_init 36 = .ok (.putfield 23, 3) := by decide +kernel
theorem d_Mo_init_39 : decode b_Mo_init 39 = .ok (.aload_n 0, 1) := by decide +kernel
theorem d_Mo_init_40 : decode b_Mo_init 40 = .ok (.iconst 2, 1) := by decide +kernel
theorem d_Mo_init_41 : decode b_Mo_init 41 = .ok (.newarray .int, 2) := by decide +kernel
theorem d_Mo_init_43 : decode b_Mo_init 43 = .ok (.putfield 26, 3) := by decide +kernel
theorem d_Mo_init_46 : decode b_Mo_init 46 = .ok (.aload_n 0, 1) := by decide +kernel
theorem d_Mo_init_47 : decode b_Mo_init 47 = .ok (.bipush 20, 2) := by decide +kernel
theorem d_Mo_init_49 : decode b_Mo_init 49 = .ok (.newarray .boolean, 2) := by decide +kernel
theorem d_Mo_init_51 : decode b_Mo_init 51 = .ok (.putfield 29, 3) := by decide +kernel
theorem d_Mo_init_54 : decode b_Mo_init 54 = .ok (.aload_n 0, 1) := by decide +kernel
theorem d_Mo_init_55 : decode b_Mo_init 55 = .ok (.bipush 20, 2) := by decide +kernel
theorem d_Mo_init_57 : decode b_Mo_init 57 = .ok (.newarray .int, 2) := by decide +kernel
theorem d_Mo_init_59 : decode b_Mo_init 59 = .ok (.putfield 33, 3) := by decide +kernel
theorem d_Mo_init_62 : decode b_Mo_init 62 = .ok (.aload_n 0, 1) := by decide +kernel
theorem d_Mo_init_63 : decode b_Mo_init 63 = .ok (.bipush 20, 2) := by decide +kernel
theorem d_Mo_init_65 : decode b_Mo_init 65 = .ok (.newarray .int, 2) := by decide +kernel
theorem d_Mo_init_67 : decode b_Mo_init 67 = .ok (.putfield 36, 3) := by decide +kernel
theorem d_Mo_init_70 : decode b_Mo_init 70 = .ok (.aload_n 0, 1) := by decide +kernel
theorem d_Mo_init_71 : decode b_Mo_init 71 = .ok (.bipush 80, 2) := by decide +kernel
theorem d_Mo_init_73 : decode b_Mo_init 73 = .ok (.newarray .int, 2) := by decide +kernel
theorem d_Mo_init_75 : decode b_Mo_init 75 = .ok (.putfield 39, 3) := by decide +kernel
theorem d_Mo_init_78 : decode b_Mo_init 78 = .ok (.aload_n 0, 1) := by decide +kernel
theorem d_Mo_init_79 : decode b_Mo_init 79 = .ok (.bipush 22, 2) := by decide +kernel
theorem d_Mo_init_81 : decode b_Mo_init 81 = .ok (.newarray .int, 2) := by decide +kernel
theorem d_Mo_init_83 : decode b_Mo_init 83 = .ok (.putfield 42, 3) := by decide +kernel
theorem d_Mo_init_86 : decode b_Mo_init 86 = .ok (.aload_n 0, 1) := by decide +kernel
theorem d_Mo_init_87 : decode b_Mo_init 87 = .ok (.bipush 88, 2) := by decide +kernel
theorem d_Mo_init_89 : decode b_Mo_init 89 = .ok (.newarray .int, 2) := by decide +kernel
theorem d_Mo_init_91 : decode b_Mo_init 91 = .ok (.putfield 45, 3) := by decide +kernel
theorem d_Mo_init_94 : decode b_Mo_init 94 = .ok (.aload_n 0, 1) := by decide +kernel
theorem d_Mo_init_95 : decode b_Mo_init 95 = .ok (.sipush 416, 3) := by decide +kernel
theorem d_Mo_init_98 : decode b_Mo_init 98 = .ok (.newarray .int, 2) := by decide +kernel
theorem d_Mo_init_100 : decode b_Mo_init 100 = .ok (.putfield 48, 3) := by decide +kernel
theorem d_Mo_init_103 : decode b_Mo_init 103 = .ok (.aload_n 0, 1) := by decide +kernel
theorem d_Mo_init_104 : decode b_Mo_init 104 = .ok (.sipush 1664, 3) := by decide +kernel
theorem d_Mo_init_107 : decode b_Mo_init 107 = .ok (.newarray .int, 2) := by decide +kernel
theorem d_Mo_init_109 : decode b_Mo_init 109 = .ok (.putfield 51, 3) := by decide +kernel
theorem d_Mo_init_112 : decode b_Mo_init 112 = .ok (.aload_n 0, 1) := by decide +kernel
theorem d_Mo_init_113 : decode b_Mo_init 113 = .ok (.sipush 1664, 3) := by decide +kernel
theorem d_Mo_init_116 : decode b_Mo_init 116 = .ok (.newarray .boolean, 2) := by decide +kernel
theorem d_Mo_init_118 : decode b_Mo_init 118 = .ok (.putfield 54, 3) := by decide +kernel
theorem d_Mo_init_121 : decode b_Mo_init 121 = .ok (.aload_n 0, 1) := by decide +kernel
theorem d_Mo_init_122 : decode b_Mo_init 122 = .ok (.iconst (-1), 1) := by decide +kernel
theorem d_Mo_init_123 : decode b_Mo_init 123 = .ok (.putfield 57, 3) := by decide +kernel
theorem d_Mo_init_126 : decode b_Mo_init 126 = .ok (.aload_n 0, 1) := by decide +kernel
theorem d_Mo_init_127 : decode b_Mo_init 127 = .ok (.bipush 24, 2) := by decide +kernel
theorem d_Mo_init_129 : decode b_Mo_init 129 = .ok (.newarray .int, 2) := by decide +kernel
theorem d_Mo_init_131 : decode b_Mo_init 131 = .ok (.putfield 60, 3) := by decide +kernel
theorem d_Mo_init_134 : decode b_Mo_init 134 = .ok (.aload_n 0, 1) := by decide +kernel
theorem d_Mo_init_135 : decode b_Mo_init 135 = .ok (.bipush 8, 2) := by decide +kernel
theorem d_Mo_init_137 : decode b_Mo_init 137 = .ok (.newarray .boolean, 2) := by decide +kernel
theorem d_Mo_init_139 : decode b_Mo_init 139 = .ok (.putfield 63, 3) := by decide +kernel
theorem d_Mo_init_142 : decode b_Mo_init 142 = .ok (.aload_n 0, 1) := by decide +kernel
theorem d_Mo_init_143 : decode b_Mo_init 143 = .ok (.bipush 8, 2) := by decide +kernel
theorem d_Mo_init_145 : decode b_Mo_init 145 = .ok (.newarray .boolean, 2) := by decide +kernel
theorem d_Mo_init_147 : decode b_Mo_init 147 = .ok (.putfield 66, 3) := by decide +kernel
theorem d_Mo_init_150 : decode b_Mo_init 150 = .ok (.aload_n 0, 1) := by decide +kernel
theorem d_Mo_init_151 : decode b_Mo_init 151 = .ok (.bipush 80, 2) := by decide +kernel
theorem d_Mo_init_153 : decode b_Mo_init 153 = .ok (.newarray .int, 2) := by decide +kernel
theorem d_Mo_init_155 : decode b_Mo_init 155 = .ok (.putfield 69, 3) := by decide +kernel
theorem d_Mo_init_158 : decode b_Mo_init 158 = .ok (.aload_n 0, 1) := by decide +kernel
theorem d_Mo_init_159 : decode b_Mo_init 159 = .ok (.bipush 8, 2) := by decide +kernel
theorem d_Mo_init_161 : decode b_Mo_init 161 = .ok (.newarray .int, 2) := by decide +kernel
theorem d_Mo_init_163 : decode b_Mo_init 163 = .ok (.putfield 72, 3) := by decide +kernel
theorem d_Mo_init_166 : decode b_Mo_init 166 = .ok (.aload_n 0, 1) := by decide +kernel
theorem d_Mo_init_167 : decode b_Mo_init 167 = .ok (.sipush 320, 3) := by decide +kernel
theorem d_Mo_init_170 : decode b_Mo_init 170 = .ok (.newarray .int, 2) := by decide +kernel
theorem d_Mo_init_172 : decode b_Mo_init 172 = .ok (.putfield 75, 3) := by decide +kernel
theorem d_Mo_init_175 : decode b_Mo_init 175 = .ok (.aload_n 0, 1) := by decide +kernel
theorem d_Mo_init_176 : decode b_Mo_init 176 = .ok (.iconst 3, 1) := by decide +kernel
theorem d_Mo_init_177 : decode b_Mo_init 177 = .ok (.newarray .int, 2) := by decide +kernel
theorem d_Mo_init_179 : decode b_Mo_init 179 = .ok (.putfield 78, 3) := by decide +kernel
theorem d_Mo_init_182 : decode b_Mo_init 182 = .ok (.aload_n 0, 1) := by decide +kernel
theorem d_Mo_init_183 : decode b_Mo_init 183 = .ok (.bipush 8, 2) := by decide +kernel
theorem d_Mo_init_185 : decode b_Mo_init 185 = .ok (.newarray .int, 2) := by decide +kernel
theorem d_Mo_init_187 : decode b_Mo_init 187 = .ok (.putfield 81, 3) := by decide +kernel
theorem d_Mo_init_190 : decode b_Mo_init 190 = .ok (.aload_n 0, 1) := by decide +kernel
theorem d_Mo_init_191 : decode b_Mo_init 191 = .ok (.bipush 8, 2) := by decide +kernel
theorem d_Mo_init_193 : decode b_Mo_init 193 = .ok (.newarray .int, 2) := by decide +kernel
theorem d_Mo_init_195 : decode b_Mo_init 195 = .ok (.putfield 84, 3) := by decide +kernel
theorem d_Mo_init_198 : decode b_Mo_init 198 = .ok (.aload_n 0, 1) := by decide +kernel
theorem d_Mo_init_199 : decode b_Mo_init 199 = .ok (.bipush 8, 2) := by decide +kernel
theorem d_Mo_init_201 : decode b_Mo_init 201 = .ok (.newarray .boolean, 2) := by decide +kernel
theorem d_Mo_init_203 : decode b_Mo_init 203 = .ok (.putfield 87, 3) := by decide +kernel
theorem d_Mo_init_206 : decode b_Mo_init 206 = .ok (.aload_n 0, 1) := by decide +kernel
theorem d_Mo_init_207 : decode b_Mo_init 207 = .ok (.bipush 8, 2) := by decide +kernel
theorem d_Mo_init_209 : decode b_Mo_init 209 = .ok (.newarray .int, 2) := by decide +kernel
theorem d_Mo_init_211 : decode b_Mo_init 211 = .ok (.putfield 90, 3) := by decide +kernel
theorem d_Mo_init_214 : decode b_Mo_init 214 = .ok (.aload_n 0, 1) := by decide +kernel
theorem d_Mo_init_215 : decode b_Mo_init 215 = .ok (.bipush 72, 2) := by decide +kernel
theorem d_Mo_init_217 : decode b_Mo_init 217 = .ok (.newarray .long, 2) := by decide +kernel
theorem d_Mo_init_219 : decode b_Mo_init 219 = .ok (.putfield 93, 3) := by decide +kernel
theorem d_Mo_init_222 : decode b_Mo_init 222 = .ok (.aload_n 0, 1) := by decide +kernel
theorem d_Mo_init_223 : decode b_Mo_init 223 = .ok (.bipush 64, 2) := by decide +kernel
theorem d_Mo_init_225 : decode b_Mo_init 225 = .ok (.newarray .long, 2) := by decide +kernel
theorem d_Mo_init_227 : decode b_Mo_init 227 = .ok (.putfield 97, 3) := by decide +kernel
theorem d_Mo_init_230 : decode b_Mo_init 230 = .ok (.aload_n 0, 1) := by decide +kernel
theorem d_Mo_init_231 : decode b_Mo_init 231 = .ok (.bipush 8, 2) := by decide +kernel
theorem d_Mo_init_233 : decode b_Mo_init 233 = .ok (.newarray .long, 2) := by decide +kernel
theorem d_Mo_init_235 : decode b_Mo_init 235 = .ok (.putfield 100, 3) := by decide +kernel
theorem d_Mo_init_238 : decode b_Mo_init 238 = .ok (.aload_n 0, 1) := by decide +kernel
theorem d_Mo_init_239 : decode b_Mo_init 239 = .ok (.bipush 8, 2) := by decide +kernel
theorem d_Mo_init_241 : decode b_Mo_init 241 = .ok (.newarray .long, 2) := by decide +kernel
theorem d_Mo_init_243 : decode b_Mo_init 243 = .ok (.putfield 103, 3) := by decide +kernel
theorem d_Mo_init_246 : decode b_Mo_init 246 = .ok (.aload_n 0, 1) := by decide +kernel
theorem d_Mo_init_247 : decode b_Mo_init 247 = .ok (.bipush 8, 2) := by decide +kernel
theorem d_Mo_init_249 : decode b_Mo_init 249 = .ok (.newarray .long, 2) := by decide +kernel
theorem d_Mo_init_251 : decode b_Mo_init 251 = .ok (.putfield 106, 3) := by decide +kernel
theorem d_Mo_init_254 : decode b_Mo_init 254 = .ok (.aload_n 0, 1) := by decide +kernel
theorem d_Mo_init_255 : decode b_Mo_init 255 = .ok (.bipush 8, 2) := by decide +kernel
theorem d_Mo_init_257 : decode b_Mo_init 257 = .ok (.newarray .int, 2) := by decide +kernel
theorem d_Mo_init_259 : decode b_Mo_init 259 = .ok (.putfield 109, 3) := by decide +kernel
theorem d_Mo_init_262 : decode b_Mo_init 262 = .ok (.return_, 1) := by decide +kernel
theorem d_Mo_branch_0 : decode b_Mo_branch 0 = .ok (.aload_n 0, 1) := by decide +kernel
theorem d_Mo_branch_1 : decode b_Mo_branch 1 = .ok (.iconst 0, 1) := by decide +kernel
theorem d_Mo_branch_2 : decode b_Mo_branch 2 = .ok (.putfield 112, 3) := by decide +kernel
theorem d_Mo_branch_5 : decode b_Mo_branch 5 = .ok (.aload_n 0, 1) := by decide +kernel
theorem d_Mo_branch_6 : decode b_Mo_branch 6 = .ok (.iload_n 1, 1) := by decide +kernel
theorem d_Mo_branch_7 : decode b_Mo_branch 7 = .ok (.invokevirtual 287, 3) := by decide +kernel
theorem d_Mo_branch_10 : decode b_Mo_branch 10 = .ok (.ifCond .ne 5, 3) := by decide +kernel
theorem d_Mo_branch_13 : decode b_Mo_branch 13 = .ok (.iconst (-1), 1) := by decide +kernel
theorem d_Mo_branch_14 : decode b_Mo_branch 14 = .ok (.ireturn, 1) := by decide +kernel
theorem d_Mo_choice_0 : decode b_Mo_choice 0 = .ok (.aload_n 0, 1) := by decide +kernel
theorem d_Mo_choice_1 : decode b_Mo_choice 1 = .ok (.iconst 0, 1) := by decide +kernel
theorem d_Mo_choice_2 : decode b_Mo_choice 2 = .ok (.putfield 112, 3) := by decide +kernel
theorem d_Mo_choice_5 : decode b_Mo_choice 5 = .ok (.aload_n 0, 1) := by decide +kernel
theorem d_Mo_choice_6 : decode b_Mo_choice 6 = .ok (.iload_n 1, 1) := by decide +kernel
theorem d_Mo_choice_7 : decode b_Mo_choice 7 = .ok (.invokevirtual 287, 3) := by decide +kernel
theorem d_Mo_choice_10 : decode b_Mo_choice 10 = .ok (.ifCond .eq 33, 3) := by decide +kernel
theorem d_Mo_choice_43 : decode b_Mo_choice 43 = .ok (.iconst (-1), 1) := by decide +kernel
theorem d_Mo_choice_44 : decode b_Mo_choice 44 = .ok (.ireturn, 1) := by decide +kernel
theorem d_Mo_fail_0 : decode b_Mo_fail 0 = .ok (.aload_n 0, 1) := by decide +kernel
theorem d_Mo_fail_1 : decode b_Mo_fail 1 = .ok (.iload_n 1, 1) := by decide +kernel
theorem d_Mo_fail_2 : decode b_Mo_fail 2 = .ok (.putfield 13, 3) := by decide +kernel
theorem d_Mo_fail_5 : decode b_Mo_fail 5 = .ok (.iconst 0, 1) := by decide +kernel
theorem d_Mo_fail_6 : decode b_Mo_fail 6 = .ok (.ireturn, 1) := by decide +kernel
theorem d_Mo_good_0 : decode b_Mo_good 0 = .ok (.aload_n 0, 1) := by decide +kernel
theorem d_Mo_good_1 : decode b_Mo_good 1 = .ok (.iload_n 1, 1) := by decide +kernel
theorem d_Mo_good_2 : decode b_Mo_good 2 = .ok (.invokevirtual 290, 3) := by decide +kernel
theorem d_Mo_good_5 : decode b_Mo_good 5 = .ok (.ifCond .eq 12, 3) := by decide +kernel
theorem d_Mo_good_17 : decode b_Mo_good 17 = .ok (.iconst 0, 1) := by decide +kernel
theorem d_Mo_good_18 : decode b_Mo_good 18 = .ok (.ireturn, 1) := by decide +kernel
theorem d_Mo_here_0 : decode b_Mo_here 0 = .ok (.aload_n 0, 1) := by decide +kernel
theorem d_Mo_here_1 : decode b_Mo_here 1 = .ok (.getfield 128, 3) := by decide +kernel
theorem d_Mo_here_4 : decode b_Mo_here 4 = .ok (.aload_n 0, 1) := by decide +kernel
theorem d_Mo_here_5 : decode b_Mo_here 5 = .ok (.getfield 119, 3) := by decide +kernel
theorem d_Mo_here_8 : decode b_Mo_here 8 = .ok (.if_icmp .ge 15, 3) := by decide +kernel
theorem d_Mo_here_23 : decode b_Mo_here 23 = .ok (.iconst 0, 1) := by decide +kernel
theorem d_Mo_here_24 : decode b_Mo_here 24 = .ok (.ireturn, 1) := by decide +kernel
theorem d_Mo_isName_0 : decode b_Mo_isName 0 = .ok (.aload_n 0, 1) := by decide +kernel
theorem d_Mo_isName_1 : decode b_Mo_isName 1 = .ok (.invokevirtual 131, 3) := by decide +kernel
theorem d_Mo_isName_4 : decode b_Mo_isName 4 = .ok (.bipush 97, 2) := by decide +kernel
theorem d_Mo_isName_6 : decode b_Mo_isName 6 = .ok (.bipush 99, 2) := by decide +kernel
theorem d_Mo_isName_8 : decode b_Mo_isName 8 = .ok (.invokestatic 115, 3) := by decide +kernel
theorem d_Mo_isName_11 : decode b_Mo_isName 11 = .ok (.ireturn, 1) := by decide +kernel
theorem d_Mo_isState_0 : decode b_Mo_isState 0 = .ok (.iload_n 1, 1) := by decide +kernel
theorem d_Mo_isState_1 : decode b_Mo_isState 1 = .ok (.iconst 0, 1) := by decide +kernel
theorem d_Mo_isState_2 : decode b_Mo_isState 2 = .ok (.aload_n 0, 1) := by decide +kernel
theorem d_Mo_isState_3 : decode b_Mo_isState 3 = .ok (.getfield 198, 3) := by decide +kernel
theorem d_Mo_isState_6 : decode b_Mo_isState 6 = .ok (.iconst 1, 1) := by decide +kernel
theorem d_Mo_isState_7 : decode b_Mo_isState 7 = .ok (.isub, 1) := by decide +kernel
theorem d_Mo_isState_8 : decode b_Mo_isState 8 = .ok (.invokestatic 115, 3) := by decide +kernel
theorem d_Mo_isState_11 : decode b_Mo_isState 11 = .ok (.ireturn, 1) := by decide +kernel
theorem d_Mo_lower_0 : decode b_Mo_lower 0 = .ok (.aload_n 0, 1) := by decide +kernel
theorem d_Mo_lower_1 : decode b_Mo_lower 1 = .ok (.iload_n 1, 1) := by decide +kernel
theorem d_Mo_lower_2 : decode b_Mo_lower 2 = .ok (.invokevirtual 290, 3) := by decide +kernel
theorem d_Mo_lower_5 : decode b_Mo_lower 5 = .ok (.ifCond .eq 12, 3) := by decide +kernel
theorem d_Mo_lower_17 : decode b_Mo_lower 17 = .ok (.lconst 0, 1) := by decide +kernel
theorem d_Mo_lower_18 : decode b_Mo_lower 18 = .ok (.lreturn, 1) := by decide +kernel
theorem d_Mo_mixed_0 : decode b_Mo_mixed 0 = .ok (.aload_n 0, 1) := by decide +kernel
theorem d_Mo_mixed_1 : decode b_Mo_mixed 1 = .ok (.iconst 0, 1) := by decide +kernel
theorem d_Mo_mixed_2 : decode b_Mo_mixed 2 = .ok (.putfield 112, 3) := by decide +kernel
theorem d_Mo_mixed_5 : decode b_Mo_mixed 5 = .ok (.aload_n 0, 1) := by decide +kernel
theorem d_Mo_mixed_6 : decode b_Mo_mixed 6 = .ok (.getfield 57, 3) := by decide +kernel
theorem d_Mo_mixed_9 : decode b_Mo_mixed 9 = .ok (.ireturn, 1) := by decide +kernel
theorem d_Mo_needsValue_0 : decode b_Mo_needsValue 0 = .ok (.aload_n 0, 1) := by decide +kernel
theorem d_Mo_needsValue_1 : decode b_Mo_needsValue 1 = .ok (.aload_n 0, 1) := by decide +kernel
theorem d_Mo_needsValue_2 : decode b_Mo_needsValue 2 = .ok (.getfield 201, 3) := by decide +kernel
theorem d_Mo_needsValue_5 : decode b_Mo_needsValue 5 = .ok (.ifCond .ne 7, 3) := by decide +kernel
theorem d_Mo_needsValue_8 : decode b_Mo_needsValue 8 = .ok (.iconst 1, 1) := by decide +kernel
theorem d_Mo_needsValue_9 : decode b_Mo_needsValue 9 = .ok (.goto 16, 3) := by decide +kernel
theorem d_Mo_needsValue_25 : decode b_Mo_needsValue 25 = .ok (.putfield 112, 3) := by decide +kernel
theorem d_Mo_needsValue_28 : decode b_Mo_needsValue 28 = .ok (.aload_n 0, 1) := by decide +kernel
theorem d_Mo_needsValue_29 : decode b_Mo_needsValue 29 = .ok (.getfield 112, 3) := by decide +kernel
theorem d_Mo_needsValue_32 : decode b_Mo_needsValue 32 = .ok (.ifCond .ne 7, 3) := by decide +kernel
theorem d_Mo_needsValue_39 : decode b_Mo_needsValue 39 = .ok (.iconst 0, 1) := by decide +kernel
theorem d_Mo_needsValue_40 : decode b_Mo_needsValue 40 = .ok (.ireturn, 1) := by decide +kernel
theorem d_Mo_owner_0 : decode b_Mo_owner 0 = .ok (.aload_n 0, 1) := by decide +kernel
theorem d_Mo_owner_1 : decode b_Mo_owner 1 = .ok (.iconst 0, 1) := by decide +kernel
theorem d_Mo_owner_2 : decode b_Mo_owner 2 = .ok (.putfield 112, 3) := by decide +kernel
theorem d_Mo_owner_5 : decode b_Mo_owner 5 = .ok (.aload_n 0, 1) := by decide +kernel
theorem d_Mo_owner_6 : decode b_Mo_owner 6 = .ok (.iload_n 1, 1) := by decide +kernel
theorem d_Mo_owner_7 : decode b_Mo_owner 7 = .ok (.invokevirtual 287, 3) := by decide +kernel
theorem d_Mo_owner_10 : decode b_Mo_owner 10 = .ok (.ifCond .eq 12, 3) := by decide +kernel
theorem d_Mo_owner_22 : decode b_Mo_owner 22 = .ok (.iconst (-1), 1) := by decide +kernel
theorem d_Mo_owner_23 : decode b_Mo_owner 23 = .ok (.goto 17, 3) := by decide +kernel
theorem d_Mo_owner_40 : decode b_Mo_owner 40 = .ok (.ireturn, 1) := by decide +kernel
theorem d_Mo_place_0 : decode b_Mo_place 0 = .ok (.aload_n 0, 1) := by decide +kernel
theorem d_Mo_place_1 : decode b_Mo_place 1 = .ok (.iconst 0, 1) := by decide +kernel
theorem d_Mo_place_2 : decode b_Mo_place 2 = .ok (.putfield 112, 3) := by decide +kernel
theorem d_Mo_place_5 : decode b_Mo_place 5 = .ok (.aload_n 0, 1) := by decide +kernel
theorem d_Mo_place_6 : decode b_Mo_place 6 = .ok (.getfield 13, 3) := by decide +kernel
theorem d_Mo_place_9 : decode b_Mo_place 9 = .ok (.ireturn, 1) := by decide +kernel
theorem d_Mo_read_0 : decode b_Mo_read 0 = .ok (.aload_n 0, 1) := by decide +kernel
theorem d_Mo_read_1 : decode b_Mo_read 1 = .ok (.iconst 0, 1) := by decide +kernel
theorem d_Mo_read_2 : decode b_Mo_read 2 = .ok (.putfield 112, 3) := by decide +kernel
theorem d_Mo_read_5 : decode b_Mo_read 5 = .ok (.aload_n 0, 1) := by decide +kernel
theorem d_Mo_read_6 : decode b_Mo_read 6 = .ok (.invokevirtual 191, 3) := by decide +kernel
theorem d_Mo_read_9 : decode b_Mo_read 9 = .ok (.ifCond .ne 9, 3) := by decide +kernel
theorem d_Mo_read_12 : decode b_Mo_read 12 = .ok (.aload_n 0, 1) := by decide +kernel
theorem d_Mo_read_13 : decode b_Mo_read 13 = .ok (.iconst 1, 1) := by decide +kernel
theorem d_Mo_read_14 : decode b_Mo_read 14 = .ok (.invokevirtual 194, 3) := by decide +kernel
theorem d_Mo_read_17 : decode b_Mo_read 17 = .ok (.ireturn, 1) := by decide +kernel
theorem d_Mo_readAll_0 : decode b_Mo_readAll 0 = .ok (.aload_n 0, 1) := by decide +kernel
theorem d_Mo_readAll_1 : decode b_Mo_readAll 1 = .ok (.iconst 0, 1) := by decide +kernel
theorem d_Mo_readAll_2 : decode b_Mo_readAll 2 = .ok (.putfield 128, 3) := by decide +kernel
theorem d_Mo_readAll_5 : decode b_Mo_readAll 5 = .ok (.aload_n 0, 1) := by decide +kernel
theorem d_Mo_readAll_6 : decode b_Mo_readAll 6 = .ok (.aload_n 0, 1) := by decide +kernel
theorem d_Mo_readAll_7 : decode b_Mo_readAll 7 = .ok (.getfield 17, 3) := by decide +kernel
theorem d_Mo_readAll_10 : decode b_Mo_readAll 10 = .ok (.ifCond .ne 7, 3) := by decide +kernel
theorem d_Mo_readAll_17 : decode b_Mo_readAll 17 = .ok (.iconst 0, 1) := by decide +kernel
theorem d_Mo_readAll_18 : decode b_Mo_readAll 18 = .ok (.putfield 149, 3) := by decide +kernel
theorem d_Mo_readAll_21 : decode b_Mo_readAll 21 = .ok (.aload_n 0, 1) := by decide +kernel
theorem d_Mo_readAll_22 : decode b_Mo_readAll 22 = .ok (.getfield 26, 3) := by decide +kernel
theorem d_Mo_readAll_25 : decode b_Mo_readAll 25 = .ok (.aload_n 0, 1) := by decide +kernel
theorem d_Mo_readAll_26 : decode b_Mo_readAll 26 = .ok (.getfield 149, 3) := by decide +kernel
theorem d_Mo_readAll_29 : decode b_Mo_readAll 29 = .ok (.iconst 0, 1) := by decide +kernel
theorem d_Mo_readAll_30 : decode b_Mo_readAll 30 = .ok (.iastore, 1) := by decide +kernel
theorem d_Mo_readAll_31 : decode b_Mo_readAll 31 = .ok (.iconst 3, 1) := by decide +kernel
theorem d_Mo_readAll_32 : decode b_Mo_readAll 32 = .ok (.aload_n 0, 1) := by decide +kernel
theorem d_Mo_readAll_33 : decode b_Mo_readAll 33 = .ok (.getfield 149, 3) := by decide +kernel
theorem d_Mo_readAll_36 : decode b_Mo_readAll 36 = .ok (.imul, 1) := by decide +kernel
theorem d_Mo_readAll_37 : decode b_Mo_readAll 37 = .ok (.istore_n 1, 1) := by decide +kernel
theorem d_Mo_readAll_38 : decode b_Mo_readAll 38 = .ok (.iload_n 1, 1) := by decide +kernel
