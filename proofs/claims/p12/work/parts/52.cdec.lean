abbrev b_Tx_init : ByteArray := prog_11_method_1_code
def y_Tx_init : MethodName := ⟨"ChanceGame$Text", "<init>", "()V"⟩
abbrev b_Gu_init : ByteArray := prog_9_method_1_code
def y_Gu_init : MethodName := ⟨"ChanceGame$Guard", "<init>", "()V"⟩
abbrev b_Br_init : ByteArray := prog_3_method_1_code
def y_Br_init : MethodName := ⟨"ChanceGame$Branch", "<init>", "()V"⟩
abbrev b_Cm_init : ByteArray := prog_4_method_1_code
def y_Cm_init : MethodName := ⟨"ChanceGame$Command", "<init>", "()V"⟩
abbrev b_Gm_init : ByteArray := prog_7_method_1_code
def y_Gm_init : MethodName := ⟨"ChanceGame$Game", "<init>", "()V"⟩
abbrev b_Rd_init : ByteArray := prog_10_method_1_code
def y_Rd_init : MethodName := ⟨"ChanceGame$Reader", "<init>", "()V"⟩
abbrev b_At_init : ByteArray := prog_2_method_1_code
def y_At_init : MethodName := ⟨"ChanceGame$Attraction", "<init>", "()V"⟩
abbrev b_Eq_init : ByteArray := prog_5_method_1_code
def y_Eq_init : MethodName := ⟨"ChanceGame$Equations", "<init>", "()V"⟩
abbrev b_Go_init : ByteArray := prog_8_method_1_code
def y_Go_init : MethodName := ⟨"ChanceGame$GoodChoices", "<init>", "()V"⟩
abbrev b_Fo_init : ByteArray := prog_6_method_1_code
def y_Fo_init : MethodName := ⟨"ChanceGame$Found", "<init>", "()V"⟩
abbrev b_Va_init : ByteArray := prog_12_method_1_code
def y_Va_init : MethodName := ⟨"ChanceGame$Values", "<init>", "()V"⟩
abbrev b_CG_init : ByteArray := prog_1_method_1_code
def y_CG_init : MethodName := ⟨"ChanceGame", "<init>", "()V"⟩
abbrev b_Mo_init : ByteArray := prog_14_method_1_code
def y_Mo_init : MethodName := ⟨"ChanceGameModel", "<init>", "()V"⟩
theorem d_Tx_init_0 : decode b_Tx_init 0 = .ok (.aload_n 0, 1) := by decide +kernel
theorem d_Tx_init_1 : decode b_Tx_init 1 = .ok (.invokespecial 3, 3) := by decide +kernel
theorem d_Tx_init_4 : decode b_Tx_init 4 = .ok (.aload_n 0, 1) := by decide +kernel
theorem d_Tx_init_5 : decode b_Tx_init 5 = .ok (.sipush 200, 3) := by decide +kernel
theorem d_Tx_init_8 : decode b_Tx_init 8 = .ok (.newarray .char, 2) := by decide +kernel
theorem d_Tx_init_10 : decode b_Tx_init 10 = .ok (.putfield 9, 3) := by decide +kernel
theorem d_Tx_init_13 : decode b_Tx_init 13 = .ok (.aload_n 0, 1) := by decide +kernel
theorem d_Tx_init_14 : decode b_Tx_init 14 = .ok (.iconst 0, 1) := by decide +kernel
theorem d_Tx_init_15 : decode b_Tx_init 15 = .ok (.putfield 15, 3) := by decide +kernel
theorem d_Tx_init_18 : decode b_Tx_init 18 = .ok (.return_, 1) := by decide +kernel
theorem d_Gu_init_0 : decode b_Gu_init 0 = .ok (.aload_n 0, 1) := by decide +kernel
theorem d_Gu_init_1 : decode b_Gu_init 1 = .ok (.invokespecial 3, 3) := by decide +kernel
theorem d_Gu_init_4 : decode b_Gu_init 4 = .ok (.aload_n 0, 1) := by decide +kernel
theorem d_Gu_init_5 : decode b_Gu_init 5 = .ok (.bipush 16, 2) := by decide +kernel
theorem d_Gu_init_7 : decode b_Gu_init 7 = .ok (.newarray .int, 2) := by decide +kernel
theorem d_Gu_init_9 : decode b_Gu_init 9 = .ok (.putfield 9, 3) := by decide +kernel
theorem d_Gu_init_12 : decode b_Gu_init 12 = .ok (.aload_n 0, 1) := by decide +kernel
theorem d_Gu_init_13 : decode b_Gu_init 13 = .ok (.iconst 4, 1) := by decide +kernel
theorem d_Gu_init_14 : decode b_Gu_init 14 = .ok (.newarray .char, 2) := by decide +kernel
theorem d_Gu_init_16 : decode b_Gu_init 16 = .ok (.putfield 15, 3) := by decide +kernel
theorem d_Gu_init_19 : decode b_Gu_init 19 = .ok (.aload_n 0, 1) := by decide +kernel
theorem d_Gu_init_20 : decode b_Gu_init 20 = .ok (.iconst 0, 1) := by decide +kernel
theorem d_Gu_init_21 : decode b_Gu_init 21 = .ok (.putfield 19, 3) := by decide +kernel
theorem d_Gu_init_24 : decode b_Gu_init 24 = .ok (.return_, 1) := by decide +kernel
theorem d_Br_init_0 : decode b_Br_init 0 = .ok (.aload_n 0, 1) := by decide +kernel
theorem d_Br_init_1 : decode b_Br_init 1 = .ok (.invokespecial 3, 3) := by decide +kernel
theorem d_Br_init_4 : decode b_Br_init 4 = .ok (.aload_n 0, 1) := by decide +kernel
theorem d_Br_init_5 : decode b_Br_init 5 = .ok (.bipush 12, 2) := by decide +kernel
theorem d_Br_init_7 : decode b_Br_init 7 = .ok (.newarray .int, 2) := by decide +kernel
theorem d_Br_init_9 : decode b_Br_init 9 = .ok (.putfield 9, 3) := by decide +kernel
theorem d_Br_init_12 : decode b_Br_init 12 = .ok (.aload_n 0, 1) := by decide +kernel
theorem d_Br_init_13 : decode b_Br_init 13 = .ok (.iconst 0, 1) := by decide +kernel
theorem d_Br_init_14 : decode b_Br_init 14 = .ok (.putfield 15, 3) := by decide +kernel
theorem d_Br_init_17 : decode b_Br_init 17 = .ok (.return_, 1) := by decide +kernel
theorem d_Cm_init_0 : decode b_Cm_init 0 = .ok (.aload_n 0, 1) := by decide +kernel
theorem d_Cm_init_1 : decode b_Cm_init 1 = .ok (.invokespecial 3, 3) := by decide +kernel
theorem d_Cm_init_4 : decode b_Cm_init 4 = .ok (.aload_n 0, 1) := by decide +kernel
theorem d_Cm_init_5 : decode b_Cm_init 5 = .ok (.new 9, 3) := by decide +kernel
theorem d_Cm_init_8 : decode b_Cm_init 8 = .ok (.dup, 1) := by decide +kernel
theorem d_Cm_init_9 : decode b_Cm_init 9 = .ok (.invokespecial 11, 3) := by decide +kernel
theorem d_Cm_init_12 : decode b_Cm_init 12 = .ok (.putfield 12, 3) := by decide +kernel
theorem d_Cm_init_15 : decode b_Cm_init 15 = .ok (.aload_n 0, 1) := by decide +kernel
theorem d_Cm_init_16 : decode b_Cm_init 16 = .ok (.iconst 4, 1) := by decide +kernel
theorem d_Cm_init_17 : decode b_Cm_init 17 = .ok (.anewarray 18, 3) := by decide +kernel
theorem d_Cm_init_20 : decode b_Cm_init 20 = .ok (.putfield 20, 3) := by decide +kernel
theorem d_Cm_init_23 : decode b_Cm_init 23 = .ok (.aload_n 0, 1) := by decide +kernel
theorem d_Cm_init_24 : decode b_Cm_init 24 = .ok (.iconst 0, 1) := by decide +kernel
theorem d_Cm_init_25 : decode b_Cm_init 25 = .ok (.putfield 24, 3) := by decide +kernel
theorem d_Cm_init_28 : decode b_Cm_init 28 = .ok (.aload_n 0, 1) := by decide +kernel
theorem d_Cm_init_29 : decode b_Cm_init 29 = .ok (.iconst 0, 1) := by decide +kernel
theorem d_Cm_init_30 : decode b_Cm_init 30 = .ok (.putfield 28, 3) := by decide +kernel
theorem d_Cm_init_33 : decode b_Cm_init 33 = .ok (.aload_n 0, 1) := by decide +kernel
theorem d_Cm_init_34 : decode b_Cm_init 34 = .ok (.iconst 0, 1) := by decide +kernel
theorem d_Cm_init_35 : decode b_Cm_init 35 = .ok (.putfield 32, 3) := by decide +kernel
theorem d_Cm_init_38 : decode b_Cm_init 38 = .ok (.iconst 0, 1) := by decide +kernel
theorem d_Cm_init_39 : decode b_Cm_init 39 = .ok (.istore_n 1, 1) := by decide +kernel
theorem d_Cm_init_40 : decode b_Cm_init 40 = .ok (.iload_n 1, 1) := by decide +kernel
theorem d_Cm_init_41 : decode b_Cm_init 41 = .ok (.iconst 4, 1) := by decide +kernel
theorem d_Cm_init_42 : decode b_Cm_init 42 = .ok (.if_icmp .ge 22, 3) := by decide +kernel
theorem d_Cm_init_45 : decode b_Cm_init 45 = .ok (.aload_n 0, 1) := by decide +kernel
theorem d_Cm_init_46 : decode b_Cm_init 46 = .ok (.getfield 20, 3) := by decide +kernel
theorem d_Cm_init_49 : decode b_Cm_init 49 = .ok (.iload_n 1, 1) := by decide +kernel
theorem d_Cm_init_50 : decode b_Cm_init 50 = .ok (.new 18, 3) := by decide +kernel
theorem d_Cm_init_53 : decode b_Cm_init 53 = .ok (.dup, 1) := by decide +kernel
theorem d_Cm_init_54 : decode b_Cm_init 54 = .ok (.invokespecial 35, 3) := by decide +kernel
theorem d_Cm_init_57 : decode b_Cm_init 57 = .ok (.aastore, 1) := by decide +kernel
theorem d_Cm_init_58 : decode b_Cm_init 58 = .ok (.iinc 1 1, 3) := by decide +kernel
theorem d_Cm_init_61 : decode b_Cm_init 61 = .ok (.goto (-21), 3) := by decide +kernel
theorem d_Cm_init_64 : decode b_Cm_init 64 = .ok (.return_, 1) := by decide +kernel
theorem d_Gm_init_0 : decode b_Gm_init 0 = .ok (.aload_n 0, 1) := by decide +kernel
theorem d_Gm_init_1 : decode b_Gm_init 1 = .ok (.invokespecial 3, 3) := by decide +kernel
theorem d_Gm_init_4 : decode b_Gm_init 4 = .ok (.aload_n 0, 1) := by decide +kernel
theorem d_Gm_init_5 : decode b_Gm_init 5 = .ok (.iconst 3, 1) := by decide +kernel
theorem d_Gm_init_6 : decode b_Gm_init 6 = .ok (.newarray .int, 2) := by decide +kernel
theorem d_Gm_init_8 : decode b_Gm_init 8 = .ok (.putfield 9, 3) := by decide +kernel
theorem d_Gm_init_11 : decode b_Gm_init 11 = .ok (.aload_n 0, 1) := by decide +kernel
theorem d_Gm_init_12 : decode b_Gm_init 12 = .ok (.iconst 3, 1) := by decide +kernel
theorem d_Gm_init_13 : decode b_Gm_init 13 = .ok (.newarray .int, 2) := by decide +kernel
theorem d_Gm_init_15 : decode b_Gm_init 15 = .ok (.putfield 15, 3) := by decide +kernel
theorem d_Gm_init_18 : decode b_Gm_init 18 = .ok (.aload_n 0, 1) := by decide +kernel
theorem d_Gm_init_19 : decode b_Gm_init 19 = .ok (.bipush 10, 2) := by decide +kernel
theorem d_Gm_init_21 : decode b_Gm_init 21 = .ok (.anewarray 18, 3) := by decide +kernel
theorem d_Gm_init_24 : decode b_Gm_init 24 = .ok (.putfield 20, 3) := by decide +kernel
theorem d_Gm_init_27 : decode b_Gm_init 27 = .ok (.aload_n 0, 1) := by decide +kernel
theorem d_Gm_init_28 : decode b_Gm_init 28 = .ok (.new 24, 3) := by decide +kernel
theorem d_Gm_init_31 : decode b_Gm_init 31 = .ok (.dup, 1) := by decide +kernel
theorem d_Gm_init_32 : decode b_Gm_init 32 = .ok (.invokespecial 26, 3) := by decide +kernel
theorem d_Gm_init_35 : decode b_Gm_init 35 = .ok (.putfield 27, 3) := by decide +kernel
theorem d_Gm_init_38 : decode b_Gm_init 38 = .ok (.aload_n 0, 1) := by decide +kernel
theorem d_Gm_init_39 : decode b_Gm_init 39 = .ok (.iconst 0, 1) := by decide +kernel
theorem d_Gm_init_40 : decode b_Gm_init 40 = .ok (.putfield 31, 3) := by decide +kernel
theorem d_Gm_init_43 : decode b_Gm_init 43 = .ok (.iconst 0, 1) := by decide +kernel
theorem d_Gm_init_44 : decode b_Gm_init 44 = .ok (.istore_n 1, 1) := by decide +kernel
theorem d_Gm_init_45 : decode b_Gm_init 45 = .ok (.iload_n 1, 1) := by decide +kernel
theorem d_Gm_init_46 : decode b_Gm_init 46 = .ok (.bipush 10, 2) := by decide +kernel
theorem d_Gm_init_48 : decode b_Gm_init 48 = .ok (.if_icmp .ge 22, 3) := by decide +kernel
theorem d_Gm_init_51 : decode b_Gm_init 51 = .ok (.aload_n 0, 1) := by decide +kernel
theorem d_Gm_init_52 : decode b_Gm_init 52 = .ok (.getfield 20, 3) := by decide +kernel
theorem d_Gm_init_55 : decode b_Gm_init 55 = .ok (.iload_n 1, 1) := by decide +kernel
theorem d_Gm_init_56 : decode b_Gm_init 56 = .ok (.new 18, 3) := by decide +kernel
theorem d_Gm_init_59 : decode b_Gm_init 59 = .ok (.dup, 1) := by decide +kernel
theorem d_Gm_init_60 : decode b_Gm_init 60 = .ok (.invokespecial 35, 3) := by decide +kernel
theorem d_Gm_init_63 : decode b_Gm_init 63 = .ok (.aastore, 1) := by decide +kernel
theorem d_Gm_init_64 : decode b_Gm_init 64 = .ok (.iinc 1 1, 3) := by decide +kernel
theorem d_Gm_init_67 : decode b_Gm_init 67 = .ok (.goto (-22), 3) := by decide +kernel
theorem d_Gm_init_70 : decode b_Gm_init 70 = .ok (.return_, 1) := by decide +kernel
theorem d_Rd_init_0 : decode b_Rd_init 0 = .ok (.aload_n 0, 1) := by decide +kernel
theorem d_Rd_init_1 : decode b_Rd_init 1 = .ok (.invokespecial 3, 3) := by decide +kernel
theorem d_Rd_init_4 : decode b_Rd_init 4 = .ok (.aload_n 0, 1) := by decide +kernel
theorem d_Rd_init_5 : decode b_Rd_init 5 = .ok (.new 9, 3) := by decide +kernel
theorem d_Rd_init_8 : decode b_Rd_init 8 = .ok (.dup, 1) := by decide +kernel
theorem d_Rd_init_9 : decode b_Rd_init 9 = .ok (.invokespecial 11, 3) := by decide +kernel
theorem d_Rd_init_12 : decode b_Rd_init 12 = .ok (.putfield 12, 3) := by decide +kernel
theorem d_Rd_init_15 : decode b_Rd_init 15 = .ok (.aload_n 0, 1) := by decide +kernel
theorem d_Rd_init_16 : decode b_Rd_init 16 = .ok (.new 18, 3) := by decide +kernel
theorem d_Rd_init_19 : decode b_Rd_init 19 = .ok (.dup, 1) := by decide +kernel
theorem d_Rd_init_20 : decode b_Rd_init 20 = .ok (.invokespecial 20, 3) := by decide +kernel
theorem d_Rd_init_23 : decode b_Rd_init 23 = .ok (.putfield 21, 3) := by decide +kernel
theorem d_Rd_init_26 : decode b_Rd_init 26 = .ok (.aload_n 0, 1) := by decide +kernel
theorem d_Rd_init_27 : decode b_Rd_init 27 = .ok (.iconst 0, 1) := by decide +kernel
theorem d_Rd_init_28 : decode b_Rd_init 28 = .ok (.putfield 25, 3) := by decide +kernel
theorem d_Rd_init_31 : decode b_Rd_init 31 = .ok (.aload_n 0, 1) := by decide +kernel
theorem d_Rd_init_32 : decode b_Rd_init 32 = .ok (.iconst (-1), 1) := by decide +kernel
theorem d_Rd_init_33 : decode b_Rd_init 33 = .ok (.putfield 29, 3) := by decide +kernel
theorem d_Rd_init_36 : decode b_Rd_init 36 = .ok (.return_, 1) := by decide +kernel
theorem d_At_init_0 : decode b_At_init 0 = .ok (.aload_n 0, 1) := by decide +kernel
theorem d_At_init_1 : decode b_At_init 1 = .ok (.invokespecial 3, 3) := by decide +kernel
theorem d_At_init_4 : decode b_At_init 4 = .ok (.aload_n 0, 1) := by decide +kernel
theorem d_At_init_5 : decode b_At_init 5 = .ok (.bipush 8, 2) := by decide +kernel
theorem d_At_init_7 : decode b_At_init 7 = .ok (.newarray .int, 2) := by decide +kernel
theorem d_At_init_9 : decode b_At_init 9 = .ok (.putfield 9, 3) := by decide +kernel
theorem d_At_init_12 : decode b_At_init 12 = .ok (.aload_n 0, 1) := by decide +kernel
theorem d_At_init_13 : decode b_At_init 13 = .ok (.bipush 8, 2) := by decide +kernel
theorem d_At_init_15 : decode b_At_init 15 = .ok (.newarray .int, 2) := by decide +kernel
theorem d_At_init_17 : decode b_At_init 17 = .ok (.putfield 15, 3) := by decide +kernel
theorem d_At_init_20 : decode b_At_init 20 = .ok (.return_, 1) := by decide +kernel
theorem d_Eq_init_0 : decode b_Eq_init 0 = .ok (.aload_n 0, 1) := by decide +kernel
theorem d_Eq_init_1 : decode b_Eq_init 1 = .ok (.invokespecial 3, 3) := by decide +kernel
theorem d_Eq_init_4 : decode b_Eq_init 4 = .ok (.aload_n 0, 1) := by decide +kernel
theorem d_Eq_init_5 : decode b_Eq_init 5 = .ok (.bipush 8, 2) := by decide +kernel
theorem d_Eq_init_7 : decode b_Eq_init 7 = .ok (.bipush 9, 2) := by decide +kernel
theorem d_Eq_init_9 : decode b_Eq_init 9 = .ok (.multianewarray 9 2, 4) := by decide +kernel
theorem d_Eq_init_13 : decode b_Eq_init 13 = .ok (.putfield 11, 3) := by decide +kernel
theorem d_Eq_init_16 : decode b_Eq_init 16 = .ok (.aload_n 0, 1) := by decide +kernel
theorem d_Eq_init_17 : decode b_Eq_init 17 = .ok (.bipush 8, 2) := by decide +kernel
theorem d_Eq_init_19 : decode b_Eq_init 19 = .ok (.newarray .long, 2) := by decide +kernel
theorem d_Eq_init_21 : decode b_Eq_init 21 = .ok (.putfield 16, 3) := by decide +kernel
theorem d_Eq_init_24 : decode b_Eq_init 24 = .ok (.aload_n 0, 1) := by decide +kernel
theorem d_Eq_init_25 : decode b_Eq_init 25 = .ok (.lconst 1, 1) := by decide +kernel
theorem d_Eq_init_26 : decode b_Eq_init 26 = .ok (.putfield 20, 3) := by decide +kernel
theorem d_Eq_init_29 : decode b_Eq_init 29 = .ok (.return_, 1) := by decide +kernel
theorem d_Go_init_0 : decode b_Go_init 0 = .ok (.aload_n 0, 1) := by decide +kernel
theorem d_Go_init_1 : decode b_Go_init 1 = .ok (.invokespecial 3, 3) := by decide +kernel
theorem d_Go_init_4 : decode b_Go_init 4 = .ok (.aload_n 0, 1) := by decide +kernel
theorem d_Go_init_5 : decode b_Go_init 5 = .ok (.new 9, 3) := by decide +kernel
theorem d_Go_init_8 : decode b_Go_init 8 = .ok (.dup, 1) := by decide +kernel
theorem d_Go_init_9 : decode b_Go_init 9 = .ok (.invokespecial 11, 3) := by decide +kernel
theorem d_Go_init_12 : decode b_Go_init 12 = .ok (.putfield 12, 3) := by decide +kernel
theorem d_Go_init_15 : decode b_Go_init 15 = .ok (.aload_n 0, 1) := by decide +kernel
theorem d_Go_init_16 : decode b_Go_init 16 = .ok (.bipush 8, 2) := by decide +kernel
theorem d_Go_init_18 : decode b_Go_init 18 = .ok (.newarray .int, 2) := by decide +kernel
theorem d_Go_init_20 : decode b_Go_init 20 = .ok (.putfield 18, 3) := by decide +kernel
theorem d_Go_init_23 : decode b_Go_init 23 = .ok (.return_, 1) := by decide +kernel
theorem d_Fo_init_0 : decode b_Fo_init 0 = .ok (.aload_n 0, 1) := by decide +kernel
theorem d_Fo_init_1 : decode b_Fo_init 1 = .ok (.invokespecial 3, 3) := by decide +kernel
theorem d_Fo_init_4 : decode b_Fo_init 4 = .ok (.aload_n 0, 1) := by decide +kernel
theorem d_Fo_init_5 : decode b_Fo_init 5 = .ok (.new 9, 3) := by decide +kernel
theorem d_Fo_init_8 : decode b_Fo_init 8 = .ok (.dup, 1) := by decide +kernel
theorem d_Fo_init_9 : decode b_Fo_init 9 = .ok (.invokespecial 11, 3) := by decide +kernel
theorem d_Fo_init_12 : decode b_Fo_init 12 = .ok (.putfield 12, 3) := by decide +kernel
theorem d_Fo_init_15 : decode b_Fo_init 15 = .ok (.aload_n 0, 1) := by decide +kernel
theorem d_Fo_init_16 : decode b_Fo_init 16 = .ok (.iconst 0, 1) := by decide +kernel
theorem d_Fo_init_17 : decode b_Fo_init 17 = .ok (.putfield 18, 3) := by decide +kernel
theorem d_Fo_init_20 : decode b_Fo_init 20 = .ok (.aload_n 0, 1) := by decide +kernel
theorem d_Fo_init_21 : decode b_Fo_init 21 = .ok (.iconst (-1), 1) := by decide +kernel
theorem d_Fo_init_22 : decode b_Fo_init 22 = .ok (.putfield 22, 3) := by decide +kernel
theorem d_Fo_init_25 : decode b_Fo_init 25 = .ok (.aload_n 0, 1) := by decide +kernel
theorem d_Fo_init_26 : decode b_Fo_init 26 = .ok (.iconst 0, 1) := by decide +kernel
theorem d_Fo_init_27 : decode b_Fo_init 27 = .ok (.putfield 25, 3) := by decide +kernel
theorem d_Fo_init_30 : decode b_Fo_init 30 = .ok (.aload_n 0, 1) := by decide +kernel
theorem d_Fo_init_31 : decode b_Fo_init 31 = .ok (.iconst 0, 1) := by decide +kernel
theorem d_Fo_init_32 : decode b_Fo_init 32 = .ok (.putfield 28, 3) := by decide +kernel
theorem d_Fo_init_35 : decode b_Fo_init 35 = .ok (.aload_n 0, 1) := by decide +kernel
theorem d_Fo_init_36 : decode b_Fo_init 36 = .ok (.iconst 0, 1) := by decide +kernel
theorem d_Fo_init_37 : decode b_Fo_init 37 = .ok (.putfield 31, 3) := by decide +kernel
theorem d_Fo_init_40 : decode b_Fo_init 40 = .ok (.aload_n 0, 1) := by decide +kernel
theorem d_Fo_init_41 : decode b_Fo_init 41 = .ok (.bipush 8, 2) := by decide +kernel
theorem d_Fo_init_43 : decode b_Fo_init 43 = .ok (.iconst 3, 1) := by decide +kernel
theorem d_Fo_init_44 : decode b_Fo_init 44 = .ok (.multianewarray 34 2, 4) := by decide +kernel
theorem d_Fo_init_48 : decode b_Fo_init 48 = .ok (.putfield 36, 3) := by decide +kernel
theorem d_Fo_init_51 : decode b_Fo_init 51 = .ok (.aload_n 0, 1) := by decide +kernel
theorem d_Fo_init_52 : decode b_Fo_init 52 = .ok (.bipush 8, 2) := by decide +kernel
theorem d_Fo_init_54 : decode b_Fo_init 54 = .ok (.newarray .int, 2) := by decide +kernel
theorem d_Fo_init_56 : decode b_Fo_init 56 = .ok (.putfield 39, 3) := by decide +kernel
theorem d_Fo_init_59 : decode b_Fo_init 59 = .ok (.aload_n 0, 1) := by decide +kernel
theorem d_Fo_init_60 : decode b_Fo_init 60 = .ok (.bipush 8, 2) := by decide +kernel
theorem d_Fo_init_62 : decode b_Fo_init 62 = .ok (.bipush 10, 2) := by decide +kernel
theorem d_Fo_init_64 : decode b_Fo_init 64 = .ok (.multianewarray 34 2, 4) := by decide +kernel
theorem d_Fo_init_68 : decode b_Fo_init 68 = .ok (.putfield 43, 3) := by decide +kernel
theorem d_Fo_init_71 : decode b_Fo_init 71 = .ok (.aload_n 0, 1) := by decide +kernel
theorem d_Fo_init_72 : decode b_Fo_init 72 = .ok (.bipush 8, 2) := by decide +kernel
theorem d_Fo_init_74 : decode b_Fo_init 74 = .ok (.bipush 40, 2) := by decide +kernel
theorem d_Fo_init_76 : decode b_Fo_init 76 = .ok (.multianewarray 34 2, 4) := by decide +kernel
theorem d_Fo_init_80 : decode b_Fo_init 80 = .ok (.putfield 46, 3) := by decide +kernel
theorem d_Fo_init_83 : decode b_Fo_init 83 = .ok (.aload_n 0, 1) := by decide +kernel
theorem d_Fo_init_84 : decode b_Fo_init 84 = .ok (.iconst 3, 1) := by decide +kernel
theorem d_Fo_init_85 : decode b_Fo_init 85 = .ok (.newarray .int, 2) := by decide +kernel
theorem d_Fo_init_87 : decode b_Fo_init 87 = .ok (.putfield 49, 3) := by decide +kernel
theorem d_Fo_init_90 : decode b_Fo_init 90 = .ok (.return_, 1) := by decide +kernel
theorem d_Va_init_0 : decode b_Va_init 0 = .ok (.aload_n 0, 1) := by decide +kernel
theorem d_Va_init_1 : decode b_Va_init 1 = .ok (.invokespecial 3, 3) := by decide +kernel
theorem d_Va_init_4 : decode b_Va_init 4 = .ok (.aload_n 0, 1) := by decide +kernel
theorem d_Va_init_5 : decode b_Va_init 5 = .ok (.new 9, 3) := by decide +kernel
theorem d_Va_init_8 : decode b_Va_init 8 = .ok (.dup, 1) := by decide +kernel
theorem d_Va_init_9 : decode b_Va_init 9 = .ok (.invokespecial 11, 3) := by decide +kernel
theorem d_Va_init_12 : decode b_Va_init 12 = .ok (.putfield 12, 3) := by decide +kernel
theorem d_Va_init_15 : decode b_Va_init 15 = .ok (.aload_n 0, 1) := by decide +kernel
theorem d_Va_init_16 : decode b_Va_init 16 = .ok (.new 18, 3) := by decide +kernel
theorem d_Va_init_19 : decode b_Va_init 19 = .ok (.dup, 1) := by decide +kernel
theorem d_Va_init_20 : decode b_Va_init 20 = .ok (.invokespecial 20, 3) := by decide +kernel
theorem d_Va_init_23 : decode b_Va_init 23 = .ok (.putfield 21, 3) := by decide +kernel
theorem d_Va_init_26 : decode b_Va_init 26 = .ok (.aload_n 0, 1) := by decide +kernel
theorem d_Va_init_27 : decode b_Va_init 27 = .ok (.new 25, 3) := by decide +kernel
theorem d_Va_init_30 : decode b_Va_init 30 = .ok (.dup, 1) := by decide +kernel
theorem d_Va_init_31 : decode b_Va_init 31 = .ok (.invokespecial 27, 3) := by decide +kernel
theorem d_Va_init_34 : decode b_Va_init 34 = .ok (.putfield 28, 3) := by decide +kernel
theorem d_Va_init_37 : decode b_Va_init 37 = .ok (.aload_n 0, 1) := by decide +kernel
theorem d_Va_init_38 : decode b_Va_init 38 = .ok (.bipush 8, 2) := by decide +kernel
theorem d_Va_init_40 : decode b_Va_init 40 = .ok (.newarray .int, 2) := by decide +kernel
theorem d_Va_init_42 : decode b_Va_init 42 = .ok (.putfield 32, 3) := by decide +kernel
theorem d_Va_init_45 : decode b_Va_init 45 = .ok (.aload_n 0, 1) := by decide +kernel
theorem d_Va_init_46 : decode b_Va_init 46 = .ok (.iconst 0, 1) := by decide +kernel
theorem d_Va_init_47 : decode b_Va_init 47 = .ok (.putfield 36, 3) := by decide +kernel
theorem d_Va_init_50 : decode b_Va_init 50 = .ok (.aload_n 0, 1) := by decide +kernel
theorem d_Va_init_51 : decode b_Va_init 51 = .ok (.bipush 8, 2) := by decide +kernel
theorem d_Va_init_53 : decode b_Va_init 53 = .ok (.newarray .long, 2) := by decide +kernel
theorem d_Va_init_55 : decode b_Va_init 55 = .ok (.putfield 40, 3) := by decide +kernel
theorem d_Va_init_58 : decode b_Va_init 58 = .ok (.aload_n 0, 1) := by decide +kernel
theorem d_Va_init_59 : decode b_Va_init 59 = .ok (.bipush 8, 2) := by decide +kernel
theorem d_Va_init_61 : decode b_Va_init 61 = .ok (.newarray .long, 2) := by decide +kernel
theorem d_Va_init_63 : decode b_Va_init 63 = .ok (.putfield 44, 3) := by decide +kernel
theorem d_Va_init_66 : decode b_Va_init 66 = .ok (.return_, 1) := by decide +kernel
theorem d_CG_init_0 : decode b_CG_init 0 = .ok (.aload_n 0, 1) := by decide +kernel
theorem d_CG_init_1 : decode b_CG_init 1 = .ok (.invokespecial 3, 3) := by decide +kernel
theorem d_CG_init_4 : decode b_CG_init 4 = .ok (.aload_n 0, 1) := by decide +kernel
theorem d_CG_init_5 : decode b_CG_init 5 = .ok (.new 9, 3) := by decide +kernel
theorem d_CG_init_8 : decode b_CG_init 8 = .ok (.dup, 1) := by decide +kernel
theorem d_CG_init_9 : decode b_CG_init 9 = .ok (.invokespecial 11, 3) := by decide +kernel
theorem d_CG_init_12 : decode b_CG_init 12 = .ok (.putfield 12, 3) := by decide +kernel
theorem d_CG_init_15 : decode b_CG_init 15 = .ok (.aload_n 0, 1) := by decide +kernel
theorem d_CG_init_16 : decode b_CG_init 16 = .ok (.aload_n 0, 1) := by decide +kernel
theorem d_CG_init_17 : decode b_CG_init 17 = .ok (.getfield 12, 3) := by decide +kernel
theorem d_CG_init_20 : decode b_CG_init 20 = .ok (.getfield 16, 3) := by decide +kernel
theorem d_CG_init_23 : decode b_CG_init 23 = .ok (.putfield 20, 3) := by decide +kernel
theorem d_CG_init_26 : decode b_CG_init 26 = .ok (.aload_n 0, 1) := by decide +kernel
theorem d_CG_init_27 : decode b_CG_init 27 = .ok (.new 21, 3) := by decide +kernel
theorem d_CG_init_30 : decode b_CG_init 30 = .ok (.dup, 1) := by decide +kernel
theorem d_CG_init_31 : decode b_CG_init 31 = .ok (.invokespecial 23, 3) := by decide +kernel
theorem d_CG_init_34 : decode b_CG_init 34 = .ok (.putfield 24, 3) := by decide +kernel
theorem d_CG_init_37 : decode b_CG_init 37 = .ok (.aload_n 0, 1) := by decide +kernel
theorem d_CG_init_38 : decode b_CG_init 38 = .ok (.aload_n 0, 1) := by decide +kernel
theorem d_CG_init_39 : decode b_CG_init 39 = .ok (.getfield 24, 3) := by decide +kernel
theorem d_CG_init_42 : decode b_CG_init 42 = .ok (.getfield 28, 3) := by decide +kernel
theorem d_CG_init_45 : decode b_CG_init 45 = .ok (.putfield 32, 3) := by decide +kernel
theorem d_CG_init_48 : decode b_CG_init 48 = .ok (.aload_n 0, 1) := by decide +kernel
theorem d_CG_init_49 : decode b_CG_init 49 = .ok (.new 33, 3) := by decide +kernel
theorem d_CG_init_52 : decode b_CG_init 52 = .ok (.dup, 1) := by decide +kernel
theorem d_CG_init_53 : decode b_CG_init 53 = .ok (.invokespecial 35, 3) := by decide +kernel
theorem d_CG_init_56 : decode b_CG_init 56 = .ok (.putfield 36, 3) := by decide +kernel
theorem d_CG_init_59 : decode b_CG_init 59 = .ok (.aload_n 0, 1) := by decide +kernel
theorem d_CG_init_60 : decode b_CG_init 60 = .ok (.iconst 0, 1) := by decide +kernel
theorem d_CG_init_61 : decode b_CG_init 61 = .ok (.putfield 40, 3) := by decide +kernel
theorem d_CG_init_64 : decode b_CG_init 64 = .ok (.aload_n 0, 1) := by decide +kernel
theorem d_CG_init_65 : decode b_CG_init 65 = .ok (.iconst 0, 1) := by decide +kernel
theorem d_CG_init_66 : decode b_CG_init 66 = .ok (.putfield 44, 3) := by decide +kernel
theorem d_CG_init_69 : decode b_CG_init 69 = .ok (.return_, 1) := by decide +kernel
theorem d_Mo_init_0 : decode b_Mo_init 0 = .ok (.aload_n 0, 1) := by decide +kernel
theorem d_Mo_init_1 : decode b_Mo_init 1 = .ok (.invokespecial 1, 3) := by decide +kernel
theorem d_Mo_init_4 : decode b_Mo_init 4 = .ok (.aload_n 0, 1) := by decide +kernel
theorem d_Mo_init_5 : decode b_Mo_init 5 = .ok (.sipush 200, 3) := by decide +kernel
theorem d_Mo_init_8 : decode b_Mo_init 8 = .ok (.newarray .int, 2) := by decide +kernel
theorem d_Mo_init_10 : decode b_Mo_init 10 = .ok (.putfield 7, 3) := by decide +kernel
theorem d_Mo_init_13 : decode b_Mo_init 13 = .ok (.aload_n 0, 1) := by decide +kernel
theorem d_Mo_init_14 : decode b_Mo_init 14 = .ok (.iconst (-1), 1) := by decide +kernel
theorem d_Mo_init_15 : decode b_Mo_init 15 = .ok (.putfield 13, 3) := by decide +kernel
theorem d_Mo_init_18 : decode b_Mo_init 18 = .ok (.aload_n 0, 1) := by decide +kernel
theorem d_Mo_init_19 : decode b_Mo_init 19 = .ok (.iconst (-1), 1) := by decide +kernel
theorem d_Mo_init_20 : decode b_Mo_init 20 = .ok (.putfield 17, 3) := by decide +kernel
theorem d_Mo_init_23 : decode b_Mo_init 23 = .ok (.aload_n 0, 1) := by decide +kernel
theorem d_Mo_init_24 : decode b_Mo_init 24 = .ok (.bipush 6, 2) := by decide +kernel
theorem d_Mo_init_26 : decode b_Mo_init 26 = .ok (.newarray .int, 2) := by decide +kernel
theorem d_Mo_init_28 : decode b_Mo_init 28 = .ok (.putfield 20, 3) := by decide +kernel
theorem d_Mo_init_31 : decode b_Mo_init 31 = .ok (.aload_n 0, 1) := by decide +kernel
theorem d_Mo_init_32 : decode b_Mo_init 32 = .ok (.bipush 6, 2) := by decide +kernel
theorem d_Mo_init_34 : decode b_Mo_init 34 = .ok (.newarray .int, 2) := by decide +kernel
theorem d_Mo_init_36 : decode b_Mo_init 36 = .ok (.putfield 23, 3) := by decide +kernel
theorem d_Mo_init_39 : decode b_Mo_init 39 = .ok (.aload_n 0, 1) := by decide +kernel
theorem d_Mo_init_40 : decode b_Mo_init 40 = .ok (.iconst 2, 1) := by decide +kernel
theorem d_Mo_init_41 : decode b_Mo_init 41 = .ok (.newarray .int, 2) := by decide +kernel
theorem d_Mo_init_43 : decode b_Mo_init 43 = .ok (.putfield 26, 3) := by decide +kernel
theorem d_Mo_init_46 : decode b_Mo_init 46 = .ok (.aload_n 0, 1) := by decide +kernel
theorem d_Mo_init_47 : decode b_Mo_init 47 = .ok (.bipush 20, 2) := by decide +kernel
theorem d_Mo_init_49 : decode b_Mo_init 49 = .ok (.newarray .boolean, 2) := by decide +kernel
theorem d_Mo_init_51 : decode b_Mo_init 51 = .ok (.putfield 29, 3) := by decide +kernel
theorem d_Mo_init_54 : decode b_Mo_init 54 = .ok (.aload_n 0, 1) := by decide +kernel
theorem d_Mo_init_55 : decode b_Mo_init 55 = .ok (.bipush 20, 2) := by decide +kernel
theorem d_Mo_init_57 : decode b_Mo_init 57 = .ok (.newarray .int, 2) := by decide +kernel
theorem d_Mo_init_59 : decode b_Mo_init 59 = .ok (.putfield 33, 3) := by decide +kernel
theorem d_Mo_init_62 : decode b_Mo_init 62 = .ok (.aload_n 0, 1) := by decide +kernel
theorem d_Mo_init_63 : decode b_Mo_init 63 = .ok (.bipush 20, 2) := by decide +kernel
theorem d_Mo_init_65 : decode b_Mo_init 65 = .ok (.newarray .int, 2) := by decide +kernel
theorem d_Mo_init_67 : decode b_Mo_init 67 = .ok (.putfield 36, 3) := by decide +kernel
theorem d_Mo_init_70 : decode b_Mo_init 70 = .ok (.aload_n 0, 1) := by decide +kernel
theorem d_Mo_init_71 : decode b_Mo_init 71 = .ok (.bipush 80, 2) := by decide +kernel
theorem d_Mo_init_73 : decode b_Mo_init 73 = .ok (.newarray .int, 2) := by decide +kernel
theorem d_Mo_init_75 : decode b_Mo_init 75 = .ok (.putfield 39, 3) := by decide +kernel
theorem d_Mo_init_78 : decode b_Mo_init 78 = .ok (.aload_n 0, 1) := by decide +kernel
theorem d_Mo_init_79 : decode b_Mo_init 79 = .ok (.bipush 22, 2) := by decide +kernel
theorem d_Mo_init_81 : decode b_Mo_init 81 = .ok (.newarray .int, 2) := by decide +kernel
theorem d_Mo_init_83 : decode b_Mo_init 83 = .ok (.putfield 42, 3) := by decide +kernel
theorem d_Mo_init_86 : decode b_Mo_init 86 = .ok (.aload_n 0, 1) := by decide +kernel
theorem d_Mo_init_87 : decode b_Mo_init 87 = .ok (.bipush 88, 2) := by decide +kernel
theorem d_Mo_init_89 : decode b_Mo_init 89 = .ok (.newarray .int, 2) := by decide +kernel
theorem d_Mo_init_91 : decode b_Mo_init 91 = .ok (.putfield 45, 3) := by decide +kernel
theorem d_Mo_init_94 : decode b_Mo_init 94 = .ok (.aload_n 0, 1) := by decide +kernel
theorem d_Mo_init_95 : decode b_Mo_init 95 = .ok (.sipush 416, 3) := by decide +kernel
theorem d_Mo_init_98 : decode b_Mo_init 98 = .ok (.newarray .int, 2) := by decide +kernel
theorem d_Mo_init_100 : decode b_Mo_init 100 = .ok (.putfield 48, 3) := by decide +kernel
theorem d_Mo_init_103 : decode b_Mo_init 103 = .ok (.aload_n 0, 1) := by decide +kernel
theorem d_Mo_init_104 : decode b_Mo_init 104 = .ok (.sipush 1664, 3) := by decide +kernel
theorem d_Mo_init_107 : decode b_Mo_init 107 = .ok (.newarray .int, 2) := by decide +kernel
theorem d_Mo_init_109 : decode b_Mo_init 109 = .ok (.putfield 51, 3) := by decide +kernel
theorem d_Mo_init_112 : decode b_Mo_init 112 = .ok (.aload_n 0, 1) := by decide +kernel
theorem d_Mo_init_113 : decode b_Mo_init 113 = .ok (.sipush 1664, 3) := by decide +kernel
theorem d_Mo_init_116 : decode b_Mo_init 116 = .ok (.newarray .boolean, 2) := by decide +kernel
theorem d_Mo_init_118 : decode b_Mo_init 118 = .ok (.putfield 54, 3) := by decide +kernel
theorem d_Mo_init_121 : decode b_Mo_init 121 = .ok (.aload_n 0, 1) := by decide +kernel
theorem d_Mo_init_122 : decode b_Mo_init 122 = .ok (.iconst (-1), 1) := by decide +kernel
theorem d_Mo_init_123 : decode b_Mo_init 123 = .ok (.putfield 57, 3) := by decide +kernel
theorem d_Mo_init_126 : decode b_Mo_init 126 = .ok (.aload_n 0, 1) := by decide +kernel
theorem d_Mo_init_127 : decode b_Mo_init 127 = .ok (.bipush 24, 2) := by decide +kernel
theorem d_Mo_init_129 : decode b_Mo_init 129 = .ok (.newarray .int, 2) := by decide +kernel
theorem d_Mo_init_131 : decode b_Mo_init 131 = .ok (.putfield 60, 3) := by decide +kernel
theorem d_Mo_init_134 : decode b_Mo_init 134 = .ok (.aload_n 0, 1) := by decide +kernel
theorem d_Mo_init_135 : decode b_Mo_init 135 = .ok (.bipush 8, 2) := by decide +kernel
theorem d_Mo_init_137 : decode b_Mo_init 137 = .ok (.newarray .boolean, 2) := by decide +kernel
theorem d_Mo_init_139 : decode b_Mo_init 139 = .ok (.putfield 63, 3) := by decide +kernel
theorem d_Mo_init_142 : decode b_Mo_init 142 = .ok (.aload_n 0, 1) := by decide +kernel
theorem d_Mo_init_143 : decode b_Mo_init 143 = .ok (.bipush 8, 2) := by decide +kernel
theorem d_Mo_init_145 : decode b_Mo_init 145 = .ok (.newarray .boolean, 2) := by decide +kernel
theorem d_Mo_init_147 : decode b_Mo_init 147 = .ok (.putfield 66, 3) := by decide +kernel
theorem d_Mo_init_150 : decode b_Mo_init 150 = .ok (.aload_n 0, 1) := by decide +kernel
theorem d_Mo_init_151 : decode b_Mo_init 151 = .ok (.bipush 80, 2) := by decide +kernel
theorem d_Mo_init_153 : decode b_Mo_init 153 = .ok (.newarray .int, 2) := by decide +kernel
theorem d_Mo_init_155 : decode b_Mo_init 155 = .ok (.putfield 69, 3) := by decide +kernel
theorem d_Mo_init_158 : decode b_Mo_init 158 = .ok (.aload_n 0, 1) := by decide +kernel
theorem d_Mo_init_159 : decode b_Mo_init 159 = .ok (.bipush 8, 2) := by decide +kernel
theorem d_Mo_init_161 : decode b_Mo_init 161 = .ok (.newarray .int, 2) := by decide +kernel
theorem d_Mo_init_163 : decode b_Mo_init 163 = .ok (.putfield 72, 3) := by decide +kernel
theorem d_Mo_init_166 : decode b_Mo_init 166 = .ok (.aload_n 0, 1) := by decide +kernel
theorem d_Mo_init_167 : decode b_Mo_init 167 = .ok (.sipush 320, 3) := by decide +kernel
theorem d_Mo_init_170 : decode b_Mo_init 170 = .ok (.newarray .int, 2) := by decide +kernel
theorem d_Mo_init_172 : decode b_Mo_init 172 = .ok (.putfield 75, 3) := by decide +kernel
theorem d_Mo_init_175 : decode b_Mo_init 175 = .ok (.aload_n 0, 1) := by decide +kernel
theorem d_Mo_init_176 : decode b_Mo_init 176 = .ok (.iconst 3, 1) := by decide +kernel
theorem d_Mo_init_177 : decode b_Mo_init 177 = .ok (.newarray .int, 2) := by decide +kernel
theorem d_Mo_init_179 : decode b_Mo_init 179 = .ok (.putfield 78, 3) := by decide +kernel
theorem d_Mo_init_182 : decode b_Mo_init 182 = .ok (.aload_n 0, 1) := by decide +kernel
theorem d_Mo_init_183 : decode b_Mo_init 183 = .ok (.bipush 8, 2) := by decide +kernel
theorem d_Mo_init_185 : decode b_Mo_init 185 = .ok (.newarray .int, 2) := by decide +kernel
theorem d_Mo_init_187 : decode b_Mo_init 187 = .ok (.putfield 81, 3) := by decide +kernel
theorem d_Mo_init_190 : decode b_Mo_init 190 = .ok (.aload_n 0, 1) := by decide +kernel
theorem d_Mo_init_191 : decode b_Mo_init 191 = .ok (.bipush 8, 2) := by decide +kernel
theorem d_Mo_init_193 : decode b_Mo_init 193 = .ok (.newarray .int, 2) := by decide +kernel
theorem d_Mo_init_195 : decode b_Mo_init 195 = .ok (.putfield 84, 3) := by decide +kernel
theorem d_Mo_init_198 : decode b_Mo_init 198 = .ok (.aload_n 0, 1) := by decide +kernel
theorem d_Mo_init_199 : decode b_Mo_init 199 = .ok (.bipush 8, 2) := by decide +kernel
theorem d_Mo_init_201 : decode b_Mo_init 201 = .ok (.newarray .boolean, 2) := by decide +kernel
theorem d_Mo_init_203 : decode b_Mo_init 203 = .ok (.putfield 87, 3) := by decide +kernel
theorem d_Mo_init_206 : decode b_Mo_init 206 = .ok (.aload_n 0, 1) := by decide +kernel
theorem d_Mo_init_207 : decode b_Mo_init 207 = .ok (.bipush 8, 2) := by decide +kernel
theorem d_Mo_init_209 : decode b_Mo_init 209 = .ok (.newarray .int, 2) := by decide +kernel
theorem d_Mo_init_211 : decode b_Mo_init 211 = .ok (.putfield 90, 3) := by decide +kernel
theorem d_Mo_init_214 : decode b_Mo_init 214 = .ok (.aload_n 0, 1) := by decide +kernel
theorem d_Mo_init_215 : decode b_Mo_init 215 = .ok (.bipush 72, 2) := by decide +kernel
theorem d_Mo_init_217 : decode b_Mo_init 217 = .ok (.newarray .long, 2) := by decide +kernel
theorem d_Mo_init_219 : decode b_Mo_init 219 = .ok (.putfield 93, 3) := by decide +kernel
theorem d_Mo_init_222 : decode b_Mo_init 222 = .ok (.aload_n 0, 1) := by decide +kernel
theorem d_Mo_init_223 : decode b_Mo_init 223 = .ok (.bipush 64, 2) := by decide +kernel
theorem d_Mo_init_225 : decode b_Mo_init 225 = .ok (.newarray .long, 2) := by decide +kernel
theorem d_Mo_init_227 : decode b_Mo_init 227 = .ok (.putfield 97, 3) := by decide +kernel
theorem d_Mo_init_230 : decode b_Mo_init 230 = .ok (.aload_n 0, 1) := by decide +kernel
theorem d_Mo_init_231 : decode b_Mo_init 231 = .ok (.bipush 8, 2) := by decide +kernel
theorem d_Mo_init_233 : decode b_Mo_init 233 = .ok (.newarray .long, 2) := by decide +kernel
theorem d_Mo_init_235 : decode b_Mo_init 235 = .ok (.putfield 100, 3) := by decide +kernel
theorem d_Mo_init_238 : decode b_Mo_init 238 = .ok (.aload_n 0, 1) := by decide +kernel
theorem d_Mo_init_239 : decode b_Mo_init 239 = .ok (.bipush 8, 2) := by decide +kernel
theorem d_Mo_init_241 : decode b_Mo_init 241 = .ok (.newarray .long, 2) := by decide +kernel
theorem d_Mo_init_243 : decode b_Mo_init 243 = .ok (.putfield 103, 3) := by decide +kernel
theorem d_Mo_init_246 : decode b_Mo_init 246 = .ok (.aload_n 0, 1) := by decide +kernel
theorem d_Mo_init_247 : decode b_Mo_init 247 = .ok (.bipush 8, 2) := by decide +kernel
theorem d_Mo_init_249 : decode b_Mo_init 249 = .ok (.newarray .long, 2) := by decide +kernel
theorem d_Mo_init_251 : decode b_Mo_init 251 = .ok (.putfield 106, 3) := by decide +kernel
theorem d_Mo_init_254 : decode b_Mo_init 254 = .ok (.aload_n 0, 1) := by decide +kernel
theorem d_Mo_init_255 : decode b_Mo_init 255 = .ok (.bipush 8, 2) := by decide +kernel
theorem d_Mo_init_257 : decode b_Mo_init 257 = .ok (.newarray .int, 2) := by decide +kernel
theorem d_Mo_init_259 : decode b_Mo_init 259 = .ok (.putfield 109, 3) := by decide +kernel
theorem d_Mo_init_262 : decode b_Mo_init 262 = .ok (.return_, 1) := by decide +kernel
