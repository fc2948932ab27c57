abbrev b_La_read : ByteArray := method_3_code
def y_La_read : MethodName := ⟨"ChanceGameLaw", "read", "(LChanceGame;[J)I"⟩
abbrev b_La_solve : ByteArray := method_4_code
def y_La_solve : MethodName := ⟨"ChanceGameLaw", "solve", "(LChanceGame;[J)I"⟩
abbrev b_La_upper : ByteArray := method_5_code
def y_La_upper : MethodName := ⟨"ChanceGameLaw", "upper", "(LChanceGame;I[J)I"⟩
abbrev b_La_lower : ByteArray := method_6_code
def y_La_lower : MethodName := ⟨"ChanceGameLaw", "lower", "(LChanceGame;I[J)I"⟩
abbrev b_La_good : ByteArray := method_7_code
def y_La_good : MethodName := ⟨"ChanceGameLaw", "good", "(LChanceGame;I[J)I"⟩
theorem d_La_read_0 : decode b_La_read 0 = .ok (.aload_n 1, 1) := by decide +kernel
theorem d_La_read_1 : decode b_La_read 1 = .ok (.iconst 0, 1) := by decide +kernel
theorem d_La_read_2 : decode b_La_read 2 = .ok (.aload_n 0, 1) := by decide +kernel
theorem d_La_read_3 : decode b_La_read 3 = .ok (.invokevirtual 7, 3) := by decide +kernel
theorem d_La_read_6 : decode b_La_read 6 = .ok (.i2l, 1) := by decide +kernel
theorem d_La_read_7 : decode b_La_read 7 = .ok (.lastore, 1) := by decide +kernel
theorem d_La_read_8 : decode b_La_read 8 = .ok (.goto 6, 3) := by decide +kernel
theorem d_La_read_11 : decode b_La_read 11 = .ok (.astore_n 2, 1) := by decide +kernel
theorem d_La_read_12 : decode b_La_read 12 = .ok (.iconst 1, 1) := by decide +kernel
theorem d_La_read_13 : decode b_La_read 13 = .ok (.ireturn, 1) := by decide +kernel
theorem d_La_read_14 : decode b_La_read 14 = .ok (.iconst 0, 1) := by decide +kernel
theorem d_La_read_15 : decode b_La_read 15 = .ok (.ireturn, 1) := by decide +kernel
theorem d_La_solve_0 : decode b_La_solve 0 = .ok (.aload_n 1, 1) := by decide +kernel
theorem d_La_solve_1 : decode b_La_solve 1 = .ok (.iconst 0, 1) := by decide +kernel
theorem d_La_solve_2 : decode b_La_solve 2 = .ok (.aload_n 0, 1) := by decide +kernel
theorem d_La_solve_3 : decode b_La_solve 3 = .ok (.invokevirtual 15, 3) := by decide +kernel
theorem d_La_solve_6 : decode b_La_solve 6 = .ok (.i2l, 1) := by decide +kernel
theorem d_La_solve_7 : decode b_La_solve 7 = .ok (.lastore, 1) := by decide +kernel
theorem d_La_solve_8 : decode b_La_solve 8 = .ok (.goto 6, 3) := by decide +kernel
theorem d_La_solve_11 : decode b_La_solve 11 = .ok (.astore_n 2, 1) := by decide +kernel
theorem d_La_solve_12 : decode b_La_solve 12 = .ok (.iconst 1, 1) := by decide +kernel
theorem d_La_solve_13 : decode b_La_solve 13 = .ok (.ireturn, 1) := by decide +kernel
theorem d_La_solve_14 : decode b_La_solve 14 = .ok (.iconst 0, 1) := by decide +kernel
theorem d_La_solve_15 : decode b_La_solve 15 = .ok (.ireturn, 1) := by decide +kernel
theorem d_La_upper_0 : decode b_La_upper 0 = .ok (.aload_n 2, 1) := by decide +kernel
theorem d_La_upper_1 : decode b_La_upper 1 = .ok (.iconst 0, 1) := by decide +kernel
theorem d_La_upper_2 : decode b_La_upper 2 = .ok (.aload_n 0, 1) := by decide +kernel
theorem d_La_upper_3 : decode b_La_upper 3 = .ok (.iload_n 1, 1) := by decide +kernel
theorem d_La_upper_4 : decode b_La_upper 4 = .ok (.invokevirtual 20, 3) := by decide +kernel
theorem d_La_upper_7 : decode b_La_upper 7 = .ok (.lastore, 1) := by decide +kernel
theorem d_La_upper_8 : decode b_La_upper 8 = .ok (.goto 9, 3) := by decide +kernel
theorem d_La_upper_11 : decode b_La_upper 11 = .ok (.astore_n 3, 1) := by decide +kernel
theorem d_La_upper_12 : decode b_La_upper 12 = .ok (.iconst 1, 1) := by decide +kernel
theorem d_La_upper_13 : decode b_La_upper 13 = .ok (.ireturn, 1) := by decide +kernel
theorem d_La_upper_14 : decode b_La_upper 14 = .ok (.astore_n 3, 1) := by decide +kernel
theorem d_La_upper_15 : decode b_La_upper 15 = .ok (.iconst 2, 1) := by decide +kernel
theorem d_La_upper_16 : decode b_La_upper 16 = .ok (.ireturn, 1) := by decide +kernel
theorem d_La_upper_17 : decode b_La_upper 17 = .ok (.iconst 0, 1) := by decide +kernel
theorem d_La_upper_18 : decode b_La_upper 18 = .ok (.ireturn, 1) := by decide +kernel
theorem d_La_lower_0 : decode b_La_lower 0 = .ok (.aload_n 2, 1) := by decide +kernel
theorem d_La_lower_1 : decode b_La_lower 1 = .ok (.iconst 0, 1) := by decide +kernel
theorem d_La_lower_2 : decode b_La_lower 2 = .ok (.aload_n 0, 1) := by decide +kernel
theorem d_La_lower_3 : decode b_La_lower 3 = .ok (.iload_n 1, 1) := by decide +kernel
theorem d_La_lower_4 : decode b_La_lower 4 = .ok (.invokevirtual 26, 3) := by decide +kernel
theorem d_La_lower_7 : decode b_La_lower 7 = .ok (.lastore, 1) := by decide +kernel
theorem d_La_lower_8 : decode b_La_lower 8 = .ok (.goto 9, 3) := by decide +kernel
theorem d_La_lower_11 : decode b_La_lower 11 = .ok (.astore_n 3, 1) := by decide +kernel
theorem d_La_lower_12 : decode b_La_lower 12 = .ok (.iconst 1, 1) := by decide +kernel
theorem d_La_lower_13 : decode b_La_lower 13 = .ok (.ireturn, 1) := by decide +kernel
theorem d_La_lower_14 : decode b_La_lower 14 = .ok (.astore_n 3, 1) := by decide +kernel
theorem d_La_lower_15 : decode b_La_lower 15 = .ok (.iconst 2, 1) := by decide +kernel
theorem d_La_lower_16 : decode b_La_lower 16 = .ok (.ireturn, 1) := by decide +kernel
theorem d_La_lower_17 : decode b_La_lower 17 = .ok (.iconst 0, 1) := by decide +kernel
theorem d_La_lower_18 : decode b_La_lower 18 = .ok (.ireturn, 1) := by decide +kernel
theorem d_La_good_0 : decode b_La_good 0 = .ok (.aload_n 2, 1) := by decide +kernel
theorem d_La_good_1 : decode b_La_good 1 = .ok (.iconst 0, 1) := by decide +kernel
theorem d_La_good_2 : decode b_La_good 2 = .ok (.aload_n 0, 1) := by decide +kernel
theorem d_La_good_3 : decode b_La_good 3 = .ok (.iload_n 1, 1) := by decide +kernel
theorem d_La_good_4 : decode b_La_good 4 = .ok (.invokevirtual 29, 3) := by decide +kernel
theorem d_La_good_7 : decode b_La_good 7 = .ok (.i2l, 1) := by decide +kernel
theorem d_La_good_8 : decode b_La_good 8 = .ok (.lastore, 1) := by decide +kernel
theorem d_La_good_9 : decode b_La_good 9 = .ok (.goto 9, 3) := by decide +kernel
theorem d_La_good_12 : decode b_La_good 12 = .ok (.astore_n 3, 1) := by decide +kernel
theorem d_La_good_13 : decode b_La_good 13 = .ok (.iconst 1, 1) := by decide +kernel
theorem d_La_good_14 : decode b_La_good 14 = .ok (.ireturn, 1) := by decide +kernel
theorem d_La_good_15 : decode b_La_good 15 = .ok (.astore_n 3, 1) := by decide +kernel
theorem d_La_good_16 : decode b_La_good 16 = .ok (.iconst 2, 1) := by decide +kernel
theorem d_La_good_17 : decode b_La_good 17 = .ok (.ireturn, 1) := by decide +kernel
theorem d_La_good_18 : decode b_La_good 18 = .ok (.iconst 0, 1) := by decide +kernel
theorem d_La_good_19 : decode b_La_good 19 = .ok (.ireturn, 1) := by decide +kernel
theorem ew_La_read : Cond.codeWith y_La_read b_La_read 3 (some .int) [(0, 8, 11, 13)] ∈ tb := tb_t (List.mem_of_getElem? (i := 428) (by decide +kernel)) (by decide +kernel)
theorem kt_La_read : Cond.static y_La_read ∈ tb := tb_t (List.mem_of_getElem? (i := 427) (by decide +kernel)) (by decide +kernel)
theorem ew_La_solve : Cond.codeWith y_La_solve b_La_solve 3 (some .int) [(0, 8, 11, 18)] ∈ tb := tb_t (List.mem_of_getElem? (i := 591) (by decide +kernel)) (by decide +kernel)
theorem kt_La_solve : Cond.static y_La_solve ∈ tb := tb_t (List.mem_of_getElem? (i := 590) (by decide +kernel)) (by decide +kernel)
theorem ew_La_upper : Cond.codeWith y_La_upper b_La_upper 4 (some .int) [(0, 8, 11, 18), (0, 8, 14, 24)] ∈ tb := tb_t (List.mem_of_getElem? (i := 767) (by decide +kernel)) (by decide +kernel)
theorem kt_La_upper : Cond.static y_La_upper ∈ tb := tb_t (List.mem_of_getElem? (i := 766) (by decide +kernel)) (by decide +kernel)
theorem ew_La_lower : Cond.codeWith y_La_lower b_La_lower 4 (some .int) [(0, 8, 11, 18), (0, 8, 14, 24)] ∈ tb := tb_t (List.mem_of_getElem? (i := 796) (by decide +kernel)) (by decide +kernel)
theorem kt_La_lower : Cond.static y_La_lower ∈ tb := tb_t (List.mem_of_getElem? (i := 795) (by decide +kernel)) (by decide +kernel)
theorem ew_La_good : Cond.codeWith y_La_good b_La_good 4 (some .int) [(0, 9, 12, 18), (0, 9, 15, 24)] ∈ tb := tb_t (List.mem_of_getElem? (i := 803) (by decide +kernel)) (by decide +kernel)
theorem kt_La_good : Cond.static y_La_good ∈ tb := tb_t (List.mem_of_getElem? (i := 802) (by decide +kernel)) (by decide +kernel)
theorem kn_La : Jvm.Cond.initialized "ChanceGameLaw" ∈ tb := tb_t (List.mem_of_getElem? (i := 0) (by decide +kernel)) (by decide +kernel)
theorem k_429 : Jvm.Cond.classLink "ChanceGameLaw" (13 : Nat) "java/lang/IllegalArgumentException" ∈ tb := tb_t (List.mem_of_getElem? (i := 429) (by decide +kernel)) (by decide +kernel)
theorem k_430 : Jvm.Cond.methodLink "ChanceGameLaw" (7 : Nat) ({ cls := "ChanceGame", name := "read", desc := "()I" } : Jvm.MethodName) ∈ tb := tb_t (List.mem_of_getElem? (i := 430) (by decide +kernel)) (by decide +kernel)
theorem k_460 : Jvm.Cond.castable "java/lang/IllegalArgumentException" "java/lang/IllegalArgumentException" ∈ tb := tb_t (List.mem_of_getElem? (i := 460) (by decide +kernel)) (by decide +kernel)
theorem k_592 : Jvm.Cond.classLink "ChanceGameLaw" (18 : Nat) "java/lang/IllegalStateException" ∈ tb := tb_t (List.mem_of_getElem? (i := 592) (by decide +kernel)) (by decide +kernel)
theorem k_593 : Jvm.Cond.methodLink "ChanceGameLaw" (15 : Nat) ({ cls := "ChanceGame", name := "solve", desc := "()I" } : Jvm.MethodName) ∈ tb := tb_t (List.mem_of_getElem? (i := 593) (by decide +kernel)) (by decide +kernel)
theorem k_599 : Jvm.Cond.castable "java/lang/IllegalStateException" "java/lang/IllegalStateException" ∈ tb := tb_t (List.mem_of_getElem? (i := 599) (by decide +kernel)) (by decide +kernel)
theorem k_768 : Jvm.Cond.classLink "ChanceGameLaw" (24 : Nat) "java/lang/IndexOutOfBoundsException" ∈ tb := tb_t (List.mem_of_getElem? (i := 768) (by decide +kernel)) (by decide +kernel)
theorem k_769 : Jvm.Cond.methodLink "ChanceGameLaw" (20 : Nat) ({ cls := "ChanceGame", name := "upper", desc := "(I)J" } : Jvm.MethodName) ∈ tb := tb_t (List.mem_of_getElem? (i := 769) (by decide +kernel)) (by decide +kernel)
theorem k_780 : Jvm.Cond.castable "java/lang/IndexOutOfBoundsException" "java/lang/IndexOutOfBoundsException" ∈ tb := tb_t (List.mem_of_getElem? (i := 780) (by decide +kernel)) (by decide +kernel)
theorem k_797 : Jvm.Cond.methodLink "ChanceGameLaw" (26 : Nat) ({ cls := "ChanceGame", name := "lower", desc := "(I)J" } : Jvm.MethodName) ∈ tb := tb_t (List.mem_of_getElem? (i := 797) (by decide +kernel)) (by decide +kernel)
theorem k_804 : Jvm.Cond.methodLink "ChanceGameLaw" (29 : Nat) ({ cls := "ChanceGame", name := "good", desc := "(I)I" } : Jvm.MethodName) ∈ tb := tb_t (List.mem_of_getElem? (i := 804) (by decide +kernel)) (by decide +kernel)
