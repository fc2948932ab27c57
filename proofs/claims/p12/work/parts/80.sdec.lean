theorem d_La_law_0 : decode code 0 = .ok (.new 8, 3) := by decide +kernel
theorem d_La_law_3 : decode code 3 = .ok (.dup, 1) := by decide +kernel
theorem d_La_law_4 : decode code 4 = .ok (.invokespecial 33, 3) := by decide +kernel
theorem d_La_law_7 : decode code 7 = .ok (.astore_n 1, 1) := by decide +kernel
theorem d_La_law_8 : decode code 8 = .ok (.new 34, 3) := by decide +kernel
theorem d_La_law_11 : decode code 11 = .ok (.dup, 1) := by decide +kernel
theorem d_La_law_12 : decode code 12 = .ok (.invokespecial 36, 3) := by decide +kernel
theorem d_La_law_15 : decode code 15 = .ok (.astore_n 2, 1) := by decide +kernel
theorem d_La_law_16 : decode code 16 = .ok (.iconst 1, 1) := by decide +kernel
theorem d_La_law_17 : decode code 17 = .ok (.newarray .long, 2) := by decide +kernel
theorem d_La_law_19 : decode code 19 = .ok (.astore_n 3, 1) := by decide +kernel
theorem d_La_law_20 : decode code 20 = .ok (.iconst 0, 1) := by decide +kernel
theorem d_La_law_21 : decode code 21 = .ok (.istore 4, 2) := by decide +kernel
theorem k_22 : Jvm.Cond.classLink "ChanceGameLaw" (8 : Nat) "ChanceGame" ∈ tb := tb_t (List.mem_of_getElem? (i := 22) (by decide +kernel)) (by decide +kernel)
theorem k_24 : Jvm.Cond.methodLink "ChanceGameLaw" (33 : Nat) ({ cls := "ChanceGame", name := "<init>", desc := "()V" } : Jvm.MethodName) ∈ tb := tb_t (List.mem_of_getElem? (i := 24) (by decide +kernel)) (by decide +kernel)
theorem k_808 : Jvm.Cond.classLink "ChanceGameLaw" (34 : Nat) "ChanceGameModel" ∈ tb := tb_t (List.mem_of_getElem? (i := 808) (by decide +kernel)) (by decide +kernel)
theorem k_810 : Jvm.Cond.methodLink "ChanceGameLaw" (36 : Nat) ({ cls := "ChanceGameModel", name := "<init>", desc := "()V" } : Jvm.MethodName) ∈ tb := tb_t (List.mem_of_getElem? (i := 810) (by decide +kernel)) (by decide +kernel)
