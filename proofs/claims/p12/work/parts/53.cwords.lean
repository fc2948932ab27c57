theorem ki_CG : Jvm.Cond.instantiable "ChanceGame" (7 : Nat) ∈ tb := tb_t (List.mem_of_getElem? (i := 23) (by decide +kernel)) (by decide +kernel)
theorem zz_CG : ∀ j, j < 7 → defaultValue (t_CG j) = vp_V [.null, .null, .null, .null, .null, .int (Int32.ofInt 0), .int (Int32.ofInt 0)] j := by decide +kernel
theorem ki_Rd : Jvm.Cond.instantiable "ChanceGame$Reader" (4 : Nat) ∈ tb := tb_t (List.mem_of_getElem? (i := 31) (by decide +kernel)) (by decide +kernel)
theorem zz_Rd : ∀ j, j < 4 → defaultValue (t_Rd j) = vp_V [.null, .null, .int (Int32.ofInt 0), .int (Int32.ofInt 0)] j := by decide +kernel
theorem ki_Tx : Jvm.Cond.instantiable "ChanceGame$Text" (2 : Nat) ∈ tb := tb_t (List.mem_of_getElem? (i := 37) (by decide +kernel)) (by decide +kernel)
theorem zz_Tx : ∀ j, j < 2 → defaultValue (t_Tx j) = vp_V [.null, .int (Int32.ofInt 0)] j := by decide +kernel
theorem ki_Gm : Jvm.Cond.instantiable "ChanceGame$Game" (5 : Nat) ∈ tb := tb_t (List.mem_of_getElem? (i := 53) (by decide +kernel)) (by decide +kernel)
theorem zz_Gm : ∀ j, j < 5 → defaultValue (t_Gm j) = vp_V [.null, .null, .null, .null, .int (Int32.ofInt 0)] j := by decide +kernel
theorem ki_Cm : Jvm.Cond.instantiable "ChanceGame$Command" (5 : Nat) ∈ tb := tb_t (List.mem_of_getElem? (i := 80) (by decide +kernel)) (by decide +kernel)
theorem zz_Cm : ∀ j, j < 5 → defaultValue (t_Cm j) = vp_V [.null, .null, .int (Int32.ofInt 0), .int (Int32.ofInt 0), .int (Int32.ofInt 0)] j := by decide +kernel
theorem ki_Gu : Jvm.Cond.instantiable "ChanceGame$Guard" (3 : Nat) ∈ tb := tb_t (List.mem_of_getElem? (i := 61) (by decide +kernel)) (by decide +kernel)
theorem zz_Gu : ∀ j, j < 3 → defaultValue (t_Gu j) = vp_V [.null, .null, .int (Int32.ofInt 0)] j := by decide +kernel
theorem ki_Br : Jvm.Cond.instantiable "ChanceGame$Branch" (2 : Nat) ∈ tb := tb_t (List.mem_of_getElem? (i := 89) (by decide +kernel)) (by decide +kernel)
theorem zz_Br : ∀ j, j < 2 → defaultValue (t_Br j) = vp_V [.null, .int (Int32.ofInt 0)] j := by decide +kernel
theorem ki_Va : Jvm.Cond.instantiable "ChanceGame$Values" (7 : Nat) ∈ tb := tb_t (List.mem_of_getElem? (i := 183) (by decide +kernel)) (by decide +kernel)
theorem zz_Va : ∀ j, j < 7 → defaultValue (t_Va j) = vp_V [.null, .null, .null, .null, .int (Int32.ofInt 0), .null, .null] j := by decide +kernel
theorem ki_Fo : Jvm.Cond.instantiable "ChanceGame$Found" (11 : Nat) ∈ tb := tb_t (List.mem_of_getElem? (i := 189) (by decide +kernel)) (by decide +kernel)
theorem zz_Fo : ∀ j, j < 11 → defaultValue (t_Fo j) = vp_V [.null, .int (Int32.ofInt 0), .int (Int32.ofInt 0), .int (Int32.ofInt 0), .int (Int32.ofInt 0), .int (Int32.ofInt 0), .null, .null, .null, .null, .null] j := by decide +kernel
theorem ki_At : Jvm.Cond.instantiable "ChanceGame$Attraction" (2 : Nat) ∈ tb := tb_t (List.mem_of_getElem? (i := 248) (by decide +kernel)) (by decide +kernel)
theorem zz_At : ∀ j, j < 2 → defaultValue (t_At j) = vp_V [.null, .null] j := by decide +kernel
theorem ki_Eq : Jvm.Cond.instantiable "ChanceGame$Equations" (3 : Nat) ∈ tb := tb_t (List.mem_of_getElem? (i := 264) (by decide +kernel)) (by decide +kernel)
theorem zz_Eq : ∀ j, j < 3 → defaultValue (t_Eq j) = vp_V [.null, .null, .long (Int64.ofInt 0)] j := by decide +kernel
theorem ki_Go : Jvm.Cond.instantiable "ChanceGame$GoodChoices" (2 : Nat) ∈ tb := tb_t (List.mem_of_getElem? (i := 312) (by decide +kernel)) (by decide +kernel)
theorem zz_Go : ∀ j, j < 2 → defaultValue (t_Go j) = vp_V [.null, .null] j := by decide +kernel
theorem ki_Mo : Jvm.Cond.instantiable "ChanceGameModel" (42 : Nat) ∈ tb := tb_t (List.mem_of_getElem? (i := 809) (by decide +kernel)) (by decide +kernel)
theorem zz_Mo : ∀ j, j < 42 → defaultValue (t_Mo j) = vp_V [.int (Int32.ofInt 0), .null, .int (Int32.ofInt 0), .int (Int32.ofInt 0), .int (Int32.ofInt 0), .int (Int32.ofInt 0), .int (Int32.ofInt 0), .int (Int32.ofInt 0), .null, .null, .null, .null, .null, .null, .null, .null, .null, .null, .null, .null, .int (Int32.ofInt 0), .int (Int32.ofInt 0), .int (Int32.ofInt 0), .null, .null, .null, .null, .null, .null, .null, .null, .null, .null, .null, .int (Int32.ofInt 0), .null, .null, .null, .long (Int64.ofInt 0), .null, .null, .null] j := by decide +kernel
theorem kA_int : Jvm.Cond.arrayClass Jvm.ClassFile.FieldType.int ∈ tb := tb_t (List.mem_of_getElem? (i := 79) (by decide +kernel)) (by decide +kernel)
theorem kA_char : Jvm.Cond.arrayClass Jvm.ClassFile.FieldType.char ∈ tb := tb_t (List.mem_of_getElem? (i := 51) (by decide +kernel)) (by decide +kernel)
theorem kA_long : Jvm.Cond.arrayClass Jvm.ClassFile.FieldType.long ∈ tb := tb_t (List.mem_of_getElem? (i := 284) (by decide +kernel)) (by decide +kernel)
theorem kA_boolean : Jvm.Cond.arrayClass Jvm.ClassFile.FieldType.boolean ∈ tb := tb_t (List.mem_of_getElem? (i := 941) (by decide +kernel)) (by decide +kernel)
theorem kO_Cm : Jvm.Cond.arrayOver (Jvm.ClassFile.FieldType.object "ChanceGame$Command") ∈ tb := tb_t (List.mem_of_getElem? (i := 59) (by decide +kernel)) (by decide +kernel)
theorem kO_Br : Jvm.Cond.arrayOver (Jvm.ClassFile.FieldType.object "ChanceGame$Branch") ∈ tb := tb_t (List.mem_of_getElem? (i := 88) (by decide +kernel)) (by decide +kernel)
theorem kM_int : Jvm.Cond.arrayOver (Jvm.ClassFile.FieldType.array Jvm.ClassFile.FieldType.int) ∈ tb := tb_t (List.mem_of_getElem? (i := 197) (by decide +kernel)) (by decide +kernel)
theorem kM_long : Jvm.Cond.arrayOver (Jvm.ClassFile.FieldType.array Jvm.ClassFile.FieldType.long) ∈ tb := tb_t (List.mem_of_getElem? (i := 270) (by decide +kernel)) (by decide +kernel)
theorem ko_i : Jvm.Cond.instanceMethod ({ cls := "java/lang/Object", name := "<init>", desc := "()V" } : Jvm.MethodName) ∈ tb := tb_t (List.mem_of_getElem? (i := 28) (by decide +kernel)) (by decide +kernel)
theorem ko_c : Cond.code objectInit ⟨#[0xb1]⟩ 1 none ∈ tb := tb_t (List.mem_of_getElem? (i := 29) (by decide +kernel)) (by decide +kernel)
theorem k_27 : Jvm.Cond.methodLink "ChanceGame" (3 : Nat) ({ cls := "java/lang/Object", name := "<init>", desc := "()V" } : Jvm.MethodName) ∈ tb := tb_t (List.mem_of_getElem? (i := 27) (by decide +kernel)) (by decide +kernel)
theorem k_30 : Jvm.Cond.classLink "ChanceGame" (9 : Nat) "ChanceGame$Reader" ∈ tb := tb_t (List.mem_of_getElem? (i := 30) (by decide +kernel)) (by decide +kernel)
theorem k_32 : Jvm.Cond.methodLinkNest "ChanceGame" (11 : Nat) ({ cls := "ChanceGame$Reader", name := "<init>", desc := "()V" } : Jvm.MethodName) "ChanceGame" ∈ tb := tb_t (List.mem_of_getElem? (i := 32) (by decide +kernel)) (by decide +kernel)
theorem k_35 : Jvm.Cond.methodLink "ChanceGame$Reader" (3 : Nat) ({ cls := "java/lang/Object", name := "<init>", desc := "()V" } : Jvm.MethodName) ∈ tb := tb_t (List.mem_of_getElem? (i := 35) (by decide +kernel)) (by decide +kernel)
theorem k_36 : Jvm.Cond.classLink "ChanceGame$Reader" (9 : Nat) "ChanceGame$Text" ∈ tb := tb_t (List.mem_of_getElem? (i := 36) (by decide +kernel)) (by decide +kernel)
theorem k_38 : Jvm.Cond.methodLinkNest "ChanceGame$Reader" (11 : Nat) ({ cls := "ChanceGame$Text", name := "<init>", desc := "()V" } : Jvm.MethodName) "ChanceGame" ∈ tb := tb_t (List.mem_of_getElem? (i := 38) (by decide +kernel)) (by decide +kernel)
theorem k_41 : Jvm.Cond.methodLink "ChanceGame$Text" (3 : Nat) ({ cls := "java/lang/Object", name := "<init>", desc := "()V" } : Jvm.MethodName) ∈ tb := tb_t (List.mem_of_getElem? (i := 41) (by decide +kernel)) (by decide +kernel)
theorem k_52 : Jvm.Cond.classLink "ChanceGame$Reader" (18 : Nat) "ChanceGame$Game" ∈ tb := tb_t (List.mem_of_getElem? (i := 52) (by decide +kernel)) (by decide +kernel)
theorem k_54 : Jvm.Cond.methodLink "ChanceGame$Reader" (20 : Nat) ({ cls := "ChanceGame$Game", name := "<init>", desc := "()V" } : Jvm.MethodName) ∈ tb := tb_t (List.mem_of_getElem? (i := 54) (by decide +kernel)) (by decide +kernel)
theorem k_57 : Jvm.Cond.methodLink "ChanceGame$Game" (3 : Nat) ({ cls := "java/lang/Object", name := "<init>", desc := "()V" } : Jvm.MethodName) ∈ tb := tb_t (List.mem_of_getElem? (i := 57) (by decide +kernel)) (by decide +kernel)
theorem k_58 : Jvm.Cond.classLink "ChanceGame$Game" (18 : Nat) "ChanceGame$Command" ∈ tb := tb_t (List.mem_of_getElem? (i := 58) (by decide +kernel)) (by decide +kernel)
theorem k_60 : Jvm.Cond.classLink "ChanceGame$Game" (24 : Nat) "ChanceGame$Guard" ∈ tb := tb_t (List.mem_of_getElem? (i := 60) (by decide +kernel)) (by decide +kernel)
theorem k_62 : Jvm.Cond.methodLinkNest "ChanceGame$Game" (26 : Nat) ({ cls := "ChanceGame$Guard", name := "<init>", desc := "()V" } : Jvm.MethodName) "ChanceGame" ∈ tb := tb_t (List.mem_of_getElem? (i := 62) (by decide +kernel)) (by decide +kernel)
theorem k_65 : Jvm.Cond.methodLink "ChanceGame$Guard" (3 : Nat) ({ cls := "java/lang/Object", name := "<init>", desc := "()V" } : Jvm.MethodName) ∈ tb := tb_t (List.mem_of_getElem? (i := 65) (by decide +kernel)) (by decide +kernel)
theorem k_81 : Jvm.Cond.methodLink "ChanceGame$Game" (35 : Nat) ({ cls := "ChanceGame$Command", name := "<init>", desc := "()V" } : Jvm.MethodName) ∈ tb := tb_t (List.mem_of_getElem? (i := 81) (by decide +kernel)) (by decide +kernel)
theorem k_84 : Jvm.Cond.methodLink "ChanceGame$Command" (3 : Nat) ({ cls := "java/lang/Object", name := "<init>", desc := "()V" } : Jvm.MethodName) ∈ tb := tb_t (List.mem_of_getElem? (i := 84) (by decide +kernel)) (by decide +kernel)
theorem k_85 : Jvm.Cond.classLink "ChanceGame$Command" (9 : Nat) "ChanceGame$Guard" ∈ tb := tb_t (List.mem_of_getElem? (i := 85) (by decide +kernel)) (by decide +kernel)
theorem k_86 : Jvm.Cond.methodLinkNest "ChanceGame$Command" (11 : Nat) ({ cls := "ChanceGame$Guard", name := "<init>", desc := "()V" } : Jvm.MethodName) "ChanceGame" ∈ tb := tb_t (List.mem_of_getElem? (i := 86) (by decide +kernel)) (by decide +kernel)
theorem k_87 : Jvm.Cond.classLink "ChanceGame$Command" (18 : Nat) "ChanceGame$Branch" ∈ tb := tb_t (List.mem_of_getElem? (i := 87) (by decide +kernel)) (by decide +kernel)
theorem k_90 : Jvm.Cond.methodLinkNest "ChanceGame$Command" (35 : Nat) ({ cls := "ChanceGame$Branch", name := "<init>", desc := "()V" } : Jvm.MethodName) "ChanceGame" ∈ tb := tb_t (List.mem_of_getElem? (i := 90) (by decide +kernel)) (by decide +kernel)
theorem k_93 : Jvm.Cond.methodLink "ChanceGame$Branch" (3 : Nat) ({ cls := "java/lang/Object", name := "<init>", desc := "()V" } : Jvm.MethodName) ∈ tb := tb_t (List.mem_of_getElem? (i := 93) (by decide +kernel)) (by decide +kernel)
theorem k_106 : Jvm.Cond.fieldLink "ChanceGame$Command" (12 : Nat) "ChanceGame$Command" "guard" "LChanceGame$Guard;" ∈ tb := tb_t (List.mem_of_getElem? (i := 106) (by decide +kernel)) (by decide +kernel)
theorem k_109 : Jvm.Cond.fieldLink "ChanceGame$Command" (20 : Nat) "ChanceGame$Command" "branches" "[LChanceGame$Branch;" ∈ tb := tb_t (List.mem_of_getElem? (i := 109) (by decide +kernel)) (by decide +kernel)
theorem k_114 : Jvm.Cond.fieldLink "ChanceGame$Command" (24 : Nat) "ChanceGame$Command" "isOfMax" "Z" ∈ tb := tb_t (List.mem_of_getElem? (i := 114) (by decide +kernel)) (by decide +kernel)
theorem k_117 : Jvm.Cond.fieldLink "ChanceGame$Command" (28 : Nat) "ChanceGame$Command" "count" "I" ∈ tb := tb_t (List.mem_of_getElem? (i := 117) (by decide +kernel)) (by decide +kernel)
theorem k_122 : Jvm.Cond.fieldLink "ChanceGame$Command" (32 : Nat) "ChanceGame$Command" "weight" "I" ∈ tb := tb_t (List.mem_of_getElem? (i := 122) (by decide +kernel)) (by decide +kernel)
theorem k_146 : Jvm.Cond.fieldLink "ChanceGame$Game" (27 : Nat) "ChanceGame$Game" "target" "LChanceGame$Guard;" ∈ tb := tb_t (List.mem_of_getElem? (i := 146) (by decide +kernel)) (by decide +kernel)
theorem k_168 : Jvm.Cond.fieldLink "ChanceGame" (16 : Nat) "ChanceGame$Reader" "text" "LChanceGame$Text;" ∈ tb := tb_t (List.mem_of_getElem? (i := 168) (by decide +kernel)) (by decide +kernel)
theorem k_182 : Jvm.Cond.classLink "ChanceGame" (21 : Nat) "ChanceGame$Values" ∈ tb := tb_t (List.mem_of_getElem? (i := 182) (by decide +kernel)) (by decide +kernel)
theorem k_184 : Jvm.Cond.methodLinkNest "ChanceGame" (23 : Nat) ({ cls := "ChanceGame$Values", name := "<init>", desc := "()V" } : Jvm.MethodName) "ChanceGame" ∈ tb := tb_t (List.mem_of_getElem? (i := 184) (by decide +kernel)) (by decide +kernel)
theorem k_187 : Jvm.Cond.methodLink "ChanceGame$Values" (3 : Nat) ({ cls := "java/lang/Object", name := "<init>", desc := "()V" } : Jvm.MethodName) ∈ tb := tb_t (List.mem_of_getElem? (i := 187) (by decide +kernel)) (by decide +kernel)
theorem k_188 : Jvm.Cond.classLink "ChanceGame$Values" (9 : Nat) "ChanceGame$Found" ∈ tb := tb_t (List.mem_of_getElem? (i := 188) (by decide +kernel)) (by decide +kernel)
theorem k_190 : Jvm.Cond.methodLinkNest "ChanceGame$Values" (11 : Nat) ({ cls := "ChanceGame$Found", name := "<init>", desc := "()V" } : Jvm.MethodName) "ChanceGame" ∈ tb := tb_t (List.mem_of_getElem? (i := 190) (by decide +kernel)) (by decide +kernel)
theorem k_193 : Jvm.Cond.methodLink "ChanceGame$Found" (3 : Nat) ({ cls := "java/lang/Object", name := "<init>", desc := "()V" } : Jvm.MethodName) ∈ tb := tb_t (List.mem_of_getElem? (i := 193) (by decide +kernel)) (by decide +kernel)
theorem k_194 : Jvm.Cond.classLink "ChanceGame$Found" (9 : Nat) "ChanceGame$Game" ∈ tb := tb_t (List.mem_of_getElem? (i := 194) (by decide +kernel)) (by decide +kernel)
theorem k_195 : Jvm.Cond.methodLink "ChanceGame$Found" (11 : Nat) ({ cls := "ChanceGame$Game", name := "<init>", desc := "()V" } : Jvm.MethodName) ∈ tb := tb_t (List.mem_of_getElem? (i := 195) (by decide +kernel)) (by decide +kernel)
theorem k_196 : Jvm.Cond.classLink "ChanceGame$Found" (34 : Nat) "[[I" ∈ tb := tb_t (List.mem_of_getElem? (i := 196) (by decide +kernel)) (by decide +kernel)
theorem k_247 : Jvm.Cond.classLink "ChanceGame$Values" (18 : Nat) "ChanceGame$Attraction" ∈ tb := tb_t (List.mem_of_getElem? (i := 247) (by decide +kernel)) (by decide +kernel)
theorem k_249 : Jvm.Cond.methodLinkNest "ChanceGame$Values" (20 : Nat) ({ cls := "ChanceGame$Attraction", name := "<init>", desc := "()V" } : Jvm.MethodName) "ChanceGame" ∈ tb := tb_t (List.mem_of_getElem? (i := 249) (by decide +kernel)) (by decide +kernel)
theorem k_252 : Jvm.Cond.methodLink "ChanceGame$Attraction" (3 : Nat) ({ cls := "java/lang/Object", name := "<init>", desc := "()V" } : Jvm.MethodName) ∈ tb := tb_t (List.mem_of_getElem? (i := 252) (by decide +kernel)) (by decide +kernel)
theorem k_263 : Jvm.Cond.classLink "ChanceGame$Values" (25 : Nat) "ChanceGame$Equations" ∈ tb := tb_t (List.mem_of_getElem? (i := 263) (by decide +kernel)) (by decide +kernel)
theorem k_265 : Jvm.Cond.methodLinkNest "ChanceGame$Values" (27 : Nat) ({ cls := "ChanceGame$Equations", name := "<init>", desc := "()V" } : Jvm.MethodName) "ChanceGame" ∈ tb := tb_t (List.mem_of_getElem? (i := 265) (by decide +kernel)) (by decide +kernel)
theorem k_268 : Jvm.Cond.methodLink "ChanceGame$Equations" (3 : Nat) ({ cls := "java/lang/Object", name := "<init>", desc := "()V" } : Jvm.MethodName) ∈ tb := tb_t (List.mem_of_getElem? (i := 268) (by decide +kernel)) (by decide +kernel)
theorem k_269 : Jvm.Cond.classLink "ChanceGame$Equations" (9 : Nat) "[[J" ∈ tb := tb_t (List.mem_of_getElem? (i := 269) (by decide +kernel)) (by decide +kernel)
theorem k_286 : Jvm.Cond.fieldLink "ChanceGame" (28 : Nat) "ChanceGame$Values" "found" "LChanceGame$Found;" ∈ tb := tb_t (List.mem_of_getElem? (i := 286) (by decide +kernel)) (by decide +kernel)
theorem k_311 : Jvm.Cond.classLink "ChanceGame" (33 : Nat) "ChanceGame$GoodChoices" ∈ tb := tb_t (List.mem_of_getElem? (i := 311) (by decide +kernel)) (by decide +kernel)
theorem k_313 : Jvm.Cond.methodLinkNest "ChanceGame" (35 : Nat) ({ cls := "ChanceGame$GoodChoices", name := "<init>", desc := "()V" } : Jvm.MethodName) "ChanceGame" ∈ tb := tb_t (List.mem_of_getElem? (i := 313) (by decide +kernel)) (by decide +kernel)
theorem k_316 : Jvm.Cond.methodLink "ChanceGame$GoodChoices" (3 : Nat) ({ cls := "java/lang/Object", name := "<init>", desc := "()V" } : Jvm.MethodName) ∈ tb := tb_t (List.mem_of_getElem? (i := 316) (by decide +kernel)) (by decide +kernel)
theorem k_317 : Jvm.Cond.classLink "ChanceGame$GoodChoices" (9 : Nat) "ChanceGame$Attraction" ∈ tb := tb_t (List.mem_of_getElem? (i := 317) (by decide +kernel)) (by decide +kernel)
theorem k_318 : Jvm.Cond.methodLinkNest "ChanceGame$GoodChoices" (11 : Nat) ({ cls := "ChanceGame$Attraction", name := "<init>", desc := "()V" } : Jvm.MethodName) "ChanceGame" ∈ tb := tb_t (List.mem_of_getElem? (i := 318) (by decide +kernel)) (by decide +kernel)
theorem k_813 : Jvm.Cond.methodLink "ChanceGameModel" (1 : Nat) ({ cls := "java/lang/Object", name := "<init>", desc := "()V" } : Jvm.MethodName) ∈ tb := tb_t (List.mem_of_getElem? (i := 813) (by decide +kernel)) (by decide +kernel)
theorem e_Tx_init : cg_E y_Tx_init b_Tx_init 1 none 0 := ⟨tb_t (List.mem_of_getElem? (i := 40) (by decide +kernel)) (by decide +kernel), kn_Tx, by decide, by decide, by decide +kernel⟩
theorem ki_Tx_init : Cond.instanceMethod y_Tx_init ∈ tb := tb_t (List.mem_of_getElem? (i := 39) (by decide +kernel)) (by decide +kernel)
theorem e_Gu_init : cg_E y_Gu_init b_Gu_init 1 none 0 := ⟨tb_t (List.mem_of_getElem? (i := 64) (by decide +kernel)) (by decide +kernel), kn_Gu, by decide, by decide, by decide +kernel⟩
theorem ki_Gu_init : Cond.instanceMethod y_Gu_init ∈ tb := tb_t (List.mem_of_getElem? (i := 63) (by decide +kernel)) (by decide +kernel)
theorem e_Br_init : cg_E y_Br_init b_Br_init 1 none 0 := ⟨tb_t (List.mem_of_getElem? (i := 92) (by decide +kernel)) (by decide +kernel), kn_Br, by decide, by decide, by decide +kernel⟩
theorem ki_Br_init : Cond.instanceMethod y_Br_init ∈ tb := tb_t (List.mem_of_getElem? (i := 91) (by decide +kernel)) (by decide +kernel)
theorem e_Cm_init : cg_E y_Cm_init b_Cm_init 2 none 0 := ⟨tb_t (List.mem_of_getElem? (i := 83) (by decide +kernel)) (by decide +kernel), kn_Cm, by decide, by decide, by decide +kernel⟩
theorem ki_Cm_init : Cond.instanceMethod y_Cm_init ∈ tb := tb_t (List.mem_of_getElem? (i := 82) (by decide +kernel)) (by decide +kernel)
theorem e_Gm_init : cg_E y_Gm_init b_Gm_init 2 none 0 := ⟨tb_t (List.mem_of_getElem? (i := 56) (by decide +kernel)) (by decide +kernel), kn_Gm, by decide, by decide, by decide +kernel⟩
theorem ki_Gm_init : Cond.instanceMethod y_Gm_init ∈ tb := tb_t (List.mem_of_getElem? (i := 55) (by decide +kernel)) (by decide +kernel)
theorem e_Rd_init : cg_E y_Rd_init b_Rd_init 1 none 0 := ⟨tb_t (List.mem_of_getElem? (i := 34) (by decide +kernel)) (by decide +kernel), kn_Rd, by decide, by decide, by decide +kernel⟩
theorem ki_Rd_init : Cond.instanceMethod y_Rd_init ∈ tb := tb_t (List.mem_of_getElem? (i := 33) (by decide +kernel)) (by decide +kernel)
theorem e_At_init : cg_E y_At_init b_At_init 1 none 0 := ⟨tb_t (List.mem_of_getElem? (i := 251) (by decide +kernel)) (by decide +kernel), kn_At, by decide, by decide, by decide +kernel⟩
theorem ki_At_init : Cond.instanceMethod y_At_init ∈ tb := tb_t (List.mem_of_getElem? (i := 250) (by decide +kernel)) (by decide +kernel)
theorem e_Eq_init : cg_E y_Eq_init b_Eq_init 1 none 0 := ⟨tb_t (List.mem_of_getElem? (i := 267) (by decide +kernel)) (by decide +kernel), kn_Eq, by decide, by decide, by decide +kernel⟩
theorem ki_Eq_init : Cond.instanceMethod y_Eq_init ∈ tb := tb_t (List.mem_of_getElem? (i := 266) (by decide +kernel)) (by decide +kernel)
theorem e_Go_init : cg_E y_Go_init b_Go_init 1 none 0 := ⟨tb_t (List.mem_of_getElem? (i := 315) (by decide +kernel)) (by decide +kernel), kn_Go, by decide, by decide, by decide +kernel⟩
theorem ki_Go_init : Cond.instanceMethod y_Go_init ∈ tb := tb_t (List.mem_of_getElem? (i := 314) (by decide +kernel)) (by decide +kernel)
theorem e_Fo_init : cg_E y_Fo_init b_Fo_init 1 none 0 := ⟨tb_t (List.mem_of_getElem? (i := 192) (by decide +kernel)) (by decide +kernel), kn_Fo, by decide, by decide, by decide +kernel⟩
theorem ki_Fo_init : Cond.instanceMethod y_Fo_init ∈ tb := tb_t (List.mem_of_getElem? (i := 191) (by decide +kernel)) (by decide +kernel)
theorem e_Va_init : cg_E y_Va_init b_Va_init 1 none 0 := ⟨tb_t (List.mem_of_getElem? (i := 186) (by decide +kernel)) (by decide +kernel), kn_Va, by decide, by decide, by decide +kernel⟩
theorem ki_Va_init : Cond.instanceMethod y_Va_init ∈ tb := tb_t (List.mem_of_getElem? (i := 185) (by decide +kernel)) (by decide +kernel)
theorem e_CG_init : cg_E y_CG_init b_CG_init 1 none 0 := ⟨tb_t (List.mem_of_getElem? (i := 26) (by decide +kernel)) (by decide +kernel), kn_CG, by decide, by decide, by decide +kernel⟩
theorem ki_CG_init : Cond.instanceMethod y_CG_init ∈ tb := tb_t (List.mem_of_getElem? (i := 25) (by decide +kernel)) (by decide +kernel)
theorem e_Mo_init : cg_E y_Mo_init b_Mo_init 1 none 0 := ⟨tb_t (List.mem_of_getElem? (i := 812) (by decide +kernel)) (by decide +kernel), kn_Mo, by decide, by decide, by decide +kernel⟩
theorem ki_Mo_init : Cond.instanceMethod y_Mo_init ∈ tb := tb_t (List.mem_of_getElem? (i := 811) (by decide +kernel)) (by decide +kernel)
