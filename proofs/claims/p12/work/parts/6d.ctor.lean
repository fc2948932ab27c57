def sh_Cm : sh_T := ([(.inl (4, [4, 7, 0, 0, 0]), [0, 0, 0, 0, 0])] : sh_T) ++ sh_Gu ++ ([(.inr (7, 4), [])] : sh_T) ++ sh_Br ++ sh_Br ++ sh_Br ++ sh_Br
theorem ok_Cm : sh_ok 13 0 sh_Cm = true := by decide +kernel
theorem len_Cm : sh_Cm.length = 13 := by decide +kernel
set_option maxHeartbeats 40000000 in
set_option maxRecDepth 100000 in
theorem k_Cm_init (l : Launch) (D : va_G) (h0 sz : Nat) : Met l y_Cm_init (Cond.code y_Cm_init b_Cm_init 2 none :: tb) { frames := 2, cells := 12, slots := 83, locals := 32 } (va_Pc [.ref h0] (cg_Pre D classes sz [(h0, .inr (4, [.null, .null, .int (Int32.ofInt 0), .int (Int32.ofInt 0), .int (Int32.ofInt 0)]))] [])) (va_Qv (fun u : (Nat → Nat) × (Nat → ClassId) => u.1 0 = h0) (fun (u : (Nat → Nat) × (Nat → ClassId)) (t : State) => cg_B D classes (va_A [(h0, .inr (4, [.null, .null, .int (Int32.ofInt 0), .int (Int32.ofInt 0), .int (Int32.ofInt 0)]))] sz) (sgk u.1 u.2 0 sh_Cm) (sgt u.2 0 sh_Cm) t) (va_A [(h0, .inr (4, [.null, .null, .int (Int32.ofInt 0), .int (Int32.ofInt 0), .int (Int32.ofInt 0)]))] sz)) 12 83 (va_A [(h0, .inr (4, [.null, .null, .int (Int32.ofInt 0), .int (Int32.ofInt 0), .int (Int32.ofInt 0)]))] sz) := by
  refine cg_met (by decide) (Nat.le_of_ble_eq_true rfl) (fun p e s m below meth c ls F w hr hlk hnm hl => ?_)
  have w : cg_W D classes (va_A [(h0, .inr (4, [.null, .null, .int (Int32.ofInt 0), .int (Int32.ofInt 0), .int (Int32.ofInt 0)]))] sz) s.heap s [] [(h0, .inr (4, [.null, .null, .int (Int32.ofInt 0), .int (Int32.ofInt 0), .int (Int32.ofInt 0)]))] s.heap [] := w
  have hl : lv_has ls 2 [(0, .ref h0)] := hl
  refine lv_aload_n F.1 F.2.1 d_Cm_init_0 rfl (lv_at hl 0 rfl) ?_
  refine cg_obj F k_84 ko_i ko_c hl.1 d_Cm_init_1 (Nat.le_of_ble_eq_true rfl) (Nat.le_of_ble_eq_true rfl) ?_
  refine lv_aload_n F.1 F.2.1 d_Cm_init_4 rfl (lv_at hl 0 rfl) ?_
  refine cg_new (fs := [.null, .null, .int (Int32.ofInt 0)]) F w cl_Gu k_85 ki_Gu kn_Gu zz_Gu (Nat.le_of_ble_eq_true rfl) (Nat.le_of_ble_eq_true rfl) d_Cm_init_5 (fun q1 H w => ?_)
  have w : cg_W D classes (va_A [(h0, .inr (4, [.null, .null, .int (Int32.ofInt 0), .int (Int32.ofInt 0), .int (Int32.ofInt 0)]))] sz) s.heap s (([] : List (ClassId × FieldType))) (([(h0, .inr (4, [.null, .null, .int (Int32.ofInt 0), .int (Int32.ofInt 0), .int (Int32.ofInt 0)]))] : va_W) ++ ([(q1, .inr (5, [.null, .null, .int (Int32.ofInt 0)]))] : va_W)) H [] := w
  refine lv_dup F.1 F.2.1 d_Cm_init_8 rfl ?_
  refine cg_cvL (x := (q1, .inr (5, [.null, .null, .int (Int32.ofInt 0)]))) w (cg_rIN (As := []) (rest := [.ref q1, .ref h0]) F (k_Gu_init l D q1 H.size) e_Gu_init rfl ki_Gu_init k_86 (cg_preL w) rfl hl.1 rfl (Nat.le_of_ble_eq_true rfl) ⟨⟨rfl, rfl⟩, ⟨(Nat.le_of_ble_eq_true rfl), (Nat.le_of_ble_eq_true rfl)⟩, (Nat.le_of_ble_eq_true rfl), (Nat.le_of_ble_eq_true rfl)⟩ d_Cm_init_9) (fun u2 H9 locs9 hu3 w9 => ?_)
  clear w
  subst hu3
  have w : cg_W D classes (va_A [(h0, .inr (4, [.null, .null, .int (Int32.ofInt 0), .int (Int32.ofInt 0), .int (Int32.ofInt 0)]))] sz) s.heap s (([] : List (ClassId × FieldType)) ++ sgt u2.2 0 sh_Gu) (([(h0, .inr (4, [.null, .null, .int (Int32.ofInt 0), .int (Int32.ofInt 0), .int (Int32.ofInt 0)]))] : va_W) ++ sgk u2.1 u2.2 0 sh_Gu) H9 locs9 := w9
  clear w9
  generalize H9 = H at w ⊢
  generalize locs9 = locs at w ⊢
  refine cg_putF F w cl_Cm 0 0 rfl (by decide) k_106 rfl hnm rfl (by rfl) (by rfl) (Nat.le_of_ble_eq_true rfl) d_Cm_init_12 (fun H locs w => ?_)
  have w : cg_W D classes (va_A [(h0, .inr (4, [.null, .null, .int (Int32.ofInt 0), .int (Int32.ofInt 0), .int (Int32.ofInt 0)]))] sz) s.heap s (([] : List (ClassId × FieldType)) ++ sgt u2.2 0 sh_Gu) (([(h0, .inr (4, [.ref (u2.1 0), .null, .int (Int32.ofInt 0), .int (Int32.ofInt 0), .int (Int32.ofInt 0)]))] : va_W) ++ sgk u2.1 u2.2 0 sh_Gu) H locs := w
  refine lv_aload_n F.1 F.2.1 d_Cm_init_15 rfl (lv_at hl 0 rfl) ?_
  refine lv_iconst (v := Int32.ofInt 4) F.1 F.2.1 d_Cm_init_16 (by decide) ?_
  refine cg_anew (N' := 4) F w k_87 kO_Br (by decide) (by decide) (by decide) (Nat.le_of_ble_eq_true rfl) (Nat.le_of_ble_eq_true rfl) d_Cm_init_17 (fun q4 cA5 H w => ?_)
  have w : cg_W D classes (va_A [(h0, .inr (4, [.null, .null, .int (Int32.ofInt 0), .int (Int32.ofInt 0), .int (Int32.ofInt 0)]))] sz) s.heap s (([] : List (ClassId × FieldType)) ++ sgt u2.2 0 sh_Gu ++ ([(cA5, .object "ChanceGame$Branch")] : List (ClassId × FieldType))) (([(h0, .inr (4, [.ref (u2.1 0), .null, .int (Int32.ofInt 0), .int (Int32.ofInt 0), .int (Int32.ofInt 0)]))] : va_W) ++ sgk u2.1 u2.2 0 sh_Gu ++ ([(q4, .inl (cA5, 4, .inr (.inr (.inr (.inr (fun _ => none))))))] : va_W)) H locs := w
  refine cg_putF F w cl_Cm 0 1 rfl (by decide) k_109 rfl hnm rfl (by rfl) (by rfl) (Nat.le_of_ble_eq_true rfl) d_Cm_init_20 (fun H locs w => ?_)
  have w : cg_W D classes (va_A [(h0, .inr (4, [.null, .null, .int (Int32.ofInt 0), .int (Int32.ofInt 0), .int (Int32.ofInt 0)]))] sz) s.heap s (([] : List (ClassId × FieldType)) ++ sgt u2.2 0 sh_Gu ++ ([(cA5, .object "ChanceGame$Branch")] : List (ClassId × FieldType))) (([(h0, .inr (4, [.ref (u2.1 0), .ref q4, .int (Int32.ofInt 0), .int (Int32.ofInt 0), .int (Int32.ofInt 0)]))] : va_W) ++ sgk u2.1 u2.2 0 sh_Gu ++ ([(q4, .inl (cA5, 4, .inr (.inr (.inr (.inr (fun _ => none))))))] : va_W)) H locs := w
  refine lv_aload_n F.1 F.2.1 d_Cm_init_23 rfl (lv_at hl 0 rfl) ?_
  refine lv_iconst (v := Int32.ofInt 0) F.1 F.2.1 d_Cm_init_24 (by decide) ?_
  refine cg_put F w cl_Cm 0 2 rfl (by decide) k_114 rfl (by rfl) (by rfl) (Nat.le_of_ble_eq_true rfl) d_Cm_init_25 (fun H locs w => ?_)
  have w : cg_W D classes (va_A [(h0, .inr (4, [.null, .null, .int (Int32.ofInt 0), .int (Int32.ofInt 0), .int (Int32.ofInt 0)]))] sz) s.heap s (([] : List (ClassId × FieldType)) ++ sgt u2.2 0 sh_Gu ++ ([(cA5, .object "ChanceGame$Branch")] : List (ClassId × FieldType))) (([(h0, .inr (4, [.ref (u2.1 0), .ref q4, .int (Int32.ofInt 0), .int (Int32.ofInt 0), .int (Int32.ofInt 0)]))] : va_W) ++ sgk u2.1 u2.2 0 sh_Gu ++ ([(q4, .inl (cA5, 4, .inr (.inr (.inr (.inr (fun _ => none))))))] : va_W)) H locs := w
  refine lv_aload_n F.1 F.2.1 d_Cm_init_28 rfl (lv_at hl 0 rfl) ?_
  refine lv_iconst (v := Int32.ofInt 0) F.1 F.2.1 d_Cm_init_29 (by decide) ?_
  refine cg_put F w cl_Cm 0 3 rfl (by decide) k_117 rfl (by rfl) (by rfl) (Nat.le_of_ble_eq_true rfl) d_Cm_init_30 (fun H locs w => ?_)
  have w : cg_W D classes (va_A [(h0, .inr (4, [.null, .null, .int (Int32.ofInt 0), .int (Int32.ofInt 0), .int (Int32.ofInt 0)]))] sz) s.heap s (([] : List (ClassId × FieldType)) ++ sgt u2.2 0 sh_Gu ++ ([(cA5, .object "ChanceGame$Branch")] : List (ClassId × FieldType))) (([(h0, .inr (4, [.ref (u2.1 0), .ref q4, .int (Int32.ofInt 0), .int (Int32.ofInt 0), .int (Int32.ofInt 0)]))] : va_W) ++ sgk u2.1 u2.2 0 sh_Gu ++ ([(q4, .inl (cA5, 4, .inr (.inr (.inr (.inr (fun _ => none))))))] : va_W)) H locs := w
  refine lv_aload_n F.1 F.2.1 d_Cm_init_33 rfl (lv_at hl 0 rfl) ?_
  refine lv_iconst (v := Int32.ofInt 0) F.1 F.2.1 d_Cm_init_34 (by decide) ?_
  refine cg_put F w cl_Cm 0 4 rfl (by decide) k_122 rfl (by rfl) (by rfl) (Nat.le_of_ble_eq_true rfl) d_Cm_init_35 (fun H locs w => ?_)
  have w : cg_W D classes (va_A [(h0, .inr (4, [.null, .null, .int (Int32.ofInt 0), .int (Int32.ofInt 0), .int (Int32.ofInt 0)]))] sz) s.heap s (([] : List (ClassId × FieldType)) ++ sgt u2.2 0 sh_Gu ++ ([(cA5, .object "ChanceGame$Branch")] : List (ClassId × FieldType))) (([(h0, .inr (4, [.ref (u2.1 0), .ref q4, .int (Int32.ofInt 0), .int (Int32.ofInt 0), .int (Int32.ofInt 0)]))] : va_W) ++ sgk u2.1 u2.2 0 sh_Gu ++ ([(q4, .inl (cA5, 4, .inr (.inr (.inr (.inr (fun _ => none))))))] : va_W)) H locs := w
  refine lv_iconst (v := Int32.ofInt 0) F.1 F.2.1 d_Cm_init_38 (by decide) ?_
  refine lv_istore_n F.1 F.2.1 d_Cm_init_39 rfl hl (by decide) rfl (fun ls hl => ?_)
  have hl : lv_has ls 2 [(1, .int (Int32.ofInt 0)), (0, .ref h0)] := hl
  refine lv_iload_n F.1 F.2.1 d_Cm_init_40 rfl (lv_at hl 0 rfl) ?_
  refine lv_iconst (v := Int32.ofInt 4) F.1 F.2.1 d_Cm_init_41 (by decide) ?_
  refine fi_icmp_ge F d_Cm_init_42 (tgt := 64) (by decide) (rgl (by decide)) (rgl (by decide)) (fun hh => absurd hh (by decide)) (fun _ => ?_)
  refine lv_aload_n F.1 F.2.1 d_Cm_init_45 rfl (lv_at hl 1 rfl) ?_
  refine cg_get F w cl_Cm 0 1 rfl (by decide) k_109 rfl d_Cm_init_46 ?_
  show W p l e _ s m _ below meth c H locs _ _ _ (F0 m 49 ls [.ref q4])
  refine lv_iload_n F.1 F.2.1 d_Cm_init_49 rfl (lv_at hl 0 rfl) ?_
  refine cg_new (fs := [.null, .int (Int32.ofInt 0)]) F w cl_Br k_87 ki_Br kn_Br zz_Br (Nat.le_of_ble_eq_true rfl) (Nat.le_of_ble_eq_true rfl) d_Cm_init_50 (fun q6 H w => ?_)
  have w : cg_W D classes (va_A [(h0, .inr (4, [.null, .null, .int (Int32.ofInt 0), .int (Int32.ofInt 0), .int (Int32.ofInt 0)]))] sz) s.heap s (([] : List (ClassId × FieldType)) ++ sgt u2.2 0 sh_Gu ++ ([(cA5, .object "ChanceGame$Branch")] : List (ClassId × FieldType))) (([(h0, .inr (4, [.ref (u2.1 0), .ref q4, .int (Int32.ofInt 0), .int (Int32.ofInt 0), .int (Int32.ofInt 0)]))] : va_W) ++ sgk u2.1 u2.2 0 sh_Gu ++ ([(q4, .inl (cA5, 4, .inr (.inr (.inr (.inr (fun _ => none))))))] : va_W) ++ ([(q6, .inr (6, [.null, .int (Int32.ofInt 0)]))] : va_W)) H locs := w
  refine lv_dup F.1 F.2.1 d_Cm_init_53 rfl ?_
  refine cg_cvL (x := (q6, .inr (6, [.null, .int (Int32.ofInt 0)]))) w (cg_rIN (As := []) (rest := [.ref q6, .int (Int32.ofInt 0), .ref q4]) F (k_Br_init l D q6 H.size) e_Br_init rfl ki_Br_init k_90 (cg_preL w) rfl hl.1 rfl (Nat.le_of_ble_eq_true rfl) ⟨⟨rfl, rfl⟩, ⟨(Nat.le_of_ble_eq_true rfl), (Nat.le_of_ble_eq_true rfl)⟩, (Nat.le_of_ble_eq_true rfl), (Nat.le_of_ble_eq_true rfl)⟩ d_Cm_init_54) (fun u7 H9 locs9 hu8 w9 => ?_)
  clear w
  subst hu8
  have w : cg_W D classes (va_A [(h0, .inr (4, [.null, .null, .int (Int32.ofInt 0), .int (Int32.ofInt 0), .int (Int32.ofInt 0)]))] sz) s.heap s (([] : List (ClassId × FieldType)) ++ sgt u2.2 0 sh_Gu ++ ([(cA5, .object "ChanceGame$Branch")] : List (ClassId × FieldType)) ++ sgt u7.2 0 sh_Br) (([(h0, .inr (4, [.ref (u2.1 0), .ref q4, .int (Int32.ofInt 0), .int (Int32.ofInt 0), .int (Int32.ofInt 0)]))] : va_W) ++ sgk u2.1 u2.2 0 sh_Gu ++ ([(q4, .inl (cA5, 4, .inr (.inr (.inr (.inr (fun _ => none))))))] : va_W) ++ sgk u7.1 u7.2 0 sh_Br) H9 locs9 := w9
  clear w9
  generalize H9 = H at w ⊢
  generalize locs9 = locs at w ⊢
  refine cg_aast (ci := 6) F w 4 2 5 rfl rfl rfl rfl (cg_in9 (by decide)) d_Cm_init_57 (fun H locs w => ?_)
  have w : cg_W D classes (va_A [(h0, .inr (4, [.null, .null, .int (Int32.ofInt 0), .int (Int32.ofInt 0), .int (Int32.ofInt 0)]))] sz) s.heap s (([] : List (ClassId × FieldType)) ++ sgt u2.2 0 sh_Gu ++ ([(cA5, .object "ChanceGame$Branch")] : List (ClassId × FieldType)) ++ sgt u7.2 0 sh_Br) (([(h0, .inr (4, [.ref (u2.1 0), .ref q4, .int (Int32.ofInt 0), .int (Int32.ofInt 0), .int (Int32.ofInt 0)]))] : va_W) ++ sgk u2.1 u2.2 0 sh_Gu ++ ([(q4, .inl (cA5, 4, .inr (.inr (.inr (.inr (va_up (fun _ => none) 0 (some ((u7.1 0)))))))))] : va_W) ++ sgk u7.1 u7.2 0 sh_Br) H locs := w
  refine fi_iinc (k := 0) (v := 1) F d_Cm_init_58 hl rfl rfl (by decide) rfl (fun ls hl => ?_)
  have hl : lv_has ls 2 [(1, .int (Int32.ofInt 1)), (0, .ref h0)] := hl
  refine lv_goto F.1 F.2.1 d_Cm_init_61 (tgt := 40) (by decide) ?_
  refine lv_iload_n F.1 F.2.1 d_Cm_init_40 rfl (lv_at hl 0 rfl) ?_
  refine lv_iconst (v := Int32.ofInt 4) F.1 F.2.1 d_Cm_init_41 (by decide) ?_
  refine fi_icmp_ge F d_Cm_init_42 (tgt := 64) (by decide) (rgl (by decide)) (rgl (by decide)) (fun hh => absurd hh (by decide)) (fun _ => ?_)
  refine lv_aload_n F.1 F.2.1 d_Cm_init_45 rfl (lv_at hl 1 rfl) ?_
  refine cg_get F w cl_Cm 0 1 rfl (by decide) k_109 rfl d_Cm_init_46 ?_
  show W p l e _ s m _ below meth c H locs _ _ _ (F0 m 49 ls [.ref q4])
  refine lv_iload_n F.1 F.2.1 d_Cm_init_49 rfl (lv_at hl 0 rfl) ?_
  refine cg_new (fs := [.null, .int (Int32.ofInt 0)]) F w cl_Br k_87 ki_Br kn_Br zz_Br (Nat.le_of_ble_eq_true rfl) (Nat.le_of_ble_eq_true rfl) d_Cm_init_50 (fun q9 H w => ?_)
  have w : cg_W D classes (va_A [(h0, .inr (4, [.null, .null, .int (Int32.ofInt 0), .int (Int32.ofInt 0), .int (Int32.ofInt 0)]))] sz) s.heap s (([] : List (ClassId × FieldType)) ++ sgt u2.2 0 sh_Gu ++ ([(cA5, .object "ChanceGame$Branch")] : List (ClassId × FieldType)) ++ sgt u7.2 0 sh_Br) (([(h0, .inr (4, [.ref (u2.1 0), .ref q4, .int (Int32.ofInt 0), .int (Int32.ofInt 0), .int (Int32.ofInt 0)]))] : va_W) ++ sgk u2.1 u2.2 0 sh_Gu ++ ([(q4, .inl (cA5, 4, .inr (.inr (.inr (.inr (va_up (fun _ => none) 0 (some ((u7.1 0)))))))))] : va_W) ++ sgk u7.1 u7.2 0 sh_Br ++ ([(q9, .inr (6, [.null, .int (Int32.ofInt 0)]))] : va_W)) H locs := w
  refine lv_dup F.1 F.2.1 d_Cm_init_53 rfl ?_
  refine cg_cvL (x := (q9, .inr (6, [.null, .int (Int32.ofInt 0)]))) w (cg_rIN (As := []) (rest := [.ref q9, .int (Int32.ofInt 1), .ref q4]) F (k_Br_init l D q9 H.size) e_Br_init rfl ki_Br_init k_90 (cg_preL w) rfl hl.1 rfl (Nat.le_of_ble_eq_true rfl) ⟨⟨rfl, rfl⟩, ⟨(Nat.le_of_ble_eq_true rfl), (Nat.le_of_ble_eq_true rfl)⟩, (Nat.le_of_ble_eq_true rfl), (Nat.le_of_ble_eq_true rfl)⟩ d_Cm_init_54) (fun u10 H9 locs9 hu11 w9 => ?_)
  clear w
  subst hu11
  have w : cg_W D classes (va_A [(h0, .inr (4, [.null, .null, .int (Int32.ofInt 0), .int (Int32.ofInt 0), .int (Int32.ofInt 0)]))] sz) s.heap s (([] : List (ClassId × FieldType)) ++ sgt u2.2 0 sh_Gu ++ ([(cA5, .object "ChanceGame$Branch")] : List (ClassId × FieldType)) ++ sgt u7.2 0 sh_Br ++ sgt u10.2 0 sh_Br) (([(h0, .inr (4, [.ref (u2.1 0), .ref q4, .int (Int32.ofInt 0), .int (Int32.ofInt 0), .int (Int32.ofInt 0)]))] : va_W) ++ sgk u2.1 u2.2 0 sh_Gu ++ ([(q4, .inl (cA5, 4, .inr (.inr (.inr (.inr (va_up (fun _ => none) 0 (some ((u7.1 0)))))))))] : va_W) ++ sgk u7.1 u7.2 0 sh_Br ++ sgk u10.1 u10.2 0 sh_Br) H9 locs9 := w9
  clear w9
  generalize H9 = H at w ⊢
  generalize locs9 = locs at w ⊢
  refine cg_aast (ci := 6) F w 4 2 7 rfl rfl rfl rfl (cg_in9 (by decide)) d_Cm_init_57 (fun H locs w => ?_)
  have w : cg_W D classes (va_A [(h0, .inr (4, [.null, .null, .int (Int32.ofInt 0), .int (Int32.ofInt 0), .int (Int32.ofInt 0)]))] sz) s.heap s (([] : List (ClassId × FieldType)) ++ sgt u2.2 0 sh_Gu ++ ([(cA5, .object "ChanceGame$Branch")] : List (ClassId × FieldType)) ++ sgt u7.2 0 sh_Br ++ sgt u10.2 0 sh_Br) (([(h0, .inr (4, [.ref (u2.1 0), .ref q4, .int (Int32.ofInt 0), .int (Int32.ofInt 0), .int (Int32.ofInt 0)]))] : va_W) ++ sgk u2.1 u2.2 0 sh_Gu ++ ([(q4, .inl (cA5, 4, .inr (.inr (.inr (.inr (va_up (va_up (fun _ => none) 0 (some ((u7.1 0)))) 1 (some ((u10.1 0)))))))))] : va_W) ++ sgk u7.1 u7.2 0 sh_Br ++ sgk u10.1 u10.2 0 sh_Br) H locs := w
  refine fi_iinc (k := 0) (v := 2) F d_Cm_init_58 hl rfl rfl (by decide) rfl (fun ls hl => ?_)
  have hl : lv_has ls 2 [(1, .int (Int32.ofInt 2)), (0, .ref h0)] := hl
  refine lv_goto F.1 F.2.1 d_Cm_init_61 (tgt := 40) (by decide) ?_
  refine lv_iload_n F.1 F.2.1 d_Cm_init_40 rfl (lv_at hl 0 rfl) ?_
  refine lv_iconst (v := Int32.ofInt 4) F.1 F.2.1 d_Cm_init_41 (by decide) ?_
  refine fi_icmp_ge F d_Cm_init_42 (tgt := 64) (by decide) (rgl (by decide)) (rgl (by decide)) (fun hh => absurd hh (by decide)) (fun _ => ?_)
  refine lv_aload_n F.1 F.2.1 d_Cm_init_45 rfl (lv_at hl 1 rfl) ?_
  refine cg_get F w cl_Cm 0 1 rfl (by decide) k_109 rfl d_Cm_init_46 ?_
  show W p l e _ s m _ below meth c H locs _ _ _ (F0 m 49 ls [.ref q4])
  refine lv_iload_n F.1 F.2.1 d_Cm_init_49 rfl (lv_at hl 0 rfl) ?_
  refine cg_new (fs := [.null, .int (Int32.ofInt 0)]) F w cl_Br k_87 ki_Br kn_Br zz_Br (Nat.le_of_ble_eq_true rfl) (Nat.le_of_ble_eq_true rfl) d_Cm_init_50 (fun q12 H w => ?_)
  have w : cg_W D classes (va_A [(h0, .inr (4, [.null, .null, .int (Int32.ofInt 0), .int (Int32.ofInt 0), .int (Int32.ofInt 0)]))] sz) s.heap s (([] : List (ClassId × FieldType)) ++ sgt u2.2 0 sh_Gu ++ ([(cA5, .object "ChanceGame$Branch")] : List (ClassId × FieldType)) ++ sgt u7.2 0 sh_Br ++ sgt u10.2 0 sh_Br) (([(h0, .inr (4, [.ref (u2.1 0), .ref q4, .int (Int32.ofInt 0), .int (Int32.ofInt 0), .int (Int32.ofInt 0)]))] : va_W) ++ sgk u2.1 u2.2 0 sh_Gu ++ ([(q4, .inl (cA5, 4, .inr (.inr (.inr (.inr (va_up (va_up (fun _ => none) 0 (some ((u7.1 0)))) 1 (some ((u10.1 0)))))))))] : va_W) ++ sgk u7.1 u7.2 0 sh_Br ++ sgk u10.1 u10.2 0 sh_Br ++ ([(q12, .inr (6, [.null, .int (Int32.ofInt 0)]))] : va_W)) H locs := w
  refine lv_dup F.1 F.2.1 d_Cm_init_53 rfl ?_
  refine cg_cvL (x := (q12, .inr (6, [.null, .int (Int32.ofInt 0)]))) w (cg_rIN (As := []) (rest := [.ref q12, .int (Int32.ofInt 2), .ref q4]) F (k_Br_init l D q12 H.size) e_Br_init rfl ki_Br_init k_90 (cg_preL w) rfl hl.1 rfl (Nat.le_of_ble_eq_true rfl) ⟨⟨rfl, rfl⟩, ⟨(Nat.le_of_ble_eq_true rfl), (Nat.le_of_ble_eq_true rfl)⟩, (Nat.le_of_ble_eq_true rfl), (Nat.le_of_ble_eq_true rfl)⟩ d_Cm_init_54) (fun u13 H9 locs9 hu14 w9 => ?_)
  clear w
  subst hu14
  have w : cg_W D classes (va_A [(h0, .inr (4, [.null, .null, .int (Int32.ofInt 0), .int (Int32.ofInt 0), .int (Int32.ofInt 0)]))] sz) s.heap s (([] : List (ClassId × FieldType)) ++ sgt u2.2 0 sh_Gu ++ ([(cA5, .object "ChanceGame$Branch")] : List (ClassId × FieldType)) ++ sgt u7.2 0 sh_Br ++ sgt u10.2 0 sh_Br ++ sgt u13.2 0 sh_Br) (([(h0, .inr (4, [.ref (u2.1 0), .ref q4, .int (Int32.ofInt 0), .int (Int32.ofInt 0), .int (Int32.ofInt 0)]))] : va_W) ++ sgk u2.1 u2.2 0 sh_Gu ++ ([(q4, .inl (cA5, 4, .inr (.inr (.inr (.inr (va_up (va_up (fun _ => none) 0 (some ((u7.1 0)))) 1 (some ((u10.1 0)))))))))] : va_W) ++ sgk u7.1 u7.2 0 sh_Br ++ sgk u10.1 u10.2 0 sh_Br ++ sgk u13.1 u13.2 0 sh_Br) H9 locs9 := w9
  clear w9
  generalize H9 = H at w ⊢
  generalize locs9 = locs at w ⊢
  refine cg_aast (ci := 6) F w 4 2 9 rfl rfl rfl rfl (cg_in9 (by decide)) d_Cm_init_57 (fun H locs w => ?_)
  have w : cg_W D classes (va_A [(h0, .inr (4, [.null, .null, .int (Int32.ofInt 0), .int (Int32.ofInt 0), .int (Int32.ofInt 0)]))] sz) s.heap s (([] : List (ClassId × FieldType)) ++ sgt u2.2 0 sh_Gu ++ ([(cA5, .object "ChanceGame$Branch")] : List (ClassId × FieldType)) ++ sgt u7.2 0 sh_Br ++ sgt u10.2 0 sh_Br ++ sgt u13.2 0 sh_Br) (([(h0, .inr (4, [.ref (u2.1 0), .ref q4, .int (Int32.ofInt 0), .int (Int32.ofInt 0), .int (Int32.ofInt 0)]))] : va_W) ++ sgk u2.1 u2.2 0 sh_Gu ++ ([(q4, .inl (cA5, 4, .inr (.inr (.inr (.inr (va_up (va_up (va_up (fun _ => none) 0 (some ((u7.1 0)))) 1 (some ((u10.1 0)))) 2 (some ((u13.1 0)))))))))] : va_W) ++ sgk u7.1 u7.2 0 sh_Br ++ sgk u10.1 u10.2 0 sh_Br ++ sgk u13.1 u13.2 0 sh_Br) H locs := w
  refine fi_iinc (k := 0) (v := 3) F d_Cm_init_58 hl rfl rfl (by decide) rfl (fun ls hl => ?_)
  have hl : lv_has ls 2 [(1, .int (Int32.ofInt 3)), (0, .ref h0)] := hl
  refine lv_goto F.1 F.2.1 d_Cm_init_61 (tgt := 40) (by decide) ?_
  refine lv_iload_n F.1 F.2.1 d_Cm_init_40 rfl (lv_at hl 0 rfl) ?_
  refine lv_iconst (v := Int32.ofInt 4) F.1 F.2.1 d_Cm_init_41 (by decide) ?_
  refine fi_icmp_ge F d_Cm_init_42 (tgt := 64) (by decide) (rgl (by decide)) (rgl (by decide)) (fun hh => absurd hh (by decide)) (fun _ => ?_)
  refine lv_aload_n F.1 F.2.1 d_Cm_init_45 rfl (lv_at hl 1 rfl) ?_
  refine cg_get F w cl_Cm 0 1 rfl (by decide) k_109 rfl d_Cm_init_46 ?_
  show W p l e _ s m _ below meth c H locs _ _ _ (F0 m 49 ls [.ref q4])
  refine lv_iload_n F.1 F.2.1 d_Cm_init_49 rfl (lv_at hl 0 rfl) ?_
  refine cg_new (fs := [.null, .int (Int32.ofInt 0)]) F w cl_Br k_87 ki_Br kn_Br zz_Br (Nat.le_of_ble_eq_true rfl) (Nat.le_of_ble_eq_true rfl) d_Cm_init_50 (fun q15 H w => ?_)
  have w : cg_W D classes (va_A [(h0, .inr (4, [.null, .null, .int (Int32.ofInt 0), .int (Int32.ofInt 0), .int (Int32.ofInt 0)]))] sz) s.heap s (([] : List (ClassId × FieldType)) ++ sgt u2.2 0 sh_Gu ++ ([(cA5, .object "ChanceGame$Branch")] : List (ClassId × FieldType)) ++ sgt u7.2 0 sh_Br ++ sgt u10.2 0 sh_Br ++ sgt u13.2 0 sh_Br) (([(h0, .inr (4, [.ref (u2.1 0), .ref q4, .int (Int32.ofInt 0), .int (Int32.ofInt 0), .int (Int32.ofInt 0)]))] : va_W) ++ sgk u2.1 u2.2 0 sh_Gu ++ ([(q4, .inl (cA5, 4, .inr (.inr (.inr (.inr (va_up (va_up (va_up (fun _ => none) 0 (some ((u7.1 0)))) 1 (some ((u10.1 0)))) 2 (some ((u13.1 0)))))))))] : va_W) ++ sgk u7.1 u7.2 0 sh_Br ++ sgk u10.1 u10.2 0 sh_Br ++ sgk u13.1 u13.2 0 sh_Br ++ ([(q15, .inr (6, [.null, .int (Int32.ofInt 0)]))] : va_W)) H locs := w
  refine lv_dup F.1 F.2.1 d_Cm_init_53 rfl ?_
  refine cg_cvL (x := (q15, .inr (6, [.null, .int (Int32.ofInt 0)]))) w (cg_rIN (As := []) (rest := [.ref q15, .int (Int32.ofInt 3), .ref q4]) F (k_Br_init l D q15 H.size) e_Br_init rfl ki_Br_init k_90 (cg_preL w) rfl hl.1 rfl (Nat.le_of_ble_eq_true rfl) ⟨⟨rfl, rfl⟩, ⟨(Nat.le_of_ble_eq_true rfl), (Nat.le_of_ble_eq_true rfl)⟩, (Nat.le_of_ble_eq_true rfl), (Nat.le_of_ble_eq_true rfl)⟩ d_Cm_init_54) (fun u16 H9 locs9 hu17 w9 => ?_)
  clear w
  subst hu17
  have w : cg_W D classes (va_A [(h0, .inr (4, [.null, .null, .int (Int32.ofInt 0), .int (Int32.ofInt 0), .int (Int32.ofInt 0)]))] sz) s.heap s (([] : List (ClassId × FieldType)) ++ sgt u2.2 0 sh_Gu ++ ([(cA5, .object "ChanceGame$Branch")] : List (ClassId × FieldType)) ++ sgt u7.2 0 sh_Br ++ sgt u10.2 0 sh_Br ++ sgt u13.2 0 sh_Br ++ sgt u16.2 0 sh_Br) (([(h0, .inr (4, [.ref (u2.1 0), .ref q4, .int (Int32.ofInt 0), .int (Int32.ofInt 0), .int (Int32.ofInt 0)]))] : va_W) ++ sgk u2.1 u2.2 0 sh_Gu ++ ([(q4, .inl (cA5, 4, .inr (.inr (.inr (.inr (va_up (va_up (va_up (fun _ => none) 0 (some ((u7.1 0)))) 1 (some ((u10.1 0)))) 2 (some ((u13.1 0)))))))))] : va_W) ++ sgk u7.1 u7.2 0 sh_Br ++ sgk u10.1 u10.2 0 sh_Br ++ sgk u13.1 u13.2 0 sh_Br ++ sgk u16.1 u16.2 0 sh_Br) H9 locs9 := w9
  clear w9
  generalize H9 = H at w ⊢
  generalize locs9 = locs at w ⊢
  refine cg_aast (ci := 6) F w 4 2 11 rfl rfl rfl rfl (cg_in9 (by decide)) d_Cm_init_57 (fun H locs w => ?_)
  have w : cg_W D classes (va_A [(h0, .inr (4, [.null, .null, .int (Int32.ofInt 0), .int (Int32.ofInt 0), .int (Int32.ofInt 0)]))] sz) s.heap s (([] : List (ClassId × FieldType)) ++ sgt u2.2 0 sh_Gu ++ ([(cA5, .object "ChanceGame$Branch")] : List (ClassId × FieldType)) ++ sgt u7.2 0 sh_Br ++ sgt u10.2 0 sh_Br ++ sgt u13.2 0 sh_Br ++ sgt u16.2 0 sh_Br) (([(h0, .inr (4, [.ref (u2.1 0), .ref q4, .int (Int32.ofInt 0), .int (Int32.ofInt 0), .int (Int32.ofInt 0)]))] : va_W) ++ sgk u2.1 u2.2 0 sh_Gu ++ ([(q4, .inl (cA5, 4, .inr (.inr (.inr (.inr (va_up (va_up (va_up (va_up (fun _ => none) 0 (some ((u7.1 0)))) 1 (some ((u10.1 0)))) 2 (some ((u13.1 0)))) 3 (some ((u16.1 0)))))))))] : va_W) ++ sgk u7.1 u7.2 0 sh_Br ++ sgk u10.1 u10.2 0 sh_Br ++ sgk u13.1 u13.2 0 sh_Br ++ sgk u16.1 u16.2 0 sh_Br) H locs := w
  refine fi_iinc (k := 0) (v := 4) F d_Cm_init_58 hl rfl rfl (by decide) rfl (fun ls hl => ?_)
  have hl : lv_has ls 2 [(1, .int (Int32.ofInt 4)), (0, .ref h0)] := hl
  refine lv_goto F.1 F.2.1 d_Cm_init_61 (tgt := 40) (by decide) ?_
  refine lv_iload_n F.1 F.2.1 d_Cm_init_40 rfl (lv_at hl 0 rfl) ?_
  refine lv_iconst (v := Int32.ofInt 4) F.1 F.2.1 d_Cm_init_41 (by decide) ?_
  refine fi_icmp_ge F d_Cm_init_42 (tgt := 64) (by decide) (rgl (by decide)) (rgl (by decide)) (fun _ => ?_) (fun hh => absurd hh (by decide))
  refine cg_vretL F w hr hlk (cmb 0 [(1, fun _ => h0), (3, u2.1), (1, fun _ => q4), (2, u7.1), (2, u10.1), (2, u13.1), (2, u16.1)], cmb 0 [(1, fun _ => 0), (3, u2.2), (1, fun _ => cA5), (2, u7.2), (2, u10.2), (2, u13.2), (2, u16.2)]) rfl ?_ ?_ (Nat.le_of_ble_eq_true rfl) (Nat.le_of_ble_eq_true rfl) d_Cm_init_64
  · show ([(h0, .inr (4, [.ref (u2.1 0), .ref q4, .int (Int32.ofInt 0), .int (Int32.ofInt 0), .int (Int32.ofInt 0)]))] : va_W) ++ sgk u2.1 u2.2 0 sh_Gu ++ ([(q4, .inl (cA5, 4, .inr (.inr (.inr (.inr (va_up (va_up (va_up (va_up (fun _ => none) 0 (some ((u7.1 0)))) 1 (some ((u10.1 0)))) 2 (some ((u13.1 0)))) 3 (some ((u16.1 0)))))))))] : va_W) ++ sgk u7.1 u7.2 0 sh_Br ++ sgk u10.1 u10.2 0 sh_Br ++ sgk u13.1 u13.2 0 sh_Br ++ sgk u16.1 u16.2 0 sh_Br = sgk (cmb 0 [(1, fun _ => h0), (3, u2.1), (1, fun _ => q4), (2, u7.1), (2, u10.1), (2, u13.1), (2, u16.1)]) (cmb 0 [(1, fun _ => 0), (3, u2.2), (1, fun _ => cA5), (2, u7.2), (2, u10.2), (2, u13.2), (2, u16.2)]) 0 (([(.inl (4, [4, 7, 0, 0, 0]), [0, 0, 0, 0, 0])] : sh_T) ++ sh_Gu ++ ([(.inr (7, 4), [])] : sh_T) ++ sh_Br ++ sh_Br ++ sh_Br ++ sh_Br)
    rw [sgk_app, sgk_app, sgk_app, sgk_app, sgk_app, sgk_app]
    refine app_congr (app_congr (app_congr (app_congr (app_congr (app_congr ?_ ?_) ?_) ?_) ?_) ?_) ?_
    · rfl
    · exact sgk_in (l1 := [(1, fun _ => h0)]) (l2 := [(1, fun _ => q4), (2, u7.1), (2, u10.1), (2, u13.1), (2, u16.1)]) (c1 := [(1, fun _ => 0)]) (c2 := [(1, fun _ => cA5), (2, u7.2), (2, u10.2), (2, u13.2), (2, u16.2)]) rfl len_Gu ok_Gu
    · refine congrArg (fun f => [(q4, Sum.inl (cA5, 4, Sum.inr (Sum.inr (Sum.inr (Sum.inr f)))))]) (ra_eq (g := fun j => (cmb 0 [(1, fun _ => h0), (3, u2.1), (1, fun _ => q4), (2, u7.1), (2, u10.1), (2, u13.1), (2, u16.1)]) (fm_el 4 7 j)) (fun j hj => ?_) (fun j hj => ?_))
      · rcases (show j = 0 ∨ j = 1 ∨ j = 2 ∨ j = 3 by omega) with rfl | rfl | rfl | rfl
        · rfl
        · rfl
        · rfl
        · rfl
      · simp only [va_up]
        rw [if_neg (by omega), if_neg (by omega), if_neg (by omega), if_neg (by omega)]
    · exact sgk_in (l1 := [(1, fun _ => h0), (3, u2.1), (1, fun _ => q4)]) (l2 := [(2, u10.1), (2, u13.1), (2, u16.1)]) (c1 := [(1, fun _ => 0), (3, u2.2), (1, fun _ => cA5)]) (c2 := [(2, u10.2), (2, u13.2), (2, u16.2)]) rfl len_Br ok_Br
    · exact sgk_in (l1 := [(1, fun _ => h0), (3, u2.1), (1, fun _ => q4), (2, u7.1)]) (l2 := [(2, u13.1), (2, u16.1)]) (c1 := [(1, fun _ => 0), (3, u2.2), (1, fun _ => cA5), (2, u7.2)]) (c2 := [(2, u13.2), (2, u16.2)]) rfl len_Br ok_Br
    · exact sgk_in (l1 := [(1, fun _ => h0), (3, u2.1), (1, fun _ => q4), (2, u7.1), (2, u10.1)]) (l2 := [(2, u16.1)]) (c1 := [(1, fun _ => 0), (3, u2.2), (1, fun _ => cA5), (2, u7.2), (2, u10.2)]) (c2 := [(2, u16.2)]) rfl len_Br ok_Br
    · exact sgk_in (l1 := [(1, fun _ => h0), (3, u2.1), (1, fun _ => q4), (2, u7.1), (2, u10.1), (2, u13.1)]) (l2 := []) (c1 := [(1, fun _ => 0), (3, u2.2), (1, fun _ => cA5), (2, u7.2), (2, u10.2), (2, u13.2)]) (c2 := []) rfl len_Br ok_Br
  · show ([] : List (ClassId × FieldType)) ++ sgt u2.2 0 sh_Gu ++ ([(cA5, .object "ChanceGame$Branch")] : List (ClassId × FieldType)) ++ sgt u7.2 0 sh_Br ++ sgt u10.2 0 sh_Br ++ sgt u13.2 0 sh_Br ++ sgt u16.2 0 sh_Br = sgt (cmb 0 [(1, fun _ => 0), (3, u2.2), (1, fun _ => cA5), (2, u7.2), (2, u10.2), (2, u13.2), (2, u16.2)]) 0 (([(.inl (4, [4, 7, 0, 0, 0]), [0, 0, 0, 0, 0])] : sh_T) ++ sh_Gu ++ ([(.inr (7, 4), [])] : sh_T) ++ sh_Br ++ sh_Br ++ sh_Br ++ sh_Br)
    rw [sgt_app, sgt_app, sgt_app, sgt_app, sgt_app, sgt_app]
    refine app_congr (app_congr (app_congr (app_congr (app_congr (app_congr ?_ ?_) ?_) ?_) ?_) ?_) ?_
    · rfl
    · exact sgt_in (c1 := [(1, fun _ => 0)]) (c2 := [(1, fun _ => cA5), (2, u7.2), (2, u10.2), (2, u13.2), (2, u16.2)]) len_Gu
    · rfl
    · exact sgt_in (c1 := [(1, fun _ => 0), (3, u2.2), (1, fun _ => cA5)]) (c2 := [(2, u10.2), (2, u13.2), (2, u16.2)]) len_Br
    · exact sgt_in (c1 := [(1, fun _ => 0), (3, u2.2), (1, fun _ => cA5), (2, u7.2)]) (c2 := [(2, u13.2), (2, u16.2)]) len_Br
    · exact sgt_in (c1 := [(1, fun _ => 0), (3, u2.2), (1, fun _ => cA5), (2, u7.2), (2, u10.2)]) (c2 := [(2, u16.2)]) len_Br
    · exact sgt_in (c1 := [(1, fun _ => 0), (3, u2.2), (1, fun _ => cA5), (2, u7.2), (2, u10.2), (2, u13.2)]) (c2 := []) len_Br
