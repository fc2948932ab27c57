def sh_CG : sh_T := ([(.inl (0, [4, 5, 144, 145, 329, 0, 0]), [0, 0, 0, 0, 0, 0, 0])] : sh_T) ++ sh_Rd ++ sh_Va ++ sh_Go
theorem ok_CG : sh_ok 331 0 sh_CG = true := by decide +kernel
theorem len_CG : sh_CG.length = 331 := by decide +kernel
set_option maxHeartbeats 40000000 in
set_option maxRecDepth 100000 in
theorem k_CG_init (l : Launch) (D : va_G) (h0 sz : Nat) : Met l y_CG_init (Cond.code y_CG_init b_CG_init 1 none :: tb) { frames := 6, cells := 330, slots := 2692, locals := 114 } (va_Pc [.ref h0] (cg_Pre D classes sz [(h0, .inr (0, [.null, .null, .null, .null, .null, .int (Int32.ofInt 0), .int (Int32.ofInt 0)]))] [])) (va_Qv (fun u : (Nat → Nat) × (Nat → ClassId) => u.1 0 = h0) (fun (u : (Nat → Nat) × (Nat → ClassId)) (t : State) => cg_B D classes (va_A [(h0, .inr (0, [.null, .null, .null, .null, .null, .int (Int32.ofInt 0), .int (Int32.ofInt 0)]))] sz) (sgk u.1 u.2 0 sh_CG) (sgt u.2 0 sh_CG) t) (va_A [(h0, .inr (0, [.null, .null, .null, .null, .null, .int (Int32.ofInt 0), .int (Int32.ofInt 0)]))] sz)) 330 2692 (va_A [(h0, .inr (0, [.null, .null, .null, .null, .null, .int (Int32.ofInt 0), .int (Int32.ofInt 0)]))] sz) := by
  refine cg_met (by decide) (Nat.le_of_ble_eq_true rfl) (fun p e s m below meth c ls F w hr hlk hnm hl => ?_)
  have w : cg_W D classes (va_A [(h0, .inr (0, [.null, .null, .null, .null, .null, .int (Int32.ofInt 0), .int (Int32.ofInt 0)]))] sz) s.heap s [] [(h0, .inr (0, [.null, .null, .null, .null, .null, .int (Int32.ofInt 0), .int (Int32.ofInt 0)]))] s.heap [] := w
  have hl : lv_has ls 1 [(0, .ref h0)] := hl
  refine lv_aload_n F.1 F.2.1 d_CG_init_0 rfl (lv_at hl 0 rfl) ?_
  refine cg_obj F k_27 ko_i ko_c hl.1 d_CG_init_1 (Nat.le_of_ble_eq_true rfl) (Nat.le_of_ble_eq_true rfl) ?_
  refine lv_aload_n F.1 F.2.1 d_CG_init_4 rfl (lv_at hl 0 rfl) ?_
  refine cg_new (fs := [.null, .null, .int (Int32.ofInt 0), .int (Int32.ofInt 0)]) F w cl_Rd k_30 ki_Rd kn_Rd zz_Rd (Nat.le_of_ble_eq_true rfl) (Nat.le_of_ble_eq_true rfl) d_CG_init_5 (fun q1 H w => ?_)
  have w : cg_W D classes (va_A [(h0, .inr (0, [.null, .null, .null, .null, .null, .int (Int32.ofInt 0), .int (Int32.ofInt 0)]))] sz) s.heap s (([] : List (ClassId × FieldType))) (([(h0, .inr (0, [.null, .null, .null, .null, .null, .int (Int32.ofInt 0), .int (Int32.ofInt 0)]))] : va_W) ++ ([(q1, .inr (1, [.null, .null, .int (Int32.ofInt 0), .int (Int32.ofInt 0)]))] : va_W)) H [] := w
  refine lv_dup F.1 F.2.1 d_CG_init_8 rfl ?_
  refine cg_cvL (x := (q1, .inr (1, [.null, .null, .int (Int32.ofInt 0), .int (Int32.ofInt 0)]))) w (cg_rIN (As := []) (rest := [.ref q1, .ref h0]) F (k_Rd_init l D q1 H.size) e_Rd_init rfl ki_Rd_init k_32 (cg_preL w) rfl hl.1 rfl (Nat.le_of_ble_eq_true rfl) ⟨⟨rfl, rfl⟩, ⟨(Nat.le_of_ble_eq_true rfl), (Nat.le_of_ble_eq_true rfl)⟩, (Nat.le_of_ble_eq_true rfl), (Nat.le_of_ble_eq_true rfl)⟩ d_CG_init_9) (fun u2 H9 locs9 hu3 w9 => ?_)
  clear w
  subst hu3
  have w : cg_W D classes (va_A [(h0, .inr (0, [.null, .null, .null, .null, .null, .int (Int32.ofInt 0), .int (Int32.ofInt 0)]))] sz) s.heap s (([] : List (ClassId × FieldType)) ++ sgt u2.2 0 sh_Rd) (([(h0, .inr (0, [.null, .null, .null, .null, .null, .int (Int32.ofInt 0), .int (Int32.ofInt 0)]))] : va_W) ++ sgk u2.1 u2.2 0 sh_Rd) H9 locs9 := w9
  clear w9
  generalize H9 = H at w ⊢
  generalize locs9 = locs at w ⊢
  refine cg_putF F w cl_CG 0 0 rfl (by decide) k_327 rfl hnm rfl (by rfl) (by rfl) (Nat.le_of_ble_eq_true rfl) d_CG_init_12 (fun H locs w => ?_)
  have w : cg_W D classes (va_A [(h0, .inr (0, [.null, .null, .null, .null, .null, .int (Int32.ofInt 0), .int (Int32.ofInt 0)]))] sz) s.heap s (([] : List (ClassId × FieldType)) ++ sgt u2.2 0 sh_Rd) (([(h0, .inr (0, [.ref (u2.1 0), .null, .null, .null, .null, .int (Int32.ofInt 0), .int (Int32.ofInt 0)]))] : va_W) ++ sgk u2.1 u2.2 0 sh_Rd) H locs := w
  refine lv_aload_n F.1 F.2.1 d_CG_init_15 rfl (lv_at hl 0 rfl) ?_
  refine lv_aload_n F.1 F.2.1 d_CG_init_16 rfl (lv_at hl 0 rfl) ?_
  refine cg_get F w cl_CG 0 0 rfl (by decide) k_327 rfl d_CG_init_17 ?_
  show W p l e _ s m _ below meth c H locs _ _ _ (F0 m 20 ls [.ref (u2.1 0), .ref h0])
  refine cg_get F w cl_Rd 1 0 rfl (by decide) k_168 rfl d_CG_init_20 ?_
  show W p l e _ s m _ below meth c H locs _ _ _ (F0 m 23 ls [.ref (u2.1 1), .ref h0])
  refine cg_putF F w cl_CG 0 1 rfl (by decide) k_328 rfl hnm rfl (by rfl) (by rfl) (Nat.le_of_ble_eq_true rfl) d_CG_init_23 (fun H locs w => ?_)
  have w : cg_W D classes (va_A [(h0, .inr (0, [.null, .null, .null, .null, .null, .int (Int32.ofInt 0), .int (Int32.ofInt 0)]))] sz) s.heap s (([] : List (ClassId × FieldType)) ++ sgt u2.2 0 sh_Rd) (([(h0, .inr (0, [.ref (u2.1 0), .ref (u2.1 1), .null, .null, .null, .int (Int32.ofInt 0), .int (Int32.ofInt 0)]))] : va_W) ++ sgk u2.1 u2.2 0 sh_Rd) H locs := w
  refine lv_aload_n F.1 F.2.1 d_CG_init_26 rfl (lv_at hl 0 rfl) ?_
  refine cg_new (fs := [.null, .null, .null, .null, .int (Int32.ofInt 0), .null, .null]) F w cl_Va k_182 ki_Va kn_Va zz_Va (Nat.le_of_ble_eq_true rfl) (Nat.le_of_ble_eq_true rfl) d_CG_init_27 (fun q4 H w => ?_)
  have w : cg_W D classes (va_A [(h0, .inr (0, [.null, .null, .null, .null, .null, .int (Int32.ofInt 0), .int (Int32.ofInt 0)]))] sz) s.heap s (([] : List (ClassId × FieldType)) ++ sgt u2.2 0 sh_Rd) (([(h0, .inr (0, [.ref (u2.1 0), .ref (u2.1 1), .null, .null, .null, .int (Int32.ofInt 0), .int (Int32.ofInt 0)]))] : va_W) ++ sgk u2.1 u2.2 0 sh_Rd ++ ([(q4, .inr (7, [.null, .null, .null, .null, .int (Int32.ofInt 0), .null, .null]))] : va_W)) H locs := w
  refine lv_dup F.1 F.2.1 d_CG_init_30 rfl ?_
  refine cg_cvL (x := (q4, .inr (7, [.null, .null, .null, .null, .int (Int32.ofInt 0), .null, .null]))) w (cg_rIN (As := []) (rest := [.ref q4, .ref h0]) F (k_Va_init l D q4 H.size) e_Va_init rfl ki_Va_init k_184 (cg_preL w) rfl hl.1 rfl (Nat.le_of_ble_eq_true rfl) ⟨⟨rfl, rfl⟩, ⟨(Nat.le_of_ble_eq_true rfl), (Nat.le_of_ble_eq_true rfl)⟩, (Nat.le_of_ble_eq_true rfl), (Nat.le_of_ble_eq_true rfl)⟩ d_CG_init_31) (fun u5 H9 locs9 hu6 w9 => ?_)
  clear w
  subst hu6
  have w : cg_W D classes (va_A [(h0, .inr (0, [.null, .null, .null, .null, .null, .int (Int32.ofInt 0), .int (Int32.ofInt 0)]))] sz) s.heap s (([] : List (ClassId × FieldType)) ++ sgt u2.2 0 sh_Rd ++ sgt u5.2 0 sh_Va) (([(h0, .inr (0, [.ref (u2.1 0), .ref (u2.1 1), .null, .null, .null, .int (Int32.ofInt 0), .int (Int32.ofInt 0)]))] : va_W) ++ sgk u2.1 u2.2 0 sh_Rd ++ sgk u5.1 u5.2 0 sh_Va) H9 locs9 := w9
  clear w9
  generalize H9 = H at w ⊢
  generalize locs9 = locs at w ⊢
  refine cg_putF F w cl_CG 0 2 rfl (by decide) k_329 rfl hnm rfl (by rfl) (by rfl) (Nat.le_of_ble_eq_true rfl) d_CG_init_34 (fun H locs w => ?_)
  have w : cg_W D classes (va_A [(h0, .inr (0, [.null, .null, .null, .null, .null, .int (Int32.ofInt 0), .int (Int32.ofInt 0)]))] sz) s.heap s (([] : List (ClassId × FieldType)) ++ sgt u2.2 0 sh_Rd ++ sgt u5.2 0 sh_Va) (([(h0, .inr (0, [.ref (u2.1 0), .ref (u2.1 1), .ref (u5.1 0), .null, .null, .int (Int32.ofInt 0), .int (Int32.ofInt 0)]))] : va_W) ++ sgk u2.1 u2.2 0 sh_Rd ++ sgk u5.1 u5.2 0 sh_Va) H locs := w
  refine lv_aload_n F.1 F.2.1 d_CG_init_37 rfl (lv_at hl 0 rfl) ?_
  refine lv_aload_n F.1 F.2.1 d_CG_init_38 rfl (lv_at hl 0 rfl) ?_
  refine cg_get F w cl_CG 0 2 rfl (by decide) k_329 rfl d_CG_init_39 ?_
  show W p l e _ s m _ below meth c H locs _ _ _ (F0 m 42 ls [.ref (u5.1 0), .ref h0])
  refine cg_get F w cl_Va 141 0 rfl (by decide) k_286 rfl d_CG_init_42 ?_
  show W p l e _ s m _ below meth c H locs _ _ _ (F0 m 45 ls [.ref (u5.1 1), .ref h0])
  refine cg_putF F w cl_CG 0 3 rfl (by decide) k_330 rfl hnm rfl (by rfl) (by rfl) (Nat.le_of_ble_eq_true rfl) d_CG_init_45 (fun H locs w => ?_)
  have w : cg_W D classes (va_A [(h0, .inr (0, [.null, .null, .null, .null, .null, .int (Int32.ofInt 0), .int (Int32.ofInt 0)]))] sz) s.heap s (([] : List (ClassId × FieldType)) ++ sgt u2.2 0 sh_Rd ++ sgt u5.2 0 sh_Va) (([(h0, .inr (0, [.ref (u2.1 0), .ref (u2.1 1), .ref (u5.1 0), .ref (u5.1 1), .null, .int (Int32.ofInt 0), .int (Int32.ofInt 0)]))] : va_W) ++ sgk u2.1 u2.2 0 sh_Rd ++ sgk u5.1 u5.2 0 sh_Va) H locs := w
  refine lv_aload_n F.1 F.2.1 d_CG_init_48 rfl (lv_at hl 0 rfl) ?_
  refine cg_new (fs := [.null, .null]) F w cl_Go k_311 ki_Go kn_Go zz_Go (Nat.le_of_ble_eq_true rfl) (Nat.le_of_ble_eq_true rfl) d_CG_init_49 (fun q7 H w => ?_)
  have w : cg_W D classes (va_A [(h0, .inr (0, [.null, .null, .null, .null, .null, .int (Int32.ofInt 0), .int (Int32.ofInt 0)]))] sz) s.heap s (([] : List (ClassId × FieldType)) ++ sgt u2.2 0 sh_Rd ++ sgt u5.2 0 sh_Va) (([(h0, .inr (0, [.ref (u2.1 0), .ref (u2.1 1), .ref (u5.1 0), .ref (u5.1 1), .null, .int (Int32.ofInt 0), .int (Int32.ofInt 0)]))] : va_W) ++ sgk u2.1 u2.2 0 sh_Rd ++ sgk u5.1 u5.2 0 sh_Va ++ ([(q7, .inr (11, [.null, .null]))] : va_W)) H locs := w
  refine lv_dup F.1 F.2.1 d_CG_init_52 rfl ?_
  refine cg_cvL (x := (q7, .inr (11, [.null, .null]))) w (cg_rIN (As := []) (rest := [.ref q7, .ref h0]) F (k_Go_init l D q7 H.size) e_Go_init rfl ki_Go_init k_313 (cg_preL w) rfl hl.1 rfl (Nat.le_of_ble_eq_true rfl) ⟨⟨rfl, rfl⟩, ⟨(Nat.le_of_ble_eq_true rfl), (Nat.le_of_ble_eq_true rfl)⟩, (Nat.le_of_ble_eq_true rfl), (Nat.le_of_ble_eq_true rfl)⟩ d_CG_init_53) (fun u8 H9 locs9 hu9 w9 => ?_)
  clear w
  subst hu9
  have w : cg_W D classes (va_A [(h0, .inr (0, [.null, .null, .null, .null, .null, .int (Int32.ofInt 0), .int (Int32.ofInt 0)]))] sz) s.heap s (([] : List (ClassId × FieldType)) ++ sgt u2.2 0 sh_Rd ++ sgt u5.2 0 sh_Va ++ sgt u8.2 0 sh_Go) (([(h0, .inr (0, [.ref (u2.1 0), .ref (u2.1 1), .ref (u5.1 0), .ref (u5.1 1), .null, .int (Int32.ofInt 0), .int (Int32.ofInt 0)]))] : va_W) ++ sgk u2.1 u2.2 0 sh_Rd ++ sgk u5.1 u5.2 0 sh_Va ++ sgk u8.1 u8.2 0 sh_Go) H9 locs9 := w9
  clear w9
  generalize H9 = H at w ⊢
  generalize locs9 = locs at w ⊢
  refine cg_putF F w cl_CG 0 4 rfl (by decide) k_331 rfl hnm rfl (by rfl) (by rfl) (Nat.le_of_ble_eq_true rfl) d_CG_init_56 (fun H locs w => ?_)
  have w : cg_W D classes (va_A [(h0, .inr (0, [.null, .null, .null, .null, .null, .int (Int32.ofInt 0), .int (Int32.ofInt 0)]))] sz) s.heap s (([] : List (ClassId × FieldType)) ++ sgt u2.2 0 sh_Rd ++ sgt u5.2 0 sh_Va ++ sgt u8.2 0 sh_Go) (([(h0, .inr (0, [.ref (u2.1 0), .ref (u2.1 1), .ref (u5.1 0), .ref (u5.1 1), .ref (u8.1 0), .int (Int32.ofInt 0), .int (Int32.ofInt 0)]))] : va_W) ++ sgk u2.1 u2.2 0 sh_Rd ++ sgk u5.1 u5.2 0 sh_Va ++ sgk u8.1 u8.2 0 sh_Go) H locs := w
  refine lv_aload_n F.1 F.2.1 d_CG_init_59 rfl (lv_at hl 0 rfl) ?_
  refine lv_iconst (v := Int32.ofInt 0) F.1 F.2.1 d_CG_init_60 (by decide) ?_
  refine cg_put F w cl_CG 0 5 rfl (by decide) k_332 rfl (by rfl) (by rfl) (Nat.le_of_ble_eq_true rfl) d_CG_init_61 (fun H locs w => ?_)
  have w : cg_W D classes (va_A [(h0, .inr (0, [.null, .null, .null, .null, .null, .int (Int32.ofInt 0), .int (Int32.ofInt 0)]))] sz) s.heap s (([] : List (ClassId × FieldType)) ++ sgt u2.2 0 sh_Rd ++ sgt u5.2 0 sh_Va ++ sgt u8.2 0 sh_Go) (([(h0, .inr (0, [.ref (u2.1 0), .ref (u2.1 1), .ref (u5.1 0), .ref (u5.1 1), .ref (u8.1 0), .int (Int32.ofInt 0), .int (Int32.ofInt 0)]))] : va_W) ++ sgk u2.1 u2.2 0 sh_Rd ++ sgk u5.1 u5.2 0 sh_Va ++ sgk u8.1 u8.2 0 sh_Go) H locs := w
  refine lv_aload_n F.1 F.2.1 d_CG_init_64 rfl (lv_at hl 0 rfl) ?_
  refine lv_iconst (v := Int32.ofInt 0) F.1 F.2.1 d_CG_init_65 (by decide) ?_
  refine cg_put F w cl_CG 0 6 rfl (by decide) k_333 rfl (by rfl) (by rfl) (Nat.le_of_ble_eq_true rfl) d_CG_init_66 (fun H locs w => ?_)
  have w : cg_W D classes (va_A [(h0, .inr (0, [.null, .null, .null, .null, .null, .int (Int32.ofInt 0), .int (Int32.ofInt 0)]))] sz) s.heap s (([] : List (ClassId × FieldType)) ++ sgt u2.2 0 sh_Rd ++ sgt u5.2 0 sh_Va ++ sgt u8.2 0 sh_Go) (([(h0, .inr (0, [.ref (u2.1 0), .ref (u2.1 1), .ref (u5.1 0), .ref (u5.1 1), .ref (u8.1 0), .int (Int32.ofInt 0), .int (Int32.ofInt 0)]))] : va_W) ++ sgk u2.1 u2.2 0 sh_Rd ++ sgk u5.1 u5.2 0 sh_Va ++ sgk u8.1 u8.2 0 sh_Go) H locs := w
  refine cg_vretL F w hr hlk (cmb 0 [(1, fun _ => h0), (140, u2.1), (185, u5.1), (5, u8.1)], cmb 0 [(1, fun _ => 0), (140, u2.2), (185, u5.2), (5, u8.2)]) rfl ?_ ?_ (Nat.le_of_ble_eq_true rfl) (Nat.le_of_ble_eq_true rfl) d_CG_init_69
  · show ([(h0, .inr (0, [.ref (u2.1 0), .ref (u2.1 1), .ref (u5.1 0), .ref (u5.1 1), .ref (u8.1 0), .int (Int32.ofInt 0), .int (Int32.ofInt 0)]))] : va_W) ++ sgk u2.1 u2.2 0 sh_Rd ++ sgk u5.1 u5.2 0 sh_Va ++ sgk u8.1 u8.2 0 sh_Go = sgk (cmb 0 [(1, fun _ => h0), (140, u2.1), (185, u5.1), (5, u8.1)]) (cmb 0 [(1, fun _ => 0), (140, u2.2), (185, u5.2), (5, u8.2)]) 0 (([(.inl (0, [4, 5, 144, 145, 329, 0, 0]), [0, 0, 0, 0, 0, 0, 0])] : sh_T) ++ sh_Rd ++ sh_Va ++ sh_Go)
    rw [sgk_app, sgk_app, sgk_app]
    refine app_congr (app_congr (app_congr ?_ ?_) ?_) ?_
    · rfl
    · exact sgk_in (l1 := [(1, fun _ => h0)]) (l2 := [(185, u5.1), (5, u8.1)]) (c1 := [(1, fun _ => 0)]) (c2 := [(185, u5.2), (5, u8.2)]) rfl len_Rd ok_Rd
    · exact sgk_in (l1 := [(1, fun _ => h0), (140, u2.1)]) (l2 := [(5, u8.1)]) (c1 := [(1, fun _ => 0), (140, u2.2)]) (c2 := [(5, u8.2)]) rfl len_Va ok_Va
    · exact sgk_in (l1 := [(1, fun _ => h0), (140, u2.1), (185, u5.1)]) (l2 := []) (c1 := [(1, fun _ => 0), (140, u2.2), (185, u5.2)]) (c2 := []) rfl len_Go ok_Go
  · show ([] : List (ClassId × FieldType)) ++ sgt u2.2 0 sh_Rd ++ sgt u5.2 0 sh_Va ++ sgt u8.2 0 sh_Go = sgt (cmb 0 [(1, fun _ => 0), (140, u2.2), (185, u5.2), (5, u8.2)]) 0 (([(.inl (0, [4, 5, 144, 145, 329, 0, 0]), [0, 0, 0, 0, 0, 0, 0])] : sh_T) ++ sh_Rd ++ sh_Va ++ sh_Go)
    rw [sgt_app, sgt_app, sgt_app]
    refine app_congr (app_congr (app_congr ?_ ?_) ?_) ?_
    · rfl
    · exact sgt_in (c1 := [(1, fun _ => 0)]) (c2 := [(185, u5.2), (5, u8.2)]) len_Rd
    · exact sgt_in (c1 := [(1, fun _ => 0), (140, u2.2)]) (c2 := [(5, u8.2)]) len_Va
    · exact sgt_in (c1 := [(1, fun _ => 0), (140, u2.2), (185, u5.2)]) (c2 := []) len_Go
