def sh_Go : sh_T := ([(.inl (11, [4, 7]), [0, 0])] : sh_T) ++ sh_At ++ ([(.inr (0, 8), [])] : sh_T)
theorem ok_Go : sh_ok 5 0 sh_Go = true := by decide +kernel
theorem len_Go : sh_Go.length = 5 := by decide +kernel
set_option maxHeartbeats 40000000 in
set_option maxRecDepth 100000 in
theorem k_Go_init (l : Launch) (D : va_G) (h0 sz : Nat) : Met l y_Go_init (Cond.code y_Go_init b_Go_init 1 none :: tb) { frames := 2, cells := 4, slots := 26, locals := 32 } (va_Pc [.ref h0] (cg_Pre D classes sz [(h0, .inr (11, [.null, .null]))] [])) (va_Qv (fun u : (Nat → Nat) × (Nat → ClassId) => u.1 0 = h0) (fun (u : (Nat → Nat) × (Nat → ClassId)) (t : State) => cg_B D classes (va_A [(h0, .inr (11, [.null, .null]))] sz) (sgk u.1 u.2 0 sh_Go) (sgt u.2 0 sh_Go) t) (va_A [(h0, .inr (11, [.null, .null]))] sz)) 4 26 (va_A [(h0, .inr (11, [.null, .null]))] sz) := by
  refine cg_met (by decide) (Nat.le_of_ble_eq_true rfl) (fun p e s m below meth c ls F w hr hlk hnm hl => ?_)
  have w : cg_W D classes (va_A [(h0, .inr (11, [.null, .null]))] sz) s.heap s [] [(h0, .inr (11, [.null, .null]))] s.heap [] := w
  have hl : lv_has ls 1 [(0, .ref h0)] := hl
  refine lv_aload_n F.1 F.2.1 d_Go_init_0 rfl (lv_at hl 0 rfl) ?_
  refine cg_obj F k_316 ko_i ko_c hl.1 d_Go_init_1 (Nat.le_of_ble_eq_true rfl) (Nat.le_of_ble_eq_true rfl) ?_
  refine lv_aload_n F.1 F.2.1 d_Go_init_4 rfl (lv_at hl 0 rfl) ?_
  refine cg_new (fs := [.null, .null]) F w cl_At k_317 ki_At kn_At zz_At (Nat.le_of_ble_eq_true rfl) (Nat.le_of_ble_eq_true rfl) d_Go_init_5 (fun q1 H w => ?_)
  have w : cg_W D classes (va_A [(h0, .inr (11, [.null, .null]))] sz) s.heap s (([] : List (ClassId × FieldType))) (([(h0, .inr (11, [.null, .null]))] : va_W) ++ ([(q1, .inr (9, [.null, .null]))] : va_W)) H [] := w
  refine lv_dup F.1 F.2.1 d_Go_init_8 rfl ?_
  refine cg_cvL (x := (q1, .inr (9, [.null, .null]))) w (cg_rIN (As := []) (rest := [.ref q1, .ref h0]) F (k_At_init l D q1 H.size) e_At_init rfl ki_At_init k_318 (cg_preL w) rfl hl.1 rfl (Nat.le_of_ble_eq_true rfl) ⟨⟨rfl, rfl⟩, ⟨(Nat.le_of_ble_eq_true rfl), (Nat.le_of_ble_eq_true rfl)⟩, (Nat.le_of_ble_eq_true rfl), (Nat.le_of_ble_eq_true rfl)⟩ d_Go_init_9) (fun u2 H9 locs9 hu3 w9 => ?_)
  clear w
  subst hu3
  have w : cg_W D classes (va_A [(h0, .inr (11, [.null, .null]))] sz) s.heap s (([] : List (ClassId × FieldType)) ++ sgt u2.2 0 sh_At) (([(h0, .inr (11, [.null, .null]))] : va_W) ++ sgk u2.1 u2.2 0 sh_At) H9 locs9 := w9
  clear w9
  generalize H9 = H at w ⊢
  generalize locs9 = locs at w ⊢
  refine cg_putF F w cl_Go 0 0 rfl (by decide) k_319 rfl hnm rfl (by rfl) (by rfl) (Nat.le_of_ble_eq_true rfl) d_Go_init_12 (fun H locs w => ?_)
  have w : cg_W D classes (va_A [(h0, .inr (11, [.null, .null]))] sz) s.heap s (([] : List (ClassId × FieldType)) ++ sgt u2.2 0 sh_At) (([(h0, .inr (11, [.ref (u2.1 0), .null]))] : va_W) ++ sgk u2.1 u2.2 0 sh_At) H locs := w
  refine lv_aload_n F.1 F.2.1 d_Go_init_15 rfl (lv_at hl 0 rfl) ?_
  refine lv_bipush (v := Int32.ofInt 8) F.1 F.2.1 d_Go_init_16 (by decide) ?_
  refine cg_newa (atype := .int) (a0 := (8, .inl (fun j => Int32.ofInt (([] : List Int).getD j 0)))) F w (ft := .int) kA_int rfl (fun _ => rfl) (by decide) (by decide) (by decide) (Nat.le_of_ble_eq_true rfl) (Nat.le_of_ble_eq_true rfl) d_Go_init_18 (fun q4 cA5 H w => ?_)
  have w : cg_W D classes (va_A [(h0, .inr (11, [.null, .null]))] sz) s.heap s (([] : List (ClassId × FieldType)) ++ sgt u2.2 0 sh_At ++ ([(cA5, .int)] : List (ClassId × FieldType))) (([(h0, .inr (11, [.ref (u2.1 0), .null]))] : va_W) ++ sgk u2.1 u2.2 0 sh_At ++ ([(q4, .inl (cA5, 8, .inl (fun j => Int32.ofInt (([] : List Int).getD j 0))))] : va_W)) H locs := w
  refine cg_putF F w cl_Go 0 1 rfl (by decide) k_320 rfl hnm rfl (by rfl) (by rfl) (Nat.le_of_ble_eq_true rfl) d_Go_init_20 (fun H locs w => ?_)
  have w : cg_W D classes (va_A [(h0, .inr (11, [.null, .null]))] sz) s.heap s (([] : List (ClassId × FieldType)) ++ sgt u2.2 0 sh_At ++ ([(cA5, .int)] : List (ClassId × FieldType))) (([(h0, .inr (11, [.ref (u2.1 0), .ref q4]))] : va_W) ++ sgk u2.1 u2.2 0 sh_At ++ ([(q4, .inl (cA5, 8, .inl (fun j => Int32.ofInt (([] : List Int).getD j 0))))] : va_W)) H locs := w
  refine cg_vretL F w hr hlk (cmb 0 [(1, fun _ => h0), (3, u2.1), (1, fun _ => q4)], cmb 0 [(1, fun _ => 0), (3, u2.2), (1, fun _ => cA5)]) rfl ?_ ?_ (Nat.le_of_ble_eq_true rfl) (Nat.le_of_ble_eq_true rfl) d_Go_init_23
  · show ([(h0, .inr (11, [.ref (u2.1 0), .ref q4]))] : va_W) ++ sgk u2.1 u2.2 0 sh_At ++ ([(q4, .inl (cA5, 8, .inl (fun j => Int32.ofInt (([] : List Int).getD j 0))))] : va_W) = sgk (cmb 0 [(1, fun _ => h0), (3, u2.1), (1, fun _ => q4)]) (cmb 0 [(1, fun _ => 0), (3, u2.2), (1, fun _ => cA5)]) 0 (([(.inl (11, [4, 7]), [0, 0])] : sh_T) ++ sh_At ++ ([(.inr (0, 8), [])] : sh_T))
    rw [sgk_app, sgk_app]
    refine app_congr (app_congr ?_ ?_) ?_
    · rfl
    · exact sgk_in (l1 := [(1, fun _ => h0)]) (l2 := [(1, fun _ => q4)]) (c1 := [(1, fun _ => 0)]) (c2 := [(1, fun _ => cA5)]) rfl len_At ok_At
    · rfl
  · show ([] : List (ClassId × FieldType)) ++ sgt u2.2 0 sh_At ++ ([(cA5, .int)] : List (ClassId × FieldType)) = sgt (cmb 0 [(1, fun _ => 0), (3, u2.2), (1, fun _ => cA5)]) 0 (([(.inl (11, [4, 7]), [0, 0])] : sh_T) ++ sh_At ++ ([(.inr (0, 8), [])] : sh_T))
    rw [sgt_app, sgt_app]
    refine app_congr (app_congr ?_ ?_) ?_
    · rfl
    · exact sgt_in (c1 := [(1, fun _ => 0)]) (c2 := [(1, fun _ => cA5)]) len_At
    · rfl
