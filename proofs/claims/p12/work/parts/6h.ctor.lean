def sh_Eq : sh_T := ([(.inl (10, [4, 13, 1]), [0, 0, 1])] : sh_T) ++ sh_grid 5 3 8 9 ++ ([(.inr (3, 8), [])] : sh_T)
theorem ok_Eq : sh_ok 11 0 sh_Eq = true := by decide +kernel
theorem len_Eq : sh_Eq.length = 11 := by decide +kernel
set_option maxHeartbeats 40000000 in
set_option maxRecDepth 100000 in
theorem k_Eq_init (l : Launch) (D : va_G) (h0 sz : Nat) : Met l y_Eq_init (Cond.code y_Eq_init b_Eq_init 1 none :: tb) { frames := 1, cells := 10, slots := 88, locals := 12 } (va_Pc [.ref h0] (cg_Pre D classes sz [(h0, .inr (10, [.null, .null, .long (Int64.ofInt 0)]))] [])) (va_Qv (fun u : (Nat → Nat) × (Nat → ClassId) => u.1 0 = h0) (fun (u : (Nat → Nat) × (Nat → ClassId)) (t : State) => cg_B D classes (va_A [(h0, .inr (10, [.null, .null, .long (Int64.ofInt 0)]))] sz) (sgk u.1 u.2 0 sh_Eq) (sgt u.2 0 sh_Eq) t) (va_A [(h0, .inr (10, [.null, .null, .long (Int64.ofInt 0)]))] sz)) 10 88 (va_A [(h0, .inr (10, [.null, .null, .long (Int64.ofInt 0)]))] sz) := by
  refine cg_met (by decide) (Nat.le_of_ble_eq_true rfl) (fun p e s m below meth c ls F w hr hlk hnm hl => ?_)
  have w : cg_W D classes (va_A [(h0, .inr (10, [.null, .null, .long (Int64.ofInt 0)]))] sz) s.heap s [] [(h0, .inr (10, [.null, .null, .long (Int64.ofInt 0)]))] s.heap [] := w
  have hl : lv_has ls 1 [(0, .ref h0)] := hl
  refine lv_aload_n F.1 F.2.1 d_Eq_init_0 rfl (lv_at hl 0 rfl) ?_
  refine cg_obj F k_268 ko_i ko_c hl.1 d_Eq_init_1 (Nat.le_of_ble_eq_true rfl) (Nat.le_of_ble_eq_true rfl) ?_
  refine lv_aload_n F.1 F.2.1 d_Eq_init_4 rfl (lv_at hl 0 rfl) ?_
  refine lv_bipush (v := Int32.ofInt 8) F.1 F.2.1 d_Eq_init_5 (by decide) ?_
  refine lv_bipush (v := Int32.ofInt 9) F.1 F.2.1 d_Eq_init_7 (by decide) ?_
  refine cg_mnaS (N' := 8) (K' := 9) (ft := .long) (t1 := 3) (t2 := 5) F w rfl rfl (fun _ _ _ => rfl) (fun _ _ _ => rfl) (fun _ _ h => h) k_269 kM_long kA_long (by decide) (by decide) (by decide) (by decide) (by decide) (by decide) (by decide) rfl rfl (Nat.le_of_ble_eq_true rfl) (Nat.le_of_ble_eq_true rfl) d_Eq_init_9 (fun q1 cA2 cA3 H w => ?_)
  have w : cg_W D classes (va_A [(h0, .inr (10, [.null, .null, .long (Int64.ofInt 0)]))] sz) s.heap s (([] : List (ClassId × FieldType)) ++ sgt (cA_grid 8 cA2 cA3) 0 (sh_grid 5 3 8 9)) (([(h0, .inr (10, [.null, .null, .long (Int64.ofInt 0)]))] : va_W) ++ sgk (fun j => q1 + j) (cA_grid 8 cA2 cA3) 0 (sh_grid 5 3 8 9)) H [] := w
  refine cg_putF F w cl_Eq 0 0 rfl (by decide) k_271 rfl hnm rfl (by rfl) (by rfl) (Nat.le_of_ble_eq_true rfl) d_Eq_init_13 (fun H locs w => ?_)
  have w : cg_W D classes (va_A [(h0, .inr (10, [.null, .null, .long (Int64.ofInt 0)]))] sz) s.heap s (([] : List (ClassId × FieldType)) ++ sgt (cA_grid 8 cA2 cA3) 0 (sh_grid 5 3 8 9)) (([(h0, .inr (10, [.ref (q1 + 0), .null, .long (Int64.ofInt 0)]))] : va_W) ++ sgk (fun j => q1 + j) (cA_grid 8 cA2 cA3) 0 (sh_grid 5 3 8 9)) H locs := w
  refine lv_aload_n F.1 F.2.1 d_Eq_init_16 rfl (lv_at hl 0 rfl) ?_
  refine lv_bipush (v := Int32.ofInt 8) F.1 F.2.1 d_Eq_init_17 (by decide) ?_
  refine cg_newa (atype := .long) (a0 := (8, .inr (.inl (fun j => Int64.ofInt (([] : List Int).getD j 0))))) F w (ft := .long) kA_long rfl (fun _ => rfl) (by decide) (by decide) (by decide) (Nat.le_of_ble_eq_true rfl) (Nat.le_of_ble_eq_true rfl) d_Eq_init_19 (fun q4 cA5 H w => ?_)
  have w : cg_W D classes (va_A [(h0, .inr (10, [.null, .null, .long (Int64.ofInt 0)]))] sz) s.heap s (([] : List (ClassId × FieldType)) ++ sgt (cA_grid 8 cA2 cA3) 0 (sh_grid 5 3 8 9) ++ ([(cA5, .long)] : List (ClassId × FieldType))) (([(h0, .inr (10, [.ref (q1 + 0), .null, .long (Int64.ofInt 0)]))] : va_W) ++ sgk (fun j => q1 + j) (cA_grid 8 cA2 cA3) 0 (sh_grid 5 3 8 9) ++ ([(q4, .inl (cA5, 8, .inr (.inl (fun j => Int64.ofInt (([] : List Int).getD j 0)))))] : va_W)) H locs := w
  refine cg_putF F w cl_Eq 0 1 rfl (by decide) k_273 rfl hnm rfl (by rfl) (by rfl) (Nat.le_of_ble_eq_true rfl) d_Eq_init_21 (fun H locs w => ?_)
  have w : cg_W D classes (va_A [(h0, .inr (10, [.null, .null, .long (Int64.ofInt 0)]))] sz) s.heap s (([] : List (ClassId × FieldType)) ++ sgt (cA_grid 8 cA2 cA3) 0 (sh_grid 5 3 8 9) ++ ([(cA5, .long)] : List (ClassId × FieldType))) (([(h0, .inr (10, [.ref (q1 + 0), .ref q4, .long (Int64.ofInt 0)]))] : va_W) ++ sgk (fun j => q1 + j) (cA_grid 8 cA2 cA3) 0 (sh_grid 5 3 8 9) ++ ([(q4, .inl (cA5, 8, .inr (.inl (fun j => Int64.ofInt (([] : List Int).getD j 0)))))] : va_W)) H locs := w
  refine lv_aload_n F.1 F.2.1 d_Eq_init_24 rfl (lv_at hl 0 rfl) ?_
  refine lv_lconst (v := Int64.ofInt 1) F.1 F.2.1 d_Eq_init_25 (by decide) ?_
  refine cg_put F w cl_Eq 0 2 rfl (by decide) k_275 rfl (by rfl) (by rfl) (Nat.le_of_ble_eq_true rfl) d_Eq_init_26 (fun H locs w => ?_)
  have w : cg_W D classes (va_A [(h0, .inr (10, [.null, .null, .long (Int64.ofInt 0)]))] sz) s.heap s (([] : List (ClassId × FieldType)) ++ sgt (cA_grid 8 cA2 cA3) 0 (sh_grid 5 3 8 9) ++ ([(cA5, .long)] : List (ClassId × FieldType))) (([(h0, .inr (10, [.ref (q1 + 0), .ref q4, .long (Int64.ofInt 1)]))] : va_W) ++ sgk (fun j => q1 + j) (cA_grid 8 cA2 cA3) 0 (sh_grid 5 3 8 9) ++ ([(q4, .inl (cA5, 8, .inr (.inl (fun j => Int64.ofInt (([] : List Int).getD j 0)))))] : va_W)) H locs := w
  refine cg_vretL F w hr hlk (cmb 0 [(1, fun _ => h0), (9, fun j => q1 + j), (1, fun _ => q4)], cmb 0 [(1, fun _ => 0), (9, cA_grid 8 cA2 cA3), (1, fun _ => cA5)]) rfl ?_ ?_ (Nat.le_of_ble_eq_true rfl) (Nat.le_of_ble_eq_true rfl) d_Eq_init_29
  · show ([(h0, .inr (10, [.ref (q1 + 0), .ref q4, .long (Int64.ofInt 1)]))] : va_W) ++ sgk (fun j => q1 + j) (cA_grid 8 cA2 cA3) 0 (sh_grid 5 3 8 9) ++ ([(q4, .inl (cA5, 8, .inr (.inl (fun j => Int64.ofInt (([] : List Int).getD j 0)))))] : va_W) = sgk (cmb 0 [(1, fun _ => h0), (9, fun j => q1 + j), (1, fun _ => q4)]) (cmb 0 [(1, fun _ => 0), (9, cA_grid 8 cA2 cA3), (1, fun _ => cA5)]) 0 (([(.inl (10, [4, 13, 1]), [0, 0, 1])] : sh_T) ++ sh_grid 5 3 8 9 ++ ([(.inr (3, 8), [])] : sh_T))
    rw [sgk_app, sgk_app]
    refine app_congr (app_congr ?_ ?_) ?_
    · rfl
    · exact sgk_in (l1 := [(1, fun _ => h0)]) (l2 := [(1, fun _ => q4)]) (c1 := [(1, fun _ => 0)]) (c2 := [(1, fun _ => cA5)]) rfl rfl (by decide +kernel)
    · rfl
  · show ([] : List (ClassId × FieldType)) ++ sgt (cA_grid 8 cA2 cA3) 0 (sh_grid 5 3 8 9) ++ ([(cA5, .long)] : List (ClassId × FieldType)) = sgt (cmb 0 [(1, fun _ => 0), (9, cA_grid 8 cA2 cA3), (1, fun _ => cA5)]) 0 (([(.inl (10, [4, 13, 1]), [0, 0, 1])] : sh_T) ++ sh_grid 5 3 8 9 ++ ([(.inr (3, 8), [])] : sh_T))
    rw [sgt_app, sgt_app]
    refine app_congr (app_congr ?_ ?_) ?_
    · rfl
    · exact sgt_in (c1 := [(1, fun _ => 0)]) (c2 := [(1, fun _ => cA5)]) rfl
    · rfl
