def sh_At : sh_T := ([(.inl (9, [4, 5]), [0, 0])] : sh_T) ++ ([(.inr (0, 8), [])] : sh_T) ++ ([(.inr (0, 8), [])] : sh_T)
theorem ok_At : sh_ok 3 0 sh_At = true := by decide +kernel
theorem len_At : sh_At.length = 3 := by decide +kernel
set_option maxHeartbeats 40000000 in
set_option maxRecDepth 100000 in
theorem k_At_init (l : Launch) (D : va_G) (h0 sz : Nat) : Met l y_At_init (Cond.code y_At_init b_At_init 1 none :: tb) { frames := 1, cells := 2, slots := 16, locals := 12 } (va_Pc [.ref h0] (cg_Pre D classes sz [(h0, .inr (9, [.null, .null]))] [])) (va_Qv (fun u : (Nat → Nat) × (Nat → ClassId) => u.1 0 = h0) (fun (u : (Nat → Nat) × (Nat → ClassId)) (t : State) => cg_B D classes (va_A [(h0, .inr (9, [.null, .null]))] sz) (sgk u.1 u.2 0 sh_At) (sgt u.2 0 sh_At) t) (va_A [(h0, .inr (9, [.null, .null]))] sz)) 2 16 (va_A [(h0, .inr (9, [.null, .null]))] sz) := by
  refine cg_met (by decide) (Nat.le_of_ble_eq_true rfl) (fun p e s m below meth c ls F w hr hlk hnm hl => ?_)
  have w : cg_W D classes (va_A [(h0, .inr (9, [.null, .null]))] sz) s.heap s [] [(h0, .inr (9, [.null, .null]))] s.heap [] := w
  have hl : lv_has ls 1 [(0, .ref h0)] := hl
  refine lv_aload_n F.1 F.2.1 d_At_init_0 rfl (lv_at hl 0 rfl) ?_
  refine cg_obj F k_252 ko_i ko_c hl.1 d_At_init_1 (Nat.le_of_ble_eq_true rfl) (Nat.le_of_ble_eq_true rfl) ?_
  refine lv_aload_n F.1 F.2.1 d_At_init_4 rfl (lv_at hl 0 rfl) ?_
  refine lv_bipush (v := Int32.ofInt 8) F.1 F.2.1 d_At_init_5 (by decide) ?_
  refine cg_newa (atype := .int) (a0 := (8, .inl (fun j => Int32.ofInt (([] : List Int).getD j 0)))) F w (ft := .int) kA_int rfl (fun _ => rfl) (by decide) (by decide) (by decide) (Nat.le_of_ble_eq_true rfl) (Nat.le_of_ble_eq_true rfl) d_At_init_7 (fun q1 cA2 H w => ?_)
  have w : cg_W D classes (va_A [(h0, .inr (9, [.null, .null]))] sz) s.heap s (([] : List (ClassId × FieldType)) ++ ([(cA2, .int)] : List (ClassId × FieldType))) (([(h0, .inr (9, [.null, .null]))] : va_W) ++ ([(q1, .inl (cA2, 8, .inl (fun j => Int32.ofInt (([] : List Int).getD j 0))))] : va_W)) H [] := w
  refine cg_putF F w cl_At 0 0 rfl (by decide) k_253 rfl hnm rfl (by rfl) (by rfl) (Nat.le_of_ble_eq_true rfl) d_At_init_9 (fun H locs w => ?_)
  have w : cg_W D classes (va_A [(h0, .inr (9, [.null, .null]))] sz) s.heap s (([] : List (ClassId × FieldType)) ++ ([(cA2, .int)] : List (ClassId × FieldType))) (([(h0, .inr (9, [.ref q1, .null]))] : va_W) ++ ([(q1, .inl (cA2, 8, .inl (fun j => Int32.ofInt (([] : List Int).getD j 0))))] : va_W)) H locs := w
  refine lv_aload_n F.1 F.2.1 d_At_init_12 rfl (lv_at hl 0 rfl) ?_
  refine lv_bipush (v := Int32.ofInt 8) F.1 F.2.1 d_At_init_13 (by decide) ?_
  refine cg_newa (atype := .int) (a0 := (8, .inl (fun j => Int32.ofInt (([] : List Int).getD j 0)))) F w (ft := .int) kA_int rfl (fun _ => rfl) (by decide) (by decide) (by decide) (Nat.le_of_ble_eq_true rfl) (Nat.le_of_ble_eq_true rfl) d_At_init_15 (fun q3 cA4 H w => ?_)
  have w : cg_W D classes (va_A [(h0, .inr (9, [.null, .null]))] sz) s.heap s (([] : List (ClassId × FieldType)) ++ ([(cA2, .int)] : List (ClassId × FieldType)) ++ ([(cA4, .int)] : List (ClassId × FieldType))) (([(h0, .inr (9, [.ref q1, .null]))] : va_W) ++ ([(q1, .inl (cA2, 8, .inl (fun j => Int32.ofInt (([] : List Int).getD j 0))))] : va_W) ++ ([(q3, .inl (cA4, 8, .inl (fun j => Int32.ofInt (([] : List Int).getD j 0))))] : va_W)) H locs := w
  refine cg_putF F w cl_At 0 1 rfl (by decide) k_256 rfl hnm rfl (by rfl) (by rfl) (Nat.le_of_ble_eq_true rfl) d_At_init_17 (fun H locs w => ?_)
  have w : cg_W D classes (va_A [(h0, .inr (9, [.null, .null]))] sz) s.heap s (([] : List (ClassId × FieldType)) ++ ([(cA2, .int)] : List (ClassId × FieldType)) ++ ([(cA4, .int)] : List (ClassId × FieldType))) (([(h0, .inr (9, [.ref q1, .ref q3]))] : va_W) ++ ([(q1, .inl (cA2, 8, .inl (fun j => Int32.ofInt (([] : List Int).getD j 0))))] : va_W) ++ ([(q3, .inl (cA4, 8, .inl (fun j => Int32.ofInt (([] : List Int).getD j 0))))] : va_W)) H locs := w
  refine cg_vretL F w hr hlk (cmb 0 [(1, fun _ => h0), (1, fun _ => q1), (1, fun _ => q3)], cmb 0 [(1, fun _ => 0), (1, fun _ => cA2), (1, fun _ => cA4)]) rfl ?_ ?_ (Nat.le_of_ble_eq_true rfl) (Nat.le_of_ble_eq_true rfl) d_At_init_20
  · show ([(h0, .inr (9, [.ref q1, .ref q3]))] : va_W) ++ ([(q1, .inl (cA2, 8, .inl (fun j => Int32.ofInt (([] : List Int).getD j 0))))] : va_W) ++ ([(q3, .inl (cA4, 8, .inl (fun j => Int32.ofInt (([] : List Int).getD j 0))))] : va_W) = sgk (cmb 0 [(1, fun _ => h0), (1, fun _ => q1), (1, fun _ => q3)]) (cmb 0 [(1, fun _ => 0), (1, fun _ => cA2), (1, fun _ => cA4)]) 0 (([(.inl (9, [4, 5]), [0, 0])] : sh_T) ++ ([(.inr (0, 8), [])] : sh_T) ++ ([(.inr (0, 8), [])] : sh_T))
    rw [sgk_app, sgk_app]
    refine app_congr (app_congr ?_ ?_) ?_
    · rfl
    · rfl
    · rfl
  · show ([] : List (ClassId × FieldType)) ++ ([(cA2, .int)] : List (ClassId × FieldType)) ++ ([(cA4, .int)] : List (ClassId × FieldType)) = sgt (cmb 0 [(1, fun _ => 0), (1, fun _ => cA2), (1, fun _ => cA4)]) 0 (([(.inl (9, [4, 5]), [0, 0])] : sh_T) ++ ([(.inr (0, 8), [])] : sh_T) ++ ([(.inr (0, 8), [])] : sh_T))
    rw [sgt_app, sgt_app]
    refine app_congr (app_congr ?_ ?_) ?_
    · rfl
    · rfl
    · rfl
