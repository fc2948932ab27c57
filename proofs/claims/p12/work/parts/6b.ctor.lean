def sh_Gu : sh_T := ([(.inl (5, [4, 5, 0]), [0, 0, 0])] : sh_T) ++ ([(.inr (0, 16), [])] : sh_T) ++ ([(.inr (1, 4), [])] : sh_T)
theorem ok_Gu : sh_ok 3 0 sh_Gu = true := by decide +kernel
theorem len_Gu : sh_Gu.length = 3 := by decide +kernel
set_option maxHeartbeats 40000000 in
set_option maxRecDepth 100000 in
theorem k_Gu_init (l : Launch) (D : va_G) (h0 sz : Nat) : Met l y_Gu_init (Cond.code y_Gu_init b_Gu_init 1 none :: tb) { frames := 1, cells := 2, slots := 20, locals := 12 } (va_Pc [.ref h0] (cg_Pre D classes sz [(h0, .inr (5, [.null, .null, .int (Int32.ofInt 0)]))] [])) (va_Qv (fun u : (Nat → Nat) × (Nat → ClassId) => u.1 0 = h0) (fun (u : (Nat → Nat) × (Nat → ClassId)) (t : State) => cg_B D classes (va_A [(h0, .inr (5, [.null, .null, .int (Int32.ofInt 0)]))] sz) (sgk u.1 u.2 0 sh_Gu) (sgt u.2 0 sh_Gu) t) (va_A [(h0, .inr (5, [.null, .null, .int (Int32.ofInt 0)]))] sz)) 2 20 (va_A [(h0, .inr (5, [.null, .null, .int (Int32.ofInt 0)]))] sz) := by
  refine cg_met (by decide) (Nat.le_of_ble_eq_true rfl) (fun p e s m below meth c ls F w hr hlk hnm hl => ?_)
  have w : cg_W D classes (va_A [(h0, .inr (5, [.null, .null, .int (Int32.ofInt 0)]))] sz) s.heap s [] [(h0, .inr (5, [.null, .null, .int (Int32.ofInt 0)]))] s.heap [] := w
  have hl : lv_has ls 1 [(0, .ref h0)] := hl
  refine lv_aload_n F.1 F.2.1 d_Gu_init_0 rfl (lv_at hl 0 rfl) ?_
  refine cg_obj F k_65 ko_i ko_c hl.1 d_Gu_init_1 (Nat.le_of_ble_eq_true rfl) (Nat.le_of_ble_eq_true rfl) ?_
  refine lv_aload_n F.1 F.2.1 d_Gu_init_4 rfl (lv_at hl 0 rfl) ?_
  refine lv_bipush (v := Int32.ofInt 16) F.1 F.2.1 d_Gu_init_5 (by decide) ?_
  refine cg_newa (atype := .int) (a0 := (16, .inl (fun j => Int32.ofInt (([] : List Int).getD j 0)))) F w (ft := .int) kA_int rfl (fun _ => rfl) (by decide) (by decide) (by decide) (Nat.le_of_ble_eq_true rfl) (Nat.le_of_ble_eq_true rfl) d_Gu_init_7 (fun q1 cA2 H w => ?_)
  have w : cg_W D classes (va_A [(h0, .inr (5, [.null, .null, .int (Int32.ofInt 0)]))] sz) s.heap s (([] : List (ClassId × FieldType)) ++ ([(cA2, .int)] : List (ClassId × FieldType))) (([(h0, .inr (5, [.null, .null, .int (Int32.ofInt 0)]))] : va_W) ++ ([(q1, .inl (cA2, 16, .inl (fun j => Int32.ofInt (([] : List Int).getD j 0))))] : va_W)) H [] := w
  refine cg_putF F w cl_Gu 0 0 rfl (by decide) k_66 rfl hnm rfl (by rfl) (by rfl) (Nat.le_of_ble_eq_true rfl) d_Gu_init_9 (fun H locs w => ?_)
  have w : cg_W D classes (va_A [(h0, .inr (5, [.null, .null, .int (Int32.ofInt 0)]))] sz) s.heap s (([] : List (ClassId × FieldType)) ++ ([(cA2, .int)] : List (ClassId × FieldType))) (([(h0, .inr (5, [.ref q1, .null, .int (Int32.ofInt 0)]))] : va_W) ++ ([(q1, .inl (cA2, 16, .inl (fun j => Int32.ofInt (([] : List Int).getD j 0))))] : va_W)) H locs := w
  refine lv_aload_n F.1 F.2.1 d_Gu_init_12 rfl (lv_at hl 0 rfl) ?_
  refine lv_iconst (v := Int32.ofInt 4) F.1 F.2.1 d_Gu_init_13 (by decide) ?_
  refine cg_newa (atype := .char) (a0 := (4, .inl (fun j => Int32.ofInt (([] : List Int).getD j 0)))) F w (ft := .char) kA_char rfl (fun _ => rfl) (by decide) (by decide) (by decide) (Nat.le_of_ble_eq_true rfl) (Nat.le_of_ble_eq_true rfl) d_Gu_init_14 (fun q3 cA4 H w => ?_)
  have w : cg_W D classes (va_A [(h0, .inr (5, [.null, .null, .int (Int32.ofInt 0)]))] sz) s.heap s (([] : List (ClassId × FieldType)) ++ ([(cA2, .int)] : List (ClassId × FieldType)) ++ ([(cA4, .char)] : List (ClassId × FieldType))) (([(h0, .inr (5, [.ref q1, .null, .int (Int32.ofInt 0)]))] : va_W) ++ ([(q1, .inl (cA2, 16, .inl (fun j => Int32.ofInt (([] : List Int).getD j 0))))] : va_W) ++ ([(q3, .inl (cA4, 4, .inl (fun j => Int32.ofInt (([] : List Int).getD j 0))))] : va_W)) H locs := w
  refine cg_putF F w cl_Gu 0 1 rfl (by decide) k_68 rfl hnm rfl (by rfl) (by rfl) (Nat.le_of_ble_eq_true rfl) d_Gu_init_16 (fun H locs w => ?_)
  have w : cg_W D classes (va_A [(h0, .inr (5, [.null, .null, .int (Int32.ofInt 0)]))] sz) s.heap s (([] : List (ClassId × FieldType)) ++ ([(cA2, .int)] : List (ClassId × FieldType)) ++ ([(cA4, .char)] : List (ClassId × FieldType))) (([(h0, .inr (5, [.ref q1, .ref q3, .int (Int32.ofInt 0)]))] : va_W) ++ ([(q1, .inl (cA2, 16, .inl (fun j => Int32.ofInt (([] : List Int).getD j 0))))] : va_W) ++ ([(q3, .inl (cA4, 4, .inl (fun j => Int32.ofInt (([] : List Int).getD j 0))))] : va_W)) H locs := w
  refine lv_aload_n F.1 F.2.1 d_Gu_init_19 rfl (lv_at hl 0 rfl) ?_
  refine lv_iconst (v := Int32.ofInt 0) F.1 F.2.1 d_Gu_init_20 (by decide) ?_
  refine cg_put F w cl_Gu 0 2 rfl (by decide) k_70 rfl (by rfl) (by rfl) (Nat.le_of_ble_eq_true rfl) d_Gu_init_21 (fun H locs w => ?_)
  have w : cg_W D classes (va_A [(h0, .inr (5, [.null, .null, .int (Int32.ofInt 0)]))] sz) s.heap s (([] : List (ClassId × FieldType)) ++ ([(cA2, .int)] : List (ClassId × FieldType)) ++ ([(cA4, .char)] : List (ClassId × FieldType))) (([(h0, .inr (5, [.ref q1, .ref q3, .int (Int32.ofInt 0)]))] : va_W) ++ ([(q1, .inl (cA2, 16, .inl (fun j => Int32.ofInt (([] : List Int).getD j 0))))] : va_W) ++ ([(q3, .inl (cA4, 4, .inl (fun j => Int32.ofInt (([] : List Int).getD j 0))))] : va_W)) H locs := w
  refine cg_vretL F w hr hlk (cmb 0 [(1, fun _ => h0), (1, fun _ => q1), (1, fun _ => q3)], cmb 0 [(1, fun _ => 0), (1, fun _ => cA2), (1, fun _ => cA4)]) rfl ?_ ?_ (Nat.le_of_ble_eq_true rfl) (Nat.le_of_ble_eq_true rfl) d_Gu_init_24
  · show ([(h0, .inr (5, [.ref q1, .ref q3, .int (Int32.ofInt 0)]))] : va_W) ++ ([(q1, .inl (cA2, 16, .inl (fun j => Int32.ofInt (([] : List Int).getD j 0))))] : va_W) ++ ([(q3, .inl (cA4, 4, .inl (fun j => Int32.ofInt (([] : List Int).getD j 0))))] : va_W) = sgk (cmb 0 [(1, fun _ => h0), (1, fun _ => q1), (1, fun _ => q3)]) (cmb 0 [(1, fun _ => 0), (1, fun _ => cA2), (1, fun _ => cA4)]) 0 (([(.inl (5, [4, 5, 0]), [0, 0, 0])] : sh_T) ++ ([(.inr (0, 16), [])] : sh_T) ++ ([(.inr (1, 4), [])] : sh_T))
    rw [sgk_app, sgk_app]
    refine app_congr (app_congr ?_ ?_) ?_
    · rfl
    · rfl
    · rfl
  · show ([] : List (ClassId × FieldType)) ++ ([(cA2, .int)] : List (ClassId × FieldType)) ++ ([(cA4, .char)] : List (ClassId × FieldType)) = sgt (cmb 0 [(1, fun _ => 0), (1, fun _ => cA2), (1, fun _ => cA4)]) 0 (([(.inl (5, [4, 5, 0]), [0, 0, 0])] : sh_T) ++ ([(.inr (0, 16), [])] : sh_T) ++ ([(.inr (1, 4), [])] : sh_T))
    rw [sgt_app, sgt_app]
    refine app_congr (app_congr ?_ ?_) ?_
    · rfl
    · rfl
    · rfl
