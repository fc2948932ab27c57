def sh_Br : sh_T := ([(.inl (6, [4, 0]), [0, 0])] : sh_T) ++ ([(.inr (0, 12), [])] : sh_T)
theorem ok_Br : sh_ok 2 0 sh_Br = true := by decide +kernel
theorem len_Br : sh_Br.length = 2 := by decide +kernel
set_option maxHeartbeats 40000000 in
set_option maxRecDepth 100000 in
theorem k_Br_init (l : Launch) (D : va_G) (h0 sz : Nat) : Met l y_Br_init (Cond.code y_Br_init b_Br_init 1 none :: tb) { frames := 1, cells := 1, slots := 12, locals := 12 } (va_Pc [.ref h0] (cg_Pre D classes sz [(h0, .inr (6, [.null, .int (Int32.ofInt 0)]))] [])) (va_Qv (fun u : (Nat → Nat) × (Nat → ClassId) => u.1 0 = h0) (fun (u : (Nat → Nat) × (Nat → ClassId)) (t : State) => cg_B D classes (va_A [(h0, .inr (6, [.null, .int (Int32.ofInt 0)]))] sz) (sgk u.1 u.2 0 sh_Br) (sgt u.2 0 sh_Br) t) (va_A [(h0, .inr (6, [.null, .int (Int32.ofInt 0)]))] sz)) 1 12 (va_A [(h0, .inr (6, [.null, .int (Int32.ofInt 0)]))] sz) := by
  refine cg_met (by decide) (Nat.le_of_ble_eq_true rfl) (fun p e s m below meth c ls F w hr hlk hnm hl => ?_)
  have w : cg_W D classes (va_A [(h0, .inr (6, [.null, .int (Int32.ofInt 0)]))] sz) s.heap s [] [(h0, .inr (6, [.null, .int (Int32.ofInt 0)]))] s.heap [] := w
  have hl : lv_has ls 1 [(0, .ref h0)] := hl
  refine lv_aload_n F.1 F.2.1 d_Br_init_0 rfl (lv_at hl 0 rfl) ?_
  refine cg_obj F k_93 ko_i ko_c hl.1 d_Br_init_1 (Nat.le_of_ble_eq_true rfl) (Nat.le_of_ble_eq_true rfl) ?_
  refine lv_aload_n F.1 F.2.1 d_Br_init_4 rfl (lv_at hl 0 rfl) ?_
  refine lv_bipush (v := Int32.ofInt 12) F.1 F.2.1 d_Br_init_5 (by decide) ?_
  refine cg_newa (atype := .int) (a0 := (12, .inl (fun j => Int32.ofInt (([] : List Int).getD j 0)))) F w (ft := .int) kA_int rfl (fun _ => rfl) (by decide) (by decide) (by decide) (Nat.le_of_ble_eq_true rfl) (Nat.le_of_ble_eq_true rfl) d_Br_init_7 (fun q1 cA2 H w => ?_)
  have w : cg_W D classes (va_A [(h0, .inr (6, [.null, .int (Int32.ofInt 0)]))] sz) s.heap s (([] : List (ClassId × FieldType)) ++ ([(cA2, .int)] : List (ClassId × FieldType))) (([(h0, .inr (6, [.null, .int (Int32.ofInt 0)]))] : va_W) ++ ([(q1, .inl (cA2, 12, .inl (fun j => Int32.ofInt (([] : List Int).getD j 0))))] : va_W)) H [] := w
  refine cg_putF F w cl_Br 0 0 rfl (by decide) k_94 rfl hnm rfl (by rfl) (by rfl) (Nat.le_of_ble_eq_true rfl) d_Br_init_9 (fun H locs w => ?_)
  have w : cg_W D classes (va_A [(h0, .inr (6, [.null, .int (Int32.ofInt 0)]))] sz) s.heap s (([] : List (ClassId × FieldType)) ++ ([(cA2, .int)] : List (ClassId × FieldType))) (([(h0, .inr (6, [.ref q1, .int (Int32.ofInt 0)]))] : va_W) ++ ([(q1, .inl (cA2, 12, .inl (fun j => Int32.ofInt (([] : List Int).getD j 0))))] : va_W)) H locs := w
  refine lv_aload_n F.1 F.2.1 d_Br_init_12 rfl (lv_at hl 0 rfl) ?_
  refine lv_iconst (v := Int32.ofInt 0) F.1 F.2.1 d_Br_init_13 (by decide) ?_
  refine cg_put F w cl_Br 0 1 rfl (by decide) k_97 rfl (by rfl) (by rfl) (Nat.le_of_ble_eq_true rfl) d_Br_init_14 (fun H locs w => ?_)
  have w : cg_W D classes (va_A [(h0, .inr (6, [.null, .int (Int32.ofInt 0)]))] sz) s.heap s (([] : List (ClassId × FieldType)) ++ ([(cA2, .int)] : List (ClassId × FieldType))) (([(h0, .inr (6, [.ref q1, .int (Int32.ofInt 0)]))] : va_W) ++ ([(q1, .inl (cA2, 12, .inl (fun j => Int32.ofInt (([] : List Int).getD j 0))))] : va_W)) H locs := w
  refine cg_vretL F w hr hlk (cmb 0 [(1, fun _ => h0), (1, fun _ => q1)], cmb 0 [(1, fun _ => 0), (1, fun _ => cA2)]) rfl ?_ ?_ (Nat.le_of_ble_eq_true rfl) (Nat.le_of_ble_eq_true rfl) d_Br_init_17
  · show ([(h0, .inr (6, [.ref q1, .int (Int32.ofInt 0)]))] : va_W) ++ ([(q1, .inl (cA2, 12, .inl (fun j => Int32.ofInt (([] : List Int).getD j 0))))] : va_W) = sgk (cmb 0 [(1, fun _ => h0), (1, fun _ => q1)]) (cmb 0 [(1, fun _ => 0), (1, fun _ => cA2)]) 0 (([(.inl (6, [4, 0]), [0, 0])] : sh_T) ++ ([(.inr (0, 12), [])] : sh_T))
    rw [sgk_app]
    refine app_congr ?_ ?_
    · rfl
    · rfl
  · show ([] : List (ClassId × FieldType)) ++ ([(cA2, .int)] : List (ClassId × FieldType)) = sgt (cmb 0 [(1, fun _ => 0), (1, fun _ => cA2)]) 0 (([(.inl (6, [4, 0]), [0, 0])] : sh_T) ++ ([(.inr (0, 12), [])] : sh_T))
    rw [sgt_app]
    refine app_congr ?_ ?_
    · rfl
    · rfl
