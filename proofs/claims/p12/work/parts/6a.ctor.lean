def sh_Tx : sh_T := ([(.inl (2, [4, 0]), [0, 0])] : sh_T) ++ ([(.inr (1, 200), [])] : sh_T)
theorem ok_Tx : sh_ok 2 0 sh_Tx = true := by decide +kernel
theorem len_Tx : sh_Tx.length = 2 := by decide +kernel
set_option maxHeartbeats 40000000 in
set_option maxRecDepth 100000 in
theorem k_Tx_init (l : Launch) (D : va_G) (h0 sz : Nat) : Met l y_Tx_init (Cond.code y_Tx_init b_Tx_init 1 none :: tb) { frames := 1, cells := 1, slots := 200, locals := 12 } (va_Pc [.ref h0] (cg_Pre D classes sz [(h0, .inr (2, [.null, .int (Int32.ofInt 0)]))] [])) (va_Qv (fun u : (Nat → Nat) × (Nat → ClassId) => u.1 0 = h0) (fun (u : (Nat → Nat) × (Nat → ClassId)) (t : State) => cg_B D classes (va_A [(h0, .inr (2, [.null, .int (Int32.ofInt 0)]))] sz) (sgk u.1 u.2 0 sh_Tx) (sgt u.2 0 sh_Tx) t) (va_A [(h0, .inr (2, [.null, .int (Int32.ofInt 0)]))] sz)) 1 200 (va_A [(h0, .inr (2, [.null, .int (Int32.ofInt 0)]))] sz) := by
  refine cg_met (by decide) (Nat.le_of_ble_eq_true rfl) (fun p e s m below meth c ls F w hr hlk hnm hl => ?_)
  have w : cg_W D classes (va_A [(h0, .inr (2, [.null, .int (Int32.ofInt 0)]))] sz) s.heap s [] [(h0, .inr (2, [.null, .int (Int32.ofInt 0)]))] s.heap [] := w
  have hl : lv_has ls 1 [(0, .ref h0)] := hl
  refine lv_aload_n F.1 F.2.1 d_Tx_init_0 rfl (lv_at hl 0 rfl) ?_
  refine cg_obj F k_41 ko_i ko_c hl.1 d_Tx_init_1 (Nat.le_of_ble_eq_true rfl) (Nat.le_of_ble_eq_true rfl) ?_
  refine lv_aload_n F.1 F.2.1 d_Tx_init_4 rfl (lv_at hl 0 rfl) ?_
  refine lv_sipush (v := Int32.ofInt 200) F.1 F.2.1 d_Tx_init_5 (by decide) ?_
  refine cg_newa (atype := .char) (a0 := (200, .inl (fun j => Int32.ofInt (([] : List Int).getD j 0)))) F w (ft := .char) kA_char rfl (fun _ => rfl) (by decide) (by decide) (by decide) (Nat.le_of_ble_eq_true rfl) (Nat.le_of_ble_eq_true rfl) d_Tx_init_8 (fun q1 cA2 H w => ?_)
  have w : cg_W D classes (va_A [(h0, .inr (2, [.null, .int (Int32.ofInt 0)]))] sz) s.heap s (([] : List (ClassId × FieldType)) ++ ([(cA2, .char)] : List (ClassId × FieldType))) (([(h0, .inr (2, [.null, .int (Int32.ofInt 0)]))] : va_W) ++ ([(q1, .inl (cA2, 200, .inl (fun j => Int32.ofInt (([] : List Int).getD j 0))))] : va_W)) H [] := w
  refine cg_putF F w cl_Tx 0 0 rfl (by decide) k_42 rfl hnm rfl (by rfl) (by rfl) (Nat.le_of_ble_eq_true rfl) d_Tx_init_10 (fun H locs w => ?_)
  have w : cg_W D classes (va_A [(h0, .inr (2, [.null, .int (Int32.ofInt 0)]))] sz) s.heap s (([] : List (ClassId × FieldType)) ++ ([(cA2, .char)] : List (ClassId × FieldType))) (([(h0, .inr (2, [.ref q1, .int (Int32.ofInt 0)]))] : va_W) ++ ([(q1, .inl (cA2, 200, .inl (fun j => Int32.ofInt (([] : List Int).getD j 0))))] : va_W)) H locs := w
  refine lv_aload_n F.1 F.2.1 d_Tx_init_13 rfl (lv_at hl 0 rfl) ?_
  refine lv_iconst (v := Int32.ofInt 0) F.1 F.2.1 d_Tx_init_14 (by decide) ?_
  refine cg_put F w cl_Tx 0 1 rfl (by decide) k_44 rfl (by rfl) (by rfl) (Nat.le_of_ble_eq_true rfl) d_Tx_init_15 (fun H locs w => ?_)
  have w : cg_W D classes (va_A [(h0, .inr (2, [.null, .int (Int32.ofInt 0)]))] sz) s.heap s (([] : List (ClassId × FieldType)) ++ ([(cA2, .char)] : List (ClassId × FieldType))) (([(h0, .inr (2, [.ref q1, .int (Int32.ofInt 0)]))] : va_W) ++ ([(q1, .inl (cA2, 200, .inl (fun j => Int32.ofInt (([] : List Int).getD j 0))))] : va_W)) H locs := w
  refine cg_vretL F w hr hlk (cmb 0 [(1, fun _ => h0), (1, fun _ => q1)], cmb 0 [(1, fun _ => 0), (1, fun _ => cA2)]) rfl ?_ ?_ (Nat.le_of_ble_eq_true rfl) (Nat.le_of_ble_eq_true rfl) d_Tx_init_18
  · show ([(h0, .inr (2, [.ref q1, .int (Int32.ofInt 0)]))] : va_W) ++ ([(q1, .inl (cA2, 200, .inl (fun j => Int32.ofInt (([] : List Int).getD j 0))))] : va_W) = sgk (cmb 0 [(1, fun _ => h0), (1, fun _ => q1)]) (cmb 0 [(1, fun _ => 0), (1, fun _ => cA2)]) 0 (([(.inl (2, [4, 0]), [0, 0])] : sh_T) ++ ([(.inr (1, 200), [])] : sh_T))
    rw [sgk_app]
    refine app_congr ?_ ?_
    · rfl
    · rfl
  · show ([] : List (ClassId × FieldType)) ++ ([(cA2, .char)] : List (ClassId × FieldType)) = sgt (cmb 0 [(1, fun _ => 0), (1, fun _ => cA2)]) 0 (([(.inl (2, [4, 0]), [0, 0])] : sh_T) ++ ([(.inr (1, 200), [])] : sh_T))
    rw [sgt_app]
    refine app_congr ?_ ?_
    · rfl
    · rfl
