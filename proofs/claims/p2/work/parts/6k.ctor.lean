def sh_Va : sh_T := [(.inl (7, [4, 171, 174, 185, 0, 186, 187]), [0, 0, 0, 0, 0, 0, 0])] ++ sh_Fo ++ sh_At ++ sh_Eq ++ [(.inr (0, 8), [])] ++ [(.inr (3, 8), [])] ++ [(.inr (3, 8), [])]
theorem ok_Va : sh_ok 185 0 sh_Va = true := by decide +kernel
theorem len_Va : sh_Va.length = 185 := by decide +kernel
set_option maxHeartbeats 40000000 in
set_option maxRecDepth 100000 in
theorem k_Va_init (l : Launch) (D : va_G) (h0 sz : Nat) : Met l y_Va_init (Cond.code y_Va_init b_Va_init 1 none :: tb) { frames := 5, cells := 184, slots := 1527, locals := 94 } (va_Pc [.ref h0] (cg_Pre D classes sz [(h0, .inr (7, [.null, .null, .null, .null, .int (Int32.ofInt 0), .null, .null]))] [])) (va_Qv (fun u : (Nat → Nat) × (Nat → ClassId) => u.1 0 = h0) (fun (u : (Nat → Nat) × (Nat → ClassId)) (t : State) => cg_B D classes (va_A [(h0, .inr (7, [.null, .null, .null, .null, .int (Int32.ofInt 0), .null, .null]))] sz) (sgk u.1 u.2 0 sh_Va) (sgt u.2 0 sh_Va) t) (va_A [(h0, .inr (7, [.null, .null, .null, .null, .int (Int32.ofInt 0), .null, .null]))] sz)) 184 1527 (va_A [(h0, .inr (7, [.null, .null, .null, .null, .int (Int32.ofInt 0), .null, .null]))] sz) := by
  refine cg_met (by decide) (Nat.le_of_ble_eq_true rfl) (fun p e s m below meth c ls F w hr hlk hnm hl => ?_)
  have w : cg_W D classes (va_A [(h0, .inr (7, [.null, .null, .null, .null, .int (Int32.ofInt 0), .null, .null]))] sz) s.heap s [] [(h0, .inr (7, [.null, .null, .null, .null, .int (Int32.ofInt 0), .null, .null]))] s.heap [] := w
  have hl : lv_has ls 1 [(0, .ref h0)] := hl
  refine lv_aload_n F.1 F.2.1 d_Va_init_0 rfl (lv_at hl 0 rfl) ?_
  refine cg_obj F k_187 ko_i ko_c hl.1 d_Va_init_1 (Nat.le_of_ble_eq_true rfl) (Nat.le_of_ble_eq_true rfl) ?_
  refine lv_aload_n F.1 F.2.1 d_Va_init_4 rfl (lv_at hl 0 rfl) ?_
  refine cg_new (fs := [.null, .int (Int32.ofInt 0), .int (Int32.ofInt 0), .int (Int32.ofInt 0), .int (Int32.ofInt 0), .int (Int32.ofInt 0), .null, .null, .null, .null, .null]) F w cl_Fo k_188 ki_Fo kn_Fo zz_Fo (Nat.le_of_ble_eq_true rfl) (Nat.le_of_ble_eq_true rfl) d_Va_init_5 (fun q1 H w => ?_)
  have w : cg_W D classes (va_A [(h0, .inr (7, [.null, .null, .null, .null, .int (Int32.ofInt 0), .null, .null]))] sz) s.heap s ([]) ([(h0, .inr (7, [.null, .null, .null, .null, .int (Int32.ofInt 0), .null, .null]))] ++ [(q1, .inr (8, [.null, .int (Int32.ofInt 0), .int (Int32.ofInt 0), .int (Int32.ofInt 0), .int (Int32.ofInt 0), .int (Int32.ofInt 0), .null, .null, .null, .null, .null]))]) H [] := w
  refine lv_dup F.1 F.2.1 d_Va_init_8 rfl ?_
  refine cg_cvL (x := (q1, .inr (8, [.null, .int (Int32.ofInt 0), .int (Int32.ofInt 0), .int (Int32.ofInt 0), .int (Int32.ofInt 0), .int (Int32.ofInt 0), .null, .null, .null, .null, .null]))) w (cg_rIN (As := []) (rest := [.ref q1, .ref h0]) F (k_Fo_init l D q1 H.size) e_Fo_init rfl ki_Fo_init k_190 (cg_preL w) rfl hl.1 rfl (Nat.le_of_ble_eq_true rfl) ⟨⟨rfl, rfl⟩, ⟨(Nat.le_of_ble_eq_true rfl), (Nat.le_of_ble_eq_true rfl)⟩, (Nat.le_of_ble_eq_true rfl), (Nat.le_of_ble_eq_true rfl)⟩ d_Va_init_9) (fun u2 H9 locs9 hu3 w9 => ?_)
  clear w
  subst hu3
  have w : cg_W D classes (va_A [(h0, .inr (7, [.null, .null, .null, .null, .int (Int32.ofInt 0), .null, .null]))] sz) s.heap s ([] ++ sgt u2.2 0 sh_Fo) ([(h0, .inr (7, [.null, .null, .null, .null, .int (Int32.ofInt 0), .null, .null]))] ++ sgk u2.1 u2.2 0 sh_Fo) H9 locs9 := w9
  clear w9
  generalize H9 = H at w ⊢
  generalize locs9 = locs at w ⊢
  refine cg_putF F w cl_Va 0 0 rfl (by decide) k_285 rfl hnm rfl (by rfl) (by rfl) (Nat.le_of_ble_eq_true rfl) d_Va_init_12 (fun H locs w => ?_)
  have w : cg_W D classes (va_A [(h0, .inr (7, [.null, .null, .null, .null, .int (Int32.ofInt 0), .null, .null]))] sz) s.heap s ([] ++ sgt u2.2 0 sh_Fo) ([(h0, .inr (7, [.ref (u2.1 0), .null, .null, .null, .int (Int32.ofInt 0), .null, .null]))] ++ sgk u2.1 u2.2 0 sh_Fo) H locs := w
  refine lv_aload_n F.1 F.2.1 d_Va_init_15 rfl (lv_at hl 0 rfl) ?_
  refine cg_new (fs := [.null, .null]) F w cl_At k_247 ki_At kn_At zz_At (Nat.le_of_ble_eq_true rfl) (Nat.le_of_ble_eq_true rfl) d_Va_init_16 (fun q4 H w => ?_)
  have w : cg_W D classes (va_A [(h0, .inr (7, [.null, .null, .null, .null, .int (Int32.ofInt 0), .null, .null]))] sz) s.heap s ([] ++ sgt u2.2 0 sh_Fo) ([(h0, .inr (7, [.ref (u2.1 0), .null, .null, .null, .int (Int32.ofInt 0), .null, .null]))] ++ sgk u2.1 u2.2 0 sh_Fo ++ [(q4, .inr (9, [.null, .null]))]) H locs := w
  refine lv_dup F.1 F.2.1 d_Va_init_19 rfl ?_
  refine cg_cvL (x := (q4, .inr (9, [.null, .null]))) w (cg_rIN (As := []) (rest := [.ref q4, .ref h0]) F (k_At_init l D q4 H.size) e_At_init rfl ki_At_init k_249 (cg_preL w) rfl hl.1 rfl (Nat.le_of_ble_eq_true rfl) ⟨⟨rfl, rfl⟩, ⟨(Nat.le_of_ble_eq_true rfl), (Nat.le_of_ble_eq_true rfl)⟩, (Nat.le_of_ble_eq_true rfl), (Nat.le_of_ble_eq_true rfl)⟩ d_Va_init_20) (fun u5 H9 locs9 hu6 w9 => ?_)
  clear w
  subst hu6
  have w : cg_W D classes (va_A [(h0, .inr (7, [.null, .null, .null, .null, .int (Int32.ofInt 0), .null, .null]))] sz) s.heap s ([] ++ sgt u2.2 0 sh_Fo ++ sgt u5.2 0 sh_At) ([(h0, .inr (7, [.ref (u2.1 0), .null, .null, .null, .int (Int32.ofInt 0), .null, .null]))] ++ sgk u2.1 u2.2 0 sh_Fo ++ sgk u5.1 u5.2 0 sh_At) H9 locs9 := w9
  clear w9
  generalize H9 = H at w ⊢
  generalize locs9 = locs at w ⊢
  refine cg_putF F w cl_Va 0 1 rfl (by decide) k_287 rfl hnm rfl (by rfl) (by rfl) (Nat.le_of_ble_eq_true rfl) d_Va_init_23 (fun H locs w => ?_)
  have w : cg_W D classes (va_A [(h0, .inr (7, [.null, .null, .null, .null, .int (Int32.ofInt 0), .null, .null]))] sz) s.heap s ([] ++ sgt u2.2 0 sh_Fo ++ sgt u5.2 0 sh_At) ([(h0, .inr (7, [.ref (u2.1 0), .ref (u5.1 0), .null, .null, .int (Int32.ofInt 0), .null, .null]))] ++ sgk u2.1 u2.2 0 sh_Fo ++ sgk u5.1 u5.2 0 sh_At) H locs := w
  refine lv_aload_n F.1 F.2.1 d_Va_init_26 rfl (lv_at hl 0 rfl) ?_
  refine cg_new (fs := [.null, .null, .long (Int64.ofInt 0)]) F w cl_Eq k_263 ki_Eq kn_Eq zz_Eq (Nat.le_of_ble_eq_true rfl) (Nat.le_of_ble_eq_true rfl) d_Va_init_27 (fun q7 H w => ?_)
  have w : cg_W D classes (va_A [(h0, .inr (7, [.null, .null, .null, .null, .int (Int32.ofInt 0), .null, .null]))] sz) s.heap s ([] ++ sgt u2.2 0 sh_Fo ++ sgt u5.2 0 sh_At) ([(h0, .inr (7, [.ref (u2.1 0), .ref (u5.1 0), .null, .null, .int (Int32.ofInt 0), .null, .null]))] ++ sgk u2.1 u2.2 0 sh_Fo ++ sgk u5.1 u5.2 0 sh_At ++ [(q7, .inr (10, [.null, .null, .long (Int64.ofInt 0)]))]) H locs := w
  refine lv_dup F.1 F.2.1 d_Va_init_30 rfl ?_
  refine cg_cvL (x := (q7, .inr (10, [.null, .null, .long (Int64.ofInt 0)]))) w (cg_rIN (As := []) (rest := [.ref q7, .ref h0]) F (k_Eq_init l D q7 H.size) e_Eq_init rfl ki_Eq_init k_265 (cg_preL w) rfl hl.1 rfl (Nat.le_of_ble_eq_true rfl) ⟨⟨rfl, rfl⟩, ⟨(Nat.le_of_ble_eq_true rfl), (Nat.le_of_ble_eq_true rfl)⟩, (Nat.le_of_ble_eq_true rfl), (Nat.le_of_ble_eq_true rfl)⟩ d_Va_init_31) (fun u8 H9 locs9 hu9 w9 => ?_)
  clear w
  subst hu9
  have w : cg_W D classes (va_A [(h0, .inr (7, [.null, .null, .null, .null, .int (Int32.ofInt 0), .null, .null]))] sz) s.heap s ([] ++ sgt u2.2 0 sh_Fo ++ sgt u5.2 0 sh_At ++ sgt u8.2 0 sh_Eq) ([(h0, .inr (7, [.ref (u2.1 0), .ref (u5.1 0), .null, .null, .int (Int32.ofInt 0), .null, .null]))] ++ sgk u2.1 u2.2 0 sh_Fo ++ sgk u5.1 u5.2 0 sh_At ++ sgk u8.1 u8.2 0 sh_Eq) H9 locs9 := w9
  clear w9
  generalize H9 = H at w ⊢
  generalize locs9 = locs at w ⊢
  refine cg_putF F w cl_Va 0 2 rfl (by decide) k_288 rfl hnm rfl (by rfl) (by rfl) (Nat.le_of_ble_eq_true rfl) d_Va_init_34 (fun H locs w => ?_)
  have w : cg_W D classes (va_A [(h0, .inr (7, [.null, .null, .null, .null, .int (Int32.ofInt 0), .null, .null]))] sz) s.heap s ([] ++ sgt u2.2 0 sh_Fo ++ sgt u5.2 0 sh_At ++ sgt u8.2 0 sh_Eq) ([(h0, .inr (7, [.ref (u2.1 0), .ref (u5.1 0), .ref (u8.1 0), .null, .int (Int32.ofInt 0), .null, .null]))] ++ sgk u2.1 u2.2 0 sh_Fo ++ sgk u5.1 u5.2 0 sh_At ++ sgk u8.1 u8.2 0 sh_Eq) H locs := w
  refine lv_aload_n F.1 F.2.1 d_Va_init_37 rfl (lv_at hl 0 rfl) ?_
  refine lv_bipush (v := Int32.ofInt 8) F.1 F.2.1 d_Va_init_38 (by decide) ?_
  refine cg_newa (atype := .int) (a0 := (8, .inl (fun j => Int32.ofInt (([] : List Int).getD j 0)))) F w (ft := .int) kA_int rfl (fun _ => rfl) (by decide) (by decide) (by decide) (Nat.le_of_ble_eq_true rfl) (Nat.le_of_ble_eq_true rfl) d_Va_init_40 (fun q10 cA11 H w => ?_)
  have w : cg_W D classes (va_A [(h0, .inr (7, [.null, .null, .null, .null, .int (Int32.ofInt 0), .null, .null]))] sz) s.heap s ([] ++ sgt u2.2 0 sh_Fo ++ sgt u5.2 0 sh_At ++ sgt u8.2 0 sh_Eq ++ [(cA11, .int)]) ([(h0, .inr (7, [.ref (u2.1 0), .ref (u5.1 0), .ref (u8.1 0), .null, .int (Int32.ofInt 0), .null, .null]))] ++ sgk u2.1 u2.2 0 sh_Fo ++ sgk u5.1 u5.2 0 sh_At ++ sgk u8.1 u8.2 0 sh_Eq ++ [(q10, .inl (cA11, 8, .inl (fun j => Int32.ofInt (([] : List Int).getD j 0))))]) H locs := w
  refine cg_putF F w cl_Va 0 3 rfl (by decide) k_289 rfl hnm rfl (by rfl) (by rfl) (Nat.le_of_ble_eq_true rfl) d_Va_init_42 (fun H locs w => ?_)
  have w : cg_W D classes (va_A [(h0, .inr (7, [.null, .null, .null, .null, .int (Int32.ofInt 0), .null, .null]))] sz) s.heap s ([] ++ sgt u2.2 0 sh_Fo ++ sgt u5.2 0 sh_At ++ sgt u8.2 0 sh_Eq ++ [(cA11, .int)]) ([(h0, .inr (7, [.ref (u2.1 0), .ref (u5.1 0), .ref (u8.1 0), .ref q10, .int (Int32.ofInt 0), .null, .null]))] ++ sgk u2.1 u2.2 0 sh_Fo ++ sgk u5.1 u5.2 0 sh_At ++ sgk u8.1 u8.2 0 sh_Eq ++ [(q10, .inl (cA11, 8, .inl (fun j => Int32.ofInt (([] : List Int).getD j 0))))]) H locs := w
  refine lv_aload_n F.1 F.2.1 d_Va_init_45 rfl (lv_at hl 0 rfl) ?_
  refine lv_iconst (v := Int32.ofInt 0) F.1 F.2.1 d_Va_init_46 (by decide) ?_
  refine cg_put F w cl_Va 0 4 rfl (by decide) k_290 rfl (by rfl) (by rfl) (Nat.le_of_ble_eq_true rfl) d_Va_init_47 (fun H locs w => ?_)
  have w : cg_W D classes (va_A [(h0, .inr (7, [.null, .null, .null, .null, .int (Int32.ofInt 0), .null, .null]))] sz) s.heap s ([] ++ sgt u2.2 0 sh_Fo ++ sgt u5.2 0 sh_At ++ sgt u8.2 0 sh_Eq ++ [(cA11, .int)]) ([(h0, .inr (7, [.ref (u2.1 0), .ref (u5.1 0), .ref (u8.1 0), .ref q10, .int (Int32.ofInt 0), .null, .null]))] ++ sgk u2.1 u2.2 0 sh_Fo ++ sgk u5.1 u5.2 0 sh_At ++ sgk u8.1 u8.2 0 sh_Eq ++ [(q10, .inl (cA11, 8, .inl (fun j => Int32.ofInt (([] : List Int).getD j 0))))]) H locs := w
  refine lv_aload_n F.1 F.2.1 d_Va_init_50 rfl (lv_at hl 0 rfl) ?_
  refine lv_bipush (v := Int32.ofInt 8) F.1 F.2.1 d_Va_init_51 (by decide) ?_
  refine cg_newa (atype := .long) (a0 := (8, .inr (.inl (fun j => Int64.ofInt (([] : List Int).getD j 0))))) F w (ft := .long) kA_long rfl (fun _ => rfl) (by decide) (by decide) (by decide) (Nat.le_of_ble_eq_true rfl) (Nat.le_of_ble_eq_true rfl) d_Va_init_53 (fun q12 cA13 H w => ?_)
  have w : cg_W D classes (va_A [(h0, .inr (7, [.null, .null, .null, .null, .int (Int32.ofInt 0), .null, .null]))] sz) s.heap s ([] ++ sgt u2.2 0 sh_Fo ++ sgt u5.2 0 sh_At ++ sgt u8.2 0 sh_Eq ++ [(cA11, .int)] ++ [(cA13, .long)]) ([(h0, .inr (7, [.ref (u2.1 0), .ref (u5.1 0), .ref (u8.1 0), .ref q10, .int (Int32.ofInt 0), .null, .null]))] ++ sgk u2.1 u2.2 0 sh_Fo ++ sgk u5.1 u5.2 0 sh_At ++ sgk u8.1 u8.2 0 sh_Eq ++ [(q10, .inl (cA11, 8, .inl (fun j => Int32.ofInt (([] : List Int).getD j 0))))] ++ [(q12, .inl (cA13, 8, .inr (.inl (fun j => Int64.ofInt (([] : List Int).getD j 0)))))]) H locs := w
  refine cg_putF F w cl_Va 0 5 rfl (by decide) k_292 rfl hnm rfl (by rfl) (by rfl) (Nat.le_of_ble_eq_true rfl) d_Va_init_55 (fun H locs w => ?_)
  have w : cg_W D classes (va_A [(h0, .inr (7, [.null, .null, .null, .null, .int (Int32.ofInt 0), .null, .null]))] sz) s.heap s ([] ++ sgt u2.2 0 sh_Fo ++ sgt u5.2 0 sh_At ++ sgt u8.2 0 sh_Eq ++ [(cA11, .int)] ++ [(cA13, .long)]) ([(h0, .inr (7, [.ref (u2.1 0), .ref (u5.1 0), .ref (u8.1 0), .ref q10, .int (Int32.ofInt 0), .ref q12, .null]))] ++ sgk u2.1 u2.2 0 sh_Fo ++ sgk u5.1 u5.2 0 sh_At ++ sgk u8.1 u8.2 0 sh_Eq ++ [(q10, .inl (cA11, 8, .inl (fun j => Int32.ofInt (([] : List Int).getD j 0))))] ++ [(q12, .inl (cA13, 8, .inr (.inl (fun j => Int64.ofInt (([] : List Int).getD j 0)))))]) H locs := w
  refine lv_aload_n F.1 F.2.1 d_Va_init_58 rfl (lv_at hl 0 rfl) ?_
  refine lv_bipush (v := Int32.ofInt 8) F.1 F.2.1 d_Va_init_59 (by decide) ?_
  refine cg_newa (atype := .long) (a0 := (8, .inr (.inl (fun j => Int64.ofInt (([] : List Int).getD j 0))))) F w (ft := .long) kA_long rfl (fun _ => rfl) (by decide) (by decide) (by decide) (Nat.le_of_ble_eq_true rfl) (Nat.le_of_ble_eq_true rfl) d_Va_init_61 (fun q14 cA15 H w => ?_)
  have w : cg_W D classes (va_A [(h0, .inr (7, [.null, .null, .null, .null, .int (Int32.ofInt 0), .null, .null]))] sz) s.heap s ([] ++ sgt u2.2 0 sh_Fo ++ sgt u5.2 0 sh_At ++ sgt u8.2 0 sh_Eq ++ [(cA11, .int)] ++ [(cA13, .long)] ++ [(cA15, .long)]) ([(h0, .inr (7, [.ref (u2.1 0), .ref (u5.1 0), .ref (u8.1 0), .ref q10, .int (Int32.ofInt 0), .ref q12, .null]))] ++ sgk u2.1 u2.2 0 sh_Fo ++ sgk u5.1 u5.2 0 sh_At ++ sgk u8.1 u8.2 0 sh_Eq ++ [(q10, .inl (cA11, 8, .inl (fun j => Int32.ofInt (([] : List Int).getD j 0))))] ++ [(q12, .inl (cA13, 8, .inr (.inl (fun j => Int64.ofInt (([] : List Int).getD j 0)))))] ++ [(q14, .inl (cA15, 8, .inr (.inl (fun j => Int64.ofInt (([] : List Int).getD j 0)))))]) H locs := w
  refine cg_putF F w cl_Va 0 6 rfl (by decide) k_294 rfl hnm rfl (by rfl) (by rfl) (Nat.le_of_ble_eq_true rfl) d_Va_init_63 (fun H locs w => ?_)
  have w : cg_W D classes (va_A [(h0, .inr (7, [.null, .null, .null, .null, .int (Int32.ofInt 0), .null, .null]))] sz) s.heap s ([] ++ sgt u2.2 0 sh_Fo ++ sgt u5.2 0 sh_At ++ sgt u8.2 0 sh_Eq ++ [(cA11, .int)] ++ [(cA13, .long)] ++ [(cA15, .long)]) ([(h0, .inr (7, [.ref (u2.1 0), .ref (u5.1 0), .ref (u8.1 0), .ref q10, .int (Int32.ofInt 0), .ref q12, .ref q14]))] ++ sgk u2.1 u2.2 0 sh_Fo ++ sgk u5.1 u5.2 0 sh_At ++ sgk u8.1 u8.2 0 sh_Eq ++ [(q10, .inl (cA11, 8, .inl (fun j => Int32.ofInt (([] : List Int).getD j 0))))] ++ [(q12, .inl (cA13, 8, .inr (.inl (fun j => Int64.ofInt (([] : List Int).getD j 0)))))] ++ [(q14, .inl (cA15, 8, .inr (.inl (fun j => Int64.ofInt (([] : List Int).getD j 0)))))]) H locs := w
  refine cg_vretL F w hr hlk (cmb 0 [(1, fun _ => h0), (167, u2.1), (3, u5.1), (11, u8.1), (1, fun _ => q10), (1, fun _ => q12), (1, fun _ => q14)], cmb 0 [(1, fun _ => 0), (167, u2.2), (3, u5.2), (11, u8.2), (1, fun _ => cA11), (1, fun _ => cA13), (1, fun _ => cA15)]) rfl ?_ ?_ (Nat.le_of_ble_eq_true rfl) (Nat.le_of_ble_eq_true rfl) d_Va_init_66
  · show [(h0, .inr (7, [.ref (u2.1 0), .ref (u5.1 0), .ref (u8.1 0), .ref q10, .int (Int32.ofInt 0), .ref q12, .ref q14]))] ++ sgk u2.1 u2.2 0 sh_Fo ++ sgk u5.1 u5.2 0 sh_At ++ sgk u8.1 u8.2 0 sh_Eq ++ [(q10, .inl (cA11, 8, .inl (fun j => Int32.ofInt (([] : List Int).getD j 0))))] ++ [(q12, .inl (cA13, 8, .inr (.inl (fun j => Int64.ofInt (([] : List Int).getD j 0)))))] ++ [(q14, .inl (cA15, 8, .inr (.inl (fun j => Int64.ofInt (([] : List Int).getD j 0)))))] = sgk (cmb 0 [(1, fun _ => h0), (167, u2.1), (3, u5.1), (11, u8.1), (1, fun _ => q10), (1, fun _ => q12), (1, fun _ => q14)]) (cmb 0 [(1, fun _ => 0), (167, u2.2), (3, u5.2), (11, u8.2), (1, fun _ => cA11), (1, fun _ => cA13), (1, fun _ => cA15)]) 0 ([(.inl (7, [4, 171, 174, 185, 0, 186, 187]), [0, 0, 0, 0, 0, 0, 0])] ++ sh_Fo ++ sh_At ++ sh_Eq ++ [(.inr (0, 8), [])] ++ [(.inr (3, 8), [])] ++ [(.inr (3, 8), [])])
    rw [sgk_app, sgk_app, sgk_app, sgk_app, sgk_app, sgk_app]
    refine app_congr (app_congr (app_congr (app_congr (app_congr (app_congr ?_ ?_) ?_) ?_) ?_) ?_) ?_
    · rfl
    · exact sgk_in (l1 := [(1, fun _ => h0)]) (l2 := [(3, u5.1), (11, u8.1), (1, fun _ => q10), (1, fun _ => q12), (1, fun _ => q14)]) (c1 := [(1, fun _ => 0)]) (c2 := [(3, u5.2), (11, u8.2), (1, fun _ => cA11), (1, fun _ => cA13), (1, fun _ => cA15)]) rfl len_Fo ok_Fo
    · exact sgk_in (l1 := [(1, fun _ => h0), (167, u2.1)]) (l2 := [(11, u8.1), (1, fun _ => q10), (1, fun _ => q12), (1, fun _ => q14)]) (c1 := [(1, fun _ => 0), (167, u2.2)]) (c2 := [(11, u8.2), (1, fun _ => cA11), (1, fun _ => cA13), (1, fun _ => cA15)]) rfl len_At ok_At
    · exact sgk_in (l1 := [(1, fun _ => h0), (167, u2.1), (3, u5.1)]) (l2 := [(1, fun _ => q10), (1, fun _ => q12), (1, fun _ => q14)]) (c1 := [(1, fun _ => 0), (167, u2.2), (3, u5.2)]) (c2 := [(1, fun _ => cA11), (1, fun _ => cA13), (1, fun _ => cA15)]) rfl len_Eq ok_Eq
    · rfl
    · rfl
    · rfl
  · show [] ++ sgt u2.2 0 sh_Fo ++ sgt u5.2 0 sh_At ++ sgt u8.2 0 sh_Eq ++ [(cA11, .int)] ++ [(cA13, .long)] ++ [(cA15, .long)] = sgt (cmb 0 [(1, fun _ => 0), (167, u2.2), (3, u5.2), (11, u8.2), (1, fun _ => cA11), (1, fun _ => cA13), (1, fun _ => cA15)]) 0 ([(.inl (7, [4, 171, 174, 185, 0, 186, 187]), [0, 0, 0, 0, 0, 0, 0])] ++ sh_Fo ++ sh_At ++ sh_Eq ++ [(.inr (0, 8), [])] ++ [(.inr (3, 8), [])] ++ [(.inr (3, 8), [])])
    rw [sgt_app, sgt_app, sgt_app, sgt_app, sgt_app, sgt_app]
    refine app_congr (app_congr (app_congr (app_congr (app_congr (app_congr ?_ ?_) ?_) ?_) ?_) ?_) ?_
    · rfl
    · exact sgt_in (c1 := [(1, fun _ => 0)]) (c2 := [(3, u5.2), (11, u8.2), (1, fun _ => cA11), (1, fun _ => cA13), (1, fun _ => cA15)]) len_Fo
    · exact sgt_in (c1 := [(1, fun _ => 0), (167, u2.2)]) (c2 := [(11, u8.2), (1, fun _ => cA11), (1, fun _ => cA13), (1, fun _ => cA15)]) len_At
    · exact sgt_in (c1 := [(1, fun _ => 0), (167, u2.2), (3, u5.2)]) (c2 := [(1, fun _ => cA11), (1, fun _ => cA13), (1, fun _ => cA15)]) len_Eq
    · rfl
    · rfl
    · rfl
