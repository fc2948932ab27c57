def sh_Rd : sh_T := ([(.inl (1, [4, 6, 0, 0]), [0, 0, 0, -1])] : sh_T) ++ sh_Tx ++ sh_Gm
theorem ok_Rd : sh_ok 140 0 sh_Rd = true := by decide +kernel
theorem len_Rd : sh_Rd.length = 140 := by decide +kernel
set_option maxHeartbeats 40000000 in
set_option maxRecDepth 100000 in
theorem k_Rd_init (l : Launch) (D : va_G) (h0 sz : Nat) : Met l y_Rd_init (Cond.code y_Rd_init b_Rd_init 1 none :: tb) { frames := 4, cells := 139, slots := 1126, locals := 74 } (va_Pc [.ref h0] (cg_Pre D classes sz [(h0, .inr (1, [.null, .null, .int (Int32.ofInt 0), .int (Int32.ofInt 0)]))] [])) (va_Qv (fun u : (Nat → Nat) × (Nat → ClassId) => u.1 0 = h0) (fun (u : (Nat → Nat) × (Nat → ClassId)) (t : State) => cg_B D classes (va_A [(h0, .inr (1, [.null, .null, .int (Int32.ofInt 0), .int (Int32.ofInt 0)]))] sz) (sgk u.1 u.2 0 sh_Rd) (sgt u.2 0 sh_Rd) t) (va_A [(h0, .inr (1, [.null, .null, .int (Int32.ofInt 0), .int (Int32.ofInt 0)]))] sz)) 139 1126 (va_A [(h0, .inr (1, [.null, .null, .int (Int32.ofInt 0), .int (Int32.ofInt 0)]))] sz) := by
  refine cg_met (by decide) (Nat.le_of_ble_eq_true rfl) (fun p e s m below meth c ls F w hr hlk hnm hl => ?_)
  have w : cg_W D classes (va_A [(h0, .inr (1, [.null, .null, .int (Int32.ofInt 0), .int (Int32.ofInt 0)]))] sz) s.heap s [] [(h0, .inr (1, [.null, .null, .int (Int32.ofInt 0), .int (Int32.ofInt 0)]))] s.heap [] := w
  have hl : lv_has ls 1 [(0, .ref h0)] := hl
  refine lv_aload_n F.1 F.2.1 d_Rd_init_0 rfl (lv_at hl 0 rfl) ?_
  refine cg_obj F k_35 ko_i ko_c hl.1 d_Rd_init_1 (Nat.le_of_ble_eq_true rfl) (Nat.le_of_ble_eq_true rfl) ?_
  refine lv_aload_n F.1 F.2.1 d_Rd_init_4 rfl (lv_at hl 0 rfl) ?_
  refine cg_new (fs := [.null, .int (Int32.ofInt 0)]) F w cl_Tx k_36 ki_Tx kn_Tx zz_Tx (Nat.le_of_ble_eq_true rfl) (Nat.le_of_ble_eq_true rfl) d_Rd_init_5 (fun q1 H w => ?_)
  have w : cg_W D classes (va_A [(h0, .inr (1, [.null, .null, .int (Int32.ofInt 0), .int (Int32.ofInt 0)]))] sz) s.heap s (([] : List (ClassId × FieldType))) (([(h0, .inr (1, [.null, .null, .int (Int32.ofInt 0), .int (Int32.ofInt 0)]))] : va_W) ++ ([(q1, .inr (2, [.null, .int (Int32.ofInt 0)]))] : va_W)) H [] := w
  refine lv_dup F.1 F.2.1 d_Rd_init_8 rfl ?_
  refine cg_cvL (x := (q1, .inr (2, [.null, .int (Int32.ofInt 0)]))) w (cg_rIN (As := []) (rest := [.ref q1, .ref h0]) F (k_Tx_init l D q1 H.size) e_Tx_init rfl ki_Tx_init k_38 (cg_preL w) rfl hl.1 rfl (Nat.le_of_ble_eq_true rfl) ⟨⟨rfl, rfl⟩, ⟨(Nat.le_of_ble_eq_true rfl), (Nat.le_of_ble_eq_true rfl)⟩, (Nat.le_of_ble_eq_true rfl), (Nat.le_of_ble_eq_true rfl)⟩ d_Rd_init_9) (fun u2 H9 locs9 hu3 w9 => ?_)
  clear w
  subst hu3
  have w : cg_W D classes (va_A [(h0, .inr (1, [.null, .null, .int (Int32.ofInt 0), .int (Int32.ofInt 0)]))] sz) s.heap s (([] : List (ClassId × FieldType)) ++ sgt u2.2 0 sh_Tx) (([(h0, .inr (1, [.null, .null, .int (Int32.ofInt 0), .int (Int32.ofInt 0)]))] : va_W) ++ sgk u2.1 u2.2 0 sh_Tx) H9 locs9 := w9
  clear w9
  generalize H9 = H at w ⊢
  generalize locs9 = locs at w ⊢
  refine cg_putF F w cl_Rd 0 0 rfl (by decide) k_167 rfl hnm rfl (by rfl) (by rfl) (Nat.le_of_ble_eq_true rfl) d_Rd_init_12 (fun H locs w => ?_)
  have w : cg_W D classes (va_A [(h0, .inr (1, [.null, .null, .int (Int32.ofInt 0), .int (Int32.ofInt 0)]))] sz) s.heap s (([] : List (ClassId × FieldType)) ++ sgt u2.2 0 sh_Tx) (([(h0, .inr (1, [.ref (u2.1 0), .null, .int (Int32.ofInt 0), .int (Int32.ofInt 0)]))] : va_W) ++ sgk u2.1 u2.2 0 sh_Tx) H locs := w
  refine lv_aload_n F.1 F.2.1 d_Rd_init_15 rfl (lv_at hl 0 rfl) ?_
  refine cg_new (fs := [.null, .null, .null, .null, .int (Int32.ofInt 0)]) F w cl_Gm k_52 ki_Gm kn_Gm zz_Gm (Nat.le_of_ble_eq_true rfl) (Nat.le_of_ble_eq_true rfl) d_Rd_init_16 (fun q4 H w => ?_)
  have w : cg_W D classes (va_A [(h0, .inr (1, [.null, .null, .int (Int32.ofInt 0), .int (Int32.ofInt 0)]))] sz) s.heap s (([] : List (ClassId × FieldType)) ++ sgt u2.2 0 sh_Tx) (([(h0, .inr (1, [.ref (u2.1 0), .null, .int (Int32.ofInt 0), .int (Int32.ofInt 0)]))] : va_W) ++ sgk u2.1 u2.2 0 sh_Tx ++ ([(q4, .inr (3, [.null, .null, .null, .null, .int (Int32.ofInt 0)]))] : va_W)) H locs := w
  refine lv_dup F.1 F.2.1 d_Rd_init_19 rfl ?_
  refine cg_cvL (x := (q4, .inr (3, [.null, .null, .null, .null, .int (Int32.ofInt 0)]))) w (cg_rI (As := []) (rest := [.ref q4, .ref h0]) F (k_Gm_init l D q4 H.size) e_Gm_init rfl ki_Gm_init k_54 (cg_preL w) rfl hl.1 rfl (Nat.le_of_ble_eq_true rfl) ⟨⟨rfl, rfl⟩, ⟨(Nat.le_of_ble_eq_true rfl), (Nat.le_of_ble_eq_true rfl)⟩, (Nat.le_of_ble_eq_true rfl), (Nat.le_of_ble_eq_true rfl)⟩ d_Rd_init_20) (fun u5 H9 locs9 hu6 w9 => ?_)
  clear w
  subst hu6
  have w : cg_W D classes (va_A [(h0, .inr (1, [.null, .null, .int (Int32.ofInt 0), .int (Int32.ofInt 0)]))] sz) s.heap s (([] : List (ClassId × FieldType)) ++ sgt u2.2 0 sh_Tx ++ sgt u5.2 0 sh_Gm) (([(h0, .inr (1, [.ref (u2.1 0), .null, .int (Int32.ofInt 0), .int (Int32.ofInt 0)]))] : va_W) ++ sgk u2.1 u2.2 0 sh_Tx ++ sgk u5.1 u5.2 0 sh_Gm) H9 locs9 := w9
  clear w9
  generalize H9 = H at w ⊢
  generalize locs9 = locs at w ⊢
  refine cg_put F w cl_Rd 0 1 rfl (by decide) k_169 rfl (by rfl) (by rfl) (Nat.le_of_ble_eq_true rfl) d_Rd_init_23 (fun H locs w => ?_)
  have w : cg_W D classes (va_A [(h0, .inr (1, [.null, .null, .int (Int32.ofInt 0), .int (Int32.ofInt 0)]))] sz) s.heap s (([] : List (ClassId × FieldType)) ++ sgt u2.2 0 sh_Tx ++ sgt u5.2 0 sh_Gm) (([(h0, .inr (1, [.ref (u2.1 0), .ref (u5.1 0), .int (Int32.ofInt 0), .int (Int32.ofInt 0)]))] : va_W) ++ sgk u2.1 u2.2 0 sh_Tx ++ sgk u5.1 u5.2 0 sh_Gm) H locs := w
  refine lv_aload_n F.1 F.2.1 d_Rd_init_26 rfl (lv_at hl 0 rfl) ?_
  refine lv_iconst (v := Int32.ofInt 0) F.1 F.2.1 d_Rd_init_27 (by decide) ?_
  refine cg_put F w cl_Rd 0 2 rfl (by decide) k_170 rfl (by rfl) (by rfl) (Nat.le_of_ble_eq_true rfl) d_Rd_init_28 (fun H locs w => ?_)
  have w : cg_W D classes (va_A [(h0, .inr (1, [.null, .null, .int (Int32.ofInt 0), .int (Int32.ofInt 0)]))] sz) s.heap s (([] : List (ClassId × FieldType)) ++ sgt u2.2 0 sh_Tx ++ sgt u5.2 0 sh_Gm) (([(h0, .inr (1, [.ref (u2.1 0), .ref (u5.1 0), .int (Int32.ofInt 0), .int (Int32.ofInt 0)]))] : va_W) ++ sgk u2.1 u2.2 0 sh_Tx ++ sgk u5.1 u5.2 0 sh_Gm) H locs := w
  refine lv_aload_n F.1 F.2.1 d_Rd_init_31 rfl (lv_at hl 0 rfl) ?_
  refine lv_iconst (v := Int32.ofInt (-1)) F.1 F.2.1 d_Rd_init_32 (by decide) ?_
  refine cg_put F w cl_Rd 0 3 rfl (by decide) k_171 rfl (by rfl) (by rfl) (Nat.le_of_ble_eq_true rfl) d_Rd_init_33 (fun H locs w => ?_)
  have w : cg_W D classes (va_A [(h0, .inr (1, [.null, .null, .int (Int32.ofInt 0), .int (Int32.ofInt 0)]))] sz) s.heap s (([] : List (ClassId × FieldType)) ++ sgt u2.2 0 sh_Tx ++ sgt u5.2 0 sh_Gm) (([(h0, .inr (1, [.ref (u2.1 0), .ref (u5.1 0), .int (Int32.ofInt 0), .int (Int32.ofInt (-1))]))] : va_W) ++ sgk u2.1 u2.2 0 sh_Tx ++ sgk u5.1 u5.2 0 sh_Gm) H locs := w
  refine cg_vretL F w hr hlk (cmb 0 [(1, fun _ => h0), (2, u2.1), (137, u5.1)], cmb 0 [(1, fun _ => 0), (2, u2.2), (137, u5.2)]) rfl ?_ ?_ (Nat.le_of_ble_eq_true rfl) (Nat.le_of_ble_eq_true rfl) d_Rd_init_36
  · show ([(h0, .inr (1, [.ref (u2.1 0), .ref (u5.1 0), .int (Int32.ofInt 0), .int (Int32.ofInt (-1))]))] : va_W) ++ sgk u2.1 u2.2 0 sh_Tx ++ sgk u5.1 u5.2 0 sh_Gm = sgk (cmb 0 [(1, fun _ => h0), (2, u2.1), (137, u5.1)]) (cmb 0 [(1, fun _ => 0), (2, u2.2), (137, u5.2)]) 0 (([(.inl (1, [4, 6, 0, 0]), [0, 0, 0, -1])] : sh_T) ++ sh_Tx ++ sh_Gm)
    rw [sgk_app, sgk_app]
    refine app_congr (app_congr ?_ ?_) ?_
    · rfl
    · exact sgk_in (l1 := [(1, fun _ => h0)]) (l2 := [(137, u5.1)]) (c1 := [(1, fun _ => 0)]) (c2 := [(137, u5.2)]) rfl len_Tx ok_Tx
    · exact sgk_in (l1 := [(1, fun _ => h0), (2, u2.1)]) (l2 := []) (c1 := [(1, fun _ => 0), (2, u2.2)]) (c2 := []) rfl len_Gm ok_Gm
  · show ([] : List (ClassId × FieldType)) ++ sgt u2.2 0 sh_Tx ++ sgt u5.2 0 sh_Gm = sgt (cmb 0 [(1, fun _ => 0), (2, u2.2), (137, u5.2)]) 0 (([(.inl (1, [4, 6, 0, 0]), [0, 0, 0, -1])] : sh_T) ++ sh_Tx ++ sh_Gm)
    rw [sgt_app, sgt_app]
    refine app_congr (app_congr ?_ ?_) ?_
    · rfl
    · exact sgt_in (c1 := [(1, fun _ => 0)]) (c2 := [(137, u5.2)]) len_Tx
    · exact sgt_in (c1 := [(1, fun _ => 0), (2, u2.2)]) (c2 := []) len_Gm
