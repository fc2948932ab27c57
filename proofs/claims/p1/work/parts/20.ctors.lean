set_option maxHeartbeats 4000000 in
set_option maxRecDepth 100000 in
theorem c_Tx_init (l : Launch) (D : va_G) (h0 : Nat) (sz : Nat) : Met l y_Tx_init (Cond.code y_Tx_init b_Tx_init 1 none :: tb) { frames := 1, cells := 1, slots := 200, locals := 12 } (va_Pc [.ref h0] (cg_Pre D classes sz [(h0, .inr (2, [.null, .int 0]))] [])) (va_Qv (fun _ : Nat × ClassId => True) (fun (u : Nat × ClassId) (t : State) => cg_B D classes (va_A [(h0, .inr (2, [.null, .int 0]))] sz) [(h0, .inr (2, [.ref u.1, .int 0])), (u.1, .inl (u.2, 200, .inl (fun _ => 0)))] [(u.2, .char)] t) (va_A [(h0, .inr (2, [.null, .int 0]))] sz)) 1 200 (va_A [(h0, .inr (2, [.null, .int 0]))] sz) := by
  refine cg_met (by decide) (Nat.le_of_ble_eq_true rfl) (fun p e s m below meth c ls F w hr hlk hnm hl => ?_)
  have w : cg_W D classes (va_A [(h0, .inr (2, [.null, .int 0]))] sz) s.heap s [] [(h0, .inr (2, [.null, .int 0]))] s.heap [] := w
  have hl : lv_has ls 1 [(0, .ref h0)] := hl
  refine lv_aload_n F.1 F.2.1 d_Tx_init_0 rfl (lv_at hl 0 rfl) ?_
  refine cg_obj F k_41 ko_i ko_c hl.1 d_Tx_init_1 (Nat.le_of_ble_eq_true rfl) (Nat.le_of_ble_eq_true rfl) ?_
  refine lv_aload_n F.1 F.2.1 d_Tx_init_4 rfl (lv_at hl 0 rfl) ?_
  refine lv_sipush (v := 200) F.1 F.2.1 d_Tx_init_5 (by decide) ?_
  refine cg_newa (atype := .char) (a0 := (200, .inl (fun _ => 0))) F w (ft := .char) kA_char rfl (fun _ => rfl) (by decide) (by decide) (by decide) (Nat.le_of_ble_eq_true rfl) (Nat.le_of_ble_eq_true rfl) d_Tx_init_8 (fun q1 cA2 H w => ?_)
  have w : cg_W D classes (va_A [(h0, .inr (2, [.null, .int 0]))] sz) s.heap s [(cA2, .char)] [(h0, .inr (2, [.null, .int 0])), (q1, .inl (cA2, 200, .inl (fun _ => 0)))] H [] := w
  refine cg_putF F w cl_Tx 0 0 rfl (by decide) k_42 rfl hnm rfl (by rfl) (by rfl) (Nat.le_of_ble_eq_true rfl) d_Tx_init_10 (fun H locs w => ?_)
  have w : cg_W D classes (va_A [(h0, .inr (2, [.null, .int 0]))] sz) s.heap s [(cA2, .char)] [(h0, .inr (2, [.ref q1, .int 0])), (q1, .inl (cA2, 200, .inl (fun _ => 0)))] H locs := w
  refine lv_aload_n F.1 F.2.1 d_Tx_init_13 rfl (lv_at hl 0 rfl) ?_
  refine lv_iconst (v := 0) F.1 F.2.1 d_Tx_init_14 (by decide) ?_
  refine cg_put F w cl_Tx 0 1 rfl (by decide) k_44 rfl (by rfl) (by rfl) (Nat.le_of_ble_eq_true rfl) d_Tx_init_15 (fun H locs w => ?_)
  have w : cg_W D classes (va_A [(h0, .inr (2, [.null, .int 0]))] sz) s.heap s [(cA2, .char)] [(h0, .inr (2, [.ref q1, .int 0])), (q1, .inl (cA2, 200, .inl (fun _ => 0)))] H locs := w
  exact cg_vret F w hr hlk (⟨q1, cA2⟩) (trivial) [0, 1] [0] rfl rfl (by decide) rfl (Nat.le_of_ble_eq_true rfl) (Nat.le_of_ble_eq_true rfl) d_Tx_init_18
set_option maxHeartbeats 4000000 in
set_option maxRecDepth 100000 in
theorem c_Gu_init (l : Launch) (D : va_G) (h0 : Nat) (sz : Nat) : Met l y_Gu_init (Cond.code y_Gu_init b_Gu_init 1 none :: tb) { frames := 1, cells := 2, slots := 20, locals := 12 } (va_Pc [.ref h0] (cg_Pre D classes sz [(h0, .inr (5, [.null, .null, .int 0]))] [])) (va_Qv (fun _ : Unit => True) (fun (u : Unit) (t : State) => cg_B D classes (va_A [(h0, .inr (5, [.null, .null, .int 0]))] sz) [] [] t) (va_A [(h0, .inr (5, [.null, .null, .int 0]))] sz)) 2 20 (va_A [(h0, .inr (5, [.null, .null, .int 0]))] sz) := by
  refine cg_met (by decide) (Nat.le_of_ble_eq_true rfl) (fun p e s m below meth c ls F w hr hlk hnm hl => ?_)
  have w : cg_W D classes (va_A [(h0, .inr (5, [.null, .null, .int 0]))] sz) s.heap s [] [(h0, .inr (5, [.null, .null, .int 0]))] s.heap [] := w
  have hl : lv_has ls 1 [(0, .ref h0)] := hl
  refine lv_aload_n F.1 F.2.1 d_Gu_init_0 rfl (lv_at hl 0 rfl) ?_
  refine cg_obj F k_65 ko_i ko_c hl.1 d_Gu_init_1 (Nat.le_of_ble_eq_true rfl) (Nat.le_of_ble_eq_true rfl) ?_
  refine lv_aload_n F.1 F.2.1 d_Gu_init_4 rfl (lv_at hl 0 rfl) ?_
  refine lv_bipush (v := 16) F.1 F.2.1 d_Gu_init_5 (by decide) ?_
  refine cg_newa (atype := .int) (a0 := (16, .inl (fun _ => 0))) F w (ft := .int) kA_int rfl (fun _ => rfl) (by decide) (by decide) (by decide) (Nat.le_of_ble_eq_true rfl) (Nat.le_of_ble_eq_true rfl) d_Gu_init_7 (fun q1 cA2 H w => ?_)
  have w : cg_W D classes (va_A [(h0, .inr (5, [.null, .null, .int 0]))] sz) s.heap s [(cA2, .int)] [(h0, .inr (5, [.null, .null, .int 0])), (q1, .inl (cA2, 16, .inl (fun _ => 0)))] H [] := w
  refine cg_putF F w cl_Gu 0 0 rfl (by decide) k_66 rfl hnm rfl (by rfl) (by rfl) (Nat.le_of_ble_eq_true rfl) d_Gu_init_9 (fun H locs w => ?_)
  have w : cg_W D classes (va_A [(h0, .inr (5, [.null, .null, .int 0]))] sz) s.heap s [(cA2, .int)] [(h0, .inr (5, [.ref q1, .null, .int 0])), (q1, .inl (cA2, 16, .inl (fun _ => 0)))] H locs := w
  have w := cg_sub w [(h0, .inr (5, [.ref q1, .null, .int 0]))] [0] rfl rfl (by decide) [] [] rfl
  refine lv_aload_n F.1 F.2.1 d_Gu_init_12 rfl (lv_at hl 0 rfl) ?_
  refine lv_iconst (v := 4) F.1 F.2.1 d_Gu_init_13 (by decide) ?_
  refine cg_newa (atype := .char) (a0 := (4, .inl (fun _ => 0))) F w (ft := .char) kA_char rfl (fun _ => rfl) (by decide) (by decide) (by decide) (Nat.le_of_ble_eq_true rfl) (Nat.le_of_ble_eq_true rfl) d_Gu_init_14 (fun q3 cA4 H w => ?_)
  have w : cg_W D classes (va_A [(h0, .inr (5, [.null, .null, .int 0]))] sz) s.heap s [(cA4, .char)] [(h0, .inr (5, [.ref q1, .null, .int 0])), (q3, .inl (cA4, 4, .inl (fun _ => 0)))] H locs := w
  refine cg_putF F w cl_Gu 0 1 rfl (by decide) k_68 rfl hnm rfl (by rfl) (by rfl) (Nat.le_of_ble_eq_true rfl) d_Gu_init_16 (fun H locs w => ?_)
  have w : cg_W D classes (va_A [(h0, .inr (5, [.null, .null, .int 0]))] sz) s.heap s [(cA4, .char)] [(h0, .inr (5, [.ref q1, .ref q3, .int 0])), (q3, .inl (cA4, 4, .inl (fun _ => 0)))] H locs := w
  have w := cg_sub w [(h0, .inr (5, [.ref q1, .ref q3, .int 0]))] [0] rfl rfl (by decide) [] [] rfl
  refine lv_aload_n F.1 F.2.1 d_Gu_init_19 rfl (lv_at hl 0 rfl) ?_
  refine lv_iconst (v := 0) F.1 F.2.1 d_Gu_init_20 (by decide) ?_
  refine cg_put F w cl_Gu 0 2 rfl (by decide) k_70 rfl (by rfl) (by rfl) (Nat.le_of_ble_eq_true rfl) d_Gu_init_21 (fun H locs w => ?_)
  have w : cg_W D classes (va_A [(h0, .inr (5, [.null, .null, .int 0]))] sz) s.heap s [] [(h0, .inr (5, [.ref q1, .ref q3, .int 0]))] H locs := w
  exact cg_vret F w hr hlk (()) (trivial) [] [] rfl rfl (by decide) rfl (Nat.le_of_ble_eq_true rfl) (Nat.le_of_ble_eq_true rfl) d_Gu_init_24
set_option maxHeartbeats 4000000 in
set_option maxRecDepth 100000 in
theorem c_Br_init (l : Launch) (D : va_G) (h0 : Nat) (sz : Nat) : Met l y_Br_init (Cond.code y_Br_init b_Br_init 1 none :: tb) { frames := 1, cells := 1, slots := 12, locals := 12 } (va_Pc [.ref h0] (cg_Pre D classes sz [(h0, .inr (6, [.null, .int 0]))] [])) (va_Qv (fun _ : Nat => True) (fun (u : Nat) (t : State) => cg_B D classes (va_A [(h0, .inr (6, [.null, .int 0]))] sz) [(h0, .inr (6, [.ref u, .int 0]))] [] t) (va_A [(h0, .inr (6, [.null, .int 0]))] sz)) 1 12 (va_A [(h0, .inr (6, [.null, .int 0]))] sz) := by
  refine cg_met (by decide) (Nat.le_of_ble_eq_true rfl) (fun p e s m below meth c ls F w hr hlk hnm hl => ?_)
  have w : cg_W D classes (va_A [(h0, .inr (6, [.null, .int 0]))] sz) s.heap s [] [(h0, .inr (6, [.null, .int 0]))] s.heap [] := w
  have hl : lv_has ls 1 [(0, .ref h0)] := hl
  refine lv_aload_n F.1 F.2.1 d_Br_init_0 rfl (lv_at hl 0 rfl) ?_
  refine cg_obj F k_93 ko_i ko_c hl.1 d_Br_init_1 (Nat.le_of_ble_eq_true rfl) (Nat.le_of_ble_eq_true rfl) ?_
  refine lv_aload_n F.1 F.2.1 d_Br_init_4 rfl (lv_at hl 0 rfl) ?_
  refine lv_bipush (v := 12) F.1 F.2.1 d_Br_init_5 (by decide) ?_
  refine cg_newa (atype := .int) (a0 := (12, .inl (fun _ => 0))) F w (ft := .int) kA_int rfl (fun _ => rfl) (by decide) (by decide) (by decide) (Nat.le_of_ble_eq_true rfl) (Nat.le_of_ble_eq_true rfl) d_Br_init_7 (fun q1 cA2 H w => ?_)
  have w : cg_W D classes (va_A [(h0, .inr (6, [.null, .int 0]))] sz) s.heap s [(cA2, .int)] [(h0, .inr (6, [.null, .int 0])), (q1, .inl (cA2, 12, .inl (fun _ => 0)))] H [] := w
  refine cg_putF F w cl_Br 0 0 rfl (by decide) k_94 rfl hnm rfl (by rfl) (by rfl) (Nat.le_of_ble_eq_true rfl) d_Br_init_9 (fun H locs w => ?_)
  have w : cg_W D classes (va_A [(h0, .inr (6, [.null, .int 0]))] sz) s.heap s [(cA2, .int)] [(h0, .inr (6, [.ref q1, .int 0])), (q1, .inl (cA2, 12, .inl (fun _ => 0)))] H locs := w
  have w := cg_sub w [(h0, .inr (6, [.ref q1, .int 0]))] [0] rfl rfl (by decide) [] [] rfl
  refine lv_aload_n F.1 F.2.1 d_Br_init_12 rfl (lv_at hl 0 rfl) ?_
  refine lv_iconst (v := 0) F.1 F.2.1 d_Br_init_13 (by decide) ?_
  refine cg_put F w cl_Br 0 1 rfl (by decide) k_97 rfl (by rfl) (by rfl) (Nat.le_of_ble_eq_true rfl) d_Br_init_14 (fun H locs w => ?_)
  have w : cg_W D classes (va_A [(h0, .inr (6, [.null, .int 0]))] sz) s.heap s [] [(h0, .inr (6, [.ref q1, .int 0]))] H locs := w
  exact cg_vret F w hr hlk (q1) (trivial) [0] [] rfl rfl (by decide) rfl (Nat.le_of_ble_eq_true rfl) (Nat.le_of_ble_eq_true rfl) d_Br_init_17
set_option maxHeartbeats 4000000 in
set_option maxRecDepth 100000 in
theorem c_Cm_init (l : Launch) (D : va_G) (h0 : Nat) (sz : Nat) : Met l y_Cm_init (Cond.code y_Cm_init b_Cm_init 2 none :: tb) { frames := 2, cells := 12, slots := 83, locals := 32 } (va_Pc [.ref h0] (cg_Pre D classes sz [(h0, .inr (4, [.null, .null, .int 0, .int 0, .int 0]))] [])) (va_Qv (fun _ : Nat × Nat => True) (fun (u : Nat × Nat) (t : State) => cg_B D classes (va_A [(h0, .inr (4, [.null, .null, .int 0, .int 0, .int 0]))] sz) [(h0, .inr (4, [.ref u.1, .ref u.2, .int 0, .int 0, .int 0]))] [] t) (va_A [(h0, .inr (4, [.null, .null, .int 0, .int 0, .int 0]))] sz)) 12 83 (va_A [(h0, .inr (4, [.null, .null, .int 0, .int 0, .int 0]))] sz) := by
  refine cg_met (by decide) (Nat.le_of_ble_eq_true rfl) (fun p e s m below meth c ls F w hr hlk hnm hl => ?_)
  have w : cg_W D classes (va_A [(h0, .inr (4, [.null, .null, .int 0, .int 0, .int 0]))] sz) s.heap s [] [(h0, .inr (4, [.null, .null, .int 0, .int 0, .int 0]))] s.heap [] := w
  have hl : lv_has ls 2 [(0, .ref h0)] := hl
  refine lv_aload_n F.1 F.2.1 d_Cm_init_0 rfl (lv_at hl 0 rfl) ?_
  refine cg_obj F k_84 ko_i ko_c hl.1 d_Cm_init_1 (Nat.le_of_ble_eq_true rfl) (Nat.le_of_ble_eq_true rfl) ?_
  refine lv_aload_n F.1 F.2.1 d_Cm_init_4 rfl (lv_at hl 0 rfl) ?_
  refine cg_new (fs := [.null, .null, .int 0]) F w cl_Gu k_85 ki_Gu kn_Gu z_Gu (Nat.le_of_ble_eq_true rfl) (Nat.le_of_ble_eq_true rfl) d_Cm_init_5 (fun q1 H w => ?_)
  have w : cg_W D classes (va_A [(h0, .inr (4, [.null, .null, .int 0, .int 0, .int 0]))] sz) s.heap s [] [(h0, .inr (4, [.null, .null, .int 0, .int 0, .int 0])), (q1, .inr (5, [.null, .null, .int 0]))] H [] := w
  refine lv_dup F.1 F.2.1 d_Cm_init_8 rfl ?_
  refine cg_cv (wc := [(q1, .inr (5, [.null, .null, .int 0]))]) (wr := [(h0, .inr (4, [.null, .null, .int 0, .int 0, .int 0]))]) w [1] [0] rfl rfl (by decide) (by decide) (cg_rIN (As := []) (rest := [.ref q1, .ref h0]) F (c_Gu_init l D q1 H.size) e_Gu_init rfl ki_Gu_init k_86 (cg_pre w [1] [] rfl rfl (by decide) rfl) rfl hl.1 rfl (Nat.le_of_ble_eq_true rfl) ⟨⟨rfl, rfl⟩, ⟨Nat.le_of_ble_eq_true rfl, Nat.le_of_ble_eq_true rfl⟩, Nat.le_of_ble_eq_true rfl, Nat.le_of_ble_eq_true rfl⟩ d_Cm_init_9) (fun u H locs hu2 w => ?_)
  have w : cg_W D classes (va_A [(h0, .inr (4, [.null, .null, .int 0, .int 0, .int 0]))] sz) s.heap s [] [(h0, .inr (4, [.null, .null, .int 0, .int 0, .int 0]))] H locs := w
  refine cg_putF F w cl_Cm 0 0 rfl (by decide) k_106 rfl hnm rfl (by rfl) (by rfl) (Nat.le_of_ble_eq_true rfl) d_Cm_init_12 (fun H locs w => ?_)
  have w : cg_W D classes (va_A [(h0, .inr (4, [.null, .null, .int 0, .int 0, .int 0]))] sz) s.heap s [] [(h0, .inr (4, [.ref q1, .null, .int 0, .int 0, .int 0]))] H locs := w
  refine lv_aload_n F.1 F.2.1 d_Cm_init_15 rfl (lv_at hl 0 rfl) ?_
  refine lv_iconst (v := 4) F.1 F.2.1 d_Cm_init_16 (by decide) ?_
  refine cg_anew (N' := 4) F w k_87 kO_Br (by decide) (by decide) (by decide) (Nat.le_of_ble_eq_true rfl) (Nat.le_of_ble_eq_true rfl) d_Cm_init_17 (fun q3 cA4 H w => ?_)
  have w : cg_W D classes (va_A [(h0, .inr (4, [.null, .null, .int 0, .int 0, .int 0]))] sz) s.heap s [(cA4, .object R_Br)] [(h0, .inr (4, [.ref q1, .null, .int 0, .int 0, .int 0])), (q3, .inl (cA4, 4, .inr (.inr (.inr (.inr (fun _ => none))))))] H locs := w
  refine cg_putF F w cl_Cm 0 1 rfl (by decide) k_109 rfl hnm rfl (by rfl) (by rfl) (Nat.le_of_ble_eq_true rfl) d_Cm_init_20 (fun H locs w => ?_)
  have w : cg_W D classes (va_A [(h0, .inr (4, [.null, .null, .int 0, .int 0, .int 0]))] sz) s.heap s [(cA4, .object R_Br)] [(h0, .inr (4, [.ref q1, .ref q3, .int 0, .int 0, .int 0])), (q3, .inl (cA4, 4, .inr (.inr (.inr (.inr (fun _ => none))))))] H locs := w
  refine lv_aload_n F.1 F.2.1 d_Cm_init_23 rfl (lv_at hl 0 rfl) ?_
  refine lv_iconst (v := 0) F.1 F.2.1 d_Cm_init_24 (by decide) ?_
  refine cg_put F w cl_Cm 0 2 rfl (by decide) k_114 rfl (by rfl) (by rfl) (Nat.le_of_ble_eq_true rfl) d_Cm_init_25 (fun H locs w => ?_)
  have w : cg_W D classes (va_A [(h0, .inr (4, [.null, .null, .int 0, .int 0, .int 0]))] sz) s.heap s [(cA4, .object R_Br)] [(h0, .inr (4, [.ref q1, .ref q3, .int 0, .int 0, .int 0])), (q3, .inl (cA4, 4, .inr (.inr (.inr (.inr (fun _ => none))))))] H locs := w
  refine lv_aload_n F.1 F.2.1 d_Cm_init_28 rfl (lv_at hl 0 rfl) ?_
  refine lv_iconst (v := 0) F.1 F.2.1 d_Cm_init_29 (by decide) ?_
  refine cg_put F w cl_Cm 0 3 rfl (by decide) k_117 rfl (by rfl) (by rfl) (Nat.le_of_ble_eq_true rfl) d_Cm_init_30 (fun H locs w => ?_)
  have w : cg_W D classes (va_A [(h0, .inr (4, [.null, .null, .int 0, .int 0, .int 0]))] sz) s.heap s [(cA4, .object R_Br)] [(h0, .inr (4, [.ref q1, .ref q3, .int 0, .int 0, .int 0])), (q3, .inl (cA4, 4, .inr (.inr (.inr (.inr (fun _ => none))))))] H locs := w
  refine lv_aload_n F.1 F.2.1 d_Cm_init_33 rfl (lv_at hl 0 rfl) ?_
  refine lv_iconst (v := 0) F.1 F.2.1 d_Cm_init_34 (by decide) ?_
  refine cg_put F w cl_Cm 0 4 rfl (by decide) k_122 rfl (by rfl) (by rfl) (Nat.le_of_ble_eq_true rfl) d_Cm_init_35 (fun H locs w => ?_)
  have w : cg_W D classes (va_A [(h0, .inr (4, [.null, .null, .int 0, .int 0, .int 0]))] sz) s.heap s [(cA4, .object R_Br)] [(h0, .inr (4, [.ref q1, .ref q3, .int 0, .int 0, .int 0])), (q3, .inl (cA4, 4, .inr (.inr (.inr (.inr (fun _ => none))))))] H locs := w
  refine lv_iconst (v := 0) F.1 F.2.1 d_Cm_init_38 (by decide) ?_
  refine lv_istore_n F.1 F.2.1 d_Cm_init_39 rfl hl (by decide) rfl (fun ls hl => ?_)
  have hl : lv_has ls 2 [(1, .int 0), (0, .ref h0)] := hl
  refine lv_iload_n F.1 F.2.1 d_Cm_init_40 rfl (lv_at hl 0 rfl) ?_
  refine lv_iconst (v := 4) F.1 F.2.1 d_Cm_init_41 (by decide) ?_
  refine lv_icmp_ge F.1 F.2.1 d_Cm_init_42 (tgt := 64) (by decide) (fun hh => absurd hh (by decide)) (fun _ => ?_)
  refine lv_aload_n F.1 F.2.1 d_Cm_init_45 rfl (lv_at hl 1 rfl) ?_
  refine cg_get F w cl_Cm 0 1 rfl (by decide) k_109 rfl d_Cm_init_46 ?_
  refine lv_iload_n F.1 F.2.1 d_Cm_init_49 rfl (lv_at hl 0 rfl) ?_
  refine cg_new (fs := [.null, .int 0]) F w cl_Br k_87 ki_Br kn_Br z_Br (Nat.le_of_ble_eq_true rfl) (Nat.le_of_ble_eq_true rfl) d_Cm_init_50 (fun q5 H w => ?_)
  have w : cg_W D classes (va_A [(h0, .inr (4, [.null, .null, .int 0, .int 0, .int 0]))] sz) s.heap s [(cA4, .object R_Br)] [(h0, .inr (4, [.ref q1, .ref q3, .int 0, .int 0, .int 0])), (q3, .inl (cA4, 4, .inr (.inr (.inr (.inr (fun _ => none)))))), (q5, .inr (6, [.null, .int 0]))] H locs := w
  refine lv_dup F.1 F.2.1 d_Cm_init_53 rfl ?_
  refine cg_cv (wc := [(q5, .inr (6, [.null, .int 0]))]) (wr := [(h0, .inr (4, [.ref q1, .ref q3, .int 0, .int 0, .int 0])), (q3, .inl (cA4, 4, .inr (.inr (.inr (.inr (fun _ => none))))))]) w [2] [0, 1] rfl rfl (by decide) (by decide) (cg_rIN (As := []) (rest := [.ref q5, .int 0, .ref q3]) F (c_Br_init l D q5 H.size) e_Br_init rfl ki_Br_init k_90 (cg_pre w [2] [] rfl rfl (by decide) rfl) rfl hl.1 rfl (Nat.le_of_ble_eq_true rfl) ⟨⟨rfl, rfl⟩, ⟨Nat.le_of_ble_eq_true rfl, Nat.le_of_ble_eq_true rfl⟩, Nat.le_of_ble_eq_true rfl, Nat.le_of_ble_eq_true rfl⟩ d_Cm_init_54) (fun u H locs hu7 w => ?_)
  obtain ⟨q6, rfl⟩ : ∃ z, z = u := ⟨_, rfl⟩
  have w : cg_W D classes (va_A [(h0, .inr (4, [.null, .null, .int 0, .int 0, .int 0]))] sz) s.heap s [(cA4, .object R_Br)] [(h0, .inr (4, [.ref q1, .ref q3, .int 0, .int 0, .int 0])), (q3, .inl (cA4, 4, .inr (.inr (.inr (.inr (fun _ => none)))))), (q5, .inr (6, [.ref q6, .int 0]))] H locs := w
  refine cg_aast (ci := 6) F w 1 0 2 rfl rfl rfl rfl (cg_in9 (by decide)) d_Cm_init_57 (fun H locs w => ?_)
  have w : cg_W D classes (va_A [(h0, .inr (4, [.null, .null, .int 0, .int 0, .int 0]))] sz) s.heap s [(cA4, .object R_Br)] [(h0, .inr (4, [.ref q1, .ref q3, .int 0, .int 0, .int 0])), (q3, .inl (cA4, 4, .inr (.inr (.inr (.inr (va_up (fun _ => none) 0 (some q5))))))), (q5, .inr (6, [.ref q6, .int 0]))] H locs := w
  have w := cg_sub w [(h0, .inr (4, [.ref q1, .ref q3, .int 0, .int 0, .int 0])), (q3, .inl (cA4, 4, .inr (.inr (.inr (.inr (va_up (fun _ => none) 0 (some q5)))))))] [0, 1] rfl rfl (by decide) [(cA4, .object R_Br)] [0] rfl
  refine lv_iinc (k := 0) (v := 1) F.1 F.2.1 d_Cm_init_58 hl rfl (by rfl) (by decide) rfl (fun ls hl => ?_)
  have hl : lv_has ls 2 [(1, .int 1), (0, .ref h0)] := hl
  refine lv_goto F.1 F.2.1 d_Cm_init_61 (tgt := 40) (by decide) ?_
  refine lv_iload_n F.1 F.2.1 d_Cm_init_40 rfl (lv_at hl 0 rfl) ?_
  refine lv_iconst (v := 4) F.1 F.2.1 d_Cm_init_41 (by decide) ?_
  refine lv_icmp_ge F.1 F.2.1 d_Cm_init_42 (tgt := 64) (by decide) (fun hh => absurd hh (by decide)) (fun _ => ?_)
  refine lv_aload_n F.1 F.2.1 d_Cm_init_45 rfl (lv_at hl 1 rfl) ?_
  refine cg_get F w cl_Cm 0 1 rfl (by decide) k_109 rfl d_Cm_init_46 ?_
  refine lv_iload_n F.1 F.2.1 d_Cm_init_49 rfl (lv_at hl 0 rfl) ?_
  refine cg_new (fs := [.null, .int 0]) F w cl_Br k_87 ki_Br kn_Br z_Br (Nat.le_of_ble_eq_true rfl) (Nat.le_of_ble_eq_true rfl) d_Cm_init_50 (fun q8 H w => ?_)
  have w : cg_W D classes (va_A [(h0, .inr (4, [.null, .null, .int 0, .int 0, .int 0]))] sz) s.heap s [(cA4, .object R_Br)] [(h0, .inr (4, [.ref q1, .ref q3, .int 0, .int 0, .int 0])), (q3, .inl (cA4, 4, .inr (.inr (.inr (.inr (va_up (fun _ => none) 0 (some q5))))))), (q8, .inr (6, [.null, .int 0]))] H locs := w
  refine lv_dup F.1 F.2.1 d_Cm_init_53 rfl ?_
  refine cg_cv (wc := [(q8, .inr (6, [.null, .int 0]))]) (wr := [(h0, .inr (4, [.ref q1, .ref q3, .int 0, .int 0, .int 0])), (q3, .inl (cA4, 4, .inr (.inr (.inr (.inr (va_up (fun _ => none) 0 (some q5)))))))]) w [2] [0, 1] rfl rfl (by decide) (by decide) (cg_rIN (As := []) (rest := [.ref q8, .int 1, .ref q3]) F (c_Br_init l D q8 H.size) e_Br_init rfl ki_Br_init k_90 (cg_pre w [2] [] rfl rfl (by decide) rfl) rfl hl.1 rfl (Nat.le_of_ble_eq_true rfl) ⟨⟨rfl, rfl⟩, ⟨Nat.le_of_ble_eq_true rfl, Nat.le_of_ble_eq_true rfl⟩, Nat.le_of_ble_eq_true rfl, Nat.le_of_ble_eq_true rfl⟩ d_Cm_init_54) (fun u H locs hu10 w => ?_)
  obtain ⟨q9, rfl⟩ : ∃ z, z = u := ⟨_, rfl⟩
  have w : cg_W D classes (va_A [(h0, .inr (4, [.null, .null, .int 0, .int 0, .int 0]))] sz) s.heap s [(cA4, .object R_Br)] [(h0, .inr (4, [.ref q1, .ref q3, .int 0, .int 0, .int 0])), (q3, .inl (cA4, 4, .inr (.inr (.inr (.inr (va_up (fun _ => none) 0 (some q5))))))), (q8, .inr (6, [.ref q9, .int 0]))] H locs := w
  refine cg_aast (ci := 6) F w 1 0 2 rfl rfl rfl rfl (cg_in9 (by decide)) d_Cm_init_57 (fun H locs w => ?_)
  have w : cg_W D classes (va_A [(h0, .inr (4, [.null, .null, .int 0, .int 0, .int 0]))] sz) s.heap s [(cA4, .object R_Br)] [(h0, .inr (4, [.ref q1, .ref q3, .int 0, .int 0, .int 0])), (q3, .inl (cA4, 4, .inr (.inr (.inr (.inr (va_up (va_up (fun _ => none) 0 (some q5)) 1 (some q8))))))), (q8, .inr (6, [.ref q9, .int 0]))] H locs := w
  have w := cg_sub w [(h0, .inr (4, [.ref q1, .ref q3, .int 0, .int 0, .int 0])), (q3, .inl (cA4, 4, .inr (.inr (.inr (.inr (va_up (va_up (fun _ => none) 0 (some q5)) 1 (some q8)))))))] [0, 1] rfl rfl (by decide) [(cA4, .object R_Br)] [0] rfl
  refine lv_iinc (k := 0) (v := 2) F.1 F.2.1 d_Cm_init_58 hl rfl (by rfl) (by decide) rfl (fun ls hl => ?_)
  have hl : lv_has ls 2 [(1, .int 2), (0, .ref h0)] := hl
  refine lv_goto F.1 F.2.1 d_Cm_init_61 (tgt := 40) (by decide) ?_
  refine lv_iload_n F.1 F.2.1 d_Cm_init_40 rfl (lv_at hl 0 rfl) ?_
  refine lv_iconst (v := 4) F.1 F.2.1 d_Cm_init_41 (by decide) ?_
  refine lv_icmp_ge F.1 F.2.1 d_Cm_init_42 (tgt := 64) (by decide) (fun hh => absurd hh (by decide)) (fun _ => ?_)
  refine lv_aload_n F.1 F.2.1 d_Cm_init_45 rfl (lv_at hl 1 rfl) ?_
  refine cg_get F w cl_Cm 0 1 rfl (by decide) k_109 rfl d_Cm_init_46 ?_
  refine lv_iload_n F.1 F.2.1 d_Cm_init_49 rfl (lv_at hl 0 rfl) ?_
  refine cg_new (fs := [.null, .int 0]) F w cl_Br k_87 ki_Br kn_Br z_Br (Nat.le_of_ble_eq_true rfl) (Nat.le_of_ble_eq_true rfl) d_Cm_init_50 (fun q11 H w => ?_)
  have w : cg_W D classes (va_A [(h0, .inr (4, [.null, .null, .int 0, .int 0, .int 0]))] sz) s.heap s [(cA4, .object R_Br)] [(h0, .inr (4, [.ref q1, .ref q3, .int 0, .int 0, .int 0])), (q3, .inl (cA4, 4, .inr (.inr (.inr (.inr (va_up (va_up (fun _ => none) 0 (some q5)) 1 (some q8))))))), (q11, .inr (6, [.null, .int 0]))] H locs := w
  refine lv_dup F.1 F.2.1 d_Cm_init_53 rfl ?_
  refine cg_cv (wc := [(q11, .inr (6, [.null, .int 0]))]) (wr := [(h0, .inr (4, [.ref q1, .ref q3, .int 0, .int 0, .int 0])), (q3, .inl (cA4, 4, .inr (.inr (.inr (.inr (va_up (va_up (fun _ => none) 0 (some q5)) 1 (some q8)))))))]) w [2] [0, 1] rfl rfl (by decide) (by decide) (cg_rIN (As := []) (rest := [.ref q11, .int 2, .ref q3]) F (c_Br_init l D q11 H.size) e_Br_init rfl ki_Br_init k_90 (cg_pre w [2] [] rfl rfl (by decide) rfl) rfl hl.1 rfl (Nat.le_of_ble_eq_true rfl) ⟨⟨rfl, rfl⟩, ⟨Nat.le_of_ble_eq_true rfl, Nat.le_of_ble_eq_true rfl⟩, Nat.le_of_ble_eq_true rfl, Nat.le_of_ble_eq_true rfl⟩ d_Cm_init_54) (fun u H locs hu13 w => ?_)
  obtain ⟨q12, rfl⟩ : ∃ z, z = u := ⟨_, rfl⟩
  have w : cg_W D classes (va_A [(h0, .inr (4, [.null, .null, .int 0, .int 0, .int 0]))] sz) s.heap s [(cA4, .object R_Br)] [(h0, .inr (4, [.ref q1, .ref q3, .int 0, .int 0, .int 0])), (q3, .inl (cA4, 4, .inr (.inr (.inr (.inr (va_up (va_up (fun _ => none) 0 (some q5)) 1 (some q8))))))), (q11, .inr (6, [.ref q12, .int 0]))] H locs := w
  refine cg_aast (ci := 6) F w 1 0 2 rfl rfl rfl rfl (cg_in9 (by decide)) d_Cm_init_57 (fun H locs w => ?_)
  have w : cg_W D classes (va_A [(h0, .inr (4, [.null, .null, .int 0, .int 0, .int 0]))] sz) s.heap s [(cA4, .object R_Br)] [(h0, .inr (4, [.ref q1, .ref q3, .int 0, .int 0, .int 0])), (q3, .inl (cA4, 4, .inr (.inr (.inr (.inr (va_up (va_up (va_up (fun _ => none) 0 (some q5)) 1 (some q8)) 2 (some q11))))))), (q11, .inr (6, [.ref q12, .int 0]))] H locs := w
  have w := cg_sub w [(h0, .inr (4, [.ref q1, .ref q3, .int 0, .int 0, .int 0])), (q3, .inl (cA4, 4, .inr (.inr (.inr (.inr (va_up (va_up (va_up (fun _ => none) 0 (some q5)) 1 (some q8)) 2 (some q11)))))))] [0, 1] rfl rfl (by decide) [(cA4, .object R_Br)] [0] rfl
  refine lv_iinc (k := 0) (v := 3) F.1 F.2.1 d_Cm_init_58 hl rfl (by rfl) (by decide) rfl (fun ls hl => ?_)
  have hl : lv_has ls 2 [(1, .int 3), (0, .ref h0)] := hl
  refine lv_goto F.1 F.2.1 d_Cm_init_61 (tgt := 40) (by decide) ?_
  refine lv_iload_n F.1 F.2.1 d_Cm_init_40 rfl (lv_at hl 0 rfl) ?_
  refine lv_iconst (v := 4) F.1 F.2.1 d_Cm_init_41 (by decide) ?_
  refine lv_icmp_ge F.1 F.2.1 d_Cm_init_42 (tgt := 64) (by decide) (fun hh => absurd hh (by decide)) (fun _ => ?_)
  refine lv_aload_n F.1 F.2.1 d_Cm_init_45 rfl (lv_at hl 1 rfl) ?_
  refine cg_get F w cl_Cm 0 1 rfl (by decide) k_109 rfl d_Cm_init_46 ?_
  refine lv_iload_n F.1 F.2.1 d_Cm_init_49 rfl (lv_at hl 0 rfl) ?_
  refine cg_new (fs := [.null, .int 0]) F w cl_Br k_87 ki_Br kn_Br z_Br (Nat.le_of_ble_eq_true rfl) (Nat.le_of_ble_eq_true rfl) d_Cm_init_50 (fun q14 H w => ?_)
  have w : cg_W D classes (va_A [(h0, .inr (4, [.null, .null, .int 0, .int 0, .int 0]))] sz) s.heap s [(cA4, .object R_Br)] [(h0, .inr (4, [.ref q1, .ref q3, .int 0, .int 0, .int 0])), (q3, .inl (cA4, 4, .inr (.inr (.inr (.inr (va_up (va_up (va_up (fun _ => none) 0 (some q5)) 1 (some q8)) 2 (some q11))))))), (q14, .inr (6, [.null, .int 0]))] H locs := w
  refine lv_dup F.1 F.2.1 d_Cm_init_53 rfl ?_
  refine cg_cv (wc := [(q14, .inr (6, [.null, .int 0]))]) (wr := [(h0, .inr (4, [.ref q1, .ref q3, .int 0, .int 0, .int 0])), (q3, .inl (cA4, 4, .inr (.inr (.inr (.inr (va_up (va_up (va_up (fun _ => none) 0 (some q5)) 1 (some q8)) 2 (some q11)))))))]) w [2] [0, 1] rfl rfl (by decide) (by decide) (cg_rIN (As := []) (rest := [.ref q14, .int 3, .ref q3]) F (c_Br_init l D q14 H.size) e_Br_init rfl ki_Br_init k_90 (cg_pre w [2] [] rfl rfl (by decide) rfl) rfl hl.1 rfl (Nat.le_of_ble_eq_true rfl) ⟨⟨rfl, rfl⟩, ⟨Nat.le_of_ble_eq_true rfl, Nat.le_of_ble_eq_true rfl⟩, Nat.le_of_ble_eq_true rfl, Nat.le_of_ble_eq_true rfl⟩ d_Cm_init_54) (fun u H locs hu16 w => ?_)
  obtain ⟨q15, rfl⟩ : ∃ z, z = u := ⟨_, rfl⟩
  have w : cg_W D classes (va_A [(h0, .inr (4, [.null, .null, .int 0, .int 0, .int 0]))] sz) s.heap s [(cA4, .object R_Br)] [(h0, .inr (4, [.ref q1, .ref q3, .int 0, .int 0, .int 0])), (q3, .inl (cA4, 4, .inr (.inr (.inr (.inr (va_up (va_up (va_up (fun _ => none) 0 (some q5)) 1 (some q8)) 2 (some q11))))))), (q14, .inr (6, [.ref q15, .int 0]))] H locs := w
  refine cg_aast (ci := 6) F w 1 0 2 rfl rfl rfl rfl (cg_in9 (by decide)) d_Cm_init_57 (fun H locs w => ?_)
  have w : cg_W D classes (va_A [(h0, .inr (4, [.null, .null, .int 0, .int 0, .int 0]))] sz) s.heap s [(cA4, .object R_Br)] [(h0, .inr (4, [.ref q1, .ref q3, .int 0, .int 0, .int 0])), (q3, .inl (cA4, 4, .inr (.inr (.inr (.inr (va_up (va_up (va_up (va_up (fun _ => none) 0 (some q5)) 1 (some q8)) 2 (some q11)) 3 (some q14))))))), (q14, .inr (6, [.ref q15, .int 0]))] H locs := w
  have w := cg_sub w [(h0, .inr (4, [.ref q1, .ref q3, .int 0, .int 0, .int 0])), (q3, .inl (cA4, 4, .inr (.inr (.inr (.inr (va_up (va_up (va_up (va_up (fun _ => none) 0 (some q5)) 1 (some q8)) 2 (some q11)) 3 (some q14)))))))] [0, 1] rfl rfl (by decide) [(cA4, .object R_Br)] [0] rfl
  refine lv_iinc (k := 0) (v := 4) F.1 F.2.1 d_Cm_init_58 hl rfl (by rfl) (by decide) rfl (fun ls hl => ?_)
  have hl : lv_has ls 2 [(1, .int 4), (0, .ref h0)] := hl
  refine lv_goto F.1 F.2.1 d_Cm_init_61 (tgt := 40) (by decide) ?_
  refine lv_iload_n F.1 F.2.1 d_Cm_init_40 rfl (lv_at hl 0 rfl) ?_
  refine lv_iconst (v := 4) F.1 F.2.1 d_Cm_init_41 (by decide) ?_
  refine lv_icmp_ge F.1 F.2.1 d_Cm_init_42 (tgt := 64) (by decide) (fun _ => ?_) (fun hh => absurd (by decide) hh)
  exact cg_vret F w hr hlk (⟨q1, q3⟩) (trivial) [0] [] rfl rfl (by decide) rfl (Nat.le_of_ble_eq_true rfl) (Nat.le_of_ble_eq_true rfl) d_Cm_init_64
set_option maxHeartbeats 4000000 in
set_option maxRecDepth 100000 in
theorem c_Gm_init (l : Launch) (D : va_G) (h0 : Nat) (sz : Nat) : Met l y_Gm_init (Cond.code y_Gm_init b_Gm_init 2 none :: tb) { frames := 3, cells := 136, slots := 919, locals := 53 } (va_Pc [.ref h0] (cg_Pre D classes sz [(h0, .inr (3, [.null, .null, .null, .null, .int 0]))] [])) (va_Qv (fun _ : Nat × Nat × Nat × Nat × ClassId × ClassId => True) (fun (u : Nat × Nat × Nat × Nat × ClassId × ClassId) (t : State) => cg_B D classes (va_A [(h0, .inr (3, [.null, .null, .null, .null, .int 0]))] sz) [(h0, .inr (3, [.ref u.1, .ref u.2.1, .ref u.2.2.1, .ref u.2.2.2.1, .int 0])), (u.1, .inl (u.2.2.2.2.1, 3, .inl (fun _ => 0))), (u.2.1, .inl (u.2.2.2.2.2, 3, .inl (fun _ => 0)))] [(u.2.2.2.2.1, .int), (u.2.2.2.2.2, .int)] t) (va_A [(h0, .inr (3, [.null, .null, .null, .null, .int 0]))] sz)) 136 919 (va_A [(h0, .inr (3, [.null, .null, .null, .null, .int 0]))] sz) := by
  refine cg_met (by decide) (Nat.le_of_ble_eq_true rfl) (fun p e s m below meth c ls F w hr hlk hnm hl => ?_)
  have w : cg_W D classes (va_A [(h0, .inr (3, [.null, .null, .null, .null, .int 0]))] sz) s.heap s [] [(h0, .inr (3, [.null, .null, .null, .null, .int 0]))] s.heap [] := w
  have hl : lv_has ls 2 [(0, .ref h0)] := hl
  refine lv_aload_n F.1 F.2.1 d_Gm_init_0 rfl (lv_at hl 0 rfl) ?_
  refine cg_obj F k_57 ko_i ko_c hl.1 d_Gm_init_1 (Nat.le_of_ble_eq_true rfl) (Nat.le_of_ble_eq_true rfl) ?_
  refine lv_aload_n F.1 F.2.1 d_Gm_init_4 rfl (lv_at hl 0 rfl) ?_
  refine lv_iconst (v := 3) F.1 F.2.1 d_Gm_init_5 (by decide) ?_
  refine cg_newa (atype := .int) (a0 := (3, .inl (fun _ => 0))) F w (ft := .int) kA_int rfl (fun _ => rfl) (by decide) (by decide) (by decide) (Nat.le_of_ble_eq_true rfl) (Nat.le_of_ble_eq_true rfl) d_Gm_init_6 (fun q1 cA2 H w => ?_)
  have w : cg_W D classes (va_A [(h0, .inr (3, [.null, .null, .null, .null, .int 0]))] sz) s.heap s [(cA2, .int)] [(h0, .inr (3, [.null, .null, .null, .null, .int 0])), (q1, .inl (cA2, 3, .inl (fun _ => 0)))] H [] := w
  refine cg_putF F w cl_Gm 0 0 rfl (by decide) k_136 rfl hnm rfl (by rfl) (by rfl) (Nat.le_of_ble_eq_true rfl) d_Gm_init_8 (fun H locs w => ?_)
  have w : cg_W D classes (va_A [(h0, .inr (3, [.null, .null, .null, .null, .int 0]))] sz) s.heap s [(cA2, .int)] [(h0, .inr (3, [.ref q1, .null, .null, .null, .int 0])), (q1, .inl (cA2, 3, .inl (fun _ => 0)))] H locs := w
  refine lv_aload_n F.1 F.2.1 d_Gm_init_11 rfl (lv_at hl 0 rfl) ?_
  refine lv_iconst (v := 3) F.1 F.2.1 d_Gm_init_12 (by decide) ?_
  refine cg_newa (atype := .int) (a0 := (3, .inl (fun _ => 0))) F w (ft := .int) kA_int rfl (fun _ => rfl) (by decide) (by decide) (by decide) (Nat.le_of_ble_eq_true rfl) (Nat.le_of_ble_eq_true rfl) d_Gm_init_13 (fun q3 cA4 H w => ?_)
  have w : cg_W D classes (va_A [(h0, .inr (3, [.null, .null, .null, .null, .int 0]))] sz) s.heap s [(cA2, .int), (cA4, .int)] [(h0, .inr (3, [.ref q1, .null, .null, .null, .int 0])), (q1, .inl (cA2, 3, .inl (fun _ => 0))), (q3, .inl (cA4, 3, .inl (fun _ => 0)))] H locs := w
  refine cg_putF F w cl_Gm 0 1 rfl (by decide) k_138 rfl hnm rfl (by rfl) (by rfl) (Nat.le_of_ble_eq_true rfl) d_Gm_init_15 (fun H locs w => ?_)
  have w : cg_W D classes (va_A [(h0, .inr (3, [.null, .null, .null, .null, .int 0]))] sz) s.heap s [(cA2, .int), (cA4, .int)] [(h0, .inr (3, [.ref q1, .ref q3, .null, .null, .int 0])), (q1, .inl (cA2, 3, .inl (fun _ => 0))), (q3, .inl (cA4, 3, .inl (fun _ => 0)))] H locs := w
  refine lv_aload_n F.1 F.2.1 d_Gm_init_18 rfl (lv_at hl 0 rfl) ?_
  refine lv_bipush (v := 10) F.1 F.2.1 d_Gm_init_19 (by decide) ?_
  refine cg_anew (N' := 10) F w k_58 kO_Cm (by decide) (by decide) (by decide) (Nat.le_of_ble_eq_true rfl) (Nat.le_of_ble_eq_true rfl) d_Gm_init_21 (fun q5 cA6 H w => ?_)
  have w : cg_W D classes (va_A [(h0, .inr (3, [.null, .null, .null, .null, .int 0]))] sz) s.heap s [(cA2, .int), (cA4, .int), (cA6, .object R_Cm)] [(h0, .inr (3, [.ref q1, .ref q3, .null, .null, .int 0])), (q1, .inl (cA2, 3, .inl (fun _ => 0))), (q3, .inl (cA4, 3, .inl (fun _ => 0))), (q5, .inl (cA6, 10, .inr (.inr (.inr (.inr (fun _ => none))))))] H locs := w
  refine cg_putF F w cl_Gm 0 2 rfl (by decide) k_141 rfl hnm rfl (by rfl) (by rfl) (Nat.le_of_ble_eq_true rfl) d_Gm_init_24 (fun H locs w => ?_)
  have w : cg_W D classes (va_A [(h0, .inr (3, [.null, .null, .null, .null, .int 0]))] sz) s.heap s [(cA2, .int), (cA4, .int), (cA6, .object R_Cm)] [(h0, .inr (3, [.ref q1, .ref q3, .ref q5, .null, .int 0])), (q1, .inl (cA2, 3, .inl (fun _ => 0))), (q3, .inl (cA4, 3, .inl (fun _ => 0))), (q5, .inl (cA6, 10, .inr (.inr (.inr (.inr (fun _ => none))))))] H locs := w
  refine lv_aload_n F.1 F.2.1 d_Gm_init_27 rfl (lv_at hl 0 rfl) ?_
  refine cg_new (fs := [.null, .null, .int 0]) F w cl_Gu k_60 ki_Gu kn_Gu z_Gu (Nat.le_of_ble_eq_true rfl) (Nat.le_of_ble_eq_true rfl) d_Gm_init_28 (fun q7 H w => ?_)
  have w : cg_W D classes (va_A [(h0, .inr (3, [.null, .null, .null, .null, .int 0]))] sz) s.heap s [(cA2, .int), (cA4, .int), (cA6, .object R_Cm)] [(h0, .inr (3, [.ref q1, .ref q3, .ref q5, .null, .int 0])), (q1, .inl (cA2, 3, .inl (fun _ => 0))), (q3, .inl (cA4, 3, .inl (fun _ => 0))), (q5, .inl (cA6, 10, .inr (.inr (.inr (.inr (fun _ => none)))))), (q7, .inr (5, [.null, .null, .int 0]))] H locs := w
  refine lv_dup F.1 F.2.1 d_Gm_init_31 rfl ?_
  refine cg_cv (wc := [(q7, .inr (5, [.null, .null, .int 0]))]) (wr := [(h0, .inr (3, [.ref q1, .ref q3, .ref q5, .null, .int 0])), (q1, .inl (cA2, 3, .inl (fun _ => 0))), (q3, .inl (cA4, 3, .inl (fun _ => 0))), (q5, .inl (cA6, 10, .inr (.inr (.inr (.inr (fun _ => none))))))]) w [4] [0, 1, 2, 3] rfl rfl (by decide) (by decide) (cg_rIN (As := []) (rest := [.ref q7, .ref h0]) F (c_Gu_init l D q7 H.size) e_Gu_init rfl ki_Gu_init k_62 (cg_pre w [4] [] rfl rfl (by decide) rfl) rfl hl.1 rfl (Nat.le_of_ble_eq_true rfl) ⟨⟨rfl, rfl⟩, ⟨Nat.le_of_ble_eq_true rfl, Nat.le_of_ble_eq_true rfl⟩, Nat.le_of_ble_eq_true rfl, Nat.le_of_ble_eq_true rfl⟩ d_Gm_init_32) (fun u H locs hu8 w => ?_)
  have w : cg_W D classes (va_A [(h0, .inr (3, [.null, .null, .null, .null, .int 0]))] sz) s.heap s [(cA2, .int), (cA4, .int), (cA6, .object R_Cm)] [(h0, .inr (3, [.ref q1, .ref q3, .ref q5, .null, .int 0])), (q1, .inl (cA2, 3, .inl (fun _ => 0))), (q3, .inl (cA4, 3, .inl (fun _ => 0))), (q5, .inl (cA6, 10, .inr (.inr (.inr (.inr (fun _ => none))))))] H locs := w
  refine cg_putF F w cl_Gm 0 3 rfl (by decide) k_146 rfl hnm rfl (by rfl) (by rfl) (Nat.le_of_ble_eq_true rfl) d_Gm_init_35 (fun H locs w => ?_)
  have w : cg_W D classes (va_A [(h0, .inr (3, [.null, .null, .null, .null, .int 0]))] sz) s.heap s [(cA2, .int), (cA4, .int), (cA6, .object R_Cm)] [(h0, .inr (3, [.ref q1, .ref q3, .ref q5, .ref q7, .int 0])), (q1, .inl (cA2, 3, .inl (fun _ => 0))), (q3, .inl (cA4, 3, .inl (fun _ => 0))), (q5, .inl (cA6, 10, .inr (.inr (.inr (.inr (fun _ => none))))))] H locs := w
  refine lv_aload_n F.1 F.2.1 d_Gm_init_38 rfl (lv_at hl 0 rfl) ?_
  refine lv_iconst (v := 0) F.1 F.2.1 d_Gm_init_39 (by decide) ?_
  refine cg_put F w cl_Gm 0 4 rfl (by decide) k_149 rfl (by rfl) (by rfl) (Nat.le_of_ble_eq_true rfl) d_Gm_init_40 (fun H locs w => ?_)
  have w : cg_W D classes (va_A [(h0, .inr (3, [.null, .null, .null, .null, .int 0]))] sz) s.heap s [(cA2, .int), (cA4, .int), (cA6, .object R_Cm)] [(h0, .inr (3, [.ref q1, .ref q3, .ref q5, .ref q7, .int 0])), (q1, .inl (cA2, 3, .inl (fun _ => 0))), (q3, .inl (cA4, 3, .inl (fun _ => 0))), (q5, .inl (cA6, 10, .inr (.inr (.inr (.inr (fun _ => none))))))] H locs := w
  refine lv_iconst (v := 0) F.1 F.2.1 d_Gm_init_43 (by decide) ?_
  refine lv_istore_n F.1 F.2.1 d_Gm_init_44 rfl hl (by decide) rfl (fun ls hl => ?_)
  have hl : lv_has ls 2 [(1, .int 0), (0, .ref h0)] := hl
  refine lv_iload_n F.1 F.2.1 d_Gm_init_45 rfl (lv_at hl 0 rfl) ?_
  refine lv_bipush (v := 10) F.1 F.2.1 d_Gm_init_46 (by decide) ?_
  refine lv_icmp_ge F.1 F.2.1 d_Gm_init_48 (tgt := 70) (by decide) (fun hh => absurd hh (by decide)) (fun _ => ?_)
  refine lv_aload_n F.1 F.2.1 d_Gm_init_51 rfl (lv_at hl 1 rfl) ?_
  refine cg_get F w cl_Gm 0 2 rfl (by decide) k_141 rfl d_Gm_init_52 ?_
  refine lv_iload_n F.1 F.2.1 d_Gm_init_55 rfl (lv_at hl 0 rfl) ?_
  refine cg_new (fs := [.null, .null, .int 0, .int 0, .int 0]) F w cl_Cm k_58 ki_Cm kn_Cm z_Cm (Nat.le_of_ble_eq_true rfl) (Nat.le_of_ble_eq_true rfl) d_Gm_init_56 (fun q9 H w => ?_)
  have w : cg_W D classes (va_A [(h0, .inr (3, [.null, .null, .null, .null, .int 0]))] sz) s.heap s [(cA2, .int), (cA4, .int), (cA6, .object R_Cm)] [(h0, .inr (3, [.ref q1, .ref q3, .ref q5, .ref q7, .int 0])), (q1, .inl (cA2, 3, .inl (fun _ => 0))), (q3, .inl (cA4, 3, .inl (fun _ => 0))), (q5, .inl (cA6, 10, .inr (.inr (.inr (.inr (fun _ => none)))))), (q9, .inr (4, [.null, .null, .int 0, .int 0, .int 0]))] H locs := w
  refine lv_dup F.1 F.2.1 d_Gm_init_59 rfl ?_
  refine cg_cv (wc := [(q9, .inr (4, [.null, .null, .int 0, .int 0, .int 0]))]) (wr := [(h0, .inr (3, [.ref q1, .ref q3, .ref q5, .ref q7, .int 0])), (q1, .inl (cA2, 3, .inl (fun _ => 0))), (q3, .inl (cA4, 3, .inl (fun _ => 0))), (q5, .inl (cA6, 10, .inr (.inr (.inr (.inr (fun _ => none))))))]) w [4] [0, 1, 2, 3] rfl rfl (by decide) (by decide) (cg_rI (As := []) (rest := [.ref q9, .int 0, .ref q5]) F (c_Cm_init l D q9 H.size) e_Cm_init rfl ki_Cm_init k_81 (cg_pre w [4] [] rfl rfl (by decide) rfl) rfl hl.1 rfl (Nat.le_of_ble_eq_true rfl) ⟨⟨rfl, rfl⟩, ⟨Nat.le_of_ble_eq_true rfl, Nat.le_of_ble_eq_true rfl⟩, Nat.le_of_ble_eq_true rfl, Nat.le_of_ble_eq_true rfl⟩ d_Gm_init_60) (fun u H locs hu12 w => ?_)
  obtain ⟨q10, q11⟩ := u
  have w : cg_W D classes (va_A [(h0, .inr (3, [.null, .null, .null, .null, .int 0]))] sz) s.heap s [(cA2, .int), (cA4, .int), (cA6, .object R_Cm)] [(h0, .inr (3, [.ref q1, .ref q3, .ref q5, .ref q7, .int 0])), (q1, .inl (cA2, 3, .inl (fun _ => 0))), (q3, .inl (cA4, 3, .inl (fun _ => 0))), (q5, .inl (cA6, 10, .inr (.inr (.inr (.inr (fun _ => none)))))), (q9, .inr (4, [.ref q10, .ref q11, .int 0, .int 0, .int 0]))] H locs := w
  refine cg_aast (ci := 4) F w 3 2 4 rfl rfl rfl rfl (cg_in9 (by decide)) d_Gm_init_63 (fun H locs w => ?_)
  have w : cg_W D classes (va_A [(h0, .inr (3, [.null, .null, .null, .null, .int 0]))] sz) s.heap s [(cA2, .int), (cA4, .int), (cA6, .object R_Cm)] [(h0, .inr (3, [.ref q1, .ref q3, .ref q5, .ref q7, .int 0])), (q1, .inl (cA2, 3, .inl (fun _ => 0))), (q3, .inl (cA4, 3, .inl (fun _ => 0))), (q5, .inl (cA6, 10, .inr (.inr (.inr (.inr (va_up (fun _ => none) 0 (some q9))))))), (q9, .inr (4, [.ref q10, .ref q11, .int 0, .int 0, .int 0]))] H locs := w
  have w := cg_sub w [(h0, .inr (3, [.ref q1, .ref q3, .ref q5, .ref q7, .int 0])), (q1, .inl (cA2, 3, .inl (fun _ => 0))), (q3, .inl (cA4, 3, .inl (fun _ => 0))), (q5, .inl (cA6, 10, .inr (.inr (.inr (.inr (va_up (fun _ => none) 0 (some q9)))))))] [0, 1, 2, 3] rfl rfl (by decide) [(cA2, .int), (cA4, .int), (cA6, .object R_Cm)] [0, 1, 2] rfl
  refine lv_iinc (k := 0) (v := 1) F.1 F.2.1 d_Gm_init_64 hl rfl (by rfl) (by decide) rfl (fun ls hl => ?_)
  have hl : lv_has ls 2 [(1, .int 1), (0, .ref h0)] := hl
  refine lv_goto F.1 F.2.1 d_Gm_init_67 (tgt := 45) (by decide) ?_
  refine lv_iload_n F.1 F.2.1 d_Gm_init_45 rfl (lv_at hl 0 rfl) ?_
  refine lv_bipush (v := 10) F.1 F.2.1 d_Gm_init_46 (by decide) ?_
  refine lv_icmp_ge F.1 F.2.1 d_Gm_init_48 (tgt := 70) (by decide) (fun hh => absurd hh (by decide)) (fun _ => ?_)
  refine lv_aload_n F.1 F.2.1 d_Gm_init_51 rfl (lv_at hl 1 rfl) ?_
  refine cg_get F w cl_Gm 0 2 rfl (by decide) k_141 rfl d_Gm_init_52 ?_
  refine lv_iload_n F.1 F.2.1 d_Gm_init_55 rfl (lv_at hl 0 rfl) ?_
  refine cg_new (fs := [.null, .null, .int 0, .int 0, .int 0]) F w cl_Cm k_58 ki_Cm kn_Cm z_Cm (Nat.le_of_ble_eq_true rfl) (Nat.le_of_ble_eq_true rfl) d_Gm_init_56 (fun q13 H w => ?_)
  have w : cg_W D classes (va_A [(h0, .inr (3, [.null, .null, .null, .null, .int 0]))] sz) s.heap s [(cA2, .int), (cA4, .int), (cA6, .object R_Cm)] [(h0, .inr (3, [.ref q1, .ref q3, .ref q5, .ref q7, .int 0])), (q1, .inl (cA2, 3, .inl (fun _ => 0))), (q3, .inl (cA4, 3, .inl (fun _ => 0))), (q5, .inl (cA6, 10, .inr (.inr (.inr (.inr (va_up (fun _ => none) 0 (some q9))))))), (q13, .inr (4, [.null, .null, .int 0, .int 0, .int 0]))] H locs := w
  refine lv_dup F.1 F.2.1 d_Gm_init_59 rfl ?_
  refine cg_cv (wc := [(q13, .inr (4, [.null, .null, .int 0, .int 0, .int 0]))]) (wr := [(h0, .inr (3, [.ref q1, .ref q3, .ref q5, .ref q7, .int 0])), (q1, .inl (cA2, 3, .inl (fun _ => 0))), (q3, .inl (cA4, 3, .inl (fun _ => 0))), (q5, .inl (cA6, 10, .inr (.inr (.inr (.inr (va_up (fun _ => none) 0 (some q9)))))))]) w [4] [0, 1, 2, 3] rfl rfl (by decide) (by decide) (cg_rI (As := []) (rest := [.ref q13, .int 1, .ref q5]) F (c_Cm_init l D q13 H.size) e_Cm_init rfl ki_Cm_init k_81 (cg_pre w [4] [] rfl rfl (by decide) rfl) rfl hl.1 rfl (Nat.le_of_ble_eq_true rfl) ⟨⟨rfl, rfl⟩, ⟨Nat.le_of_ble_eq_true rfl, Nat.le_of_ble_eq_true rfl⟩, Nat.le_of_ble_eq_true rfl, Nat.le_of_ble_eq_true rfl⟩ d_Gm_init_60) (fun u H locs hu16 w => ?_)
  obtain ⟨q14, q15⟩ := u
  have w : cg_W D classes (va_A [(h0, .inr (3, [.null, .null, .null, .null, .int 0]))] sz) s.heap s [(cA2, .int), (cA4, .int), (cA6, .object R_Cm)] [(h0, .inr (3, [.ref q1, .ref q3, .ref q5, .ref q7, .int 0])), (q1, .inl (cA2, 3, .inl (fun _ => 0))), (q3, .inl (cA4, 3, .inl (fun _ => 0))), (q5, .inl (cA6, 10, .inr (.inr (.inr (.inr (va_up (fun _ => none) 0 (some q9))))))), (q13, .inr (4, [.ref q14, .ref q15, .int 0, .int 0, .int 0]))] H locs := w
  refine cg_aast (ci := 4) F w 3 2 4 rfl rfl rfl rfl (cg_in9 (by decide)) d_Gm_init_63 (fun H locs w => ?_)
  have w : cg_W D classes (va_A [(h0, .inr (3, [.null, .null, .null, .null, .int 0]))] sz) s.heap s [(cA2, .int), (cA4, .int), (cA6, .object R_Cm)] [(h0, .inr (3, [.ref q1, .ref q3, .ref q5, .ref q7, .int 0])), (q1, .inl (cA2, 3, .inl (fun _ => 0))), (q3, .inl (cA4, 3, .inl (fun _ => 0))), (q5, .inl (cA6, 10, .inr (.inr (.inr (.inr (va_up (va_up (fun _ => none) 0 (some q9)) 1 (some q13))))))), (q13, .inr (4, [.ref q14, .ref q15, .int 0, .int 0, .int 0]))] H locs := w
  have w := cg_sub w [(h0, .inr (3, [.ref q1, .ref q3, .ref q5, .ref q7, .int 0])), (q1, .inl (cA2, 3, .inl (fun _ => 0))), (q3, .inl (cA4, 3, .inl (fun _ => 0))), (q5, .inl (cA6, 10, .inr (.inr (.inr (.inr (va_up (va_up (fun _ => none) 0 (some q9)) 1 (some q13)))))))] [0, 1, 2, 3] rfl rfl (by decide) [(cA2, .int), (cA4, .int), (cA6, .object R_Cm)] [0, 1, 2] rfl
  refine lv_iinc (k := 0) (v := 2) F.1 F.2.1 d_Gm_init_64 hl rfl (by rfl) (by decide) rfl (fun ls hl => ?_)
  have hl : lv_has ls 2 [(1, .int 2), (0, .ref h0)] := hl
  refine lv_goto F.1 F.2.1 d_Gm_init_67 (tgt := 45) (by decide) ?_
  refine lv_iload_n F.1 F.2.1 d_Gm_init_45 rfl (lv_at hl 0 rfl) ?_
  refine lv_bipush (v := 10) F.1 F.2.1 d_Gm_init_46 (by decide) ?_
  refine lv_icmp_ge F.1 F.2.1 d_Gm_init_48 (tgt := 70) (by decide) (fun hh => absurd hh (by decide)) (fun _ => ?_)
  refine lv_aload_n F.1 F.2.1 d_Gm_init_51 rfl (lv_at hl 1 rfl) ?_
  refine cg_get F w cl_Gm 0 2 rfl (by decide) k_141 rfl d_Gm_init_52 ?_
  refine lv_iload_n F.1 F.2.1 d_Gm_init_55 rfl (lv_at hl 0 rfl) ?_
  refine cg_new (fs := [.null, .null, .int 0, .int 0, .int 0]) F w cl_Cm k_58 ki_Cm kn_Cm z_Cm (Nat.le_of_ble_eq_true rfl) (Nat.le_of_ble_eq_true rfl) d_Gm_init_56 (fun q17 H w => ?_)
  have w : cg_W D classes (va_A [(h0, .inr (3, [.null, .null, .null, .null, .int 0]))] sz) s.heap s [(cA2, .int), (cA4, .int), (cA6, .object R_Cm)] [(h0, .inr (3, [.ref q1, .ref q3, .ref q5, .ref q7, .int 0])), (q1, .inl (cA2, 3, .inl (fun _ => 0))), (q3, .inl (cA4, 3, .inl (fun _ => 0))), (q5, .inl (cA6, 10, .inr (.inr (.inr (.inr (va_up (va_up (fun _ => none) 0 (some q9)) 1 (some q13))))))), (q17, .inr (4, [.null, .null, .int 0, .int 0, .int 0]))] H locs := w
  refine lv_dup F.1 F.2.1 d_Gm_init_59 rfl ?_
  refine cg_cv (wc := [(q17, .inr (4, [.null, .null, .int 0, .int 0, .int 0]))]) (wr := [(h0, .inr (3, [.ref q1, .ref q3, .ref q5, .ref q7, .int 0])), (q1, .inl (cA2, 3, .inl (fun _ => 0))), (q3, .inl (cA4, 3, .inl (fun _ => 0))), (q5, .inl (cA6, 10, .inr (.inr (.inr (.inr (va_up (va_up (fun _ => none) 0 (some q9)) 1 (some q13)))))))]) w [4] [0, 1, 2, 3] rfl rfl (by decide) (by decide) (cg_rI (As := []) (rest := [.ref q17, .int 2, .ref q5]) F (c_Cm_init l D q17 H.size) e_Cm_init rfl ki_Cm_init k_81 (cg_pre w [4] [] rfl rfl (by decide) rfl) rfl hl.1 rfl (Nat.le_of_ble_eq_true rfl) ⟨⟨rfl, rfl⟩, ⟨Nat.le_of_ble_eq_true rfl, Nat.le_of_ble_eq_true rfl⟩, Nat.le_of_ble_eq_true rfl, Nat.le_of_ble_eq_true rfl⟩ d_Gm_init_60) (fun u H locs hu20 w => ?_)
  obtain ⟨q18, q19⟩ := u
  have w : cg_W D classes (va_A [(h0, .inr (3, [.null, .null, .null, .null, .int 0]))] sz) s.heap s [(cA2, .int), (cA4, .int), (cA6, .object R_Cm)] [(h0, .inr (3, [.ref q1, .ref q3, .ref q5, .ref q7, .int 0])), (q1, .inl (cA2, 3, .inl (fun _ => 0))), (q3, .inl (cA4, 3, .inl (fun _ => 0))), (q5, .inl (cA6, 10, .inr (.inr (.inr (.inr (va_up (va_up (fun _ => none) 0 (some q9)) 1 (some q13))))))), (q17, .inr (4, [.ref q18, .ref q19, .int 0, .int 0, .int 0]))] H locs := w
  refine cg_aast (ci := 4) F w 3 2 4 rfl rfl rfl rfl (cg_in9 (by decide)) d_Gm_init_63 (fun H locs w => ?_)
  have w : cg_W D classes (va_A [(h0, .inr (3, [.null, .null, .null, .null, .int 0]))] sz) s.heap s [(cA2, .int), (cA4, .int), (cA6, .object R_Cm)] [(h0, .inr (3, [.ref q1, .ref q3, .ref q5, .ref q7, .int 0])), (q1, .inl (cA2, 3, .inl (fun _ => 0))), (q3, .inl (cA4, 3, .inl (fun _ => 0))), (q5, .inl (cA6, 10, .inr (.inr (.inr (.inr (va_up (va_up (va_up (fun _ => none) 0 (some q9)) 1 (some q13)) 2 (some q17))))))), (q17, .inr (4, [.ref q18, .ref q19, .int 0, .int 0, .int 0]))] H locs := w
  have w := cg_sub w [(h0, .inr (3, [.ref q1, .ref q3, .ref q5, .ref q7, .int 0])), (q1, .inl (cA2, 3, .inl (fun _ => 0))), (q3, .inl (cA4, 3, .inl (fun _ => 0))), (q5, .inl (cA6, 10, .inr (.inr (.inr (.inr (va_up (va_up (va_up (fun _ => none) 0 (some q9)) 1 (some q13)) 2 (some q17)))))))] [0, 1, 2, 3] rfl rfl (by decide) [(cA2, .int), (cA4, .int), (cA6, .object R_Cm)] [0, 1, 2] rfl
  refine lv_iinc (k := 0) (v := 3) F.1 F.2.1 d_Gm_init_64 hl rfl (by rfl) (by decide) rfl (fun ls hl => ?_)
  have hl : lv_has ls 2 [(1, .int 3), (0, .ref h0)] := hl
  refine lv_goto F.1 F.2.1 d_Gm_init_67 (tgt := 45) (by decide) ?_
  refine lv_iload_n F.1 F.2.1 d_Gm_init_45 rfl (lv_at hl 0 rfl) ?_
  refine lv_bipush (v := 10) F.1 F.2.1 d_Gm_init_46 (by decide) ?_
  refine lv_icmp_ge F.1 F.2.1 d_Gm_init_48 (tgt := 70) (by decide) (fun hh => absurd hh (by decide)) (fun _ => ?_)
  refine lv_aload_n F.1 F.2.1 d_Gm_init_51 rfl (lv_at hl 1 rfl) ?_
  refine cg_get F w cl_Gm 0 2 rfl (by decide) k_141 rfl d_Gm_init_52 ?_
  refine lv_iload_n F.1 F.2.1 d_Gm_init_55 rfl (lv_at hl 0 rfl) ?_
  refine cg_new (fs := [.null, .null, .int 0, .int 0, .int 0]) F w cl_Cm k_58 ki_Cm kn_Cm z_Cm (Nat.le_of_ble_eq_true rfl) (Nat.le_of_ble_eq_true rfl) d_Gm_init_56 (fun q21 H w => ?_)
  have w : cg_W D classes (va_A [(h0, .inr (3, [.null, .null, .null, .null, .int 0]))] sz) s.heap s [(cA2, .int), (cA4, .int), (cA6, .object R_Cm)] [(h0, .inr (3, [.ref q1, .ref q3, .ref q5, .ref q7, .int 0])), (q1, .inl (cA2, 3, .inl (fun _ => 0))), (q3, .inl (cA4, 3, .inl (fun _ => 0))), (q5, .inl (cA6, 10, .inr (.inr (.inr (.inr (va_up (va_up (va_up (fun _ => none) 0 (some q9)) 1 (some q13)) 2 (some q17))))))), (q21, .inr (4, [.null, .null, .int 0, .int 0, .int 0]))] H locs := w
  refine lv_dup F.1 F.2.1 d_Gm_init_59 rfl ?_
  refine cg_cv (wc := [(q21, .inr (4, [.null, .null, .int 0, .int 0, .int 0]))]) (wr := [(h0, .inr (3, [.ref q1, .ref q3, .ref q5, .ref q7, .int 0])), (q1, .inl (cA2, 3, .inl (fun _ => 0))), (q3, .inl (cA4, 3, .inl (fun _ => 0))), (q5, .inl (cA6, 10, .inr (.inr (.inr (.inr (va_up (va_up (va_up (fun _ => none) 0 (some q9)) 1 (some q13)) 2 (some q17)))))))]) w [4] [0, 1, 2, 3] rfl rfl (by decide) (by decide) (cg_rI (As := []) (rest := [.ref q21, .int 3, .ref q5]) F (c_Cm_init l D q21 H.size) e_Cm_init rfl ki_Cm_init k_81 (cg_pre w [4] [] rfl rfl (by decide) rfl) rfl hl.1 rfl (Nat.le_of_ble_eq_true rfl) ⟨⟨rfl, rfl⟩, ⟨Nat.le_of_ble_eq_true rfl, Nat.le_of_ble_eq_true rfl⟩, Nat.le_of_ble_eq_true rfl, Nat.le_of_ble_eq_true rfl⟩ d_Gm_init_60) (fun u H locs hu24 w => ?_)
  obtain ⟨q22, q23⟩ := u
  have w : cg_W D classes (va_A [(h0, .inr (3, [.null, .null, .null, .null, .int 0]))] sz) s.heap s [(cA2, .int), (cA4, .int), (cA6, .object R_Cm)] [(h0, .inr (3, [.ref q1, .ref q3, .ref q5, .ref q7, .int 0])), (q1, .inl (cA2, 3, .inl (fun _ => 0))), (q3, .inl (cA4, 3, .inl (fun _ => 0))), (q5, .inl (cA6, 10, .inr (.inr (.inr (.inr (va_up (va_up (va_up (fun _ => none) 0 (some q9)) 1 (some q13)) 2 (some q17))))))), (q21, .inr (4, [.ref q22, .ref q23, .int 0, .int 0, .int 0]))] H locs := w
  refine cg_aast (ci := 4) F w 3 2 4 rfl rfl rfl rfl (cg_in9 (by decide)) d_Gm_init_63 (fun H locs w => ?_)
  have w : cg_W D classes (va_A [(h0, .inr (3, [.null, .null, .null, .null, .int 0]))] sz) s.heap s [(cA2, .int), (cA4, .int), (cA6, .object R_Cm)] [(h0, .inr (3, [.ref q1, .ref q3, .ref q5, .ref q7, .int 0])), (q1, .inl (cA2, 3, .inl (fun _ => 0))), (q3, .inl (cA4, 3, .inl (fun _ => 0))), (q5, .inl (cA6, 10, .inr (.inr (.inr (.inr (va_up (va_up (va_up (va_up (fun _ => none) 0 (some q9)) 1 (some q13)) 2 (some q17)) 3 (some q21))))))), (q21, .inr (4, [.ref q22, .ref q23, .int 0, .int 0, .int 0]))] H locs := w
  have w := cg_sub w [(h0, .inr (3, [.ref q1, .ref q3, .ref q5, .ref q7, .int 0])), (q1, .inl (cA2, 3, .inl (fun _ => 0))), (q3, .inl (cA4, 3, .inl (fun _ => 0))), (q5, .inl (cA6, 10, .inr (.inr (.inr (.inr (va_up (va_up (va_up (va_up (fun _ => none) 0 (some q9)) 1 (some q13)) 2 (some q17)) 3 (some q21)))))))] [0, 1, 2, 3] rfl rfl (by decide) [(cA2, .int), (cA4, .int), (cA6, .object R_Cm)] [0, 1, 2] rfl
  refine lv_iinc (k := 0) (v := 4) F.1 F.2.1 d_Gm_init_64 hl rfl (by rfl) (by decide) rfl (fun ls hl => ?_)
  have hl : lv_has ls 2 [(1, .int 4), (0, .ref h0)] := hl
  refine lv_goto F.1 F.2.1 d_Gm_init_67 (tgt := 45) (by decide) ?_
  refine lv_iload_n F.1 F.2.1 d_Gm_init_45 rfl (lv_at hl 0 rfl) ?_
  refine lv_bipush (v := 10) F.1 F.2.1 d_Gm_init_46 (by decide) ?_
  refine lv_icmp_ge F.1 F.2.1 d_Gm_init_48 (tgt := 70) (by decide) (fun hh => absurd hh (by decide)) (fun _ => ?_)
  refine lv_aload_n F.1 F.2.1 d_Gm_init_51 rfl (lv_at hl 1 rfl) ?_
  refine cg_get F w cl_Gm 0 2 rfl (by decide) k_141 rfl d_Gm_init_52 ?_
  refine lv_iload_n F.1 F.2.1 d_Gm_init_55 rfl (lv_at hl 0 rfl) ?_
  refine cg_new (fs := [.null, .null, .int 0, .int 0, .int 0]) F w cl_Cm k_58 ki_Cm kn_Cm z_Cm (Nat.le_of_ble_eq_true rfl) (Nat.le_of_ble_eq_true rfl) d_Gm_init_56 (fun q25 H w => ?_)
  have w : cg_W D classes (va_A [(h0, .inr (3, [.null, .null, .null, .null, .int 0]))] sz) s.heap s [(cA2, .int), (cA4, .int), (cA6, .object R_Cm)] [(h0, .inr (3, [.ref q1, .ref q3, .ref q5, .ref q7, .int 0])), (q1, .inl (cA2, 3, .inl (fun _ => 0))), (q3, .inl (cA4, 3, .inl (fun _ => 0))), (q5, .inl (cA6, 10, .inr (.inr (.inr (.inr (va_up (va_up (va_up (va_up (fun _ => none) 0 (some q9)) 1 (some q13)) 2 (some q17)) 3 (some q21))))))), (q25, .inr (4, [.null, .null, .int 0, .int 0, .int 0]))] H locs := w
  refine lv_dup F.1 F.2.1 d_Gm_init_59 rfl ?_
  refine cg_cv (wc := [(q25, .inr (4, [.null, .null, .int 0, .int 0, .int 0]))]) (wr := [(h0, .inr (3, [.ref q1, .ref q3, .ref q5, .ref q7, .int 0])), (q1, .inl (cA2, 3, .inl (fun _ => 0))), (q3, .inl (cA4, 3, .inl (fun _ => 0))), (q5, .inl (cA6, 10, .inr (.inr (.inr (.inr (va_up (va_up (va_up (va_up (fun _ => none) 0 (some q9)) 1 (some q13)) 2 (some q17)) 3 (some q21)))))))]) w [4] [0, 1, 2, 3] rfl rfl (by decide) (by decide) (cg_rI (As := []) (rest := [.ref q25, .int 4, .ref q5]) F (c_Cm_init l D q25 H.size) e_Cm_init rfl ki_Cm_init k_81 (cg_pre w [4] [] rfl rfl (by decide) rfl) rfl hl.1 rfl (Nat.le_of_ble_eq_true rfl) ⟨⟨rfl, rfl⟩, ⟨Nat.le_of_ble_eq_true rfl, Nat.le_of_ble_eq_true rfl⟩, Nat.le_of_ble_eq_true rfl, Nat.le_of_ble_eq_true rfl⟩ d_Gm_init_60) (fun u H locs hu28 w => ?_)
  obtain ⟨q26, q27⟩ := u
  have w : cg_W D classes (va_A [(h0, .inr (3, [.null, .null, .null, .null, .int 0]))] sz) s.heap s [(cA2, .int), (cA4, .int), (cA6, .object R_Cm)] [(h0, .inr (3, [.ref q1, .ref q3, .ref q5, .ref q7, .int 0])), (q1, .inl (cA2, 3, .inl (fun _ => 0))), (q3, .inl (cA4, 3, .inl (fun _ => 0))), (q5, .inl (cA6, 10, .inr (.inr (.inr (.inr (va_up (va_up (va_up (va_up (fun _ => none) 0 (some q9)) 1 (some q13)) 2 (some q17)) 3 (some q21))))))), (q25, .inr (4, [.ref q26, .ref q27, .int 0, .int 0, .int 0]))] H locs := w
  refine cg_aast (ci := 4) F w 3 2 4 rfl rfl rfl rfl (cg_in9 (by decide)) d_Gm_init_63 (fun H locs w => ?_)
  have w : cg_W D classes (va_A [(h0, .inr (3, [.null, .null, .null, .null, .int 0]))] sz) s.heap s [(cA2, .int), (cA4, .int), (cA6, .object R_Cm)] [(h0, .inr (3, [.ref q1, .ref q3, .ref q5, .ref q7, .int 0])), (q1, .inl (cA2, 3, .inl (fun _ => 0))), (q3, .inl (cA4, 3, .inl (fun _ => 0))), (q5, .inl (cA6, 10, .inr (.inr (.inr (.inr (va_up (va_up (va_up (va_up (va_up (fun _ => none) 0 (some q9)) 1 (some q13)) 2 (some q17)) 3 (some q21)) 4 (some q25))))))), (q25, .inr (4, [.ref q26, .ref q27, .int 0, .int 0, .int 0]))] H locs := w
  have w := cg_sub w [(h0, .inr (3, [.ref q1, .ref q3, .ref q5, .ref q7, .int 0])), (q1, .inl (cA2, 3, .inl (fun _ => 0))), (q3, .inl (cA4, 3, .inl (fun _ => 0))), (q5, .inl (cA6, 10, .inr (.inr (.inr (.inr (va_up (va_up (va_up (va_up (va_up (fun _ => none) 0 (some q9)) 1 (some q13)) 2 (some q17)) 3 (some q21)) 4 (some q25)))))))] [0, 1, 2, 3] rfl rfl (by decide) [(cA2, .int), (cA4, .int), (cA6, .object R_Cm)] [0, 1, 2] rfl
  refine lv_iinc (k := 0) (v := 5) F.1 F.2.1 d_Gm_init_64 hl rfl (by rfl) (by decide) rfl (fun ls hl => ?_)
  have hl : lv_has ls 2 [(1, .int 5), (0, .ref h0)] := hl
  refine lv_goto F.1 F.2.1 d_Gm_init_67 (tgt := 45) (by decide) ?_
  refine lv_iload_n F.1 F.2.1 d_Gm_init_45 rfl (lv_at hl 0 rfl) ?_
  refine lv_bipush (v := 10) F.1 F.2.1 d_Gm_init_46 (by decide) ?_
  refine lv_icmp_ge F.1 F.2.1 d_Gm_init_48 (tgt := 70) (by decide) (fun hh => absurd hh (by decide)) (fun _ => ?_)
  refine lv_aload_n F.1 F.2.1 d_Gm_init_51 rfl (lv_at hl 1 rfl) ?_
  refine cg_get F w cl_Gm 0 2 rfl (by decide) k_141 rfl d_Gm_init_52 ?_
  refine lv_iload_n F.1 F.2.1 d_Gm_init_55 rfl (lv_at hl 0 rfl) ?_
  refine cg_new (fs := [.null, .null, .int 0, .int 0, .int 0]) F w cl_Cm k_58 ki_Cm kn_Cm z_Cm (Nat.le_of_ble_eq_true rfl) (Nat.le_of_ble_eq_true rfl) d_Gm_init_56 (fun q29 H w => ?_)
  have w : cg_W D classes (va_A [(h0, .inr (3, [.null, .null, .null, .null, .int 0]))] sz) s.heap s [(cA2, .int), (cA4, .int), (cA6, .object R_Cm)] [(h0, .inr (3, [.ref q1, .ref q3, .ref q5, .ref q7, .int 0])), (q1, .inl (cA2, 3, .inl (fun _ => 0))), (q3, .inl (cA4, 3, .inl (fun _ => 0))), (q5, .inl (cA6, 10, .inr (.inr (.inr (.inr (va_up (va_up (va_up (va_up (va_up (fun _ => none) 0 (some q9)) 1 (some q13)) 2 (some q17)) 3 (some q21)) 4 (some q25))))))), (q29, .inr (4, [.null, .null, .int 0, .int 0, .int 0]))] H locs := w
  refine lv_dup F.1 F.2.1 d_Gm_init_59 rfl ?_
  refine cg_cv (wc := [(q29, .inr (4, [.null, .null, .int 0, .int 0, .int 0]))]) (wr := [(h0, .inr (3, [.ref q1, .ref q3, .ref q5, .ref q7, .int 0])), (q1, .inl (cA2, 3, .inl (fun _ => 0))), (q3, .inl (cA4, 3, .inl (fun _ => 0))), (q5, .inl (cA6, 10, .inr (.inr (.inr (.inr (va_up (va_up (va_up (va_up (va_up (fun _ => none) 0 (some q9)) 1 (some q13)) 2 (some q17)) 3 (some q21)) 4 (some q25)))))))]) w [4] [0, 1, 2, 3] rfl rfl (by decide) (by decide) (cg_rI (As := []) (rest := [.ref q29, .int 5, .ref q5]) F (c_Cm_init l D q29 H.size) e_Cm_init rfl ki_Cm_init k_81 (cg_pre w [4] [] rfl rfl (by decide) rfl) rfl hl.1 rfl (Nat.le_of_ble_eq_true rfl) ⟨⟨rfl, rfl⟩, ⟨Nat.le_of_ble_eq_true rfl, Nat.le_of_ble_eq_true rfl⟩, Nat.le_of_ble_eq_true rfl, Nat.le_of_ble_eq_true rfl⟩ d_Gm_init_60) (fun u H locs hu32 w => ?_)
  obtain ⟨q30, q31⟩ := u
  have w : cg_W D classes (va_A [(h0, .inr (3, [.null, .null, .null, .null, .int 0]))] sz) s.heap s [(cA2, .int), (cA4, .int), (cA6, .object R_Cm)] [(h0, .inr (3, [.ref q1, .ref q3, .ref q5, .ref q7, .int 0])), (q1, .inl (cA2, 3, .inl (fun _ => 0))), (q3, .inl (cA4, 3, .inl (fun _ => 0))), (q5, .inl (cA6, 10, .inr (.inr (.inr (.inr (va_up (va_up (va_up (va_up (va_up (fun _ => none) 0 (some q9)) 1 (some q13)) 2 (some q17)) 3 (some q21)) 4 (some q25))))))), (q29, .inr (4, [.ref q30, .ref q31, .int 0, .int 0, .int 0]))] H locs := w
  refine cg_aast (ci := 4) F w 3 2 4 rfl rfl rfl rfl (cg_in9 (by decide)) d_Gm_init_63 (fun H locs w => ?_)
  have w : cg_W D classes (va_A [(h0, .inr (3, [.null, .null, .null, .null, .int 0]))] sz) s.heap s [(cA2, .int), (cA4, .int), (cA6, .object R_Cm)] [(h0, .inr (3, [.ref q1, .ref q3, .ref q5, .ref q7, .int 0])), (q1, .inl (cA2, 3, .inl (fun _ => 0))), (q3, .inl (cA4, 3, .inl (fun _ => 0))), (q5, .inl (cA6, 10, .inr (.inr (.inr (.inr (va_up (va_up (va_up (va_up (va_up (va_up (fun _ => none) 0 (some q9)) 1 (some q13)) 2 (some q17)) 3 (some q21)) 4 (some q25)) 5 (some q29))))))), (q29, .inr (4, [.ref q30, .ref q31, .int 0, .int 0, .int 0]))] H locs := w
  have w := cg_sub w [(h0, .inr (3, [.ref q1, .ref q3, .ref q5, .ref q7, .int 0])), (q1, .inl (cA2, 3, .inl (fun _ => 0))), (q3, .inl (cA4, 3, .inl (fun _ => 0))), (q5, .inl (cA6, 10, .inr (.inr (.inr (.inr (va_up (va_up (va_up (va_up (va_up (va_up (fun _ => none) 0 (some q9)) 1 (some q13)) 2 (some q17)) 3 (some q21)) 4 (some q25)) 5 (some q29)))))))] [0, 1, 2, 3] rfl rfl (by decide) [(cA2, .int), (cA4, .int), (cA6, .object R_Cm)] [0, 1, 2] rfl
  refine lv_iinc (k := 0) (v := 6) F.1 F.2.1 d_Gm_init_64 hl rfl (by rfl) (by decide) rfl (fun ls hl => ?_)
  have hl : lv_has ls 2 [(1, .int 6), (0, .ref h0)] := hl
  refine lv_goto F.1 F.2.1 d_Gm_init_67 (tgt := 45) (by decide) ?_
  refine lv_iload_n F.1 F.2.1 d_Gm_init_45 rfl (lv_at hl 0 rfl) ?_
  refine lv_bipush (v := 10) F.1 F.2.1 d_Gm_init_46 (by decide) ?_
  refine lv_icmp_ge F.1 F.2.1 d_Gm_init_48 (tgt := 70) (by decide) (fun hh => absurd hh (by decide)) (fun _ => ?_)
  refine lv_aload_n F.1 F.2.1 d_Gm_init_51 rfl (lv_at hl 1 rfl) ?_
  refine cg_get F w cl_Gm 0 2 rfl (by decide) k_141 rfl d_Gm_init_52 ?_
  refine lv_iload_n F.1 F.2.1 d_Gm_init_55 rfl (lv_at hl 0 rfl) ?_
  refine cg_new (fs := [.null, .null, .int 0, .int 0, .int 0]) F w cl_Cm k_58 ki_Cm kn_Cm z_Cm (Nat.le_of_ble_eq_true rfl) (Nat.le_of_ble_eq_true rfl) d_Gm_init_56 (fun q33 H w => ?_)
  have w : cg_W D classes (va_A [(h0, .inr (3, [.null, .null, .null, .null, .int 0]))] sz) s.heap s [(cA2, .int), (cA4, .int), (cA6, .object R_Cm)] [(h0, .inr (3, [.ref q1, .ref q3, .ref q5, .ref q7, .int 0])), (q1, .inl (cA2, 3, .inl (fun _ => 0))), (q3, .inl (cA4, 3, .inl (fun _ => 0))), (q5, .inl (cA6, 10, .inr (.inr (.inr (.inr (va_up (va_up (va_up (va_up (va_up (va_up (fun _ => none) 0 (some q9)) 1 (some q13)) 2 (some q17)) 3 (some q21)) 4 (some q25)) 5 (some q29))))))), (q33, .inr (4, [.null, .null, .int 0, .int 0, .int 0]))] H locs := w
  refine lv_dup F.1 F.2.1 d_Gm_init_59 rfl ?_
  refine cg_cv (wc := [(q33, .inr (4, [.null, .null, .int 0, .int 0, .int 0]))]) (wr := [(h0, .inr (3, [.ref q1, .ref q3, .ref q5, .ref q7, .int 0])), (q1, .inl (cA2, 3, .inl (fun _ => 0))), (q3, .inl (cA4, 3, .inl (fun _ => 0))), (q5, .inl (cA6, 10, .inr (.inr (.inr (.inr (va_up (va_up (va_up (va_up (va_up (va_up (fun _ => none) 0 (some q9)) 1 (some q13)) 2 (some q17)) 3 (some q21)) 4 (some q25)) 5 (some q29)))))))]) w [4] [0, 1, 2, 3] rfl rfl (by decide) (by decide) (cg_rI (As := []) (rest := [.ref q33, .int 6, .ref q5]) F (c_Cm_init l D q33 H.size) e_Cm_init rfl ki_Cm_init k_81 (cg_pre w [4] [] rfl rfl (by decide) rfl) rfl hl.1 rfl (Nat.le_of_ble_eq_true rfl) ⟨⟨rfl, rfl⟩, ⟨Nat.le_of_ble_eq_true rfl, Nat.le_of_ble_eq_true rfl⟩, Nat.le_of_ble_eq_true rfl, Nat.le_of_ble_eq_true rfl⟩ d_Gm_init_60) (fun u H locs hu36 w => ?_)
  obtain ⟨q34, q35⟩ := u
  have w : cg_W D classes (va_A [(h0, .inr (3, [.null, .null, .null, .null, .int 0]))] sz) s.heap s [(cA2, .int), (cA4, .int), (cA6, .object R_Cm)] [(h0, .inr (3, [.ref q1, .ref q3, .ref q5, .ref q7, .int 0])), (q1, .inl (cA2, 3, .inl (fun _ => 0))), (q3, .inl (cA4, 3, .inl (fun _ => 0))), (q5, .inl (cA6, 10, .inr (.inr (.inr (.inr (va_up (va_up (va_up (va_up (va_up (va_up (fun _ => none) 0 (some q9)) 1 (some q13)) 2 (some q17)) 3 (some q21)) 4 (some q25)) 5 (some q29))))))), (q33, .inr (4, [.ref q34, .ref q35, .int 0, .int 0, .int 0]))] H locs := w
  refine cg_aast (ci := 4) F w 3 2 4 rfl rfl rfl rfl (cg_in9 (by decide)) d_Gm_init_63 (fun H locs w => ?_)
  have w : cg_W D classes (va_A [(h0, .inr (3, [.null, .null, .null, .null, .int 0]))] sz) s.heap s [(cA2, .int), (cA4, .int), (cA6, .object R_Cm)] [(h0, .inr (3, [.ref q1, .ref q3, .ref q5, .ref q7, .int 0])), (q1, .inl (cA2, 3, .inl (fun _ => 0))), (q3, .inl (cA4, 3, .inl (fun _ => 0))), (q5, .inl (cA6, 10, .inr (.inr (.inr (.inr (va_up (va_up (va_up (va_up (va_up (va_up (va_up (fun _ => none) 0 (some q9)) 1 (some q13)) 2 (some q17)) 3 (some q21)) 4 (some q25)) 5 (some q29)) 6 (some q33))))))), (q33, .inr (4, [.ref q34, .ref q35, .int 0, .int 0, .int 0]))] H locs := w
  have w := cg_sub w [(h0, .inr (3, [.ref q1, .ref q3, .ref q5, .ref q7, .int 0])), (q1, .inl (cA2, 3, .inl (fun _ => 0))), (q3, .inl (cA4, 3, .inl (fun _ => 0))), (q5, .inl (cA6, 10, .inr (.inr (.inr (.inr (va_up (va_up (va_up (va_up (va_up (va_up (va_up (fun _ => none) 0 (some q9)) 1 (some q13)) 2 (some q17)) 3 (some q21)) 4 (some q25)) 5 (some q29)) 6 (some q33)))))))] [0, 1, 2, 3] rfl rfl (by decide) [(cA2, .int), (cA4, .int), (cA6, .object R_Cm)] [0, 1, 2] rfl
  refine lv_iinc (k := 0) (v := 7) F.1 F.2.1 d_Gm_init_64 hl rfl (by rfl) (by decide) rfl (fun ls hl => ?_)
  have hl : lv_has ls 2 [(1, .int 7), (0, .ref h0)] := hl
  refine lv_goto F.1 F.2.1 d_Gm_init_67 (tgt := 45) (by decide) ?_
  refine lv_iload_n F.1 F.2.1 d_Gm_init_45 rfl (lv_at hl 0 rfl) ?_
  refine lv_bipush (v := 10) F.1 F.2.1 d_Gm_init_46 (by decide) ?_
  refine lv_icmp_ge F.1 F.2.1 d_Gm_init_48 (tgt := 70) (by decide) (fun hh => absurd hh (by decide)) (fun _ => ?_)
  refine lv_aload_n F.1 F.2.1 d_Gm_init_51 rfl (lv_at hl 1 rfl) ?_
  refine cg_get F w cl_Gm 0 2 rfl (by decide) k_141 rfl d_Gm_init_52 ?_
  refine lv_iload_n F.1 F.2.1 d_Gm_init_55 rfl (lv_at hl 0 rfl) ?_
  refine cg_new (fs := [.null, .null, .int 0, .int 0, .int 0]) F w cl_Cm k_58 ki_Cm kn_Cm z_Cm (Nat.le_of_ble_eq_true rfl) (Nat.le_of_ble_eq_true rfl) d_Gm_init_56 (fun q37 H w => ?_)
  have w : cg_W D classes (va_A [(h0, .inr (3, [.null, .null, .null, .null, .int 0]))] sz) s.heap s [(cA2, .int), (cA4, .int), (cA6, .object R_Cm)] [(h0, .inr (3, [.ref q1, .ref q3, .ref q5, .ref q7, .int 0])), (q1, .inl (cA2, 3, .inl (fun _ => 0))), (q3, .inl (cA4, 3, .inl (fun _ => 0))), (q5, .inl (cA6, 10, .inr (.inr (.inr (.inr (va_up (va_up (va_up (va_up (va_up (va_up (va_up (fun _ => none) 0 (some q9)) 1 (some q13)) 2 (some q17)) 3 (some q21)) 4 (some q25)) 5 (some q29)) 6 (some q33))))))), (q37, .inr (4, [.null, .null, .int 0, .int 0, .int 0]))] H locs := w
  refine lv_dup F.1 F.2.1 d_Gm_init_59 rfl ?_
  refine cg_cv (wc := [(q37, .inr (4, [.null, .null, .int 0, .int 0, .int 0]))]) (wr := [(h0, .inr (3, [.ref q1, .ref q3, .ref q5, .ref q7, .int 0])), (q1, .inl (cA2, 3, .inl (fun _ => 0))), (q3, .inl (cA4, 3, .inl (fun _ => 0))), (q5, .inl (cA6, 10, .inr (.inr (.inr (.inr (va_up (va_up (va_up (va_up (va_up (va_up (va_up (fun _ => none) 0 (some q9)) 1 (some q13)) 2 (some q17)) 3 (some q21)) 4 (some q25)) 5 (some q29)) 6 (some q33)))))))]) w [4] [0, 1, 2, 3] rfl rfl (by decide) (by decide) (cg_rI (As := []) (rest := [.ref q37, .int 7, .ref q5]) F (c_Cm_init l D q37 H.size) e_Cm_init rfl ki_Cm_init k_81 (cg_pre w [4] [] rfl rfl (by decide) rfl) rfl hl.1 rfl (Nat.le_of_ble_eq_true rfl) ⟨⟨rfl, rfl⟩, ⟨Nat.le_of_ble_eq_true rfl, Nat.le_of_ble_eq_true rfl⟩, Nat.le_of_ble_eq_true rfl, Nat.le_of_ble_eq_true rfl⟩ d_Gm_init_60) (fun u H locs hu40 w => ?_)
  obtain ⟨q38, q39⟩ := u
  have w : cg_W D classes (va_A [(h0, .inr (3, [.null, .null, .null, .null, .int 0]))] sz) s.heap s [(cA2, .int), (cA4, .int), (cA6, .object R_Cm)] [(h0, .inr (3, [.ref q1, .ref q3, .ref q5, .ref q7, .int 0])), (q1, .inl (cA2, 3, .inl (fun _ => 0))), (q3, .inl (cA4, 3, .inl (fun _ => 0))), (q5, .inl (cA6, 10, .inr (.inr (.inr (.inr (va_up (va_up (va_up (va_up (va_up (va_up (va_up (fun _ => none) 0 (some q9)) 1 (some q13)) 2 (some q17)) 3 (some q21)) 4 (some q25)) 5 (some q29)) 6 (some q33))))))), (q37, .inr (4, [.ref q38, .ref q39, .int 0, .int 0, .int 0]))] H locs := w
  refine cg_aast (ci := 4) F w 3 2 4 rfl rfl rfl rfl (cg_in9 (by decide)) d_Gm_init_63 (fun H locs w => ?_)
  have w : cg_W D classes (va_A [(h0, .inr (3, [.null, .null, .null, .null, .int 0]))] sz) s.heap s [(cA2, .int), (cA4, .int), (cA6, .object R_Cm)] [(h0, .inr (3, [.ref q1, .ref q3, .ref q5, .ref q7, .int 0])), (q1, .inl (cA2, 3, .inl (fun _ => 0))), (q3, .inl (cA4, 3, .inl (fun _ => 0))), (q5, .inl (cA6, 10, .inr (.inr (.inr (.inr (va_up (va_up (va_up (va_up (va_up (va_up (va_up (va_up (fun _ => none) 0 (some q9)) 1 (some q13)) 2 (some q17)) 3 (some q21)) 4 (some q25)) 5 (some q29)) 6 (some q33)) 7 (some q37))))))), (q37, .inr (4, [.ref q38, .ref q39, .int 0, .int 0, .int 0]))] H locs := w
  have w := cg_sub w [(h0, .inr (3, [.ref q1, .ref q3, .ref q5, .ref q7, .int 0])), (q1, .inl (cA2, 3, .inl (fun _ => 0))), (q3, .inl (cA4, 3, .inl (fun _ => 0))), (q5, .inl (cA6, 10, .inr (.inr (.inr (.inr (va_up (va_up (va_up (va_up (va_up (va_up (va_up (va_up (fun _ => none) 0 (some q9)) 1 (some q13)) 2 (some q17)) 3 (some q21)) 4 (some q25)) 5 (some q29)) 6 (some q33)) 7 (some q37)))))))] [0, 1, 2, 3] rfl rfl (by decide) [(cA2, .int), (cA4, .int), (cA6, .object R_Cm)] [0, 1, 2] rfl
  refine lv_iinc (k := 0) (v := 8) F.1 F.2.1 d_Gm_init_64 hl rfl (by rfl) (by decide) rfl (fun ls hl => ?_)
  have hl : lv_has ls 2 [(1, .int 8), (0, .ref h0)] := hl
  refine lv_goto F.1 F.2.1 d_Gm_init_67 (tgt := 45) (by decide) ?_
  refine lv_iload_n F.1 F.2.1 d_Gm_init_45 rfl (lv_at hl 0 rfl) ?_
  refine lv_bipush (v := 10) F.1 F.2.1 d_Gm_init_46 (by decide) ?_
  refine lv_icmp_ge F.1 F.2.1 d_Gm_init_48 (tgt := 70) (by decide) (fun hh => absurd hh (by decide)) (fun _ => ?_)
  refine lv_aload_n F.1 F.2.1 d_Gm_init_51 rfl (lv_at hl 1 rfl) ?_
  refine cg_get F w cl_Gm 0 2 rfl (by decide) k_141 rfl d_Gm_init_52 ?_
  refine lv_iload_n F.1 F.2.1 d_Gm_init_55 rfl (lv_at hl 0 rfl) ?_
  refine cg_new (fs := [.null, .null, .int 0, .int 0, .int 0]) F w cl_Cm k_58 ki_Cm kn_Cm z_Cm (Nat.le_of_ble_eq_true rfl) (Nat.le_of_ble_eq_true rfl) d_Gm_init_56 (fun q41 H w => ?_)
  have w : cg_W D classes (va_A [(h0, .inr (3, [.null, .null, .null, .null, .int 0]))] sz) s.heap s [(cA2, .int), (cA4, .int), (cA6, .object R_Cm)] [(h0, .inr (3, [.ref q1, .ref q3, .ref q5, .ref q7, .int 0])), (q1, .inl (cA2, 3, .inl (fun _ => 0))), (q3, .inl (cA4, 3, .inl (fun _ => 0))), (q5, .inl (cA6, 10, .inr (.inr (.inr (.inr (va_up (va_up (va_up (va_up (va_up (va_up (va_up (va_up (fun _ => none) 0 (some q9)) 1 (some q13)) 2 (some q17)) 3 (some q21)) 4 (some q25)) 5 (some q29)) 6 (some q33)) 7 (some q37))))))), (q41, .inr (4, [.null, .null, .int 0, .int 0, .int 0]))] H locs := w
  refine lv_dup F.1 F.2.1 d_Gm_init_59 rfl ?_
  refine cg_cv (wc := [(q41, .inr (4, [.null, .null, .int 0, .int 0, .int 0]))]) (wr := [(h0, .inr (3, [.ref q1, .ref q3, .ref q5, .ref q7, .int 0])), (q1, .inl (cA2, 3, .inl (fun _ => 0))), (q3, .inl (cA4, 3, .inl (fun _ => 0))), (q5, .inl (cA6, 10, .inr (.inr (.inr (.inr (va_up (va_up (va_up (va_up (va_up (va_up (va_up (va_up (fun _ => none) 0 (some q9)) 1 (some q13)) 2 (some q17)) 3 (some q21)) 4 (some q25)) 5 (some q29)) 6 (some q33)) 7 (some q37)))))))]) w [4] [0, 1, 2, 3] rfl rfl (by decide) (by decide) (cg_rI (As := []) (rest := [.ref q41, .int 8, .ref q5]) F (c_Cm_init l D q41 H.size) e_Cm_init rfl ki_Cm_init k_81 (cg_pre w [4] [] rfl rfl (by decide) rfl) rfl hl.1 rfl (Nat.le_of_ble_eq_true rfl) ⟨⟨rfl, rfl⟩, ⟨Nat.le_of_ble_eq_true rfl, Nat.le_of_ble_eq_true rfl⟩, Nat.le_of_ble_eq_true rfl, Nat.le_of_ble_eq_true rfl⟩ d_Gm_init_60) (fun u H locs hu44 w => ?_)
  obtain ⟨q42, q43⟩ := u
  have w : cg_W D classes (va_A [(h0, .inr (3, [.null, .null, .null, .null, .int 0]))] sz) s.heap s [(cA2, .int), (cA4, .int), (cA6, .object R_Cm)] [(h0, .inr (3, [.ref q1, .ref q3, .ref q5, .ref q7, .int 0])), (q1, .inl (cA2, 3, .inl (fun _ => 0))), (q3, .inl (cA4, 3, .inl (fun _ => 0))), (q5, .inl (cA6, 10, .inr (.inr (.inr (.inr (va_up (va_up (va_up (va_up (va_up (va_up (va_up (va_up (fun _ => none) 0 (some q9)) 1 (some q13)) 2 (some q17)) 3 (some q21)) 4 (some q25)) 5 (some q29)) 6 (some q33)) 7 (some q37))))))), (q41, .inr (4, [.ref q42, .ref q43, .int 0, .int 0, .int 0]))] H locs := w
  refine cg_aast (ci := 4) F w 3 2 4 rfl rfl rfl rfl (cg_in9 (by decide)) d_Gm_init_63 (fun H locs w => ?_)
  have w : cg_W D classes (va_A [(h0, .inr (3, [.null, .null, .null, .null, .int 0]))] sz) s.heap s [(cA2, .int), (cA4, .int), (cA6, .object R_Cm)] [(h0, .inr (3, [.ref q1, .ref q3, .ref q5, .ref q7, .int 0])), (q1, .inl (cA2, 3, .inl (fun _ => 0))), (q3, .inl (cA4, 3, .inl (fun _ => 0))), (q5, .inl (cA6, 10, .inr (.inr (.inr (.inr (va_up (va_up (va_up (va_up (va_up (va_up (va_up (va_up (va_up (fun _ => none) 0 (some q9)) 1 (some q13)) 2 (some q17)) 3 (some q21)) 4 (some q25)) 5 (some q29)) 6 (some q33)) 7 (some q37)) 8 (some q41))))))), (q41, .inr (4, [.ref q42, .ref q43, .int 0, .int 0, .int 0]))] H locs := w
  have w := cg_sub w [(h0, .inr (3, [.ref q1, .ref q3, .ref q5, .ref q7, .int 0])), (q1, .inl (cA2, 3, .inl (fun _ => 0))), (q3, .inl (cA4, 3, .inl (fun _ => 0))), (q5, .inl (cA6, 10, .inr (.inr (.inr (.inr (va_up (va_up (va_up (va_up (va_up (va_up (va_up (va_up (va_up (fun _ => none) 0 (some q9)) 1 (some q13)) 2 (some q17)) 3 (some q21)) 4 (some q25)) 5 (some q29)) 6 (some q33)) 7 (some q37)) 8 (some q41)))))))] [0, 1, 2, 3] rfl rfl (by decide) [(cA2, .int), (cA4, .int), (cA6, .object R_Cm)] [0, 1, 2] rfl
  refine lv_iinc (k := 0) (v := 9) F.1 F.2.1 d_Gm_init_64 hl rfl (by rfl) (by decide) rfl (fun ls hl => ?_)
  have hl : lv_has ls 2 [(1, .int 9), (0, .ref h0)] := hl
  refine lv_goto F.1 F.2.1 d_Gm_init_67 (tgt := 45) (by decide) ?_
  refine lv_iload_n F.1 F.2.1 d_Gm_init_45 rfl (lv_at hl 0 rfl) ?_
  refine lv_bipush (v := 10) F.1 F.2.1 d_Gm_init_46 (by decide) ?_
  refine lv_icmp_ge F.1 F.2.1 d_Gm_init_48 (tgt := 70) (by decide) (fun hh => absurd hh (by decide)) (fun _ => ?_)
  refine lv_aload_n F.1 F.2.1 d_Gm_init_51 rfl (lv_at hl 1 rfl) ?_
  refine cg_get F w cl_Gm 0 2 rfl (by decide) k_141 rfl d_Gm_init_52 ?_
  refine lv_iload_n F.1 F.2.1 d_Gm_init_55 rfl (lv_at hl 0 rfl) ?_
  refine cg_new (fs := [.null, .null, .int 0, .int 0, .int 0]) F w cl_Cm k_58 ki_Cm kn_Cm z_Cm (Nat.le_of_ble_eq_true rfl) (Nat.le_of_ble_eq_true rfl) d_Gm_init_56 (fun q45 H w => ?_)
  have w : cg_W D classes (va_A [(h0, .inr (3, [.null, .null, .null, .null, .int 0]))] sz) s.heap s [(cA2, .int), (cA4, .int), (cA6, .object R_Cm)] [(h0, .inr (3, [.ref q1, .ref q3, .ref q5, .ref q7, .int 0])), (q1, .inl (cA2, 3, .inl (fun _ => 0))), (q3, .inl (cA4, 3, .inl (fun _ => 0))), (q5, .inl (cA6, 10, .inr (.inr (.inr (.inr (va_up (va_up (va_up (va_up (va_up (va_up (va_up (va_up (va_up (fun _ => none) 0 (some q9)) 1 (some q13)) 2 (some q17)) 3 (some q21)) 4 (some q25)) 5 (some q29)) 6 (some q33)) 7 (some q37)) 8 (some q41))))))), (q45, .inr (4, [.null, .null, .int 0, .int 0, .int 0]))] H locs := w
  refine lv_dup F.1 F.2.1 d_Gm_init_59 rfl ?_
  refine cg_cv (wc := [(q45, .inr (4, [.null, .null, .int 0, .int 0, .int 0]))]) (wr := [(h0, .inr (3, [.ref q1, .ref q3, .ref q5, .ref q7, .int 0])), (q1, .inl (cA2, 3, .inl (fun _ => 0))), (q3, .inl (cA4, 3, .inl (fun _ => 0))), (q5, .inl (cA6, 10, .inr (.inr (.inr (.inr (va_up (va_up (va_up (va_up (va_up (va_up (va_up (va_up (va_up (fun _ => none) 0 (some q9)) 1 (some q13)) 2 (some q17)) 3 (some q21)) 4 (some q25)) 5 (some q29)) 6 (some q33)) 7 (some q37)) 8 (some q41)))))))]) w [4] [0, 1, 2, 3] rfl rfl (by decide) (by decide) (cg_rI (As := []) (rest := [.ref q45, .int 9, .ref q5]) F (c_Cm_init l D q45 H.size) e_Cm_init rfl ki_Cm_init k_81 (cg_pre w [4] [] rfl rfl (by decide) rfl) rfl hl.1 rfl (Nat.le_of_ble_eq_true rfl) ⟨⟨rfl, rfl⟩, ⟨Nat.le_of_ble_eq_true rfl, Nat.le_of_ble_eq_true rfl⟩, Nat.le_of_ble_eq_true rfl, Nat.le_of_ble_eq_true rfl⟩ d_Gm_init_60) (fun u H locs hu48 w => ?_)
  obtain ⟨q46, q47⟩ := u
  have w : cg_W D classes (va_A [(h0, .inr (3, [.null, .null, .null, .null, .int 0]))] sz) s.heap s [(cA2, .int), (cA4, .int), (cA6, .object R_Cm)] [(h0, .inr (3, [.ref q1, .ref q3, .ref q5, .ref q7, .int 0])), (q1, .inl (cA2, 3, .inl (fun _ => 0))), (q3, .inl (cA4, 3, .inl (fun _ => 0))), (q5, .inl (cA6, 10, .inr (.inr (.inr (.inr (va_up (va_up (va_up (va_up (va_up (va_up (va_up (va_up (va_up (fun _ => none) 0 (some q9)) 1 (some q13)) 2 (some q17)) 3 (some q21)) 4 (some q25)) 5 (some q29)) 6 (some q33)) 7 (some q37)) 8 (some q41))))))), (q45, .inr (4, [.ref q46, .ref q47, .int 0, .int 0, .int 0]))] H locs := w
  refine cg_aast (ci := 4) F w 3 2 4 rfl rfl rfl rfl (cg_in9 (by decide)) d_Gm_init_63 (fun H locs w => ?_)
  have w : cg_W D classes (va_A [(h0, .inr (3, [.null, .null, .null, .null, .int 0]))] sz) s.heap s [(cA2, .int), (cA4, .int), (cA6, .object R_Cm)] [(h0, .inr (3, [.ref q1, .ref q3, .ref q5, .ref q7, .int 0])), (q1, .inl (cA2, 3, .inl (fun _ => 0))), (q3, .inl (cA4, 3, .inl (fun _ => 0))), (q5, .inl (cA6, 10, .inr (.inr (.inr (.inr (va_up (va_up (va_up (va_up (va_up (va_up (va_up (va_up (va_up (va_up (fun _ => none) 0 (some q9)) 1 (some q13)) 2 (some q17)) 3 (some q21)) 4 (some q25)) 5 (some q29)) 6 (some q33)) 7 (some q37)) 8 (some q41)) 9 (some q45))))))), (q45, .inr (4, [.ref q46, .ref q47, .int 0, .int 0, .int 0]))] H locs := w
  have w := cg_sub w [(h0, .inr (3, [.ref q1, .ref q3, .ref q5, .ref q7, .int 0])), (q1, .inl (cA2, 3, .inl (fun _ => 0))), (q3, .inl (cA4, 3, .inl (fun _ => 0))), (q5, .inl (cA6, 10, .inr (.inr (.inr (.inr (va_up (va_up (va_up (va_up (va_up (va_up (va_up (va_up (va_up (va_up (fun _ => none) 0 (some q9)) 1 (some q13)) 2 (some q17)) 3 (some q21)) 4 (some q25)) 5 (some q29)) 6 (some q33)) 7 (some q37)) 8 (some q41)) 9 (some q45)))))))] [0, 1, 2, 3] rfl rfl (by decide) [(cA2, .int), (cA4, .int), (cA6, .object R_Cm)] [0, 1, 2] rfl
  refine lv_iinc (k := 0) (v := 10) F.1 F.2.1 d_Gm_init_64 hl rfl (by rfl) (by decide) rfl (fun ls hl => ?_)
  have hl : lv_has ls 2 [(1, .int 10), (0, .ref h0)] := hl
  refine lv_goto F.1 F.2.1 d_Gm_init_67 (tgt := 45) (by decide) ?_
  refine lv_iload_n F.1 F.2.1 d_Gm_init_45 rfl (lv_at hl 0 rfl) ?_
  refine lv_bipush (v := 10) F.1 F.2.1 d_Gm_init_46 (by decide) ?_
  refine lv_icmp_ge F.1 F.2.1 d_Gm_init_48 (tgt := 70) (by decide) (fun _ => ?_) (fun hh => absurd (by decide) hh)
  exact cg_vret F w hr hlk (⟨q1, q3, q5, q7, cA2, cA4⟩) (trivial) [0, 1, 2] [0, 1] rfl rfl (by decide) rfl (Nat.le_of_ble_eq_true rfl) (Nat.le_of_ble_eq_true rfl) d_Gm_init_70
set_option maxHeartbeats 4000000 in
set_option maxRecDepth 100000 in
theorem c_Rd_init (l : Launch) (D : va_G) (h0 : Nat) (sz : Nat) : Met l y_Rd_init (Cond.code y_Rd_init b_Rd_init 1 none :: tb) { frames := 4, cells := 139, slots := 1126, locals := 74 } (va_Pc [.ref h0] (cg_Pre D classes sz [(h0, .inr (1, [.null, .null, .int 0, .int 0]))] [])) (va_Qv (fun _ : Nat × Nat × Nat × Nat × Nat × Nat × Nat × ClassId × ClassId × ClassId => True) (fun (u : Nat × Nat × Nat × Nat × Nat × Nat × Nat × ClassId × ClassId × ClassId) (t : State) => cg_B D classes (va_A [(h0, .inr (1, [.null, .null, .int 0, .int 0]))] sz) [(h0, .inr (1, [.ref u.1, .ref u.2.1, .int 0, .int (-1)])), (u.1, .inr (2, [.ref u.2.2.1, .int 0])), (u.2.2.1, .inl (u.2.2.2.2.2.2.2.1, 200, .inl (fun _ => 0))), (u.2.1, .inr (3, [.ref u.2.2.2.1, .ref u.2.2.2.2.1, .ref u.2.2.2.2.2.1, .ref u.2.2.2.2.2.2.1, .int 0])), (u.2.2.2.1, .inl (u.2.2.2.2.2.2.2.2.1, 3, .inl (fun _ => 0))), (u.2.2.2.2.1, .inl (u.2.2.2.2.2.2.2.2.2, 3, .inl (fun _ => 0)))] [(u.2.2.2.2.2.2.2.1, .char), (u.2.2.2.2.2.2.2.2.1, .int), (u.2.2.2.2.2.2.2.2.2, .int)] t) (va_A [(h0, .inr (1, [.null, .null, .int 0, .int 0]))] sz)) 139 1126 (va_A [(h0, .inr (1, [.null, .null, .int 0, .int 0]))] sz) := by
  refine cg_met (by decide) (Nat.le_of_ble_eq_true rfl) (fun p e s m below meth c ls F w hr hlk hnm hl => ?_)
  have w : cg_W D classes (va_A [(h0, .inr (1, [.null, .null, .int 0, .int 0]))] sz) s.heap s [] [(h0, .inr (1, [.null, .null, .int 0, .int 0]))] s.heap [] := w
  have hl : lv_has ls 1 [(0, .ref h0)] := hl
  refine lv_aload_n F.1 F.2.1 d_Rd_init_0 rfl (lv_at hl 0 rfl) ?_
  refine cg_obj F k_35 ko_i ko_c hl.1 d_Rd_init_1 (Nat.le_of_ble_eq_true rfl) (Nat.le_of_ble_eq_true rfl) ?_
  refine lv_aload_n F.1 F.2.1 d_Rd_init_4 rfl (lv_at hl 0 rfl) ?_
  refine cg_new (fs := [.null, .int 0]) F w cl_Tx k_36 ki_Tx kn_Tx z_Tx (Nat.le_of_ble_eq_true rfl) (Nat.le_of_ble_eq_true rfl) d_Rd_init_5 (fun q1 H w => ?_)
  have w : cg_W D classes (va_A [(h0, .inr (1, [.null, .null, .int 0, .int 0]))] sz) s.heap s [] [(h0, .inr (1, [.null, .null, .int 0, .int 0])), (q1, .inr (2, [.null, .int 0]))] H [] := w
  refine lv_dup F.1 F.2.1 d_Rd_init_8 rfl ?_
  refine cg_cv (wc := [(q1, .inr (2, [.null, .int 0]))]) (wr := [(h0, .inr (1, [.null, .null, .int 0, .int 0]))]) w [1] [0] rfl rfl (by decide) (by decide) (cg_rIN (As := []) (rest := [.ref q1, .ref h0]) F (c_Tx_init l D q1 H.size) e_Tx_init rfl ki_Tx_init k_38 (cg_pre w [1] [] rfl rfl (by decide) rfl) rfl hl.1 rfl (Nat.le_of_ble_eq_true rfl) ⟨⟨rfl, rfl⟩, ⟨Nat.le_of_ble_eq_true rfl, Nat.le_of_ble_eq_true rfl⟩, Nat.le_of_ble_eq_true rfl, Nat.le_of_ble_eq_true rfl⟩ d_Rd_init_9) (fun u H locs hu4 w => ?_)
  obtain ⟨q2, cA3⟩ := u
  have w : cg_W D classes (va_A [(h0, .inr (1, [.null, .null, .int 0, .int 0]))] sz) s.heap s [(cA3, .char)] [(h0, .inr (1, [.null, .null, .int 0, .int 0])), (q1, .inr (2, [.ref q2, .int 0])), (q2, .inl (cA3, 200, .inl (fun _ => 0)))] H locs := w
  refine cg_putF F w cl_Rd 0 0 rfl (by decide) k_167 rfl hnm rfl (by rfl) (by rfl) (Nat.le_of_ble_eq_true rfl) d_Rd_init_12 (fun H locs w => ?_)
  have w : cg_W D classes (va_A [(h0, .inr (1, [.null, .null, .int 0, .int 0]))] sz) s.heap s [(cA3, .char)] [(h0, .inr (1, [.ref q1, .null, .int 0, .int 0])), (q1, .inr (2, [.ref q2, .int 0])), (q2, .inl (cA3, 200, .inl (fun _ => 0)))] H locs := w
  refine lv_aload_n F.1 F.2.1 d_Rd_init_15 rfl (lv_at hl 0 rfl) ?_
  refine cg_new (fs := [.null, .null, .null, .null, .int 0]) F w cl_Gm k_52 ki_Gm kn_Gm z_Gm (Nat.le_of_ble_eq_true rfl) (Nat.le_of_ble_eq_true rfl) d_Rd_init_16 (fun q5 H w => ?_)
  have w : cg_W D classes (va_A [(h0, .inr (1, [.null, .null, .int 0, .int 0]))] sz) s.heap s [(cA3, .char)] [(h0, .inr (1, [.ref q1, .null, .int 0, .int 0])), (q1, .inr (2, [.ref q2, .int 0])), (q2, .inl (cA3, 200, .inl (fun _ => 0))), (q5, .inr (3, [.null, .null, .null, .null, .int 0]))] H locs := w
  refine lv_dup F.1 F.2.1 d_Rd_init_19 rfl ?_
  refine cg_cv (wc := [(q5, .inr (3, [.null, .null, .null, .null, .int 0]))]) (wr := [(h0, .inr (1, [.ref q1, .null, .int 0, .int 0])), (q1, .inr (2, [.ref q2, .int 0])), (q2, .inl (cA3, 200, .inl (fun _ => 0)))]) w [3] [0, 1, 2] rfl rfl (by decide) (by decide) (cg_rI (As := []) (rest := [.ref q5, .ref h0]) F (c_Gm_init l D q5 H.size) e_Gm_init rfl ki_Gm_init k_54 (cg_pre w [3] [] rfl rfl (by decide) rfl) rfl hl.1 rfl (Nat.le_of_ble_eq_true rfl) ⟨⟨rfl, rfl⟩, ⟨Nat.le_of_ble_eq_true rfl, Nat.le_of_ble_eq_true rfl⟩, Nat.le_of_ble_eq_true rfl, Nat.le_of_ble_eq_true rfl⟩ d_Rd_init_20) (fun u H locs hu12 w => ?_)
  obtain ⟨q6, q7, q8, q9, cA10, cA11⟩ := u
  have w : cg_W D classes (va_A [(h0, .inr (1, [.null, .null, .int 0, .int 0]))] sz) s.heap s [(cA3, .char), (cA10, .int), (cA11, .int)] [(h0, .inr (1, [.ref q1, .null, .int 0, .int 0])), (q1, .inr (2, [.ref q2, .int 0])), (q2, .inl (cA3, 200, .inl (fun _ => 0))), (q5, .inr (3, [.ref q6, .ref q7, .ref q8, .ref q9, .int 0])), (q6, .inl (cA10, 3, .inl (fun _ => 0))), (q7, .inl (cA11, 3, .inl (fun _ => 0)))] H locs := w
  refine cg_put F w cl_Rd 0 1 rfl (by decide) k_169 rfl (by rfl) (by rfl) (Nat.le_of_ble_eq_true rfl) d_Rd_init_23 (fun H locs w => ?_)
  have w : cg_W D classes (va_A [(h0, .inr (1, [.null, .null, .int 0, .int 0]))] sz) s.heap s [(cA3, .char), (cA10, .int), (cA11, .int)] [(h0, .inr (1, [.ref q1, .ref q5, .int 0, .int 0])), (q1, .inr (2, [.ref q2, .int 0])), (q2, .inl (cA3, 200, .inl (fun _ => 0))), (q5, .inr (3, [.ref q6, .ref q7, .ref q8, .ref q9, .int 0])), (q6, .inl (cA10, 3, .inl (fun _ => 0))), (q7, .inl (cA11, 3, .inl (fun _ => 0)))] H locs := w
  refine lv_aload_n F.1 F.2.1 d_Rd_init_26 rfl (lv_at hl 0 rfl) ?_
  refine lv_iconst (v := 0) F.1 F.2.1 d_Rd_init_27 (by decide) ?_
  refine cg_put F w cl_Rd 0 2 rfl (by decide) k_170 rfl (by rfl) (by rfl) (Nat.le_of_ble_eq_true rfl) d_Rd_init_28 (fun H locs w => ?_)
  have w : cg_W D classes (va_A [(h0, .inr (1, [.null, .null, .int 0, .int 0]))] sz) s.heap s [(cA3, .char), (cA10, .int), (cA11, .int)] [(h0, .inr (1, [.ref q1, .ref q5, .int 0, .int 0])), (q1, .inr (2, [.ref q2, .int 0])), (q2, .inl (cA3, 200, .inl (fun _ => 0))), (q5, .inr (3, [.ref q6, .ref q7, .ref q8, .ref q9, .int 0])), (q6, .inl (cA10, 3, .inl (fun _ => 0))), (q7, .inl (cA11, 3, .inl (fun _ => 0)))] H locs := w
  refine lv_aload_n F.1 F.2.1 d_Rd_init_31 rfl (lv_at hl 0 rfl) ?_
  refine lv_iconst (v := (-1)) F.1 F.2.1 d_Rd_init_32 (by decide) ?_
  refine cg_put F w cl_Rd 0 3 rfl (by decide) k_171 rfl (by rfl) (by rfl) (Nat.le_of_ble_eq_true rfl) d_Rd_init_33 (fun H locs w => ?_)
  have w : cg_W D classes (va_A [(h0, .inr (1, [.null, .null, .int 0, .int 0]))] sz) s.heap s [(cA3, .char), (cA10, .int), (cA11, .int)] [(h0, .inr (1, [.ref q1, .ref q5, .int 0, .int (-1)])), (q1, .inr (2, [.ref q2, .int 0])), (q2, .inl (cA3, 200, .inl (fun _ => 0))), (q5, .inr (3, [.ref q6, .ref q7, .ref q8, .ref q9, .int 0])), (q6, .inl (cA10, 3, .inl (fun _ => 0))), (q7, .inl (cA11, 3, .inl (fun _ => 0)))] H locs := w
  exact cg_vret F w hr hlk (⟨q1, q5, q2, q6, q7, q8, q9, cA3, cA10, cA11⟩) (trivial) [0, 1, 2, 3, 4, 5] [0, 1, 2] rfl rfl (by decide) rfl (Nat.le_of_ble_eq_true rfl) (Nat.le_of_ble_eq_true rfl) d_Rd_init_36
set_option maxHeartbeats 4000000 in
set_option maxRecDepth 100000 in
theorem c_At_init (l : Launch) (D : va_G) (h0 : Nat) (sz : Nat) : Met l y_At_init (Cond.code y_At_init b_At_init 1 none :: tb) { frames := 1, cells := 2, slots := 16, locals := 12 } (va_Pc [.ref h0] (cg_Pre D classes sz [(h0, .inr (9, [.null, .null]))] [])) (va_Qv (fun _ : Unit => True) (fun (u : Unit) (t : State) => cg_B D classes (va_A [(h0, .inr (9, [.null, .null]))] sz) [] [] t) (va_A [(h0, .inr (9, [.null, .null]))] sz)) 2 16 (va_A [(h0, .inr (9, [.null, .null]))] sz) := by
  refine cg_met (by decide) (Nat.le_of_ble_eq_true rfl) (fun p e s m below meth c ls F w hr hlk hnm hl => ?_)
  have w : cg_W D classes (va_A [(h0, .inr (9, [.null, .null]))] sz) s.heap s [] [(h0, .inr (9, [.null, .null]))] s.heap [] := w
  have hl : lv_has ls 1 [(0, .ref h0)] := hl
  refine lv_aload_n F.1 F.2.1 d_At_init_0 rfl (lv_at hl 0 rfl) ?_
  refine cg_obj F k_252 ko_i ko_c hl.1 d_At_init_1 (Nat.le_of_ble_eq_true rfl) (Nat.le_of_ble_eq_true rfl) ?_
  refine lv_aload_n F.1 F.2.1 d_At_init_4 rfl (lv_at hl 0 rfl) ?_
  refine lv_bipush (v := 8) F.1 F.2.1 d_At_init_5 (by decide) ?_
  refine cg_newa (atype := .int) (a0 := (8, .inl (fun _ => 0))) F w (ft := .int) kA_int rfl (fun _ => rfl) (by decide) (by decide) (by decide) (Nat.le_of_ble_eq_true rfl) (Nat.le_of_ble_eq_true rfl) d_At_init_7 (fun q1 cA2 H w => ?_)
  have w : cg_W D classes (va_A [(h0, .inr (9, [.null, .null]))] sz) s.heap s [(cA2, .int)] [(h0, .inr (9, [.null, .null])), (q1, .inl (cA2, 8, .inl (fun _ => 0)))] H [] := w
  refine cg_putF F w cl_At 0 0 rfl (by decide) k_253 rfl hnm rfl (by rfl) (by rfl) (Nat.le_of_ble_eq_true rfl) d_At_init_9 (fun H locs w => ?_)
  have w : cg_W D classes (va_A [(h0, .inr (9, [.null, .null]))] sz) s.heap s [(cA2, .int)] [(h0, .inr (9, [.ref q1, .null])), (q1, .inl (cA2, 8, .inl (fun _ => 0)))] H locs := w
  have w := cg_sub w [(h0, .inr (9, [.ref q1, .null]))] [0] rfl rfl (by decide) [] [] rfl
  refine lv_aload_n F.1 F.2.1 d_At_init_12 rfl (lv_at hl 0 rfl) ?_
  refine lv_bipush (v := 8) F.1 F.2.1 d_At_init_13 (by decide) ?_
  refine cg_newa (atype := .int) (a0 := (8, .inl (fun _ => 0))) F w (ft := .int) kA_int rfl (fun _ => rfl) (by decide) (by decide) (by decide) (Nat.le_of_ble_eq_true rfl) (Nat.le_of_ble_eq_true rfl) d_At_init_15 (fun q3 cA4 H w => ?_)
  have w : cg_W D classes (va_A [(h0, .inr (9, [.null, .null]))] sz) s.heap s [(cA4, .int)] [(h0, .inr (9, [.ref q1, .null])), (q3, .inl (cA4, 8, .inl (fun _ => 0)))] H locs := w
  refine cg_putF F w cl_At 0 1 rfl (by decide) k_256 rfl hnm rfl (by rfl) (by rfl) (Nat.le_of_ble_eq_true rfl) d_At_init_17 (fun H locs w => ?_)
  have w : cg_W D classes (va_A [(h0, .inr (9, [.null, .null]))] sz) s.heap s [(cA4, .int)] [(h0, .inr (9, [.ref q1, .ref q3])), (q3, .inl (cA4, 8, .inl (fun _ => 0)))] H locs := w
  have w := cg_sub w [(h0, .inr (9, [.ref q1, .ref q3]))] [0] rfl rfl (by decide) [] [] rfl
  exact cg_vret F w hr hlk (()) (trivial) [] [] rfl rfl (by decide) rfl (Nat.le_of_ble_eq_true rfl) (Nat.le_of_ble_eq_true rfl) d_At_init_20
set_option maxHeartbeats 4000000 in
set_option maxRecDepth 100000 in
theorem c_Eq_init (l : Launch) (D : va_G) (h0 : Nat) (sz : Nat) : Met l y_Eq_init (Cond.code y_Eq_init b_Eq_init 1 none :: tb) { frames := 1, cells := 10, slots := 88, locals := 12 } (va_Pc [.ref h0] (cg_Pre D classes sz [(h0, .inr (10, [.null, .null, .long 0]))] [])) (va_Qv (fun _ : Unit => True) (fun (u : Unit) (t : State) => cg_B D classes (va_A [(h0, .inr (10, [.null, .null, .long 0]))] sz) [] [] t) (va_A [(h0, .inr (10, [.null, .null, .long 0]))] sz)) 10 88 (va_A [(h0, .inr (10, [.null, .null, .long 0]))] sz) := by
  refine cg_met (by decide) (Nat.le_of_ble_eq_true rfl) (fun p e s m below meth c ls F w hr hlk hnm hl => ?_)
  have w : cg_W D classes (va_A [(h0, .inr (10, [.null, .null, .long 0]))] sz) s.heap s [] [(h0, .inr (10, [.null, .null, .long 0]))] s.heap [] := w
  have hl : lv_has ls 1 [(0, .ref h0)] := hl
  refine lv_aload_n F.1 F.2.1 d_Eq_init_0 rfl (lv_at hl 0 rfl) ?_
  refine cg_obj F k_268 ko_i ko_c hl.1 d_Eq_init_1 (Nat.le_of_ble_eq_true rfl) (Nat.le_of_ble_eq_true rfl) ?_
  refine lv_aload_n F.1 F.2.1 d_Eq_init_4 rfl (lv_at hl 0 rfl) ?_
  refine lv_bipush (v := 8) F.1 F.2.1 d_Eq_init_5 (by decide) ?_
  refine lv_bipush (v := 9) F.1 F.2.1 d_Eq_init_7 (by decide) ?_
  refine cg_mna (N' := 8) (K' := 9) (ft := .long) F w k_269 kM_long kA_long (by decide) (by decide) (by decide) (by decide) (by decide) (by decide) (by decide) rfl rfl (Nat.le_of_ble_eq_true rfl) (Nat.le_of_ble_eq_true rfl) d_Eq_init_9 (fun q1 H w => ?_)
  refine cg_putF F w cl_Eq 0 0 rfl (by decide) k_271 rfl hnm rfl (by rfl) (by rfl) (Nat.le_of_ble_eq_true rfl) d_Eq_init_13 (fun H locs w => ?_)
  have w : cg_W D classes (va_A [(h0, .inr (10, [.null, .null, .long 0]))] sz) s.heap s [] [(h0, .inr (10, [.ref q1, .null, .long 0]))] H locs := w
  refine lv_aload_n F.1 F.2.1 d_Eq_init_16 rfl (lv_at hl 0 rfl) ?_
  refine lv_bipush (v := 8) F.1 F.2.1 d_Eq_init_17 (by decide) ?_
  refine cg_newa (atype := .long) (a0 := (8, .inr (.inl (fun _ => 0)))) F w (ft := .long) kA_long rfl (fun _ => rfl) (by decide) (by decide) (by decide) (Nat.le_of_ble_eq_true rfl) (Nat.le_of_ble_eq_true rfl) d_Eq_init_19 (fun q2 cA3 H w => ?_)
  have w : cg_W D classes (va_A [(h0, .inr (10, [.null, .null, .long 0]))] sz) s.heap s [(cA3, .long)] [(h0, .inr (10, [.ref q1, .null, .long 0])), (q2, .inl (cA3, 8, .inr (.inl (fun _ => 0))))] H locs := w
  refine cg_putF F w cl_Eq 0 1 rfl (by decide) k_273 rfl hnm rfl (by rfl) (by rfl) (Nat.le_of_ble_eq_true rfl) d_Eq_init_21 (fun H locs w => ?_)
  have w : cg_W D classes (va_A [(h0, .inr (10, [.null, .null, .long 0]))] sz) s.heap s [(cA3, .long)] [(h0, .inr (10, [.ref q1, .ref q2, .long 0])), (q2, .inl (cA3, 8, .inr (.inl (fun _ => 0))))] H locs := w
  have w := cg_sub w [(h0, .inr (10, [.ref q1, .ref q2, .long 0]))] [0] rfl rfl (by decide) [] [] rfl
  refine lv_aload_n F.1 F.2.1 d_Eq_init_24 rfl (lv_at hl 0 rfl) ?_
  refine lv_lconst (v := 1) F.1 F.2.1 d_Eq_init_25 (by decide) ?_
  refine cg_put F w cl_Eq 0 2 rfl (by decide) k_275 rfl (by rfl) (by rfl) (Nat.le_of_ble_eq_true rfl) d_Eq_init_26 (fun H locs w => ?_)
  have w : cg_W D classes (va_A [(h0, .inr (10, [.null, .null, .long 0]))] sz) s.heap s [] [(h0, .inr (10, [.ref q1, .ref q2, .long 1]))] H locs := w
  exact cg_vret F w hr hlk (()) (trivial) [] [] rfl rfl (by decide) rfl (Nat.le_of_ble_eq_true rfl) (Nat.le_of_ble_eq_true rfl) d_Eq_init_29
set_option maxHeartbeats 4000000 in
set_option maxRecDepth 100000 in
theorem c_Go_init (l : Launch) (D : va_G) (h0 : Nat) (sz : Nat) : Met l y_Go_init (Cond.code y_Go_init b_Go_init 1 none :: tb) { frames := 2, cells := 4, slots := 26, locals := 32 } (va_Pc [.ref h0] (cg_Pre D classes sz [(h0, .inr (11, [.null, .null]))] [])) (va_Qv (fun _ : Unit => True) (fun (u : Unit) (t : State) => cg_B D classes (va_A [(h0, .inr (11, [.null, .null]))] sz) [] [] t) (va_A [(h0, .inr (11, [.null, .null]))] sz)) 4 26 (va_A [(h0, .inr (11, [.null, .null]))] sz) := by
  refine cg_met (by decide) (Nat.le_of_ble_eq_true rfl) (fun p e s m below meth c ls F w hr hlk hnm hl => ?_)
  have w : cg_W D classes (va_A [(h0, .inr (11, [.null, .null]))] sz) s.heap s [] [(h0, .inr (11, [.null, .null]))] s.heap [] := w
  have hl : lv_has ls 1 [(0, .ref h0)] := hl
  refine lv_aload_n F.1 F.2.1 d_Go_init_0 rfl (lv_at hl 0 rfl) ?_
  refine cg_obj F k_316 ko_i ko_c hl.1 d_Go_init_1 (Nat.le_of_ble_eq_true rfl) (Nat.le_of_ble_eq_true rfl) ?_
  refine lv_aload_n F.1 F.2.1 d_Go_init_4 rfl (lv_at hl 0 rfl) ?_
  refine cg_new (fs := [.null, .null]) F w cl_At k_317 ki_At kn_At z_At (Nat.le_of_ble_eq_true rfl) (Nat.le_of_ble_eq_true rfl) d_Go_init_5 (fun q1 H w => ?_)
  have w : cg_W D classes (va_A [(h0, .inr (11, [.null, .null]))] sz) s.heap s [] [(h0, .inr (11, [.null, .null])), (q1, .inr (9, [.null, .null]))] H [] := w
  refine lv_dup F.1 F.2.1 d_Go_init_8 rfl ?_
  refine cg_cv (wc := [(q1, .inr (9, [.null, .null]))]) (wr := [(h0, .inr (11, [.null, .null]))]) w [1] [0] rfl rfl (by decide) (by decide) (cg_rIN (As := []) (rest := [.ref q1, .ref h0]) F (c_At_init l D q1 H.size) e_At_init rfl ki_At_init k_318 (cg_pre w [1] [] rfl rfl (by decide) rfl) rfl hl.1 rfl (Nat.le_of_ble_eq_true rfl) ⟨⟨rfl, rfl⟩, ⟨Nat.le_of_ble_eq_true rfl, Nat.le_of_ble_eq_true rfl⟩, Nat.le_of_ble_eq_true rfl, Nat.le_of_ble_eq_true rfl⟩ d_Go_init_9) (fun u H locs hu2 w => ?_)
  have w : cg_W D classes (va_A [(h0, .inr (11, [.null, .null]))] sz) s.heap s [] [(h0, .inr (11, [.null, .null]))] H locs := w
  refine cg_putF F w cl_Go 0 0 rfl (by decide) k_319 rfl hnm rfl (by rfl) (by rfl) (Nat.le_of_ble_eq_true rfl) d_Go_init_12 (fun H locs w => ?_)
  have w : cg_W D classes (va_A [(h0, .inr (11, [.null, .null]))] sz) s.heap s [] [(h0, .inr (11, [.ref q1, .null]))] H locs := w
  refine lv_aload_n F.1 F.2.1 d_Go_init_15 rfl (lv_at hl 0 rfl) ?_
  refine lv_bipush (v := 8) F.1 F.2.1 d_Go_init_16 (by decide) ?_
  refine cg_newa (atype := .int) (a0 := (8, .inl (fun _ => 0))) F w (ft := .int) kA_int rfl (fun _ => rfl) (by decide) (by decide) (by decide) (Nat.le_of_ble_eq_true rfl) (Nat.le_of_ble_eq_true rfl) d_Go_init_18 (fun q3 cA4 H w => ?_)
  have w : cg_W D classes (va_A [(h0, .inr (11, [.null, .null]))] sz) s.heap s [(cA4, .int)] [(h0, .inr (11, [.ref q1, .null])), (q3, .inl (cA4, 8, .inl (fun _ => 0)))] H locs := w
  refine cg_putF F w cl_Go 0 1 rfl (by decide) k_320 rfl hnm rfl (by rfl) (by rfl) (Nat.le_of_ble_eq_true rfl) d_Go_init_20 (fun H locs w => ?_)
  have w : cg_W D classes (va_A [(h0, .inr (11, [.null, .null]))] sz) s.heap s [(cA4, .int)] [(h0, .inr (11, [.ref q1, .ref q3])), (q3, .inl (cA4, 8, .inl (fun _ => 0)))] H locs := w
  have w := cg_sub w [(h0, .inr (11, [.ref q1, .ref q3]))] [0] rfl rfl (by decide) [] [] rfl
  exact cg_vret F w hr hlk (()) (trivial) [] [] rfl rfl (by decide) rfl (Nat.le_of_ble_eq_true rfl) (Nat.le_of_ble_eq_true rfl) d_Go_init_23
set_option maxHeartbeats 4000000 in
set_option maxRecDepth 100000 in
theorem c_Fo_init (l : Launch) (D : va_G) (h0 : Nat) (sz : Nat) : Met l y_Fo_init (Cond.code y_Fo_init b_Fo_init 1 none :: tb) { frames := 4, cells := 166, slots := 1383, locals := 74 } (va_Pc [.ref h0] (cg_Pre D classes sz [(h0, .inr (8, [.null, .int 0, .int 0, .int 0, .int 0, .int 0, .null, .null, .null, .null, .null]))] [])) (va_Qv (fun _ : Nat × Nat × Nat × Nat × Nat × Nat => True) (fun (u : Nat × Nat × Nat × Nat × Nat × Nat) (t : State) => cg_B D classes (va_A [(h0, .inr (8, [.null, .int 0, .int 0, .int 0, .int 0, .int 0, .null, .null, .null, .null, .null]))] sz) [(h0, .inr (8, [.ref u.1, .int 0, .int (-1), .int 0, .int 0, .int 0, .ref u.2.1, .ref u.2.2.1, .ref u.2.2.2.1, .ref u.2.2.2.2.1, .ref u.2.2.2.2.2]))] [] t) (va_A [(h0, .inr (8, [.null, .int 0, .int 0, .int 0, .int 0, .int 0, .null, .null, .null, .null, .null]))] sz)) 166 1383 (va_A [(h0, .inr (8, [.null, .int 0, .int 0, .int 0, .int 0, .int 0, .null, .null, .null, .null, .null]))] sz) := by
  refine cg_met (by decide) (Nat.le_of_ble_eq_true rfl) (fun p e s m below meth c ls F w hr hlk hnm hl => ?_)
  have w : cg_W D classes (va_A [(h0, .inr (8, [.null, .int 0, .int 0, .int 0, .int 0, .int 0, .null, .null, .null, .null, .null]))] sz) s.heap s [] [(h0, .inr (8, [.null, .int 0, .int 0, .int 0, .int 0, .int 0, .null, .null, .null, .null, .null]))] s.heap [] := w
  have hl : lv_has ls 1 [(0, .ref h0)] := hl
  refine lv_aload_n F.1 F.2.1 d_Fo_init_0 rfl (lv_at hl 0 rfl) ?_
  refine cg_obj F k_193 ko_i ko_c hl.1 d_Fo_init_1 (Nat.le_of_ble_eq_true rfl) (Nat.le_of_ble_eq_true rfl) ?_
  refine lv_aload_n F.1 F.2.1 d_Fo_init_4 rfl (lv_at hl 0 rfl) ?_
  refine cg_new (fs := [.null, .null, .null, .null, .int 0]) F w cl_Gm k_194 ki_Gm kn_Gm z_Gm (Nat.le_of_ble_eq_true rfl) (Nat.le_of_ble_eq_true rfl) d_Fo_init_5 (fun q1 H w => ?_)
  have w : cg_W D classes (va_A [(h0, .inr (8, [.null, .int 0, .int 0, .int 0, .int 0, .int 0, .null, .null, .null, .null, .null]))] sz) s.heap s [] [(h0, .inr (8, [.null, .int 0, .int 0, .int 0, .int 0, .int 0, .null, .null, .null, .null, .null])), (q1, .inr (3, [.null, .null, .null, .null, .int 0]))] H [] := w
  refine lv_dup F.1 F.2.1 d_Fo_init_8 rfl ?_
  refine cg_cv (wc := [(q1, .inr (3, [.null, .null, .null, .null, .int 0]))]) (wr := [(h0, .inr (8, [.null, .int 0, .int 0, .int 0, .int 0, .int 0, .null, .null, .null, .null, .null]))]) w [1] [0] rfl rfl (by decide) (by decide) (cg_rI (As := []) (rest := [.ref q1, .ref h0]) F (c_Gm_init l D q1 H.size) e_Gm_init rfl ki_Gm_init k_195 (cg_pre w [1] [] rfl rfl (by decide) rfl) rfl hl.1 rfl (Nat.le_of_ble_eq_true rfl) ⟨⟨rfl, rfl⟩, ⟨Nat.le_of_ble_eq_true rfl, Nat.le_of_ble_eq_true rfl⟩, Nat.le_of_ble_eq_true rfl, Nat.le_of_ble_eq_true rfl⟩ d_Fo_init_9) (fun u H locs hu8 w => ?_)
  obtain ⟨q2, q3, q4, q5, cA6, cA7⟩ := u
  have w : cg_W D classes (va_A [(h0, .inr (8, [.null, .int 0, .int 0, .int 0, .int 0, .int 0, .null, .null, .null, .null, .null]))] sz) s.heap s [(cA6, .int), (cA7, .int)] [(h0, .inr (8, [.null, .int 0, .int 0, .int 0, .int 0, .int 0, .null, .null, .null, .null, .null])), (q1, .inr (3, [.ref q2, .ref q3, .ref q4, .ref q5, .int 0])), (q2, .inl (cA6, 3, .inl (fun _ => 0))), (q3, .inl (cA7, 3, .inl (fun _ => 0)))] H locs := w
  refine cg_put F w cl_Fo 0 0 rfl (by decide) k_198 rfl (by rfl) (by rfl) (Nat.le_of_ble_eq_true rfl) d_Fo_init_12 (fun H locs w => ?_)
  have w : cg_W D classes (va_A [(h0, .inr (8, [.null, .int 0, .int 0, .int 0, .int 0, .int 0, .null, .null, .null, .null, .null]))] sz) s.heap s [(cA6, .int), (cA7, .int)] [(h0, .inr (8, [.ref q1, .int 0, .int 0, .int 0, .int 0, .int 0, .null, .null, .null, .null, .null])), (q1, .inr (3, [.ref q2, .ref q3, .ref q4, .ref q5, .int 0])), (q2, .inl (cA6, 3, .inl (fun _ => 0))), (q3, .inl (cA7, 3, .inl (fun _ => 0)))] H locs := w
  refine lv_aload_n F.1 F.2.1 d_Fo_init_15 rfl (lv_at hl 0 rfl) ?_
  refine lv_iconst (v := 0) F.1 F.2.1 d_Fo_init_16 (by decide) ?_
  refine cg_put F w cl_Fo 0 1 rfl (by decide) k_203 rfl (by rfl) (by rfl) (Nat.le_of_ble_eq_true rfl) d_Fo_init_17 (fun H locs w => ?_)
  have w : cg_W D classes (va_A [(h0, .inr (8, [.null, .int 0, .int 0, .int 0, .int 0, .int 0, .null, .null, .null, .null, .null]))] sz) s.heap s [(cA6, .int), (cA7, .int)] [(h0, .inr (8, [.ref q1, .int 0, .int 0, .int 0, .int 0, .int 0, .null, .null, .null, .null, .null])), (q1, .inr (3, [.ref q2, .ref q3, .ref q4, .ref q5, .int 0])), (q2, .inl (cA6, 3, .inl (fun _ => 0))), (q3, .inl (cA7, 3, .inl (fun _ => 0)))] H locs := w
  refine lv_aload_n F.1 F.2.1 d_Fo_init_20 rfl (lv_at hl 0 rfl) ?_
  refine lv_iconst (v := (-1)) F.1 F.2.1 d_Fo_init_21 (by decide) ?_
  refine cg_put F w cl_Fo 0 2 rfl (by decide) k_208 rfl (by rfl) (by rfl) (Nat.le_of_ble_eq_true rfl) d_Fo_init_22 (fun H locs w => ?_)
  have w : cg_W D classes (va_A [(h0, .inr (8, [.null, .int 0, .int 0, .int 0, .int 0, .int 0, .null, .null, .null, .null, .null]))] sz) s.heap s [(cA6, .int), (cA7, .int)] [(h0, .inr (8, [.ref q1, .int 0, .int (-1), .int 0, .int 0, .int 0, .null, .null, .null, .null, .null])), (q1, .inr (3, [.ref q2, .ref q3, .ref q4, .ref q5, .int 0])), (q2, .inl (cA6, 3, .inl (fun _ => 0))), (q3, .inl (cA7, 3, .inl (fun _ => 0)))] H locs := w
  refine lv_aload_n F.1 F.2.1 d_Fo_init_25 rfl (lv_at hl 0 rfl) ?_
  refine lv_iconst (v := 0) F.1 F.2.1 d_Fo_init_26 (by decide) ?_
  refine cg_put F w cl_Fo 0 3 rfl (by decide) k_210 rfl (by rfl) (by rfl) (Nat.le_of_ble_eq_true rfl) d_Fo_init_27 (fun H locs w => ?_)
  have w : cg_W D classes (va_A [(h0, .inr (8, [.null, .int 0, .int 0, .int 0, .int 0, .int 0, .null, .null, .null, .null, .null]))] sz) s.heap s [(cA6, .int), (cA7, .int)] [(h0, .inr (8, [.ref q1, .int 0, .int (-1), .int 0, .int 0, .int 0, .null, .null, .null, .null, .null])), (q1, .inr (3, [.ref q2, .ref q3, .ref q4, .ref q5, .int 0])), (q2, .inl (cA6, 3, .inl (fun _ => 0))), (q3, .inl (cA7, 3, .inl (fun _ => 0)))] H locs := w
  refine lv_aload_n F.1 F.2.1 d_Fo_init_30 rfl (lv_at hl 0 rfl) ?_
  refine lv_iconst (v := 0) F.1 F.2.1 d_Fo_init_31 (by decide) ?_
  refine cg_put F w cl_Fo 0 4 rfl (by decide) k_214 rfl (by rfl) (by rfl) (Nat.le_of_ble_eq_true rfl) d_Fo_init_32 (fun H locs w => ?_)
  have w : cg_W D classes (va_A [(h0, .inr (8, [.null, .int 0, .int 0, .int 0, .int 0, .int 0, .null, .null, .null, .null, .null]))] sz) s.heap s [(cA6, .int), (cA7, .int)] [(h0, .inr (8, [.ref q1, .int 0, .int (-1), .int 0, .int 0, .int 0, .null, .null, .null, .null, .null])), (q1, .inr (3, [.ref q2, .ref q3, .ref q4, .ref q5, .int 0])), (q2, .inl (cA6, 3, .inl (fun _ => 0))), (q3, .inl (cA7, 3, .inl (fun _ => 0)))] H locs := w
  refine lv_aload_n F.1 F.2.1 d_Fo_init_35 rfl (lv_at hl 0 rfl) ?_
  refine lv_iconst (v := 0) F.1 F.2.1 d_Fo_init_36 (by decide) ?_
  refine cg_put F w cl_Fo 0 5 rfl (by decide) k_215 rfl (by rfl) (by rfl) (Nat.le_of_ble_eq_true rfl) d_Fo_init_37 (fun H locs w => ?_)
  have w : cg_W D classes (va_A [(h0, .inr (8, [.null, .int 0, .int 0, .int 0, .int 0, .int 0, .null, .null, .null, .null, .null]))] sz) s.heap s [(cA6, .int), (cA7, .int)] [(h0, .inr (8, [.ref q1, .int 0, .int (-1), .int 0, .int 0, .int 0, .null, .null, .null, .null, .null])), (q1, .inr (3, [.ref q2, .ref q3, .ref q4, .ref q5, .int 0])), (q2, .inl (cA6, 3, .inl (fun _ => 0))), (q3, .inl (cA7, 3, .inl (fun _ => 0)))] H locs := w
  refine lv_aload_n F.1 F.2.1 d_Fo_init_40 rfl (lv_at hl 0 rfl) ?_
  refine lv_bipush (v := 8) F.1 F.2.1 d_Fo_init_41 (by decide) ?_
  refine lv_iconst (v := 3) F.1 F.2.1 d_Fo_init_43 (by decide) ?_
  refine cg_mna (N' := 8) (K' := 3) (ft := .int) F w k_196 kM_int kA_int (by decide) (by decide) (by decide) (by decide) (by decide) (by decide) (by decide) rfl rfl (Nat.le_of_ble_eq_true rfl) (Nat.le_of_ble_eq_true rfl) d_Fo_init_44 (fun q9 H w => ?_)
  refine cg_putF F w cl_Fo 0 6 rfl (by decide) k_216 rfl hnm rfl (by rfl) (by rfl) (Nat.le_of_ble_eq_true rfl) d_Fo_init_48 (fun H locs w => ?_)
  have w : cg_W D classes (va_A [(h0, .inr (8, [.null, .int 0, .int 0, .int 0, .int 0, .int 0, .null, .null, .null, .null, .null]))] sz) s.heap s [(cA6, .int), (cA7, .int)] [(h0, .inr (8, [.ref q1, .int 0, .int (-1), .int 0, .int 0, .int 0, .ref q9, .null, .null, .null, .null])), (q1, .inr (3, [.ref q2, .ref q3, .ref q4, .ref q5, .int 0])), (q2, .inl (cA6, 3, .inl (fun _ => 0))), (q3, .inl (cA7, 3, .inl (fun _ => 0)))] H locs := w
  refine lv_aload_n F.1 F.2.1 d_Fo_init_51 rfl (lv_at hl 0 rfl) ?_
  refine lv_bipush (v := 8) F.1 F.2.1 d_Fo_init_52 (by decide) ?_
  refine cg_newa (atype := .int) (a0 := (8, .inl (fun _ => 0))) F w (ft := .int) kA_int rfl (fun _ => rfl) (by decide) (by decide) (by decide) (Nat.le_of_ble_eq_true rfl) (Nat.le_of_ble_eq_true rfl) d_Fo_init_54 (fun q10 cA11 H w => ?_)
  have w : cg_W D classes (va_A [(h0, .inr (8, [.null, .int 0, .int 0, .int 0, .int 0, .int 0, .null, .null, .null, .null, .null]))] sz) s.heap s [(cA6, .int), (cA7, .int), (cA11, .int)] [(h0, .inr (8, [.ref q1, .int 0, .int (-1), .int 0, .int 0, .int 0, .ref q9, .null, .null, .null, .null])), (q1, .inr (3, [.ref q2, .ref q3, .ref q4, .ref q5, .int 0])), (q2, .inl (cA6, 3, .inl (fun _ => 0))), (q3, .inl (cA7, 3, .inl (fun _ => 0))), (q10, .inl (cA11, 8, .inl (fun _ => 0)))] H locs := w
  refine cg_putF F w cl_Fo 0 7 rfl (by decide) k_218 rfl hnm rfl (by rfl) (by rfl) (Nat.le_of_ble_eq_true rfl) d_Fo_init_56 (fun H locs w => ?_)
  have w : cg_W D classes (va_A [(h0, .inr (8, [.null, .int 0, .int 0, .int 0, .int 0, .int 0, .null, .null, .null, .null, .null]))] sz) s.heap s [(cA6, .int), (cA7, .int), (cA11, .int)] [(h0, .inr (8, [.ref q1, .int 0, .int (-1), .int 0, .int 0, .int 0, .ref q9, .ref q10, .null, .null, .null])), (q1, .inr (3, [.ref q2, .ref q3, .ref q4, .ref q5, .int 0])), (q2, .inl (cA6, 3, .inl (fun _ => 0))), (q3, .inl (cA7, 3, .inl (fun _ => 0))), (q10, .inl (cA11, 8, .inl (fun _ => 0)))] H locs := w
  have w := cg_sub w [(h0, .inr (8, [.ref q1, .int 0, .int (-1), .int 0, .int 0, .int 0, .ref q9, .ref q10, .null, .null, .null])), (q1, .inr (3, [.ref q2, .ref q3, .ref q4, .ref q5, .int 0])), (q2, .inl (cA6, 3, .inl (fun _ => 0))), (q3, .inl (cA7, 3, .inl (fun _ => 0)))] [0, 1, 2, 3] rfl rfl (by decide) [(cA6, .int), (cA7, .int)] [0, 1] rfl
  refine lv_aload_n F.1 F.2.1 d_Fo_init_59 rfl (lv_at hl 0 rfl) ?_
  refine lv_bipush (v := 8) F.1 F.2.1 d_Fo_init_60 (by decide) ?_
  refine lv_bipush (v := 10) F.1 F.2.1 d_Fo_init_62 (by decide) ?_
  refine cg_mna (N' := 8) (K' := 10) (ft := .int) F w k_196 kM_int kA_int (by decide) (by decide) (by decide) (by decide) (by decide) (by decide) (by decide) rfl rfl (Nat.le_of_ble_eq_true rfl) (Nat.le_of_ble_eq_true rfl) d_Fo_init_64 (fun q12 H w => ?_)
  refine cg_putF F w cl_Fo 0 8 rfl (by decide) k_220 rfl hnm rfl (by rfl) (by rfl) (Nat.le_of_ble_eq_true rfl) d_Fo_init_68 (fun H locs w => ?_)
  have w : cg_W D classes (va_A [(h0, .inr (8, [.null, .int 0, .int 0, .int 0, .int 0, .int 0, .null, .null, .null, .null, .null]))] sz) s.heap s [(cA6, .int), (cA7, .int)] [(h0, .inr (8, [.ref q1, .int 0, .int (-1), .int 0, .int 0, .int 0, .ref q9, .ref q10, .ref q12, .null, .null])), (q1, .inr (3, [.ref q2, .ref q3, .ref q4, .ref q5, .int 0])), (q2, .inl (cA6, 3, .inl (fun _ => 0))), (q3, .inl (cA7, 3, .inl (fun _ => 0)))] H locs := w
  refine lv_aload_n F.1 F.2.1 d_Fo_init_71 rfl (lv_at hl 0 rfl) ?_
  refine lv_bipush (v := 8) F.1 F.2.1 d_Fo_init_72 (by decide) ?_
  refine lv_bipush (v := 40) F.1 F.2.1 d_Fo_init_74 (by decide) ?_
  refine cg_mna (N' := 8) (K' := 40) (ft := .int) F w k_196 kM_int kA_int (by decide) (by decide) (by decide) (by decide) (by decide) (by decide) (by decide) rfl rfl (Nat.le_of_ble_eq_true rfl) (Nat.le_of_ble_eq_true rfl) d_Fo_init_76 (fun q13 H w => ?_)
  refine cg_putF F w cl_Fo 0 9 rfl (by decide) k_222 rfl hnm rfl (by rfl) (by rfl) (Nat.le_of_ble_eq_true rfl) d_Fo_init_80 (fun H locs w => ?_)
  have w : cg_W D classes (va_A [(h0, .inr (8, [.null, .int 0, .int 0, .int 0, .int 0, .int 0, .null, .null, .null, .null, .null]))] sz) s.heap s [(cA6, .int), (cA7, .int)] [(h0, .inr (8, [.ref q1, .int 0, .int (-1), .int 0, .int 0, .int 0, .ref q9, .ref q10, .ref q12, .ref q13, .null])), (q1, .inr (3, [.ref q2, .ref q3, .ref q4, .ref q5, .int 0])), (q2, .inl (cA6, 3, .inl (fun _ => 0))), (q3, .inl (cA7, 3, .inl (fun _ => 0)))] H locs := w
  refine lv_aload_n F.1 F.2.1 d_Fo_init_83 rfl (lv_at hl 0 rfl) ?_
  refine lv_iconst (v := 3) F.1 F.2.1 d_Fo_init_84 (by decide) ?_
  refine cg_newa (atype := .int) (a0 := (3, .inl (fun _ => 0))) F w (ft := .int) kA_int rfl (fun _ => rfl) (by decide) (by decide) (by decide) (Nat.le_of_ble_eq_true rfl) (Nat.le_of_ble_eq_true rfl) d_Fo_init_85 (fun q14 cA15 H w => ?_)
  have w : cg_W D classes (va_A [(h0, .inr (8, [.null, .int 0, .int 0, .int 0, .int 0, .int 0, .null, .null, .null, .null, .null]))] sz) s.heap s [(cA6, .int), (cA7, .int), (cA15, .int)] [(h0, .inr (8, [.ref q1, .int 0, .int (-1), .int 0, .int 0, .int 0, .ref q9, .ref q10, .ref q12, .ref q13, .null])), (q1, .inr (3, [.ref q2, .ref q3, .ref q4, .ref q5, .int 0])), (q2, .inl (cA6, 3, .inl (fun _ => 0))), (q3, .inl (cA7, 3, .inl (fun _ => 0))), (q14, .inl (cA15, 3, .inl (fun _ => 0)))] H locs := w
  refine cg_putF F w cl_Fo 0 10 rfl (by decide) k_223 rfl hnm rfl (by rfl) (by rfl) (Nat.le_of_ble_eq_true rfl) d_Fo_init_87 (fun H locs w => ?_)
  have w : cg_W D classes (va_A [(h0, .inr (8, [.null, .int 0, .int 0, .int 0, .int 0, .int 0, .null, .null, .null, .null, .null]))] sz) s.heap s [(cA6, .int), (cA7, .int), (cA15, .int)] [(h0, .inr (8, [.ref q1, .int 0, .int (-1), .int 0, .int 0, .int 0, .ref q9, .ref q10, .ref q12, .ref q13, .ref q14])), (q1, .inr (3, [.ref q2, .ref q3, .ref q4, .ref q5, .int 0])), (q2, .inl (cA6, 3, .inl (fun _ => 0))), (q3, .inl (cA7, 3, .inl (fun _ => 0))), (q14, .inl (cA15, 3, .inl (fun _ => 0)))] H locs := w
  have w := cg_sub w [(h0, .inr (8, [.ref q1, .int 0, .int (-1), .int 0, .int 0, .int 0, .ref q9, .ref q10, .ref q12, .ref q13, .ref q14])), (q1, .inr (3, [.ref q2, .ref q3, .ref q4, .ref q5, .int 0])), (q2, .inl (cA6, 3, .inl (fun _ => 0))), (q3, .inl (cA7, 3, .inl (fun _ => 0)))] [0, 1, 2, 3] rfl rfl (by decide) [(cA6, .int), (cA7, .int)] [0, 1] rfl
  exact cg_vret F w hr hlk (⟨q1, q9, q10, q12, q13, q14⟩) (trivial) [0] [] rfl rfl (by decide) rfl (Nat.le_of_ble_eq_true rfl) (Nat.le_of_ble_eq_true rfl) d_Fo_init_90
set_option maxHeartbeats 4000000 in
set_option maxRecDepth 100000 in
theorem c_Va_init (l : Launch) (D : va_G) (h0 : Nat) (sz : Nat) : Met l y_Va_init (Cond.code y_Va_init b_Va_init 1 none :: tb) { frames := 5, cells := 184, slots := 1527, locals := 94 } (va_Pc [.ref h0] (cg_Pre D classes sz [(h0, .inr (7, [.null, .null, .null, .null, .int 0, .null, .null]))] [])) (va_Qv (fun _ : Nat × Nat × Nat × Nat × Nat × Nat × Nat × Nat × Nat × Nat × Nat × Nat => True) (fun (u : Nat × Nat × Nat × Nat × Nat × Nat × Nat × Nat × Nat × Nat × Nat × Nat) (t : State) => cg_B D classes (va_A [(h0, .inr (7, [.null, .null, .null, .null, .int 0, .null, .null]))] sz) [(h0, .inr (7, [.ref u.2.2.2.2.2.2.1, .ref u.2.2.2.2.2.2.2.1, .ref u.2.2.2.2.2.2.2.2.1, .ref u.2.2.2.2.2.2.2.2.2.1, .int 0, .ref u.2.2.2.2.2.2.2.2.2.2.1, .ref u.2.2.2.2.2.2.2.2.2.2.2])), (u.2.2.2.2.2.2.1, .inr (8, [.ref u.1, .int 0, .int (-1), .int 0, .int 0, .int 0, .ref u.2.1, .ref u.2.2.1, .ref u.2.2.2.1, .ref u.2.2.2.2.1, .ref u.2.2.2.2.2.1]))] [] t) (va_A [(h0, .inr (7, [.null, .null, .null, .null, .int 0, .null, .null]))] sz)) 184 1527 (va_A [(h0, .inr (7, [.null, .null, .null, .null, .int 0, .null, .null]))] sz) := by
  refine cg_met (by decide) (Nat.le_of_ble_eq_true rfl) (fun p e s m below meth c ls F w hr hlk hnm hl => ?_)
  have w : cg_W D classes (va_A [(h0, .inr (7, [.null, .null, .null, .null, .int 0, .null, .null]))] sz) s.heap s [] [(h0, .inr (7, [.null, .null, .null, .null, .int 0, .null, .null]))] s.heap [] := w
  have hl : lv_has ls 1 [(0, .ref h0)] := hl
  refine lv_aload_n F.1 F.2.1 d_Va_init_0 rfl (lv_at hl 0 rfl) ?_
  refine cg_obj F k_187 ko_i ko_c hl.1 d_Va_init_1 (Nat.le_of_ble_eq_true rfl) (Nat.le_of_ble_eq_true rfl) ?_
  refine lv_aload_n F.1 F.2.1 d_Va_init_4 rfl (lv_at hl 0 rfl) ?_
  refine cg_new (fs := [.null, .int 0, .int 0, .int 0, .int 0, .int 0, .null, .null, .null, .null, .null]) F w cl_Fo k_188 ki_Fo kn_Fo z_Fo (Nat.le_of_ble_eq_true rfl) (Nat.le_of_ble_eq_true rfl) d_Va_init_5 (fun q1 H w => ?_)
  have w : cg_W D classes (va_A [(h0, .inr (7, [.null, .null, .null, .null, .int 0, .null, .null]))] sz) s.heap s [] [(h0, .inr (7, [.null, .null, .null, .null, .int 0, .null, .null])), (q1, .inr (8, [.null, .int 0, .int 0, .int 0, .int 0, .int 0, .null, .null, .null, .null, .null]))] H [] := w
  refine lv_dup F.1 F.2.1 d_Va_init_8 rfl ?_
  refine cg_cv (wc := [(q1, .inr (8, [.null, .int 0, .int 0, .int 0, .int 0, .int 0, .null, .null, .null, .null, .null]))]) (wr := [(h0, .inr (7, [.null, .null, .null, .null, .int 0, .null, .null]))]) w [1] [0] rfl rfl (by decide) (by decide) (cg_rIN (As := []) (rest := [.ref q1, .ref h0]) F (c_Fo_init l D q1 H.size) e_Fo_init rfl ki_Fo_init k_190 (cg_pre w [1] [] rfl rfl (by decide) rfl) rfl hl.1 rfl (Nat.le_of_ble_eq_true rfl) ⟨⟨rfl, rfl⟩, ⟨Nat.le_of_ble_eq_true rfl, Nat.le_of_ble_eq_true rfl⟩, Nat.le_of_ble_eq_true rfl, Nat.le_of_ble_eq_true rfl⟩ d_Va_init_9) (fun u H locs hu8 w => ?_)
  obtain ⟨q2, q3, q4, q5, q6, q7⟩ := u
  have w : cg_W D classes (va_A [(h0, .inr (7, [.null, .null, .null, .null, .int 0, .null, .null]))] sz) s.heap s [] [(h0, .inr (7, [.null, .null, .null, .null, .int 0, .null, .null])), (q1, .inr (8, [.ref q2, .int 0, .int (-1), .int 0, .int 0, .int 0, .ref q3, .ref q4, .ref q5, .ref q6, .ref q7]))] H locs := w
  refine cg_putF F w cl_Va 0 0 rfl (by decide) k_285 rfl hnm rfl (by rfl) (by rfl) (Nat.le_of_ble_eq_true rfl) d_Va_init_12 (fun H locs w => ?_)
  have w : cg_W D classes (va_A [(h0, .inr (7, [.null, .null, .null, .null, .int 0, .null, .null]))] sz) s.heap s [] [(h0, .inr (7, [.ref q1, .null, .null, .null, .int 0, .null, .null])), (q1, .inr (8, [.ref q2, .int 0, .int (-1), .int 0, .int 0, .int 0, .ref q3, .ref q4, .ref q5, .ref q6, .ref q7]))] H locs := w
  refine lv_aload_n F.1 F.2.1 d_Va_init_15 rfl (lv_at hl 0 rfl) ?_
  refine cg_new (fs := [.null, .null]) F w cl_At k_247 ki_At kn_At z_At (Nat.le_of_ble_eq_true rfl) (Nat.le_of_ble_eq_true rfl) d_Va_init_16 (fun q9 H w => ?_)
  have w : cg_W D classes (va_A [(h0, .inr (7, [.null, .null, .null, .null, .int 0, .null, .null]))] sz) s.heap s [] [(h0, .inr (7, [.ref q1, .null, .null, .null, .int 0, .null, .null])), (q1, .inr (8, [.ref q2, .int 0, .int (-1), .int 0, .int 0, .int 0, .ref q3, .ref q4, .ref q5, .ref q6, .ref q7])), (q9, .inr (9, [.null, .null]))] H locs := w
  refine lv_dup F.1 F.2.1 d_Va_init_19 rfl ?_
  refine cg_cv (wc := [(q9, .inr (9, [.null, .null]))]) (wr := [(h0, .inr (7, [.ref q1, .null, .null, .null, .int 0, .null, .null])), (q1, .inr (8, [.ref q2, .int 0, .int (-1), .int 0, .int 0, .int 0, .ref q3, .ref q4, .ref q5, .ref q6, .ref q7]))]) w [2] [0, 1] rfl rfl (by decide) (by decide) (cg_rIN (As := []) (rest := [.ref q9, .ref h0]) F (c_At_init l D q9 H.size) e_At_init rfl ki_At_init k_249 (cg_pre w [2] [] rfl rfl (by decide) rfl) rfl hl.1 rfl (Nat.le_of_ble_eq_true rfl) ⟨⟨rfl, rfl⟩, ⟨Nat.le_of_ble_eq_true rfl, Nat.le_of_ble_eq_true rfl⟩, Nat.le_of_ble_eq_true rfl, Nat.le_of_ble_eq_true rfl⟩ d_Va_init_20) (fun u H locs hu10 w => ?_)
  have w : cg_W D classes (va_A [(h0, .inr (7, [.null, .null, .null, .null, .int 0, .null, .null]))] sz) s.heap s [] [(h0, .inr (7, [.ref q1, .null, .null, .null, .int 0, .null, .null])), (q1, .inr (8, [.ref q2, .int 0, .int (-1), .int 0, .int 0, .int 0, .ref q3, .ref q4, .ref q5, .ref q6, .ref q7]))] H locs := w
  refine cg_putF F w cl_Va 0 1 rfl (by decide) k_287 rfl hnm rfl (by rfl) (by rfl) (Nat.le_of_ble_eq_true rfl) d_Va_init_23 (fun H locs w => ?_)
  have w : cg_W D classes (va_A [(h0, .inr (7, [.null, .null, .null, .null, .int 0, .null, .null]))] sz) s.heap s [] [(h0, .inr (7, [.ref q1, .ref q9, .null, .null, .int 0, .null, .null])), (q1, .inr (8, [.ref q2, .int 0, .int (-1), .int 0, .int 0, .int 0, .ref q3, .ref q4, .ref q5, .ref q6, .ref q7]))] H locs := w
  refine lv_aload_n F.1 F.2.1 d_Va_init_26 rfl (lv_at hl 0 rfl) ?_
  refine cg_new (fs := [.null, .null, .long 0]) F w cl_Eq k_263 ki_Eq kn_Eq z_Eq (Nat.le_of_ble_eq_true rfl) (Nat.le_of_ble_eq_true rfl) d_Va_init_27 (fun q11 H w => ?_)
  have w : cg_W D classes (va_A [(h0, .inr (7, [.null, .null, .null, .null, .int 0, .null, .null]))] sz) s.heap s [] [(h0, .inr (7, [.ref q1, .ref q9, .null, .null, .int 0, .null, .null])), (q1, .inr (8, [.ref q2, .int 0, .int (-1), .int 0, .int 0, .int 0, .ref q3, .ref q4, .ref q5, .ref q6, .ref q7])), (q11, .inr (10, [.null, .null, .long 0]))] H locs := w
  refine lv_dup F.1 F.2.1 d_Va_init_30 rfl ?_
  refine cg_cv (wc := [(q11, .inr (10, [.null, .null, .long 0]))]) (wr := [(h0, .inr (7, [.ref q1, .ref q9, .null, .null, .int 0, .null, .null])), (q1, .inr (8, [.ref q2, .int 0, .int (-1), .int 0, .int 0, .int 0, .ref q3, .ref q4, .ref q5, .ref q6, .ref q7]))]) w [2] [0, 1] rfl rfl (by decide) (by decide) (cg_rIN (As := []) (rest := [.ref q11, .ref h0]) F (c_Eq_init l D q11 H.size) e_Eq_init rfl ki_Eq_init k_265 (cg_pre w [2] [] rfl rfl (by decide) rfl) rfl hl.1 rfl (Nat.le_of_ble_eq_true rfl) ⟨⟨rfl, rfl⟩, ⟨Nat.le_of_ble_eq_true rfl, Nat.le_of_ble_eq_true rfl⟩, Nat.le_of_ble_eq_true rfl, Nat.le_of_ble_eq_true rfl⟩ d_Va_init_31) (fun u H locs hu12 w => ?_)
  have w : cg_W D classes (va_A [(h0, .inr (7, [.null, .null, .null, .null, .int 0, .null, .null]))] sz) s.heap s [] [(h0, .inr (7, [.ref q1, .ref q9, .null, .null, .int 0, .null, .null])), (q1, .inr (8, [.ref q2, .int 0, .int (-1), .int 0, .int 0, .int 0, .ref q3, .ref q4, .ref q5, .ref q6, .ref q7]))] H locs := w
  refine cg_putF F w cl_Va 0 2 rfl (by decide) k_288 rfl hnm rfl (by rfl) (by rfl) (Nat.le_of_ble_eq_true rfl) d_Va_init_34 (fun H locs w => ?_)
  have w : cg_W D classes (va_A [(h0, .inr (7, [.null, .null, .null, .null, .int 0, .null, .null]))] sz) s.heap s [] [(h0, .inr (7, [.ref q1, .ref q9, .ref q11, .null, .int 0, .null, .null])), (q1, .inr (8, [.ref q2, .int 0, .int (-1), .int 0, .int 0, .int 0, .ref q3, .ref q4, .ref q5, .ref q6, .ref q7]))] H locs := w
  refine lv_aload_n F.1 F.2.1 d_Va_init_37 rfl (lv_at hl 0 rfl) ?_
  refine lv_bipush (v := 8) F.1 F.2.1 d_Va_init_38 (by decide) ?_
  refine cg_newa (atype := .int) (a0 := (8, .inl (fun _ => 0))) F w (ft := .int) kA_int rfl (fun _ => rfl) (by decide) (by decide) (by decide) (Nat.le_of_ble_eq_true rfl) (Nat.le_of_ble_eq_true rfl) d_Va_init_40 (fun q13 cA14 H w => ?_)
  have w : cg_W D classes (va_A [(h0, .inr (7, [.null, .null, .null, .null, .int 0, .null, .null]))] sz) s.heap s [(cA14, .int)] [(h0, .inr (7, [.ref q1, .ref q9, .ref q11, .null, .int 0, .null, .null])), (q1, .inr (8, [.ref q2, .int 0, .int (-1), .int 0, .int 0, .int 0, .ref q3, .ref q4, .ref q5, .ref q6, .ref q7])), (q13, .inl (cA14, 8, .inl (fun _ => 0)))] H locs := w
  refine cg_putF F w cl_Va 0 3 rfl (by decide) k_289 rfl hnm rfl (by rfl) (by rfl) (Nat.le_of_ble_eq_true rfl) d_Va_init_42 (fun H locs w => ?_)
  have w : cg_W D classes (va_A [(h0, .inr (7, [.null, .null, .null, .null, .int 0, .null, .null]))] sz) s.heap s [(cA14, .int)] [(h0, .inr (7, [.ref q1, .ref q9, .ref q11, .ref q13, .int 0, .null, .null])), (q1, .inr (8, [.ref q2, .int 0, .int (-1), .int 0, .int 0, .int 0, .ref q3, .ref q4, .ref q5, .ref q6, .ref q7])), (q13, .inl (cA14, 8, .inl (fun _ => 0)))] H locs := w
  have w := cg_sub w [(h0, .inr (7, [.ref q1, .ref q9, .ref q11, .ref q13, .int 0, .null, .null])), (q1, .inr (8, [.ref q2, .int 0, .int (-1), .int 0, .int 0, .int 0, .ref q3, .ref q4, .ref q5, .ref q6, .ref q7]))] [0, 1] rfl rfl (by decide) [] [] rfl
  refine lv_aload_n F.1 F.2.1 d_Va_init_45 rfl (lv_at hl 0 rfl) ?_
  refine lv_iconst (v := 0) F.1 F.2.1 d_Va_init_46 (by decide) ?_
  refine cg_put F w cl_Va 0 4 rfl (by decide) k_290 rfl (by rfl) (by rfl) (Nat.le_of_ble_eq_true rfl) d_Va_init_47 (fun H locs w => ?_)
  have w : cg_W D classes (va_A [(h0, .inr (7, [.null, .null, .null, .null, .int 0, .null, .null]))] sz) s.heap s [] [(h0, .inr (7, [.ref q1, .ref q9, .ref q11, .ref q13, .int 0, .null, .null])), (q1, .inr (8, [.ref q2, .int 0, .int (-1), .int 0, .int 0, .int 0, .ref q3, .ref q4, .ref q5, .ref q6, .ref q7]))] H locs := w
  refine lv_aload_n F.1 F.2.1 d_Va_init_50 rfl (lv_at hl 0 rfl) ?_
  refine lv_bipush (v := 8) F.1 F.2.1 d_Va_init_51 (by decide) ?_
  refine cg_newa (atype := .long) (a0 := (8, .inr (.inl (fun _ => 0)))) F w (ft := .long) kA_long rfl (fun _ => rfl) (by decide) (by decide) (by decide) (Nat.le_of_ble_eq_true rfl) (Nat.le_of_ble_eq_true rfl) d_Va_init_53 (fun q15 cA16 H w => ?_)
  have w : cg_W D classes (va_A [(h0, .inr (7, [.null, .null, .null, .null, .int 0, .null, .null]))] sz) s.heap s [(cA16, .long)] [(h0, .inr (7, [.ref q1, .ref q9, .ref q11, .ref q13, .int 0, .null, .null])), (q1, .inr (8, [.ref q2, .int 0, .int (-1), .int 0, .int 0, .int 0, .ref q3, .ref q4, .ref q5, .ref q6, .ref q7])), (q15, .inl (cA16, 8, .inr (.inl (fun _ => 0))))] H locs := w
  refine cg_putF F w cl_Va 0 5 rfl (by decide) k_292 rfl hnm rfl (by rfl) (by rfl) (Nat.le_of_ble_eq_true rfl) d_Va_init_55 (fun H locs w => ?_)
  have w : cg_W D classes (va_A [(h0, .inr (7, [.null, .null, .null, .null, .int 0, .null, .null]))] sz) s.heap s [(cA16, .long)] [(h0, .inr (7, [.ref q1, .ref q9, .ref q11, .ref q13, .int 0, .ref q15, .null])), (q1, .inr (8, [.ref q2, .int 0, .int (-1), .int 0, .int 0, .int 0, .ref q3, .ref q4, .ref q5, .ref q6, .ref q7])), (q15, .inl (cA16, 8, .inr (.inl (fun _ => 0))))] H locs := w
  have w := cg_sub w [(h0, .inr (7, [.ref q1, .ref q9, .ref q11, .ref q13, .int 0, .ref q15, .null])), (q1, .inr (8, [.ref q2, .int 0, .int (-1), .int 0, .int 0, .int 0, .ref q3, .ref q4, .ref q5, .ref q6, .ref q7]))] [0, 1] rfl rfl (by decide) [] [] rfl
  refine lv_aload_n F.1 F.2.1 d_Va_init_58 rfl (lv_at hl 0 rfl) ?_
  refine lv_bipush (v := 8) F.1 F.2.1 d_Va_init_59 (by decide) ?_
  refine cg_newa (atype := .long) (a0 := (8, .inr (.inl (fun _ => 0)))) F w (ft := .long) kA_long rfl (fun _ => rfl) (by decide) (by decide) (by decide) (Nat.le_of_ble_eq_true rfl) (Nat.le_of_ble_eq_true rfl) d_Va_init_61 (fun q17 cA18 H w => ?_)
  have w : cg_W D classes (va_A [(h0, .inr (7, [.null, .null, .null, .null, .int 0, .null, .null]))] sz) s.heap s [(cA18, .long)] [(h0, .inr (7, [.ref q1, .ref q9, .ref q11, .ref q13, .int 0, .ref q15, .null])), (q1, .inr (8, [.ref q2, .int 0, .int (-1), .int 0, .int 0, .int 0, .ref q3, .ref q4, .ref q5, .ref q6, .ref q7])), (q17, .inl (cA18, 8, .inr (.inl (fun _ => 0))))] H locs := w
  refine cg_putF F w cl_Va 0 6 rfl (by decide) k_294 rfl hnm rfl (by rfl) (by rfl) (Nat.le_of_ble_eq_true rfl) d_Va_init_63 (fun H locs w => ?_)
  have w : cg_W D classes (va_A [(h0, .inr (7, [.null, .null, .null, .null, .int 0, .null, .null]))] sz) s.heap s [(cA18, .long)] [(h0, .inr (7, [.ref q1, .ref q9, .ref q11, .ref q13, .int 0, .ref q15, .ref q17])), (q1, .inr (8, [.ref q2, .int 0, .int (-1), .int 0, .int 0, .int 0, .ref q3, .ref q4, .ref q5, .ref q6, .ref q7])), (q17, .inl (cA18, 8, .inr (.inl (fun _ => 0))))] H locs := w
  have w := cg_sub w [(h0, .inr (7, [.ref q1, .ref q9, .ref q11, .ref q13, .int 0, .ref q15, .ref q17])), (q1, .inr (8, [.ref q2, .int 0, .int (-1), .int 0, .int 0, .int 0, .ref q3, .ref q4, .ref q5, .ref q6, .ref q7]))] [0, 1] rfl rfl (by decide) [] [] rfl
  exact cg_vret F w hr hlk (⟨q2, q3, q4, q5, q6, q7, q1, q9, q11, q13, q15, q17⟩) (trivial) [0, 1] [] rfl rfl (by decide) rfl (Nat.le_of_ble_eq_true rfl) (Nat.le_of_ble_eq_true rfl) d_Va_init_66
