set_option maxHeartbeats 4000000 in
set_option maxRecDepth 100000 in
theorem c_Rd_here (l : Launch) (D : va_G) (h0 : Nat) (tx : Nat) (ch : Nat) (gm : Nat) (sz : Nat) : Met l y_Rd_here (Cond.code y_Rd_here b_Rd_here 1 (some .char) :: tb) { frames := 0, cells := 0, slots := 0, locals := 0 } (va_Pc [.ref h0] (cg_Pre D classes sz [(h0, .inr (1, [.ref tx, .ref gm, .int 0, .int (-1)])), (tx, .inr (2, [.ref ch, .int 0]))] [])) (va_Qi (fun (r : Int32) (_ : Unit) => r = 0) (fun (u : Unit) (t : State) => cg_B D classes (va_A [(h0, .inr (1, [.ref tx, .ref gm, .int 0, .int (-1)])), (tx, .inr (2, [.ref ch, .int 0]))] sz) [(h0, .inr (1, [.ref tx, .ref gm, .int 0, .int (-1)])), (tx, .inr (2, [.ref ch, .int 0]))] [] t) (va_A [(h0, .inr (1, [.ref tx, .ref gm, .int 0, .int (-1)])), (tx, .inr (2, [.ref ch, .int 0]))] sz)) 0 0 (va_A [(h0, .inr (1, [.ref tx, .ref gm, .int 0, .int (-1)])), (tx, .inr (2, [.ref ch, .int 0]))] sz) := by
  refine cg_met (by decide) (Nat.le_of_ble_eq_true rfl) (fun p e s m below meth c ls F w hr hlk hnm hl => ?_)
  have w : cg_W D classes (va_A [(h0, .inr (1, [.ref tx, .ref gm, .int 0, .int (-1)])), (tx, .inr (2, [.ref ch, .int 0]))] sz) s.heap s [] [(h0, .inr (1, [.ref tx, .ref gm, .int 0, .int (-1)])), (tx, .inr (2, [.ref ch, .int 0]))] s.heap [] := w
  have hl : lv_has ls 1 [(0, .ref h0)] := hl
  refine lv_aload_n F.1 F.2.1 d_Rd_here_0 rfl (lv_at hl 0 rfl) ?_
  refine cg_get F w cl_Rd 0 2 rfl (by decide) k_170 rfl d_Rd_here_1 ?_
  refine lv_aload_n F.1 F.2.1 d_Rd_here_4 rfl (lv_at hl 0 rfl) ?_
  refine cg_get F w cl_Rd 0 0 rfl (by decide) k_167 rfl d_Rd_here_5 ?_
  refine cg_get F w cl_Tx 1 1 rfl (by decide) k_45 rfl d_Rd_here_8 ?_
  refine lv_icmp_ge F.1 F.2.1 d_Rd_here_11 (tgt := 29) (by decide) (fun _ => ?_) (fun hh => absurd (by decide) hh)
  refine lv_iconst (v := 0) F.1 F.2.1 d_Rd_here_29 (by decide) ?_
  exact cg_zret F w hr (by rfl) hlk (()) (rfl) [0, 1] [] rfl rfl (by decide) rfl (Nat.le_of_ble_eq_true rfl) (Nat.le_of_ble_eq_true rfl) d_Rd_here_30
set_option maxHeartbeats 4000000 in
set_option maxRecDepth 100000 in
theorem c_Rd_isName (l : Launch) (D : va_G)  (sz : Nat) : Met l y_Rd_isName (Cond.code y_Rd_isName b_Rd_isName 1 (some .boolean) :: tb) { frames := 0, cells := 0, slots := 0, locals := 0 } (va_Pc [.int 0] (cg_Pre D classes sz [] [])) (va_Qi (fun (r : Int32) (_ : Unit) => r = 0) (fun (u : Unit) (t : State) => cg_B D classes (va_A [] sz) [] [] t) (va_A [] sz)) 0 0 (va_A [] sz) := by
  refine cg_met (by decide) (Nat.le_of_ble_eq_true rfl) (fun p e s m below meth c ls F w hr hlk hnm hl => ?_)
  have w : cg_W D classes (va_A [] sz) s.heap s [] [] s.heap [] := w
  have hl : lv_has ls 1 [(0, .int 0)] := hl
  refine lv_iload_n F.1 F.2.1 d_Rd_isName_0 rfl (lv_at hl 0 rfl) ?_
  refine lv_bipush (v := 97) F.1 F.2.1 d_Rd_isName_1 (by decide) ?_
  refine lv_icmp_lt F.1 F.2.1 d_Rd_isName_3 (tgt := 16) (by decide) (fun _ => ?_) (fun hh => absurd (by decide) hh)
  refine lv_iconst (v := 0) F.1 F.2.1 d_Rd_isName_16 (by decide) ?_
  exact cg_zret F w hr (by rfl) hlk (()) (rfl) [] [] rfl rfl (by decide) rfl (Nat.le_of_ble_eq_true rfl) (Nat.le_of_ble_eq_true rfl) d_Rd_isName_17
set_option maxHeartbeats 4000000 in
set_option maxRecDepth 100000 in
theorem c_Rd_isPlusOrMinus (l : Launch) (D : va_G)  (sz : Nat) : Met l y_Rd_isPlusOrMinus (Cond.code y_Rd_isPlusOrMinus b_Rd_isPlusOrMinus 1 (some .boolean) :: tb) { frames := 0, cells := 0, slots := 0, locals := 0 } (va_Pc [.int 0] (cg_Pre D classes sz [] [])) (va_Qi (fun (r : Int32) (_ : Unit) => r = 0) (fun (u : Unit) (t : State) => cg_B D classes (va_A [] sz) [] [] t) (va_A [] sz)) 0 0 (va_A [] sz) := by
  refine cg_met (by decide) (Nat.le_of_ble_eq_true rfl) (fun p e s m below meth c ls F w hr hlk hnm hl => ?_)
  have w : cg_W D classes (va_A [] sz) s.heap s [] [] s.heap [] := w
  have hl : lv_has ls 1 [(0, .int 0)] := hl
  refine lv_iload_n F.1 F.2.1 d_Rd_isPlusOrMinus_0 rfl (lv_at hl 0 rfl) ?_
  refine lv_bipush (v := 43) F.1 F.2.1 d_Rd_isPlusOrMinus_1 (by decide) ?_
  refine lv_icmp_eq F.1 F.2.1 d_Rd_isPlusOrMinus_3 (tgt := 12) (by decide) (fun hh => absurd hh (by decide)) (fun _ => ?_)
  refine lv_iload_n F.1 F.2.1 d_Rd_isPlusOrMinus_6 rfl (lv_at hl 0 rfl) ?_
  refine lv_bipush (v := 45) F.1 F.2.1 d_Rd_isPlusOrMinus_7 (by decide) ?_
  refine lv_icmp_ne F.1 F.2.1 d_Rd_isPlusOrMinus_9 (tgt := 16) (by decide) (fun _ => ?_) (fun hh => absurd hh (by decide))
  refine lv_iconst (v := 0) F.1 F.2.1 d_Rd_isPlusOrMinus_16 (by decide) ?_
  exact cg_zret F w hr (by rfl) hlk (()) (rfl) [] [] rfl rfl (by decide) rfl (Nat.le_of_ble_eq_true rfl) (Nat.le_of_ble_eq_true rfl) d_Rd_isPlusOrMinus_17
set_option maxHeartbeats 4000000 in
set_option maxRecDepth 100000 in
theorem c_Rd_skips (l : Launch) (D : va_G) (h0 : Nat) (tx : Nat) (ch : Nat) (gm : Nat) (sz : Nat) : Met l y_Rd_skips (Cond.code y_Rd_skips b_Rd_skips 2 (some .boolean) :: tb) { frames := 1, cells := 0, slots := 0, locals := 20 } (va_Pc [.ref h0, .int 33] (cg_Pre D classes sz [(h0, .inr (1, [.ref tx, .ref gm, .int 0, .int (-1)])), (tx, .inr (2, [.ref ch, .int 0]))] [])) (va_Qi (fun (r : Int32) (_ : Unit) => r = 0) (fun (u : Unit) (t : State) => cg_B D classes (va_A [(h0, .inr (1, [.ref tx, .ref gm, .int 0, .int (-1)])), (tx, .inr (2, [.ref ch, .int 0]))] sz) [(h0, .inr (1, [.ref tx, .ref gm, .int 0, .int (-1)])), (tx, .inr (2, [.ref ch, .int 0]))] [] t) (va_A [(h0, .inr (1, [.ref tx, .ref gm, .int 0, .int (-1)])), (tx, .inr (2, [.ref ch, .int 0]))] sz)) 0 0 (va_A [(h0, .inr (1, [.ref tx, .ref gm, .int 0, .int (-1)])), (tx, .inr (2, [.ref ch, .int 0]))] sz) := by
  refine cg_met (by decide) (Nat.le_of_ble_eq_true rfl) (fun p e s m below meth c ls F w hr hlk hnm hl => ?_)
  have w : cg_W D classes (va_A [(h0, .inr (1, [.ref tx, .ref gm, .int 0, .int (-1)])), (tx, .inr (2, [.ref ch, .int 0]))] sz) s.heap s [] [(h0, .inr (1, [.ref tx, .ref gm, .int 0, .int (-1)])), (tx, .inr (2, [.ref ch, .int 0]))] s.heap [] := w
  have hl : lv_has ls 2 [(0, .ref h0), (1, .int 33)] := hl
  refine lv_aload_n F.1 F.2.1 d_Rd_skips_0 rfl (lv_at hl 0 rfl) ?_
  refine cg_ci (wc := [(h0, .inr (1, [.ref tx, .ref gm, .int 0, .int (-1)])), (tx, .inr (2, [.ref ch, .int 0]))]) (wr := []) w [0, 1] [] rfl rfl (by decide) (by decide) (cg_rV (As := []) (rest := []) F (c_Rd_here l D h0 tx ch gm s.heap.size) e_Rd_here ki_Rd_here ks_Rd_here k_442 (cg_preV w cl_Rd 0 rfl [0, 1] [] rfl rfl (by decide) rfl) rfl hl.1 rfl (Nat.le_of_ble_eq_true rfl) ⟨⟨rfl, rfl⟩, ⟨Nat.le_of_ble_eq_true rfl, Nat.le_of_ble_eq_true rfl⟩, Nat.le_of_ble_eq_true rfl, Nat.le_of_ble_eq_true rfl⟩ d_Rd_skips_1) (fun r2 u H locs hu1 w => ?_)
  subst hu1
  have w : cg_W D classes (va_A [(h0, .inr (1, [.ref tx, .ref gm, .int 0, .int (-1)])), (tx, .inr (2, [.ref ch, .int 0]))] sz) s.heap s [] [(h0, .inr (1, [.ref tx, .ref gm, .int 0, .int (-1)])), (tx, .inr (2, [.ref ch, .int 0]))] H locs := w
  refine lv_iload_n F.1 F.2.1 d_Rd_skips_4 rfl (lv_at hl 1 rfl) ?_
  refine lv_icmp_eq F.1 F.2.1 d_Rd_skips_5 (tgt := 10) (by decide) (fun hh => absurd hh (by decide)) (fun _ => ?_)
  refine lv_iconst (v := 0) F.1 F.2.1 d_Rd_skips_8 (by decide) ?_
  exact cg_zret F w hr (by rfl) hlk (()) (rfl) [0, 1] [] rfl rfl (by decide) rfl (Nat.le_of_ble_eq_true rfl) (Nat.le_of_ble_eq_true rfl) d_Rd_skips_9
set_option maxHeartbeats 4000000 in
set_option maxRecDepth 100000 in
theorem c_Gm_clear (l : Launch) (D : va_G) (h0 : Nat) (mo : Nat) (fi : Nat) (cm : Nat) (tg : Nat) (cM : ClassId) (cF : ClassId) (sz : Nat) : Met l y_Gm_clear (Cond.code y_Gm_clear b_Gm_clear 2 none :: tb) { frames := 0, cells := 0, slots := 0, locals := 0 } (va_Pc [.ref h0] (cg_Pre D classes sz [(h0, .inr (3, [.ref mo, .ref fi, .ref cm, .ref tg, .int 0])), (mo, .inl (cM, 3, .inl (fun _ => 0))), (fi, .inl (cF, 3, .inl (fun _ => 0)))] [(cM, .int), (cF, .int)])) (va_Qv (fun _ : Unit => True) (fun (u : Unit) (t : State) => cg_B D classes (va_A [(h0, .inr (3, [.ref mo, .ref fi, .ref cm, .ref tg, .int 0])), (mo, .inl (cM, 3, .inl (fun _ => 0))), (fi, .inl (cF, 3, .inl (fun _ => 0)))] sz) [] [] t) (va_A [(h0, .inr (3, [.ref mo, .ref fi, .ref cm, .ref tg, .int 0])), (mo, .inl (cM, 3, .inl (fun _ => 0))), (fi, .inl (cF, 3, .inl (fun _ => 0)))] sz)) 0 0 (va_A [(h0, .inr (3, [.ref mo, .ref fi, .ref cm, .ref tg, .int 0])), (mo, .inl (cM, 3, .inl (fun _ => 0))), (fi, .inl (cF, 3, .inl (fun _ => 0)))] sz) := by
  refine cg_met (by decide) (Nat.le_of_ble_eq_true rfl) (fun p e s m below meth c ls F w hr hlk hnm hl => ?_)
  have w : cg_W D classes (va_A [(h0, .inr (3, [.ref mo, .ref fi, .ref cm, .ref tg, .int 0])), (mo, .inl (cM, 3, .inl (fun _ => 0))), (fi, .inl (cF, 3, .inl (fun _ => 0)))] sz) s.heap s [(cM, .int), (cF, .int)] [(h0, .inr (3, [.ref mo, .ref fi, .ref cm, .ref tg, .int 0])), (mo, .inl (cM, 3, .inl (fun _ => 0))), (fi, .inl (cF, 3, .inl (fun _ => 0)))] s.heap [] := w
  have hl : lv_has ls 2 [(0, .ref h0)] := hl
  refine lv_iconst (v := 0) F.1 F.2.1 d_Gm_clear_0 (by decide) ?_
  refine lv_istore_n F.1 F.2.1 d_Gm_clear_1 rfl hl (by decide) rfl (fun ls hl => ?_)
  have hl : lv_has ls 2 [(1, .int 0), (0, .ref h0)] := hl
  refine lv_iload_n F.1 F.2.1 d_Gm_clear_2 rfl (lv_at hl 0 rfl) ?_
  refine lv_iconst (v := 3) F.1 F.2.1 d_Gm_clear_3 (by decide) ?_
  refine lv_icmp_ge F.1 F.2.1 d_Gm_clear_4 (tgt := 27) (by decide) (fun hh => absurd hh (by decide)) (fun _ => ?_)
  refine lv_aload_n F.1 F.2.1 d_Gm_clear_7 rfl (lv_at hl 1 rfl) ?_
  refine cg_get F w cl_Gm 0 0 rfl (by decide) k_136 rfl d_Gm_clear_8 ?_
  refine lv_iload_n F.1 F.2.1 d_Gm_clear_11 rfl (lv_at hl 0 rfl) ?_
  refine lv_iconst (v := 0) F.1 F.2.1 d_Gm_clear_12 (by decide) ?_
  refine cg_iast F w 1 0 rfl rfl (cg_in9 (by decide)) d_Gm_clear_13 (fun H locs w => ?_)
  have w : cg_W D classes (va_A [(h0, .inr (3, [.ref mo, .ref fi, .ref cm, .ref tg, .int 0])), (mo, .inl (cM, 3, .inl (fun _ => 0))), (fi, .inl (cF, 3, .inl (fun _ => 0)))] sz) s.heap s [(cM, .int), (cF, .int)] [(h0, .inr (3, [.ref mo, .ref fi, .ref cm, .ref tg, .int 0])), (mo, .inl (cM, 3, .inl (upd (fun _ => 0) 0 0))), (fi, .inl (cF, 3, .inl (fun _ => 0)))] H locs := w
  refine lv_aload_n F.1 F.2.1 d_Gm_clear_14 rfl (lv_at hl 1 rfl) ?_
  refine cg_get F w cl_Gm 0 1 rfl (by decide) k_138 rfl d_Gm_clear_15 ?_
  refine lv_iload_n F.1 F.2.1 d_Gm_clear_18 rfl (lv_at hl 0 rfl) ?_
  refine lv_iconst (v := 0) F.1 F.2.1 d_Gm_clear_19 (by decide) ?_
  refine cg_iast F w 2 1 rfl rfl (cg_in9 (by decide)) d_Gm_clear_20 (fun H locs w => ?_)
  have w : cg_W D classes (va_A [(h0, .inr (3, [.ref mo, .ref fi, .ref cm, .ref tg, .int 0])), (mo, .inl (cM, 3, .inl (fun _ => 0))), (fi, .inl (cF, 3, .inl (fun _ => 0)))] sz) s.heap s [(cM, .int), (cF, .int)] [(h0, .inr (3, [.ref mo, .ref fi, .ref cm, .ref tg, .int 0])), (mo, .inl (cM, 3, .inl (upd (fun _ => 0) 0 0))), (fi, .inl (cF, 3, .inl (upd (fun _ => 0) 0 0)))] H locs := w
  refine lv_iinc (k := 0) (v := 1) F.1 F.2.1 d_Gm_clear_21 hl rfl (by rfl) (by decide) rfl (fun ls hl => ?_)
  have hl : lv_has ls 2 [(1, .int 1), (0, .ref h0)] := hl
  refine lv_goto F.1 F.2.1 d_Gm_clear_24 (tgt := 2) (by decide) ?_
  refine lv_iload_n F.1 F.2.1 d_Gm_clear_2 rfl (lv_at hl 0 rfl) ?_
  refine lv_iconst (v := 3) F.1 F.2.1 d_Gm_clear_3 (by decide) ?_
  refine lv_icmp_ge F.1 F.2.1 d_Gm_clear_4 (tgt := 27) (by decide) (fun hh => absurd hh (by decide)) (fun _ => ?_)
  refine lv_aload_n F.1 F.2.1 d_Gm_clear_7 rfl (lv_at hl 1 rfl) ?_
  refine cg_get F w cl_Gm 0 0 rfl (by decide) k_136 rfl d_Gm_clear_8 ?_
  refine lv_iload_n F.1 F.2.1 d_Gm_clear_11 rfl (lv_at hl 0 rfl) ?_
  refine lv_iconst (v := 0) F.1 F.2.1 d_Gm_clear_12 (by decide) ?_
  refine cg_iast F w 1 0 rfl rfl (cg_in9 (by decide)) d_Gm_clear_13 (fun H locs w => ?_)
  have w : cg_W D classes (va_A [(h0, .inr (3, [.ref mo, .ref fi, .ref cm, .ref tg, .int 0])), (mo, .inl (cM, 3, .inl (fun _ => 0))), (fi, .inl (cF, 3, .inl (fun _ => 0)))] sz) s.heap s [(cM, .int), (cF, .int)] [(h0, .inr (3, [.ref mo, .ref fi, .ref cm, .ref tg, .int 0])), (mo, .inl (cM, 3, .inl (upd (upd (fun _ => 0) 0 0) 1 0))), (fi, .inl (cF, 3, .inl (upd (fun _ => 0) 0 0)))] H locs := w
  refine lv_aload_n F.1 F.2.1 d_Gm_clear_14 rfl (lv_at hl 1 rfl) ?_
  refine cg_get F w cl_Gm 0 1 rfl (by decide) k_138 rfl d_Gm_clear_15 ?_
  refine lv_iload_n F.1 F.2.1 d_Gm_clear_18 rfl (lv_at hl 0 rfl) ?_
  refine lv_iconst (v := 0) F.1 F.2.1 d_Gm_clear_19 (by decide) ?_
  refine cg_iast F w 2 1 rfl rfl (cg_in9 (by decide)) d_Gm_clear_20 (fun H locs w => ?_)
  have w : cg_W D classes (va_A [(h0, .inr (3, [.ref mo, .ref fi, .ref cm, .ref tg, .int 0])), (mo, .inl (cM, 3, .inl (fun _ => 0))), (fi, .inl (cF, 3, .inl (fun _ => 0)))] sz) s.heap s [(cM, .int), (cF, .int)] [(h0, .inr (3, [.ref mo, .ref fi, .ref cm, .ref tg, .int 0])), (mo, .inl (cM, 3, .inl (upd (upd (fun _ => 0) 0 0) 1 0))), (fi, .inl (cF, 3, .inl (upd (upd (fun _ => 0) 0 0) 1 0)))] H locs := w
  refine lv_iinc (k := 0) (v := 2) F.1 F.2.1 d_Gm_clear_21 hl rfl (by rfl) (by decide) rfl (fun ls hl => ?_)
  have hl : lv_has ls 2 [(1, .int 2), (0, .ref h0)] := hl
  refine lv_goto F.1 F.2.1 d_Gm_clear_24 (tgt := 2) (by decide) ?_
  refine lv_iload_n F.1 F.2.1 d_Gm_clear_2 rfl (lv_at hl 0 rfl) ?_
  refine lv_iconst (v := 3) F.1 F.2.1 d_Gm_clear_3 (by decide) ?_
  refine lv_icmp_ge F.1 F.2.1 d_Gm_clear_4 (tgt := 27) (by decide) (fun hh => absurd hh (by decide)) (fun _ => ?_)
  refine lv_aload_n F.1 F.2.1 d_Gm_clear_7 rfl (lv_at hl 1 rfl) ?_
  refine cg_get F w cl_Gm 0 0 rfl (by decide) k_136 rfl d_Gm_clear_8 ?_
  refine lv_iload_n F.1 F.2.1 d_Gm_clear_11 rfl (lv_at hl 0 rfl) ?_
  refine lv_iconst (v := 0) F.1 F.2.1 d_Gm_clear_12 (by decide) ?_
  refine cg_iast F w 1 0 rfl rfl (cg_in9 (by decide)) d_Gm_clear_13 (fun H locs w => ?_)
  have w : cg_W D classes (va_A [(h0, .inr (3, [.ref mo, .ref fi, .ref cm, .ref tg, .int 0])), (mo, .inl (cM, 3, .inl (fun _ => 0))), (fi, .inl (cF, 3, .inl (fun _ => 0)))] sz) s.heap s [(cM, .int), (cF, .int)] [(h0, .inr (3, [.ref mo, .ref fi, .ref cm, .ref tg, .int 0])), (mo, .inl (cM, 3, .inl (upd (upd (upd (fun _ => 0) 0 0) 1 0) 2 0))), (fi, .inl (cF, 3, .inl (upd (upd (fun _ => 0) 0 0) 1 0)))] H locs := w
  refine lv_aload_n F.1 F.2.1 d_Gm_clear_14 rfl (lv_at hl 1 rfl) ?_
  refine cg_get F w cl_Gm 0 1 rfl (by decide) k_138 rfl d_Gm_clear_15 ?_
  refine lv_iload_n F.1 F.2.1 d_Gm_clear_18 rfl (lv_at hl 0 rfl) ?_
  refine lv_iconst (v := 0) F.1 F.2.1 d_Gm_clear_19 (by decide) ?_
  refine cg_iast F w 2 1 rfl rfl (cg_in9 (by decide)) d_Gm_clear_20 (fun H locs w => ?_)
  have w : cg_W D classes (va_A [(h0, .inr (3, [.ref mo, .ref fi, .ref cm, .ref tg, .int 0])), (mo, .inl (cM, 3, .inl (fun _ => 0))), (fi, .inl (cF, 3, .inl (fun _ => 0)))] sz) s.heap s [(cM, .int), (cF, .int)] [(h0, .inr (3, [.ref mo, .ref fi, .ref cm, .ref tg, .int 0])), (mo, .inl (cM, 3, .inl (upd (upd (upd (fun _ => 0) 0 0) 1 0) 2 0))), (fi, .inl (cF, 3, .inl (upd (upd (upd (fun _ => 0) 0 0) 1 0) 2 0)))] H locs := w
  refine lv_iinc (k := 0) (v := 3) F.1 F.2.1 d_Gm_clear_21 hl rfl (by rfl) (by decide) rfl (fun ls hl => ?_)
  have hl : lv_has ls 2 [(1, .int 3), (0, .ref h0)] := hl
  refine lv_goto F.1 F.2.1 d_Gm_clear_24 (tgt := 2) (by decide) ?_
  refine lv_iload_n F.1 F.2.1 d_Gm_clear_2 rfl (lv_at hl 0 rfl) ?_
  refine lv_iconst (v := 3) F.1 F.2.1 d_Gm_clear_3 (by decide) ?_
  refine lv_icmp_ge F.1 F.2.1 d_Gm_clear_4 (tgt := 27) (by decide) (fun _ => ?_) (fun hh => absurd (by decide) hh)
  refine lv_aload_n F.1 F.2.1 d_Gm_clear_27 rfl (lv_at hl 1 rfl) ?_
  refine lv_iconst (v := 0) F.1 F.2.1 d_Gm_clear_28 (by decide) ?_
  refine cg_put F w cl_Gm 0 4 rfl (by decide) k_149 rfl (by rfl) (by rfl) (Nat.le_of_ble_eq_true rfl) d_Gm_clear_29 (fun H locs w => ?_)
  have w : cg_W D classes (va_A [(h0, .inr (3, [.ref mo, .ref fi, .ref cm, .ref tg, .int 0])), (mo, .inl (cM, 3, .inl (fun _ => 0))), (fi, .inl (cF, 3, .inl (fun _ => 0)))] sz) s.heap s [(cM, .int), (cF, .int)] [(h0, .inr (3, [.ref mo, .ref fi, .ref cm, .ref tg, .int 0])), (mo, .inl (cM, 3, .inl (upd (upd (upd (fun _ => 0) 0 0) 1 0) 2 0))), (fi, .inl (cF, 3, .inl (upd (upd (upd (fun _ => 0) 0 0) 1 0) 2 0)))] H locs := w
  exact cg_vret F w hr hlk (()) (trivial) [] [] rfl rfl (by decide) rfl (Nat.le_of_ble_eq_true rfl) (Nat.le_of_ble_eq_true rfl) d_Gm_clear_32
set_option maxHeartbeats 4000000 in
set_option maxRecDepth 100000 in
theorem c_Rd_refuse (l : Launch) (hst9 : l.stackTraces = false) (D : va_G) (h0 : Nat) (tx : Nat) (gm : Nat) (pl : Int32) (n0 sz : Nat) : cg_MetT l y_Rd_refuse (Cond.code y_Rd_refuse b_Rd_refuse 2 none :: tb) { frames := 6, cells := 1, slots := 6, locals := 82 } (va_Pc [.ref h0, .int pl] (cg_PreT D classes n0 sz [(h0, .inr (1, [.ref tx, .ref gm, .int 0, .int (-1)]))] [])) "java/lang/IllegalArgumentException" 1 6 (va_A [(h0, .inr (1, [.ref tx, .ref gm, .int 0, .int (-1)]))] sz) := by
  refine cg_metT (by decide) (Nat.le_of_ble_eq_true rfl) (fun p e s m below meth c ls F w hh hA hsz hP0 hno hlk hl => ?_)
  have w : cg_W D classes (va_A [(h0, .inr (1, [.ref tx, .ref gm, .int 0, .int (-1)]))] sz) s.heap s [] [(h0, .inr (1, [.ref tx, .ref gm, .int 0, .int (-1)]))] s.heap [] := w
  have hl : lv_has ls 2 [(0, .ref h0), (1, .int pl)] := hl
  refine lv_aload_n F.1 F.2.1 d_Rd_refuse_0 rfl (lv_at hl 0 rfl) ?_
  refine lv_iload_n F.1 F.2.1 d_Rd_refuse_1 rfl (lv_at hl 1 rfl) ?_
  refine cg_put F w cl_Rd 0 3 rfl (by decide) k_171 rfl (by rfl) (by rfl) (Nat.le_of_ble_eq_true rfl) d_Rd_refuse_2 (fun H locs w => ?_)
  have w : cg_W D classes (va_A [(h0, .inr (1, [.ref tx, .ref gm, .int 0, .int (-1)]))] sz) s.heap s [] [(h0, .inr (1, [.ref tx, .ref gm, .int 0, .int pl]))] H locs := w
  obtain ⟨sa, hstr⟩ := cg_str (own := "ChanceGame$Reader") (k := 160) (tx := "the text is no game") F.2.2.2.1 (F.2.2.2.2 _ k_499)
  refine cg_thr (E := "java/lang/IllegalArgumentException") (names := ["java/lang/RuntimeException", "java/lang/Exception"]) F w.2.2.2.1 hlk hno hst9 (cg_nostat hP0 (fun x hx => by rw [hsz]; exact w.2.2.2.1.2.2 x hx)) k_458 k_459 k_17 hstr (by decide +kernel) (by decide +kernel) (at_Rd_162 F.2.2.2.2 hh) hl.1 (Nat.le_of_ble_eq_true rfl) (Nat.le_of_ble_eq_true rfl) (Nat.le_of_ble_eq_true rfl) (Nat.le_of_ble_eq_true rfl) (Nat.le_of_ble_eq_true rfl) (Nat.le_of_ble_eq_true rfl) d_Rd_refuse_5 d_Rd_refuse_8 d_Rd_refuse_9 d_Rd_refuse_11 d_Rd_refuse_14
set_option maxHeartbeats 4000000 in
set_option maxRecDepth 100000 in
theorem c_Rd_expect (l : Launch) (hst9 : l.stackTraces = false) (D : va_G) (h0 : Nat) (tx : Nat) (ch : Nat) (gm : Nat) (n0 sz : Nat) : cg_MetT l y_Rd_expect (Cond.code y_Rd_expect b_Rd_expect 2 none :: tb) { frames := 7, cells := 1, slots := 6, locals := 103 } (va_Pc [.ref h0, .int 33] (cg_PreT D classes n0 sz [(h0, .inr (1, [.ref tx, .ref gm, .int 0, .int (-1)])), (tx, .inr (2, [.ref ch, .int 0]))] [])) "java/lang/IllegalArgumentException" 1 6 (va_A [(h0, .inr (1, [.ref tx, .ref gm, .int 0, .int (-1)])), (tx, .inr (2, [.ref ch, .int 0]))] sz) := by
  refine cg_metT (by decide) (Nat.le_of_ble_eq_true rfl) (fun p e s m below meth c ls F w hh hA hsz hP0 hno hlk hl => ?_)
  have w : cg_W D classes (va_A [(h0, .inr (1, [.ref tx, .ref gm, .int 0, .int (-1)])), (tx, .inr (2, [.ref ch, .int 0]))] sz) s.heap s [] [(h0, .inr (1, [.ref tx, .ref gm, .int 0, .int (-1)])), (tx, .inr (2, [.ref ch, .int 0]))] s.heap [] := w
  have hl : lv_has ls 2 [(0, .ref h0), (1, .int 33)] := hl
  refine lv_aload_n F.1 F.2.1 d_Rd_expect_0 rfl (lv_at hl 0 rfl) ?_
  refine lv_iload_n F.1 F.2.1 d_Rd_expect_1 rfl (lv_at hl 1 rfl) ?_
  refine cg_ci (wc := [(h0, .inr (1, [.ref tx, .ref gm, .int 0, .int (-1)])), (tx, .inr (2, [.ref ch, .int 0]))]) (wr := []) w [0, 1] [] rfl rfl (by decide) (by decide) (cg_rV (As := [.int 33]) (rest := []) F (c_Rd_skips l D h0 tx ch gm s.heap.size) e_Rd_skips ki_Rd_skips ks_Rd_skips k_537 (cg_preV w cl_Rd 0 rfl [0, 1] [] rfl rfl (by decide) rfl) rfl hl.1 rfl (Nat.le_of_ble_eq_true rfl) ⟨⟨rfl, rfl⟩, ⟨Nat.le_of_ble_eq_true rfl, Nat.le_of_ble_eq_true rfl⟩, Nat.le_of_ble_eq_true rfl, Nat.le_of_ble_eq_true rfl⟩ d_Rd_expect_2) (fun r2 u H locs hu1 w => ?_)
  subst hu1
  have w : cg_W D classes (va_A [(h0, .inr (1, [.ref tx, .ref gm, .int 0, .int (-1)])), (tx, .inr (2, [.ref ch, .int 0]))] sz) s.heap s [] [(h0, .inr (1, [.ref tx, .ref gm, .int 0, .int (-1)])), (tx, .inr (2, [.ref ch, .int 0]))] H locs := w
  refine lv_if_ne F.1 F.2.1 d_Rd_expect_5 (tgt := 16) (by decide) (fun hh => absurd (by decide) hh) (fun _ => ?_)
  refine lv_aload_n F.1 F.2.1 d_Rd_expect_8 rfl (lv_at hl 0 rfl) ?_
  refine lv_aload_n F.1 F.2.1 d_Rd_expect_9 rfl (lv_at hl 0 rfl) ?_
  refine cg_get F w cl_Rd 0 2 rfl (by decide) k_170 rfl d_Rd_expect_10 ?_
  exact cg_tout (H0 := s.heap) (cg_tV (As := [.int 0]) (rest := []) F (c_Rd_refuse l hst9 D h0 tx gm 0 n0 H.size) e_Rd_refuse ki_Rd_refuse ks_Rd_refuse k_454 (cg_preTV (n0 := n0) w hh hA w.2.2.2.1 cl_Rd 0 rfl [0] [] rfl rfl (by decide) rfl) rfl hl.1 rfl (Nat.le_of_ble_eq_true rfl) ⟨⟨rfl, rfl⟩, ⟨Nat.le_of_ble_eq_true rfl, Nat.le_of_ble_eq_true rfl⟩, Nat.le_of_ble_eq_true rfl, Nat.le_of_ble_eq_true rfl⟩ d_Rd_expect_13) w.2.2.2.1 (va_free (wc := [(h0, .inr (1, [.ref tx, .ref gm, .int 0, .int (-1)]))]) w.2.1 w.2.2.2.1 w.2.2.2.2 [0] rfl) hno hlk (Nat.le_of_ble_eq_true rfl) (Nat.le_of_ble_eq_true rfl)
set_option maxHeartbeats 4000000 in
set_option maxRecDepth 100000 in
theorem c_Rd_readInPlaceOf (l : Launch) (hst9 : l.stackTraces = false) (D : va_G) (h0 : Nat) (tx : Nat) (ch : Nat) (gm : Nat) (mo : Nat) (fi : Nat) (cm : Nat) (tg : Nat) (cM : ClassId) (cF : ClassId) (f1 : Nat) (n0 sz : Nat) : cg_MetT l y_Rd_readInPlaceOf (Cond.code y_Rd_readInPlaceOf b_Rd_readInPlaceOf 3 (some (.object "ChanceGame$Game")) :: tb) { frames := 8, cells := 1, slots := 6, locals := 124 } (va_Pc [.ref h0, .ref f1] (cg_PreT D classes n0 sz [(h0, .inr (1, [.ref tx, .ref gm, .int 0, .int (-1)])), (tx, .inr (2, [.ref ch, .int 0])), (gm, .inr (3, [.ref mo, .ref fi, .ref cm, .ref tg, .int 0])), (mo, .inl (cM, 3, .inl (fun _ => 0))), (fi, .inl (cF, 3, .inl (fun _ => 0)))] [(cM, .int), (cF, .int)])) "java/lang/IllegalArgumentException" 1 6 (va_A [(h0, .inr (1, [.ref tx, .ref gm, .int 0, .int (-1)])), (tx, .inr (2, [.ref ch, .int 0])), (gm, .inr (3, [.ref mo, .ref fi, .ref cm, .ref tg, .int 0])), (mo, .inl (cM, 3, .inl (fun _ => 0))), (fi, .inl (cF, 3, .inl (fun _ => 0)))] sz) := by
  refine cg_metT (by decide) (Nat.le_of_ble_eq_true rfl) (fun p e s m below meth c ls F w hh hA hsz hP0 hno hlk hl => ?_)
  have w : cg_W D classes (va_A [(h0, .inr (1, [.ref tx, .ref gm, .int 0, .int (-1)])), (tx, .inr (2, [.ref ch, .int 0])), (gm, .inr (3, [.ref mo, .ref fi, .ref cm, .ref tg, .int 0])), (mo, .inl (cM, 3, .inl (fun _ => 0))), (fi, .inl (cF, 3, .inl (fun _ => 0)))] sz) s.heap s [(cM, .int), (cF, .int)] [(h0, .inr (1, [.ref tx, .ref gm, .int 0, .int (-1)])), (tx, .inr (2, [.ref ch, .int 0])), (gm, .inr (3, [.ref mo, .ref fi, .ref cm, .ref tg, .int 0])), (mo, .inl (cM, 3, .inl (fun _ => 0))), (fi, .inl (cF, 3, .inl (fun _ => 0)))] s.heap [] := w
  have hl : lv_has ls 3 [(0, .ref h0), (1, .ref f1)] := hl
  refine lv_aload_n F.1 F.2.1 d_Rd_readInPlaceOf_0 rfl (lv_at hl 0 rfl) ?_
  refine lv_iconst (v := 0) F.1 F.2.1 d_Rd_readInPlaceOf_1 (by decide) ?_
  refine cg_put F w cl_Rd 0 2 rfl (by decide) k_170 rfl (by rfl) (by rfl) (Nat.le_of_ble_eq_true rfl) d_Rd_readInPlaceOf_2 (fun H locs w => ?_)
  have w : cg_W D classes (va_A [(h0, .inr (1, [.ref tx, .ref gm, .int 0, .int (-1)])), (tx, .inr (2, [.ref ch, .int 0])), (gm, .inr (3, [.ref mo, .ref fi, .ref cm, .ref tg, .int 0])), (mo, .inl (cM, 3, .inl (fun _ => 0))), (fi, .inl (cF, 3, .inl (fun _ => 0)))] sz) s.heap s [(cM, .int), (cF, .int)] [(h0, .inr (1, [.ref tx, .ref gm, .int 0, .int (-1)])), (tx, .inr (2, [.ref ch, .int 0])), (gm, .inr (3, [.ref mo, .ref fi, .ref cm, .ref tg, .int 0])), (mo, .inl (cM, 3, .inl (fun _ => 0))), (fi, .inl (cF, 3, .inl (fun _ => 0)))] H locs := w
  refine lv_aload_n F.1 F.2.1 d_Rd_readInPlaceOf_5 rfl (lv_at hl 0 rfl) ?_
  refine cg_get F w cl_Rd 0 1 rfl (by decide) k_169 rfl d_Rd_readInPlaceOf_6 ?_
  refine cg_cv (wc := [(gm, .inr (3, [.ref mo, .ref fi, .ref cm, .ref tg, .int 0])), (mo, .inl (cM, 3, .inl (fun _ => 0))), (fi, .inl (cF, 3, .inl (fun _ => 0)))]) (wr := [(h0, .inr (1, [.ref tx, .ref gm, .int 0, .int (-1)])), (tx, .inr (2, [.ref ch, .int 0]))]) w [2, 3, 4] [0, 1] rfl rfl (by decide) (by decide) (cg_rV (As := []) (rest := []) F (c_Gm_clear l D gm mo fi cm tg cM cF H.size) e_Gm_clear ki_Gm_clear ks_Gm_clear k_438 (cg_preV w cl_Gm 2 rfl [2, 3, 4] [0, 1] rfl rfl (by decide) rfl) rfl hl.1 rfl (Nat.le_of_ble_eq_true rfl) ⟨⟨rfl, rfl⟩, ⟨Nat.le_of_ble_eq_true rfl, Nat.le_of_ble_eq_true rfl⟩, Nat.le_of_ble_eq_true rfl, Nat.le_of_ble_eq_true rfl⟩ d_Rd_readInPlaceOf_9) (fun u H locs hu1 w => ?_)
  have w : cg_W D classes (va_A [(h0, .inr (1, [.ref tx, .ref gm, .int 0, .int (-1)])), (tx, .inr (2, [.ref ch, .int 0])), (gm, .inr (3, [.ref mo, .ref fi, .ref cm, .ref tg, .int 0])), (mo, .inl (cM, 3, .inl (fun _ => 0))), (fi, .inl (cF, 3, .inl (fun _ => 0)))] sz) s.heap s [(cM, .int), (cF, .int)] [(h0, .inr (1, [.ref tx, .ref gm, .int 0, .int (-1)])), (tx, .inr (2, [.ref ch, .int 0]))] H locs := w
  refine lv_iconst (v := 0) F.1 F.2.1 d_Rd_readInPlaceOf_12 (by decide) ?_
  refine lv_istore_n F.1 F.2.1 d_Rd_readInPlaceOf_13 rfl hl (by decide) rfl (fun ls hl => ?_)
  have hl : lv_has ls 3 [(2, .int 0), (0, .ref h0), (1, .ref f1)] := hl
  refine lv_iload_n F.1 F.2.1 d_Rd_readInPlaceOf_14 rfl (lv_at hl 0 rfl) ?_
  refine lv_iconst (v := 3) F.1 F.2.1 d_Rd_readInPlaceOf_15 (by decide) ?_
  refine lv_icmp_ge F.1 F.2.1 d_Rd_readInPlaceOf_16 (tgt := 39) (by decide) (fun hh => absurd hh (by decide)) (fun _ => ?_)
  refine lv_aload_n F.1 F.2.1 d_Rd_readInPlaceOf_19 rfl (lv_at hl 1 rfl) ?_
  refine cg_ci (wc := [(h0, .inr (1, [.ref tx, .ref gm, .int 0, .int (-1)])), (tx, .inr (2, [.ref ch, .int 0]))]) (wr := []) w [0, 1] [] rfl rfl (by decide) (by decide) (cg_rV (As := []) (rest := []) F (c_Rd_here l D h0 tx ch gm H.size) e_Rd_here ki_Rd_here ks_Rd_here k_442 (cg_preV w cl_Rd 0 rfl [0, 1] [] rfl rfl (by decide) rfl) rfl hl.1 rfl (Nat.le_of_ble_eq_true rfl) ⟨⟨rfl, rfl⟩, ⟨Nat.le_of_ble_eq_true rfl, Nat.le_of_ble_eq_true rfl⟩, Nat.le_of_ble_eq_true rfl, Nat.le_of_ble_eq_true rfl⟩ d_Rd_readInPlaceOf_20) (fun r3 u H locs hu2 w => ?_)
  subst hu2
  have w : cg_W D classes (va_A [(h0, .inr (1, [.ref tx, .ref gm, .int 0, .int (-1)])), (tx, .inr (2, [.ref ch, .int 0])), (gm, .inr (3, [.ref mo, .ref fi, .ref cm, .ref tg, .int 0])), (mo, .inl (cM, 3, .inl (fun _ => 0))), (fi, .inl (cF, 3, .inl (fun _ => 0)))] sz) s.heap s [(cM, .int), (cF, .int)] [(h0, .inr (1, [.ref tx, .ref gm, .int 0, .int (-1)])), (tx, .inr (2, [.ref ch, .int 0]))] H locs := w
  refine cg_ci (wc := []) (wr := [(h0, .inr (1, [.ref tx, .ref gm, .int 0, .int (-1)])), (tx, .inr (2, [.ref ch, .int 0]))]) w [] [0, 1] rfl rfl (by decide) (by decide) (cg_rS (As := [.int 0]) (rest := []) F (c_Rd_isName l D  H.size) e_Rd_isName kt_Rd_isName k_446 (cg_pre w [] [] rfl rfl (by decide) rfl) rfl hl.1 rfl (Nat.le_of_ble_eq_true rfl) ⟨⟨rfl, rfl⟩, ⟨Nat.le_of_ble_eq_true rfl, Nat.le_of_ble_eq_true rfl⟩, Nat.le_of_ble_eq_true rfl, Nat.le_of_ble_eq_true rfl⟩ d_Rd_readInPlaceOf_23) (fun r5 u H locs hu4 w => ?_)
  subst hu4
  have w : cg_W D classes (va_A [(h0, .inr (1, [.ref tx, .ref gm, .int 0, .int (-1)])), (tx, .inr (2, [.ref ch, .int 0])), (gm, .inr (3, [.ref mo, .ref fi, .ref cm, .ref tg, .int 0])), (mo, .inl (cM, 3, .inl (fun _ => 0))), (fi, .inl (cF, 3, .inl (fun _ => 0)))] sz) s.heap s [(cM, .int), (cF, .int)] [(h0, .inr (1, [.ref tx, .ref gm, .int 0, .int (-1)])), (tx, .inr (2, [.ref ch, .int 0]))] H locs := w
  refine lv_if_eq F.1 F.2.1 d_Rd_readInPlaceOf_26 (tgt := 39) (by decide) (fun _ => ?_) (fun hh => absurd (by decide) hh)
  refine lv_iconst (v := 0) F.1 F.2.1 d_Rd_readInPlaceOf_39 (by decide) ?_
  refine lv_istore_n F.1 F.2.1 d_Rd_readInPlaceOf_40 rfl hl (by decide) rfl (fun ls hl => ?_)
  have hl : lv_has ls 3 [(2, .int 0), (0, .ref h0), (1, .ref f1)] := hl
  refine lv_iload_n F.1 F.2.1 d_Rd_readInPlaceOf_41 rfl (lv_at hl 0 rfl) ?_
  refine lv_bipush (v := 10) F.1 F.2.1 d_Rd_readInPlaceOf_42 (by decide) ?_
  refine lv_icmp_ge F.1 F.2.1 d_Rd_readInPlaceOf_44 (tgt := 89) (by decide) (fun hh => absurd hh (by decide)) (fun _ => ?_)
  refine lv_aload_n F.1 F.2.1 d_Rd_readInPlaceOf_47 rfl (lv_at hl 1 rfl) ?_
  refine cg_ci (wc := [(h0, .inr (1, [.ref tx, .ref gm, .int 0, .int (-1)])), (tx, .inr (2, [.ref ch, .int 0]))]) (wr := []) w [0, 1] [] rfl rfl (by decide) (by decide) (cg_rV (As := []) (rest := []) F (c_Rd_here l D h0 tx ch gm H.size) e_Rd_here ki_Rd_here ks_Rd_here k_442 (cg_preV w cl_Rd 0 rfl [0, 1] [] rfl rfl (by decide) rfl) rfl hl.1 rfl (Nat.le_of_ble_eq_true rfl) ⟨⟨rfl, rfl⟩, ⟨Nat.le_of_ble_eq_true rfl, Nat.le_of_ble_eq_true rfl⟩, Nat.le_of_ble_eq_true rfl, Nat.le_of_ble_eq_true rfl⟩ d_Rd_readInPlaceOf_48) (fun r7 u H locs hu6 w => ?_)
  subst hu6
  have w : cg_W D classes (va_A [(h0, .inr (1, [.ref tx, .ref gm, .int 0, .int (-1)])), (tx, .inr (2, [.ref ch, .int 0])), (gm, .inr (3, [.ref mo, .ref fi, .ref cm, .ref tg, .int 0])), (mo, .inl (cM, 3, .inl (fun _ => 0))), (fi, .inl (cF, 3, .inl (fun _ => 0)))] sz) s.heap s [(cM, .int), (cF, .int)] [(h0, .inr (1, [.ref tx, .ref gm, .int 0, .int (-1)])), (tx, .inr (2, [.ref ch, .int 0]))] H locs := w
  refine cg_ci (wc := []) (wr := [(h0, .inr (1, [.ref tx, .ref gm, .int 0, .int (-1)])), (tx, .inr (2, [.ref ch, .int 0]))]) w [] [0, 1] rfl rfl (by decide) (by decide) (cg_rS (As := [.int 0]) (rest := []) F (c_Rd_isPlusOrMinus l D  H.size) e_Rd_isPlusOrMinus kt_Rd_isPlusOrMinus k_541 (cg_pre w [] [] rfl rfl (by decide) rfl) rfl hl.1 rfl (Nat.le_of_ble_eq_true rfl) ⟨⟨rfl, rfl⟩, ⟨Nat.le_of_ble_eq_true rfl, Nat.le_of_ble_eq_true rfl⟩, Nat.le_of_ble_eq_true rfl, Nat.le_of_ble_eq_true rfl⟩ d_Rd_readInPlaceOf_51) (fun r9 u H locs hu8 w => ?_)
  subst hu8
  have w : cg_W D classes (va_A [(h0, .inr (1, [.ref tx, .ref gm, .int 0, .int (-1)])), (tx, .inr (2, [.ref ch, .int 0])), (gm, .inr (3, [.ref mo, .ref fi, .ref cm, .ref tg, .int 0])), (mo, .inl (cM, 3, .inl (fun _ => 0))), (fi, .inl (cF, 3, .inl (fun _ => 0)))] sz) s.heap s [(cM, .int), (cF, .int)] [(h0, .inr (1, [.ref tx, .ref gm, .int 0, .int (-1)])), (tx, .inr (2, [.ref ch, .int 0]))] H locs := w
  refine lv_if_eq F.1 F.2.1 d_Rd_readInPlaceOf_54 (tgt := 89) (by decide) (fun _ => ?_) (fun hh => absurd (by decide) hh)
  refine lv_aload_n F.1 F.2.1 d_Rd_readInPlaceOf_89 rfl (lv_at hl 1 rfl) ?_
  refine lv_bipush (v := 33) F.1 F.2.1 d_Rd_readInPlaceOf_90 (by decide) ?_
  exact cg_tout (H0 := s.heap) (cg_tV (As := [.int 33]) (rest := []) F (c_Rd_expect l hst9 D h0 tx ch gm n0 H.size) e_Rd_expect ki_Rd_expect ks_Rd_expect k_533 (cg_preTV (n0 := n0) w hh hA w.2.2.2.1 cl_Rd 0 rfl [0, 1] [] rfl rfl (by decide) rfl) rfl hl.1 rfl (Nat.le_of_ble_eq_true rfl) ⟨⟨rfl, rfl⟩, ⟨Nat.le_of_ble_eq_true rfl, Nat.le_of_ble_eq_true rfl⟩, Nat.le_of_ble_eq_true rfl, Nat.le_of_ble_eq_true rfl⟩ d_Rd_readInPlaceOf_92) w.2.2.2.1 (va_free (wc := [(h0, .inr (1, [.ref tx, .ref gm, .int 0, .int (-1)])), (tx, .inr (2, [.ref ch, .int 0]))]) w.2.1 w.2.2.2.1 w.2.2.2.2 [0, 1] rfl) hno hlk (Nat.le_of_ble_eq_true rfl) (Nat.le_of_ble_eq_true rfl)
set_option maxHeartbeats 4000000 in
set_option maxRecDepth 100000 in
theorem c_CG_read (l : Launch) (hst9 : l.stackTraces = false) (D : va_G) (h0 : Nat) (rd : Nat) (tx : Nat) (va : Nat) (fo : Nat) (go : Nat) (ch : Nat) (gm : Nat) (mo : Nat) (fi : Nat) (cm : Nat) (tg : Nat) (f1 : Nat) (f2 : Nat) (f3 : Nat) (f4 : Nat) (f5 : Nat) (f6 : Nat) (cM : ClassId) (cF : ClassId) (n0 sz : Nat) : cg_MetT l y_CG_read (Cond.code y_CG_read b_CG_read 1 (some .int) :: tb) { frames := 9, cells := 1, slots := 6, locals := 146 } (va_Pc [.ref h0] (cg_PreT D classes n0 sz [(h0, .inr (0, [.ref rd, .ref tx, .ref va, .ref fo, .ref go, .int 0, .int 0])), (rd, .inr (1, [.ref tx, .ref gm, .int 0, .int (-1)])), (tx, .inr (2, [.ref ch, .int 0])), (gm, .inr (3, [.ref mo, .ref fi, .ref cm, .ref tg, .int 0])), (mo, .inl (cM, 3, .inl (fun _ => 0))), (fi, .inl (cF, 3, .inl (fun _ => 0))), (fo, .inr (8, [.ref f1, .int 0, .int (-1), .int 0, .int 0, .int 0, .ref f2, .ref f3, .ref f4, .ref f5, .ref f6]))] [(cM, .int), (cF, .int)])) "java/lang/IllegalArgumentException" 1 6 (va_A [(h0, .inr (0, [.ref rd, .ref tx, .ref va, .ref fo, .ref go, .int 0, .int 0])), (rd, .inr (1, [.ref tx, .ref gm, .int 0, .int (-1)])), (tx, .inr (2, [.ref ch, .int 0])), (gm, .inr (3, [.ref mo, .ref fi, .ref cm, .ref tg, .int 0])), (mo, .inl (cM, 3, .inl (fun _ => 0))), (fi, .inl (cF, 3, .inl (fun _ => 0))), (fo, .inr (8, [.ref f1, .int 0, .int (-1), .int 0, .int 0, .int 0, .ref f2, .ref f3, .ref f4, .ref f5, .ref f6]))] sz) := by
  refine cg_metT (by decide) (Nat.le_of_ble_eq_true rfl) (fun p e s m below meth c ls F w hh hA hsz hP0 hno hlk hl => ?_)
  have w : cg_W D classes (va_A [(h0, .inr (0, [.ref rd, .ref tx, .ref va, .ref fo, .ref go, .int 0, .int 0])), (rd, .inr (1, [.ref tx, .ref gm, .int 0, .int (-1)])), (tx, .inr (2, [.ref ch, .int 0])), (gm, .inr (3, [.ref mo, .ref fi, .ref cm, .ref tg, .int 0])), (mo, .inl (cM, 3, .inl (fun _ => 0))), (fi, .inl (cF, 3, .inl (fun _ => 0))), (fo, .inr (8, [.ref f1, .int 0, .int (-1), .int 0, .int 0, .int 0, .ref f2, .ref f3, .ref f4, .ref f5, .ref f6]))] sz) s.heap s [(cM, .int), (cF, .int)] [(h0, .inr (0, [.ref rd, .ref tx, .ref va, .ref fo, .ref go, .int 0, .int 0])), (rd, .inr (1, [.ref tx, .ref gm, .int 0, .int (-1)])), (tx, .inr (2, [.ref ch, .int 0])), (gm, .inr (3, [.ref mo, .ref fi, .ref cm, .ref tg, .int 0])), (mo, .inl (cM, 3, .inl (fun _ => 0))), (fi, .inl (cF, 3, .inl (fun _ => 0))), (fo, .inr (8, [.ref f1, .int 0, .int (-1), .int 0, .int 0, .int 0, .ref f2, .ref f3, .ref f4, .ref f5, .ref f6]))] s.heap [] := w
  have hl : lv_has ls 1 [(0, .ref h0)] := hl
  refine lv_aload_n F.1 F.2.1 d_CG_read_0 rfl (lv_at hl 0 rfl) ?_
  refine cg_get F w cl_CG 0 3 rfl (by decide) k_330 rfl d_CG_read_1 ?_
  refine lv_aload_n F.1 F.2.1 d_CG_read_4 rfl (lv_at hl 0 rfl) ?_
  refine cg_get F w cl_CG 0 0 rfl (by decide) k_327 rfl d_CG_read_5 ?_
  refine lv_aload_n F.1 F.2.1 d_CG_read_8 rfl (lv_at hl 0 rfl) ?_
  refine cg_get F w cl_CG 0 3 rfl (by decide) k_330 rfl d_CG_read_9 ?_
  refine cg_get F w cl_Fo 6 0 rfl (by decide) k_202 rfl d_CG_read_12 ?_
  exact cg_tout (H0 := s.heap) (cg_tV (As := [.ref f1]) (rest := [.ref fo]) F (c_Rd_readInPlaceOf l hst9 D rd tx ch gm mo fi cm tg cM cF f1 n0 s.heap.size) e_Rd_readInPlaceOf ki_Rd_readInPlaceOf ks_Rd_readInPlaceOf k_434 (cg_preTV (n0 := n0) w hh hA w.2.2.2.1 cl_Rd 1 rfl [1, 2, 3, 4, 5] [0, 1] rfl rfl (by decide) rfl) rfl hl.1 rfl (Nat.le_of_ble_eq_true rfl) ⟨⟨rfl, rfl⟩, ⟨Nat.le_of_ble_eq_true rfl, Nat.le_of_ble_eq_true rfl⟩, Nat.le_of_ble_eq_true rfl, Nat.le_of_ble_eq_true rfl⟩ d_CG_read_15) w.2.2.2.1 (va_free (wc := [(rd, .inr (1, [.ref tx, .ref gm, .int 0, .int (-1)])), (tx, .inr (2, [.ref ch, .int 0])), (gm, .inr (3, [.ref mo, .ref fi, .ref cm, .ref tg, .int 0])), (mo, .inl (cM, 3, .inl (fun _ => 0))), (fi, .inl (cF, 3, .inl (fun _ => 0)))]) w.2.1 w.2.2.2.1 w.2.2.2.2 [1, 2, 3, 4, 5] rfl) hno hlk (Nat.le_of_ble_eq_true rfl) (Nat.le_of_ble_eq_true rfl)
set_option maxHeartbeats 4000000 in
set_option maxRecDepth 100000 in
theorem c_CG_solve (l : Launch) (hst9 : l.stackTraces = false) (D : va_G) (h0 : Nat) (rd : Nat) (tx : Nat) (va : Nat) (fo : Nat) (go : Nat) (n0 sz : Nat) : cg_MetT l y_CG_solve (Cond.code y_CG_solve b_CG_solve 2 (some .int) :: tb) { frames := 6, cells := 1, slots := 6, locals := 82 } (va_Pc [.ref h0] (cg_PreT D classes n0 sz [(h0, .inr (0, [.ref rd, .ref tx, .ref va, .ref fo, .ref go, .int 0, .int 0]))] [])) "java/lang/IllegalStateException" 1 6 (va_A [(h0, .inr (0, [.ref rd, .ref tx, .ref va, .ref fo, .ref go, .int 0, .int 0]))] sz) := by
  refine cg_metT (by decide) (Nat.le_of_ble_eq_true rfl) (fun p e s m below meth c ls F w hh hA hsz hP0 hno hlk hl => ?_)
  have w : cg_W D classes (va_A [(h0, .inr (0, [.ref rd, .ref tx, .ref va, .ref fo, .ref go, .int 0, .int 0]))] sz) s.heap s [] [(h0, .inr (0, [.ref rd, .ref tx, .ref va, .ref fo, .ref go, .int 0, .int 0]))] s.heap [] := w
  have hl : lv_has ls 2 [(0, .ref h0)] := hl
  refine lv_aload_n F.1 F.2.1 d_CG_solve_0 rfl (lv_at hl 0 rfl) ?_
  refine cg_get F w cl_CG 0 5 rfl (by decide) k_332 rfl d_CG_solve_1 ?_
  refine lv_if_ne F.1 F.2.1 d_CG_solve_4 (tgt := 17) (by decide) (fun hh => absurd (by decide) hh) (fun _ => ?_)
  obtain ⟨sa, hstr⟩ := cg_str (own := "ChanceGame") (k := 82) (tx := "there is no game") F.2.2.2.1 (F.2.2.2.2 _ k_606)
  refine cg_thr (E := "java/lang/IllegalStateException") (names := ["java/lang/RuntimeException", "java/lang/Exception"]) F w.2.2.2.1 hlk hno hst9 (cg_nostat hP0 (fun x hx => by rw [hsz]; exact w.2.2.2.1.2.2 x hx)) k_597 k_598 k_18 hstr (by decide +kernel) (by decide +kernel) (at_CG_84 F.2.2.2.2 hh) hl.1 (Nat.le_of_ble_eq_true rfl) (Nat.le_of_ble_eq_true rfl) (Nat.le_of_ble_eq_true rfl) (Nat.le_of_ble_eq_true rfl) (Nat.le_of_ble_eq_true rfl) (Nat.le_of_ble_eq_true rfl) d_CG_solve_7 d_CG_solve_10 d_CG_solve_11 d_CG_solve_13 d_CG_solve_16
set_option maxHeartbeats 4000000 in
set_option maxRecDepth 100000 in
theorem c_CG_checkValueOf (l : Launch) (hst9 : l.stackTraces = false) (D : va_G) (h0 : Nat) (rd : Nat) (tx : Nat) (va : Nat) (fo : Nat) (go : Nat) (i : Int32) (n0 sz : Nat) : cg_MetT l y_CG_checkValueOf (Cond.code y_CG_checkValueOf b_CG_checkValueOf 2 none :: tb) { frames := 6, cells := 1, slots := 6, locals := 82 } (va_Pc [.ref h0, .int i] (cg_PreT D classes n0 sz [(h0, .inr (0, [.ref rd, .ref tx, .ref va, .ref fo, .ref go, .int 0, .int 0]))] [])) "java/lang/IllegalStateException" 1 6 (va_A [(h0, .inr (0, [.ref rd, .ref tx, .ref va, .ref fo, .ref go, .int 0, .int 0]))] sz) := by
  refine cg_metT (by decide) (Nat.le_of_ble_eq_true rfl) (fun p e s m below meth c ls F w hh hA hsz hP0 hno hlk hl => ?_)
  have w : cg_W D classes (va_A [(h0, .inr (0, [.ref rd, .ref tx, .ref va, .ref fo, .ref go, .int 0, .int 0]))] sz) s.heap s [] [(h0, .inr (0, [.ref rd, .ref tx, .ref va, .ref fo, .ref go, .int 0, .int 0]))] s.heap [] := w
  have hl : lv_has ls 2 [(0, .ref h0), (1, .int i)] := hl
  refine lv_aload_n F.1 F.2.1 d_CG_checkValueOf_0 rfl (lv_at hl 0 rfl) ?_
  refine cg_get F w cl_CG 0 6 rfl (by decide) k_333 rfl d_CG_checkValueOf_1 ?_
  refine lv_if_ne F.1 F.2.1 d_CG_checkValueOf_4 (tgt := 17) (by decide) (fun hh => absurd (by decide) hh) (fun _ => ?_)
  obtain ⟨sa, hstr⟩ := cg_str (own := "ChanceGame") (k := 166) (tx := "there are no values") F.2.2.2.1 (F.2.2.2.2 _ k_777)
  refine cg_thr (E := "java/lang/IllegalStateException") (names := ["java/lang/RuntimeException", "java/lang/Exception"]) F w.2.2.2.1 hlk hno hst9 (cg_nostat hP0 (fun x hx => by rw [hsz]; exact w.2.2.2.1.2.2 x hx)) k_597 k_598 k_18 hstr (by decide +kernel) (by decide +kernel) (at_CG_84 F.2.2.2.2 hh) hl.1 (Nat.le_of_ble_eq_true rfl) (Nat.le_of_ble_eq_true rfl) (Nat.le_of_ble_eq_true rfl) (Nat.le_of_ble_eq_true rfl) (Nat.le_of_ble_eq_true rfl) (Nat.le_of_ble_eq_true rfl) d_CG_checkValueOf_7 d_CG_checkValueOf_10 d_CG_checkValueOf_11 d_CG_checkValueOf_13 d_CG_checkValueOf_16
set_option maxHeartbeats 4000000 in
set_option maxRecDepth 100000 in
theorem c_CG_upper (l : Launch) (hst9 : l.stackTraces = false) (D : va_G) (h0 : Nat) (rd : Nat) (tx : Nat) (va : Nat) (fo : Nat) (go : Nat) (i : Int32) (n0 sz : Nat) : cg_MetT l y_CG_upper (Cond.code y_CG_upper b_CG_upper 2 (some .long) :: tb) { frames := 7, cells := 1, slots := 6, locals := 103 } (va_Pc [.ref h0, .int i] (cg_PreT D classes n0 sz [(h0, .inr (0, [.ref rd, .ref tx, .ref va, .ref fo, .ref go, .int 0, .int 0]))] [])) "java/lang/IllegalStateException" 1 6 (va_A [(h0, .inr (0, [.ref rd, .ref tx, .ref va, .ref fo, .ref go, .int 0, .int 0]))] sz) := by
  refine cg_metT (by decide) (Nat.le_of_ble_eq_true rfl) (fun p e s m below meth c ls F w hh hA hsz hP0 hno hlk hl => ?_)
  have w : cg_W D classes (va_A [(h0, .inr (0, [.ref rd, .ref tx, .ref va, .ref fo, .ref go, .int 0, .int 0]))] sz) s.heap s [] [(h0, .inr (0, [.ref rd, .ref tx, .ref va, .ref fo, .ref go, .int 0, .int 0]))] s.heap [] := w
  have hl : lv_has ls 2 [(0, .ref h0), (1, .int i)] := hl
  refine lv_aload_n F.1 F.2.1 d_CG_upper_0 rfl (lv_at hl 0 rfl) ?_
  refine lv_iload_n F.1 F.2.1 d_CG_upper_1 rfl (lv_at hl 1 rfl) ?_
  exact cg_tout (H0 := s.heap) (cg_tV (As := [.int i]) (rest := []) F (c_CG_checkValueOf l hst9 D h0 rd tx va fo go i n0 s.heap.size) e_CG_checkValueOf ki_CG_checkValueOf ks_CG_checkValueOf k_773 (cg_preTV (n0 := n0) w hh hA w.2.2.2.1 cl_CG 0 rfl [0] [] rfl rfl (by decide) rfl) rfl hl.1 rfl (Nat.le_of_ble_eq_true rfl) ⟨⟨rfl, rfl⟩, ⟨Nat.le_of_ble_eq_true rfl, Nat.le_of_ble_eq_true rfl⟩, Nat.le_of_ble_eq_true rfl, Nat.le_of_ble_eq_true rfl⟩ d_CG_upper_2) w.2.2.2.1 (va_free (wc := [(h0, .inr (0, [.ref rd, .ref tx, .ref va, .ref fo, .ref go, .int 0, .int 0]))]) w.2.1 w.2.2.2.1 w.2.2.2.2 [0] rfl) hno hlk (Nat.le_of_ble_eq_true rfl) (Nat.le_of_ble_eq_true rfl)
set_option maxHeartbeats 4000000 in
set_option maxRecDepth 100000 in
theorem c_CG_lower (l : Launch) (hst9 : l.stackTraces = false) (D : va_G) (h0 : Nat) (rd : Nat) (tx : Nat) (va : Nat) (fo : Nat) (go : Nat) (i : Int32) (n0 sz : Nat) : cg_MetT l y_CG_lower (Cond.code y_CG_lower b_CG_lower 2 (some .long) :: tb) { frames := 7, cells := 1, slots := 6, locals := 103 } (va_Pc [.ref h0, .int i] (cg_PreT D classes n0 sz [(h0, .inr (0, [.ref rd, .ref tx, .ref va, .ref fo, .ref go, .int 0, .int 0]))] [])) "java/lang/IllegalStateException" 1 6 (va_A [(h0, .inr (0, [.ref rd, .ref tx, .ref va, .ref fo, .ref go, .int 0, .int 0]))] sz) := by
  refine cg_metT (by decide) (Nat.le_of_ble_eq_true rfl) (fun p e s m below meth c ls F w hh hA hsz hP0 hno hlk hl => ?_)
  have w : cg_W D classes (va_A [(h0, .inr (0, [.ref rd, .ref tx, .ref va, .ref fo, .ref go, .int 0, .int 0]))] sz) s.heap s [] [(h0, .inr (0, [.ref rd, .ref tx, .ref va, .ref fo, .ref go, .int 0, .int 0]))] s.heap [] := w
  have hl : lv_has ls 2 [(0, .ref h0), (1, .int i)] := hl
  refine lv_aload_n F.1 F.2.1 d_CG_lower_0 rfl (lv_at hl 0 rfl) ?_
  refine lv_iload_n F.1 F.2.1 d_CG_lower_1 rfl (lv_at hl 1 rfl) ?_
  exact cg_tout (H0 := s.heap) (cg_tV (As := [.int i]) (rest := []) F (c_CG_checkValueOf l hst9 D h0 rd tx va fo go i n0 s.heap.size) e_CG_checkValueOf ki_CG_checkValueOf ks_CG_checkValueOf k_773 (cg_preTV (n0 := n0) w hh hA w.2.2.2.1 cl_CG 0 rfl [0] [] rfl rfl (by decide) rfl) rfl hl.1 rfl (Nat.le_of_ble_eq_true rfl) ⟨⟨rfl, rfl⟩, ⟨Nat.le_of_ble_eq_true rfl, Nat.le_of_ble_eq_true rfl⟩, Nat.le_of_ble_eq_true rfl, Nat.le_of_ble_eq_true rfl⟩ d_CG_lower_2) w.2.2.2.1 (va_free (wc := [(h0, .inr (0, [.ref rd, .ref tx, .ref va, .ref fo, .ref go, .int 0, .int 0]))]) w.2.1 w.2.2.2.1 w.2.2.2.2 [0] rfl) hno hlk (Nat.le_of_ble_eq_true rfl) (Nat.le_of_ble_eq_true rfl)
set_option maxHeartbeats 4000000 in
set_option maxRecDepth 100000 in
theorem c_CG_good (l : Launch) (hst9 : l.stackTraces = false) (D : va_G) (h0 : Nat) (rd : Nat) (tx : Nat) (va : Nat) (fo : Nat) (go : Nat) (i : Int32) (n0 sz : Nat) : cg_MetT l y_CG_good (Cond.code y_CG_good b_CG_good 2 (some .int) :: tb) { frames := 7, cells := 1, slots := 6, locals := 103 } (va_Pc [.ref h0, .int i] (cg_PreT D classes n0 sz [(h0, .inr (0, [.ref rd, .ref tx, .ref va, .ref fo, .ref go, .int 0, .int 0]))] [])) "java/lang/IllegalStateException" 1 6 (va_A [(h0, .inr (0, [.ref rd, .ref tx, .ref va, .ref fo, .ref go, .int 0, .int 0]))] sz) := by
  refine cg_metT (by decide) (Nat.le_of_ble_eq_true rfl) (fun p e s m below meth c ls F w hh hA hsz hP0 hno hlk hl => ?_)
  have w : cg_W D classes (va_A [(h0, .inr (0, [.ref rd, .ref tx, .ref va, .ref fo, .ref go, .int 0, .int 0]))] sz) s.heap s [] [(h0, .inr (0, [.ref rd, .ref tx, .ref va, .ref fo, .ref go, .int 0, .int 0]))] s.heap [] := w
  have hl : lv_has ls 2 [(0, .ref h0), (1, .int i)] := hl
  refine lv_aload_n F.1 F.2.1 d_CG_good_0 rfl (lv_at hl 0 rfl) ?_
  refine lv_iload_n F.1 F.2.1 d_CG_good_1 rfl (lv_at hl 1 rfl) ?_
  exact cg_tout (H0 := s.heap) (cg_tV (As := [.int i]) (rest := []) F (c_CG_checkValueOf l hst9 D h0 rd tx va fo go i n0 s.heap.size) e_CG_checkValueOf ki_CG_checkValueOf ks_CG_checkValueOf k_773 (cg_preTV (n0 := n0) w hh hA w.2.2.2.1 cl_CG 0 rfl [0] [] rfl rfl (by decide) rfl) rfl hl.1 rfl (Nat.le_of_ble_eq_true rfl) ⟨⟨rfl, rfl⟩, ⟨Nat.le_of_ble_eq_true rfl, Nat.le_of_ble_eq_true rfl⟩, Nat.le_of_ble_eq_true rfl, Nat.le_of_ble_eq_true rfl⟩ d_CG_good_2) w.2.2.2.1 (va_free (wc := [(h0, .inr (0, [.ref rd, .ref tx, .ref va, .ref fo, .ref go, .int 0, .int 0]))]) w.2.1 w.2.2.2.1 w.2.2.2.2 [0] rfl) hno hlk (Nat.le_of_ble_eq_true rfl) (Nat.le_of_ble_eq_true rfl)
