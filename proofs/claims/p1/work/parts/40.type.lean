set_option maxHeartbeats 4000000 in
set_option maxRecDepth 100000 in
theorem c_Tx_byteAt (l : Launch) (D : va_G) (b : Int64) (k : Int32) (sz : Nat) : Met l y_Tx_byteAt (Cond.code y_Tx_byteAt b_Tx_byteAt 3 (some .int) :: tb) { frames := 0, cells := 0, slots := 0, locals := 0 } (va_Pc [.long b, .int k] (cg_Pre D classes sz [] [])) (va_Qi (fun (r : Int32) (_ : Unit) => r = (nI (bN b k))) (fun (u : Unit) (t : State) => cg_B D classes (va_A [] sz) [] [] t) (va_A [] sz)) 0 0 (va_A [] sz) := by
  refine cg_met (by decide) (Nat.le_of_ble_eq_true rfl) (fun p e s m below meth c ls F w hr hlk hnm hl => ?_)
  have w : cg_W D classes (va_A [] sz) s.heap s [] [] s.heap [] := w
  have hl : lv_has ls 3 [(0, .long b), (2, .int k)] := hl
  refine lv_lload_n F.1 F.2.1 d_Tx_byteAt_0 rfl (lv_at hl 0 rfl) ?_
  refine lv_bipush (v := 8) F.1 F.2.1 d_Tx_byteAt_1 (by decide) ?_
  refine lv_iload_n F.1 F.2.1 d_Tx_byteAt_3 rfl (lv_at hl 1 rfl) ?_
  refine lv_imul F.1 F.2.1 d_Tx_byteAt_4 ?_
  refine lv_lshr F.1 F.2.1 d_Tx_byteAt_5 rfl ?_
  refine lv_l2i F.1 F.2.1 d_Tx_byteAt_6 rfl ?_
  refine lv_sipush (v := 255) F.1 F.2.1 d_Tx_byteAt_7 (by decide) ?_
  refine lv_iand F.1 F.2.1 d_Tx_byteAt_10 ?_
  exact cg_iret F w hr hlk (()) (bN_i b k) [] [] rfl rfl (by decide) rfl (Nat.le_of_ble_eq_true rfl) (Nat.le_of_ble_eq_true rfl) d_Tx_byteAt_11
set_option maxHeartbeats 4000000 in
set_option maxRecDepth 100000 in
theorem c_Tx_areTypeable (l : Launch) (D : va_G) (b : Int64) (N : Nat) (hN : N ≤ 8) (sz : Nat) : Met l y_Tx_areTypeable (Cond.code y_Tx_areTypeable b_Tx_areTypeable 5 (some .boolean) :: tb) { frames := 1, cells := 0, slots := 0, locals := 22 } (va_Pc [.long b, .int (nI N)] (cg_Pre D classes sz [] [])) (va_Qi (fun (r : Int32) (_ : Unit) => (cg_tok b N → r = 1) ∧ (¬ cg_tok b N → r = 0)) (fun (_ : Unit) (t : State) => cg_B D classes (va_A [] sz) [] [] t) (va_A [] sz)) 0 0 (va_A [] sz) := by
  refine cg_met (by decide) (Nat.le_of_ble_eq_true rfl) (fun p e s m below meth c ls F w hr hlk hnm hl => ?_)
  have w : cg_W D classes (va_A [] sz) s.heap s [] [] s.heap [] := w
  have hl : lv_has ls 5 [(0, .long b), (2, .int (nI N))] := hl
  refine lv_iconst (v := 0) F.1 F.2.1 d_Tx_areTypeable_0 (by decide) ?_
  refine lv_istore_n F.1 F.2.1 d_Tx_areTypeable_1 rfl hl (by decide) rfl (fun ls hl => ?_)
  have hl : lv_has ls 5 [(3, .int 0), (0, .long b), (2, .int (nI N))] := hl
  have loop : ∀ (d k : Nat), k + d = N → (∀ j, j < k → 33 ≤ bN b (nI j) ∧ bN b (nI j) ≤ 126) → ∀ (H : Heap) (locs : List Loc) (ls : Array Slot), cg_W D classes (va_A [] sz) s.heap s [] [] H locs → lv_has ls 5 [(3, .int (nI k)), (0, .long b), (2, .int (nI N))] → W p l e { frames := 1, cells := 0, slots := 0, locals := 22 } s m ([.long b, .int (nI N)] : List Value).toArray below meth c H locs 0 0 (MQ below (va_Qi (fun (r : Int32) (_ : Unit) => (cg_tok b N → r = 1) ∧ (¬ cg_tok b N → r = 0)) (fun (_ : Unit) (t : State) => cg_B D classes (va_A [] sz) [] [] t) (va_A [] sz)) ([.long b, .int (nI N)] : List Value).toArray s 0 0 (va_A [] sz)) (F0 m 2 ls []) := by
    intro d
    induction d with
    | zero =>
      intro k hk hok H locs ls w hl
      refine lv_iload_n F.1 F.2.1 d_Tx_areTypeable_2 rfl (lv_at hl 0 rfl) ?_
      refine lv_iload_n F.1 F.2.1 d_Tx_areTypeable_3 rfl (lv_at hl 2 rfl) ?_
      refine lv_icmp_ge F.1 F.2.1 d_Tx_areTypeable_4 (tgt := 36) (by decide) (fun _ => ?_) (fun hh => absurd (show nI N ≤ nI k from nI_le (by omega) (by omega)) hh)
      refine lv_iconst (v := 1) F.1 F.2.1 d_Tx_areTypeable_36 (by decide) ?_
      exact cg_zret F w hr (by rfl) hlk () (⟨fun _ => rfl, fun h => absurd (fun j hj => hok j (by omega)) h⟩) [] [] rfl rfl (by decide) rfl (Nat.le_of_ble_eq_true rfl) (Nat.le_of_ble_eq_true rfl) d_Tx_areTypeable_37
    | succ d ih =>
      intro k hk hok H locs ls w hl
      refine lv_iload_n F.1 F.2.1 d_Tx_areTypeable_2 rfl (lv_at hl 0 rfl) ?_
      refine lv_iload_n F.1 F.2.1 d_Tx_areTypeable_3 rfl (lv_at hl 2 rfl) ?_
      refine lv_icmp_ge F.1 F.2.1 d_Tx_areTypeable_4 (tgt := 36) (by decide) (fun hh => absurd hh (show ¬ nI N ≤ nI k from nI_ge (by omega) (by omega))) (fun _ => ?_)
      refine lv_lload_n F.1 F.2.1 d_Tx_areTypeable_7 rfl (lv_at hl 1 rfl) ?_
      refine lv_iload_n F.1 F.2.1 d_Tx_areTypeable_8 rfl (lv_at hl 0 rfl) ?_
      refine cg_ci (wc := []) (wr := []) w [] [] rfl rfl (by decide) (by decide) (cg_rS (As := [.long b, .int (nI k)]) (rest := []) F (c_Tx_byteAt l D b (nI k) H.size) e_Tx_byteAt kt_Tx_byteAt k_360 (cg_pre w [] [] rfl rfl (by decide) rfl) rfl hl.1 rfl (Nat.le_of_ble_eq_true rfl) ⟨⟨rfl, rfl⟩, ⟨Nat.le_of_ble_eq_true rfl, Nat.le_of_ble_eq_true rfl⟩, Nat.le_of_ble_eq_true rfl, Nat.le_of_ble_eq_true rfl⟩ d_Tx_areTypeable_9) (fun r2 u H locs hu1 w => ?_)
      subst hu1
      have w : cg_W D classes (va_A [] sz) s.heap s [] [] H locs := w
      refine lv_istore F.1 F.2.1 d_Tx_areTypeable_12 hl (by decide) rfl (fun ls hl => ?_)
      have hl : lv_has ls 5 [(4, .int (nI (bN b (nI k)))), (3, .int (nI k)), (0, .long b), (2, .int (nI N))] := hl
      refine lv_iload F.1 F.2.1 d_Tx_areTypeable_14 (lv_at hl 0 rfl) ?_
      refine lv_bipush (v := 33) F.1 F.2.1 d_Tx_areTypeable_16 (by decide) ?_
      refine lv_icmp_lt F.1 F.2.1 d_Tx_areTypeable_18 (tgt := 28) (by decide) (fun hc3 => ?_) (fun hc4 => ?_)
      · refine lv_iconst (v := 0) F.1 F.2.1 d_Tx_areTypeable_28 (by decide) ?_
        exact cg_zret F w hr (by rfl) hlk () (⟨fun h => absurd (show nI (bN b (nI k)) < nI 33 from hc3) (nI_nlt (h k (by omega)).1 (by have := bN_lt b (nI k); omega)), fun _ => rfl⟩) [] [] rfl rfl (by decide) rfl (Nat.le_of_ble_eq_true rfl) (Nat.le_of_ble_eq_true rfl) d_Tx_areTypeable_29
      · refine lv_iload F.1 F.2.1 d_Tx_areTypeable_21 (lv_at hl 0 rfl) ?_
        refine lv_bipush (v := 126) F.1 F.2.1 d_Tx_areTypeable_23 (by decide) ?_
        refine lv_icmp_le F.1 F.2.1 d_Tx_areTypeable_25 (tgt := 30) (by decide) (fun hc5 => ?_) (fun hc6 => ?_)
        · refine lv_iinc (k := 1) (v := ((nI k) + 1)) F.1 F.2.1 d_Tx_areTypeable_30 hl rfl (by rfl) (by decide) rfl (fun ls hl => ?_)
          have hl : lv_has ls 5 [(3, .int ((nI k) + 1)), (4, .int (nI (bN b (nI k)))), (0, .long b), (2, .int (nI N))] := hl
          refine lv_goto F.1 F.2.1 d_Tx_areTypeable_33 (tgt := 2) (by decide) ?_
          refine ih (k + 1) (by omega) (fun j hj => ?_) _ _ ls w (by rw [nI_succ]; exact lv_sub hl [0, 2, 3] rfl)
          by_cases hjk : j = k
          · subst hjk
            have hb9 := bN_lt b (nI j)
            exact ⟨Nat.not_lt.mp (fun h => hc4 (show nI (bN b (nI j)) < nI 33 from nI_lt h (by omega))), Nat.not_lt.mp (fun h => nI_ge h (by omega) (show nI (bN b (nI j)) ≤ nI 126 from hc5))⟩
          · exact hok j (by omega)
        · refine lv_iconst (v := 0) F.1 F.2.1 d_Tx_areTypeable_28 (by decide) ?_
          exact cg_zret F w hr (by rfl) hlk () (⟨fun h => absurd (show nI (bN b (nI k)) ≤ nI 126 from nI_le (h k (by omega)).2 (by omega)) hc6, fun _ => rfl⟩) [] [] rfl rfl (by decide) rfl (Nat.le_of_ble_eq_true rfl) (Nat.le_of_ble_eq_true rfl) d_Tx_areTypeable_29
  exact loop N 0 (by omega) (fun j hj => absurd hj (Nat.not_lt_zero _)) _ _ ls w hl
set_option maxHeartbeats 4000000 in
set_option maxRecDepth 100000 in
theorem c_Tx_append (l : Launch) (D : va_G) (h0 ch : Nat) (cC : ClassId) (b : Int64) (n : Int32) (sz : Nat) : Met l y_Tx_append (Cond.code y_Tx_append b_Tx_append 5 (some .int) :: tb) { frames := 2, cells := 0, slots := 0, locals := 46 } (va_Pc [.ref h0, .long b, .int n] (cg_Pre D classes sz [(h0, .inr (2, [.ref ch, .int 0])), (ch, .inl (cC, 200, .inl (fun _ => 0)))] [(cC, .char)])) (va_Qi (fun (r : Int32) (_ : Unit) => cg_tyP b n r) (fun (_ : Unit) (t : State) => cg_B D classes (va_A [(h0, .inr (2, [.ref ch, .int 0])), (ch, .inl (cC, 200, .inl (fun _ => 0)))] sz) [] [] t) (va_A [(h0, .inr (2, [.ref ch, .int 0])), (ch, .inl (cC, 200, .inl (fun _ => 0)))] sz)) 0 0 (va_A [(h0, .inr (2, [.ref ch, .int 0])), (ch, .inl (cC, 200, .inl (fun _ => 0)))] sz) := by
  refine cg_met (by decide) (Nat.le_of_ble_eq_true rfl) (fun p e s m below meth c ls F w hr hlk hnm hl => ?_)
  have w : cg_W D classes (va_A [(h0, .inr (2, [.ref ch, .int 0])), (ch, .inl (cC, 200, .inl (fun _ => 0)))] sz) s.heap s [(cC, .char)] [(h0, .inr (2, [.ref ch, .int 0])), (ch, .inl (cC, 200, .inl (fun _ => 0)))] s.heap [] := w
  have hl : lv_has ls 5 [(0, .ref h0), (1, .long b), (3, .int n)] := hl
  refine lv_iload_n F.1 F.2.1 d_Tx_append_0 rfl (lv_at hl 2 rfl) ?_
  refine lv_iconst (v := 1) F.1 F.2.1 d_Tx_append_1 (by decide) ?_
  refine lv_icmp_lt F.1 F.2.1 d_Tx_append_2 (tgt := 31) (by decide) (fun hc1 => ?_) (fun hc2 => ?_)
  · refine lv_iconst (v := (-1)) F.1 F.2.1 d_Tx_append_31 (by decide) ?_
    exact cg_iret F w hr hlk () (cg_tyP_lo hc1) [] [] rfl rfl (by decide) rfl (Nat.le_of_ble_eq_true rfl) (Nat.le_of_ble_eq_true rfl) d_Tx_append_32
  · refine lv_iload_n F.1 F.2.1 d_Tx_append_5 rfl (lv_at hl 2 rfl) ?_
    refine lv_bipush (v := 8) F.1 F.2.1 d_Tx_append_6 (by decide) ?_
    refine lv_icmp_gt F.1 F.2.1 d_Tx_append_8 (tgt := 31) (by decide) (fun hc3 => ?_) (fun hc4 => ?_)
    · refine lv_iconst (v := (-1)) F.1 F.2.1 d_Tx_append_31 (by decide) ?_
      exact cg_iret F w hr hlk () (cg_tyP_hi hc3) [] [] rfl rfl (by decide) rfl (Nat.le_of_ble_eq_true rfl) (Nat.le_of_ble_eq_true rfl) d_Tx_append_32
    · obtain ⟨N, hN1, hN, rfl⟩ := cg_18 hc2 hc4
      refine lv_aload_n F.1 F.2.1 d_Tx_append_11 rfl (lv_at hl 0 rfl) ?_
      refine cg_get F w cl_Tx 0 1 rfl (by decide) k_44 rfl d_Tx_append_12 ?_
      refine lv_iload_n F.1 F.2.1 d_Tx_append_15 rfl (lv_at hl 2 rfl) ?_
      refine lv_iadd F.1 F.2.1 d_Tx_append_16 ?_
      refine lv_sipush (v := 200) F.1 F.2.1 d_Tx_append_17 (by decide) ?_
      refine lv_icmp_gt F.1 F.2.1 d_Tx_append_20 (tgt := 31) (by decide) (fun hh => absurd hh (cg_l200 hN)) (fun _ => ?_)
      refine lv_lload_n F.1 F.2.1 d_Tx_append_23 rfl (lv_at hl 1 rfl) ?_
      refine lv_iload_n F.1 F.2.1 d_Tx_append_24 rfl (lv_at hl 2 rfl) ?_
      refine cg_ci (wc := []) (wr := [(h0, .inr (2, [.ref ch, .int 0])), (ch, .inl (cC, 200, .inl (fun _ => 0)))]) w [] [0, 1] rfl rfl (by decide) (by decide) (cg_rS (As := [.long b, .int (nI N)]) (rest := []) F (c_Tx_areTypeable l D b N hN s.heap.size) e_Tx_areTypeable kt_Tx_areTypeable k_357 (cg_pre w [] [] rfl rfl (by decide) rfl) rfl hl.1 rfl (Nat.le_of_ble_eq_true rfl) ⟨⟨rfl, rfl⟩, ⟨Nat.le_of_ble_eq_true rfl, Nat.le_of_ble_eq_true rfl⟩, Nat.le_of_ble_eq_true rfl, Nat.le_of_ble_eq_true rfl⟩ d_Tx_append_25) (fun r6 u H locs hu5 w => ?_)
      have w : cg_W D classes (va_A [(h0, .inr (2, [.ref ch, .int 0])), (ch, .inl (cC, 200, .inl (fun _ => 0)))] sz) s.heap s [(cC, .char)] [(h0, .inr (2, [.ref ch, .int 0])), (ch, .inl (cC, 200, .inl (fun _ => 0)))] H locs := w
      refine lv_if_ne F.1 F.2.1 d_Tx_append_28 (tgt := 33) (by decide) (fun hc7 => ?_) (fun hc8 => ?_)
      · refine lv_iload_n F.1 F.2.1 d_Tx_append_33 rfl (lv_at hl 2 rfl) ?_
        refine lv_iconst (v := 1) F.1 F.2.1 d_Tx_append_34 (by decide) ?_
        refine lv_isub F.1 F.2.1 d_Tx_append_35 ?_
        refine lv_istore F.1 F.2.1 d_Tx_append_36 hl (by decide) rfl (fun ls hl => ?_)
        have hl : lv_has ls 5 [(4, .int ((nI N) - 1)), (0, .ref h0), (1, .long b), (3, .int (nI N))] := hl
        have ht : cg_tok b N := Classical.byContradiction (fun hn => hc7 (hu5.2 hn))
        have loop : ∀ (d i : Nat), i + d = N → ∀ (f : Nat → Int32) (H : Heap) (locs : List Loc) (ls : Array Slot), cg_W D classes (va_A [(h0, .inr (2, [.ref ch, .int 0])), (ch, .inl (cC, 200, .inl (fun _ => 0)))] sz) s.heap s [(cC, .char)] [(h0, .inr (2, [.ref ch, .int (nI i)])), (ch, .inl (cC, 200, .inl f))] H locs → lv_has ls 5 [(4, .int (nI d - 1)), (0, .ref h0), (1, .long b), (3, .int (nI N))] → W p l e { frames := 2, cells := 0, slots := 0, locals := 46 } s m ([.ref h0, .long b, .int (nI N)] : List Value).toArray below meth c H locs 0 0 (MQ below (va_Qi (fun (r : Int32) (_ : Unit) => cg_tyP b (nI N) r) (fun (_ : Unit) (t : State) => cg_B D classes (va_A [(h0, .inr (2, [.ref ch, .int 0])), (ch, .inl (cC, 200, .inl (fun _ => 0)))] sz) [] [] t) (va_A [(h0, .inr (2, [.ref ch, .int 0])), (ch, .inl (cC, 200, .inl (fun _ => 0)))] sz)) ([.ref h0, .long b, .int (nI N)] : List Value).toArray s 0 0 (va_A [(h0, .inr (2, [.ref ch, .int 0])), (ch, .inl (cC, 200, .inl (fun _ => 0)))] sz)) (F0 m 38 ls []) := by
          intro d
          induction d with
          | zero =>
            intro i hi f H locs ls w hl
            have hl : lv_has ls 5 [(4, .int (-1)), (0, .ref h0), (1, .long b), (3, .int (nI N))] := hl
            refine lv_iload F.1 F.2.1 d_Tx_append_38 (lv_at hl 0 rfl) ?_
            refine lv_if_lt F.1 F.2.1 d_Tx_append_40 (tgt := 75) (by decide) (fun _ => ?_) (fun hh => absurd (by decide) hh)
            refine lv_aload_n F.1 F.2.1 d_Tx_append_75 rfl (lv_at hl 1 rfl) ?_
            refine cg_get F w cl_Tx 0 1 rfl (by decide) k_44 rfl d_Tx_append_76 ?_
            obtain rfl : i = N := by omega
            exact cg_iret F w hr hlk () (cg_tyP_ok hN1 hN ht) [] [] rfl rfl (by decide) rfl (Nat.le_of_ble_eq_true rfl) (Nat.le_of_ble_eq_true rfl) d_Tx_append_79
          | succ d ih =>
            intro i hi f H locs ls w hl
            have hd9 : nI (d + 1) - 1 = nI d := nI_pred d
            rw [hd9] at hl
            refine lv_iload F.1 F.2.1 d_Tx_append_38 (lv_at hl 0 rfl) ?_
            refine lv_if_lt F.1 F.2.1 d_Tx_append_40 (tgt := 75) (by decide) (fun hh => absurd hh (nI_pos (by omega))) (fun _ => ?_)
            refine lv_aload_n F.1 F.2.1 d_Tx_append_43 rfl (lv_at hl 1 rfl) ?_
            refine cg_get F w cl_Tx 0 0 rfl (by decide) k_42 rfl d_Tx_append_44 ?_
            refine lv_aload_n F.1 F.2.1 d_Tx_append_47 rfl (lv_at hl 1 rfl) ?_
            refine cg_get F w cl_Tx 0 1 rfl (by decide) k_44 rfl d_Tx_append_48 ?_
            refine lv_lload_n F.1 F.2.1 d_Tx_append_51 rfl (lv_at hl 2 rfl) ?_
            refine lv_iload F.1 F.2.1 d_Tx_append_52 (lv_at hl 0 rfl) ?_
            refine cg_ci (wc := []) (wr := [(h0, .inr (2, [.ref ch, .int (nI i)])), (ch, .inl (cC, 200, .inl f))]) w [] [0, 1] rfl rfl (by decide) (by decide) (cg_rS (As := [.long b, .int (nI d)]) (rest := [.int (nI i), .ref ch]) F (c_Tx_byteAt l D b (nI d) H.size) e_Tx_byteAt kt_Tx_byteAt k_360 (cg_pre w [] [] rfl rfl (by decide) rfl) rfl hl.1 rfl (Nat.le_of_ble_eq_true rfl) ⟨⟨rfl, rfl⟩, ⟨Nat.le_of_ble_eq_true rfl, Nat.le_of_ble_eq_true rfl⟩, Nat.le_of_ble_eq_true rfl, Nat.le_of_ble_eq_true rfl⟩ d_Tx_append_54) (fun r2 u H locs hu1 w => ?_)
            subst hu1
            have w : cg_W D classes (va_A [(h0, .inr (2, [.ref ch, .int 0])), (ch, .inl (cC, 200, .inl (fun _ => 0)))] sz) s.heap s [(cC, .char)] [(h0, .inr (2, [.ref ch, .int (nI i)])), (ch, .inl (cC, 200, .inl f))] H locs := w
            refine lv_i2c F.1 F.2.1 d_Tx_append_57 rfl ?_
            refine cg_cast F w 1 0 rfl rfl (vp_in_nI (by omega) (by omega)) d_Tx_append_58 (fun H locs w => ?_)
            have w : cg_W D classes (va_A [(h0, .inr (2, [.ref ch, .int 0])), (ch, .inl (cC, 200, .inl (fun _ => 0)))] sz) s.heap s [(cC, .char)] [(h0, .inr (2, [.ref ch, .int (nI i)])), (ch, .inl (cC, 200, .inl (upd f (Int32.toNatClampNeg (nI i)) (vp_nar .char (Int32.toUInt32 (nI (bN b (nI d))) % 65536).toInt32))))] H locs := w
            refine lv_aload_n F.1 F.2.1 d_Tx_append_59 rfl (lv_at hl 1 rfl) ?_
            refine lv_dup F.1 F.2.1 d_Tx_append_60 rfl ?_
            refine cg_get F w cl_Tx 0 1 rfl (by decide) k_44 rfl d_Tx_append_61 ?_
            refine lv_iconst (v := 1) F.1 F.2.1 d_Tx_append_64 (by decide) ?_
            refine lv_iadd F.1 F.2.1 d_Tx_append_65 ?_
            refine cg_put F w cl_Tx 0 1 rfl (by decide) k_44 rfl (by rfl) (by rfl) (Nat.le_of_ble_eq_true rfl) d_Tx_append_66 (fun H locs w => ?_)
            have w : cg_W D classes (va_A [(h0, .inr (2, [.ref ch, .int 0])), (ch, .inl (cC, 200, .inl (fun _ => 0)))] sz) s.heap s [(cC, .char)] [(h0, .inr (2, [.ref ch, .int ((nI i) + 1)])), (ch, .inl (cC, 200, .inl (upd f (Int32.toNatClampNeg (nI i)) (vp_nar .char (Int32.toUInt32 (nI (bN b (nI d))) % 65536).toInt32))))] H locs := w
            refine lv_iinc (k := 0) (v := ((nI d) + (-1))) F.1 F.2.1 d_Tx_append_69 hl rfl (by rfl) (by decide) rfl (fun ls hl => ?_)
            have hl : lv_has ls 5 [(4, .int ((nI d) + (-1))), (0, .ref h0), (1, .long b), (3, .int (nI N))] := hl
            refine lv_goto F.1 F.2.1 d_Tx_append_72 (tgt := 38) (by decide) ?_
            refine ih (i + 1) (by omega) _ _ _ ls (by rw [nI_succ]; exact w) (by rw [show nI d - 1 = nI d + (-1) from Int32.sub_eq_add_neg _ _]; exact hl)
        exact loop N 0 (by omega) _ _ _ ls w hl
      · refine lv_iconst (v := (-1)) F.1 F.2.1 d_Tx_append_31 (by decide) ?_
        exact cg_iret F w hr hlk () (cg_tyP_bad hN (fun ht => absurd ((hu5.1 ht).symm.trans hc8) (by decide))) [] [] rfl rfl (by decide) rfl (Nat.le_of_ble_eq_true rfl) (Nat.le_of_ble_eq_true rfl) d_Tx_append_32
set_option maxHeartbeats 4000000 in
set_option maxRecDepth 100000 in
theorem c_CG_type (l : Launch) (D : va_G) (h0 : Nat) (rd : Nat) (tx : Nat) (va : Nat) (fo : Nat) (go : Nat) (ch : Nat) (cC : ClassId) (b : Int64) (n : Int32) (sz : Nat) : Met l y_CG_type (Cond.code y_CG_type b_CG_type 4 (some .int) :: tb) { frames := 3, cells := 0, slots := 0, locals := 70 } (va_Pc [.ref h0, .long b, .int n] (cg_Pre D classes sz [(h0, .inr (0, [.ref rd, .ref tx, .ref va, .ref fo, .ref go, .int 0, .int 0])), (tx, .inr (2, [.ref ch, .int 0])), (ch, .inl (cC, 200, .inl (fun _ => 0)))] [(cC, .char)])) (va_Qi (fun (r : Int32) (_ : Unit) => cg_tyP b n r) (fun (_ : Unit) (t : State) => cg_B D classes (va_A [(h0, .inr (0, [.ref rd, .ref tx, .ref va, .ref fo, .ref go, .int 0, .int 0])), (tx, .inr (2, [.ref ch, .int 0])), (ch, .inl (cC, 200, .inl (fun _ => 0)))] sz) [] [] t) (va_A [(h0, .inr (0, [.ref rd, .ref tx, .ref va, .ref fo, .ref go, .int 0, .int 0])), (tx, .inr (2, [.ref ch, .int 0])), (ch, .inl (cC, 200, .inl (fun _ => 0)))] sz)) 0 0 (va_A [(h0, .inr (0, [.ref rd, .ref tx, .ref va, .ref fo, .ref go, .int 0, .int 0])), (tx, .inr (2, [.ref ch, .int 0])), (ch, .inl (cC, 200, .inl (fun _ => 0)))] sz) := by
  refine cg_met (by decide) (Nat.le_of_ble_eq_true rfl) (fun p e s m below meth c ls F w hr hlk hnm hl => ?_)
  have w : cg_W D classes (va_A [(h0, .inr (0, [.ref rd, .ref tx, .ref va, .ref fo, .ref go, .int 0, .int 0])), (tx, .inr (2, [.ref ch, .int 0])), (ch, .inl (cC, 200, .inl (fun _ => 0)))] sz) s.heap s [(cC, .char)] [(h0, .inr (0, [.ref rd, .ref tx, .ref va, .ref fo, .ref go, .int 0, .int 0])), (tx, .inr (2, [.ref ch, .int 0])), (ch, .inl (cC, 200, .inl (fun _ => 0)))] s.heap [] := w
  have hl : lv_has ls 4 [(0, .ref h0), (1, .long b), (3, .int n)] := hl
  refine lv_aload_n F.1 F.2.1 d_CG_type_0 rfl (lv_at hl 0 rfl) ?_
  refine cg_get F w cl_CG 0 1 rfl (by decide) k_328 rfl d_CG_type_1 ?_
  refine lv_lload_n F.1 F.2.1 d_CG_type_4 rfl (lv_at hl 1 rfl) ?_
  refine lv_iload_n F.1 F.2.1 d_CG_type_5 rfl (lv_at hl 2 rfl) ?_
  refine cg_ci (wc := [(tx, .inr (2, [.ref ch, .int 0])), (ch, .inl (cC, 200, .inl (fun _ => 0)))]) (wr := [(h0, .inr (0, [.ref rd, .ref tx, .ref va, .ref fo, .ref go, .int 0, .int 0]))]) w [1, 2] [0] rfl rfl (by decide) (by decide) (cg_rV (As := [.long b, .int n]) (rest := []) F (c_Tx_append l D tx ch cC b n s.heap.size) e_Tx_append ki_Tx_append ks_Tx_append k_353 (cg_preV w cl_Tx 1 rfl [1, 2] [0] rfl rfl (by decide) rfl) rfl hl.1 rfl (Nat.le_of_ble_eq_true rfl) ⟨⟨rfl, rfl⟩, ⟨Nat.le_of_ble_eq_true rfl, Nat.le_of_ble_eq_true rfl⟩, Nat.le_of_ble_eq_true rfl, Nat.le_of_ble_eq_true rfl⟩ d_CG_type_6) (fun r2 u H locs hu1 w => ?_)
  have w : cg_W D classes (va_A [(h0, .inr (0, [.ref rd, .ref tx, .ref va, .ref fo, .ref go, .int 0, .int 0])), (tx, .inr (2, [.ref ch, .int 0])), (ch, .inl (cC, 200, .inl (fun _ => 0)))] sz) s.heap s [(cC, .char)] [(h0, .inr (0, [.ref rd, .ref tx, .ref va, .ref fo, .ref go, .int 0, .int 0]))] H locs := w
  exact cg_iret F w hr hlk () (hu1) [] [] rfl rfl (by decide) rfl (Nat.le_of_ble_eq_true rfl) (Nat.le_of_ble_eq_true rfl) d_CG_type_9
