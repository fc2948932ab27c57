set_option maxHeartbeats 4000000 in
set_option maxRecDepth 100000 in
theorem met_Tx_byteAt (l : Launch) (hst9 : l.stackTraces = false) (D : va_G) (ad : Nat → Nat) (cA : Nat → ClassId) (n0 : Nat) (M : fm_M) (a0 : Int) (a2 : Int) (post : Int → fm_M → Prop) (thr : String → fm_M → Prop) (hw : wp_Tx_byteAt M a0 a2 post thr) : fx_Met l y_Tx_byteAt (Cond.code y_Tx_byteAt b_Tx_byteAt 3 (some .int) :: tb) { frames := 0, cells := 1, slots := 6, locals := 0 } [.long (Int64.ofInt a0), .int (Int32.ofInt a2)] D ad cA n0 M 0 post thr := by
  refine fx_met (by decide) (Nat.le_of_ble_eq_true rfl) (fun p e s m below meth c ls F w hno hr hlk hl => ?_)
  have hl : lv_has ls 3 [(0, .long (Int64.ofInt a0)), (2, .int (Int32.ofInt a2))] := hl
  suffices h9 : fx_G p l e { frames := 0, cells := 1, slots := 6, locals := 0 } s m ([.long (Int64.ofInt a0), .int (Int32.ofInt a2)] : List Value).toArray below meth c D ad cA n0 0 post thr 3 M [(0, .long (Int64.ofInt a0)), (2, .int (Int32.ofInt a2))] 0 [] from h9 _ _ _ w hl
  intro H locs ls w hl
  refine lv_lload_n F.1 F.2.1 d_Tx_byteAt_0 rfl (lv_at hl 0 rfl) ?_
  refine lv_bipush (v := Int32.ofInt 8) F.1 F.2.1 d_Tx_byteAt_1 (by decide) ?_
  refine lv_iload_n F.1 F.2.1 d_Tx_byteAt_3 rfl (lv_at hl 1 rfl) ?_
  refine fi_imul F d_Tx_byteAt_4 ?_
  refine fi_lshr F d_Tx_byteAt_5 ?_
  refine fi_l2i F d_Tx_byteAt_6 ?_
  refine lv_sipush (v := Int32.ofInt 255) F.1 F.2.1 d_Tx_byteAt_7 (by decide) ?_
  refine fi_iand F d_Tx_byteAt_10 ?_
  exact fx_iret F w hr hlk hw d_Tx_byteAt_11
set_option maxHeartbeats 4000000 in
set_option maxRecDepth 100000 in
theorem met_Tx_areTypeable (l : Launch) (hst9 : l.stackTraces = false) (D : va_G) (ad : Nat → Nat) (cA : Nat → ClassId) (n0 : Nat) (M : fm_M) (a0 : Int) (a2 : Int) (post : Int → fm_M → Prop) (thr : String → fm_M → Prop) (hw : wp_Tx_areTypeable M a0 a2 post thr) : fx_Met l y_Tx_areTypeable (Cond.code y_Tx_areTypeable b_Tx_areTypeable 5 (some .boolean) :: tb) { frames := 1, cells := 1, slots := 6, locals := 22 } [.long (Int64.ofInt a0), .int (Int32.ofInt a2)] D ad cA n0 M 0 post thr := by
  refine fx_met (by decide) (Nat.le_of_ble_eq_true rfl) (fun p e s m below meth c ls F w hno hr hlk hl => ?_)
  have blc_2 : ∀ (J_2 : (fm_M → Int → Prop)) (M : fm_M) (v3 : Int), C_Tx_areTypeable_2 a0 a2 post thr J_2 M v3 → (∀ (M : fm_M) (v3 : Int), J_2 M v3 → fx_G p l e { frames := 1, cells := 1, slots := 6, locals := 22 } s m ([.long (Int64.ofInt a0), .int (Int32.ofInt a2)] : List Value).toArray below meth c D ad cA n0 0 post thr 5 M [(0, .long (Int64.ofInt a0)), (2, .int (Int32.ofInt a2)), (3, .int (Int32.ofInt v3))] 2 []) → fx_G p l e { frames := 1, cells := 1, slots := 6, locals := 22 } s m ([.long (Int64.ofInt a0), .int (Int32.ofInt a2)] : List Value).toArray below meth c D ad cA n0 0 post thr 5 M [(0, .long (Int64.ofInt a0)), (2, .int (Int32.ofInt a2)), (3, .int (Int32.ofInt v3))] 2 [] := by
    intro J_2 M v3 hw hJ_2 H locs ls w hl
    refine lv_iload_n F.1 F.2.1 d_Tx_areTypeable_2 rfl (lv_at hl 2 rfl) ?_
    refine lv_iload_n F.1 F.2.1 d_Tx_areTypeable_3 rfl (lv_at hl 1 rfl) ?_
    obtain ⟨h16, hw⟩ := hw
    obtain ⟨h17, hw⟩ := hw
    refine fi_icmp_ge F d_Tx_areTypeable_4 (tgt := 36) (by decide) h16 h17 (fun hc18 => ?_) (fun hc18 => ?_)
    · have hw := hw.1 hc18
      refine lv_iconst (v := Int32.ofInt 1) F.1 F.2.1 d_Tx_areTypeable_36 (by decide) ?_
      exact fx_zret F w hr hlk (fx_nz (by decide)) hw d_Tx_areTypeable_37
    · have hw := hw.2 hc18
      refine lv_lload_n F.1 F.2.1 d_Tx_areTypeable_7 rfl (lv_at hl 0 rfl) ?_
      refine lv_iload_n F.1 F.2.1 d_Tx_areTypeable_8 rfl (lv_at hl 2 rfl) ?_
      refine fx_c w hno hlk (fx_rS (As := [.long (Int64.ofInt a0), .int (Int32.ofInt v3)]) (rest := []) F w (met_Tx_byteAt l hst9 D ad cA n0 M a0 v3 _ thr hw) e_Tx_byteAt kt_Tx_byteAt k_360 rfl hl.1 rfl (Nat.le_of_ble_eq_true rfl) ⟨⟨Nat.le_of_ble_eq_true rfl, Nat.le_of_ble_eq_true rfl⟩, Nat.le_of_ble_eq_true rfl, Nat.le_of_ble_eq_true rfl⟩ d_Tx_areTypeable_9) (fun r20 M19 hw H locs w => ?_)
      show W p l e _ s m _ below meth c H locs 0 0 _ (F0 m 12 ls [.int (Int32.ofInt r20)])
      refine lv_istore F.1 F.2.1 d_Tx_areTypeable_12 hl (by decide) rfl (fun ls hl => ?_)
      have hl : lv_has ls 5 [(4, .int (Int32.ofInt r20)), (0, .long (Int64.ofInt a0)), (2, .int (Int32.ofInt a2)), (3, .int (Int32.ofInt v3))] := hl
      refine lv_iload F.1 F.2.1 d_Tx_areTypeable_14 (lv_at hl 0 rfl) ?_
      refine lv_bipush (v := Int32.ofInt 33) F.1 F.2.1 d_Tx_areTypeable_16 (by decide) ?_
      obtain ⟨h21, hw⟩ := hw
      refine fi_icmp_lt F d_Tx_areTypeable_18 (tgt := 28) (by decide) h21 (rgl (by decide)) (fun hc22 => ?_) (fun hc22 => ?_)
      · have hw := hw.1 hc22
        refine lv_iconst (v := Int32.ofInt 0) F.1 F.2.1 d_Tx_areTypeable_28 (by decide) ?_
        exact fx_zret F w hr hlk (fx_nz (by decide)) hw d_Tx_areTypeable_29
      · have hw := hw.2 hc22
        refine lv_iload F.1 F.2.1 d_Tx_areTypeable_21 (lv_at hl 0 rfl) ?_
        refine lv_bipush (v := Int32.ofInt 126) F.1 F.2.1 d_Tx_areTypeable_23 (by decide) ?_
        refine fi_icmp_le F d_Tx_areTypeable_25 (tgt := 30) (by decide) h21 (rgl (by decide)) (fun hc23 => ?_) (fun hc23 => ?_)
        · have hw := hw.1 hc23
          refine fi_iinc (k := 3) (v := (v3 + 1)) F d_Tx_areTypeable_30 hl rfl rfl (by decide) rfl (fun ls hl => ?_)
          have hl : lv_has ls 5 [(3, .int (Int32.ofInt (v3 + 1))), (4, .int (Int32.ofInt r20)), (0, .long (Int64.ofInt a0)), (2, .int (Int32.ofInt a2))] := hl
          refine lv_goto F.1 F.2.1 d_Tx_areTypeable_33 (tgt := 2) (by decide) ?_
          exact hJ_2 M19 (v3 + 1) hw H locs ls w (lv_sub hl [2, 3, 0] rfl)
        · have hw := hw.2 hc23
          refine lv_iconst (v := Int32.ofInt 0) F.1 F.2.1 d_Tx_areTypeable_28 (by decide) ?_
          exact fx_zret F w hr hlk (fx_nz (by decide)) hw d_Tx_areTypeable_29
  have blk_2 : ∀ (M : fm_M) (v3 : Int), B_Tx_areTypeable_2 a0 a2 post thr M v3 → fx_G p l e { frames := 1, cells := 1, slots := 6, locals := 22 } s m ([.long (Int64.ofInt a0), .int (Int32.ofInt a2)] : List Value).toArray below meth c D ad cA n0 0 post thr 5 M [(0, .long (Int64.ofInt a0)), (2, .int (Int32.ofInt a2)), (3, .int (Int32.ofInt v3))] 2 [] := by
    intro M v3 hw
    obtain ⟨I, μ, hI, hB⟩ := hw
    have key : ∀ (q : Nat) (M : fm_M) (v3 : Int), μ M v3 < q → I M v3 → fx_G p l e { frames := 1, cells := 1, slots := 6, locals := 22 } s m ([.long (Int64.ofInt a0), .int (Int32.ofInt a2)] : List Value).toArray below meth c D ad cA n0 0 post thr 5 M [(0, .long (Int64.ofInt a0)), (2, .int (Int32.ofInt a2)), (3, .int (Int32.ofInt v3))] 2 [] := by
      intro q
      induction q with
      | zero => intro M v3 h _; exact absurd h (Nat.not_lt_zero _)
      | succ q ih =>
        intro M v3 hμ hI
        exact blc_2 (fun M' v3' => I M' v3' ∧ μ M' v3' < μ M v3) M v3 (hB M v3 hI) (fun M' v3' hh => ih M' v3' (Nat.lt_of_lt_of_le hh.2 (Nat.le_of_lt_succ hμ)) hh.1)
    exact key _ M v3 (Nat.lt_succ_self _) hI
  have hl : lv_has ls 5 [(0, .long (Int64.ofInt a0)), (2, .int (Int32.ofInt a2))] := hl
  suffices h9 : fx_G p l e { frames := 1, cells := 1, slots := 6, locals := 22 } s m ([.long (Int64.ofInt a0), .int (Int32.ofInt a2)] : List Value).toArray below meth c D ad cA n0 0 post thr 5 M [(0, .long (Int64.ofInt a0)), (2, .int (Int32.ofInt a2))] 0 [] from h9 _ _ _ w hl
  intro H locs ls w hl
  refine lv_iconst (v := Int32.ofInt 0) F.1 F.2.1 d_Tx_areTypeable_0 (by decide) ?_
  refine lv_istore_n F.1 F.2.1 d_Tx_areTypeable_1 rfl hl (by decide) rfl (fun ls hl => ?_)
  have hl : lv_has ls 5 [(3, .int (Int32.ofInt 0)), (0, .long (Int64.ofInt a0)), (2, .int (Int32.ofInt a2))] := hl
  exact blk_2 M 0 hw H locs ls w (lv_sub hl [1, 2, 0] rfl)
set_option maxHeartbeats 4000000 in
set_option maxRecDepth 100000 in
theorem met_Tx_append (l : Launch) (hst9 : l.stackTraces = false) (D : va_G) (ad : Nat → Nat) (cA : Nat → ClassId) (n0 : Nat) (M : fm_M) (a1 : Int) (a3 : Int) (post : Int → fm_M → Prop) (thr : String → fm_M → Prop) (hw : wp_Tx_append M a1 a3 post thr) : fx_Met l y_Tx_append (Cond.code y_Tx_append b_Tx_append 5 (some .int) :: tb) { frames := 2, cells := 1, slots := 6, locals := 46 } [.ref (ad 2), .long (Int64.ofInt a1), .int (Int32.ofInt a3)] D ad cA n0 M 0 post thr := by
  refine fx_met (by decide) (Nat.le_of_ble_eq_true rfl) (fun p e s m below meth c ls F w hno hr hlk hl => ?_)
  have blc_38 : ∀ (J_38 : (fm_M → Int → Prop)) (M : fm_M) (v4 : Int), C_Tx_append_38 a1 a3 post thr J_38 M v4 → (∀ (M : fm_M) (v4 : Int), J_38 M v4 → fx_G p l e { frames := 2, cells := 1, slots := 6, locals := 46 } s m ([.ref (ad 2), .long (Int64.ofInt a1), .int (Int32.ofInt a3)] : List Value).toArray below meth c D ad cA n0 0 post thr 5 M [(0, .ref (ad 2)), (1, .long (Int64.ofInt a1)), (4, .int (Int32.ofInt v4))] 38 []) → fx_G p l e { frames := 2, cells := 1, slots := 6, locals := 46 } s m ([.ref (ad 2), .long (Int64.ofInt a1), .int (Int32.ofInt a3)] : List Value).toArray below meth c D ad cA n0 0 post thr 5 M [(0, .ref (ad 2)), (1, .long (Int64.ofInt a1)), (4, .int (Int32.ofInt v4))] 38 [] := by
    intro J_38 M v4 hw hJ_38 H locs ls w hl
    refine lv_iload F.1 F.2.1 d_Tx_append_38 (lv_at hl 2 rfl) ?_
    obtain ⟨h18, hw⟩ := hw
    refine fi_if_lt F d_Tx_append_40 (tgt := 75) (by decide) h18 (fun hc19 => ?_) (fun hc19 => ?_)
    · have hw := hw.1 hc19
      refine lv_aload_n F.1 F.2.1 d_Tx_append_75 rfl (lv_at hl 0 rfl) ?_
      refine fm_gI F w cl_Tx 2 1 T_2 (by decide) rfl k_44 d_Tx_append_76 ?_
      exact fx_iret F w hr hlk hw d_Tx_append_79
    · have hw := hw.2 hc19
      refine lv_aload_n F.1 F.2.1 d_Tx_append_43 rfl (lv_at hl 0 rfl) ?_
      refine fm_gO F w cl_Tx 2 0 3 T_2 (by decide) rfl rfl k_42 d_Tx_append_44 ?_
      refine lv_aload_n F.1 F.2.1 d_Tx_append_47 rfl (lv_at hl 0 rfl) ?_
      refine fm_gI F w cl_Tx 2 1 T_2 (by decide) rfl k_44 d_Tx_append_48 ?_
      refine lv_lload_n F.1 F.2.1 d_Tx_append_51 rfl (lv_at hl 1 rfl) ?_
      refine lv_iload F.1 F.2.1 d_Tx_append_52 (lv_at hl 2 rfl) ?_
      refine fx_c w hno hlk (fx_rS (As := [.long (Int64.ofInt a1), .int (Int32.ofInt v4)]) (rest := [.int (Int32.ofInt (M 2 1)), .ref (ad 3)]) F w (met_Tx_byteAt l hst9 D ad cA n0 M a1 v4 _ thr hw) e_Tx_byteAt kt_Tx_byteAt k_360 rfl hl.1 rfl (Nat.le_of_ble_eq_true rfl) ⟨⟨Nat.le_of_ble_eq_true rfl, Nat.le_of_ble_eq_true rfl⟩, Nat.le_of_ble_eq_true rfl, Nat.le_of_ble_eq_true rfl⟩ d_Tx_append_54) (fun r21 M20 hw H locs w => ?_)
      show W p l e _ s m _ below meth c H locs 0 0 _ (F0 m 57 ls [.int (Int32.ofInt r21), .int (Int32.ofInt (M 2 1)), .ref (ad 3)])
      refine fi_i2c F d_Tx_append_57 ?_
      obtain ⟨h22, hw⟩ := hw
      obtain ⟨h23, hw⟩ := hw
      refine fm_sC F w 3 T_3 (by decide) h22 h23 d_Tx_append_58 (fun M24 hM24 H locs w => ?_)
      have hw := hw M24 hM24
      refine lv_aload_n F.1 F.2.1 d_Tx_append_59 rfl (lv_at hl 0 rfl) ?_
      refine lv_dup F.1 F.2.1 d_Tx_append_60 rfl ?_
      refine fm_gI F w cl_Tx 2 1 T_2 (by decide) rfl k_44 d_Tx_append_61 ?_
      refine lv_iconst (v := Int32.ofInt 1) F.1 F.2.1 d_Tx_append_64 (by decide) ?_
      refine fi_iadd F d_Tx_append_65 ?_
      refine fm_pI F w cl_Tx 2 1 T_2 (by decide) rfl k_44 rfl rfl d_Tx_append_66 (fun M25 hM25 H locs w => ?_)
      have hw := hw M25 hM25
      refine fi_iinc (k := 2) (v := (v4 + (-1))) F d_Tx_append_69 hl rfl rfl (by decide) rfl (fun ls hl => ?_)
      have hl : lv_has ls 5 [(4, .int (Int32.ofInt (v4 + (-1)))), (0, .ref (ad 2)), (1, .long (Int64.ofInt a1))] := hl
      refine lv_goto F.1 F.2.1 d_Tx_append_72 (tgt := 38) (by decide) ?_
      exact hJ_38 M25 (v4 + (-1)) hw H locs ls w (lv_sub hl [1, 2, 0] rfl)
  have blk_38 : ∀ (M : fm_M) (v4 : Int), B_Tx_append_38 a1 a3 post thr M v4 → fx_G p l e { frames := 2, cells := 1, slots := 6, locals := 46 } s m ([.ref (ad 2), .long (Int64.ofInt a1), .int (Int32.ofInt a3)] : List Value).toArray below meth c D ad cA n0 0 post thr 5 M [(0, .ref (ad 2)), (1, .long (Int64.ofInt a1)), (4, .int (Int32.ofInt v4))] 38 [] := by
    intro M v4 hw
    obtain ⟨I, μ, hI, hB⟩ := hw
    have key : ∀ (q : Nat) (M : fm_M) (v4 : Int), μ M v4 < q → I M v4 → fx_G p l e { frames := 2, cells := 1, slots := 6, locals := 46 } s m ([.ref (ad 2), .long (Int64.ofInt a1), .int (Int32.ofInt a3)] : List Value).toArray below meth c D ad cA n0 0 post thr 5 M [(0, .ref (ad 2)), (1, .long (Int64.ofInt a1)), (4, .int (Int32.ofInt v4))] 38 [] := by
      intro q
      induction q with
      | zero => intro M v4 h _; exact absurd h (Nat.not_lt_zero _)
      | succ q ih =>
        intro M v4 hμ hI
        exact blc_38 (fun M' v4' => I M' v4' ∧ μ M' v4' < μ M v4) M v4 (hB M v4 hI) (fun M' v4' hh => ih M' v4' (Nat.lt_of_lt_of_le hh.2 (Nat.le_of_lt_succ hμ)) hh.1)
    exact key _ M v4 (Nat.lt_succ_self _) hI
  have hl : lv_has ls 5 [(0, .ref (ad 2)), (1, .long (Int64.ofInt a1)), (3, .int (Int32.ofInt a3))] := hl
  suffices h9 : fx_G p l e { frames := 2, cells := 1, slots := 6, locals := 46 } s m ([.ref (ad 2), .long (Int64.ofInt a1), .int (Int32.ofInt a3)] : List Value).toArray below meth c D ad cA n0 0 post thr 5 M [(0, .ref (ad 2)), (1, .long (Int64.ofInt a1)), (3, .int (Int32.ofInt a3))] 0 [] from h9 _ _ _ w hl
  intro H locs ls w hl
  refine lv_iload_n F.1 F.2.1 d_Tx_append_0 rfl (lv_at hl 2 rfl) ?_
  refine lv_iconst (v := Int32.ofInt 1) F.1 F.2.1 d_Tx_append_1 (by decide) ?_
  obtain ⟨h26, hw⟩ := hw
  refine fi_icmp_lt F d_Tx_append_2 (tgt := 31) (by decide) h26 (rgl (by decide)) (fun hc27 => ?_) (fun hc27 => ?_)
  · have hw := hw.1 hc27
    refine lv_iconst (v := Int32.ofInt (-1)) F.1 F.2.1 d_Tx_append_31 (by decide) ?_
    exact fx_iret F w hr hlk hw d_Tx_append_32
  · have hw := hw.2 hc27
    refine lv_iload_n F.1 F.2.1 d_Tx_append_5 rfl (lv_at hl 2 rfl) ?_
    refine lv_bipush (v := Int32.ofInt 8) F.1 F.2.1 d_Tx_append_6 (by decide) ?_
    refine fi_icmp_gt F d_Tx_append_8 (tgt := 31) (by decide) h26 (rgl (by decide)) (fun hc28 => ?_) (fun hc28 => ?_)
    · have hw := hw.1 hc28
      refine lv_iconst (v := Int32.ofInt (-1)) F.1 F.2.1 d_Tx_append_31 (by decide) ?_
      exact fx_iret F w hr hlk hw d_Tx_append_32
    · have hw := hw.2 hc28
      refine lv_aload_n F.1 F.2.1 d_Tx_append_11 rfl (lv_at hl 0 rfl) ?_
      refine fm_gI F w cl_Tx 2 1 T_2 (by decide) rfl k_44 d_Tx_append_12 ?_
      refine lv_iload_n F.1 F.2.1 d_Tx_append_15 rfl (lv_at hl 2 rfl) ?_
      refine fi_iadd F d_Tx_append_16 ?_
      refine lv_sipush (v := Int32.ofInt 200) F.1 F.2.1 d_Tx_append_17 (by decide) ?_
      obtain ⟨h29, hw⟩ := hw
      refine fi_icmp_gt F d_Tx_append_20 (tgt := 31) (by decide) h29 (rgl (by decide)) (fun hc30 => ?_) (fun hc30 => ?_)
      · have hw := hw.1 hc30
        refine lv_iconst (v := Int32.ofInt (-1)) F.1 F.2.1 d_Tx_append_31 (by decide) ?_
        exact fx_iret F w hr hlk hw d_Tx_append_32
      · have hw := hw.2 hc30
        refine lv_lload_n F.1 F.2.1 d_Tx_append_23 rfl (lv_at hl 1 rfl) ?_
        refine lv_iload_n F.1 F.2.1 d_Tx_append_24 rfl (lv_at hl 2 rfl) ?_
        refine fx_c w hno hlk (fx_rS (As := [.long (Int64.ofInt a1), .int (Int32.ofInt a3)]) (rest := []) F w (met_Tx_areTypeable l hst9 D ad cA n0 M a1 a3 _ thr hw) e_Tx_areTypeable kt_Tx_areTypeable k_357 rfl hl.1 rfl (Nat.le_of_ble_eq_true rfl) ⟨⟨Nat.le_of_ble_eq_true rfl, Nat.le_of_ble_eq_true rfl⟩, Nat.le_of_ble_eq_true rfl, Nat.le_of_ble_eq_true rfl⟩ d_Tx_append_25) (fun r32 M31 hw H locs w => ?_)
        show W p l e _ s m _ below meth c H locs 0 0 _ (F0 m 28 ls [.int (Int32.ofInt r32)])
        obtain ⟨h33, hw⟩ := hw
        refine fi_if_ne F d_Tx_append_28 (tgt := 33) (by decide) h33 (fun hc34 => ?_) (fun hc34 => ?_)
        · have hw := hw.1 hc34
          refine lv_iload_n F.1 F.2.1 d_Tx_append_33 rfl (lv_at hl 2 rfl) ?_
          refine lv_iconst (v := Int32.ofInt 1) F.1 F.2.1 d_Tx_append_34 (by decide) ?_
          refine fi_isub F d_Tx_append_35 ?_
          refine lv_istore F.1 F.2.1 d_Tx_append_36 hl (by decide) rfl (fun ls hl => ?_)
          have hl : lv_has ls 5 [(4, .int (Int32.ofInt (a3 - 1))), (0, .ref (ad 2)), (1, .long (Int64.ofInt a1)), (3, .int (Int32.ofInt a3))] := hl
          exact blk_38 M31 (a3 - 1) hw H locs ls w (lv_sub hl [1, 2, 0] rfl)
        · have hw := hw.2 hc34
          refine lv_iconst (v := Int32.ofInt (-1)) F.1 F.2.1 d_Tx_append_31 (by decide) ?_
          exact fx_iret F w hr hlk hw d_Tx_append_32
set_option maxHeartbeats 4000000 in
set_option maxRecDepth 100000 in
theorem met_CG_type (l : Launch) (hst9 : l.stackTraces = false) (D : va_G) (ad : Nat → Nat) (cA : Nat → ClassId) (n0 : Nat) (M : fm_M) (a1 : Int) (a3 : Int) (post : Int → fm_M → Prop) (thr : String → fm_M → Prop) (hw : wp_CG_type M a1 a3 post thr) : fx_Met l y_CG_type (Cond.code y_CG_type b_CG_type 4 (some .int) :: tb) { frames := 3, cells := 1, slots := 6, locals := 70 } [.ref (ad 0), .long (Int64.ofInt a1), .int (Int32.ofInt a3)] D ad cA n0 M 0 post thr := by
  refine fx_met (by decide) (Nat.le_of_ble_eq_true rfl) (fun p e s m below meth c ls F w hno hr hlk hl => ?_)
  have hl : lv_has ls 4 [(0, .ref (ad 0)), (1, .long (Int64.ofInt a1)), (3, .int (Int32.ofInt a3))] := hl
  suffices h9 : fx_G p l e { frames := 3, cells := 1, slots := 6, locals := 70 } s m ([.ref (ad 0), .long (Int64.ofInt a1), .int (Int32.ofInt a3)] : List Value).toArray below meth c D ad cA n0 0 post thr 4 M [(0, .ref (ad 0)), (1, .long (Int64.ofInt a1)), (3, .int (Int32.ofInt a3))] 0 [] from h9 _ _ _ w hl
  intro H locs ls w hl
  refine lv_aload_n F.1 F.2.1 d_CG_type_0 rfl (lv_at hl 0 rfl) ?_
  refine fm_gO F w cl_CG 0 1 2 T_0 (by decide) rfl rfl k_328 d_CG_type_1 ?_
  refine lv_lload_n F.1 F.2.1 d_CG_type_4 rfl (lv_at hl 1 rfl) ?_
  refine lv_iload_n F.1 F.2.1 d_CG_type_5 rfl (lv_at hl 2 rfl) ?_
  refine fx_c w hno hlk (fx_rV (As := [.long (Int64.ofInt a1), .int (Int32.ofInt a3)]) (rest := []) F w cl_Tx 2 T_2 (met_Tx_append l hst9 D ad cA n0 M a1 a3 _ thr hw) e_Tx_append ki_Tx_append ks_Tx_append k_353 rfl hl.1 rfl (Nat.le_of_ble_eq_true rfl) ⟨⟨Nat.le_of_ble_eq_true rfl, Nat.le_of_ble_eq_true rfl⟩, Nat.le_of_ble_eq_true rfl, Nat.le_of_ble_eq_true rfl⟩ d_CG_type_6) (fun r4 M3 hw H locs w => ?_)
  show W p l e _ s m _ below meth c H locs 0 0 _ (F0 m 9 ls [.int (Int32.ofInt r4)])
  exact fx_iret F w hr hlk hw d_CG_type_9
set_option maxHeartbeats 4000000 in
set_option maxRecDepth 100000 in
theorem met_Tx_clear (l : Launch) (hst9 : l.stackTraces = false) (D : va_G) (ad : Nat → Nat) (cA : Nat → ClassId) (n0 : Nat) (M : fm_M) (post : Int → fm_M → Prop) (thr : String → fm_M → Prop) (hw : wp_Tx_clear M post thr) : fx_Met l y_Tx_clear (Cond.code y_Tx_clear b_Tx_clear 2 (some .int) :: tb) { frames := 0, cells := 1, slots := 6, locals := 0 } [.ref (ad 2)] D ad cA n0 M 0 post thr := by
  refine fx_met (by decide) (Nat.le_of_ble_eq_true rfl) (fun p e s m below meth c ls F w hno hr hlk hl => ?_)
  have hl : lv_has ls 2 [(0, .ref (ad 2))] := hl
  suffices h9 : fx_G p l e { frames := 0, cells := 1, slots := 6, locals := 0 } s m ([.ref (ad 2)] : List Value).toArray below meth c D ad cA n0 0 post thr 2 M [(0, .ref (ad 2))] 0 [] from h9 _ _ _ w hl
  intro H locs ls w hl
  refine lv_aload_n F.1 F.2.1 d_Tx_clear_0 rfl (lv_at hl 0 rfl) ?_
  refine fm_gI F w cl_Tx 2 1 T_2 (by decide) rfl k_44 d_Tx_clear_1 ?_
  refine lv_istore_n F.1 F.2.1 d_Tx_clear_4 rfl hl (by decide) rfl (fun ls hl => ?_)
  have hl : lv_has ls 2 [(1, .int (Int32.ofInt (M 2 1))), (0, .ref (ad 2))] := hl
  refine lv_aload_n F.1 F.2.1 d_Tx_clear_5 rfl (lv_at hl 1 rfl) ?_
  refine lv_iconst (v := Int32.ofInt 0) F.1 F.2.1 d_Tx_clear_6 (by decide) ?_
  refine fm_pI F w cl_Tx 2 1 T_2 (by decide) rfl k_44 rfl rfl d_Tx_clear_7 (fun M2 hM2 H locs w => ?_)
  have hw := hw M2 hM2
  refine lv_iload_n F.1 F.2.1 d_Tx_clear_10 rfl (lv_at hl 0 rfl) ?_
  exact fx_iret F w hr hlk hw d_Tx_clear_11
set_option maxHeartbeats 4000000 in
set_option maxRecDepth 100000 in
theorem met_CG_wipe (l : Launch) (hst9 : l.stackTraces = false) (D : va_G) (ad : Nat → Nat) (cA : Nat → ClassId) (n0 : Nat) (M : fm_M) (post : Int → fm_M → Prop) (thr : String → fm_M → Prop) (hw : wp_CG_wipe M post thr) : fx_Met l y_CG_wipe (Cond.code y_CG_wipe b_CG_wipe 1 (some .int) :: tb) { frames := 1, cells := 1, slots := 6, locals := 21 } [.ref (ad 0)] D ad cA n0 M 0 post thr := by
  refine fx_met (by decide) (Nat.le_of_ble_eq_true rfl) (fun p e s m below meth c ls F w hno hr hlk hl => ?_)
  have hl : lv_has ls 1 [(0, .ref (ad 0))] := hl
  suffices h9 : fx_G p l e { frames := 1, cells := 1, slots := 6, locals := 21 } s m ([.ref (ad 0)] : List Value).toArray below meth c D ad cA n0 0 post thr 1 M [(0, .ref (ad 0))] 0 [] from h9 _ _ _ w hl
  intro H locs ls w hl
  refine lv_aload_n F.1 F.2.1 d_CG_wipe_0 rfl (lv_at hl 0 rfl) ?_
  refine fm_gO F w cl_CG 0 1 2 T_0 (by decide) rfl rfl k_328 d_CG_wipe_1 ?_
  refine fx_c w hno hlk (fx_rV (As := []) (rest := []) F w cl_Tx 2 T_2 (met_Tx_clear l hst9 D ad cA n0 M _ thr hw) e_Tx_clear ki_Tx_clear ks_Tx_clear k_367 rfl hl.1 rfl (Nat.le_of_ble_eq_true rfl) ⟨⟨Nat.le_of_ble_eq_true rfl, Nat.le_of_ble_eq_true rfl⟩, Nat.le_of_ble_eq_true rfl, Nat.le_of_ble_eq_true rfl⟩ d_CG_wipe_4) (fun r4 M3 hw H locs w => ?_)
  show W p l e _ s m _ below meth c H locs 0 0 _ (F0 m 7 ls [.int (Int32.ofInt r4)])
  exact fx_iret F w hr hlk hw d_CG_wipe_7
set_option maxHeartbeats 4000000 in
set_option maxRecDepth 100000 in
theorem met_Gm_clear (l : Launch) (hst9 : l.stackTraces = false) (D : va_G) (ad : Nat → Nat) (cA : Nat → ClassId) (n0 : Nat) (M : fm_M) (k0 : Nat) (post : Int → fm_M → Prop) (thr : String → fm_M → Prop) (hw : wp_Gm_clear M k0 post thr) : fx_Met l y_Gm_clear (Cond.code y_Gm_clear b_Gm_clear 2 none :: tb) { frames := 0, cells := 1, slots := 6, locals := 0 } [.ref (ad k0)] D ad cA n0 M 3 post thr := by
  refine fx_met (by decide) (Nat.le_of_ble_eq_true rfl) (fun p e s m below meth c ls F w hno hr hlk hl => ?_)
  have blc_2 : ∀ (J_2 : (fm_M → Int → Prop)) (M : fm_M) (v1 : Int), C_Gm_clear_2 k0 post thr J_2 M v1 → (∀ (M : fm_M) (v1 : Int), J_2 M v1 → fx_G p l e { frames := 0, cells := 1, slots := 6, locals := 0 } s m ([.ref (ad k0)] : List Value).toArray below meth c D ad cA n0 3 post thr 2 M [(0, .ref (ad k0)), (1, .int (Int32.ofInt v1))] 2 []) → fx_G p l e { frames := 0, cells := 1, slots := 6, locals := 0 } s m ([.ref (ad k0)] : List Value).toArray below meth c D ad cA n0 3 post thr 2 M [(0, .ref (ad k0)), (1, .int (Int32.ofInt v1))] 2 [] := by
    intro J_2 M v1 hw hJ_2 H locs ls w hl
    refine lv_iload_n F.1 F.2.1 d_Gm_clear_2 rfl (lv_at hl 1 rfl) ?_
    refine lv_iconst (v := Int32.ofInt 3) F.1 F.2.1 d_Gm_clear_3 (by decide) ?_
    obtain ⟨h16, hw⟩ := hw
    refine fi_icmp_ge F d_Gm_clear_4 (tgt := 27) (by decide) h16 (rgl (by decide)) (fun hc17 => ?_) (fun hc17 => ?_)
    · have hw := hw.1 hc17
      refine lv_aload_n F.1 F.2.1 d_Gm_clear_27 rfl (lv_at hl 0 rfl) ?_
      refine lv_iconst (v := Int32.ofInt 0) F.1 F.2.1 d_Gm_clear_28 (by decide) ?_
      obtain ⟨h18, hw⟩ := hw
      refine fm_pI F w cl_Gm k0 4 h18 (by decide) rfl k_149 rfl rfl d_Gm_clear_29 (fun M19 hM19 H locs w => ?_)
      have hw := hw M19 hM19
      exact fx_vret F w hr hlk hw d_Gm_clear_32
    · have hw := hw.2 hc17
      refine lv_aload_n F.1 F.2.1 d_Gm_clear_7 rfl (lv_at hl 0 rfl) ?_
      obtain ⟨h20, hw⟩ := hw
      refine fm_gO F w cl_Gm k0 0 (k0 + 1) h20 (by decide) rfl rfl k_136 d_Gm_clear_8 ?_
      refine lv_iload_n F.1 F.2.1 d_Gm_clear_11 rfl (lv_at hl 1 rfl) ?_
      refine lv_iconst (v := Int32.ofInt 0) F.1 F.2.1 d_Gm_clear_12 (by decide) ?_
      obtain ⟨h21, hw⟩ := hw
      obtain ⟨h22, hw⟩ := hw
      refine fm_sI F w (k0 + 1) h21 (by decide) h22  d_Gm_clear_13 (fun M23 hM23 H locs w => ?_)
      have hw := hw M23 hM23
      refine lv_aload_n F.1 F.2.1 d_Gm_clear_14 rfl (lv_at hl 0 rfl) ?_
      refine fm_gO F w cl_Gm k0 1 (k0 + 2) h20 (by decide) rfl rfl k_138 d_Gm_clear_15 ?_
      refine lv_iload_n F.1 F.2.1 d_Gm_clear_18 rfl (lv_at hl 1 rfl) ?_
      refine lv_iconst (v := Int32.ofInt 0) F.1 F.2.1 d_Gm_clear_19 (by decide) ?_
      obtain ⟨h24, hw⟩ := hw
      refine fm_sI F w (k0 + 2) h24 (by decide) h22  d_Gm_clear_20 (fun M25 hM25 H locs w => ?_)
      have hw := hw M25 hM25
      refine fi_iinc (k := 1) (v := (v1 + 1)) F d_Gm_clear_21 hl rfl rfl (by decide) rfl (fun ls hl => ?_)
      have hl : lv_has ls 2 [(1, .int (Int32.ofInt (v1 + 1))), (0, .ref (ad k0))] := hl
      refine lv_goto F.1 F.2.1 d_Gm_clear_24 (tgt := 2) (by decide) ?_
      exact hJ_2 M25 (v1 + 1) hw H locs ls w (lv_sub hl [1, 0] rfl)
  have blk_2 : ∀ (M : fm_M) (v1 : Int), B_Gm_clear_2 k0 post thr M v1 → fx_G p l e { frames := 0, cells := 1, slots := 6, locals := 0 } s m ([.ref (ad k0)] : List Value).toArray below meth c D ad cA n0 3 post thr 2 M [(0, .ref (ad k0)), (1, .int (Int32.ofInt v1))] 2 [] := by
    intro M v1 hw
    obtain ⟨I, μ, hI, hB⟩ := hw
    have key : ∀ (q : Nat) (M : fm_M) (v1 : Int), μ M v1 < q → I M v1 → fx_G p l e { frames := 0, cells := 1, slots := 6, locals := 0 } s m ([.ref (ad k0)] : List Value).toArray below meth c D ad cA n0 3 post thr 2 M [(0, .ref (ad k0)), (1, .int (Int32.ofInt v1))] 2 [] := by
      intro q
      induction q with
      | zero => intro M v1 h _; exact absurd h (Nat.not_lt_zero _)
      | succ q ih =>
        intro M v1 hμ hI
        exact blc_2 (fun M' v1' => I M' v1' ∧ μ M' v1' < μ M v1) M v1 (hB M v1 hI) (fun M' v1' hh => ih M' v1' (Nat.lt_of_lt_of_le hh.2 (Nat.le_of_lt_succ hμ)) hh.1)
    exact key _ M v1 (Nat.lt_succ_self _) hI
  have hl : lv_has ls 2 [(0, .ref (ad k0))] := hl
  suffices h9 : fx_G p l e { frames := 0, cells := 1, slots := 6, locals := 0 } s m ([.ref (ad k0)] : List Value).toArray below meth c D ad cA n0 3 post thr 2 M [(0, .ref (ad k0))] 0 [] from h9 _ _ _ w hl
  intro H locs ls w hl
  refine lv_iconst (v := Int32.ofInt 0) F.1 F.2.1 d_Gm_clear_0 (by decide) ?_
  refine lv_istore_n F.1 F.2.1 d_Gm_clear_1 rfl hl (by decide) rfl (fun ls hl => ?_)
  have hl : lv_has ls 2 [(1, .int (Int32.ofInt 0)), (0, .ref (ad k0))] := hl
  exact blk_2 M 0 hw H locs ls w (lv_sub hl [1, 0] rfl)
set_option maxHeartbeats 4000000 in
set_option maxRecDepth 100000 in
theorem met_Rd_here (l : Launch) (hst9 : l.stackTraces = false) (D : va_G) (ad : Nat → Nat) (cA : Nat → ClassId) (n0 : Nat) (M : fm_M) (post : Int → fm_M → Prop) (thr : String → fm_M → Prop) (hw : wp_Rd_here M post thr) : fx_Met l y_Rd_here (Cond.code y_Rd_here b_Rd_here 1 (some .char) :: tb) { frames := 0, cells := 1, slots := 6, locals := 0 } [.ref (ad 1)] D ad cA n0 M 0 post thr := by
  refine fx_met (by decide) (Nat.le_of_ble_eq_true rfl) (fun p e s m below meth c ls F w hno hr hlk hl => ?_)
  have hl : lv_has ls 1 [(0, .ref (ad 1))] := hl
  suffices h9 : fx_G p l e { frames := 0, cells := 1, slots := 6, locals := 0 } s m ([.ref (ad 1)] : List Value).toArray below meth c D ad cA n0 0 post thr 1 M [(0, .ref (ad 1))] 0 [] from h9 _ _ _ w hl
  intro H locs ls w hl
  refine lv_aload_n F.1 F.2.1 d_Rd_here_0 rfl (lv_at hl 0 rfl) ?_
  refine fm_gI F w cl_Rd 1 2 T_1 (by decide) rfl k_170 d_Rd_here_1 ?_
  refine lv_aload_n F.1 F.2.1 d_Rd_here_4 rfl (lv_at hl 0 rfl) ?_
  refine fm_gO F w cl_Rd 1 0 2 T_1 (by decide) rfl rfl k_167 d_Rd_here_5 ?_
  refine fm_gI F w cl_Tx 2 1 T_2 (by decide) rfl k_45 d_Rd_here_8 ?_
  obtain ⟨h6, hw⟩ := hw
  obtain ⟨h7, hw⟩ := hw
  refine fi_icmp_ge F d_Rd_here_11 (tgt := 29) (by decide) h6 h7 (fun hc8 => ?_) (fun hc8 => ?_)
  · have hw := hw.1 hc8
    refine lv_iconst (v := Int32.ofInt 0) F.1 F.2.1 d_Rd_here_29 (by decide) ?_
    exact fx_zret F w hr hlk (fx_nc (by decide)) hw d_Rd_here_30
  · have hw := hw.2 hc8
    refine lv_aload_n F.1 F.2.1 d_Rd_here_14 rfl (lv_at hl 0 rfl) ?_
    refine fm_gO F w cl_Rd 1 0 2 T_1 (by decide) rfl rfl k_167 d_Rd_here_15 ?_
    refine fm_gO F w cl_Tx 2 0 3 T_2 (by decide) rfl rfl k_43 d_Rd_here_18 ?_
    refine lv_aload_n F.1 F.2.1 d_Rd_here_21 rfl (lv_at hl 0 rfl) ?_
    refine fm_gI F w cl_Rd 1 2 T_1 (by decide) rfl k_170 d_Rd_here_22 ?_
    obtain ⟨h9, hw⟩ := hw
    refine fm_aC F w 3 T_3 (by decide) h9 d_Rd_here_25 ?_
    refine lv_goto F.1 F.2.1 d_Rd_here_26 (tgt := 30) (by decide) ?_
    obtain ⟨h10, hw⟩ := hw
    exact fx_zret F w hr hlk (fx_nc h10) hw d_Rd_here_30
set_option maxHeartbeats 4000000 in
set_option maxRecDepth 100000 in
theorem met_Rd_isName (l : Launch) (hst9 : l.stackTraces = false) (D : va_G) (ad : Nat → Nat) (cA : Nat → ClassId) (n0 : Nat) (M : fm_M) (a0 : Int) (post : Int → fm_M → Prop) (thr : String → fm_M → Prop) (hw : wp_Rd_isName M a0 post thr) : fx_Met l y_Rd_isName (Cond.code y_Rd_isName b_Rd_isName 1 (some .boolean) :: tb) { frames := 0, cells := 1, slots := 6, locals := 0 } [.int (Int32.ofInt a0)] D ad cA n0 M 0 post thr := by
  refine fx_met (by decide) (Nat.le_of_ble_eq_true rfl) (fun p e s m below meth c ls F w hno hr hlk hl => ?_)
  have hl : lv_has ls 1 [(0, .int (Int32.ofInt a0))] := hl
  suffices h9 : fx_G p l e { frames := 0, cells := 1, slots := 6, locals := 0 } s m ([.int (Int32.ofInt a0)] : List Value).toArray below meth c D ad cA n0 0 post thr 1 M [(0, .int (Int32.ofInt a0))] 0 [] from h9 _ _ _ w hl
  intro H locs ls w hl
  refine lv_iload_n F.1 F.2.1 d_Rd_isName_0 rfl (lv_at hl 0 rfl) ?_
  refine lv_bipush (v := Int32.ofInt 97) F.1 F.2.1 d_Rd_isName_1 (by decide) ?_
  obtain ⟨h4, hw⟩ := hw
  refine fi_icmp_lt F d_Rd_isName_3 (tgt := 16) (by decide) h4 (rgl (by decide)) (fun hc5 => ?_) (fun hc5 => ?_)
  · have hw := hw.1 hc5
    refine lv_iconst (v := Int32.ofInt 0) F.1 F.2.1 d_Rd_isName_16 (by decide) ?_
    exact fx_zret F w hr hlk (fx_nz (by decide)) hw d_Rd_isName_17
  · have hw := hw.2 hc5
    refine lv_iload_n F.1 F.2.1 d_Rd_isName_6 rfl (lv_at hl 0 rfl) ?_
    refine lv_bipush (v := Int32.ofInt 100) F.1 F.2.1 d_Rd_isName_7 (by decide) ?_
    refine fi_icmp_ge F d_Rd_isName_9 (tgt := 16) (by decide) h4 (rgl (by decide)) (fun hc6 => ?_) (fun hc6 => ?_)
    · have hw := hw.1 hc6
      refine lv_iconst (v := Int32.ofInt 0) F.1 F.2.1 d_Rd_isName_16 (by decide) ?_
      exact fx_zret F w hr hlk (fx_nz (by decide)) hw d_Rd_isName_17
    · have hw := hw.2 hc6
      refine lv_iconst (v := Int32.ofInt 1) F.1 F.2.1 d_Rd_isName_12 (by decide) ?_
      refine lv_goto F.1 F.2.1 d_Rd_isName_13 (tgt := 17) (by decide) ?_
      exact fx_zret F w hr hlk (fx_nz (by decide)) hw d_Rd_isName_17
set_option maxHeartbeats 4000000 in
set_option maxRecDepth 100000 in
theorem met_Gm_hasVariable (l : Launch) (hst9 : l.stackTraces = false) (D : va_G) (ad : Nat → Nat) (cA : Nat → ClassId) (n0 : Nat) (M : fm_M) (k0 : Nat) (a1 : Int) (post : Int → fm_M → Prop) (thr : String → fm_M → Prop) (hw : wp_Gm_hasVariable M k0 a1 post thr) : fx_Met l y_Gm_hasVariable (Cond.code y_Gm_hasVariable b_Gm_hasVariable 2 (some .boolean) :: tb) { frames := 0, cells := 1, slots := 6, locals := 0 } [.ref (ad k0), .int (Int32.ofInt a1)] D ad cA n0 M 0 post thr := by
  refine fx_met (by decide) (Nat.le_of_ble_eq_true rfl) (fun p e s m below meth c ls F w hno hr hlk hl => ?_)
  have hl : lv_has ls 2 [(0, .ref (ad k0)), (1, .int (Int32.ofInt a1))] := hl
  suffices h9 : fx_G p l e { frames := 0, cells := 1, slots := 6, locals := 0 } s m ([.ref (ad k0), .int (Int32.ofInt a1)] : List Value).toArray below meth c D ad cA n0 0 post thr 2 M [(0, .ref (ad k0)), (1, .int (Int32.ofInt a1))] 0 [] from h9 _ _ _ w hl
  intro H locs ls w hl
  refine lv_aload_n F.1 F.2.1 d_Gm_hasVariable_0 rfl (lv_at hl 0 rfl) ?_
  obtain ⟨h6, hw⟩ := hw
  refine fm_gO F w cl_Gm k0 0 (k0 + 1) h6 (by decide) rfl rfl k_136 d_Gm_hasVariable_1 ?_
  refine lv_iload_n F.1 F.2.1 d_Gm_hasVariable_4 rfl (lv_at hl 1 rfl) ?_
  obtain ⟨h7, hw⟩ := hw
  obtain ⟨h8, hw⟩ := hw
  refine fm_aI F w (k0 + 1) h7 (by decide) h8 d_Gm_hasVariable_5 ?_
  obtain ⟨h9, hw⟩ := hw
  refine fi_if_le F d_Gm_hasVariable_6 (tgt := 13) (by decide) h9 (fun hc10 => ?_) (fun hc10 => ?_)
  · have hw := hw.1 hc10
    refine lv_iconst (v := Int32.ofInt 0) F.1 F.2.1 d_Gm_hasVariable_13 (by decide) ?_
    exact fx_zret F w hr hlk (fx_nz (by decide)) hw d_Gm_hasVariable_14
  · have hw := hw.2 hc10
    refine lv_iconst (v := Int32.ofInt 1) F.1 F.2.1 d_Gm_hasVariable_9 (by decide) ?_
    refine lv_goto F.1 F.2.1 d_Gm_hasVariable_10 (tgt := 14) (by decide) ?_
    exact fx_zret F w hr hlk (fx_nz (by decide)) hw d_Gm_hasVariable_14
set_option maxHeartbeats 4000000 in
set_option maxRecDepth 100000 in
theorem met_Rd_refuse (l : Launch) (hst9 : l.stackTraces = false) (D : va_G) (ad : Nat → Nat) (cA : Nat → ClassId) (n0 : Nat) (M : fm_M) (a1 : Int) (post : Int → fm_M → Prop) (thr : String → fm_M → Prop) (hw : wp_Rd_refuse M a1 post thr) : fx_Met l y_Rd_refuse (Cond.code y_Rd_refuse b_Rd_refuse 2 none :: tb) { frames := 6, cells := 1, slots := 6, locals := 82 } [.ref (ad 1), .int (Int32.ofInt a1)] D ad cA n0 M 3 post thr := by
  refine fx_met (by decide) (Nat.le_of_ble_eq_true rfl) (fun p e s m below meth c ls F w hno hr hlk hl => ?_)
  have hl : lv_has ls 2 [(0, .ref (ad 1)), (1, .int (Int32.ofInt a1))] := hl
  suffices h9 : fx_G p l e { frames := 6, cells := 1, slots := 6, locals := 82 } s m ([.ref (ad 1), .int (Int32.ofInt a1)] : List Value).toArray below meth c D ad cA n0 3 post thr 2 M [(0, .ref (ad 1)), (1, .int (Int32.ofInt a1))] 0 [] from h9 _ _ _ w hl
  intro H locs ls w hl
  refine lv_aload_n F.1 F.2.1 d_Rd_refuse_0 rfl (lv_at hl 0 rfl) ?_
  refine lv_iload_n F.1 F.2.1 d_Rd_refuse_1 rfl (lv_at hl 1 rfl) ?_
  refine fm_pI F w cl_Rd 1 3 T_1 (by decide) rfl k_171 rfl rfl d_Rd_refuse_2 (fun M2 hM2 H locs w => ?_)
  have hw := hw M2 hM2
  exact fx_thr (E := "java/lang/IllegalArgumentException") (names := ["java/lang/RuntimeException", "java/lang/Exception"]) F w hlk hno hst9 k_458 k_459 k_17 k_499 (by decide +kernel) (by decide +kernel) at_Rd_162 hl.1 (Nat.le_of_ble_eq_true rfl) (Nat.le_of_ble_eq_true rfl) (Nat.le_of_ble_eq_true rfl) (Nat.le_of_ble_eq_true rfl) hw d_Rd_refuse_5 d_Rd_refuse_8 d_Rd_refuse_9 d_Rd_refuse_11 d_Rd_refuse_14
set_option maxHeartbeats 4000000 in
set_option maxRecDepth 100000 in
theorem met_Rd_isDigit (l : Launch) (hst9 : l.stackTraces = false) (D : va_G) (ad : Nat → Nat) (cA : Nat → ClassId) (n0 : Nat) (M : fm_M) (a0 : Int) (post : Int → fm_M → Prop) (thr : String → fm_M → Prop) (hw : wp_Rd_isDigit M a0 post thr) : fx_Met l y_Rd_isDigit (Cond.code y_Rd_isDigit b_Rd_isDigit 1 (some .boolean) :: tb) { frames := 0, cells := 1, slots := 6, locals := 0 } [.int (Int32.ofInt a0)] D ad cA n0 M 0 post thr := by
  refine fx_met (by decide) (Nat.le_of_ble_eq_true rfl) (fun p e s m below meth c ls F w hno hr hlk hl => ?_)
  have hl : lv_has ls 1 [(0, .int (Int32.ofInt a0))] := hl
  suffices h9 : fx_G p l e { frames := 0, cells := 1, slots := 6, locals := 0 } s m ([.int (Int32.ofInt a0)] : List Value).toArray below meth c D ad cA n0 0 post thr 1 M [(0, .int (Int32.ofInt a0))] 0 [] from h9 _ _ _ w hl
  intro H locs ls w hl
  refine lv_iload_n F.1 F.2.1 d_Rd_isDigit_0 rfl (lv_at hl 0 rfl) ?_
  refine lv_bipush (v := Int32.ofInt 48) F.1 F.2.1 d_Rd_isDigit_1 (by decide) ?_
  obtain ⟨h4, hw⟩ := hw
  refine fi_icmp_lt F d_Rd_isDigit_3 (tgt := 16) (by decide) h4 (rgl (by decide)) (fun hc5 => ?_) (fun hc5 => ?_)
  · have hw := hw.1 hc5
    refine lv_iconst (v := Int32.ofInt 0) F.1 F.2.1 d_Rd_isDigit_16 (by decide) ?_
    exact fx_zret F w hr hlk (fx_nz (by decide)) hw d_Rd_isDigit_17
  · have hw := hw.2 hc5
    refine lv_iload_n F.1 F.2.1 d_Rd_isDigit_6 rfl (lv_at hl 0 rfl) ?_
    refine lv_bipush (v := Int32.ofInt 57) F.1 F.2.1 d_Rd_isDigit_7 (by decide) ?_
    refine fi_icmp_gt F d_Rd_isDigit_9 (tgt := 16) (by decide) h4 (rgl (by decide)) (fun hc6 => ?_) (fun hc6 => ?_)
    · have hw := hw.1 hc6
      refine lv_iconst (v := Int32.ofInt 0) F.1 F.2.1 d_Rd_isDigit_16 (by decide) ?_
      exact fx_zret F w hr hlk (fx_nz (by decide)) hw d_Rd_isDigit_17
    · have hw := hw.2 hc6
      refine lv_iconst (v := Int32.ofInt 1) F.1 F.2.1 d_Rd_isDigit_12 (by decide) ?_
      refine lv_goto F.1 F.2.1 d_Rd_isDigit_13 (tgt := 17) (by decide) ?_
      exact fx_zret F w hr hlk (fx_nz (by decide)) hw d_Rd_isDigit_17
set_option maxHeartbeats 4000000 in
set_option maxRecDepth 100000 in
theorem met_Rd_readNumber (l : Launch) (hst9 : l.stackTraces = false) (D : va_G) (ad : Nat → Nat) (cA : Nat → ClassId) (n0 : Nat) (M : fm_M) (a1 : Int) (a2 : Int) (post : Int → fm_M → Prop) (thr : String → fm_M → Prop) (hw : wp_Rd_readNumber M a1 a2 post thr) : fx_Met l y_Rd_readNumber (Cond.code y_Rd_readNumber b_Rd_readNumber 7 (some .int) :: tb) { frames := 7, cells := 1, slots := 6, locals := 103 } [.ref (ad 1), .int (Int32.ofInt a1), .int (Int32.ofInt a2)] D ad cA n0 M 0 post thr := by
  refine fx_met (by decide) (Nat.le_of_ble_eq_true rfl) (fun p e s m below meth c ls F w hno hr hlk hl => ?_)
  have blk_118 : ∀ (M : fm_M) (v3 : Int) (v4 : Int), B_Rd_readNumber_118 a1 a2 post thr M v3 v4 → fx_G p l e { frames := 7, cells := 1, slots := 6, locals := 103 } s m ([.ref (ad 1), .int (Int32.ofInt a1), .int (Int32.ofInt a2)] : List Value).toArray below meth c D ad cA n0 0 post thr 7 M [(0, .ref (ad 1)), (3, .int (Int32.ofInt v3)), (4, .int (Int32.ofInt v4))] 118 [] := by
    intro M v3 v4 hw H locs ls w hl
    refine lv_aload_n F.1 F.2.1 d_Rd_readNumber_118 rfl (lv_at hl 0 rfl) ?_
    refine lv_iload_n F.1 F.2.1 d_Rd_readNumber_119 rfl (lv_at hl 1 rfl) ?_
    refine fx_c w hno hlk (fx_rV (As := [.int (Int32.ofInt v3)]) (rest := []) F w cl_Rd 1 T_1 (met_Rd_refuse l hst9 D ad cA n0 M v3 _ thr hw) e_Rd_refuse ki_Rd_refuse ks_Rd_refuse k_454 rfl hl.1 rfl (Nat.le_of_ble_eq_true rfl) ⟨⟨Nat.le_of_ble_eq_true rfl, Nat.le_of_ble_eq_true rfl⟩, Nat.le_of_ble_eq_true rfl, Nat.le_of_ble_eq_true rfl⟩ d_Rd_readNumber_120) (fun r47 M46 hw H locs w => ?_)
    refine lv_iload F.1 F.2.1 d_Rd_readNumber_123 (lv_at hl 2 rfl) ?_
    exact fx_iret F w hr hlk hw d_Rd_readNumber_125
  have blk_99 : ∀ (M : fm_M) (v3 : Int) (v4 : Int) (s0 : Int), B_Rd_readNumber_99 a1 a2 post thr M v3 v4 s0 → fx_G p l e { frames := 7, cells := 1, slots := 6, locals := 103 } s m ([.ref (ad 1), .int (Int32.ofInt a1), .int (Int32.ofInt a2)] : List Value).toArray below meth c D ad cA n0 0 post thr 7 M [(0, .ref (ad 1)), (1, .int (Int32.ofInt a1)), (2, .int (Int32.ofInt a2)), (3, .int (Int32.ofInt v3)), (4, .int (Int32.ofInt v4))] 99 [.int (Int32.ofInt s0)] := by
    intro M v3 v4 s0 hw H locs ls w hl
    refine lv_istore F.1 F.2.1 d_Rd_readNumber_99 hl (by decide) rfl (fun ls hl => ?_)
    have hl : lv_has ls 7 [(6, .int (Int32.ofInt s0)), (0, .ref (ad 1)), (1, .int (Int32.ofInt a1)), (2, .int (Int32.ofInt a2)), (3, .int (Int32.ofInt v3)), (4, .int (Int32.ofInt v4))] := hl
    refine lv_iload F.1 F.2.1 d_Rd_readNumber_101 (lv_at hl 0 rfl) ?_
    obtain ⟨h48, hw⟩ := hw
    refine fi_if_eq F d_Rd_readNumber_103 (tgt := 118) (by decide) h48 (fun hc49 => ?_) (fun hc49 => ?_)
    · have hw := hw.1 hc49
      exact blk_118 M v3 v4 hw H locs ls w (lv_sub hl [1, 4, 5] rfl)
    · have hw := hw.2 hc49
      refine lv_iload F.1 F.2.1 d_Rd_readNumber_106 (lv_at hl 5 rfl) ?_
      refine lv_iload_n F.1 F.2.1 d_Rd_readNumber_108 rfl (lv_at hl 2 rfl) ?_
      obtain ⟨h50, hw⟩ := hw
      obtain ⟨h51, hw⟩ := hw
      refine fi_icmp_lt F d_Rd_readNumber_109 (tgt := 118) (by decide) h50 h51 (fun hc52 => ?_) (fun hc52 => ?_)
      · have hw := hw.1 hc52
        exact blk_118 M v3 v4 hw H locs ls w (lv_sub hl [1, 4, 5] rfl)
      · have hw := hw.2 hc52
        refine lv_iload F.1 F.2.1 d_Rd_readNumber_112 (lv_at hl 5 rfl) ?_
        refine lv_iload_n F.1 F.2.1 d_Rd_readNumber_114 rfl (lv_at hl 3 rfl) ?_
        obtain ⟨h53, hw⟩ := hw
        refine fi_icmp_le F d_Rd_readNumber_115 (tgt := 123) (by decide) h50 h53 (fun hc54 => ?_) (fun hc54 => ?_)
        · have hw := hw.1 hc54
          refine lv_iload F.1 F.2.1 d_Rd_readNumber_123 (lv_at hl 5 rfl) ?_
          exact fx_iret F w hr hlk hw d_Rd_readNumber_125
        · have hw := hw.2 hc54
          exact blk_118 M v3 v4 hw H locs ls w (lv_sub hl [1, 4, 5] rfl)
  have blk_94 : ∀ (M : fm_M) (v3 : Int) (v4 : Int), B_Rd_readNumber_94 a1 a2 post thr M v3 v4 → fx_G p l e { frames := 7, cells := 1, slots := 6, locals := 103 } s m ([.ref (ad 1), .int (Int32.ofInt a1), .int (Int32.ofInt a2)] : List Value).toArray below meth c D ad cA n0 0 post thr 7 M [(0, .ref (ad 1)), (1, .int (Int32.ofInt a1)), (2, .int (Int32.ofInt a2)), (3, .int (Int32.ofInt v3)), (4, .int (Int32.ofInt v4))] 94 [] := by
    intro M v3 v4 hw H locs ls w hl
    refine lv_iconst (v := Int32.ofInt 1) F.1 F.2.1 d_Rd_readNumber_94 (by decide) ?_
    refine lv_goto F.1 F.2.1 d_Rd_readNumber_95 (tgt := 99) (by decide) ?_
    exact blk_99 M v3 v4 1 hw H locs ls w (lv_sub hl [0, 1, 2, 3, 4] rfl)
  have blk_60 : ∀ (M : fm_M) (v3 : Int) (v4 : Int), B_Rd_readNumber_60 a1 a2 post thr M v3 v4 → fx_G p l e { frames := 7, cells := 1, slots := 6, locals := 103 } s m ([.ref (ad 1), .int (Int32.ofInt a1), .int (Int32.ofInt a2)] : List Value).toArray below meth c D ad cA n0 0 post thr 7 M [(0, .ref (ad 1)), (1, .int (Int32.ofInt a1)), (2, .int (Int32.ofInt a2)), (3, .int (Int32.ofInt v3)), (4, .int (Int32.ofInt v4))] 60 [] := by
    intro M v3 v4 hw H locs ls w hl
    refine lv_aload_n F.1 F.2.1 d_Rd_readNumber_60 rfl (lv_at hl 0 rfl) ?_
    refine fm_gI F w cl_Rd 1 2 T_1 (by decide) rfl k_170 d_Rd_readNumber_61 ?_
    refine lv_iload_n F.1 F.2.1 d_Rd_readNumber_64 rfl (lv_at hl 3 rfl) ?_
    refine fi_isub F d_Rd_readNumber_65 ?_
    refine lv_istore F.1 F.2.1 d_Rd_readNumber_66 hl (by decide) rfl (fun ls hl => ?_)
    have hl : lv_has ls 7 [(5, .int (Int32.ofInt ((M 1 2) - v3))), (0, .ref (ad 1)), (1, .int (Int32.ofInt a1)), (2, .int (Int32.ofInt a2)), (3, .int (Int32.ofInt v3)), (4, .int (Int32.ofInt v4))] := hl
    refine lv_iload F.1 F.2.1 d_Rd_readNumber_68 (lv_at hl 0 rfl) ?_
    refine lv_iconst (v := Int32.ofInt 1) F.1 F.2.1 d_Rd_readNumber_70 (by decide) ?_
    obtain ⟨h55, hw⟩ := hw
    refine fi_icmp_eq F d_Rd_readNumber_71 (tgt := 94) (by decide) h55 (rgl (by decide)) (fun hc56 => ?_) (fun hc56 => ?_)
    · have hw := hw.1 hc56
      exact blk_94 M v3 v4 hw H locs ls w (lv_sub hl [1, 2, 3, 4, 5] rfl)
    · have hw := hw.2 hc56
      refine lv_iload F.1 F.2.1 d_Rd_readNumber_74 (lv_at hl 0 rfl) ?_
      refine lv_iconst (v := Int32.ofInt 2) F.1 F.2.1 d_Rd_readNumber_76 (by decide) ?_
      refine fi_icmp_ne F d_Rd_readNumber_77 (tgt := 98) (by decide) h55 (rgl (by decide)) (fun hc57 => ?_) (fun hc57 => ?_)
      · have hw := hw.1 hc57
        refine lv_iconst (v := Int32.ofInt 0) F.1 F.2.1 d_Rd_readNumber_98 (by decide) ?_
        exact blk_99 M v3 v4 0 hw H locs ls w (lv_sub hl [1, 2, 3, 4, 5] rfl)
      · have hw := hw.2 hc57
        refine lv_aload_n F.1 F.2.1 d_Rd_readNumber_80 rfl (lv_at hl 1 rfl) ?_
        refine fm_gO F w cl_Rd 1 0 2 T_1 (by decide) rfl rfl k_167 d_Rd_readNumber_81 ?_
        refine fm_gO F w cl_Tx 2 0 3 T_2 (by decide) rfl rfl k_43 d_Rd_readNumber_84 ?_
        refine lv_iload_n F.1 F.2.1 d_Rd_readNumber_87 rfl (lv_at hl 4 rfl) ?_
        obtain ⟨h58, hw⟩ := hw
        refine fm_aC F w 3 T_3 (by decide) h58 d_Rd_readNumber_88 ?_
        refine lv_bipush (v := Int32.ofInt 48) F.1 F.2.1 d_Rd_readNumber_89 (by decide) ?_
        obtain ⟨h59, hw⟩ := hw
        refine fi_icmp_eq F d_Rd_readNumber_91 (tgt := 98) (by decide) h59 (rgl (by decide)) (fun hc60 => ?_) (fun hc60 => ?_)
        · have hw := hw.1 hc60
          refine lv_iconst (v := Int32.ofInt 0) F.1 F.2.1 d_Rd_readNumber_98 (by decide) ?_
          exact blk_99 M v3 v4 0 hw H locs ls w (lv_sub hl [1, 2, 3, 4, 5] rfl)
        · have hw := hw.2 hc60
          exact blk_94 M v3 v4 hw H locs ls w (lv_sub hl [1, 2, 3, 4, 5] rfl)
  have blc_8 : ∀ (J_8 : (fm_M → Int → Int → Prop)) (M : fm_M) (v3 : Int) (v4 : Int), C_Rd_readNumber_8 a1 a2 post thr J_8 M v3 v4 → (∀ (M : fm_M) (v3 : Int) (v4 : Int), J_8 M v3 v4 → fx_G p l e { frames := 7, cells := 1, slots := 6, locals := 103 } s m ([.ref (ad 1), .int (Int32.ofInt a1), .int (Int32.ofInt a2)] : List Value).toArray below meth c D ad cA n0 0 post thr 7 M [(0, .ref (ad 1)), (1, .int (Int32.ofInt a1)), (2, .int (Int32.ofInt a2)), (3, .int (Int32.ofInt v3)), (4, .int (Int32.ofInt v4))] 8 []) → fx_G p l e { frames := 7, cells := 1, slots := 6, locals := 103 } s m ([.ref (ad 1), .int (Int32.ofInt a1), .int (Int32.ofInt a2)] : List Value).toArray below meth c D ad cA n0 0 post thr 7 M [(0, .ref (ad 1)), (1, .int (Int32.ofInt a1)), (2, .int (Int32.ofInt a2)), (3, .int (Int32.ofInt v3)), (4, .int (Int32.ofInt v4))] 8 [] := by
    intro J_8 M v3 v4 hw hJ_8 H locs ls w hl
    refine lv_aload_n F.1 F.2.1 d_Rd_readNumber_8 rfl (lv_at hl 0 rfl) ?_
    refine fm_gI F w cl_Rd 1 2 T_1 (by decide) rfl k_170 d_Rd_readNumber_9 ?_
    refine lv_aload_n F.1 F.2.1 d_Rd_readNumber_12 rfl (lv_at hl 0 rfl) ?_
    refine fm_gO F w cl_Rd 1 0 2 T_1 (by decide) rfl rfl k_167 d_Rd_readNumber_13 ?_
    refine fm_gI F w cl_Tx 2 1 T_2 (by decide) rfl k_45 d_Rd_readNumber_16 ?_
    obtain ⟨h61, hw⟩ := hw
    obtain ⟨h62, hw⟩ := hw
    refine fi_icmp_ge F d_Rd_readNumber_19 (tgt := 60) (by decide) h61 h62 (fun hc63 => ?_) (fun hc63 => ?_)
    · have hw := hw.1 hc63
      exact blk_60 M v3 v4 hw H locs ls w (lv_sub hl [0, 1, 2, 3, 4] rfl)
    · have hw := hw.2 hc63
      refine lv_aload_n F.1 F.2.1 d_Rd_readNumber_22 rfl (lv_at hl 0 rfl) ?_
      refine fx_c w hno hlk (fx_rV (As := []) (rest := []) F w cl_Rd 1 T_1 (met_Rd_here l hst9 D ad cA n0 M _ thr hw) e_Rd_here ki_Rd_here ks_Rd_here k_442 rfl hl.1 rfl (Nat.le_of_ble_eq_true rfl) ⟨⟨Nat.le_of_ble_eq_true rfl, Nat.le_of_ble_eq_true rfl⟩, Nat.le_of_ble_eq_true rfl, Nat.le_of_ble_eq_true rfl⟩ d_Rd_readNumber_23) (fun r65 M64 hw H locs w => ?_)
      show W p l e _ s m _ below meth c H locs 0 0 _ (F0 m 26 ls [.int (Int32.ofInt r65)])
      refine fx_c w hno hlk (fx_rS (As := [.int (Int32.ofInt r65)]) (rest := []) F w (met_Rd_isDigit l hst9 D ad cA n0 M64 r65 _ thr hw) e_Rd_isDigit kt_Rd_isDigit k_530 rfl hl.1 rfl (Nat.le_of_ble_eq_true rfl) ⟨⟨Nat.le_of_ble_eq_true rfl, Nat.le_of_ble_eq_true rfl⟩, Nat.le_of_ble_eq_true rfl, Nat.le_of_ble_eq_true rfl⟩ d_Rd_readNumber_26) (fun r67 M66 hw H locs w => ?_)
      show W p l e _ s m _ below meth c H locs 0 0 _ (F0 m 29 ls [.int (Int32.ofInt r67)])
      obtain ⟨h68, hw⟩ := hw
      refine fi_if_eq F d_Rd_readNumber_29 (tgt := 60) (by decide) h68 (fun hc69 => ?_) (fun hc69 => ?_)
      · have hw := hw.1 hc69
        exact blk_60 M66 v3 v4 hw H locs ls w (lv_sub hl [0, 1, 2, 3, 4] rfl)
      · have hw := hw.2 hc69
        refine lv_bipush (v := Int32.ofInt 10) F.1 F.2.1 d_Rd_readNumber_32 (by decide) ?_
        refine lv_iload F.1 F.2.1 d_Rd_readNumber_34 (lv_at hl 4 rfl) ?_
        refine fi_imul F d_Rd_readNumber_36 ?_
        refine lv_aload_n F.1 F.2.1 d_Rd_readNumber_37 rfl (lv_at hl 0 rfl) ?_
        refine fx_c w hno hlk (fx_rV (As := []) (rest := [.int (Int32.ofInt (10 * v4))]) F w cl_Rd 1 T_1 (met_Rd_here l hst9 D ad cA n0 M66 _ thr hw) e_Rd_here ki_Rd_here ks_Rd_here k_442 rfl hl.1 rfl (Nat.le_of_ble_eq_true rfl) ⟨⟨Nat.le_of_ble_eq_true rfl, Nat.le_of_ble_eq_true rfl⟩, Nat.le_of_ble_eq_true rfl, Nat.le_of_ble_eq_true rfl⟩ d_Rd_readNumber_38) (fun r71 M70 hw H locs w => ?_)
        show W p l e _ s m _ below meth c H locs 0 0 _ (F0 m 41 ls [.int (Int32.ofInt r71), .int (Int32.ofInt (10 * v4))])
        refine lv_bipush (v := Int32.ofInt 48) F.1 F.2.1 d_Rd_readNumber_41 (by decide) ?_
        refine fi_isub F d_Rd_readNumber_43 ?_
        refine fi_iadd F d_Rd_readNumber_44 ?_
        refine lv_istore F.1 F.2.1 d_Rd_readNumber_45 hl (by decide) rfl (fun ls hl => ?_)
        have hl : lv_has ls 7 [(4, .int (Int32.ofInt ((10 * v4) + (r71 - 48)))), (0, .ref (ad 1)), (1, .int (Int32.ofInt a1)), (2, .int (Int32.ofInt a2)), (3, .int (Int32.ofInt v3))] := hl
        refine lv_aload_n F.1 F.2.1 d_Rd_readNumber_47 rfl (lv_at hl 1 rfl) ?_
        refine lv_dup F.1 F.2.1 d_Rd_readNumber_48 rfl ?_
        refine fm_gI F w cl_Rd 1 2 T_1 (by decide) rfl k_170 d_Rd_readNumber_49 ?_
        refine lv_iconst (v := Int32.ofInt 1) F.1 F.2.1 d_Rd_readNumber_52 (by decide) ?_
        refine fi_iadd F d_Rd_readNumber_53 ?_
        refine fm_pI F w cl_Rd 1 2 T_1 (by decide) rfl k_170 rfl rfl d_Rd_readNumber_54 (fun M72 hM72 H locs w => ?_)
        have hw := hw M72 hM72
        refine lv_goto F.1 F.2.1 d_Rd_readNumber_57 (tgt := 8) (by decide) ?_
        exact hJ_8 M72 v3 ((10 * v4) + (r71 - 48)) hw H locs ls w (lv_sub hl [1, 2, 3, 4, 0] rfl)
  have blk_8 : ∀ (M : fm_M) (v3 : Int) (v4 : Int), B_Rd_readNumber_8 a1 a2 post thr M v3 v4 → fx_G p l e { frames := 7, cells := 1, slots := 6, locals := 103 } s m ([.ref (ad 1), .int (Int32.ofInt a1), .int (Int32.ofInt a2)] : List Value).toArray below meth c D ad cA n0 0 post thr 7 M [(0, .ref (ad 1)), (1, .int (Int32.ofInt a1)), (2, .int (Int32.ofInt a2)), (3, .int (Int32.ofInt v3)), (4, .int (Int32.ofInt v4))] 8 [] := by
    intro M v3 v4 hw
    obtain ⟨I, μ, hI, hB⟩ := hw
    have key : ∀ (q : Nat) (M : fm_M) (v3 : Int) (v4 : Int), μ M v3 v4 < q → I M v3 v4 → fx_G p l e { frames := 7, cells := 1, slots := 6, locals := 103 } s m ([.ref (ad 1), .int (Int32.ofInt a1), .int (Int32.ofInt a2)] : List Value).toArray below meth c D ad cA n0 0 post thr 7 M [(0, .ref (ad 1)), (1, .int (Int32.ofInt a1)), (2, .int (Int32.ofInt a2)), (3, .int (Int32.ofInt v3)), (4, .int (Int32.ofInt v4))] 8 [] := by
      intro q
      induction q with
      | zero => intro M v3 v4 h _; exact absurd h (Nat.not_lt_zero _)
      | succ q ih =>
        intro M v3 v4 hμ hI
        exact blc_8 (fun M' v3' v4' => I M' v3' v4' ∧ μ M' v3' v4' < μ M v3 v4) M v3 v4 (hB M v3 v4 hI) (fun M' v3' v4' hh => ih M' v3' v4' (Nat.lt_of_lt_of_le hh.2 (Nat.le_of_lt_succ hμ)) hh.1)
    exact key _ M v3 v4 (Nat.lt_succ_self _) hI
  have hl : lv_has ls 7 [(0, .ref (ad 1)), (1, .int (Int32.ofInt a1)), (2, .int (Int32.ofInt a2))] := hl
  suffices h9 : fx_G p l e { frames := 7, cells := 1, slots := 6, locals := 103 } s m ([.ref (ad 1), .int (Int32.ofInt a1), .int (Int32.ofInt a2)] : List Value).toArray below meth c D ad cA n0 0 post thr 7 M [(0, .ref (ad 1)), (1, .int (Int32.ofInt a1)), (2, .int (Int32.ofInt a2))] 0 [] from h9 _ _ _ w hl
  intro H locs ls w hl
  refine lv_aload_n F.1 F.2.1 d_Rd_readNumber_0 rfl (lv_at hl 0 rfl) ?_
  refine fm_gI F w cl_Rd 1 2 T_1 (by decide) rfl k_170 d_Rd_readNumber_1 ?_
  refine lv_istore_n F.1 F.2.1 d_Rd_readNumber_4 rfl hl (by decide) rfl (fun ls hl => ?_)
  have hl : lv_has ls 7 [(3, .int (Int32.ofInt (M 1 2))), (0, .ref (ad 1)), (1, .int (Int32.ofInt a1)), (2, .int (Int32.ofInt a2))] := hl
  refine lv_iconst (v := Int32.ofInt 0) F.1 F.2.1 d_Rd_readNumber_5 (by decide) ?_
  refine lv_istore F.1 F.2.1 d_Rd_readNumber_6 hl (by decide) rfl (fun ls hl => ?_)
  have hl : lv_has ls 7 [(4, .int (Int32.ofInt 0)), (3, .int (Int32.ofInt (M 1 2))), (0, .ref (ad 1)), (1, .int (Int32.ofInt a1)), (2, .int (Int32.ofInt a2))] := hl
  exact blk_8 M (M 1 2) 0 hw H locs ls w (lv_sub hl [2, 3, 4, 1, 0] rfl)
set_option maxHeartbeats 4000000 in
set_option maxRecDepth 100000 in
theorem met_Rd_skips (l : Launch) (hst9 : l.stackTraces = false) (D : va_G) (ad : Nat → Nat) (cA : Nat → ClassId) (n0 : Nat) (M : fm_M) (a1 : Int) (post : Int → fm_M → Prop) (thr : String → fm_M → Prop) (hw : wp_Rd_skips M a1 post thr) : fx_Met l y_Rd_skips (Cond.code y_Rd_skips b_Rd_skips 2 (some .boolean) :: tb) { frames := 1, cells := 1, slots := 6, locals := 20 } [.ref (ad 1), .int (Int32.ofInt a1)] D ad cA n0 M 0 post thr := by
  refine fx_met (by decide) (Nat.le_of_ble_eq_true rfl) (fun p e s m below meth c ls F w hno hr hlk hl => ?_)
  have hl : lv_has ls 2 [(0, .ref (ad 1)), (1, .int (Int32.ofInt a1))] := hl
  suffices h9 : fx_G p l e { frames := 1, cells := 1, slots := 6, locals := 20 } s m ([.ref (ad 1), .int (Int32.ofInt a1)] : List Value).toArray below meth c D ad cA n0 0 post thr 2 M [(0, .ref (ad 1)), (1, .int (Int32.ofInt a1))] 0 [] from h9 _ _ _ w hl
  intro H locs ls w hl
  refine lv_aload_n F.1 F.2.1 d_Rd_skips_0 rfl (lv_at hl 0 rfl) ?_
  refine fx_c w hno hlk (fx_rV (As := []) (rest := []) F w cl_Rd 1 T_1 (met_Rd_here l hst9 D ad cA n0 M _ thr hw) e_Rd_here ki_Rd_here ks_Rd_here k_442 rfl hl.1 rfl (Nat.le_of_ble_eq_true rfl) ⟨⟨Nat.le_of_ble_eq_true rfl, Nat.le_of_ble_eq_true rfl⟩, Nat.le_of_ble_eq_true rfl, Nat.le_of_ble_eq_true rfl⟩ d_Rd_skips_1) (fun r8 M7 hw H locs w => ?_)
  show W p l e _ s m _ below meth c H locs 0 0 _ (F0 m 4 ls [.int (Int32.ofInt r8)])
  refine lv_iload_n F.1 F.2.1 d_Rd_skips_4 rfl (lv_at hl 1 rfl) ?_
  obtain ⟨h9, hw⟩ := hw
  obtain ⟨h10, hw⟩ := hw
  refine fi_icmp_eq F d_Rd_skips_5 (tgt := 10) (by decide) h9 h10 (fun hc11 => ?_) (fun hc11 => ?_)
  · have hw := hw.1 hc11
    refine lv_aload_n F.1 F.2.1 d_Rd_skips_10 rfl (lv_at hl 0 rfl) ?_
    refine lv_dup F.1 F.2.1 d_Rd_skips_11 rfl ?_
    refine fm_gI F w cl_Rd 1 2 T_1 (by decide) rfl k_170 d_Rd_skips_12 ?_
    refine lv_iconst (v := Int32.ofInt 1) F.1 F.2.1 d_Rd_skips_15 (by decide) ?_
    refine fi_iadd F d_Rd_skips_16 ?_
    refine fm_pI F w cl_Rd 1 2 T_1 (by decide) rfl k_170 rfl rfl d_Rd_skips_17 (fun M12 hM12 H locs w => ?_)
    have hw := hw M12 hM12
    refine lv_iconst (v := Int32.ofInt 1) F.1 F.2.1 d_Rd_skips_20 (by decide) ?_
    exact fx_zret F w hr hlk (fx_nz (by decide)) hw d_Rd_skips_21
  · have hw := hw.2 hc11
    refine lv_iconst (v := Int32.ofInt 0) F.1 F.2.1 d_Rd_skips_8 (by decide) ?_
    exact fx_zret F w hr hlk (fx_nz (by decide)) hw d_Rd_skips_9
set_option maxHeartbeats 4000000 in
set_option maxRecDepth 100000 in
theorem met_Rd_expect (l : Launch) (hst9 : l.stackTraces = false) (D : va_G) (ad : Nat → Nat) (cA : Nat → ClassId) (n0 : Nat) (M : fm_M) (a1 : Int) (post : Int → fm_M → Prop) (thr : String → fm_M → Prop) (hw : wp_Rd_expect M a1 post thr) : fx_Met l y_Rd_expect (Cond.code y_Rd_expect b_Rd_expect 2 none :: tb) { frames := 7, cells := 1, slots := 6, locals := 103 } [.ref (ad 1), .int (Int32.ofInt a1)] D ad cA n0 M 3 post thr := by
  refine fx_met (by decide) (Nat.le_of_ble_eq_true rfl) (fun p e s m below meth c ls F w hno hr hlk hl => ?_)
  have hl : lv_has ls 2 [(0, .ref (ad 1)), (1, .int (Int32.ofInt a1))] := hl
  suffices h9 : fx_G p l e { frames := 7, cells := 1, slots := 6, locals := 103 } s m ([.ref (ad 1), .int (Int32.ofInt a1)] : List Value).toArray below meth c D ad cA n0 3 post thr 2 M [(0, .ref (ad 1)), (1, .int (Int32.ofInt a1))] 0 [] from h9 _ _ _ w hl
  intro H locs ls w hl
  refine lv_aload_n F.1 F.2.1 d_Rd_expect_0 rfl (lv_at hl 0 rfl) ?_
  refine lv_iload_n F.1 F.2.1 d_Rd_expect_1 rfl (lv_at hl 1 rfl) ?_
  refine fx_c w hno hlk (fx_rV (As := [.int (Int32.ofInt a1)]) (rest := []) F w cl_Rd 1 T_1 (met_Rd_skips l hst9 D ad cA n0 M a1 _ thr hw) e_Rd_skips ki_Rd_skips ks_Rd_skips k_537 rfl hl.1 rfl (Nat.le_of_ble_eq_true rfl) ⟨⟨Nat.le_of_ble_eq_true rfl, Nat.le_of_ble_eq_true rfl⟩, Nat.le_of_ble_eq_true rfl, Nat.le_of_ble_eq_true rfl⟩ d_Rd_expect_2) (fun r8 M7 hw H locs w => ?_)
  show W p l e _ s m _ below meth c H locs 0 0 _ (F0 m 5 ls [.int (Int32.ofInt r8)])
  obtain ⟨h9, hw⟩ := hw
  refine fi_if_ne F d_Rd_expect_5 (tgt := 16) (by decide) h9 (fun hc10 => ?_) (fun hc10 => ?_)
  · have hw := hw.1 hc10
    exact fx_vret F w hr hlk hw d_Rd_expect_16
  · have hw := hw.2 hc10
    refine lv_aload_n F.1 F.2.1 d_Rd_expect_8 rfl (lv_at hl 0 rfl) ?_
    refine lv_aload_n F.1 F.2.1 d_Rd_expect_9 rfl (lv_at hl 0 rfl) ?_
    refine fm_gI F w cl_Rd 1 2 T_1 (by decide) rfl k_170 d_Rd_expect_10 ?_
    refine fx_c w hno hlk (fx_rV (As := [.int (Int32.ofInt (M7 1 2))]) (rest := []) F w cl_Rd 1 T_1 (met_Rd_refuse l hst9 D ad cA n0 M7 (M7 1 2) _ thr hw) e_Rd_refuse ki_Rd_refuse ks_Rd_refuse k_454 rfl hl.1 rfl (Nat.le_of_ble_eq_true rfl) ⟨⟨Nat.le_of_ble_eq_true rfl, Nat.le_of_ble_eq_true rfl⟩, Nat.le_of_ble_eq_true rfl, Nat.le_of_ble_eq_true rfl⟩ d_Rd_expect_13) (fun r12 M11 hw H locs w => ?_)
    exact fx_vret F w hr hlk hw d_Rd_expect_16
set_option maxHeartbeats 4000000 in
set_option maxRecDepth 100000 in
theorem met_Rd_readVariable (l : Launch) (hst9 : l.stackTraces = false) (D : va_G) (ad : Nat → Nat) (cA : Nat → ClassId) (n0 : Nat) (M : fm_M) (post : Int → fm_M → Prop) (thr : String → fm_M → Prop) (hw : wp_Rd_readVariable M post thr) : fx_Met l y_Rd_readVariable (Cond.code y_Rd_readVariable b_Rd_readVariable 2 none :: tb) { frames := 8, cells := 1, slots := 6, locals := 129 } [.ref (ad 1)] D ad cA n0 M 3 post thr := by
  refine fx_met (by decide) (Nat.le_of_ble_eq_true rfl) (fun p e s m below meth c ls F w hno hr hlk hl => ?_)
  have blk_27 : ∀ (M : fm_M) (v1 : Int), B_Rd_readVariable_27 post thr M v1 → fx_G p l e { frames := 8, cells := 1, slots := 6, locals := 129 } s m ([.ref (ad 1)] : List Value).toArray below meth c D ad cA n0 3 post thr 2 M [(0, .ref (ad 1)), (1, .int (Int32.ofInt v1))] 27 [] := by
    intro M v1 hw H locs ls w hl
    refine lv_aload_n F.1 F.2.1 d_Rd_readVariable_27 rfl (lv_at hl 0 rfl) ?_
    refine lv_dup F.1 F.2.1 d_Rd_readVariable_28 rfl ?_
    refine fm_gI F w cl_Rd 1 2 T_1 (by decide) rfl k_170 d_Rd_readVariable_29 ?_
    refine lv_iconst (v := Int32.ofInt 1) F.1 F.2.1 d_Rd_readVariable_32 (by decide) ?_
    refine fi_iadd F d_Rd_readVariable_33 ?_
    refine fm_pI F w cl_Rd 1 2 T_1 (by decide) rfl k_170 rfl rfl d_Rd_readVariable_34 (fun M27 hM27 H locs w => ?_)
    have hw := hw M27 hM27
    refine lv_aload_n F.1 F.2.1 d_Rd_readVariable_37 rfl (lv_at hl 0 rfl) ?_
    refine fm_gR F w cl_Rd 1 1 T_1 (by decide) rfl k_169 d_Rd_readVariable_38 ?_
    obtain ⟨h28, hw⟩ := hw
    refine fm_gO F w cl_Gm ((M27 1 1).toNat) 0 (((M27 1 1).toNat) + 1) h28 (by decide) rfl rfl k_137 d_Rd_readVariable_41 ?_
    refine lv_iload_n F.1 F.2.1 d_Rd_readVariable_44 rfl (lv_at hl 1 rfl) ?_
    refine lv_aload_n F.1 F.2.1 d_Rd_readVariable_45 rfl (lv_at hl 0 rfl) ?_
    refine lv_iconst (v := Int32.ofInt 1) F.1 F.2.1 d_Rd_readVariable_46 (by decide) ?_
    refine lv_bipush (v := Int32.ofInt 9) F.1 F.2.1 d_Rd_readVariable_47 (by decide) ?_
    refine fx_c w hno hlk (fx_rV (As := [.int (Int32.ofInt 1), .int (Int32.ofInt 9)]) (rest := [.int (Int32.ofInt v1), .ref (ad (((M27 1 1).toNat) + 1))]) F w cl_Rd 1 T_1 (met_Rd_readNumber l hst9 D ad cA n0 M27 1 9 _ thr hw) e_Rd_readNumber ki_Rd_readNumber ks_Rd_readNumber k_526 rfl hl.1 rfl (Nat.le_of_ble_eq_true rfl) ⟨⟨Nat.le_of_ble_eq_true rfl, Nat.le_of_ble_eq_true rfl⟩, Nat.le_of_ble_eq_true rfl, Nat.le_of_ble_eq_true rfl⟩ d_Rd_readVariable_49) (fun r30 M29 hw H locs w => ?_)
    show W p l e _ s m _ below meth c H locs 0 0 _ (F0 m 52 ls [.int (Int32.ofInt r30), .int (Int32.ofInt v1), .ref (ad (((M27 1 1).toNat) + 1))])
    obtain ⟨h31, hw⟩ := hw
    obtain ⟨h32, hw⟩ := hw
    refine fm_sI F w (((M27 1 1).toNat) + 1) h31 (by decide) h32  d_Rd_readVariable_52 (fun M33 hM33 H locs w => ?_)
    have hw := hw M33 hM33
    refine lv_aload_n F.1 F.2.1 d_Rd_readVariable_53 rfl (lv_at hl 0 rfl) ?_
    refine lv_bipush (v := Int32.ofInt 58) F.1 F.2.1 d_Rd_readVariable_54 (by decide) ?_
    refine fx_c w hno hlk (fx_rV (As := [.int (Int32.ofInt 58)]) (rest := []) F w cl_Rd 1 T_1 (met_Rd_expect l hst9 D ad cA n0 M33 58 _ thr hw) e_Rd_expect ki_Rd_expect ks_Rd_expect k_533 rfl hl.1 rfl (Nat.le_of_ble_eq_true rfl) ⟨⟨Nat.le_of_ble_eq_true rfl, Nat.le_of_ble_eq_true rfl⟩, Nat.le_of_ble_eq_true rfl, Nat.le_of_ble_eq_true rfl⟩ d_Rd_readVariable_56) (fun r35 M34 hw H locs w => ?_)
    refine lv_aload_n F.1 F.2.1 d_Rd_readVariable_59 rfl (lv_at hl 0 rfl) ?_
    refine fm_gR F w cl_Rd 1 1 T_1 (by decide) rfl k_169 d_Rd_readVariable_60 ?_
    obtain ⟨h36, hw⟩ := hw
    refine fm_gO F w cl_Gm ((M34 1 1).toNat) 1 (((M34 1 1).toNat) + 2) h36 (by decide) rfl rfl k_139 d_Rd_readVariable_63 ?_
    refine lv_iload_n F.1 F.2.1 d_Rd_readVariable_66 rfl (lv_at hl 1 rfl) ?_
    refine lv_aload_n F.1 F.2.1 d_Rd_readVariable_67 rfl (lv_at hl 0 rfl) ?_
    refine lv_iconst (v := Int32.ofInt 0) F.1 F.2.1 d_Rd_readVariable_68 (by decide) ?_
    refine lv_aload_n F.1 F.2.1 d_Rd_readVariable_69 rfl (lv_at hl 0 rfl) ?_
    refine fm_gR F w cl_Rd 1 1 T_1 (by decide) rfl k_169 d_Rd_readVariable_70 ?_
    refine fm_gO F w cl_Gm ((M34 1 1).toNat) 0 (((M34 1 1).toNat) + 1) h36 (by decide) rfl rfl k_137 d_Rd_readVariable_73 ?_
    refine lv_iload_n F.1 F.2.1 d_Rd_readVariable_76 rfl (lv_at hl 1 rfl) ?_
    obtain ⟨h37, hw⟩ := hw
    refine fm_aI F w (((M34 1 1).toNat) + 1) h37 (by decide) h32 d_Rd_readVariable_77 ?_
    refine fx_c w hno hlk (fx_rV (As := [.int (Int32.ofInt 0), .int (Int32.ofInt (M34 (((M34 1 1).toNat) + 1) v1.toNat))]) (rest := [.int (Int32.ofInt v1), .ref (ad (((M34 1 1).toNat) + 2))]) F w cl_Rd 1 T_1 (met_Rd_readNumber l hst9 D ad cA n0 M34 0 (M34 (((M34 1 1).toNat) + 1) v1.toNat) _ thr hw) e_Rd_readNumber ki_Rd_readNumber ks_Rd_readNumber k_526 rfl hl.1 rfl (Nat.le_of_ble_eq_true rfl) ⟨⟨Nat.le_of_ble_eq_true rfl, Nat.le_of_ble_eq_true rfl⟩, Nat.le_of_ble_eq_true rfl, Nat.le_of_ble_eq_true rfl⟩ d_Rd_readVariable_78) (fun r39 M38 hw H locs w => ?_)
    show W p l e _ s m _ below meth c H locs 0 0 _ (F0 m 81 ls [.int (Int32.ofInt r39), .int (Int32.ofInt v1), .ref (ad (((M34 1 1).toNat) + 2))])
    obtain ⟨h40, hw⟩ := hw
    refine fm_sI F w (((M34 1 1).toNat) + 2) h40 (by decide) h32  d_Rd_readVariable_81 (fun M41 hM41 H locs w => ?_)
    have hw := hw M41 hM41
    refine lv_aload_n F.1 F.2.1 d_Rd_readVariable_82 rfl (lv_at hl 0 rfl) ?_
    refine lv_bipush (v := Int32.ofInt 59) F.1 F.2.1 d_Rd_readVariable_83 (by decide) ?_
    refine fx_c w hno hlk (fx_rV (As := [.int (Int32.ofInt 59)]) (rest := []) F w cl_Rd 1 T_1 (met_Rd_expect l hst9 D ad cA n0 M41 59 _ thr hw) e_Rd_expect ki_Rd_expect ks_Rd_expect k_533 rfl hl.1 rfl (Nat.le_of_ble_eq_true rfl) ⟨⟨Nat.le_of_ble_eq_true rfl, Nat.le_of_ble_eq_true rfl⟩, Nat.le_of_ble_eq_true rfl, Nat.le_of_ble_eq_true rfl⟩ d_Rd_readVariable_85) (fun r43 M42 hw H locs w => ?_)
    exact fx_vret F w hr hlk hw d_Rd_readVariable_88
  have hl : lv_has ls 2 [(0, .ref (ad 1))] := hl
  suffices h9 : fx_G p l e { frames := 8, cells := 1, slots := 6, locals := 129 } s m ([.ref (ad 1)] : List Value).toArray below meth c D ad cA n0 3 post thr 2 M [(0, .ref (ad 1))] 0 [] from h9 _ _ _ w hl
  intro H locs ls w hl
  refine lv_aload_n F.1 F.2.1 d_Rd_readVariable_0 rfl (lv_at hl 0 rfl) ?_
  refine fx_c w hno hlk (fx_rV (As := []) (rest := []) F w cl_Rd 1 T_1 (met_Rd_here l hst9 D ad cA n0 M _ thr hw) e_Rd_here ki_Rd_here ks_Rd_here k_442 rfl hl.1 rfl (Nat.le_of_ble_eq_true rfl) ⟨⟨Nat.le_of_ble_eq_true rfl, Nat.le_of_ble_eq_true rfl⟩, Nat.le_of_ble_eq_true rfl, Nat.le_of_ble_eq_true rfl⟩ d_Rd_readVariable_1) (fun r45 M44 hw H locs w => ?_)
  show W p l e _ s m _ below meth c H locs 0 0 _ (F0 m 4 ls [.int (Int32.ofInt r45)])
  refine lv_bipush (v := Int32.ofInt 97) F.1 F.2.1 d_Rd_readVariable_4 (by decide) ?_
  refine fi_isub F d_Rd_readVariable_6 ?_
  refine lv_istore_n F.1 F.2.1 d_Rd_readVariable_7 rfl hl (by decide) rfl (fun ls hl => ?_)
  have hl : lv_has ls 2 [(1, .int (Int32.ofInt (r45 - 97))), (0, .ref (ad 1))] := hl
  refine lv_aload_n F.1 F.2.1 d_Rd_readVariable_8 rfl (lv_at hl 1 rfl) ?_
  refine fm_gR F w cl_Rd 1 1 T_1 (by decide) rfl k_169 d_Rd_readVariable_9 ?_
  refine lv_iload_n F.1 F.2.1 d_Rd_readVariable_12 rfl (lv_at hl 0 rfl) ?_
  obtain ⟨h46, hw⟩ := hw
  refine fx_c w hno hlk (fx_rV (As := [.int (Int32.ofInt (r45 - 97))]) (rest := []) F w cl_Gm ((M44 1 1).toNat) h46 (met_Gm_hasVariable l hst9 D ad cA n0 M44 ((M44 1 1).toNat) (r45 - 97) _ thr hw) e_Gm_hasVariable ki_Gm_hasVariable ks_Gm_hasVariable k_453 rfl hl.1 rfl (Nat.le_of_ble_eq_true rfl) ⟨⟨Nat.le_of_ble_eq_true rfl, Nat.le_of_ble_eq_true rfl⟩, Nat.le_of_ble_eq_true rfl, Nat.le_of_ble_eq_true rfl⟩ d_Rd_readVariable_13) (fun r48 M47 hw H locs w => ?_)
  show W p l e _ s m _ below meth c H locs 0 0 _ (F0 m 16 ls [.int (Int32.ofInt r48)])
  obtain ⟨h49, hw⟩ := hw
  refine fi_if_eq F d_Rd_readVariable_16 (tgt := 27) (by decide) h49 (fun hc50 => ?_) (fun hc50 => ?_)
  · have hw := hw.1 hc50
    exact blk_27 M47 (r45 - 97) hw H locs ls w (lv_sub hl [1, 0] rfl)
  · have hw := hw.2 hc50
    refine lv_aload_n F.1 F.2.1 d_Rd_readVariable_19 rfl (lv_at hl 1 rfl) ?_
    refine lv_aload_n F.1 F.2.1 d_Rd_readVariable_20 rfl (lv_at hl 1 rfl) ?_
    refine fm_gI F w cl_Rd 1 2 T_1 (by decide) rfl k_170 d_Rd_readVariable_21 ?_
    refine fx_c w hno hlk (fx_rV (As := [.int (Int32.ofInt (M47 1 2))]) (rest := []) F w cl_Rd 1 T_1 (met_Rd_refuse l hst9 D ad cA n0 M47 (M47 1 2) _ thr hw) e_Rd_refuse ki_Rd_refuse ks_Rd_refuse k_454 rfl hl.1 rfl (Nat.le_of_ble_eq_true rfl) ⟨⟨Nat.le_of_ble_eq_true rfl, Nat.le_of_ble_eq_true rfl⟩, Nat.le_of_ble_eq_true rfl, Nat.le_of_ble_eq_true rfl⟩ d_Rd_readVariable_24) (fun r52 M51 hw H locs w => ?_)
    exact blk_27 M51 (r45 - 97) hw H locs ls w (lv_sub hl [1, 0] rfl)
