set_option maxHeartbeats 4000000 in
set_option maxRecDepth 100000 in
theorem met_Rd_isPlusOrMinus (l : Launch) (hst9 : l.stackTraces = false) (D : va_G) (ad : Nat → Nat) (cA : Nat → ClassId) (n0 : Nat) (M : fm_M) (a0 : Int) (post : Int → fm_M → Prop) (thr : String → fm_M → Prop) (hw : wp_Rd_isPlusOrMinus M a0 post thr) : fx_Met l y_Rd_isPlusOrMinus (Cond.code y_Rd_isPlusOrMinus b_Rd_isPlusOrMinus 1 (some .boolean) :: tb) { frames := 0, cells := 1, slots := 6, locals := 0 } [.int (Int32.ofInt a0)] D ad cA n0 M 0 post thr := by
  refine fx_met (by decide) (Nat.le_of_ble_eq_true rfl) (fun p e s m below meth c ls F w hno hr hlk hl => ?_)
  have blk_12 : ∀ (M : fm_M), B_Rd_isPlusOrMinus_12 a0 post thr M → fx_G p l e { frames := 0, cells := 1, slots := 6, locals := 0 } s m ([.int (Int32.ofInt a0)] : List Value).toArray below meth c D ad cA n0 0 post thr 1 M [] 12 [] := by
    intro M hw H locs ls w hl
    refine lv_iconst (v := Int32.ofInt 1) F.1 F.2.1 d_Rd_isPlusOrMinus_12 (by decide) ?_
    refine lv_goto F.1 F.2.1 d_Rd_isPlusOrMinus_13 (tgt := 17) (by decide) ?_
    exact fx_zret F w hr hlk (fx_nz (by decide)) hw d_Rd_isPlusOrMinus_17
  have hl : lv_has ls 1 [(0, .int (Int32.ofInt a0))] := hl
  suffices h9 : fx_G p l e { frames := 0, cells := 1, slots := 6, locals := 0 } s m ([.int (Int32.ofInt a0)] : List Value).toArray below meth c D ad cA n0 0 post thr 1 M [(0, .int (Int32.ofInt a0))] 0 [] from h9 _ _ _ w hl
  intro H locs ls w hl
  refine lv_iload_n F.1 F.2.1 d_Rd_isPlusOrMinus_0 rfl (lv_at hl 0 rfl) ?_
  refine lv_bipush (v := Int32.ofInt 43) F.1 F.2.1 d_Rd_isPlusOrMinus_1 (by decide) ?_
  obtain ⟨h4, hw⟩ := hw
  refine fi_icmp_eq F d_Rd_isPlusOrMinus_3 (tgt := 12) (by decide) h4 (rgl (by decide)) (fun hc5 => ?_) (fun hc5 => ?_)
  · have hw := hw.1 hc5
    exact blk_12 M hw H locs ls w (lv_sub hl [] rfl)
  · have hw := hw.2 hc5
    refine lv_iload_n F.1 F.2.1 d_Rd_isPlusOrMinus_6 rfl (lv_at hl 0 rfl) ?_
    refine lv_bipush (v := Int32.ofInt 45) F.1 F.2.1 d_Rd_isPlusOrMinus_7 (by decide) ?_
    refine fi_icmp_ne F d_Rd_isPlusOrMinus_9 (tgt := 16) (by decide) h4 (rgl (by decide)) (fun hc6 => ?_) (fun hc6 => ?_)
    · have hw := hw.1 hc6
      refine lv_iconst (v := Int32.ofInt 0) F.1 F.2.1 d_Rd_isPlusOrMinus_16 (by decide) ?_
      exact fx_zret F w hr hlk (fx_nz (by decide)) hw d_Rd_isPlusOrMinus_17
    · have hw := hw.2 hc6
      exact blk_12 M hw H locs ls w (lv_sub hl [] rfl)
set_option maxHeartbeats 4000000 in
set_option maxRecDepth 100000 in
theorem met_Gu_clear (l : Launch) (hst9 : l.stackTraces = false) (D : va_G) (ad : Nat → Nat) (cA : Nat → ClassId) (n0 : Nat) (M : fm_M) (k0 : Nat) (post : Int → fm_M → Prop) (thr : String → fm_M → Prop) (hw : wp_Gu_clear M k0 post thr) : fx_Met l y_Gu_clear (Cond.code y_Gu_clear b_Gu_clear 2 none :: tb) { frames := 0, cells := 1, slots := 6, locals := 0 } [.ref (ad k0)] D ad cA n0 M 3 post thr := by
  refine fx_met (by decide) (Nat.le_of_ble_eq_true rfl) (fun p e s m below meth c ls F w hno hr hlk hl => ?_)
  have blc_2 : ∀ (J_2 : (fm_M → Int → Prop)) (M : fm_M) (v1 : Int), C_Gu_clear_2 k0 post thr J_2 M v1 → (∀ (M : fm_M) (v1 : Int), J_2 M v1 → fx_G p l e { frames := 0, cells := 1, slots := 6, locals := 0 } s m ([.ref (ad k0)] : List Value).toArray below meth c D ad cA n0 3 post thr 2 M [(0, .ref (ad k0)), (1, .int (Int32.ofInt v1))] 2 []) → fx_G p l e { frames := 0, cells := 1, slots := 6, locals := 0 } s m ([.ref (ad k0)] : List Value).toArray below meth c D ad cA n0 3 post thr 2 M [(0, .ref (ad k0)), (1, .int (Int32.ofInt v1))] 2 [] := by
    intro J_2 M v1 hw hJ_2 H locs ls w hl
    refine lv_iload_n F.1 F.2.1 d_Gu_clear_2 rfl (lv_at hl 1 rfl) ?_
    refine lv_aload_n F.1 F.2.1 d_Gu_clear_3 rfl (lv_at hl 0 rfl) ?_
    obtain ⟨h11, hw⟩ := hw
    refine fm_gO F w cl_Gu k0 0 (k0 + 1) h11 (by decide) rfl rfl k_66 d_Gu_clear_4 ?_
    obtain ⟨h12, hw⟩ := hw
    refine fm_len F w (k0 + 1) h12 d_Gu_clear_7 ?_
    obtain ⟨h13, hw⟩ := hw
    refine fi_icmp_ge F d_Gu_clear_8 (tgt := 24) (by decide) h13 (rgl (by decide)) (fun hc14 => ?_) (fun hc14 => ?_)
    · have hw := hw.1 hc14
      refine lv_aload_n F.1 F.2.1 d_Gu_clear_24 rfl (lv_at hl 0 rfl) ?_
      refine lv_iconst (v := Int32.ofInt 0) F.1 F.2.1 d_Gu_clear_25 (by decide) ?_
      refine fm_pI F w cl_Gu k0 2 h11 (by decide) rfl k_70 rfl rfl d_Gu_clear_26 (fun M15 hM15 H locs w => ?_)
      have hw := hw M15 hM15
      exact fx_vret F w hr hlk hw d_Gu_clear_29
    · have hw := hw.2 hc14
      refine lv_aload_n F.1 F.2.1 d_Gu_clear_11 rfl (lv_at hl 0 rfl) ?_
      refine fm_gO F w cl_Gu k0 0 (k0 + 1) h11 (by decide) rfl rfl k_66 d_Gu_clear_12 ?_
      refine lv_iload_n F.1 F.2.1 d_Gu_clear_15 rfl (lv_at hl 1 rfl) ?_
      refine lv_iconst (v := Int32.ofInt 0) F.1 F.2.1 d_Gu_clear_16 (by decide) ?_
      obtain ⟨h16, hw⟩ := hw
      refine fm_sI F w (k0 + 1) h12 (by decide) h16  d_Gu_clear_17 (fun M17 hM17 H locs w => ?_)
      have hw := hw M17 hM17
      refine fi_iinc (k := 1) (v := (v1 + 1)) F d_Gu_clear_18 hl rfl rfl (by decide) rfl (fun ls hl => ?_)
      have hl : lv_has ls 2 [(1, .int (Int32.ofInt (v1 + 1))), (0, .ref (ad k0))] := hl
      refine lv_goto F.1 F.2.1 d_Gu_clear_21 (tgt := 2) (by decide) ?_
      exact hJ_2 M17 (v1 + 1) hw H locs ls w (lv_sub hl [1, 0] rfl)
  have blk_2 : ∀ (M : fm_M) (v1 : Int), B_Gu_clear_2 k0 post thr M v1 → fx_G p l e { frames := 0, cells := 1, slots := 6, locals := 0 } s m ([.ref (ad k0)] : List Value).toArray below meth c D ad cA n0 3 post thr 2 M [(0, .ref (ad k0)), (1, .int (Int32.ofInt v1))] 2 [] := by
    intro M v1 hw
    obtain ⟨I, μ, hI, hB⟩ := hw
    have key : ∀ (q : Nat) (M : fm_M) (v1 : Int), μ M v1 < q → I M v1 → fx_G p l e { frames := 0, cells := 1, slots := 6, locals := 0 } s m ([.ref (ad k0)] : List Value).toArray below meth c D ad cA n0 3 post thr 2 M [(0, .ref (ad k0)), (1, .int (Int32.ofInt v1))] 2 [] := by
      intro q
      induction q with
      | zero => intro M v1 h _; exact absurd h (Nat.not_lt_zero _)
      | succ q ih =>
        intro M v1 hμ hI
        exact blc_2 (fun M' v1' => I M' v1' ∧ μ M' v1' < μ M v1) M v1 (hB M v1 hI) (fun M' v1' hh => ih M' v1' (Nat.lt_of_lt_of_le hh.2 (Nat.le_of_lt_succ hμ)) hh.1)
    exact key _ M v1 (Nat.lt_succ_self _) hI
  have hl : lv_has ls 2 [(0, .ref (ad k0))] := hl
  suffices h9 : fx_G p l e { frames := 0, cells := 1, slots := 6, locals := 0 } s m ([.ref (ad k0)] : List Value).toArray below meth c D ad cA n0 3 post thr 2 M [(0, .ref (ad k0))] 0 [] from h9 _ _ _ w hl
  intro H locs ls w hl
  refine lv_iconst (v := Int32.ofInt 0) F.1 F.2.1 d_Gu_clear_0 (by decide) ?_
  refine lv_istore_n F.1 F.2.1 d_Gu_clear_1 rfl hl (by decide) rfl (fun ls hl => ?_)
  have hl : lv_has ls 2 [(1, .int (Int32.ofInt 0)), (0, .ref (ad k0))] := hl
  exact blk_2 M 0 hw H locs ls w (lv_sub hl [1, 0] rfl)
set_option maxHeartbeats 4000000 in
set_option maxRecDepth 100000 in
theorem met_Rd_readName (l : Launch) (hst9 : l.stackTraces = false) (D : va_G) (ad : Nat → Nat) (cA : Nat → ClassId) (n0 : Nat) (M : fm_M) (post : Int → fm_M → Prop) (thr : String → fm_M → Prop) (hw : wp_Rd_readName M post thr) : fx_Met l y_Rd_readName (Cond.code y_Rd_readName b_Rd_readName 2 (some .int) :: tb) { frames := 7, cells := 1, slots := 6, locals := 103 } [.ref (ad 1)] D ad cA n0 M 0 post thr := by
  refine fx_met (by decide) (Nat.le_of_ble_eq_true rfl) (fun p e s m below meth c ls F w hno hr hlk hl => ?_)
  have blk_36 : ∀ (M : fm_M) (v1 : Int), B_Rd_readName_36 post thr M v1 → fx_G p l e { frames := 7, cells := 1, slots := 6, locals := 103 } s m ([.ref (ad 1)] : List Value).toArray below meth c D ad cA n0 0 post thr 2 M [(0, .ref (ad 1)), (1, .int (Int32.ofInt v1))] 36 [] := by
    intro M v1 hw H locs ls w hl
    refine lv_aload_n F.1 F.2.1 d_Rd_readName_36 rfl (lv_at hl 0 rfl) ?_
    refine lv_dup F.1 F.2.1 d_Rd_readName_37 rfl ?_
    refine fm_gI F w cl_Rd 1 2 T_1 (by decide) rfl k_170 d_Rd_readName_38 ?_
    refine lv_iconst (v := Int32.ofInt 1) F.1 F.2.1 d_Rd_readName_41 (by decide) ?_
    refine fi_iadd F d_Rd_readName_42 ?_
    refine fm_pI F w cl_Rd 1 2 T_1 (by decide) rfl k_170 rfl rfl d_Rd_readName_43 (fun M14 hM14 H locs w => ?_)
    have hw := hw M14 hM14
    refine lv_iload_n F.1 F.2.1 d_Rd_readName_46 rfl (lv_at hl 1 rfl) ?_
    exact fx_iret F w hr hlk hw d_Rd_readName_47
  have blk_28 : ∀ (M : fm_M) (v1 : Int), B_Rd_readName_28 post thr M v1 → fx_G p l e { frames := 7, cells := 1, slots := 6, locals := 103 } s m ([.ref (ad 1)] : List Value).toArray below meth c D ad cA n0 0 post thr 2 M [(0, .ref (ad 1)), (1, .int (Int32.ofInt v1))] 28 [] := by
    intro M v1 hw H locs ls w hl
    refine lv_aload_n F.1 F.2.1 d_Rd_readName_28 rfl (lv_at hl 0 rfl) ?_
    refine lv_aload_n F.1 F.2.1 d_Rd_readName_29 rfl (lv_at hl 0 rfl) ?_
    refine fm_gI F w cl_Rd 1 2 T_1 (by decide) rfl k_170 d_Rd_readName_30 ?_
    refine fx_c w hno hlk (fx_rV (As := [.int (Int32.ofInt (M 1 2))]) (rest := []) F w cl_Rd 1 T_1 (met_Rd_refuse l hst9 D ad cA n0 M (M 1 2) _ thr hw) e_Rd_refuse ki_Rd_refuse ks_Rd_refuse k_454 rfl hl.1 rfl (Nat.le_of_ble_eq_true rfl) ⟨⟨Nat.le_of_ble_eq_true rfl, Nat.le_of_ble_eq_true rfl⟩, Nat.le_of_ble_eq_true rfl, Nat.le_of_ble_eq_true rfl⟩ d_Rd_readName_33) (fun r16 M15 hw H locs w => ?_)
    exact blk_36 M15 v1 hw H locs ls w (lv_sub hl [0, 1] rfl)
  have hl : lv_has ls 2 [(0, .ref (ad 1))] := hl
  suffices h9 : fx_G p l e { frames := 7, cells := 1, slots := 6, locals := 103 } s m ([.ref (ad 1)] : List Value).toArray below meth c D ad cA n0 0 post thr 2 M [(0, .ref (ad 1))] 0 [] from h9 _ _ _ w hl
  intro H locs ls w hl
  refine lv_aload_n F.1 F.2.1 d_Rd_readName_0 rfl (lv_at hl 0 rfl) ?_
  refine fx_c w hno hlk (fx_rV (As := []) (rest := []) F w cl_Rd 1 T_1 (met_Rd_here l hst9 D ad cA n0 M _ thr hw) e_Rd_here ki_Rd_here ks_Rd_here k_442 rfl hl.1 rfl (Nat.le_of_ble_eq_true rfl) ⟨⟨Nat.le_of_ble_eq_true rfl, Nat.le_of_ble_eq_true rfl⟩, Nat.le_of_ble_eq_true rfl, Nat.le_of_ble_eq_true rfl⟩ d_Rd_readName_1) (fun r18 M17 hw H locs w => ?_)
  show W p l e _ s m _ below meth c H locs 0 0 _ (F0 m 4 ls [.int (Int32.ofInt r18)])
  refine lv_bipush (v := Int32.ofInt 97) F.1 F.2.1 d_Rd_readName_4 (by decide) ?_
  refine fi_isub F d_Rd_readName_6 ?_
  refine lv_istore_n F.1 F.2.1 d_Rd_readName_7 rfl hl (by decide) rfl (fun ls hl => ?_)
  have hl : lv_has ls 2 [(1, .int (Int32.ofInt (r18 - 97))), (0, .ref (ad 1))] := hl
  refine lv_iload_n F.1 F.2.1 d_Rd_readName_8 rfl (lv_at hl 0 rfl) ?_
  obtain ⟨h19, hw⟩ := hw
  refine fi_if_lt F d_Rd_readName_9 (tgt := 28) (by decide) h19 (fun hc20 => ?_) (fun hc20 => ?_)
  · have hw := hw.1 hc20
    exact blk_28 M17 (r18 - 97) hw H locs ls w (lv_sub hl [1, 0] rfl)
  · have hw := hw.2 hc20
    refine lv_iload_n F.1 F.2.1 d_Rd_readName_12 rfl (lv_at hl 0 rfl) ?_
    refine lv_iconst (v := Int32.ofInt 3) F.1 F.2.1 d_Rd_readName_13 (by decide) ?_
    refine fi_icmp_ge F d_Rd_readName_14 (tgt := 28) (by decide) h19 (rgl (by decide)) (fun hc21 => ?_) (fun hc21 => ?_)
    · have hw := hw.1 hc21
      exact blk_28 M17 (r18 - 97) hw H locs ls w (lv_sub hl [1, 0] rfl)
    · have hw := hw.2 hc21
      refine lv_aload_n F.1 F.2.1 d_Rd_readName_17 rfl (lv_at hl 1 rfl) ?_
      refine fm_gR F w cl_Rd 1 1 T_1 (by decide) rfl k_169 d_Rd_readName_18 ?_
      refine lv_iload_n F.1 F.2.1 d_Rd_readName_21 rfl (lv_at hl 0 rfl) ?_
      obtain ⟨h22, hw⟩ := hw
      refine fx_c w hno hlk (fx_rV (As := [.int (Int32.ofInt (r18 - 97))]) (rest := []) F w cl_Gm ((M17 1 1).toNat) h22 (met_Gm_hasVariable l hst9 D ad cA n0 M17 ((M17 1 1).toNat) (r18 - 97) _ thr hw) e_Gm_hasVariable ki_Gm_hasVariable ks_Gm_hasVariable k_453 rfl hl.1 rfl (Nat.le_of_ble_eq_true rfl) ⟨⟨Nat.le_of_ble_eq_true rfl, Nat.le_of_ble_eq_true rfl⟩, Nat.le_of_ble_eq_true rfl, Nat.le_of_ble_eq_true rfl⟩ d_Rd_readName_22) (fun r24 M23 hw H locs w => ?_)
      show W p l e _ s m _ below meth c H locs 0 0 _ (F0 m 25 ls [.int (Int32.ofInt r24)])
      obtain ⟨h25, hw⟩ := hw
      refine fi_if_ne F d_Rd_readName_25 (tgt := 36) (by decide) h25 (fun hc26 => ?_) (fun hc26 => ?_)
      · have hw := hw.1 hc26
        exact blk_36 M23 (r18 - 97) hw H locs ls w (lv_sub hl [1, 0] rfl)
      · have hw := hw.2 hc26
        exact blk_28 M23 (r18 - 97) hw H locs ls w (lv_sub hl [1, 0] rfl)
set_option maxHeartbeats 4000000 in
set_option maxRecDepth 100000 in
theorem met_Rd_readSum (l : Launch) (hst9 : l.stackTraces = false) (D : va_G) (ad : Nat → Nat) (cA : Nat → ClassId) (n0 : Nat) (M : fm_M) (k1 : Nat) (a2 : Int) (a3 : Int) (post : Int → fm_M → Prop) (thr : String → fm_M → Prop) (hw : wp_Rd_readSum M k1 a2 a3 post thr) : fx_Met l y_Rd_readSum (Cond.code y_Rd_readSum b_Rd_readSum 7 none :: tb) { frames := 8, cells := 1, slots := 6, locals := 129 } [.ref (ad 1), .ref (ad k1), .int (Int32.ofInt a2), .int (Int32.ofInt a3)] D ad cA n0 M 3 post thr := by
  refine fx_met (by decide) (Nat.le_of_ble_eq_true rfl) (fun p e s m below meth c ls F w hno hr hlk hl => ?_)
  have blk_109 : ∀ (J_9 : (fm_M → Int → Int → Int → Prop)) (M : fm_M) (v5 : Int) (v6 : Int) (s0 : Int), B_Rd_readSum_109 k1 a2 a3 post thr J_9 M v5 v6 s0 → (∀ (M : fm_M) (v4 : Int) (v5 : Int) (v6 : Int), J_9 M v4 v5 v6 → fx_G p l e { frames := 8, cells := 1, slots := 6, locals := 129 } s m ([.ref (ad 1), .ref (ad k1), .int (Int32.ofInt a2), .int (Int32.ofInt a3)] : List Value).toArray below meth c D ad cA n0 3 post thr 7 M [(0, .ref (ad 1)), (1, .ref (ad k1)), (2, .int (Int32.ofInt a2)), (3, .int (Int32.ofInt a3)), (4, .int (Int32.ofInt v4)), (5, .int (Int32.ofInt v5)), (6, .int (Int32.ofInt v6))] 9 []) → fx_G p l e { frames := 8, cells := 1, slots := 6, locals := 129 } s m ([.ref (ad 1), .ref (ad k1), .int (Int32.ofInt a2), .int (Int32.ofInt a3)] : List Value).toArray below meth c D ad cA n0 3 post thr 7 M [(0, .ref (ad 1)), (1, .ref (ad k1)), (2, .int (Int32.ofInt a2)), (3, .int (Int32.ofInt a3)), (5, .int (Int32.ofInt v5)), (6, .int (Int32.ofInt v6))] 109 [.int (Int32.ofInt s0)] := by
    intro J_9 M v5 v6 s0 hw hJ_9 H locs ls w hl
    refine lv_istore F.1 F.2.1 d_Rd_readSum_109 hl (by decide) rfl (fun ls hl => ?_)
    have hl : lv_has ls 7 [(4, .int (Int32.ofInt s0)), (0, .ref (ad 1)), (1, .ref (ad k1)), (2, .int (Int32.ofInt a2)), (3, .int (Int32.ofInt a3)), (5, .int (Int32.ofInt v5)), (6, .int (Int32.ofInt v6))] := hl
    refine lv_aload_n F.1 F.2.1 d_Rd_readSum_111 rfl (lv_at hl 1 rfl) ?_
    refine lv_dup F.1 F.2.1 d_Rd_readSum_112 rfl ?_
    refine fm_gI F w cl_Rd 1 2 T_1 (by decide) rfl k_170 d_Rd_readSum_113 ?_
    refine lv_iconst (v := Int32.ofInt 1) F.1 F.2.1 d_Rd_readSum_116 (by decide) ?_
    refine fi_iadd F d_Rd_readSum_117 ?_
    refine fm_pI F w cl_Rd 1 2 T_1 (by decide) rfl k_170 rfl rfl d_Rd_readSum_118 (fun M92 hM92 H locs w => ?_)
    have hw := hw M92 hM92
    refine fi_iinc (k := 6) (v := (v6 + 1)) F d_Rd_readSum_121 hl rfl rfl (by decide) rfl (fun ls hl => ?_)
    have hl : lv_has ls 7 [(6, .int (Int32.ofInt (v6 + 1))), (4, .int (Int32.ofInt s0)), (0, .ref (ad 1)), (1, .ref (ad k1)), (2, .int (Int32.ofInt a2)), (3, .int (Int32.ofInt a3)), (5, .int (Int32.ofInt v5))] := hl
    refine lv_goto F.1 F.2.1 d_Rd_readSum_124 (tgt := 9) (by decide) ?_
    exact hJ_9 M92 s0 v5 (v6 + 1) hw H locs ls w (lv_sub hl [2, 3, 4, 5, 1, 6, 0] rfl)
  have blk_87 : ∀ (J_9 : (fm_M → Int → Int → Int → Prop)) (M : fm_M) (v4 : Int) (v6 : Int) (s0 : Int), B_Rd_readSum_87 k1 a2 a3 post thr J_9 M v4 v6 s0 → (∀ (M : fm_M) (v4 : Int) (v5 : Int) (v6 : Int), J_9 M v4 v5 v6 → fx_G p l e { frames := 8, cells := 1, slots := 6, locals := 129 } s m ([.ref (ad 1), .ref (ad k1), .int (Int32.ofInt a2), .int (Int32.ofInt a3)] : List Value).toArray below meth c D ad cA n0 3 post thr 7 M [(0, .ref (ad 1)), (1, .ref (ad k1)), (2, .int (Int32.ofInt a2)), (3, .int (Int32.ofInt a3)), (4, .int (Int32.ofInt v4)), (5, .int (Int32.ofInt v5)), (6, .int (Int32.ofInt v6))] 9 []) → fx_G p l e { frames := 8, cells := 1, slots := 6, locals := 129 } s m ([.ref (ad 1), .ref (ad k1), .int (Int32.ofInt a2), .int (Int32.ofInt a3)] : List Value).toArray below meth c D ad cA n0 3 post thr 7 M [(0, .ref (ad 1)), (1, .ref (ad k1)), (2, .int (Int32.ofInt a2)), (3, .int (Int32.ofInt a3)), (4, .int (Int32.ofInt v4)), (6, .int (Int32.ofInt v6))] 87 [.int (Int32.ofInt s0)] := by
    intro J_9 M v4 v6 s0 hw hJ_9 H locs ls w hl
    refine lv_istore F.1 F.2.1 d_Rd_readSum_87 hl (by decide) rfl (fun ls hl => ?_)
    have hl : lv_has ls 7 [(5, .int (Int32.ofInt s0)), (0, .ref (ad 1)), (1, .ref (ad k1)), (2, .int (Int32.ofInt a2)), (3, .int (Int32.ofInt a3)), (4, .int (Int32.ofInt v4)), (6, .int (Int32.ofInt v6))] := hl
    refine lv_iload F.1 F.2.1 d_Rd_readSum_89 (lv_at hl 0 rfl) ?_
    obtain ⟨h93, hw⟩ := hw
    refine fi_if_eq F d_Rd_readSum_91 (tgt := 121) (by decide) h93 (fun hc94 => ?_) (fun hc94 => ?_)
    · have hw := hw.1 hc94
      refine fi_iinc (k := 6) (v := (v6 + 1)) F d_Rd_readSum_121 hl rfl rfl (by decide) rfl (fun ls hl => ?_)
      have hl : lv_has ls 7 [(6, .int (Int32.ofInt (v6 + 1))), (5, .int (Int32.ofInt s0)), (0, .ref (ad 1)), (1, .ref (ad k1)), (2, .int (Int32.ofInt a2)), (3, .int (Int32.ofInt a3)), (4, .int (Int32.ofInt v4))] := hl
      refine lv_goto F.1 F.2.1 d_Rd_readSum_124 (tgt := 9) (by decide) ?_
      exact hJ_9 M v4 s0 (v6 + 1) hw H locs ls w (lv_sub hl [2, 3, 4, 5, 6, 1, 0] rfl)
    · have hw := hw.2 hc94
      refine lv_aload_n F.1 F.2.1 d_Rd_readSum_94 rfl (lv_at hl 1 rfl) ?_
      refine fx_c w hno hlk (fx_rV (As := []) (rest := []) F w cl_Rd 1 T_1 (met_Rd_here l hst9 D ad cA n0 M _ thr hw) e_Rd_here ki_Rd_here ks_Rd_here k_442 rfl hl.1 rfl (Nat.le_of_ble_eq_true rfl) ⟨⟨Nat.le_of_ble_eq_true rfl, Nat.le_of_ble_eq_true rfl⟩, Nat.le_of_ble_eq_true rfl, Nat.le_of_ble_eq_true rfl⟩ d_Rd_readSum_95) (fun r96 M95 hw H locs w => ?_)
      show W p l e _ s m _ below meth c H locs 0 0 _ (F0 m 98 ls [.int (Int32.ofInt r96)])
      refine lv_bipush (v := Int32.ofInt 45) F.1 F.2.1 d_Rd_readSum_98 (by decide) ?_
      obtain ⟨h97, hw⟩ := hw
      refine fi_icmp_ne F d_Rd_readSum_100 (tgt := 108) (by decide) h97 (rgl (by decide)) (fun hc98 => ?_) (fun hc98 => ?_)
      · have hw := hw.1 hc98
        refine lv_iload_n F.1 F.2.1 d_Rd_readSum_108 rfl (lv_at hl 4 rfl) ?_
        exact blk_109 J_9 M95 s0 v6 a3 hw hJ_9 H locs ls w (lv_sub hl [1, 2, 3, 4, 0, 6] rfl)
      · have hw := hw.2 hc98
        refine lv_iload_n F.1 F.2.1 d_Rd_readSum_103 rfl (lv_at hl 4 rfl) ?_
        refine fi_ineg F d_Rd_readSum_104 ?_
        refine lv_goto F.1 F.2.1 d_Rd_readSum_105 (tgt := 109) (by decide) ?_
        exact blk_109 J_9 M95 s0 v6 (-a3) hw hJ_9 H locs ls w (lv_sub hl [1, 2, 3, 4, 0, 6] rfl)
  have blk_64 : ∀ (J_9 : (fm_M → Int → Int → Int → Prop)) (M : fm_M) (v4 : Int) (v6 : Int), B_Rd_readSum_64 k1 a2 a3 post thr J_9 M v4 v6 → (∀ (M : fm_M) (v4 : Int) (v5 : Int) (v6 : Int), J_9 M v4 v5 v6 → fx_G p l e { frames := 8, cells := 1, slots := 6, locals := 129 } s m ([.ref (ad 1), .ref (ad k1), .int (Int32.ofInt a2), .int (Int32.ofInt a3)] : List Value).toArray below meth c D ad cA n0 3 post thr 7 M [(0, .ref (ad 1)), (1, .ref (ad k1)), (2, .int (Int32.ofInt a2)), (3, .int (Int32.ofInt a3)), (4, .int (Int32.ofInt v4)), (5, .int (Int32.ofInt v5)), (6, .int (Int32.ofInt v6))] 9 []) → fx_G p l e { frames := 8, cells := 1, slots := 6, locals := 129 } s m ([.ref (ad 1), .ref (ad k1), .int (Int32.ofInt a2), .int (Int32.ofInt a3)] : List Value).toArray below meth c D ad cA n0 3 post thr 7 M [(0, .ref (ad 1)), (1, .ref (ad k1)), (2, .int (Int32.ofInt a2)), (3, .int (Int32.ofInt a3)), (4, .int (Int32.ofInt v4)), (6, .int (Int32.ofInt v6))] 64 [] := by
    intro J_9 M v4 v6 hw hJ_9 H locs ls w hl
    refine lv_iload F.1 F.2.1 d_Rd_readSum_64 (lv_at hl 5 rfl) ?_
    refine lv_iconst (v := Int32.ofInt 1) F.1 F.2.1 d_Rd_readSum_66 (by decide) ?_
    refine fi_iadd F d_Rd_readSum_67 ?_
    refine lv_iconst (v := Int32.ofInt 4) F.1 F.2.1 d_Rd_readSum_68 (by decide) ?_
    obtain ⟨h99, hw⟩ := hw
    refine fi_icmp_ge F d_Rd_readSum_69 (tgt := 86) (by decide) h99 (rgl (by decide)) (fun hc100 => ?_) (fun hc100 => ?_)
    · have hw := hw.1 hc100
      refine lv_iconst (v := Int32.ofInt 0) F.1 F.2.1 d_Rd_readSum_86 (by decide) ?_
      exact blk_87 J_9 M v4 v6 0 hw hJ_9 H locs ls w (lv_sub hl [0, 1, 2, 3, 4, 5] rfl)
    · have hw := hw.2 hc100
      refine lv_aload_n F.1 F.2.1 d_Rd_readSum_72 rfl (lv_at hl 0 rfl) ?_
      refine fx_c w hno hlk (fx_rV (As := []) (rest := []) F w cl_Rd 1 T_1 (met_Rd_here l hst9 D ad cA n0 M _ thr hw) e_Rd_here ki_Rd_here ks_Rd_here k_442 rfl hl.1 rfl (Nat.le_of_ble_eq_true rfl) ⟨⟨Nat.le_of_ble_eq_true rfl, Nat.le_of_ble_eq_true rfl⟩, Nat.le_of_ble_eq_true rfl, Nat.le_of_ble_eq_true rfl⟩ d_Rd_readSum_73) (fun r102 M101 hw H locs w => ?_)
      show W p l e _ s m _ below meth c H locs 0 0 _ (F0 m 76 ls [.int (Int32.ofInt r102)])
      refine fx_c w hno hlk (fx_rS (As := [.int (Int32.ofInt r102)]) (rest := []) F w (met_Rd_isPlusOrMinus l hst9 D ad cA n0 M101 r102 _ thr hw) e_Rd_isPlusOrMinus kt_Rd_isPlusOrMinus k_541 rfl hl.1 rfl (Nat.le_of_ble_eq_true rfl) ⟨⟨Nat.le_of_ble_eq_true rfl, Nat.le_of_ble_eq_true rfl⟩, Nat.le_of_ble_eq_true rfl, Nat.le_of_ble_eq_true rfl⟩ d_Rd_readSum_76) (fun r104 M103 hw H locs w => ?_)
      show W p l e _ s m _ below meth c H locs 0 0 _ (F0 m 79 ls [.int (Int32.ofInt r104)])
      obtain ⟨h105, hw⟩ := hw
      refine fi_if_eq F d_Rd_readSum_79 (tgt := 86) (by decide) h105 (fun hc106 => ?_) (fun hc106 => ?_)
      · have hw := hw.1 hc106
        refine lv_iconst (v := Int32.ofInt 0) F.1 F.2.1 d_Rd_readSum_86 (by decide) ?_
        exact blk_87 J_9 M103 v4 v6 0 hw hJ_9 H locs ls w (lv_sub hl [0, 1, 2, 3, 4, 5] rfl)
      · have hw := hw.2 hc106
        refine lv_iconst (v := Int32.ofInt 1) F.1 F.2.1 d_Rd_readSum_82 (by decide) ?_
        refine lv_goto F.1 F.2.1 d_Rd_readSum_83 (tgt := 87) (by decide) ?_
        exact blk_87 J_9 M103 v4 v6 1 hw hJ_9 H locs ls w (lv_sub hl [0, 1, 2, 3, 4, 5] rfl)
  have blc_9 : ∀ (J_9 : (fm_M → Int → Int → Int → Prop)) (M : fm_M) (v4 : Int) (v5 : Int) (v6 : Int), C_Rd_readSum_9 k1 a2 a3 post thr J_9 M v4 v5 v6 → (∀ (M : fm_M) (v4 : Int) (v5 : Int) (v6 : Int), J_9 M v4 v5 v6 → fx_G p l e { frames := 8, cells := 1, slots := 6, locals := 129 } s m ([.ref (ad 1), .ref (ad k1), .int (Int32.ofInt a2), .int (Int32.ofInt a3)] : List Value).toArray below meth c D ad cA n0 3 post thr 7 M [(0, .ref (ad 1)), (1, .ref (ad k1)), (2, .int (Int32.ofInt a2)), (3, .int (Int32.ofInt a3)), (4, .int (Int32.ofInt v4)), (5, .int (Int32.ofInt v5)), (6, .int (Int32.ofInt v6))] 9 []) → fx_G p l e { frames := 8, cells := 1, slots := 6, locals := 129 } s m ([.ref (ad 1), .ref (ad k1), .int (Int32.ofInt a2), .int (Int32.ofInt a3)] : List Value).toArray below meth c D ad cA n0 3 post thr 7 M [(0, .ref (ad 1)), (1, .ref (ad k1)), (2, .int (Int32.ofInt a2)), (3, .int (Int32.ofInt a3)), (4, .int (Int32.ofInt v4)), (5, .int (Int32.ofInt v5)), (6, .int (Int32.ofInt v6))] 9 [] := by
    intro J_9 M v4 v5 v6 hw hJ_9 H locs ls w hl
    refine lv_iload F.1 F.2.1 d_Rd_readSum_9 (lv_at hl 6 rfl) ?_
    refine lv_iconst (v := Int32.ofInt 4) F.1 F.2.1 d_Rd_readSum_11 (by decide) ?_
    obtain ⟨h107, hw⟩ := hw
    refine fi_icmp_ge F d_Rd_readSum_12 (tgt := 127) (by decide) h107 (rgl (by decide)) (fun hc108 => ?_) (fun hc108 => ?_)
    · have hw := hw.1 hc108
      exact fx_vret F w hr hlk hw d_Rd_readSum_127
    · have hw := hw.2 hc108
      refine lv_iload F.1 F.2.1 d_Rd_readSum_15 (lv_at hl 5 rfl) ?_
      obtain ⟨h109, hw⟩ := hw
      refine fi_if_eq F d_Rd_readSum_17 (tgt := 127) (by decide) h109 (fun hc110 => ?_) (fun hc110 => ?_)
      · have hw := hw.1 hc110
        exact fx_vret F w hr hlk hw d_Rd_readSum_127
      · have hw := hw.2 hc110
        refine lv_aload_n F.1 F.2.1 d_Rd_readSum_20 rfl (lv_at hl 0 rfl) ?_
        refine fx_c w hno hlk (fx_rV (As := []) (rest := []) F w cl_Rd 1 T_1 (met_Rd_here l hst9 D ad cA n0 M _ thr hw) e_Rd_here ki_Rd_here ks_Rd_here k_442 rfl hl.1 rfl (Nat.le_of_ble_eq_true rfl) ⟨⟨Nat.le_of_ble_eq_true rfl, Nat.le_of_ble_eq_true rfl⟩, Nat.le_of_ble_eq_true rfl, Nat.le_of_ble_eq_true rfl⟩ d_Rd_readSum_21) (fun r112 M111 hw H locs w => ?_)
        show W p l e _ s m _ below meth c H locs 0 0 _ (F0 m 24 ls [.int (Int32.ofInt r112)])
        refine fx_c w hno hlk (fx_rS (As := [.int (Int32.ofInt r112)]) (rest := []) F w (met_Rd_isName l hst9 D ad cA n0 M111 r112 _ thr hw) e_Rd_isName kt_Rd_isName k_446 rfl hl.1 rfl (Nat.le_of_ble_eq_true rfl) ⟨⟨Nat.le_of_ble_eq_true rfl, Nat.le_of_ble_eq_true rfl⟩, Nat.le_of_ble_eq_true rfl, Nat.le_of_ble_eq_true rfl⟩ d_Rd_readSum_24) (fun r114 M113 hw H locs w => ?_)
        show W p l e _ s m _ below meth c H locs 0 0 _ (F0 m 27 ls [.int (Int32.ofInt r114)])
        obtain ⟨h115, hw⟩ := hw
        refine fi_if_eq F d_Rd_readSum_27 (tgt := 46) (by decide) h115 (fun hc116 => ?_) (fun hc116 => ?_)
        · have hw := hw.1 hc116
          refine lv_aload_n F.1 F.2.1 d_Rd_readSum_46 rfl (lv_at hl 1 rfl) ?_
          refine lv_iload_n F.1 F.2.1 d_Rd_readSum_47 rfl (lv_at hl 2 rfl) ?_
          refine lv_iconst (v := Int32.ofInt 3) F.1 F.2.1 d_Rd_readSum_48 (by decide) ?_
          refine fi_iadd F d_Rd_readSum_49 ?_
          refine lv_dup2_11 F.1 F.2.1 d_Rd_readSum_50 rfl rfl ?_
          obtain ⟨h117, hw⟩ := hw
          obtain ⟨h118, hw⟩ := hw
          refine fm_aI F w k1 h117 (fm_szlt h117.1) h118 d_Rd_readSum_51 ?_
          refine lv_iload F.1 F.2.1 d_Rd_readSum_52 (lv_at hl 4 rfl) ?_
          refine lv_aload_n F.1 F.2.1 d_Rd_readSum_54 rfl (lv_at hl 0 rfl) ?_
          refine lv_iconst (v := Int32.ofInt 0) F.1 F.2.1 d_Rd_readSum_55 (by decide) ?_
          refine lv_bipush (v := Int32.ofInt 99) F.1 F.2.1 d_Rd_readSum_56 (by decide) ?_
          refine fx_c w hno hlk (fx_rV (As := [.int (Int32.ofInt 0), .int (Int32.ofInt 99)]) (rest := [.int (Int32.ofInt v4), .int (Int32.ofInt (M113 k1 (a2 + 3).toNat)), .int (Int32.ofInt (a2 + 3)), .ref (ad k1)]) F w cl_Rd 1 T_1 (met_Rd_readNumber l hst9 D ad cA n0 M113 0 99 _ thr hw) e_Rd_readNumber ki_Rd_readNumber ks_Rd_readNumber k_526 rfl hl.1 rfl (Nat.le_of_ble_eq_true rfl) ⟨⟨Nat.le_of_ble_eq_true rfl, Nat.le_of_ble_eq_true rfl⟩, Nat.le_of_ble_eq_true rfl, Nat.le_of_ble_eq_true rfl⟩ d_Rd_readSum_58) (fun r120 M119 hw H locs w => ?_)
          show W p l e _ s m _ below meth c H locs 0 0 _ (F0 m 61 ls [.int (Int32.ofInt r120), .int (Int32.ofInt v4), .int (Int32.ofInt (M113 k1 (a2 + 3).toNat)), .int (Int32.ofInt (a2 + 3)), .ref (ad k1)])
          refine fi_imul F d_Rd_readSum_61 ?_
          refine fi_iadd F d_Rd_readSum_62 ?_
          refine fm_sI F w k1 h117 (fm_szlt h117.1) h118  d_Rd_readSum_63 (fun M121 hM121 H locs w => ?_)
          have hw := hw M121 hM121
          exact blk_64 J_9 M121 v4 v6 hw hJ_9 H locs ls w (lv_sub hl [0, 1, 2, 3, 4, 6] rfl)
        · have hw := hw.2 hc116
          refine lv_aload_n F.1 F.2.1 d_Rd_readSum_30 rfl (lv_at hl 1 rfl) ?_
          refine lv_iload_n F.1 F.2.1 d_Rd_readSum_31 rfl (lv_at hl 2 rfl) ?_
          refine lv_aload_n F.1 F.2.1 d_Rd_readSum_32 rfl (lv_at hl 0 rfl) ?_
          refine fx_c w hno hlk (fx_rV (As := []) (rest := [.int (Int32.ofInt a2), .ref (ad k1)]) F w cl_Rd 1 T_1 (met_Rd_readName l hst9 D ad cA n0 M113 _ thr hw) e_Rd_readName ki_Rd_readName ks_Rd_readName k_560 rfl hl.1 rfl (Nat.le_of_ble_eq_true rfl) ⟨⟨Nat.le_of_ble_eq_true rfl, Nat.le_of_ble_eq_true rfl⟩, Nat.le_of_ble_eq_true rfl, Nat.le_of_ble_eq_true rfl⟩ d_Rd_readSum_33) (fun r123 M122 hw H locs w => ?_)
          show W p l e _ s m _ below meth c H locs 0 0 _ (F0 m 36 ls [.int (Int32.ofInt r123), .int (Int32.ofInt a2), .ref (ad k1)])
          refine fi_iadd F d_Rd_readSum_36 ?_
          refine lv_dup2_11 F.1 F.2.1 d_Rd_readSum_37 rfl rfl ?_
          obtain ⟨h124, hw⟩ := hw
          obtain ⟨h125, hw⟩ := hw
          refine fm_aI F w k1 h124 (fm_szlt h124.1) h125 d_Rd_readSum_38 ?_
          refine lv_iload F.1 F.2.1 d_Rd_readSum_39 (lv_at hl 4 rfl) ?_
          refine fi_iadd F d_Rd_readSum_41 ?_
          refine fm_sI F w k1 h124 (fm_szlt h124.1) h125  d_Rd_readSum_42 (fun M126 hM126 H locs w => ?_)
          have hw := hw M126 hM126
          refine lv_goto F.1 F.2.1 d_Rd_readSum_43 (tgt := 64) (by decide) ?_
          exact blk_64 J_9 M126 v4 v6 hw hJ_9 H locs ls w (lv_sub hl [0, 1, 2, 3, 4, 6] rfl)
  have blk_9 : ∀ (M : fm_M) (v4 : Int) (v5 : Int) (v6 : Int), B_Rd_readSum_9 k1 a2 a3 post thr M v4 v5 v6 → fx_G p l e { frames := 8, cells := 1, slots := 6, locals := 129 } s m ([.ref (ad 1), .ref (ad k1), .int (Int32.ofInt a2), .int (Int32.ofInt a3)] : List Value).toArray below meth c D ad cA n0 3 post thr 7 M [(0, .ref (ad 1)), (1, .ref (ad k1)), (2, .int (Int32.ofInt a2)), (3, .int (Int32.ofInt a3)), (4, .int (Int32.ofInt v4)), (5, .int (Int32.ofInt v5)), (6, .int (Int32.ofInt v6))] 9 [] := by
    intro M v4 v5 v6 hw
    obtain ⟨I, μ, hI, hB⟩ := hw
    have key : ∀ (q : Nat) (M : fm_M) (v4 : Int) (v5 : Int) (v6 : Int), μ M v4 v5 v6 < q → I M v4 v5 v6 → fx_G p l e { frames := 8, cells := 1, slots := 6, locals := 129 } s m ([.ref (ad 1), .ref (ad k1), .int (Int32.ofInt a2), .int (Int32.ofInt a3)] : List Value).toArray below meth c D ad cA n0 3 post thr 7 M [(0, .ref (ad 1)), (1, .ref (ad k1)), (2, .int (Int32.ofInt a2)), (3, .int (Int32.ofInt a3)), (4, .int (Int32.ofInt v4)), (5, .int (Int32.ofInt v5)), (6, .int (Int32.ofInt v6))] 9 [] := by
      intro q
      induction q with
      | zero => intro M v4 v5 v6 h _; exact absurd h (Nat.not_lt_zero _)
      | succ q ih =>
        intro M v4 v5 v6 hμ hI
        exact blc_9 (fun M' v4' v5' v6' => I M' v4' v5' v6' ∧ μ M' v4' v5' v6' < μ M v4 v5 v6) M v4 v5 v6 (hB M v4 v5 v6 hI) (fun M' v4' v5' v6' hh => ih M' v4' v5' v6' (Nat.lt_of_lt_of_le hh.2 (Nat.le_of_lt_succ hμ)) hh.1)
    exact key _ M v4 v5 v6 (Nat.lt_succ_self _) hI
  have hl : lv_has ls 7 [(0, .ref (ad 1)), (1, .ref (ad k1)), (2, .int (Int32.ofInt a2)), (3, .int (Int32.ofInt a3))] := hl
  suffices h9 : fx_G p l e { frames := 8, cells := 1, slots := 6, locals := 129 } s m ([.ref (ad 1), .ref (ad k1), .int (Int32.ofInt a2), .int (Int32.ofInt a3)] : List Value).toArray below meth c D ad cA n0 3 post thr 7 M [(0, .ref (ad 1)), (1, .ref (ad k1)), (2, .int (Int32.ofInt a2)), (3, .int (Int32.ofInt a3))] 0 [] from h9 _ _ _ w hl
  intro H locs ls w hl
  refine lv_iload_n F.1 F.2.1 d_Rd_readSum_0 rfl (lv_at hl 3 rfl) ?_
  refine lv_istore F.1 F.2.1 d_Rd_readSum_1 hl (by decide) rfl (fun ls hl => ?_)
  have hl : lv_has ls 7 [(4, .int (Int32.ofInt a3)), (0, .ref (ad 1)), (1, .ref (ad k1)), (2, .int (Int32.ofInt a2)), (3, .int (Int32.ofInt a3))] := hl
  refine lv_iconst (v := Int32.ofInt 1) F.1 F.2.1 d_Rd_readSum_3 (by decide) ?_
  refine lv_istore F.1 F.2.1 d_Rd_readSum_4 hl (by decide) rfl (fun ls hl => ?_)
  have hl : lv_has ls 7 [(5, .int (Int32.ofInt 1)), (4, .int (Int32.ofInt a3)), (0, .ref (ad 1)), (1, .ref (ad k1)), (2, .int (Int32.ofInt a2)), (3, .int (Int32.ofInt a3))] := hl
  refine lv_iconst (v := Int32.ofInt 0) F.1 F.2.1 d_Rd_readSum_6 (by decide) ?_
  refine lv_istore F.1 F.2.1 d_Rd_readSum_7 hl (by decide) rfl (fun ls hl => ?_)
  have hl : lv_has ls 7 [(6, .int (Int32.ofInt 0)), (5, .int (Int32.ofInt 1)), (4, .int (Int32.ofInt a3)), (0, .ref (ad 1)), (1, .ref (ad k1)), (2, .int (Int32.ofInt a2)), (3, .int (Int32.ofInt a3))] := hl
  exact blk_9 M a3 1 0 hw H locs ls w (lv_sub hl [3, 4, 5, 6, 2, 1, 0] rfl)
set_option maxHeartbeats 4000000 in
set_option maxRecDepth 100000 in
theorem met_Rd_isComparison (l : Launch) (hst9 : l.stackTraces = false) (D : va_G) (ad : Nat → Nat) (cA : Nat → ClassId) (n0 : Nat) (M : fm_M) (a0 : Int) (post : Int → fm_M → Prop) (thr : String → fm_M → Prop) (hw : wp_Rd_isComparison M a0 post thr) : fx_Met l y_Rd_isComparison (Cond.code y_Rd_isComparison b_Rd_isComparison 1 (some .boolean) :: tb) { frames := 0, cells := 1, slots := 6, locals := 0 } [.int (Int32.ofInt a0)] D ad cA n0 M 0 post thr := by
  refine fx_met (by decide) (Nat.le_of_ble_eq_true rfl) (fun p e s m below meth c ls F w hno hr hlk hl => ?_)
  have blk_24 : ∀ (M : fm_M), B_Rd_isComparison_24 a0 post thr M → fx_G p l e { frames := 0, cells := 1, slots := 6, locals := 0 } s m ([.int (Int32.ofInt a0)] : List Value).toArray below meth c D ad cA n0 0 post thr 1 M [] 24 [] := by
    intro M hw H locs ls w hl
    refine lv_iconst (v := Int32.ofInt 1) F.1 F.2.1 d_Rd_isComparison_24 (by decide) ?_
    refine lv_goto F.1 F.2.1 d_Rd_isComparison_25 (tgt := 29) (by decide) ?_
    exact fx_zret F w hr hlk (fx_nz (by decide)) hw d_Rd_isComparison_29
  have hl : lv_has ls 1 [(0, .int (Int32.ofInt a0))] := hl
  suffices h9 : fx_G p l e { frames := 0, cells := 1, slots := 6, locals := 0 } s m ([.int (Int32.ofInt a0)] : List Value).toArray below meth c D ad cA n0 0 post thr 1 M [(0, .int (Int32.ofInt a0))] 0 [] from h9 _ _ _ w hl
  intro H locs ls w hl
  refine lv_iload_n F.1 F.2.1 d_Rd_isComparison_0 rfl (lv_at hl 0 rfl) ?_
  refine lv_bipush (v := Int32.ofInt 60) F.1 F.2.1 d_Rd_isComparison_1 (by decide) ?_
  obtain ⟨h6, hw⟩ := hw
  refine fi_icmp_eq F d_Rd_isComparison_3 (tgt := 24) (by decide) h6 (rgl (by decide)) (fun hc7 => ?_) (fun hc7 => ?_)
  · have hw := hw.1 hc7
    exact blk_24 M hw H locs ls w (lv_sub hl [] rfl)
  · have hw := hw.2 hc7
    refine lv_iload_n F.1 F.2.1 d_Rd_isComparison_6 rfl (lv_at hl 0 rfl) ?_
    refine lv_bipush (v := Int32.ofInt 62) F.1 F.2.1 d_Rd_isComparison_7 (by decide) ?_
    refine fi_icmp_eq F d_Rd_isComparison_9 (tgt := 24) (by decide) h6 (rgl (by decide)) (fun hc8 => ?_) (fun hc8 => ?_)
    · have hw := hw.1 hc8
      exact blk_24 M hw H locs ls w (lv_sub hl [] rfl)
    · have hw := hw.2 hc8
      refine lv_iload_n F.1 F.2.1 d_Rd_isComparison_12 rfl (lv_at hl 0 rfl) ?_
      refine lv_bipush (v := Int32.ofInt 61) F.1 F.2.1 d_Rd_isComparison_13 (by decide) ?_
      refine fi_icmp_eq F d_Rd_isComparison_15 (tgt := 24) (by decide) h6 (rgl (by decide)) (fun hc9 => ?_) (fun hc9 => ?_)
      · have hw := hw.1 hc9
        exact blk_24 M hw H locs ls w (lv_sub hl [] rfl)
      · have hw := hw.2 hc9
        refine lv_iload_n F.1 F.2.1 d_Rd_isComparison_18 rfl (lv_at hl 0 rfl) ?_
        refine lv_bipush (v := Int32.ofInt 35) F.1 F.2.1 d_Rd_isComparison_19 (by decide) ?_
        refine fi_icmp_ne F d_Rd_isComparison_21 (tgt := 28) (by decide) h6 (rgl (by decide)) (fun hc10 => ?_) (fun hc10 => ?_)
        · have hw := hw.1 hc10
          refine lv_iconst (v := Int32.ofInt 0) F.1 F.2.1 d_Rd_isComparison_28 (by decide) ?_
          exact fx_zret F w hr hlk (fx_nz (by decide)) hw d_Rd_isComparison_29
        · have hw := hw.2 hc10
          exact blk_24 M hw H locs ls w (lv_sub hl [] rfl)
set_option maxHeartbeats 4000000 in
set_option maxRecDepth 100000 in
theorem met_Rd_readGuard (l : Launch) (hst9 : l.stackTraces = false) (D : va_G) (ad : Nat → Nat) (cA : Nat → ClassId) (n0 : Nat) (M : fm_M) (k1 : Nat) (post : Int → fm_M → Prop) (thr : String → fm_M → Prop) (hw : wp_Rd_readGuard M k1 post thr) : fx_Met l y_Rd_readGuard (Cond.code y_Rd_readGuard b_Rd_readGuard 4 none :: tb) { frames := 9, cells := 1, slots := 6, locals := 155 } [.ref (ad 1), .ref (ad k1)] D ad cA n0 M 3 post thr := by
  refine fx_met (by decide) (Nat.le_of_ble_eq_true rfl) (fun p e s m below meth c ls F w hno hr hlk hl => ?_)
  have blk_111 : ∀ (J_8 : (fm_M → Int → Int → Prop)) (M : fm_M) (v3 : Int) (s0 : Int), B_Rd_readGuard_111 k1 post thr J_8 M v3 s0 → (∀ (M : fm_M) (v2 : Int) (v3 : Int), J_8 M v2 v3 → fx_G p l e { frames := 9, cells := 1, slots := 6, locals := 155 } s m ([.ref (ad 1), .ref (ad k1)] : List Value).toArray below meth c D ad cA n0 3 post thr 4 M [(0, .ref (ad 1)), (1, .ref (ad k1)), (2, .int (Int32.ofInt v2)), (3, .int (Int32.ofInt v3))] 8 []) → fx_G p l e { frames := 9, cells := 1, slots := 6, locals := 155 } s m ([.ref (ad 1), .ref (ad k1)] : List Value).toArray below meth c D ad cA n0 3 post thr 4 M [(0, .ref (ad 1)), (1, .ref (ad k1)), (3, .int (Int32.ofInt v3))] 111 [.int (Int32.ofInt s0)] := by
    intro J_8 M v3 s0 hw hJ_8 H locs ls w hl
    refine lv_istore_n F.1 F.2.1 d_Rd_readGuard_111 rfl hl (by decide) rfl (fun ls hl => ?_)
    have hl : lv_has ls 4 [(2, .int (Int32.ofInt s0)), (0, .ref (ad 1)), (1, .ref (ad k1)), (3, .int (Int32.ofInt v3))] := hl
    refine fi_iinc (k := 3) (v := (v3 + 1)) F d_Rd_readGuard_112 hl rfl rfl (by decide) rfl (fun ls hl => ?_)
    have hl : lv_has ls 4 [(3, .int (Int32.ofInt (v3 + 1))), (2, .int (Int32.ofInt s0)), (0, .ref (ad 1)), (1, .ref (ad k1))] := hl
    refine lv_goto F.1 F.2.1 d_Rd_readGuard_115 (tgt := 8) (by decide) ?_
    exact hJ_8 M s0 (v3 + 1) hw H locs ls w (lv_sub hl [2, 3, 1, 0] rfl)
  have blk_57 : ∀ (J_8 : (fm_M → Int → Int → Prop)) (M : fm_M) (v3 : Int), B_Rd_readGuard_57 k1 post thr J_8 M v3 → (∀ (M : fm_M) (v2 : Int) (v3 : Int), J_8 M v2 v3 → fx_G p l e { frames := 9, cells := 1, slots := 6, locals := 155 } s m ([.ref (ad 1), .ref (ad k1)] : List Value).toArray below meth c D ad cA n0 3 post thr 4 M [(0, .ref (ad 1)), (1, .ref (ad k1)), (2, .int (Int32.ofInt v2)), (3, .int (Int32.ofInt v3))] 8 []) → fx_G p l e { frames := 9, cells := 1, slots := 6, locals := 155 } s m ([.ref (ad 1), .ref (ad k1)] : List Value).toArray below meth c D ad cA n0 3 post thr 4 M [(0, .ref (ad 1)), (1, .ref (ad k1)), (3, .int (Int32.ofInt v3))] 57 [] := by
    intro J_8 M v3 hw hJ_8 H locs ls w hl
    refine lv_aload_n F.1 F.2.1 d_Rd_readGuard_57 rfl (lv_at hl 0 rfl) ?_
    refine lv_dup F.1 F.2.1 d_Rd_readGuard_58 rfl ?_
    refine fm_gI F w cl_Rd 1 2 T_1 (by decide) rfl k_170 d_Rd_readGuard_59 ?_
    refine lv_iconst (v := Int32.ofInt 1) F.1 F.2.1 d_Rd_readGuard_62 (by decide) ?_
    refine fi_iadd F d_Rd_readGuard_63 ?_
    refine fm_pI F w cl_Rd 1 2 T_1 (by decide) rfl k_170 rfl rfl d_Rd_readGuard_64 (fun M63 hM63 H locs w => ?_)
    have hw := hw M63 hM63
    refine lv_aload_n F.1 F.2.1 d_Rd_readGuard_67 rfl (lv_at hl 0 rfl) ?_
    refine lv_aload_n F.1 F.2.1 d_Rd_readGuard_68 rfl (lv_at hl 1 rfl) ?_
    obtain ⟨h64, hw⟩ := hw
    refine fm_gO F w cl_Gu k1 0 (k1 + 1) h64 (by decide) rfl rfl k_67 d_Rd_readGuard_69 ?_
    refine lv_iload_n F.1 F.2.1 d_Rd_readGuard_72 rfl (lv_at hl 2 rfl) ?_
    refine lv_iconst (v := Int32.ofInt 4) F.1 F.2.1 d_Rd_readGuard_73 (by decide) ?_
    refine fi_imul F d_Rd_readGuard_74 ?_
    refine lv_iconst (v := Int32.ofInt (-1)) F.1 F.2.1 d_Rd_readGuard_75 (by decide) ?_
    refine fx_c w hno hlk (fx_rV (As := [.ref (ad (k1 + 1)), .int (Int32.ofInt (v3 * 4)), .int (Int32.ofInt (-1))]) (rest := []) F w cl_Rd 1 T_1 (met_Rd_readSum l hst9 D ad cA n0 M63 (k1 + 1) (v3 * 4) (-1) _ thr hw) e_Rd_readSum ki_Rd_readSum ks_Rd_readSum k_556 rfl hl.1 rfl (Nat.le_of_ble_eq_true rfl) ⟨⟨Nat.le_of_ble_eq_true rfl, Nat.le_of_ble_eq_true rfl⟩, Nat.le_of_ble_eq_true rfl, Nat.le_of_ble_eq_true rfl⟩ d_Rd_readGuard_76) (fun r66 M65 hw H locs w => ?_)
    refine lv_aload_n F.1 F.2.1 d_Rd_readGuard_79 rfl (lv_at hl 1 rfl) ?_
    refine lv_dup F.1 F.2.1 d_Rd_readGuard_80 rfl ?_
    refine fm_gI F w cl_Gu k1 2 h64 (by decide) rfl k_71 d_Rd_readGuard_81 ?_
    refine lv_iconst (v := Int32.ofInt 1) F.1 F.2.1 d_Rd_readGuard_84 (by decide) ?_
    refine fi_iadd F d_Rd_readGuard_85 ?_
    refine fm_pI F w cl_Gu k1 2 h64 (by decide) rfl k_71 rfl rfl d_Rd_readGuard_86 (fun M67 hM67 H locs w => ?_)
    have hw := hw M67 hM67
    refine lv_aload_n F.1 F.2.1 d_Rd_readGuard_89 rfl (lv_at hl 1 rfl) ?_
    refine fm_gI F w cl_Gu k1 2 h64 (by decide) rfl k_71 d_Rd_readGuard_90 ?_
    refine lv_iconst (v := Int32.ofInt 4) F.1 F.2.1 d_Rd_readGuard_93 (by decide) ?_
    obtain ⟨h68, hw⟩ := hw
    refine fi_icmp_ge F d_Rd_readGuard_94 (tgt := 110) (by decide) h68 (rgl (by decide)) (fun hc69 => ?_) (fun hc69 => ?_)
    · have hw := hw.1 hc69
      refine lv_iconst (v := Int32.ofInt 0) F.1 F.2.1 d_Rd_readGuard_110 (by decide) ?_
      exact blk_111 J_8 M67 v3 0 hw hJ_8 H locs ls w (lv_sub hl [0, 1, 2] rfl)
    · have hw := hw.2 hc69
      refine lv_aload_n F.1 F.2.1 d_Rd_readGuard_97 rfl (lv_at hl 0 rfl) ?_
      refine lv_bipush (v := Int32.ofInt 38) F.1 F.2.1 d_Rd_readGuard_98 (by decide) ?_
      refine fx_c w hno hlk (fx_rV (As := [.int (Int32.ofInt 38)]) (rest := []) F w cl_Rd 1 T_1 (met_Rd_skips l hst9 D ad cA n0 M67 38 _ thr hw) e_Rd_skips ki_Rd_skips ks_Rd_skips k_537 rfl hl.1 rfl (Nat.le_of_ble_eq_true rfl) ⟨⟨Nat.le_of_ble_eq_true rfl, Nat.le_of_ble_eq_true rfl⟩, Nat.le_of_ble_eq_true rfl, Nat.le_of_ble_eq_true rfl⟩ d_Rd_readGuard_100) (fun r71 M70 hw H locs w => ?_)
      show W p l e _ s m _ below meth c H locs 0 0 _ (F0 m 103 ls [.int (Int32.ofInt r71)])
      obtain ⟨h72, hw⟩ := hw
      refine fi_if_eq F d_Rd_readGuard_103 (tgt := 110) (by decide) h72 (fun hc73 => ?_) (fun hc73 => ?_)
      · have hw := hw.1 hc73
        refine lv_iconst (v := Int32.ofInt 0) F.1 F.2.1 d_Rd_readGuard_110 (by decide) ?_
        exact blk_111 J_8 M70 v3 0 hw hJ_8 H locs ls w (lv_sub hl [0, 1, 2] rfl)
      · have hw := hw.2 hc73
        refine lv_iconst (v := Int32.ofInt 1) F.1 F.2.1 d_Rd_readGuard_106 (by decide) ?_
        refine lv_goto F.1 F.2.1 d_Rd_readGuard_107 (tgt := 111) (by decide) ?_
        exact blk_111 J_8 M70 v3 1 hw hJ_8 H locs ls w (lv_sub hl [0, 1, 2] rfl)
  have blc_8 : ∀ (J_8 : (fm_M → Int → Int → Prop)) (M : fm_M) (v2 : Int) (v3 : Int), C_Rd_readGuard_8 k1 post thr J_8 M v2 v3 → (∀ (M : fm_M) (v2 : Int) (v3 : Int), J_8 M v2 v3 → fx_G p l e { frames := 9, cells := 1, slots := 6, locals := 155 } s m ([.ref (ad 1), .ref (ad k1)] : List Value).toArray below meth c D ad cA n0 3 post thr 4 M [(0, .ref (ad 1)), (1, .ref (ad k1)), (2, .int (Int32.ofInt v2)), (3, .int (Int32.ofInt v3))] 8 []) → fx_G p l e { frames := 9, cells := 1, slots := 6, locals := 155 } s m ([.ref (ad 1), .ref (ad k1)] : List Value).toArray below meth c D ad cA n0 3 post thr 4 M [(0, .ref (ad 1)), (1, .ref (ad k1)), (2, .int (Int32.ofInt v2)), (3, .int (Int32.ofInt v3))] 8 [] := by
    intro J_8 M v2 v3 hw hJ_8 H locs ls w hl
    refine lv_iload_n F.1 F.2.1 d_Rd_readGuard_8 rfl (lv_at hl 3 rfl) ?_
    refine lv_iconst (v := Int32.ofInt 4) F.1 F.2.1 d_Rd_readGuard_9 (by decide) ?_
    obtain ⟨h74, hw⟩ := hw
    refine fi_icmp_ge F d_Rd_readGuard_10 (tgt := 118) (by decide) h74 (rgl (by decide)) (fun hc75 => ?_) (fun hc75 => ?_)
    · have hw := hw.1 hc75
      exact fx_vret F w hr hlk hw d_Rd_readGuard_118
    · have hw := hw.2 hc75
      refine lv_iload_n F.1 F.2.1 d_Rd_readGuard_13 rfl (lv_at hl 2 rfl) ?_
      obtain ⟨h76, hw⟩ := hw
      refine fi_if_eq F d_Rd_readGuard_14 (tgt := 118) (by decide) h76 (fun hc77 => ?_) (fun hc77 => ?_)
      · have hw := hw.1 hc77
        exact fx_vret F w hr hlk hw d_Rd_readGuard_118
      · have hw := hw.2 hc77
        refine lv_aload_n F.1 F.2.1 d_Rd_readGuard_17 rfl (lv_at hl 0 rfl) ?_
        refine lv_aload_n F.1 F.2.1 d_Rd_readGuard_18 rfl (lv_at hl 1 rfl) ?_
        obtain ⟨h78, hw⟩ := hw
        refine fm_gO F w cl_Gu k1 0 (k1 + 1) h78 (by decide) rfl rfl k_67 d_Rd_readGuard_19 ?_
        refine lv_iload_n F.1 F.2.1 d_Rd_readGuard_22 rfl (lv_at hl 3 rfl) ?_
        refine lv_iconst (v := Int32.ofInt 4) F.1 F.2.1 d_Rd_readGuard_23 (by decide) ?_
        refine fi_imul F d_Rd_readGuard_24 ?_
        refine lv_iconst (v := Int32.ofInt 1) F.1 F.2.1 d_Rd_readGuard_25 (by decide) ?_
        refine fx_c w hno hlk (fx_rV (As := [.ref (ad (k1 + 1)), .int (Int32.ofInt (v3 * 4)), .int (Int32.ofInt 1)]) (rest := []) F w cl_Rd 1 T_1 (met_Rd_readSum l hst9 D ad cA n0 M (k1 + 1) (v3 * 4) 1 _ thr hw) e_Rd_readSum ki_Rd_readSum ks_Rd_readSum k_556 rfl hl.1 rfl (Nat.le_of_ble_eq_true rfl) ⟨⟨Nat.le_of_ble_eq_true rfl, Nat.le_of_ble_eq_true rfl⟩, Nat.le_of_ble_eq_true rfl, Nat.le_of_ble_eq_true rfl⟩ d_Rd_readGuard_26) (fun r80 M79 hw H locs w => ?_)
        refine lv_aload_n F.1 F.2.1 d_Rd_readGuard_29 rfl (lv_at hl 1 rfl) ?_
        refine fm_gO F w cl_Gu k1 1 (k1 + 2) h78 (by decide) rfl rfl k_69 d_Rd_readGuard_30 ?_
        refine lv_iload_n F.1 F.2.1 d_Rd_readGuard_33 rfl (lv_at hl 3 rfl) ?_
        refine lv_aload_n F.1 F.2.1 d_Rd_readGuard_34 rfl (lv_at hl 0 rfl) ?_
        refine fx_c w hno hlk (fx_rV (As := []) (rest := [.int (Int32.ofInt v3), .ref (ad (k1 + 2))]) F w cl_Rd 1 T_1 (met_Rd_here l hst9 D ad cA n0 M79 _ thr hw) e_Rd_here ki_Rd_here ks_Rd_here k_442 rfl hl.1 rfl (Nat.le_of_ble_eq_true rfl) ⟨⟨Nat.le_of_ble_eq_true rfl, Nat.le_of_ble_eq_true rfl⟩, Nat.le_of_ble_eq_true rfl, Nat.le_of_ble_eq_true rfl⟩ d_Rd_readGuard_35) (fun r82 M81 hw H locs w => ?_)
        show W p l e _ s m _ below meth c H locs 0 0 _ (F0 m 38 ls [.int (Int32.ofInt r82), .int (Int32.ofInt v3), .ref (ad (k1 + 2))])
        obtain ⟨h83, hw⟩ := hw
        obtain ⟨h84, hw⟩ := hw
        obtain ⟨h85, hw⟩ := hw
        refine fm_sC F w (k1 + 2) h83 (by decide) h84 h85 d_Rd_readGuard_38 (fun M86 hM86 H locs w => ?_)
        have hw := hw M86 hM86
        refine lv_aload_n F.1 F.2.1 d_Rd_readGuard_39 rfl (lv_at hl 0 rfl) ?_
        refine fx_c w hno hlk (fx_rV (As := []) (rest := []) F w cl_Rd 1 T_1 (met_Rd_here l hst9 D ad cA n0 M86 _ thr hw) e_Rd_here ki_Rd_here ks_Rd_here k_442 rfl hl.1 rfl (Nat.le_of_ble_eq_true rfl) ⟨⟨Nat.le_of_ble_eq_true rfl, Nat.le_of_ble_eq_true rfl⟩, Nat.le_of_ble_eq_true rfl, Nat.le_of_ble_eq_true rfl⟩ d_Rd_readGuard_40) (fun r88 M87 hw H locs w => ?_)
        show W p l e _ s m _ below meth c H locs 0 0 _ (F0 m 43 ls [.int (Int32.ofInt r88)])
        refine fx_c w hno hlk (fx_rS (As := [.int (Int32.ofInt r88)]) (rest := []) F w (met_Rd_isComparison l hst9 D ad cA n0 M87 r88 _ thr hw) e_Rd_isComparison kt_Rd_isComparison k_564 rfl hl.1 rfl (Nat.le_of_ble_eq_true rfl) ⟨⟨Nat.le_of_ble_eq_true rfl, Nat.le_of_ble_eq_true rfl⟩, Nat.le_of_ble_eq_true rfl, Nat.le_of_ble_eq_true rfl⟩ d_Rd_readGuard_43) (fun r90 M89 hw H locs w => ?_)
        show W p l e _ s m _ below meth c H locs 0 0 _ (F0 m 46 ls [.int (Int32.ofInt r90)])
        obtain ⟨h91, hw⟩ := hw
        refine fi_if_ne F d_Rd_readGuard_46 (tgt := 57) (by decide) h91 (fun hc92 => ?_) (fun hc92 => ?_)
        · have hw := hw.1 hc92
          exact blk_57 J_8 M89 v3 hw hJ_8 H locs ls w (lv_sub hl [0, 1, 3] rfl)
        · have hw := hw.2 hc92
          refine lv_aload_n F.1 F.2.1 d_Rd_readGuard_49 rfl (lv_at hl 0 rfl) ?_
          refine lv_aload_n F.1 F.2.1 d_Rd_readGuard_50 rfl (lv_at hl 0 rfl) ?_
          refine fm_gI F w cl_Rd 1 2 T_1 (by decide) rfl k_170 d_Rd_readGuard_51 ?_
          refine fx_c w hno hlk (fx_rV (As := [.int (Int32.ofInt (M89 1 2))]) (rest := []) F w cl_Rd 1 T_1 (met_Rd_refuse l hst9 D ad cA n0 M89 (M89 1 2) _ thr hw) e_Rd_refuse ki_Rd_refuse ks_Rd_refuse k_454 rfl hl.1 rfl (Nat.le_of_ble_eq_true rfl) ⟨⟨Nat.le_of_ble_eq_true rfl, Nat.le_of_ble_eq_true rfl⟩, Nat.le_of_ble_eq_true rfl, Nat.le_of_ble_eq_true rfl⟩ d_Rd_readGuard_54) (fun r94 M93 hw H locs w => ?_)
          exact blk_57 J_8 M93 v3 hw hJ_8 H locs ls w (lv_sub hl [0, 1, 3] rfl)
  have blk_8 : ∀ (M : fm_M) (v2 : Int) (v3 : Int), B_Rd_readGuard_8 k1 post thr M v2 v3 → fx_G p l e { frames := 9, cells := 1, slots := 6, locals := 155 } s m ([.ref (ad 1), .ref (ad k1)] : List Value).toArray below meth c D ad cA n0 3 post thr 4 M [(0, .ref (ad 1)), (1, .ref (ad k1)), (2, .int (Int32.ofInt v2)), (3, .int (Int32.ofInt v3))] 8 [] := by
    intro M v2 v3 hw
    obtain ⟨I, μ, hI, hB⟩ := hw
    have key : ∀ (q : Nat) (M : fm_M) (v2 : Int) (v3 : Int), μ M v2 v3 < q → I M v2 v3 → fx_G p l e { frames := 9, cells := 1, slots := 6, locals := 155 } s m ([.ref (ad 1), .ref (ad k1)] : List Value).toArray below meth c D ad cA n0 3 post thr 4 M [(0, .ref (ad 1)), (1, .ref (ad k1)), (2, .int (Int32.ofInt v2)), (3, .int (Int32.ofInt v3))] 8 [] := by
      intro q
      induction q with
      | zero => intro M v2 v3 h _; exact absurd h (Nat.not_lt_zero _)
      | succ q ih =>
        intro M v2 v3 hμ hI
        exact blc_8 (fun M' v2' v3' => I M' v2' v3' ∧ μ M' v2' v3' < μ M v2 v3) M v2 v3 (hB M v2 v3 hI) (fun M' v2' v3' hh => ih M' v2' v3' (Nat.lt_of_lt_of_le hh.2 (Nat.le_of_lt_succ hμ)) hh.1)
    exact key _ M v2 v3 (Nat.lt_succ_self _) hI
  have hl : lv_has ls 4 [(0, .ref (ad 1)), (1, .ref (ad k1))] := hl
  suffices h9 : fx_G p l e { frames := 9, cells := 1, slots := 6, locals := 155 } s m ([.ref (ad 1), .ref (ad k1)] : List Value).toArray below meth c D ad cA n0 3 post thr 4 M [(0, .ref (ad 1)), (1, .ref (ad k1))] 0 [] from h9 _ _ _ w hl
  intro H locs ls w hl
  refine lv_aload_n F.1 F.2.1 d_Rd_readGuard_0 rfl (lv_at hl 1 rfl) ?_
  obtain ⟨h95, hw⟩ := hw
  refine fx_c w hno hlk (fx_rV (As := []) (rest := []) F w cl_Gu k1 h95 (met_Gu_clear l hst9 D ad cA n0 M k1 _ thr hw) e_Gu_clear ki_Gu_clear ks_Gu_clear k_552 rfl hl.1 rfl (Nat.le_of_ble_eq_true rfl) ⟨⟨Nat.le_of_ble_eq_true rfl, Nat.le_of_ble_eq_true rfl⟩, Nat.le_of_ble_eq_true rfl, Nat.le_of_ble_eq_true rfl⟩ d_Rd_readGuard_1) (fun r97 M96 hw H locs w => ?_)
  refine lv_iconst (v := Int32.ofInt 1) F.1 F.2.1 d_Rd_readGuard_4 (by decide) ?_
  refine lv_istore_n F.1 F.2.1 d_Rd_readGuard_5 rfl hl (by decide) rfl (fun ls hl => ?_)
  have hl : lv_has ls 4 [(2, .int (Int32.ofInt 1)), (0, .ref (ad 1)), (1, .ref (ad k1))] := hl
  refine lv_iconst (v := Int32.ofInt 0) F.1 F.2.1 d_Rd_readGuard_6 (by decide) ?_
  refine lv_istore_n F.1 F.2.1 d_Rd_readGuard_7 rfl hl (by decide) rfl (fun ls hl => ?_)
  have hl : lv_has ls 4 [(3, .int (Int32.ofInt 0)), (2, .int (Int32.ofInt 1)), (0, .ref (ad 1)), (1, .ref (ad k1))] := hl
  exact blk_8 M96 1 0 hw H locs ls w (lv_sub hl [2, 3, 1, 0] rfl)
set_option maxHeartbeats 4000000 in
set_option maxRecDepth 100000 in
theorem met_Br_clearSum (l : Launch) (hst9 : l.stackTraces = false) (D : va_G) (ad : Nat → Nat) (cA : Nat → ClassId) (n0 : Nat) (M : fm_M) (k0 : Nat) (a1 : Int) (post : Int → fm_M → Prop) (thr : String → fm_M → Prop) (hw : wp_Br_clearSum M k0 a1 post thr) : fx_Met l y_Br_clearSum (Cond.code y_Br_clearSum b_Br_clearSum 3 none :: tb) { frames := 0, cells := 1, slots := 6, locals := 0 } [.ref (ad k0), .int (Int32.ofInt a1)] D ad cA n0 M 3 post thr := by
  refine fx_met (by decide) (Nat.le_of_ble_eq_true rfl) (fun p e s m below meth c ls F w hno hr hlk hl => ?_)
  have blc_2 : ∀ (J_2 : (fm_M → Int → Prop)) (M : fm_M) (v2 : Int), C_Br_clearSum_2 k0 a1 post thr J_2 M v2 → (∀ (M : fm_M) (v2 : Int), J_2 M v2 → fx_G p l e { frames := 0, cells := 1, slots := 6, locals := 0 } s m ([.ref (ad k0), .int (Int32.ofInt a1)] : List Value).toArray below meth c D ad cA n0 3 post thr 3 M [(0, .ref (ad k0)), (1, .int (Int32.ofInt a1)), (2, .int (Int32.ofInt v2))] 2 []) → fx_G p l e { frames := 0, cells := 1, slots := 6, locals := 0 } s m ([.ref (ad k0), .int (Int32.ofInt a1)] : List Value).toArray below meth c D ad cA n0 3 post thr 3 M [(0, .ref (ad k0)), (1, .int (Int32.ofInt a1)), (2, .int (Int32.ofInt v2))] 2 [] := by
    intro J_2 M v2 hw hJ_2 H locs ls w hl
    refine lv_iload_n F.1 F.2.1 d_Br_clearSum_2 rfl (lv_at hl 2 rfl) ?_
    refine lv_iconst (v := Int32.ofInt 4) F.1 F.2.1 d_Br_clearSum_3 (by decide) ?_
    obtain ⟨h11, hw⟩ := hw
    refine fi_icmp_ge F d_Br_clearSum_4 (tgt := 24) (by decide) h11 (rgl (by decide)) (fun hc12 => ?_) (fun hc12 => ?_)
    · have hw := hw.1 hc12
      exact fx_vret F w hr hlk hw d_Br_clearSum_24
    · have hw := hw.2 hc12
      refine lv_aload_n F.1 F.2.1 d_Br_clearSum_7 rfl (lv_at hl 0 rfl) ?_
      obtain ⟨h13, hw⟩ := hw
      refine fm_gO F w cl_Br k0 0 (k0 + 1) h13 (by decide) rfl rfl k_94 d_Br_clearSum_8 ?_
      refine lv_iload_n F.1 F.2.1 d_Br_clearSum_11 rfl (lv_at hl 1 rfl) ?_
      refine lv_iconst (v := Int32.ofInt 4) F.1 F.2.1 d_Br_clearSum_12 (by decide) ?_
      refine fi_imul F d_Br_clearSum_13 ?_
      refine lv_iload_n F.1 F.2.1 d_Br_clearSum_14 rfl (lv_at hl 2 rfl) ?_
      refine fi_iadd F d_Br_clearSum_15 ?_
      refine lv_iconst (v := Int32.ofInt 0) F.1 F.2.1 d_Br_clearSum_16 (by decide) ?_
      obtain ⟨h14, hw⟩ := hw
      obtain ⟨h15, hw⟩ := hw
      refine fm_sI F w (k0 + 1) h14 (by decide) h15  d_Br_clearSum_17 (fun M16 hM16 H locs w => ?_)
      have hw := hw M16 hM16
      refine fi_iinc (k := 2) (v := (v2 + 1)) F d_Br_clearSum_18 hl rfl rfl (by decide) rfl (fun ls hl => ?_)
      have hl : lv_has ls 3 [(2, .int (Int32.ofInt (v2 + 1))), (0, .ref (ad k0)), (1, .int (Int32.ofInt a1))] := hl
      refine lv_goto F.1 F.2.1 d_Br_clearSum_21 (tgt := 2) (by decide) ?_
      exact hJ_2 M16 (v2 + 1) hw H locs ls w (lv_sub hl [1, 2, 0] rfl)
  have blk_2 : ∀ (M : fm_M) (v2 : Int), B_Br_clearSum_2 k0 a1 post thr M v2 → fx_G p l e { frames := 0, cells := 1, slots := 6, locals := 0 } s m ([.ref (ad k0), .int (Int32.ofInt a1)] : List Value).toArray below meth c D ad cA n0 3 post thr 3 M [(0, .ref (ad k0)), (1, .int (Int32.ofInt a1)), (2, .int (Int32.ofInt v2))] 2 [] := by
    intro M v2 hw
    obtain ⟨I, μ, hI, hB⟩ := hw
    have key : ∀ (q : Nat) (M : fm_M) (v2 : Int), μ M v2 < q → I M v2 → fx_G p l e { frames := 0, cells := 1, slots := 6, locals := 0 } s m ([.ref (ad k0), .int (Int32.ofInt a1)] : List Value).toArray below meth c D ad cA n0 3 post thr 3 M [(0, .ref (ad k0)), (1, .int (Int32.ofInt a1)), (2, .int (Int32.ofInt v2))] 2 [] := by
      intro q
      induction q with
      | zero => intro M v2 h _; exact absurd h (Nat.not_lt_zero _)
      | succ q ih =>
        intro M v2 hμ hI
        exact blc_2 (fun M' v2' => I M' v2' ∧ μ M' v2' < μ M v2) M v2 (hB M v2 hI) (fun M' v2' hh => ih M' v2' (Nat.lt_of_lt_of_le hh.2 (Nat.le_of_lt_succ hμ)) hh.1)
    exact key _ M v2 (Nat.lt_succ_self _) hI
  have hl : lv_has ls 3 [(0, .ref (ad k0)), (1, .int (Int32.ofInt a1))] := hl
  suffices h9 : fx_G p l e { frames := 0, cells := 1, slots := 6, locals := 0 } s m ([.ref (ad k0), .int (Int32.ofInt a1)] : List Value).toArray below meth c D ad cA n0 3 post thr 3 M [(0, .ref (ad k0)), (1, .int (Int32.ofInt a1))] 0 [] from h9 _ _ _ w hl
  intro H locs ls w hl
  refine lv_iconst (v := Int32.ofInt 0) F.1 F.2.1 d_Br_clearSum_0 (by decide) ?_
  refine lv_istore_n F.1 F.2.1 d_Br_clearSum_1 rfl hl (by decide) rfl (fun ls hl => ?_)
  have hl : lv_has ls 3 [(2, .int (Int32.ofInt 0)), (0, .ref (ad k0)), (1, .int (Int32.ofInt a1))] := hl
  exact blk_2 M 0 hw H locs ls w (lv_sub hl [1, 2, 0] rfl)
set_option maxHeartbeats 4000000 in
set_option maxRecDepth 100000 in
theorem met_Br_clear (l : Launch) (hst9 : l.stackTraces = false) (D : va_G) (ad : Nat → Nat) (cA : Nat → ClassId) (n0 : Nat) (M : fm_M) (k0 : Nat) (post : Int → fm_M → Prop) (thr : String → fm_M → Prop) (hw : wp_Br_clear M k0 post thr) : fx_Met l y_Br_clear (Cond.code y_Br_clear b_Br_clear 2 none :: tb) { frames := 1, cells := 1, slots := 6, locals := 22 } [.ref (ad k0)] D ad cA n0 M 3 post thr := by
  refine fx_met (by decide) (Nat.le_of_ble_eq_true rfl) (fun p e s m below meth c ls F w hno hr hlk hl => ?_)
  have blc_7 : ∀ (J_7 : (fm_M → Int → Prop)) (M : fm_M) (v1 : Int), C_Br_clear_7 k0 post thr J_7 M v1 → (∀ (M : fm_M) (v1 : Int), J_7 M v1 → fx_G p l e { frames := 1, cells := 1, slots := 6, locals := 22 } s m ([.ref (ad k0)] : List Value).toArray below meth c D ad cA n0 3 post thr 2 M [(0, .ref (ad k0)), (1, .int (Int32.ofInt v1))] 7 []) → fx_G p l e { frames := 1, cells := 1, slots := 6, locals := 22 } s m ([.ref (ad k0)] : List Value).toArray below meth c D ad cA n0 3 post thr 2 M [(0, .ref (ad k0)), (1, .int (Int32.ofInt v1))] 7 [] := by
    intro J_7 M v1 hw hJ_7 H locs ls w hl
    refine lv_iload_n F.1 F.2.1 d_Br_clear_7 rfl (lv_at hl 1 rfl) ?_
    refine lv_iconst (v := Int32.ofInt 3) F.1 F.2.1 d_Br_clear_8 (by decide) ?_
    obtain ⟨h16, hw⟩ := hw
    refine fi_icmp_ge F d_Br_clear_9 (tgt := 34) (by decide) h16 (rgl (by decide)) (fun hc17 => ?_) (fun hc17 => ?_)
    · have hw := hw.1 hc17
      exact fx_vret F w hr hlk hw d_Br_clear_34
    · have hw := hw.2 hc17
      refine lv_aload_n F.1 F.2.1 d_Br_clear_12 rfl (lv_at hl 0 rfl) ?_
      refine lv_iload_n F.1 F.2.1 d_Br_clear_13 rfl (lv_at hl 1 rfl) ?_
      obtain ⟨h18, hw⟩ := hw
      refine fx_c w hno hlk (fx_rV (As := [.int (Int32.ofInt v1)]) (rest := []) F w cl_Br k0 h18 (met_Br_clearSum l hst9 D ad cA n0 M k0 v1 _ thr hw) e_Br_clearSum ki_Br_clearSum ks_Br_clearSum k_575 rfl hl.1 rfl (Nat.le_of_ble_eq_true rfl) ⟨⟨Nat.le_of_ble_eq_true rfl, Nat.le_of_ble_eq_true rfl⟩, Nat.le_of_ble_eq_true rfl, Nat.le_of_ble_eq_true rfl⟩ d_Br_clear_14) (fun r20 M19 hw H locs w => ?_)
      refine lv_aload_n F.1 F.2.1 d_Br_clear_17 rfl (lv_at hl 0 rfl) ?_
      refine fm_gO F w cl_Br k0 0 (k0 + 1) h18 (by decide) rfl rfl k_94 d_Br_clear_18 ?_
      refine lv_iload_n F.1 F.2.1 d_Br_clear_21 rfl (lv_at hl 1 rfl) ?_
      refine lv_iconst (v := Int32.ofInt 4) F.1 F.2.1 d_Br_clear_22 (by decide) ?_
      refine fi_imul F d_Br_clear_23 ?_
      refine lv_iload_n F.1 F.2.1 d_Br_clear_24 rfl (lv_at hl 1 rfl) ?_
      refine fi_iadd F d_Br_clear_25 ?_
      refine lv_iconst (v := Int32.ofInt 1) F.1 F.2.1 d_Br_clear_26 (by decide) ?_
      obtain ⟨h21, hw⟩ := hw
      obtain ⟨h22, hw⟩ := hw
      refine fm_sI F w (k0 + 1) h21 (by decide) h22  d_Br_clear_27 (fun M23 hM23 H locs w => ?_)
      have hw := hw M23 hM23
      refine fi_iinc (k := 1) (v := (v1 + 1)) F d_Br_clear_28 hl rfl rfl (by decide) rfl (fun ls hl => ?_)
      have hl : lv_has ls 2 [(1, .int (Int32.ofInt (v1 + 1))), (0, .ref (ad k0))] := hl
      refine lv_goto F.1 F.2.1 d_Br_clear_31 (tgt := 7) (by decide) ?_
      exact hJ_7 M23 (v1 + 1) hw H locs ls w (lv_sub hl [1, 0] rfl)
  have blk_7 : ∀ (M : fm_M) (v1 : Int), B_Br_clear_7 k0 post thr M v1 → fx_G p l e { frames := 1, cells := 1, slots := 6, locals := 22 } s m ([.ref (ad k0)] : List Value).toArray below meth c D ad cA n0 3 post thr 2 M [(0, .ref (ad k0)), (1, .int (Int32.ofInt v1))] 7 [] := by
    intro M v1 hw
    obtain ⟨I, μ, hI, hB⟩ := hw
    have key : ∀ (q : Nat) (M : fm_M) (v1 : Int), μ M v1 < q → I M v1 → fx_G p l e { frames := 1, cells := 1, slots := 6, locals := 22 } s m ([.ref (ad k0)] : List Value).toArray below meth c D ad cA n0 3 post thr 2 M [(0, .ref (ad k0)), (1, .int (Int32.ofInt v1))] 7 [] := by
      intro q
      induction q with
      | zero => intro M v1 h _; exact absurd h (Nat.not_lt_zero _)
      | succ q ih =>
        intro M v1 hμ hI
        exact blc_7 (fun M' v1' => I M' v1' ∧ μ M' v1' < μ M v1) M v1 (hB M v1 hI) (fun M' v1' hh => ih M' v1' (Nat.lt_of_lt_of_le hh.2 (Nat.le_of_lt_succ hμ)) hh.1)
    exact key _ M v1 (Nat.lt_succ_self _) hI
  have hl : lv_has ls 2 [(0, .ref (ad k0))] := hl
  suffices h9 : fx_G p l e { frames := 1, cells := 1, slots := 6, locals := 22 } s m ([.ref (ad k0)] : List Value).toArray below meth c D ad cA n0 3 post thr 2 M [(0, .ref (ad k0))] 0 [] from h9 _ _ _ w hl
  intro H locs ls w hl
  refine lv_aload_n F.1 F.2.1 d_Br_clear_0 rfl (lv_at hl 0 rfl) ?_
  refine lv_iconst (v := Int32.ofInt 0) F.1 F.2.1 d_Br_clear_1 (by decide) ?_
  obtain ⟨h24, hw⟩ := hw
  refine fm_pI F w cl_Br k0 1 h24 (by decide) rfl k_97 rfl rfl d_Br_clear_2 (fun M25 hM25 H locs w => ?_)
  have hw := hw M25 hM25
  refine lv_iconst (v := Int32.ofInt 0) F.1 F.2.1 d_Br_clear_5 (by decide) ?_
  refine lv_istore_n F.1 F.2.1 d_Br_clear_6 rfl hl (by decide) rfl (fun ls hl => ?_)
  have hl : lv_has ls 2 [(1, .int (Int32.ofInt 0)), (0, .ref (ad k0))] := hl
  exact blk_7 M25 0 hw H locs ls w (lv_sub hl [1, 0] rfl)
set_option maxHeartbeats 4000000 in
set_option maxRecDepth 100000 in
theorem met_CG_hasBit (l : Launch) (hst9 : l.stackTraces = false) (D : va_G) (ad : Nat → Nat) (cA : Nat → ClassId) (n0 : Nat) (M : fm_M) (a0 : Int) (a1 : Int) (post : Int → fm_M → Prop) (thr : String → fm_M → Prop) (hw : wp_CG_hasBit M a0 a1 post thr) : fx_Met l y_CG_hasBit (Cond.code y_CG_hasBit b_CG_hasBit 2 (some .boolean) :: tb) { frames := 0, cells := 1, slots := 6, locals := 0 } [.int (Int32.ofInt a0), .int (Int32.ofInt a1)] D ad cA n0 M 0 post thr := by
  refine fx_met (by decide) (Nat.le_of_ble_eq_true rfl) (fun p e s m below meth c ls F w hno hr hlk hl => ?_)
  have hl : lv_has ls 2 [(0, .int (Int32.ofInt a0)), (1, .int (Int32.ofInt a1))] := hl
  suffices h9 : fx_G p l e { frames := 0, cells := 1, slots := 6, locals := 0 } s m ([.int (Int32.ofInt a0), .int (Int32.ofInt a1)] : List Value).toArray below meth c D ad cA n0 0 post thr 2 M [(0, .int (Int32.ofInt a0)), (1, .int (Int32.ofInt a1))] 0 [] from h9 _ _ _ w hl
  intro H locs ls w hl
  refine lv_iload_n F.1 F.2.1 d_CG_hasBit_0 rfl (lv_at hl 0 rfl) ?_
  refine lv_iload_n F.1 F.2.1 d_CG_hasBit_1 rfl (lv_at hl 1 rfl) ?_
  refine fi_ishr F d_CG_hasBit_2 ?_
  refine lv_iconst (v := Int32.ofInt 1) F.1 F.2.1 d_CG_hasBit_3 (by decide) ?_
  refine fi_iand F d_CG_hasBit_4 ?_
  obtain ⟨h3, hw⟩ := hw
  refine fi_if_eq F d_CG_hasBit_5 (tgt := 12) (by decide) h3 (fun hc4 => ?_) (fun hc4 => ?_)
  · have hw := hw.1 hc4
    refine lv_iconst (v := Int32.ofInt 0) F.1 F.2.1 d_CG_hasBit_12 (by decide) ?_
    exact fx_zret F w hr hlk (fx_nz (by decide)) hw d_CG_hasBit_13
  · have hw := hw.2 hc4
    refine lv_iconst (v := Int32.ofInt 1) F.1 F.2.1 d_CG_hasBit_8 (by decide) ?_
    refine lv_goto F.1 F.2.1 d_CG_hasBit_9 (tgt := 13) (by decide) ?_
    exact fx_zret F w hr hlk (fx_nz (by decide)) hw d_CG_hasBit_13
