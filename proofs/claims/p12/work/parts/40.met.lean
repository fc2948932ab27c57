set_option maxHeartbeats 4000000 in
set_option maxRecDepth 100000 in
theorem met_Mo_readTest (l : Launch) (hst9 : l.stackTraces = false) (D : va_G) (ad : Nat → Nat) (cA : Nat → ClassId) (n0 : Nat) (M : fm_M) (a1 : Int) (a2 : Int) (post : Int → fm_M → Prop) (thr : String → fm_M → Prop) (hw : wp_Mo_readTest M a1 a2 post thr) : fx_Met l y_Mo_readTest (Cond.code y_Mo_readTest b_Mo_readTest 5 (some .boolean) :: tb) { frames := 5, cells := 1, slots := 6, locals := 111 } [.ref (ad 331), .int (Int32.ofInt a1), .int (Int32.ofInt a2)] D ad cA n0 M 0 post thr := by
  refine fx_met (by decide) (Nat.le_of_ble_eq_true rfl) (fun p e s m below meth c ls F w hno hr hlk hl => ?_)
  have blk_71 : ∀ (M : fm_M) (v3 : Int) (v4 : Int), B_Mo_readTest_71 a1 a2 post thr M v3 v4 → fx_G p l e { frames := 5, cells := 1, slots := 6, locals := 111 } s m ([.ref (ad 331), .int (Int32.ofInt a1), .int (Int32.ofInt a2)] : List Value).toArray below meth c D ad cA n0 0 post thr 5 M [(0, .ref (ad 331)), (1, .int (Int32.ofInt a1)), (2, .int (Int32.ofInt a2)), (3, .int (Int32.ofInt v3)), (4, .int (Int32.ofInt v4))] 71 [] := by
    intro M v3 v4 hw H locs ls w hl
    refine lv_aload_n F.1 F.2.1 d_Mo_readTest_71 rfl (lv_at hl 0 rfl) ?_
    refine fm_gO F w cl_Mo 331 16 341 T_331 (by decide) rfl rfl k_830 d_Mo_readTest_72 ?_
    refine lv_bipush (v := Int32.ofInt 44) F.1 F.2.1 d_Mo_readTest_75 (by decide) ?_
    refine lv_aload_n F.1 F.2.1 d_Mo_readTest_77 rfl (lv_at hl 0 rfl) ?_
    refine fm_gI F w cl_Mo 331 7 T_331 (by decide) rfl k_821 d_Mo_readTest_78 ?_
    refine fi_imul F d_Mo_readTest_81 ?_
    refine lv_iconst (v := Int32.ofInt 4) F.1 F.2.1 d_Mo_readTest_82 (by decide) ?_
    refine lv_iload_n F.1 F.2.1 d_Mo_readTest_83 rfl (lv_at hl 1 rfl) ?_
    refine fi_imul F d_Mo_readTest_84 ?_
    refine fi_iadd F d_Mo_readTest_85 ?_
    refine lv_iload_n F.1 F.2.1 d_Mo_readTest_86 rfl (lv_at hl 2 rfl) ?_
    refine fi_iadd F d_Mo_readTest_87 ?_
    refine lv_iload F.1 F.2.1 d_Mo_readTest_88 (lv_at hl 4 rfl) ?_
    obtain ⟨h21, hw⟩ := hw
    refine fm_sI F w 341 T_341 (by decide) h21  d_Mo_readTest_90 (fun M22 hM22 H locs w => ?_)
    have hw := hw M22 hM22
    refine lv_aload_n F.1 F.2.1 d_Mo_readTest_91 rfl (lv_at hl 0 rfl) ?_
    refine lv_dup F.1 F.2.1 d_Mo_readTest_92 rfl ?_
    refine fm_gI F w cl_Mo 331 3 T_331 (by decide) rfl k_817 d_Mo_readTest_93 ?_
    refine lv_iconst (v := Int32.ofInt 1) F.1 F.2.1 d_Mo_readTest_96 (by decide) ?_
    refine fi_iadd F d_Mo_readTest_97 ?_
    refine fm_pI F w cl_Mo 331 3 T_331 (by decide) rfl k_817 rfl rfl d_Mo_readTest_98 (fun M23 hM23 H locs w => ?_)
    have hw := hw M23 hM23
    refine lv_aload_n F.1 F.2.1 d_Mo_readTest_101 rfl (lv_at hl 0 rfl) ?_
    refine lv_iload_n F.1 F.2.1 d_Mo_readTest_102 rfl (lv_at hl 3 rfl) ?_
    refine lv_iconst (v := Int32.ofInt 1) F.1 F.2.1 d_Mo_readTest_103 (by decide) ?_
    refine fi_iadd F d_Mo_readTest_104 ?_
    refine fx_c w hno hlk (fx_rV (As := [.int (Int32.ofInt (v3 + 1))]) (rest := []) F w cl_Mo 331 T_331 (met_Mo_readSum l hst9 D ad cA n0 M23 (v3 + 1) _ thr hw) e_Mo_readSum ki_Mo_readSum ks_Mo_readSum k_1004 rfl hl.1 rfl (Nat.le_of_ble_eq_true rfl) ⟨⟨Nat.le_of_ble_eq_true rfl, Nat.le_of_ble_eq_true rfl⟩, Nat.le_of_ble_eq_true rfl, Nat.le_of_ble_eq_true rfl⟩ d_Mo_readTest_105) (fun r25 M24 hw H locs w => ?_)
    show W p l e _ s m _ below meth c H locs 0 0 _ (F0 m 108 ls [.int (Int32.ofInt r25)])
    obtain ⟨h26, hw⟩ := hw
    exact fx_zret F w hr hlk (fx_nz h26) hw d_Mo_readTest_108
  have hl : lv_has ls 5 [(0, .ref (ad 331)), (1, .int (Int32.ofInt a1)), (2, .int (Int32.ofInt a2))] := hl
  suffices h9 : fx_G p l e { frames := 5, cells := 1, slots := 6, locals := 111 } s m ([.ref (ad 331), .int (Int32.ofInt a1), .int (Int32.ofInt a2)] : List Value).toArray below meth c D ad cA n0 0 post thr 5 M [(0, .ref (ad 331)), (1, .int (Int32.ofInt a1)), (2, .int (Int32.ofInt a2))] 0 [] from h9 _ _ _ w hl
  intro H locs ls w hl
  refine lv_sipush (v := Int32.ofInt 208) F.1 F.2.1 d_Mo_readTest_0 (by decide) ?_
  refine lv_aload_n F.1 F.2.1 d_Mo_readTest_3 rfl (lv_at hl 0 rfl) ?_
  refine fm_gI F w cl_Mo 331 7 T_331 (by decide) rfl k_821 d_Mo_readTest_4 ?_
  refine fi_imul F d_Mo_readTest_7 ?_
  refine lv_bipush (v := Int32.ofInt 8) F.1 F.2.1 d_Mo_readTest_8 (by decide) ?_
  refine lv_iload_n F.1 F.2.1 d_Mo_readTest_10 rfl (lv_at hl 1 rfl) ?_
  refine fi_imul F d_Mo_readTest_11 ?_
  refine fi_iadd F d_Mo_readTest_12 ?_
  refine lv_iconst (v := Int32.ofInt 2) F.1 F.2.1 d_Mo_readTest_13 (by decide) ?_
  refine lv_iload_n F.1 F.2.1 d_Mo_readTest_14 rfl (lv_at hl 2 rfl) ?_
  refine fi_imul F d_Mo_readTest_15 ?_
  refine fi_iadd F d_Mo_readTest_16 ?_
  refine lv_istore_n F.1 F.2.1 d_Mo_readTest_17 rfl hl (by decide) rfl (fun ls hl => ?_)
  have hl : lv_has ls 5 [(3, .int (Int32.ofInt (((208 * (M 331 7)) + (8 * a1)) + (2 * a2)))), (0, .ref (ad 331)), (1, .int (Int32.ofInt a1)), (2, .int (Int32.ofInt a2))] := hl
  refine lv_aload_n F.1 F.2.1 d_Mo_readTest_18 rfl (lv_at hl 1 rfl) ?_
  refine lv_iload_n F.1 F.2.1 d_Mo_readTest_19 rfl (lv_at hl 0 rfl) ?_
  refine fx_c w hno hlk (fx_rV (As := [.int (Int32.ofInt (((208 * (M 331 7)) + (8 * a1)) + (2 * a2)))]) (rest := []) F w cl_Mo 331 T_331 (met_Mo_readSum l hst9 D ad cA n0 M (((208 * (M 331 7)) + (8 * a1)) + (2 * a2)) _ thr hw) e_Mo_readSum ki_Mo_readSum ks_Mo_readSum k_1004 rfl hl.1 rfl (Nat.le_of_ble_eq_true rfl) ⟨⟨Nat.le_of_ble_eq_true rfl, Nat.le_of_ble_eq_true rfl⟩, Nat.le_of_ble_eq_true rfl, Nat.le_of_ble_eq_true rfl⟩ d_Mo_readTest_20) (fun r28 M27 hw H locs w => ?_)
  show W p l e _ s m _ below meth c H locs 0 0 _ (F0 m 23 ls [.int (Int32.ofInt r28)])
  obtain ⟨h29, hw⟩ := hw
  refine fi_if_ne F d_Mo_readTest_23 (tgt := 28) (by decide) h29 (fun hc30 => ?_) (fun hc30 => ?_)
  · have hw := hw.1 hc30
    refine lv_aload_n F.1 F.2.1 d_Mo_readTest_28 rfl (lv_at hl 1 rfl) ?_
    refine fx_c w hno hlk (fx_rV (As := []) (rest := []) F w cl_Mo 331 T_331 (met_Mo_here l hst9 D ad cA n0 M27 _ thr hw) e_Mo_here ki_Mo_here ks_Mo_here k_968 rfl hl.1 rfl (Nat.le_of_ble_eq_true rfl) ⟨⟨Nat.le_of_ble_eq_true rfl, Nat.le_of_ble_eq_true rfl⟩, Nat.le_of_ble_eq_true rfl, Nat.le_of_ble_eq_true rfl⟩ d_Mo_readTest_29) (fun r32 M31 hw H locs w => ?_)
    show W p l e _ s m _ below meth c H locs 0 0 _ (F0 m 32 ls [.int (Int32.ofInt r32)])
    refine lv_istore F.1 F.2.1 d_Mo_readTest_32 hl (by decide) rfl (fun ls hl => ?_)
    have hl : lv_has ls 5 [(4, .int (Int32.ofInt r32)), (3, .int (Int32.ofInt (((208 * (M 331 7)) + (8 * a1)) + (2 * a2)))), (0, .ref (ad 331)), (1, .int (Int32.ofInt a1)), (2, .int (Int32.ofInt a2))] := hl
    refine lv_iload F.1 F.2.1 d_Mo_readTest_34 (lv_at hl 0 rfl) ?_
    refine lv_bipush (v := Int32.ofInt 60) F.1 F.2.1 d_Mo_readTest_36 (by decide) ?_
    obtain ⟨h33, hw⟩ := hw
    refine fi_icmp_eq F d_Mo_readTest_38 (tgt := 71) (by decide) h33 (rgl (by decide)) (fun hc34 => ?_) (fun hc34 => ?_)
    · have hw := hw.1 hc34
      exact blk_71 M31 (((208 * (M 331 7)) + (8 * a1)) + (2 * a2)) r32 hw H locs ls w (lv_sub hl [2, 3, 4, 1, 0] rfl)
    · have hw := hw.2 hc34
      refine lv_iload F.1 F.2.1 d_Mo_readTest_41 (lv_at hl 0 rfl) ?_
      refine lv_bipush (v := Int32.ofInt 62) F.1 F.2.1 d_Mo_readTest_43 (by decide) ?_
      refine fi_icmp_eq F d_Mo_readTest_45 (tgt := 71) (by decide) h33 (rgl (by decide)) (fun hc35 => ?_) (fun hc35 => ?_)
      · have hw := hw.1 hc35
        exact blk_71 M31 (((208 * (M 331 7)) + (8 * a1)) + (2 * a2)) r32 hw H locs ls w (lv_sub hl [2, 3, 4, 1, 0] rfl)
      · have hw := hw.2 hc35
        refine lv_iload F.1 F.2.1 d_Mo_readTest_48 (lv_at hl 0 rfl) ?_
        refine lv_bipush (v := Int32.ofInt 61) F.1 F.2.1 d_Mo_readTest_50 (by decide) ?_
        refine fi_icmp_eq F d_Mo_readTest_52 (tgt := 71) (by decide) h33 (rgl (by decide)) (fun hc36 => ?_) (fun hc36 => ?_)
        · have hw := hw.1 hc36
          exact blk_71 M31 (((208 * (M 331 7)) + (8 * a1)) + (2 * a2)) r32 hw H locs ls w (lv_sub hl [2, 3, 4, 1, 0] rfl)
        · have hw := hw.2 hc36
          refine lv_iload F.1 F.2.1 d_Mo_readTest_55 (lv_at hl 0 rfl) ?_
          refine lv_bipush (v := Int32.ofInt 35) F.1 F.2.1 d_Mo_readTest_57 (by decide) ?_
          refine fi_icmp_eq F d_Mo_readTest_59 (tgt := 71) (by decide) h33 (rgl (by decide)) (fun hc37 => ?_) (fun hc37 => ?_)
          · have hw := hw.1 hc37
            exact blk_71 M31 (((208 * (M 331 7)) + (8 * a1)) + (2 * a2)) r32 hw H locs ls w (lv_sub hl [2, 3, 4, 1, 0] rfl)
          · have hw := hw.2 hc37
            refine lv_aload_n F.1 F.2.1 d_Mo_readTest_62 rfl (lv_at hl 2 rfl) ?_
            refine lv_aload_n F.1 F.2.1 d_Mo_readTest_63 rfl (lv_at hl 2 rfl) ?_
            refine fm_gI F w cl_Mo 331 3 T_331 (by decide) rfl k_817 d_Mo_readTest_64 ?_
            refine fx_c w hno hlk (fx_rV (As := [.int (Int32.ofInt (M31 331 3))]) (rest := []) F w cl_Mo 331 T_331 (met_Mo_fail l hst9 D ad cA n0 M31 (M31 331 3) _ thr hw) e_Mo_fail ki_Mo_fail ks_Mo_fail k_976 rfl hl.1 rfl (Nat.le_of_ble_eq_true rfl) ⟨⟨Nat.le_of_ble_eq_true rfl, Nat.le_of_ble_eq_true rfl⟩, Nat.le_of_ble_eq_true rfl, Nat.le_of_ble_eq_true rfl⟩ d_Mo_readTest_67) (fun r39 M38 hw H locs w => ?_)
            show W p l e _ s m _ below meth c H locs 0 0 _ (F0 m 70 ls [.int (Int32.ofInt r39)])
            obtain ⟨h40, hw⟩ := hw
            exact fx_zret F w hr hlk (fx_nz h40) hw d_Mo_readTest_70
  · have hw := hw.2 hc30
    refine lv_iconst (v := Int32.ofInt 0) F.1 F.2.1 d_Mo_readTest_26 (by decide) ?_
    exact fx_zret F w hr hlk (fx_nz (by decide)) hw d_Mo_readTest_27
set_option maxHeartbeats 4000000 in
set_option maxRecDepth 100000 in
theorem met_Mo_readGuard (l : Launch) (hst9 : l.stackTraces = false) (D : va_G) (ad : Nat → Nat) (cA : Nat → ClassId) (n0 : Nat) (M : fm_M) (a1 : Int) (post : Int → fm_M → Prop) (thr : String → fm_M → Prop) (hw : wp_Mo_readGuard M a1 post thr) : fx_Met l y_Mo_readGuard (Cond.code y_Mo_readGuard b_Mo_readGuard 3 (some .boolean) :: tb) { frames := 6, cells := 1, slots := 6, locals := 135 } [.ref (ad 331), .int (Int32.ofInt a1)] D ad cA n0 M 0 post thr := by
  refine fx_met (by decide) (Nat.le_of_ble_eq_true rfl) (fun p e s m below meth c ls F w hno hr hlk hl => ?_)
  have blc_28 : ∀ (J_28 : (fm_M → Int → Prop)) (M : fm_M) (v2 : Int), C_Mo_readGuard_28 a1 post thr J_28 M v2 → (∀ (M : fm_M) (v2 : Int), J_28 M v2 → fx_G p l e { frames := 6, cells := 1, slots := 6, locals := 135 } s m ([.ref (ad 331), .int (Int32.ofInt a1)] : List Value).toArray below meth c D ad cA n0 0 post thr 3 M [(0, .ref (ad 331)), (1, .int (Int32.ofInt a1)), (2, .int (Int32.ofInt v2))] 28 []) → fx_G p l e { frames := 6, cells := 1, slots := 6, locals := 135 } s m ([.ref (ad 331), .int (Int32.ofInt a1)] : List Value).toArray below meth c D ad cA n0 0 post thr 3 M [(0, .ref (ad 331)), (1, .int (Int32.ofInt a1)), (2, .int (Int32.ofInt v2))] 28 [] := by
    intro J_28 M v2 hw hJ_28 H locs ls w hl
    refine lv_aload_n F.1 F.2.1 d_Mo_readGuard_28 rfl (lv_at hl 0 rfl) ?_
    refine fx_c w hno hlk (fx_rV (As := []) (rest := []) F w cl_Mo 331 T_331 (met_Mo_here l hst9 D ad cA n0 M _ thr hw) e_Mo_here ki_Mo_here ks_Mo_here k_968 rfl hl.1 rfl (Nat.le_of_ble_eq_true rfl) ⟨⟨Nat.le_of_ble_eq_true rfl, Nat.le_of_ble_eq_true rfl⟩, Nat.le_of_ble_eq_true rfl, Nat.le_of_ble_eq_true rfl⟩ d_Mo_readGuard_29) (fun r24 M23 hw H locs w => ?_)
    show W p l e _ s m _ below meth c H locs 0 0 _ (F0 m 32 ls [.int (Int32.ofInt r24)])
    refine lv_bipush (v := Int32.ofInt 38) F.1 F.2.1 d_Mo_readGuard_32 (by decide) ?_
    obtain ⟨h25, hw⟩ := hw
    refine fi_icmp_ne F d_Mo_readGuard_34 (tgt := 95) (by decide) h25 (rgl (by decide)) (fun hc26 => ?_) (fun hc26 => ?_)
    · have hw := hw.1 hc26
      refine lv_iconst (v := Int32.ofInt 1) F.1 F.2.1 d_Mo_readGuard_95 (by decide) ?_
      exact fx_zret F w hr hlk (fx_nz (by decide)) hw d_Mo_readGuard_96
    · have hw := hw.2 hc26
      refine lv_aload_n F.1 F.2.1 d_Mo_readGuard_37 rfl (lv_at hl 0 rfl) ?_
      refine fm_gO F w cl_Mo 331 15 340 T_331 (by decide) rfl rfl k_829 d_Mo_readGuard_38 ?_
      refine lv_iload_n F.1 F.2.1 d_Mo_readGuard_41 rfl (lv_at hl 2 rfl) ?_
      obtain ⟨h27, hw⟩ := hw
      refine fm_aI F w 340 T_340 (by decide) h27 d_Mo_readGuard_42 ?_
      refine lv_iconst (v := Int32.ofInt 4) F.1 F.2.1 d_Mo_readGuard_43 (by decide) ?_
      obtain ⟨h28, hw⟩ := hw
      refine fi_icmp_ne F d_Mo_readGuard_44 (tgt := 56) (by decide) h28 (rgl (by decide)) (fun hc29 => ?_) (fun hc29 => ?_)
      · have hw := hw.1 hc29
        refine lv_aload_n F.1 F.2.1 d_Mo_readGuard_56 rfl (lv_at hl 0 rfl) ?_
        refine lv_dup F.1 F.2.1 d_Mo_readGuard_57 rfl ?_
        refine fm_gI F w cl_Mo 331 3 T_331 (by decide) rfl k_817 d_Mo_readGuard_58 ?_
        refine lv_iconst (v := Int32.ofInt 1) F.1 F.2.1 d_Mo_readGuard_61 (by decide) ?_
        refine fi_iadd F d_Mo_readGuard_62 ?_
        refine fm_pI F w cl_Mo 331 3 T_331 (by decide) rfl k_817 rfl rfl d_Mo_readGuard_63 (fun M30 hM30 H locs w => ?_)
        have hw := hw M30 hM30
        refine lv_aload_n F.1 F.2.1 d_Mo_readGuard_66 rfl (lv_at hl 0 rfl) ?_
        refine lv_iload_n F.1 F.2.1 d_Mo_readGuard_67 rfl (lv_at hl 1 rfl) ?_
        refine lv_aload_n F.1 F.2.1 d_Mo_readGuard_68 rfl (lv_at hl 0 rfl) ?_
        refine fm_gO F w cl_Mo 331 15 340 T_331 (by decide) rfl rfl k_829 d_Mo_readGuard_69 ?_
        refine lv_iload_n F.1 F.2.1 d_Mo_readGuard_72 rfl (lv_at hl 2 rfl) ?_
        refine fm_aI F w 340 T_340 (by decide) h27 d_Mo_readGuard_73 ?_
        refine fx_c w hno hlk (fx_rV (As := [.int (Int32.ofInt a1), .int (Int32.ofInt (M30 340 v2.toNat))]) (rest := []) F w cl_Mo 331 T_331 (met_Mo_readTest l hst9 D ad cA n0 M30 a1 (M30 340 v2.toNat) _ thr hw) e_Mo_readTest ki_Mo_readTest ks_Mo_readTest k_1000 rfl hl.1 rfl (Nat.le_of_ble_eq_true rfl) ⟨⟨Nat.le_of_ble_eq_true rfl, Nat.le_of_ble_eq_true rfl⟩, Nat.le_of_ble_eq_true rfl, Nat.le_of_ble_eq_true rfl⟩ d_Mo_readGuard_74) (fun r32 M31 hw H locs w => ?_)
        show W p l e _ s m _ below meth c H locs 0 0 _ (F0 m 77 ls [.int (Int32.ofInt r32)])
        obtain ⟨h33, hw⟩ := hw
        refine fi_if_ne F d_Mo_readGuard_77 (tgt := 82) (by decide) h33 (fun hc34 => ?_) (fun hc34 => ?_)
        · have hw := hw.1 hc34
          refine lv_aload_n F.1 F.2.1 d_Mo_readGuard_82 rfl (lv_at hl 0 rfl) ?_
          refine fm_gO F w cl_Mo 331 15 340 T_331 (by decide) rfl rfl k_829 d_Mo_readGuard_83 ?_
          refine lv_iload_n F.1 F.2.1 d_Mo_readGuard_86 rfl (lv_at hl 2 rfl) ?_
          refine lv_dup2_11 F.1 F.2.1 d_Mo_readGuard_87 rfl rfl ?_
          refine fm_aI F w 340 T_340 (by decide) h27 d_Mo_readGuard_88 ?_
          refine lv_iconst (v := Int32.ofInt 1) F.1 F.2.1 d_Mo_readGuard_89 (by decide) ?_
          refine fi_iadd F d_Mo_readGuard_90 ?_
          refine fm_sI F w 340 T_340 (by decide) h27  d_Mo_readGuard_91 (fun M35 hM35 H locs w => ?_)
          have hw := hw M35 hM35
          refine lv_goto F.1 F.2.1 d_Mo_readGuard_92 (tgt := 28) (by decide) ?_
          exact hJ_28 M35 v2 hw H locs ls w (lv_sub hl [0, 1, 2] rfl)
        · have hw := hw.2 hc34
          refine lv_iconst (v := Int32.ofInt 0) F.1 F.2.1 d_Mo_readGuard_80 (by decide) ?_
          exact fx_zret F w hr hlk (fx_nz (by decide)) hw d_Mo_readGuard_81
      · have hw := hw.2 hc29
        refine lv_aload_n F.1 F.2.1 d_Mo_readGuard_47 rfl (lv_at hl 0 rfl) ?_
        refine lv_aload_n F.1 F.2.1 d_Mo_readGuard_48 rfl (lv_at hl 0 rfl) ?_
        refine fm_gI F w cl_Mo 331 3 T_331 (by decide) rfl k_817 d_Mo_readGuard_49 ?_
        refine fx_c w hno hlk (fx_rV (As := [.int (Int32.ofInt (M23 331 3))]) (rest := []) F w cl_Mo 331 T_331 (met_Mo_fail l hst9 D ad cA n0 M23 (M23 331 3) _ thr hw) e_Mo_fail ki_Mo_fail ks_Mo_fail k_976 rfl hl.1 rfl (Nat.le_of_ble_eq_true rfl) ⟨⟨Nat.le_of_ble_eq_true rfl, Nat.le_of_ble_eq_true rfl⟩, Nat.le_of_ble_eq_true rfl, Nat.le_of_ble_eq_true rfl⟩ d_Mo_readGuard_52) (fun r37 M36 hw H locs w => ?_)
        show W p l e _ s m _ below meth c H locs 0 0 _ (F0 m 55 ls [.int (Int32.ofInt r37)])
        obtain ⟨h38, hw⟩ := hw
        exact fx_zret F w hr hlk (fx_nz h38) hw d_Mo_readGuard_55
  have blk_28 : ∀ (M : fm_M) (v2 : Int), B_Mo_readGuard_28 a1 post thr M v2 → fx_G p l e { frames := 6, cells := 1, slots := 6, locals := 135 } s m ([.ref (ad 331), .int (Int32.ofInt a1)] : List Value).toArray below meth c D ad cA n0 0 post thr 3 M [(0, .ref (ad 331)), (1, .int (Int32.ofInt a1)), (2, .int (Int32.ofInt v2))] 28 [] := by
    intro M v2 hw
    obtain ⟨I, μ, hI, hB⟩ := hw
    have key : ∀ (q : Nat) (M : fm_M) (v2 : Int), μ M v2 < q → I M v2 → fx_G p l e { frames := 6, cells := 1, slots := 6, locals := 135 } s m ([.ref (ad 331), .int (Int32.ofInt a1)] : List Value).toArray below meth c D ad cA n0 0 post thr 3 M [(0, .ref (ad 331)), (1, .int (Int32.ofInt a1)), (2, .int (Int32.ofInt v2))] 28 [] := by
      intro q
      induction q with
      | zero => intro M v2 h _; exact absurd h (Nat.not_lt_zero _)
      | succ q ih =>
        intro M v2 hμ hI
        exact blc_28 (fun M' v2' => I M' v2' ∧ μ M' v2' < μ M v2) M v2 (hB M v2 hI) (fun M' v2' hh => ih M' v2' (Nat.lt_of_lt_of_le hh.2 (Nat.le_of_lt_succ hμ)) hh.1)
    exact key _ M v2 (Nat.lt_succ_self _) hI
  have hl : lv_has ls 3 [(0, .ref (ad 331)), (1, .int (Int32.ofInt a1))] := hl
  suffices h9 : fx_G p l e { frames := 6, cells := 1, slots := 6, locals := 135 } s m ([.ref (ad 331), .int (Int32.ofInt a1)] : List Value).toArray below meth c D ad cA n0 0 post thr 3 M [(0, .ref (ad 331)), (1, .int (Int32.ofInt a1))] 0 [] from h9 _ _ _ w hl
  intro H locs ls w hl
  refine lv_bipush (v := Int32.ofInt 11) F.1 F.2.1 d_Mo_readGuard_0 (by decide) ?_
  refine lv_aload_n F.1 F.2.1 d_Mo_readGuard_2 rfl (lv_at hl 0 rfl) ?_
  refine fm_gI F w cl_Mo 331 7 T_331 (by decide) rfl k_821 d_Mo_readGuard_3 ?_
  refine fi_imul F d_Mo_readGuard_6 ?_
  refine lv_iload_n F.1 F.2.1 d_Mo_readGuard_7 rfl (lv_at hl 1 rfl) ?_
  refine fi_iadd F d_Mo_readGuard_8 ?_
  refine lv_istore_n F.1 F.2.1 d_Mo_readGuard_9 rfl hl (by decide) rfl (fun ls hl => ?_)
  have hl : lv_has ls 3 [(2, .int (Int32.ofInt ((11 * (M 331 7)) + a1))), (0, .ref (ad 331)), (1, .int (Int32.ofInt a1))] := hl
  refine lv_aload_n F.1 F.2.1 d_Mo_readGuard_10 rfl (lv_at hl 1 rfl) ?_
  refine fm_gO F w cl_Mo 331 15 340 T_331 (by decide) rfl rfl k_829 d_Mo_readGuard_11 ?_
  refine lv_iload_n F.1 F.2.1 d_Mo_readGuard_14 rfl (lv_at hl 0 rfl) ?_
  refine lv_iconst (v := Int32.ofInt 1) F.1 F.2.1 d_Mo_readGuard_15 (by decide) ?_
  obtain ⟨h39, hw⟩ := hw
  refine fm_sI F w 340 T_340 (by decide) h39  d_Mo_readGuard_16 (fun M40 hM40 H locs w => ?_)
  have hw := hw M40 hM40
  refine lv_aload_n F.1 F.2.1 d_Mo_readGuard_17 rfl (lv_at hl 1 rfl) ?_
  refine lv_iload_n F.1 F.2.1 d_Mo_readGuard_18 rfl (lv_at hl 2 rfl) ?_
  refine lv_iconst (v := Int32.ofInt 0) F.1 F.2.1 d_Mo_readGuard_19 (by decide) ?_
  refine fx_c w hno hlk (fx_rV (As := [.int (Int32.ofInt a1), .int (Int32.ofInt 0)]) (rest := []) F w cl_Mo 331 T_331 (met_Mo_readTest l hst9 D ad cA n0 M40 a1 0 _ thr hw) e_Mo_readTest ki_Mo_readTest ks_Mo_readTest k_1000 rfl hl.1 rfl (Nat.le_of_ble_eq_true rfl) ⟨⟨Nat.le_of_ble_eq_true rfl, Nat.le_of_ble_eq_true rfl⟩, Nat.le_of_ble_eq_true rfl, Nat.le_of_ble_eq_true rfl⟩ d_Mo_readGuard_20) (fun r42 M41 hw H locs w => ?_)
  show W p l e _ s m _ below meth c H locs 0 0 _ (F0 m 23 ls [.int (Int32.ofInt r42)])
  obtain ⟨h43, hw⟩ := hw
  refine fi_if_ne F d_Mo_readGuard_23 (tgt := 28) (by decide) h43 (fun hc44 => ?_) (fun hc44 => ?_)
  · have hw := hw.1 hc44
    exact blk_28 M41 ((11 * (M 331 7)) + a1) hw H locs ls w (lv_sub hl [1, 2, 0] rfl)
  · have hw := hw.2 hc44
    refine lv_iconst (v := Int32.ofInt 0) F.1 F.2.1 d_Mo_readGuard_26 (by decide) ?_
    exact fx_zret F w hr hlk (fx_nz (by decide)) hw d_Mo_readGuard_27
set_option maxHeartbeats 4000000 in
set_option maxRecDepth 100000 in
theorem met_Mo_updateAt (l : Launch) (hst9 : l.stackTraces = false) (D : va_G) (ad : Nat → Nat) (cA : Nat → ClassId) (n0 : Nat) (M : fm_M) (a0 : Int) (a1 : Int) (a2 : Int) (a3 : Int) (post : Int → fm_M → Prop) (thr : String → fm_M → Prop) (hw : wp_Mo_updateAt M a0 a1 a2 a3 post thr) : fx_Met l y_Mo_updateAt (Cond.code y_Mo_updateAt b_Mo_updateAt 4 (some .int) :: tb) { frames := 0, cells := 1, slots := 6, locals := 0 } [.int (Int32.ofInt a0), .int (Int32.ofInt a1), .int (Int32.ofInt a2), .int (Int32.ofInt a3)] D ad cA n0 M 0 post thr := by
  refine fx_met (by decide) (Nat.le_of_ble_eq_true rfl) (fun p e s m below meth c ls F w hno hr hlk hl => ?_)
  have hl : lv_has ls 4 [(0, .int (Int32.ofInt a0)), (1, .int (Int32.ofInt a1)), (2, .int (Int32.ofInt a2)), (3, .int (Int32.ofInt a3))] := hl
  suffices h9 : fx_G p l e { frames := 0, cells := 1, slots := 6, locals := 0 } s m ([.int (Int32.ofInt a0), .int (Int32.ofInt a1), .int (Int32.ofInt a2), .int (Int32.ofInt a3)] : List Value).toArray below meth c D ad cA n0 0 post thr 4 M [(0, .int (Int32.ofInt a0)), (1, .int (Int32.ofInt a1)), (2, .int (Int32.ofInt a2)), (3, .int (Int32.ofInt a3))] 0 [] from h9 _ _ _ w hl
  intro H locs ls w hl
  refine lv_sipush (v := Int32.ofInt 208) F.1 F.2.1 d_Mo_updateAt_0 (by decide) ?_
  refine lv_iload_n F.1 F.2.1 d_Mo_updateAt_3 rfl (lv_at hl 0 rfl) ?_
  refine fi_imul F d_Mo_updateAt_4 ?_
  refine lv_bipush (v := Int32.ofInt 88) F.1 F.2.1 d_Mo_updateAt_5 (by decide) ?_
  refine fi_iadd F d_Mo_updateAt_7 ?_
  refine lv_bipush (v := Int32.ofInt 12) F.1 F.2.1 d_Mo_updateAt_8 (by decide) ?_
  refine lv_iload_n F.1 F.2.1 d_Mo_updateAt_10 rfl (lv_at hl 1 rfl) ?_
  refine fi_imul F d_Mo_updateAt_11 ?_
  refine fi_iadd F d_Mo_updateAt_12 ?_
  refine lv_iconst (v := Int32.ofInt 3) F.1 F.2.1 d_Mo_updateAt_13 (by decide) ?_
  refine lv_iload_n F.1 F.2.1 d_Mo_updateAt_14 rfl (lv_at hl 2 rfl) ?_
  refine fi_imul F d_Mo_updateAt_15 ?_
  refine fi_iadd F d_Mo_updateAt_16 ?_
  refine lv_iload_n F.1 F.2.1 d_Mo_updateAt_17 rfl (lv_at hl 3 rfl) ?_
  refine fi_iadd F d_Mo_updateAt_18 ?_
  exact fx_iret F w hr hlk hw d_Mo_updateAt_19
set_option maxHeartbeats 4000000 in
set_option maxRecDepth 100000 in
theorem met_Mo_readUpdate (l : Launch) (hst9 : l.stackTraces = false) (D : va_G) (ad : Nat → Nat) (cA : Nat → ClassId) (n0 : Nat) (M : fm_M) (a1 : Int) (a2 : Int) (post : Int → fm_M → Prop) (thr : String → fm_M → Prop) (hw : wp_Mo_readUpdate M a1 a2 post thr) : fx_Met l y_Mo_readUpdate (Cond.code y_Mo_readUpdate b_Mo_readUpdate 5 (some .boolean) :: tb) { frames := 5, cells := 1, slots := 6, locals := 111 } [.ref (ad 331), .int (Int32.ofInt a1), .int (Int32.ofInt a2)] D ad cA n0 M 0 post thr := by
  refine fx_met (by decide) (Nat.le_of_ble_eq_true rfl) (fun p e s m below meth c ls F w hno hr hlk hl => ?_)
  have hl : lv_has ls 5 [(0, .ref (ad 331)), (1, .int (Int32.ofInt a1)), (2, .int (Int32.ofInt a2))] := hl
  suffices h9 : fx_G p l e { frames := 5, cells := 1, slots := 6, locals := 111 } s m ([.ref (ad 331), .int (Int32.ofInt a1), .int (Int32.ofInt a2)] : List Value).toArray below meth c D ad cA n0 0 post thr 5 M [(0, .ref (ad 331)), (1, .int (Int32.ofInt a1)), (2, .int (Int32.ofInt a2))] 0 [] from h9 _ _ _ w hl
  intro H locs ls w hl
  refine lv_aload_n F.1 F.2.1 d_Mo_readUpdate_0 rfl (lv_at hl 0 rfl) ?_
  refine fm_gI F w cl_Mo 331 3 T_331 (by decide) rfl k_817 d_Mo_readUpdate_1 ?_
  refine lv_istore_n F.1 F.2.1 d_Mo_readUpdate_4 rfl hl (by decide) rfl (fun ls hl => ?_)
  have hl : lv_has ls 5 [(3, .int (Int32.ofInt (M 331 3))), (0, .ref (ad 331)), (1, .int (Int32.ofInt a1)), (2, .int (Int32.ofInt a2))] := hl
  refine lv_aload_n F.1 F.2.1 d_Mo_readUpdate_5 rfl (lv_at hl 1 rfl) ?_
  refine fx_c w hno hlk (fx_rV (As := []) (rest := []) F w cl_Mo 331 T_331 (met_Mo_isKnown l hst9 D ad cA n0 M _ thr hw) e_Mo_isKnown ki_Mo_isKnown ks_Mo_isKnown k_1012 rfl hl.1 rfl (Nat.le_of_ble_eq_true rfl) ⟨⟨Nat.le_of_ble_eq_true rfl, Nat.le_of_ble_eq_true rfl⟩, Nat.le_of_ble_eq_true rfl, Nat.le_of_ble_eq_true rfl⟩ d_Mo_readUpdate_6) (fun r28 M27 hw H locs w => ?_)
  show W p l e _ s m _ below meth c H locs 0 0 _ (F0 m 9 ls [.int (Int32.ofInt r28)])
  obtain ⟨h29, hw⟩ := hw
  refine fi_if_ne F d_Mo_readUpdate_9 (tgt := 21) (by decide) h29 (fun hc30 => ?_) (fun hc30 => ?_)
  · have hw := hw.1 hc30
    refine lv_aload_n F.1 F.2.1 d_Mo_readUpdate_21 rfl (lv_at hl 1 rfl) ?_
    refine fm_gI F w cl_Mo 331 7 T_331 (by decide) rfl k_821 d_Mo_readUpdate_22 ?_
    refine lv_iload_n F.1 F.2.1 d_Mo_readUpdate_25 rfl (lv_at hl 2 rfl) ?_
    refine lv_iload_n F.1 F.2.1 d_Mo_readUpdate_26 rfl (lv_at hl 3 rfl) ?_
    refine lv_aload_n F.1 F.2.1 d_Mo_readUpdate_27 rfl (lv_at hl 1 rfl) ?_
    refine fx_c w hno hlk (fx_rV (As := []) (rest := [.int (Int32.ofInt a2), .int (Int32.ofInt a1), .int (Int32.ofInt (M27 331 7))]) F w cl_Mo 331 T_331 (met_Mo_here l hst9 D ad cA n0 M27 _ thr hw) e_Mo_here ki_Mo_here ks_Mo_here k_968 rfl hl.1 rfl (Nat.le_of_ble_eq_true rfl) ⟨⟨Nat.le_of_ble_eq_true rfl, Nat.le_of_ble_eq_true rfl⟩, Nat.le_of_ble_eq_true rfl, Nat.le_of_ble_eq_true rfl⟩ d_Mo_readUpdate_28) (fun r32 M31 hw H locs w => ?_)
    show W p l e _ s m _ below meth c H locs 0 0 _ (F0 m 31 ls [.int (Int32.ofInt r32), .int (Int32.ofInt a2), .int (Int32.ofInt a1), .int (Int32.ofInt (M27 331 7))])
    refine lv_bipush (v := Int32.ofInt 97) F.1 F.2.1 d_Mo_readUpdate_31 (by decide) ?_
    refine fi_isub F d_Mo_readUpdate_33 ?_
    refine fx_c w hno hlk (fx_rS (As := [.int (Int32.ofInt (M27 331 7)), .int (Int32.ofInt a1), .int (Int32.ofInt a2), .int (Int32.ofInt (r32 - 97))]) (rest := []) F w (met_Mo_updateAt l hst9 D ad cA n0 M31 (M27 331 7) a1 a2 (r32 - 97) _ thr hw) e_Mo_updateAt kt_Mo_updateAt k_1020 rfl hl.1 rfl (Nat.le_of_ble_eq_true rfl) ⟨⟨Nat.le_of_ble_eq_true rfl, Nat.le_of_ble_eq_true rfl⟩, Nat.le_of_ble_eq_true rfl, Nat.le_of_ble_eq_true rfl⟩ d_Mo_readUpdate_34) (fun r34 M33 hw H locs w => ?_)
    show W p l e _ s m _ below meth c H locs 0 0 _ (F0 m 37 ls [.int (Int32.ofInt r34)])
    refine lv_istore F.1 F.2.1 d_Mo_readUpdate_37 hl (by decide) rfl (fun ls hl => ?_)
    have hl : lv_has ls 5 [(4, .int (Int32.ofInt r34)), (3, .int (Int32.ofInt (M 331 3))), (0, .ref (ad 331)), (1, .int (Int32.ofInt a1)), (2, .int (Int32.ofInt a2))] := hl
    refine lv_aload_n F.1 F.2.1 d_Mo_readUpdate_39 rfl (lv_at hl 2 rfl) ?_
    refine lv_dup F.1 F.2.1 d_Mo_readUpdate_40 rfl ?_
    refine fm_gI F w cl_Mo 331 3 T_331 (by decide) rfl k_817 d_Mo_readUpdate_41 ?_
    refine lv_iconst (v := Int32.ofInt 1) F.1 F.2.1 d_Mo_readUpdate_44 (by decide) ?_
    refine fi_iadd F d_Mo_readUpdate_45 ?_
    refine fm_pI F w cl_Mo 331 3 T_331 (by decide) rfl k_817 rfl rfl d_Mo_readUpdate_46 (fun M35 hM35 H locs w => ?_)
    have hw := hw M35 hM35
    refine lv_aload_n F.1 F.2.1 d_Mo_readUpdate_49 rfl (lv_at hl 2 rfl) ?_
    refine fm_gO F w cl_Mo 331 17 342 T_331 (by decide) rfl rfl k_831 d_Mo_readUpdate_50 ?_
    refine lv_iload F.1 F.2.1 d_Mo_readUpdate_53 (lv_at hl 0 rfl) ?_
    obtain ⟨h36, hw⟩ := hw
    refine fm_aI F w 342 T_342 (by decide) h36 d_Mo_readUpdate_55 ?_
    obtain ⟨h37, hw⟩ := hw
    refine fi_if_le F d_Mo_readUpdate_56 (tgt := 65) (by decide) h37 (fun hc38 => ?_) (fun hc38 => ?_)
    · have hw := hw.1 hc38
      refine lv_aload_n F.1 F.2.1 d_Mo_readUpdate_65 rfl (lv_at hl 2 rfl) ?_
      refine lv_bipush (v := Int32.ofInt 61) F.1 F.2.1 d_Mo_readUpdate_66 (by decide) ?_
      refine fx_c w hno hlk (fx_rV (As := [.int (Int32.ofInt 61)]) (rest := []) F w cl_Mo 331 T_331 (met_Mo_want l hst9 D ad cA n0 M35 61 _ thr hw) e_Mo_want ki_Mo_want ks_Mo_want k_988 rfl hl.1 rfl (Nat.le_of_ble_eq_true rfl) ⟨⟨Nat.le_of_ble_eq_true rfl, Nat.le_of_ble_eq_true rfl⟩, Nat.le_of_ble_eq_true rfl, Nat.le_of_ble_eq_true rfl⟩ d_Mo_readUpdate_68) (fun r40 M39 hw H locs w => ?_)
      show W p l e _ s m _ below meth c H locs 0 0 _ (F0 m 71 ls [.int (Int32.ofInt r40)])
      obtain ⟨h41, hw⟩ := hw
      refine fi_if_eq F d_Mo_readUpdate_71 (tgt := 87) (by decide) h41 (fun hc42 => ?_) (fun hc42 => ?_)
      · have hw := hw.1 hc42
        refine lv_iconst (v := Int32.ofInt 0) F.1 F.2.1 d_Mo_readUpdate_87 (by decide) ?_
        exact fx_zret F w hr hlk (fx_nz (by decide)) hw d_Mo_readUpdate_88
      · have hw := hw.2 hc42
        refine lv_aload_n F.1 F.2.1 d_Mo_readUpdate_74 rfl (lv_at hl 2 rfl) ?_
        refine lv_iload F.1 F.2.1 d_Mo_readUpdate_75 (lv_at hl 0 rfl) ?_
        refine fx_c w hno hlk (fx_rV (As := [.int (Int32.ofInt r34)]) (rest := []) F w cl_Mo 331 T_331 (met_Mo_readSum l hst9 D ad cA n0 M39 r34 _ thr hw) e_Mo_readSum ki_Mo_readSum ks_Mo_readSum k_1004 rfl hl.1 rfl (Nat.le_of_ble_eq_true rfl) ⟨⟨Nat.le_of_ble_eq_true rfl, Nat.le_of_ble_eq_true rfl⟩, Nat.le_of_ble_eq_true rfl, Nat.le_of_ble_eq_true rfl⟩ d_Mo_readUpdate_77) (fun r44 M43 hw H locs w => ?_)
        show W p l e _ s m _ below meth c H locs 0 0 _ (F0 m 80 ls [.int (Int32.ofInt r44)])
        obtain ⟨h45, hw⟩ := hw
        refine fi_if_eq F d_Mo_readUpdate_80 (tgt := 87) (by decide) h45 (fun hc46 => ?_) (fun hc46 => ?_)
        · have hw := hw.1 hc46
          refine lv_iconst (v := Int32.ofInt 0) F.1 F.2.1 d_Mo_readUpdate_87 (by decide) ?_
          exact fx_zret F w hr hlk (fx_nz (by decide)) hw d_Mo_readUpdate_88
        · have hw := hw.2 hc46
          refine lv_iconst (v := Int32.ofInt 1) F.1 F.2.1 d_Mo_readUpdate_83 (by decide) ?_
          refine lv_goto F.1 F.2.1 d_Mo_readUpdate_84 (tgt := 88) (by decide) ?_
          exact fx_zret F w hr hlk (fx_nz (by decide)) hw d_Mo_readUpdate_88
    · have hw := hw.2 hc38
      refine lv_aload_n F.1 F.2.1 d_Mo_readUpdate_59 rfl (lv_at hl 2 rfl) ?_
      refine lv_iload_n F.1 F.2.1 d_Mo_readUpdate_60 rfl (lv_at hl 1 rfl) ?_
      refine fx_c w hno hlk (fx_rV (As := [.int (Int32.ofInt (M 331 3))]) (rest := []) F w cl_Mo 331 T_331 (met_Mo_fail l hst9 D ad cA n0 M35 (M 331 3) _ thr hw) e_Mo_fail ki_Mo_fail ks_Mo_fail k_976 rfl hl.1 rfl (Nat.le_of_ble_eq_true rfl) ⟨⟨Nat.le_of_ble_eq_true rfl, Nat.le_of_ble_eq_true rfl⟩, Nat.le_of_ble_eq_true rfl, Nat.le_of_ble_eq_true rfl⟩ d_Mo_readUpdate_61) (fun r48 M47 hw H locs w => ?_)
      show W p l e _ s m _ below meth c H locs 0 0 _ (F0 m 64 ls [.int (Int32.ofInt r48)])
      obtain ⟨h49, hw⟩ := hw
      exact fx_zret F w hr hlk (fx_nz h49) hw d_Mo_readUpdate_64
  · have hw := hw.2 hc30
    refine lv_aload_n F.1 F.2.1 d_Mo_readUpdate_12 rfl (lv_at hl 1 rfl) ?_
    refine lv_aload_n F.1 F.2.1 d_Mo_readUpdate_13 rfl (lv_at hl 1 rfl) ?_
    refine fm_gI F w cl_Mo 331 3 T_331 (by decide) rfl k_817 d_Mo_readUpdate_14 ?_
    refine fx_c w hno hlk (fx_rV (As := [.int (Int32.ofInt (M27 331 3))]) (rest := []) F w cl_Mo 331 T_331 (met_Mo_fail l hst9 D ad cA n0 M27 (M27 331 3) _ thr hw) e_Mo_fail ki_Mo_fail ks_Mo_fail k_976 rfl hl.1 rfl (Nat.le_of_ble_eq_true rfl) ⟨⟨Nat.le_of_ble_eq_true rfl, Nat.le_of_ble_eq_true rfl⟩, Nat.le_of_ble_eq_true rfl, Nat.le_of_ble_eq_true rfl⟩ d_Mo_readUpdate_17) (fun r51 M50 hw H locs w => ?_)
    show W p l e _ s m _ below meth c H locs 0 0 _ (F0 m 20 ls [.int (Int32.ofInt r51)])
    obtain ⟨h52, hw⟩ := hw
    exact fx_zret F w hr hlk (fx_nz h52) hw d_Mo_readUpdate_20
set_option maxHeartbeats 4000000 in
set_option maxRecDepth 100000 in
theorem met_Mo_readBranch (l : Launch) (hst9 : l.stackTraces = false) (D : va_G) (ad : Nat → Nat) (cA : Nat → ClassId) (n0 : Nat) (M : fm_M) (a1 : Int) (post : Int → fm_M → Prop) (thr : String → fm_M → Prop) (hw : wp_Mo_readBranch M a1 post thr) : fx_Met l y_Mo_readBranch (Cond.code y_Mo_readBranch b_Mo_readBranch 5 (some .boolean) :: tb) { frames := 6, cells := 1, slots := 6, locals := 135 } [.ref (ad 331), .int (Int32.ofInt a1)] D ad cA n0 M 0 post thr := by
  refine fx_met (by decide) (Nat.le_of_ble_eq_true rfl) (fun p e s m below meth c ls F w hno hr hlk hl => ?_)
  have blk_165 : ∀ (J_125 : (fm_M → Int → Int → Prop)) (M : fm_M) (v3 : Int) (s0 : Int), B_Mo_readBranch_165 a1 post thr J_125 M v3 s0 → (∀ (M : fm_M) (v3 : Int) (v4 : Int), J_125 M v3 v4 → fx_G p l e { frames := 6, cells := 1, slots := 6, locals := 135 } s m ([.ref (ad 331), .int (Int32.ofInt a1)] : List Value).toArray below meth c D ad cA n0 0 post thr 5 M [(0, .ref (ad 331)), (1, .int (Int32.ofInt a1)), (3, .int (Int32.ofInt v3)), (4, .int (Int32.ofInt v4))] 125 []) → fx_G p l e { frames := 6, cells := 1, slots := 6, locals := 135 } s m ([.ref (ad 331), .int (Int32.ofInt a1)] : List Value).toArray below meth c D ad cA n0 0 post thr 5 M [(0, .ref (ad 331)), (1, .int (Int32.ofInt a1)), (3, .int (Int32.ofInt v3))] 165 [.int (Int32.ofInt s0)] := by
    intro J_125 M v3 s0 hw hJ_125 H locs ls w hl
    refine lv_istore F.1 F.2.1 d_Mo_readBranch_165 hl (by decide) rfl (fun ls hl => ?_)
    have hl : lv_has ls 5 [(4, .int (Int32.ofInt s0)), (0, .ref (ad 331)), (1, .int (Int32.ofInt a1)), (3, .int (Int32.ofInt v3))] := hl
    refine lv_goto F.1 F.2.1 d_Mo_readBranch_167 (tgt := 125) (by decide) ?_
    exact hJ_125 M v3 s0 hw H locs ls w (lv_sub hl [1, 2, 3, 0] rfl)
  have blc_125 : ∀ (J_125 : (fm_M → Int → Int → Prop)) (M : fm_M) (v3 : Int) (v4 : Int), C_Mo_readBranch_125 a1 post thr J_125 M v3 v4 → (∀ (M : fm_M) (v3 : Int) (v4 : Int), J_125 M v3 v4 → fx_G p l e { frames := 6, cells := 1, slots := 6, locals := 135 } s m ([.ref (ad 331), .int (Int32.ofInt a1)] : List Value).toArray below meth c D ad cA n0 0 post thr 5 M [(0, .ref (ad 331)), (1, .int (Int32.ofInt a1)), (3, .int (Int32.ofInt v3)), (4, .int (Int32.ofInt v4))] 125 []) → fx_G p l e { frames := 6, cells := 1, slots := 6, locals := 135 } s m ([.ref (ad 331), .int (Int32.ofInt a1)] : List Value).toArray below meth c D ad cA n0 0 post thr 5 M [(0, .ref (ad 331)), (1, .int (Int32.ofInt a1)), (3, .int (Int32.ofInt v3)), (4, .int (Int32.ofInt v4))] 125 [] := by
    intro J_125 M v3 v4 hw hJ_125 H locs ls w hl
    refine lv_iload F.1 F.2.1 d_Mo_readBranch_125 (lv_at hl 3 rfl) ?_
    obtain ⟨h35, hw⟩ := hw
    refine fi_if_eq F d_Mo_readBranch_127 (tgt := 170) (by decide) h35 (fun hc36 => ?_) (fun hc36 => ?_)
    · have hw := hw.1 hc36
      refine lv_iconst (v := Int32.ofInt 1) F.1 F.2.1 d_Mo_readBranch_170 (by decide) ?_
      exact fx_zret F w hr hlk (fx_nz (by decide)) hw d_Mo_readBranch_171
    · have hw := hw.2 hc36
      refine lv_aload_n F.1 F.2.1 d_Mo_readBranch_130 rfl (lv_at hl 0 rfl) ?_
      refine lv_dup F.1 F.2.1 d_Mo_readBranch_131 rfl ?_
      refine fm_gI F w cl_Mo 331 3 T_331 (by decide) rfl k_817 d_Mo_readBranch_132 ?_
      refine lv_iconst (v := Int32.ofInt 1) F.1 F.2.1 d_Mo_readBranch_135 (by decide) ?_
      refine fi_iadd F d_Mo_readBranch_136 ?_
      refine fm_pI F w cl_Mo 331 3 T_331 (by decide) rfl k_817 rfl rfl d_Mo_readBranch_137 (fun M37 hM37 H locs w => ?_)
      have hw := hw M37 hM37
      refine lv_aload_n F.1 F.2.1 d_Mo_readBranch_140 rfl (lv_at hl 0 rfl) ?_
      refine lv_iload_n F.1 F.2.1 d_Mo_readBranch_141 rfl (lv_at hl 1 rfl) ?_
      refine lv_iload_n F.1 F.2.1 d_Mo_readBranch_142 rfl (lv_at hl 2 rfl) ?_
      refine fx_c w hno hlk (fx_rV (As := [.int (Int32.ofInt a1), .int (Int32.ofInt v3)]) (rest := []) F w cl_Mo 331 T_331 (met_Mo_readUpdate l hst9 D ad cA n0 M37 a1 v3 _ thr hw) e_Mo_readUpdate ki_Mo_readUpdate ks_Mo_readUpdate k_1023 rfl hl.1 rfl (Nat.le_of_ble_eq_true rfl) ⟨⟨Nat.le_of_ble_eq_true rfl, Nat.le_of_ble_eq_true rfl⟩, Nat.le_of_ble_eq_true rfl, Nat.le_of_ble_eq_true rfl⟩ d_Mo_readBranch_143) (fun r39 M38 hw H locs w => ?_)
      show W p l e _ s m _ below meth c H locs 0 0 _ (F0 m 146 ls [.int (Int32.ofInt r39)])
      obtain ⟨h40, hw⟩ := hw
      refine fi_if_ne F d_Mo_readBranch_146 (tgt := 151) (by decide) h40 (fun hc41 => ?_) (fun hc41 => ?_)
      · have hw := hw.1 hc41
        refine lv_aload_n F.1 F.2.1 d_Mo_readBranch_151 rfl (lv_at hl 0 rfl) ?_
        refine fx_c w hno hlk (fx_rV (As := []) (rest := []) F w cl_Mo 331 T_331 (met_Mo_here l hst9 D ad cA n0 M38 _ thr hw) e_Mo_here ki_Mo_here ks_Mo_here k_968 rfl hl.1 rfl (Nat.le_of_ble_eq_true rfl) ⟨⟨Nat.le_of_ble_eq_true rfl, Nat.le_of_ble_eq_true rfl⟩, Nat.le_of_ble_eq_true rfl, Nat.le_of_ble_eq_true rfl⟩ d_Mo_readBranch_152) (fun r43 M42 hw H locs w => ?_)
        show W p l e _ s m _ below meth c H locs 0 0 _ (F0 m 155 ls [.int (Int32.ofInt r43)])
        refine lv_bipush (v := Int32.ofInt 44) F.1 F.2.1 d_Mo_readBranch_155 (by decide) ?_
        obtain ⟨h44, hw⟩ := hw
        refine fi_icmp_ne F d_Mo_readBranch_157 (tgt := 164) (by decide) h44 (rgl (by decide)) (fun hc45 => ?_) (fun hc45 => ?_)
        · have hw := hw.1 hc45
          refine lv_iconst (v := Int32.ofInt 0) F.1 F.2.1 d_Mo_readBranch_164 (by decide) ?_
          exact blk_165 J_125 M42 v3 0 hw hJ_125 H locs ls w (lv_sub hl [0, 1, 2] rfl)
        · have hw := hw.2 hc45
          refine lv_iconst (v := Int32.ofInt 1) F.1 F.2.1 d_Mo_readBranch_160 (by decide) ?_
          refine lv_goto F.1 F.2.1 d_Mo_readBranch_161 (tgt := 165) (by decide) ?_
          exact blk_165 J_125 M42 v3 1 hw hJ_125 H locs ls w (lv_sub hl [0, 1, 2] rfl)
      · have hw := hw.2 hc41
        refine lv_iconst (v := Int32.ofInt 0) F.1 F.2.1 d_Mo_readBranch_149 (by decide) ?_
        exact fx_zret F w hr hlk (fx_nz (by decide)) hw d_Mo_readBranch_150
  have blk_125 : ∀ (M : fm_M) (v3 : Int) (v4 : Int), B_Mo_readBranch_125 a1 post thr M v3 v4 → fx_G p l e { frames := 6, cells := 1, slots := 6, locals := 135 } s m ([.ref (ad 331), .int (Int32.ofInt a1)] : List Value).toArray below meth c D ad cA n0 0 post thr 5 M [(0, .ref (ad 331)), (1, .int (Int32.ofInt a1)), (3, .int (Int32.ofInt v3)), (4, .int (Int32.ofInt v4))] 125 [] := by
    intro M v3 v4 hw
    obtain ⟨I, μ, hI, hB⟩ := hw
    have key : ∀ (q : Nat) (M : fm_M) (v3 : Int) (v4 : Int), μ M v3 v4 < q → I M v3 v4 → fx_G p l e { frames := 6, cells := 1, slots := 6, locals := 135 } s m ([.ref (ad 331), .int (Int32.ofInt a1)] : List Value).toArray below meth c D ad cA n0 0 post thr 5 M [(0, .ref (ad 331)), (1, .int (Int32.ofInt a1)), (3, .int (Int32.ofInt v3)), (4, .int (Int32.ofInt v4))] 125 [] := by
      intro q
      induction q with
      | zero => intro M v3 v4 h _; exact absurd h (Nat.not_lt_zero _)
      | succ q ih =>
        intro M v3 v4 hμ hI
        exact blc_125 (fun M' v3' v4' => I M' v3' v4' ∧ μ M' v3' v4' < μ M v3 v4) M v3 v4 (hB M v3 v4 hI) (fun M' v3' v4' hh => ih M' v3' v4' (Nat.lt_of_lt_of_le hh.2 (Nat.le_of_lt_succ hμ)) hh.1)
    exact key _ M v3 v4 (Nat.lt_succ_self _) hI
  have blk_123 : ∀ (M : fm_M) (v3 : Int) (s0 : Int), B_Mo_readBranch_123 a1 post thr M v3 s0 → fx_G p l e { frames := 6, cells := 1, slots := 6, locals := 135 } s m ([.ref (ad 331), .int (Int32.ofInt a1)] : List Value).toArray below meth c D ad cA n0 0 post thr 5 M [(0, .ref (ad 331)), (1, .int (Int32.ofInt a1)), (3, .int (Int32.ofInt v3))] 123 [.int (Int32.ofInt s0)] := by
    intro M v3 s0 hw H locs ls w hl
    refine lv_istore F.1 F.2.1 d_Mo_readBranch_123 hl (by decide) rfl (fun ls hl => ?_)
    have hl : lv_has ls 5 [(4, .int (Int32.ofInt s0)), (0, .ref (ad 331)), (1, .int (Int32.ofInt a1)), (3, .int (Int32.ofInt v3))] := hl
    exact blk_125 M v3 s0 hw H locs ls w (lv_sub hl [1, 2, 3, 0] rfl)
  have blc_80 : ∀ (J_80 : (fm_M → Int → Int → Prop)) (M : fm_M) (v3 : Int) (v4 : Int), C_Mo_readBranch_80 a1 post thr J_80 M v3 v4 → (∀ (M : fm_M) (v3 : Int) (v4 : Int), J_80 M v3 v4 → fx_G p l e { frames := 6, cells := 1, slots := 6, locals := 135 } s m ([.ref (ad 331), .int (Int32.ofInt a1)] : List Value).toArray below meth c D ad cA n0 0 post thr 5 M [(0, .ref (ad 331)), (1, .int (Int32.ofInt a1)), (3, .int (Int32.ofInt v3)), (4, .int (Int32.ofInt v4))] 80 []) → fx_G p l e { frames := 6, cells := 1, slots := 6, locals := 135 } s m ([.ref (ad 331), .int (Int32.ofInt a1)] : List Value).toArray below meth c D ad cA n0 0 post thr 5 M [(0, .ref (ad 331)), (1, .int (Int32.ofInt a1)), (3, .int (Int32.ofInt v3)), (4, .int (Int32.ofInt v4))] 80 [] := by
    intro J_80 M v3 v4 hw hJ_80 H locs ls w hl
    refine lv_iload F.1 F.2.1 d_Mo_readBranch_80 (lv_at hl 3 rfl) ?_
    refine lv_iconst (v := Int32.ofInt 3) F.1 F.2.1 d_Mo_readBranch_82 (by decide) ?_
    obtain ⟨h46, hw⟩ := hw
    refine fi_icmp_ge F d_Mo_readBranch_83 (tgt := 109) (by decide) h46 (rgl (by decide)) (fun hc47 => ?_) (fun hc47 => ?_)
    · have hw := hw.1 hc47
      refine lv_aload_n F.1 F.2.1 d_Mo_readBranch_109 rfl (lv_at hl 0 rfl) ?_
      refine fx_c w hno hlk (fx_rV (As := []) (rest := []) F w cl_Mo 331 T_331 (met_Mo_here l hst9 D ad cA n0 M _ thr hw) e_Mo_here ki_Mo_here ks_Mo_here k_968 rfl hl.1 rfl (Nat.le_of_ble_eq_true rfl) ⟨⟨Nat.le_of_ble_eq_true rfl, Nat.le_of_ble_eq_true rfl⟩, Nat.le_of_ble_eq_true rfl, Nat.le_of_ble_eq_true rfl⟩ d_Mo_readBranch_110) (fun r49 M48 hw H locs w => ?_)
      show W p l e _ s m _ below meth c H locs 0 0 _ (F0 m 113 ls [.int (Int32.ofInt r49)])
      refine lv_bipush (v := Int32.ofInt 58) F.1 F.2.1 d_Mo_readBranch_113 (by decide) ?_
      obtain ⟨h50, hw⟩ := hw
      refine fi_icmp_ne F d_Mo_readBranch_115 (tgt := 122) (by decide) h50 (rgl (by decide)) (fun hc51 => ?_) (fun hc51 => ?_)
      · have hw := hw.1 hc51
        refine lv_iconst (v := Int32.ofInt 0) F.1 F.2.1 d_Mo_readBranch_122 (by decide) ?_
        exact blk_123 M48 v3 0 hw H locs ls w (lv_sub hl [0, 1, 2] rfl)
      · have hw := hw.2 hc51
        refine lv_iconst (v := Int32.ofInt 1) F.1 F.2.1 d_Mo_readBranch_118 (by decide) ?_
        refine lv_goto F.1 F.2.1 d_Mo_readBranch_119 (tgt := 123) (by decide) ?_
        exact blk_123 M48 v3 1 hw H locs ls w (lv_sub hl [0, 1, 2] rfl)
    · have hw := hw.2 hc47
      refine lv_aload_n F.1 F.2.1 d_Mo_readBranch_86 rfl (lv_at hl 0 rfl) ?_
      refine fm_gO F w cl_Mo 331 17 342 T_331 (by decide) rfl rfl k_831 d_Mo_readBranch_87 ?_
      refine lv_aload_n F.1 F.2.1 d_Mo_readBranch_90 rfl (lv_at hl 0 rfl) ?_
      refine fm_gI F w cl_Mo 331 7 T_331 (by decide) rfl k_821 d_Mo_readBranch_91 ?_
      refine lv_iload_n F.1 F.2.1 d_Mo_readBranch_94 rfl (lv_at hl 1 rfl) ?_
      refine lv_iload_n F.1 F.2.1 d_Mo_readBranch_95 rfl (lv_at hl 2 rfl) ?_
      refine lv_iload F.1 F.2.1 d_Mo_readBranch_96 (lv_at hl 3 rfl) ?_
      refine fx_c w hno hlk (fx_rS (As := [.int (Int32.ofInt (M 331 7)), .int (Int32.ofInt a1), .int (Int32.ofInt v3), .int (Int32.ofInt v4)]) (rest := [.ref (ad 342)]) F w (met_Mo_updateAt l hst9 D ad cA n0 M (M 331 7) a1 v3 v4 _ thr hw) e_Mo_updateAt kt_Mo_updateAt k_1020 rfl hl.1 rfl (Nat.le_of_ble_eq_true rfl) ⟨⟨Nat.le_of_ble_eq_true rfl, Nat.le_of_ble_eq_true rfl⟩, Nat.le_of_ble_eq_true rfl, Nat.le_of_ble_eq_true rfl⟩ d_Mo_readBranch_98) (fun r53 M52 hw H locs w => ?_)
      show W p l e _ s m _ below meth c H locs 0 0 _ (F0 m 101 ls [.int (Int32.ofInt r53), .ref (ad 342)])
      refine lv_iconst (v := Int32.ofInt 0) F.1 F.2.1 d_Mo_readBranch_101 (by decide) ?_
      obtain ⟨h54, hw⟩ := hw
      refine fm_sI F w 342 T_342 (by decide) h54  d_Mo_readBranch_102 (fun M55 hM55 H locs w => ?_)
      have hw := hw M55 hM55
      refine fi_iinc (k := 3) (v := (v4 + 1)) F d_Mo_readBranch_103 hl rfl rfl (by decide) rfl (fun ls hl => ?_)
      have hl : lv_has ls 5 [(4, .int (Int32.ofInt (v4 + 1))), (0, .ref (ad 331)), (1, .int (Int32.ofInt a1)), (3, .int (Int32.ofInt v3))] := hl
      refine lv_goto F.1 F.2.1 d_Mo_readBranch_106 (tgt := 80) (by decide) ?_
      exact hJ_80 M55 v3 (v4 + 1) hw H locs ls w (lv_sub hl [1, 2, 3, 0] rfl)
  have blk_80 : ∀ (M : fm_M) (v3 : Int) (v4 : Int), B_Mo_readBranch_80 a1 post thr M v3 v4 → fx_G p l e { frames := 6, cells := 1, slots := 6, locals := 135 } s m ([.ref (ad 331), .int (Int32.ofInt a1)] : List Value).toArray below meth c D ad cA n0 0 post thr 5 M [(0, .ref (ad 331)), (1, .int (Int32.ofInt a1)), (3, .int (Int32.ofInt v3)), (4, .int (Int32.ofInt v4))] 80 [] := by
    intro M v3 v4 hw
    obtain ⟨I, μ, hI, hB⟩ := hw
    have key : ∀ (q : Nat) (M : fm_M) (v3 : Int) (v4 : Int), μ M v3 v4 < q → I M v3 v4 → fx_G p l e { frames := 6, cells := 1, slots := 6, locals := 135 } s m ([.ref (ad 331), .int (Int32.ofInt a1)] : List Value).toArray below meth c D ad cA n0 0 post thr 5 M [(0, .ref (ad 331)), (1, .int (Int32.ofInt a1)), (3, .int (Int32.ofInt v3)), (4, .int (Int32.ofInt v4))] 80 [] := by
      intro q
      induction q with
      | zero => intro M v3 v4 h _; exact absurd h (Nat.not_lt_zero _)
      | succ q ih =>
        intro M v3 v4 hμ hI
        exact blc_80 (fun M' v3' v4' => I M' v3' v4' ∧ μ M' v3' v4' < μ M v3 v4) M v3 v4 (hB M v3 v4 hI) (fun M' v3' v4' hh => ih M' v3' v4' (Nat.lt_of_lt_of_le hh.2 (Nat.le_of_lt_succ hμ)) hh.1)
    exact key _ M v3 v4 (Nat.lt_succ_self _) hI
  have hl : lv_has ls 5 [(0, .ref (ad 331)), (1, .int (Int32.ofInt a1))] := hl
  suffices h9 : fx_G p l e { frames := 6, cells := 1, slots := 6, locals := 135 } s m ([.ref (ad 331), .int (Int32.ofInt a1)] : List Value).toArray below meth c D ad cA n0 0 post thr 5 M [(0, .ref (ad 331)), (1, .int (Int32.ofInt a1))] 0 [] from h9 _ _ _ w hl
  intro H locs ls w hl
  refine lv_bipush (v := Int32.ofInt 10) F.1 F.2.1 d_Mo_readBranch_0 (by decide) ?_
  refine lv_aload_n F.1 F.2.1 d_Mo_readBranch_2 rfl (lv_at hl 0 rfl) ?_
  refine fm_gI F w cl_Mo 331 7 T_331 (by decide) rfl k_821 d_Mo_readBranch_3 ?_
  refine fi_imul F d_Mo_readBranch_6 ?_
  refine lv_iload_n F.1 F.2.1 d_Mo_readBranch_7 rfl (lv_at hl 1 rfl) ?_
  refine fi_iadd F d_Mo_readBranch_8 ?_
  refine lv_istore_n F.1 F.2.1 d_Mo_readBranch_9 rfl hl (by decide) rfl (fun ls hl => ?_)
  have hl : lv_has ls 5 [(2, .int (Int32.ofInt ((10 * (M 331 7)) + a1))), (0, .ref (ad 331)), (1, .int (Int32.ofInt a1))] := hl
  refine lv_aload_n F.1 F.2.1 d_Mo_readBranch_10 rfl (lv_at hl 1 rfl) ?_
  refine lv_iconst (v := Int32.ofInt 1) F.1 F.2.1 d_Mo_readBranch_11 (by decide) ?_
  refine lv_bipush (v := Int32.ofInt 6) F.1 F.2.1 d_Mo_readBranch_12 (by decide) ?_
  refine lv_aload_n F.1 F.2.1 d_Mo_readBranch_14 rfl (lv_at hl 1 rfl) ?_
  refine fm_gO F w cl_Mo 331 13 338 T_331 (by decide) rfl rfl k_827 d_Mo_readBranch_15 ?_
  refine lv_iload_n F.1 F.2.1 d_Mo_readBranch_18 rfl (lv_at hl 0 rfl) ?_
  obtain ⟨h56, hw⟩ := hw
  refine fm_aI F w 338 T_338 (by decide) h56 d_Mo_readBranch_19 ?_
  refine fi_isub F d_Mo_readBranch_20 ?_
  refine fx_c w hno hlk (fx_rV (As := [.int (Int32.ofInt 1), .int (Int32.ofInt (6 - (M 338 ((10 * (M 331 7)) + a1).toNat)))]) (rest := []) F w cl_Mo 331 T_331 (met_Mo_readNumber l hst9 D ad cA n0 M 1 (6 - (M 338 ((10 * (M 331 7)) + a1).toNat)) _ thr hw) e_Mo_readNumber ki_Mo_readNumber ks_Mo_readNumber k_980 rfl hl.1 rfl (Nat.le_of_ble_eq_true rfl) ⟨⟨Nat.le_of_ble_eq_true rfl, Nat.le_of_ble_eq_true rfl⟩, Nat.le_of_ble_eq_true rfl, Nat.le_of_ble_eq_true rfl⟩ d_Mo_readBranch_21) (fun r58 M57 hw H locs w => ?_)
  show W p l e _ s m _ below meth c H locs 0 0 _ (F0 m 24 ls [.int (Int32.ofInt r58)])
  obtain ⟨h59, hw⟩ := hw
  refine fi_if_ne F d_Mo_readBranch_24 (tgt := 29) (by decide) h59 (fun hc60 => ?_) (fun hc60 => ?_)
  · have hw := hw.1 hc60
    refine lv_aload_n F.1 F.2.1 d_Mo_readBranch_29 rfl (lv_at hl 1 rfl) ?_
    refine fm_gO F w cl_Mo 331 12 337 T_331 (by decide) rfl rfl k_826 d_Mo_readBranch_30 ?_
    refine lv_iload_n F.1 F.2.1 d_Mo_readBranch_33 rfl (lv_at hl 0 rfl) ?_
    refine fm_aI F w 337 T_337 (by decide) h56 d_Mo_readBranch_34 ?_
    refine lv_istore_n F.1 F.2.1 d_Mo_readBranch_35 rfl hl (by decide) rfl (fun ls hl => ?_)
    have hl : lv_has ls 5 [(3, .int (Int32.ofInt (M57 337 ((10 * (M 331 7)) + a1).toNat))), (2, .int (Int32.ofInt ((10 * (M 331 7)) + a1))), (0, .ref (ad 331)), (1, .int (Int32.ofInt a1))] := hl
    refine lv_aload_n F.1 F.2.1 d_Mo_readBranch_36 rfl (lv_at hl 2 rfl) ?_
    refine fm_gO F w cl_Mo 331 14 339 T_331 (by decide) rfl rfl k_828 d_Mo_readBranch_37 ?_
    refine lv_iconst (v := Int32.ofInt 4) F.1 F.2.1 d_Mo_readBranch_40 (by decide) ?_
    refine lv_iload_n F.1 F.2.1 d_Mo_readBranch_41 rfl (lv_at hl 1 rfl) ?_
    refine fi_imul F d_Mo_readBranch_42 ?_
    refine lv_iload_n F.1 F.2.1 d_Mo_readBranch_43 rfl (lv_at hl 0 rfl) ?_
    refine fi_iadd F d_Mo_readBranch_44 ?_
    refine lv_aload_n F.1 F.2.1 d_Mo_readBranch_45 rfl (lv_at hl 2 rfl) ?_
    refine fm_gI F w cl_Mo 331 5 T_331 (by decide) rfl k_819 d_Mo_readBranch_46 ?_
    obtain ⟨h61, hw⟩ := hw
    refine fm_sI F w 339 T_339 (by decide) h61  d_Mo_readBranch_49 (fun M62 hM62 H locs w => ?_)
    have hw := hw M62 hM62
    refine lv_aload_n F.1 F.2.1 d_Mo_readBranch_50 rfl (lv_at hl 2 rfl) ?_
    refine fm_gO F w cl_Mo 331 13 338 T_331 (by decide) rfl rfl k_827 d_Mo_readBranch_51 ?_
    refine lv_iload_n F.1 F.2.1 d_Mo_readBranch_54 rfl (lv_at hl 1 rfl) ?_
    refine lv_aload_n F.1 F.2.1 d_Mo_readBranch_55 rfl (lv_at hl 2 rfl) ?_
    refine fm_gO F w cl_Mo 331 13 338 T_331 (by decide) rfl rfl k_827 d_Mo_readBranch_56 ?_
    refine lv_iload_n F.1 F.2.1 d_Mo_readBranch_59 rfl (lv_at hl 1 rfl) ?_
    refine fm_aI F w 338 T_338 (by decide) h56 d_Mo_readBranch_60 ?_
    refine lv_aload_n F.1 F.2.1 d_Mo_readBranch_61 rfl (lv_at hl 2 rfl) ?_
    refine fm_gI F w cl_Mo 331 5 T_331 (by decide) rfl k_819 d_Mo_readBranch_62 ?_
    refine fi_iadd F d_Mo_readBranch_65 ?_
    refine fm_sI F w 338 T_338 (by decide) h56  d_Mo_readBranch_66 (fun M63 hM63 H locs w => ?_)
    have hw := hw M63 hM63
    refine lv_aload_n F.1 F.2.1 d_Mo_readBranch_67 rfl (lv_at hl 2 rfl) ?_
    refine fm_gO F w cl_Mo 331 12 337 T_331 (by decide) rfl rfl k_826 d_Mo_readBranch_68 ?_
    refine lv_iload_n F.1 F.2.1 d_Mo_readBranch_71 rfl (lv_at hl 1 rfl) ?_
    refine lv_dup2_11 F.1 F.2.1 d_Mo_readBranch_72 rfl rfl ?_
    refine fm_aI F w 337 T_337 (by decide) h56 d_Mo_readBranch_73 ?_
    refine lv_iconst (v := Int32.ofInt 1) F.1 F.2.1 d_Mo_readBranch_74 (by decide) ?_
    refine fi_iadd F d_Mo_readBranch_75 ?_
    refine fm_sI F w 337 T_337 (by decide) h56  d_Mo_readBranch_76 (fun M64 hM64 H locs w => ?_)
    have hw := hw M64 hM64
    refine lv_iconst (v := Int32.ofInt 0) F.1 F.2.1 d_Mo_readBranch_77 (by decide) ?_
    refine lv_istore F.1 F.2.1 d_Mo_readBranch_78 hl (by decide) rfl (fun ls hl => ?_)
    have hl : lv_has ls 5 [(4, .int (Int32.ofInt 0)), (3, .int (Int32.ofInt (M57 337 ((10 * (M 331 7)) + a1).toNat))), (2, .int (Int32.ofInt ((10 * (M 331 7)) + a1))), (0, .ref (ad 331)), (1, .int (Int32.ofInt a1))] := hl
    exact blk_80 M64 (M57 337 ((10 * (M 331 7)) + a1).toNat) 0 hw H locs ls w (lv_sub hl [3, 4, 1, 0] rfl)
  · have hw := hw.2 hc60
    refine lv_iconst (v := Int32.ofInt 0) F.1 F.2.1 d_Mo_readBranch_27 (by decide) ?_
    exact fx_zret F w hr hlk (fx_nz (by decide)) hw d_Mo_readBranch_28
set_option maxHeartbeats 4000000 in
set_option maxRecDepth 100000 in
theorem met_Mo_readCommand (l : Launch) (hst9 : l.stackTraces = false) (D : va_G) (ad : Nat → Nat) (cA : Nat → ClassId) (n0 : Nat) (M : fm_M) (post : Int → fm_M → Prop) (thr : String → fm_M → Prop) (hw : wp_Mo_readCommand M post thr) : fx_Met l y_Mo_readCommand (Cond.code y_Mo_readCommand b_Mo_readCommand 3 (some .boolean) :: tb) { frames := 7, cells := 1, slots := 6, locals := 159 } [.ref (ad 331)] D ad cA n0 M 0 post thr := by
  refine fx_met (by decide) (Nat.le_of_ble_eq_true rfl) (fun p e s m below meth c ls F w hno hr hlk hl => ?_)
  have blc_106 : ∀ (J_106 : (fm_M → Int → Int → Prop)) (M : fm_M) (v1 : Int) (v2 : Int), C_Mo_readCommand_106 post thr J_106 M v1 v2 → (∀ (M : fm_M) (v1 : Int) (v2 : Int), J_106 M v1 v2 → fx_G p l e { frames := 7, cells := 1, slots := 6, locals := 159 } s m ([.ref (ad 331)] : List Value).toArray below meth c D ad cA n0 0 post thr 3 M [(0, .ref (ad 331)), (1, .int (Int32.ofInt v1)), (2, .int (Int32.ofInt v2))] 106 []) → fx_G p l e { frames := 7, cells := 1, slots := 6, locals := 159 } s m ([.ref (ad 331)] : List Value).toArray below meth c D ad cA n0 0 post thr 3 M [(0, .ref (ad 331)), (1, .int (Int32.ofInt v1)), (2, .int (Int32.ofInt v2))] 106 [] := by
    intro J_106 M v1 v2 hw hJ_106 H locs ls w hl
    refine lv_aload_n F.1 F.2.1 d_Mo_readCommand_106 rfl (lv_at hl 0 rfl) ?_
    refine fx_c w hno hlk (fx_rV (As := []) (rest := []) F w cl_Mo 331 T_331 (met_Mo_here l hst9 D ad cA n0 M _ thr hw) e_Mo_here ki_Mo_here ks_Mo_here k_968 rfl hl.1 rfl (Nat.le_of_ble_eq_true rfl) ⟨⟨Nat.le_of_ble_eq_true rfl, Nat.le_of_ble_eq_true rfl⟩, Nat.le_of_ble_eq_true rfl, Nat.le_of_ble_eq_true rfl⟩ d_Mo_readCommand_107) (fun r70 M69 hw H locs w => ?_)
    show W p l e _ s m _ below meth c H locs 0 0 _ (F0 m 110 ls [.int (Int32.ofInt r70)])
    refine lv_bipush (v := Int32.ofInt 124) F.1 F.2.1 d_Mo_readCommand_110 (by decide) ?_
    obtain ⟨h71, hw⟩ := hw
    refine fi_icmp_ne F d_Mo_readCommand_112 (tgt := 154) (by decide) h71 (rgl (by decide)) (fun hc72 => ?_) (fun hc72 => ?_)
    · have hw := hw.1 hc72
      refine lv_aload_n F.1 F.2.1 d_Mo_readCommand_154 rfl (lv_at hl 0 rfl) ?_
      refine fm_gO F w cl_Mo 331 10 335 T_331 (by decide) rfl rfl k_824 d_Mo_readCommand_155 ?_
      refine lv_aload_n F.1 F.2.1 d_Mo_readCommand_158 rfl (lv_at hl 0 rfl) ?_
      refine fm_gI F w cl_Mo 331 7 T_331 (by decide) rfl k_821 d_Mo_readCommand_159 ?_
      refine lv_dup2_11 F.1 F.2.1 d_Mo_readCommand_162 rfl rfl ?_
      obtain ⟨h73, hw⟩ := hw
      refine fm_aI F w 335 T_335 (by decide) h73 d_Mo_readCommand_163 ?_
      refine lv_iconst (v := Int32.ofInt 1) F.1 F.2.1 d_Mo_readCommand_164 (by decide) ?_
      refine fi_iadd F d_Mo_readCommand_165 ?_
      refine fm_sI F w 335 T_335 (by decide) h73  d_Mo_readCommand_166 (fun M74 hM74 H locs w => ?_)
      have hw := hw M74 hM74
      refine lv_aload_n F.1 F.2.1 d_Mo_readCommand_167 rfl (lv_at hl 0 rfl) ?_
      refine lv_bipush (v := Int32.ofInt 59) F.1 F.2.1 d_Mo_readCommand_168 (by decide) ?_
      refine fx_c w hno hlk (fx_rV (As := [.int (Int32.ofInt 59)]) (rest := []) F w cl_Mo 331 T_331 (met_Mo_want l hst9 D ad cA n0 M74 59 _ thr hw) e_Mo_want ki_Mo_want ks_Mo_want k_988 rfl hl.1 rfl (Nat.le_of_ble_eq_true rfl) ⟨⟨Nat.le_of_ble_eq_true rfl, Nat.le_of_ble_eq_true rfl⟩, Nat.le_of_ble_eq_true rfl, Nat.le_of_ble_eq_true rfl⟩ d_Mo_readCommand_170) (fun r76 M75 hw H locs w => ?_)
      show W p l e _ s m _ below meth c H locs 0 0 _ (F0 m 173 ls [.int (Int32.ofInt r76)])
      obtain ⟨h77, hw⟩ := hw
      exact fx_zret F w hr hlk (fx_nz h77) hw d_Mo_readCommand_173
    · have hw := hw.2 hc72
      refine lv_aload_n F.1 F.2.1 d_Mo_readCommand_115 rfl (lv_at hl 0 rfl) ?_
      refine fm_gO F w cl_Mo 331 12 337 T_331 (by decide) rfl rfl k_826 d_Mo_readCommand_116 ?_
      refine lv_iload_n F.1 F.2.1 d_Mo_readCommand_119 rfl (lv_at hl 2 rfl) ?_
      obtain ⟨h78, hw⟩ := hw
      refine fm_aI F w 337 T_337 (by decide) h78 d_Mo_readCommand_120 ?_
      refine lv_iconst (v := Int32.ofInt 4) F.1 F.2.1 d_Mo_readCommand_121 (by decide) ?_
      obtain ⟨h79, hw⟩ := hw
      refine fi_icmp_ne F d_Mo_readCommand_122 (tgt := 134) (by decide) h79 (rgl (by decide)) (fun hc80 => ?_) (fun hc80 => ?_)
      · have hw := hw.1 hc80
        refine lv_aload_n F.1 F.2.1 d_Mo_readCommand_134 rfl (lv_at hl 0 rfl) ?_
        refine lv_dup F.1 F.2.1 d_Mo_readCommand_135 rfl ?_
        refine fm_gI F w cl_Mo 331 3 T_331 (by decide) rfl k_817 d_Mo_readCommand_136 ?_
        refine lv_iconst (v := Int32.ofInt 1) F.1 F.2.1 d_Mo_readCommand_139 (by decide) ?_
        refine fi_iadd F d_Mo_readCommand_140 ?_
        refine fm_pI F w cl_Mo 331 3 T_331 (by decide) rfl k_817 rfl rfl d_Mo_readCommand_141 (fun M81 hM81 H locs w => ?_)
        have hw := hw M81 hM81
        refine lv_aload_n F.1 F.2.1 d_Mo_readCommand_144 rfl (lv_at hl 0 rfl) ?_
        refine lv_iload_n F.1 F.2.1 d_Mo_readCommand_145 rfl (lv_at hl 1 rfl) ?_
        refine fx_c w hno hlk (fx_rV (As := [.int (Int32.ofInt v1)]) (rest := []) F w cl_Mo 331 T_331 (met_Mo_readBranch l hst9 D ad cA n0 M81 v1 _ thr hw) e_Mo_readBranch ki_Mo_readBranch ks_Mo_readBranch k_1016 rfl hl.1 rfl (Nat.le_of_ble_eq_true rfl) ⟨⟨Nat.le_of_ble_eq_true rfl, Nat.le_of_ble_eq_true rfl⟩, Nat.le_of_ble_eq_true rfl, Nat.le_of_ble_eq_true rfl⟩ d_Mo_readCommand_146) (fun r83 M82 hw H locs w => ?_)
        show W p l e _ s m _ below meth c H locs 0 0 _ (F0 m 149 ls [.int (Int32.ofInt r83)])
        obtain ⟨h84, hw⟩ := hw
        refine fi_if_ne F d_Mo_readCommand_149 (tgt := 106) (by decide) h84 (fun hc85 => ?_) (fun hc85 => ?_)
        · have hw := hw.1 hc85
          exact hJ_106 M82 v1 v2 hw H locs ls w (lv_sub hl [0, 1, 2] rfl)
        · have hw := hw.2 hc85
          refine lv_iconst (v := Int32.ofInt 0) F.1 F.2.1 d_Mo_readCommand_152 (by decide) ?_
          exact fx_zret F w hr hlk (fx_nz (by decide)) hw d_Mo_readCommand_153
      · have hw := hw.2 hc80
        refine lv_aload_n F.1 F.2.1 d_Mo_readCommand_125 rfl (lv_at hl 0 rfl) ?_
        refine lv_aload_n F.1 F.2.1 d_Mo_readCommand_126 rfl (lv_at hl 0 rfl) ?_
        refine fm_gI F w cl_Mo 331 3 T_331 (by decide) rfl k_817 d_Mo_readCommand_127 ?_
        refine fx_c w hno hlk (fx_rV (As := [.int (Int32.ofInt (M69 331 3))]) (rest := []) F w cl_Mo 331 T_331 (met_Mo_fail l hst9 D ad cA n0 M69 (M69 331 3) _ thr hw) e_Mo_fail ki_Mo_fail ks_Mo_fail k_976 rfl hl.1 rfl (Nat.le_of_ble_eq_true rfl) ⟨⟨Nat.le_of_ble_eq_true rfl, Nat.le_of_ble_eq_true rfl⟩, Nat.le_of_ble_eq_true rfl, Nat.le_of_ble_eq_true rfl⟩ d_Mo_readCommand_130) (fun r87 M86 hw H locs w => ?_)
        show W p l e _ s m _ below meth c H locs 0 0 _ (F0 m 133 ls [.int (Int32.ofInt r87)])
        obtain ⟨h88, hw⟩ := hw
        exact fx_zret F w hr hlk (fx_nz h88) hw d_Mo_readCommand_133
  have blk_106 : ∀ (M : fm_M) (v1 : Int) (v2 : Int), B_Mo_readCommand_106 post thr M v1 v2 → fx_G p l e { frames := 7, cells := 1, slots := 6, locals := 159 } s m ([.ref (ad 331)] : List Value).toArray below meth c D ad cA n0 0 post thr 3 M [(0, .ref (ad 331)), (1, .int (Int32.ofInt v1)), (2, .int (Int32.ofInt v2))] 106 [] := by
    intro M v1 v2 hw
    obtain ⟨I, μ, hI, hB⟩ := hw
    have key : ∀ (q : Nat) (M : fm_M) (v1 : Int) (v2 : Int), μ M v1 v2 < q → I M v1 v2 → fx_G p l e { frames := 7, cells := 1, slots := 6, locals := 159 } s m ([.ref (ad 331)] : List Value).toArray below meth c D ad cA n0 0 post thr 3 M [(0, .ref (ad 331)), (1, .int (Int32.ofInt v1)), (2, .int (Int32.ofInt v2))] 106 [] := by
      intro q
      induction q with
      | zero => intro M v1 v2 h _; exact absurd h (Nat.not_lt_zero _)
      | succ q ih =>
        intro M v1 v2 hμ hI
        exact blc_106 (fun M' v1' v2' => I M' v1' v2' ∧ μ M' v1' v2' < μ M v1 v2) M v1 v2 (hB M v1 v2 hI) (fun M' v1' v2' hh => ih M' v1' v2' (Nat.lt_of_lt_of_le hh.2 (Nat.le_of_lt_succ hμ)) hh.1)
    exact key _ M v1 v2 (Nat.lt_succ_self _) hI
  have blk_54 : ∀ (M : fm_M) (v1 : Int) (v2 : Int) (s0 : Int) (s1 : Int), B_Mo_readCommand_54 post thr M v1 v2 s0 s1 → fx_G p l e { frames := 7, cells := 1, slots := 6, locals := 159 } s m ([.ref (ad 331)] : List Value).toArray below meth c D ad cA n0 0 post thr 3 M [(0, .ref (ad 331)), (1, .int (Int32.ofInt v1)), (2, .int (Int32.ofInt v2))] 54 [.int (Int32.ofInt s0), .int (Int32.ofInt s1), .ref (ad 336)] := by
    intro M v1 v2 s0 s1 hw H locs ls w hl
    obtain ⟨h89, hw⟩ := hw
    obtain ⟨h90, hw⟩ := hw
    refine fm_sZ F w 336 T_336 (by decide) h89 h90 d_Mo_readCommand_54 (fun M91 hM91 H locs w => ?_)
    have hw := hw M91 hM91
    refine lv_aload_n F.1 F.2.1 d_Mo_readCommand_55 rfl (lv_at hl 0 rfl) ?_
    refine fm_gO F w cl_Mo 331 12 337 T_331 (by decide) rfl rfl k_826 d_Mo_readCommand_56 ?_
    refine lv_iload_n F.1 F.2.1 d_Mo_readCommand_59 rfl (lv_at hl 2 rfl) ?_
    refine lv_iconst (v := Int32.ofInt 0) F.1 F.2.1 d_Mo_readCommand_60 (by decide) ?_
    obtain ⟨h92, hw⟩ := hw
    refine fm_sI F w 337 T_337 (by decide) h92  d_Mo_readCommand_61 (fun M93 hM93 H locs w => ?_)
    have hw := hw M93 hM93
    refine lv_aload_n F.1 F.2.1 d_Mo_readCommand_62 rfl (lv_at hl 0 rfl) ?_
    refine fm_gO F w cl_Mo 331 13 338 T_331 (by decide) rfl rfl k_827 d_Mo_readCommand_63 ?_
    refine lv_iload_n F.1 F.2.1 d_Mo_readCommand_66 rfl (lv_at hl 2 rfl) ?_
    refine lv_iconst (v := Int32.ofInt 0) F.1 F.2.1 d_Mo_readCommand_67 (by decide) ?_
    refine fm_sI F w 338 T_338 (by decide) h92  d_Mo_readCommand_68 (fun M94 hM94 H locs w => ?_)
    have hw := hw M94 hM94
    refine lv_aload_n F.1 F.2.1 d_Mo_readCommand_69 rfl (lv_at hl 0 rfl) ?_
    refine lv_dup F.1 F.2.1 d_Mo_readCommand_70 rfl ?_
    refine fm_gI F w cl_Mo 331 3 T_331 (by decide) rfl k_817 d_Mo_readCommand_71 ?_
    refine lv_iconst (v := Int32.ofInt 1) F.1 F.2.1 d_Mo_readCommand_74 (by decide) ?_
    refine fi_iadd F d_Mo_readCommand_75 ?_
    refine fm_pI F w cl_Mo 331 3 T_331 (by decide) rfl k_817 rfl rfl d_Mo_readCommand_76 (fun M95 hM95 H locs w => ?_)
    have hw := hw M95 hM95
    refine lv_aload_n F.1 F.2.1 d_Mo_readCommand_79 rfl (lv_at hl 0 rfl) ?_
    refine lv_iload_n F.1 F.2.1 d_Mo_readCommand_80 rfl (lv_at hl 1 rfl) ?_
    refine fx_c w hno hlk (fx_rV (As := [.int (Int32.ofInt v1)]) (rest := []) F w cl_Mo 331 T_331 (met_Mo_readGuard l hst9 D ad cA n0 M95 v1 _ thr hw) e_Mo_readGuard ki_Mo_readGuard ks_Mo_readGuard k_996 rfl hl.1 rfl (Nat.le_of_ble_eq_true rfl) ⟨⟨Nat.le_of_ble_eq_true rfl, Nat.le_of_ble_eq_true rfl⟩, Nat.le_of_ble_eq_true rfl, Nat.le_of_ble_eq_true rfl⟩ d_Mo_readCommand_81) (fun r97 M96 hw H locs w => ?_)
    show W p l e _ s m _ below meth c H locs 0 0 _ (F0 m 84 ls [.int (Int32.ofInt r97)])
    obtain ⟨h98, hw⟩ := hw
    refine fi_if_eq F d_Mo_readCommand_84 (tgt := 104) (by decide) h98 (fun hc99 => ?_) (fun hc99 => ?_)
    · have hw := hw.1 hc99
      refine lv_iconst (v := Int32.ofInt 0) F.1 F.2.1 d_Mo_readCommand_104 (by decide) ?_
      exact fx_zret F w hr hlk (fx_nz (by decide)) hw d_Mo_readCommand_105
    · have hw := hw.2 hc99
      refine lv_aload_n F.1 F.2.1 d_Mo_readCommand_87 rfl (lv_at hl 0 rfl) ?_
      refine lv_bipush (v := Int32.ofInt 63) F.1 F.2.1 d_Mo_readCommand_88 (by decide) ?_
      refine fx_c w hno hlk (fx_rV (As := [.int (Int32.ofInt 63)]) (rest := []) F w cl_Mo 331 T_331 (met_Mo_want l hst9 D ad cA n0 M96 63 _ thr hw) e_Mo_want ki_Mo_want ks_Mo_want k_988 rfl hl.1 rfl (Nat.le_of_ble_eq_true rfl) ⟨⟨Nat.le_of_ble_eq_true rfl, Nat.le_of_ble_eq_true rfl⟩, Nat.le_of_ble_eq_true rfl, Nat.le_of_ble_eq_true rfl⟩ d_Mo_readCommand_90) (fun r101 M100 hw H locs w => ?_)
      show W p l e _ s m _ below meth c H locs 0 0 _ (F0 m 93 ls [.int (Int32.ofInt r101)])
      obtain ⟨h102, hw⟩ := hw
      refine fi_if_eq F d_Mo_readCommand_93 (tgt := 104) (by decide) h102 (fun hc103 => ?_) (fun hc103 => ?_)
      · have hw := hw.1 hc103
        refine lv_iconst (v := Int32.ofInt 0) F.1 F.2.1 d_Mo_readCommand_104 (by decide) ?_
        exact fx_zret F w hr hlk (fx_nz (by decide)) hw d_Mo_readCommand_105
      · have hw := hw.2 hc103
        refine lv_aload_n F.1 F.2.1 d_Mo_readCommand_96 rfl (lv_at hl 0 rfl) ?_
        refine lv_iload_n F.1 F.2.1 d_Mo_readCommand_97 rfl (lv_at hl 1 rfl) ?_
        refine fx_c w hno hlk (fx_rV (As := [.int (Int32.ofInt v1)]) (rest := []) F w cl_Mo 331 T_331 (met_Mo_readBranch l hst9 D ad cA n0 M100 v1 _ thr hw) e_Mo_readBranch ki_Mo_readBranch ks_Mo_readBranch k_1016 rfl hl.1 rfl (Nat.le_of_ble_eq_true rfl) ⟨⟨Nat.le_of_ble_eq_true rfl, Nat.le_of_ble_eq_true rfl⟩, Nat.le_of_ble_eq_true rfl, Nat.le_of_ble_eq_true rfl⟩ d_Mo_readCommand_98) (fun r105 M104 hw H locs w => ?_)
        show W p l e _ s m _ below meth c H locs 0 0 _ (F0 m 101 ls [.int (Int32.ofInt r105)])
        obtain ⟨h106, hw⟩ := hw
        refine fi_if_ne F d_Mo_readCommand_101 (tgt := 106) (by decide) h106 (fun hc107 => ?_) (fun hc107 => ?_)
        · have hw := hw.1 hc107
          exact blk_106 M104 v1 v2 hw H locs ls w (lv_sub hl [0, 1, 2] rfl)
        · have hw := hw.2 hc107
          refine lv_iconst (v := Int32.ofInt 0) F.1 F.2.1 d_Mo_readCommand_104 (by decide) ?_
          exact fx_zret F w hr hlk (fx_nz (by decide)) hw d_Mo_readCommand_105
  have hl : lv_has ls 3 [(0, .ref (ad 331))] := hl
  suffices h9 : fx_G p l e { frames := 7, cells := 1, slots := 6, locals := 159 } s m ([.ref (ad 331)] : List Value).toArray below meth c D ad cA n0 0 post thr 3 M [(0, .ref (ad 331))] 0 [] from h9 _ _ _ w hl
  intro H locs ls w hl
  refine lv_aload_n F.1 F.2.1 d_Mo_readCommand_0 rfl (lv_at hl 0 rfl) ?_
  refine fm_gO F w cl_Mo 331 10 335 T_331 (by decide) rfl rfl k_824 d_Mo_readCommand_1 ?_
  refine lv_aload_n F.1 F.2.1 d_Mo_readCommand_4 rfl (lv_at hl 0 rfl) ?_
  refine fm_gI F w cl_Mo 331 7 T_331 (by decide) rfl k_821 d_Mo_readCommand_5 ?_
  obtain ⟨h108, hw⟩ := hw
  refine fm_aI F w 335 T_335 (by decide) h108 d_Mo_readCommand_8 ?_
  refine lv_istore_n F.1 F.2.1 d_Mo_readCommand_9 rfl hl (by decide) rfl (fun ls hl => ?_)
  have hl : lv_has ls 3 [(1, .int (Int32.ofInt (M 335 (M 331 7).toNat))), (0, .ref (ad 331))] := hl
  refine lv_iload_n F.1 F.2.1 d_Mo_readCommand_10 rfl (lv_at hl 0 rfl) ?_
  refine lv_bipush (v := Int32.ofInt 10) F.1 F.2.1 d_Mo_readCommand_11 (by decide) ?_
  obtain ⟨h109, hw⟩ := hw
  refine fi_icmp_ne F d_Mo_readCommand_13 (tgt := 25) (by decide) h109 (rgl (by decide)) (fun hc110 => ?_) (fun hc110 => ?_)
  · have hw := hw.1 hc110
    refine lv_bipush (v := Int32.ofInt 10) F.1 F.2.1 d_Mo_readCommand_25 (by decide) ?_
    refine lv_aload_n F.1 F.2.1 d_Mo_readCommand_27 rfl (lv_at hl 1 rfl) ?_
    refine fm_gI F w cl_Mo 331 7 T_331 (by decide) rfl k_821 d_Mo_readCommand_28 ?_
    refine fi_imul F d_Mo_readCommand_31 ?_
    refine lv_iload_n F.1 F.2.1 d_Mo_readCommand_32 rfl (lv_at hl 0 rfl) ?_
    refine fi_iadd F d_Mo_readCommand_33 ?_
    refine lv_istore_n F.1 F.2.1 d_Mo_readCommand_34 rfl hl (by decide) rfl (fun ls hl => ?_)
    have hl : lv_has ls 3 [(2, .int (Int32.ofInt ((10 * (M 331 7)) + (M 335 (M 331 7).toNat)))), (1, .int (Int32.ofInt (M 335 (M 331 7).toNat))), (0, .ref (ad 331))] := hl
    refine lv_aload_n F.1 F.2.1 d_Mo_readCommand_35 rfl (lv_at hl 2 rfl) ?_
    refine fm_gO F w cl_Mo 331 11 336 T_331 (by decide) rfl rfl k_825 d_Mo_readCommand_36 ?_
    refine lv_iload_n F.1 F.2.1 d_Mo_readCommand_39 rfl (lv_at hl 0 rfl) ?_
    refine lv_aload_n F.1 F.2.1 d_Mo_readCommand_40 rfl (lv_at hl 2 rfl) ?_
    refine fx_c w hno hlk (fx_rV (As := []) (rest := [.int (Int32.ofInt ((10 * (M 331 7)) + (M 335 (M 331 7).toNat))), .ref (ad 336)]) F w cl_Mo 331 T_331 (met_Mo_here l hst9 D ad cA n0 M _ thr hw) e_Mo_here ki_Mo_here ks_Mo_here k_968 rfl hl.1 rfl (Nat.le_of_ble_eq_true rfl) ⟨⟨Nat.le_of_ble_eq_true rfl, Nat.le_of_ble_eq_true rfl⟩, Nat.le_of_ble_eq_true rfl, Nat.le_of_ble_eq_true rfl⟩ d_Mo_readCommand_41) (fun r112 M111 hw H locs w => ?_)
    show W p l e _ s m _ below meth c H locs 0 0 _ (F0 m 44 ls [.int (Int32.ofInt r112), .int (Int32.ofInt ((10 * (M 331 7)) + (M 335 (M 331 7).toNat))), .ref (ad 336)])
    refine lv_bipush (v := Int32.ofInt 43) F.1 F.2.1 d_Mo_readCommand_44 (by decide) ?_
    obtain ⟨h113, hw⟩ := hw
    refine fi_icmp_ne F d_Mo_readCommand_46 (tgt := 53) (by decide) h113 (rgl (by decide)) (fun hc114 => ?_) (fun hc114 => ?_)
    · have hw := hw.1 hc114
      refine lv_iconst (v := Int32.ofInt 0) F.1 F.2.1 d_Mo_readCommand_53 (by decide) ?_
      exact blk_54 M111 (M 335 (M 331 7).toNat) ((10 * (M 331 7)) + (M 335 (M 331 7).toNat)) 0 ((10 * (M 331 7)) + (M 335 (M 331 7).toNat)) hw H locs ls w (lv_sub hl [2, 1, 0] rfl)
    · have hw := hw.2 hc114
      refine lv_iconst (v := Int32.ofInt 1) F.1 F.2.1 d_Mo_readCommand_49 (by decide) ?_
      refine lv_goto F.1 F.2.1 d_Mo_readCommand_50 (tgt := 54) (by decide) ?_
      exact blk_54 M111 (M 335 (M 331 7).toNat) ((10 * (M 331 7)) + (M 335 (M 331 7).toNat)) 1 ((10 * (M 331 7)) + (M 335 (M 331 7).toNat)) hw H locs ls w (lv_sub hl [2, 1, 0] rfl)
  · have hw := hw.2 hc110
    refine lv_aload_n F.1 F.2.1 d_Mo_readCommand_16 rfl (lv_at hl 1 rfl) ?_
    refine lv_aload_n F.1 F.2.1 d_Mo_readCommand_17 rfl (lv_at hl 1 rfl) ?_
    refine fm_gI F w cl_Mo 331 3 T_331 (by decide) rfl k_817 d_Mo_readCommand_18 ?_
    refine fx_c w hno hlk (fx_rV (As := [.int (Int32.ofInt (M 331 3))]) (rest := []) F w cl_Mo 331 T_331 (met_Mo_fail l hst9 D ad cA n0 M (M 331 3) _ thr hw) e_Mo_fail ki_Mo_fail ks_Mo_fail k_976 rfl hl.1 rfl (Nat.le_of_ble_eq_true rfl) ⟨⟨Nat.le_of_ble_eq_true rfl, Nat.le_of_ble_eq_true rfl⟩, Nat.le_of_ble_eq_true rfl, Nat.le_of_ble_eq_true rfl⟩ d_Mo_readCommand_21) (fun r116 M115 hw H locs w => ?_)
    show W p l e _ s m _ below meth c H locs 0 0 _ (F0 m 24 ls [.int (Int32.ofInt r116)])
    obtain ⟨h117, hw⟩ := hw
    exact fx_zret F w hr hlk (fx_nz h117) hw d_Mo_readCommand_24
