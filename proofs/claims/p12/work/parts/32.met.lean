set_option maxHeartbeats 4000000 in
set_option maxRecDepth 100000 in
theorem met_Rd_readBranch (l : Launch) (hst9 : l.stackTraces = false) (D : va_G) (ad : Nat → Nat) (cA : Nat → ClassId) (n0 : Nat) (M : fm_M) (k1 : Nat) (a2 : Int) (post : Int → fm_M → Prop) (thr : String → fm_M → Prop) (hw : wp_Rd_readBranch M k1 a2 post thr) : fx_Met l y_Rd_readBranch (Cond.code y_Rd_readBranch b_Rd_readBranch 8 none :: tb) { frames := 9, cells := 1, slots := 6, locals := 155 } [.ref (ad 1), .ref (ad k1), .int (Int32.ofInt a2)] D ad cA n0 M 3 post thr := by
  refine fx_met (by decide) (Nat.le_of_ble_eq_true rfl) (fun p e s m below meth c ls F w hno hr hlk hl => ?_)
  have blk_65 : ∀ (J_27 : (fm_M → Int → Int → Int → Prop)) (M : fm_M) (v3 : Int) (v5 : Int) (v7 : Int), B_Rd_readBranch_65 k1 a2 post thr J_27 M v3 v5 v7 → (∀ (M : fm_M) (v3 : Int) (v4 : Int) (v5 : Int), J_27 M v3 v4 v5 → fx_G p l e { frames := 9, cells := 1, slots := 6, locals := 155 } s m ([.ref (ad 1), .ref (ad k1), .int (Int32.ofInt a2)] : List Value).toArray below meth c D ad cA n0 3 post thr 8 M [(0, .ref (ad 1)), (1, .ref (ad k1)), (3, .int (Int32.ofInt v3)), (4, .int (Int32.ofInt v4)), (5, .int (Int32.ofInt v5))] 27 []) → fx_G p l e { frames := 9, cells := 1, slots := 6, locals := 155 } s m ([.ref (ad 1), .ref (ad k1), .int (Int32.ofInt a2)] : List Value).toArray below meth c D ad cA n0 3 post thr 8 M [(0, .ref (ad 1)), (1, .ref (ad k1)), (3, .int (Int32.ofInt v3)), (5, .int (Int32.ofInt v5)), (7, .int (Int32.ofInt v7))] 65 [] := by
    intro J_27 M v3 v5 v7 hw hJ_27 H locs ls w hl
    refine lv_iload_n F.1 F.2.1 d_Rd_readBranch_65 rfl (lv_at hl 2 rfl) ?_
    refine lv_iconst (v := Int32.ofInt 1) F.1 F.2.1 d_Rd_readBranch_66 (by decide) ?_
    refine lv_iload F.1 F.2.1 d_Rd_readBranch_67 (lv_at hl 4 rfl) ?_
    refine fi_ishl F d_Rd_readBranch_69 ?_
    refine fi_ior F d_Rd_readBranch_70 ?_
    refine lv_istore_n F.1 F.2.1 d_Rd_readBranch_71 rfl hl (by decide) rfl (fun ls hl => ?_)
    have hl : lv_has ls 8 [(3, .int (Int32.ofInt (jor v3 (jshl 1 v7)))), (0, .ref (ad 1)), (1, .ref (ad k1)), (5, .int (Int32.ofInt v5)), (7, .int (Int32.ofInt v7))] := hl
    refine lv_aload_n F.1 F.2.1 d_Rd_readBranch_72 rfl (lv_at hl 1 rfl) ?_
    refine lv_bipush (v := Int32.ofInt 61) F.1 F.2.1 d_Rd_readBranch_73 (by decide) ?_
    refine fx_c w hno hlk (fx_rV (As := [.int (Int32.ofInt 61)]) (rest := []) F w cl_Rd 1 T_1 (met_Rd_expect l hst9 D ad cA n0 M 61 _ thr hw) e_Rd_expect ki_Rd_expect ks_Rd_expect k_533 rfl hl.1 rfl (Nat.le_of_ble_eq_true rfl) ⟨⟨Nat.le_of_ble_eq_true rfl, Nat.le_of_ble_eq_true rfl⟩, Nat.le_of_ble_eq_true rfl, Nat.le_of_ble_eq_true rfl⟩ d_Rd_readBranch_75) (fun r50 M49 hw H locs w => ?_)
    refine lv_aload_n F.1 F.2.1 d_Rd_readBranch_78 rfl (lv_at hl 2 rfl) ?_
    refine lv_iload F.1 F.2.1 d_Rd_readBranch_79 (lv_at hl 4 rfl) ?_
    obtain ⟨h51, hw⟩ := hw
    refine fx_c w hno hlk (fx_rV (As := [.int (Int32.ofInt v7)]) (rest := []) F w cl_Br k1 h51 (met_Br_clearSum l hst9 D ad cA n0 M49 k1 v7 _ thr hw) e_Br_clearSum ki_Br_clearSum ks_Br_clearSum k_580 rfl hl.1 rfl (Nat.le_of_ble_eq_true rfl) ⟨⟨Nat.le_of_ble_eq_true rfl, Nat.le_of_ble_eq_true rfl⟩, Nat.le_of_ble_eq_true rfl, Nat.le_of_ble_eq_true rfl⟩ d_Rd_readBranch_81) (fun r53 M52 hw H locs w => ?_)
    refine lv_aload_n F.1 F.2.1 d_Rd_readBranch_84 rfl (lv_at hl 1 rfl) ?_
    refine lv_aload_n F.1 F.2.1 d_Rd_readBranch_85 rfl (lv_at hl 2 rfl) ?_
    refine fm_gO F w cl_Br k1 0 (k1 + 1) h51 (by decide) rfl rfl k_96 d_Rd_readBranch_86 ?_
    refine lv_iload F.1 F.2.1 d_Rd_readBranch_89 (lv_at hl 4 rfl) ?_
    refine lv_iconst (v := Int32.ofInt 4) F.1 F.2.1 d_Rd_readBranch_91 (by decide) ?_
    refine fi_imul F d_Rd_readBranch_92 ?_
    refine lv_iconst (v := Int32.ofInt 1) F.1 F.2.1 d_Rd_readBranch_93 (by decide) ?_
    refine fx_c w hno hlk (fx_rV (As := [.ref (ad (k1 + 1)), .int (Int32.ofInt (v7 * 4)), .int (Int32.ofInt 1)]) (rest := []) F w cl_Rd 1 T_1 (met_Rd_readSum l hst9 D ad cA n0 M52 (k1 + 1) (v7 * 4) 1 _ thr hw) e_Rd_readSum ki_Rd_readSum ks_Rd_readSum k_556 rfl hl.1 rfl (Nat.le_of_ble_eq_true rfl) ⟨⟨Nat.le_of_ble_eq_true rfl, Nat.le_of_ble_eq_true rfl⟩, Nat.le_of_ble_eq_true rfl, Nat.le_of_ble_eq_true rfl⟩ d_Rd_readBranch_94) (fun r55 M54 hw H locs w => ?_)
    refine lv_aload_n F.1 F.2.1 d_Rd_readBranch_97 rfl (lv_at hl 1 rfl) ?_
    refine lv_bipush (v := Int32.ofInt 44) F.1 F.2.1 d_Rd_readBranch_98 (by decide) ?_
    refine fx_c w hno hlk (fx_rV (As := [.int (Int32.ofInt 44)]) (rest := []) F w cl_Rd 1 T_1 (met_Rd_skips l hst9 D ad cA n0 M54 44 _ thr hw) e_Rd_skips ki_Rd_skips ks_Rd_skips k_537 rfl hl.1 rfl (Nat.le_of_ble_eq_true rfl) ⟨⟨Nat.le_of_ble_eq_true rfl, Nat.le_of_ble_eq_true rfl⟩, Nat.le_of_ble_eq_true rfl, Nat.le_of_ble_eq_true rfl⟩ d_Rd_readBranch_100) (fun r57 M56 hw H locs w => ?_)
    show W p l e _ s m _ below meth c H locs 0 0 _ (F0 m 103 ls [.int (Int32.ofInt r57)])
    refine lv_istore F.1 F.2.1 d_Rd_readBranch_103 hl (by decide) rfl (fun ls hl => ?_)
    have hl : lv_has ls 8 [(4, .int (Int32.ofInt r57)), (3, .int (Int32.ofInt (jor v3 (jshl 1 v7)))), (0, .ref (ad 1)), (1, .ref (ad k1)), (5, .int (Int32.ofInt v5)), (7, .int (Int32.ofInt v7))] := hl
    refine fi_iinc (k := 4) (v := (v5 + 1)) F d_Rd_readBranch_105 hl rfl rfl (by decide) rfl (fun ls hl => ?_)
    have hl : lv_has ls 8 [(5, .int (Int32.ofInt (v5 + 1))), (4, .int (Int32.ofInt r57)), (3, .int (Int32.ofInt (jor v3 (jshl 1 v7)))), (0, .ref (ad 1)), (1, .ref (ad k1)), (7, .int (Int32.ofInt v7))] := hl
    refine lv_goto F.1 F.2.1 d_Rd_readBranch_108 (tgt := 27) (by decide) ?_
    exact hJ_27 M56 (jor v3 (jshl 1 v7)) r57 (v5 + 1) hw H locs ls w (lv_sub hl [3, 4, 2, 1, 0] rfl)
  have blc_27 : ∀ (J_27 : (fm_M → Int → Int → Int → Prop)) (M : fm_M) (v3 : Int) (v4 : Int) (v5 : Int), C_Rd_readBranch_27 k1 a2 post thr J_27 M v3 v4 v5 → (∀ (M : fm_M) (v3 : Int) (v4 : Int) (v5 : Int), J_27 M v3 v4 v5 → fx_G p l e { frames := 9, cells := 1, slots := 6, locals := 155 } s m ([.ref (ad 1), .ref (ad k1), .int (Int32.ofInt a2)] : List Value).toArray below meth c D ad cA n0 3 post thr 8 M [(0, .ref (ad 1)), (1, .ref (ad k1)), (3, .int (Int32.ofInt v3)), (4, .int (Int32.ofInt v4)), (5, .int (Int32.ofInt v5))] 27 []) → fx_G p l e { frames := 9, cells := 1, slots := 6, locals := 155 } s m ([.ref (ad 1), .ref (ad k1), .int (Int32.ofInt a2)] : List Value).toArray below meth c D ad cA n0 3 post thr 8 M [(0, .ref (ad 1)), (1, .ref (ad k1)), (3, .int (Int32.ofInt v3)), (4, .int (Int32.ofInt v4)), (5, .int (Int32.ofInt v5))] 27 [] := by
    intro J_27 M v3 v4 v5 hw hJ_27 H locs ls w hl
    refine lv_iload F.1 F.2.1 d_Rd_readBranch_27 (lv_at hl 4 rfl) ?_
    refine lv_iconst (v := Int32.ofInt 3) F.1 F.2.1 d_Rd_readBranch_29 (by decide) ?_
    obtain ⟨h58, hw⟩ := hw
    refine fi_icmp_gt F d_Rd_readBranch_30 (tgt := 111) (by decide) h58 (rgl (by decide)) (fun hc59 => ?_) (fun hc59 => ?_)
    · have hw := hw.1 hc59
      exact fx_vret F w hr hlk hw d_Rd_readBranch_111
    · have hw := hw.2 hc59
      refine lv_iload F.1 F.2.1 d_Rd_readBranch_33 (lv_at hl 3 rfl) ?_
      obtain ⟨h60, hw⟩ := hw
      refine fi_if_eq F d_Rd_readBranch_35 (tgt := 111) (by decide) h60 (fun hc61 => ?_) (fun hc61 => ?_)
      · have hw := hw.1 hc61
        exact fx_vret F w hr hlk hw d_Rd_readBranch_111
      · have hw := hw.2 hc61
        refine lv_aload_n F.1 F.2.1 d_Rd_readBranch_38 rfl (lv_at hl 0 rfl) ?_
        refine fm_gI F w cl_Rd 1 2 T_1 (by decide) rfl k_170 d_Rd_readBranch_39 ?_
        refine lv_istore F.1 F.2.1 d_Rd_readBranch_42 hl (by decide) rfl (fun ls hl => ?_)
        have hl : lv_has ls 8 [(6, .int (Int32.ofInt (M 1 2))), (0, .ref (ad 1)), (1, .ref (ad k1)), (3, .int (Int32.ofInt v3)), (4, .int (Int32.ofInt v4)), (5, .int (Int32.ofInt v5))] := hl
        refine lv_aload_n F.1 F.2.1 d_Rd_readBranch_44 rfl (lv_at hl 1 rfl) ?_
        refine fx_c w hno hlk (fx_rV (As := []) (rest := []) F w cl_Rd 1 T_1 (met_Rd_readName l hst9 D ad cA n0 M _ thr hw) e_Rd_readName ki_Rd_readName ks_Rd_readName k_560 rfl hl.1 rfl (Nat.le_of_ble_eq_true rfl) ⟨⟨Nat.le_of_ble_eq_true rfl, Nat.le_of_ble_eq_true rfl⟩, Nat.le_of_ble_eq_true rfl, Nat.le_of_ble_eq_true rfl⟩ d_Rd_readBranch_45) (fun r63 M62 hw H locs w => ?_)
        show W p l e _ s m _ below meth c H locs 0 0 _ (F0 m 48 ls [.int (Int32.ofInt r63)])
        refine lv_istore F.1 F.2.1 d_Rd_readBranch_48 hl (by decide) rfl (fun ls hl => ?_)
        have hl : lv_has ls 8 [(7, .int (Int32.ofInt r63)), (6, .int (Int32.ofInt (M 1 2))), (0, .ref (ad 1)), (1, .ref (ad k1)), (3, .int (Int32.ofInt v3)), (4, .int (Int32.ofInt v4)), (5, .int (Int32.ofInt v5))] := hl
        refine lv_iload_n F.1 F.2.1 d_Rd_readBranch_50 rfl (lv_at hl 4 rfl) ?_
        refine lv_iload F.1 F.2.1 d_Rd_readBranch_51 (lv_at hl 0 rfl) ?_
        refine fx_c w hno hlk (fx_rSN (As := [.int (Int32.ofInt v3), .int (Int32.ofInt r63)]) (rest := []) F w (met_CG_hasBit l hst9 D ad cA n0 M62 v3 r63 _ thr hw) e_CG_hasBit kt_CG_hasBit k_579 rfl hl.1 rfl (Nat.le_of_ble_eq_true rfl) ⟨⟨Nat.le_of_ble_eq_true rfl, Nat.le_of_ble_eq_true rfl⟩, Nat.le_of_ble_eq_true rfl, Nat.le_of_ble_eq_true rfl⟩ d_Rd_readBranch_53) (fun r65 M64 hw H locs w => ?_)
        show W p l e _ s m _ below meth c H locs 0 0 _ (F0 m 56 ls [.int (Int32.ofInt r65)])
        obtain ⟨h66, hw⟩ := hw
        refine fi_if_eq F d_Rd_readBranch_56 (tgt := 65) (by decide) h66 (fun hc67 => ?_) (fun hc67 => ?_)
        · have hw := hw.1 hc67
          exact blk_65 J_27 M64 v3 v5 r63 hw hJ_27 H locs ls w (lv_sub hl [2, 3, 4, 6, 0] rfl)
        · have hw := hw.2 hc67
          refine lv_aload_n F.1 F.2.1 d_Rd_readBranch_59 rfl (lv_at hl 2 rfl) ?_
          refine lv_iload F.1 F.2.1 d_Rd_readBranch_60 (lv_at hl 1 rfl) ?_
          refine fx_c w hno hlk (fx_rV (As := [.int (Int32.ofInt (M 1 2))]) (rest := []) F w cl_Rd 1 T_1 (met_Rd_refuse l hst9 D ad cA n0 M64 (M 1 2) _ thr hw) e_Rd_refuse ki_Rd_refuse ks_Rd_refuse k_454 rfl hl.1 rfl (Nat.le_of_ble_eq_true rfl) ⟨⟨Nat.le_of_ble_eq_true rfl, Nat.le_of_ble_eq_true rfl⟩, Nat.le_of_ble_eq_true rfl, Nat.le_of_ble_eq_true rfl⟩ d_Rd_readBranch_62) (fun r69 M68 hw H locs w => ?_)
          exact blk_65 J_27 M68 v3 v5 r63 hw hJ_27 H locs ls w (lv_sub hl [2, 3, 4, 6, 0] rfl)
  have blk_27 : ∀ (M : fm_M) (v3 : Int) (v4 : Int) (v5 : Int), B_Rd_readBranch_27 k1 a2 post thr M v3 v4 v5 → fx_G p l e { frames := 9, cells := 1, slots := 6, locals := 155 } s m ([.ref (ad 1), .ref (ad k1), .int (Int32.ofInt a2)] : List Value).toArray below meth c D ad cA n0 3 post thr 8 M [(0, .ref (ad 1)), (1, .ref (ad k1)), (3, .int (Int32.ofInt v3)), (4, .int (Int32.ofInt v4)), (5, .int (Int32.ofInt v5))] 27 [] := by
    intro M v3 v4 v5 hw
    obtain ⟨I, μ, hI, hB⟩ := hw
    have key : ∀ (q : Nat) (M : fm_M) (v3 : Int) (v4 : Int) (v5 : Int), μ M v3 v4 v5 < q → I M v3 v4 v5 → fx_G p l e { frames := 9, cells := 1, slots := 6, locals := 155 } s m ([.ref (ad 1), .ref (ad k1), .int (Int32.ofInt a2)] : List Value).toArray below meth c D ad cA n0 3 post thr 8 M [(0, .ref (ad 1)), (1, .ref (ad k1)), (3, .int (Int32.ofInt v3)), (4, .int (Int32.ofInt v4)), (5, .int (Int32.ofInt v5))] 27 [] := by
      intro q
      induction q with
      | zero => intro M v3 v4 v5 h _; exact absurd h (Nat.not_lt_zero _)
      | succ q ih =>
        intro M v3 v4 v5 hμ hI
        exact blc_27 (fun M' v3' v4' v5' => I M' v3' v4' v5' ∧ μ M' v3' v4' v5' < μ M v3 v4 v5) M v3 v4 v5 (hB M v3 v4 v5 hI) (fun M' v3' v4' v5' hh => ih M' v3' v4' v5' (Nat.lt_of_lt_of_le hh.2 (Nat.le_of_lt_succ hμ)) hh.1)
    exact key _ M v3 v4 v5 (Nat.lt_succ_self _) hI
  have hl : lv_has ls 8 [(0, .ref (ad 1)), (1, .ref (ad k1)), (2, .int (Int32.ofInt a2))] := hl
  suffices h9 : fx_G p l e { frames := 9, cells := 1, slots := 6, locals := 155 } s m ([.ref (ad 1), .ref (ad k1), .int (Int32.ofInt a2)] : List Value).toArray below meth c D ad cA n0 3 post thr 8 M [(0, .ref (ad 1)), (1, .ref (ad k1)), (2, .int (Int32.ofInt a2))] 0 [] from h9 _ _ _ w hl
  intro H locs ls w hl
  refine lv_aload_n F.1 F.2.1 d_Rd_readBranch_0 rfl (lv_at hl 1 rfl) ?_
  obtain ⟨h70, hw⟩ := hw
  refine fx_c w hno hlk (fx_rV (As := []) (rest := []) F w cl_Br k1 h70 (met_Br_clear l hst9 D ad cA n0 M k1 _ thr hw) e_Br_clear ki_Br_clear ks_Br_clear k_571 rfl hl.1 rfl (Nat.le_of_ble_eq_true rfl) ⟨⟨Nat.le_of_ble_eq_true rfl, Nat.le_of_ble_eq_true rfl⟩, Nat.le_of_ble_eq_true rfl, Nat.le_of_ble_eq_true rfl⟩ d_Rd_readBranch_1) (fun r72 M71 hw H locs w => ?_)
  refine lv_aload_n F.1 F.2.1 d_Rd_readBranch_4 rfl (lv_at hl 1 rfl) ?_
  refine lv_aload_n F.1 F.2.1 d_Rd_readBranch_5 rfl (lv_at hl 0 rfl) ?_
  refine lv_iconst (v := Int32.ofInt 1) F.1 F.2.1 d_Rd_readBranch_6 (by decide) ?_
  refine lv_iload_n F.1 F.2.1 d_Rd_readBranch_7 rfl (lv_at hl 2 rfl) ?_
  refine fx_c w hno hlk (fx_rV (As := [.int (Int32.ofInt 1), .int (Int32.ofInt a2)]) (rest := [.ref (ad k1)]) F w cl_Rd 1 T_1 (met_Rd_readNumber l hst9 D ad cA n0 M71 1 a2 _ thr hw) e_Rd_readNumber ki_Rd_readNumber ks_Rd_readNumber k_526 rfl hl.1 rfl (Nat.le_of_ble_eq_true rfl) ⟨⟨Nat.le_of_ble_eq_true rfl, Nat.le_of_ble_eq_true rfl⟩, Nat.le_of_ble_eq_true rfl, Nat.le_of_ble_eq_true rfl⟩ d_Rd_readBranch_8) (fun r74 M73 hw H locs w => ?_)
  show W p l e _ s m _ below meth c H locs 0 0 _ (F0 m 11 ls [.int (Int32.ofInt r74), .ref (ad k1)])
  refine fm_pI F w cl_Br k1 1 h70 (by decide) rfl k_98 rfl rfl d_Rd_readBranch_11 (fun M75 hM75 H locs w => ?_)
  have hw := hw M75 hM75
  refine lv_iconst (v := Int32.ofInt 0) F.1 F.2.1 d_Rd_readBranch_14 (by decide) ?_
  refine lv_istore_n F.1 F.2.1 d_Rd_readBranch_15 rfl hl (by decide) rfl (fun ls hl => ?_)
  have hl : lv_has ls 8 [(3, .int (Int32.ofInt 0)), (0, .ref (ad 1)), (1, .ref (ad k1)), (2, .int (Int32.ofInt a2))] := hl
  refine lv_aload_n F.1 F.2.1 d_Rd_readBranch_16 rfl (lv_at hl 1 rfl) ?_
  refine lv_bipush (v := Int32.ofInt 58) F.1 F.2.1 d_Rd_readBranch_17 (by decide) ?_
  refine fx_c w hno hlk (fx_rV (As := [.int (Int32.ofInt 58)]) (rest := []) F w cl_Rd 1 T_1 (met_Rd_skips l hst9 D ad cA n0 M75 58 _ thr hw) e_Rd_skips ki_Rd_skips ks_Rd_skips k_537 rfl hl.1 rfl (Nat.le_of_ble_eq_true rfl) ⟨⟨Nat.le_of_ble_eq_true rfl, Nat.le_of_ble_eq_true rfl⟩, Nat.le_of_ble_eq_true rfl, Nat.le_of_ble_eq_true rfl⟩ d_Rd_readBranch_19) (fun r77 M76 hw H locs w => ?_)
  show W p l e _ s m _ below meth c H locs 0 0 _ (F0 m 22 ls [.int (Int32.ofInt r77)])
  refine lv_istore F.1 F.2.1 d_Rd_readBranch_22 hl (by decide) rfl (fun ls hl => ?_)
  have hl : lv_has ls 8 [(4, .int (Int32.ofInt r77)), (3, .int (Int32.ofInt 0)), (0, .ref (ad 1)), (1, .ref (ad k1)), (2, .int (Int32.ofInt a2))] := hl
  refine lv_iconst (v := Int32.ofInt 0) F.1 F.2.1 d_Rd_readBranch_24 (by decide) ?_
  refine lv_istore F.1 F.2.1 d_Rd_readBranch_25 hl (by decide) rfl (fun ls hl => ?_)
  have hl : lv_has ls 8 [(5, .int (Int32.ofInt 0)), (4, .int (Int32.ofInt r77)), (3, .int (Int32.ofInt 0)), (0, .ref (ad 1)), (1, .ref (ad k1)), (2, .int (Int32.ofInt a2))] := hl
  exact blk_27 M76 0 r77 0 hw H locs ls w (lv_sub hl [3, 4, 2, 1, 0] rfl)
set_option maxHeartbeats 4000000 in
set_option maxRecDepth 100000 in
theorem met_Rd_readCommand (l : Launch) (hst9 : l.stackTraces = false) (D : va_G) (ad : Nat → Nat) (cA : Nat → ClassId) (n0 : Nat) (M : fm_M) (k1 : Nat) (post : Int → fm_M → Prop) (thr : String → fm_M → Prop) (hw : wp_Rd_readCommand M k1 post thr) : fx_Met l y_Rd_readCommand (Cond.code y_Rd_readCommand b_Rd_readCommand 5 none :: tb) { frames := 10, cells := 1, slots := 6, locals := 182 } [.ref (ad 1), .ref (ad k1)] D ad cA n0 M 3 post thr := by
  refine fx_met (by decide) (Nat.le_of_ble_eq_true rfl) (fun p e s m below meth c ls F w hno hr hlk hl => ?_)
  have blk_139 : ∀ (M : fm_M), B_Rd_readCommand_139 k1 post thr M → fx_G p l e { frames := 10, cells := 1, slots := 6, locals := 182 } s m ([.ref (ad 1), .ref (ad k1)] : List Value).toArray below meth c D ad cA n0 3 post thr 5 M [(0, .ref (ad 1))] 139 [] := by
    intro M hw H locs ls w hl
    refine lv_aload_n F.1 F.2.1 d_Rd_readCommand_139 rfl (lv_at hl 0 rfl) ?_
    refine lv_bipush (v := Int32.ofInt 59) F.1 F.2.1 d_Rd_readCommand_140 (by decide) ?_
    refine fx_c w hno hlk (fx_rV (As := [.int (Int32.ofInt 59)]) (rest := []) F w cl_Rd 1 T_1 (met_Rd_expect l hst9 D ad cA n0 M 59 _ thr hw) e_Rd_expect ki_Rd_expect ks_Rd_expect k_533 rfl hl.1 rfl (Nat.le_of_ble_eq_true rfl) ⟨⟨Nat.le_of_ble_eq_true rfl, Nat.le_of_ble_eq_true rfl⟩, Nat.le_of_ble_eq_true rfl, Nat.le_of_ble_eq_true rfl⟩ d_Rd_readCommand_142) (fun r59 M58 hw H locs w => ?_)
    exact fx_vret F w hr hlk hw d_Rd_readCommand_145
  have blk_132 : ∀ (J_56 : (fm_M → Int → Int → Prop)) (M : fm_M) (v3 : Int) (s0 : Int), B_Rd_readCommand_132 k1 post thr J_56 M v3 s0 → (∀ (M : fm_M) (v2 : Int) (v3 : Int), J_56 M v2 v3 → fx_G p l e { frames := 10, cells := 1, slots := 6, locals := 182 } s m ([.ref (ad 1), .ref (ad k1)] : List Value).toArray below meth c D ad cA n0 3 post thr 5 M [(0, .ref (ad 1)), (1, .ref (ad k1)), (2, .int (Int32.ofInt v2)), (3, .int (Int32.ofInt v3))] 56 []) → fx_G p l e { frames := 10, cells := 1, slots := 6, locals := 182 } s m ([.ref (ad 1), .ref (ad k1)] : List Value).toArray below meth c D ad cA n0 3 post thr 5 M [(0, .ref (ad 1)), (1, .ref (ad k1)), (3, .int (Int32.ofInt v3))] 132 [.int (Int32.ofInt s0)] := by
    intro J_56 M v3 s0 hw hJ_56 H locs ls w hl
    refine lv_istore_n F.1 F.2.1 d_Rd_readCommand_132 rfl hl (by decide) rfl (fun ls hl => ?_)
    have hl : lv_has ls 5 [(2, .int (Int32.ofInt s0)), (0, .ref (ad 1)), (1, .ref (ad k1)), (3, .int (Int32.ofInt v3))] := hl
    refine fi_iinc (k := 3) (v := (v3 + 1)) F d_Rd_readCommand_133 hl rfl rfl (by decide) rfl (fun ls hl => ?_)
    have hl : lv_has ls 5 [(3, .int (Int32.ofInt (v3 + 1))), (2, .int (Int32.ofInt s0)), (0, .ref (ad 1)), (1, .ref (ad k1))] := hl
    refine lv_goto F.1 F.2.1 d_Rd_readCommand_136 (tgt := 56) (by decide) ?_
    exact hJ_56 M s0 (v3 + 1) hw H locs ls w (lv_sub hl [2, 3, 1, 0] rfl)
  have blc_56 : ∀ (J_56 : (fm_M → Int → Int → Prop)) (M : fm_M) (v2 : Int) (v3 : Int), C_Rd_readCommand_56 k1 post thr J_56 M v2 v3 → (∀ (M : fm_M) (v2 : Int) (v3 : Int), J_56 M v2 v3 → fx_G p l e { frames := 10, cells := 1, slots := 6, locals := 182 } s m ([.ref (ad 1), .ref (ad k1)] : List Value).toArray below meth c D ad cA n0 3 post thr 5 M [(0, .ref (ad 1)), (1, .ref (ad k1)), (2, .int (Int32.ofInt v2)), (3, .int (Int32.ofInt v3))] 56 []) → fx_G p l e { frames := 10, cells := 1, slots := 6, locals := 182 } s m ([.ref (ad 1), .ref (ad k1)] : List Value).toArray below meth c D ad cA n0 3 post thr 5 M [(0, .ref (ad 1)), (1, .ref (ad k1)), (2, .int (Int32.ofInt v2)), (3, .int (Int32.ofInt v3))] 56 [] := by
    intro J_56 M v2 v3 hw hJ_56 H locs ls w hl
    refine lv_iload_n F.1 F.2.1 d_Rd_readCommand_56 rfl (lv_at hl 3 rfl) ?_
    refine lv_iconst (v := Int32.ofInt 4) F.1 F.2.1 d_Rd_readCommand_57 (by decide) ?_
    obtain ⟨h60, hw⟩ := hw
    refine fi_icmp_ge F d_Rd_readCommand_58 (tgt := 139) (by decide) h60 (rgl (by decide)) (fun hc61 => ?_) (fun hc61 => ?_)
    · have hw := hw.1 hc61
      exact blk_139 M hw H locs ls w (lv_sub hl [0] rfl)
    · have hw := hw.2 hc61
      refine lv_iload_n F.1 F.2.1 d_Rd_readCommand_61 rfl (lv_at hl 2 rfl) ?_
      obtain ⟨h62, hw⟩ := hw
      refine fi_if_eq F d_Rd_readCommand_62 (tgt := 139) (by decide) h62 (fun hc63 => ?_) (fun hc63 => ?_)
      · have hw := hw.1 hc63
        exact blk_139 M hw H locs ls w (lv_sub hl [0] rfl)
      · have hw := hw.2 hc63
        refine lv_aload_n F.1 F.2.1 d_Rd_readCommand_65 rfl (lv_at hl 1 rfl) ?_
        obtain ⟨h64, hw⟩ := hw
        refine fm_gO F w cl_Cm k1 1 (k1 + 4) h64 (by decide) rfl rfl k_110 d_Rd_readCommand_66 ?_
        refine lv_iload_n F.1 F.2.1 d_Rd_readCommand_69 rfl (lv_at hl 3 rfl) ?_
        obtain ⟨h65, hw⟩ := hw
        obtain ⟨h66, hw⟩ := hw
        refine fm_aR F w (k1 + 4) 3 ((k1 + 4) + 1 + 2 * v3.toNat) h65 rfl (by decide) h66 rfl d_Rd_readCommand_70 ?_
        refine lv_astore F.1 F.2.1 d_Rd_readCommand_71 hl (by decide) rfl (fun ls hl => ?_)
        have hl : lv_has ls 5 [(4, .ref (ad ((k1 + 4) + 1 + 2 * v3.toNat))), (0, .ref (ad 1)), (1, .ref (ad k1)), (2, .int (Int32.ofInt v2)), (3, .int (Int32.ofInt v3))] := hl
        refine lv_aload_n F.1 F.2.1 d_Rd_readCommand_73 rfl (lv_at hl 1 rfl) ?_
        refine lv_aload F.1 F.2.1 d_Rd_readCommand_74 (lv_at hl 0 rfl) ?_
        refine lv_bipush (v := Int32.ofInt 6) F.1 F.2.1 d_Rd_readCommand_76 (by decide) ?_
        refine lv_aload_n F.1 F.2.1 d_Rd_readCommand_78 rfl (lv_at hl 2 rfl) ?_
        refine fm_gI F w cl_Cm k1 4 h64 (by decide) rfl k_124 d_Rd_readCommand_79 ?_
        refine fi_isub F d_Rd_readCommand_82 ?_
        refine fx_c w hno hlk (fx_rV (As := [.ref (ad ((k1 + 4) + 1 + 2 * v3.toNat)), .int (Int32.ofInt (6 - (M k1 4)))]) (rest := []) F w cl_Rd 1 T_1 (met_Rd_readBranch l hst9 D ad cA n0 M ((k1 + 4) + 1 + 2 * v3.toNat) (6 - (M k1 4)) _ thr hw) e_Rd_readBranch ki_Rd_readBranch ks_Rd_readBranch k_567 rfl hl.1 rfl (Nat.le_of_ble_eq_true rfl) ⟨⟨Nat.le_of_ble_eq_true rfl, Nat.le_of_ble_eq_true rfl⟩, Nat.le_of_ble_eq_true rfl, Nat.le_of_ble_eq_true rfl⟩ d_Rd_readCommand_83) (fun r68 M67 hw H locs w => ?_)
        refine lv_aload_n F.1 F.2.1 d_Rd_readCommand_86 rfl (lv_at hl 2 rfl) ?_
        refine lv_dup F.1 F.2.1 d_Rd_readCommand_87 rfl ?_
        refine fm_gI F w cl_Cm k1 4 h64 (by decide) rfl k_124 d_Rd_readCommand_88 ?_
        refine lv_aload F.1 F.2.1 d_Rd_readCommand_91 (lv_at hl 0 rfl) ?_
        obtain ⟨h69, hw⟩ := hw
        refine fm_gI F w cl_Br ((k1 + 4) + 1 + 2 * v3.toNat) 1 h69 (by decide) rfl k_98 d_Rd_readCommand_93 ?_
        refine fi_iadd F d_Rd_readCommand_96 ?_
        refine fm_pI F w cl_Cm k1 4 h64 (by decide) rfl k_124 rfl rfl d_Rd_readCommand_97 (fun M70 hM70 H locs w => ?_)
        have hw := hw M70 hM70
        refine lv_aload_n F.1 F.2.1 d_Rd_readCommand_100 rfl (lv_at hl 2 rfl) ?_
        refine lv_dup F.1 F.2.1 d_Rd_readCommand_101 rfl ?_
        refine fm_gI F w cl_Cm k1 3 h64 (by decide) rfl k_118 d_Rd_readCommand_102 ?_
        refine lv_iconst (v := Int32.ofInt 1) F.1 F.2.1 d_Rd_readCommand_105 (by decide) ?_
        refine fi_iadd F d_Rd_readCommand_106 ?_
        refine fm_pI F w cl_Cm k1 3 h64 (by decide) rfl k_118 rfl rfl d_Rd_readCommand_107 (fun M71 hM71 H locs w => ?_)
        have hw := hw M71 hM71
        refine lv_aload_n F.1 F.2.1 d_Rd_readCommand_110 rfl (lv_at hl 2 rfl) ?_
        refine fm_gI F w cl_Cm k1 3 h64 (by decide) rfl k_118 d_Rd_readCommand_111 ?_
        refine lv_iconst (v := Int32.ofInt 4) F.1 F.2.1 d_Rd_readCommand_114 (by decide) ?_
        obtain ⟨h72, hw⟩ := hw
        refine fi_icmp_ge F d_Rd_readCommand_115 (tgt := 131) (by decide) h72 (rgl (by decide)) (fun hc73 => ?_) (fun hc73 => ?_)
        · have hw := hw.1 hc73
          refine lv_iconst (v := Int32.ofInt 0) F.1 F.2.1 d_Rd_readCommand_131 (by decide) ?_
          exact blk_132 J_56 M71 v3 0 hw hJ_56 H locs ls w (lv_sub hl [1, 2, 4] rfl)
        · have hw := hw.2 hc73
          refine lv_aload_n F.1 F.2.1 d_Rd_readCommand_118 rfl (lv_at hl 1 rfl) ?_
          refine lv_bipush (v := Int32.ofInt 124) F.1 F.2.1 d_Rd_readCommand_119 (by decide) ?_
          refine fx_c w hno hlk (fx_rV (As := [.int (Int32.ofInt 124)]) (rest := []) F w cl_Rd 1 T_1 (met_Rd_skips l hst9 D ad cA n0 M71 124 _ thr hw) e_Rd_skips ki_Rd_skips ks_Rd_skips k_537 rfl hl.1 rfl (Nat.le_of_ble_eq_true rfl) ⟨⟨Nat.le_of_ble_eq_true rfl, Nat.le_of_ble_eq_true rfl⟩, Nat.le_of_ble_eq_true rfl, Nat.le_of_ble_eq_true rfl⟩ d_Rd_readCommand_121) (fun r75 M74 hw H locs w => ?_)
          show W p l e _ s m _ below meth c H locs 0 0 _ (F0 m 124 ls [.int (Int32.ofInt r75)])
          obtain ⟨h76, hw⟩ := hw
          refine fi_if_eq F d_Rd_readCommand_124 (tgt := 131) (by decide) h76 (fun hc77 => ?_) (fun hc77 => ?_)
          · have hw := hw.1 hc77
            refine lv_iconst (v := Int32.ofInt 0) F.1 F.2.1 d_Rd_readCommand_131 (by decide) ?_
            exact blk_132 J_56 M74 v3 0 hw hJ_56 H locs ls w (lv_sub hl [1, 2, 4] rfl)
          · have hw := hw.2 hc77
            refine lv_iconst (v := Int32.ofInt 1) F.1 F.2.1 d_Rd_readCommand_127 (by decide) ?_
            refine lv_goto F.1 F.2.1 d_Rd_readCommand_128 (tgt := 132) (by decide) ?_
            exact blk_132 J_56 M74 v3 1 hw hJ_56 H locs ls w (lv_sub hl [1, 2, 4] rfl)
  have blk_56 : ∀ (M : fm_M) (v2 : Int) (v3 : Int), B_Rd_readCommand_56 k1 post thr M v2 v3 → fx_G p l e { frames := 10, cells := 1, slots := 6, locals := 182 } s m ([.ref (ad 1), .ref (ad k1)] : List Value).toArray below meth c D ad cA n0 3 post thr 5 M [(0, .ref (ad 1)), (1, .ref (ad k1)), (2, .int (Int32.ofInt v2)), (3, .int (Int32.ofInt v3))] 56 [] := by
    intro M v2 v3 hw
    obtain ⟨I, μ, hI, hB⟩ := hw
    have key : ∀ (q : Nat) (M : fm_M) (v2 : Int) (v3 : Int), μ M v2 v3 < q → I M v2 v3 → fx_G p l e { frames := 10, cells := 1, slots := 6, locals := 182 } s m ([.ref (ad 1), .ref (ad k1)] : List Value).toArray below meth c D ad cA n0 3 post thr 5 M [(0, .ref (ad 1)), (1, .ref (ad k1)), (2, .int (Int32.ofInt v2)), (3, .int (Int32.ofInt v3))] 56 [] := by
      intro q
      induction q with
      | zero => intro M v2 v3 h _; exact absurd h (Nat.not_lt_zero _)
      | succ q ih =>
        intro M v2 v3 hμ hI
        exact blc_56 (fun M' v2' v3' => I M' v2' v3' ∧ μ M' v2' v3' < μ M v2 v3) M v2 v3 (hB M v2 v3 hI) (fun M' v2' v3' hh => ih M' v2' v3' (Nat.lt_of_lt_of_le hh.2 (Nat.le_of_lt_succ hμ)) hh.1)
    exact key _ M v2 v3 (Nat.lt_succ_self _) hI
  have blk_15 : ∀ (M : fm_M) (s0 : Int), B_Rd_readCommand_15 k1 post thr M s0 → fx_G p l e { frames := 10, cells := 1, slots := 6, locals := 182 } s m ([.ref (ad 1), .ref (ad k1)] : List Value).toArray below meth c D ad cA n0 3 post thr 5 M [(0, .ref (ad 1)), (1, .ref (ad k1))] 15 [.int (Int32.ofInt s0), .ref (ad k1)] := by
    intro M s0 hw H locs ls w hl
    obtain ⟨h78, hw⟩ := hw
    obtain ⟨h80, hw⟩ := hw
    refine fm_pZ F w cl_Cm k1 2 h78 (by decide) rfl k_115 rfl rfl h80 d_Rd_readCommand_15 (fun M79 hM79 H locs w => ?_)
    have hw := hw M79 hM79
    refine lv_aload_n F.1 F.2.1 d_Rd_readCommand_18 rfl (lv_at hl 0 rfl) ?_
    refine lv_dup F.1 F.2.1 d_Rd_readCommand_19 rfl ?_
    refine fm_gI F w cl_Rd 1 2 T_1 (by decide) rfl k_170 d_Rd_readCommand_20 ?_
    refine lv_iconst (v := Int32.ofInt 1) F.1 F.2.1 d_Rd_readCommand_23 (by decide) ?_
    refine fi_iadd F d_Rd_readCommand_24 ?_
    refine fm_pI F w cl_Rd 1 2 T_1 (by decide) rfl k_170 rfl rfl d_Rd_readCommand_25 (fun M81 hM81 H locs w => ?_)
    have hw := hw M81 hM81
    refine lv_aload_n F.1 F.2.1 d_Rd_readCommand_28 rfl (lv_at hl 0 rfl) ?_
    refine lv_aload_n F.1 F.2.1 d_Rd_readCommand_29 rfl (lv_at hl 1 rfl) ?_
    refine fm_gO F w cl_Cm k1 0 (k1 + 1) h78 (by decide) rfl rfl k_108 d_Rd_readCommand_30 ?_
    refine fx_c w hno hlk (fx_rV (As := [.ref (ad (k1 + 1))]) (rest := []) F w cl_Rd 1 T_1 (met_Rd_readGuard l hst9 D ad cA n0 M81 (k1 + 1) _ thr hw) e_Rd_readGuard ki_Rd_readGuard ks_Rd_readGuard k_548 rfl hl.1 rfl (Nat.le_of_ble_eq_true rfl) ⟨⟨Nat.le_of_ble_eq_true rfl, Nat.le_of_ble_eq_true rfl⟩, Nat.le_of_ble_eq_true rfl, Nat.le_of_ble_eq_true rfl⟩ d_Rd_readCommand_33) (fun r83 M82 hw H locs w => ?_)
    refine lv_aload_n F.1 F.2.1 d_Rd_readCommand_36 rfl (lv_at hl 0 rfl) ?_
    refine lv_bipush (v := Int32.ofInt 63) F.1 F.2.1 d_Rd_readCommand_37 (by decide) ?_
    refine fx_c w hno hlk (fx_rV (As := [.int (Int32.ofInt 63)]) (rest := []) F w cl_Rd 1 T_1 (met_Rd_expect l hst9 D ad cA n0 M82 63 _ thr hw) e_Rd_expect ki_Rd_expect ks_Rd_expect k_533 rfl hl.1 rfl (Nat.le_of_ble_eq_true rfl) ⟨⟨Nat.le_of_ble_eq_true rfl, Nat.le_of_ble_eq_true rfl⟩, Nat.le_of_ble_eq_true rfl, Nat.le_of_ble_eq_true rfl⟩ d_Rd_readCommand_39) (fun r85 M84 hw H locs w => ?_)
    refine lv_aload_n F.1 F.2.1 d_Rd_readCommand_42 rfl (lv_at hl 1 rfl) ?_
    refine lv_iconst (v := Int32.ofInt 0) F.1 F.2.1 d_Rd_readCommand_43 (by decide) ?_
    refine fm_pI F w cl_Cm k1 3 h78 (by decide) rfl k_118 rfl rfl d_Rd_readCommand_44 (fun M86 hM86 H locs w => ?_)
    have hw := hw M86 hM86
    refine lv_aload_n F.1 F.2.1 d_Rd_readCommand_47 rfl (lv_at hl 1 rfl) ?_
    refine lv_iconst (v := Int32.ofInt 0) F.1 F.2.1 d_Rd_readCommand_48 (by decide) ?_
    refine fm_pI F w cl_Cm k1 4 h78 (by decide) rfl k_124 rfl rfl d_Rd_readCommand_49 (fun M87 hM87 H locs w => ?_)
    have hw := hw M87 hM87
    refine lv_iconst (v := Int32.ofInt 1) F.1 F.2.1 d_Rd_readCommand_52 (by decide) ?_
    refine lv_istore_n F.1 F.2.1 d_Rd_readCommand_53 rfl hl (by decide) rfl (fun ls hl => ?_)
    have hl : lv_has ls 5 [(2, .int (Int32.ofInt 1)), (0, .ref (ad 1)), (1, .ref (ad k1))] := hl
    refine lv_iconst (v := Int32.ofInt 0) F.1 F.2.1 d_Rd_readCommand_54 (by decide) ?_
    refine lv_istore_n F.1 F.2.1 d_Rd_readCommand_55 rfl hl (by decide) rfl (fun ls hl => ?_)
    have hl : lv_has ls 5 [(3, .int (Int32.ofInt 0)), (2, .int (Int32.ofInt 1)), (0, .ref (ad 1)), (1, .ref (ad k1))] := hl
    exact blk_56 M87 1 0 hw H locs ls w (lv_sub hl [2, 3, 1, 0] rfl)
  have hl : lv_has ls 5 [(0, .ref (ad 1)), (1, .ref (ad k1))] := hl
  suffices h9 : fx_G p l e { frames := 10, cells := 1, slots := 6, locals := 182 } s m ([.ref (ad 1), .ref (ad k1)] : List Value).toArray below meth c D ad cA n0 3 post thr 5 M [(0, .ref (ad 1)), (1, .ref (ad k1))] 0 [] from h9 _ _ _ w hl
  intro H locs ls w hl
  refine lv_aload_n F.1 F.2.1 d_Rd_readCommand_0 rfl (lv_at hl 1 rfl) ?_
  refine lv_aload_n F.1 F.2.1 d_Rd_readCommand_1 rfl (lv_at hl 0 rfl) ?_
  refine fx_c w hno hlk (fx_rV (As := []) (rest := [.ref (ad k1)]) F w cl_Rd 1 T_1 (met_Rd_here l hst9 D ad cA n0 M _ thr hw) e_Rd_here ki_Rd_here ks_Rd_here k_442 rfl hl.1 rfl (Nat.le_of_ble_eq_true rfl) ⟨⟨Nat.le_of_ble_eq_true rfl, Nat.le_of_ble_eq_true rfl⟩, Nat.le_of_ble_eq_true rfl, Nat.le_of_ble_eq_true rfl⟩ d_Rd_readCommand_2) (fun r89 M88 hw H locs w => ?_)
  show W p l e _ s m _ below meth c H locs 0 0 _ (F0 m 5 ls [.int (Int32.ofInt r89), .ref (ad k1)])
  refine lv_bipush (v := Int32.ofInt 43) F.1 F.2.1 d_Rd_readCommand_5 (by decide) ?_
  obtain ⟨h90, hw⟩ := hw
  refine fi_icmp_ne F d_Rd_readCommand_7 (tgt := 14) (by decide) h90 (rgl (by decide)) (fun hc91 => ?_) (fun hc91 => ?_)
  · have hw := hw.1 hc91
    refine lv_iconst (v := Int32.ofInt 0) F.1 F.2.1 d_Rd_readCommand_14 (by decide) ?_
    exact blk_15 M88 0 hw H locs ls w (lv_sub hl [0, 1] rfl)
  · have hw := hw.2 hc91
    refine lv_iconst (v := Int32.ofInt 1) F.1 F.2.1 d_Rd_readCommand_10 (by decide) ?_
    refine lv_goto F.1 F.2.1 d_Rd_readCommand_11 (tgt := 15) (by decide) ?_
    exact blk_15 M88 1 hw H locs ls w (lv_sub hl [0, 1] rfl)
set_option maxHeartbeats 4000000 in
set_option maxRecDepth 100000 in
theorem met_Rd_readInPlaceOf (l : Launch) (hst9 : l.stackTraces = false) (D : va_G) (ad : Nat → Nat) (cA : Nat → ClassId) (n0 : Nat) (M : fm_M) (k1 : Nat) (post : Int → fm_M → Prop) (thr : String → fm_M → Prop) (hw : wp_Rd_readInPlaceOf M k1 post thr) : fx_Met l y_Rd_readInPlaceOf (Cond.code y_Rd_readInPlaceOf b_Rd_readInPlaceOf 3 (some (.object "ChanceGame$Game")) :: tb) { frames := 11, cells := 1, slots := 6, locals := 206 } [.ref (ad 1), .ref (ad k1)] D ad cA n0 M 2 post thr := by
  refine fx_met (by decide) (Nat.le_of_ble_eq_true rfl) (fun p e s m below meth c ls F w hno hr hlk hl => ?_)
  have blk_128 : ∀ (M : fm_M), B_Rd_readInPlaceOf_128 k1 post thr M → fx_G p l e { frames := 11, cells := 1, slots := 6, locals := 206 } s m ([.ref (ad 1), .ref (ad k1)] : List Value).toArray below meth c D ad cA n0 2 post thr 3 M [(0, .ref (ad 1)), (1, .ref (ad k1))] 128 [] := by
    intro M hw H locs ls w hl
    refine lv_aload_n F.1 F.2.1 d_Rd_readInPlaceOf_128 rfl (lv_at hl 0 rfl) ?_
    refine fm_gR F w cl_Rd 1 1 T_1 (by decide) rfl k_169 d_Rd_readInPlaceOf_129 ?_
    refine lv_astore_n F.1 F.2.1 d_Rd_readInPlaceOf_132 rfl hl (by decide) rfl (fun ls hl => ?_)
    have hl : lv_has ls 3 [(2, .ref (ad ((M 1 1).toNat))), (0, .ref (ad 1)), (1, .ref (ad k1))] := hl
    refine lv_aload_n F.1 F.2.1 d_Rd_readInPlaceOf_133 rfl (lv_at hl 1 rfl) ?_
    refine lv_aload_n F.1 F.2.1 d_Rd_readInPlaceOf_134 rfl (lv_at hl 2 rfl) ?_
    refine fm_pR F w cl_Rd 1 1 k1 T_1 (by decide) rfl k_169 rfl rfl d_Rd_readInPlaceOf_135 (fun M61 hM61 H locs w => ?_)
    have hw := hw M61 hM61
    refine lv_aload_n F.1 F.2.1 d_Rd_readInPlaceOf_138 rfl (lv_at hl 0 rfl) ?_
    exact fx_aret F w hr hlk hw d_Rd_readInPlaceOf_139
  have blk_89 : ∀ (M : fm_M), B_Rd_readInPlaceOf_89 k1 post thr M → fx_G p l e { frames := 11, cells := 1, slots := 6, locals := 206 } s m ([.ref (ad 1), .ref (ad k1)] : List Value).toArray below meth c D ad cA n0 2 post thr 3 M [(0, .ref (ad 1)), (1, .ref (ad k1))] 89 [] := by
    intro M hw H locs ls w hl
    refine lv_aload_n F.1 F.2.1 d_Rd_readInPlaceOf_89 rfl (lv_at hl 0 rfl) ?_
    refine lv_bipush (v := Int32.ofInt 33) F.1 F.2.1 d_Rd_readInPlaceOf_90 (by decide) ?_
    refine fx_c w hno hlk (fx_rV (As := [.int (Int32.ofInt 33)]) (rest := []) F w cl_Rd 1 T_1 (met_Rd_expect l hst9 D ad cA n0 M 33 _ thr hw) e_Rd_expect ki_Rd_expect ks_Rd_expect k_533 rfl hl.1 rfl (Nat.le_of_ble_eq_true rfl) ⟨⟨Nat.le_of_ble_eq_true rfl, Nat.le_of_ble_eq_true rfl⟩, Nat.le_of_ble_eq_true rfl, Nat.le_of_ble_eq_true rfl⟩ d_Rd_readInPlaceOf_92) (fun r63 M62 hw H locs w => ?_)
    refine lv_aload_n F.1 F.2.1 d_Rd_readInPlaceOf_95 rfl (lv_at hl 0 rfl) ?_
    refine lv_aload_n F.1 F.2.1 d_Rd_readInPlaceOf_96 rfl (lv_at hl 0 rfl) ?_
    refine fm_gR F w cl_Rd 1 1 T_1 (by decide) rfl k_169 d_Rd_readInPlaceOf_97 ?_
    obtain ⟨h64, hw⟩ := hw
    refine fm_gO F w cl_Gm ((M62 1 1).toNat) 3 (((M62 1 1).toNat) + 4) h64 (by decide) rfl rfl k_147 d_Rd_readInPlaceOf_100 ?_
    refine fx_c w hno hlk (fx_rV (As := [.ref (ad (((M62 1 1).toNat) + 4))]) (rest := []) F w cl_Rd 1 T_1 (met_Rd_readGuard l hst9 D ad cA n0 M62 (((M62 1 1).toNat) + 4) _ thr hw) e_Rd_readGuard ki_Rd_readGuard ks_Rd_readGuard k_548 rfl hl.1 rfl (Nat.le_of_ble_eq_true rfl) ⟨⟨Nat.le_of_ble_eq_true rfl, Nat.le_of_ble_eq_true rfl⟩, Nat.le_of_ble_eq_true rfl, Nat.le_of_ble_eq_true rfl⟩ d_Rd_readInPlaceOf_103) (fun r66 M65 hw H locs w => ?_)
    refine lv_aload_n F.1 F.2.1 d_Rd_readInPlaceOf_106 rfl (lv_at hl 0 rfl) ?_
    refine fm_gI F w cl_Rd 1 2 T_1 (by decide) rfl k_170 d_Rd_readInPlaceOf_107 ?_
    refine lv_aload_n F.1 F.2.1 d_Rd_readInPlaceOf_110 rfl (lv_at hl 0 rfl) ?_
    refine fm_gO F w cl_Rd 1 0 2 T_1 (by decide) rfl rfl k_167 d_Rd_readInPlaceOf_111 ?_
    refine fm_gI F w cl_Tx 2 1 T_2 (by decide) rfl k_45 d_Rd_readInPlaceOf_114 ?_
    obtain ⟨h67, hw⟩ := hw
    obtain ⟨h68, hw⟩ := hw
    refine fi_icmp_ge F d_Rd_readInPlaceOf_117 (tgt := 128) (by decide) h67 h68 (fun hc69 => ?_) (fun hc69 => ?_)
    · have hw := hw.1 hc69
      exact blk_128 M65 hw H locs ls w (lv_sub hl [0, 1] rfl)
    · have hw := hw.2 hc69
      refine lv_aload_n F.1 F.2.1 d_Rd_readInPlaceOf_120 rfl (lv_at hl 0 rfl) ?_
      refine lv_aload_n F.1 F.2.1 d_Rd_readInPlaceOf_121 rfl (lv_at hl 0 rfl) ?_
      refine fm_gI F w cl_Rd 1 2 T_1 (by decide) rfl k_170 d_Rd_readInPlaceOf_122 ?_
      refine fx_c w hno hlk (fx_rV (As := [.int (Int32.ofInt (M65 1 2))]) (rest := []) F w cl_Rd 1 T_1 (met_Rd_refuse l hst9 D ad cA n0 M65 (M65 1 2) _ thr hw) e_Rd_refuse ki_Rd_refuse ks_Rd_refuse k_454 rfl hl.1 rfl (Nat.le_of_ble_eq_true rfl) ⟨⟨Nat.le_of_ble_eq_true rfl, Nat.le_of_ble_eq_true rfl⟩, Nat.le_of_ble_eq_true rfl, Nat.le_of_ble_eq_true rfl⟩ d_Rd_readInPlaceOf_125) (fun r71 M70 hw H locs w => ?_)
      exact blk_128 M70 hw H locs ls w (lv_sub hl [0, 1] rfl)
  have blc_41 : ∀ (J_41 : (fm_M → Int → Prop)) (M : fm_M) (v2 : Int), C_Rd_readInPlaceOf_41 k1 post thr J_41 M v2 → (∀ (M : fm_M) (v2 : Int), J_41 M v2 → fx_G p l e { frames := 11, cells := 1, slots := 6, locals := 206 } s m ([.ref (ad 1), .ref (ad k1)] : List Value).toArray below meth c D ad cA n0 2 post thr 3 M [(0, .ref (ad 1)), (1, .ref (ad k1)), (2, .int (Int32.ofInt v2))] 41 []) → fx_G p l e { frames := 11, cells := 1, slots := 6, locals := 206 } s m ([.ref (ad 1), .ref (ad k1)] : List Value).toArray below meth c D ad cA n0 2 post thr 3 M [(0, .ref (ad 1)), (1, .ref (ad k1)), (2, .int (Int32.ofInt v2))] 41 [] := by
    intro J_41 M v2 hw hJ_41 H locs ls w hl
    refine lv_iload_n F.1 F.2.1 d_Rd_readInPlaceOf_41 rfl (lv_at hl 2 rfl) ?_
    refine lv_bipush (v := Int32.ofInt 10) F.1 F.2.1 d_Rd_readInPlaceOf_42 (by decide) ?_
    obtain ⟨h72, hw⟩ := hw
    refine fi_icmp_ge F d_Rd_readInPlaceOf_44 (tgt := 89) (by decide) h72 (rgl (by decide)) (fun hc73 => ?_) (fun hc73 => ?_)
    · have hw := hw.1 hc73
      exact blk_89 M hw H locs ls w (lv_sub hl [0, 1] rfl)
    · have hw := hw.2 hc73
      refine lv_aload_n F.1 F.2.1 d_Rd_readInPlaceOf_47 rfl (lv_at hl 0 rfl) ?_
      refine fx_c w hno hlk (fx_rV (As := []) (rest := []) F w cl_Rd 1 T_1 (met_Rd_here l hst9 D ad cA n0 M _ thr hw) e_Rd_here ki_Rd_here ks_Rd_here k_442 rfl hl.1 rfl (Nat.le_of_ble_eq_true rfl) ⟨⟨Nat.le_of_ble_eq_true rfl, Nat.le_of_ble_eq_true rfl⟩, Nat.le_of_ble_eq_true rfl, Nat.le_of_ble_eq_true rfl⟩ d_Rd_readInPlaceOf_48) (fun r75 M74 hw H locs w => ?_)
      show W p l e _ s m _ below meth c H locs 0 0 _ (F0 m 51 ls [.int (Int32.ofInt r75)])
      refine fx_c w hno hlk (fx_rS (As := [.int (Int32.ofInt r75)]) (rest := []) F w (met_Rd_isPlusOrMinus l hst9 D ad cA n0 M74 r75 _ thr hw) e_Rd_isPlusOrMinus kt_Rd_isPlusOrMinus k_541 rfl hl.1 rfl (Nat.le_of_ble_eq_true rfl) ⟨⟨Nat.le_of_ble_eq_true rfl, Nat.le_of_ble_eq_true rfl⟩, Nat.le_of_ble_eq_true rfl, Nat.le_of_ble_eq_true rfl⟩ d_Rd_readInPlaceOf_51) (fun r77 M76 hw H locs w => ?_)
      show W p l e _ s m _ below meth c H locs 0 0 _ (F0 m 54 ls [.int (Int32.ofInt r77)])
      obtain ⟨h78, hw⟩ := hw
      refine fi_if_eq F d_Rd_readInPlaceOf_54 (tgt := 89) (by decide) h78 (fun hc79 => ?_) (fun hc79 => ?_)
      · have hw := hw.1 hc79
        exact blk_89 M76 hw H locs ls w (lv_sub hl [0, 1] rfl)
      · have hw := hw.2 hc79
        refine lv_aload_n F.1 F.2.1 d_Rd_readInPlaceOf_57 rfl (lv_at hl 0 rfl) ?_
        refine lv_aload_n F.1 F.2.1 d_Rd_readInPlaceOf_58 rfl (lv_at hl 0 rfl) ?_
        refine fm_gR F w cl_Rd 1 1 T_1 (by decide) rfl k_169 d_Rd_readInPlaceOf_59 ?_
        obtain ⟨h80, hw⟩ := hw
        refine fm_gO F w cl_Gm ((M76 1 1).toNat) 2 (((M76 1 1).toNat) + 3) h80 (by decide) rfl rfl k_142 d_Rd_readInPlaceOf_62 ?_
        refine lv_iload_n F.1 F.2.1 d_Rd_readInPlaceOf_65 rfl (lv_at hl 2 rfl) ?_
        obtain ⟨h81, hw⟩ := hw
        obtain ⟨h82, hw⟩ := hw
        refine fm_aR F w (((M76 1 1).toNat) + 3) 2 ((((M76 1 1).toNat) + 3) + 4 + 13 * v2.toNat) h81 rfl (by decide) h82 rfl d_Rd_readInPlaceOf_66 ?_
        refine fx_c w hno hlk (fx_rV (As := [.ref (ad ((((M76 1 1).toNat) + 3) + 4 + 13 * v2.toNat))]) (rest := []) F w cl_Rd 1 T_1 (met_Rd_readCommand l hst9 D ad cA n0 M76 ((((M76 1 1).toNat) + 3) + 4 + 13 * v2.toNat) _ thr hw) e_Rd_readCommand ki_Rd_readCommand ks_Rd_readCommand k_544 rfl hl.1 rfl (Nat.le_of_ble_eq_true rfl) ⟨⟨Nat.le_of_ble_eq_true rfl, Nat.le_of_ble_eq_true rfl⟩, Nat.le_of_ble_eq_true rfl, Nat.le_of_ble_eq_true rfl⟩ d_Rd_readInPlaceOf_67) (fun r84 M83 hw H locs w => ?_)
        refine lv_aload_n F.1 F.2.1 d_Rd_readInPlaceOf_70 rfl (lv_at hl 0 rfl) ?_
        refine fm_gR F w cl_Rd 1 1 T_1 (by decide) rfl k_169 d_Rd_readInPlaceOf_71 ?_
        refine lv_dup F.1 F.2.1 d_Rd_readInPlaceOf_74 rfl ?_
        obtain ⟨h85, hw⟩ := hw
        refine fm_gI F w cl_Gm ((M83 1 1).toNat) 4 h85 (by decide) rfl k_150 d_Rd_readInPlaceOf_75 ?_
        refine lv_iconst (v := Int32.ofInt 1) F.1 F.2.1 d_Rd_readInPlaceOf_78 (by decide) ?_
        refine fi_iadd F d_Rd_readInPlaceOf_79 ?_
        refine fm_pI F w cl_Gm ((M83 1 1).toNat) 4 h85 (by decide) rfl k_150 rfl rfl d_Rd_readInPlaceOf_80 (fun M86 hM86 H locs w => ?_)
        have hw := hw M86 hM86
        refine fi_iinc (k := 2) (v := (v2 + 1)) F d_Rd_readInPlaceOf_83 hl rfl rfl (by decide) rfl (fun ls hl => ?_)
        have hl : lv_has ls 3 [(2, .int (Int32.ofInt (v2 + 1))), (0, .ref (ad 1)), (1, .ref (ad k1))] := hl
        refine lv_goto F.1 F.2.1 d_Rd_readInPlaceOf_86 (tgt := 41) (by decide) ?_
        exact hJ_41 M86 (v2 + 1) hw H locs ls w (lv_sub hl [1, 2, 0] rfl)
  have blk_41 : ∀ (M : fm_M) (v2 : Int), B_Rd_readInPlaceOf_41 k1 post thr M v2 → fx_G p l e { frames := 11, cells := 1, slots := 6, locals := 206 } s m ([.ref (ad 1), .ref (ad k1)] : List Value).toArray below meth c D ad cA n0 2 post thr 3 M [(0, .ref (ad 1)), (1, .ref (ad k1)), (2, .int (Int32.ofInt v2))] 41 [] := by
    intro M v2 hw
    obtain ⟨I, μ, hI, hB⟩ := hw
    have key : ∀ (q : Nat) (M : fm_M) (v2 : Int), μ M v2 < q → I M v2 → fx_G p l e { frames := 11, cells := 1, slots := 6, locals := 206 } s m ([.ref (ad 1), .ref (ad k1)] : List Value).toArray below meth c D ad cA n0 2 post thr 3 M [(0, .ref (ad 1)), (1, .ref (ad k1)), (2, .int (Int32.ofInt v2))] 41 [] := by
      intro q
      induction q with
      | zero => intro M v2 h _; exact absurd h (Nat.not_lt_zero _)
      | succ q ih =>
        intro M v2 hμ hI
        exact blc_41 (fun M' v2' => I M' v2' ∧ μ M' v2' < μ M v2) M v2 (hB M v2 hI) (fun M' v2' hh => ih M' v2' (Nat.lt_of_lt_of_le hh.2 (Nat.le_of_lt_succ hμ)) hh.1)
    exact key _ M v2 (Nat.lt_succ_self _) hI
  have blk_39 : ∀ (M : fm_M), B_Rd_readInPlaceOf_39 k1 post thr M → fx_G p l e { frames := 11, cells := 1, slots := 6, locals := 206 } s m ([.ref (ad 1), .ref (ad k1)] : List Value).toArray below meth c D ad cA n0 2 post thr 3 M [(0, .ref (ad 1)), (1, .ref (ad k1))] 39 [] := by
    intro M hw H locs ls w hl
    refine lv_iconst (v := Int32.ofInt 0) F.1 F.2.1 d_Rd_readInPlaceOf_39 (by decide) ?_
    refine lv_istore_n F.1 F.2.1 d_Rd_readInPlaceOf_40 rfl hl (by decide) rfl (fun ls hl => ?_)
    have hl : lv_has ls 3 [(2, .int (Int32.ofInt 0)), (0, .ref (ad 1)), (1, .ref (ad k1))] := hl
    exact blk_41 M 0 hw H locs ls w (lv_sub hl [1, 2, 0] rfl)
  have blc_14 : ∀ (J_14 : (fm_M → Int → Prop)) (M : fm_M) (v2 : Int), C_Rd_readInPlaceOf_14 k1 post thr J_14 M v2 → (∀ (M : fm_M) (v2 : Int), J_14 M v2 → fx_G p l e { frames := 11, cells := 1, slots := 6, locals := 206 } s m ([.ref (ad 1), .ref (ad k1)] : List Value).toArray below meth c D ad cA n0 2 post thr 3 M [(0, .ref (ad 1)), (1, .ref (ad k1)), (2, .int (Int32.ofInt v2))] 14 []) → fx_G p l e { frames := 11, cells := 1, slots := 6, locals := 206 } s m ([.ref (ad 1), .ref (ad k1)] : List Value).toArray below meth c D ad cA n0 2 post thr 3 M [(0, .ref (ad 1)), (1, .ref (ad k1)), (2, .int (Int32.ofInt v2))] 14 [] := by
    intro J_14 M v2 hw hJ_14 H locs ls w hl
    refine lv_iload_n F.1 F.2.1 d_Rd_readInPlaceOf_14 rfl (lv_at hl 2 rfl) ?_
    refine lv_iconst (v := Int32.ofInt 3) F.1 F.2.1 d_Rd_readInPlaceOf_15 (by decide) ?_
    obtain ⟨h87, hw⟩ := hw
    refine fi_icmp_ge F d_Rd_readInPlaceOf_16 (tgt := 39) (by decide) h87 (rgl (by decide)) (fun hc88 => ?_) (fun hc88 => ?_)
    · have hw := hw.1 hc88
      exact blk_39 M hw H locs ls w (lv_sub hl [0, 1] rfl)
    · have hw := hw.2 hc88
      refine lv_aload_n F.1 F.2.1 d_Rd_readInPlaceOf_19 rfl (lv_at hl 0 rfl) ?_
      refine fx_c w hno hlk (fx_rV (As := []) (rest := []) F w cl_Rd 1 T_1 (met_Rd_here l hst9 D ad cA n0 M _ thr hw) e_Rd_here ki_Rd_here ks_Rd_here k_442 rfl hl.1 rfl (Nat.le_of_ble_eq_true rfl) ⟨⟨Nat.le_of_ble_eq_true rfl, Nat.le_of_ble_eq_true rfl⟩, Nat.le_of_ble_eq_true rfl, Nat.le_of_ble_eq_true rfl⟩ d_Rd_readInPlaceOf_20) (fun r90 M89 hw H locs w => ?_)
      show W p l e _ s m _ below meth c H locs 0 0 _ (F0 m 23 ls [.int (Int32.ofInt r90)])
      refine fx_c w hno hlk (fx_rS (As := [.int (Int32.ofInt r90)]) (rest := []) F w (met_Rd_isName l hst9 D ad cA n0 M89 r90 _ thr hw) e_Rd_isName kt_Rd_isName k_446 rfl hl.1 rfl (Nat.le_of_ble_eq_true rfl) ⟨⟨Nat.le_of_ble_eq_true rfl, Nat.le_of_ble_eq_true rfl⟩, Nat.le_of_ble_eq_true rfl, Nat.le_of_ble_eq_true rfl⟩ d_Rd_readInPlaceOf_23) (fun r92 M91 hw H locs w => ?_)
      show W p l e _ s m _ below meth c H locs 0 0 _ (F0 m 26 ls [.int (Int32.ofInt r92)])
      obtain ⟨h93, hw⟩ := hw
      refine fi_if_eq F d_Rd_readInPlaceOf_26 (tgt := 39) (by decide) h93 (fun hc94 => ?_) (fun hc94 => ?_)
      · have hw := hw.1 hc94
        exact blk_39 M91 hw H locs ls w (lv_sub hl [0, 1] rfl)
      · have hw := hw.2 hc94
        refine lv_aload_n F.1 F.2.1 d_Rd_readInPlaceOf_29 rfl (lv_at hl 0 rfl) ?_
        refine fx_c w hno hlk (fx_rV (As := []) (rest := []) F w cl_Rd 1 T_1 (met_Rd_readVariable l hst9 D ad cA n0 M91 _ thr hw) e_Rd_readVariable ki_Rd_readVariable ks_Rd_readVariable k_449 rfl hl.1 rfl (Nat.le_of_ble_eq_true rfl) ⟨⟨Nat.le_of_ble_eq_true rfl, Nat.le_of_ble_eq_true rfl⟩, Nat.le_of_ble_eq_true rfl, Nat.le_of_ble_eq_true rfl⟩ d_Rd_readInPlaceOf_30) (fun r96 M95 hw H locs w => ?_)
        refine fi_iinc (k := 2) (v := (v2 + 1)) F d_Rd_readInPlaceOf_33 hl rfl rfl (by decide) rfl (fun ls hl => ?_)
        have hl : lv_has ls 3 [(2, .int (Int32.ofInt (v2 + 1))), (0, .ref (ad 1)), (1, .ref (ad k1))] := hl
        refine lv_goto F.1 F.2.1 d_Rd_readInPlaceOf_36 (tgt := 14) (by decide) ?_
        exact hJ_14 M95 (v2 + 1) hw H locs ls w (lv_sub hl [1, 2, 0] rfl)
  have blk_14 : ∀ (M : fm_M) (v2 : Int), B_Rd_readInPlaceOf_14 k1 post thr M v2 → fx_G p l e { frames := 11, cells := 1, slots := 6, locals := 206 } s m ([.ref (ad 1), .ref (ad k1)] : List Value).toArray below meth c D ad cA n0 2 post thr 3 M [(0, .ref (ad 1)), (1, .ref (ad k1)), (2, .int (Int32.ofInt v2))] 14 [] := by
    intro M v2 hw
    obtain ⟨I, μ, hI, hB⟩ := hw
    have key : ∀ (q : Nat) (M : fm_M) (v2 : Int), μ M v2 < q → I M v2 → fx_G p l e { frames := 11, cells := 1, slots := 6, locals := 206 } s m ([.ref (ad 1), .ref (ad k1)] : List Value).toArray below meth c D ad cA n0 2 post thr 3 M [(0, .ref (ad 1)), (1, .ref (ad k1)), (2, .int (Int32.ofInt v2))] 14 [] := by
      intro q
      induction q with
      | zero => intro M v2 h _; exact absurd h (Nat.not_lt_zero _)
      | succ q ih =>
        intro M v2 hμ hI
        exact blc_14 (fun M' v2' => I M' v2' ∧ μ M' v2' < μ M v2) M v2 (hB M v2 hI) (fun M' v2' hh => ih M' v2' (Nat.lt_of_lt_of_le hh.2 (Nat.le_of_lt_succ hμ)) hh.1)
    exact key _ M v2 (Nat.lt_succ_self _) hI
  have hl : lv_has ls 3 [(0, .ref (ad 1)), (1, .ref (ad k1))] := hl
  suffices h9 : fx_G p l e { frames := 11, cells := 1, slots := 6, locals := 206 } s m ([.ref (ad 1), .ref (ad k1)] : List Value).toArray below meth c D ad cA n0 2 post thr 3 M [(0, .ref (ad 1)), (1, .ref (ad k1))] 0 [] from h9 _ _ _ w hl
  intro H locs ls w hl
  refine lv_aload_n F.1 F.2.1 d_Rd_readInPlaceOf_0 rfl (lv_at hl 0 rfl) ?_
  refine lv_iconst (v := Int32.ofInt 0) F.1 F.2.1 d_Rd_readInPlaceOf_1 (by decide) ?_
  refine fm_pI F w cl_Rd 1 2 T_1 (by decide) rfl k_170 rfl rfl d_Rd_readInPlaceOf_2 (fun M97 hM97 H locs w => ?_)
  have hw := hw M97 hM97
  refine lv_aload_n F.1 F.2.1 d_Rd_readInPlaceOf_5 rfl (lv_at hl 0 rfl) ?_
  refine fm_gR F w cl_Rd 1 1 T_1 (by decide) rfl k_169 d_Rd_readInPlaceOf_6 ?_
  obtain ⟨h98, hw⟩ := hw
  refine fx_c w hno hlk (fx_rV (As := []) (rest := []) F w cl_Gm ((M97 1 1).toNat) h98 (met_Gm_clear l hst9 D ad cA n0 M97 ((M97 1 1).toNat) _ thr hw) e_Gm_clear ki_Gm_clear ks_Gm_clear k_438 rfl hl.1 rfl (Nat.le_of_ble_eq_true rfl) ⟨⟨Nat.le_of_ble_eq_true rfl, Nat.le_of_ble_eq_true rfl⟩, Nat.le_of_ble_eq_true rfl, Nat.le_of_ble_eq_true rfl⟩ d_Rd_readInPlaceOf_9) (fun r100 M99 hw H locs w => ?_)
  refine lv_iconst (v := Int32.ofInt 0) F.1 F.2.1 d_Rd_readInPlaceOf_12 (by decide) ?_
  refine lv_istore_n F.1 F.2.1 d_Rd_readInPlaceOf_13 rfl hl (by decide) rfl (fun ls hl => ?_)
  have hl : lv_has ls 3 [(2, .int (Int32.ofInt 0)), (0, .ref (ad 1)), (1, .ref (ad k1))] := hl
  exact blk_14 M99 0 hw H locs ls w (lv_sub hl [1, 2, 0] rfl)
set_option maxHeartbeats 4000000 in
set_option maxRecDepth 100000 in
theorem met_Fo_clear (l : Launch) (hst9 : l.stackTraces = false) (D : va_G) (ad : Nat → Nat) (cA : Nat → ClassId) (n0 : Nat) (M : fm_M) (post : Int → fm_M → Prop) (thr : String → fm_M → Prop) (hw : wp_Fo_clear M post thr) : fx_Met l y_Fo_clear (Cond.code y_Fo_clear b_Fo_clear 1 none :: tb) { frames := 0, cells := 1, slots := 6, locals := 0 } [.ref (ad 142)] D ad cA n0 M 3 post thr := by
  refine fx_met (by decide) (Nat.le_of_ble_eq_true rfl) (fun p e s m below meth c ls F w hno hr hlk hl => ?_)
  have hl : lv_has ls 1 [(0, .ref (ad 142))] := hl
  suffices h9 : fx_G p l e { frames := 0, cells := 1, slots := 6, locals := 0 } s m ([.ref (ad 142)] : List Value).toArray below meth c D ad cA n0 3 post thr 1 M [(0, .ref (ad 142))] 0 [] from h9 _ _ _ w hl
  intro H locs ls w hl
  refine lv_aload_n F.1 F.2.1 d_Fo_clear_0 rfl (lv_at hl 0 rfl) ?_
  refine lv_iconst (v := Int32.ofInt 0) F.1 F.2.1 d_Fo_clear_1 (by decide) ?_
  refine fm_pI F w cl_Fo 142 1 T_142 (by decide) rfl k_203 rfl rfl d_Fo_clear_2 (fun M5 hM5 H locs w => ?_)
  have hw := hw M5 hM5
  refine lv_aload_n F.1 F.2.1 d_Fo_clear_5 rfl (lv_at hl 0 rfl) ?_
  refine lv_iconst (v := Int32.ofInt 0) F.1 F.2.1 d_Fo_clear_6 (by decide) ?_
  refine fm_pI F w cl_Fo 142 4 T_142 (by decide) rfl k_214 rfl rfl d_Fo_clear_7 (fun M6 hM6 H locs w => ?_)
  have hw := hw M6 hM6
  refine lv_aload_n F.1 F.2.1 d_Fo_clear_10 rfl (lv_at hl 0 rfl) ?_
  refine lv_iconst (v := Int32.ofInt 0) F.1 F.2.1 d_Fo_clear_11 (by decide) ?_
  refine fm_pI F w cl_Fo 142 3 T_142 (by decide) rfl k_210 rfl rfl d_Fo_clear_12 (fun M7 hM7 H locs w => ?_)
  have hw := hw M7 hM7
  refine lv_aload_n F.1 F.2.1 d_Fo_clear_15 rfl (lv_at hl 0 rfl) ?_
  refine lv_iconst (v := Int32.ofInt (-1)) F.1 F.2.1 d_Fo_clear_16 (by decide) ?_
  refine fm_pI F w cl_Fo 142 2 T_142 (by decide) rfl k_208 rfl rfl d_Fo_clear_17 (fun M8 hM8 H locs w => ?_)
  have hw := hw M8 hM8
  exact fx_vret F w hr hlk hw d_Fo_clear_20
set_option maxHeartbeats 4000000 in
set_option maxRecDepth 100000 in
theorem met_Fo_begin (l : Launch) (hst9 : l.stackTraces = false) (D : va_G) (ad : Nat → Nat) (cA : Nat → ClassId) (n0 : Nat) (M : fm_M) (k1 : Nat) (post : Int → fm_M → Prop) (thr : String → fm_M → Prop) (hw : wp_Fo_begin M k1 post thr) : fx_Met l y_Fo_begin (Cond.code y_Fo_begin b_Fo_begin 2 none :: tb) { frames := 1, cells := 1, slots := 6, locals := 20 } [.ref (ad 142), .ref (ad k1)] D ad cA n0 M 3 post thr := by
  refine fx_met (by decide) (Nat.le_of_ble_eq_true rfl) (fun p e s m below meth c ls F w hno hr hlk hl => ?_)
  have hl : lv_has ls 2 [(0, .ref (ad 142)), (1, .ref (ad k1))] := hl
  suffices h9 : fx_G p l e { frames := 1, cells := 1, slots := 6, locals := 20 } s m ([.ref (ad 142), .ref (ad k1)] : List Value).toArray below meth c D ad cA n0 3 post thr 2 M [(0, .ref (ad 142)), (1, .ref (ad k1))] 0 [] from h9 _ _ _ w hl
  intro H locs ls w hl
  refine lv_aload_n F.1 F.2.1 d_Fo_begin_0 rfl (lv_at hl 0 rfl) ?_
  refine lv_aload_n F.1 F.2.1 d_Fo_begin_1 rfl (lv_at hl 1 rfl) ?_
  refine fm_pR F w cl_Fo 142 0 k1 T_142 (by decide) rfl k_198 rfl rfl d_Fo_begin_2 (fun M4 hM4 H locs w => ?_)
  have hw := hw M4 hM4
  refine lv_aload_n F.1 F.2.1 d_Fo_begin_5 rfl (lv_at hl 0 rfl) ?_
  refine fx_c w hno hlk (fx_rV (As := []) (rest := []) F w cl_Fo 142 T_142 (met_Fo_clear l hst9 D ad cA n0 M4 _ thr hw) e_Fo_clear ki_Fo_clear ks_Fo_clear k_585 rfl hl.1 rfl (Nat.le_of_ble_eq_true rfl) ⟨⟨Nat.le_of_ble_eq_true rfl, Nat.le_of_ble_eq_true rfl⟩, Nat.le_of_ble_eq_true rfl, Nat.le_of_ble_eq_true rfl⟩ d_Fo_begin_6) (fun r6 M5 hw H locs w => ?_)
  exact fx_vret F w hr hlk hw d_Fo_begin_9
set_option maxHeartbeats 4000000 in
set_option maxRecDepth 100000 in
theorem met_CG_read (l : Launch) (hst9 : l.stackTraces = false) (D : va_G) (ad : Nat → Nat) (cA : Nat → ClassId) (n0 : Nat) (M : fm_M) (post : Int → fm_M → Prop) (thr : String → fm_M → Prop) (hw : wp_CG_read M post thr) : fx_Met l y_CG_read (Cond.code y_CG_read b_CG_read 1 (some .int) :: tb) { frames := 12, cells := 1, slots := 6, locals := 228 } [.ref (ad 0)] D ad cA n0 M 0 post thr := by
  refine fx_met (by decide) (Nat.le_of_ble_eq_true rfl) (fun p e s m below meth c ls F w hno hr hlk hl => ?_)
  have hl : lv_has ls 1 [(0, .ref (ad 0))] := hl
  suffices h9 : fx_G p l e { frames := 12, cells := 1, slots := 6, locals := 228 } s m ([.ref (ad 0)] : List Value).toArray below meth c D ad cA n0 0 post thr 1 M [(0, .ref (ad 0))] 0 [] from h9 _ _ _ w hl
  intro H locs ls w hl
  refine lv_aload_n F.1 F.2.1 d_CG_read_0 rfl (lv_at hl 0 rfl) ?_
  refine fm_gO F w cl_CG 0 3 142 T_0 (by decide) rfl rfl k_330 d_CG_read_1 ?_
  refine lv_aload_n F.1 F.2.1 d_CG_read_4 rfl (lv_at hl 0 rfl) ?_
  refine fm_gO F w cl_CG 0 0 1 T_0 (by decide) rfl rfl k_327 d_CG_read_5 ?_
  refine lv_aload_n F.1 F.2.1 d_CG_read_8 rfl (lv_at hl 0 rfl) ?_
  refine fm_gO F w cl_CG 0 3 142 T_0 (by decide) rfl rfl k_330 d_CG_read_9 ?_
  refine fm_gR F w cl_Fo 142 0 T_142 (by decide) rfl k_202 d_CG_read_12 ?_
  refine fx_c w hno hlk (fx_rV (As := [.ref (ad ((M 142 0).toNat))]) (rest := [.ref (ad 142)]) F w cl_Rd 1 T_1 (met_Rd_readInPlaceOf l hst9 D ad cA n0 M ((M 142 0).toNat) _ thr hw) e_Rd_readInPlaceOf ki_Rd_readInPlaceOf ks_Rd_readInPlaceOf k_434 rfl hl.1 rfl (Nat.le_of_ble_eq_true rfl) ⟨⟨Nat.le_of_ble_eq_true rfl, Nat.le_of_ble_eq_true rfl⟩, Nat.le_of_ble_eq_true rfl, Nat.le_of_ble_eq_true rfl⟩ d_CG_read_15) (fun r11 M10 hw H locs w => ?_)
  show W p l e _ s m _ below meth c H locs 0 0 _ (F0 m 18 ls [.ref (ad (r11.toNat)), .ref (ad 142)])
  refine fx_c w hno hlk (fx_rV (As := [.ref (ad (r11.toNat))]) (rest := []) F w cl_Fo 142 T_142 (met_Fo_begin l hst9 D ad cA n0 M10 (r11.toNat) _ thr hw) e_Fo_begin ki_Fo_begin ks_Fo_begin k_581 rfl hl.1 rfl (Nat.le_of_ble_eq_true rfl) ⟨⟨Nat.le_of_ble_eq_true rfl, Nat.le_of_ble_eq_true rfl⟩, Nat.le_of_ble_eq_true rfl, Nat.le_of_ble_eq_true rfl⟩ d_CG_read_18) (fun r13 M12 hw H locs w => ?_)
  refine lv_aload_n F.1 F.2.1 d_CG_read_21 rfl (lv_at hl 0 rfl) ?_
  refine lv_iconst (v := Int32.ofInt 1) F.1 F.2.1 d_CG_read_22 (by decide) ?_
  refine fm_pZ F w cl_CG 0 5 T_0 (by decide) rfl k_332 rfl rfl (by decide) d_CG_read_23 (fun M14 hM14 H locs w => ?_)
  have hw := hw M14 hM14
  refine lv_aload_n F.1 F.2.1 d_CG_read_26 rfl (lv_at hl 0 rfl) ?_
  refine lv_iconst (v := Int32.ofInt 0) F.1 F.2.1 d_CG_read_27 (by decide) ?_
  refine fm_pZ F w cl_CG 0 6 T_0 (by decide) rfl k_333 rfl rfl (by decide) d_CG_read_28 (fun M15 hM15 H locs w => ?_)
  have hw := hw M15 hM15
  refine lv_aload_n F.1 F.2.1 d_CG_read_31 rfl (lv_at hl 0 rfl) ?_
  refine fm_gO F w cl_CG 0 1 2 T_0 (by decide) rfl rfl k_328 d_CG_read_32 ?_
  refine fx_c w hno hlk (fx_rV (As := []) (rest := []) F w cl_Tx 2 T_2 (met_Tx_clear l hst9 D ad cA n0 M15 _ thr hw) e_Tx_clear ki_Tx_clear ks_Tx_clear k_367 rfl hl.1 rfl (Nat.le_of_ble_eq_true rfl) ⟨⟨Nat.le_of_ble_eq_true rfl, Nat.le_of_ble_eq_true rfl⟩, Nat.le_of_ble_eq_true rfl, Nat.le_of_ble_eq_true rfl⟩ d_CG_read_35) (fun r17 M16 hw H locs w => ?_)
  show W p l e _ s m _ below meth c H locs 0 0 _ (F0 m 38 ls [.int (Int32.ofInt r17)])
  refine lv_pop F.1 F.2.1 d_CG_read_38 rfl ?_
  refine lv_aload_n F.1 F.2.1 d_CG_read_39 rfl (lv_at hl 0 rfl) ?_
  refine fm_gO F w cl_CG 0 3 142 T_0 (by decide) rfl rfl k_330 d_CG_read_40 ?_
  refine fm_gR F w cl_Fo 142 0 T_142 (by decide) rfl k_202 d_CG_read_43 ?_
  obtain ⟨h18, hw⟩ := hw
  refine fm_gI F w cl_Gm ((M16 142 0).toNat) 4 h18 (by decide) rfl k_153 d_CG_read_46 ?_
  exact fx_iret F w hr hlk hw d_CG_read_49
set_option maxHeartbeats 4000000 in
set_option maxRecDepth 100000 in
theorem met_CG_place (l : Launch) (hst9 : l.stackTraces = false) (D : va_G) (ad : Nat → Nat) (cA : Nat → ClassId) (n0 : Nat) (M : fm_M) (post : Int → fm_M → Prop) (thr : String → fm_M → Prop) (hw : wp_CG_place M post thr) : fx_Met l y_CG_place (Cond.code y_CG_place b_CG_place 1 (some .int) :: tb) { frames := 0, cells := 1, slots := 6, locals := 0 } [.ref (ad 0)] D ad cA n0 M 0 post thr := by
  refine fx_met (by decide) (Nat.le_of_ble_eq_true rfl) (fun p e s m below meth c ls F w hno hr hlk hl => ?_)
  have hl : lv_has ls 1 [(0, .ref (ad 0))] := hl
  suffices h9 : fx_G p l e { frames := 0, cells := 1, slots := 6, locals := 0 } s m ([.ref (ad 0)] : List Value).toArray below meth c D ad cA n0 0 post thr 1 M [(0, .ref (ad 0))] 0 [] from h9 _ _ _ w hl
  intro H locs ls w hl
  refine lv_aload_n F.1 F.2.1 d_CG_place_0 rfl (lv_at hl 0 rfl) ?_
  refine fm_gO F w cl_CG 0 0 1 T_0 (by decide) rfl rfl k_327 d_CG_place_1 ?_
  refine fm_gI F w cl_Rd 1 3 T_1 (by decide) rfl k_172 d_CG_place_4 ?_
  exact fx_iret F w hr hlk hw d_CG_place_7
set_option maxHeartbeats 4000000 in
set_option maxRecDepth 100000 in
theorem met_Gm_commandsOfMax (l : Launch) (hst9 : l.stackTraces = false) (D : va_G) (ad : Nat → Nat) (cA : Nat → ClassId) (n0 : Nat) (M : fm_M) (k0 : Nat) (post : Int → fm_M → Prop) (thr : String → fm_M → Prop) (hw : wp_Gm_commandsOfMax M k0 post thr) : fx_Met l y_Gm_commandsOfMax (Cond.code y_Gm_commandsOfMax b_Gm_commandsOfMax 3 (some .int) :: tb) { frames := 0, cells := 1, slots := 6, locals := 0 } [.ref (ad k0)] D ad cA n0 M 0 post thr := by
  refine fx_met (by decide) (Nat.le_of_ble_eq_true rfl) (fun p e s m below meth c ls F w hno hr hlk hl => ?_)
  have blc_4 : ∀ (J_4 : (fm_M → Int → Int → Prop)) (M : fm_M) (v1 : Int) (v2 : Int), C_Gm_commandsOfMax_4 k0 post thr J_4 M v1 v2 → (∀ (M : fm_M) (v1 : Int) (v2 : Int), J_4 M v1 v2 → fx_G p l e { frames := 0, cells := 1, slots := 6, locals := 0 } s m ([.ref (ad k0)] : List Value).toArray below meth c D ad cA n0 0 post thr 3 M [(0, .ref (ad k0)), (1, .int (Int32.ofInt v1)), (2, .int (Int32.ofInt v2))] 4 []) → fx_G p l e { frames := 0, cells := 1, slots := 6, locals := 0 } s m ([.ref (ad k0)] : List Value).toArray below meth c D ad cA n0 0 post thr 3 M [(0, .ref (ad k0)), (1, .int (Int32.ofInt v1)), (2, .int (Int32.ofInt v2))] 4 [] := by
    intro J_4 M v1 v2 hw hJ_4 H locs ls w hl
    refine lv_iload_n F.1 F.2.1 d_Gm_commandsOfMax_4 rfl (lv_at hl 2 rfl) ?_
    refine lv_aload_n F.1 F.2.1 d_Gm_commandsOfMax_5 rfl (lv_at hl 0 rfl) ?_
    obtain ⟨h26, hw⟩ := hw
    refine fm_gI F w cl_Gm k0 4 h26 (by decide) rfl k_149 d_Gm_commandsOfMax_6 ?_
    obtain ⟨h27, hw⟩ := hw
    obtain ⟨h28, hw⟩ := hw
    refine fi_icmp_ge F d_Gm_commandsOfMax_9 (tgt := 36) (by decide) h27 h28 (fun hc29 => ?_) (fun hc29 => ?_)
    · have hw := hw.1 hc29
      refine lv_iload_n F.1 F.2.1 d_Gm_commandsOfMax_36 rfl (lv_at hl 1 rfl) ?_
      exact fx_iret F w hr hlk hw d_Gm_commandsOfMax_37
    · have hw := hw.2 hc29
      refine lv_aload_n F.1 F.2.1 d_Gm_commandsOfMax_12 rfl (lv_at hl 0 rfl) ?_
      refine fm_gO F w cl_Gm k0 2 (k0 + 3) h26 (by decide) rfl rfl k_141 d_Gm_commandsOfMax_13 ?_
      refine lv_iload_n F.1 F.2.1 d_Gm_commandsOfMax_16 rfl (lv_at hl 2 rfl) ?_
      obtain ⟨h30, hw⟩ := hw
      obtain ⟨h31, hw⟩ := hw
      refine fm_aR F w (k0 + 3) 2 ((k0 + 3) + 4 + 13 * v2.toNat) h30 rfl (by decide) h31 rfl d_Gm_commandsOfMax_17 ?_
      obtain ⟨h32, hw⟩ := hw
      refine fm_gI F w cl_Cm ((k0 + 3) + 4 + 13 * v2.toNat) 2 h32 (by decide) rfl k_116 d_Gm_commandsOfMax_18 ?_
      obtain ⟨h33, hw⟩ := hw
      refine fi_if_eq F d_Gm_commandsOfMax_21 (tgt := 30) (by decide) h33 (fun hc34 => ?_) (fun hc34 => ?_)
      · have hw := hw.1 hc34
        refine fi_iinc (k := 2) (v := (v2 + 1)) F d_Gm_commandsOfMax_30 hl rfl rfl (by decide) rfl (fun ls hl => ?_)
        have hl : lv_has ls 3 [(2, .int (Int32.ofInt (v2 + 1))), (0, .ref (ad k0)), (1, .int (Int32.ofInt v1))] := hl
        refine lv_goto F.1 F.2.1 d_Gm_commandsOfMax_33 (tgt := 4) (by decide) ?_
        exact hJ_4 M v1 (v2 + 1) hw H locs ls w (lv_sub hl [1, 2, 0] rfl)
      · have hw := hw.2 hc34
        refine lv_iload_n F.1 F.2.1 d_Gm_commandsOfMax_24 rfl (lv_at hl 1 rfl) ?_
        refine lv_iconst (v := Int32.ofInt 1) F.1 F.2.1 d_Gm_commandsOfMax_25 (by decide) ?_
        refine lv_iload_n F.1 F.2.1 d_Gm_commandsOfMax_26 rfl (lv_at hl 2 rfl) ?_
        refine fi_ishl F d_Gm_commandsOfMax_27 ?_
        refine fi_ior F d_Gm_commandsOfMax_28 ?_
        refine lv_istore_n F.1 F.2.1 d_Gm_commandsOfMax_29 rfl hl (by decide) rfl (fun ls hl => ?_)
        have hl : lv_has ls 3 [(1, .int (Int32.ofInt (jor v1 (jshl 1 v2)))), (0, .ref (ad k0)), (2, .int (Int32.ofInt v2))] := hl
        refine fi_iinc (k := 2) (v := (v2 + 1)) F d_Gm_commandsOfMax_30 hl rfl rfl (by decide) rfl (fun ls hl => ?_)
        have hl : lv_has ls 3 [(2, .int (Int32.ofInt (v2 + 1))), (1, .int (Int32.ofInt (jor v1 (jshl 1 v2)))), (0, .ref (ad k0))] := hl
        refine lv_goto F.1 F.2.1 d_Gm_commandsOfMax_33 (tgt := 4) (by decide) ?_
        exact hJ_4 M (jor v1 (jshl 1 v2)) (v2 + 1) hw H locs ls w (lv_sub hl [2, 1, 0] rfl)
  have blk_4 : ∀ (M : fm_M) (v1 : Int) (v2 : Int), B_Gm_commandsOfMax_4 k0 post thr M v1 v2 → fx_G p l e { frames := 0, cells := 1, slots := 6, locals := 0 } s m ([.ref (ad k0)] : List Value).toArray below meth c D ad cA n0 0 post thr 3 M [(0, .ref (ad k0)), (1, .int (Int32.ofInt v1)), (2, .int (Int32.ofInt v2))] 4 [] := by
    intro M v1 v2 hw
    obtain ⟨I, μ, hI, hB⟩ := hw
    have key : ∀ (q : Nat) (M : fm_M) (v1 : Int) (v2 : Int), μ M v1 v2 < q → I M v1 v2 → fx_G p l e { frames := 0, cells := 1, slots := 6, locals := 0 } s m ([.ref (ad k0)] : List Value).toArray below meth c D ad cA n0 0 post thr 3 M [(0, .ref (ad k0)), (1, .int (Int32.ofInt v1)), (2, .int (Int32.ofInt v2))] 4 [] := by
      intro q
      induction q with
      | zero => intro M v1 v2 h _; exact absurd h (Nat.not_lt_zero _)
      | succ q ih =>
        intro M v1 v2 hμ hI
        exact blc_4 (fun M' v1' v2' => I M' v1' v2' ∧ μ M' v1' v2' < μ M v1 v2) M v1 v2 (hB M v1 v2 hI) (fun M' v1' v2' hh => ih M' v1' v2' (Nat.lt_of_lt_of_le hh.2 (Nat.le_of_lt_succ hμ)) hh.1)
    exact key _ M v1 v2 (Nat.lt_succ_self _) hI
  have hl : lv_has ls 3 [(0, .ref (ad k0))] := hl
  suffices h9 : fx_G p l e { frames := 0, cells := 1, slots := 6, locals := 0 } s m ([.ref (ad k0)] : List Value).toArray below meth c D ad cA n0 0 post thr 3 M [(0, .ref (ad k0))] 0 [] from h9 _ _ _ w hl
  intro H locs ls w hl
  refine lv_iconst (v := Int32.ofInt 0) F.1 F.2.1 d_Gm_commandsOfMax_0 (by decide) ?_
  refine lv_istore_n F.1 F.2.1 d_Gm_commandsOfMax_1 rfl hl (by decide) rfl (fun ls hl => ?_)
  have hl : lv_has ls 3 [(1, .int (Int32.ofInt 0)), (0, .ref (ad k0))] := hl
  refine lv_iconst (v := Int32.ofInt 0) F.1 F.2.1 d_Gm_commandsOfMax_2 (by decide) ?_
  refine lv_istore_n F.1 F.2.1 d_Gm_commandsOfMax_3 rfl hl (by decide) rfl (fun ls hl => ?_)
  have hl : lv_has ls 3 [(2, .int (Int32.ofInt 0)), (1, .int (Int32.ofInt 0)), (0, .ref (ad k0))] := hl
  exact blk_4 M 0 0 hw H locs ls w (lv_sub hl [2, 1, 0] rfl)
