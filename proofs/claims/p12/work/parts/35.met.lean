set_option maxHeartbeats 4000000 in
set_option maxRecDepth 100000 in
theorem met_CG_firstBit (l : Launch) (hst9 : l.stackTraces = false) (D : va_G) (ad : Nat → Nat) (cA : Nat → ClassId) (n0 : Nat) (M : fm_M) (a0 : Int) (post : Int → fm_M → Prop) (thr : String → fm_M → Prop) (hw : wp_CG_firstBit M a0 post thr) : fx_Met l y_CG_firstBit (Cond.code y_CG_firstBit b_CG_firstBit 2 (some .int) :: tb) { frames := 1, cells := 1, slots := 6, locals := 21 } [.int (Int32.ofInt a0)] D ad cA n0 M 0 post thr := by
  refine fx_met (by decide) (Nat.le_of_ble_eq_true rfl) (fun p e s m below meth c ls F w hno hr hlk hl => ?_)
  have blc_2 : ∀ (J_2 : (fm_M → Int → Prop)) (M : fm_M) (v1 : Int), C_CG_firstBit_2 a0 post thr J_2 M v1 → (∀ (M : fm_M) (v1 : Int), J_2 M v1 → fx_G p l e { frames := 1, cells := 1, slots := 6, locals := 21 } s m ([.int (Int32.ofInt a0)] : List Value).toArray below meth c D ad cA n0 0 post thr 2 M [(0, .int (Int32.ofInt a0)), (1, .int (Int32.ofInt v1))] 2 []) → fx_G p l e { frames := 1, cells := 1, slots := 6, locals := 21 } s m ([.int (Int32.ofInt a0)] : List Value).toArray below meth c D ad cA n0 0 post thr 2 M [(0, .int (Int32.ofInt a0)), (1, .int (Int32.ofInt v1))] 2 [] := by
    intro J_2 M v1 hw hJ_2 H locs ls w hl
    refine lv_iload_n F.1 F.2.1 d_CG_firstBit_2 rfl (lv_at hl 1 rfl) ?_
    refine lv_bipush (v := Int32.ofInt 10) F.1 F.2.1 d_CG_firstBit_3 (by decide) ?_
    obtain ⟨h11, hw⟩ := hw
    refine fi_icmp_ge F d_CG_firstBit_5 (tgt := 24) (by decide) h11 (rgl (by decide)) (fun hc12 => ?_) (fun hc12 => ?_)
    · have hw := hw.1 hc12
      refine lv_iconst (v := Int32.ofInt (-1)) F.1 F.2.1 d_CG_firstBit_24 (by decide) ?_
      exact fx_iret F w hr hlk hw d_CG_firstBit_25
    · have hw := hw.2 hc12
      refine lv_iload_n F.1 F.2.1 d_CG_firstBit_8 rfl (lv_at hl 0 rfl) ?_
      refine lv_iload_n F.1 F.2.1 d_CG_firstBit_9 rfl (lv_at hl 1 rfl) ?_
      refine fx_c w hno hlk (fx_rS (As := [.int (Int32.ofInt a0), .int (Int32.ofInt v1)]) (rest := []) F w (met_CG_hasBit l hst9 D ad cA n0 M a0 v1 _ thr hw) e_CG_hasBit kt_CG_hasBit k_399 rfl hl.1 rfl (Nat.le_of_ble_eq_true rfl) ⟨⟨Nat.le_of_ble_eq_true rfl, Nat.le_of_ble_eq_true rfl⟩, Nat.le_of_ble_eq_true rfl, Nat.le_of_ble_eq_true rfl⟩ d_CG_firstBit_10) (fun r14 M13 hw H locs w => ?_)
      show W p l e _ s m _ below meth c H locs 0 0 _ (F0 m 13 ls [.int (Int32.ofInt r14)])
      obtain ⟨h15, hw⟩ := hw
      refine fi_if_eq F d_CG_firstBit_13 (tgt := 18) (by decide) h15 (fun hc16 => ?_) (fun hc16 => ?_)
      · have hw := hw.1 hc16
        refine fi_iinc (k := 1) (v := (v1 + 1)) F d_CG_firstBit_18 hl rfl rfl (by decide) rfl (fun ls hl => ?_)
        have hl : lv_has ls 2 [(1, .int (Int32.ofInt (v1 + 1))), (0, .int (Int32.ofInt a0))] := hl
        refine lv_goto F.1 F.2.1 d_CG_firstBit_21 (tgt := 2) (by decide) ?_
        exact hJ_2 M13 (v1 + 1) hw H locs ls w (lv_sub hl [1, 0] rfl)
      · have hw := hw.2 hc16
        refine lv_iload_n F.1 F.2.1 d_CG_firstBit_16 rfl (lv_at hl 1 rfl) ?_
        exact fx_iret F w hr hlk hw d_CG_firstBit_17
  have blk_2 : ∀ (M : fm_M) (v1 : Int), B_CG_firstBit_2 a0 post thr M v1 → fx_G p l e { frames := 1, cells := 1, slots := 6, locals := 21 } s m ([.int (Int32.ofInt a0)] : List Value).toArray below meth c D ad cA n0 0 post thr 2 M [(0, .int (Int32.ofInt a0)), (1, .int (Int32.ofInt v1))] 2 [] := by
    intro M v1 hw
    obtain ⟨I, μ, hI, hB⟩ := hw
    have key : ∀ (q : Nat) (M : fm_M) (v1 : Int), μ M v1 < q → I M v1 → fx_G p l e { frames := 1, cells := 1, slots := 6, locals := 21 } s m ([.int (Int32.ofInt a0)] : List Value).toArray below meth c D ad cA n0 0 post thr 2 M [(0, .int (Int32.ofInt a0)), (1, .int (Int32.ofInt v1))] 2 [] := by
      intro q
      induction q with
      | zero => intro M v1 h _; exact absurd h (Nat.not_lt_zero _)
      | succ q ih =>
        intro M v1 hμ hI
        exact blc_2 (fun M' v1' => I M' v1' ∧ μ M' v1' < μ M v1) M v1 (hB M v1 hI) (fun M' v1' hh => ih M' v1' (Nat.lt_of_lt_of_le hh.2 (Nat.le_of_lt_succ hμ)) hh.1)
    exact key _ M v1 (Nat.lt_succ_self _) hI
  have hl : lv_has ls 2 [(0, .int (Int32.ofInt a0))] := hl
  suffices h9 : fx_G p l e { frames := 1, cells := 1, slots := 6, locals := 21 } s m ([.int (Int32.ofInt a0)] : List Value).toArray below meth c D ad cA n0 0 post thr 2 M [(0, .int (Int32.ofInt a0))] 0 [] from h9 _ _ _ w hl
  intro H locs ls w hl
  refine lv_iconst (v := Int32.ofInt 0) F.1 F.2.1 d_CG_firstBit_0 (by decide) ?_
  refine lv_istore_n F.1 F.2.1 d_CG_firstBit_1 rfl hl (by decide) rfl (fun ls hl => ?_)
  have hl : lv_has ls 2 [(1, .int (Int32.ofInt 0)), (0, .int (Int32.ofInt a0))] := hl
  exact blk_2 M 0 hw H locs ls w (lv_sub hl [1, 0] rfl)
set_option maxHeartbeats 4000000 in
set_option maxRecDepth 100000 in
theorem met_Va_chooseFirst (l : Launch) (hst9 : l.stackTraces = false) (D : va_G) (ad : Nat → Nat) (cA : Nat → ClassId) (n0 : Nat) (M : fm_M) (post : Int → fm_M → Prop) (thr : String → fm_M → Prop) (hw : wp_Va_chooseFirst M post thr) : fx_Met l y_Va_chooseFirst (Cond.code y_Va_chooseFirst b_Va_chooseFirst 2 none :: tb) { frames := 4, cells := 1, slots := 6, locals := 93 } [.ref (ad 141)] D ad cA n0 M 3 post thr := by
  refine fx_met (by decide) (Nat.le_of_ble_eq_true rfl) (fun p e s m below meth c ls F w hno hr hlk hl => ?_)
  have blk_110 : ∀ (J_60 : (fm_M → Int → Prop)) (M : fm_M) (v1 : Int) (s0 : Int) (s1 : Int), B_Va_chooseFirst_110 post thr J_60 M v1 s0 s1 → (∀ (M : fm_M) (v1 : Int), J_60 M v1 → fx_G p l e { frames := 4, cells := 1, slots := 6, locals := 93 } s m ([.ref (ad 141)] : List Value).toArray below meth c D ad cA n0 3 post thr 2 M [(0, .ref (ad 141)), (1, .int (Int32.ofInt v1))] 60 []) → fx_G p l e { frames := 4, cells := 1, slots := 6, locals := 93 } s m ([.ref (ad 141)] : List Value).toArray below meth c D ad cA n0 3 post thr 2 M [(0, .ref (ad 141)), (1, .int (Int32.ofInt v1))] 110 [.int (Int32.ofInt s0), .int (Int32.ofInt s1), .ref (ad 323)] := by
    intro J_60 M v1 s0 s1 hw hJ_60 H locs ls w hl
    obtain ⟨h44, hw⟩ := hw
    refine fm_sI F w 323 T_323 (by decide) h44  d_Va_chooseFirst_110 (fun M45 hM45 H locs w => ?_)
    have hw := hw M45 hM45
    refine fi_iinc (k := 1) (v := (v1 + 1)) F d_Va_chooseFirst_111 hl rfl rfl (by decide) rfl (fun ls hl => ?_)
    have hl : lv_has ls 2 [(1, .int (Int32.ofInt (v1 + 1))), (0, .ref (ad 141))] := hl
    refine lv_goto F.1 F.2.1 d_Va_chooseFirst_114 (tgt := 60) (by decide) ?_
    exact hJ_60 M45 (v1 + 1) hw H locs ls w (lv_sub hl [1, 0] rfl)
  have blc_60 : ∀ (J_60 : (fm_M → Int → Prop)) (M : fm_M) (v1 : Int), C_Va_chooseFirst_60 post thr J_60 M v1 → (∀ (M : fm_M) (v1 : Int), J_60 M v1 → fx_G p l e { frames := 4, cells := 1, slots := 6, locals := 93 } s m ([.ref (ad 141)] : List Value).toArray below meth c D ad cA n0 3 post thr 2 M [(0, .ref (ad 141)), (1, .int (Int32.ofInt v1))] 60 []) → fx_G p l e { frames := 4, cells := 1, slots := 6, locals := 93 } s m ([.ref (ad 141)] : List Value).toArray below meth c D ad cA n0 3 post thr 2 M [(0, .ref (ad 141)), (1, .int (Int32.ofInt v1))] 60 [] := by
    intro J_60 M v1 hw hJ_60 H locs ls w hl
    refine lv_iload_n F.1 F.2.1 d_Va_chooseFirst_60 rfl (lv_at hl 1 rfl) ?_
    refine lv_aload_n F.1 F.2.1 d_Va_chooseFirst_61 rfl (lv_at hl 0 rfl) ?_
    refine fm_gO F w cl_Va 141 0 142 T_141 (by decide) rfl rfl k_285 d_Va_chooseFirst_62 ?_
    refine fm_gI F w cl_Fo 142 1 T_142 (by decide) rfl k_206 d_Va_chooseFirst_65 ?_
    obtain ⟨h46, hw⟩ := hw
    obtain ⟨h47, hw⟩ := hw
    refine fi_icmp_ge F d_Va_chooseFirst_68 (tgt := 117) (by decide) h46 h47 (fun hc48 => ?_) (fun hc48 => ?_)
    · have hw := hw.1 hc48
      exact fx_vret F w hr hlk hw d_Va_chooseFirst_117
    · have hw := hw.2 hc48
      refine lv_aload_n F.1 F.2.1 d_Va_chooseFirst_71 rfl (lv_at hl 0 rfl) ?_
      refine fm_gO F w cl_Va 141 3 323 T_141 (by decide) rfl rfl k_289 d_Va_chooseFirst_72 ?_
      refine lv_iload_n F.1 F.2.1 d_Va_chooseFirst_75 rfl (lv_at hl 1 rfl) ?_
      refine lv_aload_n F.1 F.2.1 d_Va_chooseFirst_76 rfl (lv_at hl 0 rfl) ?_
      refine fm_gO F w cl_Va 141 0 142 T_141 (by decide) rfl rfl k_285 d_Va_chooseFirst_77 ?_
      refine lv_iload_n F.1 F.2.1 d_Va_chooseFirst_80 rfl (lv_at hl 1 rfl) ?_
      refine fx_c w hno hlk (fx_rV (As := [.int (Int32.ofInt v1)]) (rest := [.int (Int32.ofInt v1), .ref (ad 323)]) F w cl_Fo 142 T_142 (met_Fo_isOfMax l hst9 D ad cA n0 M v1 _ thr hw) e_Fo_isOfMax ki_Fo_isOfMax ks_Fo_isOfMax k_699 rfl hl.1 rfl (Nat.le_of_ble_eq_true rfl) ⟨⟨Nat.le_of_ble_eq_true rfl, Nat.le_of_ble_eq_true rfl⟩, Nat.le_of_ble_eq_true rfl, Nat.le_of_ble_eq_true rfl⟩ d_Va_chooseFirst_81) (fun r50 M49 hw H locs w => ?_)
      show W p l e _ s m _ below meth c H locs 0 0 _ (F0 m 84 ls [.int (Int32.ofInt r50), .int (Int32.ofInt v1), .ref (ad 323)])
      obtain ⟨h51, hw⟩ := hw
      refine fi_if_eq F d_Va_chooseFirst_84 (tgt := 99) (by decide) h51 (fun hc52 => ?_) (fun hc52 => ?_)
      · have hw := hw.1 hc52
        refine lv_aload_n F.1 F.2.1 d_Va_chooseFirst_99 rfl (lv_at hl 0 rfl) ?_
        refine fm_gO F w cl_Va 141 0 142 T_141 (by decide) rfl rfl k_285 d_Va_chooseFirst_100 ?_
        refine lv_iload_n F.1 F.2.1 d_Va_chooseFirst_103 rfl (lv_at hl 1 rfl) ?_
        refine fx_c w hno hlk (fx_rV (As := [.int (Int32.ofInt v1)]) (rest := [.int (Int32.ofInt v1), .ref (ad 323)]) F w cl_Fo 142 T_142 (met_Fo_choicesOf l hst9 D ad cA n0 M49 v1 _ thr hw) e_Fo_choicesOf ki_Fo_choicesOf ks_Fo_choicesOf k_680 rfl hl.1 rfl (Nat.le_of_ble_eq_true rfl) ⟨⟨Nat.le_of_ble_eq_true rfl, Nat.le_of_ble_eq_true rfl⟩, Nat.le_of_ble_eq_true rfl, Nat.le_of_ble_eq_true rfl⟩ d_Va_chooseFirst_104) (fun r54 M53 hw H locs w => ?_)
        show W p l e _ s m _ below meth c H locs 0 0 _ (F0 m 107 ls [.int (Int32.ofInt r54), .int (Int32.ofInt v1), .ref (ad 323)])
        refine fx_c w hno hlk (fx_rSN (As := [.int (Int32.ofInt r54)]) (rest := [.int (Int32.ofInt v1), .ref (ad 323)]) F w (met_CG_firstBit l hst9 D ad cA n0 M53 r54 _ thr hw) e_CG_firstBit kt_CG_firstBit k_700 rfl hl.1 rfl (Nat.le_of_ble_eq_true rfl) ⟨⟨Nat.le_of_ble_eq_true rfl, Nat.le_of_ble_eq_true rfl⟩, Nat.le_of_ble_eq_true rfl, Nat.le_of_ble_eq_true rfl⟩ d_Va_chooseFirst_107) (fun r56 M55 hw H locs w => ?_)
        show W p l e _ s m _ below meth c H locs 0 0 _ (F0 m 110 ls [.int (Int32.ofInt r56), .int (Int32.ofInt v1), .ref (ad 323)])
        exact blk_110 J_60 M55 v1 r56 v1 hw hJ_60 H locs ls w (lv_sub hl [0, 1] rfl)
      · have hw := hw.2 hc52
        refine lv_aload_n F.1 F.2.1 d_Va_chooseFirst_87 rfl (lv_at hl 0 rfl) ?_
        refine fm_gO F w cl_Va 141 1 309 T_141 (by decide) rfl rfl k_287 d_Va_chooseFirst_88 ?_
        refine fm_gO F w cl_At 309 1 311 T_309 (by decide) rfl rfl k_257 d_Va_chooseFirst_91 ?_
        refine lv_iload_n F.1 F.2.1 d_Va_chooseFirst_94 rfl (lv_at hl 1 rfl) ?_
        obtain ⟨h57, hw⟩ := hw
        refine fm_aI F w 311 T_311 (by decide) h57 d_Va_chooseFirst_95 ?_
        refine lv_goto F.1 F.2.1 d_Va_chooseFirst_96 (tgt := 110) (by decide) ?_
        exact blk_110 J_60 M49 v1 (M49 311 v1.toNat) v1 hw hJ_60 H locs ls w (lv_sub hl [0, 1] rfl)
  have blk_60 : ∀ (M : fm_M) (v1 : Int), B_Va_chooseFirst_60 post thr M v1 → fx_G p l e { frames := 4, cells := 1, slots := 6, locals := 93 } s m ([.ref (ad 141)] : List Value).toArray below meth c D ad cA n0 3 post thr 2 M [(0, .ref (ad 141)), (1, .int (Int32.ofInt v1))] 60 [] := by
    intro M v1 hw
    obtain ⟨I, μ, hI, hB⟩ := hw
    have key : ∀ (q : Nat) (M : fm_M) (v1 : Int), μ M v1 < q → I M v1 → fx_G p l e { frames := 4, cells := 1, slots := 6, locals := 93 } s m ([.ref (ad 141)] : List Value).toArray below meth c D ad cA n0 3 post thr 2 M [(0, .ref (ad 141)), (1, .int (Int32.ofInt v1))] 60 [] := by
      intro q
      induction q with
      | zero => intro M v1 h _; exact absurd h (Nat.not_lt_zero _)
      | succ q ih =>
        intro M v1 hμ hI
        exact blc_60 (fun M' v1' => I M' v1' ∧ μ M' v1' < μ M v1) M v1 (hB M v1 hI) (fun M' v1' hh => ih M' v1' (Nat.lt_of_lt_of_le hh.2 (Nat.le_of_lt_succ hμ)) hh.1)
    exact key _ M v1 (Nat.lt_succ_self _) hI
  have blc_2 : ∀ (J_2 : (fm_M → Int → Prop)) (M : fm_M) (v1 : Int), C_Va_chooseFirst_2 post thr J_2 M v1 → (∀ (M : fm_M) (v1 : Int), J_2 M v1 → fx_G p l e { frames := 4, cells := 1, slots := 6, locals := 93 } s m ([.ref (ad 141)] : List Value).toArray below meth c D ad cA n0 3 post thr 2 M [(0, .ref (ad 141)), (1, .int (Int32.ofInt v1))] 2 []) → fx_G p l e { frames := 4, cells := 1, slots := 6, locals := 93 } s m ([.ref (ad 141)] : List Value).toArray below meth c D ad cA n0 3 post thr 2 M [(0, .ref (ad 141)), (1, .int (Int32.ofInt v1))] 2 [] := by
    intro J_2 M v1 hw hJ_2 H locs ls w hl
    refine lv_iload_n F.1 F.2.1 d_Va_chooseFirst_2 rfl (lv_at hl 1 rfl) ?_
    refine lv_aload_n F.1 F.2.1 d_Va_chooseFirst_3 rfl (lv_at hl 0 rfl) ?_
    refine fm_gO F w cl_Va 141 0 142 T_141 (by decide) rfl rfl k_285 d_Va_chooseFirst_4 ?_
    refine fm_gI F w cl_Fo 142 1 T_142 (by decide) rfl k_206 d_Va_chooseFirst_7 ?_
    obtain ⟨h58, hw⟩ := hw
    obtain ⟨h59, hw⟩ := hw
    refine fi_icmp_ge F d_Va_chooseFirst_10 (tgt := 36) (by decide) h58 h59 (fun hc60 => ?_) (fun hc60 => ?_)
    · have hw := hw.1 hc60
      refine lv_aload_n F.1 F.2.1 d_Va_chooseFirst_36 rfl (lv_at hl 0 rfl) ?_
      refine lv_aload_n F.1 F.2.1 d_Va_chooseFirst_37 rfl (lv_at hl 0 rfl) ?_
      refine fm_gO F w cl_Va 141 1 309 T_141 (by decide) rfl rfl k_287 d_Va_chooseFirst_38 ?_
      refine lv_aload_n F.1 F.2.1 d_Va_chooseFirst_41 rfl (lv_at hl 0 rfl) ?_
      refine fm_gO F w cl_Va 141 0 142 T_141 (by decide) rfl rfl k_285 d_Va_chooseFirst_42 ?_
      refine lv_aload_n F.1 F.2.1 d_Va_chooseFirst_45 rfl (lv_at hl 0 rfl) ?_
      refine fm_gO F w cl_Va 141 0 142 T_141 (by decide) rfl rfl k_285 d_Va_chooseFirst_46 ?_
      refine fm_gI F w cl_Fo 142 3 T_142 (by decide) rfl k_212 d_Va_chooseFirst_49 ?_
      refine fx_c w hno hlk (fx_rV (As := [.ref (ad 142), .int (Int32.ofInt (M 142 3))]) (rest := [.ref (ad 141)]) F w cl_At 309 T_309 (met_At_drawnTo l hst9 D ad cA n0 M 309 (M 142 3) _ thr hw) e_At_drawnTo ki_At_drawnTo ks_At_drawnTo k_681 rfl hl.1 rfl (Nat.le_of_ble_eq_true rfl) ⟨⟨Nat.le_of_ble_eq_true rfl, Nat.le_of_ble_eq_true rfl⟩, Nat.le_of_ble_eq_true rfl, Nat.le_of_ble_eq_true rfl⟩ d_Va_chooseFirst_52) (fun r62 M61 hw H locs w => ?_)
      show W p l e _ s m _ below meth c H locs 0 0 _ (F0 m 55 ls [.int (Int32.ofInt r62), .ref (ad 141)])
      refine fm_pI F w cl_Va 141 4 T_141 (by decide) rfl k_290 rfl rfl d_Va_chooseFirst_55 (fun M63 hM63 H locs w => ?_)
      have hw := hw M63 hM63
      refine lv_iconst (v := Int32.ofInt 0) F.1 F.2.1 d_Va_chooseFirst_58 (by decide) ?_
      refine lv_istore_n F.1 F.2.1 d_Va_chooseFirst_59 rfl hl (by decide) rfl (fun ls hl => ?_)
      have hl : lv_has ls 2 [(1, .int (Int32.ofInt 0)), (0, .ref (ad 141))] := hl
      exact blk_60 M63 0 hw H locs ls w (lv_sub hl [1, 0] rfl)
    · have hw := hw.2 hc60
      refine lv_aload_n F.1 F.2.1 d_Va_chooseFirst_13 rfl (lv_at hl 0 rfl) ?_
      refine fm_gO F w cl_Va 141 1 309 T_141 (by decide) rfl rfl k_287 d_Va_chooseFirst_14 ?_
      refine fm_gO F w cl_At 309 0 310 T_309 (by decide) rfl rfl k_255 d_Va_chooseFirst_17 ?_
      refine lv_iload_n F.1 F.2.1 d_Va_chooseFirst_20 rfl (lv_at hl 1 rfl) ?_
      refine lv_aload_n F.1 F.2.1 d_Va_chooseFirst_21 rfl (lv_at hl 0 rfl) ?_
      refine fm_gO F w cl_Va 141 0 142 T_141 (by decide) rfl rfl k_285 d_Va_chooseFirst_22 ?_
      refine lv_iload_n F.1 F.2.1 d_Va_chooseFirst_25 rfl (lv_at hl 1 rfl) ?_
      refine fx_c w hno hlk (fx_rV (As := [.int (Int32.ofInt v1)]) (rest := [.int (Int32.ofInt v1), .ref (ad 310)]) F w cl_Fo 142 T_142 (met_Fo_choicesOf l hst9 D ad cA n0 M v1 _ thr hw) e_Fo_choicesOf ki_Fo_choicesOf ks_Fo_choicesOf k_680 rfl hl.1 rfl (Nat.le_of_ble_eq_true rfl) ⟨⟨Nat.le_of_ble_eq_true rfl, Nat.le_of_ble_eq_true rfl⟩, Nat.le_of_ble_eq_true rfl, Nat.le_of_ble_eq_true rfl⟩ d_Va_chooseFirst_26) (fun r65 M64 hw H locs w => ?_)
      show W p l e _ s m _ below meth c H locs 0 0 _ (F0 m 29 ls [.int (Int32.ofInt r65), .int (Int32.ofInt v1), .ref (ad 310)])
      obtain ⟨h66, hw⟩ := hw
      refine fm_sI F w 310 T_310 (by decide) h66  d_Va_chooseFirst_29 (fun M67 hM67 H locs w => ?_)
      have hw := hw M67 hM67
      refine fi_iinc (k := 1) (v := (v1 + 1)) F d_Va_chooseFirst_30 hl rfl rfl (by decide) rfl (fun ls hl => ?_)
      have hl : lv_has ls 2 [(1, .int (Int32.ofInt (v1 + 1))), (0, .ref (ad 141))] := hl
      refine lv_goto F.1 F.2.1 d_Va_chooseFirst_33 (tgt := 2) (by decide) ?_
      exact hJ_2 M67 (v1 + 1) hw H locs ls w (lv_sub hl [1, 0] rfl)
  have blk_2 : ∀ (M : fm_M) (v1 : Int), B_Va_chooseFirst_2 post thr M v1 → fx_G p l e { frames := 4, cells := 1, slots := 6, locals := 93 } s m ([.ref (ad 141)] : List Value).toArray below meth c D ad cA n0 3 post thr 2 M [(0, .ref (ad 141)), (1, .int (Int32.ofInt v1))] 2 [] := by
    intro M v1 hw
    obtain ⟨I, μ, hI, hB⟩ := hw
    have key : ∀ (q : Nat) (M : fm_M) (v1 : Int), μ M v1 < q → I M v1 → fx_G p l e { frames := 4, cells := 1, slots := 6, locals := 93 } s m ([.ref (ad 141)] : List Value).toArray below meth c D ad cA n0 3 post thr 2 M [(0, .ref (ad 141)), (1, .int (Int32.ofInt v1))] 2 [] := by
      intro q
      induction q with
      | zero => intro M v1 h _; exact absurd h (Nat.not_lt_zero _)
      | succ q ih =>
        intro M v1 hμ hI
        exact blc_2 (fun M' v1' => I M' v1' ∧ μ M' v1' < μ M v1) M v1 (hB M v1 hI) (fun M' v1' hh => ih M' v1' (Nat.lt_of_lt_of_le hh.2 (Nat.le_of_lt_succ hμ)) hh.1)
    exact key _ M v1 (Nat.lt_succ_self _) hI
  have hl : lv_has ls 2 [(0, .ref (ad 141))] := hl
  suffices h9 : fx_G p l e { frames := 4, cells := 1, slots := 6, locals := 93 } s m ([.ref (ad 141)] : List Value).toArray below meth c D ad cA n0 3 post thr 2 M [(0, .ref (ad 141))] 0 [] from h9 _ _ _ w hl
  intro H locs ls w hl
  refine lv_iconst (v := Int32.ofInt 0) F.1 F.2.1 d_Va_chooseFirst_0 (by decide) ?_
  refine lv_istore_n F.1 F.2.1 d_Va_chooseFirst_1 rfl hl (by decide) rfl (fun ls hl => ?_)
  have hl : lv_has ls 2 [(1, .int (Int32.ofInt 0)), (0, .ref (ad 141))] := hl
  exact blk_2 M 0 hw H locs ls w (lv_sub hl [1, 0] rfl)
set_option maxHeartbeats 4000000 in
set_option maxRecDepth 100000 in
theorem met_Eq_clear (l : Launch) (hst9 : l.stackTraces = false) (D : va_G) (ad : Nat → Nat) (cA : Nat → ClassId) (n0 : Nat) (M : fm_M) (post : Int → fm_M → Prop) (thr : String → fm_M → Prop) (hw : wp_Eq_clear M post thr) : fx_Met l y_Eq_clear (Cond.code y_Eq_clear b_Eq_clear 3 none :: tb) { frames := 0, cells := 1, slots := 6, locals := 0 } [.ref (ad 312)] D ad cA n0 M 3 post thr := by
  refine fx_met (by decide) (Nat.le_of_ble_eq_true rfl) (fun p e s m below meth c ls F w hno hr hlk hl => ?_)
  have blc_10 : ∀ (J_2 : (fm_M → Int → Prop)) (J_10 : (fm_M → Int → Int → Prop)) (M : fm_M) (v1 : Int) (v2 : Int), C_Eq_clear_10 post thr J_2 J_10 M v1 v2 → (∀ (M : fm_M) (v1 : Int), J_2 M v1 → fx_G p l e { frames := 0, cells := 1, slots := 6, locals := 0 } s m ([.ref (ad 312)] : List Value).toArray below meth c D ad cA n0 3 post thr 3 M [(0, .ref (ad 312)), (1, .int (Int32.ofInt v1))] 2 []) → (∀ (M : fm_M) (v1 : Int) (v2 : Int), J_10 M v1 v2 → fx_G p l e { frames := 0, cells := 1, slots := 6, locals := 0 } s m ([.ref (ad 312)] : List Value).toArray below meth c D ad cA n0 3 post thr 3 M [(0, .ref (ad 312)), (1, .int (Int32.ofInt v1)), (2, .int (Int32.ofInt v2))] 10 []) → fx_G p l e { frames := 0, cells := 1, slots := 6, locals := 0 } s m ([.ref (ad 312)] : List Value).toArray below meth c D ad cA n0 3 post thr 3 M [(0, .ref (ad 312)), (1, .int (Int32.ofInt v1)), (2, .int (Int32.ofInt v2))] 10 [] := by
    intro J_2 J_10 M v1 v2 hw hJ_2 hJ_10 H locs ls w hl
    refine lv_iload_n F.1 F.2.1 d_Eq_clear_10 rfl (lv_at hl 2 rfl) ?_
    refine lv_bipush (v := Int32.ofInt 8) F.1 F.2.1 d_Eq_clear_11 (by decide) ?_
    obtain ⟨h14, hw⟩ := hw
    refine fi_icmp_gt F d_Eq_clear_13 (tgt := 31) (by decide) h14 (rgl (by decide)) (fun hc15 => ?_) (fun hc15 => ?_)
    · have hw := hw.1 hc15
      refine fi_iinc (k := 1) (v := (v1 + 1)) F d_Eq_clear_31 hl rfl rfl (by decide) rfl (fun ls hl => ?_)
      have hl : lv_has ls 3 [(1, .int (Int32.ofInt (v1 + 1))), (0, .ref (ad 312)), (2, .int (Int32.ofInt v2))] := hl
      refine lv_goto F.1 F.2.1 d_Eq_clear_34 (tgt := 2) (by decide) ?_
      exact hJ_2 M (v1 + 1) hw H locs ls w (lv_sub hl [1, 0] rfl)
    · have hw := hw.2 hc15
      refine lv_aload_n F.1 F.2.1 d_Eq_clear_16 rfl (lv_at hl 0 rfl) ?_
      refine fm_gO F w cl_Eq 312 0 313 T_312 (by decide) rfl rfl k_271 d_Eq_clear_17 ?_
      refine lv_iload_n F.1 F.2.1 d_Eq_clear_20 rfl (lv_at hl 1 rfl) ?_
      obtain ⟨h16, hw⟩ := hw
      refine fm_aR F w 313 1 (313 + 1 + v1.toNat) T_313 rfl (by decide) h16 rfl d_Eq_clear_21 ?_
      refine lv_iload_n F.1 F.2.1 d_Eq_clear_22 rfl (lv_at hl 2 rfl) ?_
      refine lv_lconst (v := Int64.ofInt 0) F.1 F.2.1 d_Eq_clear_23 (by decide) ?_
      obtain ⟨h17, hw⟩ := hw
      obtain ⟨h18, hw⟩ := hw
      refine fm_sL F w (313 + 1 + v1.toNat) h17 (by decide) h18  d_Eq_clear_24 (fun M19 hM19 H locs w => ?_)
      have hw := hw M19 hM19
      refine fi_iinc (k := 2) (v := (v2 + 1)) F d_Eq_clear_25 hl rfl rfl (by decide) rfl (fun ls hl => ?_)
      have hl : lv_has ls 3 [(2, .int (Int32.ofInt (v2 + 1))), (0, .ref (ad 312)), (1, .int (Int32.ofInt v1))] := hl
      refine lv_goto F.1 F.2.1 d_Eq_clear_28 (tgt := 10) (by decide) ?_
      exact hJ_10 M19 v1 (v2 + 1) hw H locs ls w (lv_sub hl [1, 2, 0] rfl)
  have blk_10 : ∀ (J_2 : (fm_M → Int → Prop)) (M : fm_M) (v1 : Int) (v2 : Int), B_Eq_clear_10 post thr J_2 M v1 v2 → (∀ (M : fm_M) (v1 : Int), J_2 M v1 → fx_G p l e { frames := 0, cells := 1, slots := 6, locals := 0 } s m ([.ref (ad 312)] : List Value).toArray below meth c D ad cA n0 3 post thr 3 M [(0, .ref (ad 312)), (1, .int (Int32.ofInt v1))] 2 []) → fx_G p l e { frames := 0, cells := 1, slots := 6, locals := 0 } s m ([.ref (ad 312)] : List Value).toArray below meth c D ad cA n0 3 post thr 3 M [(0, .ref (ad 312)), (1, .int (Int32.ofInt v1)), (2, .int (Int32.ofInt v2))] 10 [] := by
    intro J_2 M v1 v2 hw hJ_2
    obtain ⟨I, μ, hI, hB⟩ := hw
    have key : ∀ (q : Nat) (M : fm_M) (v1 : Int) (v2 : Int), μ M v1 v2 < q → I M v1 v2 → fx_G p l e { frames := 0, cells := 1, slots := 6, locals := 0 } s m ([.ref (ad 312)] : List Value).toArray below meth c D ad cA n0 3 post thr 3 M [(0, .ref (ad 312)), (1, .int (Int32.ofInt v1)), (2, .int (Int32.ofInt v2))] 10 [] := by
      intro q
      induction q with
      | zero => intro M v1 v2 h _; exact absurd h (Nat.not_lt_zero _)
      | succ q ih =>
        intro M v1 v2 hμ hI
        exact blc_10 J_2 (fun M' v1' v2' => I M' v1' v2' ∧ μ M' v1' v2' < μ M v1 v2) M v1 v2 (hB M v1 v2 hI) hJ_2 (fun M' v1' v2' hh => ih M' v1' v2' (Nat.lt_of_lt_of_le hh.2 (Nat.le_of_lt_succ hμ)) hh.1)
    exact key _ M v1 v2 (Nat.lt_succ_self _) hI
  have blc_2 : ∀ (J_2 : (fm_M → Int → Prop)) (M : fm_M) (v1 : Int), C_Eq_clear_2 post thr J_2 M v1 → (∀ (M : fm_M) (v1 : Int), J_2 M v1 → fx_G p l e { frames := 0, cells := 1, slots := 6, locals := 0 } s m ([.ref (ad 312)] : List Value).toArray below meth c D ad cA n0 3 post thr 3 M [(0, .ref (ad 312)), (1, .int (Int32.ofInt v1))] 2 []) → fx_G p l e { frames := 0, cells := 1, slots := 6, locals := 0 } s m ([.ref (ad 312)] : List Value).toArray below meth c D ad cA n0 3 post thr 3 M [(0, .ref (ad 312)), (1, .int (Int32.ofInt v1))] 2 [] := by
    intro J_2 M v1 hw hJ_2 H locs ls w hl
    refine lv_iload_n F.1 F.2.1 d_Eq_clear_2 rfl (lv_at hl 1 rfl) ?_
    refine lv_bipush (v := Int32.ofInt 8) F.1 F.2.1 d_Eq_clear_3 (by decide) ?_
    obtain ⟨h20, hw⟩ := hw
    refine fi_icmp_ge F d_Eq_clear_5 (tgt := 37) (by decide) h20 (rgl (by decide)) (fun hc21 => ?_) (fun hc21 => ?_)
    · have hw := hw.1 hc21
      exact fx_vret F w hr hlk hw d_Eq_clear_37
    · have hw := hw.2 hc21
      refine lv_iconst (v := Int32.ofInt 0) F.1 F.2.1 d_Eq_clear_8 (by decide) ?_
      refine lv_istore_n F.1 F.2.1 d_Eq_clear_9 rfl hl (by decide) rfl (fun ls hl => ?_)
      have hl : lv_has ls 3 [(2, .int (Int32.ofInt 0)), (0, .ref (ad 312)), (1, .int (Int32.ofInt v1))] := hl
      exact blk_10 J_2 M v1 0 hw hJ_2 H locs ls w (lv_sub hl [1, 2, 0] rfl)
  have blk_2 : ∀ (M : fm_M) (v1 : Int), B_Eq_clear_2 post thr M v1 → fx_G p l e { frames := 0, cells := 1, slots := 6, locals := 0 } s m ([.ref (ad 312)] : List Value).toArray below meth c D ad cA n0 3 post thr 3 M [(0, .ref (ad 312)), (1, .int (Int32.ofInt v1))] 2 [] := by
    intro M v1 hw
    obtain ⟨I, μ, hI, hB⟩ := hw
    have key : ∀ (q : Nat) (M : fm_M) (v1 : Int), μ M v1 < q → I M v1 → fx_G p l e { frames := 0, cells := 1, slots := 6, locals := 0 } s m ([.ref (ad 312)] : List Value).toArray below meth c D ad cA n0 3 post thr 3 M [(0, .ref (ad 312)), (1, .int (Int32.ofInt v1))] 2 [] := by
      intro q
      induction q with
      | zero => intro M v1 h _; exact absurd h (Nat.not_lt_zero _)
      | succ q ih =>
        intro M v1 hμ hI
        exact blc_2 (fun M' v1' => I M' v1' ∧ μ M' v1' < μ M v1) M v1 (hB M v1 hI) (fun M' v1' hh => ih M' v1' (Nat.lt_of_lt_of_le hh.2 (Nat.le_of_lt_succ hμ)) hh.1)
    exact key _ M v1 (Nat.lt_succ_self _) hI
  have hl : lv_has ls 3 [(0, .ref (ad 312))] := hl
  suffices h9 : fx_G p l e { frames := 0, cells := 1, slots := 6, locals := 0 } s m ([.ref (ad 312)] : List Value).toArray below meth c D ad cA n0 3 post thr 3 M [(0, .ref (ad 312))] 0 [] from h9 _ _ _ w hl
  intro H locs ls w hl
  refine lv_iconst (v := Int32.ofInt 0) F.1 F.2.1 d_Eq_clear_0 (by decide) ?_
  refine lv_istore_n F.1 F.2.1 d_Eq_clear_1 rfl hl (by decide) rfl (fun ls hl => ?_)
  have hl : lv_has ls 3 [(1, .int (Int32.ofInt 0)), (0, .ref (ad 312))] := hl
  exact blk_2 M 0 hw H locs ls w (lv_sub hl [1, 0] rfl)
set_option maxHeartbeats 4000000 in
set_option maxRecDepth 100000 in
theorem met_Va_isOpen (l : Launch) (hst9 : l.stackTraces = false) (D : va_G) (ad : Nat → Nat) (cA : Nat → ClassId) (n0 : Nat) (M : fm_M) (a1 : Int) (post : Int → fm_M → Prop) (thr : String → fm_M → Prop) (hw : wp_Va_isOpen M a1 post thr) : fx_Met l y_Va_isOpen (Cond.code y_Va_isOpen b_Va_isOpen 2 (some .boolean) :: tb) { frames := 1, cells := 1, slots := 6, locals := 21 } [.ref (ad 141), .int (Int32.ofInt a1)] D ad cA n0 M 0 post thr := by
  refine fx_met (by decide) (Nat.le_of_ble_eq_true rfl) (fun p e s m below meth c ls F w hno hr hlk hl => ?_)
  have hl : lv_has ls 2 [(0, .ref (ad 141)), (1, .int (Int32.ofInt a1))] := hl
  suffices h9 : fx_G p l e { frames := 1, cells := 1, slots := 6, locals := 21 } s m ([.ref (ad 141), .int (Int32.ofInt a1)] : List Value).toArray below meth c D ad cA n0 0 post thr 2 M [(0, .ref (ad 141)), (1, .int (Int32.ofInt a1))] 0 [] from h9 _ _ _ w hl
  intro H locs ls w hl
  refine lv_aload_n F.1 F.2.1 d_Va_isOpen_0 rfl (lv_at hl 0 rfl) ?_
  refine fm_gI F w cl_Va 141 4 T_141 (by decide) rfl k_290 d_Va_isOpen_1 ?_
  refine lv_iload_n F.1 F.2.1 d_Va_isOpen_4 rfl (lv_at hl 1 rfl) ?_
  refine fx_c w hno hlk (fx_rSN (As := [.int (Int32.ofInt (M 141 4)), .int (Int32.ofInt a1)]) (rest := []) F w (met_CG_hasBit l hst9 D ad cA n0 M (M 141 4) a1 _ thr hw) e_CG_hasBit kt_CG_hasBit k_716 rfl hl.1 rfl (Nat.le_of_ble_eq_true rfl) ⟨⟨Nat.le_of_ble_eq_true rfl, Nat.le_of_ble_eq_true rfl⟩, Nat.le_of_ble_eq_true rfl, Nat.le_of_ble_eq_true rfl⟩ d_Va_isOpen_5) (fun r10 M9 hw H locs w => ?_)
  show W p l e _ s m _ below meth c H locs 0 0 _ (F0 m 8 ls [.int (Int32.ofInt r10)])
  obtain ⟨h11, hw⟩ := hw
  refine fi_if_eq F d_Va_isOpen_8 (tgt := 29) (by decide) h11 (fun hc12 => ?_) (fun hc12 => ?_)
  · have hw := hw.1 hc12
    refine lv_iconst (v := Int32.ofInt 0) F.1 F.2.1 d_Va_isOpen_29 (by decide) ?_
    exact fx_zret F w hr hlk (fx_nz (by decide)) hw d_Va_isOpen_30
  · have hw := hw.2 hc12
    refine lv_aload_n F.1 F.2.1 d_Va_isOpen_11 rfl (lv_at hl 0 rfl) ?_
    refine fm_gO F w cl_Va 141 0 142 T_141 (by decide) rfl rfl k_285 d_Va_isOpen_12 ?_
    refine fm_gI F w cl_Fo 142 3 T_142 (by decide) rfl k_212 d_Va_isOpen_15 ?_
    refine lv_iload_n F.1 F.2.1 d_Va_isOpen_18 rfl (lv_at hl 1 rfl) ?_
    refine fx_c w hno hlk (fx_rSN (As := [.int (Int32.ofInt (M9 142 3)), .int (Int32.ofInt a1)]) (rest := []) F w (met_CG_hasBit l hst9 D ad cA n0 M9 (M9 142 3) a1 _ thr hw) e_CG_hasBit kt_CG_hasBit k_716 rfl hl.1 rfl (Nat.le_of_ble_eq_true rfl) ⟨⟨Nat.le_of_ble_eq_true rfl, Nat.le_of_ble_eq_true rfl⟩, Nat.le_of_ble_eq_true rfl, Nat.le_of_ble_eq_true rfl⟩ d_Va_isOpen_19) (fun r14 M13 hw H locs w => ?_)
    show W p l e _ s m _ below meth c H locs 0 0 _ (F0 m 22 ls [.int (Int32.ofInt r14)])
    obtain ⟨h15, hw⟩ := hw
    refine fi_if_ne F d_Va_isOpen_22 (tgt := 29) (by decide) h15 (fun hc16 => ?_) (fun hc16 => ?_)
    · have hw := hw.1 hc16
      refine lv_iconst (v := Int32.ofInt 0) F.1 F.2.1 d_Va_isOpen_29 (by decide) ?_
      exact fx_zret F w hr hlk (fx_nz (by decide)) hw d_Va_isOpen_30
    · have hw := hw.2 hc16
      refine lv_iconst (v := Int32.ofInt 1) F.1 F.2.1 d_Va_isOpen_25 (by decide) ?_
      refine lv_goto F.1 F.2.1 d_Va_isOpen_26 (tgt := 30) (by decide) ?_
      exact fx_zret F w hr hlk (fx_nz (by decide)) hw d_Va_isOpen_30
set_option maxHeartbeats 4000000 in
set_option maxRecDepth 100000 in
theorem met_Fo_next (l : Launch) (hst9 : l.stackTraces = false) (D : va_G) (ad : Nat → Nat) (cA : Nat → ClassId) (n0 : Nat) (M : fm_M) (a1 : Int) (a2 : Int) (a3 : Int) (post : Int → fm_M → Prop) (thr : String → fm_M → Prop) (hw : wp_Fo_next M a1 a2 a3 post thr) : fx_Met l y_Fo_next (Cond.code y_Fo_next b_Fo_next 4 (some .int) :: tb) { frames := 0, cells := 1, slots := 6, locals := 0 } [.ref (ad 142), .int (Int32.ofInt a1), .int (Int32.ofInt a2), .int (Int32.ofInt a3)] D ad cA n0 M 0 post thr := by
  refine fx_met (by decide) (Nat.le_of_ble_eq_true rfl) (fun p e s m below meth c ls F w hno hr hlk hl => ?_)
  have hl : lv_has ls 4 [(0, .ref (ad 142)), (1, .int (Int32.ofInt a1)), (2, .int (Int32.ofInt a2)), (3, .int (Int32.ofInt a3))] := hl
  suffices h9 : fx_G p l e { frames := 0, cells := 1, slots := 6, locals := 0 } s m ([.ref (ad 142), .int (Int32.ofInt a1), .int (Int32.ofInt a2), .int (Int32.ofInt a3)] : List Value).toArray below meth c D ad cA n0 0 post thr 4 M [(0, .ref (ad 142)), (1, .int (Int32.ofInt a1)), (2, .int (Int32.ofInt a2)), (3, .int (Int32.ofInt a3))] 0 [] from h9 _ _ _ w hl
  intro H locs ls w hl
  refine lv_aload_n F.1 F.2.1 d_Fo_next_0 rfl (lv_at hl 0 rfl) ?_
  refine fm_gO F w cl_Fo 142 9 299 T_142 (by decide) rfl rfl k_222 d_Fo_next_1 ?_
  refine lv_iload_n F.1 F.2.1 d_Fo_next_4 rfl (lv_at hl 1 rfl) ?_
  obtain ⟨h4, hw⟩ := hw
  refine fm_aR F w 299 0 (299 + 1 + a1.toNat) T_299 rfl (by decide) h4 rfl d_Fo_next_5 ?_
  refine lv_iload_n F.1 F.2.1 d_Fo_next_6 rfl (lv_at hl 2 rfl) ?_
  refine lv_iconst (v := Int32.ofInt 4) F.1 F.2.1 d_Fo_next_7 (by decide) ?_
  refine fi_imul F d_Fo_next_8 ?_
  refine lv_iload_n F.1 F.2.1 d_Fo_next_9 rfl (lv_at hl 3 rfl) ?_
  refine fi_iadd F d_Fo_next_10 ?_
  obtain ⟨h5, hw⟩ := hw
  obtain ⟨h6, hw⟩ := hw
  refine fm_aI F w (299 + 1 + a1.toNat) h5 (by decide) h6 d_Fo_next_11 ?_
  exact fx_iret F w hr hlk hw d_Fo_next_12
set_option maxHeartbeats 4000000 in
set_option maxRecDepth 100000 in
theorem met_Va_setEquation (l : Launch) (hst9 : l.stackTraces = false) (D : va_G) (ad : Nat → Nat) (cA : Nat → ClassId) (n0 : Nat) (M : fm_M) (k1 : Nat) (a2 : Int) (a3 : Int) (post : Int → fm_M → Prop) (thr : String → fm_M → Prop) (hw : wp_Va_setEquation M k1 a2 a3 post thr) : fx_Met l y_Va_setEquation (Cond.code y_Va_setEquation b_Va_setEquation 6 none :: tb) { frames := 1, cells := 1, slots := 6, locals := 23 } [.ref (ad 141), .ref (ad k1), .int (Int32.ofInt a2), .int (Int32.ofInt a3)] D ad cA n0 M 3 post thr := by
  refine fx_met (by decide) (Nat.le_of_ble_eq_true rfl) (fun p e s m below meth c ls F w hno hr hlk hl => ?_)
  have blc_29 : ∀ (J_29 : (fm_M → Nat → Int → Prop)) (M : fm_M) (c4 : Nat) (v5 : Int), C_Va_setEquation_29 k1 a2 a3 post thr J_29 M c4 v5 → (∀ (M : fm_M) (c4 : Nat) (v5 : Int), J_29 M c4 v5 → fx_G p l e { frames := 1, cells := 1, slots := 6, locals := 23 } s m ([.ref (ad 141), .ref (ad k1), .int (Int32.ofInt a2), .int (Int32.ofInt a3)] : List Value).toArray below meth c D ad cA n0 3 post thr 6 M [(0, .ref (ad 141)), (1, .ref (ad k1)), (2, .int (Int32.ofInt a2)), (3, .int (Int32.ofInt a3)), (4, .ref (ad c4)), (5, .int (Int32.ofInt v5))] 29 []) → fx_G p l e { frames := 1, cells := 1, slots := 6, locals := 23 } s m ([.ref (ad 141), .ref (ad k1), .int (Int32.ofInt a2), .int (Int32.ofInt a3)] : List Value).toArray below meth c D ad cA n0 3 post thr 6 M [(0, .ref (ad 141)), (1, .ref (ad k1)), (2, .int (Int32.ofInt a2)), (3, .int (Int32.ofInt a3)), (4, .ref (ad c4)), (5, .int (Int32.ofInt v5))] 29 [] := by
    intro J_29 M c4 v5 hw hJ_29 H locs ls w hl
    refine lv_iload F.1 F.2.1 d_Va_setEquation_29 (lv_at hl 5 rfl) ?_
    refine lv_aload F.1 F.2.1 d_Va_setEquation_31 (lv_at hl 4 rfl) ?_
    obtain ⟨h33, hw⟩ := hw
    refine fm_gI F w cl_Cm c4 3 h33 (by decide) rfl k_119 d_Va_setEquation_33 ?_
    obtain ⟨h34, hw⟩ := hw
    obtain ⟨h35, hw⟩ := hw
    refine fi_icmp_ge F d_Va_setEquation_36 (tgt := 73) (by decide) h34 h35 (fun hc36 => ?_) (fun hc36 => ?_)
    · have hw := hw.1 hc36
      exact fx_vret F w hr hlk hw d_Va_setEquation_73
    · have hw := hw.2 hc36
      refine lv_aload_n F.1 F.2.1 d_Va_setEquation_39 rfl (lv_at hl 1 rfl) ?_
      refine lv_aload_n F.1 F.2.1 d_Va_setEquation_40 rfl (lv_at hl 0 rfl) ?_
      refine fm_gO F w cl_Va 141 0 142 T_141 (by decide) rfl rfl k_285 d_Va_setEquation_41 ?_
      refine lv_iload_n F.1 F.2.1 d_Va_setEquation_44 rfl (lv_at hl 2 rfl) ?_
      refine lv_iload_n F.1 F.2.1 d_Va_setEquation_45 rfl (lv_at hl 3 rfl) ?_
      refine lv_iload F.1 F.2.1 d_Va_setEquation_46 (lv_at hl 5 rfl) ?_
      refine fx_c w hno hlk (fx_rV (As := [.int (Int32.ofInt a2), .int (Int32.ofInt a3), .int (Int32.ofInt v5)]) (rest := [.ref (ad k1)]) F w cl_Fo 142 T_142 (met_Fo_next l hst9 D ad cA n0 M a2 a3 v5 _ thr hw) e_Fo_next ki_Fo_next ks_Fo_next k_721 rfl hl.1 rfl (Nat.le_of_ble_eq_true rfl) ⟨⟨Nat.le_of_ble_eq_true rfl, Nat.le_of_ble_eq_true rfl⟩, Nat.le_of_ble_eq_true rfl, Nat.le_of_ble_eq_true rfl⟩ d_Va_setEquation_48) (fun r38 M37 hw H locs w => ?_)
      show W p l e _ s m _ below meth c H locs 0 0 _ (F0 m 51 ls [.int (Int32.ofInt r38), .ref (ad k1)])
      refine lv_dup2_11 F.1 F.2.1 d_Va_setEquation_51 rfl rfl ?_
      obtain ⟨h39, hw⟩ := hw
      obtain ⟨h40, hw⟩ := hw
      refine fm_aL F w k1 h39 (fm_szlt h39.1) h40 d_Va_setEquation_52 ?_
      refine lv_aload F.1 F.2.1 d_Va_setEquation_53 (lv_at hl 4 rfl) ?_
      refine fm_gO F w cl_Cm c4 1 (c4 + 4) h33 (by decide) rfl rfl k_111 d_Va_setEquation_55 ?_
      refine lv_iload F.1 F.2.1 d_Va_setEquation_58 (lv_at hl 5 rfl) ?_
      obtain ⟨h41, hw⟩ := hw
      obtain ⟨h42, hw⟩ := hw
      refine fm_aR F w (c4 + 4) 3 ((c4 + 4) + 1 + 2 * v5.toNat) h41 rfl (by decide) h42 rfl d_Va_setEquation_60 ?_
      obtain ⟨h43, hw⟩ := hw
      refine fm_gI F w cl_Br ((c4 + 4) + 1 + 2 * v5.toNat) 1 h43 (by decide) rfl k_99 d_Va_setEquation_61 ?_
      obtain ⟨h44, hw⟩ := hw
      refine fi_wi2l F d_Va_setEquation_64 h44 ?_
      refine fi_lsub F d_Va_setEquation_65 ?_
      refine fm_sL F w k1 h39 (fm_szlt h39.1) h40  d_Va_setEquation_66 (fun M45 hM45 H locs w => ?_)
      have hw := hw M45 hM45
      refine fi_iinc (k := 5) (v := (v5 + 1)) F d_Va_setEquation_67 hl rfl rfl (by decide) rfl (fun ls hl => ?_)
      have hl : lv_has ls 6 [(5, .int (Int32.ofInt (v5 + 1))), (0, .ref (ad 141)), (1, .ref (ad k1)), (2, .int (Int32.ofInt a2)), (3, .int (Int32.ofInt a3)), (4, .ref (ad c4))] := hl
      refine lv_goto F.1 F.2.1 d_Va_setEquation_70 (tgt := 29) (by decide) ?_
      exact hJ_29 M45 c4 (v5 + 1) hw H locs ls w (lv_sub hl [1, 2, 3, 4, 5, 0] rfl)
  have blk_29 : ∀ (M : fm_M) (c4 : Nat) (v5 : Int), B_Va_setEquation_29 k1 a2 a3 post thr M c4 v5 → fx_G p l e { frames := 1, cells := 1, slots := 6, locals := 23 } s m ([.ref (ad 141), .ref (ad k1), .int (Int32.ofInt a2), .int (Int32.ofInt a3)] : List Value).toArray below meth c D ad cA n0 3 post thr 6 M [(0, .ref (ad 141)), (1, .ref (ad k1)), (2, .int (Int32.ofInt a2)), (3, .int (Int32.ofInt a3)), (4, .ref (ad c4)), (5, .int (Int32.ofInt v5))] 29 [] := by
    intro M c4 v5 hw
    obtain ⟨I, μ, hI, hB⟩ := hw
    have key : ∀ (q : Nat) (M : fm_M) (c4 : Nat) (v5 : Int), μ M c4 v5 < q → I M c4 v5 → fx_G p l e { frames := 1, cells := 1, slots := 6, locals := 23 } s m ([.ref (ad 141), .ref (ad k1), .int (Int32.ofInt a2), .int (Int32.ofInt a3)] : List Value).toArray below meth c D ad cA n0 3 post thr 6 M [(0, .ref (ad 141)), (1, .ref (ad k1)), (2, .int (Int32.ofInt a2)), (3, .int (Int32.ofInt a3)), (4, .ref (ad c4)), (5, .int (Int32.ofInt v5))] 29 [] := by
      intro q
      induction q with
      | zero => intro M c4 v5 h _; exact absurd h (Nat.not_lt_zero _)
      | succ q ih =>
        intro M c4 v5 hμ hI
        exact blc_29 (fun M' c4' v5' => I M' c4' v5' ∧ μ M' c4' v5' < μ M c4 v5) M c4 v5 (hB M c4 v5 hI) (fun M' c4' v5' hh => ih M' c4' v5' (Nat.lt_of_lt_of_le hh.2 (Nat.le_of_lt_succ hμ)) hh.1)
    exact key _ M c4 v5 (Nat.lt_succ_self _) hI
  have hl : lv_has ls 6 [(0, .ref (ad 141)), (1, .ref (ad k1)), (2, .int (Int32.ofInt a2)), (3, .int (Int32.ofInt a3))] := hl
  suffices h9 : fx_G p l e { frames := 1, cells := 1, slots := 6, locals := 23 } s m ([.ref (ad 141), .ref (ad k1), .int (Int32.ofInt a2), .int (Int32.ofInt a3)] : List Value).toArray below meth c D ad cA n0 3 post thr 6 M [(0, .ref (ad 141)), (1, .ref (ad k1)), (2, .int (Int32.ofInt a2)), (3, .int (Int32.ofInt a3))] 0 [] from h9 _ _ _ w hl
  intro H locs ls w hl
  refine lv_aload_n F.1 F.2.1 d_Va_setEquation_0 rfl (lv_at hl 0 rfl) ?_
  refine fm_gO F w cl_Va 141 0 142 T_141 (by decide) rfl rfl k_285 d_Va_setEquation_1 ?_
  refine fm_gR F w cl_Fo 142 0 T_142 (by decide) rfl k_200 d_Va_setEquation_4 ?_
  obtain ⟨h46, hw⟩ := hw
  refine fm_gO F w cl_Gm ((M 142 0).toNat) 2 (((M 142 0).toNat) + 3) h46 (by decide) rfl rfl k_143 d_Va_setEquation_7 ?_
  refine lv_iload_n F.1 F.2.1 d_Va_setEquation_10 rfl (lv_at hl 3 rfl) ?_
  obtain ⟨h47, hw⟩ := hw
  obtain ⟨h48, hw⟩ := hw
  refine fm_aR F w (((M 142 0).toNat) + 3) 2 ((((M 142 0).toNat) + 3) + 4 + 13 * a3.toNat) h47 rfl (by decide) h48 rfl d_Va_setEquation_11 ?_
  refine lv_astore F.1 F.2.1 d_Va_setEquation_12 hl (by decide) rfl (fun ls hl => ?_)
  have hl : lv_has ls 6 [(4, .ref (ad ((((M 142 0).toNat) + 3) + 4 + 13 * a3.toNat))), (0, .ref (ad 141)), (1, .ref (ad k1)), (2, .int (Int32.ofInt a2)), (3, .int (Int32.ofInt a3))] := hl
  refine lv_aload_n F.1 F.2.1 d_Va_setEquation_14 rfl (lv_at hl 2 rfl) ?_
  refine lv_iload_n F.1 F.2.1 d_Va_setEquation_15 rfl (lv_at hl 3 rfl) ?_
  refine lv_dup2_11 F.1 F.2.1 d_Va_setEquation_16 rfl rfl ?_
  obtain ⟨h49, hw⟩ := hw
  obtain ⟨h50, hw⟩ := hw
  refine fm_aL F w k1 h49 (fm_szlt h49.1) h50 d_Va_setEquation_17 ?_
  refine lv_aload F.1 F.2.1 d_Va_setEquation_18 (lv_at hl 0 rfl) ?_
  obtain ⟨h51, hw⟩ := hw
  refine fm_gI F w cl_Cm ((((M 142 0).toNat) + 3) + 4 + 13 * a3.toNat) 4 h51 (by decide) rfl k_123 d_Va_setEquation_20 ?_
  obtain ⟨h52, hw⟩ := hw
  refine fi_wi2l F d_Va_setEquation_23 h52 ?_
  refine fi_ladd F d_Va_setEquation_24 ?_
  refine fm_sL F w k1 h49 (fm_szlt h49.1) h50  d_Va_setEquation_25 (fun M53 hM53 H locs w => ?_)
  have hw := hw M53 hM53
  refine lv_iconst (v := Int32.ofInt 0) F.1 F.2.1 d_Va_setEquation_26 (by decide) ?_
  refine lv_istore F.1 F.2.1 d_Va_setEquation_27 hl (by decide) rfl (fun ls hl => ?_)
  have hl : lv_has ls 6 [(5, .int (Int32.ofInt 0)), (4, .ref (ad ((((M 142 0).toNat) + 3) + 4 + 13 * a3.toNat))), (0, .ref (ad 141)), (1, .ref (ad k1)), (2, .int (Int32.ofInt a2)), (3, .int (Int32.ofInt a3))] := hl
  exact blk_29 M53 ((((M 142 0).toNat) + 3) + 4 + 13 * a3.toNat) 0 hw H locs ls w (lv_sub hl [2, 3, 4, 5, 1, 0] rfl)
set_option maxHeartbeats 4000000 in
set_option maxRecDepth 100000 in
theorem met_Va_setEquations (l : Launch) (hst9 : l.stackTraces = false) (D : va_G) (ad : Nat → Nat) (cA : Nat → ClassId) (n0 : Nat) (M : fm_M) (post : Int → fm_M → Prop) (thr : String → fm_M → Prop) (hw : wp_Va_setEquations M post thr) : fx_Met l y_Va_setEquations (Cond.code y_Va_setEquations b_Va_setEquations 2 none :: tb) { frames := 2, cells := 1, slots := 6, locals := 48 } [.ref (ad 141)] D ad cA n0 M 3 post thr := by
  refine fx_met (by decide) (Nat.le_of_ble_eq_true rfl) (fun p e s m below meth c ls F w hno hr hlk hl => ?_)
  have blk_98 : ∀ (J_9 : (fm_M → Int → Prop)) (M : fm_M) (v1 : Int) (s0 : Int) (s1 : Int) (d2 : Nat), B_Va_setEquations_98 post thr J_9 M v1 s0 s1 d2 → (∀ (M : fm_M) (v1 : Int), J_9 M v1 → fx_G p l e { frames := 2, cells := 1, slots := 6, locals := 48 } s m ([.ref (ad 141)] : List Value).toArray below meth c D ad cA n0 3 post thr 2 M [(0, .ref (ad 141)), (1, .int (Int32.ofInt v1))] 9 []) → fx_G p l e { frames := 2, cells := 1, slots := 6, locals := 48 } s m ([.ref (ad 141)] : List Value).toArray below meth c D ad cA n0 3 post thr 2 M [(0, .ref (ad 141)), (1, .int (Int32.ofInt v1))] 98 [.long (Int64.ofInt s0), .int (Int32.ofInt s1), .ref (ad d2)] := by
    intro J_9 M v1 s0 s1 d2 hw hJ_9 H locs ls w hl
    obtain ⟨h43, hw⟩ := hw
    obtain ⟨h44, hw⟩ := hw
    refine fm_sL F w d2 h43 (by decide) h44  d_Va_setEquations_98 (fun M45 hM45 H locs w => ?_)
    have hw := hw M45 hM45
    refine fi_iinc (k := 1) (v := (v1 + 1)) F d_Va_setEquations_99 hl rfl rfl (by decide) rfl (fun ls hl => ?_)
    have hl : lv_has ls 2 [(1, .int (Int32.ofInt (v1 + 1))), (0, .ref (ad 141))] := hl
    refine lv_goto F.1 F.2.1 d_Va_setEquations_102 (tgt := 9) (by decide) ?_
    exact hJ_9 M45 (v1 + 1) hw H locs ls w (lv_sub hl [1, 0] rfl)
  have blc_9 : ∀ (J_9 : (fm_M → Int → Prop)) (M : fm_M) (v1 : Int), C_Va_setEquations_9 post thr J_9 M v1 → (∀ (M : fm_M) (v1 : Int), J_9 M v1 → fx_G p l e { frames := 2, cells := 1, slots := 6, locals := 48 } s m ([.ref (ad 141)] : List Value).toArray below meth c D ad cA n0 3 post thr 2 M [(0, .ref (ad 141)), (1, .int (Int32.ofInt v1))] 9 []) → fx_G p l e { frames := 2, cells := 1, slots := 6, locals := 48 } s m ([.ref (ad 141)] : List Value).toArray below meth c D ad cA n0 3 post thr 2 M [(0, .ref (ad 141)), (1, .int (Int32.ofInt v1))] 9 [] := by
    intro J_9 M v1 hw hJ_9 H locs ls w hl
    refine lv_iload_n F.1 F.2.1 d_Va_setEquations_9 rfl (lv_at hl 1 rfl) ?_
    refine lv_aload_n F.1 F.2.1 d_Va_setEquations_10 rfl (lv_at hl 0 rfl) ?_
    refine fm_gO F w cl_Va 141 0 142 T_141 (by decide) rfl rfl k_285 d_Va_setEquations_11 ?_
    refine fm_gI F w cl_Fo 142 1 T_142 (by decide) rfl k_206 d_Va_setEquations_14 ?_
    obtain ⟨h46, hw⟩ := hw
    obtain ⟨h47, hw⟩ := hw
    refine fi_icmp_ge F d_Va_setEquations_17 (tgt := 105) (by decide) h46 h47 (fun hc48 => ?_) (fun hc48 => ?_)
    · have hw := hw.1 hc48
      exact fx_vret F w hr hlk hw d_Va_setEquations_105
    · have hw := hw.2 hc48
      refine lv_aload_n F.1 F.2.1 d_Va_setEquations_20 rfl (lv_at hl 0 rfl) ?_
      refine lv_iload_n F.1 F.2.1 d_Va_setEquations_21 rfl (lv_at hl 1 rfl) ?_
      refine fx_c w hno hlk (fx_rV (As := [.int (Int32.ofInt v1)]) (rest := []) F w cl_Va 141 T_141 (met_Va_isOpen l hst9 D ad cA n0 M v1 _ thr hw) e_Va_isOpen ki_Va_isOpen ks_Va_isOpen k_712 rfl hl.1 rfl (Nat.le_of_ble_eq_true rfl) ⟨⟨Nat.le_of_ble_eq_true rfl, Nat.le_of_ble_eq_true rfl⟩, Nat.le_of_ble_eq_true rfl, Nat.le_of_ble_eq_true rfl⟩ d_Va_setEquations_22) (fun r50 M49 hw H locs w => ?_)
      show W p l e _ s m _ below meth c H locs 0 0 _ (F0 m 25 ls [.int (Int32.ofInt r50)])
      obtain ⟨h51, hw⟩ := hw
      refine fi_if_eq F d_Va_setEquations_25 (tgt := 51) (by decide) h51 (fun hc52 => ?_) (fun hc52 => ?_)
      · have hw := hw.1 hc52
        refine lv_aload_n F.1 F.2.1 d_Va_setEquations_51 rfl (lv_at hl 0 rfl) ?_
        refine fm_gO F w cl_Va 141 2 312 T_141 (by decide) rfl rfl k_288 d_Va_setEquations_52 ?_
        refine fm_gO F w cl_Eq 312 0 313 T_312 (by decide) rfl rfl k_272 d_Va_setEquations_55 ?_
        refine lv_iload_n F.1 F.2.1 d_Va_setEquations_58 rfl (lv_at hl 1 rfl) ?_
        obtain ⟨h53, hw⟩ := hw
        refine fm_aR F w 313 1 (313 + 1 + v1.toNat) T_313 rfl (by decide) h53 rfl d_Va_setEquations_59 ?_
        refine lv_iload_n F.1 F.2.1 d_Va_setEquations_60 rfl (lv_at hl 1 rfl) ?_
        refine lv_lconst (v := Int64.ofInt 1) F.1 F.2.1 d_Va_setEquations_61 (by decide) ?_
        obtain ⟨h54, hw⟩ := hw
        obtain ⟨h55, hw⟩ := hw
        refine fm_sL F w (313 + 1 + v1.toNat) h54 (by decide) h55  d_Va_setEquations_62 (fun M56 hM56 H locs w => ?_)
        have hw := hw M56 hM56
        refine lv_aload_n F.1 F.2.1 d_Va_setEquations_63 rfl (lv_at hl 0 rfl) ?_
        refine fm_gO F w cl_Va 141 2 312 T_141 (by decide) rfl rfl k_288 d_Va_setEquations_64 ?_
        refine fm_gO F w cl_Eq 312 0 313 T_312 (by decide) rfl rfl k_272 d_Va_setEquations_67 ?_
        refine lv_iload_n F.1 F.2.1 d_Va_setEquations_70 rfl (lv_at hl 1 rfl) ?_
        refine fm_aR F w 313 1 (313 + 1 + v1.toNat) T_313 rfl (by decide) h53 rfl d_Va_setEquations_71 ?_
        refine lv_aload_n F.1 F.2.1 d_Va_setEquations_72 rfl (lv_at hl 0 rfl) ?_
        refine fm_gO F w cl_Va 141 0 142 T_141 (by decide) rfl rfl k_285 d_Va_setEquations_73 ?_
        refine fm_gI F w cl_Fo 142 1 T_142 (by decide) rfl k_206 d_Va_setEquations_76 ?_
        refine lv_aload_n F.1 F.2.1 d_Va_setEquations_79 rfl (lv_at hl 0 rfl) ?_
        refine fm_gO F w cl_Va 141 0 142 T_141 (by decide) rfl rfl k_285 d_Va_setEquations_80 ?_
        refine fm_gI F w cl_Fo 142 3 T_142 (by decide) rfl k_212 d_Va_setEquations_83 ?_
        refine lv_iload_n F.1 F.2.1 d_Va_setEquations_86 rfl (lv_at hl 1 rfl) ?_
        refine fx_c w hno hlk (fx_rSN (As := [.int (Int32.ofInt (M56 142 3)), .int (Int32.ofInt v1)]) (rest := [.int (Int32.ofInt (M56 142 1)), .ref (ad (313 + 1 + v1.toNat))]) F w (met_CG_hasBit l hst9 D ad cA n0 M56 (M56 142 3) v1 _ thr hw) e_CG_hasBit kt_CG_hasBit k_716 rfl hl.1 rfl (Nat.le_of_ble_eq_true rfl) ⟨⟨Nat.le_of_ble_eq_true rfl, Nat.le_of_ble_eq_true rfl⟩, Nat.le_of_ble_eq_true rfl, Nat.le_of_ble_eq_true rfl⟩ d_Va_setEquations_87) (fun r58 M57 hw H locs w => ?_)
        show W p l e _ s m _ below meth c H locs 0 0 _ (F0 m 90 ls [.int (Int32.ofInt r58), .int (Int32.ofInt (M56 142 1)), .ref (ad (313 + 1 + v1.toNat))])
        obtain ⟨h59, hw⟩ := hw
        refine fi_if_eq F d_Va_setEquations_90 (tgt := 97) (by decide) h59 (fun hc60 => ?_) (fun hc60 => ?_)
        · have hw := hw.1 hc60
          refine lv_lconst (v := Int64.ofInt 0) F.1 F.2.1 d_Va_setEquations_97 (by decide) ?_
          exact blk_98 J_9 M57 v1 0 (M56 142 1) (313 + 1 + v1.toNat) hw hJ_9 H locs ls w (lv_sub hl [0, 1] rfl)
        · have hw := hw.2 hc60
          refine lv_lconst (v := Int64.ofInt 1) F.1 F.2.1 d_Va_setEquations_93 (by decide) ?_
          refine lv_goto F.1 F.2.1 d_Va_setEquations_94 (tgt := 98) (by decide) ?_
          exact blk_98 J_9 M57 v1 1 (M56 142 1) (313 + 1 + v1.toNat) hw hJ_9 H locs ls w (lv_sub hl [0, 1] rfl)
      · have hw := hw.2 hc52
        refine lv_aload_n F.1 F.2.1 d_Va_setEquations_28 rfl (lv_at hl 0 rfl) ?_
        refine lv_aload_n F.1 F.2.1 d_Va_setEquations_29 rfl (lv_at hl 0 rfl) ?_
        refine fm_gO F w cl_Va 141 2 312 T_141 (by decide) rfl rfl k_288 d_Va_setEquations_30 ?_
        refine fm_gO F w cl_Eq 312 0 313 T_312 (by decide) rfl rfl k_272 d_Va_setEquations_33 ?_
        refine lv_iload_n F.1 F.2.1 d_Va_setEquations_36 rfl (lv_at hl 1 rfl) ?_
        obtain ⟨h61, hw⟩ := hw
        refine fm_aR F w 313 1 (313 + 1 + v1.toNat) T_313 rfl (by decide) h61 rfl d_Va_setEquations_37 ?_
        refine lv_iload_n F.1 F.2.1 d_Va_setEquations_38 rfl (lv_at hl 1 rfl) ?_
        refine lv_aload_n F.1 F.2.1 d_Va_setEquations_39 rfl (lv_at hl 0 rfl) ?_
        refine fm_gO F w cl_Va 141 3 323 T_141 (by decide) rfl rfl k_289 d_Va_setEquations_40 ?_
        refine lv_iload_n F.1 F.2.1 d_Va_setEquations_43 rfl (lv_at hl 1 rfl) ?_
        refine fm_aI F w 323 T_323 (by decide) h61 d_Va_setEquations_44 ?_
        refine fx_c w hno hlk (fx_rV (As := [.ref (ad (313 + 1 + v1.toNat)), .int (Int32.ofInt v1), .int (Int32.ofInt (M49 323 v1.toNat))]) (rest := []) F w cl_Va 141 T_141 (met_Va_setEquation l hst9 D ad cA n0 M49 (313 + 1 + v1.toNat) v1 (M49 323 v1.toNat) _ thr hw) e_Va_setEquation ki_Va_setEquation ks_Va_setEquation k_717 rfl hl.1 rfl (Nat.le_of_ble_eq_true rfl) ⟨⟨Nat.le_of_ble_eq_true rfl, Nat.le_of_ble_eq_true rfl⟩, Nat.le_of_ble_eq_true rfl, Nat.le_of_ble_eq_true rfl⟩ d_Va_setEquations_45) (fun r63 M62 hw H locs w => ?_)
        refine lv_goto F.1 F.2.1 d_Va_setEquations_48 (tgt := 99) (by decide) ?_
        refine fi_iinc (k := 1) (v := (v1 + 1)) F d_Va_setEquations_99 hl rfl rfl (by decide) rfl (fun ls hl => ?_)
        have hl : lv_has ls 2 [(1, .int (Int32.ofInt (v1 + 1))), (0, .ref (ad 141))] := hl
        refine lv_goto F.1 F.2.1 d_Va_setEquations_102 (tgt := 9) (by decide) ?_
        exact hJ_9 M62 (v1 + 1) hw H locs ls w (lv_sub hl [1, 0] rfl)
  have blk_9 : ∀ (M : fm_M) (v1 : Int), B_Va_setEquations_9 post thr M v1 → fx_G p l e { frames := 2, cells := 1, slots := 6, locals := 48 } s m ([.ref (ad 141)] : List Value).toArray below meth c D ad cA n0 3 post thr 2 M [(0, .ref (ad 141)), (1, .int (Int32.ofInt v1))] 9 [] := by
    intro M v1 hw
    obtain ⟨I, μ, hI, hB⟩ := hw
    have key : ∀ (q : Nat) (M : fm_M) (v1 : Int), μ M v1 < q → I M v1 → fx_G p l e { frames := 2, cells := 1, slots := 6, locals := 48 } s m ([.ref (ad 141)] : List Value).toArray below meth c D ad cA n0 3 post thr 2 M [(0, .ref (ad 141)), (1, .int (Int32.ofInt v1))] 9 [] := by
      intro q
      induction q with
      | zero => intro M v1 h _; exact absurd h (Nat.not_lt_zero _)
      | succ q ih =>
        intro M v1 hμ hI
        exact blc_9 (fun M' v1' => I M' v1' ∧ μ M' v1' < μ M v1) M v1 (hB M v1 hI) (fun M' v1' hh => ih M' v1' (Nat.lt_of_lt_of_le hh.2 (Nat.le_of_lt_succ hμ)) hh.1)
    exact key _ M v1 (Nat.lt_succ_self _) hI
  have hl : lv_has ls 2 [(0, .ref (ad 141))] := hl
  suffices h9 : fx_G p l e { frames := 2, cells := 1, slots := 6, locals := 48 } s m ([.ref (ad 141)] : List Value).toArray below meth c D ad cA n0 3 post thr 2 M [(0, .ref (ad 141))] 0 [] from h9 _ _ _ w hl
  intro H locs ls w hl
  refine lv_aload_n F.1 F.2.1 d_Va_setEquations_0 rfl (lv_at hl 0 rfl) ?_
  refine fm_gO F w cl_Va 141 2 312 T_141 (by decide) rfl rfl k_288 d_Va_setEquations_1 ?_
  refine fx_c w hno hlk (fx_rV (As := []) (rest := []) F w cl_Eq 312 T_312 (met_Eq_clear l hst9 D ad cA n0 M _ thr hw) e_Eq_clear ki_Eq_clear ks_Eq_clear k_708 rfl hl.1 rfl (Nat.le_of_ble_eq_true rfl) ⟨⟨Nat.le_of_ble_eq_true rfl, Nat.le_of_ble_eq_true rfl⟩, Nat.le_of_ble_eq_true rfl, Nat.le_of_ble_eq_true rfl⟩ d_Va_setEquations_4) (fun r65 M64 hw H locs w => ?_)
  refine lv_iconst (v := Int32.ofInt 0) F.1 F.2.1 d_Va_setEquations_7 (by decide) ?_
  refine lv_istore_n F.1 F.2.1 d_Va_setEquations_8 rfl hl (by decide) rfl (fun ls hl => ?_)
  have hl : lv_has ls 2 [(1, .int (Int32.ofInt 0)), (0, .ref (ad 141))] := hl
  exact blk_9 M64 0 hw H locs ls w (lv_sub hl [1, 0] rfl)
set_option maxHeartbeats 4000000 in
set_option maxRecDepth 100000 in
theorem met_Eq_eliminate (l : Launch) (hst9 : l.stackTraces = false) (D : va_G) (ad : Nat → Nat) (cA : Nat → ClassId) (n0 : Nat) (M : fm_M) (a1 : Int) (a2 : Int) (a3 : Int) (post : Int → fm_M → Prop) (thr : String → fm_M → Prop) (hw : wp_Eq_eliminate M a1 a2 a3 post thr) : fx_Met l y_Eq_eliminate (Cond.code y_Eq_eliminate b_Eq_eliminate 9 none :: tb) { frames := 0, cells := 1, slots := 6, locals := 0 } [.ref (ad 312), .int (Int32.ofInt a1), .int (Int32.ofInt a2), .int (Int32.ofInt a3)] D ad cA n0 M 3 post thr := by
  refine fx_met (by decide) (Nat.le_of_ble_eq_true rfl) (fun p e s m below meth c ls F w hno hr hlk hl => ?_)
  have blc_35 : ∀ (J_35 : (fm_M → Int → Int → Int → Prop)) (M : fm_M) (v4 : Int) (v6 : Int) (v8 : Int), C_Eq_eliminate_35 a1 a2 a3 post thr J_35 M v4 v6 v8 → (∀ (M : fm_M) (v4 : Int) (v6 : Int) (v8 : Int), J_35 M v4 v6 v8 → fx_G p l e { frames := 0, cells := 1, slots := 6, locals := 0 } s m ([.ref (ad 312), .int (Int32.ofInt a1), .int (Int32.ofInt a2), .int (Int32.ofInt a3)] : List Value).toArray below meth c D ad cA n0 3 post thr 9 M [(0, .ref (ad 312)), (1, .int (Int32.ofInt a1)), (2, .int (Int32.ofInt a2)), (3, .int (Int32.ofInt a3)), (4, .long (Int64.ofInt v4)), (6, .long (Int64.ofInt v6)), (8, .int (Int32.ofInt v8))] 35 []) → fx_G p l e { frames := 0, cells := 1, slots := 6, locals := 0 } s m ([.ref (ad 312), .int (Int32.ofInt a1), .int (Int32.ofInt a2), .int (Int32.ofInt a3)] : List Value).toArray below meth c D ad cA n0 3 post thr 9 M [(0, .ref (ad 312)), (1, .int (Int32.ofInt a1)), (2, .int (Int32.ofInt a2)), (3, .int (Int32.ofInt a3)), (4, .long (Int64.ofInt v4)), (6, .long (Int64.ofInt v6)), (8, .int (Int32.ofInt v8))] 35 [] := by
    intro J_35 M v4 v6 v8 hw hJ_35 H locs ls w hl
    refine lv_iload F.1 F.2.1 d_Eq_eliminate_35 (lv_at hl 6 rfl) ?_
    refine lv_iload_n F.1 F.2.1 d_Eq_eliminate_37 rfl (lv_at hl 3 rfl) ?_
    obtain ⟨h17, hw⟩ := hw
    obtain ⟨h18, hw⟩ := hw
    refine fi_icmp_gt F d_Eq_eliminate_38 (tgt := 86) (by decide) h17 h18 (fun hc19 => ?_) (fun hc19 => ?_)
    · have hw := hw.1 hc19
      exact fx_vret F w hr hlk hw d_Eq_eliminate_86
    · have hw := hw.2 hc19
      refine lv_aload_n F.1 F.2.1 d_Eq_eliminate_41 rfl (lv_at hl 0 rfl) ?_
      refine fm_gO F w cl_Eq 312 0 313 T_312 (by decide) rfl rfl k_271 d_Eq_eliminate_42 ?_
      refine lv_iload_n F.1 F.2.1 d_Eq_eliminate_45 rfl (lv_at hl 1 rfl) ?_
      obtain ⟨h20, hw⟩ := hw
      refine fm_aR F w 313 1 (313 + 1 + a1.toNat) T_313 rfl (by decide) h20 rfl d_Eq_eliminate_46 ?_
      refine lv_iload F.1 F.2.1 d_Eq_eliminate_47 (lv_at hl 6 rfl) ?_
      refine lv_lload F.1 F.2.1 d_Eq_eliminate_49 (lv_at hl 4 rfl) ?_
      refine lv_aload_n F.1 F.2.1 d_Eq_eliminate_51 rfl (lv_at hl 0 rfl) ?_
      refine fm_gO F w cl_Eq 312 0 313 T_312 (by decide) rfl rfl k_271 d_Eq_eliminate_52 ?_
      refine lv_iload_n F.1 F.2.1 d_Eq_eliminate_55 rfl (lv_at hl 1 rfl) ?_
      refine fm_aR F w 313 1 (313 + 1 + a1.toNat) T_313 rfl (by decide) h20 rfl d_Eq_eliminate_56 ?_
      refine lv_iload F.1 F.2.1 d_Eq_eliminate_57 (lv_at hl 6 rfl) ?_
      obtain ⟨h21, hw⟩ := hw
      obtain ⟨h22, hw⟩ := hw
      refine fm_aL F w (313 + 1 + a1.toNat) h21 (by decide) h22 d_Eq_eliminate_59 ?_
      refine fi_lmul F d_Eq_eliminate_60 ?_
      refine lv_lload F.1 F.2.1 d_Eq_eliminate_61 (lv_at hl 5 rfl) ?_
      refine lv_aload_n F.1 F.2.1 d_Eq_eliminate_63 rfl (lv_at hl 0 rfl) ?_
      refine fm_gO F w cl_Eq 312 0 313 T_312 (by decide) rfl rfl k_271 d_Eq_eliminate_64 ?_
      refine lv_iload_n F.1 F.2.1 d_Eq_eliminate_67 rfl (lv_at hl 2 rfl) ?_
      obtain ⟨h23, hw⟩ := hw
      refine fm_aR F w 313 1 (313 + 1 + a2.toNat) T_313 rfl (by decide) h23 rfl d_Eq_eliminate_68 ?_
      refine lv_iload F.1 F.2.1 d_Eq_eliminate_69 (lv_at hl 6 rfl) ?_
      obtain ⟨h24, hw⟩ := hw
      refine fm_aL F w (313 + 1 + a2.toNat) h24 (by decide) h22 d_Eq_eliminate_71 ?_
      refine fi_lmul F d_Eq_eliminate_72 ?_
      refine fi_lsub F d_Eq_eliminate_73 ?_
      refine lv_aload_n F.1 F.2.1 d_Eq_eliminate_74 rfl (lv_at hl 0 rfl) ?_
      refine fm_gL F w cl_Eq 312 2 T_312 (by decide) rfl k_275 d_Eq_eliminate_75 ?_
      obtain ⟨h25, hw⟩ := hw
      refine fi_ldivW F d_Eq_eliminate_78 (jwl_eq ((v4 * (M (313 + 1 + a1.toNat) v8.toNat)) - (v6 * (M (313 + 1 + a2.toNat) v8.toNat)))) (jwl_eq (M 312 2)) (jwl_rg ((v4 * (M (313 + 1 + a1.toNat) v8.toNat)) - (v6 * (M (313 + 1 + a2.toNat) v8.toNat)))) (jwl_rg (M 312 2)) h25 ?_
      refine fm_sL F w (313 + 1 + a1.toNat) h21 (by decide) h22  d_Eq_eliminate_79 (fun M26 hM26 H locs w => ?_)
      have hw := hw M26 hM26
      refine fi_iinc (k := 6) (v := (v8 + 1)) F d_Eq_eliminate_80 hl rfl rfl (by decide) rfl (fun ls hl => ?_)
      have hl : lv_has ls 9 [(8, .int (Int32.ofInt (v8 + 1))), (0, .ref (ad 312)), (1, .int (Int32.ofInt a1)), (2, .int (Int32.ofInt a2)), (3, .int (Int32.ofInt a3)), (4, .long (Int64.ofInt v4)), (6, .long (Int64.ofInt v6))] := hl
      refine lv_goto F.1 F.2.1 d_Eq_eliminate_83 (tgt := 35) (by decide) ?_
      exact hJ_35 M26 v4 v6 (v8 + 1) hw H locs ls w (lv_sub hl [1, 2, 3, 4, 5, 6, 0] rfl)
  have blk_35 : ∀ (M : fm_M) (v4 : Int) (v6 : Int) (v8 : Int), B_Eq_eliminate_35 a1 a2 a3 post thr M v4 v6 v8 → fx_G p l e { frames := 0, cells := 1, slots := 6, locals := 0 } s m ([.ref (ad 312), .int (Int32.ofInt a1), .int (Int32.ofInt a2), .int (Int32.ofInt a3)] : List Value).toArray below meth c D ad cA n0 3 post thr 9 M [(0, .ref (ad 312)), (1, .int (Int32.ofInt a1)), (2, .int (Int32.ofInt a2)), (3, .int (Int32.ofInt a3)), (4, .long (Int64.ofInt v4)), (6, .long (Int64.ofInt v6)), (8, .int (Int32.ofInt v8))] 35 [] := by
    intro M v4 v6 v8 hw
    obtain ⟨I, μ, hI, hB⟩ := hw
    have key : ∀ (q : Nat) (M : fm_M) (v4 : Int) (v6 : Int) (v8 : Int), μ M v4 v6 v8 < q → I M v4 v6 v8 → fx_G p l e { frames := 0, cells := 1, slots := 6, locals := 0 } s m ([.ref (ad 312), .int (Int32.ofInt a1), .int (Int32.ofInt a2), .int (Int32.ofInt a3)] : List Value).toArray below meth c D ad cA n0 3 post thr 9 M [(0, .ref (ad 312)), (1, .int (Int32.ofInt a1)), (2, .int (Int32.ofInt a2)), (3, .int (Int32.ofInt a3)), (4, .long (Int64.ofInt v4)), (6, .long (Int64.ofInt v6)), (8, .int (Int32.ofInt v8))] 35 [] := by
      intro q
      induction q with
      | zero => intro M v4 v6 v8 h _; exact absurd h (Nat.not_lt_zero _)
      | succ q ih =>
        intro M v4 v6 v8 hμ hI
        exact blc_35 (fun M' v4' v6' v8' => I M' v4' v6' v8' ∧ μ M' v4' v6' v8' < μ M v4 v6 v8) M v4 v6 v8 (hB M v4 v6 v8 hI) (fun M' v4' v6' v8' hh => ih M' v4' v6' v8' (Nat.lt_of_lt_of_le hh.2 (Nat.le_of_lt_succ hμ)) hh.1)
    exact key _ M v4 v6 v8 (Nat.lt_succ_self _) hI
  have hl : lv_has ls 9 [(0, .ref (ad 312)), (1, .int (Int32.ofInt a1)), (2, .int (Int32.ofInt a2)), (3, .int (Int32.ofInt a3))] := hl
  suffices h9 : fx_G p l e { frames := 0, cells := 1, slots := 6, locals := 0 } s m ([.ref (ad 312), .int (Int32.ofInt a1), .int (Int32.ofInt a2), .int (Int32.ofInt a3)] : List Value).toArray below meth c D ad cA n0 3 post thr 9 M [(0, .ref (ad 312)), (1, .int (Int32.ofInt a1)), (2, .int (Int32.ofInt a2)), (3, .int (Int32.ofInt a3))] 0 [] from h9 _ _ _ w hl
  intro H locs ls w hl
  refine lv_aload_n F.1 F.2.1 d_Eq_eliminate_0 rfl (lv_at hl 0 rfl) ?_
  refine fm_gL F w cl_Eq 312 2 T_312 (by decide) rfl k_275 d_Eq_eliminate_1 ?_
  refine lv_lconst (v := Int64.ofInt 0) F.1 F.2.1 d_Eq_eliminate_4 (by decide) ?_
  refine fi_lcmpW F d_Eq_eliminate_5 (jwl_eq (M 312 2)) rfl (jwl_rg (M 312 2)) (rll (by decide)) ?_
  refine fi_if_ne F d_Eq_eliminate_6 (tgt := 10) (by decide) rg_jcmp (fun hc27 => ?_) (fun hc27 => ?_)
  · have hw := hw.1 hc27
    refine lv_aload_n F.1 F.2.1 d_Eq_eliminate_10 rfl (lv_at hl 0 rfl) ?_
    refine fm_gO F w cl_Eq 312 0 313 T_312 (by decide) rfl rfl k_271 d_Eq_eliminate_11 ?_
    refine lv_iload_n F.1 F.2.1 d_Eq_eliminate_14 rfl (lv_at hl 2 rfl) ?_
    obtain ⟨h28, hw⟩ := hw
    refine fm_aR F w 313 1 (313 + 1 + a2.toNat) T_313 rfl (by decide) h28 rfl d_Eq_eliminate_15 ?_
    refine lv_iload_n F.1 F.2.1 d_Eq_eliminate_16 rfl (lv_at hl 2 rfl) ?_
    obtain ⟨h29, hw⟩ := hw
    obtain ⟨h30, hw⟩ := hw
    refine fm_aL F w (313 + 1 + a2.toNat) h29 (by decide) h30 d_Eq_eliminate_17 ?_
    refine lv_lstore F.1 F.2.1 d_Eq_eliminate_18 hl (by decide) rfl (fun ls hl => ?_)
    have hl : lv_has ls 9 [(4, .long (Int64.ofInt (M (313 + 1 + a2.toNat) a2.toNat))), (0, .ref (ad 312)), (1, .int (Int32.ofInt a1)), (2, .int (Int32.ofInt a2)), (3, .int (Int32.ofInt a3))] := hl
    refine lv_aload_n F.1 F.2.1 d_Eq_eliminate_20 rfl (lv_at hl 1 rfl) ?_
    refine fm_gO F w cl_Eq 312 0 313 T_312 (by decide) rfl rfl k_271 d_Eq_eliminate_21 ?_
    refine lv_iload_n F.1 F.2.1 d_Eq_eliminate_24 rfl (lv_at hl 2 rfl) ?_
    obtain ⟨h31, hw⟩ := hw
    refine fm_aR F w 313 1 (313 + 1 + a1.toNat) T_313 rfl (by decide) h31 rfl d_Eq_eliminate_25 ?_
    refine lv_iload_n F.1 F.2.1 d_Eq_eliminate_26 rfl (lv_at hl 3 rfl) ?_
    obtain ⟨h32, hw⟩ := hw
    refine fm_aL F w (313 + 1 + a1.toNat) h32 (by decide) h30 d_Eq_eliminate_27 ?_
    refine lv_lstore F.1 F.2.1 d_Eq_eliminate_28 hl (by decide) rfl (fun ls hl => ?_)
    have hl : lv_has ls 9 [(6, .long (Int64.ofInt (M (313 + 1 + a1.toNat) a2.toNat))), (4, .long (Int64.ofInt (M (313 + 1 + a2.toNat) a2.toNat))), (0, .ref (ad 312)), (1, .int (Int32.ofInt a1)), (2, .int (Int32.ofInt a2)), (3, .int (Int32.ofInt a3))] := hl
    refine lv_iload_n F.1 F.2.1 d_Eq_eliminate_30 rfl (lv_at hl 4 rfl) ?_
    refine lv_iconst (v := Int32.ofInt 1) F.1 F.2.1 d_Eq_eliminate_31 (by decide) ?_
    refine fi_iadd F d_Eq_eliminate_32 ?_
    refine lv_istore F.1 F.2.1 d_Eq_eliminate_33 hl (by decide) rfl (fun ls hl => ?_)
    have hl : lv_has ls 9 [(8, .int (Int32.ofInt (a2 + 1))), (6, .long (Int64.ofInt (M (313 + 1 + a1.toNat) a2.toNat))), (4, .long (Int64.ofInt (M (313 + 1 + a2.toNat) a2.toNat))), (0, .ref (ad 312)), (1, .int (Int32.ofInt a1)), (2, .int (Int32.ofInt a2)), (3, .int (Int32.ofInt a3))] := hl
    exact blk_35 M (M (313 + 1 + a2.toNat) a2.toNat) (M (313 + 1 + a1.toNat) a2.toNat) (a2 + 1) hw H locs ls w (lv_sub hl [3, 4, 5, 6, 2, 1, 0] rfl)
  · have hw := hw.2 hc27
    exact fx_vret F w hr hlk hw d_Eq_eliminate_9
