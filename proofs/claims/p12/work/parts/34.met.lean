set_option maxHeartbeats 4000000 in
set_option maxRecDepth 100000 in
theorem met_Fo_explore (l : Launch) (hst9 : l.stackTraces = false) (D : va_G) (ad : Nat → Nat) (cA : Nat → ClassId) (n0 : Nat) (M : fm_M) (post : Int → fm_M → Prop) (thr : String → fm_M → Prop) (hw : wp_Fo_explore M post thr) : fx_Met l y_Fo_explore (Cond.code y_Fo_explore b_Fo_explore 2 (some .int) :: tb) { frames := 5, cells := 1, slots := 6, locals := 116 } [.ref (ad 142)] D ad cA n0 M 0 post thr := by
  refine fx_met (by decide) (Nat.le_of_ble_eq_true rfl) (fun p e s m below meth c ls F w hno hr hlk hl => ?_)
  have blk_84 : ∀ (J_28 : (fm_M → Int → Prop)) (M : fm_M) (v1 : Int), B_Fo_explore_84 post thr J_28 M v1 → (∀ (M : fm_M) (v1 : Int), J_28 M v1 → fx_G p l e { frames := 5, cells := 1, slots := 6, locals := 116 } s m ([.ref (ad 142)] : List Value).toArray below meth c D ad cA n0 0 post thr 2 M [(0, .ref (ad 142)), (1, .int (Int32.ofInt v1))] 28 []) → fx_G p l e { frames := 5, cells := 1, slots := 6, locals := 116 } s m ([.ref (ad 142)] : List Value).toArray below meth c D ad cA n0 0 post thr 2 M [(0, .ref (ad 142)), (1, .int (Int32.ofInt v1))] 84 [] := by
    intro J_28 M v1 hw hJ_28 H locs ls w hl
    refine lv_aload_n F.1 F.2.1 d_Fo_explore_84 rfl (lv_at hl 0 rfl) ?_
    refine lv_iload_n F.1 F.2.1 d_Fo_explore_85 rfl (lv_at hl 1 rfl) ?_
    refine fx_c w hno hlk (fx_rV (As := [.int (Int32.ofInt v1)]) (rest := []) F w cl_Fo 142 T_142 (met_Fo_findFrom l hst9 D ad cA n0 M v1 _ thr hw) e_Fo_findFrom ki_Fo_findFrom ks_Fo_findFrom k_644 rfl hl.1 rfl (Nat.le_of_ble_eq_true rfl) ⟨⟨Nat.le_of_ble_eq_true rfl, Nat.le_of_ble_eq_true rfl⟩, Nat.le_of_ble_eq_true rfl, Nat.le_of_ble_eq_true rfl⟩ d_Fo_explore_86) (fun r42 M41 hw H locs w => ?_)
    show W p l e _ s m _ below meth c H locs 0 0 _ (F0 m 89 ls [.int (Int32.ofInt r42)])
    obtain ⟨h43, hw⟩ := hw
    refine fi_if_ne F d_Fo_explore_89 (tgt := 95) (by decide) h43 (fun hc44 => ?_) (fun hc44 => ?_)
    · have hw := hw.1 hc44
      refine fi_iinc (k := 1) (v := (v1 + 1)) F d_Fo_explore_95 hl rfl rfl (by decide) rfl (fun ls hl => ?_)
      have hl : lv_has ls 2 [(1, .int (Int32.ofInt (v1 + 1))), (0, .ref (ad 142))] := hl
      refine lv_goto F.1 F.2.1 d_Fo_explore_98 (tgt := 28) (by decide) ?_
      exact hJ_28 M41 (v1 + 1) hw H locs ls w (lv_sub hl [1, 0] rfl)
    · have hw := hw.2 hc44
      refine lv_bipush (v := Int32.ofInt (-3)) F.1 F.2.1 d_Fo_explore_92 (by decide) ?_
      exact fx_iret F w hr hlk hw d_Fo_explore_94
  have blc_28 : ∀ (J_28 : (fm_M → Int → Prop)) (M : fm_M) (v1 : Int), C_Fo_explore_28 post thr J_28 M v1 → (∀ (M : fm_M) (v1 : Int), J_28 M v1 → fx_G p l e { frames := 5, cells := 1, slots := 6, locals := 116 } s m ([.ref (ad 142)] : List Value).toArray below meth c D ad cA n0 0 post thr 2 M [(0, .ref (ad 142)), (1, .int (Int32.ofInt v1))] 28 []) → fx_G p l e { frames := 5, cells := 1, slots := 6, locals := 116 } s m ([.ref (ad 142)] : List Value).toArray below meth c D ad cA n0 0 post thr 2 M [(0, .ref (ad 142)), (1, .int (Int32.ofInt v1))] 28 [] := by
    intro J_28 M v1 hw hJ_28 H locs ls w hl
    refine lv_iload_n F.1 F.2.1 d_Fo_explore_28 rfl (lv_at hl 1 rfl) ?_
    refine lv_bipush (v := Int32.ofInt 8) F.1 F.2.1 d_Fo_explore_29 (by decide) ?_
    obtain ⟨h45, hw⟩ := hw
    refine fi_icmp_ge F d_Fo_explore_31 (tgt := 101) (by decide) h45 (rgl (by decide)) (fun hc46 => ?_) (fun hc46 => ?_)
    · have hw := hw.1 hc46
      refine lv_aload_n F.1 F.2.1 d_Fo_explore_101 rfl (lv_at hl 0 rfl) ?_
      refine fm_gI F w cl_Fo 142 1 T_142 (by decide) rfl k_203 d_Fo_explore_102 ?_
      exact fx_iret F w hr hlk hw d_Fo_explore_105
    · have hw := hw.2 hc46
      refine lv_iload_n F.1 F.2.1 d_Fo_explore_34 rfl (lv_at hl 1 rfl) ?_
      refine lv_aload_n F.1 F.2.1 d_Fo_explore_35 rfl (lv_at hl 0 rfl) ?_
      refine fm_gI F w cl_Fo 142 1 T_142 (by decide) rfl k_203 d_Fo_explore_36 ?_
      obtain ⟨h47, hw⟩ := hw
      refine fi_icmp_ge F d_Fo_explore_39 (tgt := 101) (by decide) h45 h47 (fun hc48 => ?_) (fun hc48 => ?_)
      · have hw := hw.1 hc48
        refine lv_aload_n F.1 F.2.1 d_Fo_explore_101 rfl (lv_at hl 0 rfl) ?_
        refine fm_gI F w cl_Fo 142 1 T_142 (by decide) rfl k_203 d_Fo_explore_102 ?_
        exact fx_iret F w hr hlk hw d_Fo_explore_105
      · have hw := hw.2 hc48
        refine lv_aload_n F.1 F.2.1 d_Fo_explore_42 rfl (lv_at hl 0 rfl) ?_
        refine lv_dup F.1 F.2.1 d_Fo_explore_43 rfl ?_
        refine fm_gI F w cl_Fo 142 4 T_142 (by decide) rfl k_214 d_Fo_explore_44 ?_
        refine lv_iconst (v := Int32.ofInt 1) F.1 F.2.1 d_Fo_explore_47 (by decide) ?_
        refine fi_iadd F d_Fo_explore_48 ?_
        refine fm_pI F w cl_Fo 142 4 T_142 (by decide) rfl k_214 rfl rfl d_Fo_explore_49 (fun M49 hM49 H locs w => ?_)
        have hw := hw M49 hM49
        refine lv_aload_n F.1 F.2.1 d_Fo_explore_52 rfl (lv_at hl 0 rfl) ?_
        refine lv_iload_n F.1 F.2.1 d_Fo_explore_53 rfl (lv_at hl 1 rfl) ?_
        refine fx_c w hno hlk (fx_rV (As := [.int (Int32.ofInt v1)]) (rest := []) F w cl_Fo 142 T_142 (met_Fo_isOfMax l hst9 D ad cA n0 M49 v1 _ thr hw) e_Fo_isOfMax ki_Fo_isOfMax ks_Fo_isOfMax k_643 rfl hl.1 rfl (Nat.le_of_ble_eq_true rfl) ⟨⟨Nat.le_of_ble_eq_true rfl, Nat.le_of_ble_eq_true rfl⟩, Nat.le_of_ble_eq_true rfl, Nat.le_of_ble_eq_true rfl⟩ d_Fo_explore_54) (fun r51 M50 hw H locs w => ?_)
        show W p l e _ s m _ below meth c H locs 0 0 _ (F0 m 57 ls [.int (Int32.ofInt r51)])
        obtain ⟨h52, hw⟩ := hw
        refine fi_if_eq F d_Fo_explore_57 (tgt := 84) (by decide) h52 (fun hc53 => ?_) (fun hc53 => ?_)
        · have hw := hw.1 hc53
          exact blk_84 J_28 M50 v1 hw hJ_28 H locs ls w (lv_sub hl [0, 1] rfl)
        · have hw := hw.2 hc53
          refine lv_aload_n F.1 F.2.1 d_Fo_explore_60 rfl (lv_at hl 0 rfl) ?_
          refine fm_gO F w cl_Fo 142 7 289 T_142 (by decide) rfl rfl k_218 d_Fo_explore_61 ?_
          refine lv_iload_n F.1 F.2.1 d_Fo_explore_64 rfl (lv_at hl 1 rfl) ?_
          obtain ⟨h54, hw⟩ := hw
          refine fm_aI F w 289 T_289 (by decide) h54 d_Fo_explore_65 ?_
          refine lv_aload_n F.1 F.2.1 d_Fo_explore_66 rfl (lv_at hl 0 rfl) ?_
          refine fm_gI F w cl_Fo 142 5 T_142 (by decide) rfl k_215 d_Fo_explore_67 ?_
          refine lv_iconst (v := Int32.ofInt (-1)) F.1 F.2.1 d_Fo_explore_70 (by decide) ?_
          refine fi_ixor F d_Fo_explore_71 ?_
          refine fi_iand F d_Fo_explore_72 ?_
          obtain ⟨h55, hw⟩ := hw
          refine fi_if_eq F d_Fo_explore_73 (tgt := 84) (by decide) h55 (fun hc56 => ?_) (fun hc56 => ?_)
          · have hw := hw.1 hc56
            exact blk_84 J_28 M50 v1 hw hJ_28 H locs ls w (lv_sub hl [0, 1] rfl)
          · have hw := hw.2 hc56
            refine lv_aload_n F.1 F.2.1 d_Fo_explore_76 rfl (lv_at hl 0 rfl) ?_
            refine lv_iload_n F.1 F.2.1 d_Fo_explore_77 rfl (lv_at hl 1 rfl) ?_
            refine fm_pI F w cl_Fo 142 2 T_142 (by decide) rfl k_208 rfl rfl d_Fo_explore_78 (fun M57 hM57 H locs w => ?_)
            have hw := hw M57 hM57
            refine lv_bipush (v := Int32.ofInt (-2)) F.1 F.2.1 d_Fo_explore_81 (by decide) ?_
            exact fx_iret F w hr hlk hw d_Fo_explore_83
  have blk_28 : ∀ (M : fm_M) (v1 : Int), B_Fo_explore_28 post thr M v1 → fx_G p l e { frames := 5, cells := 1, slots := 6, locals := 116 } s m ([.ref (ad 142)] : List Value).toArray below meth c D ad cA n0 0 post thr 2 M [(0, .ref (ad 142)), (1, .int (Int32.ofInt v1))] 28 [] := by
    intro M v1 hw
    obtain ⟨I, μ, hI, hB⟩ := hw
    have key : ∀ (q : Nat) (M : fm_M) (v1 : Int), μ M v1 < q → I M v1 → fx_G p l e { frames := 5, cells := 1, slots := 6, locals := 116 } s m ([.ref (ad 142)] : List Value).toArray below meth c D ad cA n0 0 post thr 2 M [(0, .ref (ad 142)), (1, .int (Int32.ofInt v1))] 28 [] := by
      intro q
      induction q with
      | zero => intro M v1 h _; exact absurd h (Nat.not_lt_zero _)
      | succ q ih =>
        intro M v1 hμ hI
        exact blc_28 (fun M' v1' => I M' v1' ∧ μ M' v1' < μ M v1) M v1 (hB M v1 hI) (fun M' v1' hh => ih M' v1' (Nat.lt_of_lt_of_le hh.2 (Nat.le_of_lt_succ hμ)) hh.1)
    exact key _ M v1 (Nat.lt_succ_self _) hI
  have hl : lv_has ls 2 [(0, .ref (ad 142))] := hl
  suffices h9 : fx_G p l e { frames := 5, cells := 1, slots := 6, locals := 116 } s m ([.ref (ad 142)] : List Value).toArray below meth c D ad cA n0 0 post thr 2 M [(0, .ref (ad 142))] 0 [] from h9 _ _ _ w hl
  intro H locs ls w hl
  refine lv_aload_n F.1 F.2.1 d_Fo_explore_0 rfl (lv_at hl 0 rfl) ?_
  refine fx_c w hno hlk (fx_rV (As := []) (rest := []) F w cl_Fo 142 T_142 (met_Fo_clear l hst9 D ad cA n0 M _ thr hw) e_Fo_clear ki_Fo_clear ks_Fo_clear k_585 rfl hl.1 rfl (Nat.le_of_ble_eq_true rfl) ⟨⟨Nat.le_of_ble_eq_true rfl, Nat.le_of_ble_eq_true rfl⟩, Nat.le_of_ble_eq_true rfl, Nat.le_of_ble_eq_true rfl⟩ d_Fo_explore_1) (fun r59 M58 hw H locs w => ?_)
  refine lv_aload_n F.1 F.2.1 d_Fo_explore_4 rfl (lv_at hl 0 rfl) ?_
  refine lv_aload_n F.1 F.2.1 d_Fo_explore_5 rfl (lv_at hl 0 rfl) ?_
  refine fm_gR F w cl_Fo 142 0 T_142 (by decide) rfl k_198 d_Fo_explore_6 ?_
  obtain ⟨h60, hw⟩ := hw
  refine fx_c w hno hlk (fx_rV (As := []) (rest := [.ref (ad 142)]) F w cl_Gm ((M58 142 0).toNat) h60 (met_Gm_commandsOfMax l hst9 D ad cA n0 M58 ((M58 142 0).toNat) _ thr hw) e_Gm_commandsOfMax ki_Gm_commandsOfMax ks_Gm_commandsOfMax k_617 rfl hl.1 rfl (Nat.le_of_ble_eq_true rfl) ⟨⟨Nat.le_of_ble_eq_true rfl, Nat.le_of_ble_eq_true rfl⟩, Nat.le_of_ble_eq_true rfl, Nat.le_of_ble_eq_true rfl⟩ d_Fo_explore_9) (fun r62 M61 hw H locs w => ?_)
  show W p l e _ s m _ below meth c H locs 0 0 _ (F0 m 12 ls [.int (Int32.ofInt r62), .ref (ad 142)])
  refine fm_pI F w cl_Fo 142 5 T_142 (by decide) rfl k_215 rfl rfl d_Fo_explore_12 (fun M63 hM63 H locs w => ?_)
  have hw := hw M63 hM63
  refine lv_aload_n F.1 F.2.1 d_Fo_explore_15 rfl (lv_at hl 0 rfl) ?_
  refine lv_aload_n F.1 F.2.1 d_Fo_explore_16 rfl (lv_at hl 0 rfl) ?_
  refine fm_gR F w cl_Fo 142 0 T_142 (by decide) rfl k_198 d_Fo_explore_17 ?_
  obtain ⟨h64, hw⟩ := hw
  refine fm_gO F w cl_Gm ((M63 142 0).toNat) 1 (((M63 142 0).toNat) + 2) h64 (by decide) rfl rfl k_140 d_Fo_explore_20 ?_
  refine fx_c w hno hlk (fx_rV (As := [.ref (ad (((M63 142 0).toNat) + 2))]) (rest := []) F w cl_Fo 142 T_142 (met_Fo_add l hst9 D ad cA n0 M63 (((M63 142 0).toNat) + 2) _ thr hw) e_Fo_add ki_Fo_add ks_Fo_add k_621 rfl hl.1 rfl (Nat.le_of_ble_eq_true rfl) ⟨⟨Nat.le_of_ble_eq_true rfl, Nat.le_of_ble_eq_true rfl⟩, Nat.le_of_ble_eq_true rfl, Nat.le_of_ble_eq_true rfl⟩ d_Fo_explore_23) (fun r66 M65 hw H locs w => ?_)
  refine lv_iconst (v := Int32.ofInt 0) F.1 F.2.1 d_Fo_explore_26 (by decide) ?_
  refine lv_istore_n F.1 F.2.1 d_Fo_explore_27 rfl hl (by decide) rfl (fun ls hl => ?_)
  have hl : lv_has ls 2 [(1, .int (Int32.ofInt 0)), (0, .ref (ad 142))] := hl
  exact blk_28 M65 0 hw H locs ls w (lv_sub hl [1, 0] rfl)
set_option maxHeartbeats 4000000 in
set_option maxRecDepth 100000 in
theorem met_Fo_linkCommand (l : Launch) (hst9 : l.stackTraces = false) (D : va_G) (ad : Nat → Nat) (cA : Nat → ClassId) (n0 : Nat) (M : fm_M) (a1 : Int) (a2 : Int) (post : Int → fm_M → Prop) (thr : String → fm_M → Prop) (hw : wp_Fo_linkCommand M a1 a2 post thr) : fx_Met l y_Fo_linkCommand (Cond.code y_Fo_linkCommand b_Fo_linkCommand 6 none :: tb) { frames := 2, cells := 1, slots := 6, locals := 49 } [.ref (ad 142), .int (Int32.ofInt a1), .int (Int32.ofInt a2)] D ad cA n0 M 3 post thr := by
  refine fx_met (by decide) (Nat.le_of_ble_eq_true rfl) (fun p e s m below meth c ls F w hno hr hlk hl => ?_)
  have blc_13 : ∀ (J_13 : (fm_M → Nat → Int → Prop)) (M : fm_M) (c3 : Nat) (v4 : Int), C_Fo_linkCommand_13 a1 a2 post thr J_13 M c3 v4 → (∀ (M : fm_M) (c3 : Nat) (v4 : Int), J_13 M c3 v4 → fx_G p l e { frames := 2, cells := 1, slots := 6, locals := 49 } s m ([.ref (ad 142), .int (Int32.ofInt a1), .int (Int32.ofInt a2)] : List Value).toArray below meth c D ad cA n0 3 post thr 6 M [(0, .ref (ad 142)), (1, .int (Int32.ofInt a1)), (2, .int (Int32.ofInt a2)), (3, .ref (ad c3)), (4, .int (Int32.ofInt v4))] 13 []) → fx_G p l e { frames := 2, cells := 1, slots := 6, locals := 49 } s m ([.ref (ad 142), .int (Int32.ofInt a1), .int (Int32.ofInt a2)] : List Value).toArray below meth c D ad cA n0 3 post thr 6 M [(0, .ref (ad 142)), (1, .int (Int32.ofInt a1)), (2, .int (Int32.ofInt a2)), (3, .ref (ad c3)), (4, .int (Int32.ofInt v4))] 13 [] := by
    intro J_13 M c3 v4 hw hJ_13 H locs ls w hl
    refine lv_iload F.1 F.2.1 d_Fo_linkCommand_13 (lv_at hl 4 rfl) ?_
    refine lv_aload_n F.1 F.2.1 d_Fo_linkCommand_15 rfl (lv_at hl 3 rfl) ?_
    obtain ⟨h42, hw⟩ := hw
    refine fm_gI F w cl_Cm c3 3 h42 (by decide) rfl k_120 d_Fo_linkCommand_16 ?_
    obtain ⟨h43, hw⟩ := hw
    obtain ⟨h44, hw⟩ := hw
    refine fi_icmp_ge F d_Fo_linkCommand_19 (tgt := 98) (by decide) h43 h44 (fun hc45 => ?_) (fun hc45 => ?_)
    · have hw := hw.1 hc45
      exact fx_vret F w hr hlk hw d_Fo_linkCommand_98
    · have hw := hw.2 hc45
      refine lv_aload_n F.1 F.2.1 d_Fo_linkCommand_22 rfl (lv_at hl 0 rfl) ?_
      refine fm_gR F w cl_Fo 142 0 T_142 (by decide) rfl k_198 d_Fo_linkCommand_23 ?_
      refine lv_aload_n F.1 F.2.1 d_Fo_linkCommand_26 rfl (lv_at hl 0 rfl) ?_
      refine fm_gO F w cl_Fo 142 6 280 T_142 (by decide) rfl rfl k_216 d_Fo_linkCommand_27 ?_
      refine lv_iload_n F.1 F.2.1 d_Fo_linkCommand_30 rfl (lv_at hl 1 rfl) ?_
      obtain ⟨h46, hw⟩ := hw
      refine fm_aR F w 280 0 (280 + 1 + a1.toNat) T_280 rfl (by decide) h46 rfl d_Fo_linkCommand_31 ?_
      refine lv_aload_n F.1 F.2.1 d_Fo_linkCommand_32 rfl (lv_at hl 3 rfl) ?_
      refine fm_gO F w cl_Cm c3 1 (c3 + 4) h42 (by decide) rfl rfl k_112 d_Fo_linkCommand_33 ?_
      refine lv_iload F.1 F.2.1 d_Fo_linkCommand_36 (lv_at hl 4 rfl) ?_
      obtain ⟨h47, hw⟩ := hw
      obtain ⟨h48, hw⟩ := hw
      refine fm_aR F w (c3 + 4) 3 ((c3 + 4) + 1 + 2 * v4.toNat) h47 rfl (by decide) h48 rfl d_Fo_linkCommand_38 ?_
      refine lv_aload_n F.1 F.2.1 d_Fo_linkCommand_39 rfl (lv_at hl 0 rfl) ?_
      refine fm_gO F w cl_Fo 142 10 308 T_142 (by decide) rfl rfl k_223 d_Fo_linkCommand_40 ?_
      obtain ⟨h49, hw⟩ := hw
      refine fx_c w hno hlk (fx_rV (As := [.ref (ad (280 + 1 + a1.toNat)), .ref (ad ((c3 + 4) + 1 + 2 * v4.toNat)), .ref (ad 308)]) (rest := []) F w cl_Gm ((M 142 0).toNat) h49 (met_Gm_follow l hst9 D ad cA n0 M ((M 142 0).toNat) (280 + 1 + a1.toNat) ((c3 + 4) + 1 + 2 * v4.toNat) 308 _ thr hw) e_Gm_follow ki_Gm_follow ks_Gm_follow k_649 rfl hl.1 rfl (Nat.le_of_ble_eq_true rfl) ⟨⟨Nat.le_of_ble_eq_true rfl, Nat.le_of_ble_eq_true rfl⟩, Nat.le_of_ble_eq_true rfl, Nat.le_of_ble_eq_true rfl⟩ d_Fo_linkCommand_43) (fun r51 M50 hw H locs w => ?_)
      refine lv_aload_n F.1 F.2.1 d_Fo_linkCommand_46 rfl (lv_at hl 0 rfl) ?_
      refine lv_aload_n F.1 F.2.1 d_Fo_linkCommand_47 rfl (lv_at hl 0 rfl) ?_
      refine fm_gO F w cl_Fo 142 10 308 T_142 (by decide) rfl rfl k_223 d_Fo_linkCommand_48 ?_
      refine fx_c w hno hlk (fx_rV (As := [.ref (ad 308)]) (rest := []) F w cl_Fo 142 T_142 (met_Fo_numberOf l hst9 D ad cA n0 M50 308 _ thr hw) e_Fo_numberOf ki_Fo_numberOf ks_Fo_numberOf k_660 rfl hl.1 rfl (Nat.le_of_ble_eq_true rfl) ⟨⟨Nat.le_of_ble_eq_true rfl, Nat.le_of_ble_eq_true rfl⟩, Nat.le_of_ble_eq_true rfl, Nat.le_of_ble_eq_true rfl⟩ d_Fo_linkCommand_51) (fun r53 M52 hw H locs w => ?_)
      show W p l e _ s m _ below meth c H locs 0 0 _ (F0 m 54 ls [.int (Int32.ofInt r53)])
      refine lv_istore F.1 F.2.1 d_Fo_linkCommand_54 hl (by decide) rfl (fun ls hl => ?_)
      have hl : lv_has ls 6 [(5, .int (Int32.ofInt r53)), (0, .ref (ad 142)), (1, .int (Int32.ofInt a1)), (2, .int (Int32.ofInt a2)), (3, .ref (ad c3)), (4, .int (Int32.ofInt v4))] := hl
      refine lv_aload_n F.1 F.2.1 d_Fo_linkCommand_56 rfl (lv_at hl 1 rfl) ?_
      refine fm_gO F w cl_Fo 142 9 299 T_142 (by decide) rfl rfl k_222 d_Fo_linkCommand_57 ?_
      refine lv_iload_n F.1 F.2.1 d_Fo_linkCommand_60 rfl (lv_at hl 2 rfl) ?_
      refine fm_aR F w 299 0 (299 + 1 + a1.toNat) T_299 rfl (by decide) h46 rfl d_Fo_linkCommand_61 ?_
      refine lv_iload_n F.1 F.2.1 d_Fo_linkCommand_62 rfl (lv_at hl 3 rfl) ?_
      refine lv_iconst (v := Int32.ofInt 4) F.1 F.2.1 d_Fo_linkCommand_63 (by decide) ?_
      refine fi_imul F d_Fo_linkCommand_64 ?_
      refine lv_iload F.1 F.2.1 d_Fo_linkCommand_65 (lv_at hl 5 rfl) ?_
      refine fi_iadd F d_Fo_linkCommand_67 ?_
      refine lv_iload F.1 F.2.1 d_Fo_linkCommand_68 (lv_at hl 0 rfl) ?_
      obtain ⟨h54, hw⟩ := hw
      obtain ⟨h55, hw⟩ := hw
      refine fm_sI F w (299 + 1 + a1.toNat) h54 (by decide) h55  d_Fo_linkCommand_70 (fun M56 hM56 H locs w => ?_)
      have hw := hw M56 hM56
      refine lv_iload F.1 F.2.1 d_Fo_linkCommand_71 (lv_at hl 0 rfl) ?_
      refine lv_iconst (v := Int32.ofInt (-1)) F.1 F.2.1 d_Fo_linkCommand_73 (by decide) ?_
      obtain ⟨h57, hw⟩ := hw
      refine fi_icmp_eq F d_Fo_linkCommand_74 (tgt := 92) (by decide) h57 (rgl (by decide)) (fun hc58 => ?_) (fun hc58 => ?_)
      · have hw := hw.1 hc58
        refine fi_iinc (k := 5) (v := (v4 + 1)) F d_Fo_linkCommand_92 hl rfl rfl (by decide) rfl (fun ls hl => ?_)
        have hl : lv_has ls 6 [(4, .int (Int32.ofInt (v4 + 1))), (5, .int (Int32.ofInt r53)), (0, .ref (ad 142)), (1, .int (Int32.ofInt a1)), (2, .int (Int32.ofInt a2)), (3, .ref (ad c3))] := hl
        refine lv_goto F.1 F.2.1 d_Fo_linkCommand_95 (tgt := 13) (by decide) ?_
        exact hJ_13 M56 c3 (v4 + 1) hw H locs ls w (lv_sub hl [2, 3, 4, 5, 0] rfl)
      · have hw := hw.2 hc58
        refine lv_aload_n F.1 F.2.1 d_Fo_linkCommand_77 rfl (lv_at hl 1 rfl) ?_
        refine fm_gO F w cl_Fo 142 8 290 T_142 (by decide) rfl rfl k_220 d_Fo_linkCommand_78 ?_
        refine lv_iload_n F.1 F.2.1 d_Fo_linkCommand_81 rfl (lv_at hl 2 rfl) ?_
        refine fm_aR F w 290 0 (290 + 1 + a1.toNat) T_290 rfl (by decide) h46 rfl d_Fo_linkCommand_82 ?_
        refine lv_iload_n F.1 F.2.1 d_Fo_linkCommand_83 rfl (lv_at hl 3 rfl) ?_
        refine lv_dup2_11 F.1 F.2.1 d_Fo_linkCommand_84 rfl rfl ?_
        obtain ⟨h59, hw⟩ := hw
        obtain ⟨h60, hw⟩ := hw
        refine fm_aI F w (290 + 1 + a1.toNat) h59 (by decide) h60 d_Fo_linkCommand_85 ?_
        refine lv_iconst (v := Int32.ofInt 1) F.1 F.2.1 d_Fo_linkCommand_86 (by decide) ?_
        refine lv_iload F.1 F.2.1 d_Fo_linkCommand_87 (lv_at hl 0 rfl) ?_
        refine fi_ishl F d_Fo_linkCommand_89 ?_
        refine fi_ior F d_Fo_linkCommand_90 ?_
        refine fm_sI F w (290 + 1 + a1.toNat) h59 (by decide) h60  d_Fo_linkCommand_91 (fun M61 hM61 H locs w => ?_)
        have hw := hw M61 hM61
        refine fi_iinc (k := 5) (v := (v4 + 1)) F d_Fo_linkCommand_92 hl rfl rfl (by decide) rfl (fun ls hl => ?_)
        have hl : lv_has ls 6 [(4, .int (Int32.ofInt (v4 + 1))), (5, .int (Int32.ofInt r53)), (0, .ref (ad 142)), (1, .int (Int32.ofInt a1)), (2, .int (Int32.ofInt a2)), (3, .ref (ad c3))] := hl
        refine lv_goto F.1 F.2.1 d_Fo_linkCommand_95 (tgt := 13) (by decide) ?_
        exact hJ_13 M61 c3 (v4 + 1) hw H locs ls w (lv_sub hl [2, 3, 4, 5, 0] rfl)
  have blk_13 : ∀ (M : fm_M) (c3 : Nat) (v4 : Int), B_Fo_linkCommand_13 a1 a2 post thr M c3 v4 → fx_G p l e { frames := 2, cells := 1, slots := 6, locals := 49 } s m ([.ref (ad 142), .int (Int32.ofInt a1), .int (Int32.ofInt a2)] : List Value).toArray below meth c D ad cA n0 3 post thr 6 M [(0, .ref (ad 142)), (1, .int (Int32.ofInt a1)), (2, .int (Int32.ofInt a2)), (3, .ref (ad c3)), (4, .int (Int32.ofInt v4))] 13 [] := by
    intro M c3 v4 hw
    obtain ⟨I, μ, hI, hB⟩ := hw
    have key : ∀ (q : Nat) (M : fm_M) (c3 : Nat) (v4 : Int), μ M c3 v4 < q → I M c3 v4 → fx_G p l e { frames := 2, cells := 1, slots := 6, locals := 49 } s m ([.ref (ad 142), .int (Int32.ofInt a1), .int (Int32.ofInt a2)] : List Value).toArray below meth c D ad cA n0 3 post thr 6 M [(0, .ref (ad 142)), (1, .int (Int32.ofInt a1)), (2, .int (Int32.ofInt a2)), (3, .ref (ad c3)), (4, .int (Int32.ofInt v4))] 13 [] := by
      intro q
      induction q with
      | zero => intro M c3 v4 h _; exact absurd h (Nat.not_lt_zero _)
      | succ q ih =>
        intro M c3 v4 hμ hI
        exact blc_13 (fun M' c3' v4' => I M' c3' v4' ∧ μ M' c3' v4' < μ M c3 v4) M c3 v4 (hB M c3 v4 hI) (fun M' c3' v4' hh => ih M' c3' v4' (Nat.lt_of_lt_of_le hh.2 (Nat.le_of_lt_succ hμ)) hh.1)
    exact key _ M c3 v4 (Nat.lt_succ_self _) hI
  have hl : lv_has ls 6 [(0, .ref (ad 142)), (1, .int (Int32.ofInt a1)), (2, .int (Int32.ofInt a2))] := hl
  suffices h9 : fx_G p l e { frames := 2, cells := 1, slots := 6, locals := 49 } s m ([.ref (ad 142), .int (Int32.ofInt a1), .int (Int32.ofInt a2)] : List Value).toArray below meth c D ad cA n0 3 post thr 6 M [(0, .ref (ad 142)), (1, .int (Int32.ofInt a1)), (2, .int (Int32.ofInt a2))] 0 [] from h9 _ _ _ w hl
  intro H locs ls w hl
  refine lv_aload_n F.1 F.2.1 d_Fo_linkCommand_0 rfl (lv_at hl 0 rfl) ?_
  refine fm_gR F w cl_Fo 142 0 T_142 (by decide) rfl k_198 d_Fo_linkCommand_1 ?_
  obtain ⟨h62, hw⟩ := hw
  refine fm_gO F w cl_Gm ((M 142 0).toNat) 2 (((M 142 0).toNat) + 3) h62 (by decide) rfl rfl k_144 d_Fo_linkCommand_4 ?_
  refine lv_iload_n F.1 F.2.1 d_Fo_linkCommand_7 rfl (lv_at hl 2 rfl) ?_
  obtain ⟨h63, hw⟩ := hw
  obtain ⟨h64, hw⟩ := hw
  refine fm_aR F w (((M 142 0).toNat) + 3) 2 ((((M 142 0).toNat) + 3) + 4 + 13 * a2.toNat) h63 rfl (by decide) h64 rfl d_Fo_linkCommand_8 ?_
  refine lv_astore_n F.1 F.2.1 d_Fo_linkCommand_9 rfl hl (by decide) rfl (fun ls hl => ?_)
  have hl : lv_has ls 6 [(3, .ref (ad ((((M 142 0).toNat) + 3) + 4 + 13 * a2.toNat))), (0, .ref (ad 142)), (1, .int (Int32.ofInt a1)), (2, .int (Int32.ofInt a2))] := hl
  refine lv_iconst (v := Int32.ofInt 0) F.1 F.2.1 d_Fo_linkCommand_10 (by decide) ?_
  refine lv_istore F.1 F.2.1 d_Fo_linkCommand_11 hl (by decide) rfl (fun ls hl => ?_)
  have hl : lv_has ls 6 [(4, .int (Int32.ofInt 0)), (3, .ref (ad ((((M 142 0).toNat) + 3) + 4 + 13 * a2.toNat))), (0, .ref (ad 142)), (1, .int (Int32.ofInt a1)), (2, .int (Int32.ofInt a2))] := hl
  exact blk_13 M ((((M 142 0).toNat) + 3) + 4 + 13 * a2.toNat) 0 hw H locs ls w (lv_sub hl [2, 3, 4, 1, 0] rfl)
set_option maxHeartbeats 4000000 in
set_option maxRecDepth 100000 in
theorem met_Fo_link (l : Launch) (hst9 : l.stackTraces = false) (D : va_G) (ad : Nat → Nat) (cA : Nat → ClassId) (n0 : Nat) (M : fm_M) (post : Int → fm_M → Prop) (thr : String → fm_M → Prop) (hw : wp_Fo_link M post thr) : fx_Met l y_Fo_link (Cond.code y_Fo_link b_Fo_link 3 none :: tb) { frames := 3, cells := 1, slots := 6, locals := 74 } [.ref (ad 142)] D ad cA n0 M 3 post thr := by
  refine fx_met (by decide) (Nat.le_of_ble_eq_true rfl) (fun p e s m below meth c ls F w hno hr hlk hl => ?_)
  have blc_12 : ∀ (J_2 : (fm_M → Int → Prop)) (J_12 : (fm_M → Int → Int → Prop)) (M : fm_M) (v1 : Int) (v2 : Int), C_Fo_link_12 post thr J_2 J_12 M v1 v2 → (∀ (M : fm_M) (v1 : Int), J_2 M v1 → fx_G p l e { frames := 3, cells := 1, slots := 6, locals := 74 } s m ([.ref (ad 142)] : List Value).toArray below meth c D ad cA n0 3 post thr 3 M [(0, .ref (ad 142)), (1, .int (Int32.ofInt v1))] 2 []) → (∀ (M : fm_M) (v1 : Int) (v2 : Int), J_12 M v1 v2 → fx_G p l e { frames := 3, cells := 1, slots := 6, locals := 74 } s m ([.ref (ad 142)] : List Value).toArray below meth c D ad cA n0 3 post thr 3 M [(0, .ref (ad 142)), (1, .int (Int32.ofInt v1)), (2, .int (Int32.ofInt v2))] 12 []) → fx_G p l e { frames := 3, cells := 1, slots := 6, locals := 74 } s m ([.ref (ad 142)] : List Value).toArray below meth c D ad cA n0 3 post thr 3 M [(0, .ref (ad 142)), (1, .int (Int32.ofInt v1)), (2, .int (Int32.ofInt v2))] 12 [] := by
    intro J_2 J_12 M v1 v2 hw hJ_2 hJ_12 H locs ls w hl
    refine lv_iload_n F.1 F.2.1 d_Fo_link_12 rfl (lv_at hl 2 rfl) ?_
    refine lv_aload_n F.1 F.2.1 d_Fo_link_13 rfl (lv_at hl 0 rfl) ?_
    refine fm_gR F w cl_Fo 142 0 T_142 (by decide) rfl k_198 d_Fo_link_14 ?_
    obtain ⟨h42, hw⟩ := hw
    refine fm_gI F w cl_Gm ((M 142 0).toNat) 4 h42 (by decide) rfl k_154 d_Fo_link_17 ?_
    obtain ⟨h43, hw⟩ := hw
    obtain ⟨h44, hw⟩ := hw
    refine fi_icmp_ge F d_Fo_link_20 (tgt := 57) (by decide) h43 h44 (fun hc45 => ?_) (fun hc45 => ?_)
    · have hw := hw.1 hc45
      refine fi_iinc (k := 1) (v := (v1 + 1)) F d_Fo_link_57 hl rfl rfl (by decide) rfl (fun ls hl => ?_)
      have hl : lv_has ls 3 [(1, .int (Int32.ofInt (v1 + 1))), (0, .ref (ad 142)), (2, .int (Int32.ofInt v2))] := hl
      refine lv_goto F.1 F.2.1 d_Fo_link_60 (tgt := 2) (by decide) ?_
      exact hJ_2 M (v1 + 1) hw H locs ls w (lv_sub hl [1, 0] rfl)
    · have hw := hw.2 hc45
      refine lv_aload_n F.1 F.2.1 d_Fo_link_23 rfl (lv_at hl 0 rfl) ?_
      refine fm_gO F w cl_Fo 142 8 290 T_142 (by decide) rfl rfl k_220 d_Fo_link_24 ?_
      refine lv_iload_n F.1 F.2.1 d_Fo_link_27 rfl (lv_at hl 1 rfl) ?_
      obtain ⟨h46, hw⟩ := hw
      refine fm_aR F w 290 0 (290 + 1 + v1.toNat) T_290 rfl (by decide) h46 rfl d_Fo_link_28 ?_
      refine lv_iload_n F.1 F.2.1 d_Fo_link_29 rfl (lv_at hl 2 rfl) ?_
      refine lv_iconst (v := Int32.ofInt 0) F.1 F.2.1 d_Fo_link_30 (by decide) ?_
      obtain ⟨h47, hw⟩ := hw
      obtain ⟨h48, hw⟩ := hw
      refine fm_sI F w (290 + 1 + v1.toNat) h47 (by decide) h48  d_Fo_link_31 (fun M49 hM49 H locs w => ?_)
      have hw := hw M49 hM49
      refine lv_aload_n F.1 F.2.1 d_Fo_link_32 rfl (lv_at hl 0 rfl) ?_
      refine fm_gO F w cl_Fo 142 7 289 T_142 (by decide) rfl rfl k_218 d_Fo_link_33 ?_
      refine lv_iload_n F.1 F.2.1 d_Fo_link_36 rfl (lv_at hl 1 rfl) ?_
      refine fm_aI F w 289 T_289 (by decide) h46 d_Fo_link_37 ?_
      refine lv_iload_n F.1 F.2.1 d_Fo_link_38 rfl (lv_at hl 2 rfl) ?_
      refine fx_c w hno hlk (fx_rSN (As := [.int (Int32.ofInt (M49 289 v1.toNat)), .int (Int32.ofInt v2)]) (rest := []) F w (met_CG_hasBit l hst9 D ad cA n0 M49 (M49 289 v1.toNat) v2 _ thr hw) e_CG_hasBit kt_CG_hasBit k_648 rfl hl.1 rfl (Nat.le_of_ble_eq_true rfl) ⟨⟨Nat.le_of_ble_eq_true rfl, Nat.le_of_ble_eq_true rfl⟩, Nat.le_of_ble_eq_true rfl, Nat.le_of_ble_eq_true rfl⟩ d_Fo_link_39) (fun r51 M50 hw H locs w => ?_)
      show W p l e _ s m _ below meth c H locs 0 0 _ (F0 m 42 ls [.int (Int32.ofInt r51)])
      obtain ⟨h52, hw⟩ := hw
      refine fi_if_eq F d_Fo_link_42 (tgt := 51) (by decide) h52 (fun hc53 => ?_) (fun hc53 => ?_)
      · have hw := hw.1 hc53
        refine fi_iinc (k := 2) (v := (v2 + 1)) F d_Fo_link_51 hl rfl rfl (by decide) rfl (fun ls hl => ?_)
        have hl : lv_has ls 3 [(2, .int (Int32.ofInt (v2 + 1))), (0, .ref (ad 142)), (1, .int (Int32.ofInt v1))] := hl
        refine lv_goto F.1 F.2.1 d_Fo_link_54 (tgt := 12) (by decide) ?_
        exact hJ_12 M50 v1 (v2 + 1) hw H locs ls w (lv_sub hl [1, 2, 0] rfl)
      · have hw := hw.2 hc53
        refine lv_aload_n F.1 F.2.1 d_Fo_link_45 rfl (lv_at hl 0 rfl) ?_
        refine lv_iload_n F.1 F.2.1 d_Fo_link_46 rfl (lv_at hl 1 rfl) ?_
        refine lv_iload_n F.1 F.2.1 d_Fo_link_47 rfl (lv_at hl 2 rfl) ?_
        refine fx_c w hno hlk (fx_rV (As := [.int (Int32.ofInt v1), .int (Int32.ofInt v2)]) (rest := []) F w cl_Fo 142 T_142 (met_Fo_linkCommand l hst9 D ad cA n0 M50 v1 v2 _ thr hw) e_Fo_linkCommand ki_Fo_linkCommand ks_Fo_linkCommand k_668 rfl hl.1 rfl (Nat.le_of_ble_eq_true rfl) ⟨⟨Nat.le_of_ble_eq_true rfl, Nat.le_of_ble_eq_true rfl⟩, Nat.le_of_ble_eq_true rfl, Nat.le_of_ble_eq_true rfl⟩ d_Fo_link_48) (fun r55 M54 hw H locs w => ?_)
        refine fi_iinc (k := 2) (v := (v2 + 1)) F d_Fo_link_51 hl rfl rfl (by decide) rfl (fun ls hl => ?_)
        have hl : lv_has ls 3 [(2, .int (Int32.ofInt (v2 + 1))), (0, .ref (ad 142)), (1, .int (Int32.ofInt v1))] := hl
        refine lv_goto F.1 F.2.1 d_Fo_link_54 (tgt := 12) (by decide) ?_
        exact hJ_12 M54 v1 (v2 + 1) hw H locs ls w (lv_sub hl [1, 2, 0] rfl)
  have blk_12 : ∀ (J_2 : (fm_M → Int → Prop)) (M : fm_M) (v1 : Int) (v2 : Int), B_Fo_link_12 post thr J_2 M v1 v2 → (∀ (M : fm_M) (v1 : Int), J_2 M v1 → fx_G p l e { frames := 3, cells := 1, slots := 6, locals := 74 } s m ([.ref (ad 142)] : List Value).toArray below meth c D ad cA n0 3 post thr 3 M [(0, .ref (ad 142)), (1, .int (Int32.ofInt v1))] 2 []) → fx_G p l e { frames := 3, cells := 1, slots := 6, locals := 74 } s m ([.ref (ad 142)] : List Value).toArray below meth c D ad cA n0 3 post thr 3 M [(0, .ref (ad 142)), (1, .int (Int32.ofInt v1)), (2, .int (Int32.ofInt v2))] 12 [] := by
    intro J_2 M v1 v2 hw hJ_2
    obtain ⟨I, μ, hI, hB⟩ := hw
    have key : ∀ (q : Nat) (M : fm_M) (v1 : Int) (v2 : Int), μ M v1 v2 < q → I M v1 v2 → fx_G p l e { frames := 3, cells := 1, slots := 6, locals := 74 } s m ([.ref (ad 142)] : List Value).toArray below meth c D ad cA n0 3 post thr 3 M [(0, .ref (ad 142)), (1, .int (Int32.ofInt v1)), (2, .int (Int32.ofInt v2))] 12 [] := by
      intro q
      induction q with
      | zero => intro M v1 v2 h _; exact absurd h (Nat.not_lt_zero _)
      | succ q ih =>
        intro M v1 v2 hμ hI
        exact blc_12 J_2 (fun M' v1' v2' => I M' v1' v2' ∧ μ M' v1' v2' < μ M v1 v2) M v1 v2 (hB M v1 v2 hI) hJ_2 (fun M' v1' v2' hh => ih M' v1' v2' (Nat.lt_of_lt_of_le hh.2 (Nat.le_of_lt_succ hμ)) hh.1)
    exact key _ M v1 v2 (Nat.lt_succ_self _) hI
  have blc_2 : ∀ (J_2 : (fm_M → Int → Prop)) (M : fm_M) (v1 : Int), C_Fo_link_2 post thr J_2 M v1 → (∀ (M : fm_M) (v1 : Int), J_2 M v1 → fx_G p l e { frames := 3, cells := 1, slots := 6, locals := 74 } s m ([.ref (ad 142)] : List Value).toArray below meth c D ad cA n0 3 post thr 3 M [(0, .ref (ad 142)), (1, .int (Int32.ofInt v1))] 2 []) → fx_G p l e { frames := 3, cells := 1, slots := 6, locals := 74 } s m ([.ref (ad 142)] : List Value).toArray below meth c D ad cA n0 3 post thr 3 M [(0, .ref (ad 142)), (1, .int (Int32.ofInt v1))] 2 [] := by
    intro J_2 M v1 hw hJ_2 H locs ls w hl
    refine lv_iload_n F.1 F.2.1 d_Fo_link_2 rfl (lv_at hl 1 rfl) ?_
    refine lv_aload_n F.1 F.2.1 d_Fo_link_3 rfl (lv_at hl 0 rfl) ?_
    refine fm_gI F w cl_Fo 142 1 T_142 (by decide) rfl k_203 d_Fo_link_4 ?_
    obtain ⟨h56, hw⟩ := hw
    obtain ⟨h57, hw⟩ := hw
    refine fi_icmp_ge F d_Fo_link_7 (tgt := 63) (by decide) h56 h57 (fun hc58 => ?_) (fun hc58 => ?_)
    · have hw := hw.1 hc58
      exact fx_vret F w hr hlk hw d_Fo_link_63
    · have hw := hw.2 hc58
      refine lv_iconst (v := Int32.ofInt 0) F.1 F.2.1 d_Fo_link_10 (by decide) ?_
      refine lv_istore_n F.1 F.2.1 d_Fo_link_11 rfl hl (by decide) rfl (fun ls hl => ?_)
      have hl : lv_has ls 3 [(2, .int (Int32.ofInt 0)), (0, .ref (ad 142)), (1, .int (Int32.ofInt v1))] := hl
      exact blk_12 J_2 M v1 0 hw hJ_2 H locs ls w (lv_sub hl [1, 2, 0] rfl)
  have blk_2 : ∀ (M : fm_M) (v1 : Int), B_Fo_link_2 post thr M v1 → fx_G p l e { frames := 3, cells := 1, slots := 6, locals := 74 } s m ([.ref (ad 142)] : List Value).toArray below meth c D ad cA n0 3 post thr 3 M [(0, .ref (ad 142)), (1, .int (Int32.ofInt v1))] 2 [] := by
    intro M v1 hw
    obtain ⟨I, μ, hI, hB⟩ := hw
    have key : ∀ (q : Nat) (M : fm_M) (v1 : Int), μ M v1 < q → I M v1 → fx_G p l e { frames := 3, cells := 1, slots := 6, locals := 74 } s m ([.ref (ad 142)] : List Value).toArray below meth c D ad cA n0 3 post thr 3 M [(0, .ref (ad 142)), (1, .int (Int32.ofInt v1))] 2 [] := by
      intro q
      induction q with
      | zero => intro M v1 h _; exact absurd h (Nat.not_lt_zero _)
      | succ q ih =>
        intro M v1 hμ hI
        exact blc_2 (fun M' v1' => I M' v1' ∧ μ M' v1' < μ M v1) M v1 (hB M v1 hI) (fun M' v1' hh => ih M' v1' (Nat.lt_of_lt_of_le hh.2 (Nat.le_of_lt_succ hμ)) hh.1)
    exact key _ M v1 (Nat.lt_succ_self _) hI
  have hl : lv_has ls 3 [(0, .ref (ad 142))] := hl
  suffices h9 : fx_G p l e { frames := 3, cells := 1, slots := 6, locals := 74 } s m ([.ref (ad 142)] : List Value).toArray below meth c D ad cA n0 3 post thr 3 M [(0, .ref (ad 142))] 0 [] from h9 _ _ _ w hl
  intro H locs ls w hl
  refine lv_iconst (v := Int32.ofInt 0) F.1 F.2.1 d_Fo_link_0 (by decide) ?_
  refine lv_istore_n F.1 F.2.1 d_Fo_link_1 rfl hl (by decide) rfl (fun ls hl => ?_)
  have hl : lv_has ls 3 [(1, .int (Int32.ofInt 0)), (0, .ref (ad 142))] := hl
  exact blk_2 M 0 hw H locs ls w (lv_sub hl [1, 0] rfl)
set_option maxHeartbeats 4000000 in
set_option maxRecDepth 100000 in
theorem met_Fo_choicesOf (l : Launch) (hst9 : l.stackTraces = false) (D : va_G) (ad : Nat → Nat) (cA : Nat → ClassId) (n0 : Nat) (M : fm_M) (a1 : Int) (post : Int → fm_M → Prop) (thr : String → fm_M → Prop) (hw : wp_Fo_choicesOf M a1 post thr) : fx_Met l y_Fo_choicesOf (Cond.code y_Fo_choicesOf b_Fo_choicesOf 2 (some .int) :: tb) { frames := 0, cells := 1, slots := 6, locals := 0 } [.ref (ad 142), .int (Int32.ofInt a1)] D ad cA n0 M 0 post thr := by
  refine fx_met (by decide) (Nat.le_of_ble_eq_true rfl) (fun p e s m below meth c ls F w hno hr hlk hl => ?_)
  have hl : lv_has ls 2 [(0, .ref (ad 142)), (1, .int (Int32.ofInt a1))] := hl
  suffices h9 : fx_G p l e { frames := 0, cells := 1, slots := 6, locals := 0 } s m ([.ref (ad 142), .int (Int32.ofInt a1)] : List Value).toArray below meth c D ad cA n0 0 post thr 2 M [(0, .ref (ad 142)), (1, .int (Int32.ofInt a1))] 0 [] from h9 _ _ _ w hl
  intro H locs ls w hl
  refine lv_iload_n F.1 F.2.1 d_Fo_choicesOf_0 rfl (lv_at hl 1 rfl) ?_
  refine lv_aload_n F.1 F.2.1 d_Fo_choicesOf_1 rfl (lv_at hl 0 rfl) ?_
  refine fm_gI F w cl_Fo 142 4 T_142 (by decide) rfl k_214 d_Fo_choicesOf_2 ?_
  obtain ⟨h5, hw⟩ := hw
  obtain ⟨h6, hw⟩ := hw
  refine fi_icmp_ge F d_Fo_choicesOf_5 (tgt := 17) (by decide) h5 h6 (fun hc7 => ?_) (fun hc7 => ?_)
  · have hw := hw.1 hc7
    refine lv_iconst (v := Int32.ofInt 0) F.1 F.2.1 d_Fo_choicesOf_17 (by decide) ?_
    exact fx_iret F w hr hlk hw d_Fo_choicesOf_18
  · have hw := hw.2 hc7
    refine lv_aload_n F.1 F.2.1 d_Fo_choicesOf_8 rfl (lv_at hl 0 rfl) ?_
    refine fm_gO F w cl_Fo 142 7 289 T_142 (by decide) rfl rfl k_218 d_Fo_choicesOf_9 ?_
    refine lv_iload_n F.1 F.2.1 d_Fo_choicesOf_12 rfl (lv_at hl 1 rfl) ?_
    obtain ⟨h8, hw⟩ := hw
    refine fm_aI F w 289 T_289 (by decide) h8 d_Fo_choicesOf_13 ?_
    refine lv_goto F.1 F.2.1 d_Fo_choicesOf_14 (tgt := 18) (by decide) ?_
    exact fx_iret F w hr hlk hw d_Fo_choicesOf_18
set_option maxHeartbeats 4000000 in
set_option maxRecDepth 100000 in
theorem met_At_canComeNearer (l : Launch) (hst9 : l.stackTraces = false) (D : va_G) (ad : Nat → Nat) (cA : Nat → ClassId) (n0 : Nat) (M : fm_M) (k0 : Nat) (a2 : Int) (a3 : Int) (post : Int → fm_M → Prop) (thr : String → fm_M → Prop) (hw : wp_At_canComeNearer M k0 a2 a3 post thr) : fx_Met l y_At_canComeNearer (Cond.code y_At_canComeNearer b_At_canComeNearer 5 (some .boolean) :: tb) { frames := 1, cells := 1, slots := 6, locals := 21 } [.ref (ad k0), .ref (ad 142), .int (Int32.ofInt a2), .int (Int32.ofInt a3)] D ad cA n0 M 0 post thr := by
  refine fx_met (by decide) (Nat.le_of_ble_eq_true rfl) (fun p e s m below meth c ls F w hno hr hlk hl => ?_)
  have blc_3 : ∀ (J_3 : (fm_M → Int → Prop)) (M : fm_M) (v4 : Int), C_At_canComeNearer_3 k0 a2 a3 post thr J_3 M v4 → (∀ (M : fm_M) (v4 : Int), J_3 M v4 → fx_G p l e { frames := 1, cells := 1, slots := 6, locals := 21 } s m ([.ref (ad k0), .ref (ad 142), .int (Int32.ofInt a2), .int (Int32.ofInt a3)] : List Value).toArray below meth c D ad cA n0 0 post thr 5 M [(0, .ref (ad k0)), (1, .ref (ad 142)), (2, .int (Int32.ofInt a2)), (3, .int (Int32.ofInt a3)), (4, .int (Int32.ofInt v4))] 3 []) → fx_G p l e { frames := 1, cells := 1, slots := 6, locals := 21 } s m ([.ref (ad k0), .ref (ad 142), .int (Int32.ofInt a2), .int (Int32.ofInt a3)] : List Value).toArray below meth c D ad cA n0 0 post thr 5 M [(0, .ref (ad k0)), (1, .ref (ad 142)), (2, .int (Int32.ofInt a2)), (3, .int (Int32.ofInt a3)), (4, .int (Int32.ofInt v4))] 3 [] := by
    intro J_3 M v4 hw hJ_3 H locs ls w hl
    refine lv_iload F.1 F.2.1 d_At_canComeNearer_3 (lv_at hl 4 rfl) ?_
    refine lv_aload_n F.1 F.2.1 d_At_canComeNearer_5 rfl (lv_at hl 1 rfl) ?_
    refine fm_gR F w cl_Fo 142 0 T_142 (by decide) rfl k_201 d_At_canComeNearer_6 ?_
    obtain ⟨h33, hw⟩ := hw
    refine fm_gI F w cl_Gm ((M 142 0).toNat) 4 h33 (by decide) rfl k_152 d_At_canComeNearer_9 ?_
    obtain ⟨h34, hw⟩ := hw
    obtain ⟨h35, hw⟩ := hw
    refine fi_icmp_ge F d_At_canComeNearer_12 (tgt := 59) (by decide) h34 h35 (fun hc36 => ?_) (fun hc36 => ?_)
    · have hw := hw.1 hc36
      refine lv_iconst (v := Int32.ofInt 0) F.1 F.2.1 d_At_canComeNearer_59 (by decide) ?_
      exact fx_zret F w hr hlk (fx_nz (by decide)) hw d_At_canComeNearer_60
    · have hw := hw.2 hc36
      refine lv_aload_n F.1 F.2.1 d_At_canComeNearer_15 rfl (lv_at hl 0 rfl) ?_
      obtain ⟨h37, hw⟩ := hw
      refine fm_gO F w cl_At k0 0 (k0 + 1) h37 (by decide) rfl rfl k_253 d_At_canComeNearer_16 ?_
      refine lv_iload_n F.1 F.2.1 d_At_canComeNearer_19 rfl (lv_at hl 2 rfl) ?_
      obtain ⟨h38, hw⟩ := hw
      obtain ⟨h39, hw⟩ := hw
      refine fm_aI F w (k0 + 1) h38 (by decide) h39 d_At_canComeNearer_20 ?_
      refine lv_iload F.1 F.2.1 d_At_canComeNearer_21 (lv_at hl 4 rfl) ?_
      refine fx_c w hno hlk (fx_rSN (As := [.int (Int32.ofInt (M (k0 + 1) a2.toNat)), .int (Int32.ofInt v4)]) (rest := []) F w (met_CG_hasBit l hst9 D ad cA n0 M (M (k0 + 1) a2.toNat) v4 _ thr hw) e_CG_hasBit kt_CG_hasBit k_685 rfl hl.1 rfl (Nat.le_of_ble_eq_true rfl) ⟨⟨Nat.le_of_ble_eq_true rfl, Nat.le_of_ble_eq_true rfl⟩, Nat.le_of_ble_eq_true rfl, Nat.le_of_ble_eq_true rfl⟩ d_At_canComeNearer_23) (fun r41 M40 hw H locs w => ?_)
      show W p l e _ s m _ below meth c H locs 0 0 _ (F0 m 26 ls [.int (Int32.ofInt r41)])
      obtain ⟨h42, hw⟩ := hw
      refine fi_if_eq F d_At_canComeNearer_26 (tgt := 53) (by decide) h42 (fun hc43 => ?_) (fun hc43 => ?_)
      · have hw := hw.1 hc43
        refine fi_iinc (k := 4) (v := (v4 + 1)) F d_At_canComeNearer_53 hl rfl rfl (by decide) rfl (fun ls hl => ?_)
        have hl : lv_has ls 5 [(4, .int (Int32.ofInt (v4 + 1))), (0, .ref (ad k0)), (1, .ref (ad 142)), (2, .int (Int32.ofInt a2)), (3, .int (Int32.ofInt a3))] := hl
        refine lv_goto F.1 F.2.1 d_At_canComeNearer_56 (tgt := 3) (by decide) ?_
        exact hJ_3 M40 (v4 + 1) hw H locs ls w (lv_sub hl [1, 2, 3, 4, 0] rfl)
      · have hw := hw.2 hc43
        refine lv_aload_n F.1 F.2.1 d_At_canComeNearer_29 rfl (lv_at hl 1 rfl) ?_
        refine fm_gO F w cl_Fo 142 8 290 T_142 (by decide) rfl rfl k_221 d_At_canComeNearer_30 ?_
        refine lv_iload_n F.1 F.2.1 d_At_canComeNearer_33 rfl (lv_at hl 2 rfl) ?_
        refine fm_aR F w 290 0 (290 + 1 + a2.toNat) T_290 rfl (by decide) h39 rfl d_At_canComeNearer_34 ?_
        refine lv_iload F.1 F.2.1 d_At_canComeNearer_35 (lv_at hl 4 rfl) ?_
        obtain ⟨h44, hw⟩ := hw
        obtain ⟨h45, hw⟩ := hw
        refine fm_aI F w (290 + 1 + a2.toNat) h44 (by decide) h45 d_At_canComeNearer_37 ?_
        refine lv_iload_n F.1 F.2.1 d_At_canComeNearer_38 rfl (lv_at hl 3 rfl) ?_
        refine fi_iand F d_At_canComeNearer_39 ?_
        obtain ⟨h46, hw⟩ := hw
        refine fi_if_eq F d_At_canComeNearer_40 (tgt := 53) (by decide) h46 (fun hc47 => ?_) (fun hc47 => ?_)
        · have hw := hw.1 hc47
          refine fi_iinc (k := 4) (v := (v4 + 1)) F d_At_canComeNearer_53 hl rfl rfl (by decide) rfl (fun ls hl => ?_)
          have hl : lv_has ls 5 [(4, .int (Int32.ofInt (v4 + 1))), (0, .ref (ad k0)), (1, .ref (ad 142)), (2, .int (Int32.ofInt a2)), (3, .int (Int32.ofInt a3))] := hl
          refine lv_goto F.1 F.2.1 d_At_canComeNearer_56 (tgt := 3) (by decide) ?_
          exact hJ_3 M40 (v4 + 1) hw H locs ls w (lv_sub hl [1, 2, 3, 4, 0] rfl)
        · have hw := hw.2 hc47
          refine lv_aload_n F.1 F.2.1 d_At_canComeNearer_43 rfl (lv_at hl 0 rfl) ?_
          refine fm_gO F w cl_At k0 1 (k0 + 2) h37 (by decide) rfl rfl k_256 d_At_canComeNearer_44 ?_
          refine lv_iload_n F.1 F.2.1 d_At_canComeNearer_47 rfl (lv_at hl 2 rfl) ?_
          refine lv_iload F.1 F.2.1 d_At_canComeNearer_48 (lv_at hl 4 rfl) ?_
          obtain ⟨h48, hw⟩ := hw
          refine fm_sI F w (k0 + 2) h48 (by decide) h39  d_At_canComeNearer_50 (fun M49 hM49 H locs w => ?_)
          have hw := hw M49 hM49
          refine lv_iconst (v := Int32.ofInt 1) F.1 F.2.1 d_At_canComeNearer_51 (by decide) ?_
          exact fx_zret F w hr hlk (fx_nz (by decide)) hw d_At_canComeNearer_52
  have blk_3 : ∀ (M : fm_M) (v4 : Int), B_At_canComeNearer_3 k0 a2 a3 post thr M v4 → fx_G p l e { frames := 1, cells := 1, slots := 6, locals := 21 } s m ([.ref (ad k0), .ref (ad 142), .int (Int32.ofInt a2), .int (Int32.ofInt a3)] : List Value).toArray below meth c D ad cA n0 0 post thr 5 M [(0, .ref (ad k0)), (1, .ref (ad 142)), (2, .int (Int32.ofInt a2)), (3, .int (Int32.ofInt a3)), (4, .int (Int32.ofInt v4))] 3 [] := by
    intro M v4 hw
    obtain ⟨I, μ, hI, hB⟩ := hw
    have key : ∀ (q : Nat) (M : fm_M) (v4 : Int), μ M v4 < q → I M v4 → fx_G p l e { frames := 1, cells := 1, slots := 6, locals := 21 } s m ([.ref (ad k0), .ref (ad 142), .int (Int32.ofInt a2), .int (Int32.ofInt a3)] : List Value).toArray below meth c D ad cA n0 0 post thr 5 M [(0, .ref (ad k0)), (1, .ref (ad 142)), (2, .int (Int32.ofInt a2)), (3, .int (Int32.ofInt a3)), (4, .int (Int32.ofInt v4))] 3 [] := by
      intro q
      induction q with
      | zero => intro M v4 h _; exact absurd h (Nat.not_lt_zero _)
      | succ q ih =>
        intro M v4 hμ hI
        exact blc_3 (fun M' v4' => I M' v4' ∧ μ M' v4' < μ M v4) M v4 (hB M v4 hI) (fun M' v4' hh => ih M' v4' (Nat.lt_of_lt_of_le hh.2 (Nat.le_of_lt_succ hμ)) hh.1)
    exact key _ M v4 (Nat.lt_succ_self _) hI
  have hl : lv_has ls 5 [(0, .ref (ad k0)), (1, .ref (ad 142)), (2, .int (Int32.ofInt a2)), (3, .int (Int32.ofInt a3))] := hl
  suffices h9 : fx_G p l e { frames := 1, cells := 1, slots := 6, locals := 21 } s m ([.ref (ad k0), .ref (ad 142), .int (Int32.ofInt a2), .int (Int32.ofInt a3)] : List Value).toArray below meth c D ad cA n0 0 post thr 5 M [(0, .ref (ad k0)), (1, .ref (ad 142)), (2, .int (Int32.ofInt a2)), (3, .int (Int32.ofInt a3))] 0 [] from h9 _ _ _ w hl
  intro H locs ls w hl
  refine lv_iconst (v := Int32.ofInt 0) F.1 F.2.1 d_At_canComeNearer_0 (by decide) ?_
  refine lv_istore F.1 F.2.1 d_At_canComeNearer_1 hl (by decide) rfl (fun ls hl => ?_)
  have hl : lv_has ls 5 [(4, .int (Int32.ofInt 0)), (0, .ref (ad k0)), (1, .ref (ad 142)), (2, .int (Int32.ofInt a2)), (3, .int (Int32.ofInt a3))] := hl
  exact blk_3 M 0 hw H locs ls w (lv_sub hl [1, 2, 3, 4, 0] rfl)
set_option maxHeartbeats 4000000 in
set_option maxRecDepth 100000 in
theorem met_At_mustComeNearer (l : Launch) (hst9 : l.stackTraces = false) (D : va_G) (ad : Nat → Nat) (cA : Nat → ClassId) (n0 : Nat) (M : fm_M) (k0 : Nat) (a2 : Int) (a3 : Int) (post : Int → fm_M → Prop) (thr : String → fm_M → Prop) (hw : wp_At_mustComeNearer M k0 a2 a3 post thr) : fx_Met l y_At_mustComeNearer (Cond.code y_At_mustComeNearer b_At_mustComeNearer 5 (some .boolean) :: tb) { frames := 1, cells := 1, slots := 6, locals := 21 } [.ref (ad k0), .ref (ad 142), .int (Int32.ofInt a2), .int (Int32.ofInt a3)] D ad cA n0 M 0 post thr := by
  refine fx_met (by decide) (Nat.le_of_ble_eq_true rfl) (fun p e s m below meth c ls F w hno hr hlk hl => ?_)
  have blc_3 : ∀ (J_3 : (fm_M → Int → Prop)) (M : fm_M) (v4 : Int), C_At_mustComeNearer_3 k0 a2 a3 post thr J_3 M v4 → (∀ (M : fm_M) (v4 : Int), J_3 M v4 → fx_G p l e { frames := 1, cells := 1, slots := 6, locals := 21 } s m ([.ref (ad k0), .ref (ad 142), .int (Int32.ofInt a2), .int (Int32.ofInt a3)] : List Value).toArray below meth c D ad cA n0 0 post thr 5 M [(0, .ref (ad k0)), (1, .ref (ad 142)), (2, .int (Int32.ofInt a2)), (3, .int (Int32.ofInt a3)), (4, .int (Int32.ofInt v4))] 3 []) → fx_G p l e { frames := 1, cells := 1, slots := 6, locals := 21 } s m ([.ref (ad k0), .ref (ad 142), .int (Int32.ofInt a2), .int (Int32.ofInt a3)] : List Value).toArray below meth c D ad cA n0 0 post thr 5 M [(0, .ref (ad k0)), (1, .ref (ad 142)), (2, .int (Int32.ofInt a2)), (3, .int (Int32.ofInt a3)), (4, .int (Int32.ofInt v4))] 3 [] := by
    intro J_3 M v4 hw hJ_3 H locs ls w hl
    refine lv_iload F.1 F.2.1 d_At_mustComeNearer_3 (lv_at hl 4 rfl) ?_
    refine lv_aload_n F.1 F.2.1 d_At_mustComeNearer_5 rfl (lv_at hl 1 rfl) ?_
    refine fm_gR F w cl_Fo 142 0 T_142 (by decide) rfl k_201 d_At_mustComeNearer_6 ?_
    obtain ⟨h39, hw⟩ := hw
    refine fm_gI F w cl_Gm ((M 142 0).toNat) 4 h39 (by decide) rfl k_152 d_At_mustComeNearer_9 ?_
    obtain ⟨h40, hw⟩ := hw
    obtain ⟨h41, hw⟩ := hw
    refine fi_icmp_ge F d_At_mustComeNearer_12 (tgt := 51) (by decide) h40 h41 (fun hc42 => ?_) (fun hc42 => ?_)
    · have hw := hw.1 hc42
      refine lv_aload_n F.1 F.2.1 d_At_mustComeNearer_51 rfl (lv_at hl 0 rfl) ?_
      obtain ⟨h43, hw⟩ := hw
      refine fm_gO F w cl_At k0 0 (k0 + 1) h43 (by decide) rfl rfl k_253 d_At_mustComeNearer_52 ?_
      refine lv_iload_n F.1 F.2.1 d_At_mustComeNearer_55 rfl (lv_at hl 2 rfl) ?_
      obtain ⟨h44, hw⟩ := hw
      obtain ⟨h45, hw⟩ := hw
      refine fm_aI F w (k0 + 1) h44 (by decide) h45 d_At_mustComeNearer_56 ?_
      obtain ⟨h46, hw⟩ := hw
      refine fi_if_eq F d_At_mustComeNearer_57 (tgt := 64) (by decide) h46 (fun hc47 => ?_) (fun hc47 => ?_)
      · have hw := hw.1 hc47
        refine lv_iconst (v := Int32.ofInt 0) F.1 F.2.1 d_At_mustComeNearer_64 (by decide) ?_
        exact fx_zret F w hr hlk (fx_nz (by decide)) hw d_At_mustComeNearer_65
      · have hw := hw.2 hc47
        refine lv_iconst (v := Int32.ofInt 1) F.1 F.2.1 d_At_mustComeNearer_60 (by decide) ?_
        refine lv_goto F.1 F.2.1 d_At_mustComeNearer_61 (tgt := 65) (by decide) ?_
        exact fx_zret F w hr hlk (fx_nz (by decide)) hw d_At_mustComeNearer_65
    · have hw := hw.2 hc42
      refine lv_aload_n F.1 F.2.1 d_At_mustComeNearer_15 rfl (lv_at hl 0 rfl) ?_
      obtain ⟨h48, hw⟩ := hw
      refine fm_gO F w cl_At k0 0 (k0 + 1) h48 (by decide) rfl rfl k_253 d_At_mustComeNearer_16 ?_
      refine lv_iload_n F.1 F.2.1 d_At_mustComeNearer_19 rfl (lv_at hl 2 rfl) ?_
      obtain ⟨h49, hw⟩ := hw
      obtain ⟨h50, hw⟩ := hw
      refine fm_aI F w (k0 + 1) h49 (by decide) h50 d_At_mustComeNearer_20 ?_
      refine lv_iload F.1 F.2.1 d_At_mustComeNearer_21 (lv_at hl 4 rfl) ?_
      refine fx_c w hno hlk (fx_rSN (As := [.int (Int32.ofInt (M (k0 + 1) a2.toNat)), .int (Int32.ofInt v4)]) (rest := []) F w (met_CG_hasBit l hst9 D ad cA n0 M (M (k0 + 1) a2.toNat) v4 _ thr hw) e_CG_hasBit kt_CG_hasBit k_685 rfl hl.1 rfl (Nat.le_of_ble_eq_true rfl) ⟨⟨Nat.le_of_ble_eq_true rfl, Nat.le_of_ble_eq_true rfl⟩, Nat.le_of_ble_eq_true rfl, Nat.le_of_ble_eq_true rfl⟩ d_At_mustComeNearer_23) (fun r52 M51 hw H locs w => ?_)
      show W p l e _ s m _ below meth c H locs 0 0 _ (F0 m 26 ls [.int (Int32.ofInt r52)])
      obtain ⟨h53, hw⟩ := hw
      refine fi_if_eq F d_At_mustComeNearer_26 (tgt := 45) (by decide) h53 (fun hc54 => ?_) (fun hc54 => ?_)
      · have hw := hw.1 hc54
        refine fi_iinc (k := 4) (v := (v4 + 1)) F d_At_mustComeNearer_45 hl rfl rfl (by decide) rfl (fun ls hl => ?_)
        have hl : lv_has ls 5 [(4, .int (Int32.ofInt (v4 + 1))), (0, .ref (ad k0)), (1, .ref (ad 142)), (2, .int (Int32.ofInt a2)), (3, .int (Int32.ofInt a3))] := hl
        refine lv_goto F.1 F.2.1 d_At_mustComeNearer_48 (tgt := 3) (by decide) ?_
        exact hJ_3 M51 (v4 + 1) hw H locs ls w (lv_sub hl [1, 2, 3, 4, 0] rfl)
      · have hw := hw.2 hc54
        refine lv_aload_n F.1 F.2.1 d_At_mustComeNearer_29 rfl (lv_at hl 1 rfl) ?_
        refine fm_gO F w cl_Fo 142 8 290 T_142 (by decide) rfl rfl k_221 d_At_mustComeNearer_30 ?_
        refine lv_iload_n F.1 F.2.1 d_At_mustComeNearer_33 rfl (lv_at hl 2 rfl) ?_
        refine fm_aR F w 290 0 (290 + 1 + a2.toNat) T_290 rfl (by decide) h50 rfl d_At_mustComeNearer_34 ?_
        refine lv_iload F.1 F.2.1 d_At_mustComeNearer_35 (lv_at hl 4 rfl) ?_
        obtain ⟨h55, hw⟩ := hw
        obtain ⟨h56, hw⟩ := hw
        refine fm_aI F w (290 + 1 + a2.toNat) h55 (by decide) h56 d_At_mustComeNearer_37 ?_
        refine lv_iload_n F.1 F.2.1 d_At_mustComeNearer_38 rfl (lv_at hl 3 rfl) ?_
        refine fi_iand F d_At_mustComeNearer_39 ?_
        obtain ⟨h57, hw⟩ := hw
        refine fi_if_ne F d_At_mustComeNearer_40 (tgt := 45) (by decide) h57 (fun hc58 => ?_) (fun hc58 => ?_)
        · have hw := hw.1 hc58
          refine fi_iinc (k := 4) (v := (v4 + 1)) F d_At_mustComeNearer_45 hl rfl rfl (by decide) rfl (fun ls hl => ?_)
          have hl : lv_has ls 5 [(4, .int (Int32.ofInt (v4 + 1))), (0, .ref (ad k0)), (1, .ref (ad 142)), (2, .int (Int32.ofInt a2)), (3, .int (Int32.ofInt a3))] := hl
          refine lv_goto F.1 F.2.1 d_At_mustComeNearer_48 (tgt := 3) (by decide) ?_
          exact hJ_3 M51 (v4 + 1) hw H locs ls w (lv_sub hl [1, 2, 3, 4, 0] rfl)
        · have hw := hw.2 hc58
          refine lv_iconst (v := Int32.ofInt 0) F.1 F.2.1 d_At_mustComeNearer_43 (by decide) ?_
          exact fx_zret F w hr hlk (fx_nz (by decide)) hw d_At_mustComeNearer_44
  have blk_3 : ∀ (M : fm_M) (v4 : Int), B_At_mustComeNearer_3 k0 a2 a3 post thr M v4 → fx_G p l e { frames := 1, cells := 1, slots := 6, locals := 21 } s m ([.ref (ad k0), .ref (ad 142), .int (Int32.ofInt a2), .int (Int32.ofInt a3)] : List Value).toArray below meth c D ad cA n0 0 post thr 5 M [(0, .ref (ad k0)), (1, .ref (ad 142)), (2, .int (Int32.ofInt a2)), (3, .int (Int32.ofInt a3)), (4, .int (Int32.ofInt v4))] 3 [] := by
    intro M v4 hw
    obtain ⟨I, μ, hI, hB⟩ := hw
    have key : ∀ (q : Nat) (M : fm_M) (v4 : Int), μ M v4 < q → I M v4 → fx_G p l e { frames := 1, cells := 1, slots := 6, locals := 21 } s m ([.ref (ad k0), .ref (ad 142), .int (Int32.ofInt a2), .int (Int32.ofInt a3)] : List Value).toArray below meth c D ad cA n0 0 post thr 5 M [(0, .ref (ad k0)), (1, .ref (ad 142)), (2, .int (Int32.ofInt a2)), (3, .int (Int32.ofInt a3)), (4, .int (Int32.ofInt v4))] 3 [] := by
      intro q
      induction q with
      | zero => intro M v4 h _; exact absurd h (Nat.not_lt_zero _)
      | succ q ih =>
        intro M v4 hμ hI
        exact blc_3 (fun M' v4' => I M' v4' ∧ μ M' v4' < μ M v4) M v4 (hB M v4 hI) (fun M' v4' hh => ih M' v4' (Nat.lt_of_lt_of_le hh.2 (Nat.le_of_lt_succ hμ)) hh.1)
    exact key _ M v4 (Nat.lt_succ_self _) hI
  have hl : lv_has ls 5 [(0, .ref (ad k0)), (1, .ref (ad 142)), (2, .int (Int32.ofInt a2)), (3, .int (Int32.ofInt a3))] := hl
  suffices h9 : fx_G p l e { frames := 1, cells := 1, slots := 6, locals := 21 } s m ([.ref (ad k0), .ref (ad 142), .int (Int32.ofInt a2), .int (Int32.ofInt a3)] : List Value).toArray below meth c D ad cA n0 0 post thr 5 M [(0, .ref (ad k0)), (1, .ref (ad 142)), (2, .int (Int32.ofInt a2)), (3, .int (Int32.ofInt a3))] 0 [] from h9 _ _ _ w hl
  intro H locs ls w hl
  refine lv_iconst (v := Int32.ofInt 0) F.1 F.2.1 d_At_mustComeNearer_0 (by decide) ?_
  refine lv_istore F.1 F.2.1 d_At_mustComeNearer_1 hl (by decide) rfl (fun ls hl => ?_)
  have hl : lv_has ls 5 [(4, .int (Int32.ofInt 0)), (0, .ref (ad k0)), (1, .ref (ad 142)), (2, .int (Int32.ofInt a2)), (3, .int (Int32.ofInt a3))] := hl
  exact blk_3 M 0 hw H locs ls w (lv_sub hl [1, 2, 3, 4, 0] rfl)
set_option maxHeartbeats 4000000 in
set_option maxRecDepth 100000 in
theorem met_At_isDrawn (l : Launch) (hst9 : l.stackTraces = false) (D : va_G) (ad : Nat → Nat) (cA : Nat → ClassId) (n0 : Nat) (M : fm_M) (k0 : Nat) (a2 : Int) (a3 : Int) (post : Int → fm_M → Prop) (thr : String → fm_M → Prop) (hw : wp_At_isDrawn M k0 a2 a3 post thr) : fx_Met l y_At_isDrawn (Cond.code y_At_isDrawn b_At_isDrawn 4 (some .boolean) :: tb) { frames := 2, cells := 1, slots := 6, locals := 45 } [.ref (ad k0), .ref (ad 142), .int (Int32.ofInt a2), .int (Int32.ofInt a3)] D ad cA n0 M 0 post thr := by
  refine fx_met (by decide) (Nat.le_of_ble_eq_true rfl) (fun p e s m below meth c ls F w hno hr hlk hl => ?_)
  have hl : lv_has ls 4 [(0, .ref (ad k0)), (1, .ref (ad 142)), (2, .int (Int32.ofInt a2)), (3, .int (Int32.ofInt a3))] := hl
  suffices h9 : fx_G p l e { frames := 2, cells := 1, slots := 6, locals := 45 } s m ([.ref (ad k0), .ref (ad 142), .int (Int32.ofInt a2), .int (Int32.ofInt a3)] : List Value).toArray below meth c D ad cA n0 0 post thr 4 M [(0, .ref (ad k0)), (1, .ref (ad 142)), (2, .int (Int32.ofInt a2)), (3, .int (Int32.ofInt a3))] 0 [] from h9 _ _ _ w hl
  intro H locs ls w hl
  refine lv_aload_n F.1 F.2.1 d_At_isDrawn_0 rfl (lv_at hl 1 rfl) ?_
  refine lv_iload_n F.1 F.2.1 d_At_isDrawn_1 rfl (lv_at hl 2 rfl) ?_
  refine fx_c w hno hlk (fx_rV (As := [.int (Int32.ofInt a2)]) (rest := []) F w cl_Fo 142 T_142 (met_Fo_isOfMax l hst9 D ad cA n0 M a2 _ thr hw) e_Fo_isOfMax ki_Fo_isOfMax ks_Fo_isOfMax k_690 rfl hl.1 rfl (Nat.le_of_ble_eq_true rfl) ⟨⟨Nat.le_of_ble_eq_true rfl, Nat.le_of_ble_eq_true rfl⟩, Nat.le_of_ble_eq_true rfl, Nat.le_of_ble_eq_true rfl⟩ d_At_isDrawn_2) (fun r14 M13 hw H locs w => ?_)
  show W p l e _ s m _ below meth c H locs 0 0 _ (F0 m 5 ls [.int (Int32.ofInt r14)])
  obtain ⟨h15, hw⟩ := hw
  refine fi_if_eq F d_At_isDrawn_5 (tgt := 18) (by decide) h15 (fun hc16 => ?_) (fun hc16 => ?_)
  · have hw := hw.1 hc16
    refine lv_aload_n F.1 F.2.1 d_At_isDrawn_18 rfl (lv_at hl 0 rfl) ?_
    refine lv_aload_n F.1 F.2.1 d_At_isDrawn_19 rfl (lv_at hl 1 rfl) ?_
    refine lv_iload_n F.1 F.2.1 d_At_isDrawn_20 rfl (lv_at hl 2 rfl) ?_
    refine lv_iload_n F.1 F.2.1 d_At_isDrawn_21 rfl (lv_at hl 3 rfl) ?_
    obtain ⟨h17, hw⟩ := hw
    refine fx_c w hno hlk (fx_rV (As := [.ref (ad 142), .int (Int32.ofInt a2), .int (Int32.ofInt a3)]) (rest := []) F w cl_At k0 h17 (met_At_mustComeNearer l hst9 D ad cA n0 M13 k0 a2 a3 _ thr hw) e_At_mustComeNearer ki_At_mustComeNearer ks_At_mustComeNearer k_695 rfl hl.1 rfl (Nat.le_of_ble_eq_true rfl) ⟨⟨Nat.le_of_ble_eq_true rfl, Nat.le_of_ble_eq_true rfl⟩, Nat.le_of_ble_eq_true rfl, Nat.le_of_ble_eq_true rfl⟩ d_At_isDrawn_22) (fun r19 M18 hw H locs w => ?_)
    show W p l e _ s m _ below meth c H locs 0 0 _ (F0 m 25 ls [.int (Int32.ofInt r19)])
    obtain ⟨h20, hw⟩ := hw
    exact fx_zret F w hr hlk (fx_nz h20) hw d_At_isDrawn_25
  · have hw := hw.2 hc16
    refine lv_aload_n F.1 F.2.1 d_At_isDrawn_8 rfl (lv_at hl 0 rfl) ?_
    refine lv_aload_n F.1 F.2.1 d_At_isDrawn_9 rfl (lv_at hl 1 rfl) ?_
    refine lv_iload_n F.1 F.2.1 d_At_isDrawn_10 rfl (lv_at hl 2 rfl) ?_
    refine lv_iload_n F.1 F.2.1 d_At_isDrawn_11 rfl (lv_at hl 3 rfl) ?_
    obtain ⟨h21, hw⟩ := hw
    refine fx_c w hno hlk (fx_rV (As := [.ref (ad 142), .int (Int32.ofInt a2), .int (Int32.ofInt a3)]) (rest := []) F w cl_At k0 h21 (met_At_canComeNearer l hst9 D ad cA n0 M13 k0 a2 a3 _ thr hw) e_At_canComeNearer ki_At_canComeNearer ks_At_canComeNearer k_691 rfl hl.1 rfl (Nat.le_of_ble_eq_true rfl) ⟨⟨Nat.le_of_ble_eq_true rfl, Nat.le_of_ble_eq_true rfl⟩, Nat.le_of_ble_eq_true rfl, Nat.le_of_ble_eq_true rfl⟩ d_At_isDrawn_12) (fun r23 M22 hw H locs w => ?_)
    show W p l e _ s m _ below meth c H locs 0 0 _ (F0 m 15 ls [.int (Int32.ofInt r23)])
    refine lv_goto F.1 F.2.1 d_At_isDrawn_15 (tgt := 25) (by decide) ?_
    obtain ⟨h24, hw⟩ := hw
    exact fx_zret F w hr hlk (fx_nz h24) hw d_At_isDrawn_25
set_option maxHeartbeats 4000000 in
set_option maxRecDepth 100000 in
theorem met_At_drawnTo (l : Launch) (hst9 : l.stackTraces = false) (D : va_G) (ad : Nat → Nat) (cA : Nat → ClassId) (n0 : Nat) (M : fm_M) (k0 : Nat) (a2 : Int) (post : Int → fm_M → Prop) (thr : String → fm_M → Prop) (hw : wp_At_drawnTo M k0 a2 post thr) : fx_Met l y_At_drawnTo (Cond.code y_At_drawnTo b_At_drawnTo 6 (some .int) :: tb) { frames := 3, cells := 1, slots := 6, locals := 68 } [.ref (ad k0), .ref (ad 142), .int (Int32.ofInt a2)] D ad cA n0 M 0 post thr := by
  refine fx_met (by decide) (Nat.le_of_ble_eq_true rfl) (fun p e s m below meth c ls F w hno hr hlk hl => ?_)
  have blc_17 : ∀ (J_5 : (fm_M → Int → Int → Prop)) (J_17 : (fm_M → Int → Int → Int → Prop)) (M : fm_M) (v3 : Int) (v4 : Int) (v5 : Int), C_At_drawnTo_17 k0 a2 post thr J_5 J_17 M v3 v4 v5 → (∀ (M : fm_M) (v3 : Int) (v4 : Int), J_5 M v3 v4 → fx_G p l e { frames := 3, cells := 1, slots := 6, locals := 68 } s m ([.ref (ad k0), .ref (ad 142), .int (Int32.ofInt a2)] : List Value).toArray below meth c D ad cA n0 0 post thr 6 M [(0, .ref (ad k0)), (1, .ref (ad 142)), (3, .int (Int32.ofInt v3)), (4, .int (Int32.ofInt v4))] 5 []) → (∀ (M : fm_M) (v3 : Int) (v4 : Int) (v5 : Int), J_17 M v3 v4 v5 → fx_G p l e { frames := 3, cells := 1, slots := 6, locals := 68 } s m ([.ref (ad k0), .ref (ad 142), .int (Int32.ofInt a2)] : List Value).toArray below meth c D ad cA n0 0 post thr 6 M [(0, .ref (ad k0)), (1, .ref (ad 142)), (3, .int (Int32.ofInt v3)), (4, .int (Int32.ofInt v4)), (5, .int (Int32.ofInt v5))] 17 []) → fx_G p l e { frames := 3, cells := 1, slots := 6, locals := 68 } s m ([.ref (ad k0), .ref (ad 142), .int (Int32.ofInt a2)] : List Value).toArray below meth c D ad cA n0 0 post thr 6 M [(0, .ref (ad k0)), (1, .ref (ad 142)), (3, .int (Int32.ofInt v3)), (4, .int (Int32.ofInt v4)), (5, .int (Int32.ofInt v5))] 17 [] := by
    intro J_5 J_17 M v3 v4 v5 hw hJ_5 hJ_17 H locs ls w hl
    refine lv_iload F.1 F.2.1 d_At_drawnTo_17 (lv_at hl 4 rfl) ?_
    refine lv_aload_n F.1 F.2.1 d_At_drawnTo_19 rfl (lv_at hl 1 rfl) ?_
    refine fm_gI F w cl_Fo 142 1 T_142 (by decide) rfl k_205 d_At_drawnTo_20 ?_
    obtain ⟨h56, hw⟩ := hw
    obtain ⟨h57, hw⟩ := hw
    refine fi_icmp_ge F d_At_drawnTo_23 (tgt := 59) (by decide) h56 h57 (fun hc58 => ?_) (fun hc58 => ?_)
    · have hw := hw.1 hc58
      refine fi_iinc (k := 3) (v := (v4 + 1)) F d_At_drawnTo_59 hl rfl rfl (by decide) rfl (fun ls hl => ?_)
      have hl : lv_has ls 6 [(4, .int (Int32.ofInt (v4 + 1))), (0, .ref (ad k0)), (1, .ref (ad 142)), (3, .int (Int32.ofInt v3)), (5, .int (Int32.ofInt v5))] := hl
      refine lv_goto F.1 F.2.1 d_At_drawnTo_62 (tgt := 5) (by decide) ?_
      exact hJ_5 M v3 (v4 + 1) hw H locs ls w (lv_sub hl [1, 2, 3, 0] rfl)
    · have hw := hw.2 hc58
      refine lv_iload_n F.1 F.2.1 d_At_drawnTo_26 rfl (lv_at hl 2 rfl) ?_
      refine lv_iload F.1 F.2.1 d_At_drawnTo_27 (lv_at hl 4 rfl) ?_
      refine fx_c w hno hlk (fx_rSN (As := [.int (Int32.ofInt v3), .int (Int32.ofInt v5)]) (rest := []) F w (met_CG_hasBit l hst9 D ad cA n0 M v3 v5 _ thr hw) e_CG_hasBit kt_CG_hasBit k_685 rfl hl.1 rfl (Nat.le_of_ble_eq_true rfl) ⟨⟨Nat.le_of_ble_eq_true rfl, Nat.le_of_ble_eq_true rfl⟩, Nat.le_of_ble_eq_true rfl, Nat.le_of_ble_eq_true rfl⟩ d_At_drawnTo_29) (fun r60 M59 hw H locs w => ?_)
      show W p l e _ s m _ below meth c H locs 0 0 _ (F0 m 32 ls [.int (Int32.ofInt r60)])
      obtain ⟨h61, hw⟩ := hw
      refine fi_if_ne F d_At_drawnTo_32 (tgt := 53) (by decide) h61 (fun hc62 => ?_) (fun hc62 => ?_)
      · have hw := hw.1 hc62
        refine fi_iinc (k := 4) (v := (v5 + 1)) F d_At_drawnTo_53 hl rfl rfl (by decide) rfl (fun ls hl => ?_)
        have hl : lv_has ls 6 [(5, .int (Int32.ofInt (v5 + 1))), (0, .ref (ad k0)), (1, .ref (ad 142)), (3, .int (Int32.ofInt v3)), (4, .int (Int32.ofInt v4))] := hl
        refine lv_goto F.1 F.2.1 d_At_drawnTo_56 (tgt := 17) (by decide) ?_
        exact hJ_17 M59 v3 v4 (v5 + 1) hw H locs ls w (lv_sub hl [1, 2, 3, 4, 0] rfl)
      · have hw := hw.2 hc62
        refine lv_aload_n F.1 F.2.1 d_At_drawnTo_35 rfl (lv_at hl 0 rfl) ?_
        refine lv_aload_n F.1 F.2.1 d_At_drawnTo_36 rfl (lv_at hl 1 rfl) ?_
        refine lv_iload F.1 F.2.1 d_At_drawnTo_37 (lv_at hl 4 rfl) ?_
        refine lv_iload_n F.1 F.2.1 d_At_drawnTo_39 rfl (lv_at hl 2 rfl) ?_
        obtain ⟨h63, hw⟩ := hw
        refine fx_c w hno hlk (fx_rV (As := [.ref (ad 142), .int (Int32.ofInt v5), .int (Int32.ofInt v3)]) (rest := []) F w cl_At k0 h63 (met_At_isDrawn l hst9 D ad cA n0 M59 k0 v5 v3 _ thr hw) e_At_isDrawn ki_At_isDrawn ks_At_isDrawn k_686 rfl hl.1 rfl (Nat.le_of_ble_eq_true rfl) ⟨⟨Nat.le_of_ble_eq_true rfl, Nat.le_of_ble_eq_true rfl⟩, Nat.le_of_ble_eq_true rfl, Nat.le_of_ble_eq_true rfl⟩ d_At_drawnTo_40) (fun r65 M64 hw H locs w => ?_)
        show W p l e _ s m _ below meth c H locs 0 0 _ (F0 m 43 ls [.int (Int32.ofInt r65)])
        obtain ⟨h66, hw⟩ := hw
        refine fi_if_eq F d_At_drawnTo_43 (tgt := 53) (by decide) h66 (fun hc67 => ?_) (fun hc67 => ?_)
        · have hw := hw.1 hc67
          refine fi_iinc (k := 4) (v := (v5 + 1)) F d_At_drawnTo_53 hl rfl rfl (by decide) rfl (fun ls hl => ?_)
          have hl : lv_has ls 6 [(5, .int (Int32.ofInt (v5 + 1))), (0, .ref (ad k0)), (1, .ref (ad 142)), (3, .int (Int32.ofInt v3)), (4, .int (Int32.ofInt v4))] := hl
          refine lv_goto F.1 F.2.1 d_At_drawnTo_56 (tgt := 17) (by decide) ?_
          exact hJ_17 M64 v3 v4 (v5 + 1) hw H locs ls w (lv_sub hl [1, 2, 3, 4, 0] rfl)
        · have hw := hw.2 hc67
          refine lv_iload_n F.1 F.2.1 d_At_drawnTo_46 rfl (lv_at hl 2 rfl) ?_
          refine lv_iconst (v := Int32.ofInt 1) F.1 F.2.1 d_At_drawnTo_47 (by decide) ?_
          refine lv_iload F.1 F.2.1 d_At_drawnTo_48 (lv_at hl 4 rfl) ?_
          refine fi_ishl F d_At_drawnTo_50 ?_
          refine fi_ior F d_At_drawnTo_51 ?_
          refine lv_istore_n F.1 F.2.1 d_At_drawnTo_52 rfl hl (by decide) rfl (fun ls hl => ?_)
          have hl : lv_has ls 6 [(3, .int (Int32.ofInt (jor v3 (jshl 1 v5)))), (0, .ref (ad k0)), (1, .ref (ad 142)), (4, .int (Int32.ofInt v4)), (5, .int (Int32.ofInt v5))] := hl
          refine fi_iinc (k := 4) (v := (v5 + 1)) F d_At_drawnTo_53 hl rfl rfl (by decide) rfl (fun ls hl => ?_)
          have hl : lv_has ls 6 [(5, .int (Int32.ofInt (v5 + 1))), (3, .int (Int32.ofInt (jor v3 (jshl 1 v5)))), (0, .ref (ad k0)), (1, .ref (ad 142)), (4, .int (Int32.ofInt v4))] := hl
          refine lv_goto F.1 F.2.1 d_At_drawnTo_56 (tgt := 17) (by decide) ?_
          exact hJ_17 M64 (jor v3 (jshl 1 v5)) v4 (v5 + 1) hw H locs ls w (lv_sub hl [2, 3, 1, 4, 0] rfl)
  have blk_17 : ∀ (J_5 : (fm_M → Int → Int → Prop)) (M : fm_M) (v3 : Int) (v4 : Int) (v5 : Int), B_At_drawnTo_17 k0 a2 post thr J_5 M v3 v4 v5 → (∀ (M : fm_M) (v3 : Int) (v4 : Int), J_5 M v3 v4 → fx_G p l e { frames := 3, cells := 1, slots := 6, locals := 68 } s m ([.ref (ad k0), .ref (ad 142), .int (Int32.ofInt a2)] : List Value).toArray below meth c D ad cA n0 0 post thr 6 M [(0, .ref (ad k0)), (1, .ref (ad 142)), (3, .int (Int32.ofInt v3)), (4, .int (Int32.ofInt v4))] 5 []) → fx_G p l e { frames := 3, cells := 1, slots := 6, locals := 68 } s m ([.ref (ad k0), .ref (ad 142), .int (Int32.ofInt a2)] : List Value).toArray below meth c D ad cA n0 0 post thr 6 M [(0, .ref (ad k0)), (1, .ref (ad 142)), (3, .int (Int32.ofInt v3)), (4, .int (Int32.ofInt v4)), (5, .int (Int32.ofInt v5))] 17 [] := by
    intro J_5 M v3 v4 v5 hw hJ_5
    obtain ⟨I, μ, hI, hB⟩ := hw
    have key : ∀ (q : Nat) (M : fm_M) (v3 : Int) (v4 : Int) (v5 : Int), μ M v3 v4 v5 < q → I M v3 v4 v5 → fx_G p l e { frames := 3, cells := 1, slots := 6, locals := 68 } s m ([.ref (ad k0), .ref (ad 142), .int (Int32.ofInt a2)] : List Value).toArray below meth c D ad cA n0 0 post thr 6 M [(0, .ref (ad k0)), (1, .ref (ad 142)), (3, .int (Int32.ofInt v3)), (4, .int (Int32.ofInt v4)), (5, .int (Int32.ofInt v5))] 17 [] := by
      intro q
      induction q with
      | zero => intro M v3 v4 v5 h _; exact absurd h (Nat.not_lt_zero _)
      | succ q ih =>
        intro M v3 v4 v5 hμ hI
        exact blc_17 J_5 (fun M' v3' v4' v5' => I M' v3' v4' v5' ∧ μ M' v3' v4' v5' < μ M v3 v4 v5) M v3 v4 v5 (hB M v3 v4 v5 hI) hJ_5 (fun M' v3' v4' v5' hh => ih M' v3' v4' v5' (Nat.lt_of_lt_of_le hh.2 (Nat.le_of_lt_succ hμ)) hh.1)
    exact key _ M v3 v4 v5 (Nat.lt_succ_self _) hI
  have blc_5 : ∀ (J_5 : (fm_M → Int → Int → Prop)) (M : fm_M) (v3 : Int) (v4 : Int), C_At_drawnTo_5 k0 a2 post thr J_5 M v3 v4 → (∀ (M : fm_M) (v3 : Int) (v4 : Int), J_5 M v3 v4 → fx_G p l e { frames := 3, cells := 1, slots := 6, locals := 68 } s m ([.ref (ad k0), .ref (ad 142), .int (Int32.ofInt a2)] : List Value).toArray below meth c D ad cA n0 0 post thr 6 M [(0, .ref (ad k0)), (1, .ref (ad 142)), (3, .int (Int32.ofInt v3)), (4, .int (Int32.ofInt v4))] 5 []) → fx_G p l e { frames := 3, cells := 1, slots := 6, locals := 68 } s m ([.ref (ad k0), .ref (ad 142), .int (Int32.ofInt a2)] : List Value).toArray below meth c D ad cA n0 0 post thr 6 M [(0, .ref (ad k0)), (1, .ref (ad 142)), (3, .int (Int32.ofInt v3)), (4, .int (Int32.ofInt v4))] 5 [] := by
    intro J_5 M v3 v4 hw hJ_5 H locs ls w hl
    refine lv_iload F.1 F.2.1 d_At_drawnTo_5 (lv_at hl 3 rfl) ?_
    refine lv_aload_n F.1 F.2.1 d_At_drawnTo_7 rfl (lv_at hl 1 rfl) ?_
    refine fm_gI F w cl_Fo 142 1 T_142 (by decide) rfl k_205 d_At_drawnTo_8 ?_
    obtain ⟨h68, hw⟩ := hw
    obtain ⟨h69, hw⟩ := hw
    refine fi_icmp_ge F d_At_drawnTo_11 (tgt := 65) (by decide) h68 h69 (fun hc70 => ?_) (fun hc70 => ?_)
    · have hw := hw.1 hc70
      refine lv_iload_n F.1 F.2.1 d_At_drawnTo_65 rfl (lv_at hl 2 rfl) ?_
      exact fx_iret F w hr hlk hw d_At_drawnTo_66
    · have hw := hw.2 hc70
      refine lv_iconst (v := Int32.ofInt 0) F.1 F.2.1 d_At_drawnTo_14 (by decide) ?_
      refine lv_istore F.1 F.2.1 d_At_drawnTo_15 hl (by decide) rfl (fun ls hl => ?_)
      have hl : lv_has ls 6 [(5, .int (Int32.ofInt 0)), (0, .ref (ad k0)), (1, .ref (ad 142)), (3, .int (Int32.ofInt v3)), (4, .int (Int32.ofInt v4))] := hl
      exact blk_17 J_5 M v3 v4 0 hw hJ_5 H locs ls w (lv_sub hl [1, 2, 3, 4, 0] rfl)
  have blk_5 : ∀ (M : fm_M) (v3 : Int) (v4 : Int), B_At_drawnTo_5 k0 a2 post thr M v3 v4 → fx_G p l e { frames := 3, cells := 1, slots := 6, locals := 68 } s m ([.ref (ad k0), .ref (ad 142), .int (Int32.ofInt a2)] : List Value).toArray below meth c D ad cA n0 0 post thr 6 M [(0, .ref (ad k0)), (1, .ref (ad 142)), (3, .int (Int32.ofInt v3)), (4, .int (Int32.ofInt v4))] 5 [] := by
    intro M v3 v4 hw
    obtain ⟨I, μ, hI, hB⟩ := hw
    have key : ∀ (q : Nat) (M : fm_M) (v3 : Int) (v4 : Int), μ M v3 v4 < q → I M v3 v4 → fx_G p l e { frames := 3, cells := 1, slots := 6, locals := 68 } s m ([.ref (ad k0), .ref (ad 142), .int (Int32.ofInt a2)] : List Value).toArray below meth c D ad cA n0 0 post thr 6 M [(0, .ref (ad k0)), (1, .ref (ad 142)), (3, .int (Int32.ofInt v3)), (4, .int (Int32.ofInt v4))] 5 [] := by
      intro q
      induction q with
      | zero => intro M v3 v4 h _; exact absurd h (Nat.not_lt_zero _)
      | succ q ih =>
        intro M v3 v4 hμ hI
        exact blc_5 (fun M' v3' v4' => I M' v3' v4' ∧ μ M' v3' v4' < μ M v3 v4) M v3 v4 (hB M v3 v4 hI) (fun M' v3' v4' hh => ih M' v3' v4' (Nat.lt_of_lt_of_le hh.2 (Nat.le_of_lt_succ hμ)) hh.1)
    exact key _ M v3 v4 (Nat.lt_succ_self _) hI
  have hl : lv_has ls 6 [(0, .ref (ad k0)), (1, .ref (ad 142)), (2, .int (Int32.ofInt a2))] := hl
  suffices h9 : fx_G p l e { frames := 3, cells := 1, slots := 6, locals := 68 } s m ([.ref (ad k0), .ref (ad 142), .int (Int32.ofInt a2)] : List Value).toArray below meth c D ad cA n0 0 post thr 6 M [(0, .ref (ad k0)), (1, .ref (ad 142)), (2, .int (Int32.ofInt a2))] 0 [] from h9 _ _ _ w hl
  intro H locs ls w hl
  refine lv_iload_n F.1 F.2.1 d_At_drawnTo_0 rfl (lv_at hl 2 rfl) ?_
  refine lv_istore_n F.1 F.2.1 d_At_drawnTo_1 rfl hl (by decide) rfl (fun ls hl => ?_)
  have hl : lv_has ls 6 [(3, .int (Int32.ofInt a2)), (0, .ref (ad k0)), (1, .ref (ad 142)), (2, .int (Int32.ofInt a2))] := hl
  refine lv_iconst (v := Int32.ofInt 0) F.1 F.2.1 d_At_drawnTo_2 (by decide) ?_
  refine lv_istore F.1 F.2.1 d_At_drawnTo_3 hl (by decide) rfl (fun ls hl => ?_)
  have hl : lv_has ls 6 [(4, .int (Int32.ofInt 0)), (3, .int (Int32.ofInt a2)), (0, .ref (ad k0)), (1, .ref (ad 142)), (2, .int (Int32.ofInt a2))] := hl
  exact blk_5 M a2 0 hw H locs ls w (lv_sub hl [2, 3, 1, 0] rfl)
