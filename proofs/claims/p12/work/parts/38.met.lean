set_option maxHeartbeats 4000000 in
set_option maxRecDepth 100000 in
theorem met_CG_states (l : Launch) (hst9 : l.stackTraces = false) (D : va_G) (ad : Nat → Nat) (cA : Nat → ClassId) (n0 : Nat) (M : fm_M) (post : Int → fm_M → Prop) (thr : String → fm_M → Prop) (hw : wp_CG_states M post thr) : fx_Met l y_CG_states (Cond.code y_CG_states b_CG_states 1 (some .int) :: tb) { frames := 0, cells := 1, slots := 6, locals := 0 } [.ref (ad 0)] D ad cA n0 M 0 post thr := by
  refine fx_met (by decide) (Nat.le_of_ble_eq_true rfl) (fun p e s m below meth c ls F w hno hr hlk hl => ?_)
  have hl : lv_has ls 1 [(0, .ref (ad 0))] := hl
  suffices h9 : fx_G p l e { frames := 0, cells := 1, slots := 6, locals := 0 } s m ([.ref (ad 0)] : List Value).toArray below meth c D ad cA n0 0 post thr 1 M [(0, .ref (ad 0))] 0 [] from h9 _ _ _ w hl
  intro H locs ls w hl
  refine lv_aload_n F.1 F.2.1 d_CG_states_0 rfl (lv_at hl 0 rfl) ?_
  refine fm_gO F w cl_CG 0 3 142 T_0 (by decide) rfl rfl k_330 d_CG_states_1 ?_
  refine fm_gI F w cl_Fo 142 1 T_142 (by decide) rfl k_207 d_CG_states_4 ?_
  exact fx_iret F w hr hlk hw d_CG_states_7
set_option maxHeartbeats 4000000 in
set_option maxRecDepth 100000 in
theorem met_CG_mixed (l : Launch) (hst9 : l.stackTraces = false) (D : va_G) (ad : Nat → Nat) (cA : Nat → ClassId) (n0 : Nat) (M : fm_M) (post : Int → fm_M → Prop) (thr : String → fm_M → Prop) (hw : wp_CG_mixed M post thr) : fx_Met l y_CG_mixed (Cond.code y_CG_mixed b_CG_mixed 1 (some .int) :: tb) { frames := 0, cells := 1, slots := 6, locals := 0 } [.ref (ad 0)] D ad cA n0 M 0 post thr := by
  refine fx_met (by decide) (Nat.le_of_ble_eq_true rfl) (fun p e s m below meth c ls F w hno hr hlk hl => ?_)
  have hl : lv_has ls 1 [(0, .ref (ad 0))] := hl
  suffices h9 : fx_G p l e { frames := 0, cells := 1, slots := 6, locals := 0 } s m ([.ref (ad 0)] : List Value).toArray below meth c D ad cA n0 0 post thr 1 M [(0, .ref (ad 0))] 0 [] from h9 _ _ _ w hl
  intro H locs ls w hl
  refine lv_aload_n F.1 F.2.1 d_CG_mixed_0 rfl (lv_at hl 0 rfl) ?_
  refine fm_gO F w cl_CG 0 3 142 T_0 (by decide) rfl rfl k_330 d_CG_mixed_1 ?_
  refine fm_gI F w cl_Fo 142 2 T_142 (by decide) rfl k_209 d_CG_mixed_4 ?_
  exact fx_iret F w hr hlk hw d_CG_mixed_7
set_option maxHeartbeats 4000000 in
set_option maxRecDepth 100000 in
theorem met_Fo_has (l : Launch) (hst9 : l.stackTraces = false) (D : va_G) (ad : Nat → Nat) (cA : Nat → ClassId) (n0 : Nat) (M : fm_M) (a1 : Int) (post : Int → fm_M → Prop) (thr : String → fm_M → Prop) (hw : wp_Fo_has M a1 post thr) : fx_Met l y_Fo_has (Cond.code y_Fo_has b_Fo_has 2 (some .boolean) :: tb) { frames := 0, cells := 1, slots := 6, locals := 0 } [.ref (ad 142), .int (Int32.ofInt a1)] D ad cA n0 M 0 post thr := by
  refine fx_met (by decide) (Nat.le_of_ble_eq_true rfl) (fun p e s m below meth c ls F w hno hr hlk hl => ?_)
  have hl : lv_has ls 2 [(0, .ref (ad 142)), (1, .int (Int32.ofInt a1))] := hl
  suffices h9 : fx_G p l e { frames := 0, cells := 1, slots := 6, locals := 0 } s m ([.ref (ad 142), .int (Int32.ofInt a1)] : List Value).toArray below meth c D ad cA n0 0 post thr 2 M [(0, .ref (ad 142)), (1, .int (Int32.ofInt a1))] 0 [] from h9 _ _ _ w hl
  intro H locs ls w hl
  refine lv_iload_n F.1 F.2.1 d_Fo_has_0 rfl (lv_at hl 1 rfl) ?_
  obtain ⟨h5, hw⟩ := hw
  refine fi_if_lt F d_Fo_has_1 (tgt := 16) (by decide) h5 (fun hc6 => ?_) (fun hc6 => ?_)
  · have hw := hw.1 hc6
    refine lv_iconst (v := Int32.ofInt 0) F.1 F.2.1 d_Fo_has_16 (by decide) ?_
    exact fx_zret F w hr hlk (fx_nz (by decide)) hw d_Fo_has_17
  · have hw := hw.2 hc6
    refine lv_iload_n F.1 F.2.1 d_Fo_has_4 rfl (lv_at hl 1 rfl) ?_
    refine lv_aload_n F.1 F.2.1 d_Fo_has_5 rfl (lv_at hl 0 rfl) ?_
    refine fm_gI F w cl_Fo 142 1 T_142 (by decide) rfl k_203 d_Fo_has_6 ?_
    obtain ⟨h7, hw⟩ := hw
    refine fi_icmp_ge F d_Fo_has_9 (tgt := 16) (by decide) h5 h7 (fun hc8 => ?_) (fun hc8 => ?_)
    · have hw := hw.1 hc8
      refine lv_iconst (v := Int32.ofInt 0) F.1 F.2.1 d_Fo_has_16 (by decide) ?_
      exact fx_zret F w hr hlk (fx_nz (by decide)) hw d_Fo_has_17
    · have hw := hw.2 hc8
      refine lv_iconst (v := Int32.ofInt 1) F.1 F.2.1 d_Fo_has_12 (by decide) ?_
      refine lv_goto F.1 F.2.1 d_Fo_has_13 (tgt := 17) (by decide) ?_
      exact fx_zret F w hr hlk (fx_nz (by decide)) hw d_Fo_has_17
set_option maxHeartbeats 4000000 in
set_option maxRecDepth 100000 in
theorem met_CG_variable (l : Launch) (hst9 : l.stackTraces = false) (D : va_G) (ad : Nat → Nat) (cA : Nat → ClassId) (n0 : Nat) (M : fm_M) (a1 : Int) (a2 : Int) (post : Int → fm_M → Prop) (thr : String → fm_M → Prop) (hw : wp_CG_variable M a1 a2 post thr) : fx_Met l y_CG_variable (Cond.code y_CG_variable b_CG_variable 3 (some .int) :: tb) { frames := 1, cells := 1, slots := 6, locals := 21 } [.ref (ad 0), .int (Int32.ofInt a1), .int (Int32.ofInt a2)] D ad cA n0 M 0 post thr := by
  refine fx_met (by decide) (Nat.le_of_ble_eq_true rfl) (fun p e s m below meth c ls F w hno hr hlk hl => ?_)
  have hl : lv_has ls 3 [(0, .ref (ad 0)), (1, .int (Int32.ofInt a1)), (2, .int (Int32.ofInt a2))] := hl
  suffices h9 : fx_G p l e { frames := 1, cells := 1, slots := 6, locals := 21 } s m ([.ref (ad 0), .int (Int32.ofInt a1), .int (Int32.ofInt a2)] : List Value).toArray below meth c D ad cA n0 0 post thr 3 M [(0, .ref (ad 0)), (1, .int (Int32.ofInt a1)), (2, .int (Int32.ofInt a2))] 0 [] from h9 _ _ _ w hl
  intro H locs ls w hl
  refine lv_aload_n F.1 F.2.1 d_CG_variable_0 rfl (lv_at hl 0 rfl) ?_
  refine fm_gO F w cl_CG 0 3 142 T_0 (by decide) rfl rfl k_330 d_CG_variable_1 ?_
  refine lv_iload_n F.1 F.2.1 d_CG_variable_4 rfl (lv_at hl 1 rfl) ?_
  refine fx_c w hno hlk (fx_rV (As := [.int (Int32.ofInt a1)]) (rest := []) F w cl_Fo 142 T_142 (met_Fo_has l hst9 D ad cA n0 M a1 _ thr hw) e_Fo_has ki_Fo_has ks_Fo_has k_387 rfl hl.1 rfl (Nat.le_of_ble_eq_true rfl) ⟨⟨Nat.le_of_ble_eq_true rfl, Nat.le_of_ble_eq_true rfl⟩, Nat.le_of_ble_eq_true rfl, Nat.le_of_ble_eq_true rfl⟩ d_CG_variable_5) (fun r17 M16 hw H locs w => ?_)
  show W p l e _ s m _ below meth c H locs 0 0 _ (F0 m 8 ls [.int (Int32.ofInt r17)])
  obtain ⟨h18, hw⟩ := hw
  refine fi_if_eq F d_CG_variable_8 (tgt := 34) (by decide) h18 (fun hc19 => ?_) (fun hc19 => ?_)
  · have hw := hw.1 hc19
    refine lv_iconst (v := Int32.ofInt (-1)) F.1 F.2.1 d_CG_variable_34 (by decide) ?_
    exact fx_iret F w hr hlk hw d_CG_variable_35
  · have hw := hw.2 hc19
    refine lv_iload_n F.1 F.2.1 d_CG_variable_11 rfl (lv_at hl 2 rfl) ?_
    obtain ⟨h20, hw⟩ := hw
    refine fi_if_lt F d_CG_variable_12 (tgt := 34) (by decide) h20 (fun hc21 => ?_) (fun hc21 => ?_)
    · have hw := hw.1 hc21
      refine lv_iconst (v := Int32.ofInt (-1)) F.1 F.2.1 d_CG_variable_34 (by decide) ?_
      exact fx_iret F w hr hlk hw d_CG_variable_35
    · have hw := hw.2 hc21
      refine lv_iload_n F.1 F.2.1 d_CG_variable_15 rfl (lv_at hl 2 rfl) ?_
      refine lv_iconst (v := Int32.ofInt 3) F.1 F.2.1 d_CG_variable_16 (by decide) ?_
      refine fi_icmp_ge F d_CG_variable_17 (tgt := 34) (by decide) h20 (rgl (by decide)) (fun hc22 => ?_) (fun hc22 => ?_)
      · have hw := hw.1 hc22
        refine lv_iconst (v := Int32.ofInt (-1)) F.1 F.2.1 d_CG_variable_34 (by decide) ?_
        exact fx_iret F w hr hlk hw d_CG_variable_35
      · have hw := hw.2 hc22
        refine lv_aload_n F.1 F.2.1 d_CG_variable_20 rfl (lv_at hl 0 rfl) ?_
        refine fm_gO F w cl_CG 0 3 142 T_0 (by decide) rfl rfl k_330 d_CG_variable_21 ?_
        refine fm_gR F w cl_Fo 142 0 T_142 (by decide) rfl k_202 d_CG_variable_24 ?_
        refine lv_iload_n F.1 F.2.1 d_CG_variable_27 rfl (lv_at hl 2 rfl) ?_
        obtain ⟨h23, hw⟩ := hw
        refine fx_c w hno hlk (fx_rV (As := [.int (Int32.ofInt a2)]) (rest := []) F w cl_Gm ((M16 142 0).toNat) h23 (met_Gm_hasVariable l hst9 D ad cA n0 M16 ((M16 142 0).toNat) a2 _ thr hw) e_Gm_hasVariable ki_Gm_hasVariable ks_Gm_hasVariable k_391 rfl hl.1 rfl (Nat.le_of_ble_eq_true rfl) ⟨⟨Nat.le_of_ble_eq_true rfl, Nat.le_of_ble_eq_true rfl⟩, Nat.le_of_ble_eq_true rfl, Nat.le_of_ble_eq_true rfl⟩ d_CG_variable_28) (fun r25 M24 hw H locs w => ?_)
        show W p l e _ s m _ below meth c H locs 0 0 _ (F0 m 31 ls [.int (Int32.ofInt r25)])
        obtain ⟨h26, hw⟩ := hw
        refine fi_if_ne F d_CG_variable_31 (tgt := 36) (by decide) h26 (fun hc27 => ?_) (fun hc27 => ?_)
        · have hw := hw.1 hc27
          refine lv_aload_n F.1 F.2.1 d_CG_variable_36 rfl (lv_at hl 0 rfl) ?_
          refine fm_gO F w cl_CG 0 3 142 T_0 (by decide) rfl rfl k_330 d_CG_variable_37 ?_
          refine fm_gO F w cl_Fo 142 6 280 T_142 (by decide) rfl rfl k_217 d_CG_variable_40 ?_
          refine lv_iload_n F.1 F.2.1 d_CG_variable_43 rfl (lv_at hl 1 rfl) ?_
          obtain ⟨h28, hw⟩ := hw
          refine fm_aR F w 280 0 (280 + 1 + a1.toNat) T_280 rfl (by decide) h28 rfl d_CG_variable_44 ?_
          refine lv_iload_n F.1 F.2.1 d_CG_variable_45 rfl (lv_at hl 2 rfl) ?_
          obtain ⟨h29, hw⟩ := hw
          obtain ⟨h30, hw⟩ := hw
          refine fm_aI F w (280 + 1 + a1.toNat) h29 (by decide) h30 d_CG_variable_46 ?_
          exact fx_iret F w hr hlk hw d_CG_variable_47
        · have hw := hw.2 hc27
          refine lv_iconst (v := Int32.ofInt (-1)) F.1 F.2.1 d_CG_variable_34 (by decide) ?_
          exact fx_iret F w hr hlk hw d_CG_variable_35
set_option maxHeartbeats 4000000 in
set_option maxRecDepth 100000 in
theorem met_CG_target (l : Launch) (hst9 : l.stackTraces = false) (D : va_G) (ad : Nat → Nat) (cA : Nat → ClassId) (n0 : Nat) (M : fm_M) (a1 : Int) (post : Int → fm_M → Prop) (thr : String → fm_M → Prop) (hw : wp_CG_target M a1 post thr) : fx_Met l y_CG_target (Cond.code y_CG_target b_CG_target 2 (some .boolean) :: tb) { frames := 1, cells := 1, slots := 6, locals := 21 } [.ref (ad 0), .int (Int32.ofInt a1)] D ad cA n0 M 0 post thr := by
  refine fx_met (by decide) (Nat.le_of_ble_eq_true rfl) (fun p e s m below meth c ls F w hno hr hlk hl => ?_)
  have hl : lv_has ls 2 [(0, .ref (ad 0)), (1, .int (Int32.ofInt a1))] := hl
  suffices h9 : fx_G p l e { frames := 1, cells := 1, slots := 6, locals := 21 } s m ([.ref (ad 0), .int (Int32.ofInt a1)] : List Value).toArray below meth c D ad cA n0 0 post thr 2 M [(0, .ref (ad 0)), (1, .int (Int32.ofInt a1))] 0 [] from h9 _ _ _ w hl
  intro H locs ls w hl
  refine lv_aload_n F.1 F.2.1 d_CG_target_0 rfl (lv_at hl 0 rfl) ?_
  refine fm_gO F w cl_CG 0 3 142 T_0 (by decide) rfl rfl k_330 d_CG_target_1 ?_
  refine lv_iload_n F.1 F.2.1 d_CG_target_4 rfl (lv_at hl 1 rfl) ?_
  refine fx_c w hno hlk (fx_rV (As := [.int (Int32.ofInt a1)]) (rest := []) F w cl_Fo 142 T_142 (met_Fo_has l hst9 D ad cA n0 M a1 _ thr hw) e_Fo_has ki_Fo_has ks_Fo_has k_387 rfl hl.1 rfl (Nat.le_of_ble_eq_true rfl) ⟨⟨Nat.le_of_ble_eq_true rfl, Nat.le_of_ble_eq_true rfl⟩, Nat.le_of_ble_eq_true rfl, Nat.le_of_ble_eq_true rfl⟩ d_CG_target_5) (fun r10 M9 hw H locs w => ?_)
  show W p l e _ s m _ below meth c H locs 0 0 _ (F0 m 8 ls [.int (Int32.ofInt r10)])
  obtain ⟨h11, hw⟩ := hw
  refine fi_if_eq F d_CG_target_8 (tgt := 29) (by decide) h11 (fun hc12 => ?_) (fun hc12 => ?_)
  · have hw := hw.1 hc12
    refine lv_iconst (v := Int32.ofInt 0) F.1 F.2.1 d_CG_target_29 (by decide) ?_
    exact fx_zret F w hr hlk (fx_nz (by decide)) hw d_CG_target_30
  · have hw := hw.2 hc12
    refine lv_aload_n F.1 F.2.1 d_CG_target_11 rfl (lv_at hl 0 rfl) ?_
    refine fm_gO F w cl_CG 0 3 142 T_0 (by decide) rfl rfl k_330 d_CG_target_12 ?_
    refine fm_gI F w cl_Fo 142 3 T_142 (by decide) rfl k_213 d_CG_target_15 ?_
    refine lv_iload_n F.1 F.2.1 d_CG_target_18 rfl (lv_at hl 1 rfl) ?_
    refine fx_c w hno hlk (fx_rS (As := [.int (Int32.ofInt (M9 142 3)), .int (Int32.ofInt a1)]) (rest := []) F w (met_CG_hasBit l hst9 D ad cA n0 M9 (M9 142 3) a1 _ thr hw) e_CG_hasBit kt_CG_hasBit k_399 rfl hl.1 rfl (Nat.le_of_ble_eq_true rfl) ⟨⟨Nat.le_of_ble_eq_true rfl, Nat.le_of_ble_eq_true rfl⟩, Nat.le_of_ble_eq_true rfl, Nat.le_of_ble_eq_true rfl⟩ d_CG_target_19) (fun r14 M13 hw H locs w => ?_)
    show W p l e _ s m _ below meth c H locs 0 0 _ (F0 m 22 ls [.int (Int32.ofInt r14)])
    obtain ⟨h15, hw⟩ := hw
    refine fi_if_eq F d_CG_target_22 (tgt := 29) (by decide) h15 (fun hc16 => ?_) (fun hc16 => ?_)
    · have hw := hw.1 hc16
      refine lv_iconst (v := Int32.ofInt 0) F.1 F.2.1 d_CG_target_29 (by decide) ?_
      exact fx_zret F w hr hlk (fx_nz (by decide)) hw d_CG_target_30
    · have hw := hw.2 hc16
      refine lv_iconst (v := Int32.ofInt 1) F.1 F.2.1 d_CG_target_25 (by decide) ?_
      refine lv_goto F.1 F.2.1 d_CG_target_26 (tgt := 30) (by decide) ?_
      exact fx_zret F w hr hlk (fx_nz (by decide)) hw d_CG_target_30
set_option maxHeartbeats 4000000 in
set_option maxRecDepth 100000 in
theorem met_CG_owner (l : Launch) (hst9 : l.stackTraces = false) (D : va_G) (ad : Nat → Nat) (cA : Nat → ClassId) (n0 : Nat) (M : fm_M) (a1 : Int) (post : Int → fm_M → Prop) (thr : String → fm_M → Prop) (hw : wp_CG_owner M a1 post thr) : fx_Met l y_CG_owner (Cond.code y_CG_owner b_CG_owner 2 (some .int) :: tb) { frames := 1, cells := 1, slots := 6, locals := 21 } [.ref (ad 0), .int (Int32.ofInt a1)] D ad cA n0 M 0 post thr := by
  refine fx_met (by decide) (Nat.le_of_ble_eq_true rfl) (fun p e s m below meth c ls F w hno hr hlk hl => ?_)
  have hl : lv_has ls 2 [(0, .ref (ad 0)), (1, .int (Int32.ofInt a1))] := hl
  suffices h9 : fx_G p l e { frames := 1, cells := 1, slots := 6, locals := 21 } s m ([.ref (ad 0), .int (Int32.ofInt a1)] : List Value).toArray below meth c D ad cA n0 0 post thr 2 M [(0, .ref (ad 0)), (1, .int (Int32.ofInt a1))] 0 [] from h9 _ _ _ w hl
  intro H locs ls w hl
  refine lv_aload_n F.1 F.2.1 d_CG_owner_0 rfl (lv_at hl 0 rfl) ?_
  refine fm_gO F w cl_CG 0 3 142 T_0 (by decide) rfl rfl k_330 d_CG_owner_1 ?_
  refine lv_iload_n F.1 F.2.1 d_CG_owner_4 rfl (lv_at hl 1 rfl) ?_
  refine fx_c w hno hlk (fx_rV (As := [.int (Int32.ofInt a1)]) (rest := []) F w cl_Fo 142 T_142 (met_Fo_has l hst9 D ad cA n0 M a1 _ thr hw) e_Fo_has ki_Fo_has ks_Fo_has k_387 rfl hl.1 rfl (Nat.le_of_ble_eq_true rfl) ⟨⟨Nat.le_of_ble_eq_true rfl, Nat.le_of_ble_eq_true rfl⟩, Nat.le_of_ble_eq_true rfl, Nat.le_of_ble_eq_true rfl⟩ d_CG_owner_5) (fun r14 M13 hw H locs w => ?_)
  show W p l e _ s m _ below meth c H locs 0 0 _ (F0 m 8 ls [.int (Int32.ofInt r14)])
  obtain ⟨h15, hw⟩ := hw
  refine fi_if_eq F d_CG_owner_8 (tgt := 22) (by decide) h15 (fun hc16 => ?_) (fun hc16 => ?_)
  · have hw := hw.1 hc16
    refine lv_iconst (v := Int32.ofInt (-1)) F.1 F.2.1 d_CG_owner_22 (by decide) ?_
    exact fx_iret F w hr hlk hw d_CG_owner_23
  · have hw := hw.2 hc16
    refine lv_aload_n F.1 F.2.1 d_CG_owner_11 rfl (lv_at hl 0 rfl) ?_
    refine fm_gO F w cl_CG 0 3 142 T_0 (by decide) rfl rfl k_330 d_CG_owner_12 ?_
    refine lv_iload_n F.1 F.2.1 d_CG_owner_15 rfl (lv_at hl 1 rfl) ?_
    refine fx_c w hno hlk (fx_rV (As := [.int (Int32.ofInt a1)]) (rest := []) F w cl_Fo 142 T_142 (met_Fo_choicesOf l hst9 D ad cA n0 M13 a1 _ thr hw) e_Fo_choicesOf ki_Fo_choicesOf ks_Fo_choicesOf k_406 rfl hl.1 rfl (Nat.le_of_ble_eq_true rfl) ⟨⟨Nat.le_of_ble_eq_true rfl, Nat.le_of_ble_eq_true rfl⟩, Nat.le_of_ble_eq_true rfl, Nat.le_of_ble_eq_true rfl⟩ d_CG_owner_16) (fun r18 M17 hw H locs w => ?_)
    show W p l e _ s m _ below meth c H locs 0 0 _ (F0 m 19 ls [.int (Int32.ofInt r18)])
    obtain ⟨h19, hw⟩ := hw
    refine fi_if_ne F d_CG_owner_19 (tgt := 24) (by decide) h19 (fun hc20 => ?_) (fun hc20 => ?_)
    · have hw := hw.1 hc20
      refine lv_aload_n F.1 F.2.1 d_CG_owner_24 rfl (lv_at hl 0 rfl) ?_
      refine fm_gO F w cl_CG 0 3 142 T_0 (by decide) rfl rfl k_330 d_CG_owner_25 ?_
      refine lv_iload_n F.1 F.2.1 d_CG_owner_28 rfl (lv_at hl 1 rfl) ?_
      refine fx_c w hno hlk (fx_rV (As := [.int (Int32.ofInt a1)]) (rest := []) F w cl_Fo 142 T_142 (met_Fo_isOfMax l hst9 D ad cA n0 M17 a1 _ thr hw) e_Fo_isOfMax ki_Fo_isOfMax ks_Fo_isOfMax k_410 rfl hl.1 rfl (Nat.le_of_ble_eq_true rfl) ⟨⟨Nat.le_of_ble_eq_true rfl, Nat.le_of_ble_eq_true rfl⟩, Nat.le_of_ble_eq_true rfl, Nat.le_of_ble_eq_true rfl⟩ d_CG_owner_29) (fun r22 M21 hw H locs w => ?_)
      show W p l e _ s m _ below meth c H locs 0 0 _ (F0 m 32 ls [.int (Int32.ofInt r22)])
      obtain ⟨h23, hw⟩ := hw
      refine fi_if_eq F d_CG_owner_32 (tgt := 39) (by decide) h23 (fun hc24 => ?_) (fun hc24 => ?_)
      · have hw := hw.1 hc24
        refine lv_iconst (v := Int32.ofInt 0) F.1 F.2.1 d_CG_owner_39 (by decide) ?_
        exact fx_iret F w hr hlk hw d_CG_owner_40
      · have hw := hw.2 hc24
        refine lv_iconst (v := Int32.ofInt 1) F.1 F.2.1 d_CG_owner_35 (by decide) ?_
        refine lv_goto F.1 F.2.1 d_CG_owner_36 (tgt := 40) (by decide) ?_
        exact fx_iret F w hr hlk hw d_CG_owner_40
    · have hw := hw.2 hc20
      refine lv_iconst (v := Int32.ofInt (-1)) F.1 F.2.1 d_CG_owner_22 (by decide) ?_
      exact fx_iret F w hr hlk hw d_CG_owner_23
set_option maxHeartbeats 4000000 in
set_option maxRecDepth 100000 in
theorem met_CG_choice (l : Launch) (hst9 : l.stackTraces = false) (D : va_G) (ad : Nat → Nat) (cA : Nat → ClassId) (n0 : Nat) (M : fm_M) (a1 : Int) (a2 : Int) (post : Int → fm_M → Prop) (thr : String → fm_M → Prop) (hw : wp_CG_choice M a1 a2 post thr) : fx_Met l y_CG_choice (Cond.code y_CG_choice b_CG_choice 6 (some .int) :: tb) { frames := 1, cells := 1, slots := 6, locals := 21 } [.ref (ad 0), .int (Int32.ofInt a1), .int (Int32.ofInt a2)] D ad cA n0 M 0 post thr := by
  refine fx_met (by decide) (Nat.le_of_ble_eq_true rfl) (fun p e s m below meth c ls F w hno hr hlk hl => ?_)
  have blc_32 : ∀ (J_32 : (fm_M → Int → Int → Int → Prop)) (M : fm_M) (v3 : Int) (v4 : Int) (v5 : Int), C_CG_choice_32 a1 a2 post thr J_32 M v3 v4 v5 → (∀ (M : fm_M) (v3 : Int) (v4 : Int) (v5 : Int), J_32 M v3 v4 v5 → fx_G p l e { frames := 1, cells := 1, slots := 6, locals := 21 } s m ([.ref (ad 0), .int (Int32.ofInt a1), .int (Int32.ofInt a2)] : List Value).toArray below meth c D ad cA n0 0 post thr 6 M [(2, .int (Int32.ofInt a2)), (3, .int (Int32.ofInt v3)), (4, .int (Int32.ofInt v4)), (5, .int (Int32.ofInt v5))] 32 []) → fx_G p l e { frames := 1, cells := 1, slots := 6, locals := 21 } s m ([.ref (ad 0), .int (Int32.ofInt a1), .int (Int32.ofInt a2)] : List Value).toArray below meth c D ad cA n0 0 post thr 6 M [(2, .int (Int32.ofInt a2)), (3, .int (Int32.ofInt v3)), (4, .int (Int32.ofInt v4)), (5, .int (Int32.ofInt v5))] 32 [] := by
    intro J_32 M v3 v4 v5 hw hJ_32 H locs ls w hl
    refine lv_iload F.1 F.2.1 d_CG_choice_32 (lv_at hl 3 rfl) ?_
    refine lv_bipush (v := Int32.ofInt 10) F.1 F.2.1 d_CG_choice_34 (by decide) ?_
    obtain ⟨h33, hw⟩ := hw
    refine fi_icmp_ge F d_CG_choice_36 (tgt := 66) (by decide) h33 (rgl (by decide)) (fun hc34 => ?_) (fun hc34 => ?_)
    · have hw := hw.1 hc34
      refine lv_iconst (v := Int32.ofInt (-1)) F.1 F.2.1 d_CG_choice_66 (by decide) ?_
      exact fx_iret F w hr hlk hw d_CG_choice_67
    · have hw := hw.2 hc34
      refine lv_iload_n F.1 F.2.1 d_CG_choice_39 rfl (lv_at hl 1 rfl) ?_
      refine lv_iload F.1 F.2.1 d_CG_choice_40 (lv_at hl 3 rfl) ?_
      refine fx_c w hno hlk (fx_rS (As := [.int (Int32.ofInt v3), .int (Int32.ofInt v5)]) (rest := []) F w (met_CG_hasBit l hst9 D ad cA n0 M v3 v5 _ thr hw) e_CG_hasBit kt_CG_hasBit k_399 rfl hl.1 rfl (Nat.le_of_ble_eq_true rfl) ⟨⟨Nat.le_of_ble_eq_true rfl, Nat.le_of_ble_eq_true rfl⟩, Nat.le_of_ble_eq_true rfl, Nat.le_of_ble_eq_true rfl⟩ d_CG_choice_42) (fun r36 M35 hw H locs w => ?_)
      show W p l e _ s m _ below meth c H locs 0 0 _ (F0 m 45 ls [.int (Int32.ofInt r36)])
      obtain ⟨h37, hw⟩ := hw
      refine fi_if_eq F d_CG_choice_45 (tgt := 60) (by decide) h37 (fun hc38 => ?_) (fun hc38 => ?_)
      · have hw := hw.1 hc38
        refine fi_iinc (k := 3) (v := (v5 + 1)) F d_CG_choice_60 hl rfl rfl (by decide) rfl (fun ls hl => ?_)
        have hl : lv_has ls 6 [(5, .int (Int32.ofInt (v5 + 1))), (2, .int (Int32.ofInt a2)), (3, .int (Int32.ofInt v3)), (4, .int (Int32.ofInt v4))] := hl
        refine lv_goto F.1 F.2.1 d_CG_choice_63 (tgt := 32) (by decide) ?_
        exact hJ_32 M35 v3 v4 (v5 + 1) hw H locs ls w (lv_sub hl [1, 2, 3, 0] rfl)
      · have hw := hw.2 hc38
        refine lv_iload F.1 F.2.1 d_CG_choice_48 (lv_at hl 2 rfl) ?_
        refine lv_iload_n F.1 F.2.1 d_CG_choice_50 rfl (lv_at hl 0 rfl) ?_
        obtain ⟨h39, hw⟩ := hw
        obtain ⟨h40, hw⟩ := hw
        refine fi_icmp_ne F d_CG_choice_51 (tgt := 57) (by decide) h39 h40 (fun hc41 => ?_) (fun hc41 => ?_)
        · have hw := hw.1 hc41
          refine fi_iinc (k := 2) (v := (v4 + 1)) F d_CG_choice_57 hl rfl rfl (by decide) rfl (fun ls hl => ?_)
          have hl : lv_has ls 6 [(4, .int (Int32.ofInt (v4 + 1))), (2, .int (Int32.ofInt a2)), (3, .int (Int32.ofInt v3)), (5, .int (Int32.ofInt v5))] := hl
          refine fi_iinc (k := 3) (v := (v5 + 1)) F d_CG_choice_60 hl rfl rfl (by decide) rfl (fun ls hl => ?_)
          have hl : lv_has ls 6 [(5, .int (Int32.ofInt (v5 + 1))), (4, .int (Int32.ofInt (v4 + 1))), (2, .int (Int32.ofInt a2)), (3, .int (Int32.ofInt v3))] := hl
          refine lv_goto F.1 F.2.1 d_CG_choice_63 (tgt := 32) (by decide) ?_
          exact hJ_32 M35 v3 (v4 + 1) (v5 + 1) hw H locs ls w (lv_sub hl [2, 3, 1, 0] rfl)
        · have hw := hw.2 hc41
          refine lv_iload F.1 F.2.1 d_CG_choice_54 (lv_at hl 3 rfl) ?_
          exact fx_iret F w hr hlk hw d_CG_choice_56
  have blk_32 : ∀ (M : fm_M) (v3 : Int) (v4 : Int) (v5 : Int), B_CG_choice_32 a1 a2 post thr M v3 v4 v5 → fx_G p l e { frames := 1, cells := 1, slots := 6, locals := 21 } s m ([.ref (ad 0), .int (Int32.ofInt a1), .int (Int32.ofInt a2)] : List Value).toArray below meth c D ad cA n0 0 post thr 6 M [(2, .int (Int32.ofInt a2)), (3, .int (Int32.ofInt v3)), (4, .int (Int32.ofInt v4)), (5, .int (Int32.ofInt v5))] 32 [] := by
    intro M v3 v4 v5 hw
    obtain ⟨I, μ, hI, hB⟩ := hw
    have key : ∀ (q : Nat) (M : fm_M) (v3 : Int) (v4 : Int) (v5 : Int), μ M v3 v4 v5 < q → I M v3 v4 v5 → fx_G p l e { frames := 1, cells := 1, slots := 6, locals := 21 } s m ([.ref (ad 0), .int (Int32.ofInt a1), .int (Int32.ofInt a2)] : List Value).toArray below meth c D ad cA n0 0 post thr 6 M [(2, .int (Int32.ofInt a2)), (3, .int (Int32.ofInt v3)), (4, .int (Int32.ofInt v4)), (5, .int (Int32.ofInt v5))] 32 [] := by
      intro q
      induction q with
      | zero => intro M v3 v4 v5 h _; exact absurd h (Nat.not_lt_zero _)
      | succ q ih =>
        intro M v3 v4 v5 hμ hI
        exact blc_32 (fun M' v3' v4' v5' => I M' v3' v4' v5' ∧ μ M' v3' v4' v5' < μ M v3 v4 v5) M v3 v4 v5 (hB M v3 v4 v5 hI) (fun M' v3' v4' v5' hh => ih M' v3' v4' v5' (Nat.lt_of_lt_of_le hh.2 (Nat.le_of_lt_succ hμ)) hh.1)
    exact key _ M v3 v4 v5 (Nat.lt_succ_self _) hI
  have hl : lv_has ls 6 [(0, .ref (ad 0)), (1, .int (Int32.ofInt a1)), (2, .int (Int32.ofInt a2))] := hl
  suffices h9 : fx_G p l e { frames := 1, cells := 1, slots := 6, locals := 21 } s m ([.ref (ad 0), .int (Int32.ofInt a1), .int (Int32.ofInt a2)] : List Value).toArray below meth c D ad cA n0 0 post thr 6 M [(0, .ref (ad 0)), (1, .int (Int32.ofInt a1)), (2, .int (Int32.ofInt a2))] 0 [] from h9 _ _ _ w hl
  intro H locs ls w hl
  refine lv_aload_n F.1 F.2.1 d_CG_choice_0 rfl (lv_at hl 0 rfl) ?_
  refine fm_gO F w cl_CG 0 3 142 T_0 (by decide) rfl rfl k_330 d_CG_choice_1 ?_
  refine lv_iload_n F.1 F.2.1 d_CG_choice_4 rfl (lv_at hl 1 rfl) ?_
  refine fx_c w hno hlk (fx_rV (As := [.int (Int32.ofInt a1)]) (rest := []) F w cl_Fo 142 T_142 (met_Fo_has l hst9 D ad cA n0 M a1 _ thr hw) e_Fo_has ki_Fo_has ks_Fo_has k_387 rfl hl.1 rfl (Nat.le_of_ble_eq_true rfl) ⟨⟨Nat.le_of_ble_eq_true rfl, Nat.le_of_ble_eq_true rfl⟩, Nat.le_of_ble_eq_true rfl, Nat.le_of_ble_eq_true rfl⟩ d_CG_choice_5) (fun r43 M42 hw H locs w => ?_)
  show W p l e _ s m _ below meth c H locs 0 0 _ (F0 m 8 ls [.int (Int32.ofInt r43)])
  obtain ⟨h44, hw⟩ := hw
  refine fi_if_eq F d_CG_choice_8 (tgt := 15) (by decide) h44 (fun hc45 => ?_) (fun hc45 => ?_)
  · have hw := hw.1 hc45
    refine lv_iconst (v := Int32.ofInt (-1)) F.1 F.2.1 d_CG_choice_15 (by decide) ?_
    exact fx_iret F w hr hlk hw d_CG_choice_16
  · have hw := hw.2 hc45
    refine lv_iload_n F.1 F.2.1 d_CG_choice_11 rfl (lv_at hl 2 rfl) ?_
    obtain ⟨h46, hw⟩ := hw
    refine fi_if_ge F d_CG_choice_12 (tgt := 17) (by decide) h46 (fun hc47 => ?_) (fun hc47 => ?_)
    · have hw := hw.1 hc47
      refine lv_aload_n F.1 F.2.1 d_CG_choice_17 rfl (lv_at hl 0 rfl) ?_
      refine fm_gO F w cl_CG 0 3 142 T_0 (by decide) rfl rfl k_330 d_CG_choice_18 ?_
      refine lv_iload_n F.1 F.2.1 d_CG_choice_21 rfl (lv_at hl 1 rfl) ?_
      refine fx_c w hno hlk (fx_rV (As := [.int (Int32.ofInt a1)]) (rest := []) F w cl_Fo 142 T_142 (met_Fo_choicesOf l hst9 D ad cA n0 M42 a1 _ thr hw) e_Fo_choicesOf ki_Fo_choicesOf ks_Fo_choicesOf k_406 rfl hl.1 rfl (Nat.le_of_ble_eq_true rfl) ⟨⟨Nat.le_of_ble_eq_true rfl, Nat.le_of_ble_eq_true rfl⟩, Nat.le_of_ble_eq_true rfl, Nat.le_of_ble_eq_true rfl⟩ d_CG_choice_22) (fun r49 M48 hw H locs w => ?_)
      show W p l e _ s m _ below meth c H locs 0 0 _ (F0 m 25 ls [.int (Int32.ofInt r49)])
      refine lv_istore_n F.1 F.2.1 d_CG_choice_25 rfl hl (by decide) rfl (fun ls hl => ?_)
      have hl : lv_has ls 6 [(3, .int (Int32.ofInt r49)), (0, .ref (ad 0)), (1, .int (Int32.ofInt a1)), (2, .int (Int32.ofInt a2))] := hl
      refine lv_iconst (v := Int32.ofInt 0) F.1 F.2.1 d_CG_choice_26 (by decide) ?_
      refine lv_istore F.1 F.2.1 d_CG_choice_27 hl (by decide) rfl (fun ls hl => ?_)
      have hl : lv_has ls 6 [(4, .int (Int32.ofInt 0)), (3, .int (Int32.ofInt r49)), (0, .ref (ad 0)), (1, .int (Int32.ofInt a1)), (2, .int (Int32.ofInt a2))] := hl
      refine lv_iconst (v := Int32.ofInt 0) F.1 F.2.1 d_CG_choice_29 (by decide) ?_
      refine lv_istore F.1 F.2.1 d_CG_choice_30 hl (by decide) rfl (fun ls hl => ?_)
      have hl : lv_has ls 6 [(5, .int (Int32.ofInt 0)), (4, .int (Int32.ofInt 0)), (3, .int (Int32.ofInt r49)), (0, .ref (ad 0)), (1, .int (Int32.ofInt a1)), (2, .int (Int32.ofInt a2))] := hl
      exact blk_32 M48 r49 0 0 hw H locs ls w (lv_sub hl [5, 2, 1, 0] rfl)
    · have hw := hw.2 hc47
      refine lv_iconst (v := Int32.ofInt (-1)) F.1 F.2.1 d_CG_choice_15 (by decide) ?_
      exact fx_iret F w hr hlk hw d_CG_choice_16
set_option maxHeartbeats 4000000 in
set_option maxRecDepth 100000 in
theorem met_CG_branch (l : Launch) (hst9 : l.stackTraces = false) (D : va_G) (ad : Nat → Nat) (cA : Nat → ClassId) (n0 : Nat) (M : fm_M) (a1 : Int) (a2 : Int) (a3 : Int) (post : Int → fm_M → Prop) (thr : String → fm_M → Prop) (hw : wp_CG_branch M a1 a2 a3 post thr) : fx_Met l y_CG_branch (Cond.code y_CG_branch b_CG_branch 6 (some .int) :: tb) { frames := 1, cells := 1, slots := 6, locals := 23 } [.ref (ad 0), .int (Int32.ofInt a1), .int (Int32.ofInt a2), .int (Int32.ofInt a3)] D ad cA n0 M 0 post thr := by
  refine fx_met (by decide) (Nat.le_of_ble_eq_true rfl) (fun p e s m below meth c ls F w hno hr hlk hl => ?_)
  have hl : lv_has ls 6 [(0, .ref (ad 0)), (1, .int (Int32.ofInt a1)), (2, .int (Int32.ofInt a2)), (3, .int (Int32.ofInt a3))] := hl
  suffices h9 : fx_G p l e { frames := 1, cells := 1, slots := 6, locals := 23 } s m ([.ref (ad 0), .int (Int32.ofInt a1), .int (Int32.ofInt a2), .int (Int32.ofInt a3)] : List Value).toArray below meth c D ad cA n0 0 post thr 6 M [(0, .ref (ad 0)), (1, .int (Int32.ofInt a1)), (2, .int (Int32.ofInt a2)), (3, .int (Int32.ofInt a3))] 0 [] from h9 _ _ _ w hl
  intro H locs ls w hl
  refine lv_aload_n F.1 F.2.1 d_CG_branch_0 rfl (lv_at hl 0 rfl) ?_
  refine fm_gO F w cl_CG 0 3 142 T_0 (by decide) rfl rfl k_330 d_CG_branch_1 ?_
  refine lv_iload_n F.1 F.2.1 d_CG_branch_4 rfl (lv_at hl 1 rfl) ?_
  refine fx_c w hno hlk (fx_rV (As := [.int (Int32.ofInt a1)]) (rest := []) F w cl_Fo 142 T_142 (met_Fo_has l hst9 D ad cA n0 M a1 _ thr hw) e_Fo_has ki_Fo_has ks_Fo_has k_387 rfl hl.1 rfl (Nat.le_of_ble_eq_true rfl) ⟨⟨Nat.le_of_ble_eq_true rfl, Nat.le_of_ble_eq_true rfl⟩, Nat.le_of_ble_eq_true rfl, Nat.le_of_ble_eq_true rfl⟩ d_CG_branch_5) (fun r31 M30 hw H locs w => ?_)
  show W p l e _ s m _ below meth c H locs 0 0 _ (F0 m 8 ls [.int (Int32.ofInt r31)])
  obtain ⟨h32, hw⟩ := hw
  refine fi_if_eq F d_CG_branch_8 (tgt := 45) (by decide) h32 (fun hc33 => ?_) (fun hc33 => ?_)
  · have hw := hw.1 hc33
    refine lv_iconst (v := Int32.ofInt (-1)) F.1 F.2.1 d_CG_branch_45 (by decide) ?_
    exact fx_iret F w hr hlk hw d_CG_branch_46
  · have hw := hw.2 hc33
    refine lv_iload_n F.1 F.2.1 d_CG_branch_11 rfl (lv_at hl 2 rfl) ?_
    obtain ⟨h34, hw⟩ := hw
    refine fi_if_lt F d_CG_branch_12 (tgt := 45) (by decide) h34 (fun hc35 => ?_) (fun hc35 => ?_)
    · have hw := hw.1 hc35
      refine lv_iconst (v := Int32.ofInt (-1)) F.1 F.2.1 d_CG_branch_45 (by decide) ?_
      exact fx_iret F w hr hlk hw d_CG_branch_46
    · have hw := hw.2 hc35
      refine lv_iload_n F.1 F.2.1 d_CG_branch_15 rfl (lv_at hl 2 rfl) ?_
      refine lv_aload_n F.1 F.2.1 d_CG_branch_16 rfl (lv_at hl 0 rfl) ?_
      refine fm_gO F w cl_CG 0 3 142 T_0 (by decide) rfl rfl k_330 d_CG_branch_17 ?_
      refine fm_gR F w cl_Fo 142 0 T_142 (by decide) rfl k_202 d_CG_branch_20 ?_
      obtain ⟨h36, hw⟩ := hw
      refine fm_gI F w cl_Gm ((M30 142 0).toNat) 4 h36 (by decide) rfl k_153 d_CG_branch_23 ?_
      obtain ⟨h37, hw⟩ := hw
      refine fi_icmp_ge F d_CG_branch_26 (tgt := 45) (by decide) h34 h37 (fun hc38 => ?_) (fun hc38 => ?_)
      · have hw := hw.1 hc38
        refine lv_iconst (v := Int32.ofInt (-1)) F.1 F.2.1 d_CG_branch_45 (by decide) ?_
        exact fx_iret F w hr hlk hw d_CG_branch_46
      · have hw := hw.2 hc38
        refine lv_aload_n F.1 F.2.1 d_CG_branch_29 rfl (lv_at hl 0 rfl) ?_
        refine fm_gO F w cl_CG 0 3 142 T_0 (by decide) rfl rfl k_330 d_CG_branch_30 ?_
        refine fm_gO F w cl_Fo 142 7 289 T_142 (by decide) rfl rfl k_219 d_CG_branch_33 ?_
        refine lv_iload_n F.1 F.2.1 d_CG_branch_36 rfl (lv_at hl 1 rfl) ?_
        obtain ⟨h39, hw⟩ := hw
        refine fm_aI F w 289 T_289 (by decide) h39 d_CG_branch_37 ?_
        refine lv_iload_n F.1 F.2.1 d_CG_branch_38 rfl (lv_at hl 2 rfl) ?_
        refine fx_c w hno hlk (fx_rS (As := [.int (Int32.ofInt (M30 289 a1.toNat)), .int (Int32.ofInt a2)]) (rest := []) F w (met_CG_hasBit l hst9 D ad cA n0 M30 (M30 289 a1.toNat) a2 _ thr hw) e_CG_hasBit kt_CG_hasBit k_399 rfl hl.1 rfl (Nat.le_of_ble_eq_true rfl) ⟨⟨Nat.le_of_ble_eq_true rfl, Nat.le_of_ble_eq_true rfl⟩, Nat.le_of_ble_eq_true rfl, Nat.le_of_ble_eq_true rfl⟩ d_CG_branch_39) (fun r41 M40 hw H locs w => ?_)
        show W p l e _ s m _ below meth c H locs 0 0 _ (F0 m 42 ls [.int (Int32.ofInt r41)])
        obtain ⟨h42, hw⟩ := hw
        refine fi_if_ne F d_CG_branch_42 (tgt := 47) (by decide) h42 (fun hc43 => ?_) (fun hc43 => ?_)
        · have hw := hw.1 hc43
          refine lv_aload_n F.1 F.2.1 d_CG_branch_47 rfl (lv_at hl 0 rfl) ?_
          refine fm_gO F w cl_CG 0 3 142 T_0 (by decide) rfl rfl k_330 d_CG_branch_48 ?_
          refine fm_gR F w cl_Fo 142 0 T_142 (by decide) rfl k_202 d_CG_branch_51 ?_
          obtain ⟨h44, hw⟩ := hw
          refine fm_gO F w cl_Gm ((M40 142 0).toNat) 2 (((M40 142 0).toNat) + 3) h44 (by decide) rfl rfl k_145 d_CG_branch_54 ?_
          refine lv_iload_n F.1 F.2.1 d_CG_branch_57 rfl (lv_at hl 2 rfl) ?_
          obtain ⟨h45, hw⟩ := hw
          obtain ⟨h46, hw⟩ := hw
          refine fm_aR F w (((M40 142 0).toNat) + 3) 2 ((((M40 142 0).toNat) + 3) + 4 + 13 * a2.toNat) h45 rfl (by decide) h46 rfl d_CG_branch_58 ?_
          refine lv_astore F.1 F.2.1 d_CG_branch_59 hl (by decide) rfl (fun ls hl => ?_)
          have hl : lv_has ls 6 [(4, .ref (ad ((((M40 142 0).toNat) + 3) + 4 + 13 * a2.toNat))), (0, .ref (ad 0)), (1, .int (Int32.ofInt a1)), (2, .int (Int32.ofInt a2)), (3, .int (Int32.ofInt a3))] := hl
          refine lv_iload_n F.1 F.2.1 d_CG_branch_61 rfl (lv_at hl 4 rfl) ?_
          obtain ⟨h47, hw⟩ := hw
          refine fi_if_lt F d_CG_branch_62 (tgt := 74) (by decide) h47 (fun hc48 => ?_) (fun hc48 => ?_)
          · have hw := hw.1 hc48
            refine lv_iconst (v := Int32.ofInt (-1)) F.1 F.2.1 d_CG_branch_74 (by decide) ?_
            exact fx_iret F w hr hlk hw d_CG_branch_75
          · have hw := hw.2 hc48
            refine lv_iload_n F.1 F.2.1 d_CG_branch_65 rfl (lv_at hl 4 rfl) ?_
            refine lv_aload F.1 F.2.1 d_CG_branch_66 (lv_at hl 0 rfl) ?_
            obtain ⟨h49, hw⟩ := hw
            refine fm_gI F w cl_Cm ((((M40 142 0).toNat) + 3) + 4 + 13 * a2.toNat) 3 h49 (by decide) rfl k_121 d_CG_branch_68 ?_
            obtain ⟨h50, hw⟩ := hw
            refine fi_icmp_lt F d_CG_branch_71 (tgt := 76) (by decide) h47 h50 (fun hc51 => ?_) (fun hc51 => ?_)
            · have hw := hw.1 hc51
              refine lv_aload_n F.1 F.2.1 d_CG_branch_76 rfl (lv_at hl 1 rfl) ?_
              refine fm_gO F w cl_CG 0 3 142 T_0 (by decide) rfl rfl k_330 d_CG_branch_77 ?_
              refine lv_iload_n F.1 F.2.1 d_CG_branch_80 rfl (lv_at hl 2 rfl) ?_
              refine lv_iload_n F.1 F.2.1 d_CG_branch_81 rfl (lv_at hl 3 rfl) ?_
              refine lv_iload_n F.1 F.2.1 d_CG_branch_82 rfl (lv_at hl 4 rfl) ?_
              refine fx_c w hno hlk (fx_rV (As := [.int (Int32.ofInt a1), .int (Int32.ofInt a2), .int (Int32.ofInt a3)]) (rest := []) F w cl_Fo 142 T_142 (met_Fo_next l hst9 D ad cA n0 M40 a1 a2 a3 _ thr hw) e_Fo_next ki_Fo_next ks_Fo_next k_422 rfl hl.1 rfl (Nat.le_of_ble_eq_true rfl) ⟨⟨Nat.le_of_ble_eq_true rfl, Nat.le_of_ble_eq_true rfl⟩, Nat.le_of_ble_eq_true rfl, Nat.le_of_ble_eq_true rfl⟩ d_CG_branch_83) (fun r53 M52 hw H locs w => ?_)
              show W p l e _ s m _ below meth c H locs 0 0 _ (F0 m 86 ls [.int (Int32.ofInt r53)])
              refine lv_istore F.1 F.2.1 d_CG_branch_86 hl (by decide) rfl (fun ls hl => ?_)
              have hl : lv_has ls 6 [(5, .int (Int32.ofInt r53)), (4, .ref (ad ((((M40 142 0).toNat) + 3) + 4 + 13 * a2.toNat))), (0, .ref (ad 0)), (1, .int (Int32.ofInt a1)), (2, .int (Int32.ofInt a2)), (3, .int (Int32.ofInt a3))] := hl
              refine lv_iload F.1 F.2.1 d_CG_branch_88 (lv_at hl 0 rfl) ?_
              refine lv_iconst (v := Int32.ofInt (-1)) F.1 F.2.1 d_CG_branch_90 (by decide) ?_
              obtain ⟨h54, hw⟩ := hw
              refine fi_icmp_ne F d_CG_branch_91 (tgt := 98) (by decide) h54 (rgl (by decide)) (fun hc55 => ?_) (fun hc55 => ?_)
              · have hw := hw.1 hc55
                refine lv_bipush (v := Int32.ofInt 10) F.1 F.2.1 d_CG_branch_98 (by decide) ?_
                refine lv_iload F.1 F.2.1 d_CG_branch_100 (lv_at hl 0 rfl) ?_
                refine fi_imul F d_CG_branch_102 ?_
                refine lv_aload F.1 F.2.1 d_CG_branch_103 (lv_at hl 1 rfl) ?_
                refine fm_gO F w cl_Cm ((((M40 142 0).toNat) + 3) + 4 + 13 * a2.toNat) 1 (((((M40 142 0).toNat) + 3) + 4 + 13 * a2.toNat) + 4) h49 (by decide) rfl rfl k_113 d_CG_branch_105 ?_
                refine lv_iload_n F.1 F.2.1 d_CG_branch_108 rfl (lv_at hl 5 rfl) ?_
                obtain ⟨h56, hw⟩ := hw
                obtain ⟨h57, hw⟩ := hw
                refine fm_aR F w (((((M40 142 0).toNat) + 3) + 4 + 13 * a2.toNat) + 4) 3 ((((((M40 142 0).toNat) + 3) + 4 + 13 * a2.toNat) + 4) + 1 + 2 * a3.toNat) h56 rfl (by decide) h57 rfl d_CG_branch_109 ?_
                obtain ⟨h58, hw⟩ := hw
                refine fm_gI F w cl_Br ((((((M40 142 0).toNat) + 3) + 4 + 13 * a2.toNat) + 4) + 1 + 2 * a3.toNat) 1 h58 (by decide) rfl k_100 d_CG_branch_110 ?_
                refine fi_iadd F d_CG_branch_113 ?_
                exact fx_iret F w hr hlk hw d_CG_branch_114
              · have hw := hw.2 hc55
                refine lv_iconst (v := Int32.ofInt (-1)) F.1 F.2.1 d_CG_branch_94 (by decide) ?_
                refine lv_goto F.1 F.2.1 d_CG_branch_95 (tgt := 114) (by decide) ?_
                exact fx_iret F w hr hlk hw d_CG_branch_114
            · have hw := hw.2 hc51
              refine lv_iconst (v := Int32.ofInt (-1)) F.1 F.2.1 d_CG_branch_74 (by decide) ?_
              exact fx_iret F w hr hlk hw d_CG_branch_75
        · have hw := hw.2 hc43
          refine lv_iconst (v := Int32.ofInt (-1)) F.1 F.2.1 d_CG_branch_45 (by decide) ?_
          exact fx_iret F w hr hlk hw d_CG_branch_46
set_option maxHeartbeats 4000000 in
set_option maxRecDepth 100000 in
theorem met_CG_checkValueOf (l : Launch) (hst9 : l.stackTraces = false) (D : va_G) (ad : Nat → Nat) (cA : Nat → ClassId) (n0 : Nat) (M : fm_M) (a1 : Int) (post : Int → fm_M → Prop) (thr : String → fm_M → Prop) (hw : wp_CG_checkValueOf M a1 post thr) : fx_Met l y_CG_checkValueOf (Cond.code y_CG_checkValueOf b_CG_checkValueOf 2 none :: tb) { frames := 6, cells := 1, slots := 6, locals := 82 } [.ref (ad 0), .int (Int32.ofInt a1)] D ad cA n0 M 3 post thr := by
  refine fx_met (by decide) (Nat.le_of_ble_eq_true rfl) (fun p e s m below meth c ls F w hno hr hlk hl => ?_)
  have hl : lv_has ls 2 [(0, .ref (ad 0)), (1, .int (Int32.ofInt a1))] := hl
  suffices h9 : fx_G p l e { frames := 6, cells := 1, slots := 6, locals := 82 } s m ([.ref (ad 0), .int (Int32.ofInt a1)] : List Value).toArray below meth c D ad cA n0 3 post thr 2 M [(0, .ref (ad 0)), (1, .int (Int32.ofInt a1))] 0 [] from h9 _ _ _ w hl
  intro H locs ls w hl
  refine lv_aload_n F.1 F.2.1 d_CG_checkValueOf_0 rfl (lv_at hl 0 rfl) ?_
  refine fm_gI F w cl_CG 0 6 T_0 (by decide) rfl k_333 d_CG_checkValueOf_1 ?_
  obtain ⟨h7, hw⟩ := hw
  refine fi_if_ne F d_CG_checkValueOf_4 (tgt := 17) (by decide) h7 (fun hc8 => ?_) (fun hc8 => ?_)
  · have hw := hw.1 hc8
    refine lv_aload_n F.1 F.2.1 d_CG_checkValueOf_17 rfl (lv_at hl 0 rfl) ?_
    refine fm_gO F w cl_CG 0 3 142 T_0 (by decide) rfl rfl k_330 d_CG_checkValueOf_18 ?_
    refine lv_iload_n F.1 F.2.1 d_CG_checkValueOf_21 rfl (lv_at hl 1 rfl) ?_
    refine fx_c w hno hlk (fx_rV (As := [.int (Int32.ofInt a1)]) (rest := []) F w cl_Fo 142 T_142 (met_Fo_has l hst9 D ad cA n0 M a1 _ thr hw) e_Fo_has ki_Fo_has ks_Fo_has k_387 rfl hl.1 rfl (Nat.le_of_ble_eq_true rfl) ⟨⟨Nat.le_of_ble_eq_true rfl, Nat.le_of_ble_eq_true rfl⟩, Nat.le_of_ble_eq_true rfl, Nat.le_of_ble_eq_true rfl⟩ d_CG_checkValueOf_22) (fun r10 M9 hw H locs w => ?_)
    show W p l e _ s m _ below meth c H locs 0 0 _ (F0 m 25 ls [.int (Int32.ofInt r10)])
    obtain ⟨h11, hw⟩ := hw
    refine fi_if_ne F d_CG_checkValueOf_25 (tgt := 38) (by decide) h11 (fun hc12 => ?_) (fun hc12 => ?_)
    · have hw := hw.1 hc12
      exact fx_vret F w hr hlk hw d_CG_checkValueOf_38
    · have hw := hw.2 hc12
      exact fx_thr (E := "java/lang/IndexOutOfBoundsException") (names := ["java/lang/RuntimeException", "java/lang/Exception"]) F w hlk hno hst9 k_778 k_779 k_21 k_787 (by decide +kernel) (by decide +kernel) at_CG_172 hl.1 (Nat.le_of_ble_eq_true rfl) (Nat.le_of_ble_eq_true rfl) (Nat.le_of_ble_eq_true rfl) (Nat.le_of_ble_eq_true rfl) hw d_CG_checkValueOf_28 d_CG_checkValueOf_31 d_CG_checkValueOf_32 d_CG_checkValueOf_34 d_CG_checkValueOf_37
  · have hw := hw.2 hc8
    exact fx_thr (E := "java/lang/IllegalStateException") (names := ["java/lang/RuntimeException", "java/lang/Exception"]) F w hlk hno hst9 k_597 k_598 k_18 k_777 (by decide +kernel) (by decide +kernel) at_CG_84 hl.1 (Nat.le_of_ble_eq_true rfl) (Nat.le_of_ble_eq_true rfl) (Nat.le_of_ble_eq_true rfl) (Nat.le_of_ble_eq_true rfl) hw d_CG_checkValueOf_7 d_CG_checkValueOf_10 d_CG_checkValueOf_11 d_CG_checkValueOf_13 d_CG_checkValueOf_16
set_option maxHeartbeats 4000000 in
set_option maxRecDepth 100000 in
theorem met_CG_upper (l : Launch) (hst9 : l.stackTraces = false) (D : va_G) (ad : Nat → Nat) (cA : Nat → ClassId) (n0 : Nat) (M : fm_M) (a1 : Int) (post : Int → fm_M → Prop) (thr : String → fm_M → Prop) (hw : wp_CG_upper M a1 post thr) : fx_Met l y_CG_upper (Cond.code y_CG_upper b_CG_upper 2 (some .long) :: tb) { frames := 7, cells := 1, slots := 6, locals := 103 } [.ref (ad 0), .int (Int32.ofInt a1)] D ad cA n0 M 1 post thr := by
  refine fx_met (by decide) (Nat.le_of_ble_eq_true rfl) (fun p e s m below meth c ls F w hno hr hlk hl => ?_)
  have hl : lv_has ls 2 [(0, .ref (ad 0)), (1, .int (Int32.ofInt a1))] := hl
  suffices h9 : fx_G p l e { frames := 7, cells := 1, slots := 6, locals := 103 } s m ([.ref (ad 0), .int (Int32.ofInt a1)] : List Value).toArray below meth c D ad cA n0 1 post thr 2 M [(0, .ref (ad 0)), (1, .int (Int32.ofInt a1))] 0 [] from h9 _ _ _ w hl
  intro H locs ls w hl
  refine lv_aload_n F.1 F.2.1 d_CG_upper_0 rfl (lv_at hl 0 rfl) ?_
  refine lv_iload_n F.1 F.2.1 d_CG_upper_1 rfl (lv_at hl 1 rfl) ?_
  refine fx_c w hno hlk (fx_rV (As := [.int (Int32.ofInt a1)]) (rest := []) F w cl_CG 0 T_0 (met_CG_checkValueOf l hst9 D ad cA n0 M a1 _ thr hw) e_CG_checkValueOf ki_CG_checkValueOf ks_CG_checkValueOf k_773 rfl hl.1 rfl (Nat.le_of_ble_eq_true rfl) ⟨⟨Nat.le_of_ble_eq_true rfl, Nat.le_of_ble_eq_true rfl⟩, Nat.le_of_ble_eq_true rfl, Nat.le_of_ble_eq_true rfl⟩ d_CG_upper_2) (fun r5 M4 hw H locs w => ?_)
  refine lv_aload_n F.1 F.2.1 d_CG_upper_5 rfl (lv_at hl 0 rfl) ?_
  refine fm_gO F w cl_CG 0 2 141 T_0 (by decide) rfl rfl k_329 d_CG_upper_6 ?_
  refine fm_gO F w cl_Va 141 5 324 T_141 (by decide) rfl rfl k_293 d_CG_upper_9 ?_
  refine lv_iload_n F.1 F.2.1 d_CG_upper_12 rfl (lv_at hl 1 rfl) ?_
  obtain ⟨h6, hw⟩ := hw
  refine fm_aL F w 324 T_324 (by decide) h6 d_CG_upper_13 ?_
  refine fi_same_l (jwl_eq (M4 324 a1.toNat)) ?_
  exact fx_lret F w hr hlk hw d_CG_upper_14
set_option maxHeartbeats 4000000 in
set_option maxRecDepth 100000 in
theorem met_CG_lower (l : Launch) (hst9 : l.stackTraces = false) (D : va_G) (ad : Nat → Nat) (cA : Nat → ClassId) (n0 : Nat) (M : fm_M) (a1 : Int) (post : Int → fm_M → Prop) (thr : String → fm_M → Prop) (hw : wp_CG_lower M a1 post thr) : fx_Met l y_CG_lower (Cond.code y_CG_lower b_CG_lower 2 (some .long) :: tb) { frames := 7, cells := 1, slots := 6, locals := 103 } [.ref (ad 0), .int (Int32.ofInt a1)] D ad cA n0 M 1 post thr := by
  refine fx_met (by decide) (Nat.le_of_ble_eq_true rfl) (fun p e s m below meth c ls F w hno hr hlk hl => ?_)
  have hl : lv_has ls 2 [(0, .ref (ad 0)), (1, .int (Int32.ofInt a1))] := hl
  suffices h9 : fx_G p l e { frames := 7, cells := 1, slots := 6, locals := 103 } s m ([.ref (ad 0), .int (Int32.ofInt a1)] : List Value).toArray below meth c D ad cA n0 1 post thr 2 M [(0, .ref (ad 0)), (1, .int (Int32.ofInt a1))] 0 [] from h9 _ _ _ w hl
  intro H locs ls w hl
  refine lv_aload_n F.1 F.2.1 d_CG_lower_0 rfl (lv_at hl 0 rfl) ?_
  refine lv_iload_n F.1 F.2.1 d_CG_lower_1 rfl (lv_at hl 1 rfl) ?_
  refine fx_c w hno hlk (fx_rV (As := [.int (Int32.ofInt a1)]) (rest := []) F w cl_CG 0 T_0 (met_CG_checkValueOf l hst9 D ad cA n0 M a1 _ thr hw) e_CG_checkValueOf ki_CG_checkValueOf ks_CG_checkValueOf k_773 rfl hl.1 rfl (Nat.le_of_ble_eq_true rfl) ⟨⟨Nat.le_of_ble_eq_true rfl, Nat.le_of_ble_eq_true rfl⟩, Nat.le_of_ble_eq_true rfl, Nat.le_of_ble_eq_true rfl⟩ d_CG_lower_2) (fun r5 M4 hw H locs w => ?_)
  refine lv_aload_n F.1 F.2.1 d_CG_lower_5 rfl (lv_at hl 0 rfl) ?_
  refine fm_gO F w cl_CG 0 2 141 T_0 (by decide) rfl rfl k_329 d_CG_lower_6 ?_
  refine fm_gO F w cl_Va 141 6 325 T_141 (by decide) rfl rfl k_295 d_CG_lower_9 ?_
  refine lv_iload_n F.1 F.2.1 d_CG_lower_12 rfl (lv_at hl 1 rfl) ?_
  obtain ⟨h6, hw⟩ := hw
  refine fm_aL F w 325 T_325 (by decide) h6 d_CG_lower_13 ?_
  refine fi_same_l (jwl_eq (M4 325 a1.toNat)) ?_
  exact fx_lret F w hr hlk hw d_CG_lower_14
set_option maxHeartbeats 4000000 in
set_option maxRecDepth 100000 in
theorem met_CG_good (l : Launch) (hst9 : l.stackTraces = false) (D : va_G) (ad : Nat → Nat) (cA : Nat → ClassId) (n0 : Nat) (M : fm_M) (a1 : Int) (post : Int → fm_M → Prop) (thr : String → fm_M → Prop) (hw : wp_CG_good M a1 post thr) : fx_Met l y_CG_good (Cond.code y_CG_good b_CG_good 2 (some .int) :: tb) { frames := 7, cells := 1, slots := 6, locals := 103 } [.ref (ad 0), .int (Int32.ofInt a1)] D ad cA n0 M 0 post thr := by
  refine fx_met (by decide) (Nat.le_of_ble_eq_true rfl) (fun p e s m below meth c ls F w hno hr hlk hl => ?_)
  have hl : lv_has ls 2 [(0, .ref (ad 0)), (1, .int (Int32.ofInt a1))] := hl
  suffices h9 : fx_G p l e { frames := 7, cells := 1, slots := 6, locals := 103 } s m ([.ref (ad 0), .int (Int32.ofInt a1)] : List Value).toArray below meth c D ad cA n0 0 post thr 2 M [(0, .ref (ad 0)), (1, .int (Int32.ofInt a1))] 0 [] from h9 _ _ _ w hl
  intro H locs ls w hl
  refine lv_aload_n F.1 F.2.1 d_CG_good_0 rfl (lv_at hl 0 rfl) ?_
  refine lv_iload_n F.1 F.2.1 d_CG_good_1 rfl (lv_at hl 1 rfl) ?_
  refine fx_c w hno hlk (fx_rV (As := [.int (Int32.ofInt a1)]) (rest := []) F w cl_CG 0 T_0 (met_CG_checkValueOf l hst9 D ad cA n0 M a1 _ thr hw) e_CG_checkValueOf ki_CG_checkValueOf ks_CG_checkValueOf k_773 rfl hl.1 rfl (Nat.le_of_ble_eq_true rfl) ⟨⟨Nat.le_of_ble_eq_true rfl, Nat.le_of_ble_eq_true rfl⟩, Nat.le_of_ble_eq_true rfl, Nat.le_of_ble_eq_true rfl⟩ d_CG_good_2) (fun r5 M4 hw H locs w => ?_)
  refine lv_aload_n F.1 F.2.1 d_CG_good_5 rfl (lv_at hl 0 rfl) ?_
  refine fm_gO F w cl_CG 0 4 326 T_0 (by decide) rfl rfl k_331 d_CG_good_6 ?_
  refine fm_gO F w cl_Go 326 1 330 T_326 (by decide) rfl rfl k_321 d_CG_good_9 ?_
  refine lv_iload_n F.1 F.2.1 d_CG_good_12 rfl (lv_at hl 1 rfl) ?_
  obtain ⟨h6, hw⟩ := hw
  refine fm_aI F w 330 T_330 (by decide) h6 d_CG_good_13 ?_
  exact fx_iret F w hr hlk hw d_CG_good_14
set_option maxHeartbeats 4000000 in
set_option maxRecDepth 100000 in
theorem met_Mo_refuse (l : Launch) (hst9 : l.stackTraces = false) (D : va_G) (ad : Nat → Nat) (cA : Nat → ClassId) (n0 : Nat) (M : fm_M) (a1 : Int) (post : Int → fm_M → Prop) (thr : String → fm_M → Prop) (hw : wp_Mo_refuse M a1 post thr) : fx_Met l y_Mo_refuse (Cond.code y_Mo_refuse b_Mo_refuse 2 (some .int) :: tb) { frames := 0, cells := 1, slots := 6, locals := 0 } [.ref (ad 331), .int (Int32.ofInt a1)] D ad cA n0 M 0 post thr := by
  refine fx_met (by decide) (Nat.le_of_ble_eq_true rfl) (fun p e s m below meth c ls F w hno hr hlk hl => ?_)
  have hl : lv_has ls 2 [(0, .ref (ad 331)), (1, .int (Int32.ofInt a1))] := hl
  suffices h9 : fx_G p l e { frames := 0, cells := 1, slots := 6, locals := 0 } s m ([.ref (ad 331), .int (Int32.ofInt a1)] : List Value).toArray below meth c D ad cA n0 0 post thr 2 M [(0, .ref (ad 331)), (1, .int (Int32.ofInt a1))] 0 [] from h9 _ _ _ w hl
  intro H locs ls w hl
  refine lv_aload_n F.1 F.2.1 d_Mo_refuse_0 rfl (lv_at hl 0 rfl) ?_
  refine lv_iload_n F.1 F.2.1 d_Mo_refuse_1 rfl (lv_at hl 1 rfl) ?_
  refine fm_pI F w cl_Mo 331 0 T_331 (by decide) rfl k_814 rfl rfl d_Mo_refuse_2 (fun M2 hM2 H locs w => ?_)
  have hw := hw M2 hM2
  refine lv_iconst (v := Int32.ofInt 0) F.1 F.2.1 d_Mo_refuse_5 (by decide) ?_
  exact fx_iret F w hr hlk hw d_Mo_refuse_6
set_option maxHeartbeats 4000000 in
set_option maxRecDepth 100000 in
theorem met_Mo_within (l : Launch) (hst9 : l.stackTraces = false) (D : va_G) (ad : Nat → Nat) (cA : Nat → ClassId) (n0 : Nat) (M : fm_M) (a0 : Int) (a1 : Int) (a2 : Int) (post : Int → fm_M → Prop) (thr : String → fm_M → Prop) (hw : wp_Mo_within M a0 a1 a2 post thr) : fx_Met l y_Mo_within (Cond.code y_Mo_within b_Mo_within 3 (some .boolean) :: tb) { frames := 0, cells := 1, slots := 6, locals := 0 } [.int (Int32.ofInt a0), .int (Int32.ofInt a1), .int (Int32.ofInt a2)] D ad cA n0 M 0 post thr := by
  refine fx_met (by decide) (Nat.le_of_ble_eq_true rfl) (fun p e s m below meth c ls F w hno hr hlk hl => ?_)
  have hl : lv_has ls 3 [(0, .int (Int32.ofInt a0)), (1, .int (Int32.ofInt a1)), (2, .int (Int32.ofInt a2))] := hl
  suffices h9 : fx_G p l e { frames := 0, cells := 1, slots := 6, locals := 0 } s m ([.int (Int32.ofInt a0), .int (Int32.ofInt a1), .int (Int32.ofInt a2)] : List Value).toArray below meth c D ad cA n0 0 post thr 3 M [(0, .int (Int32.ofInt a0)), (1, .int (Int32.ofInt a1)), (2, .int (Int32.ofInt a2))] 0 [] from h9 _ _ _ w hl
  intro H locs ls w hl
  refine lv_iload_n F.1 F.2.1 d_Mo_within_0 rfl (lv_at hl 0 rfl) ?_
  refine lv_iload_n F.1 F.2.1 d_Mo_within_1 rfl (lv_at hl 1 rfl) ?_
  obtain ⟨h6, hw⟩ := hw
  obtain ⟨h7, hw⟩ := hw
  refine fi_icmp_lt F d_Mo_within_2 (tgt := 14) (by decide) h6 h7 (fun hc8 => ?_) (fun hc8 => ?_)
  · have hw := hw.1 hc8
    refine lv_iconst (v := Int32.ofInt 0) F.1 F.2.1 d_Mo_within_14 (by decide) ?_
    exact fx_zret F w hr hlk (fx_nz (by decide)) hw d_Mo_within_15
  · have hw := hw.2 hc8
    refine lv_iload_n F.1 F.2.1 d_Mo_within_5 rfl (lv_at hl 0 rfl) ?_
    refine lv_iload_n F.1 F.2.1 d_Mo_within_6 rfl (lv_at hl 2 rfl) ?_
    obtain ⟨h9, hw⟩ := hw
    refine fi_icmp_gt F d_Mo_within_7 (tgt := 14) (by decide) h6 h9 (fun hc10 => ?_) (fun hc10 => ?_)
    · have hw := hw.1 hc10
      refine lv_iconst (v := Int32.ofInt 0) F.1 F.2.1 d_Mo_within_14 (by decide) ?_
      exact fx_zret F w hr hlk (fx_nz (by decide)) hw d_Mo_within_15
    · have hw := hw.2 hc10
      refine lv_iconst (v := Int32.ofInt 1) F.1 F.2.1 d_Mo_within_10 (by decide) ?_
      refine lv_goto F.1 F.2.1 d_Mo_within_11 (tgt := 15) (by decide) ?_
      exact fx_zret F w hr hlk (fx_nz (by decide)) hw d_Mo_within_15
set_option maxHeartbeats 4000000 in
set_option maxRecDepth 100000 in
theorem met_Mo_type (l : Launch) (hst9 : l.stackTraces = false) (D : va_G) (ad : Nat → Nat) (cA : Nat → ClassId) (n0 : Nat) (M : fm_M) (a1 : Int) (a3 : Int) (post : Int → fm_M → Prop) (thr : String → fm_M → Prop) (hw : wp_Mo_type M a1 a3 post thr) : fx_Met l y_Mo_type (Cond.code y_Mo_type b_Mo_type 7 (some .int) :: tb) { frames := 1, cells := 1, slots := 6, locals := 22 } [.ref (ad 331), .long (Int64.ofInt a1), .int (Int32.ofInt a3)] D ad cA n0 M 0 post thr := by
  refine fx_met (by decide) (Nat.le_of_ble_eq_true rfl) (fun p e s m below meth c ls F w hno hr hlk hl => ?_)
  have blc_82 : ∀ (J_82 : (fm_M → Int → Prop)) (M : fm_M) (v4 : Int), C_Mo_type_82 a1 a3 post thr J_82 M v4 → (∀ (M : fm_M) (v4 : Int), J_82 M v4 → fx_G p l e { frames := 1, cells := 1, slots := 6, locals := 22 } s m ([.ref (ad 331), .long (Int64.ofInt a1), .int (Int32.ofInt a3)] : List Value).toArray below meth c D ad cA n0 0 post thr 7 M [(0, .ref (ad 331)), (1, .long (Int64.ofInt a1)), (4, .int (Int32.ofInt v4))] 82 []) → fx_G p l e { frames := 1, cells := 1, slots := 6, locals := 22 } s m ([.ref (ad 331), .long (Int64.ofInt a1), .int (Int32.ofInt a3)] : List Value).toArray below meth c D ad cA n0 0 post thr 7 M [(0, .ref (ad 331)), (1, .long (Int64.ofInt a1)), (4, .int (Int32.ofInt v4))] 82 [] := by
    intro J_82 M v4 hw hJ_82 H locs ls w hl
    refine lv_iload F.1 F.2.1 d_Mo_type_82 (lv_at hl 2 rfl) ?_
    obtain ⟨h24, hw⟩ := hw
    refine fi_if_lt F d_Mo_type_84 (tgt := 124) (by decide) h24 (fun hc25 => ?_) (fun hc25 => ?_)
    · have hw := hw.1 hc25
      refine lv_aload_n F.1 F.2.1 d_Mo_type_124 rfl (lv_at hl 0 rfl) ?_
      refine fm_gI F w cl_Mo 331 2 T_331 (by decide) rfl k_816 d_Mo_type_125 ?_
      exact fx_iret F w hr hlk hw d_Mo_type_128
    · have hw := hw.2 hc25
      refine lv_aload_n F.1 F.2.1 d_Mo_type_87 rfl (lv_at hl 0 rfl) ?_
      refine fm_gO F w cl_Mo 331 1 332 T_331 (by decide) rfl rfl k_815 d_Mo_type_88 ?_
      refine lv_aload_n F.1 F.2.1 d_Mo_type_91 rfl (lv_at hl 0 rfl) ?_
      refine fm_gI F w cl_Mo 331 2 T_331 (by decide) rfl k_816 d_Mo_type_92 ?_
      refine lv_lload_n F.1 F.2.1 d_Mo_type_95 rfl (lv_at hl 1 rfl) ?_
      refine lv_bipush (v := Int32.ofInt 8) F.1 F.2.1 d_Mo_type_96 (by decide) ?_
      refine lv_iload F.1 F.2.1 d_Mo_type_98 (lv_at hl 2 rfl) ?_
      refine fi_imul F d_Mo_type_100 ?_
      refine fi_lshr F d_Mo_type_101 ?_
      refine lv_ldc2 (v := Int64.ofInt 255) F.1 F.2.1 F.2.2.2.1 (F.2.2.2.2 _ k_949) d_Mo_type_102 ?_
      refine fi_land F d_Mo_type_105 ?_
      refine fi_l2i F d_Mo_type_106 ?_
      obtain ⟨h26, hw⟩ := hw
      refine fm_sI F w 332 T_332 (by decide) h26  d_Mo_type_107 (fun M27 hM27 H locs w => ?_)
      have hw := hw M27 hM27
      refine lv_aload_n F.1 F.2.1 d_Mo_type_108 rfl (lv_at hl 0 rfl) ?_
      refine lv_dup F.1 F.2.1 d_Mo_type_109 rfl ?_
      refine fm_gI F w cl_Mo 331 2 T_331 (by decide) rfl k_816 d_Mo_type_110 ?_
      refine lv_iconst (v := Int32.ofInt 1) F.1 F.2.1 d_Mo_type_113 (by decide) ?_
      refine fi_iadd F d_Mo_type_114 ?_
      refine fm_pI F w cl_Mo 331 2 T_331 (by decide) rfl k_816 rfl rfl d_Mo_type_115 (fun M28 hM28 H locs w => ?_)
      have hw := hw M28 hM28
      refine fi_iinc (k := 2) (v := (v4 + (-1))) F d_Mo_type_118 hl rfl rfl (by decide) rfl (fun ls hl => ?_)
      have hl : lv_has ls 7 [(4, .int (Int32.ofInt (v4 + (-1)))), (0, .ref (ad 331)), (1, .long (Int64.ofInt a1))] := hl
      refine lv_goto F.1 F.2.1 d_Mo_type_121 (tgt := 82) (by decide) ?_
      exact hJ_82 M28 (v4 + (-1)) hw H locs ls w (lv_sub hl [1, 2, 0] rfl)
  have blk_82 : ∀ (M : fm_M) (v4 : Int), B_Mo_type_82 a1 a3 post thr M v4 → fx_G p l e { frames := 1, cells := 1, slots := 6, locals := 22 } s m ([.ref (ad 331), .long (Int64.ofInt a1), .int (Int32.ofInt a3)] : List Value).toArray below meth c D ad cA n0 0 post thr 7 M [(0, .ref (ad 331)), (1, .long (Int64.ofInt a1)), (4, .int (Int32.ofInt v4))] 82 [] := by
    intro M v4 hw
    obtain ⟨I, μ, hI, hB⟩ := hw
    have key : ∀ (q : Nat) (M : fm_M) (v4 : Int), μ M v4 < q → I M v4 → fx_G p l e { frames := 1, cells := 1, slots := 6, locals := 22 } s m ([.ref (ad 331), .long (Int64.ofInt a1), .int (Int32.ofInt a3)] : List Value).toArray below meth c D ad cA n0 0 post thr 7 M [(0, .ref (ad 331)), (1, .long (Int64.ofInt a1)), (4, .int (Int32.ofInt v4))] 82 [] := by
      intro q
      induction q with
      | zero => intro M v4 h _; exact absurd h (Nat.not_lt_zero _)
      | succ q ih =>
        intro M v4 hμ hI
        exact blc_82 (fun M' v4' => I M' v4' ∧ μ M' v4' < μ M v4) M v4 (hB M v4 hI) (fun M' v4' hh => ih M' v4' (Nat.lt_of_lt_of_le hh.2 (Nat.le_of_lt_succ hμ)) hh.1)
    exact key _ M v4 (Nat.lt_succ_self _) hI
  have blc_32 : ∀ (J_32 : (fm_M → Int → Prop)) (M : fm_M) (v4 : Int), C_Mo_type_32 a1 a3 post thr J_32 M v4 → (∀ (M : fm_M) (v4 : Int), J_32 M v4 → fx_G p l e { frames := 1, cells := 1, slots := 6, locals := 22 } s m ([.ref (ad 331), .long (Int64.ofInt a1), .int (Int32.ofInt a3)] : List Value).toArray below meth c D ad cA n0 0 post thr 7 M [(0, .ref (ad 331)), (1, .long (Int64.ofInt a1)), (3, .int (Int32.ofInt a3)), (4, .int (Int32.ofInt v4))] 32 []) → fx_G p l e { frames := 1, cells := 1, slots := 6, locals := 22 } s m ([.ref (ad 331), .long (Int64.ofInt a1), .int (Int32.ofInt a3)] : List Value).toArray below meth c D ad cA n0 0 post thr 7 M [(0, .ref (ad 331)), (1, .long (Int64.ofInt a1)), (3, .int (Int32.ofInt a3)), (4, .int (Int32.ofInt v4))] 32 [] := by
    intro J_32 M v4 hw hJ_32 H locs ls w hl
    refine lv_iload F.1 F.2.1 d_Mo_type_32 (lv_at hl 3 rfl) ?_
    refine lv_iload_n F.1 F.2.1 d_Mo_type_34 rfl (lv_at hl 2 rfl) ?_
    obtain ⟨h29, hw⟩ := hw
    obtain ⟨h30, hw⟩ := hw
    refine fi_icmp_ge F d_Mo_type_35 (tgt := 77) (by decide) h29 h30 (fun hc31 => ?_) (fun hc31 => ?_)
    · have hw := hw.1 hc31
      refine lv_iload_n F.1 F.2.1 d_Mo_type_77 rfl (lv_at hl 2 rfl) ?_
      refine lv_iconst (v := Int32.ofInt 1) F.1 F.2.1 d_Mo_type_78 (by decide) ?_
      refine fi_isub F d_Mo_type_79 ?_
      refine lv_istore F.1 F.2.1 d_Mo_type_80 hl (by decide) rfl (fun ls hl => ?_)
      have hl : lv_has ls 7 [(4, .int (Int32.ofInt (a3 - 1))), (0, .ref (ad 331)), (1, .long (Int64.ofInt a1)), (3, .int (Int32.ofInt a3))] := hl
      exact blk_82 M (a3 - 1) hw H locs ls w (lv_sub hl [1, 2, 0] rfl)
    · have hw := hw.2 hc31
      refine lv_lload_n F.1 F.2.1 d_Mo_type_38 rfl (lv_at hl 1 rfl) ?_
      refine lv_bipush (v := Int32.ofInt 8) F.1 F.2.1 d_Mo_type_39 (by decide) ?_
      refine lv_iload F.1 F.2.1 d_Mo_type_41 (lv_at hl 3 rfl) ?_
      refine fi_imul F d_Mo_type_43 ?_
      refine fi_lshr F d_Mo_type_44 ?_
      refine lv_ldc2 (v := Int64.ofInt 255) F.1 F.2.1 F.2.2.2.1 (F.2.2.2.2 _ k_949) d_Mo_type_45 ?_
      refine fi_land F d_Mo_type_48 ?_
      refine lv_lstore F.1 F.2.1 d_Mo_type_49 hl (by decide) rfl (fun ls hl => ?_)
      have hl : lv_has ls 7 [(5, .long (Int64.ofInt (jland (jlshr a1 (8 * v4)) 255))), (0, .ref (ad 331)), (1, .long (Int64.ofInt a1)), (3, .int (Int32.ofInt a3)), (4, .int (Int32.ofInt v4))] := hl
      refine lv_lload F.1 F.2.1 d_Mo_type_51 (lv_at hl 0 rfl) ?_
      refine lv_ldc2 (v := Int64.ofInt 33) F.1 F.2.1 F.2.2.2.1 (F.2.2.2.2 _ k_950) d_Mo_type_53 ?_
      obtain ⟨h32, hw⟩ := hw
      refine fi_lcmp F d_Mo_type_56 h32 (rll (by decide)) ?_
      refine fi_if_lt F d_Mo_type_57 (tgt := 69) (by decide) rg_jcmp (fun hc33 => ?_) (fun hc33 => ?_)
      · have hw := hw.1 hc33
        refine lv_iconst (v := Int32.ofInt (-1)) F.1 F.2.1 d_Mo_type_69 (by decide) ?_
        exact fx_iret F w hr hlk hw d_Mo_type_70
      · have hw := hw.2 hc33
        refine lv_lload F.1 F.2.1 d_Mo_type_60 (lv_at hl 0 rfl) ?_
        refine lv_ldc2 (v := Int64.ofInt 126) F.1 F.2.1 F.2.2.2.1 (F.2.2.2.2 _ k_951) d_Mo_type_62 ?_
        refine fi_lcmp F d_Mo_type_65 h32 (rll (by decide)) ?_
        refine fi_if_le F d_Mo_type_66 (tgt := 71) (by decide) rg_jcmp (fun hc34 => ?_) (fun hc34 => ?_)
        · have hw := hw.1 hc34
          refine fi_iinc (k := 4) (v := (v4 + 1)) F d_Mo_type_71 hl rfl rfl (by decide) rfl (fun ls hl => ?_)
          have hl : lv_has ls 7 [(4, .int (Int32.ofInt (v4 + 1))), (5, .long (Int64.ofInt (jland (jlshr a1 (8 * v4)) 255))), (0, .ref (ad 331)), (1, .long (Int64.ofInt a1)), (3, .int (Int32.ofInt a3))] := hl
          refine lv_goto F.1 F.2.1 d_Mo_type_74 (tgt := 32) (by decide) ?_
          exact hJ_32 M (v4 + 1) hw H locs ls w (lv_sub hl [2, 3, 4, 0] rfl)
        · have hw := hw.2 hc34
          refine lv_iconst (v := Int32.ofInt (-1)) F.1 F.2.1 d_Mo_type_69 (by decide) ?_
          exact fx_iret F w hr hlk hw d_Mo_type_70
  have blk_32 : ∀ (M : fm_M) (v4 : Int), B_Mo_type_32 a1 a3 post thr M v4 → fx_G p l e { frames := 1, cells := 1, slots := 6, locals := 22 } s m ([.ref (ad 331), .long (Int64.ofInt a1), .int (Int32.ofInt a3)] : List Value).toArray below meth c D ad cA n0 0 post thr 7 M [(0, .ref (ad 331)), (1, .long (Int64.ofInt a1)), (3, .int (Int32.ofInt a3)), (4, .int (Int32.ofInt v4))] 32 [] := by
    intro M v4 hw
    obtain ⟨I, μ, hI, hB⟩ := hw
    have key : ∀ (q : Nat) (M : fm_M) (v4 : Int), μ M v4 < q → I M v4 → fx_G p l e { frames := 1, cells := 1, slots := 6, locals := 22 } s m ([.ref (ad 331), .long (Int64.ofInt a1), .int (Int32.ofInt a3)] : List Value).toArray below meth c D ad cA n0 0 post thr 7 M [(0, .ref (ad 331)), (1, .long (Int64.ofInt a1)), (3, .int (Int32.ofInt a3)), (4, .int (Int32.ofInt v4))] 32 [] := by
      intro q
      induction q with
      | zero => intro M v4 h _; exact absurd h (Nat.not_lt_zero _)
      | succ q ih =>
        intro M v4 hμ hI
        exact blc_32 (fun M' v4' => I M' v4' ∧ μ M' v4' < μ M v4) M v4 (hB M v4 hI) (fun M' v4' hh => ih M' v4' (Nat.lt_of_lt_of_le hh.2 (Nat.le_of_lt_succ hμ)) hh.1)
    exact key _ M v4 (Nat.lt_succ_self _) hI
  have hl : lv_has ls 7 [(0, .ref (ad 331)), (1, .long (Int64.ofInt a1)), (3, .int (Int32.ofInt a3))] := hl
  suffices h9 : fx_G p l e { frames := 1, cells := 1, slots := 6, locals := 22 } s m ([.ref (ad 331), .long (Int64.ofInt a1), .int (Int32.ofInt a3)] : List Value).toArray below meth c D ad cA n0 0 post thr 7 M [(0, .ref (ad 331)), (1, .long (Int64.ofInt a1)), (3, .int (Int32.ofInt a3))] 0 [] from h9 _ _ _ w hl
  intro H locs ls w hl
  refine lv_aload_n F.1 F.2.1 d_Mo_type_0 rfl (lv_at hl 0 rfl) ?_
  refine lv_iconst (v := Int32.ofInt 0) F.1 F.2.1 d_Mo_type_1 (by decide) ?_
  refine fm_pI F w cl_Mo 331 0 T_331 (by decide) rfl k_814 rfl rfl d_Mo_type_2 (fun M35 hM35 H locs w => ?_)
  have hw := hw M35 hM35
  refine lv_iload_n F.1 F.2.1 d_Mo_type_5 rfl (lv_at hl 2 rfl) ?_
  refine lv_iconst (v := Int32.ofInt 1) F.1 F.2.1 d_Mo_type_6 (by decide) ?_
  refine lv_bipush (v := Int32.ofInt 8) F.1 F.2.1 d_Mo_type_7 (by decide) ?_
  refine fx_c w hno hlk (fx_rS (As := [.int (Int32.ofInt a3), .int (Int32.ofInt 1), .int (Int32.ofInt 8)]) (rest := []) F w (met_Mo_within l hst9 D ad cA n0 M35 a3 1 8 _ thr hw) e_Mo_within kt_Mo_within k_946 rfl hl.1 rfl (Nat.le_of_ble_eq_true rfl) ⟨⟨Nat.le_of_ble_eq_true rfl, Nat.le_of_ble_eq_true rfl⟩, Nat.le_of_ble_eq_true rfl, Nat.le_of_ble_eq_true rfl⟩ d_Mo_type_9) (fun r37 M36 hw H locs w => ?_)
  show W p l e _ s m _ below meth c H locs 0 0 _ (F0 m 12 ls [.int (Int32.ofInt r37)])
  obtain ⟨h38, hw⟩ := hw
  refine fi_if_eq F d_Mo_type_12 (tgt := 27) (by decide) h38 (fun hc39 => ?_) (fun hc39 => ?_)
  · have hw := hw.1 hc39
    refine lv_iconst (v := Int32.ofInt (-1)) F.1 F.2.1 d_Mo_type_27 (by decide) ?_
    exact fx_iret F w hr hlk hw d_Mo_type_28
  · have hw := hw.2 hc39
    refine lv_aload_n F.1 F.2.1 d_Mo_type_15 rfl (lv_at hl 0 rfl) ?_
    refine fm_gI F w cl_Mo 331 2 T_331 (by decide) rfl k_816 d_Mo_type_16 ?_
    refine lv_iload_n F.1 F.2.1 d_Mo_type_19 rfl (lv_at hl 2 rfl) ?_
    refine fi_iadd F d_Mo_type_20 ?_
    refine lv_sipush (v := Int32.ofInt 200) F.1 F.2.1 d_Mo_type_21 (by decide) ?_
    obtain ⟨h40, hw⟩ := hw
    refine fi_icmp_le F d_Mo_type_24 (tgt := 29) (by decide) h40 (rgl (by decide)) (fun hc41 => ?_) (fun hc41 => ?_)
    · have hw := hw.1 hc41
      refine lv_iconst (v := Int32.ofInt 0) F.1 F.2.1 d_Mo_type_29 (by decide) ?_
      refine lv_istore F.1 F.2.1 d_Mo_type_30 hl (by decide) rfl (fun ls hl => ?_)
      have hl : lv_has ls 7 [(4, .int (Int32.ofInt 0)), (0, .ref (ad 331)), (1, .long (Int64.ofInt a1)), (3, .int (Int32.ofInt a3))] := hl
      exact blk_32 M36 0 hw H locs ls w (lv_sub hl [1, 2, 3, 0] rfl)
    · have hw := hw.2 hc41
      refine lv_iconst (v := Int32.ofInt (-1)) F.1 F.2.1 d_Mo_type_27 (by decide) ?_
      exact fx_iret F w hr hlk hw d_Mo_type_28
