set_option maxHeartbeats 4000000 in
set_option maxRecDepth 100000 in
theorem met_Mo_wipe (l : Launch) (hst9 : l.stackTraces = false) (D : va_G) (ad : Nat → Nat) (cA : Nat → ClassId) (n0 : Nat) (M : fm_M) (post : Int → fm_M → Prop) (thr : String → fm_M → Prop) (hw : wp_Mo_wipe M post thr) : fx_Met l y_Mo_wipe (Cond.code y_Mo_wipe b_Mo_wipe 2 (some .int) :: tb) { frames := 0, cells := 1, slots := 6, locals := 0 } [.ref (ad 331)] D ad cA n0 M 0 post thr := by
  refine fx_met (by decide) (Nat.le_of_ble_eq_true rfl) (fun p e s m below meth c ls F w hno hr hlk hl => ?_)
  have hl : lv_has ls 2 [(0, .ref (ad 331))] := hl
  suffices h9 : fx_G p l e { frames := 0, cells := 1, slots := 6, locals := 0 } s m ([.ref (ad 331)] : List Value).toArray below meth c D ad cA n0 0 post thr 2 M [(0, .ref (ad 331))] 0 [] from h9 _ _ _ w hl
  intro H locs ls w hl
  refine lv_aload_n F.1 F.2.1 d_Mo_wipe_0 rfl (lv_at hl 0 rfl) ?_
  refine lv_iconst (v := Int32.ofInt 0) F.1 F.2.1 d_Mo_wipe_1 (by decide) ?_
  refine fm_pI F w cl_Mo 331 0 T_331 (by decide) rfl k_814 rfl rfl d_Mo_wipe_2 (fun M3 hM3 H locs w => ?_)
  have hw := hw M3 hM3
  refine lv_aload_n F.1 F.2.1 d_Mo_wipe_5 rfl (lv_at hl 0 rfl) ?_
  refine fm_gI F w cl_Mo 331 2 T_331 (by decide) rfl k_816 d_Mo_wipe_6 ?_
  refine lv_istore_n F.1 F.2.1 d_Mo_wipe_9 rfl hl (by decide) rfl (fun ls hl => ?_)
  have hl : lv_has ls 2 [(1, .int (Int32.ofInt (M3 331 2))), (0, .ref (ad 331))] := hl
  refine lv_aload_n F.1 F.2.1 d_Mo_wipe_10 rfl (lv_at hl 1 rfl) ?_
  refine lv_iconst (v := Int32.ofInt 0) F.1 F.2.1 d_Mo_wipe_11 (by decide) ?_
  refine fm_pI F w cl_Mo 331 2 T_331 (by decide) rfl k_816 rfl rfl d_Mo_wipe_12 (fun M4 hM4 H locs w => ?_)
  have hw := hw M4 hM4
  refine lv_iload_n F.1 F.2.1 d_Mo_wipe_15 rfl (lv_at hl 0 rfl) ?_
  exact fx_iret F w hr hlk hw d_Mo_wipe_16
set_option maxHeartbeats 4000000 in
set_option maxRecDepth 100000 in
theorem met_Mo_here (l : Launch) (hst9 : l.stackTraces = false) (D : va_G) (ad : Nat → Nat) (cA : Nat → ClassId) (n0 : Nat) (M : fm_M) (post : Int → fm_M → Prop) (thr : String → fm_M → Prop) (hw : wp_Mo_here M post thr) : fx_Met l y_Mo_here (Cond.code y_Mo_here b_Mo_here 1 (some .int) :: tb) { frames := 0, cells := 1, slots := 6, locals := 0 } [.ref (ad 331)] D ad cA n0 M 0 post thr := by
  refine fx_met (by decide) (Nat.le_of_ble_eq_true rfl) (fun p e s m below meth c ls F w hno hr hlk hl => ?_)
  have hl : lv_has ls 1 [(0, .ref (ad 331))] := hl
  suffices h9 : fx_G p l e { frames := 0, cells := 1, slots := 6, locals := 0 } s m ([.ref (ad 331)] : List Value).toArray below meth c D ad cA n0 0 post thr 1 M [(0, .ref (ad 331))] 0 [] from h9 _ _ _ w hl
  intro H locs ls w hl
  refine lv_aload_n F.1 F.2.1 d_Mo_here_0 rfl (lv_at hl 0 rfl) ?_
  refine fm_gI F w cl_Mo 331 3 T_331 (by decide) rfl k_817 d_Mo_here_1 ?_
  refine lv_aload_n F.1 F.2.1 d_Mo_here_4 rfl (lv_at hl 0 rfl) ?_
  refine fm_gI F w cl_Mo 331 2 T_331 (by decide) rfl k_816 d_Mo_here_5 ?_
  obtain ⟨h5, hw⟩ := hw
  obtain ⟨h6, hw⟩ := hw
  refine fi_icmp_ge F d_Mo_here_8 (tgt := 23) (by decide) h5 h6 (fun hc7 => ?_) (fun hc7 => ?_)
  · have hw := hw.1 hc7
    refine lv_iconst (v := Int32.ofInt 0) F.1 F.2.1 d_Mo_here_23 (by decide) ?_
    exact fx_iret F w hr hlk hw d_Mo_here_24
  · have hw := hw.2 hc7
    refine lv_aload_n F.1 F.2.1 d_Mo_here_11 rfl (lv_at hl 0 rfl) ?_
    refine fm_gO F w cl_Mo 331 1 332 T_331 (by decide) rfl rfl k_815 d_Mo_here_12 ?_
    refine lv_aload_n F.1 F.2.1 d_Mo_here_15 rfl (lv_at hl 0 rfl) ?_
    refine fm_gI F w cl_Mo 331 3 T_331 (by decide) rfl k_817 d_Mo_here_16 ?_
    obtain ⟨h8, hw⟩ := hw
    refine fm_aI F w 332 T_332 (by decide) h8 d_Mo_here_19 ?_
    refine lv_goto F.1 F.2.1 d_Mo_here_20 (tgt := 24) (by decide) ?_
    exact fx_iret F w hr hlk hw d_Mo_here_24
set_option maxHeartbeats 4000000 in
set_option maxRecDepth 100000 in
theorem met_Mo_fail (l : Launch) (hst9 : l.stackTraces = false) (D : va_G) (ad : Nat → Nat) (cA : Nat → ClassId) (n0 : Nat) (M : fm_M) (a1 : Int) (post : Int → fm_M → Prop) (thr : String → fm_M → Prop) (hw : wp_Mo_fail M a1 post thr) : fx_Met l y_Mo_fail (Cond.code y_Mo_fail b_Mo_fail 2 (some .boolean) :: tb) { frames := 0, cells := 1, slots := 6, locals := 0 } [.ref (ad 331), .int (Int32.ofInt a1)] D ad cA n0 M 0 post thr := by
  refine fx_met (by decide) (Nat.le_of_ble_eq_true rfl) (fun p e s m below meth c ls F w hno hr hlk hl => ?_)
  have hl : lv_has ls 2 [(0, .ref (ad 331)), (1, .int (Int32.ofInt a1))] := hl
  suffices h9 : fx_G p l e { frames := 0, cells := 1, slots := 6, locals := 0 } s m ([.ref (ad 331), .int (Int32.ofInt a1)] : List Value).toArray below meth c D ad cA n0 0 post thr 2 M [(0, .ref (ad 331)), (1, .int (Int32.ofInt a1))] 0 [] from h9 _ _ _ w hl
  intro H locs ls w hl
  refine lv_aload_n F.1 F.2.1 d_Mo_fail_0 rfl (lv_at hl 0 rfl) ?_
  refine lv_iload_n F.1 F.2.1 d_Mo_fail_1 rfl (lv_at hl 1 rfl) ?_
  refine fm_pI F w cl_Mo 331 4 T_331 (by decide) rfl k_818 rfl rfl d_Mo_fail_2 (fun M2 hM2 H locs w => ?_)
  have hw := hw M2 hM2
  refine lv_iconst (v := Int32.ofInt 0) F.1 F.2.1 d_Mo_fail_5 (by decide) ?_
  exact fx_zret F w hr hlk (fx_nz (by decide)) hw d_Mo_fail_6
set_option maxHeartbeats 4000000 in
set_option maxRecDepth 100000 in
theorem met_Mo_want (l : Launch) (hst9 : l.stackTraces = false) (D : va_G) (ad : Nat → Nat) (cA : Nat → ClassId) (n0 : Nat) (M : fm_M) (a1 : Int) (post : Int → fm_M → Prop) (thr : String → fm_M → Prop) (hw : wp_Mo_want M a1 post thr) : fx_Met l y_Mo_want (Cond.code y_Mo_want b_Mo_want 2 (some .boolean) :: tb) { frames := 1, cells := 1, slots := 6, locals := 21 } [.ref (ad 331), .int (Int32.ofInt a1)] D ad cA n0 M 0 post thr := by
  refine fx_met (by decide) (Nat.le_of_ble_eq_true rfl) (fun p e s m below meth c ls F w hno hr hlk hl => ?_)
  have hl : lv_has ls 2 [(0, .ref (ad 331)), (1, .int (Int32.ofInt a1))] := hl
  suffices h9 : fx_G p l e { frames := 1, cells := 1, slots := 6, locals := 21 } s m ([.ref (ad 331), .int (Int32.ofInt a1)] : List Value).toArray below meth c D ad cA n0 0 post thr 2 M [(0, .ref (ad 331)), (1, .int (Int32.ofInt a1))] 0 [] from h9 _ _ _ w hl
  intro H locs ls w hl
  refine lv_aload_n F.1 F.2.1 d_Mo_want_0 rfl (lv_at hl 0 rfl) ?_
  refine fx_c w hno hlk (fx_rV (As := []) (rest := []) F w cl_Mo 331 T_331 (met_Mo_here l hst9 D ad cA n0 M _ thr hw) e_Mo_here ki_Mo_here ks_Mo_here k_968 rfl hl.1 rfl (Nat.le_of_ble_eq_true rfl) ⟨⟨Nat.le_of_ble_eq_true rfl, Nat.le_of_ble_eq_true rfl⟩, Nat.le_of_ble_eq_true rfl, Nat.le_of_ble_eq_true rfl⟩ d_Mo_want_1) (fun r11 M10 hw H locs w => ?_)
  show W p l e _ s m _ below meth c H locs 0 0 _ (F0 m 4 ls [.int (Int32.ofInt r11)])
  refine lv_iload_n F.1 F.2.1 d_Mo_want_4 rfl (lv_at hl 1 rfl) ?_
  obtain ⟨h12, hw⟩ := hw
  obtain ⟨h13, hw⟩ := hw
  refine fi_icmp_eq F d_Mo_want_5 (tgt := 17) (by decide) h12 h13 (fun hc14 => ?_) (fun hc14 => ?_)
  · have hw := hw.1 hc14
    refine lv_aload_n F.1 F.2.1 d_Mo_want_17 rfl (lv_at hl 0 rfl) ?_
    refine lv_dup F.1 F.2.1 d_Mo_want_18 rfl ?_
    refine fm_gI F w cl_Mo 331 3 T_331 (by decide) rfl k_817 d_Mo_want_19 ?_
    refine lv_iconst (v := Int32.ofInt 1) F.1 F.2.1 d_Mo_want_22 (by decide) ?_
    refine fi_iadd F d_Mo_want_23 ?_
    refine fm_pI F w cl_Mo 331 3 T_331 (by decide) rfl k_817 rfl rfl d_Mo_want_24 (fun M15 hM15 H locs w => ?_)
    have hw := hw M15 hM15
    refine lv_iconst (v := Int32.ofInt 1) F.1 F.2.1 d_Mo_want_27 (by decide) ?_
    exact fx_zret F w hr hlk (fx_nz (by decide)) hw d_Mo_want_28
  · have hw := hw.2 hc14
    refine lv_aload_n F.1 F.2.1 d_Mo_want_8 rfl (lv_at hl 0 rfl) ?_
    refine lv_aload_n F.1 F.2.1 d_Mo_want_9 rfl (lv_at hl 0 rfl) ?_
    refine fm_gI F w cl_Mo 331 3 T_331 (by decide) rfl k_817 d_Mo_want_10 ?_
    refine fx_c w hno hlk (fx_rV (As := [.int (Int32.ofInt (M10 331 3))]) (rest := []) F w cl_Mo 331 T_331 (met_Mo_fail l hst9 D ad cA n0 M10 (M10 331 3) _ thr hw) e_Mo_fail ki_Mo_fail ks_Mo_fail k_976 rfl hl.1 rfl (Nat.le_of_ble_eq_true rfl) ⟨⟨Nat.le_of_ble_eq_true rfl, Nat.le_of_ble_eq_true rfl⟩, Nat.le_of_ble_eq_true rfl, Nat.le_of_ble_eq_true rfl⟩ d_Mo_want_13) (fun r17 M16 hw H locs w => ?_)
    show W p l e _ s m _ below meth c H locs 0 0 _ (F0 m 16 ls [.int (Int32.ofInt r17)])
    obtain ⟨h18, hw⟩ := hw
    exact fx_zret F w hr hlk (fx_nz h18) hw d_Mo_want_16
set_option maxHeartbeats 4000000 in
set_option maxRecDepth 100000 in
theorem met_Mo_isDigit (l : Launch) (hst9 : l.stackTraces = false) (D : va_G) (ad : Nat → Nat) (cA : Nat → ClassId) (n0 : Nat) (M : fm_M) (post : Int → fm_M → Prop) (thr : String → fm_M → Prop) (hw : wp_Mo_isDigit M post thr) : fx_Met l y_Mo_isDigit (Cond.code y_Mo_isDigit b_Mo_isDigit 1 (some .boolean) :: tb) { frames := 1, cells := 1, slots := 6, locals := 22 } [.ref (ad 331)] D ad cA n0 M 0 post thr := by
  refine fx_met (by decide) (Nat.le_of_ble_eq_true rfl) (fun p e s m below meth c ls F w hno hr hlk hl => ?_)
  have hl : lv_has ls 1 [(0, .ref (ad 331))] := hl
  suffices h9 : fx_G p l e { frames := 1, cells := 1, slots := 6, locals := 22 } s m ([.ref (ad 331)] : List Value).toArray below meth c D ad cA n0 0 post thr 1 M [(0, .ref (ad 331))] 0 [] from h9 _ _ _ w hl
  intro H locs ls w hl
  refine lv_aload_n F.1 F.2.1 d_Mo_isDigit_0 rfl (lv_at hl 0 rfl) ?_
  refine fx_c w hno hlk (fx_rV (As := []) (rest := []) F w cl_Mo 331 T_331 (met_Mo_here l hst9 D ad cA n0 M _ thr hw) e_Mo_here ki_Mo_here ks_Mo_here k_968 rfl hl.1 rfl (Nat.le_of_ble_eq_true rfl) ⟨⟨Nat.le_of_ble_eq_true rfl, Nat.le_of_ble_eq_true rfl⟩, Nat.le_of_ble_eq_true rfl, Nat.le_of_ble_eq_true rfl⟩ d_Mo_isDigit_1) (fun r7 M6 hw H locs w => ?_)
  show W p l e _ s m _ below meth c H locs 0 0 _ (F0 m 4 ls [.int (Int32.ofInt r7)])
  refine lv_bipush (v := Int32.ofInt 48) F.1 F.2.1 d_Mo_isDigit_4 (by decide) ?_
  refine lv_bipush (v := Int32.ofInt 57) F.1 F.2.1 d_Mo_isDigit_6 (by decide) ?_
  refine fx_c w hno hlk (fx_rS (As := [.int (Int32.ofInt r7), .int (Int32.ofInt 48), .int (Int32.ofInt 57)]) (rest := []) F w (met_Mo_within l hst9 D ad cA n0 M6 r7 48 57 _ thr hw) e_Mo_within kt_Mo_within k_946 rfl hl.1 rfl (Nat.le_of_ble_eq_true rfl) ⟨⟨Nat.le_of_ble_eq_true rfl, Nat.le_of_ble_eq_true rfl⟩, Nat.le_of_ble_eq_true rfl, Nat.le_of_ble_eq_true rfl⟩ d_Mo_isDigit_8) (fun r9 M8 hw H locs w => ?_)
  show W p l e _ s m _ below meth c H locs 0 0 _ (F0 m 11 ls [.int (Int32.ofInt r9)])
  obtain ⟨h10, hw⟩ := hw
  exact fx_zret F w hr hlk (fx_nz h10) hw d_Mo_isDigit_11
set_option maxHeartbeats 4000000 in
set_option maxRecDepth 100000 in
theorem met_Mo_isName (l : Launch) (hst9 : l.stackTraces = false) (D : va_G) (ad : Nat → Nat) (cA : Nat → ClassId) (n0 : Nat) (M : fm_M) (post : Int → fm_M → Prop) (thr : String → fm_M → Prop) (hw : wp_Mo_isName M post thr) : fx_Met l y_Mo_isName (Cond.code y_Mo_isName b_Mo_isName 1 (some .boolean) :: tb) { frames := 1, cells := 1, slots := 6, locals := 22 } [.ref (ad 331)] D ad cA n0 M 0 post thr := by
  refine fx_met (by decide) (Nat.le_of_ble_eq_true rfl) (fun p e s m below meth c ls F w hno hr hlk hl => ?_)
  have hl : lv_has ls 1 [(0, .ref (ad 331))] := hl
  suffices h9 : fx_G p l e { frames := 1, cells := 1, slots := 6, locals := 22 } s m ([.ref (ad 331)] : List Value).toArray below meth c D ad cA n0 0 post thr 1 M [(0, .ref (ad 331))] 0 [] from h9 _ _ _ w hl
  intro H locs ls w hl
  refine lv_aload_n F.1 F.2.1 d_Mo_isName_0 rfl (lv_at hl 0 rfl) ?_
  refine fx_c w hno hlk (fx_rV (As := []) (rest := []) F w cl_Mo 331 T_331 (met_Mo_here l hst9 D ad cA n0 M _ thr hw) e_Mo_here ki_Mo_here ks_Mo_here k_968 rfl hl.1 rfl (Nat.le_of_ble_eq_true rfl) ⟨⟨Nat.le_of_ble_eq_true rfl, Nat.le_of_ble_eq_true rfl⟩, Nat.le_of_ble_eq_true rfl, Nat.le_of_ble_eq_true rfl⟩ d_Mo_isName_1) (fun r7 M6 hw H locs w => ?_)
  show W p l e _ s m _ below meth c H locs 0 0 _ (F0 m 4 ls [.int (Int32.ofInt r7)])
  refine lv_bipush (v := Int32.ofInt 97) F.1 F.2.1 d_Mo_isName_4 (by decide) ?_
  refine lv_bipush (v := Int32.ofInt 99) F.1 F.2.1 d_Mo_isName_6 (by decide) ?_
  refine fx_c w hno hlk (fx_rS (As := [.int (Int32.ofInt r7), .int (Int32.ofInt 97), .int (Int32.ofInt 99)]) (rest := []) F w (met_Mo_within l hst9 D ad cA n0 M6 r7 97 99 _ thr hw) e_Mo_within kt_Mo_within k_946 rfl hl.1 rfl (Nat.le_of_ble_eq_true rfl) ⟨⟨Nat.le_of_ble_eq_true rfl, Nat.le_of_ble_eq_true rfl⟩, Nat.le_of_ble_eq_true rfl, Nat.le_of_ble_eq_true rfl⟩ d_Mo_isName_8) (fun r9 M8 hw H locs w => ?_)
  show W p l e _ s m _ below meth c H locs 0 0 _ (F0 m 11 ls [.int (Int32.ofInt r9)])
  obtain ⟨h10, hw⟩ := hw
  exact fx_zret F w hr hlk (fx_nz h10) hw d_Mo_isName_11
set_option maxHeartbeats 4000000 in
set_option maxRecDepth 100000 in
theorem met_Mo_readNumber (l : Launch) (hst9 : l.stackTraces = false) (D : va_G) (ad : Nat → Nat) (cA : Nat → ClassId) (n0 : Nat) (M : fm_M) (a1 : Int) (a2 : Int) (post : Int → fm_M → Prop) (thr : String → fm_M → Prop) (hw : wp_Mo_readNumber M a1 a2 post thr) : fx_Met l y_Mo_readNumber (Cond.code y_Mo_readNumber b_Mo_readNumber 5 (some .boolean) :: tb) { frames := 2, cells := 1, slots := 6, locals := 42 } [.ref (ad 331), .int (Int32.ofInt a1), .int (Int32.ofInt a2)] D ad cA n0 M 0 post thr := by
  refine fx_met (by decide) (Nat.le_of_ble_eq_true rfl) (fun p e s m below meth c ls F w hno hr hlk hl => ?_)
  have blk_132 : ∀ (M : fm_M), B_Mo_readNumber_132 a1 a2 post thr M → fx_G p l e { frames := 2, cells := 1, slots := 6, locals := 42 } s m ([.ref (ad 331), .int (Int32.ofInt a1), .int (Int32.ofInt a2)] : List Value).toArray below meth c D ad cA n0 0 post thr 5 M [] 132 [] := by
    intro M hw H locs ls w hl
    refine lv_iconst (v := Int32.ofInt 1) F.1 F.2.1 d_Mo_readNumber_132 (by decide) ?_
    refine lv_goto F.1 F.2.1 d_Mo_readNumber_133 (tgt := 137) (by decide) ?_
    exact fx_zret F w hr hlk (fx_nz (by decide)) hw d_Mo_readNumber_137
  have blk_124 : ∀ (M : fm_M) (v3 : Int), B_Mo_readNumber_124 a1 a2 post thr M v3 → fx_G p l e { frames := 2, cells := 1, slots := 6, locals := 42 } s m ([.ref (ad 331), .int (Int32.ofInt a1), .int (Int32.ofInt a2)] : List Value).toArray below meth c D ad cA n0 0 post thr 5 M [(0, .ref (ad 331)), (3, .int (Int32.ofInt v3))] 124 [] := by
    intro M v3 hw H locs ls w hl
    refine lv_aload_n F.1 F.2.1 d_Mo_readNumber_124 rfl (lv_at hl 0 rfl) ?_
    refine lv_iload_n F.1 F.2.1 d_Mo_readNumber_125 rfl (lv_at hl 1 rfl) ?_
    refine fx_c w hno hlk (fx_rV (As := [.int (Int32.ofInt v3)]) (rest := []) F w cl_Mo 331 T_331 (met_Mo_fail l hst9 D ad cA n0 M v3 _ thr hw) e_Mo_fail ki_Mo_fail ks_Mo_fail k_976 rfl hl.1 rfl (Nat.le_of_ble_eq_true rfl) ⟨⟨Nat.le_of_ble_eq_true rfl, Nat.le_of_ble_eq_true rfl⟩, Nat.le_of_ble_eq_true rfl, Nat.le_of_ble_eq_true rfl⟩ d_Mo_readNumber_126) (fun r42 M41 hw H locs w => ?_)
    show W p l e _ s m _ below meth c H locs 0 0 _ (F0 m 129 ls [.int (Int32.ofInt r42)])
    obtain ⟨h43, hw⟩ := hw
    refine fi_if_eq F d_Mo_readNumber_129 (tgt := 136) (by decide) h43 (fun hc44 => ?_) (fun hc44 => ?_)
    · have hw := hw.1 hc44
      refine lv_iconst (v := Int32.ofInt 0) F.1 F.2.1 d_Mo_readNumber_136 (by decide) ?_
      exact fx_zret F w hr hlk (fx_nz (by decide)) hw d_Mo_readNumber_137
    · have hw := hw.2 hc44
      exact blk_132 M41 hw H locs ls w (lv_sub hl [] rfl)
  have blk_105 : ∀ (M : fm_M) (v3 : Int) (s0 : Int), B_Mo_readNumber_105 a1 a2 post thr M v3 s0 → fx_G p l e { frames := 2, cells := 1, slots := 6, locals := 42 } s m ([.ref (ad 331), .int (Int32.ofInt a1), .int (Int32.ofInt a2)] : List Value).toArray below meth c D ad cA n0 0 post thr 5 M [(0, .ref (ad 331)), (1, .int (Int32.ofInt a1)), (2, .int (Int32.ofInt a2)), (3, .int (Int32.ofInt v3))] 105 [.int (Int32.ofInt s0)] := by
    intro M v3 s0 hw H locs ls w hl
    refine lv_istore F.1 F.2.1 d_Mo_readNumber_105 hl (by decide) rfl (fun ls hl => ?_)
    have hl : lv_has ls 5 [(4, .int (Int32.ofInt s0)), (0, .ref (ad 331)), (1, .int (Int32.ofInt a1)), (2, .int (Int32.ofInt a2)), (3, .int (Int32.ofInt v3))] := hl
    refine lv_iload F.1 F.2.1 d_Mo_readNumber_107 (lv_at hl 0 rfl) ?_
    obtain ⟨h45, hw⟩ := hw
    refine fi_if_ne F d_Mo_readNumber_109 (tgt := 124) (by decide) h45 (fun hc46 => ?_) (fun hc46 => ?_)
    · have hw := hw.1 hc46
      exact blk_124 M v3 hw H locs ls w (lv_sub hl [1, 4] rfl)
    · have hw := hw.2 hc46
      refine lv_aload_n F.1 F.2.1 d_Mo_readNumber_112 rfl (lv_at hl 1 rfl) ?_
      refine fm_gI F w cl_Mo 331 5 T_331 (by decide) rfl k_819 d_Mo_readNumber_113 ?_
      refine lv_iload_n F.1 F.2.1 d_Mo_readNumber_116 rfl (lv_at hl 2 rfl) ?_
      refine lv_iload_n F.1 F.2.1 d_Mo_readNumber_117 rfl (lv_at hl 3 rfl) ?_
      refine fx_c w hno hlk (fx_rS (As := [.int (Int32.ofInt (M 331 5)), .int (Int32.ofInt a1), .int (Int32.ofInt a2)]) (rest := []) F w (met_Mo_within l hst9 D ad cA n0 M (M 331 5) a1 a2 _ thr hw) e_Mo_within kt_Mo_within k_946 rfl hl.1 rfl (Nat.le_of_ble_eq_true rfl) ⟨⟨Nat.le_of_ble_eq_true rfl, Nat.le_of_ble_eq_true rfl⟩, Nat.le_of_ble_eq_true rfl, Nat.le_of_ble_eq_true rfl⟩ d_Mo_readNumber_118) (fun r48 M47 hw H locs w => ?_)
      show W p l e _ s m _ below meth c H locs 0 0 _ (F0 m 121 ls [.int (Int32.ofInt r48)])
      obtain ⟨h49, hw⟩ := hw
      refine fi_if_ne F d_Mo_readNumber_121 (tgt := 132) (by decide) h49 (fun hc50 => ?_) (fun hc50 => ?_)
      · have hw := hw.1 hc50
        exact blk_132 M47 hw H locs ls w (lv_sub hl [] rfl)
      · have hw := hw.2 hc50
        exact blk_124 M47 v3 hw H locs ls w (lv_sub hl [1, 4] rfl)
  have blk_63 : ∀ (J_26 : (fm_M → Int → Prop)) (M : fm_M) (v3 : Int) (s0 : Int), B_Mo_readNumber_63 a1 a2 post thr J_26 M v3 s0 → (∀ (M : fm_M) (v3 : Int), J_26 M v3 → fx_G p l e { frames := 2, cells := 1, slots := 6, locals := 42 } s m ([.ref (ad 331), .int (Int32.ofInt a1), .int (Int32.ofInt a2)] : List Value).toArray below meth c D ad cA n0 0 post thr 5 M [(0, .ref (ad 331)), (1, .int (Int32.ofInt a1)), (2, .int (Int32.ofInt a2)), (3, .int (Int32.ofInt v3))] 26 []) → fx_G p l e { frames := 2, cells := 1, slots := 6, locals := 42 } s m ([.ref (ad 331), .int (Int32.ofInt a1), .int (Int32.ofInt a2)] : List Value).toArray below meth c D ad cA n0 0 post thr 5 M [(0, .ref (ad 331)), (1, .int (Int32.ofInt a1)), (2, .int (Int32.ofInt a2)), (3, .int (Int32.ofInt v3))] 63 [.int (Int32.ofInt s0), .ref (ad 331)] := by
    intro J_26 M v3 s0 hw hJ_26 H locs ls w hl
    refine fm_pI F w cl_Mo 331 5 T_331 (by decide) rfl k_819 rfl rfl d_Mo_readNumber_63 (fun M51 hM51 H locs w => ?_)
    have hw := hw M51 hM51
    refine lv_aload_n F.1 F.2.1 d_Mo_readNumber_66 rfl (lv_at hl 0 rfl) ?_
    refine lv_dup F.1 F.2.1 d_Mo_readNumber_67 rfl ?_
    refine fm_gI F w cl_Mo 331 3 T_331 (by decide) rfl k_817 d_Mo_readNumber_68 ?_
    refine lv_iconst (v := Int32.ofInt 1) F.1 F.2.1 d_Mo_readNumber_71 (by decide) ?_
    refine fi_iadd F d_Mo_readNumber_72 ?_
    refine fm_pI F w cl_Mo 331 3 T_331 (by decide) rfl k_817 rfl rfl d_Mo_readNumber_73 (fun M52 hM52 H locs w => ?_)
    have hw := hw M52 hM52
    refine lv_goto F.1 F.2.1 d_Mo_readNumber_76 (tgt := 26) (by decide) ?_
    exact hJ_26 M52 v3 hw H locs ls w (lv_sub hl [0, 1, 2, 3] rfl)
  have blc_26 : ∀ (J_26 : (fm_M → Int → Prop)) (M : fm_M) (v3 : Int), C_Mo_readNumber_26 a1 a2 post thr J_26 M v3 → (∀ (M : fm_M) (v3 : Int), J_26 M v3 → fx_G p l e { frames := 2, cells := 1, slots := 6, locals := 42 } s m ([.ref (ad 331), .int (Int32.ofInt a1), .int (Int32.ofInt a2)] : List Value).toArray below meth c D ad cA n0 0 post thr 5 M [(0, .ref (ad 331)), (1, .int (Int32.ofInt a1)), (2, .int (Int32.ofInt a2)), (3, .int (Int32.ofInt v3))] 26 []) → fx_G p l e { frames := 2, cells := 1, slots := 6, locals := 42 } s m ([.ref (ad 331), .int (Int32.ofInt a1), .int (Int32.ofInt a2)] : List Value).toArray below meth c D ad cA n0 0 post thr 5 M [(0, .ref (ad 331)), (1, .int (Int32.ofInt a1)), (2, .int (Int32.ofInt a2)), (3, .int (Int32.ofInt v3))] 26 [] := by
    intro J_26 M v3 hw hJ_26 H locs ls w hl
    refine lv_aload_n F.1 F.2.1 d_Mo_readNumber_26 rfl (lv_at hl 0 rfl) ?_
    refine fx_c w hno hlk (fx_rV (As := []) (rest := []) F w cl_Mo 331 T_331 (met_Mo_isDigit l hst9 D ad cA n0 M _ thr hw) e_Mo_isDigit ki_Mo_isDigit ks_Mo_isDigit k_984 rfl hl.1 rfl (Nat.le_of_ble_eq_true rfl) ⟨⟨Nat.le_of_ble_eq_true rfl, Nat.le_of_ble_eq_true rfl⟩, Nat.le_of_ble_eq_true rfl, Nat.le_of_ble_eq_true rfl⟩ d_Mo_readNumber_27) (fun r54 M53 hw H locs w => ?_)
    show W p l e _ s m _ below meth c H locs 0 0 _ (F0 m 30 ls [.int (Int32.ofInt r54)])
    obtain ⟨h55, hw⟩ := hw
    refine fi_if_eq F d_Mo_readNumber_30 (tgt := 79) (by decide) h55 (fun hc56 => ?_) (fun hc56 => ?_)
    · have hw := hw.1 hc56
      refine lv_aload_n F.1 F.2.1 d_Mo_readNumber_79 rfl (lv_at hl 0 rfl) ?_
      refine fm_gO F w cl_Mo 331 1 332 T_331 (by decide) rfl rfl k_815 d_Mo_readNumber_80 ?_
      refine lv_iload_n F.1 F.2.1 d_Mo_readNumber_83 rfl (lv_at hl 3 rfl) ?_
      obtain ⟨h57, hw⟩ := hw
      refine fm_aI F w 332 T_332 (by decide) h57 d_Mo_readNumber_84 ?_
      refine lv_bipush (v := Int32.ofInt 48) F.1 F.2.1 d_Mo_readNumber_85 (by decide) ?_
      obtain ⟨h58, hw⟩ := hw
      refine fi_icmp_ne F d_Mo_readNumber_87 (tgt := 104) (by decide) h58 (rgl (by decide)) (fun hc59 => ?_) (fun hc59 => ?_)
      · have hw := hw.1 hc59
        refine lv_iconst (v := Int32.ofInt 0) F.1 F.2.1 d_Mo_readNumber_104 (by decide) ?_
        exact blk_105 M53 v3 0 hw H locs ls w (lv_sub hl [0, 1, 2, 3] rfl)
      · have hw := hw.2 hc59
        refine lv_aload_n F.1 F.2.1 d_Mo_readNumber_90 rfl (lv_at hl 0 rfl) ?_
        refine fm_gI F w cl_Mo 331 3 T_331 (by decide) rfl k_817 d_Mo_readNumber_91 ?_
        refine lv_iload_n F.1 F.2.1 d_Mo_readNumber_94 rfl (lv_at hl 3 rfl) ?_
        refine lv_iconst (v := Int32.ofInt 1) F.1 F.2.1 d_Mo_readNumber_95 (by decide) ?_
        refine fi_iadd F d_Mo_readNumber_96 ?_
        obtain ⟨h60, hw⟩ := hw
        obtain ⟨h61, hw⟩ := hw
        refine fi_icmp_le F d_Mo_readNumber_97 (tgt := 104) (by decide) h60 h61 (fun hc62 => ?_) (fun hc62 => ?_)
        · have hw := hw.1 hc62
          refine lv_iconst (v := Int32.ofInt 0) F.1 F.2.1 d_Mo_readNumber_104 (by decide) ?_
          exact blk_105 M53 v3 0 hw H locs ls w (lv_sub hl [0, 1, 2, 3] rfl)
        · have hw := hw.2 hc62
          refine lv_iconst (v := Int32.ofInt 1) F.1 F.2.1 d_Mo_readNumber_100 (by decide) ?_
          refine lv_goto F.1 F.2.1 d_Mo_readNumber_101 (tgt := 105) (by decide) ?_
          exact blk_105 M53 v3 1 hw H locs ls w (lv_sub hl [0, 1, 2, 3] rfl)
    · have hw := hw.2 hc56
      refine lv_aload_n F.1 F.2.1 d_Mo_readNumber_33 rfl (lv_at hl 0 rfl) ?_
      refine lv_aload_n F.1 F.2.1 d_Mo_readNumber_34 rfl (lv_at hl 0 rfl) ?_
      refine fm_gI F w cl_Mo 331 5 T_331 (by decide) rfl k_819 d_Mo_readNumber_35 ?_
      refine lv_bipush (v := Int32.ofInt 99) F.1 F.2.1 d_Mo_readNumber_38 (by decide) ?_
      obtain ⟨h63, hw⟩ := hw
      refine fi_icmp_le F d_Mo_readNumber_40 (tgt := 48) (by decide) h63 (rgl (by decide)) (fun hc64 => ?_) (fun hc64 => ?_)
      · have hw := hw.1 hc64
        refine lv_bipush (v := Int32.ofInt 10) F.1 F.2.1 d_Mo_readNumber_48 (by decide) ?_
        refine lv_aload_n F.1 F.2.1 d_Mo_readNumber_50 rfl (lv_at hl 0 rfl) ?_
        refine fm_gI F w cl_Mo 331 5 T_331 (by decide) rfl k_819 d_Mo_readNumber_51 ?_
        refine fi_imul F d_Mo_readNumber_54 ?_
        refine lv_aload_n F.1 F.2.1 d_Mo_readNumber_55 rfl (lv_at hl 0 rfl) ?_
        refine fx_c w hno hlk (fx_rV (As := []) (rest := [.int (Int32.ofInt (10 * (M53 331 5))), .ref (ad 331)]) F w cl_Mo 331 T_331 (met_Mo_here l hst9 D ad cA n0 M53 _ thr hw) e_Mo_here ki_Mo_here ks_Mo_here k_968 rfl hl.1 rfl (Nat.le_of_ble_eq_true rfl) ⟨⟨Nat.le_of_ble_eq_true rfl, Nat.le_of_ble_eq_true rfl⟩, Nat.le_of_ble_eq_true rfl, Nat.le_of_ble_eq_true rfl⟩ d_Mo_readNumber_56) (fun r66 M65 hw H locs w => ?_)
        show W p l e _ s m _ below meth c H locs 0 0 _ (F0 m 59 ls [.int (Int32.ofInt r66), .int (Int32.ofInt (10 * (M53 331 5))), .ref (ad 331)])
        refine fi_iadd F d_Mo_readNumber_59 ?_
        refine lv_bipush (v := Int32.ofInt 48) F.1 F.2.1 d_Mo_readNumber_60 (by decide) ?_
        refine fi_isub F d_Mo_readNumber_62 ?_
        exact blk_63 J_26 M65 v3 (((10 * (M53 331 5)) + r66) - 48) hw hJ_26 H locs ls w (lv_sub hl [0, 1, 2, 3] rfl)
      · have hw := hw.2 hc64
        refine lv_bipush (v := Int32.ofInt 100) F.1 F.2.1 d_Mo_readNumber_43 (by decide) ?_
        refine lv_goto F.1 F.2.1 d_Mo_readNumber_45 (tgt := 63) (by decide) ?_
        exact blk_63 J_26 M53 v3 100 hw hJ_26 H locs ls w (lv_sub hl [0, 1, 2, 3] rfl)
  have blk_26 : ∀ (M : fm_M) (v3 : Int), B_Mo_readNumber_26 a1 a2 post thr M v3 → fx_G p l e { frames := 2, cells := 1, slots := 6, locals := 42 } s m ([.ref (ad 331), .int (Int32.ofInt a1), .int (Int32.ofInt a2)] : List Value).toArray below meth c D ad cA n0 0 post thr 5 M [(0, .ref (ad 331)), (1, .int (Int32.ofInt a1)), (2, .int (Int32.ofInt a2)), (3, .int (Int32.ofInt v3))] 26 [] := by
    intro M v3 hw
    obtain ⟨I, μ, hI, hB⟩ := hw
    have key : ∀ (q : Nat) (M : fm_M) (v3 : Int), μ M v3 < q → I M v3 → fx_G p l e { frames := 2, cells := 1, slots := 6, locals := 42 } s m ([.ref (ad 331), .int (Int32.ofInt a1), .int (Int32.ofInt a2)] : List Value).toArray below meth c D ad cA n0 0 post thr 5 M [(0, .ref (ad 331)), (1, .int (Int32.ofInt a1)), (2, .int (Int32.ofInt a2)), (3, .int (Int32.ofInt v3))] 26 [] := by
      intro q
      induction q with
      | zero => intro M v3 h _; exact absurd h (Nat.not_lt_zero _)
      | succ q ih =>
        intro M v3 hμ hI
        exact blc_26 (fun M' v3' => I M' v3' ∧ μ M' v3' < μ M v3) M v3 (hB M v3 hI) (fun M' v3' hh => ih M' v3' (Nat.lt_of_lt_of_le hh.2 (Nat.le_of_lt_succ hμ)) hh.1)
    exact key _ M v3 (Nat.lt_succ_self _) hI
  have hl : lv_has ls 5 [(0, .ref (ad 331)), (1, .int (Int32.ofInt a1)), (2, .int (Int32.ofInt a2))] := hl
  suffices h9 : fx_G p l e { frames := 2, cells := 1, slots := 6, locals := 42 } s m ([.ref (ad 331), .int (Int32.ofInt a1), .int (Int32.ofInt a2)] : List Value).toArray below meth c D ad cA n0 0 post thr 5 M [(0, .ref (ad 331)), (1, .int (Int32.ofInt a1)), (2, .int (Int32.ofInt a2))] 0 [] from h9 _ _ _ w hl
  intro H locs ls w hl
  refine lv_aload_n F.1 F.2.1 d_Mo_readNumber_0 rfl (lv_at hl 0 rfl) ?_
  refine fx_c w hno hlk (fx_rV (As := []) (rest := []) F w cl_Mo 331 T_331 (met_Mo_isDigit l hst9 D ad cA n0 M _ thr hw) e_Mo_isDigit ki_Mo_isDigit ks_Mo_isDigit k_984 rfl hl.1 rfl (Nat.le_of_ble_eq_true rfl) ⟨⟨Nat.le_of_ble_eq_true rfl, Nat.le_of_ble_eq_true rfl⟩, Nat.le_of_ble_eq_true rfl, Nat.le_of_ble_eq_true rfl⟩ d_Mo_readNumber_1) (fun r68 M67 hw H locs w => ?_)
  show W p l e _ s m _ below meth c H locs 0 0 _ (F0 m 4 ls [.int (Int32.ofInt r68)])
  obtain ⟨h69, hw⟩ := hw
  refine fi_if_ne F d_Mo_readNumber_4 (tgt := 16) (by decide) h69 (fun hc70 => ?_) (fun hc70 => ?_)
  · have hw := hw.1 hc70
    refine lv_aload_n F.1 F.2.1 d_Mo_readNumber_16 rfl (lv_at hl 0 rfl) ?_
    refine fm_gI F w cl_Mo 331 3 T_331 (by decide) rfl k_817 d_Mo_readNumber_17 ?_
    refine lv_istore_n F.1 F.2.1 d_Mo_readNumber_20 rfl hl (by decide) rfl (fun ls hl => ?_)
    have hl : lv_has ls 5 [(3, .int (Int32.ofInt (M67 331 3))), (0, .ref (ad 331)), (1, .int (Int32.ofInt a1)), (2, .int (Int32.ofInt a2))] := hl
    refine lv_aload_n F.1 F.2.1 d_Mo_readNumber_21 rfl (lv_at hl 1 rfl) ?_
    refine lv_iconst (v := Int32.ofInt 0) F.1 F.2.1 d_Mo_readNumber_22 (by decide) ?_
    refine fm_pI F w cl_Mo 331 5 T_331 (by decide) rfl k_819 rfl rfl d_Mo_readNumber_23 (fun M71 hM71 H locs w => ?_)
    have hw := hw M71 hM71
    exact blk_26 M71 (M67 331 3) hw H locs ls w (lv_sub hl [1, 2, 3, 0] rfl)
  · have hw := hw.2 hc70
    refine lv_aload_n F.1 F.2.1 d_Mo_readNumber_7 rfl (lv_at hl 0 rfl) ?_
    refine lv_aload_n F.1 F.2.1 d_Mo_readNumber_8 rfl (lv_at hl 0 rfl) ?_
    refine fm_gI F w cl_Mo 331 3 T_331 (by decide) rfl k_817 d_Mo_readNumber_9 ?_
    refine fx_c w hno hlk (fx_rV (As := [.int (Int32.ofInt (M67 331 3))]) (rest := []) F w cl_Mo 331 T_331 (met_Mo_fail l hst9 D ad cA n0 M67 (M67 331 3) _ thr hw) e_Mo_fail ki_Mo_fail ks_Mo_fail k_976 rfl hl.1 rfl (Nat.le_of_ble_eq_true rfl) ⟨⟨Nat.le_of_ble_eq_true rfl, Nat.le_of_ble_eq_true rfl⟩, Nat.le_of_ble_eq_true rfl, Nat.le_of_ble_eq_true rfl⟩ d_Mo_readNumber_12) (fun r73 M72 hw H locs w => ?_)
    show W p l e _ s m _ below meth c H locs 0 0 _ (F0 m 15 ls [.int (Int32.ofInt r73)])
    obtain ⟨h74, hw⟩ := hw
    exact fx_zret F w hr hlk (fx_nz h74) hw d_Mo_readNumber_15
set_option maxHeartbeats 4000000 in
set_option maxRecDepth 100000 in
theorem met_Mo_isKnown (l : Launch) (hst9 : l.stackTraces = false) (D : va_G) (ad : Nat → Nat) (cA : Nat → ClassId) (n0 : Nat) (M : fm_M) (post : Int → fm_M → Prop) (thr : String → fm_M → Prop) (hw : wp_Mo_isKnown M post thr) : fx_Met l y_Mo_isKnown (Cond.code y_Mo_isKnown b_Mo_isKnown 1 (some .boolean) :: tb) { frames := 2, cells := 1, slots := 6, locals := 42 } [.ref (ad 331)] D ad cA n0 M 0 post thr := by
  refine fx_met (by decide) (Nat.le_of_ble_eq_true rfl) (fun p e s m below meth c ls F w hno hr hlk hl => ?_)
  have hl : lv_has ls 1 [(0, .ref (ad 331))] := hl
  suffices h9 : fx_G p l e { frames := 2, cells := 1, slots := 6, locals := 42 } s m ([.ref (ad 331)] : List Value).toArray below meth c D ad cA n0 0 post thr 1 M [(0, .ref (ad 331))] 0 [] from h9 _ _ _ w hl
  intro H locs ls w hl
  refine lv_aload_n F.1 F.2.1 d_Mo_isKnown_0 rfl (lv_at hl 0 rfl) ?_
  refine fx_c w hno hlk (fx_rV (As := []) (rest := []) F w cl_Mo 331 T_331 (met_Mo_isName l hst9 D ad cA n0 M _ thr hw) e_Mo_isName ki_Mo_isName ks_Mo_isName k_964 rfl hl.1 rfl (Nat.le_of_ble_eq_true rfl) ⟨⟨Nat.le_of_ble_eq_true rfl, Nat.le_of_ble_eq_true rfl⟩, Nat.le_of_ble_eq_true rfl, Nat.le_of_ble_eq_true rfl⟩ d_Mo_isKnown_1) (fun r11 M10 hw H locs w => ?_)
  show W p l e _ s m _ below meth c H locs 0 0 _ (F0 m 4 ls [.int (Int32.ofInt r11)])
  obtain ⟨h12, hw⟩ := hw
  refine fi_if_eq F d_Mo_isKnown_4 (tgt := 33) (by decide) h12 (fun hc13 => ?_) (fun hc13 => ?_)
  · have hw := hw.1 hc13
    refine lv_iconst (v := Int32.ofInt 0) F.1 F.2.1 d_Mo_isKnown_33 (by decide) ?_
    exact fx_zret F w hr hlk (fx_nz (by decide)) hw d_Mo_isKnown_34
  · have hw := hw.2 hc13
    refine lv_aload_n F.1 F.2.1 d_Mo_isKnown_7 rfl (lv_at hl 0 rfl) ?_
    refine fm_gO F w cl_Mo 331 8 333 T_331 (by decide) rfl rfl k_822 d_Mo_isKnown_8 ?_
    refine lv_iconst (v := Int32.ofInt 3) F.1 F.2.1 d_Mo_isKnown_11 (by decide) ?_
    refine lv_aload_n F.1 F.2.1 d_Mo_isKnown_12 rfl (lv_at hl 0 rfl) ?_
    refine fm_gI F w cl_Mo 331 7 T_331 (by decide) rfl k_821 d_Mo_isKnown_13 ?_
    refine fi_imul F d_Mo_isKnown_16 ?_
    refine lv_aload_n F.1 F.2.1 d_Mo_isKnown_17 rfl (lv_at hl 0 rfl) ?_
    refine fx_c w hno hlk (fx_rV (As := []) (rest := [.int (Int32.ofInt (3 * (M10 331 7))), .ref (ad 333)]) F w cl_Mo 331 T_331 (met_Mo_here l hst9 D ad cA n0 M10 _ thr hw) e_Mo_here ki_Mo_here ks_Mo_here k_968 rfl hl.1 rfl (Nat.le_of_ble_eq_true rfl) ⟨⟨Nat.le_of_ble_eq_true rfl, Nat.le_of_ble_eq_true rfl⟩, Nat.le_of_ble_eq_true rfl, Nat.le_of_ble_eq_true rfl⟩ d_Mo_isKnown_18) (fun r15 M14 hw H locs w => ?_)
    show W p l e _ s m _ below meth c H locs 0 0 _ (F0 m 21 ls [.int (Int32.ofInt r15), .int (Int32.ofInt (3 * (M10 331 7))), .ref (ad 333)])
    refine fi_iadd F d_Mo_isKnown_21 ?_
    refine lv_bipush (v := Int32.ofInt 97) F.1 F.2.1 d_Mo_isKnown_22 (by decide) ?_
    refine fi_isub F d_Mo_isKnown_24 ?_
    obtain ⟨h16, hw⟩ := hw
    refine fm_aI F w 333 T_333 (by decide) h16 d_Mo_isKnown_25 ?_
    obtain ⟨h17, hw⟩ := hw
    refine fi_if_le F d_Mo_isKnown_26 (tgt := 33) (by decide) h17 (fun hc18 => ?_) (fun hc18 => ?_)
    · have hw := hw.1 hc18
      refine lv_iconst (v := Int32.ofInt 0) F.1 F.2.1 d_Mo_isKnown_33 (by decide) ?_
      exact fx_zret F w hr hlk (fx_nz (by decide)) hw d_Mo_isKnown_34
    · have hw := hw.2 hc18
      refine lv_iconst (v := Int32.ofInt 1) F.1 F.2.1 d_Mo_isKnown_29 (by decide) ?_
      refine lv_goto F.1 F.2.1 d_Mo_isKnown_30 (tgt := 34) (by decide) ?_
      exact fx_zret F w hr hlk (fx_nz (by decide)) hw d_Mo_isKnown_34
set_option maxHeartbeats 4000000 in
set_option maxRecDepth 100000 in
theorem met_Mo_declare (l : Launch) (hst9 : l.stackTraces = false) (D : va_G) (ad : Nat → Nat) (cA : Nat → ClassId) (n0 : Nat) (M : fm_M) (post : Int → fm_M → Prop) (thr : String → fm_M → Prop) (hw : wp_Mo_declare M post thr) : fx_Met l y_Mo_declare (Cond.code y_Mo_declare b_Mo_declare 2 (some .boolean) :: tb) { frames := 3, cells := 1, slots := 6, locals := 66 } [.ref (ad 331)] D ad cA n0 M 0 post thr := by
  refine fx_met (by decide) (Nat.le_of_ble_eq_true rfl) (fun p e s m below meth c ls F w hno hr hlk hl => ?_)
  have hl : lv_has ls 2 [(0, .ref (ad 331))] := hl
  suffices h9 : fx_G p l e { frames := 3, cells := 1, slots := 6, locals := 66 } s m ([.ref (ad 331)] : List Value).toArray below meth c D ad cA n0 0 post thr 2 M [(0, .ref (ad 331))] 0 [] from h9 _ _ _ w hl
  intro H locs ls w hl
  refine lv_iconst (v := Int32.ofInt 3) F.1 F.2.1 d_Mo_declare_0 (by decide) ?_
  refine lv_aload_n F.1 F.2.1 d_Mo_declare_1 rfl (lv_at hl 0 rfl) ?_
  refine fm_gI F w cl_Mo 331 7 T_331 (by decide) rfl k_821 d_Mo_declare_2 ?_
  refine fi_imul F d_Mo_declare_5 ?_
  refine lv_aload_n F.1 F.2.1 d_Mo_declare_6 rfl (lv_at hl 0 rfl) ?_
  refine fx_c w hno hlk (fx_rV (As := []) (rest := [.int (Int32.ofInt (3 * (M 331 7)))]) F w cl_Mo 331 T_331 (met_Mo_here l hst9 D ad cA n0 M _ thr hw) e_Mo_here ki_Mo_here ks_Mo_here k_968 rfl hl.1 rfl (Nat.le_of_ble_eq_true rfl) ⟨⟨Nat.le_of_ble_eq_true rfl, Nat.le_of_ble_eq_true rfl⟩, Nat.le_of_ble_eq_true rfl, Nat.le_of_ble_eq_true rfl⟩ d_Mo_declare_7) (fun r28 M27 hw H locs w => ?_)
  show W p l e _ s m _ below meth c H locs 0 0 _ (F0 m 10 ls [.int (Int32.ofInt r28), .int (Int32.ofInt (3 * (M 331 7)))])
  refine fi_iadd F d_Mo_declare_10 ?_
  refine lv_bipush (v := Int32.ofInt 97) F.1 F.2.1 d_Mo_declare_11 (by decide) ?_
  refine fi_isub F d_Mo_declare_13 ?_
  refine lv_istore_n F.1 F.2.1 d_Mo_declare_14 rfl hl (by decide) rfl (fun ls hl => ?_)
  have hl : lv_has ls 2 [(1, .int (Int32.ofInt (((3 * (M 331 7)) + r28) - 97))), (0, .ref (ad 331))] := hl
  refine lv_aload_n F.1 F.2.1 d_Mo_declare_15 rfl (lv_at hl 1 rfl) ?_
  refine fm_gO F w cl_Mo 331 8 333 T_331 (by decide) rfl rfl k_822 d_Mo_declare_16 ?_
  refine lv_iload_n F.1 F.2.1 d_Mo_declare_19 rfl (lv_at hl 0 rfl) ?_
  obtain ⟨h29, hw⟩ := hw
  refine fm_aI F w 333 T_333 (by decide) h29 d_Mo_declare_20 ?_
  obtain ⟨h30, hw⟩ := hw
  refine fi_if_le F d_Mo_declare_21 (tgt := 33) (by decide) h30 (fun hc31 => ?_) (fun hc31 => ?_)
  · have hw := hw.1 hc31
    refine lv_aload_n F.1 F.2.1 d_Mo_declare_33 rfl (lv_at hl 1 rfl) ?_
    refine lv_dup F.1 F.2.1 d_Mo_declare_34 rfl ?_
    refine fm_gI F w cl_Mo 331 3 T_331 (by decide) rfl k_817 d_Mo_declare_35 ?_
    refine lv_iconst (v := Int32.ofInt 1) F.1 F.2.1 d_Mo_declare_38 (by decide) ?_
    refine fi_iadd F d_Mo_declare_39 ?_
    refine fm_pI F w cl_Mo 331 3 T_331 (by decide) rfl k_817 rfl rfl d_Mo_declare_40 (fun M32 hM32 H locs w => ?_)
    have hw := hw M32 hM32
    refine lv_aload_n F.1 F.2.1 d_Mo_declare_43 rfl (lv_at hl 1 rfl) ?_
    refine lv_iconst (v := Int32.ofInt 1) F.1 F.2.1 d_Mo_declare_44 (by decide) ?_
    refine lv_bipush (v := Int32.ofInt 9) F.1 F.2.1 d_Mo_declare_45 (by decide) ?_
    refine fx_c w hno hlk (fx_rV (As := [.int (Int32.ofInt 1), .int (Int32.ofInt 9)]) (rest := []) F w cl_Mo 331 T_331 (met_Mo_readNumber l hst9 D ad cA n0 M32 1 9 _ thr hw) e_Mo_readNumber ki_Mo_readNumber ks_Mo_readNumber k_980 rfl hl.1 rfl (Nat.le_of_ble_eq_true rfl) ⟨⟨Nat.le_of_ble_eq_true rfl, Nat.le_of_ble_eq_true rfl⟩, Nat.le_of_ble_eq_true rfl, Nat.le_of_ble_eq_true rfl⟩ d_Mo_declare_47) (fun r34 M33 hw H locs w => ?_)
    show W p l e _ s m _ below meth c H locs 0 0 _ (F0 m 50 ls [.int (Int32.ofInt r34)])
    obtain ⟨h35, hw⟩ := hw
    refine fi_if_ne F d_Mo_declare_50 (tgt := 55) (by decide) h35 (fun hc36 => ?_) (fun hc36 => ?_)
    · have hw := hw.1 hc36
      refine lv_aload_n F.1 F.2.1 d_Mo_declare_55 rfl (lv_at hl 1 rfl) ?_
      refine fm_gO F w cl_Mo 331 8 333 T_331 (by decide) rfl rfl k_822 d_Mo_declare_56 ?_
      refine lv_iload_n F.1 F.2.1 d_Mo_declare_59 rfl (lv_at hl 0 rfl) ?_
      refine lv_aload_n F.1 F.2.1 d_Mo_declare_60 rfl (lv_at hl 1 rfl) ?_
      refine fm_gI F w cl_Mo 331 5 T_331 (by decide) rfl k_819 d_Mo_declare_61 ?_
      refine fm_sI F w 333 T_333 (by decide) h29  d_Mo_declare_64 (fun M37 hM37 H locs w => ?_)
      have hw := hw M37 hM37
      refine lv_aload_n F.1 F.2.1 d_Mo_declare_65 rfl (lv_at hl 1 rfl) ?_
      refine lv_bipush (v := Int32.ofInt 58) F.1 F.2.1 d_Mo_declare_66 (by decide) ?_
      refine fx_c w hno hlk (fx_rV (As := [.int (Int32.ofInt 58)]) (rest := []) F w cl_Mo 331 T_331 (met_Mo_want l hst9 D ad cA n0 M37 58 _ thr hw) e_Mo_want ki_Mo_want ks_Mo_want k_988 rfl hl.1 rfl (Nat.le_of_ble_eq_true rfl) ⟨⟨Nat.le_of_ble_eq_true rfl, Nat.le_of_ble_eq_true rfl⟩, Nat.le_of_ble_eq_true rfl, Nat.le_of_ble_eq_true rfl⟩ d_Mo_declare_68) (fun r39 M38 hw H locs w => ?_)
      show W p l e _ s m _ below meth c H locs 0 0 _ (F0 m 71 ls [.int (Int32.ofInt r39)])
      obtain ⟨h40, hw⟩ := hw
      refine fi_if_eq F d_Mo_declare_71 (tgt := 86) (by decide) h40 (fun hc41 => ?_) (fun hc41 => ?_)
      · have hw := hw.1 hc41
        refine lv_iconst (v := Int32.ofInt 0) F.1 F.2.1 d_Mo_declare_86 (by decide) ?_
        exact fx_zret F w hr hlk (fx_nz (by decide)) hw d_Mo_declare_87
      · have hw := hw.2 hc41
        refine lv_aload_n F.1 F.2.1 d_Mo_declare_74 rfl (lv_at hl 1 rfl) ?_
        refine lv_iconst (v := Int32.ofInt 0) F.1 F.2.1 d_Mo_declare_75 (by decide) ?_
        refine lv_aload_n F.1 F.2.1 d_Mo_declare_76 rfl (lv_at hl 1 rfl) ?_
        refine fm_gI F w cl_Mo 331 5 T_331 (by decide) rfl k_819 d_Mo_declare_77 ?_
        refine fx_c w hno hlk (fx_rV (As := [.int (Int32.ofInt 0), .int (Int32.ofInt (M38 331 5))]) (rest := []) F w cl_Mo 331 T_331 (met_Mo_readNumber l hst9 D ad cA n0 M38 0 (M38 331 5) _ thr hw) e_Mo_readNumber ki_Mo_readNumber ks_Mo_readNumber k_980 rfl hl.1 rfl (Nat.le_of_ble_eq_true rfl) ⟨⟨Nat.le_of_ble_eq_true rfl, Nat.le_of_ble_eq_true rfl⟩, Nat.le_of_ble_eq_true rfl, Nat.le_of_ble_eq_true rfl⟩ d_Mo_declare_80) (fun r43 M42 hw H locs w => ?_)
        show W p l e _ s m _ below meth c H locs 0 0 _ (F0 m 83 ls [.int (Int32.ofInt r43)])
        obtain ⟨h44, hw⟩ := hw
        refine fi_if_ne F d_Mo_declare_83 (tgt := 88) (by decide) h44 (fun hc45 => ?_) (fun hc45 => ?_)
        · have hw := hw.1 hc45
          refine lv_aload_n F.1 F.2.1 d_Mo_declare_88 rfl (lv_at hl 1 rfl) ?_
          refine fm_gO F w cl_Mo 331 9 334 T_331 (by decide) rfl rfl k_823 d_Mo_declare_89 ?_
          refine lv_iload_n F.1 F.2.1 d_Mo_declare_92 rfl (lv_at hl 0 rfl) ?_
          refine lv_aload_n F.1 F.2.1 d_Mo_declare_93 rfl (lv_at hl 1 rfl) ?_
          refine fm_gI F w cl_Mo 331 5 T_331 (by decide) rfl k_819 d_Mo_declare_94 ?_
          refine fm_sI F w 334 T_334 (by decide) h29  d_Mo_declare_97 (fun M46 hM46 H locs w => ?_)
          have hw := hw M46 hM46
          refine lv_aload_n F.1 F.2.1 d_Mo_declare_98 rfl (lv_at hl 1 rfl) ?_
          refine lv_bipush (v := Int32.ofInt 59) F.1 F.2.1 d_Mo_declare_99 (by decide) ?_
          refine fx_c w hno hlk (fx_rV (As := [.int (Int32.ofInt 59)]) (rest := []) F w cl_Mo 331 T_331 (met_Mo_want l hst9 D ad cA n0 M46 59 _ thr hw) e_Mo_want ki_Mo_want ks_Mo_want k_988 rfl hl.1 rfl (Nat.le_of_ble_eq_true rfl) ⟨⟨Nat.le_of_ble_eq_true rfl, Nat.le_of_ble_eq_true rfl⟩, Nat.le_of_ble_eq_true rfl, Nat.le_of_ble_eq_true rfl⟩ d_Mo_declare_101) (fun r48 M47 hw H locs w => ?_)
          show W p l e _ s m _ below meth c H locs 0 0 _ (F0 m 104 ls [.int (Int32.ofInt r48)])
          obtain ⟨h49, hw⟩ := hw
          exact fx_zret F w hr hlk (fx_nz h49) hw d_Mo_declare_104
        · have hw := hw.2 hc45
          refine lv_iconst (v := Int32.ofInt 0) F.1 F.2.1 d_Mo_declare_86 (by decide) ?_
          exact fx_zret F w hr hlk (fx_nz (by decide)) hw d_Mo_declare_87
    · have hw := hw.2 hc36
      refine lv_iconst (v := Int32.ofInt 0) F.1 F.2.1 d_Mo_declare_53 (by decide) ?_
      exact fx_zret F w hr hlk (fx_nz (by decide)) hw d_Mo_declare_54
  · have hw := hw.2 hc31
    refine lv_aload_n F.1 F.2.1 d_Mo_declare_24 rfl (lv_at hl 1 rfl) ?_
    refine lv_aload_n F.1 F.2.1 d_Mo_declare_25 rfl (lv_at hl 1 rfl) ?_
    refine fm_gI F w cl_Mo 331 3 T_331 (by decide) rfl k_817 d_Mo_declare_26 ?_
    refine fx_c w hno hlk (fx_rV (As := [.int (Int32.ofInt (M27 331 3))]) (rest := []) F w cl_Mo 331 T_331 (met_Mo_fail l hst9 D ad cA n0 M27 (M27 331 3) _ thr hw) e_Mo_fail ki_Mo_fail ks_Mo_fail k_976 rfl hl.1 rfl (Nat.le_of_ble_eq_true rfl) ⟨⟨Nat.le_of_ble_eq_true rfl, Nat.le_of_ble_eq_true rfl⟩, Nat.le_of_ble_eq_true rfl, Nat.le_of_ble_eq_true rfl⟩ d_Mo_declare_29) (fun r51 M50 hw H locs w => ?_)
    show W p l e _ s m _ below meth c H locs 0 0 _ (F0 m 32 ls [.int (Int32.ofInt r51)])
    obtain ⟨h52, hw⟩ := hw
    exact fx_zret F w hr hlk (fx_nz h52) hw d_Mo_declare_32
set_option maxHeartbeats 4000000 in
set_option maxRecDepth 100000 in
theorem met_Mo_readItem (l : Launch) (hst9 : l.stackTraces = false) (D : va_G) (ad : Nat → Nat) (cA : Nat → ClassId) (n0 : Nat) (M : fm_M) (a1 : Int) (a2 : Int) (post : Int → fm_M → Prop) (thr : String → fm_M → Prop) (hw : wp_Mo_readItem M a1 a2 post thr) : fx_Met l y_Mo_readItem (Cond.code y_Mo_readItem b_Mo_readItem 4 (some .boolean) :: tb) { frames := 3, cells := 1, slots := 6, locals := 66 } [.ref (ad 331), .int (Int32.ofInt a1), .int (Int32.ofInt a2)] D ad cA n0 M 0 post thr := by
  refine fx_met (by decide) (Nat.le_of_ble_eq_true rfl) (fun p e s m below meth c ls F w hno hr hlk hl => ?_)
  have blk_92 : ∀ (M : fm_M), B_Mo_readItem_92 a1 a2 post thr M → fx_G p l e { frames := 3, cells := 1, slots := 6, locals := 66 } s m ([.ref (ad 331), .int (Int32.ofInt a1), .int (Int32.ofInt a2)] : List Value).toArray below meth c D ad cA n0 0 post thr 4 M [(0, .ref (ad 331)), (1, .int (Int32.ofInt a1))] 92 [] := by
    intro M hw H locs ls w hl
    refine lv_aload_n F.1 F.2.1 d_Mo_readItem_92 rfl (lv_at hl 0 rfl) ?_
    refine fm_gO F w cl_Mo 331 17 342 T_331 (by decide) rfl rfl k_831 d_Mo_readItem_93 ?_
    refine lv_iload_n F.1 F.2.1 d_Mo_readItem_96 rfl (lv_at hl 1 rfl) ?_
    refine lv_dup2_11 F.1 F.2.1 d_Mo_readItem_97 rfl rfl ?_
    obtain ⟨h27, hw⟩ := hw
    refine fm_aI F w 342 T_342 (by decide) h27 d_Mo_readItem_98 ?_
    refine lv_iconst (v := Int32.ofInt 1) F.1 F.2.1 d_Mo_readItem_99 (by decide) ?_
    refine fi_iadd F d_Mo_readItem_100 ?_
    refine fm_sI F w 342 T_342 (by decide) h27  d_Mo_readItem_101 (fun M28 hM28 H locs w => ?_)
    have hw := hw M28 hM28
    refine lv_iconst (v := Int32.ofInt 1) F.1 F.2.1 d_Mo_readItem_102 (by decide) ?_
    exact fx_zret F w hr hlk (fx_nz (by decide)) hw d_Mo_readItem_103
  have hl : lv_has ls 4 [(0, .ref (ad 331)), (1, .int (Int32.ofInt a1)), (2, .int (Int32.ofInt a2))] := hl
  suffices h9 : fx_G p l e { frames := 3, cells := 1, slots := 6, locals := 66 } s m ([.ref (ad 331), .int (Int32.ofInt a1), .int (Int32.ofInt a2)] : List Value).toArray below meth c D ad cA n0 0 post thr 4 M [(0, .ref (ad 331)), (1, .int (Int32.ofInt a1)), (2, .int (Int32.ofInt a2))] 0 [] from h9 _ _ _ w hl
  intro H locs ls w hl
  refine lv_iconst (v := Int32.ofInt 4) F.1 F.2.1 d_Mo_readItem_0 (by decide) ?_
  refine lv_iload_n F.1 F.2.1 d_Mo_readItem_1 rfl (lv_at hl 1 rfl) ?_
  refine fi_imul F d_Mo_readItem_2 ?_
  refine lv_aload_n F.1 F.2.1 d_Mo_readItem_3 rfl (lv_at hl 0 rfl) ?_
  refine fm_gO F w cl_Mo 331 17 342 T_331 (by decide) rfl rfl k_831 d_Mo_readItem_4 ?_
  refine lv_iload_n F.1 F.2.1 d_Mo_readItem_7 rfl (lv_at hl 1 rfl) ?_
  obtain ⟨h29, hw⟩ := hw
  refine fm_aI F w 342 T_342 (by decide) h29 d_Mo_readItem_8 ?_
  refine fi_iadd F d_Mo_readItem_9 ?_
  refine lv_istore_n F.1 F.2.1 d_Mo_readItem_10 rfl hl (by decide) rfl (fun ls hl => ?_)
  have hl : lv_has ls 4 [(3, .int (Int32.ofInt ((4 * a1) + (M 342 a1.toNat)))), (0, .ref (ad 331)), (1, .int (Int32.ofInt a1)), (2, .int (Int32.ofInt a2))] := hl
  refine lv_aload_n F.1 F.2.1 d_Mo_readItem_11 rfl (lv_at hl 1 rfl) ?_
  refine fm_gO F w cl_Mo 331 19 344 T_331 (by decide) rfl rfl k_833 d_Mo_readItem_12 ?_
  refine lv_iload_n F.1 F.2.1 d_Mo_readItem_15 rfl (lv_at hl 0 rfl) ?_
  refine lv_iload_n F.1 F.2.1 d_Mo_readItem_16 rfl (lv_at hl 3 rfl) ?_
  obtain ⟨h30, hw⟩ := hw
  obtain ⟨h31, hw⟩ := hw
  refine fm_sZ F w 344 T_344 (by decide) h30 h31 d_Mo_readItem_17 (fun M32 hM32 H locs w => ?_)
  have hw := hw M32 hM32
  refine lv_aload_n F.1 F.2.1 d_Mo_readItem_18 rfl (lv_at hl 1 rfl) ?_
  refine fx_c w hno hlk (fx_rV (As := []) (rest := []) F w cl_Mo 331 T_331 (met_Mo_isDigit l hst9 D ad cA n0 M32 _ thr hw) e_Mo_isDigit ki_Mo_isDigit ks_Mo_isDigit k_984 rfl hl.1 rfl (Nat.le_of_ble_eq_true rfl) ⟨⟨Nat.le_of_ble_eq_true rfl, Nat.le_of_ble_eq_true rfl⟩, Nat.le_of_ble_eq_true rfl, Nat.le_of_ble_eq_true rfl⟩ d_Mo_readItem_19) (fun r34 M33 hw H locs w => ?_)
  show W p l e _ s m _ below meth c H locs 0 0 _ (F0 m 22 ls [.int (Int32.ofInt r34)])
  obtain ⟨h35, hw⟩ := hw
  refine fi_if_eq F d_Mo_readItem_22 (tgt := 50) (by decide) h35 (fun hc36 => ?_) (fun hc36 => ?_)
  · have hw := hw.1 hc36
    refine lv_aload_n F.1 F.2.1 d_Mo_readItem_50 rfl (lv_at hl 1 rfl) ?_
    refine fx_c w hno hlk (fx_rV (As := []) (rest := []) F w cl_Mo 331 T_331 (met_Mo_isKnown l hst9 D ad cA n0 M33 _ thr hw) e_Mo_isKnown ki_Mo_isKnown ks_Mo_isKnown k_1012 rfl hl.1 rfl (Nat.le_of_ble_eq_true rfl) ⟨⟨Nat.le_of_ble_eq_true rfl, Nat.le_of_ble_eq_true rfl⟩, Nat.le_of_ble_eq_true rfl, Nat.le_of_ble_eq_true rfl⟩ d_Mo_readItem_51) (fun r38 M37 hw H locs w => ?_)
    show W p l e _ s m _ below meth c H locs 0 0 _ (F0 m 54 ls [.int (Int32.ofInt r38)])
    obtain ⟨h39, hw⟩ := hw
    refine fi_if_ne F d_Mo_readItem_54 (tgt := 66) (by decide) h39 (fun hc40 => ?_) (fun hc40 => ?_)
    · have hw := hw.1 hc40
      refine lv_aload_n F.1 F.2.1 d_Mo_readItem_66 rfl (lv_at hl 1 rfl) ?_
      refine fm_gO F w cl_Mo 331 18 343 T_331 (by decide) rfl rfl k_832 d_Mo_readItem_67 ?_
      refine lv_iload_n F.1 F.2.1 d_Mo_readItem_70 rfl (lv_at hl 0 rfl) ?_
      refine lv_bipush (v := Int32.ofInt 100) F.1 F.2.1 d_Mo_readItem_71 (by decide) ?_
      refine lv_aload_n F.1 F.2.1 d_Mo_readItem_73 rfl (lv_at hl 1 rfl) ?_
      refine fx_c w hno hlk (fx_rV (As := []) (rest := [.int (Int32.ofInt 100), .int (Int32.ofInt ((4 * a1) + (M 342 a1.toNat))), .ref (ad 343)]) F w cl_Mo 331 T_331 (met_Mo_here l hst9 D ad cA n0 M37 _ thr hw) e_Mo_here ki_Mo_here ks_Mo_here k_968 rfl hl.1 rfl (Nat.le_of_ble_eq_true rfl) ⟨⟨Nat.le_of_ble_eq_true rfl, Nat.le_of_ble_eq_true rfl⟩, Nat.le_of_ble_eq_true rfl, Nat.le_of_ble_eq_true rfl⟩ d_Mo_readItem_74) (fun r42 M41 hw H locs w => ?_)
      show W p l e _ s m _ below meth c H locs 0 0 _ (F0 m 77 ls [.int (Int32.ofInt r42), .int (Int32.ofInt 100), .int (Int32.ofInt ((4 * a1) + (M 342 a1.toNat))), .ref (ad 343)])
      refine fi_iadd F d_Mo_readItem_77 ?_
      refine lv_bipush (v := Int32.ofInt 97) F.1 F.2.1 d_Mo_readItem_78 (by decide) ?_
      refine fi_isub F d_Mo_readItem_80 ?_
      refine fm_sI F w 343 T_343 (by decide) h30  d_Mo_readItem_81 (fun M43 hM43 H locs w => ?_)
      have hw := hw M43 hM43
      refine lv_aload_n F.1 F.2.1 d_Mo_readItem_82 rfl (lv_at hl 1 rfl) ?_
      refine lv_dup F.1 F.2.1 d_Mo_readItem_83 rfl ?_
      refine fm_gI F w cl_Mo 331 3 T_331 (by decide) rfl k_817 d_Mo_readItem_84 ?_
      refine lv_iconst (v := Int32.ofInt 1) F.1 F.2.1 d_Mo_readItem_87 (by decide) ?_
      refine fi_iadd F d_Mo_readItem_88 ?_
      refine fm_pI F w cl_Mo 331 3 T_331 (by decide) rfl k_817 rfl rfl d_Mo_readItem_89 (fun M44 hM44 H locs w => ?_)
      have hw := hw M44 hM44
      exact blk_92 M44 hw H locs ls w (lv_sub hl [1, 2] rfl)
    · have hw := hw.2 hc40
      refine lv_aload_n F.1 F.2.1 d_Mo_readItem_57 rfl (lv_at hl 1 rfl) ?_
      refine lv_aload_n F.1 F.2.1 d_Mo_readItem_58 rfl (lv_at hl 1 rfl) ?_
      refine fm_gI F w cl_Mo 331 3 T_331 (by decide) rfl k_817 d_Mo_readItem_59 ?_
      refine fx_c w hno hlk (fx_rV (As := [.int (Int32.ofInt (M37 331 3))]) (rest := []) F w cl_Mo 331 T_331 (met_Mo_fail l hst9 D ad cA n0 M37 (M37 331 3) _ thr hw) e_Mo_fail ki_Mo_fail ks_Mo_fail k_976 rfl hl.1 rfl (Nat.le_of_ble_eq_true rfl) ⟨⟨Nat.le_of_ble_eq_true rfl, Nat.le_of_ble_eq_true rfl⟩, Nat.le_of_ble_eq_true rfl, Nat.le_of_ble_eq_true rfl⟩ d_Mo_readItem_62) (fun r46 M45 hw H locs w => ?_)
      show W p l e _ s m _ below meth c H locs 0 0 _ (F0 m 65 ls [.int (Int32.ofInt r46)])
      obtain ⟨h47, hw⟩ := hw
      exact fx_zret F w hr hlk (fx_nz h47) hw d_Mo_readItem_65
  · have hw := hw.2 hc36
    refine lv_aload_n F.1 F.2.1 d_Mo_readItem_25 rfl (lv_at hl 1 rfl) ?_
    refine lv_iconst (v := Int32.ofInt 0) F.1 F.2.1 d_Mo_readItem_26 (by decide) ?_
    refine lv_bipush (v := Int32.ofInt 99) F.1 F.2.1 d_Mo_readItem_27 (by decide) ?_
    refine fx_c w hno hlk (fx_rV (As := [.int (Int32.ofInt 0), .int (Int32.ofInt 99)]) (rest := []) F w cl_Mo 331 T_331 (met_Mo_readNumber l hst9 D ad cA n0 M33 0 99 _ thr hw) e_Mo_readNumber ki_Mo_readNumber ks_Mo_readNumber k_980 rfl hl.1 rfl (Nat.le_of_ble_eq_true rfl) ⟨⟨Nat.le_of_ble_eq_true rfl, Nat.le_of_ble_eq_true rfl⟩, Nat.le_of_ble_eq_true rfl, Nat.le_of_ble_eq_true rfl⟩ d_Mo_readItem_29) (fun r49 M48 hw H locs w => ?_)
    show W p l e _ s m _ below meth c H locs 0 0 _ (F0 m 32 ls [.int (Int32.ofInt r49)])
    obtain ⟨h50, hw⟩ := hw
    refine fi_if_ne F d_Mo_readItem_32 (tgt := 37) (by decide) h50 (fun hc51 => ?_) (fun hc51 => ?_)
    · have hw := hw.1 hc51
      refine lv_aload_n F.1 F.2.1 d_Mo_readItem_37 rfl (lv_at hl 1 rfl) ?_
      refine fm_gO F w cl_Mo 331 18 343 T_331 (by decide) rfl rfl k_832 d_Mo_readItem_38 ?_
      refine lv_iload_n F.1 F.2.1 d_Mo_readItem_41 rfl (lv_at hl 0 rfl) ?_
      refine lv_aload_n F.1 F.2.1 d_Mo_readItem_42 rfl (lv_at hl 1 rfl) ?_
      refine fm_gI F w cl_Mo 331 5 T_331 (by decide) rfl k_819 d_Mo_readItem_43 ?_
      refine fm_sI F w 343 T_343 (by decide) h30  d_Mo_readItem_46 (fun M52 hM52 H locs w => ?_)
      have hw := hw M52 hM52
      refine lv_goto F.1 F.2.1 d_Mo_readItem_47 (tgt := 92) (by decide) ?_
      exact blk_92 M52 hw H locs ls w (lv_sub hl [1, 2] rfl)
    · have hw := hw.2 hc51
      refine lv_iconst (v := Int32.ofInt 0) F.1 F.2.1 d_Mo_readItem_35 (by decide) ?_
      exact fx_zret F w hr hlk (fx_nz (by decide)) hw d_Mo_readItem_36
set_option maxHeartbeats 4000000 in
set_option maxRecDepth 100000 in
theorem met_Mo_readSum (l : Launch) (hst9 : l.stackTraces = false) (D : va_G) (ad : Nat → Nat) (cA : Nat → ClassId) (n0 : Nat) (M : fm_M) (a1 : Int) (post : Int → fm_M → Prop) (thr : String → fm_M → Prop) (hw : wp_Mo_readSum M a1 post thr) : fx_Met l y_Mo_readSum (Cond.code y_Mo_readSum b_Mo_readSum 3 (some .boolean) :: tb) { frames := 4, cells := 1, slots := 6, locals := 89 } [.ref (ad 331), .int (Int32.ofInt a1)] D ad cA n0 M 0 post thr := by
  refine fx_met (by decide) (Nat.le_of_ble_eq_true rfl) (fun p e s m below meth c ls F w hno hr hlk hl => ?_)
  have blk_50 : ∀ (J_18 : (fm_M → Prop)) (M : fm_M) (s0 : Int), B_Mo_readSum_50 a1 post thr J_18 M s0 → (∀ (M : fm_M), J_18 M → fx_G p l e { frames := 4, cells := 1, slots := 6, locals := 89 } s m ([.ref (ad 331), .int (Int32.ofInt a1)] : List Value).toArray below meth c D ad cA n0 0 post thr 3 M [(0, .ref (ad 331)), (1, .int (Int32.ofInt a1))] 18 []) → fx_G p l e { frames := 4, cells := 1, slots := 6, locals := 89 } s m ([.ref (ad 331), .int (Int32.ofInt a1)] : List Value).toArray below meth c D ad cA n0 0 post thr 3 M [(0, .ref (ad 331)), (1, .int (Int32.ofInt a1))] 50 [.int (Int32.ofInt s0)] := by
    intro J_18 M s0 hw hJ_18 H locs ls w hl
    refine lv_istore_n F.1 F.2.1 d_Mo_readSum_50 rfl hl (by decide) rfl (fun ls hl => ?_)
    have hl : lv_has ls 3 [(2, .int (Int32.ofInt s0)), (0, .ref (ad 331)), (1, .int (Int32.ofInt a1))] := hl
    refine lv_aload_n F.1 F.2.1 d_Mo_readSum_51 rfl (lv_at hl 1 rfl) ?_
    refine fm_gO F w cl_Mo 331 17 342 T_331 (by decide) rfl rfl k_831 d_Mo_readSum_52 ?_
    refine lv_iload_n F.1 F.2.1 d_Mo_readSum_55 rfl (lv_at hl 2 rfl) ?_
    obtain ⟨h41, hw⟩ := hw
    refine fm_aI F w 342 T_342 (by decide) h41 d_Mo_readSum_56 ?_
    refine lv_iconst (v := Int32.ofInt 4) F.1 F.2.1 d_Mo_readSum_57 (by decide) ?_
    obtain ⟨h42, hw⟩ := hw
    refine fi_icmp_ne F d_Mo_readSum_58 (tgt := 70) (by decide) h42 (rgl (by decide)) (fun hc43 => ?_) (fun hc43 => ?_)
    · have hw := hw.1 hc43
      refine lv_aload_n F.1 F.2.1 d_Mo_readSum_70 rfl (lv_at hl 1 rfl) ?_
      refine lv_dup F.1 F.2.1 d_Mo_readSum_71 rfl ?_
      refine fm_gI F w cl_Mo 331 3 T_331 (by decide) rfl k_817 d_Mo_readSum_72 ?_
      refine lv_iconst (v := Int32.ofInt 1) F.1 F.2.1 d_Mo_readSum_75 (by decide) ?_
      refine fi_iadd F d_Mo_readSum_76 ?_
      refine fm_pI F w cl_Mo 331 3 T_331 (by decide) rfl k_817 rfl rfl d_Mo_readSum_77 (fun M44 hM44 H locs w => ?_)
      have hw := hw M44 hM44
      refine lv_aload_n F.1 F.2.1 d_Mo_readSum_80 rfl (lv_at hl 1 rfl) ?_
      refine lv_iload_n F.1 F.2.1 d_Mo_readSum_81 rfl (lv_at hl 2 rfl) ?_
      refine lv_iload_n F.1 F.2.1 d_Mo_readSum_82 rfl (lv_at hl 0 rfl) ?_
      refine fx_c w hno hlk (fx_rV (As := [.int (Int32.ofInt a1), .int (Int32.ofInt s0)]) (rest := []) F w cl_Mo 331 T_331 (met_Mo_readItem l hst9 D ad cA n0 M44 a1 s0 _ thr hw) e_Mo_readItem ki_Mo_readItem ks_Mo_readItem k_1008 rfl hl.1 rfl (Nat.le_of_ble_eq_true rfl) ⟨⟨Nat.le_of_ble_eq_true rfl, Nat.le_of_ble_eq_true rfl⟩, Nat.le_of_ble_eq_true rfl, Nat.le_of_ble_eq_true rfl⟩ d_Mo_readSum_83) (fun r46 M45 hw H locs w => ?_)
      show W p l e _ s m _ below meth c H locs 0 0 _ (F0 m 86 ls [.int (Int32.ofInt r46)])
      obtain ⟨h47, hw⟩ := hw
      refine fi_if_ne F d_Mo_readSum_86 (tgt := 91) (by decide) h47 (fun hc48 => ?_) (fun hc48 => ?_)
      · have hw := hw.1 hc48
        refine lv_goto F.1 F.2.1 d_Mo_readSum_91 (tgt := 18) (by decide) ?_
        exact hJ_18 M45 hw H locs ls w (lv_sub hl [1, 2] rfl)
      · have hw := hw.2 hc48
        refine lv_iconst (v := Int32.ofInt 0) F.1 F.2.1 d_Mo_readSum_89 (by decide) ?_
        exact fx_zret F w hr hlk (fx_nz (by decide)) hw d_Mo_readSum_90
    · have hw := hw.2 hc43
      refine lv_aload_n F.1 F.2.1 d_Mo_readSum_61 rfl (lv_at hl 1 rfl) ?_
      refine lv_aload_n F.1 F.2.1 d_Mo_readSum_62 rfl (lv_at hl 1 rfl) ?_
      refine fm_gI F w cl_Mo 331 3 T_331 (by decide) rfl k_817 d_Mo_readSum_63 ?_
      refine fx_c w hno hlk (fx_rV (As := [.int (Int32.ofInt (M 331 3))]) (rest := []) F w cl_Mo 331 T_331 (met_Mo_fail l hst9 D ad cA n0 M (M 331 3) _ thr hw) e_Mo_fail ki_Mo_fail ks_Mo_fail k_976 rfl hl.1 rfl (Nat.le_of_ble_eq_true rfl) ⟨⟨Nat.le_of_ble_eq_true rfl, Nat.le_of_ble_eq_true rfl⟩, Nat.le_of_ble_eq_true rfl, Nat.le_of_ble_eq_true rfl⟩ d_Mo_readSum_66) (fun r50 M49 hw H locs w => ?_)
      show W p l e _ s m _ below meth c H locs 0 0 _ (F0 m 69 ls [.int (Int32.ofInt r50)])
      obtain ⟨h51, hw⟩ := hw
      exact fx_zret F w hr hlk (fx_nz h51) hw d_Mo_readSum_69
  have blk_36 : ∀ (J_18 : (fm_M → Prop)) (M : fm_M), B_Mo_readSum_36 a1 post thr J_18 M → (∀ (M : fm_M), J_18 M → fx_G p l e { frames := 4, cells := 1, slots := 6, locals := 89 } s m ([.ref (ad 331), .int (Int32.ofInt a1)] : List Value).toArray below meth c D ad cA n0 0 post thr 3 M [(0, .ref (ad 331)), (1, .int (Int32.ofInt a1))] 18 []) → fx_G p l e { frames := 4, cells := 1, slots := 6, locals := 89 } s m ([.ref (ad 331), .int (Int32.ofInt a1)] : List Value).toArray below meth c D ad cA n0 0 post thr 3 M [(0, .ref (ad 331)), (1, .int (Int32.ofInt a1))] 36 [] := by
    intro J_18 M hw hJ_18 H locs ls w hl
    refine lv_aload_n F.1 F.2.1 d_Mo_readSum_36 rfl (lv_at hl 0 rfl) ?_
    refine fx_c w hno hlk (fx_rV (As := []) (rest := []) F w cl_Mo 331 T_331 (met_Mo_here l hst9 D ad cA n0 M _ thr hw) e_Mo_here ki_Mo_here ks_Mo_here k_968 rfl hl.1 rfl (Nat.le_of_ble_eq_true rfl) ⟨⟨Nat.le_of_ble_eq_true rfl, Nat.le_of_ble_eq_true rfl⟩, Nat.le_of_ble_eq_true rfl, Nat.le_of_ble_eq_true rfl⟩ d_Mo_readSum_37) (fun r53 M52 hw H locs w => ?_)
    show W p l e _ s m _ below meth c H locs 0 0 _ (F0 m 40 ls [.int (Int32.ofInt r53)])
    refine lv_bipush (v := Int32.ofInt 45) F.1 F.2.1 d_Mo_readSum_40 (by decide) ?_
    obtain ⟨h54, hw⟩ := hw
    refine fi_icmp_ne F d_Mo_readSum_42 (tgt := 49) (by decide) h54 (rgl (by decide)) (fun hc55 => ?_) (fun hc55 => ?_)
    · have hw := hw.1 hc55
      refine lv_iconst (v := Int32.ofInt 0) F.1 F.2.1 d_Mo_readSum_49 (by decide) ?_
      exact blk_50 J_18 M52 0 hw hJ_18 H locs ls w (lv_sub hl [0, 1] rfl)
    · have hw := hw.2 hc55
      refine lv_iconst (v := Int32.ofInt 1) F.1 F.2.1 d_Mo_readSum_45 (by decide) ?_
      refine lv_goto F.1 F.2.1 d_Mo_readSum_46 (tgt := 50) (by decide) ?_
      exact blk_50 J_18 M52 1 hw hJ_18 H locs ls w (lv_sub hl [0, 1] rfl)
  have blc_18 : ∀ (J_18 : (fm_M → Prop)) (M : fm_M), C_Mo_readSum_18 a1 post thr J_18 M → (∀ (M : fm_M), J_18 M → fx_G p l e { frames := 4, cells := 1, slots := 6, locals := 89 } s m ([.ref (ad 331), .int (Int32.ofInt a1)] : List Value).toArray below meth c D ad cA n0 0 post thr 3 M [(0, .ref (ad 331)), (1, .int (Int32.ofInt a1))] 18 []) → fx_G p l e { frames := 4, cells := 1, slots := 6, locals := 89 } s m ([.ref (ad 331), .int (Int32.ofInt a1)] : List Value).toArray below meth c D ad cA n0 0 post thr 3 M [(0, .ref (ad 331)), (1, .int (Int32.ofInt a1))] 18 [] := by
    intro J_18 M hw hJ_18 H locs ls w hl
    refine lv_aload_n F.1 F.2.1 d_Mo_readSum_18 rfl (lv_at hl 0 rfl) ?_
    refine fx_c w hno hlk (fx_rV (As := []) (rest := []) F w cl_Mo 331 T_331 (met_Mo_here l hst9 D ad cA n0 M _ thr hw) e_Mo_here ki_Mo_here ks_Mo_here k_968 rfl hl.1 rfl (Nat.le_of_ble_eq_true rfl) ⟨⟨Nat.le_of_ble_eq_true rfl, Nat.le_of_ble_eq_true rfl⟩, Nat.le_of_ble_eq_true rfl, Nat.le_of_ble_eq_true rfl⟩ d_Mo_readSum_19) (fun r57 M56 hw H locs w => ?_)
    show W p l e _ s m _ below meth c H locs 0 0 _ (F0 m 22 ls [.int (Int32.ofInt r57)])
    refine lv_bipush (v := Int32.ofInt 43) F.1 F.2.1 d_Mo_readSum_22 (by decide) ?_
    obtain ⟨h58, hw⟩ := hw
    refine fi_icmp_eq F d_Mo_readSum_24 (tgt := 36) (by decide) h58 (rgl (by decide)) (fun hc59 => ?_) (fun hc59 => ?_)
    · have hw := hw.1 hc59
      exact blk_36 J_18 M56 hw hJ_18 H locs ls w (lv_sub hl [0, 1] rfl)
    · have hw := hw.2 hc59
      refine lv_aload_n F.1 F.2.1 d_Mo_readSum_27 rfl (lv_at hl 0 rfl) ?_
      refine fx_c w hno hlk (fx_rV (As := []) (rest := []) F w cl_Mo 331 T_331 (met_Mo_here l hst9 D ad cA n0 M56 _ thr hw) e_Mo_here ki_Mo_here ks_Mo_here k_968 rfl hl.1 rfl (Nat.le_of_ble_eq_true rfl) ⟨⟨Nat.le_of_ble_eq_true rfl, Nat.le_of_ble_eq_true rfl⟩, Nat.le_of_ble_eq_true rfl, Nat.le_of_ble_eq_true rfl⟩ d_Mo_readSum_28) (fun r61 M60 hw H locs w => ?_)
      show W p l e _ s m _ below meth c H locs 0 0 _ (F0 m 31 ls [.int (Int32.ofInt r61)])
      refine lv_bipush (v := Int32.ofInt 45) F.1 F.2.1 d_Mo_readSum_31 (by decide) ?_
      obtain ⟨h62, hw⟩ := hw
      refine fi_icmp_ne F d_Mo_readSum_33 (tgt := 94) (by decide) h62 (rgl (by decide)) (fun hc63 => ?_) (fun hc63 => ?_)
      · have hw := hw.1 hc63
        refine lv_iconst (v := Int32.ofInt 1) F.1 F.2.1 d_Mo_readSum_94 (by decide) ?_
        exact fx_zret F w hr hlk (fx_nz (by decide)) hw d_Mo_readSum_95
      · have hw := hw.2 hc63
        exact blk_36 J_18 M60 hw hJ_18 H locs ls w (lv_sub hl [0, 1] rfl)
  have blk_18 : ∀ (M : fm_M), B_Mo_readSum_18 a1 post thr M → fx_G p l e { frames := 4, cells := 1, slots := 6, locals := 89 } s m ([.ref (ad 331), .int (Int32.ofInt a1)] : List Value).toArray below meth c D ad cA n0 0 post thr 3 M [(0, .ref (ad 331)), (1, .int (Int32.ofInt a1))] 18 [] := by
    intro M hw
    obtain ⟨I, μ, hI, hB⟩ := hw
    have key : ∀ (q : Nat) (M : fm_M), μ M < q → I M → fx_G p l e { frames := 4, cells := 1, slots := 6, locals := 89 } s m ([.ref (ad 331), .int (Int32.ofInt a1)] : List Value).toArray below meth c D ad cA n0 0 post thr 3 M [(0, .ref (ad 331)), (1, .int (Int32.ofInt a1))] 18 [] := by
      intro q
      induction q with
      | zero => intro M h _; exact absurd h (Nat.not_lt_zero _)
      | succ q ih =>
        intro M hμ hI
        exact blc_18 (fun M' => I M' ∧ μ M' < μ M) M (hB M hI) (fun M' hh => ih M' (Nat.lt_of_lt_of_le hh.2 (Nat.le_of_lt_succ hμ)) hh.1)
    exact key _ M (Nat.lt_succ_self _) hI
  have hl : lv_has ls 3 [(0, .ref (ad 331)), (1, .int (Int32.ofInt a1))] := hl
  suffices h9 : fx_G p l e { frames := 4, cells := 1, slots := 6, locals := 89 } s m ([.ref (ad 331), .int (Int32.ofInt a1)] : List Value).toArray below meth c D ad cA n0 0 post thr 3 M [(0, .ref (ad 331)), (1, .int (Int32.ofInt a1))] 0 [] from h9 _ _ _ w hl
  intro H locs ls w hl
  refine lv_aload_n F.1 F.2.1 d_Mo_readSum_0 rfl (lv_at hl 0 rfl) ?_
  refine fm_gO F w cl_Mo 331 17 342 T_331 (by decide) rfl rfl k_831 d_Mo_readSum_1 ?_
  refine lv_iload_n F.1 F.2.1 d_Mo_readSum_4 rfl (lv_at hl 1 rfl) ?_
  refine lv_iconst (v := Int32.ofInt 0) F.1 F.2.1 d_Mo_readSum_5 (by decide) ?_
  obtain ⟨h64, hw⟩ := hw
  refine fm_sI F w 342 T_342 (by decide) h64  d_Mo_readSum_6 (fun M65 hM65 H locs w => ?_)
  have hw := hw M65 hM65
  refine lv_aload_n F.1 F.2.1 d_Mo_readSum_7 rfl (lv_at hl 0 rfl) ?_
  refine lv_iload_n F.1 F.2.1 d_Mo_readSum_8 rfl (lv_at hl 1 rfl) ?_
  refine lv_iconst (v := Int32.ofInt 0) F.1 F.2.1 d_Mo_readSum_9 (by decide) ?_
  refine fx_c w hno hlk (fx_rV (As := [.int (Int32.ofInt a1), .int (Int32.ofInt 0)]) (rest := []) F w cl_Mo 331 T_331 (met_Mo_readItem l hst9 D ad cA n0 M65 a1 0 _ thr hw) e_Mo_readItem ki_Mo_readItem ks_Mo_readItem k_1008 rfl hl.1 rfl (Nat.le_of_ble_eq_true rfl) ⟨⟨Nat.le_of_ble_eq_true rfl, Nat.le_of_ble_eq_true rfl⟩, Nat.le_of_ble_eq_true rfl, Nat.le_of_ble_eq_true rfl⟩ d_Mo_readSum_10) (fun r67 M66 hw H locs w => ?_)
  show W p l e _ s m _ below meth c H locs 0 0 _ (F0 m 13 ls [.int (Int32.ofInt r67)])
  obtain ⟨h68, hw⟩ := hw
  refine fi_if_ne F d_Mo_readSum_13 (tgt := 18) (by decide) h68 (fun hc69 => ?_) (fun hc69 => ?_)
  · have hw := hw.1 hc69
    exact blk_18 M66 hw H locs ls w (lv_sub hl [0, 1] rfl)
  · have hw := hw.2 hc69
    refine lv_iconst (v := Int32.ofInt 0) F.1 F.2.1 d_Mo_readSum_16 (by decide) ?_
    exact fx_zret F w hr hlk (fx_nz (by decide)) hw d_Mo_readSum_17
