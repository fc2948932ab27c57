set_option maxHeartbeats 4000000 in
set_option maxRecDepth 100000 in
theorem met_Mo_enable (l : Launch) (hst9 : l.stackTraces = false) (D : va_G) (ad : Nat → Nat) (cA : Nat → ClassId) (n0 : Nat) (M : fm_M) (a1 : Int) (post : Int → fm_M → Prop) (thr : String → fm_M → Prop) (hw : wp_Mo_enable M a1 post thr) : fx_Met l y_Mo_enable (Cond.code y_Mo_enable b_Mo_enable 4 (some .boolean) :: tb) { frames := 2, cells := 1, slots := 6, locals := 53 } [.ref (ad 331), .int (Int32.ofInt a1)] D ad cA n0 M 0 post thr := by
  refine fx_met (by decide) (Nat.le_of_ble_eq_true rfl) (fun p e s m below meth c ls F w hno hr hlk hl => ?_)
  have blk_125 : ∀ (J_4 : (fm_M → Int → Int → Prop)) (M : fm_M) (v3 : Int) (s0 : Int), B_Mo_enable_125 a1 post thr J_4 M v3 s0 → (∀ (M : fm_M) (v2 : Int) (v3 : Int), J_4 M v2 v3 → fx_G p l e { frames := 2, cells := 1, slots := 6, locals := 53 } s m ([.ref (ad 331), .int (Int32.ofInt a1)] : List Value).toArray below meth c D ad cA n0 0 post thr 4 M [(0, .ref (ad 331)), (1, .int (Int32.ofInt a1)), (2, .int (Int32.ofInt v2)), (3, .int (Int32.ofInt v3))] 4 []) → fx_G p l e { frames := 2, cells := 1, slots := 6, locals := 53 } s m ([.ref (ad 331), .int (Int32.ofInt a1)] : List Value).toArray below meth c D ad cA n0 0 post thr 4 M [(0, .ref (ad 331)), (1, .int (Int32.ofInt a1)), (3, .int (Int32.ofInt v3))] 125 [.int (Int32.ofInt s0)] := by
    intro J_4 M v3 s0 hw hJ_4 H locs ls w hl
    refine lv_istore_n F.1 F.2.1 d_Mo_enable_125 rfl hl (by decide) rfl (fun ls hl => ?_)
    have hl : lv_has ls 4 [(2, .int (Int32.ofInt s0)), (0, .ref (ad 331)), (1, .int (Int32.ofInt a1)), (3, .int (Int32.ofInt v3))] := hl
    refine fi_iinc (k := 3) (v := (v3 + 1)) F d_Mo_enable_126 hl rfl rfl (by decide) rfl (fun ls hl => ?_)
    have hl : lv_has ls 4 [(3, .int (Int32.ofInt (v3 + 1))), (2, .int (Int32.ofInt s0)), (0, .ref (ad 331)), (1, .int (Int32.ofInt a1))] := hl
    refine lv_goto F.1 F.2.1 d_Mo_enable_129 (tgt := 4) (by decide) ?_
    exact hJ_4 M s0 (v3 + 1) hw H locs ls w (lv_sub hl [2, 3, 1, 0] rfl)
  have blk_120 : ∀ (J_4 : (fm_M → Int → Int → Prop)) (M : fm_M) (v3 : Int), B_Mo_enable_120 a1 post thr J_4 M v3 → (∀ (M : fm_M) (v2 : Int) (v3 : Int), J_4 M v2 v3 → fx_G p l e { frames := 2, cells := 1, slots := 6, locals := 53 } s m ([.ref (ad 331), .int (Int32.ofInt a1)] : List Value).toArray below meth c D ad cA n0 0 post thr 4 M [(0, .ref (ad 331)), (1, .int (Int32.ofInt a1)), (2, .int (Int32.ofInt v2)), (3, .int (Int32.ofInt v3))] 4 []) → fx_G p l e { frames := 2, cells := 1, slots := 6, locals := 53 } s m ([.ref (ad 331), .int (Int32.ofInt a1)] : List Value).toArray below meth c D ad cA n0 0 post thr 4 M [(0, .ref (ad 331)), (1, .int (Int32.ofInt a1)), (3, .int (Int32.ofInt v3))] 120 [] := by
    intro J_4 M v3 hw hJ_4 H locs ls w hl
    refine lv_iconst (v := Int32.ofInt 1) F.1 F.2.1 d_Mo_enable_120 (by decide) ?_
    refine lv_goto F.1 F.2.1 d_Mo_enable_121 (tgt := 125) (by decide) ?_
    exact blk_125 J_4 M v3 1 hw hJ_4 H locs ls w (lv_sub hl [0, 1, 2] rfl)
  have blk_98 : ∀ (J_4 : (fm_M → Int → Int → Prop)) (M : fm_M) (v2 : Int) (v3 : Int) (s0 : Int), B_Mo_enable_98 a1 post thr J_4 M v2 v3 s0 → (∀ (M : fm_M) (v2 : Int) (v3 : Int), J_4 M v2 v3 → fx_G p l e { frames := 2, cells := 1, slots := 6, locals := 53 } s m ([.ref (ad 331), .int (Int32.ofInt a1)] : List Value).toArray below meth c D ad cA n0 0 post thr 4 M [(0, .ref (ad 331)), (1, .int (Int32.ofInt a1)), (2, .int (Int32.ofInt v2)), (3, .int (Int32.ofInt v3))] 4 []) → fx_G p l e { frames := 2, cells := 1, slots := 6, locals := 53 } s m ([.ref (ad 331), .int (Int32.ofInt a1)] : List Value).toArray below meth c D ad cA n0 0 post thr 4 M [(0, .ref (ad 331)), (1, .int (Int32.ofInt a1)), (2, .int (Int32.ofInt v2)), (3, .int (Int32.ofInt v3))] 98 [.int (Int32.ofInt s0), .int (Int32.ofInt a1), .ref (ad 347)] := by
    intro J_4 M v2 v3 s0 hw hJ_4 H locs ls w hl
    obtain ⟨h90, hw⟩ := hw
    obtain ⟨h91, hw⟩ := hw
    refine fm_sZ F w 347 T_347 (by decide) h90 h91 d_Mo_enable_98 (fun M92 hM92 H locs w => ?_)
    have hw := hw M92 hM92
    refine lv_iload_n F.1 F.2.1 d_Mo_enable_99 rfl (lv_at hl 2 rfl) ?_
    obtain ⟨h93, hw⟩ := hw
    refine fi_if_ne F d_Mo_enable_100 (tgt := 120) (by decide) h93 (fun hc94 => ?_) (fun hc94 => ?_)
    · have hw := hw.1 hc94
      exact blk_120 J_4 M92 v3 hw hJ_4 H locs ls w (lv_sub hl [0, 1, 3] rfl)
    · have hw := hw.2 hc94
      refine lv_aload_n F.1 F.2.1 d_Mo_enable_103 rfl (lv_at hl 0 rfl) ?_
      refine fm_gO F w cl_Mo 331 11 336 T_331 (by decide) rfl rfl k_825 d_Mo_enable_104 ?_
      refine lv_bipush (v := Int32.ofInt 10) F.1 F.2.1 d_Mo_enable_107 (by decide) ?_
      refine lv_aload_n F.1 F.2.1 d_Mo_enable_109 rfl (lv_at hl 0 rfl) ?_
      refine fm_gI F w cl_Mo 331 6 T_331 (by decide) rfl k_820 d_Mo_enable_110 ?_
      refine fi_imul F d_Mo_enable_113 ?_
      refine lv_iload_n F.1 F.2.1 d_Mo_enable_114 rfl (lv_at hl 3 rfl) ?_
      refine fi_iadd F d_Mo_enable_115 ?_
      obtain ⟨h95, hw⟩ := hw
      refine fm_aZ F w 336 T_336 (by decide) h95 d_Mo_enable_116 ?_
      obtain ⟨h96, hw⟩ := hw
      refine fi_if_ne F d_Mo_enable_117 (tgt := 124) (by decide) h96 (fun hc97 => ?_) (fun hc97 => ?_)
      · have hw := hw.1 hc97
        refine lv_iconst (v := Int32.ofInt 0) F.1 F.2.1 d_Mo_enable_124 (by decide) ?_
        exact blk_125 J_4 M92 v3 0 hw hJ_4 H locs ls w (lv_sub hl [0, 1, 3] rfl)
      · have hw := hw.2 hc97
        exact blk_120 J_4 M92 v3 hw hJ_4 H locs ls w (lv_sub hl [0, 1, 3] rfl)
  have blk_93 : ∀ (J_4 : (fm_M → Int → Int → Prop)) (M : fm_M) (v2 : Int) (v3 : Int), B_Mo_enable_93 a1 post thr J_4 M v2 v3 → (∀ (M : fm_M) (v2 : Int) (v3 : Int), J_4 M v2 v3 → fx_G p l e { frames := 2, cells := 1, slots := 6, locals := 53 } s m ([.ref (ad 331), .int (Int32.ofInt a1)] : List Value).toArray below meth c D ad cA n0 0 post thr 4 M [(0, .ref (ad 331)), (1, .int (Int32.ofInt a1)), (2, .int (Int32.ofInt v2)), (3, .int (Int32.ofInt v3))] 4 []) → fx_G p l e { frames := 2, cells := 1, slots := 6, locals := 53 } s m ([.ref (ad 331), .int (Int32.ofInt a1)] : List Value).toArray below meth c D ad cA n0 0 post thr 4 M [(0, .ref (ad 331)), (1, .int (Int32.ofInt a1)), (2, .int (Int32.ofInt v2)), (3, .int (Int32.ofInt v3))] 93 [.int (Int32.ofInt a1), .ref (ad 347)] := by
    intro J_4 M v2 v3 hw hJ_4 H locs ls w hl
    refine lv_iconst (v := Int32.ofInt 1) F.1 F.2.1 d_Mo_enable_93 (by decide) ?_
    refine lv_goto F.1 F.2.1 d_Mo_enable_94 (tgt := 98) (by decide) ?_
    exact blk_98 J_4 M v2 v3 1 hw hJ_4 H locs ls w (lv_sub hl [0, 1, 2, 3] rfl)
  have blc_4 : ∀ (J_4 : (fm_M → Int → Int → Prop)) (M : fm_M) (v2 : Int) (v3 : Int), C_Mo_enable_4 a1 post thr J_4 M v2 v3 → (∀ (M : fm_M) (v2 : Int) (v3 : Int), J_4 M v2 v3 → fx_G p l e { frames := 2, cells := 1, slots := 6, locals := 53 } s m ([.ref (ad 331), .int (Int32.ofInt a1)] : List Value).toArray below meth c D ad cA n0 0 post thr 4 M [(0, .ref (ad 331)), (1, .int (Int32.ofInt a1)), (2, .int (Int32.ofInt v2)), (3, .int (Int32.ofInt v3))] 4 []) → fx_G p l e { frames := 2, cells := 1, slots := 6, locals := 53 } s m ([.ref (ad 331), .int (Int32.ofInt a1)] : List Value).toArray below meth c D ad cA n0 0 post thr 4 M [(0, .ref (ad 331)), (1, .int (Int32.ofInt a1)), (2, .int (Int32.ofInt v2)), (3, .int (Int32.ofInt v3))] 4 [] := by
    intro J_4 M v2 v3 hw hJ_4 H locs ls w hl
    refine lv_iload_n F.1 F.2.1 d_Mo_enable_4 rfl (lv_at hl 3 rfl) ?_
    refine lv_aload_n F.1 F.2.1 d_Mo_enable_5 rfl (lv_at hl 0 rfl) ?_
    refine fm_gO F w cl_Mo 331 10 335 T_331 (by decide) rfl rfl k_824 d_Mo_enable_6 ?_
    refine lv_aload_n F.1 F.2.1 d_Mo_enable_9 rfl (lv_at hl 0 rfl) ?_
    refine fm_gI F w cl_Mo 331 6 T_331 (by decide) rfl k_820 d_Mo_enable_10 ?_
    obtain ⟨h98, hw⟩ := hw
    refine fm_aI F w 335 T_335 (by decide) h98 d_Mo_enable_13 ?_
    obtain ⟨h99, hw⟩ := hw
    obtain ⟨h100, hw⟩ := hw
    refine fi_icmp_ge F d_Mo_enable_14 (tgt := 132) (by decide) h99 h100 (fun hc101 => ?_) (fun hc101 => ?_)
    · have hw := hw.1 hc101
      refine lv_aload_n F.1 F.2.1 d_Mo_enable_132 rfl (lv_at hl 0 rfl) ?_
      refine fm_gO F w cl_Mo 331 25 347 T_331 (by decide) rfl rfl k_839 d_Mo_enable_133 ?_
      refine lv_iload_n F.1 F.2.1 d_Mo_enable_136 rfl (lv_at hl 1 rfl) ?_
      obtain ⟨h102, hw⟩ := hw
      refine fm_aZ F w 347 T_347 (by decide) h102 d_Mo_enable_137 ?_
      obtain ⟨h103, hw⟩ := hw
      refine fi_if_eq F d_Mo_enable_138 (tgt := 149) (by decide) h103 (fun hc104 => ?_) (fun hc104 => ?_)
      · have hw := hw.1 hc104
        refine lv_iconst (v := Int32.ofInt 0) F.1 F.2.1 d_Mo_enable_149 (by decide) ?_
        exact fx_zret F w hr hlk (fx_nz (by decide)) hw d_Mo_enable_150
      · have hw := hw.2 hc104
        refine lv_iload_n F.1 F.2.1 d_Mo_enable_141 rfl (lv_at hl 2 rfl) ?_
        obtain ⟨h105, hw⟩ := hw
        refine fi_if_eq F d_Mo_enable_142 (tgt := 149) (by decide) h105 (fun hc106 => ?_) (fun hc106 => ?_)
        · have hw := hw.1 hc106
          refine lv_iconst (v := Int32.ofInt 0) F.1 F.2.1 d_Mo_enable_149 (by decide) ?_
          exact fx_zret F w hr hlk (fx_nz (by decide)) hw d_Mo_enable_150
        · have hw := hw.2 hc106
          refine lv_iconst (v := Int32.ofInt 1) F.1 F.2.1 d_Mo_enable_145 (by decide) ?_
          refine lv_goto F.1 F.2.1 d_Mo_enable_146 (tgt := 150) (by decide) ?_
          exact fx_zret F w hr hlk (fx_nz (by decide)) hw d_Mo_enable_150
    · have hw := hw.2 hc101
      refine lv_aload_n F.1 F.2.1 d_Mo_enable_17 rfl (lv_at hl 0 rfl) ?_
      refine fm_gO F w cl_Mo 331 24 346 T_331 (by decide) rfl rfl k_838 d_Mo_enable_18 ?_
      refine lv_iload_n F.1 F.2.1 d_Mo_enable_21 rfl (lv_at hl 1 rfl) ?_
      obtain ⟨h107, hw⟩ := hw
      refine fm_aZ F w 346 T_346 (by decide) h107 d_Mo_enable_22 ?_
      obtain ⟨h108, hw⟩ := hw
      refine fi_if_ne F d_Mo_enable_23 (tgt := 126) (by decide) h108 (fun hc109 => ?_) (fun hc109 => ?_)
      · have hw := hw.1 hc109
        refine fi_iinc (k := 3) (v := (v3 + 1)) F d_Mo_enable_126 hl rfl rfl (by decide) rfl (fun ls hl => ?_)
        have hl : lv_has ls 4 [(3, .int (Int32.ofInt (v3 + 1))), (0, .ref (ad 331)), (1, .int (Int32.ofInt a1)), (2, .int (Int32.ofInt v2))] := hl
        refine lv_goto F.1 F.2.1 d_Mo_enable_129 (tgt := 4) (by decide) ?_
        exact hJ_4 M v2 (v3 + 1) hw H locs ls w (lv_sub hl [1, 2, 3, 0] rfl)
      · have hw := hw.2 hc109
        refine lv_aload_n F.1 F.2.1 d_Mo_enable_26 rfl (lv_at hl 0 rfl) ?_
        refine lv_iload_n F.1 F.2.1 d_Mo_enable_27 rfl (lv_at hl 3 rfl) ?_
        refine lv_iload_n F.1 F.2.1 d_Mo_enable_28 rfl (lv_at hl 1 rfl) ?_
        refine fx_c w hno hlk (fx_rV (As := [.int (Int32.ofInt v3), .int (Int32.ofInt a1)]) (rest := []) F w cl_Mo 331 T_331 (met_Mo_holds l hst9 D ad cA n0 M v3 a1 _ thr hw) e_Mo_holds ki_Mo_holds ks_Mo_holds k_1047 rfl hl.1 rfl (Nat.le_of_ble_eq_true rfl) ⟨⟨Nat.le_of_ble_eq_true rfl, Nat.le_of_ble_eq_true rfl⟩, Nat.le_of_ble_eq_true rfl, Nat.le_of_ble_eq_true rfl⟩ d_Mo_enable_29) (fun r111 M110 hw H locs w => ?_)
        show W p l e _ s m _ below meth c H locs 0 0 _ (F0 m 32 ls [.int (Int32.ofInt r111)])
        obtain ⟨h112, hw⟩ := hw
        refine fi_if_eq F d_Mo_enable_32 (tgt := 126) (by decide) h112 (fun hc113 => ?_) (fun hc113 => ?_)
        · have hw := hw.1 hc113
          refine fi_iinc (k := 3) (v := (v3 + 1)) F d_Mo_enable_126 hl rfl rfl (by decide) rfl (fun ls hl => ?_)
          have hl : lv_has ls 4 [(3, .int (Int32.ofInt (v3 + 1))), (0, .ref (ad 331)), (1, .int (Int32.ofInt a1)), (2, .int (Int32.ofInt v2))] := hl
          refine lv_goto F.1 F.2.1 d_Mo_enable_129 (tgt := 4) (by decide) ?_
          exact hJ_4 M110 v2 (v3 + 1) hw H locs ls w (lv_sub hl [1, 2, 3, 0] rfl)
        · have hw := hw.2 hc113
          refine lv_aload_n F.1 F.2.1 d_Mo_enable_35 rfl (lv_at hl 0 rfl) ?_
          refine fm_gO F w cl_Mo 331 26 348 T_331 (by decide) rfl rfl k_840 d_Mo_enable_36 ?_
          refine lv_bipush (v := Int32.ofInt 10) F.1 F.2.1 d_Mo_enable_39 (by decide) ?_
          refine lv_iload_n F.1 F.2.1 d_Mo_enable_41 rfl (lv_at hl 1 rfl) ?_
          refine fi_imul F d_Mo_enable_42 ?_
          refine lv_aload_n F.1 F.2.1 d_Mo_enable_43 rfl (lv_at hl 0 rfl) ?_
          refine fm_gO F w cl_Mo 331 27 349 T_331 (by decide) rfl rfl k_841 d_Mo_enable_44 ?_
          refine lv_iload_n F.1 F.2.1 d_Mo_enable_47 rfl (lv_at hl 1 rfl) ?_
          refine fm_aI F w 349 T_349 (by decide) h107 d_Mo_enable_48 ?_
          refine fi_iadd F d_Mo_enable_49 ?_
          refine lv_iload_n F.1 F.2.1 d_Mo_enable_50 rfl (lv_at hl 3 rfl) ?_
          obtain ⟨h114, hw⟩ := hw
          refine fm_sI F w 348 T_348 (by decide) h114  d_Mo_enable_51 (fun M115 hM115 H locs w => ?_)
          have hw := hw M115 hM115
          refine lv_aload_n F.1 F.2.1 d_Mo_enable_52 rfl (lv_at hl 0 rfl) ?_
          refine fm_gO F w cl_Mo 331 27 349 T_331 (by decide) rfl rfl k_841 d_Mo_enable_53 ?_
          refine lv_iload_n F.1 F.2.1 d_Mo_enable_56 rfl (lv_at hl 1 rfl) ?_
          refine lv_dup2_11 F.1 F.2.1 d_Mo_enable_57 rfl rfl ?_
          refine fm_aI F w 349 T_349 (by decide) h107 d_Mo_enable_58 ?_
          refine lv_iconst (v := Int32.ofInt 1) F.1 F.2.1 d_Mo_enable_59 (by decide) ?_
          refine fi_iadd F d_Mo_enable_60 ?_
          refine fm_sI F w 349 T_349 (by decide) h107  d_Mo_enable_61 (fun M116 hM116 H locs w => ?_)
          have hw := hw M116 hM116
          refine lv_aload_n F.1 F.2.1 d_Mo_enable_62 rfl (lv_at hl 0 rfl) ?_
          refine fm_gO F w cl_Mo 331 25 347 T_331 (by decide) rfl rfl k_839 d_Mo_enable_63 ?_
          refine lv_iload_n F.1 F.2.1 d_Mo_enable_66 rfl (lv_at hl 1 rfl) ?_
          refine lv_aload_n F.1 F.2.1 d_Mo_enable_67 rfl (lv_at hl 0 rfl) ?_
          refine fm_gO F w cl_Mo 331 25 347 T_331 (by decide) rfl rfl k_839 d_Mo_enable_68 ?_
          refine lv_iload_n F.1 F.2.1 d_Mo_enable_71 rfl (lv_at hl 1 rfl) ?_
          refine fm_aZ F w 347 T_347 (by decide) h107 d_Mo_enable_72 ?_
          obtain ⟨h117, hw⟩ := hw
          refine fi_if_ne F d_Mo_enable_73 (tgt := 93) (by decide) h117 (fun hc118 => ?_) (fun hc118 => ?_)
          · have hw := hw.1 hc118
            exact blk_93 J_4 M116 v2 v3 hw hJ_4 H locs ls w (lv_sub hl [0, 1, 2, 3] rfl)
          · have hw := hw.2 hc118
            refine lv_aload_n F.1 F.2.1 d_Mo_enable_76 rfl (lv_at hl 0 rfl) ?_
            refine fm_gO F w cl_Mo 331 11 336 T_331 (by decide) rfl rfl k_825 d_Mo_enable_77 ?_
            refine lv_bipush (v := Int32.ofInt 10) F.1 F.2.1 d_Mo_enable_80 (by decide) ?_
            refine lv_aload_n F.1 F.2.1 d_Mo_enable_82 rfl (lv_at hl 0 rfl) ?_
            refine fm_gI F w cl_Mo 331 6 T_331 (by decide) rfl k_820 d_Mo_enable_83 ?_
            refine fi_imul F d_Mo_enable_86 ?_
            refine lv_iload_n F.1 F.2.1 d_Mo_enable_87 rfl (lv_at hl 3 rfl) ?_
            refine fi_iadd F d_Mo_enable_88 ?_
            obtain ⟨h119, hw⟩ := hw
            refine fm_aZ F w 336 T_336 (by decide) h119 d_Mo_enable_89 ?_
            obtain ⟨h120, hw⟩ := hw
            refine fi_if_eq F d_Mo_enable_90 (tgt := 97) (by decide) h120 (fun hc121 => ?_) (fun hc121 => ?_)
            · have hw := hw.1 hc121
              refine lv_iconst (v := Int32.ofInt 0) F.1 F.2.1 d_Mo_enable_97 (by decide) ?_
              exact blk_98 J_4 M116 v2 v3 0 hw hJ_4 H locs ls w (lv_sub hl [0, 1, 2, 3] rfl)
            · have hw := hw.2 hc121
              exact blk_93 J_4 M116 v2 v3 hw hJ_4 H locs ls w (lv_sub hl [0, 1, 2, 3] rfl)
  have blk_4 : ∀ (M : fm_M) (v2 : Int) (v3 : Int), B_Mo_enable_4 a1 post thr M v2 v3 → fx_G p l e { frames := 2, cells := 1, slots := 6, locals := 53 } s m ([.ref (ad 331), .int (Int32.ofInt a1)] : List Value).toArray below meth c D ad cA n0 0 post thr 4 M [(0, .ref (ad 331)), (1, .int (Int32.ofInt a1)), (2, .int (Int32.ofInt v2)), (3, .int (Int32.ofInt v3))] 4 [] := by
    intro M v2 v3 hw
    obtain ⟨I, μ, hI, hB⟩ := hw
    have key : ∀ (q : Nat) (M : fm_M) (v2 : Int) (v3 : Int), μ M v2 v3 < q → I M v2 v3 → fx_G p l e { frames := 2, cells := 1, slots := 6, locals := 53 } s m ([.ref (ad 331), .int (Int32.ofInt a1)] : List Value).toArray below meth c D ad cA n0 0 post thr 4 M [(0, .ref (ad 331)), (1, .int (Int32.ofInt a1)), (2, .int (Int32.ofInt v2)), (3, .int (Int32.ofInt v3))] 4 [] := by
      intro q
      induction q with
      | zero => intro M v2 v3 h _; exact absurd h (Nat.not_lt_zero _)
      | succ q ih =>
        intro M v2 v3 hμ hI
        exact blc_4 (fun M' v2' v3' => I M' v2' v3' ∧ μ M' v2' v3' < μ M v2 v3) M v2 v3 (hB M v2 v3 hI) (fun M' v2' v3' hh => ih M' v2' v3' (Nat.lt_of_lt_of_le hh.2 (Nat.le_of_lt_succ hμ)) hh.1)
    exact key _ M v2 v3 (Nat.lt_succ_self _) hI
  have hl : lv_has ls 4 [(0, .ref (ad 331)), (1, .int (Int32.ofInt a1))] := hl
  suffices h9 : fx_G p l e { frames := 2, cells := 1, slots := 6, locals := 53 } s m ([.ref (ad 331), .int (Int32.ofInt a1)] : List Value).toArray below meth c D ad cA n0 0 post thr 4 M [(0, .ref (ad 331)), (1, .int (Int32.ofInt a1))] 0 [] from h9 _ _ _ w hl
  intro H locs ls w hl
  refine lv_iconst (v := Int32.ofInt 0) F.1 F.2.1 d_Mo_enable_0 (by decide) ?_
  refine lv_istore_n F.1 F.2.1 d_Mo_enable_1 rfl hl (by decide) rfl (fun ls hl => ?_)
  have hl : lv_has ls 4 [(2, .int (Int32.ofInt 0)), (0, .ref (ad 331)), (1, .int (Int32.ofInt a1))] := hl
  refine lv_iconst (v := Int32.ofInt 0) F.1 F.2.1 d_Mo_enable_2 (by decide) ?_
  refine lv_istore_n F.1 F.2.1 d_Mo_enable_3 rfl hl (by decide) rfl (fun ls hl => ?_)
  have hl : lv_has ls 4 [(3, .int (Int32.ofInt 0)), (2, .int (Int32.ofInt 0)), (0, .ref (ad 331)), (1, .int (Int32.ofInt a1))] := hl
  exact blk_4 M 0 0 hw H locs ls w (lv_sub hl [2, 3, 1, 0] rfl)
set_option maxHeartbeats 4000000 in
set_option maxRecDepth 100000 in
theorem met_Mo_takeBranch (l : Launch) (hst9 : l.stackTraces = false) (D : va_G) (ad : Nat → Nat) (cA : Nat → ClassId) (n0 : Nat) (M : fm_M) (a1 : Int) (a2 : Int) (a3 : Int) (post : Int → fm_M → Prop) (thr : String → fm_M → Prop) (hw : wp_Mo_takeBranch M a1 a2 a3 post thr) : fx_Met l y_Mo_takeBranch (Cond.code y_Mo_takeBranch b_Mo_takeBranch 8 none :: tb) { frames := 1, cells := 1, slots := 6, locals := 25 } [.ref (ad 331), .int (Int32.ofInt a1), .int (Int32.ofInt a2), .int (Int32.ofInt a3)] D ad cA n0 M 3 post thr := by
  refine fx_met (by decide) (Nat.le_of_ble_eq_true rfl) (fun p e s m below meth c ls F w hno hr hlk hl => ?_)
  have blk_110 : ∀ (J_3 : (fm_M → Int → Prop)) (M : fm_M) (v4 : Int) (s0 : Int) (s1 : Int), B_Mo_takeBranch_110 a1 a2 a3 post thr J_3 M v4 s0 s1 → (∀ (M : fm_M) (v4 : Int), J_3 M v4 → fx_G p l e { frames := 1, cells := 1, slots := 6, locals := 25 } s m ([.ref (ad 331), .int (Int32.ofInt a1), .int (Int32.ofInt a2), .int (Int32.ofInt a3)] : List Value).toArray below meth c D ad cA n0 3 post thr 8 M [(0, .ref (ad 331)), (1, .int (Int32.ofInt a1)), (2, .int (Int32.ofInt a2)), (3, .int (Int32.ofInt a3)), (4, .int (Int32.ofInt v4))] 3 []) → fx_G p l e { frames := 1, cells := 1, slots := 6, locals := 25 } s m ([.ref (ad 331), .int (Int32.ofInt a1), .int (Int32.ofInt a2), .int (Int32.ofInt a3)] : List Value).toArray below meth c D ad cA n0 3 post thr 8 M [(0, .ref (ad 331)), (1, .int (Int32.ofInt a1)), (2, .int (Int32.ofInt a2)), (3, .int (Int32.ofInt a3)), (4, .int (Int32.ofInt v4))] 110 [.int (Int32.ofInt s0), .int (Int32.ofInt s1), .ref (ad 351)] := by
    intro J_3 M v4 s0 s1 hw hJ_3 H locs ls w hl
    obtain ⟨h40, hw⟩ := hw
    refine fm_sI F w 351 T_351 (by decide) h40  d_Mo_takeBranch_110 (fun M41 hM41 H locs w => ?_)
    have hw := hw M41 hM41
    refine fi_iinc (k := 4) (v := (v4 + 1)) F d_Mo_takeBranch_111 hl rfl rfl (by decide) rfl (fun ls hl => ?_)
    have hl : lv_has ls 8 [(4, .int (Int32.ofInt (v4 + 1))), (0, .ref (ad 331)), (1, .int (Int32.ofInt a1)), (2, .int (Int32.ofInt a2)), (3, .int (Int32.ofInt a3))] := hl
    refine lv_goto F.1 F.2.1 d_Mo_takeBranch_114 (tgt := 3) (by decide) ?_
    exact hJ_3 M41 (v4 + 1) hw H locs ls w (lv_sub hl [1, 2, 3, 4, 0] rfl)
  have blk_99 : ∀ (J_3 : (fm_M → Int → Prop)) (M : fm_M) (v4 : Int) (v6 : Int) (s0 : Int), B_Mo_takeBranch_99 a1 a2 a3 post thr J_3 M v4 v6 s0 → (∀ (M : fm_M) (v4 : Int), J_3 M v4 → fx_G p l e { frames := 1, cells := 1, slots := 6, locals := 25 } s m ([.ref (ad 331), .int (Int32.ofInt a1), .int (Int32.ofInt a2), .int (Int32.ofInt a3)] : List Value).toArray below meth c D ad cA n0 3 post thr 8 M [(0, .ref (ad 331)), (1, .int (Int32.ofInt a1)), (2, .int (Int32.ofInt a2)), (3, .int (Int32.ofInt a3)), (4, .int (Int32.ofInt v4))] 3 []) → fx_G p l e { frames := 1, cells := 1, slots := 6, locals := 25 } s m ([.ref (ad 331), .int (Int32.ofInt a1), .int (Int32.ofInt a2), .int (Int32.ofInt a3)] : List Value).toArray below meth c D ad cA n0 3 post thr 8 M [(0, .ref (ad 331)), (1, .int (Int32.ofInt a1)), (2, .int (Int32.ofInt a2)), (3, .int (Int32.ofInt a3)), (4, .int (Int32.ofInt v4)), (6, .int (Int32.ofInt v6))] 99 [.int (Int32.ofInt s0), .ref (ad 351)] := by
    intro J_3 M v4 v6 s0 hw hJ_3 H locs ls w hl
    refine lv_iload F.1 F.2.1 d_Mo_takeBranch_99 (lv_at hl 5 rfl) ?_
    obtain ⟨h42, hw⟩ := hw
    refine fi_if_ge F d_Mo_takeBranch_101 (tgt := 108) (by decide) h42 (fun hc43 => ?_) (fun hc43 => ?_)
    · have hw := hw.1 hc43
      refine lv_iload F.1 F.2.1 d_Mo_takeBranch_108 (lv_at hl 5 rfl) ?_
      exact blk_110 J_3 M v4 v6 s0 hw hJ_3 H locs ls w (lv_sub hl [0, 1, 2, 3, 4] rfl)
    · have hw := hw.2 hc43
      refine lv_iconst (v := Int32.ofInt 0) F.1 F.2.1 d_Mo_takeBranch_104 (by decide) ?_
      refine lv_goto F.1 F.2.1 d_Mo_takeBranch_105 (tgt := 110) (by decide) ?_
      exact blk_110 J_3 M v4 0 s0 hw hJ_3 H locs ls w (lv_sub hl [0, 1, 2, 3, 4] rfl)
  have blk_53 : ∀ (J_3 : (fm_M → Int → Prop)) (M : fm_M) (v4 : Int) (v5 : Int) (s0 : Int), B_Mo_takeBranch_53 a1 a2 a3 post thr J_3 M v4 v5 s0 → (∀ (M : fm_M) (v4 : Int), J_3 M v4 → fx_G p l e { frames := 1, cells := 1, slots := 6, locals := 25 } s m ([.ref (ad 331), .int (Int32.ofInt a1), .int (Int32.ofInt a2), .int (Int32.ofInt a3)] : List Value).toArray below meth c D ad cA n0 3 post thr 8 M [(0, .ref (ad 331)), (1, .int (Int32.ofInt a1)), (2, .int (Int32.ofInt a2)), (3, .int (Int32.ofInt a3)), (4, .int (Int32.ofInt v4))] 3 []) → fx_G p l e { frames := 1, cells := 1, slots := 6, locals := 25 } s m ([.ref (ad 331), .int (Int32.ofInt a1), .int (Int32.ofInt a2), .int (Int32.ofInt a3)] : List Value).toArray below meth c D ad cA n0 3 post thr 8 M [(0, .ref (ad 331)), (1, .int (Int32.ofInt a1)), (2, .int (Int32.ofInt a2)), (3, .int (Int32.ofInt a3)), (4, .int (Int32.ofInt v4)), (5, .int (Int32.ofInt v5))] 53 [.int (Int32.ofInt s0)] := by
    intro J_3 M v4 v5 s0 hw hJ_3 H locs ls w hl
    refine lv_istore F.1 F.2.1 d_Mo_takeBranch_53 hl (by decide) rfl (fun ls hl => ?_)
    have hl : lv_has ls 8 [(6, .int (Int32.ofInt s0)), (0, .ref (ad 331)), (1, .int (Int32.ofInt a1)), (2, .int (Int32.ofInt a2)), (3, .int (Int32.ofInt a3)), (4, .int (Int32.ofInt v4)), (5, .int (Int32.ofInt v5))] := hl
    refine lv_aload_n F.1 F.2.1 d_Mo_takeBranch_55 rfl (lv_at hl 1 rfl) ?_
    refine fm_gO F w cl_Mo 331 8 333 T_331 (by decide) rfl rfl k_822 d_Mo_takeBranch_56 ?_
    refine lv_iconst (v := Int32.ofInt 3) F.1 F.2.1 d_Mo_takeBranch_59 (by decide) ?_
    refine lv_aload_n F.1 F.2.1 d_Mo_takeBranch_60 rfl (lv_at hl 1 rfl) ?_
    refine fm_gI F w cl_Mo 331 6 T_331 (by decide) rfl k_820 d_Mo_takeBranch_61 ?_
    refine fi_imul F d_Mo_takeBranch_64 ?_
    refine lv_iload F.1 F.2.1 d_Mo_takeBranch_65 (lv_at hl 5 rfl) ?_
    refine fi_iadd F d_Mo_takeBranch_67 ?_
    obtain ⟨h44, hw⟩ := hw
    refine fm_aI F w 333 T_333 (by decide) h44 d_Mo_takeBranch_68 ?_
    refine lv_istore F.1 F.2.1 d_Mo_takeBranch_69 hl (by decide) rfl (fun ls hl => ?_)
    have hl : lv_has ls 8 [(7, .int (Int32.ofInt (M 333 ((3 * (M 331 6)) + v4).toNat))), (6, .int (Int32.ofInt s0)), (0, .ref (ad 331)), (1, .int (Int32.ofInt a1)), (2, .int (Int32.ofInt a2)), (3, .int (Int32.ofInt a3)), (4, .int (Int32.ofInt v4)), (5, .int (Int32.ofInt v5))] := hl
    refine lv_aload_n F.1 F.2.1 d_Mo_takeBranch_71 rfl (lv_at hl 2 rfl) ?_
    refine fm_gO F w cl_Mo 331 29 351 T_331 (by decide) rfl rfl k_843 d_Mo_takeBranch_72 ?_
    refine lv_iload F.1 F.2.1 d_Mo_takeBranch_75 (lv_at hl 6 rfl) ?_
    refine lv_iload F.1 F.2.1 d_Mo_takeBranch_77 (lv_at hl 1 rfl) ?_
    refine lv_iload F.1 F.2.1 d_Mo_takeBranch_79 (lv_at hl 0 rfl) ?_
    obtain ⟨h45, hw⟩ := hw
    obtain ⟨h46, hw⟩ := hw
    refine fi_icmp_le F d_Mo_takeBranch_81 (tgt := 99) (by decide) h45 h46 (fun hc47 => ?_) (fun hc47 => ?_)
    · have hw := hw.1 hc47
      exact blk_99 J_3 M v4 s0 v4 hw hJ_3 H locs ls w (lv_sub hl [2, 3, 4, 5, 6, 1] rfl)
    · have hw := hw.2 hc47
      refine lv_aload_n F.1 F.2.1 d_Mo_takeBranch_84 rfl (lv_at hl 2 rfl) ?_
      refine fm_gO F w cl_Mo 331 17 342 T_331 (by decide) rfl rfl k_831 d_Mo_takeBranch_85 ?_
      refine lv_iload F.1 F.2.1 d_Mo_takeBranch_88 (lv_at hl 7 rfl) ?_
      obtain ⟨h48, hw⟩ := hw
      refine fm_aI F w 342 T_342 (by decide) h48 d_Mo_takeBranch_90 ?_
      obtain ⟨h49, hw⟩ := hw
      refine fi_if_le F d_Mo_takeBranch_91 (tgt := 99) (by decide) h49 (fun hc50 => ?_) (fun hc50 => ?_)
      · have hw := hw.1 hc50
        exact blk_99 J_3 M v4 s0 v4 hw hJ_3 H locs ls w (lv_sub hl [2, 3, 4, 5, 6, 1] rfl)
      · have hw := hw.2 hc50
        refine lv_iload F.1 F.2.1 d_Mo_takeBranch_94 (lv_at hl 0 rfl) ?_
        refine lv_goto F.1 F.2.1 d_Mo_takeBranch_96 (tgt := 110) (by decide) ?_
        exact blk_110 J_3 M v4 (M 333 ((3 * (M 331 6)) + v4).toNat) v4 hw hJ_3 H locs ls w (lv_sub hl [2, 3, 4, 5, 6] rfl)
  have blc_3 : ∀ (J_3 : (fm_M → Int → Prop)) (M : fm_M) (v4 : Int), C_Mo_takeBranch_3 a1 a2 a3 post thr J_3 M v4 → (∀ (M : fm_M) (v4 : Int), J_3 M v4 → fx_G p l e { frames := 1, cells := 1, slots := 6, locals := 25 } s m ([.ref (ad 331), .int (Int32.ofInt a1), .int (Int32.ofInt a2), .int (Int32.ofInt a3)] : List Value).toArray below meth c D ad cA n0 3 post thr 8 M [(0, .ref (ad 331)), (1, .int (Int32.ofInt a1)), (2, .int (Int32.ofInt a2)), (3, .int (Int32.ofInt a3)), (4, .int (Int32.ofInt v4))] 3 []) → fx_G p l e { frames := 1, cells := 1, slots := 6, locals := 25 } s m ([.ref (ad 331), .int (Int32.ofInt a1), .int (Int32.ofInt a2), .int (Int32.ofInt a3)] : List Value).toArray below meth c D ad cA n0 3 post thr 8 M [(0, .ref (ad 331)), (1, .int (Int32.ofInt a1)), (2, .int (Int32.ofInt a2)), (3, .int (Int32.ofInt a3)), (4, .int (Int32.ofInt v4))] 3 [] := by
    intro J_3 M v4 hw hJ_3 H locs ls w hl
    refine lv_iload F.1 F.2.1 d_Mo_takeBranch_3 (lv_at hl 4 rfl) ?_
    refine lv_iconst (v := Int32.ofInt 3) F.1 F.2.1 d_Mo_takeBranch_5 (by decide) ?_
    obtain ⟨h51, hw⟩ := hw
    refine fi_icmp_ge F d_Mo_takeBranch_6 (tgt := 117) (by decide) h51 (rgl (by decide)) (fun hc52 => ?_) (fun hc52 => ?_)
    · have hw := hw.1 hc52
      exact fx_vret F w hr hlk hw d_Mo_takeBranch_117
    · have hw := hw.2 hc52
      refine lv_aload_n F.1 F.2.1 d_Mo_takeBranch_9 rfl (lv_at hl 0 rfl) ?_
      refine fm_gI F w cl_Mo 331 6 T_331 (by decide) rfl k_820 d_Mo_takeBranch_10 ?_
      refine lv_iload_n F.1 F.2.1 d_Mo_takeBranch_13 rfl (lv_at hl 2 rfl) ?_
      refine lv_iload_n F.1 F.2.1 d_Mo_takeBranch_14 rfl (lv_at hl 3 rfl) ?_
      refine lv_iload F.1 F.2.1 d_Mo_takeBranch_15 (lv_at hl 4 rfl) ?_
      refine fx_c w hno hlk (fx_rS (As := [.int (Int32.ofInt (M 331 6)), .int (Int32.ofInt a2), .int (Int32.ofInt a3), .int (Int32.ofInt v4)]) (rest := []) F w (met_Mo_updateAt l hst9 D ad cA n0 M (M 331 6) a2 a3 v4 _ thr hw) e_Mo_updateAt kt_Mo_updateAt k_1020 rfl hl.1 rfl (Nat.le_of_ble_eq_true rfl) ⟨⟨Nat.le_of_ble_eq_true rfl, Nat.le_of_ble_eq_true rfl⟩, Nat.le_of_ble_eq_true rfl, Nat.le_of_ble_eq_true rfl⟩ d_Mo_takeBranch_17) (fun r54 M53 hw H locs w => ?_)
      show W p l e _ s m _ below meth c H locs 0 0 _ (F0 m 20 ls [.int (Int32.ofInt r54)])
      refine lv_istore F.1 F.2.1 d_Mo_takeBranch_20 hl (by decide) rfl (fun ls hl => ?_)
      have hl : lv_has ls 8 [(5, .int (Int32.ofInt r54)), (0, .ref (ad 331)), (1, .int (Int32.ofInt a1)), (2, .int (Int32.ofInt a2)), (3, .int (Int32.ofInt a3)), (4, .int (Int32.ofInt v4))] := hl
      refine lv_aload_n F.1 F.2.1 d_Mo_takeBranch_22 rfl (lv_at hl 1 rfl) ?_
      refine fm_gO F w cl_Mo 331 17 342 T_331 (by decide) rfl rfl k_831 d_Mo_takeBranch_23 ?_
      refine lv_iload F.1 F.2.1 d_Mo_takeBranch_26 (lv_at hl 0 rfl) ?_
      obtain ⟨h55, hw⟩ := hw
      refine fm_aI F w 342 T_342 (by decide) h55 d_Mo_takeBranch_28 ?_
      obtain ⟨h56, hw⟩ := hw
      refine fi_if_le F d_Mo_takeBranch_29 (tgt := 42) (by decide) h56 (fun hc57 => ?_) (fun hc57 => ?_)
      · have hw := hw.1 hc57
        refine lv_aload_n F.1 F.2.1 d_Mo_takeBranch_42 rfl (lv_at hl 1 rfl) ?_
        refine fm_gO F w cl_Mo 331 23 345 T_331 (by decide) rfl rfl k_837 d_Mo_takeBranch_43 ?_
        refine lv_iconst (v := Int32.ofInt 3) F.1 F.2.1 d_Mo_takeBranch_46 (by decide) ?_
        refine lv_iload_n F.1 F.2.1 d_Mo_takeBranch_47 rfl (lv_at hl 2 rfl) ?_
        refine fi_imul F d_Mo_takeBranch_48 ?_
        refine lv_iload F.1 F.2.1 d_Mo_takeBranch_49 (lv_at hl 5 rfl) ?_
        refine fi_iadd F d_Mo_takeBranch_51 ?_
        obtain ⟨h58, hw⟩ := hw
        refine fm_aI F w 345 T_345 (by decide) h58 d_Mo_takeBranch_52 ?_
        exact blk_53 J_3 M53 v4 r54 (M53 345 ((3 * a1) + v4).toNat) hw hJ_3 H locs ls w (lv_sub hl [1, 2, 3, 4, 5, 0] rfl)
      · have hw := hw.2 hc57
        refine lv_aload_n F.1 F.2.1 d_Mo_takeBranch_32 rfl (lv_at hl 1 rfl) ?_
        refine lv_iload F.1 F.2.1 d_Mo_takeBranch_33 (lv_at hl 0 rfl) ?_
        refine lv_iload_n F.1 F.2.1 d_Mo_takeBranch_35 rfl (lv_at hl 2 rfl) ?_
        refine fx_c w hno hlk (fx_rV (As := [.int (Int32.ofInt r54), .int (Int32.ofInt a1)]) (rest := []) F w cl_Mo 331 T_331 (met_Mo_sumIn l hst9 D ad cA n0 M53 r54 a1 _ thr hw) e_Mo_sumIn ki_Mo_sumIn ks_Mo_sumIn k_1051 rfl hl.1 rfl (Nat.le_of_ble_eq_true rfl) ⟨⟨Nat.le_of_ble_eq_true rfl, Nat.le_of_ble_eq_true rfl⟩, Nat.le_of_ble_eq_true rfl, Nat.le_of_ble_eq_true rfl⟩ d_Mo_takeBranch_36) (fun r60 M59 hw H locs w => ?_)
        show W p l e _ s m _ below meth c H locs 0 0 _ (F0 m 39 ls [.int (Int32.ofInt r60)])
        refine lv_goto F.1 F.2.1 d_Mo_takeBranch_39 (tgt := 53) (by decide) ?_
        exact blk_53 J_3 M59 v4 r54 r60 hw hJ_3 H locs ls w (lv_sub hl [1, 2, 3, 4, 5, 0] rfl)
  have blk_3 : ∀ (M : fm_M) (v4 : Int), B_Mo_takeBranch_3 a1 a2 a3 post thr M v4 → fx_G p l e { frames := 1, cells := 1, slots := 6, locals := 25 } s m ([.ref (ad 331), .int (Int32.ofInt a1), .int (Int32.ofInt a2), .int (Int32.ofInt a3)] : List Value).toArray below meth c D ad cA n0 3 post thr 8 M [(0, .ref (ad 331)), (1, .int (Int32.ofInt a1)), (2, .int (Int32.ofInt a2)), (3, .int (Int32.ofInt a3)), (4, .int (Int32.ofInt v4))] 3 [] := by
    intro M v4 hw
    obtain ⟨I, μ, hI, hB⟩ := hw
    have key : ∀ (q : Nat) (M : fm_M) (v4 : Int), μ M v4 < q → I M v4 → fx_G p l e { frames := 1, cells := 1, slots := 6, locals := 25 } s m ([.ref (ad 331), .int (Int32.ofInt a1), .int (Int32.ofInt a2), .int (Int32.ofInt a3)] : List Value).toArray below meth c D ad cA n0 3 post thr 8 M [(0, .ref (ad 331)), (1, .int (Int32.ofInt a1)), (2, .int (Int32.ofInt a2)), (3, .int (Int32.ofInt a3)), (4, .int (Int32.ofInt v4))] 3 [] := by
      intro q
      induction q with
      | zero => intro M v4 h _; exact absurd h (Nat.not_lt_zero _)
      | succ q ih =>
        intro M v4 hμ hI
        exact blc_3 (fun M' v4' => I M' v4' ∧ μ M' v4' < μ M v4) M v4 (hB M v4 hI) (fun M' v4' hh => ih M' v4' (Nat.lt_of_lt_of_le hh.2 (Nat.le_of_lt_succ hμ)) hh.1)
    exact key _ M v4 (Nat.lt_succ_self _) hI
  have hl : lv_has ls 8 [(0, .ref (ad 331)), (1, .int (Int32.ofInt a1)), (2, .int (Int32.ofInt a2)), (3, .int (Int32.ofInt a3))] := hl
  suffices h9 : fx_G p l e { frames := 1, cells := 1, slots := 6, locals := 25 } s m ([.ref (ad 331), .int (Int32.ofInt a1), .int (Int32.ofInt a2), .int (Int32.ofInt a3)] : List Value).toArray below meth c D ad cA n0 3 post thr 8 M [(0, .ref (ad 331)), (1, .int (Int32.ofInt a1)), (2, .int (Int32.ofInt a2)), (3, .int (Int32.ofInt a3))] 0 [] from h9 _ _ _ w hl
  intro H locs ls w hl
  refine lv_iconst (v := Int32.ofInt 0) F.1 F.2.1 d_Mo_takeBranch_0 (by decide) ?_
  refine lv_istore F.1 F.2.1 d_Mo_takeBranch_1 hl (by decide) rfl (fun ls hl => ?_)
  have hl : lv_has ls 8 [(4, .int (Int32.ofInt 0)), (0, .ref (ad 331)), (1, .int (Int32.ofInt a1)), (2, .int (Int32.ofInt a2)), (3, .int (Int32.ofInt a3))] := hl
  exact blk_3 M 0 hw H locs ls w (lv_sub hl [1, 2, 3, 4, 0] rfl)
set_option maxHeartbeats 4000000 in
set_option maxRecDepth 100000 in
theorem met_Mo_follow (l : Launch) (hst9 : l.stackTraces = false) (D : va_G) (ad : Nat → Nat) (cA : Nat → ClassId) (n0 : Nat) (M : fm_M) (a1 : Int) (post : Int → fm_M → Prop) (thr : String → fm_M → Prop) (hw : wp_Mo_follow M a1 post thr) : fx_Met l y_Mo_follow (Cond.code y_Mo_follow b_Mo_follow 6 (some .boolean) :: tb) { frames := 3, cells := 1, slots := 6, locals := 74 } [.ref (ad 331), .int (Int32.ofInt a1)] D ad cA n0 M 0 post thr := by
  refine fx_met (by decide) (Nat.le_of_ble_eq_true rfl) (fun p e s m below meth c ls F w hno hr hlk hl => ?_)
  have blc_27 : ∀ (J_2 : (fm_M → Int → Prop)) (J_27 : (fm_M → Int → Int → Int → Prop)) (M : fm_M) (v2 : Int) (v3 : Int) (v4 : Int), C_Mo_follow_27 a1 post thr J_2 J_27 M v2 v3 v4 → (∀ (M : fm_M) (v2 : Int), J_2 M v2 → fx_G p l e { frames := 3, cells := 1, slots := 6, locals := 74 } s m ([.ref (ad 331), .int (Int32.ofInt a1)] : List Value).toArray below meth c D ad cA n0 0 post thr 6 M [(0, .ref (ad 331)), (1, .int (Int32.ofInt a1)), (2, .int (Int32.ofInt v2))] 2 []) → (∀ (M : fm_M) (v2 : Int) (v3 : Int) (v4 : Int), J_27 M v2 v3 v4 → fx_G p l e { frames := 3, cells := 1, slots := 6, locals := 74 } s m ([.ref (ad 331), .int (Int32.ofInt a1)] : List Value).toArray below meth c D ad cA n0 0 post thr 6 M [(0, .ref (ad 331)), (1, .int (Int32.ofInt a1)), (2, .int (Int32.ofInt v2)), (3, .int (Int32.ofInt v3)), (4, .int (Int32.ofInt v4))] 27 []) → fx_G p l e { frames := 3, cells := 1, slots := 6, locals := 74 } s m ([.ref (ad 331), .int (Int32.ofInt a1)] : List Value).toArray below meth c D ad cA n0 0 post thr 6 M [(0, .ref (ad 331)), (1, .int (Int32.ofInt a1)), (2, .int (Int32.ofInt v2)), (3, .int (Int32.ofInt v3)), (4, .int (Int32.ofInt v4))] 27 [] := by
    intro J_2 J_27 M v2 v3 v4 hw hJ_2 hJ_27 H locs ls w hl
    refine lv_iload F.1 F.2.1 d_Mo_follow_27 (lv_at hl 4 rfl) ?_
    refine lv_aload_n F.1 F.2.1 d_Mo_follow_29 rfl (lv_at hl 0 rfl) ?_
    refine fm_gO F w cl_Mo 331 12 337 T_331 (by decide) rfl rfl k_826 d_Mo_follow_30 ?_
    refine lv_bipush (v := Int32.ofInt 10) F.1 F.2.1 d_Mo_follow_33 (by decide) ?_
    refine lv_aload_n F.1 F.2.1 d_Mo_follow_35 rfl (lv_at hl 0 rfl) ?_
    refine fm_gI F w cl_Mo 331 6 T_331 (by decide) rfl k_820 d_Mo_follow_36 ?_
    refine fi_imul F d_Mo_follow_39 ?_
    refine lv_iload_n F.1 F.2.1 d_Mo_follow_40 rfl (lv_at hl 3 rfl) ?_
    refine fi_iadd F d_Mo_follow_41 ?_
    obtain ⟨h45, hw⟩ := hw
    refine fm_aI F w 337 T_337 (by decide) h45 d_Mo_follow_42 ?_
    obtain ⟨h46, hw⟩ := hw
    obtain ⟨h47, hw⟩ := hw
    refine fi_icmp_ge F d_Mo_follow_43 (tgt := 91) (by decide) h46 h47 (fun hc48 => ?_) (fun hc48 => ?_)
    · have hw := hw.1 hc48
      refine fi_iinc (k := 2) (v := (v2 + 1)) F d_Mo_follow_91 hl rfl rfl (by decide) rfl (fun ls hl => ?_)
      have hl : lv_has ls 6 [(2, .int (Int32.ofInt (v2 + 1))), (0, .ref (ad 331)), (1, .int (Int32.ofInt a1)), (3, .int (Int32.ofInt v3)), (4, .int (Int32.ofInt v4))] := hl
      refine lv_goto F.1 F.2.1 d_Mo_follow_94 (tgt := 2) (by decide) ?_
      exact hJ_2 M (v2 + 1) hw H locs ls w (lv_sub hl [1, 2, 0] rfl)
    · have hw := hw.2 hc48
      refine lv_aload_n F.1 F.2.1 d_Mo_follow_46 rfl (lv_at hl 0 rfl) ?_
      refine lv_iload_n F.1 F.2.1 d_Mo_follow_47 rfl (lv_at hl 1 rfl) ?_
      refine lv_iload_n F.1 F.2.1 d_Mo_follow_48 rfl (lv_at hl 3 rfl) ?_
      refine lv_iload F.1 F.2.1 d_Mo_follow_49 (lv_at hl 4 rfl) ?_
      refine fx_c w hno hlk (fx_rV (As := [.int (Int32.ofInt a1), .int (Int32.ofInt v3), .int (Int32.ofInt v4)]) (rest := []) F w cl_Mo 331 T_331 (met_Mo_takeBranch l hst9 D ad cA n0 M a1 v3 v4 _ thr hw) e_Mo_takeBranch ki_Mo_takeBranch ks_Mo_takeBranch k_1063 rfl hl.1 rfl (Nat.le_of_ble_eq_true rfl) ⟨⟨Nat.le_of_ble_eq_true rfl, Nat.le_of_ble_eq_true rfl⟩, Nat.le_of_ble_eq_true rfl, Nat.le_of_ble_eq_true rfl⟩ d_Mo_follow_51) (fun r50 M49 hw H locs w => ?_)
      refine lv_aload_n F.1 F.2.1 d_Mo_follow_54 rfl (lv_at hl 0 rfl) ?_
      refine fx_c w hno hlk (fx_rV (As := []) (rest := []) F w cl_Mo 331 T_331 (met_Mo_find l hst9 D ad cA n0 M49 _ thr hw) e_Mo_find ki_Mo_find ks_Mo_find k_1043 rfl hl.1 rfl (Nat.le_of_ble_eq_true rfl) ⟨⟨Nat.le_of_ble_eq_true rfl, Nat.le_of_ble_eq_true rfl⟩, Nat.le_of_ble_eq_true rfl, Nat.le_of_ble_eq_true rfl⟩ d_Mo_follow_55) (fun r52 M51 hw H locs w => ?_)
      show W p l e _ s m _ below meth c H locs 0 0 _ (F0 m 58 ls [.int (Int32.ofInt r52)])
      refine lv_istore F.1 F.2.1 d_Mo_follow_58 hl (by decide) rfl (fun ls hl => ?_)
      have hl : lv_has ls 6 [(5, .int (Int32.ofInt r52)), (0, .ref (ad 331)), (1, .int (Int32.ofInt a1)), (2, .int (Int32.ofInt v2)), (3, .int (Int32.ofInt v3)), (4, .int (Int32.ofInt v4))] := hl
      refine lv_iload F.1 F.2.1 d_Mo_follow_60 (lv_at hl 0 rfl) ?_
      obtain ⟨h53, hw⟩ := hw
      refine fi_if_ge F d_Mo_follow_62 (tgt := 67) (by decide) h53 (fun hc54 => ?_) (fun hc54 => ?_)
      · have hw := hw.1 hc54
        refine lv_aload_n F.1 F.2.1 d_Mo_follow_67 rfl (lv_at hl 1 rfl) ?_
        refine fm_gO F w cl_Mo 331 28 350 T_331 (by decide) rfl rfl k_842 d_Mo_follow_68 ?_
        refine lv_bipush (v := Int32.ofInt 40) F.1 F.2.1 d_Mo_follow_71 (by decide) ?_
        refine lv_iload_n F.1 F.2.1 d_Mo_follow_73 rfl (lv_at hl 2 rfl) ?_
        refine fi_imul F d_Mo_follow_74 ?_
        refine lv_iconst (v := Int32.ofInt 4) F.1 F.2.1 d_Mo_follow_75 (by decide) ?_
        refine lv_iload_n F.1 F.2.1 d_Mo_follow_76 rfl (lv_at hl 3 rfl) ?_
        refine fi_imul F d_Mo_follow_77 ?_
        refine fi_iadd F d_Mo_follow_78 ?_
        refine lv_iload F.1 F.2.1 d_Mo_follow_79 (lv_at hl 5 rfl) ?_
        refine fi_iadd F d_Mo_follow_81 ?_
        refine lv_iload F.1 F.2.1 d_Mo_follow_82 (lv_at hl 0 rfl) ?_
        obtain ⟨h55, hw⟩ := hw
        refine fm_sI F w 350 T_350 (by decide) h55  d_Mo_follow_84 (fun M56 hM56 H locs w => ?_)
        have hw := hw M56 hM56
        refine fi_iinc (k := 5) (v := (v4 + 1)) F d_Mo_follow_85 hl rfl rfl (by decide) rfl (fun ls hl => ?_)
        have hl : lv_has ls 6 [(4, .int (Int32.ofInt (v4 + 1))), (5, .int (Int32.ofInt r52)), (0, .ref (ad 331)), (1, .int (Int32.ofInt a1)), (2, .int (Int32.ofInt v2)), (3, .int (Int32.ofInt v3))] := hl
        refine lv_goto F.1 F.2.1 d_Mo_follow_88 (tgt := 27) (by decide) ?_
        exact hJ_27 M56 v2 v3 (v4 + 1) hw H locs ls w (lv_sub hl [2, 3, 4, 5, 0] rfl)
      · have hw := hw.2 hc54
        refine lv_iconst (v := Int32.ofInt 0) F.1 F.2.1 d_Mo_follow_65 (by decide) ?_
        exact fx_zret F w hr hlk (fx_nz (by decide)) hw d_Mo_follow_66
  have blk_27 : ∀ (J_2 : (fm_M → Int → Prop)) (M : fm_M) (v2 : Int) (v3 : Int) (v4 : Int), B_Mo_follow_27 a1 post thr J_2 M v2 v3 v4 → (∀ (M : fm_M) (v2 : Int), J_2 M v2 → fx_G p l e { frames := 3, cells := 1, slots := 6, locals := 74 } s m ([.ref (ad 331), .int (Int32.ofInt a1)] : List Value).toArray below meth c D ad cA n0 0 post thr 6 M [(0, .ref (ad 331)), (1, .int (Int32.ofInt a1)), (2, .int (Int32.ofInt v2))] 2 []) → fx_G p l e { frames := 3, cells := 1, slots := 6, locals := 74 } s m ([.ref (ad 331), .int (Int32.ofInt a1)] : List Value).toArray below meth c D ad cA n0 0 post thr 6 M [(0, .ref (ad 331)), (1, .int (Int32.ofInt a1)), (2, .int (Int32.ofInt v2)), (3, .int (Int32.ofInt v3)), (4, .int (Int32.ofInt v4))] 27 [] := by
    intro J_2 M v2 v3 v4 hw hJ_2
    obtain ⟨I, μ, hI, hB⟩ := hw
    have key : ∀ (q : Nat) (M : fm_M) (v2 : Int) (v3 : Int) (v4 : Int), μ M v2 v3 v4 < q → I M v2 v3 v4 → fx_G p l e { frames := 3, cells := 1, slots := 6, locals := 74 } s m ([.ref (ad 331), .int (Int32.ofInt a1)] : List Value).toArray below meth c D ad cA n0 0 post thr 6 M [(0, .ref (ad 331)), (1, .int (Int32.ofInt a1)), (2, .int (Int32.ofInt v2)), (3, .int (Int32.ofInt v3)), (4, .int (Int32.ofInt v4))] 27 [] := by
      intro q
      induction q with
      | zero => intro M v2 v3 v4 h _; exact absurd h (Nat.not_lt_zero _)
      | succ q ih =>
        intro M v2 v3 v4 hμ hI
        exact blc_27 J_2 (fun M' v2' v3' v4' => I M' v2' v3' v4' ∧ μ M' v2' v3' v4' < μ M v2 v3 v4) M v2 v3 v4 (hB M v2 v3 v4 hI) hJ_2 (fun M' v2' v3' v4' hh => ih M' v2' v3' v4' (Nat.lt_of_lt_of_le hh.2 (Nat.le_of_lt_succ hμ)) hh.1)
    exact key _ M v2 v3 v4 (Nat.lt_succ_self _) hI
  have blc_2 : ∀ (J_2 : (fm_M → Int → Prop)) (M : fm_M) (v2 : Int), C_Mo_follow_2 a1 post thr J_2 M v2 → (∀ (M : fm_M) (v2 : Int), J_2 M v2 → fx_G p l e { frames := 3, cells := 1, slots := 6, locals := 74 } s m ([.ref (ad 331), .int (Int32.ofInt a1)] : List Value).toArray below meth c D ad cA n0 0 post thr 6 M [(0, .ref (ad 331)), (1, .int (Int32.ofInt a1)), (2, .int (Int32.ofInt v2))] 2 []) → fx_G p l e { frames := 3, cells := 1, slots := 6, locals := 74 } s m ([.ref (ad 331), .int (Int32.ofInt a1)] : List Value).toArray below meth c D ad cA n0 0 post thr 6 M [(0, .ref (ad 331)), (1, .int (Int32.ofInt a1)), (2, .int (Int32.ofInt v2))] 2 [] := by
    intro J_2 M v2 hw hJ_2 H locs ls w hl
    refine lv_iload_n F.1 F.2.1 d_Mo_follow_2 rfl (lv_at hl 2 rfl) ?_
    refine lv_aload_n F.1 F.2.1 d_Mo_follow_3 rfl (lv_at hl 0 rfl) ?_
    refine fm_gO F w cl_Mo 331 27 349 T_331 (by decide) rfl rfl k_841 d_Mo_follow_4 ?_
    refine lv_iload_n F.1 F.2.1 d_Mo_follow_7 rfl (lv_at hl 1 rfl) ?_
    obtain ⟨h57, hw⟩ := hw
    refine fm_aI F w 349 T_349 (by decide) h57 d_Mo_follow_8 ?_
    obtain ⟨h58, hw⟩ := hw
    obtain ⟨h59, hw⟩ := hw
    refine fi_icmp_ge F d_Mo_follow_9 (tgt := 97) (by decide) h58 h59 (fun hc60 => ?_) (fun hc60 => ?_)
    · have hw := hw.1 hc60
      refine lv_iconst (v := Int32.ofInt 1) F.1 F.2.1 d_Mo_follow_97 (by decide) ?_
      exact fx_zret F w hr hlk (fx_nz (by decide)) hw d_Mo_follow_98
    · have hw := hw.2 hc60
      refine lv_aload_n F.1 F.2.1 d_Mo_follow_12 rfl (lv_at hl 0 rfl) ?_
      refine fm_gO F w cl_Mo 331 26 348 T_331 (by decide) rfl rfl k_840 d_Mo_follow_13 ?_
      refine lv_bipush (v := Int32.ofInt 10) F.1 F.2.1 d_Mo_follow_16 (by decide) ?_
      refine lv_iload_n F.1 F.2.1 d_Mo_follow_18 rfl (lv_at hl 1 rfl) ?_
      refine fi_imul F d_Mo_follow_19 ?_
      refine lv_iload_n F.1 F.2.1 d_Mo_follow_20 rfl (lv_at hl 2 rfl) ?_
      refine fi_iadd F d_Mo_follow_21 ?_
      obtain ⟨h61, hw⟩ := hw
      refine fm_aI F w 348 T_348 (by decide) h61 d_Mo_follow_22 ?_
      refine lv_istore_n F.1 F.2.1 d_Mo_follow_23 rfl hl (by decide) rfl (fun ls hl => ?_)
      have hl : lv_has ls 6 [(3, .int (Int32.ofInt (M 348 ((10 * a1) + v2).toNat))), (0, .ref (ad 331)), (1, .int (Int32.ofInt a1)), (2, .int (Int32.ofInt v2))] := hl
      refine lv_iconst (v := Int32.ofInt 0) F.1 F.2.1 d_Mo_follow_24 (by decide) ?_
      refine lv_istore F.1 F.2.1 d_Mo_follow_25 hl (by decide) rfl (fun ls hl => ?_)
      have hl : lv_has ls 6 [(4, .int (Int32.ofInt 0)), (3, .int (Int32.ofInt (M 348 ((10 * a1) + v2).toNat))), (0, .ref (ad 331)), (1, .int (Int32.ofInt a1)), (2, .int (Int32.ofInt v2))] := hl
      exact blk_27 J_2 M v2 (M 348 ((10 * a1) + v2).toNat) 0 hw hJ_2 H locs ls w (lv_sub hl [2, 3, 4, 1, 0] rfl)
  have blk_2 : ∀ (M : fm_M) (v2 : Int), B_Mo_follow_2 a1 post thr M v2 → fx_G p l e { frames := 3, cells := 1, slots := 6, locals := 74 } s m ([.ref (ad 331), .int (Int32.ofInt a1)] : List Value).toArray below meth c D ad cA n0 0 post thr 6 M [(0, .ref (ad 331)), (1, .int (Int32.ofInt a1)), (2, .int (Int32.ofInt v2))] 2 [] := by
    intro M v2 hw
    obtain ⟨I, μ, hI, hB⟩ := hw
    have key : ∀ (q : Nat) (M : fm_M) (v2 : Int), μ M v2 < q → I M v2 → fx_G p l e { frames := 3, cells := 1, slots := 6, locals := 74 } s m ([.ref (ad 331), .int (Int32.ofInt a1)] : List Value).toArray below meth c D ad cA n0 0 post thr 6 M [(0, .ref (ad 331)), (1, .int (Int32.ofInt a1)), (2, .int (Int32.ofInt v2))] 2 [] := by
      intro q
      induction q with
      | zero => intro M v2 h _; exact absurd h (Nat.not_lt_zero _)
      | succ q ih =>
        intro M v2 hμ hI
        exact blc_2 (fun M' v2' => I M' v2' ∧ μ M' v2' < μ M v2) M v2 (hB M v2 hI) (fun M' v2' hh => ih M' v2' (Nat.lt_of_lt_of_le hh.2 (Nat.le_of_lt_succ hμ)) hh.1)
    exact key _ M v2 (Nat.lt_succ_self _) hI
  have hl : lv_has ls 6 [(0, .ref (ad 331)), (1, .int (Int32.ofInt a1))] := hl
  suffices h9 : fx_G p l e { frames := 3, cells := 1, slots := 6, locals := 74 } s m ([.ref (ad 331), .int (Int32.ofInt a1)] : List Value).toArray below meth c D ad cA n0 0 post thr 6 M [(0, .ref (ad 331)), (1, .int (Int32.ofInt a1))] 0 [] from h9 _ _ _ w hl
  intro H locs ls w hl
  refine lv_iconst (v := Int32.ofInt 0) F.1 F.2.1 d_Mo_follow_0 (by decide) ?_
  refine lv_istore_n F.1 F.2.1 d_Mo_follow_1 rfl hl (by decide) rfl (fun ls hl => ?_)
  have hl : lv_has ls 6 [(2, .int (Int32.ofInt 0)), (0, .ref (ad 331)), (1, .int (Int32.ofInt a1))] := hl
  exact blk_2 M 0 hw H locs ls w (lv_sub hl [1, 2, 0] rfl)
set_option maxHeartbeats 4000000 in
set_option maxRecDepth 100000 in
theorem met_Mo_explore (l : Launch) (hst9 : l.stackTraces = false) (D : va_G) (ad : Nat → Nat) (cA : Nat → ClassId) (n0 : Nat) (M : fm_M) (post : Int → fm_M → Prop) (thr : String → fm_M → Prop) (hw : wp_Mo_explore M post thr) : fx_Met l y_Mo_explore (Cond.code y_Mo_explore b_Mo_explore 2 (some .int) :: tb) { frames := 4, cells := 1, slots := 6, locals := 99 } [.ref (ad 331)] D ad cA n0 M 0 post thr := by
  refine fx_met (by decide) (Nat.le_of_ble_eq_true rfl) (fun p e s m below meth c ls F w hno hr hlk hl => ?_)
  have blc_47 : ∀ (J_47 : (fm_M → Int → Prop)) (M : fm_M) (v1 : Int), C_Mo_explore_47 post thr J_47 M v1 → (∀ (M : fm_M) (v1 : Int), J_47 M v1 → fx_G p l e { frames := 4, cells := 1, slots := 6, locals := 99 } s m ([.ref (ad 331)] : List Value).toArray below meth c D ad cA n0 0 post thr 2 M [(0, .ref (ad 331)), (1, .int (Int32.ofInt v1))] 47 []) → fx_G p l e { frames := 4, cells := 1, slots := 6, locals := 99 } s m ([.ref (ad 331)] : List Value).toArray below meth c D ad cA n0 0 post thr 2 M [(0, .ref (ad 331)), (1, .int (Int32.ofInt v1))] 47 [] := by
    intro J_47 M v1 hw hJ_47 H locs ls w hl
    refine lv_iload_n F.1 F.2.1 d_Mo_explore_47 rfl (lv_at hl 1 rfl) ?_
    refine lv_aload_n F.1 F.2.1 d_Mo_explore_48 rfl (lv_at hl 0 rfl) ?_
    refine fm_gI F w cl_Mo 331 20 T_331 (by decide) rfl k_834 d_Mo_explore_49 ?_
    obtain ⟨h24, hw⟩ := hw
    obtain ⟨h25, hw⟩ := hw
    refine fi_icmp_ge F d_Mo_explore_52 (tgt := 88) (by decide) h24 h25 (fun hc26 => ?_) (fun hc26 => ?_)
    · have hw := hw.1 hc26
      refine lv_aload_n F.1 F.2.1 d_Mo_explore_88 rfl (lv_at hl 0 rfl) ?_
      refine fm_gI F w cl_Mo 331 20 T_331 (by decide) rfl k_834 d_Mo_explore_89 ?_
      exact fx_iret F w hr hlk hw d_Mo_explore_92
    · have hw := hw.2 hc26
      refine lv_aload_n F.1 F.2.1 d_Mo_explore_55 rfl (lv_at hl 0 rfl) ?_
      refine lv_iload_n F.1 F.2.1 d_Mo_explore_56 rfl (lv_at hl 1 rfl) ?_
      refine fx_c w hno hlk (fx_rV (As := [.int (Int32.ofInt v1)]) (rest := []) F w cl_Mo 331 T_331 (met_Mo_enable l hst9 D ad cA n0 M v1 _ thr hw) e_Mo_enable ki_Mo_enable ks_Mo_enable k_1055 rfl hl.1 rfl (Nat.le_of_ble_eq_true rfl) ⟨⟨Nat.le_of_ble_eq_true rfl, Nat.le_of_ble_eq_true rfl⟩, Nat.le_of_ble_eq_true rfl, Nat.le_of_ble_eq_true rfl⟩ d_Mo_explore_57) (fun r28 M27 hw H locs w => ?_)
      show W p l e _ s m _ below meth c H locs 0 0 _ (F0 m 60 ls [.int (Int32.ofInt r28)])
      obtain ⟨h29, hw⟩ := hw
      refine fi_if_eq F d_Mo_explore_60 (tgt := 71) (by decide) h29 (fun hc30 => ?_) (fun hc30 => ?_)
      · have hw := hw.1 hc30
        refine lv_aload_n F.1 F.2.1 d_Mo_explore_71 rfl (lv_at hl 0 rfl) ?_
        refine lv_iload_n F.1 F.2.1 d_Mo_explore_72 rfl (lv_at hl 1 rfl) ?_
        refine fx_c w hno hlk (fx_rV (As := [.int (Int32.ofInt v1)]) (rest := []) F w cl_Mo 331 T_331 (met_Mo_follow l hst9 D ad cA n0 M27 v1 _ thr hw) e_Mo_follow ki_Mo_follow ks_Mo_follow k_1059 rfl hl.1 rfl (Nat.le_of_ble_eq_true rfl) ⟨⟨Nat.le_of_ble_eq_true rfl, Nat.le_of_ble_eq_true rfl⟩, Nat.le_of_ble_eq_true rfl, Nat.le_of_ble_eq_true rfl⟩ d_Mo_explore_73) (fun r32 M31 hw H locs w => ?_)
        show W p l e _ s m _ below meth c H locs 0 0 _ (F0 m 76 ls [.int (Int32.ofInt r32)])
        obtain ⟨h33, hw⟩ := hw
        refine fi_if_ne F d_Mo_explore_76 (tgt := 82) (by decide) h33 (fun hc34 => ?_) (fun hc34 => ?_)
        · have hw := hw.1 hc34
          refine fi_iinc (k := 1) (v := (v1 + 1)) F d_Mo_explore_82 hl rfl rfl (by decide) rfl (fun ls hl => ?_)
          have hl : lv_has ls 2 [(1, .int (Int32.ofInt (v1 + 1))), (0, .ref (ad 331))] := hl
          refine lv_goto F.1 F.2.1 d_Mo_explore_85 (tgt := 47) (by decide) ?_
          exact hJ_47 M31 (v1 + 1) hw H locs ls w (lv_sub hl [1, 0] rfl)
        · have hw := hw.2 hc34
          refine lv_bipush (v := Int32.ofInt (-3)) F.1 F.2.1 d_Mo_explore_79 (by decide) ?_
          exact fx_iret F w hr hlk hw d_Mo_explore_81
      · have hw := hw.2 hc30
        refine lv_aload_n F.1 F.2.1 d_Mo_explore_63 rfl (lv_at hl 0 rfl) ?_
        refine lv_iload_n F.1 F.2.1 d_Mo_explore_64 rfl (lv_at hl 1 rfl) ?_
        refine fm_pI F w cl_Mo 331 21 T_331 (by decide) rfl k_835 rfl rfl d_Mo_explore_65 (fun M35 hM35 H locs w => ?_)
        have hw := hw M35 hM35
        refine lv_bipush (v := Int32.ofInt (-2)) F.1 F.2.1 d_Mo_explore_68 (by decide) ?_
        exact fx_iret F w hr hlk hw d_Mo_explore_70
  have blk_47 : ∀ (M : fm_M) (v1 : Int), B_Mo_explore_47 post thr M v1 → fx_G p l e { frames := 4, cells := 1, slots := 6, locals := 99 } s m ([.ref (ad 331)] : List Value).toArray below meth c D ad cA n0 0 post thr 2 M [(0, .ref (ad 331)), (1, .int (Int32.ofInt v1))] 47 [] := by
    intro M v1 hw
    obtain ⟨I, μ, hI, hB⟩ := hw
    have key : ∀ (q : Nat) (M : fm_M) (v1 : Int), μ M v1 < q → I M v1 → fx_G p l e { frames := 4, cells := 1, slots := 6, locals := 99 } s m ([.ref (ad 331)] : List Value).toArray below meth c D ad cA n0 0 post thr 2 M [(0, .ref (ad 331)), (1, .int (Int32.ofInt v1))] 47 [] := by
      intro q
      induction q with
      | zero => intro M v1 h _; exact absurd h (Nat.not_lt_zero _)
      | succ q ih =>
        intro M v1 hμ hI
        exact blc_47 (fun M' v1' => I M' v1' ∧ μ M' v1' < μ M v1) M v1 (hB M v1 hI) (fun M' v1' hh => ih M' v1' (Nat.lt_of_lt_of_le hh.2 (Nat.le_of_lt_succ hμ)) hh.1)
    exact key _ M v1 (Nat.lt_succ_self _) hI
  have blc_12 : ∀ (J_12 : (fm_M → Int → Prop)) (M : fm_M) (v1 : Int), C_Mo_explore_12 post thr J_12 M v1 → (∀ (M : fm_M) (v1 : Int), J_12 M v1 → fx_G p l e { frames := 4, cells := 1, slots := 6, locals := 99 } s m ([.ref (ad 331)] : List Value).toArray below meth c D ad cA n0 0 post thr 2 M [(0, .ref (ad 331)), (1, .int (Int32.ofInt v1))] 12 []) → fx_G p l e { frames := 4, cells := 1, slots := 6, locals := 99 } s m ([.ref (ad 331)] : List Value).toArray below meth c D ad cA n0 0 post thr 2 M [(0, .ref (ad 331)), (1, .int (Int32.ofInt v1))] 12 [] := by
    intro J_12 M v1 hw hJ_12 H locs ls w hl
    refine lv_iload_n F.1 F.2.1 d_Mo_explore_12 rfl (lv_at hl 1 rfl) ?_
    refine lv_iconst (v := Int32.ofInt 3) F.1 F.2.1 d_Mo_explore_13 (by decide) ?_
    obtain ⟨h36, hw⟩ := hw
    refine fi_icmp_ge F d_Mo_explore_14 (tgt := 42) (by decide) h36 (rgl (by decide)) (fun hc37 => ?_) (fun hc37 => ?_)
    · have hw := hw.1 hc37
      refine lv_aload_n F.1 F.2.1 d_Mo_explore_42 rfl (lv_at hl 0 rfl) ?_
      refine fx_c w hno hlk (fx_rV (As := []) (rest := []) F w cl_Mo 331 T_331 (met_Mo_find l hst9 D ad cA n0 M _ thr hw) e_Mo_find ki_Mo_find ks_Mo_find k_1043 rfl hl.1 rfl (Nat.le_of_ble_eq_true rfl) ⟨⟨Nat.le_of_ble_eq_true rfl, Nat.le_of_ble_eq_true rfl⟩, Nat.le_of_ble_eq_true rfl, Nat.le_of_ble_eq_true rfl⟩ d_Mo_explore_43) (fun r39 M38 hw H locs w => ?_)
      show W p l e _ s m _ below meth c H locs 0 0 _ (F0 m 46 ls [.int (Int32.ofInt r39)])
      refine lv_istore_n F.1 F.2.1 d_Mo_explore_46 rfl hl (by decide) rfl (fun ls hl => ?_)
      have hl : lv_has ls 2 [(1, .int (Int32.ofInt r39)), (0, .ref (ad 331))] := hl
      exact blk_47 M38 r39 hw H locs ls w (lv_sub hl [1, 0] rfl)
    · have hw := hw.2 hc37
      refine lv_aload_n F.1 F.2.1 d_Mo_explore_17 rfl (lv_at hl 0 rfl) ?_
      refine fm_gO F w cl_Mo 331 29 351 T_331 (by decide) rfl rfl k_843 d_Mo_explore_18 ?_
      refine lv_iload_n F.1 F.2.1 d_Mo_explore_21 rfl (lv_at hl 1 rfl) ?_
      refine lv_aload_n F.1 F.2.1 d_Mo_explore_22 rfl (lv_at hl 0 rfl) ?_
      refine fm_gO F w cl_Mo 331 9 334 T_331 (by decide) rfl rfl k_823 d_Mo_explore_23 ?_
      refine lv_iconst (v := Int32.ofInt 3) F.1 F.2.1 d_Mo_explore_26 (by decide) ?_
      refine lv_aload_n F.1 F.2.1 d_Mo_explore_27 rfl (lv_at hl 0 rfl) ?_
      refine fm_gI F w cl_Mo 331 6 T_331 (by decide) rfl k_820 d_Mo_explore_28 ?_
      refine fi_imul F d_Mo_explore_31 ?_
      refine lv_iload_n F.1 F.2.1 d_Mo_explore_32 rfl (lv_at hl 1 rfl) ?_
      refine fi_iadd F d_Mo_explore_33 ?_
      obtain ⟨h40, hw⟩ := hw
      refine fm_aI F w 334 T_334 (by decide) h40 d_Mo_explore_34 ?_
      obtain ⟨h41, hw⟩ := hw
      refine fm_sI F w 351 T_351 (by decide) h41  d_Mo_explore_35 (fun M42 hM42 H locs w => ?_)
      have hw := hw M42 hM42
      refine fi_iinc (k := 1) (v := (v1 + 1)) F d_Mo_explore_36 hl rfl rfl (by decide) rfl (fun ls hl => ?_)
      have hl : lv_has ls 2 [(1, .int (Int32.ofInt (v1 + 1))), (0, .ref (ad 331))] := hl
      refine lv_goto F.1 F.2.1 d_Mo_explore_39 (tgt := 12) (by decide) ?_
      exact hJ_12 M42 (v1 + 1) hw H locs ls w (lv_sub hl [1, 0] rfl)
  have blk_12 : ∀ (M : fm_M) (v1 : Int), B_Mo_explore_12 post thr M v1 → fx_G p l e { frames := 4, cells := 1, slots := 6, locals := 99 } s m ([.ref (ad 331)] : List Value).toArray below meth c D ad cA n0 0 post thr 2 M [(0, .ref (ad 331)), (1, .int (Int32.ofInt v1))] 12 [] := by
    intro M v1 hw
    obtain ⟨I, μ, hI, hB⟩ := hw
    have key : ∀ (q : Nat) (M : fm_M) (v1 : Int), μ M v1 < q → I M v1 → fx_G p l e { frames := 4, cells := 1, slots := 6, locals := 99 } s m ([.ref (ad 331)] : List Value).toArray below meth c D ad cA n0 0 post thr 2 M [(0, .ref (ad 331)), (1, .int (Int32.ofInt v1))] 12 [] := by
      intro q
      induction q with
      | zero => intro M v1 h _; exact absurd h (Nat.not_lt_zero _)
      | succ q ih =>
        intro M v1 hμ hI
        exact blc_12 (fun M' v1' => I M' v1' ∧ μ M' v1' < μ M v1) M v1 (hB M v1 hI) (fun M' v1' hh => ih M' v1' (Nat.lt_of_lt_of_le hh.2 (Nat.le_of_lt_succ hμ)) hh.1)
    exact key _ M v1 (Nat.lt_succ_self _) hI
  have hl : lv_has ls 2 [(0, .ref (ad 331))] := hl
  suffices h9 : fx_G p l e { frames := 4, cells := 1, slots := 6, locals := 99 } s m ([.ref (ad 331)] : List Value).toArray below meth c D ad cA n0 0 post thr 2 M [(0, .ref (ad 331))] 0 [] from h9 _ _ _ w hl
  intro H locs ls w hl
  refine lv_aload_n F.1 F.2.1 d_Mo_explore_0 rfl (lv_at hl 0 rfl) ?_
  refine lv_iconst (v := Int32.ofInt 0) F.1 F.2.1 d_Mo_explore_1 (by decide) ?_
  refine fm_pI F w cl_Mo 331 20 T_331 (by decide) rfl k_834 rfl rfl d_Mo_explore_2 (fun M43 hM43 H locs w => ?_)
  have hw := hw M43 hM43
  refine lv_aload_n F.1 F.2.1 d_Mo_explore_5 rfl (lv_at hl 0 rfl) ?_
  refine lv_iconst (v := Int32.ofInt (-1)) F.1 F.2.1 d_Mo_explore_6 (by decide) ?_
  refine fm_pI F w cl_Mo 331 21 T_331 (by decide) rfl k_835 rfl rfl d_Mo_explore_7 (fun M44 hM44 H locs w => ?_)
  have hw := hw M44 hM44
  refine lv_iconst (v := Int32.ofInt 0) F.1 F.2.1 d_Mo_explore_10 (by decide) ?_
  refine lv_istore_n F.1 F.2.1 d_Mo_explore_11 rfl hl (by decide) rfl (fun ls hl => ?_)
  have hl : lv_has ls 2 [(1, .int (Int32.ofInt 0)), (0, .ref (ad 331))] := hl
  exact blk_12 M44 0 hw H locs ls w (lv_sub hl [1, 0] rfl)
set_option maxHeartbeats 4000000 in
set_option maxRecDepth 100000 in
theorem met_Mo_has (l : Launch) (hst9 : l.stackTraces = false) (D : va_G) (ad : Nat → Nat) (cA : Nat → ClassId) (n0 : Nat) (M : fm_M) (a0 : Int) (a1 : Int) (post : Int → fm_M → Prop) (thr : String → fm_M → Prop) (hw : wp_Mo_has M a0 a1 post thr) : fx_Met l y_Mo_has (Cond.code y_Mo_has b_Mo_has 2 (some .boolean) :: tb) { frames := 0, cells := 1, slots := 6, locals := 0 } [.int (Int32.ofInt a0), .int (Int32.ofInt a1)] D ad cA n0 M 0 post thr := by
  refine fx_met (by decide) (Nat.le_of_ble_eq_true rfl) (fun p e s m below meth c ls F w hno hr hlk hl => ?_)
  have hl : lv_has ls 2 [(0, .int (Int32.ofInt a0)), (1, .int (Int32.ofInt a1))] := hl
  suffices h9 : fx_G p l e { frames := 0, cells := 1, slots := 6, locals := 0 } s m ([.int (Int32.ofInt a0), .int (Int32.ofInt a1)] : List Value).toArray below meth c D ad cA n0 0 post thr 2 M [(0, .int (Int32.ofInt a0)), (1, .int (Int32.ofInt a1))] 0 [] from h9 _ _ _ w hl
  intro H locs ls w hl
  refine lv_iload_n F.1 F.2.1 d_Mo_has_0 rfl (lv_at hl 0 rfl) ?_
  refine lv_iload_n F.1 F.2.1 d_Mo_has_1 rfl (lv_at hl 1 rfl) ?_
  refine fi_ishr F d_Mo_has_2 ?_
  refine lv_iconst (v := Int32.ofInt 1) F.1 F.2.1 d_Mo_has_3 (by decide) ?_
  refine fi_iand F d_Mo_has_4 ?_
  refine lv_iconst (v := Int32.ofInt 1) F.1 F.2.1 d_Mo_has_5 (by decide) ?_
  obtain ⟨h3, hw⟩ := hw
  refine fi_icmp_ne F d_Mo_has_6 (tgt := 13) (by decide) h3 (rgl (by decide)) (fun hc4 => ?_) (fun hc4 => ?_)
  · have hw := hw.1 hc4
    refine lv_iconst (v := Int32.ofInt 0) F.1 F.2.1 d_Mo_has_13 (by decide) ?_
    exact fx_zret F w hr hlk (fx_nz (by decide)) hw d_Mo_has_14
  · have hw := hw.2 hc4
    refine lv_iconst (v := Int32.ofInt 1) F.1 F.2.1 d_Mo_has_9 (by decide) ?_
    refine lv_goto F.1 F.2.1 d_Mo_has_10 (tgt := 14) (by decide) ?_
    exact fx_zret F w hr hlk (fx_nz (by decide)) hw d_Mo_has_14
set_option maxHeartbeats 4000000 in
set_option maxRecDepth 100000 in
theorem met_Mo_leadsToLost (l : Launch) (hst9 : l.stackTraces = false) (D : va_G) (ad : Nat → Nat) (cA : Nat → ClassId) (n0 : Nat) (M : fm_M) (a1 : Int) (a2 : Int) (post : Int → fm_M → Prop) (thr : String → fm_M → Prop) (hw : wp_Mo_leadsToLost M a1 a2 post thr) : fx_Met l y_Mo_leadsToLost (Cond.code y_Mo_leadsToLost b_Mo_leadsToLost 6 (some .boolean) :: tb) { frames := 0, cells := 1, slots := 6, locals := 0 } [.ref (ad 331), .int (Int32.ofInt a1), .int (Int32.ofInt a2)] D ad cA n0 M 0 post thr := by
  refine fx_met (by decide) (Nat.le_of_ble_eq_true rfl) (fun p e s m below meth c ls F w hno hr hlk hl => ?_)
  have blk_71 : ∀ (J_18 : (fm_M → Int → Int → Int → Prop)) (M : fm_M) (v4 : Int) (v5 : Int) (s0 : Int), B_Mo_leadsToLost_71 a1 a2 post thr J_18 M v4 v5 s0 → (∀ (M : fm_M) (v3 : Int) (v4 : Int) (v5 : Int), J_18 M v3 v4 v5 → fx_G p l e { frames := 0, cells := 1, slots := 6, locals := 0 } s m ([.ref (ad 331), .int (Int32.ofInt a1), .int (Int32.ofInt a2)] : List Value).toArray below meth c D ad cA n0 0 post thr 6 M [(0, .ref (ad 331)), (1, .int (Int32.ofInt a1)), (2, .int (Int32.ofInt a2)), (3, .int (Int32.ofInt v3)), (4, .int (Int32.ofInt v4)), (5, .int (Int32.ofInt v5))] 18 []) → fx_G p l e { frames := 0, cells := 1, slots := 6, locals := 0 } s m ([.ref (ad 331), .int (Int32.ofInt a1), .int (Int32.ofInt a2)] : List Value).toArray below meth c D ad cA n0 0 post thr 6 M [(0, .ref (ad 331)), (1, .int (Int32.ofInt a1)), (2, .int (Int32.ofInt a2)), (4, .int (Int32.ofInt v4)), (5, .int (Int32.ofInt v5))] 71 [.int (Int32.ofInt s0)] := by
    intro J_18 M v4 v5 s0 hw hJ_18 H locs ls w hl
    refine lv_istore_n F.1 F.2.1 d_Mo_leadsToLost_71 rfl hl (by decide) rfl (fun ls hl => ?_)
    have hl : lv_has ls 6 [(3, .int (Int32.ofInt s0)), (0, .ref (ad 331)), (1, .int (Int32.ofInt a1)), (2, .int (Int32.ofInt a2)), (4, .int (Int32.ofInt v4)), (5, .int (Int32.ofInt v5))] := hl
    refine fi_iinc (k := 5) (v := (v5 + 1)) F d_Mo_leadsToLost_72 hl rfl rfl (by decide) rfl (fun ls hl => ?_)
    have hl : lv_has ls 6 [(5, .int (Int32.ofInt (v5 + 1))), (3, .int (Int32.ofInt s0)), (0, .ref (ad 331)), (1, .int (Int32.ofInt a1)), (2, .int (Int32.ofInt a2)), (4, .int (Int32.ofInt v4))] := hl
    refine lv_goto F.1 F.2.1 d_Mo_leadsToLost_75 (tgt := 18) (by decide) ?_
    exact hJ_18 M s0 v4 (v5 + 1) hw H locs ls w (lv_sub hl [2, 3, 4, 1, 5, 0] rfl)
  have blc_18 : ∀ (J_18 : (fm_M → Int → Int → Int → Prop)) (M : fm_M) (v3 : Int) (v4 : Int) (v5 : Int), C_Mo_leadsToLost_18 a1 a2 post thr J_18 M v3 v4 v5 → (∀ (M : fm_M) (v3 : Int) (v4 : Int) (v5 : Int), J_18 M v3 v4 v5 → fx_G p l e { frames := 0, cells := 1, slots := 6, locals := 0 } s m ([.ref (ad 331), .int (Int32.ofInt a1), .int (Int32.ofInt a2)] : List Value).toArray below meth c D ad cA n0 0 post thr 6 M [(0, .ref (ad 331)), (1, .int (Int32.ofInt a1)), (2, .int (Int32.ofInt a2)), (3, .int (Int32.ofInt v3)), (4, .int (Int32.ofInt v4)), (5, .int (Int32.ofInt v5))] 18 []) → fx_G p l e { frames := 0, cells := 1, slots := 6, locals := 0 } s m ([.ref (ad 331), .int (Int32.ofInt a1), .int (Int32.ofInt a2)] : List Value).toArray below meth c D ad cA n0 0 post thr 6 M [(0, .ref (ad 331)), (1, .int (Int32.ofInt a1)), (2, .int (Int32.ofInt a2)), (3, .int (Int32.ofInt v3)), (4, .int (Int32.ofInt v4)), (5, .int (Int32.ofInt v5))] 18 [] := by
    intro J_18 M v3 v4 v5 hw hJ_18 H locs ls w hl
    refine lv_iload F.1 F.2.1 d_Mo_leadsToLost_18 (lv_at hl 5 rfl) ?_
    refine lv_aload_n F.1 F.2.1 d_Mo_leadsToLost_20 rfl (lv_at hl 0 rfl) ?_
    refine fm_gO F w cl_Mo 331 12 337 T_331 (by decide) rfl rfl k_826 d_Mo_leadsToLost_21 ?_
    refine lv_bipush (v := Int32.ofInt 10) F.1 F.2.1 d_Mo_leadsToLost_24 (by decide) ?_
    refine lv_aload_n F.1 F.2.1 d_Mo_leadsToLost_26 rfl (lv_at hl 0 rfl) ?_
    refine fm_gI F w cl_Mo 331 6 T_331 (by decide) rfl k_820 d_Mo_leadsToLost_27 ?_
    refine fi_imul F d_Mo_leadsToLost_30 ?_
    refine lv_iload F.1 F.2.1 d_Mo_leadsToLost_31 (lv_at hl 4 rfl) ?_
    refine fi_iadd F d_Mo_leadsToLost_33 ?_
    obtain ⟨h20, hw⟩ := hw
    refine fm_aI F w 337 T_337 (by decide) h20 d_Mo_leadsToLost_34 ?_
    obtain ⟨h21, hw⟩ := hw
    obtain ⟨h22, hw⟩ := hw
    refine fi_icmp_ge F d_Mo_leadsToLost_35 (tgt := 78) (by decide) h21 h22 (fun hc23 => ?_) (fun hc23 => ?_)
    · have hw := hw.1 hc23
      refine lv_iload_n F.1 F.2.1 d_Mo_leadsToLost_78 rfl (lv_at hl 3 rfl) ?_
      obtain ⟨h24, hw⟩ := hw
      exact fx_zret F w hr hlk (fx_nz h24) hw d_Mo_leadsToLost_79
    · have hw := hw.2 hc23
      refine lv_iload_n F.1 F.2.1 d_Mo_leadsToLost_38 rfl (lv_at hl 3 rfl) ?_
      obtain ⟨h25, hw⟩ := hw
      refine fi_if_eq F d_Mo_leadsToLost_39 (tgt := 70) (by decide) h25 (fun hc26 => ?_) (fun hc26 => ?_)
      · have hw := hw.1 hc26
        refine lv_iconst (v := Int32.ofInt 0) F.1 F.2.1 d_Mo_leadsToLost_70 (by decide) ?_
        exact blk_71 J_18 M v4 v5 0 hw hJ_18 H locs ls w (lv_sub hl [0, 1, 2, 4, 5] rfl)
      · have hw := hw.2 hc26
        refine lv_aload_n F.1 F.2.1 d_Mo_leadsToLost_42 rfl (lv_at hl 0 rfl) ?_
        refine fm_gO F w cl_Mo 331 32 354 T_331 (by decide) rfl rfl k_846 d_Mo_leadsToLost_43 ?_
        refine lv_aload_n F.1 F.2.1 d_Mo_leadsToLost_46 rfl (lv_at hl 0 rfl) ?_
        refine fm_gO F w cl_Mo 331 28 350 T_331 (by decide) rfl rfl k_842 d_Mo_leadsToLost_47 ?_
        refine lv_bipush (v := Int32.ofInt 40) F.1 F.2.1 d_Mo_leadsToLost_50 (by decide) ?_
        refine lv_iload_n F.1 F.2.1 d_Mo_leadsToLost_52 rfl (lv_at hl 1 rfl) ?_
        refine fi_imul F d_Mo_leadsToLost_53 ?_
        refine lv_iconst (v := Int32.ofInt 4) F.1 F.2.1 d_Mo_leadsToLost_54 (by decide) ?_
        refine lv_iload_n F.1 F.2.1 d_Mo_leadsToLost_55 rfl (lv_at hl 2 rfl) ?_
        refine fi_imul F d_Mo_leadsToLost_56 ?_
        refine fi_iadd F d_Mo_leadsToLost_57 ?_
        refine lv_iload F.1 F.2.1 d_Mo_leadsToLost_58 (lv_at hl 5 rfl) ?_
        refine fi_iadd F d_Mo_leadsToLost_60 ?_
        obtain ⟨h27, hw⟩ := hw
        refine fm_aI F w 350 T_350 (by decide) h27 d_Mo_leadsToLost_61 ?_
        obtain ⟨h28, hw⟩ := hw
        refine fm_aZ F w 354 T_354 (by decide) h28 d_Mo_leadsToLost_62 ?_
        obtain ⟨h29, hw⟩ := hw
        refine fi_if_eq F d_Mo_leadsToLost_63 (tgt := 70) (by decide) h29 (fun hc30 => ?_) (fun hc30 => ?_)
        · have hw := hw.1 hc30
          refine lv_iconst (v := Int32.ofInt 0) F.1 F.2.1 d_Mo_leadsToLost_70 (by decide) ?_
          exact blk_71 J_18 M v4 v5 0 hw hJ_18 H locs ls w (lv_sub hl [0, 1, 2, 4, 5] rfl)
        · have hw := hw.2 hc30
          refine lv_iconst (v := Int32.ofInt 1) F.1 F.2.1 d_Mo_leadsToLost_66 (by decide) ?_
          refine lv_goto F.1 F.2.1 d_Mo_leadsToLost_67 (tgt := 71) (by decide) ?_
          exact blk_71 J_18 M v4 v5 1 hw hJ_18 H locs ls w (lv_sub hl [0, 1, 2, 4, 5] rfl)
  have blk_18 : ∀ (M : fm_M) (v3 : Int) (v4 : Int) (v5 : Int), B_Mo_leadsToLost_18 a1 a2 post thr M v3 v4 v5 → fx_G p l e { frames := 0, cells := 1, slots := 6, locals := 0 } s m ([.ref (ad 331), .int (Int32.ofInt a1), .int (Int32.ofInt a2)] : List Value).toArray below meth c D ad cA n0 0 post thr 6 M [(0, .ref (ad 331)), (1, .int (Int32.ofInt a1)), (2, .int (Int32.ofInt a2)), (3, .int (Int32.ofInt v3)), (4, .int (Int32.ofInt v4)), (5, .int (Int32.ofInt v5))] 18 [] := by
    intro M v3 v4 v5 hw
    obtain ⟨I, μ, hI, hB⟩ := hw
    have key : ∀ (q : Nat) (M : fm_M) (v3 : Int) (v4 : Int) (v5 : Int), μ M v3 v4 v5 < q → I M v3 v4 v5 → fx_G p l e { frames := 0, cells := 1, slots := 6, locals := 0 } s m ([.ref (ad 331), .int (Int32.ofInt a1), .int (Int32.ofInt a2)] : List Value).toArray below meth c D ad cA n0 0 post thr 6 M [(0, .ref (ad 331)), (1, .int (Int32.ofInt a1)), (2, .int (Int32.ofInt a2)), (3, .int (Int32.ofInt v3)), (4, .int (Int32.ofInt v4)), (5, .int (Int32.ofInt v5))] 18 [] := by
      intro q
      induction q with
      | zero => intro M v3 v4 v5 h _; exact absurd h (Nat.not_lt_zero _)
      | succ q ih =>
        intro M v3 v4 v5 hμ hI
        exact blc_18 (fun M' v3' v4' v5' => I M' v3' v4' v5' ∧ μ M' v3' v4' v5' < μ M v3 v4 v5) M v3 v4 v5 (hB M v3 v4 v5 hI) (fun M' v3' v4' v5' hh => ih M' v3' v4' v5' (Nat.lt_of_lt_of_le hh.2 (Nat.le_of_lt_succ hμ)) hh.1)
    exact key _ M v3 v4 v5 (Nat.lt_succ_self _) hI
  have hl : lv_has ls 6 [(0, .ref (ad 331)), (1, .int (Int32.ofInt a1)), (2, .int (Int32.ofInt a2))] := hl
  suffices h9 : fx_G p l e { frames := 0, cells := 1, slots := 6, locals := 0 } s m ([.ref (ad 331), .int (Int32.ofInt a1), .int (Int32.ofInt a2)] : List Value).toArray below meth c D ad cA n0 0 post thr 6 M [(0, .ref (ad 331)), (1, .int (Int32.ofInt a1)), (2, .int (Int32.ofInt a2))] 0 [] from h9 _ _ _ w hl
  intro H locs ls w hl
  refine lv_iconst (v := Int32.ofInt 1) F.1 F.2.1 d_Mo_leadsToLost_0 (by decide) ?_
  refine lv_istore_n F.1 F.2.1 d_Mo_leadsToLost_1 rfl hl (by decide) rfl (fun ls hl => ?_)
  have hl : lv_has ls 6 [(3, .int (Int32.ofInt 1)), (0, .ref (ad 331)), (1, .int (Int32.ofInt a1)), (2, .int (Int32.ofInt a2))] := hl
  refine lv_aload_n F.1 F.2.1 d_Mo_leadsToLost_2 rfl (lv_at hl 1 rfl) ?_
  refine fm_gO F w cl_Mo 331 26 348 T_331 (by decide) rfl rfl k_840 d_Mo_leadsToLost_3 ?_
  refine lv_bipush (v := Int32.ofInt 10) F.1 F.2.1 d_Mo_leadsToLost_6 (by decide) ?_
  refine lv_iload_n F.1 F.2.1 d_Mo_leadsToLost_8 rfl (lv_at hl 2 rfl) ?_
  refine fi_imul F d_Mo_leadsToLost_9 ?_
  refine lv_iload_n F.1 F.2.1 d_Mo_leadsToLost_10 rfl (lv_at hl 3 rfl) ?_
  refine fi_iadd F d_Mo_leadsToLost_11 ?_
  obtain ⟨h31, hw⟩ := hw
  refine fm_aI F w 348 T_348 (by decide) h31 d_Mo_leadsToLost_12 ?_
  refine lv_istore F.1 F.2.1 d_Mo_leadsToLost_13 hl (by decide) rfl (fun ls hl => ?_)
  have hl : lv_has ls 6 [(4, .int (Int32.ofInt (M 348 ((10 * a1) + a2).toNat))), (3, .int (Int32.ofInt 1)), (0, .ref (ad 331)), (1, .int (Int32.ofInt a1)), (2, .int (Int32.ofInt a2))] := hl
  refine lv_iconst (v := Int32.ofInt 0) F.1 F.2.1 d_Mo_leadsToLost_15 (by decide) ?_
  refine lv_istore F.1 F.2.1 d_Mo_leadsToLost_16 hl (by decide) rfl (fun ls hl => ?_)
  have hl : lv_has ls 6 [(5, .int (Int32.ofInt 0)), (4, .int (Int32.ofInt (M 348 ((10 * a1) + a2).toNat))), (3, .int (Int32.ofInt 1)), (0, .ref (ad 331)), (1, .int (Int32.ofInt a1)), (2, .int (Int32.ofInt a2))] := hl
  exact blk_18 M 1 (M 348 ((10 * a1) + a2).toNat) 0 hw H locs ls w (lv_sub hl [3, 4, 5, 2, 1, 0] rfl)
