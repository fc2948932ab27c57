set_option maxHeartbeats 4000000 in
set_option maxRecDepth 100000 in
theorem met_Mo_branch (l : Launch) (hst9 : l.stackTraces = false) (D : va_G) (ad : Nat → Nat) (cA : Nat → ClassId) (n0 : Nat) (M : fm_M) (a1 : Int) (a2 : Int) (a3 : Int) (post : Int → fm_M → Prop) (thr : String → fm_M → Prop) (hw : wp_Mo_branch M a1 a2 a3 post thr) : fx_Met l y_Mo_branch (Cond.code y_Mo_branch b_Mo_branch 7 (some .int) :: tb) { frames := 2, cells := 1, slots := 6, locals := 43 } [.ref (ad 331), .int (Int32.ofInt a1), .int (Int32.ofInt a2), .int (Int32.ofInt a3)] D ad cA n0 M 0 post thr := by
  refine fx_met (by decide) (Nat.le_of_ble_eq_true rfl) (fun p e s m below meth c ls F w hno hr hlk hl => ?_)
  have blk_123 : ∀ (J_21 : (fm_M → Int → Int → Prop)) (M : fm_M) (v5 : Int) (s0 : Int), B_Mo_branch_123 a1 a2 a3 post thr J_21 M v5 s0 → (∀ (M : fm_M) (v4 : Int) (v5 : Int), J_21 M v4 v5 → fx_G p l e { frames := 2, cells := 1, slots := 6, locals := 43 } s m ([.ref (ad 331), .int (Int32.ofInt a1), .int (Int32.ofInt a2), .int (Int32.ofInt a3)] : List Value).toArray below meth c D ad cA n0 0 post thr 7 M [(0, .ref (ad 331)), (1, .int (Int32.ofInt a1)), (2, .int (Int32.ofInt a2)), (3, .int (Int32.ofInt a3)), (4, .int (Int32.ofInt v4)), (5, .int (Int32.ofInt v5))] 21 []) → fx_G p l e { frames := 2, cells := 1, slots := 6, locals := 43 } s m ([.ref (ad 331), .int (Int32.ofInt a1), .int (Int32.ofInt a2), .int (Int32.ofInt a3)] : List Value).toArray below meth c D ad cA n0 0 post thr 7 M [(0, .ref (ad 331)), (1, .int (Int32.ofInt a1)), (2, .int (Int32.ofInt a2)), (3, .int (Int32.ofInt a3)), (5, .int (Int32.ofInt v5))] 123 [.int (Int32.ofInt s0)] := by
    intro J_21 M v5 s0 hw hJ_21 H locs ls w hl
    refine lv_istore F.1 F.2.1 d_Mo_branch_123 hl (by decide) rfl (fun ls hl => ?_)
    have hl : lv_has ls 7 [(4, .int (Int32.ofInt s0)), (0, .ref (ad 331)), (1, .int (Int32.ofInt a1)), (2, .int (Int32.ofInt a2)), (3, .int (Int32.ofInt a3)), (5, .int (Int32.ofInt v5))] := hl
    refine fi_iinc (k := 5) (v := (v5 + 1)) F d_Mo_branch_125 hl rfl rfl (by decide) rfl (fun ls hl => ?_)
    have hl : lv_has ls 7 [(5, .int (Int32.ofInt (v5 + 1))), (4, .int (Int32.ofInt s0)), (0, .ref (ad 331)), (1, .int (Int32.ofInt a1)), (2, .int (Int32.ofInt a2)), (3, .int (Int32.ofInt a3))] := hl
    refine lv_goto F.1 F.2.1 d_Mo_branch_128 (tgt := 21) (by decide) ?_
    exact hJ_21 M s0 (v5 + 1) hw H locs ls w (lv_sub hl [2, 3, 4, 5, 1, 0] rfl)
  have blc_21 : ∀ (J_21 : (fm_M → Int → Int → Prop)) (M : fm_M) (v4 : Int) (v5 : Int), C_Mo_branch_21 a1 a2 a3 post thr J_21 M v4 v5 → (∀ (M : fm_M) (v4 : Int) (v5 : Int), J_21 M v4 v5 → fx_G p l e { frames := 2, cells := 1, slots := 6, locals := 43 } s m ([.ref (ad 331), .int (Int32.ofInt a1), .int (Int32.ofInt a2), .int (Int32.ofInt a3)] : List Value).toArray below meth c D ad cA n0 0 post thr 7 M [(0, .ref (ad 331)), (1, .int (Int32.ofInt a1)), (2, .int (Int32.ofInt a2)), (3, .int (Int32.ofInt a3)), (4, .int (Int32.ofInt v4)), (5, .int (Int32.ofInt v5))] 21 []) → fx_G p l e { frames := 2, cells := 1, slots := 6, locals := 43 } s m ([.ref (ad 331), .int (Int32.ofInt a1), .int (Int32.ofInt a2), .int (Int32.ofInt a3)] : List Value).toArray below meth c D ad cA n0 0 post thr 7 M [(0, .ref (ad 331)), (1, .int (Int32.ofInt a1)), (2, .int (Int32.ofInt a2)), (3, .int (Int32.ofInt a3)), (4, .int (Int32.ofInt v4)), (5, .int (Int32.ofInt v5))] 21 [] := by
    intro J_21 M v4 v5 hw hJ_21 H locs ls w hl
    refine lv_iload F.1 F.2.1 d_Mo_branch_21 (lv_at hl 5 rfl) ?_
    refine lv_aload_n F.1 F.2.1 d_Mo_branch_23 rfl (lv_at hl 0 rfl) ?_
    refine fm_gO F w cl_Mo 331 27 349 T_331 (by decide) rfl rfl k_841 d_Mo_branch_24 ?_
    refine lv_iload_n F.1 F.2.1 d_Mo_branch_27 rfl (lv_at hl 1 rfl) ?_
    obtain ⟨h56, hw⟩ := hw
    refine fm_aI F w 349 T_349 (by decide) h56 d_Mo_branch_28 ?_
    obtain ⟨h57, hw⟩ := hw
    obtain ⟨h58, hw⟩ := hw
    refine fi_icmp_ge F d_Mo_branch_29 (tgt := 131) (by decide) h57 h58 (fun hc59 => ?_) (fun hc59 => ?_)
    · have hw := hw.1 hc59
      refine lv_iload F.1 F.2.1 d_Mo_branch_131 (lv_at hl 4 rfl) ?_
      exact fx_iret F w hr hlk hw d_Mo_branch_133
    · have hw := hw.2 hc59
      refine lv_aload_n F.1 F.2.1 d_Mo_branch_32 rfl (lv_at hl 0 rfl) ?_
      refine fm_gO F w cl_Mo 331 26 348 T_331 (by decide) rfl rfl k_840 d_Mo_branch_33 ?_
      refine lv_bipush (v := Int32.ofInt 10) F.1 F.2.1 d_Mo_branch_36 (by decide) ?_
      refine lv_iload_n F.1 F.2.1 d_Mo_branch_38 rfl (lv_at hl 1 rfl) ?_
      refine fi_imul F d_Mo_branch_39 ?_
      refine lv_iload F.1 F.2.1 d_Mo_branch_40 (lv_at hl 5 rfl) ?_
      refine fi_iadd F d_Mo_branch_42 ?_
      obtain ⟨h60, hw⟩ := hw
      refine fm_aI F w 348 T_348 (by decide) h60 d_Mo_branch_43 ?_
      refine lv_iload_n F.1 F.2.1 d_Mo_branch_44 rfl (lv_at hl 2 rfl) ?_
      obtain ⟨h61, hw⟩ := hw
      obtain ⟨h62, hw⟩ := hw
      refine fi_icmp_ne F d_Mo_branch_45 (tgt := 125) (by decide) h61 h62 (fun hc63 => ?_) (fun hc63 => ?_)
      · have hw := hw.1 hc63
        refine fi_iinc (k := 5) (v := (v5 + 1)) F d_Mo_branch_125 hl rfl rfl (by decide) rfl (fun ls hl => ?_)
        have hl : lv_has ls 7 [(5, .int (Int32.ofInt (v5 + 1))), (0, .ref (ad 331)), (1, .int (Int32.ofInt a1)), (2, .int (Int32.ofInt a2)), (3, .int (Int32.ofInt a3)), (4, .int (Int32.ofInt v4))] := hl
        refine lv_goto F.1 F.2.1 d_Mo_branch_128 (tgt := 21) (by decide) ?_
        exact hJ_21 M v4 (v5 + 1) hw H locs ls w (lv_sub hl [1, 2, 3, 4, 5, 0] rfl)
      · have hw := hw.2 hc63
        refine lv_iload_n F.1 F.2.1 d_Mo_branch_48 rfl (lv_at hl 3 rfl) ?_
        refine lv_iconst (v := Int32.ofInt 0) F.1 F.2.1 d_Mo_branch_49 (by decide) ?_
        refine lv_aload_n F.1 F.2.1 d_Mo_branch_50 rfl (lv_at hl 0 rfl) ?_
        refine fm_gO F w cl_Mo 331 12 337 T_331 (by decide) rfl rfl k_826 d_Mo_branch_51 ?_
        refine lv_bipush (v := Int32.ofInt 10) F.1 F.2.1 d_Mo_branch_54 (by decide) ?_
        refine lv_aload_n F.1 F.2.1 d_Mo_branch_56 rfl (lv_at hl 0 rfl) ?_
        refine fm_gI F w cl_Mo 331 6 T_331 (by decide) rfl k_820 d_Mo_branch_57 ?_
        refine fi_imul F d_Mo_branch_60 ?_
        refine lv_iload_n F.1 F.2.1 d_Mo_branch_61 rfl (lv_at hl 2 rfl) ?_
        refine fi_iadd F d_Mo_branch_62 ?_
        obtain ⟨h64, hw⟩ := hw
        refine fm_aI F w 337 T_337 (by decide) h64 d_Mo_branch_63 ?_
        refine lv_iconst (v := Int32.ofInt 1) F.1 F.2.1 d_Mo_branch_64 (by decide) ?_
        refine fi_isub F d_Mo_branch_65 ?_
        refine fx_c w hno hlk (fx_rS (As := [.int (Int32.ofInt a3), .int (Int32.ofInt 0), .int (Int32.ofInt ((M 337 ((10 * (M 331 6)) + a2).toNat) - 1))]) (rest := []) F w (met_Mo_within l hst9 D ad cA n0 M a3 0 ((M 337 ((10 * (M 331 6)) + a2).toNat) - 1) _ thr hw) e_Mo_within kt_Mo_within k_946 rfl hl.1 rfl (Nat.le_of_ble_eq_true rfl) ⟨⟨Nat.le_of_ble_eq_true rfl, Nat.le_of_ble_eq_true rfl⟩, Nat.le_of_ble_eq_true rfl, Nat.le_of_ble_eq_true rfl⟩ d_Mo_branch_66) (fun r66 M65 hw H locs w => ?_)
        show W p l e _ s m _ below meth c H locs 0 0 _ (F0 m 69 ls [.int (Int32.ofInt r66)])
        obtain ⟨h67, hw⟩ := hw
        refine fi_if_eq F d_Mo_branch_69 (tgt := 125) (by decide) h67 (fun hc68 => ?_) (fun hc68 => ?_)
        · have hw := hw.1 hc68
          refine fi_iinc (k := 5) (v := (v5 + 1)) F d_Mo_branch_125 hl rfl rfl (by decide) rfl (fun ls hl => ?_)
          have hl : lv_has ls 7 [(5, .int (Int32.ofInt (v5 + 1))), (0, .ref (ad 331)), (1, .int (Int32.ofInt a1)), (2, .int (Int32.ofInt a2)), (3, .int (Int32.ofInt a3)), (4, .int (Int32.ofInt v4))] := hl
          refine lv_goto F.1 F.2.1 d_Mo_branch_128 (tgt := 21) (by decide) ?_
          exact hJ_21 M65 v4 (v5 + 1) hw H locs ls w (lv_sub hl [1, 2, 3, 4, 5, 0] rfl)
        · have hw := hw.2 hc68
          refine lv_aload_n F.1 F.2.1 d_Mo_branch_72 rfl (lv_at hl 0 rfl) ?_
          refine fm_gO F w cl_Mo 331 28 350 T_331 (by decide) rfl rfl k_842 d_Mo_branch_73 ?_
          refine lv_bipush (v := Int32.ofInt 40) F.1 F.2.1 d_Mo_branch_76 (by decide) ?_
          refine lv_iload_n F.1 F.2.1 d_Mo_branch_78 rfl (lv_at hl 1 rfl) ?_
          refine fi_imul F d_Mo_branch_79 ?_
          refine lv_iconst (v := Int32.ofInt 4) F.1 F.2.1 d_Mo_branch_80 (by decide) ?_
          refine lv_iload F.1 F.2.1 d_Mo_branch_81 (lv_at hl 5 rfl) ?_
          refine fi_imul F d_Mo_branch_83 ?_
          refine fi_iadd F d_Mo_branch_84 ?_
          refine lv_iload_n F.1 F.2.1 d_Mo_branch_85 rfl (lv_at hl 3 rfl) ?_
          refine fi_iadd F d_Mo_branch_86 ?_
          obtain ⟨h69, hw⟩ := hw
          refine fm_aI F w 350 T_350 (by decide) h69 d_Mo_branch_87 ?_
          refine lv_istore F.1 F.2.1 d_Mo_branch_88 hl (by decide) rfl (fun ls hl => ?_)
          have hl : lv_has ls 7 [(6, .int (Int32.ofInt (M65 350 (((40 * a1) + (4 * v5)) + a3).toNat))), (0, .ref (ad 331)), (1, .int (Int32.ofInt a1)), (2, .int (Int32.ofInt a2)), (3, .int (Int32.ofInt a3)), (4, .int (Int32.ofInt v4)), (5, .int (Int32.ofInt v5))] := hl
          refine lv_iload F.1 F.2.1 d_Mo_branch_90 (lv_at hl 0 rfl) ?_
          obtain ⟨h70, hw⟩ := hw
          refine fi_if_ge F d_Mo_branch_92 (tgt := 99) (by decide) h70 (fun hc71 => ?_) (fun hc71 => ?_)
          · have hw := hw.1 hc71
            refine lv_bipush (v := Int32.ofInt 10) F.1 F.2.1 d_Mo_branch_99 (by decide) ?_
            refine lv_iload F.1 F.2.1 d_Mo_branch_101 (lv_at hl 0 rfl) ?_
            refine fi_imul F d_Mo_branch_103 ?_
            refine lv_aload_n F.1 F.2.1 d_Mo_branch_104 rfl (lv_at hl 1 rfl) ?_
            refine fm_gO F w cl_Mo 331 14 339 T_331 (by decide) rfl rfl k_828 d_Mo_branch_105 ?_
            refine lv_iconst (v := Int32.ofInt 4) F.1 F.2.1 d_Mo_branch_108 (by decide) ?_
            refine lv_bipush (v := Int32.ofInt 10) F.1 F.2.1 d_Mo_branch_109 (by decide) ?_
            refine lv_aload_n F.1 F.2.1 d_Mo_branch_111 rfl (lv_at hl 1 rfl) ?_
            refine fm_gI F w cl_Mo 331 6 T_331 (by decide) rfl k_820 d_Mo_branch_112 ?_
            refine fi_imul F d_Mo_branch_115 ?_
            refine lv_iload_n F.1 F.2.1 d_Mo_branch_116 rfl (lv_at hl 3 rfl) ?_
            refine fi_iadd F d_Mo_branch_117 ?_
            refine fi_imul F d_Mo_branch_118 ?_
            refine lv_iload_n F.1 F.2.1 d_Mo_branch_119 rfl (lv_at hl 4 rfl) ?_
            refine fi_iadd F d_Mo_branch_120 ?_
            obtain ⟨h72, hw⟩ := hw
            refine fm_aI F w 339 T_339 (by decide) h72 d_Mo_branch_121 ?_
            refine fi_iadd F d_Mo_branch_122 ?_
            exact blk_123 J_21 M65 v5 ((10 * (M65 350 (((40 * a1) + (4 * v5)) + a3).toNat)) + (M65 339 ((4 * ((10 * (M65 331 6)) + a2)) + a3).toNat)) hw hJ_21 H locs ls w (lv_sub hl [1, 2, 3, 4, 6] rfl)
          · have hw := hw.2 hc71
            refine lv_iconst (v := Int32.ofInt (-1)) F.1 F.2.1 d_Mo_branch_95 (by decide) ?_
            refine lv_goto F.1 F.2.1 d_Mo_branch_96 (tgt := 123) (by decide) ?_
            exact blk_123 J_21 M65 v5 (-1) hw hJ_21 H locs ls w (lv_sub hl [1, 2, 3, 4, 6] rfl)
  have blk_21 : ∀ (M : fm_M) (v4 : Int) (v5 : Int), B_Mo_branch_21 a1 a2 a3 post thr M v4 v5 → fx_G p l e { frames := 2, cells := 1, slots := 6, locals := 43 } s m ([.ref (ad 331), .int (Int32.ofInt a1), .int (Int32.ofInt a2), .int (Int32.ofInt a3)] : List Value).toArray below meth c D ad cA n0 0 post thr 7 M [(0, .ref (ad 331)), (1, .int (Int32.ofInt a1)), (2, .int (Int32.ofInt a2)), (3, .int (Int32.ofInt a3)), (4, .int (Int32.ofInt v4)), (5, .int (Int32.ofInt v5))] 21 [] := by
    intro M v4 v5 hw
    obtain ⟨I, μ, hI, hB⟩ := hw
    have key : ∀ (q : Nat) (M : fm_M) (v4 : Int) (v5 : Int), μ M v4 v5 < q → I M v4 v5 → fx_G p l e { frames := 2, cells := 1, slots := 6, locals := 43 } s m ([.ref (ad 331), .int (Int32.ofInt a1), .int (Int32.ofInt a2), .int (Int32.ofInt a3)] : List Value).toArray below meth c D ad cA n0 0 post thr 7 M [(0, .ref (ad 331)), (1, .int (Int32.ofInt a1)), (2, .int (Int32.ofInt a2)), (3, .int (Int32.ofInt a3)), (4, .int (Int32.ofInt v4)), (5, .int (Int32.ofInt v5))] 21 [] := by
      intro q
      induction q with
      | zero => intro M v4 v5 h _; exact absurd h (Nat.not_lt_zero _)
      | succ q ih =>
        intro M v4 v5 hμ hI
        exact blc_21 (fun M' v4' v5' => I M' v4' v5' ∧ μ M' v4' v5' < μ M v4 v5) M v4 v5 (hB M v4 v5 hI) (fun M' v4' v5' hh => ih M' v4' v5' (Nat.lt_of_lt_of_le hh.2 (Nat.le_of_lt_succ hμ)) hh.1)
    exact key _ M v4 v5 (Nat.lt_succ_self _) hI
  have hl : lv_has ls 7 [(0, .ref (ad 331)), (1, .int (Int32.ofInt a1)), (2, .int (Int32.ofInt a2)), (3, .int (Int32.ofInt a3))] := hl
  suffices h9 : fx_G p l e { frames := 2, cells := 1, slots := 6, locals := 43 } s m ([.ref (ad 331), .int (Int32.ofInt a1), .int (Int32.ofInt a2), .int (Int32.ofInt a3)] : List Value).toArray below meth c D ad cA n0 0 post thr 7 M [(0, .ref (ad 331)), (1, .int (Int32.ofInt a1)), (2, .int (Int32.ofInt a2)), (3, .int (Int32.ofInt a3))] 0 [] from h9 _ _ _ w hl
  intro H locs ls w hl
  refine lv_aload_n F.1 F.2.1 d_Mo_branch_0 rfl (lv_at hl 0 rfl) ?_
  refine lv_iconst (v := Int32.ofInt 0) F.1 F.2.1 d_Mo_branch_1 (by decide) ?_
  refine fm_pI F w cl_Mo 331 0 T_331 (by decide) rfl k_814 rfl rfl d_Mo_branch_2 (fun M73 hM73 H locs w => ?_)
  have hw := hw M73 hM73
  refine lv_aload_n F.1 F.2.1 d_Mo_branch_5 rfl (lv_at hl 0 rfl) ?_
  refine lv_iload_n F.1 F.2.1 d_Mo_branch_6 rfl (lv_at hl 1 rfl) ?_
  refine fx_c w hno hlk (fx_rV (As := [.int (Int32.ofInt a1)]) (rest := []) F w cl_Mo 331 T_331 (met_Mo_isState l hst9 D ad cA n0 M73 a1 _ thr hw) e_Mo_isState ki_Mo_isState ks_Mo_isState k_1138 rfl hl.1 rfl (Nat.le_of_ble_eq_true rfl) ⟨⟨Nat.le_of_ble_eq_true rfl, Nat.le_of_ble_eq_true rfl⟩, Nat.le_of_ble_eq_true rfl, Nat.le_of_ble_eq_true rfl⟩ d_Mo_branch_7) (fun r75 M74 hw H locs w => ?_)
  show W p l e _ s m _ below meth c H locs 0 0 _ (F0 m 10 ls [.int (Int32.ofInt r75)])
  obtain ⟨h76, hw⟩ := hw
  refine fi_if_ne F d_Mo_branch_10 (tgt := 15) (by decide) h76 (fun hc77 => ?_) (fun hc77 => ?_)
  · have hw := hw.1 hc77
    refine lv_iconst (v := Int32.ofInt (-1)) F.1 F.2.1 d_Mo_branch_15 (by decide) ?_
    refine lv_istore F.1 F.2.1 d_Mo_branch_16 hl (by decide) rfl (fun ls hl => ?_)
    have hl : lv_has ls 7 [(4, .int (Int32.ofInt (-1))), (0, .ref (ad 331)), (1, .int (Int32.ofInt a1)), (2, .int (Int32.ofInt a2)), (3, .int (Int32.ofInt a3))] := hl
    refine lv_iconst (v := Int32.ofInt 0) F.1 F.2.1 d_Mo_branch_18 (by decide) ?_
    refine lv_istore F.1 F.2.1 d_Mo_branch_19 hl (by decide) rfl (fun ls hl => ?_)
    have hl : lv_has ls 7 [(5, .int (Int32.ofInt 0)), (4, .int (Int32.ofInt (-1))), (0, .ref (ad 331)), (1, .int (Int32.ofInt a1)), (2, .int (Int32.ofInt a2)), (3, .int (Int32.ofInt a3))] := hl
    exact blk_21 M74 (-1) 0 hw H locs ls w (lv_sub hl [2, 3, 4, 5, 1, 0] rfl)
  · have hw := hw.2 hc77
    refine lv_iconst (v := Int32.ofInt (-1)) F.1 F.2.1 d_Mo_branch_13 (by decide) ?_
    exact fx_iret F w hr hlk hw d_Mo_branch_14
set_option maxHeartbeats 4000000 in
set_option maxRecDepth 100000 in
theorem met_Mo_needsValue (l : Launch) (hst9 : l.stackTraces = false) (D : va_G) (ad : Nat → Nat) (cA : Nat → ClassId) (n0 : Nat) (M : fm_M) (a1 : Int) (post : Int → fm_M → Prop) (thr : String → fm_M → Prop) (hw : wp_Mo_needsValue M a1 post thr) : fx_Met l y_Mo_needsValue (Cond.code y_Mo_needsValue b_Mo_needsValue 2 (some .boolean) :: tb) { frames := 2, cells := 1, slots := 6, locals := 43 } [.ref (ad 331), .int (Int32.ofInt a1)] D ad cA n0 M 0 post thr := by
  refine fx_met (by decide) (Nat.le_of_ble_eq_true rfl) (fun p e s m below meth c ls F w hno hr hlk hl => ?_)
  have blk_25 : ∀ (M : fm_M) (s0 : Int), B_Mo_needsValue_25 a1 post thr M s0 → fx_G p l e { frames := 2, cells := 1, slots := 6, locals := 43 } s m ([.ref (ad 331), .int (Int32.ofInt a1)] : List Value).toArray below meth c D ad cA n0 0 post thr 2 M [(0, .ref (ad 331))] 25 [.int (Int32.ofInt s0), .ref (ad 331)] := by
    intro M s0 hw H locs ls w hl
    refine fm_pI F w cl_Mo 331 0 T_331 (by decide) rfl k_814 rfl rfl d_Mo_needsValue_25 (fun M13 hM13 H locs w => ?_)
    have hw := hw M13 hM13
    refine lv_aload_n F.1 F.2.1 d_Mo_needsValue_28 rfl (lv_at hl 0 rfl) ?_
    refine fm_gI F w cl_Mo 331 0 T_331 (by decide) rfl k_814 d_Mo_needsValue_29 ?_
    obtain ⟨h14, hw⟩ := hw
    refine fi_if_ne F d_Mo_needsValue_32 (tgt := 39) (by decide) h14 (fun hc15 => ?_) (fun hc15 => ?_)
    · have hw := hw.1 hc15
      refine lv_iconst (v := Int32.ofInt 0) F.1 F.2.1 d_Mo_needsValue_39 (by decide) ?_
      exact fx_zret F w hr hlk (fx_nz (by decide)) hw d_Mo_needsValue_40
    · have hw := hw.2 hc15
      refine lv_iconst (v := Int32.ofInt 1) F.1 F.2.1 d_Mo_needsValue_35 (by decide) ?_
      refine lv_goto F.1 F.2.1 d_Mo_needsValue_36 (tgt := 40) (by decide) ?_
      exact fx_zret F w hr hlk (fx_nz (by decide)) hw d_Mo_needsValue_40
  have hl : lv_has ls 2 [(0, .ref (ad 331)), (1, .int (Int32.ofInt a1))] := hl
  suffices h9 : fx_G p l e { frames := 2, cells := 1, slots := 6, locals := 43 } s m ([.ref (ad 331), .int (Int32.ofInt a1)] : List Value).toArray below meth c D ad cA n0 0 post thr 2 M [(0, .ref (ad 331)), (1, .int (Int32.ofInt a1))] 0 [] from h9 _ _ _ w hl
  intro H locs ls w hl
  refine lv_aload_n F.1 F.2.1 d_Mo_needsValue_0 rfl (lv_at hl 0 rfl) ?_
  refine lv_aload_n F.1 F.2.1 d_Mo_needsValue_1 rfl (lv_at hl 0 rfl) ?_
  refine fm_gI F w cl_Mo 331 22 T_331 (by decide) rfl k_836 d_Mo_needsValue_2 ?_
  obtain ⟨h16, hw⟩ := hw
  refine fi_if_ne F d_Mo_needsValue_5 (tgt := 12) (by decide) h16 (fun hc17 => ?_) (fun hc17 => ?_)
  · have hw := hw.1 hc17
    refine lv_aload_n F.1 F.2.1 d_Mo_needsValue_12 rfl (lv_at hl 0 rfl) ?_
    refine lv_iload_n F.1 F.2.1 d_Mo_needsValue_13 rfl (lv_at hl 1 rfl) ?_
    refine fx_c w hno hlk (fx_rV (As := [.int (Int32.ofInt a1)]) (rest := [.ref (ad 331)]) F w cl_Mo 331 T_331 (met_Mo_isState l hst9 D ad cA n0 M a1 _ thr hw) e_Mo_isState ki_Mo_isState ks_Mo_isState k_1138 rfl hl.1 rfl (Nat.le_of_ble_eq_true rfl) ⟨⟨Nat.le_of_ble_eq_true rfl, Nat.le_of_ble_eq_true rfl⟩, Nat.le_of_ble_eq_true rfl, Nat.le_of_ble_eq_true rfl⟩ d_Mo_needsValue_14) (fun r19 M18 hw H locs w => ?_)
    show W p l e _ s m _ below meth c H locs 0 0 _ (F0 m 17 ls [.int (Int32.ofInt r19), .ref (ad 331)])
    obtain ⟨h20, hw⟩ := hw
    refine fi_if_ne F d_Mo_needsValue_17 (tgt := 24) (by decide) h20 (fun hc21 => ?_) (fun hc21 => ?_)
    · have hw := hw.1 hc21
      refine lv_iconst (v := Int32.ofInt 0) F.1 F.2.1 d_Mo_needsValue_24 (by decide) ?_
      exact blk_25 M18 0 hw H locs ls w (lv_sub hl [0] rfl)
    · have hw := hw.2 hc21
      refine lv_iconst (v := Int32.ofInt 2) F.1 F.2.1 d_Mo_needsValue_20 (by decide) ?_
      refine lv_goto F.1 F.2.1 d_Mo_needsValue_21 (tgt := 25) (by decide) ?_
      exact blk_25 M18 2 hw H locs ls w (lv_sub hl [0] rfl)
  · have hw := hw.2 hc17
    refine lv_iconst (v := Int32.ofInt 1) F.1 F.2.1 d_Mo_needsValue_8 (by decide) ?_
    refine lv_goto F.1 F.2.1 d_Mo_needsValue_9 (tgt := 25) (by decide) ?_
    exact blk_25 M 1 hw H locs ls w (lv_sub hl [0] rfl)
set_option maxHeartbeats 4000000 in
set_option maxRecDepth 100000 in
theorem met_Mo_upper (l : Launch) (hst9 : l.stackTraces = false) (D : va_G) (ad : Nat → Nat) (cA : Nat → ClassId) (n0 : Nat) (M : fm_M) (a1 : Int) (post : Int → fm_M → Prop) (thr : String → fm_M → Prop) (hw : wp_Mo_upper M a1 post thr) : fx_Met l y_Mo_upper (Cond.code y_Mo_upper b_Mo_upper 2 (some .long) :: tb) { frames := 3, cells := 1, slots := 6, locals := 64 } [.ref (ad 331), .int (Int32.ofInt a1)] D ad cA n0 M 1 post thr := by
  refine fx_met (by decide) (Nat.le_of_ble_eq_true rfl) (fun p e s m below meth c ls F w hno hr hlk hl => ?_)
  have hl : lv_has ls 2 [(0, .ref (ad 331)), (1, .int (Int32.ofInt a1))] := hl
  suffices h9 : fx_G p l e { frames := 3, cells := 1, slots := 6, locals := 64 } s m ([.ref (ad 331), .int (Int32.ofInt a1)] : List Value).toArray below meth c D ad cA n0 1 post thr 2 M [(0, .ref (ad 331)), (1, .int (Int32.ofInt a1))] 0 [] from h9 _ _ _ w hl
  intro H locs ls w hl
  refine lv_aload_n F.1 F.2.1 d_Mo_upper_0 rfl (lv_at hl 0 rfl) ?_
  refine lv_iload_n F.1 F.2.1 d_Mo_upper_1 rfl (lv_at hl 1 rfl) ?_
  refine fx_c w hno hlk (fx_rV (As := [.int (Int32.ofInt a1)]) (rest := []) F w cl_Mo 331 T_331 (met_Mo_needsValue l hst9 D ad cA n0 M a1 _ thr hw) e_Mo_needsValue ki_Mo_needsValue ks_Mo_needsValue k_1162 rfl hl.1 rfl (Nat.le_of_ble_eq_true rfl) ⟨⟨Nat.le_of_ble_eq_true rfl, Nat.le_of_ble_eq_true rfl⟩, Nat.le_of_ble_eq_true rfl, Nat.le_of_ble_eq_true rfl⟩ d_Mo_upper_2) (fun r7 M6 hw H locs w => ?_)
  show W p l e _ s m _ below meth c H locs 0 0 _ (F0 m 5 ls [.int (Int32.ofInt r7)])
  obtain ⟨h8, hw⟩ := hw
  refine fi_if_eq F d_Mo_upper_5 (tgt := 17) (by decide) h8 (fun hc9 => ?_) (fun hc9 => ?_)
  · have hw := hw.1 hc9
    refine lv_lconst (v := Int64.ofInt 0) F.1 F.2.1 d_Mo_upper_17 (by decide) ?_
    exact fx_lret F w hr hlk hw d_Mo_upper_18
  · have hw := hw.2 hc9
    refine lv_aload_n F.1 F.2.1 d_Mo_upper_8 rfl (lv_at hl 0 rfl) ?_
    refine fm_gO F w cl_Mo 331 39 359 T_331 (by decide) rfl rfl k_853 d_Mo_upper_9 ?_
    refine lv_iload_n F.1 F.2.1 d_Mo_upper_12 rfl (lv_at hl 1 rfl) ?_
    obtain ⟨h10, hw⟩ := hw
    refine fm_aL F w 359 T_359 (by decide) h10 d_Mo_upper_13 ?_
    refine lv_goto F.1 F.2.1 d_Mo_upper_14 (tgt := 18) (by decide) ?_
    exact fx_lret F w hr hlk hw d_Mo_upper_18
set_option maxHeartbeats 4000000 in
set_option maxRecDepth 100000 in
theorem met_Mo_lower (l : Launch) (hst9 : l.stackTraces = false) (D : va_G) (ad : Nat → Nat) (cA : Nat → ClassId) (n0 : Nat) (M : fm_M) (a1 : Int) (post : Int → fm_M → Prop) (thr : String → fm_M → Prop) (hw : wp_Mo_lower M a1 post thr) : fx_Met l y_Mo_lower (Cond.code y_Mo_lower b_Mo_lower 2 (some .long) :: tb) { frames := 3, cells := 1, slots := 6, locals := 64 } [.ref (ad 331), .int (Int32.ofInt a1)] D ad cA n0 M 1 post thr := by
  refine fx_met (by decide) (Nat.le_of_ble_eq_true rfl) (fun p e s m below meth c ls F w hno hr hlk hl => ?_)
  have hl : lv_has ls 2 [(0, .ref (ad 331)), (1, .int (Int32.ofInt a1))] := hl
  suffices h9 : fx_G p l e { frames := 3, cells := 1, slots := 6, locals := 64 } s m ([.ref (ad 331), .int (Int32.ofInt a1)] : List Value).toArray below meth c D ad cA n0 1 post thr 2 M [(0, .ref (ad 331)), (1, .int (Int32.ofInt a1))] 0 [] from h9 _ _ _ w hl
  intro H locs ls w hl
  refine lv_aload_n F.1 F.2.1 d_Mo_lower_0 rfl (lv_at hl 0 rfl) ?_
  refine lv_iload_n F.1 F.2.1 d_Mo_lower_1 rfl (lv_at hl 1 rfl) ?_
  refine fx_c w hno hlk (fx_rV (As := [.int (Int32.ofInt a1)]) (rest := []) F w cl_Mo 331 T_331 (met_Mo_needsValue l hst9 D ad cA n0 M a1 _ thr hw) e_Mo_needsValue ki_Mo_needsValue ks_Mo_needsValue k_1162 rfl hl.1 rfl (Nat.le_of_ble_eq_true rfl) ⟨⟨Nat.le_of_ble_eq_true rfl, Nat.le_of_ble_eq_true rfl⟩, Nat.le_of_ble_eq_true rfl, Nat.le_of_ble_eq_true rfl⟩ d_Mo_lower_2) (fun r7 M6 hw H locs w => ?_)
  show W p l e _ s m _ below meth c H locs 0 0 _ (F0 m 5 ls [.int (Int32.ofInt r7)])
  obtain ⟨h8, hw⟩ := hw
  refine fi_if_eq F d_Mo_lower_5 (tgt := 17) (by decide) h8 (fun hc9 => ?_) (fun hc9 => ?_)
  · have hw := hw.1 hc9
    refine lv_lconst (v := Int64.ofInt 0) F.1 F.2.1 d_Mo_lower_17 (by decide) ?_
    exact fx_lret F w hr hlk hw d_Mo_lower_18
  · have hw := hw.2 hc9
    refine lv_aload_n F.1 F.2.1 d_Mo_lower_8 rfl (lv_at hl 0 rfl) ?_
    refine fm_gO F w cl_Mo 331 40 360 T_331 (by decide) rfl rfl k_854 d_Mo_lower_9 ?_
    refine lv_iload_n F.1 F.2.1 d_Mo_lower_12 rfl (lv_at hl 1 rfl) ?_
    obtain ⟨h10, hw⟩ := hw
    refine fm_aL F w 360 T_360 (by decide) h10 d_Mo_lower_13 ?_
    refine lv_goto F.1 F.2.1 d_Mo_lower_14 (tgt := 18) (by decide) ?_
    exact fx_lret F w hr hlk hw d_Mo_lower_18
set_option maxHeartbeats 4000000 in
set_option maxRecDepth 100000 in
theorem met_Mo_good (l : Launch) (hst9 : l.stackTraces = false) (D : va_G) (ad : Nat → Nat) (cA : Nat → ClassId) (n0 : Nat) (M : fm_M) (a1 : Int) (post : Int → fm_M → Prop) (thr : String → fm_M → Prop) (hw : wp_Mo_good M a1 post thr) : fx_Met l y_Mo_good (Cond.code y_Mo_good b_Mo_good 2 (some .int) :: tb) { frames := 3, cells := 1, slots := 6, locals := 64 } [.ref (ad 331), .int (Int32.ofInt a1)] D ad cA n0 M 0 post thr := by
  refine fx_met (by decide) (Nat.le_of_ble_eq_true rfl) (fun p e s m below meth c ls F w hno hr hlk hl => ?_)
  have hl : lv_has ls 2 [(0, .ref (ad 331)), (1, .int (Int32.ofInt a1))] := hl
  suffices h9 : fx_G p l e { frames := 3, cells := 1, slots := 6, locals := 64 } s m ([.ref (ad 331), .int (Int32.ofInt a1)] : List Value).toArray below meth c D ad cA n0 0 post thr 2 M [(0, .ref (ad 331)), (1, .int (Int32.ofInt a1))] 0 [] from h9 _ _ _ w hl
  intro H locs ls w hl
  refine lv_aload_n F.1 F.2.1 d_Mo_good_0 rfl (lv_at hl 0 rfl) ?_
  refine lv_iload_n F.1 F.2.1 d_Mo_good_1 rfl (lv_at hl 1 rfl) ?_
  refine fx_c w hno hlk (fx_rV (As := [.int (Int32.ofInt a1)]) (rest := []) F w cl_Mo 331 T_331 (met_Mo_needsValue l hst9 D ad cA n0 M a1 _ thr hw) e_Mo_needsValue ki_Mo_needsValue ks_Mo_needsValue k_1162 rfl hl.1 rfl (Nat.le_of_ble_eq_true rfl) ⟨⟨Nat.le_of_ble_eq_true rfl, Nat.le_of_ble_eq_true rfl⟩, Nat.le_of_ble_eq_true rfl, Nat.le_of_ble_eq_true rfl⟩ d_Mo_good_2) (fun r7 M6 hw H locs w => ?_)
  show W p l e _ s m _ below meth c H locs 0 0 _ (F0 m 5 ls [.int (Int32.ofInt r7)])
  obtain ⟨h8, hw⟩ := hw
  refine fi_if_eq F d_Mo_good_5 (tgt := 17) (by decide) h8 (fun hc9 => ?_) (fun hc9 => ?_)
  · have hw := hw.1 hc9
    refine lv_iconst (v := Int32.ofInt 0) F.1 F.2.1 d_Mo_good_17 (by decide) ?_
    exact fx_iret F w hr hlk hw d_Mo_good_18
  · have hw := hw.2 hc9
    refine lv_aload_n F.1 F.2.1 d_Mo_good_8 rfl (lv_at hl 0 rfl) ?_
    refine fm_gO F w cl_Mo 331 41 361 T_331 (by decide) rfl rfl k_855 d_Mo_good_9 ?_
    refine lv_iload_n F.1 F.2.1 d_Mo_good_12 rfl (lv_at hl 1 rfl) ?_
    obtain ⟨h10, hw⟩ := hw
    refine fm_aI F w 361 T_361 (by decide) h10 d_Mo_good_13 ?_
    refine lv_goto F.1 F.2.1 d_Mo_good_14 (tgt := 18) (by decide) ?_
    exact fx_iret F w hr hlk hw d_Mo_good_18
