set_option maxHeartbeats 4000000 in
set_option maxRecDepth 100000 in
theorem met_Va_compute (l : Launch) (hst9 : l.stackTraces = false) (D : va_G) (ad : Nat → Nat) (cA : Nat → ClassId) (n0 : Nat) (M : fm_M) (post : Int → fm_M → Prop) (thr : String → fm_M → Prop) (hw : wp_Va_compute M post thr) : fx_Met l y_Va_compute (Cond.code y_Va_compute b_Va_compute 5 none :: tb) { frames := 5, cells := 1, slots := 6, locals := 114 } [.ref (ad 141)] D ad cA n0 M 3 post thr := by
  refine fx_met (by decide) (Nat.le_of_ble_eq_true rfl) (fun p e s m below meth c ls F w hno hr hlk hl => ?_)
  have blc_66 : ∀ (J_66 : (fm_M → Int → Prop)) (M : fm_M) (v2 : Int), C_Va_compute_66 post thr J_66 M v2 → (∀ (M : fm_M) (v2 : Int), J_66 M v2 → fx_G p l e { frames := 5, cells := 1, slots := 6, locals := 114 } s m ([.ref (ad 141)] : List Value).toArray below meth c D ad cA n0 3 post thr 5 M [(0, .ref (ad 141)), (2, .int (Int32.ofInt v2))] 66 []) → fx_G p l e { frames := 5, cells := 1, slots := 6, locals := 114 } s m ([.ref (ad 141)] : List Value).toArray below meth c D ad cA n0 3 post thr 5 M [(0, .ref (ad 141)), (2, .int (Int32.ofInt v2))] 66 [] := by
    intro J_66 M v2 hw hJ_66 H locs ls w hl
    refine lv_iload_n F.1 F.2.1 d_Va_compute_66 rfl (lv_at hl 1 rfl) ?_
    refine lv_aload_n F.1 F.2.1 d_Va_compute_67 rfl (lv_at hl 0 rfl) ?_
    refine fm_gO F w cl_Va 141 0 142 T_141 (by decide) rfl rfl k_285 d_Va_compute_68 ?_
    refine fm_gI F w cl_Fo 142 1 T_142 (by decide) rfl k_206 d_Va_compute_71 ?_
    obtain ⟨h47, hw⟩ := hw
    obtain ⟨h48, hw⟩ := hw
    refine fi_icmp_ge F d_Va_compute_74 (tgt := 135) (by decide) h47 h48 (fun hc49 => ?_) (fun hc49 => ?_)
    · have hw := hw.1 hc49
      exact fx_vret F w hr hlk hw d_Va_compute_135
    · have hw := hw.2 hc49
      refine lv_aload_n F.1 F.2.1 d_Va_compute_77 rfl (lv_at hl 0 rfl) ?_
      refine fm_gO F w cl_Va 141 2 312 T_141 (by decide) rfl rfl k_288 d_Va_compute_78 ?_
      refine fm_gO F w cl_Eq 312 1 322 T_312 (by decide) rfl rfl k_274 d_Va_compute_81 ?_
      refine lv_iload_n F.1 F.2.1 d_Va_compute_84 rfl (lv_at hl 1 rfl) ?_
      obtain ⟨h50, hw⟩ := hw
      refine fm_aL F w 322 T_322 (by decide) h50 d_Va_compute_85 ?_
      refine lv_aload_n F.1 F.2.1 d_Va_compute_86 rfl (lv_at hl 0 rfl) ?_
      refine fm_gO F w cl_Va 141 2 312 T_141 (by decide) rfl rfl k_288 d_Va_compute_87 ?_
      refine fm_gL F w cl_Eq 312 2 T_312 (by decide) rfl k_276 d_Va_compute_90 ?_
      refine fx_c w hno hlk (fx_rS (As := [.long (Int64.ofInt (M 322 v2.toNat)), .long (Int64.ofInt (M 312 2))]) (rest := []) F w (met_Va_commonDivisor l hst9 D ad cA n0 M (M 322 v2.toNat) (M 312 2) _ thr hw) e_Va_commonDivisor kt_Va_commonDivisor k_742 rfl hl.1 rfl (Nat.le_of_ble_eq_true rfl) ⟨⟨Nat.le_of_ble_eq_true rfl, Nat.le_of_ble_eq_true rfl⟩, Nat.le_of_ble_eq_true rfl, Nat.le_of_ble_eq_true rfl⟩ d_Va_compute_93) (fun r52 M51 hw H locs w => ?_)
      show W p l e _ s m _ below meth c H locs 0 0 _ (F0 m 96 ls [.long (Int64.ofInt r52)])
      refine lv_lstore_n F.1 F.2.1 d_Va_compute_96 rfl hl (by decide) rfl (fun ls hl => ?_)
      have hl : lv_has ls 5 [(3, .long (Int64.ofInt r52)), (0, .ref (ad 141)), (2, .int (Int32.ofInt v2))] := hl
      refine lv_aload_n F.1 F.2.1 d_Va_compute_97 rfl (lv_at hl 1 rfl) ?_
      refine fm_gO F w cl_Va 141 5 324 T_141 (by decide) rfl rfl k_292 d_Va_compute_98 ?_
      refine lv_iload_n F.1 F.2.1 d_Va_compute_101 rfl (lv_at hl 2 rfl) ?_
      refine lv_aload_n F.1 F.2.1 d_Va_compute_102 rfl (lv_at hl 1 rfl) ?_
      refine fm_gO F w cl_Va 141 2 312 T_141 (by decide) rfl rfl k_288 d_Va_compute_103 ?_
      refine fm_gO F w cl_Eq 312 1 322 T_312 (by decide) rfl rfl k_274 d_Va_compute_106 ?_
      refine lv_iload_n F.1 F.2.1 d_Va_compute_109 rfl (lv_at hl 2 rfl) ?_
      refine fm_aL F w 322 T_322 (by decide) h50 d_Va_compute_110 ?_
      refine lv_lload_n F.1 F.2.1 d_Va_compute_111 rfl (lv_at hl 0 rfl) ?_
      obtain ⟨h53, hw⟩ := hw
      refine fi_ldivW F d_Va_compute_112 (jwl_eq (M51 322 v2.toNat)) (jwl_eq r52) (jwl_rg (M51 322 v2.toNat)) (jwl_rg r52) h53 ?_
      refine fm_sL F w 324 T_324 (by decide) h50  d_Va_compute_113 (fun M54 hM54 H locs w => ?_)
      have hw := hw M54 hM54
      refine lv_aload_n F.1 F.2.1 d_Va_compute_114 rfl (lv_at hl 1 rfl) ?_
      refine fm_gO F w cl_Va 141 6 325 T_141 (by decide) rfl rfl k_294 d_Va_compute_115 ?_
      refine lv_iload_n F.1 F.2.1 d_Va_compute_118 rfl (lv_at hl 2 rfl) ?_
      refine lv_aload_n F.1 F.2.1 d_Va_compute_119 rfl (lv_at hl 1 rfl) ?_
      refine fm_gO F w cl_Va 141 2 312 T_141 (by decide) rfl rfl k_288 d_Va_compute_120 ?_
      refine fm_gL F w cl_Eq 312 2 T_312 (by decide) rfl k_276 d_Va_compute_123 ?_
      refine lv_lload_n F.1 F.2.1 d_Va_compute_126 rfl (lv_at hl 0 rfl) ?_
      refine fi_ldivW F d_Va_compute_127 (jwl_eq (M54 312 2)) (jwl_eq r52) (jwl_rg (M54 312 2)) (jwl_rg r52) h53 ?_
      refine fm_sL F w 325 T_325 (by decide) h50  d_Va_compute_128 (fun M55 hM55 H locs w => ?_)
      have hw := hw M55 hM55
      refine fi_iinc (k := 2) (v := (v2 + 1)) F d_Va_compute_129 hl rfl rfl (by decide) rfl (fun ls hl => ?_)
      have hl : lv_has ls 5 [(2, .int (Int32.ofInt (v2 + 1))), (3, .long (Int64.ofInt r52)), (0, .ref (ad 141))] := hl
      refine lv_goto F.1 F.2.1 d_Va_compute_132 (tgt := 66) (by decide) ?_
      exact hJ_66 M55 (v2 + 1) hw H locs ls w (lv_sub hl [2, 0] rfl)
  have blk_66 : ∀ (M : fm_M) (v2 : Int), B_Va_compute_66 post thr M v2 → fx_G p l e { frames := 5, cells := 1, slots := 6, locals := 114 } s m ([.ref (ad 141)] : List Value).toArray below meth c D ad cA n0 3 post thr 5 M [(0, .ref (ad 141)), (2, .int (Int32.ofInt v2))] 66 [] := by
    intro M v2 hw
    obtain ⟨I, μ, hI, hB⟩ := hw
    have key : ∀ (q : Nat) (M : fm_M) (v2 : Int), μ M v2 < q → I M v2 → fx_G p l e { frames := 5, cells := 1, slots := 6, locals := 114 } s m ([.ref (ad 141)] : List Value).toArray below meth c D ad cA n0 3 post thr 5 M [(0, .ref (ad 141)), (2, .int (Int32.ofInt v2))] 66 [] := by
      intro q
      induction q with
      | zero => intro M v2 h _; exact absurd h (Nat.not_lt_zero _)
      | succ q ih =>
        intro M v2 hμ hI
        exact blc_66 (fun M' v2' => I M' v2' ∧ μ M' v2' < μ M v2) M v2 (hB M v2 hI) (fun M' v2' hh => ih M' v2' (Nat.lt_of_lt_of_le hh.2 (Nat.le_of_lt_succ hμ)) hh.1)
    exact key _ M v2 (Nat.lt_succ_self _) hI
  have blk_64 : ∀ (M : fm_M), B_Va_compute_64 post thr M → fx_G p l e { frames := 5, cells := 1, slots := 6, locals := 114 } s m ([.ref (ad 141)] : List Value).toArray below meth c D ad cA n0 3 post thr 5 M [(0, .ref (ad 141))] 64 [] := by
    intro M hw H locs ls w hl
    refine lv_iconst (v := Int32.ofInt 0) F.1 F.2.1 d_Va_compute_64 (by decide) ?_
    refine lv_istore_n F.1 F.2.1 d_Va_compute_65 rfl hl (by decide) rfl (fun ls hl => ?_)
    have hl : lv_has ls 5 [(2, .int (Int32.ofInt 0)), (0, .ref (ad 141))] := hl
    exact blk_66 M 0 hw H locs ls w (lv_sub hl [1, 0] rfl)
  have blk_57 : ∀ (J_8 : (fm_M → Int → Int → Prop)) (M : fm_M) (v2 : Int) (s0 : Int), B_Va_compute_57 post thr J_8 M v2 s0 → (∀ (M : fm_M) (v1 : Int) (v2 : Int), J_8 M v1 v2 → fx_G p l e { frames := 5, cells := 1, slots := 6, locals := 114 } s m ([.ref (ad 141)] : List Value).toArray below meth c D ad cA n0 3 post thr 5 M [(0, .ref (ad 141)), (1, .int (Int32.ofInt v1)), (2, .int (Int32.ofInt v2))] 8 []) → fx_G p l e { frames := 5, cells := 1, slots := 6, locals := 114 } s m ([.ref (ad 141)] : List Value).toArray below meth c D ad cA n0 3 post thr 5 M [(0, .ref (ad 141)), (2, .int (Int32.ofInt v2))] 57 [.int (Int32.ofInt s0)] := by
    intro J_8 M v2 s0 hw hJ_8 H locs ls w hl
    refine lv_istore_n F.1 F.2.1 d_Va_compute_57 rfl hl (by decide) rfl (fun ls hl => ?_)
    have hl : lv_has ls 5 [(1, .int (Int32.ofInt s0)), (0, .ref (ad 141)), (2, .int (Int32.ofInt v2))] := hl
    refine fi_iinc (k := 2) (v := (v2 + 1)) F d_Va_compute_58 hl rfl rfl (by decide) rfl (fun ls hl => ?_)
    have hl : lv_has ls 5 [(2, .int (Int32.ofInt (v2 + 1))), (1, .int (Int32.ofInt s0)), (0, .ref (ad 141))] := hl
    refine lv_goto F.1 F.2.1 d_Va_compute_61 (tgt := 8) (by decide) ?_
    exact hJ_8 M s0 (v2 + 1) hw H locs ls w (lv_sub hl [2, 1, 0] rfl)
  have blk_52 : ∀ (J_8 : (fm_M → Int → Int → Prop)) (M : fm_M) (v2 : Int), B_Va_compute_52 post thr J_8 M v2 → (∀ (M : fm_M) (v1 : Int) (v2 : Int), J_8 M v1 v2 → fx_G p l e { frames := 5, cells := 1, slots := 6, locals := 114 } s m ([.ref (ad 141)] : List Value).toArray below meth c D ad cA n0 3 post thr 5 M [(0, .ref (ad 141)), (1, .int (Int32.ofInt v1)), (2, .int (Int32.ofInt v2))] 8 []) → fx_G p l e { frames := 5, cells := 1, slots := 6, locals := 114 } s m ([.ref (ad 141)] : List Value).toArray below meth c D ad cA n0 3 post thr 5 M [(0, .ref (ad 141)), (2, .int (Int32.ofInt v2))] 52 [] := by
    intro J_8 M v2 hw hJ_8 H locs ls w hl
    refine lv_iconst (v := Int32.ofInt 1) F.1 F.2.1 d_Va_compute_52 (by decide) ?_
    refine lv_goto F.1 F.2.1 d_Va_compute_53 (tgt := 57) (by decide) ?_
    exact blk_57 J_8 M v2 1 hw hJ_8 H locs ls w (lv_sub hl [0, 1] rfl)
  have blc_8 : ∀ (J_8 : (fm_M → Int → Int → Prop)) (M : fm_M) (v1 : Int) (v2 : Int), C_Va_compute_8 post thr J_8 M v1 v2 → (∀ (M : fm_M) (v1 : Int) (v2 : Int), J_8 M v1 v2 → fx_G p l e { frames := 5, cells := 1, slots := 6, locals := 114 } s m ([.ref (ad 141)] : List Value).toArray below meth c D ad cA n0 3 post thr 5 M [(0, .ref (ad 141)), (1, .int (Int32.ofInt v1)), (2, .int (Int32.ofInt v2))] 8 []) → fx_G p l e { frames := 5, cells := 1, slots := 6, locals := 114 } s m ([.ref (ad 141)] : List Value).toArray below meth c D ad cA n0 3 post thr 5 M [(0, .ref (ad 141)), (1, .int (Int32.ofInt v1)), (2, .int (Int32.ofInt v2))] 8 [] := by
    intro J_8 M v1 v2 hw hJ_8 H locs ls w hl
    refine lv_iload_n F.1 F.2.1 d_Va_compute_8 rfl (lv_at hl 2 rfl) ?_
    refine lv_ldc (v := Int32.ofInt 1000000) F.1 F.2.1 F.2.2.2.1 (F.2.2.2.2 _ k_703) d_Va_compute_9 ?_
    obtain ⟨h56, hw⟩ := hw
    refine fi_icmp_ge F d_Va_compute_11 (tgt := 64) (by decide) h56 (rgl (by decide)) (fun hc57 => ?_) (fun hc57 => ?_)
    · have hw := hw.1 hc57
      exact blk_64 M hw H locs ls w (lv_sub hl [0] rfl)
    · have hw := hw.2 hc57
      refine lv_iload_n F.1 F.2.1 d_Va_compute_14 rfl (lv_at hl 1 rfl) ?_
      obtain ⟨h58, hw⟩ := hw
      refine fi_if_eq F d_Va_compute_15 (tgt := 64) (by decide) h58 (fun hc59 => ?_) (fun hc59 => ?_)
      · have hw := hw.1 hc59
        exact blk_64 M hw H locs ls w (lv_sub hl [0] rfl)
      · have hw := hw.2 hc59
        refine lv_aload_n F.1 F.2.1 d_Va_compute_18 rfl (lv_at hl 0 rfl) ?_
        refine fx_c w hno hlk (fx_rV (As := []) (rest := []) F w cl_Va 141 T_141 (met_Va_setEquations l hst9 D ad cA n0 M _ thr hw) e_Va_setEquations ki_Va_setEquations ks_Va_setEquations k_704 rfl hl.1 rfl (Nat.le_of_ble_eq_true rfl) ⟨⟨Nat.le_of_ble_eq_true rfl, Nat.le_of_ble_eq_true rfl⟩, Nat.le_of_ble_eq_true rfl, Nat.le_of_ble_eq_true rfl⟩ d_Va_compute_19) (fun r61 M60 hw H locs w => ?_)
        refine lv_aload_n F.1 F.2.1 d_Va_compute_22 rfl (lv_at hl 0 rfl) ?_
        refine fm_gO F w cl_Va 141 2 312 T_141 (by decide) rfl rfl k_288 d_Va_compute_23 ?_
        refine lv_aload_n F.1 F.2.1 d_Va_compute_26 rfl (lv_at hl 0 rfl) ?_
        refine fm_gO F w cl_Va 141 0 142 T_141 (by decide) rfl rfl k_285 d_Va_compute_27 ?_
        refine fm_gI F w cl_Fo 142 1 T_142 (by decide) rfl k_206 d_Va_compute_30 ?_
        refine fx_c w hno hlk (fx_rV (As := [.int (Int32.ofInt (M60 142 1))]) (rest := []) F w cl_Eq 312 T_312 (met_Eq_solveFor l hst9 D ad cA n0 M60 (M60 142 1) _ thr hw) e_Eq_solveFor ki_Eq_solveFor ks_Eq_solveFor k_722 rfl hl.1 rfl (Nat.le_of_ble_eq_true rfl) ⟨⟨Nat.le_of_ble_eq_true rfl, Nat.le_of_ble_eq_true rfl⟩, Nat.le_of_ble_eq_true rfl, Nat.le_of_ble_eq_true rfl⟩ d_Va_compute_33) (fun r63 M62 hw H locs w => ?_)
        refine lv_aload_n F.1 F.2.1 d_Va_compute_36 rfl (lv_at hl 0 rfl) ?_
        refine lv_iconst (v := Int32.ofInt 0) F.1 F.2.1 d_Va_compute_37 (by decide) ?_
        refine fx_c w hno hlk (fx_rV (As := [.int (Int32.ofInt 0)]) (rest := []) F w cl_Va 141 T_141 (met_Va_improve l hst9 D ad cA n0 M62 0 _ thr hw) e_Va_improve ki_Va_improve ks_Va_improve k_730 rfl hl.1 rfl (Nat.le_of_ble_eq_true rfl) ⟨⟨Nat.le_of_ble_eq_true rfl, Nat.le_of_ble_eq_true rfl⟩, Nat.le_of_ble_eq_true rfl, Nat.le_of_ble_eq_true rfl⟩ d_Va_compute_38) (fun r65 M64 hw H locs w => ?_)
        show W p l e _ s m _ below meth c H locs 0 0 _ (F0 m 41 ls [.int (Int32.ofInt r65)])
        obtain ⟨h66, hw⟩ := hw
        refine fi_if_ne F d_Va_compute_41 (tgt := 52) (by decide) h66 (fun hc67 => ?_) (fun hc67 => ?_)
        · have hw := hw.1 hc67
          exact blk_52 J_8 M64 v2 hw hJ_8 H locs ls w (lv_sub hl [0, 2] rfl)
        · have hw := hw.2 hc67
          refine lv_aload_n F.1 F.2.1 d_Va_compute_44 rfl (lv_at hl 0 rfl) ?_
          refine lv_iconst (v := Int32.ofInt 1) F.1 F.2.1 d_Va_compute_45 (by decide) ?_
          refine fx_c w hno hlk (fx_rV (As := [.int (Int32.ofInt 1)]) (rest := []) F w cl_Va 141 T_141 (met_Va_improve l hst9 D ad cA n0 M64 1 _ thr hw) e_Va_improve ki_Va_improve ks_Va_improve k_730 rfl hl.1 rfl (Nat.le_of_ble_eq_true rfl) ⟨⟨Nat.le_of_ble_eq_true rfl, Nat.le_of_ble_eq_true rfl⟩, Nat.le_of_ble_eq_true rfl, Nat.le_of_ble_eq_true rfl⟩ d_Va_compute_46) (fun r69 M68 hw H locs w => ?_)
          show W p l e _ s m _ below meth c H locs 0 0 _ (F0 m 49 ls [.int (Int32.ofInt r69)])
          obtain ⟨h70, hw⟩ := hw
          refine fi_if_eq F d_Va_compute_49 (tgt := 56) (by decide) h70 (fun hc71 => ?_) (fun hc71 => ?_)
          · have hw := hw.1 hc71
            refine lv_iconst (v := Int32.ofInt 0) F.1 F.2.1 d_Va_compute_56 (by decide) ?_
            exact blk_57 J_8 M68 v2 0 hw hJ_8 H locs ls w (lv_sub hl [0, 2] rfl)
          · have hw := hw.2 hc71
            exact blk_52 J_8 M68 v2 hw hJ_8 H locs ls w (lv_sub hl [0, 2] rfl)
  have blk_8 : ∀ (M : fm_M) (v1 : Int) (v2 : Int), B_Va_compute_8 post thr M v1 v2 → fx_G p l e { frames := 5, cells := 1, slots := 6, locals := 114 } s m ([.ref (ad 141)] : List Value).toArray below meth c D ad cA n0 3 post thr 5 M [(0, .ref (ad 141)), (1, .int (Int32.ofInt v1)), (2, .int (Int32.ofInt v2))] 8 [] := by
    intro M v1 v2 hw
    obtain ⟨I, μ, hI, hB⟩ := hw
    have key : ∀ (q : Nat) (M : fm_M) (v1 : Int) (v2 : Int), μ M v1 v2 < q → I M v1 v2 → fx_G p l e { frames := 5, cells := 1, slots := 6, locals := 114 } s m ([.ref (ad 141)] : List Value).toArray below meth c D ad cA n0 3 post thr 5 M [(0, .ref (ad 141)), (1, .int (Int32.ofInt v1)), (2, .int (Int32.ofInt v2))] 8 [] := by
      intro q
      induction q with
      | zero => intro M v1 v2 h _; exact absurd h (Nat.not_lt_zero _)
      | succ q ih =>
        intro M v1 v2 hμ hI
        exact blc_8 (fun M' v1' v2' => I M' v1' v2' ∧ μ M' v1' v2' < μ M v1 v2) M v1 v2 (hB M v1 v2 hI) (fun M' v1' v2' hh => ih M' v1' v2' (Nat.lt_of_lt_of_le hh.2 (Nat.le_of_lt_succ hμ)) hh.1)
    exact key _ M v1 v2 (Nat.lt_succ_self _) hI
  have hl : lv_has ls 5 [(0, .ref (ad 141))] := hl
  suffices h9 : fx_G p l e { frames := 5, cells := 1, slots := 6, locals := 114 } s m ([.ref (ad 141)] : List Value).toArray below meth c D ad cA n0 3 post thr 5 M [(0, .ref (ad 141))] 0 [] from h9 _ _ _ w hl
  intro H locs ls w hl
  refine lv_aload_n F.1 F.2.1 d_Va_compute_0 rfl (lv_at hl 0 rfl) ?_
  refine fx_c w hno hlk (fx_rV (As := []) (rest := []) F w cl_Va 141 T_141 (met_Va_chooseFirst l hst9 D ad cA n0 M _ thr hw) e_Va_chooseFirst ki_Va_chooseFirst ks_Va_chooseFirst k_676 rfl hl.1 rfl (Nat.le_of_ble_eq_true rfl) ⟨⟨Nat.le_of_ble_eq_true rfl, Nat.le_of_ble_eq_true rfl⟩, Nat.le_of_ble_eq_true rfl, Nat.le_of_ble_eq_true rfl⟩ d_Va_compute_1) (fun r73 M72 hw H locs w => ?_)
  refine lv_iconst (v := Int32.ofInt 1) F.1 F.2.1 d_Va_compute_4 (by decide) ?_
  refine lv_istore_n F.1 F.2.1 d_Va_compute_5 rfl hl (by decide) rfl (fun ls hl => ?_)
  have hl : lv_has ls 5 [(1, .int (Int32.ofInt 1)), (0, .ref (ad 141))] := hl
  refine lv_iconst (v := Int32.ofInt 0) F.1 F.2.1 d_Va_compute_6 (by decide) ?_
  refine lv_istore_n F.1 F.2.1 d_Va_compute_7 rfl hl (by decide) rfl (fun ls hl => ?_)
  have hl : lv_has ls 5 [(2, .int (Int32.ofInt 0)), (1, .int (Int32.ofInt 1)), (0, .ref (ad 141))] := hl
  exact blk_8 M72 1 0 hw H locs ls w (lv_sub hl [2, 1, 0] rfl)
set_option maxHeartbeats 4000000 in
set_option maxRecDepth 100000 in
theorem met_Va_isTight (l : Launch) (hst9 : l.stackTraces = false) (D : va_G) (ad : Nat → Nat) (cA : Nat → ClassId) (n0 : Nat) (M : fm_M) (a1 : Int) (a2 : Int) (post : Int → fm_M → Prop) (thr : String → fm_M → Prop) (hw : wp_Va_isTight M a1 a2 post thr) : fx_Met l y_Va_isTight (Cond.code y_Va_isTight b_Va_isTight 3 (some .boolean) :: tb) { frames := 2, cells := 1, slots := 6, locals := 49 } [.ref (ad 141), .int (Int32.ofInt a1), .int (Int32.ofInt a2)] D ad cA n0 M 0 post thr := by
  refine fx_met (by decide) (Nat.le_of_ble_eq_true rfl) (fun p e s m below meth c ls F w hno hr hlk hl => ?_)
  have hl : lv_has ls 3 [(0, .ref (ad 141)), (1, .int (Int32.ofInt a1)), (2, .int (Int32.ofInt a2))] := hl
  suffices h9 : fx_G p l e { frames := 2, cells := 1, slots := 6, locals := 49 } s m ([.ref (ad 141), .int (Int32.ofInt a1), .int (Int32.ofInt a2)] : List Value).toArray below meth c D ad cA n0 0 post thr 3 M [(0, .ref (ad 141)), (1, .int (Int32.ofInt a1)), (2, .int (Int32.ofInt a2))] 0 [] from h9 _ _ _ w hl
  intro H locs ls w hl
  refine lv_aload_n F.1 F.2.1 d_Va_isTight_0 rfl (lv_at hl 0 rfl) ?_
  refine lv_iload_n F.1 F.2.1 d_Va_isTight_1 rfl (lv_at hl 1 rfl) ?_
  refine lv_iload_n F.1 F.2.1 d_Va_isTight_2 rfl (lv_at hl 2 rfl) ?_
  refine fx_c w hno hlk (fx_rV (As := [.int (Int32.ofInt a1), .int (Int32.ofInt a2)]) (rest := []) F w cl_Va 141 T_141 (met_Va_weigh l hst9 D ad cA n0 M a1 a2 _ thr hw) e_Va_weigh ki_Va_weigh ks_Va_weigh k_738 rfl hl.1 rfl (Nat.le_of_ble_eq_true rfl) ⟨⟨Nat.le_of_ble_eq_true rfl, Nat.le_of_ble_eq_true rfl⟩, Nat.le_of_ble_eq_true rfl, Nat.le_of_ble_eq_true rfl⟩ d_Va_isTight_3) (fun r11 M10 hw H locs w => ?_)
  show W p l e _ s m _ below meth c H locs 0 0 _ (F0 m 6 ls [.long (Int64.ofInt r11)])
  refine lv_aload_n F.1 F.2.1 d_Va_isTight_6 rfl (lv_at hl 0 rfl) ?_
  refine fm_gO F w cl_Va 141 0 142 T_141 (by decide) rfl rfl k_285 d_Va_isTight_7 ?_
  refine fm_gR F w cl_Fo 142 0 T_142 (by decide) rfl k_200 d_Va_isTight_10 ?_
  obtain ⟨h12, hw⟩ := hw
  refine fm_gO F w cl_Gm ((M10 142 0).toNat) 2 (((M10 142 0).toNat) + 3) h12 (by decide) rfl rfl k_143 d_Va_isTight_13 ?_
  refine lv_iload_n F.1 F.2.1 d_Va_isTight_16 rfl (lv_at hl 2 rfl) ?_
  obtain ⟨h13, hw⟩ := hw
  obtain ⟨h14, hw⟩ := hw
  refine fm_aR F w (((M10 142 0).toNat) + 3) 2 ((((M10 142 0).toNat) + 3) + 4 + 13 * a2.toNat) h13 rfl (by decide) h14 rfl d_Va_isTight_17 ?_
  obtain ⟨h15, hw⟩ := hw
  refine fm_gI F w cl_Cm ((((M10 142 0).toNat) + 3) + 4 + 13 * a2.toNat) 4 h15 (by decide) rfl k_123 d_Va_isTight_18 ?_
  obtain ⟨h16, hw⟩ := hw
  refine fi_wi2l F d_Va_isTight_21 h16 ?_
  refine lv_aload_n F.1 F.2.1 d_Va_isTight_22 rfl (lv_at hl 0 rfl) ?_
  refine fm_gO F w cl_Va 141 2 312 T_141 (by decide) rfl rfl k_288 d_Va_isTight_23 ?_
  refine fm_gO F w cl_Eq 312 1 322 T_312 (by decide) rfl rfl k_274 d_Va_isTight_26 ?_
  refine lv_iload_n F.1 F.2.1 d_Va_isTight_29 rfl (lv_at hl 1 rfl) ?_
  obtain ⟨h17, hw⟩ := hw
  refine fm_aL F w 322 T_322 (by decide) h17 d_Va_isTight_30 ?_
  refine fi_lmul F d_Va_isTight_31 ?_
  refine fi_lcmpW F d_Va_isTight_32 (jwl_eq r11) (jwl_eq ((M10 ((((M10 142 0).toNat) + 3) + 4 + 13 * a2.toNat) 4) * (M10 322 a1.toNat))) (jwl_rg r11) (jwl_rg ((M10 ((((M10 142 0).toNat) + 3) + 4 + 13 * a2.toNat) 4) * (M10 322 a1.toNat))) ?_
  refine fi_if_ne F d_Va_isTight_33 (tgt := 40) (by decide) rg_jcmp (fun hc18 => ?_) (fun hc18 => ?_)
  · have hw := hw.1 hc18
    refine lv_iconst (v := Int32.ofInt 0) F.1 F.2.1 d_Va_isTight_40 (by decide) ?_
    exact fx_zret F w hr hlk (fx_nz (by decide)) hw d_Va_isTight_41
  · have hw := hw.2 hc18
    refine lv_iconst (v := Int32.ofInt 1) F.1 F.2.1 d_Va_isTight_36 (by decide) ?_
    refine lv_goto F.1 F.2.1 d_Va_isTight_37 (tgt := 41) (by decide) ?_
    exact fx_zret F w hr hlk (fx_nz (by decide)) hw d_Va_isTight_41
set_option maxHeartbeats 4000000 in
set_option maxRecDepth 100000 in
theorem met_Go_tightChoices (l : Launch) (hst9 : l.stackTraces = false) (D : va_G) (ad : Nat → Nat) (cA : Nat → ClassId) (n0 : Nat) (M : fm_M) (a2 : Int) (post : Int → fm_M → Prop) (thr : String → fm_M → Prop) (hw : wp_Go_tightChoices M a2 post thr) : fx_Met l y_Go_tightChoices (Cond.code y_Go_tightChoices b_Go_tightChoices 5 (some .int) :: tb) { frames := 3, cells := 1, slots := 6, locals := 71 } [.ref (ad 142), .ref (ad 141), .int (Int32.ofInt a2)] D ad cA n0 M 0 post thr := by
  refine fx_met (by decide) (Nat.le_of_ble_eq_true rfl) (fun p e s m below meth c ls F w hno hr hlk hl => ?_)
  have blc_5 : ∀ (J_5 : (fm_M → Int → Int → Prop)) (M : fm_M) (v3 : Int) (v4 : Int), C_Go_tightChoices_5 a2 post thr J_5 M v3 v4 → (∀ (M : fm_M) (v3 : Int) (v4 : Int), J_5 M v3 v4 → fx_G p l e { frames := 3, cells := 1, slots := 6, locals := 71 } s m ([.ref (ad 142), .ref (ad 141), .int (Int32.ofInt a2)] : List Value).toArray below meth c D ad cA n0 0 post thr 5 M [(0, .ref (ad 142)), (1, .ref (ad 141)), (2, .int (Int32.ofInt a2)), (3, .int (Int32.ofInt v3)), (4, .int (Int32.ofInt v4))] 5 []) → fx_G p l e { frames := 3, cells := 1, slots := 6, locals := 71 } s m ([.ref (ad 142), .ref (ad 141), .int (Int32.ofInt a2)] : List Value).toArray below meth c D ad cA n0 0 post thr 5 M [(0, .ref (ad 142)), (1, .ref (ad 141)), (2, .int (Int32.ofInt a2)), (3, .int (Int32.ofInt v3)), (4, .int (Int32.ofInt v4))] 5 [] := by
    intro J_5 M v3 v4 hw hJ_5 H locs ls w hl
    refine lv_iload F.1 F.2.1 d_Go_tightChoices_5 (lv_at hl 4 rfl) ?_
    refine lv_aload_n F.1 F.2.1 d_Go_tightChoices_7 rfl (lv_at hl 0 rfl) ?_
    refine fm_gR F w cl_Fo 142 0 T_142 (by decide) rfl k_199 d_Go_tightChoices_8 ?_
    obtain ⟨h42, hw⟩ := hw
    refine fm_gI F w cl_Gm ((M 142 0).toNat) 4 h42 (by decide) rfl k_151 d_Go_tightChoices_11 ?_
    obtain ⟨h43, hw⟩ := hw
    obtain ⟨h44, hw⟩ := hw
    refine fi_icmp_ge F d_Go_tightChoices_14 (tgt := 53) (by decide) h43 h44 (fun hc45 => ?_) (fun hc45 => ?_)
    · have hw := hw.1 hc45
      refine lv_iload_n F.1 F.2.1 d_Go_tightChoices_53 rfl (lv_at hl 3 rfl) ?_
      exact fx_iret F w hr hlk hw d_Go_tightChoices_54
    · have hw := hw.2 hc45
      refine lv_aload_n F.1 F.2.1 d_Go_tightChoices_17 rfl (lv_at hl 0 rfl) ?_
      refine lv_iload_n F.1 F.2.1 d_Go_tightChoices_18 rfl (lv_at hl 2 rfl) ?_
      refine fx_c w hno hlk (fx_rV (As := [.int (Int32.ofInt a2)]) (rest := []) F w cl_Fo 142 T_142 (met_Fo_choicesOf l hst9 D ad cA n0 M a2 _ thr hw) e_Fo_choicesOf ki_Fo_choicesOf ks_Fo_choicesOf k_752 rfl hl.1 rfl (Nat.le_of_ble_eq_true rfl) ⟨⟨Nat.le_of_ble_eq_true rfl, Nat.le_of_ble_eq_true rfl⟩, Nat.le_of_ble_eq_true rfl, Nat.le_of_ble_eq_true rfl⟩ d_Go_tightChoices_19) (fun r47 M46 hw H locs w => ?_)
      show W p l e _ s m _ below meth c H locs 0 0 _ (F0 m 22 ls [.int (Int32.ofInt r47)])
      refine lv_iload F.1 F.2.1 d_Go_tightChoices_22 (lv_at hl 4 rfl) ?_
      refine fx_c w hno hlk (fx_rSN (As := [.int (Int32.ofInt r47), .int (Int32.ofInt v4)]) (rest := []) F w (met_CG_hasBit l hst9 D ad cA n0 M46 r47 v4 _ thr hw) e_CG_hasBit kt_CG_hasBit k_753 rfl hl.1 rfl (Nat.le_of_ble_eq_true rfl) ⟨⟨Nat.le_of_ble_eq_true rfl, Nat.le_of_ble_eq_true rfl⟩, Nat.le_of_ble_eq_true rfl, Nat.le_of_ble_eq_true rfl⟩ d_Go_tightChoices_24) (fun r49 M48 hw H locs w => ?_)
      show W p l e _ s m _ below meth c H locs 0 0 _ (F0 m 27 ls [.int (Int32.ofInt r49)])
      obtain ⟨h50, hw⟩ := hw
      refine fi_if_eq F d_Go_tightChoices_27 (tgt := 47) (by decide) h50 (fun hc51 => ?_) (fun hc51 => ?_)
      · have hw := hw.1 hc51
        refine fi_iinc (k := 4) (v := (v4 + 1)) F d_Go_tightChoices_47 hl rfl rfl (by decide) rfl (fun ls hl => ?_)
        have hl : lv_has ls 5 [(4, .int (Int32.ofInt (v4 + 1))), (0, .ref (ad 142)), (1, .ref (ad 141)), (2, .int (Int32.ofInt a2)), (3, .int (Int32.ofInt v3))] := hl
        refine lv_goto F.1 F.2.1 d_Go_tightChoices_50 (tgt := 5) (by decide) ?_
        exact hJ_5 M48 v3 (v4 + 1) hw H locs ls w (lv_sub hl [1, 2, 3, 4, 0] rfl)
      · have hw := hw.2 hc51
        refine lv_aload_n F.1 F.2.1 d_Go_tightChoices_30 rfl (lv_at hl 1 rfl) ?_
        refine lv_iload_n F.1 F.2.1 d_Go_tightChoices_31 rfl (lv_at hl 2 rfl) ?_
        refine lv_iload F.1 F.2.1 d_Go_tightChoices_32 (lv_at hl 4 rfl) ?_
        refine fx_c w hno hlk (fx_rV (As := [.int (Int32.ofInt a2), .int (Int32.ofInt v4)]) (rest := []) F w cl_Va 141 T_141 (met_Va_isTight l hst9 D ad cA n0 M48 a2 v4 _ thr hw) e_Va_isTight ki_Va_isTight ks_Va_isTight k_754 rfl hl.1 rfl (Nat.le_of_ble_eq_true rfl) ⟨⟨Nat.le_of_ble_eq_true rfl, Nat.le_of_ble_eq_true rfl⟩, Nat.le_of_ble_eq_true rfl, Nat.le_of_ble_eq_true rfl⟩ d_Go_tightChoices_34) (fun r53 M52 hw H locs w => ?_)
        show W p l e _ s m _ below meth c H locs 0 0 _ (F0 m 37 ls [.int (Int32.ofInt r53)])
        obtain ⟨h54, hw⟩ := hw
        refine fi_if_eq F d_Go_tightChoices_37 (tgt := 47) (by decide) h54 (fun hc55 => ?_) (fun hc55 => ?_)
        · have hw := hw.1 hc55
          refine fi_iinc (k := 4) (v := (v4 + 1)) F d_Go_tightChoices_47 hl rfl rfl (by decide) rfl (fun ls hl => ?_)
          have hl : lv_has ls 5 [(4, .int (Int32.ofInt (v4 + 1))), (0, .ref (ad 142)), (1, .ref (ad 141)), (2, .int (Int32.ofInt a2)), (3, .int (Int32.ofInt v3))] := hl
          refine lv_goto F.1 F.2.1 d_Go_tightChoices_50 (tgt := 5) (by decide) ?_
          exact hJ_5 M52 v3 (v4 + 1) hw H locs ls w (lv_sub hl [1, 2, 3, 4, 0] rfl)
        · have hw := hw.2 hc55
          refine lv_iload_n F.1 F.2.1 d_Go_tightChoices_40 rfl (lv_at hl 3 rfl) ?_
          refine lv_iconst (v := Int32.ofInt 1) F.1 F.2.1 d_Go_tightChoices_41 (by decide) ?_
          refine lv_iload F.1 F.2.1 d_Go_tightChoices_42 (lv_at hl 4 rfl) ?_
          refine fi_ishl F d_Go_tightChoices_44 ?_
          refine fi_ior F d_Go_tightChoices_45 ?_
          refine lv_istore_n F.1 F.2.1 d_Go_tightChoices_46 rfl hl (by decide) rfl (fun ls hl => ?_)
          have hl : lv_has ls 5 [(3, .int (Int32.ofInt (jor v3 (jshl 1 v4)))), (0, .ref (ad 142)), (1, .ref (ad 141)), (2, .int (Int32.ofInt a2)), (4, .int (Int32.ofInt v4))] := hl
          refine fi_iinc (k := 4) (v := (v4 + 1)) F d_Go_tightChoices_47 hl rfl rfl (by decide) rfl (fun ls hl => ?_)
          have hl : lv_has ls 5 [(4, .int (Int32.ofInt (v4 + 1))), (3, .int (Int32.ofInt (jor v3 (jshl 1 v4)))), (0, .ref (ad 142)), (1, .ref (ad 141)), (2, .int (Int32.ofInt a2))] := hl
          refine lv_goto F.1 F.2.1 d_Go_tightChoices_50 (tgt := 5) (by decide) ?_
          exact hJ_5 M52 (jor v3 (jshl 1 v4)) (v4 + 1) hw H locs ls w (lv_sub hl [2, 3, 4, 1, 0] rfl)
  have blk_5 : ∀ (M : fm_M) (v3 : Int) (v4 : Int), B_Go_tightChoices_5 a2 post thr M v3 v4 → fx_G p l e { frames := 3, cells := 1, slots := 6, locals := 71 } s m ([.ref (ad 142), .ref (ad 141), .int (Int32.ofInt a2)] : List Value).toArray below meth c D ad cA n0 0 post thr 5 M [(0, .ref (ad 142)), (1, .ref (ad 141)), (2, .int (Int32.ofInt a2)), (3, .int (Int32.ofInt v3)), (4, .int (Int32.ofInt v4))] 5 [] := by
    intro M v3 v4 hw
    obtain ⟨I, μ, hI, hB⟩ := hw
    have key : ∀ (q : Nat) (M : fm_M) (v3 : Int) (v4 : Int), μ M v3 v4 < q → I M v3 v4 → fx_G p l e { frames := 3, cells := 1, slots := 6, locals := 71 } s m ([.ref (ad 142), .ref (ad 141), .int (Int32.ofInt a2)] : List Value).toArray below meth c D ad cA n0 0 post thr 5 M [(0, .ref (ad 142)), (1, .ref (ad 141)), (2, .int (Int32.ofInt a2)), (3, .int (Int32.ofInt v3)), (4, .int (Int32.ofInt v4))] 5 [] := by
      intro q
      induction q with
      | zero => intro M v3 v4 h _; exact absurd h (Nat.not_lt_zero _)
      | succ q ih =>
        intro M v3 v4 hμ hI
        exact blc_5 (fun M' v3' v4' => I M' v3' v4' ∧ μ M' v3' v4' < μ M v3 v4) M v3 v4 (hB M v3 v4 hI) (fun M' v3' v4' hh => ih M' v3' v4' (Nat.lt_of_lt_of_le hh.2 (Nat.le_of_lt_succ hμ)) hh.1)
    exact key _ M v3 v4 (Nat.lt_succ_self _) hI
  have hl : lv_has ls 5 [(0, .ref (ad 142)), (1, .ref (ad 141)), (2, .int (Int32.ofInt a2))] := hl
  suffices h9 : fx_G p l e { frames := 3, cells := 1, slots := 6, locals := 71 } s m ([.ref (ad 142), .ref (ad 141), .int (Int32.ofInt a2)] : List Value).toArray below meth c D ad cA n0 0 post thr 5 M [(0, .ref (ad 142)), (1, .ref (ad 141)), (2, .int (Int32.ofInt a2))] 0 [] from h9 _ _ _ w hl
  intro H locs ls w hl
  refine lv_iconst (v := Int32.ofInt 0) F.1 F.2.1 d_Go_tightChoices_0 (by decide) ?_
  refine lv_istore_n F.1 F.2.1 d_Go_tightChoices_1 rfl hl (by decide) rfl (fun ls hl => ?_)
  have hl : lv_has ls 5 [(3, .int (Int32.ofInt 0)), (0, .ref (ad 142)), (1, .ref (ad 141)), (2, .int (Int32.ofInt a2))] := hl
  refine lv_iconst (v := Int32.ofInt 0) F.1 F.2.1 d_Go_tightChoices_2 (by decide) ?_
  refine lv_istore F.1 F.2.1 d_Go_tightChoices_3 hl (by decide) rfl (fun ls hl => ?_)
  have hl : lv_has ls 5 [(4, .int (Int32.ofInt 0)), (3, .int (Int32.ofInt 0)), (0, .ref (ad 142)), (1, .ref (ad 141)), (2, .int (Int32.ofInt a2))] := hl
  exact blk_5 M 0 0 hw H locs ls w (lv_sub hl [2, 3, 4, 1, 0] rfl)
set_option maxHeartbeats 4000000 in
set_option maxRecDepth 100000 in
theorem met_Go_chooseForMax (l : Launch) (hst9 : l.stackTraces = false) (D : va_G) (ad : Nat → Nat) (cA : Nat → ClassId) (n0 : Nat) (M : fm_M) (a2 : Int) (a3 : Int) (post : Int → fm_M → Prop) (thr : String → fm_M → Prop) (hw : wp_Go_chooseForMax M a2 a3 post thr) : fx_Met l y_Go_chooseForMax (Cond.code y_Go_chooseForMax b_Go_chooseForMax 7 none :: tb) { frames := 4, cells := 1, slots := 6, locals := 93 } [.ref (ad 326), .ref (ad 142), .int (Int32.ofInt a2), .int (Int32.ofInt a3)] D ad cA n0 M 3 post thr := by
  refine fx_met (by decide) (Nat.le_of_ble_eq_true rfl) (fun p e s m below meth c ls F w hno hr hlk hl => ?_)
  have blc_31 : ∀ (J_31 : (fm_M → Int → Int → Int → Prop)) (M : fm_M) (v4 : Int) (v5 : Int) (v6 : Int), C_Go_chooseForMax_31 a2 a3 post thr J_31 M v4 v5 v6 → (∀ (M : fm_M) (v4 : Int) (v5 : Int) (v6 : Int), J_31 M v4 v5 v6 → fx_G p l e { frames := 4, cells := 1, slots := 6, locals := 93 } s m ([.ref (ad 326), .ref (ad 142), .int (Int32.ofInt a2), .int (Int32.ofInt a3)] : List Value).toArray below meth c D ad cA n0 3 post thr 7 M [(0, .ref (ad 326)), (1, .ref (ad 142)), (2, .int (Int32.ofInt a2)), (3, .int (Int32.ofInt a3)), (4, .int (Int32.ofInt v4)), (5, .int (Int32.ofInt v5)), (6, .int (Int32.ofInt v6))] 31 []) → fx_G p l e { frames := 4, cells := 1, slots := 6, locals := 93 } s m ([.ref (ad 326), .ref (ad 142), .int (Int32.ofInt a2), .int (Int32.ofInt a3)] : List Value).toArray below meth c D ad cA n0 3 post thr 7 M [(0, .ref (ad 326)), (1, .ref (ad 142)), (2, .int (Int32.ofInt a2)), (3, .int (Int32.ofInt a3)), (4, .int (Int32.ofInt v4)), (5, .int (Int32.ofInt v5)), (6, .int (Int32.ofInt v6))] 31 [] := by
    intro J_31 M v4 v5 v6 hw hJ_31 H locs ls w hl
    refine lv_iload F.1 F.2.1 d_Go_chooseForMax_31 (lv_at hl 6 rfl) ?_
    refine lv_aload_n F.1 F.2.1 d_Go_chooseForMax_33 rfl (lv_at hl 1 rfl) ?_
    refine fm_gR F w cl_Fo 142 0 T_142 (by decide) rfl k_199 d_Go_chooseForMax_34 ?_
    obtain ⟨h38, hw⟩ := hw
    refine fm_gI F w cl_Gm ((M 142 0).toNat) 4 h38 (by decide) rfl k_151 d_Go_chooseForMax_37 ?_
    obtain ⟨h39, hw⟩ := hw
    obtain ⟨h40, hw⟩ := hw
    refine fi_icmp_ge F d_Go_chooseForMax_40 (tgt := 104) (by decide) h39 h40 (fun hc41 => ?_) (fun hc41 => ?_)
    · have hw := hw.1 hc41
      exact fx_vret F w hr hlk hw d_Go_chooseForMax_104
    · have hw := hw.2 hc41
      refine lv_aload_n F.1 F.2.1 d_Go_chooseForMax_43 rfl (lv_at hl 0 rfl) ?_
      refine fm_gO F w cl_Go 326 1 330 T_326 (by decide) rfl rfl k_320 d_Go_chooseForMax_44 ?_
      refine lv_iload_n F.1 F.2.1 d_Go_chooseForMax_47 rfl (lv_at hl 2 rfl) ?_
      obtain ⟨h42, hw⟩ := hw
      refine fm_aI F w 330 T_330 (by decide) h42 d_Go_chooseForMax_48 ?_
      refine lv_iconst (v := Int32.ofInt (-1)) F.1 F.2.1 d_Go_chooseForMax_49 (by decide) ?_
      obtain ⟨h43, hw⟩ := hw
      refine fi_icmp_ne F d_Go_chooseForMax_50 (tgt := 104) (by decide) h43 (rgl (by decide)) (fun hc44 => ?_) (fun hc44 => ?_)
      · have hw := hw.1 hc44
        exact fx_vret F w hr hlk hw d_Go_chooseForMax_104
      · have hw := hw.2 hc44
        refine lv_iload F.1 F.2.1 d_Go_chooseForMax_53 (lv_at hl 5 rfl) ?_
        refine lv_iload F.1 F.2.1 d_Go_chooseForMax_55 (lv_at hl 6 rfl) ?_
        refine fx_c w hno hlk (fx_rSN (As := [.int (Int32.ofInt v5), .int (Int32.ofInt v6)]) (rest := []) F w (met_CG_hasBit l hst9 D ad cA n0 M v5 v6 _ thr hw) e_CG_hasBit kt_CG_hasBit k_753 rfl hl.1 rfl (Nat.le_of_ble_eq_true rfl) ⟨⟨Nat.le_of_ble_eq_true rfl, Nat.le_of_ble_eq_true rfl⟩, Nat.le_of_ble_eq_true rfl, Nat.le_of_ble_eq_true rfl⟩ d_Go_chooseForMax_57) (fun r46 M45 hw H locs w => ?_)
        show W p l e _ s m _ below meth c H locs 0 0 _ (F0 m 60 ls [.int (Int32.ofInt r46)])
        obtain ⟨h47, hw⟩ := hw
        refine fi_if_eq F d_Go_chooseForMax_60 (tgt := 98) (by decide) h47 (fun hc48 => ?_) (fun hc48 => ?_)
        · have hw := hw.1 hc48
          refine fi_iinc (k := 6) (v := (v6 + 1)) F d_Go_chooseForMax_98 hl rfl rfl (by decide) rfl (fun ls hl => ?_)
          have hl : lv_has ls 7 [(6, .int (Int32.ofInt (v6 + 1))), (0, .ref (ad 326)), (1, .ref (ad 142)), (2, .int (Int32.ofInt a2)), (3, .int (Int32.ofInt a3)), (4, .int (Int32.ofInt v4)), (5, .int (Int32.ofInt v5))] := hl
          refine lv_goto F.1 F.2.1 d_Go_chooseForMax_101 (tgt := 31) (by decide) ?_
          exact hJ_31 M45 v4 v5 (v6 + 1) hw H locs ls w (lv_sub hl [1, 2, 3, 4, 5, 6, 0] rfl)
        · have hw := hw.2 hc48
          refine lv_aload_n F.1 F.2.1 d_Go_chooseForMax_63 rfl (lv_at hl 0 rfl) ?_
          refine fm_gO F w cl_Go 326 0 327 T_326 (by decide) rfl rfl k_319 d_Go_chooseForMax_64 ?_
          refine fm_gO F w cl_At 327 0 328 T_327 (by decide) rfl rfl k_254 d_Go_chooseForMax_67 ?_
          refine lv_iload_n F.1 F.2.1 d_Go_chooseForMax_70 rfl (lv_at hl 2 rfl) ?_
          refine lv_iconst (v := Int32.ofInt 1) F.1 F.2.1 d_Go_chooseForMax_71 (by decide) ?_
          refine lv_iload F.1 F.2.1 d_Go_chooseForMax_72 (lv_at hl 6 rfl) ?_
          refine fi_ishl F d_Go_chooseForMax_74 ?_
          refine fm_sI F w 328 T_328 (by decide) h42  d_Go_chooseForMax_75 (fun M49 hM49 H locs w => ?_)
          have hw := hw M49 hM49
          refine lv_aload_n F.1 F.2.1 d_Go_chooseForMax_76 rfl (lv_at hl 0 rfl) ?_
          refine fm_gO F w cl_Go 326 0 327 T_326 (by decide) rfl rfl k_319 d_Go_chooseForMax_77 ?_
          refine lv_aload_n F.1 F.2.1 d_Go_chooseForMax_80 rfl (lv_at hl 1 rfl) ?_
          refine lv_iload_n F.1 F.2.1 d_Go_chooseForMax_81 rfl (lv_at hl 3 rfl) ?_
          refine fx_c w hno hlk (fx_rV (As := [.ref (ad 142), .int (Int32.ofInt a3)]) (rest := []) F w cl_At 327 T_327 (met_At_drawnTo l hst9 D ad cA n0 M49 327 a3 _ thr hw) e_At_drawnTo ki_At_drawnTo ks_At_drawnTo k_763 rfl hl.1 rfl (Nat.le_of_ble_eq_true rfl) ⟨⟨Nat.le_of_ble_eq_true rfl, Nat.le_of_ble_eq_true rfl⟩, Nat.le_of_ble_eq_true rfl, Nat.le_of_ble_eq_true rfl⟩ d_Go_chooseForMax_82) (fun r51 M50 hw H locs w => ?_)
          show W p l e _ s m _ below meth c H locs 0 0 _ (F0 m 85 ls [.int (Int32.ofInt r51)])
          refine lv_iload F.1 F.2.1 d_Go_chooseForMax_85 (lv_at hl 4 rfl) ?_
          obtain ⟨h52, hw⟩ := hw
          obtain ⟨h53, hw⟩ := hw
          refine fi_icmp_ne F d_Go_chooseForMax_87 (tgt := 98) (by decide) h52 h53 (fun hc54 => ?_) (fun hc54 => ?_)
          · have hw := hw.1 hc54
            refine fi_iinc (k := 6) (v := (v6 + 1)) F d_Go_chooseForMax_98 hl rfl rfl (by decide) rfl (fun ls hl => ?_)
            have hl : lv_has ls 7 [(6, .int (Int32.ofInt (v6 + 1))), (0, .ref (ad 326)), (1, .ref (ad 142)), (2, .int (Int32.ofInt a2)), (3, .int (Int32.ofInt a3)), (4, .int (Int32.ofInt v4)), (5, .int (Int32.ofInt v5))] := hl
            refine lv_goto F.1 F.2.1 d_Go_chooseForMax_101 (tgt := 31) (by decide) ?_
            exact hJ_31 M50 v4 v5 (v6 + 1) hw H locs ls w (lv_sub hl [1, 2, 3, 4, 5, 6, 0] rfl)
          · have hw := hw.2 hc54
            refine lv_aload_n F.1 F.2.1 d_Go_chooseForMax_90 rfl (lv_at hl 0 rfl) ?_
            refine fm_gO F w cl_Go 326 1 330 T_326 (by decide) rfl rfl k_320 d_Go_chooseForMax_91 ?_
            refine lv_iload_n F.1 F.2.1 d_Go_chooseForMax_94 rfl (lv_at hl 2 rfl) ?_
            refine lv_iload F.1 F.2.1 d_Go_chooseForMax_95 (lv_at hl 6 rfl) ?_
            refine fm_sI F w 330 T_330 (by decide) h42  d_Go_chooseForMax_97 (fun M55 hM55 H locs w => ?_)
            have hw := hw M55 hM55
            refine fi_iinc (k := 6) (v := (v6 + 1)) F d_Go_chooseForMax_98 hl rfl rfl (by decide) rfl (fun ls hl => ?_)
            have hl : lv_has ls 7 [(6, .int (Int32.ofInt (v6 + 1))), (0, .ref (ad 326)), (1, .ref (ad 142)), (2, .int (Int32.ofInt a2)), (3, .int (Int32.ofInt a3)), (4, .int (Int32.ofInt v4)), (5, .int (Int32.ofInt v5))] := hl
            refine lv_goto F.1 F.2.1 d_Go_chooseForMax_101 (tgt := 31) (by decide) ?_
            exact hJ_31 M55 v4 v5 (v6 + 1) hw H locs ls w (lv_sub hl [1, 2, 3, 4, 5, 6, 0] rfl)
  have blk_31 : ∀ (M : fm_M) (v4 : Int) (v5 : Int) (v6 : Int), B_Go_chooseForMax_31 a2 a3 post thr M v4 v5 v6 → fx_G p l e { frames := 4, cells := 1, slots := 6, locals := 93 } s m ([.ref (ad 326), .ref (ad 142), .int (Int32.ofInt a2), .int (Int32.ofInt a3)] : List Value).toArray below meth c D ad cA n0 3 post thr 7 M [(0, .ref (ad 326)), (1, .ref (ad 142)), (2, .int (Int32.ofInt a2)), (3, .int (Int32.ofInt a3)), (4, .int (Int32.ofInt v4)), (5, .int (Int32.ofInt v5)), (6, .int (Int32.ofInt v6))] 31 [] := by
    intro M v4 v5 v6 hw
    obtain ⟨I, μ, hI, hB⟩ := hw
    have key : ∀ (q : Nat) (M : fm_M) (v4 : Int) (v5 : Int) (v6 : Int), μ M v4 v5 v6 < q → I M v4 v5 v6 → fx_G p l e { frames := 4, cells := 1, slots := 6, locals := 93 } s m ([.ref (ad 326), .ref (ad 142), .int (Int32.ofInt a2), .int (Int32.ofInt a3)] : List Value).toArray below meth c D ad cA n0 3 post thr 7 M [(0, .ref (ad 326)), (1, .ref (ad 142)), (2, .int (Int32.ofInt a2)), (3, .int (Int32.ofInt a3)), (4, .int (Int32.ofInt v4)), (5, .int (Int32.ofInt v5)), (6, .int (Int32.ofInt v6))] 31 [] := by
      intro q
      induction q with
      | zero => intro M v4 v5 v6 h _; exact absurd h (Nat.not_lt_zero _)
      | succ q ih =>
        intro M v4 v5 v6 hμ hI
        exact blc_31 (fun M' v4' v5' v6' => I M' v4' v5' v6' ∧ μ M' v4' v5' v6' < μ M v4 v5 v6) M v4 v5 v6 (hB M v4 v5 v6 hI) (fun M' v4' v5' v6' hh => ih M' v4' v5' v6' (Nat.lt_of_lt_of_le hh.2 (Nat.le_of_lt_succ hμ)) hh.1)
    exact key _ M v4 v5 v6 (Nat.lt_succ_self _) hI
  have hl : lv_has ls 7 [(0, .ref (ad 326)), (1, .ref (ad 142)), (2, .int (Int32.ofInt a2)), (3, .int (Int32.ofInt a3))] := hl
  suffices h9 : fx_G p l e { frames := 4, cells := 1, slots := 6, locals := 93 } s m ([.ref (ad 326), .ref (ad 142), .int (Int32.ofInt a2), .int (Int32.ofInt a3)] : List Value).toArray below meth c D ad cA n0 3 post thr 7 M [(0, .ref (ad 326)), (1, .ref (ad 142)), (2, .int (Int32.ofInt a2)), (3, .int (Int32.ofInt a3))] 0 [] from h9 _ _ _ w hl
  intro H locs ls w hl
  refine lv_iconst (v := Int32.ofInt 1) F.1 F.2.1 d_Go_chooseForMax_0 (by decide) ?_
  refine lv_aload_n F.1 F.2.1 d_Go_chooseForMax_1 rfl (lv_at hl 1 rfl) ?_
  refine fm_gI F w cl_Fo 142 1 T_142 (by decide) rfl k_204 d_Go_chooseForMax_2 ?_
  refine fi_ishl F d_Go_chooseForMax_5 ?_
  refine lv_iconst (v := Int32.ofInt 1) F.1 F.2.1 d_Go_chooseForMax_6 (by decide) ?_
  refine fi_isub F d_Go_chooseForMax_7 ?_
  refine lv_istore F.1 F.2.1 d_Go_chooseForMax_8 hl (by decide) rfl (fun ls hl => ?_)
  have hl : lv_has ls 7 [(4, .int (Int32.ofInt ((jshl 1 (M 142 1)) - 1))), (0, .ref (ad 326)), (1, .ref (ad 142)), (2, .int (Int32.ofInt a2)), (3, .int (Int32.ofInt a3))] := hl
  refine lv_aload_n F.1 F.2.1 d_Go_chooseForMax_10 rfl (lv_at hl 1 rfl) ?_
  refine fm_gO F w cl_Go 326 0 327 T_326 (by decide) rfl rfl k_319 d_Go_chooseForMax_11 ?_
  refine fm_gO F w cl_At 327 0 328 T_327 (by decide) rfl rfl k_254 d_Go_chooseForMax_14 ?_
  refine lv_iload_n F.1 F.2.1 d_Go_chooseForMax_17 rfl (lv_at hl 3 rfl) ?_
  obtain ⟨h56, hw⟩ := hw
  refine fm_aI F w 328 T_328 (by decide) h56 d_Go_chooseForMax_18 ?_
  refine lv_istore F.1 F.2.1 d_Go_chooseForMax_19 hl (by decide) rfl (fun ls hl => ?_)
  have hl : lv_has ls 7 [(5, .int (Int32.ofInt (M 328 a2.toNat))), (4, .int (Int32.ofInt ((jshl 1 (M 142 1)) - 1))), (0, .ref (ad 326)), (1, .ref (ad 142)), (2, .int (Int32.ofInt a2)), (3, .int (Int32.ofInt a3))] := hl
  refine lv_aload_n F.1 F.2.1 d_Go_chooseForMax_21 rfl (lv_at hl 2 rfl) ?_
  refine fm_gO F w cl_Go 326 1 330 T_326 (by decide) rfl rfl k_320 d_Go_chooseForMax_22 ?_
  refine lv_iload_n F.1 F.2.1 d_Go_chooseForMax_25 rfl (lv_at hl 4 rfl) ?_
  refine lv_iconst (v := Int32.ofInt (-1)) F.1 F.2.1 d_Go_chooseForMax_26 (by decide) ?_
  refine fm_sI F w 330 T_330 (by decide) h56  d_Go_chooseForMax_27 (fun M57 hM57 H locs w => ?_)
  have hw := hw M57 hM57
  refine lv_iconst (v := Int32.ofInt 0) F.1 F.2.1 d_Go_chooseForMax_28 (by decide) ?_
  refine lv_istore F.1 F.2.1 d_Go_chooseForMax_29 hl (by decide) rfl (fun ls hl => ?_)
  have hl : lv_has ls 7 [(6, .int (Int32.ofInt 0)), (5, .int (Int32.ofInt (M 328 a2.toNat))), (4, .int (Int32.ofInt ((jshl 1 (M 142 1)) - 1))), (0, .ref (ad 326)), (1, .ref (ad 142)), (2, .int (Int32.ofInt a2)), (3, .int (Int32.ofInt a3))] := hl
  exact blk_31 M57 ((jshl 1 (M 142 1)) - 1) (M 328 a2.toNat) 0 hw H locs ls w (lv_sub hl [3, 4, 5, 6, 2, 1, 0] rfl)
set_option maxHeartbeats 4000000 in
set_option maxRecDepth 100000 in
theorem met_Go_choose (l : Launch) (hst9 : l.stackTraces = false) (D : va_G) (ad : Nat → Nat) (cA : Nat → ClassId) (n0 : Nat) (M : fm_M) (post : Int → fm_M → Prop) (thr : String → fm_M → Prop) (hw : wp_Go_choose M post thr) : fx_Met l y_Go_choose (Cond.code y_Go_choose b_Go_choose 6 none :: tb) { frames := 5, cells := 1, slots := 6, locals := 119 } [.ref (ad 326), .ref (ad 142), .ref (ad 141)] D ad cA n0 M 3 post thr := by
  refine fx_met (by decide) (Nat.le_of_ble_eq_true rfl) (fun p e s m below meth c ls F w hno hr hlk hl => ?_)
  have blc_58 : ∀ (J_58 : (fm_M → Int → Int → Prop)) (M : fm_M) (v4 : Int) (v5 : Int), C_Go_choose_58 post thr J_58 M v4 v5 → (∀ (M : fm_M) (v4 : Int) (v5 : Int), J_58 M v4 v5 → fx_G p l e { frames := 5, cells := 1, slots := 6, locals := 119 } s m ([.ref (ad 326), .ref (ad 142), .ref (ad 141)] : List Value).toArray below meth c D ad cA n0 3 post thr 6 M [(0, .ref (ad 326)), (1, .ref (ad 142)), (4, .int (Int32.ofInt v4)), (5, .int (Int32.ofInt v5))] 58 []) → fx_G p l e { frames := 5, cells := 1, slots := 6, locals := 119 } s m ([.ref (ad 326), .ref (ad 142), .ref (ad 141)] : List Value).toArray below meth c D ad cA n0 3 post thr 6 M [(0, .ref (ad 326)), (1, .ref (ad 142)), (4, .int (Int32.ofInt v4)), (5, .int (Int32.ofInt v5))] 58 [] := by
    intro J_58 M v4 v5 hw hJ_58 H locs ls w hl
    refine lv_iload F.1 F.2.1 d_Go_choose_58 (lv_at hl 3 rfl) ?_
    refine lv_aload_n F.1 F.2.1 d_Go_choose_60 rfl (lv_at hl 1 rfl) ?_
    refine fm_gI F w cl_Fo 142 1 T_142 (by decide) rfl k_204 d_Go_choose_61 ?_
    obtain ⟨h37, hw⟩ := hw
    obtain ⟨h38, hw⟩ := hw
    refine fi_icmp_ge F d_Go_choose_64 (tgt := 114) (by decide) h37 h38 (fun hc39 => ?_) (fun hc39 => ?_)
    · have hw := hw.1 hc39
      exact fx_vret F w hr hlk hw d_Go_choose_114
    · have hw := hw.2 hc39
      refine lv_aload_n F.1 F.2.1 d_Go_choose_67 rfl (lv_at hl 1 rfl) ?_
      refine lv_iload F.1 F.2.1 d_Go_choose_68 (lv_at hl 3 rfl) ?_
      refine fx_c w hno hlk (fx_rV (As := [.int (Int32.ofInt v5)]) (rest := []) F w cl_Fo 142 T_142 (met_Fo_isOfMax l hst9 D ad cA n0 M v5 _ thr hw) e_Fo_isOfMax ki_Fo_isOfMax ks_Fo_isOfMax k_758 rfl hl.1 rfl (Nat.le_of_ble_eq_true rfl) ⟨⟨Nat.le_of_ble_eq_true rfl, Nat.le_of_ble_eq_true rfl⟩, Nat.le_of_ble_eq_true rfl, Nat.le_of_ble_eq_true rfl⟩ d_Go_choose_70) (fun r41 M40 hw H locs w => ?_)
      show W p l e _ s m _ below meth c H locs 0 0 _ (F0 m 73 ls [.int (Int32.ofInt r41)])
      obtain ⟨h42, hw⟩ := hw
      refine fi_if_eq F d_Go_choose_73 (tgt := 88) (by decide) h42 (fun hc43 => ?_) (fun hc43 => ?_)
      · have hw := hw.1 hc43
        refine lv_aload_n F.1 F.2.1 d_Go_choose_88 rfl (lv_at hl 0 rfl) ?_
        refine fm_gO F w cl_Go 326 1 330 T_326 (by decide) rfl rfl k_320 d_Go_choose_89 ?_
        refine lv_iload F.1 F.2.1 d_Go_choose_92 (lv_at hl 3 rfl) ?_
        refine lv_aload_n F.1 F.2.1 d_Go_choose_94 rfl (lv_at hl 0 rfl) ?_
        refine fm_gO F w cl_Go 326 0 327 T_326 (by decide) rfl rfl k_319 d_Go_choose_95 ?_
        refine fm_gO F w cl_At 327 0 328 T_327 (by decide) rfl rfl k_254 d_Go_choose_98 ?_
        refine lv_iload F.1 F.2.1 d_Go_choose_101 (lv_at hl 3 rfl) ?_
        obtain ⟨h44, hw⟩ := hw
        refine fm_aI F w 328 T_328 (by decide) h44 d_Go_choose_103 ?_
        refine fx_c w hno hlk (fx_rSN (As := [.int (Int32.ofInt (M40 328 v5.toNat))]) (rest := [.int (Int32.ofInt v5), .ref (ad 330)]) F w (met_CG_firstBit l hst9 D ad cA n0 M40 (M40 328 v5.toNat) _ thr hw) e_CG_firstBit kt_CG_firstBit k_764 rfl hl.1 rfl (Nat.le_of_ble_eq_true rfl) ⟨⟨Nat.le_of_ble_eq_true rfl, Nat.le_of_ble_eq_true rfl⟩, Nat.le_of_ble_eq_true rfl, Nat.le_of_ble_eq_true rfl⟩ d_Go_choose_104) (fun r46 M45 hw H locs w => ?_)
        show W p l e _ s m _ below meth c H locs 0 0 _ (F0 m 107 ls [.int (Int32.ofInt r46), .int (Int32.ofInt v5), .ref (ad 330)])
        refine fm_sI F w 330 T_330 (by decide) h44  d_Go_choose_107 (fun M47 hM47 H locs w => ?_)
        have hw := hw M47 hM47
        refine fi_iinc (k := 3) (v := (v5 + 1)) F d_Go_choose_108 hl rfl rfl (by decide) rfl (fun ls hl => ?_)
        have hl : lv_has ls 6 [(5, .int (Int32.ofInt (v5 + 1))), (0, .ref (ad 326)), (1, .ref (ad 142)), (4, .int (Int32.ofInt v4))] := hl
        refine lv_goto F.1 F.2.1 d_Go_choose_111 (tgt := 58) (by decide) ?_
        exact hJ_58 M47 v4 (v5 + 1) hw H locs ls w (lv_sub hl [1, 2, 3, 0] rfl)
      · have hw := hw.2 hc43
        refine lv_aload_n F.1 F.2.1 d_Go_choose_76 rfl (lv_at hl 0 rfl) ?_
        refine lv_aload_n F.1 F.2.1 d_Go_choose_77 rfl (lv_at hl 1 rfl) ?_
        refine lv_iload F.1 F.2.1 d_Go_choose_78 (lv_at hl 3 rfl) ?_
        refine lv_iload F.1 F.2.1 d_Go_choose_80 (lv_at hl 2 rfl) ?_
        refine fx_c w hno hlk (fx_rV (As := [.ref (ad 142), .int (Int32.ofInt v5), .int (Int32.ofInt v4)]) (rest := []) F w cl_Go 326 T_326 (met_Go_chooseForMax l hst9 D ad cA n0 M40 v5 v4 _ thr hw) e_Go_chooseForMax ki_Go_chooseForMax ks_Go_chooseForMax k_759 rfl hl.1 rfl (Nat.le_of_ble_eq_true rfl) ⟨⟨Nat.le_of_ble_eq_true rfl, Nat.le_of_ble_eq_true rfl⟩, Nat.le_of_ble_eq_true rfl, Nat.le_of_ble_eq_true rfl⟩ d_Go_choose_82) (fun r49 M48 hw H locs w => ?_)
        refine lv_goto F.1 F.2.1 d_Go_choose_85 (tgt := 108) (by decide) ?_
        refine fi_iinc (k := 3) (v := (v5 + 1)) F d_Go_choose_108 hl rfl rfl (by decide) rfl (fun ls hl => ?_)
        have hl : lv_has ls 6 [(5, .int (Int32.ofInt (v5 + 1))), (0, .ref (ad 326)), (1, .ref (ad 142)), (4, .int (Int32.ofInt v4))] := hl
        refine lv_goto F.1 F.2.1 d_Go_choose_111 (tgt := 58) (by decide) ?_
        exact hJ_58 M48 v4 (v5 + 1) hw H locs ls w (lv_sub hl [1, 2, 3, 0] rfl)
  have blk_58 : ∀ (M : fm_M) (v4 : Int) (v5 : Int), B_Go_choose_58 post thr M v4 v5 → fx_G p l e { frames := 5, cells := 1, slots := 6, locals := 119 } s m ([.ref (ad 326), .ref (ad 142), .ref (ad 141)] : List Value).toArray below meth c D ad cA n0 3 post thr 6 M [(0, .ref (ad 326)), (1, .ref (ad 142)), (4, .int (Int32.ofInt v4)), (5, .int (Int32.ofInt v5))] 58 [] := by
    intro M v4 v5 hw
    obtain ⟨I, μ, hI, hB⟩ := hw
    have key : ∀ (q : Nat) (M : fm_M) (v4 : Int) (v5 : Int), μ M v4 v5 < q → I M v4 v5 → fx_G p l e { frames := 5, cells := 1, slots := 6, locals := 119 } s m ([.ref (ad 326), .ref (ad 142), .ref (ad 141)] : List Value).toArray below meth c D ad cA n0 3 post thr 6 M [(0, .ref (ad 326)), (1, .ref (ad 142)), (4, .int (Int32.ofInt v4)), (5, .int (Int32.ofInt v5))] 58 [] := by
      intro q
      induction q with
      | zero => intro M v4 v5 h _; exact absurd h (Nat.not_lt_zero _)
      | succ q ih =>
        intro M v4 v5 hμ hI
        exact blc_58 (fun M' v4' v5' => I M' v4' v5' ∧ μ M' v4' v5' < μ M v4 v5) M v4 v5 (hB M v4 v5 hI) (fun M' v4' v5' hh => ih M' v4' v5' (Nat.lt_of_lt_of_le hh.2 (Nat.le_of_lt_succ hμ)) hh.1)
    exact key _ M v4 v5 (Nat.lt_succ_self _) hI
  have blc_2 : ∀ (J_2 : (fm_M → Int → Prop)) (M : fm_M) (v3 : Int), C_Go_choose_2 post thr J_2 M v3 → (∀ (M : fm_M) (v3 : Int), J_2 M v3 → fx_G p l e { frames := 5, cells := 1, slots := 6, locals := 119 } s m ([.ref (ad 326), .ref (ad 142), .ref (ad 141)] : List Value).toArray below meth c D ad cA n0 3 post thr 6 M [(0, .ref (ad 326)), (1, .ref (ad 142)), (2, .ref (ad 141)), (3, .int (Int32.ofInt v3))] 2 []) → fx_G p l e { frames := 5, cells := 1, slots := 6, locals := 119 } s m ([.ref (ad 326), .ref (ad 142), .ref (ad 141)] : List Value).toArray below meth c D ad cA n0 3 post thr 6 M [(0, .ref (ad 326)), (1, .ref (ad 142)), (2, .ref (ad 141)), (3, .int (Int32.ofInt v3))] 2 [] := by
    intro J_2 M v3 hw hJ_2 H locs ls w hl
    refine lv_iload_n F.1 F.2.1 d_Go_choose_2 rfl (lv_at hl 3 rfl) ?_
    refine lv_aload_n F.1 F.2.1 d_Go_choose_3 rfl (lv_at hl 1 rfl) ?_
    refine fm_gI F w cl_Fo 142 1 T_142 (by decide) rfl k_204 d_Go_choose_4 ?_
    obtain ⟨h50, hw⟩ := hw
    obtain ⟨h51, hw⟩ := hw
    refine fi_icmp_ge F d_Go_choose_7 (tgt := 31) (by decide) h50 h51 (fun hc52 => ?_) (fun hc52 => ?_)
    · have hw := hw.1 hc52
      refine lv_iconst (v := Int32.ofInt 1) F.1 F.2.1 d_Go_choose_31 (by decide) ?_
      refine lv_aload_n F.1 F.2.1 d_Go_choose_32 rfl (lv_at hl 1 rfl) ?_
      refine fm_gI F w cl_Fo 142 1 T_142 (by decide) rfl k_204 d_Go_choose_33 ?_
      refine fi_ishl F d_Go_choose_36 ?_
      refine lv_iconst (v := Int32.ofInt 1) F.1 F.2.1 d_Go_choose_37 (by decide) ?_
      refine fi_isub F d_Go_choose_38 ?_
      refine lv_istore_n F.1 F.2.1 d_Go_choose_39 rfl hl (by decide) rfl (fun ls hl => ?_)
      have hl : lv_has ls 6 [(3, .int (Int32.ofInt ((jshl 1 (M 142 1)) - 1))), (0, .ref (ad 326)), (1, .ref (ad 142)), (2, .ref (ad 141))] := hl
      refine lv_aload_n F.1 F.2.1 d_Go_choose_40 rfl (lv_at hl 2 rfl) ?_
      refine fm_gI F w cl_Fo 142 3 T_142 (by decide) rfl k_211 d_Go_choose_41 ?_
      refine lv_iload_n F.1 F.2.1 d_Go_choose_44 rfl (lv_at hl 0 rfl) ?_
      refine lv_aload_n F.1 F.2.1 d_Go_choose_45 rfl (lv_at hl 3 rfl) ?_
      refine fm_gI F w cl_Va 141 4 T_141 (by decide) rfl k_291 d_Go_choose_46 ?_
      refine lv_iconst (v := Int32.ofInt (-1)) F.1 F.2.1 d_Go_choose_49 (by decide) ?_
      refine fi_ixor F d_Go_choose_50 ?_
      refine fi_iand F d_Go_choose_51 ?_
      refine fi_ior F d_Go_choose_52 ?_
      refine lv_istore F.1 F.2.1 d_Go_choose_53 hl (by decide) rfl (fun ls hl => ?_)
      have hl : lv_has ls 6 [(4, .int (Int32.ofInt (jor (M 142 3) (jand ((jshl 1 (M 142 1)) - 1) (jxor (M 141 4) (-1)))))), (3, .int (Int32.ofInt ((jshl 1 (M 142 1)) - 1))), (0, .ref (ad 326)), (1, .ref (ad 142)), (2, .ref (ad 141))] := hl
      refine lv_iconst (v := Int32.ofInt 0) F.1 F.2.1 d_Go_choose_55 (by decide) ?_
      refine lv_istore F.1 F.2.1 d_Go_choose_56 hl (by decide) rfl (fun ls hl => ?_)
      have hl : lv_has ls 6 [(5, .int (Int32.ofInt 0)), (4, .int (Int32.ofInt (jor (M 142 3) (jand ((jshl 1 (M 142 1)) - 1) (jxor (M 141 4) (-1)))))), (3, .int (Int32.ofInt ((jshl 1 (M 142 1)) - 1))), (0, .ref (ad 326)), (1, .ref (ad 142)), (2, .ref (ad 141))] := hl
      exact blk_58 M (jor (M 142 3) (jand ((jshl 1 (M 142 1)) - 1) (jxor (M 141 4) (-1)))) 0 hw H locs ls w (lv_sub hl [3, 4, 1, 0] rfl)
    · have hw := hw.2 hc52
      refine lv_aload_n F.1 F.2.1 d_Go_choose_10 rfl (lv_at hl 0 rfl) ?_
      refine fm_gO F w cl_Go 326 0 327 T_326 (by decide) rfl rfl k_319 d_Go_choose_11 ?_
      refine fm_gO F w cl_At 327 0 328 T_327 (by decide) rfl rfl k_254 d_Go_choose_14 ?_
      refine lv_iload_n F.1 F.2.1 d_Go_choose_17 rfl (lv_at hl 3 rfl) ?_
      refine lv_aload_n F.1 F.2.1 d_Go_choose_18 rfl (lv_at hl 1 rfl) ?_
      refine lv_aload_n F.1 F.2.1 d_Go_choose_19 rfl (lv_at hl 2 rfl) ?_
      refine lv_iload_n F.1 F.2.1 d_Go_choose_20 rfl (lv_at hl 3 rfl) ?_
      refine fx_c w hno hlk (fx_rS (As := [.ref (ad 142), .ref (ad 141), .int (Int32.ofInt v3)]) (rest := [.int (Int32.ofInt v3), .ref (ad 328)]) F w (met_Go_tightChoices l hst9 D ad cA n0 M v3 _ thr hw) e_Go_tightChoices kt_Go_tightChoices k_749 rfl hl.1 rfl (Nat.le_of_ble_eq_true rfl) ⟨⟨Nat.le_of_ble_eq_true rfl, Nat.le_of_ble_eq_true rfl⟩, Nat.le_of_ble_eq_true rfl, Nat.le_of_ble_eq_true rfl⟩ d_Go_choose_21) (fun r54 M53 hw H locs w => ?_)
      show W p l e _ s m _ below meth c H locs 0 0 _ (F0 m 24 ls [.int (Int32.ofInt r54), .int (Int32.ofInt v3), .ref (ad 328)])
      obtain ⟨h55, hw⟩ := hw
      refine fm_sI F w 328 T_328 (by decide) h55  d_Go_choose_24 (fun M56 hM56 H locs w => ?_)
      have hw := hw M56 hM56
      refine fi_iinc (k := 3) (v := (v3 + 1)) F d_Go_choose_25 hl rfl rfl (by decide) rfl (fun ls hl => ?_)
      have hl : lv_has ls 6 [(3, .int (Int32.ofInt (v3 + 1))), (0, .ref (ad 326)), (1, .ref (ad 142)), (2, .ref (ad 141))] := hl
      refine lv_goto F.1 F.2.1 d_Go_choose_28 (tgt := 2) (by decide) ?_
      exact hJ_2 M56 (v3 + 1) hw H locs ls w (lv_sub hl [1, 2, 3, 0] rfl)
  have blk_2 : ∀ (M : fm_M) (v3 : Int), B_Go_choose_2 post thr M v3 → fx_G p l e { frames := 5, cells := 1, slots := 6, locals := 119 } s m ([.ref (ad 326), .ref (ad 142), .ref (ad 141)] : List Value).toArray below meth c D ad cA n0 3 post thr 6 M [(0, .ref (ad 326)), (1, .ref (ad 142)), (2, .ref (ad 141)), (3, .int (Int32.ofInt v3))] 2 [] := by
    intro M v3 hw
    obtain ⟨I, μ, hI, hB⟩ := hw
    have key : ∀ (q : Nat) (M : fm_M) (v3 : Int), μ M v3 < q → I M v3 → fx_G p l e { frames := 5, cells := 1, slots := 6, locals := 119 } s m ([.ref (ad 326), .ref (ad 142), .ref (ad 141)] : List Value).toArray below meth c D ad cA n0 3 post thr 6 M [(0, .ref (ad 326)), (1, .ref (ad 142)), (2, .ref (ad 141)), (3, .int (Int32.ofInt v3))] 2 [] := by
      intro q
      induction q with
      | zero => intro M v3 h _; exact absurd h (Nat.not_lt_zero _)
      | succ q ih =>
        intro M v3 hμ hI
        exact blc_2 (fun M' v3' => I M' v3' ∧ μ M' v3' < μ M v3) M v3 (hB M v3 hI) (fun M' v3' hh => ih M' v3' (Nat.lt_of_lt_of_le hh.2 (Nat.le_of_lt_succ hμ)) hh.1)
    exact key _ M v3 (Nat.lt_succ_self _) hI
  have hl : lv_has ls 6 [(0, .ref (ad 326)), (1, .ref (ad 142)), (2, .ref (ad 141))] := hl
  suffices h9 : fx_G p l e { frames := 5, cells := 1, slots := 6, locals := 119 } s m ([.ref (ad 326), .ref (ad 142), .ref (ad 141)] : List Value).toArray below meth c D ad cA n0 3 post thr 6 M [(0, .ref (ad 326)), (1, .ref (ad 142)), (2, .ref (ad 141))] 0 [] from h9 _ _ _ w hl
  intro H locs ls w hl
  refine lv_iconst (v := Int32.ofInt 0) F.1 F.2.1 d_Go_choose_0 (by decide) ?_
  refine lv_istore_n F.1 F.2.1 d_Go_choose_1 rfl hl (by decide) rfl (fun ls hl => ?_)
  have hl : lv_has ls 6 [(3, .int (Int32.ofInt 0)), (0, .ref (ad 326)), (1, .ref (ad 142)), (2, .ref (ad 141))] := hl
  exact blk_2 M 0 hw H locs ls w (lv_sub hl [1, 2, 3, 0] rfl)
set_option maxHeartbeats 4000000 in
set_option maxRecDepth 100000 in
theorem met_CG_solve (l : Launch) (hst9 : l.stackTraces = false) (D : va_G) (ad : Nat → Nat) (cA : Nat → ClassId) (n0 : Nat) (M : fm_M) (post : Int → fm_M → Prop) (thr : String → fm_M → Prop) (hw : wp_CG_solve M post thr) : fx_Met l y_CG_solve (Cond.code y_CG_solve b_CG_solve 2 (some .int) :: tb) { frames := 6, cells := 1, slots := 6, locals := 144 } [.ref (ad 0)] D ad cA n0 M 0 post thr := by
  refine fx_met (by decide) (Nat.le_of_ble_eq_true rfl) (fun p e s m below meth c ls F w hno hr hlk hl => ?_)
  have blk_42 : ∀ (M : fm_M) (v1 : Int) (s0 : Int), B_CG_solve_42 post thr M v1 s0 → fx_G p l e { frames := 6, cells := 1, slots := 6, locals := 144 } s m ([.ref (ad 0)] : List Value).toArray below meth c D ad cA n0 0 post thr 2 M [(0, .ref (ad 0)), (1, .int (Int32.ofInt v1))] 42 [.int (Int32.ofInt s0), .ref (ad 0)] := by
    intro M v1 s0 hw H locs ls w hl
    obtain ⟨h26, hw⟩ := hw
    refine fm_pZ F w cl_CG 0 6 T_0 (by decide) rfl k_333 rfl rfl h26 d_CG_solve_42 (fun M25 hM25 H locs w => ?_)
    have hw := hw M25 hM25
    refine lv_aload_n F.1 F.2.1 d_CG_solve_45 rfl (lv_at hl 0 rfl) ?_
    refine fm_gI F w cl_CG 0 6 T_0 (by decide) rfl k_333 d_CG_solve_46 ?_
    obtain ⟨h27, hw⟩ := hw
    refine fi_if_eq F d_CG_solve_49 (tgt := 74) (by decide) h27 (fun hc28 => ?_) (fun hc28 => ?_)
    · have hw := hw.1 hc28
      refine lv_iload_n F.1 F.2.1 d_CG_solve_74 rfl (lv_at hl 1 rfl) ?_
      exact fx_iret F w hr hlk hw d_CG_solve_75
    · have hw := hw.2 hc28
      refine lv_aload_n F.1 F.2.1 d_CG_solve_52 rfl (lv_at hl 0 rfl) ?_
      refine fm_gO F w cl_CG 0 2 141 T_0 (by decide) rfl rfl k_329 d_CG_solve_53 ?_
      refine fx_c w hno hlk (fx_rV (As := []) (rest := []) F w cl_Va 141 T_141 (met_Va_compute l hst9 D ad cA n0 M25 _ thr hw) e_Va_compute ki_Va_compute ks_Va_compute k_672 rfl hl.1 rfl (Nat.le_of_ble_eq_true rfl) ⟨⟨Nat.le_of_ble_eq_true rfl, Nat.le_of_ble_eq_true rfl⟩, Nat.le_of_ble_eq_true rfl, Nat.le_of_ble_eq_true rfl⟩ d_CG_solve_56) (fun r30 M29 hw H locs w => ?_)
      refine lv_aload_n F.1 F.2.1 d_CG_solve_59 rfl (lv_at hl 0 rfl) ?_
      refine fm_gO F w cl_CG 0 4 326 T_0 (by decide) rfl rfl k_331 d_CG_solve_60 ?_
      refine lv_aload_n F.1 F.2.1 d_CG_solve_63 rfl (lv_at hl 0 rfl) ?_
      refine fm_gO F w cl_CG 0 3 142 T_0 (by decide) rfl rfl k_330 d_CG_solve_64 ?_
      refine lv_aload_n F.1 F.2.1 d_CG_solve_67 rfl (lv_at hl 0 rfl) ?_
      refine fm_gO F w cl_CG 0 2 141 T_0 (by decide) rfl rfl k_329 d_CG_solve_68 ?_
      refine fx_c w hno hlk (fx_rV (As := [.ref (ad 142), .ref (ad 141)]) (rest := []) F w cl_Go 326 T_326 (met_Go_choose l hst9 D ad cA n0 M29 _ thr hw) e_Go_choose ki_Go_choose ks_Go_choose k_745 rfl hl.1 rfl (Nat.le_of_ble_eq_true rfl) ⟨⟨Nat.le_of_ble_eq_true rfl, Nat.le_of_ble_eq_true rfl⟩, Nat.le_of_ble_eq_true rfl, Nat.le_of_ble_eq_true rfl⟩ d_CG_solve_71) (fun r32 M31 hw H locs w => ?_)
      refine lv_iload_n F.1 F.2.1 d_CG_solve_74 rfl (lv_at hl 1 rfl) ?_
      exact fx_iret F w hr hlk hw d_CG_solve_75
  have hl : lv_has ls 2 [(0, .ref (ad 0))] := hl
  suffices h9 : fx_G p l e { frames := 6, cells := 1, slots := 6, locals := 144 } s m ([.ref (ad 0)] : List Value).toArray below meth c D ad cA n0 0 post thr 2 M [(0, .ref (ad 0))] 0 [] from h9 _ _ _ w hl
  intro H locs ls w hl
  refine lv_aload_n F.1 F.2.1 d_CG_solve_0 rfl (lv_at hl 0 rfl) ?_
  refine fm_gI F w cl_CG 0 5 T_0 (by decide) rfl k_332 d_CG_solve_1 ?_
  obtain ⟨h33, hw⟩ := hw
  refine fi_if_ne F d_CG_solve_4 (tgt := 17) (by decide) h33 (fun hc34 => ?_) (fun hc34 => ?_)
  · have hw := hw.1 hc34
    refine lv_aload_n F.1 F.2.1 d_CG_solve_17 rfl (lv_at hl 0 rfl) ?_
    refine fm_gO F w cl_CG 0 3 142 T_0 (by decide) rfl rfl k_330 d_CG_solve_18 ?_
    refine fx_c w hno hlk (fx_rV (As := []) (rest := []) F w cl_Fo 142 T_142 (met_Fo_explore l hst9 D ad cA n0 M _ thr hw) e_Fo_explore ki_Fo_explore ks_Fo_explore k_613 rfl hl.1 rfl (Nat.le_of_ble_eq_true rfl) ⟨⟨Nat.le_of_ble_eq_true rfl, Nat.le_of_ble_eq_true rfl⟩, Nat.le_of_ble_eq_true rfl, Nat.le_of_ble_eq_true rfl⟩ d_CG_solve_21) (fun r36 M35 hw H locs w => ?_)
    show W p l e _ s m _ below meth c H locs 0 0 _ (F0 m 24 ls [.int (Int32.ofInt r36)])
    refine lv_istore_n F.1 F.2.1 d_CG_solve_24 rfl hl (by decide) rfl (fun ls hl => ?_)
    have hl : lv_has ls 2 [(1, .int (Int32.ofInt r36)), (0, .ref (ad 0))] := hl
    refine lv_aload_n F.1 F.2.1 d_CG_solve_25 rfl (lv_at hl 1 rfl) ?_
    refine fm_gO F w cl_CG 0 3 142 T_0 (by decide) rfl rfl k_330 d_CG_solve_26 ?_
    refine fx_c w hno hlk (fx_rV (As := []) (rest := []) F w cl_Fo 142 T_142 (met_Fo_link l hst9 D ad cA n0 M35 _ thr hw) e_Fo_link ki_Fo_link ks_Fo_link k_664 rfl hl.1 rfl (Nat.le_of_ble_eq_true rfl) ⟨⟨Nat.le_of_ble_eq_true rfl, Nat.le_of_ble_eq_true rfl⟩, Nat.le_of_ble_eq_true rfl, Nat.le_of_ble_eq_true rfl⟩ d_CG_solve_29) (fun r38 M37 hw H locs w => ?_)
    refine lv_aload_n F.1 F.2.1 d_CG_solve_32 rfl (lv_at hl 1 rfl) ?_
    refine lv_iload_n F.1 F.2.1 d_CG_solve_33 rfl (lv_at hl 0 rfl) ?_
    obtain ⟨h39, hw⟩ := hw
    refine fi_if_le F d_CG_solve_34 (tgt := 41) (by decide) h39 (fun hc40 => ?_) (fun hc40 => ?_)
    · have hw := hw.1 hc40
      refine lv_iconst (v := Int32.ofInt 0) F.1 F.2.1 d_CG_solve_41 (by decide) ?_
      exact blk_42 M37 r36 0 hw H locs ls w (lv_sub hl [1, 0] rfl)
    · have hw := hw.2 hc40
      refine lv_iconst (v := Int32.ofInt 1) F.1 F.2.1 d_CG_solve_37 (by decide) ?_
      refine lv_goto F.1 F.2.1 d_CG_solve_38 (tgt := 42) (by decide) ?_
      exact blk_42 M37 r36 1 hw H locs ls w (lv_sub hl [1, 0] rfl)
  · have hw := hw.2 hc34
    exact fx_thr (E := "java/lang/IllegalStateException") (names := ["java/lang/RuntimeException", "java/lang/Exception"]) F w hlk hno hst9 k_597 k_598 k_18 k_606 (by decide +kernel) (by decide +kernel) at_CG_84 hl.1 (Nat.le_of_ble_eq_true rfl) (Nat.le_of_ble_eq_true rfl) (Nat.le_of_ble_eq_true rfl) (Nat.le_of_ble_eq_true rfl) hw d_CG_solve_7 d_CG_solve_10 d_CG_solve_11 d_CG_solve_13 d_CG_solve_16
