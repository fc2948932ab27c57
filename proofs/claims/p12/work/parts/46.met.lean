set_option maxHeartbeats 4000000 in
set_option maxRecDepth 100000 in
theorem met_Mo_isKept (l : Launch) (hst9 : l.stackTraces = false) (D : va_G) (ad : Nat → Nat) (cA : Nat → ClassId) (n0 : Nat) (M : fm_M) (post : Int → fm_M → Prop) (thr : String → fm_M → Prop) (hw : wp_Mo_isKept M post thr) : fx_Met l y_Mo_isKept (Cond.code y_Mo_isKept b_Mo_isKept 3 (some .boolean) :: tb) { frames := 0, cells := 1, slots := 6, locals := 0 } [.ref (ad 331)] D ad cA n0 M 0 post thr := by
  refine fx_met (by decide) (Nat.le_of_ble_eq_true rfl) (fun p e s m below meth c ls F w hno hr hlk hl => ?_)
  have blk_49 : ∀ (J_4 : (fm_M → Int → Int → Prop)) (M : fm_M) (v2 : Int) (s0 : Int), B_Mo_isKept_49 post thr J_4 M v2 s0 → (∀ (M : fm_M) (v1 : Int) (v2 : Int), J_4 M v1 v2 → fx_G p l e { frames := 0, cells := 1, slots := 6, locals := 0 } s m ([.ref (ad 331)] : List Value).toArray below meth c D ad cA n0 0 post thr 3 M [(0, .ref (ad 331)), (1, .int (Int32.ofInt v1)), (2, .int (Int32.ofInt v2))] 4 []) → fx_G p l e { frames := 0, cells := 1, slots := 6, locals := 0 } s m ([.ref (ad 331)] : List Value).toArray below meth c D ad cA n0 0 post thr 3 M [(0, .ref (ad 331)), (2, .int (Int32.ofInt v2))] 49 [.int (Int32.ofInt s0)] := by
    intro J_4 M v2 s0 hw hJ_4 H locs ls w hl
    refine lv_istore_n F.1 F.2.1 d_Mo_isKept_49 rfl hl (by decide) rfl (fun ls hl => ?_)
    have hl : lv_has ls 3 [(1, .int (Int32.ofInt s0)), (0, .ref (ad 331)), (2, .int (Int32.ofInt v2))] := hl
    refine fi_iinc (k := 2) (v := (v2 + 1)) F d_Mo_isKept_50 hl rfl rfl (by decide) rfl (fun ls hl => ?_)
    have hl : lv_has ls 3 [(2, .int (Int32.ofInt (v2 + 1))), (1, .int (Int32.ofInt s0)), (0, .ref (ad 331))] := hl
    refine lv_goto F.1 F.2.1 d_Mo_isKept_53 (tgt := 4) (by decide) ?_
    exact hJ_4 M s0 (v2 + 1) hw H locs ls w (lv_sub hl [2, 1, 0] rfl)
  have blc_4 : ∀ (J_4 : (fm_M → Int → Int → Prop)) (M : fm_M) (v1 : Int) (v2 : Int), C_Mo_isKept_4 post thr J_4 M v1 v2 → (∀ (M : fm_M) (v1 : Int) (v2 : Int), J_4 M v1 v2 → fx_G p l e { frames := 0, cells := 1, slots := 6, locals := 0 } s m ([.ref (ad 331)] : List Value).toArray below meth c D ad cA n0 0 post thr 3 M [(0, .ref (ad 331)), (1, .int (Int32.ofInt v1)), (2, .int (Int32.ofInt v2))] 4 []) → fx_G p l e { frames := 0, cells := 1, slots := 6, locals := 0 } s m ([.ref (ad 331)] : List Value).toArray below meth c D ad cA n0 0 post thr 3 M [(0, .ref (ad 331)), (1, .int (Int32.ofInt v1)), (2, .int (Int32.ofInt v2))] 4 [] := by
    intro J_4 M v1 v2 hw hJ_4 H locs ls w hl
    refine lv_iload_n F.1 F.2.1 d_Mo_isKept_4 rfl (lv_at hl 2 rfl) ?_
    refine lv_aload_n F.1 F.2.1 d_Mo_isKept_5 rfl (lv_at hl 0 rfl) ?_
    refine fm_gI F w cl_Mo 331 20 T_331 (by decide) rfl k_834 d_Mo_isKept_6 ?_
    obtain ⟨h16, hw⟩ := hw
    obtain ⟨h17, hw⟩ := hw
    refine fi_icmp_ge F d_Mo_isKept_9 (tgt := 56) (by decide) h16 h17 (fun hc18 => ?_) (fun hc18 => ?_)
    · have hw := hw.1 hc18
      refine lv_iload_n F.1 F.2.1 d_Mo_isKept_56 rfl (lv_at hl 1 rfl) ?_
      obtain ⟨h19, hw⟩ := hw
      exact fx_zret F w hr hlk (fx_nz h19) hw d_Mo_isKept_57
    · have hw := hw.2 hc18
      refine lv_iload_n F.1 F.2.1 d_Mo_isKept_12 rfl (lv_at hl 1 rfl) ?_
      obtain ⟨h20, hw⟩ := hw
      refine fi_if_eq F d_Mo_isKept_13 (tgt := 48) (by decide) h20 (fun hc21 => ?_) (fun hc21 => ?_)
      · have hw := hw.1 hc21
        refine lv_iconst (v := Int32.ofInt 0) F.1 F.2.1 d_Mo_isKept_48 (by decide) ?_
        exact blk_49 J_4 M v2 0 hw hJ_4 H locs ls w (lv_sub hl [0, 2] rfl)
      · have hw := hw.2 hc21
        refine lv_aload_n F.1 F.2.1 d_Mo_isKept_16 rfl (lv_at hl 0 rfl) ?_
        refine fm_gO F w cl_Mo 331 37 358 T_331 (by decide) rfl rfl k_851 d_Mo_isKept_17 ?_
        refine lv_iload_n F.1 F.2.1 d_Mo_isKept_20 rfl (lv_at hl 2 rfl) ?_
        obtain ⟨h22, hw⟩ := hw
        refine fm_aL F w 358 T_358 (by decide) h22 d_Mo_isKept_21 ?_
        refine lv_aload_n F.1 F.2.1 d_Mo_isKept_22 rfl (lv_at hl 0 rfl) ?_
        refine fm_gO F w cl_Mo 331 40 360 T_331 (by decide) rfl rfl k_854 d_Mo_isKept_23 ?_
        refine lv_iload_n F.1 F.2.1 d_Mo_isKept_26 rfl (lv_at hl 2 rfl) ?_
        refine fm_aL F w 360 T_360 (by decide) h22 d_Mo_isKept_27 ?_
        refine fi_lmul F d_Mo_isKept_28 ?_
        refine lv_aload_n F.1 F.2.1 d_Mo_isKept_29 rfl (lv_at hl 0 rfl) ?_
        refine fm_gO F w cl_Mo 331 39 359 T_331 (by decide) rfl rfl k_853 d_Mo_isKept_30 ?_
        refine lv_iload_n F.1 F.2.1 d_Mo_isKept_33 rfl (lv_at hl 2 rfl) ?_
        refine fm_aL F w 359 T_359 (by decide) h22 d_Mo_isKept_34 ?_
        refine lv_aload_n F.1 F.2.1 d_Mo_isKept_35 rfl (lv_at hl 0 rfl) ?_
        refine fm_gL F w cl_Mo 331 38 T_331 (by decide) rfl k_852 d_Mo_isKept_36 ?_
        refine fi_lmul F d_Mo_isKept_39 ?_
        obtain ⟨h23, hw⟩ := hw
        obtain ⟨h24, hw⟩ := hw
        refine fi_lcmp F d_Mo_isKept_40 h23 h24 ?_
        refine fi_if_ne F d_Mo_isKept_41 (tgt := 48) (by decide) rg_jcmp (fun hc25 => ?_) (fun hc25 => ?_)
        · have hw := hw.1 hc25
          refine lv_iconst (v := Int32.ofInt 0) F.1 F.2.1 d_Mo_isKept_48 (by decide) ?_
          exact blk_49 J_4 M v2 0 hw hJ_4 H locs ls w (lv_sub hl [0, 2] rfl)
        · have hw := hw.2 hc25
          refine lv_iconst (v := Int32.ofInt 1) F.1 F.2.1 d_Mo_isKept_44 (by decide) ?_
          refine lv_goto F.1 F.2.1 d_Mo_isKept_45 (tgt := 49) (by decide) ?_
          exact blk_49 J_4 M v2 1 hw hJ_4 H locs ls w (lv_sub hl [0, 2] rfl)
  have blk_4 : ∀ (M : fm_M) (v1 : Int) (v2 : Int), B_Mo_isKept_4 post thr M v1 v2 → fx_G p l e { frames := 0, cells := 1, slots := 6, locals := 0 } s m ([.ref (ad 331)] : List Value).toArray below meth c D ad cA n0 0 post thr 3 M [(0, .ref (ad 331)), (1, .int (Int32.ofInt v1)), (2, .int (Int32.ofInt v2))] 4 [] := by
    intro M v1 v2 hw
    obtain ⟨I, μ, hI, hB⟩ := hw
    have key : ∀ (q : Nat) (M : fm_M) (v1 : Int) (v2 : Int), μ M v1 v2 < q → I M v1 v2 → fx_G p l e { frames := 0, cells := 1, slots := 6, locals := 0 } s m ([.ref (ad 331)] : List Value).toArray below meth c D ad cA n0 0 post thr 3 M [(0, .ref (ad 331)), (1, .int (Int32.ofInt v1)), (2, .int (Int32.ofInt v2))] 4 [] := by
      intro q
      induction q with
      | zero => intro M v1 v2 h _; exact absurd h (Nat.not_lt_zero _)
      | succ q ih =>
        intro M v1 v2 hμ hI
        exact blc_4 (fun M' v1' v2' => I M' v1' v2' ∧ μ M' v1' v2' < μ M v1 v2) M v1 v2 (hB M v1 v2 hI) (fun M' v1' v2' hh => ih M' v1' v2' (Nat.lt_of_lt_of_le hh.2 (Nat.le_of_lt_succ hμ)) hh.1)
    exact key _ M v1 v2 (Nat.lt_succ_self _) hI
  have hl : lv_has ls 3 [(0, .ref (ad 331))] := hl
  suffices h9 : fx_G p l e { frames := 0, cells := 1, slots := 6, locals := 0 } s m ([.ref (ad 331)] : List Value).toArray below meth c D ad cA n0 0 post thr 3 M [(0, .ref (ad 331))] 0 [] from h9 _ _ _ w hl
  intro H locs ls w hl
  refine lv_iconst (v := Int32.ofInt 1) F.1 F.2.1 d_Mo_isKept_0 (by decide) ?_
  refine lv_istore_n F.1 F.2.1 d_Mo_isKept_1 rfl hl (by decide) rfl (fun ls hl => ?_)
  have hl : lv_has ls 3 [(1, .int (Int32.ofInt 1)), (0, .ref (ad 331))] := hl
  refine lv_iconst (v := Int32.ofInt 0) F.1 F.2.1 d_Mo_isKept_2 (by decide) ?_
  refine lv_istore_n F.1 F.2.1 d_Mo_isKept_3 rfl hl (by decide) rfl (fun ls hl => ?_)
  have hl : lv_has ls 3 [(2, .int (Int32.ofInt 0)), (1, .int (Int32.ofInt 1)), (0, .ref (ad 331))] := hl
  exact blk_4 M 1 0 hw H locs ls w (lv_sub hl [2, 1, 0] rfl)
set_option maxHeartbeats 4000000 in
set_option maxRecDepth 100000 in
theorem met_Mo_allowAll (l : Launch) (hst9 : l.stackTraces = false) (D : va_G) (ad : Nat → Nat) (cA : Nat → ClassId) (n0 : Nat) (M : fm_M) (post : Int → fm_M → Prop) (thr : String → fm_M → Prop) (hw : wp_Mo_allowAll M post thr) : fx_Met l y_Mo_allowAll (Cond.code y_Mo_allowAll b_Mo_allowAll 2 none :: tb) { frames := 0, cells := 1, slots := 6, locals := 0 } [.ref (ad 331)] D ad cA n0 M 3 post thr := by
  refine fx_met (by decide) (Nat.le_of_ble_eq_true rfl) (fun p e s m below meth c ls F w hno hr hlk hl => ?_)
  have blc_2 : ∀ (J_2 : (fm_M → Int → Prop)) (M : fm_M) (v1 : Int), C_Mo_allowAll_2 post thr J_2 M v1 → (∀ (M : fm_M) (v1 : Int), J_2 M v1 → fx_G p l e { frames := 0, cells := 1, slots := 6, locals := 0 } s m ([.ref (ad 331)] : List Value).toArray below meth c D ad cA n0 3 post thr 2 M [(0, .ref (ad 331)), (1, .int (Int32.ofInt v1))] 2 []) → fx_G p l e { frames := 0, cells := 1, slots := 6, locals := 0 } s m ([.ref (ad 331)] : List Value).toArray below meth c D ad cA n0 3 post thr 2 M [(0, .ref (ad 331)), (1, .int (Int32.ofInt v1))] 2 [] := by
    intro J_2 M v1 hw hJ_2 H locs ls w hl
    refine lv_iload_n F.1 F.2.1 d_Mo_allowAll_2 rfl (lv_at hl 1 rfl) ?_
    refine lv_aload_n F.1 F.2.1 d_Mo_allowAll_3 rfl (lv_at hl 0 rfl) ?_
    refine fm_gI F w cl_Mo 331 20 T_331 (by decide) rfl k_834 d_Mo_allowAll_4 ?_
    obtain ⟨h9, hw⟩ := hw
    obtain ⟨h10, hw⟩ := hw
    refine fi_icmp_ge F d_Mo_allowAll_7 (tgt := 32) (by decide) h9 h10 (fun hc11 => ?_) (fun hc11 => ?_)
    · have hw := hw.1 hc11
      exact fx_vret F w hr hlk hw d_Mo_allowAll_32
    · have hw := hw.2 hc11
      refine lv_aload_n F.1 F.2.1 d_Mo_allowAll_10 rfl (lv_at hl 0 rfl) ?_
      refine fm_gO F w cl_Mo 331 30 352 T_331 (by decide) rfl rfl k_844 d_Mo_allowAll_11 ?_
      refine lv_iload_n F.1 F.2.1 d_Mo_allowAll_14 rfl (lv_at hl 1 rfl) ?_
      refine lv_iconst (v := Int32.ofInt 1) F.1 F.2.1 d_Mo_allowAll_15 (by decide) ?_
      refine lv_aload_n F.1 F.2.1 d_Mo_allowAll_16 rfl (lv_at hl 0 rfl) ?_
      refine fm_gO F w cl_Mo 331 27 349 T_331 (by decide) rfl rfl k_841 d_Mo_allowAll_17 ?_
      refine lv_iload_n F.1 F.2.1 d_Mo_allowAll_20 rfl (lv_at hl 1 rfl) ?_
      obtain ⟨h12, hw⟩ := hw
      refine fm_aI F w 349 T_349 (by decide) h12 d_Mo_allowAll_21 ?_
      refine fi_ishl F d_Mo_allowAll_22 ?_
      refine lv_iconst (v := Int32.ofInt 1) F.1 F.2.1 d_Mo_allowAll_23 (by decide) ?_
      refine fi_isub F d_Mo_allowAll_24 ?_
      refine fm_sI F w 352 T_352 (by decide) h12  d_Mo_allowAll_25 (fun M13 hM13 H locs w => ?_)
      have hw := hw M13 hM13
      refine fi_iinc (k := 1) (v := (v1 + 1)) F d_Mo_allowAll_26 hl rfl rfl (by decide) rfl (fun ls hl => ?_)
      have hl : lv_has ls 2 [(1, .int (Int32.ofInt (v1 + 1))), (0, .ref (ad 331))] := hl
      refine lv_goto F.1 F.2.1 d_Mo_allowAll_29 (tgt := 2) (by decide) ?_
      exact hJ_2 M13 (v1 + 1) hw H locs ls w (lv_sub hl [1, 0] rfl)
  have blk_2 : ∀ (M : fm_M) (v1 : Int), B_Mo_allowAll_2 post thr M v1 → fx_G p l e { frames := 0, cells := 1, slots := 6, locals := 0 } s m ([.ref (ad 331)] : List Value).toArray below meth c D ad cA n0 3 post thr 2 M [(0, .ref (ad 331)), (1, .int (Int32.ofInt v1))] 2 [] := by
    intro M v1 hw
    obtain ⟨I, μ, hI, hB⟩ := hw
    have key : ∀ (q : Nat) (M : fm_M) (v1 : Int), μ M v1 < q → I M v1 → fx_G p l e { frames := 0, cells := 1, slots := 6, locals := 0 } s m ([.ref (ad 331)] : List Value).toArray below meth c D ad cA n0 3 post thr 2 M [(0, .ref (ad 331)), (1, .int (Int32.ofInt v1))] 2 [] := by
      intro q
      induction q with
      | zero => intro M v1 h _; exact absurd h (Nat.not_lt_zero _)
      | succ q ih =>
        intro M v1 hμ hI
        exact blc_2 (fun M' v1' => I M' v1' ∧ μ M' v1' < μ M v1) M v1 (hB M v1 hI) (fun M' v1' hh => ih M' v1' (Nat.lt_of_lt_of_le hh.2 (Nat.le_of_lt_succ hμ)) hh.1)
    exact key _ M v1 (Nat.lt_succ_self _) hI
  have hl : lv_has ls 2 [(0, .ref (ad 331))] := hl
  suffices h9 : fx_G p l e { frames := 0, cells := 1, slots := 6, locals := 0 } s m ([.ref (ad 331)] : List Value).toArray below meth c D ad cA n0 3 post thr 2 M [(0, .ref (ad 331))] 0 [] from h9 _ _ _ w hl
  intro H locs ls w hl
  refine lv_iconst (v := Int32.ofInt 0) F.1 F.2.1 d_Mo_allowAll_0 (by decide) ?_
  refine lv_istore_n F.1 F.2.1 d_Mo_allowAll_1 rfl hl (by decide) rfl (fun ls hl => ?_)
  have hl : lv_has ls 2 [(1, .int (Int32.ofInt 0)), (0, .ref (ad 331))] := hl
  exact blk_2 M 0 hw H locs ls w (lv_sub hl [1, 0] rfl)
set_option maxHeartbeats 4000000 in
set_option maxRecDepth 100000 in
theorem met_Mo_findBest (l : Launch) (hst9 : l.stackTraces = false) (D : va_G) (ad : Nat → Nat) (cA : Nat → ClassId) (n0 : Nat) (M : fm_M) (a1 : Int) (post : Int → fm_M → Prop) (thr : String → fm_M → Prop) (hw : wp_Mo_findBest M a1 post thr) : fx_Met l y_Mo_findBest (Cond.code y_Mo_findBest b_Mo_findBest 5 none :: tb) { frames := 4, cells := 1, slots := 6, locals := 103 } [.ref (ad 331), .int (Int32.ofInt a1)] D ad cA n0 M 3 post thr := by
  refine fx_met (by decide) (Nat.le_of_ble_eq_true rfl) (fun p e s m below meth c ls F w hno hr hlk hl => ?_)
  have blk_80 : ∀ (J_6 : (fm_M → Int → Prop)) (M : fm_M) (v2 : Int) (v3 : Int), B_Mo_findBest_80 a1 post thr J_6 M v2 v3 → (∀ (M : fm_M) (v2 : Int), J_6 M v2 → fx_G p l e { frames := 4, cells := 1, slots := 6, locals := 103 } s m ([.ref (ad 331), .int (Int32.ofInt a1)] : List Value).toArray below meth c D ad cA n0 3 post thr 5 M [(0, .ref (ad 331)), (1, .int (Int32.ofInt a1)), (2, .int (Int32.ofInt v2))] 6 []) → fx_G p l e { frames := 4, cells := 1, slots := 6, locals := 103 } s m ([.ref (ad 331), .int (Int32.ofInt a1)] : List Value).toArray below meth c D ad cA n0 3 post thr 5 M [(0, .ref (ad 331)), (1, .int (Int32.ofInt a1)), (2, .int (Int32.ofInt v2)), (3, .int (Int32.ofInt v3))] 80 [] := by
    intro J_6 M v2 v3 hw hJ_6 H locs ls w hl
    refine lv_aload_n F.1 F.2.1 d_Mo_findBest_80 rfl (lv_at hl 0 rfl) ?_
    refine fm_gO F w cl_Mo 331 41 361 T_331 (by decide) rfl rfl k_855 d_Mo_findBest_81 ?_
    refine lv_iload_n F.1 F.2.1 d_Mo_findBest_84 rfl (lv_at hl 2 rfl) ?_
    refine lv_aload_n F.1 F.2.1 d_Mo_findBest_85 rfl (lv_at hl 0 rfl) ?_
    refine fm_gO F w cl_Mo 331 26 348 T_331 (by decide) rfl rfl k_840 d_Mo_findBest_86 ?_
    refine lv_bipush (v := Int32.ofInt 10) F.1 F.2.1 d_Mo_findBest_89 (by decide) ?_
    refine lv_iload_n F.1 F.2.1 d_Mo_findBest_91 rfl (lv_at hl 2 rfl) ?_
    refine fi_imul F d_Mo_findBest_92 ?_
    refine lv_iload_n F.1 F.2.1 d_Mo_findBest_93 rfl (lv_at hl 3 rfl) ?_
    refine fi_iadd F d_Mo_findBest_94 ?_
    obtain ⟨h54, hw⟩ := hw
    refine fm_aI F w 348 T_348 (by decide) h54 d_Mo_findBest_95 ?_
    obtain ⟨h55, hw⟩ := hw
    refine fm_sI F w 361 T_361 (by decide) h55  d_Mo_findBest_96 (fun M56 hM56 H locs w => ?_)
    have hw := hw M56 hM56
    refine fi_iinc (k := 2) (v := (v2 + 1)) F d_Mo_findBest_97 hl rfl rfl (by decide) rfl (fun ls hl => ?_)
    have hl : lv_has ls 5 [(2, .int (Int32.ofInt (v2 + 1))), (0, .ref (ad 331)), (1, .int (Int32.ofInt a1)), (3, .int (Int32.ofInt v3))] := hl
    refine lv_goto F.1 F.2.1 d_Mo_findBest_100 (tgt := 6) (by decide) ?_
    exact hJ_6 M56 (v2 + 1) hw H locs ls w (lv_sub hl [1, 2, 0] rfl)
  have blc_38 : ∀ (J_6 : (fm_M → Int → Prop)) (J_38 : (fm_M → Int → Int → Int → Prop)) (M : fm_M) (v2 : Int) (v3 : Int) (v4 : Int), C_Mo_findBest_38 a1 post thr J_6 J_38 M v2 v3 v4 → (∀ (M : fm_M) (v2 : Int), J_6 M v2 → fx_G p l e { frames := 4, cells := 1, slots := 6, locals := 103 } s m ([.ref (ad 331), .int (Int32.ofInt a1)] : List Value).toArray below meth c D ad cA n0 3 post thr 5 M [(0, .ref (ad 331)), (1, .int (Int32.ofInt a1)), (2, .int (Int32.ofInt v2))] 6 []) → (∀ (M : fm_M) (v2 : Int) (v3 : Int) (v4 : Int), J_38 M v2 v3 v4 → fx_G p l e { frames := 4, cells := 1, slots := 6, locals := 103 } s m ([.ref (ad 331), .int (Int32.ofInt a1)] : List Value).toArray below meth c D ad cA n0 3 post thr 5 M [(0, .ref (ad 331)), (1, .int (Int32.ofInt a1)), (2, .int (Int32.ofInt v2)), (3, .int (Int32.ofInt v3)), (4, .int (Int32.ofInt v4))] 38 []) → fx_G p l e { frames := 4, cells := 1, slots := 6, locals := 103 } s m ([.ref (ad 331), .int (Int32.ofInt a1)] : List Value).toArray below meth c D ad cA n0 3 post thr 5 M [(0, .ref (ad 331)), (1, .int (Int32.ofInt a1)), (2, .int (Int32.ofInt v2)), (3, .int (Int32.ofInt v3)), (4, .int (Int32.ofInt v4))] 38 [] := by
    intro J_6 J_38 M v2 v3 v4 hw hJ_6 hJ_38 H locs ls w hl
    refine lv_iload F.1 F.2.1 d_Mo_findBest_38 (lv_at hl 4 rfl) ?_
    obtain ⟨h57, hw⟩ := hw
    refine fi_if_ne F d_Mo_findBest_40 (tgt := 80) (by decide) h57 (fun hc58 => ?_) (fun hc58 => ?_)
    · have hw := hw.1 hc58
      exact blk_80 J_6 M v2 v3 hw hJ_6 H locs ls w (lv_sub hl [0, 1, 2, 3] rfl)
    · have hw := hw.2 hc58
      refine lv_iload_n F.1 F.2.1 d_Mo_findBest_43 rfl (lv_at hl 3 rfl) ?_
      refine lv_aload_n F.1 F.2.1 d_Mo_findBest_44 rfl (lv_at hl 0 rfl) ?_
      refine fm_gO F w cl_Mo 331 27 349 T_331 (by decide) rfl rfl k_841 d_Mo_findBest_45 ?_
      refine lv_iload_n F.1 F.2.1 d_Mo_findBest_48 rfl (lv_at hl 2 rfl) ?_
      obtain ⟨h59, hw⟩ := hw
      refine fm_aI F w 349 T_349 (by decide) h59 d_Mo_findBest_49 ?_
      refine lv_iconst (v := Int32.ofInt 1) F.1 F.2.1 d_Mo_findBest_50 (by decide) ?_
      refine fi_isub F d_Mo_findBest_51 ?_
      obtain ⟨h60, hw⟩ := hw
      obtain ⟨h61, hw⟩ := hw
      refine fi_icmp_ge F d_Mo_findBest_52 (tgt := 80) (by decide) h60 h61 (fun hc62 => ?_) (fun hc62 => ?_)
      · have hw := hw.1 hc62
        exact blk_80 J_6 M v2 v3 hw hJ_6 H locs ls w (lv_sub hl [0, 1, 2, 3] rfl)
      · have hw := hw.2 hc62
        refine fi_iinc (k := 3) (v := (v3 + 1)) F d_Mo_findBest_55 hl rfl rfl (by decide) rfl (fun ls hl => ?_)
        have hl : lv_has ls 5 [(3, .int (Int32.ofInt (v3 + 1))), (0, .ref (ad 331)), (1, .int (Int32.ofInt a1)), (2, .int (Int32.ofInt v2)), (4, .int (Int32.ofInt v4))] := hl
        refine lv_aload_n F.1 F.2.1 d_Mo_findBest_58 rfl (lv_at hl 1 rfl) ?_
        refine fm_gO F w cl_Mo 331 30 352 T_331 (by decide) rfl rfl k_844 d_Mo_findBest_59 ?_
        refine lv_iload_n F.1 F.2.1 d_Mo_findBest_62 rfl (lv_at hl 3 rfl) ?_
        refine lv_iconst (v := Int32.ofInt 1) F.1 F.2.1 d_Mo_findBest_63 (by decide) ?_
        refine lv_iload_n F.1 F.2.1 d_Mo_findBest_64 rfl (lv_at hl 0 rfl) ?_
        refine fi_ishl F d_Mo_findBest_65 ?_
        refine fm_sI F w 352 T_352 (by decide) h59  d_Mo_findBest_66 (fun M63 hM63 H locs w => ?_)
        have hw := hw M63 hM63
        refine lv_aload_n F.1 F.2.1 d_Mo_findBest_67 rfl (lv_at hl 1 rfl) ?_
        refine fx_c w hno hlk (fx_rV (As := []) (rest := []) F w cl_Mo 331 T_331 (met_Mo_solveGame l hst9 D ad cA n0 M63 _ thr hw) e_Mo_solveGame ki_Mo_solveGame ks_Mo_solveGame k_1071 rfl hl.1 rfl (Nat.le_of_ble_eq_true rfl) ⟨⟨Nat.le_of_ble_eq_true rfl, Nat.le_of_ble_eq_true rfl⟩, Nat.le_of_ble_eq_true rfl, Nat.le_of_ble_eq_true rfl⟩ d_Mo_findBest_68) (fun r65 M64 hw H locs w => ?_)
        refine lv_aload_n F.1 F.2.1 d_Mo_findBest_71 rfl (lv_at hl 1 rfl) ?_
        refine fx_c w hno hlk (fx_rV (As := []) (rest := []) F w cl_Mo 331 T_331 (met_Mo_isKept l hst9 D ad cA n0 M64 _ thr hw) e_Mo_isKept ki_Mo_isKept ks_Mo_isKept k_1122 rfl hl.1 rfl (Nat.le_of_ble_eq_true rfl) ⟨⟨Nat.le_of_ble_eq_true rfl, Nat.le_of_ble_eq_true rfl⟩, Nat.le_of_ble_eq_true rfl, Nat.le_of_ble_eq_true rfl⟩ d_Mo_findBest_72) (fun r67 M66 hw H locs w => ?_)
        show W p l e _ s m _ below meth c H locs 0 0 _ (F0 m 75 ls [.int (Int32.ofInt r67)])
        refine lv_istore F.1 F.2.1 d_Mo_findBest_75 hl (by decide) rfl (fun ls hl => ?_)
        have hl : lv_has ls 5 [(4, .int (Int32.ofInt r67)), (3, .int (Int32.ofInt (v3 + 1))), (0, .ref (ad 331)), (1, .int (Int32.ofInt a1)), (2, .int (Int32.ofInt v2))] := hl
        refine lv_goto F.1 F.2.1 d_Mo_findBest_77 (tgt := 38) (by decide) ?_
        exact hJ_38 M66 v2 (v3 + 1) r67 hw H locs ls w (lv_sub hl [2, 3, 4, 1, 0] rfl)
  have blk_38 : ∀ (J_6 : (fm_M → Int → Prop)) (M : fm_M) (v2 : Int) (v3 : Int) (v4 : Int), B_Mo_findBest_38 a1 post thr J_6 M v2 v3 v4 → (∀ (M : fm_M) (v2 : Int), J_6 M v2 → fx_G p l e { frames := 4, cells := 1, slots := 6, locals := 103 } s m ([.ref (ad 331), .int (Int32.ofInt a1)] : List Value).toArray below meth c D ad cA n0 3 post thr 5 M [(0, .ref (ad 331)), (1, .int (Int32.ofInt a1)), (2, .int (Int32.ofInt v2))] 6 []) → fx_G p l e { frames := 4, cells := 1, slots := 6, locals := 103 } s m ([.ref (ad 331), .int (Int32.ofInt a1)] : List Value).toArray below meth c D ad cA n0 3 post thr 5 M [(0, .ref (ad 331)), (1, .int (Int32.ofInt a1)), (2, .int (Int32.ofInt v2)), (3, .int (Int32.ofInt v3)), (4, .int (Int32.ofInt v4))] 38 [] := by
    intro J_6 M v2 v3 v4 hw hJ_6
    obtain ⟨I, μ, hI, hB⟩ := hw
    have key : ∀ (q : Nat) (M : fm_M) (v2 : Int) (v3 : Int) (v4 : Int), μ M v2 v3 v4 < q → I M v2 v3 v4 → fx_G p l e { frames := 4, cells := 1, slots := 6, locals := 103 } s m ([.ref (ad 331), .int (Int32.ofInt a1)] : List Value).toArray below meth c D ad cA n0 3 post thr 5 M [(0, .ref (ad 331)), (1, .int (Int32.ofInt a1)), (2, .int (Int32.ofInt v2)), (3, .int (Int32.ofInt v3)), (4, .int (Int32.ofInt v4))] 38 [] := by
      intro q
      induction q with
      | zero => intro M v2 v3 v4 h _; exact absurd h (Nat.not_lt_zero _)
      | succ q ih =>
        intro M v2 v3 v4 hμ hI
        exact blc_38 J_6 (fun M' v2' v3' v4' => I M' v2' v3' v4' ∧ μ M' v2' v3' v4' < μ M v2 v3 v4) M v2 v3 v4 (hB M v2 v3 v4 hI) hJ_6 (fun M' v2' v3' v4' hh => ih M' v2' v3' v4' (Nat.lt_of_lt_of_le hh.2 (Nat.le_of_lt_succ hμ)) hh.1)
    exact key _ M v2 v3 v4 (Nat.lt_succ_self _) hI
  have blc_6 : ∀ (J_6 : (fm_M → Int → Prop)) (M : fm_M) (v2 : Int), C_Mo_findBest_6 a1 post thr J_6 M v2 → (∀ (M : fm_M) (v2 : Int), J_6 M v2 → fx_G p l e { frames := 4, cells := 1, slots := 6, locals := 103 } s m ([.ref (ad 331), .int (Int32.ofInt a1)] : List Value).toArray below meth c D ad cA n0 3 post thr 5 M [(0, .ref (ad 331)), (1, .int (Int32.ofInt a1)), (2, .int (Int32.ofInt v2))] 6 []) → fx_G p l e { frames := 4, cells := 1, slots := 6, locals := 103 } s m ([.ref (ad 331), .int (Int32.ofInt a1)] : List Value).toArray below meth c D ad cA n0 3 post thr 5 M [(0, .ref (ad 331)), (1, .int (Int32.ofInt a1)), (2, .int (Int32.ofInt v2))] 6 [] := by
    intro J_6 M v2 hw hJ_6 H locs ls w hl
    refine lv_iload_n F.1 F.2.1 d_Mo_findBest_6 rfl (lv_at hl 2 rfl) ?_
    refine lv_aload_n F.1 F.2.1 d_Mo_findBest_7 rfl (lv_at hl 0 rfl) ?_
    refine fm_gI F w cl_Mo 331 20 T_331 (by decide) rfl k_834 d_Mo_findBest_8 ?_
    obtain ⟨h68, hw⟩ := hw
    obtain ⟨h69, hw⟩ := hw
    refine fi_icmp_ge F d_Mo_findBest_11 (tgt := 103) (by decide) h68 h69 (fun hc70 => ?_) (fun hc70 => ?_)
    · have hw := hw.1 hc70
      exact fx_vret F w hr hlk hw d_Mo_findBest_103
    · have hw := hw.2 hc70
      refine lv_aload_n F.1 F.2.1 d_Mo_findBest_14 rfl (lv_at hl 0 rfl) ?_
      refine fm_gO F w cl_Mo 331 27 349 T_331 (by decide) rfl rfl k_841 d_Mo_findBest_15 ?_
      refine lv_iload_n F.1 F.2.1 d_Mo_findBest_18 rfl (lv_at hl 2 rfl) ?_
      obtain ⟨h71, hw⟩ := hw
      refine fm_aI F w 349 T_349 (by decide) h71 d_Mo_findBest_19 ?_
      obtain ⟨h72, hw⟩ := hw
      refine fi_if_le F d_Mo_findBest_20 (tgt := 97) (by decide) h72 (fun hc73 => ?_) (fun hc73 => ?_)
      · have hw := hw.1 hc73
        refine fi_iinc (k := 2) (v := (v2 + 1)) F d_Mo_findBest_97 hl rfl rfl (by decide) rfl (fun ls hl => ?_)
        have hl : lv_has ls 5 [(2, .int (Int32.ofInt (v2 + 1))), (0, .ref (ad 331)), (1, .int (Int32.ofInt a1))] := hl
        refine lv_goto F.1 F.2.1 d_Mo_findBest_100 (tgt := 6) (by decide) ?_
        exact hJ_6 M (v2 + 1) hw H locs ls w (lv_sub hl [1, 2, 0] rfl)
      · have hw := hw.2 hc73
        refine lv_aload_n F.1 F.2.1 d_Mo_findBest_23 rfl (lv_at hl 0 rfl) ?_
        refine fm_gO F w cl_Mo 331 25 347 T_331 (by decide) rfl rfl k_839 d_Mo_findBest_24 ?_
        refine lv_iload_n F.1 F.2.1 d_Mo_findBest_27 rfl (lv_at hl 2 rfl) ?_
        refine fm_aZ F w 347 T_347 (by decide) h71 d_Mo_findBest_28 ?_
        refine lv_iload_n F.1 F.2.1 d_Mo_findBest_29 rfl (lv_at hl 1 rfl) ?_
        obtain ⟨h74, hw⟩ := hw
        obtain ⟨h75, hw⟩ := hw
        refine fi_icmp_ne F d_Mo_findBest_30 (tgt := 97) (by decide) h74 h75 (fun hc76 => ?_) (fun hc76 => ?_)
        · have hw := hw.1 hc76
          refine fi_iinc (k := 2) (v := (v2 + 1)) F d_Mo_findBest_97 hl rfl rfl (by decide) rfl (fun ls hl => ?_)
          have hl : lv_has ls 5 [(2, .int (Int32.ofInt (v2 + 1))), (0, .ref (ad 331)), (1, .int (Int32.ofInt a1))] := hl
          refine lv_goto F.1 F.2.1 d_Mo_findBest_100 (tgt := 6) (by decide) ?_
          exact hJ_6 M (v2 + 1) hw H locs ls w (lv_sub hl [1, 2, 0] rfl)
        · have hw := hw.2 hc76
          refine lv_iconst (v := Int32.ofInt (-1)) F.1 F.2.1 d_Mo_findBest_33 (by decide) ?_
          refine lv_istore_n F.1 F.2.1 d_Mo_findBest_34 rfl hl (by decide) rfl (fun ls hl => ?_)
          have hl : lv_has ls 5 [(3, .int (Int32.ofInt (-1))), (0, .ref (ad 331)), (1, .int (Int32.ofInt a1)), (2, .int (Int32.ofInt v2))] := hl
          refine lv_iconst (v := Int32.ofInt 0) F.1 F.2.1 d_Mo_findBest_35 (by decide) ?_
          refine lv_istore F.1 F.2.1 d_Mo_findBest_36 hl (by decide) rfl (fun ls hl => ?_)
          have hl : lv_has ls 5 [(4, .int (Int32.ofInt 0)), (3, .int (Int32.ofInt (-1))), (0, .ref (ad 331)), (1, .int (Int32.ofInt a1)), (2, .int (Int32.ofInt v2))] := hl
          exact blk_38 J_6 M v2 (-1) 0 hw hJ_6 H locs ls w (lv_sub hl [2, 3, 4, 1, 0] rfl)
  have blk_6 : ∀ (M : fm_M) (v2 : Int), B_Mo_findBest_6 a1 post thr M v2 → fx_G p l e { frames := 4, cells := 1, slots := 6, locals := 103 } s m ([.ref (ad 331), .int (Int32.ofInt a1)] : List Value).toArray below meth c D ad cA n0 3 post thr 5 M [(0, .ref (ad 331)), (1, .int (Int32.ofInt a1)), (2, .int (Int32.ofInt v2))] 6 [] := by
    intro M v2 hw
    obtain ⟨I, μ, hI, hB⟩ := hw
    have key : ∀ (q : Nat) (M : fm_M) (v2 : Int), μ M v2 < q → I M v2 → fx_G p l e { frames := 4, cells := 1, slots := 6, locals := 103 } s m ([.ref (ad 331), .int (Int32.ofInt a1)] : List Value).toArray below meth c D ad cA n0 3 post thr 5 M [(0, .ref (ad 331)), (1, .int (Int32.ofInt a1)), (2, .int (Int32.ofInt v2))] 6 [] := by
      intro q
      induction q with
      | zero => intro M v2 h _; exact absurd h (Nat.not_lt_zero _)
      | succ q ih =>
        intro M v2 hμ hI
        exact blc_6 (fun M' v2' => I M' v2' ∧ μ M' v2' < μ M v2) M v2 (hB M v2 hI) (fun M' v2' hh => ih M' v2' (Nat.lt_of_lt_of_le hh.2 (Nat.le_of_lt_succ hμ)) hh.1)
    exact key _ M v2 (Nat.lt_succ_self _) hI
  have hl : lv_has ls 5 [(0, .ref (ad 331)), (1, .int (Int32.ofInt a1))] := hl
  suffices h9 : fx_G p l e { frames := 4, cells := 1, slots := 6, locals := 103 } s m ([.ref (ad 331), .int (Int32.ofInt a1)] : List Value).toArray below meth c D ad cA n0 3 post thr 5 M [(0, .ref (ad 331)), (1, .int (Int32.ofInt a1))] 0 [] from h9 _ _ _ w hl
  intro H locs ls w hl
  refine lv_aload_n F.1 F.2.1 d_Mo_findBest_0 rfl (lv_at hl 0 rfl) ?_
  refine fx_c w hno hlk (fx_rV (As := []) (rest := []) F w cl_Mo 331 T_331 (met_Mo_allowAll l hst9 D ad cA n0 M _ thr hw) e_Mo_allowAll ki_Mo_allowAll ks_Mo_allowAll k_1067 rfl hl.1 rfl (Nat.le_of_ble_eq_true rfl) ⟨⟨Nat.le_of_ble_eq_true rfl, Nat.le_of_ble_eq_true rfl⟩, Nat.le_of_ble_eq_true rfl, Nat.le_of_ble_eq_true rfl⟩ d_Mo_findBest_1) (fun r78 M77 hw H locs w => ?_)
  refine lv_iconst (v := Int32.ofInt 0) F.1 F.2.1 d_Mo_findBest_4 (by decide) ?_
  refine lv_istore_n F.1 F.2.1 d_Mo_findBest_5 rfl hl (by decide) rfl (fun ls hl => ?_)
  have hl : lv_has ls 5 [(2, .int (Int32.ofInt 0)), (0, .ref (ad 331)), (1, .int (Int32.ofInt a1))] := hl
  exact blk_6 M77 0 hw H locs ls w (lv_sub hl [1, 2, 0] rfl)
set_option maxHeartbeats 4000000 in
set_option maxRecDepth 100000 in
theorem met_Mo_solve (l : Launch) (hst9 : l.stackTraces = false) (D : va_G) (ad : Nat → Nat) (cA : Nat → ClassId) (n0 : Nat) (M : fm_M) (post : Int → fm_M → Prop) (thr : String → fm_M → Prop) (hw : wp_Mo_solve M post thr) : fx_Met l y_Mo_solve (Cond.code y_Mo_solve b_Mo_solve 5 (some .int) :: tb) { frames := 5, cells := 1, slots := 6, locals := 127 } [.ref (ad 331)] D ad cA n0 M 0 post thr := by
  refine fx_met (by decide) (Nat.le_of_ble_eq_true rfl) (fun p e s m below meth c ls F w hno hr hlk hl => ?_)
  have blc_51 : ∀ (J_51 : (fm_M → Int → Int → Prop)) (M : fm_M) (v1 : Int) (v2 : Int), C_Mo_solve_51 post thr J_51 M v1 v2 → (∀ (M : fm_M) (v1 : Int) (v2 : Int), J_51 M v1 v2 → fx_G p l e { frames := 5, cells := 1, slots := 6, locals := 127 } s m ([.ref (ad 331)] : List Value).toArray below meth c D ad cA n0 0 post thr 5 M [(0, .ref (ad 331)), (1, .int (Int32.ofInt v1)), (2, .int (Int32.ofInt v2))] 51 []) → fx_G p l e { frames := 5, cells := 1, slots := 6, locals := 127 } s m ([.ref (ad 331)] : List Value).toArray below meth c D ad cA n0 0 post thr 5 M [(0, .ref (ad 331)), (1, .int (Int32.ofInt v1)), (2, .int (Int32.ofInt v2))] 51 [] := by
    intro J_51 M v1 v2 hw hJ_51 H locs ls w hl
    refine lv_iload_n F.1 F.2.1 d_Mo_solve_51 rfl (lv_at hl 2 rfl) ?_
    refine lv_aload_n F.1 F.2.1 d_Mo_solve_52 rfl (lv_at hl 0 rfl) ?_
    refine fm_gI F w cl_Mo 331 20 T_331 (by decide) rfl k_834 d_Mo_solve_53 ?_
    obtain ⟨h61, hw⟩ := hw
    obtain ⟨h62, hw⟩ := hw
    refine fi_icmp_ge F d_Mo_solve_56 (tgt := 112) (by decide) h61 h62 (fun hc63 => ?_) (fun hc63 => ?_)
    · have hw := hw.1 hc63
      refine lv_aload_n F.1 F.2.1 d_Mo_solve_112 rfl (lv_at hl 0 rfl) ?_
      refine lv_iconst (v := Int32.ofInt 1) F.1 F.2.1 d_Mo_solve_113 (by decide) ?_
      refine fx_c w hno hlk (fx_rV (As := [.int (Int32.ofInt 1)]) (rest := []) F w cl_Mo 331 T_331 (met_Mo_findBest l hst9 D ad cA n0 M 1 _ thr hw) e_Mo_findBest ki_Mo_findBest ks_Mo_findBest k_1118 rfl hl.1 rfl (Nat.le_of_ble_eq_true rfl) ⟨⟨Nat.le_of_ble_eq_true rfl, Nat.le_of_ble_eq_true rfl⟩, Nat.le_of_ble_eq_true rfl, Nat.le_of_ble_eq_true rfl⟩ d_Mo_solve_114) (fun r65 M64 hw H locs w => ?_)
      refine lv_aload_n F.1 F.2.1 d_Mo_solve_117 rfl (lv_at hl 0 rfl) ?_
      refine lv_iconst (v := Int32.ofInt 0) F.1 F.2.1 d_Mo_solve_118 (by decide) ?_
      refine fx_c w hno hlk (fx_rV (As := [.int (Int32.ofInt 0)]) (rest := []) F w cl_Mo 331 T_331 (met_Mo_findBest l hst9 D ad cA n0 M64 0 _ thr hw) e_Mo_findBest ki_Mo_findBest ks_Mo_findBest k_1118 rfl hl.1 rfl (Nat.le_of_ble_eq_true rfl) ⟨⟨Nat.le_of_ble_eq_true rfl, Nat.le_of_ble_eq_true rfl⟩, Nat.le_of_ble_eq_true rfl, Nat.le_of_ble_eq_true rfl⟩ d_Mo_solve_119) (fun r67 M66 hw H locs w => ?_)
      refine lv_aload_n F.1 F.2.1 d_Mo_solve_122 rfl (lv_at hl 0 rfl) ?_
      refine lv_iconst (v := Int32.ofInt 1) F.1 F.2.1 d_Mo_solve_123 (by decide) ?_
      refine fm_pZ F w cl_Mo 331 22 T_331 (by decide) rfl k_836 rfl rfl (by decide) d_Mo_solve_124 (fun M68 hM68 H locs w => ?_)
      have hw := hw M68 hM68
      refine lv_iload_n F.1 F.2.1 d_Mo_solve_127 rfl (lv_at hl 1 rfl) ?_
      exact fx_iret F w hr hlk hw d_Mo_solve_128
    · have hw := hw.2 hc63
      refine lv_aload_n F.1 F.2.1 d_Mo_solve_59 rfl (lv_at hl 0 rfl) ?_
      refine fm_gO F w cl_Mo 331 37 358 T_331 (by decide) rfl rfl k_851 d_Mo_solve_60 ?_
      refine lv_iload_n F.1 F.2.1 d_Mo_solve_63 rfl (lv_at hl 2 rfl) ?_
      obtain ⟨h69, hw⟩ := hw
      refine fm_aL F w 358 T_358 (by decide) h69 d_Mo_solve_64 ?_
      refine lv_aload_n F.1 F.2.1 d_Mo_solve_65 rfl (lv_at hl 0 rfl) ?_
      refine fm_gL F w cl_Mo 331 38 T_331 (by decide) rfl k_852 d_Mo_solve_66 ?_
      refine fx_c w hno hlk (fx_rS (As := [.long (Int64.ofInt (M 358 v2.toNat)), .long (Int64.ofInt (M 331 38))]) (rest := []) F w (met_Mo_divisor l hst9 D ad cA n0 M (M 358 v2.toNat) (M 331 38) _ thr hw) e_Mo_divisor kt_Mo_divisor k_1115 rfl hl.1 rfl (Nat.le_of_ble_eq_true rfl) ⟨⟨Nat.le_of_ble_eq_true rfl, Nat.le_of_ble_eq_true rfl⟩, Nat.le_of_ble_eq_true rfl, Nat.le_of_ble_eq_true rfl⟩ d_Mo_solve_69) (fun r71 M70 hw H locs w => ?_)
      show W p l e _ s m _ below meth c H locs 0 0 _ (F0 m 72 ls [.long (Int64.ofInt r71)])
      refine lv_lstore_n F.1 F.2.1 d_Mo_solve_72 rfl hl (by decide) rfl (fun ls hl => ?_)
      have hl : lv_has ls 5 [(3, .long (Int64.ofInt r71)), (0, .ref (ad 331)), (1, .int (Int32.ofInt v1)), (2, .int (Int32.ofInt v2))] := hl
      refine lv_aload_n F.1 F.2.1 d_Mo_solve_73 rfl (lv_at hl 1 rfl) ?_
      refine fm_gO F w cl_Mo 331 39 359 T_331 (by decide) rfl rfl k_853 d_Mo_solve_74 ?_
      refine lv_iload_n F.1 F.2.1 d_Mo_solve_77 rfl (lv_at hl 3 rfl) ?_
      refine lv_aload_n F.1 F.2.1 d_Mo_solve_78 rfl (lv_at hl 1 rfl) ?_
      refine fm_gO F w cl_Mo 331 37 358 T_331 (by decide) rfl rfl k_851 d_Mo_solve_79 ?_
      refine lv_iload_n F.1 F.2.1 d_Mo_solve_82 rfl (lv_at hl 3 rfl) ?_
      refine fm_aL F w 358 T_358 (by decide) h69 d_Mo_solve_83 ?_
      refine lv_lload_n F.1 F.2.1 d_Mo_solve_84 rfl (lv_at hl 0 rfl) ?_
      obtain ⟨h72, hw⟩ := hw
      obtain ⟨h73, hw⟩ := hw
      obtain ⟨h74, hw⟩ := hw
      refine fi_ldiv F d_Mo_solve_85 h72 h73 h74 ?_
      refine fm_sL F w 359 T_359 (by decide) h69  d_Mo_solve_86 (fun M75 hM75 H locs w => ?_)
      have hw := hw M75 hM75
      refine lv_aload_n F.1 F.2.1 d_Mo_solve_87 rfl (lv_at hl 1 rfl) ?_
      refine fm_gO F w cl_Mo 331 40 360 T_331 (by decide) rfl rfl k_854 d_Mo_solve_88 ?_
      refine lv_iload_n F.1 F.2.1 d_Mo_solve_91 rfl (lv_at hl 3 rfl) ?_
      refine lv_aload_n F.1 F.2.1 d_Mo_solve_92 rfl (lv_at hl 1 rfl) ?_
      refine fm_gL F w cl_Mo 331 38 T_331 (by decide) rfl k_852 d_Mo_solve_93 ?_
      refine lv_lload_n F.1 F.2.1 d_Mo_solve_96 rfl (lv_at hl 0 rfl) ?_
      obtain ⟨h76, hw⟩ := hw
      refine fi_ldiv F d_Mo_solve_97 h76 h73 h74 ?_
      refine fm_sL F w 360 T_360 (by decide) h69  d_Mo_solve_98 (fun M77 hM77 H locs w => ?_)
      have hw := hw M77 hM77
      refine lv_aload_n F.1 F.2.1 d_Mo_solve_99 rfl (lv_at hl 1 rfl) ?_
      refine fm_gO F w cl_Mo 331 41 361 T_331 (by decide) rfl rfl k_855 d_Mo_solve_100 ?_
      refine lv_iload_n F.1 F.2.1 d_Mo_solve_103 rfl (lv_at hl 3 rfl) ?_
      refine lv_iconst (v := Int32.ofInt (-1)) F.1 F.2.1 d_Mo_solve_104 (by decide) ?_
      refine fm_sI F w 361 T_361 (by decide) h69  d_Mo_solve_105 (fun M78 hM78 H locs w => ?_)
      have hw := hw M78 hM78
      refine fi_iinc (k := 3) (v := (v2 + 1)) F d_Mo_solve_106 hl rfl rfl (by decide) rfl (fun ls hl => ?_)
      have hl : lv_has ls 5 [(2, .int (Int32.ofInt (v2 + 1))), (3, .long (Int64.ofInt r71)), (0, .ref (ad 331)), (1, .int (Int32.ofInt v1))] := hl
      refine lv_goto F.1 F.2.1 d_Mo_solve_109 (tgt := 51) (by decide) ?_
      exact hJ_51 M78 v1 (v2 + 1) hw H locs ls w (lv_sub hl [2, 3, 0] rfl)
  have blk_51 : ∀ (M : fm_M) (v1 : Int) (v2 : Int), B_Mo_solve_51 post thr M v1 v2 → fx_G p l e { frames := 5, cells := 1, slots := 6, locals := 127 } s m ([.ref (ad 331)] : List Value).toArray below meth c D ad cA n0 0 post thr 5 M [(0, .ref (ad 331)), (1, .int (Int32.ofInt v1)), (2, .int (Int32.ofInt v2))] 51 [] := by
    intro M v1 v2 hw
    obtain ⟨I, μ, hI, hB⟩ := hw
    have key : ∀ (q : Nat) (M : fm_M) (v1 : Int) (v2 : Int), μ M v1 v2 < q → I M v1 v2 → fx_G p l e { frames := 5, cells := 1, slots := 6, locals := 127 } s m ([.ref (ad 331)] : List Value).toArray below meth c D ad cA n0 0 post thr 5 M [(0, .ref (ad 331)), (1, .int (Int32.ofInt v1)), (2, .int (Int32.ofInt v2))] 51 [] := by
      intro q
      induction q with
      | zero => intro M v1 v2 h _; exact absurd h (Nat.not_lt_zero _)
      | succ q ih =>
        intro M v1 v2 hμ hI
        exact blc_51 (fun M' v1' v2' => I M' v1' v2' ∧ μ M' v1' v2' < μ M v1 v2) M v1 v2 (hB M v1 v2 hI) (fun M' v1' v2' hh => ih M' v1' v2' (Nat.lt_of_lt_of_le hh.2 (Nat.le_of_lt_succ hμ)) hh.1)
    exact key _ M v1 v2 (Nat.lt_succ_self _) hI
  have blk_13 : ∀ (M : fm_M) (s0 : Int), B_Mo_solve_13 post thr M s0 → fx_G p l e { frames := 5, cells := 1, slots := 6, locals := 127 } s m ([.ref (ad 331)] : List Value).toArray below meth c D ad cA n0 0 post thr 5 M [(0, .ref (ad 331))] 13 [.int (Int32.ofInt s0), .ref (ad 331)] := by
    intro M s0 hw H locs ls w hl
    refine fm_pI F w cl_Mo 331 0 T_331 (by decide) rfl k_814 rfl rfl d_Mo_solve_13 (fun M79 hM79 H locs w => ?_)
    have hw := hw M79 hM79
    refine lv_aload_n F.1 F.2.1 d_Mo_solve_16 rfl (lv_at hl 0 rfl) ?_
    refine fm_gI F w cl_Mo 331 0 T_331 (by decide) rfl k_814 d_Mo_solve_17 ?_
    obtain ⟨h80, hw⟩ := hw
    refine fi_if_le F d_Mo_solve_20 (tgt := 25) (by decide) h80 (fun hc81 => ?_) (fun hc81 => ?_)
    · have hw := hw.1 hc81
      refine lv_aload_n F.1 F.2.1 d_Mo_solve_25 rfl (lv_at hl 0 rfl) ?_
      refine lv_iconst (v := Int32.ofInt 0) F.1 F.2.1 d_Mo_solve_26 (by decide) ?_
      refine fm_pZ F w cl_Mo 331 22 T_331 (by decide) rfl k_836 rfl rfl (by decide) d_Mo_solve_27 (fun M82 hM82 H locs w => ?_)
      have hw := hw M82 hM82
      refine lv_aload_n F.1 F.2.1 d_Mo_solve_30 rfl (lv_at hl 0 rfl) ?_
      refine fx_c w hno hlk (fx_rV (As := []) (rest := []) F w cl_Mo 331 T_331 (met_Mo_explore l hst9 D ad cA n0 M82 _ thr hw) e_Mo_explore ki_Mo_explore ks_Mo_explore k_1039 rfl hl.1 rfl (Nat.le_of_ble_eq_true rfl) ⟨⟨Nat.le_of_ble_eq_true rfl, Nat.le_of_ble_eq_true rfl⟩, Nat.le_of_ble_eq_true rfl, Nat.le_of_ble_eq_true rfl⟩ d_Mo_solve_31) (fun r84 M83 hw H locs w => ?_)
      show W p l e _ s m _ below meth c H locs 0 0 _ (F0 m 34 ls [.int (Int32.ofInt r84)])
      refine lv_istore_n F.1 F.2.1 d_Mo_solve_34 rfl hl (by decide) rfl (fun ls hl => ?_)
      have hl : lv_has ls 5 [(1, .int (Int32.ofInt r84)), (0, .ref (ad 331))] := hl
      refine lv_iload_n F.1 F.2.1 d_Mo_solve_35 rfl (lv_at hl 0 rfl) ?_
      obtain ⟨h85, hw⟩ := hw
      refine fi_if_ge F d_Mo_solve_36 (tgt := 41) (by decide) h85 (fun hc86 => ?_) (fun hc86 => ?_)
      · have hw := hw.1 hc86
        refine lv_aload_n F.1 F.2.1 d_Mo_solve_41 rfl (lv_at hl 1 rfl) ?_
        refine fx_c w hno hlk (fx_rV (As := []) (rest := []) F w cl_Mo 331 T_331 (met_Mo_allowAll l hst9 D ad cA n0 M83 _ thr hw) e_Mo_allowAll ki_Mo_allowAll ks_Mo_allowAll k_1067 rfl hl.1 rfl (Nat.le_of_ble_eq_true rfl) ⟨⟨Nat.le_of_ble_eq_true rfl, Nat.le_of_ble_eq_true rfl⟩, Nat.le_of_ble_eq_true rfl, Nat.le_of_ble_eq_true rfl⟩ d_Mo_solve_42) (fun r88 M87 hw H locs w => ?_)
        refine lv_aload_n F.1 F.2.1 d_Mo_solve_45 rfl (lv_at hl 1 rfl) ?_
        refine fx_c w hno hlk (fx_rV (As := []) (rest := []) F w cl_Mo 331 T_331 (met_Mo_solveGame l hst9 D ad cA n0 M87 _ thr hw) e_Mo_solveGame ki_Mo_solveGame ks_Mo_solveGame k_1071 rfl hl.1 rfl (Nat.le_of_ble_eq_true rfl) ⟨⟨Nat.le_of_ble_eq_true rfl, Nat.le_of_ble_eq_true rfl⟩, Nat.le_of_ble_eq_true rfl, Nat.le_of_ble_eq_true rfl⟩ d_Mo_solve_46) (fun r90 M89 hw H locs w => ?_)
        refine lv_iconst (v := Int32.ofInt 0) F.1 F.2.1 d_Mo_solve_49 (by decide) ?_
        refine lv_istore_n F.1 F.2.1 d_Mo_solve_50 rfl hl (by decide) rfl (fun ls hl => ?_)
        have hl : lv_has ls 5 [(2, .int (Int32.ofInt 0)), (1, .int (Int32.ofInt r84)), (0, .ref (ad 331))] := hl
        exact blk_51 M89 r84 0 hw H locs ls w (lv_sub hl [2, 1, 0] rfl)
      · have hw := hw.2 hc86
        refine lv_iload_n F.1 F.2.1 d_Mo_solve_39 rfl (lv_at hl 0 rfl) ?_
        exact fx_iret F w hr hlk hw d_Mo_solve_40
    · have hw := hw.2 hc81
      refine lv_iconst (v := Int32.ofInt 0) F.1 F.2.1 d_Mo_solve_23 (by decide) ?_
      exact fx_iret F w hr hlk hw d_Mo_solve_24
  have hl : lv_has ls 5 [(0, .ref (ad 331))] := hl
  suffices h9 : fx_G p l e { frames := 5, cells := 1, slots := 6, locals := 127 } s m ([.ref (ad 331)] : List Value).toArray below meth c D ad cA n0 0 post thr 5 M [(0, .ref (ad 331))] 0 [] from h9 _ _ _ w hl
  intro H locs ls w hl
  refine lv_aload_n F.1 F.2.1 d_Mo_solve_0 rfl (lv_at hl 0 rfl) ?_
  refine lv_aload_n F.1 F.2.1 d_Mo_solve_1 rfl (lv_at hl 0 rfl) ?_
  refine fm_gI F w cl_Mo 331 6 T_331 (by decide) rfl k_820 d_Mo_solve_2 ?_
  obtain ⟨h91, hw⟩ := hw
  refine fi_if_ge F d_Mo_solve_5 (tgt := 12) (by decide) h91 (fun hc92 => ?_) (fun hc92 => ?_)
  · have hw := hw.1 hc92
    refine lv_iconst (v := Int32.ofInt 0) F.1 F.2.1 d_Mo_solve_12 (by decide) ?_
    exact blk_13 M 0 hw H locs ls w (lv_sub hl [0] rfl)
  · have hw := hw.2 hc92
    refine lv_iconst (v := Int32.ofInt 1) F.1 F.2.1 d_Mo_solve_8 (by decide) ?_
    refine lv_goto F.1 F.2.1 d_Mo_solve_9 (tgt := 13) (by decide) ?_
    exact blk_13 M 1 hw H locs ls w (lv_sub hl [0] rfl)
set_option maxHeartbeats 4000000 in
set_option maxRecDepth 100000 in
theorem met_Mo_isState (l : Launch) (hst9 : l.stackTraces = false) (D : va_G) (ad : Nat → Nat) (cA : Nat → ClassId) (n0 : Nat) (M : fm_M) (a1 : Int) (post : Int → fm_M → Prop) (thr : String → fm_M → Prop) (hw : wp_Mo_isState M a1 post thr) : fx_Met l y_Mo_isState (Cond.code y_Mo_isState b_Mo_isState 2 (some .boolean) :: tb) { frames := 1, cells := 1, slots := 6, locals := 22 } [.ref (ad 331), .int (Int32.ofInt a1)] D ad cA n0 M 0 post thr := by
  refine fx_met (by decide) (Nat.le_of_ble_eq_true rfl) (fun p e s m below meth c ls F w hno hr hlk hl => ?_)
  have hl : lv_has ls 2 [(0, .ref (ad 331)), (1, .int (Int32.ofInt a1))] := hl
  suffices h9 : fx_G p l e { frames := 1, cells := 1, slots := 6, locals := 22 } s m ([.ref (ad 331), .int (Int32.ofInt a1)] : List Value).toArray below meth c D ad cA n0 0 post thr 2 M [(0, .ref (ad 331)), (1, .int (Int32.ofInt a1))] 0 [] from h9 _ _ _ w hl
  intro H locs ls w hl
  refine lv_iload_n F.1 F.2.1 d_Mo_isState_0 rfl (lv_at hl 1 rfl) ?_
  refine lv_iconst (v := Int32.ofInt 0) F.1 F.2.1 d_Mo_isState_1 (by decide) ?_
  refine lv_aload_n F.1 F.2.1 d_Mo_isState_2 rfl (lv_at hl 0 rfl) ?_
  refine fm_gI F w cl_Mo 331 20 T_331 (by decide) rfl k_834 d_Mo_isState_3 ?_
  refine lv_iconst (v := Int32.ofInt 1) F.1 F.2.1 d_Mo_isState_6 (by decide) ?_
  refine fi_isub F d_Mo_isState_7 ?_
  refine fx_c w hno hlk (fx_rS (As := [.int (Int32.ofInt a1), .int (Int32.ofInt 0), .int (Int32.ofInt ((M 331 20) - 1))]) (rest := []) F w (met_Mo_within l hst9 D ad cA n0 M a1 0 ((M 331 20) - 1) _ thr hw) e_Mo_within kt_Mo_within k_946 rfl hl.1 rfl (Nat.le_of_ble_eq_true rfl) ⟨⟨Nat.le_of_ble_eq_true rfl, Nat.le_of_ble_eq_true rfl⟩, Nat.le_of_ble_eq_true rfl, Nat.le_of_ble_eq_true rfl⟩ d_Mo_isState_8) (fun r5 M4 hw H locs w => ?_)
  show W p l e _ s m _ below meth c H locs 0 0 _ (F0 m 11 ls [.int (Int32.ofInt r5)])
  obtain ⟨h6, hw⟩ := hw
  exact fx_zret F w hr hlk (fx_nz h6) hw d_Mo_isState_11
set_option maxHeartbeats 4000000 in
set_option maxRecDepth 100000 in
theorem met_Mo_states (l : Launch) (hst9 : l.stackTraces = false) (D : va_G) (ad : Nat → Nat) (cA : Nat → ClassId) (n0 : Nat) (M : fm_M) (post : Int → fm_M → Prop) (thr : String → fm_M → Prop) (hw : wp_Mo_states M post thr) : fx_Met l y_Mo_states (Cond.code y_Mo_states b_Mo_states 1 (some .int) :: tb) { frames := 0, cells := 1, slots := 6, locals := 0 } [.ref (ad 331)] D ad cA n0 M 0 post thr := by
  refine fx_met (by decide) (Nat.le_of_ble_eq_true rfl) (fun p e s m below meth c ls F w hno hr hlk hl => ?_)
  have hl : lv_has ls 1 [(0, .ref (ad 331))] := hl
  suffices h9 : fx_G p l e { frames := 0, cells := 1, slots := 6, locals := 0 } s m ([.ref (ad 331)] : List Value).toArray below meth c D ad cA n0 0 post thr 1 M [(0, .ref (ad 331))] 0 [] from h9 _ _ _ w hl
  intro H locs ls w hl
  refine lv_aload_n F.1 F.2.1 d_Mo_states_0 rfl (lv_at hl 0 rfl) ?_
  refine lv_iconst (v := Int32.ofInt 0) F.1 F.2.1 d_Mo_states_1 (by decide) ?_
  refine fm_pI F w cl_Mo 331 0 T_331 (by decide) rfl k_814 rfl rfl d_Mo_states_2 (fun M2 hM2 H locs w => ?_)
  have hw := hw M2 hM2
  refine lv_aload_n F.1 F.2.1 d_Mo_states_5 rfl (lv_at hl 0 rfl) ?_
  refine fm_gI F w cl_Mo 331 20 T_331 (by decide) rfl k_834 d_Mo_states_6 ?_
  exact fx_iret F w hr hlk hw d_Mo_states_9
set_option maxHeartbeats 4000000 in
set_option maxRecDepth 100000 in
theorem met_Mo_mixed (l : Launch) (hst9 : l.stackTraces = false) (D : va_G) (ad : Nat → Nat) (cA : Nat → ClassId) (n0 : Nat) (M : fm_M) (post : Int → fm_M → Prop) (thr : String → fm_M → Prop) (hw : wp_Mo_mixed M post thr) : fx_Met l y_Mo_mixed (Cond.code y_Mo_mixed b_Mo_mixed 1 (some .int) :: tb) { frames := 0, cells := 1, slots := 6, locals := 0 } [.ref (ad 331)] D ad cA n0 M 0 post thr := by
  refine fx_met (by decide) (Nat.le_of_ble_eq_true rfl) (fun p e s m below meth c ls F w hno hr hlk hl => ?_)
  have hl : lv_has ls 1 [(0, .ref (ad 331))] := hl
  suffices h9 : fx_G p l e { frames := 0, cells := 1, slots := 6, locals := 0 } s m ([.ref (ad 331)] : List Value).toArray below meth c D ad cA n0 0 post thr 1 M [(0, .ref (ad 331))] 0 [] from h9 _ _ _ w hl
  intro H locs ls w hl
  refine lv_aload_n F.1 F.2.1 d_Mo_mixed_0 rfl (lv_at hl 0 rfl) ?_
  refine lv_iconst (v := Int32.ofInt 0) F.1 F.2.1 d_Mo_mixed_1 (by decide) ?_
  refine fm_pI F w cl_Mo 331 0 T_331 (by decide) rfl k_814 rfl rfl d_Mo_mixed_2 (fun M2 hM2 H locs w => ?_)
  have hw := hw M2 hM2
  refine lv_aload_n F.1 F.2.1 d_Mo_mixed_5 rfl (lv_at hl 0 rfl) ?_
  refine fm_gI F w cl_Mo 331 21 T_331 (by decide) rfl k_835 d_Mo_mixed_6 ?_
  exact fx_iret F w hr hlk hw d_Mo_mixed_9
set_option maxHeartbeats 4000000 in
set_option maxRecDepth 100000 in
theorem met_Mo_variable (l : Launch) (hst9 : l.stackTraces = false) (D : va_G) (ad : Nat → Nat) (cA : Nat → ClassId) (n0 : Nat) (M : fm_M) (a1 : Int) (a2 : Int) (post : Int → fm_M → Prop) (thr : String → fm_M → Prop) (hw : wp_Mo_variable M a1 a2 post thr) : fx_Met l y_Mo_variable (Cond.code y_Mo_variable b_Mo_variable 3 (some .int) :: tb) { frames := 2, cells := 1, slots := 6, locals := 43 } [.ref (ad 331), .int (Int32.ofInt a1), .int (Int32.ofInt a2)] D ad cA n0 M 0 post thr := by
  refine fx_met (by decide) (Nat.le_of_ble_eq_true rfl) (fun p e s m below meth c ls F w hno hr hlk hl => ?_)
  have hl : lv_has ls 3 [(0, .ref (ad 331)), (1, .int (Int32.ofInt a1)), (2, .int (Int32.ofInt a2))] := hl
  suffices h9 : fx_G p l e { frames := 2, cells := 1, slots := 6, locals := 43 } s m ([.ref (ad 331), .int (Int32.ofInt a1), .int (Int32.ofInt a2)] : List Value).toArray below meth c D ad cA n0 0 post thr 3 M [(0, .ref (ad 331)), (1, .int (Int32.ofInt a1)), (2, .int (Int32.ofInt a2))] 0 [] from h9 _ _ _ w hl
  intro H locs ls w hl
  refine lv_aload_n F.1 F.2.1 d_Mo_variable_0 rfl (lv_at hl 0 rfl) ?_
  refine lv_iconst (v := Int32.ofInt 0) F.1 F.2.1 d_Mo_variable_1 (by decide) ?_
  refine fm_pI F w cl_Mo 331 0 T_331 (by decide) rfl k_814 rfl rfl d_Mo_variable_2 (fun M14 hM14 H locs w => ?_)
  have hw := hw M14 hM14
  refine lv_aload_n F.1 F.2.1 d_Mo_variable_5 rfl (lv_at hl 0 rfl) ?_
  refine lv_iload_n F.1 F.2.1 d_Mo_variable_6 rfl (lv_at hl 1 rfl) ?_
  refine fx_c w hno hlk (fx_rV (As := [.int (Int32.ofInt a1)]) (rest := []) F w cl_Mo 331 T_331 (met_Mo_isState l hst9 D ad cA n0 M14 a1 _ thr hw) e_Mo_isState ki_Mo_isState ks_Mo_isState k_1138 rfl hl.1 rfl (Nat.le_of_ble_eq_true rfl) ⟨⟨Nat.le_of_ble_eq_true rfl, Nat.le_of_ble_eq_true rfl⟩, Nat.le_of_ble_eq_true rfl, Nat.le_of_ble_eq_true rfl⟩ d_Mo_variable_7) (fun r16 M15 hw H locs w => ?_)
  show W p l e _ s m _ below meth c H locs 0 0 _ (F0 m 10 ls [.int (Int32.ofInt r16)])
  obtain ⟨h17, hw⟩ := hw
  refine fi_if_eq F d_Mo_variable_10 (tgt := 51) (by decide) h17 (fun hc18 => ?_) (fun hc18 => ?_)
  · have hw := hw.1 hc18
    refine lv_iconst (v := Int32.ofInt (-1)) F.1 F.2.1 d_Mo_variable_51 (by decide) ?_
    exact fx_iret F w hr hlk hw d_Mo_variable_52
  · have hw := hw.2 hc18
    refine lv_iload_n F.1 F.2.1 d_Mo_variable_13 rfl (lv_at hl 2 rfl) ?_
    refine lv_iconst (v := Int32.ofInt 0) F.1 F.2.1 d_Mo_variable_14 (by decide) ?_
    refine lv_iconst (v := Int32.ofInt 2) F.1 F.2.1 d_Mo_variable_15 (by decide) ?_
    refine fx_c w hno hlk (fx_rS (As := [.int (Int32.ofInt a2), .int (Int32.ofInt 0), .int (Int32.ofInt 2)]) (rest := []) F w (met_Mo_within l hst9 D ad cA n0 M15 a2 0 2 _ thr hw) e_Mo_within kt_Mo_within k_946 rfl hl.1 rfl (Nat.le_of_ble_eq_true rfl) ⟨⟨Nat.le_of_ble_eq_true rfl, Nat.le_of_ble_eq_true rfl⟩, Nat.le_of_ble_eq_true rfl, Nat.le_of_ble_eq_true rfl⟩ d_Mo_variable_16) (fun r20 M19 hw H locs w => ?_)
    show W p l e _ s m _ below meth c H locs 0 0 _ (F0 m 19 ls [.int (Int32.ofInt r20)])
    obtain ⟨h21, hw⟩ := hw
    refine fi_if_eq F d_Mo_variable_19 (tgt := 51) (by decide) h21 (fun hc22 => ?_) (fun hc22 => ?_)
    · have hw := hw.1 hc22
      refine lv_iconst (v := Int32.ofInt (-1)) F.1 F.2.1 d_Mo_variable_51 (by decide) ?_
      exact fx_iret F w hr hlk hw d_Mo_variable_52
    · have hw := hw.2 hc22
      refine lv_aload_n F.1 F.2.1 d_Mo_variable_22 rfl (lv_at hl 0 rfl) ?_
      refine fm_gO F w cl_Mo 331 8 333 T_331 (by decide) rfl rfl k_822 d_Mo_variable_23 ?_
      refine lv_iconst (v := Int32.ofInt 3) F.1 F.2.1 d_Mo_variable_26 (by decide) ?_
      refine lv_aload_n F.1 F.2.1 d_Mo_variable_27 rfl (lv_at hl 0 rfl) ?_
      refine fm_gI F w cl_Mo 331 6 T_331 (by decide) rfl k_820 d_Mo_variable_28 ?_
      refine fi_imul F d_Mo_variable_31 ?_
      refine lv_iload_n F.1 F.2.1 d_Mo_variable_32 rfl (lv_at hl 2 rfl) ?_
      refine fi_iadd F d_Mo_variable_33 ?_
      obtain ⟨h23, hw⟩ := hw
      refine fm_aI F w 333 T_333 (by decide) h23 d_Mo_variable_34 ?_
      obtain ⟨h24, hw⟩ := hw
      refine fi_if_le F d_Mo_variable_35 (tgt := 51) (by decide) h24 (fun hc25 => ?_) (fun hc25 => ?_)
      · have hw := hw.1 hc25
        refine lv_iconst (v := Int32.ofInt (-1)) F.1 F.2.1 d_Mo_variable_51 (by decide) ?_
        exact fx_iret F w hr hlk hw d_Mo_variable_52
      · have hw := hw.2 hc25
        refine lv_aload_n F.1 F.2.1 d_Mo_variable_38 rfl (lv_at hl 0 rfl) ?_
        refine fm_gO F w cl_Mo 331 23 345 T_331 (by decide) rfl rfl k_837 d_Mo_variable_39 ?_
        refine lv_iconst (v := Int32.ofInt 3) F.1 F.2.1 d_Mo_variable_42 (by decide) ?_
        refine lv_iload_n F.1 F.2.1 d_Mo_variable_43 rfl (lv_at hl 1 rfl) ?_
        refine fi_imul F d_Mo_variable_44 ?_
        refine lv_iload_n F.1 F.2.1 d_Mo_variable_45 rfl (lv_at hl 2 rfl) ?_
        refine fi_iadd F d_Mo_variable_46 ?_
        obtain ⟨h26, hw⟩ := hw
        refine fm_aI F w 345 T_345 (by decide) h26 d_Mo_variable_47 ?_
        refine lv_goto F.1 F.2.1 d_Mo_variable_48 (tgt := 52) (by decide) ?_
        exact fx_iret F w hr hlk hw d_Mo_variable_52
set_option maxHeartbeats 4000000 in
set_option maxRecDepth 100000 in
theorem met_Mo_target (l : Launch) (hst9 : l.stackTraces = false) (D : va_G) (ad : Nat → Nat) (cA : Nat → ClassId) (n0 : Nat) (M : fm_M) (a1 : Int) (post : Int → fm_M → Prop) (thr : String → fm_M → Prop) (hw : wp_Mo_target M a1 post thr) : fx_Met l y_Mo_target (Cond.code y_Mo_target b_Mo_target 2 (some .boolean) :: tb) { frames := 2, cells := 1, slots := 6, locals := 43 } [.ref (ad 331), .int (Int32.ofInt a1)] D ad cA n0 M 0 post thr := by
  refine fx_met (by decide) (Nat.le_of_ble_eq_true rfl) (fun p e s m below meth c ls F w hno hr hlk hl => ?_)
  have hl : lv_has ls 2 [(0, .ref (ad 331)), (1, .int (Int32.ofInt a1))] := hl
  suffices h9 : fx_G p l e { frames := 2, cells := 1, slots := 6, locals := 43 } s m ([.ref (ad 331), .int (Int32.ofInt a1)] : List Value).toArray below meth c D ad cA n0 0 post thr 2 M [(0, .ref (ad 331)), (1, .int (Int32.ofInt a1))] 0 [] from h9 _ _ _ w hl
  intro H locs ls w hl
  refine lv_aload_n F.1 F.2.1 d_Mo_target_0 rfl (lv_at hl 0 rfl) ?_
  refine lv_iconst (v := Int32.ofInt 0) F.1 F.2.1 d_Mo_target_1 (by decide) ?_
  refine fm_pI F w cl_Mo 331 0 T_331 (by decide) rfl k_814 rfl rfl d_Mo_target_2 (fun M9 hM9 H locs w => ?_)
  have hw := hw M9 hM9
  refine lv_aload_n F.1 F.2.1 d_Mo_target_5 rfl (lv_at hl 0 rfl) ?_
  refine lv_iload_n F.1 F.2.1 d_Mo_target_6 rfl (lv_at hl 1 rfl) ?_
  refine fx_c w hno hlk (fx_rV (As := [.int (Int32.ofInt a1)]) (rest := []) F w cl_Mo 331 T_331 (met_Mo_isState l hst9 D ad cA n0 M9 a1 _ thr hw) e_Mo_isState ki_Mo_isState ks_Mo_isState k_1138 rfl hl.1 rfl (Nat.le_of_ble_eq_true rfl) ⟨⟨Nat.le_of_ble_eq_true rfl, Nat.le_of_ble_eq_true rfl⟩, Nat.le_of_ble_eq_true rfl, Nat.le_of_ble_eq_true rfl⟩ d_Mo_target_7) (fun r11 M10 hw H locs w => ?_)
  show W p l e _ s m _ below meth c H locs 0 0 _ (F0 m 10 ls [.int (Int32.ofInt r11)])
  obtain ⟨h12, hw⟩ := hw
  refine fi_if_eq F d_Mo_target_10 (tgt := 26) (by decide) h12 (fun hc13 => ?_) (fun hc13 => ?_)
  · have hw := hw.1 hc13
    refine lv_iconst (v := Int32.ofInt 0) F.1 F.2.1 d_Mo_target_26 (by decide) ?_
    exact fx_zret F w hr hlk (fx_nz (by decide)) hw d_Mo_target_27
  · have hw := hw.2 hc13
    refine lv_aload_n F.1 F.2.1 d_Mo_target_13 rfl (lv_at hl 0 rfl) ?_
    refine fm_gO F w cl_Mo 331 24 346 T_331 (by decide) rfl rfl k_838 d_Mo_target_14 ?_
    refine lv_iload_n F.1 F.2.1 d_Mo_target_17 rfl (lv_at hl 1 rfl) ?_
    obtain ⟨h14, hw⟩ := hw
    refine fm_aZ F w 346 T_346 (by decide) h14 d_Mo_target_18 ?_
    obtain ⟨h15, hw⟩ := hw
    refine fi_if_eq F d_Mo_target_19 (tgt := 26) (by decide) h15 (fun hc16 => ?_) (fun hc16 => ?_)
    · have hw := hw.1 hc16
      refine lv_iconst (v := Int32.ofInt 0) F.1 F.2.1 d_Mo_target_26 (by decide) ?_
      exact fx_zret F w hr hlk (fx_nz (by decide)) hw d_Mo_target_27
    · have hw := hw.2 hc16
      refine lv_iconst (v := Int32.ofInt 1) F.1 F.2.1 d_Mo_target_22 (by decide) ?_
      refine lv_goto F.1 F.2.1 d_Mo_target_23 (tgt := 27) (by decide) ?_
      exact fx_zret F w hr hlk (fx_nz (by decide)) hw d_Mo_target_27
set_option maxHeartbeats 4000000 in
set_option maxRecDepth 100000 in
theorem met_Mo_owner (l : Launch) (hst9 : l.stackTraces = false) (D : va_G) (ad : Nat → Nat) (cA : Nat → ClassId) (n0 : Nat) (M : fm_M) (a1 : Int) (post : Int → fm_M → Prop) (thr : String → fm_M → Prop) (hw : wp_Mo_owner M a1 post thr) : fx_Met l y_Mo_owner (Cond.code y_Mo_owner b_Mo_owner 2 (some .int) :: tb) { frames := 2, cells := 1, slots := 6, locals := 43 } [.ref (ad 331), .int (Int32.ofInt a1)] D ad cA n0 M 0 post thr := by
  refine fx_met (by decide) (Nat.le_of_ble_eq_true rfl) (fun p e s m below meth c ls F w hno hr hlk hl => ?_)
  have blk_22 : ∀ (M : fm_M), B_Mo_owner_22 a1 post thr M → fx_G p l e { frames := 2, cells := 1, slots := 6, locals := 43 } s m ([.ref (ad 331), .int (Int32.ofInt a1)] : List Value).toArray below meth c D ad cA n0 0 post thr 2 M [] 22 [] := by
    intro M hw H locs ls w hl
    refine lv_iconst (v := Int32.ofInt (-1)) F.1 F.2.1 d_Mo_owner_22 (by decide) ?_
    refine lv_goto F.1 F.2.1 d_Mo_owner_23 (tgt := 40) (by decide) ?_
    exact fx_iret F w hr hlk hw d_Mo_owner_40
  have hl : lv_has ls 2 [(0, .ref (ad 331)), (1, .int (Int32.ofInt a1))] := hl
  suffices h9 : fx_G p l e { frames := 2, cells := 1, slots := 6, locals := 43 } s m ([.ref (ad 331), .int (Int32.ofInt a1)] : List Value).toArray below meth c D ad cA n0 0 post thr 2 M [(0, .ref (ad 331)), (1, .int (Int32.ofInt a1))] 0 [] from h9 _ _ _ w hl
  intro H locs ls w hl
  refine lv_aload_n F.1 F.2.1 d_Mo_owner_0 rfl (lv_at hl 0 rfl) ?_
  refine lv_iconst (v := Int32.ofInt 0) F.1 F.2.1 d_Mo_owner_1 (by decide) ?_
  refine fm_pI F w cl_Mo 331 0 T_331 (by decide) rfl k_814 rfl rfl d_Mo_owner_2 (fun M11 hM11 H locs w => ?_)
  have hw := hw M11 hM11
  refine lv_aload_n F.1 F.2.1 d_Mo_owner_5 rfl (lv_at hl 0 rfl) ?_
  refine lv_iload_n F.1 F.2.1 d_Mo_owner_6 rfl (lv_at hl 1 rfl) ?_
  refine fx_c w hno hlk (fx_rV (As := [.int (Int32.ofInt a1)]) (rest := []) F w cl_Mo 331 T_331 (met_Mo_isState l hst9 D ad cA n0 M11 a1 _ thr hw) e_Mo_isState ki_Mo_isState ks_Mo_isState k_1138 rfl hl.1 rfl (Nat.le_of_ble_eq_true rfl) ⟨⟨Nat.le_of_ble_eq_true rfl, Nat.le_of_ble_eq_true rfl⟩, Nat.le_of_ble_eq_true rfl, Nat.le_of_ble_eq_true rfl⟩ d_Mo_owner_7) (fun r13 M12 hw H locs w => ?_)
  show W p l e _ s m _ below meth c H locs 0 0 _ (F0 m 10 ls [.int (Int32.ofInt r13)])
  obtain ⟨h14, hw⟩ := hw
  refine fi_if_eq F d_Mo_owner_10 (tgt := 22) (by decide) h14 (fun hc15 => ?_) (fun hc15 => ?_)
  · have hw := hw.1 hc15
    exact blk_22 M12 hw H locs ls w (lv_sub hl [] rfl)
  · have hw := hw.2 hc15
    refine lv_aload_n F.1 F.2.1 d_Mo_owner_13 rfl (lv_at hl 0 rfl) ?_
    refine fm_gO F w cl_Mo 331 27 349 T_331 (by decide) rfl rfl k_841 d_Mo_owner_14 ?_
    refine lv_iload_n F.1 F.2.1 d_Mo_owner_17 rfl (lv_at hl 1 rfl) ?_
    obtain ⟨h16, hw⟩ := hw
    refine fm_aI F w 349 T_349 (by decide) h16 d_Mo_owner_18 ?_
    obtain ⟨h17, hw⟩ := hw
    refine fi_if_ne F d_Mo_owner_19 (tgt := 26) (by decide) h17 (fun hc18 => ?_) (fun hc18 => ?_)
    · have hw := hw.1 hc18
      refine lv_aload_n F.1 F.2.1 d_Mo_owner_26 rfl (lv_at hl 0 rfl) ?_
      refine fm_gO F w cl_Mo 331 25 347 T_331 (by decide) rfl rfl k_839 d_Mo_owner_27 ?_
      refine lv_iload_n F.1 F.2.1 d_Mo_owner_30 rfl (lv_at hl 1 rfl) ?_
      refine fm_aZ F w 347 T_347 (by decide) h16 d_Mo_owner_31 ?_
      obtain ⟨h19, hw⟩ := hw
      refine fi_if_eq F d_Mo_owner_32 (tgt := 39) (by decide) h19 (fun hc20 => ?_) (fun hc20 => ?_)
      · have hw := hw.1 hc20
        refine lv_iconst (v := Int32.ofInt 0) F.1 F.2.1 d_Mo_owner_39 (by decide) ?_
        exact fx_iret F w hr hlk hw d_Mo_owner_40
      · have hw := hw.2 hc20
        refine lv_iconst (v := Int32.ofInt 1) F.1 F.2.1 d_Mo_owner_35 (by decide) ?_
        refine lv_goto F.1 F.2.1 d_Mo_owner_36 (tgt := 40) (by decide) ?_
        exact fx_iret F w hr hlk hw d_Mo_owner_40
    · have hw := hw.2 hc18
      exact blk_22 M12 hw H locs ls w (lv_sub hl [] rfl)
set_option maxHeartbeats 4000000 in
set_option maxRecDepth 100000 in
theorem met_Mo_choice (l : Launch) (hst9 : l.stackTraces = false) (D : va_G) (ad : Nat → Nat) (cA : Nat → ClassId) (n0 : Nat) (M : fm_M) (a1 : Int) (a2 : Int) (post : Int → fm_M → Prop) (thr : String → fm_M → Prop) (hw : wp_Mo_choice M a1 a2 post thr) : fx_Met l y_Mo_choice (Cond.code y_Mo_choice b_Mo_choice 3 (some .int) :: tb) { frames := 2, cells := 1, slots := 6, locals := 43 } [.ref (ad 331), .int (Int32.ofInt a1), .int (Int32.ofInt a2)] D ad cA n0 M 0 post thr := by
  refine fx_met (by decide) (Nat.le_of_ble_eq_true rfl) (fun p e s m below meth c ls F w hno hr hlk hl => ?_)
  have hl : lv_has ls 3 [(0, .ref (ad 331)), (1, .int (Int32.ofInt a1)), (2, .int (Int32.ofInt a2))] := hl
  suffices h9 : fx_G p l e { frames := 2, cells := 1, slots := 6, locals := 43 } s m ([.ref (ad 331), .int (Int32.ofInt a1), .int (Int32.ofInt a2)] : List Value).toArray below meth c D ad cA n0 0 post thr 3 M [(0, .ref (ad 331)), (1, .int (Int32.ofInt a1)), (2, .int (Int32.ofInt a2))] 0 [] from h9 _ _ _ w hl
  intro H locs ls w hl
  refine lv_aload_n F.1 F.2.1 d_Mo_choice_0 rfl (lv_at hl 0 rfl) ?_
  refine lv_iconst (v := Int32.ofInt 0) F.1 F.2.1 d_Mo_choice_1 (by decide) ?_
  refine fm_pI F w cl_Mo 331 0 T_331 (by decide) rfl k_814 rfl rfl d_Mo_choice_2 (fun M12 hM12 H locs w => ?_)
  have hw := hw M12 hM12
  refine lv_aload_n F.1 F.2.1 d_Mo_choice_5 rfl (lv_at hl 0 rfl) ?_
  refine lv_iload_n F.1 F.2.1 d_Mo_choice_6 rfl (lv_at hl 1 rfl) ?_
  refine fx_c w hno hlk (fx_rV (As := [.int (Int32.ofInt a1)]) (rest := []) F w cl_Mo 331 T_331 (met_Mo_isState l hst9 D ad cA n0 M12 a1 _ thr hw) e_Mo_isState ki_Mo_isState ks_Mo_isState k_1138 rfl hl.1 rfl (Nat.le_of_ble_eq_true rfl) ⟨⟨Nat.le_of_ble_eq_true rfl, Nat.le_of_ble_eq_true rfl⟩, Nat.le_of_ble_eq_true rfl, Nat.le_of_ble_eq_true rfl⟩ d_Mo_choice_7) (fun r14 M13 hw H locs w => ?_)
  show W p l e _ s m _ below meth c H locs 0 0 _ (F0 m 10 ls [.int (Int32.ofInt r14)])
  obtain ⟨h15, hw⟩ := hw
  refine fi_if_eq F d_Mo_choice_10 (tgt := 43) (by decide) h15 (fun hc16 => ?_) (fun hc16 => ?_)
  · have hw := hw.1 hc16
    refine lv_iconst (v := Int32.ofInt (-1)) F.1 F.2.1 d_Mo_choice_43 (by decide) ?_
    exact fx_iret F w hr hlk hw d_Mo_choice_44
  · have hw := hw.2 hc16
    refine lv_iload_n F.1 F.2.1 d_Mo_choice_13 rfl (lv_at hl 2 rfl) ?_
    refine lv_iconst (v := Int32.ofInt 0) F.1 F.2.1 d_Mo_choice_14 (by decide) ?_
    refine lv_aload_n F.1 F.2.1 d_Mo_choice_15 rfl (lv_at hl 0 rfl) ?_
    refine fm_gO F w cl_Mo 331 27 349 T_331 (by decide) rfl rfl k_841 d_Mo_choice_16 ?_
    refine lv_iload_n F.1 F.2.1 d_Mo_choice_19 rfl (lv_at hl 1 rfl) ?_
    obtain ⟨h17, hw⟩ := hw
    refine fm_aI F w 349 T_349 (by decide) h17 d_Mo_choice_20 ?_
    refine lv_iconst (v := Int32.ofInt 1) F.1 F.2.1 d_Mo_choice_21 (by decide) ?_
    refine fi_isub F d_Mo_choice_22 ?_
    refine fx_c w hno hlk (fx_rS (As := [.int (Int32.ofInt a2), .int (Int32.ofInt 0), .int (Int32.ofInt ((M13 349 a1.toNat) - 1))]) (rest := []) F w (met_Mo_within l hst9 D ad cA n0 M13 a2 0 ((M13 349 a1.toNat) - 1) _ thr hw) e_Mo_within kt_Mo_within k_946 rfl hl.1 rfl (Nat.le_of_ble_eq_true rfl) ⟨⟨Nat.le_of_ble_eq_true rfl, Nat.le_of_ble_eq_true rfl⟩, Nat.le_of_ble_eq_true rfl, Nat.le_of_ble_eq_true rfl⟩ d_Mo_choice_23) (fun r19 M18 hw H locs w => ?_)
    show W p l e _ s m _ below meth c H locs 0 0 _ (F0 m 26 ls [.int (Int32.ofInt r19)])
    obtain ⟨h20, hw⟩ := hw
    refine fi_if_eq F d_Mo_choice_26 (tgt := 43) (by decide) h20 (fun hc21 => ?_) (fun hc21 => ?_)
    · have hw := hw.1 hc21
      refine lv_iconst (v := Int32.ofInt (-1)) F.1 F.2.1 d_Mo_choice_43 (by decide) ?_
      exact fx_iret F w hr hlk hw d_Mo_choice_44
    · have hw := hw.2 hc21
      refine lv_aload_n F.1 F.2.1 d_Mo_choice_29 rfl (lv_at hl 0 rfl) ?_
      refine fm_gO F w cl_Mo 331 26 348 T_331 (by decide) rfl rfl k_840 d_Mo_choice_30 ?_
      refine lv_bipush (v := Int32.ofInt 10) F.1 F.2.1 d_Mo_choice_33 (by decide) ?_
      refine lv_iload_n F.1 F.2.1 d_Mo_choice_35 rfl (lv_at hl 1 rfl) ?_
      refine fi_imul F d_Mo_choice_36 ?_
      refine lv_iload_n F.1 F.2.1 d_Mo_choice_37 rfl (lv_at hl 2 rfl) ?_
      refine fi_iadd F d_Mo_choice_38 ?_
      obtain ⟨h22, hw⟩ := hw
      refine fm_aI F w 348 T_348 (by decide) h22 d_Mo_choice_39 ?_
      refine lv_goto F.1 F.2.1 d_Mo_choice_40 (tgt := 44) (by decide) ?_
      exact fx_iret F w hr hlk hw d_Mo_choice_44
