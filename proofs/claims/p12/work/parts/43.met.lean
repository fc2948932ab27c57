set_option maxHeartbeats 4000000 in
set_option maxRecDepth 100000 in
theorem met_Mo_staysLost (l : Launch) (hst9 : l.stackTraces = false) (D : va_G) (ad : Nat → Nat) (cA : Nat → ClassId) (n0 : Nat) (M : fm_M) (a1 : Int) (post : Int → fm_M → Prop) (thr : String → fm_M → Prop) (hw : wp_Mo_staysLost M a1 post thr) : fx_Met l y_Mo_staysLost (Cond.code y_Mo_staysLost b_Mo_staysLost 4 (some .boolean) :: tb) { frames := 1, cells := 1, slots := 6, locals := 25 } [.ref (ad 331), .int (Int32.ofInt a1)] D ad cA n0 M 0 post thr := by
  refine fx_met (by decide) (Nat.le_of_ble_eq_true rfl) (fun p e s m below meth c ls F w hno hr hlk hl => ?_)
  have blk_77 : ∀ (J_36 : (fm_M → Int → Int → Prop)) (M : fm_M) (v3 : Int) (s0 : Int), B_Mo_staysLost_77 a1 post thr J_36 M v3 s0 → (∀ (M : fm_M) (v2 : Int) (v3 : Int), J_36 M v2 v3 → fx_G p l e { frames := 1, cells := 1, slots := 6, locals := 25 } s m ([.ref (ad 331), .int (Int32.ofInt a1)] : List Value).toArray below meth c D ad cA n0 0 post thr 4 M [(0, .ref (ad 331)), (1, .int (Int32.ofInt a1)), (2, .int (Int32.ofInt v2)), (3, .int (Int32.ofInt v3))] 36 []) → fx_G p l e { frames := 1, cells := 1, slots := 6, locals := 25 } s m ([.ref (ad 331), .int (Int32.ofInt a1)] : List Value).toArray below meth c D ad cA n0 0 post thr 4 M [(0, .ref (ad 331)), (1, .int (Int32.ofInt a1)), (3, .int (Int32.ofInt v3))] 77 [.int (Int32.ofInt s0)] := by
    intro J_36 M v3 s0 hw hJ_36 H locs ls w hl
    refine lv_istore_n F.1 F.2.1 d_Mo_staysLost_77 rfl hl (by decide) rfl (fun ls hl => ?_)
    have hl : lv_has ls 4 [(2, .int (Int32.ofInt s0)), (0, .ref (ad 331)), (1, .int (Int32.ofInt a1)), (3, .int (Int32.ofInt v3))] := hl
    refine fi_iinc (k := 3) (v := (v3 + 1)) F d_Mo_staysLost_78 hl rfl rfl (by decide) rfl (fun ls hl => ?_)
    have hl : lv_has ls 4 [(3, .int (Int32.ofInt (v3 + 1))), (2, .int (Int32.ofInt s0)), (0, .ref (ad 331)), (1, .int (Int32.ofInt a1))] := hl
    refine lv_goto F.1 F.2.1 d_Mo_staysLost_81 (tgt := 36) (by decide) ?_
    exact hJ_36 M s0 (v3 + 1) hw H locs ls w (lv_sub hl [2, 3, 1, 0] rfl)
  have blk_72 : ∀ (J_36 : (fm_M → Int → Int → Prop)) (M : fm_M) (v3 : Int), B_Mo_staysLost_72 a1 post thr J_36 M v3 → (∀ (M : fm_M) (v2 : Int) (v3 : Int), J_36 M v2 v3 → fx_G p l e { frames := 1, cells := 1, slots := 6, locals := 25 } s m ([.ref (ad 331), .int (Int32.ofInt a1)] : List Value).toArray below meth c D ad cA n0 0 post thr 4 M [(0, .ref (ad 331)), (1, .int (Int32.ofInt a1)), (2, .int (Int32.ofInt v2)), (3, .int (Int32.ofInt v3))] 36 []) → fx_G p l e { frames := 1, cells := 1, slots := 6, locals := 25 } s m ([.ref (ad 331), .int (Int32.ofInt a1)] : List Value).toArray below meth c D ad cA n0 0 post thr 4 M [(0, .ref (ad 331)), (1, .int (Int32.ofInt a1)), (3, .int (Int32.ofInt v3))] 72 [] := by
    intro J_36 M v3 hw hJ_36 H locs ls w hl
    refine lv_iconst (v := Int32.ofInt 1) F.1 F.2.1 d_Mo_staysLost_72 (by decide) ?_
    refine lv_goto F.1 F.2.1 d_Mo_staysLost_73 (tgt := 77) (by decide) ?_
    exact blk_77 J_36 M v3 1 hw hJ_36 H locs ls w (lv_sub hl [0, 1, 2] rfl)
  have blc_36 : ∀ (J_36 : (fm_M → Int → Int → Prop)) (M : fm_M) (v2 : Int) (v3 : Int), C_Mo_staysLost_36 a1 post thr J_36 M v2 v3 → (∀ (M : fm_M) (v2 : Int) (v3 : Int), J_36 M v2 v3 → fx_G p l e { frames := 1, cells := 1, slots := 6, locals := 25 } s m ([.ref (ad 331), .int (Int32.ofInt a1)] : List Value).toArray below meth c D ad cA n0 0 post thr 4 M [(0, .ref (ad 331)), (1, .int (Int32.ofInt a1)), (2, .int (Int32.ofInt v2)), (3, .int (Int32.ofInt v3))] 36 []) → fx_G p l e { frames := 1, cells := 1, slots := 6, locals := 25 } s m ([.ref (ad 331), .int (Int32.ofInt a1)] : List Value).toArray below meth c D ad cA n0 0 post thr 4 M [(0, .ref (ad 331)), (1, .int (Int32.ofInt a1)), (2, .int (Int32.ofInt v2)), (3, .int (Int32.ofInt v3))] 36 [] := by
    intro J_36 M v2 v3 hw hJ_36 H locs ls w hl
    refine lv_iload_n F.1 F.2.1 d_Mo_staysLost_36 rfl (lv_at hl 3 rfl) ?_
    refine lv_aload_n F.1 F.2.1 d_Mo_staysLost_37 rfl (lv_at hl 0 rfl) ?_
    refine fm_gO F w cl_Mo 331 27 349 T_331 (by decide) rfl rfl k_841 d_Mo_staysLost_38 ?_
    refine lv_iload_n F.1 F.2.1 d_Mo_staysLost_41 rfl (lv_at hl 1 rfl) ?_
    obtain ⟨h35, hw⟩ := hw
    refine fm_aI F w 349 T_349 (by decide) h35 d_Mo_staysLost_42 ?_
    obtain ⟨h36, hw⟩ := hw
    obtain ⟨h37, hw⟩ := hw
    refine fi_icmp_ge F d_Mo_staysLost_43 (tgt := 84) (by decide) h36 h37 (fun hc38 => ?_) (fun hc38 => ?_)
    · have hw := hw.1 hc38
      refine lv_iload_n F.1 F.2.1 d_Mo_staysLost_84 rfl (lv_at hl 2 rfl) ?_
      obtain ⟨h39, hw⟩ := hw
      exact fx_zret F w hr hlk (fx_nz h39) hw d_Mo_staysLost_85
    · have hw := hw.2 hc38
      refine lv_iload_n F.1 F.2.1 d_Mo_staysLost_46 rfl (lv_at hl 2 rfl) ?_
      obtain ⟨h40, hw⟩ := hw
      refine fi_if_ne F d_Mo_staysLost_47 (tgt := 72) (by decide) h40 (fun hc41 => ?_) (fun hc41 => ?_)
      · have hw := hw.1 hc41
        exact blk_72 J_36 M v3 hw hJ_36 H locs ls w (lv_sub hl [0, 1, 3] rfl)
      · have hw := hw.2 hc41
        refine lv_aload_n F.1 F.2.1 d_Mo_staysLost_50 rfl (lv_at hl 0 rfl) ?_
        refine fm_gO F w cl_Mo 331 30 352 T_331 (by decide) rfl rfl k_844 d_Mo_staysLost_51 ?_
        refine lv_iload_n F.1 F.2.1 d_Mo_staysLost_54 rfl (lv_at hl 1 rfl) ?_
        refine fm_aI F w 352 T_352 (by decide) h35 d_Mo_staysLost_55 ?_
        refine lv_iload_n F.1 F.2.1 d_Mo_staysLost_56 rfl (lv_at hl 3 rfl) ?_
        refine fx_c w hno hlk (fx_rS (As := [.int (Int32.ofInt (M 352 a1.toNat)), .int (Int32.ofInt v3)]) (rest := []) F w (met_Mo_has l hst9 D ad cA n0 M (M 352 a1.toNat) v3 _ thr hw) e_Mo_has kt_Mo_has k_1075 rfl hl.1 rfl (Nat.le_of_ble_eq_true rfl) ⟨⟨Nat.le_of_ble_eq_true rfl, Nat.le_of_ble_eq_true rfl⟩, Nat.le_of_ble_eq_true rfl, Nat.le_of_ble_eq_true rfl⟩ d_Mo_staysLost_57) (fun r43 M42 hw H locs w => ?_)
        show W p l e _ s m _ below meth c H locs 0 0 _ (F0 m 60 ls [.int (Int32.ofInt r43)])
        obtain ⟨h44, hw⟩ := hw
        refine fi_if_eq F d_Mo_staysLost_60 (tgt := 76) (by decide) h44 (fun hc45 => ?_) (fun hc45 => ?_)
        · have hw := hw.1 hc45
          refine lv_iconst (v := Int32.ofInt 0) F.1 F.2.1 d_Mo_staysLost_76 (by decide) ?_
          exact blk_77 J_36 M42 v3 0 hw hJ_36 H locs ls w (lv_sub hl [0, 1, 3] rfl)
        · have hw := hw.2 hc45
          refine lv_aload_n F.1 F.2.1 d_Mo_staysLost_63 rfl (lv_at hl 0 rfl) ?_
          refine lv_iload_n F.1 F.2.1 d_Mo_staysLost_64 rfl (lv_at hl 1 rfl) ?_
          refine lv_iload_n F.1 F.2.1 d_Mo_staysLost_65 rfl (lv_at hl 3 rfl) ?_
          refine fx_c w hno hlk (fx_rV (As := [.int (Int32.ofInt a1), .int (Int32.ofInt v3)]) (rest := []) F w cl_Mo 331 T_331 (met_Mo_leadsToLost l hst9 D ad cA n0 M42 a1 v3 _ thr hw) e_Mo_leadsToLost ki_Mo_leadsToLost ks_Mo_leadsToLost k_1086 rfl hl.1 rfl (Nat.le_of_ble_eq_true rfl) ⟨⟨Nat.le_of_ble_eq_true rfl, Nat.le_of_ble_eq_true rfl⟩, Nat.le_of_ble_eq_true rfl, Nat.le_of_ble_eq_true rfl⟩ d_Mo_staysLost_66) (fun r47 M46 hw H locs w => ?_)
          show W p l e _ s m _ below meth c H locs 0 0 _ (F0 m 69 ls [.int (Int32.ofInt r47)])
          obtain ⟨h48, hw⟩ := hw
          refine fi_if_eq F d_Mo_staysLost_69 (tgt := 76) (by decide) h48 (fun hc49 => ?_) (fun hc49 => ?_)
          · have hw := hw.1 hc49
            refine lv_iconst (v := Int32.ofInt 0) F.1 F.2.1 d_Mo_staysLost_76 (by decide) ?_
            exact blk_77 J_36 M46 v3 0 hw hJ_36 H locs ls w (lv_sub hl [0, 1, 3] rfl)
          · have hw := hw.2 hc49
            exact blk_72 J_36 M46 v3 hw hJ_36 H locs ls w (lv_sub hl [0, 1, 3] rfl)
  have blk_36 : ∀ (M : fm_M) (v2 : Int) (v3 : Int), B_Mo_staysLost_36 a1 post thr M v2 v3 → fx_G p l e { frames := 1, cells := 1, slots := 6, locals := 25 } s m ([.ref (ad 331), .int (Int32.ofInt a1)] : List Value).toArray below meth c D ad cA n0 0 post thr 4 M [(0, .ref (ad 331)), (1, .int (Int32.ofInt a1)), (2, .int (Int32.ofInt v2)), (3, .int (Int32.ofInt v3))] 36 [] := by
    intro M v2 v3 hw
    obtain ⟨I, μ, hI, hB⟩ := hw
    have key : ∀ (q : Nat) (M : fm_M) (v2 : Int) (v3 : Int), μ M v2 v3 < q → I M v2 v3 → fx_G p l e { frames := 1, cells := 1, slots := 6, locals := 25 } s m ([.ref (ad 331), .int (Int32.ofInt a1)] : List Value).toArray below meth c D ad cA n0 0 post thr 4 M [(0, .ref (ad 331)), (1, .int (Int32.ofInt a1)), (2, .int (Int32.ofInt v2)), (3, .int (Int32.ofInt v3))] 36 [] := by
      intro q
      induction q with
      | zero => intro M v2 v3 h _; exact absurd h (Nat.not_lt_zero _)
      | succ q ih =>
        intro M v2 v3 hμ hI
        exact blc_36 (fun M' v2' v3' => I M' v2' v3' ∧ μ M' v2' v3' < μ M v2 v3) M v2 v3 (hB M v2 v3 hI) (fun M' v2' v3' hh => ih M' v2' v3' (Nat.lt_of_lt_of_le hh.2 (Nat.le_of_lt_succ hμ)) hh.1)
    exact key _ M v2 v3 (Nat.lt_succ_self _) hI
  have hl : lv_has ls 4 [(0, .ref (ad 331)), (1, .int (Int32.ofInt a1))] := hl
  suffices h9 : fx_G p l e { frames := 1, cells := 1, slots := 6, locals := 25 } s m ([.ref (ad 331), .int (Int32.ofInt a1)] : List Value).toArray below meth c D ad cA n0 0 post thr 4 M [(0, .ref (ad 331)), (1, .int (Int32.ofInt a1))] 0 [] from h9 _ _ _ w hl
  intro H locs ls w hl
  refine lv_aload_n F.1 F.2.1 d_Mo_staysLost_0 rfl (lv_at hl 0 rfl) ?_
  refine fm_gO F w cl_Mo 331 27 349 T_331 (by decide) rfl rfl k_841 d_Mo_staysLost_1 ?_
  refine lv_iload_n F.1 F.2.1 d_Mo_staysLost_4 rfl (lv_at hl 1 rfl) ?_
  obtain ⟨h50, hw⟩ := hw
  refine fm_aI F w 349 T_349 (by decide) h50 d_Mo_staysLost_5 ?_
  obtain ⟨h51, hw⟩ := hw
  refine fi_if_ne F d_Mo_staysLost_6 (tgt := 11) (by decide) h51 (fun hc52 => ?_) (fun hc52 => ?_)
  · have hw := hw.1 hc52
    refine lv_aload_n F.1 F.2.1 d_Mo_staysLost_11 rfl (lv_at hl 0 rfl) ?_
    refine fm_gO F w cl_Mo 331 25 347 T_331 (by decide) rfl rfl k_839 d_Mo_staysLost_12 ?_
    refine lv_iload_n F.1 F.2.1 d_Mo_staysLost_15 rfl (lv_at hl 1 rfl) ?_
    refine fm_aZ F w 347 T_347 (by decide) h50 d_Mo_staysLost_16 ?_
    obtain ⟨h53, hw⟩ := hw
    refine fi_if_eq F d_Mo_staysLost_17 (tgt := 32) (by decide) h53 (fun hc54 => ?_) (fun hc54 => ?_)
    · have hw := hw.1 hc54
      refine lv_iconst (v := Int32.ofInt 0) F.1 F.2.1 d_Mo_staysLost_32 (by decide) ?_
      refine lv_istore_n F.1 F.2.1 d_Mo_staysLost_33 rfl hl (by decide) rfl (fun ls hl => ?_)
      have hl : lv_has ls 4 [(2, .int (Int32.ofInt 0)), (0, .ref (ad 331)), (1, .int (Int32.ofInt a1))] := hl
      refine lv_iconst (v := Int32.ofInt 0) F.1 F.2.1 d_Mo_staysLost_34 (by decide) ?_
      refine lv_istore_n F.1 F.2.1 d_Mo_staysLost_35 rfl hl (by decide) rfl (fun ls hl => ?_)
      have hl : lv_has ls 4 [(3, .int (Int32.ofInt 0)), (2, .int (Int32.ofInt 0)), (0, .ref (ad 331)), (1, .int (Int32.ofInt a1))] := hl
      exact blk_36 M 0 0 hw H locs ls w (lv_sub hl [2, 3, 1, 0] rfl)
    · have hw := hw.2 hc54
      refine lv_aload_n F.1 F.2.1 d_Mo_staysLost_20 rfl (lv_at hl 0 rfl) ?_
      refine lv_iload_n F.1 F.2.1 d_Mo_staysLost_21 rfl (lv_at hl 1 rfl) ?_
      refine lv_aload_n F.1 F.2.1 d_Mo_staysLost_22 rfl (lv_at hl 0 rfl) ?_
      refine fm_gO F w cl_Mo 331 31 353 T_331 (by decide) rfl rfl k_845 d_Mo_staysLost_23 ?_
      refine lv_iload_n F.1 F.2.1 d_Mo_staysLost_26 rfl (lv_at hl 1 rfl) ?_
      refine fm_aI F w 353 T_353 (by decide) h50 d_Mo_staysLost_27 ?_
      refine fx_c w hno hlk (fx_rV (As := [.int (Int32.ofInt a1), .int (Int32.ofInt (M 353 a1.toNat))]) (rest := []) F w cl_Mo 331 T_331 (met_Mo_leadsToLost l hst9 D ad cA n0 M a1 (M 353 a1.toNat) _ thr hw) e_Mo_leadsToLost ki_Mo_leadsToLost ks_Mo_leadsToLost k_1086 rfl hl.1 rfl (Nat.le_of_ble_eq_true rfl) ⟨⟨Nat.le_of_ble_eq_true rfl, Nat.le_of_ble_eq_true rfl⟩, Nat.le_of_ble_eq_true rfl, Nat.le_of_ble_eq_true rfl⟩ d_Mo_staysLost_28) (fun r56 M55 hw H locs w => ?_)
      show W p l e _ s m _ below meth c H locs 0 0 _ (F0 m 31 ls [.int (Int32.ofInt r56)])
      obtain ⟨h57, hw⟩ := hw
      exact fx_zret F w hr hlk (fx_nz h57) hw d_Mo_staysLost_31
  · have hw := hw.2 hc52
    refine lv_iconst (v := Int32.ofInt 1) F.1 F.2.1 d_Mo_staysLost_9 (by decide) ?_
    exact fx_zret F w hr hlk (fx_nz (by decide)) hw d_Mo_staysLost_10
set_option maxHeartbeats 4000000 in
set_option maxRecDepth 100000 in
theorem met_Mo_findLost (l : Launch) (hst9 : l.stackTraces = false) (D : va_G) (ad : Nat → Nat) (cA : Nat → ClassId) (n0 : Nat) (M : fm_M) (post : Int → fm_M → Prop) (thr : String → fm_M → Prop) (hw : wp_Mo_findLost M post thr) : fx_Met l y_Mo_findLost (Cond.code y_Mo_findLost b_Mo_findLost 4 none :: tb) { frames := 2, cells := 1, slots := 6, locals := 48 } [.ref (ad 331)] D ad cA n0 M 3 post thr := by
  refine fx_met (by decide) (Nat.le_of_ble_eq_true rfl) (fun p e s m below meth c ls F w hno hr hlk hl => ?_)
  have blk_114 : ∀ (J_38 : (fm_M → Int → Prop)) (J_46 : (fm_M → Int → Int → Prop)) (M : fm_M) (v2 : Int) (s0 : Int), B_Mo_findLost_114 post thr J_38 J_46 M v2 s0 → (∀ (M : fm_M) (v1 : Int), J_38 M v1 → fx_G p l e { frames := 2, cells := 1, slots := 6, locals := 48 } s m ([.ref (ad 331)] : List Value).toArray below meth c D ad cA n0 3 post thr 4 M [(0, .ref (ad 331)), (1, .int (Int32.ofInt v1))] 38 []) → (∀ (M : fm_M) (v1 : Int) (v2 : Int), J_46 M v1 v2 → fx_G p l e { frames := 2, cells := 1, slots := 6, locals := 48 } s m ([.ref (ad 331)] : List Value).toArray below meth c D ad cA n0 3 post thr 4 M [(0, .ref (ad 331)), (1, .int (Int32.ofInt v1)), (2, .int (Int32.ofInt v2))] 46 []) → fx_G p l e { frames := 2, cells := 1, slots := 6, locals := 48 } s m ([.ref (ad 331)] : List Value).toArray below meth c D ad cA n0 3 post thr 4 M [(0, .ref (ad 331)), (2, .int (Int32.ofInt v2))] 114 [.int (Int32.ofInt s0)] := by
    intro J_38 J_46 M v2 s0 hw hJ_38 hJ_46 H locs ls w hl
    refine lv_istore_n F.1 F.2.1 d_Mo_findLost_114 rfl hl (by decide) rfl (fun ls hl => ?_)
    have hl : lv_has ls 4 [(1, .int (Int32.ofInt s0)), (0, .ref (ad 331)), (2, .int (Int32.ofInt v2))] := hl
    refine fi_iinc (k := 2) (v := (v2 + 1)) F d_Mo_findLost_115 hl rfl rfl (by decide) rfl (fun ls hl => ?_)
    have hl : lv_has ls 4 [(2, .int (Int32.ofInt (v2 + 1))), (1, .int (Int32.ofInt s0)), (0, .ref (ad 331))] := hl
    refine lv_goto F.1 F.2.1 d_Mo_findLost_118 (tgt := 46) (by decide) ?_
    exact hJ_46 M s0 (v2 + 1) hw H locs ls w (lv_sub hl [2, 1, 0] rfl)
  have blk_109 : ∀ (J_38 : (fm_M → Int → Prop)) (J_46 : (fm_M → Int → Int → Prop)) (M : fm_M) (v2 : Int), B_Mo_findLost_109 post thr J_38 J_46 M v2 → (∀ (M : fm_M) (v1 : Int), J_38 M v1 → fx_G p l e { frames := 2, cells := 1, slots := 6, locals := 48 } s m ([.ref (ad 331)] : List Value).toArray below meth c D ad cA n0 3 post thr 4 M [(0, .ref (ad 331)), (1, .int (Int32.ofInt v1))] 38 []) → (∀ (M : fm_M) (v1 : Int) (v2 : Int), J_46 M v1 v2 → fx_G p l e { frames := 2, cells := 1, slots := 6, locals := 48 } s m ([.ref (ad 331)] : List Value).toArray below meth c D ad cA n0 3 post thr 4 M [(0, .ref (ad 331)), (1, .int (Int32.ofInt v1)), (2, .int (Int32.ofInt v2))] 46 []) → fx_G p l e { frames := 2, cells := 1, slots := 6, locals := 48 } s m ([.ref (ad 331)] : List Value).toArray below meth c D ad cA n0 3 post thr 4 M [(0, .ref (ad 331)), (2, .int (Int32.ofInt v2))] 109 [] := by
    intro J_38 J_46 M v2 hw hJ_38 hJ_46 H locs ls w hl
    refine lv_iconst (v := Int32.ofInt 1) F.1 F.2.1 d_Mo_findLost_109 (by decide) ?_
    refine lv_goto F.1 F.2.1 d_Mo_findLost_110 (tgt := 114) (by decide) ?_
    exact blk_114 J_38 J_46 M v2 1 hw hJ_38 hJ_46 H locs ls w (lv_sub hl [0, 1] rfl)
  have blk_100 : ∀ (J_38 : (fm_M → Int → Prop)) (J_46 : (fm_M → Int → Int → Prop)) (M : fm_M) (v1 : Int) (v2 : Int) (v3 : Int) (s0 : Int) (s1 : Int), B_Mo_findLost_100 post thr J_38 J_46 M v1 v2 v3 s0 s1 → (∀ (M : fm_M) (v1 : Int), J_38 M v1 → fx_G p l e { frames := 2, cells := 1, slots := 6, locals := 48 } s m ([.ref (ad 331)] : List Value).toArray below meth c D ad cA n0 3 post thr 4 M [(0, .ref (ad 331)), (1, .int (Int32.ofInt v1))] 38 []) → (∀ (M : fm_M) (v1 : Int) (v2 : Int), J_46 M v1 v2 → fx_G p l e { frames := 2, cells := 1, slots := 6, locals := 48 } s m ([.ref (ad 331)] : List Value).toArray below meth c D ad cA n0 3 post thr 4 M [(0, .ref (ad 331)), (1, .int (Int32.ofInt v1)), (2, .int (Int32.ofInt v2))] 46 []) → fx_G p l e { frames := 2, cells := 1, slots := 6, locals := 48 } s m ([.ref (ad 331)] : List Value).toArray below meth c D ad cA n0 3 post thr 4 M [(0, .ref (ad 331)), (1, .int (Int32.ofInt v1)), (2, .int (Int32.ofInt v2)), (3, .int (Int32.ofInt v3))] 100 [.int (Int32.ofInt s0), .int (Int32.ofInt s1), .ref (ad 354)] := by
    intro J_38 J_46 M v1 v2 v3 s0 s1 hw hJ_38 hJ_46 H locs ls w hl
    obtain ⟨h71, hw⟩ := hw
    obtain ⟨h72, hw⟩ := hw
    refine fm_sZ F w 354 T_354 (by decide) h71 h72 d_Mo_findLost_100 (fun M73 hM73 H locs w => ?_)
    have hw := hw M73 hM73
    refine lv_iload_n F.1 F.2.1 d_Mo_findLost_101 rfl (lv_at hl 1 rfl) ?_
    obtain ⟨h74, hw⟩ := hw
    refine fi_if_ne F d_Mo_findLost_102 (tgt := 109) (by decide) h74 (fun hc75 => ?_) (fun hc75 => ?_)
    · have hw := hw.1 hc75
      exact blk_109 J_38 J_46 M73 v2 hw hJ_38 hJ_46 H locs ls w (lv_sub hl [0, 2] rfl)
    · have hw := hw.2 hc75
      refine lv_iload_n F.1 F.2.1 d_Mo_findLost_105 rfl (lv_at hl 3 rfl) ?_
      obtain ⟨h76, hw⟩ := hw
      refine fi_if_eq F d_Mo_findLost_106 (tgt := 113) (by decide) h76 (fun hc77 => ?_) (fun hc77 => ?_)
      · have hw := hw.1 hc77
        refine lv_iconst (v := Int32.ofInt 0) F.1 F.2.1 d_Mo_findLost_113 (by decide) ?_
        exact blk_114 J_38 J_46 M73 v2 0 hw hJ_38 hJ_46 H locs ls w (lv_sub hl [0, 2] rfl)
      · have hw := hw.2 hc77
        exact blk_109 J_38 J_46 M73 v2 hw hJ_38 hJ_46 H locs ls w (lv_sub hl [0, 2] rfl)
  have blk_76 : ∀ (J_38 : (fm_M → Int → Prop)) (J_46 : (fm_M → Int → Int → Prop)) (M : fm_M) (v1 : Int) (v2 : Int) (s0 : Int), B_Mo_findLost_76 post thr J_38 J_46 M v1 v2 s0 → (∀ (M : fm_M) (v1 : Int), J_38 M v1 → fx_G p l e { frames := 2, cells := 1, slots := 6, locals := 48 } s m ([.ref (ad 331)] : List Value).toArray below meth c D ad cA n0 3 post thr 4 M [(0, .ref (ad 331)), (1, .int (Int32.ofInt v1))] 38 []) → (∀ (M : fm_M) (v1 : Int) (v2 : Int), J_46 M v1 v2 → fx_G p l e { frames := 2, cells := 1, slots := 6, locals := 48 } s m ([.ref (ad 331)] : List Value).toArray below meth c D ad cA n0 3 post thr 4 M [(0, .ref (ad 331)), (1, .int (Int32.ofInt v1)), (2, .int (Int32.ofInt v2))] 46 []) → fx_G p l e { frames := 2, cells := 1, slots := 6, locals := 48 } s m ([.ref (ad 331)] : List Value).toArray below meth c D ad cA n0 3 post thr 4 M [(0, .ref (ad 331)), (1, .int (Int32.ofInt v1)), (2, .int (Int32.ofInt v2))] 76 [.int (Int32.ofInt s0)] := by
    intro J_38 J_46 M v1 v2 s0 hw hJ_38 hJ_46 H locs ls w hl
    refine lv_istore_n F.1 F.2.1 d_Mo_findLost_76 rfl hl (by decide) rfl (fun ls hl => ?_)
    have hl : lv_has ls 4 [(3, .int (Int32.ofInt s0)), (0, .ref (ad 331)), (1, .int (Int32.ofInt v1)), (2, .int (Int32.ofInt v2))] := hl
    refine lv_aload_n F.1 F.2.1 d_Mo_findLost_77 rfl (lv_at hl 1 rfl) ?_
    refine fm_gO F w cl_Mo 331 32 354 T_331 (by decide) rfl rfl k_846 d_Mo_findLost_78 ?_
    refine lv_iload_n F.1 F.2.1 d_Mo_findLost_81 rfl (lv_at hl 3 rfl) ?_
    refine lv_aload_n F.1 F.2.1 d_Mo_findLost_82 rfl (lv_at hl 1 rfl) ?_
    refine fm_gO F w cl_Mo 331 32 354 T_331 (by decide) rfl rfl k_846 d_Mo_findLost_83 ?_
    refine lv_iload_n F.1 F.2.1 d_Mo_findLost_86 rfl (lv_at hl 3 rfl) ?_
    obtain ⟨h78, hw⟩ := hw
    refine fm_aZ F w 354 T_354 (by decide) h78 d_Mo_findLost_87 ?_
    obtain ⟨h79, hw⟩ := hw
    refine fi_if_eq F d_Mo_findLost_88 (tgt := 99) (by decide) h79 (fun hc80 => ?_) (fun hc80 => ?_)
    · have hw := hw.1 hc80
      refine lv_iconst (v := Int32.ofInt 0) F.1 F.2.1 d_Mo_findLost_99 (by decide) ?_
      exact blk_100 J_38 J_46 M v1 v2 s0 0 v2 hw hJ_38 hJ_46 H locs ls w (lv_sub hl [1, 2, 3, 0] rfl)
    · have hw := hw.2 hc80
      refine lv_iload_n F.1 F.2.1 d_Mo_findLost_91 rfl (lv_at hl 0 rfl) ?_
      obtain ⟨h81, hw⟩ := hw
      refine fi_if_ne F d_Mo_findLost_92 (tgt := 99) (by decide) h81 (fun hc82 => ?_) (fun hc82 => ?_)
      · have hw := hw.1 hc82
        refine lv_iconst (v := Int32.ofInt 0) F.1 F.2.1 d_Mo_findLost_99 (by decide) ?_
        exact blk_100 J_38 J_46 M v1 v2 s0 0 v2 hw hJ_38 hJ_46 H locs ls w (lv_sub hl [1, 2, 3, 0] rfl)
      · have hw := hw.2 hc82
        refine lv_iconst (v := Int32.ofInt 1) F.1 F.2.1 d_Mo_findLost_95 (by decide) ?_
        refine lv_goto F.1 F.2.1 d_Mo_findLost_96 (tgt := 100) (by decide) ?_
        exact blk_100 J_38 J_46 M v1 v2 s0 1 v2 hw hJ_38 hJ_46 H locs ls w (lv_sub hl [1, 2, 3, 0] rfl)
  have blc_46 : ∀ (J_38 : (fm_M → Int → Prop)) (J_46 : (fm_M → Int → Int → Prop)) (M : fm_M) (v1 : Int) (v2 : Int), C_Mo_findLost_46 post thr J_38 J_46 M v1 v2 → (∀ (M : fm_M) (v1 : Int), J_38 M v1 → fx_G p l e { frames := 2, cells := 1, slots := 6, locals := 48 } s m ([.ref (ad 331)] : List Value).toArray below meth c D ad cA n0 3 post thr 4 M [(0, .ref (ad 331)), (1, .int (Int32.ofInt v1))] 38 []) → (∀ (M : fm_M) (v1 : Int) (v2 : Int), J_46 M v1 v2 → fx_G p l e { frames := 2, cells := 1, slots := 6, locals := 48 } s m ([.ref (ad 331)] : List Value).toArray below meth c D ad cA n0 3 post thr 4 M [(0, .ref (ad 331)), (1, .int (Int32.ofInt v1)), (2, .int (Int32.ofInt v2))] 46 []) → fx_G p l e { frames := 2, cells := 1, slots := 6, locals := 48 } s m ([.ref (ad 331)] : List Value).toArray below meth c D ad cA n0 3 post thr 4 M [(0, .ref (ad 331)), (1, .int (Int32.ofInt v1)), (2, .int (Int32.ofInt v2))] 46 [] := by
    intro J_38 J_46 M v1 v2 hw hJ_38 hJ_46 H locs ls w hl
    refine lv_iload_n F.1 F.2.1 d_Mo_findLost_46 rfl (lv_at hl 2 rfl) ?_
    refine lv_aload_n F.1 F.2.1 d_Mo_findLost_47 rfl (lv_at hl 0 rfl) ?_
    refine fm_gI F w cl_Mo 331 20 T_331 (by decide) rfl k_834 d_Mo_findLost_48 ?_
    obtain ⟨h83, hw⟩ := hw
    obtain ⟨h84, hw⟩ := hw
    refine fi_icmp_ge F d_Mo_findLost_51 (tgt := 121) (by decide) h83 h84 (fun hc85 => ?_) (fun hc85 => ?_)
    · have hw := hw.1 hc85
      refine lv_goto F.1 F.2.1 d_Mo_findLost_121 (tgt := 38) (by decide) ?_
      exact hJ_38 M v1 hw H locs ls w (lv_sub hl [0, 1] rfl)
    · have hw := hw.2 hc85
      refine lv_aload_n F.1 F.2.1 d_Mo_findLost_54 rfl (lv_at hl 0 rfl) ?_
      refine fm_gO F w cl_Mo 331 32 354 T_331 (by decide) rfl rfl k_846 d_Mo_findLost_55 ?_
      refine lv_iload_n F.1 F.2.1 d_Mo_findLost_58 rfl (lv_at hl 2 rfl) ?_
      obtain ⟨h86, hw⟩ := hw
      refine fm_aZ F w 354 T_354 (by decide) h86 d_Mo_findLost_59 ?_
      obtain ⟨h87, hw⟩ := hw
      refine fi_if_eq F d_Mo_findLost_60 (tgt := 75) (by decide) h87 (fun hc88 => ?_) (fun hc88 => ?_)
      · have hw := hw.1 hc88
        refine lv_iconst (v := Int32.ofInt 0) F.1 F.2.1 d_Mo_findLost_75 (by decide) ?_
        exact blk_76 J_38 J_46 M v1 v2 0 hw hJ_38 hJ_46 H locs ls w (lv_sub hl [0, 1, 2] rfl)
      · have hw := hw.2 hc88
        refine lv_aload_n F.1 F.2.1 d_Mo_findLost_63 rfl (lv_at hl 0 rfl) ?_
        refine lv_iload_n F.1 F.2.1 d_Mo_findLost_64 rfl (lv_at hl 2 rfl) ?_
        refine fx_c w hno hlk (fx_rV (As := [.int (Int32.ofInt v2)]) (rest := []) F w cl_Mo 331 T_331 (met_Mo_staysLost l hst9 D ad cA n0 M v2 _ thr hw) e_Mo_staysLost ki_Mo_staysLost ks_Mo_staysLost k_1082 rfl hl.1 rfl (Nat.le_of_ble_eq_true rfl) ⟨⟨Nat.le_of_ble_eq_true rfl, Nat.le_of_ble_eq_true rfl⟩, Nat.le_of_ble_eq_true rfl, Nat.le_of_ble_eq_true rfl⟩ d_Mo_findLost_65) (fun r90 M89 hw H locs w => ?_)
        show W p l e _ s m _ below meth c H locs 0 0 _ (F0 m 68 ls [.int (Int32.ofInt r90)])
        obtain ⟨h91, hw⟩ := hw
        refine fi_if_ne F d_Mo_findLost_68 (tgt := 75) (by decide) h91 (fun hc92 => ?_) (fun hc92 => ?_)
        · have hw := hw.1 hc92
          refine lv_iconst (v := Int32.ofInt 0) F.1 F.2.1 d_Mo_findLost_75 (by decide) ?_
          exact blk_76 J_38 J_46 M89 v1 v2 0 hw hJ_38 hJ_46 H locs ls w (lv_sub hl [0, 1, 2] rfl)
        · have hw := hw.2 hc92
          refine lv_iconst (v := Int32.ofInt 1) F.1 F.2.1 d_Mo_findLost_71 (by decide) ?_
          refine lv_goto F.1 F.2.1 d_Mo_findLost_72 (tgt := 76) (by decide) ?_
          exact blk_76 J_38 J_46 M89 v1 v2 1 hw hJ_38 hJ_46 H locs ls w (lv_sub hl [0, 1, 2] rfl)
  have blk_46 : ∀ (J_38 : (fm_M → Int → Prop)) (M : fm_M) (v1 : Int) (v2 : Int), B_Mo_findLost_46 post thr J_38 M v1 v2 → (∀ (M : fm_M) (v1 : Int), J_38 M v1 → fx_G p l e { frames := 2, cells := 1, slots := 6, locals := 48 } s m ([.ref (ad 331)] : List Value).toArray below meth c D ad cA n0 3 post thr 4 M [(0, .ref (ad 331)), (1, .int (Int32.ofInt v1))] 38 []) → fx_G p l e { frames := 2, cells := 1, slots := 6, locals := 48 } s m ([.ref (ad 331)] : List Value).toArray below meth c D ad cA n0 3 post thr 4 M [(0, .ref (ad 331)), (1, .int (Int32.ofInt v1)), (2, .int (Int32.ofInt v2))] 46 [] := by
    intro J_38 M v1 v2 hw hJ_38
    obtain ⟨I, μ, hI, hB⟩ := hw
    have key : ∀ (q : Nat) (M : fm_M) (v1 : Int) (v2 : Int), μ M v1 v2 < q → I M v1 v2 → fx_G p l e { frames := 2, cells := 1, slots := 6, locals := 48 } s m ([.ref (ad 331)] : List Value).toArray below meth c D ad cA n0 3 post thr 4 M [(0, .ref (ad 331)), (1, .int (Int32.ofInt v1)), (2, .int (Int32.ofInt v2))] 46 [] := by
      intro q
      induction q with
      | zero => intro M v1 v2 h _; exact absurd h (Nat.not_lt_zero _)
      | succ q ih =>
        intro M v1 v2 hμ hI
        exact blc_46 J_38 (fun M' v1' v2' => I M' v1' v2' ∧ μ M' v1' v2' < μ M v1 v2) M v1 v2 (hB M v1 v2 hI) hJ_38 (fun M' v1' v2' hh => ih M' v1' v2' (Nat.lt_of_lt_of_le hh.2 (Nat.le_of_lt_succ hμ)) hh.1)
    exact key _ M v1 v2 (Nat.lt_succ_self _) hI
  have blc_38 : ∀ (J_38 : (fm_M → Int → Prop)) (M : fm_M) (v1 : Int), C_Mo_findLost_38 post thr J_38 M v1 → (∀ (M : fm_M) (v1 : Int), J_38 M v1 → fx_G p l e { frames := 2, cells := 1, slots := 6, locals := 48 } s m ([.ref (ad 331)] : List Value).toArray below meth c D ad cA n0 3 post thr 4 M [(0, .ref (ad 331)), (1, .int (Int32.ofInt v1))] 38 []) → fx_G p l e { frames := 2, cells := 1, slots := 6, locals := 48 } s m ([.ref (ad 331)] : List Value).toArray below meth c D ad cA n0 3 post thr 4 M [(0, .ref (ad 331)), (1, .int (Int32.ofInt v1))] 38 [] := by
    intro J_38 M v1 hw hJ_38 H locs ls w hl
    refine lv_iload_n F.1 F.2.1 d_Mo_findLost_38 rfl (lv_at hl 1 rfl) ?_
    obtain ⟨h93, hw⟩ := hw
    refine fi_if_eq F d_Mo_findLost_39 (tgt := 124) (by decide) h93 (fun hc94 => ?_) (fun hc94 => ?_)
    · have hw := hw.1 hc94
      exact fx_vret F w hr hlk hw d_Mo_findLost_124
    · have hw := hw.2 hc94
      refine lv_iconst (v := Int32.ofInt 0) F.1 F.2.1 d_Mo_findLost_42 (by decide) ?_
      refine lv_istore_n F.1 F.2.1 d_Mo_findLost_43 rfl hl (by decide) rfl (fun ls hl => ?_)
      have hl : lv_has ls 4 [(1, .int (Int32.ofInt 0)), (0, .ref (ad 331))] := hl
      refine lv_iconst (v := Int32.ofInt 0) F.1 F.2.1 d_Mo_findLost_44 (by decide) ?_
      refine lv_istore_n F.1 F.2.1 d_Mo_findLost_45 rfl hl (by decide) rfl (fun ls hl => ?_)
      have hl : lv_has ls 4 [(2, .int (Int32.ofInt 0)), (1, .int (Int32.ofInt 0)), (0, .ref (ad 331))] := hl
      exact blk_46 J_38 M 0 0 hw hJ_38 H locs ls w (lv_sub hl [2, 1, 0] rfl)
  have blk_38 : ∀ (M : fm_M) (v1 : Int), B_Mo_findLost_38 post thr M v1 → fx_G p l e { frames := 2, cells := 1, slots := 6, locals := 48 } s m ([.ref (ad 331)] : List Value).toArray below meth c D ad cA n0 3 post thr 4 M [(0, .ref (ad 331)), (1, .int (Int32.ofInt v1))] 38 [] := by
    intro M v1 hw
    obtain ⟨I, μ, hI, hB⟩ := hw
    have key : ∀ (q : Nat) (M : fm_M) (v1 : Int), μ M v1 < q → I M v1 → fx_G p l e { frames := 2, cells := 1, slots := 6, locals := 48 } s m ([.ref (ad 331)] : List Value).toArray below meth c D ad cA n0 3 post thr 4 M [(0, .ref (ad 331)), (1, .int (Int32.ofInt v1))] 38 [] := by
      intro q
      induction q with
      | zero => intro M v1 h _; exact absurd h (Nat.not_lt_zero _)
      | succ q ih =>
        intro M v1 hμ hI
        exact blc_38 (fun M' v1' => I M' v1' ∧ μ M' v1' < μ M v1) M v1 (hB M v1 hI) (fun M' v1' hh => ih M' v1' (Nat.lt_of_lt_of_le hh.2 (Nat.le_of_lt_succ hμ)) hh.1)
    exact key _ M v1 (Nat.lt_succ_self _) hI
  have blk_29 : ∀ (J_2 : (fm_M → Int → Prop)) (M : fm_M) (v1 : Int) (s0 : Int) (s1 : Int), B_Mo_findLost_29 post thr J_2 M v1 s0 s1 → (∀ (M : fm_M) (v1 : Int), J_2 M v1 → fx_G p l e { frames := 2, cells := 1, slots := 6, locals := 48 } s m ([.ref (ad 331)] : List Value).toArray below meth c D ad cA n0 3 post thr 4 M [(0, .ref (ad 331)), (1, .int (Int32.ofInt v1))] 2 []) → fx_G p l e { frames := 2, cells := 1, slots := 6, locals := 48 } s m ([.ref (ad 331)] : List Value).toArray below meth c D ad cA n0 3 post thr 4 M [(0, .ref (ad 331)), (1, .int (Int32.ofInt v1))] 29 [.int (Int32.ofInt s0), .int (Int32.ofInt s1), .ref (ad 354)] := by
    intro J_2 M v1 s0 s1 hw hJ_2 H locs ls w hl
    obtain ⟨h95, hw⟩ := hw
    obtain ⟨h96, hw⟩ := hw
    refine fm_sZ F w 354 T_354 (by decide) h95 h96 d_Mo_findLost_29 (fun M97 hM97 H locs w => ?_)
    have hw := hw M97 hM97
    refine fi_iinc (k := 1) (v := (v1 + 1)) F d_Mo_findLost_30 hl rfl rfl (by decide) rfl (fun ls hl => ?_)
    have hl : lv_has ls 4 [(1, .int (Int32.ofInt (v1 + 1))), (0, .ref (ad 331))] := hl
    refine lv_goto F.1 F.2.1 d_Mo_findLost_33 (tgt := 2) (by decide) ?_
    exact hJ_2 M97 (v1 + 1) hw H locs ls w (lv_sub hl [1, 0] rfl)
  have blc_2 : ∀ (J_2 : (fm_M → Int → Prop)) (M : fm_M) (v1 : Int), C_Mo_findLost_2 post thr J_2 M v1 → (∀ (M : fm_M) (v1 : Int), J_2 M v1 → fx_G p l e { frames := 2, cells := 1, slots := 6, locals := 48 } s m ([.ref (ad 331)] : List Value).toArray below meth c D ad cA n0 3 post thr 4 M [(0, .ref (ad 331)), (1, .int (Int32.ofInt v1))] 2 []) → fx_G p l e { frames := 2, cells := 1, slots := 6, locals := 48 } s m ([.ref (ad 331)] : List Value).toArray below meth c D ad cA n0 3 post thr 4 M [(0, .ref (ad 331)), (1, .int (Int32.ofInt v1))] 2 [] := by
    intro J_2 M v1 hw hJ_2 H locs ls w hl
    refine lv_iload_n F.1 F.2.1 d_Mo_findLost_2 rfl (lv_at hl 1 rfl) ?_
    refine lv_aload_n F.1 F.2.1 d_Mo_findLost_3 rfl (lv_at hl 0 rfl) ?_
    refine fm_gI F w cl_Mo 331 20 T_331 (by decide) rfl k_834 d_Mo_findLost_4 ?_
    obtain ⟨h98, hw⟩ := hw
    obtain ⟨h99, hw⟩ := hw
    refine fi_icmp_ge F d_Mo_findLost_7 (tgt := 36) (by decide) h98 h99 (fun hc100 => ?_) (fun hc100 => ?_)
    · have hw := hw.1 hc100
      refine lv_iconst (v := Int32.ofInt 1) F.1 F.2.1 d_Mo_findLost_36 (by decide) ?_
      refine lv_istore_n F.1 F.2.1 d_Mo_findLost_37 rfl hl (by decide) rfl (fun ls hl => ?_)
      have hl : lv_has ls 4 [(1, .int (Int32.ofInt 1)), (0, .ref (ad 331))] := hl
      exact blk_38 M 1 hw H locs ls w (lv_sub hl [1, 0] rfl)
    · have hw := hw.2 hc100
      refine lv_aload_n F.1 F.2.1 d_Mo_findLost_10 rfl (lv_at hl 0 rfl) ?_
      refine fm_gO F w cl_Mo 331 32 354 T_331 (by decide) rfl rfl k_846 d_Mo_findLost_11 ?_
      refine lv_iload_n F.1 F.2.1 d_Mo_findLost_14 rfl (lv_at hl 1 rfl) ?_
      refine lv_aload_n F.1 F.2.1 d_Mo_findLost_15 rfl (lv_at hl 0 rfl) ?_
      refine fm_gO F w cl_Mo 331 24 346 T_331 (by decide) rfl rfl k_838 d_Mo_findLost_16 ?_
      refine lv_iload_n F.1 F.2.1 d_Mo_findLost_19 rfl (lv_at hl 1 rfl) ?_
      obtain ⟨h101, hw⟩ := hw
      refine fm_aZ F w 346 T_346 (by decide) h101 d_Mo_findLost_20 ?_
      obtain ⟨h102, hw⟩ := hw
      refine fi_if_ne F d_Mo_findLost_21 (tgt := 28) (by decide) h102 (fun hc103 => ?_) (fun hc103 => ?_)
      · have hw := hw.1 hc103
        refine lv_iconst (v := Int32.ofInt 0) F.1 F.2.1 d_Mo_findLost_28 (by decide) ?_
        exact blk_29 J_2 M v1 0 v1 hw hJ_2 H locs ls w (lv_sub hl [0, 1] rfl)
      · have hw := hw.2 hc103
        refine lv_iconst (v := Int32.ofInt 1) F.1 F.2.1 d_Mo_findLost_24 (by decide) ?_
        refine lv_goto F.1 F.2.1 d_Mo_findLost_25 (tgt := 29) (by decide) ?_
        exact blk_29 J_2 M v1 1 v1 hw hJ_2 H locs ls w (lv_sub hl [0, 1] rfl)
  have blk_2 : ∀ (M : fm_M) (v1 : Int), B_Mo_findLost_2 post thr M v1 → fx_G p l e { frames := 2, cells := 1, slots := 6, locals := 48 } s m ([.ref (ad 331)] : List Value).toArray below meth c D ad cA n0 3 post thr 4 M [(0, .ref (ad 331)), (1, .int (Int32.ofInt v1))] 2 [] := by
    intro M v1 hw
    obtain ⟨I, μ, hI, hB⟩ := hw
    have key : ∀ (q : Nat) (M : fm_M) (v1 : Int), μ M v1 < q → I M v1 → fx_G p l e { frames := 2, cells := 1, slots := 6, locals := 48 } s m ([.ref (ad 331)] : List Value).toArray below meth c D ad cA n0 3 post thr 4 M [(0, .ref (ad 331)), (1, .int (Int32.ofInt v1))] 2 [] := by
      intro q
      induction q with
      | zero => intro M v1 h _; exact absurd h (Nat.not_lt_zero _)
      | succ q ih =>
        intro M v1 hμ hI
        exact blc_2 (fun M' v1' => I M' v1' ∧ μ M' v1' < μ M v1) M v1 (hB M v1 hI) (fun M' v1' hh => ih M' v1' (Nat.lt_of_lt_of_le hh.2 (Nat.le_of_lt_succ hμ)) hh.1)
    exact key _ M v1 (Nat.lt_succ_self _) hI
  have hl : lv_has ls 4 [(0, .ref (ad 331))] := hl
  suffices h9 : fx_G p l e { frames := 2, cells := 1, slots := 6, locals := 48 } s m ([.ref (ad 331)] : List Value).toArray below meth c D ad cA n0 3 post thr 4 M [(0, .ref (ad 331))] 0 [] from h9 _ _ _ w hl
  intro H locs ls w hl
  refine lv_iconst (v := Int32.ofInt 0) F.1 F.2.1 d_Mo_findLost_0 (by decide) ?_
  refine lv_istore_n F.1 F.2.1 d_Mo_findLost_1 rfl hl (by decide) rfl (fun ls hl => ?_)
  have hl : lv_has ls 4 [(1, .int (Int32.ofInt 0)), (0, .ref (ad 331))] := hl
  exact blk_2 M 0 hw H locs ls w (lv_sub hl [1, 0] rfl)
set_option maxHeartbeats 4000000 in
set_option maxRecDepth 100000 in
theorem met_Mo_equations (l : Launch) (hst9 : l.stackTraces = false) (D : va_G) (ad : Nat → Nat) (cA : Nat → ClassId) (n0 : Nat) (M : fm_M) (post : Int → fm_M → Prop) (thr : String → fm_M → Prop) (hw : wp_Mo_equations M post thr) : fx_Met l y_Mo_equations (Cond.code y_Mo_equations b_Mo_equations 7 none :: tb) { frames := 0, cells := 1, slots := 6, locals := 0 } [.ref (ad 331)] D ad cA n0 M 3 post thr := by
  refine fx_met (by decide) (Nat.le_of_ble_eq_true rfl) (fun p e s m below meth c ls F w hno hr hlk hl => ?_)
  have blc_191 : ∀ (J_102 : (fm_M → Int → Prop)) (J_191 : (fm_M → Int → Int → Int → Int → Prop)) (M : fm_M) (v1 : Int) (v2 : Int) (v3 : Int) (v4 : Int), C_Mo_equations_191 post thr J_102 J_191 M v1 v2 v3 v4 → (∀ (M : fm_M) (v1 : Int), J_102 M v1 → fx_G p l e { frames := 0, cells := 1, slots := 6, locals := 0 } s m ([.ref (ad 331)] : List Value).toArray below meth c D ad cA n0 3 post thr 7 M [(0, .ref (ad 331)), (1, .int (Int32.ofInt v1))] 102 []) → (∀ (M : fm_M) (v1 : Int) (v2 : Int) (v3 : Int) (v4 : Int), J_191 M v1 v2 v3 v4 → fx_G p l e { frames := 0, cells := 1, slots := 6, locals := 0 } s m ([.ref (ad 331)] : List Value).toArray below meth c D ad cA n0 3 post thr 7 M [(0, .ref (ad 331)), (1, .int (Int32.ofInt v1)), (2, .int (Int32.ofInt v2)), (3, .int (Int32.ofInt v3)), (4, .int (Int32.ofInt v4))] 191 []) → fx_G p l e { frames := 0, cells := 1, slots := 6, locals := 0 } s m ([.ref (ad 331)] : List Value).toArray below meth c D ad cA n0 3 post thr 7 M [(0, .ref (ad 331)), (1, .int (Int32.ofInt v1)), (2, .int (Int32.ofInt v2)), (3, .int (Int32.ofInt v3)), (4, .int (Int32.ofInt v4))] 191 [] := by
    intro J_102 J_191 M v1 v2 v3 v4 hw hJ_102 hJ_191 H locs ls w hl
    refine lv_iload F.1 F.2.1 d_Mo_equations_191 (lv_at hl 4 rfl) ?_
    refine lv_aload_n F.1 F.2.1 d_Mo_equations_193 rfl (lv_at hl 0 rfl) ?_
    refine fm_gO F w cl_Mo 331 12 337 T_331 (by decide) rfl rfl k_826 d_Mo_equations_194 ?_
    refine lv_bipush (v := Int32.ofInt 10) F.1 F.2.1 d_Mo_equations_197 (by decide) ?_
    refine lv_aload_n F.1 F.2.1 d_Mo_equations_199 rfl (lv_at hl 0 rfl) ?_
    refine fm_gI F w cl_Mo 331 6 T_331 (by decide) rfl k_820 d_Mo_equations_200 ?_
    refine fi_imul F d_Mo_equations_203 ?_
    refine lv_iload_n F.1 F.2.1 d_Mo_equations_204 rfl (lv_at hl 3 rfl) ?_
    refine fi_iadd F d_Mo_equations_205 ?_
    obtain ⟨h102, hw⟩ := hw
    refine fm_aI F w 337 T_337 (by decide) h102 d_Mo_equations_206 ?_
    obtain ⟨h103, hw⟩ := hw
    obtain ⟨h104, hw⟩ := hw
    refine fi_icmp_ge F d_Mo_equations_207 (tgt := 337) (by decide) h103 h104 (fun hc105 => ?_) (fun hc105 => ?_)
    · have hw := hw.1 hc105
      refine fi_iinc (k := 1) (v := (v1 + 1)) F d_Mo_equations_337 hl rfl rfl (by decide) rfl (fun ls hl => ?_)
      have hl : lv_has ls 7 [(1, .int (Int32.ofInt (v1 + 1))), (0, .ref (ad 331)), (2, .int (Int32.ofInt v2)), (3, .int (Int32.ofInt v3)), (4, .int (Int32.ofInt v4))] := hl
      refine lv_goto F.1 F.2.1 d_Mo_equations_340 (tgt := 102) (by decide) ?_
      exact hJ_102 M (v1 + 1) hw H locs ls w (lv_sub hl [1, 0] rfl)
    · have hw := hw.2 hc105
      refine lv_aload_n F.1 F.2.1 d_Mo_equations_210 rfl (lv_at hl 0 rfl) ?_
      refine fm_gO F w cl_Mo 331 28 350 T_331 (by decide) rfl rfl k_842 d_Mo_equations_211 ?_
      refine lv_bipush (v := Int32.ofInt 40) F.1 F.2.1 d_Mo_equations_214 (by decide) ?_
      refine lv_iload_n F.1 F.2.1 d_Mo_equations_216 rfl (lv_at hl 1 rfl) ?_
      refine fi_imul F d_Mo_equations_217 ?_
      refine lv_iconst (v := Int32.ofInt 4) F.1 F.2.1 d_Mo_equations_218 (by decide) ?_
      refine lv_aload_n F.1 F.2.1 d_Mo_equations_219 rfl (lv_at hl 0 rfl) ?_
      refine fm_gO F w cl_Mo 331 31 353 T_331 (by decide) rfl rfl k_845 d_Mo_equations_220 ?_
      refine lv_iload_n F.1 F.2.1 d_Mo_equations_223 rfl (lv_at hl 1 rfl) ?_
      obtain ⟨h106, hw⟩ := hw
      refine fm_aI F w 353 T_353 (by decide) h106 d_Mo_equations_224 ?_
      refine fi_imul F d_Mo_equations_225 ?_
      refine fi_iadd F d_Mo_equations_226 ?_
      refine lv_iload F.1 F.2.1 d_Mo_equations_227 (lv_at hl 4 rfl) ?_
      refine fi_iadd F d_Mo_equations_229 ?_
      obtain ⟨h107, hw⟩ := hw
      refine fm_aI F w 350 T_350 (by decide) h107 d_Mo_equations_230 ?_
      refine lv_istore F.1 F.2.1 d_Mo_equations_231 hl (by decide) rfl (fun ls hl => ?_)
      have hl : lv_has ls 7 [(5, .int (Int32.ofInt (M 350 (((40 * v1) + (4 * (M 353 v1.toNat))) + v4).toNat))), (0, .ref (ad 331)), (1, .int (Int32.ofInt v1)), (2, .int (Int32.ofInt v2)), (3, .int (Int32.ofInt v3)), (4, .int (Int32.ofInt v4))] := hl
      refine lv_aload_n F.1 F.2.1 d_Mo_equations_233 rfl (lv_at hl 1 rfl) ?_
      refine fm_gO F w cl_Mo 331 14 339 T_331 (by decide) rfl rfl k_828 d_Mo_equations_234 ?_
      refine lv_iconst (v := Int32.ofInt 4) F.1 F.2.1 d_Mo_equations_237 (by decide) ?_
      refine lv_bipush (v := Int32.ofInt 10) F.1 F.2.1 d_Mo_equations_238 (by decide) ?_
      refine lv_aload_n F.1 F.2.1 d_Mo_equations_240 rfl (lv_at hl 1 rfl) ?_
      refine fm_gI F w cl_Mo 331 6 T_331 (by decide) rfl k_820 d_Mo_equations_241 ?_
      refine fi_imul F d_Mo_equations_244 ?_
      refine lv_iload_n F.1 F.2.1 d_Mo_equations_245 rfl (lv_at hl 4 rfl) ?_
      refine fi_iadd F d_Mo_equations_246 ?_
      refine fi_imul F d_Mo_equations_247 ?_
      refine lv_iload F.1 F.2.1 d_Mo_equations_248 (lv_at hl 5 rfl) ?_
      refine fi_iadd F d_Mo_equations_250 ?_
      obtain ⟨h108, hw⟩ := hw
      refine fm_aI F w 339 T_339 (by decide) h108 d_Mo_equations_251 ?_
      refine lv_istore F.1 F.2.1 d_Mo_equations_252 hl (by decide) rfl (fun ls hl => ?_)
      have hl : lv_has ls 7 [(6, .int (Int32.ofInt (M 339 ((4 * ((10 * (M 331 6)) + v3)) + v4).toNat))), (5, .int (Int32.ofInt (M 350 (((40 * v1) + (4 * (M 353 v1.toNat))) + v4).toNat))), (0, .ref (ad 331)), (1, .int (Int32.ofInt v1)), (2, .int (Int32.ofInt v2)), (3, .int (Int32.ofInt v3)), (4, .int (Int32.ofInt v4))] := hl
      refine lv_aload_n F.1 F.2.1 d_Mo_equations_254 rfl (lv_at hl 2 rfl) ?_
      refine fm_gO F w cl_Mo 331 33 355 T_331 (by decide) rfl rfl k_847 d_Mo_equations_255 ?_
      refine lv_iload F.1 F.2.1 d_Mo_equations_258 (lv_at hl 1 rfl) ?_
      obtain ⟨h109, hw⟩ := hw
      refine fm_aI F w 355 T_355 (by decide) h109 d_Mo_equations_260 ?_
      obtain ⟨h110, hw⟩ := hw
      refine fi_if_lt F d_Mo_equations_261 (tgt := 299) (by decide) h110 (fun hc111 => ?_) (fun hc111 => ?_)
      · have hw := hw.1 hc111
        refine lv_aload_n F.1 F.2.1 d_Mo_equations_299 rfl (lv_at hl 2 rfl) ?_
        refine fm_gO F w cl_Mo 331 24 346 T_331 (by decide) rfl rfl k_838 d_Mo_equations_300 ?_
        refine lv_iload F.1 F.2.1 d_Mo_equations_303 (lv_at hl 1 rfl) ?_
        refine fm_aZ F w 346 T_346 (by decide) h109 d_Mo_equations_305 ?_
        obtain ⟨h112, hw⟩ := hw
        refine fi_if_eq F d_Mo_equations_306 (tgt := 331) (by decide) h112 (fun hc113 => ?_) (fun hc113 => ?_)
        · have hw := hw.1 hc113
          refine fi_iinc (k := 6) (v := (v4 + 1)) F d_Mo_equations_331 hl rfl rfl (by decide) rfl (fun ls hl => ?_)
          have hl : lv_has ls 7 [(4, .int (Int32.ofInt (v4 + 1))), (6, .int (Int32.ofInt (M 339 ((4 * ((10 * (M 331 6)) + v3)) + v4).toNat))), (5, .int (Int32.ofInt (M 350 (((40 * v1) + (4 * (M 353 v1.toNat))) + v4).toNat))), (0, .ref (ad 331)), (1, .int (Int32.ofInt v1)), (2, .int (Int32.ofInt v2)), (3, .int (Int32.ofInt v3))] := hl
          refine lv_goto F.1 F.2.1 d_Mo_equations_334 (tgt := 191) (by decide) ?_
          exact hJ_191 M v1 v2 v3 (v4 + 1) hw H locs ls w (lv_sub hl [3, 4, 5, 6, 0] rfl)
        · have hw := hw.2 hc113
          refine lv_aload_n F.1 F.2.1 d_Mo_equations_309 rfl (lv_at hl 2 rfl) ?_
          refine fm_gO F w cl_Mo 331 35 356 T_331 (by decide) rfl rfl k_849 d_Mo_equations_310 ?_
          refine lv_iload_n F.1 F.2.1 d_Mo_equations_313 rfl (lv_at hl 4 rfl) ?_
          refine lv_bipush (v := Int32.ofInt 8) F.1 F.2.1 d_Mo_equations_314 (by decide) ?_
          refine fi_iadd F d_Mo_equations_316 ?_
          refine lv_aload_n F.1 F.2.1 d_Mo_equations_317 rfl (lv_at hl 2 rfl) ?_
          refine fm_gO F w cl_Mo 331 35 356 T_331 (by decide) rfl rfl k_849 d_Mo_equations_318 ?_
          refine lv_iload_n F.1 F.2.1 d_Mo_equations_321 rfl (lv_at hl 4 rfl) ?_
          refine lv_bipush (v := Int32.ofInt 8) F.1 F.2.1 d_Mo_equations_322 (by decide) ?_
          refine fi_iadd F d_Mo_equations_324 ?_
          obtain ⟨h114, hw⟩ := hw
          refine fm_aL F w 356 T_356 (by decide) h114 d_Mo_equations_325 ?_
          refine lv_iload F.1 F.2.1 d_Mo_equations_326 (lv_at hl 0 rfl) ?_
          obtain ⟨h115, hw⟩ := hw
          refine fi_wi2l F d_Mo_equations_328 h115 ?_
          refine fi_ladd F d_Mo_equations_329 ?_
          refine fm_sL F w 356 T_356 (by decide) h114  d_Mo_equations_330 (fun M116 hM116 H locs w => ?_)
          have hw := hw M116 hM116
          refine fi_iinc (k := 6) (v := (v4 + 1)) F d_Mo_equations_331 hl rfl rfl (by decide) rfl (fun ls hl => ?_)
          have hl : lv_has ls 7 [(4, .int (Int32.ofInt (v4 + 1))), (6, .int (Int32.ofInt (M 339 ((4 * ((10 * (M 331 6)) + v3)) + v4).toNat))), (5, .int (Int32.ofInt (M 350 (((40 * v1) + (4 * (M 353 v1.toNat))) + v4).toNat))), (0, .ref (ad 331)), (1, .int (Int32.ofInt v1)), (2, .int (Int32.ofInt v2)), (3, .int (Int32.ofInt v3))] := hl
          refine lv_goto F.1 F.2.1 d_Mo_equations_334 (tgt := 191) (by decide) ?_
          exact hJ_191 M116 v1 v2 v3 (v4 + 1) hw H locs ls w (lv_sub hl [3, 4, 5, 6, 0] rfl)
      · have hw := hw.2 hc111
        refine lv_aload_n F.1 F.2.1 d_Mo_equations_264 rfl (lv_at hl 2 rfl) ?_
        refine fm_gO F w cl_Mo 331 35 356 T_331 (by decide) rfl rfl k_849 d_Mo_equations_265 ?_
        refine lv_iload_n F.1 F.2.1 d_Mo_equations_268 rfl (lv_at hl 4 rfl) ?_
        refine lv_aload_n F.1 F.2.1 d_Mo_equations_269 rfl (lv_at hl 2 rfl) ?_
        refine fm_gO F w cl_Mo 331 33 355 T_331 (by decide) rfl rfl k_847 d_Mo_equations_270 ?_
        refine lv_iload F.1 F.2.1 d_Mo_equations_273 (lv_at hl 1 rfl) ?_
        refine fm_aI F w 355 T_355 (by decide) h109 d_Mo_equations_275 ?_
        refine fi_iadd F d_Mo_equations_276 ?_
        refine lv_aload_n F.1 F.2.1 d_Mo_equations_277 rfl (lv_at hl 2 rfl) ?_
        refine fm_gO F w cl_Mo 331 35 356 T_331 (by decide) rfl rfl k_849 d_Mo_equations_278 ?_
        refine lv_iload_n F.1 F.2.1 d_Mo_equations_281 rfl (lv_at hl 4 rfl) ?_
        refine lv_aload_n F.1 F.2.1 d_Mo_equations_282 rfl (lv_at hl 2 rfl) ?_
        refine fm_gO F w cl_Mo 331 33 355 T_331 (by decide) rfl rfl k_847 d_Mo_equations_283 ?_
        refine lv_iload F.1 F.2.1 d_Mo_equations_286 (lv_at hl 1 rfl) ?_
        refine fm_aI F w 355 T_355 (by decide) h109 d_Mo_equations_288 ?_
        refine fi_iadd F d_Mo_equations_289 ?_
        obtain ⟨h117, hw⟩ := hw
        refine fm_aL F w 356 T_356 (by decide) h117 d_Mo_equations_290 ?_
        refine lv_iload F.1 F.2.1 d_Mo_equations_291 (lv_at hl 0 rfl) ?_
        obtain ⟨h118, hw⟩ := hw
        refine fi_wi2l F d_Mo_equations_293 h118 ?_
        refine fi_lsub F d_Mo_equations_294 ?_
        refine fm_sL F w 356 T_356 (by decide) h117  d_Mo_equations_295 (fun M119 hM119 H locs w => ?_)
        have hw := hw M119 hM119
        refine lv_goto F.1 F.2.1 d_Mo_equations_296 (tgt := 331) (by decide) ?_
        refine fi_iinc (k := 6) (v := (v4 + 1)) F d_Mo_equations_331 hl rfl rfl (by decide) rfl (fun ls hl => ?_)
        have hl : lv_has ls 7 [(4, .int (Int32.ofInt (v4 + 1))), (6, .int (Int32.ofInt (M 339 ((4 * ((10 * (M 331 6)) + v3)) + v4).toNat))), (5, .int (Int32.ofInt (M 350 (((40 * v1) + (4 * (M 353 v1.toNat))) + v4).toNat))), (0, .ref (ad 331)), (1, .int (Int32.ofInt v1)), (2, .int (Int32.ofInt v2)), (3, .int (Int32.ofInt v3))] := hl
        refine lv_goto F.1 F.2.1 d_Mo_equations_334 (tgt := 191) (by decide) ?_
        exact hJ_191 M119 v1 v2 v3 (v4 + 1) hw H locs ls w (lv_sub hl [3, 4, 5, 6, 0] rfl)
  have blk_191 : ∀ (J_102 : (fm_M → Int → Prop)) (M : fm_M) (v1 : Int) (v2 : Int) (v3 : Int) (v4 : Int), B_Mo_equations_191 post thr J_102 M v1 v2 v3 v4 → (∀ (M : fm_M) (v1 : Int), J_102 M v1 → fx_G p l e { frames := 0, cells := 1, slots := 6, locals := 0 } s m ([.ref (ad 331)] : List Value).toArray below meth c D ad cA n0 3 post thr 7 M [(0, .ref (ad 331)), (1, .int (Int32.ofInt v1))] 102 []) → fx_G p l e { frames := 0, cells := 1, slots := 6, locals := 0 } s m ([.ref (ad 331)] : List Value).toArray below meth c D ad cA n0 3 post thr 7 M [(0, .ref (ad 331)), (1, .int (Int32.ofInt v1)), (2, .int (Int32.ofInt v2)), (3, .int (Int32.ofInt v3)), (4, .int (Int32.ofInt v4))] 191 [] := by
    intro J_102 M v1 v2 v3 v4 hw hJ_102
    obtain ⟨I, μ, hI, hB⟩ := hw
    have key : ∀ (q : Nat) (M : fm_M) (v1 : Int) (v2 : Int) (v3 : Int) (v4 : Int), μ M v1 v2 v3 v4 < q → I M v1 v2 v3 v4 → fx_G p l e { frames := 0, cells := 1, slots := 6, locals := 0 } s m ([.ref (ad 331)] : List Value).toArray below meth c D ad cA n0 3 post thr 7 M [(0, .ref (ad 331)), (1, .int (Int32.ofInt v1)), (2, .int (Int32.ofInt v2)), (3, .int (Int32.ofInt v3)), (4, .int (Int32.ofInt v4))] 191 [] := by
      intro q
      induction q with
      | zero => intro M v1 v2 v3 v4 h _; exact absurd h (Nat.not_lt_zero _)
      | succ q ih =>
        intro M v1 v2 v3 v4 hμ hI
        exact blc_191 J_102 (fun M' v1' v2' v3' v4' => I M' v1' v2' v3' v4' ∧ μ M' v1' v2' v3' v4' < μ M v1 v2 v3 v4) M v1 v2 v3 v4 (hB M v1 v2 v3 v4 hI) hJ_102 (fun M' v1' v2' v3' v4' hh => ih M' v1' v2' v3' v4' (Nat.lt_of_lt_of_le hh.2 (Nat.le_of_lt_succ hμ)) hh.1)
    exact key _ M v1 v2 v3 v4 (Nat.lt_succ_self _) hI
  have blc_102 : ∀ (J_102 : (fm_M → Int → Prop)) (M : fm_M) (v1 : Int), C_Mo_equations_102 post thr J_102 M v1 → (∀ (M : fm_M) (v1 : Int), J_102 M v1 → fx_G p l e { frames := 0, cells := 1, slots := 6, locals := 0 } s m ([.ref (ad 331)] : List Value).toArray below meth c D ad cA n0 3 post thr 7 M [(0, .ref (ad 331)), (1, .int (Int32.ofInt v1))] 102 []) → fx_G p l e { frames := 0, cells := 1, slots := 6, locals := 0 } s m ([.ref (ad 331)] : List Value).toArray below meth c D ad cA n0 3 post thr 7 M [(0, .ref (ad 331)), (1, .int (Int32.ofInt v1))] 102 [] := by
    intro J_102 M v1 hw hJ_102 H locs ls w hl
    refine lv_iload_n F.1 F.2.1 d_Mo_equations_102 rfl (lv_at hl 1 rfl) ?_
    refine lv_aload_n F.1 F.2.1 d_Mo_equations_103 rfl (lv_at hl 0 rfl) ?_
    refine fm_gI F w cl_Mo 331 20 T_331 (by decide) rfl k_834 d_Mo_equations_104 ?_
    obtain ⟨h120, hw⟩ := hw
    obtain ⟨h121, hw⟩ := hw
    refine fi_icmp_ge F d_Mo_equations_107 (tgt := 343) (by decide) h120 h121 (fun hc122 => ?_) (fun hc122 => ?_)
    · have hw := hw.1 hc122
      exact fx_vret F w hr hlk hw d_Mo_equations_343
    · have hw := hw.2 hc122
      refine lv_aload_n F.1 F.2.1 d_Mo_equations_110 rfl (lv_at hl 0 rfl) ?_
      refine fm_gO F w cl_Mo 331 33 355 T_331 (by decide) rfl rfl k_847 d_Mo_equations_111 ?_
      refine lv_iload_n F.1 F.2.1 d_Mo_equations_114 rfl (lv_at hl 1 rfl) ?_
      obtain ⟨h123, hw⟩ := hw
      refine fm_aI F w 355 T_355 (by decide) h123 d_Mo_equations_115 ?_
      obtain ⟨h124, hw⟩ := hw
      refine fi_if_lt F d_Mo_equations_116 (tgt := 337) (by decide) h124 (fun hc125 => ?_) (fun hc125 => ?_)
      · have hw := hw.1 hc125
        refine fi_iinc (k := 1) (v := (v1 + 1)) F d_Mo_equations_337 hl rfl rfl (by decide) rfl (fun ls hl => ?_)
        have hl : lv_has ls 7 [(1, .int (Int32.ofInt (v1 + 1))), (0, .ref (ad 331))] := hl
        refine lv_goto F.1 F.2.1 d_Mo_equations_340 (tgt := 102) (by decide) ?_
        exact hJ_102 M (v1 + 1) hw H locs ls w (lv_sub hl [1, 0] rfl)
      · have hw := hw.2 hc125
        refine lv_bipush (v := Int32.ofInt 9) F.1 F.2.1 d_Mo_equations_119 (by decide) ?_
        refine lv_aload_n F.1 F.2.1 d_Mo_equations_121 rfl (lv_at hl 0 rfl) ?_
        refine fm_gO F w cl_Mo 331 33 355 T_331 (by decide) rfl rfl k_847 d_Mo_equations_122 ?_
        refine lv_iload_n F.1 F.2.1 d_Mo_equations_125 rfl (lv_at hl 1 rfl) ?_
        refine fm_aI F w 355 T_355 (by decide) h123 d_Mo_equations_126 ?_
        refine fi_imul F d_Mo_equations_127 ?_
        refine lv_istore_n F.1 F.2.1 d_Mo_equations_128 rfl hl (by decide) rfl (fun ls hl => ?_)
        have hl : lv_has ls 7 [(2, .int (Int32.ofInt (9 * (M 355 v1.toNat)))), (0, .ref (ad 331)), (1, .int (Int32.ofInt v1))] := hl
        refine lv_aload_n F.1 F.2.1 d_Mo_equations_129 rfl (lv_at hl 1 rfl) ?_
        refine fm_gO F w cl_Mo 331 26 348 T_331 (by decide) rfl rfl k_840 d_Mo_equations_130 ?_
        refine lv_bipush (v := Int32.ofInt 10) F.1 F.2.1 d_Mo_equations_133 (by decide) ?_
        refine lv_iload_n F.1 F.2.1 d_Mo_equations_135 rfl (lv_at hl 2 rfl) ?_
        refine fi_imul F d_Mo_equations_136 ?_
        refine lv_aload_n F.1 F.2.1 d_Mo_equations_137 rfl (lv_at hl 1 rfl) ?_
        refine fm_gO F w cl_Mo 331 31 353 T_331 (by decide) rfl rfl k_845 d_Mo_equations_138 ?_
        refine lv_iload_n F.1 F.2.1 d_Mo_equations_141 rfl (lv_at hl 2 rfl) ?_
        refine fm_aI F w 353 T_353 (by decide) h123 d_Mo_equations_142 ?_
        refine fi_iadd F d_Mo_equations_143 ?_
        obtain ⟨h126, hw⟩ := hw
        refine fm_aI F w 348 T_348 (by decide) h126 d_Mo_equations_144 ?_
        refine lv_istore_n F.1 F.2.1 d_Mo_equations_145 rfl hl (by decide) rfl (fun ls hl => ?_)
        have hl : lv_has ls 7 [(3, .int (Int32.ofInt (M 348 ((10 * v1) + (M 353 v1.toNat)).toNat))), (2, .int (Int32.ofInt (9 * (M 355 v1.toNat)))), (0, .ref (ad 331)), (1, .int (Int32.ofInt v1))] := hl
        refine lv_aload_n F.1 F.2.1 d_Mo_equations_146 rfl (lv_at hl 2 rfl) ?_
        refine fm_gO F w cl_Mo 331 35 356 T_331 (by decide) rfl rfl k_849 d_Mo_equations_147 ?_
        refine lv_iload_n F.1 F.2.1 d_Mo_equations_150 rfl (lv_at hl 1 rfl) ?_
        refine lv_aload_n F.1 F.2.1 d_Mo_equations_151 rfl (lv_at hl 2 rfl) ?_
        refine fm_gO F w cl_Mo 331 33 355 T_331 (by decide) rfl rfl k_847 d_Mo_equations_152 ?_
        refine lv_iload_n F.1 F.2.1 d_Mo_equations_155 rfl (lv_at hl 3 rfl) ?_
        refine fm_aI F w 355 T_355 (by decide) h123 d_Mo_equations_156 ?_
        refine fi_iadd F d_Mo_equations_157 ?_
        refine lv_aload_n F.1 F.2.1 d_Mo_equations_158 rfl (lv_at hl 2 rfl) ?_
        refine fm_gO F w cl_Mo 331 35 356 T_331 (by decide) rfl rfl k_849 d_Mo_equations_159 ?_
        refine lv_iload_n F.1 F.2.1 d_Mo_equations_162 rfl (lv_at hl 1 rfl) ?_
        refine lv_aload_n F.1 F.2.1 d_Mo_equations_163 rfl (lv_at hl 2 rfl) ?_
        refine fm_gO F w cl_Mo 331 33 355 T_331 (by decide) rfl rfl k_847 d_Mo_equations_164 ?_
        refine lv_iload_n F.1 F.2.1 d_Mo_equations_167 rfl (lv_at hl 3 rfl) ?_
        refine fm_aI F w 355 T_355 (by decide) h123 d_Mo_equations_168 ?_
        refine fi_iadd F d_Mo_equations_169 ?_
        obtain ⟨h127, hw⟩ := hw
        refine fm_aL F w 356 T_356 (by decide) h127 d_Mo_equations_170 ?_
        refine lv_aload_n F.1 F.2.1 d_Mo_equations_171 rfl (lv_at hl 2 rfl) ?_
        refine fm_gO F w cl_Mo 331 13 338 T_331 (by decide) rfl rfl k_827 d_Mo_equations_172 ?_
        refine lv_bipush (v := Int32.ofInt 10) F.1 F.2.1 d_Mo_equations_175 (by decide) ?_
        refine lv_aload_n F.1 F.2.1 d_Mo_equations_177 rfl (lv_at hl 2 rfl) ?_
        refine fm_gI F w cl_Mo 331 6 T_331 (by decide) rfl k_820 d_Mo_equations_178 ?_
        refine fi_imul F d_Mo_equations_181 ?_
        refine lv_iload_n F.1 F.2.1 d_Mo_equations_182 rfl (lv_at hl 0 rfl) ?_
        refine fi_iadd F d_Mo_equations_183 ?_
        obtain ⟨h128, hw⟩ := hw
        refine fm_aI F w 338 T_338 (by decide) h128 d_Mo_equations_184 ?_
        obtain ⟨h129, hw⟩ := hw
        refine fi_wi2l F d_Mo_equations_185 h129 ?_
        refine fi_ladd F d_Mo_equations_186 ?_
        refine fm_sL F w 356 T_356 (by decide) h127  d_Mo_equations_187 (fun M130 hM130 H locs w => ?_)
        have hw := hw M130 hM130
        refine lv_iconst (v := Int32.ofInt 0) F.1 F.2.1 d_Mo_equations_188 (by decide) ?_
        refine lv_istore F.1 F.2.1 d_Mo_equations_189 hl (by decide) rfl (fun ls hl => ?_)
        have hl : lv_has ls 7 [(4, .int (Int32.ofInt 0)), (3, .int (Int32.ofInt (M 348 ((10 * v1) + (M 353 v1.toNat)).toNat))), (2, .int (Int32.ofInt (9 * (M 355 v1.toNat)))), (0, .ref (ad 331)), (1, .int (Int32.ofInt v1))] := hl
        exact blk_191 J_102 M130 v1 (9 * (M 355 v1.toNat)) (M 348 ((10 * v1) + (M 353 v1.toNat)).toNat) 0 hw hJ_102 H locs ls w (lv_sub hl [3, 4, 2, 1, 0] rfl)
  have blk_102 : ∀ (M : fm_M) (v1 : Int), B_Mo_equations_102 post thr M v1 → fx_G p l e { frames := 0, cells := 1, slots := 6, locals := 0 } s m ([.ref (ad 331)] : List Value).toArray below meth c D ad cA n0 3 post thr 7 M [(0, .ref (ad 331)), (1, .int (Int32.ofInt v1))] 102 [] := by
    intro M v1 hw
    obtain ⟨I, μ, hI, hB⟩ := hw
    have key : ∀ (q : Nat) (M : fm_M) (v1 : Int), μ M v1 < q → I M v1 → fx_G p l e { frames := 0, cells := 1, slots := 6, locals := 0 } s m ([.ref (ad 331)] : List Value).toArray below meth c D ad cA n0 3 post thr 7 M [(0, .ref (ad 331)), (1, .int (Int32.ofInt v1))] 102 [] := by
      intro q
      induction q with
      | zero => intro M v1 h _; exact absurd h (Nat.not_lt_zero _)
      | succ q ih =>
        intro M v1 hμ hI
        exact blc_102 (fun M' v1' => I M' v1' ∧ μ M' v1' < μ M v1) M v1 (hB M v1 hI) (fun M' v1' hh => ih M' v1' (Nat.lt_of_lt_of_le hh.2 (Nat.le_of_lt_succ hμ)) hh.1)
    exact key _ M v1 (Nat.lt_succ_self _) hI
  have blc_81 : ∀ (J_81 : (fm_M → Int → Prop)) (M : fm_M) (v1 : Int), C_Mo_equations_81 post thr J_81 M v1 → (∀ (M : fm_M) (v1 : Int), J_81 M v1 → fx_G p l e { frames := 0, cells := 1, slots := 6, locals := 0 } s m ([.ref (ad 331)] : List Value).toArray below meth c D ad cA n0 3 post thr 7 M [(0, .ref (ad 331)), (1, .int (Int32.ofInt v1))] 81 []) → fx_G p l e { frames := 0, cells := 1, slots := 6, locals := 0 } s m ([.ref (ad 331)] : List Value).toArray below meth c D ad cA n0 3 post thr 7 M [(0, .ref (ad 331)), (1, .int (Int32.ofInt v1))] 81 [] := by
    intro J_81 M v1 hw hJ_81 H locs ls w hl
    refine lv_iload_n F.1 F.2.1 d_Mo_equations_81 rfl (lv_at hl 1 rfl) ?_
    refine lv_bipush (v := Int32.ofInt 72) F.1 F.2.1 d_Mo_equations_82 (by decide) ?_
    obtain ⟨h131, hw⟩ := hw
    refine fi_icmp_ge F d_Mo_equations_84 (tgt := 100) (by decide) h131 (rgl (by decide)) (fun hc132 => ?_) (fun hc132 => ?_)
    · have hw := hw.1 hc132
      refine lv_iconst (v := Int32.ofInt 0) F.1 F.2.1 d_Mo_equations_100 (by decide) ?_
      refine lv_istore_n F.1 F.2.1 d_Mo_equations_101 rfl hl (by decide) rfl (fun ls hl => ?_)
      have hl : lv_has ls 7 [(1, .int (Int32.ofInt 0)), (0, .ref (ad 331))] := hl
      exact blk_102 M 0 hw H locs ls w (lv_sub hl [1, 0] rfl)
    · have hw := hw.2 hc132
      refine lv_aload_n F.1 F.2.1 d_Mo_equations_87 rfl (lv_at hl 0 rfl) ?_
      refine fm_gO F w cl_Mo 331 35 356 T_331 (by decide) rfl rfl k_849 d_Mo_equations_88 ?_
      refine lv_iload_n F.1 F.2.1 d_Mo_equations_91 rfl (lv_at hl 1 rfl) ?_
      refine lv_lconst (v := Int64.ofInt 0) F.1 F.2.1 d_Mo_equations_92 (by decide) ?_
      obtain ⟨h133, hw⟩ := hw
      refine fm_sL F w 356 T_356 (by decide) h133  d_Mo_equations_93 (fun M134 hM134 H locs w => ?_)
      have hw := hw M134 hM134
      refine fi_iinc (k := 1) (v := (v1 + 1)) F d_Mo_equations_94 hl rfl rfl (by decide) rfl (fun ls hl => ?_)
      have hl : lv_has ls 7 [(1, .int (Int32.ofInt (v1 + 1))), (0, .ref (ad 331))] := hl
      refine lv_goto F.1 F.2.1 d_Mo_equations_97 (tgt := 81) (by decide) ?_
      exact hJ_81 M134 (v1 + 1) hw H locs ls w (lv_sub hl [1, 0] rfl)
  have blk_81 : ∀ (M : fm_M) (v1 : Int), B_Mo_equations_81 post thr M v1 → fx_G p l e { frames := 0, cells := 1, slots := 6, locals := 0 } s m ([.ref (ad 331)] : List Value).toArray below meth c D ad cA n0 3 post thr 7 M [(0, .ref (ad 331)), (1, .int (Int32.ofInt v1))] 81 [] := by
    intro M v1 hw
    obtain ⟨I, μ, hI, hB⟩ := hw
    have key : ∀ (q : Nat) (M : fm_M) (v1 : Int), μ M v1 < q → I M v1 → fx_G p l e { frames := 0, cells := 1, slots := 6, locals := 0 } s m ([.ref (ad 331)] : List Value).toArray below meth c D ad cA n0 3 post thr 7 M [(0, .ref (ad 331)), (1, .int (Int32.ofInt v1))] 81 [] := by
      intro q
      induction q with
      | zero => intro M v1 h _; exact absurd h (Nat.not_lt_zero _)
      | succ q ih =>
        intro M v1 hμ hI
        exact blc_81 (fun M' v1' => I M' v1' ∧ μ M' v1' < μ M v1) M v1 (hB M v1 hI) (fun M' v1' hh => ih M' v1' (Nat.lt_of_lt_of_le hh.2 (Nat.le_of_lt_succ hμ)) hh.1)
    exact key _ M v1 (Nat.lt_succ_self _) hI
  have blk_70 : ∀ (J_7 : (fm_M → Int → Prop)) (M : fm_M) (v1 : Int) (s0 : Int), B_Mo_equations_70 post thr J_7 M v1 s0 → (∀ (M : fm_M) (v1 : Int), J_7 M v1 → fx_G p l e { frames := 0, cells := 1, slots := 6, locals := 0 } s m ([.ref (ad 331)] : List Value).toArray below meth c D ad cA n0 3 post thr 7 M [(0, .ref (ad 331)), (1, .int (Int32.ofInt v1))] 7 []) → fx_G p l e { frames := 0, cells := 1, slots := 6, locals := 0 } s m ([.ref (ad 331)] : List Value).toArray below meth c D ad cA n0 3 post thr 7 M [(0, .ref (ad 331)), (1, .int (Int32.ofInt v1))] 70 [.int (Int32.ofInt s0), .ref (ad 331)] := by
    intro J_7 M v1 s0 hw hJ_7 H locs ls w hl
    refine fm_pI F w cl_Mo 331 34 T_331 (by decide) rfl k_848 rfl rfl d_Mo_equations_70 (fun M135 hM135 H locs w => ?_)
    have hw := hw M135 hM135
    refine fi_iinc (k := 1) (v := (v1 + 1)) F d_Mo_equations_73 hl rfl rfl (by decide) rfl (fun ls hl => ?_)
    have hl : lv_has ls 7 [(1, .int (Int32.ofInt (v1 + 1))), (0, .ref (ad 331))] := hl
    refine lv_goto F.1 F.2.1 d_Mo_equations_76 (tgt := 7) (by decide) ?_
    exact hJ_7 M135 (v1 + 1) hw H locs ls w (lv_sub hl [1, 0] rfl)
  have blk_46 : ∀ (J_7 : (fm_M → Int → Prop)) (M : fm_M) (v1 : Int) (s0 : Int) (s1 : Int), B_Mo_equations_46 post thr J_7 M v1 s0 s1 → (∀ (M : fm_M) (v1 : Int), J_7 M v1 → fx_G p l e { frames := 0, cells := 1, slots := 6, locals := 0 } s m ([.ref (ad 331)] : List Value).toArray below meth c D ad cA n0 3 post thr 7 M [(0, .ref (ad 331)), (1, .int (Int32.ofInt v1))] 7 []) → fx_G p l e { frames := 0, cells := 1, slots := 6, locals := 0 } s m ([.ref (ad 331)] : List Value).toArray below meth c D ad cA n0 3 post thr 7 M [(0, .ref (ad 331)), (1, .int (Int32.ofInt v1))] 46 [.int (Int32.ofInt s0), .int (Int32.ofInt s1), .ref (ad 355)] := by
    intro J_7 M v1 s0 s1 hw hJ_7 H locs ls w hl
    obtain ⟨h136, hw⟩ := hw
    refine fm_sI F w 355 T_355 (by decide) h136  d_Mo_equations_46 (fun M137 hM137 H locs w => ?_)
    have hw := hw M137 hM137
    refine lv_aload_n F.1 F.2.1 d_Mo_equations_47 rfl (lv_at hl 0 rfl) ?_
    refine lv_aload_n F.1 F.2.1 d_Mo_equations_48 rfl (lv_at hl 0 rfl) ?_
    refine fm_gO F w cl_Mo 331 33 355 T_331 (by decide) rfl rfl k_847 d_Mo_equations_49 ?_
    refine lv_iload_n F.1 F.2.1 d_Mo_equations_52 rfl (lv_at hl 1 rfl) ?_
    obtain ⟨h138, hw⟩ := hw
    refine fm_aI F w 355 T_355 (by decide) h138 d_Mo_equations_53 ?_
    obtain ⟨h139, hw⟩ := hw
    refine fi_if_ge F d_Mo_equations_54 (tgt := 64) (by decide) h139 (fun hc140 => ?_) (fun hc140 => ?_)
    · have hw := hw.1 hc140
      refine lv_aload_n F.1 F.2.1 d_Mo_equations_64 rfl (lv_at hl 0 rfl) ?_
      refine fm_gI F w cl_Mo 331 34 T_331 (by decide) rfl k_848 d_Mo_equations_65 ?_
      refine lv_iconst (v := Int32.ofInt 1) F.1 F.2.1 d_Mo_equations_68 (by decide) ?_
      refine fi_iadd F d_Mo_equations_69 ?_
      exact blk_70 J_7 M137 v1 ((M137 331 34) + 1) hw hJ_7 H locs ls w (lv_sub hl [0, 1] rfl)
    · have hw := hw.2 hc140
      refine lv_aload_n F.1 F.2.1 d_Mo_equations_57 rfl (lv_at hl 0 rfl) ?_
      refine fm_gI F w cl_Mo 331 34 T_331 (by decide) rfl k_848 d_Mo_equations_58 ?_
      refine lv_goto F.1 F.2.1 d_Mo_equations_61 (tgt := 70) (by decide) ?_
      exact blk_70 J_7 M137 v1 (M137 331 34) hw hJ_7 H locs ls w (lv_sub hl [0, 1] rfl)
  have blk_38 : ∀ (J_7 : (fm_M → Int → Prop)) (M : fm_M) (v1 : Int) (s0 : Int), B_Mo_equations_38 post thr J_7 M v1 s0 → (∀ (M : fm_M) (v1 : Int), J_7 M v1 → fx_G p l e { frames := 0, cells := 1, slots := 6, locals := 0 } s m ([.ref (ad 331)] : List Value).toArray below meth c D ad cA n0 3 post thr 7 M [(0, .ref (ad 331)), (1, .int (Int32.ofInt v1))] 7 []) → fx_G p l e { frames := 0, cells := 1, slots := 6, locals := 0 } s m ([.ref (ad 331)] : List Value).toArray below meth c D ad cA n0 3 post thr 7 M [(0, .ref (ad 331)), (1, .int (Int32.ofInt v1))] 38 [.int (Int32.ofInt s0), .ref (ad 355)] := by
    intro J_7 M v1 s0 hw hJ_7 H locs ls w hl
    refine lv_iconst (v := Int32.ofInt (-1)) F.1 F.2.1 d_Mo_equations_38 (by decide) ?_
    refine lv_goto F.1 F.2.1 d_Mo_equations_39 (tgt := 46) (by decide) ?_
    exact blk_46 J_7 M v1 (-1) s0 hw hJ_7 H locs ls w (lv_sub hl [0, 1] rfl)
  have blc_7 : ∀ (J_7 : (fm_M → Int → Prop)) (M : fm_M) (v1 : Int), C_Mo_equations_7 post thr J_7 M v1 → (∀ (M : fm_M) (v1 : Int), J_7 M v1 → fx_G p l e { frames := 0, cells := 1, slots := 6, locals := 0 } s m ([.ref (ad 331)] : List Value).toArray below meth c D ad cA n0 3 post thr 7 M [(0, .ref (ad 331)), (1, .int (Int32.ofInt v1))] 7 []) → fx_G p l e { frames := 0, cells := 1, slots := 6, locals := 0 } s m ([.ref (ad 331)] : List Value).toArray below meth c D ad cA n0 3 post thr 7 M [(0, .ref (ad 331)), (1, .int (Int32.ofInt v1))] 7 [] := by
    intro J_7 M v1 hw hJ_7 H locs ls w hl
    refine lv_iload_n F.1 F.2.1 d_Mo_equations_7 rfl (lv_at hl 1 rfl) ?_
    refine lv_aload_n F.1 F.2.1 d_Mo_equations_8 rfl (lv_at hl 0 rfl) ?_
    refine fm_gI F w cl_Mo 331 20 T_331 (by decide) rfl k_834 d_Mo_equations_9 ?_
    obtain ⟨h141, hw⟩ := hw
    obtain ⟨h142, hw⟩ := hw
    refine fi_icmp_ge F d_Mo_equations_12 (tgt := 79) (by decide) h141 h142 (fun hc143 => ?_) (fun hc143 => ?_)
    · have hw := hw.1 hc143
      refine lv_iconst (v := Int32.ofInt 0) F.1 F.2.1 d_Mo_equations_79 (by decide) ?_
      refine lv_istore_n F.1 F.2.1 d_Mo_equations_80 rfl hl (by decide) rfl (fun ls hl => ?_)
      have hl : lv_has ls 7 [(1, .int (Int32.ofInt 0)), (0, .ref (ad 331))] := hl
      exact blk_81 M 0 hw H locs ls w (lv_sub hl [1, 0] rfl)
    · have hw := hw.2 hc143
      refine lv_aload_n F.1 F.2.1 d_Mo_equations_15 rfl (lv_at hl 0 rfl) ?_
      refine fm_gO F w cl_Mo 331 33 355 T_331 (by decide) rfl rfl k_847 d_Mo_equations_16 ?_
      refine lv_iload_n F.1 F.2.1 d_Mo_equations_19 rfl (lv_at hl 1 rfl) ?_
      refine lv_aload_n F.1 F.2.1 d_Mo_equations_20 rfl (lv_at hl 0 rfl) ?_
      refine fm_gO F w cl_Mo 331 32 354 T_331 (by decide) rfl rfl k_846 d_Mo_equations_21 ?_
      refine lv_iload_n F.1 F.2.1 d_Mo_equations_24 rfl (lv_at hl 1 rfl) ?_
      obtain ⟨h144, hw⟩ := hw
      refine fm_aZ F w 354 T_354 (by decide) h144 d_Mo_equations_25 ?_
      obtain ⟨h145, hw⟩ := hw
      refine fi_if_ne F d_Mo_equations_26 (tgt := 38) (by decide) h145 (fun hc146 => ?_) (fun hc146 => ?_)
      · have hw := hw.1 hc146
        exact blk_38 J_7 M v1 v1 hw hJ_7 H locs ls w (lv_sub hl [0, 1] rfl)
      · have hw := hw.2 hc146
        refine lv_aload_n F.1 F.2.1 d_Mo_equations_29 rfl (lv_at hl 0 rfl) ?_
        refine fm_gO F w cl_Mo 331 24 346 T_331 (by decide) rfl rfl k_838 d_Mo_equations_30 ?_
        refine lv_iload_n F.1 F.2.1 d_Mo_equations_33 rfl (lv_at hl 1 rfl) ?_
        refine fm_aZ F w 346 T_346 (by decide) h144 d_Mo_equations_34 ?_
        obtain ⟨h147, hw⟩ := hw
        refine fi_if_eq F d_Mo_equations_35 (tgt := 42) (by decide) h147 (fun hc148 => ?_) (fun hc148 => ?_)
        · have hw := hw.1 hc148
          refine lv_aload_n F.1 F.2.1 d_Mo_equations_42 rfl (lv_at hl 0 rfl) ?_
          refine fm_gI F w cl_Mo 331 34 T_331 (by decide) rfl k_848 d_Mo_equations_43 ?_
          exact blk_46 J_7 M v1 (M 331 34) v1 hw hJ_7 H locs ls w (lv_sub hl [0, 1] rfl)
        · have hw := hw.2 hc148
          exact blk_38 J_7 M v1 v1 hw hJ_7 H locs ls w (lv_sub hl [0, 1] rfl)
  have blk_7 : ∀ (M : fm_M) (v1 : Int), B_Mo_equations_7 post thr M v1 → fx_G p l e { frames := 0, cells := 1, slots := 6, locals := 0 } s m ([.ref (ad 331)] : List Value).toArray below meth c D ad cA n0 3 post thr 7 M [(0, .ref (ad 331)), (1, .int (Int32.ofInt v1))] 7 [] := by
    intro M v1 hw
    obtain ⟨I, μ, hI, hB⟩ := hw
    have key : ∀ (q : Nat) (M : fm_M) (v1 : Int), μ M v1 < q → I M v1 → fx_G p l e { frames := 0, cells := 1, slots := 6, locals := 0 } s m ([.ref (ad 331)] : List Value).toArray below meth c D ad cA n0 3 post thr 7 M [(0, .ref (ad 331)), (1, .int (Int32.ofInt v1))] 7 [] := by
      intro q
      induction q with
      | zero => intro M v1 h _; exact absurd h (Nat.not_lt_zero _)
      | succ q ih =>
        intro M v1 hμ hI
        exact blc_7 (fun M' v1' => I M' v1' ∧ μ M' v1' < μ M v1) M v1 (hB M v1 hI) (fun M' v1' hh => ih M' v1' (Nat.lt_of_lt_of_le hh.2 (Nat.le_of_lt_succ hμ)) hh.1)
    exact key _ M v1 (Nat.lt_succ_self _) hI
  have hl : lv_has ls 7 [(0, .ref (ad 331))] := hl
  suffices h9 : fx_G p l e { frames := 0, cells := 1, slots := 6, locals := 0 } s m ([.ref (ad 331)] : List Value).toArray below meth c D ad cA n0 3 post thr 7 M [(0, .ref (ad 331))] 0 [] from h9 _ _ _ w hl
  intro H locs ls w hl
  refine lv_aload_n F.1 F.2.1 d_Mo_equations_0 rfl (lv_at hl 0 rfl) ?_
  refine lv_iconst (v := Int32.ofInt 0) F.1 F.2.1 d_Mo_equations_1 (by decide) ?_
  refine fm_pI F w cl_Mo 331 34 T_331 (by decide) rfl k_848 rfl rfl d_Mo_equations_2 (fun M149 hM149 H locs w => ?_)
  have hw := hw M149 hM149
  refine lv_iconst (v := Int32.ofInt 0) F.1 F.2.1 d_Mo_equations_5 (by decide) ?_
  refine lv_istore_n F.1 F.2.1 d_Mo_equations_6 rfl hl (by decide) rfl (fun ls hl => ?_)
  have hl : lv_has ls 7 [(1, .int (Int32.ofInt 0)), (0, .ref (ad 331))] := hl
  exact blk_7 M149 0 hw H locs ls w (lv_sub hl [1, 0] rfl)
