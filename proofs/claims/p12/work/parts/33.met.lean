set_option maxHeartbeats 4000000 in
set_option maxRecDepth 100000 in
theorem met_CG_sumAt (l : Launch) (hst9 : l.stackTraces = false) (D : va_G) (ad : Nat → Nat) (cA : Nat → ClassId) (n0 : Nat) (M : fm_M) (k0 : Nat) (a1 : Int) (k2 : Nat) (post : Int → fm_M → Prop) (thr : String → fm_M → Prop) (hw : wp_CG_sumAt M k0 a1 k2 post thr) : fx_Met l y_CG_sumAt (Cond.code y_CG_sumAt b_CG_sumAt 5 (some .int) :: tb) { frames := 0, cells := 1, slots := 6, locals := 0 } [.ref (ad k0), .int (Int32.ofInt a1), .ref (ad k2)] D ad cA n0 M 0 post thr := by
  refine fx_met (by decide) (Nat.le_of_ble_eq_true rfl) (fun p e s m below meth c ls F w hno hr hlk hl => ?_)
  have blc_9 : ∀ (J_9 : (fm_M → Int → Int → Prop)) (M : fm_M) (v3 : Int) (v4 : Int), C_CG_sumAt_9 k0 a1 k2 post thr J_9 M v3 v4 → (∀ (M : fm_M) (v3 : Int) (v4 : Int), J_9 M v3 v4 → fx_G p l e { frames := 0, cells := 1, slots := 6, locals := 0 } s m ([.ref (ad k0), .int (Int32.ofInt a1), .ref (ad k2)] : List Value).toArray below meth c D ad cA n0 0 post thr 5 M [(0, .ref (ad k0)), (1, .int (Int32.ofInt a1)), (2, .ref (ad k2)), (3, .int (Int32.ofInt v3)), (4, .int (Int32.ofInt v4))] 9 []) → fx_G p l e { frames := 0, cells := 1, slots := 6, locals := 0 } s m ([.ref (ad k0), .int (Int32.ofInt a1), .ref (ad k2)] : List Value).toArray below meth c D ad cA n0 0 post thr 5 M [(0, .ref (ad k0)), (1, .int (Int32.ofInt a1)), (2, .ref (ad k2)), (3, .int (Int32.ofInt v3)), (4, .int (Int32.ofInt v4))] 9 [] := by
    intro J_9 M v3 v4 hw hJ_9 H locs ls w hl
    refine lv_iload F.1 F.2.1 d_CG_sumAt_9 (lv_at hl 4 rfl) ?_
    refine lv_iconst (v := Int32.ofInt 3) F.1 F.2.1 d_CG_sumAt_11 (by decide) ?_
    obtain ⟨h13, hw⟩ := hw
    refine fi_icmp_ge F d_CG_sumAt_12 (tgt := 35) (by decide) h13 (rgl (by decide)) (fun hc14 => ?_) (fun hc14 => ?_)
    · have hw := hw.1 hc14
      refine lv_iload_n F.1 F.2.1 d_CG_sumAt_35 rfl (lv_at hl 3 rfl) ?_
      refine fi_same_i (jwi_eq v3) ?_
      exact fx_iret F w hr hlk hw d_CG_sumAt_36
    · have hw := hw.2 hc14
      refine lv_iload_n F.1 F.2.1 d_CG_sumAt_15 rfl (lv_at hl 3 rfl) ?_
      refine lv_aload_n F.1 F.2.1 d_CG_sumAt_16 rfl (lv_at hl 0 rfl) ?_
      refine lv_iload_n F.1 F.2.1 d_CG_sumAt_17 rfl (lv_at hl 1 rfl) ?_
      refine lv_iload F.1 F.2.1 d_CG_sumAt_18 (lv_at hl 4 rfl) ?_
      refine fi_iadd F d_CG_sumAt_20 ?_
      obtain ⟨h15, hw⟩ := hw
      obtain ⟨h16, hw⟩ := hw
      refine fm_aI F w k0 h15 (fm_szlt h15.1) h16 d_CG_sumAt_21 ?_
      refine lv_aload_n F.1 F.2.1 d_CG_sumAt_22 rfl (lv_at hl 2 rfl) ?_
      refine lv_iload F.1 F.2.1 d_CG_sumAt_23 (lv_at hl 4 rfl) ?_
      obtain ⟨h17, hw⟩ := hw
      obtain ⟨h18, hw⟩ := hw
      refine fm_aI F w k2 h17 (fm_szlt h17.1) h18 d_CG_sumAt_25 ?_
      refine fi_imul F d_CG_sumAt_26 ?_
      refine fi_iadd F d_CG_sumAt_27 ?_
      refine lv_istore_n F.1 F.2.1 d_CG_sumAt_28 rfl hl (by decide) rfl (fun ls hl => ?_)
      have hl : lv_has ls 5 [(3, .int (Int32.ofInt (v3 + ((M k0 (a1 + v4).toNat) * (M k2 v4.toNat))))), (0, .ref (ad k0)), (1, .int (Int32.ofInt a1)), (2, .ref (ad k2)), (4, .int (Int32.ofInt v4))] := hl
      refine fi_iinc (k := 4) (v := (v4 + 1)) F d_CG_sumAt_29 hl rfl rfl (by decide) rfl (fun ls hl => ?_)
      have hl : lv_has ls 5 [(4, .int (Int32.ofInt (v4 + 1))), (3, .int (Int32.ofInt (v3 + ((M k0 (a1 + v4).toNat) * (M k2 v4.toNat))))), (0, .ref (ad k0)), (1, .int (Int32.ofInt a1)), (2, .ref (ad k2))] := hl
      refine lv_goto F.1 F.2.1 d_CG_sumAt_32 (tgt := 9) (by decide) ?_
      exact hJ_9 M (v3 + ((M k0 (a1 + v4).toNat) * (M k2 v4.toNat))) (v4 + 1) hw H locs ls w (lv_sub hl [2, 3, 4, 1, 0] rfl)
  have blk_9 : ∀ (M : fm_M) (v3 : Int) (v4 : Int), B_CG_sumAt_9 k0 a1 k2 post thr M v3 v4 → fx_G p l e { frames := 0, cells := 1, slots := 6, locals := 0 } s m ([.ref (ad k0), .int (Int32.ofInt a1), .ref (ad k2)] : List Value).toArray below meth c D ad cA n0 0 post thr 5 M [(0, .ref (ad k0)), (1, .int (Int32.ofInt a1)), (2, .ref (ad k2)), (3, .int (Int32.ofInt v3)), (4, .int (Int32.ofInt v4))] 9 [] := by
    intro M v3 v4 hw
    obtain ⟨I, μ, hI, hB⟩ := hw
    have key : ∀ (q : Nat) (M : fm_M) (v3 : Int) (v4 : Int), μ M v3 v4 < q → I M v3 v4 → fx_G p l e { frames := 0, cells := 1, slots := 6, locals := 0 } s m ([.ref (ad k0), .int (Int32.ofInt a1), .ref (ad k2)] : List Value).toArray below meth c D ad cA n0 0 post thr 5 M [(0, .ref (ad k0)), (1, .int (Int32.ofInt a1)), (2, .ref (ad k2)), (3, .int (Int32.ofInt v3)), (4, .int (Int32.ofInt v4))] 9 [] := by
      intro q
      induction q with
      | zero => intro M v3 v4 h _; exact absurd h (Nat.not_lt_zero _)
      | succ q ih =>
        intro M v3 v4 hμ hI
        exact blc_9 (fun M' v3' v4' => I M' v3' v4' ∧ μ M' v3' v4' < μ M v3 v4) M v3 v4 (hB M v3 v4 hI) (fun M' v3' v4' hh => ih M' v3' v4' (Nat.lt_of_lt_of_le hh.2 (Nat.le_of_lt_succ hμ)) hh.1)
    exact key _ M v3 v4 (Nat.lt_succ_self _) hI
  have hl : lv_has ls 5 [(0, .ref (ad k0)), (1, .int (Int32.ofInt a1)), (2, .ref (ad k2))] := hl
  suffices h9 : fx_G p l e { frames := 0, cells := 1, slots := 6, locals := 0 } s m ([.ref (ad k0), .int (Int32.ofInt a1), .ref (ad k2)] : List Value).toArray below meth c D ad cA n0 0 post thr 5 M [(0, .ref (ad k0)), (1, .int (Int32.ofInt a1)), (2, .ref (ad k2))] 0 [] from h9 _ _ _ w hl
  intro H locs ls w hl
  refine lv_aload_n F.1 F.2.1 d_CG_sumAt_0 rfl (lv_at hl 0 rfl) ?_
  refine lv_iload_n F.1 F.2.1 d_CG_sumAt_1 rfl (lv_at hl 1 rfl) ?_
  refine lv_iconst (v := Int32.ofInt 3) F.1 F.2.1 d_CG_sumAt_2 (by decide) ?_
  refine fi_iadd F d_CG_sumAt_3 ?_
  obtain ⟨h19, hw⟩ := hw
  obtain ⟨h20, hw⟩ := hw
  refine fm_aI F w k0 h19 (fm_szlt h19.1) h20 d_CG_sumAt_4 ?_
  refine lv_istore_n F.1 F.2.1 d_CG_sumAt_5 rfl hl (by decide) rfl (fun ls hl => ?_)
  have hl : lv_has ls 5 [(3, .int (Int32.ofInt (M k0 (a1 + 3).toNat))), (0, .ref (ad k0)), (1, .int (Int32.ofInt a1)), (2, .ref (ad k2))] := hl
  refine lv_iconst (v := Int32.ofInt 0) F.1 F.2.1 d_CG_sumAt_6 (by decide) ?_
  refine lv_istore F.1 F.2.1 d_CG_sumAt_7 hl (by decide) rfl (fun ls hl => ?_)
  have hl : lv_has ls 5 [(4, .int (Int32.ofInt 0)), (3, .int (Int32.ofInt (M k0 (a1 + 3).toNat))), (0, .ref (ad k0)), (1, .int (Int32.ofInt a1)), (2, .ref (ad k2))] := hl
  exact blk_9 M (M k0 (a1 + 3).toNat) 0 hw H locs ls w (lv_sub hl [2, 3, 4, 1, 0] rfl)
set_option maxHeartbeats 4000000 in
set_option maxRecDepth 100000 in
theorem met_Gu_isAsSaid (l : Launch) (hst9 : l.stackTraces = false) (D : va_G) (ad : Nat → Nat) (cA : Nat → ClassId) (n0 : Nat) (M : fm_M) (a0 : Int) (a1 : Int) (post : Int → fm_M → Prop) (thr : String → fm_M → Prop) (hw : wp_Gu_isAsSaid M a0 a1 post thr) : fx_Met l y_Gu_isAsSaid (Cond.code y_Gu_isAsSaid b_Gu_isAsSaid 2 (some .boolean) :: tb) { frames := 0, cells := 1, slots := 6, locals := 0 } [.int (Int32.ofInt a0), .int (Int32.ofInt a1)] D ad cA n0 M 0 post thr := by
  refine fx_met (by decide) (Nat.le_of_ble_eq_true rfl) (fun p e s m below meth c ls F w hno hr hlk hl => ?_)
  have blk_52 : ∀ (M : fm_M) (s0 : Int) (s1 : Int), B_Gu_isAsSaid_52 a0 a1 post thr M s0 s1 → fx_G p l e { frames := 0, cells := 1, slots := 6, locals := 0 } s m ([.int (Int32.ofInt a0), .int (Int32.ofInt a1)] : List Value).toArray below meth c D ad cA n0 0 post thr 2 M [] 52 [.int (Int32.ofInt s0), .int (Int32.ofInt s1)] := by
    intro M s0 s1 hw H locs ls w hl
    obtain ⟨h20, hw⟩ := hw
    obtain ⟨h21, hw⟩ := hw
    refine fi_icmp_ne F d_Gu_isAsSaid_52 (tgt := 59) (by decide) h20 h21 (fun hc22 => ?_) (fun hc22 => ?_)
    · have hw := hw.1 hc22
      refine lv_iconst (v := Int32.ofInt 0) F.1 F.2.1 d_Gu_isAsSaid_59 (by decide) ?_
      exact fx_zret F w hr hlk (fx_nz (by decide)) hw d_Gu_isAsSaid_60
    · have hw := hw.2 hc22
      refine lv_iconst (v := Int32.ofInt 1) F.1 F.2.1 d_Gu_isAsSaid_55 (by decide) ?_
      refine lv_goto F.1 F.2.1 d_Gu_isAsSaid_56 (tgt := 60) (by decide) ?_
      exact fx_zret F w hr hlk (fx_nz (by decide)) hw d_Gu_isAsSaid_60
  have blk_41 : ∀ (M : fm_M) (s0 : Int), B_Gu_isAsSaid_41 a0 a1 post thr M s0 → fx_G p l e { frames := 0, cells := 1, slots := 6, locals := 0 } s m ([.int (Int32.ofInt a0), .int (Int32.ofInt a1)] : List Value).toArray below meth c D ad cA n0 0 post thr 2 M [(0, .int (Int32.ofInt a0))] 41 [.int (Int32.ofInt s0)] := by
    intro M s0 hw H locs ls w hl
    refine lv_iload_n F.1 F.2.1 d_Gu_isAsSaid_41 rfl (lv_at hl 0 rfl) ?_
    refine lv_bipush (v := Int32.ofInt 61) F.1 F.2.1 d_Gu_isAsSaid_42 (by decide) ?_
    obtain ⟨h23, hw⟩ := hw
    refine fi_icmp_ne F d_Gu_isAsSaid_44 (tgt := 51) (by decide) h23 (rgl (by decide)) (fun hc24 => ?_) (fun hc24 => ?_)
    · have hw := hw.1 hc24
      refine lv_iconst (v := Int32.ofInt 0) F.1 F.2.1 d_Gu_isAsSaid_51 (by decide) ?_
      exact blk_52 M 0 s0 hw H locs ls w (lv_sub hl [] rfl)
    · have hw := hw.2 hc24
      refine lv_iconst (v := Int32.ofInt 1) F.1 F.2.1 d_Gu_isAsSaid_47 (by decide) ?_
      refine lv_goto F.1 F.2.1 d_Gu_isAsSaid_48 (tgt := 52) (by decide) ?_
      exact blk_52 M 1 s0 hw H locs ls w (lv_sub hl [] rfl)
  have hl : lv_has ls 2 [(0, .int (Int32.ofInt a0)), (1, .int (Int32.ofInt a1))] := hl
  suffices h9 : fx_G p l e { frames := 0, cells := 1, slots := 6, locals := 0 } s m ([.int (Int32.ofInt a0), .int (Int32.ofInt a1)] : List Value).toArray below meth c D ad cA n0 0 post thr 2 M [(0, .int (Int32.ofInt a0)), (1, .int (Int32.ofInt a1))] 0 [] from h9 _ _ _ w hl
  intro H locs ls w hl
  refine lv_iload_n F.1 F.2.1 d_Gu_isAsSaid_0 rfl (lv_at hl 0 rfl) ?_
  refine lv_bipush (v := Int32.ofInt 60) F.1 F.2.1 d_Gu_isAsSaid_1 (by decide) ?_
  obtain ⟨h25, hw⟩ := hw
  refine fi_icmp_ne F d_Gu_isAsSaid_3 (tgt := 16) (by decide) h25 (rgl (by decide)) (fun hc26 => ?_) (fun hc26 => ?_)
  · have hw := hw.1 hc26
    refine lv_iload_n F.1 F.2.1 d_Gu_isAsSaid_16 rfl (lv_at hl 0 rfl) ?_
    refine lv_bipush (v := Int32.ofInt 62) F.1 F.2.1 d_Gu_isAsSaid_17 (by decide) ?_
    refine fi_icmp_ne F d_Gu_isAsSaid_19 (tgt := 32) (by decide) h25 (rgl (by decide)) (fun hc27 => ?_) (fun hc27 => ?_)
    · have hw := hw.1 hc27
      refine lv_iload_n F.1 F.2.1 d_Gu_isAsSaid_32 rfl (lv_at hl 1 rfl) ?_
      obtain ⟨h28, hw⟩ := hw
      refine fi_if_ne F d_Gu_isAsSaid_33 (tgt := 40) (by decide) h28 (fun hc29 => ?_) (fun hc29 => ?_)
      · have hw := hw.1 hc29
        refine lv_iconst (v := Int32.ofInt 0) F.1 F.2.1 d_Gu_isAsSaid_40 (by decide) ?_
        exact blk_41 M 0 hw H locs ls w (lv_sub hl [0] rfl)
      · have hw := hw.2 hc29
        refine lv_iconst (v := Int32.ofInt 1) F.1 F.2.1 d_Gu_isAsSaid_36 (by decide) ?_
        refine lv_goto F.1 F.2.1 d_Gu_isAsSaid_37 (tgt := 41) (by decide) ?_
        exact blk_41 M 1 hw H locs ls w (lv_sub hl [0] rfl)
    · have hw := hw.2 hc27
      refine lv_iload_n F.1 F.2.1 d_Gu_isAsSaid_22 rfl (lv_at hl 1 rfl) ?_
      obtain ⟨h30, hw⟩ := hw
      refine fi_if_le F d_Gu_isAsSaid_23 (tgt := 30) (by decide) h30 (fun hc31 => ?_) (fun hc31 => ?_)
      · have hw := hw.1 hc31
        refine lv_iconst (v := Int32.ofInt 0) F.1 F.2.1 d_Gu_isAsSaid_30 (by decide) ?_
        exact fx_zret F w hr hlk (fx_nz (by decide)) hw d_Gu_isAsSaid_31
      · have hw := hw.2 hc31
        refine lv_iconst (v := Int32.ofInt 1) F.1 F.2.1 d_Gu_isAsSaid_26 (by decide) ?_
        refine lv_goto F.1 F.2.1 d_Gu_isAsSaid_27 (tgt := 31) (by decide) ?_
        exact fx_zret F w hr hlk (fx_nz (by decide)) hw d_Gu_isAsSaid_31
  · have hw := hw.2 hc26
    refine lv_iload_n F.1 F.2.1 d_Gu_isAsSaid_6 rfl (lv_at hl 1 rfl) ?_
    obtain ⟨h32, hw⟩ := hw
    refine fi_if_ge F d_Gu_isAsSaid_7 (tgt := 14) (by decide) h32 (fun hc33 => ?_) (fun hc33 => ?_)
    · have hw := hw.1 hc33
      refine lv_iconst (v := Int32.ofInt 0) F.1 F.2.1 d_Gu_isAsSaid_14 (by decide) ?_
      exact fx_zret F w hr hlk (fx_nz (by decide)) hw d_Gu_isAsSaid_15
    · have hw := hw.2 hc33
      refine lv_iconst (v := Int32.ofInt 1) F.1 F.2.1 d_Gu_isAsSaid_10 (by decide) ?_
      refine lv_goto F.1 F.2.1 d_Gu_isAsSaid_11 (tgt := 15) (by decide) ?_
      exact fx_zret F w hr hlk (fx_nz (by decide)) hw d_Gu_isAsSaid_15
set_option maxHeartbeats 4000000 in
set_option maxRecDepth 100000 in
theorem met_Gu_holds (l : Launch) (hst9 : l.stackTraces = false) (D : va_G) (ad : Nat → Nat) (cA : Nat → ClassId) (n0 : Nat) (M : fm_M) (k0 : Nat) (k1 : Nat) (post : Int → fm_M → Prop) (thr : String → fm_M → Prop) (hw : wp_Gu_holds M k0 k1 post thr) : fx_Met l y_Gu_holds (Cond.code y_Gu_holds b_Gu_holds 3 (some .boolean) :: tb) { frames := 1, cells := 1, slots := 6, locals := 24 } [.ref (ad k0), .ref (ad k1)] D ad cA n0 M 0 post thr := by
  refine fx_met (by decide) (Nat.le_of_ble_eq_true rfl) (fun p e s m below meth c ls F w hno hr hlk hl => ?_)
  have blc_2 : ∀ (J_2 : (fm_M → Int → Prop)) (M : fm_M) (v2 : Int), C_Gu_holds_2 k0 k1 post thr J_2 M v2 → (∀ (M : fm_M) (v2 : Int), J_2 M v2 → fx_G p l e { frames := 1, cells := 1, slots := 6, locals := 24 } s m ([.ref (ad k0), .ref (ad k1)] : List Value).toArray below meth c D ad cA n0 0 post thr 3 M [(0, .ref (ad k0)), (1, .ref (ad k1)), (2, .int (Int32.ofInt v2))] 2 []) → fx_G p l e { frames := 1, cells := 1, slots := 6, locals := 24 } s m ([.ref (ad k0), .ref (ad k1)] : List Value).toArray below meth c D ad cA n0 0 post thr 3 M [(0, .ref (ad k0)), (1, .ref (ad k1)), (2, .int (Int32.ofInt v2))] 2 [] := by
    intro J_2 M v2 hw hJ_2 H locs ls w hl
    refine lv_iload_n F.1 F.2.1 d_Gu_holds_2 rfl (lv_at hl 2 rfl) ?_
    refine lv_aload_n F.1 F.2.1 d_Gu_holds_3 rfl (lv_at hl 0 rfl) ?_
    obtain ⟨h23, hw⟩ := hw
    refine fm_gI F w cl_Gu k0 2 h23 (by decide) rfl k_70 d_Gu_holds_4 ?_
    obtain ⟨h24, hw⟩ := hw
    obtain ⟨h25, hw⟩ := hw
    refine fi_icmp_ge F d_Gu_holds_7 (tgt := 41) (by decide) h24 h25 (fun hc26 => ?_) (fun hc26 => ?_)
    · have hw := hw.1 hc26
      refine lv_iconst (v := Int32.ofInt 1) F.1 F.2.1 d_Gu_holds_41 (by decide) ?_
      exact fx_zret F w hr hlk (fx_nz (by decide)) hw d_Gu_holds_42
    · have hw := hw.2 hc26
      refine lv_aload_n F.1 F.2.1 d_Gu_holds_10 rfl (lv_at hl 0 rfl) ?_
      refine fm_gO F w cl_Gu k0 1 (k0 + 2) h23 (by decide) rfl rfl k_68 d_Gu_holds_11 ?_
      refine lv_iload_n F.1 F.2.1 d_Gu_holds_14 rfl (lv_at hl 2 rfl) ?_
      obtain ⟨h27, hw⟩ := hw
      obtain ⟨h28, hw⟩ := hw
      refine fm_aC F w (k0 + 2) h27 (by decide) h28 d_Gu_holds_15 ?_
      refine lv_aload_n F.1 F.2.1 d_Gu_holds_16 rfl (lv_at hl 0 rfl) ?_
      refine fm_gO F w cl_Gu k0 0 (k0 + 1) h23 (by decide) rfl rfl k_66 d_Gu_holds_17 ?_
      refine lv_iload_n F.1 F.2.1 d_Gu_holds_20 rfl (lv_at hl 2 rfl) ?_
      refine lv_iconst (v := Int32.ofInt 4) F.1 F.2.1 d_Gu_holds_21 (by decide) ?_
      refine fi_imul F d_Gu_holds_22 ?_
      refine lv_aload_n F.1 F.2.1 d_Gu_holds_23 rfl (lv_at hl 1 rfl) ?_
      refine fx_c w hno hlk (fx_rSN (As := [.ref (ad (k0 + 1)), .int (Int32.ofInt (v2 * 4)), .ref (ad k1)]) (rest := [.int (Int32.ofInt (M (k0 + 2) v2.toNat))]) F w (met_CG_sumAt l hst9 D ad cA n0 M (k0 + 1) (v2 * 4) k1 _ thr hw) e_CG_sumAt kt_CG_sumAt k_632 rfl hl.1 rfl (Nat.le_of_ble_eq_true rfl) ⟨⟨Nat.le_of_ble_eq_true rfl, Nat.le_of_ble_eq_true rfl⟩, Nat.le_of_ble_eq_true rfl, Nat.le_of_ble_eq_true rfl⟩ d_Gu_holds_24) (fun r30 M29 hw H locs w => ?_)
      show W p l e _ s m _ below meth c H locs 0 0 _ (F0 m 27 ls [.int (Int32.ofInt r30), .int (Int32.ofInt (M (k0 + 2) v2.toNat))])
      refine fx_c w hno hlk (fx_rS (As := [.int (Int32.ofInt (M (k0 + 2) v2.toNat)), .int (Int32.ofInt r30)]) (rest := []) F w (met_Gu_isAsSaid l hst9 D ad cA n0 M29 (M (k0 + 2) v2.toNat) r30 _ thr hw) e_Gu_isAsSaid kt_Gu_isAsSaid k_635 rfl hl.1 rfl (Nat.le_of_ble_eq_true rfl) ⟨⟨Nat.le_of_ble_eq_true rfl, Nat.le_of_ble_eq_true rfl⟩, Nat.le_of_ble_eq_true rfl, Nat.le_of_ble_eq_true rfl⟩ d_Gu_holds_27) (fun r32 M31 hw H locs w => ?_)
      show W p l e _ s m _ below meth c H locs 0 0 _ (F0 m 30 ls [.int (Int32.ofInt r32)])
      obtain ⟨h33, hw⟩ := hw
      refine fi_if_ne F d_Gu_holds_30 (tgt := 35) (by decide) h33 (fun hc34 => ?_) (fun hc34 => ?_)
      · have hw := hw.1 hc34
        refine fi_iinc (k := 2) (v := (v2 + 1)) F d_Gu_holds_35 hl rfl rfl (by decide) rfl (fun ls hl => ?_)
        have hl : lv_has ls 3 [(2, .int (Int32.ofInt (v2 + 1))), (0, .ref (ad k0)), (1, .ref (ad k1))] := hl
        refine lv_goto F.1 F.2.1 d_Gu_holds_38 (tgt := 2) (by decide) ?_
        exact hJ_2 M31 (v2 + 1) hw H locs ls w (lv_sub hl [1, 2, 0] rfl)
      · have hw := hw.2 hc34
        refine lv_iconst (v := Int32.ofInt 0) F.1 F.2.1 d_Gu_holds_33 (by decide) ?_
        exact fx_zret F w hr hlk (fx_nz (by decide)) hw d_Gu_holds_34
  have blk_2 : ∀ (M : fm_M) (v2 : Int), B_Gu_holds_2 k0 k1 post thr M v2 → fx_G p l e { frames := 1, cells := 1, slots := 6, locals := 24 } s m ([.ref (ad k0), .ref (ad k1)] : List Value).toArray below meth c D ad cA n0 0 post thr 3 M [(0, .ref (ad k0)), (1, .ref (ad k1)), (2, .int (Int32.ofInt v2))] 2 [] := by
    intro M v2 hw
    obtain ⟨I, μ, hI, hB⟩ := hw
    have key : ∀ (q : Nat) (M : fm_M) (v2 : Int), μ M v2 < q → I M v2 → fx_G p l e { frames := 1, cells := 1, slots := 6, locals := 24 } s m ([.ref (ad k0), .ref (ad k1)] : List Value).toArray below meth c D ad cA n0 0 post thr 3 M [(0, .ref (ad k0)), (1, .ref (ad k1)), (2, .int (Int32.ofInt v2))] 2 [] := by
      intro q
      induction q with
      | zero => intro M v2 h _; exact absurd h (Nat.not_lt_zero _)
      | succ q ih =>
        intro M v2 hμ hI
        exact blc_2 (fun M' v2' => I M' v2' ∧ μ M' v2' < μ M v2) M v2 (hB M v2 hI) (fun M' v2' hh => ih M' v2' (Nat.lt_of_lt_of_le hh.2 (Nat.le_of_lt_succ hμ)) hh.1)
    exact key _ M v2 (Nat.lt_succ_self _) hI
  have hl : lv_has ls 3 [(0, .ref (ad k0)), (1, .ref (ad k1))] := hl
  suffices h9 : fx_G p l e { frames := 1, cells := 1, slots := 6, locals := 24 } s m ([.ref (ad k0), .ref (ad k1)] : List Value).toArray below meth c D ad cA n0 0 post thr 3 M [(0, .ref (ad k0)), (1, .ref (ad k1))] 0 [] from h9 _ _ _ w hl
  intro H locs ls w hl
  refine lv_iconst (v := Int32.ofInt 0) F.1 F.2.1 d_Gu_holds_0 (by decide) ?_
  refine lv_istore_n F.1 F.2.1 d_Gu_holds_1 rfl hl (by decide) rfl (fun ls hl => ?_)
  have hl : lv_has ls 3 [(2, .int (Int32.ofInt 0)), (0, .ref (ad k0)), (1, .ref (ad k1))] := hl
  exact blk_2 M 0 hw H locs ls w (lv_sub hl [1, 2, 0] rfl)
set_option maxHeartbeats 4000000 in
set_option maxRecDepth 100000 in
theorem met_Gm_enabledIn (l : Launch) (hst9 : l.stackTraces = false) (D : va_G) (ad : Nat → Nat) (cA : Nat → ClassId) (n0 : Nat) (M : fm_M) (k0 : Nat) (k1 : Nat) (post : Int → fm_M → Prop) (thr : String → fm_M → Prop) (hw : wp_Gm_enabledIn M k0 k1 post thr) : fx_Met l y_Gm_enabledIn (Cond.code y_Gm_enabledIn b_Gm_enabledIn 4 (some .int) :: tb) { frames := 2, cells := 1, slots := 6, locals := 46 } [.ref (ad k0), .ref (ad k1)] D ad cA n0 M 0 post thr := by
  refine fx_met (by decide) (Nat.le_of_ble_eq_true rfl) (fun p e s m below meth c ls F w hno hr hlk hl => ?_)
  have blc_4 : ∀ (J_4 : (fm_M → Int → Int → Prop)) (M : fm_M) (v2 : Int) (v3 : Int), C_Gm_enabledIn_4 k0 k1 post thr J_4 M v2 v3 → (∀ (M : fm_M) (v2 : Int) (v3 : Int), J_4 M v2 v3 → fx_G p l e { frames := 2, cells := 1, slots := 6, locals := 46 } s m ([.ref (ad k0), .ref (ad k1)] : List Value).toArray below meth c D ad cA n0 0 post thr 4 M [(0, .ref (ad k0)), (1, .ref (ad k1)), (2, .int (Int32.ofInt v2)), (3, .int (Int32.ofInt v3))] 4 []) → fx_G p l e { frames := 2, cells := 1, slots := 6, locals := 46 } s m ([.ref (ad k0), .ref (ad k1)] : List Value).toArray below meth c D ad cA n0 0 post thr 4 M [(0, .ref (ad k0)), (1, .ref (ad k1)), (2, .int (Int32.ofInt v2)), (3, .int (Int32.ofInt v3))] 4 [] := by
    intro J_4 M v2 v3 hw hJ_4 H locs ls w hl
    refine lv_iload_n F.1 F.2.1 d_Gm_enabledIn_4 rfl (lv_at hl 3 rfl) ?_
    refine lv_aload_n F.1 F.2.1 d_Gm_enabledIn_5 rfl (lv_at hl 0 rfl) ?_
    obtain ⟨h35, hw⟩ := hw
    refine fm_gI F w cl_Gm k0 4 h35 (by decide) rfl k_149 d_Gm_enabledIn_6 ?_
    obtain ⟨h36, hw⟩ := hw
    obtain ⟨h37, hw⟩ := hw
    refine fi_icmp_ge F d_Gm_enabledIn_9 (tgt := 40) (by decide) h36 h37 (fun hc38 => ?_) (fun hc38 => ?_)
    · have hw := hw.1 hc38
      refine lv_iload_n F.1 F.2.1 d_Gm_enabledIn_40 rfl (lv_at hl 2 rfl) ?_
      exact fx_iret F w hr hlk hw d_Gm_enabledIn_41
    · have hw := hw.2 hc38
      refine lv_aload_n F.1 F.2.1 d_Gm_enabledIn_12 rfl (lv_at hl 0 rfl) ?_
      refine fm_gO F w cl_Gm k0 2 (k0 + 3) h35 (by decide) rfl rfl k_141 d_Gm_enabledIn_13 ?_
      refine lv_iload_n F.1 F.2.1 d_Gm_enabledIn_16 rfl (lv_at hl 3 rfl) ?_
      obtain ⟨h39, hw⟩ := hw
      obtain ⟨h40, hw⟩ := hw
      refine fm_aR F w (k0 + 3) 2 ((k0 + 3) + 4 + 13 * v3.toNat) h39 rfl (by decide) h40 rfl d_Gm_enabledIn_17 ?_
      obtain ⟨h41, hw⟩ := hw
      refine fm_gO F w cl_Cm ((k0 + 3) + 4 + 13 * v3.toNat) 0 (((k0 + 3) + 4 + 13 * v3.toNat) + 1) h41 (by decide) rfl rfl k_107 d_Gm_enabledIn_18 ?_
      refine lv_aload_n F.1 F.2.1 d_Gm_enabledIn_21 rfl (lv_at hl 1 rfl) ?_
      obtain ⟨h42, hw⟩ := hw
      refine fx_c w hno hlk (fx_rV (As := [.ref (ad k1)]) (rest := []) F w cl_Gu (((k0 + 3) + 4 + 13 * v3.toNat) + 1) h42 (met_Gu_holds l hst9 D ad cA n0 M (((k0 + 3) + 4 + 13 * v3.toNat) + 1) k1 _ thr hw) e_Gu_holds ki_Gu_holds ks_Gu_holds k_642 rfl hl.1 rfl (Nat.le_of_ble_eq_true rfl) ⟨⟨Nat.le_of_ble_eq_true rfl, Nat.le_of_ble_eq_true rfl⟩, Nat.le_of_ble_eq_true rfl, Nat.le_of_ble_eq_true rfl⟩ d_Gm_enabledIn_22) (fun r44 M43 hw H locs w => ?_)
      show W p l e _ s m _ below meth c H locs 0 0 _ (F0 m 25 ls [.int (Int32.ofInt r44)])
      obtain ⟨h45, hw⟩ := hw
      refine fi_if_eq F d_Gm_enabledIn_25 (tgt := 34) (by decide) h45 (fun hc46 => ?_) (fun hc46 => ?_)
      · have hw := hw.1 hc46
        refine fi_iinc (k := 3) (v := (v3 + 1)) F d_Gm_enabledIn_34 hl rfl rfl (by decide) rfl (fun ls hl => ?_)
        have hl : lv_has ls 4 [(3, .int (Int32.ofInt (v3 + 1))), (0, .ref (ad k0)), (1, .ref (ad k1)), (2, .int (Int32.ofInt v2))] := hl
        refine lv_goto F.1 F.2.1 d_Gm_enabledIn_37 (tgt := 4) (by decide) ?_
        exact hJ_4 M43 v2 (v3 + 1) hw H locs ls w (lv_sub hl [1, 2, 3, 0] rfl)
      · have hw := hw.2 hc46
        refine lv_iload_n F.1 F.2.1 d_Gm_enabledIn_28 rfl (lv_at hl 2 rfl) ?_
        refine lv_iconst (v := Int32.ofInt 1) F.1 F.2.1 d_Gm_enabledIn_29 (by decide) ?_
        refine lv_iload_n F.1 F.2.1 d_Gm_enabledIn_30 rfl (lv_at hl 3 rfl) ?_
        refine fi_ishl F d_Gm_enabledIn_31 ?_
        refine fi_ior F d_Gm_enabledIn_32 ?_
        refine lv_istore_n F.1 F.2.1 d_Gm_enabledIn_33 rfl hl (by decide) rfl (fun ls hl => ?_)
        have hl : lv_has ls 4 [(2, .int (Int32.ofInt (jor v2 (jshl 1 v3)))), (0, .ref (ad k0)), (1, .ref (ad k1)), (3, .int (Int32.ofInt v3))] := hl
        refine fi_iinc (k := 3) (v := (v3 + 1)) F d_Gm_enabledIn_34 hl rfl rfl (by decide) rfl (fun ls hl => ?_)
        have hl : lv_has ls 4 [(3, .int (Int32.ofInt (v3 + 1))), (2, .int (Int32.ofInt (jor v2 (jshl 1 v3)))), (0, .ref (ad k0)), (1, .ref (ad k1))] := hl
        refine lv_goto F.1 F.2.1 d_Gm_enabledIn_37 (tgt := 4) (by decide) ?_
        exact hJ_4 M43 (jor v2 (jshl 1 v3)) (v3 + 1) hw H locs ls w (lv_sub hl [2, 3, 1, 0] rfl)
  have blk_4 : ∀ (M : fm_M) (v2 : Int) (v3 : Int), B_Gm_enabledIn_4 k0 k1 post thr M v2 v3 → fx_G p l e { frames := 2, cells := 1, slots := 6, locals := 46 } s m ([.ref (ad k0), .ref (ad k1)] : List Value).toArray below meth c D ad cA n0 0 post thr 4 M [(0, .ref (ad k0)), (1, .ref (ad k1)), (2, .int (Int32.ofInt v2)), (3, .int (Int32.ofInt v3))] 4 [] := by
    intro M v2 v3 hw
    obtain ⟨I, μ, hI, hB⟩ := hw
    have key : ∀ (q : Nat) (M : fm_M) (v2 : Int) (v3 : Int), μ M v2 v3 < q → I M v2 v3 → fx_G p l e { frames := 2, cells := 1, slots := 6, locals := 46 } s m ([.ref (ad k0), .ref (ad k1)] : List Value).toArray below meth c D ad cA n0 0 post thr 4 M [(0, .ref (ad k0)), (1, .ref (ad k1)), (2, .int (Int32.ofInt v2)), (3, .int (Int32.ofInt v3))] 4 [] := by
      intro q
      induction q with
      | zero => intro M v2 v3 h _; exact absurd h (Nat.not_lt_zero _)
      | succ q ih =>
        intro M v2 v3 hμ hI
        exact blc_4 (fun M' v2' v3' => I M' v2' v3' ∧ μ M' v2' v3' < μ M v2 v3) M v2 v3 (hB M v2 v3 hI) (fun M' v2' v3' hh => ih M' v2' v3' (Nat.lt_of_lt_of_le hh.2 (Nat.le_of_lt_succ hμ)) hh.1)
    exact key _ M v2 v3 (Nat.lt_succ_self _) hI
  have hl : lv_has ls 4 [(0, .ref (ad k0)), (1, .ref (ad k1))] := hl
  suffices h9 : fx_G p l e { frames := 2, cells := 1, slots := 6, locals := 46 } s m ([.ref (ad k0), .ref (ad k1)] : List Value).toArray below meth c D ad cA n0 0 post thr 4 M [(0, .ref (ad k0)), (1, .ref (ad k1))] 0 [] from h9 _ _ _ w hl
  intro H locs ls w hl
  refine lv_iconst (v := Int32.ofInt 0) F.1 F.2.1 d_Gm_enabledIn_0 (by decide) ?_
  refine lv_istore_n F.1 F.2.1 d_Gm_enabledIn_1 rfl hl (by decide) rfl (fun ls hl => ?_)
  have hl : lv_has ls 4 [(2, .int (Int32.ofInt 0)), (0, .ref (ad k0)), (1, .ref (ad k1))] := hl
  refine lv_iconst (v := Int32.ofInt 0) F.1 F.2.1 d_Gm_enabledIn_2 (by decide) ?_
  refine lv_istore_n F.1 F.2.1 d_Gm_enabledIn_3 rfl hl (by decide) rfl (fun ls hl => ?_)
  have hl : lv_has ls 4 [(3, .int (Int32.ofInt 0)), (2, .int (Int32.ofInt 0)), (0, .ref (ad k0)), (1, .ref (ad k1))] := hl
  exact blk_4 M 0 0 hw H locs ls w (lv_sub hl [2, 3, 1, 0] rfl)
set_option maxHeartbeats 4000000 in
set_option maxRecDepth 100000 in
theorem met_Fo_add (l : Launch) (hst9 : l.stackTraces = false) (D : va_G) (ad : Nat → Nat) (cA : Nat → ClassId) (n0 : Nat) (M : fm_M) (k1 : Nat) (post : Int → fm_M → Prop) (thr : String → fm_M → Prop) (hw : wp_Fo_add M k1 post thr) : fx_Met l y_Fo_add (Cond.code y_Fo_add b_Fo_add 3 none :: tb) { frames := 3, cells := 1, slots := 6, locals := 69 } [.ref (ad 142), .ref (ad k1)] D ad cA n0 M 3 post thr := by
  refine fx_met (by decide) (Nat.le_of_ble_eq_true rfl) (fun p e s m below meth c ls F w hno hr hlk hl => ?_)
  have hl : lv_has ls 3 [(0, .ref (ad 142)), (1, .ref (ad k1))] := hl
  suffices h9 : fx_G p l e { frames := 3, cells := 1, slots := 6, locals := 69 } s m ([.ref (ad 142), .ref (ad k1)] : List Value).toArray below meth c D ad cA n0 3 post thr 3 M [(0, .ref (ad 142)), (1, .ref (ad k1))] 0 [] from h9 _ _ _ w hl
  intro H locs ls w hl
  refine lv_aload_n F.1 F.2.1 d_Fo_add_0 rfl (lv_at hl 0 rfl) ?_
  refine fm_gI F w cl_Fo 142 1 T_142 (by decide) rfl k_203 d_Fo_add_1 ?_
  refine lv_istore_n F.1 F.2.1 d_Fo_add_4 rfl hl (by decide) rfl (fun ls hl => ?_)
  have hl : lv_has ls 3 [(2, .int (Int32.ofInt (M 142 1))), (0, .ref (ad 142)), (1, .ref (ad k1))] := hl
  refine lv_aload_n F.1 F.2.1 d_Fo_add_5 rfl (lv_at hl 1 rfl) ?_
  refine lv_dup F.1 F.2.1 d_Fo_add_6 rfl ?_
  refine fm_gI F w cl_Fo 142 1 T_142 (by decide) rfl k_203 d_Fo_add_7 ?_
  refine lv_iconst (v := Int32.ofInt 1) F.1 F.2.1 d_Fo_add_10 (by decide) ?_
  refine fi_iadd F d_Fo_add_11 ?_
  refine fm_pI F w cl_Fo 142 1 T_142 (by decide) rfl k_203 rfl rfl d_Fo_add_12 (fun M19 hM19 H locs w => ?_)
  have hw := hw M19 hM19
  refine lv_aload_n F.1 F.2.1 d_Fo_add_15 rfl (lv_at hl 2 rfl) ?_
  refine lv_iconst (v := Int32.ofInt 0) F.1 F.2.1 d_Fo_add_16 (by decide) ?_
  refine lv_aload_n F.1 F.2.1 d_Fo_add_17 rfl (lv_at hl 1 rfl) ?_
  refine fm_gO F w cl_Fo 142 6 280 T_142 (by decide) rfl rfl k_216 d_Fo_add_18 ?_
  refine lv_iload_n F.1 F.2.1 d_Fo_add_21 rfl (lv_at hl 0 rfl) ?_
  obtain ⟨h20, hw⟩ := hw
  refine fm_aR F w 280 0 (280 + 1 + (M 142 1).toNat) T_280 rfl (by decide) h20 rfl d_Fo_add_22 ?_
  refine lv_iconst (v := Int32.ofInt 0) F.1 F.2.1 d_Fo_add_23 (by decide) ?_
  refine lv_iconst (v := Int32.ofInt 3) F.1 F.2.1 d_Fo_add_24 (by decide) ?_
  obtain ⟨h21, hw⟩ := hw
  obtain ⟨h22, hw⟩ := hw
  obtain ⟨h23, hw⟩ := hw
  refine fm_copy F w hl.1 k_625 kq_ac_n kq_ac_s kq_System k1 (280 + 1 + (M 142 1).toNat) h21 h22 h23 (by decide) (Nat.le_of_ble_eq_true rfl) (Nat.le_of_ble_eq_true rfl) d_Fo_add_25 (fun M24 hM24 H locs w => ?_)
  have hw := hw M24 hM24
  refine lv_aload_n F.1 F.2.1 d_Fo_add_28 rfl (lv_at hl 1 rfl) ?_
  refine fm_gR F w cl_Fo 142 0 T_142 (by decide) rfl k_198 d_Fo_add_29 ?_
  obtain ⟨h25, hw⟩ := hw
  refine fm_gO F w cl_Gm ((M24 142 0).toNat) 3 (((M24 142 0).toNat) + 4) h25 (by decide) rfl rfl k_148 d_Fo_add_32 ?_
  refine lv_aload_n F.1 F.2.1 d_Fo_add_35 rfl (lv_at hl 2 rfl) ?_
  obtain ⟨h26, hw⟩ := hw
  refine fx_c w hno hlk (fx_rV (As := [.ref (ad k1)]) (rest := []) F w cl_Gu (((M24 142 0).toNat) + 4) h26 (met_Gu_holds l hst9 D ad cA n0 M24 (((M24 142 0).toNat) + 4) k1 _ thr hw) e_Gu_holds ki_Gu_holds ks_Gu_holds k_628 rfl hl.1 rfl (Nat.le_of_ble_eq_true rfl) ⟨⟨Nat.le_of_ble_eq_true rfl, Nat.le_of_ble_eq_true rfl⟩, Nat.le_of_ble_eq_true rfl, Nat.le_of_ble_eq_true rfl⟩ d_Fo_add_36) (fun r28 M27 hw H locs w => ?_)
  show W p l e _ s m _ below meth c H locs 0 0 _ (F0 m 39 ls [.int (Int32.ofInt r28)])
  obtain ⟨h29, hw⟩ := hw
  refine fi_if_eq F d_Fo_add_39 (tgt := 64) (by decide) h29 (fun hc30 => ?_) (fun hc30 => ?_)
  · have hw := hw.1 hc30
    refine lv_aload_n F.1 F.2.1 d_Fo_add_64 rfl (lv_at hl 1 rfl) ?_
    refine fm_gO F w cl_Fo 142 7 289 T_142 (by decide) rfl rfl k_218 d_Fo_add_65 ?_
    refine lv_iload_n F.1 F.2.1 d_Fo_add_68 rfl (lv_at hl 0 rfl) ?_
    refine lv_aload_n F.1 F.2.1 d_Fo_add_69 rfl (lv_at hl 1 rfl) ?_
    refine fm_gR F w cl_Fo 142 0 T_142 (by decide) rfl k_198 d_Fo_add_70 ?_
    refine lv_aload_n F.1 F.2.1 d_Fo_add_73 rfl (lv_at hl 2 rfl) ?_
    obtain ⟨h31, hw⟩ := hw
    refine fx_c w hno hlk (fx_rV (As := [.ref (ad k1)]) (rest := [.int (Int32.ofInt (M 142 1)), .ref (ad 289)]) F w cl_Gm ((M27 142 0).toNat) h31 (met_Gm_enabledIn l hst9 D ad cA n0 M27 ((M27 142 0).toNat) k1 _ thr hw) e_Gm_enabledIn ki_Gm_enabledIn ks_Gm_enabledIn k_638 rfl hl.1 rfl (Nat.le_of_ble_eq_true rfl) ⟨⟨Nat.le_of_ble_eq_true rfl, Nat.le_of_ble_eq_true rfl⟩, Nat.le_of_ble_eq_true rfl, Nat.le_of_ble_eq_true rfl⟩ d_Fo_add_74) (fun r33 M32 hw H locs w => ?_)
    show W p l e _ s m _ below meth c H locs 0 0 _ (F0 m 77 ls [.int (Int32.ofInt r33), .int (Int32.ofInt (M 142 1)), .ref (ad 289)])
    refine fm_sI F w 289 T_289 (by decide) h20  d_Fo_add_77 (fun M34 hM34 H locs w => ?_)
    have hw := hw M34 hM34
    exact fx_vret F w hr hlk hw d_Fo_add_78
  · have hw := hw.2 hc30
    refine lv_aload_n F.1 F.2.1 d_Fo_add_42 rfl (lv_at hl 1 rfl) ?_
    refine lv_dup F.1 F.2.1 d_Fo_add_43 rfl ?_
    refine fm_gI F w cl_Fo 142 3 T_142 (by decide) rfl k_210 d_Fo_add_44 ?_
    refine lv_iconst (v := Int32.ofInt 1) F.1 F.2.1 d_Fo_add_47 (by decide) ?_
    refine lv_iload_n F.1 F.2.1 d_Fo_add_48 rfl (lv_at hl 0 rfl) ?_
    refine fi_ishl F d_Fo_add_49 ?_
    refine fi_ior F d_Fo_add_50 ?_
    refine fm_pI F w cl_Fo 142 3 T_142 (by decide) rfl k_210 rfl rfl d_Fo_add_51 (fun M35 hM35 H locs w => ?_)
    have hw := hw M35 hM35
    refine lv_aload_n F.1 F.2.1 d_Fo_add_54 rfl (lv_at hl 1 rfl) ?_
    refine fm_gO F w cl_Fo 142 7 289 T_142 (by decide) rfl rfl k_218 d_Fo_add_55 ?_
    refine lv_iload_n F.1 F.2.1 d_Fo_add_58 rfl (lv_at hl 0 rfl) ?_
    refine lv_iconst (v := Int32.ofInt 0) F.1 F.2.1 d_Fo_add_59 (by decide) ?_
    refine fm_sI F w 289 T_289 (by decide) h20  d_Fo_add_60 (fun M36 hM36 H locs w => ?_)
    have hw := hw M36 hM36
    refine lv_goto F.1 F.2.1 d_Fo_add_61 (tgt := 78) (by decide) ?_
    exact fx_vret F w hr hlk hw d_Fo_add_78
set_option maxHeartbeats 4000000 in
set_option maxRecDepth 100000 in
theorem met_Fo_isOfMax (l : Launch) (hst9 : l.stackTraces = false) (D : va_G) (ad : Nat → Nat) (cA : Nat → ClassId) (n0 : Nat) (M : fm_M) (a1 : Int) (post : Int → fm_M → Prop) (thr : String → fm_M → Prop) (hw : wp_Fo_isOfMax M a1 post thr) : fx_Met l y_Fo_isOfMax (Cond.code y_Fo_isOfMax b_Fo_isOfMax 2 (some .boolean) :: tb) { frames := 0, cells := 1, slots := 6, locals := 0 } [.ref (ad 142), .int (Int32.ofInt a1)] D ad cA n0 M 0 post thr := by
  refine fx_met (by decide) (Nat.le_of_ble_eq_true rfl) (fun p e s m below meth c ls F w hno hr hlk hl => ?_)
  have hl : lv_has ls 2 [(0, .ref (ad 142)), (1, .int (Int32.ofInt a1))] := hl
  suffices h9 : fx_G p l e { frames := 0, cells := 1, slots := 6, locals := 0 } s m ([.ref (ad 142), .int (Int32.ofInt a1)] : List Value).toArray below meth c D ad cA n0 0 post thr 2 M [(0, .ref (ad 142)), (1, .int (Int32.ofInt a1))] 0 [] from h9 _ _ _ w hl
  intro H locs ls w hl
  refine lv_iload_n F.1 F.2.1 d_Fo_isOfMax_0 rfl (lv_at hl 1 rfl) ?_
  refine lv_aload_n F.1 F.2.1 d_Fo_isOfMax_1 rfl (lv_at hl 0 rfl) ?_
  refine fm_gI F w cl_Fo 142 4 T_142 (by decide) rfl k_214 d_Fo_isOfMax_2 ?_
  obtain ⟨h7, hw⟩ := hw
  obtain ⟨h8, hw⟩ := hw
  refine fi_icmp_ge F d_Fo_isOfMax_5 (tgt := 26) (by decide) h7 h8 (fun hc9 => ?_) (fun hc9 => ?_)
  · have hw := hw.1 hc9
    refine lv_iconst (v := Int32.ofInt 0) F.1 F.2.1 d_Fo_isOfMax_26 (by decide) ?_
    exact fx_zret F w hr hlk (fx_nz (by decide)) hw d_Fo_isOfMax_27
  · have hw := hw.2 hc9
    refine lv_aload_n F.1 F.2.1 d_Fo_isOfMax_8 rfl (lv_at hl 0 rfl) ?_
    refine fm_gO F w cl_Fo 142 7 289 T_142 (by decide) rfl rfl k_218 d_Fo_isOfMax_9 ?_
    refine lv_iload_n F.1 F.2.1 d_Fo_isOfMax_12 rfl (lv_at hl 1 rfl) ?_
    obtain ⟨h10, hw⟩ := hw
    refine fm_aI F w 289 T_289 (by decide) h10 d_Fo_isOfMax_13 ?_
    refine lv_aload_n F.1 F.2.1 d_Fo_isOfMax_14 rfl (lv_at hl 0 rfl) ?_
    refine fm_gI F w cl_Fo 142 5 T_142 (by decide) rfl k_215 d_Fo_isOfMax_15 ?_
    refine fi_iand F d_Fo_isOfMax_18 ?_
    obtain ⟨h11, hw⟩ := hw
    refine fi_if_eq F d_Fo_isOfMax_19 (tgt := 26) (by decide) h11 (fun hc12 => ?_) (fun hc12 => ?_)
    · have hw := hw.1 hc12
      refine lv_iconst (v := Int32.ofInt 0) F.1 F.2.1 d_Fo_isOfMax_26 (by decide) ?_
      exact fx_zret F w hr hlk (fx_nz (by decide)) hw d_Fo_isOfMax_27
    · have hw := hw.2 hc12
      refine lv_iconst (v := Int32.ofInt 1) F.1 F.2.1 d_Fo_isOfMax_22 (by decide) ?_
      refine lv_goto F.1 F.2.1 d_Fo_isOfMax_23 (tgt := 27) (by decide) ?_
      exact fx_zret F w hr hlk (fx_nz (by decide)) hw d_Fo_isOfMax_27
set_option maxHeartbeats 4000000 in
set_option maxRecDepth 100000 in
theorem met_Gm_follow (l : Launch) (hst9 : l.stackTraces = false) (D : va_G) (ad : Nat → Nat) (cA : Nat → ClassId) (n0 : Nat) (M : fm_M) (k0 : Nat) (k1 : Nat) (k2 : Nat) (k3 : Nat) (post : Int → fm_M → Prop) (thr : String → fm_M → Prop) (hw : wp_Gm_follow M k0 k1 k2 k3 post thr) : fx_Met l y_Gm_follow (Cond.code y_Gm_follow b_Gm_follow 6 none :: tb) { frames := 1, cells := 1, slots := 6, locals := 24 } [.ref (ad k0), .ref (ad k1), .ref (ad k2), .ref (ad k3)] D ad cA n0 M 3 post thr := by
  refine fx_met (by decide) (Nat.le_of_ble_eq_true rfl) (fun p e s m below meth c ls F w hno hr hlk hl => ?_)
  have blc_3 : ∀ (J_3 : (fm_M → Int → Prop)) (M : fm_M) (v4 : Int), C_Gm_follow_3 k0 k1 k2 k3 post thr J_3 M v4 → (∀ (M : fm_M) (v4 : Int), J_3 M v4 → fx_G p l e { frames := 1, cells := 1, slots := 6, locals := 24 } s m ([.ref (ad k0), .ref (ad k1), .ref (ad k2), .ref (ad k3)] : List Value).toArray below meth c D ad cA n0 3 post thr 6 M [(0, .ref (ad k0)), (1, .ref (ad k1)), (2, .ref (ad k2)), (3, .ref (ad k3)), (4, .int (Int32.ofInt v4))] 3 []) → fx_G p l e { frames := 1, cells := 1, slots := 6, locals := 24 } s m ([.ref (ad k0), .ref (ad k1), .ref (ad k2), .ref (ad k3)] : List Value).toArray below meth c D ad cA n0 3 post thr 6 M [(0, .ref (ad k0)), (1, .ref (ad k1)), (2, .ref (ad k2)), (3, .ref (ad k3)), (4, .int (Int32.ofInt v4))] 3 [] := by
    intro J_3 M v4 hw hJ_3 H locs ls w hl
    refine lv_iload F.1 F.2.1 d_Gm_follow_3 (lv_at hl 4 rfl) ?_
    refine lv_iconst (v := Int32.ofInt 3) F.1 F.2.1 d_Gm_follow_5 (by decide) ?_
    obtain ⟨h26, hw⟩ := hw
    refine fi_icmp_ge F d_Gm_follow_6 (tgt := 49) (by decide) h26 (rgl (by decide)) (fun hc27 => ?_) (fun hc27 => ?_)
    · have hw := hw.1 hc27
      exact fx_vret F w hr hlk hw d_Gm_follow_49
    · have hw := hw.2 hc27
      refine lv_aload_n F.1 F.2.1 d_Gm_follow_9 rfl (lv_at hl 2 rfl) ?_
      obtain ⟨h28, hw⟩ := hw
      refine fm_gO F w cl_Br k2 0 (k2 + 1) h28 (by decide) rfl rfl k_95 d_Gm_follow_10 ?_
      refine lv_iload F.1 F.2.1 d_Gm_follow_13 (lv_at hl 4 rfl) ?_
      refine lv_iconst (v := Int32.ofInt 4) F.1 F.2.1 d_Gm_follow_15 (by decide) ?_
      refine fi_imul F d_Gm_follow_16 ?_
      refine lv_aload_n F.1 F.2.1 d_Gm_follow_17 rfl (lv_at hl 1 rfl) ?_
      refine fx_c w hno hlk (fx_rSN (As := [.ref (ad (k2 + 1)), .int (Int32.ofInt (v4 * 4)), .ref (ad k1)]) (rest := []) F w (met_CG_sumAt l hst9 D ad cA n0 M (k2 + 1) (v4 * 4) k1 _ thr hw) e_CG_sumAt kt_CG_sumAt k_653 rfl hl.1 rfl (Nat.le_of_ble_eq_true rfl) ⟨⟨Nat.le_of_ble_eq_true rfl, Nat.le_of_ble_eq_true rfl⟩, Nat.le_of_ble_eq_true rfl, Nat.le_of_ble_eq_true rfl⟩ d_Gm_follow_18) (fun r30 M29 hw H locs w => ?_)
      show W p l e _ s m _ below meth c H locs 0 0 _ (F0 m 21 ls [.int (Int32.ofInt r30)])
      refine lv_istore F.1 F.2.1 d_Gm_follow_21 hl (by decide) rfl (fun ls hl => ?_)
      have hl : lv_has ls 6 [(5, .int (Int32.ofInt r30)), (0, .ref (ad k0)), (1, .ref (ad k1)), (2, .ref (ad k2)), (3, .ref (ad k3)), (4, .int (Int32.ofInt v4))] := hl
      refine lv_aload_n F.1 F.2.1 d_Gm_follow_23 rfl (lv_at hl 4 rfl) ?_
      refine lv_iload F.1 F.2.1 d_Gm_follow_24 (lv_at hl 5 rfl) ?_
      refine lv_iconst (v := Int32.ofInt 0) F.1 F.2.1 d_Gm_follow_26 (by decide) ?_
      refine lv_aload_n F.1 F.2.1 d_Gm_follow_27 rfl (lv_at hl 1 rfl) ?_
      obtain ⟨h31, hw⟩ := hw
      refine fm_gO F w cl_Gm k0 0 (k0 + 1) h31 (by decide) rfl rfl k_136 d_Gm_follow_28 ?_
      refine lv_iload F.1 F.2.1 d_Gm_follow_31 (lv_at hl 5 rfl) ?_
      obtain ⟨h32, hw⟩ := hw
      obtain ⟨h33, hw⟩ := hw
      refine fm_aI F w (k0 + 1) h32 (by decide) h33 d_Gm_follow_33 ?_
      refine lv_iload F.1 F.2.1 d_Gm_follow_34 (lv_at hl 0 rfl) ?_
      obtain ⟨h34, hw⟩ := hw
      obtain ⟨h35, hw⟩ := hw
      refine fm_min F hl.1 k_654 kq_min_s kq_Math kq_min_c h34 h35 (Nat.le_of_ble_eq_true rfl) (Nat.le_of_ble_eq_true rfl) (Nat.le_of_ble_eq_true rfl) (Nat.le_of_ble_eq_true rfl) d_Gm_follow_36 ?_
      obtain ⟨h36, hw⟩ := hw
      refine fm_max F hl.1 k_657 kq_max_s kq_Math kq_max_c (rgl (by decide)) h36 (Nat.le_of_ble_eq_true rfl) (Nat.le_of_ble_eq_true rfl) (Nat.le_of_ble_eq_true rfl) (Nat.le_of_ble_eq_true rfl) d_Gm_follow_39 ?_
      obtain ⟨h37, hw⟩ := hw
      obtain ⟨h38, hw⟩ := hw
      refine fm_sI F w k3 h37 (fm_szlt h37.1) h38  d_Gm_follow_42 (fun M39 hM39 H locs w => ?_)
      have hw := hw M39 hM39
      refine fi_iinc (k := 5) (v := (v4 + 1)) F d_Gm_follow_43 hl rfl rfl (by decide) rfl (fun ls hl => ?_)
      have hl : lv_has ls 6 [(4, .int (Int32.ofInt (v4 + 1))), (5, .int (Int32.ofInt r30)), (0, .ref (ad k0)), (1, .ref (ad k1)), (2, .ref (ad k2)), (3, .ref (ad k3))] := hl
      refine lv_goto F.1 F.2.1 d_Gm_follow_46 (tgt := 3) (by decide) ?_
      exact hJ_3 M39 (v4 + 1) hw H locs ls w (lv_sub hl [2, 3, 4, 5, 0] rfl)
  have blk_3 : ∀ (M : fm_M) (v4 : Int), B_Gm_follow_3 k0 k1 k2 k3 post thr M v4 → fx_G p l e { frames := 1, cells := 1, slots := 6, locals := 24 } s m ([.ref (ad k0), .ref (ad k1), .ref (ad k2), .ref (ad k3)] : List Value).toArray below meth c D ad cA n0 3 post thr 6 M [(0, .ref (ad k0)), (1, .ref (ad k1)), (2, .ref (ad k2)), (3, .ref (ad k3)), (4, .int (Int32.ofInt v4))] 3 [] := by
    intro M v4 hw
    obtain ⟨I, μ, hI, hB⟩ := hw
    have key : ∀ (q : Nat) (M : fm_M) (v4 : Int), μ M v4 < q → I M v4 → fx_G p l e { frames := 1, cells := 1, slots := 6, locals := 24 } s m ([.ref (ad k0), .ref (ad k1), .ref (ad k2), .ref (ad k3)] : List Value).toArray below meth c D ad cA n0 3 post thr 6 M [(0, .ref (ad k0)), (1, .ref (ad k1)), (2, .ref (ad k2)), (3, .ref (ad k3)), (4, .int (Int32.ofInt v4))] 3 [] := by
      intro q
      induction q with
      | zero => intro M v4 h _; exact absurd h (Nat.not_lt_zero _)
      | succ q ih =>
        intro M v4 hμ hI
        exact blc_3 (fun M' v4' => I M' v4' ∧ μ M' v4' < μ M v4) M v4 (hB M v4 hI) (fun M' v4' hh => ih M' v4' (Nat.lt_of_lt_of_le hh.2 (Nat.le_of_lt_succ hμ)) hh.1)
    exact key _ M v4 (Nat.lt_succ_self _) hI
  have hl : lv_has ls 6 [(0, .ref (ad k0)), (1, .ref (ad k1)), (2, .ref (ad k2)), (3, .ref (ad k3))] := hl
  suffices h9 : fx_G p l e { frames := 1, cells := 1, slots := 6, locals := 24 } s m ([.ref (ad k0), .ref (ad k1), .ref (ad k2), .ref (ad k3)] : List Value).toArray below meth c D ad cA n0 3 post thr 6 M [(0, .ref (ad k0)), (1, .ref (ad k1)), (2, .ref (ad k2)), (3, .ref (ad k3))] 0 [] from h9 _ _ _ w hl
  intro H locs ls w hl
  refine lv_iconst (v := Int32.ofInt 0) F.1 F.2.1 d_Gm_follow_0 (by decide) ?_
  refine lv_istore F.1 F.2.1 d_Gm_follow_1 hl (by decide) rfl (fun ls hl => ?_)
  have hl : lv_has ls 6 [(4, .int (Int32.ofInt 0)), (0, .ref (ad k0)), (1, .ref (ad k1)), (2, .ref (ad k2)), (3, .ref (ad k3))] := hl
  exact blk_3 M 0 hw H locs ls w (lv_sub hl [1, 2, 3, 4, 0] rfl)
set_option maxHeartbeats 4000000 in
set_option maxRecDepth 100000 in
theorem met_Fo_numberOf (l : Launch) (hst9 : l.stackTraces = false) (D : va_G) (ad : Nat → Nat) (cA : Nat → ClassId) (n0 : Nat) (M : fm_M) (k1 : Nat) (post : Int → fm_M → Prop) (thr : String → fm_M → Prop) (hw : wp_Fo_numberOf M k1 post thr) : fx_Met l y_Fo_numberOf (Cond.code y_Fo_numberOf b_Fo_numberOf 5 (some .int) :: tb) { frames := 0, cells := 1, slots := 6, locals := 0 } [.ref (ad 142), .ref (ad k1)] D ad cA n0 M 0 post thr := by
  refine fx_met (by decide) (Nat.le_of_ble_eq_true rfl) (fun p e s m below meth c ls F w hno hr hlk hl => ?_)
  have blk_46 : ∀ (J_2 : (fm_M → Int → Prop)) (J_15 : (fm_M → Int → Int → Int → Prop)) (M : fm_M) (v2 : Int) (v4 : Int) (s0 : Int), B_Fo_numberOf_46 k1 post thr J_2 J_15 M v2 v4 s0 → (∀ (M : fm_M) (v2 : Int), J_2 M v2 → fx_G p l e { frames := 0, cells := 1, slots := 6, locals := 0 } s m ([.ref (ad 142), .ref (ad k1)] : List Value).toArray below meth c D ad cA n0 0 post thr 5 M [(0, .ref (ad 142)), (1, .ref (ad k1)), (2, .int (Int32.ofInt v2))] 2 []) → (∀ (M : fm_M) (v2 : Int) (v3 : Int) (v4 : Int), J_15 M v2 v3 v4 → fx_G p l e { frames := 0, cells := 1, slots := 6, locals := 0 } s m ([.ref (ad 142), .ref (ad k1)] : List Value).toArray below meth c D ad cA n0 0 post thr 5 M [(0, .ref (ad 142)), (1, .ref (ad k1)), (2, .int (Int32.ofInt v2)), (3, .int (Int32.ofInt v3)), (4, .int (Int32.ofInt v4))] 15 []) → fx_G p l e { frames := 0, cells := 1, slots := 6, locals := 0 } s m ([.ref (ad 142), .ref (ad k1)] : List Value).toArray below meth c D ad cA n0 0 post thr 5 M [(0, .ref (ad 142)), (1, .ref (ad k1)), (2, .int (Int32.ofInt v2)), (4, .int (Int32.ofInt v4))] 46 [.int (Int32.ofInt s0)] := by
    intro J_2 J_15 M v2 v4 s0 hw hJ_2 hJ_15 H locs ls w hl
    refine lv_istore_n F.1 F.2.1 d_Fo_numberOf_46 rfl hl (by decide) rfl (fun ls hl => ?_)
    have hl : lv_has ls 5 [(3, .int (Int32.ofInt s0)), (0, .ref (ad 142)), (1, .ref (ad k1)), (2, .int (Int32.ofInt v2)), (4, .int (Int32.ofInt v4))] := hl
    refine fi_iinc (k := 4) (v := (v4 + 1)) F d_Fo_numberOf_47 hl rfl rfl (by decide) rfl (fun ls hl => ?_)
    have hl : lv_has ls 5 [(4, .int (Int32.ofInt (v4 + 1))), (3, .int (Int32.ofInt s0)), (0, .ref (ad 142)), (1, .ref (ad k1)), (2, .int (Int32.ofInt v2))] := hl
    refine lv_goto F.1 F.2.1 d_Fo_numberOf_50 (tgt := 15) (by decide) ?_
    exact hJ_15 M v2 s0 (v4 + 1) hw H locs ls w (lv_sub hl [2, 3, 4, 1, 0] rfl)
  have blc_15 : ∀ (J_2 : (fm_M → Int → Prop)) (J_15 : (fm_M → Int → Int → Int → Prop)) (M : fm_M) (v2 : Int) (v3 : Int) (v4 : Int), C_Fo_numberOf_15 k1 post thr J_2 J_15 M v2 v3 v4 → (∀ (M : fm_M) (v2 : Int), J_2 M v2 → fx_G p l e { frames := 0, cells := 1, slots := 6, locals := 0 } s m ([.ref (ad 142), .ref (ad k1)] : List Value).toArray below meth c D ad cA n0 0 post thr 5 M [(0, .ref (ad 142)), (1, .ref (ad k1)), (2, .int (Int32.ofInt v2))] 2 []) → (∀ (M : fm_M) (v2 : Int) (v3 : Int) (v4 : Int), J_15 M v2 v3 v4 → fx_G p l e { frames := 0, cells := 1, slots := 6, locals := 0 } s m ([.ref (ad 142), .ref (ad k1)] : List Value).toArray below meth c D ad cA n0 0 post thr 5 M [(0, .ref (ad 142)), (1, .ref (ad k1)), (2, .int (Int32.ofInt v2)), (3, .int (Int32.ofInt v3)), (4, .int (Int32.ofInt v4))] 15 []) → fx_G p l e { frames := 0, cells := 1, slots := 6, locals := 0 } s m ([.ref (ad 142), .ref (ad k1)] : List Value).toArray below meth c D ad cA n0 0 post thr 5 M [(0, .ref (ad 142)), (1, .ref (ad k1)), (2, .int (Int32.ofInt v2)), (3, .int (Int32.ofInt v3)), (4, .int (Int32.ofInt v4))] 15 [] := by
    intro J_2 J_15 M v2 v3 v4 hw hJ_2 hJ_15 H locs ls w hl
    refine lv_iload F.1 F.2.1 d_Fo_numberOf_15 (lv_at hl 4 rfl) ?_
    refine lv_iconst (v := Int32.ofInt 3) F.1 F.2.1 d_Fo_numberOf_17 (by decide) ?_
    obtain ⟨h37, hw⟩ := hw
    refine fi_icmp_ge F d_Fo_numberOf_18 (tgt := 53) (by decide) h37 (rgl (by decide)) (fun hc38 => ?_) (fun hc38 => ?_)
    · have hw := hw.1 hc38
      refine lv_iload_n F.1 F.2.1 d_Fo_numberOf_53 rfl (lv_at hl 3 rfl) ?_
      obtain ⟨h39, hw⟩ := hw
      refine fi_if_eq F d_Fo_numberOf_54 (tgt := 59) (by decide) h39 (fun hc40 => ?_) (fun hc40 => ?_)
      · have hw := hw.1 hc40
        refine fi_iinc (k := 2) (v := (v2 + 1)) F d_Fo_numberOf_59 hl rfl rfl (by decide) rfl (fun ls hl => ?_)
        have hl : lv_has ls 5 [(2, .int (Int32.ofInt (v2 + 1))), (0, .ref (ad 142)), (1, .ref (ad k1)), (3, .int (Int32.ofInt v3)), (4, .int (Int32.ofInt v4))] := hl
        refine lv_goto F.1 F.2.1 d_Fo_numberOf_62 (tgt := 2) (by decide) ?_
        exact hJ_2 M (v2 + 1) hw H locs ls w (lv_sub hl [1, 2, 0] rfl)
      · have hw := hw.2 hc40
        refine lv_iload_n F.1 F.2.1 d_Fo_numberOf_57 rfl (lv_at hl 2 rfl) ?_
        exact fx_iret F w hr hlk hw d_Fo_numberOf_58
    · have hw := hw.2 hc38
      refine lv_iload_n F.1 F.2.1 d_Fo_numberOf_21 rfl (lv_at hl 3 rfl) ?_
      obtain ⟨h41, hw⟩ := hw
      refine fi_if_eq F d_Fo_numberOf_22 (tgt := 45) (by decide) h41 (fun hc42 => ?_) (fun hc42 => ?_)
      · have hw := hw.1 hc42
        refine lv_iconst (v := Int32.ofInt 0) F.1 F.2.1 d_Fo_numberOf_45 (by decide) ?_
        exact blk_46 J_2 J_15 M v2 v4 0 hw hJ_2 hJ_15 H locs ls w (lv_sub hl [0, 1, 2, 4] rfl)
      · have hw := hw.2 hc42
        refine lv_aload_n F.1 F.2.1 d_Fo_numberOf_25 rfl (lv_at hl 0 rfl) ?_
        refine fm_gO F w cl_Fo 142 6 280 T_142 (by decide) rfl rfl k_216 d_Fo_numberOf_26 ?_
        refine lv_iload_n F.1 F.2.1 d_Fo_numberOf_29 rfl (lv_at hl 2 rfl) ?_
        obtain ⟨h43, hw⟩ := hw
        refine fm_aR F w 280 0 (280 + 1 + v2.toNat) T_280 rfl (by decide) h43 rfl d_Fo_numberOf_30 ?_
        refine lv_iload F.1 F.2.1 d_Fo_numberOf_31 (lv_at hl 4 rfl) ?_
        obtain ⟨h44, hw⟩ := hw
        obtain ⟨h45, hw⟩ := hw
        refine fm_aI F w (280 + 1 + v2.toNat) h44 (by decide) h45 d_Fo_numberOf_33 ?_
        refine lv_aload_n F.1 F.2.1 d_Fo_numberOf_34 rfl (lv_at hl 1 rfl) ?_
        refine lv_iload F.1 F.2.1 d_Fo_numberOf_35 (lv_at hl 4 rfl) ?_
        obtain ⟨h46, hw⟩ := hw
        obtain ⟨h47, hw⟩ := hw
        refine fm_aI F w k1 h46 (fm_szlt h46.1) h47 d_Fo_numberOf_37 ?_
        obtain ⟨h48, hw⟩ := hw
        obtain ⟨h49, hw⟩ := hw
        refine fi_icmp_ne F d_Fo_numberOf_38 (tgt := 45) (by decide) h48 h49 (fun hc50 => ?_) (fun hc50 => ?_)
        · have hw := hw.1 hc50
          refine lv_iconst (v := Int32.ofInt 0) F.1 F.2.1 d_Fo_numberOf_45 (by decide) ?_
          exact blk_46 J_2 J_15 M v2 v4 0 hw hJ_2 hJ_15 H locs ls w (lv_sub hl [0, 1, 2, 4] rfl)
        · have hw := hw.2 hc50
          refine lv_iconst (v := Int32.ofInt 1) F.1 F.2.1 d_Fo_numberOf_41 (by decide) ?_
          refine lv_goto F.1 F.2.1 d_Fo_numberOf_42 (tgt := 46) (by decide) ?_
          exact blk_46 J_2 J_15 M v2 v4 1 hw hJ_2 hJ_15 H locs ls w (lv_sub hl [0, 1, 2, 4] rfl)
  have blk_15 : ∀ (J_2 : (fm_M → Int → Prop)) (M : fm_M) (v2 : Int) (v3 : Int) (v4 : Int), B_Fo_numberOf_15 k1 post thr J_2 M v2 v3 v4 → (∀ (M : fm_M) (v2 : Int), J_2 M v2 → fx_G p l e { frames := 0, cells := 1, slots := 6, locals := 0 } s m ([.ref (ad 142), .ref (ad k1)] : List Value).toArray below meth c D ad cA n0 0 post thr 5 M [(0, .ref (ad 142)), (1, .ref (ad k1)), (2, .int (Int32.ofInt v2))] 2 []) → fx_G p l e { frames := 0, cells := 1, slots := 6, locals := 0 } s m ([.ref (ad 142), .ref (ad k1)] : List Value).toArray below meth c D ad cA n0 0 post thr 5 M [(0, .ref (ad 142)), (1, .ref (ad k1)), (2, .int (Int32.ofInt v2)), (3, .int (Int32.ofInt v3)), (4, .int (Int32.ofInt v4))] 15 [] := by
    intro J_2 M v2 v3 v4 hw hJ_2
    obtain ⟨I, μ, hI, hB⟩ := hw
    have key : ∀ (q : Nat) (M : fm_M) (v2 : Int) (v3 : Int) (v4 : Int), μ M v2 v3 v4 < q → I M v2 v3 v4 → fx_G p l e { frames := 0, cells := 1, slots := 6, locals := 0 } s m ([.ref (ad 142), .ref (ad k1)] : List Value).toArray below meth c D ad cA n0 0 post thr 5 M [(0, .ref (ad 142)), (1, .ref (ad k1)), (2, .int (Int32.ofInt v2)), (3, .int (Int32.ofInt v3)), (4, .int (Int32.ofInt v4))] 15 [] := by
      intro q
      induction q with
      | zero => intro M v2 v3 v4 h _; exact absurd h (Nat.not_lt_zero _)
      | succ q ih =>
        intro M v2 v3 v4 hμ hI
        exact blc_15 J_2 (fun M' v2' v3' v4' => I M' v2' v3' v4' ∧ μ M' v2' v3' v4' < μ M v2 v3 v4) M v2 v3 v4 (hB M v2 v3 v4 hI) hJ_2 (fun M' v2' v3' v4' hh => ih M' v2' v3' v4' (Nat.lt_of_lt_of_le hh.2 (Nat.le_of_lt_succ hμ)) hh.1)
    exact key _ M v2 v3 v4 (Nat.lt_succ_self _) hI
  have blc_2 : ∀ (J_2 : (fm_M → Int → Prop)) (M : fm_M) (v2 : Int), C_Fo_numberOf_2 k1 post thr J_2 M v2 → (∀ (M : fm_M) (v2 : Int), J_2 M v2 → fx_G p l e { frames := 0, cells := 1, slots := 6, locals := 0 } s m ([.ref (ad 142), .ref (ad k1)] : List Value).toArray below meth c D ad cA n0 0 post thr 5 M [(0, .ref (ad 142)), (1, .ref (ad k1)), (2, .int (Int32.ofInt v2))] 2 []) → fx_G p l e { frames := 0, cells := 1, slots := 6, locals := 0 } s m ([.ref (ad 142), .ref (ad k1)] : List Value).toArray below meth c D ad cA n0 0 post thr 5 M [(0, .ref (ad 142)), (1, .ref (ad k1)), (2, .int (Int32.ofInt v2))] 2 [] := by
    intro J_2 M v2 hw hJ_2 H locs ls w hl
    refine lv_iload_n F.1 F.2.1 d_Fo_numberOf_2 rfl (lv_at hl 2 rfl) ?_
    refine lv_aload_n F.1 F.2.1 d_Fo_numberOf_3 rfl (lv_at hl 0 rfl) ?_
    refine fm_gI F w cl_Fo 142 1 T_142 (by decide) rfl k_203 d_Fo_numberOf_4 ?_
    obtain ⟨h51, hw⟩ := hw
    obtain ⟨h52, hw⟩ := hw
    refine fi_icmp_ge F d_Fo_numberOf_7 (tgt := 65) (by decide) h51 h52 (fun hc53 => ?_) (fun hc53 => ?_)
    · have hw := hw.1 hc53
      refine lv_iconst (v := Int32.ofInt (-1)) F.1 F.2.1 d_Fo_numberOf_65 (by decide) ?_
      exact fx_iret F w hr hlk hw d_Fo_numberOf_66
    · have hw := hw.2 hc53
      refine lv_iconst (v := Int32.ofInt 1) F.1 F.2.1 d_Fo_numberOf_10 (by decide) ?_
      refine lv_istore_n F.1 F.2.1 d_Fo_numberOf_11 rfl hl (by decide) rfl (fun ls hl => ?_)
      have hl : lv_has ls 5 [(3, .int (Int32.ofInt 1)), (0, .ref (ad 142)), (1, .ref (ad k1)), (2, .int (Int32.ofInt v2))] := hl
      refine lv_iconst (v := Int32.ofInt 0) F.1 F.2.1 d_Fo_numberOf_12 (by decide) ?_
      refine lv_istore F.1 F.2.1 d_Fo_numberOf_13 hl (by decide) rfl (fun ls hl => ?_)
      have hl : lv_has ls 5 [(4, .int (Int32.ofInt 0)), (3, .int (Int32.ofInt 1)), (0, .ref (ad 142)), (1, .ref (ad k1)), (2, .int (Int32.ofInt v2))] := hl
      exact blk_15 J_2 M v2 1 0 hw hJ_2 H locs ls w (lv_sub hl [2, 3, 4, 1, 0] rfl)
  have blk_2 : ∀ (M : fm_M) (v2 : Int), B_Fo_numberOf_2 k1 post thr M v2 → fx_G p l e { frames := 0, cells := 1, slots := 6, locals := 0 } s m ([.ref (ad 142), .ref (ad k1)] : List Value).toArray below meth c D ad cA n0 0 post thr 5 M [(0, .ref (ad 142)), (1, .ref (ad k1)), (2, .int (Int32.ofInt v2))] 2 [] := by
    intro M v2 hw
    obtain ⟨I, μ, hI, hB⟩ := hw
    have key : ∀ (q : Nat) (M : fm_M) (v2 : Int), μ M v2 < q → I M v2 → fx_G p l e { frames := 0, cells := 1, slots := 6, locals := 0 } s m ([.ref (ad 142), .ref (ad k1)] : List Value).toArray below meth c D ad cA n0 0 post thr 5 M [(0, .ref (ad 142)), (1, .ref (ad k1)), (2, .int (Int32.ofInt v2))] 2 [] := by
      intro q
      induction q with
      | zero => intro M v2 h _; exact absurd h (Nat.not_lt_zero _)
      | succ q ih =>
        intro M v2 hμ hI
        exact blc_2 (fun M' v2' => I M' v2' ∧ μ M' v2' < μ M v2) M v2 (hB M v2 hI) (fun M' v2' hh => ih M' v2' (Nat.lt_of_lt_of_le hh.2 (Nat.le_of_lt_succ hμ)) hh.1)
    exact key _ M v2 (Nat.lt_succ_self _) hI
  have hl : lv_has ls 5 [(0, .ref (ad 142)), (1, .ref (ad k1))] := hl
  suffices h9 : fx_G p l e { frames := 0, cells := 1, slots := 6, locals := 0 } s m ([.ref (ad 142), .ref (ad k1)] : List Value).toArray below meth c D ad cA n0 0 post thr 5 M [(0, .ref (ad 142)), (1, .ref (ad k1))] 0 [] from h9 _ _ _ w hl
  intro H locs ls w hl
  refine lv_iconst (v := Int32.ofInt 0) F.1 F.2.1 d_Fo_numberOf_0 (by decide) ?_
  refine lv_istore_n F.1 F.2.1 d_Fo_numberOf_1 rfl hl (by decide) rfl (fun ls hl => ?_)
  have hl : lv_has ls 5 [(2, .int (Int32.ofInt 0)), (0, .ref (ad 142)), (1, .ref (ad k1))] := hl
  exact blk_2 M 0 hw H locs ls w (lv_sub hl [1, 2, 0] rfl)
set_option maxHeartbeats 4000000 in
set_option maxRecDepth 100000 in
theorem met_Fo_findFrom (l : Launch) (hst9 : l.stackTraces = false) (D : va_G) (ad : Nat → Nat) (cA : Nat → ClassId) (n0 : Nat) (M : fm_M) (a1 : Int) (post : Int → fm_M → Prop) (thr : String → fm_M → Prop) (hw : wp_Fo_findFrom M a1 post thr) : fx_Met l y_Fo_findFrom (Cond.code y_Fo_findFrom b_Fo_findFrom 6 (some .boolean) :: tb) { frames := 4, cells := 1, slots := 6, locals := 91 } [.ref (ad 142), .int (Int32.ofInt a1)] D ad cA n0 M 0 post thr := by
  refine fx_met (by decide) (Nat.le_of_ble_eq_true rfl) (fun p e s m below meth c ls F w hno hr hlk hl => ?_)
  have blk_107 : ∀ (J_2 : (fm_M → Int → Prop)) (J_39 : (fm_M → Int → Nat → Int → Prop)) (M : fm_M) (v2 : Int) (c3 : Nat) (v4 : Int) (v5 : Int), B_Fo_findFrom_107 a1 post thr J_2 J_39 M v2 c3 v4 v5 → (∀ (M : fm_M) (v2 : Int), J_2 M v2 → fx_G p l e { frames := 4, cells := 1, slots := 6, locals := 91 } s m ([.ref (ad 142), .int (Int32.ofInt a1)] : List Value).toArray below meth c D ad cA n0 0 post thr 6 M [(0, .ref (ad 142)), (1, .int (Int32.ofInt a1)), (2, .int (Int32.ofInt v2))] 2 []) → (∀ (M : fm_M) (v2 : Int) (c3 : Nat) (v4 : Int), J_39 M v2 c3 v4 → fx_G p l e { frames := 4, cells := 1, slots := 6, locals := 91 } s m ([.ref (ad 142), .int (Int32.ofInt a1)] : List Value).toArray below meth c D ad cA n0 0 post thr 6 M [(0, .ref (ad 142)), (1, .int (Int32.ofInt a1)), (2, .int (Int32.ofInt v2)), (3, .ref (ad c3)), (4, .int (Int32.ofInt v4))] 39 []) → fx_G p l e { frames := 4, cells := 1, slots := 6, locals := 91 } s m ([.ref (ad 142), .int (Int32.ofInt a1)] : List Value).toArray below meth c D ad cA n0 0 post thr 6 M [(0, .ref (ad 142)), (1, .int (Int32.ofInt a1)), (2, .int (Int32.ofInt v2)), (3, .ref (ad c3)), (4, .int (Int32.ofInt v4)), (5, .int (Int32.ofInt v5))] 107 [] := by
    intro J_2 J_39 M v2 c3 v4 v5 hw hJ_2 hJ_39 H locs ls w hl
    refine lv_iload F.1 F.2.1 d_Fo_findFrom_107 (lv_at hl 5 rfl) ?_
    obtain ⟨h91, hw⟩ := hw
    refine fi_if_eq F d_Fo_findFrom_109 (tgt := 120) (by decide) h91 (fun hc92 => ?_) (fun hc92 => ?_)
    · have hw := hw.1 hc92
      refine fi_iinc (k := 4) (v := (v4 + 1)) F d_Fo_findFrom_120 hl rfl rfl (by decide) rfl (fun ls hl => ?_)
      have hl : lv_has ls 6 [(4, .int (Int32.ofInt (v4 + 1))), (0, .ref (ad 142)), (1, .int (Int32.ofInt a1)), (2, .int (Int32.ofInt v2)), (3, .ref (ad c3)), (5, .int (Int32.ofInt v5))] := hl
      refine lv_goto F.1 F.2.1 d_Fo_findFrom_123 (tgt := 39) (by decide) ?_
      exact hJ_39 M v2 c3 (v4 + 1) hw H locs ls w (lv_sub hl [1, 2, 3, 4, 0] rfl)
    · have hw := hw.2 hc92
      refine lv_aload_n F.1 F.2.1 d_Fo_findFrom_112 rfl (lv_at hl 0 rfl) ?_
      refine lv_aload_n F.1 F.2.1 d_Fo_findFrom_113 rfl (lv_at hl 0 rfl) ?_
      refine fm_gO F w cl_Fo 142 10 308 T_142 (by decide) rfl rfl k_223 d_Fo_findFrom_114 ?_
      refine fx_c w hno hlk (fx_rV (As := [.ref (ad 308)]) (rest := []) F w cl_Fo 142 T_142 (met_Fo_add l hst9 D ad cA n0 M 308 _ thr hw) e_Fo_add ki_Fo_add ks_Fo_add k_621 rfl hl.1 rfl (Nat.le_of_ble_eq_true rfl) ⟨⟨Nat.le_of_ble_eq_true rfl, Nat.le_of_ble_eq_true rfl⟩, Nat.le_of_ble_eq_true rfl, Nat.le_of_ble_eq_true rfl⟩ d_Fo_findFrom_117) (fun r94 M93 hw H locs w => ?_)
      refine fi_iinc (k := 4) (v := (v4 + 1)) F d_Fo_findFrom_120 hl rfl rfl (by decide) rfl (fun ls hl => ?_)
      have hl : lv_has ls 6 [(4, .int (Int32.ofInt (v4 + 1))), (0, .ref (ad 142)), (1, .int (Int32.ofInt a1)), (2, .int (Int32.ofInt v2)), (3, .ref (ad c3)), (5, .int (Int32.ofInt v5))] := hl
      refine lv_goto F.1 F.2.1 d_Fo_findFrom_123 (tgt := 39) (by decide) ?_
      exact hJ_39 M93 v2 c3 (v4 + 1) hw H locs ls w (lv_sub hl [1, 2, 3, 4, 0] rfl)
  have blk_89 : ∀ (J_2 : (fm_M → Int → Prop)) (J_39 : (fm_M → Int → Nat → Int → Prop)) (M : fm_M) (v2 : Int) (c3 : Nat) (v4 : Int) (s0 : Int), B_Fo_findFrom_89 a1 post thr J_2 J_39 M v2 c3 v4 s0 → (∀ (M : fm_M) (v2 : Int), J_2 M v2 → fx_G p l e { frames := 4, cells := 1, slots := 6, locals := 91 } s m ([.ref (ad 142), .int (Int32.ofInt a1)] : List Value).toArray below meth c D ad cA n0 0 post thr 6 M [(0, .ref (ad 142)), (1, .int (Int32.ofInt a1)), (2, .int (Int32.ofInt v2))] 2 []) → (∀ (M : fm_M) (v2 : Int) (c3 : Nat) (v4 : Int), J_39 M v2 c3 v4 → fx_G p l e { frames := 4, cells := 1, slots := 6, locals := 91 } s m ([.ref (ad 142), .int (Int32.ofInt a1)] : List Value).toArray below meth c D ad cA n0 0 post thr 6 M [(0, .ref (ad 142)), (1, .int (Int32.ofInt a1)), (2, .int (Int32.ofInt v2)), (3, .ref (ad c3)), (4, .int (Int32.ofInt v4))] 39 []) → fx_G p l e { frames := 4, cells := 1, slots := 6, locals := 91 } s m ([.ref (ad 142), .int (Int32.ofInt a1)] : List Value).toArray below meth c D ad cA n0 0 post thr 6 M [(0, .ref (ad 142)), (1, .int (Int32.ofInt a1)), (2, .int (Int32.ofInt v2)), (3, .ref (ad c3)), (4, .int (Int32.ofInt v4))] 89 [.int (Int32.ofInt s0)] := by
    intro J_2 J_39 M v2 c3 v4 s0 hw hJ_2 hJ_39 H locs ls w hl
    refine lv_istore F.1 F.2.1 d_Fo_findFrom_89 hl (by decide) rfl (fun ls hl => ?_)
    have hl : lv_has ls 6 [(5, .int (Int32.ofInt s0)), (0, .ref (ad 142)), (1, .int (Int32.ofInt a1)), (2, .int (Int32.ofInt v2)), (3, .ref (ad c3)), (4, .int (Int32.ofInt v4))] := hl
    refine lv_iload F.1 F.2.1 d_Fo_findFrom_91 (lv_at hl 0 rfl) ?_
    obtain ⟨h95, hw⟩ := hw
    refine fi_if_eq F d_Fo_findFrom_93 (tgt := 107) (by decide) h95 (fun hc96 => ?_) (fun hc96 => ?_)
    · have hw := hw.1 hc96
      exact blk_107 J_2 J_39 M v2 c3 v4 s0 hw hJ_2 hJ_39 H locs ls w (lv_sub hl [1, 2, 3, 4, 5, 0] rfl)
    · have hw := hw.2 hc96
      refine lv_aload_n F.1 F.2.1 d_Fo_findFrom_96 rfl (lv_at hl 1 rfl) ?_
      refine fm_gI F w cl_Fo 142 1 T_142 (by decide) rfl k_203 d_Fo_findFrom_97 ?_
      refine lv_bipush (v := Int32.ofInt 8) F.1 F.2.1 d_Fo_findFrom_100 (by decide) ?_
      obtain ⟨h97, hw⟩ := hw
      refine fi_icmp_ne F d_Fo_findFrom_102 (tgt := 107) (by decide) h97 (rgl (by decide)) (fun hc98 => ?_) (fun hc98 => ?_)
      · have hw := hw.1 hc98
        exact blk_107 J_2 J_39 M v2 c3 v4 s0 hw hJ_2 hJ_39 H locs ls w (lv_sub hl [1, 2, 3, 4, 5, 0] rfl)
      · have hw := hw.2 hc98
        refine lv_iconst (v := Int32.ofInt 0) F.1 F.2.1 d_Fo_findFrom_105 (by decide) ?_
        exact fx_zret F w hr hlk (fx_nz (by decide)) hw d_Fo_findFrom_106
  have blc_39 : ∀ (J_2 : (fm_M → Int → Prop)) (J_39 : (fm_M → Int → Nat → Int → Prop)) (M : fm_M) (v2 : Int) (c3 : Nat) (v4 : Int), C_Fo_findFrom_39 a1 post thr J_2 J_39 M v2 c3 v4 → (∀ (M : fm_M) (v2 : Int), J_2 M v2 → fx_G p l e { frames := 4, cells := 1, slots := 6, locals := 91 } s m ([.ref (ad 142), .int (Int32.ofInt a1)] : List Value).toArray below meth c D ad cA n0 0 post thr 6 M [(0, .ref (ad 142)), (1, .int (Int32.ofInt a1)), (2, .int (Int32.ofInt v2))] 2 []) → (∀ (M : fm_M) (v2 : Int) (c3 : Nat) (v4 : Int), J_39 M v2 c3 v4 → fx_G p l e { frames := 4, cells := 1, slots := 6, locals := 91 } s m ([.ref (ad 142), .int (Int32.ofInt a1)] : List Value).toArray below meth c D ad cA n0 0 post thr 6 M [(0, .ref (ad 142)), (1, .int (Int32.ofInt a1)), (2, .int (Int32.ofInt v2)), (3, .ref (ad c3)), (4, .int (Int32.ofInt v4))] 39 []) → fx_G p l e { frames := 4, cells := 1, slots := 6, locals := 91 } s m ([.ref (ad 142), .int (Int32.ofInt a1)] : List Value).toArray below meth c D ad cA n0 0 post thr 6 M [(0, .ref (ad 142)), (1, .int (Int32.ofInt a1)), (2, .int (Int32.ofInt v2)), (3, .ref (ad c3)), (4, .int (Int32.ofInt v4))] 39 [] := by
    intro J_2 J_39 M v2 c3 v4 hw hJ_2 hJ_39 H locs ls w hl
    refine lv_iload F.1 F.2.1 d_Fo_findFrom_39 (lv_at hl 4 rfl) ?_
    refine lv_aload_n F.1 F.2.1 d_Fo_findFrom_41 rfl (lv_at hl 3 rfl) ?_
    obtain ⟨h99, hw⟩ := hw
    refine fm_gI F w cl_Cm c3 3 h99 (by decide) rfl k_120 d_Fo_findFrom_42 ?_
    obtain ⟨h100, hw⟩ := hw
    obtain ⟨h101, hw⟩ := hw
    refine fi_icmp_ge F d_Fo_findFrom_45 (tgt := 126) (by decide) h100 h101 (fun hc102 => ?_) (fun hc102 => ?_)
    · have hw := hw.1 hc102
      refine fi_iinc (k := 2) (v := (v2 + 1)) F d_Fo_findFrom_126 hl rfl rfl (by decide) rfl (fun ls hl => ?_)
      have hl : lv_has ls 6 [(2, .int (Int32.ofInt (v2 + 1))), (0, .ref (ad 142)), (1, .int (Int32.ofInt a1)), (3, .ref (ad c3)), (4, .int (Int32.ofInt v4))] := hl
      refine lv_goto F.1 F.2.1 d_Fo_findFrom_129 (tgt := 2) (by decide) ?_
      exact hJ_2 M (v2 + 1) hw H locs ls w (lv_sub hl [1, 2, 0] rfl)
    · have hw := hw.2 hc102
      refine lv_aload_n F.1 F.2.1 d_Fo_findFrom_48 rfl (lv_at hl 0 rfl) ?_
      refine fm_gR F w cl_Fo 142 0 T_142 (by decide) rfl k_198 d_Fo_findFrom_49 ?_
      refine lv_aload_n F.1 F.2.1 d_Fo_findFrom_52 rfl (lv_at hl 0 rfl) ?_
      refine fm_gO F w cl_Fo 142 6 280 T_142 (by decide) rfl rfl k_216 d_Fo_findFrom_53 ?_
      refine lv_iload_n F.1 F.2.1 d_Fo_findFrom_56 rfl (lv_at hl 1 rfl) ?_
      obtain ⟨h103, hw⟩ := hw
      refine fm_aR F w 280 0 (280 + 1 + a1.toNat) T_280 rfl (by decide) h103 rfl d_Fo_findFrom_57 ?_
      refine lv_aload_n F.1 F.2.1 d_Fo_findFrom_58 rfl (lv_at hl 3 rfl) ?_
      refine fm_gO F w cl_Cm c3 1 (c3 + 4) h99 (by decide) rfl rfl k_112 d_Fo_findFrom_59 ?_
      refine lv_iload F.1 F.2.1 d_Fo_findFrom_62 (lv_at hl 4 rfl) ?_
      obtain ⟨h104, hw⟩ := hw
      obtain ⟨h105, hw⟩ := hw
      refine fm_aR F w (c3 + 4) 3 ((c3 + 4) + 1 + 2 * v4.toNat) h104 rfl (by decide) h105 rfl d_Fo_findFrom_64 ?_
      refine lv_aload_n F.1 F.2.1 d_Fo_findFrom_65 rfl (lv_at hl 0 rfl) ?_
      refine fm_gO F w cl_Fo 142 10 308 T_142 (by decide) rfl rfl k_223 d_Fo_findFrom_66 ?_
      obtain ⟨h106, hw⟩ := hw
      refine fx_c w hno hlk (fx_rV (As := [.ref (ad (280 + 1 + a1.toNat)), .ref (ad ((c3 + 4) + 1 + 2 * v4.toNat)), .ref (ad 308)]) (rest := []) F w cl_Gm ((M 142 0).toNat) h106 (met_Gm_follow l hst9 D ad cA n0 M ((M 142 0).toNat) (280 + 1 + a1.toNat) ((c3 + 4) + 1 + 2 * v4.toNat) 308 _ thr hw) e_Gm_follow ki_Gm_follow ks_Gm_follow k_649 rfl hl.1 rfl (Nat.le_of_ble_eq_true rfl) ⟨⟨Nat.le_of_ble_eq_true rfl, Nat.le_of_ble_eq_true rfl⟩, Nat.le_of_ble_eq_true rfl, Nat.le_of_ble_eq_true rfl⟩ d_Fo_findFrom_69) (fun r108 M107 hw H locs w => ?_)
      refine lv_aload_n F.1 F.2.1 d_Fo_findFrom_72 rfl (lv_at hl 0 rfl) ?_
      refine lv_aload_n F.1 F.2.1 d_Fo_findFrom_73 rfl (lv_at hl 0 rfl) ?_
      refine fm_gO F w cl_Fo 142 10 308 T_142 (by decide) rfl rfl k_223 d_Fo_findFrom_74 ?_
      refine fx_c w hno hlk (fx_rV (As := [.ref (ad 308)]) (rest := []) F w cl_Fo 142 T_142 (met_Fo_numberOf l hst9 D ad cA n0 M107 308 _ thr hw) e_Fo_numberOf ki_Fo_numberOf ks_Fo_numberOf k_660 rfl hl.1 rfl (Nat.le_of_ble_eq_true rfl) ⟨⟨Nat.le_of_ble_eq_true rfl, Nat.le_of_ble_eq_true rfl⟩, Nat.le_of_ble_eq_true rfl, Nat.le_of_ble_eq_true rfl⟩ d_Fo_findFrom_77) (fun r110 M109 hw H locs w => ?_)
      show W p l e _ s m _ below meth c H locs 0 0 _ (F0 m 80 ls [.int (Int32.ofInt r110)])
      refine lv_iconst (v := Int32.ofInt (-1)) F.1 F.2.1 d_Fo_findFrom_80 (by decide) ?_
      obtain ⟨h111, hw⟩ := hw
      refine fi_icmp_ne F d_Fo_findFrom_81 (tgt := 88) (by decide) h111 (rgl (by decide)) (fun hc112 => ?_) (fun hc112 => ?_)
      · have hw := hw.1 hc112
        refine lv_iconst (v := Int32.ofInt 0) F.1 F.2.1 d_Fo_findFrom_88 (by decide) ?_
        exact blk_89 J_2 J_39 M109 v2 c3 v4 0 hw hJ_2 hJ_39 H locs ls w (lv_sub hl [0, 1, 2, 3, 4] rfl)
      · have hw := hw.2 hc112
        refine lv_iconst (v := Int32.ofInt 1) F.1 F.2.1 d_Fo_findFrom_84 (by decide) ?_
        refine lv_goto F.1 F.2.1 d_Fo_findFrom_85 (tgt := 89) (by decide) ?_
        exact blk_89 J_2 J_39 M109 v2 c3 v4 1 hw hJ_2 hJ_39 H locs ls w (lv_sub hl [0, 1, 2, 3, 4] rfl)
  have blk_39 : ∀ (J_2 : (fm_M → Int → Prop)) (M : fm_M) (v2 : Int) (c3 : Nat) (v4 : Int), B_Fo_findFrom_39 a1 post thr J_2 M v2 c3 v4 → (∀ (M : fm_M) (v2 : Int), J_2 M v2 → fx_G p l e { frames := 4, cells := 1, slots := 6, locals := 91 } s m ([.ref (ad 142), .int (Int32.ofInt a1)] : List Value).toArray below meth c D ad cA n0 0 post thr 6 M [(0, .ref (ad 142)), (1, .int (Int32.ofInt a1)), (2, .int (Int32.ofInt v2))] 2 []) → fx_G p l e { frames := 4, cells := 1, slots := 6, locals := 91 } s m ([.ref (ad 142), .int (Int32.ofInt a1)] : List Value).toArray below meth c D ad cA n0 0 post thr 6 M [(0, .ref (ad 142)), (1, .int (Int32.ofInt a1)), (2, .int (Int32.ofInt v2)), (3, .ref (ad c3)), (4, .int (Int32.ofInt v4))] 39 [] := by
    intro J_2 M v2 c3 v4 hw hJ_2
    obtain ⟨I, μ, hI, hB⟩ := hw
    have key : ∀ (q : Nat) (M : fm_M) (v2 : Int) (c3 : Nat) (v4 : Int), μ M v2 c3 v4 < q → I M v2 c3 v4 → fx_G p l e { frames := 4, cells := 1, slots := 6, locals := 91 } s m ([.ref (ad 142), .int (Int32.ofInt a1)] : List Value).toArray below meth c D ad cA n0 0 post thr 6 M [(0, .ref (ad 142)), (1, .int (Int32.ofInt a1)), (2, .int (Int32.ofInt v2)), (3, .ref (ad c3)), (4, .int (Int32.ofInt v4))] 39 [] := by
      intro q
      induction q with
      | zero => intro M v2 c3 v4 h _; exact absurd h (Nat.not_lt_zero _)
      | succ q ih =>
        intro M v2 c3 v4 hμ hI
        exact blc_39 J_2 (fun M' v2' c3' v4' => I M' v2' c3' v4' ∧ μ M' v2' c3' v4' < μ M v2 c3 v4) M v2 c3 v4 (hB M v2 c3 v4 hI) hJ_2 (fun M' v2' c3' v4' hh => ih M' v2' c3' v4' (Nat.lt_of_lt_of_le hh.2 (Nat.le_of_lt_succ hμ)) hh.1)
    exact key _ M v2 c3 v4 (Nat.lt_succ_self _) hI
  have blc_2 : ∀ (J_2 : (fm_M → Int → Prop)) (M : fm_M) (v2 : Int), C_Fo_findFrom_2 a1 post thr J_2 M v2 → (∀ (M : fm_M) (v2 : Int), J_2 M v2 → fx_G p l e { frames := 4, cells := 1, slots := 6, locals := 91 } s m ([.ref (ad 142), .int (Int32.ofInt a1)] : List Value).toArray below meth c D ad cA n0 0 post thr 6 M [(0, .ref (ad 142)), (1, .int (Int32.ofInt a1)), (2, .int (Int32.ofInt v2))] 2 []) → fx_G p l e { frames := 4, cells := 1, slots := 6, locals := 91 } s m ([.ref (ad 142), .int (Int32.ofInt a1)] : List Value).toArray below meth c D ad cA n0 0 post thr 6 M [(0, .ref (ad 142)), (1, .int (Int32.ofInt a1)), (2, .int (Int32.ofInt v2))] 2 [] := by
    intro J_2 M v2 hw hJ_2 H locs ls w hl
    refine lv_iload_n F.1 F.2.1 d_Fo_findFrom_2 rfl (lv_at hl 2 rfl) ?_
    refine lv_aload_n F.1 F.2.1 d_Fo_findFrom_3 rfl (lv_at hl 0 rfl) ?_
    refine fm_gR F w cl_Fo 142 0 T_142 (by decide) rfl k_198 d_Fo_findFrom_4 ?_
    obtain ⟨h113, hw⟩ := hw
    refine fm_gI F w cl_Gm ((M 142 0).toNat) 4 h113 (by decide) rfl k_154 d_Fo_findFrom_7 ?_
    obtain ⟨h114, hw⟩ := hw
    obtain ⟨h115, hw⟩ := hw
    refine fi_icmp_ge F d_Fo_findFrom_10 (tgt := 132) (by decide) h114 h115 (fun hc116 => ?_) (fun hc116 => ?_)
    · have hw := hw.1 hc116
      refine lv_iconst (v := Int32.ofInt 1) F.1 F.2.1 d_Fo_findFrom_132 (by decide) ?_
      exact fx_zret F w hr hlk (fx_nz (by decide)) hw d_Fo_findFrom_133
    · have hw := hw.2 hc116
      refine lv_aload_n F.1 F.2.1 d_Fo_findFrom_13 rfl (lv_at hl 0 rfl) ?_
      refine fm_gO F w cl_Fo 142 7 289 T_142 (by decide) rfl rfl k_218 d_Fo_findFrom_14 ?_
      refine lv_iload_n F.1 F.2.1 d_Fo_findFrom_17 rfl (lv_at hl 1 rfl) ?_
      obtain ⟨h117, hw⟩ := hw
      refine fm_aI F w 289 T_289 (by decide) h117 d_Fo_findFrom_18 ?_
      refine lv_iload_n F.1 F.2.1 d_Fo_findFrom_19 rfl (lv_at hl 2 rfl) ?_
      refine fx_c w hno hlk (fx_rSN (As := [.int (Int32.ofInt (M 289 a1.toNat)), .int (Int32.ofInt v2)]) (rest := []) F w (met_CG_hasBit l hst9 D ad cA n0 M (M 289 a1.toNat) v2 _ thr hw) e_CG_hasBit kt_CG_hasBit k_648 rfl hl.1 rfl (Nat.le_of_ble_eq_true rfl) ⟨⟨Nat.le_of_ble_eq_true rfl, Nat.le_of_ble_eq_true rfl⟩, Nat.le_of_ble_eq_true rfl, Nat.le_of_ble_eq_true rfl⟩ d_Fo_findFrom_20) (fun r119 M118 hw H locs w => ?_)
      show W p l e _ s m _ below meth c H locs 0 0 _ (F0 m 23 ls [.int (Int32.ofInt r119)])
      obtain ⟨h120, hw⟩ := hw
      refine fi_if_eq F d_Fo_findFrom_23 (tgt := 126) (by decide) h120 (fun hc121 => ?_) (fun hc121 => ?_)
      · have hw := hw.1 hc121
        refine fi_iinc (k := 2) (v := (v2 + 1)) F d_Fo_findFrom_126 hl rfl rfl (by decide) rfl (fun ls hl => ?_)
        have hl : lv_has ls 6 [(2, .int (Int32.ofInt (v2 + 1))), (0, .ref (ad 142)), (1, .int (Int32.ofInt a1))] := hl
        refine lv_goto F.1 F.2.1 d_Fo_findFrom_129 (tgt := 2) (by decide) ?_
        exact hJ_2 M118 (v2 + 1) hw H locs ls w (lv_sub hl [1, 2, 0] rfl)
      · have hw := hw.2 hc121
        refine lv_aload_n F.1 F.2.1 d_Fo_findFrom_26 rfl (lv_at hl 0 rfl) ?_
        refine fm_gR F w cl_Fo 142 0 T_142 (by decide) rfl k_198 d_Fo_findFrom_27 ?_
        obtain ⟨h122, hw⟩ := hw
        refine fm_gO F w cl_Gm ((M118 142 0).toNat) 2 (((M118 142 0).toNat) + 3) h122 (by decide) rfl rfl k_144 d_Fo_findFrom_30 ?_
        refine lv_iload_n F.1 F.2.1 d_Fo_findFrom_33 rfl (lv_at hl 2 rfl) ?_
        obtain ⟨h123, hw⟩ := hw
        obtain ⟨h124, hw⟩ := hw
        refine fm_aR F w (((M118 142 0).toNat) + 3) 2 ((((M118 142 0).toNat) + 3) + 4 + 13 * v2.toNat) h123 rfl (by decide) h124 rfl d_Fo_findFrom_34 ?_
        refine lv_astore_n F.1 F.2.1 d_Fo_findFrom_35 rfl hl (by decide) rfl (fun ls hl => ?_)
        have hl : lv_has ls 6 [(3, .ref (ad ((((M118 142 0).toNat) + 3) + 4 + 13 * v2.toNat))), (0, .ref (ad 142)), (1, .int (Int32.ofInt a1)), (2, .int (Int32.ofInt v2))] := hl
        refine lv_iconst (v := Int32.ofInt 0) F.1 F.2.1 d_Fo_findFrom_36 (by decide) ?_
        refine lv_istore F.1 F.2.1 d_Fo_findFrom_37 hl (by decide) rfl (fun ls hl => ?_)
        have hl : lv_has ls 6 [(4, .int (Int32.ofInt 0)), (3, .ref (ad ((((M118 142 0).toNat) + 3) + 4 + 13 * v2.toNat))), (0, .ref (ad 142)), (1, .int (Int32.ofInt a1)), (2, .int (Int32.ofInt v2))] := hl
        exact blk_39 J_2 M118 v2 ((((M118 142 0).toNat) + 3) + 4 + 13 * v2.toNat) 0 hw hJ_2 H locs ls w (lv_sub hl [2, 3, 4, 1, 0] rfl)
  have blk_2 : ∀ (M : fm_M) (v2 : Int), B_Fo_findFrom_2 a1 post thr M v2 → fx_G p l e { frames := 4, cells := 1, slots := 6, locals := 91 } s m ([.ref (ad 142), .int (Int32.ofInt a1)] : List Value).toArray below meth c D ad cA n0 0 post thr 6 M [(0, .ref (ad 142)), (1, .int (Int32.ofInt a1)), (2, .int (Int32.ofInt v2))] 2 [] := by
    intro M v2 hw
    obtain ⟨I, μ, hI, hB⟩ := hw
    have key : ∀ (q : Nat) (M : fm_M) (v2 : Int), μ M v2 < q → I M v2 → fx_G p l e { frames := 4, cells := 1, slots := 6, locals := 91 } s m ([.ref (ad 142), .int (Int32.ofInt a1)] : List Value).toArray below meth c D ad cA n0 0 post thr 6 M [(0, .ref (ad 142)), (1, .int (Int32.ofInt a1)), (2, .int (Int32.ofInt v2))] 2 [] := by
      intro q
      induction q with
      | zero => intro M v2 h _; exact absurd h (Nat.not_lt_zero _)
      | succ q ih =>
        intro M v2 hμ hI
        exact blc_2 (fun M' v2' => I M' v2' ∧ μ M' v2' < μ M v2) M v2 (hB M v2 hI) (fun M' v2' hh => ih M' v2' (Nat.lt_of_lt_of_le hh.2 (Nat.le_of_lt_succ hμ)) hh.1)
    exact key _ M v2 (Nat.lt_succ_self _) hI
  have hl : lv_has ls 6 [(0, .ref (ad 142)), (1, .int (Int32.ofInt a1))] := hl
  suffices h9 : fx_G p l e { frames := 4, cells := 1, slots := 6, locals := 91 } s m ([.ref (ad 142), .int (Int32.ofInt a1)] : List Value).toArray below meth c D ad cA n0 0 post thr 6 M [(0, .ref (ad 142)), (1, .int (Int32.ofInt a1))] 0 [] from h9 _ _ _ w hl
  intro H locs ls w hl
  refine lv_iconst (v := Int32.ofInt 0) F.1 F.2.1 d_Fo_findFrom_0 (by decide) ?_
  refine lv_istore_n F.1 F.2.1 d_Fo_findFrom_1 rfl hl (by decide) rfl (fun ls hl => ?_)
  have hl : lv_has ls 6 [(2, .int (Int32.ofInt 0)), (0, .ref (ad 142)), (1, .int (Int32.ofInt a1))] := hl
  exact blk_2 M 0 hw H locs ls w (lv_sub hl [1, 2, 0] rfl)
