set_option maxHeartbeats 4000000 in
set_option maxRecDepth 100000 in
theorem met_Eq_solveFor (l : Launch) (hst9 : l.stackTraces = false) (D : va_G) (ad : Nat → Nat) (cA : Nat → ClassId) (n0 : Nat) (M : fm_M) (a1 : Int) (post : Int → fm_M → Prop) (thr : String → fm_M → Prop) (hw : wp_Eq_solveFor M a1 post thr) : fx_Met l y_Eq_solveFor (Cond.code y_Eq_solveFor b_Eq_solveFor 6 none :: tb) { frames := 1, cells := 1, slots := 6, locals := 28 } [.ref (ad 312), .int (Int32.ofInt a1)] D ad cA n0 M 3 post thr := by
  refine fx_met (by decide) (Nat.le_of_ble_eq_true rfl) (fun p e s m below meth c ls F w hno hr hlk hl => ?_)
  have blc_63 : ∀ (J_63 : (fm_M → Int → Prop)) (M : fm_M) (v2 : Int), C_Eq_solveFor_63 a1 post thr J_63 M v2 → (∀ (M : fm_M) (v2 : Int), J_63 M v2 → fx_G p l e { frames := 1, cells := 1, slots := 6, locals := 28 } s m ([.ref (ad 312), .int (Int32.ofInt a1)] : List Value).toArray below meth c D ad cA n0 3 post thr 6 M [(0, .ref (ad 312)), (1, .int (Int32.ofInt a1)), (2, .int (Int32.ofInt v2))] 63 []) → fx_G p l e { frames := 1, cells := 1, slots := 6, locals := 28 } s m ([.ref (ad 312), .int (Int32.ofInt a1)] : List Value).toArray below meth c D ad cA n0 3 post thr 6 M [(0, .ref (ad 312)), (1, .int (Int32.ofInt a1)), (2, .int (Int32.ofInt v2))] 63 [] := by
    intro J_63 M v2 hw hJ_63 H locs ls w hl
    refine lv_iload_n F.1 F.2.1 d_Eq_solveFor_63 rfl (lv_at hl 2 rfl) ?_
    refine lv_iload_n F.1 F.2.1 d_Eq_solveFor_64 rfl (lv_at hl 1 rfl) ?_
    obtain ⟨h39, hw⟩ := hw
    obtain ⟨h40, hw⟩ := hw
    refine fi_icmp_ge F d_Eq_solveFor_65 (tgt := 88) (by decide) h39 h40 (fun hc41 => ?_) (fun hc41 => ?_)
    · have hw := hw.1 hc41
      exact fx_vret F w hr hlk hw d_Eq_solveFor_88
    · have hw := hw.2 hc41
      refine lv_aload_n F.1 F.2.1 d_Eq_solveFor_68 rfl (lv_at hl 0 rfl) ?_
      refine fm_gO F w cl_Eq 312 1 322 T_312 (by decide) rfl rfl k_273 d_Eq_solveFor_69 ?_
      refine lv_iload_n F.1 F.2.1 d_Eq_solveFor_72 rfl (lv_at hl 2 rfl) ?_
      refine lv_aload_n F.1 F.2.1 d_Eq_solveFor_73 rfl (lv_at hl 0 rfl) ?_
      refine fm_gO F w cl_Eq 312 0 313 T_312 (by decide) rfl rfl k_271 d_Eq_solveFor_74 ?_
      refine lv_iload_n F.1 F.2.1 d_Eq_solveFor_77 rfl (lv_at hl 2 rfl) ?_
      obtain ⟨h42, hw⟩ := hw
      refine fm_aR F w 313 1 (313 + 1 + v2.toNat) T_313 rfl (by decide) h42 rfl d_Eq_solveFor_78 ?_
      refine lv_iload_n F.1 F.2.1 d_Eq_solveFor_79 rfl (lv_at hl 1 rfl) ?_
      obtain ⟨h43, hw⟩ := hw
      obtain ⟨h44, hw⟩ := hw
      refine fm_aL F w (313 + 1 + v2.toNat) h43 (by decide) h44 d_Eq_solveFor_80 ?_
      refine fm_sL F w 322 T_322 (by decide) h42  d_Eq_solveFor_81 (fun M45 hM45 H locs w => ?_)
      have hw := hw M45 hM45
      refine fi_iinc (k := 2) (v := (v2 + 1)) F d_Eq_solveFor_82 hl rfl rfl (by decide) rfl (fun ls hl => ?_)
      have hl : lv_has ls 6 [(2, .int (Int32.ofInt (v2 + 1))), (0, .ref (ad 312)), (1, .int (Int32.ofInt a1))] := hl
      refine lv_goto F.1 F.2.1 d_Eq_solveFor_85 (tgt := 63) (by decide) ?_
      exact hJ_63 M45 (v2 + 1) hw H locs ls w (lv_sub hl [1, 2, 0] rfl)
  have blk_63 : ∀ (M : fm_M) (v2 : Int), B_Eq_solveFor_63 a1 post thr M v2 → fx_G p l e { frames := 1, cells := 1, slots := 6, locals := 28 } s m ([.ref (ad 312), .int (Int32.ofInt a1)] : List Value).toArray below meth c D ad cA n0 3 post thr 6 M [(0, .ref (ad 312)), (1, .int (Int32.ofInt a1)), (2, .int (Int32.ofInt v2))] 63 [] := by
    intro M v2 hw
    obtain ⟨I, μ, hI, hB⟩ := hw
    have key : ∀ (q : Nat) (M : fm_M) (v2 : Int), μ M v2 < q → I M v2 → fx_G p l e { frames := 1, cells := 1, slots := 6, locals := 28 } s m ([.ref (ad 312), .int (Int32.ofInt a1)] : List Value).toArray below meth c D ad cA n0 3 post thr 6 M [(0, .ref (ad 312)), (1, .int (Int32.ofInt a1)), (2, .int (Int32.ofInt v2))] 63 [] := by
      intro q
      induction q with
      | zero => intro M v2 h _; exact absurd h (Nat.not_lt_zero _)
      | succ q ih =>
        intro M v2 hμ hI
        exact blc_63 (fun M' v2' => I M' v2' ∧ μ M' v2' < μ M v2) M v2 (hB M v2 hI) (fun M' v2' hh => ih M' v2' (Nat.lt_of_lt_of_le hh.2 (Nat.le_of_lt_succ hμ)) hh.1)
    exact key _ M v2 (Nat.lt_succ_self _) hI
  have blc_24 : ∀ (J_7 : (fm_M → Int → Prop)) (J_24 : (fm_M → Int → Int → Int → Prop)) (M : fm_M) (v2 : Int) (v3 : Int) (v5 : Int), C_Eq_solveFor_24 a1 post thr J_7 J_24 M v2 v3 v5 → (∀ (M : fm_M) (v2 : Int), J_7 M v2 → fx_G p l e { frames := 1, cells := 1, slots := 6, locals := 28 } s m ([.ref (ad 312), .int (Int32.ofInt a1)] : List Value).toArray below meth c D ad cA n0 3 post thr 6 M [(0, .ref (ad 312)), (1, .int (Int32.ofInt a1)), (2, .int (Int32.ofInt v2))] 7 []) → (∀ (M : fm_M) (v2 : Int) (v3 : Int) (v5 : Int), J_24 M v2 v3 v5 → fx_G p l e { frames := 1, cells := 1, slots := 6, locals := 28 } s m ([.ref (ad 312), .int (Int32.ofInt a1)] : List Value).toArray below meth c D ad cA n0 3 post thr 6 M [(0, .ref (ad 312)), (1, .int (Int32.ofInt a1)), (2, .int (Int32.ofInt v2)), (3, .long (Int64.ofInt v3)), (5, .int (Int32.ofInt v5))] 24 []) → fx_G p l e { frames := 1, cells := 1, slots := 6, locals := 28 } s m ([.ref (ad 312), .int (Int32.ofInt a1)] : List Value).toArray below meth c D ad cA n0 3 post thr 6 M [(0, .ref (ad 312)), (1, .int (Int32.ofInt a1)), (2, .int (Int32.ofInt v2)), (3, .long (Int64.ofInt v3)), (5, .int (Int32.ofInt v5))] 24 [] := by
    intro J_7 J_24 M v2 v3 v5 hw hJ_7 hJ_24 H locs ls w hl
    refine lv_iload F.1 F.2.1 d_Eq_solveFor_24 (lv_at hl 4 rfl) ?_
    refine lv_iload_n F.1 F.2.1 d_Eq_solveFor_26 rfl (lv_at hl 1 rfl) ?_
    obtain ⟨h46, hw⟩ := hw
    obtain ⟨h47, hw⟩ := hw
    refine fi_icmp_ge F d_Eq_solveFor_27 (tgt := 50) (by decide) h46 h47 (fun hc48 => ?_) (fun hc48 => ?_)
    · have hw := hw.1 hc48
      refine lv_aload_n F.1 F.2.1 d_Eq_solveFor_50 rfl (lv_at hl 0 rfl) ?_
      refine lv_lload_n F.1 F.2.1 d_Eq_solveFor_51 rfl (lv_at hl 3 rfl) ?_
      refine fm_pL F w cl_Eq 312 2 T_312 (by decide) rfl k_275 rfl rfl d_Eq_solveFor_52 (fun M49 hM49 H locs w => ?_)
      have hw := hw M49 hM49
      refine fi_iinc (k := 2) (v := (v2 + 1)) F d_Eq_solveFor_55 hl rfl rfl (by decide) rfl (fun ls hl => ?_)
      have hl : lv_has ls 6 [(2, .int (Int32.ofInt (v2 + 1))), (0, .ref (ad 312)), (1, .int (Int32.ofInt a1)), (3, .long (Int64.ofInt v3)), (5, .int (Int32.ofInt v5))] := hl
      refine lv_goto F.1 F.2.1 d_Eq_solveFor_58 (tgt := 7) (by decide) ?_
      exact hJ_7 M49 (v2 + 1) hw H locs ls w (lv_sub hl [1, 2, 0] rfl)
    · have hw := hw.2 hc48
      refine lv_iload F.1 F.2.1 d_Eq_solveFor_30 (lv_at hl 4 rfl) ?_
      refine lv_iload_n F.1 F.2.1 d_Eq_solveFor_32 rfl (lv_at hl 2 rfl) ?_
      obtain ⟨h50, hw⟩ := hw
      refine fi_icmp_eq F d_Eq_solveFor_33 (tgt := 44) (by decide) h46 h50 (fun hc51 => ?_) (fun hc51 => ?_)
      · have hw := hw.1 hc51
        refine fi_iinc (k := 4) (v := (v5 + 1)) F d_Eq_solveFor_44 hl rfl rfl (by decide) rfl (fun ls hl => ?_)
        have hl : lv_has ls 6 [(5, .int (Int32.ofInt (v5 + 1))), (0, .ref (ad 312)), (1, .int (Int32.ofInt a1)), (2, .int (Int32.ofInt v2)), (3, .long (Int64.ofInt v3))] := hl
        refine lv_goto F.1 F.2.1 d_Eq_solveFor_47 (tgt := 24) (by decide) ?_
        exact hJ_24 M v2 v3 (v5 + 1) hw H locs ls w (lv_sub hl [1, 2, 3, 4, 0] rfl)
      · have hw := hw.2 hc51
        refine lv_aload_n F.1 F.2.1 d_Eq_solveFor_36 rfl (lv_at hl 0 rfl) ?_
        refine lv_iload F.1 F.2.1 d_Eq_solveFor_37 (lv_at hl 4 rfl) ?_
        refine lv_iload_n F.1 F.2.1 d_Eq_solveFor_39 rfl (lv_at hl 2 rfl) ?_
        refine lv_iload_n F.1 F.2.1 d_Eq_solveFor_40 rfl (lv_at hl 1 rfl) ?_
        refine fx_c w hno hlk (fx_rV (As := [.int (Int32.ofInt v5), .int (Int32.ofInt v2), .int (Int32.ofInt a1)]) (rest := []) F w cl_Eq 312 T_312 (met_Eq_eliminate l hst9 D ad cA n0 M v5 v2 a1 _ thr hw) e_Eq_eliminate ki_Eq_eliminate ks_Eq_eliminate k_726 rfl hl.1 rfl (Nat.le_of_ble_eq_true rfl) ⟨⟨Nat.le_of_ble_eq_true rfl, Nat.le_of_ble_eq_true rfl⟩, Nat.le_of_ble_eq_true rfl, Nat.le_of_ble_eq_true rfl⟩ d_Eq_solveFor_41) (fun r53 M52 hw H locs w => ?_)
        refine fi_iinc (k := 4) (v := (v5 + 1)) F d_Eq_solveFor_44 hl rfl rfl (by decide) rfl (fun ls hl => ?_)
        have hl : lv_has ls 6 [(5, .int (Int32.ofInt (v5 + 1))), (0, .ref (ad 312)), (1, .int (Int32.ofInt a1)), (2, .int (Int32.ofInt v2)), (3, .long (Int64.ofInt v3))] := hl
        refine lv_goto F.1 F.2.1 d_Eq_solveFor_47 (tgt := 24) (by decide) ?_
        exact hJ_24 M52 v2 v3 (v5 + 1) hw H locs ls w (lv_sub hl [1, 2, 3, 4, 0] rfl)
  have blk_24 : ∀ (J_7 : (fm_M → Int → Prop)) (M : fm_M) (v2 : Int) (v3 : Int) (v5 : Int), B_Eq_solveFor_24 a1 post thr J_7 M v2 v3 v5 → (∀ (M : fm_M) (v2 : Int), J_7 M v2 → fx_G p l e { frames := 1, cells := 1, slots := 6, locals := 28 } s m ([.ref (ad 312), .int (Int32.ofInt a1)] : List Value).toArray below meth c D ad cA n0 3 post thr 6 M [(0, .ref (ad 312)), (1, .int (Int32.ofInt a1)), (2, .int (Int32.ofInt v2))] 7 []) → fx_G p l e { frames := 1, cells := 1, slots := 6, locals := 28 } s m ([.ref (ad 312), .int (Int32.ofInt a1)] : List Value).toArray below meth c D ad cA n0 3 post thr 6 M [(0, .ref (ad 312)), (1, .int (Int32.ofInt a1)), (2, .int (Int32.ofInt v2)), (3, .long (Int64.ofInt v3)), (5, .int (Int32.ofInt v5))] 24 [] := by
    intro J_7 M v2 v3 v5 hw hJ_7
    obtain ⟨I, μ, hI, hB⟩ := hw
    have key : ∀ (q : Nat) (M : fm_M) (v2 : Int) (v3 : Int) (v5 : Int), μ M v2 v3 v5 < q → I M v2 v3 v5 → fx_G p l e { frames := 1, cells := 1, slots := 6, locals := 28 } s m ([.ref (ad 312), .int (Int32.ofInt a1)] : List Value).toArray below meth c D ad cA n0 3 post thr 6 M [(0, .ref (ad 312)), (1, .int (Int32.ofInt a1)), (2, .int (Int32.ofInt v2)), (3, .long (Int64.ofInt v3)), (5, .int (Int32.ofInt v5))] 24 [] := by
      intro q
      induction q with
      | zero => intro M v2 v3 v5 h _; exact absurd h (Nat.not_lt_zero _)
      | succ q ih =>
        intro M v2 v3 v5 hμ hI
        exact blc_24 J_7 (fun M' v2' v3' v5' => I M' v2' v3' v5' ∧ μ M' v2' v3' v5' < μ M v2 v3 v5) M v2 v3 v5 (hB M v2 v3 v5 hI) hJ_7 (fun M' v2' v3' v5' hh => ih M' v2' v3' v5' (Nat.lt_of_lt_of_le hh.2 (Nat.le_of_lt_succ hμ)) hh.1)
    exact key _ M v2 v3 v5 (Nat.lt_succ_self _) hI
  have blc_7 : ∀ (J_7 : (fm_M → Int → Prop)) (M : fm_M) (v2 : Int), C_Eq_solveFor_7 a1 post thr J_7 M v2 → (∀ (M : fm_M) (v2 : Int), J_7 M v2 → fx_G p l e { frames := 1, cells := 1, slots := 6, locals := 28 } s m ([.ref (ad 312), .int (Int32.ofInt a1)] : List Value).toArray below meth c D ad cA n0 3 post thr 6 M [(0, .ref (ad 312)), (1, .int (Int32.ofInt a1)), (2, .int (Int32.ofInt v2))] 7 []) → fx_G p l e { frames := 1, cells := 1, slots := 6, locals := 28 } s m ([.ref (ad 312), .int (Int32.ofInt a1)] : List Value).toArray below meth c D ad cA n0 3 post thr 6 M [(0, .ref (ad 312)), (1, .int (Int32.ofInt a1)), (2, .int (Int32.ofInt v2))] 7 [] := by
    intro J_7 M v2 hw hJ_7 H locs ls w hl
    refine lv_iload_n F.1 F.2.1 d_Eq_solveFor_7 rfl (lv_at hl 2 rfl) ?_
    refine lv_iload_n F.1 F.2.1 d_Eq_solveFor_8 rfl (lv_at hl 1 rfl) ?_
    obtain ⟨h54, hw⟩ := hw
    obtain ⟨h55, hw⟩ := hw
    refine fi_icmp_ge F d_Eq_solveFor_9 (tgt := 61) (by decide) h54 h55 (fun hc56 => ?_) (fun hc56 => ?_)
    · have hw := hw.1 hc56
      refine lv_iconst (v := Int32.ofInt 0) F.1 F.2.1 d_Eq_solveFor_61 (by decide) ?_
      refine lv_istore_n F.1 F.2.1 d_Eq_solveFor_62 rfl hl (by decide) rfl (fun ls hl => ?_)
      have hl : lv_has ls 6 [(2, .int (Int32.ofInt 0)), (0, .ref (ad 312)), (1, .int (Int32.ofInt a1))] := hl
      exact blk_63 M 0 hw H locs ls w (lv_sub hl [1, 2, 0] rfl)
    · have hw := hw.2 hc56
      refine lv_aload_n F.1 F.2.1 d_Eq_solveFor_12 rfl (lv_at hl 0 rfl) ?_
      refine fm_gO F w cl_Eq 312 0 313 T_312 (by decide) rfl rfl k_271 d_Eq_solveFor_13 ?_
      refine lv_iload_n F.1 F.2.1 d_Eq_solveFor_16 rfl (lv_at hl 2 rfl) ?_
      obtain ⟨h57, hw⟩ := hw
      refine fm_aR F w 313 1 (313 + 1 + v2.toNat) T_313 rfl (by decide) h57 rfl d_Eq_solveFor_17 ?_
      refine lv_iload_n F.1 F.2.1 d_Eq_solveFor_18 rfl (lv_at hl 2 rfl) ?_
      obtain ⟨h58, hw⟩ := hw
      obtain ⟨h59, hw⟩ := hw
      refine fm_aL F w (313 + 1 + v2.toNat) h58 (by decide) h59 d_Eq_solveFor_19 ?_
      refine lv_lstore_n F.1 F.2.1 d_Eq_solveFor_20 rfl hl (by decide) rfl (fun ls hl => ?_)
      have hl : lv_has ls 6 [(3, .long (Int64.ofInt (M (313 + 1 + v2.toNat) v2.toNat))), (0, .ref (ad 312)), (1, .int (Int32.ofInt a1)), (2, .int (Int32.ofInt v2))] := hl
      refine lv_iconst (v := Int32.ofInt 0) F.1 F.2.1 d_Eq_solveFor_21 (by decide) ?_
      refine lv_istore F.1 F.2.1 d_Eq_solveFor_22 hl (by decide) rfl (fun ls hl => ?_)
      have hl : lv_has ls 6 [(5, .int (Int32.ofInt 0)), (3, .long (Int64.ofInt (M (313 + 1 + v2.toNat) v2.toNat))), (0, .ref (ad 312)), (1, .int (Int32.ofInt a1)), (2, .int (Int32.ofInt v2))] := hl
      exact blk_24 J_7 M v2 (M (313 + 1 + v2.toNat) v2.toNat) 0 hw hJ_7 H locs ls w (lv_sub hl [2, 3, 4, 1, 0] rfl)
  have blk_7 : ∀ (M : fm_M) (v2 : Int), B_Eq_solveFor_7 a1 post thr M v2 → fx_G p l e { frames := 1, cells := 1, slots := 6, locals := 28 } s m ([.ref (ad 312), .int (Int32.ofInt a1)] : List Value).toArray below meth c D ad cA n0 3 post thr 6 M [(0, .ref (ad 312)), (1, .int (Int32.ofInt a1)), (2, .int (Int32.ofInt v2))] 7 [] := by
    intro M v2 hw
    obtain ⟨I, μ, hI, hB⟩ := hw
    have key : ∀ (q : Nat) (M : fm_M) (v2 : Int), μ M v2 < q → I M v2 → fx_G p l e { frames := 1, cells := 1, slots := 6, locals := 28 } s m ([.ref (ad 312), .int (Int32.ofInt a1)] : List Value).toArray below meth c D ad cA n0 3 post thr 6 M [(0, .ref (ad 312)), (1, .int (Int32.ofInt a1)), (2, .int (Int32.ofInt v2))] 7 [] := by
      intro q
      induction q with
      | zero => intro M v2 h _; exact absurd h (Nat.not_lt_zero _)
      | succ q ih =>
        intro M v2 hμ hI
        exact blc_7 (fun M' v2' => I M' v2' ∧ μ M' v2' < μ M v2) M v2 (hB M v2 hI) (fun M' v2' hh => ih M' v2' (Nat.lt_of_lt_of_le hh.2 (Nat.le_of_lt_succ hμ)) hh.1)
    exact key _ M v2 (Nat.lt_succ_self _) hI
  have hl : lv_has ls 6 [(0, .ref (ad 312)), (1, .int (Int32.ofInt a1))] := hl
  suffices h9 : fx_G p l e { frames := 1, cells := 1, slots := 6, locals := 28 } s m ([.ref (ad 312), .int (Int32.ofInt a1)] : List Value).toArray below meth c D ad cA n0 3 post thr 6 M [(0, .ref (ad 312)), (1, .int (Int32.ofInt a1))] 0 [] from h9 _ _ _ w hl
  intro H locs ls w hl
  refine lv_aload_n F.1 F.2.1 d_Eq_solveFor_0 rfl (lv_at hl 0 rfl) ?_
  refine lv_lconst (v := Int64.ofInt 1) F.1 F.2.1 d_Eq_solveFor_1 (by decide) ?_
  refine fm_pL F w cl_Eq 312 2 T_312 (by decide) rfl k_275 rfl rfl d_Eq_solveFor_2 (fun M60 hM60 H locs w => ?_)
  have hw := hw M60 hM60
  refine lv_iconst (v := Int32.ofInt 0) F.1 F.2.1 d_Eq_solveFor_5 (by decide) ?_
  refine lv_istore_n F.1 F.2.1 d_Eq_solveFor_6 rfl hl (by decide) rfl (fun ls hl => ?_)
  have hl : lv_has ls 6 [(2, .int (Int32.ofInt 0)), (0, .ref (ad 312)), (1, .int (Int32.ofInt a1))] := hl
  exact blk_7 M60 0 hw H locs ls w (lv_sub hl [1, 2, 0] rfl)
set_option maxHeartbeats 4000000 in
set_option maxRecDepth 100000 in
theorem met_Va_weigh (l : Launch) (hst9 : l.stackTraces = false) (D : va_G) (ad : Nat → Nat) (cA : Nat → ClassId) (n0 : Nat) (M : fm_M) (a1 : Int) (a2 : Int) (post : Int → fm_M → Prop) (thr : String → fm_M → Prop) (hw : wp_Va_weigh M a1 a2 post thr) : fx_Met l y_Va_weigh (Cond.code y_Va_weigh b_Va_weigh 7 (some .long) :: tb) { frames := 1, cells := 1, slots := 6, locals := 23 } [.ref (ad 141), .int (Int32.ofInt a1), .int (Int32.ofInt a2)] D ad cA n0 M 1 post thr := by
  refine fx_met (by decide) (Nat.le_of_ble_eq_true rfl) (fun p e s m below meth c ls F w hno hr hlk hl => ?_)
  have blc_19 : ∀ (J_19 : (fm_M → Nat → Int → Int → Prop)) (M : fm_M) (c3 : Nat) (v4 : Int) (v6 : Int), C_Va_weigh_19 a1 a2 post thr J_19 M c3 v4 v6 → (∀ (M : fm_M) (c3 : Nat) (v4 : Int) (v6 : Int), J_19 M c3 v4 v6 → fx_G p l e { frames := 1, cells := 1, slots := 6, locals := 23 } s m ([.ref (ad 141), .int (Int32.ofInt a1), .int (Int32.ofInt a2)] : List Value).toArray below meth c D ad cA n0 1 post thr 7 M [(0, .ref (ad 141)), (1, .int (Int32.ofInt a1)), (2, .int (Int32.ofInt a2)), (3, .ref (ad c3)), (4, .long (Int64.ofInt v4)), (6, .int (Int32.ofInt v6))] 19 []) → fx_G p l e { frames := 1, cells := 1, slots := 6, locals := 23 } s m ([.ref (ad 141), .int (Int32.ofInt a1), .int (Int32.ofInt a2)] : List Value).toArray below meth c D ad cA n0 1 post thr 7 M [(0, .ref (ad 141)), (1, .int (Int32.ofInt a1)), (2, .int (Int32.ofInt a2)), (3, .ref (ad c3)), (4, .long (Int64.ofInt v4)), (6, .int (Int32.ofInt v6))] 19 [] := by
    intro J_19 M c3 v4 v6 hw hJ_19 H locs ls w hl
    refine lv_iload F.1 F.2.1 d_Va_weigh_19 (lv_at hl 5 rfl) ?_
    refine lv_aload_n F.1 F.2.1 d_Va_weigh_21 rfl (lv_at hl 3 rfl) ?_
    obtain ⟨h24, hw⟩ := hw
    refine fm_gI F w cl_Cm c3 3 h24 (by decide) rfl k_119 d_Va_weigh_22 ?_
    obtain ⟨h25, hw⟩ := hw
    obtain ⟨h26, hw⟩ := hw
    refine fi_icmp_ge F d_Va_weigh_25 (tgt := 70) (by decide) h25 h26 (fun hc27 => ?_) (fun hc27 => ?_)
    · have hw := hw.1 hc27
      refine lv_lload F.1 F.2.1 d_Va_weigh_70 (lv_at hl 4 rfl) ?_
      refine fi_same_l (jwl_eq v4) ?_
      exact fx_lret F w hr hlk hw d_Va_weigh_72
    · have hw := hw.2 hc27
      refine lv_lload F.1 F.2.1 d_Va_weigh_28 (lv_at hl 4 rfl) ?_
      refine lv_aload_n F.1 F.2.1 d_Va_weigh_30 rfl (lv_at hl 3 rfl) ?_
      refine fm_gO F w cl_Cm c3 1 (c3 + 4) h24 (by decide) rfl rfl k_111 d_Va_weigh_31 ?_
      refine lv_iload F.1 F.2.1 d_Va_weigh_34 (lv_at hl 5 rfl) ?_
      obtain ⟨h28, hw⟩ := hw
      obtain ⟨h29, hw⟩ := hw
      refine fm_aR F w (c3 + 4) 3 ((c3 + 4) + 1 + 2 * v6.toNat) h28 rfl (by decide) h29 rfl d_Va_weigh_36 ?_
      obtain ⟨h30, hw⟩ := hw
      refine fm_gI F w cl_Br ((c3 + 4) + 1 + 2 * v6.toNat) 1 h30 (by decide) rfl k_99 d_Va_weigh_37 ?_
      obtain ⟨h31, hw⟩ := hw
      refine fi_wi2l F d_Va_weigh_40 h31 ?_
      refine lv_aload_n F.1 F.2.1 d_Va_weigh_41 rfl (lv_at hl 0 rfl) ?_
      refine fm_gO F w cl_Va 141 2 312 T_141 (by decide) rfl rfl k_288 d_Va_weigh_42 ?_
      refine fm_gO F w cl_Eq 312 1 322 T_312 (by decide) rfl rfl k_274 d_Va_weigh_45 ?_
      refine lv_aload_n F.1 F.2.1 d_Va_weigh_48 rfl (lv_at hl 0 rfl) ?_
      refine fm_gO F w cl_Va 141 0 142 T_141 (by decide) rfl rfl k_285 d_Va_weigh_49 ?_
      refine lv_iload_n F.1 F.2.1 d_Va_weigh_52 rfl (lv_at hl 1 rfl) ?_
      refine lv_iload_n F.1 F.2.1 d_Va_weigh_53 rfl (lv_at hl 2 rfl) ?_
      refine lv_iload F.1 F.2.1 d_Va_weigh_54 (lv_at hl 5 rfl) ?_
      refine fx_c w hno hlk (fx_rV (As := [.int (Int32.ofInt a1), .int (Int32.ofInt a2), .int (Int32.ofInt v6)]) (rest := [.ref (ad 322), .long (Int64.ofInt (M ((c3 + 4) + 1 + 2 * v6.toNat) 1)), .long (Int64.ofInt v4)]) F w cl_Fo 142 T_142 (met_Fo_next l hst9 D ad cA n0 M a1 a2 v6 _ thr hw) e_Fo_next ki_Fo_next ks_Fo_next k_721 rfl hl.1 rfl (Nat.le_of_ble_eq_true rfl) ⟨⟨Nat.le_of_ble_eq_true rfl, Nat.le_of_ble_eq_true rfl⟩, Nat.le_of_ble_eq_true rfl, Nat.le_of_ble_eq_true rfl⟩ d_Va_weigh_56) (fun r33 M32 hw H locs w => ?_)
      show W p l e _ s m _ below meth c H locs 0 0 _ (F0 m 59 ls [.int (Int32.ofInt r33), .ref (ad 322), .long (Int64.ofInt (M ((c3 + 4) + 1 + 2 * v6.toNat) 1)), .long (Int64.ofInt v4)])
      obtain ⟨h34, hw⟩ := hw
      refine fm_aL F w 322 T_322 (by decide) h34 d_Va_weigh_59 ?_
      refine fi_lmul F d_Va_weigh_60 ?_
      refine fi_ladd F d_Va_weigh_61 ?_
      refine lv_lstore F.1 F.2.1 d_Va_weigh_62 hl (by decide) rfl (fun ls hl => ?_)
      have hl : lv_has ls 7 [(4, .long (Int64.ofInt (v4 + ((M ((c3 + 4) + 1 + 2 * v6.toNat) 1) * (M32 322 r33.toNat))))), (0, .ref (ad 141)), (1, .int (Int32.ofInt a1)), (2, .int (Int32.ofInt a2)), (3, .ref (ad c3)), (6, .int (Int32.ofInt v6))] := hl
      refine fi_iinc (k := 5) (v := (v6 + 1)) F d_Va_weigh_64 hl rfl rfl (by decide) rfl (fun ls hl => ?_)
      have hl : lv_has ls 7 [(6, .int (Int32.ofInt (v6 + 1))), (4, .long (Int64.ofInt (v4 + ((M ((c3 + 4) + 1 + 2 * v6.toNat) 1) * (M32 322 r33.toNat))))), (0, .ref (ad 141)), (1, .int (Int32.ofInt a1)), (2, .int (Int32.ofInt a2)), (3, .ref (ad c3))] := hl
      refine lv_goto F.1 F.2.1 d_Va_weigh_67 (tgt := 19) (by decide) ?_
      exact hJ_19 M32 c3 (v4 + ((M ((c3 + 4) + 1 + 2 * v6.toNat) 1) * (M32 322 r33.toNat))) (v6 + 1) hw H locs ls w (lv_sub hl [2, 3, 4, 5, 1, 0] rfl)
  have blk_19 : ∀ (M : fm_M) (c3 : Nat) (v4 : Int) (v6 : Int), B_Va_weigh_19 a1 a2 post thr M c3 v4 v6 → fx_G p l e { frames := 1, cells := 1, slots := 6, locals := 23 } s m ([.ref (ad 141), .int (Int32.ofInt a1), .int (Int32.ofInt a2)] : List Value).toArray below meth c D ad cA n0 1 post thr 7 M [(0, .ref (ad 141)), (1, .int (Int32.ofInt a1)), (2, .int (Int32.ofInt a2)), (3, .ref (ad c3)), (4, .long (Int64.ofInt v4)), (6, .int (Int32.ofInt v6))] 19 [] := by
    intro M c3 v4 v6 hw
    obtain ⟨I, μ, hI, hB⟩ := hw
    have key : ∀ (q : Nat) (M : fm_M) (c3 : Nat) (v4 : Int) (v6 : Int), μ M c3 v4 v6 < q → I M c3 v4 v6 → fx_G p l e { frames := 1, cells := 1, slots := 6, locals := 23 } s m ([.ref (ad 141), .int (Int32.ofInt a1), .int (Int32.ofInt a2)] : List Value).toArray below meth c D ad cA n0 1 post thr 7 M [(0, .ref (ad 141)), (1, .int (Int32.ofInt a1)), (2, .int (Int32.ofInt a2)), (3, .ref (ad c3)), (4, .long (Int64.ofInt v4)), (6, .int (Int32.ofInt v6))] 19 [] := by
      intro q
      induction q with
      | zero => intro M c3 v4 v6 h _; exact absurd h (Nat.not_lt_zero _)
      | succ q ih =>
        intro M c3 v4 v6 hμ hI
        exact blc_19 (fun M' c3' v4' v6' => I M' c3' v4' v6' ∧ μ M' c3' v4' v6' < μ M c3 v4 v6) M c3 v4 v6 (hB M c3 v4 v6 hI) (fun M' c3' v4' v6' hh => ih M' c3' v4' v6' (Nat.lt_of_lt_of_le hh.2 (Nat.le_of_lt_succ hμ)) hh.1)
    exact key _ M c3 v4 v6 (Nat.lt_succ_self _) hI
  have hl : lv_has ls 7 [(0, .ref (ad 141)), (1, .int (Int32.ofInt a1)), (2, .int (Int32.ofInt a2))] := hl
  suffices h9 : fx_G p l e { frames := 1, cells := 1, slots := 6, locals := 23 } s m ([.ref (ad 141), .int (Int32.ofInt a1), .int (Int32.ofInt a2)] : List Value).toArray below meth c D ad cA n0 1 post thr 7 M [(0, .ref (ad 141)), (1, .int (Int32.ofInt a1)), (2, .int (Int32.ofInt a2))] 0 [] from h9 _ _ _ w hl
  intro H locs ls w hl
  refine lv_aload_n F.1 F.2.1 d_Va_weigh_0 rfl (lv_at hl 0 rfl) ?_
  refine fm_gO F w cl_Va 141 0 142 T_141 (by decide) rfl rfl k_285 d_Va_weigh_1 ?_
  refine fm_gR F w cl_Fo 142 0 T_142 (by decide) rfl k_200 d_Va_weigh_4 ?_
  obtain ⟨h35, hw⟩ := hw
  refine fm_gO F w cl_Gm ((M 142 0).toNat) 2 (((M 142 0).toNat) + 3) h35 (by decide) rfl rfl k_143 d_Va_weigh_7 ?_
  refine lv_iload_n F.1 F.2.1 d_Va_weigh_10 rfl (lv_at hl 2 rfl) ?_
  obtain ⟨h36, hw⟩ := hw
  obtain ⟨h37, hw⟩ := hw
  refine fm_aR F w (((M 142 0).toNat) + 3) 2 ((((M 142 0).toNat) + 3) + 4 + 13 * a2.toNat) h36 rfl (by decide) h37 rfl d_Va_weigh_11 ?_
  refine lv_astore_n F.1 F.2.1 d_Va_weigh_12 rfl hl (by decide) rfl (fun ls hl => ?_)
  have hl : lv_has ls 7 [(3, .ref (ad ((((M 142 0).toNat) + 3) + 4 + 13 * a2.toNat))), (0, .ref (ad 141)), (1, .int (Int32.ofInt a1)), (2, .int (Int32.ofInt a2))] := hl
  refine lv_lconst (v := Int64.ofInt 0) F.1 F.2.1 d_Va_weigh_13 (by decide) ?_
  refine lv_lstore F.1 F.2.1 d_Va_weigh_14 hl (by decide) rfl (fun ls hl => ?_)
  have hl : lv_has ls 7 [(4, .long (Int64.ofInt 0)), (3, .ref (ad ((((M 142 0).toNat) + 3) + 4 + 13 * a2.toNat))), (0, .ref (ad 141)), (1, .int (Int32.ofInt a1)), (2, .int (Int32.ofInt a2))] := hl
  refine lv_iconst (v := Int32.ofInt 0) F.1 F.2.1 d_Va_weigh_16 (by decide) ?_
  refine lv_istore F.1 F.2.1 d_Va_weigh_17 hl (by decide) rfl (fun ls hl => ?_)
  have hl : lv_has ls 7 [(6, .int (Int32.ofInt 0)), (4, .long (Int64.ofInt 0)), (3, .ref (ad ((((M 142 0).toNat) + 3) + 4 + 13 * a2.toNat))), (0, .ref (ad 141)), (1, .int (Int32.ofInt a1)), (2, .int (Int32.ofInt a2))] := hl
  exact blk_19 M ((((M 142 0).toNat) + 3) + 4 + 13 * a2.toNat) 0 0 hw H locs ls w (lv_sub hl [3, 4, 5, 2, 1, 0] rfl)
set_option maxHeartbeats 4000000 in
set_option maxRecDepth 100000 in
theorem met_Va_bestChoice (l : Launch) (hst9 : l.stackTraces = false) (D : va_G) (ad : Nat → Nat) (cA : Nat → ClassId) (n0 : Nat) (M : fm_M) (a1 : Int) (a2 : Int) (post : Int → fm_M → Prop) (thr : String → fm_M → Prop) (hw : wp_Va_bestChoice M a1 a2 post thr) : fx_Met l y_Va_bestChoice (Cond.code y_Va_bestChoice b_Va_bestChoice 11 (some .int) :: tb) { frames := 2, cells := 1, slots := 6, locals := 49 } [.ref (ad 141), .int (Int32.ofInt a1), .int (Int32.ofInt a2)] D ad cA n0 M 0 post thr := by
  refine fx_met (by decide) (Nat.le_of_ble_eq_true rfl) (fun p e s m below meth c ls F w hno hr hlk hl => ?_)
  have blk_121 : ∀ (J_18 : (fm_M → Int → Int → Int → Prop)) (M : fm_M) (v6 : Int) (v7 : Int), B_Va_bestChoice_121 a1 a2 post thr J_18 M v6 v7 → (∀ (M : fm_M) (v3 : Int) (v4 : Int) (v6 : Int), J_18 M v3 v4 v6 → fx_G p l e { frames := 2, cells := 1, slots := 6, locals := 49 } s m ([.ref (ad 141), .int (Int32.ofInt a1), .int (Int32.ofInt a2)] : List Value).toArray below meth c D ad cA n0 0 post thr 11 M [(0, .ref (ad 141)), (1, .int (Int32.ofInt a1)), (2, .int (Int32.ofInt a2)), (3, .int (Int32.ofInt v3)), (4, .long (Int64.ofInt v4)), (6, .int (Int32.ofInt v6))] 18 []) → fx_G p l e { frames := 2, cells := 1, slots := 6, locals := 49 } s m ([.ref (ad 141), .int (Int32.ofInt a1), .int (Int32.ofInt a2)] : List Value).toArray below meth c D ad cA n0 0 post thr 11 M [(0, .ref (ad 141)), (1, .int (Int32.ofInt a1)), (2, .int (Int32.ofInt a2)), (6, .int (Int32.ofInt v6)), (7, .long (Int64.ofInt v7))] 121 [] := by
    intro J_18 M v6 v7 hw hJ_18 H locs ls w hl
    refine lv_iload F.1 F.2.1 d_Va_bestChoice_121 (lv_at hl 3 rfl) ?_
    refine lv_istore_n F.1 F.2.1 d_Va_bestChoice_123 rfl hl (by decide) rfl (fun ls hl => ?_)
    have hl : lv_has ls 11 [(3, .int (Int32.ofInt v6)), (0, .ref (ad 141)), (1, .int (Int32.ofInt a1)), (2, .int (Int32.ofInt a2)), (6, .int (Int32.ofInt v6)), (7, .long (Int64.ofInt v7))] := hl
    refine lv_lload F.1 F.2.1 d_Va_bestChoice_124 (lv_at hl 5 rfl) ?_
    refine lv_lstore F.1 F.2.1 d_Va_bestChoice_126 hl (by decide) rfl (fun ls hl => ?_)
    have hl : lv_has ls 11 [(4, .long (Int64.ofInt v7)), (3, .int (Int32.ofInt v6)), (0, .ref (ad 141)), (1, .int (Int32.ofInt a1)), (2, .int (Int32.ofInt a2)), (6, .int (Int32.ofInt v6)), (7, .long (Int64.ofInt v7))] := hl
    refine fi_iinc (k := 5) (v := (v6 + 1)) F d_Va_bestChoice_128 hl rfl rfl (by decide) rfl (fun ls hl => ?_)
    have hl : lv_has ls 11 [(6, .int (Int32.ofInt (v6 + 1))), (4, .long (Int64.ofInt v7)), (3, .int (Int32.ofInt v6)), (0, .ref (ad 141)), (1, .int (Int32.ofInt a1)), (2, .int (Int32.ofInt a2)), (7, .long (Int64.ofInt v7))] := hl
    refine lv_goto F.1 F.2.1 d_Va_bestChoice_131 (tgt := 18) (by decide) ?_
    exact hJ_18 M v6 v7 (v6 + 1) hw H locs ls w (lv_sub hl [3, 4, 5, 2, 1, 0] rfl)
  have blc_18 : ∀ (J_18 : (fm_M → Int → Int → Int → Prop)) (M : fm_M) (v3 : Int) (v4 : Int) (v6 : Int), C_Va_bestChoice_18 a1 a2 post thr J_18 M v3 v4 v6 → (∀ (M : fm_M) (v3 : Int) (v4 : Int) (v6 : Int), J_18 M v3 v4 v6 → fx_G p l e { frames := 2, cells := 1, slots := 6, locals := 49 } s m ([.ref (ad 141), .int (Int32.ofInt a1), .int (Int32.ofInt a2)] : List Value).toArray below meth c D ad cA n0 0 post thr 11 M [(0, .ref (ad 141)), (1, .int (Int32.ofInt a1)), (2, .int (Int32.ofInt a2)), (3, .int (Int32.ofInt v3)), (4, .long (Int64.ofInt v4)), (6, .int (Int32.ofInt v6))] 18 []) → fx_G p l e { frames := 2, cells := 1, slots := 6, locals := 49 } s m ([.ref (ad 141), .int (Int32.ofInt a1), .int (Int32.ofInt a2)] : List Value).toArray below meth c D ad cA n0 0 post thr 11 M [(0, .ref (ad 141)), (1, .int (Int32.ofInt a1)), (2, .int (Int32.ofInt a2)), (3, .int (Int32.ofInt v3)), (4, .long (Int64.ofInt v4)), (6, .int (Int32.ofInt v6))] 18 [] := by
    intro J_18 M v3 v4 v6 hw hJ_18 H locs ls w hl
    refine lv_iload F.1 F.2.1 d_Va_bestChoice_18 (lv_at hl 5 rfl) ?_
    refine lv_aload_n F.1 F.2.1 d_Va_bestChoice_20 rfl (lv_at hl 0 rfl) ?_
    refine fm_gO F w cl_Va 141 0 142 T_141 (by decide) rfl rfl k_285 d_Va_bestChoice_21 ?_
    refine fm_gR F w cl_Fo 142 0 T_142 (by decide) rfl k_200 d_Va_bestChoice_24 ?_
    obtain ⟨h50, hw⟩ := hw
    refine fm_gI F w cl_Gm ((M 142 0).toNat) 4 h50 (by decide) rfl k_155 d_Va_bestChoice_27 ?_
    obtain ⟨h51, hw⟩ := hw
    obtain ⟨h52, hw⟩ := hw
    refine fi_icmp_ge F d_Va_bestChoice_30 (tgt := 134) (by decide) h51 h52 (fun hc53 => ?_) (fun hc53 => ?_)
    · have hw := hw.1 hc53
      refine lv_iload_n F.1 F.2.1 d_Va_bestChoice_134 rfl (lv_at hl 3 rfl) ?_
      exact fx_iret F w hr hlk hw d_Va_bestChoice_135
    · have hw := hw.2 hc53
      refine lv_aload_n F.1 F.2.1 d_Va_bestChoice_33 rfl (lv_at hl 0 rfl) ?_
      refine fm_gO F w cl_Va 141 0 142 T_141 (by decide) rfl rfl k_285 d_Va_bestChoice_34 ?_
      refine lv_iload_n F.1 F.2.1 d_Va_bestChoice_37 rfl (lv_at hl 1 rfl) ?_
      refine fx_c w hno hlk (fx_rV (As := [.int (Int32.ofInt a1)]) (rest := []) F w cl_Fo 142 T_142 (met_Fo_choicesOf l hst9 D ad cA n0 M a1 _ thr hw) e_Fo_choicesOf ki_Fo_choicesOf ks_Fo_choicesOf k_680 rfl hl.1 rfl (Nat.le_of_ble_eq_true rfl) ⟨⟨Nat.le_of_ble_eq_true rfl, Nat.le_of_ble_eq_true rfl⟩, Nat.le_of_ble_eq_true rfl, Nat.le_of_ble_eq_true rfl⟩ d_Va_bestChoice_38) (fun r55 M54 hw H locs w => ?_)
      show W p l e _ s m _ below meth c H locs 0 0 _ (F0 m 41 ls [.int (Int32.ofInt r55)])
      refine lv_iload F.1 F.2.1 d_Va_bestChoice_41 (lv_at hl 5 rfl) ?_
      refine fx_c w hno hlk (fx_rSN (As := [.int (Int32.ofInt r55), .int (Int32.ofInt v6)]) (rest := []) F w (met_CG_hasBit l hst9 D ad cA n0 M54 r55 v6 _ thr hw) e_CG_hasBit kt_CG_hasBit k_716 rfl hl.1 rfl (Nat.le_of_ble_eq_true rfl) ⟨⟨Nat.le_of_ble_eq_true rfl, Nat.le_of_ble_eq_true rfl⟩, Nat.le_of_ble_eq_true rfl, Nat.le_of_ble_eq_true rfl⟩ d_Va_bestChoice_43) (fun r57 M56 hw H locs w => ?_)
      show W p l e _ s m _ below meth c H locs 0 0 _ (F0 m 46 ls [.int (Int32.ofInt r57)])
      obtain ⟨h58, hw⟩ := hw
      refine fi_if_eq F d_Va_bestChoice_46 (tgt := 128) (by decide) h58 (fun hc59 => ?_) (fun hc59 => ?_)
      · have hw := hw.1 hc59
        refine fi_iinc (k := 5) (v := (v6 + 1)) F d_Va_bestChoice_128 hl rfl rfl (by decide) rfl (fun ls hl => ?_)
        have hl : lv_has ls 11 [(6, .int (Int32.ofInt (v6 + 1))), (0, .ref (ad 141)), (1, .int (Int32.ofInt a1)), (2, .int (Int32.ofInt a2)), (3, .int (Int32.ofInt v3)), (4, .long (Int64.ofInt v4))] := hl
        refine lv_goto F.1 F.2.1 d_Va_bestChoice_131 (tgt := 18) (by decide) ?_
        exact hJ_18 M56 v3 v4 (v6 + 1) hw H locs ls w (lv_sub hl [1, 2, 3, 4, 5, 0] rfl)
      · have hw := hw.2 hc59
        refine lv_aload_n F.1 F.2.1 d_Va_bestChoice_49 rfl (lv_at hl 0 rfl) ?_
        refine lv_iload_n F.1 F.2.1 d_Va_bestChoice_50 rfl (lv_at hl 1 rfl) ?_
        refine lv_iload F.1 F.2.1 d_Va_bestChoice_51 (lv_at hl 5 rfl) ?_
        refine fx_c w hno hlk (fx_rV (As := [.int (Int32.ofInt a1), .int (Int32.ofInt v6)]) (rest := []) F w cl_Va 141 T_141 (met_Va_weigh l hst9 D ad cA n0 M56 a1 v6 _ thr hw) e_Va_weigh ki_Va_weigh ks_Va_weigh k_738 rfl hl.1 rfl (Nat.le_of_ble_eq_true rfl) ⟨⟨Nat.le_of_ble_eq_true rfl, Nat.le_of_ble_eq_true rfl⟩, Nat.le_of_ble_eq_true rfl, Nat.le_of_ble_eq_true rfl⟩ d_Va_bestChoice_53) (fun r61 M60 hw H locs w => ?_)
        show W p l e _ s m _ below meth c H locs 0 0 _ (F0 m 56 ls [.long (Int64.ofInt r61)])
        refine lv_lstore F.1 F.2.1 d_Va_bestChoice_56 hl (by decide) rfl (fun ls hl => ?_)
        have hl : lv_has ls 11 [(7, .long (Int64.ofInt r61)), (0, .ref (ad 141)), (1, .int (Int32.ofInt a1)), (2, .int (Int32.ofInt a2)), (3, .int (Int32.ofInt v3)), (4, .long (Int64.ofInt v4)), (6, .int (Int32.ofInt v6))] := hl
        refine lv_lload F.1 F.2.1 d_Va_bestChoice_58 (lv_at hl 0 rfl) ?_
        refine lv_aload_n F.1 F.2.1 d_Va_bestChoice_60 rfl (lv_at hl 1 rfl) ?_
        refine fm_gO F w cl_Va 141 0 142 T_141 (by decide) rfl rfl k_285 d_Va_bestChoice_61 ?_
        refine fm_gR F w cl_Fo 142 0 T_142 (by decide) rfl k_200 d_Va_bestChoice_64 ?_
        obtain ⟨h62, hw⟩ := hw
        refine fm_gO F w cl_Gm ((M60 142 0).toNat) 2 (((M60 142 0).toNat) + 3) h62 (by decide) rfl rfl k_143 d_Va_bestChoice_67 ?_
        refine lv_iload_n F.1 F.2.1 d_Va_bestChoice_70 rfl (lv_at hl 4 rfl) ?_
        obtain ⟨h63, hw⟩ := hw
        obtain ⟨h64, hw⟩ := hw
        refine fm_aR F w (((M60 142 0).toNat) + 3) 2 ((((M60 142 0).toNat) + 3) + 4 + 13 * v3.toNat) h63 rfl (by decide) h64 rfl d_Va_bestChoice_71 ?_
        obtain ⟨h65, hw⟩ := hw
        refine fm_gI F w cl_Cm ((((M60 142 0).toNat) + 3) + 4 + 13 * v3.toNat) 4 h65 (by decide) rfl k_123 d_Va_bestChoice_72 ?_
        obtain ⟨h66, hw⟩ := hw
        refine fi_wi2l F d_Va_bestChoice_75 h66 ?_
        refine fi_lmul F d_Va_bestChoice_76 ?_
        refine lv_lload F.1 F.2.1 d_Va_bestChoice_77 (lv_at hl 5 rfl) ?_
        refine lv_aload_n F.1 F.2.1 d_Va_bestChoice_79 rfl (lv_at hl 1 rfl) ?_
        refine fm_gO F w cl_Va 141 0 142 T_141 (by decide) rfl rfl k_285 d_Va_bestChoice_80 ?_
        refine fm_gR F w cl_Fo 142 0 T_142 (by decide) rfl k_200 d_Va_bestChoice_83 ?_
        refine fm_gO F w cl_Gm ((M60 142 0).toNat) 2 (((M60 142 0).toNat) + 3) h62 (by decide) rfl rfl k_143 d_Va_bestChoice_86 ?_
        refine lv_iload F.1 F.2.1 d_Va_bestChoice_89 (lv_at hl 6 rfl) ?_
        obtain ⟨h67, hw⟩ := hw
        refine fm_aR F w (((M60 142 0).toNat) + 3) 2 ((((M60 142 0).toNat) + 3) + 4 + 13 * v6.toNat) h63 rfl (by decide) h67 rfl d_Va_bestChoice_91 ?_
        obtain ⟨h68, hw⟩ := hw
        refine fm_gI F w cl_Cm ((((M60 142 0).toNat) + 3) + 4 + 13 * v6.toNat) 4 h68 (by decide) rfl k_123 d_Va_bestChoice_92 ?_
        obtain ⟨h69, hw⟩ := hw
        refine fi_wi2l F d_Va_bestChoice_95 h69 ?_
        refine fi_lmul F d_Va_bestChoice_96 ?_
        refine fi_lsub F d_Va_bestChoice_97 ?_
        refine lv_lstore F.1 F.2.1 d_Va_bestChoice_98 hl (by decide) rfl (fun ls hl => ?_)
        have hl : lv_has ls 11 [(9, .long (Int64.ofInt ((r61 * (M60 ((((M60 142 0).toNat) + 3) + 4 + 13 * v3.toNat) 4)) - (v4 * (M60 ((((M60 142 0).toNat) + 3) + 4 + 13 * v6.toNat) 4))))), (7, .long (Int64.ofInt r61)), (0, .ref (ad 141)), (1, .int (Int32.ofInt a1)), (2, .int (Int32.ofInt a2)), (3, .int (Int32.ofInt v3)), (4, .long (Int64.ofInt v4)), (6, .int (Int32.ofInt v6))] := hl
        refine lv_iload_n F.1 F.2.1 d_Va_bestChoice_100 rfl (lv_at hl 4 rfl) ?_
        obtain ⟨h70, hw⟩ := hw
        refine fi_if_eq F d_Va_bestChoice_101 (tgt := 114) (by decide) h70 (fun hc71 => ?_) (fun hc71 => ?_)
        · have hw := hw.1 hc71
          refine lv_lload F.1 F.2.1 d_Va_bestChoice_114 (lv_at hl 0 rfl) ?_
          refine lv_lconst (v := Int64.ofInt 0) F.1 F.2.1 d_Va_bestChoice_116 (by decide) ?_
          refine fi_lcmpW F d_Va_bestChoice_117 (jwl_eq ((r61 * (M60 ((((M60 142 0).toNat) + 3) + 4 + 13 * v3.toNat) 4)) - (v4 * (M60 ((((M60 142 0).toNat) + 3) + 4 + 13 * v6.toNat) 4)))) rfl (jwl_rg ((r61 * (M60 ((((M60 142 0).toNat) + 3) + 4 + 13 * v3.toNat) 4)) - (v4 * (M60 ((((M60 142 0).toNat) + 3) + 4 + 13 * v6.toNat) 4)))) (rll (by decide)) ?_
          refine fi_if_ge F d_Va_bestChoice_118 (tgt := 128) (by decide) rg_jcmp (fun hc72 => ?_) (fun hc72 => ?_)
          · have hw := hw.1 hc72
            refine fi_iinc (k := 7) (v := (v6 + 1)) F d_Va_bestChoice_128 hl rfl rfl (by decide) rfl (fun ls hl => ?_)
            have hl : lv_has ls 11 [(6, .int (Int32.ofInt (v6 + 1))), (9, .long (Int64.ofInt ((r61 * (M60 ((((M60 142 0).toNat) + 3) + 4 + 13 * v3.toNat) 4)) - (v4 * (M60 ((((M60 142 0).toNat) + 3) + 4 + 13 * v6.toNat) 4))))), (7, .long (Int64.ofInt r61)), (0, .ref (ad 141)), (1, .int (Int32.ofInt a1)), (2, .int (Int32.ofInt a2)), (3, .int (Int32.ofInt v3)), (4, .long (Int64.ofInt v4))] := hl
            refine lv_goto F.1 F.2.1 d_Va_bestChoice_131 (tgt := 18) (by decide) ?_
            exact hJ_18 M60 v3 v4 (v6 + 1) hw H locs ls w (lv_sub hl [3, 4, 5, 6, 7, 0] rfl)
          · have hw := hw.2 hc72
            exact blk_121 J_18 M60 v6 r61 hw hJ_18 H locs ls w (lv_sub hl [2, 3, 4, 7, 1] rfl)
        · have hw := hw.2 hc71
          refine lv_lload F.1 F.2.1 d_Va_bestChoice_104 (lv_at hl 0 rfl) ?_
          refine lv_lconst (v := Int64.ofInt 0) F.1 F.2.1 d_Va_bestChoice_106 (by decide) ?_
          refine fi_lcmpW F d_Va_bestChoice_107 (jwl_eq ((r61 * (M60 ((((M60 142 0).toNat) + 3) + 4 + 13 * v3.toNat) 4)) - (v4 * (M60 ((((M60 142 0).toNat) + 3) + 4 + 13 * v6.toNat) 4)))) rfl (jwl_rg ((r61 * (M60 ((((M60 142 0).toNat) + 3) + 4 + 13 * v3.toNat) 4)) - (v4 * (M60 ((((M60 142 0).toNat) + 3) + 4 + 13 * v6.toNat) 4)))) (rll (by decide)) ?_
          refine fi_if_le F d_Va_bestChoice_108 (tgt := 128) (by decide) rg_jcmp (fun hc73 => ?_) (fun hc73 => ?_)
          · have hw := hw.1 hc73
            refine fi_iinc (k := 7) (v := (v6 + 1)) F d_Va_bestChoice_128 hl rfl rfl (by decide) rfl (fun ls hl => ?_)
            have hl : lv_has ls 11 [(6, .int (Int32.ofInt (v6 + 1))), (9, .long (Int64.ofInt ((r61 * (M60 ((((M60 142 0).toNat) + 3) + 4 + 13 * v3.toNat) 4)) - (v4 * (M60 ((((M60 142 0).toNat) + 3) + 4 + 13 * v6.toNat) 4))))), (7, .long (Int64.ofInt r61)), (0, .ref (ad 141)), (1, .int (Int32.ofInt a1)), (2, .int (Int32.ofInt a2)), (3, .int (Int32.ofInt v3)), (4, .long (Int64.ofInt v4))] := hl
            refine lv_goto F.1 F.2.1 d_Va_bestChoice_131 (tgt := 18) (by decide) ?_
            exact hJ_18 M60 v3 v4 (v6 + 1) hw H locs ls w (lv_sub hl [3, 4, 5, 6, 7, 0] rfl)
          · have hw := hw.2 hc73
            refine lv_goto F.1 F.2.1 d_Va_bestChoice_111 (tgt := 121) (by decide) ?_
            exact blk_121 J_18 M60 v6 r61 hw hJ_18 H locs ls w (lv_sub hl [2, 3, 4, 7, 1] rfl)
  have blk_18 : ∀ (M : fm_M) (v3 : Int) (v4 : Int) (v6 : Int), B_Va_bestChoice_18 a1 a2 post thr M v3 v4 v6 → fx_G p l e { frames := 2, cells := 1, slots := 6, locals := 49 } s m ([.ref (ad 141), .int (Int32.ofInt a1), .int (Int32.ofInt a2)] : List Value).toArray below meth c D ad cA n0 0 post thr 11 M [(0, .ref (ad 141)), (1, .int (Int32.ofInt a1)), (2, .int (Int32.ofInt a2)), (3, .int (Int32.ofInt v3)), (4, .long (Int64.ofInt v4)), (6, .int (Int32.ofInt v6))] 18 [] := by
    intro M v3 v4 v6 hw
    obtain ⟨I, μ, hI, hB⟩ := hw
    have key : ∀ (q : Nat) (M : fm_M) (v3 : Int) (v4 : Int) (v6 : Int), μ M v3 v4 v6 < q → I M v3 v4 v6 → fx_G p l e { frames := 2, cells := 1, slots := 6, locals := 49 } s m ([.ref (ad 141), .int (Int32.ofInt a1), .int (Int32.ofInt a2)] : List Value).toArray below meth c D ad cA n0 0 post thr 11 M [(0, .ref (ad 141)), (1, .int (Int32.ofInt a1)), (2, .int (Int32.ofInt a2)), (3, .int (Int32.ofInt v3)), (4, .long (Int64.ofInt v4)), (6, .int (Int32.ofInt v6))] 18 [] := by
      intro q
      induction q with
      | zero => intro M v3 v4 v6 h _; exact absurd h (Nat.not_lt_zero _)
      | succ q ih =>
        intro M v3 v4 v6 hμ hI
        exact blc_18 (fun M' v3' v4' v6' => I M' v3' v4' v6' ∧ μ M' v3' v4' v6' < μ M v3 v4 v6) M v3 v4 v6 (hB M v3 v4 v6 hI) (fun M' v3' v4' v6' hh => ih M' v3' v4' v6' (Nat.lt_of_lt_of_le hh.2 (Nat.le_of_lt_succ hμ)) hh.1)
    exact key _ M v3 v4 v6 (Nat.lt_succ_self _) hI
  have hl : lv_has ls 11 [(0, .ref (ad 141)), (1, .int (Int32.ofInt a1)), (2, .int (Int32.ofInt a2))] := hl
  suffices h9 : fx_G p l e { frames := 2, cells := 1, slots := 6, locals := 49 } s m ([.ref (ad 141), .int (Int32.ofInt a1), .int (Int32.ofInt a2)] : List Value).toArray below meth c D ad cA n0 0 post thr 11 M [(0, .ref (ad 141)), (1, .int (Int32.ofInt a1)), (2, .int (Int32.ofInt a2))] 0 [] from h9 _ _ _ w hl
  intro H locs ls w hl
  refine lv_aload_n F.1 F.2.1 d_Va_bestChoice_0 rfl (lv_at hl 0 rfl) ?_
  refine fm_gO F w cl_Va 141 3 323 T_141 (by decide) rfl rfl k_289 d_Va_bestChoice_1 ?_
  refine lv_iload_n F.1 F.2.1 d_Va_bestChoice_4 rfl (lv_at hl 1 rfl) ?_
  obtain ⟨h74, hw⟩ := hw
  refine fm_aI F w 323 T_323 (by decide) h74 d_Va_bestChoice_5 ?_
  refine lv_istore_n F.1 F.2.1 d_Va_bestChoice_6 rfl hl (by decide) rfl (fun ls hl => ?_)
  have hl : lv_has ls 11 [(3, .int (Int32.ofInt (M 323 a1.toNat))), (0, .ref (ad 141)), (1, .int (Int32.ofInt a1)), (2, .int (Int32.ofInt a2))] := hl
  refine lv_aload_n F.1 F.2.1 d_Va_bestChoice_7 rfl (lv_at hl 1 rfl) ?_
  refine lv_iload_n F.1 F.2.1 d_Va_bestChoice_8 rfl (lv_at hl 2 rfl) ?_
  refine lv_iload_n F.1 F.2.1 d_Va_bestChoice_9 rfl (lv_at hl 0 rfl) ?_
  refine fx_c w hno hlk (fx_rV (As := [.int (Int32.ofInt a1), .int (Int32.ofInt (M 323 a1.toNat))]) (rest := []) F w cl_Va 141 T_141 (met_Va_weigh l hst9 D ad cA n0 M a1 (M 323 a1.toNat) _ thr hw) e_Va_weigh ki_Va_weigh ks_Va_weigh k_738 rfl hl.1 rfl (Nat.le_of_ble_eq_true rfl) ⟨⟨Nat.le_of_ble_eq_true rfl, Nat.le_of_ble_eq_true rfl⟩, Nat.le_of_ble_eq_true rfl, Nat.le_of_ble_eq_true rfl⟩ d_Va_bestChoice_10) (fun r76 M75 hw H locs w => ?_)
  show W p l e _ s m _ below meth c H locs 0 0 _ (F0 m 13 ls [.long (Int64.ofInt r76)])
  refine lv_lstore F.1 F.2.1 d_Va_bestChoice_13 hl (by decide) rfl (fun ls hl => ?_)
  have hl : lv_has ls 11 [(4, .long (Int64.ofInt r76)), (3, .int (Int32.ofInt (M 323 a1.toNat))), (0, .ref (ad 141)), (1, .int (Int32.ofInt a1)), (2, .int (Int32.ofInt a2))] := hl
  refine lv_iconst (v := Int32.ofInt 0) F.1 F.2.1 d_Va_bestChoice_15 (by decide) ?_
  refine lv_istore F.1 F.2.1 d_Va_bestChoice_16 hl (by decide) rfl (fun ls hl => ?_)
  have hl : lv_has ls 11 [(6, .int (Int32.ofInt 0)), (4, .long (Int64.ofInt r76)), (3, .int (Int32.ofInt (M 323 a1.toNat))), (0, .ref (ad 141)), (1, .int (Int32.ofInt a1)), (2, .int (Int32.ofInt a2))] := hl
  exact blk_18 M75 (M 323 a1.toNat) r76 0 hw H locs ls w (lv_sub hl [3, 4, 5, 2, 1, 0] rfl)
set_option maxHeartbeats 4000000 in
set_option maxRecDepth 100000 in
theorem met_Va_improve (l : Launch) (hst9 : l.stackTraces = false) (D : va_G) (ad : Nat → Nat) (cA : Nat → ClassId) (n0 : Nat) (M : fm_M) (a1 : Int) (post : Int → fm_M → Prop) (thr : String → fm_M → Prop) (hw : wp_Va_improve M a1 post thr) : fx_Met l y_Va_improve (Cond.code y_Va_improve b_Va_improve 5 (some .boolean) :: tb) { frames := 3, cells := 1, slots := 6, locals := 79 } [.ref (ad 141), .int (Int32.ofInt a1)] D ad cA n0 M 0 post thr := by
  refine fx_met (by decide) (Nat.le_of_ble_eq_true rfl) (fun p e s m below meth c ls F w hno hr hlk hl => ?_)
  have blk_63 : ∀ (J_4 : (fm_M → Int → Int → Prop)) (M : fm_M) (v3 : Int) (v4 : Int) (s0 : Int), B_Va_improve_63 a1 post thr J_4 M v3 v4 s0 → (∀ (M : fm_M) (v2 : Int) (v3 : Int), J_4 M v2 v3 → fx_G p l e { frames := 3, cells := 1, slots := 6, locals := 79 } s m ([.ref (ad 141), .int (Int32.ofInt a1)] : List Value).toArray below meth c D ad cA n0 0 post thr 5 M [(0, .ref (ad 141)), (1, .int (Int32.ofInt a1)), (2, .int (Int32.ofInt v2)), (3, .int (Int32.ofInt v3))] 4 []) → fx_G p l e { frames := 3, cells := 1, slots := 6, locals := 79 } s m ([.ref (ad 141), .int (Int32.ofInt a1)] : List Value).toArray below meth c D ad cA n0 0 post thr 5 M [(0, .ref (ad 141)), (1, .int (Int32.ofInt a1)), (3, .int (Int32.ofInt v3)), (4, .int (Int32.ofInt v4))] 63 [.int (Int32.ofInt s0)] := by
    intro J_4 M v3 v4 s0 hw hJ_4 H locs ls w hl
    refine lv_istore_n F.1 F.2.1 d_Va_improve_63 rfl hl (by decide) rfl (fun ls hl => ?_)
    have hl : lv_has ls 5 [(2, .int (Int32.ofInt s0)), (0, .ref (ad 141)), (1, .int (Int32.ofInt a1)), (3, .int (Int32.ofInt v3)), (4, .int (Int32.ofInt v4))] := hl
    refine lv_aload_n F.1 F.2.1 d_Va_improve_64 rfl (lv_at hl 1 rfl) ?_
    refine fm_gO F w cl_Va 141 3 323 T_141 (by decide) rfl rfl k_289 d_Va_improve_65 ?_
    refine lv_iload_n F.1 F.2.1 d_Va_improve_68 rfl (lv_at hl 3 rfl) ?_
    refine lv_iload F.1 F.2.1 d_Va_improve_69 (lv_at hl 4 rfl) ?_
    obtain ⟨h64, hw⟩ := hw
    refine fm_sI F w 323 T_323 (by decide) h64  d_Va_improve_71 (fun M65 hM65 H locs w => ?_)
    have hw := hw M65 hM65
    refine fi_iinc (k := 3) (v := (v3 + 1)) F d_Va_improve_72 hl rfl rfl (by decide) rfl (fun ls hl => ?_)
    have hl : lv_has ls 5 [(3, .int (Int32.ofInt (v3 + 1))), (2, .int (Int32.ofInt s0)), (0, .ref (ad 141)), (1, .int (Int32.ofInt a1)), (4, .int (Int32.ofInt v4))] := hl
    refine lv_goto F.1 F.2.1 d_Va_improve_75 (tgt := 4) (by decide) ?_
    exact hJ_4 M65 s0 (v3 + 1) hw H locs ls w (lv_sub hl [2, 3, 1, 0] rfl)
  have blk_58 : ∀ (J_4 : (fm_M → Int → Int → Prop)) (M : fm_M) (v3 : Int) (v4 : Int), B_Va_improve_58 a1 post thr J_4 M v3 v4 → (∀ (M : fm_M) (v2 : Int) (v3 : Int), J_4 M v2 v3 → fx_G p l e { frames := 3, cells := 1, slots := 6, locals := 79 } s m ([.ref (ad 141), .int (Int32.ofInt a1)] : List Value).toArray below meth c D ad cA n0 0 post thr 5 M [(0, .ref (ad 141)), (1, .int (Int32.ofInt a1)), (2, .int (Int32.ofInt v2)), (3, .int (Int32.ofInt v3))] 4 []) → fx_G p l e { frames := 3, cells := 1, slots := 6, locals := 79 } s m ([.ref (ad 141), .int (Int32.ofInt a1)] : List Value).toArray below meth c D ad cA n0 0 post thr 5 M [(0, .ref (ad 141)), (1, .int (Int32.ofInt a1)), (3, .int (Int32.ofInt v3)), (4, .int (Int32.ofInt v4))] 58 [] := by
    intro J_4 M v3 v4 hw hJ_4 H locs ls w hl
    refine lv_iconst (v := Int32.ofInt 1) F.1 F.2.1 d_Va_improve_58 (by decide) ?_
    refine lv_goto F.1 F.2.1 d_Va_improve_59 (tgt := 63) (by decide) ?_
    exact blk_63 J_4 M v3 v4 1 hw hJ_4 H locs ls w (lv_sub hl [0, 1, 2, 3] rfl)
  have blc_4 : ∀ (J_4 : (fm_M → Int → Int → Prop)) (M : fm_M) (v2 : Int) (v3 : Int), C_Va_improve_4 a1 post thr J_4 M v2 v3 → (∀ (M : fm_M) (v2 : Int) (v3 : Int), J_4 M v2 v3 → fx_G p l e { frames := 3, cells := 1, slots := 6, locals := 79 } s m ([.ref (ad 141), .int (Int32.ofInt a1)] : List Value).toArray below meth c D ad cA n0 0 post thr 5 M [(0, .ref (ad 141)), (1, .int (Int32.ofInt a1)), (2, .int (Int32.ofInt v2)), (3, .int (Int32.ofInt v3))] 4 []) → fx_G p l e { frames := 3, cells := 1, slots := 6, locals := 79 } s m ([.ref (ad 141), .int (Int32.ofInt a1)] : List Value).toArray below meth c D ad cA n0 0 post thr 5 M [(0, .ref (ad 141)), (1, .int (Int32.ofInt a1)), (2, .int (Int32.ofInt v2)), (3, .int (Int32.ofInt v3))] 4 [] := by
    intro J_4 M v2 v3 hw hJ_4 H locs ls w hl
    refine lv_iload_n F.1 F.2.1 d_Va_improve_4 rfl (lv_at hl 3 rfl) ?_
    refine lv_aload_n F.1 F.2.1 d_Va_improve_5 rfl (lv_at hl 0 rfl) ?_
    refine fm_gO F w cl_Va 141 0 142 T_141 (by decide) rfl rfl k_285 d_Va_improve_6 ?_
    refine fm_gI F w cl_Fo 142 1 T_142 (by decide) rfl k_206 d_Va_improve_9 ?_
    obtain ⟨h66, hw⟩ := hw
    obtain ⟨h67, hw⟩ := hw
    refine fi_icmp_ge F d_Va_improve_12 (tgt := 78) (by decide) h66 h67 (fun hc68 => ?_) (fun hc68 => ?_)
    · have hw := hw.1 hc68
      refine lv_iload_n F.1 F.2.1 d_Va_improve_78 rfl (lv_at hl 2 rfl) ?_
      obtain ⟨h69, hw⟩ := hw
      exact fx_zret F w hr hlk (fx_nz h69) hw d_Va_improve_79
    · have hw := hw.2 hc68
      refine lv_aload_n F.1 F.2.1 d_Va_improve_15 rfl (lv_at hl 0 rfl) ?_
      refine lv_iload_n F.1 F.2.1 d_Va_improve_16 rfl (lv_at hl 3 rfl) ?_
      refine fx_c w hno hlk (fx_rV (As := [.int (Int32.ofInt v3)]) (rest := []) F w cl_Va 141 T_141 (met_Va_isOpen l hst9 D ad cA n0 M v3 _ thr hw) e_Va_isOpen ki_Va_isOpen ks_Va_isOpen k_712 rfl hl.1 rfl (Nat.le_of_ble_eq_true rfl) ⟨⟨Nat.le_of_ble_eq_true rfl, Nat.le_of_ble_eq_true rfl⟩, Nat.le_of_ble_eq_true rfl, Nat.le_of_ble_eq_true rfl⟩ d_Va_improve_17) (fun r71 M70 hw H locs w => ?_)
      show W p l e _ s m _ below meth c H locs 0 0 _ (F0 m 20 ls [.int (Int32.ofInt r71)])
      obtain ⟨h72, hw⟩ := hw
      refine fi_if_eq F d_Va_improve_20 (tgt := 72) (by decide) h72 (fun hc73 => ?_) (fun hc73 => ?_)
      · have hw := hw.1 hc73
        refine fi_iinc (k := 3) (v := (v3 + 1)) F d_Va_improve_72 hl rfl rfl (by decide) rfl (fun ls hl => ?_)
        have hl : lv_has ls 5 [(3, .int (Int32.ofInt (v3 + 1))), (0, .ref (ad 141)), (1, .int (Int32.ofInt a1)), (2, .int (Int32.ofInt v2))] := hl
        refine lv_goto F.1 F.2.1 d_Va_improve_75 (tgt := 4) (by decide) ?_
        exact hJ_4 M70 v2 (v3 + 1) hw H locs ls w (lv_sub hl [1, 2, 3, 0] rfl)
      · have hw := hw.2 hc73
        refine lv_aload_n F.1 F.2.1 d_Va_improve_23 rfl (lv_at hl 0 rfl) ?_
        refine fm_gO F w cl_Va 141 0 142 T_141 (by decide) rfl rfl k_285 d_Va_improve_24 ?_
        refine lv_iload_n F.1 F.2.1 d_Va_improve_27 rfl (lv_at hl 3 rfl) ?_
        refine fx_c w hno hlk (fx_rV (As := [.int (Int32.ofInt v3)]) (rest := []) F w cl_Fo 142 T_142 (met_Fo_isOfMax l hst9 D ad cA n0 M70 v3 _ thr hw) e_Fo_isOfMax ki_Fo_isOfMax ks_Fo_isOfMax k_699 rfl hl.1 rfl (Nat.le_of_ble_eq_true rfl) ⟨⟨Nat.le_of_ble_eq_true rfl, Nat.le_of_ble_eq_true rfl⟩, Nat.le_of_ble_eq_true rfl, Nat.le_of_ble_eq_true rfl⟩ d_Va_improve_28) (fun r75 M74 hw H locs w => ?_)
        show W p l e _ s m _ below meth c H locs 0 0 _ (F0 m 31 ls [.int (Int32.ofInt r75)])
        refine lv_iload_n F.1 F.2.1 d_Va_improve_31 rfl (lv_at hl 1 rfl) ?_
        obtain ⟨h76, hw⟩ := hw
        obtain ⟨h77, hw⟩ := hw
        refine fi_icmp_ne F d_Va_improve_32 (tgt := 72) (by decide) h76 h77 (fun hc78 => ?_) (fun hc78 => ?_)
        · have hw := hw.1 hc78
          refine fi_iinc (k := 3) (v := (v3 + 1)) F d_Va_improve_72 hl rfl rfl (by decide) rfl (fun ls hl => ?_)
          have hl : lv_has ls 5 [(3, .int (Int32.ofInt (v3 + 1))), (0, .ref (ad 141)), (1, .int (Int32.ofInt a1)), (2, .int (Int32.ofInt v2))] := hl
          refine lv_goto F.1 F.2.1 d_Va_improve_75 (tgt := 4) (by decide) ?_
          exact hJ_4 M74 v2 (v3 + 1) hw H locs ls w (lv_sub hl [1, 2, 3, 0] rfl)
        · have hw := hw.2 hc78
          refine lv_aload_n F.1 F.2.1 d_Va_improve_35 rfl (lv_at hl 0 rfl) ?_
          refine lv_iload_n F.1 F.2.1 d_Va_improve_36 rfl (lv_at hl 3 rfl) ?_
          refine lv_iload_n F.1 F.2.1 d_Va_improve_37 rfl (lv_at hl 1 rfl) ?_
          refine fx_c w hno hlk (fx_rV (As := [.int (Int32.ofInt v3), .int (Int32.ofInt a1)]) (rest := []) F w cl_Va 141 T_141 (met_Va_bestChoice l hst9 D ad cA n0 M74 v3 a1 _ thr hw) e_Va_bestChoice ki_Va_bestChoice ks_Va_bestChoice k_734 rfl hl.1 rfl (Nat.le_of_ble_eq_true rfl) ⟨⟨Nat.le_of_ble_eq_true rfl, Nat.le_of_ble_eq_true rfl⟩, Nat.le_of_ble_eq_true rfl, Nat.le_of_ble_eq_true rfl⟩ d_Va_improve_38) (fun r80 M79 hw H locs w => ?_)
          show W p l e _ s m _ below meth c H locs 0 0 _ (F0 m 41 ls [.int (Int32.ofInt r80)])
          refine lv_istore F.1 F.2.1 d_Va_improve_41 hl (by decide) rfl (fun ls hl => ?_)
          have hl : lv_has ls 5 [(4, .int (Int32.ofInt r80)), (0, .ref (ad 141)), (1, .int (Int32.ofInt a1)), (2, .int (Int32.ofInt v2)), (3, .int (Int32.ofInt v3))] := hl
          refine lv_iload_n F.1 F.2.1 d_Va_improve_43 rfl (lv_at hl 3 rfl) ?_
          obtain ⟨h81, hw⟩ := hw
          refine fi_if_ne F d_Va_improve_44 (tgt := 58) (by decide) h81 (fun hc82 => ?_) (fun hc82 => ?_)
          · have hw := hw.1 hc82
            exact blk_58 J_4 M79 v3 r80 hw hJ_4 H locs ls w (lv_sub hl [1, 2, 4, 0] rfl)
          · have hw := hw.2 hc82
            refine lv_iload F.1 F.2.1 d_Va_improve_47 (lv_at hl 0 rfl) ?_
            refine lv_aload_n F.1 F.2.1 d_Va_improve_49 rfl (lv_at hl 1 rfl) ?_
            refine fm_gO F w cl_Va 141 3 323 T_141 (by decide) rfl rfl k_289 d_Va_improve_50 ?_
            refine lv_iload_n F.1 F.2.1 d_Va_improve_53 rfl (lv_at hl 4 rfl) ?_
            obtain ⟨h83, hw⟩ := hw
            refine fm_aI F w 323 T_323 (by decide) h83 d_Va_improve_54 ?_
            obtain ⟨h84, hw⟩ := hw
            obtain ⟨h85, hw⟩ := hw
            refine fi_icmp_eq F d_Va_improve_55 (tgt := 62) (by decide) h84 h85 (fun hc86 => ?_) (fun hc86 => ?_)
            · have hw := hw.1 hc86
              refine lv_iconst (v := Int32.ofInt 0) F.1 F.2.1 d_Va_improve_62 (by decide) ?_
              exact blk_63 J_4 M79 v3 r80 0 hw hJ_4 H locs ls w (lv_sub hl [1, 2, 4, 0] rfl)
            · have hw := hw.2 hc86
              exact blk_58 J_4 M79 v3 r80 hw hJ_4 H locs ls w (lv_sub hl [1, 2, 4, 0] rfl)
  have blk_4 : ∀ (M : fm_M) (v2 : Int) (v3 : Int), B_Va_improve_4 a1 post thr M v2 v3 → fx_G p l e { frames := 3, cells := 1, slots := 6, locals := 79 } s m ([.ref (ad 141), .int (Int32.ofInt a1)] : List Value).toArray below meth c D ad cA n0 0 post thr 5 M [(0, .ref (ad 141)), (1, .int (Int32.ofInt a1)), (2, .int (Int32.ofInt v2)), (3, .int (Int32.ofInt v3))] 4 [] := by
    intro M v2 v3 hw
    obtain ⟨I, μ, hI, hB⟩ := hw
    have key : ∀ (q : Nat) (M : fm_M) (v2 : Int) (v3 : Int), μ M v2 v3 < q → I M v2 v3 → fx_G p l e { frames := 3, cells := 1, slots := 6, locals := 79 } s m ([.ref (ad 141), .int (Int32.ofInt a1)] : List Value).toArray below meth c D ad cA n0 0 post thr 5 M [(0, .ref (ad 141)), (1, .int (Int32.ofInt a1)), (2, .int (Int32.ofInt v2)), (3, .int (Int32.ofInt v3))] 4 [] := by
      intro q
      induction q with
      | zero => intro M v2 v3 h _; exact absurd h (Nat.not_lt_zero _)
      | succ q ih =>
        intro M v2 v3 hμ hI
        exact blc_4 (fun M' v2' v3' => I M' v2' v3' ∧ μ M' v2' v3' < μ M v2 v3) M v2 v3 (hB M v2 v3 hI) (fun M' v2' v3' hh => ih M' v2' v3' (Nat.lt_of_lt_of_le hh.2 (Nat.le_of_lt_succ hμ)) hh.1)
    exact key _ M v2 v3 (Nat.lt_succ_self _) hI
  have hl : lv_has ls 5 [(0, .ref (ad 141)), (1, .int (Int32.ofInt a1))] := hl
  suffices h9 : fx_G p l e { frames := 3, cells := 1, slots := 6, locals := 79 } s m ([.ref (ad 141), .int (Int32.ofInt a1)] : List Value).toArray below meth c D ad cA n0 0 post thr 5 M [(0, .ref (ad 141)), (1, .int (Int32.ofInt a1))] 0 [] from h9 _ _ _ w hl
  intro H locs ls w hl
  refine lv_iconst (v := Int32.ofInt 0) F.1 F.2.1 d_Va_improve_0 (by decide) ?_
  refine lv_istore_n F.1 F.2.1 d_Va_improve_1 rfl hl (by decide) rfl (fun ls hl => ?_)
  have hl : lv_has ls 5 [(2, .int (Int32.ofInt 0)), (0, .ref (ad 141)), (1, .int (Int32.ofInt a1))] := hl
  refine lv_iconst (v := Int32.ofInt 0) F.1 F.2.1 d_Va_improve_2 (by decide) ?_
  refine lv_istore_n F.1 F.2.1 d_Va_improve_3 rfl hl (by decide) rfl (fun ls hl => ?_)
  have hl : lv_has ls 5 [(3, .int (Int32.ofInt 0)), (2, .int (Int32.ofInt 0)), (0, .ref (ad 141)), (1, .int (Int32.ofInt a1))] := hl
  exact blk_4 M 0 0 hw H locs ls w (lv_sub hl [2, 3, 1, 0] rfl)
set_option maxHeartbeats 4000000 in
set_option maxRecDepth 100000 in
theorem met_Va_commonDivisor (l : Launch) (hst9 : l.stackTraces = false) (D : va_G) (ad : Nat → Nat) (cA : Nat → ClassId) (n0 : Nat) (M : fm_M) (a0 : Int) (a2 : Int) (post : Int → fm_M → Prop) (thr : String → fm_M → Prop) (hw : wp_Va_commonDivisor M a0 a2 post thr) : fx_Met l y_Va_commonDivisor (Cond.code y_Va_commonDivisor b_Va_commonDivisor 11 (some .long) :: tb) { frames := 0, cells := 1, slots := 6, locals := 0 } [.long (Int64.ofInt a0), .long (Int64.ofInt a2)] D ad cA n0 M 1 post thr := by
  refine fx_met (by decide) (Nat.le_of_ble_eq_true rfl) (fun p e s m below meth c ls F w hno hr hlk hl => ?_)
  have blk_45 : ∀ (M : fm_M) (v4 : Int), B_Va_commonDivisor_45 a0 a2 post thr M v4 → fx_G p l e { frames := 0, cells := 1, slots := 6, locals := 0 } s m ([.long (Int64.ofInt a0), .long (Int64.ofInt a2)] : List Value).toArray below meth c D ad cA n0 1 post thr 11 M [(4, .long (Int64.ofInt v4))] 45 [] := by
    intro M v4 hw H locs ls w hl
    refine lv_lload F.1 F.2.1 d_Va_commonDivisor_45 (lv_at hl 0 rfl) ?_
    refine lv_lconst (v := Int64.ofInt 0) F.1 F.2.1 d_Va_commonDivisor_47 (by decide) ?_
    refine fi_lcmpW F d_Va_commonDivisor_48 (jwl_eq v4) rfl (jwl_rg v4) (rll (by decide)) ?_
    refine fi_if_ne F d_Va_commonDivisor_49 (tgt := 56) (by decide) rg_jcmp (fun hc9 => ?_) (fun hc9 => ?_)
    · have hw := hw.1 hc9
      refine lv_lload F.1 F.2.1 d_Va_commonDivisor_56 (lv_at hl 0 rfl) ?_
      refine fi_same_l (jwl_eq v4) ?_
      exact fx_lret F w hr hlk hw d_Va_commonDivisor_58
    · have hw := hw.2 hc9
      refine lv_lconst (v := Int64.ofInt 1) F.1 F.2.1 d_Va_commonDivisor_52 (by decide) ?_
      refine lv_goto F.1 F.2.1 d_Va_commonDivisor_53 (tgt := 58) (by decide) ?_
      refine fi_same_l rfl ?_
      exact fx_lret F w hr hlk hw d_Va_commonDivisor_58
  have blc_9 : ∀ (J_9 : (fm_M → Int → Int → Int → Prop)) (M : fm_M) (v4 : Int) (v6 : Int) (v8 : Int), C_Va_commonDivisor_9 a0 a2 post thr J_9 M v4 v6 v8 → (∀ (M : fm_M) (v4 : Int) (v6 : Int) (v8 : Int), J_9 M v4 v6 v8 → fx_G p l e { frames := 0, cells := 1, slots := 6, locals := 0 } s m ([.long (Int64.ofInt a0), .long (Int64.ofInt a2)] : List Value).toArray below meth c D ad cA n0 1 post thr 11 M [(4, .long (Int64.ofInt v4)), (6, .long (Int64.ofInt v6)), (8, .int (Int32.ofInt v8))] 9 []) → fx_G p l e { frames := 0, cells := 1, slots := 6, locals := 0 } s m ([.long (Int64.ofInt a0), .long (Int64.ofInt a2)] : List Value).toArray below meth c D ad cA n0 1 post thr 11 M [(4, .long (Int64.ofInt v4)), (6, .long (Int64.ofInt v6)), (8, .int (Int32.ofInt v8))] 9 [] := by
    intro J_9 M v4 v6 v8 hw hJ_9 H locs ls w hl
    refine lv_iload F.1 F.2.1 d_Va_commonDivisor_9 (lv_at hl 2 rfl) ?_
    refine lv_sipush (v := Int32.ofInt 128) F.1 F.2.1 d_Va_commonDivisor_11 (by decide) ?_
    obtain ⟨h10, hw⟩ := hw
    refine fi_icmp_ge F d_Va_commonDivisor_14 (tgt := 45) (by decide) h10 (rgl (by decide)) (fun hc11 => ?_) (fun hc11 => ?_)
    · have hw := hw.1 hc11
      exact blk_45 M v4 hw H locs ls w (lv_sub hl [0] rfl)
    · have hw := hw.2 hc11
      refine lv_lload F.1 F.2.1 d_Va_commonDivisor_17 (lv_at hl 1 rfl) ?_
      refine lv_lconst (v := Int64.ofInt 0) F.1 F.2.1 d_Va_commonDivisor_19 (by decide) ?_
      refine fi_lcmpW F d_Va_commonDivisor_20 (jwl_eq v6) rfl (jwl_rg v6) (rll (by decide)) ?_
      refine fi_if_eq F d_Va_commonDivisor_21 (tgt := 45) (by decide) rg_jcmp (fun hc12 => ?_) (fun hc12 => ?_)
      · have hw := hw.1 hc12
        exact blk_45 M v4 hw H locs ls w (lv_sub hl [0] rfl)
      · have hw := hw.2 hc12
        refine lv_lload F.1 F.2.1 d_Va_commonDivisor_24 (lv_at hl 0 rfl) ?_
        refine lv_lload F.1 F.2.1 d_Va_commonDivisor_26 (lv_at hl 1 rfl) ?_
        obtain ⟨h13, hw⟩ := hw
        refine fi_lremW F d_Va_commonDivisor_28 (jwl_eq v4) (jwl_eq v6) (jwl_rg v4) (jwl_rg v6) h13 ?_
        refine lv_lstore F.1 F.2.1 d_Va_commonDivisor_29 hl (by decide) rfl (fun ls hl => ?_)
        have hl : lv_has ls 11 [(9, .long (Int64.ofInt ((jwl v4) - (jwl v4).tdiv (jwl v6) * (jwl v6)))), (4, .long (Int64.ofInt v4)), (6, .long (Int64.ofInt v6)), (8, .int (Int32.ofInt v8))] := hl
        refine lv_lload F.1 F.2.1 d_Va_commonDivisor_31 (lv_at hl 2 rfl) ?_
        refine lv_lstore F.1 F.2.1 d_Va_commonDivisor_33 hl (by decide) rfl (fun ls hl => ?_)
        have hl : lv_has ls 11 [(4, .long (Int64.ofInt v6)), (9, .long (Int64.ofInt ((jwl v4) - (jwl v4).tdiv (jwl v6) * (jwl v6)))), (6, .long (Int64.ofInt v6)), (8, .int (Int32.ofInt v8))] := hl
        refine lv_lload F.1 F.2.1 d_Va_commonDivisor_35 (lv_at hl 1 rfl) ?_
        refine lv_lstore F.1 F.2.1 d_Va_commonDivisor_37 hl (by decide) rfl (fun ls hl => ?_)
        have hl : lv_has ls 11 [(6, .long (Int64.ofInt ((jwl v4) - (jwl v4).tdiv (jwl v6) * (jwl v6)))), (4, .long (Int64.ofInt v6)), (9, .long (Int64.ofInt ((jwl v4) - (jwl v4).tdiv (jwl v6) * (jwl v6)))), (8, .int (Int32.ofInt v8))] := hl
        refine fi_iinc (k := 3) (v := (v8 + 1)) F d_Va_commonDivisor_39 hl rfl rfl (by decide) rfl (fun ls hl => ?_)
        have hl : lv_has ls 11 [(8, .int (Int32.ofInt (v8 + 1))), (6, .long (Int64.ofInt ((jwl v4) - (jwl v4).tdiv (jwl v6) * (jwl v6)))), (4, .long (Int64.ofInt v6)), (9, .long (Int64.ofInt ((jwl v4) - (jwl v4).tdiv (jwl v6) * (jwl v6))))] := hl
        refine lv_goto F.1 F.2.1 d_Va_commonDivisor_42 (tgt := 9) (by decide) ?_
        exact hJ_9 M v6 ((jwl v4) - (jwl v4).tdiv (jwl v6) * (jwl v6)) (v8 + 1) hw H locs ls w (lv_sub hl [2, 1, 0] rfl)
  have blk_9 : ∀ (M : fm_M) (v4 : Int) (v6 : Int) (v8 : Int), B_Va_commonDivisor_9 a0 a2 post thr M v4 v6 v8 → fx_G p l e { frames := 0, cells := 1, slots := 6, locals := 0 } s m ([.long (Int64.ofInt a0), .long (Int64.ofInt a2)] : List Value).toArray below meth c D ad cA n0 1 post thr 11 M [(4, .long (Int64.ofInt v4)), (6, .long (Int64.ofInt v6)), (8, .int (Int32.ofInt v8))] 9 [] := by
    intro M v4 v6 v8 hw
    obtain ⟨I, μ, hI, hB⟩ := hw
    have key : ∀ (q : Nat) (M : fm_M) (v4 : Int) (v6 : Int) (v8 : Int), μ M v4 v6 v8 < q → I M v4 v6 v8 → fx_G p l e { frames := 0, cells := 1, slots := 6, locals := 0 } s m ([.long (Int64.ofInt a0), .long (Int64.ofInt a2)] : List Value).toArray below meth c D ad cA n0 1 post thr 11 M [(4, .long (Int64.ofInt v4)), (6, .long (Int64.ofInt v6)), (8, .int (Int32.ofInt v8))] 9 [] := by
      intro q
      induction q with
      | zero => intro M v4 v6 v8 h _; exact absurd h (Nat.not_lt_zero _)
      | succ q ih =>
        intro M v4 v6 v8 hμ hI
        exact blc_9 (fun M' v4' v6' v8' => I M' v4' v6' v8' ∧ μ M' v4' v6' v8' < μ M v4 v6 v8) M v4 v6 v8 (hB M v4 v6 v8 hI) (fun M' v4' v6' v8' hh => ih M' v4' v6' v8' (Nat.lt_of_lt_of_le hh.2 (Nat.le_of_lt_succ hμ)) hh.1)
    exact key _ M v4 v6 v8 (Nat.lt_succ_self _) hI
  have hl : lv_has ls 11 [(0, .long (Int64.ofInt a0)), (2, .long (Int64.ofInt a2))] := hl
  suffices h9 : fx_G p l e { frames := 0, cells := 1, slots := 6, locals := 0 } s m ([.long (Int64.ofInt a0), .long (Int64.ofInt a2)] : List Value).toArray below meth c D ad cA n0 1 post thr 11 M [(0, .long (Int64.ofInt a0)), (2, .long (Int64.ofInt a2))] 0 [] from h9 _ _ _ w hl
  intro H locs ls w hl
  refine lv_lload_n F.1 F.2.1 d_Va_commonDivisor_0 rfl (lv_at hl 1 rfl) ?_
  refine lv_lstore F.1 F.2.1 d_Va_commonDivisor_1 hl (by decide) rfl (fun ls hl => ?_)
  have hl : lv_has ls 11 [(4, .long (Int64.ofInt a2)), (0, .long (Int64.ofInt a0)), (2, .long (Int64.ofInt a2))] := hl
  refine lv_lload_n F.1 F.2.1 d_Va_commonDivisor_3 rfl (lv_at hl 1 rfl) ?_
  refine lv_lstore F.1 F.2.1 d_Va_commonDivisor_4 hl (by decide) rfl (fun ls hl => ?_)
  have hl : lv_has ls 11 [(6, .long (Int64.ofInt a0)), (4, .long (Int64.ofInt a2)), (0, .long (Int64.ofInt a0)), (2, .long (Int64.ofInt a2))] := hl
  refine lv_iconst (v := Int32.ofInt 0) F.1 F.2.1 d_Va_commonDivisor_6 (by decide) ?_
  refine lv_istore F.1 F.2.1 d_Va_commonDivisor_7 hl (by decide) rfl (fun ls hl => ?_)
  have hl : lv_has ls 11 [(8, .int (Int32.ofInt 0)), (6, .long (Int64.ofInt a0)), (4, .long (Int64.ofInt a2)), (0, .long (Int64.ofInt a0)), (2, .long (Int64.ofInt a2))] := hl
  exact blk_9 M a2 a0 0 hw H locs ls w (lv_sub hl [2, 1, 0] rfl)
