set_option maxHeartbeats 4000000 in
set_option maxRecDepth 100000 in
theorem met_Mo_readAll (l : Launch) (hst9 : l.stackTraces = false) (D : va_G) (ad : Nat → Nat) (cA : Nat → ClassId) (n0 : Nat) (M : fm_M) (post : Int → fm_M → Prop) (thr : String → fm_M → Prop) (hw : wp_Mo_readAll M post thr) : fx_Met l y_Mo_readAll (Cond.code y_Mo_readAll b_Mo_readAll 2 (some .boolean) :: tb) { frames := 8, cells := 1, slots := 6, locals := 181 } [.ref (ad 331)] D ad cA n0 M 0 post thr := by
  refine fx_met (by decide) (Nat.le_of_ble_eq_true rfl) (fun p e s m below meth c ls F w hno hr hlk hl => ?_)
  have blk_153 : ∀ (M : fm_M), B_Mo_readAll_153 post thr M → fx_G p l e { frames := 8, cells := 1, slots := 6, locals := 181 } s m ([.ref (ad 331)] : List Value).toArray below meth c D ad cA n0 0 post thr 2 M [] 153 [] := by
    intro M hw H locs ls w hl
    refine lv_iconst (v := Int32.ofInt 1) F.1 F.2.1 d_Mo_readAll_153 (by decide) ?_
    refine lv_goto F.1 F.2.1 d_Mo_readAll_154 (tgt := 158) (by decide) ?_
    exact fx_zret F w hr hlk (fx_nz (by decide)) hw d_Mo_readAll_158
  have blk_104 : ∀ (J_86 : (fm_M → Prop)) (M : fm_M), B_Mo_readAll_104 post thr J_86 M → (∀ (M : fm_M), J_86 M → fx_G p l e { frames := 8, cells := 1, slots := 6, locals := 181 } s m ([.ref (ad 331)] : List Value).toArray below meth c D ad cA n0 0 post thr 2 M [(0, .ref (ad 331))] 86 []) → fx_G p l e { frames := 8, cells := 1, slots := 6, locals := 181 } s m ([.ref (ad 331)] : List Value).toArray below meth c D ad cA n0 0 post thr 2 M [(0, .ref (ad 331))] 104 [] := by
    intro J_86 M hw hJ_86 H locs ls w hl
    refine lv_aload_n F.1 F.2.1 d_Mo_readAll_104 rfl (lv_at hl 0 rfl) ?_
    refine fx_c w hno hlk (fx_rV (As := []) (rest := []) F w cl_Mo 331 T_331 (met_Mo_readCommand l hst9 D ad cA n0 M _ thr hw) e_Mo_readCommand ki_Mo_readCommand ks_Mo_readCommand k_992 rfl hl.1 rfl (Nat.le_of_ble_eq_true rfl) ⟨⟨Nat.le_of_ble_eq_true rfl, Nat.le_of_ble_eq_true rfl⟩, Nat.le_of_ble_eq_true rfl, Nat.le_of_ble_eq_true rfl⟩ d_Mo_readAll_105) (fun r52 M51 hw H locs w => ?_)
    show W p l e _ s m _ below meth c H locs 0 0 _ (F0 m 108 ls [.int (Int32.ofInt r52)])
    obtain ⟨h53, hw⟩ := hw
    refine fi_if_ne F d_Mo_readAll_108 (tgt := 86) (by decide) h53 (fun hc54 => ?_) (fun hc54 => ?_)
    · have hw := hw.1 hc54
      exact hJ_86 M51 hw H locs ls w (lv_sub hl [0] rfl)
    · have hw := hw.2 hc54
      refine lv_iconst (v := Int32.ofInt 0) F.1 F.2.1 d_Mo_readAll_111 (by decide) ?_
      exact fx_zret F w hr hlk (fx_nz (by decide)) hw d_Mo_readAll_112
  have blc_86 : ∀ (J_86 : (fm_M → Prop)) (M : fm_M), C_Mo_readAll_86 post thr J_86 M → (∀ (M : fm_M), J_86 M → fx_G p l e { frames := 8, cells := 1, slots := 6, locals := 181 } s m ([.ref (ad 331)] : List Value).toArray below meth c D ad cA n0 0 post thr 2 M [(0, .ref (ad 331))] 86 []) → fx_G p l e { frames := 8, cells := 1, slots := 6, locals := 181 } s m ([.ref (ad 331)] : List Value).toArray below meth c D ad cA n0 0 post thr 2 M [(0, .ref (ad 331))] 86 [] := by
    intro J_86 M hw hJ_86 H locs ls w hl
    refine lv_aload_n F.1 F.2.1 d_Mo_readAll_86 rfl (lv_at hl 0 rfl) ?_
    refine fx_c w hno hlk (fx_rV (As := []) (rest := []) F w cl_Mo 331 T_331 (met_Mo_here l hst9 D ad cA n0 M _ thr hw) e_Mo_here ki_Mo_here ks_Mo_here k_968 rfl hl.1 rfl (Nat.le_of_ble_eq_true rfl) ⟨⟨Nat.le_of_ble_eq_true rfl, Nat.le_of_ble_eq_true rfl⟩, Nat.le_of_ble_eq_true rfl, Nat.le_of_ble_eq_true rfl⟩ d_Mo_readAll_87) (fun r56 M55 hw H locs w => ?_)
    show W p l e _ s m _ below meth c H locs 0 0 _ (F0 m 90 ls [.int (Int32.ofInt r56)])
    refine lv_bipush (v := Int32.ofInt 43) F.1 F.2.1 d_Mo_readAll_90 (by decide) ?_
    obtain ⟨h57, hw⟩ := hw
    refine fi_icmp_eq F d_Mo_readAll_92 (tgt := 104) (by decide) h57 (rgl (by decide)) (fun hc58 => ?_) (fun hc58 => ?_)
    · have hw := hw.1 hc58
      exact blk_104 J_86 M55 hw hJ_86 H locs ls w (lv_sub hl [0] rfl)
    · have hw := hw.2 hc58
      refine lv_aload_n F.1 F.2.1 d_Mo_readAll_95 rfl (lv_at hl 0 rfl) ?_
      refine fx_c w hno hlk (fx_rV (As := []) (rest := []) F w cl_Mo 331 T_331 (met_Mo_here l hst9 D ad cA n0 M55 _ thr hw) e_Mo_here ki_Mo_here ks_Mo_here k_968 rfl hl.1 rfl (Nat.le_of_ble_eq_true rfl) ⟨⟨Nat.le_of_ble_eq_true rfl, Nat.le_of_ble_eq_true rfl⟩, Nat.le_of_ble_eq_true rfl, Nat.le_of_ble_eq_true rfl⟩ d_Mo_readAll_96) (fun r60 M59 hw H locs w => ?_)
      show W p l e _ s m _ below meth c H locs 0 0 _ (F0 m 99 ls [.int (Int32.ofInt r60)])
      refine lv_bipush (v := Int32.ofInt 45) F.1 F.2.1 d_Mo_readAll_99 (by decide) ?_
      obtain ⟨h61, hw⟩ := hw
      refine fi_icmp_ne F d_Mo_readAll_101 (tgt := 113) (by decide) h61 (rgl (by decide)) (fun hc62 => ?_) (fun hc62 => ?_)
      · have hw := hw.1 hc62
        refine lv_aload_n F.1 F.2.1 d_Mo_readAll_113 rfl (lv_at hl 0 rfl) ?_
        refine lv_bipush (v := Int32.ofInt 33) F.1 F.2.1 d_Mo_readAll_114 (by decide) ?_
        refine fx_c w hno hlk (fx_rV (As := [.int (Int32.ofInt 33)]) (rest := []) F w cl_Mo 331 T_331 (met_Mo_want l hst9 D ad cA n0 M59 33 _ thr hw) e_Mo_want ki_Mo_want ks_Mo_want k_988 rfl hl.1 rfl (Nat.le_of_ble_eq_true rfl) ⟨⟨Nat.le_of_ble_eq_true rfl, Nat.le_of_ble_eq_true rfl⟩, Nat.le_of_ble_eq_true rfl, Nat.le_of_ble_eq_true rfl⟩ d_Mo_readAll_116) (fun r64 M63 hw H locs w => ?_)
        show W p l e _ s m _ below meth c H locs 0 0 _ (F0 m 119 ls [.int (Int32.ofInt r64)])
        obtain ⟨h65, hw⟩ := hw
        refine fi_if_eq F d_Mo_readAll_119 (tgt := 157) (by decide) h65 (fun hc66 => ?_) (fun hc66 => ?_)
        · have hw := hw.1 hc66
          refine lv_iconst (v := Int32.ofInt 0) F.1 F.2.1 d_Mo_readAll_157 (by decide) ?_
          exact fx_zret F w hr hlk (fx_nz (by decide)) hw d_Mo_readAll_158
        · have hw := hw.2 hc66
          refine lv_aload_n F.1 F.2.1 d_Mo_readAll_122 rfl (lv_at hl 0 rfl) ?_
          refine lv_bipush (v := Int32.ofInt 10) F.1 F.2.1 d_Mo_readAll_123 (by decide) ?_
          refine fx_c w hno hlk (fx_rV (As := [.int (Int32.ofInt 10)]) (rest := []) F w cl_Mo 331 T_331 (met_Mo_readGuard l hst9 D ad cA n0 M63 10 _ thr hw) e_Mo_readGuard ki_Mo_readGuard ks_Mo_readGuard k_996 rfl hl.1 rfl (Nat.le_of_ble_eq_true rfl) ⟨⟨Nat.le_of_ble_eq_true rfl, Nat.le_of_ble_eq_true rfl⟩, Nat.le_of_ble_eq_true rfl, Nat.le_of_ble_eq_true rfl⟩ d_Mo_readAll_125) (fun r68 M67 hw H locs w => ?_)
          show W p l e _ s m _ below meth c H locs 0 0 _ (F0 m 128 ls [.int (Int32.ofInt r68)])
          obtain ⟨h69, hw⟩ := hw
          refine fi_if_eq F d_Mo_readAll_128 (tgt := 157) (by decide) h69 (fun hc70 => ?_) (fun hc70 => ?_)
          · have hw := hw.1 hc70
            refine lv_iconst (v := Int32.ofInt 0) F.1 F.2.1 d_Mo_readAll_157 (by decide) ?_
            exact fx_zret F w hr hlk (fx_nz (by decide)) hw d_Mo_readAll_158
          · have hw := hw.2 hc70
            refine lv_aload_n F.1 F.2.1 d_Mo_readAll_131 rfl (lv_at hl 0 rfl) ?_
            refine fm_gI F w cl_Mo 331 3 T_331 (by decide) rfl k_817 d_Mo_readAll_132 ?_
            refine lv_aload_n F.1 F.2.1 d_Mo_readAll_135 rfl (lv_at hl 0 rfl) ?_
            refine fm_gI F w cl_Mo 331 2 T_331 (by decide) rfl k_816 d_Mo_readAll_136 ?_
            obtain ⟨h71, hw⟩ := hw
            obtain ⟨h72, hw⟩ := hw
            refine fi_icmp_eq F d_Mo_readAll_139 (tgt := 153) (by decide) h71 h72 (fun hc73 => ?_) (fun hc73 => ?_)
            · have hw := hw.1 hc73
              exact blk_153 M67 hw H locs ls w (lv_sub hl [] rfl)
            · have hw := hw.2 hc73
              refine lv_aload_n F.1 F.2.1 d_Mo_readAll_142 rfl (lv_at hl 0 rfl) ?_
              refine lv_aload_n F.1 F.2.1 d_Mo_readAll_143 rfl (lv_at hl 0 rfl) ?_
              refine fm_gI F w cl_Mo 331 3 T_331 (by decide) rfl k_817 d_Mo_readAll_144 ?_
              refine fx_c w hno hlk (fx_rV (As := [.int (Int32.ofInt (M67 331 3))]) (rest := []) F w cl_Mo 331 T_331 (met_Mo_fail l hst9 D ad cA n0 M67 (M67 331 3) _ thr hw) e_Mo_fail ki_Mo_fail ks_Mo_fail k_976 rfl hl.1 rfl (Nat.le_of_ble_eq_true rfl) ⟨⟨Nat.le_of_ble_eq_true rfl, Nat.le_of_ble_eq_true rfl⟩, Nat.le_of_ble_eq_true rfl, Nat.le_of_ble_eq_true rfl⟩ d_Mo_readAll_147) (fun r75 M74 hw H locs w => ?_)
              show W p l e _ s m _ below meth c H locs 0 0 _ (F0 m 150 ls [.int (Int32.ofInt r75)])
              obtain ⟨h76, hw⟩ := hw
              refine fi_if_eq F d_Mo_readAll_150 (tgt := 157) (by decide) h76 (fun hc77 => ?_) (fun hc77 => ?_)
              · have hw := hw.1 hc77
                refine lv_iconst (v := Int32.ofInt 0) F.1 F.2.1 d_Mo_readAll_157 (by decide) ?_
                exact fx_zret F w hr hlk (fx_nz (by decide)) hw d_Mo_readAll_158
              · have hw := hw.2 hc77
                exact blk_153 M74 hw H locs ls w (lv_sub hl [] rfl)
      · have hw := hw.2 hc62
        exact blk_104 J_86 M59 hw hJ_86 H locs ls w (lv_sub hl [0] rfl)
  have blk_86 : ∀ (M : fm_M), B_Mo_readAll_86 post thr M → fx_G p l e { frames := 8, cells := 1, slots := 6, locals := 181 } s m ([.ref (ad 331)] : List Value).toArray below meth c D ad cA n0 0 post thr 2 M [(0, .ref (ad 331))] 86 [] := by
    intro M hw
    obtain ⟨I, μ, hI, hB⟩ := hw
    have key : ∀ (q : Nat) (M : fm_M), μ M < q → I M → fx_G p l e { frames := 8, cells := 1, slots := 6, locals := 181 } s m ([.ref (ad 331)] : List Value).toArray below meth c D ad cA n0 0 post thr 2 M [(0, .ref (ad 331))] 86 [] := by
      intro q
      induction q with
      | zero => intro M h _; exact absurd h (Nat.not_lt_zero _)
      | succ q ih =>
        intro M hμ hI
        exact blc_86 (fun M' => I M' ∧ μ M' < μ M) M (hB M hI) (fun M' hh => ih M' (Nat.lt_of_lt_of_le hh.2 (Nat.le_of_lt_succ hμ)) hh.1)
    exact key _ M (Nat.lt_succ_self _) hI
  have blc_70 : ∀ (J_70 : (fm_M → Prop)) (M : fm_M), C_Mo_readAll_70 post thr J_70 M → (∀ (M : fm_M), J_70 M → fx_G p l e { frames := 8, cells := 1, slots := 6, locals := 181 } s m ([.ref (ad 331)] : List Value).toArray below meth c D ad cA n0 0 post thr 2 M [(0, .ref (ad 331))] 70 []) → fx_G p l e { frames := 8, cells := 1, slots := 6, locals := 181 } s m ([.ref (ad 331)] : List Value).toArray below meth c D ad cA n0 0 post thr 2 M [(0, .ref (ad 331))] 70 [] := by
    intro J_70 M hw hJ_70 H locs ls w hl
    refine lv_aload_n F.1 F.2.1 d_Mo_readAll_70 rfl (lv_at hl 0 rfl) ?_
    refine fx_c w hno hlk (fx_rV (As := []) (rest := []) F w cl_Mo 331 T_331 (met_Mo_isName l hst9 D ad cA n0 M _ thr hw) e_Mo_isName ki_Mo_isName ks_Mo_isName k_964 rfl hl.1 rfl (Nat.le_of_ble_eq_true rfl) ⟨⟨Nat.le_of_ble_eq_true rfl, Nat.le_of_ble_eq_true rfl⟩, Nat.le_of_ble_eq_true rfl, Nat.le_of_ble_eq_true rfl⟩ d_Mo_readAll_71) (fun r79 M78 hw H locs w => ?_)
    show W p l e _ s m _ below meth c H locs 0 0 _ (F0 m 74 ls [.int (Int32.ofInt r79)])
    obtain ⟨h80, hw⟩ := hw
    refine fi_if_eq F d_Mo_readAll_74 (tgt := 86) (by decide) h80 (fun hc81 => ?_) (fun hc81 => ?_)
    · have hw := hw.1 hc81
      exact blk_86 M78 hw H locs ls w (lv_sub hl [0] rfl)
    · have hw := hw.2 hc81
      refine lv_aload_n F.1 F.2.1 d_Mo_readAll_77 rfl (lv_at hl 0 rfl) ?_
      refine fx_c w hno hlk (fx_rV (As := []) (rest := []) F w cl_Mo 331 T_331 (met_Mo_declare l hst9 D ad cA n0 M78 _ thr hw) e_Mo_declare ki_Mo_declare ks_Mo_declare k_972 rfl hl.1 rfl (Nat.le_of_ble_eq_true rfl) ⟨⟨Nat.le_of_ble_eq_true rfl, Nat.le_of_ble_eq_true rfl⟩, Nat.le_of_ble_eq_true rfl, Nat.le_of_ble_eq_true rfl⟩ d_Mo_readAll_78) (fun r83 M82 hw H locs w => ?_)
      show W p l e _ s m _ below meth c H locs 0 0 _ (F0 m 81 ls [.int (Int32.ofInt r83)])
      obtain ⟨h84, hw⟩ := hw
      refine fi_if_ne F d_Mo_readAll_81 (tgt := 70) (by decide) h84 (fun hc85 => ?_) (fun hc85 => ?_)
      · have hw := hw.1 hc85
        exact hJ_70 M82 hw H locs ls w (lv_sub hl [0] rfl)
      · have hw := hw.2 hc85
        refine lv_iconst (v := Int32.ofInt 0) F.1 F.2.1 d_Mo_readAll_84 (by decide) ?_
        exact fx_zret F w hr hlk (fx_nz (by decide)) hw d_Mo_readAll_85
  have blk_70 : ∀ (M : fm_M), B_Mo_readAll_70 post thr M → fx_G p l e { frames := 8, cells := 1, slots := 6, locals := 181 } s m ([.ref (ad 331)] : List Value).toArray below meth c D ad cA n0 0 post thr 2 M [(0, .ref (ad 331))] 70 [] := by
    intro M hw
    obtain ⟨I, μ, hI, hB⟩ := hw
    have key : ∀ (q : Nat) (M : fm_M), μ M < q → I M → fx_G p l e { frames := 8, cells := 1, slots := 6, locals := 181 } s m ([.ref (ad 331)] : List Value).toArray below meth c D ad cA n0 0 post thr 2 M [(0, .ref (ad 331))] 70 [] := by
      intro q
      induction q with
      | zero => intro M h _; exact absurd h (Nat.not_lt_zero _)
      | succ q ih =>
        intro M hμ hI
        exact blc_70 (fun M' => I M' ∧ μ M' < μ M) M (hB M hI) (fun M' hh => ih M' (Nat.lt_of_lt_of_le hh.2 (Nat.le_of_lt_succ hμ)) hh.1)
    exact key _ M (Nat.lt_succ_self _) hI
  have blc_38 : ∀ (J_38 : (fm_M → Int → Prop)) (M : fm_M) (v1 : Int), C_Mo_readAll_38 post thr J_38 M v1 → (∀ (M : fm_M) (v1 : Int), J_38 M v1 → fx_G p l e { frames := 8, cells := 1, slots := 6, locals := 181 } s m ([.ref (ad 331)] : List Value).toArray below meth c D ad cA n0 0 post thr 2 M [(0, .ref (ad 331)), (1, .int (Int32.ofInt v1))] 38 []) → fx_G p l e { frames := 8, cells := 1, slots := 6, locals := 181 } s m ([.ref (ad 331)] : List Value).toArray below meth c D ad cA n0 0 post thr 2 M [(0, .ref (ad 331)), (1, .int (Int32.ofInt v1))] 38 [] := by
    intro J_38 M v1 hw hJ_38 H locs ls w hl
    refine lv_iload_n F.1 F.2.1 d_Mo_readAll_38 rfl (lv_at hl 1 rfl) ?_
    refine lv_iconst (v := Int32.ofInt 3) F.1 F.2.1 d_Mo_readAll_39 (by decide) ?_
    refine lv_aload_n F.1 F.2.1 d_Mo_readAll_40 rfl (lv_at hl 0 rfl) ?_
    refine fm_gI F w cl_Mo 331 7 T_331 (by decide) rfl k_821 d_Mo_readAll_41 ?_
    refine fi_imul F d_Mo_readAll_44 ?_
    refine lv_iconst (v := Int32.ofInt 3) F.1 F.2.1 d_Mo_readAll_45 (by decide) ?_
    refine fi_iadd F d_Mo_readAll_46 ?_
    obtain ⟨h86, hw⟩ := hw
    obtain ⟨h87, hw⟩ := hw
    refine fi_icmp_ge F d_Mo_readAll_47 (tgt := 70) (by decide) h86 h87 (fun hc88 => ?_) (fun hc88 => ?_)
    · have hw := hw.1 hc88
      exact blk_70 M hw H locs ls w (lv_sub hl [0] rfl)
    · have hw := hw.2 hc88
      refine lv_aload_n F.1 F.2.1 d_Mo_readAll_50 rfl (lv_at hl 0 rfl) ?_
      refine fm_gO F w cl_Mo 331 8 333 T_331 (by decide) rfl rfl k_822 d_Mo_readAll_51 ?_
      refine lv_iload_n F.1 F.2.1 d_Mo_readAll_54 rfl (lv_at hl 1 rfl) ?_
      refine lv_iconst (v := Int32.ofInt 0) F.1 F.2.1 d_Mo_readAll_55 (by decide) ?_
      obtain ⟨h89, hw⟩ := hw
      refine fm_sI F w 333 T_333 (by decide) h89  d_Mo_readAll_56 (fun M90 hM90 H locs w => ?_)
      have hw := hw M90 hM90
      refine lv_aload_n F.1 F.2.1 d_Mo_readAll_57 rfl (lv_at hl 0 rfl) ?_
      refine fm_gO F w cl_Mo 331 9 334 T_331 (by decide) rfl rfl k_823 d_Mo_readAll_58 ?_
      refine lv_iload_n F.1 F.2.1 d_Mo_readAll_61 rfl (lv_at hl 1 rfl) ?_
      refine lv_iconst (v := Int32.ofInt 0) F.1 F.2.1 d_Mo_readAll_62 (by decide) ?_
      refine fm_sI F w 334 T_334 (by decide) h89  d_Mo_readAll_63 (fun M91 hM91 H locs w => ?_)
      have hw := hw M91 hM91
      refine fi_iinc (k := 1) (v := (v1 + 1)) F d_Mo_readAll_64 hl rfl rfl (by decide) rfl (fun ls hl => ?_)
      have hl : lv_has ls 2 [(1, .int (Int32.ofInt (v1 + 1))), (0, .ref (ad 331))] := hl
      refine lv_goto F.1 F.2.1 d_Mo_readAll_67 (tgt := 38) (by decide) ?_
      exact hJ_38 M91 (v1 + 1) hw H locs ls w (lv_sub hl [1, 0] rfl)
  have blk_38 : ∀ (M : fm_M) (v1 : Int), B_Mo_readAll_38 post thr M v1 → fx_G p l e { frames := 8, cells := 1, slots := 6, locals := 181 } s m ([.ref (ad 331)] : List Value).toArray below meth c D ad cA n0 0 post thr 2 M [(0, .ref (ad 331)), (1, .int (Int32.ofInt v1))] 38 [] := by
    intro M v1 hw
    obtain ⟨I, μ, hI, hB⟩ := hw
    have key : ∀ (q : Nat) (M : fm_M) (v1 : Int), μ M v1 < q → I M v1 → fx_G p l e { frames := 8, cells := 1, slots := 6, locals := 181 } s m ([.ref (ad 331)] : List Value).toArray below meth c D ad cA n0 0 post thr 2 M [(0, .ref (ad 331)), (1, .int (Int32.ofInt v1))] 38 [] := by
      intro q
      induction q with
      | zero => intro M v1 h _; exact absurd h (Nat.not_lt_zero _)
      | succ q ih =>
        intro M v1 hμ hI
        exact blc_38 (fun M' v1' => I M' v1' ∧ μ M' v1' < μ M v1) M v1 (hB M v1 hI) (fun M' v1' hh => ih M' v1' (Nat.lt_of_lt_of_le hh.2 (Nat.le_of_lt_succ hμ)) hh.1)
    exact key _ M v1 (Nat.lt_succ_self _) hI
  have blk_18 : ∀ (M : fm_M) (s0 : Int), B_Mo_readAll_18 post thr M s0 → fx_G p l e { frames := 8, cells := 1, slots := 6, locals := 181 } s m ([.ref (ad 331)] : List Value).toArray below meth c D ad cA n0 0 post thr 2 M [(0, .ref (ad 331))] 18 [.int (Int32.ofInt s0), .ref (ad 331)] := by
    intro M s0 hw H locs ls w hl
    refine fm_pI F w cl_Mo 331 7 T_331 (by decide) rfl k_821 rfl rfl d_Mo_readAll_18 (fun M92 hM92 H locs w => ?_)
    have hw := hw M92 hM92
    refine lv_aload_n F.1 F.2.1 d_Mo_readAll_21 rfl (lv_at hl 0 rfl) ?_
    refine fm_gO F w cl_Mo 331 10 335 T_331 (by decide) rfl rfl k_824 d_Mo_readAll_22 ?_
    refine lv_aload_n F.1 F.2.1 d_Mo_readAll_25 rfl (lv_at hl 0 rfl) ?_
    refine fm_gI F w cl_Mo 331 7 T_331 (by decide) rfl k_821 d_Mo_readAll_26 ?_
    refine lv_iconst (v := Int32.ofInt 0) F.1 F.2.1 d_Mo_readAll_29 (by decide) ?_
    obtain ⟨h93, hw⟩ := hw
    refine fm_sI F w 335 T_335 (by decide) h93  d_Mo_readAll_30 (fun M94 hM94 H locs w => ?_)
    have hw := hw M94 hM94
    refine lv_iconst (v := Int32.ofInt 3) F.1 F.2.1 d_Mo_readAll_31 (by decide) ?_
    refine lv_aload_n F.1 F.2.1 d_Mo_readAll_32 rfl (lv_at hl 0 rfl) ?_
    refine fm_gI F w cl_Mo 331 7 T_331 (by decide) rfl k_821 d_Mo_readAll_33 ?_
    refine fi_imul F d_Mo_readAll_36 ?_
    refine lv_istore_n F.1 F.2.1 d_Mo_readAll_37 rfl hl (by decide) rfl (fun ls hl => ?_)
    have hl : lv_has ls 2 [(1, .int (Int32.ofInt (3 * (M94 331 7)))), (0, .ref (ad 331))] := hl
    exact blk_38 M94 (3 * (M94 331 7)) hw H locs ls w (lv_sub hl [1, 0] rfl)
  have hl : lv_has ls 2 [(0, .ref (ad 331))] := hl
  suffices h9 : fx_G p l e { frames := 8, cells := 1, slots := 6, locals := 181 } s m ([.ref (ad 331)] : List Value).toArray below meth c D ad cA n0 0 post thr 2 M [(0, .ref (ad 331))] 0 [] from h9 _ _ _ w hl
  intro H locs ls w hl
  refine lv_aload_n F.1 F.2.1 d_Mo_readAll_0 rfl (lv_at hl 0 rfl) ?_
  refine lv_iconst (v := Int32.ofInt 0) F.1 F.2.1 d_Mo_readAll_1 (by decide) ?_
  refine fm_pI F w cl_Mo 331 3 T_331 (by decide) rfl k_817 rfl rfl d_Mo_readAll_2 (fun M95 hM95 H locs w => ?_)
  have hw := hw M95 hM95
  refine lv_aload_n F.1 F.2.1 d_Mo_readAll_5 rfl (lv_at hl 0 rfl) ?_
  refine lv_aload_n F.1 F.2.1 d_Mo_readAll_6 rfl (lv_at hl 0 rfl) ?_
  refine fm_gI F w cl_Mo 331 6 T_331 (by decide) rfl k_820 d_Mo_readAll_7 ?_
  obtain ⟨h96, hw⟩ := hw
  refine fi_if_ne F d_Mo_readAll_10 (tgt := 17) (by decide) h96 (fun hc97 => ?_) (fun hc97 => ?_)
  · have hw := hw.1 hc97
    refine lv_iconst (v := Int32.ofInt 0) F.1 F.2.1 d_Mo_readAll_17 (by decide) ?_
    exact blk_18 M95 0 hw H locs ls w (lv_sub hl [0] rfl)
  · have hw := hw.2 hc97
    refine lv_iconst (v := Int32.ofInt 1) F.1 F.2.1 d_Mo_readAll_13 (by decide) ?_
    refine lv_goto F.1 F.2.1 d_Mo_readAll_14 (tgt := 18) (by decide) ?_
    exact blk_18 M95 1 hw H locs ls w (lv_sub hl [0] rfl)
set_option maxHeartbeats 4000000 in
set_option maxRecDepth 100000 in
theorem met_Mo_read (l : Launch) (hst9 : l.stackTraces = false) (D : va_G) (ad : Nat → Nat) (cA : Nat → ClassId) (n0 : Nat) (M : fm_M) (post : Int → fm_M → Prop) (thr : String → fm_M → Prop) (hw : wp_Mo_read M post thr) : fx_Met l y_Mo_read (Cond.code y_Mo_read b_Mo_read 1 (some .int) :: tb) { frames := 9, cells := 1, slots := 6, locals := 202 } [.ref (ad 331)] D ad cA n0 M 0 post thr := by
  refine fx_met (by decide) (Nat.le_of_ble_eq_true rfl) (fun p e s m below meth c ls F w hno hr hlk hl => ?_)
  have hl : lv_has ls 1 [(0, .ref (ad 331))] := hl
  suffices h9 : fx_G p l e { frames := 9, cells := 1, slots := 6, locals := 202 } s m ([.ref (ad 331)] : List Value).toArray below meth c D ad cA n0 0 post thr 1 M [(0, .ref (ad 331))] 0 [] from h9 _ _ _ w hl
  intro H locs ls w hl
  refine lv_aload_n F.1 F.2.1 d_Mo_read_0 rfl (lv_at hl 0 rfl) ?_
  refine lv_iconst (v := Int32.ofInt 0) F.1 F.2.1 d_Mo_read_1 (by decide) ?_
  refine fm_pI F w cl_Mo 331 0 T_331 (by decide) rfl k_814 rfl rfl d_Mo_read_2 (fun M14 hM14 H locs w => ?_)
  have hw := hw M14 hM14
  refine lv_aload_n F.1 F.2.1 d_Mo_read_5 rfl (lv_at hl 0 rfl) ?_
  refine fx_c w hno hlk (fx_rV (As := []) (rest := []) F w cl_Mo 331 T_331 (met_Mo_readAll l hst9 D ad cA n0 M14 _ thr hw) e_Mo_readAll ki_Mo_readAll ks_Mo_readAll k_960 rfl hl.1 rfl (Nat.le_of_ble_eq_true rfl) ⟨⟨Nat.le_of_ble_eq_true rfl, Nat.le_of_ble_eq_true rfl⟩, Nat.le_of_ble_eq_true rfl, Nat.le_of_ble_eq_true rfl⟩ d_Mo_read_6) (fun r16 M15 hw H locs w => ?_)
  show W p l e _ s m _ below meth c H locs 0 0 _ (F0 m 9 ls [.int (Int32.ofInt r16)])
  obtain ⟨h17, hw⟩ := hw
  refine fi_if_ne F d_Mo_read_9 (tgt := 18) (by decide) h17 (fun hc18 => ?_) (fun hc18 => ?_)
  · have hw := hw.1 hc18
    refine lv_aload_n F.1 F.2.1 d_Mo_read_18 rfl (lv_at hl 0 rfl) ?_
    refine lv_aload_n F.1 F.2.1 d_Mo_read_19 rfl (lv_at hl 0 rfl) ?_
    refine fm_gI F w cl_Mo 331 7 T_331 (by decide) rfl k_821 d_Mo_read_20 ?_
    refine fm_pI F w cl_Mo 331 6 T_331 (by decide) rfl k_820 rfl rfl d_Mo_read_23 (fun M19 hM19 H locs w => ?_)
    have hw := hw M19 hM19
    refine lv_aload_n F.1 F.2.1 d_Mo_read_26 rfl (lv_at hl 0 rfl) ?_
    refine lv_iconst (v := Int32.ofInt 0) F.1 F.2.1 d_Mo_read_27 (by decide) ?_
    refine fm_pI F w cl_Mo 331 2 T_331 (by decide) rfl k_816 rfl rfl d_Mo_read_28 (fun M20 hM20 H locs w => ?_)
    have hw := hw M20 hM20
    refine lv_aload_n F.1 F.2.1 d_Mo_read_31 rfl (lv_at hl 0 rfl) ?_
    refine lv_iconst (v := Int32.ofInt 0) F.1 F.2.1 d_Mo_read_32 (by decide) ?_
    refine fm_pI F w cl_Mo 331 20 T_331 (by decide) rfl k_834 rfl rfl d_Mo_read_33 (fun M21 hM21 H locs w => ?_)
    have hw := hw M21 hM21
    refine lv_aload_n F.1 F.2.1 d_Mo_read_36 rfl (lv_at hl 0 rfl) ?_
    refine lv_iconst (v := Int32.ofInt (-1)) F.1 F.2.1 d_Mo_read_37 (by decide) ?_
    refine fm_pI F w cl_Mo 331 21 T_331 (by decide) rfl k_835 rfl rfl d_Mo_read_38 (fun M22 hM22 H locs w => ?_)
    have hw := hw M22 hM22
    refine lv_aload_n F.1 F.2.1 d_Mo_read_41 rfl (lv_at hl 0 rfl) ?_
    refine lv_iconst (v := Int32.ofInt 0) F.1 F.2.1 d_Mo_read_42 (by decide) ?_
    refine fm_pZ F w cl_Mo 331 22 T_331 (by decide) rfl k_836 rfl rfl (by decide) d_Mo_read_43 (fun M23 hM23 H locs w => ?_)
    have hw := hw M23 hM23
    refine lv_aload_n F.1 F.2.1 d_Mo_read_46 rfl (lv_at hl 0 rfl) ?_
    refine fm_gO F w cl_Mo 331 10 335 T_331 (by decide) rfl rfl k_824 d_Mo_read_47 ?_
    refine lv_aload_n F.1 F.2.1 d_Mo_read_50 rfl (lv_at hl 0 rfl) ?_
    refine fm_gI F w cl_Mo 331 6 T_331 (by decide) rfl k_820 d_Mo_read_51 ?_
    obtain ⟨h24, hw⟩ := hw
    refine fm_aI F w 335 T_335 (by decide) h24 d_Mo_read_54 ?_
    exact fx_iret F w hr hlk hw d_Mo_read_55
  · have hw := hw.2 hc18
    refine lv_aload_n F.1 F.2.1 d_Mo_read_12 rfl (lv_at hl 0 rfl) ?_
    refine lv_iconst (v := Int32.ofInt 1) F.1 F.2.1 d_Mo_read_13 (by decide) ?_
    refine fx_c w hno hlk (fx_rV (As := [.int (Int32.ofInt 1)]) (rest := []) F w cl_Mo 331 T_331 (met_Mo_refuse l hst9 D ad cA n0 M15 1 _ thr hw) e_Mo_refuse ki_Mo_refuse ks_Mo_refuse k_1027 rfl hl.1 rfl (Nat.le_of_ble_eq_true rfl) ⟨⟨Nat.le_of_ble_eq_true rfl, Nat.le_of_ble_eq_true rfl⟩, Nat.le_of_ble_eq_true rfl, Nat.le_of_ble_eq_true rfl⟩ d_Mo_read_14) (fun r26 M25 hw H locs w => ?_)
    show W p l e _ s m _ below meth c H locs 0 0 _ (F0 m 17 ls [.int (Int32.ofInt r26)])
    exact fx_iret F w hr hlk hw d_Mo_read_17
set_option maxHeartbeats 4000000 in
set_option maxRecDepth 100000 in
theorem met_Mo_place (l : Launch) (hst9 : l.stackTraces = false) (D : va_G) (ad : Nat → Nat) (cA : Nat → ClassId) (n0 : Nat) (M : fm_M) (post : Int → fm_M → Prop) (thr : String → fm_M → Prop) (hw : wp_Mo_place M post thr) : fx_Met l y_Mo_place (Cond.code y_Mo_place b_Mo_place 1 (some .int) :: tb) { frames := 0, cells := 1, slots := 6, locals := 0 } [.ref (ad 331)] D ad cA n0 M 0 post thr := by
  refine fx_met (by decide) (Nat.le_of_ble_eq_true rfl) (fun p e s m below meth c ls F w hno hr hlk hl => ?_)
  have hl : lv_has ls 1 [(0, .ref (ad 331))] := hl
  suffices h9 : fx_G p l e { frames := 0, cells := 1, slots := 6, locals := 0 } s m ([.ref (ad 331)] : List Value).toArray below meth c D ad cA n0 0 post thr 1 M [(0, .ref (ad 331))] 0 [] from h9 _ _ _ w hl
  intro H locs ls w hl
  refine lv_aload_n F.1 F.2.1 d_Mo_place_0 rfl (lv_at hl 0 rfl) ?_
  refine lv_iconst (v := Int32.ofInt 0) F.1 F.2.1 d_Mo_place_1 (by decide) ?_
  refine fm_pI F w cl_Mo 331 0 T_331 (by decide) rfl k_814 rfl rfl d_Mo_place_2 (fun M2 hM2 H locs w => ?_)
  have hw := hw M2 hM2
  refine lv_aload_n F.1 F.2.1 d_Mo_place_5 rfl (lv_at hl 0 rfl) ?_
  refine fm_gI F w cl_Mo 331 4 T_331 (by decide) rfl k_818 d_Mo_place_6 ?_
  exact fx_iret F w hr hlk hw d_Mo_place_9
set_option maxHeartbeats 4000000 in
set_option maxRecDepth 100000 in
theorem met_Mo_sumIn (l : Launch) (hst9 : l.stackTraces = false) (D : va_G) (ad : Nat → Nat) (cA : Nat → ClassId) (n0 : Nat) (M : fm_M) (a1 : Int) (a2 : Int) (post : Int → fm_M → Prop) (thr : String → fm_M → Prop) (hw : wp_Mo_sumIn M a1 a2 post thr) : fx_Met l y_Mo_sumIn (Cond.code y_Mo_sumIn b_Mo_sumIn 6 (some .int) :: tb) { frames := 0, cells := 1, slots := 6, locals := 0 } [.ref (ad 331), .int (Int32.ofInt a1), .int (Int32.ofInt a2)] D ad cA n0 M 0 post thr := by
  refine fx_met (by decide) (Nat.le_of_ble_eq_true rfl) (fun p e s m below meth c ls F w hno hr hlk hl => ?_)
  have blk_86 : ∀ (J_7 : (fm_M → Int → Int → Prop)) (M : fm_M) (v4 : Int) (s0 : Int), B_Mo_sumIn_86 a1 a2 post thr J_7 M v4 s0 → (∀ (M : fm_M) (v3 : Int) (v4 : Int), J_7 M v3 v4 → fx_G p l e { frames := 0, cells := 1, slots := 6, locals := 0 } s m ([.ref (ad 331), .int (Int32.ofInt a1), .int (Int32.ofInt a2)] : List Value).toArray below meth c D ad cA n0 0 post thr 6 M [(0, .ref (ad 331)), (1, .int (Int32.ofInt a1)), (2, .int (Int32.ofInt a2)), (3, .int (Int32.ofInt v3)), (4, .int (Int32.ofInt v4))] 7 []) → fx_G p l e { frames := 0, cells := 1, slots := 6, locals := 0 } s m ([.ref (ad 331), .int (Int32.ofInt a1), .int (Int32.ofInt a2)] : List Value).toArray below meth c D ad cA n0 0 post thr 6 M [(0, .ref (ad 331)), (1, .int (Int32.ofInt a1)), (2, .int (Int32.ofInt a2)), (4, .int (Int32.ofInt v4))] 86 [.int (Int32.ofInt s0)] := by
    intro J_7 M v4 s0 hw hJ_7 H locs ls w hl
    refine lv_istore_n F.1 F.2.1 d_Mo_sumIn_86 rfl hl (by decide) rfl (fun ls hl => ?_)
    have hl : lv_has ls 6 [(3, .int (Int32.ofInt s0)), (0, .ref (ad 331)), (1, .int (Int32.ofInt a1)), (2, .int (Int32.ofInt a2)), (4, .int (Int32.ofInt v4))] := hl
    refine fi_iinc (k := 4) (v := (v4 + 1)) F d_Mo_sumIn_87 hl rfl rfl (by decide) rfl (fun ls hl => ?_)
    have hl : lv_has ls 6 [(4, .int (Int32.ofInt (v4 + 1))), (3, .int (Int32.ofInt s0)), (0, .ref (ad 331)), (1, .int (Int32.ofInt a1)), (2, .int (Int32.ofInt a2))] := hl
    refine lv_goto F.1 F.2.1 d_Mo_sumIn_90 (tgt := 7) (by decide) ?_
    exact hJ_7 M s0 (v4 + 1) hw H locs ls w (lv_sub hl [2, 3, 4, 1, 0] rfl)
  have blk_63 : ∀ (J_7 : (fm_M → Int → Int → Prop)) (M : fm_M) (v3 : Int) (v4 : Int) (s0 : Int), B_Mo_sumIn_63 a1 a2 post thr J_7 M v3 v4 s0 → (∀ (M : fm_M) (v3 : Int) (v4 : Int), J_7 M v3 v4 → fx_G p l e { frames := 0, cells := 1, slots := 6, locals := 0 } s m ([.ref (ad 331), .int (Int32.ofInt a1), .int (Int32.ofInt a2)] : List Value).toArray below meth c D ad cA n0 0 post thr 6 M [(0, .ref (ad 331)), (1, .int (Int32.ofInt a1)), (2, .int (Int32.ofInt a2)), (3, .int (Int32.ofInt v3)), (4, .int (Int32.ofInt v4))] 7 []) → fx_G p l e { frames := 0, cells := 1, slots := 6, locals := 0 } s m ([.ref (ad 331), .int (Int32.ofInt a1), .int (Int32.ofInt a2)] : List Value).toArray below meth c D ad cA n0 0 post thr 6 M [(0, .ref (ad 331)), (1, .int (Int32.ofInt a1)), (2, .int (Int32.ofInt a2)), (3, .int (Int32.ofInt v3)), (4, .int (Int32.ofInt v4))] 63 [.int (Int32.ofInt s0)] := by
    intro J_7 M v3 v4 s0 hw hJ_7 H locs ls w hl
    refine lv_istore F.1 F.2.1 d_Mo_sumIn_63 hl (by decide) rfl (fun ls hl => ?_)
    have hl : lv_has ls 6 [(5, .int (Int32.ofInt s0)), (0, .ref (ad 331)), (1, .int (Int32.ofInt a1)), (2, .int (Int32.ofInt a2)), (3, .int (Int32.ofInt v3)), (4, .int (Int32.ofInt v4))] := hl
    refine lv_aload_n F.1 F.2.1 d_Mo_sumIn_65 rfl (lv_at hl 1 rfl) ?_
    refine fm_gO F w cl_Mo 331 19 344 T_331 (by decide) rfl rfl k_833 d_Mo_sumIn_66 ?_
    refine lv_iload F.1 F.2.1 d_Mo_sumIn_69 (lv_at hl 5 rfl) ?_
    obtain ⟨h23, hw⟩ := hw
    refine fm_aZ F w 344 T_344 (by decide) h23 d_Mo_sumIn_71 ?_
    obtain ⟨h24, hw⟩ := hw
    refine fi_if_eq F d_Mo_sumIn_72 (tgt := 82) (by decide) h24 (fun hc25 => ?_) (fun hc25 => ?_)
    · have hw := hw.1 hc25
      refine lv_iload_n F.1 F.2.1 d_Mo_sumIn_82 rfl (lv_at hl 4 rfl) ?_
      refine lv_iload F.1 F.2.1 d_Mo_sumIn_83 (lv_at hl 0 rfl) ?_
      refine fi_iadd F d_Mo_sumIn_85 ?_
      exact blk_86 J_7 M v4 (v3 + s0) hw hJ_7 H locs ls w (lv_sub hl [1, 2, 3, 5] rfl)
    · have hw := hw.2 hc25
      refine lv_iload_n F.1 F.2.1 d_Mo_sumIn_75 rfl (lv_at hl 4 rfl) ?_
      refine lv_iload F.1 F.2.1 d_Mo_sumIn_76 (lv_at hl 0 rfl) ?_
      refine fi_isub F d_Mo_sumIn_78 ?_
      refine lv_goto F.1 F.2.1 d_Mo_sumIn_79 (tgt := 86) (by decide) ?_
      exact blk_86 J_7 M v4 (v3 - s0) hw hJ_7 H locs ls w (lv_sub hl [1, 2, 3, 5] rfl)
  have blc_7 : ∀ (J_7 : (fm_M → Int → Int → Prop)) (M : fm_M) (v3 : Int) (v4 : Int), C_Mo_sumIn_7 a1 a2 post thr J_7 M v3 v4 → (∀ (M : fm_M) (v3 : Int) (v4 : Int), J_7 M v3 v4 → fx_G p l e { frames := 0, cells := 1, slots := 6, locals := 0 } s m ([.ref (ad 331), .int (Int32.ofInt a1), .int (Int32.ofInt a2)] : List Value).toArray below meth c D ad cA n0 0 post thr 6 M [(0, .ref (ad 331)), (1, .int (Int32.ofInt a1)), (2, .int (Int32.ofInt a2)), (3, .int (Int32.ofInt v3)), (4, .int (Int32.ofInt v4))] 7 []) → fx_G p l e { frames := 0, cells := 1, slots := 6, locals := 0 } s m ([.ref (ad 331), .int (Int32.ofInt a1), .int (Int32.ofInt a2)] : List Value).toArray below meth c D ad cA n0 0 post thr 6 M [(0, .ref (ad 331)), (1, .int (Int32.ofInt a1)), (2, .int (Int32.ofInt a2)), (3, .int (Int32.ofInt v3)), (4, .int (Int32.ofInt v4))] 7 [] := by
    intro J_7 M v3 v4 hw hJ_7 H locs ls w hl
    refine lv_iload F.1 F.2.1 d_Mo_sumIn_7 (lv_at hl 4 rfl) ?_
    refine lv_iconst (v := Int32.ofInt 4) F.1 F.2.1 d_Mo_sumIn_9 (by decide) ?_
    refine lv_iload_n F.1 F.2.1 d_Mo_sumIn_10 rfl (lv_at hl 1 rfl) ?_
    refine fi_imul F d_Mo_sumIn_11 ?_
    refine lv_aload_n F.1 F.2.1 d_Mo_sumIn_12 rfl (lv_at hl 0 rfl) ?_
    refine fm_gO F w cl_Mo 331 17 342 T_331 (by decide) rfl rfl k_831 d_Mo_sumIn_13 ?_
    refine lv_iload_n F.1 F.2.1 d_Mo_sumIn_16 rfl (lv_at hl 1 rfl) ?_
    obtain ⟨h26, hw⟩ := hw
    refine fm_aI F w 342 T_342 (by decide) h26 d_Mo_sumIn_17 ?_
    refine fi_iadd F d_Mo_sumIn_18 ?_
    obtain ⟨h27, hw⟩ := hw
    obtain ⟨h28, hw⟩ := hw
    refine fi_icmp_ge F d_Mo_sumIn_19 (tgt := 93) (by decide) h27 h28 (fun hc29 => ?_) (fun hc29 => ?_)
    · have hw := hw.1 hc29
      refine lv_iload_n F.1 F.2.1 d_Mo_sumIn_93 rfl (lv_at hl 3 rfl) ?_
      exact fx_iret F w hr hlk hw d_Mo_sumIn_94
    · have hw := hw.2 hc29
      refine lv_aload_n F.1 F.2.1 d_Mo_sumIn_22 rfl (lv_at hl 0 rfl) ?_
      refine fm_gO F w cl_Mo 331 18 343 T_331 (by decide) rfl rfl k_832 d_Mo_sumIn_23 ?_
      refine lv_iload F.1 F.2.1 d_Mo_sumIn_26 (lv_at hl 4 rfl) ?_
      obtain ⟨h30, hw⟩ := hw
      refine fm_aI F w 343 T_343 (by decide) h30 d_Mo_sumIn_28 ?_
      refine lv_bipush (v := Int32.ofInt 100) F.1 F.2.1 d_Mo_sumIn_29 (by decide) ?_
      obtain ⟨h31, hw⟩ := hw
      refine fi_icmp_ge F d_Mo_sumIn_31 (tgt := 44) (by decide) h31 (rgl (by decide)) (fun hc32 => ?_) (fun hc32 => ?_)
      · have hw := hw.1 hc32
        refine lv_aload_n F.1 F.2.1 d_Mo_sumIn_44 rfl (lv_at hl 0 rfl) ?_
        refine fm_gO F w cl_Mo 331 23 345 T_331 (by decide) rfl rfl k_837 d_Mo_sumIn_45 ?_
        refine lv_iconst (v := Int32.ofInt 3) F.1 F.2.1 d_Mo_sumIn_48 (by decide) ?_
        refine lv_iload_n F.1 F.2.1 d_Mo_sumIn_49 rfl (lv_at hl 2 rfl) ?_
        refine fi_imul F d_Mo_sumIn_50 ?_
        refine lv_aload_n F.1 F.2.1 d_Mo_sumIn_51 rfl (lv_at hl 0 rfl) ?_
        refine fm_gO F w cl_Mo 331 18 343 T_331 (by decide) rfl rfl k_832 d_Mo_sumIn_52 ?_
        refine lv_iload F.1 F.2.1 d_Mo_sumIn_55 (lv_at hl 4 rfl) ?_
        refine fm_aI F w 343 T_343 (by decide) h30 d_Mo_sumIn_57 ?_
        refine fi_iadd F d_Mo_sumIn_58 ?_
        refine lv_bipush (v := Int32.ofInt 100) F.1 F.2.1 d_Mo_sumIn_59 (by decide) ?_
        refine fi_isub F d_Mo_sumIn_61 ?_
        obtain ⟨h33, hw⟩ := hw
        refine fm_aI F w 345 T_345 (by decide) h33 d_Mo_sumIn_62 ?_
        exact blk_63 J_7 M v3 v4 (M 345 (((3 * a2) + (M 343 v4.toNat)) - 100).toNat) hw hJ_7 H locs ls w (lv_sub hl [0, 1, 2, 3, 4] rfl)
      · have hw := hw.2 hc32
        refine lv_aload_n F.1 F.2.1 d_Mo_sumIn_34 rfl (lv_at hl 0 rfl) ?_
        refine fm_gO F w cl_Mo 331 18 343 T_331 (by decide) rfl rfl k_832 d_Mo_sumIn_35 ?_
        refine lv_iload F.1 F.2.1 d_Mo_sumIn_38 (lv_at hl 4 rfl) ?_
        refine fm_aI F w 343 T_343 (by decide) h30 d_Mo_sumIn_40 ?_
        refine lv_goto F.1 F.2.1 d_Mo_sumIn_41 (tgt := 63) (by decide) ?_
        exact blk_63 J_7 M v3 v4 (M 343 v4.toNat) hw hJ_7 H locs ls w (lv_sub hl [0, 1, 2, 3, 4] rfl)
  have blk_7 : ∀ (M : fm_M) (v3 : Int) (v4 : Int), B_Mo_sumIn_7 a1 a2 post thr M v3 v4 → fx_G p l e { frames := 0, cells := 1, slots := 6, locals := 0 } s m ([.ref (ad 331), .int (Int32.ofInt a1), .int (Int32.ofInt a2)] : List Value).toArray below meth c D ad cA n0 0 post thr 6 M [(0, .ref (ad 331)), (1, .int (Int32.ofInt a1)), (2, .int (Int32.ofInt a2)), (3, .int (Int32.ofInt v3)), (4, .int (Int32.ofInt v4))] 7 [] := by
    intro M v3 v4 hw
    obtain ⟨I, μ, hI, hB⟩ := hw
    have key : ∀ (q : Nat) (M : fm_M) (v3 : Int) (v4 : Int), μ M v3 v4 < q → I M v3 v4 → fx_G p l e { frames := 0, cells := 1, slots := 6, locals := 0 } s m ([.ref (ad 331), .int (Int32.ofInt a1), .int (Int32.ofInt a2)] : List Value).toArray below meth c D ad cA n0 0 post thr 6 M [(0, .ref (ad 331)), (1, .int (Int32.ofInt a1)), (2, .int (Int32.ofInt a2)), (3, .int (Int32.ofInt v3)), (4, .int (Int32.ofInt v4))] 7 [] := by
      intro q
      induction q with
      | zero => intro M v3 v4 h _; exact absurd h (Nat.not_lt_zero _)
      | succ q ih =>
        intro M v3 v4 hμ hI
        exact blc_7 (fun M' v3' v4' => I M' v3' v4' ∧ μ M' v3' v4' < μ M v3 v4) M v3 v4 (hB M v3 v4 hI) (fun M' v3' v4' hh => ih M' v3' v4' (Nat.lt_of_lt_of_le hh.2 (Nat.le_of_lt_succ hμ)) hh.1)
    exact key _ M v3 v4 (Nat.lt_succ_self _) hI
  have hl : lv_has ls 6 [(0, .ref (ad 331)), (1, .int (Int32.ofInt a1)), (2, .int (Int32.ofInt a2))] := hl
  suffices h9 : fx_G p l e { frames := 0, cells := 1, slots := 6, locals := 0 } s m ([.ref (ad 331), .int (Int32.ofInt a1), .int (Int32.ofInt a2)] : List Value).toArray below meth c D ad cA n0 0 post thr 6 M [(0, .ref (ad 331)), (1, .int (Int32.ofInt a1)), (2, .int (Int32.ofInt a2))] 0 [] from h9 _ _ _ w hl
  intro H locs ls w hl
  refine lv_iconst (v := Int32.ofInt 0) F.1 F.2.1 d_Mo_sumIn_0 (by decide) ?_
  refine lv_istore_n F.1 F.2.1 d_Mo_sumIn_1 rfl hl (by decide) rfl (fun ls hl => ?_)
  have hl : lv_has ls 6 [(3, .int (Int32.ofInt 0)), (0, .ref (ad 331)), (1, .int (Int32.ofInt a1)), (2, .int (Int32.ofInt a2))] := hl
  refine lv_iconst (v := Int32.ofInt 4) F.1 F.2.1 d_Mo_sumIn_2 (by decide) ?_
  refine lv_iload_n F.1 F.2.1 d_Mo_sumIn_3 rfl (lv_at hl 2 rfl) ?_
  refine fi_imul F d_Mo_sumIn_4 ?_
  refine lv_istore F.1 F.2.1 d_Mo_sumIn_5 hl (by decide) rfl (fun ls hl => ?_)
  have hl : lv_has ls 6 [(4, .int (Int32.ofInt (4 * a1))), (3, .int (Int32.ofInt 0)), (0, .ref (ad 331)), (1, .int (Int32.ofInt a1)), (2, .int (Int32.ofInt a2))] := hl
  exact blk_7 M 0 (4 * a1) hw H locs ls w (lv_sub hl [2, 3, 4, 1, 0] rfl)
set_option maxHeartbeats 4000000 in
set_option maxRecDepth 100000 in
theorem met_Mo_holds (l : Launch) (hst9 : l.stackTraces = false) (D : va_G) (ad : Nat → Nat) (cA : Nat → ClassId) (n0 : Nat) (M : fm_M) (a1 : Int) (a2 : Int) (post : Int → fm_M → Prop) (thr : String → fm_M → Prop) (hw : wp_Mo_holds M a1 a2 post thr) : fx_Met l y_Mo_holds (Cond.code y_Mo_holds b_Mo_holds 9 (some .boolean) :: tb) { frames := 1, cells := 1, slots := 6, locals := 25 } [.ref (ad 331), .int (Int32.ofInt a1), .int (Int32.ofInt a2)] D ad cA n0 M 0 post thr := by
  refine fx_met (by decide) (Nat.le_of_ble_eq_true rfl) (fun p e s m below meth c ls F w hno hr hlk hl => ?_)
  have blk_152 : ∀ (J_5 : (fm_M → Int → Int → Prop)) (M : fm_M) (v4 : Int) (s0 : Int), B_Mo_holds_152 a1 a2 post thr J_5 M v4 s0 → (∀ (M : fm_M) (v3 : Int) (v4 : Int), J_5 M v3 v4 → fx_G p l e { frames := 1, cells := 1, slots := 6, locals := 25 } s m ([.ref (ad 331), .int (Int32.ofInt a1), .int (Int32.ofInt a2)] : List Value).toArray below meth c D ad cA n0 0 post thr 9 M [(0, .ref (ad 331)), (1, .int (Int32.ofInt a1)), (2, .int (Int32.ofInt a2)), (3, .int (Int32.ofInt v3)), (4, .int (Int32.ofInt v4))] 5 []) → fx_G p l e { frames := 1, cells := 1, slots := 6, locals := 25 } s m ([.ref (ad 331), .int (Int32.ofInt a1), .int (Int32.ofInt a2)] : List Value).toArray below meth c D ad cA n0 0 post thr 9 M [(0, .ref (ad 331)), (1, .int (Int32.ofInt a1)), (2, .int (Int32.ofInt a2)), (4, .int (Int32.ofInt v4))] 152 [.int (Int32.ofInt s0)] := by
    intro J_5 M v4 s0 hw hJ_5 H locs ls w hl
    refine lv_istore_n F.1 F.2.1 d_Mo_holds_152 rfl hl (by decide) rfl (fun ls hl => ?_)
    have hl : lv_has ls 9 [(3, .int (Int32.ofInt s0)), (0, .ref (ad 331)), (1, .int (Int32.ofInt a1)), (2, .int (Int32.ofInt a2)), (4, .int (Int32.ofInt v4))] := hl
    refine fi_iinc (k := 4) (v := (v4 + 1)) F d_Mo_holds_153 hl rfl rfl (by decide) rfl (fun ls hl => ?_)
    have hl : lv_has ls 9 [(4, .int (Int32.ofInt (v4 + 1))), (3, .int (Int32.ofInt s0)), (0, .ref (ad 331)), (1, .int (Int32.ofInt a1)), (2, .int (Int32.ofInt a2))] := hl
    refine lv_goto F.1 F.2.1 d_Mo_holds_156 (tgt := 5) (by decide) ?_
    exact hJ_5 M s0 (v4 + 1) hw H locs ls w (lv_sub hl [2, 3, 4, 1, 0] rfl)
  have blk_147 : ∀ (J_5 : (fm_M → Int → Int → Prop)) (M : fm_M) (v4 : Int), B_Mo_holds_147 a1 a2 post thr J_5 M v4 → (∀ (M : fm_M) (v3 : Int) (v4 : Int), J_5 M v3 v4 → fx_G p l e { frames := 1, cells := 1, slots := 6, locals := 25 } s m ([.ref (ad 331), .int (Int32.ofInt a1), .int (Int32.ofInt a2)] : List Value).toArray below meth c D ad cA n0 0 post thr 9 M [(0, .ref (ad 331)), (1, .int (Int32.ofInt a1)), (2, .int (Int32.ofInt a2)), (3, .int (Int32.ofInt v3)), (4, .int (Int32.ofInt v4))] 5 []) → fx_G p l e { frames := 1, cells := 1, slots := 6, locals := 25 } s m ([.ref (ad 331), .int (Int32.ofInt a1), .int (Int32.ofInt a2)] : List Value).toArray below meth c D ad cA n0 0 post thr 9 M [(0, .ref (ad 331)), (1, .int (Int32.ofInt a1)), (2, .int (Int32.ofInt a2)), (4, .int (Int32.ofInt v4))] 147 [] := by
    intro J_5 M v4 hw hJ_5 H locs ls w hl
    refine lv_iconst (v := Int32.ofInt 1) F.1 F.2.1 d_Mo_holds_147 (by decide) ?_
    refine lv_goto F.1 F.2.1 d_Mo_holds_148 (tgt := 152) (by decide) ?_
    exact blk_152 J_5 M v4 1 hw hJ_5 H locs ls w (lv_sub hl [0, 1, 2, 3] rfl)
  have blc_5 : ∀ (J_5 : (fm_M → Int → Int → Prop)) (M : fm_M) (v3 : Int) (v4 : Int), C_Mo_holds_5 a1 a2 post thr J_5 M v3 v4 → (∀ (M : fm_M) (v3 : Int) (v4 : Int), J_5 M v3 v4 → fx_G p l e { frames := 1, cells := 1, slots := 6, locals := 25 } s m ([.ref (ad 331), .int (Int32.ofInt a1), .int (Int32.ofInt a2)] : List Value).toArray below meth c D ad cA n0 0 post thr 9 M [(0, .ref (ad 331)), (1, .int (Int32.ofInt a1)), (2, .int (Int32.ofInt a2)), (3, .int (Int32.ofInt v3)), (4, .int (Int32.ofInt v4))] 5 []) → fx_G p l e { frames := 1, cells := 1, slots := 6, locals := 25 } s m ([.ref (ad 331), .int (Int32.ofInt a1), .int (Int32.ofInt a2)] : List Value).toArray below meth c D ad cA n0 0 post thr 9 M [(0, .ref (ad 331)), (1, .int (Int32.ofInt a1)), (2, .int (Int32.ofInt a2)), (3, .int (Int32.ofInt v3)), (4, .int (Int32.ofInt v4))] 5 [] := by
    intro J_5 M v3 v4 hw hJ_5 H locs ls w hl
    refine lv_iload F.1 F.2.1 d_Mo_holds_5 (lv_at hl 4 rfl) ?_
    refine lv_aload_n F.1 F.2.1 d_Mo_holds_7 rfl (lv_at hl 0 rfl) ?_
    refine fm_gO F w cl_Mo 331 15 340 T_331 (by decide) rfl rfl k_829 d_Mo_holds_8 ?_
    refine lv_bipush (v := Int32.ofInt 11) F.1 F.2.1 d_Mo_holds_11 (by decide) ?_
    refine lv_aload_n F.1 F.2.1 d_Mo_holds_13 rfl (lv_at hl 0 rfl) ?_
    refine fm_gI F w cl_Mo 331 6 T_331 (by decide) rfl k_820 d_Mo_holds_14 ?_
    refine fi_imul F d_Mo_holds_17 ?_
    refine lv_iload_n F.1 F.2.1 d_Mo_holds_18 rfl (lv_at hl 1 rfl) ?_
    refine fi_iadd F d_Mo_holds_19 ?_
    obtain ⟨h53, hw⟩ := hw
    refine fm_aI F w 340 T_340 (by decide) h53 d_Mo_holds_20 ?_
    obtain ⟨h54, hw⟩ := hw
    obtain ⟨h55, hw⟩ := hw
    refine fi_icmp_ge F d_Mo_holds_21 (tgt := 159) (by decide) h54 h55 (fun hc56 => ?_) (fun hc56 => ?_)
    · have hw := hw.1 hc56
      refine lv_iload_n F.1 F.2.1 d_Mo_holds_159 rfl (lv_at hl 3 rfl) ?_
      obtain ⟨h57, hw⟩ := hw
      exact fx_zret F w hr hlk (fx_nz h57) hw d_Mo_holds_160
    · have hw := hw.2 hc56
      refine lv_sipush (v := Int32.ofInt 208) F.1 F.2.1 d_Mo_holds_24 (by decide) ?_
      refine lv_aload_n F.1 F.2.1 d_Mo_holds_27 rfl (lv_at hl 0 rfl) ?_
      refine fm_gI F w cl_Mo 331 6 T_331 (by decide) rfl k_820 d_Mo_holds_28 ?_
      refine fi_imul F d_Mo_holds_31 ?_
      refine lv_bipush (v := Int32.ofInt 8) F.1 F.2.1 d_Mo_holds_32 (by decide) ?_
      refine lv_iload_n F.1 F.2.1 d_Mo_holds_34 rfl (lv_at hl 1 rfl) ?_
      refine fi_imul F d_Mo_holds_35 ?_
      refine fi_iadd F d_Mo_holds_36 ?_
      refine lv_iconst (v := Int32.ofInt 2) F.1 F.2.1 d_Mo_holds_37 (by decide) ?_
      refine lv_iload F.1 F.2.1 d_Mo_holds_38 (lv_at hl 4 rfl) ?_
      refine fi_imul F d_Mo_holds_40 ?_
      refine fi_iadd F d_Mo_holds_41 ?_
      refine lv_istore F.1 F.2.1 d_Mo_holds_42 hl (by decide) rfl (fun ls hl => ?_)
      have hl : lv_has ls 9 [(5, .int (Int32.ofInt (((208 * (M 331 6)) + (8 * a1)) + (2 * v4)))), (0, .ref (ad 331)), (1, .int (Int32.ofInt a1)), (2, .int (Int32.ofInt a2)), (3, .int (Int32.ofInt v3)), (4, .int (Int32.ofInt v4))] := hl
      refine lv_aload_n F.1 F.2.1 d_Mo_holds_44 rfl (lv_at hl 1 rfl) ?_
      refine lv_iload F.1 F.2.1 d_Mo_holds_45 (lv_at hl 0 rfl) ?_
      refine lv_iload_n F.1 F.2.1 d_Mo_holds_47 rfl (lv_at hl 3 rfl) ?_
      refine fx_c w hno hlk (fx_rV (As := [.int (Int32.ofInt (((208 * (M 331 6)) + (8 * a1)) + (2 * v4))), .int (Int32.ofInt a2)]) (rest := []) F w cl_Mo 331 T_331 (met_Mo_sumIn l hst9 D ad cA n0 M (((208 * (M 331 6)) + (8 * a1)) + (2 * v4)) a2 _ thr hw) e_Mo_sumIn ki_Mo_sumIn ks_Mo_sumIn k_1051 rfl hl.1 rfl (Nat.le_of_ble_eq_true rfl) ⟨⟨Nat.le_of_ble_eq_true rfl, Nat.le_of_ble_eq_true rfl⟩, Nat.le_of_ble_eq_true rfl, Nat.le_of_ble_eq_true rfl⟩ d_Mo_holds_48) (fun r59 M58 hw H locs w => ?_)
      show W p l e _ s m _ below meth c H locs 0 0 _ (F0 m 51 ls [.int (Int32.ofInt r59)])
      refine lv_istore F.1 F.2.1 d_Mo_holds_51 hl (by decide) rfl (fun ls hl => ?_)
      have hl : lv_has ls 9 [(6, .int (Int32.ofInt r59)), (5, .int (Int32.ofInt (((208 * (M 331 6)) + (8 * a1)) + (2 * v4)))), (0, .ref (ad 331)), (1, .int (Int32.ofInt a1)), (2, .int (Int32.ofInt a2)), (3, .int (Int32.ofInt v3)), (4, .int (Int32.ofInt v4))] := hl
      refine lv_aload_n F.1 F.2.1 d_Mo_holds_53 rfl (lv_at hl 2 rfl) ?_
      refine lv_iload F.1 F.2.1 d_Mo_holds_54 (lv_at hl 1 rfl) ?_
      refine lv_iconst (v := Int32.ofInt 1) F.1 F.2.1 d_Mo_holds_56 (by decide) ?_
      refine fi_iadd F d_Mo_holds_57 ?_
      refine lv_iload_n F.1 F.2.1 d_Mo_holds_58 rfl (lv_at hl 4 rfl) ?_
      refine fx_c w hno hlk (fx_rV (As := [.int (Int32.ofInt ((((208 * (M 331 6)) + (8 * a1)) + (2 * v4)) + 1)), .int (Int32.ofInt a2)]) (rest := []) F w cl_Mo 331 T_331 (met_Mo_sumIn l hst9 D ad cA n0 M58 ((((208 * (M 331 6)) + (8 * a1)) + (2 * v4)) + 1) a2 _ thr hw) e_Mo_sumIn ki_Mo_sumIn ks_Mo_sumIn k_1051 rfl hl.1 rfl (Nat.le_of_ble_eq_true rfl) ⟨⟨Nat.le_of_ble_eq_true rfl, Nat.le_of_ble_eq_true rfl⟩, Nat.le_of_ble_eq_true rfl, Nat.le_of_ble_eq_true rfl⟩ d_Mo_holds_59) (fun r61 M60 hw H locs w => ?_)
      show W p l e _ s m _ below meth c H locs 0 0 _ (F0 m 62 ls [.int (Int32.ofInt r61)])
      refine lv_istore F.1 F.2.1 d_Mo_holds_62 hl (by decide) rfl (fun ls hl => ?_)
      have hl : lv_has ls 9 [(7, .int (Int32.ofInt r61)), (6, .int (Int32.ofInt r59)), (5, .int (Int32.ofInt (((208 * (M 331 6)) + (8 * a1)) + (2 * v4)))), (0, .ref (ad 331)), (1, .int (Int32.ofInt a1)), (2, .int (Int32.ofInt a2)), (3, .int (Int32.ofInt v3)), (4, .int (Int32.ofInt v4))] := hl
      refine lv_aload_n F.1 F.2.1 d_Mo_holds_64 rfl (lv_at hl 3 rfl) ?_
      refine fm_gO F w cl_Mo 331 16 341 T_331 (by decide) rfl rfl k_830 d_Mo_holds_65 ?_
      refine lv_bipush (v := Int32.ofInt 44) F.1 F.2.1 d_Mo_holds_68 (by decide) ?_
      refine lv_aload_n F.1 F.2.1 d_Mo_holds_70 rfl (lv_at hl 3 rfl) ?_
      refine fm_gI F w cl_Mo 331 6 T_331 (by decide) rfl k_820 d_Mo_holds_71 ?_
      refine fi_imul F d_Mo_holds_74 ?_
      refine lv_iconst (v := Int32.ofInt 4) F.1 F.2.1 d_Mo_holds_75 (by decide) ?_
      refine lv_iload_n F.1 F.2.1 d_Mo_holds_76 rfl (lv_at hl 4 rfl) ?_
      refine fi_imul F d_Mo_holds_77 ?_
      refine fi_iadd F d_Mo_holds_78 ?_
      refine lv_iload F.1 F.2.1 d_Mo_holds_79 (lv_at hl 7 rfl) ?_
      refine fi_iadd F d_Mo_holds_81 ?_
      obtain ⟨h62, hw⟩ := hw
      refine fm_aI F w 341 T_341 (by decide) h62 d_Mo_holds_82 ?_
      refine lv_istore F.1 F.2.1 d_Mo_holds_83 hl (by decide) rfl (fun ls hl => ?_)
      have hl : lv_has ls 9 [(8, .int (Int32.ofInt (M60 341 (((44 * (M60 331 6)) + (4 * a1)) + v4).toNat))), (7, .int (Int32.ofInt r61)), (6, .int (Int32.ofInt r59)), (5, .int (Int32.ofInt (((208 * (M 331 6)) + (8 * a1)) + (2 * v4)))), (0, .ref (ad 331)), (1, .int (Int32.ofInt a1)), (2, .int (Int32.ofInt a2)), (3, .int (Int32.ofInt v3)), (4, .int (Int32.ofInt v4))] := hl
      refine lv_iload_n F.1 F.2.1 d_Mo_holds_85 rfl (lv_at hl 7 rfl) ?_
      obtain ⟨h63, hw⟩ := hw
      refine fi_if_eq F d_Mo_holds_86 (tgt := 151) (by decide) h63 (fun hc64 => ?_) (fun hc64 => ?_)
      · have hw := hw.1 hc64
        refine lv_iconst (v := Int32.ofInt 0) F.1 F.2.1 d_Mo_holds_151 (by decide) ?_
        exact blk_152 J_5 M60 v4 0 hw hJ_5 H locs ls w (lv_sub hl [4, 5, 6, 8] rfl)
      · have hw := hw.2 hc64
        refine lv_iload F.1 F.2.1 d_Mo_holds_89 (lv_at hl 0 rfl) ?_
        refine lv_bipush (v := Int32.ofInt 60) F.1 F.2.1 d_Mo_holds_91 (by decide) ?_
        obtain ⟨h65, hw⟩ := hw
        refine fi_icmp_ne F d_Mo_holds_93 (tgt := 106) (by decide) h65 (rgl (by decide)) (fun hc66 => ?_) (fun hc66 => ?_)
        · have hw := hw.1 hc66
          refine lv_iload F.1 F.2.1 d_Mo_holds_106 (lv_at hl 0 rfl) ?_
          refine lv_bipush (v := Int32.ofInt 62) F.1 F.2.1 d_Mo_holds_108 (by decide) ?_
          refine fi_icmp_ne F d_Mo_holds_110 (tgt := 123) (by decide) h65 (rgl (by decide)) (fun hc67 => ?_) (fun hc67 => ?_)
          · have hw := hw.1 hc67
            refine lv_iload F.1 F.2.1 d_Mo_holds_123 (lv_at hl 0 rfl) ?_
            refine lv_bipush (v := Int32.ofInt 61) F.1 F.2.1 d_Mo_holds_125 (by decide) ?_
            refine fi_icmp_ne F d_Mo_holds_127 (tgt := 140) (by decide) h65 (rgl (by decide)) (fun hc68 => ?_) (fun hc68 => ?_)
            · have hw := hw.1 hc68
              refine lv_iload F.1 F.2.1 d_Mo_holds_140 (lv_at hl 2 rfl) ?_
              refine lv_iload F.1 F.2.1 d_Mo_holds_142 (lv_at hl 1 rfl) ?_
              obtain ⟨h69, hw⟩ := hw
              obtain ⟨h70, hw⟩ := hw
              refine fi_icmp_eq F d_Mo_holds_144 (tgt := 151) (by decide) h69 h70 (fun hc71 => ?_) (fun hc71 => ?_)
              · have hw := hw.1 hc71
                refine lv_iconst (v := Int32.ofInt 0) F.1 F.2.1 d_Mo_holds_151 (by decide) ?_
                exact blk_152 J_5 M60 v4 0 hw hJ_5 H locs ls w (lv_sub hl [4, 5, 6, 8] rfl)
              · have hw := hw.2 hc71
                exact blk_147 J_5 M60 v4 hw hJ_5 H locs ls w (lv_sub hl [4, 5, 6, 8] rfl)
            · have hw := hw.2 hc68
              refine lv_iload F.1 F.2.1 d_Mo_holds_130 (lv_at hl 2 rfl) ?_
              refine lv_iload F.1 F.2.1 d_Mo_holds_132 (lv_at hl 1 rfl) ?_
              obtain ⟨h72, hw⟩ := hw
              obtain ⟨h73, hw⟩ := hw
              refine fi_icmp_ne F d_Mo_holds_134 (tgt := 151) (by decide) h72 h73 (fun hc74 => ?_) (fun hc74 => ?_)
              · have hw := hw.1 hc74
                refine lv_iconst (v := Int32.ofInt 0) F.1 F.2.1 d_Mo_holds_151 (by decide) ?_
                exact blk_152 J_5 M60 v4 0 hw hJ_5 H locs ls w (lv_sub hl [4, 5, 6, 8] rfl)
              · have hw := hw.2 hc74
                refine lv_goto F.1 F.2.1 d_Mo_holds_137 (tgt := 147) (by decide) ?_
                exact blk_147 J_5 M60 v4 hw hJ_5 H locs ls w (lv_sub hl [4, 5, 6, 8] rfl)
          · have hw := hw.2 hc67
            refine lv_iload F.1 F.2.1 d_Mo_holds_113 (lv_at hl 2 rfl) ?_
            refine lv_iload F.1 F.2.1 d_Mo_holds_115 (lv_at hl 1 rfl) ?_
            obtain ⟨h75, hw⟩ := hw
            obtain ⟨h76, hw⟩ := hw
            refine fi_icmp_le F d_Mo_holds_117 (tgt := 151) (by decide) h75 h76 (fun hc77 => ?_) (fun hc77 => ?_)
            · have hw := hw.1 hc77
              refine lv_iconst (v := Int32.ofInt 0) F.1 F.2.1 d_Mo_holds_151 (by decide) ?_
              exact blk_152 J_5 M60 v4 0 hw hJ_5 H locs ls w (lv_sub hl [4, 5, 6, 8] rfl)
            · have hw := hw.2 hc77
              refine lv_goto F.1 F.2.1 d_Mo_holds_120 (tgt := 147) (by decide) ?_
              exact blk_147 J_5 M60 v4 hw hJ_5 H locs ls w (lv_sub hl [4, 5, 6, 8] rfl)
        · have hw := hw.2 hc66
          refine lv_iload F.1 F.2.1 d_Mo_holds_96 (lv_at hl 2 rfl) ?_
          refine lv_iload F.1 F.2.1 d_Mo_holds_98 (lv_at hl 1 rfl) ?_
          obtain ⟨h78, hw⟩ := hw
          obtain ⟨h79, hw⟩ := hw
          refine fi_icmp_ge F d_Mo_holds_100 (tgt := 151) (by decide) h78 h79 (fun hc80 => ?_) (fun hc80 => ?_)
          · have hw := hw.1 hc80
            refine lv_iconst (v := Int32.ofInt 0) F.1 F.2.1 d_Mo_holds_151 (by decide) ?_
            exact blk_152 J_5 M60 v4 0 hw hJ_5 H locs ls w (lv_sub hl [4, 5, 6, 8] rfl)
          · have hw := hw.2 hc80
            refine lv_goto F.1 F.2.1 d_Mo_holds_103 (tgt := 147) (by decide) ?_
            exact blk_147 J_5 M60 v4 hw hJ_5 H locs ls w (lv_sub hl [4, 5, 6, 8] rfl)
  have blk_5 : ∀ (M : fm_M) (v3 : Int) (v4 : Int), B_Mo_holds_5 a1 a2 post thr M v3 v4 → fx_G p l e { frames := 1, cells := 1, slots := 6, locals := 25 } s m ([.ref (ad 331), .int (Int32.ofInt a1), .int (Int32.ofInt a2)] : List Value).toArray below meth c D ad cA n0 0 post thr 9 M [(0, .ref (ad 331)), (1, .int (Int32.ofInt a1)), (2, .int (Int32.ofInt a2)), (3, .int (Int32.ofInt v3)), (4, .int (Int32.ofInt v4))] 5 [] := by
    intro M v3 v4 hw
    obtain ⟨I, μ, hI, hB⟩ := hw
    have key : ∀ (q : Nat) (M : fm_M) (v3 : Int) (v4 : Int), μ M v3 v4 < q → I M v3 v4 → fx_G p l e { frames := 1, cells := 1, slots := 6, locals := 25 } s m ([.ref (ad 331), .int (Int32.ofInt a1), .int (Int32.ofInt a2)] : List Value).toArray below meth c D ad cA n0 0 post thr 9 M [(0, .ref (ad 331)), (1, .int (Int32.ofInt a1)), (2, .int (Int32.ofInt a2)), (3, .int (Int32.ofInt v3)), (4, .int (Int32.ofInt v4))] 5 [] := by
      intro q
      induction q with
      | zero => intro M v3 v4 h _; exact absurd h (Nat.not_lt_zero _)
      | succ q ih =>
        intro M v3 v4 hμ hI
        exact blc_5 (fun M' v3' v4' => I M' v3' v4' ∧ μ M' v3' v4' < μ M v3 v4) M v3 v4 (hB M v3 v4 hI) (fun M' v3' v4' hh => ih M' v3' v4' (Nat.lt_of_lt_of_le hh.2 (Nat.le_of_lt_succ hμ)) hh.1)
    exact key _ M v3 v4 (Nat.lt_succ_self _) hI
  have hl : lv_has ls 9 [(0, .ref (ad 331)), (1, .int (Int32.ofInt a1)), (2, .int (Int32.ofInt a2))] := hl
  suffices h9 : fx_G p l e { frames := 1, cells := 1, slots := 6, locals := 25 } s m ([.ref (ad 331), .int (Int32.ofInt a1), .int (Int32.ofInt a2)] : List Value).toArray below meth c D ad cA n0 0 post thr 9 M [(0, .ref (ad 331)), (1, .int (Int32.ofInt a1)), (2, .int (Int32.ofInt a2))] 0 [] from h9 _ _ _ w hl
  intro H locs ls w hl
  refine lv_iconst (v := Int32.ofInt 1) F.1 F.2.1 d_Mo_holds_0 (by decide) ?_
  refine lv_istore_n F.1 F.2.1 d_Mo_holds_1 rfl hl (by decide) rfl (fun ls hl => ?_)
  have hl : lv_has ls 9 [(3, .int (Int32.ofInt 1)), (0, .ref (ad 331)), (1, .int (Int32.ofInt a1)), (2, .int (Int32.ofInt a2))] := hl
  refine lv_iconst (v := Int32.ofInt 0) F.1 F.2.1 d_Mo_holds_2 (by decide) ?_
  refine lv_istore F.1 F.2.1 d_Mo_holds_3 hl (by decide) rfl (fun ls hl => ?_)
  have hl : lv_has ls 9 [(4, .int (Int32.ofInt 0)), (3, .int (Int32.ofInt 1)), (0, .ref (ad 331)), (1, .int (Int32.ofInt a1)), (2, .int (Int32.ofInt a2))] := hl
  exact blk_5 M 1 0 hw H locs ls w (lv_sub hl [2, 3, 4, 1, 0] rfl)
set_option maxHeartbeats 4000000 in
set_option maxRecDepth 100000 in
theorem met_Mo_find (l : Launch) (hst9 : l.stackTraces = false) (D : va_G) (ad : Nat → Nat) (cA : Nat → ClassId) (n0 : Nat) (M : fm_M) (post : Int → fm_M → Prop) (thr : String → fm_M → Prop) (hw : wp_Mo_find M post thr) : fx_Met l y_Mo_find (Cond.code y_Mo_find b_Mo_find 2 (some .int) :: tb) { frames := 2, cells := 1, slots := 6, locals := 53 } [.ref (ad 331)] D ad cA n0 M 0 post thr := by
  refine fx_met (by decide) (Nat.le_of_ble_eq_true rfl) (fun p e s m below meth c ls F w hno hr hlk hl => ?_)
  have blc_163 : ∀ (J_163 : (fm_M → Int → Prop)) (M : fm_M) (v1 : Int), C_Mo_find_163 post thr J_163 M v1 → (∀ (M : fm_M) (v1 : Int), J_163 M v1 → fx_G p l e { frames := 2, cells := 1, slots := 6, locals := 53 } s m ([.ref (ad 331)] : List Value).toArray below meth c D ad cA n0 0 post thr 2 M [(0, .ref (ad 331)), (1, .int (Int32.ofInt v1))] 163 []) → fx_G p l e { frames := 2, cells := 1, slots := 6, locals := 53 } s m ([.ref (ad 331)] : List Value).toArray below meth c D ad cA n0 0 post thr 2 M [(0, .ref (ad 331)), (1, .int (Int32.ofInt v1))] 163 [] := by
    intro J_163 M v1 hw hJ_163 H locs ls w hl
    refine lv_iload_n F.1 F.2.1 d_Mo_find_163 rfl (lv_at hl 1 rfl) ?_
    refine lv_bipush (v := Int32.ofInt 40) F.1 F.2.1 d_Mo_find_164 (by decide) ?_
    refine lv_aload_n F.1 F.2.1 d_Mo_find_166 rfl (lv_at hl 0 rfl) ?_
    refine fm_gI F w cl_Mo 331 20 T_331 (by decide) rfl k_834 d_Mo_find_167 ?_
    refine fi_imul F d_Mo_find_170 ?_
    refine lv_bipush (v := Int32.ofInt 40) F.1 F.2.1 d_Mo_find_171 (by decide) ?_
    refine fi_iadd F d_Mo_find_173 ?_
    obtain ⟨h51, hw⟩ := hw
    obtain ⟨h52, hw⟩ := hw
    refine fi_icmp_ge F d_Mo_find_174 (tgt := 190) (by decide) h51 h52 (fun hc53 => ?_) (fun hc53 => ?_)
    · have hw := hw.1 hc53
      refine lv_aload_n F.1 F.2.1 d_Mo_find_190 rfl (lv_at hl 0 rfl) ?_
      refine lv_dup F.1 F.2.1 d_Mo_find_191 rfl ?_
      refine fm_gI F w cl_Mo 331 20 T_331 (by decide) rfl k_834 d_Mo_find_192 ?_
      refine lv_iconst (v := Int32.ofInt 1) F.1 F.2.1 d_Mo_find_195 (by decide) ?_
      refine fi_iadd F d_Mo_find_196 ?_
      refine fm_pI F w cl_Mo 331 20 T_331 (by decide) rfl k_834 rfl rfl d_Mo_find_197 (fun M54 hM54 H locs w => ?_)
      have hw := hw M54 hM54
      refine lv_aload_n F.1 F.2.1 d_Mo_find_200 rfl (lv_at hl 0 rfl) ?_
      refine fm_gI F w cl_Mo 331 20 T_331 (by decide) rfl k_834 d_Mo_find_201 ?_
      refine lv_iconst (v := Int32.ofInt 1) F.1 F.2.1 d_Mo_find_204 (by decide) ?_
      refine fi_isub F d_Mo_find_205 ?_
      exact fx_iret F w hr hlk hw d_Mo_find_206
    · have hw := hw.2 hc53
      refine lv_aload_n F.1 F.2.1 d_Mo_find_177 rfl (lv_at hl 0 rfl) ?_
      refine fm_gO F w cl_Mo 331 28 350 T_331 (by decide) rfl rfl k_842 d_Mo_find_178 ?_
      refine lv_iload_n F.1 F.2.1 d_Mo_find_181 rfl (lv_at hl 1 rfl) ?_
      refine lv_iconst (v := Int32.ofInt (-1)) F.1 F.2.1 d_Mo_find_182 (by decide) ?_
      obtain ⟨h55, hw⟩ := hw
      refine fm_sI F w 350 T_350 (by decide) h55  d_Mo_find_183 (fun M56 hM56 H locs w => ?_)
      have hw := hw M56 hM56
      refine fi_iinc (k := 1) (v := (v1 + 1)) F d_Mo_find_184 hl rfl rfl (by decide) rfl (fun ls hl => ?_)
      have hl : lv_has ls 2 [(1, .int (Int32.ofInt (v1 + 1))), (0, .ref (ad 331))] := hl
      refine lv_goto F.1 F.2.1 d_Mo_find_187 (tgt := 163) (by decide) ?_
      exact hJ_163 M56 (v1 + 1) hw H locs ls w (lv_sub hl [1, 0] rfl)
  have blk_163 : ∀ (M : fm_M) (v1 : Int), B_Mo_find_163 post thr M v1 → fx_G p l e { frames := 2, cells := 1, slots := 6, locals := 53 } s m ([.ref (ad 331)] : List Value).toArray below meth c D ad cA n0 0 post thr 2 M [(0, .ref (ad 331)), (1, .int (Int32.ofInt v1))] 163 [] := by
    intro M v1 hw
    obtain ⟨I, μ, hI, hB⟩ := hw
    have key : ∀ (q : Nat) (M : fm_M) (v1 : Int), μ M v1 < q → I M v1 → fx_G p l e { frames := 2, cells := 1, slots := 6, locals := 53 } s m ([.ref (ad 331)] : List Value).toArray below meth c D ad cA n0 0 post thr 2 M [(0, .ref (ad 331)), (1, .int (Int32.ofInt v1))] 163 [] := by
      intro q
      induction q with
      | zero => intro M v1 h _; exact absurd h (Nat.not_lt_zero _)
      | succ q ih =>
        intro M v1 hμ hI
        exact blc_163 (fun M' v1' => I M' v1' ∧ μ M' v1' < μ M v1) M v1 (hB M v1 hI) (fun M' v1' hh => ih M' v1' (Nat.lt_of_lt_of_le hh.2 (Nat.le_of_lt_succ hμ)) hh.1)
    exact key _ M v1 (Nat.lt_succ_self _) hI
  have blc_86 : ∀ (J_86 : (fm_M → Int → Prop)) (M : fm_M) (v1 : Int), C_Mo_find_86 post thr J_86 M v1 → (∀ (M : fm_M) (v1 : Int), J_86 M v1 → fx_G p l e { frames := 2, cells := 1, slots := 6, locals := 53 } s m ([.ref (ad 331)] : List Value).toArray below meth c D ad cA n0 0 post thr 2 M [(0, .ref (ad 331)), (1, .int (Int32.ofInt v1))] 86 []) → fx_G p l e { frames := 2, cells := 1, slots := 6, locals := 53 } s m ([.ref (ad 331)] : List Value).toArray below meth c D ad cA n0 0 post thr 2 M [(0, .ref (ad 331)), (1, .int (Int32.ofInt v1))] 86 [] := by
    intro J_86 M v1 hw hJ_86 H locs ls w hl
    refine lv_iload_n F.1 F.2.1 d_Mo_find_86 rfl (lv_at hl 1 rfl) ?_
    refine lv_iconst (v := Int32.ofInt 3) F.1 F.2.1 d_Mo_find_87 (by decide) ?_
    obtain ⟨h57, hw⟩ := hw
    refine fi_icmp_ge F d_Mo_find_88 (tgt := 116) (by decide) h57 (rgl (by decide)) (fun hc58 => ?_) (fun hc58 => ?_)
    · have hw := hw.1 hc58
      refine lv_aload_n F.1 F.2.1 d_Mo_find_116 rfl (lv_at hl 0 rfl) ?_
      refine fm_gO F w cl_Mo 331 24 346 T_331 (by decide) rfl rfl k_838 d_Mo_find_117 ?_
      refine lv_aload_n F.1 F.2.1 d_Mo_find_120 rfl (lv_at hl 0 rfl) ?_
      refine fm_gI F w cl_Mo 331 20 T_331 (by decide) rfl k_834 d_Mo_find_121 ?_
      refine lv_aload_n F.1 F.2.1 d_Mo_find_124 rfl (lv_at hl 0 rfl) ?_
      refine lv_bipush (v := Int32.ofInt 10) F.1 F.2.1 d_Mo_find_125 (by decide) ?_
      refine lv_aload_n F.1 F.2.1 d_Mo_find_127 rfl (lv_at hl 0 rfl) ?_
      refine fm_gI F w cl_Mo 331 20 T_331 (by decide) rfl k_834 d_Mo_find_128 ?_
      refine fx_c w hno hlk (fx_rV (As := [.int (Int32.ofInt 10), .int (Int32.ofInt (M 331 20))]) (rest := [.int (Int32.ofInt (M 331 20)), .ref (ad 346)]) F w cl_Mo 331 T_331 (met_Mo_holds l hst9 D ad cA n0 M 10 (M 331 20) _ thr hw) e_Mo_holds ki_Mo_holds ks_Mo_holds k_1047 rfl hl.1 rfl (Nat.le_of_ble_eq_true rfl) ⟨⟨Nat.le_of_ble_eq_true rfl, Nat.le_of_ble_eq_true rfl⟩, Nat.le_of_ble_eq_true rfl, Nat.le_of_ble_eq_true rfl⟩ d_Mo_find_131) (fun r60 M59 hw H locs w => ?_)
      show W p l e _ s m _ below meth c H locs 0 0 _ (F0 m 134 ls [.int (Int32.ofInt r60), .int (Int32.ofInt (M 331 20)), .ref (ad 346)])
      obtain ⟨h61, hw⟩ := hw
      obtain ⟨h62, hw⟩ := hw
      refine fm_sZ F w 346 T_346 (by decide) h61 h62 d_Mo_find_134 (fun M63 hM63 H locs w => ?_)
      have hw := hw M63 hM63
      refine lv_aload_n F.1 F.2.1 d_Mo_find_135 rfl (lv_at hl 0 rfl) ?_
      refine fm_gO F w cl_Mo 331 27 349 T_331 (by decide) rfl rfl k_841 d_Mo_find_136 ?_
      refine lv_aload_n F.1 F.2.1 d_Mo_find_139 rfl (lv_at hl 0 rfl) ?_
      refine fm_gI F w cl_Mo 331 20 T_331 (by decide) rfl k_834 d_Mo_find_140 ?_
      refine lv_iconst (v := Int32.ofInt 0) F.1 F.2.1 d_Mo_find_143 (by decide) ?_
      obtain ⟨h64, hw⟩ := hw
      refine fm_sI F w 349 T_349 (by decide) h64  d_Mo_find_144 (fun M65 hM65 H locs w => ?_)
      have hw := hw M65 hM65
      refine lv_aload_n F.1 F.2.1 d_Mo_find_145 rfl (lv_at hl 0 rfl) ?_
      refine fm_gO F w cl_Mo 331 25 347 T_331 (by decide) rfl rfl k_839 d_Mo_find_146 ?_
      refine lv_aload_n F.1 F.2.1 d_Mo_find_149 rfl (lv_at hl 0 rfl) ?_
      refine fm_gI F w cl_Mo 331 20 T_331 (by decide) rfl k_834 d_Mo_find_150 ?_
      refine lv_iconst (v := Int32.ofInt 0) F.1 F.2.1 d_Mo_find_153 (by decide) ?_
      obtain ⟨h66, hw⟩ := hw
      refine fm_sZ F w 347 T_347 (by decide) h66 (by decide) d_Mo_find_154 (fun M67 hM67 H locs w => ?_)
      have hw := hw M67 hM67
      refine lv_bipush (v := Int32.ofInt 40) F.1 F.2.1 d_Mo_find_155 (by decide) ?_
      refine lv_aload_n F.1 F.2.1 d_Mo_find_157 rfl (lv_at hl 0 rfl) ?_
      refine fm_gI F w cl_Mo 331 20 T_331 (by decide) rfl k_834 d_Mo_find_158 ?_
      refine fi_imul F d_Mo_find_161 ?_
      refine lv_istore_n F.1 F.2.1 d_Mo_find_162 rfl hl (by decide) rfl (fun ls hl => ?_)
      have hl : lv_has ls 2 [(1, .int (Int32.ofInt (40 * (M67 331 20)))), (0, .ref (ad 331))] := hl
      exact blk_163 M67 (40 * (M67 331 20)) hw H locs ls w (lv_sub hl [1, 0] rfl)
    · have hw := hw.2 hc58
      refine lv_aload_n F.1 F.2.1 d_Mo_find_91 rfl (lv_at hl 0 rfl) ?_
      refine fm_gO F w cl_Mo 331 23 345 T_331 (by decide) rfl rfl k_837 d_Mo_find_92 ?_
      refine lv_iconst (v := Int32.ofInt 3) F.1 F.2.1 d_Mo_find_95 (by decide) ?_
      refine lv_aload_n F.1 F.2.1 d_Mo_find_96 rfl (lv_at hl 0 rfl) ?_
      refine fm_gI F w cl_Mo 331 20 T_331 (by decide) rfl k_834 d_Mo_find_97 ?_
      refine fi_imul F d_Mo_find_100 ?_
      refine lv_iload_n F.1 F.2.1 d_Mo_find_101 rfl (lv_at hl 1 rfl) ?_
      refine fi_iadd F d_Mo_find_102 ?_
      refine lv_aload_n F.1 F.2.1 d_Mo_find_103 rfl (lv_at hl 0 rfl) ?_
      refine fm_gO F w cl_Mo 331 29 351 T_331 (by decide) rfl rfl k_843 d_Mo_find_104 ?_
      refine lv_iload_n F.1 F.2.1 d_Mo_find_107 rfl (lv_at hl 1 rfl) ?_
      obtain ⟨h68, hw⟩ := hw
      refine fm_aI F w 351 T_351 (by decide) h68 d_Mo_find_108 ?_
      obtain ⟨h69, hw⟩ := hw
      refine fm_sI F w 345 T_345 (by decide) h69  d_Mo_find_109 (fun M70 hM70 H locs w => ?_)
      have hw := hw M70 hM70
      refine fi_iinc (k := 1) (v := (v1 + 1)) F d_Mo_find_110 hl rfl rfl (by decide) rfl (fun ls hl => ?_)
      have hl : lv_has ls 2 [(1, .int (Int32.ofInt (v1 + 1))), (0, .ref (ad 331))] := hl
      refine lv_goto F.1 F.2.1 d_Mo_find_113 (tgt := 86) (by decide) ?_
      exact hJ_86 M70 (v1 + 1) hw H locs ls w (lv_sub hl [1, 0] rfl)
  have blk_86 : ∀ (M : fm_M) (v1 : Int), B_Mo_find_86 post thr M v1 → fx_G p l e { frames := 2, cells := 1, slots := 6, locals := 53 } s m ([.ref (ad 331)] : List Value).toArray below meth c D ad cA n0 0 post thr 2 M [(0, .ref (ad 331)), (1, .int (Int32.ofInt v1))] 86 [] := by
    intro M v1 hw
    obtain ⟨I, μ, hI, hB⟩ := hw
    have key : ∀ (q : Nat) (M : fm_M) (v1 : Int), μ M v1 < q → I M v1 → fx_G p l e { frames := 2, cells := 1, slots := 6, locals := 53 } s m ([.ref (ad 331)] : List Value).toArray below meth c D ad cA n0 0 post thr 2 M [(0, .ref (ad 331)), (1, .int (Int32.ofInt v1))] 86 [] := by
      intro q
      induction q with
      | zero => intro M v1 h _; exact absurd h (Nat.not_lt_zero _)
      | succ q ih =>
        intro M v1 hμ hI
        exact blc_86 (fun M' v1' => I M' v1' ∧ μ M' v1' < μ M v1) M v1 (hB M v1 hI) (fun M' v1' hh => ih M' v1' (Nat.lt_of_lt_of_le hh.2 (Nat.le_of_lt_succ hμ)) hh.1)
    exact key _ M v1 (Nat.lt_succ_self _) hI
  have blc_2 : ∀ (J_2 : (fm_M → Int → Prop)) (M : fm_M) (v1 : Int), C_Mo_find_2 post thr J_2 M v1 → (∀ (M : fm_M) (v1 : Int), J_2 M v1 → fx_G p l e { frames := 2, cells := 1, slots := 6, locals := 53 } s m ([.ref (ad 331)] : List Value).toArray below meth c D ad cA n0 0 post thr 2 M [(0, .ref (ad 331)), (1, .int (Int32.ofInt v1))] 2 []) → fx_G p l e { frames := 2, cells := 1, slots := 6, locals := 53 } s m ([.ref (ad 331)] : List Value).toArray below meth c D ad cA n0 0 post thr 2 M [(0, .ref (ad 331)), (1, .int (Int32.ofInt v1))] 2 [] := by
    intro J_2 M v1 hw hJ_2 H locs ls w hl
    refine lv_iload_n F.1 F.2.1 d_Mo_find_2 rfl (lv_at hl 1 rfl) ?_
    refine lv_aload_n F.1 F.2.1 d_Mo_find_3 rfl (lv_at hl 0 rfl) ?_
    refine fm_gI F w cl_Mo 331 20 T_331 (by decide) rfl k_834 d_Mo_find_4 ?_
    obtain ⟨h71, hw⟩ := hw
    obtain ⟨h72, hw⟩ := hw
    refine fi_icmp_ge F d_Mo_find_7 (tgt := 73) (by decide) h71 h72 (fun hc73 => ?_) (fun hc73 => ?_)
    · have hw := hw.1 hc73
      refine lv_aload_n F.1 F.2.1 d_Mo_find_73 rfl (lv_at hl 0 rfl) ?_
      refine fm_gI F w cl_Mo 331 20 T_331 (by decide) rfl k_834 d_Mo_find_74 ?_
      refine lv_bipush (v := Int32.ofInt 8) F.1 F.2.1 d_Mo_find_77 (by decide) ?_
      refine fi_icmp_ne F d_Mo_find_79 (tgt := 84) (by decide) h72 (rgl (by decide)) (fun hc74 => ?_) (fun hc74 => ?_)
      · have hw := hw.1 hc74
        refine lv_iconst (v := Int32.ofInt 0) F.1 F.2.1 d_Mo_find_84 (by decide) ?_
        refine lv_istore_n F.1 F.2.1 d_Mo_find_85 rfl hl (by decide) rfl (fun ls hl => ?_)
        have hl : lv_has ls 2 [(1, .int (Int32.ofInt 0)), (0, .ref (ad 331))] := hl
        exact blk_86 M 0 hw H locs ls w (lv_sub hl [1, 0] rfl)
      · have hw := hw.2 hc74
        refine lv_iconst (v := Int32.ofInt (-1)) F.1 F.2.1 d_Mo_find_82 (by decide) ?_
        exact fx_iret F w hr hlk hw d_Mo_find_83
    · have hw := hw.2 hc73
      refine lv_aload_n F.1 F.2.1 d_Mo_find_10 rfl (lv_at hl 0 rfl) ?_
      refine fm_gO F w cl_Mo 331 23 345 T_331 (by decide) rfl rfl k_837 d_Mo_find_11 ?_
      refine lv_iconst (v := Int32.ofInt 3) F.1 F.2.1 d_Mo_find_14 (by decide) ?_
      refine lv_iload_n F.1 F.2.1 d_Mo_find_15 rfl (lv_at hl 1 rfl) ?_
      refine fi_imul F d_Mo_find_16 ?_
      obtain ⟨h75, hw⟩ := hw
      refine fm_aI F w 345 T_345 (by decide) h75 d_Mo_find_17 ?_
      refine lv_aload_n F.1 F.2.1 d_Mo_find_18 rfl (lv_at hl 0 rfl) ?_
      refine fm_gO F w cl_Mo 331 29 351 T_331 (by decide) rfl rfl k_843 d_Mo_find_19 ?_
      refine lv_iconst (v := Int32.ofInt 0) F.1 F.2.1 d_Mo_find_22 (by decide) ?_
      refine fm_aI F w 351 T_351 (by decide) ⟨by decide, by decide⟩ d_Mo_find_23 ?_
      obtain ⟨h76, hw⟩ := hw
      obtain ⟨h77, hw⟩ := hw
      refine fi_icmp_ne F d_Mo_find_24 (tgt := 67) (by decide) h76 h77 (fun hc78 => ?_) (fun hc78 => ?_)
      · have hw := hw.1 hc78
        refine fi_iinc (k := 1) (v := (v1 + 1)) F d_Mo_find_67 hl rfl rfl (by decide) rfl (fun ls hl => ?_)
        have hl : lv_has ls 2 [(1, .int (Int32.ofInt (v1 + 1))), (0, .ref (ad 331))] := hl
        refine lv_goto F.1 F.2.1 d_Mo_find_70 (tgt := 2) (by decide) ?_
        exact hJ_2 M (v1 + 1) hw H locs ls w (lv_sub hl [1, 0] rfl)
      · have hw := hw.2 hc78
        refine lv_aload_n F.1 F.2.1 d_Mo_find_27 rfl (lv_at hl 0 rfl) ?_
        refine fm_gO F w cl_Mo 331 23 345 T_331 (by decide) rfl rfl k_837 d_Mo_find_28 ?_
        refine lv_iconst (v := Int32.ofInt 3) F.1 F.2.1 d_Mo_find_31 (by decide) ?_
        refine lv_iload_n F.1 F.2.1 d_Mo_find_32 rfl (lv_at hl 1 rfl) ?_
        refine fi_imul F d_Mo_find_33 ?_
        refine lv_iconst (v := Int32.ofInt 1) F.1 F.2.1 d_Mo_find_34 (by decide) ?_
        refine fi_iadd F d_Mo_find_35 ?_
        obtain ⟨h79, hw⟩ := hw
        refine fm_aI F w 345 T_345 (by decide) h79 d_Mo_find_36 ?_
        refine lv_aload_n F.1 F.2.1 d_Mo_find_37 rfl (lv_at hl 0 rfl) ?_
        refine fm_gO F w cl_Mo 331 29 351 T_331 (by decide) rfl rfl k_843 d_Mo_find_38 ?_
        refine lv_iconst (v := Int32.ofInt 1) F.1 F.2.1 d_Mo_find_41 (by decide) ?_
        refine fm_aI F w 351 T_351 (by decide) ⟨by decide, by decide⟩ d_Mo_find_42 ?_
        obtain ⟨h80, hw⟩ := hw
        obtain ⟨h81, hw⟩ := hw
        refine fi_icmp_ne F d_Mo_find_43 (tgt := 67) (by decide) h80 h81 (fun hc82 => ?_) (fun hc82 => ?_)
        · have hw := hw.1 hc82
          refine fi_iinc (k := 1) (v := (v1 + 1)) F d_Mo_find_67 hl rfl rfl (by decide) rfl (fun ls hl => ?_)
          have hl : lv_has ls 2 [(1, .int (Int32.ofInt (v1 + 1))), (0, .ref (ad 331))] := hl
          refine lv_goto F.1 F.2.1 d_Mo_find_70 (tgt := 2) (by decide) ?_
          exact hJ_2 M (v1 + 1) hw H locs ls w (lv_sub hl [1, 0] rfl)
        · have hw := hw.2 hc82
          refine lv_aload_n F.1 F.2.1 d_Mo_find_46 rfl (lv_at hl 0 rfl) ?_
          refine fm_gO F w cl_Mo 331 23 345 T_331 (by decide) rfl rfl k_837 d_Mo_find_47 ?_
          refine lv_iconst (v := Int32.ofInt 3) F.1 F.2.1 d_Mo_find_50 (by decide) ?_
          refine lv_iload_n F.1 F.2.1 d_Mo_find_51 rfl (lv_at hl 1 rfl) ?_
          refine fi_imul F d_Mo_find_52 ?_
          refine lv_iconst (v := Int32.ofInt 2) F.1 F.2.1 d_Mo_find_53 (by decide) ?_
          refine fi_iadd F d_Mo_find_54 ?_
          obtain ⟨h83, hw⟩ := hw
          refine fm_aI F w 345 T_345 (by decide) h83 d_Mo_find_55 ?_
          refine lv_aload_n F.1 F.2.1 d_Mo_find_56 rfl (lv_at hl 0 rfl) ?_
          refine fm_gO F w cl_Mo 331 29 351 T_331 (by decide) rfl rfl k_843 d_Mo_find_57 ?_
          refine lv_iconst (v := Int32.ofInt 2) F.1 F.2.1 d_Mo_find_60 (by decide) ?_
          refine fm_aI F w 351 T_351 (by decide) ⟨by decide, by decide⟩ d_Mo_find_61 ?_
          obtain ⟨h84, hw⟩ := hw
          obtain ⟨h85, hw⟩ := hw
          refine fi_icmp_ne F d_Mo_find_62 (tgt := 67) (by decide) h84 h85 (fun hc86 => ?_) (fun hc86 => ?_)
          · have hw := hw.1 hc86
            refine fi_iinc (k := 1) (v := (v1 + 1)) F d_Mo_find_67 hl rfl rfl (by decide) rfl (fun ls hl => ?_)
            have hl : lv_has ls 2 [(1, .int (Int32.ofInt (v1 + 1))), (0, .ref (ad 331))] := hl
            refine lv_goto F.1 F.2.1 d_Mo_find_70 (tgt := 2) (by decide) ?_
            exact hJ_2 M (v1 + 1) hw H locs ls w (lv_sub hl [1, 0] rfl)
          · have hw := hw.2 hc86
            refine lv_iload_n F.1 F.2.1 d_Mo_find_65 rfl (lv_at hl 1 rfl) ?_
            exact fx_iret F w hr hlk hw d_Mo_find_66
  have blk_2 : ∀ (M : fm_M) (v1 : Int), B_Mo_find_2 post thr M v1 → fx_G p l e { frames := 2, cells := 1, slots := 6, locals := 53 } s m ([.ref (ad 331)] : List Value).toArray below meth c D ad cA n0 0 post thr 2 M [(0, .ref (ad 331)), (1, .int (Int32.ofInt v1))] 2 [] := by
    intro M v1 hw
    obtain ⟨I, μ, hI, hB⟩ := hw
    have key : ∀ (q : Nat) (M : fm_M) (v1 : Int), μ M v1 < q → I M v1 → fx_G p l e { frames := 2, cells := 1, slots := 6, locals := 53 } s m ([.ref (ad 331)] : List Value).toArray below meth c D ad cA n0 0 post thr 2 M [(0, .ref (ad 331)), (1, .int (Int32.ofInt v1))] 2 [] := by
      intro q
      induction q with
      | zero => intro M v1 h _; exact absurd h (Nat.not_lt_zero _)
      | succ q ih =>
        intro M v1 hμ hI
        exact blc_2 (fun M' v1' => I M' v1' ∧ μ M' v1' < μ M v1) M v1 (hB M v1 hI) (fun M' v1' hh => ih M' v1' (Nat.lt_of_lt_of_le hh.2 (Nat.le_of_lt_succ hμ)) hh.1)
    exact key _ M v1 (Nat.lt_succ_self _) hI
  have hl : lv_has ls 2 [(0, .ref (ad 331))] := hl
  suffices h9 : fx_G p l e { frames := 2, cells := 1, slots := 6, locals := 53 } s m ([.ref (ad 331)] : List Value).toArray below meth c D ad cA n0 0 post thr 2 M [(0, .ref (ad 331))] 0 [] from h9 _ _ _ w hl
  intro H locs ls w hl
  refine lv_iconst (v := Int32.ofInt 0) F.1 F.2.1 d_Mo_find_0 (by decide) ?_
  refine lv_istore_n F.1 F.2.1 d_Mo_find_1 rfl hl (by decide) rfl (fun ls hl => ?_)
  have hl : lv_has ls 2 [(1, .int (Int32.ofInt 0)), (0, .ref (ad 331))] := hl
  exact blk_2 M 0 hw H locs ls w (lv_sub hl [1, 0] rfl)
