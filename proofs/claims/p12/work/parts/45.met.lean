set_option maxHeartbeats 4000000 in
set_option maxRecDepth 100000 in
theorem met_Mo_improve (l : Launch) (hst9 : l.stackTraces = false) (D : va_G) (ad : Nat → Nat) (cA : Nat → ClassId) (n0 : Nat) (M : fm_M) (a1 : Int) (post : Int → fm_M → Prop) (thr : String → fm_M → Prop) (hw : wp_Mo_improve M a1 post thr) : fx_Met l y_Mo_improve (Cond.code y_Mo_improve b_Mo_improve 13 (some .boolean) :: tb) { frames := 1, cells := 1, slots := 6, locals := 26 } [.ref (ad 331), .int (Int32.ofInt a1)] D ad cA n0 M 0 post thr := by
  refine fx_met (by decide) (Nat.le_of_ble_eq_true rfl) (fun p e s m below meth c ls F w hno hr hlk hl => ?_)
  have blk_206 : ∀ (M : fm_M) (v2 : Int) (s0 : Int), B_Mo_improve_206 a1 post thr M v2 s0 → fx_G p l e { frames := 1, cells := 1, slots := 6, locals := 26 } s m ([.ref (ad 331), .int (Int32.ofInt a1)] : List Value).toArray below meth c D ad cA n0 0 post thr 13 M [(2, .int (Int32.ofInt v2))] 206 [.int (Int32.ofInt s0), .int (Int32.ofInt a1), .ref (ad 353)] := by
    intro M v2 s0 hw H locs ls w hl
    obtain ⟨h79, hw⟩ := hw
    refine fm_sI F w 353 T_353 (by decide) h79  d_Mo_improve_206 (fun M80 hM80 H locs w => ?_)
    have hw := hw M80 hM80
    refine lv_iload_n F.1 F.2.1 d_Mo_improve_207 rfl (lv_at hl 0 rfl) ?_
    obtain ⟨h81, hw⟩ := hw
    refine fi_if_lt F d_Mo_improve_208 (tgt := 215) (by decide) h81 (fun hc82 => ?_) (fun hc82 => ?_)
    · have hw := hw.1 hc82
      refine lv_iconst (v := Int32.ofInt 0) F.1 F.2.1 d_Mo_improve_215 (by decide) ?_
      exact fx_zret F w hr hlk (fx_nz (by decide)) hw d_Mo_improve_216
    · have hw := hw.2 hc82
      refine lv_iconst (v := Int32.ofInt 1) F.1 F.2.1 d_Mo_improve_211 (by decide) ?_
      refine lv_goto F.1 F.2.1 d_Mo_improve_212 (tgt := 216) (by decide) ?_
      exact fx_zret F w hr hlk (fx_nz (by decide)) hw d_Mo_improve_216
  have blk_179 : ∀ (J_15 : (fm_M → Int → Int → Int → Int → Prop)) (M : fm_M) (v2 : Int) (v3 : Int) (v7 : Int) (s0 : Int), B_Mo_improve_179 a1 post thr J_15 M v2 v3 v7 s0 → (∀ (M : fm_M) (v2 : Int) (v3 : Int) (v5 : Int) (v7 : Int), J_15 M v2 v3 v5 v7 → fx_G p l e { frames := 1, cells := 1, slots := 6, locals := 26 } s m ([.ref (ad 331), .int (Int32.ofInt a1)] : List Value).toArray below meth c D ad cA n0 0 post thr 13 M [(0, .ref (ad 331)), (1, .int (Int32.ofInt a1)), (2, .int (Int32.ofInt v2)), (3, .long (Int64.ofInt v3)), (5, .long (Int64.ofInt v5)), (7, .int (Int32.ofInt v7))] 15 []) → fx_G p l e { frames := 1, cells := 1, slots := 6, locals := 26 } s m ([.ref (ad 331), .int (Int32.ofInt a1)] : List Value).toArray below meth c D ad cA n0 0 post thr 13 M [(0, .ref (ad 331)), (1, .int (Int32.ofInt a1)), (2, .int (Int32.ofInt v2)), (3, .long (Int64.ofInt v3)), (7, .int (Int32.ofInt v7))] 179 [.long (Int64.ofInt s0)] := by
    intro J_15 M v2 v3 v7 s0 hw hJ_15 H locs ls w hl
    refine lv_lstore F.1 F.2.1 d_Mo_improve_179 hl (by decide) rfl (fun ls hl => ?_)
    have hl : lv_has ls 13 [(5, .long (Int64.ofInt s0)), (0, .ref (ad 331)), (1, .int (Int32.ofInt a1)), (2, .int (Int32.ofInt v2)), (3, .long (Int64.ofInt v3)), (7, .int (Int32.ofInt v7))] := hl
    refine fi_iinc (k := 5) (v := (v7 + 1)) F d_Mo_improve_181 hl rfl rfl (by decide) rfl (fun ls hl => ?_)
    have hl : lv_has ls 13 [(7, .int (Int32.ofInt (v7 + 1))), (5, .long (Int64.ofInt s0)), (0, .ref (ad 331)), (1, .int (Int32.ofInt a1)), (2, .int (Int32.ofInt v2)), (3, .long (Int64.ofInt v3))] := hl
    refine lv_goto F.1 F.2.1 d_Mo_improve_184 (tgt := 15) (by decide) ?_
    exact hJ_15 M v2 v3 s0 (v7 + 1) hw H locs ls w (lv_sub hl [2, 3, 4, 5, 1, 0] rfl)
  have blk_166 : ∀ (J_15 : (fm_M → Int → Int → Int → Int → Prop)) (M : fm_M) (v2 : Int) (v5 : Int) (v7 : Int) (v8 : Int) (v12 : Int) (s0 : Int), B_Mo_improve_166 a1 post thr J_15 M v2 v5 v7 v8 v12 s0 → (∀ (M : fm_M) (v2 : Int) (v3 : Int) (v5 : Int) (v7 : Int), J_15 M v2 v3 v5 v7 → fx_G p l e { frames := 1, cells := 1, slots := 6, locals := 26 } s m ([.ref (ad 331), .int (Int32.ofInt a1)] : List Value).toArray below meth c D ad cA n0 0 post thr 13 M [(0, .ref (ad 331)), (1, .int (Int32.ofInt a1)), (2, .int (Int32.ofInt v2)), (3, .long (Int64.ofInt v3)), (5, .long (Int64.ofInt v5)), (7, .int (Int32.ofInt v7))] 15 []) → fx_G p l e { frames := 1, cells := 1, slots := 6, locals := 26 } s m ([.ref (ad 331), .int (Int32.ofInt a1)] : List Value).toArray below meth c D ad cA n0 0 post thr 13 M [(0, .ref (ad 331)), (1, .int (Int32.ofInt a1)), (2, .int (Int32.ofInt v2)), (5, .long (Int64.ofInt v5)), (7, .int (Int32.ofInt v7)), (8, .long (Int64.ofInt v8)), (12, .int (Int32.ofInt v12))] 166 [.long (Int64.ofInt s0)] := by
    intro J_15 M v2 v5 v7 v8 v12 s0 hw hJ_15 H locs ls w hl
    refine lv_lstore_n F.1 F.2.1 d_Mo_improve_166 rfl hl (by decide) rfl (fun ls hl => ?_)
    have hl : lv_has ls 13 [(3, .long (Int64.ofInt s0)), (0, .ref (ad 331)), (1, .int (Int32.ofInt a1)), (2, .int (Int32.ofInt v2)), (5, .long (Int64.ofInt v5)), (7, .int (Int32.ofInt v7)), (8, .long (Int64.ofInt v8)), (12, .int (Int32.ofInt v12))] := hl
    refine lv_iload F.1 F.2.1 d_Mo_improve_167 (lv_at hl 7 rfl) ?_
    obtain ⟨h83, hw⟩ := hw
    refine fi_if_eq F d_Mo_improve_169 (tgt := 177) (by decide) h83 (fun hc84 => ?_) (fun hc84 => ?_)
    · have hw := hw.1 hc84
      refine lv_lload F.1 F.2.1 d_Mo_improve_177 (lv_at hl 4 rfl) ?_
      exact blk_179 J_15 M v2 s0 v7 v5 hw hJ_15 H locs ls w (lv_sub hl [1, 2, 3, 0, 5] rfl)
    · have hw := hw.2 hc84
      refine lv_lload F.1 F.2.1 d_Mo_improve_172 (lv_at hl 6 rfl) ?_
      refine lv_goto F.1 F.2.1 d_Mo_improve_174 (tgt := 179) (by decide) ?_
      exact blk_179 J_15 M v2 s0 v7 v8 hw hJ_15 H locs ls w (lv_sub hl [1, 2, 3, 0, 5] rfl)
  have blk_154 : ∀ (J_15 : (fm_M → Int → Int → Int → Int → Prop)) (M : fm_M) (v3 : Int) (v5 : Int) (v7 : Int) (v8 : Int) (v10 : Int) (v12 : Int) (s0 : Int), B_Mo_improve_154 a1 post thr J_15 M v3 v5 v7 v8 v10 v12 s0 → (∀ (M : fm_M) (v2 : Int) (v3 : Int) (v5 : Int) (v7 : Int), J_15 M v2 v3 v5 v7 → fx_G p l e { frames := 1, cells := 1, slots := 6, locals := 26 } s m ([.ref (ad 331), .int (Int32.ofInt a1)] : List Value).toArray below meth c D ad cA n0 0 post thr 13 M [(0, .ref (ad 331)), (1, .int (Int32.ofInt a1)), (2, .int (Int32.ofInt v2)), (3, .long (Int64.ofInt v3)), (5, .long (Int64.ofInt v5)), (7, .int (Int32.ofInt v7))] 15 []) → fx_G p l e { frames := 1, cells := 1, slots := 6, locals := 26 } s m ([.ref (ad 331), .int (Int32.ofInt a1)] : List Value).toArray below meth c D ad cA n0 0 post thr 13 M [(0, .ref (ad 331)), (1, .int (Int32.ofInt a1)), (3, .long (Int64.ofInt v3)), (5, .long (Int64.ofInt v5)), (7, .int (Int32.ofInt v7)), (8, .long (Int64.ofInt v8)), (10, .long (Int64.ofInt v10)), (12, .int (Int32.ofInt v12))] 154 [.int (Int32.ofInt s0)] := by
    intro J_15 M v3 v5 v7 v8 v10 v12 s0 hw hJ_15 H locs ls w hl
    refine lv_istore_n F.1 F.2.1 d_Mo_improve_154 rfl hl (by decide) rfl (fun ls hl => ?_)
    have hl : lv_has ls 13 [(2, .int (Int32.ofInt s0)), (0, .ref (ad 331)), (1, .int (Int32.ofInt a1)), (3, .long (Int64.ofInt v3)), (5, .long (Int64.ofInt v5)), (7, .int (Int32.ofInt v7)), (8, .long (Int64.ofInt v8)), (10, .long (Int64.ofInt v10)), (12, .int (Int32.ofInt v12))] := hl
    refine lv_iload F.1 F.2.1 d_Mo_improve_155 (lv_at hl 8 rfl) ?_
    obtain ⟨h85, hw⟩ := hw
    refine fi_if_eq F d_Mo_improve_157 (tgt := 165) (by decide) h85 (fun hc86 => ?_) (fun hc86 => ?_)
    · have hw := hw.1 hc86
      refine lv_lload_n F.1 F.2.1 d_Mo_improve_165 rfl (lv_at hl 3 rfl) ?_
      exact blk_166 J_15 M s0 v5 v7 v8 v12 v3 hw hJ_15 H locs ls w (lv_sub hl [1, 2, 0, 4, 5, 6, 8] rfl)
    · have hw := hw.2 hc86
      refine lv_lload F.1 F.2.1 d_Mo_improve_160 (lv_at hl 7 rfl) ?_
      refine lv_goto F.1 F.2.1 d_Mo_improve_162 (tgt := 166) (by decide) ?_
      exact blk_166 J_15 M s0 v5 v7 v8 v12 v10 hw hJ_15 H locs ls w (lv_sub hl [1, 2, 0, 4, 5, 6, 8] rfl)
  have blk_141 : ∀ (J_15 : (fm_M → Int → Int → Int → Int → Prop)) (M : fm_M) (v2 : Int) (v3 : Int) (v5 : Int) (v7 : Int) (v8 : Int) (v10 : Int) (s0 : Int), B_Mo_improve_141 a1 post thr J_15 M v2 v3 v5 v7 v8 v10 s0 → (∀ (M : fm_M) (v2 : Int) (v3 : Int) (v5 : Int) (v7 : Int), J_15 M v2 v3 v5 v7 → fx_G p l e { frames := 1, cells := 1, slots := 6, locals := 26 } s m ([.ref (ad 331), .int (Int32.ofInt a1)] : List Value).toArray below meth c D ad cA n0 0 post thr 13 M [(0, .ref (ad 331)), (1, .int (Int32.ofInt a1)), (2, .int (Int32.ofInt v2)), (3, .long (Int64.ofInt v3)), (5, .long (Int64.ofInt v5)), (7, .int (Int32.ofInt v7))] 15 []) → fx_G p l e { frames := 1, cells := 1, slots := 6, locals := 26 } s m ([.ref (ad 331), .int (Int32.ofInt a1)] : List Value).toArray below meth c D ad cA n0 0 post thr 13 M [(0, .ref (ad 331)), (1, .int (Int32.ofInt a1)), (2, .int (Int32.ofInt v2)), (3, .long (Int64.ofInt v3)), (5, .long (Int64.ofInt v5)), (7, .int (Int32.ofInt v7)), (8, .long (Int64.ofInt v8)), (10, .long (Int64.ofInt v10))] 141 [.int (Int32.ofInt s0)] := by
    intro J_15 M v2 v3 v5 v7 v8 v10 s0 hw hJ_15 H locs ls w hl
    refine lv_istore F.1 F.2.1 d_Mo_improve_141 hl (by decide) rfl (fun ls hl => ?_)
    have hl : lv_has ls 13 [(12, .int (Int32.ofInt s0)), (0, .ref (ad 331)), (1, .int (Int32.ofInt a1)), (2, .int (Int32.ofInt v2)), (3, .long (Int64.ofInt v3)), (5, .long (Int64.ofInt v5)), (7, .int (Int32.ofInt v7)), (8, .long (Int64.ofInt v8)), (10, .long (Int64.ofInt v10))] := hl
    refine lv_iload F.1 F.2.1 d_Mo_improve_143 (lv_at hl 0 rfl) ?_
    obtain ⟨h87, hw⟩ := hw
    refine fi_if_eq F d_Mo_improve_145 (tgt := 153) (by decide) h87 (fun hc88 => ?_) (fun hc88 => ?_)
    · have hw := hw.1 hc88
      refine lv_iload_n F.1 F.2.1 d_Mo_improve_153 rfl (lv_at hl 3 rfl) ?_
      exact blk_154 J_15 M v3 v5 v7 v8 v10 s0 v2 hw hJ_15 H locs ls w (lv_sub hl [1, 2, 4, 5, 6, 7, 8, 0] rfl)
    · have hw := hw.2 hc88
      refine lv_iload F.1 F.2.1 d_Mo_improve_148 (lv_at hl 6 rfl) ?_
      refine lv_goto F.1 F.2.1 d_Mo_improve_150 (tgt := 154) (by decide) ?_
      exact blk_154 J_15 M v3 v5 v7 v8 v10 s0 v7 hw hJ_15 H locs ls w (lv_sub hl [1, 2, 4, 5, 6, 7, 8, 0] rfl)
  have blk_136 : ∀ (J_15 : (fm_M → Int → Int → Int → Int → Prop)) (M : fm_M) (v2 : Int) (v3 : Int) (v5 : Int) (v7 : Int) (v8 : Int) (v10 : Int), B_Mo_improve_136 a1 post thr J_15 M v2 v3 v5 v7 v8 v10 → (∀ (M : fm_M) (v2 : Int) (v3 : Int) (v5 : Int) (v7 : Int), J_15 M v2 v3 v5 v7 → fx_G p l e { frames := 1, cells := 1, slots := 6, locals := 26 } s m ([.ref (ad 331), .int (Int32.ofInt a1)] : List Value).toArray below meth c D ad cA n0 0 post thr 13 M [(0, .ref (ad 331)), (1, .int (Int32.ofInt a1)), (2, .int (Int32.ofInt v2)), (3, .long (Int64.ofInt v3)), (5, .long (Int64.ofInt v5)), (7, .int (Int32.ofInt v7))] 15 []) → fx_G p l e { frames := 1, cells := 1, slots := 6, locals := 26 } s m ([.ref (ad 331), .int (Int32.ofInt a1)] : List Value).toArray below meth c D ad cA n0 0 post thr 13 M [(0, .ref (ad 331)), (1, .int (Int32.ofInt a1)), (2, .int (Int32.ofInt v2)), (3, .long (Int64.ofInt v3)), (5, .long (Int64.ofInt v5)), (7, .int (Int32.ofInt v7)), (8, .long (Int64.ofInt v8)), (10, .long (Int64.ofInt v10))] 136 [] := by
    intro J_15 M v2 v3 v5 v7 v8 v10 hw hJ_15 H locs ls w hl
    refine lv_iconst (v := Int32.ofInt 1) F.1 F.2.1 d_Mo_improve_136 (by decide) ?_
    refine lv_goto F.1 F.2.1 d_Mo_improve_137 (tgt := 141) (by decide) ?_
    exact blk_141 J_15 M v2 v3 v5 v7 v8 v10 1 hw hJ_15 H locs ls w (lv_sub hl [0, 1, 2, 3, 4, 5, 6, 7] rfl)
  have blk_82 : ∀ (J_15 : (fm_M → Int → Int → Int → Int → Prop)) (M : fm_M) (v2 : Int) (v3 : Int) (v5 : Int) (v7 : Int) (v8 : Int) (s0 : Int), B_Mo_improve_82 a1 post thr J_15 M v2 v3 v5 v7 v8 s0 → (∀ (M : fm_M) (v2 : Int) (v3 : Int) (v5 : Int) (v7 : Int), J_15 M v2 v3 v5 v7 → fx_G p l e { frames := 1, cells := 1, slots := 6, locals := 26 } s m ([.ref (ad 331), .int (Int32.ofInt a1)] : List Value).toArray below meth c D ad cA n0 0 post thr 13 M [(0, .ref (ad 331)), (1, .int (Int32.ofInt a1)), (2, .int (Int32.ofInt v2)), (3, .long (Int64.ofInt v3)), (5, .long (Int64.ofInt v5)), (7, .int (Int32.ofInt v7))] 15 []) → fx_G p l e { frames := 1, cells := 1, slots := 6, locals := 26 } s m ([.ref (ad 331), .int (Int32.ofInt a1)] : List Value).toArray below meth c D ad cA n0 0 post thr 13 M [(0, .ref (ad 331)), (1, .int (Int32.ofInt a1)), (2, .int (Int32.ofInt v2)), (3, .long (Int64.ofInt v3)), (5, .long (Int64.ofInt v5)), (7, .int (Int32.ofInt v7)), (8, .long (Int64.ofInt v8))] 82 [.long (Int64.ofInt s0)] := by
    intro J_15 M v2 v3 v5 v7 v8 s0 hw hJ_15 H locs ls w hl
    refine lv_lstore F.1 F.2.1 d_Mo_improve_82 hl (by decide) rfl (fun ls hl => ?_)
    have hl : lv_has ls 13 [(10, .long (Int64.ofInt s0)), (0, .ref (ad 331)), (1, .int (Int32.ofInt a1)), (2, .int (Int32.ofInt v2)), (3, .long (Int64.ofInt v3)), (5, .long (Int64.ofInt v5)), (7, .int (Int32.ofInt v7)), (8, .long (Int64.ofInt v8))] := hl
    refine lv_aload_n F.1 F.2.1 d_Mo_improve_84 rfl (lv_at hl 1 rfl) ?_
    refine fm_gO F w cl_Mo 331 30 352 T_331 (by decide) rfl rfl k_844 d_Mo_improve_85 ?_
    refine lv_iload_n F.1 F.2.1 d_Mo_improve_88 rfl (lv_at hl 2 rfl) ?_
    obtain ⟨h89, hw⟩ := hw
    refine fm_aI F w 352 T_352 (by decide) h89 d_Mo_improve_89 ?_
    refine lv_iload F.1 F.2.1 d_Mo_improve_90 (lv_at hl 6 rfl) ?_
    refine fx_c w hno hlk (fx_rS (As := [.int (Int32.ofInt (M 352 a1.toNat)), .int (Int32.ofInt v7)]) (rest := []) F w (met_Mo_has l hst9 D ad cA n0 M (M 352 a1.toNat) v7 _ thr hw) e_Mo_has kt_Mo_has k_1075 rfl hl.1 rfl (Nat.le_of_ble_eq_true rfl) ⟨⟨Nat.le_of_ble_eq_true rfl, Nat.le_of_ble_eq_true rfl⟩, Nat.le_of_ble_eq_true rfl, Nat.le_of_ble_eq_true rfl⟩ d_Mo_improve_92) (fun r91 M90 hw H locs w => ?_)
    show W p l e _ s m _ below meth c H locs 0 0 _ (F0 m 95 ls [.int (Int32.ofInt r91)])
    obtain ⟨h92, hw⟩ := hw
    refine fi_if_eq F d_Mo_improve_95 (tgt := 140) (by decide) h92 (fun hc93 => ?_) (fun hc93 => ?_)
    · have hw := hw.1 hc93
      refine lv_iconst (v := Int32.ofInt 0) F.1 F.2.1 d_Mo_improve_140 (by decide) ?_
      exact blk_141 J_15 M90 v2 v3 v5 v7 v8 s0 0 hw hJ_15 H locs ls w (lv_sub hl [1, 2, 3, 4, 5, 6, 7, 0] rfl)
    · have hw := hw.2 hc93
      refine lv_aload_n F.1 F.2.1 d_Mo_improve_98 rfl (lv_at hl 1 rfl) ?_
      refine fm_gO F w cl_Mo 331 25 347 T_331 (by decide) rfl rfl k_839 d_Mo_improve_99 ?_
      refine lv_iload_n F.1 F.2.1 d_Mo_improve_102 rfl (lv_at hl 2 rfl) ?_
      refine fm_aZ F w 347 T_347 (by decide) h89 d_Mo_improve_103 ?_
      obtain ⟨h94, hw⟩ := hw
      refine fi_if_eq F d_Mo_improve_104 (tgt := 123) (by decide) h94 (fun hc95 => ?_) (fun hc95 => ?_)
      · have hw := hw.1 hc95
        refine lv_lload F.1 F.2.1 d_Mo_improve_123 (lv_at hl 0 rfl) ?_
        refine lv_lload F.1 F.2.1 d_Mo_improve_125 (lv_at hl 5 rfl) ?_
        refine fi_lmul F d_Mo_improve_127 ?_
        refine lv_lload_n F.1 F.2.1 d_Mo_improve_128 rfl (lv_at hl 4 rfl) ?_
        refine lv_lload F.1 F.2.1 d_Mo_improve_129 (lv_at hl 7 rfl) ?_
        refine fi_lmul F d_Mo_improve_131 ?_
        obtain ⟨h96, hw⟩ := hw
        obtain ⟨h97, hw⟩ := hw
        refine fi_lcmp F d_Mo_improve_132 h96 h97 ?_
        refine fi_if_ge F d_Mo_improve_133 (tgt := 140) (by decide) rg_jcmp (fun hc98 => ?_) (fun hc98 => ?_)
        · have hw := hw.1 hc98
          refine lv_iconst (v := Int32.ofInt 0) F.1 F.2.1 d_Mo_improve_140 (by decide) ?_
          exact blk_141 J_15 M90 v2 v3 v5 v7 v8 s0 0 hw hJ_15 H locs ls w (lv_sub hl [1, 2, 3, 4, 5, 6, 7, 0] rfl)
        · have hw := hw.2 hc98
          exact blk_136 J_15 M90 v2 v3 v5 v7 v8 s0 hw hJ_15 H locs ls w (lv_sub hl [1, 2, 3, 4, 5, 6, 7, 0] rfl)
      · have hw := hw.2 hc95
        refine lv_lload F.1 F.2.1 d_Mo_improve_107 (lv_at hl 0 rfl) ?_
        refine lv_lload F.1 F.2.1 d_Mo_improve_109 (lv_at hl 5 rfl) ?_
        refine fi_lmul F d_Mo_improve_111 ?_
        refine lv_lload_n F.1 F.2.1 d_Mo_improve_112 rfl (lv_at hl 4 rfl) ?_
        refine lv_lload F.1 F.2.1 d_Mo_improve_113 (lv_at hl 7 rfl) ?_
        refine fi_lmul F d_Mo_improve_115 ?_
        obtain ⟨h99, hw⟩ := hw
        obtain ⟨h100, hw⟩ := hw
        refine fi_lcmp F d_Mo_improve_116 h99 h100 ?_
        refine fi_if_le F d_Mo_improve_117 (tgt := 140) (by decide) rg_jcmp (fun hc101 => ?_) (fun hc101 => ?_)
        · have hw := hw.1 hc101
          refine lv_iconst (v := Int32.ofInt 0) F.1 F.2.1 d_Mo_improve_140 (by decide) ?_
          exact blk_141 J_15 M90 v2 v3 v5 v7 v8 s0 0 hw hJ_15 H locs ls w (lv_sub hl [1, 2, 3, 4, 5, 6, 7, 0] rfl)
        · have hw := hw.2 hc101
          refine lv_goto F.1 F.2.1 d_Mo_improve_120 (tgt := 136) (by decide) ?_
          exact blk_136 J_15 M90 v2 v3 v5 v7 v8 s0 hw hJ_15 H locs ls w (lv_sub hl [1, 2, 3, 4, 5, 6, 7, 0] rfl)
  have blc_15 : ∀ (J_15 : (fm_M → Int → Int → Int → Int → Prop)) (M : fm_M) (v2 : Int) (v3 : Int) (v5 : Int) (v7 : Int), C_Mo_improve_15 a1 post thr J_15 M v2 v3 v5 v7 → (∀ (M : fm_M) (v2 : Int) (v3 : Int) (v5 : Int) (v7 : Int), J_15 M v2 v3 v5 v7 → fx_G p l e { frames := 1, cells := 1, slots := 6, locals := 26 } s m ([.ref (ad 331), .int (Int32.ofInt a1)] : List Value).toArray below meth c D ad cA n0 0 post thr 13 M [(0, .ref (ad 331)), (1, .int (Int32.ofInt a1)), (2, .int (Int32.ofInt v2)), (3, .long (Int64.ofInt v3)), (5, .long (Int64.ofInt v5)), (7, .int (Int32.ofInt v7))] 15 []) → fx_G p l e { frames := 1, cells := 1, slots := 6, locals := 26 } s m ([.ref (ad 331), .int (Int32.ofInt a1)] : List Value).toArray below meth c D ad cA n0 0 post thr 13 M [(0, .ref (ad 331)), (1, .int (Int32.ofInt a1)), (2, .int (Int32.ofInt v2)), (3, .long (Int64.ofInt v3)), (5, .long (Int64.ofInt v5)), (7, .int (Int32.ofInt v7))] 15 [] := by
    intro J_15 M v2 v3 v5 v7 hw hJ_15 H locs ls w hl
    refine lv_iload F.1 F.2.1 d_Mo_improve_15 (lv_at hl 5 rfl) ?_
    refine lv_aload_n F.1 F.2.1 d_Mo_improve_17 rfl (lv_at hl 0 rfl) ?_
    refine fm_gO F w cl_Mo 331 27 349 T_331 (by decide) rfl rfl k_841 d_Mo_improve_18 ?_
    refine lv_iload_n F.1 F.2.1 d_Mo_improve_21 rfl (lv_at hl 1 rfl) ?_
    obtain ⟨h102, hw⟩ := hw
    refine fm_aI F w 349 T_349 (by decide) h102 d_Mo_improve_22 ?_
    obtain ⟨h103, hw⟩ := hw
    obtain ⟨h104, hw⟩ := hw
    refine fi_icmp_ge F d_Mo_improve_23 (tgt := 187) (by decide) h103 h104 (fun hc105 => ?_) (fun hc105 => ?_)
    · have hw := hw.1 hc105
      refine lv_aload_n F.1 F.2.1 d_Mo_improve_187 rfl (lv_at hl 0 rfl) ?_
      refine fm_gO F w cl_Mo 331 31 353 T_331 (by decide) rfl rfl k_845 d_Mo_improve_188 ?_
      refine lv_iload_n F.1 F.2.1 d_Mo_improve_191 rfl (lv_at hl 1 rfl) ?_
      refine lv_iload_n F.1 F.2.1 d_Mo_improve_192 rfl (lv_at hl 2 rfl) ?_
      obtain ⟨h106, hw⟩ := hw
      refine fi_if_ge F d_Mo_improve_193 (tgt := 205) (by decide) h106 (fun hc107 => ?_) (fun hc107 => ?_)
      · have hw := hw.1 hc107
        refine lv_iload_n F.1 F.2.1 d_Mo_improve_205 rfl (lv_at hl 2 rfl) ?_
        exact blk_206 M v2 v2 hw H locs ls w (lv_sub hl [2] rfl)
      · have hw := hw.2 hc107
        refine lv_aload_n F.1 F.2.1 d_Mo_improve_196 rfl (lv_at hl 0 rfl) ?_
        refine fm_gO F w cl_Mo 331 31 353 T_331 (by decide) rfl rfl k_845 d_Mo_improve_197 ?_
        refine lv_iload_n F.1 F.2.1 d_Mo_improve_200 rfl (lv_at hl 1 rfl) ?_
        refine fm_aI F w 353 T_353 (by decide) h102 d_Mo_improve_201 ?_
        refine lv_goto F.1 F.2.1 d_Mo_improve_202 (tgt := 206) (by decide) ?_
        exact blk_206 M v2 (M 353 a1.toNat) hw H locs ls w (lv_sub hl [2] rfl)
    · have hw := hw.2 hc105
      refine lv_aload_n F.1 F.2.1 d_Mo_improve_26 rfl (lv_at hl 0 rfl) ?_
      refine fm_gO F w cl_Mo 331 13 338 T_331 (by decide) rfl rfl k_827 d_Mo_improve_27 ?_
      refine lv_bipush (v := Int32.ofInt 10) F.1 F.2.1 d_Mo_improve_30 (by decide) ?_
      refine lv_aload_n F.1 F.2.1 d_Mo_improve_32 rfl (lv_at hl 0 rfl) ?_
      refine fm_gI F w cl_Mo 331 6 T_331 (by decide) rfl k_820 d_Mo_improve_33 ?_
      refine fi_imul F d_Mo_improve_36 ?_
      refine lv_aload_n F.1 F.2.1 d_Mo_improve_37 rfl (lv_at hl 0 rfl) ?_
      refine fm_gO F w cl_Mo 331 26 348 T_331 (by decide) rfl rfl k_840 d_Mo_improve_38 ?_
      refine lv_bipush (v := Int32.ofInt 10) F.1 F.2.1 d_Mo_improve_41 (by decide) ?_
      refine lv_iload_n F.1 F.2.1 d_Mo_improve_43 rfl (lv_at hl 1 rfl) ?_
      refine fi_imul F d_Mo_improve_44 ?_
      refine lv_iload F.1 F.2.1 d_Mo_improve_45 (lv_at hl 5 rfl) ?_
      refine fi_iadd F d_Mo_improve_47 ?_
      obtain ⟨h108, hw⟩ := hw
      refine fm_aI F w 348 T_348 (by decide) h108 d_Mo_improve_48 ?_
      refine fi_iadd F d_Mo_improve_49 ?_
      obtain ⟨h109, hw⟩ := hw
      refine fm_aI F w 338 T_338 (by decide) h109 d_Mo_improve_50 ?_
      obtain ⟨h110, hw⟩ := hw
      refine fi_wi2l F d_Mo_improve_51 h110 ?_
      refine lv_lstore F.1 F.2.1 d_Mo_improve_52 hl (by decide) rfl (fun ls hl => ?_)
      have hl : lv_has ls 13 [(8, .long (Int64.ofInt (M 338 ((10 * (M 331 6)) + (M 348 ((10 * a1) + v7).toNat)).toNat))), (0, .ref (ad 331)), (1, .int (Int32.ofInt a1)), (2, .int (Int32.ofInt v2)), (3, .long (Int64.ofInt v3)), (5, .long (Int64.ofInt v5)), (7, .int (Int32.ofInt v7))] := hl
      refine lv_aload_n F.1 F.2.1 d_Mo_improve_54 rfl (lv_at hl 1 rfl) ?_
      refine fm_gO F w cl_Mo 331 30 352 T_331 (by decide) rfl rfl k_844 d_Mo_improve_55 ?_
      refine lv_iload_n F.1 F.2.1 d_Mo_improve_58 rfl (lv_at hl 2 rfl) ?_
      refine fm_aI F w 352 T_352 (by decide) h102 d_Mo_improve_59 ?_
      refine lv_iload F.1 F.2.1 d_Mo_improve_60 (lv_at hl 6 rfl) ?_
      refine fx_c w hno hlk (fx_rS (As := [.int (Int32.ofInt (M 352 a1.toNat)), .int (Int32.ofInt v7)]) (rest := []) F w (met_Mo_has l hst9 D ad cA n0 M (M 352 a1.toNat) v7 _ thr hw) e_Mo_has kt_Mo_has k_1075 rfl hl.1 rfl (Nat.le_of_ble_eq_true rfl) ⟨⟨Nat.le_of_ble_eq_true rfl, Nat.le_of_ble_eq_true rfl⟩, Nat.le_of_ble_eq_true rfl, Nat.le_of_ble_eq_true rfl⟩ d_Mo_improve_62) (fun r112 M111 hw H locs w => ?_)
      show W p l e _ s m _ below meth c H locs 0 0 _ (F0 m 65 ls [.int (Int32.ofInt r112)])
      obtain ⟨h113, hw⟩ := hw
      refine fi_if_eq F d_Mo_improve_65 (tgt := 78) (by decide) h113 (fun hc114 => ?_) (fun hc114 => ?_)
      · have hw := hw.1 hc114
        refine lv_lload_n F.1 F.2.1 d_Mo_improve_78 rfl (lv_at hl 4 rfl) ?_
        refine lv_lload F.1 F.2.1 d_Mo_improve_79 (lv_at hl 0 rfl) ?_
        refine fi_lmul F d_Mo_improve_81 ?_
        exact blk_82 J_15 M111 v2 v3 v5 v7 (M 338 ((10 * (M 331 6)) + (M 348 ((10 * a1) + v7).toNat)).toNat) (v3 * (M 338 ((10 * (M 331 6)) + (M 348 ((10 * a1) + v7).toNat)).toNat)) hw hJ_15 H locs ls w (lv_sub hl [1, 2, 3, 4, 5, 6, 0] rfl)
      · have hw := hw.2 hc114
        refine lv_aload_n F.1 F.2.1 d_Mo_improve_68 rfl (lv_at hl 1 rfl) ?_
        refine lv_iload_n F.1 F.2.1 d_Mo_improve_69 rfl (lv_at hl 2 rfl) ?_
        refine lv_iload F.1 F.2.1 d_Mo_improve_70 (lv_at hl 6 rfl) ?_
        refine fx_c w hno hlk (fx_rV (As := [.int (Int32.ofInt a1), .int (Int32.ofInt v7)]) (rest := []) F w cl_Mo 331 T_331 (met_Mo_worth l hst9 D ad cA n0 M111 a1 v7 _ thr hw) e_Mo_worth ki_Mo_worth ks_Mo_worth k_1111 rfl hl.1 rfl (Nat.le_of_ble_eq_true rfl) ⟨⟨Nat.le_of_ble_eq_true rfl, Nat.le_of_ble_eq_true rfl⟩, Nat.le_of_ble_eq_true rfl, Nat.le_of_ble_eq_true rfl⟩ d_Mo_improve_72) (fun r116 M115 hw H locs w => ?_)
        show W p l e _ s m _ below meth c H locs 0 0 _ (F0 m 75 ls [.long (Int64.ofInt r116)])
        refine lv_goto F.1 F.2.1 d_Mo_improve_75 (tgt := 82) (by decide) ?_
        exact blk_82 J_15 M115 v2 v3 v5 v7 (M 338 ((10 * (M 331 6)) + (M 348 ((10 * a1) + v7).toNat)).toNat) r116 hw hJ_15 H locs ls w (lv_sub hl [1, 2, 3, 4, 5, 6, 0] rfl)
  have blk_15 : ∀ (M : fm_M) (v2 : Int) (v3 : Int) (v5 : Int) (v7 : Int), B_Mo_improve_15 a1 post thr M v2 v3 v5 v7 → fx_G p l e { frames := 1, cells := 1, slots := 6, locals := 26 } s m ([.ref (ad 331), .int (Int32.ofInt a1)] : List Value).toArray below meth c D ad cA n0 0 post thr 13 M [(0, .ref (ad 331)), (1, .int (Int32.ofInt a1)), (2, .int (Int32.ofInt v2)), (3, .long (Int64.ofInt v3)), (5, .long (Int64.ofInt v5)), (7, .int (Int32.ofInt v7))] 15 [] := by
    intro M v2 v3 v5 v7 hw
    obtain ⟨I, μ, hI, hB⟩ := hw
    have key : ∀ (q : Nat) (M : fm_M) (v2 : Int) (v3 : Int) (v5 : Int) (v7 : Int), μ M v2 v3 v5 v7 < q → I M v2 v3 v5 v7 → fx_G p l e { frames := 1, cells := 1, slots := 6, locals := 26 } s m ([.ref (ad 331), .int (Int32.ofInt a1)] : List Value).toArray below meth c D ad cA n0 0 post thr 13 M [(0, .ref (ad 331)), (1, .int (Int32.ofInt a1)), (2, .int (Int32.ofInt v2)), (3, .long (Int64.ofInt v3)), (5, .long (Int64.ofInt v5)), (7, .int (Int32.ofInt v7))] 15 [] := by
      intro q
      induction q with
      | zero => intro M v2 v3 v5 v7 h _; exact absurd h (Nat.not_lt_zero _)
      | succ q ih =>
        intro M v2 v3 v5 v7 hμ hI
        exact blc_15 (fun M' v2' v3' v5' v7' => I M' v2' v3' v5' v7' ∧ μ M' v2' v3' v5' v7' < μ M v2 v3 v5 v7) M v2 v3 v5 v7 (hB M v2 v3 v5 v7 hI) (fun M' v2' v3' v5' v7' hh => ih M' v2' v3' v5' v7' (Nat.lt_of_lt_of_le hh.2 (Nat.le_of_lt_succ hμ)) hh.1)
    exact key _ M v2 v3 v5 v7 (Nat.lt_succ_self _) hI
  have hl : lv_has ls 13 [(0, .ref (ad 331)), (1, .int (Int32.ofInt a1))] := hl
  suffices h9 : fx_G p l e { frames := 1, cells := 1, slots := 6, locals := 26 } s m ([.ref (ad 331), .int (Int32.ofInt a1)] : List Value).toArray below meth c D ad cA n0 0 post thr 13 M [(0, .ref (ad 331)), (1, .int (Int32.ofInt a1))] 0 [] from h9 _ _ _ w hl
  intro H locs ls w hl
  refine lv_iconst (v := Int32.ofInt (-1)) F.1 F.2.1 d_Mo_improve_0 (by decide) ?_
  refine lv_istore_n F.1 F.2.1 d_Mo_improve_1 rfl hl (by decide) rfl (fun ls hl => ?_)
  have hl : lv_has ls 13 [(2, .int (Int32.ofInt (-1))), (0, .ref (ad 331)), (1, .int (Int32.ofInt a1))] := hl
  refine lv_aload_n F.1 F.2.1 d_Mo_improve_2 rfl (lv_at hl 1 rfl) ?_
  refine fm_gO F w cl_Mo 331 37 358 T_331 (by decide) rfl rfl k_851 d_Mo_improve_3 ?_
  refine lv_iload_n F.1 F.2.1 d_Mo_improve_6 rfl (lv_at hl 2 rfl) ?_
  obtain ⟨h117, hw⟩ := hw
  refine fm_aL F w 358 T_358 (by decide) h117 d_Mo_improve_7 ?_
  refine lv_lstore_n F.1 F.2.1 d_Mo_improve_8 rfl hl (by decide) rfl (fun ls hl => ?_)
  have hl : lv_has ls 13 [(3, .long (Int64.ofInt (M 358 a1.toNat))), (2, .int (Int32.ofInt (-1))), (0, .ref (ad 331)), (1, .int (Int32.ofInt a1))] := hl
  refine lv_lconst (v := Int64.ofInt 1) F.1 F.2.1 d_Mo_improve_9 (by decide) ?_
  refine lv_lstore F.1 F.2.1 d_Mo_improve_10 hl (by decide) rfl (fun ls hl => ?_)
  have hl : lv_has ls 13 [(5, .long (Int64.ofInt 1)), (3, .long (Int64.ofInt (M 358 a1.toNat))), (2, .int (Int32.ofInt (-1))), (0, .ref (ad 331)), (1, .int (Int32.ofInt a1))] := hl
  refine lv_iconst (v := Int32.ofInt 0) F.1 F.2.1 d_Mo_improve_12 (by decide) ?_
  refine lv_istore F.1 F.2.1 d_Mo_improve_13 hl (by decide) rfl (fun ls hl => ?_)
  have hl : lv_has ls 13 [(7, .int (Int32.ofInt 0)), (5, .long (Int64.ofInt 1)), (3, .long (Int64.ofInt (M 358 a1.toNat))), (2, .int (Int32.ofInt (-1))), (0, .ref (ad 331)), (1, .int (Int32.ofInt a1))] := hl
  exact blk_15 M (-1) (M 358 a1.toNat) 1 0 hw H locs ls w (lv_sub hl [4, 5, 3, 2, 1, 0] rfl)
set_option maxHeartbeats 4000000 in
set_option maxRecDepth 100000 in
theorem met_Mo_improveAll (l : Launch) (hst9 : l.stackTraces = false) (D : va_G) (ad : Nat → Nat) (cA : Nat → ClassId) (n0 : Nat) (M : fm_M) (a1 : Int) (post : Int → fm_M → Prop) (thr : String → fm_M → Prop) (hw : wp_Mo_improveAll M a1 post thr) : fx_Met l y_Mo_improveAll (Cond.code y_Mo_improveAll b_Mo_improveAll 4 (some .boolean) :: tb) { frames := 2, cells := 1, slots := 6, locals := 58 } [.ref (ad 331), .int (Int32.ofInt a1)] D ad cA n0 M 0 post thr := by
  refine fx_met (by decide) (Nat.le_of_ble_eq_true rfl) (fun p e s m below meth c ls F w hno hr hlk hl => ?_)
  have blk_61 : ∀ (J_4 : (fm_M → Int → Int → Prop)) (M : fm_M) (v3 : Int) (s0 : Int), B_Mo_improveAll_61 a1 post thr J_4 M v3 s0 → (∀ (M : fm_M) (v2 : Int) (v3 : Int), J_4 M v2 v3 → fx_G p l e { frames := 2, cells := 1, slots := 6, locals := 58 } s m ([.ref (ad 331), .int (Int32.ofInt a1)] : List Value).toArray below meth c D ad cA n0 0 post thr 4 M [(0, .ref (ad 331)), (1, .int (Int32.ofInt a1)), (2, .int (Int32.ofInt v2)), (3, .int (Int32.ofInt v3))] 4 []) → fx_G p l e { frames := 2, cells := 1, slots := 6, locals := 58 } s m ([.ref (ad 331), .int (Int32.ofInt a1)] : List Value).toArray below meth c D ad cA n0 0 post thr 4 M [(0, .ref (ad 331)), (1, .int (Int32.ofInt a1)), (3, .int (Int32.ofInt v3))] 61 [.int (Int32.ofInt s0)] := by
    intro J_4 M v3 s0 hw hJ_4 H locs ls w hl
    refine lv_istore_n F.1 F.2.1 d_Mo_improveAll_61 rfl hl (by decide) rfl (fun ls hl => ?_)
    have hl : lv_has ls 4 [(2, .int (Int32.ofInt s0)), (0, .ref (ad 331)), (1, .int (Int32.ofInt a1)), (3, .int (Int32.ofInt v3))] := hl
    refine fi_iinc (k := 3) (v := (v3 + 1)) F d_Mo_improveAll_62 hl rfl rfl (by decide) rfl (fun ls hl => ?_)
    have hl : lv_has ls 4 [(3, .int (Int32.ofInt (v3 + 1))), (2, .int (Int32.ofInt s0)), (0, .ref (ad 331)), (1, .int (Int32.ofInt a1))] := hl
    refine lv_goto F.1 F.2.1 d_Mo_improveAll_65 (tgt := 4) (by decide) ?_
    exact hJ_4 M s0 (v3 + 1) hw H locs ls w (lv_sub hl [2, 3, 1, 0] rfl)
  have blk_56 : ∀ (J_4 : (fm_M → Int → Int → Prop)) (M : fm_M) (v3 : Int), B_Mo_improveAll_56 a1 post thr J_4 M v3 → (∀ (M : fm_M) (v2 : Int) (v3 : Int), J_4 M v2 v3 → fx_G p l e { frames := 2, cells := 1, slots := 6, locals := 58 } s m ([.ref (ad 331), .int (Int32.ofInt a1)] : List Value).toArray below meth c D ad cA n0 0 post thr 4 M [(0, .ref (ad 331)), (1, .int (Int32.ofInt a1)), (2, .int (Int32.ofInt v2)), (3, .int (Int32.ofInt v3))] 4 []) → fx_G p l e { frames := 2, cells := 1, slots := 6, locals := 58 } s m ([.ref (ad 331), .int (Int32.ofInt a1)] : List Value).toArray below meth c D ad cA n0 0 post thr 4 M [(0, .ref (ad 331)), (1, .int (Int32.ofInt a1)), (3, .int (Int32.ofInt v3))] 56 [] := by
    intro J_4 M v3 hw hJ_4 H locs ls w hl
    refine lv_iconst (v := Int32.ofInt 1) F.1 F.2.1 d_Mo_improveAll_56 (by decide) ?_
    refine lv_goto F.1 F.2.1 d_Mo_improveAll_57 (tgt := 61) (by decide) ?_
    exact blk_61 J_4 M v3 1 hw hJ_4 H locs ls w (lv_sub hl [0, 1, 2] rfl)
  have blk_44 : ∀ (J_4 : (fm_M → Int → Int → Prop)) (M : fm_M) (v2 : Int) (v3 : Int), B_Mo_improveAll_44 a1 post thr J_4 M v2 v3 → (∀ (M : fm_M) (v2 : Int) (v3 : Int), J_4 M v2 v3 → fx_G p l e { frames := 2, cells := 1, slots := 6, locals := 58 } s m ([.ref (ad 331), .int (Int32.ofInt a1)] : List Value).toArray below meth c D ad cA n0 0 post thr 4 M [(0, .ref (ad 331)), (1, .int (Int32.ofInt a1)), (2, .int (Int32.ofInt v2)), (3, .int (Int32.ofInt v3))] 4 []) → fx_G p l e { frames := 2, cells := 1, slots := 6, locals := 58 } s m ([.ref (ad 331), .int (Int32.ofInt a1)] : List Value).toArray below meth c D ad cA n0 0 post thr 4 M [(0, .ref (ad 331)), (1, .int (Int32.ofInt a1)), (2, .int (Int32.ofInt v2)), (3, .int (Int32.ofInt v3))] 44 [] := by
    intro J_4 M v2 v3 hw hJ_4 H locs ls w hl
    refine lv_aload_n F.1 F.2.1 d_Mo_improveAll_44 rfl (lv_at hl 0 rfl) ?_
    refine lv_iload_n F.1 F.2.1 d_Mo_improveAll_45 rfl (lv_at hl 3 rfl) ?_
    refine fx_c w hno hlk (fx_rV (As := [.int (Int32.ofInt v3)]) (rest := []) F w cl_Mo 331 T_331 (met_Mo_improve l hst9 D ad cA n0 M v3 _ thr hw) e_Mo_improve ki_Mo_improve ks_Mo_improve k_1107 rfl hl.1 rfl (Nat.le_of_ble_eq_true rfl) ⟨⟨Nat.le_of_ble_eq_true rfl, Nat.le_of_ble_eq_true rfl⟩, Nat.le_of_ble_eq_true rfl, Nat.le_of_ble_eq_true rfl⟩ d_Mo_improveAll_46) (fun r48 M47 hw H locs w => ?_)
    show W p l e _ s m _ below meth c H locs 0 0 _ (F0 m 49 ls [.int (Int32.ofInt r48)])
    obtain ⟨h49, hw⟩ := hw
    refine fi_if_ne F d_Mo_improveAll_49 (tgt := 56) (by decide) h49 (fun hc50 => ?_) (fun hc50 => ?_)
    · have hw := hw.1 hc50
      exact blk_56 J_4 M47 v3 hw hJ_4 H locs ls w (lv_sub hl [0, 1, 3] rfl)
    · have hw := hw.2 hc50
      refine lv_iload_n F.1 F.2.1 d_Mo_improveAll_52 rfl (lv_at hl 2 rfl) ?_
      obtain ⟨h51, hw⟩ := hw
      refine fi_if_eq F d_Mo_improveAll_53 (tgt := 60) (by decide) h51 (fun hc52 => ?_) (fun hc52 => ?_)
      · have hw := hw.1 hc52
        refine lv_iconst (v := Int32.ofInt 0) F.1 F.2.1 d_Mo_improveAll_60 (by decide) ?_
        exact blk_61 J_4 M47 v3 0 hw hJ_4 H locs ls w (lv_sub hl [0, 1, 3] rfl)
      · have hw := hw.2 hc52
        exact blk_56 J_4 M47 v3 hw hJ_4 H locs ls w (lv_sub hl [0, 1, 3] rfl)
  have blc_4 : ∀ (J_4 : (fm_M → Int → Int → Prop)) (M : fm_M) (v2 : Int) (v3 : Int), C_Mo_improveAll_4 a1 post thr J_4 M v2 v3 → (∀ (M : fm_M) (v2 : Int) (v3 : Int), J_4 M v2 v3 → fx_G p l e { frames := 2, cells := 1, slots := 6, locals := 58 } s m ([.ref (ad 331), .int (Int32.ofInt a1)] : List Value).toArray below meth c D ad cA n0 0 post thr 4 M [(0, .ref (ad 331)), (1, .int (Int32.ofInt a1)), (2, .int (Int32.ofInt v2)), (3, .int (Int32.ofInt v3))] 4 []) → fx_G p l e { frames := 2, cells := 1, slots := 6, locals := 58 } s m ([.ref (ad 331), .int (Int32.ofInt a1)] : List Value).toArray below meth c D ad cA n0 0 post thr 4 M [(0, .ref (ad 331)), (1, .int (Int32.ofInt a1)), (2, .int (Int32.ofInt v2)), (3, .int (Int32.ofInt v3))] 4 [] := by
    intro J_4 M v2 v3 hw hJ_4 H locs ls w hl
    refine lv_iload_n F.1 F.2.1 d_Mo_improveAll_4 rfl (lv_at hl 3 rfl) ?_
    refine lv_aload_n F.1 F.2.1 d_Mo_improveAll_5 rfl (lv_at hl 0 rfl) ?_
    refine fm_gI F w cl_Mo 331 20 T_331 (by decide) rfl k_834 d_Mo_improveAll_6 ?_
    obtain ⟨h53, hw⟩ := hw
    obtain ⟨h54, hw⟩ := hw
    refine fi_icmp_ge F d_Mo_improveAll_9 (tgt := 68) (by decide) h53 h54 (fun hc55 => ?_) (fun hc55 => ?_)
    · have hw := hw.1 hc55
      refine lv_iload_n F.1 F.2.1 d_Mo_improveAll_68 rfl (lv_at hl 2 rfl) ?_
      obtain ⟨h56, hw⟩ := hw
      exact fx_zret F w hr hlk (fx_nz h56) hw d_Mo_improveAll_69
    · have hw := hw.2 hc55
      refine lv_aload_n F.1 F.2.1 d_Mo_improveAll_12 rfl (lv_at hl 0 rfl) ?_
      refine fm_gO F w cl_Mo 331 27 349 T_331 (by decide) rfl rfl k_841 d_Mo_improveAll_13 ?_
      refine lv_iload_n F.1 F.2.1 d_Mo_improveAll_16 rfl (lv_at hl 3 rfl) ?_
      obtain ⟨h57, hw⟩ := hw
      refine fm_aI F w 349 T_349 (by decide) h57 d_Mo_improveAll_17 ?_
      obtain ⟨h58, hw⟩ := hw
      refine fi_if_le F d_Mo_improveAll_18 (tgt := 62) (by decide) h58 (fun hc59 => ?_) (fun hc59 => ?_)
      · have hw := hw.1 hc59
        refine fi_iinc (k := 3) (v := (v3 + 1)) F d_Mo_improveAll_62 hl rfl rfl (by decide) rfl (fun ls hl => ?_)
        have hl : lv_has ls 4 [(3, .int (Int32.ofInt (v3 + 1))), (0, .ref (ad 331)), (1, .int (Int32.ofInt a1)), (2, .int (Int32.ofInt v2))] := hl
        refine lv_goto F.1 F.2.1 d_Mo_improveAll_65 (tgt := 4) (by decide) ?_
        exact hJ_4 M v2 (v3 + 1) hw H locs ls w (lv_sub hl [1, 2, 3, 0] rfl)
      · have hw := hw.2 hc59
        refine lv_aload_n F.1 F.2.1 d_Mo_improveAll_21 rfl (lv_at hl 0 rfl) ?_
        refine fm_gO F w cl_Mo 331 25 347 T_331 (by decide) rfl rfl k_839 d_Mo_improveAll_22 ?_
        refine lv_iload_n F.1 F.2.1 d_Mo_improveAll_25 rfl (lv_at hl 3 rfl) ?_
        refine fm_aZ F w 347 T_347 (by decide) h57 d_Mo_improveAll_26 ?_
        refine lv_iload_n F.1 F.2.1 d_Mo_improveAll_27 rfl (lv_at hl 1 rfl) ?_
        obtain ⟨h60, hw⟩ := hw
        obtain ⟨h61, hw⟩ := hw
        refine fi_icmp_ne F d_Mo_improveAll_28 (tgt := 62) (by decide) h60 h61 (fun hc62 => ?_) (fun hc62 => ?_)
        · have hw := hw.1 hc62
          refine fi_iinc (k := 3) (v := (v3 + 1)) F d_Mo_improveAll_62 hl rfl rfl (by decide) rfl (fun ls hl => ?_)
          have hl : lv_has ls 4 [(3, .int (Int32.ofInt (v3 + 1))), (0, .ref (ad 331)), (1, .int (Int32.ofInt a1)), (2, .int (Int32.ofInt v2))] := hl
          refine lv_goto F.1 F.2.1 d_Mo_improveAll_65 (tgt := 4) (by decide) ?_
          exact hJ_4 M v2 (v3 + 1) hw H locs ls w (lv_sub hl [1, 2, 3, 0] rfl)
        · have hw := hw.2 hc62
          refine lv_iload_n F.1 F.2.1 d_Mo_improveAll_31 rfl (lv_at hl 1 rfl) ?_
          refine fi_if_ne F d_Mo_improveAll_32 (tgt := 44) (by decide) h61 (fun hc63 => ?_) (fun hc63 => ?_)
          · have hw := hw.1 hc63
            exact blk_44 J_4 M v2 v3 hw hJ_4 H locs ls w (lv_sub hl [0, 1, 2, 3] rfl)
          · have hw := hw.2 hc63
            refine lv_aload_n F.1 F.2.1 d_Mo_improveAll_35 rfl (lv_at hl 0 rfl) ?_
            refine fm_gO F w cl_Mo 331 32 354 T_331 (by decide) rfl rfl k_846 d_Mo_improveAll_36 ?_
            refine lv_iload_n F.1 F.2.1 d_Mo_improveAll_39 rfl (lv_at hl 3 rfl) ?_
            refine fm_aZ F w 354 T_354 (by decide) h57 d_Mo_improveAll_40 ?_
            obtain ⟨h64, hw⟩ := hw
            refine fi_if_ne F d_Mo_improveAll_41 (tgt := 62) (by decide) h64 (fun hc65 => ?_) (fun hc65 => ?_)
            · have hw := hw.1 hc65
              refine fi_iinc (k := 3) (v := (v3 + 1)) F d_Mo_improveAll_62 hl rfl rfl (by decide) rfl (fun ls hl => ?_)
              have hl : lv_has ls 4 [(3, .int (Int32.ofInt (v3 + 1))), (0, .ref (ad 331)), (1, .int (Int32.ofInt a1)), (2, .int (Int32.ofInt v2))] := hl
              refine lv_goto F.1 F.2.1 d_Mo_improveAll_65 (tgt := 4) (by decide) ?_
              exact hJ_4 M v2 (v3 + 1) hw H locs ls w (lv_sub hl [1, 2, 3, 0] rfl)
            · have hw := hw.2 hc65
              exact blk_44 J_4 M v2 v3 hw hJ_4 H locs ls w (lv_sub hl [0, 1, 2, 3] rfl)
  have blk_4 : ∀ (M : fm_M) (v2 : Int) (v3 : Int), B_Mo_improveAll_4 a1 post thr M v2 v3 → fx_G p l e { frames := 2, cells := 1, slots := 6, locals := 58 } s m ([.ref (ad 331), .int (Int32.ofInt a1)] : List Value).toArray below meth c D ad cA n0 0 post thr 4 M [(0, .ref (ad 331)), (1, .int (Int32.ofInt a1)), (2, .int (Int32.ofInt v2)), (3, .int (Int32.ofInt v3))] 4 [] := by
    intro M v2 v3 hw
    obtain ⟨I, μ, hI, hB⟩ := hw
    have key : ∀ (q : Nat) (M : fm_M) (v2 : Int) (v3 : Int), μ M v2 v3 < q → I M v2 v3 → fx_G p l e { frames := 2, cells := 1, slots := 6, locals := 58 } s m ([.ref (ad 331), .int (Int32.ofInt a1)] : List Value).toArray below meth c D ad cA n0 0 post thr 4 M [(0, .ref (ad 331)), (1, .int (Int32.ofInt a1)), (2, .int (Int32.ofInt v2)), (3, .int (Int32.ofInt v3))] 4 [] := by
      intro q
      induction q with
      | zero => intro M v2 v3 h _; exact absurd h (Nat.not_lt_zero _)
      | succ q ih =>
        intro M v2 v3 hμ hI
        exact blc_4 (fun M' v2' v3' => I M' v2' v3' ∧ μ M' v2' v3' < μ M v2 v3) M v2 v3 (hB M v2 v3 hI) (fun M' v2' v3' hh => ih M' v2' v3' (Nat.lt_of_lt_of_le hh.2 (Nat.le_of_lt_succ hμ)) hh.1)
    exact key _ M v2 v3 (Nat.lt_succ_self _) hI
  have hl : lv_has ls 4 [(0, .ref (ad 331)), (1, .int (Int32.ofInt a1))] := hl
  suffices h9 : fx_G p l e { frames := 2, cells := 1, slots := 6, locals := 58 } s m ([.ref (ad 331), .int (Int32.ofInt a1)] : List Value).toArray below meth c D ad cA n0 0 post thr 4 M [(0, .ref (ad 331)), (1, .int (Int32.ofInt a1))] 0 [] from h9 _ _ _ w hl
  intro H locs ls w hl
  refine lv_iconst (v := Int32.ofInt 0) F.1 F.2.1 d_Mo_improveAll_0 (by decide) ?_
  refine lv_istore_n F.1 F.2.1 d_Mo_improveAll_1 rfl hl (by decide) rfl (fun ls hl => ?_)
  have hl : lv_has ls 4 [(2, .int (Int32.ofInt 0)), (0, .ref (ad 331)), (1, .int (Int32.ofInt a1))] := hl
  refine lv_iconst (v := Int32.ofInt 0) F.1 F.2.1 d_Mo_improveAll_2 (by decide) ?_
  refine lv_istore_n F.1 F.2.1 d_Mo_improveAll_3 rfl hl (by decide) rfl (fun ls hl => ?_)
  have hl : lv_has ls 4 [(3, .int (Int32.ofInt 0)), (2, .int (Int32.ofInt 0)), (0, .ref (ad 331)), (1, .int (Int32.ofInt a1))] := hl
  exact blk_4 M 0 0 hw H locs ls w (lv_sub hl [2, 3, 1, 0] rfl)
set_option maxHeartbeats 4000000 in
set_option maxRecDepth 100000 in
theorem met_Mo_solveGame (l : Launch) (hst9 : l.stackTraces = false) (D : va_G) (ad : Nat → Nat) (cA : Nat → ClassId) (n0 : Nat) (M : fm_M) (post : Int → fm_M → Prop) (thr : String → fm_M → Prop) (hw : wp_Mo_solveGame M post thr) : fx_Met l y_Mo_solveGame (Cond.code y_Mo_solveGame b_Mo_solveGame 3 none :: tb) { frames := 3, cells := 1, slots := 6, locals := 81 } [.ref (ad 331)] D ad cA n0 M 3 post thr := by
  refine fx_met (by decide) (Nat.le_of_ble_eq_true rfl) (fun p e s m below meth c ls F w hno hr hlk hl => ?_)
  have blc_81 : ∀ (J_71 : (fm_M → Int → Prop)) (J_81 : (fm_M → Int → Prop)) (M : fm_M) (v2 : Int), C_Mo_solveGame_81 post thr J_71 J_81 M v2 → (∀ (M : fm_M) (v1 : Int), J_71 M v1 → fx_G p l e { frames := 3, cells := 1, slots := 6, locals := 81 } s m ([.ref (ad 331)] : List Value).toArray below meth c D ad cA n0 3 post thr 3 M [(0, .ref (ad 331)), (1, .int (Int32.ofInt v1))] 71 []) → (∀ (M : fm_M) (v2 : Int), J_81 M v2 → fx_G p l e { frames := 3, cells := 1, slots := 6, locals := 81 } s m ([.ref (ad 331)] : List Value).toArray below meth c D ad cA n0 3 post thr 3 M [(0, .ref (ad 331)), (2, .int (Int32.ofInt v2))] 81 []) → fx_G p l e { frames := 3, cells := 1, slots := 6, locals := 81 } s m ([.ref (ad 331)] : List Value).toArray below meth c D ad cA n0 3 post thr 3 M [(0, .ref (ad 331)), (2, .int (Int32.ofInt v2))] 81 [] := by
    intro J_71 J_81 M v2 hw hJ_71 hJ_81 H locs ls w hl
    refine lv_iload_n F.1 F.2.1 d_Mo_solveGame_81 rfl (lv_at hl 1 rfl) ?_
    obtain ⟨h44, hw⟩ := hw
    refine fi_if_eq F d_Mo_solveGame_82 (tgt := 98) (by decide) h44 (fun hc45 => ?_) (fun hc45 => ?_)
    · have hw := hw.1 hc45
      refine lv_aload_n F.1 F.2.1 d_Mo_solveGame_98 rfl (lv_at hl 0 rfl) ?_
      refine lv_iconst (v := Int32.ofInt 1) F.1 F.2.1 d_Mo_solveGame_99 (by decide) ?_
      refine fx_c w hno hlk (fx_rV (As := [.int (Int32.ofInt 1)]) (rest := []) F w cl_Mo 331 T_331 (met_Mo_improveAll l hst9 D ad cA n0 M 1 _ thr hw) e_Mo_improveAll ki_Mo_improveAll ks_Mo_improveAll k_1103 rfl hl.1 rfl (Nat.le_of_ble_eq_true rfl) ⟨⟨Nat.le_of_ble_eq_true rfl, Nat.le_of_ble_eq_true rfl⟩, Nat.le_of_ble_eq_true rfl, Nat.le_of_ble_eq_true rfl⟩ d_Mo_solveGame_100) (fun r47 M46 hw H locs w => ?_)
      show W p l e _ s m _ below meth c H locs 0 0 _ (F0 m 103 ls [.int (Int32.ofInt r47)])
      refine lv_istore_n F.1 F.2.1 d_Mo_solveGame_103 rfl hl (by decide) rfl (fun ls hl => ?_)
      have hl : lv_has ls 3 [(1, .int (Int32.ofInt r47)), (0, .ref (ad 331)), (2, .int (Int32.ofInt v2))] := hl
      refine lv_goto F.1 F.2.1 d_Mo_solveGame_104 (tgt := 71) (by decide) ?_
      exact hJ_71 M46 r47 hw H locs ls w (lv_sub hl [1, 0] rfl)
    · have hw := hw.2 hc45
      refine lv_aload_n F.1 F.2.1 d_Mo_solveGame_85 rfl (lv_at hl 0 rfl) ?_
      refine fx_c w hno hlk (fx_rV (As := []) (rest := []) F w cl_Mo 331 T_331 (met_Mo_evaluate l hst9 D ad cA n0 M _ thr hw) e_Mo_evaluate ki_Mo_evaluate ks_Mo_evaluate k_1090 rfl hl.1 rfl (Nat.le_of_ble_eq_true rfl) ⟨⟨Nat.le_of_ble_eq_true rfl, Nat.le_of_ble_eq_true rfl⟩, Nat.le_of_ble_eq_true rfl, Nat.le_of_ble_eq_true rfl⟩ d_Mo_solveGame_86) (fun r49 M48 hw H locs w => ?_)
      refine lv_aload_n F.1 F.2.1 d_Mo_solveGame_89 rfl (lv_at hl 0 rfl) ?_
      refine lv_iconst (v := Int32.ofInt 0) F.1 F.2.1 d_Mo_solveGame_90 (by decide) ?_
      refine fx_c w hno hlk (fx_rV (As := [.int (Int32.ofInt 0)]) (rest := []) F w cl_Mo 331 T_331 (met_Mo_improveAll l hst9 D ad cA n0 M48 0 _ thr hw) e_Mo_improveAll ki_Mo_improveAll ks_Mo_improveAll k_1103 rfl hl.1 rfl (Nat.le_of_ble_eq_true rfl) ⟨⟨Nat.le_of_ble_eq_true rfl, Nat.le_of_ble_eq_true rfl⟩, Nat.le_of_ble_eq_true rfl, Nat.le_of_ble_eq_true rfl⟩ d_Mo_solveGame_91) (fun r51 M50 hw H locs w => ?_)
      show W p l e _ s m _ below meth c H locs 0 0 _ (F0 m 94 ls [.int (Int32.ofInt r51)])
      refine lv_istore_n F.1 F.2.1 d_Mo_solveGame_94 rfl hl (by decide) rfl (fun ls hl => ?_)
      have hl : lv_has ls 3 [(2, .int (Int32.ofInt r51)), (0, .ref (ad 331))] := hl
      refine lv_goto F.1 F.2.1 d_Mo_solveGame_95 (tgt := 81) (by decide) ?_
      exact hJ_81 M50 r51 hw H locs ls w (lv_sub hl [1, 0] rfl)
  have blk_81 : ∀ (J_71 : (fm_M → Int → Prop)) (M : fm_M) (v2 : Int), B_Mo_solveGame_81 post thr J_71 M v2 → (∀ (M : fm_M) (v1 : Int), J_71 M v1 → fx_G p l e { frames := 3, cells := 1, slots := 6, locals := 81 } s m ([.ref (ad 331)] : List Value).toArray below meth c D ad cA n0 3 post thr 3 M [(0, .ref (ad 331)), (1, .int (Int32.ofInt v1))] 71 []) → fx_G p l e { frames := 3, cells := 1, slots := 6, locals := 81 } s m ([.ref (ad 331)] : List Value).toArray below meth c D ad cA n0 3 post thr 3 M [(0, .ref (ad 331)), (2, .int (Int32.ofInt v2))] 81 [] := by
    intro J_71 M v2 hw hJ_71
    obtain ⟨I, μ, hI, hB⟩ := hw
    have key : ∀ (q : Nat) (M : fm_M) (v2 : Int), μ M v2 < q → I M v2 → fx_G p l e { frames := 3, cells := 1, slots := 6, locals := 81 } s m ([.ref (ad 331)] : List Value).toArray below meth c D ad cA n0 3 post thr 3 M [(0, .ref (ad 331)), (2, .int (Int32.ofInt v2))] 81 [] := by
      intro q
      induction q with
      | zero => intro M v2 h _; exact absurd h (Nat.not_lt_zero _)
      | succ q ih =>
        intro M v2 hμ hI
        exact blc_81 J_71 (fun M' v2' => I M' v2' ∧ μ M' v2' < μ M v2) M v2 (hB M v2 hI) hJ_71 (fun M' v2' hh => ih M' v2' (Nat.lt_of_lt_of_le hh.2 (Nat.le_of_lt_succ hμ)) hh.1)
    exact key _ M v2 (Nat.lt_succ_self _) hI
  have blc_71 : ∀ (J_71 : (fm_M → Int → Prop)) (M : fm_M) (v1 : Int), C_Mo_solveGame_71 post thr J_71 M v1 → (∀ (M : fm_M) (v1 : Int), J_71 M v1 → fx_G p l e { frames := 3, cells := 1, slots := 6, locals := 81 } s m ([.ref (ad 331)] : List Value).toArray below meth c D ad cA n0 3 post thr 3 M [(0, .ref (ad 331)), (1, .int (Int32.ofInt v1))] 71 []) → fx_G p l e { frames := 3, cells := 1, slots := 6, locals := 81 } s m ([.ref (ad 331)] : List Value).toArray below meth c D ad cA n0 3 post thr 3 M [(0, .ref (ad 331)), (1, .int (Int32.ofInt v1))] 71 [] := by
    intro J_71 M v1 hw hJ_71 H locs ls w hl
    refine lv_iload_n F.1 F.2.1 d_Mo_solveGame_71 rfl (lv_at hl 1 rfl) ?_
    obtain ⟨h52, hw⟩ := hw
    refine fi_if_eq F d_Mo_solveGame_72 (tgt := 107) (by decide) h52 (fun hc53 => ?_) (fun hc53 => ?_)
    · have hw := hw.1 hc53
      exact fx_vret F w hr hlk hw d_Mo_solveGame_107
    · have hw := hw.2 hc53
      refine lv_aload_n F.1 F.2.1 d_Mo_solveGame_75 rfl (lv_at hl 0 rfl) ?_
      refine fx_c w hno hlk (fx_rV (As := []) (rest := []) F w cl_Mo 331 T_331 (met_Mo_findLost l hst9 D ad cA n0 M _ thr hw) e_Mo_findLost ki_Mo_findLost ks_Mo_findLost k_1078 rfl hl.1 rfl (Nat.le_of_ble_eq_true rfl) ⟨⟨Nat.le_of_ble_eq_true rfl, Nat.le_of_ble_eq_true rfl⟩, Nat.le_of_ble_eq_true rfl, Nat.le_of_ble_eq_true rfl⟩ d_Mo_solveGame_76) (fun r55 M54 hw H locs w => ?_)
      refine lv_iconst (v := Int32.ofInt 1) F.1 F.2.1 d_Mo_solveGame_79 (by decide) ?_
      refine lv_istore_n F.1 F.2.1 d_Mo_solveGame_80 rfl hl (by decide) rfl (fun ls hl => ?_)
      have hl : lv_has ls 3 [(2, .int (Int32.ofInt 1)), (0, .ref (ad 331)), (1, .int (Int32.ofInt v1))] := hl
      exact blk_81 J_71 M54 1 hw hJ_71 H locs ls w (lv_sub hl [1, 0] rfl)
  have blk_71 : ∀ (M : fm_M) (v1 : Int), B_Mo_solveGame_71 post thr M v1 → fx_G p l e { frames := 3, cells := 1, slots := 6, locals := 81 } s m ([.ref (ad 331)] : List Value).toArray below meth c D ad cA n0 3 post thr 3 M [(0, .ref (ad 331)), (1, .int (Int32.ofInt v1))] 71 [] := by
    intro M v1 hw
    obtain ⟨I, μ, hI, hB⟩ := hw
    have key : ∀ (q : Nat) (M : fm_M) (v1 : Int), μ M v1 < q → I M v1 → fx_G p l e { frames := 3, cells := 1, slots := 6, locals := 81 } s m ([.ref (ad 331)] : List Value).toArray below meth c D ad cA n0 3 post thr 3 M [(0, .ref (ad 331)), (1, .int (Int32.ofInt v1))] 71 [] := by
      intro q
      induction q with
      | zero => intro M v1 h _; exact absurd h (Nat.not_lt_zero _)
      | succ q ih =>
        intro M v1 hμ hI
        exact blc_71 (fun M' v1' => I M' v1' ∧ μ M' v1' < μ M v1) M v1 (hB M v1 hI) (fun M' v1' hh => ih M' v1' (Nat.lt_of_lt_of_le hh.2 (Nat.le_of_lt_succ hμ)) hh.1)
    exact key _ M v1 (Nat.lt_succ_self _) hI
  have blc_17 : ∀ (J_2 : (fm_M → Int → Prop)) (J_17 : (fm_M → Int → Prop)) (M : fm_M) (v1 : Int), C_Mo_solveGame_17 post thr J_2 J_17 M v1 → (∀ (M : fm_M) (v1 : Int), J_2 M v1 → fx_G p l e { frames := 3, cells := 1, slots := 6, locals := 81 } s m ([.ref (ad 331)] : List Value).toArray below meth c D ad cA n0 3 post thr 3 M [(0, .ref (ad 331)), (1, .int (Int32.ofInt v1))] 2 []) → (∀ (M : fm_M) (v1 : Int), J_17 M v1 → fx_G p l e { frames := 3, cells := 1, slots := 6, locals := 81 } s m ([.ref (ad 331)] : List Value).toArray below meth c D ad cA n0 3 post thr 3 M [(0, .ref (ad 331)), (1, .int (Int32.ofInt v1))] 17 []) → fx_G p l e { frames := 3, cells := 1, slots := 6, locals := 81 } s m ([.ref (ad 331)] : List Value).toArray below meth c D ad cA n0 3 post thr 3 M [(0, .ref (ad 331)), (1, .int (Int32.ofInt v1))] 17 [] := by
    intro J_2 J_17 M v1 hw hJ_2 hJ_17 H locs ls w hl
    refine lv_aload_n F.1 F.2.1 d_Mo_solveGame_17 rfl (lv_at hl 0 rfl) ?_
    refine fm_gO F w cl_Mo 331 31 353 T_331 (by decide) rfl rfl k_845 d_Mo_solveGame_18 ?_
    refine lv_iload_n F.1 F.2.1 d_Mo_solveGame_21 rfl (lv_at hl 1 rfl) ?_
    obtain ⟨h56, hw⟩ := hw
    refine fm_aI F w 353 T_353 (by decide) h56 d_Mo_solveGame_22 ?_
    refine lv_aload_n F.1 F.2.1 d_Mo_solveGame_23 rfl (lv_at hl 0 rfl) ?_
    refine fm_gO F w cl_Mo 331 27 349 T_331 (by decide) rfl rfl k_841 d_Mo_solveGame_24 ?_
    refine lv_iload_n F.1 F.2.1 d_Mo_solveGame_27 rfl (lv_at hl 1 rfl) ?_
    refine fm_aI F w 349 T_349 (by decide) h56 d_Mo_solveGame_28 ?_
    obtain ⟨h57, hw⟩ := hw
    obtain ⟨h58, hw⟩ := hw
    refine fi_icmp_ge F d_Mo_solveGame_29 (tgt := 63) (by decide) h57 h58 (fun hc59 => ?_) (fun hc59 => ?_)
    · have hw := hw.1 hc59
      refine fi_iinc (k := 1) (v := (v1 + 1)) F d_Mo_solveGame_63 hl rfl rfl (by decide) rfl (fun ls hl => ?_)
      have hl : lv_has ls 3 [(1, .int (Int32.ofInt (v1 + 1))), (0, .ref (ad 331))] := hl
      refine lv_goto F.1 F.2.1 d_Mo_solveGame_66 (tgt := 2) (by decide) ?_
      exact hJ_2 M (v1 + 1) hw H locs ls w (lv_sub hl [1, 0] rfl)
    · have hw := hw.2 hc59
      refine lv_aload_n F.1 F.2.1 d_Mo_solveGame_32 rfl (lv_at hl 0 rfl) ?_
      refine fm_gO F w cl_Mo 331 30 352 T_331 (by decide) rfl rfl k_844 d_Mo_solveGame_33 ?_
      refine lv_iload_n F.1 F.2.1 d_Mo_solveGame_36 rfl (lv_at hl 1 rfl) ?_
      refine fm_aI F w 352 T_352 (by decide) h56 d_Mo_solveGame_37 ?_
      refine lv_aload_n F.1 F.2.1 d_Mo_solveGame_38 rfl (lv_at hl 0 rfl) ?_
      refine fm_gO F w cl_Mo 331 31 353 T_331 (by decide) rfl rfl k_845 d_Mo_solveGame_39 ?_
      refine lv_iload_n F.1 F.2.1 d_Mo_solveGame_42 rfl (lv_at hl 1 rfl) ?_
      refine fm_aI F w 353 T_353 (by decide) h56 d_Mo_solveGame_43 ?_
      refine fx_c w hno hlk (fx_rS (As := [.int (Int32.ofInt (M 352 v1.toNat)), .int (Int32.ofInt (M 353 v1.toNat))]) (rest := []) F w (met_Mo_has l hst9 D ad cA n0 M (M 352 v1.toNat) (M 353 v1.toNat) _ thr hw) e_Mo_has kt_Mo_has k_1075 rfl hl.1 rfl (Nat.le_of_ble_eq_true rfl) ⟨⟨Nat.le_of_ble_eq_true rfl, Nat.le_of_ble_eq_true rfl⟩, Nat.le_of_ble_eq_true rfl, Nat.le_of_ble_eq_true rfl⟩ d_Mo_solveGame_44) (fun r61 M60 hw H locs w => ?_)
      show W p l e _ s m _ below meth c H locs 0 0 _ (F0 m 47 ls [.int (Int32.ofInt r61)])
      obtain ⟨h62, hw⟩ := hw
      refine fi_if_ne F d_Mo_solveGame_47 (tgt := 63) (by decide) h62 (fun hc63 => ?_) (fun hc63 => ?_)
      · have hw := hw.1 hc63
        refine fi_iinc (k := 1) (v := (v1 + 1)) F d_Mo_solveGame_63 hl rfl rfl (by decide) rfl (fun ls hl => ?_)
        have hl : lv_has ls 3 [(1, .int (Int32.ofInt (v1 + 1))), (0, .ref (ad 331))] := hl
        refine lv_goto F.1 F.2.1 d_Mo_solveGame_66 (tgt := 2) (by decide) ?_
        exact hJ_2 M60 (v1 + 1) hw H locs ls w (lv_sub hl [1, 0] rfl)
      · have hw := hw.2 hc63
        refine lv_aload_n F.1 F.2.1 d_Mo_solveGame_50 rfl (lv_at hl 0 rfl) ?_
        refine fm_gO F w cl_Mo 331 31 353 T_331 (by decide) rfl rfl k_845 d_Mo_solveGame_51 ?_
        refine lv_iload_n F.1 F.2.1 d_Mo_solveGame_54 rfl (lv_at hl 1 rfl) ?_
        refine lv_dup2_11 F.1 F.2.1 d_Mo_solveGame_55 rfl rfl ?_
        refine fm_aI F w 353 T_353 (by decide) h56 d_Mo_solveGame_56 ?_
        refine lv_iconst (v := Int32.ofInt 1) F.1 F.2.1 d_Mo_solveGame_57 (by decide) ?_
        refine fi_iadd F d_Mo_solveGame_58 ?_
        refine fm_sI F w 353 T_353 (by decide) h56  d_Mo_solveGame_59 (fun M64 hM64 H locs w => ?_)
        have hw := hw M64 hM64
        refine lv_goto F.1 F.2.1 d_Mo_solveGame_60 (tgt := 17) (by decide) ?_
        exact hJ_17 M64 v1 hw H locs ls w (lv_sub hl [0, 1] rfl)
  have blk_17 : ∀ (J_2 : (fm_M → Int → Prop)) (M : fm_M) (v1 : Int), B_Mo_solveGame_17 post thr J_2 M v1 → (∀ (M : fm_M) (v1 : Int), J_2 M v1 → fx_G p l e { frames := 3, cells := 1, slots := 6, locals := 81 } s m ([.ref (ad 331)] : List Value).toArray below meth c D ad cA n0 3 post thr 3 M [(0, .ref (ad 331)), (1, .int (Int32.ofInt v1))] 2 []) → fx_G p l e { frames := 3, cells := 1, slots := 6, locals := 81 } s m ([.ref (ad 331)] : List Value).toArray below meth c D ad cA n0 3 post thr 3 M [(0, .ref (ad 331)), (1, .int (Int32.ofInt v1))] 17 [] := by
    intro J_2 M v1 hw hJ_2
    obtain ⟨I, μ, hI, hB⟩ := hw
    have key : ∀ (q : Nat) (M : fm_M) (v1 : Int), μ M v1 < q → I M v1 → fx_G p l e { frames := 3, cells := 1, slots := 6, locals := 81 } s m ([.ref (ad 331)] : List Value).toArray below meth c D ad cA n0 3 post thr 3 M [(0, .ref (ad 331)), (1, .int (Int32.ofInt v1))] 17 [] := by
      intro q
      induction q with
      | zero => intro M v1 h _; exact absurd h (Nat.not_lt_zero _)
      | succ q ih =>
        intro M v1 hμ hI
        exact blc_17 J_2 (fun M' v1' => I M' v1' ∧ μ M' v1' < μ M v1) M v1 (hB M v1 hI) hJ_2 (fun M' v1' hh => ih M' v1' (Nat.lt_of_lt_of_le hh.2 (Nat.le_of_lt_succ hμ)) hh.1)
    exact key _ M v1 (Nat.lt_succ_self _) hI
  have blc_2 : ∀ (J_2 : (fm_M → Int → Prop)) (M : fm_M) (v1 : Int), C_Mo_solveGame_2 post thr J_2 M v1 → (∀ (M : fm_M) (v1 : Int), J_2 M v1 → fx_G p l e { frames := 3, cells := 1, slots := 6, locals := 81 } s m ([.ref (ad 331)] : List Value).toArray below meth c D ad cA n0 3 post thr 3 M [(0, .ref (ad 331)), (1, .int (Int32.ofInt v1))] 2 []) → fx_G p l e { frames := 3, cells := 1, slots := 6, locals := 81 } s m ([.ref (ad 331)] : List Value).toArray below meth c D ad cA n0 3 post thr 3 M [(0, .ref (ad 331)), (1, .int (Int32.ofInt v1))] 2 [] := by
    intro J_2 M v1 hw hJ_2 H locs ls w hl
    refine lv_iload_n F.1 F.2.1 d_Mo_solveGame_2 rfl (lv_at hl 1 rfl) ?_
    refine lv_aload_n F.1 F.2.1 d_Mo_solveGame_3 rfl (lv_at hl 0 rfl) ?_
    refine fm_gI F w cl_Mo 331 20 T_331 (by decide) rfl k_834 d_Mo_solveGame_4 ?_
    obtain ⟨h65, hw⟩ := hw
    obtain ⟨h66, hw⟩ := hw
    refine fi_icmp_ge F d_Mo_solveGame_7 (tgt := 69) (by decide) h65 h66 (fun hc67 => ?_) (fun hc67 => ?_)
    · have hw := hw.1 hc67
      refine lv_iconst (v := Int32.ofInt 1) F.1 F.2.1 d_Mo_solveGame_69 (by decide) ?_
      refine lv_istore_n F.1 F.2.1 d_Mo_solveGame_70 rfl hl (by decide) rfl (fun ls hl => ?_)
      have hl : lv_has ls 3 [(1, .int (Int32.ofInt 1)), (0, .ref (ad 331))] := hl
      exact blk_71 M 1 hw H locs ls w (lv_sub hl [1, 0] rfl)
    · have hw := hw.2 hc67
      refine lv_aload_n F.1 F.2.1 d_Mo_solveGame_10 rfl (lv_at hl 0 rfl) ?_
      refine fm_gO F w cl_Mo 331 31 353 T_331 (by decide) rfl rfl k_845 d_Mo_solveGame_11 ?_
      refine lv_iload_n F.1 F.2.1 d_Mo_solveGame_14 rfl (lv_at hl 1 rfl) ?_
      refine lv_iconst (v := Int32.ofInt 0) F.1 F.2.1 d_Mo_solveGame_15 (by decide) ?_
      obtain ⟨h68, hw⟩ := hw
      refine fm_sI F w 353 T_353 (by decide) h68  d_Mo_solveGame_16 (fun M69 hM69 H locs w => ?_)
      have hw := hw M69 hM69
      exact blk_17 J_2 M69 v1 hw hJ_2 H locs ls w (lv_sub hl [0, 1] rfl)
  have blk_2 : ∀ (M : fm_M) (v1 : Int), B_Mo_solveGame_2 post thr M v1 → fx_G p l e { frames := 3, cells := 1, slots := 6, locals := 81 } s m ([.ref (ad 331)] : List Value).toArray below meth c D ad cA n0 3 post thr 3 M [(0, .ref (ad 331)), (1, .int (Int32.ofInt v1))] 2 [] := by
    intro M v1 hw
    obtain ⟨I, μ, hI, hB⟩ := hw
    have key : ∀ (q : Nat) (M : fm_M) (v1 : Int), μ M v1 < q → I M v1 → fx_G p l e { frames := 3, cells := 1, slots := 6, locals := 81 } s m ([.ref (ad 331)] : List Value).toArray below meth c D ad cA n0 3 post thr 3 M [(0, .ref (ad 331)), (1, .int (Int32.ofInt v1))] 2 [] := by
      intro q
      induction q with
      | zero => intro M v1 h _; exact absurd h (Nat.not_lt_zero _)
      | succ q ih =>
        intro M v1 hμ hI
        exact blc_2 (fun M' v1' => I M' v1' ∧ μ M' v1' < μ M v1) M v1 (hB M v1 hI) (fun M' v1' hh => ih M' v1' (Nat.lt_of_lt_of_le hh.2 (Nat.le_of_lt_succ hμ)) hh.1)
    exact key _ M v1 (Nat.lt_succ_self _) hI
  have hl : lv_has ls 3 [(0, .ref (ad 331))] := hl
  suffices h9 : fx_G p l e { frames := 3, cells := 1, slots := 6, locals := 81 } s m ([.ref (ad 331)] : List Value).toArray below meth c D ad cA n0 3 post thr 3 M [(0, .ref (ad 331))] 0 [] from h9 _ _ _ w hl
  intro H locs ls w hl
  refine lv_iconst (v := Int32.ofInt 0) F.1 F.2.1 d_Mo_solveGame_0 (by decide) ?_
  refine lv_istore_n F.1 F.2.1 d_Mo_solveGame_1 rfl hl (by decide) rfl (fun ls hl => ?_)
  have hl : lv_has ls 3 [(1, .int (Int32.ofInt 0)), (0, .ref (ad 331))] := hl
  exact blk_2 M 0 hw H locs ls w (lv_sub hl [1, 0] rfl)
set_option maxHeartbeats 4000000 in
set_option maxRecDepth 100000 in
theorem met_Mo_divisor (l : Launch) (hst9 : l.stackTraces = false) (D : va_G) (ad : Nat → Nat) (cA : Nat → ClassId) (n0 : Nat) (M : fm_M) (a0 : Int) (a2 : Int) (post : Int → fm_M → Prop) (thr : String → fm_M → Prop) (hw : wp_Mo_divisor M a0 a2 post thr) : fx_Met l y_Mo_divisor (Cond.code y_Mo_divisor b_Mo_divisor 10 (some .long) :: tb) { frames := 0, cells := 1, slots := 6, locals := 0 } [.long (Int64.ofInt a0), .long (Int64.ofInt a2)] D ad cA n0 M 1 post thr := by
  refine fx_met (by decide) (Nat.le_of_ble_eq_true rfl) (fun p e s m below meth c ls F w hno hr hlk hl => ?_)
  have blc_6 : ∀ (J_6 : (fm_M → Int → Int → Prop)) (M : fm_M) (v4 : Int) (v6 : Int), C_Mo_divisor_6 a0 a2 post thr J_6 M v4 v6 → (∀ (M : fm_M) (v4 : Int) (v6 : Int), J_6 M v4 v6 → fx_G p l e { frames := 0, cells := 1, slots := 6, locals := 0 } s m ([.long (Int64.ofInt a0), .long (Int64.ofInt a2)] : List Value).toArray below meth c D ad cA n0 1 post thr 10 M [(4, .long (Int64.ofInt v4)), (6, .long (Int64.ofInt v6))] 6 []) → fx_G p l e { frames := 0, cells := 1, slots := 6, locals := 0 } s m ([.long (Int64.ofInt a0), .long (Int64.ofInt a2)] : List Value).toArray below meth c D ad cA n0 1 post thr 10 M [(4, .long (Int64.ofInt v4)), (6, .long (Int64.ofInt v6))] 6 [] := by
    intro J_6 M v4 v6 hw hJ_6 H locs ls w hl
    refine lv_lload F.1 F.2.1 d_Mo_divisor_6 (lv_at hl 1 rfl) ?_
    refine lv_lconst (v := Int64.ofInt 0) F.1 F.2.1 d_Mo_divisor_8 (by decide) ?_
    obtain ⟨h9, hw⟩ := hw
    refine fi_lcmp F d_Mo_divisor_9 h9 (rll (by decide)) ?_
    refine fi_if_eq F d_Mo_divisor_10 (tgt := 31) (by decide) rg_jcmp (fun hc10 => ?_) (fun hc10 => ?_)
    · have hw := hw.1 hc10
      refine lv_lload F.1 F.2.1 d_Mo_divisor_31 (lv_at hl 0 rfl) ?_
      exact fx_lret F w hr hlk hw d_Mo_divisor_33
    · have hw := hw.2 hc10
      refine lv_lload F.1 F.2.1 d_Mo_divisor_13 (lv_at hl 0 rfl) ?_
      refine lv_lload F.1 F.2.1 d_Mo_divisor_15 (lv_at hl 1 rfl) ?_
      obtain ⟨h11, hw⟩ := hw
      obtain ⟨h12, hw⟩ := hw
      refine fi_lrem F d_Mo_divisor_17 h11 h9 h12 ?_
      refine lv_lstore F.1 F.2.1 d_Mo_divisor_18 hl (by decide) rfl (fun ls hl => ?_)
      have hl : lv_has ls 10 [(8, .long (Int64.ofInt (v4 - v4.tdiv v6 * v6))), (4, .long (Int64.ofInt v4)), (6, .long (Int64.ofInt v6))] := hl
      refine lv_lload F.1 F.2.1 d_Mo_divisor_20 (lv_at hl 2 rfl) ?_
      refine lv_lstore F.1 F.2.1 d_Mo_divisor_22 hl (by decide) rfl (fun ls hl => ?_)
      have hl : lv_has ls 10 [(4, .long (Int64.ofInt v6)), (8, .long (Int64.ofInt (v4 - v4.tdiv v6 * v6))), (6, .long (Int64.ofInt v6))] := hl
      refine lv_lload F.1 F.2.1 d_Mo_divisor_24 (lv_at hl 1 rfl) ?_
      refine lv_lstore F.1 F.2.1 d_Mo_divisor_26 hl (by decide) rfl (fun ls hl => ?_)
      have hl : lv_has ls 10 [(6, .long (Int64.ofInt (v4 - v4.tdiv v6 * v6))), (4, .long (Int64.ofInt v6)), (8, .long (Int64.ofInt (v4 - v4.tdiv v6 * v6)))] := hl
      refine lv_goto F.1 F.2.1 d_Mo_divisor_28 (tgt := 6) (by decide) ?_
      exact hJ_6 M v6 (v4 - v4.tdiv v6 * v6) hw H locs ls w (lv_sub hl [1, 0] rfl)
  have blk_6 : ∀ (M : fm_M) (v4 : Int) (v6 : Int), B_Mo_divisor_6 a0 a2 post thr M v4 v6 → fx_G p l e { frames := 0, cells := 1, slots := 6, locals := 0 } s m ([.long (Int64.ofInt a0), .long (Int64.ofInt a2)] : List Value).toArray below meth c D ad cA n0 1 post thr 10 M [(4, .long (Int64.ofInt v4)), (6, .long (Int64.ofInt v6))] 6 [] := by
    intro M v4 v6 hw
    obtain ⟨I, μ, hI, hB⟩ := hw
    have key : ∀ (q : Nat) (M : fm_M) (v4 : Int) (v6 : Int), μ M v4 v6 < q → I M v4 v6 → fx_G p l e { frames := 0, cells := 1, slots := 6, locals := 0 } s m ([.long (Int64.ofInt a0), .long (Int64.ofInt a2)] : List Value).toArray below meth c D ad cA n0 1 post thr 10 M [(4, .long (Int64.ofInt v4)), (6, .long (Int64.ofInt v6))] 6 [] := by
      intro q
      induction q with
      | zero => intro M v4 v6 h _; exact absurd h (Nat.not_lt_zero _)
      | succ q ih =>
        intro M v4 v6 hμ hI
        exact blc_6 (fun M' v4' v6' => I M' v4' v6' ∧ μ M' v4' v6' < μ M v4 v6) M v4 v6 (hB M v4 v6 hI) (fun M' v4' v6' hh => ih M' v4' v6' (Nat.lt_of_lt_of_le hh.2 (Nat.le_of_lt_succ hμ)) hh.1)
    exact key _ M v4 v6 (Nat.lt_succ_self _) hI
  have hl : lv_has ls 10 [(0, .long (Int64.ofInt a0)), (2, .long (Int64.ofInt a2))] := hl
  suffices h9 : fx_G p l e { frames := 0, cells := 1, slots := 6, locals := 0 } s m ([.long (Int64.ofInt a0), .long (Int64.ofInt a2)] : List Value).toArray below meth c D ad cA n0 1 post thr 10 M [(0, .long (Int64.ofInt a0)), (2, .long (Int64.ofInt a2))] 0 [] from h9 _ _ _ w hl
  intro H locs ls w hl
  refine lv_lload_n F.1 F.2.1 d_Mo_divisor_0 rfl (lv_at hl 0 rfl) ?_
  refine lv_lstore F.1 F.2.1 d_Mo_divisor_1 hl (by decide) rfl (fun ls hl => ?_)
  have hl : lv_has ls 10 [(4, .long (Int64.ofInt a0)), (0, .long (Int64.ofInt a0)), (2, .long (Int64.ofInt a2))] := hl
  refine lv_lload_n F.1 F.2.1 d_Mo_divisor_3 rfl (lv_at hl 2 rfl) ?_
  refine lv_lstore F.1 F.2.1 d_Mo_divisor_4 hl (by decide) rfl (fun ls hl => ?_)
  have hl : lv_has ls 10 [(6, .long (Int64.ofInt a2)), (4, .long (Int64.ofInt a0)), (0, .long (Int64.ofInt a0)), (2, .long (Int64.ofInt a2))] := hl
  exact blk_6 M a0 a2 hw H locs ls w (lv_sub hl [1, 0] rfl)
