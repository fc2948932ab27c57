set_option maxHeartbeats 4000000 in
set_option maxRecDepth 100000 in
theorem met_Mo_determinant (l : Launch) (hst9 : l.stackTraces = false) (D : va_G) (ad : Nat → Nat) (cA : Nat → ClassId) (n0 : Nat) (M : fm_M) (a1 : Int) (post : Int → fm_M → Prop) (thr : String → fm_M → Prop) (hw : wp_Mo_determinant M a1 post thr) : fx_Met l y_Mo_determinant (Cond.code y_Mo_determinant b_Mo_determinant 11 (some .long) :: tb) { frames := 0, cells := 1, slots := 6, locals := 0 } [.ref (ad 331), .int (Int32.ofInt a1)] D ad cA n0 M 1 post thr := by
  refine fx_met (by decide) (Nat.le_of_ble_eq_true rfl) (fun p e s m below meth c ls F w hno hr hlk hl => ?_)
  have blc_241 : ∀ (J_72 : (fm_M → Int → Int → Int → Prop)) (J_226 : (fm_M → Int → Int → Int → Int → Prop)) (J_241 : (fm_M → Int → Int → Int → Int → Int → Prop)) (M : fm_M) (v2 : Int) (v4 : Int) (v6 : Int) (v8 : Int) (v9 : Int), C_Mo_determinant_241 a1 post thr J_72 J_226 J_241 M v2 v4 v6 v8 v9 → (∀ (M : fm_M) (v2 : Int) (v4 : Int) (v6 : Int), J_72 M v2 v4 v6 → fx_G p l e { frames := 0, cells := 1, slots := 6, locals := 0 } s m ([.ref (ad 331), .int (Int32.ofInt a1)] : List Value).toArray below meth c D ad cA n0 1 post thr 11 M [(0, .ref (ad 331)), (2, .long (Int64.ofInt v2)), (4, .long (Int64.ofInt v4)), (6, .int (Int32.ofInt v6))] 72 []) → (∀ (M : fm_M) (v2 : Int) (v4 : Int) (v6 : Int) (v8 : Int), J_226 M v2 v4 v6 v8 → fx_G p l e { frames := 0, cells := 1, slots := 6, locals := 0 } s m ([.ref (ad 331), .int (Int32.ofInt a1)] : List Value).toArray below meth c D ad cA n0 1 post thr 11 M [(0, .ref (ad 331)), (2, .long (Int64.ofInt v2)), (4, .long (Int64.ofInt v4)), (6, .int (Int32.ofInt v6)), (8, .int (Int32.ofInt v8))] 226 []) → (∀ (M : fm_M) (v2 : Int) (v4 : Int) (v6 : Int) (v8 : Int) (v9 : Int), J_241 M v2 v4 v6 v8 v9 → fx_G p l e { frames := 0, cells := 1, slots := 6, locals := 0 } s m ([.ref (ad 331), .int (Int32.ofInt a1)] : List Value).toArray below meth c D ad cA n0 1 post thr 11 M [(0, .ref (ad 331)), (2, .long (Int64.ofInt v2)), (4, .long (Int64.ofInt v4)), (6, .int (Int32.ofInt v6)), (8, .int (Int32.ofInt v8)), (9, .int (Int32.ofInt v9))] 241 []) → fx_G p l e { frames := 0, cells := 1, slots := 6, locals := 0 } s m ([.ref (ad 331), .int (Int32.ofInt a1)] : List Value).toArray below meth c D ad cA n0 1 post thr 11 M [(0, .ref (ad 331)), (2, .long (Int64.ofInt v2)), (4, .long (Int64.ofInt v4)), (6, .int (Int32.ofInt v6)), (8, .int (Int32.ofInt v8)), (9, .int (Int32.ofInt v9))] 241 [] := by
    intro J_72 J_226 J_241 M v2 v4 v6 v8 v9 hw hJ_72 hJ_226 hJ_241 H locs ls w hl
    refine lv_iload F.1 F.2.1 d_Mo_determinant_241 (lv_at hl 5 rfl) ?_
    refine lv_aload_n F.1 F.2.1 d_Mo_determinant_243 rfl (lv_at hl 0 rfl) ?_
    refine fm_gI F w cl_Mo 331 34 T_331 (by decide) rfl k_848 d_Mo_determinant_244 ?_
    obtain ⟨h116, hw⟩ := hw
    obtain ⟨h117, hw⟩ := hw
    refine fi_icmp_ge F d_Mo_determinant_247 (tgt := 326) (by decide) h116 h117 (fun hc118 => ?_) (fun hc118 => ?_)
    · have hw := hw.1 hc118
      refine lv_aload_n F.1 F.2.1 d_Mo_determinant_326 rfl (lv_at hl 0 rfl) ?_
      refine fm_gO F w cl_Mo 331 36 357 T_331 (by decide) rfl rfl k_850 d_Mo_determinant_327 ?_
      refine lv_bipush (v := Int32.ofInt 8) F.1 F.2.1 d_Mo_determinant_330 (by decide) ?_
      refine lv_iload F.1 F.2.1 d_Mo_determinant_332 (lv_at hl 4 rfl) ?_
      refine fi_imul F d_Mo_determinant_334 ?_
      refine lv_iload F.1 F.2.1 d_Mo_determinant_335 (lv_at hl 3 rfl) ?_
      refine fi_iadd F d_Mo_determinant_337 ?_
      refine lv_lconst (v := Int64.ofInt 0) F.1 F.2.1 d_Mo_determinant_338 (by decide) ?_
      obtain ⟨h119, hw⟩ := hw
      refine fm_sL F w 357 T_357 (by decide) h119  d_Mo_determinant_339 (fun M120 hM120 H locs w => ?_)
      have hw := hw M120 hM120
      refine fi_iinc (k := 4) (v := (v8 + 1)) F d_Mo_determinant_340 hl rfl rfl (by decide) rfl (fun ls hl => ?_)
      have hl : lv_has ls 11 [(8, .int (Int32.ofInt (v8 + 1))), (0, .ref (ad 331)), (2, .long (Int64.ofInt v2)), (4, .long (Int64.ofInt v4)), (6, .int (Int32.ofInt v6)), (9, .int (Int32.ofInt v9))] := hl
      refine lv_goto F.1 F.2.1 d_Mo_determinant_343 (tgt := 226) (by decide) ?_
      exact hJ_226 M120 v2 v4 v6 (v8 + 1) hw H locs ls w (lv_sub hl [1, 2, 3, 4, 0] rfl)
    · have hw := hw.2 hc118
      refine lv_aload_n F.1 F.2.1 d_Mo_determinant_250 rfl (lv_at hl 0 rfl) ?_
      refine fm_gO F w cl_Mo 331 36 357 T_331 (by decide) rfl rfl k_850 d_Mo_determinant_251 ?_
      refine lv_bipush (v := Int32.ofInt 8) F.1 F.2.1 d_Mo_determinant_254 (by decide) ?_
      refine lv_iload F.1 F.2.1 d_Mo_determinant_256 (lv_at hl 4 rfl) ?_
      refine fi_imul F d_Mo_determinant_258 ?_
      refine lv_iload F.1 F.2.1 d_Mo_determinant_259 (lv_at hl 5 rfl) ?_
      refine fi_iadd F d_Mo_determinant_261 ?_
      refine lv_aload_n F.1 F.2.1 d_Mo_determinant_262 rfl (lv_at hl 0 rfl) ?_
      refine fm_gO F w cl_Mo 331 36 357 T_331 (by decide) rfl rfl k_850 d_Mo_determinant_263 ?_
      refine lv_bipush (v := Int32.ofInt 8) F.1 F.2.1 d_Mo_determinant_266 (by decide) ?_
      refine lv_iload F.1 F.2.1 d_Mo_determinant_268 (lv_at hl 3 rfl) ?_
      refine fi_imul F d_Mo_determinant_270 ?_
      refine lv_iload F.1 F.2.1 d_Mo_determinant_271 (lv_at hl 3 rfl) ?_
      refine fi_iadd F d_Mo_determinant_273 ?_
      obtain ⟨h121, hw⟩ := hw
      refine fm_aL F w 357 T_357 (by decide) h121 d_Mo_determinant_274 ?_
      refine lv_aload_n F.1 F.2.1 d_Mo_determinant_275 rfl (lv_at hl 0 rfl) ?_
      refine fm_gO F w cl_Mo 331 36 357 T_331 (by decide) rfl rfl k_850 d_Mo_determinant_276 ?_
      refine lv_bipush (v := Int32.ofInt 8) F.1 F.2.1 d_Mo_determinant_279 (by decide) ?_
      refine lv_iload F.1 F.2.1 d_Mo_determinant_281 (lv_at hl 4 rfl) ?_
      refine fi_imul F d_Mo_determinant_283 ?_
      refine lv_iload F.1 F.2.1 d_Mo_determinant_284 (lv_at hl 5 rfl) ?_
      refine fi_iadd F d_Mo_determinant_286 ?_
      obtain ⟨h122, hw⟩ := hw
      refine fm_aL F w 357 T_357 (by decide) h122 d_Mo_determinant_287 ?_
      refine fi_lmul F d_Mo_determinant_288 ?_
      refine lv_aload_n F.1 F.2.1 d_Mo_determinant_289 rfl (lv_at hl 0 rfl) ?_
      refine fm_gO F w cl_Mo 331 36 357 T_331 (by decide) rfl rfl k_850 d_Mo_determinant_290 ?_
      refine lv_bipush (v := Int32.ofInt 8) F.1 F.2.1 d_Mo_determinant_293 (by decide) ?_
      refine lv_iload F.1 F.2.1 d_Mo_determinant_295 (lv_at hl 4 rfl) ?_
      refine fi_imul F d_Mo_determinant_297 ?_
      refine lv_iload F.1 F.2.1 d_Mo_determinant_298 (lv_at hl 3 rfl) ?_
      refine fi_iadd F d_Mo_determinant_300 ?_
      obtain ⟨h123, hw⟩ := hw
      refine fm_aL F w 357 T_357 (by decide) h123 d_Mo_determinant_301 ?_
      refine lv_aload_n F.1 F.2.1 d_Mo_determinant_302 rfl (lv_at hl 0 rfl) ?_
      refine fm_gO F w cl_Mo 331 36 357 T_331 (by decide) rfl rfl k_850 d_Mo_determinant_303 ?_
      refine lv_bipush (v := Int32.ofInt 8) F.1 F.2.1 d_Mo_determinant_306 (by decide) ?_
      refine lv_iload F.1 F.2.1 d_Mo_determinant_308 (lv_at hl 3 rfl) ?_
      refine fi_imul F d_Mo_determinant_310 ?_
      refine lv_iload F.1 F.2.1 d_Mo_determinant_311 (lv_at hl 5 rfl) ?_
      refine fi_iadd F d_Mo_determinant_313 ?_
      obtain ⟨h124, hw⟩ := hw
      refine fm_aL F w 357 T_357 (by decide) h124 d_Mo_determinant_314 ?_
      refine fi_lmul F d_Mo_determinant_315 ?_
      refine fi_lsub F d_Mo_determinant_316 ?_
      refine lv_lload_n F.1 F.2.1 d_Mo_determinant_317 rfl (lv_at hl 1 rfl) ?_
      obtain ⟨h125, hw⟩ := hw
      obtain ⟨h126, hw⟩ := hw
      obtain ⟨h127, hw⟩ := hw
      refine fi_ldiv F d_Mo_determinant_318 h125 h126 h127 ?_
      refine fm_sL F w 357 T_357 (by decide) h122  d_Mo_determinant_319 (fun M128 hM128 H locs w => ?_)
      have hw := hw M128 hM128
      refine fi_iinc (k := 5) (v := (v9 + 1)) F d_Mo_determinant_320 hl rfl rfl (by decide) rfl (fun ls hl => ?_)
      have hl : lv_has ls 11 [(9, .int (Int32.ofInt (v9 + 1))), (0, .ref (ad 331)), (2, .long (Int64.ofInt v2)), (4, .long (Int64.ofInt v4)), (6, .int (Int32.ofInt v6)), (8, .int (Int32.ofInt v8))] := hl
      refine lv_goto F.1 F.2.1 d_Mo_determinant_323 (tgt := 241) (by decide) ?_
      exact hJ_241 M128 v2 v4 v6 v8 (v9 + 1) hw H locs ls w (lv_sub hl [1, 2, 3, 4, 5, 0] rfl)
  have blk_241 : ∀ (J_72 : (fm_M → Int → Int → Int → Prop)) (J_226 : (fm_M → Int → Int → Int → Int → Prop)) (M : fm_M) (v2 : Int) (v4 : Int) (v6 : Int) (v8 : Int) (v9 : Int), B_Mo_determinant_241 a1 post thr J_72 J_226 M v2 v4 v6 v8 v9 → (∀ (M : fm_M) (v2 : Int) (v4 : Int) (v6 : Int), J_72 M v2 v4 v6 → fx_G p l e { frames := 0, cells := 1, slots := 6, locals := 0 } s m ([.ref (ad 331), .int (Int32.ofInt a1)] : List Value).toArray below meth c D ad cA n0 1 post thr 11 M [(0, .ref (ad 331)), (2, .long (Int64.ofInt v2)), (4, .long (Int64.ofInt v4)), (6, .int (Int32.ofInt v6))] 72 []) → (∀ (M : fm_M) (v2 : Int) (v4 : Int) (v6 : Int) (v8 : Int), J_226 M v2 v4 v6 v8 → fx_G p l e { frames := 0, cells := 1, slots := 6, locals := 0 } s m ([.ref (ad 331), .int (Int32.ofInt a1)] : List Value).toArray below meth c D ad cA n0 1 post thr 11 M [(0, .ref (ad 331)), (2, .long (Int64.ofInt v2)), (4, .long (Int64.ofInt v4)), (6, .int (Int32.ofInt v6)), (8, .int (Int32.ofInt v8))] 226 []) → fx_G p l e { frames := 0, cells := 1, slots := 6, locals := 0 } s m ([.ref (ad 331), .int (Int32.ofInt a1)] : List Value).toArray below meth c D ad cA n0 1 post thr 11 M [(0, .ref (ad 331)), (2, .long (Int64.ofInt v2)), (4, .long (Int64.ofInt v4)), (6, .int (Int32.ofInt v6)), (8, .int (Int32.ofInt v8)), (9, .int (Int32.ofInt v9))] 241 [] := by
    intro J_72 J_226 M v2 v4 v6 v8 v9 hw hJ_72 hJ_226
    obtain ⟨I, μ, hI, hB⟩ := hw
    have key : ∀ (q : Nat) (M : fm_M) (v2 : Int) (v4 : Int) (v6 : Int) (v8 : Int) (v9 : Int), μ M v2 v4 v6 v8 v9 < q → I M v2 v4 v6 v8 v9 → fx_G p l e { frames := 0, cells := 1, slots := 6, locals := 0 } s m ([.ref (ad 331), .int (Int32.ofInt a1)] : List Value).toArray below meth c D ad cA n0 1 post thr 11 M [(0, .ref (ad 331)), (2, .long (Int64.ofInt v2)), (4, .long (Int64.ofInt v4)), (6, .int (Int32.ofInt v6)), (8, .int (Int32.ofInt v8)), (9, .int (Int32.ofInt v9))] 241 [] := by
      intro q
      induction q with
      | zero => intro M v2 v4 v6 v8 v9 h _; exact absurd h (Nat.not_lt_zero _)
      | succ q ih =>
        intro M v2 v4 v6 v8 v9 hμ hI
        exact blc_241 J_72 J_226 (fun M' v2' v4' v6' v8' v9' => I M' v2' v4' v6' v8' v9' ∧ μ M' v2' v4' v6' v8' v9' < μ M v2 v4 v6 v8 v9) M v2 v4 v6 v8 v9 (hB M v2 v4 v6 v8 v9 hI) hJ_72 hJ_226 (fun M' v2' v4' v6' v8' v9' hh => ih M' v2' v4' v6' v8' v9' (Nat.lt_of_lt_of_le hh.2 (Nat.le_of_lt_succ hμ)) hh.1)
    exact key _ M v2 v4 v6 v8 v9 (Nat.lt_succ_self _) hI
  have blc_226 : ∀ (J_72 : (fm_M → Int → Int → Int → Prop)) (J_226 : (fm_M → Int → Int → Int → Int → Prop)) (M : fm_M) (v2 : Int) (v4 : Int) (v6 : Int) (v8 : Int), C_Mo_determinant_226 a1 post thr J_72 J_226 M v2 v4 v6 v8 → (∀ (M : fm_M) (v2 : Int) (v4 : Int) (v6 : Int), J_72 M v2 v4 v6 → fx_G p l e { frames := 0, cells := 1, slots := 6, locals := 0 } s m ([.ref (ad 331), .int (Int32.ofInt a1)] : List Value).toArray below meth c D ad cA n0 1 post thr 11 M [(0, .ref (ad 331)), (2, .long (Int64.ofInt v2)), (4, .long (Int64.ofInt v4)), (6, .int (Int32.ofInt v6))] 72 []) → (∀ (M : fm_M) (v2 : Int) (v4 : Int) (v6 : Int) (v8 : Int), J_226 M v2 v4 v6 v8 → fx_G p l e { frames := 0, cells := 1, slots := 6, locals := 0 } s m ([.ref (ad 331), .int (Int32.ofInt a1)] : List Value).toArray below meth c D ad cA n0 1 post thr 11 M [(0, .ref (ad 331)), (2, .long (Int64.ofInt v2)), (4, .long (Int64.ofInt v4)), (6, .int (Int32.ofInt v6)), (8, .int (Int32.ofInt v8))] 226 []) → fx_G p l e { frames := 0, cells := 1, slots := 6, locals := 0 } s m ([.ref (ad 331), .int (Int32.ofInt a1)] : List Value).toArray below meth c D ad cA n0 1 post thr 11 M [(0, .ref (ad 331)), (2, .long (Int64.ofInt v2)), (4, .long (Int64.ofInt v4)), (6, .int (Int32.ofInt v6)), (8, .int (Int32.ofInt v8))] 226 [] := by
    intro J_72 J_226 M v2 v4 v6 v8 hw hJ_72 hJ_226 H locs ls w hl
    refine lv_iload F.1 F.2.1 d_Mo_determinant_226 (lv_at hl 4 rfl) ?_
    refine lv_aload_n F.1 F.2.1 d_Mo_determinant_228 rfl (lv_at hl 0 rfl) ?_
    refine fm_gI F w cl_Mo 331 34 T_331 (by decide) rfl k_848 d_Mo_determinant_229 ?_
    obtain ⟨h129, hw⟩ := hw
    obtain ⟨h130, hw⟩ := hw
    refine fi_icmp_ge F d_Mo_determinant_232 (tgt := 346) (by decide) h129 h130 (fun hc131 => ?_) (fun hc131 => ?_)
    · have hw := hw.1 hc131
      refine lv_aload_n F.1 F.2.1 d_Mo_determinant_346 rfl (lv_at hl 0 rfl) ?_
      refine fm_gO F w cl_Mo 331 36 357 T_331 (by decide) rfl rfl k_850 d_Mo_determinant_347 ?_
      refine lv_bipush (v := Int32.ofInt 8) F.1 F.2.1 d_Mo_determinant_350 (by decide) ?_
      refine lv_iload F.1 F.2.1 d_Mo_determinant_352 (lv_at hl 3 rfl) ?_
      refine fi_imul F d_Mo_determinant_354 ?_
      refine lv_iload F.1 F.2.1 d_Mo_determinant_355 (lv_at hl 3 rfl) ?_
      refine fi_iadd F d_Mo_determinant_357 ?_
      obtain ⟨h132, hw⟩ := hw
      refine fm_aL F w 357 T_357 (by decide) h132 d_Mo_determinant_358 ?_
      refine lv_lstore_n F.1 F.2.1 d_Mo_determinant_359 rfl hl (by decide) rfl (fun ls hl => ?_)
      have hl : lv_has ls 11 [(2, .long (Int64.ofInt (M 357 ((8 * v6) + v6).toNat))), (0, .ref (ad 331)), (4, .long (Int64.ofInt v4)), (6, .int (Int32.ofInt v6)), (8, .int (Int32.ofInt v8))] := hl
      refine fi_iinc (k := 3) (v := (v6 + 1)) F d_Mo_determinant_360 hl rfl rfl (by decide) rfl (fun ls hl => ?_)
      have hl : lv_has ls 11 [(6, .int (Int32.ofInt (v6 + 1))), (2, .long (Int64.ofInt (M 357 ((8 * v6) + v6).toNat))), (0, .ref (ad 331)), (4, .long (Int64.ofInt v4)), (8, .int (Int32.ofInt v8))] := hl
      refine lv_goto F.1 F.2.1 d_Mo_determinant_363 (tgt := 72) (by decide) ?_
      exact hJ_72 M (M 357 ((8 * v6) + v6).toNat) v4 (v6 + 1) hw H locs ls w (lv_sub hl [2, 1, 3, 0] rfl)
    · have hw := hw.2 hc131
      refine lv_iload F.1 F.2.1 d_Mo_determinant_235 (lv_at hl 3 rfl) ?_
      refine lv_iconst (v := Int32.ofInt 1) F.1 F.2.1 d_Mo_determinant_237 (by decide) ?_
      refine fi_iadd F d_Mo_determinant_238 ?_
      refine lv_istore F.1 F.2.1 d_Mo_determinant_239 hl (by decide) rfl (fun ls hl => ?_)
      have hl : lv_has ls 11 [(9, .int (Int32.ofInt (v6 + 1))), (0, .ref (ad 331)), (2, .long (Int64.ofInt v2)), (4, .long (Int64.ofInt v4)), (6, .int (Int32.ofInt v6)), (8, .int (Int32.ofInt v8))] := hl
      exact blk_241 J_72 J_226 M v2 v4 v6 v8 (v6 + 1) hw hJ_72 hJ_226 H locs ls w (lv_sub hl [1, 2, 3, 4, 5, 0] rfl)
  have blk_226 : ∀ (J_72 : (fm_M → Int → Int → Int → Prop)) (M : fm_M) (v2 : Int) (v4 : Int) (v6 : Int) (v8 : Int), B_Mo_determinant_226 a1 post thr J_72 M v2 v4 v6 v8 → (∀ (M : fm_M) (v2 : Int) (v4 : Int) (v6 : Int), J_72 M v2 v4 v6 → fx_G p l e { frames := 0, cells := 1, slots := 6, locals := 0 } s m ([.ref (ad 331), .int (Int32.ofInt a1)] : List Value).toArray below meth c D ad cA n0 1 post thr 11 M [(0, .ref (ad 331)), (2, .long (Int64.ofInt v2)), (4, .long (Int64.ofInt v4)), (6, .int (Int32.ofInt v6))] 72 []) → fx_G p l e { frames := 0, cells := 1, slots := 6, locals := 0 } s m ([.ref (ad 331), .int (Int32.ofInt a1)] : List Value).toArray below meth c D ad cA n0 1 post thr 11 M [(0, .ref (ad 331)), (2, .long (Int64.ofInt v2)), (4, .long (Int64.ofInt v4)), (6, .int (Int32.ofInt v6)), (8, .int (Int32.ofInt v8))] 226 [] := by
    intro J_72 M v2 v4 v6 v8 hw hJ_72
    obtain ⟨I, μ, hI, hB⟩ := hw
    have key : ∀ (q : Nat) (M : fm_M) (v2 : Int) (v4 : Int) (v6 : Int) (v8 : Int), μ M v2 v4 v6 v8 < q → I M v2 v4 v6 v8 → fx_G p l e { frames := 0, cells := 1, slots := 6, locals := 0 } s m ([.ref (ad 331), .int (Int32.ofInt a1)] : List Value).toArray below meth c D ad cA n0 1 post thr 11 M [(0, .ref (ad 331)), (2, .long (Int64.ofInt v2)), (4, .long (Int64.ofInt v4)), (6, .int (Int32.ofInt v6)), (8, .int (Int32.ofInt v8))] 226 [] := by
      intro q
      induction q with
      | zero => intro M v2 v4 v6 v8 h _; exact absurd h (Nat.not_lt_zero _)
      | succ q ih =>
        intro M v2 v4 v6 v8 hμ hI
        exact blc_226 J_72 (fun M' v2' v4' v6' v8' => I M' v2' v4' v6' v8' ∧ μ M' v2' v4' v6' v8' < μ M v2 v4 v6 v8) M v2 v4 v6 v8 (hB M v2 v4 v6 v8 hI) hJ_72 (fun M' v2' v4' v6' v8' hh => ih M' v2' v4' v6' v8' (Nat.lt_of_lt_of_le hh.2 (Nat.le_of_lt_succ hμ)) hh.1)
    exact key _ M v2 v4 v6 v8 (Nat.lt_succ_self _) hI
  have blc_149 : ∀ (J_72 : (fm_M → Int → Int → Int → Prop)) (J_149 : (fm_M → Int → Int → Int → Int → Int → Prop)) (M : fm_M) (v2 : Int) (v4 : Int) (v6 : Int) (v7 : Int) (v8 : Int), C_Mo_determinant_149 a1 post thr J_72 J_149 M v2 v4 v6 v7 v8 → (∀ (M : fm_M) (v2 : Int) (v4 : Int) (v6 : Int), J_72 M v2 v4 v6 → fx_G p l e { frames := 0, cells := 1, slots := 6, locals := 0 } s m ([.ref (ad 331), .int (Int32.ofInt a1)] : List Value).toArray below meth c D ad cA n0 1 post thr 11 M [(0, .ref (ad 331)), (2, .long (Int64.ofInt v2)), (4, .long (Int64.ofInt v4)), (6, .int (Int32.ofInt v6))] 72 []) → (∀ (M : fm_M) (v2 : Int) (v4 : Int) (v6 : Int) (v7 : Int) (v8 : Int), J_149 M v2 v4 v6 v7 v8 → fx_G p l e { frames := 0, cells := 1, slots := 6, locals := 0 } s m ([.ref (ad 331), .int (Int32.ofInt a1)] : List Value).toArray below meth c D ad cA n0 1 post thr 11 M [(0, .ref (ad 331)), (2, .long (Int64.ofInt v2)), (4, .long (Int64.ofInt v4)), (6, .int (Int32.ofInt v6)), (7, .int (Int32.ofInt v7)), (8, .int (Int32.ofInt v8))] 149 []) → fx_G p l e { frames := 0, cells := 1, slots := 6, locals := 0 } s m ([.ref (ad 331), .int (Int32.ofInt a1)] : List Value).toArray below meth c D ad cA n0 1 post thr 11 M [(0, .ref (ad 331)), (2, .long (Int64.ofInt v2)), (4, .long (Int64.ofInt v4)), (6, .int (Int32.ofInt v6)), (7, .int (Int32.ofInt v7)), (8, .int (Int32.ofInt v8))] 149 [] := by
    intro J_72 J_149 M v2 v4 v6 v7 v8 hw hJ_72 hJ_149 H locs ls w hl
    refine lv_iload F.1 F.2.1 d_Mo_determinant_149 (lv_at hl 5 rfl) ?_
    refine lv_aload_n F.1 F.2.1 d_Mo_determinant_151 rfl (lv_at hl 0 rfl) ?_
    refine fm_gI F w cl_Mo 331 34 T_331 (by decide) rfl k_848 d_Mo_determinant_152 ?_
    obtain ⟨h133, hw⟩ := hw
    obtain ⟨h134, hw⟩ := hw
    refine fi_icmp_ge F d_Mo_determinant_155 (tgt := 220) (by decide) h133 h134 (fun hc135 => ?_) (fun hc135 => ?_)
    · have hw := hw.1 hc135
      refine lv_iload F.1 F.2.1 d_Mo_determinant_220 (lv_at hl 3 rfl) ?_
      refine lv_iconst (v := Int32.ofInt 1) F.1 F.2.1 d_Mo_determinant_222 (by decide) ?_
      refine fi_iadd F d_Mo_determinant_223 ?_
      refine lv_istore F.1 F.2.1 d_Mo_determinant_224 hl (by decide) rfl (fun ls hl => ?_)
      have hl : lv_has ls 11 [(8, .int (Int32.ofInt (v6 + 1))), (0, .ref (ad 331)), (2, .long (Int64.ofInt v2)), (4, .long (Int64.ofInt v4)), (6, .int (Int32.ofInt v6)), (7, .int (Int32.ofInt v7))] := hl
      exact blk_226 J_72 M v2 v4 v6 (v6 + 1) hw hJ_72 H locs ls w (lv_sub hl [1, 2, 3, 4, 0] rfl)
    · have hw := hw.2 hc135
      refine lv_aload_n F.1 F.2.1 d_Mo_determinant_158 rfl (lv_at hl 0 rfl) ?_
      refine fm_gO F w cl_Mo 331 36 357 T_331 (by decide) rfl rfl k_850 d_Mo_determinant_159 ?_
      refine lv_bipush (v := Int32.ofInt 8) F.1 F.2.1 d_Mo_determinant_162 (by decide) ?_
      refine lv_iload F.1 F.2.1 d_Mo_determinant_164 (lv_at hl 4 rfl) ?_
      refine fi_imul F d_Mo_determinant_166 ?_
      refine lv_iload F.1 F.2.1 d_Mo_determinant_167 (lv_at hl 5 rfl) ?_
      refine fi_iadd F d_Mo_determinant_169 ?_
      obtain ⟨h136, hw⟩ := hw
      refine fm_aL F w 357 T_357 (by decide) h136 d_Mo_determinant_170 ?_
      refine lv_lstore F.1 F.2.1 d_Mo_determinant_171 hl (by decide) rfl (fun ls hl => ?_)
      have hl : lv_has ls 11 [(9, .long (Int64.ofInt (M 357 ((8 * v7) + v8).toNat))), (0, .ref (ad 331)), (2, .long (Int64.ofInt v2)), (4, .long (Int64.ofInt v4)), (6, .int (Int32.ofInt v6)), (7, .int (Int32.ofInt v7)), (8, .int (Int32.ofInt v8))] := hl
      refine lv_aload_n F.1 F.2.1 d_Mo_determinant_173 rfl (lv_at hl 1 rfl) ?_
      refine fm_gO F w cl_Mo 331 36 357 T_331 (by decide) rfl rfl k_850 d_Mo_determinant_174 ?_
      refine lv_bipush (v := Int32.ofInt 8) F.1 F.2.1 d_Mo_determinant_177 (by decide) ?_
      refine lv_iload F.1 F.2.1 d_Mo_determinant_179 (lv_at hl 5 rfl) ?_
      refine fi_imul F d_Mo_determinant_181 ?_
      refine lv_iload F.1 F.2.1 d_Mo_determinant_182 (lv_at hl 6 rfl) ?_
      refine fi_iadd F d_Mo_determinant_184 ?_
      refine lv_aload_n F.1 F.2.1 d_Mo_determinant_185 rfl (lv_at hl 1 rfl) ?_
      refine fm_gO F w cl_Mo 331 36 357 T_331 (by decide) rfl rfl k_850 d_Mo_determinant_186 ?_
      refine lv_bipush (v := Int32.ofInt 8) F.1 F.2.1 d_Mo_determinant_189 (by decide) ?_
      refine lv_iload F.1 F.2.1 d_Mo_determinant_191 (lv_at hl 4 rfl) ?_
      refine fi_imul F d_Mo_determinant_193 ?_
      refine lv_iload F.1 F.2.1 d_Mo_determinant_194 (lv_at hl 6 rfl) ?_
      refine fi_iadd F d_Mo_determinant_196 ?_
      obtain ⟨h137, hw⟩ := hw
      refine fm_aL F w 357 T_357 (by decide) h137 d_Mo_determinant_197 ?_
      refine fm_sL F w 357 T_357 (by decide) h136  d_Mo_determinant_198 (fun M138 hM138 H locs w => ?_)
      have hw := hw M138 hM138
      refine lv_aload_n F.1 F.2.1 d_Mo_determinant_199 rfl (lv_at hl 1 rfl) ?_
      refine fm_gO F w cl_Mo 331 36 357 T_331 (by decide) rfl rfl k_850 d_Mo_determinant_200 ?_
      refine lv_bipush (v := Int32.ofInt 8) F.1 F.2.1 d_Mo_determinant_203 (by decide) ?_
      refine lv_iload F.1 F.2.1 d_Mo_determinant_205 (lv_at hl 4 rfl) ?_
      refine fi_imul F d_Mo_determinant_207 ?_
      refine lv_iload F.1 F.2.1 d_Mo_determinant_208 (lv_at hl 6 rfl) ?_
      refine fi_iadd F d_Mo_determinant_210 ?_
      refine lv_lload F.1 F.2.1 d_Mo_determinant_211 (lv_at hl 0 rfl) ?_
      refine fm_sL F w 357 T_357 (by decide) h137  d_Mo_determinant_213 (fun M139 hM139 H locs w => ?_)
      have hw := hw M139 hM139
      refine fi_iinc (k := 6) (v := (v8 + 1)) F d_Mo_determinant_214 hl rfl rfl (by decide) rfl (fun ls hl => ?_)
      have hl : lv_has ls 11 [(8, .int (Int32.ofInt (v8 + 1))), (9, .long (Int64.ofInt (M 357 ((8 * v7) + v8).toNat))), (0, .ref (ad 331)), (2, .long (Int64.ofInt v2)), (4, .long (Int64.ofInt v4)), (6, .int (Int32.ofInt v6)), (7, .int (Int32.ofInt v7))] := hl
      refine lv_goto F.1 F.2.1 d_Mo_determinant_217 (tgt := 149) (by decide) ?_
      exact hJ_149 M139 v2 v4 v6 v7 (v8 + 1) hw H locs ls w (lv_sub hl [2, 3, 4, 5, 6, 0] rfl)
  have blk_149 : ∀ (J_72 : (fm_M → Int → Int → Int → Prop)) (M : fm_M) (v2 : Int) (v4 : Int) (v6 : Int) (v7 : Int) (v8 : Int), B_Mo_determinant_149 a1 post thr J_72 M v2 v4 v6 v7 v8 → (∀ (M : fm_M) (v2 : Int) (v4 : Int) (v6 : Int), J_72 M v2 v4 v6 → fx_G p l e { frames := 0, cells := 1, slots := 6, locals := 0 } s m ([.ref (ad 331), .int (Int32.ofInt a1)] : List Value).toArray below meth c D ad cA n0 1 post thr 11 M [(0, .ref (ad 331)), (2, .long (Int64.ofInt v2)), (4, .long (Int64.ofInt v4)), (6, .int (Int32.ofInt v6))] 72 []) → fx_G p l e { frames := 0, cells := 1, slots := 6, locals := 0 } s m ([.ref (ad 331), .int (Int32.ofInt a1)] : List Value).toArray below meth c D ad cA n0 1 post thr 11 M [(0, .ref (ad 331)), (2, .long (Int64.ofInt v2)), (4, .long (Int64.ofInt v4)), (6, .int (Int32.ofInt v6)), (7, .int (Int32.ofInt v7)), (8, .int (Int32.ofInt v8))] 149 [] := by
    intro J_72 M v2 v4 v6 v7 v8 hw hJ_72
    obtain ⟨I, μ, hI, hB⟩ := hw
    have key : ∀ (q : Nat) (M : fm_M) (v2 : Int) (v4 : Int) (v6 : Int) (v7 : Int) (v8 : Int), μ M v2 v4 v6 v7 v8 < q → I M v2 v4 v6 v7 v8 → fx_G p l e { frames := 0, cells := 1, slots := 6, locals := 0 } s m ([.ref (ad 331), .int (Int32.ofInt a1)] : List Value).toArray below meth c D ad cA n0 1 post thr 11 M [(0, .ref (ad 331)), (2, .long (Int64.ofInt v2)), (4, .long (Int64.ofInt v4)), (6, .int (Int32.ofInt v6)), (7, .int (Int32.ofInt v7)), (8, .int (Int32.ofInt v8))] 149 [] := by
      intro q
      induction q with
      | zero => intro M v2 v4 v6 v7 v8 h _; exact absurd h (Nat.not_lt_zero _)
      | succ q ih =>
        intro M v2 v4 v6 v7 v8 hμ hI
        exact blc_149 J_72 (fun M' v2' v4' v6' v7' v8' => I M' v2' v4' v6' v7' v8' ∧ μ M' v2' v4' v6' v7' v8' < μ M v2 v4 v6 v7 v8) M v2 v4 v6 v7 v8 (hB M v2 v4 v6 v7 v8 hI) hJ_72 (fun M' v2' v4' v6' v7' v8' hh => ih M' v2' v4' v6' v7' v8' (Nat.lt_of_lt_of_le hh.2 (Nat.le_of_lt_succ hμ)) hh.1)
    exact key _ M v2 v4 v6 v7 v8 (Nat.lt_succ_self _) hI
  have blk_144 : ∀ (J_72 : (fm_M → Int → Int → Int → Prop)) (M : fm_M) (v2 : Int) (v6 : Int) (v7 : Int) (s0 : Int), B_Mo_determinant_144 a1 post thr J_72 M v2 v6 v7 s0 → (∀ (M : fm_M) (v2 : Int) (v4 : Int) (v6 : Int), J_72 M v2 v4 v6 → fx_G p l e { frames := 0, cells := 1, slots := 6, locals := 0 } s m ([.ref (ad 331), .int (Int32.ofInt a1)] : List Value).toArray below meth c D ad cA n0 1 post thr 11 M [(0, .ref (ad 331)), (2, .long (Int64.ofInt v2)), (4, .long (Int64.ofInt v4)), (6, .int (Int32.ofInt v6))] 72 []) → fx_G p l e { frames := 0, cells := 1, slots := 6, locals := 0 } s m ([.ref (ad 331), .int (Int32.ofInt a1)] : List Value).toArray below meth c D ad cA n0 1 post thr 11 M [(0, .ref (ad 331)), (2, .long (Int64.ofInt v2)), (6, .int (Int32.ofInt v6)), (7, .int (Int32.ofInt v7))] 144 [.long (Int64.ofInt s0)] := by
    intro J_72 M v2 v6 v7 s0 hw hJ_72 H locs ls w hl
    refine lv_lstore F.1 F.2.1 d_Mo_determinant_144 hl (by decide) rfl (fun ls hl => ?_)
    have hl : lv_has ls 11 [(4, .long (Int64.ofInt s0)), (0, .ref (ad 331)), (2, .long (Int64.ofInt v2)), (6, .int (Int32.ofInt v6)), (7, .int (Int32.ofInt v7))] := hl
    refine lv_iconst (v := Int32.ofInt 0) F.1 F.2.1 d_Mo_determinant_146 (by decide) ?_
    refine lv_istore F.1 F.2.1 d_Mo_determinant_147 hl (by decide) rfl (fun ls hl => ?_)
    have hl : lv_has ls 11 [(8, .int (Int32.ofInt 0)), (4, .long (Int64.ofInt s0)), (0, .ref (ad 331)), (2, .long (Int64.ofInt v2)), (6, .int (Int32.ofInt v6)), (7, .int (Int32.ofInt v7))] := hl
    exact blk_149 J_72 M v2 s0 v6 v7 0 hw hJ_72 H locs ls w (lv_sub hl [2, 3, 1, 4, 5, 0] rfl)
  have blk_118 : ∀ (J_72 : (fm_M → Int → Int → Int → Prop)) (M : fm_M) (v2 : Int) (v4 : Int) (v6 : Int) (v7 : Int), B_Mo_determinant_118 a1 post thr J_72 M v2 v4 v6 v7 → (∀ (M : fm_M) (v2 : Int) (v4 : Int) (v6 : Int), J_72 M v2 v4 v6 → fx_G p l e { frames := 0, cells := 1, slots := 6, locals := 0 } s m ([.ref (ad 331), .int (Int32.ofInt a1)] : List Value).toArray below meth c D ad cA n0 1 post thr 11 M [(0, .ref (ad 331)), (2, .long (Int64.ofInt v2)), (4, .long (Int64.ofInt v4)), (6, .int (Int32.ofInt v6))] 72 []) → fx_G p l e { frames := 0, cells := 1, slots := 6, locals := 0 } s m ([.ref (ad 331), .int (Int32.ofInt a1)] : List Value).toArray below meth c D ad cA n0 1 post thr 11 M [(0, .ref (ad 331)), (2, .long (Int64.ofInt v2)), (4, .long (Int64.ofInt v4)), (6, .int (Int32.ofInt v6)), (7, .int (Int32.ofInt v7))] 118 [] := by
    intro J_72 M v2 v4 v6 v7 hw hJ_72 H locs ls w hl
    refine lv_iload F.1 F.2.1 d_Mo_determinant_118 (lv_at hl 4 rfl) ?_
    refine lv_aload_n F.1 F.2.1 d_Mo_determinant_120 rfl (lv_at hl 0 rfl) ?_
    refine fm_gI F w cl_Mo 331 34 T_331 (by decide) rfl k_848 d_Mo_determinant_121 ?_
    obtain ⟨h140, hw⟩ := hw
    obtain ⟨h141, hw⟩ := hw
    refine fi_icmp_ne F d_Mo_determinant_124 (tgt := 129) (by decide) h140 h141 (fun hc142 => ?_) (fun hc142 => ?_)
    · have hw := hw.1 hc142
      refine lv_iload F.1 F.2.1 d_Mo_determinant_129 (lv_at hl 4 rfl) ?_
      refine lv_iload F.1 F.2.1 d_Mo_determinant_131 (lv_at hl 3 rfl) ?_
      obtain ⟨h143, hw⟩ := hw
      refine fi_icmp_ne F d_Mo_determinant_133 (tgt := 141) (by decide) h140 h143 (fun hc144 => ?_) (fun hc144 => ?_)
      · have hw := hw.1 hc144
        refine lv_lload F.1 F.2.1 d_Mo_determinant_141 (lv_at hl 2 rfl) ?_
        refine fi_lneg F d_Mo_determinant_143 ?_
        exact blk_144 J_72 M v2 v6 v7 (-v4) hw hJ_72 H locs ls w (lv_sub hl [0, 1, 3, 4] rfl)
      · have hw := hw.2 hc144
        refine lv_lload F.1 F.2.1 d_Mo_determinant_136 (lv_at hl 2 rfl) ?_
        refine lv_goto F.1 F.2.1 d_Mo_determinant_138 (tgt := 144) (by decide) ?_
        exact blk_144 J_72 M v2 v6 v7 v4 hw hJ_72 H locs ls w (lv_sub hl [0, 1, 3, 4] rfl)
    · have hw := hw.2 hc142
      refine lv_lconst (v := Int64.ofInt 0) F.1 F.2.1 d_Mo_determinant_127 (by decide) ?_
      exact fx_lret F w hr hlk hw d_Mo_determinant_128
  have blc_85 : ∀ (J_72 : (fm_M → Int → Int → Int → Prop)) (J_85 : (fm_M → Int → Int → Int → Int → Prop)) (M : fm_M) (v2 : Int) (v4 : Int) (v6 : Int) (v7 : Int), C_Mo_determinant_85 a1 post thr J_72 J_85 M v2 v4 v6 v7 → (∀ (M : fm_M) (v2 : Int) (v4 : Int) (v6 : Int), J_72 M v2 v4 v6 → fx_G p l e { frames := 0, cells := 1, slots := 6, locals := 0 } s m ([.ref (ad 331), .int (Int32.ofInt a1)] : List Value).toArray below meth c D ad cA n0 1 post thr 11 M [(0, .ref (ad 331)), (2, .long (Int64.ofInt v2)), (4, .long (Int64.ofInt v4)), (6, .int (Int32.ofInt v6))] 72 []) → (∀ (M : fm_M) (v2 : Int) (v4 : Int) (v6 : Int) (v7 : Int), J_85 M v2 v4 v6 v7 → fx_G p l e { frames := 0, cells := 1, slots := 6, locals := 0 } s m ([.ref (ad 331), .int (Int32.ofInt a1)] : List Value).toArray below meth c D ad cA n0 1 post thr 11 M [(0, .ref (ad 331)), (2, .long (Int64.ofInt v2)), (4, .long (Int64.ofInt v4)), (6, .int (Int32.ofInt v6)), (7, .int (Int32.ofInt v7))] 85 []) → fx_G p l e { frames := 0, cells := 1, slots := 6, locals := 0 } s m ([.ref (ad 331), .int (Int32.ofInt a1)] : List Value).toArray below meth c D ad cA n0 1 post thr 11 M [(0, .ref (ad 331)), (2, .long (Int64.ofInt v2)), (4, .long (Int64.ofInt v4)), (6, .int (Int32.ofInt v6)), (7, .int (Int32.ofInt v7))] 85 [] := by
    intro J_72 J_85 M v2 v4 v6 v7 hw hJ_72 hJ_85 H locs ls w hl
    refine lv_iload F.1 F.2.1 d_Mo_determinant_85 (lv_at hl 4 rfl) ?_
    refine lv_aload_n F.1 F.2.1 d_Mo_determinant_87 rfl (lv_at hl 0 rfl) ?_
    refine fm_gI F w cl_Mo 331 34 T_331 (by decide) rfl k_848 d_Mo_determinant_88 ?_
    obtain ⟨h145, hw⟩ := hw
    obtain ⟨h146, hw⟩ := hw
    refine fi_icmp_ge F d_Mo_determinant_91 (tgt := 118) (by decide) h145 h146 (fun hc147 => ?_) (fun hc147 => ?_)
    · have hw := hw.1 hc147
      exact blk_118 J_72 M v2 v4 v6 v7 hw hJ_72 H locs ls w (lv_sub hl [0, 1, 2, 3, 4] rfl)
    · have hw := hw.2 hc147
      refine lv_aload_n F.1 F.2.1 d_Mo_determinant_94 rfl (lv_at hl 0 rfl) ?_
      refine fm_gO F w cl_Mo 331 36 357 T_331 (by decide) rfl rfl k_850 d_Mo_determinant_95 ?_
      refine lv_bipush (v := Int32.ofInt 8) F.1 F.2.1 d_Mo_determinant_98 (by decide) ?_
      refine lv_iload F.1 F.2.1 d_Mo_determinant_100 (lv_at hl 4 rfl) ?_
      refine fi_imul F d_Mo_determinant_102 ?_
      refine lv_iload F.1 F.2.1 d_Mo_determinant_103 (lv_at hl 3 rfl) ?_
      refine fi_iadd F d_Mo_determinant_105 ?_
      obtain ⟨h148, hw⟩ := hw
      refine fm_aL F w 357 T_357 (by decide) h148 d_Mo_determinant_106 ?_
      refine lv_lconst (v := Int64.ofInt 0) F.1 F.2.1 d_Mo_determinant_107 (by decide) ?_
      obtain ⟨h149, hw⟩ := hw
      refine fi_lcmp F d_Mo_determinant_108 h149 (rll (by decide)) ?_
      refine fi_if_ne F d_Mo_determinant_109 (tgt := 118) (by decide) rg_jcmp (fun hc150 => ?_) (fun hc150 => ?_)
      · have hw := hw.1 hc150
        exact blk_118 J_72 M v2 v4 v6 v7 hw hJ_72 H locs ls w (lv_sub hl [0, 1, 2, 3, 4] rfl)
      · have hw := hw.2 hc150
        refine fi_iinc (k := 4) (v := (v7 + 1)) F d_Mo_determinant_112 hl rfl rfl (by decide) rfl (fun ls hl => ?_)
        have hl : lv_has ls 11 [(7, .int (Int32.ofInt (v7 + 1))), (0, .ref (ad 331)), (2, .long (Int64.ofInt v2)), (4, .long (Int64.ofInt v4)), (6, .int (Int32.ofInt v6))] := hl
        refine lv_goto F.1 F.2.1 d_Mo_determinant_115 (tgt := 85) (by decide) ?_
        exact hJ_85 M v2 v4 v6 (v7 + 1) hw H locs ls w (lv_sub hl [1, 2, 3, 4, 0] rfl)
  have blk_85 : ∀ (J_72 : (fm_M → Int → Int → Int → Prop)) (M : fm_M) (v2 : Int) (v4 : Int) (v6 : Int) (v7 : Int), B_Mo_determinant_85 a1 post thr J_72 M v2 v4 v6 v7 → (∀ (M : fm_M) (v2 : Int) (v4 : Int) (v6 : Int), J_72 M v2 v4 v6 → fx_G p l e { frames := 0, cells := 1, slots := 6, locals := 0 } s m ([.ref (ad 331), .int (Int32.ofInt a1)] : List Value).toArray below meth c D ad cA n0 1 post thr 11 M [(0, .ref (ad 331)), (2, .long (Int64.ofInt v2)), (4, .long (Int64.ofInt v4)), (6, .int (Int32.ofInt v6))] 72 []) → fx_G p l e { frames := 0, cells := 1, slots := 6, locals := 0 } s m ([.ref (ad 331), .int (Int32.ofInt a1)] : List Value).toArray below meth c D ad cA n0 1 post thr 11 M [(0, .ref (ad 331)), (2, .long (Int64.ofInt v2)), (4, .long (Int64.ofInt v4)), (6, .int (Int32.ofInt v6)), (7, .int (Int32.ofInt v7))] 85 [] := by
    intro J_72 M v2 v4 v6 v7 hw hJ_72
    obtain ⟨I, μ, hI, hB⟩ := hw
    have key : ∀ (q : Nat) (M : fm_M) (v2 : Int) (v4 : Int) (v6 : Int) (v7 : Int), μ M v2 v4 v6 v7 < q → I M v2 v4 v6 v7 → fx_G p l e { frames := 0, cells := 1, slots := 6, locals := 0 } s m ([.ref (ad 331), .int (Int32.ofInt a1)] : List Value).toArray below meth c D ad cA n0 1 post thr 11 M [(0, .ref (ad 331)), (2, .long (Int64.ofInt v2)), (4, .long (Int64.ofInt v4)), (6, .int (Int32.ofInt v6)), (7, .int (Int32.ofInt v7))] 85 [] := by
      intro q
      induction q with
      | zero => intro M v2 v4 v6 v7 h _; exact absurd h (Nat.not_lt_zero _)
      | succ q ih =>
        intro M v2 v4 v6 v7 hμ hI
        exact blc_85 J_72 (fun M' v2' v4' v6' v7' => I M' v2' v4' v6' v7' ∧ μ M' v2' v4' v6' v7' < μ M v2 v4 v6 v7) M v2 v4 v6 v7 (hB M v2 v4 v6 v7 hI) hJ_72 (fun M' v2' v4' v6' v7' hh => ih M' v2' v4' v6' v7' (Nat.lt_of_lt_of_le hh.2 (Nat.le_of_lt_succ hμ)) hh.1)
    exact key _ M v2 v4 v6 v7 (Nat.lt_succ_self _) hI
  have blc_72 : ∀ (J_72 : (fm_M → Int → Int → Int → Prop)) (M : fm_M) (v2 : Int) (v4 : Int) (v6 : Int), C_Mo_determinant_72 a1 post thr J_72 M v2 v4 v6 → (∀ (M : fm_M) (v2 : Int) (v4 : Int) (v6 : Int), J_72 M v2 v4 v6 → fx_G p l e { frames := 0, cells := 1, slots := 6, locals := 0 } s m ([.ref (ad 331), .int (Int32.ofInt a1)] : List Value).toArray below meth c D ad cA n0 1 post thr 11 M [(0, .ref (ad 331)), (2, .long (Int64.ofInt v2)), (4, .long (Int64.ofInt v4)), (6, .int (Int32.ofInt v6))] 72 []) → fx_G p l e { frames := 0, cells := 1, slots := 6, locals := 0 } s m ([.ref (ad 331), .int (Int32.ofInt a1)] : List Value).toArray below meth c D ad cA n0 1 post thr 11 M [(0, .ref (ad 331)), (2, .long (Int64.ofInt v2)), (4, .long (Int64.ofInt v4)), (6, .int (Int32.ofInt v6))] 72 [] := by
    intro J_72 M v2 v4 v6 hw hJ_72 H locs ls w hl
    refine lv_iload F.1 F.2.1 d_Mo_determinant_72 (lv_at hl 3 rfl) ?_
    refine lv_aload_n F.1 F.2.1 d_Mo_determinant_74 rfl (lv_at hl 0 rfl) ?_
    refine fm_gI F w cl_Mo 331 34 T_331 (by decide) rfl k_848 d_Mo_determinant_75 ?_
    obtain ⟨h151, hw⟩ := hw
    obtain ⟨h152, hw⟩ := hw
    refine fi_icmp_ge F d_Mo_determinant_78 (tgt := 366) (by decide) h151 h152 (fun hc153 => ?_) (fun hc153 => ?_)
    · have hw := hw.1 hc153
      refine lv_lload F.1 F.2.1 d_Mo_determinant_366 (lv_at hl 2 rfl) ?_
      refine lv_lload_n F.1 F.2.1 d_Mo_determinant_368 rfl (lv_at hl 1 rfl) ?_
      refine fi_lmul F d_Mo_determinant_369 ?_
      exact fx_lret F w hr hlk hw d_Mo_determinant_370
    · have hw := hw.2 hc153
      refine lv_iload F.1 F.2.1 d_Mo_determinant_81 (lv_at hl 3 rfl) ?_
      refine lv_istore F.1 F.2.1 d_Mo_determinant_83 hl (by decide) rfl (fun ls hl => ?_)
      have hl : lv_has ls 11 [(7, .int (Int32.ofInt v6)), (0, .ref (ad 331)), (2, .long (Int64.ofInt v2)), (4, .long (Int64.ofInt v4)), (6, .int (Int32.ofInt v6))] := hl
      exact blk_85 J_72 M v2 v4 v6 v6 hw hJ_72 H locs ls w (lv_sub hl [1, 2, 3, 4, 0] rfl)
  have blk_72 : ∀ (M : fm_M) (v2 : Int) (v4 : Int) (v6 : Int), B_Mo_determinant_72 a1 post thr M v2 v4 v6 → fx_G p l e { frames := 0, cells := 1, slots := 6, locals := 0 } s m ([.ref (ad 331), .int (Int32.ofInt a1)] : List Value).toArray below meth c D ad cA n0 1 post thr 11 M [(0, .ref (ad 331)), (2, .long (Int64.ofInt v2)), (4, .long (Int64.ofInt v4)), (6, .int (Int32.ofInt v6))] 72 [] := by
    intro M v2 v4 v6 hw
    obtain ⟨I, μ, hI, hB⟩ := hw
    have key : ∀ (q : Nat) (M : fm_M) (v2 : Int) (v4 : Int) (v6 : Int), μ M v2 v4 v6 < q → I M v2 v4 v6 → fx_G p l e { frames := 0, cells := 1, slots := 6, locals := 0 } s m ([.ref (ad 331), .int (Int32.ofInt a1)] : List Value).toArray below meth c D ad cA n0 1 post thr 11 M [(0, .ref (ad 331)), (2, .long (Int64.ofInt v2)), (4, .long (Int64.ofInt v4)), (6, .int (Int32.ofInt v6))] 72 [] := by
      intro q
      induction q with
      | zero => intro M v2 v4 v6 h _; exact absurd h (Nat.not_lt_zero _)
      | succ q ih =>
        intro M v2 v4 v6 hμ hI
        exact blc_72 (fun M' v2' v4' v6' => I M' v2' v4' v6' ∧ μ M' v2' v4' v6' < μ M v2 v4 v6) M v2 v4 v6 (hB M v2 v4 v6 hI) (fun M' v2' v4' v6' hh => ih M' v2' v4' v6' (Nat.lt_of_lt_of_le hh.2 (Nat.le_of_lt_succ hμ)) hh.1)
    exact key _ M v2 v4 v6 (Nat.lt_succ_self _) hI
  have blk_49 : ∀ (J_2 : (fm_M → Int → Prop)) (J_12 : (fm_M → Int → Int → Prop)) (M : fm_M) (v2 : Int) (v3 : Int) (s0 : Int) (s1 : Int) (s3 : Int), B_Mo_determinant_49 a1 post thr J_2 J_12 M v2 v3 s0 s1 s3 → (∀ (M : fm_M) (v2 : Int), J_2 M v2 → fx_G p l e { frames := 0, cells := 1, slots := 6, locals := 0 } s m ([.ref (ad 331), .int (Int32.ofInt a1)] : List Value).toArray below meth c D ad cA n0 1 post thr 11 M [(0, .ref (ad 331)), (1, .int (Int32.ofInt a1)), (2, .int (Int32.ofInt v2))] 2 []) → (∀ (M : fm_M) (v2 : Int) (v3 : Int), J_12 M v2 v3 → fx_G p l e { frames := 0, cells := 1, slots := 6, locals := 0 } s m ([.ref (ad 331), .int (Int32.ofInt a1)] : List Value).toArray below meth c D ad cA n0 1 post thr 11 M [(0, .ref (ad 331)), (1, .int (Int32.ofInt a1)), (2, .int (Int32.ofInt v2)), (3, .int (Int32.ofInt v3))] 12 []) → fx_G p l e { frames := 0, cells := 1, slots := 6, locals := 0 } s m ([.ref (ad 331), .int (Int32.ofInt a1)] : List Value).toArray below meth c D ad cA n0 1 post thr 11 M [(0, .ref (ad 331)), (1, .int (Int32.ofInt a1)), (2, .int (Int32.ofInt v2)), (3, .int (Int32.ofInt v3))] 49 [.int (Int32.ofInt s0), .int (Int32.ofInt s1), .ref (ad 356), .int (Int32.ofInt s3), .ref (ad 357)] := by
    intro J_2 J_12 M v2 v3 s0 s1 s3 hw hJ_2 hJ_12 H locs ls w hl
    refine fi_iadd F d_Mo_determinant_49 ?_
    obtain ⟨h154, hw⟩ := hw
    refine fm_aL F w 356 T_356 (by decide) h154 d_Mo_determinant_50 ?_
    obtain ⟨h155, hw⟩ := hw
    refine fm_sL F w 357 T_357 (by decide) h155  d_Mo_determinant_51 (fun M156 hM156 H locs w => ?_)
    have hw := hw M156 hM156
    refine fi_iinc (k := 3) (v := (v3 + 1)) F d_Mo_determinant_52 hl rfl rfl (by decide) rfl (fun ls hl => ?_)
    have hl : lv_has ls 11 [(3, .int (Int32.ofInt (v3 + 1))), (0, .ref (ad 331)), (1, .int (Int32.ofInt a1)), (2, .int (Int32.ofInt v2))] := hl
    refine lv_goto F.1 F.2.1 d_Mo_determinant_55 (tgt := 12) (by decide) ?_
    exact hJ_12 M156 v2 (v3 + 1) hw H locs ls w (lv_sub hl [1, 2, 3, 0] rfl)
  have blc_12 : ∀ (J_2 : (fm_M → Int → Prop)) (J_12 : (fm_M → Int → Int → Prop)) (M : fm_M) (v2 : Int) (v3 : Int), C_Mo_determinant_12 a1 post thr J_2 J_12 M v2 v3 → (∀ (M : fm_M) (v2 : Int), J_2 M v2 → fx_G p l e { frames := 0, cells := 1, slots := 6, locals := 0 } s m ([.ref (ad 331), .int (Int32.ofInt a1)] : List Value).toArray below meth c D ad cA n0 1 post thr 11 M [(0, .ref (ad 331)), (1, .int (Int32.ofInt a1)), (2, .int (Int32.ofInt v2))] 2 []) → (∀ (M : fm_M) (v2 : Int) (v3 : Int), J_12 M v2 v3 → fx_G p l e { frames := 0, cells := 1, slots := 6, locals := 0 } s m ([.ref (ad 331), .int (Int32.ofInt a1)] : List Value).toArray below meth c D ad cA n0 1 post thr 11 M [(0, .ref (ad 331)), (1, .int (Int32.ofInt a1)), (2, .int (Int32.ofInt v2)), (3, .int (Int32.ofInt v3))] 12 []) → fx_G p l e { frames := 0, cells := 1, slots := 6, locals := 0 } s m ([.ref (ad 331), .int (Int32.ofInt a1)] : List Value).toArray below meth c D ad cA n0 1 post thr 11 M [(0, .ref (ad 331)), (1, .int (Int32.ofInt a1)), (2, .int (Int32.ofInt v2)), (3, .int (Int32.ofInt v3))] 12 [] := by
    intro J_2 J_12 M v2 v3 hw hJ_2 hJ_12 H locs ls w hl
    refine lv_iload_n F.1 F.2.1 d_Mo_determinant_12 rfl (lv_at hl 3 rfl) ?_
    refine lv_aload_n F.1 F.2.1 d_Mo_determinant_13 rfl (lv_at hl 0 rfl) ?_
    refine fm_gI F w cl_Mo 331 34 T_331 (by decide) rfl k_848 d_Mo_determinant_14 ?_
    obtain ⟨h157, hw⟩ := hw
    obtain ⟨h158, hw⟩ := hw
    refine fi_icmp_ge F d_Mo_determinant_17 (tgt := 58) (by decide) h157 h158 (fun hc159 => ?_) (fun hc159 => ?_)
    · have hw := hw.1 hc159
      refine fi_iinc (k := 2) (v := (v2 + 1)) F d_Mo_determinant_58 hl rfl rfl (by decide) rfl (fun ls hl => ?_)
      have hl : lv_has ls 11 [(2, .int (Int32.ofInt (v2 + 1))), (0, .ref (ad 331)), (1, .int (Int32.ofInt a1)), (3, .int (Int32.ofInt v3))] := hl
      refine lv_goto F.1 F.2.1 d_Mo_determinant_61 (tgt := 2) (by decide) ?_
      exact hJ_2 M (v2 + 1) hw H locs ls w (lv_sub hl [1, 2, 0] rfl)
    · have hw := hw.2 hc159
      refine lv_aload_n F.1 F.2.1 d_Mo_determinant_20 rfl (lv_at hl 0 rfl) ?_
      refine fm_gO F w cl_Mo 331 36 357 T_331 (by decide) rfl rfl k_850 d_Mo_determinant_21 ?_
      refine lv_bipush (v := Int32.ofInt 8) F.1 F.2.1 d_Mo_determinant_24 (by decide) ?_
      refine lv_iload_n F.1 F.2.1 d_Mo_determinant_26 rfl (lv_at hl 2 rfl) ?_
      refine fi_imul F d_Mo_determinant_27 ?_
      refine lv_iload_n F.1 F.2.1 d_Mo_determinant_28 rfl (lv_at hl 3 rfl) ?_
      refine fi_iadd F d_Mo_determinant_29 ?_
      refine lv_aload_n F.1 F.2.1 d_Mo_determinant_30 rfl (lv_at hl 0 rfl) ?_
      refine fm_gO F w cl_Mo 331 35 356 T_331 (by decide) rfl rfl k_849 d_Mo_determinant_31 ?_
      refine lv_bipush (v := Int32.ofInt 9) F.1 F.2.1 d_Mo_determinant_34 (by decide) ?_
      refine lv_iload_n F.1 F.2.1 d_Mo_determinant_36 rfl (lv_at hl 2 rfl) ?_
      refine fi_imul F d_Mo_determinant_37 ?_
      refine lv_iload_n F.1 F.2.1 d_Mo_determinant_38 rfl (lv_at hl 3 rfl) ?_
      refine lv_iload_n F.1 F.2.1 d_Mo_determinant_39 rfl (lv_at hl 1 rfl) ?_
      obtain ⟨h160, hw⟩ := hw
      refine fi_icmp_ne F d_Mo_determinant_40 (tgt := 48) (by decide) h157 h160 (fun hc161 => ?_) (fun hc161 => ?_)
      · have hw := hw.1 hc161
        refine lv_iload_n F.1 F.2.1 d_Mo_determinant_48 rfl (lv_at hl 3 rfl) ?_
        exact blk_49 J_2 J_12 M v2 v3 v3 (9 * v2) ((8 * v2) + v3) hw hJ_2 hJ_12 H locs ls w (lv_sub hl [0, 1, 2, 3] rfl)
      · have hw := hw.2 hc161
        refine lv_bipush (v := Int32.ofInt 8) F.1 F.2.1 d_Mo_determinant_43 (by decide) ?_
        refine lv_goto F.1 F.2.1 d_Mo_determinant_45 (tgt := 49) (by decide) ?_
        exact blk_49 J_2 J_12 M v2 v3 8 (9 * v2) ((8 * v2) + v3) hw hJ_2 hJ_12 H locs ls w (lv_sub hl [0, 1, 2, 3] rfl)
  have blk_12 : ∀ (J_2 : (fm_M → Int → Prop)) (M : fm_M) (v2 : Int) (v3 : Int), B_Mo_determinant_12 a1 post thr J_2 M v2 v3 → (∀ (M : fm_M) (v2 : Int), J_2 M v2 → fx_G p l e { frames := 0, cells := 1, slots := 6, locals := 0 } s m ([.ref (ad 331), .int (Int32.ofInt a1)] : List Value).toArray below meth c D ad cA n0 1 post thr 11 M [(0, .ref (ad 331)), (1, .int (Int32.ofInt a1)), (2, .int (Int32.ofInt v2))] 2 []) → fx_G p l e { frames := 0, cells := 1, slots := 6, locals := 0 } s m ([.ref (ad 331), .int (Int32.ofInt a1)] : List Value).toArray below meth c D ad cA n0 1 post thr 11 M [(0, .ref (ad 331)), (1, .int (Int32.ofInt a1)), (2, .int (Int32.ofInt v2)), (3, .int (Int32.ofInt v3))] 12 [] := by
    intro J_2 M v2 v3 hw hJ_2
    obtain ⟨I, μ, hI, hB⟩ := hw
    have key : ∀ (q : Nat) (M : fm_M) (v2 : Int) (v3 : Int), μ M v2 v3 < q → I M v2 v3 → fx_G p l e { frames := 0, cells := 1, slots := 6, locals := 0 } s m ([.ref (ad 331), .int (Int32.ofInt a1)] : List Value).toArray below meth c D ad cA n0 1 post thr 11 M [(0, .ref (ad 331)), (1, .int (Int32.ofInt a1)), (2, .int (Int32.ofInt v2)), (3, .int (Int32.ofInt v3))] 12 [] := by
      intro q
      induction q with
      | zero => intro M v2 v3 h _; exact absurd h (Nat.not_lt_zero _)
      | succ q ih =>
        intro M v2 v3 hμ hI
        exact blc_12 J_2 (fun M' v2' v3' => I M' v2' v3' ∧ μ M' v2' v3' < μ M v2 v3) M v2 v3 (hB M v2 v3 hI) hJ_2 (fun M' v2' v3' hh => ih M' v2' v3' (Nat.lt_of_lt_of_le hh.2 (Nat.le_of_lt_succ hμ)) hh.1)
    exact key _ M v2 v3 (Nat.lt_succ_self _) hI
  have blc_2 : ∀ (J_2 : (fm_M → Int → Prop)) (M : fm_M) (v2 : Int), C_Mo_determinant_2 a1 post thr J_2 M v2 → (∀ (M : fm_M) (v2 : Int), J_2 M v2 → fx_G p l e { frames := 0, cells := 1, slots := 6, locals := 0 } s m ([.ref (ad 331), .int (Int32.ofInt a1)] : List Value).toArray below meth c D ad cA n0 1 post thr 11 M [(0, .ref (ad 331)), (1, .int (Int32.ofInt a1)), (2, .int (Int32.ofInt v2))] 2 []) → fx_G p l e { frames := 0, cells := 1, slots := 6, locals := 0 } s m ([.ref (ad 331), .int (Int32.ofInt a1)] : List Value).toArray below meth c D ad cA n0 1 post thr 11 M [(0, .ref (ad 331)), (1, .int (Int32.ofInt a1)), (2, .int (Int32.ofInt v2))] 2 [] := by
    intro J_2 M v2 hw hJ_2 H locs ls w hl
    refine lv_iload_n F.1 F.2.1 d_Mo_determinant_2 rfl (lv_at hl 2 rfl) ?_
    refine lv_aload_n F.1 F.2.1 d_Mo_determinant_3 rfl (lv_at hl 0 rfl) ?_
    refine fm_gI F w cl_Mo 331 34 T_331 (by decide) rfl k_848 d_Mo_determinant_4 ?_
    obtain ⟨h162, hw⟩ := hw
    obtain ⟨h163, hw⟩ := hw
    refine fi_icmp_ge F d_Mo_determinant_7 (tgt := 64) (by decide) h162 h163 (fun hc164 => ?_) (fun hc164 => ?_)
    · have hw := hw.1 hc164
      refine lv_lconst (v := Int64.ofInt 1) F.1 F.2.1 d_Mo_determinant_64 (by decide) ?_
      refine lv_lstore_n F.1 F.2.1 d_Mo_determinant_65 rfl hl (by decide) rfl (fun ls hl => ?_)
      have hl : lv_has ls 11 [(2, .long (Int64.ofInt 1)), (0, .ref (ad 331)), (1, .int (Int32.ofInt a1))] := hl
      refine lv_lconst (v := Int64.ofInt 1) F.1 F.2.1 d_Mo_determinant_66 (by decide) ?_
      refine lv_lstore F.1 F.2.1 d_Mo_determinant_67 hl (by decide) rfl (fun ls hl => ?_)
      have hl : lv_has ls 11 [(4, .long (Int64.ofInt 1)), (2, .long (Int64.ofInt 1)), (0, .ref (ad 331)), (1, .int (Int32.ofInt a1))] := hl
      refine lv_iconst (v := Int32.ofInt 0) F.1 F.2.1 d_Mo_determinant_69 (by decide) ?_
      refine lv_istore F.1 F.2.1 d_Mo_determinant_70 hl (by decide) rfl (fun ls hl => ?_)
      have hl : lv_has ls 11 [(6, .int (Int32.ofInt 0)), (4, .long (Int64.ofInt 1)), (2, .long (Int64.ofInt 1)), (0, .ref (ad 331)), (1, .int (Int32.ofInt a1))] := hl
      exact blk_72 M 1 1 0 hw H locs ls w (lv_sub hl [3, 2, 1, 0] rfl)
    · have hw := hw.2 hc164
      refine lv_iconst (v := Int32.ofInt 0) F.1 F.2.1 d_Mo_determinant_10 (by decide) ?_
      refine lv_istore_n F.1 F.2.1 d_Mo_determinant_11 rfl hl (by decide) rfl (fun ls hl => ?_)
      have hl : lv_has ls 11 [(3, .int (Int32.ofInt 0)), (0, .ref (ad 331)), (1, .int (Int32.ofInt a1)), (2, .int (Int32.ofInt v2))] := hl
      exact blk_12 J_2 M v2 0 hw hJ_2 H locs ls w (lv_sub hl [1, 2, 3, 0] rfl)
  have blk_2 : ∀ (M : fm_M) (v2 : Int), B_Mo_determinant_2 a1 post thr M v2 → fx_G p l e { frames := 0, cells := 1, slots := 6, locals := 0 } s m ([.ref (ad 331), .int (Int32.ofInt a1)] : List Value).toArray below meth c D ad cA n0 1 post thr 11 M [(0, .ref (ad 331)), (1, .int (Int32.ofInt a1)), (2, .int (Int32.ofInt v2))] 2 [] := by
    intro M v2 hw
    obtain ⟨I, μ, hI, hB⟩ := hw
    have key : ∀ (q : Nat) (M : fm_M) (v2 : Int), μ M v2 < q → I M v2 → fx_G p l e { frames := 0, cells := 1, slots := 6, locals := 0 } s m ([.ref (ad 331), .int (Int32.ofInt a1)] : List Value).toArray below meth c D ad cA n0 1 post thr 11 M [(0, .ref (ad 331)), (1, .int (Int32.ofInt a1)), (2, .int (Int32.ofInt v2))] 2 [] := by
      intro q
      induction q with
      | zero => intro M v2 h _; exact absurd h (Nat.not_lt_zero _)
      | succ q ih =>
        intro M v2 hμ hI
        exact blc_2 (fun M' v2' => I M' v2' ∧ μ M' v2' < μ M v2) M v2 (hB M v2 hI) (fun M' v2' hh => ih M' v2' (Nat.lt_of_lt_of_le hh.2 (Nat.le_of_lt_succ hμ)) hh.1)
    exact key _ M v2 (Nat.lt_succ_self _) hI
  have hl : lv_has ls 11 [(0, .ref (ad 331)), (1, .int (Int32.ofInt a1))] := hl
  suffices h9 : fx_G p l e { frames := 0, cells := 1, slots := 6, locals := 0 } s m ([.ref (ad 331), .int (Int32.ofInt a1)] : List Value).toArray below meth c D ad cA n0 1 post thr 11 M [(0, .ref (ad 331)), (1, .int (Int32.ofInt a1))] 0 [] from h9 _ _ _ w hl
  intro H locs ls w hl
  refine lv_iconst (v := Int32.ofInt 0) F.1 F.2.1 d_Mo_determinant_0 (by decide) ?_
  refine lv_istore_n F.1 F.2.1 d_Mo_determinant_1 rfl hl (by decide) rfl (fun ls hl => ?_)
  have hl : lv_has ls 11 [(2, .int (Int32.ofInt 0)), (0, .ref (ad 331)), (1, .int (Int32.ofInt a1))] := hl
  exact blk_2 M 0 hw H locs ls w (lv_sub hl [1, 2, 0] rfl)
set_option maxHeartbeats 4000000 in
set_option maxRecDepth 100000 in
theorem met_Mo_evaluate (l : Launch) (hst9 : l.stackTraces = false) (D : va_G) (ad : Nat → Nat) (cA : Nat → ClassId) (n0 : Nat) (M : fm_M) (post : Int → fm_M → Prop) (thr : String → fm_M → Prop) (hw : wp_Mo_evaluate M post thr) : fx_Met l y_Mo_evaluate (Cond.code y_Mo_evaluate b_Mo_evaluate 4 none :: tb) { frames := 1, cells := 1, slots := 6, locals := 30 } [.ref (ad 331)] D ad cA n0 M 3 post thr := by
  refine fx_met (by decide) (Nat.le_of_ble_eq_true rfl) (fun p e s m below meth c ls F w hno hr hlk hl => ?_)
  have blk_96 : ∀ (J_42 : (fm_M → Int → Int → Prop)) (M : fm_M) (v1 : Int) (v3 : Int) (s0 : Int) (s1 : Int), B_Mo_evaluate_96 post thr J_42 M v1 v3 s0 s1 → (∀ (M : fm_M) (v1 : Int) (v3 : Int), J_42 M v1 v3 → fx_G p l e { frames := 1, cells := 1, slots := 6, locals := 30 } s m ([.ref (ad 331)] : List Value).toArray below meth c D ad cA n0 3 post thr 4 M [(0, .ref (ad 331)), (1, .long (Int64.ofInt v1)), (3, .int (Int32.ofInt v3))] 42 []) → fx_G p l e { frames := 1, cells := 1, slots := 6, locals := 30 } s m ([.ref (ad 331)] : List Value).toArray below meth c D ad cA n0 3 post thr 4 M [(0, .ref (ad 331)), (1, .long (Int64.ofInt v1)), (3, .int (Int32.ofInt v3))] 96 [.long (Int64.ofInt s0), .int (Int32.ofInt s1), .ref (ad 358)] := by
    intro J_42 M v1 v3 s0 s1 hw hJ_42 H locs ls w hl
    obtain ⟨h33, hw⟩ := hw
    refine fm_sL F w 358 T_358 (by decide) h33  d_Mo_evaluate_96 (fun M34 hM34 H locs w => ?_)
    have hw := hw M34 hM34
    refine fi_iinc (k := 2) (v := (v3 + 1)) F d_Mo_evaluate_97 hl rfl rfl (by decide) rfl (fun ls hl => ?_)
    have hl : lv_has ls 4 [(3, .int (Int32.ofInt (v3 + 1))), (0, .ref (ad 331)), (1, .long (Int64.ofInt v1))] := hl
    refine lv_goto F.1 F.2.1 d_Mo_evaluate_100 (tgt := 42) (by decide) ?_
    exact hJ_42 M34 v1 (v3 + 1) hw H locs ls w (lv_sub hl [1, 2, 0] rfl)
  have blc_42 : ∀ (J_42 : (fm_M → Int → Int → Prop)) (M : fm_M) (v1 : Int) (v3 : Int), C_Mo_evaluate_42 post thr J_42 M v1 v3 → (∀ (M : fm_M) (v1 : Int) (v3 : Int), J_42 M v1 v3 → fx_G p l e { frames := 1, cells := 1, slots := 6, locals := 30 } s m ([.ref (ad 331)] : List Value).toArray below meth c D ad cA n0 3 post thr 4 M [(0, .ref (ad 331)), (1, .long (Int64.ofInt v1)), (3, .int (Int32.ofInt v3))] 42 []) → fx_G p l e { frames := 1, cells := 1, slots := 6, locals := 30 } s m ([.ref (ad 331)] : List Value).toArray below meth c D ad cA n0 3 post thr 4 M [(0, .ref (ad 331)), (1, .long (Int64.ofInt v1)), (3, .int (Int32.ofInt v3))] 42 [] := by
    intro J_42 M v1 v3 hw hJ_42 H locs ls w hl
    refine lv_iload_n F.1 F.2.1 d_Mo_evaluate_42 rfl (lv_at hl 2 rfl) ?_
    refine lv_aload_n F.1 F.2.1 d_Mo_evaluate_43 rfl (lv_at hl 0 rfl) ?_
    refine fm_gI F w cl_Mo 331 20 T_331 (by decide) rfl k_834 d_Mo_evaluate_44 ?_
    obtain ⟨h35, hw⟩ := hw
    obtain ⟨h36, hw⟩ := hw
    refine fi_icmp_ge F d_Mo_evaluate_47 (tgt := 103) (by decide) h35 h36 (fun hc37 => ?_) (fun hc37 => ?_)
    · have hw := hw.1 hc37
      exact fx_vret F w hr hlk hw d_Mo_evaluate_103
    · have hw := hw.2 hc37
      refine lv_aload_n F.1 F.2.1 d_Mo_evaluate_50 rfl (lv_at hl 0 rfl) ?_
      refine fm_gO F w cl_Mo 331 37 358 T_331 (by decide) rfl rfl k_851 d_Mo_evaluate_51 ?_
      refine lv_iload_n F.1 F.2.1 d_Mo_evaluate_54 rfl (lv_at hl 2 rfl) ?_
      refine lv_aload_n F.1 F.2.1 d_Mo_evaluate_55 rfl (lv_at hl 0 rfl) ?_
      refine fm_gO F w cl_Mo 331 33 355 T_331 (by decide) rfl rfl k_847 d_Mo_evaluate_56 ?_
      refine lv_iload_n F.1 F.2.1 d_Mo_evaluate_59 rfl (lv_at hl 2 rfl) ?_
      obtain ⟨h38, hw⟩ := hw
      refine fm_aI F w 355 T_355 (by decide) h38 d_Mo_evaluate_60 ?_
      obtain ⟨h39, hw⟩ := hw
      refine fi_if_lt F d_Mo_evaluate_61 (tgt := 79) (by decide) h39 (fun hc40 => ?_) (fun hc40 => ?_)
      · have hw := hw.1 hc40
        refine lv_aload_n F.1 F.2.1 d_Mo_evaluate_79 rfl (lv_at hl 0 rfl) ?_
        refine fm_gO F w cl_Mo 331 24 346 T_331 (by decide) rfl rfl k_838 d_Mo_evaluate_80 ?_
        refine lv_iload_n F.1 F.2.1 d_Mo_evaluate_83 rfl (lv_at hl 2 rfl) ?_
        refine fm_aZ F w 346 T_346 (by decide) h38 d_Mo_evaluate_84 ?_
        obtain ⟨h41, hw⟩ := hw
        refine fi_if_eq F d_Mo_evaluate_85 (tgt := 95) (by decide) h41 (fun hc42 => ?_) (fun hc42 => ?_)
        · have hw := hw.1 hc42
          refine lv_lconst (v := Int64.ofInt 0) F.1 F.2.1 d_Mo_evaluate_95 (by decide) ?_
          exact blk_96 J_42 M v1 v3 0 v3 hw hJ_42 H locs ls w (lv_sub hl [0, 1, 2] rfl)
        · have hw := hw.2 hc42
          refine lv_aload_n F.1 F.2.1 d_Mo_evaluate_88 rfl (lv_at hl 0 rfl) ?_
          refine fm_gL F w cl_Mo 331 38 T_331 (by decide) rfl k_852 d_Mo_evaluate_89 ?_
          refine lv_goto F.1 F.2.1 d_Mo_evaluate_92 (tgt := 96) (by decide) ?_
          exact blk_96 J_42 M v1 v3 (M 331 38) v3 hw hJ_42 H locs ls w (lv_sub hl [0, 1, 2] rfl)
      · have hw := hw.2 hc40
        refine lv_lload_n F.1 F.2.1 d_Mo_evaluate_64 rfl (lv_at hl 1 rfl) ?_
        refine lv_aload_n F.1 F.2.1 d_Mo_evaluate_65 rfl (lv_at hl 0 rfl) ?_
        refine lv_aload_n F.1 F.2.1 d_Mo_evaluate_66 rfl (lv_at hl 0 rfl) ?_
        refine fm_gO F w cl_Mo 331 33 355 T_331 (by decide) rfl rfl k_847 d_Mo_evaluate_67 ?_
        refine lv_iload_n F.1 F.2.1 d_Mo_evaluate_70 rfl (lv_at hl 2 rfl) ?_
        refine fm_aI F w 355 T_355 (by decide) h38 d_Mo_evaluate_71 ?_
        refine fx_c w hno hlk (fx_rV (As := [.int (Int32.ofInt (M 355 v3.toNat))]) (rest := [.long (Int64.ofInt v1), .int (Int32.ofInt v3), .ref (ad 358)]) F w cl_Mo 331 T_331 (met_Mo_determinant l hst9 D ad cA n0 M (M 355 v3.toNat) _ thr hw) e_Mo_determinant ki_Mo_determinant ks_Mo_determinant k_1098 rfl hl.1 rfl (Nat.le_of_ble_eq_true rfl) ⟨⟨Nat.le_of_ble_eq_true rfl, Nat.le_of_ble_eq_true rfl⟩, Nat.le_of_ble_eq_true rfl, Nat.le_of_ble_eq_true rfl⟩ d_Mo_evaluate_72) (fun r44 M43 hw H locs w => ?_)
        show W p l e _ s m _ below meth c H locs 0 0 _ (F0 m 75 ls [.long (Int64.ofInt r44), .long (Int64.ofInt v1), .int (Int32.ofInt v3), .ref (ad 358)])
        refine fi_lmul F d_Mo_evaluate_75 ?_
        refine lv_goto F.1 F.2.1 d_Mo_evaluate_76 (tgt := 96) (by decide) ?_
        exact blk_96 J_42 M43 v1 v3 (v1 * r44) v3 hw hJ_42 H locs ls w (lv_sub hl [0, 1, 2] rfl)
  have blk_42 : ∀ (M : fm_M) (v1 : Int) (v3 : Int), B_Mo_evaluate_42 post thr M v1 v3 → fx_G p l e { frames := 1, cells := 1, slots := 6, locals := 30 } s m ([.ref (ad 331)] : List Value).toArray below meth c D ad cA n0 3 post thr 4 M [(0, .ref (ad 331)), (1, .long (Int64.ofInt v1)), (3, .int (Int32.ofInt v3))] 42 [] := by
    intro M v1 v3 hw
    obtain ⟨I, μ, hI, hB⟩ := hw
    have key : ∀ (q : Nat) (M : fm_M) (v1 : Int) (v3 : Int), μ M v1 v3 < q → I M v1 v3 → fx_G p l e { frames := 1, cells := 1, slots := 6, locals := 30 } s m ([.ref (ad 331)] : List Value).toArray below meth c D ad cA n0 3 post thr 4 M [(0, .ref (ad 331)), (1, .long (Int64.ofInt v1)), (3, .int (Int32.ofInt v3))] 42 [] := by
      intro q
      induction q with
      | zero => intro M v1 v3 h _; exact absurd h (Nat.not_lt_zero _)
      | succ q ih =>
        intro M v1 v3 hμ hI
        exact blc_42 (fun M' v1' v3' => I M' v1' v3' ∧ μ M' v1' v3' < μ M v1 v3) M v1 v3 (hB M v1 v3 hI) (fun M' v1' v3' hh => ih M' v1' v3' (Nat.lt_of_lt_of_le hh.2 (Nat.le_of_lt_succ hμ)) hh.1)
    exact key _ M v1 v3 (Nat.lt_succ_self _) hI
  have blk_29 : ∀ (M : fm_M) (s0 : Int), B_Mo_evaluate_29 post thr M s0 → fx_G p l e { frames := 1, cells := 1, slots := 6, locals := 30 } s m ([.ref (ad 331)] : List Value).toArray below meth c D ad cA n0 3 post thr 4 M [(0, .ref (ad 331))] 29 [.long (Int64.ofInt s0)] := by
    intro M s0 hw H locs ls w hl
    refine lv_lstore_n F.1 F.2.1 d_Mo_evaluate_29 rfl hl (by decide) rfl (fun ls hl => ?_)
    have hl : lv_has ls 4 [(1, .long (Int64.ofInt s0)), (0, .ref (ad 331))] := hl
    refine lv_aload_n F.1 F.2.1 d_Mo_evaluate_30 rfl (lv_at hl 1 rfl) ?_
    refine lv_lload_n F.1 F.2.1 d_Mo_evaluate_31 rfl (lv_at hl 0 rfl) ?_
    refine lv_aload_n F.1 F.2.1 d_Mo_evaluate_32 rfl (lv_at hl 1 rfl) ?_
    refine fm_gL F w cl_Mo 331 38 T_331 (by decide) rfl k_852 d_Mo_evaluate_33 ?_
    refine fi_lmul F d_Mo_evaluate_36 ?_
    refine fm_pL F w cl_Mo 331 38 T_331 (by decide) rfl k_852 rfl rfl d_Mo_evaluate_37 (fun M45 hM45 H locs w => ?_)
    have hw := hw M45 hM45
    refine lv_iconst (v := Int32.ofInt 0) F.1 F.2.1 d_Mo_evaluate_40 (by decide) ?_
    refine lv_istore_n F.1 F.2.1 d_Mo_evaluate_41 rfl hl (by decide) rfl (fun ls hl => ?_)
    have hl : lv_has ls 4 [(3, .int (Int32.ofInt 0)), (1, .long (Int64.ofInt s0)), (0, .ref (ad 331))] := hl
    exact blk_42 M45 s0 0 hw H locs ls w (lv_sub hl [2, 1, 0] rfl)
  have hl : lv_has ls 4 [(0, .ref (ad 331))] := hl
  suffices h9 : fx_G p l e { frames := 1, cells := 1, slots := 6, locals := 30 } s m ([.ref (ad 331)] : List Value).toArray below meth c D ad cA n0 3 post thr 4 M [(0, .ref (ad 331))] 0 [] from h9 _ _ _ w hl
  intro H locs ls w hl
  refine lv_aload_n F.1 F.2.1 d_Mo_evaluate_0 rfl (lv_at hl 0 rfl) ?_
  refine fx_c w hno hlk (fx_rV (As := []) (rest := []) F w cl_Mo 331 T_331 (met_Mo_equations l hst9 D ad cA n0 M _ thr hw) e_Mo_equations ki_Mo_equations ks_Mo_equations k_1094 rfl hl.1 rfl (Nat.le_of_ble_eq_true rfl) ⟨⟨Nat.le_of_ble_eq_true rfl, Nat.le_of_ble_eq_true rfl⟩, Nat.le_of_ble_eq_true rfl, Nat.le_of_ble_eq_true rfl⟩ d_Mo_evaluate_1) (fun r47 M46 hw H locs w => ?_)
  refine lv_aload_n F.1 F.2.1 d_Mo_evaluate_4 rfl (lv_at hl 0 rfl) ?_
  refine lv_aload_n F.1 F.2.1 d_Mo_evaluate_5 rfl (lv_at hl 0 rfl) ?_
  refine lv_iconst (v := Int32.ofInt (-1)) F.1 F.2.1 d_Mo_evaluate_6 (by decide) ?_
  refine fx_c w hno hlk (fx_rV (As := [.int (Int32.ofInt (-1))]) (rest := [.ref (ad 331)]) F w cl_Mo 331 T_331 (met_Mo_determinant l hst9 D ad cA n0 M46 (-1) _ thr hw) e_Mo_determinant ki_Mo_determinant ks_Mo_determinant k_1098 rfl hl.1 rfl (Nat.le_of_ble_eq_true rfl) ⟨⟨Nat.le_of_ble_eq_true rfl, Nat.le_of_ble_eq_true rfl⟩, Nat.le_of_ble_eq_true rfl, Nat.le_of_ble_eq_true rfl⟩ d_Mo_evaluate_7) (fun r49 M48 hw H locs w => ?_)
  show W p l e _ s m _ below meth c H locs 0 0 _ (F0 m 10 ls [.long (Int64.ofInt r49), .ref (ad 331)])
  refine fm_pL F w cl_Mo 331 38 T_331 (by decide) rfl k_852 rfl rfl d_Mo_evaluate_10 (fun M50 hM50 H locs w => ?_)
  have hw := hw M50 hM50
  refine lv_aload_n F.1 F.2.1 d_Mo_evaluate_13 rfl (lv_at hl 0 rfl) ?_
  refine fm_gL F w cl_Mo 331 38 T_331 (by decide) rfl k_852 d_Mo_evaluate_14 ?_
  refine lv_lconst (v := Int64.ofInt 0) F.1 F.2.1 d_Mo_evaluate_17 (by decide) ?_
  obtain ⟨h51, hw⟩ := hw
  refine fi_lcmp F d_Mo_evaluate_18 h51 (rll (by decide)) ?_
  refine fi_if_ge F d_Mo_evaluate_19 (tgt := 28) (by decide) rg_jcmp (fun hc52 => ?_) (fun hc52 => ?_)
  · have hw := hw.1 hc52
    refine lv_lconst (v := Int64.ofInt 1) F.1 F.2.1 d_Mo_evaluate_28 (by decide) ?_
    exact blk_29 M50 1 hw H locs ls w (lv_sub hl [0] rfl)
  · have hw := hw.2 hc52
    refine lv_ldc2 (v := (-1)) F.1 F.2.1 F.2.2.2.1 (F.2.2.2.2 _ k_1102) d_Mo_evaluate_22 ?_
    rw [show ((-1) : Int64) = Int64.ofInt (-1) from by decide]
    refine lv_goto F.1 F.2.1 d_Mo_evaluate_25 (tgt := 29) (by decide) ?_
    exact blk_29 M50 (-1) hw H locs ls w (lv_sub hl [0] rfl)
set_option maxHeartbeats 4000000 in
set_option maxRecDepth 100000 in
theorem met_Mo_worth (l : Launch) (hst9 : l.stackTraces = false) (D : va_G) (ad : Nat → Nat) (cA : Nat → ClassId) (n0 : Nat) (M : fm_M) (a1 : Int) (a2 : Int) (post : Int → fm_M → Prop) (thr : String → fm_M → Prop) (hw : wp_Mo_worth M a1 a2 post thr) : fx_Met l y_Mo_worth (Cond.code y_Mo_worth b_Mo_worth 7 (some .long) :: tb) { frames := 0, cells := 1, slots := 6, locals := 0 } [.ref (ad 331), .int (Int32.ofInt a1), .int (Int32.ofInt a2)] D ad cA n0 M 1 post thr := by
  refine fx_met (by decide) (Nat.le_of_ble_eq_true rfl) (fun p e s m below meth c ls F w hno hr hlk hl => ?_)
  have blc_18 : ∀ (J_18 : (fm_M → Int → Int → Int → Prop)) (M : fm_M) (v3 : Int) (v4 : Int) (v6 : Int), C_Mo_worth_18 a1 a2 post thr J_18 M v3 v4 v6 → (∀ (M : fm_M) (v3 : Int) (v4 : Int) (v6 : Int), J_18 M v3 v4 v6 → fx_G p l e { frames := 0, cells := 1, slots := 6, locals := 0 } s m ([.ref (ad 331), .int (Int32.ofInt a1), .int (Int32.ofInt a2)] : List Value).toArray below meth c D ad cA n0 1 post thr 7 M [(0, .ref (ad 331)), (1, .int (Int32.ofInt a1)), (2, .int (Int32.ofInt a2)), (3, .int (Int32.ofInt v3)), (4, .long (Int64.ofInt v4)), (6, .int (Int32.ofInt v6))] 18 []) → fx_G p l e { frames := 0, cells := 1, slots := 6, locals := 0 } s m ([.ref (ad 331), .int (Int32.ofInt a1), .int (Int32.ofInt a2)] : List Value).toArray below meth c D ad cA n0 1 post thr 7 M [(0, .ref (ad 331)), (1, .int (Int32.ofInt a1)), (2, .int (Int32.ofInt a2)), (3, .int (Int32.ofInt v3)), (4, .long (Int64.ofInt v4)), (6, .int (Int32.ofInt v6))] 18 [] := by
    intro J_18 M v3 v4 v6 hw hJ_18 H locs ls w hl
    refine lv_iload F.1 F.2.1 d_Mo_worth_18 (lv_at hl 5 rfl) ?_
    refine lv_aload_n F.1 F.2.1 d_Mo_worth_20 rfl (lv_at hl 0 rfl) ?_
    refine fm_gO F w cl_Mo 331 12 337 T_331 (by decide) rfl rfl k_826 d_Mo_worth_21 ?_
    refine lv_bipush (v := Int32.ofInt 10) F.1 F.2.1 d_Mo_worth_24 (by decide) ?_
    refine lv_aload_n F.1 F.2.1 d_Mo_worth_26 rfl (lv_at hl 0 rfl) ?_
    refine fm_gI F w cl_Mo 331 6 T_331 (by decide) rfl k_820 d_Mo_worth_27 ?_
    refine fi_imul F d_Mo_worth_30 ?_
    refine lv_iload_n F.1 F.2.1 d_Mo_worth_31 rfl (lv_at hl 3 rfl) ?_
    refine fi_iadd F d_Mo_worth_32 ?_
    obtain ⟨h17, hw⟩ := hw
    refine fm_aI F w 337 T_337 (by decide) h17 d_Mo_worth_33 ?_
    obtain ⟨h18, hw⟩ := hw
    obtain ⟨h19, hw⟩ := hw
    refine fi_icmp_ge F d_Mo_worth_34 (tgt := 90) (by decide) h18 h19 (fun hc20 => ?_) (fun hc20 => ?_)
    · have hw := hw.1 hc20
      refine lv_lload F.1 F.2.1 d_Mo_worth_90 (lv_at hl 4 rfl) ?_
      exact fx_lret F w hr hlk hw d_Mo_worth_92
    · have hw := hw.2 hc20
      refine lv_lload F.1 F.2.1 d_Mo_worth_37 (lv_at hl 4 rfl) ?_
      refine lv_aload_n F.1 F.2.1 d_Mo_worth_39 rfl (lv_at hl 0 rfl) ?_
      refine fm_gO F w cl_Mo 331 14 339 T_331 (by decide) rfl rfl k_828 d_Mo_worth_40 ?_
      refine lv_iconst (v := Int32.ofInt 4) F.1 F.2.1 d_Mo_worth_43 (by decide) ?_
      refine lv_bipush (v := Int32.ofInt 10) F.1 F.2.1 d_Mo_worth_44 (by decide) ?_
      refine lv_aload_n F.1 F.2.1 d_Mo_worth_46 rfl (lv_at hl 0 rfl) ?_
      refine fm_gI F w cl_Mo 331 6 T_331 (by decide) rfl k_820 d_Mo_worth_47 ?_
      refine fi_imul F d_Mo_worth_50 ?_
      refine lv_iload_n F.1 F.2.1 d_Mo_worth_51 rfl (lv_at hl 3 rfl) ?_
      refine fi_iadd F d_Mo_worth_52 ?_
      refine fi_imul F d_Mo_worth_53 ?_
      refine lv_iload F.1 F.2.1 d_Mo_worth_54 (lv_at hl 5 rfl) ?_
      refine fi_iadd F d_Mo_worth_56 ?_
      obtain ⟨h21, hw⟩ := hw
      refine fm_aI F w 339 T_339 (by decide) h21 d_Mo_worth_57 ?_
      obtain ⟨h22, hw⟩ := hw
      refine fi_wi2l F d_Mo_worth_58 h22 ?_
      refine lv_aload_n F.1 F.2.1 d_Mo_worth_59 rfl (lv_at hl 0 rfl) ?_
      refine fm_gO F w cl_Mo 331 37 358 T_331 (by decide) rfl rfl k_851 d_Mo_worth_60 ?_
      refine lv_aload_n F.1 F.2.1 d_Mo_worth_63 rfl (lv_at hl 0 rfl) ?_
      refine fm_gO F w cl_Mo 331 28 350 T_331 (by decide) rfl rfl k_842 d_Mo_worth_64 ?_
      refine lv_bipush (v := Int32.ofInt 40) F.1 F.2.1 d_Mo_worth_67 (by decide) ?_
      refine lv_iload_n F.1 F.2.1 d_Mo_worth_69 rfl (lv_at hl 1 rfl) ?_
      refine fi_imul F d_Mo_worth_70 ?_
      refine lv_iconst (v := Int32.ofInt 4) F.1 F.2.1 d_Mo_worth_71 (by decide) ?_
      refine lv_iload_n F.1 F.2.1 d_Mo_worth_72 rfl (lv_at hl 2 rfl) ?_
      refine fi_imul F d_Mo_worth_73 ?_
      refine fi_iadd F d_Mo_worth_74 ?_
      refine lv_iload F.1 F.2.1 d_Mo_worth_75 (lv_at hl 5 rfl) ?_
      refine fi_iadd F d_Mo_worth_77 ?_
      obtain ⟨h23, hw⟩ := hw
      refine fm_aI F w 350 T_350 (by decide) h23 d_Mo_worth_78 ?_
      obtain ⟨h24, hw⟩ := hw
      refine fm_aL F w 358 T_358 (by decide) h24 d_Mo_worth_79 ?_
      refine fi_lmul F d_Mo_worth_80 ?_
      refine fi_ladd F d_Mo_worth_81 ?_
      refine lv_lstore F.1 F.2.1 d_Mo_worth_82 hl (by decide) rfl (fun ls hl => ?_)
      have hl : lv_has ls 7 [(4, .long (Int64.ofInt (v4 + ((M 339 ((4 * ((10 * (M 331 6)) + v3)) + v6).toNat) * (M 358 (M 350 (((40 * a1) + (4 * a2)) + v6).toNat).toNat))))), (0, .ref (ad 331)), (1, .int (Int32.ofInt a1)), (2, .int (Int32.ofInt a2)), (3, .int (Int32.ofInt v3)), (6, .int (Int32.ofInt v6))] := hl
      refine fi_iinc (k := 5) (v := (v6 + 1)) F d_Mo_worth_84 hl rfl rfl (by decide) rfl (fun ls hl => ?_)
      have hl : lv_has ls 7 [(6, .int (Int32.ofInt (v6 + 1))), (4, .long (Int64.ofInt (v4 + ((M 339 ((4 * ((10 * (M 331 6)) + v3)) + v6).toNat) * (M 358 (M 350 (((40 * a1) + (4 * a2)) + v6).toNat).toNat))))), (0, .ref (ad 331)), (1, .int (Int32.ofInt a1)), (2, .int (Int32.ofInt a2)), (3, .int (Int32.ofInt v3))] := hl
      refine lv_goto F.1 F.2.1 d_Mo_worth_87 (tgt := 18) (by decide) ?_
      exact hJ_18 M v3 (v4 + ((M 339 ((4 * ((10 * (M 331 6)) + v3)) + v6).toNat) * (M 358 (M 350 (((40 * a1) + (4 * a2)) + v6).toNat).toNat))) (v6 + 1) hw H locs ls w (lv_sub hl [2, 3, 4, 5, 1, 0] rfl)
  have blk_18 : ∀ (M : fm_M) (v3 : Int) (v4 : Int) (v6 : Int), B_Mo_worth_18 a1 a2 post thr M v3 v4 v6 → fx_G p l e { frames := 0, cells := 1, slots := 6, locals := 0 } s m ([.ref (ad 331), .int (Int32.ofInt a1), .int (Int32.ofInt a2)] : List Value).toArray below meth c D ad cA n0 1 post thr 7 M [(0, .ref (ad 331)), (1, .int (Int32.ofInt a1)), (2, .int (Int32.ofInt a2)), (3, .int (Int32.ofInt v3)), (4, .long (Int64.ofInt v4)), (6, .int (Int32.ofInt v6))] 18 [] := by
    intro M v3 v4 v6 hw
    obtain ⟨I, μ, hI, hB⟩ := hw
    have key : ∀ (q : Nat) (M : fm_M) (v3 : Int) (v4 : Int) (v6 : Int), μ M v3 v4 v6 < q → I M v3 v4 v6 → fx_G p l e { frames := 0, cells := 1, slots := 6, locals := 0 } s m ([.ref (ad 331), .int (Int32.ofInt a1), .int (Int32.ofInt a2)] : List Value).toArray below meth c D ad cA n0 1 post thr 7 M [(0, .ref (ad 331)), (1, .int (Int32.ofInt a1)), (2, .int (Int32.ofInt a2)), (3, .int (Int32.ofInt v3)), (4, .long (Int64.ofInt v4)), (6, .int (Int32.ofInt v6))] 18 [] := by
      intro q
      induction q with
      | zero => intro M v3 v4 v6 h _; exact absurd h (Nat.not_lt_zero _)
      | succ q ih =>
        intro M v3 v4 v6 hμ hI
        exact blc_18 (fun M' v3' v4' v6' => I M' v3' v4' v6' ∧ μ M' v3' v4' v6' < μ M v3 v4 v6) M v3 v4 v6 (hB M v3 v4 v6 hI) (fun M' v3' v4' v6' hh => ih M' v3' v4' v6' (Nat.lt_of_lt_of_le hh.2 (Nat.le_of_lt_succ hμ)) hh.1)
    exact key _ M v3 v4 v6 (Nat.lt_succ_self _) hI
  have hl : lv_has ls 7 [(0, .ref (ad 331)), (1, .int (Int32.ofInt a1)), (2, .int (Int32.ofInt a2))] := hl
  suffices h9 : fx_G p l e { frames := 0, cells := 1, slots := 6, locals := 0 } s m ([.ref (ad 331), .int (Int32.ofInt a1), .int (Int32.ofInt a2)] : List Value).toArray below meth c D ad cA n0 1 post thr 7 M [(0, .ref (ad 331)), (1, .int (Int32.ofInt a1)), (2, .int (Int32.ofInt a2))] 0 [] from h9 _ _ _ w hl
  intro H locs ls w hl
  refine lv_aload_n F.1 F.2.1 d_Mo_worth_0 rfl (lv_at hl 0 rfl) ?_
  refine fm_gO F w cl_Mo 331 26 348 T_331 (by decide) rfl rfl k_840 d_Mo_worth_1 ?_
  refine lv_bipush (v := Int32.ofInt 10) F.1 F.2.1 d_Mo_worth_4 (by decide) ?_
  refine lv_iload_n F.1 F.2.1 d_Mo_worth_6 rfl (lv_at hl 1 rfl) ?_
  refine fi_imul F d_Mo_worth_7 ?_
  refine lv_iload_n F.1 F.2.1 d_Mo_worth_8 rfl (lv_at hl 2 rfl) ?_
  refine fi_iadd F d_Mo_worth_9 ?_
  obtain ⟨h25, hw⟩ := hw
  refine fm_aI F w 348 T_348 (by decide) h25 d_Mo_worth_10 ?_
  refine lv_istore_n F.1 F.2.1 d_Mo_worth_11 rfl hl (by decide) rfl (fun ls hl => ?_)
  have hl : lv_has ls 7 [(3, .int (Int32.ofInt (M 348 ((10 * a1) + a2).toNat))), (0, .ref (ad 331)), (1, .int (Int32.ofInt a1)), (2, .int (Int32.ofInt a2))] := hl
  refine lv_lconst (v := Int64.ofInt 0) F.1 F.2.1 d_Mo_worth_12 (by decide) ?_
  refine lv_lstore F.1 F.2.1 d_Mo_worth_13 hl (by decide) rfl (fun ls hl => ?_)
  have hl : lv_has ls 7 [(4, .long (Int64.ofInt 0)), (3, .int (Int32.ofInt (M 348 ((10 * a1) + a2).toNat))), (0, .ref (ad 331)), (1, .int (Int32.ofInt a1)), (2, .int (Int32.ofInt a2))] := hl
  refine lv_iconst (v := Int32.ofInt 0) F.1 F.2.1 d_Mo_worth_15 (by decide) ?_
  refine lv_istore F.1 F.2.1 d_Mo_worth_16 hl (by decide) rfl (fun ls hl => ?_)
  have hl : lv_has ls 7 [(6, .int (Int32.ofInt 0)), (4, .long (Int64.ofInt 0)), (3, .int (Int32.ofInt (M 348 ((10 * a1) + a2).toNat))), (0, .ref (ad 331)), (1, .int (Int32.ofInt a1)), (2, .int (Int32.ofInt a2))] := hl
  exact blk_18 M (M 348 ((10 * a1) + a2).toNat) 0 0 hw H locs ls w (lv_sub hl [3, 4, 5, 2, 1, 0] rfl)
