theorem TO : 362 < nC ∧ TC 362 = .inr (3, 1) := by decide +kernel
def wp_La_read (M : fm_M) (post : Int → fm_M → Prop) : Prop :=
  wp_CG_read M (fun r M1 => rg r ∧ ∀ M2 : fm_M, M2 = fm_u M1 362 0 r → post 0 M2) (fun E M1 => (E = "java/lang/IllegalArgumentException" ∧ post 1 M1))
set_option maxHeartbeats 4000000 in
set_option maxRecDepth 100000 in
theorem hm_read (l : Launch) (hst9 : l.stackTraces = false) (D : va_G) (ad : Nat → Nat) (cA : Nat → ClassId) (n0 : Nat) (M : fm_M) (post : Int → fm_M → Prop) (hw : wp_La_read M post) : fx_MetC l y_La_read (Cond.codeWith y_La_read b_La_read 3 (some .int) [(0, 8, 11, 13)] :: tb) { frames := 13, cells := 1, slots := 6, locals := 248 } [.ref (ad 0), .ref (ad 362)] D ad cA n0 M 0 1 6 post := by
  refine fx_metW (by decide) (Nat.le_of_ble_eq_true rfl) (fun p e s m below meth c ls hpl F w hnc hx hr hlk hl => ?_)
  have hl : lv_has ls 3 [(0, .ref (ad 0)), (1, .ref (ad 362))] := hl
  refine lv_aload_n F.1 F.2.1 d_La_read_0 rfl (lv_at hl 1 rfl) ?_
  refine lv_iconst (v := Int32.ofInt 0) F.1 F.2.1 d_La_read_1 (by decide) ?_
  refine lv_aload_n F.1 F.2.1 d_La_read_2 rfl (lv_at hl 0 rfl) ?_
  refine fx_try w (fx_rV (As := []) (rest := [.int (Int32.ofInt 0), .ref (ad 362)]) F w cl_CG 0 T_0 (met_CG_read l hst9 D ad cA n0 M _ _ hw) e_CG_read ki_CG_read ks_CG_read k_430 rfl hl.1 rfl (Nat.le_of_ble_eq_true rfl) ⟨⟨(Nat.le_of_ble_eq_true rfl), (Nat.le_of_ble_eq_true rfl)⟩, (Nat.le_of_ble_eq_true rfl), (Nat.le_of_ble_eq_true rfl)⟩ d_La_read_3) (fun r M1 hw H locs w => ?_) (fun E M1 hw => ?_)
  · show W p l e _ s m _ below meth c H locs 0 0 _ (F0 m 6 ls [.int (Int32.ofInt r), .int (Int32.ofInt 0), .ref (ad 362)])
    obtain ⟨h1, hw⟩ := hw
    refine fi_wi2l F d_La_read_6 h1 ?_
    refine fm_sL F w 362 TO (by decide) ⟨by decide, by decide⟩ d_La_read_7 (fun M2 hM2 H locs w => ?_)
    have hw := hw M2 hM2
    refine lv_goto F.1 F.2.1 d_La_read_8 (tgt := 14) (by decide) ?_
    refine lv_iconst (v := Int32.ofInt 0) F.1 F.2.1 d_La_read_14 (by decide) ?_
    exact fx_iretC F w hr hlk hw (Nat.le_of_ble_eq_true rfl) (Nat.le_of_ble_eq_true rfl) d_La_read_15
  · obtain ⟨rfl, hw⟩ := hw
    refine ⟨11, fx_H1 F hpl hx (Nat.le_of_ble_eq_true rfl) (Nat.le_of_ble_eq_true rfl) (by decide) k_429 k_460, fun x H locs w => ?_⟩
    refine lv_astore_n F.1 F.2.1 d_La_read_11 rfl hl (by decide) rfl (fun ls hl => ?_)
    refine lv_iconst (v := Int32.ofInt 1) F.1 F.2.1 d_La_read_12 (by decide) ?_
    exact fx_iretC F w hr hlk hw (Nat.le_of_ble_eq_true rfl) (Nat.le_of_ble_eq_true rfl) d_La_read_13
def wp_La_solve (M : fm_M) (post : Int → fm_M → Prop) : Prop :=
  wp_CG_solve M (fun r M1 => rg r ∧ ∀ M2 : fm_M, M2 = fm_u M1 362 0 r → post 0 M2) (fun E M1 => (E = "java/lang/IllegalStateException" ∧ post 1 M1))
set_option maxHeartbeats 4000000 in
set_option maxRecDepth 100000 in
theorem hm_solve (l : Launch) (hst9 : l.stackTraces = false) (D : va_G) (ad : Nat → Nat) (cA : Nat → ClassId) (n0 : Nat) (M : fm_M) (post : Int → fm_M → Prop) (hw : wp_La_solve M post) : fx_MetC l y_La_solve (Cond.codeWith y_La_solve b_La_solve 3 (some .int) [(0, 8, 11, 18)] :: tb) { frames := 7, cells := 1, slots := 6, locals := 165 } [.ref (ad 0), .ref (ad 362)] D ad cA n0 M 0 1 6 post := by
  refine fx_metW (by decide) (Nat.le_of_ble_eq_true rfl) (fun p e s m below meth c ls hpl F w hnc hx hr hlk hl => ?_)
  have hl : lv_has ls 3 [(0, .ref (ad 0)), (1, .ref (ad 362))] := hl
  refine lv_aload_n F.1 F.2.1 d_La_solve_0 rfl (lv_at hl 1 rfl) ?_
  refine lv_iconst (v := Int32.ofInt 0) F.1 F.2.1 d_La_solve_1 (by decide) ?_
  refine lv_aload_n F.1 F.2.1 d_La_solve_2 rfl (lv_at hl 0 rfl) ?_
  refine fx_try w (fx_rV (As := []) (rest := [.int (Int32.ofInt 0), .ref (ad 362)]) F w cl_CG 0 T_0 (met_CG_solve l hst9 D ad cA n0 M _ _ hw) e_CG_solve ki_CG_solve ks_CG_solve k_593 rfl hl.1 rfl (Nat.le_of_ble_eq_true rfl) ⟨⟨(Nat.le_of_ble_eq_true rfl), (Nat.le_of_ble_eq_true rfl)⟩, (Nat.le_of_ble_eq_true rfl), (Nat.le_of_ble_eq_true rfl)⟩ d_La_solve_3) (fun r M1 hw H locs w => ?_) (fun E M1 hw => ?_)
  · show W p l e _ s m _ below meth c H locs 0 0 _ (F0 m 6 ls [.int (Int32.ofInt r), .int (Int32.ofInt 0), .ref (ad 362)])
    obtain ⟨h1, hw⟩ := hw
    refine fi_wi2l F d_La_solve_6 h1 ?_
    refine fm_sL F w 362 TO (by decide) ⟨by decide, by decide⟩ d_La_solve_7 (fun M2 hM2 H locs w => ?_)
    have hw := hw M2 hM2
    refine lv_goto F.1 F.2.1 d_La_solve_8 (tgt := 14) (by decide) ?_
    refine lv_iconst (v := Int32.ofInt 0) F.1 F.2.1 d_La_solve_14 (by decide) ?_
    exact fx_iretC F w hr hlk hw (Nat.le_of_ble_eq_true rfl) (Nat.le_of_ble_eq_true rfl) d_La_solve_15
  · obtain ⟨rfl, hw⟩ := hw
    refine ⟨11, fx_H1 F hpl hx (Nat.le_of_ble_eq_true rfl) (Nat.le_of_ble_eq_true rfl) (by decide) k_592 k_599, fun x H locs w => ?_⟩
    refine lv_astore_n F.1 F.2.1 d_La_solve_11 rfl hl (by decide) rfl (fun ls hl => ?_)
    refine lv_iconst (v := Int32.ofInt 1) F.1 F.2.1 d_La_solve_12 (by decide) ?_
    exact fx_iretC F w hr hlk hw (Nat.le_of_ble_eq_true rfl) (Nat.le_of_ble_eq_true rfl) d_La_solve_13
def wp_La_upper (M : fm_M) (a1 : Int) (post : Int → fm_M → Prop) : Prop :=
  wp_CG_upper M a1 (fun r M1 => ∀ M2 : fm_M, M2 = fm_u M1 362 0 r → post 0 M2) (fun E M1 => (E = "java/lang/IllegalStateException" ∧ post 1 M1) ∨ (E = "java/lang/IndexOutOfBoundsException" ∧ post 2 M1))
set_option maxHeartbeats 4000000 in
set_option maxRecDepth 100000 in
theorem hm_upper (l : Launch) (hst9 : l.stackTraces = false) (D : va_G) (ad : Nat → Nat) (cA : Nat → ClassId) (n0 : Nat) (M : fm_M) (a1 : Int) (post : Int → fm_M → Prop) (hw : wp_La_upper M a1 post) : fx_MetC l y_La_upper (Cond.codeWith y_La_upper b_La_upper 4 (some .int) [(0, 8, 11, 18), (0, 8, 14, 24)] :: tb) { frames := 8, cells := 1, slots := 6, locals := 124 } [.ref (ad 0), .int (Int32.ofInt a1), .ref (ad 362)] D ad cA n0 M 0 1 6 post := by
  refine fx_metW (by decide) (Nat.le_of_ble_eq_true rfl) (fun p e s m below meth c ls hpl F w hnc hx hr hlk hl => ?_)
  have hl : lv_has ls 4 [(0, .ref (ad 0)), (1, .int (Int32.ofInt a1)), (2, .ref (ad 362))] := hl
  refine lv_aload_n F.1 F.2.1 d_La_upper_0 rfl (lv_at hl 2 rfl) ?_
  refine lv_iconst (v := Int32.ofInt 0) F.1 F.2.1 d_La_upper_1 (by decide) ?_
  refine lv_aload_n F.1 F.2.1 d_La_upper_2 rfl (lv_at hl 0 rfl) ?_
  refine lv_iload_n F.1 F.2.1 d_La_upper_3 rfl (lv_at hl 1 rfl) ?_
  refine fx_try w (fx_rV (As := [.int (Int32.ofInt a1)]) (rest := [.int (Int32.ofInt 0), .ref (ad 362)]) F w cl_CG 0 T_0 (met_CG_upper l hst9 D ad cA n0 M a1 _ _ hw) e_CG_upper ki_CG_upper ks_CG_upper k_769 rfl hl.1 rfl (Nat.le_of_ble_eq_true rfl) ⟨⟨(Nat.le_of_ble_eq_true rfl), (Nat.le_of_ble_eq_true rfl)⟩, (Nat.le_of_ble_eq_true rfl), (Nat.le_of_ble_eq_true rfl)⟩ d_La_upper_4) (fun r M1 hw H locs w => ?_) (fun E M1 hw => ?_)
  · show W p l e _ s m _ below meth c H locs 0 0 _ (F0 m 7 ls [.long (Int64.ofInt r), .int (Int32.ofInt 0), .ref (ad 362)])
    refine fm_sL F w 362 TO (by decide) ⟨by decide, by decide⟩ d_La_upper_7 (fun M2 hM2 H locs w => ?_)
    have hw := hw M2 hM2
    refine lv_goto F.1 F.2.1 d_La_upper_8 (tgt := 17) (by decide) ?_
    refine lv_iconst (v := Int32.ofInt 0) F.1 F.2.1 d_La_upper_17 (by decide) ?_
    exact fx_iretC F w hr hlk hw (Nat.le_of_ble_eq_true rfl) (Nat.le_of_ble_eq_true rfl) d_La_upper_18
  · rcases hw with ⟨rfl, hw⟩ | ⟨rfl, hw⟩
    · refine ⟨11, fx_H1 F hpl hx (Nat.le_of_ble_eq_true rfl) (Nat.le_of_ble_eq_true rfl) (by decide) k_592 k_599, fun x H locs w => ?_⟩
      refine lv_astore_n F.1 F.2.1 d_La_upper_11 rfl hl (by decide) rfl (fun ls hl => ?_)
      refine lv_iconst (v := Int32.ofInt 1) F.1 F.2.1 d_La_upper_12 (by decide) ?_
      exact fx_iretC F w hr hlk hw (Nat.le_of_ble_eq_true rfl) (Nat.le_of_ble_eq_true rfl) d_La_upper_13
    · refine ⟨14, fx_H2 F hpl hx (Nat.le_of_ble_eq_true rfl) (Nat.le_of_ble_eq_true rfl) (by decide) (by decide) k_592 hnc k_768 k_780, fun x H locs w => ?_⟩
      refine lv_astore_n F.1 F.2.1 d_La_upper_14 rfl hl (by decide) rfl (fun ls hl => ?_)
      refine lv_iconst (v := Int32.ofInt 2) F.1 F.2.1 d_La_upper_15 (by decide) ?_
      exact fx_iretC F w hr hlk hw (Nat.le_of_ble_eq_true rfl) (Nat.le_of_ble_eq_true rfl) d_La_upper_16
def wp_La_lower (M : fm_M) (a1 : Int) (post : Int → fm_M → Prop) : Prop :=
  wp_CG_lower M a1 (fun r M1 => ∀ M2 : fm_M, M2 = fm_u M1 362 0 r → post 0 M2) (fun E M1 => (E = "java/lang/IllegalStateException" ∧ post 1 M1) ∨ (E = "java/lang/IndexOutOfBoundsException" ∧ post 2 M1))
set_option maxHeartbeats 4000000 in
set_option maxRecDepth 100000 in
theorem hm_lower (l : Launch) (hst9 : l.stackTraces = false) (D : va_G) (ad : Nat → Nat) (cA : Nat → ClassId) (n0 : Nat) (M : fm_M) (a1 : Int) (post : Int → fm_M → Prop) (hw : wp_La_lower M a1 post) : fx_MetC l y_La_lower (Cond.codeWith y_La_lower b_La_lower 4 (some .int) [(0, 8, 11, 18), (0, 8, 14, 24)] :: tb) { frames := 8, cells := 1, slots := 6, locals := 124 } [.ref (ad 0), .int (Int32.ofInt a1), .ref (ad 362)] D ad cA n0 M 0 1 6 post := by
  refine fx_metW (by decide) (Nat.le_of_ble_eq_true rfl) (fun p e s m below meth c ls hpl F w hnc hx hr hlk hl => ?_)
  have hl : lv_has ls 4 [(0, .ref (ad 0)), (1, .int (Int32.ofInt a1)), (2, .ref (ad 362))] := hl
  refine lv_aload_n F.1 F.2.1 d_La_lower_0 rfl (lv_at hl 2 rfl) ?_
  refine lv_iconst (v := Int32.ofInt 0) F.1 F.2.1 d_La_lower_1 (by decide) ?_
  refine lv_aload_n F.1 F.2.1 d_La_lower_2 rfl (lv_at hl 0 rfl) ?_
  refine lv_iload_n F.1 F.2.1 d_La_lower_3 rfl (lv_at hl 1 rfl) ?_
  refine fx_try w (fx_rV (As := [.int (Int32.ofInt a1)]) (rest := [.int (Int32.ofInt 0), .ref (ad 362)]) F w cl_CG 0 T_0 (met_CG_lower l hst9 D ad cA n0 M a1 _ _ hw) e_CG_lower ki_CG_lower ks_CG_lower k_797 rfl hl.1 rfl (Nat.le_of_ble_eq_true rfl) ⟨⟨(Nat.le_of_ble_eq_true rfl), (Nat.le_of_ble_eq_true rfl)⟩, (Nat.le_of_ble_eq_true rfl), (Nat.le_of_ble_eq_true rfl)⟩ d_La_lower_4) (fun r M1 hw H locs w => ?_) (fun E M1 hw => ?_)
  · show W p l e _ s m _ below meth c H locs 0 0 _ (F0 m 7 ls [.long (Int64.ofInt r), .int (Int32.ofInt 0), .ref (ad 362)])
    refine fm_sL F w 362 TO (by decide) ⟨by decide, by decide⟩ d_La_lower_7 (fun M2 hM2 H locs w => ?_)
    have hw := hw M2 hM2
    refine lv_goto F.1 F.2.1 d_La_lower_8 (tgt := 17) (by decide) ?_
    refine lv_iconst (v := Int32.ofInt 0) F.1 F.2.1 d_La_lower_17 (by decide) ?_
    exact fx_iretC F w hr hlk hw (Nat.le_of_ble_eq_true rfl) (Nat.le_of_ble_eq_true rfl) d_La_lower_18
  · rcases hw with ⟨rfl, hw⟩ | ⟨rfl, hw⟩
    · refine ⟨11, fx_H1 F hpl hx (Nat.le_of_ble_eq_true rfl) (Nat.le_of_ble_eq_true rfl) (by decide) k_592 k_599, fun x H locs w => ?_⟩
      refine lv_astore_n F.1 F.2.1 d_La_lower_11 rfl hl (by decide) rfl (fun ls hl => ?_)
      refine lv_iconst (v := Int32.ofInt 1) F.1 F.2.1 d_La_lower_12 (by decide) ?_
      exact fx_iretC F w hr hlk hw (Nat.le_of_ble_eq_true rfl) (Nat.le_of_ble_eq_true rfl) d_La_lower_13
    · refine ⟨14, fx_H2 F hpl hx (Nat.le_of_ble_eq_true rfl) (Nat.le_of_ble_eq_true rfl) (by decide) (by decide) k_592 hnc k_768 k_780, fun x H locs w => ?_⟩
      refine lv_astore_n F.1 F.2.1 d_La_lower_14 rfl hl (by decide) rfl (fun ls hl => ?_)
      refine lv_iconst (v := Int32.ofInt 2) F.1 F.2.1 d_La_lower_15 (by decide) ?_
      exact fx_iretC F w hr hlk hw (Nat.le_of_ble_eq_true rfl) (Nat.le_of_ble_eq_true rfl) d_La_lower_16
def wp_La_good (M : fm_M) (a1 : Int) (post : Int → fm_M → Prop) : Prop :=
  wp_CG_good M a1 (fun r M1 => rg r ∧ ∀ M2 : fm_M, M2 = fm_u M1 362 0 r → post 0 M2) (fun E M1 => (E = "java/lang/IllegalStateException" ∧ post 1 M1) ∨ (E = "java/lang/IndexOutOfBoundsException" ∧ post 2 M1))
set_option maxHeartbeats 4000000 in
set_option maxRecDepth 100000 in
theorem hm_good (l : Launch) (hst9 : l.stackTraces = false) (D : va_G) (ad : Nat → Nat) (cA : Nat → ClassId) (n0 : Nat) (M : fm_M) (a1 : Int) (post : Int → fm_M → Prop) (hw : wp_La_good M a1 post) : fx_MetC l y_La_good (Cond.codeWith y_La_good b_La_good 4 (some .int) [(0, 9, 12, 18), (0, 9, 15, 24)] :: tb) { frames := 8, cells := 1, slots := 6, locals := 124 } [.ref (ad 0), .int (Int32.ofInt a1), .ref (ad 362)] D ad cA n0 M 0 1 6 post := by
  refine fx_metW (by decide) (Nat.le_of_ble_eq_true rfl) (fun p e s m below meth c ls hpl F w hnc hx hr hlk hl => ?_)
  have hl : lv_has ls 4 [(0, .ref (ad 0)), (1, .int (Int32.ofInt a1)), (2, .ref (ad 362))] := hl
  refine lv_aload_n F.1 F.2.1 d_La_good_0 rfl (lv_at hl 2 rfl) ?_
  refine lv_iconst (v := Int32.ofInt 0) F.1 F.2.1 d_La_good_1 (by decide) ?_
  refine lv_aload_n F.1 F.2.1 d_La_good_2 rfl (lv_at hl 0 rfl) ?_
  refine lv_iload_n F.1 F.2.1 d_La_good_3 rfl (lv_at hl 1 rfl) ?_
  refine fx_try w (fx_rV (As := [.int (Int32.ofInt a1)]) (rest := [.int (Int32.ofInt 0), .ref (ad 362)]) F w cl_CG 0 T_0 (met_CG_good l hst9 D ad cA n0 M a1 _ _ hw) e_CG_good ki_CG_good ks_CG_good k_804 rfl hl.1 rfl (Nat.le_of_ble_eq_true rfl) ⟨⟨(Nat.le_of_ble_eq_true rfl), (Nat.le_of_ble_eq_true rfl)⟩, (Nat.le_of_ble_eq_true rfl), (Nat.le_of_ble_eq_true rfl)⟩ d_La_good_4) (fun r M1 hw H locs w => ?_) (fun E M1 hw => ?_)
  · show W p l e _ s m _ below meth c H locs 0 0 _ (F0 m 7 ls [.int (Int32.ofInt r), .int (Int32.ofInt 0), .ref (ad 362)])
    obtain ⟨h1, hw⟩ := hw
    refine fi_wi2l F d_La_good_7 h1 ?_
    refine fm_sL F w 362 TO (by decide) ⟨by decide, by decide⟩ d_La_good_8 (fun M2 hM2 H locs w => ?_)
    have hw := hw M2 hM2
    refine lv_goto F.1 F.2.1 d_La_good_9 (tgt := 18) (by decide) ?_
    refine lv_iconst (v := Int32.ofInt 0) F.1 F.2.1 d_La_good_18 (by decide) ?_
    exact fx_iretC F w hr hlk hw (Nat.le_of_ble_eq_true rfl) (Nat.le_of_ble_eq_true rfl) d_La_good_19
  · rcases hw with ⟨rfl, hw⟩ | ⟨rfl, hw⟩
    · refine ⟨12, fx_H1 F hpl hx (Nat.le_of_ble_eq_true rfl) (Nat.le_of_ble_eq_true rfl) (by decide) k_592 k_599, fun x H locs w => ?_⟩
      refine lv_astore_n F.1 F.2.1 d_La_good_12 rfl hl (by decide) rfl (fun ls hl => ?_)
      refine lv_iconst (v := Int32.ofInt 1) F.1 F.2.1 d_La_good_13 (by decide) ?_
      exact fx_iretC F w hr hlk hw (Nat.le_of_ble_eq_true rfl) (Nat.le_of_ble_eq_true rfl) d_La_good_14
    · refine ⟨15, fx_H2 F hpl hx (Nat.le_of_ble_eq_true rfl) (Nat.le_of_ble_eq_true rfl) (by decide) (by decide) k_592 hnc k_768 k_780, fun x H locs w => ?_⟩
      refine lv_astore_n F.1 F.2.1 d_La_good_15 rfl hl (by decide) rfl (fun ls hl => ?_)
      refine lv_iconst (v := Int32.ofInt 2) F.1 F.2.1 d_La_good_16 (by decide) ?_
      exact fx_iretC F w hr hlk hw (Nat.le_of_ble_eq_true rfl) (Nat.le_of_ble_eq_true rfl) d_La_good_17
