set_option maxHeartbeats 40000000 in
set_option maxRecDepth 100000 in
theorem law_loop {p : Program} {e : Env} {s : State} {m : MethodId} {below : List Frame} {meth : Method} {c : Code} (l : Launch) (hst9 : l.stackTraces = false) {b L : Nat} {xs : Nat → Int32} (hL : L ≤ 2048) (F : CallFix p m c code 8 s #[Value.ref b] tb R_law) (hr : meth.sig.returnType = ret) (hlk : meth.locks = false) (hX : va_X b L xs s s.heap) (hbl : b < s.heap.size) (hnc : fx_noc s) (D : va_G) (ad : Nat → Nat) (cA : Nat → ClassId) (Inv : fm_M → Prop) (hI : ∀ M, Inv M → law_ok Inv M) :
    ∀ (q i : Nat) (M : fm_M) (H : Heap) (locs : List Loc) (ls : Array Slot) (cells slots : Nat), L + 4 < i + q → i ≤ L + 4 → Inv M → fm_w D ad cA s.heap.size s M H locs → lv_has ls 8 [(4, .int (Int32.ofInt (i : Int))), (3, .ref (ad 362)), (2, .ref (ad 331)), (1, .ref (ad 0)), (0, .ref b)] → cells ≤ 363 + i → slots ≤ 8000 + 6 * i → W p l e room_1 s m #[Value.ref b] below meth c H locs cells slots (lw_Z below #[Value.ref b] s) (F0 m 23 ls []) := by
  intro q
  induction q with
  | zero => intro i M H locs ls cells slots h1 h2; omega
  | succ q ih =>
    intro i M H locs ls cells slots hq hiL hM w hl hc hs
    refine lv_iload F.1 F.2.1 d_La_law_23 (lv_at hl 0 rfl) ?_
    refine lv_aload_n F.1 F.2.1 d_La_law_25 rfl (lv_at hl 4 rfl) ?_
    refine va_slen F.1 F.2.1 hX hbl (Nat.not_le.mpr hbl) w.1.2.2.2.1 d_La_law_26 ?_
    rw [show Int32.ofNat L = Int32.ofInt (L : Int) from rfl]
    refine lv_iconst (v := Int32.ofInt 4) F.1 F.2.1 d_La_law_27 (by decide) ?_
    refine fi_isub F d_La_law_28 ?_
    refine fi_icmp_gt F d_La_law_29 (tgt := 528) (by decide) (rgl ⟨by omega, by omega⟩) (rgl ⟨by omega, by omega⟩) (fun hgt => ?_) (fun hgt => ?_)
    · refine lv_iconst (v := (1 : Int32)) F.1 F.2.1 d_La_law_528 (by decide) ?_
      refine va_forget w.1.2.2.2.1.2.2 ?_
      refine W.widen (k := 601024) (n := 7293034) (by omega) (by omega) ?_
      exact lw_ret F.1 F.2.1 hr hlk d_La_law_529
    · have hi4 : i + 4 ≤ L := by omega
      obtain ⟨a1, ha1, hx1⟩ : ∃ z : Int, rg z ∧ xs (i + 1) = Int32.ofInt z := ⟨(xs (i + 1)).toInt, ⟨Int32.le_toInt _, Int32.toInt_le _⟩, (Int32.ofInt_toInt _).symm⟩
      obtain ⟨a2, ha2, hx2⟩ : ∃ z : Int, rg z ∧ xs (i + 2) = Int32.ofInt z := ⟨(xs (i + 2)).toInt, ⟨Int32.le_toInt _, Int32.toInt_le _⟩, (Int32.ofInt_toInt _).symm⟩
      obtain ⟨a3, ha3, hx3⟩ : ∃ z : Int, rg z ∧ xs (i + 3) = Int32.ofInt z := ⟨(xs (i + 3)).toInt, ⟨Int32.le_toInt _, Int32.toInt_le _⟩, (Int32.ofInt_toInt _).symm⟩
      obtain ⟨a0, hx0⟩ : ∃ z : Int, xs i = Int32.ofInt z := ⟨(xs i).toInt, (Int32.ofInt_toInt _).symm⟩
      have back : ∀ (M : fm_M) (H : Heap) (locs : List Loc) (ls : Array Slot) (cells slots : Nat), Inv M → fm_w D ad cA s.heap.size s M H locs → lv_has ls 8 [(4, .int (Int32.ofInt (i : Int))), (3, .ref (ad 362)), (2, .ref (ad 331)), (1, .ref (ad 0)), (0, .ref b)] → cells ≤ 364 + i → slots ≤ 8006 + 6 * i → W p l e room_1 s m #[Value.ref b] below meth c H locs cells slots (lw_Z below #[Value.ref b] s) (F0 m 522 ls []) := by
        intro M H locs ls cells slots hM w hl hc hs
        refine fi_iinc (k := 0) (v := ((i + 4 : Nat) : Int)) F d_La_law_522 hl rfl (by omega) (by decide) rfl (fun ls hl => ?_)
        refine lv_goto F.1 F.2.1 d_La_law_525 (tgt := 23) (by decide) ?_
        exact ih (i + 4) M H locs ls cells slots (by omega) (by omega) hM w hl (by omega) (by omega)
      obtain ⟨w0, w1, w2, w3, w4, w5, w6, w7, w8, w9, w10, w11, w12, w13, w14⟩ := hI M hM a1 a2 a3 ha1 ha2 ha3
      refine lv_aload_n F.1 F.2.1 d_La_law_32 rfl (lv_at hl 4 rfl) ?_
      refine lv_iload F.1 F.2.1 d_La_law_33 (lv_at hl 0 rfl) ?_
      refine law_ld (a := a0) F hX hbl (by omega) w ⟨by omega, by omega⟩ (by rw [show ((i : Int)).toNat = i by omega]; exact hx0) d_La_law_35 ?_
      rw [← hx0]
      refine lv_bipush (v := 15) F.1 F.2.1 d_La_law_36 (by decide) ?_
      refine lv_iand F.1 F.2.1 d_La_law_38 ?_
      obtain ⟨j, hj, ej⟩ := law_and (xs i)
      rw [ej]
      have hj16 : j = 0 ∨ j = 1 ∨ j = 2 ∨ j = 3 ∨ j = 4 ∨ j = 5 ∨ j = 6 ∨ j = 7 ∨ j = 8 ∨ j = 9 ∨ j = 10 ∨ j = 11 ∨ j = 12 ∨ j = 13 ∨ j = 14 ∨ j = 15 := by omega
      rcases hj16 with rfl | rfl | rfl | rfl | rfl | rfl | rfl | rfl | rfl | rfl | rfl | rfl | rfl | rfl | rfl | rfl
      · refine lv_tableIn (tgt := 112) (off := 73) F.1 F.2.1 d_La_law_39 (by decide) (by decide) (by decide) (by decide) ?_
        have hw := w0
        refine lv_aload_n F.1 F.2.1 d_La_law_112 rfl (lv_at hl 3 rfl) ?_
        refine lv_aload_n F.1 F.2.1 d_La_law_113 rfl (lv_at hl 4 rfl) ?_
        refine lv_iload F.1 F.2.1 d_La_law_114 (lv_at hl 0 rfl) ?_
        refine lv_iconst (v := Int32.ofInt 1) F.1 F.2.1 d_La_law_116 (by decide) ?_
        refine fi_iadd F d_La_law_117 ?_
        refine law_ld (a := a1) F hX hbl (by omega) w ⟨by omega, by omega⟩ (by rw [show ((i : Int) + 1).toNat = i + 1 by omega]; exact hx1) d_La_law_118 ?_
        refine fi_wi2l F d_La_law_119 ha1 ?_
        refine lv_bipush (v := Int32.ofInt 32) F.1 F.2.1 d_La_law_120 (by decide) ?_
        refine fi_lshl F d_La_law_122 ?_
        refine lv_aload_n F.1 F.2.1 d_La_law_123 rfl (lv_at hl 4 rfl) ?_
        refine lv_iload F.1 F.2.1 d_La_law_124 (lv_at hl 0 rfl) ?_
        refine lv_iconst (v := Int32.ofInt 2) F.1 F.2.1 d_La_law_126 (by decide) ?_
        refine fi_iadd F d_La_law_127 ?_
        refine law_ld (a := a2) F hX hbl (by omega) w ⟨by omega, by omega⟩ (by rw [show ((i : Int) + 2).toNat = i + 2 by omega]; exact hx2) d_La_law_128 ?_
        refine fi_wi2l F d_La_law_129 ha2 ?_
        refine lv_ldc2 (v := Int64.ofInt 4294967295) F.1 F.2.1 F.2.2.2.1 (F.2.2.2.2 _ k_1174) d_La_law_130 ?_
        refine fi_land F d_La_law_133 ?_
        refine fi_lor F d_La_law_134 ?_
        refine lv_aload_n F.1 F.2.1 d_La_law_135 rfl (lv_at hl 4 rfl) ?_
        refine lv_iload F.1 F.2.1 d_La_law_136 (lv_at hl 0 rfl) ?_
        refine lv_iconst (v := Int32.ofInt 3) F.1 F.2.1 d_La_law_138 (by decide) ?_
        refine fi_iadd F d_La_law_139 ?_
        refine law_ld (a := a3) F hX hbl (by omega) w ⟨by omega, by omega⟩ (by rw [show ((i : Int) + 3).toNat = i + 3 by omega]; exact hx3) d_La_law_140 ?_
        refine fx_cN w (fx_rV (As := [.long (Int64.ofInt (jlor (jlshl a1 32) (jland a2 4294967295))), .int (Int32.ofInt a3)]) (rest := []) F w cl_CG 0 T_0 (met_CG_type l hst9 D ad cA s.heap.size M (jlor (jlshl a1 32) (jland a2 4294967295)) a3 _ _ hw) e_CG_type ki_CG_type ks_CG_type k_349 rfl hl.1 rfl (Nat.le_of_ble_eq_true rfl) (law_rm (i := i) (Nat.le_of_ble_eq_true rfl) (Nat.le_of_ble_eq_true rfl) (Nat.le_of_ble_eq_true rfl) (Nat.le_of_ble_eq_true rfl) (by omega) (by omega) (by omega)) d_La_law_141) (fun r2 M1 hw H locs w => ?_)
        show W p l e _ s m _ below meth c H locs _ _ _ (F0 m 144 ls [.int (Int32.ofInt r2)])
        refine lv_pop F.1 F.2.1 d_La_law_144 rfl ?_
        refine lv_aload_n F.1 F.2.1 d_La_law_145 rfl (lv_at hl 2 rfl) ?_
        refine lv_aload_n F.1 F.2.1 d_La_law_146 rfl (lv_at hl 4 rfl) ?_
        refine lv_iload F.1 F.2.1 d_La_law_147 (lv_at hl 0 rfl) ?_
        refine lv_iconst (v := Int32.ofInt 1) F.1 F.2.1 d_La_law_149 (by decide) ?_
        refine fi_iadd F d_La_law_150 ?_
        refine law_ld (a := a1) F hX hbl (by omega) w ⟨by omega, by omega⟩ (by rw [show ((i : Int) + 1).toNat = i + 1 by omega]; exact hx1) d_La_law_151 ?_
        refine fi_wi2l F d_La_law_152 ha1 ?_
        refine lv_bipush (v := Int32.ofInt 32) F.1 F.2.1 d_La_law_153 (by decide) ?_
        refine fi_lshl F d_La_law_155 ?_
        refine lv_aload_n F.1 F.2.1 d_La_law_156 rfl (lv_at hl 4 rfl) ?_
        refine lv_iload F.1 F.2.1 d_La_law_157 (lv_at hl 0 rfl) ?_
        refine lv_iconst (v := Int32.ofInt 2) F.1 F.2.1 d_La_law_159 (by decide) ?_
        refine fi_iadd F d_La_law_160 ?_
        refine law_ld (a := a2) F hX hbl (by omega) w ⟨by omega, by omega⟩ (by rw [show ((i : Int) + 2).toNat = i + 2 by omega]; exact hx2) d_La_law_161 ?_
        refine fi_wi2l F d_La_law_162 ha2 ?_
        refine lv_ldc2 (v := Int64.ofInt 4294967295) F.1 F.2.1 F.2.2.2.1 (F.2.2.2.2 _ k_1174) d_La_law_163 ?_
        refine fi_land F d_La_law_166 ?_
        refine fi_lor F d_La_law_167 ?_
        refine lv_aload_n F.1 F.2.1 d_La_law_168 rfl (lv_at hl 4 rfl) ?_
        refine lv_iload F.1 F.2.1 d_La_law_169 (lv_at hl 0 rfl) ?_
        refine lv_iconst (v := Int32.ofInt 3) F.1 F.2.1 d_La_law_171 (by decide) ?_
        refine fi_iadd F d_La_law_172 ?_
        refine law_ld (a := a3) F hX hbl (by omega) w ⟨by omega, by omega⟩ (by rw [show ((i : Int) + 3).toNat = i + 3 by omega]; exact hx3) d_La_law_173 ?_
        refine fx_cN w (fx_rV (As := [.long (Int64.ofInt (jlor (jlshl a1 32) (jland a2 4294967295))), .int (Int32.ofInt a3)]) (rest := []) F w cl_Mo 331 T_331 (met_Mo_type l hst9 D ad cA s.heap.size M1 (jlor (jlshl a1 32) (jland a2 4294967295)) a3 _ _ hw) e_Mo_type ki_Mo_type ks_Mo_type k_942 rfl hl.1 rfl (Nat.le_of_ble_eq_true rfl) (law_rm (i := i) (Nat.le_of_ble_eq_true rfl) (Nat.le_of_ble_eq_true rfl) (Nat.le_of_ble_eq_true rfl) (Nat.le_of_ble_eq_true rfl) (by omega) (by omega) (by omega)) d_La_law_174) (fun r4 M3 hw H locs w => ?_)
        show W p l e _ s m _ below meth c H locs _ _ _ (F0 m 177 ls [.int (Int32.ofInt r4)])
        refine lv_pop F.1 F.2.1 d_La_law_177 rfl ?_
        refine lv_goto F.1 F.2.1 d_La_law_178 (tgt := 522) (by decide) ?_
        exact back _ _ _ _ _ _ hw w (lv_sub hl [0, 1, 2, 3, 4] rfl) (by omega) (by omega)
      · refine lv_tableIn (tgt := 181) (off := 142) F.1 F.2.1 d_La_law_39 (by decide) (by decide) (by decide) (by decide) ?_
        have hw := w1
        refine lv_aload_n F.1 F.2.1 d_La_law_181 rfl (lv_at hl 3 rfl) ?_
        refine fx_cN w (fx_rV (As := []) (rest := []) F w cl_CG 0 T_0 (met_CG_wipe l hst9 D ad cA s.heap.size M _ _ hw) e_CG_wipe ki_CG_wipe ks_CG_wipe k_363 rfl hl.1 rfl (Nat.le_of_ble_eq_true rfl) (law_rm (i := i) (Nat.le_of_ble_eq_true rfl) (Nat.le_of_ble_eq_true rfl) (Nat.le_of_ble_eq_true rfl) (Nat.le_of_ble_eq_true rfl) (by omega) (by omega) (by omega)) d_La_law_182) (fun r2 M1 hw H locs w => ?_)
        show W p l e _ s m _ below meth c H locs _ _ _ (F0 m 185 ls [.int (Int32.ofInt r2)])
        refine lv_pop F.1 F.2.1 d_La_law_185 rfl ?_
        refine lv_aload_n F.1 F.2.1 d_La_law_186 rfl (lv_at hl 2 rfl) ?_
        refine fx_cN w (fx_rV (As := []) (rest := []) F w cl_Mo 331 T_331 (met_Mo_wipe l hst9 D ad cA s.heap.size M1 _ _ hw) e_Mo_wipe ki_Mo_wipe ks_Mo_wipe k_952 rfl hl.1 rfl (Nat.le_of_ble_eq_true rfl) (law_rm (i := i) (Nat.le_of_ble_eq_true rfl) (Nat.le_of_ble_eq_true rfl) (Nat.le_of_ble_eq_true rfl) (Nat.le_of_ble_eq_true rfl) (by omega) (by omega) (by omega)) d_La_law_187) (fun r4 M3 hw H locs w => ?_)
        show W p l e _ s m _ below meth c H locs _ _ _ (F0 m 190 ls [.int (Int32.ofInt r4)])
        refine lv_pop F.1 F.2.1 d_La_law_190 rfl ?_
        refine lv_goto F.1 F.2.1 d_La_law_191 (tgt := 522) (by decide) ?_
        exact back _ _ _ _ _ _ hw w (lv_sub hl [0, 1, 2, 3, 4] rfl) (by omega) (by omega)
      · refine lv_tableIn (tgt := 194) (off := 155) F.1 F.2.1 d_La_law_39 (by decide) (by decide) (by decide) (by decide) ?_
        have hw := w2
        refine lv_aload_n F.1 F.2.1 d_La_law_194 rfl (lv_at hl 3 rfl) ?_
        refine lv_aload_n F.1 F.2.1 d_La_law_195 rfl (lv_at hl 1 rfl) ?_
        refine fx_cC w (fx_rSW (n := 2) (As := [.ref (ad 0), .ref (ad 362)]) (rest := []) F w hnc (hm_read l hst9 D ad cA s.heap.size M _ hw) ew_La_read kn_La ⟨by decide, by decide⟩ (by decide +kernel) kt_La_read k_426 rfl hl.1 rfl (Nat.le_of_ble_eq_true rfl) (law_rm (i := i) (Nat.le_of_ble_eq_true rfl) (Nat.le_of_ble_eq_true rfl) (Nat.le_of_ble_eq_true rfl) (Nat.le_of_ble_eq_true rfl) (by omega) (by omega) (by omega)) d_La_law_196) (fun r2 M1 hw H locs w => ?_)
        show W p l e _ s m _ below meth c H locs _ _ _ (F0 m 199 ls [.int (Int32.ofInt r2)])
        refine lv_istore F.1 F.2.1 d_La_law_199 hl (by decide) rfl (fun ls hl => ?_)
        have hl : lv_has ls 8 [(5, .int (Int32.ofInt r2)), (4, .int (Int32.ofInt (i : Int))), (3, .ref (ad 362)), (2, .ref (ad 331)), (1, .ref (ad 0)), (0, .ref b)] := hl
        refine lv_aload_n F.1 F.2.1 d_La_law_201 rfl (lv_at hl 3 rfl) ?_
        refine fx_cN w (fx_rV (As := []) (rest := []) F w cl_Mo 331 T_331 (met_Mo_read l hst9 D ad cA s.heap.size M1 _ _ hw) e_Mo_read ki_Mo_read ks_Mo_read k_956 rfl hl.1 rfl (Nat.le_of_ble_eq_true rfl) (law_rm (i := i) (Nat.le_of_ble_eq_true rfl) (Nat.le_of_ble_eq_true rfl) (Nat.le_of_ble_eq_true rfl) (Nat.le_of_ble_eq_true rfl) (by omega) (by omega) (by omega)) d_La_law_202) (fun r4 M3 hw H locs w => ?_)
        show W p l e _ s m _ below meth c H locs _ _ _ (F0 m 205 ls [.int (Int32.ofInt r4)])
        refine lv_istore F.1 F.2.1 d_La_law_205 hl (by decide) rfl (fun ls hl => ?_)
        have hl : lv_has ls 8 [(6, .int (Int32.ofInt r4)), (5, .int (Int32.ofInt r2)), (4, .int (Int32.ofInt (i : Int))), (3, .ref (ad 362)), (2, .ref (ad 331)), (1, .ref (ad 0)), (0, .ref b)] := hl
        refine lv_goto F.1 F.2.1 d_La_law_207 (tgt := 522) (by decide) ?_
        exact back _ _ _ _ _ _ hw w (lv_sub hl [2, 3, 4, 5, 6] rfl) (by omega) (by omega)
      · refine lv_tableIn (tgt := 210) (off := 171) F.1 F.2.1 d_La_law_39 (by decide) (by decide) (by decide) (by decide) ?_
        have hw := w3
        refine lv_aload_n F.1 F.2.1 d_La_law_210 rfl (lv_at hl 3 rfl) ?_
        refine fx_cN w (fx_rV (As := []) (rest := []) F w cl_CG 0 T_0 (met_CG_place l hst9 D ad cA s.heap.size M _ _ hw) e_CG_place ki_CG_place ks_CG_place k_371 rfl hl.1 rfl (Nat.le_of_ble_eq_true rfl) (law_rm (i := i) (Nat.le_of_ble_eq_true rfl) (Nat.le_of_ble_eq_true rfl) (Nat.le_of_ble_eq_true rfl) (Nat.le_of_ble_eq_true rfl) (by omega) (by omega) (by omega)) d_La_law_211) (fun r2 M1 hw H locs w => ?_)
        show W p l e _ s m _ below meth c H locs _ _ _ (F0 m 214 ls [.int (Int32.ofInt r2)])
        refine lv_pop F.1 F.2.1 d_La_law_214 rfl ?_
        refine lv_aload_n F.1 F.2.1 d_La_law_215 rfl (lv_at hl 2 rfl) ?_
        refine fx_cN w (fx_rV (As := []) (rest := []) F w cl_Mo 331 T_331 (met_Mo_place l hst9 D ad cA s.heap.size M1 _ _ hw) e_Mo_place ki_Mo_place ks_Mo_place k_1031 rfl hl.1 rfl (Nat.le_of_ble_eq_true rfl) (law_rm (i := i) (Nat.le_of_ble_eq_true rfl) (Nat.le_of_ble_eq_true rfl) (Nat.le_of_ble_eq_true rfl) (Nat.le_of_ble_eq_true rfl) (by omega) (by omega) (by omega)) d_La_law_216) (fun r4 M3 hw H locs w => ?_)
        show W p l e _ s m _ below meth c H locs _ _ _ (F0 m 219 ls [.int (Int32.ofInt r4)])
        refine lv_pop F.1 F.2.1 d_La_law_219 rfl ?_
        refine lv_goto F.1 F.2.1 d_La_law_220 (tgt := 522) (by decide) ?_
        exact back _ _ _ _ _ _ hw w (lv_sub hl [0, 1, 2, 3, 4] rfl) (by omega) (by omega)
      · refine lv_tableIn (tgt := 223) (off := 184) F.1 F.2.1 d_La_law_39 (by decide) (by decide) (by decide) (by decide) ?_
        have hw := w4
        refine lv_aload_n F.1 F.2.1 d_La_law_223 rfl (lv_at hl 3 rfl) ?_
        refine lv_aload_n F.1 F.2.1 d_La_law_224 rfl (lv_at hl 1 rfl) ?_
        refine fx_cC w (fx_rSW (n := 2) (As := [.ref (ad 0), .ref (ad 362)]) (rest := []) F w hnc (hm_solve l hst9 D ad cA s.heap.size M _ hw) ew_La_solve kn_La ⟨by decide, by decide⟩ (by decide +kernel) kt_La_solve k_589 rfl hl.1 rfl (Nat.le_of_ble_eq_true rfl) (law_rm (i := i) (Nat.le_of_ble_eq_true rfl) (Nat.le_of_ble_eq_true rfl) (Nat.le_of_ble_eq_true rfl) (Nat.le_of_ble_eq_true rfl) (by omega) (by omega) (by omega)) d_La_law_225) (fun r2 M1 hw H locs w => ?_)
        show W p l e _ s m _ below meth c H locs _ _ _ (F0 m 228 ls [.int (Int32.ofInt r2)])
        refine lv_istore F.1 F.2.1 d_La_law_228 hl (by decide) rfl (fun ls hl => ?_)
        have hl : lv_has ls 8 [(5, .int (Int32.ofInt r2)), (4, .int (Int32.ofInt (i : Int))), (3, .ref (ad 362)), (2, .ref (ad 331)), (1, .ref (ad 0)), (0, .ref b)] := hl
        refine lv_aload_n F.1 F.2.1 d_La_law_230 rfl (lv_at hl 3 rfl) ?_
        refine fx_cN w (fx_rV (As := []) (rest := []) F w cl_Mo 331 T_331 (met_Mo_solve l hst9 D ad cA s.heap.size M1 _ _ hw) e_Mo_solve ki_Mo_solve ks_Mo_solve k_1035 rfl hl.1 rfl (Nat.le_of_ble_eq_true rfl) (law_rm (i := i) (Nat.le_of_ble_eq_true rfl) (Nat.le_of_ble_eq_true rfl) (Nat.le_of_ble_eq_true rfl) (Nat.le_of_ble_eq_true rfl) (by omega) (by omega) (by omega)) d_La_law_231) (fun r4 M3 hw H locs w => ?_)
        show W p l e _ s m _ below meth c H locs _ _ _ (F0 m 234 ls [.int (Int32.ofInt r4)])
        refine lv_istore F.1 F.2.1 d_La_law_234 hl (by decide) rfl (fun ls hl => ?_)
        have hl : lv_has ls 8 [(6, .int (Int32.ofInt r4)), (5, .int (Int32.ofInt r2)), (4, .int (Int32.ofInt (i : Int))), (3, .ref (ad 362)), (2, .ref (ad 331)), (1, .ref (ad 0)), (0, .ref b)] := hl
        refine lv_goto F.1 F.2.1 d_La_law_236 (tgt := 522) (by decide) ?_
        exact back _ _ _ _ _ _ hw w (lv_sub hl [2, 3, 4, 5, 6] rfl) (by omega) (by omega)
      · refine lv_tableIn (tgt := 239) (off := 200) F.1 F.2.1 d_La_law_39 (by decide) (by decide) (by decide) (by decide) ?_
        have hw := w5
        refine lv_aload_n F.1 F.2.1 d_La_law_239 rfl (lv_at hl 3 rfl) ?_
        refine fx_cN w (fx_rV (As := []) (rest := []) F w cl_CG 0 T_0 (met_CG_states l hst9 D ad cA s.heap.size M _ _ hw) e_CG_states ki_CG_states ks_CG_states k_375 rfl hl.1 rfl (Nat.le_of_ble_eq_true rfl) (law_rm (i := i) (Nat.le_of_ble_eq_true rfl) (Nat.le_of_ble_eq_true rfl) (Nat.le_of_ble_eq_true rfl) (Nat.le_of_ble_eq_true rfl) (by omega) (by omega) (by omega)) d_La_law_240) (fun r2 M1 hw H locs w => ?_)
        show W p l e _ s m _ below meth c H locs _ _ _ (F0 m 243 ls [.int (Int32.ofInt r2)])
        refine lv_pop F.1 F.2.1 d_La_law_243 rfl ?_
        refine lv_aload_n F.1 F.2.1 d_La_law_244 rfl (lv_at hl 2 rfl) ?_
        refine fx_cN w (fx_rV (As := []) (rest := []) F w cl_Mo 331 T_331 (met_Mo_states l hst9 D ad cA s.heap.size M1 _ _ hw) e_Mo_states ki_Mo_states ks_Mo_states k_1126 rfl hl.1 rfl (Nat.le_of_ble_eq_true rfl) (law_rm (i := i) (Nat.le_of_ble_eq_true rfl) (Nat.le_of_ble_eq_true rfl) (Nat.le_of_ble_eq_true rfl) (Nat.le_of_ble_eq_true rfl) (by omega) (by omega) (by omega)) d_La_law_245) (fun r4 M3 hw H locs w => ?_)
        show W p l e _ s m _ below meth c H locs _ _ _ (F0 m 248 ls [.int (Int32.ofInt r4)])
        refine lv_pop F.1 F.2.1 d_La_law_248 rfl ?_
        refine lv_goto F.1 F.2.1 d_La_law_249 (tgt := 522) (by decide) ?_
        exact back _ _ _ _ _ _ hw w (lv_sub hl [0, 1, 2, 3, 4] rfl) (by omega) (by omega)
      · refine lv_tableIn (tgt := 252) (off := 213) F.1 F.2.1 d_La_law_39 (by decide) (by decide) (by decide) (by decide) ?_
        have hw := w6
        refine lv_aload_n F.1 F.2.1 d_La_law_252 rfl (lv_at hl 3 rfl) ?_
        refine fx_cN w (fx_rV (As := []) (rest := []) F w cl_CG 0 T_0 (met_CG_mixed l hst9 D ad cA s.heap.size M _ _ hw) e_CG_mixed ki_CG_mixed ks_CG_mixed k_379 rfl hl.1 rfl (Nat.le_of_ble_eq_true rfl) (law_rm (i := i) (Nat.le_of_ble_eq_true rfl) (Nat.le_of_ble_eq_true rfl) (Nat.le_of_ble_eq_true rfl) (Nat.le_of_ble_eq_true rfl) (by omega) (by omega) (by omega)) d_La_law_253) (fun r2 M1 hw H locs w => ?_)
        show W p l e _ s m _ below meth c H locs _ _ _ (F0 m 256 ls [.int (Int32.ofInt r2)])
        refine lv_pop F.1 F.2.1 d_La_law_256 rfl ?_
        refine lv_aload_n F.1 F.2.1 d_La_law_257 rfl (lv_at hl 2 rfl) ?_
        refine fx_cN w (fx_rV (As := []) (rest := []) F w cl_Mo 331 T_331 (met_Mo_mixed l hst9 D ad cA s.heap.size M1 _ _ hw) e_Mo_mixed ki_Mo_mixed ks_Mo_mixed k_1130 rfl hl.1 rfl (Nat.le_of_ble_eq_true rfl) (law_rm (i := i) (Nat.le_of_ble_eq_true rfl) (Nat.le_of_ble_eq_true rfl) (Nat.le_of_ble_eq_true rfl) (Nat.le_of_ble_eq_true rfl) (by omega) (by omega) (by omega)) d_La_law_258) (fun r4 M3 hw H locs w => ?_)
        show W p l e _ s m _ below meth c H locs _ _ _ (F0 m 261 ls [.int (Int32.ofInt r4)])
        refine lv_pop F.1 F.2.1 d_La_law_261 rfl ?_
        refine lv_goto F.1 F.2.1 d_La_law_262 (tgt := 522) (by decide) ?_
        exact back _ _ _ _ _ _ hw w (lv_sub hl [0, 1, 2, 3, 4] rfl) (by omega) (by omega)
      · refine lv_tableIn (tgt := 265) (off := 226) F.1 F.2.1 d_La_law_39 (by decide) (by decide) (by decide) (by decide) ?_
        have hw := w7
        refine lv_aload_n F.1 F.2.1 d_La_law_265 rfl (lv_at hl 3 rfl) ?_
        refine lv_aload_n F.1 F.2.1 d_La_law_266 rfl (lv_at hl 4 rfl) ?_
        refine lv_iload F.1 F.2.1 d_La_law_267 (lv_at hl 0 rfl) ?_
        refine lv_iconst (v := Int32.ofInt 1) F.1 F.2.1 d_La_law_269 (by decide) ?_
        refine fi_iadd F d_La_law_270 ?_
        refine law_ld (a := a1) F hX hbl (by omega) w ⟨by omega, by omega⟩ (by rw [show ((i : Int) + 1).toNat = i + 1 by omega]; exact hx1) d_La_law_271 ?_
        refine lv_aload_n F.1 F.2.1 d_La_law_272 rfl (lv_at hl 4 rfl) ?_
        refine lv_iload F.1 F.2.1 d_La_law_273 (lv_at hl 0 rfl) ?_
        refine lv_iconst (v := Int32.ofInt 2) F.1 F.2.1 d_La_law_275 (by decide) ?_
        refine fi_iadd F d_La_law_276 ?_
        refine law_ld (a := a2) F hX hbl (by omega) w ⟨by omega, by omega⟩ (by rw [show ((i : Int) + 2).toNat = i + 2 by omega]; exact hx2) d_La_law_277 ?_
        refine fx_cN w (fx_rV (As := [.int (Int32.ofInt a1), .int (Int32.ofInt a2)]) (rest := []) F w cl_CG 0 T_0 (met_CG_variable l hst9 D ad cA s.heap.size M a1 a2 _ _ hw) e_CG_variable ki_CG_variable ks_CG_variable k_383 rfl hl.1 rfl (Nat.le_of_ble_eq_true rfl) (law_rm (i := i) (Nat.le_of_ble_eq_true rfl) (Nat.le_of_ble_eq_true rfl) (Nat.le_of_ble_eq_true rfl) (Nat.le_of_ble_eq_true rfl) (by omega) (by omega) (by omega)) d_La_law_278) (fun r2 M1 hw H locs w => ?_)
        show W p l e _ s m _ below meth c H locs _ _ _ (F0 m 281 ls [.int (Int32.ofInt r2)])
        refine lv_pop F.1 F.2.1 d_La_law_281 rfl ?_
        refine lv_aload_n F.1 F.2.1 d_La_law_282 rfl (lv_at hl 2 rfl) ?_
        refine lv_aload_n F.1 F.2.1 d_La_law_283 rfl (lv_at hl 4 rfl) ?_
        refine lv_iload F.1 F.2.1 d_La_law_284 (lv_at hl 0 rfl) ?_
        refine lv_iconst (v := Int32.ofInt 1) F.1 F.2.1 d_La_law_286 (by decide) ?_
        refine fi_iadd F d_La_law_287 ?_
        refine law_ld (a := a1) F hX hbl (by omega) w ⟨by omega, by omega⟩ (by rw [show ((i : Int) + 1).toNat = i + 1 by omega]; exact hx1) d_La_law_288 ?_
        refine lv_aload_n F.1 F.2.1 d_La_law_289 rfl (lv_at hl 4 rfl) ?_
        refine lv_iload F.1 F.2.1 d_La_law_290 (lv_at hl 0 rfl) ?_
        refine lv_iconst (v := Int32.ofInt 2) F.1 F.2.1 d_La_law_292 (by decide) ?_
        refine fi_iadd F d_La_law_293 ?_
        refine law_ld (a := a2) F hX hbl (by omega) w ⟨by omega, by omega⟩ (by rw [show ((i : Int) + 2).toNat = i + 2 by omega]; exact hx2) d_La_law_294 ?_
        refine fx_cN w (fx_rV (As := [.int (Int32.ofInt a1), .int (Int32.ofInt a2)]) (rest := []) F w cl_Mo 331 T_331 (met_Mo_variable l hst9 D ad cA s.heap.size M1 a1 a2 _ _ hw) e_Mo_variable ki_Mo_variable ks_Mo_variable k_1134 rfl hl.1 rfl (Nat.le_of_ble_eq_true rfl) (law_rm (i := i) (Nat.le_of_ble_eq_true rfl) (Nat.le_of_ble_eq_true rfl) (Nat.le_of_ble_eq_true rfl) (Nat.le_of_ble_eq_true rfl) (by omega) (by omega) (by omega)) d_La_law_295) (fun r4 M3 hw H locs w => ?_)
        show W p l e _ s m _ below meth c H locs _ _ _ (F0 m 298 ls [.int (Int32.ofInt r4)])
        refine lv_pop F.1 F.2.1 d_La_law_298 rfl ?_
        refine lv_goto F.1 F.2.1 d_La_law_299 (tgt := 522) (by decide) ?_
        exact back _ _ _ _ _ _ hw w (lv_sub hl [0, 1, 2, 3, 4] rfl) (by omega) (by omega)
      · refine lv_tableIn (tgt := 302) (off := 263) F.1 F.2.1 d_La_law_39 (by decide) (by decide) (by decide) (by decide) ?_
        have hw := w8
        refine lv_aload_n F.1 F.2.1 d_La_law_302 rfl (lv_at hl 3 rfl) ?_
        refine lv_aload_n F.1 F.2.1 d_La_law_303 rfl (lv_at hl 4 rfl) ?_
        refine lv_iload F.1 F.2.1 d_La_law_304 (lv_at hl 0 rfl) ?_
        refine lv_iconst (v := Int32.ofInt 1) F.1 F.2.1 d_La_law_306 (by decide) ?_
        refine fi_iadd F d_La_law_307 ?_
        refine law_ld (a := a1) F hX hbl (by omega) w ⟨by omega, by omega⟩ (by rw [show ((i : Int) + 1).toNat = i + 1 by omega]; exact hx1) d_La_law_308 ?_
        refine fx_cN w (fx_rV (As := [.int (Int32.ofInt a1)]) (rest := []) F w cl_CG 0 T_0 (met_CG_target l hst9 D ad cA s.heap.size M a1 _ _ hw) e_CG_target ki_CG_target ks_CG_target k_395 rfl hl.1 rfl (Nat.le_of_ble_eq_true rfl) (law_rm (i := i) (Nat.le_of_ble_eq_true rfl) (Nat.le_of_ble_eq_true rfl) (Nat.le_of_ble_eq_true rfl) (Nat.le_of_ble_eq_true rfl) (by omega) (by omega) (by omega)) d_La_law_309) (fun r2 M1 hw H locs w => ?_)
        show W p l e _ s m _ below meth c H locs _ _ _ (F0 m 312 ls [.int (Int32.ofInt r2)])
        refine lv_pop F.1 F.2.1 d_La_law_312 rfl ?_
        refine lv_aload_n F.1 F.2.1 d_La_law_313 rfl (lv_at hl 2 rfl) ?_
        refine lv_aload_n F.1 F.2.1 d_La_law_314 rfl (lv_at hl 4 rfl) ?_
        refine lv_iload F.1 F.2.1 d_La_law_315 (lv_at hl 0 rfl) ?_
        refine lv_iconst (v := Int32.ofInt 1) F.1 F.2.1 d_La_law_317 (by decide) ?_
        refine fi_iadd F d_La_law_318 ?_
        refine law_ld (a := a1) F hX hbl (by omega) w ⟨by omega, by omega⟩ (by rw [show ((i : Int) + 1).toNat = i + 1 by omega]; exact hx1) d_La_law_319 ?_
        refine fx_cN w (fx_rV (As := [.int (Int32.ofInt a1)]) (rest := []) F w cl_Mo 331 T_331 (met_Mo_target l hst9 D ad cA s.heap.size M1 a1 _ _ hw) e_Mo_target ki_Mo_target ks_Mo_target k_1142 rfl hl.1 rfl (Nat.le_of_ble_eq_true rfl) (law_rm (i := i) (Nat.le_of_ble_eq_true rfl) (Nat.le_of_ble_eq_true rfl) (Nat.le_of_ble_eq_true rfl) (Nat.le_of_ble_eq_true rfl) (by omega) (by omega) (by omega)) d_La_law_320) (fun r4 M3 hw H locs w => ?_)
        show W p l e _ s m _ below meth c H locs _ _ _ (F0 m 323 ls [.int (Int32.ofInt r4)])
        refine lv_pop F.1 F.2.1 d_La_law_323 rfl ?_
        refine lv_goto F.1 F.2.1 d_La_law_324 (tgt := 522) (by decide) ?_
        exact back _ _ _ _ _ _ hw w (lv_sub hl [0, 1, 2, 3, 4] rfl) (by omega) (by omega)
      · refine lv_tableIn (tgt := 327) (off := 288) F.1 F.2.1 d_La_law_39 (by decide) (by decide) (by decide) (by decide) ?_
        have hw := w9
        refine lv_aload_n F.1 F.2.1 d_La_law_327 rfl (lv_at hl 3 rfl) ?_
        refine lv_aload_n F.1 F.2.1 d_La_law_328 rfl (lv_at hl 4 rfl) ?_
        refine lv_iload F.1 F.2.1 d_La_law_329 (lv_at hl 0 rfl) ?_
        refine lv_iconst (v := Int32.ofInt 1) F.1 F.2.1 d_La_law_331 (by decide) ?_
        refine fi_iadd F d_La_law_332 ?_
        refine law_ld (a := a1) F hX hbl (by omega) w ⟨by omega, by omega⟩ (by rw [show ((i : Int) + 1).toNat = i + 1 by omega]; exact hx1) d_La_law_333 ?_
        refine fx_cN w (fx_rV (As := [.int (Int32.ofInt a1)]) (rest := []) F w cl_CG 0 T_0 (met_CG_owner l hst9 D ad cA s.heap.size M a1 _ _ hw) e_CG_owner ki_CG_owner ks_CG_owner k_402 rfl hl.1 rfl (Nat.le_of_ble_eq_true rfl) (law_rm (i := i) (Nat.le_of_ble_eq_true rfl) (Nat.le_of_ble_eq_true rfl) (Nat.le_of_ble_eq_true rfl) (Nat.le_of_ble_eq_true rfl) (by omega) (by omega) (by omega)) d_La_law_334) (fun r2 M1 hw H locs w => ?_)
        show W p l e _ s m _ below meth c H locs _ _ _ (F0 m 337 ls [.int (Int32.ofInt r2)])
        refine lv_pop F.1 F.2.1 d_La_law_337 rfl ?_
        refine lv_aload_n F.1 F.2.1 d_La_law_338 rfl (lv_at hl 2 rfl) ?_
        refine lv_aload_n F.1 F.2.1 d_La_law_339 rfl (lv_at hl 4 rfl) ?_
        refine lv_iload F.1 F.2.1 d_La_law_340 (lv_at hl 0 rfl) ?_
        refine lv_iconst (v := Int32.ofInt 1) F.1 F.2.1 d_La_law_342 (by decide) ?_
        refine fi_iadd F d_La_law_343 ?_
        refine law_ld (a := a1) F hX hbl (by omega) w ⟨by omega, by omega⟩ (by rw [show ((i : Int) + 1).toNat = i + 1 by omega]; exact hx1) d_La_law_344 ?_
        refine fx_cN w (fx_rV (As := [.int (Int32.ofInt a1)]) (rest := []) F w cl_Mo 331 T_331 (met_Mo_owner l hst9 D ad cA s.heap.size M1 a1 _ _ hw) e_Mo_owner ki_Mo_owner ks_Mo_owner k_1146 rfl hl.1 rfl (Nat.le_of_ble_eq_true rfl) (law_rm (i := i) (Nat.le_of_ble_eq_true rfl) (Nat.le_of_ble_eq_true rfl) (Nat.le_of_ble_eq_true rfl) (Nat.le_of_ble_eq_true rfl) (by omega) (by omega) (by omega)) d_La_law_345) (fun r4 M3 hw H locs w => ?_)
        show W p l e _ s m _ below meth c H locs _ _ _ (F0 m 348 ls [.int (Int32.ofInt r4)])
        refine lv_pop F.1 F.2.1 d_La_law_348 rfl ?_
        refine lv_goto F.1 F.2.1 d_La_law_349 (tgt := 522) (by decide) ?_
        exact back _ _ _ _ _ _ hw w (lv_sub hl [0, 1, 2, 3, 4] rfl) (by omega) (by omega)
      · refine lv_tableIn (tgt := 352) (off := 313) F.1 F.2.1 d_La_law_39 (by decide) (by decide) (by decide) (by decide) ?_
        have hw := w10
        refine lv_aload_n F.1 F.2.1 d_La_law_352 rfl (lv_at hl 3 rfl) ?_
        refine lv_aload_n F.1 F.2.1 d_La_law_353 rfl (lv_at hl 4 rfl) ?_
        refine lv_iload F.1 F.2.1 d_La_law_354 (lv_at hl 0 rfl) ?_
        refine lv_iconst (v := Int32.ofInt 1) F.1 F.2.1 d_La_law_356 (by decide) ?_
        refine fi_iadd F d_La_law_357 ?_
        refine law_ld (a := a1) F hX hbl (by omega) w ⟨by omega, by omega⟩ (by rw [show ((i : Int) + 1).toNat = i + 1 by omega]; exact hx1) d_La_law_358 ?_
        refine lv_aload_n F.1 F.2.1 d_La_law_359 rfl (lv_at hl 4 rfl) ?_
        refine lv_iload F.1 F.2.1 d_La_law_360 (lv_at hl 0 rfl) ?_
        refine lv_iconst (v := Int32.ofInt 2) F.1 F.2.1 d_La_law_362 (by decide) ?_
        refine fi_iadd F d_La_law_363 ?_
        refine law_ld (a := a2) F hX hbl (by omega) w ⟨by omega, by omega⟩ (by rw [show ((i : Int) + 2).toNat = i + 2 by omega]; exact hx2) d_La_law_364 ?_
        refine fx_cN w (fx_rV (As := [.int (Int32.ofInt a1), .int (Int32.ofInt a2)]) (rest := []) F w cl_CG 0 T_0 (met_CG_choice l hst9 D ad cA s.heap.size M a1 a2 _ _ hw) e_CG_choice ki_CG_choice ks_CG_choice k_414 rfl hl.1 rfl (Nat.le_of_ble_eq_true rfl) (law_rm (i := i) (Nat.le_of_ble_eq_true rfl) (Nat.le_of_ble_eq_true rfl) (Nat.le_of_ble_eq_true rfl) (Nat.le_of_ble_eq_true rfl) (by omega) (by omega) (by omega)) d_La_law_365) (fun r2 M1 hw H locs w => ?_)
        show W p l e _ s m _ below meth c H locs _ _ _ (F0 m 368 ls [.int (Int32.ofInt r2)])
        refine lv_aload_n F.1 F.2.1 d_La_law_368 rfl (lv_at hl 2 rfl) ?_
        refine lv_aload_n F.1 F.2.1 d_La_law_369 rfl (lv_at hl 4 rfl) ?_
        refine lv_iload F.1 F.2.1 d_La_law_370 (lv_at hl 0 rfl) ?_
        refine lv_iconst (v := Int32.ofInt 1) F.1 F.2.1 d_La_law_372 (by decide) ?_
        refine fi_iadd F d_La_law_373 ?_
        refine law_ld (a := a1) F hX hbl (by omega) w ⟨by omega, by omega⟩ (by rw [show ((i : Int) + 1).toNat = i + 1 by omega]; exact hx1) d_La_law_374 ?_
        refine lv_aload_n F.1 F.2.1 d_La_law_375 rfl (lv_at hl 4 rfl) ?_
        refine lv_iload F.1 F.2.1 d_La_law_376 (lv_at hl 0 rfl) ?_
        refine lv_iconst (v := Int32.ofInt 2) F.1 F.2.1 d_La_law_378 (by decide) ?_
        refine fi_iadd F d_La_law_379 ?_
        refine law_ld (a := a2) F hX hbl (by omega) w ⟨by omega, by omega⟩ (by rw [show ((i : Int) + 2).toNat = i + 2 by omega]; exact hx2) d_La_law_380 ?_
        refine fx_cN w (fx_rV (As := [.int (Int32.ofInt a1), .int (Int32.ofInt a2)]) (rest := [.int (Int32.ofInt r2)]) F w cl_Mo 331 T_331 (met_Mo_choice l hst9 D ad cA s.heap.size M1 a1 a2 _ _ hw) e_Mo_choice ki_Mo_choice ks_Mo_choice k_1150 rfl hl.1 rfl (Nat.le_of_ble_eq_true rfl) (law_rm (i := i) (Nat.le_of_ble_eq_true rfl) (Nat.le_of_ble_eq_true rfl) (Nat.le_of_ble_eq_true rfl) (Nat.le_of_ble_eq_true rfl) (by omega) (by omega) (by omega)) d_La_law_381) (fun r4 M3 hw H locs w => ?_)
        show W p l e _ s m _ below meth c H locs _ _ _ (F0 m 384 ls [.int (Int32.ofInt r4), .int (Int32.ofInt r2)])
        obtain ⟨h5, hw⟩ := hw
        obtain ⟨h6, hw⟩ := hw
        refine fi_icmp_eq F d_La_law_384 (tgt := 522) (by decide) h5 h6 (fun hc7 => ?_) (fun hc7 => ?_)
        · have hw := hw.1 hc7
          exact back _ _ _ _ _ _ hw w (lv_sub hl [0, 1, 2, 3, 4] rfl) (by omega) (by omega)
        · have hw := hw.2 hc7
          refine lv_iconst (v := Int32.ofInt 0) F.1 F.2.1 d_La_law_387 (by decide) ?_
          exact absurd hw (fun h => h)
      · refine lv_tableIn (tgt := 389) (off := 350) F.1 F.2.1 d_La_law_39 (by decide) (by decide) (by decide) (by decide) ?_
        have hw := w11
        refine lv_aload_n F.1 F.2.1 d_La_law_389 rfl (lv_at hl 3 rfl) ?_
        refine lv_aload_n F.1 F.2.1 d_La_law_390 rfl (lv_at hl 4 rfl) ?_
        refine lv_iload F.1 F.2.1 d_La_law_391 (lv_at hl 0 rfl) ?_
        refine lv_iconst (v := Int32.ofInt 1) F.1 F.2.1 d_La_law_393 (by decide) ?_
        refine fi_iadd F d_La_law_394 ?_
        refine law_ld (a := a1) F hX hbl (by omega) w ⟨by omega, by omega⟩ (by rw [show ((i : Int) + 1).toNat = i + 1 by omega]; exact hx1) d_La_law_395 ?_
        refine lv_aload_n F.1 F.2.1 d_La_law_396 rfl (lv_at hl 4 rfl) ?_
        refine lv_iload F.1 F.2.1 d_La_law_397 (lv_at hl 0 rfl) ?_
        refine lv_iconst (v := Int32.ofInt 2) F.1 F.2.1 d_La_law_399 (by decide) ?_
        refine fi_iadd F d_La_law_400 ?_
        refine law_ld (a := a2) F hX hbl (by omega) w ⟨by omega, by omega⟩ (by rw [show ((i : Int) + 2).toNat = i + 2 by omega]; exact hx2) d_La_law_401 ?_
        refine lv_aload_n F.1 F.2.1 d_La_law_402 rfl (lv_at hl 4 rfl) ?_
        refine lv_iload F.1 F.2.1 d_La_law_403 (lv_at hl 0 rfl) ?_
        refine lv_iconst (v := Int32.ofInt 3) F.1 F.2.1 d_La_law_405 (by decide) ?_
        refine fi_iadd F d_La_law_406 ?_
        refine law_ld (a := a3) F hX hbl (by omega) w ⟨by omega, by omega⟩ (by rw [show ((i : Int) + 3).toNat = i + 3 by omega]; exact hx3) d_La_law_407 ?_
        refine fx_cN w (fx_rV (As := [.int (Int32.ofInt a1), .int (Int32.ofInt a2), .int (Int32.ofInt a3)]) (rest := []) F w cl_CG 0 T_0 (met_CG_branch l hst9 D ad cA s.heap.size M a1 a2 a3 _ _ hw) e_CG_branch ki_CG_branch ks_CG_branch k_418 rfl hl.1 rfl (Nat.le_of_ble_eq_true rfl) (law_rm (i := i) (Nat.le_of_ble_eq_true rfl) (Nat.le_of_ble_eq_true rfl) (Nat.le_of_ble_eq_true rfl) (Nat.le_of_ble_eq_true rfl) (by omega) (by omega) (by omega)) d_La_law_408) (fun r2 M1 hw H locs w => ?_)
        show W p l e _ s m _ below meth c H locs _ _ _ (F0 m 411 ls [.int (Int32.ofInt r2)])
        refine lv_pop F.1 F.2.1 d_La_law_411 rfl ?_
        refine lv_aload_n F.1 F.2.1 d_La_law_412 rfl (lv_at hl 2 rfl) ?_
        refine lv_aload_n F.1 F.2.1 d_La_law_413 rfl (lv_at hl 4 rfl) ?_
        refine lv_iload F.1 F.2.1 d_La_law_414 (lv_at hl 0 rfl) ?_
        refine lv_iconst (v := Int32.ofInt 1) F.1 F.2.1 d_La_law_416 (by decide) ?_
        refine fi_iadd F d_La_law_417 ?_
        refine law_ld (a := a1) F hX hbl (by omega) w ⟨by omega, by omega⟩ (by rw [show ((i : Int) + 1).toNat = i + 1 by omega]; exact hx1) d_La_law_418 ?_
        refine lv_aload_n F.1 F.2.1 d_La_law_419 rfl (lv_at hl 4 rfl) ?_
        refine lv_iload F.1 F.2.1 d_La_law_420 (lv_at hl 0 rfl) ?_
        refine lv_iconst (v := Int32.ofInt 2) F.1 F.2.1 d_La_law_422 (by decide) ?_
        refine fi_iadd F d_La_law_423 ?_
        refine law_ld (a := a2) F hX hbl (by omega) w ⟨by omega, by omega⟩ (by rw [show ((i : Int) + 2).toNat = i + 2 by omega]; exact hx2) d_La_law_424 ?_
        refine lv_aload_n F.1 F.2.1 d_La_law_425 rfl (lv_at hl 4 rfl) ?_
        refine lv_iload F.1 F.2.1 d_La_law_426 (lv_at hl 0 rfl) ?_
        refine lv_iconst (v := Int32.ofInt 3) F.1 F.2.1 d_La_law_428 (by decide) ?_
        refine fi_iadd F d_La_law_429 ?_
        refine law_ld (a := a3) F hX hbl (by omega) w ⟨by omega, by omega⟩ (by rw [show ((i : Int) + 3).toNat = i + 3 by omega]; exact hx3) d_La_law_430 ?_
        refine fx_cN w (fx_rV (As := [.int (Int32.ofInt a1), .int (Int32.ofInt a2), .int (Int32.ofInt a3)]) (rest := []) F w cl_Mo 331 T_331 (met_Mo_branch l hst9 D ad cA s.heap.size M1 a1 a2 a3 _ _ hw) e_Mo_branch ki_Mo_branch ks_Mo_branch k_1154 rfl hl.1 rfl (Nat.le_of_ble_eq_true rfl) (law_rm (i := i) (Nat.le_of_ble_eq_true rfl) (Nat.le_of_ble_eq_true rfl) (Nat.le_of_ble_eq_true rfl) (Nat.le_of_ble_eq_true rfl) (by omega) (by omega) (by omega)) d_La_law_431) (fun r4 M3 hw H locs w => ?_)
        show W p l e _ s m _ below meth c H locs _ _ _ (F0 m 434 ls [.int (Int32.ofInt r4)])
        refine lv_pop F.1 F.2.1 d_La_law_434 rfl ?_
        refine lv_goto F.1 F.2.1 d_La_law_435 (tgt := 522) (by decide) ?_
        exact back _ _ _ _ _ _ hw w (lv_sub hl [0, 1, 2, 3, 4] rfl) (by omega) (by omega)
      · refine lv_tableIn (tgt := 438) (off := 399) F.1 F.2.1 d_La_law_39 (by decide) (by decide) (by decide) (by decide) ?_
        have hw := w12
        refine lv_aload_n F.1 F.2.1 d_La_law_438 rfl (lv_at hl 3 rfl) ?_
        refine lv_aload_n F.1 F.2.1 d_La_law_439 rfl (lv_at hl 4 rfl) ?_
        refine lv_iload F.1 F.2.1 d_La_law_440 (lv_at hl 0 rfl) ?_
        refine lv_iconst (v := Int32.ofInt 1) F.1 F.2.1 d_La_law_442 (by decide) ?_
        refine fi_iadd F d_La_law_443 ?_
        refine law_ld (a := a1) F hX hbl (by omega) w ⟨by omega, by omega⟩ (by rw [show ((i : Int) + 1).toNat = i + 1 by omega]; exact hx1) d_La_law_444 ?_
        refine lv_aload_n F.1 F.2.1 d_La_law_445 rfl (lv_at hl 1 rfl) ?_
        refine fx_cC w (fx_rSW (n := 3) (As := [.ref (ad 0), .int (Int32.ofInt a1), .ref (ad 362)]) (rest := []) F w hnc (hm_upper l hst9 D ad cA s.heap.size M a1 _ hw) ew_La_upper kn_La ⟨by decide, by decide⟩ (by decide +kernel) kt_La_upper k_765 rfl hl.1 rfl (Nat.le_of_ble_eq_true rfl) (law_rm (i := i) (Nat.le_of_ble_eq_true rfl) (Nat.le_of_ble_eq_true rfl) (Nat.le_of_ble_eq_true rfl) (Nat.le_of_ble_eq_true rfl) (by omega) (by omega) (by omega)) d_La_law_446) (fun r2 M1 hw H locs w => ?_)
        show W p l e _ s m _ below meth c H locs _ _ _ (F0 m 449 ls [.int (Int32.ofInt r2)])
        refine lv_istore F.1 F.2.1 d_La_law_449 hl (by decide) rfl (fun ls hl => ?_)
        have hl : lv_has ls 8 [(5, .int (Int32.ofInt r2)), (4, .int (Int32.ofInt (i : Int))), (3, .ref (ad 362)), (2, .ref (ad 331)), (1, .ref (ad 0)), (0, .ref b)] := hl
        refine lv_aload_n F.1 F.2.1 d_La_law_451 rfl (lv_at hl 3 rfl) ?_
        refine lv_aload_n F.1 F.2.1 d_La_law_452 rfl (lv_at hl 5 rfl) ?_
        refine lv_iload F.1 F.2.1 d_La_law_453 (lv_at hl 1 rfl) ?_
        refine lv_iconst (v := Int32.ofInt 1) F.1 F.2.1 d_La_law_455 (by decide) ?_
        refine fi_iadd F d_La_law_456 ?_
        refine law_ld (a := a1) F hX hbl (by omega) w ⟨by omega, by omega⟩ (by rw [show ((i : Int) + 1).toNat = i + 1 by omega]; exact hx1) d_La_law_457 ?_
        refine fx_cN w (fx_rV (As := [.int (Int32.ofInt a1)]) (rest := []) F w cl_Mo 331 T_331 (met_Mo_upper l hst9 D ad cA s.heap.size M1 a1 _ _ hw) e_Mo_upper ki_Mo_upper ks_Mo_upper k_1158 rfl hl.1 rfl (Nat.le_of_ble_eq_true rfl) (law_rm (i := i) (Nat.le_of_ble_eq_true rfl) (Nat.le_of_ble_eq_true rfl) (Nat.le_of_ble_eq_true rfl) (Nat.le_of_ble_eq_true rfl) (by omega) (by omega) (by omega)) d_La_law_458) (fun r4 M3 hw H locs w => ?_)
        show W p l e _ s m _ below meth c H locs _ _ _ (F0 m 461 ls [.long (Int64.ofInt r4)])
        refine lv_lstore F.1 F.2.1 d_La_law_461 hl (by decide) rfl (fun ls hl => ?_)
        have hl : lv_has ls 8 [(6, .long (Int64.ofInt r4)), (5, .int (Int32.ofInt r2)), (4, .int (Int32.ofInt (i : Int))), (3, .ref (ad 362)), (2, .ref (ad 331)), (1, .ref (ad 0)), (0, .ref b)] := hl
        refine lv_goto F.1 F.2.1 d_La_law_463 (tgt := 522) (by decide) ?_
        exact back _ _ _ _ _ _ hw w (lv_sub hl [2, 3, 4, 5, 6] rfl) (by omega) (by omega)
      · refine lv_tableIn (tgt := 466) (off := 427) F.1 F.2.1 d_La_law_39 (by decide) (by decide) (by decide) (by decide) ?_
        have hw := w13
        refine lv_aload_n F.1 F.2.1 d_La_law_466 rfl (lv_at hl 3 rfl) ?_
        refine lv_aload_n F.1 F.2.1 d_La_law_467 rfl (lv_at hl 4 rfl) ?_
        refine lv_iload F.1 F.2.1 d_La_law_468 (lv_at hl 0 rfl) ?_
        refine lv_iconst (v := Int32.ofInt 1) F.1 F.2.1 d_La_law_470 (by decide) ?_
        refine fi_iadd F d_La_law_471 ?_
        refine law_ld (a := a1) F hX hbl (by omega) w ⟨by omega, by omega⟩ (by rw [show ((i : Int) + 1).toNat = i + 1 by omega]; exact hx1) d_La_law_472 ?_
        refine lv_aload_n F.1 F.2.1 d_La_law_473 rfl (lv_at hl 1 rfl) ?_
        refine fx_cC w (fx_rSW (n := 3) (As := [.ref (ad 0), .int (Int32.ofInt a1), .ref (ad 362)]) (rest := []) F w hnc (hm_lower l hst9 D ad cA s.heap.size M a1 _ hw) ew_La_lower kn_La ⟨by decide, by decide⟩ (by decide +kernel) kt_La_lower k_794 rfl hl.1 rfl (Nat.le_of_ble_eq_true rfl) (law_rm (i := i) (Nat.le_of_ble_eq_true rfl) (Nat.le_of_ble_eq_true rfl) (Nat.le_of_ble_eq_true rfl) (Nat.le_of_ble_eq_true rfl) (by omega) (by omega) (by omega)) d_La_law_474) (fun r2 M1 hw H locs w => ?_)
        show W p l e _ s m _ below meth c H locs _ _ _ (F0 m 477 ls [.int (Int32.ofInt r2)])
        refine lv_istore F.1 F.2.1 d_La_law_477 hl (by decide) rfl (fun ls hl => ?_)
        have hl : lv_has ls 8 [(5, .int (Int32.ofInt r2)), (4, .int (Int32.ofInt (i : Int))), (3, .ref (ad 362)), (2, .ref (ad 331)), (1, .ref (ad 0)), (0, .ref b)] := hl
        refine lv_aload_n F.1 F.2.1 d_La_law_479 rfl (lv_at hl 3 rfl) ?_
        refine lv_aload_n F.1 F.2.1 d_La_law_480 rfl (lv_at hl 5 rfl) ?_
        refine lv_iload F.1 F.2.1 d_La_law_481 (lv_at hl 1 rfl) ?_
        refine lv_iconst (v := Int32.ofInt 1) F.1 F.2.1 d_La_law_483 (by decide) ?_
        refine fi_iadd F d_La_law_484 ?_
        refine law_ld (a := a1) F hX hbl (by omega) w ⟨by omega, by omega⟩ (by rw [show ((i : Int) + 1).toNat = i + 1 by omega]; exact hx1) d_La_law_485 ?_
        refine fx_cN w (fx_rV (As := [.int (Int32.ofInt a1)]) (rest := []) F w cl_Mo 331 T_331 (met_Mo_lower l hst9 D ad cA s.heap.size M1 a1 _ _ hw) e_Mo_lower ki_Mo_lower ks_Mo_lower k_1166 rfl hl.1 rfl (Nat.le_of_ble_eq_true rfl) (law_rm (i := i) (Nat.le_of_ble_eq_true rfl) (Nat.le_of_ble_eq_true rfl) (Nat.le_of_ble_eq_true rfl) (Nat.le_of_ble_eq_true rfl) (by omega) (by omega) (by omega)) d_La_law_486) (fun r4 M3 hw H locs w => ?_)
        show W p l e _ s m _ below meth c H locs _ _ _ (F0 m 489 ls [.long (Int64.ofInt r4)])
        refine lv_lstore F.1 F.2.1 d_La_law_489 hl (by decide) rfl (fun ls hl => ?_)
        have hl : lv_has ls 8 [(6, .long (Int64.ofInt r4)), (5, .int (Int32.ofInt r2)), (4, .int (Int32.ofInt (i : Int))), (3, .ref (ad 362)), (2, .ref (ad 331)), (1, .ref (ad 0)), (0, .ref b)] := hl
        refine lv_goto F.1 F.2.1 d_La_law_491 (tgt := 522) (by decide) ?_
        exact back _ _ _ _ _ _ hw w (lv_sub hl [2, 3, 4, 5, 6] rfl) (by omega) (by omega)
      · refine lv_tableIn (tgt := 494) (off := 455) F.1 F.2.1 d_La_law_39 (by decide) (by decide) (by decide) (by decide) ?_
        have hw := w14
        refine lv_aload_n F.1 F.2.1 d_La_law_494 rfl (lv_at hl 3 rfl) ?_
        refine lv_aload_n F.1 F.2.1 d_La_law_495 rfl (lv_at hl 4 rfl) ?_
        refine lv_iload F.1 F.2.1 d_La_law_496 (lv_at hl 0 rfl) ?_
        refine lv_iconst (v := Int32.ofInt 1) F.1 F.2.1 d_La_law_498 (by decide) ?_
        refine fi_iadd F d_La_law_499 ?_
        refine law_ld (a := a1) F hX hbl (by omega) w ⟨by omega, by omega⟩ (by rw [show ((i : Int) + 1).toNat = i + 1 by omega]; exact hx1) d_La_law_500 ?_
        refine lv_aload_n F.1 F.2.1 d_La_law_501 rfl (lv_at hl 1 rfl) ?_
        refine fx_cC w (fx_rSW (n := 3) (As := [.ref (ad 0), .int (Int32.ofInt a1), .ref (ad 362)]) (rest := []) F w hnc (hm_good l hst9 D ad cA s.heap.size M a1 _ hw) ew_La_good kn_La ⟨by decide, by decide⟩ (by decide +kernel) kt_La_good k_801 rfl hl.1 rfl (Nat.le_of_ble_eq_true rfl) (law_rm (i := i) (Nat.le_of_ble_eq_true rfl) (Nat.le_of_ble_eq_true rfl) (Nat.le_of_ble_eq_true rfl) (Nat.le_of_ble_eq_true rfl) (by omega) (by omega) (by omega)) d_La_law_502) (fun r2 M1 hw H locs w => ?_)
        show W p l e _ s m _ below meth c H locs _ _ _ (F0 m 505 ls [.int (Int32.ofInt r2)])
        refine lv_istore F.1 F.2.1 d_La_law_505 hl (by decide) rfl (fun ls hl => ?_)
        have hl : lv_has ls 8 [(5, .int (Int32.ofInt r2)), (4, .int (Int32.ofInt (i : Int))), (3, .ref (ad 362)), (2, .ref (ad 331)), (1, .ref (ad 0)), (0, .ref b)] := hl
        refine lv_aload_n F.1 F.2.1 d_La_law_507 rfl (lv_at hl 3 rfl) ?_
        refine lv_aload_n F.1 F.2.1 d_La_law_508 rfl (lv_at hl 5 rfl) ?_
        refine lv_iload F.1 F.2.1 d_La_law_509 (lv_at hl 1 rfl) ?_
        refine lv_iconst (v := Int32.ofInt 1) F.1 F.2.1 d_La_law_511 (by decide) ?_
        refine fi_iadd F d_La_law_512 ?_
        refine law_ld (a := a1) F hX hbl (by omega) w ⟨by omega, by omega⟩ (by rw [show ((i : Int) + 1).toNat = i + 1 by omega]; exact hx1) d_La_law_513 ?_
        refine fx_cN w (fx_rV (As := [.int (Int32.ofInt a1)]) (rest := []) F w cl_Mo 331 T_331 (met_Mo_good l hst9 D ad cA s.heap.size M1 a1 _ _ hw) e_Mo_good ki_Mo_good ks_Mo_good k_1170 rfl hl.1 rfl (Nat.le_of_ble_eq_true rfl) (law_rm (i := i) (Nat.le_of_ble_eq_true rfl) (Nat.le_of_ble_eq_true rfl) (Nat.le_of_ble_eq_true rfl) (Nat.le_of_ble_eq_true rfl) (by omega) (by omega) (by omega)) d_La_law_514) (fun r4 M3 hw H locs w => ?_)
        show W p l e _ s m _ below meth c H locs _ _ _ (F0 m 517 ls [.int (Int32.ofInt r4)])
        refine lv_istore F.1 F.2.1 d_La_law_517 hl (by decide) rfl (fun ls hl => ?_)
        have hl : lv_has ls 8 [(6, .int (Int32.ofInt r4)), (5, .int (Int32.ofInt r2)), (4, .int (Int32.ofInt (i : Int))), (3, .ref (ad 362)), (2, .ref (ad 331)), (1, .ref (ad 0)), (0, .ref b)] := hl
        refine lv_goto F.1 F.2.1 d_La_law_519 (tgt := 522) (by decide) ?_
        exact back _ _ _ _ _ _ hw w (lv_sub hl [2, 3, 4, 5, 6] rfl) (by omega) (by omega)
      · refine lv_tableOut (tgt := 522) F.1 F.2.1 d_La_law_39 (by decide) (by decide) ?_
        exact back M H locs ls cells slots hM w hl (by omega) (by omega)
