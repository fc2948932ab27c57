def sh_all : sh_T := [] ++ sh_CG ++ sh_Mo ++ [(.inr (3, 1), [])]
theorem sh_all_len : sh_all.length = nC := by decide +kernel
theorem sh_all_ok : ∀ k : Fin 363, okd (sh_all.getD k.1 (.inr (0, 0), [])).1 (TC k.1) = true := by decide +kernel
/-- the memory at the start -/
def M0 : fm_M := fun k p => m0d k p (sh_all.getD k (.inr (0, 0), [])) (TC k)
set_option maxHeartbeats 4000000 in
set_option maxRecDepth 100000 in
theorem whole_hp {s : State} {b : Nat} (hts : ∀ w ∈ lw_tbl, w.before #[Value.ref b] s = true) (hgv : (Jvm.Cond.and given_1 narrow_1).before #[Value.ref b] s = true) : cg_hp s.heap.size s ∧ fx_noc s := by
  have hs := flat_of_before _ hgv
  have hA : ∀ a : Nat, a < s.heap.size → ¬ s.heap.size ≤ a := fun a h => Nat.not_le.mpr h
  have h1 : (Cond.isRef (.static Bundle.tN "UNASSIGNED_STACK" Bundle.steD)).before #[Value.ref b] s = true := hs _ (by decide +kernel)
  have h2 : (Cond.isRef (.static Bundle.tN "SUPPRESSED_SENTINEL" Bundle.listD)).before #[Value.ref b] s = true := hs _ (by decide +kernel)
  have l1 : (Cond.laysStatic Bundle.tN "UNASSIGNED_STACK" Bundle.steD).before #[Value.ref b] s = true := (hts _ (List.mem_append_right _ (List.mem_of_getElem? (i := 485) (by decide +kernel))))
  have l2 : (Cond.laysStatic Bundle.tN "SUPPRESSED_SENTINEL" Bundle.listD).before #[Value.ref b] s = true := (hts _ (List.mem_append_right _ (List.mem_of_getElem? (i := 487) (by decide +kernel))))
  have hi : (Cond.initialized Bundle.tN).before #[Value.ref b] s = true := (hts _ (List.mem_append_right _ (List.mem_of_getElem? (i := 14) (by decide +kernel))))
  have h3 : (Cond.not (.castable "java/lang/IndexOutOfBoundsException" "java/lang/IllegalStateException")).before #[Value.ref b] s = true := hs _ (by decide +kernel)
  exact ⟨⟨⟨va_Zqof l1 hi h1 hA, cg_L.of l1 hA⟩, va_Zqof l2 hi h2 hA, cg_L.of l2 hA⟩, h3⟩
theorem whole_K {s : State} {args : Array Value} (hts : ∀ w ∈ tb, w.before args s = true) : ∃ D : va_G, va_K D classes [] s :=
  cg_K (List.forall_mem_cons.mpr ⟨u_known hts cl_CG.1 (hts _ ki_CG), List.forall_mem_cons.mpr ⟨u_known hts cl_Rd.1 (hts _ ki_Rd), List.forall_mem_cons.mpr ⟨u_known hts cl_Tx.1 (hts _ ki_Tx), List.forall_mem_cons.mpr ⟨u_known hts cl_Gm.1 (hts _ ki_Gm), List.forall_mem_cons.mpr ⟨u_known hts cl_Cm.1 (hts _ ki_Cm), List.forall_mem_cons.mpr ⟨u_known hts cl_Gu.1 (hts _ ki_Gu), List.forall_mem_cons.mpr ⟨u_known hts cl_Br.1 (hts _ ki_Br), List.forall_mem_cons.mpr ⟨u_known hts cl_Va.1 (hts _ ki_Va), List.forall_mem_cons.mpr ⟨u_known hts cl_Fo.1 (hts _ ki_Fo), List.forall_mem_cons.mpr ⟨u_known hts cl_At.1 (hts _ ki_At), List.forall_mem_cons.mpr ⟨u_known hts cl_Eq.1 (hts _ ki_Eq), List.forall_mem_cons.mpr ⟨u_known hts cl_Go.1 (hts _ ki_Go), List.forall_mem_cons.mpr ⟨u_known hts cl_Mo.1 (hts _ ki_Mo), fun _ h => absurd h List.not_mem_nil⟩⟩⟩⟩⟩⟩⟩⟩⟩⟩⟩⟩⟩)
set_option maxHeartbeats 40000000 in
set_option maxRecDepth 100000 in
theorem law_start {p : Program} {e : Env} {s : State} {m : MethodId} {below : List Frame} {meth : Method} {c : Code} (l : Launch) (hst9 : l.stackTraces = false) {b L : Nat} {xs : Nat → Int32} (hL : L ≤ 2048) (C0 : lw_At p s m meth c b L xs) (Inv : fm_M → Prop) (hM0 : Inv M0) (hI : ∀ M, Inv M → law_ok Inv M) : W p l e room_1 s m #[Value.ref b] below meth c s.heap [] 0 0 (lw_Z below #[Value.ref b] s) (entryFrame m ([Value.ref b] : List Value).toArray 8) := by
  obtain ⟨hx, hb, hr, hml, hown, hts, hX, hbl, hlk, hgv⟩ := C0
  have F : CallFix p m c code 8 s #[Value.ref b] tb R_law := ⟨hx, hb, hml, hown, fun w h => hts w (tb_lw h)⟩
  obtain ⟨D, hK⟩ := whole_K F.2.2.2.2
  obtain ⟨hhp, hnc⟩ := whole_hp hts hgv
  have w : cg_W D classes (fun q => s.heap.size ≤ q) s.heap s [] [] s.heap [] := ⟨fun k q h => by simp at h, ⟨fun i j p q h => by simp at h, fun k q h => by simp at h⟩, hK, va_S.rf, fun q h => h⟩
  rw [lg_entry_eq]
  have hl := lv_entry ([Value.ref b]) (n := 8) (Nat.le_of_ble_eq_true rfl)
  generalize (lg_sl ([Value.ref b]) ++ List.replicate (8 - (lg_sl ([Value.ref b])).length) Slot.unset).toArray = ls at hl ⊢
  have hl : lv_has ls 8 [(0, .ref b)] := hl
  refine cg_new (fs := [.null, .null, .null, .null, .null, .int (Int32.ofInt 0), .int (Int32.ofInt 0)]) F w cl_CG k_22 ki_CG kn_CG zz_CG (Nat.le_of_ble_eq_true rfl) (Nat.le_of_ble_eq_true rfl) d_La_law_0 (fun q1 H w => ?_)
  have w : cg_W D classes (fun q => s.heap.size ≤ q) s.heap s (([] : List (ClassId × FieldType))) ([] ++ [(q1, .inr (0, [.null, .null, .null, .null, .null, .int (Int32.ofInt 0), .int (Int32.ofInt 0)]))]) H [] := w
  refine lv_dup F.1 F.2.1 d_La_law_3 rfl ?_
  refine cg_cvL (x := (q1, .inr (0, [.null, .null, .null, .null, .null, .int (Int32.ofInt 0), .int (Int32.ofInt 0)]))) w (cg_rI (As := []) (rest := [.ref q1]) F (k_CG_init l D q1 H.size) e_CG_init rfl ki_CG_init k_24 (cg_preL w) rfl hl.1 rfl (Nat.le_of_ble_eq_true rfl) ⟨⟨rfl, rfl⟩, ⟨(Nat.le_of_ble_eq_true rfl), (Nat.le_of_ble_eq_true rfl)⟩, (Nat.le_of_ble_eq_true rfl), (Nat.le_of_ble_eq_true rfl)⟩ d_La_law_4) (fun u2 H9 locs9 hu3 w9 => ?_)
  clear w
  subst hu3
  have w : cg_W D classes (fun q => s.heap.size ≤ q) s.heap s (([] : List (ClassId × FieldType)) ++ sgt u2.2 0 sh_CG) ([] ++ sgk u2.1 u2.2 0 sh_CG) H9 locs9 := w9
  clear w9
  generalize H9 = H at w ⊢
  generalize locs9 = locs at w ⊢
  refine lv_astore_n F.1 F.2.1 d_La_law_7 rfl hl (by decide) rfl (fun ls hl => ?_)
  have hl : lv_has ls 8 [(1, .ref (u2.1 0)), (0, .ref b)] := hl
  refine cg_new (fs := [.int (Int32.ofInt 0), .null, .int (Int32.ofInt 0), .int (Int32.ofInt 0), .int (Int32.ofInt 0), .int (Int32.ofInt 0), .int (Int32.ofInt 0), .int (Int32.ofInt 0), .null, .null, .null, .null, .null, .null, .null, .null, .null, .null, .null, .null, .int (Int32.ofInt 0), .int (Int32.ofInt 0), .int (Int32.ofInt 0), .null, .null, .null, .null, .null, .null, .null, .null, .null, .null, .null, .int (Int32.ofInt 0), .null, .null, .null, .long (Int64.ofInt 0), .null, .null, .null]) F w cl_Mo k_808 ki_Mo kn_Mo zz_Mo (Nat.le_of_ble_eq_true rfl) (Nat.le_of_ble_eq_true rfl) d_La_law_8 (fun q4 H w => ?_)
  have w : cg_W D classes (fun q => s.heap.size ≤ q) s.heap s (([] : List (ClassId × FieldType)) ++ sgt u2.2 0 sh_CG) ([] ++ sgk u2.1 u2.2 0 sh_CG ++ [(q4, .inr (12, [.int (Int32.ofInt 0), .null, .int (Int32.ofInt 0), .int (Int32.ofInt 0), .int (Int32.ofInt 0), .int (Int32.ofInt 0), .int (Int32.ofInt 0), .int (Int32.ofInt 0), .null, .null, .null, .null, .null, .null, .null, .null, .null, .null, .null, .null, .int (Int32.ofInt 0), .int (Int32.ofInt 0), .int (Int32.ofInt 0), .null, .null, .null, .null, .null, .null, .null, .null, .null, .null, .null, .int (Int32.ofInt 0), .null, .null, .null, .long (Int64.ofInt 0), .null, .null, .null]))]) H locs := w
  refine lv_dup F.1 F.2.1 d_La_law_11 rfl ?_
  refine cg_cvL (x := (q4, .inr (12, [.int (Int32.ofInt 0), .null, .int (Int32.ofInt 0), .int (Int32.ofInt 0), .int (Int32.ofInt 0), .int (Int32.ofInt 0), .int (Int32.ofInt 0), .int (Int32.ofInt 0), .null, .null, .null, .null, .null, .null, .null, .null, .null, .null, .null, .null, .int (Int32.ofInt 0), .int (Int32.ofInt 0), .int (Int32.ofInt 0), .null, .null, .null, .null, .null, .null, .null, .null, .null, .null, .null, .int (Int32.ofInt 0), .null, .null, .null, .long (Int64.ofInt 0), .null, .null, .null]))) w (cg_rI (As := []) (rest := [.ref q4]) F (k_Mo_init l D q4 H.size) e_Mo_init rfl ki_Mo_init k_810 (cg_preL w) rfl hl.1 rfl (Nat.le_of_ble_eq_true rfl) ⟨⟨rfl, rfl⟩, ⟨(Nat.le_of_ble_eq_true rfl), (Nat.le_of_ble_eq_true rfl)⟩, (Nat.le_of_ble_eq_true rfl), (Nat.le_of_ble_eq_true rfl)⟩ d_La_law_12) (fun u5 H9 locs9 hu6 w9 => ?_)
  clear w
  subst hu6
  have w : cg_W D classes (fun q => s.heap.size ≤ q) s.heap s (([] : List (ClassId × FieldType)) ++ sgt u2.2 0 sh_CG ++ sgt u5.2 0 sh_Mo) ([] ++ sgk u2.1 u2.2 0 sh_CG ++ sgk u5.1 u5.2 0 sh_Mo) H9 locs9 := w9
  clear w9
  generalize H9 = H at w ⊢
  generalize locs9 = locs at w ⊢
  refine lv_astore_n F.1 F.2.1 d_La_law_15 rfl hl (by decide) rfl (fun ls hl => ?_)
  have hl : lv_has ls 8 [(2, .ref (u5.1 0)), (1, .ref (u2.1 0)), (0, .ref b)] := hl
  refine lv_iconst (v := Int32.ofInt 1) F.1 F.2.1 d_La_law_16 (by decide) ?_
  refine cg_newa (atype := .long) (a0 := (1, .inr (.inl (fun j => Int64.ofInt (([] : List Int).getD j 0))))) F w (ft := .long) kA_long rfl (fun _ => rfl) (by decide) (by decide) (by decide) (Nat.le_of_ble_eq_true rfl) (Nat.le_of_ble_eq_true rfl) d_La_law_17 (fun q7 cA8 H w => ?_)
  have w : cg_W D classes (fun q => s.heap.size ≤ q) s.heap s (([] : List (ClassId × FieldType)) ++ sgt u2.2 0 sh_CG ++ sgt u5.2 0 sh_Mo ++ ([(cA8, .long)] : List (ClassId × FieldType))) ([] ++ sgk u2.1 u2.2 0 sh_CG ++ sgk u5.1 u5.2 0 sh_Mo ++ [(q7, .inl (cA8, 1, .inr (.inl (fun j => Int64.ofInt (([] : List Int).getD j 0)))))]) H locs := w
  refine lv_astore_n F.1 F.2.1 d_La_law_19 rfl hl (by decide) rfl (fun ls hl => ?_)
  have hl : lv_has ls 8 [(3, .ref q7), (2, .ref (u5.1 0)), (1, .ref (u2.1 0)), (0, .ref b)] := hl
  refine lv_iconst (v := Int32.ofInt 0) F.1 F.2.1 d_La_law_20 (by decide) ?_
  refine lv_istore F.1 F.2.1 d_La_law_21 hl (by decide) rfl (fun ls hl => ?_)
  have hl : lv_has ls 8 [(4, .int (Int32.ofInt 0)), (3, .ref q7), (2, .ref (u5.1 0)), (1, .ref (u2.1 0)), (0, .ref b)] := hl
  have hws : [] ++ sgk u2.1 u2.2 0 sh_CG ++ sgk u5.1 u5.2 0 sh_Mo ++ [(q7, .inl (cA8, 1, .inr (.inl (fun j => Int64.ofInt (([] : List Int).getD j 0)))))] = sgk (cmb 0 [(331, u2.1), (31, u5.1), (1, fun _ => q7)]) (cmb 0 [(331, u2.2), (31, u5.2), (1, fun _ => cA8)]) 0 sh_all := by
    unfold sh_all
    rw [sgk_app, sgk_app, sgk_app]
    refine app_congr (app_congr (app_congr rfl ?_) ?_) rfl
    · exact sgk_in (l1 := []) (l2 := [(31, u5.1), (1, fun _ => q7)]) (c1 := []) (c2 := [(31, u5.2), (1, fun _ => cA8)]) rfl len_CG ok_CG
    · exact sgk_in (l1 := [(331, u2.1)]) (l2 := [(1, fun _ => q7)]) (c1 := [(331, u2.2)]) (c2 := [(1, fun _ => cA8)]) rfl len_Mo ok_Mo
  have hty : ([] : List (ClassId × FieldType)) ++ sgt u2.2 0 sh_CG ++ sgt u5.2 0 sh_Mo ++ ([(cA8, .long)] : List (ClassId × FieldType)) = sgt (cmb 0 [(331, u2.2), (31, u5.2), (1, fun _ => cA8)]) 0 sh_all := by
    unfold sh_all
    rw [sgt_app, sgt_app, sgt_app]
    refine app_congr (app_congr (app_congr rfl ?_) ?_) rfl
    · exact sgt_in (c1 := []) (c2 := [(31, u5.2), (1, fun _ => cA8)]) len_CG
    · exact sgt_in (c1 := [(331, u2.2)]) (c2 := [(1, fun _ => cA8)]) len_Mo
  rw [hws, hty] at w
  have w := fm_start sh_all_len sh_all_ok ⟨_, T_3.2⟩ w hhp
  refine law_loop l hst9 hL F hr hlk hX hbl hnc D (cmb 0 [(331, u2.1), (31, u5.1), (1, fun _ => q7)]) _ Inv hI (L + 5) 0 M0 H locs ls _ _ (by omega) (by omega) hM0 w hl (Nat.le_of_ble_eq_true rfl) (Nat.le_of_ble_eq_true rfl)
