/-! Own rows: a new array of arrays with all its cells; segments by their places. -/
theorem sgk_get (ad : Nat → Nat) (cA : Nat → ClassId) : ∀ (sh : sh_T) (k i : Nat), (sgk ad cA k sh)[i]? = (sh[i]?).map (fun d => (ad (k + i), fm_e9 ad cA (k + i) (fun p => d.2.getD p 0) d.1))
  | [], k, i => rfl
  | d :: r, k, 0 => rfl
  | d :: r, k, i + 1 => by
    show (sgk ad cA (k + 1) r)[i]? = (r[i]?).map _
    rw [sgk_get ad cA r (k + 1) i, show k + 1 + i = k + (i + 1) by omega]
theorem sgt_get (cA : Nat → ClassId) : ∀ (sh : sh_T) (k : Nat) (x : ClassId × FieldType), x ∈ sgt cA k sh → ∃ (i : Nat) (d : fm_D × List Int) (t n : Nat), sh[i]? = some d ∧ d.1 = .inr (t, n) ∧ x = (cA (k + i), fm_tt t)
  | [], k, x, h => by cases h
  | (.inl o, r0) :: r, k, x, h => by
    have h1 : x ∈ sgt cA (k + 1) r := h
    obtain ⟨i, d, t, n, h2, h3, h4⟩ := sgt_get cA r (k + 1) x h1
    exact ⟨i + 1, d, t, n, h2, h3, by rw [h4, show k + 1 + i = k + (i + 1) by omega]⟩
  | (.inr (t, n), r0) :: r, k, x, h => by
    have h1 : x ∈ (cA k, fm_tt t) :: sgt cA (k + 1) r := h
    rcases List.mem_cons.mp h1 with h1 | h1
    · exact ⟨0, _, t, n, rfl, rfl, h1⟩
    · obtain ⟨i, d, t', n', h2, h3, h4⟩ := sgt_get cA r (k + 1) x h1
      exact ⟨i + 1, d, t', n', h2, h3, by rw [h4, show k + 1 + i = k + (i + 1) by omega]⟩
theorem seg_D {A : Nat → Prop} {D : va_G} {cl : List vw_C} {ws nw : va_W} {H : Heap} {z : Nat} (hP : va_P D cl ws H) (hD : va_D A ws) (hz : H.size = z) (hn : ∀ i x, nw[i]? = some x → x.1 = z + i) (hA : ∀ q, z ≤ q → A q) : va_D A (ws ++ nw) := by
  have lo : ∀ i x, (ws ++ nw)[i]? = some x → (i < ws.length ∧ ws[i]? = some x ∧ x.1 < z) ∨ (ws.length ≤ i ∧ x.1 = z + (i - ws.length)) := by
    intro i x hx
    by_cases h : i < ws.length
    · rw [List.getElem?_append_left h] at hx
      exact Or.inl ⟨h, hx, by rw [← hz]; exact (hP i x hx).lt⟩
    · rw [List.getElem?_append_right (by omega)] at hx
      exact Or.inr ⟨by omega, hn _ _ hx⟩
  refine ⟨fun i j p q hi hj he => ?_, fun k q hk => ?_⟩
  · rcases lo i p hi with ⟨a1, a2, a3⟩ | ⟨a1, a2⟩ <;> rcases lo j q hj with ⟨b1, b2, b3⟩ | ⟨b1, b2⟩
    · exact hD.1 i j p q a2 b2 he
    · omega
    · omega
    · omega
  · rcases lo k q hk with ⟨a1, a2, a3⟩ | ⟨a1, a2⟩
    · exact hD.2 k q a2
    · exact hA _ (by omega)
theorem cell_eq {x y : Cell} (h1 : x.cls = y.cls) (h2 : x.slots = y.slots) (h3 : x.vm = y.vm) (h4 : x.monitor = y.monitor) (h5 : x.hash = y.hash) : x = y := by
  cases x; cases y; cases h1; cases h2; cases h3; cases h4; cases h5; rfl
section CgMS
variable {p : Program} {l : Launch} {e : Env} {R : Room} {s : State} {m : MethodId} {args : Array Value} {below : List Frame} {meth : Method} {c : Code} {H : Heap} {locs : List Loc} {cells slots : Nat} {Q : State → Prop}
variable {cc : ByteArray} {pc nL : Nat} {ls : Array Slot} {rest : List Value} {D : va_G} {cl : List vw_C} {A : Nat → Prop} {tys : List (ClassId × FieldType)} {ws : va_W} {H0 : Heap} {own : String} {index : Nat}
abbrev sh_grid (t2 t1 N K : Nat) : sh_T := (.inr (t2, N), []) :: List.replicate N (.inr (t1, K), [])
abbrev cA_grid (N : Nat) (cA comp : ClassId) : Nat → ClassId := cmb 0 [(1, fun _ => cA), (N, fun _ => comp)]
theorem cg_mnaS {ft : FieldType} {t1 t2 : Nat} {N' K' : Nat} {n k : Int32} (F : CallFix p m c cc nL s args tb own) (w : cg_W D cl A H0 s tys ws H locs) (h1t : fm_tt t1 = ft) (h2t : fm_tt t2 = .array ft)
    (hin : ∀ (ad : Nat → Nat) (k : Nat) (c : ClassId), vp_cell c (K', fm_pl9 ad k (fun p => ([] : List Int).getD p 0) t1 K') = arrV c K' (fun _ => defaultValue ft)) (hout : ∀ (ad : Nat → Nat) (r : Nat → Int) (k : Nat), fm_pl9 ad k r t2 N' = .inr (.inr (.inr (.inr (fun j => if j < N' then some (ad (k + 1 + j)) else none)))))
    (hra : ∀ (U : State) (c : ClassId), U.vm.findClass ("[" ++ ft.toString) = some c → va_RA U c ft)
    (hcl : Cond.classLink own index ("[" ++ (FieldType.array ft).toString) ∈ tb) (hov : Cond.arrayOver (.array ft) ∈ tb) (harr : Cond.arrayClass ft ∈ tb) (hn : ¬ n < 0) (hk : ¬ k < 0) (hN : n.toNatClampNeg = N') (hM : k.toNatClampNeg = K') (hb1 : N' * 4 ≤ 536870912) (hb2 : K' * componentBytes ft ≤ 536870912) (hb3 : K' ≤ 536870912) (hdf : fits ft (defaultValue ft) = true) (hdd : (defaultValue ft).isDefault = true) (hcells : cells + (1 + N') ≤ R.cells) (hslots : slots + (N' + N' * K') ≤ R.slots) (hdg : decode cc pc = .ok (.multianewarray index 2, 4))
    (kk : ∀ (q : Nat) (cA comp : ClassId) (H1 : Heap), cg_W D cl A H0 s (tys ++ sgt (cA_grid N' cA comp) 0 (sh_grid t2 t1 N' K')) (ws ++ sgk (fun j => q + j) (cA_grid N' cA comp) 0 (sh_grid t2 t1 N' K')) H1 locs → W p l e R s m args below meth c H1 locs (cells + 1 + N') (slots + N' + N' * K') Q (F0 m (pc + 4) ls (.ref (q + 0) :: rest))) : W p l e R s m args below meth c H locs cells slots Q (F0 m pc ls (.int k :: .int n :: rest)) := by
  subst hN
  subst hM
  intro T hT Xs
  obtain ⟨vm₁, cA, comp, hW1, fA, fC, hO, hI, X', step⟩ := Xs.multianewarray2F F.1 F.2.2.2.1 (F.2.2.2.2 _ hcl) (F.2.2.2.2 _ hov) (F.2.2.2.2 _ harr) (g := F0 m pc ls (.int k :: .int n :: rest)) rfl (by rw [F.2.1]; exact hdg) rfl hn hk hb1 hb2 hb3 hdf hdd hcells hslots
  have hTh : (T.setVm vm₁).heap = H := hT
  obtain ⟨f1, f2, -, -⟩ := Jvm.Free.Multi.fill_facts (T.setVm vm₁) cA comp n.toNatClampNeg k.toNatClampNeg (defaultValue ft) n.toNatClampNeg
  have f3 := Jvm.Free.Multi.fill_inner (T.setVm vm₁) cA comp n.toNatClampNeg k.toNatClampNeg (defaultValue ft) n.toNatClampNeg
  have hold : ∀ x : Nat, x < H.size → (Jvm.Free.Multi.fill (T.setVm vm₁) cA comp n.toNatClampNeg k.toNatClampNeg (defaultValue ft) n.toNatClampNeg).heap[x]? = H[x]? := fun x hx => by
    have := Jvm.Free.Multi.fill_old (T.setVm vm₁) cA comp n.toNatClampNeg k.toNatClampNeg (defaultValue ft) (a := x) (by rw [hTh]; exact hx) n.toNatClampNeg
    rw [hTh] at this
    exact this
  rw [hTh] at f1 f2 f3
  generalize hN : n.toNatClampNeg = N at *
  generalize hK : k.toNatClampNeg = K at *
  generalize hU : (Jvm.Free.Multi.fill (T.setVm vm₁) cA comp N K (defaultValue ft) N) = U at *
  have hget : ∀ i d, (sh_grid t2 t1 N K)[i]? = some d → (i = 0 ∧ d = (.inr (t2, N), [])) ∨ (∃ j, i = j + 1 ∧ j < N ∧ d = (.inr (t1, K), [])) := by
    intro i d hd
    cases i with
    | zero => exact Or.inl ⟨rfl, (Option.some.inj hd).symm⟩
    | succ j =>
      have h9 : (List.replicate N ((Sum.inr (t1, K), []) : fm_D × List Int))[j]? = some d := hd
      rw [List.getElem?_replicate] at h9
      by_cases hj : j < N
      · rw [if_pos hj] at h9
        exact Or.inr ⟨j, rfl, hj, (Option.some.inj h9).symm⟩
      · rw [if_neg hj] at h9
        cases h9
  have hin' : ∀ j, j < N → cA_grid N cA comp (j + 1) = comp := fun j hj => by
    show (if j + 1 < 1 then _ else (if j + 1 - 1 < N then comp else _)) = comp
    rw [if_neg (by omega), if_pos (by omega)]
  have hP1 : va_P D cl (ws ++ sgk (fun j => H.size + j) (cA_grid N cA comp) 0 (sh_grid t2 t1 N K)) U.heap := by
    refine (w.1.kept (fun j x hx => hold x.1 ((w.1 j x hx).lt))).app (fun i x hx => ?_)
    rw [sgk_get] at hx
    cases hd : (sh_grid t2 t1 N K)[i]? with
    | none => rw [hd] at hx; cases hx
    | some d =>
      rw [hd] at hx
      have hx' := (Option.some.inj hx).symm
      rcases hget i d hd with ⟨rfl, rfl⟩ | ⟨j, rfl, hj, rfl⟩
      · subst hx'
        show U.heap[H.size + (0 + 0)]? = some (vp_cell cA (N, fm_pl9 _ _ _ t2 N))
        rw [hout, vp_cell_q]
        show U.heap[H.size]? = _
        rw [f2]
        congr 1
        have o := Jvm.Free.Multi.outerC_facts cA N H.size N
        have o2 := Jvm.Free.Multi.outerC_slot cA N H.size N
        have o3 := Jvm.Free.Multi.outerC_plain cA N H.size N
        exact cell_eq o.1 (by
          apply Array.ext_getElem?
          intro j
          by_cases hj : j < N
          · rw [o2 j hj, if_pos hj, arrV_read _ _ hj, if_pos hj]
            show _ = some (Value.ref _)
            rw [show H.size + (0 + 0 + 1 + j) = H.size + 1 + j by omega]
          · rw [Array.getElem?_eq_none (by rw [o.2.2]; omega), Array.getElem?_eq_none (by rw [arrV_size]; omega)]) o.2.1 o3.1 o3.2
      · subst hx'
        show U.heap[H.size + (0 + (j + 1))]? = some (vp_cell (cA_grid N cA comp (0 + (j + 1))) (K, fm_pl9 _ _ _ t1 K))
        rw [Nat.zero_add, hin' j hj, hin, show H.size + (j + 1) = H.size + 1 + j by omega, f3 j hj]
        congr 1
        refine cell_eq rfl ?_ rfl rfl rfl
        apply Array.ext_getElem?
        intro i
        by_cases hi : i < K
        · rw [arrV_read _ _ hi]
          show (Array.replicate K (defaultValue ft))[i]? = _
          rw [Array.getElem?_replicate, if_pos hi]
        · rw [Array.getElem?_eq_none (by show (Array.replicate K (defaultValue ft)).size ≤ i; rw [Array.size_replicate]; omega), Array.getElem?_eq_none (by rw [arrV_size]; omega)]
  have hD1 : va_D A (ws ++ sgk (fun j => H.size + j) (cA_grid N cA comp) 0 (sh_grid t2 t1 N K)) := by
    refine seg_D w.1 w.2.1 rfl (fun i x hx => ?_) (fun q hq => w.2.2.2.2 q (Nat.le_trans w.2.2.2.1.1 hq))
    rw [sgk_get] at hx
    cases hd : (sh_grid t2 t1 N K)[i]? with
    | none => rw [hd] at hx; cases hx
    | some d =>
      rw [hd] at hx
      rw [← Option.some.inj hx, Nat.zero_add]
  have hK1 : va_K D cl (tys ++ sgt (cA_grid N cA comp) 0 (sh_grid t2 t1 N K)) s := by
    refine w.2.2.1.app ⟨w.2.2.1.1, fun i x hx => ?_⟩
    obtain ⟨j, d, t', n', h2, h3, h4⟩ := sgt_get _ _ _ _ (List.mem_of_getElem? hx)
    subst h4
    rcases hget j d h2 with ⟨rfl, rfl⟩ | ⟨j, rfl, hj, rfl⟩
    · cases h3
      rw [h2t]
      exact ⟨fun n z => ⟨(fun k h => by cases h), (hO 0 0 0).1.2⟩, fA⟩
    · cases h3
      rw [h1t, Nat.zero_add, hin' j hj]
      exact ⟨fun n z => ⟨(fun k h => by cases h), (hI 0 .null).1.2⟩, hra s comp fC⟩
  have hS1 : va_S A H0 U.heap locs := ⟨Nat.le_trans w.2.2.2.1.1 (by rw [f1]; omega), fun x h1 h2 => (hold x (Nat.lt_of_lt_of_le h1 w.2.2.2.1.1)).trans (w.2.2.2.1.2.1 x h1 h2), w.2.2.2.1.2.2⟩
  obtain ⟨t, a1, b1⟩ := kk H.size cA comp U.heap ⟨hP1, hD1, hK1, hS1, w.2.2.2.2⟩ _ rfl X'
  refine ⟨t, step t ?_, b1⟩
  rw [hT]
  exact a1
end CgMS
theorem ra_eq {n : Nat} {f : Nat → Option Nat} {g : Nat → Nat} (h1 : ∀ j, j < n → f j = some (g j)) (h2 : ∀ j, n ≤ j → f j = none) : f = fun j => if j < n then some (g j) else none := by
  funext j
  by_cases h : j < n
  · rw [if_pos h, h1 j h]
  · rw [if_neg h, h2 j (by omega)]
