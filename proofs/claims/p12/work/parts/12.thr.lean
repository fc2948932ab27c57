/-! A throw out of a method over the flat memory: the walk seen from where it stands, as if it began there. -/
section FxThr
variable {p : Program} {l : Launch} {e : Env} {R : Room} {s : State} {m : MethodId} {args : Array Value} {below : List Frame} {meth : Method} {c : Code} {H : Heap} {locs : List Loc} {cells slots : Nat}
variable {cc : ByteArray} {pc nL : Nat} {ls : Array Slot} {D : va_G} {own E : String} {ad : Nat → Nat} {cA : Nat → ClassId} {M : fm_M} {n0 kd : Nat}
variable {post : Int → fm_M → Prop} {thr : String → fm_M → Prop}
theorem fx_base {T : State} {R' : Room} (X : Stand p l e R s m args below meth c T locs cells slots) (hf : R'.frames ≤ R.frames) (hl : R'.locals ≤ R.locals) (hc : cells + R'.cells ≤ R.cells) (hs : slots + R'.slots ≤ R.slots) :
    Stand p l e R' ((T.setVm s.vm).setFrames (.invoking m args :: below)) m args below meth c T [] 0 0 := by
  have htop : (T.setVm s.vm).topJava?.isSome := X.here.top
  have hF : ((T.setVm s.vm).setFrames (.invoking m args :: below)).frames = .invoking m args :: below := State.frames_setFrames _ (State.cur_lt_of_top htop)
  have hlim : e.platform.stackLimits (T.setVm s.vm).me = e.platform.stackLimits s.me := X.limits
  have hby : (T.setVm s.vm).me.stackBytes = s.me.stackBytes := X.bytes
  have hroom : ((T.setVm s.vm).setFrames (.invoking m args :: below)).hasRoom e.platform R' = true := by
    have h := X.room
    have hloc : ((T.setVm s.vm).setFrames (.invoking m args :: below)).localsInUse = s.localsInUse := by
      rw [State.localsInUse_invoking hF (meth := meth) (c := c) X.method X.code, State.localsInUse_invoking X.frames X.method X.code]
    have hz := X.heapSize
    have hu := X.used
    simp only [State.hasRoom, Bool.and_eq_true, decide_eq_true_eq] at h ⊢
    obtain ⟨⟨⟨⟨g1, g2, g3, g4, g5, g6⟩, g7⟩, g8⟩, g9⟩ := h
    rw [X.frames, List.length_cons] at g2 g3
    simp only [hF, hloc, List.length_cons, State.stackLimits_setFrames, State.stackBytes_setFrames, hlim, hby]
    have k7 : T.heap.size + R'.cells ≤ e.platform.maxCells := by omega
    have k8 : T.slotsUsed + R'.slots ≤ e.platform.maxSlots := by omega
    exact ⟨⟨⟨⟨by omega, by omega, by omega, by omega, by omega, g6⟩, k7⟩, k8⟩, X.book⟩
  have hnil : T.heap.toList.drop T.heap.size = [] := List.drop_eq_nil_of_le (Nat.le_of_eq Array.length_toList)
  have hsame : ((T.setVm s.vm).setFrames (.invoking m args :: below)).sameButNew (T.setVm s.vm) [] 0 0 := by
    obtain ⟨g, hg⟩ := Option.isSome_iff_exists.mp htop
    obtain ⟨r, hr⟩ := State.topJava?_eq_some.mp hg
    obtain ⟨th, hth, -⟩ := State.frames_cons hr
    refine ⟨?_, Nat.le_refl _, Nat.le_refl _, ?_, ?_, fun a cell h => ⟨cell, h, rfl, rfl, fun _ _ => rfl⟩⟩
    · show T.setVm s.vm = { ((T.setVm s.vm).setFrames (.invoking m args :: below)).setFrames (T.setVm s.vm).frames with heap := T.heap, slotsUsed := T.slotsUsed }
      rw [State.setFrames_setFrames, State.setFrames_self hth]
      rfl
    · show T.slotsUsed = T.slotsUsed + ((T.heap.toList.drop T.heap.size).map (·.slots.size)).sum
      rw [hnil]; rfl
    · show ((T.heap.toList.drop T.heap.size).map (·.slots.size)).sum ≤ 0
      rw [hnil]; exact Nat.le_refl _
  exact ⟨X.admits, X.cas, X.clock, hF, hroom, X.hears, X.method, X.code, X.here, X.tail, X.warmed, by rw [State.stackLimits_setFrames]; rfl, by rw [State.stackBytes_setFrames]; rfl, hsame⟩
theorem fx_thr {tx : String} {names : List String} {iN iS ic : Nat} (F : CallFix p m c cc nL s args tb own) (w : fm_w D ad cA n0 s M H locs) (hlk : meth.locks = false) (hno : c.exceptionTable.isEmpty = true) (htr : l.stackTraces = false)
    (hcl : Cond.classLink own iN E ∈ tb) (hin : Cond.instantiable E 6 ∈ tb) (hini : Cond.initialized E ∈ tb) (hstr : Cond.stringRef own iS tx ∈ tb) (hfit : Bundle.fit E = true) (hfn : ∀ n ∈ names, Bundle.fit n = true)
    (hat : ∀ {n0 : Nat} {s : State} {args : Array Value}, (∀ w ∈ tb, w.before args s = true) → cg_hp n0 s → ∀ w ∈ Bundle.ownAtoms own ic E names, w.before args s = true)
    (hsz : ls.size = nL) (hf : names.length + 3 < R.frames) (hlo : 13 * (names.length + 1) + 43 ≤ R.locals) (hc : 1 ≤ R.cells) (hs : 6 ≤ R.slots) (ht : thr E M)
    (d0 : decode cc pc = .ok (.new iN, 3)) (d1 : decode cc (pc + 3) = .ok (.dup, 1)) (d2 : decode cc (pc + 4) = .ok (.ldc iS, 2)) (d3 : decode cc (pc + 6) = .ok (.invokespecial ic, 3)) (d4 : decode cc (pc + 9) = .ok (.athrow, 1)) :
    W p l e R s m args below meth c H locs 0 0 (fx_Q below D ad cA n0 kd post thr s) (F0 m pc ls []) := by
  intro T hT X
  have Y := fx_base (R' := { frames := R.frames, locals := R.locals, cells := 1, slots := 6 }) X (Nat.le_refl _) (Nat.le_refl _) (by show 0 + 1 ≤ _; omega) (by show 0 + 6 ≤ _; omega)
  obtain ⟨s', hA⟩ : ∃ z, z = (T.setVm s.vm).setFrames (.invoking m args :: below) := ⟨_, rfl⟩
  rw [← hA] at Y
  have hvm : s'.vm = s.vm := by rw [hA]; rfl
  have hhp : s'.heap = H := by rw [hA]; exact hT
  have hW0 : s.WarmedH s'.vm := by rw [hvm]; exact State.WarmedH.refl s
  have F' : CallFix p m c cc nL s' args tb own := ⟨F.1, F.2.1, F.2.2.1, by rw [hvm]; exact F.2.2.2.1, fun w h => cg_warm (tb_ok h) hW0 (F.2.2.2.2 w h)⟩
  have hh' : cg_hp n0 s' := cg_hp.go w.2 hW0.alike (fun q h1 h2 => by rw [hhp]; exact w.1.2.2.2.1.2.1 q h1 h2)
  obtain ⟨sa, hsa⟩ := cg_str F'.2.2.2.1 (F'.2.2.2.2 _ hstr)
  obtain ⟨t, a1, x, b1, b2, ⟨ce, hce, hcv, hcc⟩, hWm, L, hsm, hL⟩ := cg_thr (R := { frames := R.frames, locals := R.locals, cells := 1, slots := 6 }) (H := s'.heap) (locs := []) (cells := 0) (slots := 0) (mc := 1) (ms := 6) (A := fun _ => False) (below := below) F' va_S.rf hlk hno htr (fun x hx => by cases hx) hcl hin hini hsa hfit hfn (hat F'.2.2.2.2 hh') hsz hf hlo (Nat.le_refl _) (Nat.le_refl _) (Nat.le_refl _) (Nat.le_refl _) d0 d1 d2 d3 d4 T (hT.trans hhp.symm) Y
  have hF := cg_same (A := fun _ => False) hsm hL
  have hkeep : ∀ q : Nat, q < H.size → t.heap[q]? = H[q]? := fun q hq => by rw [← hhp] at hq ⊢; exact hF.2 q hq (fun h => h)
  have hL0 : L = [] := by
    cases L with
    | nil => rfl
    | cons z L => exact absurd (hL z List.mem_cons_self) (fun h => h)
  subst hL0
  refine ⟨t, a1, .threw x, b1, b2, Or.inr ⟨x, E, M, rfl, ht, ⟨w.1.1.kept (fun j q hq => hkeep q.1 ((w.1.1 j q hq).lt)), va_K.moved (State.WarmedH.trans hW0 hWm).alike w.1.2.2.1, w.1.2.1⟩, ⟨ce, hce, hcv, by rw [← hvm]; exact hcc⟩, State.WarmedH.trans hW0 hWm, locs, ?_, w.1.2.2.2.1.2.2⟩⟩
  rw [hvm] at hsm
  rw [hA] at hsm
  obtain ⟨e1, e2⟩ := hsm
  rw [State.setFrames_setFrames] at e1
  have h2 : (T.setVm s.vm).sameButNew ({ t with vm := s.vm } : State) [] 1 6 := ⟨e1, e2⟩
  have h3 := X.same.trans h2
  rw [List.append_nil] at h3
  exact h3.mono (by omega) (by omega)
end FxThr
