/-! A method over the flat memory: it returns with a number and a memory, or throws with a memory; its start, ends, calls. -/
def fx_o (ad : Nat → Nat) (kd : Nat) (r : Int) : Option Value := match kd with
  | 0 => some (.int (Int32.ofInt r))
  | 1 => some (.long (Int64.ofInt r))
  | 2 => some (.ref (ad r.toNat))
  | _ => none
abbrev fx_Wd (D : va_G) (ad : Nat → Nat) (cA : Nat → ClassId) (n0 : Nat) (M : fm_M) (t : State) : Prop :=
  va_P D classes (fm_ws ad cA M) t.heap ∧ va_K D classes (fm_ty cA) t ∧ va_D (fun q => n0 ≤ q) (fm_ws ad cA M)
abbrev fx_Pre (D : va_G) (ad : Nat → Nat) (cA : Nat → ClassId) (n0 : Nat) (M : fm_M) (U : State) : Prop :=
  fx_Wd D ad cA n0 M U ∧ cg_hp n0 U ∧ n0 ≤ U.heap.size
def fx_out (D : va_G) (ad : Nat → Nat) (cA : Nat → ClassId) (n0 kd : Nat) (post : Int → fm_M → Prop) (thr : String → fm_M → Prop) (st : State) (o : Outcome) (t : State) : Prop :=
  (∃ (r : Int) (M1 : fm_M), o = .returned (fx_o ad kd r) ∧ post r M1 ∧ fx_Wd D ad cA n0 M1 t ∧ st.WarmedH t.vm ∧ ∃ L : List Loc, st.sameButNew ({ t with vm := st.vm } : State) L 0 0 ∧ ∀ z ∈ L, n0 ≤ z.base) ∨
  (∃ (x : Addr) (E : String) (M1 : fm_M), o = .threw x ∧ thr E M1 ∧ fx_Wd D ad cA n0 M1 t ∧ cg_Th E (fun q => n0 ≤ q) st x t 1 6)
def fx_Met (l : Launch) (y : MethodName) (ws : List Cond) (rm : Room) (av : List Value) (D : va_G) (ad : Nat → Nat) (cA : Nat → ClassId) (n0 : Nat) (M : fm_M) (kd : Nat) (post : Int → fm_M → Prop) (thr : String → fm_M → Prop) : Prop :=
  MetFree l y (headSpec ws rm) (va_Pc av (fx_Pre D ad cA n0 M)) (fun _ _ _ _ _ => True) (fun _ st o t => fx_out D ad cA n0 kd post thr st o t)
def fx_Q (below : List Frame) (D : va_G) (ad : Nat → Nat) (cA : Nat → ClassId) (n0 kd : Nat) (post : Int → fm_M → Prop) (thr : String → fm_M → Prop) (s : State) : State → Prop := fun t =>
  ∃ o, t.status = .running ∧ Ended t below o ∧ fx_out D ad cA n0 kd post thr s o t
section FxRows
variable {p : Program} {l : Launch} {e : Env} {R rm : Room} {s : State} {m : MethodId} {args : Array Value} {below : List Frame} {meth : Method} {c : Code} {H : Heap} {locs : List Loc} {cells slots : Nat} {Q : State → Prop}
variable {cc bytes : ByteArray} {pc nL n maxL index : Nat} {ls : Array Slot} {rest st0 As av : List Value} {D : va_G} {own host C E : String} {ad : Nat → Nat} {cA : Nat → ClassId} {M : fm_M} {n0 kd kc : Nat} {y : MethodName} {ret : Option FieldType}
variable {post pst : Int → fm_M → Prop} {thr : String → fm_M → Prop} {b : Nat}
theorem fx_met (hy : plainName y.cls = true) (hn : (lg_sl av).length ≤ n)
    (body : ∀ (p : Program) (e : Env) (s : State) (m : MethodId) (below : List Frame) (meth : Method) (c : Code) (ls : Array Slot), CallFix p m c cc n s av.toArray tb y.cls → fm_w D ad cA n0 s M s.heap [] → c.exceptionTable.isEmpty = true → meth.sig.returnType = ret → meth.locks = false → lv_has ls n (lv_args 0 av) →
      W p l e rm s m av.toArray below meth c s.heap [] 0 0 (fx_Q below D ad cA n0 kd post thr s) (F0 m 0 ls [])) :
    fx_Met l y (Cond.code y cc n ret :: tb) rm av D ad cA n0 M kd post thr := by
  refine MetFree.of_bodyS (code := cc) (maxLocals := n) (ret := ret) hy ?_ ?_
  · intro args s m h hn
    obtain ⟨meth, c, h1, h2, h3, h4, h5, h6, -, -⟩ := Cond.code_spec hn (atoms_spec (ws := Cond.code y cc n ret :: tb) h _ List.mem_cons_self)
    exact ⟨meth, c, h1, h2, h3, h4, h5, h6⟩
  · intro p e s m args below meth c s₁ B hml hP _
    obtain ⟨rfl, ⟨hP1, hK1, hD1⟩, hh, hsz⟩ := hP
    have hts := atoms_spec (ws := Cond.code y cc n ret :: tb) B.pre
    have hno := B.noHandlers (hts _ List.mem_cons_self)
    have hh0 : s₁.heap = s.heap := by rw [B.state]; rfl
    have hb := body p e s m below meth c _ ⟨B.exec, B.bytes, hml, findClass_of_methodNamed B.named, fun w h => hts w (List.mem_cons_of_mem _ h)⟩ ⟨⟨hP1, hD1, hK1, va_S.rf, fun q h => Nat.le_trans hsz h⟩, hh⟩ hno B.returns B.notSynchronized (lv_entry av hn)
    rw [← lg_entry_eq] at hb
    obtain ⟨t, a1, o, b1, b2, b3⟩ := hb s₁ hh0 (Stand.of_body B)
    exact ⟨t, o, a1, b1, b2, b3⟩
theorem fx_end {t : State} {o : Outcome} {r : Int} (w : fm_w D ad cA n0 s M H locs) (hp : post r M) (ho : o = .returned (fx_o ad kd r)) (ht : t.heap = H) {L : List Loc} (hF : FrameEnd s o t L 0 0) (hL : ∀ z ∈ L, n0 ≤ z.base) : fx_out D ad cA n0 kd post thr s o t :=
  Or.inl ⟨r, M, ho, hp, ⟨by rw [ht]; exact w.1.1, va_K.moved hF.2.1.alike w.1.2.2.1, w.1.2.1⟩, hF.2.1, L, hF.2.2, hL⟩
theorem fx_iret (F : CallFix p m c cc nL s args tb own) (w : fm_w D ad cA n0 s M H locs) (hr : meth.sig.returnType = some .int) (hlk : meth.locks = false) {v : Int} (hp : post v M) (hdg : decode cc pc = .ok (.ireturn, 1)) : W p l e R s m args below meth c H locs 0 0 (fx_Q below D ad cA n0 0 post thr s) (F0 m pc ls [.int (Int32.ofInt v)]) := by
  intro T hT X
  obtain ⟨t, a1, o, b1, b2, b3, L, hF, hL⟩ := W.iret (Qc := fun _ _ o t => o = .returned (some (.int (Int32.ofInt v))) ∧ t.heap = H) (free := fun q => n0 ≤ q) F.1 F.2.1 hr (fun t ht hW => ⟨rfl, ht⟩) w.1.2.2.2.1.2.2 hdg hlk T hT X
  exact ⟨t, a1, o, b1, b2, fx_end w hp b3.1 b3.2 hF hL⟩
theorem fx_zret {ft : FieldType} (F : CallFix p m c cc nL s args tb own) (w : fm_w D ad cA n0 s M H locs) (hr : meth.sig.returnType = some ft) (hlk : meth.locks = false) {v : Int} (hn : narrow ft (.int (Int32.ofInt v)) = .int (Int32.ofInt v)) (hp : post v M) (hdg : decode cc pc = .ok (.ireturn, 1)) : W p l e R s m args below meth c H locs 0 0 (fx_Q below D ad cA n0 0 post thr s) (F0 m pc ls [.int (Int32.ofInt v)]) := by
  intro T hT X
  obtain ⟨t, a1, o, b1, b2, b3, L, hF, hL⟩ := W.zret (Qc := fun _ _ o t => o = .returned (some (.int (Int32.ofInt v))) ∧ t.heap = H) (free := fun q => n0 ≤ q) F.1 F.2.1 hr hn (fun t ht hW => ⟨rfl, ht⟩) w.1.2.2.2.1.2.2 hdg hlk T hT X
  exact ⟨t, a1, o, b1, b2, fx_end w hp b3.1 b3.2 hF hL⟩
theorem fx_lret (F : CallFix p m c cc nL s args tb own) (w : fm_w D ad cA n0 s M H locs) (hr : meth.sig.returnType = some .long) (hlk : meth.locks = false) {v : Int} (hp : post v M) (hdg : decode cc pc = .ok (.lreturn, 1)) : W p l e R s m args below meth c H locs 0 0 (fx_Q below D ad cA n0 1 post thr s) (F0 m pc ls [.long (Int64.ofInt v)]) := by
  intro T hT X
  obtain ⟨t, a1, o, b1, b2, b3, L, hF, hL⟩ := W.lret (Qc := fun _ _ o t => o = .returned (some (.long (Int64.ofInt v))) ∧ t.heap = H) (free := fun q => n0 ≤ q) F.1 F.2.1 hr (fun t ht hW => ⟨rfl, ht⟩) w.1.2.2.2.1.2.2 hdg hlk T hT X
  exact ⟨t, a1, o, b1, b2, fx_end w hp b3.1 b3.2 hF hL⟩
theorem fx_vret (F : CallFix p m c cc nL s args tb own) (w : fm_w D ad cA n0 s M H locs) (hr : meth.sig.returnType = none) (hlk : meth.locks = false) (hp : post 0 M) (hdg : decode cc pc = .ok (.return_, 1)) : W p l e R s m args below meth c H locs 0 0 (fx_Q below D ad cA n0 3 post thr s) (F0 m pc ls []) := by
  intro T hT X
  obtain ⟨t, a1, o, b1, b2, b3, L, hF, hL⟩ := W.vret (Qc := fun _ _ o t => o = .returned none ∧ t.heap = H) (free := fun q => n0 ≤ q) F.1 F.2.1 hr (fun t ht hW => ⟨rfl, ht⟩) w.1.2.2.2.1.2.2 hdg hlk T hT X
  exact ⟨t, a1, o, b1, b2, fx_end w hp b3.1 b3.2 hF hL⟩
/-- the memory's world behind a call, seen from the caller -/
theorem fx_back {T T' : State} {M1 : fm_M} {L : List Loc} (w : fm_w D ad cA n0 s M H locs) (hT : T.heap = H) {k q : Nat} (X' : Stand p l e R s m args below meth c T' (locs ++ L) k q) (hW : fx_Wd D ad cA n0 M1 T') (hF : va_F (fun q => n0 ≤ q) T T') (hL : ∀ z ∈ L, n0 ≤ z.base) : fm_w D ad cA n0 s M1 T'.heap (locs ++ L) := by
  refine ⟨⟨hW.1, hW.2.2, va_K.moved X'.warmed.alike.symm hW.2.1, ⟨?_, ?_, ?_⟩, w.1.2.2.2.2⟩, w.2⟩
  · exact Nat.le_trans w.1.2.2.2.1.1 (by rw [← hT]; exact hF.1)
  · intro q h1 h2
    rw [← w.1.2.2.2.1.2.1 q h1 h2, ← hT]
    exact hF.2 q (by rw [hT]; exact Nat.lt_of_lt_of_le h1 w.1.2.2.2.1.1) h2
  · intro z hz
    exact (List.mem_append.mp hz).elim (w.1.2.2.2.1.2.2 z) (hL z)
/-- a call, over the two ways that it ends -/
def fx_Run (p : Program) (l : Launch) (e : Env) (R : Room) (s : State) (m : MethodId) (args : Array Value) (below : List Frame) (meth : Method) (c : Code) (D : va_G) (ad : Nat → Nat) (cA : Nat → ClassId) (n0 kc : Nat) (pst : Int → fm_M → Prop) (thr : String → fm_M → Prop) (H : Heap) (locs : List Loc) (cells slots : Nat) (g : JFrame) (rest : List Value) : Prop :=
  ∀ T : State, T.heap = H → Stand p l e R s m args below meth c T locs cells slots →
    (∃ (r : Int) (M1 : fm_M) (T' : State) (L : List Loc), Stand p l e R s m args below meth c T' (locs ++ L) cells slots ∧ pst r M1 ∧ fx_Wd D ad cA n0 M1 T' ∧ va_F (fun q => n0 ≤ q) T T' ∧ (∀ z ∈ L, n0 ≤ z.base) ∧ ∀ target, Steps p.tables e below (T'.setTop { g with pc := g.pc + 3, stack := (fx_o ad kc r).toList ++ rest }) target → Steps p.tables e below (T.setTop g) target) ∨
    (∃ (x : Addr) (E : String) (M1 : fm_M) (T' : State) (L : List Loc), Stand p l e R s m args below meth c T' (locs ++ L) (cells + 1) (slots + 6) ∧ thr E M1 ∧ fx_Wd D ad cA n0 M1 T' ∧ va_F (fun q => n0 ≤ q) T T' ∧ (∀ z ∈ L, n0 ≤ z.base) ∧ (∃ ce : Cell, T'.heap[x]? = some ce ∧ ce.vm = .none ∧ s.vm.findClass E = some ce.cls) ∧ Steps p.tables e below (T.setTop g) ((T'.setTop { g with stack := rest }).pushFrame (.throwing x)))
theorem fx_in {T : State} {vm₁ : Vm} {g : JFrame} {ig : Instr} {mk : MethodId} {a : Array Value} {hd : Cond} {hh : List Cond} (hM : fx_Met l y (hd :: hh) rm av D ad cA n0 M kc pst thr) (hok : ∀ w ∈ hd :: hh, ∀ (a' : Array Value) (U : State), s.WarmedH U.vm → w.before a' U = true)
    {methY : Method} {cY : Code} (hmY : (T.setVm vm₁).vm.method? mk = some methY) (hcY : methY.code = some cY) (hlY : cY.maxLocals = maxL) (hini : (Cond.initialized y.cls).before a (T.setVm vm₁) = true)
    (hfr9 : rm.frames + 1 ≤ R.frames) (hlo9 : 8 + (maxL + 11) + rm.locals ≤ R.locals) (hc9 : cells + rm.cells ≤ R.cells) (hs9 : slots + rm.slots ≤ R.slots) (X : Stand p l e R s m args below meth c (T.setVm vm₁) locs cells slots) (hg : g.method = m) (hsize : g.locals.size = c.maxLocals) (hdg : decode c.code g.pc = .ok (ig, 3)) (hW : 2 * g.monitorRoom + (g.stack.map fun v => v.category).sum ≤ 8) (hn : (T.setVm vm₁).methodNamed? y = some mk) (ha : a = av.toArray) (hPc : fx_Pre D ad cA n0 M ((T.setVm vm₁).calling g mk a)) :
    (∃ (r : Int) (M1 : fm_M) (T' : State) (L : List Loc), Stand p l e R s m args below meth c T' (locs ++ L) cells slots ∧ pst r M1 ∧ fx_Wd D ad cA n0 M1 T' ∧ va_F (fun q => n0 ≤ q) T T' ∧ (∀ z ∈ L, n0 ≤ z.base) ∧ Steps p.tables e below (doInvoke e ((T.setVm vm₁).setTop g) [] mk a).1 (T'.setTop { g with pc := g.pc + 3, stack := (fx_o ad kc r).toList ++ g.stack })) ∨
    (∃ (x : Addr) (E : String) (M1 : fm_M) (T' : State) (L : List Loc), Stand p l e R s m args below meth c T' (locs ++ L) (cells + 1) (slots + 6) ∧ thr E M1 ∧ fx_Wd D ad cA n0 M1 T' ∧ va_F (fun q => n0 ≤ q) T T' ∧ (∀ z ∈ L, n0 ≤ z.base) ∧ (∃ ce : Cell, T'.heap[x]? = some ce ∧ ce.vm = .none ∧ s.vm.findClass E = some ce.cls) ∧ Steps p.tables e below (doInvoke e ((T.setVm vm₁).setTop g) [] mk a).1 ((T'.setTop g).pushFrame (.throwing x))) := by
  have h1 : (headSpec (hd :: hh) rm).pre.before a (T.setVm vm₁) = true := atoms_intro fun w hw => hok w hw _ _ X.warmed
  obtain ⟨kY, hkY, -⟩ := className_of_methodNamed hn
  have hinitY : kY.init = .initialized := Cond.initialized_spec (findClass_of_methodNamed hn) hkY hini
  have h : At (T.setVm vm₁) g.method c below := by rw [hg]; exact X.here
  have hlo8 : 8 + (maxL + 11) + (headSpec (hd :: hh) rm).room.locals ≤ R.locals := hlo9
  have happ : (headSpec (hd :: hh) rm).appliesLoose y e.platform ((T.setVm vm₁).calling g mk a) = true :=
    Spec.appliesLoose_calling (g := g) h hdg hn hkY hinitY
      (X.room_calling (g := g) (R' := (headSpec (hd :: hh) rm).room) hsize hmY hcY hfr9 (by rw [hlY]; omega) hc9 hs9) h1
  obtain ⟨mid, hmid⟩ := h.above
  have hfr : ((T.setVm vm₁).setTop g).frames = (.java g :: mid) ++ below := by rw [State.frames_setTop' g h.top, hmid]; rfl
  obtain ⟨o, s₂, hsteps, -, hend, hq⟩ := Steps.callFree hM p X.admits X.cas X.clock (acts := []) hfr happ ⟨ha, hPc⟩ trivial
  rw [State.frames_setTop' g h.top, X.tail] at hend
  rcases hq with ⟨r, M1, rfl, hp, hWd, hWm, L, hsm, hL⟩ | ⟨x, E, M1, rfl, ht9, hWd, ⟨ce, hce, hcv, hcc⟩, hWm, L, hsm, hL⟩
  · obtain ⟨T', X', hW', hsame', ht⟩ := X.outOf hg hdg hend hWm hsm
    have hF := cg_same hsm hL
    have hhp : s₂.heap = T'.heap := by rw [ht]; rfl
    have hvm : s₂.vm = T'.vm := by rw [ht]; rfl
    refine Or.inl ⟨r, M1, T', L, X', hp, ⟨by rw [← hhp]; exact hWd.1, ?_, hWd.2.2⟩, ⟨by rw [← hhp]; exact hF.1, fun q h1 h2 => by rw [← hhp]; exact hF.2 q h1 h2⟩, hL, by rw [← ht]; exact hsteps⟩
    have hal : s₂.vm.Alike T'.vm := by rw [hvm]; exact Vm.Alike.refl _
    exact va_K.moved hal hWd.2.1
  · obtain ⟨T', X', hW', hsame', ht⟩ := X.outOfThrown hg hend hWm hsm
    have hF := cg_same hsm hL
    have hhp : s₂.heap = T'.heap := by rw [ht]; exact Stand.throwing_heap T' g x
    have hvm : s₂.vm = T'.vm := by rw [ht]; exact Stand.throwing_vm T' g x
    have hal : s₂.vm.Alike T'.vm := by rw [hvm]; exact Vm.Alike.refl _
    refine Or.inr ⟨x, E, M1, T', L, X', ht9, ⟨by rw [← hhp]; exact hWd.1, va_K.moved hal hWd.2.1, hWd.2.2⟩, ⟨by rw [← hhp]; exact hF.1, fun q h1 h2 => by rw [← hhp]; exact hF.2 q h1 h2⟩, hL, ⟨ce, by rw [← hhp]; exact hce, hcv, ?_⟩, by rw [← ht]; exact hsteps⟩
    have h9 : ((T.setVm vm₁).calling g mk a).vm.findClass E = s.vm.findClass E := X.warmed.alike.findClass E _
    rw [← h9]; exact hcc
theorem fx_pre {T : State} {vm₁ : Vm} {g : JFrame} {mk : MethodId} {a : Array Value} (w : fm_w D ad cA n0 s M H locs) (hT : T.heap = H) (hW : s.WarmedH vm₁) : fx_Pre D ad cA n0 M ((T.setVm vm₁).calling g mk a) := by
  have hh : ((T.setVm vm₁).calling g mk a).heap = H := hT
  refine ⟨⟨by rw [hh]; exact w.1.1, va_K.moved hW.alike w.1.2.2.1, w.1.2.1⟩, cg_hp.go w.2 hW.alike (fun q h1 h2 => by rw [hh]; exact w.1.2.2.2.1.2.1 q h1 h2), ?_⟩
  rw [hh]
  exact Nat.le_trans (w.1.2.2.2.2 _ (Nat.le_refl _)) w.1.2.2.2.1.1
abbrev fx_rm (R rm : Room) (maxL cells slots : Nat) : Prop := (rm.frames + 1 ≤ R.frames ∧ 8 + (maxL + 11) + rm.locals ≤ R.locals) ∧ cells + rm.cells ≤ R.cells ∧ slots + rm.slots ≤ R.slots
theorem fx_rV {ci : Nat} {T0 : u_T} {N : Nat} {ty : Nat → FieldType} {ks : List Nat} (F : CallFix p m c cc nL s args tb own) (w : fm_w D ad cA n0 s M H locs) (K : cg_C classes ci C T0 N ty) (k : Nat) (hT : k < nC ∧ TC k = .inl (ci, ks)) (hM : fx_Met l y (Cond.code y bytes maxL ret :: tb) rm (.ref (ad k) :: As) D ad cA n0 M kc pst thr) (hE : cg_E y bytes maxL ret n) (hi : Cond.instanceMethod y ∈ tb) (hse : Cond.selects C y y ∈ tb) (hl : Cond.methodLink own index y ∈ tb) (hn : As.length = n) (hsz : ls.size = nL) (hst : st0 = As.reverse ++ .ref (ad k) :: rest) (hW : (rest.map fun v => v.category).sum ≤ 8) (hrm : fx_rm R rm maxL cells slots) (hdg : decode cc pc = .ok (.invokevirtual index, 3)) :
    fx_Run p l e R s m args below meth c D ad cA n0 kc pst thr H locs cells slots (F0 m pc ls st0) rest := by
  obtain ⟨hx, hb, hml, ho, hts⟩ := F
  obtain ⟨cellB, hcB, hoB, hclB⟩ := va_recv w.1.2.2.1 w.1.1 K.2.1 (fm_atO hT)
  have hy : y.cls ≠ "java/lang/invoke/MethodHandle" ∧ y.cls ≠ "java/lang/invoke/VarHandle" := ⟨hE.2.2.1, hE.2.2.2.1⟩
  intro T hT X
  obtain ⟨mk, methM, hnamed, hmethM, hstM, habM⟩ := Cond.instanceMethod_spec (hts _ hi)
  obtain ⟨methM', cM, hmethM', hcM, -, hlM, -, -, -, hsigM⟩ := Cond.code_spec hnamed (hts _ hE.1)
  cases hmethM.symm.trans hmethM'
  obtain ⟨c2, r2, m2, q1, q2, q3, q4, kP, hkP, hkPi⟩ := Cond.selects_spec (hts _ hse)
  cases hclB.symm.trans q1
  cases (State.methodFound?_of_named hnamed hy).symm.trans q2
  cases hnamed.symm.trans q3
  have hselP : selectMethod e.platform s.vm cellB.cls mk = .method mk := by rw [Launch.admits_selectMethod X.admits]; exact q4
  obtain ⟨vm₁, X₁, hstep₁⟩ := X.invokevirtual hx ho (hts _ hl) hnamed hmethM hstM hkP hkPi hy (a := ad k) (cell := cellB) (by rw [hT]; exact hcB)
    (fun z h => by rw [h] at hoB; cases hoB) hselP hmethM habM hkP hkPi (g := F0 m pc ls st0) rfl (argsL := As) (rest := rest) (hn.trans (cg_len hE _ hsigM)) hst (by rw [hb]; exact hdg)
  rcases fx_in (g := F0 m pc ls rest) (a := (Value.ref (ad k) :: As).toArray) hM (cg_words ⟨hx, hb, hml, ho, hts⟩ hE.1) (by rw [X₁.warmed.alike.method?]; exact hmethM) hcM hlM (cg_warm (tb_ok hE.2.1) X₁.warmed (hts _ hE.2.1)) hrm.1.1 hrm.1.2 hrm.2.1 hrm.2.2 X₁ rfl (hsz.trans hml.symm) (by rw [hb]; exact hdg) (lv_room hW) (X₁.named hnamed) rfl (fx_pre w hT X₁.warmed) with ⟨r, M1, T', L, X', hp, hWd, hF, hL, st⟩ | ⟨x, E, M1, T', L, X', ht9, hWd, hF, hL, hce, st⟩
  · exact Or.inl ⟨r, M1, T', L, X', hp, hWd, hF, hL, fun target h => hstep₁ _ fun acts => by rw [doInvoke_state]; exact st.trans h⟩
  · exact Or.inr ⟨x, E, M1, T', L, X', ht9, hWd, hF, hL, hce, hstep₁ _ fun acts => by rw [doInvoke_state]; exact st⟩
theorem fx_rS (F : CallFix p m c cc nL s args tb own) (w : fm_w D ad cA n0 s M H locs) (hM : fx_Met l y (Cond.code y bytes maxL ret :: tb) rm As D ad cA n0 M kc pst thr) (hE : cg_E y bytes maxL ret n) (hi : Cond.static y ∈ tb) (hl : Cond.methodLink own index y ∈ tb) (hn : As.length = n) (hsz : ls.size = nL) (hst : st0 = As.reverse ++ rest) (hW : (rest.map fun v => v.category).sum ≤ 8) (hrm : fx_rm R rm maxL cells slots) (hdg : decode cc pc = .ok (.invokestatic index, 3)) :
    fx_Run p l e R s m args below meth c D ad cA n0 kc pst thr H locs cells slots (F0 m pc ls st0) rest := by
  obtain ⟨hx, hb, hml, ho, hts⟩ := F
  have hy : y.cls ≠ "java/lang/invoke/MethodHandle" ∧ y.cls ≠ "java/lang/invoke/VarHandle" := ⟨hE.2.2.1, hE.2.2.2.1⟩
  intro T hT X
  obtain ⟨mk, hnamed⟩ := Cond.code_named (hts _ hE.1)
  obtain ⟨methM, cM, hmethM, hcM, -, hlM, -, -, -, hsigM⟩ := Cond.code_spec hnamed (hts _ hE.1)
  have hstatic : methM.isStatic = true := Cond.static_spec hnamed hmethM (hts _ hi)
  obtain ⟨kP, hkP, -⟩ := className_of_methodNamed hnamed
  have hinitP : kP.init = .initialized := Cond.initialized_spec (findClass_of_methodNamed hnamed) hkP (hts _ hE.2.1)
  obtain ⟨vm₁, X₁, hstep₁⟩ := X.invokestatic hx ho (hts _ hl) hnamed hmethM hstatic hkP hinitP hy (g := F0 m pc ls st0) rfl (argsL := As) (rest := rest) (hn.trans (cg_len hE _ hsigM)) hst (by rw [hb]; exact hdg)
  rcases fx_in (g := F0 m pc ls rest) (a := As.toArray) hM (cg_words ⟨hx, hb, hml, ho, hts⟩ hE.1) (by rw [X₁.warmed.alike.method?]; exact hmethM) hcM hlM (cg_warm (tb_ok hE.2.1) X₁.warmed (hts _ hE.2.1)) hrm.1.1 hrm.1.2 hrm.2.1 hrm.2.2 X₁ rfl (hsz.trans hml.symm) (by rw [hb]; exact hdg) (lv_room hW) (X₁.named hnamed) rfl (fx_pre w hT X₁.warmed) with ⟨r, M1, T', L, X', hp, hWd, hF, hL, st⟩ | ⟨x, E, M1, T', L, X', ht9, hWd, hF, hL, hce, st⟩
  · exact Or.inl ⟨r, M1, T', L, X', hp, hWd, hF, hL, fun target h => hstep₁ _ fun acts => by rw [doInvoke_state]; exact st.trans h⟩
  · exact Or.inr ⟨x, E, M1, T', L, X', ht9, hWd, hF, hL, hce, hstep₁ _ fun acts => by rw [doInvoke_state]; exact st⟩
theorem fx_rSN (F : CallFix p m c cc nL s args tb own) (w : fm_w D ad cA n0 s M H locs) (hM : fx_Met l y (Cond.code y bytes maxL ret :: tb) rm As D ad cA n0 M kc pst thr) (hE : cg_E y bytes maxL ret n) (hi : Cond.static y ∈ tb) (hl : Cond.methodLinkNest own index y host ∈ tb) (hn : As.length = n) (hsz : ls.size = nL) (hst : st0 = As.reverse ++ rest) (hW : (rest.map fun v => v.category).sum ≤ 8) (hrm : fx_rm R rm maxL cells slots) (hdg : decode cc pc = .ok (.invokestatic index, 3)) :
    fx_Run p l e R s m args below meth c D ad cA n0 kc pst thr H locs cells slots (F0 m pc ls st0) rest := by
  obtain ⟨hx, hb, hml, ho, hts⟩ := F
  have hy : y.cls ≠ "java/lang/invoke/MethodHandle" ∧ y.cls ≠ "java/lang/invoke/VarHandle" := ⟨hE.2.2.1, hE.2.2.2.1⟩
  intro T hT X
  obtain ⟨mk, hnamed⟩ := Cond.code_named (hts _ hE.1)
  obtain ⟨methM, cM, hmethM, hcM, -, hlM, -, -, -, hsigM⟩ := Cond.code_spec hnamed (hts _ hE.1)
  have hstatic : methM.isStatic = true := Cond.static_spec hnamed hmethM (hts _ hi)
  obtain ⟨kP, hkP, -⟩ := className_of_methodNamed hnamed
  have hinitP : kP.init = .initialized := Cond.initialized_spec (findClass_of_methodNamed hnamed) hkP (hts _ hE.2.1)
  obtain ⟨vm₁, X₁, hstep₁⟩ := X.invokestaticNest hx ho (hts _ hl) hnamed hmethM hstatic hkP hinitP hy (g := F0 m pc ls st0) rfl (argsL := As) (rest := rest) (hn.trans (cg_len hE _ hsigM)) hst (by rw [hb]; exact hdg)
  rcases fx_in (g := F0 m pc ls rest) (a := As.toArray) hM (cg_words ⟨hx, hb, hml, ho, hts⟩ hE.1) (by rw [X₁.warmed.alike.method?]; exact hmethM) hcM hlM (cg_warm (tb_ok hE.2.1) X₁.warmed (hts _ hE.2.1)) hrm.1.1 hrm.1.2 hrm.2.1 hrm.2.2 X₁ rfl (hsz.trans hml.symm) (by rw [hb]; exact hdg) (lv_room hW) (X₁.named hnamed) rfl (fx_pre w hT X₁.warmed) with ⟨r, M1, T', L, X', hp, hWd, hF, hL, st⟩ | ⟨x, E, M1, T', L, X', ht9, hWd, hF, hL, hce, st⟩
  · exact Or.inl ⟨r, M1, T', L, X', hp, hWd, hF, hL, fun target h => hstep₁ _ fun acts => by rw [doInvoke_state]; exact st.trans h⟩
  · exact Or.inr ⟨x, E, M1, T', L, X', ht9, hWd, hF, hL, hce, hstep₁ _ fun acts => by rw [doInvoke_state]; exact st⟩
/-- a call goes on, or its throw leaves this method too -/
theorem fx_c (w : fm_w D ad cA n0 s M H locs) (hno : c.exceptionTable.isEmpty = true) (hlk : meth.locks = false) (hr : fx_Run p l e R s m args below meth c D ad cA n0 kc pst thr H locs 0 0 (F0 m pc ls st0) rest)
    (kk : ∀ (r : Int) (M1 : fm_M), pst r M1 → ∀ (H1 : Heap) (locs1 : List Loc), fm_w D ad cA n0 s M1 H1 locs1 → W p l e R s m args below meth c H1 locs1 0 0 (fx_Q below D ad cA n0 kd post thr s) (F0 m (pc + 3) ls ((fx_o ad kc r).toList ++ rest))) : W p l e R s m args below meth c H locs 0 0 (fx_Q below D ad cA n0 kd post thr s) (F0 m pc ls st0) := by
  intro T hT X
  rcases hr T hT X with ⟨r, M1, T', L, X', hp, hWd, hF, hL, st⟩ | ⟨x, E, M1, T', L, X', ht9, hWd, hF, hL, hce, st⟩
  · obtain ⟨t, a1, b1⟩ := kk r M1 hp T'.heap (locs ++ L) (fx_back w hT X' hWd hF hL) T' rfl X'
    exact ⟨t, st t a1, b1⟩
  · obtain ⟨st1, hrun, hend, hW, hsm⟩ := X'.leaveThrown x (g := F0 m pc ls rest) rfl rfl rfl (fun x hx => by rw [Array.isEmpty_iff.mp hno] at hx; cases hx) hlk
    have w1 := fx_back w hT X' hWd hF hL
    exact ⟨_, st.trans st1, .threw x, hrun, hend, Or.inr ⟨x, E, M1, rfl, ht9, hWd, hce, hW, locs ++ L, hsm.mono (by omega) (by omega), w1.1.2.2.2.1.2.2⟩⟩
end FxRows
