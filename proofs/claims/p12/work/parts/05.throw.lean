/-! Own rows: a method that ends by a throw (a new exception of the JDK with a text, launches without stack traces), its call, and its going on to the caller. -/
theorem cg_same {s U : State} {locs : List Loc} {k n : Nat} {A : Nat → Prop} (h : s.sameButNew ({ U with vm := s.vm } : State) locs k n) (hl : ∀ z ∈ locs, A z.base) : va_F A s U := by
  obtain ⟨-, h2, -, -, -, h6⟩ := h
  refine ⟨h2, fun q hq hA => ?_⟩
  obtain ⟨c9, e1, e2, e3, e4⟩ := h6 q _ (Array.getElem?_eq_getElem hq)
  have hs : c9.slots = (s.heap[q]).slots := Array.ext_getElem? fun i => e4 i fun hm => hA (hl _ hm)
  have h9 : c9 = s.heap[q] := by
    rw [hs] at e2
    exact e2
  have e5 : U.heap[q]? = some c9 := e1
  rw [e5, h9, Array.getElem?_eq_getElem hq]
/-- no cell of a world is a class's statics -/
theorem cg_nostat {D : va_G} {cl : List vw_C} {ws : va_W} {s : State} {locs : List Loc} (hP : va_P D cl ws s.heap) (h : ∀ x ∈ locs, va_A ws s.heap.size x.base) : ∀ x ∈ locs, ∀ cell, s.heap[x.base]? = some cell → cell.vm.isStatics = false := by
  intro x hx cell hc
  rcases h x hx with ⟨k, e, hk⟩ | hk
  · have h1 := hP k _ hk
    cases e with
    | inl y =>
      have h2 : s.heap[x.base]? = some (vp_cell y.1 y.2) := h1
      cases Option.some.inj (hc.symm.trans h2)
      obtain ⟨cA, n, f⟩ := y
      rcases f with f | f | f | f | f <;> rfl
    | inr o =>
      obtain ⟨r, -, c2, h2, -, h3, -⟩ := h1
      have h2 : s.heap[x.base]? = some c2 := h2
      cases Option.some.inj (hc.symm.trans h2)
      rw [h3]; rfl
  · exact absurd (Array.getElem?_eq_some_iff.mp hc).1 (Nat.not_lt.mpr hk)
/-- where a static field lies -/
def cg_L (C n d : String) (A : Nat → Prop) (U : State) (H : Heap) : Prop := ∃ (c : ClassId) (k : Class) (i : Nat) (f : Field) (a : Nat) (cell : Cell), U.vm.findClass C = some c ∧ U.fieldFound? C n d = some (c, k, i, f) ∧ f.isStatic = true ∧ k.statics = some a ∧ H[a]? = some cell ∧ cell.vm.isStatics = true ∧ cell.cls = c ∧ f.slot < cell.slots.size ∧ k.staticTypes[f.slot]? = some f.type ∧ ¬ A a
theorem cg_L.moved {C n d : String} {A : Nat → Prop} {u U : State} {H : Heap} (hvm : u.vm.Alike U.vm) (h : cg_L C n d A u H) : cg_L C n d A U H := by
  obtain ⟨c, k, i, f, a, cell, h1, h2, h3, h4, h5, h6, h7, h8, h9, h10⟩ := h
  obtain ⟨k', hi', he⟩ := State.fieldFound?_setVm hvm h2
  exact ⟨c, k', i, f, a, cell, by rw [hvm.findClass]; exact h1, hi', h3, by rw [he]; exact h4, h5, h6, h7, h8, by rw [he]; exact h9, h10⟩
theorem cg_L.kept {C n d : String} {A : Nat → Prop} {U : State} {H H1 : Heap} (h : cg_L C n d A U H) (hq : ∀ a : Nat, a < H.size → ¬ A a → H1[a]? = H[a]?) : cg_L C n d A U H1 := by
  obtain ⟨c, k, i, f, a, cell, h1, h2, h3, h4, h5, h6, h7, h8, h9, h10⟩ := h
  exact ⟨c, k, i, f, a, cell, h1, h2, h3, h4, by rw [hq a (Array.getElem?_eq_some_iff.mp h5).1 h10]; exact h5, h6, h7, h8, h9, h10⟩
theorem cg_L.word {C n d : String} {A : Nat → Prop} {s : State} {args : Array Value} (h : cg_L C n d A s s.heap) : (Cond.laysStatic C n d).before args s = true := by
  obtain ⟨c, k, i, f, a, cell, h1, h2, h3, h4, h5, h6, h7, h8, h9, -⟩ := h
  show (Cond.laysStatic C n d).holds args s none s [] = true
  exact Cond.laysStatic_of h1 h2 h3 h4 h5 h6 h7 h8 h9
theorem cg_L.of {C n d : String} {A : Nat → Prop} {s : State} {args : Array Value} (h : (Cond.laysStatic C n d).before args s = true) (hA : ∀ a : Nat, a < s.heap.size → ¬ A a) : cg_L C n d A s s.heap := by
  obtain ⟨c, k, i, f, a, cell, h1, h2, h3, h4, h5, h6, h7, h8, h9⟩ := Cond.laysStatic_spec h
  exact ⟨c, k, i, f, a, cell, h1, h2, h3, h4, h5, h6, h7, h8, h9, hA a (Array.getElem?_eq_some_iff.mp h5).1⟩
theorem cg_isRef {C n d : String} {v : Value} {A : Nat → Prop} {s : State} {args : Array Value} (h : va_Z C n d v A s s.heap) (hv : v.isRef = true) : (Cond.isRef (.static C n d)).before args s = true := by
  obtain ⟨cf, kf, fi, f, a, cell, h1, h2, h3, h4, h5, h6, h7, -⟩ := h
  have he : (Term.static C n d).eval args s none [] s = some v := by
    simp [Term.eval, State.fieldNamed?, h1, h2, h4, h5, h6, h7]
  simp only [Cond.before, Cond.holds, Cond.value, he]
  cases v <;> simp_all [Value.isRef]
theorem cg_isRefq {C n d : String} {A : Nat → Prop} {s : State} {args : Array Value} (h : va_Zq C n d A s s.heap) : (Cond.isRef (.static C n d)).before args s = true := by
  rcases h with h | ⟨t, h⟩
  · exact cg_isRef h rfl
  · exact cg_isRef h rfl
/-- what a throw reads of the heap: two static fields of Throwable; none of their cells lies at n0 or behind -/
def cg_hp (n0 : Nat) (U : State) : Prop :=
  (va_Zq Bundle.tN "UNASSIGNED_STACK" Bundle.steD (fun q => n0 ≤ q) U U.heap ∧ cg_L Bundle.tN "UNASSIGNED_STACK" Bundle.steD (fun q => n0 ≤ q) U U.heap) ∧
  va_Zq Bundle.tN "SUPPRESSED_SENTINEL" Bundle.listD (fun q => n0 ≤ q) U U.heap ∧ cg_L Bundle.tN "SUPPRESSED_SENTINEL" Bundle.listD (fun q => n0 ≤ q) U U.heap
theorem cg_hp.go {n0 : Nat} {u U : State} (h : cg_hp n0 u) (hvm : u.vm.Alike U.vm) (hq : ∀ a : Nat, a < u.heap.size → ¬ n0 ≤ a → U.heap[a]? = u.heap[a]?) : cg_hp n0 U :=
  ⟨⟨va_Zq.moved hvm (va_Zq.kept h.1.1 hq), cg_L.moved hvm (cg_L.kept h.1.2 hq)⟩, va_Zq.moved hvm (va_Zq.kept h.2.1 hq), cg_L.moved hvm (cg_L.kept h.2.2 hq)⟩
def cg_hw (w : Cond) : Bool := decide (w = .isRef (.static Bundle.tN "UNASSIGNED_STACK" Bundle.steD)) || decide (w = .isRef (.static Bundle.tN "SUPPRESSED_SENTINEL" Bundle.listD)) || decide (w = .laysStatic Bundle.tN "UNASSIGNED_STACK" Bundle.steD) || decide (w = .laysStatic Bundle.tN "SUPPRESSED_SENTINEL" Bundle.listD)
theorem cg_atoms {L : List Cond} {n0 : Nat} {s : State} {args : Array Value} (h : L.all (fun w => cg_hw w || (decide (w ∈ tables_1) && cg_ok w)) = true) (hts : ∀ w ∈ tb, w.before args s = true) (hh : cg_hp n0 s) : ∀ w ∈ L, w.before args s = true := by
  intro w hw
  have h1 := List.all_eq_true.mp h w hw
  by_cases hb : cg_hw w = true
  · simp only [cg_hw, Bool.or_eq_true, decide_eq_true_eq] at hb
    rcases hb with ((h | h) | h) | h <;> subst h
    · exact cg_isRefq hh.1.1
    · exact cg_isRefq hh.2.1
    · exact cg_L.word hh.1.2
    · exact cg_L.word hh.2.2
  · rw [Bool.not_eq_true] at hb
    rw [hb, Bool.false_or, Bool.and_eq_true, decide_eq_true_eq] at h1
    exact hts w (tb_t h1.1 h1.2)
/-- a method has thrown x, an object of the class E -/
def cg_Th (E : String) (A : Nat → Prop) (st : State) (x : Addr) (t : State) (mc ms : Nat) : Prop :=
  (∃ ce : Cell, t.heap[x]? = some ce ∧ ce.vm = .none ∧ st.vm.findClass E = some ce.cls) ∧ st.WarmedH t.vm ∧ ∃ L : List Loc, st.sameButNew ({ t with vm := st.vm } : State) L mc ms ∧ ∀ z ∈ L, A z.base
def cg_TQ (below : List Frame) (E : String) (s : State) (mc ms : Nat) (A : Nat → Prop) : State → Prop := fun t =>
  ∃ x, t.status = .running ∧ Ended t below (.threw x) ∧ cg_Th E A s x t mc ms
def cg_MetT (l : Launch) (y : MethodName) (ws : List Cond) (rm : Room) (Pc : Array Value → State → Prop) (E : String) (mc ms : Nat) (A : Nat → Prop) : Prop :=
  MetFree l y (headSpec ws rm) Pc (fun _ _ _ _ _ => True) (fun _ st o t => ∃ x, o = .threw x ∧ cg_Th E A st x t mc ms)
abbrev cg_PreT (D : va_G) (cl : List vw_C) (n0 sz : Nat) (ws : va_W) (tys : List (ClassId × FieldType)) (U : State) : Prop :=
  cg_Pre D cl sz ws tys U ∧ cg_hp n0 U ∧ ∀ q, va_A ws sz q → n0 ≤ q
section CgT
variable {p : Program} {l : Launch} {e : Env} {s : State} {m : MethodId} {args : Array Value} {below : List Frame} {meth : Method} {c : Code} {cc : ByteArray} {n sz n0 mc ms : Nat} {ret : Option FieldType} {rm R : Room} {y : MethodName} {D : va_G} {cl : List vw_C} {tys tc : List (ClassId × FieldType)} {ws wc : va_W} {av As rest st0 : List Value} {E own : String} {H : Heap} {locs : List Loc} {cells slots pc nL maxL index : Nat} {ls : Array Slot} {A free : Nat → Prop} {bytes : ByteArray} {Pc : Array Value → State → Prop} {b : Nat}
theorem cg_metT (hy : plainName y.cls = true) (hn : (lg_sl av).length ≤ n)
    (body : ∀ (p : Program) (e : Env) (s : State) (m : MethodId) (below : List Frame) (meth : Method) (c : Code) (ls : Array Slot), CallFix p m c cc n s av.toArray tb y.cls → cg_W D cl (va_A ws sz) s.heap s tys ws s.heap [] → cg_hp n0 s → (∀ q, va_A ws sz q → n0 ≤ q) → s.heap.size = sz → va_P D cl ws s.heap → c.exceptionTable.isEmpty = true → meth.locks = false → lv_has ls n (lv_args 0 av) →
      W p l e rm s m av.toArray below meth c s.heap [] 0 0 (cg_TQ below E s mc ms (va_A ws sz)) (F0 m 0 ls [])) :
    cg_MetT l y (Cond.code y cc n ret :: tb) rm (va_Pc av (cg_PreT D cl n0 sz ws tys)) E mc ms (va_A ws sz) := by
  refine MetFree.of_bodyS (code := cc) (maxLocals := n) (ret := ret) hy ?_ ?_
  · intro args s m h hn
    obtain ⟨meth, c, h1, h2, h3, h4, h5, h6, -, -⟩ := Cond.code_spec hn (atoms_spec (ws := Cond.code y cc n ret :: tb) h _ List.mem_cons_self)
    exact ⟨meth, c, h1, h2, h3, h4, h5, h6⟩
  · intro p e s m args below meth c s₁ B hml hP _
    obtain ⟨rfl, hv, hh, hA⟩ := hP
    obtain ⟨F, w, hr, hlk, hnm⟩ := cg_start B hml hv
    have hno := B.noHandlers (atoms_spec (ws := Cond.code y cc n ret :: tb) B.pre _ List.mem_cons_self)
    have hh0 : s₁.heap = s.heap := by rw [B.state]; rfl
    have hb := body p e s m below meth c _ F w hh hA hv.1 hv.2.1 hno hlk (lv_entry av hn)
    rw [← lg_entry_eq] at hb
    obtain ⟨t, a1, x, b1, b2, b3⟩ := hb s₁ hh0 (Stand.of_body B)
    exact ⟨t, .threw x, a1, b1, b2, x, rfl, b3⟩
/-- 'throw new E("..")' ends the method -/
theorem cg_thr {tx : String} {names : List String} {iN iS ic sa : Nat} (F : CallFix p m c cc nL s args tb own) (hS : va_S A s.heap H locs) (hlk : meth.locks = false) (hno : c.exceptionTable.isEmpty = true) (htr : l.stackTraces = false)
    (hst : ∀ x ∈ locs, ∀ cell, s.heap[x.base]? = some cell → cell.vm.isStatics = false)
    (hcl : Cond.classLink own iN E ∈ tb) (hin : Cond.instantiable E 6 ∈ tb) (hini : Cond.initialized E ∈ tb) (hstr : vk_R own iS tx sa s) (hfit : Bundle.fit E = true) (hfn : ∀ n ∈ names, Bundle.fit n = true) (hat : ∀ a ∈ Bundle.ownAtoms own ic E names, a.before args s = true)
    (hsz : ls.size = nL) (hf : names.length + 3 < R.frames) (hlo : 13 * (names.length + 1) + 43 ≤ R.locals) (hc : cells + 1 ≤ R.cells) (hs : slots + 6 ≤ R.slots) (hmc : cells + 1 ≤ mc) (hms : slots + 6 ≤ ms)
    (d0 : decode cc pc = .ok (.new iN, 3)) (d1 : decode cc (pc + 3) = .ok (.dup, 1)) (d2 : decode cc (pc + 4) = .ok (.ldc iS, 2)) (d3 : decode cc (pc + 6) = .ok (.invokespecial ic, 3)) (d4 : decode cc (pc + 9) = .ok (.athrow, 1)) :
    W p l e R s m args below meth c H locs cells slots (cg_TQ below E s mc ms A) (F0 m pc ls []) := by
  refine W.newc F.1 F.2.1 F.2.2.2.1 (F.2.2.2.2 _ hcl) (F.2.2.2.2 _ hin) (F.2.2.2.2 _ hini) (g := F0 m pc ls []) rfl d0 hc hs (fun cC kC f1 f2 f3 f4 => ?_)
  refine W.eq (g2 := F0 m (pc + 3) ls [.ref H.size]) rfl ?_
  refine lv_dup F.1 F.2.1 d1 rfl ?_
  refine va_ldcS F.1 F.2.1 F.2.2.2.1 hstr d2 ?_
  intro T hT X
  have htr' : e.platform.stackTraces = false := (show e.platform.stackTraces = l.stackTraces by rw [X.admits.platform]).trans htr
  have hcell : T.heap[H.size]? = some (freshCell cC kC) := by rw [hT]; exact Array.getElem?_push_size
  obtain ⟨U, st, hrun, hend, hW, hsm, ce, hce, hO⟩ := X.ctorThrowS F.1 htr' F.2.2.2.1 hfit hfn hat hst f1 f2 hcell hS.1 (msg := .ref sa) rfl (g := F0 m (pc + 6) ls [.ref sa, .ref H.size, .ref H.size]) rfl (hsz.trans F.2.2.1.symm) rfl rfl (rest := []) rfl (by rw [F.2.1]; exact d3) (by rw [F.2.1]; exact d4)
    (fun x hx => by rw [Array.isEmpty_iff.mp hno] at hx; cases hx) hf (by show 2 * 0 + (1 + 0) + _ ≤ _; omega) hlk
  exact ⟨U, st, H.size, hrun, hend, ⟨ce, hce, hO.vm, hO.cls⟩, hW, locs, hsm.mono hmc hms, hS.2.2⟩
/-- a call that ends by a throw -/
def cg_RunT (p : Program) (l : Launch) (e : Env) (R : Room) (s : State) (m : MethodId) (args : Array Value) (below : List Frame) (meth : Method) (c : Code) (H : Heap) (locs : List Loc) (cells slots mc ms : Nat) (g : JFrame) (rest : List Value) (E : String) (free : Nat → Prop) : Prop :=
  ∀ T : State, T.heap = H → Stand p l e R s m args below meth c T locs cells slots → ∃ (x : Addr) (T' : State) (L : List Loc), Stand p l e R s m args below meth c T' (locs ++ L) (cells + mc) (slots + ms) ∧ (∀ z ∈ L, free z.base) ∧ (∃ ce : Cell, T'.heap[x]? = some ce ∧ ce.vm = .none ∧ s.vm.findClass E = some ce.cls) ∧ H.size ≤ T'.heap.size ∧ (∀ q : Nat, q < H.size → ¬ free q → T'.heap[q]? = H[q]?) ∧
    Steps p.tables e below (T.setTop g) ((T'.setTop { g with stack := rest }).pushFrame (.throwing x))
theorem cg_outT {T : State} {vm₁ : Vm} {g : JFrame} {ig : Instr} {mk : MethodId} {a : Array Value} (hM : cg_MetT l y (Cond.code y bytes maxL ret :: tb) rm Pc E mc ms free) (hE : Cond.code y bytes maxL ret ∈ tb) (hini : Cond.initialized y.cls ∈ tb) (hts : ∀ w ∈ tb, w.before args s = true)
    (hrm : cg_rm R rm maxL mc ms cells slots) (X : Stand p l e R s m args below meth c (T.setVm vm₁) locs cells slots) (hg : g.method = m) (hsize : g.locals.size = c.maxLocals) (hdg : decode c.code g.pc = .ok (ig, 3)) (hW : 2 * g.monitorRoom + (g.stack.map fun v => v.category).sum ≤ 8) (hn : (T.setVm vm₁).methodNamed? y = some mk) (hPc : Pc a ((T.setVm vm₁).calling g mk a)) :
    ∃ (x : Addr) (T' : State) (L : List Loc), Stand p l e R s m args below meth c T' (locs ++ L) (cells + mc) (slots + ms) ∧ (∀ z ∈ L, free z.base) ∧ (∃ ce : Cell, T'.heap[x]? = some ce ∧ ce.vm = .none ∧ s.vm.findClass E = some ce.cls) ∧ T.heap.size ≤ T'.heap.size ∧ (∀ q : Nat, q < T.heap.size → ¬ free q → T'.heap[q]? = T.heap[q]?) ∧
      Steps p.tables e below (doInvoke e ((T.setVm vm₁).setTop g) [] mk a).1 ((T'.setTop g).pushFrame (.throwing x)) := by
  have h1 : (headSpec (Cond.code y bytes maxL ret :: tb) rm).pre.before a (T.setVm vm₁) = true := atoms_intro fun w hw => by
    have hw' : w ∈ tb := by
      rcases List.mem_cons.mp hw with rfl | h
      · exact hE
      · exact h
    exact cg_warm (tb_ok hw') X.warmed (hts w hw')
  have h2 : (Cond.code y bytes maxL ret).before a (T.setVm vm₁) = true := cg_warm (tb_ok hE) X.warmed (hts _ hE)
  have h3 : (Cond.initialized y.cls).before a (T.setVm vm₁) = true := cg_warm (tb_ok hini) X.warmed (hts _ hini)
  have h4 : cells + (headSpec (Cond.code y bytes maxL ret :: tb) rm).room.cells ≤ R.cells := by rw [show (headSpec (Cond.code y bytes maxL ret :: tb) rm).room.cells = mc from hrm.1.1]; exact hrm.2.2.1
  have h5 : slots + (headSpec (Cond.code y bytes maxL ret :: tb) rm).room.slots ≤ R.slots := by rw [show (headSpec (Cond.code y bytes maxL ret :: tb) rm).room.slots = ms from hrm.1.2]; exact hrm.2.2.2
  have h6 : 8 + (maxL + 11) + (headSpec (Cond.code y bytes maxL ret :: tb) rm).room.locals ≤ R.locals := hrm.2.1.2
  obtain ⟨methY, cY, hmY, hcY, -, hlY, -, -, -, -⟩ := Cond.code_spec hn h2
  obtain ⟨kY, hkY, -⟩ := className_of_methodNamed hn
  have hinitY : kY.init = .initialized := Cond.initialized_spec (findClass_of_methodNamed hn) hkY h3
  have h : At (T.setVm vm₁) g.method c below := by rw [hg]; exact X.here
  have happ : (headSpec (Cond.code y bytes maxL ret :: tb) rm).appliesLoose y e.platform ((T.setVm vm₁).calling g mk a) = true :=
    Spec.appliesLoose_calling (g := g) h hdg hn hkY hinitY
      (X.room_calling (g := g) (R' := (headSpec (Cond.code y bytes maxL ret :: tb) rm).room) hsize hmY hcY hrm.2.1.1 (by rw [hlY]; omega) h4 h5) h1
  obtain ⟨mid, hmid⟩ := h.above
  have hfr : ((T.setVm vm₁).setTop g).frames = (.java g :: mid) ++ below := by rw [State.frames_setTop' g h.top, hmid]; rfl
  obtain ⟨o, s₂, hsteps, -, hend, hq⟩ := Steps.callFree hM p X.admits X.cas X.clock (acts := []) hfr happ hPc trivial
  rw [State.frames_setTop' g h.top, X.tail] at hend
  obtain ⟨x, rfl, ⟨ce, hce, hcv, hcc⟩, hWm, L, hsm, hL⟩ := hq
  obtain ⟨T', X', hW', hsame', ht⟩ := X.outOfThrown hg hend hWm hsm
  have hF := cg_same hsm hL
  have hhp : s₂.heap = T'.heap := by rw [ht]; exact Stand.throwing_heap T' g x
  refine ⟨x, T', L, X', hL, ⟨ce, by rw [← hhp]; exact hce, hcv, ?_⟩, by rw [← hhp]; exact hF.1, fun q h1 h2 => by rw [← hhp]; exact hF.2 q h1 h2, by rw [← ht]; exact hsteps⟩
  have h9 : ((T.setVm vm₁).calling g mk a).vm.findClass E = s.vm.findClass E := X.warmed.alike.findClass E _
  rw [← h9]; exact hcc
theorem cg_tV {C : String} (F : CallFix p m c cc nL s args tb own) (hM : cg_MetT l y (Cond.code y bytes maxL ret :: tb) rm Pc E mc ms free) (hE : cg_E y bytes maxL ret n) (hi : Cond.instanceMethod y ∈ tb) (hse : Cond.selects C y y ∈ tb) (hl : Cond.methodLink own index y ∈ tb) (hp : PreV s H C b Pc As) (hn : As.length = n) (hsz : ls.size = nL) (hst : st0 = As.reverse ++ .ref b :: rest) (hW : (rest.map fun v => v.category).sum ≤ 8) (hrm : cg_rm R rm maxL mc ms cells slots) (hdg : decode cc pc = .ok (.invokevirtual index, 3)) :
    cg_RunT p l e R s m args below meth c H locs cells slots mc ms (F0 m pc ls st0) rest E free := by
  obtain ⟨hx, hb, hml, ho, hts⟩ := F
  obtain ⟨hbl, ⟨cellB, hcB, hoB, hclB⟩, hPc⟩ := hp
  have hy : y.cls ≠ "java/lang/invoke/MethodHandle" ∧ y.cls ≠ "java/lang/invoke/VarHandle" := ⟨hE.2.2.1, hE.2.2.2.1⟩
  intro T hT X
  obtain ⟨mk, methM, hnamed, hmethM, hstM, habM⟩ := Cond.instanceMethod_spec (hts _ hi)
  obtain ⟨methM', cM, hmethM', -, -, -, -, -, -, hsigM⟩ := Cond.code_spec hnamed (hts _ hE.1)
  cases hmethM.symm.trans hmethM'
  obtain ⟨c2, r2, m2, q1, q2, q3, q4, kP, hkP, hkPi⟩ := Cond.selects_spec (hts _ hse)
  cases hclB.symm.trans q1
  cases (State.methodFound?_of_named hnamed hy).symm.trans q2
  cases hnamed.symm.trans q3
  have hselP : selectMethod e.platform s.vm cellB.cls mk = .method mk := by rw [Launch.admits_selectMethod X.admits]; exact q4
  obtain ⟨vm₁, X₁, hstep₁⟩ := X.invokevirtual hx ho (hts _ hl) hnamed hmethM hstM hkP hkPi hy (a := b) (cell := cellB) (by rw [hT]; exact hcB)
    (fun z h => by rw [h] at hoB; cases hoB) hselP hmethM habM hkP hkPi (g := F0 m pc ls st0) rfl (argsL := As) (rest := rest) (hn.trans (cg_len hE _ hsigM)) hst (by rw [hb]; exact hdg)
  obtain ⟨x, T', L, X', hL, hce, hz, hk, st⟩ := cg_outT (g := F0 m pc ls rest) (a := (Value.ref b :: As).toArray) hM hE.1 hE.2.1 hts hrm X₁ rfl (hsz.trans hml.symm) (by rw [hb]; exact hdg) (lv_room hW) (X₁.named hnamed) (hbl _ _ _ _ (hPc (T.setVm vm₁) hT X₁.warmed))
  exact ⟨x, T', L, X', hL, hce, by rw [← hT]; exact hz, by rw [← hT]; exact hk, hstep₁ _ fun acts => by rw [doInvoke_state]; exact st⟩
/-- not caught here -/
theorem cg_tout {pcT : Nat} {H0 : Heap} (hr : cg_RunT p l e R s m args below meth c H locs cells slots mc ms (F0 m pcT ls st0) rest E free) (hS : va_S A s.heap H locs) (hf : ∀ q, free q → A q) (hno : c.exceptionTable.isEmpty = true) (hlk : meth.locks = false) {mc' ms' : Nat} (hc : cells + mc ≤ mc') (hs : slots + ms ≤ ms') :
    W p l e R s m args below meth c H locs cells slots (cg_TQ below E s mc' ms' A) (F0 m pcT ls st0) := by
  intro T hT X
  obtain ⟨x, T', L, X', hL, hce, hz, hk, st⟩ := hr T hT X
  obtain ⟨st1, hrun, hend, hW, hsm⟩ := X'.leaveThrown x (g := F0 m pcT ls rest) rfl rfl rfl (fun x hx => by rw [Array.isEmpty_iff.mp hno] at hx; cases hx) hlk
  exact ⟨_, st.trans st1, x, hrun, hend, hce, hW, locs ++ L, hsm.mono hc hs, fun z hz => (List.mem_append.mp hz).elim (hS.2.2 z) (fun h => hf _ (hL z h))⟩
theorem cg_preT {ws : va_W} {H0 : Heap} {av : List Value} (w : cg_W D cl A H0 s tys ws H locs) (hh : cg_hp n0 s) (hA : ∀ q, A q → n0 ≤ q) (hSs : va_S A s.heap H locs) (isC isT : List Nat) (h1 : isC.filterMap (fun i => ws[i]?) = wc) (h2 : isC.map (fun i => ws[i]?) = wc.map some) (hnd : va_nd isC = true) (h3 : isT.filterMap (fun i => tys[i]?) = tc) : PreS s H (va_Pc av (cg_PreT D cl n0 H.size wc tc)) av := by
  have hF := va_free (wc := wc) w.2.1 w.2.2.2.1 w.2.2.2.2 isC h2
  refine ⟨fun a U g mk q => ⟨q.1, ⟨q.2.1.1, q.2.1.2.1, va_K.moved (u := U) (U := U.calling g mk a) (Vm.Alike.refl U.vm) q.2.1.2.2.1, q.2.1.2.2.2⟩, cg_hp.go q.2.2.1 (Vm.Alike.refl U.vm) (fun _ _ _ => rfl), q.2.2.2⟩, fun U hU hW => ⟨rfl, ((cg_pre (av := av) w isC isT h1 h2 hnd h3).2 U hU hW).2, cg_hp.go hh hW.alike (fun a ha hn => ?_), fun q hq => hA q (hF q hq)⟩⟩
  rw [hU]
  exact hSs.2.1 a ha (fun h => hn (hA a h))
theorem cg_preTV {C : String} {T : u_T} {N ci : Nat} {ty : Nat → FieldType} {ws : va_W} {H0 : Heap} (w : cg_W D cl A H0 s tys ws H locs) (hh : cg_hp n0 s) (hA : ∀ q, A q → n0 ≤ q) (hSs : va_S A s.heap H locs) (K : cg_C cl ci C T N ty) (q0 : Nat) {fs : List Value} (he : ws[q0]? = some (b, .inr (ci, fs))) (isC isT : List Nat) (h1 : isC.filterMap (fun i => ws[i]?) = wc) (h2 : isC.map (fun i => ws[i]?) = wc.map some) (hnd : va_nd isC = true) (h3 : isT.filterMap (fun i => tys[i]?) = tc) : PreV s H C b (va_Pc (.ref b :: As) (cg_PreT D cl n0 H.size wc tc)) As :=
  ⟨(cg_preT (av := .ref b :: As) w hh hA hSs isC isT h1 h2 hnd h3).1, va_recv w.2.2.1 w.1 K.2.1 he, (cg_preT (av := .ref b :: As) w hh hA hSs isC isT h1 h2 hnd h3).2⟩
end CgT
theorem cg_str {own tx : String} {k : Nat} {args : Array Value} {s : State} {cid : ClassId} (hown : s.vm.findClass own = some cid) (h : (Cond.stringRef own k tx).before args s = true) : ∃ sa, vk_R own k tx sa s := by
  obtain ⟨_, _, _, a', _, _, _, _, _, hev⟩ := Cond.stringRef_spec hown h
  exact ⟨a', vk_R.of h hev⟩
