/-! Own rows: a method with an exception table, its call, and a throw that its first row catches. -/
section CgW
variable {p : Program} {l : Launch} {e : Env} {s : State} {m : MethodId} {args : Array Value} {below : List Frame} {meth : Method} {c : Code} {cc : ByteArray} {n sz n0 mc ms : Nat} {ret : Option FieldType} {rm R : Room} {y : MethodName} {D : va_G} {cl : List vw_C} {tys tc : List (ClassId × FieldType)} {ws wc : va_W} {av As rest st0 : List Value} {E own : String} {H H0 : Heap} {locs : List Loc} {cells slots pc nL maxL index : Nat} {ls : Array Slot} {A free : Nat → Prop} {bytes : ByteArray} {Pc : Array Value → State → Prop} {Qc : Array Value → State → Outcome → State → Prop} {b : Nat} {hh : List (Nat × Nat × Nat × Nat)} {Q : State → Prop}
theorem cg_metW (hy : plainName y.cls = true) (hn : (lg_sl av).length ≤ n)
    (body : ∀ (p : Program) (e : Env) (s : State) (m : MethodId) (below : List Frame) (meth : Method) (c : Code) (ls : Array Slot), CallFix p m c cc n s av.toArray tb y.cls → cg_W D cl (va_A ws sz) s.heap s tys ws s.heap [] → cg_hp n0 s → (∀ q, va_A ws sz q → n0 ≤ q) → c.exceptionTable.toList.map (fun h => (h.startPc, h.endPc, h.handlerPc, h.catchType)) = hh → meth.sig.returnType = ret → meth.locks = false → lv_has ls n (lv_args 0 av) →
      W p l e rm s m av.toArray below meth c s.heap [] 0 0 (MQ below Qc av.toArray s mc ms free) (F0 m 0 ls [])) :
    Met l y (Cond.codeWith y cc n ret hh :: tb) rm (va_Pc av (cg_PreT D cl n0 sz ws tys)) Qc mc ms free := by
  refine va_MetW (cc := cc) (maxL := n) (ret := ret) (hh := hh) hy rfl ?_
  intro p e s m args below meth c s₁ B hml hv
  obtain ⟨rfl, hv, hhp, hA⟩ := hv
  obtain ⟨hsz, hP, hK, hD⟩ := hv
  subst hsz
  have hts := atoms_spec (ws := Cond.codeWith y cc n ret hh :: tb) B.pre
  obtain ⟨m9, meth9, c9, hn9, hm9, hc9, -, -, hx9, -⟩ := Cond.codeWith_spec (hts _ List.mem_cons_self)
  cases B.named.symm.trans hn9
  cases B.method.symm.trans hm9
  cases (Stand.of_body B).code.symm.trans hc9
  rw [lg_entry_eq]
  exact body p e s m below meth c _ ⟨B.exec, B.bytes, hml, findClass_of_methodNamed B.named, fun w h => hts w (List.mem_cons_of_mem _ h)⟩ ⟨hP, hD.self, hK, va_S.rf, fun q h => Or.inr h⟩ hhp hA hx9 B.returns B.notSynchronized (lv_entry av hn)
theorem cg_rSW (F : CallFix p m c cc nL s args tb own) (hM : Met l y (Cond.codeWith y bytes maxL ret hh :: tb) rm Pc Qc mc ms free) (hcw : Cond.codeWith y bytes maxL ret hh ∈ tb) (hini : Cond.initialized y.cls ∈ tb) (hy : y.cls ≠ "java/lang/invoke/MethodHandle" ∧ y.cls ≠ "java/lang/invoke/VarHandle") (hln : (parseMethodDescriptor y.desc).map (fun d => d.parameters.length) = some n) (hi : Cond.static y ∈ tb) (hl : Cond.methodLink own index y ∈ tb) (hp : PreS s H Pc As) (hn : As.length = n) (hsz : ls.size = nL) (hst : st0 = As.reverse ++ rest) (hW : (rest.map fun v => v.category).sum ≤ 8) (hrm : cg_rm R rm maxL mc ms cells slots) (hdg : decode cc pc = .ok (.invokestatic index, 3)) :
    va_Run p l e R s m args below meth c H locs cells slots mc ms (F0 m pc ls st0) rest (Qc As.toArray) free := by
  obtain ⟨hx, hb, hml, ho, hts⟩ := F
  have hK : Back l R p e below s args y 3 8 (PreOf R mc ms Pc) (PostOf Qc mc ms free) := va_backW (hh := hh) (bytes := bytes) (maxL := maxL) (ret := ret) hM hp.1 hrm.1.1 hrm.1.2 hrm.2.1.1 hrm.2.1.2 (fun w hw a' U hW => by
    have hw' : w ∈ tb := by
      rcases List.mem_cons.mp hw with rfl | h
      · exact hcw
      · exact h
    exact cg_warm (tb_ok hw') hW (hts w hw')) List.mem_cons_self (fun a' U hW => cg_warm (tb_ok hini) hW (hts _ hini))
  intro T hT X
  obtain ⟨mk, methM, cM, hnamed, hmethM, -, -, -, -, -, -, hsigM⟩ := Cond.codeWith_spec (hts _ hcw)
  have hstatic : methM.isStatic = true := Cond.static_spec hnamed hmethM (hts _ hi)
  obtain ⟨kP, hkP, -⟩ := className_of_methodNamed hnamed
  have hinitP : kP.init = .initialized := Cond.initialized_spec (findClass_of_methodNamed hnamed) hkP (hts _ hini)
  have hlen : n = methM.sig.parameters.length := by
    rw [hsigM] at hln
    exact (Option.some.inj hln).symm
  obtain ⟨vm₁, X₁, hstep₁⟩ := X.invokestatic hx ho (hts _ hl) hnamed hmethM hstatic hkP hinitP hy (g := F0 m pc ls st0) rfl (argsL := As) (rest := rest) (hn.trans hlen) hst (by rw [hb]; exact hdg)
  obtain ⟨v, ⟨U', l2, c2, s2⟩, X', ⟨g', mk', t, L, e1, e2, hq, h1, hL, h2, h3⟩, hsteps⟩ := hK m meth c ⟨T.setVm vm₁, locs, cells, slots⟩ (F0 m pc ls rest) (.invokestatic index) mk As.toArray X₁ rfl (hsz.trans hml.symm) (by rw [hb]; exact hdg) (lv_room hW) (X₁.named hnamed) ⟨hrm.2.2.1, hrm.2.2.2, hp.2 (T.setVm vm₁) hT X₁.warmed⟩
  dsimp only [Pt.U, Pt.locs, Pt.cells, Pt.slots] at X' e1 e2 h1 h2 h3 hsteps
  subst h1; subst h2; subst h3
  exact ⟨v, (T.setVm vm₁).calling g' mk' As.toArray, t, U', L, hT, X', hL, e1, e2, hq, fun target h => hstep₁ _ fun acts => by rw [doInvoke_state]; exact hsteps.trans h⟩
theorem cg_hand {c : Code} {a b h ct : Nat} {hh : List (Nat × Nat × Nat × Nat)} (hx : c.exceptionTable.toList.map (fun h => (h.startPc, h.endPc, h.handlerPc, h.catchType)) = (a, b, h, ct) :: hh) : ∃ (x : ExceptionTableEntry) (suf : List ExceptionTableEntry), c.exceptionTable.toList = [] ++ x :: suf ∧ x.startPc = a ∧ x.endPc = b ∧ x.handlerPc = h ∧ x.catchType = ct := by
  cases hl : c.exceptionTable.toList with
  | nil => rw [hl] at hx; cases hx
  | cons x t =>
    rw [hl] at hx
    simp only [List.map_cons, List.cons.injEq, Prod.mk.injEq] at hx
    exact ⟨x, t, rfl, hx.1.1, hx.1.2.1, hx.1.2.2.1, hx.1.2.2.2⟩
/-- caught by the first row of this method's table -/
theorem cg_catch {a9 b9 h9 ct : Nat} (F : CallFix p m c cc nL s args tb own) (hx : c.exceptionTable.toList.map (fun h => (h.startPc, h.endPc, h.handlerPc, h.catchType)) = (a9, b9, h9, ct) :: hh) (h1 : a9 ≤ pc) (h2 : pc < b9) (h0 : ct ≠ 0) (hlink : Cond.classLink own ct E ∈ tb) (hcast : Cond.castable E E ∈ tb)
    (hr : cg_RunT p l e R s m args below meth c H locs cells slots mc ms (F0 m pc ls st0) rest E free) (hS : va_S A H0 H locs) (hf : ∀ q, free q → A q)
    (kk : ∀ (x : Nat) (H1 : Heap) (locs1 : List Loc), va_S A H0 H1 locs1 → W p l e R s m args below meth c H1 locs1 (cells + mc) (slots + ms) Q (F0 m h9 ls [.ref x])) : W p l e R s m args below meth c H locs cells slots Q (F0 m pc ls st0) := by
  obtain ⟨xh, suf, hsplit, e1, e2, e3, e4⟩ := cg_hand hx
  subst e1; subst e2; subst e3; subst e4
  intro T hT X
  obtain ⟨x, T', L, X', hL, ⟨ce, hce, hcv, hcc⟩, hz, hk, st⟩ := hr T hT X
  have hpl : e.platform.magicAccessors = ({} : Platform).magicAccessors := by rw [X.admits.platform]
  obtain ⟨c3, c4, hc3, hc4, hasg⟩ := Cond.castable_spec (F.2.2.2.2 _ hcast)
  cases Option.some.inj (hc3.symm.trans hcc)
  obtain ⟨c5, hc5, hcl5⟩ := Cond.classLink_spec F.2.2.2.1 (F.2.2.2.2 _ hlink) e.platform hpl
  cases Option.some.inj (hc4.symm.trans hc5)
  obtain ⟨vm', X'', st2⟩ := X'.thenCaughtThrough x (g := F0 m pc ls rest) rfl st hce (by rw [hcv]; rfl) (by obtain ⟨k9, h9, -⟩ := Vm.findClass_spec hcc; exact ⟨k9, h9⟩) [] xh suf hsplit (fun z hz => by cases hz) (by simp [covers, h1, h2]) (Or.inr ⟨h0, c4, hcl5, hasg⟩)
  obtain ⟨t, a1, b1⟩ := kk x T'.heap (locs ++ L) ⟨Nat.le_trans hS.1 hz, fun q h1 h2 => (hk q (Nat.lt_of_lt_of_le h1 hS.1) (fun h => h2 (hf q h))).trans (hS.2.1 q h1 h2), fun z hz => (List.mem_append.mp hz).elim (hS.2.2 z) (fun h => hf _ (hL z h))⟩ (T'.setVm vm') rfl X''
  exact ⟨t, st2.trans a1, b1⟩
end CgW
/-- the tables know the classes of a list -/
theorem cg_K {cl : List vw_C} {s : State} (h : ∀ q ∈ cl, ∃ (cC : ClassId) (iS : Nat → Nat), u_Kn s q.1 q.2.1 q.2.2 cC iS) : ∃ D : va_G, va_K D cl [] s := by
  have h0 : ∀ k : Nat, ∃ z : ClassId × (Nat → Nat), ∀ q : vw_C, cl[k]? = some q → u_Kn s q.1 q.2.1 q.2.2 z.1 z.2 := by
    intro k
    cases hk : cl[k]? with
    | none => exact ⟨(0, fun _ => 0), fun q hq => by cases hq⟩
    | some q =>
      obtain ⟨cC, iS, h1⟩ := h q (List.mem_of_getElem? hk)
      exact ⟨(cC, iS), fun q' hq => by cases hq; exact h1⟩
  obtain ⟨f, hf⟩ := Classical.axiomOfChoice h0
  exact ⟨(fun k => (f k).1, fun k => (f k).2), fun k q hq => hf k q hq, fun k q hq => by simp at hq⟩
