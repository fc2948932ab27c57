/-! The call of a method with an exception table. -/
section FxHRun
variable {p : Program} {l : Launch} {e : Env} {R rm : Room} {s : State} {m : MethodId} {args : Array Value} {below : List Frame} {meth : Method} {c : Code} {H : Heap} {locs : List Loc} {cells slots mc ms : Nat} {Q : State → Prop}
variable {cc bytes : ByteArray} {pc nL n maxL index : Nat} {ls : Array Slot} {rest st0 As av : List Value} {D : va_G} {own host C E : String} {ad : Nat → Nat} {cA : Nat → ClassId} {M : fm_M} {n0 kd kc : Nat} {y : MethodName} {ret : Option FieldType}
variable {post pst : Int → fm_M → Prop} {thr : String → fm_M → Prop} {hh : List (Nat × Nat × Nat × Nat)}
theorem fx_inC {T : State} {vm₁ : Vm} {g : JFrame} {ig : Instr} {mk : MethodId} {a : Array Value} {hd : Cond} {hh : List Cond} (hM : fx_MetC l y (hd :: hh) rm av D ad cA n0 M kc mc ms pst) (hok : ∀ w ∈ hd :: hh, ∀ (a' : Array Value) (U : State), s.WarmedH U.vm → w.before a' U = true)
    {methY : Method} {cY : Code} (hmY : (T.setVm vm₁).vm.method? mk = some methY) (hcY : methY.code = some cY) (hlY : cY.maxLocals = maxL) (hini : (Cond.initialized y.cls).before a (T.setVm vm₁) = true)
    (hfr9 : rm.frames + 1 ≤ R.frames) (hlo9 : 8 + (maxL + 11) + rm.locals ≤ R.locals) (hc9 : cells + rm.cells ≤ R.cells) (hs9 : slots + rm.slots ≤ R.slots) (X : Stand p l e R s m args below meth c (T.setVm vm₁) locs cells slots) (hg : g.method = m) (hsize : g.locals.size = c.maxLocals) (hdg : decode c.code g.pc = .ok (ig, 3)) (hW : 2 * g.monitorRoom + (g.stack.map fun v => v.category).sum ≤ 8) (hn : (T.setVm vm₁).methodNamed? y = some mk) (ha : a = av.toArray) (hPc : fx_Pre D ad cA n0 M ((T.setVm vm₁).calling g mk a)) (hnc : fx_noc ((T.setVm vm₁).calling g mk a)) :
    ∃ (r : Int) (M1 : fm_M) (T' : State) (L : List Loc), Stand p l e R s m args below meth c T' (locs ++ L) (cells + mc) (slots + ms) ∧ pst r M1 ∧ fx_Wd D ad cA n0 M1 T' ∧ va_F (fun q => n0 ≤ q) T T' ∧ (∀ z ∈ L, n0 ≤ z.base) ∧ Steps p.tables e below (doInvoke e ((T.setVm vm₁).setTop g) [] mk a).1 (T'.setTop { g with pc := g.pc + 3, stack := (fx_o ad kc r).toList ++ g.stack }) := by
  have h1 : (headSpec (hd :: hh) rm).pre.before a (T.setVm vm₁) = true := atoms_intro fun w hw => hok w hw _ _ X.warmed
  obtain ⟨kY, hkY, -⟩ := className_of_methodNamed hn
  have hinitY : kY.init = .initialized := Cond.initialized_spec (findClass_of_methodNamed hn) hkY hini
  have h : At (T.setVm vm₁) g.method c below := by rw [hg]; exact X.here
  have hlo8 : 8 + (maxL + 11) + (headSpec (hd :: hh) rm).room.locals ≤ R.locals := hlo9
  have happ : (headSpec (hd :: hh) rm).appliesLoose y e.platform ((T.setVm vm₁).calling g mk a) = true :=
    Spec.appliesLoose_calling (g := g) h hdg hn hkY hinitY
      (X.room_calling (g := g) (R' := (headSpec (hd :: hh) rm).room) hsize hmY hcY hfr9 (by rw [hlY]; omega) hc9 hs9) h1
  obtain ⟨mid, hmid⟩ := h.above
  have hfr : ((T.setVm vm₁).setTop g).frames = (.java g :: mid) ++ below := by rw [State.frames_setTop' g h.top, hmid]; rfl
  obtain ⟨o, s₂, hsteps, -, hend, hq⟩ := Steps.callFree hM p X.admits X.cas X.clock (acts := []) hfr happ ⟨ha, hPc, hnc⟩ trivial
  rw [State.frames_setTop' g h.top, X.tail] at hend
  obtain ⟨r, M1, rfl, hp, hWd, hWm, L, hsm, hL⟩ := hq
  obtain ⟨T', X', hW', hsame', ht⟩ := X.outOf hg hdg hend hWm hsm
  have hF := cg_same hsm hL
  have hhp : s₂.heap = T'.heap := by rw [ht]; rfl
  have hvm : s₂.vm = T'.vm := by rw [ht]; rfl
  refine ⟨r, M1, T', L, X', hp, ⟨by rw [← hhp]; exact hWd.1, ?_, hWd.2.2⟩, ⟨by rw [← hhp]; exact hF.1, fun q h1 h2 => by rw [← hhp]; exact hF.2 q h1 h2⟩, hL, by rw [← ht]; exact hsteps⟩
  have hal : s₂.vm.Alike T'.vm := by rw [hvm]; exact Vm.Alike.refl _
  exact va_K.moved hal hWd.2.1
theorem fx_noc_moved {s : State} {U : State} (h : fx_noc s) (hv : s.vm.Alike U.vm) : fx_noc U := by
  unfold fx_noc Cond.before at h ⊢
  have h1 := Cond.holds_not_iff.mp h
  refine Cond.holds_not_iff.mpr ?_
  simp only [Cond.value] at h1 ⊢
  simp only [hv.findClass, hv.assignable]
  exact h1
def fx_RunC (p : Program) (l : Launch) (e : Env) (R : Room) (s : State) (m : MethodId) (args : Array Value) (below : List Frame) (meth : Method) (c : Code) (D : va_G) (ad : Nat → Nat) (cA : Nat → ClassId) (n0 kc mc ms : Nat) (pst : Int → fm_M → Prop) (H : Heap) (locs : List Loc) (cells slots : Nat) (g : JFrame) (rest : List Value) : Prop :=
  ∀ T : State, T.heap = H → Stand p l e R s m args below meth c T locs cells slots →
    ∃ (r : Int) (M1 : fm_M) (T' : State) (L : List Loc), Stand p l e R s m args below meth c T' (locs ++ L) (cells + mc) (slots + ms) ∧ pst r M1 ∧ fx_Wd D ad cA n0 M1 T' ∧ va_F (fun q => n0 ≤ q) T T' ∧ (∀ z ∈ L, n0 ≤ z.base) ∧ ∀ target, Steps p.tables e below (T'.setTop { g with pc := g.pc + 3, stack := (fx_o ad kc r).toList ++ rest }) target → Steps p.tables e below (T.setTop g) target
theorem fx_rSW (F : CallFix p m c cc nL s args tb own) (w : fm_w D ad cA n0 s M H locs) (hnc : fx_noc s) (hM : fx_MetC l y (Cond.codeWith y bytes maxL ret hh :: tb) rm As D ad cA n0 M kc mc ms pst) (hcw : Cond.codeWith y bytes maxL ret hh ∈ tb) (hini : Cond.initialized y.cls ∈ tb) (hy : y.cls ≠ "java/lang/invoke/MethodHandle" ∧ y.cls ≠ "java/lang/invoke/VarHandle") (hln : (parseMethodDescriptor y.desc).map (fun d => d.parameters.length) = some n) (hi : Cond.static y ∈ tb) (hl : Cond.methodLink own index y ∈ tb) (hn : As.length = n) (hsz : ls.size = nL) (hst : st0 = As.reverse ++ rest) (hW : (rest.map fun v => v.category).sum ≤ 8) (hrm : fx_rm R rm maxL cells slots) (hdg : decode cc pc = .ok (.invokestatic index, 3)) :
    fx_RunC p l e R s m args below meth c D ad cA n0 kc mc ms pst H locs cells slots (F0 m pc ls st0) rest := by
  obtain ⟨hx, hb, hml, ho, hts⟩ := F
  intro T hT X
  obtain ⟨mk, methM, cM, hnamed, hmethM, hcM, -, hlM, -, -, -, hsigM⟩ := Cond.codeWith_spec (hts _ hcw)
  have hstatic : methM.isStatic = true := Cond.static_spec hnamed hmethM (hts _ hi)
  obtain ⟨kP, hkP, -⟩ := className_of_methodNamed hnamed
  have hinitP : kP.init = .initialized := Cond.initialized_spec (findClass_of_methodNamed hnamed) hkP (hts _ hini)
  have hlen : n = methM.sig.parameters.length := by
    rw [hsigM] at hln
    exact (Option.some.inj hln).symm
  obtain ⟨vm₁, X₁, hstep₁⟩ := X.invokestatic hx ho (hts _ hl) hnamed hmethM hstatic hkP hinitP hy (g := F0 m pc ls st0) rfl (argsL := As) (rest := rest) (hn.trans hlen) hst (by rw [hb]; exact hdg)
  obtain ⟨r, M1, T', L, X', hp, hWd, hF, hL, st⟩ := fx_inC (g := F0 m pc ls rest) (a := As.toArray) hM (fun w hw a' U hW => by
    have hw' : w ∈ tb := by
      rcases List.mem_cons.mp hw with rfl | h
      · exact hcw
      · exact h
    exact cg_warm (tb_ok hw') hW (hts w hw')) (by rw [X₁.warmed.alike.method?]; exact hmethM) hcM hlM (cg_warm (tb_ok hini) X₁.warmed (hts _ hini)) hrm.1.1 hrm.1.2 hrm.2.1 hrm.2.2 X₁ rfl (hsz.trans hml.symm) (by rw [hb]; exact hdg) (lv_room hW) (X₁.named hnamed) rfl (fx_pre w hT X₁.warmed) (fx_noc_moved hnc X₁.warmed.alike)
  exact ⟨r, M1, T', L, X', hp, hWd, hF, hL, fun target h => hstep₁ _ fun acts => by rw [doInvoke_state]; exact st.trans h⟩
theorem fx_cC (w : fm_w D ad cA n0 s M H locs) (hr : fx_RunC p l e R s m args below meth c D ad cA n0 kc mc ms pst H locs cells slots (F0 m pc ls st0) rest)
    (kk : ∀ (r : Int) (M1 : fm_M), pst r M1 → ∀ (H1 : Heap) (locs1 : List Loc), fm_w D ad cA n0 s M1 H1 locs1 → W p l e R s m args below meth c H1 locs1 (cells + mc) (slots + ms) Q (F0 m (pc + 3) ls ((fx_o ad kc r).toList ++ rest))) : W p l e R s m args below meth c H locs cells slots Q (F0 m pc ls st0) := by
  intro T hT X
  obtain ⟨r, M1, T', L, X', hp, hWd, hF, hL, st⟩ := hr T hT X
  obtain ⟨t, a1, b1⟩ := kk r M1 hp T'.heap (locs ++ L) (fx_back w hT X' hWd hF hL) T' rfl X'
  exact ⟨t, st t a1, b1⟩
end FxHRun
