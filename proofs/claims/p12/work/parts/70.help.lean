/-! A method with an exception table over the flat memory: what it catches, what it makes; calls out of the law. -/
def fx_outC (D : va_G) (ad : Nat → Nat) (cA : Nat → ClassId) (n0 mc ms kd : Nat) (post : Int → fm_M → Prop) (st : State) (o : Outcome) (t : State) : Prop :=
  ∃ (r : Int) (M1 : fm_M), o = .returned (fx_o ad kd r) ∧ post r M1 ∧ fx_Wd D ad cA n0 M1 t ∧ st.WarmedH t.vm ∧ ∃ L : List Loc, st.sameButNew ({ t with vm := st.vm } : State) L mc ms ∧ ∀ z ∈ L, n0 ≤ z.base
abbrev fx_noc (U : State) : Prop := (Cond.not (.castable "java/lang/IndexOutOfBoundsException" "java/lang/IllegalStateException")).before #[] U = true
def fx_MetC (l : Launch) (y : MethodName) (ws : List Cond) (rm : Room) (av : List Value) (D : va_G) (ad : Nat → Nat) (cA : Nat → ClassId) (n0 : Nat) (M : fm_M) (kd mc ms : Nat) (post : Int → fm_M → Prop) : Prop :=
  MetFree l y (headSpec ws rm) (va_Pc av (fun U => fx_Pre D ad cA n0 M U ∧ fx_noc U)) (fun _ _ _ _ _ => True) (fun _ st o t => fx_outC D ad cA n0 mc ms kd post st o t)
def fx_QC (below : List Frame) (D : va_G) (ad : Nat → Nat) (cA : Nat → ClassId) (n0 mc ms kd : Nat) (post : Int → fm_M → Prop) (s : State) : State → Prop := fun t =>
  ∃ o, t.status = .running ∧ Ended t below o ∧ fx_outC D ad cA n0 mc ms kd post s o t
/-- a throw of that class, at that place, comes to that handler -/
def fx_H (e : Env) (s : State) (m : MethodId) (c : Code) (pc : Nat) (E : String) (hp : Nat) : Prop :=
  ∀ ce : Cell, s.vm.findClass E = some ce.cls → ∃ (pre : List ExceptionTableEntry) (x : ExceptionTableEntry) (rest : List ExceptionTableEntry), c.exceptionTable.toList = pre ++ x :: rest ∧ (∀ y ∈ pre, RowPassed e.platform s m.cls pc ce.cls y) ∧ covers x pc = true ∧ RowCatches e.platform s m.cls ce.cls x ∧ x.handlerPc = hp
section FxHelp
variable {p : Program} {l : Launch} {e : Env} {R rm : Room} {s : State} {m : MethodId} {args : Array Value} {below : List Frame} {meth : Method} {c : Code} {H : Heap} {locs : List Loc} {cells slots mc ms : Nat} {Q : State → Prop}
variable {cc bytes : ByteArray} {pc nL n maxL index : Nat} {ls : Array Slot} {rest st0 As av : List Value} {D : va_G} {own host C E : String} {ad : Nat → Nat} {cA : Nat → ClassId} {M : fm_M} {n0 kd kc : Nat} {y : MethodName} {ret : Option FieldType}
variable {post pst : Int → fm_M → Prop} {thr : String → fm_M → Prop} {hh : List (Nat × Nat × Nat × Nat)}
theorem fx_metW (hy : plainName y.cls = true) (hn : (lg_sl av).length ≤ n)
    (body : ∀ (p : Program) (e : Env) (s : State) (m : MethodId) (below : List Frame) (meth : Method) (c : Code) (ls : Array Slot), e.platform.magicAccessors = ({} : Platform).magicAccessors → CallFix p m c cc n s av.toArray tb y.cls → fm_w D ad cA n0 s M s.heap [] → fx_noc s → c.exceptionTable.toList.map (fun h => (h.startPc, h.endPc, h.handlerPc, h.catchType)) = hh → meth.sig.returnType = ret → meth.locks = false → lv_has ls n (lv_args 0 av) →
      W p l e rm s m av.toArray below meth c s.heap [] 0 0 (fx_QC below D ad cA n0 mc ms kd post s) (F0 m 0 ls [])) :
    fx_MetC l y (Cond.codeWith y cc n ret hh :: tb) rm av D ad cA n0 M kd mc ms post := by
  refine MetFree.of_bodyS (code := cc) (maxLocals := n) (ret := ret) hy ?_ ?_
  · intro args s m h hn
    obtain ⟨m9, meth, c, hn9, h1, h2, h3, h4, -, h5, h6, -⟩ := Cond.codeWith_spec (atoms_spec (ws := Cond.codeWith y cc n ret hh :: tb) h _ List.mem_cons_self)
    cases hn.symm.trans hn9
    exact ⟨meth, c, h1, h2, h3, h4, h5, h6⟩
  · intro p e s m args below meth c s₁ B hml hP _
    obtain ⟨rfl, ⟨⟨hP1, hK1, hD1⟩, hp9, hsz⟩, hnc⟩ := hP
    have hts := atoms_spec (ws := Cond.codeWith y cc n ret hh :: tb) B.pre
    obtain ⟨m9, meth9, c9, hn9, hm9, hc9, -, -, hx9, -⟩ := Cond.codeWith_spec (hts _ List.mem_cons_self)
    cases B.named.symm.trans hn9
    cases B.method.symm.trans hm9
    cases (Stand.of_body B).code.symm.trans hc9
    have hh0 : s₁.heap = s.heap := by rw [B.state]; rfl
    have hb := body p e s m below meth c _ (by rw [(Stand.of_body B).admits.platform]) ⟨B.exec, B.bytes, hml, findClass_of_methodNamed B.named, fun w h => hts w (List.mem_cons_of_mem _ h)⟩ ⟨⟨hP1, hD1, hK1, va_S.rf, fun q h => Nat.le_trans hsz h⟩, hp9⟩ hnc hx9 B.returns B.notSynchronized (lv_entry av hn)
    rw [← lg_entry_eq] at hb
    obtain ⟨t, a1, o, b1, b2, b3⟩ := hb s₁ hh0 (Stand.of_body B)
    exact ⟨t, o, a1, b1, b2, b3⟩
theorem fx_iretC (F : CallFix p m c cc nL s args tb own) (w : fm_w D ad cA n0 s M H locs) (hr : meth.sig.returnType = some .int) (hlk : meth.locks = false) {v : Int} (hp : post v M) (hc : cells ≤ mc) (hs : slots ≤ ms) (hdg : decode cc pc = .ok (.ireturn, 1)) : W p l e R s m args below meth c H locs cells slots (fx_QC below D ad cA n0 mc ms 0 post s) (F0 m pc ls [.int (Int32.ofInt v)]) := by
  intro T hT X
  obtain ⟨t, a1, o, b1, b2, b3, L, hF, hL⟩ := W.iret (Qc := fun _ _ o t => o = .returned (some (.int (Int32.ofInt v))) ∧ t.heap = H) (free := fun q => n0 ≤ q) F.1 F.2.1 hr (fun t ht hW => ⟨rfl, ht⟩) w.1.2.2.2.1.2.2 hdg hlk T hT X
  exact ⟨t, a1, o, b1, b2, v, M, b3.1, hp, ⟨by rw [b3.2]; exact w.1.1, va_K.moved hF.2.1.alike w.1.2.2.1, w.1.2.1⟩, hF.2.1, L, hF.2.2.mono hc hs, hL⟩
/-- a call whose throws are caught here -/
theorem fx_try (w : fm_w D ad cA n0 s M H locs) (hr : fx_Run p l e R s m args below meth c D ad cA n0 kc pst thr H locs cells slots (F0 m pc ls st0) rest)
    (kk : ∀ (r : Int) (M1 : fm_M), pst r M1 → ∀ (H1 : Heap) (locs1 : List Loc), fm_w D ad cA n0 s M1 H1 locs1 → W p l e R s m args below meth c H1 locs1 cells slots Q (F0 m (pc + 3) ls ((fx_o ad kc r).toList ++ rest)))
    (kx : ∀ (E : String) (M1 : fm_M), thr E M1 → ∃ hp : Nat, fx_H e s m c pc E hp ∧ ∀ (x : Nat) (H1 : Heap) (locs1 : List Loc), fm_w D ad cA n0 s M1 H1 locs1 → W p l e R s m args below meth c H1 locs1 (cells + 1) (slots + 6) Q (F0 m hp ls [.ref x])) : W p l e R s m args below meth c H locs cells slots Q (F0 m pc ls st0) := by
  intro T hT X
  rcases hr T hT X with ⟨r, M1, T', L, X', hp, hWd, hF, hL, st⟩ | ⟨x, E, M1, T', L, X', ht9, hWd, hF, hL, ⟨ce, hce, hcv, hcc⟩, st⟩
  · obtain ⟨t, a1, b1⟩ := kk r M1 hp T'.heap (locs ++ L) (fx_back w hT X' hWd hF hL) T' rfl X'
    exact ⟨t, st t a1, b1⟩
  · obtain ⟨hp, hH, hk⟩ := kx E M1 ht9
    obtain ⟨pre, xh, suf, hsplit, hpass, hcov, hcat, hpc⟩ := hH ce hcc
    obtain ⟨vm', X'', st2⟩ := X'.thenCaughtThrough x (g := F0 m pc ls rest) rfl st hce (by rw [hcv]; rfl) (by obtain ⟨k9, h9, -⟩ := Vm.findClass_spec hcc; exact ⟨k9, h9⟩) pre xh suf hsplit hpass hcov hcat
    obtain ⟨t, a1, b1⟩ := hk x T'.heap (locs ++ L) (fx_back w hT X' hWd hF hL) (T'.setVm vm') rfl X''
    rw [← hpc] at a1
    exact ⟨t, st2.trans a1, b1⟩
theorem fx_H1 {a9 b9 h9 ct : Nat} (F : CallFix p m c cc nL s args tb own) (hpl : e.platform.magicAccessors = ({} : Platform).magicAccessors) (hx : c.exceptionTable.toList.map (fun h => (h.startPc, h.endPc, h.handlerPc, h.catchType)) = (a9, b9, h9, ct) :: hh) (h1 : a9 ≤ pc) (h2 : pc < b9) (h0 : ct ≠ 0) (hlink : Cond.classLink own ct E ∈ tb) (hcast : Cond.castable E E ∈ tb) : fx_H e s m c pc E h9 := by
  intro ce hcc
  obtain ⟨xh, suf, hsplit, e1, e2, e3, e4⟩ := cg_hand hx
  obtain ⟨c3, c4, hc3, hc4, hasg⟩ := Cond.castable_spec (F.2.2.2.2 _ hcast)
  cases Option.some.inj (hc3.symm.trans hcc)
  obtain ⟨c5, hc5, hcl5⟩ := Cond.classLink_spec F.2.2.2.1 (F.2.2.2.2 _ hlink) e.platform hpl
  cases Option.some.inj (hc4.symm.trans hc5)
  exact ⟨[], xh, suf, hsplit, (fun z hz => by cases hz), by simp [covers, e1, e2, h1, h2], Or.inr ⟨by rw [e4]; exact h0, c4, by rw [e4]; exact hcl5, hasg⟩, e3⟩
theorem fx_H2 {a8 b8 h8 ct8 a9 b9 h9 ct : Nat} {E8 : String} (F : CallFix p m c cc nL s args tb own) (hpl : e.platform.magicAccessors = ({} : Platform).magicAccessors) (hx : c.exceptionTable.toList.map (fun h => (h.startPc, h.endPc, h.handlerPc, h.catchType)) = (a8, b8, h8, ct8) :: (a9, b9, h9, ct) :: hh) (h1 : a9 ≤ pc) (h2 : pc < b9) (h0 : ct ≠ 0) (h08 : ct8 ≠ 0) (hl8 : Cond.classLink own ct8 E8 ∈ tb) (hno : (Cond.not (.castable E E8)).before args s = true) (hlink : Cond.classLink own ct E ∈ tb) (hcast : Cond.castable E E ∈ tb) : fx_H e s m c pc E h9 := by
  intro ce hcc
  cases hl : c.exceptionTable.toList with
  | nil => rw [hl] at hx; cases hx
  | cons x8 t8 =>
    cases t8 with
    | nil => rw [hl] at hx; cases hx
    | cons x9 t9 =>
      rw [hl] at hx
      simp only [List.map_cons, List.cons.injEq, Prod.mk.injEq] at hx
      obtain ⟨⟨-, -, -, q4⟩, ⟨e1, e2, e3, e4⟩, -⟩ := hx
      obtain ⟨c3, c4, hc3, hc4, hasg⟩ := Cond.castable_spec (F.2.2.2.2 _ hcast)
      cases Option.some.inj (hc3.symm.trans hcc)
      obtain ⟨c5, hc5, hcl5⟩ := Cond.classLink_spec F.2.2.2.1 (F.2.2.2.2 _ hlink) e.platform hpl
      cases Option.some.inj (hc4.symm.trans hc5)
      refine ⟨[x8], x9, t9, rfl, fun z hz => ?_, by simp [covers, e1, e2, h1, h2], Or.inr ⟨by rw [e4]; exact h0, c4, by rw [e4]; exact hcl5, hasg⟩, e3⟩
      rw [List.mem_singleton] at hz
      subst hz
      exact RowPassed.of_words hpl F.2.2.2.1 (by rw [q4]; exact h08) (by rw [q4]; exact F.2.2.2.2 _ hl8) hcc hno
/-- a call out of the law that doesn't throw -/
theorem fx_cN (w : fm_w D ad cA n0 s M H locs) (hr : fx_Run p l e R s m args below meth c D ad cA n0 kc pst (fun _ _ => False) H locs cells slots (F0 m pc ls st0) rest)
    (kk : ∀ (r : Int) (M1 : fm_M), pst r M1 → ∀ (H1 : Heap) (locs1 : List Loc), fm_w D ad cA n0 s M1 H1 locs1 → W p l e R s m args below meth c H1 locs1 cells slots Q (F0 m (pc + 3) ls ((fx_o ad kc r).toList ++ rest))) : W p l e R s m args below meth c H locs cells slots Q (F0 m pc ls st0) :=
  fx_try w hr kk (fun _ _ h => absurd h (fun h => h))
end FxHelp
