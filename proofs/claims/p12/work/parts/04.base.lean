/-! Own rows: the words that a walk carries along, a walk's world in one hypothesis, and a row an instruction over it. -/
theorem cg_in9 {i : Int32} {n : Nat} (h : ¬ (i < 0 ∨ n ≤ i.toNatClampNeg)) : vp_in i n := h
def cg_ok : Cond → Bool
  | .arrayClass _ => true
  | .fieldLinkNest .. => true
  | .methodLinkNest .. => true
  | .arrayOver (.object _) => true
  | .arrayOver (.array _) => true
  | .castable .. => true
  | .stringRef .. => true
  | .declares _ => true
  | w => w.onTables && w.keeps
theorem cg_warm {w : Cond} (hc : cg_ok w = true) {args a' : Array Value} {s U : State} (hW : s.WarmedH U.vm) (h : w.before args s = true) : w.before a' U = true := by
  cases w with
  | arrayClass ty => exact word_at hW (Or.inr ⟨_, rfl⟩) h
  | fieldLinkNest a i b n d z => exact va_tabs rfl (rfl : (s.setVm U.vm).vm = U.vm) (Cond.fieldLinkNest_warmed (args := args) hW h)
  | methodLinkNest a i x z => exact va_tabs rfl (rfl : (s.setVm U.vm).vm = U.vm) (Cond.methodLinkNest_warmed (args := args) hW h)
  | castable a b => exact va_tabs (A := args) rfl (rfl : (s.setVm U.vm).vm = U.vm) (by rw [Cond.castable_setVm hW.alike]; exact h)
  | declares x => exact va_tabs (A := args) rfl (rfl : (s.setVm U.vm).vm = U.vm) (by rw [Cond.declares_setVm hW.alike]; exact h)
  | stringRef a i t =>
    have h1 : (Cond.stringRef a i t).before args (s.setVm U.vm) = true := Cond.stringRef_warmed hW h
    first
      | exact va_tabs rfl (rfl : (s.setVm U.vm).vm = U.vm) h1
      | (simp only [Cond.before, Cond.holds, Cond.value, State.names, State.poolOf?, State.resolvedAt?, State.vm_setVm] at h1 ⊢; exact h1)
  | arrayOver ty =>
    cases ty with
    | object C => exact va_AO.moved hW.alike h
    | array t => exact over_moved hW.alike h
    | _ => exact word_at hW (Or.inl hc) h
  | _ => exact word_at hW (Or.inl hc) h
/-- the words of the tables that stay true under warmer tables -/
def tb : List Cond := lw_tbl.filter cg_ok
theorem tb_in {w : Cond} (h : w ∈ lw_tbl) (hc : cg_ok w = true) : w ∈ tb := List.mem_filter.mpr ⟨h, hc⟩
theorem tb_t {w : Cond} (h : w ∈ tables_1) (hc : cg_ok w = true) : w ∈ tb := tb_in (List.mem_append_right _ h) hc
theorem tb_ok {w : Cond} (h : w ∈ tb) : cg_ok w = true := (List.mem_filter.mp h).2
theorem tb_lw {w : Cond} (h : w ∈ tb) : w ∈ lw_tbl := (List.mem_filter.mp h).1
theorem tb_s {q : MethodName × Nat} (h : q ∈ lw_privs) : Cond.selects q.1.cls q.1 q.1 ∈ tb := tb_in (List.mem_append_left _ (List.mem_map.mpr ⟨q, h, rfl⟩)) rfl
/-- the world of a walk: the cells, apart and in A; the tables; what has stayed -/
abbrev cg_W (D : va_G) (cl : List vw_C) (A : Nat → Prop) (H0 : Heap) (s : State) (tys : List (ClassId × FieldType)) (ws : va_W) (H : Heap) (locs : List Loc) : Prop :=
  va_P D cl ws H ∧ va_D A ws ∧ va_K D cl tys s ∧ va_S A H0 H locs ∧ ∀ q, H0.size ≤ q → A q
abbrev cg_Pre (D : va_G) (cl : List vw_C) (sz : Nat) (ws : va_W) (tys : List (ClassId × FieldType)) (U : State) : Prop :=
  U.heap.size = sz ∧ va_P D cl ws U.heap ∧ va_K D cl tys U ∧ va_D (fun _ => True) ws
abbrev cg_B (D : va_G) (cl : List vw_C) (A : Nat → Prop) (ws : va_W) (tys : List (ClassId × FieldType)) (t : State) : Prop :=
  va_P D cl ws t.heap ∧ va_K D cl tys t ∧ va_D A ws
/-- a class: its fields' words, its number, its types, its names -/
abbrev cg_C (cl : List vw_C) (ci : Nat) (C : String) (T : u_T) (N : Nat) (ty : Nat → FieldType) : Prop :=
  (∀ x ∈ u_ws C T N, x ∈ tb) ∧ cl[ci]? = some (C, T, N) ∧ (∀ k, k < N → parseFieldDescriptor (T k).2.2.1 = some (ty k)) ∧ ∀ a, a < N → ∀ b, b < N → a ≠ b → (T a).2.1 ≠ (T b).2.1
/-- a method that is called: its code, its class -/
abbrev cg_E (y : MethodName) (bytes : ByteArray) (maxL : Nat) (ret : Option FieldType) (n : Nat) : Prop :=
  Cond.code y bytes maxL ret ∈ tb ∧ Cond.initialized y.cls ∈ tb ∧ y.cls ≠ "java/lang/invoke/MethodHandle" ∧ y.cls ≠ "java/lang/invoke/VarHandle" ∧ (parseMethodDescriptor y.desc).map (fun d => d.parameters.length) = some n
section CgStart
variable {p : Program} {l : Launch} {e : Env} {s s₁ : State} {m : MethodId} {args : Array Value} {below : List Frame} {meth : Method} {c : Code} {cc : ByteArray} {n sz mc ms : Nat} {ret : Option FieldType} {rm : Room} {y : MethodName} {D : va_G} {cl : List vw_C} {tys : List (ClassId × FieldType)} {ws : va_W} {av : List Value} {Qc : Array Value → State → Outcome → State → Prop} {free : Addr → Prop}
theorem cg_start (B : BodyLoose p l y (headSpec (Cond.code y cc n ret :: tb) rm) cc n ret e s m args below meth c s₁) (hml : c.maxLocals = n) (hv : cg_Pre D cl sz ws tys s) :
    CallFix p m c cc n s args tb y.cls ∧ cg_W D cl (va_A ws sz) s.heap s tys ws s.heap [] ∧ meth.sig.returnType = ret ∧ meth.locks = false ∧ meth.name = y.name := by
  have hts := atoms_spec (ws := Cond.code y cc n ret :: tb) B.pre
  obtain ⟨hsz, hP, hK, hD⟩ := hv
  subst hsz
  exact ⟨⟨B.exec, B.bytes, hml, findClass_of_methodNamed B.named, fun w h => hts w (List.mem_cons_of_mem _ h)⟩, ⟨hP, hD.self, hK, va_S.rf, fun q h => Or.inr h⟩, B.returns, B.notSynchronized, (name_of_methodNamed B.named B.method).1⟩
theorem cg_met (hy : plainName y.cls = true) (hn : (lg_sl av).length ≤ n)
    (body : ∀ (p : Program) (e : Env) (s : State) (m : MethodId) (below : List Frame) (meth : Method) (c : Code) (ls : Array Slot), CallFix p m c cc n s av.toArray tb y.cls → cg_W D cl (va_A ws sz) s.heap s tys ws s.heap [] → meth.sig.returnType = ret → meth.locks = false → meth.name = y.name → lv_has ls n (lv_args 0 av) →
      W p l e rm s m av.toArray below meth c s.heap [] 0 0 (MQ below Qc av.toArray s mc ms free) (F0 m 0 ls [])) :
    Met l y (Cond.code y cc n ret :: tb) rm (va_Pc av (cg_Pre D cl sz ws tys)) Qc mc ms free := by
  refine Met.ofW (cc := cc) (maxL := n) (ret := ret) hy rfl ?_
  intro p e s m args below meth c s₁ B hml hv
  obtain ⟨rfl, hv⟩ := hv
  obtain ⟨F, w, hr, hlk, hnm⟩ := cg_start B hml hv
  rw [lg_entry_eq]
  exact body p e s m below meth c _ F w hr hlk hnm (lv_entry av hn)
end CgStart
section CgRows
variable {p : Program} {l : Launch} {e : Env} {R : Room} {s : State} {m : MethodId} {args : Array Value} {below : List Frame} {meth : Method} {c : Code} {H : Heap} {locs : List Loc} {cells slots : Nat} {Q : State → Prop}
variable {cc : ByteArray} {pc nL : Nat} {ls : Array Slot} {rest : List Value} {D : va_G} {cl : List vw_C} {A : Nat → Prop} {a : Nat} {tys : List (ClassId × FieldType)} {ws : va_W} {H0 : Heap} {own : String}
variable {C : String} {T : u_T} {N ci index : Nat} {ty : Nat → FieldType}
theorem cg_get (F : CallFix p m c cc nL s args tb own) (w : cg_W D cl A H0 s tys ws H locs) (K : cg_C cl ci C T N ty) (q0 k : Nat) {fs : List Value} (he : ws[q0]? = some (a, .inr (ci, fs))) (hk : k < N) (hlink : Cond.fieldLink own index (T k).1 (T k).2.1 (T k).2.2.1 ∈ tb) {v : Value} (hv : fs[k]? = some v) (hdg : decode cc pc = .ok (.getfield index, 3))
    (kk : W p l e R s m args below meth c H locs cells slots Q (F0 m (pc + 3) ls (v :: rest))) : W p l e R s m args below meth c H locs cells slots Q (F0 m pc ls (.ref a :: rest)) :=
  va_get F.1 F.2.1 F.2.2.2.2 K.1 F.2.2.2.1 w.2.2.1 w.1 q0 he K.2.1 k hk (F.2.2.2.2 _ hlink) (fun _ h => h) hv hdg kk
theorem cg_put (F : CallFix p m c cc nL s args tb own) (w : cg_W D cl A H0 s tys ws H locs) (K : cg_C cl ci C T N ty) (q0 k : Nat) {fs : List Value} (he : ws[q0]? = some (a, .inr (ci, fs))) (hk : k < N) (hlink : Cond.fieldLink own index (T k).1 (T k).2.1 (T k).2.2.1 ∈ tb) (hfin : (T k).2.2.2 = false) {v : Value} (hn : narrow (ty k) v = v) (hfit : fits (ty k) v = true) (hl : k < fs.length) (hdg : decode cc pc = .ok (.putfield index, 3))
    (kk : ∀ (H1 : Heap) (locs1 : List Loc), cg_W D cl A H0 s tys (ws.set q0 (a, .inr (ci, fs.set k v))) H1 locs1 → W p l e R s m args below meth c H1 locs1 cells slots Q (F0 m (pc + 3) ls rest)) : W p l e R s m args below meth c H locs cells slots Q (F0 m pc ls (v :: .ref a :: rest)) :=
  va_put F.1 F.2.1 F.2.2.2.2 K.1 ty K.2.2.1 K.2.2.2 F.2.2.2.1 w.2.2.1 w.1 w.2.1 w.2.2.2.1 q0 he K.2.1 k hk (F.2.2.2.2 _ hlink) (fun _ h => h) hfin (K.2.2.1 k hk) hn hfit hl hdg (fun H1 locs1 hP hD hS => kk H1 locs1 ⟨hP, hD, w.2.2.1, hS, w.2.2.2.2⟩)
theorem cg_putF (F : CallFix p m c cc nL s args tb own) (w : cg_W D cl A H0 s tys ws H locs) (K : cg_C cl ci C T N ty) (q0 k : Nat) {fs : List Value} (he : ws[q0]? = some (a, .inr (ci, fs))) (hk : k < N) (hlink : Cond.fieldLink own index (T k).1 (T k).2.1 (T k).2.2.1 ∈ tb) (hfin : (T k).2.2.2 = true) (hin2 : meth.name = "<init>") (hdecl : (T k).1 = own) {v : Value} (hn : narrow (ty k) v = v) (hfit : fits (ty k) v = true) (hl : k < fs.length) (hdg : decode cc pc = .ok (.putfield index, 3))
    (kk : ∀ (H1 : Heap) (locs1 : List Loc), cg_W D cl A H0 s tys (ws.set q0 (a, .inr (ci, fs.set k v))) H1 locs1 → W p l e R s m args below meth c H1 locs1 cells slots Q (F0 m (pc + 3) ls rest)) : W p l e R s m args below meth c H locs cells slots Q (F0 m pc ls (v :: .ref a :: rest)) :=
  va_putF F.1 F.2.1 F.2.2.2.2 K.1 ty K.2.2.1 K.2.2.2 F.2.2.2.1 w.2.2.1 w.1 w.2.1 w.2.2.2.1 q0 he K.2.1 k hk (F.2.2.2.2 _ hlink) (fun _ h => h) hfin hin2 hdecl (K.2.2.1 k hk) hn hfit hl hdg (fun H1 locs1 hP hD hS => kk H1 locs1 ⟨hP, hD, w.2.2.1, hS, w.2.2.2.2⟩)
theorem cg_new (F : CallFix p m c cc nL s args tb own) (w : cg_W D cl A H0 s tys ws H locs) (K : cg_C cl ci C T N ty) (hcl : Cond.classLink own index C ∈ tb) (hinst : Cond.instantiable C N ∈ tb) (hini : Cond.initialized C ∈ tb) {fs : List Value} (hfs : ∀ j, j < N → defaultValue (ty j) = vp_V fs j) (hcells : cells + 1 ≤ R.cells) (hslots : slots + N ≤ R.slots) (hdg : decode cc pc = .ok (.new index, 3))
    (kk : ∀ (q : Nat) (H1 : Heap), cg_W D cl A H0 s tys (ws ++ [(q, .inr (ci, fs))]) H1 locs → W p l e R s m args below meth c H1 locs (cells + 1) (slots + N) Q (F0 m (pc + 3) ls (.ref q :: rest))) : W p l e R s m args below meth c H locs cells slots Q (F0 m pc ls rest) :=
  va_new F.1 F.2.1 F.2.2.2.2 K.1 ty K.2.2.1 F.2.2.2.1 (F.2.2.2.2 _ hcl) (F.2.2.2.2 _ hinst) (F.2.2.2.2 _ hini) w.2.2.1 w.1 w.2.1 w.2.2.2.1 w.2.2.2.2 K.2.1 hfs hcells hslots hdg (fun q H1 hP hD hS => kk q H1 ⟨hP, hD, w.2.2.1, hS, w.2.2.2.2⟩)
theorem cg_newa (F : CallFix p m c cc nL s args tb own) (w : cg_W D cl A H0 s tys ws H locs) {atype : ArrayType} {ft : FieldType} (harr : Cond.arrayClass (newarray.typeOf atype) ∈ tb) (hty : newarray.typeOf atype = ft) {n : Int32} {N' : Nat} {a0 : vp_A} (ha : ∀ cA : ClassId, vp_cell cA a0 = arrV cA N' (fun _ => defaultValue ft)) (hn : ¬ n < 0) (hN : n.toNatClampNeg = N') (hbytes : N' * componentBytes ft ≤ 536870912) (hcells : cells + 1 ≤ R.cells) (hslots : slots + N' ≤ R.slots) (hdg : decode cc pc = .ok (.newarray atype, 2))
    (kk : ∀ (q : Nat) (cA : ClassId) (H1 : Heap), cg_W D cl A H0 s (tys ++ [(cA, ft)]) (ws ++ [(q, .inl (cA, a0))]) H1 locs → W p l e R s m args below meth c H1 locs (cells + 1) (slots + N') Q (F0 m (pc + 2) ls (.ref q :: rest))) : W p l e R s m args below meth c H locs cells slots Q (F0 m pc ls (.int n :: rest)) :=
  va_newa F.1 F.2.1 (F.2.2.2.2 _ harr) hty w.2.2.1 w.1 w.2.1 w.2.2.2.1 w.2.2.2.2 ha hn hN hbytes hcells hslots hdg (fun q cA H1 hK hP hD hS => kk q cA H1 ⟨hP, hD, hK, hS, w.2.2.2.2⟩)
theorem cg_anew (F : CallFix p m c cc nL s args tb own) (w : cg_W D cl A H0 s tys ws H locs) (hcl : Cond.classLink own index C ∈ tb) (hov : Cond.arrayOver (.object C) ∈ tb) {n : Int32} {N' : Nat} (hn : ¬ n < 0) (hN : n.toNatClampNeg = N') (hbytes : N' * 4 ≤ 536870912) (hcells : cells + 1 ≤ R.cells) (hslots : slots + N' ≤ R.slots) (hdg : decode cc pc = .ok (.anewarray index, 3))
    (kk : ∀ (q : Nat) (cA : ClassId) (H1 : Heap), cg_W D cl A H0 s (tys ++ [(cA, .object C)]) (ws ++ [(q, .inl (cA, N', .inr (.inr (.inr (.inr (fun _ => none))))))]) H1 locs → W p l e R s m args below meth c H1 locs (cells + 1) (slots + N') Q (F0 m (pc + 3) ls (.ref q :: rest))) : W p l e R s m args below meth c H locs cells slots Q (F0 m pc ls (.int n :: rest)) :=
  va_newq F.1 F.2.1 F.2.2.2.1 (F.2.2.2.2 _ hcl) (va_AO.of (F.2.2.2.2 _ hov)) w.2.2.1 w.1 w.2.1 w.2.2.2.1 w.2.2.2.2 hn hN hbytes hcells hslots hdg (fun q cA H1 hK hP hD hS => kk q cA H1 ⟨hP, hD, hK, hS, w.2.2.2.2⟩)
theorem cg_iast (F : CallFix p m c cc nL s args tb own) (w : cg_W D cl A H0 s tys ws H locs) (q0 t0 : Nat) {cA : ClassId} {n : Nat} {f : Nat → Int32} (ha : ws[q0]? = some (a, .inl (cA, n, .inl f))) (ht : tys[t0]? = some (cA, .int)) {i x : Int32} (hin : vp_in i n) (hdg : decode cc pc = .ok (.iastore, 1))
    (kk : ∀ (H1 : Heap) (locs1 : List Loc), cg_W D cl A H0 s tys (ws.set q0 (a, .inl (cA, n, .inl (upd f i.toNatClampNeg x)))) H1 locs1 → W p l e R s m args below meth c H1 locs1 cells slots Q (F0 m (pc + 1) ls rest)) : W p l e R s m args below meth c H locs cells slots Q (F0 m pc ls (.int x :: .int i :: .ref a :: rest)) :=
  va_iast F.1 F.2.1 w.2.2.1 w.1 w.2.1 w.2.2.2.1 q0 t0 ha ht hin hdg (fun H1 locs1 hP hD hS => kk H1 locs1 ⟨hP, hD, w.2.2.1, hS, w.2.2.2.2⟩)
theorem cg_cast (F : CallFix p m c cc nL s args tb own) (w : cg_W D cl A H0 s tys ws H locs) (q0 t0 : Nat) {cA : ClassId} {n : Nat} {f : Nat → Int32} (ha : ws[q0]? = some (a, .inl (cA, n, .inl f))) (ht : tys[t0]? = some (cA, .char)) {i x : Int32} (hin : vp_in i n) (hdg : decode cc pc = .ok (.castore, 1))
    (kk : ∀ (H1 : Heap) (locs1 : List Loc), cg_W D cl A H0 s tys (ws.set q0 (a, .inl (cA, n, .inl (upd f i.toNatClampNeg (vp_nar .char x))))) H1 locs1 → W p l e R s m args below meth c H1 locs1 cells slots Q (F0 m (pc + 1) ls rest)) : W p l e R s m args below meth c H locs cells slots Q (F0 m pc ls (.int x :: .int i :: .ref a :: rest)) :=
  va_cast F.1 F.2.1 w.2.2.1 w.1 w.2.1 w.2.2.2.1 q0 t0 ha ht hin hdg (fun H1 locs1 hP hD hS => kk H1 locs1 ⟨hP, hD, w.2.2.1, hS, w.2.2.2.2⟩)
theorem cg_aast (F : CallFix p m c cc nL s args tb own) (w : cg_W D cl A H0 s tys ws H locs) (q0 t0 qk : Nat) {cA : ClassId} {r : vw_C} {n v : Nat} {vs : List Value} {f : Nat → Option Nat} (hc : cl[ci]? = some r) (ha : ws[q0]? = some (a, .inl (cA, n, .inr (.inr (.inr (.inr f)))))) (ht : tys[t0]? = some (cA, .object r.1)) (hv : ws[qk]? = some (v, .inr (ci, vs))) {i : Int32} (hin : vp_in i n) (hdg : decode cc pc = .ok (.aastore, 1))
    (kk : ∀ (H1 : Heap) (locs1 : List Loc), cg_W D cl A H0 s tys (ws.set q0 (a, .inl (cA, n, .inr (.inr (.inr (.inr (va_up f i.toNatClampNeg (some v)))))))) H1 locs1 → W p l e R s m args below meth c H1 locs1 cells slots Q (F0 m (pc + 1) ls rest)) : W p l e R s m args below meth c H locs cells slots Q (F0 m pc ls (.ref v :: .int i :: .ref a :: rest)) :=
  va_astq F.1 F.2.1 w.2.2.1 w.1 w.2.1 w.2.2.2.1 q0 t0 qk ci ha ht hv hc hin hdg (fun H1 locs1 hP hD hS => kk H1 locs1 ⟨hP, hD, w.2.2.1, hS, w.2.2.2.2⟩)
theorem cg_obj (F : CallFix p m c cc nL s args tb own) {st : List Value} {a : Nat} (hl : Cond.methodLink own index objectInit ∈ tb) (hi : Cond.instanceMethod objectInit ∈ tb) (hc : Cond.code objectInit ⟨#[0xb1]⟩ 1 none ∈ tb) (hsz : ls.size = nL) (hdg : decode cc pc = .ok (.invokespecial index, 3)) (hf : 1 ≤ R.frames) (hlo : (st.map fun v => v.category).sum + 12 ≤ R.locals)
    (kk : W p l e R s m args below meth c H locs cells slots Q (F0 m (pc + 3) ls st)) : W p l e R s m args below meth c H locs cells slots Q (F0 m pc ls (.ref a :: st)) :=
  W.objInit F.1 F.2.1 F.2.2.2.1 (F.2.2.2.2 _ hl) (F.2.2.2.2 _ hi) (F.2.2.2.2 _ hc) rfl (hsz.trans F.2.2.1.symm) rfl hdg hf (by show 2 * 0 + _ + 12 ≤ _; omega) kk
/-- fewer cells, in another order -/
theorem cg_sub (w : cg_W D cl A H0 s tys ws H locs) (ws' : va_W) (isW : List Nat) (h1 : isW.filterMap (fun i => ws[i]?) = ws') (h2 : isW.map (fun i => ws[i]?) = ws'.map some) (hnd : va_nd isW = true) (ts' : List (ClassId × FieldType)) (isT : List Nat) (h3 : isT.filterMap (fun i => tys[i]?) = ts') : cg_W D cl A H0 s ts' ws' H locs :=
  ⟨w.1.sub isW h1, w.2.1.sub isW hnd h2, w.2.2.1.sub isT h3, w.2.2.2.1, w.2.2.2.2⟩
end CgRows
section CgEnds
variable {p : Program} {l : Launch} {e : Env} {R : Room} {s : State} {m : MethodId} {args : Array Value} {below : List Frame} {meth : Method} {c : Code} {H : Heap} {locs : List Loc} {cells slots mc ms : Nat}
variable {cc : ByteArray} {pc nL : Nat} {ls : Array Slot} {D : va_G} {cl : List vw_C} {A : Nat → Prop} {tys : List (ClassId × FieldType)} {ws : va_W} {own : String} {S : Type} {w1 : S → va_W} {t1 : S → List (ClassId × FieldType)}
theorem cg_end {H0 : Heap} (w : cg_W D cl A H0 s tys ws H locs) {u : S} (isW isT : List Nat) (h1 : isW.filterMap (fun i => ws[i]?) = w1 u) (h2 : isW.map (fun i => ws[i]?) = (w1 u).map some) (hnd : va_nd isW = true) (h3 : isT.filterMap (fun i => tys[i]?) = t1 u) {t : State} (ht : t.heap = H) (hW : s.WarmedH t.vm) : cg_B D cl A (w1 u) (t1 u) t :=
  ⟨by rw [ht]; exact w.1.sub isW h1, va_K.moved hW.alike (w.2.2.1.sub isT h3), w.2.1.sub isW hnd h2⟩
theorem cg_vret {post : S → Prop} (F : CallFix p m c cc nL s args tb own) (w : cg_W D cl A s.heap s tys ws H locs) (hr : meth.sig.returnType = none) (hlk : meth.locks = false) (u : S) (hp : post u) (isW isT : List Nat) (h1 : isW.filterMap (fun i => ws[i]?) = w1 u) (h2 : isW.map (fun i => ws[i]?) = (w1 u).map some) (hnd : va_nd isW = true) (h3 : isT.filterMap (fun i => tys[i]?) = t1 u) (hc : cells ≤ mc) (hs : slots ≤ ms) (hdg : decode cc pc = .ok (.return_, 1)) :
    W p l e R s m args below meth c H locs cells slots (MQ below (va_Qv post (fun u t => cg_B D cl A (w1 u) (t1 u) t) A) args s mc ms A) (F0 m pc ls []) := by
  refine W.widen (k := mc) (n := ms) hc hs ?_
  exact W.vret F.1 F.2.1 hr (fun t ht hW => ⟨⟨u, rfl, hp, cg_end w isW isT h1 h2 hnd h3 ht hW⟩, w.2.2.2.1.F ht⟩) w.2.2.2.1.2.2 hdg hlk
theorem cg_iret {post : Int32 → S → Prop} {v : Int32} (F : CallFix p m c cc nL s args tb own) (w : cg_W D cl A s.heap s tys ws H locs) (hr : meth.sig.returnType = some .int) (hlk : meth.locks = false) (u : S) (hp : post v u) (isW isT : List Nat) (h1 : isW.filterMap (fun i => ws[i]?) = w1 u) (h2 : isW.map (fun i => ws[i]?) = (w1 u).map some) (hnd : va_nd isW = true) (h3 : isT.filterMap (fun i => tys[i]?) = t1 u) (hc : cells ≤ mc) (hs : slots ≤ ms) (hdg : decode cc pc = .ok (.ireturn, 1)) :
    W p l e R s m args below meth c H locs cells slots (MQ below (va_Qi post (fun u t => cg_B D cl A (w1 u) (t1 u) t) A) args s mc ms A) (F0 m pc ls [.int v]) := by
  refine W.widen (k := mc) (n := ms) hc hs ?_
  exact W.iret F.1 F.2.1 hr (fun t ht hW => ⟨⟨v, u, rfl, hp, cg_end w isW isT h1 h2 hnd h3 ht hW⟩, w.2.2.2.1.F ht⟩) w.2.2.2.1.2.2 hdg hlk
theorem cg_zret {post : Int32 → S → Prop} {v : Int32} {ft : FieldType} (F : CallFix p m c cc nL s args tb own) (w : cg_W D cl A s.heap s tys ws H locs) (hr : meth.sig.returnType = some ft) (hn : narrow ft (.int v) = .int v) (hlk : meth.locks = false) (u : S) (hp : post v u) (isW isT : List Nat) (h1 : isW.filterMap (fun i => ws[i]?) = w1 u) (h2 : isW.map (fun i => ws[i]?) = (w1 u).map some) (hnd : va_nd isW = true) (h3 : isT.filterMap (fun i => tys[i]?) = t1 u) (hc : cells ≤ mc) (hs : slots ≤ ms) (hdg : decode cc pc = .ok (.ireturn, 1)) :
    W p l e R s m args below meth c H locs cells slots (MQ below (va_Qi post (fun u t => cg_B D cl A (w1 u) (t1 u) t) A) args s mc ms A) (F0 m pc ls [.int v]) := by
  refine W.widen (k := mc) (n := ms) hc hs ?_
  exact W.zret F.1 F.2.1 hr hn (fun t ht hW => ⟨⟨v, u, rfl, hp, cg_end w isW isT h1 h2 hnd h3 ht hW⟩, w.2.2.2.1.F ht⟩) w.2.2.2.1.2.2 hdg hlk
theorem cg_lret {post : Int64 → S → Prop} {v : Int64} (F : CallFix p m c cc nL s args tb own) (w : cg_W D cl A s.heap s tys ws H locs) (hr : meth.sig.returnType = some .long) (hlk : meth.locks = false) (u : S) (hp : post v u) (isW isT : List Nat) (h1 : isW.filterMap (fun i => ws[i]?) = w1 u) (h2 : isW.map (fun i => ws[i]?) = (w1 u).map some) (hnd : va_nd isW = true) (h3 : isT.filterMap (fun i => tys[i]?) = t1 u) (hc : cells ≤ mc) (hs : slots ≤ ms) (hdg : decode cc pc = .ok (.lreturn, 1)) :
    W p l e R s m args below meth c H locs cells slots (MQ below (va_Ql post (fun u t => cg_B D cl A (w1 u) (t1 u) t) A) args s mc ms A) (F0 m pc ls [.long v]) := by
  refine W.widen (k := mc) (n := ms) hc hs ?_
  exact W.lret F.1 F.2.1 hr (fun t ht hW => ⟨⟨v, u, rfl, hp, cg_end w isW isT h1 h2 hnd h3 ht hW⟩, w.2.2.2.1.F ht⟩) w.2.2.2.1.2.2 hdg hlk
end CgEnds
section CgCalls
variable {p : Program} {l : Launch} {e : Env} {R : Room} {s : State} {m : MethodId} {args : Array Value} {below : List Frame} {meth : Method} {c : Code} {H : Heap} {locs : List Loc} {cells slots mc ms : Nat} {Q : State → Prop}
variable {cc bytes : ByteArray} {pc nL maxL n index : Nat} {ls : Array Slot} {rest st0 As : List Value} {D : va_G} {cl : List vw_C} {A : Nat → Prop} {a b : Nat} {tys tc : List (ClassId × FieldType)} {ws wc wr : va_W} {H0 : Heap} {own host : String} {S : Type} {w1 : S → va_W} {t1 : S → List (ClassId × FieldType)}
variable {y : MethodName} {ret : Option FieldType} {rm : Room} {Pc : Array Value → State → Prop} {Qc : Array Value → State → Outcome → State → Prop} {free : Addr → Prop}
theorem cg_pre {av : List Value} (w : cg_W D cl A H0 s tys ws H locs) (isC isT : List Nat) (h1 : isC.filterMap (fun i => ws[i]?) = wc) (h2 : isC.map (fun i => ws[i]?) = wc.map some) (hnd : va_nd isC = true) (h3 : isT.filterMap (fun i => tys[i]?) = tc) : PreS s H (va_Pc av (cg_Pre D cl H.size wc tc)) av :=
  ⟨fun a U g mk q => ⟨q.1, q.2.1, q.2.2.1, va_K.moved (u := U) (U := U.calling g mk a) (Vm.Alike.refl U.vm) q.2.2.2.1, q.2.2.2.2⟩, fun U hU hW => ⟨rfl, by rw [hU], by rw [hU]; exact w.1.sub isC h1, va_K.moved hW.alike (w.2.2.1.sub isT h3), (w.2.1.sub isC hnd h2).weaken (fun _ _ _ _ => trivial)⟩⟩
theorem cg_preV {C : String} {T : u_T} {N ci : Nat} {ty : Nat → FieldType} (w : cg_W D cl A H0 s tys ws H locs) (K : cg_C cl ci C T N ty) (q0 : Nat) {fs : List Value} (he : ws[q0]? = some (b, .inr (ci, fs))) (isC isT : List Nat) (h1 : isC.filterMap (fun i => ws[i]?) = wc) (h2 : isC.map (fun i => ws[i]?) = wc.map some) (hnd : va_nd isC = true) (h3 : isT.filterMap (fun i => tys[i]?) = tc) : PreV s H C b (va_Pc (.ref b :: As) (cg_Pre D cl H.size wc tc)) As :=
  ⟨(cg_pre (av := .ref b :: As) w isC isT h1 h2 hnd h3).1, va_recv w.2.2.1 w.1 K.2.1 he, (cg_pre (av := .ref b :: As) w isC isT h1 h2 hnd h3).2⟩
abbrev cg_rm (R rm : Room) (maxL mc ms cells slots : Nat) : Prop := (rm.cells = mc ∧ rm.slots = ms) ∧ (rm.frames + 1 ≤ R.frames ∧ 8 + (maxL + 11) + rm.locals ≤ R.locals) ∧ cells + mc ≤ R.cells ∧ slots + ms ≤ R.slots
theorem cg_words (F : CallFix p m c cc nL s args tb own) (E : Cond.code y bytes maxL ret ∈ tb) : ∀ w ∈ Cond.code y bytes maxL ret :: tb, ∀ (a' : Array Value) (U : State), s.WarmedH U.vm → w.before a' U = true := by
  intro w hw a' U hW
  have hw' : w ∈ tb := by
    rcases List.mem_cons.mp hw with rfl | h
    · exact E
    · exact h
  exact cg_warm (tb_ok hw') hW (F.2.2.2.2 w hw')
theorem cg_len (E : cg_E y bytes maxL ret n) : ∀ sig, parseMethodDescriptor y.desc = some sig → n = sig.parameters.length := by
  intro sig h
  have h2 := E.2.2.2.2
  rw [h] at h2
  exact (Option.some.inj h2).symm
theorem cg_callB (F : CallFix p m c cc nL s args tb own) (E : cg_E y bytes maxL ret n) (hl : Cond.methodLink own index y ∈ tb) (hrm : cg_rm R rm maxL mc ms cells slots) : CallB R s args own index y bytes maxL ret (Cond.code y bytes maxL ret :: tb) rm mc ms n :=
  ⟨hrm.1.1, hrm.1.2, hrm.2.1.1, hrm.2.1.2, cg_words F E.1, List.mem_cons_self, F.2.2.2.2 _ E.1, F.2.2.2.2 _ E.2.1, ⟨E.2.2.1, E.2.2.2.1⟩, cg_len E, F.2.2.2.2 _ hl⟩
theorem cg_callN (F : CallFix p m c cc nL s args tb own) (E : cg_E y bytes maxL ret n) (hl : Cond.methodLinkNest own index y host ∈ tb) (hrm : cg_rm R rm maxL mc ms cells slots) : va_CN R s args own index y host bytes maxL ret (Cond.code y bytes maxL ret :: tb) rm mc ms n :=
  ⟨⟨hrm.1.1, hrm.1.2, hrm.2.1.1, hrm.2.1.2, cg_words F E.1, List.mem_cons_self⟩, F.2.2.2.2 _ E.1, F.2.2.2.2 _ E.2.1, ⟨E.2.2.1, E.2.2.2.1⟩, cg_len E, F.2.2.2.2 _ hl⟩
theorem cg_rV {C : String} (F : CallFix p m c cc nL s args tb own) (hM : Met l y (Cond.code y bytes maxL ret :: tb) rm Pc Qc mc ms free) (E : cg_E y bytes maxL ret n) (hi : Cond.instanceMethod y ∈ tb) (hse : Cond.selects C y y ∈ tb) (hl : Cond.methodLink own index y ∈ tb) (hp : PreV s H C b Pc As) (hn : As.length = n) (hsz : ls.size = nL) (hst : st0 = As.reverse ++ .ref b :: rest) (hW : (rest.map fun v => v.category).sum ≤ 8) (hrm : cg_rm R rm maxL mc ms cells slots) (hdg : decode cc pc = .ok (.invokevirtual index, 3)) :
    va_Run p l e R s m args below meth c H locs cells slots mc ms (F0 m pc ls st0) rest (Qc (Value.ref b :: As).toArray) free :=
  va_runV F hM ⟨cg_callB F E hl hrm, F.2.2.2.2 _ hi, F.2.2.2.2 _ hse⟩ hp rfl hn hsz hst (lv_room hW) hdg hrm.2.2
theorem cg_rVN {C : String} (F : CallFix p m c cc nL s args tb own) (hM : Met l y (Cond.code y bytes maxL ret :: tb) rm Pc Qc mc ms free) (E : cg_E y bytes maxL ret n) (hi : Cond.instanceMethod y ∈ tb) (hse : Cond.selects C y y ∈ tb) (hl : Cond.methodLinkNest own index y host ∈ tb) (hp : PreV s H C b Pc As) (hn : As.length = n) (hsz : ls.size = nL) (hst : st0 = As.reverse ++ .ref b :: rest) (hW : (rest.map fun v => v.category).sum ≤ 8) (hrm : cg_rm R rm maxL mc ms cells slots) (hdg : decode cc pc = .ok (.invokevirtual index, 3)) :
    va_Run p l e R s m args below meth c H locs cells slots mc ms (F0 m pc ls st0) rest (Qc (Value.ref b :: As).toArray) free :=
  va_runVN F hM ⟨cg_callN F E hl hrm, F.2.2.2.2 _ hi, F.2.2.2.2 _ hse⟩ hp rfl hn hsz hst (lv_room hW) hdg hrm.2.2
theorem cg_rS (F : CallFix p m c cc nL s args tb own) (hM : Met l y (Cond.code y bytes maxL ret :: tb) rm Pc Qc mc ms free) (E : cg_E y bytes maxL ret n) (hi : Cond.static y ∈ tb) (hl : Cond.methodLink own index y ∈ tb) (hp : PreS s H Pc As) (hn : As.length = n) (hsz : ls.size = nL) (hst : st0 = As.reverse ++ rest) (hW : (rest.map fun v => v.category).sum ≤ 8) (hrm : cg_rm R rm maxL mc ms cells slots) (hdg : decode cc pc = .ok (.invokestatic index, 3)) :
    va_Run p l e R s m args below meth c H locs cells slots mc ms (F0 m pc ls st0) rest (Qc As.toArray) free :=
  va_runS F hM ⟨cg_callB F E hl hrm, F.2.2.2.2 _ hi⟩ hp rfl hn hsz hst (lv_room hW) hdg hrm.2.2
theorem cg_rSN (F : CallFix p m c cc nL s args tb own) (hM : Met l y (Cond.code y bytes maxL ret :: tb) rm Pc Qc mc ms free) (E : cg_E y bytes maxL ret n) (hi : Cond.static y ∈ tb) (hl : Cond.methodLinkNest own index y host ∈ tb) (hp : PreS s H Pc As) (hn : As.length = n) (hsz : ls.size = nL) (hst : st0 = As.reverse ++ rest) (hW : (rest.map fun v => v.category).sum ≤ 8) (hrm : cg_rm R rm maxL mc ms cells slots) (hdg : decode cc pc = .ok (.invokestatic index, 3)) :
    va_Run p l e R s m args below meth c H locs cells slots mc ms (F0 m pc ls st0) rest (Qc As.toArray) free :=
  va_runSN F hM ⟨cg_callN F E hl hrm, F.2.2.2.2 _ hi, trivial⟩ hp rfl hn hsz hst (lv_room hW) hdg hrm.2.2
theorem cg_rI (F : CallFix p m c cc nL s args tb own) (hM : Met l y (Cond.code y bytes maxL none :: tb) rm Pc Qc mc ms free) (E : cg_E y bytes maxL none n) (hnm : y.name = "<init>") (hi : Cond.instanceMethod y ∈ tb) (hl : Cond.methodLink own index y ∈ tb) (hp : PreS s H Pc (.ref b :: As)) (hn : As.length = n) (hsz : ls.size = nL) (hst : st0 = As.reverse ++ .ref b :: rest) (hW : (rest.map fun v => v.category).sum ≤ 8) (hrm : cg_rm R rm maxL mc ms cells slots) (hdg : decode cc pc = .ok (.invokespecial index, 3)) :
    va_Run p l e R s m args below meth c H locs cells slots mc ms (F0 m pc ls st0) rest (Qc (Value.ref b :: As).toArray) free :=
  va_runI F hM ⟨cg_callB F E hl hrm, hnm, F.2.2.2.2 _ hi⟩ hp rfl hn hsz hst (lv_room hW) hdg hrm.2.2
theorem cg_rIN (F : CallFix p m c cc nL s args tb own) (hM : Met l y (Cond.code y bytes maxL none :: tb) rm Pc Qc mc ms free) (E : cg_E y bytes maxL none n) (hnm : y.name = "<init>") (hi : Cond.instanceMethod y ∈ tb) (hl : Cond.methodLinkNest own index y host ∈ tb) (hp : PreS s H Pc (.ref b :: As)) (hn : As.length = n) (hsz : ls.size = nL) (hst : st0 = As.reverse ++ .ref b :: rest) (hW : (rest.map fun v => v.category).sum ≤ 8) (hrm : cg_rm R rm maxL mc ms cells slots) (hdg : decode cc pc = .ok (.invokespecial index, 3)) :
    va_Run p l e R s m args below meth c H locs cells slots mc ms (F0 m pc ls st0) rest (Qc (Value.ref b :: As).toArray) free :=
  va_runIN F hM ⟨cg_callN F E hl hrm, hnm, F.2.2.2.2 _ hi⟩ hp rfl hn hsz hst (lv_room hW) hdg hrm.2.2
theorem cg_cv {post : S → Prop} {av : Array Value} (w : cg_W D cl A H0 s tys ws H locs) (isC isR : List Nat) (hC : isC.map (fun i => ws[i]?) = wc.map some) (hR : isR.map (fun i => ws[i]?) = wr.map some) (hn : va_nd isR = true) (hdis : ∀ i ∈ isR, i ∉ isC)
    (hr : va_Run p l e R s m args below meth c H locs cells slots mc ms (F0 m pc ls st0) rest (va_Qv post (fun u t => cg_B D cl (va_A wc H.size) (w1 u) (t1 u) t) (va_A wc H.size) av) (va_A wc H.size))
    (kk : ∀ (u : S) (H1 : Heap) (locs1 : List Loc), post u → cg_W D cl A H0 s (tys ++ t1 u) (wr ++ w1 u) H1 locs1 → W p l e R s m args below meth c H1 locs1 (cells + mc) (slots + ms) Q (F0 m (pc + 3) ls rest)) : W p l e R s m args below meth c H locs cells slots Q (F0 m pc ls st0) := by
  have hF := va_free (wc := wc) w.2.1 w.2.2.2.1 w.2.2.2.2 isC hC
  refine va_callv hr w.2.2.2.1 (fun q _ h => hF q h) hF (fun u t H1 locs1 ht hvm hp hB hz hk hS => ?_)
  obtain ⟨hP1, hK1, hD1⟩ := hB
  rw [ht] at hP1
  obtain ⟨hP, hD⟩ := va_join (wr := wr) (w1 := w1 u) w.1 w.2.1 isC isR hC hR hn hdis hk hF hP1 hD1
  exact kk u H1 locs1 hp ⟨hP, hD, w.2.2.1.app (va_K.moved hvm.symm hK1), hS, w.2.2.2.2⟩
theorem cg_ci {post : Int32 → S → Prop} {av : Array Value} (w : cg_W D cl A H0 s tys ws H locs) (isC isR : List Nat) (hC : isC.map (fun i => ws[i]?) = wc.map some) (hR : isR.map (fun i => ws[i]?) = wr.map some) (hn : va_nd isR = true) (hdis : ∀ i ∈ isR, i ∉ isC)
    (hr : va_Run p l e R s m args below meth c H locs cells slots mc ms (F0 m pc ls st0) rest (va_Qi post (fun u t => cg_B D cl (va_A wc H.size) (w1 u) (t1 u) t) (va_A wc H.size) av) (va_A wc H.size))
    (kk : ∀ (r : Int32) (u : S) (H1 : Heap) (locs1 : List Loc), post r u → cg_W D cl A H0 s (tys ++ t1 u) (wr ++ w1 u) H1 locs1 → W p l e R s m args below meth c H1 locs1 (cells + mc) (slots + ms) Q (F0 m (pc + 3) ls (.int r :: rest))) : W p l e R s m args below meth c H locs cells slots Q (F0 m pc ls st0) := by
  have hF := va_free (wc := wc) w.2.1 w.2.2.2.1 w.2.2.2.2 isC hC
  refine va_calli hr w.2.2.2.1 (fun q _ h => hF q h) hF (fun r u t H1 locs1 ht hvm hp hB hz hk hS => ?_)
  obtain ⟨hP1, hK1, hD1⟩ := hB
  rw [ht] at hP1
  obtain ⟨hP, hD⟩ := va_join (wr := wr) (w1 := w1 u) w.1 w.2.1 isC isR hC hR hn hdis hk hF hP1 hD1
  exact kk r u H1 locs1 hp ⟨hP, hD, w.2.2.1.app (va_K.moved hvm.symm hK1), hS, w.2.2.2.2⟩
theorem cg_cl {post : Int64 → S → Prop} {av : Array Value} (w : cg_W D cl A H0 s tys ws H locs) (isC isR : List Nat) (hC : isC.map (fun i => ws[i]?) = wc.map some) (hR : isR.map (fun i => ws[i]?) = wr.map some) (hn : va_nd isR = true) (hdis : ∀ i ∈ isR, i ∉ isC)
    (hr : va_Run p l e R s m args below meth c H locs cells slots mc ms (F0 m pc ls st0) rest (va_Ql post (fun u t => cg_B D cl (va_A wc H.size) (w1 u) (t1 u) t) (va_A wc H.size) av) (va_A wc H.size))
    (kk : ∀ (r : Int64) (u : S) (H1 : Heap) (locs1 : List Loc), post r u → cg_W D cl A H0 s (tys ++ t1 u) (wr ++ w1 u) H1 locs1 → W p l e R s m args below meth c H1 locs1 (cells + mc) (slots + ms) Q (F0 m (pc + 3) ls (.long r :: rest))) : W p l e R s m args below meth c H locs cells slots Q (F0 m pc ls st0) := by
  have hF := va_free (wc := wc) w.2.1 w.2.2.2.1 w.2.2.2.2 isC hC
  refine va_calll hr w.2.2.2.1 (fun q _ h => hF q h) hF (fun r u t H1 locs1 ht hvm hp hB hz hk hS => ?_)
  obtain ⟨hP1, hK1, hD1⟩ := hB
  rw [ht] at hP1
  obtain ⟨hP, hD⟩ := va_join (wr := wr) (w1 := w1 u) w.1 w.2.1 isC isR hC hR hn hdis hk hF hP1 hD1
  exact kk r u H1 locs1 hp ⟨hP, hD, w.2.2.1.app (va_K.moved hvm.symm hK1), hS, w.2.2.2.2⟩
end CgCalls
theorem cg_mem {L : List Cond} {ps : List Nat} (h1 : L = ps.filterMap (fun i => tables_1[i]?)) (h2 : L.all cg_ok = true) : ∀ x ∈ L, x ∈ tb := by
  intro x hx
  have hok := List.all_eq_true.mp h2 x hx
  rw [h1] at hx
  obtain ⟨i, -, hi⟩ := List.mem_filterMap.mp hx
  exact tb_t (List.mem_of_getElem? hi) hok
