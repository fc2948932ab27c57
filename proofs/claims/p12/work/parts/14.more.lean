/-! More rows over the flat memory: a reference returned, narrowings, ranges, sizes; a goal at a place of a method. -/
theorem rgl {a : Int} (h : -2147483648 ≤ a ∧ a ≤ 2147483647) : rg a := h
theorem rll {a : Int} (h : -9223372036854775808 ≤ a ∧ a ≤ 9223372036854775807) : rl a := h
theorem rg_jcmp {a b : Int} : rg (jcmp a b) := by
  unfold jcmp rg
  split
  · decide
  · split <;> decide
theorem fx_nz {v : Int} (h : v = 0 ∨ v = 1) : narrow .boolean (.int (Int32.ofInt v)) = .int (Int32.ofInt v) := by rcases h with rfl | rfl <;> rfl
theorem fx_nc {v : Int} (h : 0 ≤ v ∧ v < 65536) : narrow .char (.int (Int32.ofInt v)) = .int (Int32.ofInt v) := by
  obtain ⟨q, hq⟩ : ∃ q : Nat, v = q := ⟨v.toNat, by omega⟩
  subst hq
  have e1 : Int32.ofInt (q : Int) = nI q := rfl
  rw [e1]
  exact (pk_charN (q := q) (by omega)).1
def fm_sz (k : Nat) : Nat := match TC k with
  | .inr (_, n) => n
  | _ => 0
theorem fm_szb : ∀ k : Fin 363, fm_sz k.1 < 2 ^ 31 := by decide +kernel
theorem fm_szlt {k : Nat} (h : k < nC) : fm_sz k < 2 ^ 31 := fm_szb ⟨k, h⟩
section FxMore
variable {p : Program} {l : Launch} {e : Env} {R : Room} {s : State} {m : MethodId} {args : Array Value} {below : List Frame} {meth : Method} {c : Code} {H : Heap} {locs : List Loc}
variable {cc : ByteArray} {pc nL : Nat} {ls : Array Slot} {D : va_G} {own C2 : String} {ad : Nat → Nat} {cA : Nat → ClassId} {M : fm_M} {n0 k : Nat}
variable {post : Int → fm_M → Prop} {thr : String → fm_M → Prop}
theorem fx_aret (F : CallFix p m c cc nL s args tb own) (w : fm_w D ad cA n0 s M H locs) (hr : meth.sig.returnType = some (.object C2)) (hlk : meth.locks = false) (hp : post (k : Int) M) (hdg : decode cc pc = .ok (.areturn, 1)) : W p l e R s m args below meth c H locs 0 0 (fx_Q below D ad cA n0 2 post thr s) (F0 m pc ls [.ref (ad k)]) := by
  intro T hT X
  obtain ⟨t, a1, o, b1, b2, b3, L, hF, hL⟩ := W.aret (Qc := fun _ _ o t => o = .returned (some (.ref (ad k))) ∧ t.heap = H) (free := fun q => n0 ≤ q) F.1 F.2.1 hr (Or.inl ⟨_, rfl⟩) (Or.inr ⟨_, rfl⟩) (fun t ht hW => ⟨rfl, ht⟩) w.1.2.2.2.1.2.2 hdg hlk T hT X
  exact ⟨t, a1, o, b1, b2, fx_end w hp b3.1 b3.2 hF hL⟩
end FxMore
/-- from a place of a method, over a memory and its locals -/
def fx_G (p : Program) (l : Launch) (e : Env) (R : Room) (s : State) (m : MethodId) (args : Array Value) (below : List Frame) (meth : Method) (c : Code) (D : va_G) (ad : Nat → Nat) (cA : Nat → ClassId) (n0 kd : Nat) (post : Int → fm_M → Prop) (thr : String → fm_M → Prop) (nL : Nat) (M : fm_M) (lo : List (Nat × Value)) (pc : Nat) (st : List Value) : Prop :=
  ∀ (H : Heap) (locs : List Loc) (ls : Array Slot), fm_w D ad cA n0 s M H locs → lv_has ls nL lo → W p l e R s m args below meth c H locs 0 0 (fx_Q below D ad cA n0 kd post thr s) (F0 m pc ls st)
/-! A number that is the same to the machine and is in range. -/
def jwl (a : Int) : Int := (Int64.ofInt a).toInt
def jwi (a : Int) : Int := (Int32.ofInt a).toInt
theorem jwl_eq (a : Int) : Int64.ofInt a = Int64.ofInt (jwl a) := (Int64.ofInt_toInt _).symm
theorem jwi_eq (a : Int) : Int32.ofInt a = Int32.ofInt (jwi a) := (Int32.ofInt_toInt _).symm
theorem jwl_rg (a : Int) : rl (jwl a) := ⟨Int64.le_toInt _, Int64.toInt_le _⟩
theorem jwi_rg (a : Int) : rg (jwi a) := ⟨Int32.le_toInt _, Int32.toInt_le _⟩
theorem jwl_id {a : Int} (h : rl a) : jwl a = a := fi_tl h
theorem jwi_id {a : Int} (h : rg a) : jwi a = a := fi_t h
section FiWeak
variable {p : Program} {l : Launch} {e : Env} {R : Room} {s : State} {m : MethodId} {args : Array Value} {below : List Frame} {meth : Method} {c : Code} {H : Heap} {locs : List Loc} {cells slots : Nat} {Q : State → Prop}
variable {cc : ByteArray} {pc nL : Nat} {ls : Array Slot} {rest : List Value} {own : String} {a b a' b' : Int}
theorem fi_same_l (h : Int64.ofInt a = Int64.ofInt a') (kk : W p l e R s m args below meth c H locs cells slots Q (F0 m pc ls (.long (Int64.ofInt a') :: rest))) : W p l e R s m args below meth c H locs cells slots Q (F0 m pc ls (.long (Int64.ofInt a) :: rest)) := by rw [h]; exact kk
theorem fi_same_i (h : Int32.ofInt a = Int32.ofInt a') (kk : W p l e R s m args below meth c H locs cells slots Q (F0 m pc ls (.int (Int32.ofInt a') :: rest))) : W p l e R s m args below meth c H locs cells slots Q (F0 m pc ls (.int (Int32.ofInt a) :: rest)) := by rw [h]; exact kk
theorem fi_lcmpW (F : CallFix p m c cc nL s args tb own) (hdg : decode cc pc = .ok (.lcmp, 1)) (ea : Int64.ofInt a = Int64.ofInt a') (eb : Int64.ofInt b = Int64.ofInt b') (ha : rl a') (hb : rl b') (kk : W p l e R s m args below meth c H locs cells slots Q (F0 m (pc + 1) ls (.int (Int32.ofInt (jcmp a' b')) :: rest))) : W p l e R s m args below meth c H locs cells slots Q (F0 m pc ls (.long (Int64.ofInt b) :: .long (Int64.ofInt a) :: rest)) := by rw [ea, eb]; exact fi_lcmp F hdg ha hb kk
theorem fi_ldivW (F : CallFix p m c cc nL s args tb own) (hdg : decode cc pc = .ok (.ldiv, 1)) (ea : Int64.ofInt a = Int64.ofInt a') (eb : Int64.ofInt b = Int64.ofInt b') (ha : rl a') (hb : rl b') (h0 : b' ≠ 0) (kk : W p l e R s m args below meth c H locs cells slots Q (F0 m (pc + 1) ls (.long (Int64.ofInt (a'.tdiv b')) :: rest))) : W p l e R s m args below meth c H locs cells slots Q (F0 m pc ls (.long (Int64.ofInt b) :: .long (Int64.ofInt a) :: rest)) := by rw [ea, eb]; exact fi_ldiv F hdg ha hb h0 kk
theorem fi_lremW (F : CallFix p m c cc nL s args tb own) (hdg : decode cc pc = .ok (.lrem, 1)) (ea : Int64.ofInt a = Int64.ofInt a') (eb : Int64.ofInt b = Int64.ofInt b') (ha : rl a') (hb : rl b') (h0 : b' ≠ 0) (kk : W p l e R s m args below meth c H locs cells slots Q (F0 m (pc + 1) ls (.long (Int64.ofInt (a' - a'.tdiv b' * b')) :: rest))) : W p l e R s m args below meth c H locs cells slots Q (F0 m pc ls (.long (Int64.ofInt b) :: .long (Int64.ofInt a) :: rest)) := by rw [ea, eb]; exact fi_lrem F hdg ha hb h0 kk
end FiWeak
