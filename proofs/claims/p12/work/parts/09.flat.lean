/-! A flat memory: cells by numbers, M cell slot an Int; its world over the heap; rows over it. -/
abbrev fm_M : Type := Nat → Nat → Int
def fm_v (ad : Nat → Nat) (k : Nat) (x : Int) (kd : Nat) : Value := match kd with
  | 0 => .int (Int32.ofInt x)
  | 1 => .long (Int64.ofInt x)
  | 2 => .ref (ad x.toNat)
  | o + 3 => .ref (ad (k + o))
def fm_el (k t j : Nat) : Nat := match t with
  | 6 => k + 4 + 13 * j
  | 7 => k + 1 + 2 * j
  | _ => k + 1 + j
def fm_pl (ad : Nat → Nat) (k : Nat) (r : Nat → Int) (t : Nat) : (Nat → Int32) ⊕ (Nat → Int64) ⊕ (Nat → UInt32) ⊕ (Nat → UInt64) ⊕ (Nat → Option Nat) := match t with
  | 0 => .inl (fun j => Int32.ofInt (r j))
  | 1 => .inl (fun j => Int32.ofInt (r j))
  | 2 => .inl (fun j => Int32.ofInt (r j))
  | 3 => .inr (.inl (fun j => Int64.ofInt (r j)))
  | _ => .inr (.inr (.inr (.inr (fun j => some (ad (fm_el k t j))))))
def fm_e (ad : Nat → Nat) (cA : Nat → ClassId) (k : Nat) (r : Nat → Int) (d : fm_D) : va_E := match d with
  | .inl (ci, ks) => .inr (ci, (List.range ks.length).map (fun p => fm_v ad k (r p) (ks.getD p 0)))
  | .inr (t, n) => .inl (cA k, n, fm_pl ad k r t)
def fm_ws (ad : Nat → Nat) (cA : Nat → ClassId) (M : fm_M) : va_W := (List.range nC).map (fun k => (ad k, fm_e ad cA k (M k) (TC k)))
def fm_u (M : fm_M) (k p : Nat) (v : Int) : fm_M := fun a b => if a = k ∧ b = p then v else M a b
def fm_tt (t : Nat) : FieldType := match t with
  | 0 => .int
  | 1 => .char
  | 2 => .boolean
  | 3 => .long
  | 4 => .array .int
  | 5 => .array .long
  | 6 => .object "ChanceGame$Command"
  | _ => .object "ChanceGame$Branch"
def fm_td (d : fm_D) : FieldType := match d with
  | .inr (t, _) => fm_tt t
  | .inl _ => .char
def fm_ty (cA : Nat → ClassId) : List (ClassId × FieldType) := (List.range nC).map (fun k => (cA k, fm_td (TC k)))
theorem fm_tyat {cA : Nat → ClassId} {k t n : Nat} (h : k < nC ∧ TC k = .inr (t, n)) : (fm_ty cA)[k]? = some (cA k, fm_tt t) := by
  unfold fm_ty
  rw [List.getElem?_map, List.getElem?_range h.1]
  show some (cA k, fm_td (TC k)) = _
  rw [h.2]
  rfl
theorem fm_u_s {M : fm_M} {k p : Nat} {v : Int} : fm_u M k p v k p = v := by simp [fm_u]
theorem fm_u_n {M : fm_M} {k p a b : Nat} {v : Int} (h : a ≠ k ∨ b ≠ p) : fm_u M k p v a b = M a b := by
  unfold fm_u
  rw [if_neg]
  rintro ⟨h1, h2⟩
  rcases h with h | h
  · exact h h1
  · exact h h2
section FmBase
variable {ad : Nat → Nat} {cA : Nat → ClassId} {M : fm_M} {k p : Nat}
theorem fm_at (hk : k < nC) : (fm_ws ad cA M)[k]? = some (ad k, fm_e ad cA k (M k) (TC k)) := by
  unfold fm_ws
  rw [List.getElem?_map, List.getElem?_range hk]
  rfl
theorem fm_atO {ci : Nat} {ks : List Nat} (h : k < nC ∧ TC k = .inl (ci, ks)) : (fm_ws ad cA M)[k]? = some (ad k, .inr (ci, (List.range ks.length).map (fun p => fm_v ad k (M k p) (ks.getD p 0)))) := by
  rw [fm_at h.1, h.2]
  rfl
theorem fm_atA {t n : Nat} (h : k < nC ∧ TC k = .inr (t, n)) : (fm_ws ad cA M)[k]? = some (ad k, .inl (cA k, n, fm_pl ad k (M k) t)) := by
  rw [fm_at h.1, h.2]
  rfl
theorem fm_fs {ks : List Nat} {r : Nat → Int} {kd : Nat} (h : ks[p]? = some kd) : ((List.range ks.length).map (fun p => fm_v ad k (r p) (ks.getD p 0)))[p]? = some (fm_v ad k (r p) kd) := by
  have hp : p < ks.length := (List.getElem?_eq_some_iff.mp h).1
  rw [List.getElem?_map, List.getElem?_range hp]
  show some (fm_v ad k (r p) (ks.getD p 0)) = _
  rw [List.getD_eq_getElem?_getD, h]
  rfl
theorem fm_setE {M' : fm_M} {e : va_E} (hk : k < nC) (he : e = fm_e ad cA k (M' k) (TC k)) (ho : ∀ a, a ≠ k → M' a = M a) : (fm_ws ad cA M).set k (ad k, e) = fm_ws ad cA M' := by
  apply List.ext_getElem?
  intro i
  rw [List.getElem?_set]
  by_cases hi : k = i
  · subst hi
    rw [if_pos rfl, fm_at hk, he, if_pos]
    unfold fm_ws
    rw [List.length_map, List.length_range]
    exact hk
  · rw [if_neg hi]
    unfold fm_ws
    rw [List.getElem?_map, List.getElem?_map]
    by_cases hn : i < nC
    · rw [List.getElem?_range hn]
      show some (ad i, fm_e ad cA i (M i) (TC i)) = some (ad i, fm_e ad cA i (M' i) (TC i))
      rw [ho i (fun h => hi h.symm)]
    · rw [List.getElem?_eq_none (by rw [List.length_range]; omega)]
      rfl
theorem fm_row {v : Int} {a : Nat} (h : a ≠ k) : fm_u M k p v a = M a := by
  funext b
  exact fm_u_n (Or.inl h)
theorem fm_setO {ci : Nat} {ks : List Nat} {kd : Nat} {v : Int} (h : k < nC ∧ TC k = .inl (ci, ks)) (hks : ks[p]? = some kd) :
    (fm_ws ad cA M).set k (ad k, .inr (ci, ((List.range ks.length).map (fun p => fm_v ad k (M k p) (ks.getD p 0))).set p (fm_v ad k v kd))) = fm_ws ad cA (fm_u M k p v) := by
  refine fm_setE h.1 ?_ (fun a ha => fm_row ha)
  rw [h.2]
  show _ = Sum.inr _
  congr 2
  apply List.ext_getElem?
  intro i
  have hp : p < ks.length := (List.getElem?_eq_some_iff.mp hks).1
  rw [List.getElem?_set]
  by_cases hi : p = i
  · subst hi
    rw [if_pos rfl, fm_fs hks, fm_u_s, if_pos]
    rw [List.length_map, List.length_range]
    exact hp
  · rw [if_neg hi, List.getElem?_map, List.getElem?_map]
    by_cases hn : i < ks.length
    · rw [List.getElem?_range hn]
      show some (fm_v ad k (M k i) (ks.getD i 0)) = some (fm_v ad k (fm_u M k p v k i) (ks.getD i 0))
      rw [fm_u_n (Or.inr (fun h => hi h.symm))]
    · rw [List.getElem?_eq_none (by rw [List.length_range]; omega)]
      rfl
theorem fm_setA {t n : Nat} {e : va_E} {v : Int} (h : k < nC ∧ TC k = .inr (t, n)) (he : e = .inl (cA k, n, fm_pl ad k (fun j => if j = p then v else M k j) t)) : (fm_ws ad cA M).set k (ad k, e) = fm_ws ad cA (fm_u M k p v) := by
  refine fm_setE h.1 ?_ (fun a ha => fm_row ha)
  rw [he, h.2]
  have e1 : (fun j => if j = p then v else M k j) = fm_u M k p v k := by
    funext j
    unfold fm_u
    simp
  rw [e1]
  rfl
end FmBase
def rg (x : Int) : Prop := -2147483648 ≤ x ∧ x ≤ 2147483647
theorem fi_ix {i : Int} {n : Nat} (h : 0 ≤ i ∧ i < n) (hn : n < 2 ^ 31) : vp_in (Int32.ofInt i) n ∧ (Int32.ofInt i).toNatClampNeg = i.toNat := by
  have h1 : (Int32.ofInt i).toInt = i := Int32.toInt_ofInt_of_le (by omega) (by omega)
  have h2 : (Int32.ofInt i).toNatClampNeg = i.toNat := by
    show (Int32.ofInt i).toInt.toNat = _
    rw [h1]
  refine ⟨?_, h2⟩
  rintro (h3 | h3)
  · rw [Int32.lt_iff_toInt_lt, h1] at h3
    have e0 : (0 : Int32).toInt = 0 := by decide
    omega
  · rw [h2] at h3
    omega
theorem fm_updI {cI : ClassId} {n q : Nat} {r : Nat → Int} {v : Int} : (Sum.inl (cI, n, Sum.inl (upd (fun j => Int32.ofInt (r j)) q (Int32.ofInt v))) : va_E) = Sum.inl (cI, n, Sum.inl (fun j => Int32.ofInt (if j = q then v else r j))) := by
  have e1 : upd (fun j => Int32.ofInt (r j)) q (Int32.ofInt v) = fun j => Int32.ofInt (if j = q then v else r j) := by
    funext j
    unfold upd
    by_cases hj : j = q <;> simp [hj]
  rw [e1]
theorem fm_updL {cI : ClassId} {n q : Nat} {r : Nat → Int} {v : Int} : (Sum.inl (cI, n, Sum.inr (Sum.inl (vp_updL (fun j => Int64.ofInt (r j)) q (Int64.ofInt v)))) : va_E) = Sum.inl (cI, n, Sum.inr (Sum.inl (fun j => Int64.ofInt (if j = q then v else r j)))) := by
  have e1 : vp_updL (fun j => Int64.ofInt (r j)) q (Int64.ofInt v) = fun j => Int64.ofInt (if j = q then v else r j) := by
    funext j
    unfold vp_updL
    by_cases hj : j = q <;> simp [hj]
  rw [e1]
section FmRows
variable {p : Program} {l : Launch} {e : Env} {R : Room} {s : State} {m : MethodId} {args : Array Value} {below : List Frame} {meth : Method} {c : Code} {H : Heap} {locs : List Loc} {cells slots : Nat} {Q : State → Prop}
variable {cc : ByteArray} {pc nL : Nat} {ls : Array Slot} {rest : List Value} {D : va_G} {A : Nat → Prop} {H0 : Heap} {own : String} {ad : Nat → Nat} {cA : Nat → ClassId} {M : fm_M}
variable {C : String} {T : u_T} {N ci index : Nat} {ty : Nat → FieldType}
abbrev fm_w (D : va_G) (ad : Nat → Nat) (cA : Nat → ClassId) (n0 : Nat) (s : State) (M : fm_M) (H : Heap) (locs : List Loc) : Prop :=
  cg_W D classes (fun q => n0 ≤ q) s.heap s (fm_ty cA) (fm_ws ad cA M) H locs ∧ cg_hp n0 s
variable {n0 : Nat}
theorem fm_gI (F : CallFix p m c cc nL s args tb own) (w : fm_w D ad cA n0 s M H locs) (K : cg_C classes ci C T N ty) (k q : Nat) {ks : List Nat} (hT : k < nC ∧ TC k = .inl (ci, ks)) (hq : q < N) (hks : ks[q]? = some 0) (hlink : Cond.fieldLink own index (T q).1 (T q).2.1 (T q).2.2.1 ∈ tb) (hdg : decode cc pc = .ok (.getfield index, 3))
    (kk : W p l e R s m args below meth c H locs cells slots Q (F0 m (pc + 3) ls (.int (Int32.ofInt (M k q)) :: rest))) : W p l e R s m args below meth c H locs cells slots Q (F0 m pc ls (.ref (ad k) :: rest)) :=
  cg_get F w.1 K k q (fm_atO hT) hq hlink (fm_fs hks) hdg kk
theorem fm_gL (F : CallFix p m c cc nL s args tb own) (w : fm_w D ad cA n0 s M H locs) (K : cg_C classes ci C T N ty) (k q : Nat) {ks : List Nat} (hT : k < nC ∧ TC k = .inl (ci, ks)) (hq : q < N) (hks : ks[q]? = some 1) (hlink : Cond.fieldLink own index (T q).1 (T q).2.1 (T q).2.2.1 ∈ tb) (hdg : decode cc pc = .ok (.getfield index, 3))
    (kk : W p l e R s m args below meth c H locs cells slots Q (F0 m (pc + 3) ls (.long (Int64.ofInt (M k q)) :: rest))) : W p l e R s m args below meth c H locs cells slots Q (F0 m pc ls (.ref (ad k) :: rest)) :=
  cg_get F w.1 K k q (fm_atO hT) hq hlink (fm_fs hks) hdg kk
theorem fm_gR (F : CallFix p m c cc nL s args tb own) (w : fm_w D ad cA n0 s M H locs) (K : cg_C classes ci C T N ty) (k q : Nat) {ks : List Nat} (hT : k < nC ∧ TC k = .inl (ci, ks)) (hq : q < N) (hks : ks[q]? = some 2) (hlink : Cond.fieldLink own index (T q).1 (T q).2.1 (T q).2.2.1 ∈ tb) (hdg : decode cc pc = .ok (.getfield index, 3))
    (kk : W p l e R s m args below meth c H locs cells slots Q (F0 m (pc + 3) ls (.ref (ad (M k q).toNat) :: rest))) : W p l e R s m args below meth c H locs cells slots Q (F0 m pc ls (.ref (ad k) :: rest)) :=
  cg_get F w.1 K k q (fm_atO hT) hq hlink (fm_fs hks) hdg kk
theorem fm_gO (F : CallFix p m c cc nL s args tb own) (w : fm_w D ad cA n0 s M H locs) (K : cg_C classes ci C T N ty) (k q j : Nat) {ks : List Nat} {o : Nat} (hT : k < nC ∧ TC k = .inl (ci, ks)) (hq : q < N) (hks : ks[q]? = some (o + 3)) (hj : k + o = j) (hlink : Cond.fieldLink own index (T q).1 (T q).2.1 (T q).2.2.1 ∈ tb) (hdg : decode cc pc = .ok (.getfield index, 3))
    (kk : W p l e R s m args below meth c H locs cells slots Q (F0 m (pc + 3) ls (.ref (ad j) :: rest))) : W p l e R s m args below meth c H locs cells slots Q (F0 m pc ls (.ref (ad k) :: rest)) := by
  subst hj
  exact cg_get F w.1 K k q (fm_atO hT) hq hlink (fm_fs hks) hdg kk
theorem fm_p (F : CallFix p m c cc nL s args tb own) (w : fm_w D ad cA n0 s M H locs) (K : cg_C classes ci C T N ty) (k q : Nat) {ks : List Nat} {kd : Nat} {v : Int} (hT : k < nC ∧ TC k = .inl (ci, ks)) (hq : q < N) (hks : ks[q]? = some kd) (hlink : Cond.fieldLink own index (T q).1 (T q).2.1 (T q).2.2.1 ∈ tb) (hfin : (T q).2.2.2 = false) (hn : narrow (ty q) (fm_v ad k v kd) = fm_v ad k v kd) (hfit : fits (ty q) (fm_v ad k v kd) = true) (hdg : decode cc pc = .ok (.putfield index, 3))
    (kk : ∀ (M1 : fm_M), M1 = fm_u M k q v → ∀ (H1 : Heap) (locs1 : List Loc), fm_w D ad cA n0 s M1 H1 locs1 → W p l e R s m args below meth c H1 locs1 cells slots Q (F0 m (pc + 3) ls rest)) : W p l e R s m args below meth c H locs cells slots Q (F0 m pc ls (fm_v ad k v kd :: .ref (ad k) :: rest)) := by
  have hp : q < ks.length := (List.getElem?_eq_some_iff.mp hks).1
  refine cg_put F w.1 K k q (fm_atO hT) hq hlink hfin hn hfit (by rw [List.length_map, List.length_range]; exact hp) hdg (fun H1 locs1 w1 => ?_)
  rw [fm_setO hT hks] at w1
  exact kk _ rfl H1 locs1 ⟨w1, w.2⟩
theorem fm_pI (F : CallFix p m c cc nL s args tb own) (w : fm_w D ad cA n0 s M H locs) (K : cg_C classes ci C T N ty) (k q : Nat) {ks : List Nat} {v : Int} (hT : k < nC ∧ TC k = .inl (ci, ks)) (hq : q < N) (hks : ks[q]? = some 0) (hlink : Cond.fieldLink own index (T q).1 (T q).2.1 (T q).2.2.1 ∈ tb) (hfin : (T q).2.2.2 = false) (hty : ty q = .int) (hdg : decode cc pc = .ok (.putfield index, 3))
    (kk : ∀ (M1 : fm_M), M1 = fm_u M k q v → ∀ (H1 : Heap) (locs1 : List Loc), fm_w D ad cA n0 s M1 H1 locs1 → W p l e R s m args below meth c H1 locs1 cells slots Q (F0 m (pc + 3) ls rest)) : W p l e R s m args below meth c H locs cells slots Q (F0 m pc ls (.int (Int32.ofInt v) :: .ref (ad k) :: rest)) :=
  fm_p (kd := 0) F w K k q hT hq hks hlink hfin (by rw [hty]; rfl) (by rw [hty]; rfl) hdg kk
theorem fm_pZ (F : CallFix p m c cc nL s args tb own) (w : fm_w D ad cA n0 s M H locs) (K : cg_C classes ci C T N ty) (k q : Nat) {ks : List Nat} {v : Int} (hT : k < nC ∧ TC k = .inl (ci, ks)) (hq : q < N) (hks : ks[q]? = some 0) (hlink : Cond.fieldLink own index (T q).1 (T q).2.1 (T q).2.2.1 ∈ tb) (hfin : (T q).2.2.2 = false) (hty : ty q = .boolean) (hz : v = 0 ∨ v = 1) (hdg : decode cc pc = .ok (.putfield index, 3))
    (kk : ∀ (M1 : fm_M), M1 = fm_u M k q v → ∀ (H1 : Heap) (locs1 : List Loc), fm_w D ad cA n0 s M1 H1 locs1 → W p l e R s m args below meth c H1 locs1 cells slots Q (F0 m (pc + 3) ls rest)) : W p l e R s m args below meth c H locs cells slots Q (F0 m pc ls (.int (Int32.ofInt v) :: .ref (ad k) :: rest)) :=
  fm_p (kd := 0) F w K k q hT hq hks hlink hfin (by rw [hty]; rcases hz with rfl | rfl <;> rfl) (by rw [hty]; rcases hz with rfl | rfl <;> rfl) hdg kk
theorem fm_pL (F : CallFix p m c cc nL s args tb own) (w : fm_w D ad cA n0 s M H locs) (K : cg_C classes ci C T N ty) (k q : Nat) {ks : List Nat} {v : Int} (hT : k < nC ∧ TC k = .inl (ci, ks)) (hq : q < N) (hks : ks[q]? = some 1) (hlink : Cond.fieldLink own index (T q).1 (T q).2.1 (T q).2.2.1 ∈ tb) (hfin : (T q).2.2.2 = false) (hty : ty q = .long) (hdg : decode cc pc = .ok (.putfield index, 3))
    (kk : ∀ (M1 : fm_M), M1 = fm_u M k q v → ∀ (H1 : Heap) (locs1 : List Loc), fm_w D ad cA n0 s M1 H1 locs1 → W p l e R s m args below meth c H1 locs1 cells slots Q (F0 m (pc + 3) ls rest)) : W p l e R s m args below meth c H locs cells slots Q (F0 m pc ls (.long (Int64.ofInt v) :: .ref (ad k) :: rest)) :=
  fm_p (kd := 1) F w K k q hT hq hks hlink hfin (by rw [hty]; rfl) (by rw [hty]; rfl) hdg kk
theorem fm_pR (F : CallFix p m c cc nL s args tb own) (w : fm_w D ad cA n0 s M H locs) (K : cg_C classes ci C T N ty) (k q j : Nat) {ks : List Nat} {C2 : String} (hT : k < nC ∧ TC k = .inl (ci, ks)) (hq : q < N) (hks : ks[q]? = some 2) (hlink : Cond.fieldLink own index (T q).1 (T q).2.1 (T q).2.2.1 ∈ tb) (hfin : (T q).2.2.2 = false) (hty : ty q = .object C2) (hdg : decode cc pc = .ok (.putfield index, 3))
    (kk : ∀ (M1 : fm_M), M1 = fm_u M k q (j : Int) → ∀ (H1 : Heap) (locs1 : List Loc), fm_w D ad cA n0 s M1 H1 locs1 → W p l e R s m args below meth c H1 locs1 cells slots Q (F0 m (pc + 3) ls rest)) : W p l e R s m args below meth c H locs cells slots Q (F0 m pc ls (.ref (ad j) :: .ref (ad k) :: rest)) :=
  fm_p (kd := 2) (v := (j : Int)) F w K k q hT hq hks hlink hfin (by rw [hty]; rfl) (by rw [hty]; rfl) hdg kk
theorem fm_aI (F : CallFix p m c cc nL s args tb own) (w : fm_w D ad cA n0 s M H locs) (k : Nat) {n : Nat} {i : Int} (hT : k < nC ∧ TC k = .inr (0, n)) (hn : n < 2 ^ 31) (hi : 0 ≤ i ∧ i < n) (hdg : decode cc pc = .ok (.iaload, 1))
    (kk : W p l e R s m args below meth c H locs cells slots Q (F0 m (pc + 1) ls (.int (Int32.ofInt (M k i.toNat)) :: rest))) : W p l e R s m args below meth c H locs cells slots Q (F0 m pc ls (.int (Int32.ofInt i) :: .ref (ad k) :: rest)) := by
  obtain ⟨h1, h2⟩ := fi_ix hi hn
  refine va_iald (f := fun j => Int32.ofInt (M k j)) F.1 F.2.1 w.1.2.2.1 w.1.1 k k (fm_atA hT) (fm_tyat hT) h1 hdg ?_
  rw [h2]
  exact kk
theorem fm_aC (F : CallFix p m c cc nL s args tb own) (w : fm_w D ad cA n0 s M H locs) (k : Nat) {n : Nat} {i : Int} (hT : k < nC ∧ TC k = .inr (1, n)) (hn : n < 2 ^ 31) (hi : 0 ≤ i ∧ i < n) (hdg : decode cc pc = .ok (.caload, 1))
    (kk : W p l e R s m args below meth c H locs cells slots Q (F0 m (pc + 1) ls (.int (Int32.ofInt (M k i.toNat)) :: rest))) : W p l e R s m args below meth c H locs cells slots Q (F0 m pc ls (.int (Int32.ofInt i) :: .ref (ad k) :: rest)) := by
  obtain ⟨h1, h2⟩ := fi_ix hi hn
  refine va_cald (f := fun j => Int32.ofInt (M k j)) F.1 F.2.1 w.1.2.2.1 w.1.1 k k (fm_atA hT) (fm_tyat hT) h1 hdg ?_
  rw [h2]
  exact kk
theorem fm_aZ (F : CallFix p m c cc nL s args tb own) (w : fm_w D ad cA n0 s M H locs) (k : Nat) {n : Nat} {i : Int} (hT : k < nC ∧ TC k = .inr (2, n)) (hn : n < 2 ^ 31) (hi : 0 ≤ i ∧ i < n) (hdg : decode cc pc = .ok (.baload, 1))
    (kk : W p l e R s m args below meth c H locs cells slots Q (F0 m (pc + 1) ls (.int (Int32.ofInt (M k i.toNat)) :: rest))) : W p l e R s m args below meth c H locs cells slots Q (F0 m pc ls (.int (Int32.ofInt i) :: .ref (ad k) :: rest)) := by
  obtain ⟨h1, h2⟩ := fi_ix hi hn
  refine va_zald (f := fun j => Int32.ofInt (M k j)) F.1 F.2.1 w.1.2.2.1 w.1.1 k k (fm_atA hT) (fm_tyat hT) h1 hdg ?_
  rw [h2]
  exact kk
theorem fm_aL (F : CallFix p m c cc nL s args tb own) (w : fm_w D ad cA n0 s M H locs) (k : Nat) {n : Nat} {i : Int} (hT : k < nC ∧ TC k = .inr (3, n)) (hn : n < 2 ^ 31) (hi : 0 ≤ i ∧ i < n) (hdg : decode cc pc = .ok (.laload, 1))
    (kk : W p l e R s m args below meth c H locs cells slots Q (F0 m (pc + 1) ls (.long (Int64.ofInt (M k i.toNat)) :: rest))) : W p l e R s m args below meth c H locs cells slots Q (F0 m pc ls (.int (Int32.ofInt i) :: .ref (ad k) :: rest)) := by
  obtain ⟨h1, h2⟩ := fi_ix hi hn
  refine va_lald (f := fun j => Int64.ofInt (M k j)) F.1 F.2.1 w.1.2.2.1 w.1.1 k k (fm_atA hT) (fm_tyat hT) h1 hdg ?_
  rw [h2]
  exact kk
theorem fm_aR (F : CallFix p m c cc nL s args tb own) (w : fm_w D ad cA n0 s M H locs) (k t j : Nat) {n : Nat} {i : Int} (hT : k < nC ∧ TC k = .inr (t + 4, n)) (hr : (fm_tt (t + 4)).isReference = true) (hn : n < 2 ^ 31) (hi : 0 ≤ i ∧ i < n) (hj : fm_el k (t + 4) i.toNat = j) (hdg : decode cc pc = .ok (.aaload, 1))
    (kk : W p l e R s m args below meth c H locs cells slots Q (F0 m (pc + 1) ls (.ref (ad j) :: rest))) : W p l e R s m args below meth c H locs cells slots Q (F0 m pc ls (.int (Int32.ofInt i) :: .ref (ad k) :: rest)) := by
  obtain ⟨h1, h2⟩ := fi_ix hi hn
  subst hj
  have hc : H[ad k]? = some (arrV (cA k) n (fun j => va_rf (some (ad (fm_el k (t + 4) j))))) := w.1.1 k _ (fm_atA hT)
  refine W.aald F.1 F.2.1 (g := F0 m pc ls (.int (Int32.ofInt i) :: .ref (ad k) :: rest)) hc ((w.1.2.2.1.2 k _ (fm_tyat hT)).1 n _) hr (fun h => by cases h) (by rw [arrV_size]; exact h1) (v := .ref (ad (fm_el k (t + 4) i.toNat))) (by rw [h2, arrV_read _ _ (by omega)]; rfl) rfl rfl hdg kk
theorem fm_sI (F : CallFix p m c cc nL s args tb own) (w : fm_w D ad cA n0 s M H locs) (k : Nat) {n : Nat} {i v : Int} (hT : k < nC ∧ TC k = .inr (0, n)) (hn : n < 2 ^ 31) (hi : 0 ≤ i ∧ i < n) (hdg : decode cc pc = .ok (.iastore, 1))
    (kk : ∀ (M1 : fm_M), M1 = fm_u M k i.toNat v → ∀ (H1 : Heap) (locs1 : List Loc), fm_w D ad cA n0 s M1 H1 locs1 → W p l e R s m args below meth c H1 locs1 cells slots Q (F0 m (pc + 1) ls rest)) : W p l e R s m args below meth c H locs cells slots Q (F0 m pc ls (.int (Int32.ofInt v) :: .int (Int32.ofInt i) :: .ref (ad k) :: rest)) := by
  obtain ⟨h1, h2⟩ := fi_ix hi hn
  refine cg_iast (f := fun j => Int32.ofInt (M k j)) F w.1 k k (fm_atA hT) (fm_tyat hT) h1 hdg (fun H1 locs1 w1 => ?_)
  rw [h2, fm_setA (p := i.toNat) (v := v) hT (fm_updI)] at w1
  exact kk _ rfl H1 locs1 ⟨w1, w.2⟩
theorem fm_sC (F : CallFix p m c cc nL s args tb own) (w : fm_w D ad cA n0 s M H locs) (k : Nat) {n : Nat} {i v : Int} (hT : k < nC ∧ TC k = .inr (1, n)) (hn : n < 2 ^ 31) (hi : 0 ≤ i ∧ i < n) (hv : 0 ≤ v ∧ v < 65536) (hdg : decode cc pc = .ok (.castore, 1))
    (kk : ∀ (M1 : fm_M), M1 = fm_u M k i.toNat v → ∀ (H1 : Heap) (locs1 : List Loc), fm_w D ad cA n0 s M1 H1 locs1 → W p l e R s m args below meth c H1 locs1 cells slots Q (F0 m (pc + 1) ls rest)) : W p l e R s m args below meth c H locs cells slots Q (F0 m pc ls (.int (Int32.ofInt v) :: .int (Int32.ofInt i) :: .ref (ad k) :: rest)) := by
  obtain ⟨h1, h2⟩ := fi_ix hi hn
  have hc : vp_nar .char (Int32.ofInt v) = Int32.ofInt v := by
    obtain ⟨q, hq⟩ : ∃ q : Nat, v = q := ⟨v.toNat, by omega⟩
    subst hq
    have e1 : Int32.ofInt (q : Int) = nI q := rfl
    rw [e1]
    have := (pk_charN (q := q) (by omega)).1
    unfold vp_nar
    rw [this]
  refine cg_cast (f := fun j => Int32.ofInt (M k j)) F w.1 k k (fm_atA hT) (fm_tyat hT) h1 hdg (fun H1 locs1 w1 => ?_)
  rw [h2, hc, fm_setA (p := i.toNat) (v := v) hT (fm_updI)] at w1
  exact kk _ rfl H1 locs1 ⟨w1, w.2⟩
theorem fm_sZ (F : CallFix p m c cc nL s args tb own) (w : fm_w D ad cA n0 s M H locs) (k : Nat) {n : Nat} {i v : Int} (hT : k < nC ∧ TC k = .inr (2, n)) (hn : n < 2 ^ 31) (hi : 0 ≤ i ∧ i < n) (hv : v = 0 ∨ v = 1) (hdg : decode cc pc = .ok (.bastore, 1))
    (kk : ∀ (M1 : fm_M), M1 = fm_u M k i.toNat v → ∀ (H1 : Heap) (locs1 : List Loc), fm_w D ad cA n0 s M1 H1 locs1 → W p l e R s m args below meth c H1 locs1 cells slots Q (F0 m (pc + 1) ls rest)) : W p l e R s m args below meth c H locs cells slots Q (F0 m pc ls (.int (Int32.ofInt v) :: .int (Int32.ofInt i) :: .ref (ad k) :: rest)) := by
  obtain ⟨h1, h2⟩ := fi_ix hi hn
  have hc : vp_nar .boolean (Int32.ofInt v) = Int32.ofInt v := by rcases hv with rfl | rfl <;> rfl
  refine va_zast (f := fun j => Int32.ofInt (M k j)) F.1 F.2.1 w.1.2.2.1 w.1.1 w.1.2.1 w.1.2.2.2.1 k k (fm_atA hT) (fm_tyat hT) h1 hdg (fun H1 locs1 hP hD hS => ?_)
  rw [h2, hc, fm_setA (p := i.toNat) (v := v) hT (fm_updI)] at hP hD
  exact kk _ rfl H1 locs1 ⟨⟨hP, hD, w.1.2.2.1, hS, w.1.2.2.2.2⟩, w.2⟩
theorem fm_sL (F : CallFix p m c cc nL s args tb own) (w : fm_w D ad cA n0 s M H locs) (k : Nat) {n : Nat} {i v : Int} (hT : k < nC ∧ TC k = .inr (3, n)) (hn : n < 2 ^ 31) (hi : 0 ≤ i ∧ i < n) (hdg : decode cc pc = .ok (.lastore, 1))
    (kk : ∀ (M1 : fm_M), M1 = fm_u M k i.toNat v → ∀ (H1 : Heap) (locs1 : List Loc), fm_w D ad cA n0 s M1 H1 locs1 → W p l e R s m args below meth c H1 locs1 cells slots Q (F0 m (pc + 1) ls rest)) : W p l e R s m args below meth c H locs cells slots Q (F0 m pc ls (.long (Int64.ofInt v) :: .int (Int32.ofInt i) :: .ref (ad k) :: rest)) := by
  obtain ⟨h1, h2⟩ := fi_ix hi hn
  refine va_last (f := fun j => Int64.ofInt (M k j)) F.1 F.2.1 w.1.2.2.1 w.1.1 w.1.2.1 w.1.2.2.2.1 k k (fm_atA hT) (fm_tyat hT) h1 hdg (fun H1 locs1 hP hD hS => ?_)
  rw [h2, fm_setA (p := i.toNat) (v := v) hT (fm_updL)] at hP hD
  exact kk _ rfl H1 locs1 ⟨⟨hP, hD, w.1.2.2.1, hS, w.1.2.2.2.2⟩, w.2⟩
theorem fm_len (F : CallFix p m c cc nL s args tb own) (w : fm_w D ad cA n0 s M H locs) (k : Nat) {n : Nat} (hT : k < nC ∧ TC k = .inr (0, n)) (hdg : decode cc pc = .ok (.arraylength, 1))
    (kk : W p l e R s m args below meth c H locs cells slots Q (F0 m (pc + 1) ls (.int (Int32.ofInt n) :: rest))) : W p l e R s m args below meth c H locs cells slots Q (F0 m pc ls (.ref (ad k) :: rest)) :=
  va_alen F.1 F.2.1 w.1.2.2.1 w.1.1 k k (fm_atA hT) (fm_tyat hT) rfl hdg kk
end FmRows
