/-! Math.max, Math.min, System.arraycopy over the flat memory. -/
def jmax (a b : Int) : Int := if a < b then b else a
def jmin (a b : Int) : Int := if b < a then b else a
def fm_cp (M : fm_M) (k1 k2 n : Nat) : fm_M := fun a b => if a = k2 ∧ b < n then M k1 b else M a b
section FmJdk
variable {p : Program} {l : Launch} {e : Env} {R : Room} {s : State} {m : MethodId} {args : Array Value} {below : List Frame} {meth : Method} {c : Code} {H : Heap} {locs : List Loc} {cells slots : Nat} {Q : State → Prop}
variable {cc : ByteArray} {pc nL : Nat} {ls : Array Slot} {rest : List Value} {D : va_G} {own : String} {ad : Nat → Nat} {cA : Nat → ClassId} {M : fm_M} {n0 index : Nat} {a b : Int}
theorem fm_max (F : CallFix p m c cc nL s args tb own) (hsz : ls.size = nL) (hl : Cond.methodLink own index Lib.Math.max.name ∈ tb) (hs : Cond.static Lib.Math.max.name ∈ tb) (hi : Cond.initialized "java/lang/Math" ∈ tb) (hc : Cond.code Lib.Math.max.name Lib.Math.max.code 2 (some .int) ∈ tb) (ha : rg a) (hb : rg b) (hf : 1 ≤ R.frames) (hlo : (rest.map fun v => v.category).sum + 13 ≤ R.locals) (hc9 : cells ≤ R.cells) (hs9 : slots ≤ R.slots) (hdg : decode cc pc = .ok (.invokestatic index, 3))
    (kk : W p l e R s m args below meth c H locs cells slots Q (F0 m (pc + 3) ls (.int (Int32.ofInt (jmax a b)) :: rest))) : W p l e R s m args below meth c H locs cells slots Q (F0 m pc ls (.int (Int32.ofInt b) :: .int (Int32.ofInt a) :: rest)) := by
  refine va_mmax F.1 F.2.1 (F.2.2.1.trans hsz.symm) F.2.2.2.1 (F.2.2.2.2 _ hl) (F.2.2.2.2 _ hs) (F.2.2.2.2 _ hi) (F.2.2.2.2 _ hc) hf hlo hc9 hs9 hdg ?_
  have e1 : (if Int32.ofInt a < Int32.ofInt b then Int32.ofInt b else Int32.ofInt a) = Int32.ofInt (jmax a b) := by
    unfold jmax
    by_cases h : a < b
    · rw [if_pos ((fi_lt ha hb).mpr h), if_pos h]
    · rw [if_neg (fun h2 => h ((fi_lt ha hb).mp h2)), if_neg h]
  rw [e1]
  exact kk
theorem fm_min (F : CallFix p m c cc nL s args tb own) (hsz : ls.size = nL) (hl : Cond.methodLink own index Lib.Math.min.name ∈ tb) (hs : Cond.static Lib.Math.min.name ∈ tb) (hi : Cond.initialized "java/lang/Math" ∈ tb) (hc : Cond.code Lib.Math.min.name Lib.Math.min.code 2 (some .int) ∈ tb) (ha : rg a) (hb : rg b) (hf : 1 ≤ R.frames) (hlo : (rest.map fun v => v.category).sum + 13 ≤ R.locals) (hc9 : cells ≤ R.cells) (hs9 : slots ≤ R.slots) (hdg : decode cc pc = .ok (.invokestatic index, 3))
    (kk : W p l e R s m args below meth c H locs cells slots Q (F0 m (pc + 3) ls (.int (Int32.ofInt (jmin a b)) :: rest))) : W p l e R s m args below meth c H locs cells slots Q (F0 m pc ls (.int (Int32.ofInt b) :: .int (Int32.ofInt a) :: rest)) := by
  refine va_mmin F.1 F.2.1 (F.2.2.1.trans hsz.symm) F.2.2.2.1 (F.2.2.2.2 _ hl) (F.2.2.2.2 _ hs) (F.2.2.2.2 _ hi) (F.2.2.2.2 _ hc) hf hlo hc9 hs9 hdg ?_
  have e1 : (if Int32.ofInt b < Int32.ofInt a then Int32.ofInt b else Int32.ofInt a) = Int32.ofInt (jmin a b) := by
    unfold jmin
    by_cases h : b < a
    · rw [if_pos ((fi_lt hb ha).mpr h), if_pos h]
    · rw [if_neg (fun h2 => h ((fi_lt hb ha).mp h2)), if_neg h]
  rw [e1]
  exact kk
theorem fm_copy (F : CallFix p m c cc nL s args tb own) (w : fm_w D ad cA n0 s M H locs) (hsz : ls.size = nL) (hl : Cond.methodLink own index arraycopyName ∈ tb) (hnat : Cond.native arraycopyName ∈ tb) (hs : Cond.static arraycopyName ∈ tb) (hi : Cond.initialized "java/lang/System" ∈ tb) (k1 k2 : Nat) {z1 z2 : Nat} (hT1 : k1 < nC ∧ TC k1 = .inr (0, z1)) (hT2 : k2 < nC ∧ TC k2 = .inr (0, z2)) (h1 : 3 ≤ z1) (h2 : 3 ≤ z2)
    (hf : 1 ≤ R.frames) (hlo : (rest.map fun v => v.category).sum + (nativeFrameWords "java/lang/System" "arraycopy" 5 + 11) ≤ R.locals) (hdg : decode cc pc = .ok (.invokestatic index, 3))
    (kk : ∀ (M1 : fm_M), M1 = fm_cp M k1 k2 3 → ∀ (H1 : Heap) (locs1 : List Loc), fm_w D ad cA n0 s M1 H1 locs1 → W p l e R s m args below meth c H1 locs1 cells slots Q (F0 m (pc + 3) ls rest)) : W p l e R s m args below meth c H locs cells slots Q (F0 m pc ls (.int (Int32.ofInt 3) :: .int (Int32.ofInt 0) :: .ref (ad k2) :: .int (Int32.ofInt 0) :: .ref (ad k1) :: rest)) := by
  refine va_copyi (f := fun j => Int32.ofInt (M k1 j)) (g := fun j => Int32.ofInt (M k2 j)) (ty := .int) F.1 F.2.1 (F.2.2.1.trans hsz.symm) F.2.2.2.1 (F.2.2.2.2 _ hl) (F.2.2.2.2 _ hnat) (F.2.2.2.2 _ hs) (F.2.2.2.2 _ hi) w.1.2.2.1 w.1.1 w.1.2.1 w.1.2.2.2.1 k1 k2 k1 k2 (fm_atA hT1) (fm_atA hT2) (fm_tyat hT1) (fm_tyat hT2) rfl (by decide) (by decide) (by decide) (show 0 + 3 ≤ z1 by omega) (show 0 + 3 ≤ z2 by omega) (fun i _ => rfl) hf hlo hdg (fun H1 locs1 hP hD hS => ?_)
  have e1 : (fm_ws ad cA M).set k2 (ad k2, .inl (cA k2, z2, .inl (va_cpy (fun j => Int32.ofInt (M k1 j)) (fun j => Int32.ofInt (M k2 j)) (Int32.ofInt 0).toNatClampNeg (Int32.ofInt 0).toNatClampNeg (Int32.ofInt 3).toNatClampNeg))) = fm_ws ad cA (fm_cp M k1 k2 3) := by
    refine fm_setE hT2.1 ?_ (fun a ha => by funext j; unfold fm_cp; rw [if_neg (fun h => ha h.1)])
    rw [hT2.2]
    show _ = Sum.inl (cA k2, z2, Sum.inl (fun j => Int32.ofInt (fm_cp M k1 k2 3 k2 j)))
    have e2 : va_cpy (fun j => Int32.ofInt (M k1 j)) (fun j => Int32.ofInt (M k2 j)) (Int32.ofInt 0).toNatClampNeg (Int32.ofInt 0).toNatClampNeg (Int32.ofInt 3).toNatClampNeg = fun j => Int32.ofInt (fm_cp M k1 k2 3 k2 j) := by
      funext j
      show (if 0 ≤ j ∧ j < 0 + 3 then Int32.ofInt (M k1 (0 + (j - 0))) else Int32.ofInt (M k2 j)) = _
      unfold fm_cp
      by_cases h : j < 3
      · rw [if_pos ⟨Nat.zero_le _, by omega⟩, if_pos ⟨rfl, h⟩, Nat.zero_add, Nat.sub_zero]
      · rw [if_neg (by omega), if_neg (by omega)]
    rw [e2]
  rw [e1] at hP hD
  exact kk _ rfl H1 locs1 ⟨⟨hP, hD, w.1.2.2.1, hS, w.1.2.2.2.2⟩, w.2⟩
end FmJdk
