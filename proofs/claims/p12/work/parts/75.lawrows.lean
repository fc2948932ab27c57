/-! Rows of the law. -/
section LawRows
variable {p : Program} {l : Launch} {e : Env} {R : Room} {s : State} {m : MethodId} {args : Array Value} {below : List Frame} {meth : Method} {c : Code} {H : Heap} {locs : List Loc} {cells slots : Nat} {Q : State → Prop}
variable {cc : ByteArray} {pc nL : Nat} {ls : Array Slot} {rest : List Value} {D : va_G} {own : String} {ad : Nat → Nat} {cA : Nat → ClassId} {M : fm_M} {b L : Nat} {xs : Nat → Int32}
theorem law_ld {z a : Int} (F : CallFix p m c cc nL s args tb own) (hX : va_X b L xs s s.heap) (hbl : b < s.heap.size) (hLn : L < 2 ^ 31) (w : fm_w D ad cA s.heap.size s M H locs) (hi : 0 ≤ z ∧ z < L) (ha : xs z.toNat = Int32.ofInt a) (hdg : decode cc pc = .ok (.iaload, 1))
    (kk : W p l e R s m args below meth c H locs cells slots Q (F0 m (pc + 1) ls (.int (Int32.ofInt a) :: rest))) : W p l e R s m args below meth c H locs cells slots Q (F0 m pc ls (.int (Int32.ofInt z) :: .ref b :: rest)) := by
  obtain ⟨h1, h2⟩ := fi_ix hi hLn
  refine va_sld F.1 F.2.1 hX hbl (Nat.not_le.mpr hbl) w.1.2.2.2.1 h1 hdg ?_
  rw [h2, ha]
  exact kk
theorem law_rm {rm : Room} {maxL i : Nat} (h1 : rm.frames + 1 ≤ 16) (h2 : 8 + (maxL + 11) + rm.locals ≤ 626) (h3 : rm.cells ≤ 1) (h4 : rm.slots ≤ 6) (hc : cells ≤ 1000 + i) (hs : slots ≤ 20000 + 6 * i) (hi : i ≤ 4096) : fx_rm room_1 rm maxL cells slots :=
  ⟨⟨h1, h2⟩, by show cells + rm.cells ≤ 601024; omega, by show slots + rm.slots ≤ 7293034; omega⟩
end LawRows
theorem law_and (x : Int32) : ∃ j : Nat, j < 16 ∧ x &&& 15 = nI j := by
  obtain ⟨j, hj, ej⟩ := pk_andE x (m := 15) 4 (by decide)
  exact ⟨j, by omega, ej⟩
