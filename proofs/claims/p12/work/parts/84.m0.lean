set_option maxRecDepth 10000
/-! What holds between the calls holds at the start. -/
/-- an array that is all zero at the start -/
def zr (k : Nat) : Bool := (sh_all.getD k (.inr (0, 0), [])).2.isEmpty && (TC k).isRight
theorem M0z {k : Nat} (h : zr k = true) (p : Nat) : M0 k p = 0 := by
  unfold zr at h
  rw [Bool.and_eq_true] at h
  have h2 := List.isEmpty_iff.mp h.1
  unfold M0
  have h3 := h.2
  generalize TC k = t at h3 ⊢
  generalize sh_all.getD k (.inr (0, 0), []) = d at h2 ⊢
  obtain ⟨d1, d2⟩ := d
  simp only at h2
  subst h2
  cases t with
  | inl x => exact absurd h3 (by simp)
  | inr x => cases d1 <;> rfl
/-- bounds at the start -/
def cbk (g : Nat) : Bool := CBt.all (fun e => (List.range e.2.2.1).all (fun x => decide (x < e.2.1) || (decide (e.2.2.2.1 ≤ M0 (g + e.1) x) && decide (M0 (g + e.1) x ≤ e.2.2.2.2))))
theorem cb_of {g : Nat} (h : cbk g = true) : CB g M0 := fun e he x h1 h2 => by
  have a := List.all_eq_true.mp h e he
  have b := List.all_eq_true.mp a x (List.mem_range.mpr h2)
  simp only [Bool.or_eq_true, Bool.and_eq_true, decide_eq_true_eq] at b
  rcases b with b | b
  · omega
  · exact b
theorem cb_4 : cbk 4 = true := by decide +kernel
theorem cb_143 : cbk 143 = true := by decide +kernel
theorem rb_z : RBt.all (fun q => zr q.1 && decide (q.2.2.1 ≤ 0) && decide (0 ≤ q.2.2.2)) = true := by decide +kernel
theorem rb_M0 : RB M0 := fun q hq x hx => by
  have a := List.all_eq_true.mp rb_z q hq
  simp only [Bool.and_eq_true, decide_eq_true_eq] at a
  rw [M0z a.1.1]; exact ⟨a.1.2, a.2⟩
theorem z_281 : ∀ i : Fin 8, zr (281 + i.1) = true := by decide +kernel
theorem z_300 : ∀ i : Fin 8, zr (300 + i.1) = true := by decide +kernel
theorem z_308 : zr 308 = true := by decide +kernel
theorem z_328 : zr 328 = true := by decide +kernel
theorem z_330 : zr 330 = true := by decide +kernel
theorem s_2 : M0 2 1 = 0 := by decide +kernel
theorem s_1 : M0 1 1 = 4 := by decide +kernel
theorem s_142 : M0 142 0 = 143 ∧ M0 142 1 = 0 ∧ M0 142 4 = 0 ∧ M0 142 3 = 0 := by decide +kernel
theorem s_w : M0 1 3 = -1 ∧ M0 331 4 = -1 := by decide +kernel
theorem s_0 : M0 0 5 = 0 ∧ M0 0 6 = 0 := by decide +kernel
theorem s_331 : M0 331 2 = 0 ∧ M0 331 6 = -1 ∧ M0 331 20 = 0 ∧ M0 331 22 = 0 := by decide +kernel
theorem rg_z : rg 0 := rg_small (by decide)
theorem fb_M0 {m : Nat} : FB m M0 := ⟨by rw [s_142.2.1]; decide, by rw [s_142.2.2.1]; decide, fun i v hi _ => by rw [M0z (z_281 ⟨i, hi⟩)]; decide, fun v _ => by rw [M0z z_308]; decide, fun i hi => by rw [s_142.2.1] at hi; omega, by rw [s_142.2.2.2]; exact rg_z⟩
theorem ci_M0 : CI (fun _ => 0) 0 (-1) M0 := ⟨txt0, s_2, fun p hp => by omega, ⟨4, 143, Or.inl ⟨rfl, rfl⟩, s_1, s_142.1, cb_of cb_4, cb_of cb_143, fb_M0⟩, fun i x hi _ => by rw [M0z (z_300 ⟨i, hi⟩)]; decide, fun i _ => by rw [M0z z_328, M0z z_330]; exact ⟨rg_z, rg_z⟩, Or.inl s_0.1, Or.inl s_0.2, s_w.1⟩
theorem ri_M0 : RI (fun _ => 0) 0 (-1) M0 := ⟨⟨txt0, s_331.1, fun p hp => by omega⟩, rb_M0, Or.inl ⟨s_331.2.1, s_331.2.2.1⟩, Or.inl s_331.2.2.2, s_w.2⟩
theorem s_mx : M0 142 2 = -1 ∧ M0 331 21 = -1 := by decide +kernel
/-- no game yet -/
def Y0 : Ga := (0, fun _ => false, fun _ _ => false, fun _ => false, fun _ => 0, fun _ _ _ _ => 0, fun _ => 0, fun _ => 0)
theorem cx_M0 : CX 0 Y0 M0 := ⟨fun _ => s_0.1, fun h => absurd rfl h, fun _ => ⟨s_142.2.1, s_mx.1, s_0.2⟩, fun h => absurd h (by decide)⟩
theorem rx_M0 : RX 0 Y0 M0 := ⟨fun _ => s_331.2.1, fun h => absurd rfl h, fun _ => ⟨s_331.2.2.1, s_mx.2, s_331.2.2.2⟩, fun h => absurd h (by decide)⟩
theorem iv_M0 : IV M0 := ⟨_, _, _, 0, Y0, rg_small (by decide), ci_M0, ri_M0, cx_M0, rx_M0⟩
