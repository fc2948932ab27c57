set_option maxRecDepth 10000
section Pu_vb
/-! The value of a game is one. NOT YET COMPILED. -/
/-- two games with the same choices, numbered otherwise -/
def Cor (G H : Gd) : Prop :=
  (G.n = H.n) ∧
  (∀ i, i < G.n → (G.tg i ↔ H.tg i)) ∧
  (∀ i, i < G.n → (G.mx i ↔ H.mx i)) ∧
  (∀ i k, i < G.n → k < G.cc i → G.al i k → ∃ c, c < H.cc i ∧ H.al i c ∧ G.wo i k = H.wo i c ∧ ∀ h, G.S i k h = H.S i c h) ∧
  (∀ i c, i < G.n → c < H.cc i → H.al i c → ∃ k, k < G.cc i ∧ G.al i k ∧ G.wo i k = H.wo i c ∧ ∀ h, G.S i k h = H.S i c h)
theorem Cor.n {G H : Gd} (h_ : Cor G H) : G.n = H.n := h_.1
theorem Cor.tg {G H : Gd} (h_ : Cor G H) : ∀ i, i < G.n → (G.tg i ↔ H.tg i) := h_.2.1
theorem Cor.mx {G H : Gd} (h_ : Cor G H) : ∀ i, i < G.n → (G.mx i ↔ H.mx i) := h_.2.2.1
theorem Cor.gh {G H : Gd} (h_ : Cor G H) : ∀ i k, i < G.n → k < G.cc i → G.al i k → ∃ c, c < H.cc i ∧ H.al i c ∧ G.wo i k = H.wo i c ∧ ∀ h, G.S i k h = H.S i c h := h_.2.2.2.1
theorem Cor.hg {G H : Gd} (h_ : Cor G H) : ∀ i c, i < G.n → c < H.cc i → H.al i c → ∃ k, k < G.cc i ∧ G.al i k ∧ G.wo i k = H.wo i c ∧ ∀ h, G.S i k h = H.S i c h := h_.2.2.2.2
theorem Cor.symm {G H : Gd} (C : Cor G H) : Cor H G := ⟨C.n.symm, fun i hi => (C.tg i (by rw [C.n]; exact hi)).symm, fun i hi => (C.mx i (by rw [C.n]; exact hi)).symm, fun i k hi hk ha => by
  obtain ⟨c, h1, h2, h3, h4⟩ := C.hg i k (by rw [C.n]; exact hi) hk ha
  exact ⟨c, h1, h2, h3.symm, fun h => (h4 h).symm⟩, fun i k hi hk ha => by
  obtain ⟨c, h1, h2, h3, h4⟩ := C.gh i k (by rw [C.n]; exact hi) hk ha
  exact ⟨c, h1, h2, h3.symm, fun h => (h4 h).symm⟩⟩
/-- a choice at each open state, by what there is -/
theorem maxp2 {G : Gd} (W : G.Wf) {lo : Nat → Prop} {rk : Nat → Nat} {h : Nat → Int} (hn : ∀ i, i < G.n → ¬ G.U lo i → h i ≤ 0) (hU : ∀ i, G.U lo i → ∃ k, G.down lo rk i k ∧ G.wo i k * h i ≤ G.S i k h) : ∀ i, i < G.n → h i ≤ 0 := by
  have ex : ∀ i, ∃ k, G.U lo i → G.down lo rk i k ∧ G.wo i k * h i ≤ G.S i k h := fun i => by
    by_cases e : G.U lo i
    · obtain ⟨k, hk⟩ := hU i e; exact ⟨k, fun _ => hk⟩
    · exact ⟨0, fun hh => absurd hh e⟩
  have q : ∀ i, G.U lo i → G.down lo rk i (Classical.choose (ex i)) ∧ G.wo i (Classical.choose (ex i)) * h i ≤ G.S i (Classical.choose (ex i)) h := fun i => Classical.choose_spec (ex i)
  exact Gd.maxp W (q := fun i => Classical.choose (ex i)) (fun i hi => (q i hi).1) hn (fun i hi => (q i hi).2)
theorem Sol_le {G H : Gd} (W : G.Wf) (W' : H.Wf) (C : Cor G H) {num num' : Nat → Int} {com com' : Int} (s : Sol G num com) (s' : Sol H num' com') : ∀ i, i < G.n → num i * com' ≤ num' i * com := by
  obtain ⟨l, rk, p, L, okp, V, ho, _⟩ := s
  obtain ⟨l', rk', p', L', okp', V', _, mo'⟩ := s'
  have hp := V.pos
  have hp' := V'.pos
  have nn' : ∀ i, i < H.n → 0 ≤ num' i := fun i hi => (V'.nn W' (L'.dn okp' (fun _ _ _ => rfl)) i hi).1
  have key := maxp2 W (lo := l) (rk := rk) (h := fun j => num j * com' - num' j * com) (fun i hi hu => by
    have hi' : i < H.n := by rw [← C.n]; exact hi
    rcases Gd.nU hi hu with e | e
    · show num i * com' - num' i * com ≤ 0
      rw [V.lost i hi e]
      have := Int.mul_nonneg (nn' i hi') (Int.le_of_lt hp)
      omega
    · show num i * com' - num' i * com ≤ 0
      rw [V.tgt i hi e, V'.tgt i hi' ((C.tg i hi).mp e), Int.mul_comm]; omega) (fun i hu => by
    have hi : i < G.n := hu.1
    have hi' : i < H.n := by rw [← C.n]; exact hi
    have fin : ∀ k, G.down l rk i k → G.wo i k * num i ≤ G.S i k num → G.S i k num' ≤ G.wo i k * num' i → ∃ k, G.down l rk i k ∧ G.wo i k * (num i * com' - num' i * com) ≤ G.S i k (fun j => num j * com' - num' j * com) := fun k hd h1 h2 => by
      refine ⟨k, hd, ?_⟩
      rw [Gd.S_lin]
      have a := Int.mul_le_mul_of_nonneg_right h1 (Int.le_of_lt hp')
      have b := Int.mul_le_mul_of_nonneg_right h2 (Int.le_of_lt hp)
      rw [Int.mul_sub, ← Int.mul_assoc, ← Int.mul_assoc]; omega
    by_cases hm : G.mx i
    · have hd := L.dmx i hu hm
      have hk := hd.1
      obtain ⟨c, c1, c2, c3, c4⟩ := C.gh i (p i) hi hk (okp i hi (by omega)).2
      refine fin (p i) hd (by rw [V.eqn i hu]; exact Int.le_refl _) ?_
      rw [c3, c4]
      exact mo' i c hi' ((C.mx i hi).mp hm) c1 c2
    · obtain ⟨h1, h2⟩ := L.dmn i hu hm
      have hk0 := okp i hi h1
      obtain ⟨c0, c1, c2, c3, c4⟩ := C.gh i (p i) hi hk0.1 hk0.2
      have hcc : 0 < H.cc i := by omega
      have hm' : ¬ H.mx i := fun e => hm ((C.mx i hi).mpr e)
      have ht' : ¬ H.tg i := fun e => hu.2.2 ((C.tg i hi).mpr e)
      have ex : ∃ c, c < H.cc i ∧ H.al i c ∧ H.S i c num' ≤ H.wo i c * num' i := by
        by_cases e : l' i
        · rcases L'.stay i hi' e with a | ⟨a, _⟩ | ⟨_, c, b1, b2, b3⟩
          · omega
          · exact absurd a hm'
          · refine ⟨c, b1, b2, ?_⟩
            rw [V'.lost i hi' e, Int.mul_zero]
            have : H.S i c num' = 0 := sm_zero (fun b hb => by rw [V'.lost _ (W'.lt i c b hi' b1 hb) (b3 b hb), Int.mul_zero])
            omega
        · have o := okp' i hi' hcc
          exact ⟨p' i, o.1, o.2, by rw [V'.eqn i ⟨hi', e, ht'⟩]; exact Int.le_refl _⟩
      obtain ⟨c, d1, d2, d3⟩ := ex
      obtain ⟨k, k1, k2, k3, k4⟩ := C.hg i c hi d1 d2
      exact fin k (h2 k k1 k2) (ho i k hu hm k1 k2) (by rw [k3, k4]; exact d3))
  intro i hi
  have := key i hi
  have this' : num i * com' - num' i * com ≤ 0 := this
  omega
theorem Sol_eq {G H : Gd} (W : G.Wf) (W' : H.Wf) (C : Cor G H) {num num' : Nat → Int} {com com' : Int} (s : Sol G num com) (s' : Sol H num' com') : ∀ i, i < G.n → num i * com' = num' i * com := fun i hi => by
  have a := Sol_le W W' C s s' i hi
  have b := Sol_le W' W C.symm s' s i (by rw [← C.n]; exact hi)
  omega
end Pu_vb
