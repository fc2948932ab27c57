set_option maxRecDepth 10000
section Pu_vf
/-! Better choices keep what is lost. NOT YET COMPILED. -/
theorem Val_pos {G : Gd} (W : G.Wf) {l : Nat → Prop} {q rk : Nat → Nat} (hd : ∀ i, G.U l i → G.down l rk i (q i)) {num : Nat → Int} {com : Int} (V : G.Val l q num com) : ∀ i, G.U l i → 0 < num i := by
  have nn : ∀ i, i < G.n → 0 ≤ num i := fun i hi => (V.nn W hd i hi).1
  have key : ∀ r i, rk i < r → G.U l i → 0 < num i := by
    intro r
    induction r with
    | zero => intro i h _; omega
    | succ r ih =>
      intro i hr hu
      obtain ⟨hk, b, hb, hlo, hrk⟩ := hd i hu
      have ht := W.lt i (q i) b hu.1 hk hb
      have hp : 0 < num (G.to i (q i) b) := by
        by_cases e : G.tg (G.to i (q i) b)
        · rw [V.tgt _ ht e]; exact V.pos
        · exact ih _ (by omega) ⟨ht, hlo, e⟩
      have hs := Gd.S_lt W hu.1 hk hb (h := fun _ => 0) (g := num) (fun c hc => nn _ (W.lt i (q i) c hu.1 hk hc)) hp
      rw [Gd.S_const, Int.mul_zero, ← V.eqn i hu] at hs
      have hw := Gd.wo_pos W hu.1 hk hb
      apply Classical.byContradiction
      intro hne
      have : num i = 0 := by have := nn i hu.1; omega
      rw [this, Int.mul_zero] at hs
      omega
  exact fun i hu => key (rk i + 1) i (by omega) hu
theorem Lost_ext {G : Gd} (W : G.Wf) {p rk : Nat → Nat} (hp : G.ok p) {l l' : Nat → Prop} (e : ∀ i, i < G.n → (l i ↔ l' i)) (L : G.Lost p l' rk) : G.Lost p l rk := by
  have hU : ∀ i, G.U l i → G.U l' i := fun i hu => ⟨hu.1, fun h => hu.2.1 ((e i hu.1).mpr h), hu.2.2⟩
  have dn : ∀ i k, i < G.n → G.down l' rk i k → G.down l rk i k := fun i k hi ⟨hk, b, h1, h2, h3⟩ => ⟨hk, b, h1, fun h => h2 ((e _ (W.lt i k b hi hk h1)).mp h), h3⟩
  refine ⟨fun i hi hl => L.ntg i hi ((e i hi).mp hl), fun i hi hl => ?_, fun i hu hm => dn i _ hu.1 (L.dmx i (hU i hu) hm), fun i hu hm => ⟨(L.dmn i (hU i hu) hm).1, fun k hk ha => dn i k hu.1 ((L.dmn i (hU i hu) hm).2 k hk ha)⟩⟩
  rcases L.stay i hi ((e i hi).mp hl) with a | ⟨a, b⟩ | ⟨a, k, k1, k2, k3⟩
  · exact Or.inl a
  · by_cases hc : G.cc i = 0
    · exact Or.inl hc
    · exact Or.inr (Or.inl ⟨a, fun c hcb => (e _ (W.lt i (p i) c hi (hp i hi (by omega)).1 hcb)).mpr (b c hcb)⟩)
  · exact Or.inr (Or.inr ⟨a, k, k1, k2, fun c hcb => (e _ (W.lt i k c hi k1 hcb)).mpr (k3 c hcb)⟩)
/-- MAX's better choices: the same states are lost -/
theorem step_max {G : Gd} (W : G.Wf) {p p' rk : Nat → Nat} {l : Nat → Prop} (C : clo G l) (L : G.Lost p l rk) (hp : G.ok p) (hp' : G.ok p') {num : Nat → Int} {com : Int} (V : G.Val l p num com) (ho : hopt G l num) (hsw : ∀ i, i < G.n → G.mx i → 0 < G.cc i → p' i = p i ∨ G.wo i (p' i) * num i < G.S i (p' i) num) : ∃ rk', G.Lost p' l rk' := by
  obtain ⟨l', rk', L'⟩ := ex_Lost W hp'
  have V' := mA_val W (L'.dn hp' (fun _ _ _ => rfl)) L'.ntg
  have o := Gd.outer W L hp L' hp' hp' (fun _ _ _ => rfl) V V' ho hsw
  have P := Val_pos W (L.dn hp (fun _ _ _ => rfl)) V
  refine ⟨rk', Lost_ext W hp' (fun i hi => ⟨clo_sub W hp' C L' i hi, fun hl' => ?_⟩) L'⟩
  apply Classical.byContradiction
  intro hn
  have hp0 := P i ⟨hi, hn, L'.ntg i hi hl'⟩
  have h1 := o.1 i hi
  have h2 := V'.lost i hi hl'
  have h3 : 0 < num i * dt G.n (mA G l' p') := Int.mul_pos hp0 V'.pos
  rw [h2, Int.zero_mul] at h1
  omega
theorem Val_ext {G : Gd} {l : Nat → Prop} {q q' : Nat → Nat} {num : Nat → Int} {com : Int} (V : G.Val l q num com) (e : ∀ i, G.U l i → q' i = q i) : G.Val l q' num com := ⟨V.pos, V.tgt, V.lost, fun i hu => by rw [e i hu]; exact V.eqn i hu⟩
/-- with nothing lost all values are 1 -/
theorem all_one {G : Gd} (W : G.Wf) {l : Nat → Prop} {q rk : Nat → Nat} (hd : ∀ i, G.U l i → G.down l rk i (q i)) (hl : ∀ i, i < G.n → ¬ l i) {num : Nat → Int} {com : Int} (V : G.Val l q num com) : ∀ i, i < G.n → num i = com := by
  have h1 := (V.nn W hd)
  have h2 := Gd.maxp W hd (h := fun j => com * 1 - num j * 1) (fun i hi hu => by
    rcases Gd.nU hi hu with a | a
    · exact absurd a (hl i hi)
    · show com * 1 - num i * 1 ≤ 0
      rw [V.tgt i hi a]; omega) (fun i hu => by
    have e := Gd.S_lin (G := G) i (q i) 1 1 (fun _ => com) num
    rw [Gd.S_const, ← V.eqn i hu] at e
    show G.wo i (q i) * (com * 1 - num i * 1) ≤ G.S i (q i) (fun j => com * 1 - num j * 1)
    rw [e]
    grind)
  intro i hi
  have a := h2 i hi
  have a' : com * 1 - num i * 1 ≤ 0 := a
  have b := (h1 i hi).2
  omega
/-- the place of a state among those with a property, and the code of choices there -/
noncomputable def enc (P : Nat → Prop) (p : Nat → Nat) : Nat → Nat
  | 0 => 0
  | i + 1 => @ite Nat (P i) (Classical.propDecidable _) (enc P p i + 10 ^ cnt P i * p i) (enc P p i)
theorem enc_lt {P : Nat → Prop} {p : Nat → Nat} {n : Nat} (h : ∀ i, i < n → P i → p i < 10) : enc P p n < 10 ^ cnt P n := by
  induction n with
  | zero => rw [enc, cnt]; decide
  | succ n ih =>
    have h1 := ih (fun i hi => h i (by omega))
    rw [enc, cnt]
    by_cases e : P n
    · rw [if_pos e, if_pos e, Nat.pow_succ]
      have h2 : 10 ^ cnt P n * p n ≤ 10 ^ cnt P n * 9 := Nat.mul_le_mul_left _ (by have := h n (by omega) e; omega)
      omega
    · rw [if_neg e, if_neg e, Nat.add_zero]; exact h1
theorem cnt_at {P : Nat → Prop} {i n : Nat} (hi : i < n) (hp : P i) : cnt P i < cnt P n := by
  induction n with
  | zero => omega
  | succ n ih =>
    rw [cnt]
    by_cases e : i = n
    · subst e; rw [if_pos hp]; omega
    · have := ih (by omega)
      split <;> omega
theorem enc_dg {P : Nat → Prop} {p : Nat → Nat} {n : Nat} (h : ∀ i, i < n → P i → p i < 10) : ∀ i, i < n → P i → dgc (enc P p n) (cnt P i) = p i := by
  induction n with
  | zero => intro i hi; omega
  | succ n ih =>
    intro i hi hp
    have h1 := ih (fun i hi => h i (by omega))
    have hlt := enc_lt (P := P) (p := p) (n := n) (fun i hi => h i (by omega))
    rw [enc]
    by_cases e : P n
    · rw [if_pos e]
      by_cases e2 : i = n
      · subst e2
        unfold dgc
        rw [Nat.add_mul_div_left _ _ (Nat.pow_pos (by decide)), Nat.div_eq_of_lt hlt, Nat.zero_add, Nat.mod_eq_of_lt (h i (by omega) hp)]
      · rw [← h1 i (by omega) hp]
        have hc := cnt_at (n := n) (show i < n by omega) hp
        unfold dgc
        have e3 : 10 ^ cnt P n * p n = 10 ^ cnt P i * (10 * (10 ^ (cnt P n - cnt P i - 1) * p n)) := by
          rw [← Nat.mul_assoc, ← Nat.mul_assoc, ← Nat.pow_succ, ← Nat.pow_add, show cnt P i + 1 + (cnt P n - cnt P i - 1) = cnt P n by omega]
        rw [e3, Nat.add_mul_div_left _ _ (Nat.pow_pos (by decide)), Nat.add_mul_mod_self_left]
    · rw [if_neg e]
      exact h1 i (by have : i ≠ n := fun e2 => e (by rw [← e2]; exact hp)
                     omega) hp
end Pu_vf
