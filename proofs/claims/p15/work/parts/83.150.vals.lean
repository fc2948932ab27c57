set_option maxRecDepth 10000
section Pu_ve
/-! What is lost under a policy, and its values: they are there. NOT YET COMPILED. -/
theorem Lost_of {G : Gd} {p : Nat → Nat} {l : Nat → Prop} {rk : Nat → Nat} (ht : ∀ j, j < G.n → l j → ¬ G.tg j) (hd : ∀ j, j < G.n → ¬ l j → ¬ G.tg j → dnp G p l rk j) (hst : ∀ i, i < G.n → l i → ¬ (0 < G.cc i ∧ (G.mx i → ∃ b, b < G.nb i (p i) ∧ ¬ l (G.to i (p i) b)) ∧ (¬ G.mx i → ∀ k, k < G.cc i → G.al i k → ∃ b, b < G.nb i k ∧ ¬ l (G.to i k b)))) : G.Lost p l rk := by
  refine ⟨ht, fun i hi hl => ?_, fun i hu hm => (hd i hu.1 hu.2.1 hu.2.2).2.1 hm, fun i hu hm => ⟨(hd i hu.1 hu.2.1 hu.2.2).1, (hd i hu.1 hu.2.1 hu.2.2).2.2 hm⟩⟩
  by_cases e : 0 < G.cc i
  · right
    have h := hst i hi hl
    by_cases hm : G.mx i
    · left
      refine ⟨hm, fun b hb => ?_⟩
      apply Classical.byContradiction
      intro hn
      exact h ⟨e, fun _ => ⟨b, hb, hn⟩, fun hh => absurd hm hh⟩
    · right
      refine ⟨hm, ?_⟩
      apply Classical.byContradiction
      intro hn
      refine h ⟨e, fun hh => absurd hh hm, fun _ k hk ha => ?_⟩
      apply Classical.byContradiction
      intro hn2
      refine hn ⟨k, hk, ha, fun b hb => ?_⟩
      apply Classical.byContradiction
      intro hn3
      exact hn2 ⟨b, hb, hn3⟩
  · left; omega
theorem ex_Lost_aux {G : Gd} (W : G.Wf) {p : Nat → Nat} (hp : G.ok p) : ∀ (N : Nat) (l : Nat → Prop) (rk : Nat → Nat), cnt l G.n ≤ N → (∀ j, j < G.n → l j → ¬ G.tg j) → (∀ j, j < G.n → ¬ l j → ¬ G.tg j → dnp G p l rk j) → ∃ (l' : Nat → Prop) (rk' : Nat → Nat), G.Lost p l' rk' := by
  intro N
  induction N with
  | zero =>
    intro l rk hN ht hd
    exact ⟨l, rk, Lost_of ht hd (fun i hi hl => by have := cnt_pos (P := l) hi hl; omega)⟩
  | succ N ih =>
    intro l rk hN ht hd
    by_cases hst : ∃ i, i < G.n ∧ l i ∧ (0 < G.cc i ∧ (G.mx i → ∃ b, b < G.nb i (p i) ∧ ¬ l (G.to i (p i) b)) ∧ (¬ G.mx i → ∀ k, k < G.cc i → G.al i k → ∃ b, b < G.nb i k ∧ ¬ l (G.to i k b)))
    · obtain ⟨i, hi, hl, hs⟩ := hst
      obtain ⟨rk', h'⟩ := dnp_add W hi hl hd (fun _ => (hp i hi hs.1).1) hs
      refine ih (fun j => l j ∧ j ≠ i) rk' ?_ (fun j hj hh => ht j hj hh.1) (h' _ (fun j => Iff.rfl))
      have := cnt_lt (P := fun j => l j ∧ j ≠ i) (Q := l) (n := G.n) (fun e _ hh => hh.1) hi hl (fun hh => hh.2 rfl)
      omega
    · exact ⟨l, rk, Lost_of ht hd (fun i hi hl hh => hst ⟨i, hi, hl, hh⟩)⟩
theorem ex_Lost {G : Gd} (W : G.Wf) {p : Nat → Nat} (hp : G.ok p) : ∃ (l : Nat → Prop) (rk : Nat → Nat), G.Lost p l rk :=
  ex_Lost_aux W hp G.n (fun j => ¬ G.tg j) (fun _ => 0) (cnt_le _ _) (fun _ _ h => h) (fun j _ h1 h2 => absurd h2 h1)
/-- nobody leaves it against MIN -/
def clo (G : Gd) (l : Nat → Prop) : Prop := ∀ i, i < G.n → l i → ¬ G.tg i ∧ (G.cc i = 0 ∨ (G.mx i ∧ ∀ k, k < G.cc i → G.al i k → ∀ b, b < G.nb i k → l (G.to i k b)) ∨ (¬ G.mx i ∧ ∃ k, k < G.cc i ∧ G.al i k ∧ ∀ b, b < G.nb i k → l (G.to i k b)))
theorem clo_sub {G : Gd} (W : G.Wf) {p : Nat → Nat} (hp : G.ok p) {l l' : Nat → Prop} {rk : Nat → Nat} (C : clo G l) (L : G.Lost p l' rk) : ∀ i, i < G.n → l i → l' i := by
  have key : ∀ r i, i < G.n → rk i < r → l i → l' i := by
    intro r
    induction r with
    | zero => intro i _ h _; omega
    | succ r ih =>
      intro i hi hr hl
      apply Classical.byContradiction
      intro hn
      obtain ⟨ht, hc⟩ := C i hi hl
      have hu : G.U l' i := ⟨hi, hn, ht⟩
      have fin : ∀ k, G.down l' rk i k → (∀ b, b < G.nb i k → l (G.to i k b)) → False := fun k hd hb => by
        obtain ⟨hk, b, h1, h2, h3⟩ := hd
        exact h2 (ih _ (W.lt i k b hi hk h1) (by omega) (hb b h1))
      by_cases hm : G.mx i
      · have hd := L.dmx i hu hm
        have hcc : 0 < G.cc i := by have := hd.1; omega
        rcases hc with a | ⟨_, a⟩ | ⟨a, _⟩
        · omega
        · exact fin (p i) hd (a _ hd.1 (hp i hi hcc).2)
        · exact a hm
      · have hd := L.dmn i hu hm
        rcases hc with a | ⟨a, _⟩ | ⟨_, k, k1, k2, k3⟩
        · omega
        · exact hm a
        · exact fin k (hd.2 k k1 k2) k3
  exact fun i hi hl => key (rk i + 1) i hi (by omega) hl
/-- the equations of a policy; column n holds what the rows come to -/
noncomputable def mA (G : Gd) (l : Nat → Prop) (q : Nat → Nat) (i j : Nat) : Int := @ite Int (G.U l i) (Classical.propDecidable _) ((if j = i then G.wo i (q i) else 0) - sm (G.nb i (q i)) (fun b => if G.to i (q i) b = j then G.wt i (q i) b else 0)) (if j = i then 1 else @ite Int (j = G.n ∧ G.tg i) (Classical.propDecidable _) 1 0)
theorem mA_U {G : Gd} {l : Nat → Prop} {q : Nat → Nat} {i : Nat} (h : G.U l i) (j : Nat) : mA G l q i j = (if j = i then G.wo i (q i) else 0) - sm (G.nb i (q i)) (fun b => if G.to i (q i) b = j then G.wt i (q i) b else 0) := by unfold mA; rw [if_pos h]
theorem mA_n {G : Gd} {l : Nat → Prop} {q : Nat → Nat} {i : Nat} (h : ¬ G.U l i) (j : Nat) : mA G l q i j = (if j = i then 1 else @ite Int (j = G.n ∧ G.tg i) (Classical.propDecidable _) 1 0) := by unfold mA; rw [if_neg h]
/-- a row's sum with numbers -/
theorem mA_sum {G : Gd} (W : G.Wf) {l : Nat → Prop} {q : Nat → Nat} {i : Nat} (h : G.U l i) (hk : q i < G.cc i) (x : Nat → Int) : sm G.n (fun j => mA G l q i j * x j) = G.wo i (q i) * x i - G.S i (q i) x := by
  have e1 : sm G.n (fun j => mA G l q i j * x j) = sm G.n (fun j => (if j = i then G.wo i (q i) else 0) * x j) - sm G.n (fun j => sm (G.nb i (q i)) (fun b => (if G.to i (q i) b = j then G.wt i (q i) b else 0) * x j)) := by
    rw [← sm_sub]
    refine sm_congr (fun j _ => ?_)
    rw [mA_U h, Int.sub_mul]
    congr 1
    rw [Int.mul_comm, ← sm_mul]
    exact sm_congr (fun b _ => Int.mul_comm _ _)
  have e2 : sm G.n (fun j => (if j = i then G.wo i (q i) else 0) * x j) = G.wo i (q i) * x i := by
    rw [sm_one h.1 (fun j _ hj => by rw [if_neg hj, Int.zero_mul]), if_pos rfl]
  have e3 : sm G.n (fun j => sm (G.nb i (q i)) (fun b => (if G.to i (q i) b = j then G.wt i (q i) b else 0) * x j)) = G.S i (q i) x := by
    rw [sm_swap]
    unfold Gd.S
    refine sm_congr (fun b hb => ?_)
    rw [sm_one (W.lt i (q i) b h.1 hk hb) (fun j _ hj => by rw [if_neg (fun e => hj e.symm), Int.zero_mul]), if_pos rfl]
  rw [e1, e2, e3]
theorem mA_dom {G : Gd} (W : G.Wf) {l : Nat → Prop} {q rk : Nat → Nat} (hd : ∀ i, G.U l i → G.down l rk i (q i)) : dom G.n (mA G l q) rk := by
  have neg : ∀ i j, G.U l i → 0 ≤ sm (G.nb i (q i)) (fun b => if G.to i (q i) b = j then G.wt i (q i) b else 0) := fun i j hu => by
    have hk := (hd i hu).1
    refine sm_nn (fun b hb => ?_)
    split
    · exact Int.le_of_lt (W.pos i (q i) b hu.1 hk hb)
    · exact Int.le_refl _
  have row : ∀ i, G.U l i → sm G.n (mA G l q i) = 0 := fun i hu => by
    have := mA_sum W hu (hd i hu).1 (fun _ => 1)
    rw [Gd.S_const] at this
    have e : sm G.n (fun j => mA G l q i j * 1) = sm G.n (mA G l q i) := sm_congr (fun j _ => Int.mul_one _)
    rw [e] at this; omega
  have row1 : ∀ i, i < G.n → ¬ G.U l i → sm G.n (mA G l q i) = 1 := fun i hi hu => by
    rw [sm_one hi (fun j hj hne => by rw [mA_n hu, if_neg hne, if_neg (fun h => by omega)]), mA_n hu, if_pos rfl]
  refine ⟨fun i j hi hj hne => ?_, fun i hi => ?_, fun i hi => ?_⟩
  · by_cases hu : G.U l i
    · rw [mA_U hu, if_neg (fun e => hne e.symm)]
      have := neg i j hu; omega
    · rw [mA_n hu, if_neg (fun e => hne e.symm), if_neg (fun h => by omega)]; exact Int.le_refl _
  · by_cases hu : G.U l i
    · rw [row i hu]; exact Int.le_refl _
    · rw [row1 i hi hu]; decide
  · by_cases hu : G.U l i
    · right
      obtain ⟨hk, b, hb, hlo, hr⟩ := hd i hu
      have hne : G.to i (q i) b ≠ i := fun e => by rw [e] at hr; omega
      refine ⟨G.to i (q i) b, W.lt i (q i) b hi hk hb, hne, ?_, hr⟩
      rw [mA_U hu, if_neg hne]
      have hw := W.pos i (q i) b hi hk hb
      have := sm_lt (n := G.nb i (q i)) (f := fun _ => 0) (g := fun b' => if G.to i (q i) b' = G.to i (q i) b then G.wt i (q i) b' else 0) (fun c hc => by
        split
        · exact Int.le_of_lt (W.pos i (q i) c hi hk hc)
        · exact Int.le_refl _) hb (by rw [if_pos rfl]; exact hw)
      rw [sm_zero (fun _ _ => rfl)] at this
      omega
    · left; rw [row1 i hi hu]; decide
/-- by Cramer's rule -/
theorem mA_val {G : Gd} (W : G.Wf) {l : Nat → Prop} {q rk : Nat → Nat} (hd : ∀ i, G.U l i → G.down l rk i (q i)) (hl : ∀ i, i < G.n → l i → ¬ G.tg i) : G.Val l q (fun i => cjs (mA G l q) G.n i G.n) (dt G.n (mA G l q)) := by
  have D := mA_dom W hd
  have P := dom_pos D G.n (Nat.le_refl _)
  have sum : ∀ i, i < G.n → sm G.n (fun j => mA G l q i j * cjs (mA G l q) G.n j G.n) = dt G.n (mA G l q) * mA G l q i G.n := fun i hi => cjs_sum _ _ _ hi
  have one : ∀ i, i < G.n → ¬ G.U l i → cjs (mA G l q) G.n i G.n = dt G.n (mA G l q) * mA G l q i G.n := fun i hi hu => by
    rw [← sum i hi, sm_one hi (fun j hj hne => by rw [mA_n hu, if_neg hne, if_neg (fun h => by omega), Int.zero_mul]), mA_n hu, if_pos rfl, Int.one_mul]
  refine ⟨P, fun i hi ht => ?_, fun i hi hli => ?_, fun i hu => ?_⟩
  · have hu : ¬ G.U l i := fun h => h.2.2 ht
    show cjs (mA G l q) G.n i G.n = _
    rw [one i hi hu, mA_n hu, if_neg (by omega), if_pos ⟨rfl, ht⟩, Int.mul_one]
  · have hu : ¬ G.U l i := fun h => h.2.1 hli
    show cjs (mA G l q) G.n i G.n = _
    rw [one i hi hu, mA_n hu, if_neg (by omega), if_neg (fun h => hl i hi hli h.2), Int.mul_zero]
  · have h := sum i hu.1
    rw [mA_sum W hu (hd i hu).1] at h
    have hz : mA G l q i G.n = 0 := by
      rw [mA_U hu, if_neg (by have := hu.1; omega), sm_zero (fun b hb => by rw [if_neg (by have := W.lt i (q i) b hu.1 (hd i hu).1 hb; omega)])]; decide
    rw [hz, Int.mul_zero] at h
    show G.wo i (q i) * cjs (mA G l q) G.n i G.n = _
    omega
end Pu_ve
