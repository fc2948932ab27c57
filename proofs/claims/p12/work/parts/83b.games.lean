set_option maxRecDepth 10000
section Pu_B
/-! Games and their values: what makes the search for better choices end. -/
def Gd : Type := Nat × (Nat → Nat) × (Nat → Nat → Nat) × (Nat → Nat → Nat → Int) × (Nat → Nat → Nat → Nat) × (Nat → Prop) × (Nat → Prop) × (Nat → Nat → Prop)
def Gd.n (G : Gd) : Nat := G.1
def Gd.cc (G : Gd) : Nat → Nat := G.2.1
def Gd.nb (G : Gd) : Nat → Nat → Nat := G.2.2.1
def Gd.wt (G : Gd) : Nat → Nat → Nat → Int := G.2.2.2.1
def Gd.to (G : Gd) : Nat → Nat → Nat → Nat := G.2.2.2.2.1
def Gd.tg (G : Gd) : Nat → Prop := G.2.2.2.2.2.1
def Gd.mx (G : Gd) : Nat → Prop := G.2.2.2.2.2.2.1
def Gd.al (G : Gd) : Nat → Nat → Prop := G.2.2.2.2.2.2.2
section GdS
variable (G : Gd)
def Gd.wo (i k : Nat) : Int := sm (G.nb i k) (G.wt i k)
def Gd.S (i k : Nat) (h : Nat → Int) : Int := sm (G.nb i k) (fun b => G.wt i k b * h (G.to i k b))
def Gd.Wf (G : Gd) : Prop :=
  (∀ i k b, i < G.n → k < G.cc i → b < G.nb i k → 0 < G.wt i k b) ∧
  (∀ i k b, i < G.n → k < G.cc i → b < G.nb i k → G.to i k b < G.n) ∧
  (∀ i, i < G.n → G.tg i → G.cc i = 0)
theorem Gd.Wf.pos {G : Gd} (h_ : Gd.Wf G) : ∀ i k b, i < G.n → k < G.cc i → b < G.nb i k → 0 < G.wt i k b := h_.1
theorem Gd.Wf.lt {G : Gd} (h_ : Gd.Wf G) : ∀ i k b, i < G.n → k < G.cc i → b < G.nb i k → G.to i k b < G.n := h_.2.1
theorem Gd.Wf.tgc {G : Gd} (h_ : Gd.Wf G) : ∀ i, i < G.n → G.tg i → G.cc i = 0 := h_.2.2
/-- which are open, with these lost -/
def Gd.U (lo : Nat → Prop) (i : Nat) : Prop := i < G.n ∧ ¬ lo i ∧ ¬ G.tg i
/-- a choice for each open state, which leads Gd.down -/
def Gd.down (lo : Nat → Prop) (rk : Nat → Nat) (i k : Nat) : Prop := k < G.cc i ∧ ∃ b, b < G.nb i k ∧ ¬ lo (G.to i k b) ∧ rk (G.to i k b) < rk i
variable {G}
theorem Gd.S_le (W : G.Wf) {i k : Nat} (hi : i < G.n) (hk : k < G.cc i) {h g : Nat → Int} (hh : ∀ j, j < G.n → h j ≤ g j) : G.S i k h ≤ G.S i k g :=
  sm_le (fun b hb => Int.mul_le_mul_of_nonneg_left (hh _ (W.lt i k b hi hk hb)) (Int.le_of_lt (W.pos i k b hi hk hb)))
theorem Gd.S_lt (W : G.Wf) {i k b : Nat} (hi : i < G.n) (hk : k < G.cc i) (hb : b < G.nb i k) {h g : Nat → Int} (hh : ∀ c, c < G.nb i k → h (G.to i k c) ≤ g (G.to i k c)) (hl : h (G.to i k b) < g (G.to i k b)) : G.S i k h < G.S i k g :=
  sm_lt (fun b hb => Int.mul_le_mul_of_nonneg_left (hh b hb) (Int.le_of_lt (W.pos i k b hi hk hb))) hb (Int.mul_lt_mul_of_pos_left hl (W.pos i k b hi hk hb))
theorem Gd.S_le' (W : G.Wf) {i k : Nat} (hi : i < G.n) (hk : k < G.cc i) {h g : Nat → Int} (hh : ∀ c, c < G.nb i k → h (G.to i k c) ≤ g (G.to i k c)) : G.S i k h ≤ G.S i k g :=
  sm_le (fun b hb => Int.mul_le_mul_of_nonneg_left (hh b hb) (Int.le_of_lt (W.pos i k b hi hk hb)))
theorem Gd.S_const (i k : Nat) (m : Int) : G.S i k (fun _ => m) = G.wo i k * m := by
  unfold Gd.S Gd.wo
  rw [Int.mul_comm, ← sm_mul]; exact sm_congr (fun b _ => Int.mul_comm _ _)
theorem Gd.S_lin (i k : Nat) (a b : Int) (h g : Nat → Int) : G.S i k (fun j => h j * a - g j * b) = G.S i k h * a - G.S i k g * b := by
  unfold Gd.S
  rw [Int.mul_comm _ a, Int.mul_comm _ b, ← sm_mul, ← sm_mul, ← sm_sub]; exact sm_congr (fun b _ => by grind)
theorem Gd.wo_pos (W : G.Wf) {i k b : Nat} (hi : i < G.n) (hk : k < G.cc i) (hb : b < G.nb i k) : 0 < G.wo i k := by
  unfold Gd.wo
  have := sm_lt (n := G.nb i k) (f := fun _ => 0) (g := G.wt i k) (fun c hc => Int.le_of_lt (W.pos i k c hi hk hc)) hb (W.pos i k b hi hk hb)
  rw [sm_zero (fun _ _ => rfl)] at this; exact this
/-- the greatest of finitely many -/
theorem Gd.ex_max (n : Nat) (hn : 0 < n) (h : Nat → Int) : ∃ m, m < n ∧ ∀ j, j < n → h j ≤ h m := by
  induction n with
  | zero => omega
  | succ n ih =>
    by_cases e : n = 0
    · subst e; exact ⟨0, by omega, fun j hj => by rw [show j = 0 by omega]; exact Int.le_refl _⟩
    · obtain ⟨m, hm, hj⟩ := ih (by omega)
      by_cases e2 : h n ≤ h m
      · exact ⟨m, by omega, fun j hj2 => by
          by_cases e3 : j = n
          · rw [e3]; exact e2
          · exact hj j (by omega)⟩
      · exact ⟨n, by omega, fun j hj2 => by
          by_cases e3 : j = n
          · rw [e3]; exact Int.le_refl _
          · have := hj j (by omega); omega⟩
/-- where the average is at least the greatest, each is -/
theorem Gd.avg (W : G.Wf) {i k : Nat} (hi : i < G.n) (hk : k < G.cc i) {h : Nat → Int} {m : Int} (hm : ∀ c, c < G.nb i k → h (G.to i k c) ≤ m) (ha : G.wo i k * m ≤ G.S i k h) {b : Nat} (hb : b < G.nb i k) : h (G.to i k b) = m := by
  apply Classical.byContradiction
  intro hne
  have h1 : G.S i k h < G.S i k (fun _ => m) := Gd.S_lt W hi hk hb (fun c hc => hm c hc) (by have := hm b hb; show h _ < m; omega)
  rw [Gd.S_const] at h1
  omega
theorem Gd.maxp (W : G.Wf) {lo : Nat → Prop} {rk q : Nat → Nat} (hd : ∀ i, G.U lo i → G.down lo rk i (q i)) {h : Nat → Int} (hn : ∀ i, i < G.n → ¬ G.U lo i → h i ≤ 0) (hU : ∀ i, G.U lo i → G.wo i (q i) * h i ≤ G.S i (q i) h) : ∀ i, i < G.n → h i ≤ 0 := by
  intro i hi
  obtain ⟨m, hm, hmax⟩ := Gd.ex_max G.n (by omega) h
  apply Classical.byContradiction
  intro hne
  have hpos : 0 < h m := by have := hmax i hi; omega
  have key : ∀ r j, j < G.n → rk j < r → h j = h m → False := by
    intro r
    induction r with
    | zero => intro j _ h1 _; omega
    | succ r ih =>
      intro j hj hr he
      have hUj : G.U lo j := Classical.byContradiction (fun h2 => by have := hn j hj h2; omega)
      obtain ⟨hk, b, hb, hlo, hrk⟩ := hd j hUj
      have h3 := Gd.avg W hj hk (h := h) (m := h m) (fun c hc => hmax _ (W.lt _ _ _ hj hk hc)) (by have := hU j hUj; rw [he] at this; exact this) hb
      exact ih _ (W.lt _ _ _ hj hk hb) (by omega) h3
  exact key (rk m + 1) m hm (by omega) rfl
/-- the values of choices, over one common number -/
def Gd.Val (G : Gd) (lo : Nat → Prop) (q : Nat → Nat) (num : Nat → Int) (com : Int) : Prop :=
  (0 < com) ∧
  (∀ i, i < G.n → G.tg i → num i = com) ∧
  (∀ i, i < G.n → lo i → num i = 0) ∧
  (∀ i, G.U lo i → G.wo i (q i) * num i = G.S i (q i) num)
theorem Gd.Val.pos {G : Gd} {lo : Nat → Prop} {q : Nat → Nat} {num : Nat → Int} {com : Int} (h_ : Gd.Val G lo q num com) : 0 < com := h_.1
theorem Gd.Val.tgt {G : Gd} {lo : Nat → Prop} {q : Nat → Nat} {num : Nat → Int} {com : Int} (h_ : Gd.Val G lo q num com) : ∀ i, i < G.n → G.tg i → num i = com := h_.2.1
theorem Gd.Val.lost {G : Gd} {lo : Nat → Prop} {q : Nat → Nat} {num : Nat → Int} {com : Int} (h_ : Gd.Val G lo q num com) : ∀ i, i < G.n → lo i → num i = 0 := h_.2.2.1
theorem Gd.Val.eqn {G : Gd} {lo : Nat → Prop} {q : Nat → Nat} {num : Nat → Int} {com : Int} (h_ : Gd.Val G lo q num com) : ∀ i, G.U lo i → G.wo i (q i) * num i = G.S i (q i) num := h_.2.2.2
/-- what is lost: closed, and whatever is not lost leads Gd.down -/
def Gd.Lost (G : Gd) (pk : Nat → Nat) (lo : Nat → Prop) (rk : Nat → Nat) : Prop :=
  (∀ i, i < G.n → lo i → ¬ G.tg i) ∧
  (∀ i, i < G.n → lo i → G.cc i = 0 ∨ (G.mx i ∧ ∀ b, b < G.nb i (pk i) → lo (G.to i (pk i) b)) ∨ (¬ G.mx i ∧ ∃ k, k < G.cc i ∧ G.al i k ∧ ∀ b, b < G.nb i k → lo (G.to i k b))) ∧
  (∀ i, G.U lo i → G.mx i → G.down lo rk i (pk i)) ∧
  (∀ i, G.U lo i → ¬ G.mx i → 0 < G.cc i ∧ ∀ k, k < G.cc i → G.al i k → G.down lo rk i k)
theorem Gd.Lost.ntg {G : Gd} {pk : Nat → Nat} {lo : Nat → Prop} {rk : Nat → Nat} (h_ : Gd.Lost G pk lo rk) : ∀ i, i < G.n → lo i → ¬ G.tg i := h_.1
theorem Gd.Lost.stay {G : Gd} {pk : Nat → Nat} {lo : Nat → Prop} {rk : Nat → Nat} (h_ : Gd.Lost G pk lo rk) : ∀ i, i < G.n → lo i → G.cc i = 0 ∨ (G.mx i ∧ ∀ b, b < G.nb i (pk i) → lo (G.to i (pk i) b)) ∨ (¬ G.mx i ∧ ∃ k, k < G.cc i ∧ G.al i k ∧ ∀ b, b < G.nb i k → lo (G.to i k b)) := h_.2.1
theorem Gd.Lost.dmx {G : Gd} {pk : Nat → Nat} {lo : Nat → Prop} {rk : Nat → Nat} (h_ : Gd.Lost G pk lo rk) : ∀ i, G.U lo i → G.mx i → G.down lo rk i (pk i) := h_.2.2.1
theorem Gd.Lost.dmn {G : Gd} {pk : Nat → Nat} {lo : Nat → Prop} {rk : Nat → Nat} (h_ : Gd.Lost G pk lo rk) : ∀ i, G.U lo i → ¬ G.mx i → 0 < G.cc i ∧ ∀ k, k < G.cc i → G.al i k → G.down lo rk i k := h_.2.2.2
/-- choices that are allowed -/
def Gd.ok (G : Gd) (q : Nat → Nat) : Prop := ∀ i, i < G.n → 0 < G.cc i → q i < G.cc i ∧ G.al i (q i)
/-- the same choices for MAX -/
def Gd.eqmx (G : Gd) (p q : Nat → Nat) : Prop := ∀ i, i < G.n → G.mx i → p i = q i
theorem Gd.Lost.dn {pk q : Nat → Nat} {lo : Nat → Prop} {rk : Nat → Nat} (L : G.Lost pk lo rk) (hq : G.ok q) (he : G.eqmx pk q) : ∀ i, G.U lo i → G.down lo rk i (q i) := by
  intro i hi
  by_cases hm : G.mx i
  · rw [← he i hi.1 hm]; exact L.dmx i hi hm
  · obtain ⟨h1, h2⟩ := L.dmn i hi hm
    obtain ⟨h3, h4⟩ := hq i hi.1 h1
    exact h2 _ h3 h4
theorem Gd.nU {lo : Nat → Prop} {i : Nat} (hi : i < G.n) (h : ¬ G.U lo i) : lo i ∨ G.tg i := by
  by_cases h1 : lo i
  · exact Or.inl h1
  · exact Or.inr (Classical.byContradiction (fun h2 => h ⟨hi, h1, h2⟩))
theorem Gd.Val.nn (W : G.Wf) {lo : Nat → Prop} {rk q : Nat → Nat} (hd : ∀ i, G.U lo i → G.down lo rk i (q i)) {num : Nat → Int} {com : Int} (V : G.Val lo q num com) : ∀ i, i < G.n → 0 ≤ num i ∧ num i ≤ com := by
  have hp := V.pos
  have h1 := Gd.maxp W hd (h := fun j => num j * (-1) - num j * 0) (fun i hi hu => by
    rcases Gd.nU hi hu with h | h
    · show num i * (-1) - num i * 0 ≤ 0; rw [V.lost i hi h]; decide
    · show num i * (-1) - num i * 0 ≤ 0; rw [V.tgt i hi h]; omega) (fun i hu => by
    rw [Gd.S_lin]; have := V.eqn i hu; show G.wo i (q i) * (num i * (-1) - num i * 0) ≤ _; rw [← this]; grind)
  have h2 := Gd.maxp W hd (h := fun j => num j * 1 - com * 1) (fun i hi hu => by
    rcases Gd.nU hi hu with h | h
    · show num i * 1 - com * 1 ≤ 0; rw [V.lost i hi h]; omega
    · show num i * 1 - com * 1 ≤ 0; rw [V.tgt i hi h]; omega) (fun i hu => by
    rw [Gd.S_lin i (q i) 1 1 num (fun _ => com), Gd.S_const]; have := V.eqn i hu; show G.wo i (q i) * (num i * 1 - com * 1) ≤ _; rw [← this]; grind)
  intro i hi
  have a := h1 i hi
  have b := h2 i hi

  omega
/-- MIN does better -/
theorem Gd.inner (W : G.Wf) {pk q q' rk : Nat → Nat} {lo : Nat → Prop} (L : G.Lost pk lo rk) (hq' : G.ok q') (he' : G.eqmx pk q') {num num' : Nat → Int} {com com' : Int} (V : G.Val lo q num com) (V' : G.Val lo q' num' com')
    (hi : ∀ i, G.U lo i → q' i = q i ∨ G.S i (q' i) num < G.wo i (q' i) * num i) : (∀ i, i < G.n → num' i * com ≤ num i * com') ∧ ∀ i, G.U lo i → G.S i (q' i) num < G.wo i (q' i) * num i → num' i * com < num i * com' := by
  have hp := V.pos
  have hp' := V'.pos
  have hd := L.dn hq' he'
  have hle : ∀ i, G.U lo i → G.S i (q' i) num ≤ G.wo i (q' i) * num i := fun i hu => by
    rcases hi i hu with h | h
    · rw [h, V.eqn i hu]; exact Int.le_refl _
    · exact Int.le_of_lt h
  have h1 := Gd.maxp W hd (h := fun j => num' j * com - num j * com') (fun i hi hu => by
    rcases Gd.nU hi hu with h | h
    · show num' i * com - num i * com' ≤ 0; rw [V.lost i hi h, V'.lost i hi h]; simp
    · show num' i * com - num i * com' ≤ 0; rw [V.tgt i hi h, V'.tgt i hi h, Int.mul_comm]; omega) (fun i hu => by
    rw [Gd.S_lin, ← V'.eqn i hu]
    have := Int.mul_le_mul_of_nonneg_right (hle i hu) (Int.le_of_lt hp')
    show G.wo i (q' i) * (num' i * com - num i * com') ≤ _
    rw [Int.mul_sub, ← Int.mul_assoc, ← Int.mul_assoc]; omega)
  refine ⟨fun i hi => by have := h1 i hi; omega, fun i hu hs => ?_⟩
  have hk := hd i hu
  obtain ⟨hk, b, hb, _, _⟩ := hk
  have hw := Gd.wo_pos W hu.1 hk hb
  have h2 : G.S i (q' i) (fun j => num' j * com - num j * com') ≤ G.S i (q' i) (fun _ => 0) := Gd.S_le W hu.1 hk h1
  rw [Gd.S_const, Gd.S_lin, ← V'.eqn i hu, Int.mul_zero] at h2
  have h3 := Int.mul_lt_mul_of_pos_right hs hp'
  have h4 : G.wo i (q' i) * (num' i * com - num i * com') < 0 := by
    rw [Int.mul_sub, ← Int.mul_assoc, ← Int.mul_assoc]; omega
  have h5 : num' i * com - num i * com' < 0 := by
    apply Classical.byContradiction; intro hne
    have := Int.mul_nonneg (Int.le_of_lt hw) (show 0 ≤ num' i * com - num i * com' by omega)
    omega
  omega
/-- MAX does better, and MIN answers whatever it may -/
theorem Gd.outer (W : G.Wf) {pk pk' q' rk rk' : Nat → Nat} {lo lo' : Nat → Prop} (L : G.Lost pk lo rk) (hpk : G.ok pk) (L' : G.Lost pk' lo' rk') (hq' : G.ok q') (hpk' : G.ok pk') (he' : G.eqmx pk' q') {num num' : Nat → Int} {com com' : Int} (V : G.Val lo pk num com) (V' : G.Val lo' q' num' com')
    (hopt : ∀ i k, G.U lo i → ¬ G.mx i → k < G.cc i → G.al i k → G.wo i k * num i ≤ G.S i k num)
    (hsw : ∀ i, i < G.n → G.mx i → 0 < G.cc i → pk' i = pk i ∨ G.wo i (pk' i) * num i < G.S i (pk' i) num) : (∀ i, i < G.n → num i * com' ≤ num' i * com) ∧ ∀ i, i < G.n → G.mx i → 0 < G.cc i → G.wo i (pk' i) * num i < G.S i (pk' i) num → num i * com' < num' i * com := by
  have hp := V.pos
  have hp' := V'.pos
  have hnn : ∀ i, i < G.n → 0 ≤ num i := fun i hi => (V.nn W (L.dn hpk (fun _ _ _ => rfl)) i hi).1
  have hS0 : ∀ i k, i < G.n → k < G.cc i → 0 ≤ G.S i k num := fun i k hi hk => by
    have := Gd.S_le W hi hk (h := fun _ => 0) (g := num) hnn
    rw [Gd.S_const, Int.mul_zero] at this; exact this
  -- MIN's states
  have hmin : ∀ i k, i < G.n → ¬ G.tg i → ¬ G.mx i → k < G.cc i → G.al i k → G.wo i k * num i ≤ G.S i k num := fun i k hi ht hm hk ha => by
    by_cases hl : lo i
    · rw [V.lost i hi hl, Int.mul_zero]; exact hS0 i k hi hk
    · exact hopt i k ⟨hi, hl, ht⟩ hm hk ha
  have hmax : ∀ i, i < G.n → ¬ G.tg i → G.mx i → 0 < G.cc i → G.wo i (pk' i) * num i ≤ G.S i (pk' i) num := fun i hi ht hm hc => by
    rcases hsw i hi hm hc with h | h
    · by_cases hl : lo i
      · rw [V.lost i hi hl, Int.mul_zero]; exact hS0 i _ hi (hpk' i hi hc).1
      · rw [h, V.eqn i ⟨hi, hl, ht⟩]; exact Int.le_refl _
    · exact Int.le_of_lt h
  -- on what is lost now the values were 0
  have hz : ∀ i, i < G.n → lo' i → num i = 0 := by
    intro i0 hi0 hl0
    obtain ⟨m, hm, hmm⟩ := Gd.ex_max G.n (by omega) (fun j => @ite _ (lo' j) (Classical.propDecidable _) (num j) (-1))
    have hml : lo' m := Classical.byContradiction (fun h => by
      have := hmm i0 hi0
      simp only [if_pos hl0, if_neg h] at this
      have := hnn i0 hi0; omega)
    have hle : ∀ j, j < G.n → lo' j → num j ≤ num m := fun j hj hl => by
      have := hmm j hj
      simp only [if_pos hl, if_pos hml] at this; exact this
    apply Classical.byContradiction
    intro hne
    have hpos : 0 < num m := by have := hle i0 hi0 hl0; have := hnn i0 hi0; omega
    -- all of Z was lost
    have key : ∀ r j, j < G.n → rk j < r → lo' j → num j = num m → False := by
      intro r
      induction r with
      | zero => intro j _ h1 _ _; omega
      | succ r ih =>
        intro j hj hr hl hjm
        have hlo : ¬ lo j := fun h => by have := V.lost j hj h; omega
        have ht := L'.ntg j hj hl
        have hU : G.U lo j := ⟨hj, hlo, ht⟩
        have hcc : 0 < G.cc j := by
          by_cases hmx : G.mx j
          · have := (L.dmx j hU hmx).1; omega
          · exact (L.dmn j hU hmx).1
        have step : ∀ k, k < G.cc j → G.down lo rk j k → (∀ b, b < G.nb j k → lo' (G.to j k b)) → G.wo j k * num j ≤ G.S j k num → False := by
          intro k hk hdn hbr hav
          obtain ⟨_, b, hb, hlb, hrb⟩ := hdn
          have h1 := Gd.avg W hj hk (h := num) (m := num m) (fun c hc => hle _ (W.lt _ _ _ hj hk hc) (hbr c hc)) (by rw [← hjm]; exact hav) hb
          exact ih _ (W.lt _ _ _ hj hk hb) (by omega) (hbr b hb) h1
        rcases L'.stay j hj hl with h1 | ⟨hmx, h1⟩ | ⟨hmn, k, hk, hal, h1⟩
        · omega
        · have hk := (hpk' j hj hcc).1
          rcases hsw j hj hmx hcc with h2 | h2
          · refine step (pk' j) hk ?_ h1 (hmax j hj ht hmx hcc)
            rw [h2]; exact L.dmx j hU hmx
          · have h3 : G.S j (pk' j) num ≤ G.S j (pk' j) (fun _ => num m) := Gd.S_le' W hj hk (fun c hc => hle _ (W.lt _ _ _ hj hk hc) (h1 c hc))
            rw [Gd.S_const, ← hjm] at h3; omega
        · exact step k hk ((L.dmn j hU hmn).2 k hk hal) h1 (hmin j k hj ht hmn hk hal)
    exact key (rk m + 1) m hm (by omega) hml rfl
  have hd' := L'.dn hq' he'
  have hge : ∀ i, G.U lo' i → G.wo i (q' i) * num i ≤ G.S i (q' i) num := fun i hu => by
    have hcc : 0 < G.cc i := by have := (hd' i hu).1; omega
    by_cases hmx : G.mx i
    · rw [← he' i hu.1 hmx]; exact hmax i hu.1 hu.2.2 hmx hcc
    · exact hmin i _ hu.1 hu.2.2 hmx (hq' i hu.1 hcc).1 (hq' i hu.1 hcc).2
  have h1 := Gd.maxp W hd' (h := fun j => num j * com' - num' j * com) (fun i hi hu => by
    rcases Gd.nU hi hu with h | h
    · show num i * com' - num' i * com ≤ 0; rw [hz i hi h, V'.lost i hi h]; simp
    · show num i * com' - num' i * com ≤ 0; rw [V.tgt i hi h, V'.tgt i hi h, Int.mul_comm]; omega) (fun i hu => by
    rw [Gd.S_lin, ← V'.eqn i hu]
    have := Int.mul_le_mul_of_nonneg_right (hge i hu) (Int.le_of_lt hp')
    show G.wo i (q' i) * (num i * com' - num' i * com) ≤ _
    rw [Int.mul_sub, ← Int.mul_assoc, ← Int.mul_assoc]; omega)
  refine ⟨fun i hi => by have := h1 i hi; omega, fun i hi hmx hcc hs => ?_⟩
  have hk := (hpk' i hi hcc).1
  have ht : ¬ G.tg i := fun h => by have := W.tgc i hi h; omega
  by_cases hl : lo' i
  · exfalso
    rcases L'.stay i hi hl with h2 | ⟨_, h2⟩ | ⟨h2, _⟩
    · omega
    · have h3 : G.S i (pk' i) num ≤ G.S i (pk' i) (fun _ => 0) := Gd.S_le' W hi hk (fun c hc => by rw [hz _ (W.lt _ _ _ hi hk hc) (h2 c hc)]; exact Int.le_refl _)
      rw [Gd.S_const, Int.mul_zero] at h3
      rw [hz i hi hl, Int.mul_zero] at hs; omega
    · exact h2 hmx
  · have hu : G.U lo' i := ⟨hi, hl, ht⟩
    have hqe := he' i hi hmx
    rw [hqe] at hs hk
    obtain ⟨_, b, hb, _, _⟩ := hd' i hu
    have hw := Gd.wo_pos W hi hk hb
    have h2 : G.S i (q' i) (fun j => num j * com' - num' j * com) ≤ G.S i (q' i) (fun _ => 0) := Gd.S_le W hi hk h1
    rw [Gd.S_const, Gd.S_lin, ← V'.eqn i hu, Int.mul_zero] at h2
    have h3 := Int.mul_lt_mul_of_pos_right hs hp'
    have h4 : G.wo i (q' i) * (num i * com' - num' i * com) < 0 := by
      rw [Int.mul_sub, ← Int.mul_assoc, ← Int.mul_assoc]; omega
    have h5 : num i * com' - num' i * com < 0 := by
      apply Classical.byContradiction; intro hne
      have := Int.mul_nonneg (Int.le_of_lt hw) (show 0 ≤ num i * com' - num' i * com by omega)
      omega
    omega
end GdS
end Pu_B
section Pu_C
/-! The reference's determinant. -/
def ex1 (c : Nat) (M M' : fm_M) : Prop := ∀ a, a ≠ c → M' a = M a
theorem ex1.rfl {c : Nat} {M : fm_M} : ex1 c M M := fun _ _ => Eq.refl _
theorem ex1.u {c p : Nat} {v : Int} {M M' : fm_M} (h : ex1 c M M') : ex1 c M (fm_u M' c p v) := fun a ha => by
  rw [← h a ha]; funext b; unfold fm_u; rw [if_neg (fun h => ha h.1)]
theorem ex1.tr {c : Nat} {M M' M'' : fm_M} (h : ex1 c M M') (h2 : ex1 c M' M'') : ex1 c M M'' := fun a ha => by rw [h2 a ha, h a ha]
theorem fu_at (M : fm_M) (k p x : Nat) (v : Int) : fm_u M k p v k x = if x = p then v else M k x := by
  unfold fm_u; by_cases h : x = p
  · rw [if_pos ⟨rfl, h⟩, if_pos h]
  · rw [if_neg (fun h2 => h h2.2), if_neg h]
theorem fu_off (M : fm_M) {k a : Nat} (p : Nat) (v : Int) (h : a ≠ k) : fm_u M k p v a = M a := by
  funext b; unfold fm_u; rw [if_neg (fun h2 => h h2.1)]
theorem ix8 (p j : Nat) : ((8 * (p : Int)) + (j : Int)).toNat = 8 * p + j := by omega
theorem ix9 (p j : Nat) : ((9 * (p : Int)) + (j : Int)).toNat = 9 * p + j := by omega
theorem rg_small {x : Int} (h : -1000000 ≤ x ∧ x ≤ 1000000) : rg x := ⟨by omega, by omega⟩
theorem det_241 (a1 : Int) (post : Int → fm_M → Prop) (thr : String → fm_M → Prop) (J72 : fm_M → Int → Int → Int → Prop) (J226 : fm_M → Int → Int → Int → Int → Prop) (M : fm_M) (last turned : Int) (k r n : Nat) (hn : M 331 34 = n) (hkr : k < r) (hrn : r < n) (hn8 : n ≤ 8)
    (hl : rl last) (hl0 : last ≠ 0) (hv : ∀ c, k < c → c < n → rl (M 357 (8 * k + k) * M 357 (8 * r + c) - M 357 (8 * r + k) * M 357 (8 * k + c)))
    (hJ : ∀ M', ex1 357 M M' → (∀ x, M' 357 x = if x = 8 * r + k then 0 else if 8 * r + k < x ∧ x < 8 * r + n then (M 357 (8 * k + k) * M 357 x - M 357 (8 * r + k) * M 357 (8 * k + (x - 8 * r))).tdiv last else M 357 x) → J226 M' last turned k ((r : Int) + 1)) : B_Mo_determinant_241 a1 post thr J72 J226 M last turned k r ((k : Int) + 1) := by
  refine ⟨fun M' v2 v4 v6 v8 v9 => v2 = last ∧ v4 = turned ∧ v6 = k ∧ v8 = r ∧ ∃ j : Nat, v9 = j ∧ k < j ∧ j ≤ n ∧ ex1 357 M M' ∧ ∀ x, M' 357 x = if 8 * r + k < x ∧ x < 8 * r + j then (M 357 (8 * k + k) * M 357 x - M 357 (8 * r + k) * M 357 (8 * k + (x - 8 * r))).tdiv last else M 357 x, fun _ _ _ _ _ v9 => ((n : Int) - v9).toNat, ?_, ?_⟩
  · exact ⟨rfl, rfl, rfl, rfl, k + 1, by omega, by omega, by omega, ex1.rfl, fun x => by rw [if_neg (by omega)]⟩
  · rintro M' v2 v4 v6 v8 v9 ⟨rfl, rfl, rfl, rfl, j, rfl, hkj, hjn, hx, hM⟩
    have hn' : M' 331 34 = n := by rw [hx 331 (by decide)]; exact hn
    unfold C_Mo_determinant_241
    rw [hn']
    refine ⟨rg_small (by omega), rg_small (by omega), fun h => ⟨by omega, fun M2 hM2 => ?_⟩, fun h => ⟨by omega, by omega, by omega, by omega, ?_⟩⟩
    · have hj : j = n := by omega
      subst hj
      rw [ix8] at hM2
      refine hJ M2 (by rw [hM2]; exact hx.u) (fun x => ?_)
      rw [hM2, fu_at, hM]
    · have e1 : M' 357 (8 * k + k) = M 357 (8 * k + k) := by rw [hM, if_neg (by omega)]
      have e2 : M' 357 (8 * r + j) = M 357 (8 * r + j) := by rw [hM, if_neg (by omega)]
      have e3 : M' 357 (8 * r + k) = M 357 (8 * r + k) := by rw [hM, if_neg (by omega)]
      have e4 : M' 357 (8 * k + j) = M 357 (8 * k + j) := by rw [hM, if_neg (by omega)]
      rw [ix8, ix8, ix8, ix8, e1, e2, e3, e4]
      refine ⟨hv j hkj (by omega), hl, hl0, fun M2 hM2 => ⟨⟨rfl, rfl, rfl, rfl, j + 1, by omega, by omega, by omega, by rw [hM2]; exact hx.u, fun x => ?_⟩, by dsimp only; omega⟩⟩
      rw [hM2, fu_at, hM]
      by_cases h1 : x = 8 * r + j
      · subst h1; rw [if_pos rfl, if_pos (by omega), show 8 * r + j - 8 * r = j by omega]
      · rw [if_neg h1]
        by_cases h2 : 8 * r + k < x ∧ x < 8 * r + j
        · rw [if_pos h2, if_pos (by omega)]
        · rw [if_neg h2, if_neg (by omega)]
/-- what step k leaves in the work's rows -/
def stepW (W : Nat → Nat → Int) (last : Int) (k n r : Nat) (i c : Nat) : Int := if k < i ∧ i < r then (if c = k then 0 else if k < c then (W k k * W i c - W i k * W k c).tdiv last else W i c) else W i c
theorem det_226 (a1 : Int) (post : Int → fm_M → Prop) (thr : String → fm_M → Prop) (J72 : fm_M → Int → Int → Int → Prop) (M : fm_M) (last turned : Int) (k n : Nat) (hn : M 331 34 = n) (hkn : k < n) (hn8 : n ≤ 8)
    (W : Nat → Nat → Int) (hW : ∀ i c, i < n → c < n → M 357 (8 * i + c) = W i c)
    (hl : rl last) (hl0 : last ≠ 0) (hv : ∀ r c, k < r → r < n → k < c → c < n → rl (W k k * W r c - W r k * W k c))
    (hJ : ∀ M', ex1 357 M M' → (∀ i c, i < n → c < n → M' 357 (8 * i + c) = stepW W last k n n i c) → J72 M' (W k k) turned ((k : Int) + 1)) : B_Mo_determinant_226 a1 post thr J72 M last turned k ((k : Int) + 1) := by
  refine ⟨fun M' v2 v4 v6 v8 => v2 = last ∧ v4 = turned ∧ v6 = k ∧ ∃ r : Nat, v8 = r ∧ k < r ∧ r ≤ n ∧ ex1 357 M M' ∧ ∀ i c, i < n → c < n → M' 357 (8 * i + c) = stepW W last k n r i c, fun _ _ _ _ v8 => ((n : Int) - v8).toNat, ?_, ?_⟩
  · exact ⟨rfl, rfl, rfl, k + 1, by omega, by omega, by omega, ex1.rfl, fun i c hi hc => by unfold stepW; rw [if_neg (by omega)]; exact hW i c hi hc⟩
  · rintro M' v2 v4 v6 v8 ⟨rfl, rfl, rfl, r, rfl, hkr, hrn, hx, hM⟩
    have hn' : M' 331 34 = n := by rw [hx 331 (by decide)]; exact hn
    unfold C_Mo_determinant_226
    rw [hn']
    refine ⟨rg_small (by omega), rg_small (by omega), fun h => ⟨by omega, ?_⟩, fun h => ?_⟩
    · have hr : r = n := by omega
      subst hr
      have := hJ M' hx hM
      rw [ix8, hM k k (by omega) (by omega)]
      unfold stepW
      rw [if_neg (by omega)]; exact this
    · have hW1 : ∀ c, c < n → M' 357 (8 * k + c) = W k c := fun c hc => by rw [hM k c (by omega) hc]; unfold stepW; rw [if_neg (by omega)]
      have hW2 : ∀ c, c < n → M' 357 (8 * r + c) = W r c := fun c hc => by rw [hM r c (by omega) hc]; unfold stepW; rw [if_neg (by omega)]
      refine det_241 a1 post thr J72 _ M' v2 v4 k r n hn' hkr (by omega) hn8 hl hl0 (fun c h1 h2 => by rw [hW1 k (by omega), hW1 c h2, hW2 c h2, hW2 k (by omega)]; exact hv r c hkr (by omega) h1 h2) (fun M2 hx2 hM2 => ⟨⟨rfl, rfl, rfl, r + 1, by omega, by omega, by omega, hx.tr hx2, fun i c hi hc => ?_⟩, by dsimp only; omega⟩)
      rw [hM2]
      by_cases e : i = r
      · subst e
        unfold stepW
        rw [if_pos (show k < i ∧ i < i + 1 by omega)]
        by_cases e2 : c = k
        · subst e2; rw [if_pos rfl, if_pos rfl]
        · rw [if_neg (by omega), if_neg e2]
          by_cases e3 : k < c
          · rw [if_pos (by omega), if_pos e3, show 8 * i + c - 8 * i = c by omega, hW1 k (by omega), hW1 c hc, hW2 c hc, hW2 k (by omega)]
          · rw [if_neg (by omega), if_neg e3, hW2 c hc]
      · rw [if_neg (by omega), if_neg (by omega), hM i c hi hc]
        unfold stepW
        by_cases e2 : k < i ∧ i < r
        · rw [if_pos e2, if_pos (show k < i ∧ i < r + 1 by omega)]
        · rw [if_neg e2, if_neg (show ¬ (k < i ∧ i < r + 1) by omega)]
theorem det_149 (a1 : Int) (post : Int → fm_M → Prop) (thr : String → fm_M → Prop) (J72 : fm_M → Int → Int → Int → Prop) (M : fm_M) (last turned : Int) (k p n : Nat) (hn : M 331 34 = n) (hkp : k ≤ p) (hpn : p < n) (hn8 : n ≤ 8)
    (W : Nat → Nat → Int) (hW : ∀ i c, i < n → c < n → M 357 (8 * i + c) = W i c)
    (hJ : ∀ M', ex1 357 M M' → (∀ i c, i < n → c < n → M' 357 (8 * i + c) = sw W k p i c) → B_Mo_determinant_226 a1 post thr J72 M' last turned k ((k : Int) + 1)) : B_Mo_determinant_149 a1 post thr J72 M last turned k p 0 := by
  refine ⟨fun M' v2 v4 v6 v7 v8 => v2 = last ∧ v4 = turned ∧ v6 = k ∧ v7 = p ∧ ∃ j : Nat, v8 = j ∧ j ≤ n ∧ ex1 357 M M' ∧ ∀ i c, i < n → c < n → M' 357 (8 * i + c) = if c < j then sw W k p i c else W i c, fun _ _ _ _ _ v8 => ((n : Int) - v8).toNat, ?_, ?_⟩
  · exact ⟨rfl, rfl, rfl, rfl, 0, rfl, by omega, ex1.rfl, fun i c hi hc => by rw [if_neg (by omega)]; exact hW i c hi hc⟩
  · rintro M' v2 v4 v6 v7 v8 ⟨rfl, rfl, rfl, rfl, j, rfl, hjn, hx, hM⟩
    have hn' : M' 331 34 = n := by rw [hx 331 (by decide)]; exact hn
    unfold C_Mo_determinant_149
    rw [hn']
    refine ⟨rg_small (by omega), rg_small (by omega), fun h => ?_, fun h => ⟨by omega, by omega, fun M1 h1 M2 h2 => ⟨⟨rfl, rfl, rfl, rfl, j + 1, by omega, by omega, ?_, fun i c hi hc => ?_⟩, by dsimp only; omega⟩⟩⟩
    · have hj : j = n := by omega
      subst hj
      exact hJ M' hx (fun i c hi hc => by rw [hM i c hi hc, if_pos hc])
    · rw [h2, h1]; exact hx.u.u
    · rw [h2, ix8, ix8, fu_at, h1, ix8, ix8, fu_at, hM p j hpn (by omega), hM k j (by omega) (by omega), hM i c hi hc, if_neg (Nat.lt_irrefl j), if_neg (Nat.lt_irrefl j)]
      unfold sw
      by_cases e1 : c = j
      · subst e1
        rw [if_pos (show c < c + 1 by omega), if_neg (Nat.lt_irrefl c)]
        by_cases e2 : i = k
        · subst e2; rw [if_pos rfl, if_pos rfl]
        · rw [if_neg (by omega), if_neg e2]
          by_cases e3 : i = p
          · subst e3; rw [if_pos rfl, if_pos rfl]
          · rw [if_neg (by omega), if_neg e3]
      · rw [if_neg (by omega), if_neg (by omega)]
        by_cases e4 : c < j
        · rw [if_pos e4, if_pos (show c < j + 1 by omega)]
        · rw [if_neg e4, if_neg (show ¬ c < j + 1 by omega)]
/-- the search for a pivot -/
theorem det_85 (a1 : Int) (post : Int → fm_M → Prop) (thr : String → fm_M → Prop) (J72 : fm_M → Int → Int → Int → Prop) (M : fm_M) (last turned : Int) (k n : Nat) (hn : M 331 34 = n) (hkn : k < n) (hn8 : n ≤ 8)
    (hr : ∀ i, k ≤ i → i < n → rl (M 357 (8 * i + k)))
    (h0 : (∀ i, k ≤ i → i < n → M 357 (8 * i + k) = 0) → post 0 M)
    (h1 : ∀ p, k ≤ p → p < n → M 357 (8 * p + k) ≠ 0 → B_Mo_determinant_149 a1 post thr J72 M last (if p = k then turned else - turned) k p 0) : B_Mo_determinant_85 a1 post thr J72 M last turned k k := by
  refine ⟨fun M' v2 v4 v6 v7 => M' = M ∧ v2 = last ∧ v4 = turned ∧ v6 = k ∧ ∃ p : Nat, v7 = p ∧ k ≤ p ∧ p ≤ n ∧ ∀ i, k ≤ i → i < p → M 357 (8 * i + k) = 0, fun _ _ _ _ v7 => ((n : Int) - v7).toNat, ?_, ?_⟩
  · exact ⟨rfl, rfl, rfl, rfl, k, rfl, Nat.le_refl _, by omega, fun i _ _ => by omega⟩
  · rintro M' v2 v4 v6 v7 ⟨rfl, rfl, rfl, rfl, p, rfl, hkp, hpn, hz⟩
    have fin : (p < n → M' 357 (8 * p + k) ≠ 0) → B_Mo_determinant_118 a1 post thr J72 M' v2 v4 k p := by
      intro hp
      unfold B_Mo_determinant_118
      rw [hn]
      refine ⟨rg_small (by omega), rg_small (by omega), fun h => ⟨rg_small (by omega), fun h2 => ?_, fun h2 => ?_⟩, fun h => ?_⟩
      · have := h1 p hkp (by omega) (hp (by omega))
        rw [if_neg (by omega)] at this
        unfold B_Mo_determinant_144; exact this
      · have := h1 p hkp (by omega) (hp (by omega))
        rw [if_pos (by omega)] at this
        unfold B_Mo_determinant_144; exact this
      · exact h0 (fun i a b => hz i a (by omega))
    unfold C_Mo_determinant_85
    rw [hn]
    refine ⟨rg_small (by omega), rg_small (by omega), fun h => fin (fun h2 => by omega), fun h => ⟨by omega, ?_, fun h2 => ?_, fun h2 => ?_⟩⟩
    · rw [ix8]; exact hr p hkp (by omega)
    · rw [ix8] at h2
      exact fin (fun _ h3 => h2 (by rw [h3]; decide))
    · rw [ix8] at h2
      refine ⟨⟨rfl, rfl, rfl, rfl, p + 1, by omega, by omega, by omega, fun i a b => ?_⟩, by dsimp only; omega⟩
      by_cases e : i = p
      · subst e
        unfold jcmp at h2
        by_cases e1 : (0 : Int) < M' 357 (8 * i + k)
        · rw [if_pos e1] at h2; omega
        · rw [if_neg e1] at h2
          by_cases e2 : M' 357 (8 * i + k) = 0
          · exact e2
          · rw [if_neg e2] at h2; omega
      · exact hz i a (by omega)

theorem p12 : (12 : Int) ^ 8 = 429981696 := by decide
theorem pow_le8 {k : Nat} (h : k ≤ 8) : (12 : Int) ^ k ≤ 429981696 := by
  have : k = 0 ∨ k = 1 ∨ k = 2 ∨ k = 3 ∨ k = 4 ∨ k = 5 ∨ k = 6 ∨ k = 7 ∨ k = 8 := by omega
  rcases this with h | h | h | h | h | h | h | h | h <;> subst h <;> decide
theorem rl_prod {a b c d : Int} (ha : ab a ≤ 429981696) (hb : ab b ≤ 429981696) (hc : ab c ≤ 429981696) (hd : ab d ≤ 429981696) : rl (a * b - c * d) := by
  have h1 : ab (a * b) ≤ 429981696 * 429981696 := by rw [ab_mul]; exact Int.mul_le_mul ha hb (ab_nn _) (by decide)
  have h2 : ab (c * d) ≤ 429981696 * 429981696 := by rw [ab_mul]; exact Int.mul_le_mul hc hd (ab_nn _) (by decide)
  rw [ab_le] at h1 h2
  exact ⟨by omega, by omega⟩
theorem rl_ab {a : Int} (ha : ab a ≤ 429981696) : rl a := by
  rw [ab_le] at ha; exact ⟨by omega, by omega⟩
def nrm (n : Nat) (A : Nat → Nat → Int) : Prop := ∀ r, r < n → sm n (fun c => ab (A r c)) ≤ 12
theorem minor_bound {n k i j : Nat} {A : Nat → Nat → Int} (h : nrm n A) (hn8 : n ≤ 8) (hk : k < n) (hi : i < n) (hj : k ≤ j) (hjn : j < n) : ab (dt (k + 1) (bd A k i j)) ≤ 429981696 := by
  refine Int.le_trans (dt_bound (b := 12) (by decide) (fun r hr => ?_)) (pow_le8 (by omega))
  refine Int.le_trans (sm_sel (f := fun c => ab (A (if r < k then r else i) c)) (fun _ _ => ab_nn _) hj hjn) (h _ (by split <;> omega))
theorem lead_bound {n k : Nat} {A : Nat → Nat → Int} (h : nrm n A) (hn8 : n ≤ 8) (hk : k ≤ n) : ab (dt k A) ≤ 429981696 := by
  refine Int.le_trans (dt_bound (b := 12) (by decide) (fun r hr => ?_)) (pow_le8 (by omega))
  exact Int.le_trans (sm_mono (f := fun c => ab (A r c)) (fun _ _ => ab_nn _) hk) (h r (by omega))
theorem nrm_sw {n k p : Nat} {A : Nat → Nat → Int} (h : nrm n A) (hk : k < n) (hp : p < n) : nrm n (sw A k p) := fun r hr => h _ (by split; omega; split <;> omega)
theorem det_72 (a1 : Int) (post : Int → fm_M → Prop) (thr : String → fm_M → Prop) (M0 M : fm_M) (n : Nat) (hn : M0 331 34 = n) (hn8 : n ≤ 8) (A : Nat → Nat → Int) (hA : nrm n A) (hx : ex1 357 M0 M) (hM : ∀ i c, i < n → c < n → M 357 (8 * i + c) = A i c)
    (hp : ∀ M', ex1 357 M0 M' → post (dt n A) M') : B_Mo_determinant_72 a1 post thr M 1 1 0 := by
  refine ⟨fun M' v2 v4 v6 => ∃ k : Nat, v6 = k ∧ k ≤ n ∧ ex1 357 M0 M' ∧ (v4 = 1 ∨ v4 = -1) ∧ ∃ A' W : Nat → Nat → Int, nrm n A' ∧ dt n A' = v4 * dt n A ∧ (∀ i c, i < n → c < n → M' 357 (8 * i + c) = W i c) ∧ elim n A' W v2 k, fun _ _ _ v6 => ((n : Int) - v6).toNat, ?_, ?_⟩
  · exact ⟨0, rfl, by omega, hx, Or.inl rfl, A, A, hA, by omega, hM, elim_zero n A⟩
  · rintro M' last turned v6 ⟨k, rfl, hkn, hx', ht, A', W, hA', hd, hW, E⟩
    have hn' : M' 331 34 = n := by rw [hx' 331 (by decide)]; exact hn
    unfold C_Mo_determinant_72
    rw [hn']
    refine ⟨rg_small (by omega), rg_small (by omega), fun h => ?_, fun h => ?_⟩
    · have hk : k = n := by omega
      subst hk
      have e : turned * last = dt k A := by
        rw [E.lead, hd]
        rcases ht with h | h <;> rw [h] <;> omega
      rw [e]; exact hp M' hx'
    · have hk : k < n := by omega
      have hlb : ab last ≤ 429981696 := by rw [E.lead]; exact lead_bound hA' hn8 hkn
      have hWb : ∀ i j, k ≤ i → i < n → k ≤ j → j < n → ab (W i j) ≤ 429981696 := fun i j h1 h2 h3 h4 => by
        rw [elim_minor E h1 h2 h3 h4]; exact minor_bound hA' hn8 hk h2 h3 h4
      refine det_85 a1 post thr _ M' last turned k n hn' hk hn8 (fun i h1 h2 => by rw [hW i k h2 hk]; exact rl_ab (hWb i k h1 h2 (Nat.le_refl _) hk)) (fun hz => ?_) (fun p h1 h2 h3 => ?_)
      · have e := elim_none E hk (fun i h1 h2 => by rw [← hW i k h2 hk]; exact hz i h1 h2)
        rw [hd] at e
        have e2 : dt n A = 0 := by rcases ht with h | h <;> rw [h] at e <;> omega
        rw [← e2]; exact hp M' hx'
      · refine det_149 a1 post thr _ M' last _ k p n hn' h1 h2 hn8 W hW (fun M1 hx1 hM1 => ?_)
        have hn1 : M1 331 34 = n := by rw [hx1 331 (by decide)]; exact hn'
        have E1 := elim_sw E h1 h2
        have hb1 : ∀ i j, k ≤ i → i < n → k ≤ j → j < n → ab (sw W k p i j) ≤ 429981696 := fun i j a b c d => hWb _ j (by split; omega; split <;> omega) (by split; omega; split <;> omega) c d
        have hpv : sw W k p k k ≠ 0 := by
          unfold sw; rw [if_pos rfl]; intro h4; exact h3 (by rw [hW p k h2 hk]; exact h4)
        refine det_226 a1 post thr _ M1 last _ k n hn1 hk hn8 (sw W k p) hM1 (rl_ab hlb) E.nz (fun r c a b c' d => rl_prod (hb1 k k (by omega) hk (by omega) hk) (hb1 r c (by omega) b (by omega) d) (hb1 r k (by omega) b (by omega) hk) (hb1 k c (by omega) hk (by omega) d)) (fun M2 hx2 hM2 => ?_)
        refine ⟨⟨k + 1, by omega, by omega, (hx'.tr hx1).tr hx2, ?_, sw A' k p, stepW (sw W k p) last k n n, nrm_sw hA' hk h2, ?_, hM2, elim_next E1 hk hpv (fun i j a b c d => ?_)⟩, by dsimp only; omega⟩
        · by_cases e : p = k
          · rw [if_pos e]; exact ht
          · rw [if_neg e]; rcases ht with h | h <;> rw [h]
            · exact Or.inr rfl
            · exact Or.inl rfl
        · by_cases e : p = k
          · subst e
            have : sw A' p p = A' := by funext r c; unfold sw; congr 1; split
                                        · next h => exact h.symm
                                        · rfl
            rw [this, if_pos rfl]; exact hd
          · rw [dt_sw hk h2 (fun h => e h.symm), if_neg e, hd, Int.neg_mul]
        · unfold stepW
          rw [if_pos ⟨a, b⟩, if_neg (by omega), if_pos c, elim_div E1 a b c d, Int.mul_tdiv_cancel_left _ E.nz]
theorem spec_det (M : fm_M) (a1 : Int) (post : Int → fm_M → Prop) (thr : String → fm_M → Prop) (n : Nat) (hn : M 331 34 = n) (hn8 : n ≤ 8) (ha : rg a1) (A : Nat → Nat → Int) (hA : nrm n A) (hM : ∀ i c, i < n → c < n → A i c = if (c : Int) = a1 then M 356 (9 * i + 8) else M 356 (9 * i + c))
    (hp : ∀ M', ex1 357 M M' → post (dt n A) M') : wp_Mo_determinant M a1 post thr := by
  unfold wp_Mo_determinant
  refine ⟨fun M' v2 => ∃ r : Nat, v2 = r ∧ r ≤ n ∧ ex1 357 M M' ∧ ∀ i c, i < r → c < n → M' 357 (8 * i + c) = A i c, fun _ v2 => ((n : Int) - v2).toNat, ⟨0, rfl, by omega, ex1.rfl, fun i c h _ => by omega⟩, ?_⟩
  rintro M' v2 ⟨r, rfl, hrn, hx, hW⟩
  have hn' : M' 331 34 = n := by rw [hx 331 (by decide)]; exact hn
  unfold C_Mo_determinant_2
  rw [hn']
  refine ⟨rg_small (by omega), rg_small (by omega), fun h => ?_, fun h => ?_⟩
  · have hr : r = n := by omega
    subst hr
    exact det_72 a1 post thr M M' r hn hn8 A hA hx hW hp
  · refine ⟨fun M'' v2 v3 => v2 = (r : Int) ∧ ∃ k : Nat, v3 = k ∧ k ≤ n ∧ ex1 357 M M'' ∧ (∀ i c, i < r → c < n → M'' 357 (8 * i + c) = A i c) ∧ ∀ c, c < k → M'' 357 (8 * r + c) = A r c, fun _ _ v3 => ((n : Int) - v3).toNat, ⟨rfl, 0, rfl, by omega, hx, hW, fun c h => by omega⟩, ?_⟩
    rintro M2 v2 v3 ⟨rfl, k, rfl, hkn, hx2, h1, h2⟩
    have hn2 : M2 331 34 = n := by rw [hx2 331 (by decide)]; exact hn
    have fin : ∀ s0 : Int, 0 ≤ s0 → s0 ≤ 8 → k < n → M2 356 (9 * r + s0.toNat) = A r k → B_Mo_determinant_49 a1 post thr (fun M'_1 v2' => (∃ r : Nat, v2' = r ∧ r ≤ n ∧ ex1 357 M M'_1 ∧ ∀ i c, i < r → c < n → M'_1 357 (8 * i + c) = A i c) ∧ ((n : Int) - v2').toNat < ((n : Int) - (r : Int)).toNat) (fun M''_1 v2' v3' => (v2' = (r : Int) ∧ ∃ k : Nat, v3' = k ∧ k ≤ n ∧ ex1 357 M M''_1 ∧ (∀ i c, i < r → c < n → M''_1 357 (8 * i + c) = A i c) ∧ ∀ c, c < k → M''_1 357 (8 * r + c) = A r c) ∧ ((n : Int) - v3').toNat < ((n : Int) - (k : Int)).toNat) M2 r k s0 (9 * (r : Int)) ((8 * (r : Int)) + k) := by
      intro s0 hs0 hs8 hk he
      unfold B_Mo_determinant_49
      refine ⟨by omega, by omega, fun M3 hM3 => ⟨⟨rfl, k + 1, by omega, by omega, by rw [hM3]; exact hx2.u, fun i c hi hc => ?_, fun c hc => ?_⟩, by omega⟩⟩
      · rw [hM3, ix8, fu_at, if_neg (by omega)]; exact h1 i c hi hc
      · rw [hM3, ix8, fu_at, show (9 * (r : Int) + s0).toNat = 9 * r + s0.toNat by omega, he]
        by_cases e : c = k
        · subst e; rw [if_pos rfl]
        · rw [if_neg (by omega)]; exact h2 c (by omega)
    unfold C_Mo_determinant_12
    rw [hn2]
    refine ⟨rg_small (by omega), rg_small (by omega), fun h3 => ⟨⟨r + 1, by omega, by omega, hx2, fun i c hi hc => ?_⟩, by dsimp only; omega⟩, fun h3 => ⟨ha, fun h4 => fin k (by omega) (by omega) (by omega) ?_, fun h4 => fin 8 (by omega) (by omega) (by omega) ?_⟩⟩
    · by_cases e : i = r
      · subst e; exact h2 c (by omega)
      · exact h1 i c (by omega) hc
    · rw [hM r k (by omega) (by omega), if_neg h4, hx2 356 (by decide)]; rfl
    · rw [hM r k (by omega) (by omega), if_pos h4, hx2 356 (by decide)]; rfl
end Pu_C
