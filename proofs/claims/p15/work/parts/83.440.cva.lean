set_option maxRecDepth 10000
section Pu_cva
/-! The class's game, and what is drawn to a goal. -/
/-- the game as the class keeps it -/
def CV (g m : Nat) (G : Gd) (M : fm_M) : Prop :=
  (VS g m M) ∧
  ((G.n : Int) = M 142 1) ∧
  (G.Wf) ∧
  (∀ i, i < G.n → G.cc i ≤ m) ∧
  (∀ i c, i < G.n → c < 10 → (bt (M 289 i) c ↔ c < G.cc i ∧ G.al i c)) ∧
  (∀ i, i < G.n → (om M i ↔ G.mx i)) ∧
  (∀ i, i < 8 → (bt (M 142 3) i ↔ i < G.n ∧ G.tg i)) ∧
  (∀ i c, i < G.n → c < G.cc i → M (g + (7 + 13 * c)) 3 = G.nb i c) ∧
  (∀ i c, i < G.n → c < G.cc i → M (g + (7 + 13 * c)) 4 = G.wo i c) ∧
  (∀ i c, i < G.n → c < G.cc i → G.wo i c ≤ 6) ∧
  (∀ i c b, i < G.n → c < G.cc i → b < G.nb i c → M (g + (12 + 13 * c + 2 * b)) 1 = G.wt i c b) ∧
  (∀ i c b, i < G.n → c < G.cc i → G.al i c → b < G.nb i c → M (300 + i) (4 * c + b) = G.to i c b) ∧
  (∀ i c, i < G.n → c < G.cc i → G.al i c → bs (M (291 + i) c) 8 ∧ ∀ j, j < 8 → (bt (M (291 + i) c) j ↔ ∃ b, b < G.nb i c ∧ G.to i c b = j)) ∧
  (∀ i, i < G.n → 0 < G.cc i → ∃ c, c < G.cc i ∧ G.al i c) ∧
  (∀ i c, i < G.n → c < G.cc i → 1 ≤ G.nb i c)
theorem CV.vs {g m : Nat} {G : Gd} {M : fm_M} (h_ : CV g m G M) : VS g m M := h_.1
theorem CV.n {g m : Nat} {G : Gd} {M : fm_M} (h_ : CV g m G M) : (G.n : Int) = M 142 1 := h_.2.1
theorem CV.W {g m : Nat} {G : Gd} {M : fm_M} (h_ : CV g m G M) : G.Wf := h_.2.2.1
theorem CV.cc {g m : Nat} {G : Gd} {M : fm_M} (h_ : CV g m G M) : ∀ i, i < G.n → G.cc i ≤ m := h_.2.2.2.1
theorem CV.en {g m : Nat} {G : Gd} {M : fm_M} (h_ : CV g m G M) : ∀ i c, i < G.n → c < 10 → (bt (M 289 i) c ↔ c < G.cc i ∧ G.al i c) := h_.2.2.2.2.1
theorem CV.mx {g m : Nat} {G : Gd} {M : fm_M} (h_ : CV g m G M) : ∀ i, i < G.n → (om M i ↔ G.mx i) := h_.2.2.2.2.2.1
theorem CV.tg {g m : Nat} {G : Gd} {M : fm_M} (h_ : CV g m G M) : ∀ i, i < 8 → (bt (M 142 3) i ↔ i < G.n ∧ G.tg i) := h_.2.2.2.2.2.2.1
theorem CV.nb {g m : Nat} {G : Gd} {M : fm_M} (h_ : CV g m G M) : ∀ i c, i < G.n → c < G.cc i → M (g + (7 + 13 * c)) 3 = G.nb i c := h_.2.2.2.2.2.2.2.1
theorem CV.ws {g m : Nat} {G : Gd} {M : fm_M} (h_ : CV g m G M) : ∀ i c, i < G.n → c < G.cc i → M (g + (7 + 13 * c)) 4 = G.wo i c := h_.2.2.2.2.2.2.2.2.1
theorem CV.w6 {g m : Nat} {G : Gd} {M : fm_M} (h_ : CV g m G M) : ∀ i c, i < G.n → c < G.cc i → G.wo i c ≤ 6 := h_.2.2.2.2.2.2.2.2.2.1
theorem CV.wt {g m : Nat} {G : Gd} {M : fm_M} (h_ : CV g m G M) : ∀ i c b, i < G.n → c < G.cc i → b < G.nb i c → M (g + (12 + 13 * c + 2 * b)) 1 = G.wt i c b := h_.2.2.2.2.2.2.2.2.2.2.1
theorem CV.to {g m : Nat} {G : Gd} {M : fm_M} (h_ : CV g m G M) : ∀ i c b, i < G.n → c < G.cc i → G.al i c → b < G.nb i c → M (300 + i) (4 * c + b) = G.to i c b := h_.2.2.2.2.2.2.2.2.2.2.2.1
theorem CV.ns {g m : Nat} {G : Gd} {M : fm_M} (h_ : CV g m G M) : ∀ i c, i < G.n → c < G.cc i → G.al i c → bs (M (291 + i) c) 8 ∧ ∀ j, j < 8 → (bt (M (291 + i) c) j ↔ ∃ b, b < G.nb i c ∧ G.to i c b = j) := h_.2.2.2.2.2.2.2.2.2.2.2.2.1
theorem CV.ex {g m : Nat} {G : Gd} {M : fm_M} (h_ : CV g m G M) : ∀ i, i < G.n → 0 < G.cc i → ∃ c, c < G.cc i ∧ G.al i c := h_.2.2.2.2.2.2.2.2.2.2.2.2.2.1
theorem CV.n1 {g m : Nat} {G : Gd} {M : fm_M} (h_ : CV g m G M) : ∀ i c, i < G.n → c < G.cc i → 1 ≤ G.nb i c := h_.2.2.2.2.2.2.2.2.2.2.2.2.2.2
section Cv
variable {g m : Nat} {G : Gd} {post : Int → fm_M → Prop} {thr : String → fm_M → Prop}
theorem CV.n8 {M : fm_M} (h : CV g m G M) : G.n ≤ 8 := by
  have a := h.n
  have b := h.vs.fb.cnt
  omega
theorem CV.nbl {M : fm_M} (h : CV g m G M) {i c : Nat} (hi : i < G.n) (hc : c < G.cc i) : G.nb i c ≤ 4 := by
  have a := h.cc i hi
  have b := h.vs.m10
  have := h.vs.g1.cb.g' (brC ⟨c, by omega⟩) (x := 3) (by omega) (by omega)
  have e := h.nb i c hi hc
  have e2 : M (g + (7 + 13 * c)) 3 ≤ 4 := this.2
  omega
theorem CV.wp {M : fm_M} (h : CV g m G M) {i c : Nat} (hi : i < G.n) (hc : c < G.cc i) : 0 < G.wo i c := Gd.wo_pos h.W (b := 0) hi hc (by have := h.n1 i c hi hc; omega)
theorem CV.vf {M M' : fm_M} (h : CV g m G M) (f : vf M M') : CV g m G M' := by
  have hg := h.vs.g1.gg
  have hm := h.vs.m10
  have h8 := h.n8
  have hb := fun i c (hi : i < G.n) (hc : c < G.cc i) => h.nbl hi hc
  refine ⟨h.vs.vf f, by rw [f 142 (by omega)]; exact h.n, h.W, h.cc, by rw [f 289 (by omega)]; exact h.en, fun i hi => ?_, by rw [f 142 (by omega)]; exact h.tg, fun i c hi hc => ?_, fun i c hi hc => ?_, h.w6, fun i c b hi hc hb' => ?_, fun i c b hi hc ha hb' => ?_, fun i c hi hc ha => ?_, h.ex, h.n1⟩
  · rw [← h.mx i hi]
    unfold om
    rw [f 289 (by omega), f 142 (by omega)]
  · have := h.cc i hi
    rw [f _ (by omega)]; exact h.nb i c hi hc
  · have := h.cc i hi
    rw [f _ (by omega)]; exact h.ws i c hi hc
  · have := h.cc i hi
    have := hb i c hi hc
    rw [f _ (by omega)]; exact h.wt i c b hi hc hb'
  · rw [f _ (by omega)]; exact h.to i c b hi hc ha hb'
  · rw [f (291 + i) (by omega)]; exact h.ns i c hi hc ha
theorem CV.vg {M M' : fm_M} (h : CV g m G M) (f : vg M M') : CV g m G M' := h.vf f.vf
/-- a set meets what comes of a choice -/
theorem w_meet {M : fm_M} (h : CV g m G M) {i c : Nat} (hi : i < G.n) (hc : c < G.cc i) (ha : G.al i c) (dr : Int) : ¬ jand (M (291 + i) c) dr = 0 ↔ ∃ b, b < G.nb i c ∧ bt dr (G.to i c b) := by
  obtain ⟨h1, h2⟩ := h.ns i c hi hc ha
  have h8 := h.n8
  have e8 : (2 : Nat) ^ 8 = 256 := by decide
  have hb : 0 ≤ M (291 + i) c ∧ M (291 + i) c < 1024 := by
    have := h1
    unfold bs at this
    rw [e8] at this
    omega
  rw [bt_meet hb]
  constructor
  · intro ⟨k, hk, k1, k2⟩
    have k8 := bs_bt h1 (by decide) hk k1
    obtain ⟨b, b1, b2⟩ := (h2 k k8).mp k1
    exact ⟨b, b1, by rw [b2]; exact k2⟩
  · intro ⟨b, b1, b2⟩
    have hl := h.W.lt i c b hi hc b1
    exact ⟨G.to i c b, by omega, (h2 _ (by omega)).mpr ⟨b, b1, rfl⟩, b2⟩
/-- a state is drawn in -/
def isd (G : Gd) (A : Nat → Nat → Prop) (dr : Int) (i : Nat) : Prop := (G.mx i ∧ ∃ c, c < G.cc i ∧ A i c ∧ ∃ b, b < G.nb i c ∧ bt dr (G.to i c b)) ∨ (¬ G.mx i ∧ (∃ c, c < G.cc i ∧ A i c) ∧ ∀ c, c < G.cc i → A i c → ∃ b, b < G.nb i c ∧ bt dr (G.to i c b))
/-- and leads on -/
def stp (G : Gd) (A : Nat → Nat → Prop) (p : Nat → Int) (dr : Int) (rk : Nat → Nat) (i : Nat) : Prop := 0 < G.cc i ∧ (G.mx i → ∃ c : Nat, p i = c ∧ c < G.cc i ∧ A i c ∧ ∃ b, b < G.nb i c ∧ bt dr (G.to i c b) ∧ rk (G.to i c b) < rk i) ∧ (¬ G.mx i → (∃ c, c < G.cc i ∧ A i c) ∧ ∀ c, c < G.cc i → A i c → ∃ b, b < G.nb i c ∧ bt dr (G.to i c b) ∧ rk (G.to i c b) < rk i)
/-- what is allowed, as a set -/
def alb (G : Gd) (A : Nat → Nat → Prop) (k0 m : Nat) (M : fm_M) : Prop := ∀ i, i < G.n → bs (M (k0 + 1) i) m ∧ (∀ c, c < 10 → (bt (M (k0 + 1) i) c ↔ c < G.cc i ∧ A i c)) ∧ ∀ c, c < G.cc i → A i c → G.al i c
theorem w_can {k0 : Nat} {M : fm_M} (h : CV g m G M) (K : AtOk k0) {A : Nat → Nat → Prop} (hA : alb G A k0 m M) {i : Nat} (hi : i < G.n) {dr : Int} (h0 : ¬ (∃ c, c < G.cc i ∧ A i c ∧ ∃ b, b < G.nb i c ∧ bt dr (G.to i c b)) → post 0 M) (h1 : ∀ c : Nat, c < G.cc i → A i c → (∃ b, b < G.nb i c ∧ bt dr (G.to i c b)) → ∀ M', M' = fm_u M (k0 + 2) i c → post 1 M') : wp_At_canComeNearer M k0 i dr post thr := by
  have h8 := h.n8
  have hm10 := h.vs.m10
  have hcc := h.cc i hi
  have t := tcG h.vs.g1.gg
  obtain ⟨a1, a2, a3⟩ := hA i hi
  refine ⟨fun M' v4 => M' = M ∧ ∃ c : Nat, v4 = c ∧ c ≤ m ∧ ∀ c', c' < c → c' < G.cc i → A i c' → ¬ ∃ b, b < G.nb i c' ∧ bt dr (G.to i c' b), fun _ v4 => (10 - v4).toNat, ⟨rfl, 0, rfl, by omega, fun c' hc' => by omega⟩, ?_⟩
  rintro M' v4 ⟨rfl, c, rfl, hcm, hno⟩
  unfold C_At_canComeNearer_3
  rw [h.vs.g1.gm, h.vs.hm, Int.toNat_natCast, Int.toNat_natCast, show 290 + 1 + i = 291 + i by omega]
  have skip : (c < G.cc i → A i c → ¬ ∃ b, b < G.nb i c ∧ bt dr (G.to i c b)) → ∀ c', c' < c + 1 → c' < G.cc i → A i c' → ¬ ∃ b, b < G.nb i c' ∧ bt dr (G.to i c' b) := fun hh c' hc' => by
    by_cases e : c' = c
    · rw [e]; exact hh
    · exact hno c' (by omega)
  refine ⟨t.1, rg_small (by omega), rg_small (by omega), fun h4 => h0 (fun ⟨c', b1, b2, b3⟩ => hno c' (by omega) b1 b2 b3), fun h4 => ⟨K.t0, K.t1, by omega, x_hasBit (fun hb => ⟨rg_small (by decide), fun _ => ⟨⟨rfl, c + 1, by omega, by omega, skip (fun b1 b2 => absurd ((a2 c (by omega)).mpr ⟨b1, b2⟩) hb)⟩, by dsimp only; omega⟩, fun h => absurd rfl h⟩) (fun hb => ⟨rg_small (by decide), fun h => absurd h (by decide), fun _ => ⟨t291 ⟨i, by omega⟩, by omega, rg_jand _ _, fun hz => ⟨⟨rfl, c + 1, by omega, by omega, skip (fun b1 b2 b3 => (w_meet h hi b1 (a3 c b1 b2) dr).mpr b3 hz)⟩, by dsimp only; omega⟩, fun hz => ⟨K.t2, fun M2 e2 => ?_⟩⟩⟩)⟩⟩
  obtain ⟨b1, b2⟩ := (a2 c (by omega)).mp hb
  exact h1 c b1 b2 ((w_meet h hi b1 (a3 c b1 b2) dr).mp hz) M2 e2
theorem w_must {k0 : Nat} {M : fm_M} (h : CV g m G M) (K : AtOk k0) {A : Nat → Nat → Prop} (hA : alb G A k0 m M) {i : Nat} (hi : i < G.n) {dr : Int} (h0 : ¬ ((∃ c, c < G.cc i ∧ A i c) ∧ ∀ c, c < G.cc i → A i c → ∃ b, b < G.nb i c ∧ bt dr (G.to i c b)) → post 0 M) (h1 : (∃ c, c < G.cc i ∧ A i c) → (∀ c, c < G.cc i → A i c → ∃ b, b < G.nb i c ∧ bt dr (G.to i c b)) → post 1 M) : wp_At_mustComeNearer M k0 i dr post thr := by
  have h8 := h.n8
  have hm10 := h.vs.m10
  have hcc := h.cc i hi
  have t := tcG h.vs.g1.gg
  obtain ⟨a1, a2, a3⟩ := hA i hi
  refine ⟨fun M' v4 => M' = M ∧ ∃ c : Nat, v4 = c ∧ c ≤ m ∧ ∀ c', c' < c → c' < G.cc i → A i c' → ∃ b, b < G.nb i c' ∧ bt dr (G.to i c' b), fun _ v4 => (10 - v4).toNat, ⟨rfl, 0, rfl, by omega, fun c' hc' => by omega⟩, ?_⟩
  rintro M' v4 ⟨rfl, c, rfl, hcm, hall⟩
  unfold C_At_mustComeNearer_3
  rw [h.vs.g1.gm, h.vs.hm, Int.toNat_natCast, Int.toNat_natCast, show 290 + 1 + i = 291 + i by omega]
  have skip : (c < G.cc i → A i c → ∃ b, b < G.nb i c ∧ bt dr (G.to i c b)) → ∀ c', c' < c + 1 → c' < G.cc i → A i c' → ∃ b, b < G.nb i c' ∧ bt dr (G.to i c' b) := fun hh c' hc' => by
    by_cases e : c' = c
    · rw [e]; exact hh
    · exact hall c' (by omega)
  refine ⟨t.1, rg_small (by omega), rg_small (by omega), fun h4 => ⟨K.t0, K.t1, by omega, bs_rg a1 hm10, fun hz => h0 (fun ⟨⟨c', b1, b2⟩, _⟩ => ?_), fun hz => ?_⟩, fun h4 => ⟨K.t0, K.t1, by omega, x_hasBit (fun hb => ⟨rg_small (by decide), fun _ => ⟨⟨rfl, c + 1, by omega, by omega, skip (fun b1 b2 => absurd ((a2 c (by omega)).mpr ⟨b1, b2⟩) hb)⟩, by dsimp only; omega⟩, fun h => absurd rfl h⟩) (fun hb => ⟨rg_small (by decide), fun h => absurd h (by decide), fun _ => ⟨t291 ⟨i, by omega⟩, by omega, rg_jand _ _, fun hz => ⟨⟨rfl, c + 1, by omega, by omega, skip (fun b1 b2 => (w_meet h hi b1 (a3 c b1 b2) dr).mp hz)⟩, by dsimp only; omega⟩, fun hz => h0 (fun ⟨_, hh⟩ => ?_)⟩⟩)⟩⟩
  · have := (a2 c' (by omega)).mpr ⟨b1, b2⟩
    rw [hz] at this
    exact bt_0 ⟨c', by omega⟩ this
  · obtain ⟨k, hk, hb⟩ := bs_ex a1 hm10 hz
    obtain ⟨b1, b2⟩ := (a2 k hk).mp hb
    exact h1 ⟨k, b1, b2⟩ (fun c' d1 d2 => hall c' (by omega) d1 d2)
  · obtain ⟨b1, b2⟩ := (a2 c (by omega)).mp hb
    exact (w_meet h hi b1 (a3 c b1 b2) dr).mpr (hh c b1 b2) hz
/-- what was drawn in -/
def atr (G : Gd) (A : Nat → Nat → Prop) (E : Nat → Prop) (p : Nat → Int) (dr : Int) : Prop := (∀ i, i < 8 → bt dr i → i < G.n) ∧ (∀ i, i < G.n → E i → bt dr i) ∧ ∃ rk : Nat → Nat, ∀ i, i < G.n → bt dr i → ¬ E i → stp G A p dr rk i
def cld (G : Gd) (A : Nat → Nat → Prop) (dr : Int) : Prop := ∀ i, i < G.n → ¬ bt dr i → ¬ isd G A dr i
theorem atr_add {A : Nat → Nat → Prop} {E : Nat → Prop} {p p' : Nat → Int} {dr : Int} (W : G.Wf) (h8 : G.n ≤ 8) (h : atr G A E p dr) {i : Nat} (hi : i < G.n) (hn : ¬ bt dr i) (hp : ∀ j, j ≠ i → p' j = p j) (hd : (G.mx i → ∃ c : Nat, p' i = c ∧ c < G.cc i ∧ A i c ∧ ∃ b, b < G.nb i c ∧ bt dr (G.to i c b)) ∧ (¬ G.mx i → (∃ c, c < G.cc i ∧ A i c) ∧ ∀ c, c < G.cc i → A i c → ∃ b, b < G.nb i c ∧ bt dr (G.to i c b))) : atr G A E p' (jor dr (jshl 1 i)) := by
  obtain ⟨h1, h2, rk, h3⟩ := h
  obtain ⟨R, hR⟩ := rk_bd G.n rk
  have ad : ∀ j, j < 10 → (bt (jor dr (jshl 1 i)) j ↔ bt dr j ∨ j = i) := fun j hj => bt_add' (by omega) hj
  have old : ∀ j, j < G.n → bt dr j → (if j = i then R else rk j) = rk j := fun j _ hb => by
    have : j ≠ i := fun e => hn (by rw [← e]; exact hb)
    rw [if_neg this]
  refine ⟨fun j hj hb => ?_, fun j hj he => (ad j (by omega)).mpr (Or.inl (h2 j hj he)), fun j => if j = i then R else rk j, fun j hj hb he => ?_⟩
  · rcases (ad j (by omega)).mp hb with a | a
    · exact h1 j hj a
    · omega
  · have up : ∀ c b, c < G.cc j → b < G.nb j c → bt dr (G.to j c b) → bt (jor dr (jshl 1 i)) (G.to j c b) := fun c b hc hb' hh => (ad _ (by have := W.lt j c b hj hc hb'; omega)).mpr (Or.inl hh)
    rcases (ad j (by omega)).mp hb with a | a
    · obtain ⟨s1, s2, s3⟩ := h3 j hj a he
      have hne : j ≠ i := fun e => hn (by rw [← e]; exact a)
      refine ⟨s1, fun hm => ?_, fun hm => ⟨(s3 hm).1, fun c hc ha => ?_⟩⟩
      · obtain ⟨c, t0, t1, t2, b, t3, t4, t5⟩ := s2 hm
        rw [hp j hne]
        have hl := W.lt j c b hj t1 t3
        exact ⟨c, t0, t1, t2, b, t3, up _ b t1 t3 t4, by dsimp only; rw [old _ hl t4, if_neg hne]; exact t5⟩
      · obtain ⟨b, t3, t4, t5⟩ := (s3 hm).2 c hc ha
        have hl := W.lt j c b hj hc t3
        exact ⟨b, t3, up c b hc t3 t4, by dsimp only; rw [old _ hl t4, if_neg hne]; exact t5⟩
    · subst a
      refine ⟨?_, fun hm => ?_, fun hm => ⟨(hd.2 hm).1, fun c hc ha => ?_⟩⟩
      · by_cases hm : G.mx j
        · obtain ⟨c, _, hc, _⟩ := hd.1 hm; omega
        · obtain ⟨c, hc, _⟩ := (hd.2 hm).1; omega
      · obtain ⟨c, t0, t1, t2, b, t3, t4⟩ := hd.1 hm
        have hl := W.lt j c b hj t1 t3
        exact ⟨c, t0, t1, t2, b, t3, up _ b t1 t3 t4, by dsimp only; rw [old _ hl t4, if_pos rfl]; exact hR _ hl⟩
      · obtain ⟨b, t3, t4⟩ := (hd.2 hm).2 c hc ha
        have hl := W.lt j c b hj hc t3
        exact ⟨b, t3, up c b hc t3 t4, by dsimp only; rw [old _ hl t4, if_pos rfl]; exact hR _ hl⟩
theorem w_drawnTo {k0 : Nat} {M : fm_M} (h : CV g m G M) (K : AtOk k0) {A : Nat → Nat → Prop} (hA : alb G A k0 m M) {E : Nat → Prop} {goal : Int} (hg : rg goal) (hE : ∀ i, i < 8 → (bt goal i ↔ i < G.n ∧ E i)) (hp : ∀ dr M', ex1 (k0 + 2) M M' → rg dr → atr G A E (M' (k0 + 2)) dr → cld G A dr → post dr M') : wp_At_drawnTo M k0 goal post thr := by
  have h8 := h.n8
  have hn := h.n
  have ha := K.at2
  have hvf : ∀ M', ex1 (k0 + 2) M M' → vf M M' := fun M' hx a hq => hx a (by omega)
  have hA' : ∀ M', ex1 (k0 + 2) M M' → alb G A k0 m M' := fun M' hx => by unfold alb; rw [hx (k0 + 1) (by omega)]; exact hA
  refine ⟨fun M' v3 v4 => ∃ r : Nat, v4 = r ∧ r ≤ G.n ∧ ex1 (k0 + 2) M M' ∧ rg v3 ∧ atr G A E (M' (k0 + 2)) v3 ∧ (cld G A v3 ∨ r ≤ cnt (bt v3) G.n), fun _ _ v4 => ((G.n : Int) - v4).toNat, ⟨0, rfl, by omega, ex1.rfl, hg, ⟨fun i hi hb => ((hE i hi).mp hb).1, fun i hi he => (hE i (by omega)).mpr ⟨hi, he⟩, fun _ => 0, fun i hi hb he => absurd ((hE i (by omega)).mp hb).2 he⟩, Or.inr (Nat.zero_le _)⟩, ?_⟩
  rintro M1 v3 v4 ⟨r, rfl, hrn, hx1, rv, D1, P1⟩
  have n1 : M1 142 1 = G.n := by rw [hx1 142 (by omega), hn]
  unfold C_At_drawnTo_5
  rw [n1]
  refine ⟨rg_small (by omega), rg_small (by omega), fun h4 => hp v3 M1 hx1 rv D1 ?_, fun h4 => ?_⟩
  · rcases P1 with c | c
    · exact c
    · intro i hi hb
      exfalso
      have a := cnt_lt (P := bt v3) (Q := fun x => bt v3 x ∨ x = i) (n := G.n) (j := i) (fun _ _ h => Or.inl h) hi (Or.inr rfl) hb
      have b := cnt_le (fun x => bt v3 x ∨ x = i) G.n
      omega
  generalize hd0 : v3 = dr0 at P1 D1 rv ⊢
  refine ⟨fun M' v3 v4 v5 => v4 = r ∧ ∃ i : Nat, v5 = i ∧ i ≤ G.n ∧ ex1 (k0 + 2) M M' ∧ rg v3 ∧ atr G A E (M' (k0 + 2)) v3 ∧ (r + 1 ≤ cnt (bt v3) G.n ∨ (v3 = dr0 ∧ ∀ j, j < i → ¬ bt dr0 j → ¬ isd G A dr0 j)), fun _ _ _ v5 => ((G.n : Int) - v5).toNat, ⟨rfl, 0, rfl, by omega, hx1, rv, D1, Or.inr ⟨rfl, fun j hj => by omega⟩⟩, ?_⟩
  rintro M2 v3 v4 v5 ⟨rfl, i, rfl, hi, hx2, rv2, D2, P2⟩
  have n2 : M2 142 1 = G.n := by rw [hx2 142 (by omega), hn]
  have h2 := h.vf (hvf M2 hx2)
  have hA2 := hA' M2 hx2
  unfold C_At_drawnTo_17
  rw [n2]
  refine ⟨rg_small (by omega), rg_small (by omega), fun h5 => ⟨⟨r + 1, by omega, by omega, hx2, rv2, D2, ?_⟩, by dsimp only; omega⟩, fun h5 => ?_⟩
  · rcases P2 with c | ⟨c, d⟩
    · exact Or.inr c
    · refine Or.inl (fun j hj => ?_)
      rw [c]; exact d j (by omega)
  have hin : i < G.n := by omega
  have keep : (¬ bt v3 i → ¬ isd G A v3 i) → (fun M'_1 v3' v4' v5' => (v4' = (r : Int) ∧ ∃ i : Nat, v5' = i ∧ i ≤ G.n ∧ ex1 (k0 + 2) M M'_1 ∧ rg v3' ∧ atr G A E (M'_1 (k0 + 2)) v3' ∧ (r + 1 ≤ cnt (bt v3') G.n ∨ (v3' = dr0 ∧ ∀ j, j < i → ¬ bt dr0 j → ¬ isd G A dr0 j))) ∧ ((G.n : Int) - v5').toNat < ((G.n : Int) - (i : Int)).toNat : fm_M → Int → Int → Int → Prop) M2 v3 r ((i : Int) + 1) := fun hh => by
    refine ⟨⟨rfl, i + 1, by omega, by omega, hx2, rv2, D2, ?_⟩, by omega⟩
    rcases P2 with c | ⟨c, d⟩
    · exact Or.inl c
    · refine Or.inr ⟨c, fun j hj => ?_⟩
      by_cases e : j = i
      · rw [e, ← c]; exact hh
      · exact d j (by omega)
  -- one more is drawn in
  have more : ∀ M3 : fm_M, ex1 (k0 + 2) M M3 → (∀ j, j ≠ i → M3 (k0 + 2) j = M2 (k0 + 2) j) → ¬ bt v3 i → isd G A v3 i → ((G.mx i → ∃ c : Nat, M3 (k0 + 2) i = c ∧ c < G.cc i ∧ A i c ∧ ∃ b, b < G.nb i c ∧ bt v3 (G.to i c b)) ∧ (¬ G.mx i → (∃ c, c < G.cc i ∧ A i c) ∧ ∀ c, c < G.cc i → A i c → ∃ b, b < G.nb i c ∧ bt v3 (G.to i c b))) → (fun M'_1 v3' v4' v5' => (v4' = (r : Int) ∧ ∃ i : Nat, v5' = i ∧ i ≤ G.n ∧ ex1 (k0 + 2) M M'_1 ∧ rg v3' ∧ atr G A E (M'_1 (k0 + 2)) v3' ∧ (r + 1 ≤ cnt (bt v3') G.n ∨ (v3' = dr0 ∧ ∀ j, j < i → ¬ bt dr0 j → ¬ isd G A dr0 j))) ∧ ((G.n : Int) - v5').toNat < ((G.n : Int) - (i : Int)).toNat : fm_M → Int → Int → Int → Prop) M3 (jor v3 (jshl 1 i)) r ((i : Int) + 1) := fun M3 hx3 o3 hnb his p3 => by
    refine ⟨⟨rfl, i + 1, by omega, by omega, hx3, rg_jor _ _, atr_add h.W h8 D2 hin hnb o3 p3, Or.inl ?_⟩, by omega⟩
    have lt := cnt_lt (P := bt v3) (Q := bt (jor v3 (jshl 1 i))) (n := G.n) (j := i) (fun e he hb => (bt_add' (by omega) (by omega)).mpr (Or.inl hb)) hin ((bt_add' (by omega) (by omega)).mpr (Or.inr rfl)) hnb
    rcases P2 with c | ⟨c, d⟩
    · omega
    · rcases P1 with q | q
      · rw [c] at hnb his
        exact absurd his (q i hin hnb)
      · rw [← c] at q
        omega
  refine x_hasBit (fun hb => ⟨rg_small (by decide), fun h => absurd rfl h, fun _ => ⟨K.t0, ?_⟩⟩) (fun hb => ⟨rg_small (by decide), fun _ => keep (fun hh => absurd hb hh), fun h => absurd h (by decide)⟩)
  refine v_isOfMax h2.vs (by rw [n2]; omega) (fun ho => ?_) (fun ho => ?_)
  · have hm : ¬ G.mx i := fun hh => ho ((h2.mx i hin).mpr hh)
    refine ⟨rg_small (by decide), fun _ => ⟨K.t0, w_must h2 K hA2 hin (fun hno => ⟨Or.inl rfl, rg_small (by decide), fun _ => keep (fun _ his => ?_), fun h => absurd rfl h⟩) (fun b1 b2 => ⟨Or.inr rfl, rg_small (by decide), fun h => absurd h (by decide), fun _ => more M2 hx2 (fun _ _ => rfl) hb (Or.inr ⟨hm, b1, b2⟩) ⟨fun hh => absurd hh hm, fun _ => ⟨b1, b2⟩⟩⟩)⟩, fun h => absurd rfl h⟩
    rcases his with ⟨a, _⟩ | ⟨_, a⟩
    · exact hm a
    · exact hno a
  · have hm : G.mx i := (h2.mx i hin).mp ho
    refine ⟨rg_small (by decide), fun h => absurd h (by decide), fun _ => ⟨K.t0, w_can h2 K hA2 hin (fun hno => ⟨Or.inl rfl, rg_small (by decide), fun _ => keep (fun _ his => ?_), fun h => absurd rfl h⟩) (fun c c1 c2 c3 M3 e3 => ⟨Or.inr rfl, rg_small (by decide), fun h => absurd h (by decide), fun _ => more M3 (by rw [e3]; exact hx2.u) (fun j hj => by rw [e3, fu_at, if_neg hj]) hb (Or.inl ⟨hm, c, c1, c2, c3⟩) ⟨fun _ => ?_, fun hh => absurd hm hh⟩⟩)⟩⟩
    · rcases his with ⟨_, a⟩ | ⟨a, _⟩
      · exact hno a
      · exact a hm
    · exact ⟨c, by rw [e3, fu_at, if_pos rfl], c1, c2, c3⟩
end Cv
end Pu_cva
