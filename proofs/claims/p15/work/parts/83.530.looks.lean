set_option maxRecDepth 10000
section Pu_ci
/-! The calls that only look. -/
section Calls4
variable {T : Nat → Int} {n : Nat} {w : Int} {post : Int → fm_M → Prop} {thr : String → fm_M → Prop}
/-- what the class's looks need -/
def LK (g m : Nat) (M : fm_M) : Prop :=
  (CG1 g M) ∧
  (M g 4 = m) ∧
  (m ≤ 10) ∧
  (FB m M) ∧
  (nxr M) ∧
  (alr M)
theorem LK.g1 {g m : Nat} {M : fm_M} (h_ : LK g m M) : CG1 g M := h_.1
theorem LK.hm {g m : Nat} {M : fm_M} (h_ : LK g m M) : M g 4 = m := h_.2.1
theorem LK.m10 {g m : Nat} {M : fm_M} (h_ : LK g m M) : m ≤ 10 := h_.2.2.1
theorem LK.fb {g m : Nat} {M : fm_M} (h_ : LK g m M) : FB m M := h_.2.2.2.1
theorem LK.nx {g m : Nat} {M : fm_M} (h_ : LK g m M) : nxr M := h_.2.2.2.2.1
theorem LK.al {g m : Nat} {M : fm_M} (h_ : LK g m M) : alr M := h_.2.2.2.2.2
theorem CI.lk {M : fm_M} (h : CI T n w M) : ∃ g m : Nat, LK g m M := by
  obtain ⟨g, k, hgk, e1, e2, c1, c2, F⟩ := h.gs
  have hk : k = 4 ∨ k = 143 := by omega
  have G : CG1 k M := ⟨hk, by rw [e2]; rfl, c2⟩
  obtain ⟨m, hm, hm10⟩ := G.cnt
  exact ⟨k, m, G, hm, hm10, by rw [hm] at F; exact F, h.nx, h.al⟩
/-- the answers, by what was found -/
def avr (st : Nat) (Y : Ga) (a b r : Int) : Prop := ((st = 2 ∧ (0 ≤ a ∧ a < (SR Y).1.1) ∧ (0 ≤ b ∧ b < 3) ∧ 0 < Y.mo b.toNat) ∧ r = (SR Y).1.2 a.toNat b.toNat) ∨ (¬ (st = 2 ∧ (0 ≤ a ∧ a < (SR Y).1.1) ∧ (0 ≤ b ∧ b < 3) ∧ 0 < Y.mo b.toNat) ∧ r = -1)
def atg (st : Nat) (Y : Ga) (a r : Int) : Prop := ((st = 2 ∧ (0 ≤ a ∧ a < (SR Y).1.1) ∧ Y.tg ((SR Y).1.2 a.toNat) = true) ∧ r = 1) ∨ (¬ (st = 2 ∧ (0 ≤ a ∧ a < (SR Y).1.1) ∧ Y.tg ((SR Y).1.2 a.toNat) = true) ∧ r = 0)
def lkd (st : Nat) (Y : Ga) (a : Int) : Prop := st = 2 ∧ (0 ≤ a ∧ a < (SR Y).1.1) ∧ a < (SR Y).2.1
def aow (st : Nat) (Y : Ga) (a r : Int) : Prop := ((lkd st Y a ∧ 0 < ec Y ((SR Y).1.2 a.toNat) Y.C) ∧ ((r = 1 ∧ omx Y ((SR Y).1.2 a.toNat)) ∨ (r = 0 ∧ ¬ omx Y ((SR Y).1.2 a.toNat)))) ∨ (¬ (lkd st Y a ∧ 0 < ec Y ((SR Y).1.2 a.toNat) Y.C) ∧ r = -1)
def ach1 (st : Nat) (Y : Ga) (a k : Int) (c : Nat) : Prop := lkd st Y a ∧ c < Y.C ∧ ene Y ((SR Y).1.2 a.toNat) c = true ∧ (ec Y ((SR Y).1.2 a.toNat) c : Int) = k
def ach (st : Nat) (Y : Ga) (a k r : Int) : Prop := (∃ c : Nat, ach1 st Y a k c ∧ r = c) ∨ ((∀ c : Nat, ¬ ach1 st Y a k c) ∧ r = -1)
theorem avr_u {st : Nat} {Y : Ga} {a b r r' : Int} (h : avr st Y a b r) (h' : avr st Y a b r') : r = r' := by
  rcases h with ⟨h1, h2⟩ | ⟨h1, h2⟩ <;> rcases h' with ⟨h3, h4⟩ | ⟨h3, h4⟩
  · rw [h2, h4]
  · exact absurd h1 h3
  · exact absurd h3 h1
  · rw [h2, h4]
theorem atg_u {st : Nat} {Y : Ga} {a r r' : Int} (h : atg st Y a r) (h' : atg st Y a r') : r = r' := by
  rcases h with ⟨h1, h2⟩ | ⟨h1, h2⟩ <;> rcases h' with ⟨h3, h4⟩ | ⟨h3, h4⟩
  · rw [h2, h4]
  · exact absurd h1 h3
  · exact absurd h3 h1
  · rw [h2, h4]
theorem aow_u {st : Nat} {Y : Ga} {a r r' : Int} (h : aow st Y a r) (h' : aow st Y a r') : r = r' := by
  rcases h with ⟨h1, h2⟩ | ⟨h1, h2⟩ <;> rcases h' with ⟨h3, h4⟩ | ⟨h3, h4⟩
  · rcases h2 with ⟨a1, a2⟩ | ⟨a1, a2⟩ <;> rcases h4 with ⟨b1, b2⟩ | ⟨b1, b2⟩
    · rw [a1, b1]
    · exact absurd a2 b2
    · exact absurd b2 a2
    · rw [a1, b1]
  · exact absurd h1 h3
  · exact absurd h3 h1
  · rw [h2, h4]
theorem ach_u {st : Nat} {Y : Ga} {a k r r' : Int} (h : ach st Y a k r) (h' : ach st Y a k r') : r = r' := by
  rcases h with ⟨c, h1, h2⟩ | ⟨h1, h2⟩ <;> rcases h' with ⟨d, h3, h4⟩ | ⟨h3, h4⟩
  · have e : c = d := ec_inj h1.2.2.1 h3.2.2.1 (by
      have a1 := h1.2.2.2
      have a2 := h3.2.2.2
      rw [← a2] at a1
      exact Int.ofNat.inj a1)
    rw [h2, h4, e]
  · exact absurd h1 (h3 c)
  · exact absurd h3 (h1 d)
  · rw [h2, h4]
theorem CX.has {st : Nat} {Y : Ga} {M : fm_M} (h : CX st Y M) {a : Int} (ha : 0 ≤ a ∧ a < M 142 1) : st = 2 ∧ 0 ≤ a ∧ a < (SR Y).1.1 := by
  by_cases e : st = 2
  · have := (h.f e).1.n; exact ⟨e, by omega, by omega⟩
  · have := (h.z e).1; omega
theorem CX.hno {st : Nat} {Y : Ga} {M : fm_M} (h : CX st Y M) {a : Int} (ha : ¬ (0 ≤ a ∧ a < M 142 1)) : ¬ (st = 2 ∧ 0 ≤ a ∧ a < (SR Y).1.1) := fun ⟨e, hh⟩ => by
  have := (h.f e).1.n; omega
theorem ec_pos {Y : Ga} {r : Nat → Int} : ∀ {c : Nat}, 0 < ec Y r c → ∃ d, d < c ∧ ene Y r d = true := by
  intro c
  induction c with
  | zero => intro h; rw [ec] at h; exact absurd h (Nat.lt_irrefl 0)
  | succ c ih =>
    intro h
    by_cases e : ene Y r c = true
    · exact ⟨c, by omega, e⟩
    · rw [ec, if_neg e] at h
      obtain ⟨d, h1, h2⟩ := ih h
      exact ⟨d, by omega, h2⟩
theorem ec_sur {Y : Ga} {r : Nat → Int} : ∀ {c k : Nat}, k < ec Y r c → ∃ d, d < c ∧ ene Y r d = true ∧ ec Y r d = k := by
  intro c
  induction c with
  | zero => intro k h; exact absurd h (Nat.not_lt_zero _)
  | succ c ih =>
    intro k h
    by_cases e : ene Y r c = true
    · by_cases e2 : k < ec Y r c
      · obtain ⟨d, h1, h2⟩ := ih e2
        exact ⟨d, by omega, h2⟩
      · rw [ec, if_pos e] at h
        exact ⟨c, by omega, e, by omega⟩
    · rw [ec, if_neg e] at h
      obtain ⟨d, h1, h2⟩ := ih h
      exact ⟨d, by omega, h2⟩
theorem l_has {g m : Nat} {M : fm_M} (h : LK g m M) {a : Int} (ha : rg a) (h0 : ¬ (0 ≤ a ∧ a < M 142 1) → post 0 M) (h1 : ∀ i : Nat, a = i → (i : Int) < M 142 1 → i < 8 → post 1 M) : wp_Fo_has M a post thr := by
  have hc := h.fb.cnt
  exact ⟨ha, fun h2 => h0 (by omega), fun h2 => ⟨rg_small (by omega), fun h3 => h0 (by omega), fun h3 => h1 a.toNat (by omega) (by omega) (by omega)⟩⟩
theorem l_choicesOf {g m : Nat} {M : fm_M} (h : LK g m M) {i : Nat} (hi : (i : Int) < M 142 1) (hp : ∀ x, bs x m → ((M 142 4 ≤ (i : Int) ∧ x = 0) ∨ ((i : Int) < M 142 4 ∧ x = M 289 i)) → post x M) : wp_Fo_choicesOf M i post thr := by
  have hc := h.fb.cnt
  have hl := h.fb.lk
  unfold wp_Fo_choicesOf
  rw [Int.toNat_natCast]
  exact ⟨rg_small (by omega), rg_small (by omega), fun hh => hp 0 ⟨by decide, by have := Nat.two_pow_pos m; omega⟩ (Or.inl ⟨hh, rfl⟩), fun hh => ⟨by omega, hp _ (h.fb.en i hi) (Or.inr ⟨by omega, rfl⟩)⟩⟩
theorem l_isOfMax {g m : Nat} {M : fm_M} (h : LK g m M) {i : Nat} (hi : (i : Int) < M 142 1) (h0 : ((i : Int) < M 142 4 → jand (M 289 i) (M 142 5) = 0) → post 0 M) (h1 : ((i : Int) < M 142 4 → ¬ jand (M 289 i) (M 142 5) = 0) → post 1 M) : wp_Fo_isOfMax M i post thr := by
  have hc := h.fb.cnt
  have hl := h.fb.lk
  unfold wp_Fo_isOfMax
  rw [Int.toNat_natCast]
  exact ⟨rg_small (by omega), rg_small (by omega), fun hh => h0 (fun h2 => by omega), fun _ => ⟨by omega, rg_jand _ _, fun hz => h0 (fun _ => hz), fun hz => h1 (fun _ => hz)⟩⟩
theorem t281 : ∀ i : Fin 8, 281 + i.1 < nC ∧ TC (281 + i.1) = .inr (0, 3) := by decide
theorem l_variable {g m : Nat} {M : fm_M} (h : LK g m M) {st : Nat} {Y : Ga} (hx : CX st Y M) {a b : Int} (ha : rg a) (hb : rg b) (hp : ∀ r, avr st Y a b r → post r M) : wp_CG_variable M a b post thr := by
  have t := tcG h.g1.gg
  refine l_has h ha (fun hn => ⟨rg_small (by decide), fun _ => hp _ (Or.inr ⟨fun hh => hx.hno hn ⟨hh.1, hh.2.1⟩, rfl⟩), fun h => absurd rfl h⟩) (fun i e hi hi8 => ⟨rg_small (by decide), fun h => absurd h (by decide), fun _ => ⟨hb, fun h1 => hp _ (Or.inr ⟨fun hh => by have := hh.2.2.1; omega, rfl⟩), fun h1 => ⟨fun h2 => hp _ (Or.inr ⟨fun hh => by have := hh.2.2.1; omega, rfl⟩), fun h2 => ?_⟩⟩⟩)
  obtain ⟨v, hv⟩ : ∃ v : Nat, b = v := ⟨b.toNat, by omega⟩
  subst hv; subst e
  obtain ⟨hs2, hi1⟩ := hx.has (a := (i : Int)) ⟨by omega, hi⟩
  have hy := (hx.a1 (by omega)).2
  rw [h.g1.gm] at hy ⊢
  have hmo := hy.mo v (by omega)
  have hiX : i < (SR Y).1.1 := by omega
  refine ⟨t.1, c_hasVar h.g1.gg h.g1.cb (by omega) (fun hpos => ⟨rg_small (by decide), fun _ => ⟨by omega, ?_, by omega, hp _ (Or.inl ⟨⟨hs2, hi1, by omega, by rw [Int.toNat_natCast, ← hmo]; exact hpos⟩, ?_⟩)⟩, fun h => absurd h (by decide)⟩) (fun hneg => ⟨rg_small (by decide), fun h => absurd rfl h, fun _ => hp _ (Or.inr ⟨fun hh => hneg (by have := hh.2.2.2; rw [Int.toNat_natCast, ← hmo] at this; exact this), rfl⟩)⟩)⟩
  · rw [Int.toNat_natCast, show 280 + 1 + i = 281 + i by omega]; exact t281 ⟨i, hi8⟩
  · rw [Int.toNat_natCast, Int.toNat_natCast, show 280 + 1 + i = 281 + i by omega]; exact (hx.f hs2).1.st i v hiX (by omega)
theorem l_target {g m : Nat} {M : fm_M} (h : LK g m M) {st : Nat} {Y : Ga} (hx : CX st Y M) {a : Int} (ha : rg a) (hp : ∀ r, atg st Y a r → post r M) : wp_CG_target M a post thr := by
  refine l_has h ha (fun hn => ⟨rg_small (by decide), fun _ => hp _ (Or.inr ⟨fun hh => hx.hno hn ⟨hh.1, hh.2.1⟩, rfl⟩), fun h => absurd rfl h⟩) (fun i e hi hi8 => ⟨rg_small (by decide), fun h => absurd h (by decide), fun _ => ?_⟩)
  subst e
  obtain ⟨hs2, hi1⟩ := hx.has (a := (i : Int)) ⟨by omega, hi⟩
  have hb := (hx.f hs2).1.tg i hi8
  have hiX : i < (SR Y).1.1 := by omega
  refine x_hasBit (fun hn => ⟨rg_small (by decide), fun _ => hp _ (Or.inr ⟨fun hh => hn (hb.mpr ⟨hiX, by have := hh.2.2; rw [Int.toNat_natCast] at this; exact this⟩), rfl⟩), fun h => absurd rfl h⟩) (fun hy => ⟨rg_small (by decide), fun h => absurd h (by decide), fun _ => hp _ (Or.inl ⟨⟨hs2, hi1, by rw [Int.toNat_natCast]; exact (hb.mp hy).2⟩, rfl⟩)⟩)
theorem l_bits {g m : Nat} {M : fm_M} (h : LK g m M) {st : Nat} {Y : Ga} (hx : CX st Y M) {i : Nat} (hi : (i : Int) < M 142 1) {x : Int} (hor : (M 142 4 ≤ (i : Int) ∧ x = 0) ∨ ((i : Int) < M 142 4 ∧ x = M 289 i)) : ∃ C : Nat, C ≤ 10 ∧ (∀ c, c < 10 → (bt x c ↔ c < C ∧ ene Y ((SR Y).1.2 i) c = true)) ∧ ((lkd st Y i ∧ C = Y.C) ∨ (¬ lkd st Y i ∧ C = 0)) := by
  obtain ⟨hs2, hi1⟩ := hx.has (a := (i : Int)) ⟨by omega, hi⟩
  obtain ⟨f1, f2, f3, f4, f5⟩ := hx.f hs2
  have hiX : i < (SR Y).1.1 := by omega
  have hw := (hx.a1 (by omega)).2.w.c10
  rcases hor with ⟨h1, h2⟩ | ⟨h1, h2⟩
  · exact ⟨0, by omega, fun c hc => ⟨fun hh => absurd (by rw [h2] at hh; exact hh) (bt_0 ⟨c, hc⟩), fun hh => absurd hh.1 (Nat.not_lt_zero _)⟩, Or.inr ⟨fun hh => by have := hh.2.2; omega, rfl⟩⟩
  · exact ⟨Y.C, hw, fun c hc => by rw [h2]; exact f1.en i hiX c hc, Or.inl ⟨⟨hs2, hi1, by omega⟩, rfl⟩⟩
theorem l_owner {g m : Nat} {M : fm_M} (h : LK g m M) {st : Nat} {Y : Ga} (hx : CX st Y M) {a : Int} (ha : rg a) (hp : ∀ r, aow st Y a r → post r M) : wp_CG_owner M a post thr := by
  refine l_has h ha (fun hn => ⟨rg_small (by decide), fun _ => hp _ (Or.inr ⟨fun hh => hx.hno hn ⟨hh.1.1, hh.1.2.1⟩, rfl⟩), fun h => absurd rfl h⟩) (fun i e hi hi8 => ⟨rg_small (by decide), fun h => absurd h (by decide), fun _ => ?_⟩)
  subst e
  obtain ⟨hs2, hi1⟩ := hx.has (a := (i : Int)) ⟨by omega, hi⟩
  have hiX : i < (SR Y).1.1 := by omega
  have hC10 := (hx.a1 (by omega)).2.w.c10
  refine l_choicesOf h hi (fun x hbs hor => ⟨bs_rg hbs h.m10, fun hne => ?_, fun hz => hp _ (Or.inr ⟨fun hh => ?_, rfl⟩)⟩)
  · obtain ⟨k, hk, hkb⟩ := bs_ex hbs h.m10 hne
    have hl : (i : Int) < M 142 4 := by
      rcases hor with ⟨_, h2⟩ | ⟨h1, _⟩
      · exact absurd h2 hne
      · exact h1
    obtain ⟨C, hC, hb, hor2⟩ := l_bits h hx hi hor
    have hb' := (hb k hk).mp hkb
    have hlk : lkd st Y i ∧ C = Y.C := by
      rcases hor2 with a | a
      · exact a
      · omega
    have hpos : 0 < ec Y ((SR Y).1.2 (i : Int).toNat) Y.C := by
      rw [Int.toNat_natCast]
      have := ec_lt (C := Y.C) (by omega) hb'.2
      omega
    have om := om_max (hx.f hs2).1 (hx.f hs2).2.2.2.1 hC10 h.m10 (h.fb.en i hi) hiX
    refine l_isOfMax h hi (fun hz => ⟨rg_small (by decide), fun _ => hp _ (Or.inl ⟨⟨hlk.1, hpos⟩, Or.inr ⟨rfl, by rw [Int.toNat_natCast]; exact fun hh => om.mpr hh (hz hl)⟩⟩), fun h => absurd rfl h⟩) (fun hz => ⟨rg_small (by decide), fun h => absurd h (by decide), fun _ => hp _ (Or.inl ⟨⟨hlk.1, hpos⟩, Or.inl ⟨rfl, by rw [Int.toNat_natCast]; exact om.mp (hz hl)⟩⟩)⟩)
  · obtain ⟨C, hC, hb, hor2⟩ := l_bits h hx hi hor
    have hh2 := hh.2
    rw [Int.toNat_natCast] at hh2
    obtain ⟨d, hd, hde⟩ := ec_pos hh2
    have hCe : C = Y.C := by
      rcases hor2 with a | a
      · exact a.2
      · exact absurd hh.1 a.1
    have := (hb d (by omega)).mpr ⟨by omega, hde⟩
    rw [hz] at this
    exact absurd this (bt_0 ⟨d, by omega⟩)
theorem l_choice {g m : Nat} {M : fm_M} (h : LK g m M) {st : Nat} {Y : Ga} (hx : CX st Y M) {a b : Int} (ha : rg a) (hb : rg b) (hp : ∀ r, ach st Y a b r → post r M) : wp_CG_choice M a b post thr := by
  refine l_has h ha (fun hn => ⟨rg_small (by decide), fun _ => hp _ (Or.inr ⟨fun c hh => hx.hno hn ⟨hh.1.1, hh.1.2.1⟩, rfl⟩), fun h => absurd rfl h⟩) (fun i e hi hi8 => ⟨rg_small (by decide), fun h => absurd h (by decide), fun _ => ⟨hb, fun hb0 => ?_, fun hb0 => hp _ (Or.inr ⟨fun c hh => by have := hh.2.2.2; omega, rfl⟩)⟩⟩)
  subst e
  refine l_choicesOf h hi (fun x hbs hor => ?_)
  obtain ⟨C, hC, hbt, hor2⟩ := l_bits h hx hi hor
  -- among the first k commands it is not
  refine ⟨fun M' v3 v4 v5 => M' = M ∧ v3 = x ∧ ∃ k j : Nat, v5 = k ∧ v4 = j ∧ k ≤ 10 ∧ j = ec Y ((SR Y).1.2 i) (if k < C then k else C) ∧ ∀ c, c < k → c < C → ene Y ((SR Y).1.2 i) c = true → (ec Y ((SR Y).1.2 i) c : Int) ≠ b, fun _ _ _ v5 => (10 - v5).toNat, ⟨rfl, rfl, 0, 0, rfl, rfl, by omega, by
    by_cases e : 0 < C
    · rw [if_pos e, ec]
    · rw [if_neg e, show C = 0 by omega, ec], fun c hc => absurd hc (Nat.not_lt_zero _)⟩, ?_⟩
  rintro M' v3 v4 v5 ⟨rfl, rfl, k, j, rfl, rfl, hk, hj, hno⟩
  have hj10 : j ≤ 10 := by
    have hz : (if k < C then k else C) ≤ 10 := by split <;> omega
    have := ec_le Y ((SR Y).1.2 i) (if k < C then k else C)
    omega
  unfold C_CG_choice_32
  refine ⟨rg_small (by omega), fun h4 => hp _ (Or.inr ⟨fun c hh => ?_, rfl⟩), fun h4 => x_hasBit (fun hn => ⟨rg_small (by decide), fun _ => ⟨⟨rfl, rfl, k + 1, j, by omega, rfl, by omega, ?_, fun c h1 h2 h3 => ?_⟩, by dsimp only; omega⟩, fun h => absurd rfl h⟩) (fun hy => ⟨rg_small (by decide), fun h => absurd h (by decide), fun _ => ⟨rg_small (by omega), hb, fun hne => ⟨⟨rfl, rfl, k + 1, j + 1, by omega, by omega, by omega, ?_, fun c h1 h2 h3 => ?_⟩, by dsimp only; omega⟩, fun he => hp _ (Or.inl ⟨k, ?_, rfl⟩)⟩⟩)⟩
  · obtain ⟨q1, q2, q3, q4⟩ := hh
    rw [Int.toNat_natCast] at q3 q4
    have hCe : C = Y.C := by
      rcases hor2 with a | a
      · exact a.2
      · exact absurd q1 a.1
    exact hno c (by omega) (by omega) q3 q4
  · rw [hj]
    by_cases e : k < C
    · have hen : ¬ ene Y ((SR Y).1.2 i) k = true := fun hh => hn ((hbt k (by omega)).mpr ⟨e, hh⟩)
      rw [if_pos e]
      by_cases e2 : k + 1 < C
      · rw [if_pos e2, ec, if_neg hen]; rfl
      · rw [if_neg e2, show C = k + 1 by omega, ec, if_neg hen]; rfl
    · rw [if_neg e, if_neg (by omega)]
  · by_cases e : c = k
    · subst e; exact absurd ((hbt c (by omega)).mpr ⟨h2, h3⟩) hn
    · exact hno c (by omega) h2 h3
  · have hq := (hbt k (by omega)).mp hy
    rw [hj, if_pos hq.1]
    by_cases e2 : k + 1 < C
    · rw [if_pos e2, ec, if_pos hq.2]
    · rw [if_neg e2, show C = k + 1 by omega, ec, if_pos hq.2]
  · by_cases e : c = k
    · subst e; rw [hj, if_pos h2] at hne; exact hne
    · exact hno c (by omega) h2 h3
  · have hq := (hbt k (by omega)).mp hy
    have hCe : lkd st Y i ∧ C = Y.C := by
      rcases hor2 with a | a
      · exact a
      · omega
    refine ⟨hCe.1, by omega, by rw [Int.toNat_natCast]; exact hq.2, ?_⟩
    rw [Int.toNat_natCast, ← he, hj, if_pos hq.1]
theorem br1 : ∀ c : Fin 10, ∀ b : Fin 4, 4 + 3 + 4 + 13 * c.1 + 4 + 1 + 2 * b.1 < nC ∧ TC (4 + 3 + 4 + 13 * c.1 + 4 + 1 + 2 * b.1) = .inl (6, ks_Br) := by decide
theorem br2 : ∀ c : Fin 10, ∀ b : Fin 4, 143 + 3 + 4 + 13 * c.1 + 4 + 1 + 2 * b.1 < nC ∧ TC (143 + 3 + 4 + 13 * c.1 + 4 + 1 + 2 * b.1) = .inl (6, ks_Br) := by decide
theorem wt3 : ∀ c : Fin 10, (7 + 13 * c.1, 3, 4, (0 : Int), (4 : Int)) ∈ CBt := by decide
theorem l_branch {g m : Nat} {M : fm_M} (h : LK g m M) {a b c : Int} (ha : rg a) (hb : rg b) (hc : rg c) (hp : ∀ r, post r M) : wp_CG_branch M a b c post thr := by
  have t := tcG h.g1.gg
  have hm10 := h.m10
  have hg := h.g1.gg
  refine l_has h ha (fun _ => ⟨rg_small (by decide), fun _ => hp _, fun h => absurd rfl h⟩) (fun i e hi hi8 => ⟨rg_small (by decide), fun h => absurd h (by decide), fun _ => ⟨hb, fun _ => hp _, fun h1 => ?_⟩⟩)
  subst e
  rw [h.g1.gm, h.hm]
  refine ⟨t.1, rg_small (by omega), fun _ => hp _, fun h2 => ⟨by omega, ?_⟩⟩
  obtain ⟨k, hk⟩ : ∃ k : Nat, b = k := ⟨b.toNat, by omega⟩
  subst hk
  refine x_hasBit (fun _ => ⟨rg_small (by decide), fun h => absurd rfl h, fun _ => hp _⟩) (fun _ => ⟨rg_small (by decide), fun _ => ?_, fun h => absurd h (by decide)⟩)
  rw [h.g1.gm]
  have C := cmOk hg (c := k) (by omega)
  refine ⟨t.1, t.2.2.2, by omega, hc, fun _ => hp _, fun h3 => ?_⟩
  obtain ⟨d, hd⟩ : ∃ d : Nat, c = d := ⟨c.toNat, by omega⟩
  subst hd
  have hw : 0 ≤ M (g + (7 + 13 * k)) 3 ∧ M (g + (7 + 13 * k)) 3 ≤ 4 := h.g1.cb.g' (wt3 ⟨k, by omega⟩) (x := 3) (by omega) (by omega)
  simp only [Int.toNat_natCast]
  have eg : g + 3 + 4 + 13 * k = g + (7 + 13 * k) := by omega
  refine ⟨by rw [eg]; exact C.t0, by rw [eg]; exact rg_small (by omega), fun h4 => ?_, fun _ => hp _⟩
  rw [eg] at h4
  have nn := h.nx i (k * 4 + d) hi8 (by omega)
  unfold wp_Fo_next
  rw [Int.toNat_natCast, show 299 + 1 + i = 300 + i by omega, show ((k : Int) * 4 + (d : Int)).toNat = k * 4 + d by omega]
  refine ⟨by omega, t300 ⟨i, hi8⟩, by omega, rg_small (by omega), fun _ => ⟨by rw [eg]; exact C.t4, by omega, ?_, hp _⟩, fun _ => hp _⟩
  rcases hg with e | e <;> subst e
  · exact br1 ⟨k, by omega⟩ ⟨d, by omega⟩
  · exact br2 ⟨k, by omega⟩ ⟨d, by omega⟩
/-- values are there -/
def hvl (st : Nat) (Y : Ga) : Prop := st = 2 ∧ 0 < (SR Y).2.2.2
theorem l_check {M : fm_M} (hI : CI T n w M) {g m : Nat} (h : LK g m M) {st : Nat} {Y : Ga} (hx : CX st Y M) {a : Int} (ha : rg a) (hp : ∀ i : Nat, a = i → i < 8 → hvl st Y → i < (SR Y).1.1 → post 0 M) (k1 : ¬ hvl st Y → thr "java/lang/IllegalStateException" M) (k2 : hvl st Y → ¬ (0 ≤ a ∧ a < (SR Y).1.1) → thr "java/lang/IndexOutOfBoundsException" M) : wp_CG_checkValueOf M a post thr := by
  refine ⟨rg_small (by rcases hI.b6 with e | e <;> rw [e] <;> decide), fun hne => ?_, fun h0 => k1 (fun hv => ?_)⟩
  · have h1 : M 0 6 = 1 := by
      rcases hI.b6 with e | e
      · exact absurd e hne
      · exact e
    have hs : st = 2 := by
      apply Classical.byContradiction; intro hs
      rw [(hx.z hs).2.2] at h1; exact absurd h1 (by decide)
    have hv : hvl st Y := ⟨hs, (hx.f hs).2.2.2.2.1.mp h1⟩
    have hn := (hx.f hs).1.n
    exact l_has h ha (fun hno => ⟨rg_small (by decide), fun h => absurd rfl h, fun _ => k2 hv (by rw [← hn]; exact hno)⟩) (fun i e hi hi8 => ⟨rg_small (by decide), fun _ => hp i e hi8 hv (by omega), fun h => absurd h (by decide)⟩)
  · have := (hx.f hv.1).2.2.2.2.1.mpr hv.2
    rw [h0] at this; exact absurd this (by decide)
theorem l_upper {M : fm_M} (hI : CI T n w M) {st : Nat} {Y : Ga} (hx : CX st Y M) {a : Int} (ha : rg a) (hp : ∀ i : Nat, a = i → i < 8 → hvl st Y → i < (SR Y).1.1 → post (jwl (M 324 i)) M) (k1 : ¬ hvl st Y → thr "java/lang/IllegalStateException" M) (k2 : hvl st Y → ¬ (0 ≤ a ∧ a < (SR Y).1.1) → thr "java/lang/IndexOutOfBoundsException" M) : wp_CG_upper M a post thr := by
  obtain ⟨g, m, h⟩ := hI.lk
  refine l_check hI h hx ha (fun i e hi hv hx => ⟨by omega, ?_⟩) k1 k2
  rw [e, Int.toNat_natCast]; exact hp i e hi hv hx
theorem l_lower {M : fm_M} (hI : CI T n w M) {st : Nat} {Y : Ga} (hx : CX st Y M) {a : Int} (ha : rg a) (hp : ∀ i : Nat, a = i → i < 8 → hvl st Y → i < (SR Y).1.1 → post (jwl (M 325 i)) M) (k1 : ¬ hvl st Y → thr "java/lang/IllegalStateException" M) (k2 : hvl st Y → ¬ (0 ≤ a ∧ a < (SR Y).1.1) → thr "java/lang/IndexOutOfBoundsException" M) : wp_CG_lower M a post thr := by
  obtain ⟨g, m, h⟩ := hI.lk
  refine l_check hI h hx ha (fun i e hi hv hx => ⟨by omega, ?_⟩) k1 k2
  rw [e, Int.toNat_natCast]; exact hp i e hi hv hx
theorem l_good {M : fm_M} (hI : CI T n w M) {st : Nat} {Y : Ga} (hx : CX st Y M) {a : Int} (ha : rg a) (hp : ∀ i : Nat, a = i → i < 8 → hvl st Y → i < (SR Y).1.1 → rg (M 330 i) → post (M 330 i) M) (k1 : ¬ hvl st Y → thr "java/lang/IllegalStateException" M) (k2 : hvl st Y → ¬ (0 ≤ a ∧ a < (SR Y).1.1) → thr "java/lang/IndexOutOfBoundsException" M) : wp_CG_good M a post thr := by
  obtain ⟨g, m, h⟩ := hI.lk
  refine l_check hI h hx ha (fun i e hi hv hx => ⟨by omega, ?_⟩) k1 k2
  rw [e, Int.toNat_natCast]; exact hp i e hi hv hx (h.al i hi).2
end Calls4
end Pu_ci
section Pu_cj
/-! The reference's looks, and its solve. -/
section Calls5
variable {T : Nat → Int} {n : Nat} {w : Int} {post : Int → fm_M → Prop} {thr : String → fm_M → Prop}
/-- only the mark of the last call may change -/
def KP (M M' : fm_M) : Prop :=
  (∀ q, q ≠ 331 → M' q = M q) ∧
  (∀ b, b ≠ 0 → M' 331 b = M 331 b)
theorem KP.cell {M M' : fm_M} (h_ : KP M M') : ∀ q, q ≠ 331 → M' q = M q := h_.1
theorem KP.slot {M M' : fm_M} (h_ : KP M M') : ∀ b, b ≠ 0 → M' 331 b = M 331 b := h_.2
theorem KP.u {M M' : fm_M} {v : Int} (e : M' = fm_u M 331 0 v) : KP M M' := ⟨fun q hq => by rw [e]; exact fu_off _ _ _ hq, fun b hb => by rw [e, fu_at, if_neg hb]⟩
theorem RI.kp {M M' : fm_M} (h : RI T n w M) (k : KP M M') : RI T n w M' := h.same (fun q h1 _ => k.cell q (by omega)) k.slot
theorem RI.n8 {M : fm_M} (h : RI T n w M) : 0 ≤ M 331 20 ∧ M 331 20 ≤ 8 := by
  rcases h.hg with ⟨_, e⟩ | ⟨_, _, e⟩
  · omega
  · exact e.hn
theorem RI.g1 {M : fm_M} (h : RI T n w M) (hn : 0 < M 331 20) : ∃ G : Nat, M 331 6 = G ∧ G ≤ 1 := by
  rcases h.hg with ⟨_, e⟩ | ⟨e, _, _⟩
  · omega
  · rcases e with e | e
    · exact ⟨0, e, by omega⟩
    · exact ⟨1, e, by omega⟩
theorem RX.kp {st : Nat} {Y : Ga} {M M' : fm_M} (h : RX st Y M) (k : KP M M') : RX st Y M' := h.same (fun b hb => k.slot b (by omega)) (fun a h1 h2 => k.cell a (by omega))
theorem RX.has {st : Nat} {Y : Ga} {M : fm_M} (h : RX st Y M) {a : Int} (ha : 0 ≤ a ∧ a < M 331 20) : st = 2 ∧ 0 ≤ a ∧ a < (SR Y).1.1 := by
  by_cases e : st = 2
  · have := (h.f e).1.n; exact ⟨e, by omega, by omega⟩
  · have := (h.z e).1; omega
theorem RX.hno {st : Nat} {Y : Ga} {M : fm_M} (h : RX st Y M) {a : Int} (ha : ¬ (0 ≤ a ∧ a < M 331 20)) : ¬ (st = 2 ∧ 0 ≤ a ∧ a < (SR Y).1.1) := fun ⟨e, hh⟩ => by
  have := (h.f e).1.n; omega
theorem r_isState {M : fm_M} (h : RI T n w M) {a : Int} (ha : rg a) (h0 : ¬ (0 ≤ a ∧ a < M 331 20) → post 0 M) (h1 : ∀ i G : Nat, a = i → i < 8 → (i : Int) < M 331 20 → M 331 6 = G → G ≤ 1 → post 1 M) : wp_Mo_isState M a post thr := by
  have hn := h.n8
  refine m_within ha (rg_small (by decide)) (rg_small (by omega)) (fun e => ⟨Or.inr rfl, ?_⟩) (fun e => ⟨Or.inl rfl, h0 (by omega)⟩)
  obtain ⟨G, hG, hG1⟩ := h.g1 (by omega)
  exact h1 a.toNat G (by omega) (by omega) (by omega) hG hG1
theorem RI.place {M : fm_M} (h : RI T n w M) (hp : ∀ r M', KP M M' → post r M') : wp_Mo_place M post thr := fun M2 e2 => hp _ M2 (KP.u e2)
theorem RI.states {M : fm_M} (h : RI T n w M) (hp : ∀ M', KP M M' → post (M 331 20) M') : wp_Mo_states M post thr := fun M2 e2 => by
  have k := KP.u e2
  rw [k.slot 20 (by decide)]; exact hp M2 k
theorem RI.mixed {M : fm_M} (h : RI T n w M) (hp : ∀ M', KP M M' → post (M 331 21) M') : wp_Mo_mixed M post thr := fun M2 e2 => by
  have k := KP.u e2
  rw [k.slot 21 (by decide)]; exact hp M2 k
theorem RI.vari {M : fm_M} (h : RI T n w M) {st : Nat} {Y : Ga} (hx : RX st Y M) {a b : Int} (ha : rg a) (hb : rg b) (hp : ∀ r M', avr st Y a b r → KP M M' → post r M') : wp_Mo_variable M a b post thr := by
  intro M1 e1
  have k1 := KP.u e1
  have h1 := h.kp k1
  have x1 := hx.kp k1
  have P : ∀ r, avr st Y a b r → post r M1 := fun r hr => hp r M1 hr k1
  refine r_isState h1 ha (fun hn => ⟨rg_small (by decide), fun _ => P _ (Or.inr ⟨fun hh => x1.hno hn ⟨hh.1, hh.2.1⟩, rfl⟩), fun h => absurd rfl h⟩) (fun i G e hi hi2 hG hG1 => ⟨rg_small (by decide), fun h => absurd h (by decide), fun _ => ?_⟩)
  subst e
  obtain ⟨hs2, hi1⟩ := x1.has (a := (i : Int)) ⟨by omega, hi2⟩
  have hy := (x1.a1 (by omega)).2
  rw [hG, Int.toNat_natCast] at hy
  refine m_within hb (rg_small (by decide)) (rg_small (by decide)) (fun e2 => ⟨rg_small (by decide), fun h => absurd h (by decide), fun _ => ?_⟩) (fun hn => ⟨rg_small (by decide), fun _ => P _ (Or.inr ⟨fun hh => by have := hh.2.2.1; omega, rfl⟩), fun h => absurd rfl h⟩)
  obtain ⟨v, hv⟩ : ∃ v : Nat, b = v := ⟨b.toNat, by omega⟩
  subst hv
  rw [hG, show (3 * (G : Int) + (v : Int)).toNat = 3 * G + v by omega]
  have := h1.rb.g 333 6 0 9 (by decide) (x := 3 * G + v) (by omega)
  have hmo := hy.mo v (by omega)
  refine ⟨by omega, rg_small (by omega), fun hz => P _ (Or.inr ⟨fun hh => by have := hh.2.2.2; rw [Int.toNat_natCast] at this; omega, rfl⟩), fun hz => ⟨by omega, P _ (Or.inl ⟨⟨hs2, hi1, by omega, by rw [Int.toNat_natCast]; omega⟩, ?_⟩)⟩⟩
  rw [show (3 * (i : Int) + (v : Int)).toNat = 3 * i + v by omega, Int.toNat_natCast, Int.toNat_natCast]
  exact (x1.f hs2).1.st i v (by omega) (by omega)
theorem RI.target {M : fm_M} (h : RI T n w M) {st : Nat} {Y : Ga} (hx : RX st Y M) {a : Int} (ha : rg a) (hp : ∀ r M', atg st Y a r → KP M M' → post r M') : wp_Mo_target M a post thr := by
  intro M1 e1
  have k1 := KP.u e1
  have h1 := h.kp k1
  have x1 := hx.kp k1
  have P : ∀ r, atg st Y a r → post r M1 := fun r hr => hp r M1 hr k1
  refine r_isState h1 ha (fun hn => ⟨rg_small (by decide), fun _ => P _ (Or.inr ⟨fun hh => x1.hno hn ⟨hh.1, hh.2.1⟩, rfl⟩), fun h => absurd rfl h⟩) (fun i G e hi hi2 hG hG1 => ⟨rg_small (by decide), fun h => absurd h (by decide), fun _ => ?_⟩)
  subst e
  obtain ⟨hs2, hi1⟩ := x1.has (a := (i : Int)) ⟨by omega, hi2⟩
  have ht := (x1.f hs2).1.tg i (by omega)
  have := h1.rb.g 346 8 0 1 (by decide) (x := i) hi
  rw [Int.toNat_natCast]
  refine ⟨by omega, rg_small (by omega), fun hz => P _ (Or.inr ⟨fun hh => ?_, rfl⟩), fun hz => P _ (Or.inl ⟨⟨hs2, hi1, ?_⟩, rfl⟩)⟩
  · have h2 := hh.2.2
    rw [Int.toNat_natCast] at h2
    rw [if_pos h2] at ht; omega
  · rw [Int.toNat_natCast]
    apply Classical.byContradiction; intro hh
    rw [if_neg hh] at ht; exact hz ht
theorem RI.owner {M : fm_M} (h : RI T n w M) {st : Nat} {Y : Ga} (hx : RX st Y M) {a : Int} (ha : rg a) (hp : ∀ r M', aow st Y a r → KP M M' → post r M') : wp_Mo_owner M a post thr := by
  intro M1 e1
  have k1 := KP.u e1
  have h1 := h.kp k1
  have x1 := hx.kp k1
  have P : ∀ r, aow st Y a r → post r M1 := fun r hr => hp r M1 hr k1
  refine r_isState h1 ha (fun hn => ⟨rg_small (by decide), fun _ => P _ (Or.inr ⟨fun hh => x1.hno hn ⟨hh.1.1, hh.1.2.1⟩, rfl⟩), fun h => absurd rfl h⟩) (fun i G e hi hi2 hG hG1 => ⟨rg_small (by decide), fun h => absurd h (by decide), fun _ => ?_⟩)
  subst e
  obtain ⟨hs2, hi1⟩ := x1.has (a := (i : Int)) ⟨by omega, hi2⟩
  have F := (x1.f hs2).1
  have hiX : i < (SR Y).1.1 := by omega
  have := h1.rb.g 349 8 0 10 (by decide) (x := i) hi
  have h47 := h1.rb.g 347 8 0 1 (by decide) (x := i) hi
  rw [Int.toNat_natCast]
  have lk : ¬ M1 349 i = 0 → i < (SR Y).2.1 := fun hne => by
    apply Classical.byContradiction; intro hh
    exact hne (F.z i hiX hh).1
  have pos : ¬ M1 349 i = 0 → lkd st Y i ∧ 0 < ec Y ((SR Y).1.2 (i : Int).toNat) Y.C := fun hne => by
    have hl := lk hne
    have hc := F.cn i hiX hl
    exact ⟨⟨hs2, hi1, by omega⟩, by rw [Int.toNat_natCast]; omega⟩
  refine ⟨by omega, rg_small (by omega), fun hne => ⟨rg_small (by omega), fun hz => P _ (Or.inl ⟨pos hne, Or.inr ⟨rfl, fun hh => ?_⟩⟩), fun hz => P _ (Or.inl ⟨pos hne, Or.inl ⟨rfl, ?_⟩⟩)⟩, fun hz => P _ (Or.inr ⟨fun hh => ?_, rfl⟩)⟩
  · rw [Int.toNat_natCast] at hh
    have := (F.mx i hiX (lk hne)).mpr hh; omega
  · rw [Int.toNat_natCast]
    exact (F.mx i hiX (lk hne)).mp (by omega)
  · have hl := hh.1.2.2
    have hc := F.cn i hiX (by omega)
    have h2 := hh.2
    rw [Int.toNat_natCast] at h2
    omega
theorem RI.choice {M : fm_M} (h : RI T n w M) {st : Nat} {Y : Ga} (hx : RX st Y M) {a b : Int} (ha : rg a) (hb : rg b) (hp : ∀ r M', ach st Y a b r → KP M M' → post r M') : wp_Mo_choice M a b post thr := by
  intro M1 e1
  have k1 := KP.u e1
  have h1 := h.kp k1
  have x1 := hx.kp k1
  have P : ∀ r, ach st Y a b r → post r M1 := fun r hr => hp r M1 hr k1
  refine r_isState h1 ha (fun hn => ⟨rg_small (by decide), fun _ => P _ (Or.inr ⟨fun c hh => x1.hno hn ⟨hh.1.1, hh.1.2.1⟩, rfl⟩), fun h => absurd rfl h⟩) (fun i G e hi hi2 hG hG1 => ⟨rg_small (by decide), fun h => absurd h (by decide), fun _ => ?_⟩)
  subst e
  obtain ⟨hs2, hi1⟩ := x1.has (a := (i : Int)) ⟨by omega, hi2⟩
  have F := (x1.f hs2).1
  have hiX : i < (SR Y).1.1 := by omega
  have := h1.rb.g 349 8 0 10 (by decide) (x := i) hi
  rw [Int.toNat_natCast]
  refine ⟨by omega, m_within hb (rg_small (by decide)) (rg_small (by omega)) (fun e2 => ⟨rg_small (by decide), fun h => absurd h (by decide), fun _ => ⟨by omega, P _ ?_⟩⟩) (fun hn => ⟨rg_small (by decide), fun _ => P _ (Or.inr ⟨fun c hh => ?_, rfl⟩), fun h => absurd rfl h⟩)⟩
  · have hl : i < (SR Y).2.1 := by
      apply Classical.byContradiction; intro hh
      have := (F.z i hiX hh).1; omega
    have hc := F.cn i hiX hl
    obtain ⟨k, hk⟩ : ∃ k : Nat, b = k := ⟨b.toNat, by omega⟩
    subst hk
    obtain ⟨d, d1, d2, d3⟩ := ec_sur (Y := Y) (r := (SR Y).1.2 i) (c := Y.C) (k := k) (by omega)
    have hq := F.ch i hiX hl d d1 d2
    rw [d3] at hq
    rw [show (10 * (i : Int) + (k : Int)).toNat = 10 * i + k by omega, hq]
    exact Or.inl ⟨d, ⟨⟨hs2, hi1, by omega⟩, d1, by rw [Int.toNat_natCast]; exact d2, by rw [Int.toNat_natCast, d3]⟩, rfl⟩
  · obtain ⟨q1, q2, q3, q4⟩ := hh
    have hl := q1.2.2
    have hc := F.cn i hiX (by omega)
    rw [Int.toNat_natCast] at q3 q4
    have := ec_lt (C := Y.C) q2 q3
    omega
theorem RI.branch {M : fm_M} (h : RI T n w M) {a b c : Int} (ha : rg a) (hb : rg b) (hc : rg c) (hp : ∀ r M', KP M M' → post r M') : wp_Mo_branch M a b c post thr := by
  intro M1 e1
  have k1 := KP.u e1
  have h1 := h.kp k1
  have P : ∀ r, post r M1 := fun r => hp r M1 k1
  refine r_isState h1 ha (fun _ => ⟨rg_small (by decide), fun h => absurd rfl h, fun _ => P _⟩) (fun i G e hi _ hG hG1 => ⟨rg_small (by decide), fun _ => ?_, fun h => absurd h (by decide)⟩)
  subst e
  have h349 := h1.rb.g 349 8 0 10 (by decide) (x := i) hi
  refine ⟨fun M' v4 v5 => M' = M1 ∧ ∃ k : Nat, v5 = k ∧ (k : Int) ≤ M1 349 i, fun _ v4 v5 => (M1 349 i - v5).toNat, ⟨rfl, 0, rfl, by omega⟩, ?_⟩
  rintro M' v4 v5 ⟨rfl, k, rfl, hk⟩
  unfold C_Mo_branch_21
  rw [Int.toNat_natCast]
  refine ⟨by omega, rg_small (by omega), rg_small (by omega), fun _ => P _, fun h4 => ?_⟩
  have h348 := h1.rb.g 348 80 0 9 (by decide) (x := (10 * (i : Int) + (k : Int)).toNat) (by omega)
  have step : ∀ z : Int, (fun M'_1 v4' v5' => (M'_1 = M' ∧ ∃ k : Nat, v5' = k ∧ (k : Int) ≤ M' 349 i) ∧ (M' 349 i - v5').toNat < (M' 349 i - (k : Int)).toNat : fm_M → Int → Int → Prop) M' z ((k : Int) + 1) := fun z => ⟨⟨rfl, k + 1, by omega, by omega⟩, by omega⟩
  refine ⟨by omega, rg_small (by omega), hb, fun _ => step v4, fun h5 => ?_⟩
  rw [h5] at h348
  rw [hG]
  have h337 := h1.rb.g 337 20 0 4 (by decide) (x := (10 * (G : Int) + b).toNat) (by omega)
  refine ⟨by omega, m_within hc (rg_small (by decide)) (rg_small (by omega)) (fun e2 => ⟨rg_small (by decide), fun h => absurd h (by decide), fun _ => ?_⟩) (fun _ => ⟨rg_small (by decide), fun _ => step v4, fun h => absurd rfl h⟩)⟩
  have h350 := h1.rb.g 350 320 (-1) 7 (by decide) (x := (40 * (i : Int) + 4 * (k : Int) + c).toNat) (by omega)
  rw [hG]
  exact ⟨by omega, rg_small (by omega), fun _ => ⟨by omega, step (10 * M' 350 (40 * (i : Int) + 4 * (k : Int) + c).toNat + M' 339 (4 * (10 * (G : Int) + b) + c).toNat)⟩, fun _ => step (-1)⟩
theorem r_needs {M : fm_M} (h : RI T n w M) {st : Nat} {Y : Ga} (hx : RX st Y M) {a : Int} (ha : rg a) (h0 : ∀ M', KP M M' → ((¬ hvl st Y ∧ M' 331 0 = 1) ∨ (hvl st Y ∧ ¬ (0 ≤ a ∧ a < (SR Y).1.1) ∧ M' 331 0 = 2)) → post 0 M') (h1 : ∀ M' (i : Nat), a = i → i < 8 → KP M M' → hvl st Y → i < (SR Y).1.1 → M' 331 0 = 0 → post 1 M') : wp_Mo_needsValue M a post thr := by
  have B0 : (∃ i : Nat, a = i ∧ i < 8 ∧ hvl st Y ∧ i < (SR Y).1.1) → B_Mo_needsValue_25 a post thr M 0 := fun ⟨i, e, hi, hv, hx⟩ M1 e1 => by
    have a1 : M1 331 0 = 0 := by rw [e1, fu_at, if_pos rfl]
    rw [a1]
    exact ⟨rg_small (by decide), fun h => absurd rfl h, fun _ => h1 M1 i e hi (KP.u e1) hv hx a1⟩
  have Bs : ∀ s : Int, ((¬ hvl st Y ∧ s = 1) ∨ (hvl st Y ∧ ¬ (0 ≤ a ∧ a < (SR Y).1.1) ∧ s = 2)) → B_Mo_needsValue_25 a post thr M s := fun s hs M1 e1 => by
    have a1 : M1 331 0 = s := by rw [e1, fu_at, if_pos rfl]
    have hs2 : s = 1 ∨ s = 2 := by
      rcases hs with ⟨_, e⟩ | ⟨_, _, e⟩
      · exact Or.inl e
      · exact Or.inr e
    rw [a1]
    exact ⟨rg_small (by omega), fun _ => h0 M1 (KP.u e1) (by rw [a1]; exact hs), fun h => by omega⟩
  refine ⟨rg_small (by rcases h.sl with e | e <;> rw [e] <;> decide), fun hne => ?_, fun hz => Bs 1 (Or.inl ⟨fun hv => ?_, rfl⟩)⟩
  · have h22 : M 331 22 = 1 := by
      rcases h.sl with e | e
      · exact absurd e hne
      · exact e
    have hs : st = 2 := by
      apply Classical.byContradiction; intro hs
      rw [(hx.z hs).2.2] at h22; exact absurd h22 (by decide)
    have hv : hvl st Y := ⟨hs, SR_pos ((hx.f hs).2.2.1.mp h22)⟩
    have hn := (hx.f hs).1.n
    exact r_isState h ha (fun hno => ⟨rg_small (by decide), fun h => absurd rfl h, fun _ => Bs 2 (Or.inr ⟨hv, by rw [← hn]; exact hno, rfl⟩)⟩) (fun i G e hi hi2 _ _ => ⟨rg_small (by decide), fun _ => B0 ⟨i, e, hi, hv, by omega⟩, fun h => absurd h (by decide)⟩)
  · have := (hx.f hv.1).2.2.1.mpr (Int.le_of_lt hv.2)
    rw [hz] at this; exact absurd this (by decide)
theorem RI.upper {M : fm_M} (h : RI T n w M) {st : Nat} {Y : Ga} (hx : RX st Y M) {a : Int} (ha : rg a) (h0 : ∀ M', KP M M' → ((¬ hvl st Y ∧ M' 331 0 = 1) ∨ (hvl st Y ∧ ¬ (0 ≤ a ∧ a < (SR Y).1.1) ∧ M' 331 0 = 2)) → post 0 M') (h1 : ∀ M' (i : Nat), a = i → KP M M' → hvl st Y → i < (SR Y).1.1 → M' 331 0 = 0 → post (M 359 i) M') : wp_Mo_upper M a post thr :=
  r_needs h hx ha (fun M' k q => ⟨rg_small (by decide), fun _ => h0 M' k q, fun h => absurd rfl h⟩) (fun M' i e hi k hv hl z => ⟨rg_small (by decide), fun h => absurd h (by decide), fun _ => ⟨by omega, by rw [e, Int.toNat_natCast, k.cell 359 (by decide)]; exact h1 M' i e k hv hl z⟩⟩)
theorem RI.lower {M : fm_M} (h : RI T n w M) {st : Nat} {Y : Ga} (hx : RX st Y M) {a : Int} (ha : rg a) (h0 : ∀ M', KP M M' → ((¬ hvl st Y ∧ M' 331 0 = 1) ∨ (hvl st Y ∧ ¬ (0 ≤ a ∧ a < (SR Y).1.1) ∧ M' 331 0 = 2)) → post 0 M') (h1 : ∀ M' (i : Nat), a = i → KP M M' → hvl st Y → i < (SR Y).1.1 → M' 331 0 = 0 → post (M 360 i) M') : wp_Mo_lower M a post thr :=
  r_needs h hx ha (fun M' k q => ⟨rg_small (by decide), fun _ => h0 M' k q, fun h => absurd rfl h⟩) (fun M' i e hi k hv hl z => ⟨rg_small (by decide), fun h => absurd h (by decide), fun _ => ⟨by omega, by rw [e, Int.toNat_natCast, k.cell 360 (by decide)]; exact h1 M' i e k hv hl z⟩⟩)
theorem RI.good {M : fm_M} (h : RI T n w M) {st : Nat} {Y : Ga} (hx : RX st Y M) {a : Int} (ha : rg a) (h0 : ∀ M', KP M M' → ((¬ hvl st Y ∧ M' 331 0 = 1) ∨ (hvl st Y ∧ ¬ (0 ≤ a ∧ a < (SR Y).1.1) ∧ M' 331 0 = 2)) → post 0 M') (h1 : ∀ M' (i : Nat), a = i → KP M M' → hvl st Y → i < (SR Y).1.1 → M' 331 0 = 0 → post (M 361 i) M') : wp_Mo_good M a post thr :=
  r_needs h hx ha (fun M' k q => ⟨rg_small (by decide), fun _ => h0 M' k q, fun h => absurd rfl h⟩) (fun M' i e hi k hv hl z => ⟨rg_small (by decide), fun h => absurd h (by decide), fun _ => ⟨by omega, by rw [e, Int.toNat_natCast, k.cell 361 (by decide)]; exact h1 M' i e k hv hl z⟩⟩)
theorem slv_rg : ∀ a ∈ slv, 340 ≤ a := by decide
/-- the reference solves -/
theorem RI.solve {M : fm_M} (h : RI T n w M) {st : Nat} {Y : Ga} (hx : RX st Y M) (k0 : ∀ M', st = 0 → M' 331 0 = 1 → (∀ q, q ≤ 330 → M' q = M q) → M' 362 = M 362 → RI T n w M' → RX st Y M' → post 0 M') (k1 : ∀ r M', st ≠ 0 → r = (SR Y).2.2.2 → M' 331 0 = 0 → (∀ q, q ≤ 330 → M' q = M q) → M' 362 = M 362 → RI T n w M' → RX 2 Y M' → post r M') : wp_Mo_solve M post thr := by
  have hg : M 331 6 = -1 ∨ ((M 331 6 = 0 ∨ M 331 6 = 1) ∧ gwf M) := by
    rcases h.hg with ⟨e, _⟩ | ⟨e, w, _⟩
    · exact Or.inl e
    · exact Or.inr ⟨e, w⟩
  have hs0 : M 331 6 = -1 → st = 0 := fun e => by
    apply Classical.byContradiction; intro hs
    have := (hx.a1 hs).1; omega
  have hs1 : M 331 6 = 0 ∨ M 331 6 = 1 → st ≠ 0 := fun e hs => by have := hx.a0 hs; omega
  refine spec_moSolve h.rb hg (Y := Y) (fun e => (hx.a1 (hs1 e)).2) (fun M' e th s rb => ?_) (fun r M' e th rr sl2 s ex sl vy => ?_)
  · have ec : ∀ q, q ≠ 331 → M' q = M q := fun q hq => s.cell q (by simp) hq
    refine k0 M' (hs0 e) th (fun q hq => ec q (by omega)) (ec 362 (by decide)) (h.same (fun q h1 h2 => ec q (by omega)) (fun b hb => s.slot b (by simp; exact hb))) (hx.same (fun b hb => s.slot b (by simp; omega)) (fun a h1 h2 => ec a (by omega)))
  · have c : ∀ q, q < 340 → q ≠ 331 → M' q = M q := fun q hq hne => s.cell q (fun hh => by have := slv_rg q hh; omega) hne
    have gw : gwf M := by
      rcases hg with x | x
      · omega
      · exact x.2
    have e6 : M' 331 6 = M 331 6 := s.slot 6 (by decide)
    refine k1 r M' (hs1 e) rr.2.2 th (fun q hq => c q (by omega) (by omega)) (s.cell 362 (by decide) (by decide)) ⟨⟨h.mt.t, by rw [s.slot 2 (by decide)]; exact h.mt.len, by rw [c 332 (by omega) (by omega)]; exact h.mt.ch⟩, ex.rb, Or.inr ⟨by rw [e6]; exact e, gwf_same gw e6 (fun q hq => c q (by omega) (by omega)), ex⟩, sl, by rw [s.slot 4 (by decide)]; exact h.wr⟩ ⟨fun hs => absurd hs (by decide), fun _ => ⟨by rw [e6]; exact e, ?_⟩, fun hs => absurd rfl hs, fun _ => ⟨rr.1, rr.2.1, by rw [← rr.2.2]; exact sl2.symm, by rw [← rr.2.2]; exact vy⟩⟩
    rw [e6]
    exact (hx.a1 (hs1 e)).2.same (fun a h1 h2 => s.cell a (by simp; omega) (by omega))
end Calls5
end Pu_cj
