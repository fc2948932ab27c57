set_option maxRecDepth 10000
section Pu_L
/-! What every number of the reference keeps to. -/
def RBt : List (Nat × Nat × Int × Int) := [(333, 6, 0, 9), (334, 6, 0, 9), (335, 2, 0, 10), (336, 20, 0, 1), (337, 20, 0, 4), (338, 20, 0, 6), (339, 80, 0, 6), (340, 22, 0, 4), (341, 88, 0, 65535), (342, 416, 0, 4), (343, 1664, 0, 102), (344, 1664, 0, 1), (345, 24, 0, 9), (346, 8, 0, 1), (347, 8, 0, 1), (348, 80, 0, 9), (349, 8, 0, 10), (350, 320, -1, 7), (351, 3, 0, 9), (332, 200, 0, 65535)]
def RB (M : fm_M) : Prop := ∀ q ∈ RBt, ∀ x, x < q.2.1 → q.2.2.1 ≤ M q.1 x ∧ M q.1 x ≤ q.2.2.2
theorem RB.g {M : fm_M} (h : RB M) (c n : Nat) (a b : Int) (hq : (c, n, a, b) ∈ RBt) {x : Nat} (hx : x < n) : a ≤ M c x ∧ M c x ≤ b := h _ hq x hx
theorem RB.o {M : fm_M} (h : RB M) {c : Nat} (hc : ∀ q ∈ RBt, q.1 ≠ c) (p : Nat) (v : Int) : RB (fm_u M c p v) := fun q hq x hx => by
  rw [fu_off _ _ _ (hc q hq)]; exact h q hq x hx
theorem RBu_uniq : ∀ q ∈ RBt, ∀ r ∈ RBt, q.1 = r.1 → q = r := by decide
theorem RB.u {M : fm_M} (h : RB M) (c n : Nat) (a b : Int) (hq : (c, n, a, b) ∈ RBt) (p : Nat) (v : Int) (hv : a ≤ v ∧ v ≤ b) : RB (fm_u M c p v) := fun q hq2 x hx => by
  by_cases e : q.1 = c
  · have : q = (c, n, a, b) := RBu_uniq q hq2 _ hq e
    subst this
    show a ≤ fm_u M c p v c x ∧ fm_u M c p v c x ≤ b
    rw [fu_at]; split
    · exact hv
    · exact h _ hq x hx
  · rw [fu_off _ _ _ e]; exact h q hq2 x hx
theorem spec_sumIn {M : fm_M} (h : RB M) {s i : Nat} (hs : s < 416) (hi : i < 8) {post : Int → fm_M → Prop} {thr : String → fm_M → Prop} (hp : ∀ r, -400 ≤ r ∧ r ≤ 400 → post r M) : wp_Mo_sumIn M s i post thr := by
  have h1 := h.g 342 416 0 4 (by decide) hs
  refine ⟨fun M' v3 v4 => M' = M ∧ ∃ k : Nat, v4 = 4 * s + k ∧ (k : Int) ≤ M 342 s ∧ -(99 * k) ≤ v3 ∧ v3 ≤ 99 * k, fun _ _ v4 => (4 * s + 4 - v4).toNat, ⟨rfl, 0, by omega, by omega, by omega, by omega⟩, ?_⟩
  rintro M' v3 v4 ⟨rfl, k, rfl, hk, h3, h4⟩
  unfold C_Mo_sumIn_7
  rw [Int.toNat_natCast]
  refine ⟨by omega, rg_small (by omega), rg_small (by omega), fun h5 => hp v3 (by omega), fun h5 => ⟨by omega, ?_⟩⟩
  have e : ((4 * (s : Int)) + (k : Int)).toNat = 4 * s + k := by omega
  rw [e]
  have h6 := h.g 343 1664 0 102 (by decide) (x := 4 * s + k) (by omega)
  have h7 := h.g 344 1664 0 1 (by decide) (x := 4 * s + k) (by omega)
  have fin : ∀ z : Int, 0 ≤ z ∧ z ≤ 99 → B_Mo_sumIn_63 s i post thr (fun M'_1 v3' v4' => (M'_1 = M' ∧ ∃ k : Nat, v4' = 4 * s + k ∧ (k : Int) ≤ M' 342 s ∧ -(99 * k) ≤ v3' ∧ v3' ≤ 99 * k) ∧ (4 * s + 4 - v4').toNat < (4 * s + 4 - ((4 * s : Int) + k)).toNat) M' v3 (4 * s + k) z := by
    intro z hz
    unfold B_Mo_sumIn_63
    rw [e]
    exact ⟨by omega, rg_small (by omega), fun _ => ⟨⟨rfl, k + 1, by omega, by omega, by omega, by omega⟩, by omega⟩, fun _ => ⟨⟨rfl, k + 1, by omega, by omega, by omega, by omega⟩, by omega⟩⟩
  refine ⟨rg_small (by omega), fun h8 => ⟨by omega, fin _ ?_⟩, fun h8 => fin _ (by omega)⟩
  have := h.g 345 24 0 9 (by decide) (x := (3 * (i : Int) + M' 343 (4 * s + k) - 100).toNat) (by omega)
  omega
theorem spec_holds {M : fm_M} (h : RB M) (hg : M 331 6 = 0 ∨ M 331 6 = 1) {g i : Nat} (hgd : g ≤ 10) (hi : i < 8) {post : Int → fm_M → Prop} {thr : String → fm_M → Prop} (h0 : post 0 M) (h1 : post 1 M) : wp_Mo_holds M g i post thr := by
  obtain ⟨G, hG, hG1⟩ : ∃ G : Nat, M 331 6 = G ∧ G ≤ 1 := ⟨(M 331 6).toNat, by omega, by omega⟩
  have e1 : (11 * (G : Int) + (g : Int)).toNat = 11 * G + g := by omega
  have ht := h.g 340 22 0 4 (by decide) (x := 11 * G + g) (by omega)
  refine ⟨fun M' v3 v4 => M' = M ∧ (v3 = 0 ∨ v3 = 1) ∧ ∃ k : Nat, v4 = k ∧ (k : Int) ≤ M 340 (11 * G + g), fun _ _ v4 => (4 - v4).toNat, ⟨rfl, Or.inr rfl, 0, rfl, by omega⟩, ?_⟩
  rintro M' v3 v4 ⟨rfl, hv3, k, rfl, hk⟩
  have rv : rg v3 := rg_small (by rcases hv3 with e | e <;> rw [e] <;> decide)
  unfold C_Mo_holds_5
  rw [hG, e1]
  refine ⟨by omega, rg_small (by omega), rg_small (by omega), fun h5 => ⟨hv3, by rcases hv3 with e | e <;> rw [e] <;> assumption⟩, fun h5 => ?_⟩
  have e2 : 208 * (G : Int) + 8 * (g : Int) + 2 * (k : Int) = ((208 * G + 8 * g + 2 * k : Nat) : Int) := by omega
  have e3 : 208 * (G : Int) + 8 * (g : Int) + 2 * (k : Int) + 1 = ((208 * G + 8 * g + 2 * k + 1 : Nat) : Int) := by omega
  rw [e3, e2]
  refine spec_sumIn h (by omega) hi (fun x hx => spec_sumIn h (by omega) hi (fun y hy => ?_))
  rw [hG]
  have e4 : (44 * (G : Int) + 4 * (g : Int) + (k : Int)).toNat = 44 * G + 4 * g + k := by omega
  rw [e4]
  have hs := h.g 341 88 0 65535 (by decide) (x := 44 * G + 4 * g + k) (by omega)
  have no : ∀ z : Int, (z = 0 ∨ z = 1) → (fun M'_1 v3' v4' => (M'_1 = M' ∧ (v3' = 0 ∨ v3' = 1) ∧ ∃ k : Nat, v4' = k ∧ (k : Int) ≤ M' 340 (11 * G + g)) ∧ (4 - v4').toNat < (4 - (k : Int)).toNat : fm_M → Int → Int → Prop) M' z ((k : Int) + 1) := fun z hz => ⟨⟨rfl, hz, k + 1, by omega, by omega⟩, by omega⟩
  have n0 := no 0 (Or.inl rfl)
  have n1 := no 1 (Or.inr rfl)
  refine ⟨by omega, rv, fun _ => n0, fun _ => ⟨rg_small (by omega), fun _ => ⟨fun _ => ⟨fun _ => ⟨rg_small (by omega), rg_small (by omega), fun _ => n0, fun _ => n1⟩, fun _ => ⟨rg_small (by omega), rg_small (by omega), fun _ => n0, fun _ => n1⟩⟩, fun _ => ⟨rg_small (by omega), rg_small (by omega), fun _ => n0, fun _ => n1⟩⟩, fun _ => ⟨rg_small (by omega), rg_small (by omega), fun _ => n0, fun _ => n1⟩⟩⟩
/-- on the way of the search: which ends of branches are known -/
def EX (M : fm_M) (P : Nat → Nat → Nat → Prop) : Prop :=
  (RB M) ∧
  (M 331 6 = 0 ∨ M 331 6 = 1) ∧
  (0 ≤ M 331 20 ∧ M 331 20 ≤ 8) ∧
  (∀ j k, j < (Gof M).n → k < (Gof M).cc j → M 348 (10 * j + k) < M 335 (M 331 6).toNat) ∧
  (∀ j, j < (Gof M).n → M 346 j ≠ 0 → M 349 j = 0) ∧
  (∀ j k b, j < (Gof M).n → k < (Gof M).cc j → b < (Gof M).nb j k → P j k b → 0 ≤ M 350 (40 * j + 4 * k + b) ∧ M 350 (40 * j + 4 * k + b) < M 331 20)
theorem EX.rb {M : fm_M} {P : Nat → Nat → Nat → Prop} (h_ : EX M P) : RB M := h_.1
theorem EX.hg {M : fm_M} {P : Nat → Nat → Nat → Prop} (h_ : EX M P) : M 331 6 = 0 ∨ M 331 6 = 1 := h_.2.1
theorem EX.hn {M : fm_M} {P : Nat → Nat → Nat → Prop} (h_ : EX M P) : 0 ≤ M 331 20 ∧ M 331 20 ≤ 8 := h_.2.2.1
theorem EX.cm {M : fm_M} {P : Nat → Nat → Nat → Prop} (h_ : EX M P) : ∀ j k, j < (Gof M).n → k < (Gof M).cc j → M 348 (10 * j + k) < M 335 (M 331 6).toNat := h_.2.2.2.1
theorem EX.tgc {M : fm_M} {P : Nat → Nat → Nat → Prop} (h_ : EX M P) : ∀ j, j < (Gof M).n → M 346 j ≠ 0 → M 349 j = 0 := h_.2.2.2.2.1
theorem EX.to {M : fm_M} {P : Nat → Nat → Nat → Prop} (h_ : EX M P) : ∀ j k b, j < (Gof M).n → k < (Gof M).cc j → b < (Gof M).nb j k → P j k b → 0 ≤ M 350 (40 * j + 4 * k + b) ∧ M 350 (40 * j + 4 * k + b) < M 331 20 := h_.2.2.2.2.2
theorem EX.mono {M : fm_M} {P Q : Nat → Nat → Nat → Prop} (h : EX M P) (hq : ∀ j k b, Q j k b → P j k b) : EX M Q := ⟨h.rb, h.hg, h.hn, h.cm, h.tgc, fun j k b a1 a2 a3 a4 => h.to j k b a1 a2 a3 (hq _ _ _ a4)⟩
/-- older states stay as they are -/
def old (n : Nat) (M M' : fm_M) : Prop :=
  (∀ j, j < n → M' 346 j = M 346 j) ∧
  (∀ j, j < n → M' 347 j = M 347 j) ∧
  (∀ j, j < n → M' 349 j = M 349 j) ∧
  (M' 348 = M 348) ∧
  (∀ x, x < 40 * n → M' 350 x = M 350 x)
theorem old.c346 {n : Nat} {M M' : fm_M} (h_ : old n M M') : ∀ j, j < n → M' 346 j = M 346 j := h_.1
theorem old.c347 {n : Nat} {M M' : fm_M} (h_ : old n M M') : ∀ j, j < n → M' 347 j = M 347 j := h_.2.1
theorem old.c349 {n : Nat} {M M' : fm_M} (h_ : old n M M') : ∀ j, j < n → M' 349 j = M 349 j := h_.2.2.1
theorem old.c348 {n : Nat} {M M' : fm_M} (h_ : old n M M') : M' 348 = M 348 := h_.2.2.2.1
theorem old.c350 {n : Nat} {M M' : fm_M} (h_ : old n M M') : ∀ x, x < 40 * n → M' 350 x = M 350 x := h_.2.2.2.2
theorem old.rfl {n : Nat} {M : fm_M} : old n M M := ⟨fun _ _ => Eq.refl _, fun _ _ => Eq.refl _, fun _ _ => Eq.refl _, Eq.refl _, fun _ _ => Eq.refl _⟩
abbrev exl : List Nat := [345, 346, 347, 348, 349, 350, 351]
theorem EX.grow {M M' : fm_M} {P : Nat → Nat → Nat → Prop} (h : EX M P) (s : sv exl [20, 21] M M') (o : old (Gof M).n M M') (rb : RB M') (hn : M' 331 20 = M 331 20 ∨ (M' 331 20 = M 331 20 + 1 ∧ M' 331 20 ≤ 8 ∧ M' 349 (Gof M).n = 0)) : EX M' P := by
  have hh := h.hn
  have en : (Gof M).n = (M 331 20).toNat := _root_.rfl
  have en' : (Gof M').n = (M' 331 20).toNat := _root_.rfl
  have ec : ∀ j, (Gof M').cc j = (M' 349 j).toNat := fun _ => _root_.rfl
  have ec0 : ∀ j, (Gof M).cc j = (M 349 j).toNat := fun _ => _root_.rfl
  have eg : ∀ j k, gi M' j k = gi M j k := fun j k => by unfold gi; rw [s.slot 6 (by decide), o.c348]
  have eb : ∀ j k, (Gof M').nb j k = (Gof M).nb j k := fun j k => by show (M' 337 _).toNat = (M 337 _).toNat; rw [eg, s.cell 337 (by decide) (by decide)]
  have key : ∀ j, j < (Gof M').n → 0 < (Gof M').cc j → j < (Gof M).n ∧ (Gof M').cc j = (Gof M).cc j := fun j hj hc => by
    have : j < (Gof M).n := by
      rcases hn with e | ⟨e, e2, e3⟩
      · omega
      · by_cases e4 : j = (Gof M).n
        · rw [ec, e4, e3] at hc; exact absurd hc (by decide)
        · omega
    exact ⟨this, by rw [ec, ec0, o.c349 j this]⟩
  refine ⟨rb, by rw [s.slot 6 (by decide)]; exact h.hg, by omega, fun j k hj hk => ?_, fun j hj ht => ?_, fun j k b hj hk hb hP => ?_⟩
  · obtain ⟨a, e⟩ := key j hj (by omega)
    rw [o.c348, s.cell 335 (by decide) (by decide), s.slot 6 (by decide)]
    exact h.cm j k a (by rw [← e]; exact hk)
  · by_cases hc : 0 < (Gof M').cc j
    · obtain ⟨a, e⟩ := key j hj hc
      rw [o.c346 j a] at ht
      rw [o.c349 j a]; exact h.tgc j a ht
    · have := rb.g 349 8 0 10 (by decide) (x := j) (by omega)
      rw [ec] at hc; omega
  · obtain ⟨a, e⟩ := key j hj (by omega)
    have hcc := h.rb.g 349 8 0 10 (by decide) (x := j) (by omega)
    have hnb := h.rb.g 337 20 0 4 (by decide) (x := gi M j k) (by
      have := h.rb.g 348 80 0 9 (by decide) (x := 10 * j + k) (by rw [e, ec0] at hk; omega)
      have := h.hg
      unfold gi; omega)
    have hk' : k < (Gof M).cc j := by rw [← e]; exact hk
    rw [eb] at hb
    have hb4 : (Gof M).nb j k = (M 337 (gi M j k)).toNat := _root_.rfl
    rw [ec0] at hk'
    rw [o.c350 _ (by omega)]
    have := h.to j k b a (by rw [ec0]; exact hk') hb hP
    omega
theorem spec_find {M : fm_M} (h : RB M) (hg : M 331 6 = 0 ∨ M 331 6 = 1) (hn : 0 ≤ M 331 20 ∧ M 331 20 ≤ 8) {post : Int → fm_M → Prop} {thr : String → fm_M → Prop}
    (h0 : M 331 20 = 8 → post (-1) M) (h1 : ∀ i : Nat, (i : Int) < M 331 20 → post i M) (h2 : ∀ M', sv [345, 346, 347, 349, 350] [20] M M' → old (Gof M).n M M' → RB M' → M' 331 20 = M 331 20 + 1 → M' 331 20 ≤ 8 → M' 349 (Gof M).n = 0 → post (M 331 20) M') : wp_Mo_find M post thr := by
  have en : (Gof M).n = (M 331 20).toNat := rfl
  refine ⟨fun M' v1 => M' = M ∧ ∃ i : Nat, v1 = i ∧ (i : Int) ≤ M 331 20, fun _ v1 => (M 331 20 - v1).toNat, ⟨rfl, 0, rfl, by omega⟩, ?_⟩
  rintro M1 v1 ⟨rfl, i, rfl, hi⟩
  unfold C_Mo_find_2
  refine ⟨rg_small (by omega), rg_small (by omega), fun h3 => ⟨fun h4 => ?_, h0⟩, fun h3 => ?_⟩
  · -- a new state
    refine ⟨fun M' v1 => ∃ v : Nat, v1 = v ∧ v ≤ 3 ∧ ex1 345 M1 M' ∧ RB M', fun _ v1 => (3 - v1).toNat, ⟨0, rfl, by omega, ex1.rfl, h⟩, ?_⟩
    rintro M2 v1 ⟨v, rfl, hv, hx, rb⟩
    have e331 : M2 331 = M1 331 := hx 331 (by decide)
    unfold C_Mo_find_86
    rw [e331]
    refine ⟨rg_small (by omega), fun h5 => ?_, fun h5 => ⟨by omega, by omega, fun M3 hM3 => ⟨⟨v + 1, by omega, by omega, by rw [hM3]; exact hx.u, ?_⟩, by dsimp only; omega⟩⟩⟩
    · have e10 : (10 : Int) = ((10 : Nat) : Int) := rfl
      have ecn : M1 331 20 = (((M1 331 20).toNat : Nat) : Int) := by omega
      have fin : ∀ r : Int, (r = 0 ∨ r = 1) → (0 ≤ M1 331 20 ∧ M1 331 20 < 8) ∧ (r = 0 ∨ r = 1) ∧ ∀ M63 : fm_M, M63 = fm_u M2 346 (M1 331 20).toNat r → ((0 ≤ (M63 331 20) ∧ (M63 331 20) < 8) ∧ (∀ M65 : fm_M, M65 = fm_u M63 349 (M63 331 20).toNat 0 → ((0 ≤ (M65 331 20) ∧ (M65 331 20) < 8) ∧ (∀ M67 : fm_M, M67 = fm_u M65 347 (M65 331 20).toNat 0 → (B_Mo_find_163 post thr M67 (40 * (M67 331 20))))))) := by
        intro r hr
        refine ⟨by omega, hr, fun M3 e3 => ?_⟩
        have a3 : M3 331 = M1 331 := by rw [e3, fu_off _ _ _ (by decide), e331]
        have rb3 : RB M3 := by rw [e3]; exact rb.u 346 8 0 1 (by decide) _ _ (by omega)
        rw [a3]
        refine ⟨by omega, fun M4 e4 => ?_⟩
        have a4 : M4 331 = M1 331 := by rw [e4, fu_off _ _ _ (by decide), a3]
        have rb4 : RB M4 := by rw [e4]; exact rb3.u 349 8 0 10 (by decide) _ _ (by omega)
        rw [a4]
        refine ⟨by omega, fun M5 e5 => ?_⟩
        have a5 : M5 331 = M1 331 := by rw [e5, fu_off _ _ _ (by decide), a4]
        have rb5 : RB M5 := by rw [e5]; exact rb4.u 347 8 0 1 (by decide) _ _ (by omega)
        have s5 : sv [345, 346, 347, 349, 350] [20] M1 M5 := by
          rw [e5, e4, e3]; exact (((sv.ofx hx (by decide) (by decide)).u (by decide) (by decide)).u (by decide) (by decide)).u (by decide) (by decide)
        have o5 : old (Gof M1).n M1 M5 := by
          refine ⟨fun j hj => ?_, fun j hj => ?_, fun j hj => ?_, ?_, fun x _ => ?_⟩
          · rw [e5, fu_off _ _ _ (by decide), e4, fu_off _ _ _ (by decide), e3, fu_at, if_neg (by omega), hx 346 (by decide)]
          · rw [e5, fu_at, if_neg (by rw [← en]; omega), e4, fu_off _ _ _ (by decide), e3, fu_off _ _ _ (by decide), hx 347 (by decide)]
          · rw [e5, fu_off _ _ _ (by decide), e4, fu_at, if_neg (by rw [← en]; omega), e3, fu_off _ _ _ (by decide), hx 349 (by decide)]
          · rw [e5, fu_off _ _ _ (by decide), e4, fu_off _ _ _ (by decide), e3, fu_off _ _ _ (by decide), hx 348 (by decide)]
          · rw [e5, fu_off _ _ _ (by decide), e4, fu_off _ _ _ (by decide), e3, fu_off _ _ _ (by decide), hx 350 (by decide)]
        have z5 : M5 349 (Gof M1).n = 0 := by rw [e5, fu_off _ _ _ (by decide), e4, fu_at, if_pos (by rw [en])]
        refine ⟨fun M' v1 => ∃ x : Nat, v1 = x ∧ 40 * (Gof M1).n ≤ x ∧ x ≤ 40 * (Gof M1).n + 40 ∧ M' 331 = M1 331 ∧ sv [345, 346, 347, 349, 350] [20] M1 M' ∧ old (Gof M1).n M1 M' ∧ RB M' ∧ M' 349 (Gof M1).n = 0, fun _ v1 => (400 - v1).toNat, ⟨40 * (Gof M1).n, by rw [a5]; omega, by omega, by omega, a5, s5, o5, rb5, z5⟩, ?_⟩
        rintro M6 v1 ⟨x, rfl, hx1, hx2, a6, s6, o6, rb6, z6⟩
        unfold C_Mo_find_163
        rw [a6]
        refine ⟨rg_small (by omega), rg_small (by omega), fun h6 M7 e7 => ?_, fun h6 => ⟨by omega, fun M7 e7 => ⟨⟨x + 1, by omega, by omega, by omega, by rw [e7, fu_off _ _ _ (by decide), a6], by rw [e7]; exact s6.u (by decide) (by decide), ?_, by rw [e7]; exact rb6.u 350 320 (-1) 7 (by decide) _ _ (by omega), by rw [e7, fu_off _ _ _ (by decide)]; exact z6⟩, by dsimp only; omega⟩⟩⟩
        · have a7 : M7 331 20 = M1 331 20 + 1 := by rw [e7, fu_at, if_pos rfl]
          rw [a7, show M1 331 20 + 1 - 1 = M1 331 20 by omega]
          refine h2 M7 (by rw [e7]; exact s6.us (by decide)) ?_ (by rw [e7]; exact rb6.o (by decide) _ _) a7 (by omega) (by rw [e7, fu_off _ _ _ (by decide)]; exact z6)
          have hf : ∀ a, a ≠ 331 → M7 a = M6 a := fun a ha => by rw [e7]; exact fu_off _ _ _ ha
          exact ⟨fun j hj => by rw [hf 346 (by decide)]; exact o6.c346 j hj, fun j hj => by rw [hf 347 (by decide)]; exact o6.c347 j hj, fun j hj => by rw [hf 349 (by decide)]; exact o6.c349 j hj, by rw [hf 348 (by decide)]; exact o6.c348, fun x hx => by rw [hf 350 (by decide)]; exact o6.c350 x hx⟩
        · have hf : ∀ a, a ≠ 350 → M7 a = M6 a := fun a ha => by rw [e7]; exact fu_off _ _ _ ha
          refine ⟨fun j hj => by rw [hf 346 (by decide)]; exact o6.c346 j hj, fun j hj => by rw [hf 347 (by decide)]; exact o6.c347 j hj, fun j hj => by rw [hf 349 (by decide)]; exact o6.c349 j hj, by rw [hf 348 (by decide)]; exact o6.c348, fun y hy => ?_⟩
          rw [e7, fu_at, if_neg (by omega)]; exact o6.c350 y hy
      have hgd : M2 331 6 = 0 ∨ M2 331 6 = 1 := by rw [e331]; exact hg
      rw [e10, ecn]
      refine spec_holds rb hgd (by omega) (by omega) ?_ ?_
      · have := fin 0 (Or.inl rfl)
        rw [← ecn]; exact this
      · have := fin 1 (Or.inr rfl)
        rw [← ecn]; exact this
    · have hb := rb.g 351 3 0 9 (by decide) (x := v) (by omega)
      rw [hM3]; exact rb.u 345 24 0 9 (by decide) _ _ (by rw [Int.toNat_natCast]; exact hb)
  · have b0 := h.g 351 3 0 9 (by decide) (x := 0) (by omega)
    have b1 := h.g 351 3 0 9 (by decide) (x := 1) (by omega)
    have b2 := h.g 351 3 0 9 (by decide) (x := 2) (by omega)
    have c0 := h.g 345 24 0 9 (by decide) (x := (3 * (i : Int)).toNat) (by omega)
    have c1 := h.g 345 24 0 9 (by decide) (x := (3 * (i : Int) + 1).toNat) (by omega)
    have c2 := h.g 345 24 0 9 (by decide) (x := (3 * (i : Int) + 2).toNat) (by omega)
    have nx : (fun M'_1 v1' => (M'_1 = M1 ∧ ∃ i : Nat, v1' = i ∧ (i : Int) ≤ M1 331 20) ∧ (M1 331 20 - v1').toNat < (M1 331 20 - (i : Int)).toNat : fm_M → Int → Prop) M1 ((i : Int) + 1) := ⟨⟨rfl, i + 1, by omega, by omega⟩, by omega⟩
    exact ⟨by omega, rg_small (by omega), rg_small (by omega), fun _ => nx, fun _ => ⟨by omega, rg_small (by omega), rg_small (by omega), fun _ => nx, fun _ => ⟨by omega, rg_small (by omega), rg_small (by omega), fun _ => nx, fun _ => h1 i (by omega)⟩⟩⟩
end Pu_L
section Pu_N
theorem spec_enable {M : fm_M} {i : Nat} (h : EX M (fun j _ _ => j < i)) (hi : i < (Gof M).n) (hc : M 349 i = 0) {post : Int → fm_M → Prop} {thr : String → fm_M → Prop}
    (h1 : ∀ r M', (r = 0 ∨ r = 1) → sv exl [20, 21] M M' → EX M' (fun j _ _ => j < i) → (Gof M').n = (Gof M).n → (∀ j, j ≠ i → M' 349 j = M 349 j) → post r M') : wp_Mo_enable M i post thr := by
  have hn := h.hn
  have en : (Gof M).n = (M 331 20).toNat := rfl
  obtain ⟨G, hG, hG1⟩ : ∃ G : Nat, M 331 6 = G ∧ G ≤ 1 := ⟨(M 331 6).toNat, by have := h.hg; omega, by have := h.hg; omega⟩
  have hco := h.rb.g 335 2 0 10 (by decide) (x := G) (by omega)
  refine ⟨fun M' v2 v3 => ∃ c : Nat, v3 = c ∧ (c : Int) ≤ M 335 G ∧ (v2 = 0 ∨ v2 = 1) ∧ sv exl [20, 21] M M' ∧ EX M' (fun j _ _ => j < i) ∧ (Gof M').n = (Gof M).n ∧ (∀ j, j ≠ i → M' 349 j = M 349 j) ∧ 0 ≤ M' 349 i ∧ M' 349 i ≤ c ∧ M' 346 = M 346, fun _ _ v3 => (10 - v3).toNat, ⟨0, rfl, by omega, Or.inl rfl, sv.refl, h, rfl, fun _ _ => rfl, by omega, by omega, rfl⟩, ?_⟩
  rintro M1 v2 v3 ⟨c, rfl, hc1, hv2, s1, E1, n1, o1, c1, c2, t1⟩
  have rv : rg v2 := rg_small (by rcases hv2 with e | e <;> rw [e] <;> decide)
  have g1 : M1 331 6 = G := by rw [s1.slot 6 (by decide)]; exact hG
  have hm := E1.rb.g 347 8 0 1 (by decide) (x := i) (by omega)
  have ht := E1.rb.g 346 8 0 1 (by decide) (x := i) (by omega)
  unfold C_Mo_enable_4
  rw [g1, Int.toNat_natCast, Int.toNat_natCast, s1.cell 335 (by decide) (by decide)]
  refine ⟨by omega, rg_small (by omega), rg_small (by omega), fun h3 => ⟨by omega, rg_small (by omega), fun _ => h1 0 M1 (Or.inl rfl) s1 E1 n1 o1, fun _ => ⟨rv, fun _ => h1 0 M1 (Or.inl rfl) s1 E1 n1 o1, fun _ => h1 1 M1 (Or.inr rfl) s1 E1 n1 o1⟩⟩, fun h3 => ⟨by omega, rg_small (by omega), fun h4 => ⟨⟨c + 1, by omega, by omega, hv2, s1, E1, n1, o1, c1, by omega, t1⟩, by dsimp only; omega⟩, fun h4 => ?_⟩⟩
  refine spec_holds E1.rb E1.hg (by omega) (by omega) ⟨rg_small (by decide), fun _ => ⟨⟨c + 1, by omega, by omega, hv2, s1, E1, n1, o1, c1, by omega, t1⟩, by dsimp only; omega⟩, fun h => absurd rfl h⟩ ⟨rg_small (by decide), fun h => absurd h (by decide), fun _ => ⟨by omega, fun M2 e2 M3 e3 => ?_⟩⟩
  obtain ⟨q, hq⟩ : ∃ q : Nat, M1 349 i = q := ⟨(M1 349 i).toNat, by omega⟩
  have a2 : ∀ a, a ≠ 348 → M2 a = M1 a := fun a ha => by rw [e2]; exact fu_off _ _ _ ha
  have a3 : ∀ a, a ≠ 349 → M3 a = M2 a := fun a ha => by rw [e3]; exact fu_off _ _ _ ha
  rw [hq, show ((10 * (i : Int)) + (q : Int)).toNat = 10 * i + q by omega] at e2
  rw [a2 349 (by decide), hq] at e3
  have rb2 : RB M2 := by rw [e2]; exact E1.rb.u 348 80 0 9 (by decide) _ _ (by omega)
  have rb3 : RB M3 := by rw [e3]; exact rb2.u 349 8 0 10 (by decide) _ _ (by omega)
  have s3 : sv exl [20, 21] M M3 := by rw [e3]; exact (show sv exl [20, 21] M M2 by rw [e2]; exact s1.u (by decide) (by decide)).u (by decide) (by decide)
  have c349 : ∀ j, M3 349 j = if j = i then (q : Int) + 1 else M1 349 j := fun j => by rw [e3, fu_at, a2 349 (by decide)]
  have c348 : ∀ x, M3 348 x = if x = 10 * i + q then (c : Int) else M1 348 x := fun x => by rw [a3 348 (by decide), e2, fu_at]
  have e331 : M3 331 = M1 331 := by rw [a3 331 (by decide), a2 331 (by decide)]
  -- the search stands as before
  have E3 : EX M3 (fun j _ _ => j < i) := by
    have n3 : (Gof M3).n = (Gof M1).n := by show (M3 331 20).toNat = (M1 331 20).toNat; rw [e331]
    refine ⟨rb3, by rw [e331]; exact E1.hg, by rw [e331]; exact E1.hn, fun j k hj hk => ?_, fun j hj htj => ?_, fun j k b hj hk hb hP => ?_⟩
    · rw [n3] at hj
      have hk' : k < (M3 349 j).toNat := hk
      have hj8 : j < 8 := by have := E1.hn; have : (Gof M1).n = (M1 331 20).toNat := rfl; omega
      have hcj := rb3.g 349 8 0 10 (by decide) (x := j) hj8
      rw [c348, e331, g1, a3 335 (by decide), a2 335 (by decide), s1.cell 335 (by decide) (by decide), Int.toNat_natCast]
      by_cases e : 10 * j + k = 10 * i + q
      · rw [if_pos e]; omega
      · rw [if_neg e]
        have := E1.cm j k hj (by
          show k < (M1 349 j).toNat
          rw [c349] at hk'
          by_cases e4 : j = i
          · subst e4; rw [if_pos rfl] at hk'; omega
          · rw [if_neg e4] at hk'; exact hk')
        rw [g1, s1.cell 335 (by decide) (by decide), Int.toNat_natCast] at this; exact this
    · rw [n3] at hj
      rw [a3 346 (by decide), a2 346 (by decide)] at htj
      rw [c349]
      by_cases e : j = i
      · subst e; exact absurd h4 htj
      · rw [if_neg e]; exact E1.tgc j hj htj
    · rw [n3] at hj
      have hji : j ≠ i := by omega
      have hk' : k < (Gof M1).cc j := by
        have : k < (M3 349 j).toNat := hk
        rw [c349, if_neg hji] at this; exact this
      have hj8 : j < 8 := by omega
      have hk10 : k < 10 := by have : k < (M1 349 j).toNat := hk'; have := E1.rb.g 349 8 0 10 (by decide) (x := j) hj8; omega
      have hgi : gi M3 j k = gi M1 j k := by unfold gi; rw [e331, c348, if_neg (by omega)]
      have hb' : b < (Gof M1).nb j k := by
        have : b < (M3 337 (gi M3 j k)).toNat := hb
        rw [hgi, a3 337 (by decide), a2 337 (by decide)] at this; exact this
      rw [a3 350 (by decide), a2 350 (by decide), e331]
      exact E1.to j k b hj hk' hb' hP
  have hm3 : M3 347 i = M1 347 i := by rw [a3 347 (by decide), a2 347 (by decide)]
  have fin : ∀ s0 : Int, (s0 = 0 ∨ s0 = 1) → B_Mo_enable_98 i post thr (fun M'_1 v2' v3' => (∃ c : Nat, v3' = c ∧ (c : Int) ≤ M 335 G ∧ (v2' = 0 ∨ v2' = 1) ∧ sv exl [20, 21] M M'_1 ∧ EX M'_1 (fun j _ _ => j < i) ∧ (Gof M'_1).n = (Gof M).n ∧ (∀ j, j ≠ i → M'_1 349 j = M 349 j) ∧ 0 ≤ M'_1 349 i ∧ M'_1 349 i ≤ c ∧ M'_1 346 = M 346) ∧ (10 - v3').toNat < (10 - (c : Int)).toNat) M3 v2 c s0 := by
    intro s0 hs0
    unfold B_Mo_enable_98
    rw [Int.toNat_natCast]
    refine ⟨by omega, hs0, fun M4 e4 => ?_⟩
    have a4 : ∀ a, a ≠ 347 → M4 a = M3 a := fun a ha => by rw [e4]; exact fu_off _ _ _ ha
    have rb4 : RB M4 := by rw [e4]; exact rb3.u 347 8 0 1 (by decide) _ _ (by omega)
    have E4 : EX M4 (fun j _ _ => j < i) := by
      have hG4 : ∀ j k, gi M4 j k = gi M3 j k := fun j k => by unfold gi; rw [a4 331 (by decide), a4 348 (by decide)]
      have e1 : (Gof M4).n = (Gof M3).n := by show (M4 331 20).toNat = (M3 331 20).toNat; rw [a4 331 (by decide)]
      have e5 : (Gof M4).cc = (Gof M3).cc := by funext j; show (M4 349 j).toNat = (M3 349 j).toNat; rw [a4 349 (by decide)]
      have e6 : (Gof M4).nb = (Gof M3).nb := by funext j k; show (M4 337 _).toNat = (M3 337 _).toNat; rw [a4 337 (by decide), hG4]
      refine ⟨rb4, by rw [a4 331 (by decide)]; exact E3.hg, by rw [a4 331 (by decide)]; exact E3.hn, ?_, ?_, ?_⟩
      · rw [e1, e5, a4 348 (by decide), a4 331 (by decide), a4 335 (by decide)]; exact E3.cm
      · rw [e1, a4 346 (by decide), a4 349 (by decide)]; exact E3.tgc
      · rw [e1, e5, e6, a4 350 (by decide), a4 331 (by decide)]; exact E3.to
    have st : ∀ z : Int, (z = 0 ∨ z = 1) → (fun M'_1 v2' v3' => (∃ c : Nat, v3' = c ∧ (c : Int) ≤ M 335 G ∧ (v2' = 0 ∨ v2' = 1) ∧ sv exl [20, 21] M M'_1 ∧ EX M'_1 (fun j _ _ => j < i) ∧ (Gof M'_1).n = (Gof M).n ∧ (∀ j, j ≠ i → M'_1 349 j = M 349 j) ∧ 0 ≤ M'_1 349 i ∧ M'_1 349 i ≤ c ∧ M'_1 346 = M 346) ∧ (10 - v3').toNat < (10 - (c : Int)).toNat : fm_M → Int → Int → Prop) M4 z ((c : Int) + 1) := fun z hz => by
      refine ⟨⟨c + 1, by omega, by omega, hz, by rw [e4]; exact s3.u (by decide) (by decide), E4, ?_, fun j hj => ?_, ?_, ?_, ?_⟩, by omega⟩
      · show (M4 331 20).toNat = _; rw [a4 331 (by decide), e331]; exact n1
      · rw [a4 349 (by decide), c349, if_neg hj]; exact o1 j hj
      · rw [a4 349 (by decide), c349, if_pos rfl]; omega
      · rw [a4 349 (by decide), c349, if_pos rfl]; omega
      · rw [a4 346 (by decide), a3 346 (by decide), a2 346 (by decide)]; exact t1
    have hmx := rb4.g 336 20 0 1 (by decide) (x := 10 * G + c) (by omega)
    rw [a4 331 (by decide), e331, g1, show ((10 * (G : Int)) + (c : Int)).toNat = 10 * G + c by omega]
    exact ⟨rv, fun _ => st 1 (Or.inr rfl), fun _ => ⟨by omega, rg_small (by omega), fun _ => st 0 (Or.inl rfl), fun _ => st 1 (Or.inr rfl)⟩⟩
  have hmx := rb3.g 336 20 0 1 (by decide) (x := 10 * G + c) (by omega)
  rw [hm3, e331, g1, show ((10 * (G : Int)) + (c : Int)).toNat = 10 * G + c by omega]
  exact ⟨rg_small (by omega), fun _ => fin 1 (Or.inr rfl), fun _ => ⟨by omega, rg_small (by omega), fun _ => fin 0 (Or.inl rfl), fun _ => fin 1 (Or.inr rfl)⟩⟩
theorem spec_takeBranch {M : fm_M} (h : RB M) (hg : M 331 6 = 0 ∨ M 331 6 = 1) {i c b : Nat} (hi : i < 8) (hc : c < 10) (hb : b < 4) {post : Int → fm_M → Prop} {thr : String → fm_M → Prop} (hp : ∀ M', ex1 351 M M' → RB M' → post 0 M') : wp_Mo_takeBranch M i c b post thr := by
  obtain ⟨G, hG, hG1⟩ : ∃ G : Nat, M 331 6 = G ∧ G ≤ 1 := ⟨(M 331 6).toNat, by omega, by omega⟩
  refine ⟨fun M' v4 => ∃ v : Nat, v4 = v ∧ v ≤ 3 ∧ ex1 351 M M' ∧ RB M', fun _ v4 => (3 - v4).toNat, ⟨0, rfl, by omega, ex1.rfl, h⟩, ?_⟩
  rintro M1 v4 ⟨v, rfl, hv, hx, rb⟩
  have e331 : M1 331 = M 331 := hx 331 (by decide)
  unfold C_Mo_takeBranch_3
  refine ⟨rg_small (by omega), fun _ => hp M1 hx rb, fun h3 => ?_⟩
  unfold wp_Mo_updateAt
  rw [e331, hG]
  obtain ⟨u, hu⟩ : ∃ u : Nat, u = 208 * G + 88 + 12 * c + 3 * b + v := ⟨_, rfl⟩
  have eu : ((((208 * (G : Int)) + 88) + (12 * (c : Int))) + (3 * (b : Int))) + (v : Int) = (u : Int) := by omega
  rw [eu, Int.toNat_natCast]
  have hit := rb.g 342 416 0 4 (by decide) (x := u) (by omega)
  have hmo := rb.g 333 6 0 9 (by decide) (x := 3 * G + v) (by omega)
  have put : ∀ s0 : Int, 0 ≤ s0 ∧ s0 ≤ 9 → B_Mo_takeBranch_110 i c b post thr (fun M'_1 v4' => (∃ v : Nat, v4' = v ∧ v ≤ 3 ∧ ex1 351 M M'_1 ∧ RB M'_1) ∧ (3 - v4').toNat < (3 - (v : Int)).toNat) M1 v s0 v := fun s0 hs0 => ⟨by omega, fun M2 e2 => ⟨⟨v + 1, by omega, by omega, by rw [e2]; exact hx.u, by rw [e2]; exact rb.u 351 3 0 9 (by decide) _ _ hs0⟩, by omega⟩⟩
  have fin : ∀ s0 : Int, (-400 ≤ s0 ∧ s0 ≤ 400) → (s0 ≤ 9 ∨ 0 < M1 342 u) → B_Mo_takeBranch_53 i c b post thr (fun M'_1 v4' => (∃ v : Nat, v4' = v ∧ v ≤ 3 ∧ ex1 351 M M'_1 ∧ RB M'_1) ∧ (3 - v4').toNat < (3 - (v : Int)).toNat) M1 v u s0 := by
    intro s0 hs0 hs1
    have e9 : s0 ≤ 9 → B_Mo_takeBranch_99 i c b post thr (fun M'_1 v4' => (∃ v : Nat, v4' = v ∧ v ≤ 3 ∧ ex1 351 M M'_1 ∧ RB M'_1) ∧ (3 - v4').toNat < (3 - (v : Int)).toNat) M1 v s0 v := fun h9 => ⟨rg_small (by omega), fun _ => put s0 (by omega), fun _ => put 0 (by omega)⟩
    unfold B_Mo_takeBranch_53
    rw [e331, hG, Int.toNat_natCast, show ((3 * (G : Int)) + (v : Int)).toNat = 3 * G + v by omega]
    exact ⟨by omega, rg_small (by omega), rg_small (by omega), fun h5 => e9 (by omega), fun h5 => ⟨by omega, rg_small (by omega), fun h6 => e9 (by omega), fun h6 => put _ hmo⟩⟩
  refine ⟨by omega, rg_small (by omega), fun h5 => ⟨by omega, fin _ ?_ (Or.inl ?_)⟩, fun h5 => spec_sumIn rb (by omega) hi (fun r hr => fin r hr (Or.inr (by omega)))⟩
  · have := rb.g 345 24 0 9 (by decide) (x := (3 * (i : Int) + (v : Int)).toNat) (by omega); omega
  · have := rb.g 345 24 0 9 (by decide) (x := (3 * (i : Int) + (v : Int)).toNat) (by omega); omega
end Pu_N
section Pu_O
def Pf (i k b : Nat) : Nat → Nat → Nat → Prop := fun j k' b' => j < i ∨ (j = i ∧ (k' < k ∨ (k' = k ∧ b' < b)))
theorem EX.lead {M : fm_M} {P Q : Nat → Nat → Nat → Prop} (h : EX M P) {x : Nat} {r : Int} (hr : 0 ≤ r ∧ r < M 331 20) (hQ : ∀ j k b, j < (Gof M).n → k < (Gof M).cc j → b < (Gof M).nb j k → Q j k b → P j k b ∨ 40 * j + 4 * k + b = x) : EX (fm_u M 350 x r) Q := by
  have hn := h.hn
  have e : ∀ a, a ≠ 350 → fm_u M 350 x r a = M a := fun a ha => fu_off _ _ _ ha
  have en : (Gof (fm_u M 350 x r)).n = (Gof M).n := by show (fm_u M 350 x r 331 20).toNat = (M 331 20).toNat; rw [e 331 (by decide)]
  have ec : (Gof (fm_u M 350 x r)).cc = (Gof M).cc := by funext i; show (fm_u M 350 x r 349 i).toNat = (M 349 i).toNat; rw [e 349 (by decide)]
  have eb : (Gof (fm_u M 350 x r)).nb = (Gof M).nb := by
    funext i k; show (fm_u M 350 x r 337 (gi (fm_u M 350 x r) i k)).toNat = (M 337 (gi M i k)).toNat
    unfold gi; rw [e 337 (by decide), e 331 (by decide), e 348 (by decide)]
  refine ⟨h.rb.u 350 320 (-1) 7 (by decide) _ _ (by omega), by rw [e 331 (by decide)]; exact h.hg, by rw [e 331 (by decide)]; exact hn, ?_, ?_, fun j k b hj hk hb hq => ?_⟩
  · rw [en, ec, e 348 (by decide), e 335 (by decide), e 331 (by decide)]; exact h.cm
  · rw [en, e 346 (by decide), e 349 (by decide)]; exact h.tgc
  · rw [en] at hj; rw [ec] at hk; rw [eb] at hb
    rw [fu_at, e 331 (by decide)]
    by_cases e2 : 40 * j + 4 * k + b = x
    · rw [if_pos e2]; exact hr
    · rw [if_neg e2]
      rcases hQ j k b hj hk hb hq with h2 | h2
      · exact h.to j k b hj hk hb h2
      · exact absurd h2 e2
/-- on the way of follow -/
def FW (M M' : fm_M) (i : Nat) : Prop :=
  (sv exl [20, 21] M M') ∧
  ((Gof M).n ≤ (Gof M').n) ∧
  (M' 348 = M 348) ∧
  (∀ j, j < (Gof M).n → M' 349 j = M 349 j) ∧
  (∀ j, i < j → j < (Gof M').n → M' 349 j = 0)
theorem FW.s {M M' : fm_M} {i : Nat} (h_ : FW M M' i) : sv exl [20, 21] M M' := h_.1
theorem FW.n {M M' : fm_M} {i : Nat} (h_ : FW M M' i) : (Gof M).n ≤ (Gof M').n := h_.2.1
theorem FW.c348 {M M' : fm_M} {i : Nat} (h_ : FW M M' i) : M' 348 = M 348 := h_.2.2.1
theorem FW.c349 {M M' : fm_M} {i : Nat} (h_ : FW M M' i) : ∀ j, j < (Gof M).n → M' 349 j = M 349 j := h_.2.2.2.1
theorem FW.z {M M' : fm_M} {i : Nat} (h_ : FW M M' i) : ∀ j, i < j → j < (Gof M').n → M' 349 j = 0 := h_.2.2.2.2
theorem FW.grow {M M1 M2 : fm_M} {i : Nat} (h : FW M M1 i) (hn : 0 ≤ M1 331 20) (s : sv exl [20, 21] M1 M2) (o : old (Gof M1).n M1 M2) (hn2 : M2 331 20 = M1 331 20 ∨ (M2 331 20 = M1 331 20 + 1 ∧ M2 349 (Gof M1).n = 0)) : FW M M2 i := by
  have e1 : (Gof M1).n = (M1 331 20).toNat := rfl
  have e2 : (Gof M2).n = (M2 331 20).toNat := rfl
  have hnn := h.n
  refine ⟨h.s.tr s, by omega, by rw [o.c348]; exact h.c348, fun j hj => by rw [o.c349 j (by omega)]; exact h.c349 j hj, fun j h1 h2 => ?_⟩
  by_cases e : j < (Gof M1).n
  · rw [o.c349 j e]; exact h.z j h1 e
  · rcases hn2 with e3 | ⟨e3, e4⟩
    · omega
    · rw [show j = (Gof M1).n by omega]; exact e4
theorem spec_follow {M : fm_M} {i : Nat} (h : EX M (fun j _ _ => j < i)) (hi : i < (Gof M).n) (hz : ∀ j, i < j → j < (Gof M).n → M 349 j = 0) {post : Int → fm_M → Prop} {thr : String → fm_M → Prop}
    (h1 : ∀ M', FW M M' i → EX M' (fun j _ _ => j < i + 1) → post 1 M') (h0 : ∀ M', FW M M' i → EX M' (fun j _ _ => j < i) → post 0 M') : wp_Mo_follow M i post thr := by
  have hn := h.hn
  have en : (Gof M).n = (M 331 20).toNat := rfl
  have h8 : i < 8 := by omega
  have hcc := h.rb.g 349 8 0 10 (by decide) h8
  have ecc : (Gof M).cc i = (M 349 i).toNat := rfl
  have hcce : M 349 i = ((Gof M).cc i : Nat) := by omega
  refine ⟨fun M' v2 => ∃ k : Nat, v2 = k ∧ k ≤ (Gof M).cc i ∧ FW M M' i ∧ EX M' (Pf i k 0), fun _ v2 => (((Gof M).cc i : Int) - v2).toNat, ⟨0, rfl, by omega, ⟨sv.refl, Nat.le_refl _, rfl, fun _ _ => rfl, hz⟩, h.mono (fun j k b hP => ?_)⟩, ?_⟩
  · rcases hP with hP | ⟨_, hP | ⟨_, hP⟩⟩
    · exact hP
    · omega
    · omega
  rintro M1 v2 ⟨k, rfl, hk, F1, E1⟩
  unfold C_Mo_follow_2
  rw [Int.toNat_natCast, F1.c349 i hi, hcce]
  refine ⟨by omega, rg_small (by omega), rg_small (by omega), fun h3 => h1 M1 F1 ?_, fun h3 => ?_⟩
  · have : k = (Gof M).cc i := by omega
    subst this
    refine ⟨E1.rb, E1.hg, E1.hn, E1.cm, E1.tgc, fun j k b hj hk hb hP => E1.to j k b hj hk hb ?_⟩
    by_cases e : j < i
    · exact Or.inl e
    · refine Or.inr ⟨by omega, Or.inl ?_⟩
      have : k < (M1 349 j).toNat := hk
      rw [show j = i by omega, F1.c349 i hi] at this; omega
  · have hk' : k < (Gof M).cc i := by omega
    rw [show ((10 * (i : Int)) + (k : Int)).toNat = 10 * i + k by omega, F1.c348]
    have hch := h.rb.g 348 80 0 9 (by decide) (x := 10 * i + k) (by omega)
    obtain ⟨c, hc⟩ : ∃ c : Nat, M 348 (10 * i + k) = c := ⟨(M 348 (10 * i + k)).toNat, by omega⟩
    obtain ⟨G, hG, hG1⟩ : ∃ G : Nat, M 331 6 = G ∧ G ≤ 1 := ⟨(M 331 6).toNat, by have := h.hg; omega, by have := h.hg; omega⟩
    have hbr := h.rb.g 337 20 0 4 (by decide) (x := 10 * G + c) (by omega)
    have hgi : gi M i k = 10 * G + c := by unfold gi; rw [hG, hc]; omega
    obtain ⟨B, hB⟩ : ∃ B : Nat, M 337 (10 * G + c) = B := ⟨(M 337 (10 * G + c)).toNat, by omega⟩
    have hnb : (Gof M).nb i k = B := by show (M 337 (gi M i k)).toNat = B; rw [hgi, hB]; rfl
    rw [hc]
    refine ⟨by omega, ⟨fun M' v2 v3 v4 => v2 = k ∧ v3 = c ∧ ∃ b : Nat, v4 = b ∧ b ≤ B ∧ FW M M' i ∧ EX M' (Pf i k b), fun _ _ _ v4 => ((B : Int) - v4).toNat, ⟨rfl, rfl, 0, rfl, by omega, F1, E1⟩, ?_⟩⟩
    rintro M2 v2 v3 v4 ⟨rfl, rfl, b, rfl, hb, F2, E2⟩
    unfold C_Mo_follow_27
    rw [F2.s.slot 6 (by decide), hG, show ((10 * (G : Int)) + (c : Int)).toNat = 10 * G + c by omega, F2.s.cell 337 (by decide) (by decide), hB]
    refine ⟨by omega, rg_small (by omega), rg_small (by omega), fun h4 => ⟨⟨k + 1, by omega, by omega, F2, ?_⟩, by dsimp only; omega⟩, fun h4 => ?_⟩
    · have : b = B := by omega
      subst this
      refine ⟨E2.rb, E2.hg, E2.hn, E2.cm, E2.tgc, fun j k' b' hj hk hb' hP => E2.to j k' b' hj hk hb' ?_⟩
      rcases hP with hP | ⟨e, hP | ⟨_, hP⟩⟩
      · exact Or.inl hP
      · refine Or.inr ⟨e, ?_⟩
        by_cases e2 : k' < k
        · exact Or.inl e2
        · refine Or.inr ⟨by omega, ?_⟩
          have : b' < (M2 337 (gi M2 j k')).toNat := hb'
          have e3 : gi M2 j k' = gi M i k := by unfold gi; rw [F2.s.slot 6 (by decide), F2.c348, e, show k' = k by omega]
          rw [e3, F2.s.cell 337 (by decide) (by decide), hgi, hB] at this; omega
      · omega
    · refine spec_takeBranch E2.rb E2.hg h8 (by omega) (by omega) (fun M3 hx3 rb3 => ?_)
      have s3 : sv exl [20, 21] M2 M3 := sv.ofx hx3 (by decide) (by decide)
      have o3 : old (Gof M2).n M2 M3 := ⟨fun j _ => by rw [hx3 346 (by decide)], fun j _ => by rw [hx3 347 (by decide)], fun j _ => by rw [hx3 349 (by decide)], by rw [hx3 348 (by decide)], fun x _ => by rw [hx3 350 (by decide)]⟩
      have e20 : M3 331 20 = M2 331 20 := by rw [hx3 331 (by decide)]
      have E3 : EX M3 (Pf i k b) := E2.grow s3 o3 rb3 (Or.inl e20)
      have F3 : FW M M3 i := F2.grow E2.hn.1 s3 o3 (Or.inl e20)
      have hni : i < (Gof M3).n := by have := F3.n; omega
      -- the end of the branch is known
      have put : ∀ (M4 : fm_M) (r : Int), FW M M4 i → EX M4 (Pf i k b) → 0 ≤ r ∧ r < M4 331 20 → (0 ≤ (((40 * (i : Int)) + (4 * (k : Int))) + (b : Int)) ∧ (((40 * (i : Int)) + (4 * (k : Int))) + (b : Int)) < 320) ∧ ∀ M56 : fm_M, M56 = fm_u M4 350 (((40 * (i : Int)) + (4 * (k : Int))) + (b : Int)).toNat r → ((k : Int) = k ∧ (c : Int) = c ∧ ∃ b_1 : Nat, ((b : Int) + 1) = b_1 ∧ b_1 ≤ B ∧ FW M M56 i ∧ EX M56 (Pf i k b_1)) ∧ ((B : Int) - ((b : Int) + 1)).toNat < ((B : Int) - (b : Int)).toNat := by
        intro M4 r F4 E4 hr
        refine ⟨by omega, fun M5 e5 => ⟨⟨rfl, rfl, b + 1, by omega, by omega, ?_, ?_⟩, by omega⟩⟩
        · have e : ∀ a, a ≠ 350 → M5 a = M4 a := fun a ha => by rw [e5]; exact fu_off _ _ _ ha
          have e2 : (Gof M5).n = (Gof M4).n := by show (M5 331 20).toNat = (M4 331 20).toNat; rw [e 331 (by decide)]
          exact ⟨by rw [e5]; exact F4.s.u (by decide) (by decide), by rw [e2]; exact F4.n, by rw [e 348 (by decide)]; exact F4.c348, by rw [e 349 (by decide)]; exact F4.c349, by rw [e2, e 349 (by decide)]; exact F4.z⟩
        · rw [e5, show ((40 * (i : Int)) + (4 * (k : Int)) + (b : Int)).toNat = 40 * i + 4 * k + b by omega]
          refine E4.lead hr (fun j k' b' _ _ _ hP => ?_)
          rcases hP with hP | ⟨e, hP | ⟨e2, hP⟩⟩
          · exact Or.inl (Or.inl hP)
          · exact Or.inl (Or.inr ⟨e, Or.inl hP⟩)
          · by_cases e3 : b' = b
            · exact Or.inr (by omega)
            · exact Or.inl (Or.inr ⟨e, Or.inr ⟨e2, by omega⟩⟩)
      refine spec_find E3.rb E3.hg E3.hn (fun _ => ⟨rg_small (by decide), fun h => absurd h (by decide), fun _ => h0 M3 F3 (E3.mono (fun _ _ _ hP => Or.inl hP))⟩) (fun r hr => ⟨rg_small (by have := E3.hn; omega), fun _ => put M3 r F3 E3 (by omega), fun h => by omega⟩) (fun M4 s4 o4 rb4 e4 l4 z4 => ?_)
      have s4' : sv exl [20, 21] M3 M4 := s4.mono (by decide) (by decide)
      have E4 : EX M4 (Pf i k b) := E3.grow s4' o4 rb4 (Or.inr ⟨e4, l4, z4⟩)
      have F4 : FW M M4 i := F3.grow E3.hn.1 s4' o4 (Or.inr ⟨e4, z4⟩)
      have hh := E3.hn
      exact ⟨rg_small (by omega), fun _ => put M4 _ F4 E4 (by omega), fun h => by omega⟩
/-- a game that was read, in its place -/
def gwf (M : fm_M) : Prop := ∀ c : Nat, (c : Int) < M 335 (M 331 6).toNat → 1 ≤ M 337 (10 * (M 331 6).toNat + c) ∧ (∀ b : Nat, (b : Int) < M 337 (10 * (M 331 6).toNat + c) → 1 ≤ M 339 (4 * (10 * (M 331 6).toNat + c) + b)) ∧ M 338 (10 * (M 331 6).toNat + c) = sm (M 337 (10 * (M 331 6).toNat + c)).toNat (fun b => M 339 (4 * (10 * (M 331 6).toNat + c) + b))
theorem EX.gw {M : fm_M} (h : EX M (fun j _ _ => j < (Gof M).n)) (g : gwf M) : GW M := by
  have hn := h.hn
  have en : (Gof M).n = (M 331 20).toNat := rfl
  obtain ⟨G, hG, hG1⟩ : ∃ G : Nat, M 331 6 = G ∧ G ≤ 1 := ⟨(M 331 6).toNat, by have := h.hg; omega, by have := h.hg; omega⟩
  have hcc : ∀ i, i < (Gof M).n → 0 ≤ M 349 i ∧ M 349 i ≤ 10 := fun i hi => h.rb.g 349 8 0 10 (by decide) (by omega)
  have ecc : ∀ i, (Gof M).cc i = (M 349 i).toNat := fun _ => rfl
  -- a choice is a command
  have key : ∀ i k, i < (Gof M).n → k < (Gof M).cc i → ∃ c : Nat, M 348 (10 * i + k) = c ∧ c < 10 ∧ gi M i k = 10 * G + c ∧ (c : Int) < M 335 G := fun i k hi hk => by
    have h1 := hcc i hi
    have h2 := h.rb.g 348 80 0 9 (by decide) (x := 10 * i + k) (by rw [ecc] at hk; omega)
    have h3 := h.cm i k hi hk
    rw [hG, Int.toNat_natCast] at h3
    exact ⟨(M 348 (10 * i + k)).toNat, by omega, by omega, by unfold gi; rw [hG]; omega, by omega⟩
  unfold gwf at g
  rw [hG, Int.toNat_natCast] at g
  have hnb : ∀ i k, (Gof M).nb i k = (M 337 (gi M i k)).toNat := fun _ _ => rfl
  refine ⟨hn, by omega, hcc, fun i hi => ?_, fun i hi => ?_, fun i k hi hk => ?_, fun i k hi hk => ?_, fun i k b hi hk hb => ?_, fun i k hi hk => ?_, fun i k b hi hk hb => h.to i k b hi hk hb hi, h.tgc⟩
  · have := h.rb.g 346 8 0 1 (by decide) (x := i) (by omega); omega
  · have := h.rb.g 347 8 0 1 (by decide) (x := i) (by omega); omega
  · obtain ⟨c, e, h1, _⟩ := key i k hi hk; omega
  · obtain ⟨c, e, h1, e2, h2⟩ := key i k hi hk
    rw [e2]
    have := h.rb.g 337 20 0 4 (by decide) (x := 10 * G + c) (by omega)
    exact ⟨(g c h2).1, this.2⟩
  · obtain ⟨c, e, h1, e2, h2⟩ := key i k hi hk
    rw [hnb, e2] at hb
    have h3 := h.rb.g 337 20 0 4 (by decide) (x := 10 * G + c) (by omega)
    have h4 := h.rb.g 339 80 0 6 (by decide) (x := 4 * (10 * G + c) + b) (by omega)
    rw [e2]
    exact ⟨(g c h2).2.1 b (by omega), h4.2⟩
  · obtain ⟨c, e, h1, e2, h2⟩ := key i k hi hk
    have h3 := h.rb.g 338 20 0 6 (by decide) (x := 10 * G + c) (by omega)
    have h4 : (Gof M).wo i k = sm (M 337 (10 * G + c)).toNat (fun b => M 339 (4 * (10 * G + c) + b)) := by
      show sm (M 337 (gi M i k)).toNat (fun b => M 339 (4 * gi M i k + b)) = _; rw [e2]
    rw [h4, e2]
    exact ⟨(g c h2).2.2, h3.2⟩
/-- between the calls, while a game is there -/
def EX0 (M : fm_M) : Prop := EX M (fun _ _ _ => False)
theorem spec_explore {M : fm_M} (h : RB M) (hg : M 331 6 = 0 ∨ M 331 6 = 1) {post : Int → fm_M → Prop} {thr : String → fm_M → Prop}
    (hp : ∀ r M', r < 0 ∧ -10 ≤ r → sv exl [20, 21] M M' → EX0 M' → post r M') (hq : ∀ r M', 0 ≤ r ∧ r ≤ 8 → sv exl [20, 21] M M' → EX M' (fun j _ _ => j < (Gof M').n) → post r M') : wp_Mo_explore M post thr := by
  obtain ⟨G, hG, hG1⟩ : ∃ G : Nat, M 331 6 = G ∧ G ≤ 1 := ⟨(M 331 6).toNat, by omega, by omega⟩
  unfold wp_Mo_explore
  intro M1 e1 M2 e2
  have s2 : sv exl [20, 21] M M2 := by rw [e2, e1]; exact (sv.refl.us (by decide)).us (by decide)
  have rb2 : RB M2 := by rw [e2, e1]; exact (h.o (by decide) _ _).o (by decide) _ _
  have n2 : M2 331 20 = 0 := by rw [e2, fu_at, if_neg (by decide), e1, fu_at, if_pos rfl]
  refine ⟨fun M' v1 => ∃ v : Nat, v1 = v ∧ v ≤ 3 ∧ sv exl [20, 21] M M' ∧ RB M' ∧ M' 331 20 = 0, fun _ v1 => (3 - v1).toNat, ⟨0, rfl, by omega, s2, rb2, n2⟩, ?_⟩
  rintro M3 v1 ⟨v, rfl, hv, s3, rb3, n3⟩
  have g3 : M3 331 6 = G := by rw [s3.slot 6 (by decide)]; exact hG
  unfold C_Mo_explore_12
  rw [g3, show ((3 * (G : Int)) + (v : Int)).toNat = 3 * G + v by omega]
  refine ⟨rg_small (by omega), fun h4 => ?_, fun h4 => ⟨by omega, by omega, fun M4 e4 => ⟨⟨v + 1, by omega, by omega, by rw [e4]; exact s3.u (by decide) (by decide), ?_, by rw [e4, fu_off _ _ _ (by decide)]; exact n3⟩, by dsimp only; omega⟩⟩⟩
  · have E3 : EX M3 (fun j _ _ => j < 0) := by
      have : (Gof M3).n = 0 := by show (M3 331 20).toNat = 0; rw [n3]; rfl
      refine ⟨rb3, by rw [s3.slot 6 (by decide)]; exact hg, by omega, ?_, ?_, ?_⟩ <;> rw [this]
      · intro j k hj; omega
      · intro j hj; omega
      · intro j k b hj; omega
    -- the loop over the states
    have main : ∀ (M4 : fm_M) (r : Int), 0 ≤ r → sv exl [20, 21] M M4 → EX M4 (fun j _ _ => j < 0) → (∀ j, j < (Gof M4).n → M4 349 j = 0) → r = 0 → B_Mo_explore_47 post thr M4 r := by
      intro M4 r hr s4 E4 z4 hr0
      subst hr0
      refine ⟨fun M' v1 => ∃ i : Nat, v1 = i ∧ i ≤ (Gof M').n ∧ sv exl [20, 21] M M' ∧ EX M' (fun j _ _ => j < i) ∧ ∀ j, i ≤ j → j < (Gof M').n → M' 349 j = 0, fun _ v1 => (8 - v1).toNat, ⟨0, rfl, by omega, s4, E4, fun j _ hj => z4 j hj⟩, ?_⟩
      rintro M5 v1 ⟨i, rfl, hi, s5, E5, z5⟩
      have hn := E5.hn
      have en : (Gof M5).n = (M5 331 20).toNat := rfl
      unfold C_Mo_explore_47
      refine ⟨rg_small (by omega), rg_small (by omega), fun h6 => hq _ M5 hn s5 (by rw [show (Gof M5).n = i by omega]; exact E5), fun h6 => ?_⟩
      have hi' : i < (Gof M5).n := by omega
      refine spec_enable E5 hi' (z5 i (Nat.le_refl _) hi') (fun r M6 hr s6 E6 n6 o6 => ⟨rg_small (by omega), fun _ => ?_, fun _ M7 e7 => ?_⟩)
      · refine spec_follow E6 (by rw [n6]; exact hi') (fun j h1 h2 => by rw [o6 j (by omega)]; exact z5 j (by omega) (by rw [← n6]; exact h2)) (fun M7 F7 E7 => ⟨rg_small (by decide), fun _ => ⟨⟨i + 1, by omega, ?_, (s5.tr s6).tr F7.s, E7, fun j h1 h2 => F7.z j (by omega) h2⟩, by dsimp only; omega⟩, fun h => absurd h (by decide)⟩) (fun M7 F7 E7 => ⟨rg_small (by decide), fun h => absurd rfl h, fun _ => hp _ M7 (by omega) ((s5.tr s6).tr F7.s) (E7.mono (fun _ _ _ hF => hF.elim))⟩)
        have := F7.n; omega
      · refine hp _ M7 (by omega) (by rw [e7]; exact (s5.tr s6).us (by decide)) ?_
        have e : ∀ a, a ≠ 331 → M7 a = M6 a := fun a ha => by rw [e7]; exact fu_off _ _ _ ha
        have a20 : M7 331 20 = M6 331 20 := by rw [e7, fu_at, if_neg (by decide)]
        exact E6.mono (fun _ _ _ hF => hF.elim) |>.grow (by rw [e7]; exact sv.refl.us (by decide)) ⟨fun j _ => by rw [e 346 (by decide)], fun j _ => by rw [e 347 (by decide)], fun j _ => by rw [e 349 (by decide)], by rw [e 348 (by decide)], fun x _ => by rw [e 350 (by decide)]⟩ (by rw [e7]; exact E6.rb.o (by decide) _ _) (Or.inl a20)
    have en3 : (Gof M3).n = 0 := by show (M3 331 20).toNat = 0; rw [n3]; rfl
    refine spec_find rb3 E3.hg E3.hn (fun h => by omega) (fun i hi => by omega) (fun M4 s4 o4 rb4 a4 l4 z4 => ?_)
    rw [n3]
    refine main M4 0 (by omega) (s3.tr (s4.mono (by decide) (by decide))) (E3.grow (s4.mono (by decide) (by decide)) o4 rb4 (Or.inr ⟨a4, l4, z4⟩)) (fun j hj => ?_) rfl
    have : (Gof M4).n = (M4 331 20).toNat := rfl
    rw [show j = (Gof M3).n by omega]; exact z4
  · rw [e4]
    have := rb3.g 334 6 0 9 (by decide) (x := 3 * G + v) (by omega)
    exact rb3.u 351 3 0 9 (by decide) _ _ this

abbrev slv : List Nat := [345, 346, 347, 348, 349, 350, 351, 352, 353, 354, 355, 356, 357, 358, 359, 360, 361]
/-- what stays of the search when values are sought -/
theorem EX0.keep {M M' : fm_M} {cs bs : List Nat} (h : EX0 M) (s : sv cs bs M M') (hc : ∀ q ∈ RBt, q.1 ∉ cs) (hb : 6 ∉ bs ∧ 20 ∉ bs) : EX0 M' := by
  have e : ∀ q ∈ RBt, M' q.1 = M q.1 := fun q hq => s.cell q.1 (hc q hq) (by revert hq; revert q; decide)
  have rb : RB M' := fun q hq x hx => by rw [e q hq]; exact h.rb q hq x hx
  have c346 : M' 346 = M 346 := e (346, 8, 0, 1) (by decide)
  have c347 : M' 347 = M 347 := e (347, 8, 0, 1) (by decide)
  have c348 : M' 348 = M 348 := e (348, 80, 0, 9) (by decide)
  have c349 : M' 349 = M 349 := e (349, 8, 0, 10) (by decide)
  have c335 : M' 335 = M 335 := e (335, 2, 0, 10) (by decide)
  have e6 := s.slot 6 hb.1
  have e20 := s.slot 20 hb.2
  have en : (Gof M').n = (Gof M).n := by show (M' 331 20).toNat = (M 331 20).toNat; rw [e20]
  have ec : (Gof M').cc = (Gof M).cc := by funext j; show (M' 349 j).toNat = (M 349 j).toNat; rw [c349]
  refine ⟨rb, by rw [e6]; exact h.hg, by rw [e20]; exact h.hn, ?_, ?_, fun _ _ _ _ _ _ hF => hF.elim⟩
  · rw [en, ec, c348, c335, e6]; exact h.cm
  · rw [en, c346, c349]; exact h.tgc
theorem spec_moSolve {M : fm_M} (h : RB M) (hg : M 331 6 = -1 ∨ ((M 331 6 = 0 ∨ M 331 6 = 1) ∧ gwf M)) {post : Int → fm_M → Prop} {thr : String → fm_M → Prop}
    (h0 : ∀ M', M 331 6 = -1 → sv [] [0] M M' → RB M' → post 0 M') (h1 : ∀ r M', (M 331 6 = 0 ∨ M 331 6 = 1) → sv slv [0, 20, 21, 22, 34, 38] M M' → EX0 M' → (M' 331 22 = 0 ∨ M' 331 22 = 1) → post r M') : wp_Mo_solve M post thr := by
  unfold wp_Mo_solve
  refine ⟨rg_small (by omega), fun hge => ?_, fun hlt => ?_⟩
  · have hg01 : M 331 6 = 0 ∨ M 331 6 = 1 := by omega
    have gw0 : gwf M := by rcases hg with e | e; omega; exact e.2
    intro M1 e1
    have a1 : M1 331 0 = 0 := by rw [e1, fu_at, if_pos rfl]
    rw [a1]
    refine ⟨rg_small (by decide), fun _ M2 e2 => ?_, fun h => absurd (Int.le_refl 0) h⟩
    have s2 : sv slv [0, 20, 21, 22, 34, 38] M M2 := by rw [e2, e1]; exact (sv.refl.us (by decide)).us (by decide)
    have rb2 : RB M2 := by rw [e2, e1]; exact (h.o (by decide) _ _).o (by decide) _ _
    have g2 : M2 331 6 = M 331 6 := s2.slot 6 (by decide)
    have f2 : M2 331 22 = 0 := by rw [e2, fu_at, if_pos rfl]
    refine spec_explore rb2 (by rw [g2]; exact hg01) (fun r M3 hr s3 E3 => ⟨rg_small (by omega), fun h => by omega, fun _ => h1 r M3 hg01 (s2.tr (s3.mono (by decide) (by decide))) E3 (by rw [s3.slot 22 (by decide), f2]; exact Or.inl rfl)⟩) (fun r M3 hr s3 E3 => ⟨rg_small (by omega), fun _ => ?_, fun h => by omega⟩)
    have s03 : sv slv [0, 20, 21, 22, 34, 38] M M3 := s2.tr (s3.mono (by decide) (by decide))
    have gw3 : gwf M3 := by
      unfold gwf; rw [s03.slot 6 (by decide), s03.cell 335 (by decide) (by decide), s03.cell 337 (by decide) (by decide), s03.cell 338 (by decide) (by decide), s03.cell 339 (by decide) (by decide)]; exact gw0
    have w3 : GW M3 := E3.gw gw3
    have E30 : EX0 M3 := E3.mono (fun _ _ _ hF => hF.elim)
    refine spec_allowAll w3 (fun M4 s4 a4 => ?_)
    have w4 : GW M4 := GW_same s4 (by decide) (by decide) w3
    refine spec_solveGame w4 a4 (fun M5 s5 v5 => ?_)
    have s35 : sv [352, 353, 354, 355, 356, 357, 358, 359, 360, 361] [22, 34, 38] M3 M5 := (s4.mono (by decide) (by decide)).tr (s5.mono (by decide) (by decide))
    have w5 : GW M5 := GW_same s5 (by decide) (by decide) w4
    have hn := w5.n8
    obtain ⟨v5a, v5b, v5c⟩ := v5
    refine ⟨fun M' v1 v2 => v1 = r ∧ ∃ i : Nat, v2 = i ∧ i ≤ (Gof M5).n ∧ sv [359, 360, 361] [] M5 M' ∧ ∀ j, j < i → (0 ≤ M' 359 j ∧ M' 359 j ≤ 429981696) ∧ (0 ≤ M' 360 j ∧ M' 360 j ≤ 429981696), fun _ _ v2 => (((Gof M5).n : Int) - v2).toNat, ⟨rfl, 0, rfl, by omega, sv.refl, fun j hj => by omega⟩, ?_⟩
    rintro M6 v1 v2 ⟨rfl, i, rfl, hi, s6, b6⟩
    have e20 : M6 331 20 = (Gof M5).n := by rw [s6.slot 20 (by decide), hn.1]
    have w6 : GW M6 := GW_same s6 (by decide) (by decide) w5
    have hG6 : Gof M6 = Gof M5 := Gof_same s6 (by decide) (by decide) (by decide)
    unfold C_Mo_solve_51
    rw [e20, Int.toNat_natCast]
    refine ⟨rg_small (by omega), rg_small (by omega), fun h3 => ?_, fun h3 => ⟨by omega, ?_⟩⟩
    · have hlb6 : hlb M6 := by
        unfold hlb; rw [hG6]; exact fun j hj => b6 j (by omega)
      refine spec_findBest w6 hlb6 (Or.inr rfl) (fun M7 s7 => ?_)
      have w7 : GW M7 := GW_same s7 (by decide) (by decide) w6
      have n7 := (GW_al s7 (by decide) (by decide)).1
      have hlb7 : hlb M7 := by
        unfold hlb; rw [n7, s7.cell 359 (by decide) (by decide), s7.cell 360 (by decide) (by decide)]; exact hlb6
      refine spec_findBest w7 hlb7 (Or.inl rfl) (fun M8 s8 M9 e9 => ?_)
      have s39 : sv [352, 353, 354, 355, 356, 357, 358, 359, 360, 361] [22, 34, 38] M3 M9 := by
        rw [e9]
        exact (((s35.tr (s6.mono (by decide) (by decide))).tr (s7.mono (by decide) (by decide))).tr (s8.mono (by decide) (by decide))).us (by decide)
      exact h1 v1 M9 hg01 (s03.tr (s39.mono (by decide) (by decide))) (E30.keep s39 (by decide) (by decide)) (Or.inr (by rw [e9, fu_at, if_pos rfl]))
    · have hi' : i < (Gof M5).n := by omega
      have hv := v5c i hi'
      rw [s6.cell 358 (by decide) (by decide), s6.slot 38 (by decide)]
      refine spec_divisor ⟨hv.1, by omega⟩ ⟨v5a, v5b⟩ (fun d hd hd2 => ?_)
      rw [s6.cell 358 (by decide) (by decide)]
      refine ⟨⟨by omega, by omega⟩, ⟨by omega, by omega⟩, by omega, fun M7 e7 => ?_⟩
      have e38 : M7 331 38 = M5 331 38 := by rw [e7, fu_off _ _ _ (by decide), s6.slot 38 (by decide)]
      rw [e38]
      refine ⟨⟨by omega, by omega⟩, fun M8 e8 M9 e9 => ⟨⟨rfl, i + 1, by omega, by omega, ?_, fun j hj => ?_⟩, by dsimp only; omega⟩⟩
      · rw [e9, e8, e7]; exact ((s6.u (by decide) (by decide)).u (by decide) (by decide)).u (by decide) (by decide)
      · have c1 : M9 359 j = if j = i then (M5 358 i).tdiv d else M6 359 j := by rw [e9, fu_off _ _ _ (by decide), e8, fu_off _ _ _ (by decide), e7, fu_at]
        have c2 : M9 360 j = if j = i then (M5 331 38).tdiv d else M6 360 j := by rw [e9, fu_off _ _ _ (by decide), e8, fu_at, e7, fu_off _ _ _ (by decide)]
        have td : ∀ a : Int, 0 ≤ a → a ≤ 429981696 → 0 ≤ a.tdiv d ∧ a.tdiv d ≤ 429981696 := fun a h1 h2 => by
          rw [Int.tdiv_eq_ediv_of_nonneg h1]
          refine ⟨Int.ediv_nonneg h1 (by omega), ?_⟩
          have := Int.ediv_le_self d h1
          omega
        rw [c1, c2]
        by_cases e : j = i
        · rw [if_pos e, if_pos e]; exact ⟨td _ hv.1 (by omega), td _ (by omega) v5b⟩
        · rw [if_neg e, if_neg e]; exact b6 j (by omega)
  · intro M1 e1
    have a1 : M1 331 0 = 1 := by rw [e1, fu_at, if_pos rfl]
    rw [a1]
    exact ⟨rg_small (by decide), fun h => absurd h (by decide), fun _ => h0 M1 (by omega) (by rw [e1]; exact sv.refl.us (by decide)) (by rw [e1]; exact h.o (by decide) _ _)⟩
end Pu_O
