set_option maxRecDepth 10000
section Pu_G
/-! The reference's better choices. -/
theorem rg_jand (a b : Int) : rg (jand a b) := ⟨Int32.le_toInt _, Int32.toInt_le _⟩
theorem spec_has {M : fm_M} {a0 a1 : Int} {post : Int → fm_M → Prop} {thr : String → fm_M → Prop} (h0 : ¬ jand (jshr a0 a1) 1 = 1 → post 0 M) (h1 : jand (jshr a0 a1) 1 = 1 → post 1 M) : wp_Mo_has M a0 a1 post thr := ⟨rg_jand _ _, h0, h1⟩
def CF (M : fm_M) (i k : Nat) : Prop :=
  (10 * M 331 6 + M 348 (10 * i + k) = (gi M i k : Nat)) ∧
  (gi M i k < 20) ∧
  (M 337 (gi M i k) = ((Gof M).nb i k : Nat)) ∧
  (1 ≤ (Gof M).nb i k) ∧
  ((Gof M).nb i k ≤ 4) ∧
  (k < 10) ∧
  (i < 8) ∧
  (M 349 i = ((Gof M).cc i : Nat)) ∧
  ((Gof M).cc i ≤ 10)
theorem CF.hgi {M : fm_M} {i k : Nat} (h_ : CF M i k) : 10 * M 331 6 + M 348 (10 * i + k) = (gi M i k : Nat) := h_.1
theorem CF.gl {M : fm_M} {i k : Nat} (h_ : CF M i k) : gi M i k < 20 := h_.2.1
theorem CF.hnb {M : fm_M} {i k : Nat} (h_ : CF M i k) : M 337 (gi M i k) = ((Gof M).nb i k : Nat) := h_.2.2.1
theorem CF.nb1 {M : fm_M} {i k : Nat} (h_ : CF M i k) : 1 ≤ (Gof M).nb i k := h_.2.2.2.1
theorem CF.nb4 {M : fm_M} {i k : Nat} (h_ : CF M i k) : (Gof M).nb i k ≤ 4 := h_.2.2.2.2.1
theorem CF.k10 {M : fm_M} {i k : Nat} (h_ : CF M i k) : k < 10 := h_.2.2.2.2.2.1
theorem CF.i8 {M : fm_M} {i k : Nat} (h_ : CF M i k) : i < 8 := h_.2.2.2.2.2.2.1
theorem CF.cc {M : fm_M} {i k : Nat} (h_ : CF M i k) : M 349 i = ((Gof M).cc i : Nat) := h_.2.2.2.2.2.2.2.1
theorem CF.cc10 {M : fm_M} {i k : Nat} (h_ : CF M i k) : (Gof M).cc i ≤ 10 := h_.2.2.2.2.2.2.2.2
theorem GW.n8 {M : fm_M} (w : GW M) : ((Gof M).n : Int) = M 331 20 ∧ (Gof M).n ≤ 8 := by
  have := w.hn
  have : (Gof M).n = (M 331 20).toNat := rfl
  omega
theorem GW.cc' {M : fm_M} (w : GW M) {i : Nat} (hi : i < (Gof M).n) : M 349 i = ((Gof M).cc i : Nat) ∧ (Gof M).cc i ≤ 10 := by
  have := w.cc i hi
  have : (Gof M).cc i = (M 349 i).toNat := rfl
  omega
theorem GW.cf {M : fm_M} (w : GW M) {i k : Nat} (hi : i < (Gof M).n) (hk : k < (Gof M).cc i) : CF M i k := by
  have h1 := w.ch i k hi hk
  have h2 := w.hg
  have h3 := w.nb i k hi hk
  have h4 := w.cc' hi
  have h5 := w.n8
  have e : (Gof M).nb i k = (M 337 (gi M i k)).toNat := rfl
  refine ⟨by unfold gi; omega, by unfold gi; omega, by omega, by omega, by omega, by omega, by omega, h4.1, h4.2⟩
theorem spec_worth {M : fm_M} (w : GW M) {i k : Nat} (hi : i < (Gof M).n) (hk : k < (Gof M).cc i) {post : Int → fm_M → Prop} {thr : String → fm_M → Prop} (hp : post ((Gof M).S i k (M 358)) M) : wp_Mo_worth M i k post thr := by
  have c := w.cf hi hk
  obtain ⟨c1, c2, c3, c4, c5, c6, c7, c8, c9⟩ := c
  unfold wp_Mo_worth
  rw [show ((10 * (i : Int)) + (k : Int)).toNat = 10 * i + k by omega]
  refine ⟨by omega, ⟨fun M' v3 v4 v6 => M' = M ∧ v3 = M 348 (10 * i + k) ∧ ∃ b : Nat, v6 = b ∧ b ≤ (Gof M).nb i k ∧ v4 = sm b (fun b => (Gof M).wt i k b * M 358 ((Gof M).to i k b)), fun _ _ _ v6 => (((Gof M).nb i k : Int) - v6).toNat, ⟨rfl, rfl, 0, rfl, by omega, rfl⟩, ?_⟩⟩
  rintro M' v3 v4 v6 ⟨rfl, rfl, b, rfl, hb, rfl⟩
  unfold C_Mo_worth_18
  rw [c1, Int.toNat_natCast, c3]
  refine ⟨by omega, rg_small (by omega), rg_small (by omega), fun h => ?_, fun h => ?_⟩
  · have : b = (Gof M').nb i k := by omega
    subst this; exact hp
  · have hb' : b < (Gof M').nb i k := by omega
    have ht := w.to i k b hi hk hb'
    have hw := w.wt i k b hi hk hb'
    have h5 := w.n8
    rw [show ((4 * (gi M' i k : Int)) + (b : Int)).toNat = 4 * gi M' i k + b by omega, show ((40 * (i : Int)) + (4 * (k : Int)) + (b : Int)).toNat = 40 * i + 4 * k + b by omega]
    refine ⟨by omega, rg_small (by omega), by omega, by omega, ⟨rfl, rfl, b + 1, by omega, by omega, ?_⟩, by dsimp only; omega⟩
    simp only [sm]; rfl
def gain (M : fm_M) (i k : Nat) : Prop := (M 347 i ≠ 0 ∧ (Gof M).wo i k * M 358 i < (Gof M).S i k (M 358)) ∨ (M 347 i = 0 ∧ (Gof M).S i k (M 358) < (Gof M).wo i k * M 358 i)
/-- nothing is better -/
def res (M M' : fm_M) (i : Nat) : Prop := M' 353 i = M 353 i ∧ ∀ k, k < (Gof M).cc i → (Gof M).al i k → ¬ gain M i k
/-- something better is taken -/
def imp (M M' : fm_M) (i : Nat) : Prop := ∃ k : Nat, k < (Gof M).cc i ∧ (Gof M).al i k ∧ gain M i k ∧ M' 353 i = k
theorem S_bd {M : fm_M} (w : GW M) (hv : ∀ j, j < (Gof M).n → 0 ≤ M 358 j ∧ M 358 j ≤ 429981696) {i k : Nat} (hi : i < (Gof M).n) (hk : k < (Gof M).cc i) : 0 ≤ (Gof M).S i k (M 358) ∧ (Gof M).S i k (M 358) ≤ 2579890176 := by
  have h1 := Gd.S_le w.wf hi hk (h := fun _ => 0) (g := M 358) (fun j hj => (hv j hj).1)
  have h2 := Gd.S_le w.wf hi hk (h := M 358) (g := fun _ => 429981696) (fun j hj => (hv j hj).2)
  rw [Gd.S_const] at h1 h2
  have h3 := w.wo i k hi hk
  omega
theorem rl_m {a b : Int} (ha : 0 ≤ a ∧ a ≤ 2579890176) (hb : 0 ≤ b ∧ b ≤ 6) : rl (a * b) := by
  have h1 := Int.mul_nonneg ha.1 hb.1
  have h2 : a * b ≤ 2579890176 * 6 := Int.mul_le_mul ha.2 hb.2 hb.1 (by decide)
  exact ⟨by omega, by omega⟩
theorem alg5 {a b c d e f : Int} (hd : 0 < d) (h1 : c * d ≤ e * b) (h2 : b * f < c) (hb : 0 < b) : d * f < e := by
  -- b * (d * f) < c * d <= e * b
  have h3 : (b * f) * d < c * d := Int.mul_lt_mul_of_pos_right h2 hd
  have h4 : b * (d * f) < b * e := by
    have e1 : b * (d * f) = b * f * d := by grind
    have e2 : b * e = e * b := Int.mul_comm _ _
    omega
  exact Int.lt_of_mul_lt_mul_left h4 (Int.le_of_lt hb)
theorem alg6 {a b c d e f : Int} (hd : 0 < d) (h1 : e * b ≤ c * d) (h2 : c < b * f) (hb : 0 < b) : e < d * f := by
  have h3 : c * d < (b * f) * d := Int.mul_lt_mul_of_pos_right h2 hd
  have h4 : b * e < b * (d * f) := by
    have e1 : b * (d * f) = b * f * d := by grind
    have e2 : b * e = e * b := Int.mul_comm _ _
    omega
  exact Int.lt_of_mul_lt_mul_left h4 (Int.le_of_lt hb)
theorem spec_improve {M : fm_M} (w : GW M) (hv : ∀ j, j < (Gof M).n → 0 ≤ M 358 j ∧ M 358 j ≤ 429981696) {i : Nat} (hi : i < (Gof M).n) {post : Int → fm_M → Prop} {thr : String → fm_M → Prop}
    (h0 : ∀ M', sv [353] [] M M' → (∀ j, j ≠ i → M' 353 j = M 353 j) → res M M' i → post 0 M') (h1 : ∀ M', sv [353] [] M M' → (∀ j, j ≠ i → M' 353 j = M 353 j) → imp M M' i → post 1 M') : wp_Mo_improve M i post thr := by
  have hcc := w.cc' hi
  have hn := w.n8
  have hmx := w.mx i hi
  have hvi := hv i hi
  have r347 : rg (M 347 i) := rg_small (by rcases hmx with e | e <;> rw [e] <;> decide)
  unfold wp_Mo_improve
  rw [Int.toNat_natCast]
  refine ⟨by omega, ⟨fun M' v2 v3 v5 v7 => M' = M ∧ ∃ k : Nat, v7 = k ∧ k ≤ (Gof M).cc i ∧ ((v2 = -1 ∧ v3 = M 358 i ∧ v5 = 1 ∧ ∀ q, q < k → (Gof M).al i q → ¬ gain M i q) ∨ ∃ t : Nat, t < (Gof M).cc i ∧ v2 = t ∧ (Gof M).al i t ∧ v3 = (Gof M).S i t (M 358) ∧ v5 = (Gof M).wo i t ∧ gain M i t), fun _ _ _ _ v7 => (((Gof M).cc i : Int) - v7).toNat, ⟨rfl, 0, rfl, by omega, Or.inl ⟨rfl, rfl, rfl, fun q hq => by omega⟩⟩, ?_⟩⟩
  rintro M' v2 v3 v5 v7 ⟨rfl, k, rfl, hk, hI⟩
  have hv2 : -1 ≤ v2 ∧ v2 < 10 := by
    rcases hI with ⟨a, _⟩ | ⟨t, a, b, _⟩ <;> omega
  unfold C_Mo_improve_15
  rw [Int.toNat_natCast, hcc.1]
  refine ⟨by omega, rg_small (by omega), rg_small (by omega), fun h => ⟨rg_small (by omega), fun h2 => ?_, fun h2 => ?_⟩, fun h => ?_⟩
  · rcases hI with ⟨a, _⟩ | ⟨t, a, b, c, _, _, d⟩
    · omega
    · refine ⟨by omega, fun M2 hM2 => ⟨rg_small (by omega), fun h3 => by omega, fun h3 => h1 M2 ?_ ?_ ⟨t, a, c, d, ?_⟩⟩⟩
      · rw [hM2]; exact sv.refl.u (by decide) (by decide)
      · intro j hj; rw [hM2, fu_at, if_neg (by omega)]
      · rw [hM2, fu_at, if_pos (by omega)]; exact b
  · rcases hI with ⟨a, _, _, b⟩ | ⟨t, a, b, _⟩
    · refine ⟨by omega, fun M2 hM2 => ⟨rg_small (by omega), fun h3 => h0 M2 ?_ ?_ ⟨?_, fun q hq => b q (by omega)⟩, fun h3 => by omega⟩⟩
      · rw [hM2]; exact sv.refl.u (by decide) (by decide)
      · intro j hj; rw [hM2, fu_at, if_neg (by omega)]
      · rw [hM2, fu_at, if_pos (by omega)]
    · omega
  · have hk' : k < (Gof M').cc i := by omega
    have c := w.cf hi hk'
    have hwo := w.wo i k hi hk'
    have hw0 : 0 < (Gof M').wo i k := Gd.wo_pos w.wf (b := 0) hi hk' (by have := c.nb1; omega)
    have c10 := c.k10
    have cgl := c.gl
    rw [show ((10 * (i : Int)) + (k : Int)).toNat = 10 * i + k by omega, c.hgi, Int.toNat_natCast, hwo.1]
    have hS := S_bd w hv hi hk'
    -- what the two ends are
    have no : ∀ s0 : Int, ((Gof M').al i k → ¬ gain M' i k ∨ ¬ v2 = -1) → B_Mo_improve_141 i post thr (fun M'_1 v2' v3' v5' v7' => (M'_1 = M' ∧ ∃ k : Nat, v7' = k ∧ k ≤ (Gof M').cc i ∧ ((v2' = -1 ∧ v3' = M' 358 i ∧ v5' = 1 ∧ ∀ q, q < k → (Gof M').al i q → ¬ gain M' i q) ∨ ∃ t : Nat, t < (Gof M').cc i ∧ v2' = t ∧ (Gof M').al i t ∧ v3' = (Gof M').S i t (M' 358) ∧ v5' = (Gof M').wo i t ∧ gain M' i t)) ∧ (((Gof M').cc i : Int) - v7').toNat < (((Gof M').cc i : Int) - (k : Int)).toNat) M' v2 v3 v5 k ((Gof M').wo i k) s0 0 := by
      intro s0 hg
      refine ⟨rg_small (by omega), fun _ => ⟨rg_small (by omega), fun _ => ⟨rg_small (by omega), fun _ => ⟨⟨rfl, k + 1, by omega, by omega, ?_⟩, by omega⟩, fun h => absurd rfl h⟩, fun h => absurd rfl h⟩, fun h => absurd rfl h⟩
      rcases hI with ⟨a1, a2, a3, a4⟩ | h
      · refine Or.inl ⟨a1, a2, a3, fun q hq ha => ?_⟩
        by_cases e : q = k
        · subst e; rcases hg ha with h | h
          · exact h
          · exact absurd a1 h
        · exact a4 q (by omega) ha
      · exact Or.inr h
    have yes : (Gof M').al i k → gain M' i k → B_Mo_improve_136 i post thr (fun M'_1 v2' v3' v5' v7' => (M'_1 = M' ∧ ∃ k : Nat, v7' = k ∧ k ≤ (Gof M').cc i ∧ ((v2' = -1 ∧ v3' = M' 358 i ∧ v5' = 1 ∧ ∀ q, q < k → (Gof M').al i q → ¬ gain M' i q) ∨ ∃ t : Nat, t < (Gof M').cc i ∧ v2' = t ∧ (Gof M').al i t ∧ v3' = (Gof M').S i t (M' 358) ∧ v5' = (Gof M').wo i t ∧ gain M' i t)) ∧ (((Gof M').cc i : Int) - v7').toNat < (((Gof M').cc i : Int) - (k : Int)).toNat) M' v2 v3 v5 k ((Gof M').wo i k) ((Gof M').S i k (M' 358)) := by
      intro ha hg
      have nz : ¬ (1 : Int) = 0 := by decide
      refine ⟨rg_small (by omega), fun h => absurd h nz, fun _ => ⟨rg_small (by omega), fun h => absurd h nz, fun _ => ⟨rg_small (by omega), fun h => absurd h nz, fun _ => ⟨⟨rfl, k + 1, by omega, by omega, Or.inr ⟨k, hk', rfl, ha, rfl, rfl, hg⟩⟩, by omega⟩⟩⟩⟩
    have hv3 : 0 ≤ v3 ∧ v3 ≤ 2579890176 := by
      rcases hI with ⟨_, a, _⟩ | ⟨t, a, _, _, b, _⟩
      · omega
      · rw [b]; exact S_bd w hv hi a
    have hv5 : 0 < v5 ∧ v5 ≤ 6 := by
      rcases hI with ⟨_, _, a, _⟩ | ⟨t, a, _, _, _, b, _⟩
      · omega
      · have h1 := w.wo i t hi a
        have h2 : 0 < (Gof M').wo i t := Gd.wo_pos w.wf (b := 0) hi a (by have := (w.cf hi a).nb1; omega)
        omega
    refine ⟨by omega, by omega, rg_small (by omega), spec_has (fun hb => ⟨rg_small (by omega), fun _ => ?_, fun h => absurd rfl h⟩) (fun hb => ⟨rg_small (by omega), fun h => absurd h (by decide), fun _ => ?_⟩)⟩
    · refine ⟨by omega, ?_⟩
      rw [Int.toNat_natCast]
      refine spec_has (fun hb2 => ⟨rg_small (by omega), fun _ => no _ (fun ha => absurd ha hb), fun h => absurd rfl h⟩) (fun hb2 => absurd hb2 hb)
    · refine spec_worth w hi hk' ⟨by omega, ?_⟩
      rw [Int.toNat_natCast]
      refine spec_has (fun hb2 => absurd hb hb2) (fun hb2 => ⟨rg_small (by omega), fun h => absurd h (by decide), fun _ => ⟨r347, fun hm => ⟨rl_m hS (by omega), rl_m hv3 (by omega), fun hj => no _ (fun _ => ?_), fun hj => yes hb ?_⟩, fun hm => ⟨rl_m hS (by omega), rl_m hv3 (by omega), fun hj => no _ (fun _ => ?_), fun hj => yes hb ?_⟩⟩⟩)
      all_goals (rcases hI with ⟨a1, a2, a3, a4⟩ | ⟨t, a1, a2, a3, a4, a5, a6⟩)
      · refine Or.inl ?_
        rw [a2, a3] at hj
        rintro (⟨g1, g2⟩ | ⟨g1, g2⟩)
        · exact absurd hm g1
        · unfold jcmp at hj
          rw [Int.mul_comm (M' 358 i), if_neg (by omega), if_neg (by omega)] at hj; omega
      · exact Or.inr (by omega)
      · rw [a2, a3] at hj
        refine Or.inr ⟨hm, ?_⟩
        unfold jcmp at hj
        rw [Int.mul_comm (M' 358 i)] at hj
        split at hj
        · omega
        · split at hj
          · omega
          · omega
      · rcases a6 with ⟨g1, g2⟩ | ⟨g1, g2⟩
        · exact absurd hm g1
        · rw [a4, a5] at hj
          refine Or.inr ⟨hm, alg6 hw0 (c := (Gof M').S i t (M' 358)) (b := (Gof M').wo i t) (a := 0) ?_ g2 (by omega)⟩
          unfold jcmp at hj
          split at hj
          · omega
          · split at hj <;> omega
      · refine Or.inl ?_
        rw [a2, a3] at hj
        rintro (⟨g1, g2⟩ | ⟨g1, g2⟩)
        · unfold jcmp at hj
          rw [Int.mul_comm (M' 358 i), if_pos (by omega)] at hj; omega
        · exact absurd g1 hm
      · exact Or.inr (by omega)
      · rw [a2, a3] at hj
        refine Or.inl ⟨hm, ?_⟩
        unfold jcmp at hj
        rw [Int.mul_comm (M' 358 i)] at hj
        split at hj
        · omega
        · split at hj <;> omega
      · rcases a6 with ⟨g1, g2⟩ | ⟨g1, g2⟩
        · rw [a4, a5] at hj
          refine Or.inl ⟨hm, alg5 hw0 (c := (Gof M').S i t (M' 358)) (b := (Gof M').wo i t) (a := 0) ?_ g2 (by omega)⟩
          unfold jcmp at hj
          split at hj
          · omega
          · split at hj <;> omega
        · exact absurd g1 hm
end Pu_G
section Pu_H
/-! The reference's pass over the states, and what is lost. -/
def sel (M : fm_M) (a : Int) (i : Nat) : Prop := 0 < (Gof M).cc i ∧ M 347 i = a ∧ (a = 0 → M 354 i = 0)
theorem res_same {M M1 M2 : fm_M} {i : Nat} (h : res M M1 i) (e : M2 353 i = M1 353 i) : res M M2 i := ⟨by rw [e]; exact h.1, h.2⟩
theorem imp_same {M M1 M2 : fm_M} {i : Nat} (h : imp M M1 i) (e : M2 353 i = M1 353 i) : imp M M2 i := by
  obtain ⟨k, a, b, c, d⟩ := h; exact ⟨k, a, b, c, by rw [e]; exact d⟩
theorem spec_improveAll {M : fm_M} (w : GW M) (hv : ∀ j, j < (Gof M).n → 0 ≤ M 358 j ∧ M 358 j ≤ 429981696) (hl : ∀ j, j < (Gof M).n → M 354 j = 0 ∨ M 354 j = 1) {a : Int} (ha : a = 0 ∨ a = 1) {post : Int → fm_M → Prop} {thr : String → fm_M → Prop}
    (h0 : ∀ M', sv [353] [] M M' → (∀ i, i < (Gof M).n → M' 353 i = M 353 i) → (∀ i, i < (Gof M).n → sel M a i → res M M' i) → post 0 M') (h1 : ∀ M', sv [353] [] M M' → (∀ i, i < (Gof M).n → ¬ sel M a i → M' 353 i = M 353 i) → (∀ i, i < (Gof M).n → sel M a i → res M M' i ∨ imp M M' i) → (∃ i, i < (Gof M).n ∧ sel M a i ∧ imp M M' i) → post 1 M') : wp_Mo_improveAll M a post thr := by
  have hn := w.n8
  refine ⟨fun M' v2 v3 => ∃ i : Nat, v3 = i ∧ i ≤ (Gof M).n ∧ sv [353] [] M M' ∧ (∀ j, j < (Gof M).n → i ≤ j ∨ ¬ sel M a j → M' 353 j = M 353 j) ∧ (∀ j, j < i → sel M a j → res M M' j ∨ (v2 = 1 ∧ imp M M' j)) ∧ (v2 = 0 ∨ v2 = 1 ∧ ∃ j, j < i ∧ sel M a j ∧ imp M M' j), fun _ _ v3 => (((Gof M).n : Int) - v3).toNat, ⟨0, rfl, by omega, sv.refl, fun _ _ _ => rfl, fun j hj => by omega, Or.inl rfl⟩, ?_⟩
  rintro M' v2 v3 ⟨i, rfl, hin, hs, hsame, hr, hv2⟩
  have hv2' : v2 = 0 ∨ v2 = 1 := by
    rcases hv2 with h | ⟨h, _⟩
    · exact Or.inl h
    · exact Or.inr h
  have e20 : M' 331 20 = (Gof M).n := by rw [hs.slot 20 (by decide), hn.1]
  have hG : Gof M' = Gof M := Gof_same hs (by decide) (by decide) (by decide)
  have w' : GW M' := GW_same hs (by decide) (by decide) w
  have e358 : M' 358 = M 358 := hs.cell 358 (by decide) (by decide)
  have e347 : M' 347 = M 347 := hs.cell 347 (by decide) (by decide)
  have e354 : M' 354 = M 354 := hs.cell 354 (by decide) (by decide)
  have e349 : M' 349 = M 349 := hs.cell 349 (by decide) (by decide)
  have hgain : ∀ i k, gain M' i k ↔ gain M i k := fun i k => by unfold gain; rw [hG, e347, e358]
  have skip : i < (Gof M).n → ¬ sel M a i → (∃ i_1 : Nat, ((i : Int) + 1) = i_1 ∧ i_1 ≤ (Gof M).n ∧ sv [353] [] M M' ∧ (∀ j, j < (Gof M).n → i_1 ≤ j ∨ ¬ sel M a j → M' 353 j = M 353 j) ∧ (∀ j, j < i_1 → sel M a j → res M M' j ∨ (v2 = 1 ∧ imp M M' j)) ∧ (v2 = 0 ∨ v2 = 1 ∧ ∃ j, j < i_1 ∧ sel M a j ∧ imp M M' j)) ∧ (((Gof M).n : Int) - ((i : Int) + 1)).toNat < (((Gof M).n : Int) - (i : Int)).toNat := fun hi hns => by
    refine ⟨⟨i + 1, by omega, by omega, hs, fun j hj h => hsame j hj (by rcases h with h | h; exact Or.inl (by omega); exact Or.inr h), fun j hj hsl => ?_, ?_⟩, by omega⟩
    · by_cases e : j = i
      · subst e; exact absurd hsl hns
      · exact hr j (by omega) hsl
    · rcases hv2 with h | ⟨h, j, h2, h3⟩
      · exact Or.inl h
      · exact Or.inr ⟨h, j, by omega, h3⟩
  have rv2 : rg v2 := rg_small (by rcases hv2' with e | e <;> rw [e] <;> decide)
  have ra : rg a := rg_small (by rcases ha with e | e <;> rw [e] <;> decide)
  have doit : i < (Gof M).n → sel M a i → B_Mo_improveAll_44 a post thr (fun M'_1 v2' v3' => (∃ i : Nat, v3' = i ∧ i ≤ (Gof M).n ∧ sv [353] [] M M'_1 ∧ (∀ j, j < (Gof M).n → i ≤ j ∨ ¬ sel M a j → M'_1 353 j = M 353 j) ∧ (∀ j, j < i → sel M a j → res M M'_1 j ∨ (v2' = 1 ∧ imp M M'_1 j)) ∧ (v2' = 0 ∨ v2' = 1 ∧ ∃ j, j < i ∧ sel M a j ∧ imp M M'_1 j)) ∧ (((Gof M).n : Int) - v3').toNat < (((Gof M).n : Int) - (i : Int)).toNat) M' v2 i := fun hi hsl => by
    refine spec_improve w' (by rw [hG, e358]; exact hv) (by rw [hG]; exact hi) (fun M2 s2 o2 r2 => ⟨rg_small (by decide), fun h => absurd rfl h, fun _ => ⟨rv2, fun hz => ⟨⟨i + 1, by omega, by omega, hs.tr s2, ?_, ?_, Or.inl rfl⟩, by omega⟩, fun hz => ⟨⟨i + 1, by omega, by omega, hs.tr s2, ?_, ?_, ?_⟩, by omega⟩⟩⟩) (fun M2 s2 o2 r2 => ⟨rg_small (by decide), fun _ => ⟨⟨i + 1, by omega, by omega, hs.tr s2, ?_, ?_, ?_⟩, by omega⟩, fun h => absurd h (by decide)⟩)
    · intro j hj h
      have : j ≠ i := fun e => by subst e; rcases h with h | h; omega; exact h hsl
      rw [o2 j this]; exact hsame j hj (by rcases h with h | h; exact Or.inl (by omega); exact Or.inr h)
    · intro j hj hsj
      by_cases e : j = i
      · subst e
        exact Or.inl ⟨by rw [r2.1]; exact hsame j hi (Or.inl (Nat.le_refl _)), fun k hk hal hg => r2.2 k (by rw [hG]; exact hk) (by rw [hG]; exact hal) ((hgain j k).mpr hg)⟩
      · rcases hr j (by omega) hsj with h | ⟨h, _⟩
        · exact Or.inl (res_same h (o2 j e))
        · rw [hz] at h; exact absurd h (by decide)
    · intro j hj h
      have : j ≠ i := fun e => by subst e; rcases h with h | h; omega; exact h hsl
      rw [o2 j this]; exact hsame j hj (by rcases h with h | h; exact Or.inl (by omega); exact Or.inr h)
    · intro j hj hsj
      by_cases e : j = i
      · subst e
        exact Or.inl ⟨by rw [r2.1]; exact hsame j hi (Or.inl (Nat.le_refl _)), fun k hk hal hg => r2.2 k (by rw [hG]; exact hk) (by rw [hG]; exact hal) ((hgain j k).mpr hg)⟩
      · rcases hr j (by omega) hsj with h | ⟨_, h⟩
        · exact Or.inl (res_same h (o2 j e))
        · exact Or.inr ⟨rfl, imp_same h (o2 j e)⟩
    · rcases hv2 with h | ⟨h, j, h2, h3, h4⟩
      · exact absurd h hz
      · exact Or.inr ⟨rfl, j, by omega, h3, imp_same h4 (o2 j (by omega))⟩
    · intro j hj h
      have : j ≠ i := fun e => by subst e; rcases h with h | h; omega; exact h hsl
      rw [o2 j this]; exact hsame j hj (by rcases h with h | h; exact Or.inl (by omega); exact Or.inr h)
    · intro j hj hsj
      by_cases e : j = i
      · subst e
        obtain ⟨k, b1, b2, b3, b4⟩ := r2
        exact Or.inr ⟨rfl, k, by rw [← hG]; exact b1, by rw [← hG]; exact b2, (hgain j k).mp b3, b4⟩
      · rcases hr j (by omega) hsj with h | ⟨_, h⟩
        · exact Or.inl (res_same h (o2 j e))
        · exact Or.inr ⟨rfl, imp_same h (o2 j e)⟩
    · obtain ⟨k, b1, b2, b3, b4⟩ := r2
      exact Or.inr ⟨rfl, i, by omega, hsl, k, by rw [← hG]; exact b1, by rw [← hG]; exact b2, (hgain i k).mp b3, b4⟩
  unfold C_Mo_improveAll_4
  rw [e20, Int.toNat_natCast, e349, e347, e354]
  refine ⟨rg_small (by omega), rg_small (by omega), fun h => ⟨hv2', ?_⟩, fun h => ?_⟩
  · have : i = (Gof M).n := by omega
    subst this
    rcases hv2 with e | ⟨e, j, b1, b2, b3⟩
    · rw [e]
      have hres : ∀ j, j < (Gof M).n → sel M a j → res M M' j := fun j hj hsj => by
        rcases hr j hj hsj with h | ⟨h, _⟩
        · exact h
        · rw [e] at h; exact absurd h (by decide)
      exact h0 M' hs (fun j hj => by
        by_cases hsj : sel M a j
        · exact (hres j hj hsj).1
        · exact hsame j hj (Or.inr hsj)) hres
    · rw [e]
      exact h1 M' hs (fun j hj hns => hsame j hj (Or.inr hns)) (fun j hj hsj => by
        rcases hr j hj hsj with h | ⟨_, h⟩
        · exact Or.inl h
        · exact Or.inr h) ⟨j, b1, b2, b3⟩
  · have hi : i < (Gof M).n := by omega
    have hcc := w.cc' hi
    have hm := w.mx i hi
    have hli := hl i hi
    rw [hcc.1]
    have rm : rg (M 347 i) := rg_small (by rcases hm with e | e <;> rw [e] <;> decide)
    have rl' : rg (M 354 i) := rg_small (by rcases hli with e | e <;> rw [e] <;> decide)
    refine ⟨by omega, rg_small (by omega), fun h2 => skip hi (fun hh => by have := hh.1; omega), fun h2 => ⟨rm, ra, fun h3 => skip hi (fun hh => h3 hh.2.1), fun h3 => ⟨fun h4 => doit hi ⟨by omega, h3, fun h5 => absurd h5 h4⟩, fun h4 => ⟨rl', fun h5 => skip hi (fun hh => h5 (hh.2.2 h4)), fun h5 => doit hi ⟨by omega, h3, fun _ => h5⟩⟩⟩⟩⟩
theorem spec_leads {M : fm_M} (w : GW M) (hl : ∀ j, j < (Gof M).n → M 354 j = 0 ∨ M 354 j = 1) {i k : Nat} (hi : i < (Gof M).n) (hk : k < (Gof M).cc i) {post : Int → fm_M → Prop} {thr : String → fm_M → Prop}
    (h1 : (∀ b, b < (Gof M).nb i k → lo M ((Gof M).to i k b)) → post 1 M) (h0 : (∃ b, b < (Gof M).nb i k ∧ ¬ lo M ((Gof M).to i k b)) → post 0 M) : wp_Mo_leadsToLost M i k post thr := by
  obtain ⟨c1, c2, c3, c4, c5, c6, c7, c8, c9⟩ := w.cf hi hk
  unfold wp_Mo_leadsToLost
  rw [show ((10 * (i : Int)) + (k : Int)).toNat = 10 * i + k by omega]
  refine ⟨by omega, ⟨fun M' v3 v4 v5 => M' = M ∧ v4 = M 348 (10 * i + k) ∧ ∃ b : Nat, v5 = b ∧ b ≤ (Gof M).nb i k ∧ ((v3 = 1 ∧ ∀ c, c < b → lo M ((Gof M).to i k c)) ∨ (v3 = 0 ∧ ∃ c, c < (Gof M).nb i k ∧ ¬ lo M ((Gof M).to i k c))), fun _ _ _ v5 => (((Gof M).nb i k : Int) - v5).toNat, ⟨rfl, rfl, 0, rfl, by omega, Or.inl ⟨rfl, fun c hc => by omega⟩⟩, ?_⟩⟩
  rintro M' v3 v4 v5 ⟨rfl, rfl, b, rfl, hb, hI⟩
  have hv3 : v3 = 0 ∨ v3 = 1 := by
    rcases hI with ⟨h, _⟩ | ⟨h, _⟩
    · exact Or.inr h
    · exact Or.inl h
  have rv3 : rg v3 := rg_small (by rcases hv3 with e | e <;> rw [e] <;> decide)
  unfold C_Mo_leadsToLost_18
  rw [c1, Int.toNat_natCast, c3]
  refine ⟨by omega, rg_small (by omega), rg_small (by omega), fun h => ⟨hv3, ?_⟩, fun h => ?_⟩
  · have : b = (Gof M').nb i k := by omega
    subst this
    rcases hI with ⟨e, h⟩ | ⟨e, h⟩
    · rw [e]; exact h1 h
    · rw [e]; exact h0 h
  · have hb' : b < (Gof M').nb i k := by omega
    have ht := w.to i k b hi hk hb'
    have h5 := w.n8
    have htn := w.wf.lt i k b hi hk hb'
    have hlt := hl _ htn
    have e1 : ((40 * (i : Int)) + (4 * (k : Int)) + (b : Int)).toNat = 40 * i + 4 * k + b := by omega
    have e2 : (M' 350 (40 * i + 4 * k + b)).toNat = (Gof M').to i k b := rfl
    rw [e1, e2]
    have rlt : rg (M' 354 ((Gof M').to i k b)) := rg_small (by rcases hlt with e | e <;> rw [e] <;> decide)
    refine ⟨rv3, fun hz => ⟨⟨rfl, rfl, b + 1, by omega, by omega, ?_⟩, by dsimp only; omega⟩, fun hz => ⟨by omega, by omega, rlt, fun h6 => ⟨⟨rfl, rfl, b + 1, by omega, by omega, Or.inr ⟨rfl, b, hb', fun hh => hh h6⟩⟩, by dsimp only; omega⟩, fun h6 => ⟨⟨rfl, rfl, b + 1, by omega, by omega, ?_⟩, by dsimp only; omega⟩⟩⟩
    · rcases hI with ⟨e, h⟩ | ⟨e, h⟩
      · rw [e] at hz; exact absurd hz (by decide)
      · exact Or.inr ⟨rfl, h⟩
    · rcases hI with ⟨e, h⟩ | ⟨e, h⟩
      · refine Or.inl ⟨rfl, fun c hc => ?_⟩
        by_cases e3 : c = b
        · subst e3; exact h6
        · exact h c (by omega)
      · exact absurd e hz
/-- a state that stays lost -/
def stays (M : fm_M) (i : Nat) : Prop := (Gof M).cc i = 0 ∨ ((Gof M).mx i ∧ ∀ b, b < (Gof M).nb i (pk M i) → lo M ((Gof M).to i (pk M i) b)) ∨ (¬ (Gof M).mx i ∧ ∃ k, k < (Gof M).cc i ∧ (Gof M).al i k ∧ ∀ b, b < (Gof M).nb i k → lo M ((Gof M).to i k b))
/-- one that is saved -/
def saved (M : fm_M) (i : Nat) : Prop := 0 < (Gof M).cc i ∧ ((Gof M).mx i → ∃ b, b < (Gof M).nb i (pk M i) ∧ ¬ lo M ((Gof M).to i (pk M i) b)) ∧ (¬ (Gof M).mx i → ∀ k, k < (Gof M).cc i → (Gof M).al i k → ∃ b, b < (Gof M).nb i k ∧ ¬ lo M ((Gof M).to i k b))
/-- every pick is a choice -/
def pok (M : fm_M) : Prop := ∀ i, i < (Gof M).n → 0 < (Gof M).cc i → 0 ≤ M 353 i ∧ M 353 i < M 349 i ∧ (Gof M).al i (pk M i)
theorem pok.lt {M : fm_M} (h : pok M) {i : Nat} (hi : i < (Gof M).n) (hc : 0 < (Gof M).cc i) : M 353 i = (pk M i : Nat) ∧ pk M i < (Gof M).cc i := by
  obtain ⟨a, b, _⟩ := h i hi hc
  have e1 : pk M i = (M 353 i).toNat := rfl
  have e2 : (Gof M).cc i = (M 349 i).toNat := rfl
  omega
theorem spec_stays {M : fm_M} (w : GW M) (hl : ∀ j, j < (Gof M).n → M 354 j = 0 ∨ M 354 j = 1) (hp : pok M) {i : Nat} (hi : i < (Gof M).n) {post : Int → fm_M → Prop} {thr : String → fm_M → Prop}
    (h1 : stays M i → post 1 M) (h0 : saved M i → post 0 M) : wp_Mo_staysLost M i post thr := by
  have hn := w.n8
  have hcc := w.cc' hi
  have hm := w.mx i hi
  have rm : rg (M 347 i) := rg_small (by rcases hm with e | e <;> rw [e] <;> decide)
  unfold wp_Mo_staysLost
  rw [Int.toNat_natCast, hcc.1]
  refine ⟨by omega, rg_small (by omega), fun h => ⟨rm, fun hm0 => ?_, fun hm1 => ?_⟩, fun h => h1 (Or.inl (by omega))⟩
  · refine ⟨fun M' v2 v3 => M' = M ∧ ∃ k : Nat, v3 = k ∧ k ≤ (Gof M).cc i ∧ ((v2 = 1 ∧ ∃ k, k < (Gof M).cc i ∧ (Gof M).al i k ∧ ∀ b, b < (Gof M).nb i k → lo M ((Gof M).to i k b)) ∨ (v2 = 0 ∧ ∀ q, q < k → (Gof M).al i q → ∃ b, b < (Gof M).nb i q ∧ ¬ lo M ((Gof M).to i q b))), fun _ _ v3 => (((Gof M).cc i : Int) - v3).toNat, ⟨rfl, 0, rfl, by omega, Or.inr ⟨rfl, fun q hq => by omega⟩⟩, ?_⟩
    rintro M' v2 v3 ⟨rfl, k, rfl, hk, hI⟩
    have hv2 : v2 = 0 ∨ v2 = 1 := by
      rcases hI with ⟨h, _⟩ | ⟨h, _⟩
      · exact Or.inr h
      · exact Or.inl h
    have rv2 : rg v2 := rg_small (by rcases hv2 with e | e <;> rw [e] <;> decide)
    unfold C_Mo_staysLost_36
    rw [Int.toNat_natCast, hcc.1]
    have hmn : ¬ (Gof M').mx i := fun hh => hh hm0
    refine ⟨by omega, rg_small (by omega), rg_small (by omega), fun h2 => ⟨hv2, ?_⟩, fun h2 => ⟨rv2, fun hz => ⟨⟨rfl, k + 1, by omega, by omega, ?_⟩, by dsimp only; omega⟩, fun hz => ?_⟩⟩
    · have : k = (Gof M').cc i := by omega
      subst this
      rcases hI with ⟨e, h3⟩ | ⟨e, h3⟩
      · rw [e]; exact h1 (Or.inr (Or.inr ⟨hmn, h3⟩))
      · rw [e]; exact h0 ⟨by omega, fun hh => absurd hh hmn, fun _ => h3⟩
    · rcases hI with ⟨e, h3⟩ | ⟨e, h3⟩
      · exact Or.inl ⟨rfl, h3⟩
      · exact absurd e hz
    · have hall : ∀ q, q < k → (Gof M').al i q → ∃ b, b < (Gof M').nb i q ∧ ¬ lo M' ((Gof M').to i q b) := by
        rcases hI with ⟨e, h3⟩ | ⟨e, h3⟩
        · rw [e] at hz; exact absurd hz (by decide)
        · exact h3
      refine spec_has (fun hb => ⟨rg_small (by decide), fun _ => ⟨⟨rfl, k + 1, by omega, by omega, Or.inr ⟨rfl, fun q hq hal => ?_⟩⟩, by dsimp only; omega⟩, fun h => absurd rfl h⟩) (fun hb => ⟨rg_small (by decide), fun h => absurd h (by decide), fun _ => spec_leads w hl hi (by omega) (fun hh => ⟨rg_small (by decide), fun h => absurd h (by decide), fun _ => ⟨⟨rfl, k + 1, by omega, by omega, Or.inl ⟨rfl, k, by omega, hb, hh⟩⟩, by dsimp only; omega⟩⟩) (fun hh => ⟨rg_small (by decide), fun _ => ⟨⟨rfl, k + 1, by omega, by omega, Or.inr ⟨rfl, fun q hq hal => ?_⟩⟩, by dsimp only; omega⟩, fun h => absurd rfl h⟩)⟩)
      · by_cases e : q = k
        · subst e; exact absurd hal hb
        · exact hall q (by omega) hal
      · by_cases e : q = k
        · subst e; exact hh
        · exact hall q (by omega) hal
  · have hcp : 0 < (Gof M).cc i := by omega
    have hpl := hp.lt hi hcp
    rw [hpl.1]
    exact spec_leads w hl hi hpl.2 (fun hh => ⟨Or.inr rfl, h1 (Or.inr (Or.inl ⟨hm1, hh⟩))⟩) (fun hh => ⟨Or.inl rfl, h0 ⟨hcp, fun _ => hh, fun h => absurd hm1 h⟩⟩)
end Pu_H
section Pu_I
def dnp (G : Gd) (p : Nat → Nat) (l : Nat → Prop) (rk : Nat → Nat) (j : Nat) : Prop := 0 < G.cc j ∧ (G.mx j → G.down l rk j (p j)) ∧ (¬ G.mx j → ∀ k, k < G.cc j → G.al j k → G.down l rk j k)
theorem rk_bd (n : Nat) (rk : Nat → Nat) : ∃ R, ∀ j, j < n → rk j < R := by
  induction n with
  | zero => exact ⟨0, fun j hj => by omega⟩
  | succ n ih =>
    obtain ⟨R, h⟩ := ih
    exact ⟨R + rk n + 1, fun j hj => by
      by_cases e : j = n
      · rw [e]; omega
      · have := h j (by omega); omega⟩
theorem dnp_add {G : Gd} (W : G.Wf) {p : Nat → Nat} {l : Nat → Prop} {rk : Nat → Nat} {i : Nat} (hi : i < G.n) (hl : l i) (hd : ∀ j, j < G.n → ¬ l j → ¬ G.tg j → dnp G p l rk j) (hp : G.mx i → p i < G.cc i)
    (hs : 0 < G.cc i ∧ (G.mx i → ∃ b, b < G.nb i (p i) ∧ ¬ l (G.to i (p i) b)) ∧ (¬ G.mx i → ∀ k, k < G.cc i → G.al i k → ∃ b, b < G.nb i k ∧ ¬ l (G.to i k b))) :
    ∃ rk' : Nat → Nat, ∀ l' : Nat → Prop, (∀ j, l' j ↔ l j ∧ j ≠ i) → ∀ j, j < G.n → ¬ l' j → ¬ G.tg j → dnp G p l' rk' j := by
  obtain ⟨R, hR⟩ := rk_bd G.n rk
  refine ⟨fun j => if j = i then R else rk j, fun l' hl' j hj hlj htj => ?_⟩
  have hne : ∀ t, ¬ l t → t ≠ i := fun t ht e => ht (by rw [e]; exact hl)
  have hnl : ∀ t, ¬ l t → ¬ l' t := fun t ht h => ht ((hl' t).mp h).1
  by_cases e : j = i
  · subst e
    obtain ⟨a, b, c⟩ := hs
    refine ⟨a, fun hm => ?_, fun hm k hk hal => ?_⟩
    · obtain ⟨q, h1, h2⟩ := b hm
      exact ⟨hp hm, q, h1, hnl _ h2, by dsimp only; rw [if_neg (hne _ h2), if_pos rfl]; exact hR _ (W.lt _ _ _ hj (hp hm) h1)⟩
    · obtain ⟨q, h1, h2⟩ := c hm k hk hal
      exact ⟨hk, q, h1, hnl _ h2, by dsimp only; rw [if_neg (hne _ h2), if_pos rfl]; exact hR _ (W.lt _ _ _ hj hk h1)⟩
  · have hlj2 : ¬ l j := fun h => hlj ((hl' j).mpr ⟨h, e⟩)
    obtain ⟨a, b, c⟩ := hd j hj hlj2 htj
    refine ⟨a, fun hm => ?_, fun hm k hk hal => ?_⟩
    · obtain ⟨h0, q, h1, h2, h3⟩ := b hm
      exact ⟨h0, q, h1, hnl _ h2, by dsimp only; rw [if_neg (hne _ h2), if_neg e]; exact h3⟩
    · obtain ⟨h0, q, h1, h2, h3⟩ := c hm k hk hal
      exact ⟨h0, q, h1, hnl _ h2, by dsimp only; rw [if_neg (hne _ h2), if_neg e]; exact h3⟩
/-- on the way to what is lost -/
def FL (M M' : fm_M) : Prop :=
  (sv [354] [] M M') ∧
  (∀ j, j < (Gof M).n → M' 354 j = 0 ∨ M' 354 j = 1) ∧
  (∀ j, j < (Gof M).n → M 346 j ≠ 0 → M' 354 j = 0) ∧
  (∃ rk, ∀ j, j < (Gof M).n → ¬ lo M' j → ¬ (Gof M).tg j → dnp (Gof M) (pk M) (lo M') rk j)
theorem FL.s {M M' : fm_M} (h_ : FL M M') : sv [354] [] M M' := h_.1
theorem FL.b {M M' : fm_M} (h_ : FL M M') : ∀ j, j < (Gof M).n → M' 354 j = 0 ∨ M' 354 j = 1 := h_.2.1
theorem FL.t {M M' : fm_M} (h_ : FL M M') : ∀ j, j < (Gof M).n → M 346 j ≠ 0 → M' 354 j = 0 := h_.2.2.1
theorem FL.d {M M' : fm_M} (h_ : FL M M') : ∃ rk, ∀ j, j < (Gof M).n → ¬ lo M' j → ¬ (Gof M).tg j → dnp (Gof M) (pk M) (lo M') rk j := h_.2.2.2
theorem fl_sum {n : Nat} {f g : Nat → Int} {i : Nat} (hi : i < n) (h : ∀ j, j ≠ i → g j = f j) (h2 : g i < f i) : sm n g < sm n f := sm_lt (fun k hk => by
  by_cases e : k = i
  · rw [e]; omega
  · rw [h k e]; exact Int.le_refl _) hi h2
theorem spec_findLost {M : fm_M} (w : GW M) (hp : pok M) {post : Int → fm_M → Prop} {thr : String → fm_M → Prop}
    (hpost : ∀ M', sv [354] [] M M' → (∀ j, j < (Gof M).n → M' 354 j = 0 ∨ M' 354 j = 1) → (∃ rk, (Gof M).Lost (pk M) (lo M') rk) → post 0 M') : wp_Mo_findLost M post thr := by
  have hn := w.n8
  refine ⟨fun M' v1 => ∃ i : Nat, v1 = i ∧ i ≤ (Gof M).n ∧ sv [354] [] M M' ∧ ∀ j, j < i → M' 354 j = if M 346 j = 0 then 1 else 0, fun _ v1 => (((Gof M).n : Int) - v1).toNat, ⟨0, rfl, by omega, sv.refl, fun j hj => by omega⟩, ?_⟩
  rintro M1 v1 ⟨i, rfl, hin, hs, h1⟩
  have e20 : M1 331 20 = (Gof M).n := by rw [hs.slot 20 (by decide), hn.1]
  unfold C_Mo_findLost_2
  rw [e20, Int.toNat_natCast, hs.cell 346 (by decide) (by decide)]
  refine ⟨rg_small (by omega), rg_small (by omega), fun h => ?_, fun h => ?_⟩
  · have : i = (Gof M).n := by omega
    subst this
    -- the passes
    refine ⟨fun M' v1 => FL M M' ∧ (v1 = 1 ∨ v1 = 0 ∧ ∀ j, j < (Gof M).n → lo M' j → stays M' j), fun M' v1 => (2 * sm (Gof M).n (M' 354) + v1).toNat, ⟨⟨hs, fun j hj => ?_, fun j hj ht => ?_, fun _ => 0, fun j hj hl ht => ?_⟩, Or.inl rfl⟩, ?_⟩
    · rw [h1 j hj]; split
      · exact Or.inr rfl
      · exact Or.inl rfl
    · rw [h1 j hj, if_neg ht]
    · exact absurd (show M1 354 j ≠ 0 by rw [h1 j hj, if_pos (Classical.byContradiction ht)]; decide) hl
    · rintro Ms v1 ⟨F, hv⟩
      have hv' : v1 = 0 ∨ v1 = 1 := by
        rcases hv with h | ⟨h, _⟩
        · exact Or.inr h
        · exact Or.inl h
      have rv : rg v1 := rg_small (by rcases hv' with e | e <;> rw [e] <;> decide)
      have hsm0 : 0 ≤ sm (Gof M).n (Ms 354) := sm_nn (fun j hj => by have := F.b j hj; omega)
      have hG : Gof Ms = Gof M := Gof_same F.s (by decide) (by decide) (by decide)
      have hpk : pk Ms = pk M := by funext j; unfold pk; rw [F.s.cell 353 (by decide) (by decide)]
      unfold C_Mo_findLost_38
      refine ⟨rv, fun hz => ?_, fun hz => ?_⟩
      · rcases hv with h | ⟨_, hst⟩
        · rw [h] at hz; exact absurd hz (by decide)
        · obtain ⟨rk, hd⟩ := F.d
          refine hpost Ms F.s F.b ⟨rk, fun j hj hl ht => hl (F.t j hj ht), fun j hj hl => ?_, fun j hu hm => (hd j hu.1 hu.2.1 hu.2.2).2.1 hm, fun j hu hm => ⟨(hd j hu.1 hu.2.1 hu.2.2).1, (hd j hu.1 hu.2.1 hu.2.2).2.2 hm⟩⟩
          have := hst j hj hl
          unfold stays at this
          rw [hG, hpk] at this; exact this
      · have hv1 : v1 = 1 := by
          rcases hv' with e | e
          · exact absurd e hz
          · exact e
        subst hv1
        refine ⟨fun M' v1 v2 => ∃ i : Nat, v2 = i ∧ i ≤ (Gof M).n ∧ FL M M' ∧ ((v1 = 0 ∧ M' 354 = Ms 354 ∧ ∀ j, j < i → lo M' j → stays M' j) ∨ (v1 = 1 ∧ sm (Gof M).n (M' 354) < sm (Gof M).n (Ms 354))), fun _ _ v2 => (((Gof M).n : Int) - v2).toNat, ⟨0, rfl, by omega, F, Or.inl ⟨rfl, rfl, fun j hj => by omega⟩⟩, ?_⟩
        rintro M' v1 v2 ⟨i, rfl, hin, F', hI⟩
        have hv' : v1 = 0 ∨ v1 = 1 := by
          rcases hI with ⟨h, _⟩ | ⟨h, _⟩
          · exact Or.inl h
          · exact Or.inr h
        have rv : rg v1 := rg_small (by rcases hv' with e | e <;> rw [e] <;> decide)
        have hG' : Gof M' = Gof M := Gof_same F'.s (by decide) (by decide) (by decide)
        have w' : GW M' := GW_same F'.s (by decide) (by decide) w
        have hpk' : pk M' = pk M := by funext j; unfold pk; rw [F'.s.cell 353 (by decide) (by decide)]
        have hp' : pok M' := by
          unfold pok; rw [hG', hpk', F'.s.cell 353 (by decide) (by decide), F'.s.cell 349 (by decide) (by decide)]; exact hp
        have e20' : M' 331 20 = (Gof M).n := by rw [F'.s.slot 20 (by decide), hn.1]
        unfold C_Mo_findLost_46
        rw [e20', Int.toNat_natCast]
        refine ⟨rg_small (by omega), rg_small (by omega), fun h => ?_, fun h => ⟨by omega, ?_⟩⟩
        · have : i = (Gof M).n := by omega
          subst this
          rcases hI with ⟨a, b, c⟩ | ⟨a, b⟩
          · exact ⟨⟨F', Or.inr ⟨a, c⟩⟩, by dsimp only; rw [a, b]; omega⟩
          · refine ⟨⟨F', Or.inl a⟩, ?_⟩
            have : 0 ≤ sm (Gof M).n (M' 354) := sm_nn (fun j hj => by have := F'.b j hj; omega)
            dsimp only; rw [a]; omega
        · have hi : i < (Gof M).n := by omega
          have hb := F'.b i hi
          have rb : rg (M' 354 i) := rg_small (by rcases hb with e | e <;> rw [e] <;> decide)
          -- unchanged
          have keep : (lo M' i → stays M' i) → B_Mo_findLost_76 post thr (fun M'_1 v1' => (FL M M'_1 ∧ (v1' = 1 ∨ v1' = 0 ∧ ∀ j, j < (Gof M).n → lo M'_1 j → stays M'_1 j)) ∧ (2 * sm (Gof M).n (M'_1 354) + v1').toNat < (2 * sm (Gof M).n (Ms 354) + 1).toNat) (fun M'_1 v1' v2' => (∃ i : Nat, v2' = i ∧ i ≤ (Gof M).n ∧ FL M M'_1 ∧ ((v1' = 0 ∧ M'_1 354 = Ms 354 ∧ ∀ j, j < i → lo M'_1 j → stays M'_1 j) ∨ (v1' = 1 ∧ sm (Gof M).n (M'_1 354) < sm (Gof M).n (Ms 354)))) ∧ (((Gof M).n : Int) - v2').toNat < (((Gof M).n : Int) - (i : Int)).toNat) M' v1 i 0 := by
            intro hst
            have fin : ∀ s0 : Int, s0 = M' 354 i → B_Mo_findLost_100 post thr (fun M'_1 v1' => (FL M M'_1 ∧ (v1' = 1 ∨ v1' = 0 ∧ ∀ j, j < (Gof M).n → lo M'_1 j → stays M'_1 j)) ∧ (2 * sm (Gof M).n (M'_1 354) + v1').toNat < (2 * sm (Gof M).n (Ms 354) + 1).toNat) (fun M'_1 v1' v2' => (∃ i : Nat, v2' = i ∧ i ≤ (Gof M).n ∧ FL M M'_1 ∧ ((v1' = 0 ∧ M'_1 354 = Ms 354 ∧ ∀ j, j < i → lo M'_1 j → stays M'_1 j) ∨ (v1' = 1 ∧ sm (Gof M).n (M'_1 354) < sm (Gof M).n (Ms 354)))) ∧ (((Gof M).n : Int) - v2').toNat < (((Gof M).n : Int) - (i : Int)).toNat) M' v1 i 0 s0 i := by
              intro s0 hs0
              refine ⟨by omega, by rw [hs0]; exact hb, fun M2 hM2 => ?_⟩
              have e2 : M2 = M' := by
                rw [hM2, hs0, Int.toNat_natCast]; funext a b; unfold fm_u
                split
                · next hh => rw [hh.1, hh.2]
                · rfl
              rw [e2]
              refine ⟨rv, fun hz => ⟨⟨i + 1, by omega, by omega, F', ?_⟩, by omega⟩, fun hz => ⟨rg_small (by decide), fun _ => ⟨⟨i + 1, by omega, by omega, F', ?_⟩, by omega⟩, fun h => absurd rfl h⟩⟩
              · rcases hI with ⟨a, _⟩ | ⟨a, b⟩
                · exact absurd a hz
                · exact Or.inr ⟨rfl, b⟩
              · rcases hI with ⟨a, b, c⟩ | ⟨a, b⟩
                · refine Or.inl ⟨rfl, b, fun j hj hl => ?_⟩
                  by_cases e : j = i
                  · subst e; exact hst hl
                  · exact c j (by omega) hl
                · rw [hz] at a; exact absurd a (by decide)
            unfold B_Mo_findLost_76
            rw [Int.toNat_natCast]
            refine ⟨by omega, rb, fun h0 => fin 0 h0.symm, fun h0 => ⟨rg_small (by decide), fun h => absurd rfl h, fun _ => fin 1 ?_⟩⟩
            rcases hb with e | e
            · exact absurd e h0
            · exact e.symm
          refine ⟨rb, fun h0 => keep (fun hl => absurd h0 hl), fun h0 => spec_stays w' (by rw [hG']; exact F'.b) hp' (by rw [hG']; exact hi) (fun hst => ⟨rg_small (by decide), fun _ => keep (fun _ => hst), fun h => absurd h (by decide)⟩) (fun hsv => ⟨rg_small (by decide), fun h => absurd rfl h, fun _ => ?_⟩)⟩
          unfold B_Mo_findLost_76
          rw [Int.toNat_natCast]
          refine ⟨by omega, rb, fun h2 => absurd h2 h0, fun _ => ⟨rg_small (by decide), fun _ => ⟨by omega, Or.inl rfl, fun M2 hM2 => ?_⟩, fun h => absurd h (by decide)⟩⟩
          rw [Int.toNat_natCast] at hM2
          have e354 : ∀ j, M2 354 j = if j = i then 0 else M' 354 j := fun j => by rw [hM2, fu_at]
          have F2 : FL M M2 := by
            refine ⟨by rw [hM2]; exact F'.s.u (by decide) (by decide), fun j hj => ?_, fun j hj ht => ?_, ?_⟩
            · rw [e354]; split
              · exact Or.inl rfl
              · exact F'.b j hj
            · rw [e354]; split
              · rfl
              · exact F'.t j hj ht
            · obtain ⟨rk, hd⟩ := F'.d
              unfold saved at hsv
              rw [hG', hpk'] at hsv
              obtain ⟨rk', hd'⟩ := dnp_add w.wf (p := pk M) (l := lo M') (rk := rk) hi h0 hd (fun _ => (hp.lt hi hsv.1).2) hsv
              refine ⟨rk', hd' (lo M2) (fun j => ?_)⟩
              unfold lo; rw [e354]
              by_cases e : j = i
              · rw [if_pos e]; exact ⟨fun h => absurd rfl h, fun h => absurd e h.2⟩
              · rw [if_neg e]; exact ⟨fun h => ⟨h, e⟩, fun h => h.1⟩
          have hlt : sm (Gof M).n (M2 354) < sm (Gof M).n (M' 354) := fl_sum hi (fun j hj => by rw [e354, if_neg hj]) (by rw [e354, if_pos rfl]; omega)
          have hle : sm (Gof M).n (M' 354) ≤ sm (Gof M).n (Ms 354) := by
            rcases hI with ⟨_, b, _⟩ | ⟨_, b⟩
            · rw [b]; exact Int.le_refl _
            · exact Int.le_of_lt b
          refine ⟨rv, fun hz => ⟨⟨i + 1, by omega, by omega, F2, Or.inr ⟨rfl, by omega⟩⟩, by dsimp only; omega⟩, fun hz => ⟨rg_small (by decide), fun h => absurd h (by decide), fun _ => ⟨⟨i + 1, by omega, by omega, F2, Or.inr ⟨rfl, by omega⟩⟩, by dsimp only; omega⟩⟩⟩
  · have hi : i < (Gof M).n := by omega
    have ht := w.tg i hi
    have rt : rg (M 346 i) := rg_small (by rcases ht with e | e <;> rw [e] <;> decide)
    have fin : ∀ s0 : Int, (s0 = 0 ∨ s0 = 1) → s0 = (if M 346 i = 0 then 1 else 0) → B_Mo_findLost_29 post thr (fun M'_1 v1' => (∃ i : Nat, v1' = i ∧ i ≤ (Gof M).n ∧ sv [354] [] M M'_1 ∧ ∀ j, j < i → M'_1 354 j = if M 346 j = 0 then 1 else 0) ∧ (((Gof M).n : Int) - v1').toNat < (((Gof M).n : Int) - (i : Int)).toNat) M1 i s0 i := by
      intro s0 hb he
      refine ⟨by omega, hb, fun M2 hM2 => ⟨⟨i + 1, by omega, by omega, by rw [hM2]; exact hs.u (by decide) (by decide), fun j hj => ?_⟩, by omega⟩⟩
      rw [hM2, fu_at, Int.toNat_natCast]
      by_cases e : j = i
      · rw [if_pos e, e]; exact he
      · rw [if_neg e]; exact h1 j (by omega)
    exact ⟨by omega, rt, fun h2 => fin 0 (Or.inl rfl) (by rw [if_neg h2]), fun h2 => fin 1 (Or.inr rfl) (by rw [if_pos h2])⟩
end Pu_I
section Pu_J
/-! The reference's search for values ends. -/
theorem ex_mul (n : Nat) : ∃ L : Int, 0 < L ∧ ∀ d : Int, 0 < d → d ≤ n → ∃ e, 0 < e ∧ L = d * e := by
  induction n with
  | zero => exact ⟨1, by decide, fun d h1 h2 => by omega⟩
  | succ n ih =>
    obtain ⟨L, h0, h⟩ := ih
    refine ⟨((n + 1 : Nat) : Int) * L, Int.mul_pos (by omega) h0, fun d h1 h2 => ?_⟩
    by_cases e : d = ((n + 1 : Nat) : Int)
    · exact ⟨L, h0, by rw [e]⟩
    · obtain ⟨q, hq, he⟩ := h d h1 (by omega)
      exact ⟨((n + 1 : Nat) : Int) * q, Int.mul_pos (by omega) hq, by rw [he]; grind⟩
theorem ex_L : ∃ L : Int, 0 < L ∧ ∀ d : Int, 0 < d → d ≤ 429981696 → ∃ e, 0 < e ∧ L = d * e := by
  obtain ⟨L, a, b⟩ := ex_mul 429981696
  exact ⟨L, a, fun d h1 h2 => b d h1 h2⟩
noncomputable def LL : Int := Classical.choose ex_L
theorem LL_pos : 0 < LL := (Classical.choose_spec ex_L).1
theorem LL_div {d : Int} (h : 0 < d) (h2 : d ≤ 429981696) : 0 < LL / d ∧ LL = d * (LL / d) := by
  obtain ⟨e, he, h3⟩ := (Classical.choose_spec ex_L).2 d h h2
  have h4 : LL = d * e := h3
  have h5 : LL / d = e := by rw [h4, Int.mul_ediv_cancel_left _ (by omega)]
  rw [h5]; exact ⟨he, h4⟩
noncomputable def mv (n : Nat) (num : Nat → Int) (com : Int) : Int := sm n (fun i => num i * (LL / com))
theorem alg7 {a b c c' e e' L : Int} (h1 : L = c * e) (h2 : L = c' * e') (hL : 0 < L) (h : a * c ≤ b * c') (hc : 0 < c) (hc' : 0 < c') : a * e' ≤ b * e := by
  have h3 : (a * c) * L ≤ (b * c') * L := Int.mul_le_mul_of_nonneg_right h (Int.le_of_lt hL)
  have h4 : (c * c') * (a * e') ≤ (c * c') * (b * e) := by
    have e1 : (c * c') * (a * e') = (a * c) * (c' * e') := by grind
    have e2 : (c * c') * (b * e) = (b * c') * (c * e) := by grind
    rw [e1, e2, ← h1, ← h2]; exact h3
  exact Int.le_of_mul_le_mul_left h4 (Int.mul_pos hc hc')
theorem alg8 {a b c c' e e' L : Int} (h1 : L = c * e) (h2 : L = c' * e') (hL : 0 < L) (h : a * c < b * c') (hc : 0 < c) (hc' : 0 < c') : a * e' < b * e := by
  have h3 : (a * c) * L < (b * c') * L := Int.mul_lt_mul_of_pos_right h hL
  have h4 : (c * c') * (a * e') < (c * c') * (b * e) := by
    have e1 : (c * c') * (a * e') = (a * c) * (c' * e') := by grind
    have e2 : (c * c') * (b * e) = (b * c') * (c * e) := by grind
    rw [e1, e2, ← h1, ← h2]; exact h3
  exact Int.lt_of_mul_lt_mul_left h4 (Int.le_of_lt (Int.mul_pos hc hc'))
theorem mv_lt {n : Nat} {num num' : Nat → Int} {com com' : Int} (hc : 0 < com ∧ com ≤ 429981696) (hc' : 0 < com' ∧ com' ≤ 429981696) (h : ∀ i, i < n → num' i * com ≤ num i * com') {j : Nat} (hj : j < n) (hs : num' j * com < num j * com') : mv n num' com' < mv n num com := by
  have a := LL_div hc.1 hc.2
  have b := LL_div hc'.1 hc'.2
  exact sm_lt (fun i hi => alg7 a.2 b.2 LL_pos (h i hi) hc.1 hc'.1) hj (alg8 a.2 b.2 LL_pos hs hc.1 hc'.1)
theorem mv_bd {n : Nat} {num : Nat → Int} {com : Int} (hc : 0 < com ∧ com ≤ 429981696) (h : ∀ i, i < n → 0 ≤ num i ∧ num i ≤ com) : 0 ≤ mv n num com ∧ mv n num com ≤ n * LL := by
  have a := LL_div hc.1 hc.2
  refine ⟨sm_nn (fun i hi => Int.mul_nonneg (h i hi).1 (Int.le_of_lt a.1)), ?_⟩
  have h1 : mv n num com ≤ sm n (fun _ => LL) := sm_le (fun i hi => by
    have := Int.mul_le_mul_of_nonneg_right (h i hi).2 (Int.le_of_lt a.1)
    rw [← a.2] at this; exact this)
  have h2 : ∀ m : Nat, sm m (fun _ => LL) = m * LL := fun m => by
    induction m with
    | zero => simp [sm]
    | succ m ih => simp only [sm]; rw [ih]; grind
  rw [h2] at h1; exact h1
def hopt (G : Gd) (l : Nat → Prop) (num : Nat → Int) : Prop := ∀ i k, G.U l i → ¬ G.mx i → k < G.cc i → G.al i k → G.wo i k * num i ≤ G.S i k num
def bet (G : Gd) (M : fm_M) (i : Nat) : Prop := G.wo i (pk M i) * M 358 i < G.S i (pk M i) (M 358)
def wor (G : Gd) (M : fm_M) (i : Nat) : Prop := G.S i (pk M i) (M 358) < G.wo i (pk M i) * M 358 i
/-- MAX has just done better than these values -/
def GoodO (G : Gd) (M : fm_M) : Prop := ∃ p rk : Nat → Nat, G.Lost p (lo M) rk ∧ G.ok p ∧ G.Val (lo M) p (M 358) (M 331 38) ∧ M 331 38 ≤ 429981696 ∧ hopt G (lo M) (M 358) ∧ (∀ i, i < G.n → G.mx i → 0 < G.cc i → pk M i = p i ∨ bet G M i) ∧ ∃ i, i < G.n ∧ G.mx i ∧ 0 < G.cc i ∧ bet G M i
/-- MIN has just done better than these values -/
def GoodI (G : Gd) (M : fm_M) : Prop := ∃ q : Nat → Nat, G.Val (lo M) q (M 358) (M 331 38) ∧ M 331 38 ≤ 429981696 ∧ (∀ i, G.U (lo M) i → pk M i = q i ∨ wor G M i) ∧ ∃ i, G.U (lo M) i ∧ wor G M i
/-- values are there -/
def vals (M : fm_M) : Prop := 0 < M 331 38 ∧ M 331 38 ≤ 429981696 ∧ ∀ i, i < (Gof M).n → 0 ≤ M 358 i ∧ M 358 i ≤ M 331 38
noncomputable def muO (G : Gd) (M : fm_M) (v : Int) : Nat := if v = 0 then 0 else @ite _ (GoodO G M) (Classical.propDecidable _) (((G.n : Int) * LL - mv G.n (M 358) (M 331 38)).toNat + 1) (((G.n : Int) * LL).toNat + 2)
noncomputable def muI (G : Gd) (M : fm_M) (v : Int) : Nat := if v = 0 then 0 else @ite _ (GoodI G M) (Classical.propDecidable _) ((mv G.n (M 358) (M 331 38)).toNat + 1) (((G.n : Int) * LL).toNat + 2)
theorem muO_pos (G : Gd) (M : fm_M) {v : Int} (h : v ≠ 0) : 0 < muO G M v := by
  unfold muO; rw [if_neg h]; split <;> omega
theorem muI_pos (G : Gd) (M : fm_M) {v : Int} (h : v ≠ 0) : 0 < muI G M v := by
  unfold muI; rw [if_neg h]; split <;> omega
theorem Lost_congr {G : Gd} {p q : Nat → Nat} {l : Nat → Prop} {rk : Nat → Nat} (h : G.Lost p l rk) (e : G.eqmx p q) : G.Lost q l rk :=
  ⟨h.ntg, fun i hi hl => by
    rcases h.stay i hi hl with a | ⟨a, b⟩ | a
    · exact Or.inl a
    · exact Or.inr (Or.inl ⟨a, by rw [← e i hi a]; exact b⟩)
    · exact Or.inr (Or.inr a), fun i hu hm => by rw [← e i hu.1 hm]; exact h.dmx i hu hm, h.dmn⟩
theorem Val_congr {G : Gd} {p q : Nat → Nat} {l : Nat → Prop} {num : Nat → Int} {com : Int} (h : G.Val l p num com) (e : ∀ i, i < G.n → q i = p i) : G.Val l q num com := ⟨h.pos, h.tgt, h.lost, fun i hu => by rw [e i hu.1]; exact h.eqn i hu⟩
theorem pok.ok {M : fm_M} (h : pok M) : (Gof M).ok (pk M) := fun i hi hc => ⟨(h.lt hi hc).2, (h i hi hc).2.2⟩
/-- what solveGame may change -/
abbrev sg6 : List Nat := [353, 354, 355, 356, 357, 358]
theorem pok_imp {M M' : fm_M} (w : GW M) (h : pok M) (s : sv [353] [] M M') (hh : ∀ i, i < (Gof M).n → M' 353 i = M 353 i ∨ imp M M' i) : pok M' := by
  have hG : Gof M' = Gof M := Gof_same s (by decide) (by decide) (by decide)
  intro i hi hc
  rw [hG] at hi hc ⊢
  rw [s.cell 349 (by decide) (by decide)]
  have hcc := w.cc' hi
  rcases hh i hi with e | ⟨k, a, b, c, e⟩
  · have : pk M' i = pk M i := by unfold pk; rw [e]
    rw [this, e]; exact h i hi hc
  · have : pk M' i = k := by unfold pk; rw [e]; rfl
    rw [this, e]; exact ⟨by omega, by omega, b⟩
/-- from the values on: the inner loop -/
theorem sg_81 (post : Int → fm_M → Prop) (thr : String → fm_M → Prop) (J71 : fm_M → Int → Prop) (M0 M1 : fm_M) (w : GW M0) (s1 : sv sg6 [34, 38] M0 M1) (hp : pok M1) (hb : ∀ j, j < (Gof M0).n → M1 354 j = 0 ∨ M1 354 j = 1) (rk : Nat → Nat) (L : (Gof M0).Lost (pk M1) (lo M1) rk)
    (hJ : ∀ M', sv sg6 [34, 38] M0 M' → pok M' → vals M' → J71 M' 0) (hJ1 : ∀ M' q, sv sg6 [34, 38] M0 M' → pok M' → GoodO (Gof M0) M' → lo M' = lo M1 → (Gof M0).ok q → (Gof M0).eqmx (pk M1) q → (Gof M0).Val (lo M1) q (M' 358) (M' 331 38) → M' 331 38 ≤ 429981696 → J71 M' 1) : B_Mo_solveGame_81 post thr J71 M1 1 := by
  have hn := w.n8
  refine ⟨fun M' v2 => sv sg6 [34, 38] M0 M' ∧ pok M' ∧ M' 354 = M1 354 ∧ (Gof M0).eqmx (pk M1) (pk M') ∧ (v2 = 1 ∨ v2 = 0 ∧ (Gof M0).Val (lo M1) (pk M') (M' 358) (M' 331 38) ∧ M' 331 38 ≤ 429981696 ∧ hopt (Gof M0) (lo M1) (M' 358)), fun M' v2 => muI (Gof M0) M' v2, ⟨s1, hp, rfl, fun _ _ _ => rfl, Or.inl rfl⟩, ?_⟩
  rintro M2 v2 ⟨s2, hp2, e354, he, hv⟩
  have hv' : v2 = 0 ∨ v2 = 1 := by
    rcases hv with h | ⟨h, _⟩
    · exact Or.inr h
    · exact Or.inl h
  have rv : rg v2 := rg_small (by rcases hv' with e | e <;> rw [e] <;> decide)
  have hG2 : Gof M2 = Gof M0 := Gof_same s2 (by decide) (by decide) (by decide)
  have w2 : GW M2 := GW_same s2 (by decide) (by decide) w
  have hlo : lo M2 = lo M1 := by funext j; unfold lo; rw [e354]
  have ok2 : (Gof M0).ok (pk M2) := by have := hp2.ok; rw [hG2] at this; exact this
  have hd2 := L.dn ok2 he
  unfold C_Mo_solveGame_81
  refine ⟨rv, fun hz => ?_, fun hz => ?_⟩
  · -- MIN has answered
    obtain ⟨V, hc, ho⟩ : (Gof M0).Val (lo M1) (pk M2) (M2 358) (M2 331 38) ∧ M2 331 38 ≤ 429981696 ∧ hopt (Gof M0) (lo M1) (M2 358) := by
      rcases hv with h | ⟨_, h⟩
      · rw [h] at hz; exact absurd hz (by decide)
      · exact h
    have hnn := V.nn w.wf hd2
    refine spec_improveAll w2 (by rw [hG2]; exact fun j hj => ⟨(hnn j hj).1, Int.le_trans (hnn j hj).2 hc⟩) (by rw [hG2, e354]; exact hb) (Or.inr rfl) (fun M3 s3 h3 h4 => ?_) (fun M3 s3 h3 h4 h5 => ?_)
    · have hG3 : Gof M3 = Gof M2 := Gof_same s3 (by decide) (by decide) (by decide)
      refine hJ M3 (s2.tr (s3.mono (by decide) (by decide))) (pok_imp w2 hp2 s3 (fun i hi => Or.inl (h3 i hi))) ?_
      unfold vals
      rw [s3.slot 38 (by decide), s3.cell 358 (by decide) (by decide), hG3, hG2]
      exact ⟨V.pos, hc, hnn⟩
    · have e38 : M3 331 38 = M2 331 38 := s3.slot 38 (by decide)
      have e358 : M3 358 = M2 358 := s3.cell 358 (by decide) (by decide)
      have hlo3 : lo M3 = lo M1 := by funext j; unfold lo; rw [s3.cell 354 (by decide) (by decide), e354]
      rw [hG2] at h3 h4 h5
      have hpk3 : ∀ i k : Nat, M3 353 i = k → pk M3 i = k := fun i k h => by unfold pk; rw [h]; rfl
      have hpks : ∀ i, M3 353 i = M2 353 i → pk M3 i = pk M2 i := fun i h => by unfold pk; rw [h]
      have hbet : ∀ i, sel M2 1 i → imp M2 M3 i → bet (Gof M0) M3 i := fun i hs ⟨k, a, b, c, d⟩ => by
        unfold bet; rw [hpk3 i k d, e358]
        rcases c with ⟨_, c⟩ | ⟨c, _⟩
        · rw [hG2] at c; exact c
        · have := hs.2.1; rw [c] at this; exact absurd this (by decide)
      have mx1 : ∀ i, i < (Gof M0).n → (Gof M0).mx i → M2 347 i = 1 := fun i hi hm => by
        rcases w2.mx i (by rw [hG2]; exact hi) with e | e
        · rw [← hG2] at hm; exact absurd e hm
        · exact e
      refine hJ1 M3 (pk M2) (s2.tr (s3.mono (by decide) (by decide))) (pok_imp w2 hp2 s3 (fun i hi => ?_)) ⟨pk M2, rk, by rw [hlo3]; exact Lost_congr L he, ok2, by rw [hlo3, e358, e38]; exact V, by rw [e38]; exact hc, by rw [hlo3, e358]; exact ho, fun i hi hm hcc => ?_, ?_⟩ hlo3 ok2 he (by rw [e358, e38]; exact V) (by rw [e38]; exact hc)
      · rw [hG2] at hi
        by_cases hs : sel M2 1 i
        · rcases h4 i hi hs with h | h
          · exact Or.inl h.1
          · exact Or.inr h
        · exact Or.inl (h3 i hi hs)
      · have hs : sel M2 1 i := ⟨by rw [hG2]; exact hcc, mx1 i hi hm, fun h => absurd h (by decide)⟩
        rcases h4 i hi hs with h | h
        · exact Or.inl (hpks i h.1)
        · exact Or.inr (hbet i hs h)
      · obtain ⟨i, hi, hs, h⟩ := h5
        refine ⟨i, hi, ?_, by have := hs.1; rw [hG2] at this; exact this, hbet i hs h⟩
        have : M2 347 i ≠ 0 := by rw [hs.2.1]; decide
        rw [← hG2]; exact this
  · -- MIN's turn
    have hv1 : v2 = 1 := by
      rcases hv' with e | e
      · exact absurd e hz
      · exact e
    subst hv1
    have pe : PreE M2 := ⟨w2, by rw [hG2, e354]; exact hb, fun i hi hu => by
      have hU : (Gof M0).U (lo M1) i := by rw [← hlo, ← hG2]; exact U_um.mpr ⟨hi, hu⟩
      have := (hd2 i hU).1
      have h3 := hp2 i hi (by rw [hG2]; omega)
      exact ⟨h3.1, h3.2.1⟩⟩
    refine spec_eval M2 pe _ thr (rk := rk) (by rw [hG2, hlo]; exact hd2) (fun i hi hl => ?_) (fun M3 s3 V3 hc3 => ?_)
    · rw [hG2] at hi
      have h1 := L.ntg i hi (by rw [← hlo]; exact hl)
      have h2 : M2 346 = M0 346 := s2.cell 346 (by decide) (by decide)
      rw [h2]; exact Classical.byContradiction h1
    · rw [hG2, hlo] at V3
      have s03 : sv sg6 [34, 38] M0 M3 := s2.tr (s3.mono (by decide) (by decide))
      have hG3 : Gof M3 = Gof M0 := Gof_same s03 (by decide) (by decide) (by decide)
      have w3 : GW M3 := GW_same s03 (by decide) (by decide) w
      have e3 : M3 353 = M2 353 := s3.cell 353 (by decide) (by decide)
      have e354' : M3 354 = M1 354 := by rw [s3.cell 354 (by decide) (by decide), e354]
      have hpk3 : pk M3 = pk M2 := by funext j; unfold pk; rw [e3]
      have hlo3 : lo M3 = lo M1 := by funext j; unfold lo; rw [e354']
      have hp3 : pok M3 := by
        have : M3 349 = M2 349 := s3.cell 349 (by decide) (by decide)
        unfold pok; rw [hG3, hpk3, e3, this, ← hG2]; exact hp2
      have hnn := V3.nn w.wf hd2
      have hmb := mv_bd ⟨V3.pos, hc3⟩ hnn
      -- the measure has fallen
      have hmu : (mv (Gof M0).n (M3 358) (M3 331 38)).toNat + 1 < muI (Gof M0) M2 1 := by
        unfold muI; rw [if_neg (by decide)]
        split
        · next hg =>
          obtain ⟨q, Vq, hcq, h5, i, hi, h6⟩ := hg
          rw [hlo] at Vq h5 hi
          have h7 := Gd.inner w.wf L ok2 he Vq V3 h5
          have h8 := mv_lt ⟨Vq.pos, hcq⟩ ⟨V3.pos, hc3⟩ h7.1 hi.1 (h7.2 i hi h6)
          omega
        · omega
      refine spec_improveAll w3 (by rw [hG3]; exact fun j hj => ⟨(hnn j hj).1, Int.le_trans (hnn j hj).2 hc3⟩) (by rw [hG3, e354']; exact hb) (Or.inl rfl) (fun M4 s4 h4 h5 => ?_) (fun M4 s4 h4 h5 h6 => ?_)
      · have e358 : M4 358 = M3 358 := s4.cell 358 (by decide) (by decide)
        have e38 : M4 331 38 = M3 331 38 := s4.slot 38 (by decide)
        rw [hG3] at h4 h5
        have hpk4 : ∀ i, i < (Gof M0).n → pk M4 i = pk M2 i := fun i hi => by unfold pk; rw [h4 i hi, e3]
        refine ⟨⟨s03.tr (s4.mono (by decide) (by decide)), pok_imp w3 hp3 s4 (fun i hi => Or.inl (h4 i (by rw [← hG3]; exact hi))), by rw [s4.cell 354 (by decide) (by decide)]; exact e354', fun i hi hm => by rw [hpk4 i hi]; exact he i hi hm, Or.inr ⟨rfl, ?_, by rw [e38]; exact hc3, ?_⟩⟩, ?_⟩
        · rw [e358, e38]; exact Val_congr V3 hpk4
        · intro i k hu hm hk hal
          rw [e358]
          have hs : sel M3 0 i := by
            refine ⟨by rw [hG3]; omega, ?_, fun _ => ?_⟩
            · have : ¬ (Gof M3).mx i := by rw [hG3]; exact hm
              exact Classical.byContradiction this
            · have : ¬ lo M3 i := by rw [hlo3]; exact hu.2.1
              exact Classical.byContradiction this
          have hng := (h5 i hu.1 hs).2 k (by rw [hG3]; exact hk) (by rw [hG3]; exact hal)
          apply Classical.byContradiction
          intro hne
          exact hng (Or.inr ⟨hs.2.1, by rw [hG3]; omega⟩)
        · show muI (Gof M0) M4 0 < muI (Gof M0) M2 1
          have : muI (Gof M0) M4 0 = 0 := by unfold muI; rw [if_pos rfl]
          rw [this]; omega
      · have e358 : M4 358 = M3 358 := s4.cell 358 (by decide) (by decide)
        have e38 : M4 331 38 = M3 331 38 := s4.slot 38 (by decide)
        have e354'' : M4 354 = M1 354 := by rw [s4.cell 354 (by decide) (by decide)]; exact e354'
        have hlo4 : lo M4 = lo M1 := by funext j; unfold lo; rw [e354'']
        rw [hG3] at h4 h5 h6
        have hpk4 : ∀ i k : Nat, M4 353 i = k → pk M4 i = k := fun i k h => by unfold pk; rw [h]; rfl
        have hpks : ∀ i, M4 353 i = M3 353 i → pk M4 i = pk M2 i := fun i h => by unfold pk; rw [h, e3]
        have hwor : ∀ i, sel M3 0 i → imp M3 M4 i → wor (Gof M0) M4 i := fun i hs ⟨k, a, b, c, d⟩ => by
          unfold wor; rw [hpk4 i k d, e358]
          rcases c with ⟨c, _⟩ | ⟨_, c⟩
          · exact absurd hs.2.1 c
          · rw [hG3] at c; exact c
        have hseln : ∀ i, (Gof M0).mx i → ¬ sel M3 0 i := fun i hm hs => by
          rw [← hG3] at hm; exact hm hs.2.1
        have hgood : GoodI (Gof M0) M4 := by
          refine ⟨pk M2, by rw [hlo4, e358, e38]; exact V3, by rw [e38]; exact hc3, fun i hu => ?_, ?_⟩
          · by_cases hs : sel M3 0 i
            · rcases h5 i hu.1 hs with h | h
              · exact Or.inl (hpks i h.1)
              · exact Or.inr (hwor i hs h)
            · exact Or.inl (hpks i (h4 i hu.1 hs))
          · obtain ⟨i, hi, hs, h⟩ := h6
            refine ⟨i, ⟨hi, ?_, ?_⟩, hwor i hs h⟩
            · rw [hlo4, ← hlo3]; exact fun hh => hh (hs.2.2 rfl)
            · intro ht
              have := w.wf.tgc i hi ht
              have := hs.1; rw [hG3] at this; omega
        refine ⟨⟨s03.tr (s4.mono (by decide) (by decide)), pok_imp w3 hp3 s4 (fun i hi => ?_), e354'', fun i hi hm => ?_, Or.inl rfl⟩, ?_⟩
        · rw [hG3] at hi
          by_cases hs : sel M3 0 i
          · rcases h5 i hi hs with h | h
            · exact Or.inl h.1
            · exact Or.inr h
          · exact Or.inl (h4 i hi hs)
        · rw [hpks i (h4 i hi (hseln i hm))]; exact he i hi hm
        · show muI (Gof M0) M4 1 < muI (Gof M0) M2 1
          have : muI (Gof M0) M4 1 = (mv (Gof M0).n (M3 358) (M3 331 38)).toNat + 1 := by
            unfold muI; rw [if_neg (by decide), if_pos hgood, e358, e38]
          rw [this]; exact hmu
theorem sg_71 (post : Int → fm_M → Prop) (thr : String → fm_M → Prop) (M M0 : fm_M) (w : GW M0) (hp0 : pok M0) (hpost : ∀ M', sv sg6 [34, 38] M0 M' → pok M' → vals M' → post 0 M') : B_Mo_solveGame_71 post thr M0 1 := by
  have hn := w.n8
  refine ⟨fun M' v1 => sv sg6 [34, 38] M0 M' ∧ pok M' ∧ (v1 = 1 ∨ v1 = 0 ∧ vals M'), fun M' v1 => muO (Gof M0) M' v1, ⟨sv.refl, hp0, Or.inl rfl⟩, ?_⟩
  rintro Ms v1 ⟨ss, hps, hv⟩
  have hv' : v1 = 0 ∨ v1 = 1 := by
    rcases hv with h | ⟨h, _⟩
    · exact Or.inr h
    · exact Or.inl h
  have rv : rg v1 := rg_small (by rcases hv' with e | e <;> rw [e] <;> decide)
  have hGs : Gof Ms = Gof M0 := Gof_same ss (by decide) (by decide) (by decide)
  have ws : GW Ms := GW_same ss (by decide) (by decide) w
  unfold C_Mo_solveGame_71
  refine ⟨rv, fun hz => ?_, fun hz => ?_⟩
  · rcases hv with h | ⟨_, h⟩
    · rw [h] at hz; exact absurd hz (by decide)
    · exact hpost Ms ss hps h
  · have hv1 : v1 = 1 := by
      rcases hv' with e | e
      · exact absurd e hz
      · exact e
    subst hv1
    refine spec_findLost ws hps (fun M1 s1 hb1 hL => ?_)
    obtain ⟨rk, L⟩ := hL
    rw [hGs] at hb1 L
    have s01 : sv sg6 [34, 38] M0 M1 := ss.tr (s1.mono (by decide) (by decide))
    have hG1 : Gof M1 = Gof M0 := Gof_same s01 (by decide) (by decide) (by decide)
    have hpk1 : pk M1 = pk Ms := by funext j; unfold pk; rw [s1.cell 353 (by decide) (by decide)]
    have hp1 : pok M1 := by
      unfold pok; rw [hG1, hpk1, s1.cell 353 (by decide) (by decide), s1.cell 349 (by decide) (by decide), ← hGs]; exact hps
    refine sg_81 post thr _ M0 M1 w s01 hp1 hb1 rk (by rw [hpk1]; exact L) (fun M' s' p' v' => ⟨⟨s', p', Or.inr ⟨rfl, v'⟩⟩, ?_⟩) (fun M' q s' p' g' hlo ok' he' V' hc' => ⟨⟨s', p', Or.inl rfl⟩, ?_⟩)
    · show muO (Gof M0) M' 0 < muO (Gof M0) Ms 1
      have : muO (Gof M0) M' 0 = 0 := by unfold muO; rw [if_pos rfl]
      rw [this]; exact muO_pos _ _ (by decide)
    · show muO (Gof M0) M' 1 < muO (Gof M0) Ms 1
      have e1 : muO (Gof M0) M' 1 = (((Gof M0).n : Int) * LL - mv (Gof M0).n (M' 358) (M' 331 38)).toNat + 1 := by unfold muO; rw [if_neg (by decide), if_pos g']
      rw [e1]
      have L1 : (Gof M0).Lost (pk M1) (lo M1) rk := by rw [hpk1]; exact L
      have hd := L1.dn ok' he'
      have hmb := mv_bd ⟨V'.pos, hc'⟩ (V'.nn w.wf hd)
      unfold muO; rw [if_neg (by decide)]
      split
      · next hg =>
        obtain ⟨p, rks, Ls, okp, Vs, hcs, hos, hsw, i, hi, hm, hcc, hbt⟩ := hg
        have oks : (Gof M0).ok (pk Ms) := by have := hps.ok; rw [hGs] at this; exact this
        rw [hpk1] at he'
        have h7 := Gd.outer w.wf Ls okp L ok' oks he' Vs V' hos hsw
        have h8 := mv_lt (num' := Ms 358) (com' := Ms 331 38) ⟨V'.pos, hc'⟩ ⟨Vs.pos, hcs⟩ h7.1 hi (h7.2 i hi hm hcc hbt)
        omega
      · omega
end Pu_J
section Pu_K
/-- each player has an allowed choice -/
def alw (M : fm_M) : Prop := ∀ i, i < (Gof M).n → 0 < (Gof M).cc i → ∃ k, k < (Gof M).cc i ∧ (Gof M).al i k
theorem spec_solveGame {M : fm_M} (w : GW M) (ha : alw M) {post : Int → fm_M → Prop} {thr : String → fm_M → Prop} (hpost : ∀ M', sv sg6 [34, 38] M M' → vals M' → post 0 M') : wp_Mo_solveGame M post thr := by
  have hn := w.n8
  refine ⟨fun M' v1 => ∃ i : Nat, v1 = i ∧ i ≤ (Gof M).n ∧ sv [353] [] M M' ∧ ∀ j, j < i → 0 < (Gof M).cc j → 0 ≤ M' 353 j ∧ M' 353 j < M 349 j ∧ (Gof M).al j (pk M' j), fun _ v1 => (((Gof M).n : Int) - v1).toNat, ⟨0, rfl, by omega, sv.refl, fun j hj => by omega⟩, ?_⟩
  rintro M1 v1 ⟨i, rfl, hin, hs, h1⟩
  have e20 : M1 331 20 = (Gof M).n := by rw [hs.slot 20 (by decide), hn.1]
  unfold C_Mo_solveGame_2
  rw [e20, Int.toNat_natCast]
  refine ⟨rg_small (by omega), rg_small (by omega), fun h => ?_, fun h => ⟨by omega, fun M2 hM2 => ?_⟩⟩
  · have : i = (Gof M).n := by omega
    subst this
    have hG : Gof M1 = Gof M := Gof_same hs (by decide) (by decide) (by decide)
    have w1 : GW M1 := GW_same hs (by decide) (by decide) w
    refine sg_71 post thr M1 M1 w1 ?_ (fun M' s' _ v' => hpost M' ((hs.mono (by decide) (by decide)).tr s') v')
    unfold pok
    rw [hG, hs.cell 349 (by decide) (by decide)]; exact h1
  · have hi : i < (Gof M).n := by omega
    have hcc := w.cc' hi
    refine ⟨fun M' v1 => v1 = i ∧ ∃ p : Nat, M' 353 i = p ∧ p ≤ (Gof M).cc i ∧ sv [353] [] M M' ∧ (∀ q, q < p → ¬ (Gof M).al i q) ∧ ∀ j, j < i → 0 < (Gof M).cc j → 0 ≤ M' 353 j ∧ M' 353 j < M 349 j ∧ (Gof M).al j (pk M' j), fun M' v1 => (((Gof M).cc i : Int) - M' 353 i).toNat, ⟨rfl, 0, by rw [hM2, fu_at, if_pos rfl]; rfl, by omega, by rw [hM2]; exact hs.u (by decide) (by decide), fun q hq => by omega, fun j hj => ?_⟩, ?_⟩
    · have : M2 353 j = M1 353 j := by rw [hM2, fu_at, if_neg (by omega)]
      have e2 : pk M2 j = pk M1 j := by unfold pk; rw [this]
      rw [this, e2]; exact h1 j hj
    · rintro M' v1 ⟨rfl, p, hp, hpc, s', hq, h2⟩
      unfold C_Mo_solveGame_17
      rw [Int.toNat_natCast, hp, s'.cell 349 (by decide) (by decide), hcc.1, s'.cell 352 (by decide) (by decide)]
      refine ⟨by omega, rg_small (by omega), rg_small (by omega), fun h3 => ⟨⟨i + 1, by omega, by omega, s', fun j hj hc => ?_⟩, by dsimp only; omega⟩, fun h3 => spec_has (fun hb => ⟨rg_small (by decide), fun h => absurd rfl h, fun _ M3 hM3 => ⟨⟨rfl, p + 1, ?_, by omega, by rw [hM3]; exact s'.u (by decide) (by decide), fun q hq2 => ?_, fun j hj hc => ?_⟩, ?_⟩⟩) (fun hb => ⟨rg_small (by decide), fun _ => ⟨⟨i + 1, by omega, by omega, s', fun j hj hc => ?_⟩, by dsimp only; omega⟩, fun h => absurd h (by decide)⟩)⟩
      · by_cases e : j = i
        · subst e
          obtain ⟨k, a, b⟩ := ha j hi hc
          exact absurd b (hq k (by omega))
        · exact h2 j (by omega) hc
      · rw [hM3, fu_at, if_pos rfl, hp]; rfl
      · by_cases e : q = p
        · subst e; exact hb
        · exact hq q (by omega)
      · have : M3 353 j = M' 353 j := by rw [hM3, fu_at, if_neg (by omega)]
        have e2 : pk M3 j = pk M' j := by unfold pk; rw [this]
        rw [this, e2]; exact h2 j hj hc
      · have : M3 353 i = p + 1 := by rw [hM3, fu_at, if_pos rfl, hp]
        dsimp only; rw [this, hp]; omega
      · by_cases e : j = i
        · subst e
          have : pk M' j = p := by unfold pk; rw [hp]; rfl
          rw [this, hp, hcc.1]; exact ⟨by omega, by omega, hb⟩
        · exact h2 j (by omega) hc
theorem spec_divisor {M : fm_M} {a b : Int} (ha : 0 ≤ a ∧ a ≤ 429981696) (hb : 0 < b ∧ b ≤ 429981696) {post : Int → fm_M → Prop} {thr : String → fm_M → Prop} (hp : ∀ d, 0 < d → d ≤ 429981696 → post d M) : wp_Mo_divisor M a b post thr := by
  refine ⟨fun M' v4 v6 => M' = M ∧ 0 ≤ v4 ∧ v4 ≤ 429981696 ∧ 0 ≤ v6 ∧ v6 ≤ 429981696 ∧ (0 < v4 ∨ 0 < v6), fun _ _ v6 => v6.toNat, ⟨rfl, ha.1, ha.2, by omega, hb.2, Or.inr hb.1⟩, ?_⟩
  rintro M' v4 v6 ⟨rfl, h1, h2, h3, h4, h5⟩
  unfold C_Mo_divisor_6
  refine ⟨⟨by omega, by omega⟩, fun h => ?_, fun h => ?_⟩
  · have : v6 = 0 := by
      unfold jcmp at h
      split at h
      · omega
      · split at h <;> omega
    exact hp v4 (by omega) h2
  · have hne : v6 ≠ 0 := fun e => h (by rw [e]; decide)
    have e1 : v4 - v4.tdiv v6 * v6 = v4.tmod v6 := by
      have := Int.mul_tdiv_add_tmod v4 v6
      rw [Int.mul_comm] at this; omega
    have e2 : v4.tmod v6 = v4 % v6 := Int.tmod_eq_emod_of_nonneg h1
    have e3 := Int.emod_nonneg v4 hne
    have e4 := Int.emod_lt_of_pos v4 (show 0 < v6 by omega)
    refine ⟨⟨by omega, by omega⟩, hne, ⟨rfl, by omega, by omega, ?_, ?_, Or.inl (by omega)⟩, ?_⟩
    · rw [e1, e2]; exact e3
    · rw [e1, e2]; omega
    · dsimp only; rw [e1, e2]; omega
theorem rl_p2 {a b : Int} (ha : 0 ≤ a ∧ a ≤ 429981696) (hb : 0 ≤ b ∧ b ≤ 429981696) : rl (a * b) := by
  have h1 := Int.mul_nonneg ha.1 hb.1
  have h2 : a * b ≤ 429981696 * 429981696 := Int.mul_le_mul ha.2 hb.2 hb.1 (by decide)
  exact ⟨by omega, by omega⟩
/-- what was found is in range -/
def hlb (M : fm_M) : Prop := ∀ i, i < (Gof M).n → (0 ≤ M 359 i ∧ M 359 i ≤ 429981696) ∧ (0 ≤ M 360 i ∧ M 360 i ≤ 429981696)
theorem spec_isKept {M : fm_M} (w : GW M) (hv : vals M) (hh : hlb M) {post : Int → fm_M → Prop} {thr : String → fm_M → Prop} (h0 : post 0 M) (h1 : post 1 M) : wp_Mo_isKept M post thr := by
  have hn := w.n8
  obtain ⟨q1, q2, q3⟩ := hv
  refine ⟨fun M' v1 v2 => M' = M ∧ (v1 = 0 ∨ v1 = 1) ∧ ∃ i : Nat, v2 = i ∧ i ≤ (Gof M).n, fun _ _ v2 => (((Gof M).n : Int) - v2).toNat, ⟨rfl, Or.inr rfl, 0, rfl, by omega⟩, ?_⟩
  rintro M' v1 v2 ⟨rfl, hv1, i, rfl, hi⟩
  have rv : rg v1 := rg_small (by rcases hv1 with e | e <;> rw [e] <;> decide)
  unfold C_Mo_isKept_4
  rw [← hn.1, Int.toNat_natCast]
  refine ⟨rg_small (by omega), rg_small (by omega), fun h => ⟨hv1, ?_⟩, fun h => ⟨rv, fun hz => ⟨⟨rfl, Or.inl rfl, i + 1, by omega, by omega⟩, by dsimp only; omega⟩, fun hz => ⟨by omega, ?_⟩⟩⟩
  · rcases hv1 with e | e <;> rw [e] <;> assumption
  · have a := q3 i (by omega)
    have b := hh i (by omega)
    exact ⟨rl_p2 (by omega) b.2, rl_p2 b.1 (by omega), fun _ => ⟨⟨rfl, Or.inl rfl, i + 1, by omega, by omega⟩, by dsimp only; omega⟩, fun _ => ⟨⟨rfl, Or.inr rfl, i + 1, by omega, by omega⟩, by dsimp only; omega⟩⟩
theorem bit_all : ∀ c : Fin 11, ∀ k : Fin 11, k.1 < c.1 → jand (jshr (jshl 1 (c.1 : Int) - 1) (k.1 : Int)) 1 = 1 := by decide
theorem bit_one : ∀ k : Fin 11, jand (jshr (jshl 1 (k.1 : Int)) (k.1 : Int)) 1 = 1 := by decide
theorem spec_allowAll {M : fm_M} (w : GW M) {post : Int → fm_M → Prop} {thr : String → fm_M → Prop} (hp : ∀ M', sv [352] [] M M' → alw M' → post 0 M') : wp_Mo_allowAll M post thr := by
  have hn := w.n8
  refine ⟨fun M' v1 => ∃ i : Nat, v1 = i ∧ i ≤ (Gof M).n ∧ sv [352] [] M M' ∧ ∀ j, j < i → M' 352 j = jshl 1 (M 349 j) - 1, fun _ v1 => (((Gof M).n : Int) - v1).toNat, ⟨0, rfl, by omega, sv.refl, fun j hj => by omega⟩, ?_⟩
  rintro M1 v1 ⟨i, rfl, hin, hs, h1⟩
  have e20 : M1 331 20 = (Gof M).n := by rw [hs.slot 20 (by decide), hn.1]
  unfold C_Mo_allowAll_2
  rw [e20, Int.toNat_natCast]
  refine ⟨rg_small (by omega), rg_small (by omega), fun h => ?_, fun h => ⟨by omega, fun M2 hM2 => ⟨⟨i + 1, by omega, by omega, by rw [hM2]; exact hs.u (by decide) (by decide), fun j hj => ?_⟩, by dsimp only; omega⟩⟩⟩
  · have : i = (Gof M).n := by omega
    subst this
    refine hp M1 hs (fun j hj hc => ?_)
    have en : (Gof M1).n = (Gof M).n := by show (M1 331 20).toNat = _; rw [e20]; rfl
    have ec : (Gof M1).cc j = (Gof M).cc j := by show (M1 349 j).toNat = (M 349 j).toNat; rw [hs.cell 349 (by decide) (by decide)]
    rw [en] at hj
    rw [ec] at hc ⊢
    refine ⟨0, hc, ?_⟩
    have hcc := w.cc' hj
    show jand (jshr (M1 352 j) ((0 : Nat) : Int)) 1 = 1
    rw [h1 j hj, hcc.1]
    exact bit_all ⟨(Gof M).cc j, by omega⟩ ⟨0, by omega⟩ hc
  · rw [hM2, fu_at]
    by_cases e : j = i
    · rw [if_pos e, e, hs.cell 349 (by decide) (by decide)]
    · rw [if_neg e]; exact h1 j (by omega)
/-- the game but for what is allowed -/
theorem GW_al {M M' : fm_M} {cs bs : List Nat} (h : sv cs bs M M') (hc : ∀ a ∈ gcs, a ∉ cs) (hb : 6 ∉ bs ∧ 20 ∉ bs) : (Gof M').n = (Gof M).n ∧ (Gof M').cc = (Gof M).cc := by
  constructor
  · show (M' 331 20).toNat = (M 331 20).toNat; rw [h.slot 20 hb.2]
  · funext i; show (M' 349 i).toNat = (M 349 i).toNat; rw [h.cell 349 (hc 349 (by decide)) (by decide)]
abbrev fb : List Nat := [352, 353, 354, 355, 356, 357, 358, 361]
theorem spec_findBest {M : fm_M} (w : GW M) (hh : hlb M) {a : Int} (ha : a = 0 ∨ a = 1) {post : Int → fm_M → Prop} {thr : String → fm_M → Prop} (hp : ∀ M', sv fb [34, 38] M M' → post 0 M') : wp_Mo_findBest M a post thr := by
  have hn := w.n8
  unfold wp_Mo_findBest
  refine spec_allowAll w (fun M0 s0 a0 => ?_)
  have same : ∀ M', sv fb [34, 38] M M' → GW M' ∧ (Gof M').n = (Gof M).n ∧ (Gof M').cc = (Gof M).cc ∧ hlb M' := fun M' s => by
    have h1 := GW_al s (by decide) (by decide)
    refine ⟨GW_same s (by decide) (by decide) w, h1.1, h1.2, ?_⟩
    unfold hlb; rw [h1.1, s.cell 359 (by decide) (by decide), s.cell 360 (by decide) (by decide)]; exact hh
  have ra : rg a := rg_small (by rcases ha with e | e <;> rw [e] <;> decide)
  refine ⟨fun M' v2 => ∃ i : Nat, v2 = i ∧ i ≤ (Gof M).n ∧ sv fb [34, 38] M M' ∧ alw M', fun _ v2 => (((Gof M).n : Int) - v2).toNat, ⟨0, rfl, by omega, s0.mono (by decide) (by decide), a0⟩, ?_⟩
  rintro M1 v2 ⟨i, rfl, hin, s1, a1⟩
  obtain ⟨w1, en, ec, h1⟩ := same M1 s1
  have e20 : M1 331 20 = (Gof M).n := by rw [s1.slot 20 (by decide), hn.1]
  unfold C_Mo_findBest_6
  rw [e20, Int.toNat_natCast]
  refine ⟨rg_small (by omega), rg_small (by omega), fun h => hp M1 s1, fun h => ⟨by omega, ?_⟩⟩
  have hi : i < (Gof M).n := by omega
  have hcc := w1.cc' (i := i) (by rw [en]; exact hi)
  rw [ec] at hcc
  have hm := w1.mx i (by rw [en]; exact hi)
  have rm : rg (M1 347 i) := rg_small (by rcases hm with e | e <;> rw [e] <;> decide)
  have skip : (∃ i_1 : Nat, ((i : Int) + 1) = i_1 ∧ i_1 ≤ (Gof M).n ∧ sv fb [34, 38] M M1 ∧ alw M1) ∧ (((Gof M).n : Int) - ((i : Int) + 1)).toNat < (((Gof M).n : Int) - (i : Int)).toNat := ⟨⟨i + 1, by omega, by omega, s1, a1⟩, by omega⟩
  rw [hcc.1]
  refine ⟨rg_small (by omega), fun _ => skip, fun h2 => ⟨rm, ra, fun _ => skip, fun _ => ?_⟩⟩
  refine ⟨fun M' v2 v3 v4 => v2 = i ∧ (v4 = 0 ∨ v4 = 1) ∧ (∃ k : Nat, v3 + 1 = k ∧ k ≤ (Gof M).cc i ∧ (v4 = 1 → 1 ≤ k)) ∧ sv fb [34, 38] M M' ∧ alw M', fun _ _ v3 _ => (((Gof M).cc i : Int) - v3).toNat, ⟨rfl, Or.inl rfl, ⟨0, rfl, by omega, fun h => absurd h (by decide)⟩, s1, a1⟩, ?_⟩
  rintro M2 v2 v3 v4 ⟨rfl, hv4, ⟨k, hk, hkc, hk1⟩, s2, a2⟩
  obtain ⟨w2, en2, ec2, h22⟩ := same M2 s2
  have e349 : M2 349 i = (Gof M).cc i := by
    have := (w2.cc' (i := i) (by rw [en2]; exact hi)).1; rw [ec2] at this; exact this
  have rv4 : rg v4 := rg_small (by rcases hv4 with e | e <;> rw [e] <;> decide)
  have fin : 1 ≤ k → B_Mo_findBest_80 a post thr (fun M'_1 v2' => (∃ i : Nat, v2' = i ∧ i ≤ (Gof M).n ∧ sv fb [34, 38] M M'_1 ∧ alw M'_1) ∧ (((Gof M).n : Int) - v2').toNat < (((Gof M).n : Int) - (i : Int)).toNat) M2 i v3 := by
    intro hk2
    refine ⟨by omega, by omega, fun M3 hM3 => ⟨⟨i + 1, by omega, by omega, by rw [hM3]; exact s2.u (by decide) (by decide), ?_⟩, by omega⟩⟩
    have : Gof M3 = Gof M2 := Gof_same (cs := [361]) (bs := []) (by rw [hM3]; exact sv.refl.u (by decide) (by decide)) (by decide) (by decide) (by decide)
    unfold alw; rw [this]; exact a2
  unfold C_Mo_findBest_38
  rw [Int.toNat_natCast, e349]
  refine ⟨rv4, fun hz => fin (hk1 (by rcases hv4 with e | e; exact absurd e hz; exact e)), fun hz => ⟨by omega, rg_small (by omega), rg_small (by omega), fun h3 => fin (by omega), fun h3 M3 hM3 => ?_⟩⟩
  have s3 : sv fb [34, 38] M M3 := by rw [hM3]; exact s2.u (by decide) (by decide)
  obtain ⟨w3, en3, ec3, h33⟩ := same M3 s3
  have a3 : alw M3 := by
    intro j hj hc
    rw [en3] at hj
    rw [ec3] at hc ⊢
    by_cases e : j = i
    · subst e
      refine ⟨k, by omega, ?_⟩
      show jand (jshr (M3 352 j) (k : Int)) 1 = 1
      rw [hM3, fu_at, if_pos rfl, hk]
      exact bit_one ⟨k, by omega⟩
    · obtain ⟨q, b1, b2⟩ := a2 j (by rw [en2]; exact hj) (by rw [ec2]; exact hc)
      rw [ec2] at b1
      refine ⟨q, b1, ?_⟩
      show jand (jshr (M3 352 j) (q : Int)) 1 = 1
      rw [hM3, fu_at, if_neg e]; exact b2
  refine spec_solveGame w3 a3 (fun M4 s4 v4' => ?_)
  have s34 : sv fb [34, 38] M M4 := s3.tr (s4.mono (by decide) (by decide))
  obtain ⟨w4, en4, ec4, h44⟩ := same M4 s34
  have a4 : alw M4 := by
    have : Gof M4 = Gof M3 := Gof_same s4 (by decide) (by decide) (by decide)
    unfold alw; rw [this]; exact a3
  exact spec_isKept w4 v4' h44 ⟨⟨rfl, Or.inl rfl, ⟨k + 1, by omega, by omega, fun _ => by omega⟩, s34, a4⟩, by dsimp only; omega⟩ ⟨⟨rfl, Or.inr rfl, ⟨k + 1, by omega, by omega, fun _ => by omega⟩, s34, a4⟩, by dsimp only; omega⟩
end Pu_K
