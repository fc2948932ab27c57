set_option maxRecDepth 10000
section Pu_cvc
/-! The class's better choices, and its divisor. -/
theorem alg9 {b d e f : Int} (hb : 0 < b) (h : e * b < (b * f) * d) : e < d * f := by
  have h4 : b * e < b * (d * f) := by
    have e1 : b * (d * f) = b * f * d := by grind
    have e2 : b * e = e * b := Int.mul_comm _ _
    omega
  exact Int.lt_of_mul_lt_mul_left h4 (Int.le_of_lt hb)
theorem alg10 {b d e f : Int} (hb : 0 < b) (h : (b * f) * d < e * b) : d * f < e := by
  have h4 : b * (d * f) < b * e := by
    have e1 : b * (d * f) = b * f * d := by grind
    have e2 : b * e = e * b := Int.mul_comm _ _
    omega
  exact Int.lt_of_mul_lt_mul_left h4 (Int.le_of_lt hb)
theorem alg11 {b d e f : Int} (hb : 0 < b) (h : (b * f) * d ≤ e * b) : d * f ≤ e := by
  apply Classical.byContradiction
  intro hn
  have := Int.mul_lt_mul_of_pos_left (show e < d * f by omega) hb
  have e1 : b * (d * f) = b * f * d := by grind
  have e2 : b * e = e * b := Int.mul_comm _ _
  omega
theorem alg12 {b d e f : Int} (hb : 0 < b) (h : e * b ≤ (b * f) * d) : e ≤ d * f := by
  apply Classical.byContradiction
  intro hn
  have := Int.mul_lt_mul_of_pos_left (show d * f < e by omega) hb
  have e1 : b * (d * f) = b * f * d := by grind
  have e2 : b * e = e * b := Int.mul_comm _ _
  omega
theorem jcm_lt {a b : Int} : jcmp a b < 0 ↔ a < b := by
  unfold jcmp; split
  · omega
  · split <;> omega
theorem jcm_le {a b : Int} : jcmp a b ≤ 0 ↔ a ≤ b := by
  unfold jcmp; split
  · omega
  · split <;> omega
/-- a choice is better -/
def gn (G : Gd) (num : Nat → Int) (a : Int) (i c : Nat) : Prop := (a = 1 ∧ G.wo i c * num i < G.S i c num) ∨ (a = 0 ∧ G.S i c num < G.wo i c * num i)
section Cx
variable {g m : Nat} {G : Gd} {post : Int → fm_M → Prop} {thr : String → fm_M → Prop}
/-- numbers in range -/
def vrg (G : Gd) (M : fm_M) : Prop := ∀ j, j < G.n → 0 ≤ M 322 j ∧ M 322 j ≤ 429981696
theorem w_Sb {M : fm_M} (h : CV g m G M) (hv : vrg G M) {i c : Nat} (hi : i < G.n) (hc : c < G.cc i) : 0 ≤ G.S i c (M 322) ∧ G.S i c (M 322) ≤ 2579890176 := by
  have h1 := Gd.S_le h.W hi hc (h := fun _ => 0) (g := M 322) (fun j hj => (hv j hj).1)
  have h2 := Gd.S_le h.W hi hc (h := M 322) (g := fun _ => 429981696) (fun j hj => (hv j hj).2)
  rw [Gd.S_const] at h1 h2
  have h3 := h.w6 i c hi hc
  omega
theorem w_weigh {M : fm_M} (h : CV g m G M) (hv : vrg G M) {i c : Nat} (hi : i < G.n) (hc : c < G.cc i) (ha : G.al i c) (hp : post (G.S i c (M 322)) M) : wp_Va_weigh M i c post thr := by
  have h8 := h.n8
  have hcc := h.cc i hi
  have hm10 := h.vs.m10
  have hg := h.vs.g1.gg
  have t := tcG hg
  have C := cmOk hg (c := c) (by omega)
  have hnb := h.nb i c hi hc
  have hb4 := h.nbl hi hc
  have hS := w_Sb h hv hi hc
  unfold wp_Va_weigh
  rw [h.vs.g1.gm, Int.toNat_natCast, show g + 3 + 4 + 13 * c = g + (7 + 13 * c) by omega]
  refine ⟨t.1, t.2.2.2, by omega, ⟨fun M' c3 v4 v6 => M' = M ∧ c3 = g + (7 + 13 * c) ∧ ∃ b : Nat, v6 = b ∧ b ≤ G.nb i c ∧ v4 = sm b (fun b => G.wt i c b * M 322 (G.to i c b)), fun _ _ _ v6 => (5 - v6).toNat, ⟨rfl, rfl, 0, rfl, by omega, rfl⟩, ?_⟩⟩
  rintro M' c3 v4 v6 ⟨rfl, rfl, b, rfl, hb, rfl⟩
  unfold C_Va_weigh_19
  rw [hnb]
  refine ⟨C.t0, rg_small (by omega), rg_small (by omega), fun h4 => ?_, fun h4 => ⟨C.t4, by omega, ?_⟩⟩
  · have e : b = G.nb i c := by omega
    subst e
    have e2 : sm (G.nb i c) (fun b => G.wt i c b * M' 322 (G.to i c b)) = G.S i c (M' 322) := rfl
    rw [e2, jwl_id ⟨by omega, by omega⟩]; exact hp
  · have B := brOk hg (c := c) (b := b) (by omega) (by omega)
    have hwb := h.wt i c b hi hc (by omega)
    have hl := h.W.lt i c b hi hc (by omega)
    have hr : rg (G.wt i c b) := by
      have := h.vs.g1.cb.g' (wtB ⟨c, by omega⟩ ⟨b, by omega⟩) (x := 1) (by omega) (by omega)
      have e : M' (g + (12 + 13 * c + 2 * b)) 1 ≤ 6 := this.2
      have e0 : 0 ≤ M' (g + (12 + 13 * c + 2 * b)) 1 := this.1
      exact rg_small (by omega)
    rw [Int.toNat_natCast, show g + (7 + 13 * c) + 4 + 1 + 2 * b = g + (12 + 13 * c + 2 * b) by omega, hwb]
    refine ⟨B.t0, hr, w_next h hi hc ha (by omega) ⟨by omega, ⟨rfl, rfl, b + 1, by omega, by omega, ?_⟩, by dsimp only; omega⟩⟩
    simp only [sm]
    rw [Int.toNat_natCast]
def bcI (G : Gd) (M : fm_M) (a : Int) (i c0 m : Nat) (M' : fm_M) (v3 v4 v6 : Int) : Prop := M' = M ∧ ∃ c k : Nat, v3 = c ∧ c < G.cc i ∧ G.al i c ∧ v4 = G.S i c (M 322) ∧ v6 = k ∧ k ≤ m ∧ ((c = c0 ∧ ∀ c', c' < k → c' < G.cc i → G.al i c' → ¬ gn G (M 322) a i c') ∨ gn G (M 322) a i c)
def bcJ (G : Gd) (M : fm_M) (a : Int) (i c0 m q : Nat) (M' : fm_M) (v3 v4 v6 : Int) : Prop := bcI G M a i c0 m M' v3 v4 v6 ∧ (10 - v6).toNat < (10 - (q : Int)).toNat
theorem w_bestChoice {M : fm_M} (h : CV g m G M) (hv : vrg G M) {i c0 : Nat} (hi : i < G.n) (e0 : M 323 i = c0) (hc0 : c0 < G.cc i) (ha0 : G.al i c0) (heq : G.wo i c0 * M 322 i = G.S i c0 (M 322)) {a : Int} (ha : a = 0 ∨ a = 1) (hp : ∀ c : Nat, c < G.cc i → G.al i c → ((c = c0 ∧ ∀ c', c' < G.cc i → G.al i c' → ¬ gn G (M 322) a i c') ∨ gn G (M 322) a i c) → post c M) : wp_Va_bestChoice M i a post thr := by
  have h8 := h.n8
  have hn := h.n
  have hcc := h.cc i hi
  have hm10 := h.vs.m10
  have hg := h.vs.g1.gg
  have t := tcG hg
  unfold wp_Va_bestChoice
  rw [Int.toNat_natCast, e0]
  refine ⟨by omega, w_weigh h hv hi hc0 ha0 ?_⟩
  refine ⟨bcI G M a i c0 m, fun _ _ _ v6 => (10 - v6).toNat, ⟨rfl, c0, 0, rfl, hc0, ha0, rfl, rfl, by omega, Or.inl ⟨rfl, fun c' hc' => by omega⟩⟩, ?_⟩
  rintro M' v3 v4 v6 ⟨rfl, c, k, rfl, hc, hal, rfl, rfl, hk, hI⟩
  unfold C_Va_bestChoice_18
  rw [h.vs.g1.gm, h.vs.hm]
  have keep : k < m → (k < G.cc i → G.al i k → c = c0 → ¬ gn G (M' 322) a i k) → bcJ G M' a i c0 m k M' c (G.S i c (M' 322)) ((k : Int) + 1) := fun hkm hh => by
    refine ⟨⟨rfl, c, k + 1, rfl, hc, hal, rfl, by omega, by omega, ?_⟩, by omega⟩
    rcases hI with ⟨e, hno⟩ | hg2
    · refine Or.inl ⟨e, fun c' hc' b1 b2 => ?_⟩
      by_cases e2 : c' = k
      · rw [e2] at b1 b2 ⊢; exact hh b1 b2 e
      · exact hno c' (by omega) b1 b2
    · exact Or.inr hg2
  refine ⟨t.1, rg_small (by omega), rg_small (by omega), fun h4 => hp c hc hal ?_, fun h4 => v_choicesOf h.vs (by omega) (x_hasBit (fun hb => ⟨rg_small (by decide), fun _ => keep (by omega) (fun b1 b2 _ => absurd ((h.en i k hi (by omega)).mpr ⟨b1, b2⟩) hb), fun h => absurd rfl h⟩) (fun hb => ⟨rg_small (by decide), fun h => absurd h (by decide), fun _ => ?_⟩))⟩
  · rcases hI with ⟨e, hno⟩ | hg2
    · exact Or.inl ⟨e, fun c' b1 b2 => hno c' (by omega) b1 b2⟩
    · exact Or.inr hg2
  obtain ⟨k1, k2⟩ := (h.en i k hi (by omega)).mp hb
  refine w_weigh h hv hi k1 k2 ?_
  have C := cmOk hg (c := c) (by omega)
  have K := cmOk hg (c := k) (by omega)
  have wc := h.ws i c hi hc
  have wk := h.ws i k hi k1
  have wc6 := h.w6 i c hi hc
  have wk6 := h.w6 i k hi k1
  have wcp := h.wp hi hc
  have wkp := h.wp hi k1
  have Sc := w_Sb h hv hi hc
  have Sk := w_Sb h hv hi k1
  rw [h.vs.g1.gm, Int.toNat_natCast, Int.toNat_natCast, show g + 3 + 4 + 13 * c = g + (7 + 13 * c) by omega, show g + 3 + 4 + 13 * k = g + (7 + 13 * k) by omega, wc, wk]
  have r1 : 0 ≤ G.S i k (M' 322) * G.wo i c ∧ G.S i k (M' 322) * G.wo i c ≤ 2579890176 * 6 := ⟨Int.mul_nonneg Sk.1 (Int.le_of_lt wcp), Int.mul_le_mul Sk.2 wc6 (Int.le_of_lt wcp) (by decide)⟩
  have r2 : 0 ≤ G.S i c (M' 322) * G.wo i k ∧ G.S i c (M' 322) * G.wo i k ≤ 2579890176 * 6 := ⟨Int.mul_nonneg Sc.1 (Int.le_of_lt wkp), Int.mul_le_mul Sc.2 wk6 (Int.le_of_lt wkp) (by decide)⟩
  rw [jwl_id ⟨by omega, by omega⟩]
  have same : (c = c0 → ¬ gn G (M' 322) a i k) → bcJ G M' a i c0 m k M' c (G.S i c (M' 322)) ((k : Int) + 1) := fun hh => keep (by omega) (fun _ _ e => hh e)
  have new : gn G (M' 322) a i k → bcJ G M' a i c0 m k M' k (G.S i k (M' 322)) ((k : Int) + 1) := fun hh => ⟨⟨rfl, k, k + 1, rfl, k1, k2, rfl, by omega, by omega, Or.inr hh⟩, by omega⟩
  refine ⟨t.1, t.2.2.2, by omega, C.t0, rg_small (by omega), by omega, K.t0, rg_small (by omega), rg_small (by omega), fun h0 => ⟨fun hj => same (fun e hgn => ?_), fun hj => new (Or.inr ⟨h0, ?_⟩)⟩, fun h1 => ⟨fun hj => same (fun e hgn => ?_), fun hj => new (Or.inl ⟨by omega, ?_⟩)⟩⟩
  · rcases hgn with ⟨b, _⟩ | ⟨_, b⟩
    · omega
    · have hge : G.S i c (M' 322) * G.wo i k ≤ G.S i k (M' 322) * G.wo i c := by
        have := (not_congr (jcm_lt (a := G.S i k (M' 322) * G.wo i c - G.S i c (M' 322) * G.wo i k) (b := 0))).mp (Int.not_lt.mpr hj)
        omega
      rw [e, ← heq] at hge
      rw [e] at wcp
      have := alg11 wcp hge
      omega
  · have hlt : G.S i k (M' 322) * G.wo i c < G.S i c (M' 322) * G.wo i k := by
      have := jcm_lt.mp (Int.not_le.mp hj)
      omega
    rcases hI with ⟨e, _⟩ | hg2
    · rw [e, ← heq] at hlt
      rw [e] at wcp
      exact alg9 wcp hlt
    · rcases hg2 with ⟨b, _⟩ | ⟨_, b⟩
      · omega
      · exact alg6 wkp (a := 0) (Int.le_of_lt hlt) b wcp
  · rcases hgn with ⟨_, b⟩ | ⟨b, _⟩
    · have hle : G.S i k (M' 322) * G.wo i c ≤ G.S i c (M' 322) * G.wo i k := by
        have := jcm_le.mp hj
        omega
      rw [e, ← heq] at hle
      rw [e] at wcp
      have := alg12 wcp hle
      omega
    · omega
  · have hgt : G.S i c (M' 322) * G.wo i k < G.S i k (M' 322) * G.wo i c := by
      have := (not_congr jcm_le).mp hj
      omega
    rcases hI with ⟨e, _⟩ | hg2
    · rw [e, ← heq] at hgt
      rw [e] at wcp
      exact alg10 wcp hgt
    · rcases hg2 with ⟨_, b⟩ | ⟨b, _⟩
      · exact alg5 wkp (a := 0) (Int.le_of_lt hgt) b wcp
      · omega
/-- states whose player chooses now -/
def isl (G : Gd) (M : fm_M) (a : Int) (i : Nat) : Prop := G.U (plo M) i ∧ ((G.mx i ∧ a = 1) ∨ (¬ G.mx i ∧ a = 0))
/-- a better choice was taken -/
def imq (G : Gd) (M M' : fm_M) (a : Int) (i : Nat) : Prop := ∃ c : Nat, M' 323 i = c ∧ c < G.cc i ∧ G.al i c ∧ gn G (M 322) a i c
def nog (G : Gd) (M : fm_M) (a : Int) (i : Nat) : Prop := ∀ c, c < G.cc i → G.al i c → ¬ gn G (M 322) a i c
def imI (G : Gd) (M : fm_M) (a : Int) (M' : fm_M) (v2 v3 : Int) : Prop := ∃ i : Nat, v3 = i ∧ i ≤ G.n ∧ ex1 323 M M' ∧ (∀ j, i ≤ j ∨ ¬ isl G M a j → M' 323 j = M 323 j) ∧ ((v2 = 0 ∧ ∀ j, j < i → isl G M a j → M' 323 j = M 323 j ∧ nog G M a j) ∨ (v2 = 1 ∧ (∀ j, j < i → isl G M a j → M' 323 j = M 323 j ∨ imq G M M' a j) ∧ ∃ j, j < i ∧ isl G M a j ∧ imq G M M' a j))
def imJ (G : Gd) (M : fm_M) (a : Int) (q : Nat) (M' : fm_M) (v2 v3 : Int) : Prop := imI G M a M' v2 v3 ∧ ((G.n : Int) - v3).toNat < ((G.n : Int) - (q : Int)).toNat
theorem w_improve {M : fm_M} (h : CV g m G M) (hv : vrg G M) (hc : pch G M) (heq : ∀ i, G.U (plo M) i → G.wo i (pol M i) * M 322 i = G.S i (pol M i) (M 322)) {a : Int} (ha : a = 0 ∨ a = 1) (h0 : ∀ M', ex1 323 M M' → (∀ i, M' 323 i = M 323 i) → (∀ i, isl G M a i → nog G M a i) → post 0 M') (h1 : ∀ M', ex1 323 M M' → (∀ i, ¬ isl G M a i → M' 323 i = M 323 i) → (∀ i, isl G M a i → M' 323 i = M 323 i ∨ imq G M M' a i) → (∃ i, isl G M a i ∧ imq G M M' a i) → post 1 M') : wp_Va_improve M a post thr := by
  have h8 := h.n8
  have hn := h.n
  have ra : rg a := rg_small (by omega)
  refine ⟨imI G M a, fun _ _ v3 => ((G.n : Int) - v3).toNat, ⟨0, rfl, by omega, ex1.rfl, fun _ _ => rfl, Or.inl ⟨rfl, fun j hj => by omega⟩⟩, ?_⟩
  rintro M1 v2 v3 ⟨i, rfl, hi, x1, o1, I1⟩
  have n1 : M1 142 = M 142 := x1 142 (by decide)
  have hg1 := h.vf (M' := M1) (fun a ha => x1 a (by omega))
  have e322 : M1 322 = M 322 := x1 322 (by decide)
  have hv2 : v2 = 0 ∨ v2 = 1 := by
    rcases I1 with ⟨e, _⟩ | ⟨e, _⟩
    · exact Or.inl e
    · exact Or.inr e
  have rv : rg v2 := rg_small (by omega)
  have hU : ∀ j, isl G M a j → j < G.n := fun j hj => hj.1.1
  unfold C_Va_improve_4
  rw [n1, ← hn]
  refine ⟨rg_small (by omega), rg_small (by omega), fun h4 => ⟨hv2, ?_⟩, fun h4 => ?_⟩
  · rcases I1 with ⟨e, q⟩ | ⟨e, q, j, j1, j2, j3⟩
    · rw [e]
      refine h0 M1 x1 (fun j => ?_) (fun j hj => (q j (by have := hU j hj; omega) hj).2)
      by_cases hj : isl G M a j
      · exact (q j (by have := hU j hj; omega) hj).1
      · exact o1 j (Or.inr hj)
    · rw [e]
      exact h1 M1 x1 (fun j hj => o1 j (Or.inr hj)) (fun j hj => q j (by have := hU j hj; omega) hj) ⟨j, j2, j3⟩
  have hin : i < G.n := by omega
  have skip : ¬ isl G M a i → imJ G M a i M1 v2 ((i : Int) + 1) := fun hns => by
    refine ⟨⟨i + 1, by omega, by omega, x1, fun j hj => o1 j (by
      rcases hj with hj | hj
      · exact Or.inl (by omega)
      · exact Or.inr hj), ?_⟩, by omega⟩
    rcases I1 with ⟨e, q⟩ | ⟨e, q, j, j1, j2, j3⟩
    · refine Or.inl ⟨e, fun j hj hs => ?_⟩
      by_cases e2 : j = i
      · rw [e2] at hs; exact absurd hs hns
      · exact q j (by omega) hs
    · refine Or.inr ⟨e, fun j hj hs => ?_, j, by omega, j2, j3⟩
      by_cases e2 : j = i
      · rw [e2] at hs; exact absurd hs hns
      · exact q j (by omega) hs
  have eo : opn M1 i ↔ opn M i := by unfold opn; rw [x1 141 (by decide), n1]
  refine v_isOpen (fun ho => ⟨rg_small (by decide), fun _ => skip (fun hs => ho (eo.mpr ((opn_U h hin).mpr hs.1))), fun h => absurd rfl h⟩) (fun ho => ⟨rg_small (by decide), fun h => absurd h (by decide), fun _ => ?_⟩)
  have hu : G.U (plo M) i := (opn_U h hin).mp (eo.mp ho)
  obtain ⟨c1, c2, c3⟩ := hc i hu
  have e323 : M1 323 i = (pol M i : Nat) := by rw [o1 i (Or.inl (Nat.le_refl _))]; exact c1
  have fin : isl G M a i → wp_Va_bestChoice M1 i a (fun (r80 : Int) (M79 : fm_M) => ((rg v2) ∧ ((¬ v2 = 0 → (B_Va_improve_58 a post thr (imJ G M a i) M79 i r80)) ∧ (v2 = 0 → ((0 ≤ (i : Int) ∧ (i : Int) < 8) ∧ ((rg r80) ∧ ((rg (M79 323 (i : Int).toNat)) ∧ ((r80 = (M79 323 (i : Int).toNat) → (B_Va_improve_63 a post thr (imJ G M a i) M79 i r80 0)) ∧ (¬ r80 = (M79 323 (i : Int).toNat) → (B_Va_improve_58 a post thr (imJ G M a i) M79 i r80)))))))))) thr := fun hs => by
    have hcc := h.cc i hin
    have hm10 := h.vs.m10
    have q0 := heq i hu
    refine w_bestChoice hg1 (by unfold vrg; rw [e322]; exact hv) hin e323 c2 c3 (by rw [e322]; exact q0) ha (fun c d1 d2 d3 => ?_)
    rw [e322] at d3
    -- what is laid down
    have put : ∀ (z : Int), (z = 0 ∧ v2 = 0 ∧ c = pol M i ∧ nog G M a i) ∨ (z = 1 ∧ v2 = 1 ∧ ((c = pol M i ∧ nog G M a i) ∨ gn G (M 322) a i c)) ∨ (z = 1 ∧ v2 = 0 ∧ gn G (M 322) a i c) → ∀ M2 : fm_M, M2 = fm_u M1 323 (i : Int).toNat c → imJ G M a i M2 z ((i : Int) + 1) := fun z hz M2 e2 => by
      rw [Int.toNat_natCast] at e2
      have r2 : ∀ j, M2 323 j = if j = i then (c : Int) else M1 323 j := fun j => by rw [e2, fu_at]
      have ro : ∀ j, j ≠ i → M2 323 j = M1 323 j := fun j hj => by rw [r2 j, if_neg hj]
      have ri : M2 323 i = c := by rw [r2 i, if_pos rfl]
      have im : ∀ j, j ≠ i → imq G M M1 a j → imq G M M2 a j := fun j hj ⟨c, b1, b2⟩ => ⟨c, by rw [ro j hj]; exact b1, b2⟩
      have sm0 : c = pol M i → M2 323 i = M 323 i := fun e => by rw [ri, e, c1]
      refine ⟨⟨i + 1, by omega, by omega, by rw [e2]; exact x1.u, fun j hj => ?_, ?_⟩, by omega⟩
      · have hne : j ≠ i := fun e => by
          rcases hj with hj | hj
          · omega
          · rw [e] at hj; exact hj hs
        rw [ro j hne]
        exact o1 j (by
          rcases hj with hj | hj
          · exact Or.inl (by omega)
          · exact Or.inr hj)
      · rcases hz with ⟨z0, w0, z1, z2⟩ | ⟨z0, w1, z1⟩ | ⟨z0, w0, z1⟩
        · refine Or.inl ⟨z0, fun j hj hsj => ?_⟩
          by_cases e : j = i
          · rw [e]; exact ⟨sm0 z1, z2⟩
          · rcases I1 with ⟨_, q⟩ | ⟨e3, _⟩
            · rw [ro j e]; exact q j (by omega) hsj
            · omega
        · refine Or.inr ⟨z0, fun j hj hsj => ?_, ?_⟩
          · by_cases e : j = i
            · rw [e]
              rcases z1 with ⟨z1, _⟩ | z1
              · exact Or.inl (sm0 z1)
              · exact Or.inr ⟨c, ri, d1, d2, z1⟩
            · rcases I1 with ⟨e3, _⟩ | ⟨_, q, _⟩
              · omega
              · rcases q j (by omega) hsj with b | b
                · exact Or.inl (by rw [ro j e]; exact b)
                · exact Or.inr (im j e b)
          · rcases I1 with ⟨e3, _⟩ | ⟨_, _, j, j1, j2, j3⟩
            · omega
            · exact ⟨j, by omega, j2, im j (by omega) j3⟩
        · refine Or.inr ⟨z0, fun j hj hsj => ?_, i, by omega, hs, c, ri, d1, d2, z1⟩
          by_cases e : j = i
          · rw [e]; exact Or.inr ⟨c, ri, d1, d2, z1⟩
          · rcases I1 with ⟨_, q⟩ | ⟨e3, _⟩
            · exact Or.inl (by rw [ro j e]; exact (q j (by omega) hsj).1)
            · omega
    have nc : gn G (M 322) a i c → c ≠ pol M i := fun hgc e => by
      rw [e] at hgc
      rcases hgc with ⟨_, b⟩ | ⟨_, b⟩ <;> omega
    refine ⟨rv, fun h2 => ⟨by omega, fun M2 e2 => put 1 (Or.inr (Or.inl ⟨rfl, by omega, d3⟩)) M2 e2⟩, fun h2 => ⟨by omega, rg_small (by omega), by rw [Int.toNat_natCast, e323]; exact rg_small (by omega), fun h3 => ⟨by omega, fun M2 e2 => put 0 (Or.inl ⟨rfl, h2, ?_⟩) M2 e2⟩, fun h3 => ⟨by omega, fun M2 e2 => put 1 (Or.inr (Or.inr ⟨rfl, h2, ?_⟩)) M2 e2⟩⟩⟩
    · rw [Int.toNat_natCast, e323] at h3
      rcases d3 with d | d
      · exact d
      · exact absurd (by omega) (nc d)
    · rw [Int.toNat_natCast, e323] at h3
      rcases d3 with ⟨d, _⟩ | d
      · exact absurd (by rw [d]) h3
      · exact d
  refine v_isOfMax hg1.vs (by rw [n1, ← hn]; omega) (fun ho2 => ⟨rg_small (by decide), ra, fun h5 => skip (fun hs => ?_), fun h5 => fin ⟨hu, Or.inr ⟨fun hh => ho2 ((hg1.mx i hin).mpr hh), h5.symm⟩⟩⟩) (fun ho2 => ⟨rg_small (by decide), ra, fun h5 => skip (fun hs => ?_), fun h5 => fin ⟨hu, Or.inl ⟨(hg1.mx i hin).mp ho2, h5.symm⟩⟩⟩)
  · rcases hs.2 with ⟨b, _⟩ | ⟨_, b⟩
    · exact ho2 ((hg1.mx i hin).mpr b)
    · exact h5 b.symm
  · rcases hs.2 with ⟨_, b⟩ | ⟨b, _⟩
    · exact h5 b.symm
    · exact b ((hg1.mx i hin).mp ho2)
theorem w_divisor {M : fm_M} {a b : Nat} (hab : a ≤ b) (hb : 0 < b) (hb2 : b ≤ 429981696) (hp : post (Nat.gcd a b : Nat) M) : wp_Va_commonDivisor M a b post thr := by
  have hBB : b * a ≤ 429981696 * 429981696 := Nat.mul_le_mul hb2 (by omega)
  refine ⟨fun M' v4 v6 v8 => M' = M ∧ ∃ d r s : Nat, v4 = d ∧ v6 = r ∧ v8 = s ∧ s ≤ 128 ∧ 0 < d ∧ d ≤ 429981696 ∧ r ≤ d ∧ Nat.gcd d r = Nat.gcd a b ∧ d * r * 2 ^ s ≤ b * a, fun _ _ _ v8 => (128 - v8).toNat, ⟨rfl, b, a, 0, rfl, rfl, rfl, by omega, hb, hb2, hab, Nat.gcd_comm b a, by rw [Nat.pow_zero, Nat.mul_one]; exact Nat.le_refl _⟩, ?_⟩
  rintro M' v4 v6 v8 ⟨rfl, d, r, s, rfl, rfl, rfl, hs, hd, hd2, hrd, hgc, hpr⟩
  have jd : jwl (d : Int) = d := jwl_id ⟨by omega, by omega⟩
  have jr : jwl (r : Int) = r := jwl_id ⟨by omega, by omega⟩
  have fin : r = 0 → B_Va_commonDivisor_45 a b post thr M' d := fun e => by
    unfold B_Va_commonDivisor_45
    rw [jd]
    rw [e, Nat.gcd_zero_right] at hgc
    refine ⟨fun _ => by rw [hgc]; exact hp, fun h0 => ?_⟩
    unfold jcmp at h0
    rw [if_pos (by omega)] at h0
    omega
  unfold C_Va_commonDivisor_9
  rw [jd, jr]
  refine ⟨rg_small (by omega), fun h4 => fin ?_, fun h4 => ⟨fun h5 => fin ?_, fun h5 => ?_⟩⟩
  · have e : s = 128 := by omega
    rw [e] at hpr
    apply Classical.byContradiction
    intro hr
    have h1 : 1 ≤ d * r := Nat.mul_pos hd (by omega)
    have h2 : 1 * 2 ^ 128 ≤ d * r * 2 ^ 128 := Nat.mul_le_mul_right _ h1
    have h3 : (429981696 * 429981696 : Nat) < 1 * 2 ^ 128 := by decide
    omega
  · unfold jcmp at h5
    by_cases p : (0 : Int) < r
    · rw [if_pos p] at h5; omega
    · omega
  · have hr : 0 < r := by
      apply Nat.pos_of_ne_zero
      intro e
      exact h5 (by rw [e]; decide)
    have em : (d : Int) - (d : Int).tdiv (r : Int) * (r : Int) = ((d % r : Nat) : Int) := by
      have e1 : (d : Int).tdiv (r : Int) = ((d / r : Nat) : Int) := rfl
      have e2 := Nat.div_add_mod d r
      rw [e1]
      have e3 : ((d / r : Nat) : Int) * (r : Int) = ((r * (d / r) : Nat) : Int) := by rw [Int.natCast_mul, Int.mul_comm]
      rw [e3]
      omega
    rw [em]
    have hlt := Nat.mod_lt d hr
    refine ⟨by omega, ⟨rfl, r, d % r, s + 1, rfl, rfl, by omega, by omega, hr, by omega, by omega, ?_, ?_⟩, by dsimp only; omega⟩
    · rw [← hgc, Nat.gcd_comm d r, Nat.gcd_rec r d, Nat.gcd_comm]
    · have e := euc_half hrd hr
      have e1 : r * (d % r) * 2 ^ (s + 1) = 2 * (r * (d % r)) * 2 ^ s := by rw [Nat.pow_succ]; grind
      rw [e1]
      exact Nat.le_trans (Nat.mul_le_mul_right _ e) hpr
end Cx
end Pu_cvc
