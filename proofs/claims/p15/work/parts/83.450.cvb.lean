set_option maxRecDepth 10000
section Pu_cvb
/-! The class's first choices, and its equations. -/
def plo (M : fm_M) : Nat → Prop := fun i => ¬ bt (M 141 4) i
def pol (M : fm_M) : Nat → Nat := fun i => (M 323 i).toNat
/-- every open state has a choice -/
def pch (G : Gd) (M : fm_M) : Prop := ∀ i, G.U (plo M) i → M 323 i = (pol M i : Nat) ∧ pol M i < G.cc i ∧ G.al i (pol M i)
noncomputable def fxc (G : Gd) (i : Nat) : Nat := @dite Nat (∃ c, c < G.cc i ∧ G.al i c) (Classical.propDecidable _) (fun h => Classical.choose h) (fun _ => 0)
theorem fxc_ok {G : Gd} {i : Nat} (h : ∃ c, c < G.cc i ∧ G.al i c) : fxc G i < G.cc i ∧ G.al i (fxc G i) := by
  unfold fxc
  rw [dif_pos h]
  exact Classical.choose_spec h
/-- the policy that stands -/
noncomputable def pq (G : Gd) (M : fm_M) (i : Nat) : Nat := @ite Nat (G.U (plo M) i) (Classical.propDecidable _) (pol M i) (fxc G i)
theorem pq_U {G : Gd} {M : fm_M} {i : Nat} (h : G.U (plo M) i) : pq G M i = pol M i := by unfold pq; rw [if_pos h]
theorem pq_n {G : Gd} {M : fm_M} {i : Nat} (h : ¬ G.U (plo M) i) : pq G M i = fxc G i := by unfold pq; rw [if_neg h]
theorem pq_ok {G : Gd} {M : fm_M} (hx : ∀ i, i < G.n → 0 < G.cc i → ∃ c, c < G.cc i ∧ G.al i c) (hc : pch G M) : G.ok (pq G M) := fun i hi hcc => by
  by_cases hu : G.U (plo M) i
  · rw [pq_U hu]; exact ⟨(hc i hu).2.1, (hc i hu).2.2⟩
  · rw [pq_n hu]; exact fxc_ok (hx i hi hcc)
/-- what holds while values are sought -/
def PS (G : Gd) (M : fm_M) : Prop := clo G (plo M) ∧ pch G M ∧ ∃ rk, G.Lost (pq G M) (plo M) rk
theorem PS_same {G : Gd} {M M' : fm_M} (e : M' 141 4 = M 141 4) (e2 : M' 323 = M 323) (h : PS G M) : PS G M' := by
  have e3 : plo M' = plo M := by unfold plo; rw [e]
  have e4 : pol M' = pol M := by unfold pol; rw [e2]
  have e5 : pq G M' = pq G M := by funext i; unfold pq; rw [e3, e4]
  unfold PS pch
  rw [e3, e4, e5, e2]; exact h
section Cw
variable {g m : Nat} {G : Gd} {post : Int → fm_M → Prop} {thr : String → fm_M → Prop}
theorem opn_U {M : fm_M} (h : CV g m G M) {i : Nat} (hi : i < G.n) : opn M i ↔ G.U (plo M) i := by
  have h8 := h.n8
  have ht := h.tg i (by omega)
  constructor
  · intro ⟨a, b⟩
    exact ⟨hi, fun hh => hh a, fun hh => b (ht.mpr ⟨hi, hh⟩)⟩
  · intro ⟨_, a, b⟩
    exact ⟨Classical.byContradiction a, fun hh => b (ht.mp hh).2⟩
theorem clo_cld (W : G.Wf) (hx : ∀ i, i < G.n → 0 < G.cc i → ∃ c, c < G.cc i ∧ G.al i c) {dr : Int} (ht : ∀ i, i < G.n → G.tg i → bt dr i) (C : cld G G.al dr) : clo G (fun i => ¬ bt dr i) := by
  intro i hi hl
  refine ⟨fun h => hl (ht i hi h), ?_⟩
  by_cases hc : G.cc i = 0
  · exact Or.inl hc
  · have hn := C i hi hl
    by_cases hm : G.mx i
    · refine Or.inr (Or.inl ⟨hm, fun k hk ha b hb hh => hn (Or.inl ⟨hm, k, hk, ha, b, hb, hh⟩)⟩)
    · refine Or.inr (Or.inr ⟨hm, ?_⟩)
      apply Classical.byContradiction
      intro hno
      refine hn (Or.inr ⟨hm, hx i hi (by omega), fun c hc ha => ?_⟩)
      apply Classical.byContradiction
      intro hno2
      exact hno ⟨c, hc, ha, fun b hb hh => hno2 ⟨b, hb, hh⟩⟩
theorem PS_of {M : fm_M} (h : CV g m G M) (D : atr G G.al G.tg (M 323) (M 141 4)) (C : cld G G.al (M 141 4)) (hq : ∀ i, G.U (plo M) i → ¬ G.mx i → ∃ c : Nat, M 323 i = c ∧ c < G.cc i ∧ G.al i c) : PS G M := by
  obtain ⟨d1, d2, rk, d3⟩ := D
  have W := h.W
  have ub : ∀ i, G.U (plo M) i → bt (M 141 4) i := fun i hu => Classical.byContradiction hu.2.1
  have pc : pch G M := fun i hu => by
    by_cases hm : G.mx i
    · obtain ⟨c, t0, t1, t2, _⟩ := (d3 i hu.1 (ub i hu) hu.2.2).2.1 hm
      have e : pol M i = c := by unfold pol; rw [t0]; rfl
      rw [e]; exact ⟨t0, t1, t2⟩
    · obtain ⟨c, t0, t1, t2⟩ := hq i hu hm
      have e : pol M i = c := by unfold pol; rw [t0]; rfl
      rw [e]; exact ⟨t0, t1, t2⟩
  refine ⟨clo_cld W h.ex d2 C, pc, rk, Lost_of (fun j hj hl ht => hl (d2 j hj ht)) (fun j hj hl ht => ?_) (fun i hi hl hh => ?_)⟩
  · have hu : G.U (plo M) j := ⟨hj, hl, ht⟩
    obtain ⟨s1, s2, s3⟩ := d3 j hj (ub j hu) ht
    refine ⟨s1, fun hm => ?_, fun hm k hk ha => ?_⟩
    · obtain ⟨c, t0, t1, t2, b, t3, t4, t5⟩ := s2 hm
      have e : pq G M j = c := by rw [pq_U hu]; unfold pol; rw [t0]; rfl
      rw [e]; exact ⟨t1, b, t3, fun h => h t4, t5⟩
    · obtain ⟨b, t3, t4, t5⟩ := (s3 hm).2 k hk ha
      exact ⟨hk, b, t3, fun h => h t4, t5⟩
  · obtain ⟨q1, q2, q3⟩ := hh
    have hn := C i hi hl
    have ok := pq_ok h.ex pc i hi q1
    by_cases hm : G.mx i
    · obtain ⟨b, b1, b2⟩ := q2 hm
      exact hn (Or.inl ⟨hm, _, ok.1, ok.2, b, b1, Classical.byContradiction b2⟩)
    · refine hn (Or.inr ⟨hm, ⟨_, ok.1, ok.2⟩, fun c hc ha => ?_⟩)
      obtain ⟨b, b1, b2⟩ := q3 hm c hc ha
      exact ⟨b, b1, Classical.byContradiction b2⟩
theorem w_chooseFirst {M : fm_M} (h : CV g m G M) (hp : ∀ M', vg M M' → PS G M' → post 0 M') : wp_Va_chooseFirst M post thr := by
  have h8 := h.n8
  have hn := h.n
  have hm10 := h.vs.m10
  refine ⟨fun M' v1 => ∃ i : Nat, v1 = i ∧ i ≤ G.n ∧ vg M M' ∧ ∀ j, j < i → M' 310 j = M 289 j, fun _ v1 => ((G.n : Int) - v1).toNat, ⟨0, rfl, by omega, vg.refl, fun j hj => by omega⟩, ?_⟩
  rintro M1 v1 ⟨i, rfl, hi, f1, a1⟩
  have n1 : M1 142 = M 142 := f1 142 (by omega)
  have h1 := h.vg f1
  unfold C_Va_chooseFirst_2
  rw [n1, ← hn]
  refine ⟨rg_small (by omega), rg_small (by omega), fun h4 => ?_, fun h4 => ?_⟩
  · have hA : alb G G.al 309 m M1 := fun j hj => by
      have e : M1 (309 + 1) j = M 289 j := a1 j (by omega)
      rw [e]
      exact ⟨h.vs.fb.en j (by omega), fun c hc => h.en j c hj hc, fun c _ ha => ha⟩
    refine w_drawnTo h1 at309 hA (E := G.tg) h.vs.fb.tg h.tg (fun dr M2 hx2 rdr D2 C2 M3 e3 => ?_)
    have f2 : vg M M2 := f1.tr (fun a ha => hx2 a (by omega))
    have f3 : vg M M3 := by rw [e3]; exact f2.u (Or.inl rfl)
    have a3 : ∀ a, a ≠ 141 → M3 a = M2 a := fun a ha => by rw [e3]; exact fu_off _ _ _ ha
    have p3 : M3 141 4 = dr := by rw [e3, fu_at, if_pos rfl]
    refine ⟨fun M' v1 => ∃ i : Nat, v1 = i ∧ i ≤ G.n ∧ vg M M' ∧ M' 141 4 = dr ∧ M' 311 = M2 311 ∧ ∀ j, j < i → (G.mx j → M' 323 j = M2 311 j) ∧ (¬ G.mx j → 0 < G.cc j → ∃ c : Nat, M' 323 j = c ∧ c < G.cc j ∧ G.al j c), fun _ v1 => ((G.n : Int) - v1).toNat, ⟨0, rfl, by omega, f3, p3, a3 311 (by decide), fun j hj => by omega⟩, ?_⟩
    rintro M4 v1 ⟨k, rfl, hk, f4, p4, x4, c4⟩
    have n4 : M4 142 = M 142 := f4 142 (by omega)
    have h4' := h.vg f4
    unfold C_Va_chooseFirst_60
    rw [n4, ← hn]
    have put : ∀ z : Int, k < G.n → ((G.mx k → z = M2 311 k) ∧ (¬ G.mx k → 0 < G.cc k → ∃ c : Nat, z = c ∧ c < G.cc k ∧ G.al k c)) → B_Va_chooseFirst_110 post thr (fun M'_1 v1' => (∃ i : Nat, v1' = i ∧ i ≤ G.n ∧ vg M M'_1 ∧ M'_1 141 4 = dr ∧ M'_1 311 = M2 311 ∧ ∀ j, j < i → (G.mx j → M'_1 323 j = M2 311 j) ∧ (¬ G.mx j → 0 < G.cc j → ∃ c : Nat, M'_1 323 j = c ∧ c < G.cc j ∧ G.al j c)) ∧ ((G.n : Int) - v1').toNat < ((G.n : Int) - (k : Int)).toNat) M4 k z k := fun z hkl hz => by
      refine ⟨by omega, fun M5 e5 => ⟨⟨k + 1, by omega, by omega, by rw [e5]; exact f4.u (Or.inr (by omega)), by rw [e5, fu_off _ _ _ (by decide)]; exact p4, by rw [e5, fu_off _ _ _ (by decide)]; exact x4, fun j hj => ?_⟩, by omega⟩⟩
      rw [e5, Int.toNat_natCast, fu_at]
      by_cases e : j = k
      · subst e; rw [if_pos rfl]; exact hz
      · rw [if_neg e]; exact c4 j (by omega)
    refine ⟨rg_small (by omega), rg_small (by omega), fun h5 => hp M4 f4 (PS_of h4' ?_ (by rw [p4]; exact C2) (fun j hu hm => ?_)), fun h5 => v_isOfMax h4'.vs (by rw [n4, ← hn]; omega) (fun ho => ⟨rg_small (by decide), fun _ => v_choicesOf h4'.vs (by rw [n4, ← hn]; omega) (v_firstBit (fun z hz hb => put z (by omega) ⟨fun hh => absurd ((h4'.mx k (by omega)).mpr hh) ho, fun _ _ => ⟨z, rfl, (h4'.en k z (by omega) hz).mp hb⟩⟩) (fun hno => put (-1) (by omega) ⟨fun hh => absurd ((h4'.mx k (by omega)).mpr hh) ho, fun _ hc => ?_⟩)), fun h => absurd rfl h⟩) (fun ho => ⟨rg_small (by decide), fun h => absurd h (by decide), fun _ => ⟨by omega, put _ (by omega) ⟨fun _ => ?_, fun hh => absurd ((h4'.mx k (by omega)).mp ho) hh⟩⟩⟩)⟩
    · obtain ⟨d1, d2, rk, d3⟩ := D2
      rw [p4]
      refine ⟨d1, d2, rk, fun j hj hb he => ?_⟩
      obtain ⟨s1, s2, s3⟩ := d3 j hj hb he
      refine ⟨s1, fun hm => ?_, s3⟩
      rw [(c4 j (by omega)).1 hm]; exact s2 hm
    · have hj := hu.1
      have hc : 0 < G.cc j := by
        obtain ⟨d1, d2, rk, d3⟩ := D2
        have hb : bt dr j := by
          apply Classical.byContradiction
          intro hh
          exact hu.2.1 (by unfold plo; rw [p4]; exact hh)
        exact (d3 j hj hb hu.2.2).1
      exact (c4 j (by omega)).2 hm hc
    · obtain ⟨c, c1, c2⟩ := h.ex k (by omega) hc
      have hcm := h.cc k (by omega)
      exact absurd ((h4'.en k c (by omega) (by omega)).mpr ⟨c1, c2⟩) (hno c (by omega))
    · rw [Int.toNat_natCast, x4]
  · refine v_choicesOf h1.vs (by rw [n1, ← hn]; omega) ⟨by omega, fun M2 e2 => ⟨⟨i + 1, by omega, by omega, by rw [e2]; exact f1.u (Or.inr (by omega)), fun j hj => ?_⟩, by dsimp only; omega⟩⟩
    rw [e2, Int.toNat_natCast, fu_at]
    by_cases e : j = i
    · rw [if_pos e, e, f1 289 (by omega)]
    · rw [if_neg e]; exact a1 j (by omega)
/-- rows of nothing -/
theorem w_eqClear {M : fm_M} (hp : ∀ M', (∀ a, ¬ (314 ≤ a ∧ a < 322) → M' a = M a) → (∀ i j, i < 8 → j < 9 → M' (314 + i) j = 0) → post 0 M') : wp_Eq_clear M post thr := by
  refine ⟨fun M' v1 => ∃ i : Nat, v1 = i ∧ i ≤ 8 ∧ (∀ a, ¬ (314 ≤ a ∧ a < 322) → M' a = M a) ∧ ∀ i' j, i' < i → j < 9 → M' (314 + i') j = 0, fun _ v1 => (8 - v1).toNat, ⟨0, rfl, by omega, fun _ _ => rfl, fun i' j hi' => by omega⟩, ?_⟩
  rintro M1 v1 ⟨i, rfl, hi, f1, z1⟩
  unfold C_Eq_clear_2
  refine ⟨rg_small (by omega), fun h4 => hp M1 f1 (fun i' j hi' hj => z1 i' j (by omega) hj), fun h4 => ?_⟩
  refine ⟨fun M' v1 v2 => v1 = i ∧ ∃ j : Nat, v2 = j ∧ j ≤ 9 ∧ (∀ a, ¬ (314 ≤ a ∧ a < 322) → M' a = M a) ∧ (∀ i' j', i' < i → j' < 9 → M' (314 + i') j' = 0) ∧ ∀ j', j' < j → M' (314 + i) j' = 0, fun _ _ v2 => (9 - v2).toNat, ⟨rfl, 0, rfl, by omega, f1, z1, fun j' hj' => by omega⟩, ?_⟩
  rintro M2 v1 v2 ⟨rfl, j, rfl, hj, f2, z2, y2⟩
  unfold C_Eq_clear_10
  rw [Int.toNat_natCast, Int.toNat_natCast, show 313 + 1 + i = 314 + i by omega]
  refine ⟨rg_small (by omega), fun h5 => ⟨⟨i + 1, by omega, by omega, f2, fun i' j' hi' hj' => ?_⟩, by dsimp only; omega⟩, fun h5 => ⟨by omega, t314 ⟨i, by omega⟩, by omega, fun M3 e3 => ⟨⟨rfl, j + 1, by omega, by omega, fun a ha => by rw [e3, fu_off _ _ _ (by omega)]; exact f2 a ha, fun i' j' hi' hj' => by rw [e3, fu_off _ _ _ (by omega)]; exact z2 i' j' hi' hj', fun j' hj' => ?_⟩, by dsimp only; omega⟩⟩⟩
  · by_cases e : i' = i
    · rw [e]; exact y2 j' (by omega)
    · exact z2 i' j' (by omega) hj'
  · rw [e3, fu_at]
    by_cases e : j' = j
    · rw [if_pos e]
    · rw [if_neg e]; exact y2 j' (by omega)
theorem w_next {M : fm_M} (h : CV g m G M) {i c b : Nat} (hi : i < G.n) (hc : c < G.cc i) (ha : G.al i c) (hb : b < G.nb i c) (hp : post (G.to i c b : Nat) M) : wp_Fo_next M i c b post thr := by
  have h8 := h.n8
  have hcc := h.cc i hi
  have hm10 := h.vs.m10
  have hb4 := h.nbl hi hc
  unfold wp_Fo_next
  rw [Int.toNat_natCast, show 299 + 1 + i = 300 + i by omega, show ((c : Int) * 4) + (b : Int) = ((4 * c + b : Nat) : Int) by omega, Int.toNat_natCast, h.to i c b hi hc ha hb]
  exact ⟨by omega, t300 ⟨i, by omega⟩, by omega, hp⟩
theorem w_setEquation {M : fm_M} (h : CV g m G M) {i c : Nat} (hi : i < G.n) (hc : c < G.cc i) (ha : G.al i c) (hz : ∀ j, j < 9 → M (314 + i) j = 0) (hp : ∀ M', (∀ a, a ≠ 314 + i → M' a = M a) → (∀ j, j < 9 → M' (314 + i) j = (if j = i then G.wo i c else 0) - sm (G.nb i c) (fun b => if G.to i c b = j then G.wt i c b else 0)) → post 0 M') : wp_Va_setEquation M (314 + i) i c post thr := by
  have h8 := h.n8
  have hcc := h.cc i hi
  have hm10 := h.vs.m10
  have hg := h.vs.g1.gg
  have t := tcG hg
  have C := cmOk hg (c := c) (by omega)
  have T := t314 ⟨i, by omega⟩
  have hsz : fm_sz (314 + i) = 9 := by unfold fm_sz; rw [T.2]
  have hT : 314 + i < nC ∧ TC (314 + i) = .inr (3, fm_sz (314 + i)) := by rw [hsz]; exact T
  have hw := h.ws i c hi hc
  have hw6 := h.w6 i c hi hc
  have hwp := h.wp hi hc
  have hnb := h.nb i c hi hc
  have hb4 := h.nbl hi hc
  unfold wp_Va_setEquation
  rw [h.vs.g1.gm, Int.toNat_natCast, Int.toNat_natCast, show g + 3 + 4 + 13 * c = g + (7 + 13 * c) by omega]
  refine ⟨t.1, t.2.2.2, by omega, hT, by rw [hsz]; omega, C.t0, rg_small (by omega), fun M1 e1 => ?_⟩
  refine ⟨fun M' c4 v5 => c4 = g + (7 + 13 * c) ∧ ∃ b : Nat, v5 = b ∧ b ≤ G.nb i c ∧ (∀ a, a ≠ 314 + i → M' a = M a) ∧ ∀ j, j < 9 → M' (314 + i) j = (if j = i then G.wo i c else 0) - sm b (fun b => if G.to i c b = j then G.wt i c b else 0), fun _ _ v5 => (5 - v5).toNat, ⟨rfl, 0, rfl, by omega, fun a ha => by rw [e1]; exact fu_off _ _ _ ha, fun j hj => ?_⟩, ?_⟩
  · rw [e1, fu_at]
    simp only [sm]
    by_cases e : j = i
    · rw [if_pos e, if_pos e, hz i (by omega), hw]; omega
    · rw [if_neg e, if_neg e, hz j hj]; rfl
  rintro M2 c4 v5 ⟨rfl, b, rfl, hb, f2, r2⟩
  have h2 := h.vf (M' := M2) (fun a ha => f2 a (by omega))
  have br2 : M2 (g + (7 + 13 * c)) 3 = G.nb i c := h2.nb i c hi hc
  unfold C_Va_setEquation_29
  rw [br2]
  refine ⟨C.t0, rg_small (by omega), rg_small (by omega), fun h4 => hp M2 f2 (by rw [show G.nb i c = b by omega]; exact r2), fun h4 => w_next h2 hi hc ha (by omega) ?_⟩
  have B := brOk hg (c := c) (b := b) (by omega) (by omega)
  have hwb := h2.wt i c b hi hc (by omega)
  have hl := h.W.lt i c b hi hc (by omega)
  have hr : rg (G.wt i c b) := by
    have := h2.vs.g1.cb.g' (wtB ⟨c, by omega⟩ ⟨b, by omega⟩) (x := 1) (by omega) (by omega)
    have e : M2 (g + (12 + 13 * c + 2 * b)) 1 ≤ 6 := this.2
    have e0 : 0 ≤ M2 (g + (12 + 13 * c + 2 * b)) 1 := this.1
    exact rg_small (by omega)
  rw [Int.toNat_natCast, Int.toNat_natCast, show g + (7 + 13 * c) + 4 + 1 + 2 * b = g + (12 + 13 * c + 2 * b) by omega, hwb]
  refine ⟨hT, by rw [hsz]; omega, C.t4, by omega, B.t0, hr, fun M3 e3 => ⟨⟨rfl, b + 1, by omega, by omega, fun a ha => by rw [e3, fu_off _ _ _ ha]; exact f2 a ha, fun j hj => ?_⟩, by dsimp only; omega⟩⟩
  rw [e3, fu_at]
  simp only [sm]
  by_cases e : j = G.to i c b
  · rw [if_pos e, if_pos e.symm, ← e, r2 j hj]; omega
  · rw [if_neg e, if_neg (show ¬ G.to i c b = j from fun h => e h.symm), r2 j hj]; omega
theorem w_setEquations {M : fm_M} (h : CV g m G M) (hc : pch G M) (hp : ∀ M', (∀ a, ¬ (314 ≤ a ∧ a < 322) → M' a = M a) → (∀ i j, i < G.n → j ≤ G.n → M' (314 + i) j = mA G (plo M) (pq G M) i j) → post 0 M') : wp_Va_setEquations M post thr := by
  have h8 := h.n8
  have hn := h.n
  refine w_eqClear (fun M0 f0 z0 => ?_)
  refine ⟨fun M' v1 => ∃ i : Nat, v1 = i ∧ i ≤ G.n ∧ (∀ a, ¬ (314 ≤ a ∧ a < 322) → M' a = M a) ∧ (∀ i' j, i' < i → j ≤ G.n → M' (314 + i') j = mA G (plo M) (pq G M) i' j) ∧ ∀ i' j, i ≤ i' → i' < 8 → j < 9 → M' (314 + i') j = 0, fun _ v1 => ((G.n : Int) - v1).toNat, ⟨0, rfl, by omega, f0, fun i' j hi' => by omega, fun i' j _ hi' hj => z0 i' j hi' hj⟩, ?_⟩
  rintro M1 v1 ⟨i, rfl, hi, f1, r1, z1⟩
  have h1 := h.vf (M' := M1) (fun a ha => f1 a (by omega))
  have n1 : M1 142 = M 142 := f1 142 (by omega)
  unfold C_Va_setEquations_9
  rw [n1, ← hn, Int.toNat_natCast, show 313 + 1 + i = 314 + i by omega]
  refine ⟨rg_small (by omega), rg_small (by omega), fun h4 => hp M1 f1 (fun i' j hi' hj => r1 i' j (by omega) hj), fun h4 => ?_⟩
  have hin : i < G.n := by omega
  have eo : opn M1 i ↔ opn M i := by unfold opn; rw [f1 141 (by omega), n1]
  have st : ∀ M2 : fm_M, (∀ a, a ≠ 314 + i → M2 a = M1 a) → (∀ j, j ≤ G.n → M2 (314 + i) j = mA G (plo M) (pq G M) i j) → (fun M'_1 v1' => (∃ i : Nat, v1' = i ∧ i ≤ G.n ∧ (∀ a, ¬ (314 ≤ a ∧ a < 322) → M'_1 a = M a) ∧ (∀ i' j, i' < i → j ≤ G.n → M'_1 (314 + i') j = mA G (plo M) (pq G M) i' j) ∧ ∀ i' j, i ≤ i' → i' < 8 → j < 9 → M'_1 (314 + i') j = 0) ∧ ((G.n : Int) - v1').toNat < ((G.n : Int) - (i : Int)).toNat : fm_M → Int → Prop) M2 ((i : Int) + 1) := fun M2 o2 m2 => by
    refine ⟨⟨i + 1, by omega, by omega, fun a ha => by rw [o2 a (by omega)]; exact f1 a ha, fun i' j hi' hj => ?_, fun i' j h1 h2 hj => by rw [o2 _ (by omega)]; exact z1 i' j (by omega) h2 hj⟩, by omega⟩
    by_cases e : i' = i
    · rw [e]; exact m2 j hj
    · rw [o2 _ (by omega)]; exact r1 i' j (by omega) hj
  refine v_isOpen (fun ho => ⟨rg_small (by decide), fun _ => ⟨by omega, t314 ⟨i, by omega⟩, by omega, fun M2 e2 => ?_⟩, fun h => absurd rfl h⟩) (fun ho => ⟨rg_small (by decide), fun h => absurd h (by decide), fun _ => ⟨by omega, ?_⟩⟩)
  · have hu : ¬ G.U (plo M) i := fun hh => ho (eo.mpr ((opn_U h hin).mpr hh))
    have n2 : M2 142 = M 142 := by rw [e2, fu_off _ _ _ (by omega)]; exact n1
    have fin : ∀ z : Int, ((bt (M 142 3) i ∧ z = 1) ∨ (¬ bt (M 142 3) i ∧ z = 0)) → B_Va_setEquations_98 post thr (fun M'_1 v1' => (∃ i : Nat, v1' = i ∧ i ≤ G.n ∧ (∀ a, ¬ (314 ≤ a ∧ a < 322) → M'_1 a = M a) ∧ (∀ i' j, i' < i → j ≤ G.n → M'_1 (314 + i') j = mA G (plo M) (pq G M) i' j) ∧ ∀ i' j, i ≤ i' → i' < 8 → j < 9 → M'_1 (314 + i') j = 0) ∧ ((G.n : Int) - v1').toNat < ((G.n : Int) - (i : Int)).toNat) M2 i z (M2 142 1) (314 + i) := fun z hz => by
      refine ⟨t314 ⟨i, by omega⟩, by rw [n2, ← hn]; omega, fun M3 e3 => st M3 (fun a ha => by rw [e3, fu_off _ _ _ ha, e2, fu_off _ _ _ ha]) (fun j hj => ?_)⟩
      rw [n2, ← hn, Int.toNat_natCast] at e3
      rw [e3, fu_at, e2, fu_at, mA_n hu]
      by_cases e : j = G.n
      · rw [if_pos e, if_neg (by omega)]
        have ht := h.tg i (by omega)
        rcases hz with ⟨a, b⟩ | ⟨a, b⟩
        · rw [b, if_pos ⟨e, (ht.mp a).2⟩]
        · rw [b, if_neg (fun hh => a (ht.mpr ⟨hin, hh.2⟩))]
      · rw [if_neg e, if_neg (show ¬ (j = G.n ∧ G.tg i) from fun hh => e hh.1)]
        by_cases e2' : j = i
        · rw [if_pos e2', if_pos e2']
        · rw [if_neg e2', if_neg e2']; exact z1 i j (Nat.le_refl _) (by omega) (by omega)
    have hz2 : ∀ k, bt (M2 142 3) k ↔ bt (M 142 3) k := fun k => by rw [n2]
    exact x_hasBit (fun hb => ⟨rg_small (by decide), fun _ => fin 0 (Or.inr ⟨fun hh => hb ((hz2 i).mpr hh), rfl⟩), fun h => absurd rfl h⟩) (fun hb => ⟨rg_small (by decide), fun h => absurd h (by decide), fun _ => fin 1 (Or.inl ⟨(hz2 i).mp hb, rfl⟩)⟩)
  · have hu : G.U (plo M) i := (opn_U h hin).mp (eo.mp ho)
    obtain ⟨c1, c2, c3⟩ := hc i hu
    rw [f1 323 (by omega), c1]
    refine w_setEquation h1 hin c2 c3 (fun j hj => z1 i j (Nat.le_refl _) (by omega) hj) (fun M2 o2 r2 => st M2 o2 (fun j hj => ?_))
    rw [r2 j (by omega), mA_U hu, pq_U hu]
theorem w_eliminate {M : fm_M} {i k n : Nat} (hi : i < 8) (hk : k < 8) (hn : n ≤ 8) (hik : i ≠ k) {D : Int} (hD : M 312 2 = D) (hD0 : D ≠ 0) (hDr : rl D) {q : Nat → Int} (hq : ∀ j, k < j → j ≤ n → M (314 + k) k * M (314 + i) j - M (314 + i) k * M (314 + k) j = D * q j ∧ rl (D * q j)) (hp : ∀ M', (∀ a, a ≠ 314 + i → M' a = M a) → (∀ j, M' (314 + i) j = if k < j ∧ j ≤ n then q j else M (314 + i) j) → post 0 M') : wp_Eq_eliminate M i k n post thr := by
  unfold wp_Eq_eliminate
  rw [Int.toNat_natCast, Int.toNat_natCast, show 313 + 1 + i = 314 + i by omega, show 313 + 1 + k = 314 + k by omega, hD, jwl_id hDr]
  refine ⟨fun _ => ⟨by omega, t314 ⟨k, hk⟩, by omega, by omega, t314 ⟨i, hi⟩, ?_⟩, fun h0 => ?_⟩
  · refine ⟨fun M' v4 v6 v8 => v4 = M (314 + k) k ∧ v6 = M (314 + i) k ∧ ∃ j : Nat, v8 = j ∧ k + 1 ≤ j ∧ (j ≤ n + 1 ∨ j = k + 1) ∧ (∀ a, a ≠ 314 + i → M' a = M a) ∧ ∀ j', M' (314 + i) j' = if k < j' ∧ j' < j ∧ j' ≤ n then q j' else M (314 + i) j', fun _ _ _ v8 => (20 - v8).toNat, ⟨rfl, rfl, k + 1, by omega, by omega, by omega, fun _ _ => rfl, fun j' => by rw [if_neg (by omega)]⟩, ?_⟩
    rintro M1 v4 v6 v8 ⟨rfl, rfl, j, rfl, hj1, hj2, f1, r1⟩
    unfold C_Eq_eliminate_35
    rw [Int.toNat_natCast, Int.toNat_natCast, Int.toNat_natCast, show 313 + 1 + i = 314 + i by omega, show 313 + 1 + k = 314 + k by omega, f1 312 (by omega), hD, jwl_id hDr]
    refine ⟨rg_small (by omega), rg_small (by omega), fun h5 => hp M1 f1 (fun j' => ?_), fun h5 => ⟨by omega, t314 ⟨i, hi⟩, by omega, by omega, t314 ⟨k, hk⟩, hD0, fun M2 e2 => ⟨⟨rfl, rfl, j + 1, by omega, by omega, by omega, fun a ha => by rw [e2, fu_off _ _ _ ha]; exact f1 a ha, fun j' => ?_⟩, by dsimp only; omega⟩⟩⟩
    · rw [r1 j']
      by_cases e : k < j' ∧ j' ≤ n
      · rw [if_pos e, if_pos (by omega)]
      · rw [if_neg e, if_neg (by omega)]
    · rw [e2, fu_at]
      by_cases e : j' = j
      · obtain ⟨q1, q2⟩ := hq j (by omega) (by omega)
        rw [if_pos e, e, if_pos (by omega), r1 j, if_neg (by omega), f1 (314 + k) (by omega), q1, jwl_id q2, Int.mul_tdiv_cancel_left _ hD0]
      · rw [if_neg e, r1 j']
        by_cases e3 : k < j' ∧ j' < j ∧ j' ≤ n
        · rw [if_pos e3, if_pos (by omega)]
        · rw [if_neg e3, if_neg (by omega)]
  · exfalso
    unfold jcmp at h0
    by_cases p : 0 < D
    · rw [if_pos p] at h0; omega
    · rw [if_neg p, if_neg hD0] at h0; omega
theorem nr1_lead {n : Nat} {A : Nat → Nat → Int} (h : nr1 n A) (hn : n ≤ 8) {k : Nat} (hk : k ≤ n) : rl (dt k A) := by
  have hD : ab (dt k A) ≤ 12 ^ k := dt_bound (by decide) (fun r hr => by
    have a := nr1_row h (r := r) (k := k) (j := k) (by omega) (Nat.le_refl _) hk
    have b := ab_nn (A r k)
    omega)
  exact rl_ab (Int.le_trans hD (pow_le8 (by omega)))
theorem w_solveFor {M : fm_M} {n : Nat} (hn : n ≤ 8) {A : Nat → Nat → Int} {rk : Nat → Nat} (hd : dom n A rk) (hb : nr1 n A) (hA : ∀ i j, i < n → j ≤ n → M (314 + i) j = A i j) (hp : ∀ M', qf M M' → (∀ i, i < n → M' 322 i = cjs A n i n) → M' 312 2 = dt n A → post 0 M') : wp_Eq_solveFor M n post thr := by
  intro M0 e0
  have f0 : qf M M0 := fun a ha => by rw [e0]; exact fu_off _ _ _ (by omega)
  refine ⟨fun M' v2 => ∃ k : Nat, v2 = k ∧ k ≤ n ∧ qf M M' ∧ M' 312 2 = dt k A ∧ GJ n A (fun i j => M' (314 + i) j) k, fun _ v2 => ((n : Int) - v2).toNat, ⟨0, rfl, by omega, f0, by rw [e0, fu_at, if_pos rfl]; rfl, GJ_0 (fun i j hi hj => by rw [e0, fu_off _ _ _ (by omega)]; exact hA i j hi hj)⟩, ?_⟩
  rintro M1 v2 ⟨k, rfl, hk, f1, d1, J1⟩
  unfold C_Eq_solveFor_7
  rw [Int.toNat_natCast, show 313 + 1 + k = 314 + k by omega]
  refine ⟨rg_small (by omega), rg_small (by omega), fun h4 => ?_, fun h4 => ⟨by omega, t314 ⟨k, by omega⟩, by omega, ?_⟩⟩
  · have hkn : k = n := by omega
    subst hkn
    refine ⟨fun M' v2 => ∃ i : Nat, v2 = i ∧ i ≤ k ∧ (∀ a, a ≠ 322 → M' a = M1 a) ∧ ∀ i', i' < i → M' 322 i' = M1 (314 + i') k, fun _ v2 => ((k : Int) - v2).toNat, ⟨0, rfl, by omega, fun _ _ => rfl, fun i' hi' => by omega⟩, ?_⟩
    rintro M2 v2 ⟨i, rfl, hi, f2, u2⟩
    unfold C_Eq_solveFor_63
    rw [Int.toNat_natCast, Int.toNat_natCast, show 313 + 1 + i = 314 + i by omega]
    refine ⟨rg_small (by omega), rg_small (by omega), fun h5 => hp M2 (fun a ha => by rw [f2 a (by omega)]; exact f1 a ha) (fun i' hi' => ?_) (by rw [f2 312 (by decide)]; exact d1), fun h5 => ⟨by omega, t314 ⟨i, by omega⟩, by omega, fun M3 e3 => ⟨⟨i + 1, by omega, by omega, fun a ha => by rw [e3, fu_off _ _ _ ha]; exact f2 a ha, fun i' hi' => ?_⟩, by dsimp only; omega⟩⟩⟩
    · rw [u2 i' (by omega)]
      exact J1.1 i' k hi' (Nat.le_refl _) (Nat.le_refl _)
    · rw [e3, fu_at]
      by_cases e : i' = i
      · rw [if_pos e, e, f2 (314 + i) (by omega)]
      · rw [if_neg e]; exact u2 i' (by omega)
  · have hkn : k < n := by omega
    have dk := dom_pos hd k hk
    have rlD := nr1_lead hb hn hk
    refine ⟨fun M' v2 v3 v5 => v2 = k ∧ v3 = M1 (314 + k) k ∧ ∃ i : Nat, v5 = i ∧ i ≤ n ∧ (∀ a, ¬ (314 ≤ a ∧ a < 322) → M' a = M1 a) ∧ (∀ i' j, i' < n → k < j → j ≤ n → M' (314 + i') j = if i' < i ∧ i' ≠ k then gjq A k i' j else M1 (314 + i') j) ∧ ∀ i', i' < n → M' (314 + i') k = M1 (314 + i') k, fun _ _ _ v5 => ((n : Int) - v5).toNat, ⟨rfl, rfl, 0, rfl, by omega, fun _ _ => rfl, fun i' j _ _ _ => by rw [if_neg (by omega)], fun _ _ => rfl⟩, ?_⟩
    rintro M2 v2 v3 v5 ⟨rfl, rfl, i, rfl, hi, f2, r2, k2⟩
    unfold C_Eq_solveFor_24
    refine ⟨rg_small (by omega), rg_small (by omega), fun h5 M3 e3 => ⟨⟨k + 1, by omega, by omega, fun a ha => by rw [e3, fu_off _ _ _ (by omega), f2 a (by omega)]; exact f1 a ha, ?_, ?_⟩, by dsimp only; omega⟩, fun h5 => ⟨rg_small (by omega), fun h6 => ?_, fun h6 => ?_⟩⟩
    · rw [e3, fu_at, if_pos rfl]
      exact GJ_piv J1 hkn
    · refine GJ_next hd J1 hkn (fun i' j hi' hne hj hjn => ?_) (fun j hj hjn => ?_)
      · rw [e3, fu_off _ _ _ (by omega), r2 i' j hi' hj hjn, if_pos ⟨by omega, hne⟩]
      · rw [e3, fu_off _ _ _ (by omega), r2 k j hkn hj hjn, if_neg (by omega)]
    · refine ⟨⟨rfl, rfl, i + 1, by omega, by omega, f2, fun i' j hi' hj hjn => ?_, k2⟩, by dsimp only; omega⟩
      rw [r2 i' j hi' hj hjn]
      by_cases e : i' < i ∧ i' ≠ k
      · rw [if_pos e, if_pos (by omega)]
      · rw [if_neg e, if_neg (by omega)]
    · have hin : i < n := by omega
      have hne : i ≠ k := by omega
      have bd : ∀ i' j, i' < n → k ≤ j → j ≤ n → ab (M1 (314 + i') j) ≤ 429981696 := fun i' j h1 h2 h3 => gjw_bound hb hn hk J1 h1 h2 h3
      refine w_eliminate (by omega) (by omega) hn hne (by rw [f2 312 (by omega)]; exact d1) (by omega) rlD (q := gjq A k i) (fun j hj hjn => ?_) (fun M3 f3 r3 => ⟨⟨rfl, rfl, i + 1, by omega, by omega, fun a ha => by rw [f3 a (by omega)]; exact f2 a ha, fun i' j hi' hj hjn => ?_, fun i' hi' => ?_⟩, by dsimp only; omega⟩)
      · have e := GJ_div hd J1 hkn hin hne hj hjn
        rw [k2 k hkn, k2 i hin, r2 i j hin hj hjn, if_neg (by omega), r2 k j hkn hj hjn, if_neg (by omega), ← e]
        exact ⟨rfl, rl_prod (bd k k hkn (Nat.le_refl _) hk) (bd i j hin (by omega) hjn) (bd i k hin (Nat.le_refl _) hk) (bd k j hkn (by omega) hjn)⟩
      · by_cases e : i' = i
        · rw [e, r3 j, if_pos ⟨hj, hjn⟩, if_pos ⟨by omega, hne⟩]
        · rw [f3 _ (by omega), r2 i' j hi' hj hjn]
          by_cases e2 : i' < i ∧ i' ≠ k
          · rw [if_pos e2, if_pos (by omega)]
          · rw [if_neg e2, if_neg (by omega)]
      · by_cases e : i' = i
        · rw [e, r3 k, if_neg (by omega)]; exact k2 i hin
        · rw [f3 _ (by omega)]; exact k2 i' hi'
end Cw
end Pu_cvb
