set_option maxRecDepth 10000
section Pu_cvd
/-! The class's values are the game's. -/
theorem S_cg {G : Gd} (W : G.Wf) {i k : Nat} (hi : i < G.n) (hk : k < G.cc i) {h g : Nat → Int} (e : ∀ j, j < G.n → h j = g j) : G.S i k h = G.S i k g := sm_congr (fun b hb => by rw [e _ (W.lt i k b hi hk hb)])
theorem gn_cg {G : Gd} (W : G.Wf) {i k : Nat} (hi : i < G.n) (hk : k < G.cc i) {h g : Nat → Int} (e : ∀ j, j < G.n → h j = g j) {a : Int} : gn G h a i k ↔ gn G g a i k := by
  unfold gn
  rw [S_cg W hi hk e, e i hi]
/-- the values of the policy that stands are there -/
def VA (G : Gd) (M : fm_M) : Prop := (∀ i, i < G.n → M 322 i = vnum G (plo M) (pq G M) i) ∧ M 312 2 = vcom G (plo M) (pq G M)
/-- and nobody can do better -/
def FN (G : Gd) (M : fm_M) : Prop := VA G M ∧ hopt G (plo M) (M 322) ∧ ∀ i k, G.U (plo M) i → G.mx i → k < G.cc i → G.al i k → G.S i k (M 322) ≤ G.wo i k * M 322 i
theorem FN_same {G : Gd} {M M' : fm_M} (e1 : M' 141 4 = M 141 4) (e2 : M' 323 = M 323) (e3 : M' 322 = M 322) (e4 : M' 312 2 = M 312 2) (h : FN G M) : FN G M' := by
  have e5 : plo M' = plo M := by unfold plo; rw [e1]
  have e6 : pol M' = pol M := by unfold pol; rw [e2]
  have e7 : pq G M' = pq G M := by funext i; unfold pq; rw [e5, e6]
  unfold FN VA
  rw [e5, e7, e3, e4]; exact h
section Cy
variable {g m : Nat} {G : Gd} {post : Int → fm_M → Prop} {thr : String → fm_M → Prop}
theorem VA_val {M : fm_M} (h : CV g m G M) (hs : PS G M) (va : VA G M) : ∃ rk, G.Lost (pq G M) (plo M) rk ∧ G.Val (plo M) (pq G M) (M 322) (M 312 2) ∧ M 312 2 ≤ 429981696 ∧ ∀ i, i < G.n → 0 ≤ M 322 i ∧ M 322 i ≤ M 312 2 := by
  obtain ⟨_, pc, rk, L⟩ := hs
  have ok := pq_ok h.ex pc
  have W := h.W
  have V := vval W L ok
  have hd := L.dn ok (fun _ _ _ => rfl)
  have V2 : G.Val (plo M) (pq G M) (M 322) (M 312 2) := by
    refine ⟨by rw [va.2]; exact V.pos, fun i hi ht => by rw [va.1 i hi, va.2]; exact V.tgt i hi ht, fun i hi hl => by rw [va.1 i hi]; exact V.lost i hi hl, fun i hu => ?_⟩
    rw [va.1 i hu.1, S_cg W hu.1 (hd i hu).1 va.1]; exact V.eqn i hu
  exact ⟨rk, L, V2, by rw [va.2]; exact vcom_bd W h.w6 h.n8 L ok, V2.nn W hd⟩
/-- what a pass over the choices does to the policy -/
theorem pupd {M M' : fm_M} {a : Int} (hc : pch G M) (x : ex1 323 M M') (o : ∀ i, ¬ isl G M a i → M' 323 i = M 323 i) (s : ∀ i, isl G M a i → M' 323 i = M 323 i ∨ imq G M M' a i) : plo M' = plo M ∧ pch G M' ∧ (∀ i, ¬ isl G M a i → pq G M' i = pq G M i) ∧ (∀ i, isl G M a i → pq G M' i = pq G M i ∨ gn G (M 322) a i (pq G M' i)) ∧ ∀ i, isl G M a i → imq G M M' a i → gn G (M 322) a i (pq G M' i) := by
  have epl : plo M' = plo M := by unfold plo; rw [x 141 (by decide)]
  have ps : ∀ i, M' 323 i = M 323 i → pol M' i = pol M i := fun i e => by unfold pol; rw [e]
  have pc : ∀ i (c : Nat), M' 323 i = c → pol M' i = c := fun i c e => by unfold pol; rw [e]; rfl
  have qs : ∀ i, M' 323 i = M 323 i → pq G M' i = pq G M i := fun i e => by
    unfold pq
    rw [epl, ps i e]
  have qc : ∀ i, isl G M a i → imq G M M' a i → gn G (M 322) a i (pq G M' i) := fun i hs ⟨c, e1, _, _, e4⟩ => by
    rw [pq_U (by rw [epl]; exact hs.1), pc i c e1]; exact e4
  refine ⟨epl, fun i hu => ?_, fun i hi => qs i (o i hi), fun i hi => ?_, qc⟩
  · rw [epl] at hu
    by_cases hs : isl G M a i
    · rcases s i hs with e | ⟨c, e1, e2, e3, _⟩
      · rw [ps i e, e]; exact hc i hu
      · rw [pc i c e1]; exact ⟨e1, e2, e3⟩
    · rw [ps i (o i hs), o i hs]; exact hc i hu
  · rcases s i hi with e | e
    · exact Or.inl (qs i e)
    · exact Or.inr (qc i hi e)
theorem adv_min {M M' : fm_M} (h : CV g m G M) (hs : PS G M) (va : VA G M) (x : ex1 323 M M') (o : ∀ i, ¬ isl G M 0 i → M' 323 i = M 323 i) (s : ∀ i, isl G M 0 i → M' 323 i = M 323 i ∨ imq G M M' 0 i) (e : ∃ i, isl G M 0 i ∧ imq G M M' 0 i) : plo M' = plo M ∧ PS G M' ∧ bfo G (plo M) (pq G M) (pq G M') ∧ ∃ b, b < G.n ∧ plo M b := by
  have W := h.W
  obtain ⟨epl, pc', q1, q2, q3⟩ := pupd hs.2.1 x o s
  obtain ⟨rk, L, V, _, _⟩ := VA_val h hs va
  have ok := pq_ok h.ex hs.2.1
  have ok' := pq_ok h.ex pc'
  have hd := L.dn ok (fun _ _ _ => rfl)
  have mn : ∀ i, G.mx i → ¬ isl G M 0 i := fun i hm hi => by
    rcases hi.2 with ⟨_, b⟩ | ⟨b, _⟩
    · exact absurd b (by decide)
    · exact b hm
  have he : G.eqmx (pq G M) (pq G M') := fun i _ hm => (q1 i (mn i hm)).symm
  have gt : ∀ i, isl G M 0 i → gn G (M 322) 0 i (pq G M' i) → G.S i (pq G M' i) (vnum G (plo M) (pq G M)) < G.wo i (pq G M' i) * vnum G (plo M) (pq G M) i := fun i hi hg => by
    have hk : pq G M' i < G.cc i := (ok' i hi.1.1 (by have := (hd i hi.1).1; omega)).1
    rw [gn_cg W hi.1.1 hk va.1] at hg
    rcases hg with ⟨b, _⟩ | ⟨_, b⟩
    · exact absurd b (by decide)
    · exact b
  obtain ⟨i0, i1, i2⟩ := e
  have r := stp_min W h.w6 h.n8 L ok ok' he (fun i hu => ?_) ⟨i0, i1.1, gt i0 i1 (q3 i0 i1 i2)⟩
  · refine ⟨epl, ⟨by rw [epl]; exact hs.1, pc', rk, by rw [epl]; exact r.1⟩, r.2, ?_⟩
    apply Classical.byContradiction
    intro hno
    have hk : pq G M' i0 < G.cc i0 := (ok' i0 i1.1.1 (by have := (hd i0 i1.1).1; omega)).1
    have eq1 := one_eq W L ok (fun b hb hl => hno ⟨b, hb, hl⟩) V i1.1.1 hk
    rcases q3 i0 i1 i2 with ⟨b, _⟩ | ⟨_, b⟩
    · exact absurd b (by decide)
    · omega
  · by_cases hi : isl G M 0 i
    · rcases q2 i hi with b | b
      · exact Or.inl b
      · exact Or.inr (gt i hi b)
    · exact Or.inl (q1 i hi)
theorem adv_max {M M' : fm_M} (h : CV g m G M) (hs : PS G M) (va : VA G M) (ho : hopt G (plo M) (M 322)) (x : ex1 323 M M') (o : ∀ i, ¬ isl G M 1 i → M' 323 i = M 323 i) (s : ∀ i, isl G M 1 i → M' 323 i = M 323 i ∨ imq G M M' 1 i) (e : ∃ i, isl G M 1 i ∧ imq G M M' 1 i) : plo M' = plo M ∧ PS G M' ∧ bfo G (plo M) (pq G M) (pq G M') ∧ ∃ b, b < G.n ∧ plo M b := by
  have W := h.W
  obtain ⟨epl, pc', q1, q2, q3⟩ := pupd hs.2.1 x o s
  obtain ⟨rk, L, V, _, _⟩ := VA_val h hs va
  have ok := pq_ok h.ex hs.2.1
  have ok' := pq_ok h.ex pc'
  have hd := L.dn ok (fun _ _ _ => rfl)
  have gt : ∀ i, isl G M 1 i → gn G (M 322) 1 i (pq G M' i) → G.wo i (pq G M' i) * vnum G (plo M) (pq G M) i < G.S i (pq G M' i) (vnum G (plo M) (pq G M)) := fun i hi hg => by
    have hk : pq G M' i < G.cc i := (ok' i hi.1.1 (by have := (hd i hi.1).1; omega)).1
    rw [gn_cg W hi.1.1 hk va.1] at hg
    rcases hg with ⟨_, b⟩ | ⟨b, _⟩
    · exact b
    · exact absurd b (by decide)
  have ho' : hopt G (plo M) (vnum G (plo M) (pq G M)) := fun i k hu hm hk ha => by
    have := ho i k hu hm hk ha
    rw [va.1 i hu.1, S_cg W hu.1 hk va.1] at this; exact this
  obtain ⟨i0, i1, i2⟩ := e
  have m0 : G.mx i0 := by
    rcases i1.2 with ⟨b, _⟩ | ⟨_, b⟩
    · exact b
    · exact absurd b (by decide)
  have r := stp_max W h.w6 h.n8 hs.1 L ok ok' ho' (fun i hi hm hcc => ?_) ⟨i0, i1.1, m0, gt i0 i1 (q3 i0 i1 i2)⟩
  · obtain ⟨rk', L'⟩ := r.1
    refine ⟨epl, ⟨by rw [epl]; exact hs.1, pc', rk', by rw [epl]; exact L'⟩, r.2, ?_⟩
    apply Classical.byContradiction
    intro hno
    have hk : pq G M' i0 < G.cc i0 := (ok' i0 i1.1.1 (by have := (hd i0 i1.1).1; omega)).1
    have eq1 := one_eq W L ok (fun b hb hl => hno ⟨b, hb, hl⟩) V i1.1.1 hk
    rcases q3 i0 i1 i2 with ⟨_, b⟩ | ⟨b, _⟩
    · omega
    · exact absurd b (by decide)
  · by_cases his : isl G M 1 i
    · rcases q2 i his with b | b
      · exact Or.inl b
      · exact Or.inr (gt i his b)
    · exact Or.inl (q1 i his)
/-- so many rounds are left -/
def CN (G : Gd) (M : fm_M) (r : Nat) : Prop := ((∃ b, b < G.n ∧ plo M b) → fcn G (plo M) (pq G M) + r < 1000000) ∧ ((¬ ∃ b, b < G.n ∧ plo M b) → r = 0)
theorem pq_10 {M : fm_M} (h : CV g m G M) (hs : PS G M) : ∀ i, G.U (plo M) i → pq G M i < 10 := fun i hu => by
  have a := h.cc i hu.1
  have b := h.vs.m10
  have c := (hs.2.1 i hu).2.1
  rw [pq_U hu]
  omega
theorem CN_0 {M : fm_M} (h : CV g m G M) (hs : PS G M) : CN G M 0 := by
  refine ⟨fun ⟨b, hb, hl⟩ => ?_, fun _ => rfl⟩
  obtain ⟨_, pc, rk, L⟩ := hs
  have ok := pq_ok h.ex pc
  have c6 := open_6 h.W h.n8 (L.dn ok (fun _ _ _ => rfl)) L.ntg hb hl
  have f0 := fcn_0 (pq_10 h ⟨by assumption, pc, rk, L⟩)
  have p6 : 10 ^ cnt (G.U (plo M)) G.n ≤ 10 ^ 6 := Nat.pow_le_pow_right (by decide) c6
  have e6 : (10 : Nat) ^ 6 = 1000000 := by decide
  omega
theorem CN_s {M M' : fm_M} {r : Nat} (h' : CV g m G M') (hs' : PS G M') (c : CN G M r) (e : plo M' = plo M) (b : bfo G (plo M) (pq G M) (pq G M')) (l : ∃ b, b < G.n ∧ plo M b) : CN G M' (r + 1) := by
  have p := pq_10 h' hs'
  unfold CN
  rw [e] at p ⊢
  have f := fcn_lt p b
  have q := c.1 l
  exact ⟨fun _ => by omega, fun hn => absurd l hn⟩
/-- the fractions -/
def frc (G : Gd) (M M' : fm_M) (n : Nat) : Prop := ∀ i, i < n → M' 324 i = (((M 322 i).toNat / Nat.gcd (M 322 i).toNat (M 312 2).toNat : Nat) : Int) ∧ M' 325 i = (((M 312 2).toNat / Nat.gcd (M 322 i).toNat (M 312 2).toNat : Nat) : Int)
theorem w_compute {M : fm_M} (h : CV g m G M) (hp : ∀ M', vg M M' → PS G M' → FN G M' → frc G M' M' G.n → post 0 M') : wp_Va_compute M post thr := by
  have h8 := h.n8
  have hn := h.n
  have W := h.W
  refine w_chooseFirst h (fun M0 f0 s0 => ?_)
  have done : ∀ M1 : fm_M, vg M M1 → PS G M1 → FN G M1 → B_Va_compute_64 post thr M1 := by
    intro M1 f1 s1 fn1
    obtain ⟨rk, L, V, vb, vn⟩ := VA_val (h.vg f1) s1 fn1.1
    have vp := V.pos
    refine ⟨fun M' v2 => ∃ i : Nat, v2 = i ∧ i ≤ G.n ∧ vg M M' ∧ (∀ a, a ≠ 324 → a ≠ 325 → M' a = M1 a) ∧ frc G M1 M' i, fun _ v2 => ((G.n : Int) - v2).toNat, ⟨0, rfl, by omega, f1, fun _ _ _ => rfl, fun i hi => by omega⟩, ?_⟩
    rintro M2 v2 ⟨i, rfl, hi, f2, o2, q2⟩
    have n2 : M2 142 = M 142 := f2 142 (by omega)
    unfold C_Va_compute_66
    rw [n2, ← hn]
    refine ⟨rg_small (by omega), rg_small (by omega), fun h4 => hp M2 f2 (PS_same (by rw [o2 141 (by decide) (by decide)]) (o2 323 (by decide) (by decide)) s1) (FN_same (by rw [o2 141 (by decide) (by decide)]) (o2 323 (by decide) (by decide)) (o2 322 (by decide) (by decide)) (by rw [o2 312 (by decide) (by decide)]) fn1) (fun j hj => ?_), fun h4 => ⟨by omega, ?_⟩⟩
    · rw [o2 322 (by decide) (by decide), o2 312 (by decide) (by decide)]
      exact q2 j (by omega)
    · have vi := vn i (by omega)
      rw [Int.toNat_natCast, o2 322 (by decide) (by decide), o2 312 (by decide) (by decide)]
      have ea : M1 322 i = (((M1 322 i).toNat : Nat) : Int) := by omega
      have eb : M1 312 2 = (((M1 312 2).toNat : Nat) : Int) := by omega
      rw [ea, eb]
      refine w_divisor (by omega) (by omega) (by omega) ?_
      have gp : 0 < Nat.gcd (M1 322 i).toNat (M1 312 2).toNat := Nat.gcd_pos_of_pos_right _ (by omega)
      have gl : Nat.gcd (M1 322 i).toNat (M1 312 2).toNat ≤ (M1 312 2).toNat := Nat.gcd_le_right _ (by omega)
      have jg : jwl ((Nat.gcd (M1 322 i).toNat (M1 312 2).toNat : Nat) : Int) = ((Nat.gcd (M1 322 i).toNat (M1 312 2).toNat : Nat) : Int) := jwl_id ⟨by omega, by omega⟩
      rw [jg, o2 322 (by decide) (by decide), jwl_id ⟨by omega, by omega⟩]
      refine ⟨by omega, fun M3 e3 M4 e4 => ?_⟩
      have e38 : M3 312 2 = M1 312 2 := by rw [e3, fu_off _ _ _ (by decide), o2 312 (by decide) (by decide)]
      rw [e38, jwl_id ⟨by omega, by omega⟩] at e4
      refine ⟨⟨i + 1, by omega, by omega, by rw [e4, e3]; exact (f2.u (Or.inr (by omega))).u (Or.inr (by omega)), fun a h1 h2 => by rw [e4, fu_off _ _ _ h2, e3, fu_off _ _ _ h1]; exact o2 a h1 h2, fun j hj => ?_⟩, by dsimp only; omega⟩
      have c1 : M4 324 j = if j = i then (M1 322 i).tdiv (Nat.gcd (M1 322 i).toNat (M1 312 2).toNat : Nat) else M2 324 j := by rw [e4, fu_off _ _ _ (by decide), e3, fu_at]
      have c2 : M4 325 j = if j = i then (M1 312 2).tdiv (Nat.gcd (M1 322 i).toNat (M1 312 2).toNat : Nat) else M2 325 j := by rw [e4, fu_at, e3, fu_off _ _ _ (by decide)]
      rw [c1, c2]
      by_cases e : j = i
      · rw [if_pos e, if_pos e, e, tdn vi.1, tdn (by omega)]; exact ⟨rfl, rfl⟩
      · rw [if_neg e, if_neg e]; exact q2 j (by omega)
  refine ⟨fun M' v1 v2 => ∃ r : Nat, v2 = r ∧ r ≤ 1000000 ∧ vg M M' ∧ PS G M' ∧ ((v1 = 1 ∧ CN G M' r) ∨ (v1 = 0 ∧ FN G M')), fun _ _ v2 => (1000000 - v2).toNat, ⟨0, rfl, by omega, f0, s0, Or.inl ⟨rfl, CN_0 (h.vg f0) s0⟩⟩, ?_⟩
  rintro M1 v1 v2 ⟨r, rfl, hr, f1, s1, I1⟩
  have h1 := h.vg f1
  unfold C_Va_compute_8
  have rv : rg v1 := rg_small (by
    rcases I1 with ⟨e, _⟩ | ⟨e, _⟩ <;> rw [e] <;> decide)
  refine ⟨rg_small (by omega), fun h4 => ?_, fun h4 => ⟨rv, fun h5 => ?_, fun h5 => ?_⟩⟩
  · rcases I1 with ⟨_, c⟩ | ⟨_, c⟩
    · exfalso
      by_cases hl : ∃ b, b < G.n ∧ plo M1 b
      · have := c.1 hl; omega
      · have := c.2 hl; omega
    · exact done M1 f1 s1 c
  · rcases I1 with ⟨e, _⟩ | ⟨_, c⟩
    · rw [e] at h5; exact absurd h5 (by decide)
    · exact done M1 f1 s1 c
  have c1 : CN G M1 r := by
    rcases I1 with ⟨_, c⟩ | ⟨e, _⟩
    · exact c
    · exact absurd e h5
  obtain ⟨C1, pc1, rk1, L1⟩ := s1
  have ok1 := pq_ok h.ex pc1
  have hd1 := L1.dn ok1 (fun _ _ _ => rfl)
  refine w_setEquations h1 pc1 (fun M2 q2 r2 => ?_)
  have f2 : vg M M2 := f1.tr (fun a ha => q2 a (by omega))
  have n2 : M2 142 1 = (G.n : Int) := by rw [f2 142 (by omega), hn]
  rw [n2]
  refine w_solveFor h8 (mA_dom W hd1) (mA_nr1 W (fun i hu => (hd1 i hu).1) h.w6) r2 (fun M3 q3 u3 d3 => ?_)
  have f3 : vg M M3 := f2.tr (fun a ha => q3 a (by omega))
  have h3 := h.vg f3
  have e141 : M3 141 = M1 141 := by rw [q3 141 (by omega), q2 141 (by omega)]
  have e323 : M3 323 = M1 323 := by rw [q3 323 (by omega), q2 323 (by omega)]
  have s3 : PS G M3 := PS_same (by rw [e141]) e323 ⟨C1, pc1, rk1, L1⟩
  have epl : plo M3 = plo M1 := by unfold plo; rw [e141]
  have epq : pq G M3 = pq G M1 := by funext i; unfold pq pol; rw [epl, e323]
  have va3 : VA G M3 := by unfold VA; rw [epl, epq]; exact ⟨u3, d3⟩
  have c3 : CN G M3 r := by unfold CN; rw [epl, epq]; exact c1
  obtain ⟨rk3, L3, V3, vb3, vn3⟩ := VA_val h3 s3 va3
  have vr3 : vrg G M3 := fun j hj => by have := vn3 j hj; omega
  have heq3 : ∀ i, G.U (plo M3) i → G.wo i (pol M3 i) * M3 322 i = G.S i (pol M3 i) (M3 322) := fun i hu => by
    have := V3.eqn i hu
    rw [pq_U hu] at this; exact this
  refine w_improve h3 vr3 s3.2.1 heq3 (Or.inl rfl) (fun M4 x4 o4 n4 => ⟨rg_small (by decide), fun h => absurd rfl h, fun _ => ?_⟩) (fun M4 x4 o4 i4 e4 => ⟨rg_small (by decide), fun _ => ?_, fun h => absurd h (by decide)⟩)
  · have f4 : vg M M4 := f3.tr (fun a ha => x4 a (by omega))
    have h4' := h.vg f4
    have e323' : M4 323 = M3 323 := funext o4
    have s4 : PS G M4 := PS_same (by rw [x4 141 (by decide)]) e323' s3
    have epl4 : plo M4 = plo M3 := by unfold plo; rw [x4 141 (by decide)]
    have epo4 : pol M4 = pol M3 := by unfold pol; rw [e323']
    have epq4 : pq G M4 = pq G M3 := by funext i; unfold pq; rw [epl4, epo4]
    have e322 : M4 322 = M3 322 := x4 322 (by decide)
    have e312 : M4 312 = M3 312 := x4 312 (by decide)
    have va4 : VA G M4 := by unfold VA; rw [epl4, epq4, e322, e312]; exact va3
    have c4 : CN G M4 r := by unfold CN; rw [epl4, epq4]; exact c3
    have ho4 : hopt G (plo M4) (M4 322) := fun i k hu hm hk ha => by
      rw [epl4] at hu
      rw [e322]
      apply Classical.byContradiction
      intro hne
      exact n4 i ⟨hu, Or.inr ⟨hm, rfl⟩⟩ k hk ha (Or.inr ⟨rfl, by omega⟩)
    refine w_improve h4' (by unfold vrg; rw [e322]; exact vr3) s4.2.1 (by rw [epl4, epo4, e322]; exact heq3) (Or.inr rfl) (fun M5 x5 o5 n5 => ⟨rg_small (by decide), fun _ => ?_, fun h => absurd rfl h⟩) (fun M5 x5 o5 i5 e5 => ⟨rg_small (by decide), fun h => absurd h (by decide), fun _ => ?_⟩)
    · have f5 : vg M M5 := f4.tr (fun a ha => x5 a (by omega))
      have e323'' : M5 323 = M4 323 := funext o5
      refine ⟨⟨r + 1, by omega, by omega, f5, PS_same (by rw [x5 141 (by decide)]) e323'' s4, Or.inr ⟨rfl, FN_same (by rw [x5 141 (by decide)]) e323'' (x5 322 (by decide)) (by rw [x5 312 (by decide)]) ⟨va4, ho4, fun i k hu hm hk ha => ?_⟩⟩⟩, by dsimp only; omega⟩
      apply Classical.byContradiction
      intro hne
      exact n5 i ⟨hu, Or.inl ⟨hm, rfl⟩⟩ k hk ha (Or.inl ⟨rfl, by omega⟩)
    · have f5 : vg M M5 := f4.tr (fun a ha => x5 a (by omega))
      obtain ⟨b1, b2, b3, b4⟩ := adv_max h4' s4 va4 ho4 x5 o5 i5 e5
      exact ⟨⟨r + 1, by omega, by omega, f5, b2, Or.inl ⟨rfl, CN_s (h.vg f5) b2 c4 b1 b3 b4⟩⟩, by dsimp only; omega⟩
  · have f4 : vg M M4 := f3.tr (fun a ha => x4 a (by omega))
    obtain ⟨b1, b2, b3, b4⟩ := adv_min h3 s3 va3 x4 o4 i4 e4
    exact ⟨⟨r + 1, by omega, by omega, f4, b2, Or.inl ⟨rfl, CN_s (h.vg f4) b2 c3 b1 b3 b4⟩⟩, by dsimp only; omega⟩
/-- the class's values are the game's -/
theorem FN_sol {M : fm_M} (h : CV g m G M) (hs : PS G M) (fn : FN G M) : Sol G (M 322) (M 312 2) ∧ (∀ i, i < G.n → 0 ≤ M 322 i) ∧ 0 < M 312 2 := by
  obtain ⟨rk, L, V, vb, vn⟩ := VA_val h hs fn.1
  exact ⟨sol_of h.W hs.1 L (pq_ok h.ex hs.2.1) V fn.2.1 fn.2.2, fun i hi => (vn i hi).1, V.pos⟩
end Cy
end Pu_cvd
