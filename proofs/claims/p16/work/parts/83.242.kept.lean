set_option maxRecDepth 10000
section Pu_Ow
/-! The reference's good choices. -/
theorem spec_isKept2 {M : fm_M} (w : GW M) (hv : vals M) (hh : hlb M) {post : Int → fm_M → Prop} {thr : String → fm_M → Prop} (h0 : ¬ (∀ j, j < (Gof M).n → M 358 j * M 360 j = M 359 j * M 331 38) → post 0 M) (h1 : (∀ j, j < (Gof M).n → M 358 j * M 360 j = M 359 j * M 331 38) → post 1 M) : wp_Mo_isKept M post thr := by
  have hn := w.n8
  obtain ⟨q1, q2, q3⟩ := hv
  refine ⟨fun M' v1 v2 => M' = M ∧ ∃ i : Nat, v2 = i ∧ i ≤ (Gof M).n ∧ ((v1 = 1 ∧ ∀ j, j < i → M 358 j * M 360 j = M 359 j * M 331 38) ∨ (v1 = 0 ∧ ∃ j, j < (Gof M).n ∧ ¬ M 358 j * M 360 j = M 359 j * M 331 38)), fun _ _ v2 => (((Gof M).n : Int) - v2).toNat, ⟨rfl, 0, rfl, by omega, Or.inl ⟨rfl, fun j hj => by omega⟩⟩, ?_⟩
  rintro M' v1 v2 ⟨rfl, i, rfl, hi, I⟩
  have hv1 : v1 = 0 ∨ v1 = 1 := by
    rcases I with ⟨e, _⟩ | ⟨e, _⟩
    · exact Or.inr e
    · exact Or.inl e
  have rv : rg v1 := rg_small (by rcases hv1 with e | e <;> rw [e] <;> decide)
  unfold C_Mo_isKept_4
  rw [← hn.1, Int.toNat_natCast]
  refine ⟨rg_small (by omega), rg_small (by omega), fun h => ⟨hv1, ?_⟩, fun h => ⟨rv, fun hz => ⟨⟨rfl, i + 1, by omega, by omega, ?_⟩, by dsimp only; omega⟩, fun hz => ⟨by omega, ?_⟩⟩⟩
  · rcases I with ⟨e, q⟩ | ⟨e, j, j1, j2⟩
    · rw [e]; exact h1 (fun j hj => q j (by omega))
    · rw [e]; exact h0 (fun q => j2 (q j j1))
  · rcases I with ⟨e, _⟩ | ⟨_, q⟩
    · rw [e] at hz; exact absurd hz (by decide)
    · exact Or.inr ⟨rfl, q⟩
  · have a := q3 i (by omega)
    have b := hh i (by omega)
    have q : ∀ j, j < i → M' 358 j * M' 360 j = M' 359 j * M' 331 38 := by
      rcases I with ⟨_, q⟩ | ⟨e, _⟩
      · exact q
      · exact absurd e hz
    refine ⟨rl_p2 (by omega) b.2, rl_p2 b.1 (by omega), fun hj => ⟨⟨rfl, i + 1, by omega, by omega, Or.inr ⟨rfl, i, by omega, fun e => hj (jcm_eq.mpr e)⟩⟩, by dsimp only; omega⟩, fun hj => ⟨⟨rfl, i + 1, by omega, by omega, Or.inl ⟨rfl, fun j hj' => ?_⟩⟩, by dsimp only; omega⟩⟩
    by_cases e : j = i
    · rw [e]; exact jcm_eq.mp hj
    · exact q j (by omega)
/-- states whose good choice is sought now -/
def sla (M : fm_M) (a : Int) (j : Nat) : Prop := M 347 j = a ∧ 0 < (Gof M).cc j
def rsG (M : fm_M) (a : Int) (d : Nat → Int) (i k : Nat) : Nat → Nat → Prop := fun j x => M 347 j = a → (j < i → M 348 (10 * j + x) = d j) ∧ (j = i → x = k)
theorem rsG_d {M : fm_M} {a : Int} {d d' : Nat → Int} {i k : Nat} (e : ∀ j, j < i → M 347 j = a → d j = d' j) : rsG M a d i k = rsG M a d' i k := by
  funext j x
  unfold rsG
  apply propext
  exact ⟨fun q r => ⟨fun h => by rw [← e j h r]; exact (q r).1 h, (q r).2⟩, fun q r => ⟨fun h => by rw [e j h r]; exact (q r).1 h, (q r).2⟩⟩
theorem Gof_gv {cs bs : List Nat} {M M' : fm_M} (h : sv cs bs M M') (hc : ∀ a ∈ gcs, a ∉ cs) (hb : 6 ∉ bs ∧ 20 ∉ bs) : Gof M' = Gv (Gof M) (fun i k => jand (jshr (M' 352 i) k) 1 = 1) := by
  have e : ∀ a ∈ gcs, M' a = M a := fun a ha => h.cell a (hc a ha) (by revert ha; revert a; decide)
  unfold Gv Gof gi
  rw [h.slot 6 hb.1, h.slot 20 hb.2, e 337 (by decide), e 339 (by decide), e 346 (by decide), e 347 (by decide), e 348 (by decide), e 349 (by decide), e 350 (by decide)]
  rfl
theorem cor_ab {G : Gd} {A B : Nat → Nat → Prop} (e : ∀ i k, i < G.n → k < G.cc i → (B i k ↔ A i k)) : Cor (Gv G B) (Gv G A) := ⟨rfl, fun _ _ => Iff.rfl, fun _ _ => Iff.rfl, fun i k hi hk ha => ⟨k, hk, (e i k hi hk).mp ha, rfl, fun _ => rfl⟩, fun i k hi hk ha => ⟨k, hk, (e i k hi hk).mpr ha, rfl, fun _ => rfl⟩⟩
/-- what keeps the values, by any solution -/
theorem kpt_iff {G : Gd} (W : G.Wf) {A : Nat → Nat → Prop} {num num' : Nat → Int} {com com' : Int} (s : Sol (Gv G A) num' com') : kpt G num com A ↔ ∀ j, j < G.n → num j * com' = num' j * com := by
  constructor
  · intro ⟨n2, c2, s2, q⟩ j hj
    have e := Sol_eq (Gv_wf W A) (Gv_wf W A) Cor.rfl s s2 j hj
    have cp : 0 < c2 := by obtain ⟨_, _, _, _, _, V, _⟩ := s2; exact V.pos
    have h2 := q j hj
    have h3 : (num j * com') * c2 = (num' j * com) * c2 := by
      have a : (num j * com') * c2 = (num j * c2) * com' := by grind
      have b : (num' j * com) * c2 = (num' j * c2) * com := by grind
      rw [a, b, h2, e]; grind
    exact Int.eq_of_mul_eq_mul_right (show c2 ≠ 0 by omega) h3
  · intro q
    exact ⟨num', com', s, q⟩
theorem bit_k : ∀ k : Fin 11, ∀ x : Fin 11, (jand (jshr (jshl 1 (k.1 : Int)) (x.1 : Int)) 1 = 1 ↔ x.1 = k.1) := by decide
/-- the first choice that keeps the values, else the last -/
def fsk (M : fm_M) (a : Int) (num : Nat → Int) (com : Int) (d : Nat → Int) (i k : Nat) : Prop := k < (Gof M).cc i ∧ (kpt (Gof M) num com (rsG M a d i k) ∨ k + 1 = (Gof M).cc i) ∧ ∀ k', k' < k → ¬ kpt (Gof M) num com (rsG M a d i k')
/-- what is allowed while state i is looked at -/
def alI (M : fm_M) (a : Int) (d : Nat → Int) (i : Nat) (M' : fm_M) (j : Nat) : Prop := ∀ x, x < (Gof M).cc j → (jand (jshr (M' 352 j) x) 1 = 1 ↔ (M 347 j = a → j < i → M 348 (10 * j + x) = d j))
def fbI (M : fm_M) (a : Int) (num : Nat → Int) (com : Int) (M' : fm_M) (v2 : Int) : Prop := ∃ i : Nat, v2 = i ∧ i ≤ (Gof M).n ∧ sv fb [34, 38] M M' ∧ (∀ j, j < (Gof M).n → alI M a (M' 361) i M' j) ∧ (∀ j, i ≤ j ∨ ¬ sla M a j → M' 361 j = M 361 j) ∧ ∀ j, j < i → sla M a j → ∃ k : Nat, M' 361 j = M 348 (10 * j + k) ∧ fsk M a num com (M' 361) j k
def fbJ (M : fm_M) (a : Int) (num : Nat → Int) (com : Int) (q : Nat) (M' : fm_M) (v2 : Int) : Prop := fbI M a num com M' v2 ∧ (((Gof M).n : Int) - v2).toNat < (((Gof M).n : Int) - (q : Int)).toNat
def fcI (M : fm_M) (a : Int) (num : Nat → Int) (com : Int) (i : Nat) (M1 M' : fm_M) (v2 v3 v4 : Int) : Prop := v2 = i ∧ ∃ k : Nat, v3 + 1 = k ∧ k ≤ (Gof M).cc i ∧ sv fb [34, 38] M M' ∧ M' 361 = M1 361 ∧ (∀ j, j < (Gof M).n → j ≠ i → alI M a (M1 361) i M' j) ∧ (k = 0 → M' 352 i = M1 352 i) ∧ (∀ k0, k = k0 + 1 → M' 352 i = jshl 1 (k0 : Int)) ∧ ((v4 = 0 ∧ ∀ k', k' < k → ¬ kpt (Gof M) num com (rsG M a (M1 361) i k')) ∨ (v4 = 1 ∧ ∃ k0, k = k0 + 1 ∧ kpt (Gof M) num com (rsG M a (M1 361) i k0) ∧ ∀ k', k' < k0 → ¬ kpt (Gof M) num com (rsG M a (M1 361) i k')))
theorem spec_findBest2 {M : fm_M} (w : GW M) (hh : hlb M) (hin : ∀ j, j < (Gof M).n → ∀ x y, x < (Gof M).cc j → y < (Gof M).cc j → M 348 (10 * j + x) = M 348 (10 * j + y) → x = y) {a : Int} (ha : a = 0 ∨ a = 1) {num : Nat → Int} {com : Int} (hc : 0 < com) (hf : ∀ j, j < (Gof M).n → ∃ g : Int, 0 < g ∧ num j = M 359 j * g ∧ com = M 360 j * g) {post : Int → fm_M → Prop} {thr : String → fm_M → Prop} (hp : ∀ M', sv fb [34, 38] M M' → (∀ j, (Gof M).n ≤ j ∨ ¬ sla M a j → M' 361 j = M 361 j) → (∀ i, i < (Gof M).n → sla M a i → ∃ k : Nat, M' 361 i = M 348 (10 * i + k) ∧ fsk M a num com (M' 361) i k) → post 0 M') : wp_Mo_findBest M a post thr := by
  have hn := w.n8
  have W := w.wf
  unfold wp_Mo_findBest
  refine spec_allowAll w (fun M0 s0 a0 al0 => ?_)
  have same : ∀ M', sv fb [34, 38] M M' → GW M' ∧ (Gof M').n = (Gof M).n ∧ (Gof M').cc = (Gof M).cc ∧ hlb M' := fun M' s => by
    have h1 := GW_al s (by decide) (by decide)
    refine ⟨GW_same s (by decide) (by decide) w, h1.1, h1.2, ?_⟩
    unfold hlb; rw [h1.1, s.cell 359 (by decide) (by decide), s.cell 360 (by decide) (by decide)]; exact hh
  have ra : rg a := rg_small (by rcases ha with e | e <;> rw [e] <;> decide)
  have sf0 : sv fb [34, 38] M M0 := s0.mono (by decide) (by decide)
  have e361 : M0 361 = M 361 := s0.cell 361 (by decide) (by decide)
  have alw_of : ∀ (M' : fm_M) (d : Nat → Int) (i : Nat), sv fb [34, 38] M M' → (∀ j, j < (Gof M).n → alI M a d i M' j) → (∀ j, j < i → j < (Gof M).n → sla M a j → ∃ k : Nat, k < (Gof M).cc j ∧ d j = M 348 (10 * j + k)) → alw M' := fun M' d i s hal hd j hj hcj => by
    obtain ⟨_, en, ec, _⟩ := same M' s
    rw [en] at hj
    rw [ec] at hcj ⊢
    by_cases e : M 347 j = a ∧ j < i
    · obtain ⟨k, k1, k2⟩ := hd j e.2 hj ⟨e.1, hcj⟩
      exact ⟨k, k1, (hal j hj k k1).mpr (fun _ _ => k2.symm)⟩
    · exact ⟨0, hcj, (hal j hj 0 hcj).mpr (fun q1 q2 => absurd ⟨q1, q2⟩ e)⟩
  refine ⟨fbI M a num com, fun _ v2 => (((Gof M).n : Int) - v2).toNat, ⟨0, rfl, by omega, sf0, fun j hj x hx => ?_, fun j _ => by rw [e361], fun j hj => by omega⟩, ?_⟩
  · obtain ⟨_, en, ec, _⟩ := same M0 sf0
    have q := al0 j (by rw [en]; exact hj) x (by rw [ec]; exact hx)
    exact ⟨fun _ _ hlt => absurd hlt (Nat.not_lt_zero _), fun _ => q⟩
  rintro M1 v2 ⟨i, rfl, hi, s1, l1, o1, b1⟩
  obtain ⟨w1, en, ec, h1⟩ := same M1 s1
  have e20 : M1 331 20 = (Gof M).n := by rw [s1.slot 20 (by decide), hn.1]
  unfold C_Mo_findBest_6
  rw [e20, Int.toNat_natCast]
  refine ⟨rg_small (by omega), rg_small (by omega), fun h => hp M1 s1 (fun j hj => o1 j (by
    rcases hj with hj | hj
    · exact Or.inl (by omega)
    · exact Or.inr hj)) (fun j hj hs => b1 j (by omega) hs), fun h => ⟨by omega, ?_⟩⟩
  have hin' : i < (Gof M).n := by omega
  have hcc := w1.cc' (i := i) (by rw [en]; exact hin')
  rw [ec] at hcc
  have hm := w1.mx i (by rw [en]; exact hin')
  have e347 : M1 347 = M 347 := s1.cell 347 (by decide) (by decide)
  have rm : rg (M1 347 i) := rg_small (by rcases hm with e | e <;> rw [e] <;> decide)
  have skip : ¬ sla M a i → fbJ M a num com i M1 ((i : Int) + 1) := fun hns => by
    refine ⟨⟨i + 1, by omega, by omega, s1, fun j hj x hx => (l1 j hj x hx).trans ⟨fun q r hlt => ?_, fun q r hlt => q r (by omega)⟩, fun j hj => o1 j (by
      rcases hj with hj | hj
      · exact Or.inl (by omega)
      · exact Or.inr hj), fun j hj hs => ?_⟩, by omega⟩
    · by_cases e : j = i
      · exfalso; rw [e] at r hx; exact hns ⟨r, by omega⟩
      · exact q r (by omega)
    · by_cases e : j = i
      · rw [e] at hs; exact absurd hs hns
      · exact b1 j (by omega) hs
  rw [hcc.1]
  refine ⟨rg_small (by omega), fun h2 => skip (fun hs => by have := hs.2; omega), fun h2 => ⟨rm, ra, fun h3 => skip (fun hs => h3 (by rw [e347]; exact hs.1)), fun h3 => ?_⟩⟩
  have hs : sla M a i := ⟨by rw [← e347]; exact h3, by omega⟩
  have hd1 : ∀ j, j < i → j < (Gof M).n → sla M a j → ∃ k : Nat, k < (Gof M).cc j ∧ M1 361 j = M 348 (10 * j + k) := fun j hj _ hsj => by
    obtain ⟨k, k1, k2⟩ := b1 j hj hsj
    exact ⟨k, k2.1, k1⟩
  refine ⟨fcI M a num com i M1, fun _ _ v3 _ => (((Gof M).cc i : Int) - v3).toNat, ⟨rfl, 0, rfl, by omega, s1, rfl, fun j hj _ => l1 j hj, fun _ => rfl, fun k0 e => by omega, Or.inl ⟨rfl, fun k' hk' => by omega⟩⟩, ?_⟩
  rintro M2 v2 v3 v4 ⟨rfl, k, hk, hkc, s2, e2, l2, z2, y2, I2⟩
  obtain ⟨w2, en2, ec2, h22⟩ := same M2 s2
  have e349 : M2 349 i = (Gof M).cc i := by
    have := (w2.cc' (i := i) (by rw [en2]; exact hin')).1; rw [ec2] at this; exact this
  have hv4 : v4 = 0 ∨ v4 = 1 := by
    rcases I2 with ⟨e, _⟩ | ⟨e, _⟩
    · exact Or.inl e
    · exact Or.inr e
  have rv4 : rg v4 := rg_small (by rcases hv4 with e | e <;> rw [e] <;> decide)
  -- the end of the search at this state
  have fin : ∀ k0, k = k0 + 1 → fsk M a num com (M1 361) i k0 → B_Mo_findBest_80 a post thr (fbJ M a num com i) M2 i v3 := fun k0 ek f => by
    have ev : ((10 * (i : Int)) + v3).toNat = 10 * i + k0 := by omega
    have hk10 := hcc.2
    refine ⟨by omega, by omega, fun M3 e3 => ?_⟩
    rw [ev, Int.toNat_natCast, s2.cell 348 (by decide) (by decide)] at e3
    have a3 : ∀ q, q ≠ 361 → M3 q = M2 q := fun q hq => by rw [e3]; exact fu_off _ _ _ hq
    have d3 : ∀ j, M3 361 j = if j = i then M 348 (10 * i + k0) else M1 361 j := fun j => by rw [e3, fu_at, e2]
    have od : ∀ j, j < i → M 347 j = a → M1 361 j = M3 361 j := fun j hj _ => by rw [d3 j, if_neg (by omega)]
    refine ⟨⟨i + 1, by omega, by omega, by rw [e3]; exact s2.u (by decide) (by decide), fun j hj x hx => ?_, fun j hj => ?_, fun j hj hsj => ?_⟩, by omega⟩
    · rw [a3 352 (by decide)]
      by_cases e : j = i
      · rw [e] at hx ⊢
        rw [y2 k0 ek, bit_k ⟨k0, by omega⟩ ⟨x, by omega⟩, d3 i, if_pos rfl]
        constructor
        · intro q _ _
          have q' : x = k0 := q
          rw [q']
        · intro q
          exact hin i hin' x k0 hx (by omega) (q hs.1 (by omega))
      · rw [l2 j hj e x hx, d3 j, if_neg e]
        exact ⟨fun q r hlt => q r (by omega), fun q r hlt => q r (by omega)⟩
    · have hne : j ≠ i := fun e => by
        rcases hj with hj | hj
        · omega
        · rw [e] at hj; exact hj hs
      rw [d3 j, if_neg hne]
      exact o1 j (by
        rcases hj with hj | hj
        · exact Or.inl (by omega)
        · exact Or.inr hj)
    · by_cases e : j = i
      · rw [e]
        refine ⟨k0, by rw [d3 i, if_pos rfl], f.1, ?_, fun k' hk' => ?_⟩
        · rw [← rsG_d od]; exact f.2.1
        · rw [← rsG_d od]; exact f.2.2 k' hk'
      · obtain ⟨kj, k1, k2⟩ := b1 j (by omega) hsj
        have oj : ∀ j', j' < j → M 347 j' = a → M1 361 j' = M3 361 j' := fun j' hj' q => od j' (by omega) q
        refine ⟨kj, by rw [d3 j, if_neg e]; exact k1, k2.1, ?_, fun k' hk' => ?_⟩
        · rw [← rsG_d oj]; exact k2.2.1
        · rw [← rsG_d oj]; exact k2.2.2 k' hk'
  unfold C_Mo_findBest_38
  rw [Int.toNat_natCast, e349]
  refine ⟨rv4, fun hz => ?_, fun hz => ⟨by omega, rg_small (by omega), rg_small (by omega), fun h3' => ?_, fun h3' M3 hM3 => ?_⟩⟩
  · rcases I2 with ⟨e, _⟩ | ⟨_, k0, q1, q2, q3⟩
    · exact absurd e hz
    · exact fin k0 q1 ⟨by omega, Or.inl q2, q3⟩
  · rcases I2 with ⟨_, q⟩ | ⟨e, _⟩
    · exact fin (k - 1) (by omega) ⟨by omega, Or.inr (by omega), fun k' hk' => q k' (by omega)⟩
    · rw [e] at hz; exact absurd hz (by decide)
  have hno : ∀ k', k' < k → ¬ kpt (Gof M) num com (rsG M a (M1 361) i k') := by
    rcases I2 with ⟨_, q⟩ | ⟨e, _⟩
    · exact q
    · rw [e] at hz; exact absurd hz (by decide)
  have hklt : k < (Gof M).cc i := by omega
  rw [hk] at hM3
  have s3 : sv fb [34, 38] M M3 := by rw [hM3]; exact s2.u (by decide) (by decide)
  obtain ⟨w3, en3, ec3, h33⟩ := same M3 s3
  have r3 : ∀ j, M3 352 j = if j = i then jshl 1 (k : Int) else M2 352 j := fun j => by rw [hM3, fu_at]
  have hk10 := hcc.2
  -- this game
  have e3 : ∀ j x, j < (Gof M).n → x < (Gof M).cc j → (jand (jshr (M3 352 j) x) 1 = 1 ↔ rsG M a (M1 361) i k j x) := fun j x hj hx => by
    rw [r3 j]
    by_cases e : j = i
    · rw [if_pos e, e]
      rw [e] at hx
      rw [bit_k ⟨k, by omega⟩ ⟨x, by omega⟩]
      exact ⟨fun q _ => ⟨fun hlt => absurd hlt (Nat.lt_irrefl _), fun _ => q⟩, fun q => (q hs.1).2 rfl⟩
    · rw [if_neg e, l2 j hj e x hx]
      exact ⟨fun q r => ⟨q r, fun e' => absurd e' e⟩, fun q r => (q r).1⟩
  have a3 : alw M3 := fun j hj hcj => by
    rw [en3] at hj
    rw [ec3] at hcj ⊢
    by_cases e : j = i
    · exact ⟨k, by rw [e]; exact hklt, (e3 j k hj (by rw [e]; exact hklt)).mpr (fun _ => ⟨fun hlt => by omega, fun _ => rfl⟩)⟩
    · by_cases e' : M 347 j = a ∧ j < i
      · obtain ⟨kj, k1, k2⟩ := hd1 j e'.2 hj ⟨e'.1, hcj⟩
        exact ⟨kj, k1, (e3 j kj hj k1).mpr (fun _ => ⟨fun _ => k2.symm, fun q => absurd q e⟩)⟩
      · exact ⟨0, hcj, (e3 j 0 hj hcj).mpr (fun r => ⟨fun hlt => absurd ⟨r, hlt⟩ e', fun q => absurd q e⟩)⟩
  refine spec_solveGame w3 a3 (fun M4 s4 v4' sol4 => ?_)
  have s34 : sv fb [34, 38] M M4 := s3.tr (s4.mono (by decide) (by decide))
  obtain ⟨w4, en4, ec4, h44⟩ := same M4 s34
  have solA : Sol (Gv (Gof M) (rsG M a (M1 361) i k)) (M4 358) (M4 331 38) := by
    rw [Gof_gv s3 (by decide) (by decide)] at sol4
    refine Sol_cor (Gv_wf W _) (Gv_wf W _) (cor_ab (fun j x hj hx => e3 j x hj hx)) (fun j hj hcj => ?_) sol4
    obtain ⟨x, x1, x2⟩ := a3 j (by rw [en3]; exact hj) (by rw [ec3]; exact hcj)
    rw [ec3] at x1
    exact ⟨x, x1, (e3 j x hj x1).mp x2⟩
  have keq : kpt (Gof M) num com (rsG M a (M1 361) i k) ↔ ∀ j, j < (Gof M4).n → M4 358 j * M4 360 j = M4 359 j * M4 331 38 := by
    rw [kpt_iff W solA, en4, s34.cell 359 (by decide) (by decide), s34.cell 360 (by decide) (by decide)]
    constructor
    · intro q j hj
      obtain ⟨gj, g1, g2, g3⟩ := hf j hj
      have q1 := q j hj
      rw [g2] at q1
      have q2 : (M4 358 j * M 360 j) * gj = (M 359 j * M4 331 38) * gj := by
        have x1 : (M 359 j * M4 331 38) * gj = M 359 j * gj * M4 331 38 := by grind
        rw [x1, q1, g3]; grind
      exact Int.eq_of_mul_eq_mul_right (show gj ≠ 0 by omega) q2
    · intro q j hj
      obtain ⟨gj, g1, g2, g3⟩ := hf j hj
      have q1 := q j hj
      rw [g2]
      have x1 : M 359 j * gj * M4 331 38 = (M 359 j * M4 331 38) * gj := by grind
      rw [x1, ← q1]
      have x2 : M4 358 j * com = M4 358 j * (M 360 j * gj) := by rw [← g3]
      rw [x2]; grind
  have e361' : M4 361 = M1 361 := by rw [s4.cell 361 (by decide) (by decide), hM3, fu_off _ _ _ (by decide)]; exact e2
  have e352 : M4 352 = M3 352 := s4.cell 352 (by decide) (by decide)
  have nxt : ∀ r : Int, ((r = 0 ∧ ¬ kpt (Gof M) num com (rsG M a (M1 361) i k)) ∨ (r = 1 ∧ kpt (Gof M) num com (rsG M a (M1 361) i k))) → fcI M a num com i M1 M4 i (v3 + 1) r ∧ (((Gof M).cc i : Int) - (v3 + 1)).toNat < (((Gof M).cc i : Int) - v3).toNat := fun r hr => by
    refine ⟨⟨rfl, k + 1, by omega, by omega, s34, e361', fun j hj hne => ?_, fun e => by omega, fun k0 e => ?_, ?_⟩, by omega⟩
    · intro x hx
      rw [e352, r3 j, if_neg hne]; exact l2 j hj hne x hx
    · have e' : k0 = k := by omega
      rw [e352, r3 i, if_pos rfl, e']
    · rcases hr with ⟨q1, q2⟩ | ⟨q1, q2⟩
      · refine Or.inl ⟨q1, fun k' hk' => ?_⟩
        by_cases e : k' = k
        · rw [e]; exact q2
        · exact hno k' (by omega)
      · exact Or.inr ⟨q1, k, rfl, q2, hno⟩
  exact spec_isKept2 w4 v4' h44 (fun q => nxt 0 (Or.inl ⟨rfl, fun r => q (keq.mp r)⟩)) (fun q => nxt 1 (Or.inr ⟨rfl, keq.mpr q⟩))
theorem fsk_d {M : fm_M} {a : Int} {num : Nat → Int} {com : Int} {d d' : Nat → Int} {i k : Nat} (e : ∀ j, j < i → M 347 j = a → d j = d' j) (h : fsk M a num com d i k) : fsk M a num com d' i k := by
  refine ⟨h.1, ?_, fun k' hk' => ?_⟩
  · rw [← rsG_d e]; exact h.2.1
  · rw [← rsG_d e]; exact h.2.2 k' hk'
theorem Gv_gv {G : Gd} {A B : Nat → Nat → Prop} : Gv (Gv G B) A = Gv G A := rfl
theorem kpt_gv {G : Gd} {A B : Nat → Nat → Prop} {num : Nat → Int} {com : Int} : kpt (Gv G B) num com A ↔ kpt G num com A := by
  unfold kpt
  rw [Gv_gv]
  exact Iff.rfl
theorem fsk_same {cs bs : List Nat} {M M' : fm_M} (h : sv cs bs M M') (hc : ∀ a ∈ gcs, a ∉ cs) (hb : 6 ∉ bs ∧ 20 ∉ bs) {a : Int} {num : Nat → Int} {com : Int} {d : Nat → Int} {i k : Nat} : fsk M' a num com d i k ↔ fsk M a num com d i k := by
  have e := Gof_gv h hc hb
  have e347 : M' 347 = M 347 := h.cell 347 (hc 347 (by decide)) (by decide)
  have e348 : M' 348 = M 348 := h.cell 348 (hc 348 (by decide)) (by decide)
  have er : ∀ x, rsG M' a d i x = rsG M a d i x := fun x => by unfold rsG; rw [e347, e348]
  have ec := (GW_al h hc hb).2
  have ek : ∀ x, kpt (Gof M') num com (rsG M' a d i x) ↔ kpt (Gof M) num com (rsG M a d i x) := fun x => by rw [er x, e]; exact kpt_gv
  unfold fsk
  rw [ec]
  exact ⟨fun q => ⟨q.1, q.2.1.imp (ek k).mp id, fun k' h r => q.2.2 k' h ((ek k').mpr r)⟩, fun q => ⟨q.1, q.2.1.imp (ek k).mpr id, fun k' h r => q.2.2 k' h ((ek k').mp r)⟩⟩
theorem hin_of {Y : Ga} {M : fm_M} {X : Xs} {lk : Nat} (F : RF Y X lk M) (hl : X.1 ≤ lk) : ∀ j, j < (Gof M).n → ∀ x y, x < (Gof M).cc j → y < (Gof M).cc j → M 348 (10 * j + x) = M 348 (10 * j + y) → x = y := fun j hj x y hx hy e => by
  have hn := F.n
  have hj' : j < X.1 := by have : j < (M 331 20).toNat := hj; omega
  have cn : (Gof M).cc j = ec Y (X.2 j) Y.C := by
    show (M 349 j).toNat = _
    rw [F.cn j hj' (by omega)]; rfl
  rw [cn] at hx hy
  obtain ⟨c, c1, c2, c3⟩ := ec_su hx
  obtain ⟨c', d1, d2, d3⟩ := ec_su hy
  have q1 := F.ch j hj' (by omega) c c1 c2
  have q2 := F.ch j hj' (by omega) c' d1 d2
  rw [c3] at q1
  rw [d3] at q2
  have : c = c' := by omega
  rw [← c3, ← d3, this]
/-- as the found game has it -/
theorem cor_key {Y : Ga} {G : Nat} {M : fm_M} (hy : RY Y G M) (hG : M 331 6 = G) (hG1 : G ≤ 1) {X : Xs} {lk : Nat} (F : RF Y X lk M) (hl : X.1 ≤ lk) (E : EX M (fun j _ _ => j < (Gof M).n)) (D : dst X) (al : ala M) : ∀ i c, i < X.1 → c < Y.C → ene Y (X.2 i) c = true → ec Y (X.2 i) c < (Gof M).cc i ∧ (Gof M).wo i (ec Y (X.2 i) c) = (HG Y X).wo i c ∧ ∀ h, (Gof M).S i (ec Y (X.2 i) c) h = (HG Y X).S i c h := by
  have hn := F.n
  have h8 := F.n8
  have hC := hy.w.c10
  have en : (Gof M).n = X.1 := by show (M 331 20).toNat = X.1; omega
  intro i c hi hc he
  have hk : ec Y (X.2 i) c < (Gof M).cc i := by
    show _ < (M 349 i).toNat
    rw [F.cn i hi (by omega)]
    exact ec_lt hc he
  have hch := F.ch i hi (by omega) c hc he
  generalize hkk : ec Y (X.2 i) c = k at hk hch ⊢
  have hgi : gi M i k = 10 * G + c := by unfold gi; rw [hG, hch]; omega
  have enb : (Gof M).nb i k = Y.nb c := by
    show (M 337 (gi M i k)).toNat = _
    rw [hgi, hy.nb c hc]; rfl
  have n4 := hy.w.nb4 c
  have ewt : ∀ b, b < Y.nb c → (Gof M).wt i k b = Y.wt c b := fun b hb => by
    show M 339 (4 * gi M i k + b) = _
    rw [hgi]; exact hy.wt c b hc hb
  have eto : ∀ b, b < Y.nb c → (Gof M).to i k b = tov Y X i c b := fun b hb => by
    obtain ⟨t1, t2, t3⟩ := E.to i k b (by rw [en]; exact hi) hk (by rw [enb]; exact hb) (by rw [en]; exact hi)
    refine (tov_eq D (j := (M 350 (40 * i + 4 * k + b)).toNat) (by omega) ?_).symm
    have v : ∀ v, v < 3 → X.2 (M 350 (40 * i + 4 * k + b)).toNat v = Y.nx c b (X.2 i) v := fun v hv => by
      have q := t3 v hv
      rw [hch, hG, Int.toNat_natCast, Int.toNat_natCast, rnx_c E.rb hG1 (by omega) (by omega) hv (r := rho M i) (r' := X.2 i) (fun w hw => F.st i w hi hw), hy.nx c b hc hb _ (F.ok i hi) v hv] at q
      rw [← q]
      exact (F.st _ v (by omega) hv).symm
    exact ⟨v 0 (by omega), v 1 (by omega), v 2 (by omega)⟩
  refine ⟨hk, ?_, fun h => ?_⟩
  · show sm ((Gof M).nb i k) ((Gof M).wt i k) = sm (Y.nb c) (Y.wt c)
    rw [enb]; exact sm_congr ewt
  · show sm ((Gof M).nb i k) (fun b => (Gof M).wt i k b * h ((Gof M).to i k b)) = sm (Y.nb c) (fun b => Y.wt c b * h (tov Y X i c b))
    rw [enb]; exact sm_congr (fun b hb => by rw [ewt b hb, eto b hb])
section Rf
variable {Y : Ga} {G : Nat} {M : fm_M} {X : Xs} {lk : Nat}
theorem cor_rs (hy : RY Y G M) (hG : M 331 6 = G) (hG1 : G ≤ 1) (F : RF Y X lk M) (hl : X.1 ≤ lk) (E : EX M (fun j _ _ => j < (Gof M).n)) (D : dst X) (al : ala M) {A B : Nat → Nat → Prop} (hAB : ∀ j c, j < X.1 → c < Y.C → ene Y (X.2 j) c = true → (A j (ec Y (X.2 j) c) ↔ B j c)) (hB : ∀ j c, B j c → ene Y (X.2 j) c = true) : Cor (Gv (Gof M) A) (Gv (HG Y X) B) := by
  have C := Cor_of hy hG hG1 F hl E D al
  have key := cor_key hy hG hG1 F hl E D al
  have hn := F.n
  have en : (Gof M).n = X.1 := by show (M 331 20).toNat = X.1; omega
  have cn : ∀ i, i < X.1 → (Gof M).cc i = ec Y (X.2 i) Y.C := fun i hi => by
    show (M 349 i).toNat = _
    rw [F.cn i hi (by omega)]; rfl
  refine ⟨en, C.tg, C.mx, fun i k hi hk ha => ?_, fun i c hi hc ha => ?_⟩
  · have hi' : i < X.1 := by rw [← en]; exact hi
    have hk' : k < (Gof M).cc i := hk
    rw [cn i hi'] at hk'
    obtain ⟨c, c1, c2, c3⟩ := ec_su hk'
    obtain ⟨k1, k2, k3⟩ := key i c hi' c1 c2
    rw [c3] at k2 k3
    have ha' : A i k := ha
    rw [← c3] at ha'
    have hcl : c < (HG Y X).cc i := by rw [HG_cc ⟨c, c1, c2⟩]; exact c1
    exact ⟨c, hcl, (hAB i c hi' c1 c2).mp ha', k2, k3⟩
  · have hi' : i < X.1 := by rw [← en]; exact hi
    have c1 := HG_lt (show c < (HG Y X).cc i from hc)
    have c2 := hB i c ha
    obtain ⟨k1, k2, k3⟩ := key i c hi' c1 c2
    exact ⟨_, k1, (hAB i c hi' c1 c2).mpr ha, k2, k3⟩
theorem kpt_tr {G H : Gd} (WG : G.Wf) (WH : H.Wf) {A B : Nat → Nat → Prop} (C : Cor (Gv G A) (Gv H B)) (hxA : ∀ i, i < G.n → 0 < G.cc i → ∃ c, c < G.cc i ∧ A i c) (hxB : ∀ i, i < H.n → 0 < H.cc i → ∃ c, c < H.cc i ∧ B i c) {num : Nat → Int} {com : Int} : kpt G num com A ↔ kpt H num com B := by
  have en : G.n = H.n := C.n
  constructor
  · intro ⟨n2, c2, s, q⟩
    exact ⟨n2, c2, Sol_cor (Gv_wf WG A) (Gv_wf WH B) C hxB s, fun j hj => q j (by rw [en]; exact hj)⟩
  · intro ⟨n2, c2, s, q⟩
    exact ⟨n2, c2, Sol_cor (Gv_wf WH B) (Gv_wf WG A) C.symm hxA s, fun j hj => q j (by rw [← en]; exact hj)⟩
/-- what findBest finds, in the found game -/
theorem BYd_r (hy : RY Y G M) (hG : M 331 6 = G) (hG1 : G ≤ 1) (w : GW M) (yg : YG Y) (F : RF Y X lk M) (hl : X.1 ≤ lk) (E : EX M (fun j _ _ => j < (Gof M).n)) (D : xok X) (al : ala M) {num : Nat → Int} {com : Int} {d : Nat → Int} (h1 : ∀ a, a = 0 ∨ a = 1 → ∀ i, i < (Gof M).n → sla M a i → ∃ k : Nat, d i = M 348 (10 * i + k) ∧ fsk M a num com d i k) (h0 : ∀ i, i < (Gof M).n → (Gof M).cc i = 0 → d i = -1) : BYd (HG Y X) num com d := by
  have hn := F.n
  have h8 := F.n8
  have hC := hy.w.c10
  have en : (Gof M).n = X.1 := by show (M 331 20).toNat = X.1; omega
  have cn : ∀ i, i < X.1 → (Gof M).cc i = ec Y (X.2 i) Y.C := fun i hi => by
    show (M 349 i).toNat = _
    rw [F.cn i hi (by omega)]; rfl
  have WH := HG_wf (Y := Y) (X := X) yg (by have := D.2.1; omega)
  have C := Cor_of hy hG hG1 F hl E D.1 al
  have m01 : ∀ j, j < X.1 → M 347 j = 0 ∨ M 347 j = 1 := fun j hj => w.mx j (by rw [en]; exact hj)
  have mxi : ∀ j, j < X.1 → ((HG Y X).mx j ↔ M 347 j = 1) := fun j hj => by
    have q := (C.mx j (by rw [en]; exact hj))
    have q' : M 347 j ≠ 0 ↔ (HG Y X).mx j := q
    rw [← q']
    have := m01 j hj
    omega
  have chs : ∀ j c, j < X.1 → c < Y.C → ene Y (X.2 j) c = true → M 348 (10 * j + ec Y (X.2 j) c) = c := fun j c hj hc he => F.ch j hj (by omega) c hc he
  have ecl : ∀ j c, j < X.1 → c < Y.C → ene Y (X.2 j) c = true → ec Y (X.2 j) c < (Gof M).cc j := fun j c hj hc he => by rw [cn j hj]; exact ec_lt hc he
  -- every state with choices has one among those that are left
  have dk : ∀ j, j < X.1 → 0 < (Gof M).cc j → ∃ c, c < Y.C ∧ ene Y (X.2 j) c = true ∧ d j = c := fun j hj hcj => by
    have hm := m01 j hj
    obtain ⟨k, k1, k2⟩ : ∃ k : Nat, d j = M 348 (10 * j + k) ∧ k < (Gof M).cc j := by
      rcases hm with e | e
      · obtain ⟨k, k1, k2⟩ := h1 0 (Or.inl rfl) j (by rw [en]; exact hj) ⟨e, hcj⟩
        exact ⟨k, k1, k2.1⟩
      · obtain ⟨k, k1, k2⟩ := h1 1 (Or.inr rfl) j (by rw [en]; exact hj) ⟨e, hcj⟩
        exact ⟨k, k1, k2.1⟩
    rw [cn j hj] at k2
    obtain ⟨c, c1, c2, c3⟩ := ec_su k2
    exact ⟨c, c1, c2, by rw [k1, ← c3]; exact chs j c hj c1 c2⟩
  have tr : ∀ i a c, i < X.1 → M 347 i = a → c < Y.C → ene Y (X.2 i) c = true → (kpt (Gof M) num com (rsG M a d i (ec Y (X.2 i) c)) ↔ kpt (HG Y X) num com (rst (HG Y X) d i c)) := fun i a c hi ha hc he => by
    have pl : ∀ j, j < X.1 → (((HG Y X).mx j ↔ (HG Y X).mx i) ↔ M 347 j = a) := fun j hj => by
      rw [mxi j hj, mxi i hi, ← ha]
      have := m01 j hj
      have := m01 i hi
      omega
    refine kpt_tr w.wf WH (cor_rs hy hG hG1 F hl E D.1 al (fun j c' hj hc' he' => ?_) (fun j c' q => q.1)) (fun j hj hcj => ?_) (fun j hj hcj => ?_)
    · constructor
      · intro q
        refine ⟨he', fun r => ?_⟩
        have q' := q ((pl j hj).mp r)
        refine ⟨fun hlt => by rw [← q'.1 hlt]; exact (chs j c' hj hc' he').symm, fun e => ?_⟩
        subst e
        exact ec_inj he' he (q'.2 rfl)
      · intro q r
        have q' := q.2 ((pl j hj).mpr r)
        refine ⟨fun hlt => by rw [chs j c' hj hc' he']; exact q'.1 hlt, fun e => ?_⟩
        subst e
        rw [q'.2 rfl]
    · have hj' : j < X.1 := by rw [← en]; exact hj
      by_cases e : j = i
      · subst e
        exact ⟨ec Y (X.2 j) c, ecl j c hj' hc he, fun _ => ⟨fun hlt => absurd hlt (Nat.lt_irrefl _), fun _ => rfl⟩⟩
      · obtain ⟨c', c1, c2, c3⟩ := dk j hj' hcj
        exact ⟨ec Y (X.2 j) c', ecl j c' hj' c1 c2, fun _ => ⟨fun _ => by rw [c3]; exact chs j c' hj' c1 c2, fun q => absurd q e⟩⟩
    · have hj' : j < X.1 := hj
      have hcg : 0 < (Gof M).cc j := by
        obtain ⟨c', c1, c2⟩ := HG_ex hcj
        have := ecl j c' hj' c1 c2
        omega
      by_cases e : j = i
      · subst e
        exact ⟨c, by rw [HG_cc ⟨c, hc, he⟩]; exact hc, he, fun _ => ⟨fun hlt => absurd hlt (Nat.lt_irrefl _), fun _ => rfl⟩⟩
      · obtain ⟨c', c1, c2, c3⟩ := dk j hj' hcg
        exact ⟨c', by rw [HG_cc ⟨c', c1, c2⟩]; exact c1, c2, fun _ => ⟨fun _ => c3.symm, fun q => absurd q e⟩⟩
  intro i hi
  have hi' : i < X.1 := hi
  refine ⟨fun hc0 => h0 i (by rw [en]; exact hi') ?_, fun hcp => ?_⟩
  · apply Classical.byContradiction
    intro hne
    have hk : 0 < ec Y (X.2 i) Y.C := by rw [← cn i hi']; omega
    obtain ⟨c, c1, c2, _⟩ := ec_su hk
    rw [HG_cc ⟨c, c1, c2⟩] at hc0
    omega
  · obtain ⟨c0, p1, p2⟩ := HG_ex hcp
    have hcg : 0 < (Gof M).cc i := by have := ecl i c0 hi' p1 p2; omega
    obtain ⟨k, k1, k2⟩ := h1 (M 347 i) (m01 i hi') i (by rw [en]; exact hi') ⟨rfl, hcg⟩
    have hk := k2.1
    rw [cn i hi'] at hk
    obtain ⟨c, c1, c2, c3⟩ := ec_su hk
    have dc : d i = c := by rw [k1, ← c3]; exact chs i c hi' c1 c2
    have hcl : c < (HG Y X).cc i := by rw [HG_cc ⟨c, c1, c2⟩]; exact c1
    refine ⟨c, dc, hcl, c2, ?_, fun c' hc' he' => ?_⟩
    · rcases k2.2.1 with q | q
      · left
        rw [← tr i _ c hi' rfl c1 c2, c3]; exact q
      · right
        intro c' hc' hl' he'
        have c1' := HG_lt hl'
        have e' : ene Y (X.2 i) c' = true := he'
        have a1 := ec_lt (C := c') hc' c2
        have a2 := ecl i c' hi' c1' e'
        omega
    · have e' : ene Y (X.2 i) c' = true := he'
      rw [← tr i _ c' hi' rfl (by omega) e']
      have a1 := ec_lt (C := c) hc' e'
      exact k2.2.2 _ (by omega)
end Rf
end Pu_Ow
