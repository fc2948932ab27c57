set_option maxRecDepth 10000
section Pu_J
/-! The reference's search for values ends. -/
theorem ex_mul (n : Nat) : ∃ L : Int, 0 < L ∧ ∀ d : Int, 0 < d → d ≤ n → ∃ e, 0 < e ∧ L = d * e := by
  induction n with
  | zero => exact ⟨1, by decide, fun d h1 h2 => by omega⟩
  | succ n ih =>
    obtain ⟨L, h0, h⟩ := ih
    refine ⟨((n + 1 : Nat) : Int) * L, Int.mul_pos (by omega) h0, fun d h1 h2 => ?_⟩
    by_cases e : d = ((n + 1 : Nat) : Int)
    · exact ⟨L, h0, by rw [e]⟩
    · obtain ⟨q, hq, he⟩ := h d h1 (by omega)
      exact ⟨((n + 1 : Nat) : Int) * q, Int.mul_pos (by omega) hq, by rw [he]; grind⟩
theorem ex_L : ∃ L : Int, 0 < L ∧ ∀ d : Int, 0 < d → d ≤ 429981696 → ∃ e, 0 < e ∧ L = d * e := by
  obtain ⟨L, a, b⟩ := ex_mul 429981696
  exact ⟨L, a, fun d h1 h2 => b d h1 h2⟩
noncomputable def LL : Int := Classical.choose ex_L
theorem LL_pos : 0 < LL := (Classical.choose_spec ex_L).1
theorem LL_div {d : Int} (h : 0 < d) (h2 : d ≤ 429981696) : 0 < LL / d ∧ LL = d * (LL / d) := by
  obtain ⟨e, he, h3⟩ := (Classical.choose_spec ex_L).2 d h h2
  have h4 : LL = d * e := h3
  have h5 : LL / d = e := by rw [h4, Int.mul_ediv_cancel_left _ (by omega)]
  rw [h5]; exact ⟨he, h4⟩
noncomputable def mv (n : Nat) (num : Nat → Int) (com : Int) : Int := sm n (fun i => num i * (LL / com))
theorem alg7 {a b c c' e e' L : Int} (h1 : L = c * e) (h2 : L = c' * e') (hL : 0 < L) (h : a * c ≤ b * c') (hc : 0 < c) (hc' : 0 < c') : a * e' ≤ b * e := by
  have h3 : (a * c) * L ≤ (b * c') * L := Int.mul_le_mul_of_nonneg_right h (Int.le_of_lt hL)
  have h4 : (c * c') * (a * e') ≤ (c * c') * (b * e) := by
    have e1 : (c * c') * (a * e') = (a * c) * (c' * e') := by grind
    have e2 : (c * c') * (b * e) = (b * c') * (c * e) := by grind
    rw [e1, e2, ← h1, ← h2]; exact h3
  exact Int.le_of_mul_le_mul_left h4 (Int.mul_pos hc hc')
theorem alg8 {a b c c' e e' L : Int} (h1 : L = c * e) (h2 : L = c' * e') (hL : 0 < L) (h : a * c < b * c') (hc : 0 < c) (hc' : 0 < c') : a * e' < b * e := by
  have h3 : (a * c) * L < (b * c') * L := Int.mul_lt_mul_of_pos_right h hL
  have h4 : (c * c') * (a * e') < (c * c') * (b * e) := by
    have e1 : (c * c') * (a * e') = (a * c) * (c' * e') := by grind
    have e2 : (c * c') * (b * e) = (b * c') * (c * e) := by grind
    rw [e1, e2, ← h1, ← h2]; exact h3
  exact Int.lt_of_mul_lt_mul_left h4 (Int.le_of_lt (Int.mul_pos hc hc'))
theorem mv_lt {n : Nat} {num num' : Nat → Int} {com com' : Int} (hc : 0 < com ∧ com ≤ 429981696) (hc' : 0 < com' ∧ com' ≤ 429981696) (h : ∀ i, i < n → num' i * com ≤ num i * com') {j : Nat} (hj : j < n) (hs : num' j * com < num j * com') : mv n num' com' < mv n num com := by
  have a := LL_div hc.1 hc.2
  have b := LL_div hc'.1 hc'.2
  exact sm_lt (fun i hi => alg7 a.2 b.2 LL_pos (h i hi) hc.1 hc'.1) hj (alg8 a.2 b.2 LL_pos hs hc.1 hc'.1)
theorem mv_bd {n : Nat} {num : Nat → Int} {com : Int} (hc : 0 < com ∧ com ≤ 429981696) (h : ∀ i, i < n → 0 ≤ num i ∧ num i ≤ com) : 0 ≤ mv n num com ∧ mv n num com ≤ n * LL := by
  have a := LL_div hc.1 hc.2
  refine ⟨sm_nn (fun i hi => Int.mul_nonneg (h i hi).1 (Int.le_of_lt a.1)), ?_⟩
  have h1 : mv n num com ≤ sm n (fun _ => LL) := sm_le (fun i hi => by
    have := Int.mul_le_mul_of_nonneg_right (h i hi).2 (Int.le_of_lt a.1)
    rw [← a.2] at this; exact this)
  have h2 : ∀ m : Nat, sm m (fun _ => LL) = m * LL := fun m => by
    induction m with
    | zero => simp [sm]
    | succ m ih => simp only [sm]; rw [ih]; grind
  rw [h2] at h1; exact h1
def hopt (G : Gd) (l : Nat → Prop) (num : Nat → Int) : Prop := ∀ i k, G.U l i → ¬ G.mx i → k < G.cc i → G.al i k → G.wo i k * num i ≤ G.S i k num
/-- MAX can do no better -/
def mopt (G : Gd) (num : Nat → Int) : Prop := ∀ i k, i < G.n → G.mx i → k < G.cc i → G.al i k → G.S i k num ≤ G.wo i k * num i
/-- values that are the game's -/
def Sol (G : Gd) (num : Nat → Int) (com : Int) : Prop := ∃ (l : Nat → Prop) (rk p : Nat → Nat), G.Lost p l rk ∧ G.ok p ∧ G.Val l p num com ∧ hopt G l num ∧ mopt G num
def bet (G : Gd) (M : fm_M) (i : Nat) : Prop := G.wo i (pk M i) * M 358 i < G.S i (pk M i) (M 358)
def wor (G : Gd) (M : fm_M) (i : Nat) : Prop := G.S i (pk M i) (M 358) < G.wo i (pk M i) * M 358 i
/-- MAX has just done better than these values -/
def GoodO (G : Gd) (M : fm_M) : Prop := ∃ p rk : Nat → Nat, G.Lost p (lo M) rk ∧ G.ok p ∧ G.Val (lo M) p (M 358) (M 331 38) ∧ M 331 38 ≤ 429981696 ∧ hopt G (lo M) (M 358) ∧ (∀ i, i < G.n → G.mx i → 0 < G.cc i → pk M i = p i ∨ bet G M i) ∧ ∃ i, i < G.n ∧ G.mx i ∧ 0 < G.cc i ∧ bet G M i
/-- MIN has just done better than these values -/
def GoodI (G : Gd) (M : fm_M) : Prop := ∃ q : Nat → Nat, G.Val (lo M) q (M 358) (M 331 38) ∧ M 331 38 ≤ 429981696 ∧ (∀ i, G.U (lo M) i → pk M i = q i ∨ wor G M i) ∧ ∃ i, G.U (lo M) i ∧ wor G M i
/-- values are there -/
def vals (M : fm_M) : Prop := 0 < M 331 38 ∧ M 331 38 ≤ 429981696 ∧ ∀ i, i < (Gof M).n → 0 ≤ M 358 i ∧ M 358 i ≤ M 331 38
noncomputable def muO (G : Gd) (M : fm_M) (v : Int) : Nat := if v = 0 then 0 else @ite _ (GoodO G M) (Classical.propDecidable _) (((G.n : Int) * LL - mv G.n (M 358) (M 331 38)).toNat + 1) (((G.n : Int) * LL).toNat + 2)
noncomputable def muI (G : Gd) (M : fm_M) (v : Int) : Nat := if v = 0 then 0 else @ite _ (GoodI G M) (Classical.propDecidable _) ((mv G.n (M 358) (M 331 38)).toNat + 1) (((G.n : Int) * LL).toNat + 2)
theorem muO_pos (G : Gd) (M : fm_M) {v : Int} (h : v ≠ 0) : 0 < muO G M v := by
  unfold muO; rw [if_neg h]; split <;> omega
theorem muI_pos (G : Gd) (M : fm_M) {v : Int} (h : v ≠ 0) : 0 < muI G M v := by
  unfold muI; rw [if_neg h]; split <;> omega
theorem Lost_congr {G : Gd} {p q : Nat → Nat} {l : Nat → Prop} {rk : Nat → Nat} (h : G.Lost p l rk) (e : G.eqmx p q) : G.Lost q l rk :=
  ⟨h.ntg, fun i hi hl => by
    rcases h.stay i hi hl with a | ⟨a, b⟩ | a
    · exact Or.inl a
    · exact Or.inr (Or.inl ⟨a, by rw [← e i hi a]; exact b⟩)
    · exact Or.inr (Or.inr a), fun i hu hm => by rw [← e i hu.1 hm]; exact h.dmx i hu hm, h.dmn⟩
theorem Val_congr {G : Gd} {p q : Nat → Nat} {l : Nat → Prop} {num : Nat → Int} {com : Int} (h : G.Val l p num com) (e : ∀ i, i < G.n → q i = p i) : G.Val l q num com := ⟨h.pos, h.tgt, h.lost, fun i hu => by rw [e i hu.1]; exact h.eqn i hu⟩
theorem pok.ok {M : fm_M} (h : pok M) : (Gof M).ok (pk M) := fun i hi hc => ⟨(h.lt hi hc).2, (h i hi hc).2.2⟩
/-- what solveGame may change -/
abbrev sg6 : List Nat := [353, 354, 355, 356, 357, 358]
theorem pok_imp {M M' : fm_M} (w : GW M) (h : pok M) (s : sv [353] [] M M') (hh : ∀ i, i < (Gof M).n → M' 353 i = M 353 i ∨ imp M M' i) : pok M' := by
  have hG : Gof M' = Gof M := Gof_same s (by decide) (by decide) (by decide)
  intro i hi hc
  rw [hG] at hi hc ⊢
  rw [s.cell 349 (by decide) (by decide)]
  have hcc := w.cc' hi
  rcases hh i hi with e | ⟨k, a, b, c, e⟩
  · have : pk M' i = pk M i := by unfold pk; rw [e]
    rw [this, e]; exact h i hi hc
  · have : pk M' i = k := by unfold pk; rw [e]; rfl
    rw [this, e]; exact ⟨by omega, by omega, b⟩
/-- from the values on: the inner loop -/
theorem sg_81 (post : Int → fm_M → Prop) (thr : String → fm_M → Prop) (J71 : fm_M → Int → Prop) (M0 M1 : fm_M) (w : GW M0) (s1 : sv sg6 [34, 38] M0 M1) (hp : pok M1) (hb : ∀ j, j < (Gof M0).n → M1 354 j = 0 ∨ M1 354 j = 1) (rk : Nat → Nat) (L : (Gof M0).Lost (pk M1) (lo M1) rk)
    (hJ : ∀ M', sv sg6 [34, 38] M0 M' → pok M' → vals M' → Sol (Gof M0) (M' 358) (M' 331 38) → J71 M' 0) (hJ1 : ∀ M' q, sv sg6 [34, 38] M0 M' → pok M' → GoodO (Gof M0) M' → lo M' = lo M1 → (Gof M0).ok q → (Gof M0).eqmx (pk M1) q → (Gof M0).Val (lo M1) q (M' 358) (M' 331 38) → M' 331 38 ≤ 429981696 → J71 M' 1) : B_Mo_solveGame_81 post thr J71 M1 1 := by
  have hn := w.n8
  refine ⟨fun M' v2 => sv sg6 [34, 38] M0 M' ∧ pok M' ∧ M' 354 = M1 354 ∧ (Gof M0).eqmx (pk M1) (pk M') ∧ (v2 = 1 ∨ v2 = 0 ∧ (Gof M0).Val (lo M1) (pk M') (M' 358) (M' 331 38) ∧ M' 331 38 ≤ 429981696 ∧ hopt (Gof M0) (lo M1) (M' 358)), fun M' v2 => muI (Gof M0) M' v2, ⟨s1, hp, rfl, fun _ _ _ => rfl, Or.inl rfl⟩, ?_⟩
  rintro M2 v2 ⟨s2, hp2, e354, he, hv⟩
  have hv' : v2 = 0 ∨ v2 = 1 := by
    rcases hv with h | ⟨h, _⟩
    · exact Or.inr h
    · exact Or.inl h
  have rv : rg v2 := rg_small (by rcases hv' with e | e <;> rw [e] <;> decide)
  have hG2 : Gof M2 = Gof M0 := Gof_same s2 (by decide) (by decide) (by decide)
  have w2 : GW M2 := GW_same s2 (by decide) (by decide) w
  have hlo : lo M2 = lo M1 := by funext j; unfold lo; rw [e354]
  have ok2 : (Gof M0).ok (pk M2) := by have := hp2.ok; rw [hG2] at this; exact this
  have hd2 := L.dn ok2 he
  unfold C_Mo_solveGame_81
  refine ⟨rv, fun hz => ?_, fun hz => ?_⟩
  · -- MIN has answered
    obtain ⟨V, hc, ho⟩ : (Gof M0).Val (lo M1) (pk M2) (M2 358) (M2 331 38) ∧ M2 331 38 ≤ 429981696 ∧ hopt (Gof M0) (lo M1) (M2 358) := by
      rcases hv with h | ⟨_, h⟩
      · rw [h] at hz; exact absurd hz (by decide)
      · exact h
    have hnn := V.nn w.wf hd2
    refine spec_improveAll w2 (by rw [hG2]; exact fun j hj => ⟨(hnn j hj).1, Int.le_trans (hnn j hj).2 hc⟩) (by rw [hG2, e354]; exact hb) (Or.inr rfl) (fun M3 s3 h3 h4 => ?_) (fun M3 s3 h3 h4 h5 => ?_)
    · have hG3 : Gof M3 = Gof M2 := Gof_same s3 (by decide) (by decide) (by decide)
      refine hJ M3 (s2.tr (s3.mono (by decide) (by decide))) (pok_imp w2 hp2 s3 (fun i hi => Or.inl (h3 i hi))) ?_ ?_
      · unfold vals
        rw [s3.slot 38 (by decide), s3.cell 358 (by decide) (by decide), hG3, hG2]
        exact ⟨V.pos, hc, hnn⟩
      · rw [s3.slot 38 (by decide), s3.cell 358 (by decide) (by decide)]
        refine ⟨lo M1, rk, pk M2, Lost_congr L he, ok2, V, ho, fun i k hi hm hk ha => ?_⟩
        rw [hG2] at h4
        have hmx : M2 347 i ≠ 0 := by have : (Gof M2).mx i := by rw [hG2]; exact hm
                                      exact this
        have h01 := w2.mx i (by rw [hG2]; exact hi)
        have r := (h4 i hi ⟨by rw [hG2]; omega, by omega, fun h => absurd h (by decide)⟩).2 k (by rw [hG2]; exact hk) (by rw [hG2]; exact ha)
        apply Classical.byContradiction
        intro hne
        exact r (Or.inl ⟨hmx, by rw [hG2]; omega⟩)
    · have e38 : M3 331 38 = M2 331 38 := s3.slot 38 (by decide)
      have e358 : M3 358 = M2 358 := s3.cell 358 (by decide) (by decide)
      have hlo3 : lo M3 = lo M1 := by funext j; unfold lo; rw [s3.cell 354 (by decide) (by decide), e354]
      rw [hG2] at h3 h4 h5
      have hpk3 : ∀ i k : Nat, M3 353 i = k → pk M3 i = k := fun i k h => by unfold pk; rw [h]; rfl
      have hpks : ∀ i, M3 353 i = M2 353 i → pk M3 i = pk M2 i := fun i h => by unfold pk; rw [h]
      have hbet : ∀ i, sel M2 1 i → imp M2 M3 i → bet (Gof M0) M3 i := fun i hs ⟨k, a, b, c, d⟩ => by
        unfold bet; rw [hpk3 i k d, e358]
        rcases c with ⟨_, c⟩ | ⟨c, _⟩
        · rw [hG2] at c; exact c
        · have := hs.2.1; rw [c] at this; exact absurd this (by decide)
      have mx1 : ∀ i, i < (Gof M0).n → (Gof M0).mx i → M2 347 i = 1 := fun i hi hm => by
        rcases w2.mx i (by rw [hG2]; exact hi) with e | e
        · rw [← hG2] at hm; exact absurd e hm
        · exact e
      refine hJ1 M3 (pk M2) (s2.tr (s3.mono (by decide) (by decide))) (pok_imp w2 hp2 s3 (fun i hi => ?_)) ⟨pk M2, rk, by rw [hlo3]; exact Lost_congr L he, ok2, by rw [hlo3, e358, e38]; exact V, by rw [e38]; exact hc, by rw [hlo3, e358]; exact ho, fun i hi hm hcc => ?_, ?_⟩ hlo3 ok2 he (by rw [e358, e38]; exact V) (by rw [e38]; exact hc)
      · rw [hG2] at hi
        by_cases hs : sel M2 1 i
        · rcases h4 i hi hs with h | h
          · exact Or.inl h.1
          · exact Or.inr h
        · exact Or.inl (h3 i hi hs)
      · have hs : sel M2 1 i := ⟨by rw [hG2]; exact hcc, mx1 i hi hm, fun h => absurd h (by decide)⟩
        rcases h4 i hi hs with h | h
        · exact Or.inl (hpks i h.1)
        · exact Or.inr (hbet i hs h)
      · obtain ⟨i, hi, hs, h⟩ := h5
        refine ⟨i, hi, ?_, by have := hs.1; rw [hG2] at this; exact this, hbet i hs h⟩
        have : M2 347 i ≠ 0 := by rw [hs.2.1]; decide
        rw [← hG2]; exact this
  · -- MIN's turn
    have hv1 : v2 = 1 := by
      rcases hv' with e | e
      · exact absurd e hz
      · exact e
    subst hv1
    have pe : PreE M2 := ⟨w2, by rw [hG2, e354]; exact hb, fun i hi hu => by
      have hU : (Gof M0).U (lo M1) i := by rw [← hlo, ← hG2]; exact U_um.mpr ⟨hi, hu⟩
      have := (hd2 i hU).1
      have h3 := hp2 i hi (by rw [hG2]; omega)
      exact ⟨h3.1, h3.2.1⟩⟩
    refine spec_eval M2 pe _ thr (rk := rk) (by rw [hG2, hlo]; exact hd2) (fun i hi hl => ?_) (fun M3 s3 V3 hc3 => ?_)
    · rw [hG2] at hi
      have h1 := L.ntg i hi (by rw [← hlo]; exact hl)
      have h2 : M2 346 = M0 346 := s2.cell 346 (by decide) (by decide)
      rw [h2]; exact Classical.byContradiction h1
    · rw [hG2, hlo] at V3
      have s03 : sv sg6 [34, 38] M0 M3 := s2.tr (s3.mono (by decide) (by decide))
      have hG3 : Gof M3 = Gof M0 := Gof_same s03 (by decide) (by decide) (by decide)
      have w3 : GW M3 := GW_same s03 (by decide) (by decide) w
      have e3 : M3 353 = M2 353 := s3.cell 353 (by decide) (by decide)
      have e354' : M3 354 = M1 354 := by rw [s3.cell 354 (by decide) (by decide), e354]
      have hpk3 : pk M3 = pk M2 := by funext j; unfold pk; rw [e3]
      have hlo3 : lo M3 = lo M1 := by funext j; unfold lo; rw [e354']
      have hp3 : pok M3 := by
        have : M3 349 = M2 349 := s3.cell 349 (by decide) (by decide)
        unfold pok; rw [hG3, hpk3, e3, this, ← hG2]; exact hp2
      have hnn := V3.nn w.wf hd2
      have hmb := mv_bd ⟨V3.pos, hc3⟩ hnn
      -- the measure has fallen
      have hmu : (mv (Gof M0).n (M3 358) (M3 331 38)).toNat + 1 < muI (Gof M0) M2 1 := by
        unfold muI; rw [if_neg (by decide)]
        split
        · next hg =>
          obtain ⟨q, Vq, hcq, h5, i, hi, h6⟩ := hg
          rw [hlo] at Vq h5 hi
          have h7 := Gd.inner w.wf L ok2 he Vq V3 h5
          have h8 := mv_lt ⟨Vq.pos, hcq⟩ ⟨V3.pos, hc3⟩ h7.1 hi.1 (h7.2 i hi h6)
          omega
        · omega
      refine spec_improveAll w3 (by rw [hG3]; exact fun j hj => ⟨(hnn j hj).1, Int.le_trans (hnn j hj).2 hc3⟩) (by rw [hG3, e354']; exact hb) (Or.inl rfl) (fun M4 s4 h4 h5 => ?_) (fun M4 s4 h4 h5 h6 => ?_)
      · have e358 : M4 358 = M3 358 := s4.cell 358 (by decide) (by decide)
        have e38 : M4 331 38 = M3 331 38 := s4.slot 38 (by decide)
        rw [hG3] at h4 h5
        have hpk4 : ∀ i, i < (Gof M0).n → pk M4 i = pk M2 i := fun i hi => by unfold pk; rw [h4 i hi, e3]
        refine ⟨⟨s03.tr (s4.mono (by decide) (by decide)), pok_imp w3 hp3 s4 (fun i hi => Or.inl (h4 i (by rw [← hG3]; exact hi))), by rw [s4.cell 354 (by decide) (by decide)]; exact e354', fun i hi hm => by rw [hpk4 i hi]; exact he i hi hm, Or.inr ⟨rfl, ?_, by rw [e38]; exact hc3, ?_⟩⟩, ?_⟩
        · rw [e358, e38]; exact Val_congr V3 hpk4
        · intro i k hu hm hk hal
          rw [e358]
          have hs : sel M3 0 i := by
            refine ⟨by rw [hG3]; omega, ?_, fun _ => ?_⟩
            · have : ¬ (Gof M3).mx i := by rw [hG3]; exact hm
              exact Classical.byContradiction this
            · have : ¬ lo M3 i := by rw [hlo3]; exact hu.2.1
              exact Classical.byContradiction this
          have hng := (h5 i hu.1 hs).2 k (by rw [hG3]; exact hk) (by rw [hG3]; exact hal)
          apply Classical.byContradiction
          intro hne
          exact hng (Or.inr ⟨hs.2.1, by rw [hG3]; omega⟩)
        · show muI (Gof M0) M4 0 < muI (Gof M0) M2 1
          have : muI (Gof M0) M4 0 = 0 := by unfold muI; rw [if_pos rfl]
          rw [this]; omega
      · have e358 : M4 358 = M3 358 := s4.cell 358 (by decide) (by decide)
        have e38 : M4 331 38 = M3 331 38 := s4.slot 38 (by decide)
        have e354'' : M4 354 = M1 354 := by rw [s4.cell 354 (by decide) (by decide)]; exact e354'
        have hlo4 : lo M4 = lo M1 := by funext j; unfold lo; rw [e354'']
        rw [hG3] at h4 h5 h6
        have hpk4 : ∀ i k : Nat, M4 353 i = k → pk M4 i = k := fun i k h => by unfold pk; rw [h]; rfl
        have hpks : ∀ i, M4 353 i = M3 353 i → pk M4 i = pk M2 i := fun i h => by unfold pk; rw [h, e3]
        have hwor : ∀ i, sel M3 0 i → imp M3 M4 i → wor (Gof M0) M4 i := fun i hs ⟨k, a, b, c, d⟩ => by
          unfold wor; rw [hpk4 i k d, e358]
          rcases c with ⟨c, _⟩ | ⟨_, c⟩
          · exact absurd hs.2.1 c
          · rw [hG3] at c; exact c
        have hseln : ∀ i, (Gof M0).mx i → ¬ sel M3 0 i := fun i hm hs => by
          rw [← hG3] at hm; exact hm hs.2.1
        have hgood : GoodI (Gof M0) M4 := by
          refine ⟨pk M2, by rw [hlo4, e358, e38]; exact V3, by rw [e38]; exact hc3, fun i hu => ?_, ?_⟩
          · by_cases hs : sel M3 0 i
            · rcases h5 i hu.1 hs with h | h
              · exact Or.inl (hpks i h.1)
              · exact Or.inr (hwor i hs h)
            · exact Or.inl (hpks i (h4 i hu.1 hs))
          · obtain ⟨i, hi, hs, h⟩ := h6
            refine ⟨i, ⟨hi, ?_, ?_⟩, hwor i hs h⟩
            · rw [hlo4, ← hlo3]; exact fun hh => hh (hs.2.2 rfl)
            · intro ht
              have := w.wf.tgc i hi ht
              have := hs.1; rw [hG3] at this; omega
        refine ⟨⟨s03.tr (s4.mono (by decide) (by decide)), pok_imp w3 hp3 s4 (fun i hi => ?_), e354'', fun i hi hm => ?_, Or.inl rfl⟩, ?_⟩
        · rw [hG3] at hi
          by_cases hs : sel M3 0 i
          · rcases h5 i hi hs with h | h
            · exact Or.inl h.1
            · exact Or.inr h
          · exact Or.inl (h4 i hi hs)
        · rw [hpks i (h4 i hi (hseln i hm))]; exact he i hi hm
        · show muI (Gof M0) M4 1 < muI (Gof M0) M2 1
          have : muI (Gof M0) M4 1 = (mv (Gof M0).n (M3 358) (M3 331 38)).toNat + 1 := by
            unfold muI; rw [if_neg (by decide), if_pos hgood, e358, e38]
          rw [this]; exact hmu
theorem sg_71 (post : Int → fm_M → Prop) (thr : String → fm_M → Prop) (M M0 : fm_M) (w : GW M0) (hp0 : pok M0) (hpost : ∀ M', sv sg6 [34, 38] M0 M' → pok M' → vals M' → Sol (Gof M0) (M' 358) (M' 331 38) → post 0 M') : B_Mo_solveGame_71 post thr M0 1 := by
  have hn := w.n8
  refine ⟨fun M' v1 => sv sg6 [34, 38] M0 M' ∧ pok M' ∧ (v1 = 1 ∨ v1 = 0 ∧ vals M' ∧ Sol (Gof M0) (M' 358) (M' 331 38)), fun M' v1 => muO (Gof M0) M' v1, ⟨sv.refl, hp0, Or.inl rfl⟩, ?_⟩
  rintro Ms v1 ⟨ss, hps, hv⟩
  have hv' : v1 = 0 ∨ v1 = 1 := by
    rcases hv with h | ⟨h, _⟩
    · exact Or.inr h
    · exact Or.inl h
  have rv : rg v1 := rg_small (by rcases hv' with e | e <;> rw [e] <;> decide)
  have hGs : Gof Ms = Gof M0 := Gof_same ss (by decide) (by decide) (by decide)
  have ws : GW Ms := GW_same ss (by decide) (by decide) w
  unfold C_Mo_solveGame_71
  refine ⟨rv, fun hz => ?_, fun hz => ?_⟩
  · rcases hv with h | ⟨_, h⟩
    · rw [h] at hz; exact absurd hz (by decide)
    · exact hpost Ms ss hps h.1 h.2
  · have hv1 : v1 = 1 := by
      rcases hv' with e | e
      · exact absurd e hz
      · exact e
    subst hv1
    refine spec_findLost ws hps (fun M1 s1 hb1 hL => ?_)
    obtain ⟨rk, L⟩ := hL
    rw [hGs] at hb1 L
    have s01 : sv sg6 [34, 38] M0 M1 := ss.tr (s1.mono (by decide) (by decide))
    have hG1 : Gof M1 = Gof M0 := Gof_same s01 (by decide) (by decide) (by decide)
    have hpk1 : pk M1 = pk Ms := by funext j; unfold pk; rw [s1.cell 353 (by decide) (by decide)]
    have hp1 : pok M1 := by
      unfold pok; rw [hG1, hpk1, s1.cell 353 (by decide) (by decide), s1.cell 349 (by decide) (by decide), ← hGs]; exact hps
    refine sg_81 post thr _ M0 M1 w s01 hp1 hb1 rk (by rw [hpk1]; exact L) (fun M' s' p' v' sol' => ⟨⟨s', p', Or.inr ⟨rfl, v', sol'⟩⟩, ?_⟩) (fun M' q s' p' g' hlo ok' he' V' hc' => ⟨⟨s', p', Or.inl rfl⟩, ?_⟩)
    · show muO (Gof M0) M' 0 < muO (Gof M0) Ms 1
      have : muO (Gof M0) M' 0 = 0 := by unfold muO; rw [if_pos rfl]
      rw [this]; exact muO_pos _ _ (by decide)
    · show muO (Gof M0) M' 1 < muO (Gof M0) Ms 1
      have e1 : muO (Gof M0) M' 1 = (((Gof M0).n : Int) * LL - mv (Gof M0).n (M' 358) (M' 331 38)).toNat + 1 := by unfold muO; rw [if_neg (by decide), if_pos g']
      rw [e1]
      have L1 : (Gof M0).Lost (pk M1) (lo M1) rk := by rw [hpk1]; exact L
      have hd := L1.dn ok' he'
      have hmb := mv_bd ⟨V'.pos, hc'⟩ (V'.nn w.wf hd)
      unfold muO; rw [if_neg (by decide)]
      split
      · next hg =>
        obtain ⟨p, rks, Ls, okp, Vs, hcs, hos, hsw, i, hi, hm, hcc, hbt⟩ := hg
        have oks : (Gof M0).ok (pk Ms) := by have := hps.ok; rw [hGs] at this; exact this
        rw [hpk1] at he'
        have h7 := Gd.outer w.wf Ls okp L ok' oks he' Vs V' hos hsw
        have h8 := mv_lt (num' := Ms 358) (com' := Ms 331 38) ⟨V'.pos, hc'⟩ ⟨Vs.pos, hcs⟩ h7.1 hi (h7.2 i hi hm hcc hbt)
        omega
      · omega
end Pu_J
section Pu_K
/-- each player has an allowed choice -/
def alw (M : fm_M) : Prop := ∀ i, i < (Gof M).n → 0 < (Gof M).cc i → ∃ k, k < (Gof M).cc i ∧ (Gof M).al i k
theorem spec_solveGame {M : fm_M} (w : GW M) (ha : alw M) {post : Int → fm_M → Prop} {thr : String → fm_M → Prop} (hpost : ∀ M', sv sg6 [34, 38] M M' → vals M' → Sol (Gof M) (M' 358) (M' 331 38) → post 0 M') : wp_Mo_solveGame M post thr := by
  have hn := w.n8
  refine ⟨fun M' v1 => ∃ i : Nat, v1 = i ∧ i ≤ (Gof M).n ∧ sv [353] [] M M' ∧ ∀ j, j < i → 0 < (Gof M).cc j → 0 ≤ M' 353 j ∧ M' 353 j < M 349 j ∧ (Gof M).al j (pk M' j), fun _ v1 => (((Gof M).n : Int) - v1).toNat, ⟨0, rfl, by omega, sv.refl, fun j hj => by omega⟩, ?_⟩
  rintro M1 v1 ⟨i, rfl, hin, hs, h1⟩
  have e20 : M1 331 20 = (Gof M).n := by rw [hs.slot 20 (by decide), hn.1]
  unfold C_Mo_solveGame_2
  rw [e20, Int.toNat_natCast]
  refine ⟨rg_small (by omega), rg_small (by omega), fun h => ?_, fun h => ⟨by omega, fun M2 hM2 => ?_⟩⟩
  · have : i = (Gof M).n := by omega
    subst this
    have hG : Gof M1 = Gof M := Gof_same hs (by decide) (by decide) (by decide)
    have w1 : GW M1 := GW_same hs (by decide) (by decide) w
    refine sg_71 post thr M1 M1 w1 ?_ (fun M' s' _ v' sol' => hpost M' ((hs.mono (by decide) (by decide)).tr s') v' (by rw [← hG]; exact sol'))
    unfold pok
    rw [hG, hs.cell 349 (by decide) (by decide)]; exact h1
  · have hi : i < (Gof M).n := by omega
    have hcc := w.cc' hi
    refine ⟨fun M' v1 => v1 = i ∧ ∃ p : Nat, M' 353 i = p ∧ p ≤ (Gof M).cc i ∧ sv [353] [] M M' ∧ (∀ q, q < p → ¬ (Gof M).al i q) ∧ ∀ j, j < i → 0 < (Gof M).cc j → 0 ≤ M' 353 j ∧ M' 353 j < M 349 j ∧ (Gof M).al j (pk M' j), fun M' v1 => (((Gof M).cc i : Int) - M' 353 i).toNat, ⟨rfl, 0, by rw [hM2, fu_at, if_pos rfl]; rfl, by omega, by rw [hM2]; exact hs.u (by decide) (by decide), fun q hq => by omega, fun j hj => ?_⟩, ?_⟩
    · have : M2 353 j = M1 353 j := by rw [hM2, fu_at, if_neg (by omega)]
      have e2 : pk M2 j = pk M1 j := by unfold pk; rw [this]
      rw [this, e2]; exact h1 j hj
    · rintro M' v1 ⟨rfl, p, hp, hpc, s', hq, h2⟩
      unfold C_Mo_solveGame_17
      rw [Int.toNat_natCast, hp, s'.cell 349 (by decide) (by decide), hcc.1, s'.cell 352 (by decide) (by decide)]
      refine ⟨by omega, rg_small (by omega), rg_small (by omega), fun h3 => ⟨⟨i + 1, by omega, by omega, s', fun j hj hc => ?_⟩, by dsimp only; omega⟩, fun h3 => spec_has (fun hb => ⟨rg_small (by decide), fun h => absurd rfl h, fun _ M3 hM3 => ⟨⟨rfl, p + 1, ?_, by omega, by rw [hM3]; exact s'.u (by decide) (by decide), fun q hq2 => ?_, fun j hj hc => ?_⟩, ?_⟩⟩) (fun hb => ⟨rg_small (by decide), fun _ => ⟨⟨i + 1, by omega, by omega, s', fun j hj hc => ?_⟩, by dsimp only; omega⟩, fun h => absurd h (by decide)⟩)⟩
      · by_cases e : j = i
        · subst e
          obtain ⟨k, a, b⟩ := ha j hi hc
          exact absurd b (hq k (by omega))
        · exact h2 j (by omega) hc
      · rw [hM3, fu_at, if_pos rfl, hp]; rfl
      · by_cases e : q = p
        · subst e; exact hb
        · exact hq q (by omega)
      · have : M3 353 j = M' 353 j := by rw [hM3, fu_at, if_neg (by omega)]
        have e2 : pk M3 j = pk M' j := by unfold pk; rw [this]
        rw [this, e2]; exact h2 j hj hc
      · have : M3 353 i = p + 1 := by rw [hM3, fu_at, if_pos rfl, hp]
        dsimp only; rw [this, hp]; omega
      · by_cases e : j = i
        · subst e
          have : pk M' j = p := by unfold pk; rw [hp]; rfl
          rw [this, hp, hcc.1]; exact ⟨by omega, by omega, hb⟩
        · exact h2 j (by omega) hc
theorem spec_divisor {M : fm_M} {a b : Int} (ha : 0 ≤ a ∧ a ≤ 429981696) (hb : 0 < b ∧ b ≤ 429981696) {post : Int → fm_M → Prop} {thr : String → fm_M → Prop} (hp : ∀ d : Int, 0 < d → d ≤ 429981696 → d = (Nat.gcd a.toNat b.toNat : Nat) → post d M) : wp_Mo_divisor M a b post thr := by
  refine ⟨fun M' v4 v6 => M' = M ∧ 0 ≤ v4 ∧ v4 ≤ 429981696 ∧ 0 ≤ v6 ∧ v6 ≤ 429981696 ∧ (0 < v4 ∨ 0 < v6) ∧ Nat.gcd v4.toNat v6.toNat = Nat.gcd a.toNat b.toNat, fun _ _ v6 => v6.toNat, ⟨rfl, ha.1, ha.2, by omega, hb.2, Or.inr hb.1, rfl⟩, ?_⟩
  rintro M' v4 v6 ⟨rfl, h1, h2, h3, h4, h5, h6⟩
  unfold C_Mo_divisor_6
  refine ⟨⟨by omega, by omega⟩, fun h => ?_, fun h => ?_⟩
  · have : v6 = 0 := by
      unfold jcmp at h
      split at h
      · omega
      · split at h <;> omega
    refine hp v4 (by omega) h2 ?_
    rw [← h6, this]
    show v4 = (Nat.gcd v4.toNat 0 : Nat)
    rw [Nat.gcd_zero_right]; omega
  · have hne : v6 ≠ 0 := fun e => h (by rw [e]; decide)
    have e1 : v4 - v4.tdiv v6 * v6 = v4.tmod v6 := by
      have := Int.mul_tdiv_add_tmod v4 v6
      rw [Int.mul_comm] at this; omega
    have e2 : v4.tmod v6 = v4 % v6 := Int.tmod_eq_emod_of_nonneg h1
    have e3 := Int.emod_nonneg v4 hne
    have e4 := Int.emod_lt_of_pos v4 (show 0 < v6 by omega)
    refine ⟨⟨by omega, by omega⟩, hne, ⟨rfl, by omega, by omega, ?_, ?_, Or.inl (by omega), ?_⟩, ?_⟩
    · rw [e1, e2]; exact e3
    · rw [e1, e2]; omega
    · rw [e1, e2, Int.toNat_emod h1 h3, Nat.gcd_comm, ← Nat.gcd_rec, Nat.gcd_comm]; exact h6
    · dsimp only; rw [e1, e2]; omega
theorem rl_p2 {a b : Int} (ha : 0 ≤ a ∧ a ≤ 429981696) (hb : 0 ≤ b ∧ b ≤ 429981696) : rl (a * b) := by
  have h1 := Int.mul_nonneg ha.1 hb.1
  have h2 : a * b ≤ 429981696 * 429981696 := Int.mul_le_mul ha.2 hb.2 hb.1 (by decide)
  exact ⟨by omega, by omega⟩
/-- what was found is in range -/
def hlb (M : fm_M) : Prop := ∀ i, i < (Gof M).n → (0 ≤ M 359 i ∧ M 359 i ≤ 429981696) ∧ (0 ≤ M 360 i ∧ M 360 i ≤ 429981696)
theorem spec_isKept {M : fm_M} (w : GW M) (hv : vals M) (hh : hlb M) {post : Int → fm_M → Prop} {thr : String → fm_M → Prop} (h0 : post 0 M) (h1 : post 1 M) : wp_Mo_isKept M post thr := by
  have hn := w.n8
  obtain ⟨q1, q2, q3⟩ := hv
  refine ⟨fun M' v1 v2 => M' = M ∧ (v1 = 0 ∨ v1 = 1) ∧ ∃ i : Nat, v2 = i ∧ i ≤ (Gof M).n, fun _ _ v2 => (((Gof M).n : Int) - v2).toNat, ⟨rfl, Or.inr rfl, 0, rfl, by omega⟩, ?_⟩
  rintro M' v1 v2 ⟨rfl, hv1, i, rfl, hi⟩
  have rv : rg v1 := rg_small (by rcases hv1 with e | e <;> rw [e] <;> decide)
  unfold C_Mo_isKept_4
  rw [← hn.1, Int.toNat_natCast]
  refine ⟨rg_small (by omega), rg_small (by omega), fun h => ⟨hv1, ?_⟩, fun h => ⟨rv, fun hz => ⟨⟨rfl, Or.inl rfl, i + 1, by omega, by omega⟩, by dsimp only; omega⟩, fun hz => ⟨by omega, ?_⟩⟩⟩
  · rcases hv1 with e | e <;> rw [e] <;> assumption
  · have a := q3 i (by omega)
    have b := hh i (by omega)
    exact ⟨rl_p2 (by omega) b.2, rl_p2 b.1 (by omega), fun _ => ⟨⟨rfl, Or.inl rfl, i + 1, by omega, by omega⟩, by dsimp only; omega⟩, fun _ => ⟨⟨rfl, Or.inr rfl, i + 1, by omega, by omega⟩, by dsimp only; omega⟩⟩
theorem bit_all : ∀ c : Fin 11, ∀ k : Fin 11, k.1 < c.1 → jand (jshr (jshl 1 (c.1 : Int) - 1) (k.1 : Int)) 1 = 1 := by decide
theorem bit_one : ∀ k : Fin 11, jand (jshr (jshl 1 (k.1 : Int)) (k.1 : Int)) 1 = 1 := by decide
/-- every choice is allowed -/
def ala (M : fm_M) : Prop := ∀ i, i < (Gof M).n → ∀ k, k < (Gof M).cc i → (Gof M).al i k
theorem spec_allowAll {M : fm_M} (w : GW M) {post : Int → fm_M → Prop} {thr : String → fm_M → Prop} (hp : ∀ M', sv [352] [] M M' → alw M' → ala M' → post 0 M') : wp_Mo_allowAll M post thr := by
  have hn := w.n8
  refine ⟨fun M' v1 => ∃ i : Nat, v1 = i ∧ i ≤ (Gof M).n ∧ sv [352] [] M M' ∧ ∀ j, j < i → M' 352 j = jshl 1 (M 349 j) - 1, fun _ v1 => (((Gof M).n : Int) - v1).toNat, ⟨0, rfl, by omega, sv.refl, fun j hj => by omega⟩, ?_⟩
  rintro M1 v1 ⟨i, rfl, hin, hs, h1⟩
  have e20 : M1 331 20 = (Gof M).n := by rw [hs.slot 20 (by decide), hn.1]
  unfold C_Mo_allowAll_2
  rw [e20, Int.toNat_natCast]
  refine ⟨rg_small (by omega), rg_small (by omega), fun h => ?_, fun h => ⟨by omega, fun M2 hM2 => ⟨⟨i + 1, by omega, by omega, by rw [hM2]; exact hs.u (by decide) (by decide), fun j hj => ?_⟩, by dsimp only; omega⟩⟩⟩
  · have : i = (Gof M).n := by omega
    subst this
    have al1 : ala M1 := fun j hj k hk => by
      have en : (Gof M1).n = (Gof M).n := by show (M1 331 20).toNat = _; rw [e20]; rfl
      have ec : (Gof M1).cc j = (Gof M).cc j := by show (M1 349 j).toNat = (M 349 j).toNat; rw [hs.cell 349 (by decide) (by decide)]
      rw [en] at hj
      rw [ec] at hk
      have hcc := w.cc' hj
      show jand (jshr (M1 352 j) (k : Int)) 1 = 1
      rw [h1 j hj, hcc.1]
      exact bit_all ⟨(Gof M).cc j, by omega⟩ ⟨k, by omega⟩ hk
    exact hp M1 hs (fun j hj hc => ⟨0, hc, al1 j hj 0 hc⟩) al1
  · rw [hM2, fu_at]
    by_cases e : j = i
    · rw [if_pos e, e, hs.cell 349 (by decide) (by decide)]
    · rw [if_neg e]; exact h1 j (by omega)
/-- the game but for what is allowed -/
theorem GW_al {M M' : fm_M} {cs bs : List Nat} (h : sv cs bs M M') (hc : ∀ a ∈ gcs, a ∉ cs) (hb : 6 ∉ bs ∧ 20 ∉ bs) : (Gof M').n = (Gof M).n ∧ (Gof M').cc = (Gof M).cc := by
  constructor
  · show (M' 331 20).toNat = (M 331 20).toNat; rw [h.slot 20 hb.2]
  · funext i; show (M' 349 i).toNat = (M 349 i).toNat; rw [h.cell 349 (hc 349 (by decide)) (by decide)]
abbrev fb : List Nat := [352, 353, 354, 355, 356, 357, 358, 361]
theorem spec_findBest {M : fm_M} (w : GW M) (hh : hlb M) {a : Int} (ha : a = 0 ∨ a = 1) {post : Int → fm_M → Prop} {thr : String → fm_M → Prop} (hp : ∀ M', sv fb [34, 38] M M' → post 0 M') : wp_Mo_findBest M a post thr := by
  have hn := w.n8
  unfold wp_Mo_findBest
  refine spec_allowAll w (fun M0 s0 a0 _ => ?_)
  have same : ∀ M', sv fb [34, 38] M M' → GW M' ∧ (Gof M').n = (Gof M).n ∧ (Gof M').cc = (Gof M).cc ∧ hlb M' := fun M' s => by
    have h1 := GW_al s (by decide) (by decide)
    refine ⟨GW_same s (by decide) (by decide) w, h1.1, h1.2, ?_⟩
    unfold hlb; rw [h1.1, s.cell 359 (by decide) (by decide), s.cell 360 (by decide) (by decide)]; exact hh
  have ra : rg a := rg_small (by rcases ha with e | e <;> rw [e] <;> decide)
  refine ⟨fun M' v2 => ∃ i : Nat, v2 = i ∧ i ≤ (Gof M).n ∧ sv fb [34, 38] M M' ∧ alw M', fun _ v2 => (((Gof M).n : Int) - v2).toNat, ⟨0, rfl, by omega, s0.mono (by decide) (by decide), a0⟩, ?_⟩
  rintro M1 v2 ⟨i, rfl, hin, s1, a1⟩
  obtain ⟨w1, en, ec, h1⟩ := same M1 s1
  have e20 : M1 331 20 = (Gof M).n := by rw [s1.slot 20 (by decide), hn.1]
  unfold C_Mo_findBest_6
  rw [e20, Int.toNat_natCast]
  refine ⟨rg_small (by omega), rg_small (by omega), fun h => hp M1 s1, fun h => ⟨by omega, ?_⟩⟩
  have hi : i < (Gof M).n := by omega
  have hcc := w1.cc' (i := i) (by rw [en]; exact hi)
  rw [ec] at hcc
  have hm := w1.mx i (by rw [en]; exact hi)
  have rm : rg (M1 347 i) := rg_small (by rcases hm with e | e <;> rw [e] <;> decide)
  have skip : (∃ i_1 : Nat, ((i : Int) + 1) = i_1 ∧ i_1 ≤ (Gof M).n ∧ sv fb [34, 38] M M1 ∧ alw M1) ∧ (((Gof M).n : Int) - ((i : Int) + 1)).toNat < (((Gof M).n : Int) - (i : Int)).toNat := ⟨⟨i + 1, by omega, by omega, s1, a1⟩, by omega⟩
  rw [hcc.1]
  refine ⟨rg_small (by omega), fun _ => skip, fun h2 => ⟨rm, ra, fun _ => skip, fun _ => ?_⟩⟩
  refine ⟨fun M' v2 v3 v4 => v2 = i ∧ (v4 = 0 ∨ v4 = 1) ∧ (∃ k : Nat, v3 + 1 = k ∧ k ≤ (Gof M).cc i ∧ (v4 = 1 → 1 ≤ k)) ∧ sv fb [34, 38] M M' ∧ alw M', fun _ _ v3 _ => (((Gof M).cc i : Int) - v3).toNat, ⟨rfl, Or.inl rfl, ⟨0, rfl, by omega, fun h => absurd h (by decide)⟩, s1, a1⟩, ?_⟩
  rintro M2 v2 v3 v4 ⟨rfl, hv4, ⟨k, hk, hkc, hk1⟩, s2, a2⟩
  obtain ⟨w2, en2, ec2, h22⟩ := same M2 s2
  have e349 : M2 349 i = (Gof M).cc i := by
    have := (w2.cc' (i := i) (by rw [en2]; exact hi)).1; rw [ec2] at this; exact this
  have rv4 : rg v4 := rg_small (by rcases hv4 with e | e <;> rw [e] <;> decide)
  have fin : 1 ≤ k → B_Mo_findBest_80 a post thr (fun M'_1 v2' => (∃ i : Nat, v2' = i ∧ i ≤ (Gof M).n ∧ sv fb [34, 38] M M'_1 ∧ alw M'_1) ∧ (((Gof M).n : Int) - v2').toNat < (((Gof M).n : Int) - (i : Int)).toNat) M2 i v3 := by
    intro hk2
    refine ⟨by omega, by omega, fun M3 hM3 => ⟨⟨i + 1, by omega, by omega, by rw [hM3]; exact s2.u (by decide) (by decide), ?_⟩, by omega⟩⟩
    have : Gof M3 = Gof M2 := Gof_same (cs := [361]) (bs := []) (by rw [hM3]; exact sv.refl.u (by decide) (by decide)) (by decide) (by decide) (by decide)
    unfold alw; rw [this]; exact a2
  unfold C_Mo_findBest_38
  rw [Int.toNat_natCast, e349]
  refine ⟨rv4, fun hz => fin (hk1 (by rcases hv4 with e | e; exact absurd e hz; exact e)), fun hz => ⟨by omega, rg_small (by omega), rg_small (by omega), fun h3 => fin (by omega), fun h3 M3 hM3 => ?_⟩⟩
  have s3 : sv fb [34, 38] M M3 := by rw [hM3]; exact s2.u (by decide) (by decide)
  obtain ⟨w3, en3, ec3, h33⟩ := same M3 s3
  have a3 : alw M3 := by
    intro j hj hc
    rw [en3] at hj
    rw [ec3] at hc ⊢
    by_cases e : j = i
    · subst e
      refine ⟨k, by omega, ?_⟩
      show jand (jshr (M3 352 j) (k : Int)) 1 = 1
      rw [hM3, fu_at, if_pos rfl, hk]
      exact bit_one ⟨k, by omega⟩
    · obtain ⟨q, b1, b2⟩ := a2 j (by rw [en2]; exact hj) (by rw [ec2]; exact hc)
      rw [ec2] at b1
      refine ⟨q, b1, ?_⟩
      show jand (jshr (M3 352 j) (q : Int)) 1 = 1
      rw [hM3, fu_at, if_neg e]; exact b2
  refine spec_solveGame w3 a3 (fun M4 s4 v4' sol4 => ?_)
  have s34 : sv fb [34, 38] M M4 := s3.tr (s4.mono (by decide) (by decide))
  obtain ⟨w4, en4, ec4, h44⟩ := same M4 s34
  have a4 : alw M4 := by
    have : Gof M4 = Gof M3 := Gof_same s4 (by decide) (by decide) (by decide)
    unfold alw; rw [this]; exact a3
  exact spec_isKept w4 v4' h44 ⟨⟨rfl, Or.inl rfl, ⟨k + 1, by omega, by omega, fun _ => by omega⟩, s34, a4⟩, by dsimp only; omega⟩ ⟨⟨rfl, Or.inr rfl, ⟨k + 1, by omega, by omega, fun _ => by omega⟩, s34, a4⟩, by dsimp only; omega⟩
end Pu_K
