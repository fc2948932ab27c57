set_option maxRecDepth 10000
section Pu_Oz
/-! The reference's game is the one that was found. -/
theorem YG_of {Y : Ga} {G : Nat} {M : fm_M} (hy : RY Y G M) (gw : gwf M) (rb : RB M) (hG : M 331 6 = G) (hG1 : G ≤ 1) : YG Y := fun c hc => by
  have hC := hy.w.c10
  unfold gwf at gw
  rw [hG, Int.toNat_natCast] at gw
  have g := gw c (by rw [hy.c]; omega)
  have nb := hy.nb c hc
  have h338 := rb.g 338 20 0 6 (by decide) (x := 10 * G + c) (by omega)
  refine ⟨by omega, fun b hb => ?_, ?_⟩
  · rw [← hy.wt c b hc hb]; exact g.2.1 b (by omega)
  · have e : sm (Y.nb c) (Y.wt c) = M 338 (10 * G + c) := by
      rw [g.2.2, nb, Int.toNat_natCast]
      exact sm_congr (fun b hb => (hy.wt c b hc hb).symm)
    omega
theorem RBt_352 : ∀ q ∈ RBt, q.1 ≠ 352 := by decide
theorem EX.al {M M' : fm_M} {P : Nat → Nat → Nat → Prop} (h : EX M P) (s : sv [352] [] M M') : EX M' P := by
  have e : ∀ a, a ≠ 352 → M' a = M a := fun a ha => by
    by_cases h1 : a = 331
    · rw [h1]; funext b; exact s.slot b (by simp)
    · exact s.cell a (by simp; exact ha) h1
  have en : (Gof M').n = (Gof M).n := by show (M' 331 20).toNat = (M 331 20).toNat; rw [e 331 (by decide)]
  have ec : (Gof M').cc = (Gof M).cc := by funext i; show (M' 349 i).toNat = (M 349 i).toNat; rw [e 349 (by decide)]
  have eb : (Gof M').nb = (Gof M).nb := by
    funext i k; show (M' 337 (gi M' i k)).toNat = (M 337 (gi M i k)).toNat
    unfold gi; rw [e 337 (by decide), e 331 (by decide), e 348 (by decide)]
  refine ⟨fun q hq x hx => ?_, by rw [e 331 (by decide)]; exact h.hg, by rw [e 331 (by decide)]; exact h.hn, ?_, ?_, fun j k b hj hk hb hP => ?_⟩
  · rw [e q.1 (RBt_352 q hq)]; exact h.rb q hq x hx
  · rw [en, ec, e 348 (by decide), e 335 (by decide), e 331 (by decide)]; exact h.cm
  · rw [en, e 346 (by decide), e 349 (by decide)]; exact h.tgc
  · rw [en] at hj; rw [ec] at hk; rw [eb] at hb
    obtain ⟨t1, t2, t3⟩ := h.to j k b hj hk hb hP
    exact ⟨by rw [e 350 (by decide)]; exact t1, by rw [e 350 (by decide), e 331 (by decide)]; exact t2, ldq_cell (fun a ha => e a (by omega)) (by rw [e 331 (by decide)]) t3⟩
theorem Cor_of {Y : Ga} {G : Nat} {M : fm_M} (hy : RY Y G M) (hG : M 331 6 = G) (hG1 : G ≤ 1) {X : Xs} {lk : Nat} (F : RF Y X lk M) (hl : X.1 ≤ lk) (E : EX M (fun j _ _ => j < (Gof M).n)) (D : dst X) (al : ala M) : Cor (Gof M) (HG Y X) := by
  have hn := F.n
  have h8 := F.n8
  have hC := hy.w.c10
  have en : (Gof M).n = X.1 := by show (M 331 20).toNat = X.1; omega
  have cn : ∀ i, i < X.1 → (Gof M).cc i = ec Y (X.2 i) Y.C := fun i hi => by
    show (M 349 i).toNat = _
    rw [F.cn i hi (by omega)]; rfl
  have key : ∀ i c, i < X.1 → c < Y.C → ene Y (X.2 i) c = true → ec Y (X.2 i) c < (Gof M).cc i ∧ (Gof M).wo i (ec Y (X.2 i) c) = (HG Y X).wo i c ∧ ∀ h, (Gof M).S i (ec Y (X.2 i) c) h = (HG Y X).S i c h := fun i c hi hc he => by
    have hk : ec Y (X.2 i) c < (Gof M).cc i := by rw [cn i hi]; exact ec_lt hc he
    have hch := F.ch i hi (by omega) c hc he
    generalize hkk : ec Y (X.2 i) c = k at hk hch ⊢
    have hgi : gi M i k = 10 * G + c := by unfold gi; rw [hG, hch]; omega
    have enb : (Gof M).nb i k = Y.nb c := by
      show (M 337 (gi M i k)).toNat = _
      rw [hgi, hy.nb c hc]; rfl
    have n4 := hy.w.nb4 c
    have ewt : ∀ b, b < Y.nb c → (Gof M).wt i k b = Y.wt c b := fun b hb => by
      show M 339 (4 * gi M i k + b) = _
      rw [hgi]; exact hy.wt c b hc hb
    have eto : ∀ b, b < Y.nb c → (Gof M).to i k b = tov Y X i c b := fun b hb => by
      obtain ⟨t1, t2, t3⟩ := E.to i k b (by rw [en]; exact hi) hk (by rw [enb]; exact hb) (by rw [en]; exact hi)
      refine (tov_eq D (j := (M 350 (40 * i + 4 * k + b)).toNat) (by omega) ?_).symm
      have v : ∀ v, v < 3 → X.2 (M 350 (40 * i + 4 * k + b)).toNat v = Y.nx c b (X.2 i) v := fun v hv => by
        have q := t3 v hv
        rw [hch, hG, Int.toNat_natCast, Int.toNat_natCast, rnx_c E.rb hG1 (by omega) (by omega) hv (r := rho M i) (r' := X.2 i) (fun w hw => F.st i w hi hw), hy.nx c b hc hb _ (F.ok i hi) v hv] at q
        rw [← q]
        exact (F.st _ v (by omega) hv).symm
      exact ⟨v 0 (by omega), v 1 (by omega), v 2 (by omega)⟩
    refine ⟨hk, ?_, fun h => ?_⟩
    · show sm ((Gof M).nb i k) ((Gof M).wt i k) = sm (Y.nb c) (Y.wt c)
      rw [enb]; exact sm_congr ewt
    · show sm ((Gof M).nb i k) (fun b => (Gof M).wt i k b * h ((Gof M).to i k b)) = sm (Y.nb c) (fun b => Y.wt c b * h (tov Y X i c b))
      rw [enb]; exact sm_congr (fun b hb => by rw [ewt b hb, eto b hb])
  refine ⟨en, fun i hi => ?_, fun i hi => ?_, fun i k hi hk ha => ?_, fun i c hi hc ha => ?_⟩
  · rw [en] at hi
    show (M 346 i ≠ 0) ↔ (Y.tg (X.2 i) = true)
    rw [F.tg i hi]
    by_cases e : Y.tg (X.2 i) = true
    · rw [if_pos e]; exact ⟨fun _ => e, fun _ => by decide⟩
    · rw [if_neg e]; exact ⟨fun h => absurd rfl h, fun h => absurd h e⟩
  · rw [en] at hi
    show (M 347 i ≠ 0) ↔ omx Y (X.2 i)
    have h01 := E.rb.g 347 8 0 1 (by decide) (x := i) (by omega)
    rw [← F.mx i hi (by omega)]
    omega
  · rw [en] at hi
    rw [cn i hi] at hk
    obtain ⟨c, c1, c2, c3⟩ := ec_su hk
    obtain ⟨k1, k2, k3⟩ := key i c hi c1 c2
    rw [c3] at k2 k3
    exact ⟨c, by rw [HG_cc ⟨c, c1, c2⟩]; exact c1, c2, k2, k3⟩
  · rw [en] at hi
    have c1 := HG_lt hc
    have c2 : ene Y (X.2 i) c = true := ha
    obtain ⟨k1, k2, k3⟩ := key i c hi c1 c2
    exact ⟨_, k1, al i (by rw [en]; exact hi) _ k1, k2, k3⟩
/-- fractions in lowest terms, up to state i -/
def fq (M : fm_M) (i : Nat) (M' : fm_M) : Prop := ∀ j, j < i → M' 359 j = (((M 358 j).toNat / Nat.gcd (M 358 j).toNat (M 331 38).toNat : Nat) : Int) ∧ M' 360 j = (((M 331 38).toNat / Nat.gcd (M 358 j).toNat (M 331 38).toNat : Nat) : Int)
end Pu_Oz
section Pu_O2
abbrev slv : List Nat := [345, 346, 347, 348, 349, 350, 351, 352, 353, 354, 355, 356, 357, 358, 359, 360, 361]
/-- what stays of the search when values are sought -/
theorem EX0.keep {M M' : fm_M} {cs bs : List Nat} (h : EX0 M) (s : sv cs bs M M') (hc : ∀ q ∈ RBt, q.1 ∉ cs) (hb : 6 ∉ bs ∧ 20 ∉ bs) : EX0 M' := by
  have e : ∀ q ∈ RBt, M' q.1 = M q.1 := fun q hq => s.cell q.1 (hc q hq) (by revert hq; revert q; decide)
  have rb : RB M' := fun q hq x hx => by rw [e q hq]; exact h.rb q hq x hx
  have c346 : M' 346 = M 346 := e (346, 8, 0, 1) (by decide)
  have c347 : M' 347 = M 347 := e (347, 8, 0, 1) (by decide)
  have c348 : M' 348 = M 348 := e (348, 80, 0, 9) (by decide)
  have c349 : M' 349 = M 349 := e (349, 8, 0, 10) (by decide)
  have c335 : M' 335 = M 335 := e (335, 2, 0, 10) (by decide)
  have e6 := s.slot 6 hb.1
  have e20 := s.slot 20 hb.2
  have en : (Gof M').n = (Gof M).n := by show (M' 331 20).toNat = (M 331 20).toNat; rw [e20]
  have ec : (Gof M').cc = (Gof M).cc := by funext j; show (M' 349 j).toNat = (M 349 j).toNat; rw [c349]
  refine ⟨rb, by rw [e6]; exact h.hg, by rw [e20]; exact h.hn, ?_, ?_, fun _ _ _ _ _ _ hF => hF.elim⟩
  · rw [en, ec, c348, c335, e6]; exact h.cm
  · rw [en, c346, c349]; exact h.tgc
theorem RR.same {Y : Ga} {r : Int} {M M' : fm_M} (h : RR Y r M) (e20 : M' 331 20 = M 331 20) (e21 : M' 331 21 = M 331 21) (e : ∀ a, 345 ≤ a → a ≤ 349 → M' a = M a) : RR Y r M' := ⟨h.1.same e20 e, by rw [e21]; exact h.2.1, h.2.2⟩
theorem spec_moSolve {M : fm_M} (h : RB M) (hg : M 331 6 = -1 ∨ ((M 331 6 = 0 ∨ M 331 6 = 1) ∧ gwf M)) {Y : Ga} (hy : M 331 6 = 0 ∨ M 331 6 = 1 → RY Y (M 331 6).toNat M) {post : Int → fm_M → Prop} {thr : String → fm_M → Prop}
    (h0 : ∀ M', M 331 6 = -1 → M' 331 0 = 1 → sv [] [0] M M' → RB M' → post 0 M') (h1 : ∀ r M', (M 331 6 = 0 ∨ M 331 6 = 1) → M' 331 0 = 0 → RR Y r M' → (0 ≤ r ↔ M' 331 22 = 1) → sv slv [0, 20, 21, 22, 34, 38] M M' → EX0 M' → (M' 331 22 = 0 ∨ M' 331 22 = 1) → (0 ≤ r → VY Y (M' 359) (M' 360)) → post r M') : wp_Mo_solve M post thr := by
  unfold wp_Mo_solve
  refine ⟨rg_small (by omega), fun hge => ?_, fun hlt => ?_⟩
  · have hg01 : M 331 6 = 0 ∨ M 331 6 = 1 := by omega
    have gw0 : gwf M := by rcases hg with e | e; omega; exact e.2
    intro M1 e1
    have a1 : M1 331 0 = 0 := by rw [e1, fu_at, if_pos rfl]
    rw [a1]
    refine ⟨rg_small (by decide), fun _ M2 e2 => ?_, fun h => absurd (Int.le_refl 0) h⟩
    have s2 : sv slv [0, 20, 21, 22, 34, 38] M M2 := by rw [e2, e1]; exact (sv.refl.us (by decide)).us (by decide)
    have rb2 : RB M2 := by rw [e2, e1]; exact (h.o (by decide) _ _).o (by decide) _ _
    have g2 : M2 331 6 = M 331 6 := s2.slot 6 (by decide)
    have f2 : M2 331 22 = 0 := by rw [e2, fu_at, if_pos rfl]
    have th2 : M2 331 0 = 0 := by rw [e2, fu_at, if_neg (by decide)]; exact a1
    refine spec_explore rb2 (by rw [g2]; exact hg01) (Y := Y) (by rw [g2]; exact (hy hg01).same (fun a h1 h2 => s2.cell a (by simp; omega) (by omega))) (fun r M3 hr R3 s3 E3 => ⟨rg_small (by omega), fun h => by omega, fun _ => h1 r M3 hg01 (by rw [s3.slot 0 (by decide)]; exact th2) R3 (by rw [s3.slot 22 (by decide), f2]; exact ⟨fun hh => by omega, fun hh => absurd hh (by decide)⟩) (s2.tr (s3.mono (by decide) (by decide))) E3 (by rw [s3.slot 22 (by decide), f2]; exact Or.inl rfl) (fun hh => by omega)⟩) (fun r M3 hr R3 s3 E3 => ⟨rg_small (by omega), fun _ => ?_, fun h => by omega⟩)
    have s03 : sv slv [0, 20, 21, 22, 34, 38] M M3 := s2.tr (s3.mono (by decide) (by decide))
    have gw3 : gwf M3 := by
      unfold gwf; rw [s03.slot 6 (by decide), s03.cell 335 (by decide) (by decide), s03.cell 337 (by decide) (by decide), s03.cell 338 (by decide) (by decide), s03.cell 339 (by decide) (by decide)]; exact gw0
    have w3 : GW M3 := E3.gw gw3
    have E30 : EX0 M3 := E3.mono (fun _ _ _ hF => hF.elim)
    refine spec_allowAll w3 (fun M4 s4 a4 al4 => ?_)
    obtain ⟨G, hG, hG1⟩ : ∃ G : Nat, M4 331 6 = G ∧ G ≤ 1 := by
      have e : M4 331 6 = M 331 6 := by rw [s4.slot 6 (by decide), s03.slot 6 (by decide)]
      exact ⟨(M 331 6).toNat, by omega, by omega⟩
    have C4 : Cor (Gof M4) (HG Y (SR Y).1) := by
      have e6 : (M 331 6).toNat = G := by
        have e : M4 331 6 = M 331 6 := by rw [s4.slot 6 (by decide), s03.slot 6 (by decide)]
        omega
      have hy4 : RY Y G M4 := by
        have h := (hy hg01).same (M' := M4) (fun a h1 h2 => by rw [s4.cell a (by simp; omega) (by omega), s03.cell a (by simp; omega) (by omega)])
        rw [e6] at h; exact h
      refine Cor_of hy4 hG hG1 (R3.1.same (s4.slot 20 (by decide)) (fun a h1 h2 => s4.cell a (by simp; omega) (by omega))) (SR_lk (by rw [← R3.2.2]; exact hr.1)).1 ?_ (SR_ok Y).1 al4
      have n4 : (Gof M4).n = (Gof M3).n := by show (M4 331 20).toNat = (M3 331 20).toNat; rw [s4.slot 20 (by decide)]
      rw [n4]
      exact E3.al s4
    have w4 : GW M4 := GW_same s4 (by decide) (by decide) w3
    refine spec_solveGame w4 a4 (fun M5 s5 v5 sol5 => ?_)
    have s35 : sv [352, 353, 354, 355, 356, 357, 358, 359, 360, 361] [22, 34, 38] M3 M5 := (s4.mono (by decide) (by decide)).tr (s5.mono (by decide) (by decide))
    have w5 : GW M5 := GW_same s5 (by decide) (by decide) w4
    have hn := w5.n8
    obtain ⟨v5a, v5b, v5c⟩ := v5
    refine ⟨fun M' v1 v2 => v1 = r ∧ ∃ i : Nat, v2 = i ∧ i ≤ (Gof M5).n ∧ sv [359, 360, 361] [] M5 M' ∧ (∀ j, j < i → (0 ≤ M' 359 j ∧ M' 359 j ≤ 429981696) ∧ (0 ≤ M' 360 j ∧ M' 360 j ≤ 429981696)) ∧ fq M5 i M', fun _ _ v2 => (((Gof M5).n : Int) - v2).toNat, ⟨rfl, 0, rfl, by omega, sv.refl, fun j hj => by omega, fun j hj => by omega⟩, ?_⟩
    rintro M6 v1 v2 ⟨rfl, i, rfl, hi, s6, b6, q6⟩
    have e20 : M6 331 20 = (Gof M5).n := by rw [s6.slot 20 (by decide), hn.1]
    have w6 : GW M6 := GW_same s6 (by decide) (by decide) w5
    have hG6 : Gof M6 = Gof M5 := Gof_same s6 (by decide) (by decide) (by decide)
    unfold C_Mo_solve_51
    rw [e20, Int.toNat_natCast]
    refine ⟨rg_small (by omega), rg_small (by omega), fun h3 => ?_, fun h3 => ⟨by omega, ?_⟩⟩
    · have hlb6 : hlb M6 := by
        unfold hlb; rw [hG6]; exact fun j hj => b6 j (by omega)
      refine spec_findBest w6 hlb6 (Or.inr rfl) (fun M7 s7 => ?_)
      have w7 : GW M7 := GW_same s7 (by decide) (by decide) w6
      have n7 := (GW_al s7 (by decide) (by decide)).1
      have hlb7 : hlb M7 := by
        unfold hlb; rw [n7, s7.cell 359 (by decide) (by decide), s7.cell 360 (by decide) (by decide)]; exact hlb6
      refine spec_findBest w7 hlb7 (Or.inl rfl) (fun M8 s8 M9 e9 => ?_)
      have s39 : sv [352, 353, 354, 355, 356, 357, 358, 359, 360, 361] [22, 34, 38] M3 M9 := by
        rw [e9]
        exact (((s35.tr (s6.mono (by decide) (by decide))).tr (s7.mono (by decide) (by decide))).tr (s8.mono (by decide) (by decide))).us (by decide)
      exact h1 v1 M9 hg01 (by rw [s39.slot 0 (by decide), s3.slot 0 (by decide)]; exact th2) (R3.same (s39.slot 20 (by decide)) (s39.slot 21 (by decide)) (fun a h1 h2 => s39.cell a (by simp; omega) (by omega))) (by rw [e9, fu_at, if_pos rfl]; exact ⟨fun _ => rfl, fun _ => hr.1⟩) (s03.tr (s39.mono (by decide) (by decide))) (E30.keep s39 (by decide) (by decide)) (Or.inr (by rw [e9, fu_at, if_pos rfl])) (fun _ => by
        have n45 : (Gof M4).n = (Gof M5).n := by show (M4 331 20).toNat = (M5 331 20).toNat; rw [s5.slot 20 (by decide)]
        have e9c : ∀ a, a ≠ 331 → M9 a = M8 a := fun a ha => by rw [e9]; exact fu_off _ _ _ ha
        refine ⟨Gof M4, M5 358, M5 331 38, w4.wf, C4, sol5, fun j hj => (v5c j (by rw [← n45]; exact hj)).1, v5a, fun j hj => ?_⟩
        have hj5 : j < i := by rw [n45] at hj; omega
        rw [e9c 359 (by decide), e9c 360 (by decide), s8.cell 359 (by decide) (by decide), s8.cell 360 (by decide) (by decide), s7.cell 359 (by decide) (by decide), s7.cell 360 (by decide) (by decide)]
        exact q6 j hj5)
    · have hi' : i < (Gof M5).n := by omega
      have hv := v5c i hi'
      rw [s6.cell 358 (by decide) (by decide), s6.slot 38 (by decide)]
      refine spec_divisor ⟨hv.1, by omega⟩ ⟨v5a, v5b⟩ (fun d hd hd2 hd3 => ?_)
      rw [s6.cell 358 (by decide) (by decide)]
      refine ⟨⟨by omega, by omega⟩, ⟨by omega, by omega⟩, by omega, fun M7 e7 => ?_⟩
      have e38 : M7 331 38 = M5 331 38 := by rw [e7, fu_off _ _ _ (by decide), s6.slot 38 (by decide)]
      rw [e38]
      refine ⟨⟨by omega, by omega⟩, fun M8 e8 M9 e9 => ⟨⟨rfl, i + 1, by omega, by omega, ?_, fun j hj => ?_, fun j hj => ?_⟩, by dsimp only; omega⟩⟩
      · rw [e9, e8, e7]; exact ((s6.u (by decide) (by decide)).u (by decide) (by decide)).u (by decide) (by decide)
      · have c1 : M9 359 j = if j = i then (M5 358 i).tdiv d else M6 359 j := by rw [e9, fu_off _ _ _ (by decide), e8, fu_off _ _ _ (by decide), e7, fu_at]
        have c2 : M9 360 j = if j = i then (M5 331 38).tdiv d else M6 360 j := by rw [e9, fu_off _ _ _ (by decide), e8, fu_at, e7, fu_off _ _ _ (by decide)]
        have td : ∀ a : Int, 0 ≤ a → a ≤ 429981696 → 0 ≤ a.tdiv d ∧ a.tdiv d ≤ 429981696 := fun a h1 h2 => by
          rw [Int.tdiv_eq_ediv_of_nonneg h1]
          refine ⟨Int.ediv_nonneg h1 (by omega), ?_⟩
          have := Int.ediv_le_self d h1
          omega
        rw [c1, c2]
        by_cases e : j = i
        · rw [if_pos e, if_pos e]; exact ⟨td _ hv.1 (by omega), td _ (by omega) v5b⟩
        · rw [if_neg e, if_neg e]; exact b6 j (by omega)
      · have c1 : M9 359 j = if j = i then (M5 358 i).tdiv d else M6 359 j := by rw [e9, fu_off _ _ _ (by decide), e8, fu_off _ _ _ (by decide), e7, fu_at]
        have c2 : M9 360 j = if j = i then (M5 331 38).tdiv d else M6 360 j := by rw [e9, fu_off _ _ _ (by decide), e8, fu_at, e7, fu_off _ _ _ (by decide)]
        rw [c1, c2]
        by_cases e : j = i
        · rw [if_pos e, if_pos e, e, hd3, tdn hv.1, tdn (by omega)]; exact ⟨rfl, rfl⟩
        · rw [if_neg e, if_neg e]; exact q6 j (by omega)
  · intro M1 e1
    have a1 : M1 331 0 = 1 := by rw [e1, fu_at, if_pos rfl]
    rw [a1]
    exact ⟨rg_small (by decide), fun h => absurd h (by decide), fun _ => h0 M1 (by omega) a1 (by rw [e1]; exact sv.refl.us (by decide)) (by rw [e1]; exact h.o (by decide) _ _)⟩
end Pu_O2
