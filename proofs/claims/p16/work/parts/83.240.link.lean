set_option maxRecDepth 10000
section Pu_Oz
/-! The reference's game is the one that was found. -/
theorem YG_of {Y : Ga} {G : Nat} {M : fm_M} (hy : RY Y G M) (gw : gwf M) (rb : RB M) (hG : M 331 6 = G) (hG1 : G ≤ 1) : YG Y := fun c hc => by
  have hC := hy.w.c10
  unfold gwf at gw
  rw [hG, Int.toNat_natCast] at gw
  have g := gw c (by rw [hy.c]; omega)
  have nb := hy.nb c hc
  have h338 := rb.g 338 20 0 6 (by decide) (x := 10 * G + c) (by omega)
  refine ⟨by omega, fun b hb => ?_, ?_⟩
  · rw [← hy.wt c b hc hb]; exact g.2.1 b (by omega)
  · have e : sm (Y.nb c) (Y.wt c) = M 338 (10 * G + c) := by
      rw [g.2.2, nb, Int.toNat_natCast]
      exact sm_congr (fun b hb => (hy.wt c b hc hb).symm)
    omega
theorem RBt_352 : ∀ q ∈ RBt, q.1 ≠ 352 := by decide
theorem EX.al {M M' : fm_M} {P : Nat → Nat → Nat → Prop} (h : EX M P) (s : sv [352] [] M M') : EX M' P := by
  have e : ∀ a, a ≠ 352 → M' a = M a := fun a ha => by
    by_cases h1 : a = 331
    · rw [h1]; funext b; exact s.slot b (by simp)
    · exact s.cell a (by simp; exact ha) h1
  have en : (Gof M').n = (Gof M).n := by show (M' 331 20).toNat = (M 331 20).toNat; rw [e 331 (by decide)]
  have ec : (Gof M').cc = (Gof M).cc := by funext i; show (M' 349 i).toNat = (M 349 i).toNat; rw [e 349 (by decide)]
  have eb : (Gof M').nb = (Gof M).nb := by
    funext i k; show (M' 337 (gi M' i k)).toNat = (M 337 (gi M i k)).toNat
    unfold gi; rw [e 337 (by decide), e 331 (by decide), e 348 (by decide)]
  refine ⟨fun q hq x hx => ?_, by rw [e 331 (by decide)]; exact h.hg, by rw [e 331 (by decide)]; exact h.hn, ?_, ?_, fun j k b hj hk hb hP => ?_⟩
  · rw [e q.1 (RBt_352 q hq)]; exact h.rb q hq x hx
  · rw [en, ec, e 348 (by decide), e 335 (by decide), e 331 (by decide)]; exact h.cm
  · rw [en, e 346 (by decide), e 349 (by decide)]; exact h.tgc
  · rw [en] at hj; rw [ec] at hk; rw [eb] at hb
    obtain ⟨t1, t2, t3⟩ := h.to j k b hj hk hb hP
    exact ⟨by rw [e 350 (by decide)]; exact t1, by rw [e 350 (by decide), e 331 (by decide)]; exact t2, ldq_cell (fun a ha => e a (by omega)) (by rw [e 331 (by decide)]) t3⟩
theorem Cor_of {Y : Ga} {G : Nat} {M : fm_M} (hy : RY Y G M) (hG : M 331 6 = G) (hG1 : G ≤ 1) {X : Xs} {lk : Nat} (F : RF Y X lk M) (hl : X.1 ≤ lk) (E : EX M (fun j _ _ => j < (Gof M).n)) (D : dst X) (al : ala M) : Cor (Gof M) (HG Y X) := by
  have hn := F.n
  have h8 := F.n8
  have hC := hy.w.c10
  have en : (Gof M).n = X.1 := by show (M 331 20).toNat = X.1; omega
  have cn : ∀ i, i < X.1 → (Gof M).cc i = ec Y (X.2 i) Y.C := fun i hi => by
    show (M 349 i).toNat = _
    rw [F.cn i hi (by omega)]; rfl
  have key : ∀ i c, i < X.1 → c < Y.C → ene Y (X.2 i) c = true → ec Y (X.2 i) c < (Gof M).cc i ∧ (Gof M).wo i (ec Y (X.2 i) c) = (HG Y X).wo i c ∧ ∀ h, (Gof M).S i (ec Y (X.2 i) c) h = (HG Y X).S i c h := fun i c hi hc he => by
    have hk : ec Y (X.2 i) c < (Gof M).cc i := by rw [cn i hi]; exact ec_lt hc he
    have hch := F.ch i hi (by omega) c hc he
    generalize hkk : ec Y (X.2 i) c = k at hk hch ⊢
    have hgi : gi M i k = 10 * G + c := by unfold gi; rw [hG, hch]; omega
    have enb : (Gof M).nb i k = Y.nb c := by
      show (M 337 (gi M i k)).toNat = _
      rw [hgi, hy.nb c hc]; rfl
    have n4 := hy.w.nb4 c
    have ewt : ∀ b, b < Y.nb c → (Gof M).wt i k b = Y.wt c b := fun b hb => by
      show M 339 (4 * gi M i k + b) = _
      rw [hgi]; exact hy.wt c b hc hb
    have eto : ∀ b, b < Y.nb c → (Gof M).to i k b = tov Y X i c b := fun b hb => by
      obtain ⟨t1, t2, t3⟩ := E.to i k b (by rw [en]; exact hi) hk (by rw [enb]; exact hb) (by rw [en]; exact hi)
      refine (tov_eq D (j := (M 350 (40 * i + 4 * k + b)).toNat) (by omega) ?_).symm
      have v : ∀ v, v < 3 → X.2 (M 350 (40 * i + 4 * k + b)).toNat v = Y.nx c b (X.2 i) v := fun v hv => by
        have q := t3 v hv
        rw [hch, hG, Int.toNat_natCast, Int.toNat_natCast, rnx_c E.rb hG1 (by omega) (by omega) hv (r := rho M i) (r' := X.2 i) (fun w hw => F.st i w hi hw), hy.nx c b hc hb _ (F.ok i hi) v hv] at q
        rw [← q]
        exact (F.st _ v (by omega) hv).symm
      exact ⟨v 0 (by omega), v 1 (by omega), v 2 (by omega)⟩
    refine ⟨hk, ?_, fun h => ?_⟩
    · show sm ((Gof M).nb i k) ((Gof M).wt i k) = sm (Y.nb c) (Y.wt c)
      rw [enb]; exact sm_congr ewt
    · show sm ((Gof M).nb i k) (fun b => (Gof M).wt i k b * h ((Gof M).to i k b)) = sm (Y.nb c) (fun b => Y.wt c b * h (tov Y X i c b))
      rw [enb]; exact sm_congr (fun b hb => by rw [ewt b hb, eto b hb])
  refine ⟨en, fun i hi => ?_, fun i hi => ?_, fun i k hi hk ha => ?_, fun i c hi hc ha => ?_⟩
  · rw [en] at hi
    show (M 346 i ≠ 0) ↔ (Y.tg (X.2 i) = true)
    rw [F.tg i hi]
    by_cases e : Y.tg (X.2 i) = true
    · rw [if_pos e]; exact ⟨fun _ => e, fun _ => by decide⟩
    · rw [if_neg e]; exact ⟨fun h => absurd rfl h, fun h => absurd h e⟩
  · rw [en] at hi
    show (M 347 i ≠ 0) ↔ omx Y (X.2 i)
    have h01 := E.rb.g 347 8 0 1 (by decide) (x := i) (by omega)
    rw [← F.mx i hi (by omega)]
    omega
  · rw [en] at hi
    rw [cn i hi] at hk
    obtain ⟨c, c1, c2, c3⟩ := ec_su hk
    obtain ⟨k1, k2, k3⟩ := key i c hi c1 c2
    rw [c3] at k2 k3
    exact ⟨c, by rw [HG_cc ⟨c, c1, c2⟩]; exact c1, c2, k2, k3⟩
  · rw [en] at hi
    have c1 := HG_lt hc
    have c2 : ene Y (X.2 i) c = true := ha
    obtain ⟨k1, k2, k3⟩ := key i c hi c1 c2
    exact ⟨_, k1, al i (by rw [en]; exact hi) _ k1, k2, k3⟩
/-- fractions in lowest terms, up to state i -/
def fq (M : fm_M) (i : Nat) (M' : fm_M) : Prop := ∀ j, j < i → M' 359 j = (((M 358 j).toNat / Nat.gcd (M 358 j).toNat (M 331 38).toNat : Nat) : Int) ∧ M' 360 j = (((M 331 38).toNat / Nat.gcd (M 358 j).toNat (M 331 38).toNat : Nat) : Int)
end Pu_Oz
