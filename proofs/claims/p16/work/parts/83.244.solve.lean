set_option maxRecDepth 10000
section Pu_O2
abbrev slv : List Nat := [345, 346, 347, 348, 349, 350, 351, 352, 353, 354, 355, 356, 357, 358, 359, 360, 361]
/-- what stays of the search when values are sought -/
theorem EX0.keep {M M' : fm_M} {cs bs : List Nat} (h : EX0 M) (s : sv cs bs M M') (hc : ∀ q ∈ RBt, q.1 ∉ cs) (hb : 6 ∉ bs ∧ 20 ∉ bs) : EX0 M' := by
  have e : ∀ q ∈ RBt, M' q.1 = M q.1 := fun q hq => s.cell q.1 (hc q hq) (by revert hq; revert q; decide)
  have rb : RB M' := fun q hq x hx => by rw [e q hq]; exact h.rb q hq x hx
  have c346 : M' 346 = M 346 := e (346, 8, 0, 1) (by decide)
  have c347 : M' 347 = M 347 := e (347, 8, 0, 1) (by decide)
  have c348 : M' 348 = M 348 := e (348, 80, 0, 9) (by decide)
  have c349 : M' 349 = M 349 := e (349, 8, 0, 10) (by decide)
  have c335 : M' 335 = M 335 := e (335, 2, 0, 10) (by decide)
  have e6 := s.slot 6 hb.1
  have e20 := s.slot 20 hb.2
  have en : (Gof M').n = (Gof M).n := by show (M' 331 20).toNat = (M 331 20).toNat; rw [e20]
  have ec : (Gof M').cc = (Gof M).cc := by funext j; show (M' 349 j).toNat = (M 349 j).toNat; rw [c349]
  refine ⟨rb, by rw [e6]; exact h.hg, by rw [e20]; exact h.hn, ?_, ?_, fun _ _ _ _ _ _ hF => hF.elim⟩
  · rw [en, ec, c348, c335, e6]; exact h.cm
  · rw [en, c346, c349]; exact h.tgc
theorem RR.same {Y : Ga} {r : Int} {M M' : fm_M} (h : RR Y r M) (e20 : M' 331 20 = M 331 20) (e21 : M' 331 21 = M 331 21) (e : ∀ a, 345 ≤ a → a ≤ 349 → M' a = M a) : RR Y r M' := ⟨h.1.same e20 e, by rw [e21]; exact h.2.1, h.2.2⟩
theorem spec_moSolve {M : fm_M} (h : RB M) (hg : M 331 6 = -1 ∨ ((M 331 6 = 0 ∨ M 331 6 = 1) ∧ gwf M)) {Y : Ga} (hy : M 331 6 = 0 ∨ M 331 6 = 1 → RY Y (M 331 6).toNat M) {post : Int → fm_M → Prop} {thr : String → fm_M → Prop}
    (h0 : ∀ M', M 331 6 = -1 → M' 331 0 = 1 → sv [] [0] M M' → RB M' → post 0 M') (h1 : ∀ r M', (M 331 6 = 0 ∨ M 331 6 = 1) → M' 331 0 = 0 → RR Y r M' → (0 ≤ r ↔ M' 331 22 = 1) → sv slv [0, 20, 21, 22, 34, 38] M M' → EX0 M' → (M' 331 22 = 0 ∨ M' 331 22 = 1) → (0 ≤ r → VX Y (M' 359) (M' 360) (M' 361)) → post r M') : wp_Mo_solve M post thr := by
  unfold wp_Mo_solve
  refine ⟨rg_small (by omega), fun hge => ?_, fun hlt => ?_⟩
  · have hg01 : M 331 6 = 0 ∨ M 331 6 = 1 := by omega
    have gw0 : gwf M := by rcases hg with e | e; omega; exact e.2
    intro M1 e1
    have a1 : M1 331 0 = 0 := by rw [e1, fu_at, if_pos rfl]
    rw [a1]
    refine ⟨rg_small (by decide), fun _ M2 e2 => ?_, fun h => absurd (Int.le_refl 0) h⟩
    have s2 : sv slv [0, 20, 21, 22, 34, 38] M M2 := by rw [e2, e1]; exact (sv.refl.us (by decide)).us (by decide)
    have rb2 : RB M2 := by rw [e2, e1]; exact (h.o (by decide) _ _).o (by decide) _ _
    have g2 : M2 331 6 = M 331 6 := s2.slot 6 (by decide)
    have f2 : M2 331 22 = 0 := by rw [e2, fu_at, if_pos rfl]
    have th2 : M2 331 0 = 0 := by rw [e2, fu_at, if_neg (by decide)]; exact a1
    refine spec_explore rb2 (by rw [g2]; exact hg01) (Y := Y) (by rw [g2]; exact (hy hg01).same (fun a h1 h2 => s2.cell a (by simp; omega) (by omega))) (fun r M3 hr R3 s3 E3 => ⟨rg_small (by omega), fun h => by omega, fun _ => h1 r M3 hg01 (by rw [s3.slot 0 (by decide)]; exact th2) R3 (by rw [s3.slot 22 (by decide), f2]; exact ⟨fun hh => by omega, fun hh => absurd hh (by decide)⟩) (s2.tr (s3.mono (by decide) (by decide))) E3 (by rw [s3.slot 22 (by decide), f2]; exact Or.inl rfl) (fun hh => by omega)⟩) (fun r M3 hr R3 s3 E3 => ⟨rg_small (by omega), fun _ => ?_, fun h => by omega⟩)
    have s03 : sv slv [0, 20, 21, 22, 34, 38] M M3 := s2.tr (s3.mono (by decide) (by decide))
    have gw3 : gwf M3 := by
      unfold gwf; rw [s03.slot 6 (by decide), s03.cell 335 (by decide) (by decide), s03.cell 337 (by decide) (by decide), s03.cell 338 (by decide) (by decide), s03.cell 339 (by decide) (by decide)]; exact gw0
    have w3 : GW M3 := E3.gw gw3
    have E30 : EX0 M3 := E3.mono (fun _ _ _ hF => hF.elim)
    refine spec_allowAll w3 (fun M4 s4 a4 al4 => ?_)
    obtain ⟨G, hG, hG1⟩ : ∃ G : Nat, M4 331 6 = G ∧ G ≤ 1 := by
      have e : M4 331 6 = M 331 6 := by rw [s4.slot 6 (by decide), s03.slot 6 (by decide)]
      exact ⟨(M 331 6).toNat, by omega, by omega⟩
    have e6g : (M 331 6).toNat = G := by
      have e : M4 331 6 = M 331 6 := by rw [s4.slot 6 (by decide), s03.slot 6 (by decide)]
      omega
    have hy4 : RY Y G M4 := by
      have h := (hy hg01).same (M' := M4) (fun a h1 h2 => by rw [s4.cell a (by simp; omega) (by omega), s03.cell a (by simp; omega) (by omega)])
      rw [e6g] at h; exact h
    have E4 : EX M4 (fun j _ _ => j < (Gof M4).n) := by
      have n4 : (Gof M4).n = (Gof M3).n := by show (M4 331 20).toNat = (M3 331 20).toNat; rw [s4.slot 20 (by decide)]
      rw [n4]
      exact E3.al s4
    have C4 : Cor (Gof M4) (HG Y (SR Y).1) := Cor_of hy4 hG hG1 (R3.1.same (s4.slot 20 (by decide)) (fun a h1 h2 => s4.cell a (by simp; omega) (by omega))) (SR_lk (by rw [← R3.2.2]; exact hr.1)).1 E4 (SR_ok Y).1 al4
    have w4 : GW M4 := GW_same s4 (by decide) (by decide) w3
    refine spec_solveGame w4 a4 (fun M5 s5 v5 sol5 => ?_)
    have s35 : sv [352, 353, 354, 355, 356, 357, 358, 359, 360, 361] [22, 34, 38] M3 M5 := (s4.mono (by decide) (by decide)).tr (s5.mono (by decide) (by decide))
    have w5 : GW M5 := GW_same s5 (by decide) (by decide) w4
    have hn := w5.n8
    obtain ⟨v5a, v5b, v5c⟩ := v5
    refine ⟨fun M' v1 v2 => v1 = r ∧ ∃ i : Nat, v2 = i ∧ i ≤ (Gof M5).n ∧ sv [359, 360, 361] [] M5 M' ∧ (∀ j, j < i → (0 ≤ M' 359 j ∧ M' 359 j ≤ 429981696) ∧ (0 ≤ M' 360 j ∧ M' 360 j ≤ 429981696)) ∧ fq M5 i M' ∧ (∀ j, j < i → M' 361 j = -1), fun _ _ v2 => (((Gof M5).n : Int) - v2).toNat, ⟨rfl, 0, rfl, by omega, sv.refl, fun j hj => by omega, fun j hj => by omega, fun j hj => by omega⟩, ?_⟩
    rintro M6 v1 v2 ⟨rfl, i, rfl, hi, s6, b6, q6, z6⟩
    have e20 : M6 331 20 = (Gof M5).n := by rw [s6.slot 20 (by decide), hn.1]
    have w6 : GW M6 := GW_same s6 (by decide) (by decide) w5
    have hG6 : Gof M6 = Gof M5 := Gof_same s6 (by decide) (by decide) (by decide)
    unfold C_Mo_solve_51
    rw [e20, Int.toNat_natCast]
    refine ⟨rg_small (by omega), rg_small (by omega), fun h3 => ?_, fun h3 => ⟨by omega, ?_⟩⟩
    · have hlb6 : hlb M6 := by
        unfold hlb; rw [hG6]; exact fun j hj => b6 j (by omega)
      have s46 : sv [353, 354, 355, 356, 357, 358, 359, 360, 361] [34, 38] M4 M6 := (s5.mono (by decide) (by decide)).tr (s6.mono (by decide) (by decide))
      have RF4 : RF Y (SR Y).1 (SR Y).2.1 M4 := R3.1.same (s4.slot 20 (by decide)) (fun a h1 h2 => s4.cell a (by simp; omega) (by omega))
      have hl4 : (SR Y).1.1 ≤ (SR Y).2.1 := (SR_lk (by rw [← R3.2.2]; exact hr.1)).1
      have RF6 : RF Y (SR Y).1 (SR Y).2.1 M6 := RF4.same (s46.slot 20 (by decide)) (fun a h1 h2 => s46.cell a (by simp; omega) (by omega))
      have n46 : (Gof M6).n = (Gof M4).n := (GW_al s46 (by decide) (by decide)).1
      have c46 : (Gof M6).cc = (Gof M4).cc := (GW_al s46 (by decide) (by decide)).2
      have hf6 : ∀ j, j < (Gof M6).n → ∃ g : Int, 0 < g ∧ M5 358 j = M6 359 j * g ∧ M5 331 38 = M6 360 j * g := fun j hj => by
        rw [hG6] at hj
        have hv := v5c j hj
        obtain ⟨r1, r2⟩ := q6 j (by omega)
        have gp : 0 < Nat.gcd (M5 358 j).toNat (M5 331 38).toNat := Nat.gcd_pos_of_pos_right _ (by omega)
        refine ⟨((Nat.gcd (M5 358 j).toNat (M5 331 38).toNat : Nat) : Int), by omega, ?_, ?_⟩
        · rw [r1, ← Int.natCast_mul, Nat.div_mul_cancel (Nat.gcd_dvd_left _ _)]; omega
        · rw [r2, ← Int.natCast_mul, Nat.div_mul_cancel (Nat.gcd_dvd_right _ _)]; omega
      refine spec_findBest2 w6 hlb6 (hin_of RF6 hl4) (Or.inr rfl) v5a hf6 (fun M7 s7 o7 k7 => ?_)
      have w7 : GW M7 := GW_same s7 (by decide) (by decide) w6
      have n7 := (GW_al s7 (by decide) (by decide)).1
      have c7 := (GW_al s7 (by decide) (by decide)).2
      have hlb7 : hlb M7 := by
        unfold hlb; rw [n7, s7.cell 359 (by decide) (by decide), s7.cell 360 (by decide) (by decide)]; exact hlb6
      have RF7 : RF Y (SR Y).1 (SR Y).2.1 M7 := RF6.same (s7.slot 20 (by decide)) (fun a h1 h2 => s7.cell a (by simp; omega) (by omega))
      refine spec_findBest2 w7 hlb7 (hin_of RF7 hl4) (Or.inl rfl) v5a (fun j hj => by rw [s7.cell 359 (by decide) (by decide), s7.cell 360 (by decide) (by decide)]; exact hf6 j (by rw [← n7]; exact hj)) (fun M8 s8 o8 k8 M9 e9 => ?_)
      have by8 : BY Y (M8 361) := by
        have s67 : sv [352, 353, 354, 355, 356, 357, 358, 359, 360, 361] [34, 38] M4 M7 := (s46.mono (by decide) (by decide)).tr (s7.mono (by decide) (by decide))
        have e347 : M6 347 = M4 347 := s46.cell 347 (by decide) (by decide)
        have e348 : M6 348 = M4 348 := s46.cell 348 (by decide) (by decide)
        have e347' : M7 347 = M4 347 := s67.cell 347 (by decide) (by decide)
        have e348' : M7 348 = M4 348 := s67.cell 348 (by decide) (by decide)
        have n47 : (Gof M7).n = (Gof M4).n := by rw [n7, n46]
        have c47 : (Gof M7).cc = (Gof M4).cc := by rw [c7, c46]
        have keep8 : ∀ j, ¬ sla M7 0 j → M8 361 j = M7 361 j := fun j hj => o8 j (Or.inr hj)
        have yg : YG Y := YG_of hy4 (by unfold gwf; rw [s4.slot 6 (by decide), s4.cell 335 (by decide) (by decide), s4.cell 337 (by decide) (by decide), s4.cell 338 (by decide) (by decide), s4.cell 339 (by decide) (by decide)]; exact gw3) E4.rb hG hG1
        have WH : (HG Y (SR Y).1).Wf := HG_wf yg (by have := (SR_ok Y).2.1; omega)
        refine ⟨M5 358, M5 331 38, WH, Sol_cor w4.wf WH C4 (fun i hi hc => ?_) sol5, BYd_r hy4 hG hG1 w4 yg RF4 hl4 E4 (SR_ok Y) al4 (fun a ha i hi hs => ?_) (fun i hi hc => ?_)⟩
        · obtain ⟨c, c1, c2⟩ := HG_ex hc
          exact ⟨c, by rw [HG_cc ⟨c, c1, c2⟩]; exact c1, c2⟩
        · rcases ha with e | e
          · subst e
            obtain ⟨k, k1, k2⟩ := k8 i (by rw [n47]; exact hi) ⟨by rw [e347']; exact hs.1, by rw [c47]; exact hs.2⟩
            exact ⟨k, by rw [k1, e348'], (fsk_same s67 (by decide) (by decide)).mp k2⟩
          · subst e
            obtain ⟨k, k1, k2⟩ := k7 i (by rw [n46]; exact hi) ⟨by rw [e347]; exact hs.1, by rw [c46]; exact hs.2⟩
            have nm : ∀ j, M4 347 j = 1 → M7 361 j = M8 361 j := fun j hj => (keep8 j (fun q => by have := q.1; rw [e347', hj] at this; exact absurd this (by decide))).symm
            exact ⟨k, by rw [← nm i hs.1, k1, e348], fsk_d (fun j _ hj => nm j hj) ((fsk_same s46 (by decide) (by decide)).mp k2)⟩
        · have ns7 : ¬ sla M7 0 i := fun q => by have := q.2; rw [c47] at this; omega
          have ns6 : ¬ sla M6 1 i := fun q => by have := q.2; rw [c46] at this; omega
          rw [keep8 i ns7, o7 i (Or.inr ns6)]
          exact z6 i (by have : (Gof M5).n = (Gof M4).n := by (show (M5 331 20).toNat = (M4 331 20).toNat; rw [s5.slot 20 (by decide)])
                         omega)
      have s39 : sv [352, 353, 354, 355, 356, 357, 358, 359, 360, 361] [22, 34, 38] M3 M9 := by
        rw [e9]
        exact (((s35.tr (s6.mono (by decide) (by decide))).tr (s7.mono (by decide) (by decide))).tr (s8.mono (by decide) (by decide))).us (by decide)
      exact h1 v1 M9 hg01 (by rw [s39.slot 0 (by decide), s3.slot 0 (by decide)]; exact th2) (R3.same (s39.slot 20 (by decide)) (s39.slot 21 (by decide)) (fun a h1 h2 => s39.cell a (by simp; omega) (by omega))) (by rw [e9, fu_at, if_pos rfl]; exact ⟨fun _ => rfl, fun _ => hr.1⟩) (s03.tr (s39.mono (by decide) (by decide))) (E30.keep s39 (by decide) (by decide)) (Or.inr (by rw [e9, fu_at, if_pos rfl])) (fun _ => by
        have n45 : (Gof M4).n = (Gof M5).n := by show (M4 331 20).toNat = (M5 331 20).toNat; rw [s5.slot 20 (by decide)]
        have e9c : ∀ a, a ≠ 331 → M9 a = M8 a := fun a ha => by rw [e9]; exact fu_off _ _ _ ha
        refine ⟨⟨Gof M4, M5 358, M5 331 38, w4.wf, C4, sol5, fun j hj => (v5c j (by rw [← n45]; exact hj)).1, v5a, fun j hj => ?_⟩, by rw [e9c 361 (by decide)]; exact by8⟩
        have hj5 : j < i := by rw [n45] at hj; omega
        rw [e9c 359 (by decide), e9c 360 (by decide), s8.cell 359 (by decide) (by decide), s8.cell 360 (by decide) (by decide), s7.cell 359 (by decide) (by decide), s7.cell 360 (by decide) (by decide)]
        exact q6 j hj5)
    · have hi' : i < (Gof M5).n := by omega
      have hv := v5c i hi'
      rw [s6.cell 358 (by decide) (by decide), s6.slot 38 (by decide)]
      refine spec_divisor ⟨hv.1, by omega⟩ ⟨v5a, v5b⟩ (fun d hd hd2 hd3 => ?_)
      rw [s6.cell 358 (by decide) (by decide)]
      refine ⟨⟨by omega, by omega⟩, ⟨by omega, by omega⟩, by omega, fun M7 e7 => ?_⟩
      have e38 : M7 331 38 = M5 331 38 := by rw [e7, fu_off _ _ _ (by decide), s6.slot 38 (by decide)]
      rw [e38]
      refine ⟨⟨by omega, by omega⟩, fun M8 e8 M9 e9 => ⟨⟨rfl, i + 1, by omega, by omega, ?_, fun j hj => ?_, fun j hj => ?_, fun j hj => ?_⟩, by dsimp only; omega⟩⟩
      · rw [e9, e8, e7]; exact ((s6.u (by decide) (by decide)).u (by decide) (by decide)).u (by decide) (by decide)
      · have c1 : M9 359 j = if j = i then (M5 358 i).tdiv d else M6 359 j := by rw [e9, fu_off _ _ _ (by decide), e8, fu_off _ _ _ (by decide), e7, fu_at]
        have c2 : M9 360 j = if j = i then (M5 331 38).tdiv d else M6 360 j := by rw [e9, fu_off _ _ _ (by decide), e8, fu_at, e7, fu_off _ _ _ (by decide)]
        have td : ∀ a : Int, 0 ≤ a → a ≤ 429981696 → 0 ≤ a.tdiv d ∧ a.tdiv d ≤ 429981696 := fun a h1 h2 => by
          rw [Int.tdiv_eq_ediv_of_nonneg h1]
          refine ⟨Int.ediv_nonneg h1 (by omega), ?_⟩
          have := Int.ediv_le_self d h1
          omega
        rw [c1, c2]
        by_cases e : j = i
        · rw [if_pos e, if_pos e]; exact ⟨td _ hv.1 (by omega), td _ (by omega) v5b⟩
        · rw [if_neg e, if_neg e]; exact b6 j (by omega)
      · have c1 : M9 359 j = if j = i then (M5 358 i).tdiv d else M6 359 j := by rw [e9, fu_off _ _ _ (by decide), e8, fu_off _ _ _ (by decide), e7, fu_at]
        have c2 : M9 360 j = if j = i then (M5 331 38).tdiv d else M6 360 j := by rw [e9, fu_off _ _ _ (by decide), e8, fu_at, e7, fu_off _ _ _ (by decide)]
        rw [c1, c2]
        by_cases e : j = i
        · rw [if_pos e, if_pos e, e, hd3, tdn hv.1, tdn (by omega)]; exact ⟨rfl, rfl⟩
        · rw [if_neg e, if_neg e]; exact q6 j (by omega)
      · rw [e9, fu_at]
        by_cases e : j = i
        · rw [if_pos (by rw [e])]
        · rw [if_neg (by omega), e8, fu_off _ _ _ (by decide), e7, fu_off _ _ _ (by decide)]; exact z6 j (by omega)
  · intro M1 e1
    have a1 : M1 331 0 = 1 := by rw [e1, fu_at, if_pos rfl]
    rw [a1]
    exact ⟨rg_small (by decide), fun h => absurd h (by decide), fun _ => h0 M1 (by omega) a1 (by rw [e1]; exact sv.refl.us (by decide)) (by rw [e1]; exact h.o (by decide) _ _)⟩
end Pu_O2
