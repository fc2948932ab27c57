set_option maxRecDepth 10000
section Pu_O
def Pf (i k b : Nat) : Nat → Nat → Nat → Prop := fun j k' b' => j < i ∨ (j = i ∧ (k' < k ∨ (k' = k ∧ b' < b)))
theorem EX.lead {M : fm_M} {P Q : Nat → Nat → Nat → Prop} (h : EX M P) {x : Nat} {r : Int} (hr : 0 ≤ r ∧ r < M 331 20) (hQ : ∀ j k b, j < (Gof M).n → k < (Gof M).cc j → b < (Gof M).nb j k → Q j k b → P j k b ∨ 40 * j + 4 * k + b = x) (hl : ∀ j k b, j < (Gof M).n → k < (Gof M).cc j → b < (Gof M).nb j k → 40 * j + 4 * k + b = x → ldq (fm_u M 350 x r) j k b) : EX (fm_u M 350 x r) Q := by
  have hn := h.hn
  have e : ∀ a, a ≠ 350 → fm_u M 350 x r a = M a := fun a ha => fu_off _ _ _ ha
  have en : (Gof (fm_u M 350 x r)).n = (Gof M).n := by show (fm_u M 350 x r 331 20).toNat = (M 331 20).toNat; rw [e 331 (by decide)]
  have ec : (Gof (fm_u M 350 x r)).cc = (Gof M).cc := by funext i; show (fm_u M 350 x r 349 i).toNat = (M 349 i).toNat; rw [e 349 (by decide)]
  have eb : (Gof (fm_u M 350 x r)).nb = (Gof M).nb := by
    funext i k; show (fm_u M 350 x r 337 (gi (fm_u M 350 x r) i k)).toNat = (M 337 (gi M i k)).toNat
    unfold gi; rw [e 337 (by decide), e 331 (by decide), e 348 (by decide)]
  refine ⟨h.rb.u 350 320 (-1) 7 (by decide) _ _ (by omega), by rw [e 331 (by decide)]; exact h.hg, by rw [e 331 (by decide)]; exact hn, ?_, ?_, fun j k b hj hk hb hq => ?_⟩
  · rw [en, ec, e 348 (by decide), e 335 (by decide), e 331 (by decide)]; exact h.cm
  · rw [en, e 346 (by decide), e 349 (by decide)]; exact h.tgc
  · rw [en] at hj; rw [ec] at hk; rw [eb] at hb
    by_cases e2 : 40 * j + 4 * k + b = x
    · exact ⟨by rw [fu_at, if_pos e2]; exact hr.1, by rw [fu_at, if_pos e2, e 331 (by decide)]; exact hr.2, hl j k b hj hk hb e2⟩
    · rcases hQ j k b hj hk hb hq with h2 | h2
      · obtain ⟨t1, t2, t3⟩ := h.to j k b hj hk hb h2
        refine ⟨by rw [fu_at, if_neg e2]; exact t1, by rw [fu_at, if_neg e2, e 331 (by decide)]; exact t2, fun v hv => ?_⟩
        have hx : fm_u M 350 x r 350 (40 * j + 4 * k + b) = M 350 (40 * j + 4 * k + b) := by rw [fu_at, if_neg e2]
        have hr2 : ∀ i, rho (fm_u M 350 x r) i = rho M i := fun i => by unfold rho; rw [e 345 (by decide)]
        rw [hx, e 348 (by decide), e 331 (by decide), hr2, hr2, rnx_same (fun a h1 h2 => e a (by omega))]
        exact t3 v hv
      · exact absurd h2 e2
/-- on the way of follow -/
def FW (M M' : fm_M) (i : Nat) : Prop :=
  (sv exl [20, 21] M M') ∧
  ((Gof M).n ≤ (Gof M').n) ∧
  (M' 348 = M 348) ∧
  (∀ j, j < (Gof M).n → M' 349 j = M 349 j) ∧
  (∀ j, i < j → j < (Gof M').n → M' 349 j = 0) ∧
  (M' 331 21 = M 331 21)
theorem FW.s {M M' : fm_M} {i : Nat} (h_ : FW M M' i) : sv exl [20, 21] M M' := h_.1
theorem FW.n {M M' : fm_M} {i : Nat} (h_ : FW M M' i) : (Gof M).n ≤ (Gof M').n := h_.2.1
theorem FW.c348 {M M' : fm_M} {i : Nat} (h_ : FW M M' i) : M' 348 = M 348 := h_.2.2.1
theorem FW.c349 {M M' : fm_M} {i : Nat} (h_ : FW M M' i) : ∀ j, j < (Gof M).n → M' 349 j = M 349 j := h_.2.2.2.1
theorem FW.z {M M' : fm_M} {i : Nat} (h_ : FW M M' i) : ∀ j, i < j → j < (Gof M').n → M' 349 j = 0 := h_.2.2.2.2.1
theorem FW.x21 {M M' : fm_M} {i : Nat} (h_ : FW M M' i) : M' 331 21 = M 331 21 := h_.2.2.2.2.2
theorem FW.grow {M M1 M2 : fm_M} {i : Nat} (h : FW M M1 i) (hn : 0 ≤ M1 331 20) (s : sv exl [20, 21] M1 M2) (o : old (Gof M1).n M1 M2) (hx : M2 331 21 = M1 331 21) (hn2 : M2 331 20 = M1 331 20 ∨ (M2 331 20 = M1 331 20 + 1 ∧ M2 349 (Gof M1).n = 0)) : FW M M2 i := by
  have e1 : (Gof M1).n = (M1 331 20).toNat := rfl
  have e2 : (Gof M2).n = (M2 331 20).toNat := rfl
  have hnn := h.n
  refine ⟨h.s.tr s, by omega, by rw [o.c348]; exact h.c348, fun j hj => by rw [o.c349 j (by omega)]; exact h.c349 j hj, fun j h1 h2 => ?_, by rw [hx]; exact h.x21⟩
  by_cases e : j < (Gof M1).n
  · rw [o.c349 j e]; exact h.z j h1 e
  · rcases hn2 with e3 | ⟨e3, e4⟩
    · omega
    · rw [show j = (Gof M1).n by omega]; exact e4
theorem RF.same {Y : Ga} {X : Xs} {lk : Nat} {M M' : fm_M} (h : RF Y X lk M) (e20 : M' 331 20 = M 331 20) (e : ∀ a, 345 ≤ a → a ≤ 349 → M' a = M a) : RF Y X lk M' := by
  refine ⟨by rw [e20]; exact h.n, h.n8, h.ok, by rw [e 345 (by omega) (by omega)]; exact h.st, by rw [e 346 (by omega) (by omega)]; exact h.tg, by rw [e 349 (by omega) (by omega)]; exact h.cn, by rw [e 348 (by omega) (by omega)]; exact h.ch, by rw [e 347 (by omega) (by omega)]; exact h.mx, by rw [e 349 (by omega) (by omega), e 347 (by omega) (by omega)]; exact h.z⟩
theorem isn_of {Y : Ga} {X : Xs} {lk : Nat} {M : fm_M} (F : RF Y X lk M) {s : Nat → Int} (hs : ∀ v, v < 3 → M 351 v = s v) (j : Nat) (hj : j < X.1) : sme (rho M j) (M 351) ↔ sme (X.2 j) s := by
  have a0 : rho M j 0 = X.2 j 0 := F.st j 0 hj (by omega)
  have a1 : rho M j 1 = X.2 j 1 := F.st j 1 hj (by omega)
  have a2 : rho M j 2 = X.2 j 2 := F.st j 2 hj (by omega)
  unfold sme
  rw [a0, a1, a2, hs 0 (by omega), hs 1 (by omega), hs 2 (by omega)]
theorem f_find {M : fm_M} (h : RB M) (hg : M 331 6 = 0 ∨ M 331 6 = 1) {Y : Ga} {X : Xs} {lk : Nat} (hy : RY Y (M 331 6).toNat M) (F : RF Y X lk M) (hl : lk ≤ X.1) {s : Nat → Int} (hs : ∀ v, v < 3 → M 351 v = s v) (hok : okr Y s) {post : Int → fm_M → Prop} {thr : String → fm_M → Prop}
    (h0 : ins X s = (X, false) → post (-1) M) (h1 : ∀ i : Nat, (i : Int) < M 331 20 → ins X s = (X, true) → sme (X.2 i) s → post i M) (h2 : ∀ M', ins X s = (Xad X s, true) → RF Y (Xad X s) lk M' → sv [345, 346, 347, 349, 350] [20] M M' → old (Gof M).n M M' → RB M' → M' 331 20 = M 331 20 + 1 → M' 331 20 ≤ 8 → M' 349 (Gof M).n = 0 → post (M 331 20) M') : wp_Mo_find M post thr := by
  have hn := F.n
  have h8 := F.n8
  have en : (Gof M).n = X.1 := by show (M 331 20).toNat = _; omega
  have hG : (M 331 6).toNat ≤ 1 := by omega
  have nis : (∀ j : Nat, (j : Int) < M 331 20 → ¬ sme (rho M j) (M 351)) → ¬ isn X s := fun hh ⟨j, hj, e⟩ => hh j (by omega) ((isn_of F hs j hj).mpr e)
  refine spec_find h hg (by omega) (fun e hh => h0 ?_) (fun i hi e => h1 i hi ?_ ((isn_of F hs i (by omega)).mp e)) (fun M' hh w s' o' rb' e' l' z' => h2 M' ?_ ?_ s' o' rb' e' l' z')
  · unfold ins; rw [if_neg (nis hh), if_pos (by omega)]
  · unfold ins; rw [if_pos ⟨i, by omega, (isn_of F hs i (by omega)).mp e⟩]
  · unfold ins; rw [if_neg (nis hh), if_neg (by omega)]
  · obtain ⟨w1, w2, w3, w4⟩ := w
    rw [en] at w1 w2 w3 w4 z' o'
    have hX : ∀ j, j < X.1 → (Xad X s).2 j = X.2 j := fun j hj => by show (if j = X.1 then s else X.2 j) = _; rw [if_neg (by omega)]
    have hXn : (Xad X s).2 X.1 = s := by show (if X.1 = X.1 then s else X.2 X.1) = _; rw [if_pos rfl]
    have hX1 : (Xad X s).1 = X.1 + 1 := rfl
    have hrt : rhol M (M 331 6).toNat 10 (M 351) ↔ Y.tg s = true := (rhol_c h hG (by omega) hs).trans (hy.tg s hok)
    refine ⟨by rw [e', hn, hX1]; omega, by rw [hX1]; omega, fun j hj => ?_, fun j v hj hv => ?_, fun j hj => ?_, fun j hj hjl => ?_, fun j hj hjl c hc he => ?_, fun j hj hjl => ?_, fun j hj hjl => ?_⟩
    · by_cases e : j = X.1
      · rw [e, hXn]; exact hok
      · rw [hX j (by omega)]; exact F.ok j (by omega)
    · by_cases e : j = X.1
      · rw [e, hXn, w2 v hv]; exact hs v hv
      · rw [hX j (by omega), w1 j v (by omega) hv]; exact F.st j v (by omega) hv
    · by_cases e : j = X.1
      · rw [e, hXn]
        rcases w3 with ⟨a, b⟩ | ⟨a, b⟩
        · rw [a, if_neg (fun hh => b (hrt.mpr hh))]
        · rw [a, if_pos (hrt.mp b)]
      · rw [hX j (by omega), o'.c346 j (by omega)]; exact F.tg j (by omega)
    · rw [hX j (by omega), o'.c349 j (by omega)]; exact F.cn j (by omega) hjl
    · rw [hX j (by omega)] at he ⊢
      rw [o'.c348]; exact F.ch j (by omega) hjl c hc he
    · rw [hX j (by omega), o'.c347 j (by omega)]; exact F.mx j (by omega) hjl
    · by_cases e : j = X.1
      · rw [e]; exact ⟨z', w4⟩
      · rw [o'.c349 j (by omega), o'.c347 j (by omega)]; exact F.z j (by omega) hjl
/-- what follows when a command's branches are through -/
def cont (Y : Ga) (r : Nat → Int) (f c : Nat) (Z : Xs × Bool) : Xs × Bool := if Z.2 = true then goC Y r f c Z.1 else Z
theorem spec_follow {M : fm_M} {i : Nat} {Y : Ga} {X : Xs} (hy : RY Y (M 331 6).toNat M) (RF0 : RF Y X (i + 1) M) (h : EX M (fun j _ _ => j < i)) (hi : i < (Gof M).n) (hz : ∀ j, i < j → j < (Gof M).n → M 349 j = 0) {post : Int → fm_M → Prop} {thr : String → fm_M → Prop}
    (h1 : ∀ M', (goC Y (X.2 i) Y.C 0 X).2 = true → RF Y (goC Y (X.2 i) Y.C 0 X).1 (i + 1) M' → FW M M' i → EX M' (fun j _ _ => j < i + 1) → post 1 M') (h0 : ∀ M', ¬ (goC Y (X.2 i) Y.C 0 X).2 = true → RF Y (goC Y (X.2 i) Y.C 0 X).1 (i + 1) M' → FW M M' i → EX M' (fun j _ _ => j < i) → post 0 M') : wp_Mo_follow M i post thr := by
  have hn := h.hn
  have en : (Gof M).n = (M 331 20).toNat := rfl
  have h8 : i < 8 := by omega
  have hcc := h.rb.g 349 8 0 10 (by decide) h8
  have ecc : (Gof M).cc i = (M 349 i).toNat := rfl
  have hcce : M 349 i = ((Gof M).cc i : Nat) := by omega
  have hnX := RF0.n
  have hiX : i < X.1 := by omega
  obtain ⟨G, hG, hG1⟩ : ∃ G : Nat, M 331 6 = G ∧ G ≤ 1 := ⟨(M 331 6).toNat, by have := h.hg; omega, by have := h.hg; omega⟩
  rw [hG, Int.toNat_natCast] at hy
  have hC10 := hy.w.c10
  have hokr := RF0.ok i hiX
  have hcn := RF0.cn i hiX (by omega)
  have hch0 := RF0.ch i hiX (by omega)
  generalize hr : X.2 i = r at h1 h0 hokr hcn hch0
  generalize hR : goC Y r Y.C 0 X = R at h1 h0
  refine ⟨fun M' v2 => ∃ k : Nat, v2 = k ∧ k ≤ (Gof M).cc i ∧ FW M M' i ∧ EX M' (Pf i k 0) ∧ ∃ (c : Nat) (X' : Xs), ec Y r c = k ∧ c ≤ Y.C ∧ goC Y r (Y.C - c) c X' = R ∧ RF Y X' (i + 1) M' ∧ i < X'.1 ∧ X'.2 i = r, fun _ v2 => (((Gof M).cc i : Int) - v2).toNat, ⟨0, rfl, by omega, ⟨sv.refl, Nat.le_refl _, rfl, fun _ _ => rfl, hz, rfl⟩, h.mono (fun j k b hP => ?_), 0, X, rfl, by omega, hR, RF0, hiX, hr⟩, ?_⟩
  · rcases hP with hP | ⟨_, hP | ⟨_, hP⟩⟩
    · exact hP
    · omega
    · omega
  rintro M1 v2 ⟨k, rfl, hk, F1, E1, cc, X1, hec, hccC, hgo, RF1, hiX1, hrX1⟩
  have fin3 : (((Gof M).cc i : Nat) : Int) ≤ (k : Int) → R = (X1, true) := fun h3 => by
    rw [← hgo]; exact goC_end (C := Y.C) _ _ (by omega) (by omega)
  unfold C_Mo_follow_2
  rw [Int.toNat_natCast, F1.c349 i hi, hcce]
  refine ⟨by omega, rg_small (by omega), rg_small (by omega), fun h3 => h1 M1 (by rw [fin3 h3]) (by rw [fin3 h3]; exact RF1) F1 ?_, fun h3 => ?_⟩
  · have : k = (Gof M).cc i := by omega
    subst this
    refine ⟨E1.rb, E1.hg, E1.hn, E1.cm, E1.tgc, fun j k b hj hk hb hP => E1.to j k b hj hk hb ?_⟩
    by_cases e : j < i
    · exact Or.inl e
    · refine Or.inr ⟨by omega, Or.inl ?_⟩
      have : k < (M1 349 j).toNat := hk
      rw [show j = i by omega, F1.c349 i hi] at this; omega
  · have hk' : k < (Gof M).cc i := by omega
    rw [show ((10 * (i : Int)) + (k : Int)).toNat = 10 * i + k by omega, F1.c348]
    have hch := h.rb.g 348 80 0 9 (by decide) (x := 10 * i + k) (by omega)
    obtain ⟨c, hc⟩ : ∃ c : Nat, M 348 (10 * i + k) = c := ⟨(M 348 (10 * i + k)).toNat, by omega⟩
    obtain ⟨c', hc1, hc2, hc3, hc4, hc5⟩ := goC_skip (Y := Y) (r := r) (X := X1) (C := Y.C) (k := k) (Y.C - cc) cc (by omega) hec (by omega)
    have hcc' : c = c' := by
      have := hch0 c' hc2 hc3
      rw [hc4, hc] at this; omega
    subst hcc'
    rw [hgo] at hc5
    have hbr := h.rb.g 337 20 0 4 (by decide) (x := 10 * G + c) (by omega)
    have hgi : gi M i k = 10 * G + c := by unfold gi; rw [hG, hc]; omega
    obtain ⟨B, hB⟩ : ∃ B : Nat, M 337 (10 * G + c) = B := ⟨(M 337 (10 * G + c)).toNat, by omega⟩
    have hnb : (Gof M).nb i k = B := by show (M 337 (gi M i k)).toNat = B; rw [hgi, hB]; rfl
    have hBY : B = Y.nb c := by have := hy.nb c hc2; omega
    rw [hc]
    refine ⟨by omega, ⟨fun M' v2 v3 v4 => v2 = k ∧ v3 = c ∧ ∃ b : Nat, v4 = b ∧ b ≤ B ∧ FW M M' i ∧ EX M' (Pf i k b) ∧ ∃ X' : Xs, cont Y r (Y.C - (c + 1)) (c + 1) (goB Y c r (B - b) b X') = R ∧ RF Y X' (i + 1) M' ∧ i < X'.1 ∧ X'.2 i = r, fun _ _ _ v4 => ((B : Int) - v4).toNat, ⟨rfl, rfl, 0, rfl, by omega, F1, E1, X1, ?_, RF1, hiX1, hrX1⟩, ?_⟩⟩
    · rw [hc5, show Y.C - c = (Y.C - (c + 1)) + 1 by omega, goC, if_pos hc3, hBY]; rfl
    rintro M2 v2 v3 v4 ⟨rfl, rfl, b, rfl, hb, F2, E2, X2, hgo2, RF2, hiX2, hrX2⟩
    unfold C_Mo_follow_27
    rw [F2.s.slot 6 (by decide), hG, show ((10 * (G : Int)) + (c : Int)).toNat = 10 * G + c by omega, F2.s.cell 337 (by decide) (by decide), hB]
    refine ⟨by omega, rg_small (by omega), rg_small (by omega), fun h4 => ⟨⟨k + 1, by omega, by omega, F2, ?_, c + 1, X2, by rw [ec, if_pos hc3]; omega, by omega, by rw [show B - b = 0 by omega, goB] at hgo2; rw [← hgo2]; unfold cont; rw [if_pos rfl], RF2, hiX2, hrX2⟩, by dsimp only; omega⟩, fun h4 => ?_⟩
    · have : b = B := by omega
      subst this
      refine ⟨E2.rb, E2.hg, E2.hn, E2.cm, E2.tgc, fun j k' b' hj hk hb' hP => E2.to j k' b' hj hk hb' ?_⟩
      rcases hP with hP | ⟨e, hP | ⟨_, hP⟩⟩
      · exact Or.inl hP
      · refine Or.inr ⟨e, ?_⟩
        by_cases e2 : k' < k
        · exact Or.inl e2
        · refine Or.inr ⟨by omega, ?_⟩
          have : b' < (M2 337 (gi M2 j k')).toNat := hb'
          have e3 : gi M2 j k' = gi M i k := by unfold gi; rw [F2.s.slot 6 (by decide), F2.c348, e, show k' = k by omega]
          rw [e3, F2.s.cell 337 (by decide) (by decide), hgi, hB] at this; omega
      · omega
    · refine spec_takeBranch E2.rb E2.hg h8 (by omega) (by omega) (fun M3 hx3 rb3 nx3 => ?_)
      have s3 : sv exl [20, 21] M2 M3 := sv.ofx hx3 (by decide) (by decide)
      have o3 : old (Gof M2).n M2 M3 := ⟨fun j _ => by rw [hx3 346 (by decide)], fun j _ => by rw [hx3 347 (by decide)], fun j _ => by rw [hx3 349 (by decide)], by rw [hx3 348 (by decide)], fun x _ => by rw [hx3 350 (by decide)], fun j w _ _ => by rw [hx3 345 (by decide)]⟩
      have e20 : M3 331 20 = M2 331 20 := by rw [hx3 331 (by decide)]
      have E3 : EX M3 (Pf i k b) := E2.grow s3 o3 rb3 (Or.inl e20)
      have F3 : FW M M3 i := F2.grow E2.hn.1 s3 o3 (by rw [hx3 331 (by decide)]) (Or.inl e20)
      have hni : i < (Gof M3).n := by have := F3.n; omega
      have g2 : M2 331 6 = G := by rw [F2.s.slot 6 (by decide)]; exact hG
      have g3 : M3 331 6 = G := by rw [hx3 331 (by decide)]; exact g2
      have hy2 : RY Y G M2 := hy.same (fun a h1 h2 => F2.s.cell a (by simp; omega) (by omega))
      have hy3 : RY Y (M3 331 6).toNat M3 := by rw [g3, Int.toNat_natCast]; exact hy2.same (fun a h1 h2 => hx3 a (by omega))
      have RF3 : RF Y X2 (i + 1) M3 := RF2.same e20 (fun a h1 h2 => hx3 a (by omega))
      have hs3 : ∀ v, v < 3 → M3 351 v = Y.nx c b r v := fun v hv => by
        rw [nx3 v hv, g2, Int.toNat_natCast, rnx_c E2.rb hG1 (by omega) (by omega) hv (r' := r) (fun w hw => by rw [← hrX2]; exact RF2.st i w hiX2 hw)]
        exact hy2.nx c b hc2 (by omega) r hokr v hv
      have hgs : goB Y c r (B - b) b X2 = if (ins X2 (Y.nx c b r)).2 = true then goB Y c r (B - (b + 1)) (b + 1) (ins X2 (Y.nx c b r)).1 else ins X2 (Y.nx c b r) := by rw [show B - b = (B - (b + 1)) + 1 by omega, goB]
      -- the end of the branch is known
      have put : ∀ (M4 : fm_M) (X4 : Xs) (r' : Int), FW M M4 i → EX M4 (Pf i k b) → 0 ≤ r' ∧ r' < M4 331 20 → ins X2 (Y.nx c b r) = (X4, true) → RF Y X4 (i + 1) M4 → i < X4.1 → X4.2 i = r → sme (X4.2 r'.toNat) (Y.nx c b r) → (0 ≤ (((40 * (i : Int)) + (4 * (k : Int))) + (b : Int)) ∧ (((40 * (i : Int)) + (4 * (k : Int))) + (b : Int)) < 320) ∧ ∀ M56 : fm_M, M56 = fm_u M4 350 (((40 * (i : Int)) + (4 * (k : Int))) + (b : Int)).toNat r' → ((k : Int) = k ∧ (c : Int) = c ∧ ∃ b_1 : Nat, ((b : Int) + 1) = b_1 ∧ b_1 ≤ B ∧ FW M M56 i ∧ EX M56 (Pf i k b_1) ∧ ∃ X' : Xs, cont Y r (Y.C - (c + 1)) (c + 1) (goB Y c r (B - b_1) b_1 X') = R ∧ RF Y X' (i + 1) M56 ∧ i < X'.1 ∧ X'.2 i = r) ∧ ((B : Int) - ((b : Int) + 1)).toNat < ((B : Int) - (b : Int)).toNat := by
        intro M4 X4 r' F4 E4 hr hi4 RF4 hiX4 hrX4 hsm
        have g4 : M4 331 6 = G := by rw [F4.s.slot 6 (by decide)]; exact hG
        have hy4 : RY Y G M4 := hy.same (fun a h1 h2 => F4.s.cell a (by simp; omega) (by omega))
        have n4 := RF4.n
        refine ⟨by omega, fun M5 e5 => ⟨⟨rfl, rfl, b + 1, by omega, by omega, ?_, ?_, X4, ?_, ?_, hiX4, hrX4⟩, by omega⟩⟩
        · have e : ∀ a, a ≠ 350 → M5 a = M4 a := fun a ha => by rw [e5]; exact fu_off _ _ _ ha
          have e2 : (Gof M5).n = (Gof M4).n := by show (M5 331 20).toNat = (M4 331 20).toNat; rw [e 331 (by decide)]
          exact ⟨by rw [e5]; exact F4.s.u (by decide) (by decide), by rw [e2]; exact F4.n, by rw [e 348 (by decide)]; exact F4.c348, by rw [e 349 (by decide)]; exact F4.c349, by rw [e2, e 349 (by decide)]; exact F4.z, by rw [e 331 (by decide)]; exact F4.x21⟩
        · rw [e5, show ((40 * (i : Int)) + (4 * (k : Int)) + (b : Int)).toNat = 40 * i + 4 * k + b by omega]
          refine E4.lead hr (fun j k' b' _ _ _ hP => ?_) (fun j k' b' hj hk2 hb2 hx => ?_)
          rotate_left
          · have j8 : j < 8 := by have : j < (M4 331 20).toNat := hj; have := E4.hn; omega
            have c1 := E4.rb.g 349 8 0 10 (by decide) (x := j) j8
            have c2 : k' < (M4 349 j).toNat := hk2
            have c3 : b' < (M4 337 (gi M4 j k')).toNat := hb2
            have c4 := E4.rb.g 348 80 0 9 (by decide) (x := 10 * j + k') (by omega)
            have c5 := E4.rb.g 337 20 0 4 (by decide) (x := gi M4 j k') (by unfold gi; omega)
            have e1 : j = i := by omega
            have e2 : k' = k := by omega
            have e3 : b' = b := by omega
            rw [e1, e2, e3]
            intro v hv
            have o : ∀ a, a ≠ 350 → fm_u M4 350 (40 * i + 4 * k + b) r' a = M4 a := fun a ha => fu_off _ _ _ ha
            have hx5 : fm_u M4 350 (40 * i + 4 * k + b) r' 350 (40 * i + 4 * k + b) = r' := by rw [fu_at, if_pos rfl]
            have hr5 : ∀ q, rho (fm_u M4 350 (40 * i + 4 * k + b) r') q = rho M4 q := fun q => by unfold rho; rw [o 345 (by decide)]
            rw [hx5, o 348 (by decide), o 331 (by decide), hr5, hr5, rnx_same (fun a h1 h2 => o a (by omega)), F4.c348, hc, g4, Int.toNat_natCast, Int.toNat_natCast, rnx_c E4.rb hG1 (by omega) (by omega) hv (r' := r) (fun w hw => by rw [← hrX4]; exact RF4.st i w hiX4 hw), hy4.nx c b hc2 (by omega) r hokr v hv]
            have e4 : rho M4 r'.toNat v = X4.2 r'.toNat v := RF4.st r'.toNat v (by omega) hv
            rw [e4]
            have : v = 0 ∨ v = 1 ∨ v = 2 := by omega
            rcases this with e | e | e <;> subst e
            · exact hsm.1
            · exact hsm.2.1
            · exact hsm.2.2
          rcases hP with hP | ⟨e, hP | ⟨e2, hP⟩⟩
          · exact Or.inl (Or.inl hP)
          · exact Or.inl (Or.inr ⟨e, Or.inl hP⟩)
          · by_cases e3 : b' = b
            · exact Or.inr (by omega)
            · exact Or.inl (Or.inr ⟨e, Or.inr ⟨e2, by omega⟩⟩)
        · rw [hgs, hi4, if_pos rfl] at hgo2; exact hgo2
        · exact RF4.same (by rw [e5, fu_off _ _ _ (by decide)]) (fun a h1 h2 => by rw [e5, fu_off _ _ _ (by omega)])
      refine f_find E3.rb E3.hg hy3 RF3 (by omega) hs3 (hy.w.okn c b r hokr) (fun hi4 => ⟨rg_small (by decide), fun h => absurd h (by decide), fun _ => ?_⟩) (fun r' hr' hi4 hsm => ⟨rg_small (by have := E3.hn; omega), fun _ => put M3 X2 r' F3 E3 (by omega) hi4 RF3 hiX2 hrX2 hsm, fun h => by omega⟩) (fun M4 hi4 RF4 s4 o4 rb4 e4 l4 z4 => ?_)
      · have hff : ¬ ((X2, false) : Xs × Bool).2 = true := Bool.false_ne_true
        rw [hgs, hi4, if_neg hff] at hgo2
        unfold cont at hgo2
        rw [if_neg hff] at hgo2
        exact h0 M3 (by rw [← hgo2]; exact hff) (by rw [← hgo2]; exact RF3) F3 (E3.mono (fun _ _ _ hP => Or.inl hP))
      have s4' : sv exl [20, 21] M3 M4 := s4.mono (by decide) (by decide)
      have E4 : EX M4 (Pf i k b) := E3.grow s4' o4 rb4 (Or.inr ⟨e4, l4, z4⟩)
      have F4 : FW M M4 i := F3.grow E3.hn.1 s4' o4 (s4.slot 21 (by decide)) (Or.inr ⟨e4, z4⟩)
      have hh := E3.hn
      exact ⟨rg_small (by omega), fun _ => put M4 (Xad X2 (Y.nx c b r)) _ F4 E4 (by omega) hi4 RF4 (by show i < X2.1 + 1; omega) (by show (if i = X2.1 then Y.nx c b r else X2.2 i) = r; rw [if_neg (by omega)]; exact hrX2) (by
        have e : (M3 331 20).toNat = X2.1 := by have := RF3.n; omega
        rw [e]
        show sme (if X2.1 = X2.1 then Y.nx c b r else X2.2 X2.1) (Y.nx c b r)
        rw [if_pos rfl]; exact ⟨rfl, rfl, rfl⟩), fun h => by omega⟩
/-- a game that was read, in its place -/
def gwf (M : fm_M) : Prop := ∀ c : Nat, (c : Int) < M 335 (M 331 6).toNat → 1 ≤ M 337 (10 * (M 331 6).toNat + c) ∧ (∀ b : Nat, (b : Int) < M 337 (10 * (M 331 6).toNat + c) → 1 ≤ M 339 (4 * (10 * (M 331 6).toNat + c) + b)) ∧ M 338 (10 * (M 331 6).toNat + c) = sm (M 337 (10 * (M 331 6).toNat + c)).toNat (fun b => M 339 (4 * (10 * (M 331 6).toNat + c) + b))
theorem EX.gw {M : fm_M} (h : EX M (fun j _ _ => j < (Gof M).n)) (g : gwf M) : GW M := by
  have hn := h.hn
  have en : (Gof M).n = (M 331 20).toNat := rfl
  obtain ⟨G, hG, hG1⟩ : ∃ G : Nat, M 331 6 = G ∧ G ≤ 1 := ⟨(M 331 6).toNat, by have := h.hg; omega, by have := h.hg; omega⟩
  have hcc : ∀ i, i < (Gof M).n → 0 ≤ M 349 i ∧ M 349 i ≤ 10 := fun i hi => h.rb.g 349 8 0 10 (by decide) (by omega)
  have ecc : ∀ i, (Gof M).cc i = (M 349 i).toNat := fun _ => rfl
  -- a choice is a command
  have key : ∀ i k, i < (Gof M).n → k < (Gof M).cc i → ∃ c : Nat, M 348 (10 * i + k) = c ∧ c < 10 ∧ gi M i k = 10 * G + c ∧ (c : Int) < M 335 G := fun i k hi hk => by
    have h1 := hcc i hi
    have h2 := h.rb.g 348 80 0 9 (by decide) (x := 10 * i + k) (by rw [ecc] at hk; omega)
    have h3 := h.cm i k hi hk
    rw [hG, Int.toNat_natCast] at h3
    exact ⟨(M 348 (10 * i + k)).toNat, by omega, by omega, by unfold gi; rw [hG]; omega, by omega⟩
  unfold gwf at g
  rw [hG, Int.toNat_natCast] at g
  have hnb : ∀ i k, (Gof M).nb i k = (M 337 (gi M i k)).toNat := fun _ _ => rfl
  refine ⟨hn, by omega, hcc, fun i hi => ?_, fun i hi => ?_, fun i k hi hk => ?_, fun i k hi hk => ?_, fun i k b hi hk hb => ?_, fun i k hi hk => ?_, fun i k b hi hk hb => ⟨(h.to i k b hi hk hb hi).1, (h.to i k b hi hk hb hi).2.1⟩, h.tgc⟩
  · have := h.rb.g 346 8 0 1 (by decide) (x := i) (by omega); omega
  · have := h.rb.g 347 8 0 1 (by decide) (x := i) (by omega); omega
  · obtain ⟨c, e, h1, _⟩ := key i k hi hk; omega
  · obtain ⟨c, e, h1, e2, h2⟩ := key i k hi hk
    rw [e2]
    have := h.rb.g 337 20 0 4 (by decide) (x := 10 * G + c) (by omega)
    exact ⟨(g c h2).1, this.2⟩
  · obtain ⟨c, e, h1, e2, h2⟩ := key i k hi hk
    rw [hnb, e2] at hb
    have h3 := h.rb.g 337 20 0 4 (by decide) (x := 10 * G + c) (by omega)
    have h4 := h.rb.g 339 80 0 6 (by decide) (x := 4 * (10 * G + c) + b) (by omega)
    rw [e2]
    exact ⟨(g c h2).2.1 b (by omega), h4.2⟩
  · obtain ⟨c, e, h1, e2, h2⟩ := key i k hi hk
    have h3 := h.rb.g 338 20 0 6 (by decide) (x := 10 * G + c) (by omega)
    have h4 : (Gof M).wo i k = sm (M 337 (10 * G + c)).toNat (fun b => M 339 (4 * (10 * G + c) + b)) := by
      show sm (M 337 (gi M i k)).toNat (fun b => M 339 (4 * gi M i k + b)) = _; rw [e2]
    rw [h4, e2]
    exact ⟨(g c h2).2.2, h3.2⟩
/-- between the calls, while a game is there -/
def EX0 (M : fm_M) : Prop := EX M (fun _ _ _ => False)
/-- what the search has come to -/
def RR (Y : Ga) (r : Int) (M : fm_M) : Prop := RF Y (SR Y).1 (SR Y).2.1 M ∧ M 331 21 = (SR Y).2.2.1 ∧ r = (SR Y).2.2.2
theorem spec_explore {M : fm_M} (h : RB M) (hg : M 331 6 = 0 ∨ M 331 6 = 1) {Y : Ga} (hy : RY Y (M 331 6).toNat M) {post : Int → fm_M → Prop} {thr : String → fm_M → Prop}
    (hp : ∀ r M', r < 0 ∧ -10 ≤ r → RR Y r M' → sv exl [20, 21] M M' → EX0 M' → post r M') (hq : ∀ r M', 0 ≤ r ∧ r ≤ 8 → RR Y r M' → sv exl [20, 21] M M' → EX M' (fun j _ _ => j < (Gof M').n) → post r M') : wp_Mo_explore M post thr := by
  obtain ⟨G, hG, hG1⟩ : ∃ G : Nat, M 331 6 = G ∧ G ≤ 1 := ⟨(M 331 6).toNat, by omega, by omega⟩
  rw [hG, Int.toNat_natCast] at hy
  unfold wp_Mo_explore
  intro M1 e1 M2 e2
  have s2 : sv exl [20, 21] M M2 := by rw [e2, e1]; exact (sv.refl.us (by decide)).us (by decide)
  have rb2 : RB M2 := by rw [e2, e1]; exact (h.o (by decide) _ _).o (by decide) _ _
  have n2 : M2 331 20 = 0 := by rw [e2, fu_at, if_neg (by decide), e1, fu_at, if_pos rfl]
  have x2 : M2 331 21 = -1 := by rw [e2, fu_at, if_pos rfl]
  refine ⟨fun M' v1 => ∃ v : Nat, v1 = v ∧ v ≤ 3 ∧ sv exl [20, 21] M M' ∧ RB M' ∧ M' 331 20 = 0 ∧ M' 331 21 = -1 ∧ ∀ x, x < v → M' 351 x = Y.fi x, fun _ v1 => (3 - v1).toNat, ⟨0, rfl, by omega, s2, rb2, n2, x2, fun x hx => by omega⟩, ?_⟩
  rintro M3 v1 ⟨v, rfl, hv, s3, rb3, n3, x3, f3⟩
  have g3 : M3 331 6 = G := by rw [s3.slot 6 (by decide)]; exact hG
  unfold C_Mo_explore_12
  rw [g3, show ((3 * (G : Int)) + (v : Int)).toNat = 3 * G + v by omega]
  refine ⟨rg_small (by omega), fun h4 => ?_, fun h4 => ⟨by omega, by omega, fun M4 e4 => ⟨⟨v + 1, by omega, by omega, by rw [e4]; exact s3.u (by decide) (by decide), ?_, by rw [e4, fu_off _ _ _ (by decide)]; exact n3, by rw [e4, fu_off _ _ _ (by decide)]; exact x3, fun x hx => by
    rw [e4, fu_at, Int.toNat_natCast]
    by_cases e : x = v
    · rw [if_pos e, s3.cell 334 (by decide) (by decide), e]; exact hy.fi v (by omega)
    · rw [if_neg e]; exact f3 x (by omega)⟩, by dsimp only; omega⟩⟩⟩
  · have E3 : EX M3 (fun j _ _ => j < 0) := by
      have : (Gof M3).n = 0 := by show (M3 331 20).toNat = 0; rw [n3]; rfl
      refine ⟨rb3, by rw [s3.slot 6 (by decide)]; exact hg, by omega, ?_, ?_, ?_⟩ <;> rw [this]
      · intro j k hj; omega
      · intro j hj; omega
      · intro j k b hj; omega
    -- the loop over the states
    have main : ∀ (M4 : fm_M) (r : Int), 0 ≤ r → sv exl [20, 21] M M4 → EX M4 (fun j _ _ => j < 0) → (∀ j, j < (Gof M4).n → M4 349 j = 0) → RF Y (Xad (0, fun _ _ => 0) Y.fi) 0 M4 → M4 331 21 = -1 → r = 0 → B_Mo_explore_47 post thr M4 r := by
      intro M4 r hr s4 E4 z4 RF4 x4 hr0
      subst hr0
      refine ⟨fun M' v1 => ∃ i : Nat, v1 = i ∧ i ≤ (Gof M').n ∧ sv exl [20, 21] M M' ∧ EX M' (fun j _ _ => j < i) ∧ (∀ j, i ≤ j → j < (Gof M').n → M' 349 j = 0) ∧ ∃ X : Xs, goI Y (8 - i) i X = SR Y ∧ RF Y X i M' ∧ M' 331 21 = -1, fun _ v1 => (8 - v1).toNat, ⟨0, rfl, by omega, s4, E4, fun j _ hj => z4 j hj, _, rfl, RF4, x4⟩, ?_⟩
      rintro M5 v1 ⟨i, rfl, hi, s5, E5, z5, X, hgo, RF5, x5⟩
      have hn := E5.hn
      have en : (Gof M5).n = (M5 331 20).toNat := rfl
      have hXn := RF5.n
      have hX8 := RF5.n8
      have hy5 : RY Y (M5 331 6).toNat M5 := by rw [s5.slot 6 (by decide), hG, Int.toNat_natCast]; exact hy.same (fun a h1 h2 => s5.cell a (by simp; omega) (by omega))
      have stop : ¬ i < X.1 → SR Y = ((X, i, -1, (X.1 : Int)) : Rs) := fun hne => by
        rw [← hgo]
        cases 8 - i with
        | zero => rfl
        | succ f => rw [goI, if_neg hne]
      unfold C_Mo_explore_47
      refine ⟨rg_small (by omega), rg_small (by omega), fun h6 => hq _ M5 hn (by
        unfold RR; rw [stop (by omega)]; exact ⟨RF5, x5, hXn⟩) s5 (by rw [show (Gof M5).n = i by omega]; exact E5), fun h6 => ?_⟩
      have hi' : i < (Gof M5).n := by omega
      have hiX : i < X.1 := by omega
      rw [show 8 - i = (8 - (i + 1)) + 1 by omega, goI, if_pos hiX] at hgo
      refine spec_enable hy5 RF5 E5 hi' (z5 i (Nat.le_refl _) hi') (fun r M6 hr hmix RF6 y6 s6 E6 n6 o6 => ⟨rg_small (by omega), fun h0 => ?_, fun h0 M7 e7 => ?_⟩)
      · rw [if_neg (fun hh => by rw [hmix.mpr hh] at h0; exact absurd h0 (by decide))] at hgo
        have x6 : M6 331 21 = -1 := by rw [y6]; exact x5
        refine spec_follow (by rw [s6.slot 6 (by decide)]; exact hy5.same (fun a h1 h2 => s6.cell a (by simp; omega) (by omega))) RF6 E6 (by rw [n6]; exact hi') (fun j h1 h2 => by rw [o6 j (by omega)]; exact z5 j (by omega) (by rw [← n6]; exact h2)) (fun M7 hok RF7 F7 E7 => ⟨rg_small (by decide), fun _ => ⟨⟨i + 1, by omega, ?_, (s5.tr s6).tr F7.s, E7, fun j h1 h2 => F7.z j (by omega) h2, _, by rw [if_pos hok] at hgo; exact hgo, RF7, by rw [F7.x21]; exact x6⟩, by dsimp only; omega⟩, fun h => absurd h (by decide)⟩) (fun M7 hok RF7 F7 E7 => ⟨rg_small (by decide), fun h => absurd rfl h, fun _ => hp _ M7 (by omega) (by rw [if_neg hok] at hgo; unfold RR; rw [← hgo]; exact ⟨RF7, by rw [F7.x21]; exact x6, rfl⟩) ((s5.tr s6).tr F7.s) (E7.mono (fun _ _ _ hF => hF.elim))⟩)
        have := F7.n; omega
      · rw [if_pos (hmix.mp (by omega))] at hgo
        refine hp _ M7 (by omega) (by unfold RR; rw [← hgo]; exact ⟨RF6.same (by rw [e7, fu_at, if_neg (by decide)]) (fun a h1 h2 => by rw [e7, fu_off _ _ _ (by omega)]), by rw [e7, fu_at, if_pos rfl], rfl⟩) (by rw [e7]; exact (s5.tr s6).us (by decide)) ?_
        have e : ∀ a, a ≠ 331 → M7 a = M6 a := fun a ha => by rw [e7]; exact fu_off _ _ _ ha
        have a20 : M7 331 20 = M6 331 20 := by rw [e7, fu_at, if_neg (by decide)]
        exact E6.mono (fun _ _ _ hF => hF.elim) |>.grow (by rw [e7]; exact sv.refl.us (by decide)) ⟨fun j _ => by rw [e 346 (by decide)], fun j _ => by rw [e 347 (by decide)], fun j _ => by rw [e 349 (by decide)], by rw [e 348 (by decide)], fun x _ => by rw [e 350 (by decide)], fun j w _ _ => by rw [e 345 (by decide)]⟩ (by rw [e7]; exact E6.rb.o (by decide) _ _) (Or.inl a20)
    have en3 : (Gof M3).n = 0 := by show (M3 331 20).toNat = 0; rw [n3]; rfl
    have RF3 : RF Y (0, fun _ _ => 0) 0 M3 := ⟨n3, by decide, fun i hi => absurd hi (Nat.not_lt_zero _), fun i v hi => absurd hi (Nat.not_lt_zero _), fun i hi => absurd hi (Nat.not_lt_zero _), fun i hi => absurd hi (Nat.not_lt_zero _), fun i hi => absurd hi (Nat.not_lt_zero _), fun i hi => absurd hi (Nat.not_lt_zero _), fun i hi => absurd hi (Nat.not_lt_zero _)⟩
    have hy3 : RY Y (M3 331 6).toNat M3 := by rw [g3, Int.toNat_natCast]; exact hy.same (fun a h1 h2 => s3.cell a (by simp; omega) (by omega))
    have hi0 : ins (0, fun _ _ => 0) Y.fi = (Xad (0, fun _ _ => 0) Y.fi, true) := by
      unfold ins
      rw [if_neg (fun ⟨j, hj, _⟩ => absurd hj (Nat.not_lt_zero _)), if_neg (by decide)]
    refine f_find rb3 E3.hg hy3 RF3 (by omega) (s := Y.fi) (fun v hv => f3 v (by omega)) hy.w.okf (fun hi => ?_) (fun i hi => by omega) (fun M4 _ RF4 s4 o4 rb4 a4 l4 z4 => ?_)
    · rw [hi0] at hi
      have := congrArg Prod.snd hi
      exact absurd this.symm Bool.false_ne_true
    rw [n3]
    refine main M4 0 (by omega) (s3.tr (s4.mono (by decide) (by decide))) (E3.grow (s4.mono (by decide) (by decide)) o4 rb4 (Or.inr ⟨a4, l4, z4⟩)) (fun j hj => ?_) RF4 (by rw [s4.slot 21 (by decide)]; exact x3) rfl
    have : (Gof M4).n = (M4 331 20).toNat := rfl
    rw [show j = (Gof M3).n by omega]; exact z4
  · rw [e4]
    have := rb3.g 334 6 0 9 (by decide) (x := 3 * G + v) (by omega)
    exact rb3.u 351 3 0 9 (by decide) _ _ this
end Pu_O
