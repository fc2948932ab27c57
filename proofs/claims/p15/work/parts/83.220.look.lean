set_option maxRecDepth 10000
section Pu_N
/-- while the enabled commands are sought -/
def enI (Y : Ga) (X : Xs) (i : Nat) (M : fm_M) (c : Nat) (v2 : Int) (M' : fm_M) : Prop := M' 349 i = ec Y (X.2 i) c ∧ (∀ c', c' < c → ene Y (X.2 i) c' = true → M' 348 (10 * i + ec Y (X.2 i) c') = c') ∧ (M' 347 i = 1 ↔ exm Y (X.2 i) c true) ∧ (v2 = 1 ↔ exm Y (X.2 i) c false) ∧ M' 345 = M 345 ∧ (∀ j, j ≠ i → M' 347 j = M 347 j) ∧ (∀ x, ¬ (10 * i ≤ x ∧ x < 10 * i + 10) → M' 348 x = M 348 x) ∧ M' 331 21 = M 331 21
theorem enI.skip {Y : Ga} {X : Xs} {i c : Nat} {M M' : fm_M} {v2 : Int} (h : enI Y X i M c v2 M') (he : ¬ ene Y (X.2 i) c = true) : enI Y X i M (c + 1) v2 M' := by
  obtain ⟨h1, h2, h3, h4, h5⟩ := h
  refine ⟨by rw [ec, if_neg he]; exact h1, fun c' hc' he' => ?_, by rw [exm_not he]; exact h3, by rw [exm_not he]; exact h4, h5⟩
  by_cases e : c' = c
  · rw [e] at he'; exact absurd he' he
  · exact h2 c' (by omega) he'
theorem spec_enable {M : fm_M} {i : Nat} {Y : Ga} {X : Xs} (hy : RY Y (M 331 6).toNat M) (F : RF Y X i M) (h : EX M (fun j _ _ => j < i)) (hi : i < (Gof M).n) (hc : M 349 i = 0) {post : Int → fm_M → Prop} {thr : String → fm_M → Prop}
    (h1 : ∀ r M', (r = 0 ∨ r = 1) → (r = 1 ↔ omx Y (X.2 i) ∧ omn Y (X.2 i)) → RF Y X (i + 1) M' → M' 331 21 = M 331 21 → sv exl [20, 21] M M' → EX M' (fun j _ _ => j < i) → (Gof M').n = (Gof M).n → (∀ j, j ≠ i → M' 349 j = M 349 j) → post r M') : wp_Mo_enable M i post thr := by
  have hn := h.hn
  have en : (Gof M).n = (M 331 20).toNat := rfl
  obtain ⟨G, hG, hG1⟩ : ∃ G : Nat, M 331 6 = G ∧ G ≤ 1 := ⟨(M 331 6).toNat, by have := h.hg; omega, by have := h.hg; omega⟩
  rw [hG, Int.toNat_natCast] at hy
  have hiX : i < X.1 := by have := F.n; omega
  have hC : M 335 G = Y.C := hy.c
  have hco := h.rb.g 335 2 0 10 (by decide) (x := G) (by omega)
  refine ⟨fun M' v2 v3 => ∃ c : Nat, v3 = c ∧ (c : Int) ≤ M 335 G ∧ (v2 = 0 ∨ v2 = 1) ∧ sv exl [20, 21] M M' ∧ EX M' (fun j _ _ => j < i) ∧ (Gof M').n = (Gof M).n ∧ (∀ j, j ≠ i → M' 349 j = M 349 j) ∧ 0 ≤ M' 349 i ∧ M' 349 i ≤ c ∧ M' 346 = M 346 ∧ enI Y X i M c v2 M', fun _ _ v3 => (10 - v3).toNat, ⟨0, rfl, by omega, Or.inl rfl, sv.refl, h, rfl, fun _ _ => rfl, by omega, by omega, rfl, hc, fun c' hc' => by omega, ⟨fun hh => by rw [(F.z i hiX (by omega)).2] at hh; exact absurd hh (by decide), fun hh => absurd hh exm_0⟩, ⟨fun hh => absurd hh (by decide), fun hh => absurd hh exm_0⟩, rfl, fun _ _ => rfl, fun _ _ => rfl, rfl⟩, ?_⟩
  rintro M1 v2 v3 ⟨c, rfl, hc1, hv2, s1, E1, n1, o1, c1, c2, t1, I1⟩
  have rv : rg v2 := rg_small (by rcases hv2 with e | e <;> rw [e] <;> decide)
  have s1e : M1 331 20 = M 331 20 := by
    have a : (M1 331 20).toNat = (M 331 20).toNat := n1
    have := E1.hn; omega
  have g1 : M1 331 6 = G := by rw [s1.slot 6 (by decide)]; exact hG
  have hm := E1.rb.g 347 8 0 1 (by decide) (x := i) (by omega)
  have ht := E1.rb.g 346 8 0 1 (by decide) (x := i) (by omega)
  have tgt : ¬ M1 346 i = 0 → Y.tg (X.2 i) = true := fun hne => by
    rw [t1, F.tg i hiX] at hne
    by_cases e : Y.tg (X.2 i) = true
    · exact e
    · rw [if_neg e] at hne; exact absurd rfl hne
  have mo : M 335 G ≤ (c : Int) → (M1 347 i = 1 ↔ omx Y (X.2 i)) := fun h3 => by
    have := I1.2.2.1
    rw [show c = Y.C by omega] at this; exact this
  have mi : M 335 G ≤ (c : Int) → (v2 = 1 ↔ omn Y (X.2 i)) := fun h3 => by
    have := I1.2.2.2.1
    rw [show c = Y.C by omega] at this; exact this
  have rf : M 335 G ≤ (c : Int) → RF Y X (i + 1) M1 := fun h3 => by
    obtain ⟨a1, a2, a3, a4, a5, a6, a7, _⟩ := I1
    have hcC : c = Y.C := by omega
    have hx8 := F.n8
    have hec : ∀ j c', c' < Y.C → ec Y (X.2 j) c' < 10 := fun j c' hc' => by have := ec_le Y (X.2 j) c'; have := hy.w.c10; omega
    rw [hcC] at a1 a2 a3
    refine ⟨by rw [s1e]; exact F.n, F.n8, F.ok, fun j v hj hv => by rw [a5]; exact F.st j v hj hv, fun j hj => by rw [t1]; exact F.tg j hj, fun j hj hl => ?_, fun j hj hl c' hc' he' => ?_, fun j hj hl => ?_, fun j hj hl => ?_⟩
    · by_cases e : j = i
      · rw [e]; exact a1
      · rw [o1 j e]; exact F.cn j hj (by omega)
    · by_cases e : j = i
      · rw [e] at he' ⊢; exact a2 c' hc' he'
      · have := hec j c' hc'
        rw [a7 _ (by omega)]; exact F.ch j hj (by omega) c' hc' he'
    · by_cases e : j = i
      · rw [e]; exact a3
      · rw [a6 j e]; exact F.mx j hj (by omega)
    · rw [o1 j (by omega), a6 j (by omega)]; exact F.z j hj (by omega)
  unfold C_Mo_enable_4
  rw [g1, Int.toNat_natCast, Int.toNat_natCast, s1.cell 335 (by decide) (by decide)]
  refine ⟨by omega, rg_small (by omega), rg_small (by omega), fun h3 => ⟨by omega, rg_small (by omega), fun hz => h1 0 M1 (Or.inl rfl) ⟨fun hh => absurd hh (by decide), fun hh => by have := (mo h3).mpr hh.1; clear hh; omega⟩ (rf h3) I1.2.2.2.2.2.2.2 s1 E1 n1 o1, fun hz => ⟨rv, fun hv => h1 0 M1 (Or.inl rfl) ⟨fun hh => absurd hh (by decide), fun hh => by have := (mi h3).mpr hh.2; clear hh; omega⟩ (rf h3) I1.2.2.2.2.2.2.2 s1 E1 n1 o1, fun hv => h1 1 M1 (Or.inr rfl) ⟨fun _ => ⟨(mo h3).mp (by omega), (mi h3).mp (by omega)⟩, fun _ => rfl⟩ (rf h3) I1.2.2.2.2.2.2.2 s1 E1 n1 o1⟩⟩, fun h3 => ⟨by omega, rg_small (by omega), fun h4 => ⟨⟨c + 1, by omega, by omega, hv2, s1, E1, n1, o1, c1, by omega, t1, I1.skip (by unfold ene; rw [tgt h4]; simp)⟩, by dsimp only; omega⟩, fun h4 => ?_⟩⟩
  have hcC : c < Y.C := by omega
  have htg : ¬ Y.tg (X.2 i) = true := fun hh => by rw [t1, F.tg i hiX, if_pos hh] at h4; exact absurd h4 (by decide)
  have hhy : rhol M1 (M1 331 6).toNat c (rho M1 i) ↔ Y.en c (X.2 i) = true := by
    rw [g1, Int.toNat_natCast]
    refine ((rhol_c E1.rb hG1 (by omega) (r' := X.2 i) (fun v hv => ?_)).trans (rhol_same (fun a h1 h2 => s1.cell a (by simp; omega) (by omega)) _ _ _)).trans (hy.en c hcC _ (F.ok i hiX))
    show M1 345 (3 * i + v) = _
    rw [I1.2.2.2.2.1]; exact F.st i v hiX hv
  refine spec_holds E1.rb E1.hg (by omega) (by omega) (fun hno => ⟨rg_small (by decide), fun _ => ⟨⟨c + 1, by omega, by omega, hv2, s1, E1, n1, o1, c1, by omega, t1, I1.skip (fun he => hno (hhy.mpr (by unfold ene at he; simp at he; exact he.2)))⟩, by dsimp only; omega⟩, fun h => absurd rfl h⟩) (fun hyes => ⟨rg_small (by decide), fun h => absurd h (by decide), fun _ => ⟨by omega, fun M2 e2 M3 e3 => ?_⟩⟩)
  have he : ene Y (X.2 i) c = true := by unfold ene; rw [hhy.mp hyes]; simp at htg; rw [htg]; rfl
  obtain ⟨q, hq⟩ : ∃ q : Nat, M1 349 i = q := ⟨(M1 349 i).toNat, by omega⟩
  have a2 : ∀ a, a ≠ 348 → M2 a = M1 a := fun a ha => by rw [e2]; exact fu_off _ _ _ ha
  have a3 : ∀ a, a ≠ 349 → M3 a = M2 a := fun a ha => by rw [e3]; exact fu_off _ _ _ ha
  rw [hq, show ((10 * (i : Int)) + (q : Int)).toNat = 10 * i + q by omega] at e2
  rw [a2 349 (by decide), hq] at e3
  have rb2 : RB M2 := by rw [e2]; exact E1.rb.u 348 80 0 9 (by decide) _ _ (by omega)
  have rb3 : RB M3 := by rw [e3]; exact rb2.u 349 8 0 10 (by decide) _ _ (by omega)
  have s3 : sv exl [20, 21] M M3 := by rw [e3]; exact (show sv exl [20, 21] M M2 by rw [e2]; exact s1.u (by decide) (by decide)).u (by decide) (by decide)
  have c349 : ∀ j, M3 349 j = if j = i then (q : Int) + 1 else M1 349 j := fun j => by rw [e3, fu_at, a2 349 (by decide)]
  have c348 : ∀ x, M3 348 x = if x = 10 * i + q then (c : Int) else M1 348 x := fun x => by rw [a3 348 (by decide), e2, fu_at]
  have e331 : M3 331 = M1 331 := by rw [a3 331 (by decide), a2 331 (by decide)]
  -- the search stands as before
  have E3 : EX M3 (fun j _ _ => j < i) := by
    have n3 : (Gof M3).n = (Gof M1).n := by show (M3 331 20).toNat = (M1 331 20).toNat; rw [e331]
    refine ⟨rb3, by rw [e331]; exact E1.hg, by rw [e331]; exact E1.hn, fun j k hj hk => ?_, fun j hj htj => ?_, fun j k b hj hk hb hP => ?_⟩
    · rw [n3] at hj
      have hk' : k < (M3 349 j).toNat := hk
      have hj8 : j < 8 := by have := E1.hn; have : (Gof M1).n = (M1 331 20).toNat := rfl; omega
      have hcj := rb3.g 349 8 0 10 (by decide) (x := j) hj8
      rw [c348, e331, g1, a3 335 (by decide), a2 335 (by decide), s1.cell 335 (by decide) (by decide), Int.toNat_natCast]
      by_cases e : 10 * j + k = 10 * i + q
      · rw [if_pos e]; omega
      · rw [if_neg e]
        have := E1.cm j k hj (by
          show k < (M1 349 j).toNat
          rw [c349] at hk'
          by_cases e4 : j = i
          · subst e4; rw [if_pos rfl] at hk'; omega
          · rw [if_neg e4] at hk'; exact hk')
        rw [g1, s1.cell 335 (by decide) (by decide), Int.toNat_natCast] at this; exact this
    · rw [n3] at hj
      rw [a3 346 (by decide), a2 346 (by decide)] at htj
      rw [c349]
      by_cases e : j = i
      · subst e; exact absurd h4 htj
      · rw [if_neg e]; exact E1.tgc j hj htj
    · rw [n3] at hj
      have hji : j ≠ i := by omega
      have hk' : k < (Gof M1).cc j := by
        have : k < (M3 349 j).toNat := hk
        rw [c349, if_neg hji] at this; exact this
      have hj8 : j < 8 := by omega
      have hk10 : k < 10 := by have : k < (M1 349 j).toNat := hk'; have := E1.rb.g 349 8 0 10 (by decide) (x := j) hj8; omega
      have hgi : gi M3 j k = gi M1 j k := by unfold gi; rw [e331, c348, if_neg (by omega)]
      have hb' : b < (Gof M1).nb j k := by
        have : b < (M3 337 (gi M3 j k)).toNat := hb
        rw [hgi, a3 337 (by decide), a2 337 (by decide)] at this; exact this
      obtain ⟨t1, t2, t3⟩ := E1.to j k b hj hk' hb' hP
      have e350 : M3 350 = M1 350 := by rw [a3 350 (by decide), a2 350 (by decide)]
      have e345 : M3 345 = M1 345 := by rw [a3 345 (by decide), a2 345 (by decide)]
      have h348 := E1.rb.g 348 80 0 9 (by decide) (x := 10 * j + k) (by omega)
      have h337 := E1.rb.g 337 20 0 4 (by decide) (x := gi M1 j k) (by unfold gi; omega)
      have hnb : (Gof M1).nb j k = (M1 337 (gi M1 j k)).toNat := rfl
      exact ⟨by rw [e350]; exact t1, by rw [e350, e331]; exact t2, ldq_same E1.rb (by omega) (by omega) (by omega) (by rw [e331]) (fun a h1 h2 => by rw [a3 a (by omega), a2 a (by omega)]) (by rw [e350]) (by rw [c348, if_neg (by omega)]) (fun v _ => by unfold rho; rw [e345]) (fun v _ => by unfold rho; rw [e345]) t3⟩
  have hm3 : M3 347 i = M1 347 i := by rw [a3 347 (by decide), a2 347 (by decide)]
  have fin : ∀ s0 : Int, (s0 = 0 ∨ s0 = 1) → (s0 = 1 ↔ M1 347 i = 1 ∨ Y.mx c = true) → B_Mo_enable_98 i post thr (fun M'_1 v2' v3' => (∃ c : Nat, v3' = c ∧ (c : Int) ≤ M 335 G ∧ (v2' = 0 ∨ v2' = 1) ∧ sv exl [20, 21] M M'_1 ∧ EX M'_1 (fun j _ _ => j < i) ∧ (Gof M'_1).n = (Gof M).n ∧ (∀ j, j ≠ i → M'_1 349 j = M 349 j) ∧ 0 ≤ M'_1 349 i ∧ M'_1 349 i ≤ c ∧ M'_1 346 = M 346 ∧ enI Y X i M c v2' M'_1) ∧ (10 - v3').toNat < (10 - (c : Int)).toNat) M3 v2 c s0 := by
    intro s0 hs0 hs1
    unfold B_Mo_enable_98
    rw [Int.toNat_natCast]
    refine ⟨by omega, hs0, fun M4 e4 => ?_⟩
    have a4 : ∀ a, a ≠ 347 → M4 a = M3 a := fun a ha => by rw [e4]; exact fu_off _ _ _ ha
    have rb4 : RB M4 := by rw [e4]; exact rb3.u 347 8 0 1 (by decide) _ _ (by omega)
    have E4 : EX M4 (fun j _ _ => j < i) := by
      have hG4 : ∀ j k, gi M4 j k = gi M3 j k := fun j k => by unfold gi; rw [a4 331 (by decide), a4 348 (by decide)]
      have e1 : (Gof M4).n = (Gof M3).n := by show (M4 331 20).toNat = (M3 331 20).toNat; rw [a4 331 (by decide)]
      have e5 : (Gof M4).cc = (Gof M3).cc := by funext j; show (M4 349 j).toNat = (M3 349 j).toNat; rw [a4 349 (by decide)]
      have e6 : (Gof M4).nb = (Gof M3).nb := by funext j k; show (M4 337 _).toNat = (M3 337 _).toNat; rw [a4 337 (by decide), hG4]
      refine ⟨rb4, by rw [a4 331 (by decide)]; exact E3.hg, by rw [a4 331 (by decide)]; exact E3.hn, ?_, ?_, ?_⟩
      · rw [e1, e5, a4 348 (by decide), a4 331 (by decide), a4 335 (by decide)]; exact E3.cm
      · rw [e1, a4 346 (by decide), a4 349 (by decide)]; exact E3.tgc
      · intro j k b hj hk hb hP
        rw [e1] at hj; rw [e5] at hk; rw [e6] at hb
        obtain ⟨t1, t2, t3⟩ := E3.to j k b hj hk hb hP
        exact ⟨by rw [a4 350 (by decide)]; exact t1, by rw [a4 350 (by decide), a4 331 (by decide)]; exact t2, ldq_cell (fun a ha => a4 a (by omega)) (by rw [a4 331 (by decide)]) t3⟩
    have st : ∀ z : Int, (z = 0 ∨ z = 1) → (z = 1 ↔ v2 = 1 ∨ Y.mx c = false) → (fun M'_1 v2' v3' => (∃ c : Nat, v3' = c ∧ (c : Int) ≤ M 335 G ∧ (v2' = 0 ∨ v2' = 1) ∧ sv exl [20, 21] M M'_1 ∧ EX M'_1 (fun j _ _ => j < i) ∧ (Gof M'_1).n = (Gof M).n ∧ (∀ j, j ≠ i → M'_1 349 j = M 349 j) ∧ 0 ≤ M'_1 349 i ∧ M'_1 349 i ≤ c ∧ M'_1 346 = M 346 ∧ enI Y X i M c v2' M'_1) ∧ (10 - v3').toNat < (10 - (c : Int)).toNat : fm_M → Int → Int → Prop) M4 z ((c : Int) + 1) := fun z hz hz1 => by
      refine ⟨⟨c + 1, by omega, by omega, hz, by rw [e4]; exact s3.u (by decide) (by decide), E4, ?_, fun j hj => ?_, ?_, ?_, ?_, ?_⟩, by omega⟩
      · show (M4 331 20).toNat = _; rw [a4 331 (by decide), e331]; exact n1
      · rw [a4 349 (by decide), c349, if_neg hj]; exact o1 j hj
      · rw [a4 349 (by decide), c349, if_pos rfl]; omega
      · rw [a4 349 (by decide), c349, if_pos rfl]; omega
      · rw [a4 346 (by decide), a3 346 (by decide), a2 346 (by decide)]; exact t1
      · obtain ⟨i1, i2, i3, i4, i5, i6, i7, i8⟩ := I1
        have hqe : q = ec Y (X.2 i) c := by omega
        refine ⟨by rw [a4 349 (by decide), c349, if_pos rfl, ec, if_pos he]; omega, fun c' hc' he' => ?_, ?_, ?_, by rw [a4 345 (by decide), a3 345 (by decide), a2 345 (by decide)]; exact i5, fun j hj => by rw [e4, fu_at, if_neg hj, a3 347 (by decide), a2 347 (by decide)]; exact i6 j hj, fun x hx => by rw [a4 348 (by decide), c348, if_neg (by omega)]; exact i7 x hx, by rw [a4 331 (by decide), e331]; exact i8⟩
        · rw [a4 348 (by decide), c348]
          by_cases e : c' = c
          · rw [if_pos (by rw [e]; omega), e]
          · have := ec_lt (C := c) (by omega) he'
            rw [if_neg (by omega)]; exact i2 c' (by omega) he'
        · rw [exm_and he, e4, fu_at, if_pos rfl, hs1, i3]
        · rw [exm_and he, hz1, i4]
    have hmx := rb4.g 336 20 0 1 (by decide) (x := 10 * G + c) (by omega)
    rw [a4 331 (by decide), e331, g1, show ((10 * (G : Int)) + (c : Int)).toNat = 10 * G + c by omega]
    have hmm : M4 336 (10 * G + c) = if Y.mx c = true then 1 else 0 := by rw [a4 336 (by decide), a3 336 (by decide), a2 336 (by decide), s1.cell 336 (by decide) (by decide)]; exact hy.mx c hcC
    rw [hmm] at hmx ⊢
    exact ⟨rv, fun hv => st 1 (Or.inr rfl) ⟨fun _ => Or.inl (by omega), fun _ => rfl⟩, fun hv => ⟨by omega, rg_small (by omega), fun hm => st 0 (Or.inl rfl) ⟨fun hh => absurd hh (by decide), fun hh => by
      rcases hh with hh | hh
      · omega
      · rw [hh] at hm; exact absurd rfl hm⟩, fun hm => st 1 (Or.inr rfl) ⟨fun _ => Or.inr (by
        cases hh : Y.mx c with
        | false => rfl
        | true => rw [hh, if_pos rfl] at hm; exact absurd hm (by decide)), fun _ => rfl⟩⟩⟩
  have hmx := rb3.g 336 20 0 1 (by decide) (x := 10 * G + c) (by omega)
  rw [hm3, e331, g1, show ((10 * (G : Int)) + (c : Int)).toNat = 10 * G + c by omega]
  have hmm : M3 336 (10 * G + c) = if Y.mx c = true then 1 else 0 := by rw [a3 336 (by decide), a2 336 (by decide), s1.cell 336 (by decide) (by decide)]; exact hy.mx c hcC
  rw [hmm] at hmx ⊢
  exact ⟨rg_small (by omega), fun hv => fin 1 (Or.inr rfl) ⟨fun _ => Or.inl (by omega), fun _ => rfl⟩, fun hv => ⟨by omega, rg_small (by omega), fun hm => fin 0 (Or.inl rfl) ⟨fun hh => absurd hh (by decide), fun hh => by
    rcases hh with hh | hh
    · omega
    · rw [hh, if_pos rfl] at hm; exact absurd hm (by decide)⟩, fun hm => fin 1 (Or.inr rfl) ⟨fun _ => Or.inr (by
      cases hh : Y.mx c with
      | true => rfl
      | false => rw [hh] at hm; exact absurd rfl hm), fun _ => rfl⟩⟩⟩
theorem spec_takeBranch {M : fm_M} (h : RB M) (hg : M 331 6 = 0 ∨ M 331 6 = 1) {i c b : Nat} (hi : i < 8) (hc : c < 10) (hb : b < 4) {post : Int → fm_M → Prop} {thr : String → fm_M → Prop} (hp : ∀ M', ex1 351 M M' → RB M' → (∀ v, v < 3 → M' 351 v = rnx M (M 331 6).toNat c b (rho M i) v) → post 0 M') : wp_Mo_takeBranch M i c b post thr := by
  obtain ⟨G, hG, hG1⟩ : ∃ G : Nat, M 331 6 = G ∧ G ≤ 1 := ⟨(M 331 6).toNat, by omega, by omega⟩
  rw [hG, Int.toNat_natCast] at hp
  refine ⟨fun M' v4 => ∃ v : Nat, v4 = v ∧ v ≤ 3 ∧ ex1 351 M M' ∧ RB M' ∧ ∀ x, x < v → M' 351 x = rnx M G c b (rho M i) x, fun _ v4 => (3 - v4).toNat, ⟨0, rfl, by omega, ex1.rfl, h, fun x hx => by omega⟩, ?_⟩
  rintro M1 v4 ⟨v, rfl, hv, hx, rb, hd⟩
  have e331 : M1 331 = M 331 := hx 331 (by decide)
  unfold C_Mo_takeBranch_3
  refine ⟨rg_small (by omega), fun h4 => hp M1 hx rb (fun x hx => hd x (by omega)), fun h3 => ?_⟩
  unfold wp_Mo_updateAt
  rw [e331, hG]
  obtain ⟨u, hu⟩ : ∃ u : Nat, u = 208 * G + 88 + 12 * c + 3 * b + v := ⟨_, rfl⟩
  have eu : ((((208 * (G : Int)) + 88) + (12 * (c : Int))) + (3 * (b : Int))) + (v : Int) = (u : Int) := by omega
  rw [eu, Int.toNat_natCast]
  have hit := rb.g 342 416 0 4 (by decide) (x := u) (by omega)
  have hmo := rb.g 333 6 0 9 (by decide) (x := 3 * G + v) (by omega)
  have es : ∀ a, 333 ≤ a → a ≤ 344 → M1 a = M a := fun a _ _ => hx a (by omega)
  have er : rho M1 i = rho M i := by funext x; unfold rho; rw [hx 345 (by decide)]
  have put : ∀ s0 : Int, 0 ≤ s0 ∧ s0 ≤ 9 → s0 = rnx M G c b (rho M i) v → B_Mo_takeBranch_110 i c b post thr (fun M'_1 v4' => (∃ v : Nat, v4' = v ∧ v ≤ 3 ∧ ex1 351 M M'_1 ∧ RB M'_1 ∧ ∀ x, x < v → M'_1 351 x = rnx M G c b (rho M i) x) ∧ (3 - v4').toNat < (3 - (v : Int)).toNat) M1 v s0 v := fun s0 hs0 hs2 => ⟨by omega, fun M2 e2 => ⟨⟨v + 1, by omega, by omega, by rw [e2]; exact hx.u, by rw [e2]; exact rb.u 351 3 0 9 (by decide) _ _ hs0, fun x hx' => by
    rw [e2, fu_at, Int.toNat_natCast]
    by_cases e : x = v
    · rw [if_pos e, hs2, e]
    · rw [if_neg e]; exact hd x (by omega)⟩, by omega⟩⟩
  have fin : ∀ s0 : Int, (-400 ≤ s0 ∧ s0 ≤ 400) → ((0 < M1 342 u ∧ s0 = rsu M u (rho M i)) ∨ (M1 342 u ≤ 0 ∧ s0 = rho M i v ∧ 0 ≤ s0 ∧ s0 ≤ 9)) → B_Mo_takeBranch_53 i c b post thr (fun M'_1 v4' => (∃ v : Nat, v4' = v ∧ v ≤ 3 ∧ ex1 351 M M'_1 ∧ RB M'_1 ∧ ∀ x, x < v → M'_1 351 x = rnx M G c b (rho M i) x) ∧ (3 - v4').toNat < (3 - (v : Int)).toNat) M1 v u s0 := by
    intro s0 hs0 hs1
    have e342 : M1 342 u = M 342 u := by rw [hx 342 (by decide)]
    have e333 : M1 333 (3 * G + v) = M 333 (3 * G + v) := by rw [hx 333 (by decide)]
    have val : (s0 ≤ M1 333 (3 * G + v) ∨ M1 342 u ≤ 0) → rnx M G c b (rho M i) v = if 0 ≤ s0 then s0 else 0 := fun hor => by
      unfold rnx; rw [← hu, ← e342, ← e333]
      rcases hs1 with ⟨h1, h2⟩ | ⟨h1, h2, h3⟩
      · rw [if_pos h1, ← h2]; unfold clp; rw [if_neg (by omega)]
        by_cases e : s0 < 0
        · rw [if_pos e, if_neg (by omega)]
        · rw [if_neg e, if_pos (by omega)]
      · rw [if_neg (by omega), if_pos h3.1, h2]
    have e9 : (s0 ≤ M1 333 (3 * G + v) ∨ M1 342 u ≤ 0) → B_Mo_takeBranch_99 i c b post thr (fun M'_1 v4' => (∃ v : Nat, v4' = v ∧ v ≤ 3 ∧ ex1 351 M M'_1 ∧ RB M'_1 ∧ ∀ x, x < v → M'_1 351 x = rnx M G c b (rho M i) x) ∧ (3 - v4').toNat < (3 - (v : Int)).toNat) M1 v s0 v := fun h9 => ⟨rg_small (by omega), fun h0 => put s0 (by omega) (by rw [val h9, if_pos h0]), fun h0 => put 0 (by omega) (by rw [val h9, if_neg h0])⟩
    unfold B_Mo_takeBranch_53
    rw [e331, hG, Int.toNat_natCast, show ((3 * (G : Int)) + (v : Int)).toNat = 3 * G + v by omega]
    refine ⟨by omega, rg_small (by omega), rg_small (by omega), fun h5 => e9 (Or.inl h5), fun h5 => ⟨by omega, rg_small (by omega), fun h6 => e9 (Or.inr h6), fun h6 => put _ hmo ?_⟩⟩
    unfold rnx; rw [← hu, ← e342, ← e333, if_pos (by omega)]
    rcases hs1 with ⟨h1, h2⟩ | ⟨h1, _⟩
    · rw [← h2]; unfold clp; rw [if_pos (by omega)]
    · omega
  refine ⟨by omega, rg_small (by omega), fun h5 => ⟨by omega, fin _ ?_ (Or.inr ⟨h5, ?_, ?_⟩)⟩, fun h5 => spec_sumIn rb (by omega) hi (fun r hr er2 => fin r hr (Or.inl ⟨by omega, ?_⟩))⟩
  · have := rb.g 345 24 0 9 (by decide) (x := (3 * (i : Int) + (v : Int)).toNat) (by omega); omega
  · rw [← er]; show M1 345 _ = M1 345 _; congr 1
  · have := rb.g 345 24 0 9 (by decide) (x := (3 * (i : Int) + (v : Int)).toNat) (by omega); omega
  · rw [er2, er]; exact rsu_same es _ _
end Pu_N
