set_option maxRecDepth 10000
section Pu_cg
section Calls2
variable {T : Nat → Int} {n : Nat} {w : Int} {post : Int → fm_M → Prop} {thr : String → fm_M → Prop}
theorem txt0 {T : Nat → Int} : txt T 0 := ⟨by omega, fun p hp => by omega⟩
theorem CI.wipe' {M : fm_M} (h : CI T n w M) {M' : fm_M} (o : ∀ q, q ≠ 2 → M' q = M q) (l : M' 2 1 = 0) : CI T 0 w M' := by
  obtain ⟨g, k, hgk, e1, e2, c1, c2, F⟩ := h.gs
  refine ⟨txt0, l, fun p hp => by omega, ⟨g, k, hgk, by rw [o 1 (by decide)]; exact e1, by rw [o 142 (by decide)]; exact e2, c1.same (fun q h1 h2 => o q (by omega)), c2.same (fun q h1 h2 => o q (by omega)), ?_⟩, fun i x hi hx => by rw [o _ (by omega)]; exact h.nx i x hi hx, fun i hi => by rw [o 328 (by decide), o 330 (by decide)]; exact h.al i hi, by rw [o 0 (by decide)]; exact h.b5, by rw [o 0 (by decide)]; exact h.b6, by rw [o 1 (by decide)]; exact h.wr⟩
  rw [o k (by omega)]
  exact F.same (fun q hq => o q (by omega))
theorem RI.wipe' {M : fm_M} (h : RI T n w M) {M' : fm_M} (o : ∀ q, q ≠ 331 → M' q = M q) (b : ∀ x, x ≠ 0 → x ≠ 2 → M' 331 x = M 331 x) (l : M' 331 2 = 0) : RI T 0 w M' := by
  refine ⟨⟨txt0, l, fun p hp => by omega⟩, fun q hq x hx => by rw [o q.1 (RBt_ne q hq)]; exact h.rb q hq x hx, ?_, by rw [b 22 (by decide) (by decide)]; exact h.sl, by rw [b 4 (by decide) (by decide)]; exact h.wr⟩
  rcases h.hg with ⟨x1, x2⟩ | ⟨x1, x2, x3⟩
  · exact Or.inl ⟨by rw [b 6 (by decide) (by decide)]; exact x1, by rw [b 20 (by decide) (by decide)]; exact x2⟩
  · exact Or.inr ⟨by rw [b 6 (by decide) (by decide)]; exact x1, gwf_same x2 (b 6 (by decide) (by decide)) (fun q hq => o q (by omega)), x3.same (b 6 (by decide) (by decide)) (b 20 (by decide) (by decide)) (fun q h1 h2 => o q (by omega))⟩
/-- the class reads -/
theorem CI.read {M : fm_M} (h : CI T n w M) (ko : ∀ c q : Nat, pAll T n = .ok c q → c ≤ 10 → ∀ M', (∀ a, 331 ≤ a → M' a = M a) → CI T 0 w M' → CX 1 (Yof T n c) M' → post c M') (kb : ∀ b : Nat, pAll T n = .bad b → ∀ M', (∀ a, 331 ≤ a → M' a = M a) → CI T n b M' → (∀ st Y, CX st Y M → CX st Y M') → thr IAE M') : wp_CG_read M post thr := by
  obtain ⟨g, k, hgk, e1, e2, c1, c2, F⟩ := h.gs
  have hg : g = 4 ∨ g = 143 := by omega
  have hk : k = 4 ∨ k = 143 := by omega
  have S : CS T n g M := ⟨h.t, h.len, h.ch, by rw [e1]; rfl, hg⟩
  unfold wp_CG_read
  rw [e2, Int.toNat_natCast]
  refine c_readIn S c1 (fun c q M1 M2 hA f1 hc cc1 e M3 e3 M4 e4 M5 e5 M6 e6 M7 e7 => ?_) (fun b M1 hA f1 w1 => kb b hA M1 (fun a ha => f1.cell a (by omega) (by omega)) ?_ (fun st Y hx => hx.same hk e2 (fun a ha => f1.cell a (by omega) (by omega))))
  · have a1 : ∀ a, a ≠ 1 → ¬ (g ≤ a ∧ a < g + 137) → M1 a = M a := fun a h1 h2 => f1.cell a h1 (by omega)
    have cb1 := f1.cb c1
    rw [Int.toNat_natCast] at e3
    intro M8 e8 M9 e9 M10 e10
    -- what each step changes
    have o : ∀ a, a ≠ 0 → a ≠ 1 → a ≠ 2 → a ≠ 142 → M10 a = M1 a := fun a h0 h1 h2 h3 => by
      rw [e10, fu_off _ _ _ h2, e9, fu_off _ _ _ h0, e8, fu_off _ _ _ h0, e7, fu_off _ _ _ h3, e6, fu_off _ _ _ h3, e5, fu_off _ _ _ h3, e4, fu_off _ _ _ h3, e3, fu_off _ _ _ h3, e, fu_off _ _ _ h1]
    have f142 : M10 142 = M7 142 := by rw [e10, fu_off _ _ _ (by decide), e9, fu_off _ _ _ (by decide), e8, fu_off _ _ _ (by decide)]
    have z0 : M10 142 0 = g := by rw [f142, e7, fu_at, if_neg (by decide), e6, fu_at, if_neg (by decide), e5, fu_at, if_neg (by decide), e4, fu_at, if_neg (by decide), e3, fu_at, if_pos rfl]
    have z1 : M10 142 1 = 0 := by rw [f142, e7, fu_at, if_neg (by decide), e6, fu_at, if_neg (by decide), e5, fu_at, if_neg (by decide), e4, fu_at, if_pos rfl]
    have z4 : M10 142 4 = 0 := by rw [f142, e7, fu_at, if_neg (by decide), e6, fu_at, if_neg (by decide), e5, fu_at, if_pos rfl]
    have z2 : M10 142 2 = -1 := by rw [f142, e7, fu_at, if_pos rfl]
    have z3 : M10 142 3 = 0 := by rw [f142, e7, fu_at, if_neg (by decide), e6, fu_at, if_pos rfl]
    have y1 : M10 1 1 = k := by rw [e10, fu_off _ _ _ (by decide), e9, fu_off _ _ _ (by decide), e8, fu_off _ _ _ (by decide), e7, fu_off _ _ _ (by decide), e6, fu_off _ _ _ (by decide), e5, fu_off _ _ _ (by decide), e4, fu_off _ _ _ (by decide), e3, fu_off _ _ _ (by decide), e, fu_at, if_pos rfl]
    have x3 : M10 1 3 = w := by rw [e10, fu_off _ _ _ (by decide), e9, fu_off _ _ _ (by decide), e8, fu_off _ _ _ (by decide), e7, fu_off _ _ _ (by decide), e6, fu_off _ _ _ (by decide), e5, fu_off _ _ _ (by decide), e4, fu_off _ _ _ (by decide), e3, fu_off _ _ _ (by decide), e, fu_at, if_neg (by decide), f1.slot 3 (by decide)]; exact h.wr
    have x5 : M10 0 5 = 1 := by rw [e10, fu_off _ _ _ (by decide), e9, fu_at, if_neg (by decide), e8, fu_at, if_pos rfl]
    have x6 : M10 0 6 = 0 := by rw [e10, fu_off _ _ _ (by decide), e9, fu_at, if_pos rfl]
    have l10 : M10 2 1 = 0 := by rw [e10, fu_at, if_pos rfl]
    have hcg : 0 ≤ M1 g 4 ∧ M1 g 4 ≤ 10 := by
      have := cb1.g' (o := 0) (s := 4) (t := 5) (a := 0) (b := 10) (by decide) (x := 4) (by omega) (by omega)
      simpa using this
    have hg10 : (M10 142 0).toNat = g := by rw [z0]; rfl
    rw [hg10, o g (by omega) (by omega) (by omega) (by omega), hc]
    rw [hc] at hcg
    refine ⟨(tcG hg).1, ko c q hA (by omega) M10 (fun a ha => by rw [o a (by omega) (by omega) (by omega) (by omega), a1 a (by omega) (by omega)]) ⟨txt0, l10, fun p hp => by omega, ⟨k, g, by omega, y1, z0, ?_, ?_, ?_⟩, fun i x hi hx => ?_, fun i hi => ?_, Or.inr x5, Or.inl x6, x3⟩ ⟨fun hs => absurd hs (by decide), fun _ => ⟨x5, ?_⟩, fun _ => ⟨z1, z2, x6⟩, fun hs => absurd hs (by decide)⟩⟩
    · exact c2.same (fun a h1 h2 => by rw [o a (by omega) (by omega) (by omega) (by omega), a1 a (by omega) (by omega)])
    · exact cb1.same (fun a h1 h2 => o a (by omega) (by omega) (by omega) (by omega))
    · refine ⟨by omega, by omega, fun i v hi hv => ?_, fun v hv => ?_, fun i hi => by omega, by rw [z3]; exact rg_small (by decide)⟩
      · rw [o _ (by omega) (by omega) (by omega) (by omega), a1 _ (by omega) (by omega)]; exact F.val i v hi hv
      · rw [o 308 (by decide) (by decide) (by decide) (by decide), a1 308 (by omega) (by omega)]; exact F.com v hv
    · rw [o _ (by omega) (by omega) (by omega) (by omega), a1 _ (by omega) (by omega)]; exact h.nx i x hi hx
    · rw [o 328 (by decide) (by decide) (by decide) (by decide), a1 328 (by omega) (by omega), o 330 (by decide) (by decide) (by decide) (by decide), a1 330 (by omega) (by omega)]; exact h.al i hi
    · rw [z0, Int.toNat_natCast]
      exact (CY_of h.t hA (by omega) cb1 hc cc1).same (fun a h1 h2 => o a (by omega) (by omega) (by omega) (by omega))
  · have a1 : ∀ a, a ≠ 1 → ¬ (g ≤ a ∧ a < g + 137) → M1 a = M a := fun a h1 h2 => f1.cell a h1 (by omega)
    refine ⟨h.t, by rw [a1 2 (by decide) (by omega)]; exact h.len, by rw [a1 3 (by decide) (by omega)]; exact h.ch, ⟨g, k, hgk, by rw [f1.slot 1 (by decide) (by decide)]; exact e1, by rw [a1 142 (by decide) (by omega)]; exact e2, f1.cb c1, c2.same (fun a h1 h2 => a1 a (by omega) (by omega)), ?_⟩, fun i x hi hx => by rw [a1 _ (by omega) (by omega)]; exact h.nx i x hi hx, fun i hi => by rw [a1 328 (by decide) (by omega), a1 330 (by decide) (by omega)]; exact h.al i hi, by rw [a1 0 (by decide) (by omega)]; exact h.b5, by rw [a1 0 (by decide) (by omega)]; exact h.b6, w1⟩
    rw [a1 k (by omega) (by omega)]
    exact F.same (fun a ha => a1 a (by omega) (by omega))
/-- the reference reads -/
theorem RI.read {M : fm_M} (h : RI T n w M) (ko : ∀ c q : Nat, pAll T n = .ok c q → ∀ M', (∀ a, a ≤ 330 → M' a = M a) → M' 362 = M 362 → M' 331 0 = 0 → RI T 0 w M' → RX 1 (Yof T n c) M' → post c M') (kb : ∀ b : Nat, pAll T n = .bad b → ∀ M', (∀ a, a ≤ 330 → M' a = M a) → M' 331 0 = 1 → RI T n b M' → (∀ st Y, RX st Y M → RX st Y M') → post 0 M') : wp_Mo_read M post thr := by
  intro M0 e0
  have a0 : ∀ q, q ≠ 331 → M0 q = M q := fun q hq => by rw [e0]; exact fu_off _ _ _ hq
  have h0 : RI T n w M0 := h.same (fun q h1 h2 => a0 q (by omega)) (fun b hb => by rw [e0, fu_at, if_neg hb])
  have hg3 : M0 331 6 = -1 ∨ M0 331 6 = 0 ∨ M0 331 6 = 1 := by
    rcases h0.hg with ⟨a, _⟩ | ⟨a | a, _⟩
    · exact Or.inl a
    · exact Or.inr (Or.inl a)
    · exact Or.inr (Or.inr a)
  have low : ∀ (M' : fm_M) (bs : List Nat), sv cs12 bs M0 M' → ∀ a, a ≤ 330 → M' a = M a := fun M' _ s a ha => by
    rw [s.cell a (fun hh => by
      have : ∀ x ∈ cs12, 331 ≤ x := by decide
      have := this a hh; omega) (by omega)]
    exact a0 a (by omega)
  refine m_readAll h0.mt h0.rb hg3 (fun d c q M1 hd hgd hA s1 rb1 kp d1 c1 w1 mc1 => ⟨rg_small (by decide), fun _ M2 e2 M3 e3 M4 e4 M5 e5 M6 e6 => ?_, fun h => absurd h (by decide)⟩) (fun d x M1 hd hgd hA s1 rb1 kp w1 => ⟨rg_small (by decide), fun h => absurd rfl h, fun _ M2 e2 => kb x hA M2 ?_ (by rw [e2, fu_at, if_pos rfl]) ?_ ?_⟩)
  · have o : ∀ a, a ≠ 331 → M6 a = M1 a := fun a ha => by rw [e6, fu_off _ _ _ ha, e5, fu_off _ _ _ ha, e4, fu_off _ _ _ ha, e3, fu_off _ _ _ ha, e2, fu_off _ _ _ ha]
    have z6 : M6 331 6 = d := by rw [e6, fu_at, if_neg (by decide), e5, fu_at, if_neg (by decide), e4, fu_at, if_neg (by decide), e3, fu_at, if_neg (by decide), e2, fu_at, if_pos rfl, d1]
    have z2 : M6 331 2 = 0 := by rw [e6, fu_at, if_neg (by decide), e5, fu_at, if_neg (by decide), e4, fu_at, if_neg (by decide), e3, fu_at, if_pos rfl]
    have z20 : M6 331 20 = 0 := by rw [e6, fu_at, if_neg (by decide), e5, fu_at, if_neg (by decide), e4, fu_at, if_pos rfl]
    have z4 : M6 331 4 = w := by rw [e6, fu_at, if_neg (by decide), e5, fu_at, if_neg (by decide), e4, fu_at, if_neg (by decide), e3, fu_at, if_neg (by decide), e2, fu_at, if_neg (by decide), s1.slot 4 (by decide)]; exact h0.wr
    have z21 : M6 331 21 = -1 := by rw [e6, fu_at, if_neg (by decide), e5, fu_at, if_pos rfl]
    have z22 : M6 331 22 = 0 := by rw [e6, fu_at, if_pos rfl]
    have rb6 : RB M6 := fun q hq x hx => by rw [o q.1 (RBt_ne q hq)]; exact rb1 q hq x hx
    have n6 : (Gof M6).n = 0 := by show (M6 331 20).toNat = 0; rw [z20]; rfl
    have z0 : M6 331 0 = 0 := by rw [e6, fu_at, if_neg (by decide), e5, fu_at, if_neg (by decide), e4, fu_at, if_neg (by decide), e3, fu_at, if_neg (by decide), e2, fu_at, if_neg (by decide), s1.slot 0 (by decide), e0, fu_at, if_pos rfl]
    have e335 : M6 335 (M6 331 6).toNat = c := by rw [o 335 (by decide), z6, Int.toNat_natCast]; exact c1
    rw [e335]
    refine ⟨by omega, ko c q hA M6 (fun a ha => by rw [o a (by omega)]; exact low M1 _ s1 a ha) (by rw [o 362 (by decide), s1.cell 362 (by decide) (by decide), a0 362 (by decide)]) z0 ⟨⟨txt0, z2, fun p hp => by omega⟩, rb6, Or.inr ⟨by omega, fun c' hc' => ?_, ⟨rb6, by omega, by omega, ?_, ?_, fun _ _ _ _ _ _ hF => hF.elim⟩⟩, Or.inl z22, z4⟩ ⟨fun hs => absurd hs (by decide), fun _ => ⟨by omega, ?_⟩, fun _ => ⟨z20, z21, z22⟩, fun hs => absurd hs (by decide)⟩⟩
    · have ed : (M6 331 6).toNat = d := by rw [z6]; rfl
      rw [ed, o 335 (by decide), c1] at hc'
      rw [ed, o 337 (by decide), o 338 (by decide), o 339 (by decide)]
      exact w1 c' (by omega)
    · rw [n6]; intro j k hj; omega
    · rw [n6]; intro j hj; omega
    · have hc10 := rb1.g 335 2 0 10 (by decide) (x := d) (by omega)
      rw [z6, Int.toNat_natCast]
      exact (RY_of h.mt.t hA (by omega) rb1 hd c1 mc1).same (fun a h1 h2 => o a (by omega))
  · intro a ha
    rw [e2, fu_off _ _ _ (by omega)]; exact low M1 _ s1 a ha
  · have o : ∀ a, a ≠ 331 → M2 a = M1 a := fun a ha => by rw [e2]; exact fu_off _ _ _ ha
    have b2 : ∀ b, b ≠ 0 → b ≠ 3 → b ≠ 4 → b ≠ 5 → b ≠ 7 → M2 331 b = M0 331 b := fun b h0 h3 h4 h5 h7 => by rw [e2, fu_at, if_neg h0]; exact s1.slot b (by simp; omega)
    have rb2 : RB M2 := fun q hq x hx => by rw [o q.1 (RBt_ne q hq)]; exact rb1 q hq x hx
    refine ⟨⟨h.mt.t, by rw [b2 2 (by decide) (by decide) (by decide) (by decide) (by decide)]; exact h0.mt.len, by rw [o 332 (by decide), s1.cell 332 (by decide) (by decide)]; exact h0.mt.ch⟩, rb2, ?_, by rw [b2 22 (by decide) (by decide) (by decide) (by decide) (by decide)]; exact h0.sl, by rw [e2, fu_at, if_neg (by decide)]; exact w1⟩
    have z6 : M2 331 6 = M0 331 6 := b2 6 (by decide) (by decide) (by decide) (by decide) (by decide)
    have z20 : M2 331 20 = M0 331 20 := b2 20 (by decide) (by decide) (by decide) (by decide) (by decide)
    rcases h0.hg with ⟨x1, x2⟩ | ⟨x1, x2, x3⟩
    · exact Or.inl ⟨by rw [z6]; exact x1, by rw [z20]; exact x2⟩
    · obtain ⟨k, hk, hk1⟩ : ∃ k : Nat, M0 331 6 = k ∧ k ≤ 1 := ⟨(M0 331 6).toNat, by omega, by omega⟩
      have hkd : k ≠ d := fun e => hgd (by rw [← e, hk])
      refine Or.inr ⟨by rw [z6]; exact x1, fun c' hc' => ?_, ⟨rb2, by rw [z6]; exact x3.hg, by rw [z20]; exact x3.hn, ?_, ?_, fun _ _ _ _ _ _ hF => hF.elim⟩⟩
      · have ek : (M2 331 6).toNat = k := by rw [z6, hk]; rfl
        have ek0 : (M0 331 6).toNat = k := by rw [hk]; rfl
        rw [ek, o 335 (by decide), kp.c335 k hkd] at hc'
        have hb := h0.rb.g 335 2 0 10 (by decide) (x := k) (by omega)
        have h7 := kp.c337 (10 * k + c') (by omega)
        have hb4 := h0.rb.g 337 20 0 4 (by decide) (x := 10 * k + c') (by omega)
        have x2' := x2 c' (by rw [ek0]; exact hc')
        rw [ek0] at x2'
        have h9 : ∀ b, b < 4 → M1 339 (4 * (10 * k + c') + b) = M0 339 (4 * (10 * k + c') + b) := fun b hb => kp.c339 _ (by omega)
        rw [ek, o 337 (by decide), o 338 (by decide), o 339 (by decide), h7.1, h7.2]
        refine ⟨x2'.1, fun b hb => ?_, ?_⟩
        · rw [h9 b (by omega)]; exact x2'.2.1 b hb
        · rw [x2'.2.2]; exact sm_congr (fun b hb => by rw [h9 b (by omega)])
      · have en : (Gof M2).n = (Gof M0).n := by show (M2 331 20).toNat = (M0 331 20).toNat; rw [z20]
        have ec : (Gof M2).cc = (Gof M0).cc := by funext j; show (M2 349 j).toNat = (M0 349 j).toNat; rw [o 349 (by decide), s1.cell 349 (by decide) (by decide)]
        rw [en, ec, o 348 (by decide), s1.cell 348 (by decide) (by decide), z6, o 335 (by decide), hk, Int.toNat_natCast, kp.c335 k hkd]
        have := x3.cm
        rw [hk, Int.toNat_natCast] at this
        exact this
      · have en : (Gof M2).n = (Gof M0).n := by show (M2 331 20).toNat = (M0 331 20).toNat; rw [z20]
        rw [en, o 346 (by decide), o 349 (by decide), s1.cell 346 (by decide) (by decide), s1.cell 349 (by decide) (by decide)]
        exact x3.tgc
  · intro st Y hx
    have o : ∀ a, a ≠ 331 → M2 a = M1 a := fun a ha => by rw [e2]; exact fu_off _ _ _ ha
    have b2 : ∀ b, b ≠ 0 → b ≠ 3 → b ≠ 4 → b ≠ 5 → b ≠ 7 → M2 331 b = M 331 b := fun b h0 h3 h4 h5 h7 => by
      rw [e2, fu_at, if_neg h0, s1.slot b (by simp; omega), e0, fu_at, if_neg h0]
    have c45 : ∀ a, 345 ≤ a → a ≤ 361 → M2 a = M a := fun a h1 h2 => by rw [o a (by omega), s1.cell a (by simp; omega) (by omega), a0 a (by omega)]
    refine ⟨fun hs => by rw [b2 6 (by decide) (by decide) (by decide) (by decide) (by decide)]; exact hx.a0 hs, fun hs => ?_, fun hs => by rw [b2 20 (by decide) (by decide) (by decide) (by decide) (by decide), b2 21 (by decide) (by decide) (by decide) (by decide) (by decide), b2 22 (by decide) (by decide) (by decide) (by decide) (by decide)]; exact hx.z hs, fun hs => ?_⟩
    · rw [b2 6 (by decide) (by decide) (by decide) (by decide) (by decide)]
      obtain ⟨hg01, hyy⟩ := hx.a1 hs
      refine ⟨hg01, ?_⟩
      have hy0 : RY Y (M 331 6).toNat M0 := hyy.same (fun a h1 h2 => a0 a (by omega))
      have e6 : M0 331 6 = M 331 6 := by rw [e0, fu_at, if_neg (by decide)]
      exact (hy0.kp h0.rb (by omega) hd (fun hh => hgd (by rw [e6]; omega)) kp).same (fun a h1 h2 => o a (by omega))
    · obtain ⟨f1, f2, f3, f4⟩ := hx.f hs
      exact ⟨f1.same (b2 20 (by decide) (by decide) (by decide) (by decide) (by decide)) (fun a h1 h2 => c45 a h1 (by omega)), by rw [b2 21 (by decide) (by decide) (by decide) (by decide) (by decide)]; exact f2, by rw [b2 22 (by decide) (by decide) (by decide) (by decide) (by decide)]; exact f3, by rw [c45 359 (by omega) (by omega), c45 360 (by omega) (by omega), c45 361 (by omega) (by omega)]; exact f4⟩
end Calls2
end Pu_cg
