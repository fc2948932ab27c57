set_option maxRecDepth 10000
section Pu_wc
/-! The class's good choices. -/
/-- tight choices; of MAX's states before i what was chosen alone -/
def acq (G : Gd) (num : Nat → Int) (d : Nat → Int) (i : Nat) : Nat → Nat → Prop := fun j k => G.al j k ∧ tig G num j k ∧ (G.mx j → j < i → (k : Int) = d j)
/-- what is chosen in a state -/
def cho (G : Gd) (num : Nat → Int) (E : Nat → Prop) (d : Nat → Int) (j : Nat) : Prop := (G.mx j → ∃ c : Nat, d j = c ∧ c < G.cc j ∧ G.al j c ∧ tig G num j c ∧ fll G (acl G num d j c) E ∧ ∀ c', c' < c → G.al j c' → tig G num j c' → ¬ fll G (acl G num d j c') E) ∧ (¬ G.mx j → (0 < G.cc j → ∃ c : Nat, d j = c ∧ c < G.cc j ∧ G.al j c ∧ tig G num j c ∧ ∀ c', c' < c → G.al j c' → ¬ tig G num j c') ∧ (G.cc j = 0 → d j = -1))
theorem acl_d {G : Gd} {num : Nat → Int} {d d' : Nat → Int} {i c : Nat} (e : ∀ j, j < i → d j = d' j) : acl G num d i c = acl G num d' i c := by
  funext j k
  unfold acl
  by_cases h : j < i
  · rw [e j h]
  · apply propext
    exact ⟨fun q => ⟨q.1, q.2.1, fun r => ⟨fun h' => absurd h' h, (q.2.2 r).2⟩⟩, fun q => ⟨q.1, q.2.1, fun r => ⟨fun h' => absurd h' h, (q.2.2 r).2⟩⟩⟩
theorem cho_d {G : Gd} {num : Nat → Int} {E : Nat → Prop} {d d' : Nat → Int} {j : Nat} (e : ∀ j', j' ≤ j → d j' = d' j') (h : cho G num E d j) : cho G num E d' j := by
  have e1 : ∀ c, acl G num d j c = acl G num d' j c := fun c => acl_d (fun j' hj => e j' (by omega))
  unfold cho at *
  rw [← e j (Nat.le_refl _)]
  simp only [← e1]
  exact h
theorem fll_iff {G : Gd} {A B : Nat → Nat → Prop} {E : Nat → Prop} (e : ∀ j k, j < G.n → k < G.cc j → (A j k ↔ B j k)) (h : fll G A E) : fll G B E := by
  obtain ⟨rk, q⟩ := h
  refine ⟨rk, fun i hi he => ⟨fun hm => ?_, fun hm => ⟨?_, fun c hc hb => ?_⟩⟩⟩
  · obtain ⟨c, c1, c2, c3⟩ := (q i hi he).1 hm
    exact ⟨c, c1, (e i c hi c1).mp c2, c3⟩
  · obtain ⟨c, c1, c2⟩ := ((q i hi he).2 hm).1
    exact ⟨c, c1, (e i c hi c1).mp c2⟩
  · exact ((q i hi he).2 hm).2 c hc ((e i c hi hc).mpr hb)
theorem ex_pass {G : Gd} {num : Nat → Int} {E : Nat → Prop} {d : Nat → Int} {i : Nat} (hi : i < G.n) (hm : G.mx i) (ht : ∃ c, c < G.cc i ∧ G.al i c ∧ tig G num i c) (h : fll G (acq G num d i) E) : ∃ c, c < G.cc i ∧ G.al i c ∧ tig G num i c ∧ fll G (acl G num d i c) E := by
  obtain ⟨rk, q⟩ := h
  have oth : ∀ c j k, j ≠ i → (acq G num d i j k ↔ acl G num d i c j k) := fun c j k hne => ⟨fun h => ⟨h.1, h.2.1, fun r => ⟨h.2.2 r, fun e => absurd e hne⟩⟩, fun h => ⟨h.1, h.2.1, fun r => (h.2.2 r).1⟩⟩
  have fin : ∀ c, c < G.cc i → G.al i c → tig G num i c → (¬ E i → ∃ b, b < G.nb i c ∧ rk (G.to i c b) < rk i) → fll G (acl G num d i c) E := fun c c1 c2 c3 c4 => by
    refine ⟨rk, fun j hj he => ⟨fun hmj => ?_, fun hmj => ⟨?_, fun k hk hA => ?_⟩⟩⟩
    · by_cases e : j = i
      · subst e
        exact ⟨c, c1, ⟨c2, c3, fun _ => ⟨fun h => absurd h (Nat.lt_irrefl _), fun _ => rfl⟩⟩, c4 he⟩
      · obtain ⟨k, k1, k2, k3⟩ := (q j hj he).1 hmj
        exact ⟨k, k1, (oth c j k e).mp k2, k3⟩
    · have e : j ≠ i := fun e => hmj (by rw [e]; exact hm)
      obtain ⟨k, k1, k2⟩ := ((q j hj he).2 hmj).1
      exact ⟨k, k1, (oth c j k e).mp k2⟩
    · have e : j ≠ i := fun e => hmj (by rw [e]; exact hm)
      exact ((q j hj he).2 hmj).2 k hk ((oth c j k e).mpr hA)
  by_cases he : E i
  · obtain ⟨c, c1, c2, c3⟩ := ht
    exact ⟨c, c1, c2, c3, fin c c1 c2 c3 (fun h => absurd he h)⟩
  · obtain ⟨c, c1, c2, c3⟩ := (q i hi he).1 hm
    exact ⟨c, c1, c2.1, c2.2.1, fin c c1 c2.1 c2.2.1 (fun _ => c3)⟩
theorem all_fll {G : Gd} {A : Nat → Nat → Prop} {E : Nat → Prop} {p : Nat → Int} {dr : Int} (D : atr G A E p dr) (h : ∀ j, j < G.n → bt dr j) : fll G A E := by
  obtain ⟨_, _, rk, q⟩ := D
  refine ⟨rk, fun i hi he => ?_⟩
  obtain ⟨s1, s2, s3⟩ := q i hi (h i hi) he
  refine ⟨fun hm => ?_, fun hm => ⟨(s3 hm).1, fun c hc ha => ?_⟩⟩
  · obtain ⟨c, _, t1, t2, b, t3, _, t5⟩ := s2 hm
    exact ⟨c, t1, t2, b, t3, t5⟩
  · obtain ⟨b, t3, _, t5⟩ := (s3 hm).2 c hc ha
    exact ⟨b, t3, t5⟩
theorem fll_all {G : Gd} (W : G.Wf) {A : Nat → Nat → Prop} {E : Nat → Prop} {p : Nat → Int} {dr : Int} (D : atr G A E p dr) (C : cld G A dr) (F : fll G A E) : ∀ j, j < G.n → bt dr j := by
  obtain ⟨rk, q⟩ := F
  have key : ∀ r j, j < G.n → rk j < r → bt dr j := by
    intro r
    induction r with
    | zero => intro j _ h; omega
    | succ r ih =>
      intro j hj hr
      by_cases he : E j
      · exact D.2.1 j hj he
      · apply Classical.byContradiction
        intro hn
        by_cases hm : G.mx j
        · obtain ⟨c, c1, c2, b, b1, b2⟩ := (q j hj he).1 hm
          exact C j hj hn (Or.inl ⟨hm, c, c1, c2, b, b1, ih _ (W.lt j c b hj c1 b1) (by omega)⟩)
        · obtain ⟨e1, e2⟩ := (q j hj he).2 hm
          refine C j hj hn (Or.inr ⟨hm, e1, fun c hc ha => ?_⟩)
          obtain ⟨b, b1, b2⟩ := e2 c hc ha
          exact ⟨b, b1, ih _ (W.lt j c b hj hc b1) (by omega)⟩
  exact fun j hj => key (rk j + 1) j hj (by omega)
theorem FS_tig {G : Gd} (W : G.Wf) {num : Nat → Int} {com : Int} {l : Nat → Prop} (F : FS G num com l) {i : Nat} (hi : i < G.n) (hc : 0 < G.cc i) : ∃ c, c < G.cc i ∧ G.al i c ∧ tig G num i c := by
  obtain ⟨rk, p, L, ok, V, _, _, _⟩ := F
  have o := ok i hi hc
  have z : ∀ k, k < G.cc i → l i → (∀ b, b < G.nb i k → l (G.to i k b)) → tig G num i k := fun k hk hl hb => by
    unfold tig
    rw [V.lost i hi hl, Int.mul_zero]
    exact sm_zero (fun b hb' => by rw [V.lost _ (W.lt i k b hi hk hb') (hb b hb'), Int.mul_zero])
  by_cases hl : l i
  · rcases L.stay i hi hl with a | ⟨_, a⟩ | ⟨_, k, k1, k2, k3⟩
    · omega
    · exact ⟨p i, o.1, o.2, z _ o.1 hl a⟩
    · exact ⟨k, k1, k2, z k k1 hl k3⟩
  · have ht : ¬ G.tg i := fun h => by have := W.tgc i hi h; omega
    exact ⟨p i, o.1, o.2, (V.eqn i ⟨hi, hl, ht⟩).symm⟩
section Cg
variable {g m : Nat} {G : Gd} {post : Int → fm_M → Prop} {thr : String → fm_M → Prop}
theorem w_isTight {M : fm_M} (h : CV g m G M) (hv : vrg G M) {i c : Nat} (hi : i < G.n) (hc : c < G.cc i) (ha : G.al i c) (h0 : ¬ tig G (M 322) i c → post 0 M) (h1 : tig G (M 322) i c → post 1 M) : wp_Va_isTight M i c post thr := by
  have h8 := h.n8
  have hcc := h.cc i hi
  have hm10 := h.vs.m10
  have hg := h.vs.g1.gg
  have t := tcG hg
  have C := cmOk hg (c := c) (by omega)
  have hw := h.ws i c hi hc
  have w6 := h.w6 i c hi hc
  have wp := h.wp hi hc
  have S := w_Sb h hv hi hc
  have vi := hv i hi
  refine w_weigh h hv hi hc ha ?_
  rw [h.vs.g1.gm, Int.toNat_natCast, Int.toNat_natCast, show g + 3 + 4 + 13 * c = g + (7 + 13 * c) by omega, hw]
  have r : 0 ≤ G.wo i c * M 322 i ∧ G.wo i c * M 322 i ≤ 6 * 429981696 := ⟨Int.mul_nonneg (Int.le_of_lt wp) vi.1, Int.mul_le_mul w6 vi.2 vi.1 (by decide)⟩
  rw [jwl_id (a := G.S i c (M 322)) ⟨by omega, by omega⟩, jwl_id (a := G.wo i c * M 322 i) ⟨by omega, by omega⟩]
  exact ⟨t.1, t.2.2.2, by omega, C.t0, rg_small (by omega), by omega, fun hj => h0 (fun e => hj (jcm_eq.mpr e)), fun hj => h1 (jcm_eq.mp hj)⟩
def tgI (G : Gd) (M : fm_M) (i m : Nat) (M' : fm_M) (v3 v4 : Int) : Prop := M' = M ∧ ∃ c : Nat, v4 = c ∧ c ≤ m ∧ bs v3 c ∧ ∀ c', c' < 10 → (bt v3 c' ↔ c' < c ∧ c' < G.cc i ∧ G.al i c' ∧ tig G (M 322) i c')
def tgJ (G : Gd) (M : fm_M) (i m q : Nat) (M' : fm_M) (v3 v4 : Int) : Prop := tgI G M i m M' v3 v4 ∧ (10 - v4).toNat < (10 - (q : Int)).toNat
theorem w_tight {M : fm_M} (h : CV g m G M) (hv : vrg G M) {i : Nat} (hi : i < G.n) (hp : ∀ r, bs r m → (∀ c, c < 10 → (bt r c ↔ c < G.cc i ∧ (G.al i c ∧ tig G (M 322) i c))) → post r M) : wp_Go_tightChoices M i post thr := by
  have h8 := h.n8
  have hn := h.n
  have hcc := h.cc i hi
  have hm10 := h.vs.m10
  have t := tcG h.vs.g1.gg
  refine ⟨tgI G M i m, fun _ _ v4 => (10 - v4).toNat, ⟨rfl, 0, rfl, by omega, by unfold bs; decide, fun c' hc' => ⟨fun hh => absurd hh (bt_0 ⟨c', hc'⟩), fun hh => by omega⟩⟩, ?_⟩
  rintro M' v3 v4 ⟨rfl, c, rfl, hc, hb, hbt⟩
  unfold C_Go_tightChoices_5
  rw [h.vs.g1.gm, h.vs.hm]
  have keep : c < m → ¬ (c < G.cc i ∧ G.al i c ∧ tig G (M' 322) i c) → tgJ G M' i m c M' v3 ((c : Int) + 1) := fun hcm hno => by
    refine ⟨⟨rfl, c + 1, by omega, by omega, bs_mono hb (by omega), fun c' hc' => (hbt c' hc').trans ⟨fun q => ⟨by omega, q.2⟩, fun q => ⟨?_, q.2⟩⟩⟩, by omega⟩
    by_cases e : c' = c
    · rw [e] at q; exact absurd q.2 hno
    · omega
  have add : c < m → (c < G.cc i ∧ G.al i c ∧ tig G (M' 322) i c) → tgJ G M' i m c M' (jor v3 (jshl 1 c)) ((c : Int) + 1) := fun hcm hyes => by
    refine ⟨⟨rfl, c + 1, by omega, by omega, bs_or hb (by omega), fun c' hc' => (bt_add' (by omega) hc').trans ⟨fun q => ?_, fun q => ?_⟩⟩, by omega⟩
    · rcases q with q | q
      · have r := (hbt c' hc').mp q
        exact ⟨by omega, r.2⟩
      · rw [q]; exact ⟨by omega, hyes⟩
    · by_cases e : c' = c
      · exact Or.inr e
      · exact Or.inl ((hbt c' hc').mpr ⟨by omega, q.2⟩)
  refine ⟨t.1, rg_small (by omega), rg_small (by omega), fun h4 => hp v3 (bs_mono hb (by omega)) (fun c' hc' => (hbt c' hc').trans ⟨fun q => q.2, fun q => ⟨by omega, q⟩⟩), fun h4 => v_choicesOf h.vs (by omega) (x_hasBit (fun hbb => ⟨rg_small (by decide), fun _ => keep (by omega) (fun q => hbb ((h.en i c hi (by omega)).mpr ⟨q.1, q.2.1⟩)), fun h => absurd rfl h⟩) (fun hbb => ⟨rg_small (by decide), fun h => absurd h (by decide), fun _ => ?_⟩))⟩
  obtain ⟨b1, b2⟩ := (h.en i c hi (by omega)).mp hbb
  exact w_isTight h hv hi b1 b2 (fun hno => ⟨rg_small (by decide), fun _ => keep (by omega) (fun q => hno q.2.2), fun h => absurd rfl h⟩) (fun ht => ⟨rg_small (by decide), fun h => absurd h (by decide), fun _ => add (by omega) ⟨b1, b2, ht⟩⟩)
/-- a choice of MAX that passes, and none before it -/
def psd (G : Gd) (num : Nat → Int) (E : Nat → Prop) (d : Nat → Int) (i c : Nat) : Prop := c < G.cc i ∧ G.al i c ∧ tig G num i c ∧ fll G (acl G num d i c) E ∧ ∀ c', c' < c → G.al i c' → tig G num i c' → ¬ fll G (acl G num d i c') E
def cmI (G : Gd) (num : Nat → Int) (E : Nat → Prop) (M : fm_M) (i m : Nat) (M' : fm_M) (v4 v5 v6 : Int) : Prop := v4 = jshl 1 (G.n : Int) - 1 ∧ v5 = M 328 i ∧ ∃ c : Nat, v6 = c ∧ c ≤ m ∧ gf M M' ∧ alr M' ∧ (∀ j, j ≠ i → M' 330 j = M 330 j) ∧ (∀ j, j ≠ i → M' 328 j = M 328 j) ∧ ((M' 330 i = -1 ∧ ∀ c', c' < c → c' < G.cc i → G.al i c' → tig G num i c' → ¬ fll G (acl G num (M 330) i c') E) ∨ (∃ c0 : Nat, M' 330 i = c0 ∧ M' 328 i = jshl 1 c0 ∧ psd G num E (M 330) i c0))
def cmJ (G : Gd) (num : Nat → Int) (E : Nat → Prop) (M : fm_M) (i m q : Nat) (M' : fm_M) (v4 v5 v6 : Int) : Prop := cmI G num E M i m M' v4 v5 v6 ∧ (10 - v6).toNat < (10 - (q : Int)).toNat
/-- what is allowed, as it is kept -/
def alq (G : Gd) (num d : Nat → Int) (i m : Nat) (M : fm_M) : Prop := ∀ j, j < G.n → bs (M 328 j) m ∧ ∀ k, k < 10 → (bt (M 328 j) k ↔ k < G.cc j ∧ acq G num d i j k)
theorem w_chooseForMax {M : fm_M} {num : Nat → Int} {i : Nat} (h : CV g m G M) (hT : alq G num (M 330) i m M) (ha : alr M) (hi : i < G.n) (hm : G.mx i) {E : Nat → Prop} {ends : Int} (he8 : bs ends 8) (hE : ∀ j, j < 8 → (bt ends j ↔ j < G.n ∧ E j)) (hex : ∃ c, c < G.cc i ∧ G.al i c ∧ tig G num i c ∧ fll G (acl G num (M 330) i c) E) (hp : ∀ M', gf M M' → alr M' → (∀ j, j ≠ i → M' 330 j = M 330 j) → (∀ j, j ≠ i → M' 328 j = M 328 j) → (∃ c : Nat, M' 330 i = c ∧ M' 328 i = jshl 1 c ∧ psd G num E (M 330) i c) → post 0 M') : wp_Go_chooseForMax M i ends post thr := by
  have h8 := h.n8
  have hn := h.n
  have hcc := h.cc i hi
  have hm10 := h.vs.m10
  have t := tcG h.vs.g1.gg
  have hall := bs_all ⟨G.n, by omega⟩
  simp only at hall
  unfold wp_Go_chooseForMax
  rw [Int.toNat_natCast, ← hn]
  refine ⟨by omega, fun M0 e0 => ?_⟩
  have r0 : ∀ j, j ≠ i → M0 330 j = M 330 j := fun j hj => by rw [e0, fu_at, if_neg hj]
  have a0 : alr M0 := fun j hj => ⟨by rw [e0, fu_off _ _ _ (by decide)]; exact (ha j hj).1, by rw [e0, fu_at]; split; exact rg_small (by decide); exact (ha j hj).2⟩
  refine ⟨cmI G num E M i m, fun _ _ _ v6 => (10 - v6).toNat, ⟨rfl, rfl, 0, rfl, by omega, by rw [e0]; exact gf.refl.u (by omega), a0, r0, fun j _ => by rw [e0, fu_off _ _ _ (by decide)], Or.inl ⟨by rw [e0, fu_at, if_pos rfl], fun c' hc' => by omega⟩⟩, ?_⟩
  rintro M1 v4 v5 v6 ⟨rfl, rfl, c, rfl, hc, f1, a1, o1, p1, I1⟩
  have h1 := h.vf f1.vf
  have fin : ¬ M1 330 i = -1 → post 0 M1 := fun hne => by
    rcases I1 with ⟨q, _⟩ | q
    · exact absurd q hne
    · exact hp M1 f1 a1 o1 p1 q
  unfold C_Go_chooseForMax_31
  rw [h1.vs.g1.gm, h1.vs.hm, Int.toNat_natCast]
  refine ⟨t.1, rg_small (by omega), rg_small (by omega), fun h4 => ?_, fun h4 => ⟨by omega, (a1 i (by omega)).2, fin, fun hz => ?_⟩⟩
  · refine fin (fun hz => ?_)
    rcases I1 with ⟨_, q⟩ | ⟨c0, q, _⟩
    · obtain ⟨c', c1, c2, c3, c4⟩ := hex
      exact q c' (by omega) c1 c2 c3 c4
    · omega
  have hno : ∀ c', c' < c → c' < G.cc i → G.al i c' → tig G num i c' → ¬ fll G (acl G num (M 330) i c') E := by
    rcases I1 with ⟨_, q⟩ | ⟨c0, q, _⟩
    · exact q
    · omega
  have bit := (hT i hi).2 c (by omega)
  -- not this one
  have keep : ∀ M3 : fm_M, gf M M3 → alr M3 → (∀ j, j ≠ i → M3 330 j = M 330 j) → (∀ j, j ≠ i → M3 328 j = M 328 j) → M3 330 i = -1 → c < m → (c < G.cc i → G.al i c → tig G num i c → ¬ fll G (acl G num (M 330) i c) E) → cmJ G num E M i m c M3 (jshl 1 (G.n : Int) - 1) (M 328 i) ((c : Int) + 1) := fun M3 f3 a3 o3 p3 z3 hcm hh => by
    refine ⟨⟨rfl, rfl, c + 1, by omega, by omega, f3, a3, o3, p3, Or.inl ⟨z3, fun c' hc' => ?_⟩⟩, by omega⟩
    by_cases e : c' = c
    · rw [e]; exact hh
    · exact hno c' (by omega)
  refine x_hasBit (fun hb => ⟨rg_small (by decide), fun _ => keep M1 f1 a1 o1 p1 hz (by omega) (fun c1 c2 c3 => absurd (bit.mpr ⟨c1, c2, c3, fun _ hlt => absurd hlt (Nat.lt_irrefl _)⟩) hb), fun h => absurd rfl h⟩) (fun hb => ⟨rg_small (by decide), fun h => absurd h (by decide), fun _ M2 e2 => ?_⟩)
  obtain ⟨c1, c2, c3, _⟩ := bit.mp hb
  have f2 : gf M M2 := by rw [e2]; exact f1.u (by omega)
  have h2 := h.vf f2.vf
  have r2 : ∀ j, M2 328 j = if j = i then jshl 1 (c : Int) else M1 328 j := fun j => by rw [e2, fu_at]
  have e330 : M2 330 = M1 330 := by rw [e2, fu_off _ _ _ (by decide)]
  have a2 : alr M2 := fun j hj => by
    refine ⟨?_, by rw [e330]; exact (a1 j hj).2⟩
    rw [r2 j]; split
    · exact rg_jshl _ _
    · exact (a1 j hj).1
  have hA : alb G (acl G num (M 330) i c) 327 m M2 := fun j hj => by
    show bs (M2 328 j) m ∧ (∀ k, k < 10 → (bt (M2 328 j) k ↔ k < G.cc j ∧ acl G num (M 330) i c j k)) ∧ ∀ k, k < G.cc j → acl G num (M 330) i c j k → G.al j k
    refine ⟨?_, fun k hk => ?_, fun k _ hA => hA.1⟩
    · rw [r2 j]
      by_cases e : j = i
      · rw [if_pos e]; exact bs_sh (by omega) hm10
      · rw [if_neg e, p1 j e]; exact (hT j hj).1
    · rw [r2 j]
      by_cases e : j = i
      · rw [if_pos e, e, bt_sh ⟨c, by omega⟩ ⟨k, hk⟩]
        constructor
        · intro ek
          have ek' : k = c := ek
          rw [ek']
          exact ⟨c1, c2, c3, fun _ => ⟨fun h => absurd h (Nat.lt_irrefl _), fun _ => rfl⟩⟩
        · intro q
          exact (q.2.2.2 hm).2 rfl
      · rw [if_neg e, p1 j e, (hT j hj).2 k hk]
        exact ⟨fun q => ⟨q.1, q.2.1, q.2.2.1, fun r => ⟨q.2.2.2 r, fun e' => absurd e' e⟩⟩, fun q => ⟨q.1, q.2.1, q.2.2.1, fun r => (q.2.2.2 r).1⟩⟩
  refine w_drawnTo h2 at327 hA (E := E) (bs_rg he8 (by decide)) hE (fun dr M3 x3 rdr D3 C3 => ?_)
  have f3 : gf M M3 := f2.tr (fun a q1 q2 q3 => x3 a (by omega))
  have a3 : alr M3 := fun j hj => by rw [x3 328 (by decide), x3 330 (by decide)]; exact a2 j hj
  have o3 : ∀ j, j ≠ i → M3 330 j = M 330 j := fun j hj => by rw [x3 330 (by decide), e330]; exact o1 j hj
  have p3 : ∀ j, j ≠ i → M3 328 j = M 328 j := fun j hj => by rw [x3 328 (by decide), r2 j, if_neg hj]; exact p1 j hj
  have z3 : M3 330 i = -1 := by rw [x3 330 (by decide), e330]; exact hz
  have d8 := bs_8.mp (rdr.2 he8)
  have bits : (∀ j, j < G.n → bt dr j) → dr = jshl 1 (G.n : Int) - 1 := fun hh => bs_ext d8 hall (fun k hk => by
    have b := bt_all ⟨G.n, by omega⟩ ⟨k, by omega⟩
    simp only at b
    rw [b]
    exact ⟨fun q => D3.1 k hk q, fun q => hh k q⟩)
  refine ⟨rdr.1, rg_small (by omega), fun hne => keep M3 f3 a3 o3 p3 z3 (by omega) (fun _ _ _ hf => hne (bits (fll_all h.W D3 C3 hf))), fun heq M4 e4 => ?_⟩
  have full : fll G (acl G num (M 330) i c) E := all_fll D3 (fun j hj => by
    have b := bt_all ⟨G.n, by omega⟩ ⟨j, by omega⟩
    simp only at b
    rw [heq]; exact b.mpr hj)
  refine ⟨⟨rfl, rfl, c + 1, by omega, by omega, by rw [e4]; exact f3.u (by omega), fun j hj => ⟨by rw [e4, fu_off _ _ _ (by decide)]; exact (a3 j hj).1, by rw [e4, fu_at]; split; exact rg_small (by omega); exact (a3 j hj).2⟩, fun j hj => by rw [e4, fu_at, if_neg hj]; exact o3 j hj, fun j hj => by rw [e4, fu_off _ _ _ (by decide)]; exact p3 j hj, Or.inr ⟨c, by rw [e4, fu_at, if_pos rfl], by rw [e4, fu_off _ _ _ (by decide), x3 328 (by decide), r2 i, if_pos rfl], c1, c2, c3, full, fun c' hc' b1 b2 => hno c' hc' (by omega) b1 b2⟩⟩, by dsimp only; omega⟩
def chI (G : Gd) (num : Nat → Int) (E : Nat → Prop) (ends : Int) (M : fm_M) (m : Nat) (M' : fm_M) (v4 v5 : Int) : Prop := v4 = ends ∧ ∃ i : Nat, v5 = i ∧ i ≤ G.n ∧ gf M M' ∧ alr M' ∧ alq G num (M' 330) i m M' ∧ fll G (acq G num (M' 330) i) E ∧ ∀ j, j < i → cho G num E (M' 330) j
def chJ (G : Gd) (num : Nat → Int) (E : Nat → Prop) (ends : Int) (M : fm_M) (m q : Nat) (M' : fm_M) (v4 v5 : Int) : Prop := chI G num E ends M m M' v4 v5 ∧ ((G.n : Int) - v5).toNat < ((G.n : Int) - (q : Int)).toNat
theorem w_choose {M : fm_M} {com : Int} (h : CV g m G M) (hv : vrg G M) (F : FS G (M 322) com (plo M)) (s : Sol G (M 322) com) (hmc : ∀ i, i < G.n → G.mx i → 0 < G.cc i) (h38 : bs (M 142 3) 8) (ha : alr M) (hp : ∀ M', gf M M' → alr M' → (∀ i, i < G.n → cho G (M 322) (fun j => G.tg j ∨ plo M j) (M' 330) i) → post 0 M') : wp_Go_choose M post thr := by
  have h8 := h.n8
  have hn := h.n
  have W := h.W
  have hm10 := h.vs.m10
  obtain ⟨nn, lz, up, zl⟩ := FS_nn W F
  have hall := bs_all ⟨G.n, by omega⟩
  simp only at hall
  refine ⟨fun M' v3 => ∃ i : Nat, v3 = i ∧ i ≤ G.n ∧ gf M M' ∧ alr M' ∧ ∀ j, j < i → bs (M' 328 j) m ∧ ∀ k, k < 10 → (bt (M' 328 j) k ↔ k < G.cc j ∧ (G.al j k ∧ tig G (M 322) j k)), fun _ v3 => ((G.n : Int) - v3).toNat, ⟨0, rfl, by omega, gf.refl, ha, fun j hj => by omega⟩, ?_⟩
  rintro M1 v3 ⟨i, rfl, hi, f1, a1, t1⟩
  have h1 := h.vf f1.vf
  have n1 : M1 142 = M 142 := f1 142 (by omega) (by omega) (by omega)
  have e322 : M1 322 = M 322 := f1 322 (by omega) (by omega) (by omega)
  unfold C_Go_choose_2
  rw [n1, ← hn]
  refine ⟨rg_small (by omega), rg_small (by omega), fun h4 => ?_, fun h4 => w_tight h1 (by unfold vrg; rw [e322]; exact hv) (by omega) (fun r rb rr => ⟨by omega, fun M2 e2 => ⟨⟨i + 1, by omega, by omega, by rw [e2]; exact f1.u (by omega), fun j hj => ?_, fun j hj => ?_⟩, by dsimp only; omega⟩⟩)⟩
  · -- the ends
    have e141 : M1 141 = M 141 := f1 141 (by omega) (by omega) (by omega)
    rw [e141]
    generalize hen : jor (M 142 3) (jand (jshl 1 (G.n : Int) - 1) (jxor (M 141 4) (-1))) = ends
    have en8 : bs ends 8 := by rw [← hen]; exact bs_8.mpr (bs_jor (bs_8.mp h38) (bs_jand hall))
    have enb : ∀ j, j < 8 → (bt ends j ↔ j < G.n ∧ (G.tg j ∨ plo M j)) := fun j hj => by
      have b := bt_all ⟨G.n, by omega⟩ ⟨j, by omega⟩
      simp only at b
      rw [← hen, bt_or' (by omega), bt_and' (by omega), bt_not (by omega), b, h.tg j hj]
      constructor
      · intro q
        rcases q with q | q
        · exact ⟨q.1, Or.inl q.2⟩
        · exact ⟨q.1, Or.inr q.2⟩
      · intro ⟨q1, q2⟩
        rcases q2 with q | q
        · exact Or.inl ⟨q1, q⟩
        · exact Or.inr ⟨q1, q⟩
    have f0 : fll G (acq G (M 322) (M1 330) 0) (fun j => G.tg j ∨ plo M j) := fl_of (A := G.al) (com := com) s (fun j hj he => ⟨fun q => he (Or.inl q), fun q => he (Or.inr (zl j hj q))⟩) (fun j k _ _ q1 q2 => ⟨q1, q2, fun _ hlt => absurd hlt (Nat.not_lt_zero _)⟩) (fun j k _ _ _ q => q.1)
    refine ⟨chI G (M 322) (fun j => G.tg j ∨ plo M j) ends M m, fun _ _ v5 => ((G.n : Int) - v5).toNat, ⟨rfl, 0, rfl, by omega, f1, a1, fun j hj => ⟨(t1 j (by omega)).1, fun k hk => ((t1 j (by omega)).2 k hk).trans ⟨fun q => ⟨q.1, q.2.1, q.2.2, fun _ hlt => absurd hlt (Nat.not_lt_zero _)⟩, fun q => ⟨q.1, q.2.1, q.2.2.1⟩⟩⟩, f0, fun j hj => by omega⟩, ?_⟩
    rintro M2 v4 v5 ⟨rfl, k, rfl, hk, f2, a2, q2, l2, c2⟩
    have h2 := h.vf f2.vf
    have n2 : M2 142 = M 142 := f2 142 (by omega) (by omega) (by omega)
    unfold C_Go_choose_58
    rw [n2, ← hn]
    refine ⟨rg_small (by omega), rg_small (by omega), fun h5 => hp M2 f2 a2 (fun j hj => c2 j (by omega)), fun h5 => ?_⟩
    have hkn : k < G.n := by omega
    have rv4 : rg v4 := bs_rg en8 (by decide)
    -- one state more
    have step : ∀ M3 : fm_M, gf M M3 → alr M3 → (∀ j, j ≠ k → M3 330 j = M2 330 j) → (∀ j, j ≠ k → M3 328 j = M2 328 j) → ((G.mx k → ∃ c : Nat, M3 330 k = c ∧ M3 328 k = jshl 1 c ∧ psd G (M 322) (fun j => G.tg j ∨ plo M j) (M2 330) k c) ∧ (¬ G.mx k → M3 328 k = M2 328 k ∧ (0 < G.cc k → ∃ c : Nat, M3 330 k = c ∧ c < G.cc k ∧ G.al k c ∧ tig G (M 322) k c ∧ ∀ c', c' < c → G.al k c' → ¬ tig G (M 322) k c') ∧ (G.cc k = 0 → M3 330 k = -1))) → chJ G (M 322) (fun j => G.tg j ∨ plo M j) v4 M m k M3 v4 ((k : Int) + 1) := fun M3 f3 a3 o3 p3 r3 => by
      have od : ∀ j, j < k → M2 330 j = M3 330 j := fun j hj => (o3 j (by omega)).symm
      -- what is allowed now
      have acn : ∀ j x, j < G.n → x < G.cc j → (acq G (M 322) (M3 330) (k + 1) j x ↔ (acq G (M 322) (M2 330) k j x ∧ (j = k → G.mx k → (x : Int) = M3 330 k))) := fun j x hj hx => by
        constructor
        · intro q
          refine ⟨⟨q.1, q.2.1, fun r hlt => ?_⟩, fun e r => ?_⟩
          · rw [od j hlt]; exact q.2.2 r (by omega)
          · rw [← e]; exact q.2.2 (by rw [e]; exact r) (by omega)
        · intro q
          refine ⟨q.1.1, q.1.2.1, fun r hlt => ?_⟩
          by_cases e : j = k
          · rw [e]; exact q.2 e (by rw [← e]; exact r)
          · rw [← od j (by omega)]; exact q.1.2.2 r (by omega)
      refine ⟨⟨rfl, k + 1, by omega, by omega, f3, a3, fun j hj => ?_, ?_, fun j hj => ?_⟩, by omega⟩
      · have hcj := h.cc j hj
        by_cases e : j = k
        · by_cases hmk : G.mx k
          · obtain ⟨c, c3, c4, c5⟩ := r3.1 hmk
            have hck := h.cc k hkn
            have hcl := c5.1
            rw [e, c4]
            refine ⟨bs_sh (by omega) hm10, fun x hx => ?_⟩
            rw [bt_sh ⟨c, by omega⟩ ⟨x, hx⟩]
            constructor
            · intro ex
              have ex' : x = c := ex
              rw [ex']
              exact ⟨hcl, (acn k c hkn hcl).mpr ⟨⟨c5.2.1, c5.2.2.1, fun _ hlt => absurd hlt (Nat.lt_irrefl _)⟩, fun _ _ => c3.symm⟩⟩
            · intro q
              have q1 := ((acn k x hkn q.1).mp q.2).2 rfl hmk
              rw [c3] at q1
              show x = c
              omega
          · have r4 := (r3.2 hmk).1
            rw [e, r4]
            refine ⟨(q2 k hkn).1, fun x hx => ((q2 k hkn).2 x hx).trans ⟨fun q => ⟨q.1, (acn k x hkn q.1).mpr ⟨q.2, fun _ r => absurd r hmk⟩⟩, fun q => ⟨q.1, ((acn k x hkn q.1).mp q.2).1⟩⟩⟩
        · rw [p3 j e]
          refine ⟨(q2 j hj).1, fun x hx => ((q2 j hj).2 x hx).trans ⟨fun q => ⟨q.1, (acn j x hj q.1).mpr ⟨q.2, fun e' => absurd e' e⟩⟩, fun q => ⟨q.1, ((acn j x hj q.1).mp q.2).1⟩⟩⟩
      · by_cases hmk : G.mx k
        · obtain ⟨c, c3, c4, c5⟩ := r3.1 hmk
          refine fll_iff (fun j x hj hx => ?_) c5.2.2.2.1
          rw [acn j x hj hx]
          constructor
          · intro q
            refine ⟨⟨q.1, q.2.1, fun r => (q.2.2 r).1⟩, fun e r => ?_⟩
            have := (q.2.2 (by rw [e]; exact r)).2 e
            rw [c3, this]
          · intro q
            refine ⟨q.1.1, q.1.2.1, fun r => ⟨q.1.2.2 r, fun e => ?_⟩⟩
            have := q.2 e hmk
            rw [c3] at this
            omega
        · refine fll_iff (fun j x hj hx => ?_) l2
          rw [acn j x hj hx]
          exact ⟨fun q => ⟨q, fun _ r => absurd r hmk⟩, fun q => q.1⟩
      · by_cases e : j = k
        · rw [e]
          refine ⟨fun hmk => ?_, fun hmk => (r3.2 hmk).2⟩
          obtain ⟨c, c3, _, c5⟩ := r3.1 hmk
          have ea : ∀ c', acl G (M 322) (M2 330) k c' = acl G (M 322) (M3 330) k c' := fun c' => acl_d od
          refine ⟨c, c3, c5.1, c5.2.1, c5.2.2.1, by rw [← ea]; exact c5.2.2.2.1, fun c' b1 b2 b3 => by rw [← ea]; exact c5.2.2.2.2 c' b1 b2 b3⟩
        · exact cho_d (fun j' hj' => od j' (by omega)) (c2 j (by omega))
    refine v_isOfMax h2.vs (by rw [n2, ← hn]; omega) (fun ho => ?_) (fun ho => ?_)
    · have hmk : ¬ G.mx k := fun q => ho ((h2.mx k hkn).mpr q)
      have bits : ∀ x, x < 10 → (bt (M2 328 k) x ↔ x < G.cc k ∧ G.al k x ∧ tig G (M 322) k x) := fun x hx => ((q2 k hkn).2 x hx).trans ⟨fun q => ⟨q.1, q.2.1, q.2.2.1⟩, fun q => ⟨q.1, q.2.1, q.2.2, fun r => absurd r hmk⟩⟩
      have put : ∀ z : Int, rg z → ((0 < G.cc k → ∃ c : Nat, z = c ∧ c < G.cc k ∧ G.al k c ∧ tig G (M 322) k c ∧ ∀ c', c' < c → G.al k c' → ¬ tig G (M 322) k c') ∧ (G.cc k = 0 → z = -1)) → ∀ M3 : fm_M, M3 = fm_u M2 330 (k : Int).toNat z → chJ G (M 322) (fun j => G.tg j ∨ plo M j) v4 M m k M3 v4 ((k : Int) + 1) := fun z rz hz M3 e3 => by
        rw [Int.toNat_natCast] at e3
        refine step M3 (by rw [e3]; exact f2.u (by omega)) (fun j hj => ⟨by rw [e3, fu_off _ _ _ (by decide)]; exact (a2 j hj).1, by rw [e3, fu_at]; split; exact rz; exact (a2 j hj).2⟩) (fun j hj => by rw [e3, fu_at, if_neg hj]) (fun j hj => by rw [e3, fu_off _ _ _ (by decide)]) ⟨fun r => absurd r hmk, fun _ => ⟨by rw [e3, fu_off _ _ _ (by decide)], ?_⟩⟩
        rw [e3, fu_at, if_pos rfl]; exact hz
      have hck := h.cc k hkn
      refine ⟨rg_small (by decide), fun _ => ⟨by omega, ?_⟩, fun h => absurd rfl h⟩
      rw [Int.toNat_natCast] at *
      refine w_firstBit (fun z hz hb hf M3 e3 => put z (rg_small (by omega)) ⟨fun _ => ?_, fun hc0 => ?_⟩ M3 e3) (fun hno M3 e3 => put (-1) (rg_small (by decide)) ⟨fun hc0 => ?_, fun _ => rfl⟩ M3 e3)
      · obtain ⟨b1, b2, b3⟩ := (bits z hz).mp hb
        exact ⟨z, rfl, b1, b2, b3, fun c' hc' d2 d3 => hf c' hc' ((bits c' (by omega)).mpr ⟨by omega, d2, d3⟩)⟩
      · obtain ⟨b1, _⟩ := (bits z hz).mp hb
        omega
      · obtain ⟨c, d1, d2, d3⟩ := FS_tig W F hkn hc0
        exact absurd ((bits c (by omega)).mpr ⟨d1, d2, d3⟩) (hno c (by omega))
    · have hmk : G.mx k := (h2.mx k hkn).mp ho
      refine ⟨rg_small (by decide), fun h => absurd h (by decide), fun _ => w_chooseForMax h2 q2 a2 hkn hmk en8 enb (ex_pass hkn hmk (FS_tig W F hkn (hmc k hkn hmk)) l2) (fun M3 f3 a3 o3 p3 r3 => step M3 (f2.tr f3) a3 o3 p3 ⟨fun _ => r3, fun r => absurd hmk r⟩)⟩
  · refine ⟨?_, by rw [e2, fu_off _ _ _ (by decide)]; exact (a1 j hj).2⟩
    rw [e2, Int.toNat_natCast, fu_at]; split
    · exact bs_rg rb hm10
    · exact (a1 j hj).1
  · rw [e322] at rr
    rw [e2, Int.toNat_natCast, fu_at]
    by_cases e : j = i
    · rw [if_pos e, e]; exact ⟨rb, rr⟩
    · rw [if_neg e]; exact t1 j (by omega)
/-- so the class's choices are the good ones -/
theorem BYd_of {num : Nat → Int} {com : Int} {l : Nat → Prop} {d : Nat → Int} (W : G.Wf) (F : FS G num com l) (hx : ∀ j, j < G.n → 0 < G.cc j → ∃ k, k < G.cc j ∧ G.al j k) (hmc : ∀ i, i < G.n → G.mx i → 0 < G.cc i) (hc : ∀ i, i < G.n → cho G num (fun j => G.tg j ∨ l j) d i) : BYd G num com d := by
  intro i hi
  obtain ⟨c1, c2⟩ := hc i hi
  by_cases hm : G.mx i
  · refine ⟨fun h0 => by have := hmc i hi hm; omega, fun _ => ?_⟩
    obtain ⟨c, q1, q2, q3, q4, q5, q6⟩ := c1 hm
    have hd : ∀ j, j < i → G.mx j → 0 < G.cc j → ∃ k : Nat, d j = k ∧ k < G.cc j ∧ G.al j k := fun j hj hmj _ => by
      obtain ⟨k, k1, k2, k3, _⟩ := (hc j (by omega)).1 hmj
      exact ⟨k, k1, k2, k3⟩
    refine ⟨c, q1, q2, q3, Or.inl ((kpt_max W F hx hi hm q2 q3 hd).mpr ⟨q4, q5⟩), fun c' b1 b2 b3 => ?_⟩
    obtain ⟨r1, r2⟩ := (kpt_max W F hx hi hm (by omega) b2 hd).mp b3
    exact q6 c' b1 b2 r1 r2
  · refine ⟨(c2 hm).2, fun h0 => ?_⟩
    obtain ⟨c, q1, q2, q3, q4, q5⟩ := (c2 hm).1 h0
    have hd : ∀ j, j < i → ¬ G.mx j → 0 < G.cc j → ∃ k : Nat, d j = k ∧ k < G.cc j ∧ G.al j k ∧ tig G num j k := fun j hj hmj hcj => by
      obtain ⟨k, k1, k2, k3, k4, _⟩ := ((hc j (by omega)).2 hmj).1 hcj
      exact ⟨k, k1, k2, k3, k4⟩
    refine ⟨c, q1, q2, q3, Or.inl ((kpt_min W F hi hm q2 q3 hd).mpr q4), fun c' b1 b2 b3 => ?_⟩
    exact q5 c' b1 b2 ((kpt_min W F hi hm (by omega) b2 hd).mp b3)
end Cg
end Pu_wc
section Pu_wy
/-! What the class knows when its values are there. -/
section Wy
variable {g m : Nat} {G : Gd}
theorem FN_vr {M : fm_M} (h : CV g m G M) (hs : PS G M) (fn : FN G M) : vrg G M := fun j hj => by
  obtain ⟨rk, L, V, vb, vn⟩ := VA_val h hs fn.1
  have := vn j hj
  omega
theorem FN_fs {M : fm_M} (h : CV g m G M) (hs : PS G M) (fn : FN G M) : FS G (M 322) (M 312 2) (plo M) := by
  obtain ⟨rk, L, V, vb, vn⟩ := VA_val h hs fn.1
  have W := h.W
  refine ⟨rk, pq G M, L, pq_ok h.ex hs.2.1, V, fn.2.1, fun i k hi hmx hk ha => ?_, hs.1⟩
  by_cases hl : plo M i
  · rw [V.lost i hi hl, Int.mul_zero]
    rcases (hs.1 i hi hl).2 with a | ⟨_, a⟩ | ⟨a, _⟩
    · omega
    · have h0 : G.S i k (M 322) = 0 := sm_zero (fun b hb => by rw [V.lost _ (W.lt i k b hi hk hb) (a k hk ha b hb), Int.mul_zero])
      omega
    · exact absurd hmx a
  · by_cases ht : G.tg i
    · have := W.tgc i hi ht
      omega
    · exact fn.2.2 i k ⟨hi, hl, ht⟩ hmx hk ha
end Wy
end Pu_wy
