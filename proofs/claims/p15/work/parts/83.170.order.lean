set_option maxRecDepth 10000
section Pu_vh
/-! The rounds are few: no policy comes twice. -/
theorem mA_congr {G : Gd} {l : Nat → Prop} {q q' : Nat → Nat} (e : ∀ i, G.U l i → q i = q' i) : mA G l q = mA G l q' := by
  funext i j
  by_cases hu : G.U l i
  · rw [mA_U hu, mA_U hu, e i hu]
  · rw [mA_n hu, mA_n hu]
theorem mA_nr1 {G : Gd} (W : G.Wf) {l : Nat → Prop} {q : Nat → Nat} (hk : ∀ i, G.U l i → q i < G.cc i) (h6 : ∀ i k, i < G.n → k < G.cc i → G.wo i k ≤ 6) : nr1 G.n (mA G l q) := by
  intro i hi
  by_cases hu : G.U l i
  · have hq := hk i hu
    have hw0 : 0 ≤ G.wo i (q i) := sm_nn (fun b hb => Int.le_of_lt (W.pos i (q i) b hi hq hb))
    have e1 : sm (G.n + 1) (fun j => ab (mA G l q i j)) ≤ sm (G.n + 1) (fun j => (if j = i then G.wo i (q i) else 0) + sm (G.nb i (q i)) (fun b => if G.to i (q i) b = j then G.wt i (q i) b else 0)) := sm_le (fun j hj => by
      show ab (mA G l q i j) ≤ _
      rw [mA_U hu]
      refine ab_sub _ _ ?_ ?_
      · split
        · exact hw0
        · exact Int.le_refl _
      · refine sm_nn (fun b hb => ?_)
        split
        · exact Int.le_of_lt (W.pos i (q i) b hi hq hb)
        · exact Int.le_refl _)
    have e2 : sm (G.n + 1) (fun j => (if j = i then G.wo i (q i) else 0) + sm (G.nb i (q i)) (fun b => if G.to i (q i) b = j then G.wt i (q i) b else 0)) = G.wo i (q i) + G.wo i (q i) := by
      have s1 : sm (G.n + 1) (fun j => if j = i then G.wo i (q i) else 0) = G.wo i (q i) := by
        rw [sm_one (j := i) (by omega) (fun j _ hj => by rw [if_neg hj]), if_pos rfl]
      have s2 : sm (G.n + 1) (fun j => sm (G.nb i (q i)) (fun b => if G.to i (q i) b = j then G.wt i (q i) b else 0)) = G.wo i (q i) := by
        rw [sm_swap]
        unfold Gd.wo
        refine sm_congr (fun b hb => ?_)
        rw [sm_one (j := G.to i (q i) b) (by have := W.lt i (q i) b hi hq hb; omega) (fun j _ hj => by rw [if_neg (fun e => hj e.symm)]), if_pos rfl]
      rw [sm_add, s1, s2]
    have := h6 i (q i) hi hq
    rw [e2] at e1
    omega
  · have e1 : sm (G.n + 1) (fun j => ab (mA G l q i j)) ≤ sm (G.n + 1) (fun j => (if j = i then 1 else 0) + (if j = G.n then 1 else 0)) := sm_le (fun j hj => by
      show ab (mA G l q i j) ≤ _
      rw [mA_n hu]
      by_cases e : j = i
      · rw [if_pos e, if_pos e]
        have h1 : ab 1 = 1 := by decide
        rw [h1]; split <;> omega
      · rw [if_neg e, if_neg e]
        by_cases e2 : j = G.n ∧ G.tg i
        · rw [if_pos e2, if_pos e2.1]; decide
        · rw [if_neg e2]
          have h0 : ab 0 = 0 := by decide
          rw [h0]; split <;> omega)
    have s1 : sm (G.n + 1) (fun j => if j = i then (1 : Int) else 0) = 1 := by
      rw [sm_one (j := i) (by omega) (fun j _ hj => by rw [if_neg hj]), if_pos rfl]
    have s2 : sm (G.n + 1) (fun j => if j = G.n then (1 : Int) else 0) = 1 := by
      rw [sm_one (j := G.n) (by omega) (fun j _ hj => by rw [if_neg hj]), if_pos rfl]
    rw [sm_add, s1, s2] at e1
    omega
theorem nr1_dt {n : Nat} {A : Nat → Nat → Int} (h : nr1 n A) (hn : n ≤ 8) : dt n A ≤ 429981696 := by
  have hD : ab (dt n A) ≤ 12 ^ n := dt_bound (by decide) (fun r hr => by
    have a := nr1_row h (r := r) (k := n) (j := n) hr (Nat.le_refl _) (Nat.le_refl _)
    have b := ab_nn (A r n)
    omega)
  exact (ab_le.mp (Int.le_trans hD (pow_le8 hn))).2
/-- the sum of a policy's values -/
noncomputable def pvl (G : Gd) (l : Nat → Prop) (q : Nat → Nat) : Int := mv G.n (fun i => cjs (mA G l q) G.n i G.n) (dt G.n (mA G l q))
theorem pvl_congr {G : Gd} {l : Nat → Prop} {q q' : Nat → Nat} (e : ∀ i, G.U l i → q i = q' i) : pvl G l q = pvl G l q' := by unfold pvl; rw [mA_congr e]
/-- the same choices of MAX where it matters -/
def agr (G : Gd) (l : Nat → Prop) (p q : Nat → Nat) : Prop := ∀ i, G.U l i → G.mx i → p i = q i
def okm (G : Gd) (l : Nat → Prop) (q : Nat → Nat) : Prop := ∀ i, G.U l i → ¬ G.mx i → q i < G.cc i ∧ G.al i (q i)
theorem agr.symm {G : Gd} {l : Nat → Prop} {p q : Nat → Nat} (h : agr G l p q) : agr G l q p := fun i hu hm => (h i hu hm).symm
theorem agr.tr {G : Gd} {l : Nat → Prop} {p q r : Nat → Nat} (h : agr G l p q) (h2 : agr G l q r) : agr G l p r := fun i hu hm => (h i hu hm).trans (h2 i hu hm)
/-- one comes before another -/
def bfo (G : Gd) (l : Nat → Prop) (p q : Nat → Nat) : Prop := (agr G l p q ∧ pvl G l q < pvl G l p) ∨ (¬ agr G l p q ∧ ∃ f, agr G l p f ∧ okm G l f ∧ ∀ f', agr G l q f' → okm G l f' → pvl G l f < pvl G l f')
theorem bfo_irr {G : Gd} {l : Nat → Prop} {p : Nat → Nat} : ¬ bfo G l p p := by
  rintro (⟨_, h⟩ | ⟨h, _⟩)
  · omega
  · exact h (fun _ _ _ => rfl)
theorem bfo_tr {G : Gd} {l : Nat → Prop} {p q r : Nat → Nat} (h1 : bfo G l p q) (h2 : bfo G l q r) : bfo G l p r := by
  rcases h1 with ⟨a1, v1⟩ | ⟨n1, f, f1, f2, f3⟩
  · rcases h2 with ⟨a2, v2⟩ | ⟨n2, g, g1, g2, g3⟩
    · exact Or.inl ⟨a1.tr a2, by omega⟩
    · exact Or.inr ⟨fun h => n2 (a1.symm.tr h), g, a1.tr g1, g2, g3⟩
  · rcases h2 with ⟨a2, v2⟩ | ⟨n2, g, g1, g2, g3⟩
    · exact Or.inr ⟨fun h => n1 (h.tr a2.symm), f, f1, f2, fun f' h1 h2 => f3 f' (a2.tr h1) h2⟩
    · have v := f3 g g1 g2
      refine Or.inr ⟨fun h => ?_, f, f1, f2, fun f' h1 h2 => ?_⟩
      · have := g3 f (h.symm.tr f1) f2
        omega
      · have := g3 f' h1 h2
        omega
theorem bfo_congr {G : Gd} {l : Nat → Prop} {p q q' : Nat → Nat} (e : ∀ i, G.U l i → q i = q' i) (h : bfo G l p q) : bfo G l p q' := by
  have a : agr G l q q' := fun i hu _ => e i hu
  rcases h with ⟨a1, v1⟩ | ⟨n1, f, f1, f2, f3⟩
  · exact Or.inl ⟨a1.tr a, by rw [← pvl_congr e]; exact v1⟩
  · exact Or.inr ⟨fun h => n1 (h.tr a.symm), f, f1, f2, fun f' h1 h2 => f3 f' (a.tr h1) h2⟩
noncomputable def dcd (G : Gd) (l : Nat → Prop) (e : Nat) : Nat → Nat := fun i => dgc e (cnt (G.U l) i)
/-- how many may still come -/
noncomputable def fcn (G : Gd) (l : Nat → Prop) (q : Nat → Nat) : Nat := cnt (fun e => bfo G l q (dcd G l e)) (10 ^ cnt (G.U l) G.n)
theorem dcd_enc {G : Gd} {l : Nat → Prop} {q : Nat → Nat} (h : ∀ i, G.U l i → q i < 10) : ∀ i, G.U l i → q i = dcd G l (enc (G.U l) q G.n) i := fun i hu => (enc_dg (P := G.U l) (p := q) (n := G.n) (fun i _ hu => h i hu) i hu.1 hu).symm
theorem fcn_lt {G : Gd} {l : Nat → Prop} {q q' : Nat → Nat} (h : ∀ i, G.U l i → q' i < 10) (b : bfo G l q q') : fcn G l q' < fcn G l q :=
  cnt_lt (j := enc (G.U l) q' G.n) (fun e _ h2 => bfo_tr b h2) (enc_lt (fun i _ hu => h i hu)) (bfo_congr (dcd_enc h) b) (fun h2 => bfo_irr (bfo_congr (fun i hu => (dcd_enc h i hu).symm) h2))
theorem fcn_0 {G : Gd} {l : Nat → Prop} {q : Nat → Nat} (h : ∀ i, G.U l i → q i < 10) : fcn G l q < 10 ^ cnt (G.U l) G.n := by
  have a := cnt_lt (P := fun e => bfo G l q (dcd G l e)) (Q := fun _ => True) (n := 10 ^ cnt (G.U l) G.n) (j := enc (G.U l) q G.n) (fun _ _ _ => trivial) (enc_lt (fun i _ hu => h i hu)) trivial (fun h2 => bfo_irr (bfo_congr (fun i hu => (dcd_enc h i hu).symm) h2))
  have b := cnt_le (fun _ => True) (10 ^ cnt (G.U l) G.n)
  unfold fcn
  omega
theorem cnt_6 {P : Nat → Prop} {n a t : Nat} (hn : n ≤ 8) (ha : a < n) (hpa : ¬ P a) (ht : t < n) (hpt : ¬ P t) (hne : a ≠ t) : cnt P n ≤ 6 := by
  have h1 := cnt_lt (P := P) (Q := fun x => P x ∨ x = a) (n := n) (j := a) (fun _ _ h => Or.inl h) ha (Or.inr rfl) hpa
  have h2 := cnt_lt (P := fun x => P x ∨ x = a) (Q := fun x => (P x ∨ x = a) ∨ x = t) (n := n) (j := t) (fun _ _ h => Or.inl h) ht (Or.inr rfl) (fun h => by
    rcases h with h | h
    · exact hpt h
    · exact hne h.symm)
  have h3 := cnt_le (fun x => (P x ∨ x = a) ∨ x = t) n
  omega
theorem ex_tg {G : Gd} (W : G.Wf) {l : Nat → Prop} {q rk : Nat → Nat} (hd : ∀ i, G.U l i → G.down l rk i (q i)) : ∀ r i, rk i < r → G.U l i → ∃ t, t < G.n ∧ G.tg t := by
  intro r
  induction r with
  | zero => intro i h _; omega
  | succ r ih =>
    intro i hr hu
    obtain ⟨hk, b, hb, hlo, hrk⟩ := hd i hu
    have ht := W.lt i (q i) b hu.1 hk hb
    by_cases e : G.tg (G.to i (q i) b)
    · exact ⟨_, ht, e⟩
    · exact ih _ (by omega) ⟨ht, hlo, e⟩
/-- at most a million policies, if something is lost -/
theorem open_6 {G : Gd} (W : G.Wf) (hn : G.n ≤ 8) {l : Nat → Prop} {q rk : Nat → Nat} (hd : ∀ i, G.U l i → G.down l rk i (q i)) (hl : ∀ i, i < G.n → l i → ¬ G.tg i) {a : Nat} (ha : a < G.n) (hla : l a) : cnt (G.U l) G.n ≤ 6 := by
  by_cases h : ∃ i, G.U l i
  · obtain ⟨i, hu⟩ := h
    obtain ⟨t, ht, htg⟩ := ex_tg W hd (rk i + 1) i (by omega) hu
    exact cnt_6 hn ha (fun h => h.2.1 hla) ht (fun h => h.2.2 htg) (fun e => hl a ha hla (by rw [e]; exact htg))
  · have := cnt_mono (P := G.U l) (Q := fun _ => False) (n := G.n) (fun e _ h2 => h ⟨e, h2⟩)
    have h0 : ∀ n, cnt (fun _ => False) n = 0 := fun n => by
      induction n with
      | zero => rfl
      | succ n ih => rw [cnt, ih, if_neg (fun h => h)]
    rw [h0] at this
    omega
section Stp
variable {G : Gd} {l : Nat → Prop} {q q' rk : Nat → Nat}
/-- the values of the policy that stands -/
noncomputable def vnum (G : Gd) (l : Nat → Prop) (q : Nat → Nat) (i : Nat) : Int := cjs (mA G l q) G.n i G.n
noncomputable def vcom (G : Gd) (l : Nat → Prop) (q : Nat → Nat) : Int := dt G.n (mA G l q)
theorem vval (W : G.Wf) (L : G.Lost q l rk) (hq : G.ok q) : G.Val l q (vnum G l q) (vcom G l q) := mA_val W (L.dn hq (fun _ _ _ => rfl)) L.ntg
theorem vcom_bd (W : G.Wf) (h6 : ∀ i k, i < G.n → k < G.cc i → G.wo i k ≤ 6) (hn : G.n ≤ 8) (L : G.Lost q l rk) (hq : G.ok q) : vcom G l q ≤ 429981696 := nr1_dt (mA_nr1 W (fun i hu => (L.dn hq (fun _ _ _ => rfl) i hu).1) h6) hn
theorem stp_min (W : G.Wf) (h6 : ∀ i k, i < G.n → k < G.cc i → G.wo i k ≤ 6) (hn : G.n ≤ 8) (L : G.Lost q l rk) (hq : G.ok q) (hq' : G.ok q') (he : G.eqmx q q') (hsw : ∀ i, G.U l i → q' i = q i ∨ G.S i (q' i) (vnum G l q) < G.wo i (q' i) * vnum G l q i) (ex : ∃ i, G.U l i ∧ G.S i (q' i) (vnum G l q) < G.wo i (q' i) * vnum G l q i) : G.Lost q' l rk ∧ bfo G l q q' := by
  have V := vval W L hq
  have L' := Lost_congr L he
  have V' := vval W L' hq'
  have I := Gd.inner W L hq' he V V' hsw
  obtain ⟨i, hu, hs⟩ := ex
  refine ⟨L', Or.inl ⟨fun j hj hm => he j hj.1 hm, ?_⟩⟩
  exact mv_lt ⟨V.pos, vcom_bd W h6 hn L hq⟩ ⟨V'.pos, vcom_bd W h6 hn L' hq'⟩ I.1 hu.1 (I.2 i hu hs)
theorem stp_max (W : G.Wf) (h6 : ∀ i k, i < G.n → k < G.cc i → G.wo i k ≤ 6) (hn : G.n ≤ 8) (C : clo G l) (L : G.Lost q l rk) (hq : G.ok q) (hq' : G.ok q') (ho : hopt G l (vnum G l q)) (hsw : ∀ i, i < G.n → G.mx i → 0 < G.cc i → q' i = q i ∨ G.wo i (q' i) * vnum G l q i < G.S i (q' i) (vnum G l q)) (ex : ∃ i, G.U l i ∧ G.mx i ∧ G.wo i (q' i) * vnum G l q i < G.S i (q' i) (vnum G l q)) : (∃ rk', G.Lost q' l rk') ∧ bfo G l q q' := by
  have V := vval W L hq
  have hd := L.dn hq (fun _ _ _ => rfl)
  obtain ⟨rk', L'⟩ := step_max W C L hq hq' V ho hsw
  obtain ⟨i, hu, hm, hs⟩ := ex
  have hcc : 0 < G.cc i := by have := (hd i hu).1; omega
  refine ⟨⟨rk', L'⟩, Or.inr ⟨fun h => ?_, q, fun _ _ _ => rfl, fun j hj _ => hq j hj.1 (by have := (hd j hj).1; omega), fun f' h1 h2 => ?_⟩⟩
  · have e := h i hu hm
    rw [← e, V.eqn i hu] at hs
    omega
  · generalize hf : (fun j => @ite Nat (G.U l j) (Classical.propDecidable _) (f' j) (q' j)) = f
    have fU : ∀ j, G.U l j → f j = f' j := fun j hj => by rw [← hf]; dsimp only; rw [if_pos hj]
    have fN : ∀ j, ¬ G.U l j → f j = q' j := fun j hj => by rw [← hf]; dsimp only; rw [if_neg hj]
    have okf : G.ok f := fun j hj hc => by
      by_cases hu : G.U l j
      · rw [fU j hu]
        by_cases hmj : G.mx j
        · rw [← h1 j hu hmj]; exact hq' j hj hc
        · exact h2 j hu hmj
      · rw [fN j hu]; exact hq' j hj hc
    have ef : G.eqmx q' f := fun j hj hmj => by
      by_cases hu : G.U l j
      · rw [fU j hu]; exact h1 j hu hmj
      · rw [fN j hu]
    have Lf := Lost_congr L' ef
    have Vf := vval W Lf okf
    have O := Gd.outer W L hq L' okf hq' ef V Vf ho hsw
    rw [pvl_congr (q := f') (q' := f) (fun j hj => (fU j hj).symm)]
    exact mv_lt ⟨Vf.pos, vcom_bd W h6 hn Lf okf⟩ ⟨V.pos, vcom_bd W h6 hn L hq⟩ O.1 hu.1 (O.2 i hu.1 hm hcc hs)
/-- nobody can do better: the game's values -/
theorem sol_of (W : G.Wf) (C : clo G l) (L : G.Lost q l rk) (hq : G.ok q) {num : Nat → Int} {com : Int} (V : G.Val l q num com) (ho : hopt G l num) (hm : ∀ i k, G.U l i → G.mx i → k < G.cc i → G.al i k → G.S i k num ≤ G.wo i k * num i) : Sol G num com := by
  refine ⟨l, rk, q, L, hq, V, ho, fun i k hi hmx hk ha => ?_⟩
  by_cases hl : l i
  · rw [V.lost i hi hl, Int.mul_zero]
    rcases (C i hi hl).2 with a | ⟨_, a⟩ | ⟨a, _⟩
    · omega
    · have : G.S i k num = 0 := sm_zero (fun b hb => by rw [V.lost _ (W.lt i k b hi hk hb) (a k hk ha b hb), Int.mul_zero])
      omega
    · exact absurd hmx a
  · by_cases ht : G.tg i
    · have := W.tgc i hi ht
      omega
    · exact hm i k ⟨hi, hl, ht⟩ hmx hk ha
/-- with nothing lost nothing is better -/
theorem one_eq (W : G.Wf) (L : G.Lost q l rk) (hq : G.ok q) (hl : ∀ i, i < G.n → ¬ l i) {num : Nat → Int} {com : Int} (V : G.Val l q num com) {i k : Nat} (hi : i < G.n) (hk : k < G.cc i) : G.S i k num = G.wo i k * num i := by
  have a := all_one W (L.dn hq (fun _ _ _ => rfl)) hl V
  rw [a i hi, ← Gd.S_const]
  exact sm_congr (fun b hb => by rw [a _ (W.lt i k b hi hk hb)])
end Stp
end Pu_vh
