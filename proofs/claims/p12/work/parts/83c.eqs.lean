set_option maxRecDepth 10000
section Pu_D
/-! The reference's equations and values. -/
/-- the cells cs and the slots bs of the reference alone may change -/
def sv (cs bs : List Nat) (M M' : fm_M) : Prop :=
  (∀ a, a ∉ cs → a ≠ 331 → M' a = M a) ∧
  (∀ b, b ∉ bs → M' 331 b = M 331 b)
theorem sv.cell {cs bs : List Nat} {M M' : fm_M} (h_ : sv cs bs M M') : ∀ a, a ∉ cs → a ≠ 331 → M' a = M a := h_.1
theorem sv.slot {cs bs : List Nat} {M M' : fm_M} (h_ : sv cs bs M M') : ∀ b, b ∉ bs → M' 331 b = M 331 b := h_.2
theorem sv.refl {cs bs : List Nat} {M : fm_M} : sv cs bs M M := ⟨fun _ _ _ => rfl, fun _ _ => rfl⟩
theorem sv.tr {cs bs : List Nat} {M M' M'' : fm_M} (h : sv cs bs M M') (h2 : sv cs bs M' M'') : sv cs bs M M'' := ⟨fun a h3 h4 => by rw [h2.cell a h3 h4, h.cell a h3 h4], fun b h3 => by rw [h2.slot b h3, h.slot b h3]⟩
theorem sv.mono {cs bs cs' bs' : List Nat} {M M' : fm_M} (h : sv cs bs M M') (h1 : ∀ a ∈ cs, a ∈ cs') (h2 : ∀ a ∈ bs, a ∈ bs') : sv cs' bs' M M' := ⟨fun a h3 h4 => h.cell a (fun h => h3 (h1 a h)) h4, fun b h3 => h.slot b (fun h => h3 (h2 b h))⟩
theorem sv.u {cs bs : List Nat} {M M' : fm_M} {c p : Nat} {v : Int} (h : sv cs bs M M') (hc : c ∈ cs) (h3 : c ≠ 331) : sv cs bs M (fm_u M' c p v) := ⟨fun a h1 h2 => by rw [fu_off _ _ _ (show a ≠ c from fun h => h1 (by rw [h]; exact hc))]; exact h.cell a h1 h2, fun b hb => by rw [fu_off _ _ _ (Ne.symm h3)]; exact h.slot b hb⟩
theorem sv.us {cs bs : List Nat} {M M' : fm_M} {p : Nat} {v : Int} (h : sv cs bs M M') (hp : p ∈ bs) : sv cs bs M (fm_u M' 331 p v) := ⟨fun a h1 h2 => by rw [fu_off _ _ _ h2]; exact h.cell a h1 h2, fun b hb => by rw [fu_at, if_neg (show ¬ b = p from fun h => hb (by rw [h]; exact hp))]; exact h.slot b hb⟩
theorem sv.ofx {cs bs : List Nat} {M M' : fm_M} {c : Nat} (h : ex1 c M M') (hc : c ∈ cs) (h3 : c ≠ 331) : sv cs bs M M' := ⟨fun a h1 _ => h a (fun h => h1 (by rw [h]; exact hc)), fun b _ => by rw [h 331 (Ne.symm h3)]⟩
def gi (M : fm_M) (i k : Nat) : Nat := (10 * M 331 6 + M 348 (10 * i + k)).toNat
def Gof (M : fm_M) : Gd := ((M 331 20).toNat, fun i => (M 349 i).toNat, fun i k => (M 337 (gi M i k)).toNat, fun i k b => M 339 (4 * gi M i k + b), fun i k b => (M 350 (40 * i + 4 * k + b)).toNat, fun i => M 346 i ≠ 0, fun i => M 347 i ≠ 0, fun i k => jand (jshr (M 352 i) k) 1 = 1)
def GW (M : fm_M) : Prop :=
  (0 ≤ M 331 20 ∧ M 331 20 ≤ 8) ∧
  (0 ≤ M 331 6 ∧ M 331 6 ≤ 1) ∧
  (∀ i, i < (Gof M).n → 0 ≤ M 349 i ∧ M 349 i ≤ 10) ∧
  (∀ i, i < (Gof M).n → M 346 i = 0 ∨ M 346 i = 1) ∧
  (∀ i, i < (Gof M).n → M 347 i = 0 ∨ M 347 i = 1) ∧
  (∀ i k, i < (Gof M).n → k < (Gof M).cc i → 0 ≤ M 348 (10 * i + k) ∧ M 348 (10 * i + k) ≤ 9) ∧
  (∀ i k, i < (Gof M).n → k < (Gof M).cc i → 1 ≤ M 337 (gi M i k) ∧ M 337 (gi M i k) ≤ 4) ∧
  (∀ i k b, i < (Gof M).n → k < (Gof M).cc i → b < (Gof M).nb i k → 1 ≤ M 339 (4 * gi M i k + b) ∧ M 339 (4 * gi M i k + b) ≤ 6) ∧
  (∀ i k, i < (Gof M).n → k < (Gof M).cc i → M 338 (gi M i k) = (Gof M).wo i k ∧ M 338 (gi M i k) ≤ 6) ∧
  (∀ i k b, i < (Gof M).n → k < (Gof M).cc i → b < (Gof M).nb i k → 0 ≤ M 350 (40 * i + 4 * k + b) ∧ M 350 (40 * i + 4 * k + b) < M 331 20) ∧
  (∀ i, i < (Gof M).n → M 346 i ≠ 0 → M 349 i = 0)
theorem GW.hn {M : fm_M} (h_ : GW M) : 0 ≤ M 331 20 ∧ M 331 20 ≤ 8 := h_.1
theorem GW.hg {M : fm_M} (h_ : GW M) : 0 ≤ M 331 6 ∧ M 331 6 ≤ 1 := h_.2.1
theorem GW.cc {M : fm_M} (h_ : GW M) : ∀ i, i < (Gof M).n → 0 ≤ M 349 i ∧ M 349 i ≤ 10 := h_.2.2.1
theorem GW.tg {M : fm_M} (h_ : GW M) : ∀ i, i < (Gof M).n → M 346 i = 0 ∨ M 346 i = 1 := h_.2.2.2.1
theorem GW.mx {M : fm_M} (h_ : GW M) : ∀ i, i < (Gof M).n → M 347 i = 0 ∨ M 347 i = 1 := h_.2.2.2.2.1
theorem GW.ch {M : fm_M} (h_ : GW M) : ∀ i k, i < (Gof M).n → k < (Gof M).cc i → 0 ≤ M 348 (10 * i + k) ∧ M 348 (10 * i + k) ≤ 9 := h_.2.2.2.2.2.1
theorem GW.nb {M : fm_M} (h_ : GW M) : ∀ i k, i < (Gof M).n → k < (Gof M).cc i → 1 ≤ M 337 (gi M i k) ∧ M 337 (gi M i k) ≤ 4 := h_.2.2.2.2.2.2.1
theorem GW.wt {M : fm_M} (h_ : GW M) : ∀ i k b, i < (Gof M).n → k < (Gof M).cc i → b < (Gof M).nb i k → 1 ≤ M 339 (4 * gi M i k + b) ∧ M 339 (4 * gi M i k + b) ≤ 6 := h_.2.2.2.2.2.2.2.1
theorem GW.wo {M : fm_M} (h_ : GW M) : ∀ i k, i < (Gof M).n → k < (Gof M).cc i → M 338 (gi M i k) = (Gof M).wo i k ∧ M 338 (gi M i k) ≤ 6 := h_.2.2.2.2.2.2.2.2.1
theorem GW.to {M : fm_M} (h_ : GW M) : ∀ i k b, i < (Gof M).n → k < (Gof M).cc i → b < (Gof M).nb i k → 0 ≤ M 350 (40 * i + 4 * k + b) ∧ M 350 (40 * i + 4 * k + b) < M 331 20 := h_.2.2.2.2.2.2.2.2.2.1
theorem GW.tgc {M : fm_M} (h_ : GW M) : ∀ i, i < (Gof M).n → M 346 i ≠ 0 → M 349 i = 0 := h_.2.2.2.2.2.2.2.2.2.2
theorem GW.wf {M : fm_M} (h : GW M) : (Gof M).Wf :=
  ⟨fun i k b hi hk hb => by have := (h.wt i k b hi hk hb).1; show 0 < M 339 _; omega,
  fun i k b hi hk hb => by have := h.to i k b hi hk hb; show (M 350 _).toNat < (M 331 20).toNat; omega,
  fun i hi ht => by have := h.tgc i hi ht; show (M 349 i).toNat = 0; omega⟩
/-- what the game is made of -/
def gcs : List Nat := [337, 338, 339, 346, 347, 348, 349, 350]
theorem Gof_same {cs bs : List Nat} {M M' : fm_M} (h : sv cs bs M M') (hc : ∀ a ∈ gcs, a ∉ cs) (h2 : 352 ∉ cs) (hb : 6 ∉ bs ∧ 20 ∉ bs) : Gof M' = Gof M := by
  have e : ∀ a ∈ gcs, M' a = M a := fun a ha => h.cell a (hc a ha) (by revert ha; revert a; decide)
  unfold Gof gi
  rw [h.slot 6 hb.1, h.slot 20 hb.2, e 337 (by decide), e 339 (by decide), e 346 (by decide), e 347 (by decide), e 348 (by decide), e 349 (by decide), e 350 (by decide), h.cell 352 h2 (by decide)]
theorem GW_same {cs bs : List Nat} {M M' : fm_M} (h : sv cs bs M M') (hc : ∀ a ∈ gcs, a ∉ cs) (hb : 6 ∉ bs ∧ 20 ∉ bs) (w : GW M) : GW M' := by
  have e : ∀ a ∈ gcs, M' a = M a := fun a ha => h.cell a (hc a ha) (by revert ha; revert a; decide)
  have h6 := h.slot 6 hb.1
  have h20 := h.slot 20 hb.2
  have eg : ∀ i k, gi M' i k = gi M i k := fun i k => by unfold gi; rw [h6, e 348 (by decide)]
  have en : (Gof M').n = (Gof M).n := by show (M' 331 20).toNat = (M 331 20).toNat; rw [h20]
  have ec : (Gof M').cc = (Gof M).cc := by funext i; show (M' 349 i).toNat = (M 349 i).toNat; rw [e 349 (by decide)]
  have eb : (Gof M').nb = (Gof M).nb := by funext i k; show (M' 337 _).toNat = (M 337 _).toNat; rw [e 337 (by decide), eg]
  have ew : (Gof M').wt = (Gof M).wt := by funext i k b; show M' 339 _ = M 339 _; rw [e 339 (by decide), eg]
  have eo : ∀ i k, (Gof M').wo i k = (Gof M).wo i k := fun i k => by unfold Gd.wo; rw [eb, ew]
  obtain ⟨a1, a2, a3, a4, a5, a6, a7, a8, a9, a10, a11⟩ := w
  refine ⟨?_, ?_, ?_, ?_, ?_, ?_, ?_, ?_, ?_, ?_, ?_⟩ <;> simp only [h6, h20, eg, en, ec, eb, eo, e 337 (by decide), e 338 (by decide), e 339 (by decide), e 346 (by decide), e 347 (by decide), e 348 (by decide), e 349 (by decide), e 350 (by decide)] <;> assumption
/-- open states, counted -/
abbrev um (M : fm_M) (i : Nat) : Prop := M 354 i = 0 ∧ M 346 i = 0
def cu (M : fm_M) : Nat → Nat
  | 0 => 0
  | i + 1 => cu M i + (if um M i then 1 else 0)
theorem cu_le (M : fm_M) (i : Nat) : cu M i ≤ i := by
  induction i with
  | zero => exact Nat.le_refl _
  | succ i ih => simp only [cu]; split <;> omega
theorem cu_mono (M : fm_M) {i j : Nat} (h : i ≤ j) : cu M i ≤ cu M j := by
  induction j with
  | zero => rw [show i = 0 by omega]; exact Nat.le_refl _
  | succ j ih =>
    by_cases e : i = j + 1
    · rw [e]; exact Nat.le_refl _
    · have := ih (by omega); simp only [cu]; omega
theorem cu_lt (M : fm_M) {i j : Nat} (h : i < j) (hi : um M i) : cu M i < cu M j := by
  have h1 : cu M (i + 1) = cu M i + 1 := by simp only [cu]; rw [if_pos hi]
  have := cu_mono M (show i + 1 ≤ j by omega)
  omega
theorem cu_inj (M : fm_M) {i j : Nat} (hi : um M i) (hj : um M j) (h : cu M i = cu M j) : i = j := by
  by_cases h1 : i < j
  · have := cu_lt M h1 hi; omega
  · by_cases h2 : j < i
    · have := cu_lt M h2 hj; omega
    · omega
theorem cu_sur (M : fm_M) (n r : Nat) (h : r < cu M n) : ∃ i, i < n ∧ um M i ∧ cu M i = r := by
  induction n with
  | zero => simp only [cu] at h; omega
  | succ n ih =>
    by_cases h1 : r < cu M n
    · obtain ⟨i, a, b, c⟩ := ih h1; exact ⟨i, by omega, b, c⟩
    · simp only [cu] at h
      by_cases h2 : um M n
      · rw [if_pos h2] at h; exact ⟨n, by omega, h2, by omega⟩
      · rw [if_neg h2] at h; omega
/-- the number that a state's unknown gets -/
def un (M : fm_M) (i : Nat) : Int := if um M i then (cu M i : Int) else -1
def pk (M : fm_M) (i : Nat) : Nat := (M 353 i).toNat
/-- row of state i, after b branches -/
def rwf (M : fm_M) (i b c : Nat) : Int := (if c = cu M i then (Gof M).wo i (pk M i) else 0) - sm b (fun a => if un M ((Gof M).to i (pk M i) a) = c then (Gof M).wt i (pk M i) a else 0)
def rw8 (M : fm_M) (i b : Nat) : Int := sm b (fun a => if M 346 ((Gof M).to i (pk M i) a) ≠ 0 ∧ un M ((Gof M).to i (pk M i) a) < 0 then (Gof M).wt i (pk M i) a else 0)
/-- what the equations' rows are to be -/
def Eqs (M M' : fm_M) : Prop :=
  (sv [355, 356] [34] M M') ∧
  (M' 331 34 = cu M (Gof M).n) ∧
  (∀ i, i < (Gof M).n → M' 355 i = un M i) ∧
  (∀ i, i < (Gof M).n → um M i → ∀ c, c < 8 → M' 356 (9 * cu M i + c) = rwf M i ((Gof M).nb i (pk M i)) c) ∧
  (∀ i, i < (Gof M).n → um M i → M' 356 (9 * cu M i + 8) = rw8 M i ((Gof M).nb i (pk M i)))
theorem Eqs.s {M M' : fm_M} (h_ : Eqs M M') : sv [355, 356] [34] M M' := h_.1
theorem Eqs.num {M M' : fm_M} (h_ : Eqs M M') : M' 331 34 = cu M (Gof M).n := h_.2.1
theorem Eqs.un {M M' : fm_M} (h_ : Eqs M M') : ∀ i, i < (Gof M).n → M' 355 i = un M i := h_.2.2.1
theorem Eqs.row {M M' : fm_M} (h_ : Eqs M M') : ∀ i, i < (Gof M).n → um M i → ∀ c, c < 8 → M' 356 (9 * cu M i + c) = rwf M i ((Gof M).nb i (pk M i)) c := h_.2.2.2.1
theorem Eqs.row8 {M M' : fm_M} (h_ : Eqs M M') : ∀ i, i < (Gof M).n → um M i → M' 356 (9 * cu M i + 8) = rw8 M i ((Gof M).nb i (pk M i)) := h_.2.2.2.2
/-- before the equations -/
def PreE (M : fm_M) : Prop :=
  (GW M) ∧
  (∀ i, i < (Gof M).n → M 354 i = 0 ∨ M 354 i = 1) ∧
  (∀ i, i < (Gof M).n → um M i → 0 ≤ M 353 i ∧ M 353 i < M 349 i)
theorem PreE.w {M : fm_M} (h_ : PreE M) : GW M := h_.1
theorem PreE.lo {M : fm_M} (h_ : PreE M) : ∀ i, i < (Gof M).n → M 354 i = 0 ∨ M 354 i = 1 := h_.2.1
theorem PreE.pk {M : fm_M} (h_ : PreE M) : ∀ i, i < (Gof M).n → um M i → 0 ≤ M 353 i ∧ M 353 i < M 349 i := h_.2.2
theorem eq_7 (post : Int → fm_M → Prop) (thr : String → fm_M → Prop) (M : fm_M) (h : PreE M)
    (hp : ∀ M', sv [355] [34] M M' → M' 331 34 = cu M (Gof M).n → (∀ i, i < (Gof M).n → M' 355 i = un M i) → B_Mo_equations_81 post thr M' 0) : wp_Mo_equations M post thr := by
  unfold wp_Mo_equations
  intro M1 hM1
  have hn := h.w.hn
  have hnn : ((Gof M).n : Int) = M 331 20 := by show ((M 331 20).toNat : Int) = _; omega
  refine ⟨fun M' v1 => ∃ i : Nat, v1 = i ∧ i ≤ (Gof M).n ∧ sv [355] [34] M M' ∧ M' 331 34 = cu M i ∧ ∀ j, j < i → M' 355 j = un M j, fun _ v1 => ((Gof M).n - v1).toNat, ⟨0, rfl, by omega, by rw [hM1]; exact sv.refl.us (by decide), by rw [hM1, fu_at, if_pos rfl]; rfl, fun j hj => by omega⟩, ?_⟩
  rintro M' v1 ⟨i, rfl, hin, hs, hc, hu⟩
  have e20 : M' 331 20 = (Gof M).n := by rw [hs.slot 20 (by decide), hnn]
  have key : i < (Gof M).n → B_Mo_equations_46 post thr (fun M'_1 v1' => (∃ i : Nat, v1' = i ∧ i ≤ (Gof M).n ∧ sv [355] [34] M M'_1 ∧ M'_1 331 34 = cu M i ∧ ∀ j, j < i → M'_1 355 j = un M j) ∧ ((Gof M).n - v1').toNat < ((Gof M).n - (i : Int)).toNat) M' i (un M i) i := by
    intro hi
    have hcl := cu_le M i
    have hur : un M i = -1 ∨ un M i = cu M i := by unfold un; split; exact Or.inr rfl; exact Or.inl rfl
    unfold B_Mo_equations_46
    refine ⟨by omega, fun M2 hM2 => ?_⟩
    have e1 : M2 355 i = un M i := by rw [hM2, fu_at, if_pos (by omega)]
    have e2 : M2 331 34 = cu M i := by rw [hM2, fu_off _ _ _ (by decide)]; exact hc
    have hs2 : sv [355] [34] M M2 := by rw [hM2]; exact hs.u (by decide) (by decide)
    have hu2 : ∀ j, j < i + 1 → M2 355 j = un M j := fun j hj => by
      by_cases e : j = i
      · rw [e]; exact e1
      · rw [hM2, fu_at, if_neg (by omega)]; exact hu j (by omega)
    simp only [Int.toNat_natCast]
    rw [e1, e2]
    refine ⟨by omega, rg_small (by omega), fun h0 => ?_, fun h0 => ?_⟩
    · have hU : um M i := Classical.byContradiction (fun hn => by unfold un at h0; rw [if_neg hn] at h0; omega)
      unfold B_Mo_equations_70
      exact fun M3 hM3 => ⟨⟨i + 1, by omega, by omega, by rw [hM3]; exact hs2.us (by decide), by rw [hM3, fu_at, if_pos rfl]; simp only [cu]; rw [if_pos hU]; omega, fun j hj => by rw [hM3, fu_off _ _ _ (by decide)]; exact hu2 j hj⟩, by omega⟩
    · have hU : ¬ um M i := fun hn => by unfold un at h0; rw [if_pos hn] at h0; omega
      unfold B_Mo_equations_70
      exact fun M3 hM3 => ⟨⟨i + 1, by omega, by omega, by rw [hM3]; exact hs2.us (by decide), by rw [hM3, fu_at, if_pos rfl]; simp only [cu]; rw [if_neg hU]; omega, fun j hj => by rw [hM3, fu_off _ _ _ (by decide)]; exact hu2 j hj⟩, by omega⟩
  unfold C_Mo_equations_7
  rw [e20]
  refine ⟨rg_small (by omega), rg_small (by omega), fun h1 => ?_, fun h1 => ⟨by omega, ?_⟩⟩
  · have : i = (Gof M).n := by omega
    subst this
    exact hp M' hs hc hu
  · have hi : i < (Gof M).n := by omega
    have k := key hi
    have hl := h.lo i hi
    have ht := h.w.tg i hi
    simp only [Int.toNat_natCast]
    rw [hs.cell 354 (by decide) (by decide), hs.cell 346 (by decide) (by decide)]
    refine ⟨rg_small (by omega), fun h2 => ?_, fun h2 => ⟨rg_small (by omega), fun h3 => ?_, fun h3 => ?_⟩⟩
    · have : un M i = -1 := by unfold un; rw [if_neg (fun hn => h2 hn.1)]
      rw [this] at k; exact k
    · have : un M i = cu M i := by unfold un; rw [if_pos ⟨h2, h3⟩]
      rw [this, ← hc] at k; exact k
    · have : un M i = -1 := by unfold un; rw [if_neg (fun hn => h3 hn.2)]
      rw [this] at k; exact k
end Pu_D
section Pu_E1
theorem eq_81 (post : Int → fm_M → Prop) (thr : String → fm_M → Prop) (M M0 : fm_M) (hs0 : sv [355, 356] [34] M M0) (h34 : M0 331 34 = cu M (Gof M).n) (hu : ∀ i, i < (Gof M).n → M0 355 i = un M i)
    (hp : ∀ M', sv [355, 356] [34] M M' → M' 331 34 = cu M (Gof M).n → (∀ i, i < (Gof M).n → M' 355 i = un M i) → (∀ x, x < 72 → M' 356 x = 0) → B_Mo_equations_102 post thr M' 0) : B_Mo_equations_81 post thr M0 0 := by
  refine ⟨fun M' v1 => ∃ i : Nat, v1 = i ∧ i ≤ 72 ∧ sv [355, 356] [34] M M' ∧ M' 331 34 = cu M (Gof M).n ∧ (∀ i, i < (Gof M).n → M' 355 i = un M i) ∧ ∀ x, x < i → M' 356 x = 0, fun _ v1 => (72 - v1).toNat, ⟨0, rfl, by omega, hs0, h34, hu, fun x hx => by omega⟩, ?_⟩
  rintro M' v1 ⟨i, rfl, hi, hs, h1, h2, h3⟩
  unfold C_Mo_equations_81
  refine ⟨rg_small (by omega), fun h4 => hp M' hs h1 h2 (fun x hx => h3 x (by omega)), fun h4 => ⟨by omega, fun M2 hM2 => ⟨⟨i + 1, by omega, by omega, by rw [hM2]; exact hs.u (by decide) (by decide), by rw [hM2, fu_off _ _ _ (by decide)]; exact h1, fun j hj => by rw [hM2, fu_off _ _ _ (by decide)]; exact h2 j hj, fun x hx => ?_⟩, by dsimp only; omega⟩⟩⟩
  rw [hM2, fu_at]
  by_cases e : x = i
  · rw [if_pos (by omega)]
  · rw [if_neg (by omega)]; exact h3 x (by omega)
/-- rows of other states stay -/
def oth (M M1 M2 : fm_M) (i : Nat) : Prop := ∀ j c, j < (Gof M).n → um M j → j ≠ i → c ≤ 8 → M2 356 (9 * cu M j + c) = M1 356 (9 * cu M j + c)
theorem oth.u {M M1 M2 : fm_M} {i : Nat} (hi : um M i) (h : oth M M1 M2 i) {x : Nat} (hx : x ≤ 8) (v : Int) : oth M M1 (fm_u M2 356 (9 * cu M i + x) v) i := fun j c a b d e => by
  rw [fu_at, if_neg (fun h2 => d (cu_inj M b hi (by omega)))]; exact h j c a b d e
theorem rwf_s (M : fm_M) (i b c : Nat) : rwf M i (b + 1) c = rwf M i b c - (if un M ((Gof M).to i (pk M i) b) = c then (Gof M).wt i (pk M i) b else 0) := by
  unfold rwf; simp only [sm]; omega
theorem rw8_s (M : fm_M) (i b : Nat) : rw8 M i (b + 1) = rw8 M i b + (if M 346 ((Gof M).to i (pk M i) b) ≠ 0 ∧ un M ((Gof M).to i (pk M i) b) < 0 then (Gof M).wt i (pk M i) b else 0) := by
  unfold rw8; simp only [sm]
theorem eq_191 (post : Int → fm_M → Prop) (thr : String → fm_M → Prop) (J102 : fm_M → Int → Prop) (M M1 : fm_M) (h : PreE M) (i : Nat) (hi : i < (Gof M).n) (hU : um M i) (hs1 : sv [355, 356] [34] M M1) (h34 : M1 331 34 = cu M (Gof M).n) (hu : ∀ i, i < (Gof M).n → M1 355 i = un M i)
    (hrow : ∀ c, c < 8 → M1 356 (9 * cu M i + c) = rwf M i 0 c) (hrow8 : M1 356 (9 * cu M i + 8) = 0)
    (hp : ∀ M', sv [355, 356] [34] M M' → M' 331 34 = cu M (Gof M).n → (∀ i, i < (Gof M).n → M' 355 i = un M i) → oth M M1 M' i → (∀ c, c < 8 → M' 356 (9 * cu M i + c) = rwf M i ((Gof M).nb i (pk M i)) c) → M' 356 (9 * cu M i + 8) = rw8 M i ((Gof M).nb i (pk M i)) → J102 M' ((i : Int) + 1)) : B_Mo_equations_191 post thr J102 M1 i (9 * un M i) (M 348 (10 * i + pk M i)) 0 := by
  have hn := h.w.hn
  have hnn : ((Gof M).n : Int) = M 331 20 := by show ((M 331 20).toNat : Int) = _; omega
  have hun : un M i = cu M i := by unfold un; rw [if_pos hU]
  obtain ⟨hp0, hp1⟩ := h.pk i hi hU
  have hcc := h.w.cc i hi
  have hk : pk M i < (Gof M).cc i := by show (M 353 i).toNat < (M 349 i).toNat; omega
  have hpk : M 353 i = (pk M i : Nat) := by show M 353 i = ((M 353 i).toNat : Int); omega
  have hcl := cu_lt M hi hU
  have hcn := cu_le M (Gof M).n
  have hch := h.w.ch i _ hi hk
  have hg := h.w.hg
  have hgi : 10 * M 331 6 + M 348 (10 * i + pk M i) = (gi M i (pk M i) : Nat) := by unfold gi; omega
  have hgl : gi M i (pk M i) < 20 := by omega
  have hnb := h.w.nb i _ hi hk
  have hnbe : M 337 (gi M i (pk M i)) = ((Gof M).nb i (pk M i) : Nat) := by show _ = ((M 337 (gi M i (pk M i))).toNat : Int); omega
  refine ⟨fun M' v1 v2 v3 v4 => v1 = i ∧ v2 = 9 * un M i ∧ v3 = M 348 (10 * i + pk M i) ∧ ∃ b : Nat, v4 = b ∧ b ≤ (Gof M).nb i (pk M i) ∧ sv [355, 356] [34] M M' ∧ M' 331 34 = cu M (Gof M).n ∧ (∀ i, i < (Gof M).n → M' 355 i = un M i) ∧ oth M M1 M' i ∧ (∀ c, c < 8 → M' 356 (9 * cu M i + c) = rwf M i b c) ∧ M' 356 (9 * cu M i + 8) = rw8 M i b, fun _ _ _ _ v4 => (((Gof M).nb i (pk M i) : Int) - v4).toNat, ⟨rfl, rfl, rfl, 0, rfl, by omega, hs1, h34, hu, fun _ _ _ _ _ _ => rfl, hrow, hrow8⟩, ?_⟩
  rintro M' v1 v2 v3 v4 ⟨rfl, rfl, rfl, b, rfl, hb, hs, h1, h2, h3, h4, h5⟩
  unfold C_Mo_equations_191
  rw [hs.slot 6 (by decide), hgi, hs.cell 337 (by decide) (by decide), Int.toNat_natCast, hnbe, Int.toNat_natCast, hs.cell 353 (by decide) (by decide), hpk]
  refine ⟨by omega, rg_small (by omega), rg_small (by omega), fun h6 => ?_, fun h6 => ⟨by omega, ?_⟩⟩
  · have : b = (Gof M).nb i (pk M i) := by omega
    subst this
    exact hp M' hs h1 h2 h3 h4 h5
  · have hb' : b < (Gof M).nb i (pk M i) := by omega
    have ht := h.w.to i _ b hi hk hb'
    have hw := h.w.wt i _ b hi hk hb'
    have e1 : ((40 * (i : Int)) + (4 * (pk M i : Int)) + (b : Int)).toNat = 40 * i + 4 * pk M i + b := by omega
    have e2 : ((4 * (gi M i (pk M i) : Int)) + (b : Int)).toNat = 4 * gi M i (pk M i) + b := by omega
    have ht' : (M 350 (40 * i + 4 * pk M i + b)).toNat = (Gof M).to i (pk M i) b := rfl
    have htn : (Gof M).to i (pk M i) b < (Gof M).n := h.w.wf.lt i _ b hi hk hb'
    have htg := h.w.tg _ htn
    have hur : True → un M ((Gof M).to i (pk M i) b) = -1 ∨ ∃ j : Nat, un M ((Gof M).to i (pk M i) b) = j ∧ j < 8 := by
      intro _; unfold un; split
      · next hh => exact Or.inr ⟨_, rfl, by have := cu_lt M htn hh; omega⟩
      · exact Or.inl rfl
    rw [e1, e2, hs.cell 350 (by decide) (by decide), ht', h2 _ htn, hs.cell 346 (by decide) (by decide), hs.cell 339 (by decide) (by decide)]
    have hwt : M 339 (4 * gi M i (pk M i) + b) = (Gof M).wt i (pk M i) b := rfl
    rw [hwt] at hw ⊢
    rw [hun]
    refine ⟨by omega, by omega, by omega, ?_, fun h7 => ⟨rg_small (by omega), fun h8 => ⟨⟨rfl, rfl, rfl, b + 1, by omega, by omega, hs, h1, h2, h3, fun c hc => ?_, ?_⟩, by dsimp only; omega⟩, fun h8 => ⟨by omega, rg_small (by omega), fun M2 hM2 => ?_⟩⟩, fun h7 => ?_⟩
    · rcases hur trivial with e | ⟨j, e, hj⟩ <;> exact rg_small (by omega)
    · rw [rwf_s, if_neg (by omega), h4 c hc]; omega
    · rw [rw8_s, if_neg (fun h9 => h9.1 h8), h5]; omega
    · rw [show (9 * (cu M i : Int) + 8).toNat = 9 * cu M i + 8 by omega] at hM2
      refine ⟨⟨rfl, rfl, rfl, b + 1, by omega, by omega, by rw [hM2]; exact hs.u (by decide) (by decide), by rw [hM2, fu_off _ _ _ (by decide)]; exact h1, fun j hj => by rw [hM2, fu_off _ _ _ (by decide)]; exact h2 j hj, by rw [hM2]; exact h3.u hU (by omega) _, fun c hc => ?_, ?_⟩, by dsimp only; omega⟩
      · rw [hM2, fu_at, if_neg (by omega), rwf_s, if_neg (by omega), h4 c hc]; omega
      · rw [hM2, fu_at, if_pos rfl, rw8_s, if_pos ⟨h8, h7⟩, h5]
    · obtain ⟨j, e, hj⟩ : ∃ j : Nat, un M ((Gof M).to i (pk M i) b) = j ∧ j < 8 := by
        rcases hur trivial with e | e
        · omega
        · exact e
      rw [e]
      refine ⟨by omega, rg_small (by omega), fun M2 hM2 => ?_⟩
      rw [ix9] at hM2
      refine ⟨⟨rfl, rfl, rfl, b + 1, by omega, by omega, by rw [hM2]; exact hs.u (by decide) (by decide), by rw [hM2, fu_off _ _ _ (by decide)]; exact h1, fun j hj => by rw [hM2, fu_off _ _ _ (by decide)]; exact h2 j hj, by rw [hM2]; exact h3.u hU (by omega) _, fun c hc => ?_, ?_⟩, by dsimp only; omega⟩
      · rw [hM2, fu_at, rwf_s, e]
        by_cases e3 : c = j
        · subst e3; rw [if_pos rfl, if_pos rfl, h4 c hc]
        · rw [if_neg (by omega), if_neg (by omega), h4 c hc]; omega
      · rw [hM2, fu_at, if_neg (by omega), rw8_s, if_neg (fun h9 => by omega), h5]; omega
theorem eq_102 (post : Int → fm_M → Prop) (thr : String → fm_M → Prop) (M M0 : fm_M) (h : PreE M) (hs0 : sv [355, 356] [34] M M0) (h34 : M0 331 34 = cu M (Gof M).n) (hu : ∀ i, i < (Gof M).n → M0 355 i = un M i) (hz : ∀ x, x < 72 → M0 356 x = 0)
    (hp : ∀ M', Eqs M M' → post 0 M') : B_Mo_equations_102 post thr M0 0 := by
  have hn := h.w.hn
  have hnn : ((Gof M).n : Int) = M 331 20 := by show ((M 331 20).toNat : Int) = _; omega
  have hcn := cu_le M (Gof M).n
  refine ⟨fun M' v1 => ∃ i : Nat, v1 = i ∧ i ≤ (Gof M).n ∧ sv [355, 356] [34] M M' ∧ M' 331 34 = cu M (Gof M).n ∧ (∀ i, i < (Gof M).n → M' 355 i = un M i) ∧ (∀ j, j < i → um M j → (∀ c, c < 8 → M' 356 (9 * cu M j + c) = rwf M j ((Gof M).nb j (pk M j)) c) ∧ M' 356 (9 * cu M j + 8) = rw8 M j ((Gof M).nb j (pk M j))) ∧ ∀ j c, i ≤ j → j < (Gof M).n → um M j → c ≤ 8 → M' 356 (9 * cu M j + c) = 0, fun _ v1 => (((Gof M).n : Int) - v1).toNat, ⟨0, rfl, by omega, hs0, h34, hu, fun j hj => by omega, fun j c _ a b d => hz _ (by have := cu_lt M a b; omega)⟩, ?_⟩
  rintro M' v1 ⟨i, rfl, hin, hs, h1, h2, h3, h4⟩
  have e20 : M' 331 20 = (Gof M).n := by rw [hs.slot 20 (by decide), hnn]
  unfold C_Mo_equations_102
  rw [e20]
  refine ⟨rg_small (by omega), rg_small (by omega), fun h5 => ?_, fun h5 => ⟨by omega, ?_⟩⟩
  · have : i = (Gof M).n := by omega
    subst this
    exact hp M' ⟨hs, h1, h2, fun i hi hU => (h3 i hi hU).1, fun i hi hU => (h3 i hi hU).2⟩
  · have hi : i < (Gof M).n := by omega
    have hcl := cu_le M i
    rw [Int.toNat_natCast, h2 i hi]
    by_cases hU : um M i
    · have hun : un M i = cu M i := by unfold un; rw [if_pos hU]
      obtain ⟨hp0, hp1⟩ := h.pk i hi hU
      have hcc := h.w.cc i hi
      have hk : pk M i < (Gof M).cc i := by show (M 353 i).toNat < (M 349 i).toNat; omega
      have hpk : M 353 i = (pk M i : Nat) := by show M 353 i = ((M 353 i).toNat : Int); omega
      have hch := h.w.ch i _ hi hk
      have hg := h.w.hg
      have hgi : 10 * M 331 6 + M 348 (10 * i + pk M i) = (gi M i (pk M i) : Nat) := by unfold gi; omega
      have hwo := h.w.wo i _ hi hk
      have hwo0 : 0 < (Gof M).wo i (pk M i) := by
        have hnb := h.w.nb i _ hi hk
        exact Gd.wo_pos h.w.wf (b := 0) hi hk (by show 0 < (M 337 _).toNat; omega)
      have e1 : ((10 * (i : Int)) + (pk M i : Int)).toNat = 10 * i + pk M i := by omega
      rw [hs.cell 353 (by decide) (by decide), hpk, e1, hs.cell 348 (by decide) (by decide), hs.slot 6 (by decide), hgi, hs.cell 338 (by decide) (by decide), Int.toNat_natCast]
      refine ⟨rg_small (by omega), fun h6 => by omega, fun h6 => ⟨by omega, by omega, by omega, rg_small (by omega), fun M2 hM2 => ?_⟩⟩
      rw [hun, ix9] at hM2
      have hO : oth M M' M2 i := by rw [hM2]; exact oth.u hU (fun _ _ _ _ _ _ => rfl) (by have := cu_lt M hi hU; omega) _
      have hcl2 := cu_lt M hi hU
      refine eq_191 post thr _ M M2 h i hi hU (by rw [hM2]; exact hs.u (by decide) (by decide)) (by rw [hM2, fu_off _ _ _ (by decide)]; exact h1) (fun j hj => by rw [hM2, fu_off _ _ _ (by decide)]; exact h2 j hj) (fun c hc => ?_) ?_ (fun M3 a1 a2 a3 a4 a5 a6 => ⟨⟨i + 1, by omega, by omega, a1, a2, a3, fun j hj hUj => ?_, fun j c b1 b2 b3 b4 => ?_⟩, by dsimp only; omega⟩)
      · rw [hM2, fu_at, h4 i _ (Nat.le_refl _) hi hU (by omega), hwo.1]
        unfold rwf; simp only [sm]
        by_cases e3 : c = cu M i
        · rw [if_pos (by omega), if_pos e3]; omega
        · rw [if_neg (by omega), if_neg e3, h4 i c (Nat.le_refl _) hi hU (by omega)]; omega
      · rw [hM2, fu_at, if_neg (by omega)]; exact h4 i 8 (Nat.le_refl _) hi hU (by omega)
      · by_cases e3 : j = i
        · subst e3; exact ⟨a5, a6⟩
        · have := h3 j (by omega) hUj
          refine ⟨fun c hc => ?_, ?_⟩
          · rw [a4 j c (by omega) hUj e3 (by omega), hO j c (by omega) hUj e3 (by omega)]; exact this.1 c hc
          · rw [a4 j 8 (by omega) hUj e3 (by omega), hO j 8 (by omega) hUj e3 (by omega)]; exact this.2
      · rw [a4 j c b2 b3 (by omega) b4, hO j c b2 b3 (by omega) b4]; exact h4 j c (by omega) b2 b3 b4
    · have hun : un M i = -1 := by unfold un; rw [if_neg hU]
      rw [hun]
      refine ⟨rg_small (by omega), fun h6 => ⟨⟨i + 1, by omega, by omega, hs, h1, h2, fun j hj hUj => ?_, fun j c b1 b2 b3 b4 => h4 j c (by omega) b2 b3 b4⟩, by dsimp only; omega⟩, fun h6 => by omega⟩
      by_cases e3 : j = i
      · subst e3; exact absurd hUj hU
      · exact h3 j (by omega) hUj
theorem spec_eq (post : Int → fm_M → Prop) (thr : String → fm_M → Prop) (M : fm_M) (h : PreE M) (hp : ∀ M', Eqs M M' → post 0 M') : wp_Mo_equations M post thr :=
  eq_7 post thr M h (fun M1 a1 a2 a3 => eq_81 post thr M M1 (a1.mono (by decide) (by decide)) a2 a3 (fun M2 b1 b2 b3 b4 => eq_102 post thr M M2 h b1 b2 b3 b4 hp))
end Pu_E1
section Pu_F
def lo (M : fm_M) (i : Nat) : Prop := M 354 i ≠ 0
theorem U_um {M : fm_M} {i : Nat} : (Gof M).U (lo M) i ↔ i < (Gof M).n ∧ um M i := by
  unfold Gd.U lo um
  constructor
  · rintro ⟨a, b, c⟩
    exact ⟨a, Classical.byContradiction b, Classical.byContradiction c⟩
  · rintro ⟨a, b, c⟩
    exact ⟨a, fun h => h b, fun h => h c⟩
/-- a sum over the unknowns is one over the branches -/
theorem sum_un {M : fm_M} {N : Nat} (x : Nat → Int) (nb : Nat) (f : Nat → Int) (g : Nat → Nat) (hg : ∀ a, a < nb → um M (g a) → cu M (g a) < N) :
    sm N (fun c => sm nb (fun a => if un M (g a) = c then f a else 0) * x c) = sm nb (fun a => f a * (if um M (g a) then x (cu M (g a)) else 0)) := by
  have e1 : sm N (fun c => sm nb (fun a => if un M (g a) = c then f a else 0) * x c) = sm N (fun c => sm nb (fun a => (if un M (g a) = c then f a else 0) * x c)) := sm_congr (fun c _ => by
    rw [Int.mul_comm, ← sm_mul]; exact sm_congr (fun a _ => Int.mul_comm _ _))
  rw [e1, sm_swap]
  refine sm_congr (fun a ha => ?_)
  by_cases h : um M (g a)
  · rw [if_pos h, sm_one (j := cu M (g a)) (hg a ha h)]
    · have : un M (g a) = cu M (g a) := by unfold un; rw [if_pos h]
      rw [if_pos this]
    · intro k _ hne
      have : un M (g a) = cu M (g a) := by unfold un; rw [if_pos h]
      rw [if_neg (by omega), Int.zero_mul]
  · have : un M (g a) = -1 := by unfold un; rw [if_neg h]
    rw [if_neg h, Int.mul_zero]
    exact sm_zero (fun k _ => by rw [if_neg (by omega), Int.zero_mul])
theorem row_sum {M : fm_M} {i N : Nat} (x : Nat → Int) (hi : cu M i < N) (hg : ∀ a, a < (Gof M).nb i (pk M i) → um M ((Gof M).to i (pk M i) a) → cu M ((Gof M).to i (pk M i) a) < N) :
    sm N (fun c => rwf M i ((Gof M).nb i (pk M i)) c * x c) = (Gof M).wo i (pk M i) * x (cu M i) - sm ((Gof M).nb i (pk M i)) (fun a => (Gof M).wt i (pk M i) a * (if um M ((Gof M).to i (pk M i) a) then x (cu M ((Gof M).to i (pk M i) a)) else 0)) := by
  rw [← sum_un x ((Gof M).nb i (pk M i)) ((Gof M).wt i (pk M i)) ((Gof M).to i (pk M i)) hg]
  have e1 : (Gof M).wo i (pk M i) * x (cu M i) = sm N (fun c => (if c = cu M i then (Gof M).wo i (pk M i) else 0) * x c) := by
    rw [sm_one (j := cu M i) hi (fun k _ hne => by rw [if_neg hne, Int.zero_mul]), if_pos rfl]
  rw [e1, ← sm_sub]
  exact sm_congr (fun c _ => by unfold rwf; rw [Int.sub_mul])
theorem ab_sub (x y : Int) (hx : 0 ≤ x) (hy : 0 ≤ y) : ab (x - y) ≤ x + y := by unfold ab; split <;> omega
theorem sm_nn {n : Nat} {f : Nat → Int} (h : ∀ k, k < n → 0 ≤ f k) : 0 ≤ sm n f := by
  have := sm_le (f := fun _ => 0) h
  rw [sm_zero (fun _ _ => rfl)] at this; exact this
theorem row_norm {M : fm_M} (w : GW M) {i N : Nat} (hin : i < (Gof M).n) (hk : pk M i < (Gof M).cc i) (hi : cu M i < N) (hg : ∀ a, a < (Gof M).nb i (pk M i) → um M ((Gof M).to i (pk M i) a) → cu M ((Gof M).to i (pk M i) a) < N) :
    sm N (fun c => ab (rwf M i ((Gof M).nb i (pk M i)) c)) + ab (rw8 M i ((Gof M).nb i (pk M i))) ≤ 12 := by
  have hpos : ∀ a, a < (Gof M).nb i (pk M i) → 0 ≤ (Gof M).wt i (pk M i) a := fun a ha => Int.le_of_lt (w.wf.pos i _ a hin hk ha)
  have hwo := (w.wo i _ hin hk)
  have hw0 : 0 ≤ (Gof M).wo i (pk M i) := sm_nn hpos
  have h1 : sm N (fun c => ab (rwf M i ((Gof M).nb i (pk M i)) c)) ≤ sm N (fun c => (if c = cu M i then (Gof M).wo i (pk M i) else 0) + sm ((Gof M).nb i (pk M i)) (fun a => if un M ((Gof M).to i (pk M i) a) = c then (Gof M).wt i (pk M i) a else 0)) := sm_le (fun c _ => by
    unfold rwf
    exact ab_sub _ _ (by split <;> omega) (sm_nn (fun a ha => by have := hpos a ha; split <;> omega)))
  have e2 : sm N (fun c => sm ((Gof M).nb i (pk M i)) (fun a => if un M ((Gof M).to i (pk M i) a) = c then (Gof M).wt i (pk M i) a else 0)) = sm ((Gof M).nb i (pk M i)) (fun a => (Gof M).wt i (pk M i) a * (if um M ((Gof M).to i (pk M i) a) then 1 else 0)) := by
    rw [← sum_un (fun _ => 1) ((Gof M).nb i (pk M i)) ((Gof M).wt i (pk M i)) ((Gof M).to i (pk M i)) hg]
    exact sm_congr (fun c _ => (Int.mul_one _).symm)
  have e1 : sm N (fun c => if c = cu M i then (Gof M).wo i (pk M i) else 0) = (Gof M).wo i (pk M i) := by
    rw [sm_one (j := cu M i) hi (fun k _ hne => by rw [if_neg hne]), if_pos rfl]
  rw [sm_add, e1, e2] at h1
  have h3 : ab (rw8 M i ((Gof M).nb i (pk M i))) ≤ sm ((Gof M).nb i (pk M i)) (fun a => (Gof M).wt i (pk M i) a * (if um M ((Gof M).to i (pk M i) a) then 0 else 1)) := by
    have h4 : 0 ≤ rw8 M i ((Gof M).nb i (pk M i)) := sm_nn (fun a ha => by have := hpos a ha; split <;> omega)
    have : ab (rw8 M i ((Gof M).nb i (pk M i))) = rw8 M i ((Gof M).nb i (pk M i)) := by unfold ab; rw [if_neg (by omega)]
    rw [this]; unfold rw8
    exact sm_le (fun a ha => by
      have := hpos a ha
      by_cases hu : um M ((Gof M).to i (pk M i) a)
      · have e : un M ((Gof M).to i (pk M i) a) = cu M ((Gof M).to i (pk M i) a) := by unfold un; rw [if_pos hu]
        rw [if_pos hu, if_neg (fun h => by omega)]; omega
      · rw [if_neg hu, Int.mul_one]; split <;> omega)
  have e5 : sm ((Gof M).nb i (pk M i)) (fun a => (Gof M).wt i (pk M i) a * (if um M ((Gof M).to i (pk M i) a) then 1 else 0)) + sm ((Gof M).nb i (pk M i)) (fun a => (Gof M).wt i (pk M i) a * (if um M ((Gof M).to i (pk M i) a) then 0 else 1)) = (Gof M).wo i (pk M i) := by
    rw [← sm_add]; exact sm_congr (fun a _ => by split <;> omega)
  omega
/-- a column replaced adds at most what it holds -/
theorem col_norm (N : Nat) (f : Nat → Int) (y : Int) (q : Int) : sm N (fun c => ab (if (c : Int) = q then y else f c)) ≤ sm N (fun c => ab (f c)) + ab y := by
  have h1 : sm N (fun c => ab (if (c : Int) = q then y else f c)) ≤ sm N (fun c => ab (f c) + (if (c : Int) = q then ab y else 0)) := sm_le (fun c _ => by
    have := ab_nn (f c); have := ab_nn y
    split <;> omega)
  rw [sm_add] at h1
  have h2 : sm N (fun c => if (c : Int) = q then ab y else 0) ≤ ab y := by
    by_cases h : ∃ c, c < N ∧ (c : Int) = q
    · obtain ⟨c, a, b⟩ := h
      rw [sm_one (j := c) a (fun k _ hne => by rw [if_neg (by omega)]), if_pos b]; exact Int.le_refl _
    · rw [sm_zero (fun k hk => by rw [if_neg (fun h2 => h ⟨k, hk, h2⟩)])]; exact ab_nn y
  omega
/-- the square of the equations, a column replaced -/
def sq (M1 : fm_M) (q : Int) : Nat → Nat → Int := fun r c => if (c : Int) = q then M1 356 (9 * r + 8) else M1 356 (9 * r + c)
section Ev
variable {M M1 : fm_M}
set_option linter.unusedSectionVars false
theorem pre_k (h : PreE M) (E : Eqs M M1) {i : Nat} (hi : i < (Gof M).n) (hU : um M i) : pk M i < (Gof M).cc i := by
  have := h.pk i hi hU; show (M 353 i).toNat < (M 349 i).toNat; omega
theorem sq_nrm (h : PreE M) (E : Eqs M M1) (q : Int) : nrm (cu M (Gof M).n) (sq M1 q) := by
  intro r hr
  obtain ⟨i, hi, hU, rfl⟩ := cu_sur M _ r hr
  have hk := pre_k h E hi hU
  have hc8 : cu M (Gof M).n ≤ 8 := by
    have h1 := cu_le M (Gof M).n
    have h2 := h.w.hn
    have : (Gof M).n = (M 331 20).toNat := rfl
    omega
  have h1 := row_norm h.w hi hk hr (fun a ha hu => cu_lt M (h.w.wf.lt i _ a hi hk ha) hu)
  refine Int.le_trans (col_norm _ (fun c => M1 356 (9 * cu M i + c)) (M1 356 (9 * cu M i + 8)) q) ?_
  rw [E.row8 i hi hU, sm_congr (fun c hc => by rw [E.row i hi hU c (by omega)])]
  exact h1
theorem sq_sum (h : PreE M) (E : Eqs M M1) {i : Nat} (hi : i < (Gof M).n) (hU : um M i) (x : Nat → Int) : sm (cu M (Gof M).n) (fun c => sq M1 (-1) (cu M i) c * x c) = (Gof M).wo i (pk M i) * x (cu M i) - sm ((Gof M).nb i (pk M i)) (fun a => (Gof M).wt i (pk M i) a * (if um M ((Gof M).to i (pk M i) a) then x (cu M ((Gof M).to i (pk M i) a)) else 0)) := by
  have hk := pre_k h E hi hU
  have hc8 : cu M (Gof M).n ≤ 8 := by
    have h1 := cu_le M (Gof M).n
    have h2 := h.w.hn
    have : (Gof M).n = (M 331 20).toNat := rfl
    omega
  rw [← row_sum x (cu_lt M hi hU) (fun a ha hu => cu_lt M (h.w.wf.lt i _ a hi hk ha) hu)]
  exact sm_congr (fun c hc => by unfold sq; rw [if_neg (by omega), E.row i hi hU c (by omega)])
theorem sq_nz (h : PreE M) (E : Eqs M M1) {rk : Nat → Nat} (hd : ∀ i, (Gof M).U (lo M) i → (Gof M).down (lo M) rk i (pk M i)) : dt (cu M (Gof M).n) (sq M1 (-1)) ≠ 0 := by
  intro h0
  obtain ⟨x, ⟨j, hj, hxj⟩, hx⟩ := dt_kernel _ _ h0
  have hS : ∀ i, (Gof M).U (lo M) i → (Gof M).wo i (pk M i) * x (cu M i) = (Gof M).S i (pk M i) (fun q => if um M q then x (cu M q) else 0) := fun i hu => by
    obtain ⟨hi, hU⟩ := U_um.mp hu
    have h1 := hx (cu M i) (cu_lt M hi hU)
    rw [sq_sum h E hi hU x] at h1
    have e : (Gof M).S i (pk M i) (fun q => if um M q then x (cu M q) else 0) = sm ((Gof M).nb i (pk M i)) (fun a => (Gof M).wt i (pk M i) a * (if um M ((Gof M).to i (pk M i) a) then x (cu M ((Gof M).to i (pk M i) a)) else 0)) := rfl
    rw [e]; omega
  have a1 := Gd.maxp h.w.wf hd (h := fun q => if um M q then x (cu M q) else 0) (fun i hi hu => by
    show (if um M i then x (cu M i) else 0) ≤ 0
    rw [if_neg (fun hh => hu (U_um.mpr ⟨hi, hh⟩))]; exact Int.le_refl _) (fun i hu => by
    show _ * (if um M i then x (cu M i) else 0) ≤ _
    rw [if_pos (U_um.mp hu).2, hS i hu]; exact Int.le_refl _)
  have a2 := Gd.maxp h.w.wf hd (h := fun q => (if um M q then x (cu M q) else 0) * (-1) - (if um M q then x (cu M q) else 0) * 0) (fun i hi hu => by
    show (if um M i then x (cu M i) else 0) * (-1) - (if um M i then x (cu M i) else 0) * 0 ≤ 0
    rw [if_neg (fun hh => hu (U_um.mpr ⟨hi, hh⟩))]; exact Int.le_refl _) (fun i hu => by
    rw [Gd.S_lin i (pk M i) (-1) 0 (fun q => if um M q then x (cu M q) else 0) (fun q => if um M q then x (cu M q) else 0), ← hS i hu]
    show _ * ((if um M i then x (cu M i) else 0) * (-1) - (if um M i then x (cu M i) else 0) * 0) ≤ _
    rw [if_pos (U_um.mp hu).2]; grind)
  obtain ⟨i, hi, hU, rfl⟩ := cu_sur M _ j hj
  have b1 := a1 i hi
  have b2 := a2 i hi
  simp only [if_pos hU] at b1 b2
  omega
/-- Cramer's numbers are the values -/
theorem sq_val (h : PreE M) (E : Eqs M M1) {rk : Nat → Nat} (hd : ∀ i, (Gof M).U (lo M) i → (Gof M).down (lo M) rk i (pk M i)) (num : Nat → Int) (way com : Int) (hc : com = way * dt (cu M (Gof M).n) (sq M1 (-1))) (hp : 0 < com)
    (h1 : ∀ i, i < (Gof M).n → um M i → num i = way * dt (cu M (Gof M).n) (sq M1 (cu M i))) (h2 : ∀ i, i < (Gof M).n → M 346 i ≠ 0 → num i = com) (h3 : ∀ i, i < (Gof M).n → M 354 i ≠ 0 → M 346 i = 0 → num i = 0) (h4 : ∀ i, i < (Gof M).n → M 354 i ≠ 0 → M 346 i = 0) : (Gof M).Val (lo M) (pk M) num com := by
  refine ⟨hp, h2, fun i hi hl => h3 i hi hl (h4 i hi hl), fun i hu => ?_⟩
  obtain ⟨hi, hU⟩ := U_um.mp hu
  have hk := pre_k h E hi hU
  have hc8 : cu M (Gof M).n ≤ 8 := by
    have h1 := cu_le M (Gof M).n
    have h2 := h.w.hn
    have : (Gof M).n = (M 331 20).toNat := rfl
    omega
  have e0 : ∀ j, dt (cu M (Gof M).n) (sc (sq M1 (-1)) j (fun r => M1 356 (9 * r + 8))) = dt (cu M (Gof M).n) (sq M1 j) := fun j => dt_congr (fun r c _ _ => by
    unfold sc sq
    by_cases e : c = j
    · rw [if_pos e, if_pos (by omega)]
    · rw [if_neg e, if_neg (by omega), if_neg (by omega)])
  have a1 := cramer (sq M1 (-1)) (fun r => M1 356 (9 * r + 8)) (cu_lt M hi hU)
  rw [sm_congr (fun c _ => by rw [e0 c]), sq_sum h E hi hU (fun c => dt (cu M (Gof M).n) (sq M1 c)), E.row8 i hi hU] at a1
  have a2 : (Gof M).S i (pk M i) num = way * sm ((Gof M).nb i (pk M i)) (fun a => (Gof M).wt i (pk M i) a * (if um M ((Gof M).to i (pk M i) a) then dt (cu M (Gof M).n) (sq M1 (cu M ((Gof M).to i (pk M i) a))) else 0)) + com * rw8 M i ((Gof M).nb i (pk M i)) := by
    unfold Gd.S rw8
    rw [← sm_mul, ← sm_mul, ← sm_add]
    refine sm_congr (fun a ha => ?_)
    have htn := h.w.wf.lt i _ a hi hk ha
    generalize hto : (Gof M).to i (pk M i) a = t at htn ⊢
    by_cases hu : um M t
    · have e : un M t = cu M t := by unfold un; rw [if_pos hu]
      rw [if_pos hu, if_neg (fun h => by omega), h1 t htn hu]; grind
    · have e : un M t = -1 := by unfold un; rw [if_neg hu]
      rw [if_neg hu]
      by_cases ht : M 346 t = 0
      · have hl : M 354 t ≠ 0 := fun h => hu ⟨h, ht⟩
        rw [if_neg (fun h => h.1 ht), h3 t htn hl ht]; omega
      · rw [if_pos ⟨ht, by omega⟩, h2 t htn ht]; grind
  rw [a2, h1 i hi hU, hc]
  generalize sm ((Gof M).nb i (pk M i)) (fun a => (Gof M).wt i (pk M i) a * (if um M ((Gof M).to i (pk M i) a) then dt (cu M (Gof M).n) (sq M1 (cu M ((Gof M).to i (pk M i) a))) else 0)) = y at a1 ⊢
  generalize dt (cu M (Gof M).n) (sq M1 (-1)) = d at a1 ⊢
  generalize dt (cu M (Gof M).n) (sq M1 (cu M i)) = z at a1 ⊢
  generalize rw8 M i ((Gof M).nb i (pk M i)) = e at a1 ⊢
  generalize (Gof M).wo i (pk M i) = wo at a1 ⊢
  grind
end Ev
theorem spec_eval (M : fm_M) (h : PreE M) (post : Int → fm_M → Prop) (thr : String → fm_M → Prop) {rk : Nat → Nat} (hd : ∀ i, (Gof M).U (lo M) i → (Gof M).down (lo M) rk i (pk M i)) (hlt : ∀ i, i < (Gof M).n → M 354 i ≠ 0 → M 346 i = 0)
    (hp : ∀ M', sv [355, 356, 357, 358] [34, 38] M M' → (Gof M).Val (lo M) (pk M) (M' 358) (M' 331 38) → M' 331 38 ≤ 429981696 → post 0 M') : wp_Mo_evaluate M post thr := by
  have hn := h.w.hn
  have hnn : ((Gof M).n : Int) = M 331 20 := by show ((M 331 20).toNat : Int) = _; omega
  have hcl := cu_le M (Gof M).n
  unfold wp_Mo_evaluate
  refine spec_eq _ thr M h (fun M1 E => ?_)
  have hb : ∀ q, ab (dt (cu M (Gof M).n) (sq M1 q)) ≤ 429981696 := fun q => lead_bound (sq_nrm h E q) (by omega) (Nat.le_refl _)
  have hnz := sq_nz h E hd
  refine spec_det M1 (-1) _ thr (cu M (Gof M).n) E.num (by omega) (rg_small (by omega)) (sq M1 (-1)) (sq_nrm h E (-1)) (fun i c _ _ => rfl) (fun M2 hx2 M3 hM3 => ?_)
  have s3 : sv [355, 356, 357, 358] [34, 38] M M3 := by
    rw [hM3]; exact ((E.s.mono (by decide) (by decide)).tr (sv.ofx hx2 (by decide) (by decide))).us (by decide)
  have e38 : M3 331 38 = dt (cu M (Gof M).n) (sq M1 (-1)) := by rw [hM3, fu_at, if_pos rfl]
  have key : ∀ way : Int, (way = 1 ∨ way = -1) → 0 < way * dt (cu M (Gof M).n) (sq M1 (-1)) → B_Mo_evaluate_29 post thr M3 way := by
    intro way hw hpos M4 hM4
    have s4 : sv [355, 356, 357, 358] [34, 38] M M4 := by rw [hM4]; exact s3.us (by decide)
    have c4 : M4 331 38 = way * dt (cu M (Gof M).n) (sq M1 (-1)) := by rw [hM4, fu_at, if_pos rfl, e38]
    have n4 : M4 331 34 = cu M (Gof M).n := by
      rw [hM4, fu_at, if_neg (by decide), hM3, fu_at, if_neg (by decide), hx2 331 (by decide)]; exact E.num
    have u4 : M4 355 = M1 355 := by rw [hM4, fu_off _ _ _ (by decide), hM3, fu_off _ _ _ (by decide), hx2 355 (by decide)]
    have m4 : M4 356 = M1 356 := by rw [hM4, fu_off _ _ _ (by decide), hM3, fu_off _ _ _ (by decide), hx2 356 (by decide)]
    have hcb : way * dt (cu M (Gof M).n) (sq M1 (-1)) ≤ 429981696 := by
      have := hb (-1); rw [ab_le] at this; rcases hw with e | e <;> rw [e] <;> omega
    refine ⟨fun M' v1 v3 => v1 = way ∧ ∃ i : Nat, v3 = i ∧ i ≤ (Gof M).n ∧ sv [355, 356, 357, 358] [34, 38] M M' ∧ M' 331 38 = way * dt (cu M (Gof M).n) (sq M1 (-1)) ∧ M' 331 34 = cu M (Gof M).n ∧ M' 355 = M1 355 ∧ M' 356 = M1 356 ∧ ∀ j, j < i → M' 358 j = if um M j then way * dt (cu M (Gof M).n) (sq M1 (cu M j)) else if M 346 j = 0 then 0 else way * dt (cu M (Gof M).n) (sq M1 (-1)), fun _ _ v3 => (((Gof M).n : Int) - v3).toNat, ⟨rfl, 0, rfl, by omega, s4, c4, n4, u4, m4, fun j hj => by omega⟩, ?_⟩
    rintro M' v1 v3 ⟨rfl, i, rfl, hin, s, c38, c34, c355, c356, hnum⟩
    have e20 : M' 331 20 = (Gof M).n := by rw [s.slot 20 (by decide), hnn]
    have fin : ∀ (M5 : fm_M) (z : Int), ex1 357 M' M5 → i < (Gof M).n → z = (if um M i then v1 * dt (cu M (Gof M).n) (sq M1 (cu M i)) else if M 346 i = 0 then 0 else v1 * dt (cu M (Gof M).n) (sq M1 (-1))) → B_Mo_evaluate_96 post thr (fun M'_1 v1' v3' => (v1' = v1 ∧ ∃ i : Nat, v3' = i ∧ i ≤ (Gof M).n ∧ sv [355, 356, 357, 358] [34, 38] M M'_1 ∧ M'_1 331 38 = v1 * dt (cu M (Gof M).n) (sq M1 (-1)) ∧ M'_1 331 34 = cu M (Gof M).n ∧ M'_1 355 = M1 355 ∧ M'_1 356 = M1 356 ∧ ∀ j, j < i → M'_1 358 j = if um M j then v1 * dt (cu M (Gof M).n) (sq M1 (cu M j)) else if M 346 j = 0 then 0 else v1 * dt (cu M (Gof M).n) (sq M1 (-1))) ∧ (((Gof M).n : Int) - v3').toNat < (((Gof M).n : Int) - (i : Int)).toNat) M5 v1 i z i := by
      intro M5 z hx5 hi hz
      refine ⟨by omega, fun M6 hM6 => ⟨⟨rfl, i + 1, by omega, by omega, ?_, ?_, ?_, ?_, ?_, fun j hj => ?_⟩, by omega⟩⟩
      · rw [hM6]; exact (s.tr (sv.ofx hx5 (by decide) (by decide))).u (by decide) (by decide)
      · rw [hM6, fu_off _ _ _ (by decide), hx5 331 (by decide)]; exact c38
      · rw [hM6, fu_off _ _ _ (by decide), hx5 331 (by decide)]; exact c34
      · rw [hM6, fu_off _ _ _ (by decide), hx5 355 (by decide)]; exact c355
      · rw [hM6, fu_off _ _ _ (by decide), hx5 356 (by decide)]; exact c356
      · rw [hM6, fu_at]
        by_cases e : j = i
        · subst e; rw [if_pos (by omega)]; exact hz
        · rw [if_neg (by omega), hx5 358 (by decide)]; exact hnum j (by omega)
    unfold C_Mo_evaluate_42
    rw [e20, Int.toNat_natCast, c355, s.cell 346 (by decide) (by decide)]
    refine ⟨rg_small (by omega), rg_small (by omega), fun h5 => ?_, fun h5 => ⟨by omega, ?_⟩⟩
    · have : i = (Gof M).n := by omega
      subst this
      refine hp M' s (sq_val h E hd (M' 358) v1 _ c38 (by rw [c38]; exact hpos) (fun j hj hu => ?_) (fun j hj ht => ?_) (fun j hj hl ht => ?_) hlt) (by rw [c38]; exact hcb)
      · rw [hnum j hj, if_pos hu]
      · rw [hnum j hj, if_neg (fun hu => ht hu.2), if_neg ht, c38]
      · rw [hnum j hj, if_neg (fun hu => hl hu.1), if_pos ht]
    · have hi : i < (Gof M).n := by omega
      have hci := cu_le M i
      have htg := h.w.tg i hi
      rw [E.un i hi]
      by_cases hu : um M i
      · have e : un M i = cu M i := by unfold un; rw [if_pos hu]
        rw [e]
        refine ⟨rg_small (by omega), fun h6 => by omega, fun h6 => ?_⟩
        refine spec_det M' _ _ thr (cu M (Gof M).n) c34 (by omega) (rg_small (by omega)) (sq M1 (cu M i)) (sq_nrm h E _) (fun r c _ _ => by rw [c356]; rfl) (fun M5 hx5 => fin M5 _ hx5 hi (by rw [if_pos hu]))
      · have e : un M i = -1 := by unfold un; rw [if_neg hu]
        rw [e]
        refine ⟨rg_small (by omega), fun h6 => ⟨rg_small (by omega), fun h7 => ?_, fun h7 => ?_⟩, fun h6 => by omega⟩
        · exact fin M' 0 ex1.rfl hi (by rw [if_neg hu, if_pos h7])
        · exact fin M' _ ex1.rfl hi (by rw [if_neg hu, if_neg h7, c38])
  rw [e38]
  have hrl : rl (dt (cu M (Gof M).n) (sq M1 (-1))) := rl_ab (hb (-1))
  refine ⟨hrl, fun h5 => key 1 (Or.inl rfl) ?_, fun h5 => key (-1) (Or.inr rfl) ?_⟩
  · unfold jcmp at h5
    by_cases e1 : 0 < dt (cu M (Gof M).n) (sq M1 (-1))
    · omega
    · rw [if_neg e1, if_neg hnz] at h5; omega
  · unfold jcmp at h5
    by_cases e1 : 0 < dt (cu M (Gof M).n) (sq M1 (-1))
    · rw [if_pos e1] at h5; omega
    · omega
end Pu_F
