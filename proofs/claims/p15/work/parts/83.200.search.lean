set_option maxRecDepth 10000
section Pu_Ky
/-! A game as both keep it, and the search for its states. -/
/-- what an item and a sum of the reference come to -/
def rit (M : fm_M) (x : Nat) (r : Nat → Int) : Int := (if M 344 x = 0 then 1 else -1) * (if M 343 x < 100 then M 343 x else r (M 343 x - 100).toNat)
def rsu (M : fm_M) (s : Nat) (r : Nat → Int) : Int := sm (M 342 s).toNat (fun k => rit M (4 * s + k) r)
/-- is it as the sign says -/
def tcm (c x y : Int) : Prop := if c = 60 then x < y else if c = 62 then y < x else if c = 61 then x = y else x ≠ y
def rhol (M : fm_M) (G g : Nat) (r : Nat → Int) : Prop := ∀ k : Nat, (k : Int) < M 340 (11 * G + g) → tcm (M 341 (44 * G + 4 * g + k)) (rsu M (208 * G + 8 * g + 2 * k) r) (rsu M (208 * G + 8 * g + 2 * k + 1) r)
/-- kept within what a variable may be -/
def clp (t x : Int) : Int := if t < x then t else if x < 0 then 0 else x
def rnx (M : fm_M) (G c b : Nat) (r : Nat → Int) (v : Nat) : Int := if 0 < M 342 (208 * G + 88 + 12 * c + 3 * b + v) then clp (M 333 (3 * G + v)) (rsu M (208 * G + 88 + 12 * c + 3 * b + v) r) else r v
/-- commands, target, guards, whose, branches, what comes, the first values, the greatest values -/
def Ga : Type := Nat × ((Nat → Int) → Bool) × (Nat → (Nat → Int) → Bool) × (Nat → Bool) × (Nat → Nat) × (Nat → Nat → (Nat → Int) → Nat → Int) × (Nat → Int) × (Nat → Int) × (Nat → Nat → Int)
def Ga.C (Y : Ga) : Nat := Y.1
def Ga.tg (Y : Ga) : (Nat → Int) → Bool := Y.2.1
def Ga.en (Y : Ga) : Nat → (Nat → Int) → Bool := Y.2.2.1
def Ga.mx (Y : Ga) : Nat → Bool := Y.2.2.2.1
def Ga.nb (Y : Ga) : Nat → Nat := Y.2.2.2.2.1
def Ga.nx (Y : Ga) : Nat → Nat → (Nat → Int) → Nat → Int := Y.2.2.2.2.2.1
def Ga.fi (Y : Ga) : Nat → Int := Y.2.2.2.2.2.2.1
def Ga.mo (Y : Ga) : Nat → Int := Y.2.2.2.2.2.2.2.1
def Ga.wt (Y : Ga) : Nat → Nat → Int := Y.2.2.2.2.2.2.2.2
def okr (Y : Ga) (r : Nat → Int) : Prop := ∀ v, v < 3 → 0 ≤ r v ∧ r v ≤ Y.mo v
/-- what every game keeps to -/
def YW (Y : Ga) : Prop :=
  (Y.C ≤ 10) ∧
  (∀ c, Y.nb c ≤ 4) ∧
  (okr Y Y.fi) ∧
  (∀ c b r, okr Y r → okr Y (Y.nx c b r)) ∧
  (∀ v, v < 3 → Y.mo v ≤ 9) ∧
  (∀ r r', (∀ v, v < 3 → r v = r' v) → Y.tg r = Y.tg r') ∧
  (∀ c r r', (∀ v, v < 3 → r v = r' v) → Y.en c r = Y.en c r')
theorem YW.c10 {Y : Ga} (h_ : YW Y) : Y.C ≤ 10 := h_.1
theorem YW.nb4 {Y : Ga} (h_ : YW Y) : ∀ c, Y.nb c ≤ 4 := h_.2.1
theorem YW.okf {Y : Ga} (h_ : YW Y) : okr Y Y.fi := h_.2.2.1
theorem YW.okn {Y : Ga} (h_ : YW Y) : ∀ c b r, okr Y r → okr Y (Y.nx c b r) := h_.2.2.2.1
theorem YW.mo9 {Y : Ga} (h_ : YW Y) : ∀ v, v < 3 → Y.mo v ≤ 9 := h_.2.2.2.2.1
theorem YW.ctg {Y : Ga} (h_ : YW Y) : ∀ r r', (∀ v, v < 3 → r v = r' v) → Y.tg r = Y.tg r' := h_.2.2.2.2.2.1
theorem YW.cen {Y : Ga} (h_ : YW Y) : ∀ c r r', (∀ v, v < 3 → r v = r' v) → Y.en c r = Y.en c r' := h_.2.2.2.2.2.2
/-- the game in the reference -/
def RY (Y : Ga) (G : Nat) (M : fm_M) : Prop :=
  (YW Y) ∧
  (M 335 G = Y.C) ∧
  (∀ r, okr Y r → (rhol M G 10 r ↔ Y.tg r = true)) ∧
  (∀ c, c < Y.C → ∀ r, okr Y r → (rhol M G c r ↔ Y.en c r = true)) ∧
  (∀ c, c < Y.C → M 336 (10 * G + c) = if Y.mx c = true then 1 else 0) ∧
  (∀ c, c < Y.C → M 337 (10 * G + c) = Y.nb c) ∧
  (∀ c b, c < Y.C → b < Y.nb c → ∀ r, okr Y r → ∀ v, v < 3 → rnx M G c b r v = Y.nx c b r v) ∧
  (∀ v, v < 3 → M 334 (3 * G + v) = Y.fi v) ∧
  (∀ v, v < 3 → M 333 (3 * G + v) = Y.mo v) ∧
  (∀ c b, c < Y.C → b < Y.nb c → M 339 (4 * (10 * G + c) + b) = Y.wt c b)
theorem RY.w {Y : Ga} {G : Nat} {M : fm_M} (h_ : RY Y G M) : YW Y := h_.1
theorem RY.c {Y : Ga} {G : Nat} {M : fm_M} (h_ : RY Y G M) : M 335 G = Y.C := h_.2.1
theorem RY.tg {Y : Ga} {G : Nat} {M : fm_M} (h_ : RY Y G M) : ∀ r, okr Y r → (rhol M G 10 r ↔ Y.tg r = true) := h_.2.2.1
theorem RY.en {Y : Ga} {G : Nat} {M : fm_M} (h_ : RY Y G M) : ∀ c, c < Y.C → ∀ r, okr Y r → (rhol M G c r ↔ Y.en c r = true) := h_.2.2.2.1
theorem RY.mx {Y : Ga} {G : Nat} {M : fm_M} (h_ : RY Y G M) : ∀ c, c < Y.C → M 336 (10 * G + c) = if Y.mx c = true then 1 else 0 := h_.2.2.2.2.1
theorem RY.nb {Y : Ga} {G : Nat} {M : fm_M} (h_ : RY Y G M) : ∀ c, c < Y.C → M 337 (10 * G + c) = Y.nb c := h_.2.2.2.2.2.1
theorem RY.nx {Y : Ga} {G : Nat} {M : fm_M} (h_ : RY Y G M) : ∀ c b, c < Y.C → b < Y.nb c → ∀ r, okr Y r → ∀ v, v < 3 → rnx M G c b r v = Y.nx c b r v := h_.2.2.2.2.2.2.1
theorem RY.fi {Y : Ga} {G : Nat} {M : fm_M} (h_ : RY Y G M) : ∀ v, v < 3 → M 334 (3 * G + v) = Y.fi v := h_.2.2.2.2.2.2.2.1
theorem RY.mo {Y : Ga} {G : Nat} {M : fm_M} (h_ : RY Y G M) : ∀ v, v < 3 → M 333 (3 * G + v) = Y.mo v := h_.2.2.2.2.2.2.2.2.1
theorem RY.wt {Y : Ga} {G : Nat} {M : fm_M} (h_ : RY Y G M) : ∀ c b, c < Y.C → b < Y.nb c → M 339 (4 * (10 * G + c) + b) = Y.wt c b := h_.2.2.2.2.2.2.2.2.2
theorem rit_same {M M' : fm_M} (e : ∀ a, 333 ≤ a → a ≤ 344 → M' a = M a) (x : Nat) (r : Nat → Int) : rit M' x r = rit M x r := by
  unfold rit; rw [e 344 (by omega) (by omega), e 343 (by omega) (by omega)]
theorem rsu_same {M M' : fm_M} (e : ∀ a, 333 ≤ a → a ≤ 344 → M' a = M a) (s : Nat) (r : Nat → Int) : rsu M' s r = rsu M s r := by
  unfold rsu; rw [e 342 (by omega) (by omega)]; exact sm_congr (fun k _ => rit_same e _ _)
theorem rhol_same {M M' : fm_M} (e : ∀ a, 333 ≤ a → a ≤ 344 → M' a = M a) (G g : Nat) (r : Nat → Int) : rhol M' G g r ↔ rhol M G g r := by
  unfold rhol
  simp only [rsu_same e]
  rw [e 340 (by omega) (by omega), e 341 (by omega) (by omega)]
theorem rnx_same {M M' : fm_M} (e : ∀ a, 333 ≤ a → a ≤ 344 → M' a = M a) (G c b : Nat) (r : Nat → Int) (v : Nat) : rnx M' G c b r v = rnx M G c b r v := by
  unfold rnx; rw [rsu_same e, e 342 (by omega) (by omega), e 333 (by omega) (by omega)]
theorem RY.same {Y : Ga} {G : Nat} {M M' : fm_M} (h : RY Y G M) (e : ∀ a, 333 ≤ a → a ≤ 344 → M' a = M a) : RY Y G M' := by
  refine ⟨h.w, by rw [e 335 (by omega) (by omega)]; exact h.c, fun r hr => (rhol_same e _ _ _).trans (h.tg r hr), fun c hc r hr => (rhol_same e _ _ _).trans (h.en c hc r hr), by rw [e 336 (by omega) (by omega)]; exact h.mx, by rw [e 337 (by omega) (by omega)]; exact h.nb, fun c b hc hb r hr v hv => by rw [rnx_same e]; exact h.nx c b hc hb r hr v hv, by rw [e 334 (by omega) (by omega)]; exact h.fi, by rw [e 333 (by omega) (by omega)]; exact h.mo, by rw [e 339 (by omega) (by omega)]; exact h.wt⟩
/-- states that have been found -/
abbrev Xs : Type := Nat × (Nat → Nat → Int)
abbrev sme (s t : Nat → Int) : Prop := s 0 = t 0 ∧ s 1 = t 1 ∧ s 2 = t 2
abbrev isn (X : Xs) (s : Nat → Int) : Prop := ∃ i, i < X.1 ∧ sme (X.2 i) s
def Xad (X : Xs) (s : Nat → Int) : Xs := (X.1 + 1, fun i => if i = X.1 then s else X.2 i)
def ins (X : Xs) (s : Nat → Int) : Xs × Bool := if isn X s then (X, true) else if X.1 = 8 then (X, false) else (Xad X s, true)
/-- the commands that are enabled, and how many of them stand before one -/
def ene (Y : Ga) (r : Nat → Int) (c : Nat) : Bool := !Y.tg r && Y.en c r
def ec (Y : Ga) (r : Nat → Int) : Nat → Nat
  | 0 => 0
  | c + 1 => ec Y r c + (if ene Y r c = true then 1 else 0)
def goB (Y : Ga) (c : Nat) (r : Nat → Int) : Nat → Nat → Xs → Xs × Bool
  | 0, _, X => (X, true)
  | f + 1, b, X => if (ins X (Y.nx c b r)).2 = true then goB Y c r f (b + 1) (ins X (Y.nx c b r)).1 else ins X (Y.nx c b r)
def goC (Y : Ga) (r : Nat → Int) : Nat → Nat → Xs → Xs × Bool
  | 0, _, X => (X, true)
  | f + 1, c, X => if ene Y r c = true then (if (goB Y c r (Y.nb c) 0 X).2 = true then goC Y r f (c + 1) (goB Y c r (Y.nb c) 0 X).1 else goB Y c r (Y.nb c) 0 X) else goC Y r f (c + 1) X
def exm (Y : Ga) (r : Nat → Int) (c : Nat) (b : Bool) : Prop := ∃ c', c' < c ∧ ene Y r c' = true ∧ Y.mx c' = b
abbrev omx (Y : Ga) (r : Nat → Int) : Prop := exm Y r Y.C true
abbrev omn (Y : Ga) (r : Nat → Int) : Prop := exm Y r Y.C false
/-- states, how many were looked at, the mixed one, the answer -/
abbrev Rs : Type := Xs × Nat × Int × Int
noncomputable def goI (Y : Ga) : Nat → Nat → Xs → Rs
  | 0, i, X => (X, i, -1, X.1)
  | f + 1, i, X => if i < X.1 then (@ite Rs (omx Y (X.2 i) ∧ omn Y (X.2 i)) (Classical.propDecidable _) (X, i + 1, i, -2) (if (goC Y (X.2 i) Y.C 0 X).2 = true then goI Y f (i + 1) (goC Y (X.2 i) Y.C 0 X).1 else ((goC Y (X.2 i) Y.C 0 X).1, i + 1, -1, -3))) else (X, i, -1, X.1)
noncomputable def SR (Y : Ga) : Rs := goI Y 8 0 (Xad (0, fun _ _ => 0) Y.fi)
theorem ec_le (Y : Ga) (r : Nat → Int) (c : Nat) : ec Y r c ≤ c := by
  induction c with
  | zero => exact Nat.le_refl _
  | succ c ih => rw [ec]; split <;> omega
theorem ec_mono (Y : Ga) (r : Nat → Int) (c d : Nat) : ec Y r c ≤ ec Y r (c + d) := by
  induction d with
  | zero => exact Nat.le_refl _
  | succ d ih => rw [← Nat.add_assoc, ec]; omega
theorem ec_lt {Y : Ga} {r : Nat → Int} {c C : Nat} (hc : c < C) (he : ene Y r c = true) : ec Y r c < ec Y r C := by
  have h1 : ec Y r (c + 1) = ec Y r c + 1 := by rw [ec, if_pos he]
  have h2 := ec_mono Y r (c + 1) (C - (c + 1))
  rw [show c + 1 + (C - (c + 1)) = C by omega] at h2
  omega
theorem ec_inj {Y : Ga} {r : Nat → Int} {c d : Nat} (hc : ene Y r c = true) (hd : ene Y r d = true) (e : ec Y r c = ec Y r d) : c = d := by
  by_cases h : c < d
  · have := ec_lt h hc; omega
  · by_cases h2 : d < c
    · have := ec_lt h2 hd; omega
    · omega
/-- the next one that is enabled -/
theorem goC_skip {Y : Ga} {r : Nat → Int} {X : Xs} {C k : Nat} : ∀ (f c : Nat), c + f = C → ec Y r c = k → k < ec Y r C → ∃ c', c ≤ c' ∧ c' < C ∧ ene Y r c' = true ∧ ec Y r c' = k ∧ goC Y r f c X = goC Y r (C - c') c' X := by
  intro f
  induction f with
  | zero => intro c hc hk hlt; rw [show C = c by omega] at hlt; omega
  | succ f ih =>
    intro c hc hk hlt
    by_cases he : ene Y r c = true
    · exact ⟨c, Nat.le_refl _, by omega, he, hk, by rw [show C - c = f + 1 by omega]⟩
    · obtain ⟨c', h1, h2, h3, h4, h5⟩ := ih (c + 1) (by omega) (by rw [ec, if_neg he]; omega) hlt
      exact ⟨c', by omega, h2, h3, h4, by rw [goC, if_neg he]; exact h5⟩
theorem goC_end {Y : Ga} {r : Nat → Int} {X : Xs} {C : Nat} : ∀ (f c : Nat), c + f = C → ec Y r c = ec Y r C → goC Y r f c X = (X, true) := by
  intro f
  induction f with
  | zero => intro c _ _; rfl
  | succ f ih =>
    intro c hc hk
    have he : ¬ ene Y r c = true := fun he => by have := ec_lt (C := C) (by omega) he; omega
    rw [goC, if_neg he]
    exact ih (c + 1) (by omega) (by rw [ec, if_neg he]; exact hk)
/-- the search in the reference -/
def RF (Y : Ga) (X : Xs) (lk : Nat) (M : fm_M) : Prop :=
  (M 331 20 = X.1) ∧
  (X.1 ≤ 8) ∧
  (∀ i, i < X.1 → okr Y (X.2 i)) ∧
  (∀ i v, i < X.1 → v < 3 → M 345 (3 * i + v) = X.2 i v) ∧
  (∀ i, i < X.1 → M 346 i = if Y.tg (X.2 i) = true then 1 else 0) ∧
  (∀ i, i < X.1 → i < lk → M 349 i = ec Y (X.2 i) Y.C) ∧
  (∀ i, i < X.1 → i < lk → ∀ c, c < Y.C → ene Y (X.2 i) c = true → M 348 (10 * i + ec Y (X.2 i) c) = c) ∧
  (∀ i, i < X.1 → i < lk → (M 347 i = 1 ↔ omx Y (X.2 i))) ∧
  (∀ i, i < X.1 → ¬ i < lk → M 349 i = 0 ∧ M 347 i = 0)
theorem RF.n {Y : Ga} {X : Xs} {lk : Nat} {M : fm_M} (h_ : RF Y X lk M) : M 331 20 = X.1 := h_.1
theorem RF.n8 {Y : Ga} {X : Xs} {lk : Nat} {M : fm_M} (h_ : RF Y X lk M) : X.1 ≤ 8 := h_.2.1
theorem RF.ok {Y : Ga} {X : Xs} {lk : Nat} {M : fm_M} (h_ : RF Y X lk M) : ∀ i, i < X.1 → okr Y (X.2 i) := h_.2.2.1
theorem RF.st {Y : Ga} {X : Xs} {lk : Nat} {M : fm_M} (h_ : RF Y X lk M) : ∀ i v, i < X.1 → v < 3 → M 345 (3 * i + v) = X.2 i v := h_.2.2.2.1
theorem RF.tg {Y : Ga} {X : Xs} {lk : Nat} {M : fm_M} (h_ : RF Y X lk M) : ∀ i, i < X.1 → M 346 i = if Y.tg (X.2 i) = true then 1 else 0 := h_.2.2.2.2.1
theorem RF.cn {Y : Ga} {X : Xs} {lk : Nat} {M : fm_M} (h_ : RF Y X lk M) : ∀ i, i < X.1 → i < lk → M 349 i = ec Y (X.2 i) Y.C := h_.2.2.2.2.2.1
theorem RF.ch {Y : Ga} {X : Xs} {lk : Nat} {M : fm_M} (h_ : RF Y X lk M) : ∀ i, i < X.1 → i < lk → ∀ c, c < Y.C → ene Y (X.2 i) c = true → M 348 (10 * i + ec Y (X.2 i) c) = c := h_.2.2.2.2.2.2.1
theorem RF.mx {Y : Ga} {X : Xs} {lk : Nat} {M : fm_M} (h_ : RF Y X lk M) : ∀ i, i < X.1 → i < lk → (M 347 i = 1 ↔ omx Y (X.2 i)) := h_.2.2.2.2.2.2.2.1
theorem RF.z {Y : Ga} {X : Xs} {lk : Nat} {M : fm_M} (h_ : RF Y X lk M) : ∀ i, i < X.1 → ¬ i < lk → M 349 i = 0 ∧ M 347 i = 0 := h_.2.2.2.2.2.2.2.2
theorem exm_0 {Y : Ga} {r : Nat → Int} {b : Bool} : ¬ exm Y r 0 b := fun ⟨_, h, _⟩ => absurd h (Nat.not_lt_zero _)
theorem exm_not {Y : Ga} {r : Nat → Int} {c : Nat} {b : Bool} (he : ¬ ene Y r c = true) : exm Y r (c + 1) b ↔ exm Y r c b := by
  refine ⟨fun ⟨c', h1, h2, h3⟩ => ⟨c', ?_, h2, h3⟩, fun ⟨c', h1, h2, h3⟩ => ⟨c', by omega, h2, h3⟩⟩
  by_cases e : c' = c
  · rw [e] at h2; exact absurd h2 he
  · omega
theorem exm_and {Y : Ga} {r : Nat → Int} {c : Nat} {b : Bool} (he : ene Y r c = true) : exm Y r (c + 1) b ↔ exm Y r c b ∨ Y.mx c = b := by
  refine ⟨fun ⟨c', h1, h2, h3⟩ => ?_, fun h => ?_⟩
  · by_cases e : c' = c
    · rw [e] at h3; exact Or.inr h3
    · exact Or.inl ⟨c', by omega, h2, h3⟩
  · rcases h with ⟨c', h1, h2, h3⟩ | h
    · exact ⟨c', by omega, h2, h3⟩
    · exact ⟨c, by omega, he, h⟩
end Pu_Ky
section Pu_Kz
/-! The game that the search finds, its choices numbered by commands. -/
def dst (X : Xs) : Prop := ∀ i j, i < X.1 → j < X.1 → sme (X.2 i) (X.2 j) → i = j
def xok (X : Xs) : Prop := dst X ∧ 1 ≤ X.1 ∧ X.1 ≤ 8
theorem dst_ad {X : Xs} {s : Nat → Int} (h : dst X) (hn : ¬ isn X s) : dst (Xad X s) := by
  have hX : ∀ j, j < X.1 → (Xad X s).2 j = X.2 j := fun j hj => by show (if j = X.1 then s else X.2 j) = _; rw [if_neg (by omega)]
  have hXn : (Xad X s).2 X.1 = s := by show (if X.1 = X.1 then s else X.2 X.1) = _; rw [if_pos rfl]
  have hX1 : (Xad X s).1 = X.1 + 1 := rfl
  intro i j hi hj e
  rw [hX1] at hi hj
  by_cases ei : i = X.1
  · by_cases ej : j = X.1
    · omega
    · rw [ei, hXn, hX j (by omega)] at e
      exact absurd ⟨j, by omega, e.1.symm, e.2.1.symm, e.2.2.symm⟩ hn
  · by_cases ej : j = X.1
    · rw [ej, hXn, hX i (by omega)] at e
      exact absurd ⟨i, by omega, e⟩ hn
    · rw [hX i (by omega), hX j (by omega)] at e
      exact h i j (by omega) (by omega) e
theorem xok_ins {X : Xs} {s : Nat → Int} (h : xok X) : xok (ins X s).1 := by
  unfold ins
  by_cases e : isn X s
  · rw [if_pos e]; exact h
  · rw [if_neg e]
    by_cases e2 : X.1 = 8
    · rw [if_pos e2]; exact h
    · rw [if_neg e2]
      have := h.2.2
      exact ⟨dst_ad h.1 e, by show 1 ≤ X.1 + 1; omega, by show X.1 + 1 ≤ 8; omega⟩
theorem xok_goB (Y : Ga) (c : Nat) (r : Nat → Int) : ∀ (f b : Nat) (X : Xs), xok X → xok (goB Y c r f b X).1 := by
  intro f
  induction f with
  | zero => intro b X h; rw [goB]; exact h
  | succ f ih =>
    intro b X h
    rw [goB]
    by_cases e : (ins X (Y.nx c b r)).2 = true
    · rw [if_pos e]; exact ih _ _ (xok_ins h)
    · rw [if_neg e]; exact xok_ins h
theorem xok_goC (Y : Ga) (r : Nat → Int) : ∀ (f c : Nat) (X : Xs), xok X → xok (goC Y r f c X).1 := by
  intro f
  induction f with
  | zero => intro c X h; rw [goC]; exact h
  | succ f ih =>
    intro c X h
    rw [goC]
    by_cases e : ene Y r c = true
    · rw [if_pos e]
      by_cases e2 : (goB Y c r (Y.nb c) 0 X).2 = true
      · rw [if_pos e2]; exact ih _ _ (xok_goB Y c r _ _ _ h)
      · rw [if_neg e2]; exact xok_goB Y c r _ _ _ h
    · rw [if_neg e]; exact ih _ _ h
theorem xok_goI (Y : Ga) : ∀ (f i : Nat) (X : Xs), xok X → xok (goI Y f i X).1 := by
  intro f
  induction f with
  | zero => intro i X h; rw [goI]; exact h
  | succ f ih =>
    intro i X h
    rw [goI]
    by_cases e : i < X.1
    · rw [if_pos e]
      by_cases e2 : omx Y (X.2 i) ∧ omn Y (X.2 i)
      · rw [if_pos e2]; exact h
      · rw [if_neg e2]
        by_cases e3 : (goC Y (X.2 i) Y.C 0 X).2 = true
        · rw [if_pos e3]; exact ih _ _ (xok_goC Y _ _ _ _ h)
        · rw [if_neg e3]; exact xok_goC Y _ _ _ _ h
    · rw [if_neg e]; exact h
theorem lk_goI (Y : Ga) : ∀ (f i : Nat) (X : Xs), i + f = 8 → xok X → 0 ≤ (goI Y f i X).2.2.2 → (goI Y f i X).1.1 ≤ (goI Y f i X).2.1 ∧ (goI Y f i X).2.2.2 = (goI Y f i X).1.1 := by
  intro f
  induction f with
  | zero =>
    intro i X hi h
    rw [goI]
    intro _
    have := h.2.2
    exact ⟨by show X.1 ≤ i; omega, rfl⟩
  | succ f ih =>
    intro i X hi h
    rw [goI]
    by_cases e : i < X.1
    · rw [if_pos e]
      by_cases e2 : omx Y (X.2 i) ∧ omn Y (X.2 i)
      · rw [if_pos e2]
        intro h0
        exact absurd h0 (by show ¬ (0 : Int) ≤ -2; decide)
      · rw [if_neg e2]
        by_cases e3 : (goC Y (X.2 i) Y.C 0 X).2 = true
        · rw [if_pos e3]; exact ih _ _ (by omega) (xok_goC Y _ _ _ _ h)
        · rw [if_neg e3]
          intro h0
          exact absurd h0 (by show ¬ (0 : Int) ≤ -3; decide)
    · rw [if_neg e]
      intro _
      exact ⟨by show X.1 ≤ i; omega, rfl⟩
theorem xok_0 (Y : Ga) : xok (Xad (0, fun _ _ => 0) Y.fi) := by
  have e : (Xad ((0, fun _ _ => 0) : Xs) Y.fi).1 = 1 := rfl
  exact ⟨fun i j hi hj _ => by rw [e] at hi hj; omega, by rw [e]; omega, by rw [e]; omega⟩
theorem SR_ok (Y : Ga) : xok (SR Y).1 := xok_goI Y 8 0 _ (xok_0 Y)
theorem SR_lk {Y : Ga} (h : 0 ≤ (SR Y).2.2.2) : (SR Y).1.1 ≤ (SR Y).2.1 ∧ (SR Y).2.2.2 = (SR Y).1.1 := lk_goI Y 8 0 _ (by omega) (xok_0 Y) h
theorem SR_pos {Y : Ga} (h : 0 ≤ (SR Y).2.2.2) : 0 < (SR Y).2.2.2 := by
  have a := (SR_lk h).2
  have b := (SR_ok Y).2.1
  omega
/-- where a branch leads: the number of the state -/
noncomputable def tov (Y : Ga) (X : Xs) (i c b : Nat) : Nat := @dite Nat (∃ j, j < X.1 ∧ sme (X.2 j) (Y.nx c b (X.2 i))) (Classical.propDecidable _) (fun h => Classical.choose h) (fun _ => 0)
theorem tov_lt {Y : Ga} {X : Xs} {i c b : Nat} (h : 0 < X.1) : tov Y X i c b < X.1 := by
  unfold tov
  split
  · next h2 => exact (Classical.choose_spec h2).1
  · exact h
theorem tov_eq {Y : Ga} {X : Xs} {i c b j : Nat} (h : dst X) (hj : j < X.1) (e : sme (X.2 j) (Y.nx c b (X.2 i))) : tov Y X i c b = j := by
  have ex : ∃ j, j < X.1 ∧ sme (X.2 j) (Y.nx c b (X.2 i)) := ⟨j, hj, e⟩
  unfold tov
  rw [dif_pos ex]
  have s := Classical.choose_spec ex
  exact h _ _ s.1 hj ⟨s.2.1.trans e.1.symm, s.2.2.1.trans e.2.1.symm, s.2.2.2.trans e.2.2.symm⟩
noncomputable def HG (Y : Ga) (X : Xs) : Gd := (X.1, fun i => @ite Nat (∃ c, c < Y.C ∧ ene Y (X.2 i) c = true) (Classical.propDecidable _) Y.C 0, fun _ c => Y.nb c, fun _ c b => Y.wt c b, fun i c b => tov Y X i c b, fun i => Y.tg (X.2 i) = true, fun i => omx Y (X.2 i), fun i c => ene Y (X.2 i) c = true)
theorem HG_cc {Y : Ga} {X : Xs} {i : Nat} (h : ∃ c, c < Y.C ∧ ene Y (X.2 i) c = true) : (HG Y X).cc i = Y.C := by
  show (@ite Nat _ (Classical.propDecidable _) Y.C 0) = _
  rw [if_pos h]
theorem HG_cc0 {Y : Ga} {X : Xs} {i : Nat} (h : ¬ ∃ c, c < Y.C ∧ ene Y (X.2 i) c = true) : (HG Y X).cc i = 0 := by
  show (@ite Nat _ (Classical.propDecidable _) Y.C 0) = _
  rw [if_neg h]
theorem HG_ex {Y : Ga} {X : Xs} {i : Nat} (h : 0 < (HG Y X).cc i) : ∃ c, c < Y.C ∧ ene Y (X.2 i) c = true := by
  apply Classical.byContradiction
  intro hn
  rw [HG_cc0 hn] at h
  omega
theorem HG_lt {Y : Ga} {X : Xs} {i c : Nat} (h : c < (HG Y X).cc i) : c < Y.C := by
  rw [HG_cc (HG_ex (by omega))] at h
  exact h
/-- commands that were read have branches, and weights of at most 6 -/
def YG (Y : Ga) : Prop := ∀ c, c < Y.C → 1 ≤ Y.nb c ∧ (∀ b, b < Y.nb c → 1 ≤ Y.wt c b) ∧ sm (Y.nb c) (Y.wt c) ≤ 6
theorem HG_wf {Y : Ga} {X : Xs} (g : YG Y) (h : 0 < X.1) : (HG Y X).Wf := by
  refine ⟨fun i k b hi hk hb => ?_, fun i k b hi hk hb => tov_lt h, fun i hi ht => HG_cc0 (fun ⟨c, hc, he⟩ => ?_)⟩
  · have := (g k (HG_lt hk)).2.1 b hb
    show 0 < Y.wt k b
    omega
  · have ht' : Y.tg (X.2 i) = true := ht
    unfold ene at he
    rw [ht'] at he
    exact absurd he (by simp)
theorem Cor.tr {G H K : Gd} (C : Cor G H) (D : Cor H K) : Cor G K := by
  refine ⟨C.n.trans D.n, fun i hi => (C.tg i hi).trans (D.tg i (by rw [← C.n]; exact hi)), fun i hi => (C.mx i hi).trans (D.mx i (by rw [← C.n]; exact hi)), fun i k hi hk ha => ?_, fun i c hi hc ha => ?_⟩
  · obtain ⟨c, c1, c2, c3, c4⟩ := C.gh i k hi hk ha
    obtain ⟨d, d1, d2, d3, d4⟩ := D.gh i c (by rw [← C.n]; exact hi) c1 c2
    exact ⟨d, d1, d2, c3.trans d3, fun h => (c4 h).trans (d4 h)⟩
  · obtain ⟨d, d1, d2, d3, d4⟩ := D.hg i c (by rw [← C.n]; exact hi) hc ha
    obtain ⟨k, k1, k2, k3, k4⟩ := C.hg i d hi d1 d2
    exact ⟨k, k1, k2, k3.trans d3, fun h => (k4 h).trans (d4 h)⟩
theorem Cor.rfl {G : Gd} : Cor G G := ⟨Eq.refl _, fun _ _ => Iff.rfl, fun _ _ => Iff.rfl, fun i k _ hk ha => ⟨k, hk, ha, Eq.refl _, fun _ => Eq.refl _⟩, fun i k _ hk ha => ⟨k, hk, ha, Eq.refl _, fun _ => Eq.refl _⟩⟩
/-- the values of the game, as fractions in lowest terms -/
def VY (Y : Ga) (u l : Nat → Int) : Prop := ∃ (G : Gd) (num : Nat → Int) (com : Int), G.Wf ∧ Cor G (HG Y (SR Y).1) ∧ Sol G num com ∧ (∀ i, i < G.n → 0 ≤ num i) ∧ 0 < com ∧ ∀ i, i < G.n → u i = (((num i).toNat / Nat.gcd (num i).toNat com.toNat : Nat) : Int) ∧ l i = ((com.toNat / Nat.gcd (num i).toNat com.toNat : Nat) : Int)
theorem VY_u {Y : Ga} {u l u' l' : Nat → Int} (h : VY Y u l) (h' : VY Y u' l') : ∀ i, i < (SR Y).1.1 → u i = u' i ∧ l i = l' i := by
  obtain ⟨G, num, com, W, C, S, nn, cp, e⟩ := h
  obtain ⟨G', num', com', W', C', S', nn', cp', e'⟩ := h'
  intro i hi
  have hG : i < G.n := by rw [C.n]; exact hi
  have hG' : i < G'.n := by rw [C'.n]; exact hi
  have q := Sol_eq W W' (C.tr C'.symm) S S' i hG
  have a := nn i hG
  have a' := nn' i hG'
  have qn : (num i).toNat * com'.toNat = (num' i).toNat * com.toNat := by
    have : (((num i).toNat * com'.toNat : Nat) : Int) = (((num' i).toNat * com.toNat : Nat) : Int) := by
      rw [Int.natCast_mul, Int.natCast_mul, Int.toNat_of_nonneg a, Int.toNat_of_nonneg a', Int.toNat_of_nonneg (Int.le_of_lt cp), Int.toNat_of_nonneg (Int.le_of_lt cp')]
      exact q
    omega
  have f := frac_eq (show 0 < com.toNat by omega) (show 0 < com'.toNat by omega) qn
  rw [(e i hG).1, (e' i hG').1, (e i hG).2, (e' i hG').2, f.1, f.2]
  exact ⟨rfl, rfl⟩
/-- what is found of the values -/
def VX (Y : Ga) (u l d : Nat → Int) : Prop := VY Y u l
theorem VX_u {Y : Ga} {u l d u' l' d' : Nat → Int} (h : VX Y u l d) (h' : VX Y u' l' d') : ∀ i, i < (SR Y).1.1 → u i = u' i ∧ l i = l' i := VY_u h h'
theorem VY_x {Y : Ga} {u l u' l' : Nat → Int} (h : VY Y u l) (e : ∀ i, i < (SR Y).1.1 → u' i = u i ∧ l' i = l i) : VY Y u' l' := by
  obtain ⟨G, num, com, W, C, S, nn, cp, e0⟩ := h
  refine ⟨G, num, com, W, C, S, nn, cp, fun i hi => ?_⟩
  have := e i (by have := C.n; rw [this] at hi; exact hi)
  rw [this.1, this.2]; exact e0 i hi
theorem tdn {a : Int} (ha : 0 ≤ a) (d : Nat) : a.tdiv (d : Int) = ((a.toNat / d : Nat) : Int) := by
  obtain ⟨k, rfl⟩ : ∃ k : Nat, a = k := ⟨a.toNat, by omega⟩
  rfl
theorem ec_su {Y : Ga} {r : Nat → Int} : ∀ {c k : Nat}, k < ec Y r c → ∃ d, d < c ∧ ene Y r d = true ∧ ec Y r d = k := by
  intro c
  induction c with
  | zero => intro k h; rw [ec] at h; omega
  | succ c ih =>
    intro k h
    rw [ec] at h
    by_cases e : ene Y r c = true
    · rw [if_pos e] at h
      by_cases e2 : k = ec Y r c
      · exact ⟨c, by omega, e, e2.symm⟩
      · obtain ⟨d, d1, d2, d3⟩ := ih (k := k) (by omega)
        exact ⟨d, by omega, d2, d3⟩
    · rw [if_neg e] at h
      obtain ⟨d, d1, d2, d3⟩ := ih (k := k) (by omega)
      exact ⟨d, by omega, d2, d3⟩
end Pu_Kz
