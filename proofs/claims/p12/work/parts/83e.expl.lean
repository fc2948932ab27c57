set_option maxRecDepth 10000
section Pu_Ky
/-! A game as both keep it, and the search for its states. -/
/-- what an item and a sum of the reference come to -/
def rit (M : fm_M) (x : Nat) (r : Nat → Int) : Int := (if M 344 x = 0 then 1 else -1) * (if M 343 x < 100 then M 343 x else r (M 343 x - 100).toNat)
def rsu (M : fm_M) (s : Nat) (r : Nat → Int) : Int := sm (M 342 s).toNat (fun k => rit M (4 * s + k) r)
/-- is it as the sign says -/
def tcm (c x y : Int) : Prop := if c = 60 then x < y else if c = 62 then y < x else if c = 61 then x = y else x ≠ y
def rhol (M : fm_M) (G g : Nat) (r : Nat → Int) : Prop := ∀ k : Nat, (k : Int) < M 340 (11 * G + g) → tcm (M 341 (44 * G + 4 * g + k)) (rsu M (208 * G + 8 * g + 2 * k) r) (rsu M (208 * G + 8 * g + 2 * k + 1) r)
/-- kept within what a variable may be -/
def clp (t x : Int) : Int := if t < x then t else if x < 0 then 0 else x
def rnx (M : fm_M) (G c b : Nat) (r : Nat → Int) (v : Nat) : Int := if 0 < M 342 (208 * G + 88 + 12 * c + 3 * b + v) then clp (M 333 (3 * G + v)) (rsu M (208 * G + 88 + 12 * c + 3 * b + v) r) else r v
/-- commands, target, guards, whose, branches, what comes, the first values, the greatest values -/
def Ga : Type := Nat × ((Nat → Int) → Bool) × (Nat → (Nat → Int) → Bool) × (Nat → Bool) × (Nat → Nat) × (Nat → Nat → (Nat → Int) → Nat → Int) × (Nat → Int) × (Nat → Int)
def Ga.C (Y : Ga) : Nat := Y.1
def Ga.tg (Y : Ga) : (Nat → Int) → Bool := Y.2.1
def Ga.en (Y : Ga) : Nat → (Nat → Int) → Bool := Y.2.2.1
def Ga.mx (Y : Ga) : Nat → Bool := Y.2.2.2.1
def Ga.nb (Y : Ga) : Nat → Nat := Y.2.2.2.2.1
def Ga.nx (Y : Ga) : Nat → Nat → (Nat → Int) → Nat → Int := Y.2.2.2.2.2.1
def Ga.fi (Y : Ga) : Nat → Int := Y.2.2.2.2.2.2.1
def Ga.mo (Y : Ga) : Nat → Int := Y.2.2.2.2.2.2.2
def okr (Y : Ga) (r : Nat → Int) : Prop := ∀ v, v < 3 → 0 ≤ r v ∧ r v ≤ Y.mo v
/-- what every game keeps to -/
def YW (Y : Ga) : Prop :=
  (Y.C ≤ 10) ∧
  (∀ c, Y.nb c ≤ 4) ∧
  (okr Y Y.fi) ∧
  (∀ c b r, okr Y r → okr Y (Y.nx c b r)) ∧
  (∀ v, v < 3 → Y.mo v ≤ 9) ∧
  (∀ r r', (∀ v, v < 3 → r v = r' v) → Y.tg r = Y.tg r') ∧
  (∀ c r r', (∀ v, v < 3 → r v = r' v) → Y.en c r = Y.en c r')
theorem YW.c10 {Y : Ga} (h_ : YW Y) : Y.C ≤ 10 := h_.1
theorem YW.nb4 {Y : Ga} (h_ : YW Y) : ∀ c, Y.nb c ≤ 4 := h_.2.1
theorem YW.okf {Y : Ga} (h_ : YW Y) : okr Y Y.fi := h_.2.2.1
theorem YW.okn {Y : Ga} (h_ : YW Y) : ∀ c b r, okr Y r → okr Y (Y.nx c b r) := h_.2.2.2.1
theorem YW.mo9 {Y : Ga} (h_ : YW Y) : ∀ v, v < 3 → Y.mo v ≤ 9 := h_.2.2.2.2.1
theorem YW.ctg {Y : Ga} (h_ : YW Y) : ∀ r r', (∀ v, v < 3 → r v = r' v) → Y.tg r = Y.tg r' := h_.2.2.2.2.2.1
theorem YW.cen {Y : Ga} (h_ : YW Y) : ∀ c r r', (∀ v, v < 3 → r v = r' v) → Y.en c r = Y.en c r' := h_.2.2.2.2.2.2
/-- the game in the reference -/
def RY (Y : Ga) (G : Nat) (M : fm_M) : Prop :=
  (YW Y) ∧
  (M 335 G = Y.C) ∧
  (∀ r, okr Y r → (rhol M G 10 r ↔ Y.tg r = true)) ∧
  (∀ c, c < Y.C → ∀ r, okr Y r → (rhol M G c r ↔ Y.en c r = true)) ∧
  (∀ c, c < Y.C → M 336 (10 * G + c) = if Y.mx c = true then 1 else 0) ∧
  (∀ c, c < Y.C → M 337 (10 * G + c) = Y.nb c) ∧
  (∀ c b, c < Y.C → b < Y.nb c → ∀ r, okr Y r → ∀ v, v < 3 → rnx M G c b r v = Y.nx c b r v) ∧
  (∀ v, v < 3 → M 334 (3 * G + v) = Y.fi v) ∧
  (∀ v, v < 3 → M 333 (3 * G + v) = Y.mo v)
theorem RY.w {Y : Ga} {G : Nat} {M : fm_M} (h_ : RY Y G M) : YW Y := h_.1
theorem RY.c {Y : Ga} {G : Nat} {M : fm_M} (h_ : RY Y G M) : M 335 G = Y.C := h_.2.1
theorem RY.tg {Y : Ga} {G : Nat} {M : fm_M} (h_ : RY Y G M) : ∀ r, okr Y r → (rhol M G 10 r ↔ Y.tg r = true) := h_.2.2.1
theorem RY.en {Y : Ga} {G : Nat} {M : fm_M} (h_ : RY Y G M) : ∀ c, c < Y.C → ∀ r, okr Y r → (rhol M G c r ↔ Y.en c r = true) := h_.2.2.2.1
theorem RY.mx {Y : Ga} {G : Nat} {M : fm_M} (h_ : RY Y G M) : ∀ c, c < Y.C → M 336 (10 * G + c) = if Y.mx c = true then 1 else 0 := h_.2.2.2.2.1
theorem RY.nb {Y : Ga} {G : Nat} {M : fm_M} (h_ : RY Y G M) : ∀ c, c < Y.C → M 337 (10 * G + c) = Y.nb c := h_.2.2.2.2.2.1
theorem RY.nx {Y : Ga} {G : Nat} {M : fm_M} (h_ : RY Y G M) : ∀ c b, c < Y.C → b < Y.nb c → ∀ r, okr Y r → ∀ v, v < 3 → rnx M G c b r v = Y.nx c b r v := h_.2.2.2.2.2.2.1
theorem RY.fi {Y : Ga} {G : Nat} {M : fm_M} (h_ : RY Y G M) : ∀ v, v < 3 → M 334 (3 * G + v) = Y.fi v := h_.2.2.2.2.2.2.2.1
theorem RY.mo {Y : Ga} {G : Nat} {M : fm_M} (h_ : RY Y G M) : ∀ v, v < 3 → M 333 (3 * G + v) = Y.mo v := h_.2.2.2.2.2.2.2.2
theorem rit_same {M M' : fm_M} (e : ∀ a, 333 ≤ a → a ≤ 344 → M' a = M a) (x : Nat) (r : Nat → Int) : rit M' x r = rit M x r := by
  unfold rit; rw [e 344 (by omega) (by omega), e 343 (by omega) (by omega)]
theorem rsu_same {M M' : fm_M} (e : ∀ a, 333 ≤ a → a ≤ 344 → M' a = M a) (s : Nat) (r : Nat → Int) : rsu M' s r = rsu M s r := by
  unfold rsu; rw [e 342 (by omega) (by omega)]; exact sm_congr (fun k _ => rit_same e _ _)
theorem rhol_same {M M' : fm_M} (e : ∀ a, 333 ≤ a → a ≤ 344 → M' a = M a) (G g : Nat) (r : Nat → Int) : rhol M' G g r ↔ rhol M G g r := by
  unfold rhol
  simp only [rsu_same e]
  rw [e 340 (by omega) (by omega), e 341 (by omega) (by omega)]
theorem rnx_same {M M' : fm_M} (e : ∀ a, 333 ≤ a → a ≤ 344 → M' a = M a) (G c b : Nat) (r : Nat → Int) (v : Nat) : rnx M' G c b r v = rnx M G c b r v := by
  unfold rnx; rw [rsu_same e, e 342 (by omega) (by omega), e 333 (by omega) (by omega)]
theorem RY.same {Y : Ga} {G : Nat} {M M' : fm_M} (h : RY Y G M) (e : ∀ a, 333 ≤ a → a ≤ 344 → M' a = M a) : RY Y G M' := by
  refine ⟨h.w, by rw [e 335 (by omega) (by omega)]; exact h.c, fun r hr => (rhol_same e _ _ _).trans (h.tg r hr), fun c hc r hr => (rhol_same e _ _ _).trans (h.en c hc r hr), by rw [e 336 (by omega) (by omega)]; exact h.mx, by rw [e 337 (by omega) (by omega)]; exact h.nb, fun c b hc hb r hr v hv => by rw [rnx_same e]; exact h.nx c b hc hb r hr v hv, by rw [e 334 (by omega) (by omega)]; exact h.fi, by rw [e 333 (by omega) (by omega)]; exact h.mo⟩
/-- states that have been found -/
abbrev Xs : Type := Nat × (Nat → Nat → Int)
abbrev sme (s t : Nat → Int) : Prop := s 0 = t 0 ∧ s 1 = t 1 ∧ s 2 = t 2
abbrev isn (X : Xs) (s : Nat → Int) : Prop := ∃ i, i < X.1 ∧ sme (X.2 i) s
def Xad (X : Xs) (s : Nat → Int) : Xs := (X.1 + 1, fun i => if i = X.1 then s else X.2 i)
def ins (X : Xs) (s : Nat → Int) : Xs × Bool := if isn X s then (X, true) else if X.1 = 8 then (X, false) else (Xad X s, true)
/-- the commands that are enabled, and how many of them stand before one -/
def ene (Y : Ga) (r : Nat → Int) (c : Nat) : Bool := !Y.tg r && Y.en c r
def ec (Y : Ga) (r : Nat → Int) : Nat → Nat
  | 0 => 0
  | c + 1 => ec Y r c + (if ene Y r c = true then 1 else 0)
def goB (Y : Ga) (c : Nat) (r : Nat → Int) : Nat → Nat → Xs → Xs × Bool
  | 0, _, X => (X, true)
  | f + 1, b, X => if (ins X (Y.nx c b r)).2 = true then goB Y c r f (b + 1) (ins X (Y.nx c b r)).1 else ins X (Y.nx c b r)
def goC (Y : Ga) (r : Nat → Int) : Nat → Nat → Xs → Xs × Bool
  | 0, _, X => (X, true)
  | f + 1, c, X => if ene Y r c = true then (if (goB Y c r (Y.nb c) 0 X).2 = true then goC Y r f (c + 1) (goB Y c r (Y.nb c) 0 X).1 else goB Y c r (Y.nb c) 0 X) else goC Y r f (c + 1) X
def exm (Y : Ga) (r : Nat → Int) (c : Nat) (b : Bool) : Prop := ∃ c', c' < c ∧ ene Y r c' = true ∧ Y.mx c' = b
abbrev omx (Y : Ga) (r : Nat → Int) : Prop := exm Y r Y.C true
abbrev omn (Y : Ga) (r : Nat → Int) : Prop := exm Y r Y.C false
/-- states, how many were looked at, the mixed one, the answer -/
abbrev Rs : Type := Xs × Nat × Int × Int
noncomputable def goI (Y : Ga) : Nat → Nat → Xs → Rs
  | 0, i, X => (X, i, -1, X.1)
  | f + 1, i, X => if i < X.1 then (@ite Rs (omx Y (X.2 i) ∧ omn Y (X.2 i)) (Classical.propDecidable _) (X, i + 1, i, -2) (if (goC Y (X.2 i) Y.C 0 X).2 = true then goI Y f (i + 1) (goC Y (X.2 i) Y.C 0 X).1 else ((goC Y (X.2 i) Y.C 0 X).1, i + 1, -1, -3))) else (X, i, -1, X.1)
noncomputable def SR (Y : Ga) : Rs := goI Y 8 0 (Xad (0, fun _ _ => 0) Y.fi)
theorem ec_le (Y : Ga) (r : Nat → Int) (c : Nat) : ec Y r c ≤ c := by
  induction c with
  | zero => exact Nat.le_refl _
  | succ c ih => rw [ec]; split <;> omega
theorem ec_mono (Y : Ga) (r : Nat → Int) (c d : Nat) : ec Y r c ≤ ec Y r (c + d) := by
  induction d with
  | zero => exact Nat.le_refl _
  | succ d ih => rw [← Nat.add_assoc, ec]; omega
theorem ec_lt {Y : Ga} {r : Nat → Int} {c C : Nat} (hc : c < C) (he : ene Y r c = true) : ec Y r c < ec Y r C := by
  have h1 : ec Y r (c + 1) = ec Y r c + 1 := by rw [ec, if_pos he]
  have h2 := ec_mono Y r (c + 1) (C - (c + 1))
  rw [show c + 1 + (C - (c + 1)) = C by omega] at h2
  omega
theorem ec_inj {Y : Ga} {r : Nat → Int} {c d : Nat} (hc : ene Y r c = true) (hd : ene Y r d = true) (e : ec Y r c = ec Y r d) : c = d := by
  by_cases h : c < d
  · have := ec_lt h hc; omega
  · by_cases h2 : d < c
    · have := ec_lt h2 hd; omega
    · omega
/-- the next one that is enabled -/
theorem goC_skip {Y : Ga} {r : Nat → Int} {X : Xs} {C k : Nat} : ∀ (f c : Nat), c + f = C → ec Y r c = k → k < ec Y r C → ∃ c', c ≤ c' ∧ c' < C ∧ ene Y r c' = true ∧ ec Y r c' = k ∧ goC Y r f c X = goC Y r (C - c') c' X := by
  intro f
  induction f with
  | zero => intro c hc hk hlt; rw [show C = c by omega] at hlt; omega
  | succ f ih =>
    intro c hc hk hlt
    by_cases he : ene Y r c = true
    · exact ⟨c, Nat.le_refl _, by omega, he, hk, by rw [show C - c = f + 1 by omega]⟩
    · obtain ⟨c', h1, h2, h3, h4, h5⟩ := ih (c + 1) (by omega) (by rw [ec, if_neg he]; omega) hlt
      exact ⟨c', by omega, h2, h3, h4, by rw [goC, if_neg he]; exact h5⟩
theorem goC_end {Y : Ga} {r : Nat → Int} {X : Xs} {C : Nat} : ∀ (f c : Nat), c + f = C → ec Y r c = ec Y r C → goC Y r f c X = (X, true) := by
  intro f
  induction f with
  | zero => intro c _ _; rfl
  | succ f ih =>
    intro c hc hk
    have he : ¬ ene Y r c = true := fun he => by have := ec_lt (C := C) (by omega) he; omega
    rw [goC, if_neg he]
    exact ih (c + 1) (by omega) (by rw [ec, if_neg he]; exact hk)
/-- the search in the reference -/
def RF (Y : Ga) (X : Xs) (lk : Nat) (M : fm_M) : Prop :=
  (M 331 20 = X.1) ∧
  (X.1 ≤ 8) ∧
  (∀ i, i < X.1 → okr Y (X.2 i)) ∧
  (∀ i v, i < X.1 → v < 3 → M 345 (3 * i + v) = X.2 i v) ∧
  (∀ i, i < X.1 → M 346 i = if Y.tg (X.2 i) = true then 1 else 0) ∧
  (∀ i, i < X.1 → i < lk → M 349 i = ec Y (X.2 i) Y.C) ∧
  (∀ i, i < X.1 → i < lk → ∀ c, c < Y.C → ene Y (X.2 i) c = true → M 348 (10 * i + ec Y (X.2 i) c) = c) ∧
  (∀ i, i < X.1 → i < lk → (M 347 i = 1 ↔ omx Y (X.2 i))) ∧
  (∀ i, i < X.1 → ¬ i < lk → M 349 i = 0 ∧ M 347 i = 0)
theorem RF.n {Y : Ga} {X : Xs} {lk : Nat} {M : fm_M} (h_ : RF Y X lk M) : M 331 20 = X.1 := h_.1
theorem RF.n8 {Y : Ga} {X : Xs} {lk : Nat} {M : fm_M} (h_ : RF Y X lk M) : X.1 ≤ 8 := h_.2.1
theorem RF.ok {Y : Ga} {X : Xs} {lk : Nat} {M : fm_M} (h_ : RF Y X lk M) : ∀ i, i < X.1 → okr Y (X.2 i) := h_.2.2.1
theorem RF.st {Y : Ga} {X : Xs} {lk : Nat} {M : fm_M} (h_ : RF Y X lk M) : ∀ i v, i < X.1 → v < 3 → M 345 (3 * i + v) = X.2 i v := h_.2.2.2.1
theorem RF.tg {Y : Ga} {X : Xs} {lk : Nat} {M : fm_M} (h_ : RF Y X lk M) : ∀ i, i < X.1 → M 346 i = if Y.tg (X.2 i) = true then 1 else 0 := h_.2.2.2.2.1
theorem RF.cn {Y : Ga} {X : Xs} {lk : Nat} {M : fm_M} (h_ : RF Y X lk M) : ∀ i, i < X.1 → i < lk → M 349 i = ec Y (X.2 i) Y.C := h_.2.2.2.2.2.1
theorem RF.ch {Y : Ga} {X : Xs} {lk : Nat} {M : fm_M} (h_ : RF Y X lk M) : ∀ i, i < X.1 → i < lk → ∀ c, c < Y.C → ene Y (X.2 i) c = true → M 348 (10 * i + ec Y (X.2 i) c) = c := h_.2.2.2.2.2.2.1
theorem RF.mx {Y : Ga} {X : Xs} {lk : Nat} {M : fm_M} (h_ : RF Y X lk M) : ∀ i, i < X.1 → i < lk → (M 347 i = 1 ↔ omx Y (X.2 i)) := h_.2.2.2.2.2.2.2.1
theorem RF.z {Y : Ga} {X : Xs} {lk : Nat} {M : fm_M} (h_ : RF Y X lk M) : ∀ i, i < X.1 → ¬ i < lk → M 349 i = 0 ∧ M 347 i = 0 := h_.2.2.2.2.2.2.2.2
theorem exm_0 {Y : Ga} {r : Nat → Int} {b : Bool} : ¬ exm Y r 0 b := fun ⟨_, h, _⟩ => absurd h (Nat.not_lt_zero _)
theorem exm_not {Y : Ga} {r : Nat → Int} {c : Nat} {b : Bool} (he : ¬ ene Y r c = true) : exm Y r (c + 1) b ↔ exm Y r c b := by
  refine ⟨fun ⟨c', h1, h2, h3⟩ => ⟨c', ?_, h2, h3⟩, fun ⟨c', h1, h2, h3⟩ => ⟨c', by omega, h2, h3⟩⟩
  by_cases e : c' = c
  · rw [e] at h2; exact absurd h2 he
  · omega
theorem exm_and {Y : Ga} {r : Nat → Int} {c : Nat} {b : Bool} (he : ene Y r c = true) : exm Y r (c + 1) b ↔ exm Y r c b ∨ Y.mx c = b := by
  refine ⟨fun ⟨c', h1, h2, h3⟩ => ?_, fun h => ?_⟩
  · by_cases e : c' = c
    · rw [e] at h3; exact Or.inr h3
    · exact Or.inl ⟨c', by omega, h2, h3⟩
  · rcases h with ⟨c', h1, h2, h3⟩ | h
    · exact ⟨c', by omega, h2, h3⟩
    · exact ⟨c, by omega, he, h⟩
end Pu_Ky
section Pu_L
/-! What every number of the reference keeps to. -/
def RBt : List (Nat × Nat × Int × Int) := [(333, 6, 0, 9), (334, 6, 0, 9), (335, 2, 0, 10), (336, 20, 0, 1), (337, 20, 0, 4), (338, 20, 0, 6), (339, 80, 0, 6), (340, 22, 0, 4), (341, 88, 0, 65535), (342, 416, 0, 4), (343, 1664, 0, 102), (344, 1664, 0, 1), (345, 24, 0, 9), (346, 8, 0, 1), (347, 8, 0, 1), (348, 80, 0, 9), (349, 8, 0, 10), (350, 320, -1, 7), (351, 3, 0, 9), (332, 200, 0, 65535)]
def RB (M : fm_M) : Prop := ∀ q ∈ RBt, ∀ x, x < q.2.1 → q.2.2.1 ≤ M q.1 x ∧ M q.1 x ≤ q.2.2.2
theorem RB.g {M : fm_M} (h : RB M) (c n : Nat) (a b : Int) (hq : (c, n, a, b) ∈ RBt) {x : Nat} (hx : x < n) : a ≤ M c x ∧ M c x ≤ b := h _ hq x hx
theorem RB.o {M : fm_M} (h : RB M) {c : Nat} (hc : ∀ q ∈ RBt, q.1 ≠ c) (p : Nat) (v : Int) : RB (fm_u M c p v) := fun q hq x hx => by
  rw [fu_off _ _ _ (hc q hq)]; exact h q hq x hx
theorem RBu_uniq : ∀ q ∈ RBt, ∀ r ∈ RBt, q.1 = r.1 → q = r := by decide
theorem RB.u {M : fm_M} (h : RB M) (c n : Nat) (a b : Int) (hq : (c, n, a, b) ∈ RBt) (p : Nat) (v : Int) (hv : a ≤ v ∧ v ≤ b) : RB (fm_u M c p v) := fun q hq2 x hx => by
  by_cases e : q.1 = c
  · have : q = (c, n, a, b) := RBu_uniq q hq2 _ hq e
    subst this
    show a ≤ fm_u M c p v c x ∧ fm_u M c p v c x ≤ b
    rw [fu_at]; split
    · exact hv
    · exact h _ hq x hx
  · rw [fu_off _ _ _ e]; exact h q hq2 x hx
/-- a state's values -/
def rho (M : fm_M) (i : Nat) : Nat → Int := fun v => M 345 (3 * i + v)
theorem rsu_c {M : fm_M} (h : RB M) {s : Nat} (hs : s < 416) {r r' : Nat → Int} (e : ∀ v, v < 3 → r v = r' v) : rsu M s r = rsu M s r' := by
  have h1 := h.g 342 416 0 4 (by decide) hs
  refine sm_congr (fun k hk => ?_)
  have h6 := h.g 343 1664 0 102 (by decide) (x := 4 * s + k) (by omega)
  unfold rit
  congr 1
  split
  · rfl
  · exact e _ (by omega)
theorem rhol_c {M : fm_M} (h : RB M) {G g : Nat} (hG : G ≤ 1) (hg : g ≤ 10) {r r' : Nat → Int} (e : ∀ v, v < 3 → r v = r' v) : rhol M G g r ↔ rhol M G g r' := by
  have h4 := h.g 340 22 0 4 (by decide) (x := 11 * G + g) (by omega)
  have key : ∀ r r' : Nat → Int, (∀ v, v < 3 → r v = r' v) → rhol M G g r → rhol M G g r' := fun r r' e hh k hk => by
    have := hh k hk
    rw [rsu_c h (by omega) e, rsu_c h (by omega) e] at this; exact this
  exact ⟨key r r' e, key r' r (fun v hv => (e v hv).symm)⟩
theorem spec_sumIn {M : fm_M} (h : RB M) {s i : Nat} (hs : s < 416) (hi : i < 8) {post : Int → fm_M → Prop} {thr : String → fm_M → Prop} (hp : ∀ r, -400 ≤ r ∧ r ≤ 400 → r = rsu M s (rho M i) → post r M) : wp_Mo_sumIn M s i post thr := by
  have h1 := h.g 342 416 0 4 (by decide) hs
  refine ⟨fun M' v3 v4 => M' = M ∧ ∃ k : Nat, v4 = 4 * s + k ∧ (k : Int) ≤ M 342 s ∧ -(99 * k) ≤ v3 ∧ v3 ≤ 99 * k ∧ v3 = sm k (fun x => rit M (4 * s + x) (rho M i)), fun _ _ v4 => (4 * s + 4 - v4).toNat, ⟨rfl, 0, by omega, by omega, by omega, by omega, rfl⟩, ?_⟩
  rintro M' v3 v4 ⟨rfl, k, rfl, hk, h3, h4, hv⟩
  unfold C_Mo_sumIn_7
  rw [Int.toNat_natCast]
  refine ⟨by omega, rg_small (by omega), rg_small (by omega), fun h5 => hp v3 (by omega) (by rw [hv]; unfold rsu; rw [show (M' 342 s).toNat = k by omega]), fun h5 => ⟨by omega, ?_⟩⟩
  have e : ((4 * (s : Int)) + (k : Int)).toNat = 4 * s + k := by omega
  rw [e]
  have h6 := h.g 343 1664 0 102 (by decide) (x := 4 * s + k) (by omega)
  have h7 := h.g 344 1664 0 1 (by decide) (x := 4 * s + k) (by omega)
  have fin : ∀ z : Int, 0 ≤ z ∧ z ≤ 99 → z = (if M' 343 (4 * s + k) < 100 then M' 343 (4 * s + k) else rho M' i (M' 343 (4 * s + k) - 100).toNat) → B_Mo_sumIn_63 s i post thr (fun M'_1 v3' v4' => (M'_1 = M' ∧ ∃ k : Nat, v4' = 4 * s + k ∧ (k : Int) ≤ M' 342 s ∧ -(99 * k) ≤ v3' ∧ v3' ≤ 99 * k ∧ v3' = sm k (fun x => rit M' (4 * s + x) (rho M' i))) ∧ (4 * s + 4 - v4').toNat < (4 * s + 4 - ((4 * s : Int) + k)).toNat) M' v3 (4 * s + k) z := by
    intro z hz hz2
    unfold B_Mo_sumIn_63
    rw [e]
    refine ⟨by omega, rg_small (by omega), fun h9 => ⟨⟨rfl, k + 1, by omega, by omega, by omega, by omega, ?_⟩, by omega⟩, fun h9 => ⟨⟨rfl, k + 1, by omega, by omega, by omega, by omega, ?_⟩, by omega⟩⟩
    · simp only [sm]; rw [← hv]; congr 1; unfold rit; rw [if_pos h9, ← hz2]; omega
    · simp only [sm]; rw [← hv]; unfold rit; rw [if_neg h9, ← hz2]; omega
  refine ⟨rg_small (by omega), fun h8 => ⟨by omega, fin _ ?_ ?_⟩, fun h8 => fin _ (by omega) (by rw [if_pos (by omega)])⟩
  · have := h.g 345 24 0 9 (by decide) (x := (3 * (i : Int) + M' 343 (4 * s + k) - 100).toNat) (by omega)
    omega
  · rw [if_neg (by omega)]; unfold rho; congr 1; omega
/-- the first k tests -/
def htl (M : fm_M) (G g i k : Nat) : Prop := ∀ k' : Nat, k' < k → tcm (M 341 (44 * G + 4 * g + k')) (rsu M (208 * G + 8 * g + 2 * k') (rho M i)) (rsu M (208 * G + 8 * g + 2 * k' + 1) (rho M i))
theorem spec_holds {M : fm_M} (h : RB M) (hg : M 331 6 = 0 ∨ M 331 6 = 1) {g i : Nat} (hgd : g ≤ 10) (hi : i < 8) {post : Int → fm_M → Prop} {thr : String → fm_M → Prop} (h0 : ¬ rhol M (M 331 6).toNat g (rho M i) → post 0 M) (h1 : rhol M (M 331 6).toNat g (rho M i) → post 1 M) : wp_Mo_holds M g i post thr := by
  obtain ⟨G, hG, hG1⟩ : ∃ G : Nat, M 331 6 = G ∧ G ≤ 1 := ⟨(M 331 6).toNat, by omega, by omega⟩
  rw [hG, Int.toNat_natCast] at h0 h1
  have e1 : (11 * (G : Int) + (g : Int)).toNat = 11 * G + g := by omega
  have ht := h.g 340 22 0 4 (by decide) (x := 11 * G + g) (by omega)
  refine ⟨fun M' v3 v4 => M' = M ∧ (v3 = 0 ∨ v3 = 1) ∧ ∃ k : Nat, v4 = k ∧ (k : Int) ≤ M 340 (11 * G + g) ∧ (v3 = 1 ↔ htl M G g i k), fun _ _ v4 => (4 - v4).toNat, ⟨rfl, Or.inr rfl, 0, rfl, by omega, fun _ k' hk' => by omega, fun _ => rfl⟩, ?_⟩
  rintro M' v3 v4 ⟨rfl, hv3, k, rfl, hk, hev⟩
  have rv : rg v3 := rg_small (by rcases hv3 with e | e <;> rw [e] <;> decide)
  unfold C_Mo_holds_5
  rw [hG, e1]
  refine ⟨by omega, rg_small (by omega), rg_small (by omega), fun h5 => ⟨hv3, ?_⟩, fun h5 => ?_⟩
  · rcases hv3 with e | e
    · rw [e]; refine h0 (fun hh => ?_)
      have := hev.mpr (fun k' hk' => hh k' (by omega)); omega
    · rw [e]; exact h1 (fun k' hk' => hev.mp e k' (by omega))
  have e2 : 208 * (G : Int) + 8 * (g : Int) + 2 * (k : Int) = ((208 * G + 8 * g + 2 * k : Nat) : Int) := by omega
  have e3 : 208 * (G : Int) + 8 * (g : Int) + 2 * (k : Int) + 1 = ((208 * G + 8 * g + 2 * k + 1 : Nat) : Int) := by omega
  rw [e3, e2]
  refine spec_sumIn h (by omega) hi (fun x hx ex => spec_sumIn h (by omega) hi (fun y hy ey => ?_))
  rw [hG]
  have e4 : (44 * (G : Int) + 4 * (g : Int) + (k : Int)).toNat = 44 * G + 4 * g + k := by omega
  rw [e4]
  have hs := h.g 341 88 0 65535 (by decide) (x := 44 * G + 4 * g + k) (by omega)
  have no : ∀ z : Int, (z = 0 ∨ z = 1) → (z = 1 ↔ v3 = 1 ∧ tcm (M' 341 (44 * G + 4 * g + k)) x y) → (fun M'_1 v3' v4' => (M'_1 = M' ∧ (v3' = 0 ∨ v3' = 1) ∧ ∃ k : Nat, v4' = k ∧ (k : Int) ≤ M' 340 (11 * G + g) ∧ (v3' = 1 ↔ htl M' G g i k)) ∧ (4 - v4').toNat < (4 - (k : Int)).toNat : fm_M → Int → Int → Prop) M' z ((k : Int) + 1) := fun z hz hzz => by
    refine ⟨⟨rfl, hz, k + 1, by omega, by omega, ?_⟩, by omega⟩
    rw [hzz, hev, ex, ey]
    exact ⟨fun hh k' hk' => by
      by_cases e : k' = k
      · rw [e]; exact hh.2
      · exact hh.1 k' (by omega), fun hh => ⟨fun k' hk' => hh k' (by omega), hh k (by omega)⟩⟩
  have t0 : ¬ tcm (M' 341 (44 * G + 4 * g + k)) x y → (fun M'_1 v3' v4' => (M'_1 = M' ∧ (v3' = 0 ∨ v3' = 1) ∧ ∃ k : Nat, v4' = k ∧ (k : Int) ≤ M' 340 (11 * G + g) ∧ (v3' = 1 ↔ htl M' G g i k)) ∧ (4 - v4').toNat < (4 - (k : Int)).toNat : fm_M → Int → Int → Prop) M' 0 ((k : Int) + 1) := fun ht => no 0 (Or.inl rfl) ⟨fun h => absurd h (by decide), fun h => absurd h.2 ht⟩
  have t1 : v3 ≠ 0 → tcm (M' 341 (44 * G + 4 * g + k)) x y → (fun M'_1 v3' v4' => (M'_1 = M' ∧ (v3' = 0 ∨ v3' = 1) ∧ ∃ k : Nat, v4' = k ∧ (k : Int) ≤ M' 340 (11 * G + g) ∧ (v3' = 1 ↔ htl M' G g i k)) ∧ (4 - v4').toNat < (4 - (k : Int)).toNat : fm_M → Int → Int → Prop) M' 1 ((k : Int) + 1) := fun hn ht => no 1 (Or.inr rfl) ⟨fun _ => ⟨by omega, ht⟩, fun _ => rfl⟩
  refine ⟨by omega, rv, fun hz => no 0 (Or.inl rfl) ⟨fun h => absurd h (by decide), fun h => by omega⟩, fun hz => ⟨rg_small (by omega), fun n1 => ⟨fun n2 => ⟨fun n3 => ⟨rg_small (by omega), rg_small (by omega), fun q => t0 (by unfold tcm; rw [if_neg n1, if_neg n2, if_neg n3]; omega), fun q => t1 hz (by unfold tcm; rw [if_neg n1, if_neg n2, if_neg n3]; omega)⟩, fun n3 => ⟨rg_small (by omega), rg_small (by omega), fun q => t0 (by unfold tcm; rw [if_neg n1, if_neg n2, if_pos n3]; omega), fun q => t1 hz (by unfold tcm; rw [if_neg n1, if_neg n2, if_pos n3]; omega)⟩⟩, fun n2 => ⟨rg_small (by omega), rg_small (by omega), fun q => t0 (by unfold tcm; rw [if_neg n1, if_pos n2]; omega), fun q => t1 hz (by unfold tcm; rw [if_neg n1, if_pos n2]; omega)⟩⟩, fun n1 => ⟨rg_small (by omega), rg_small (by omega), fun q => t0 (by unfold tcm; rw [if_pos n1]; omega), fun q => t1 hz (by unfold tcm; rw [if_pos n1]; omega)⟩⟩⟩
/-- on the way of the search: which ends of branches are known -/
def EX (M : fm_M) (P : Nat → Nat → Nat → Prop) : Prop :=
  (RB M) ∧
  (M 331 6 = 0 ∨ M 331 6 = 1) ∧
  (0 ≤ M 331 20 ∧ M 331 20 ≤ 8) ∧
  (∀ j k, j < (Gof M).n → k < (Gof M).cc j → M 348 (10 * j + k) < M 335 (M 331 6).toNat) ∧
  (∀ j, j < (Gof M).n → M 346 j ≠ 0 → M 349 j = 0) ∧
  (∀ j k b, j < (Gof M).n → k < (Gof M).cc j → b < (Gof M).nb j k → P j k b → 0 ≤ M 350 (40 * j + 4 * k + b) ∧ M 350 (40 * j + 4 * k + b) < M 331 20)
theorem EX.rb {M : fm_M} {P : Nat → Nat → Nat → Prop} (h_ : EX M P) : RB M := h_.1
theorem EX.hg {M : fm_M} {P : Nat → Nat → Nat → Prop} (h_ : EX M P) : M 331 6 = 0 ∨ M 331 6 = 1 := h_.2.1
theorem EX.hn {M : fm_M} {P : Nat → Nat → Nat → Prop} (h_ : EX M P) : 0 ≤ M 331 20 ∧ M 331 20 ≤ 8 := h_.2.2.1
theorem EX.cm {M : fm_M} {P : Nat → Nat → Nat → Prop} (h_ : EX M P) : ∀ j k, j < (Gof M).n → k < (Gof M).cc j → M 348 (10 * j + k) < M 335 (M 331 6).toNat := h_.2.2.2.1
theorem EX.tgc {M : fm_M} {P : Nat → Nat → Nat → Prop} (h_ : EX M P) : ∀ j, j < (Gof M).n → M 346 j ≠ 0 → M 349 j = 0 := h_.2.2.2.2.1
theorem EX.to {M : fm_M} {P : Nat → Nat → Nat → Prop} (h_ : EX M P) : ∀ j k b, j < (Gof M).n → k < (Gof M).cc j → b < (Gof M).nb j k → P j k b → 0 ≤ M 350 (40 * j + 4 * k + b) ∧ M 350 (40 * j + 4 * k + b) < M 331 20 := h_.2.2.2.2.2
theorem EX.mono {M : fm_M} {P Q : Nat → Nat → Nat → Prop} (h : EX M P) (hq : ∀ j k b, Q j k b → P j k b) : EX M Q := ⟨h.rb, h.hg, h.hn, h.cm, h.tgc, fun j k b a1 a2 a3 a4 => h.to j k b a1 a2 a3 (hq _ _ _ a4)⟩
/-- older states stay as they are -/
def old (n : Nat) (M M' : fm_M) : Prop :=
  (∀ j, j < n → M' 346 j = M 346 j) ∧
  (∀ j, j < n → M' 347 j = M 347 j) ∧
  (∀ j, j < n → M' 349 j = M 349 j) ∧
  (M' 348 = M 348) ∧
  (∀ x, x < 40 * n → M' 350 x = M 350 x)
theorem old.c346 {n : Nat} {M M' : fm_M} (h_ : old n M M') : ∀ j, j < n → M' 346 j = M 346 j := h_.1
theorem old.c347 {n : Nat} {M M' : fm_M} (h_ : old n M M') : ∀ j, j < n → M' 347 j = M 347 j := h_.2.1
theorem old.c349 {n : Nat} {M M' : fm_M} (h_ : old n M M') : ∀ j, j < n → M' 349 j = M 349 j := h_.2.2.1
theorem old.c348 {n : Nat} {M M' : fm_M} (h_ : old n M M') : M' 348 = M 348 := h_.2.2.2.1
theorem old.c350 {n : Nat} {M M' : fm_M} (h_ : old n M M') : ∀ x, x < 40 * n → M' 350 x = M 350 x := h_.2.2.2.2
theorem old.rfl {n : Nat} {M : fm_M} : old n M M := ⟨fun _ _ => Eq.refl _, fun _ _ => Eq.refl _, fun _ _ => Eq.refl _, Eq.refl _, fun _ _ => Eq.refl _⟩
abbrev exl : List Nat := [345, 346, 347, 348, 349, 350, 351]
theorem EX.grow {M M' : fm_M} {P : Nat → Nat → Nat → Prop} (h : EX M P) (s : sv exl [20, 21] M M') (o : old (Gof M).n M M') (rb : RB M') (hn : M' 331 20 = M 331 20 ∨ (M' 331 20 = M 331 20 + 1 ∧ M' 331 20 ≤ 8 ∧ M' 349 (Gof M).n = 0)) : EX M' P := by
  have hh := h.hn
  have en : (Gof M).n = (M 331 20).toNat := _root_.rfl
  have en' : (Gof M').n = (M' 331 20).toNat := _root_.rfl
  have ec : ∀ j, (Gof M').cc j = (M' 349 j).toNat := fun _ => _root_.rfl
  have ec0 : ∀ j, (Gof M).cc j = (M 349 j).toNat := fun _ => _root_.rfl
  have eg : ∀ j k, gi M' j k = gi M j k := fun j k => by unfold gi; rw [s.slot 6 (by decide), o.c348]
  have eb : ∀ j k, (Gof M').nb j k = (Gof M).nb j k := fun j k => by show (M' 337 _).toNat = (M 337 _).toNat; rw [eg, s.cell 337 (by decide) (by decide)]
  have key : ∀ j, j < (Gof M').n → 0 < (Gof M').cc j → j < (Gof M).n ∧ (Gof M').cc j = (Gof M).cc j := fun j hj hc => by
    have : j < (Gof M).n := by
      rcases hn with e | ⟨e, e2, e3⟩
      · omega
      · by_cases e4 : j = (Gof M).n
        · rw [ec, e4, e3] at hc; exact absurd hc (by decide)
        · omega
    exact ⟨this, by rw [ec, ec0, o.c349 j this]⟩
  refine ⟨rb, by rw [s.slot 6 (by decide)]; exact h.hg, by omega, fun j k hj hk => ?_, fun j hj ht => ?_, fun j k b hj hk hb hP => ?_⟩
  · obtain ⟨a, e⟩ := key j hj (by omega)
    rw [o.c348, s.cell 335 (by decide) (by decide), s.slot 6 (by decide)]
    exact h.cm j k a (by rw [← e]; exact hk)
  · by_cases hc : 0 < (Gof M').cc j
    · obtain ⟨a, e⟩ := key j hj hc
      rw [o.c346 j a] at ht
      rw [o.c349 j a]; exact h.tgc j a ht
    · have := rb.g 349 8 0 10 (by decide) (x := j) (by omega)
      rw [ec] at hc; omega
  · obtain ⟨a, e⟩ := key j hj (by omega)
    have hcc := h.rb.g 349 8 0 10 (by decide) (x := j) (by omega)
    have hnb := h.rb.g 337 20 0 4 (by decide) (x := gi M j k) (by
      have := h.rb.g 348 80 0 9 (by decide) (x := 10 * j + k) (by rw [e, ec0] at hk; omega)
      have := h.hg
      unfold gi; omega)
    have hk' : k < (Gof M).cc j := by rw [← e]; exact hk
    rw [eb] at hb
    have hb4 : (Gof M).nb j k = (M 337 (gi M j k)).toNat := _root_.rfl
    rw [ec0] at hk'
    rw [o.c350 _ (by omega)]
    have := h.to j k b a (by rw [ec0]; exact hk') hb hP
    omega
/-- a state is laid down behind the others -/
def fnw (M M' : fm_M) : Prop := (∀ j v, j < (Gof M).n → v < 3 → M' 345 (3 * j + v) = M 345 (3 * j + v)) ∧ (∀ v, v < 3 → M' 345 (3 * (Gof M).n + v) = M 351 v) ∧ ((M' 346 (Gof M).n = 0 ∧ ¬ rhol M (M 331 6).toNat 10 (M 351)) ∨ (M' 346 (Gof M).n = 1 ∧ rhol M (M 331 6).toNat 10 (M 351))) ∧ M' 347 (Gof M).n = 0
theorem spec_find {M : fm_M} (h : RB M) (hg : M 331 6 = 0 ∨ M 331 6 = 1) (hn : 0 ≤ M 331 20 ∧ M 331 20 ≤ 8) {post : Int → fm_M → Prop} {thr : String → fm_M → Prop}
    (h0 : M 331 20 = 8 → (∀ j : Nat, (j : Int) < M 331 20 → ¬ sme (rho M j) (M 351)) → post (-1) M) (h1 : ∀ i : Nat, (i : Int) < M 331 20 → sme (rho M i) (M 351) → post i M) (h2 : ∀ M', (∀ j : Nat, (j : Int) < M 331 20 → ¬ sme (rho M j) (M 351)) → fnw M M' → sv [345, 346, 347, 349, 350] [20] M M' → old (Gof M).n M M' → RB M' → M' 331 20 = M 331 20 + 1 → M' 331 20 ≤ 8 → M' 349 (Gof M).n = 0 → post (M 331 20) M') : wp_Mo_find M post thr := by
  have en : (Gof M).n = (M 331 20).toNat := rfl
  refine ⟨fun M' v1 => M' = M ∧ ∃ i : Nat, v1 = i ∧ (i : Int) ≤ M 331 20 ∧ ∀ j, j < i → ¬ sme (rho M j) (M 351), fun _ v1 => (M 331 20 - v1).toNat, ⟨rfl, 0, rfl, by omega, fun j hj => by omega⟩, ?_⟩
  rintro M1 v1 ⟨rfl, i, rfl, hi, hno⟩
  unfold C_Mo_find_2
  refine ⟨rg_small (by omega), rg_small (by omega), fun h3 => ⟨fun h4 => ?_, fun h4 => h0 h4 (fun j hj => hno j (by omega))⟩, fun h3 => ?_⟩
  · -- a new state
    have hna : ∀ j : Nat, (j : Int) < M1 331 20 → ¬ sme (rho M1 j) (M1 351) := fun j hj => hno j (by omega)
    refine ⟨fun M' v1 => ∃ v : Nat, v1 = v ∧ v ≤ 3 ∧ ex1 345 M1 M' ∧ RB M' ∧ (∀ y, y < 3 * (Gof M1).n → M' 345 y = M1 345 y) ∧ ∀ y, y < v → M' 345 (3 * (Gof M1).n + y) = M1 351 y, fun _ v1 => (3 - v1).toNat, ⟨0, rfl, by omega, ex1.rfl, h, fun _ _ => rfl, fun y hy => by omega⟩, ?_⟩
    rintro M2 v1 ⟨v, rfl, hv, hx, rb, fo, fn⟩
    have e331 : M2 331 = M1 331 := hx 331 (by decide)
    unfold C_Mo_find_86
    rw [e331]
    refine ⟨rg_small (by omega), fun h5 => ?_, fun h5 => ⟨by omega, by omega, fun M3 hM3 => ⟨⟨v + 1, by omega, by omega, by rw [hM3]; exact hx.u, ?_, fun y hy => by rw [hM3, fu_at, if_neg (by omega)]; exact fo y hy, fun y hy => ?_⟩, by dsimp only; omega⟩⟩⟩
    · have e10 : (10 : Int) = ((10 : Nat) : Int) := rfl
      have ecn : M1 331 20 = (((M1 331 20).toNat : Nat) : Int) := by omega
      have fin : ∀ r : Int, (r = 0 ∨ r = 1) → ((r = 0 ∧ ¬ rhol M1 (M1 331 6).toNat 10 (M1 351)) ∨ (r = 1 ∧ rhol M1 (M1 331 6).toNat 10 (M1 351))) → (0 ≤ M1 331 20 ∧ M1 331 20 < 8) ∧ (r = 0 ∨ r = 1) ∧ ∀ M63 : fm_M, M63 = fm_u M2 346 (M1 331 20).toNat r → ((0 ≤ (M63 331 20) ∧ (M63 331 20) < 8) ∧ (∀ M65 : fm_M, M65 = fm_u M63 349 (M63 331 20).toNat 0 → ((0 ≤ (M65 331 20) ∧ (M65 331 20) < 8) ∧ (∀ M67 : fm_M, M67 = fm_u M65 347 (M65 331 20).toNat 0 → (B_Mo_find_163 post thr M67 (40 * (M67 331 20))))))) := by
        intro r hr hrh
        refine ⟨by omega, hr, fun M3 e3 => ?_⟩
        have a3 : M3 331 = M1 331 := by rw [e3, fu_off _ _ _ (by decide), e331]
        have rb3 : RB M3 := by rw [e3]; exact rb.u 346 8 0 1 (by decide) _ _ (by omega)
        rw [a3]
        refine ⟨by omega, fun M4 e4 => ?_⟩
        have a4 : M4 331 = M1 331 := by rw [e4, fu_off _ _ _ (by decide), a3]
        have rb4 : RB M4 := by rw [e4]; exact rb3.u 349 8 0 10 (by decide) _ _ (by omega)
        rw [a4]
        refine ⟨by omega, fun M5 e5 => ?_⟩
        have a5 : M5 331 = M1 331 := by rw [e5, fu_off _ _ _ (by decide), a4]
        have rb5 : RB M5 := by rw [e5]; exact rb4.u 347 8 0 1 (by decide) _ _ (by omega)
        have s5 : sv [345, 346, 347, 349, 350] [20] M1 M5 := by
          rw [e5, e4, e3]; exact (((sv.ofx hx (by decide) (by decide)).u (by decide) (by decide)).u (by decide) (by decide)).u (by decide) (by decide)
        have o5 : old (Gof M1).n M1 M5 := by
          refine ⟨fun j hj => ?_, fun j hj => ?_, fun j hj => ?_, ?_, fun x _ => ?_⟩
          · rw [e5, fu_off _ _ _ (by decide), e4, fu_off _ _ _ (by decide), e3, fu_at, if_neg (by omega), hx 346 (by decide)]
          · rw [e5, fu_at, if_neg (by rw [← en]; omega), e4, fu_off _ _ _ (by decide), e3, fu_off _ _ _ (by decide), hx 347 (by decide)]
          · rw [e5, fu_off _ _ _ (by decide), e4, fu_at, if_neg (by rw [← en]; omega), e3, fu_off _ _ _ (by decide), hx 349 (by decide)]
          · rw [e5, fu_off _ _ _ (by decide), e4, fu_off _ _ _ (by decide), e3, fu_off _ _ _ (by decide), hx 348 (by decide)]
          · rw [e5, fu_off _ _ _ (by decide), e4, fu_off _ _ _ (by decide), e3, fu_off _ _ _ (by decide), hx 350 (by decide)]
        have z5 : M5 349 (Gof M1).n = 0 := by rw [e5, fu_off _ _ _ (by decide), e4, fu_at, if_pos (by rw [en])]
        have f5 : fnw M1 M5 := by
          have e345 : M5 345 = M2 345 := by rw [e5, fu_off _ _ _ (by decide), e4, fu_off _ _ _ (by decide), e3, fu_off _ _ _ (by decide)]
          refine ⟨fun j w hj hw => by rw [e345]; exact fo _ (by omega), fun w hw => by rw [e345]; exact fn w (by omega), ?_, by rw [e5, fu_at, if_pos (by rw [en])]⟩
          rw [e5, fu_off _ _ _ (by decide), e4, fu_off _ _ _ (by decide), e3, fu_at, if_pos (by rw [en])]; exact hrh
        refine ⟨fun M' v1 => ∃ x : Nat, v1 = x ∧ 40 * (Gof M1).n ≤ x ∧ x ≤ 40 * (Gof M1).n + 40 ∧ M' 331 = M1 331 ∧ sv [345, 346, 347, 349, 350] [20] M1 M' ∧ old (Gof M1).n M1 M' ∧ RB M' ∧ M' 349 (Gof M1).n = 0 ∧ fnw M1 M', fun _ v1 => (400 - v1).toNat, ⟨40 * (Gof M1).n, by rw [a5]; omega, by omega, by omega, a5, s5, o5, rb5, z5, f5⟩, ?_⟩
        rintro M6 v1 ⟨x, rfl, hx1, hx2, a6, s6, o6, rb6, z6, f6⟩
        unfold C_Mo_find_163
        rw [a6]
        refine ⟨rg_small (by omega), rg_small (by omega), fun h6 M7 e7 => ?_, fun h6 => ⟨by omega, fun M7 e7 => ⟨⟨x + 1, by omega, by omega, by omega, by rw [e7, fu_off _ _ _ (by decide), a6], by rw [e7]; exact s6.u (by decide) (by decide), ?_, by rw [e7]; exact rb6.u 350 320 (-1) 7 (by decide) _ _ (by omega), by rw [e7, fu_off _ _ _ (by decide)]; exact z6, by unfold fnw; rw [e7, fu_off _ _ _ (by decide), fu_off _ _ _ (by decide), fu_off _ _ _ (by decide)]; exact f6⟩, by dsimp only; omega⟩⟩⟩
        · have a7 : M7 331 20 = M1 331 20 + 1 := by rw [e7, fu_at, if_pos rfl]
          rw [a7, show M1 331 20 + 1 - 1 = M1 331 20 by omega]
          refine h2 M7 hna (by unfold fnw; rw [e7, fu_off _ _ _ (by decide), fu_off _ _ _ (by decide), fu_off _ _ _ (by decide)]; exact f6) (by rw [e7]; exact s6.us (by decide)) ?_ (by rw [e7]; exact rb6.o (by decide) _ _) a7 (by omega) (by rw [e7, fu_off _ _ _ (by decide)]; exact z6)
          have hf : ∀ a, a ≠ 331 → M7 a = M6 a := fun a ha => by rw [e7]; exact fu_off _ _ _ ha
          exact ⟨fun j hj => by rw [hf 346 (by decide)]; exact o6.c346 j hj, fun j hj => by rw [hf 347 (by decide)]; exact o6.c347 j hj, fun j hj => by rw [hf 349 (by decide)]; exact o6.c349 j hj, by rw [hf 348 (by decide)]; exact o6.c348, fun x hx => by rw [hf 350 (by decide)]; exact o6.c350 x hx⟩
        · have hf : ∀ a, a ≠ 350 → M7 a = M6 a := fun a ha => by rw [e7]; exact fu_off _ _ _ ha
          refine ⟨fun j hj => by rw [hf 346 (by decide)]; exact o6.c346 j hj, fun j hj => by rw [hf 347 (by decide)]; exact o6.c347 j hj, fun j hj => by rw [hf 349 (by decide)]; exact o6.c349 j hj, by rw [hf 348 (by decide)]; exact o6.c348, fun y hy => ?_⟩
          rw [e7, fu_at, if_neg (by omega)]; exact o6.c350 y hy
      have hgd : M2 331 6 = 0 ∨ M2 331 6 = 1 := by rw [e331]; exact hg
      rw [e10, ecn]
      have hrr : rhol M2 (M2 331 6).toNat 10 (rho M2 (M1 331 20).toNat) ↔ rhol M1 (M1 331 6).toNat 10 (M1 351) := by
        have hG : (M1 331 6).toNat ≤ 1 := by omega
        rw [e331]
        refine (rhol_c rb hG (by omega) (r' := M1 351) (fun w hw => ?_)).trans (rhol_same (fun a h1 h2 => hx a (by omega)) _ _ _)
        show M2 345 (3 * (M1 331 20).toNat + w) = _
        rw [← en]; exact fn w (by omega)
      refine spec_holds rb hgd (by omega) (by omega) (fun hr => ?_) (fun hr => ?_)
      · have := fin 0 (Or.inl rfl) (Or.inl ⟨rfl, fun hh => hr (hrr.mpr hh)⟩)
        rw [← ecn]; exact this
      · have := fin 1 (Or.inr rfl) (Or.inr ⟨rfl, hrr.mp hr⟩)
        rw [← ecn]; exact this
    · have hb := rb.g 351 3 0 9 (by decide) (x := v) (by omega)
      rw [hM3]; exact rb.u 345 24 0 9 (by decide) _ _ (by rw [Int.toNat_natCast]; exact hb)
    · rw [hM3, fu_at]
      by_cases e : y = v
      · rw [if_pos (by omega), Int.toNat_natCast, e, hx 351 (by decide)]
      · rw [if_neg (by omega)]; exact fn y (by omega)
  · have b0 := h.g 351 3 0 9 (by decide) (x := 0) (by omega)
    have b1 := h.g 351 3 0 9 (by decide) (x := 1) (by omega)
    have b2 := h.g 351 3 0 9 (by decide) (x := 2) (by omega)
    have c0 := h.g 345 24 0 9 (by decide) (x := (3 * (i : Int)).toNat) (by omega)
    have c1 := h.g 345 24 0 9 (by decide) (x := (3 * (i : Int) + 1).toNat) (by omega)
    have c2 := h.g 345 24 0 9 (by decide) (x := (3 * (i : Int) + 2).toNat) (by omega)
    have nx : ¬ sme (rho M1 i) (M1 351) → (fun M'_1 v1' => (M'_1 = M1 ∧ ∃ i : Nat, v1' = i ∧ (i : Int) ≤ M1 331 20 ∧ ∀ j, j < i → ¬ sme (rho M1 j) (M1 351)) ∧ (M1 331 20 - v1').toNat < (M1 331 20 - (i : Int)).toNat : fm_M → Int → Prop) M1 ((i : Int) + 1) := fun hne => ⟨⟨rfl, i + 1, by omega, by omega, fun j hj => by
      by_cases e : j = i
      · rw [e]; exact hne
      · exact hno j (by omega)⟩, by omega⟩
    have q0 : M1 345 (3 * (i : Int)).toNat = rho M1 i 0 := by unfold rho; congr 1
    have q1 : M1 345 (3 * (i : Int) + 1).toNat = rho M1 i 1 := by unfold rho; congr 1
    have q2 : M1 345 (3 * (i : Int) + 2).toNat = rho M1 i 2 := by unfold rho; congr 1
    exact ⟨by omega, rg_small (by omega), rg_small (by omega), fun d0 => nx (fun hh => d0 (by rw [q0]; exact hh.1)), fun g0 => ⟨by omega, rg_small (by omega), rg_small (by omega), fun d1 => nx (fun hh => d1 (by rw [q1]; exact hh.2.1)), fun g1 => ⟨by omega, rg_small (by omega), rg_small (by omega), fun d2 => nx (fun hh => d2 (by rw [q2]; exact hh.2.2)), fun g2 => h1 i (by omega) ⟨by rw [← q0]; exact g0, by rw [← q1]; exact g1, by rw [← q2]; exact g2⟩⟩⟩⟩
end Pu_L
section Pu_N
/-- while the enabled commands are sought -/
def enI (Y : Ga) (X : Xs) (i : Nat) (M : fm_M) (c : Nat) (v2 : Int) (M' : fm_M) : Prop := M' 349 i = ec Y (X.2 i) c ∧ (∀ c', c' < c → ene Y (X.2 i) c' = true → M' 348 (10 * i + ec Y (X.2 i) c') = c') ∧ (M' 347 i = 1 ↔ exm Y (X.2 i) c true) ∧ (v2 = 1 ↔ exm Y (X.2 i) c false) ∧ M' 345 = M 345 ∧ (∀ j, j ≠ i → M' 347 j = M 347 j) ∧ (∀ x, ¬ (10 * i ≤ x ∧ x < 10 * i + 10) → M' 348 x = M 348 x) ∧ M' 331 21 = M 331 21
theorem enI.skip {Y : Ga} {X : Xs} {i c : Nat} {M M' : fm_M} {v2 : Int} (h : enI Y X i M c v2 M') (he : ¬ ene Y (X.2 i) c = true) : enI Y X i M (c + 1) v2 M' := by
  obtain ⟨h1, h2, h3, h4, h5⟩ := h
  refine ⟨by rw [ec, if_neg he]; exact h1, fun c' hc' he' => ?_, by rw [exm_not he]; exact h3, by rw [exm_not he]; exact h4, h5⟩
  by_cases e : c' = c
  · rw [e] at he'; exact absurd he' he
  · exact h2 c' (by omega) he'
theorem spec_enable {M : fm_M} {i : Nat} {Y : Ga} {X : Xs} (hy : RY Y (M 331 6).toNat M) (F : RF Y X i M) (h : EX M (fun j _ _ => j < i)) (hi : i < (Gof M).n) (hc : M 349 i = 0) {post : Int → fm_M → Prop} {thr : String → fm_M → Prop}
    (h1 : ∀ r M', (r = 0 ∨ r = 1) → (r = 1 ↔ omx Y (X.2 i) ∧ omn Y (X.2 i)) → RF Y X (i + 1) M' → M' 331 21 = M 331 21 → sv exl [20, 21] M M' → EX M' (fun j _ _ => j < i) → (Gof M').n = (Gof M).n → (∀ j, j ≠ i → M' 349 j = M 349 j) → post r M') : wp_Mo_enable M i post thr := by
  have hn := h.hn
  have en : (Gof M).n = (M 331 20).toNat := rfl
  obtain ⟨G, hG, hG1⟩ : ∃ G : Nat, M 331 6 = G ∧ G ≤ 1 := ⟨(M 331 6).toNat, by have := h.hg; omega, by have := h.hg; omega⟩
  rw [hG, Int.toNat_natCast] at hy
  have hiX : i < X.1 := by have := F.n; omega
  have hC : M 335 G = Y.C := hy.c
  have hco := h.rb.g 335 2 0 10 (by decide) (x := G) (by omega)
  refine ⟨fun M' v2 v3 => ∃ c : Nat, v3 = c ∧ (c : Int) ≤ M 335 G ∧ (v2 = 0 ∨ v2 = 1) ∧ sv exl [20, 21] M M' ∧ EX M' (fun j _ _ => j < i) ∧ (Gof M').n = (Gof M).n ∧ (∀ j, j ≠ i → M' 349 j = M 349 j) ∧ 0 ≤ M' 349 i ∧ M' 349 i ≤ c ∧ M' 346 = M 346 ∧ enI Y X i M c v2 M', fun _ _ v3 => (10 - v3).toNat, ⟨0, rfl, by omega, Or.inl rfl, sv.refl, h, rfl, fun _ _ => rfl, by omega, by omega, rfl, hc, fun c' hc' => by omega, ⟨fun hh => by rw [(F.z i hiX (by omega)).2] at hh; exact absurd hh (by decide), fun hh => absurd hh exm_0⟩, ⟨fun hh => absurd hh (by decide), fun hh => absurd hh exm_0⟩, rfl, fun _ _ => rfl, fun _ _ => rfl, rfl⟩, ?_⟩
  rintro M1 v2 v3 ⟨c, rfl, hc1, hv2, s1, E1, n1, o1, c1, c2, t1, I1⟩
  have rv : rg v2 := rg_small (by rcases hv2 with e | e <;> rw [e] <;> decide)
  have s1e : M1 331 20 = M 331 20 := by
    have a : (M1 331 20).toNat = (M 331 20).toNat := n1
    have := E1.hn; omega
  have g1 : M1 331 6 = G := by rw [s1.slot 6 (by decide)]; exact hG
  have hm := E1.rb.g 347 8 0 1 (by decide) (x := i) (by omega)
  have ht := E1.rb.g 346 8 0 1 (by decide) (x := i) (by omega)
  have tgt : ¬ M1 346 i = 0 → Y.tg (X.2 i) = true := fun hne => by
    rw [t1, F.tg i hiX] at hne
    by_cases e : Y.tg (X.2 i) = true
    · exact e
    · rw [if_neg e] at hne; exact absurd rfl hne
  have mo : M 335 G ≤ (c : Int) → (M1 347 i = 1 ↔ omx Y (X.2 i)) := fun h3 => by
    have := I1.2.2.1
    rw [show c = Y.C by omega] at this; exact this
  have mi : M 335 G ≤ (c : Int) → (v2 = 1 ↔ omn Y (X.2 i)) := fun h3 => by
    have := I1.2.2.2.1
    rw [show c = Y.C by omega] at this; exact this
  have rf : M 335 G ≤ (c : Int) → RF Y X (i + 1) M1 := fun h3 => by
    obtain ⟨a1, a2, a3, a4, a5, a6, a7, _⟩ := I1
    have hcC : c = Y.C := by omega
    have hx8 := F.n8
    have hec : ∀ j c', c' < Y.C → ec Y (X.2 j) c' < 10 := fun j c' hc' => by have := ec_le Y (X.2 j) c'; have := hy.w.c10; omega
    rw [hcC] at a1 a2 a3
    refine ⟨by rw [s1e]; exact F.n, F.n8, F.ok, fun j v hj hv => by rw [a5]; exact F.st j v hj hv, fun j hj => by rw [t1]; exact F.tg j hj, fun j hj hl => ?_, fun j hj hl c' hc' he' => ?_, fun j hj hl => ?_, fun j hj hl => ?_⟩
    · by_cases e : j = i
      · rw [e]; exact a1
      · rw [o1 j e]; exact F.cn j hj (by omega)
    · by_cases e : j = i
      · rw [e] at he' ⊢; exact a2 c' hc' he'
      · have := hec j c' hc'
        rw [a7 _ (by omega)]; exact F.ch j hj (by omega) c' hc' he'
    · by_cases e : j = i
      · rw [e]; exact a3
      · rw [a6 j e]; exact F.mx j hj (by omega)
    · rw [o1 j (by omega), a6 j (by omega)]; exact F.z j hj (by omega)
  unfold C_Mo_enable_4
  rw [g1, Int.toNat_natCast, Int.toNat_natCast, s1.cell 335 (by decide) (by decide)]
  refine ⟨by omega, rg_small (by omega), rg_small (by omega), fun h3 => ⟨by omega, rg_small (by omega), fun hz => h1 0 M1 (Or.inl rfl) ⟨fun hh => absurd hh (by decide), fun hh => by have := (mo h3).mpr hh.1; clear hh; omega⟩ (rf h3) I1.2.2.2.2.2.2.2 s1 E1 n1 o1, fun hz => ⟨rv, fun hv => h1 0 M1 (Or.inl rfl) ⟨fun hh => absurd hh (by decide), fun hh => by have := (mi h3).mpr hh.2; clear hh; omega⟩ (rf h3) I1.2.2.2.2.2.2.2 s1 E1 n1 o1, fun hv => h1 1 M1 (Or.inr rfl) ⟨fun _ => ⟨(mo h3).mp (by omega), (mi h3).mp (by omega)⟩, fun _ => rfl⟩ (rf h3) I1.2.2.2.2.2.2.2 s1 E1 n1 o1⟩⟩, fun h3 => ⟨by omega, rg_small (by omega), fun h4 => ⟨⟨c + 1, by omega, by omega, hv2, s1, E1, n1, o1, c1, by omega, t1, I1.skip (by unfold ene; rw [tgt h4]; simp)⟩, by dsimp only; omega⟩, fun h4 => ?_⟩⟩
  have hcC : c < Y.C := by omega
  have htg : ¬ Y.tg (X.2 i) = true := fun hh => by rw [t1, F.tg i hiX, if_pos hh] at h4; exact absurd h4 (by decide)
  have hhy : rhol M1 (M1 331 6).toNat c (rho M1 i) ↔ Y.en c (X.2 i) = true := by
    rw [g1, Int.toNat_natCast]
    refine ((rhol_c E1.rb hG1 (by omega) (r' := X.2 i) (fun v hv => ?_)).trans (rhol_same (fun a h1 h2 => s1.cell a (by simp; omega) (by omega)) _ _ _)).trans (hy.en c hcC _ (F.ok i hiX))
    show M1 345 (3 * i + v) = _
    rw [I1.2.2.2.2.1]; exact F.st i v hiX hv
  refine spec_holds E1.rb E1.hg (by omega) (by omega) (fun hno => ⟨rg_small (by decide), fun _ => ⟨⟨c + 1, by omega, by omega, hv2, s1, E1, n1, o1, c1, by omega, t1, I1.skip (fun he => hno (hhy.mpr (by unfold ene at he; simp at he; exact he.2)))⟩, by dsimp only; omega⟩, fun h => absurd rfl h⟩) (fun hyes => ⟨rg_small (by decide), fun h => absurd h (by decide), fun _ => ⟨by omega, fun M2 e2 M3 e3 => ?_⟩⟩)
  have he : ene Y (X.2 i) c = true := by unfold ene; rw [hhy.mp hyes]; simp at htg; rw [htg]; rfl
  obtain ⟨q, hq⟩ : ∃ q : Nat, M1 349 i = q := ⟨(M1 349 i).toNat, by omega⟩
  have a2 : ∀ a, a ≠ 348 → M2 a = M1 a := fun a ha => by rw [e2]; exact fu_off _ _ _ ha
  have a3 : ∀ a, a ≠ 349 → M3 a = M2 a := fun a ha => by rw [e3]; exact fu_off _ _ _ ha
  rw [hq, show ((10 * (i : Int)) + (q : Int)).toNat = 10 * i + q by omega] at e2
  rw [a2 349 (by decide), hq] at e3
  have rb2 : RB M2 := by rw [e2]; exact E1.rb.u 348 80 0 9 (by decide) _ _ (by omega)
  have rb3 : RB M3 := by rw [e3]; exact rb2.u 349 8 0 10 (by decide) _ _ (by omega)
  have s3 : sv exl [20, 21] M M3 := by rw [e3]; exact (show sv exl [20, 21] M M2 by rw [e2]; exact s1.u (by decide) (by decide)).u (by decide) (by decide)
  have c349 : ∀ j, M3 349 j = if j = i then (q : Int) + 1 else M1 349 j := fun j => by rw [e3, fu_at, a2 349 (by decide)]
  have c348 : ∀ x, M3 348 x = if x = 10 * i + q then (c : Int) else M1 348 x := fun x => by rw [a3 348 (by decide), e2, fu_at]
  have e331 : M3 331 = M1 331 := by rw [a3 331 (by decide), a2 331 (by decide)]
  -- the search stands as before
  have E3 : EX M3 (fun j _ _ => j < i) := by
    have n3 : (Gof M3).n = (Gof M1).n := by show (M3 331 20).toNat = (M1 331 20).toNat; rw [e331]
    refine ⟨rb3, by rw [e331]; exact E1.hg, by rw [e331]; exact E1.hn, fun j k hj hk => ?_, fun j hj htj => ?_, fun j k b hj hk hb hP => ?_⟩
    · rw [n3] at hj
      have hk' : k < (M3 349 j).toNat := hk
      have hj8 : j < 8 := by have := E1.hn; have : (Gof M1).n = (M1 331 20).toNat := rfl; omega
      have hcj := rb3.g 349 8 0 10 (by decide) (x := j) hj8
      rw [c348, e331, g1, a3 335 (by decide), a2 335 (by decide), s1.cell 335 (by decide) (by decide), Int.toNat_natCast]
      by_cases e : 10 * j + k = 10 * i + q
      · rw [if_pos e]; omega
      · rw [if_neg e]
        have := E1.cm j k hj (by
          show k < (M1 349 j).toNat
          rw [c349] at hk'
          by_cases e4 : j = i
          · subst e4; rw [if_pos rfl] at hk'; omega
          · rw [if_neg e4] at hk'; exact hk')
        rw [g1, s1.cell 335 (by decide) (by decide), Int.toNat_natCast] at this; exact this
    · rw [n3] at hj
      rw [a3 346 (by decide), a2 346 (by decide)] at htj
      rw [c349]
      by_cases e : j = i
      · subst e; exact absurd h4 htj
      · rw [if_neg e]; exact E1.tgc j hj htj
    · rw [n3] at hj
      have hji : j ≠ i := by omega
      have hk' : k < (Gof M1).cc j := by
        have : k < (M3 349 j).toNat := hk
        rw [c349, if_neg hji] at this; exact this
      have hj8 : j < 8 := by omega
      have hk10 : k < 10 := by have : k < (M1 349 j).toNat := hk'; have := E1.rb.g 349 8 0 10 (by decide) (x := j) hj8; omega
      have hgi : gi M3 j k = gi M1 j k := by unfold gi; rw [e331, c348, if_neg (by omega)]
      have hb' : b < (Gof M1).nb j k := by
        have : b < (M3 337 (gi M3 j k)).toNat := hb
        rw [hgi, a3 337 (by decide), a2 337 (by decide)] at this; exact this
      rw [a3 350 (by decide), a2 350 (by decide), e331]
      exact E1.to j k b hj hk' hb' hP
  have hm3 : M3 347 i = M1 347 i := by rw [a3 347 (by decide), a2 347 (by decide)]
  have fin : ∀ s0 : Int, (s0 = 0 ∨ s0 = 1) → (s0 = 1 ↔ M1 347 i = 1 ∨ Y.mx c = true) → B_Mo_enable_98 i post thr (fun M'_1 v2' v3' => (∃ c : Nat, v3' = c ∧ (c : Int) ≤ M 335 G ∧ (v2' = 0 ∨ v2' = 1) ∧ sv exl [20, 21] M M'_1 ∧ EX M'_1 (fun j _ _ => j < i) ∧ (Gof M'_1).n = (Gof M).n ∧ (∀ j, j ≠ i → M'_1 349 j = M 349 j) ∧ 0 ≤ M'_1 349 i ∧ M'_1 349 i ≤ c ∧ M'_1 346 = M 346 ∧ enI Y X i M c v2' M'_1) ∧ (10 - v3').toNat < (10 - (c : Int)).toNat) M3 v2 c s0 := by
    intro s0 hs0 hs1
    unfold B_Mo_enable_98
    rw [Int.toNat_natCast]
    refine ⟨by omega, hs0, fun M4 e4 => ?_⟩
    have a4 : ∀ a, a ≠ 347 → M4 a = M3 a := fun a ha => by rw [e4]; exact fu_off _ _ _ ha
    have rb4 : RB M4 := by rw [e4]; exact rb3.u 347 8 0 1 (by decide) _ _ (by omega)
    have E4 : EX M4 (fun j _ _ => j < i) := by
      have hG4 : ∀ j k, gi M4 j k = gi M3 j k := fun j k => by unfold gi; rw [a4 331 (by decide), a4 348 (by decide)]
      have e1 : (Gof M4).n = (Gof M3).n := by show (M4 331 20).toNat = (M3 331 20).toNat; rw [a4 331 (by decide)]
      have e5 : (Gof M4).cc = (Gof M3).cc := by funext j; show (M4 349 j).toNat = (M3 349 j).toNat; rw [a4 349 (by decide)]
      have e6 : (Gof M4).nb = (Gof M3).nb := by funext j k; show (M4 337 _).toNat = (M3 337 _).toNat; rw [a4 337 (by decide), hG4]
      refine ⟨rb4, by rw [a4 331 (by decide)]; exact E3.hg, by rw [a4 331 (by decide)]; exact E3.hn, ?_, ?_, ?_⟩
      · rw [e1, e5, a4 348 (by decide), a4 331 (by decide), a4 335 (by decide)]; exact E3.cm
      · rw [e1, a4 346 (by decide), a4 349 (by decide)]; exact E3.tgc
      · rw [e1, e5, e6, a4 350 (by decide), a4 331 (by decide)]; exact E3.to
    have st : ∀ z : Int, (z = 0 ∨ z = 1) → (z = 1 ↔ v2 = 1 ∨ Y.mx c = false) → (fun M'_1 v2' v3' => (∃ c : Nat, v3' = c ∧ (c : Int) ≤ M 335 G ∧ (v2' = 0 ∨ v2' = 1) ∧ sv exl [20, 21] M M'_1 ∧ EX M'_1 (fun j _ _ => j < i) ∧ (Gof M'_1).n = (Gof M).n ∧ (∀ j, j ≠ i → M'_1 349 j = M 349 j) ∧ 0 ≤ M'_1 349 i ∧ M'_1 349 i ≤ c ∧ M'_1 346 = M 346 ∧ enI Y X i M c v2' M'_1) ∧ (10 - v3').toNat < (10 - (c : Int)).toNat : fm_M → Int → Int → Prop) M4 z ((c : Int) + 1) := fun z hz hz1 => by
      refine ⟨⟨c + 1, by omega, by omega, hz, by rw [e4]; exact s3.u (by decide) (by decide), E4, ?_, fun j hj => ?_, ?_, ?_, ?_, ?_⟩, by omega⟩
      · show (M4 331 20).toNat = _; rw [a4 331 (by decide), e331]; exact n1
      · rw [a4 349 (by decide), c349, if_neg hj]; exact o1 j hj
      · rw [a4 349 (by decide), c349, if_pos rfl]; omega
      · rw [a4 349 (by decide), c349, if_pos rfl]; omega
      · rw [a4 346 (by decide), a3 346 (by decide), a2 346 (by decide)]; exact t1
      · obtain ⟨i1, i2, i3, i4, i5, i6, i7, i8⟩ := I1
        have hqe : q = ec Y (X.2 i) c := by omega
        refine ⟨by rw [a4 349 (by decide), c349, if_pos rfl, ec, if_pos he]; omega, fun c' hc' he' => ?_, ?_, ?_, by rw [a4 345 (by decide), a3 345 (by decide), a2 345 (by decide)]; exact i5, fun j hj => by rw [e4, fu_at, if_neg hj, a3 347 (by decide), a2 347 (by decide)]; exact i6 j hj, fun x hx => by rw [a4 348 (by decide), c348, if_neg (by omega)]; exact i7 x hx, by rw [a4 331 (by decide), e331]; exact i8⟩
        · rw [a4 348 (by decide), c348]
          by_cases e : c' = c
          · rw [if_pos (by rw [e]; omega), e]
          · have := ec_lt (C := c) (by omega) he'
            rw [if_neg (by omega)]; exact i2 c' (by omega) he'
        · rw [exm_and he, e4, fu_at, if_pos rfl, hs1, i3]
        · rw [exm_and he, hz1, i4]
    have hmx := rb4.g 336 20 0 1 (by decide) (x := 10 * G + c) (by omega)
    rw [a4 331 (by decide), e331, g1, show ((10 * (G : Int)) + (c : Int)).toNat = 10 * G + c by omega]
    have hmm : M4 336 (10 * G + c) = if Y.mx c = true then 1 else 0 := by rw [a4 336 (by decide), a3 336 (by decide), a2 336 (by decide), s1.cell 336 (by decide) (by decide)]; exact hy.mx c hcC
    rw [hmm] at hmx ⊢
    exact ⟨rv, fun hv => st 1 (Or.inr rfl) ⟨fun _ => Or.inl (by omega), fun _ => rfl⟩, fun hv => ⟨by omega, rg_small (by omega), fun hm => st 0 (Or.inl rfl) ⟨fun hh => absurd hh (by decide), fun hh => by
      rcases hh with hh | hh
      · omega
      · rw [hh] at hm; exact absurd rfl hm⟩, fun hm => st 1 (Or.inr rfl) ⟨fun _ => Or.inr (by
        cases hh : Y.mx c with
        | false => rfl
        | true => rw [hh, if_pos rfl] at hm; exact absurd hm (by decide)), fun _ => rfl⟩⟩⟩
  have hmx := rb3.g 336 20 0 1 (by decide) (x := 10 * G + c) (by omega)
  rw [hm3, e331, g1, show ((10 * (G : Int)) + (c : Int)).toNat = 10 * G + c by omega]
  have hmm : M3 336 (10 * G + c) = if Y.mx c = true then 1 else 0 := by rw [a3 336 (by decide), a2 336 (by decide), s1.cell 336 (by decide) (by decide)]; exact hy.mx c hcC
  rw [hmm] at hmx ⊢
  exact ⟨rg_small (by omega), fun hv => fin 1 (Or.inr rfl) ⟨fun _ => Or.inl (by omega), fun _ => rfl⟩, fun hv => ⟨by omega, rg_small (by omega), fun hm => fin 0 (Or.inl rfl) ⟨fun hh => absurd hh (by decide), fun hh => by
    rcases hh with hh | hh
    · omega
    · rw [hh, if_pos rfl] at hm; exact absurd hm (by decide)⟩, fun hm => fin 1 (Or.inr rfl) ⟨fun _ => Or.inr (by
      cases hh : Y.mx c with
      | true => rfl
      | false => rw [hh] at hm; exact absurd rfl hm), fun _ => rfl⟩⟩⟩
theorem spec_takeBranch {M : fm_M} (h : RB M) (hg : M 331 6 = 0 ∨ M 331 6 = 1) {i c b : Nat} (hi : i < 8) (hc : c < 10) (hb : b < 4) {post : Int → fm_M → Prop} {thr : String → fm_M → Prop} (hp : ∀ M', ex1 351 M M' → RB M' → (∀ v, v < 3 → M' 351 v = rnx M (M 331 6).toNat c b (rho M i) v) → post 0 M') : wp_Mo_takeBranch M i c b post thr := by
  obtain ⟨G, hG, hG1⟩ : ∃ G : Nat, M 331 6 = G ∧ G ≤ 1 := ⟨(M 331 6).toNat, by omega, by omega⟩
  rw [hG, Int.toNat_natCast] at hp
  refine ⟨fun M' v4 => ∃ v : Nat, v4 = v ∧ v ≤ 3 ∧ ex1 351 M M' ∧ RB M' ∧ ∀ x, x < v → M' 351 x = rnx M G c b (rho M i) x, fun _ v4 => (3 - v4).toNat, ⟨0, rfl, by omega, ex1.rfl, h, fun x hx => by omega⟩, ?_⟩
  rintro M1 v4 ⟨v, rfl, hv, hx, rb, hd⟩
  have e331 : M1 331 = M 331 := hx 331 (by decide)
  unfold C_Mo_takeBranch_3
  refine ⟨rg_small (by omega), fun h4 => hp M1 hx rb (fun x hx => hd x (by omega)), fun h3 => ?_⟩
  unfold wp_Mo_updateAt
  rw [e331, hG]
  obtain ⟨u, hu⟩ : ∃ u : Nat, u = 208 * G + 88 + 12 * c + 3 * b + v := ⟨_, rfl⟩
  have eu : ((((208 * (G : Int)) + 88) + (12 * (c : Int))) + (3 * (b : Int))) + (v : Int) = (u : Int) := by omega
  rw [eu, Int.toNat_natCast]
  have hit := rb.g 342 416 0 4 (by decide) (x := u) (by omega)
  have hmo := rb.g 333 6 0 9 (by decide) (x := 3 * G + v) (by omega)
  have es : ∀ a, 333 ≤ a → a ≤ 344 → M1 a = M a := fun a _ _ => hx a (by omega)
  have er : rho M1 i = rho M i := by funext x; unfold rho; rw [hx 345 (by decide)]
  have put : ∀ s0 : Int, 0 ≤ s0 ∧ s0 ≤ 9 → s0 = rnx M G c b (rho M i) v → B_Mo_takeBranch_110 i c b post thr (fun M'_1 v4' => (∃ v : Nat, v4' = v ∧ v ≤ 3 ∧ ex1 351 M M'_1 ∧ RB M'_1 ∧ ∀ x, x < v → M'_1 351 x = rnx M G c b (rho M i) x) ∧ (3 - v4').toNat < (3 - (v : Int)).toNat) M1 v s0 v := fun s0 hs0 hs2 => ⟨by omega, fun M2 e2 => ⟨⟨v + 1, by omega, by omega, by rw [e2]; exact hx.u, by rw [e2]; exact rb.u 351 3 0 9 (by decide) _ _ hs0, fun x hx' => by
    rw [e2, fu_at, Int.toNat_natCast]
    by_cases e : x = v
    · rw [if_pos e, hs2, e]
    · rw [if_neg e]; exact hd x (by omega)⟩, by omega⟩⟩
  have fin : ∀ s0 : Int, (-400 ≤ s0 ∧ s0 ≤ 400) → ((0 < M1 342 u ∧ s0 = rsu M u (rho M i)) ∨ (M1 342 u ≤ 0 ∧ s0 = rho M i v ∧ 0 ≤ s0 ∧ s0 ≤ 9)) → B_Mo_takeBranch_53 i c b post thr (fun M'_1 v4' => (∃ v : Nat, v4' = v ∧ v ≤ 3 ∧ ex1 351 M M'_1 ∧ RB M'_1 ∧ ∀ x, x < v → M'_1 351 x = rnx M G c b (rho M i) x) ∧ (3 - v4').toNat < (3 - (v : Int)).toNat) M1 v u s0 := by
    intro s0 hs0 hs1
    have e342 : M1 342 u = M 342 u := by rw [hx 342 (by decide)]
    have e333 : M1 333 (3 * G + v) = M 333 (3 * G + v) := by rw [hx 333 (by decide)]
    have val : (s0 ≤ M1 333 (3 * G + v) ∨ M1 342 u ≤ 0) → rnx M G c b (rho M i) v = if 0 ≤ s0 then s0 else 0 := fun hor => by
      unfold rnx; rw [← hu, ← e342, ← e333]
      rcases hs1 with ⟨h1, h2⟩ | ⟨h1, h2, h3⟩
      · rw [if_pos h1, ← h2]; unfold clp; rw [if_neg (by omega)]
        by_cases e : s0 < 0
        · rw [if_pos e, if_neg (by omega)]
        · rw [if_neg e, if_pos (by omega)]
      · rw [if_neg (by omega), if_pos h3.1, h2]
    have e9 : (s0 ≤ M1 333 (3 * G + v) ∨ M1 342 u ≤ 0) → B_Mo_takeBranch_99 i c b post thr (fun M'_1 v4' => (∃ v : Nat, v4' = v ∧ v ≤ 3 ∧ ex1 351 M M'_1 ∧ RB M'_1 ∧ ∀ x, x < v → M'_1 351 x = rnx M G c b (rho M i) x) ∧ (3 - v4').toNat < (3 - (v : Int)).toNat) M1 v s0 v := fun h9 => ⟨rg_small (by omega), fun h0 => put s0 (by omega) (by rw [val h9, if_pos h0]), fun h0 => put 0 (by omega) (by rw [val h9, if_neg h0])⟩
    unfold B_Mo_takeBranch_53
    rw [e331, hG, Int.toNat_natCast, show ((3 * (G : Int)) + (v : Int)).toNat = 3 * G + v by omega]
    refine ⟨by omega, rg_small (by omega), rg_small (by omega), fun h5 => e9 (Or.inl h5), fun h5 => ⟨by omega, rg_small (by omega), fun h6 => e9 (Or.inr h6), fun h6 => put _ hmo ?_⟩⟩
    unfold rnx; rw [← hu, ← e342, ← e333, if_pos (by omega)]
    rcases hs1 with ⟨h1, h2⟩ | ⟨h1, _⟩
    · rw [← h2]; unfold clp; rw [if_pos (by omega)]
    · omega
  refine ⟨by omega, rg_small (by omega), fun h5 => ⟨by omega, fin _ ?_ (Or.inr ⟨h5, ?_, ?_⟩)⟩, fun h5 => spec_sumIn rb (by omega) hi (fun r hr er2 => fin r hr (Or.inl ⟨by omega, ?_⟩))⟩
  · have := rb.g 345 24 0 9 (by decide) (x := (3 * (i : Int) + (v : Int)).toNat) (by omega); omega
  · rw [← er]; show M1 345 _ = M1 345 _; congr 1
  · have := rb.g 345 24 0 9 (by decide) (x := (3 * (i : Int) + (v : Int)).toNat) (by omega); omega
  · rw [er2, er]; exact rsu_same es _ _
end Pu_N
section Pu_O
def Pf (i k b : Nat) : Nat → Nat → Nat → Prop := fun j k' b' => j < i ∨ (j = i ∧ (k' < k ∨ (k' = k ∧ b' < b)))
theorem EX.lead {M : fm_M} {P Q : Nat → Nat → Nat → Prop} (h : EX M P) {x : Nat} {r : Int} (hr : 0 ≤ r ∧ r < M 331 20) (hQ : ∀ j k b, j < (Gof M).n → k < (Gof M).cc j → b < (Gof M).nb j k → Q j k b → P j k b ∨ 40 * j + 4 * k + b = x) : EX (fm_u M 350 x r) Q := by
  have hn := h.hn
  have e : ∀ a, a ≠ 350 → fm_u M 350 x r a = M a := fun a ha => fu_off _ _ _ ha
  have en : (Gof (fm_u M 350 x r)).n = (Gof M).n := by show (fm_u M 350 x r 331 20).toNat = (M 331 20).toNat; rw [e 331 (by decide)]
  have ec : (Gof (fm_u M 350 x r)).cc = (Gof M).cc := by funext i; show (fm_u M 350 x r 349 i).toNat = (M 349 i).toNat; rw [e 349 (by decide)]
  have eb : (Gof (fm_u M 350 x r)).nb = (Gof M).nb := by
    funext i k; show (fm_u M 350 x r 337 (gi (fm_u M 350 x r) i k)).toNat = (M 337 (gi M i k)).toNat
    unfold gi; rw [e 337 (by decide), e 331 (by decide), e 348 (by decide)]
  refine ⟨h.rb.u 350 320 (-1) 7 (by decide) _ _ (by omega), by rw [e 331 (by decide)]; exact h.hg, by rw [e 331 (by decide)]; exact hn, ?_, ?_, fun j k b hj hk hb hq => ?_⟩
  · rw [en, ec, e 348 (by decide), e 335 (by decide), e 331 (by decide)]; exact h.cm
  · rw [en, e 346 (by decide), e 349 (by decide)]; exact h.tgc
  · rw [en] at hj; rw [ec] at hk; rw [eb] at hb
    rw [fu_at, e 331 (by decide)]
    by_cases e2 : 40 * j + 4 * k + b = x
    · rw [if_pos e2]; exact hr
    · rw [if_neg e2]
      rcases hQ j k b hj hk hb hq with h2 | h2
      · exact h.to j k b hj hk hb h2
      · exact absurd h2 e2
/-- on the way of follow -/
def FW (M M' : fm_M) (i : Nat) : Prop :=
  (sv exl [20, 21] M M') ∧
  ((Gof M).n ≤ (Gof M').n) ∧
  (M' 348 = M 348) ∧
  (∀ j, j < (Gof M).n → M' 349 j = M 349 j) ∧
  (∀ j, i < j → j < (Gof M').n → M' 349 j = 0) ∧
  (M' 331 21 = M 331 21)
theorem FW.s {M M' : fm_M} {i : Nat} (h_ : FW M M' i) : sv exl [20, 21] M M' := h_.1
theorem FW.n {M M' : fm_M} {i : Nat} (h_ : FW M M' i) : (Gof M).n ≤ (Gof M').n := h_.2.1
theorem FW.c348 {M M' : fm_M} {i : Nat} (h_ : FW M M' i) : M' 348 = M 348 := h_.2.2.1
theorem FW.c349 {M M' : fm_M} {i : Nat} (h_ : FW M M' i) : ∀ j, j < (Gof M).n → M' 349 j = M 349 j := h_.2.2.2.1
theorem FW.z {M M' : fm_M} {i : Nat} (h_ : FW M M' i) : ∀ j, i < j → j < (Gof M').n → M' 349 j = 0 := h_.2.2.2.2.1
theorem FW.x21 {M M' : fm_M} {i : Nat} (h_ : FW M M' i) : M' 331 21 = M 331 21 := h_.2.2.2.2.2
theorem FW.grow {M M1 M2 : fm_M} {i : Nat} (h : FW M M1 i) (hn : 0 ≤ M1 331 20) (s : sv exl [20, 21] M1 M2) (o : old (Gof M1).n M1 M2) (hx : M2 331 21 = M1 331 21) (hn2 : M2 331 20 = M1 331 20 ∨ (M2 331 20 = M1 331 20 + 1 ∧ M2 349 (Gof M1).n = 0)) : FW M M2 i := by
  have e1 : (Gof M1).n = (M1 331 20).toNat := rfl
  have e2 : (Gof M2).n = (M2 331 20).toNat := rfl
  have hnn := h.n
  refine ⟨h.s.tr s, by omega, by rw [o.c348]; exact h.c348, fun j hj => by rw [o.c349 j (by omega)]; exact h.c349 j hj, fun j h1 h2 => ?_, by rw [hx]; exact h.x21⟩
  by_cases e : j < (Gof M1).n
  · rw [o.c349 j e]; exact h.z j h1 e
  · rcases hn2 with e3 | ⟨e3, e4⟩
    · omega
    · rw [show j = (Gof M1).n by omega]; exact e4
theorem rnx_c {M : fm_M} (h : RB M) {G c b v : Nat} (hG : G ≤ 1) (hc : c < 10) (hb : b < 4) (hv : v < 3) {r r' : Nat → Int} (e : ∀ v, v < 3 → r v = r' v) : rnx M G c b r v = rnx M G c b r' v := by
  unfold rnx; rw [rsu_c h (by omega) e, e v hv]
theorem RF.same {Y : Ga} {X : Xs} {lk : Nat} {M M' : fm_M} (h : RF Y X lk M) (e20 : M' 331 20 = M 331 20) (e : ∀ a, 345 ≤ a → a ≤ 349 → M' a = M a) : RF Y X lk M' := by
  refine ⟨by rw [e20]; exact h.n, h.n8, h.ok, by rw [e 345 (by omega) (by omega)]; exact h.st, by rw [e 346 (by omega) (by omega)]; exact h.tg, by rw [e 349 (by omega) (by omega)]; exact h.cn, by rw [e 348 (by omega) (by omega)]; exact h.ch, by rw [e 347 (by omega) (by omega)]; exact h.mx, by rw [e 349 (by omega) (by omega), e 347 (by omega) (by omega)]; exact h.z⟩
theorem isn_of {Y : Ga} {X : Xs} {lk : Nat} {M : fm_M} (F : RF Y X lk M) {s : Nat → Int} (hs : ∀ v, v < 3 → M 351 v = s v) (j : Nat) (hj : j < X.1) : sme (rho M j) (M 351) ↔ sme (X.2 j) s := by
  have a0 : rho M j 0 = X.2 j 0 := F.st j 0 hj (by omega)
  have a1 : rho M j 1 = X.2 j 1 := F.st j 1 hj (by omega)
  have a2 : rho M j 2 = X.2 j 2 := F.st j 2 hj (by omega)
  unfold sme
  rw [a0, a1, a2, hs 0 (by omega), hs 1 (by omega), hs 2 (by omega)]
theorem f_find {M : fm_M} (h : RB M) (hg : M 331 6 = 0 ∨ M 331 6 = 1) {Y : Ga} {X : Xs} {lk : Nat} (hy : RY Y (M 331 6).toNat M) (F : RF Y X lk M) (hl : lk ≤ X.1) {s : Nat → Int} (hs : ∀ v, v < 3 → M 351 v = s v) (hok : okr Y s) {post : Int → fm_M → Prop} {thr : String → fm_M → Prop}
    (h0 : ins X s = (X, false) → post (-1) M) (h1 : ∀ i : Nat, (i : Int) < M 331 20 → ins X s = (X, true) → post i M) (h2 : ∀ M', ins X s = (Xad X s, true) → RF Y (Xad X s) lk M' → sv [345, 346, 347, 349, 350] [20] M M' → old (Gof M).n M M' → RB M' → M' 331 20 = M 331 20 + 1 → M' 331 20 ≤ 8 → M' 349 (Gof M).n = 0 → post (M 331 20) M') : wp_Mo_find M post thr := by
  have hn := F.n
  have h8 := F.n8
  have en : (Gof M).n = X.1 := by show (M 331 20).toNat = _; omega
  have hG : (M 331 6).toNat ≤ 1 := by omega
  have nis : (∀ j : Nat, (j : Int) < M 331 20 → ¬ sme (rho M j) (M 351)) → ¬ isn X s := fun hh ⟨j, hj, e⟩ => hh j (by omega) ((isn_of F hs j hj).mpr e)
  refine spec_find h hg (by omega) (fun e hh => h0 ?_) (fun i hi e => h1 i hi ?_) (fun M' hh w s' o' rb' e' l' z' => h2 M' ?_ ?_ s' o' rb' e' l' z')
  · unfold ins; rw [if_neg (nis hh), if_pos (by omega)]
  · unfold ins; rw [if_pos ⟨i, by omega, (isn_of F hs i (by omega)).mp e⟩]
  · unfold ins; rw [if_neg (nis hh), if_neg (by omega)]
  · obtain ⟨w1, w2, w3, w4⟩ := w
    rw [en] at w1 w2 w3 w4 z' o'
    have hX : ∀ j, j < X.1 → (Xad X s).2 j = X.2 j := fun j hj => by show (if j = X.1 then s else X.2 j) = _; rw [if_neg (by omega)]
    have hXn : (Xad X s).2 X.1 = s := by show (if X.1 = X.1 then s else X.2 X.1) = _; rw [if_pos rfl]
    have hX1 : (Xad X s).1 = X.1 + 1 := rfl
    have hrt : rhol M (M 331 6).toNat 10 (M 351) ↔ Y.tg s = true := (rhol_c h hG (by omega) hs).trans (hy.tg s hok)
    refine ⟨by rw [e', hn, hX1]; omega, by rw [hX1]; omega, fun j hj => ?_, fun j v hj hv => ?_, fun j hj => ?_, fun j hj hjl => ?_, fun j hj hjl c hc he => ?_, fun j hj hjl => ?_, fun j hj hjl => ?_⟩
    · by_cases e : j = X.1
      · rw [e, hXn]; exact hok
      · rw [hX j (by omega)]; exact F.ok j (by omega)
    · by_cases e : j = X.1
      · rw [e, hXn, w2 v hv]; exact hs v hv
      · rw [hX j (by omega), w1 j v (by omega) hv]; exact F.st j v (by omega) hv
    · by_cases e : j = X.1
      · rw [e, hXn]
        rcases w3 with ⟨a, b⟩ | ⟨a, b⟩
        · rw [a, if_neg (fun hh => b (hrt.mpr hh))]
        · rw [a, if_pos (hrt.mp b)]
      · rw [hX j (by omega), o'.c346 j (by omega)]; exact F.tg j (by omega)
    · rw [hX j (by omega), o'.c349 j (by omega)]; exact F.cn j (by omega) hjl
    · rw [hX j (by omega)] at he ⊢
      rw [o'.c348]; exact F.ch j (by omega) hjl c hc he
    · rw [hX j (by omega), o'.c347 j (by omega)]; exact F.mx j (by omega) hjl
    · by_cases e : j = X.1
      · rw [e]; exact ⟨z', w4⟩
      · rw [o'.c349 j (by omega), o'.c347 j (by omega)]; exact F.z j (by omega) hjl
/-- what follows when a command's branches are through -/
def cont (Y : Ga) (r : Nat → Int) (f c : Nat) (Z : Xs × Bool) : Xs × Bool := if Z.2 = true then goC Y r f c Z.1 else Z
theorem spec_follow {M : fm_M} {i : Nat} {Y : Ga} {X : Xs} (hy : RY Y (M 331 6).toNat M) (RF0 : RF Y X (i + 1) M) (h : EX M (fun j _ _ => j < i)) (hi : i < (Gof M).n) (hz : ∀ j, i < j → j < (Gof M).n → M 349 j = 0) {post : Int → fm_M → Prop} {thr : String → fm_M → Prop}
    (h1 : ∀ M', (goC Y (X.2 i) Y.C 0 X).2 = true → RF Y (goC Y (X.2 i) Y.C 0 X).1 (i + 1) M' → FW M M' i → EX M' (fun j _ _ => j < i + 1) → post 1 M') (h0 : ∀ M', ¬ (goC Y (X.2 i) Y.C 0 X).2 = true → RF Y (goC Y (X.2 i) Y.C 0 X).1 (i + 1) M' → FW M M' i → EX M' (fun j _ _ => j < i) → post 0 M') : wp_Mo_follow M i post thr := by
  have hn := h.hn
  have en : (Gof M).n = (M 331 20).toNat := rfl
  have h8 : i < 8 := by omega
  have hcc := h.rb.g 349 8 0 10 (by decide) h8
  have ecc : (Gof M).cc i = (M 349 i).toNat := rfl
  have hcce : M 349 i = ((Gof M).cc i : Nat) := by omega
  have hnX := RF0.n
  have hiX : i < X.1 := by omega
  obtain ⟨G, hG, hG1⟩ : ∃ G : Nat, M 331 6 = G ∧ G ≤ 1 := ⟨(M 331 6).toNat, by have := h.hg; omega, by have := h.hg; omega⟩
  rw [hG, Int.toNat_natCast] at hy
  have hC10 := hy.w.c10
  have hokr := RF0.ok i hiX
  have hcn := RF0.cn i hiX (by omega)
  have hch0 := RF0.ch i hiX (by omega)
  generalize hr : X.2 i = r at h1 h0 hokr hcn hch0
  generalize hR : goC Y r Y.C 0 X = R at h1 h0
  refine ⟨fun M' v2 => ∃ k : Nat, v2 = k ∧ k ≤ (Gof M).cc i ∧ FW M M' i ∧ EX M' (Pf i k 0) ∧ ∃ (c : Nat) (X' : Xs), ec Y r c = k ∧ c ≤ Y.C ∧ goC Y r (Y.C - c) c X' = R ∧ RF Y X' (i + 1) M' ∧ i < X'.1 ∧ X'.2 i = r, fun _ v2 => (((Gof M).cc i : Int) - v2).toNat, ⟨0, rfl, by omega, ⟨sv.refl, Nat.le_refl _, rfl, fun _ _ => rfl, hz, rfl⟩, h.mono (fun j k b hP => ?_), 0, X, rfl, by omega, hR, RF0, hiX, hr⟩, ?_⟩
  · rcases hP with hP | ⟨_, hP | ⟨_, hP⟩⟩
    · exact hP
    · omega
    · omega
  rintro M1 v2 ⟨k, rfl, hk, F1, E1, cc, X1, hec, hccC, hgo, RF1, hiX1, hrX1⟩
  have fin3 : (((Gof M).cc i : Nat) : Int) ≤ (k : Int) → R = (X1, true) := fun h3 => by
    rw [← hgo]; exact goC_end (C := Y.C) _ _ (by omega) (by omega)
  unfold C_Mo_follow_2
  rw [Int.toNat_natCast, F1.c349 i hi, hcce]
  refine ⟨by omega, rg_small (by omega), rg_small (by omega), fun h3 => h1 M1 (by rw [fin3 h3]) (by rw [fin3 h3]; exact RF1) F1 ?_, fun h3 => ?_⟩
  · have : k = (Gof M).cc i := by omega
    subst this
    refine ⟨E1.rb, E1.hg, E1.hn, E1.cm, E1.tgc, fun j k b hj hk hb hP => E1.to j k b hj hk hb ?_⟩
    by_cases e : j < i
    · exact Or.inl e
    · refine Or.inr ⟨by omega, Or.inl ?_⟩
      have : k < (M1 349 j).toNat := hk
      rw [show j = i by omega, F1.c349 i hi] at this; omega
  · have hk' : k < (Gof M).cc i := by omega
    rw [show ((10 * (i : Int)) + (k : Int)).toNat = 10 * i + k by omega, F1.c348]
    have hch := h.rb.g 348 80 0 9 (by decide) (x := 10 * i + k) (by omega)
    obtain ⟨c, hc⟩ : ∃ c : Nat, M 348 (10 * i + k) = c := ⟨(M 348 (10 * i + k)).toNat, by omega⟩
    obtain ⟨c', hc1, hc2, hc3, hc4, hc5⟩ := goC_skip (Y := Y) (r := r) (X := X1) (C := Y.C) (k := k) (Y.C - cc) cc (by omega) hec (by omega)
    have hcc' : c = c' := by
      have := hch0 c' hc2 hc3
      rw [hc4, hc] at this; omega
    subst hcc'
    rw [hgo] at hc5
    have hbr := h.rb.g 337 20 0 4 (by decide) (x := 10 * G + c) (by omega)
    have hgi : gi M i k = 10 * G + c := by unfold gi; rw [hG, hc]; omega
    obtain ⟨B, hB⟩ : ∃ B : Nat, M 337 (10 * G + c) = B := ⟨(M 337 (10 * G + c)).toNat, by omega⟩
    have hnb : (Gof M).nb i k = B := by show (M 337 (gi M i k)).toNat = B; rw [hgi, hB]; rfl
    have hBY : B = Y.nb c := by have := hy.nb c hc2; omega
    rw [hc]
    refine ⟨by omega, ⟨fun M' v2 v3 v4 => v2 = k ∧ v3 = c ∧ ∃ b : Nat, v4 = b ∧ b ≤ B ∧ FW M M' i ∧ EX M' (Pf i k b) ∧ ∃ X' : Xs, cont Y r (Y.C - (c + 1)) (c + 1) (goB Y c r (B - b) b X') = R ∧ RF Y X' (i + 1) M' ∧ i < X'.1 ∧ X'.2 i = r, fun _ _ _ v4 => ((B : Int) - v4).toNat, ⟨rfl, rfl, 0, rfl, by omega, F1, E1, X1, ?_, RF1, hiX1, hrX1⟩, ?_⟩⟩
    · rw [hc5, show Y.C - c = (Y.C - (c + 1)) + 1 by omega, goC, if_pos hc3, hBY]; rfl
    rintro M2 v2 v3 v4 ⟨rfl, rfl, b, rfl, hb, F2, E2, X2, hgo2, RF2, hiX2, hrX2⟩
    unfold C_Mo_follow_27
    rw [F2.s.slot 6 (by decide), hG, show ((10 * (G : Int)) + (c : Int)).toNat = 10 * G + c by omega, F2.s.cell 337 (by decide) (by decide), hB]
    refine ⟨by omega, rg_small (by omega), rg_small (by omega), fun h4 => ⟨⟨k + 1, by omega, by omega, F2, ?_, c + 1, X2, by rw [ec, if_pos hc3]; omega, by omega, by rw [show B - b = 0 by omega, goB] at hgo2; rw [← hgo2]; unfold cont; rw [if_pos rfl], RF2, hiX2, hrX2⟩, by dsimp only; omega⟩, fun h4 => ?_⟩
    · have : b = B := by omega
      subst this
      refine ⟨E2.rb, E2.hg, E2.hn, E2.cm, E2.tgc, fun j k' b' hj hk hb' hP => E2.to j k' b' hj hk hb' ?_⟩
      rcases hP with hP | ⟨e, hP | ⟨_, hP⟩⟩
      · exact Or.inl hP
      · refine Or.inr ⟨e, ?_⟩
        by_cases e2 : k' < k
        · exact Or.inl e2
        · refine Or.inr ⟨by omega, ?_⟩
          have : b' < (M2 337 (gi M2 j k')).toNat := hb'
          have e3 : gi M2 j k' = gi M i k := by unfold gi; rw [F2.s.slot 6 (by decide), F2.c348, e, show k' = k by omega]
          rw [e3, F2.s.cell 337 (by decide) (by decide), hgi, hB] at this; omega
      · omega
    · refine spec_takeBranch E2.rb E2.hg h8 (by omega) (by omega) (fun M3 hx3 rb3 nx3 => ?_)
      have s3 : sv exl [20, 21] M2 M3 := sv.ofx hx3 (by decide) (by decide)
      have o3 : old (Gof M2).n M2 M3 := ⟨fun j _ => by rw [hx3 346 (by decide)], fun j _ => by rw [hx3 347 (by decide)], fun j _ => by rw [hx3 349 (by decide)], by rw [hx3 348 (by decide)], fun x _ => by rw [hx3 350 (by decide)]⟩
      have e20 : M3 331 20 = M2 331 20 := by rw [hx3 331 (by decide)]
      have E3 : EX M3 (Pf i k b) := E2.grow s3 o3 rb3 (Or.inl e20)
      have F3 : FW M M3 i := F2.grow E2.hn.1 s3 o3 (by rw [hx3 331 (by decide)]) (Or.inl e20)
      have hni : i < (Gof M3).n := by have := F3.n; omega
      have g2 : M2 331 6 = G := by rw [F2.s.slot 6 (by decide)]; exact hG
      have g3 : M3 331 6 = G := by rw [hx3 331 (by decide)]; exact g2
      have hy2 : RY Y G M2 := hy.same (fun a h1 h2 => F2.s.cell a (by simp; omega) (by omega))
      have hy3 : RY Y (M3 331 6).toNat M3 := by rw [g3, Int.toNat_natCast]; exact hy2.same (fun a h1 h2 => hx3 a (by omega))
      have RF3 : RF Y X2 (i + 1) M3 := RF2.same e20 (fun a h1 h2 => hx3 a (by omega))
      have hs3 : ∀ v, v < 3 → M3 351 v = Y.nx c b r v := fun v hv => by
        rw [nx3 v hv, g2, Int.toNat_natCast, rnx_c E2.rb hG1 (by omega) (by omega) hv (r' := r) (fun w hw => by rw [← hrX2]; exact RF2.st i w hiX2 hw)]
        exact hy2.nx c b hc2 (by omega) r hokr v hv
      have hgs : goB Y c r (B - b) b X2 = if (ins X2 (Y.nx c b r)).2 = true then goB Y c r (B - (b + 1)) (b + 1) (ins X2 (Y.nx c b r)).1 else ins X2 (Y.nx c b r) := by rw [show B - b = (B - (b + 1)) + 1 by omega, goB]
      -- the end of the branch is known
      have put : ∀ (M4 : fm_M) (X4 : Xs) (r' : Int), FW M M4 i → EX M4 (Pf i k b) → 0 ≤ r' ∧ r' < M4 331 20 → ins X2 (Y.nx c b r) = (X4, true) → RF Y X4 (i + 1) M4 → i < X4.1 → X4.2 i = r → (0 ≤ (((40 * (i : Int)) + (4 * (k : Int))) + (b : Int)) ∧ (((40 * (i : Int)) + (4 * (k : Int))) + (b : Int)) < 320) ∧ ∀ M56 : fm_M, M56 = fm_u M4 350 (((40 * (i : Int)) + (4 * (k : Int))) + (b : Int)).toNat r' → ((k : Int) = k ∧ (c : Int) = c ∧ ∃ b_1 : Nat, ((b : Int) + 1) = b_1 ∧ b_1 ≤ B ∧ FW M M56 i ∧ EX M56 (Pf i k b_1) ∧ ∃ X' : Xs, cont Y r (Y.C - (c + 1)) (c + 1) (goB Y c r (B - b_1) b_1 X') = R ∧ RF Y X' (i + 1) M56 ∧ i < X'.1 ∧ X'.2 i = r) ∧ ((B : Int) - ((b : Int) + 1)).toNat < ((B : Int) - (b : Int)).toNat := by
        intro M4 X4 r' F4 E4 hr hi4 RF4 hiX4 hrX4
        refine ⟨by omega, fun M5 e5 => ⟨⟨rfl, rfl, b + 1, by omega, by omega, ?_, ?_, X4, ?_, ?_, hiX4, hrX4⟩, by omega⟩⟩
        · have e : ∀ a, a ≠ 350 → M5 a = M4 a := fun a ha => by rw [e5]; exact fu_off _ _ _ ha
          have e2 : (Gof M5).n = (Gof M4).n := by show (M5 331 20).toNat = (M4 331 20).toNat; rw [e 331 (by decide)]
          exact ⟨by rw [e5]; exact F4.s.u (by decide) (by decide), by rw [e2]; exact F4.n, by rw [e 348 (by decide)]; exact F4.c348, by rw [e 349 (by decide)]; exact F4.c349, by rw [e2, e 349 (by decide)]; exact F4.z, by rw [e 331 (by decide)]; exact F4.x21⟩
        · rw [e5, show ((40 * (i : Int)) + (4 * (k : Int)) + (b : Int)).toNat = 40 * i + 4 * k + b by omega]
          refine E4.lead hr (fun j k' b' _ _ _ hP => ?_)
          rcases hP with hP | ⟨e, hP | ⟨e2, hP⟩⟩
          · exact Or.inl (Or.inl hP)
          · exact Or.inl (Or.inr ⟨e, Or.inl hP⟩)
          · by_cases e3 : b' = b
            · exact Or.inr (by omega)
            · exact Or.inl (Or.inr ⟨e, Or.inr ⟨e2, by omega⟩⟩)
        · rw [hgs, hi4, if_pos rfl] at hgo2; exact hgo2
        · exact RF4.same (by rw [e5, fu_off _ _ _ (by decide)]) (fun a h1 h2 => by rw [e5, fu_off _ _ _ (by omega)])
      refine f_find E3.rb E3.hg hy3 RF3 (by omega) hs3 (hy.w.okn c b r hokr) (fun hi4 => ⟨rg_small (by decide), fun h => absurd h (by decide), fun _ => ?_⟩) (fun r' hr' hi4 => ⟨rg_small (by have := E3.hn; omega), fun _ => put M3 X2 r' F3 E3 (by omega) hi4 RF3 hiX2 hrX2, fun h => by omega⟩) (fun M4 hi4 RF4 s4 o4 rb4 e4 l4 z4 => ?_)
      · have hff : ¬ ((X2, false) : Xs × Bool).2 = true := Bool.false_ne_true
        rw [hgs, hi4, if_neg hff] at hgo2
        unfold cont at hgo2
        rw [if_neg hff] at hgo2
        exact h0 M3 (by rw [← hgo2]; exact hff) (by rw [← hgo2]; exact RF3) F3 (E3.mono (fun _ _ _ hP => Or.inl hP))
      have s4' : sv exl [20, 21] M3 M4 := s4.mono (by decide) (by decide)
      have E4 : EX M4 (Pf i k b) := E3.grow s4' o4 rb4 (Or.inr ⟨e4, l4, z4⟩)
      have F4 : FW M M4 i := F3.grow E3.hn.1 s4' o4 (s4.slot 21 (by decide)) (Or.inr ⟨e4, z4⟩)
      have hh := E3.hn
      exact ⟨rg_small (by omega), fun _ => put M4 (Xad X2 (Y.nx c b r)) _ F4 E4 (by omega) hi4 RF4 (by show i < X2.1 + 1; omega) (by show (if i = X2.1 then Y.nx c b r else X2.2 i) = r; rw [if_neg (by omega)]; exact hrX2), fun h => by omega⟩
/-- a game that was read, in its place -/
def gwf (M : fm_M) : Prop := ∀ c : Nat, (c : Int) < M 335 (M 331 6).toNat → 1 ≤ M 337 (10 * (M 331 6).toNat + c) ∧ (∀ b : Nat, (b : Int) < M 337 (10 * (M 331 6).toNat + c) → 1 ≤ M 339 (4 * (10 * (M 331 6).toNat + c) + b)) ∧ M 338 (10 * (M 331 6).toNat + c) = sm (M 337 (10 * (M 331 6).toNat + c)).toNat (fun b => M 339 (4 * (10 * (M 331 6).toNat + c) + b))
theorem EX.gw {M : fm_M} (h : EX M (fun j _ _ => j < (Gof M).n)) (g : gwf M) : GW M := by
  have hn := h.hn
  have en : (Gof M).n = (M 331 20).toNat := rfl
  obtain ⟨G, hG, hG1⟩ : ∃ G : Nat, M 331 6 = G ∧ G ≤ 1 := ⟨(M 331 6).toNat, by have := h.hg; omega, by have := h.hg; omega⟩
  have hcc : ∀ i, i < (Gof M).n → 0 ≤ M 349 i ∧ M 349 i ≤ 10 := fun i hi => h.rb.g 349 8 0 10 (by decide) (by omega)
  have ecc : ∀ i, (Gof M).cc i = (M 349 i).toNat := fun _ => rfl
  -- a choice is a command
  have key : ∀ i k, i < (Gof M).n → k < (Gof M).cc i → ∃ c : Nat, M 348 (10 * i + k) = c ∧ c < 10 ∧ gi M i k = 10 * G + c ∧ (c : Int) < M 335 G := fun i k hi hk => by
    have h1 := hcc i hi
    have h2 := h.rb.g 348 80 0 9 (by decide) (x := 10 * i + k) (by rw [ecc] at hk; omega)
    have h3 := h.cm i k hi hk
    rw [hG, Int.toNat_natCast] at h3
    exact ⟨(M 348 (10 * i + k)).toNat, by omega, by omega, by unfold gi; rw [hG]; omega, by omega⟩
  unfold gwf at g
  rw [hG, Int.toNat_natCast] at g
  have hnb : ∀ i k, (Gof M).nb i k = (M 337 (gi M i k)).toNat := fun _ _ => rfl
  refine ⟨hn, by omega, hcc, fun i hi => ?_, fun i hi => ?_, fun i k hi hk => ?_, fun i k hi hk => ?_, fun i k b hi hk hb => ?_, fun i k hi hk => ?_, fun i k b hi hk hb => h.to i k b hi hk hb hi, h.tgc⟩
  · have := h.rb.g 346 8 0 1 (by decide) (x := i) (by omega); omega
  · have := h.rb.g 347 8 0 1 (by decide) (x := i) (by omega); omega
  · obtain ⟨c, e, h1, _⟩ := key i k hi hk; omega
  · obtain ⟨c, e, h1, e2, h2⟩ := key i k hi hk
    rw [e2]
    have := h.rb.g 337 20 0 4 (by decide) (x := 10 * G + c) (by omega)
    exact ⟨(g c h2).1, this.2⟩
  · obtain ⟨c, e, h1, e2, h2⟩ := key i k hi hk
    rw [hnb, e2] at hb
    have h3 := h.rb.g 337 20 0 4 (by decide) (x := 10 * G + c) (by omega)
    have h4 := h.rb.g 339 80 0 6 (by decide) (x := 4 * (10 * G + c) + b) (by omega)
    rw [e2]
    exact ⟨(g c h2).2.1 b (by omega), h4.2⟩
  · obtain ⟨c, e, h1, e2, h2⟩ := key i k hi hk
    have h3 := h.rb.g 338 20 0 6 (by decide) (x := 10 * G + c) (by omega)
    have h4 : (Gof M).wo i k = sm (M 337 (10 * G + c)).toNat (fun b => M 339 (4 * (10 * G + c) + b)) := by
      show sm (M 337 (gi M i k)).toNat (fun b => M 339 (4 * gi M i k + b)) = _; rw [e2]
    rw [h4, e2]
    exact ⟨(g c h2).2.2, h3.2⟩
/-- between the calls, while a game is there -/
def EX0 (M : fm_M) : Prop := EX M (fun _ _ _ => False)
/-- what the search has come to -/
def RR (Y : Ga) (r : Int) (M : fm_M) : Prop := RF Y (SR Y).1 (SR Y).2.1 M ∧ M 331 21 = (SR Y).2.2.1 ∧ r = (SR Y).2.2.2
theorem spec_explore {M : fm_M} (h : RB M) (hg : M 331 6 = 0 ∨ M 331 6 = 1) {Y : Ga} (hy : RY Y (M 331 6).toNat M) {post : Int → fm_M → Prop} {thr : String → fm_M → Prop}
    (hp : ∀ r M', r < 0 ∧ -10 ≤ r → RR Y r M' → sv exl [20, 21] M M' → EX0 M' → post r M') (hq : ∀ r M', 0 ≤ r ∧ r ≤ 8 → RR Y r M' → sv exl [20, 21] M M' → EX M' (fun j _ _ => j < (Gof M').n) → post r M') : wp_Mo_explore M post thr := by
  obtain ⟨G, hG, hG1⟩ : ∃ G : Nat, M 331 6 = G ∧ G ≤ 1 := ⟨(M 331 6).toNat, by omega, by omega⟩
  rw [hG, Int.toNat_natCast] at hy
  unfold wp_Mo_explore
  intro M1 e1 M2 e2
  have s2 : sv exl [20, 21] M M2 := by rw [e2, e1]; exact (sv.refl.us (by decide)).us (by decide)
  have rb2 : RB M2 := by rw [e2, e1]; exact (h.o (by decide) _ _).o (by decide) _ _
  have n2 : M2 331 20 = 0 := by rw [e2, fu_at, if_neg (by decide), e1, fu_at, if_pos rfl]
  have x2 : M2 331 21 = -1 := by rw [e2, fu_at, if_pos rfl]
  refine ⟨fun M' v1 => ∃ v : Nat, v1 = v ∧ v ≤ 3 ∧ sv exl [20, 21] M M' ∧ RB M' ∧ M' 331 20 = 0 ∧ M' 331 21 = -1 ∧ ∀ x, x < v → M' 351 x = Y.fi x, fun _ v1 => (3 - v1).toNat, ⟨0, rfl, by omega, s2, rb2, n2, x2, fun x hx => by omega⟩, ?_⟩
  rintro M3 v1 ⟨v, rfl, hv, s3, rb3, n3, x3, f3⟩
  have g3 : M3 331 6 = G := by rw [s3.slot 6 (by decide)]; exact hG
  unfold C_Mo_explore_12
  rw [g3, show ((3 * (G : Int)) + (v : Int)).toNat = 3 * G + v by omega]
  refine ⟨rg_small (by omega), fun h4 => ?_, fun h4 => ⟨by omega, by omega, fun M4 e4 => ⟨⟨v + 1, by omega, by omega, by rw [e4]; exact s3.u (by decide) (by decide), ?_, by rw [e4, fu_off _ _ _ (by decide)]; exact n3, by rw [e4, fu_off _ _ _ (by decide)]; exact x3, fun x hx => by
    rw [e4, fu_at, Int.toNat_natCast]
    by_cases e : x = v
    · rw [if_pos e, s3.cell 334 (by decide) (by decide), e]; exact hy.fi v (by omega)
    · rw [if_neg e]; exact f3 x (by omega)⟩, by dsimp only; omega⟩⟩⟩
  · have E3 : EX M3 (fun j _ _ => j < 0) := by
      have : (Gof M3).n = 0 := by show (M3 331 20).toNat = 0; rw [n3]; rfl
      refine ⟨rb3, by rw [s3.slot 6 (by decide)]; exact hg, by omega, ?_, ?_, ?_⟩ <;> rw [this]
      · intro j k hj; omega
      · intro j hj; omega
      · intro j k b hj; omega
    -- the loop over the states
    have main : ∀ (M4 : fm_M) (r : Int), 0 ≤ r → sv exl [20, 21] M M4 → EX M4 (fun j _ _ => j < 0) → (∀ j, j < (Gof M4).n → M4 349 j = 0) → RF Y (Xad (0, fun _ _ => 0) Y.fi) 0 M4 → M4 331 21 = -1 → r = 0 → B_Mo_explore_47 post thr M4 r := by
      intro M4 r hr s4 E4 z4 RF4 x4 hr0
      subst hr0
      refine ⟨fun M' v1 => ∃ i : Nat, v1 = i ∧ i ≤ (Gof M').n ∧ sv exl [20, 21] M M' ∧ EX M' (fun j _ _ => j < i) ∧ (∀ j, i ≤ j → j < (Gof M').n → M' 349 j = 0) ∧ ∃ X : Xs, goI Y (8 - i) i X = SR Y ∧ RF Y X i M' ∧ M' 331 21 = -1, fun _ v1 => (8 - v1).toNat, ⟨0, rfl, by omega, s4, E4, fun j _ hj => z4 j hj, _, rfl, RF4, x4⟩, ?_⟩
      rintro M5 v1 ⟨i, rfl, hi, s5, E5, z5, X, hgo, RF5, x5⟩
      have hn := E5.hn
      have en : (Gof M5).n = (M5 331 20).toNat := rfl
      have hXn := RF5.n
      have hX8 := RF5.n8
      have hy5 : RY Y (M5 331 6).toNat M5 := by rw [s5.slot 6 (by decide), hG, Int.toNat_natCast]; exact hy.same (fun a h1 h2 => s5.cell a (by simp; omega) (by omega))
      have stop : ¬ i < X.1 → SR Y = ((X, i, -1, (X.1 : Int)) : Rs) := fun hne => by
        rw [← hgo]
        cases 8 - i with
        | zero => rfl
        | succ f => rw [goI, if_neg hne]
      unfold C_Mo_explore_47
      refine ⟨rg_small (by omega), rg_small (by omega), fun h6 => hq _ M5 hn (by
        unfold RR; rw [stop (by omega)]; exact ⟨RF5, x5, hXn⟩) s5 (by rw [show (Gof M5).n = i by omega]; exact E5), fun h6 => ?_⟩
      have hi' : i < (Gof M5).n := by omega
      have hiX : i < X.1 := by omega
      rw [show 8 - i = (8 - (i + 1)) + 1 by omega, goI, if_pos hiX] at hgo
      refine spec_enable hy5 RF5 E5 hi' (z5 i (Nat.le_refl _) hi') (fun r M6 hr hmix RF6 y6 s6 E6 n6 o6 => ⟨rg_small (by omega), fun h0 => ?_, fun h0 M7 e7 => ?_⟩)
      · rw [if_neg (fun hh => by rw [hmix.mpr hh] at h0; exact absurd h0 (by decide))] at hgo
        have x6 : M6 331 21 = -1 := by rw [y6]; exact x5
        refine spec_follow (by rw [s6.slot 6 (by decide)]; exact hy5.same (fun a h1 h2 => s6.cell a (by simp; omega) (by omega))) RF6 E6 (by rw [n6]; exact hi') (fun j h1 h2 => by rw [o6 j (by omega)]; exact z5 j (by omega) (by rw [← n6]; exact h2)) (fun M7 hok RF7 F7 E7 => ⟨rg_small (by decide), fun _ => ⟨⟨i + 1, by omega, ?_, (s5.tr s6).tr F7.s, E7, fun j h1 h2 => F7.z j (by omega) h2, _, by rw [if_pos hok] at hgo; exact hgo, RF7, by rw [F7.x21]; exact x6⟩, by dsimp only; omega⟩, fun h => absurd h (by decide)⟩) (fun M7 hok RF7 F7 E7 => ⟨rg_small (by decide), fun h => absurd rfl h, fun _ => hp _ M7 (by omega) (by rw [if_neg hok] at hgo; unfold RR; rw [← hgo]; exact ⟨RF7, by rw [F7.x21]; exact x6, rfl⟩) ((s5.tr s6).tr F7.s) (E7.mono (fun _ _ _ hF => hF.elim))⟩)
        have := F7.n; omega
      · rw [if_pos (hmix.mp (by omega))] at hgo
        refine hp _ M7 (by omega) (by unfold RR; rw [← hgo]; exact ⟨RF6.same (by rw [e7, fu_at, if_neg (by decide)]) (fun a h1 h2 => by rw [e7, fu_off _ _ _ (by omega)]), by rw [e7, fu_at, if_pos rfl], rfl⟩) (by rw [e7]; exact (s5.tr s6).us (by decide)) ?_
        have e : ∀ a, a ≠ 331 → M7 a = M6 a := fun a ha => by rw [e7]; exact fu_off _ _ _ ha
        have a20 : M7 331 20 = M6 331 20 := by rw [e7, fu_at, if_neg (by decide)]
        exact E6.mono (fun _ _ _ hF => hF.elim) |>.grow (by rw [e7]; exact sv.refl.us (by decide)) ⟨fun j _ => by rw [e 346 (by decide)], fun j _ => by rw [e 347 (by decide)], fun j _ => by rw [e 349 (by decide)], by rw [e 348 (by decide)], fun x _ => by rw [e 350 (by decide)]⟩ (by rw [e7]; exact E6.rb.o (by decide) _ _) (Or.inl a20)
    have en3 : (Gof M3).n = 0 := by show (M3 331 20).toNat = 0; rw [n3]; rfl
    have RF3 : RF Y (0, fun _ _ => 0) 0 M3 := ⟨n3, by decide, fun i hi => absurd hi (Nat.not_lt_zero _), fun i v hi => absurd hi (Nat.not_lt_zero _), fun i hi => absurd hi (Nat.not_lt_zero _), fun i hi => absurd hi (Nat.not_lt_zero _), fun i hi => absurd hi (Nat.not_lt_zero _), fun i hi => absurd hi (Nat.not_lt_zero _), fun i hi => absurd hi (Nat.not_lt_zero _)⟩
    have hy3 : RY Y (M3 331 6).toNat M3 := by rw [g3, Int.toNat_natCast]; exact hy.same (fun a h1 h2 => s3.cell a (by simp; omega) (by omega))
    have hi0 : ins (0, fun _ _ => 0) Y.fi = (Xad (0, fun _ _ => 0) Y.fi, true) := by
      unfold ins
      rw [if_neg (fun ⟨j, hj, _⟩ => absurd hj (Nat.not_lt_zero _)), if_neg (by decide)]
    refine f_find rb3 E3.hg hy3 RF3 (by omega) (s := Y.fi) (fun v hv => f3 v (by omega)) hy.w.okf (fun hi => ?_) (fun i hi => by omega) (fun M4 _ RF4 s4 o4 rb4 a4 l4 z4 => ?_)
    · rw [hi0] at hi
      have := congrArg Prod.snd hi
      exact absurd this.symm Bool.false_ne_true
    rw [n3]
    refine main M4 0 (by omega) (s3.tr (s4.mono (by decide) (by decide))) (E3.grow (s4.mono (by decide) (by decide)) o4 rb4 (Or.inr ⟨a4, l4, z4⟩)) (fun j hj => ?_) RF4 (by rw [s4.slot 21 (by decide)]; exact x3) rfl
    have : (Gof M4).n = (M4 331 20).toNat := rfl
    rw [show j = (Gof M3).n by omega]; exact z4
  · rw [e4]
    have := rb3.g 334 6 0 9 (by decide) (x := 3 * G + v) (by omega)
    exact rb3.u 351 3 0 9 (by decide) _ _ this

abbrev slv : List Nat := [345, 346, 347, 348, 349, 350, 351, 352, 353, 354, 355, 356, 357, 358, 359, 360, 361]
/-- what stays of the search when values are sought -/
theorem EX0.keep {M M' : fm_M} {cs bs : List Nat} (h : EX0 M) (s : sv cs bs M M') (hc : ∀ q ∈ RBt, q.1 ∉ cs) (hb : 6 ∉ bs ∧ 20 ∉ bs) : EX0 M' := by
  have e : ∀ q ∈ RBt, M' q.1 = M q.1 := fun q hq => s.cell q.1 (hc q hq) (by revert hq; revert q; decide)
  have rb : RB M' := fun q hq x hx => by rw [e q hq]; exact h.rb q hq x hx
  have c346 : M' 346 = M 346 := e (346, 8, 0, 1) (by decide)
  have c347 : M' 347 = M 347 := e (347, 8, 0, 1) (by decide)
  have c348 : M' 348 = M 348 := e (348, 80, 0, 9) (by decide)
  have c349 : M' 349 = M 349 := e (349, 8, 0, 10) (by decide)
  have c335 : M' 335 = M 335 := e (335, 2, 0, 10) (by decide)
  have e6 := s.slot 6 hb.1
  have e20 := s.slot 20 hb.2
  have en : (Gof M').n = (Gof M).n := by show (M' 331 20).toNat = (M 331 20).toNat; rw [e20]
  have ec : (Gof M').cc = (Gof M).cc := by funext j; show (M' 349 j).toNat = (M 349 j).toNat; rw [c349]
  refine ⟨rb, by rw [e6]; exact h.hg, by rw [e20]; exact h.hn, ?_, ?_, fun _ _ _ _ _ _ hF => hF.elim⟩
  · rw [en, ec, c348, c335, e6]; exact h.cm
  · rw [en, c346, c349]; exact h.tgc
theorem RR.same {Y : Ga} {r : Int} {M M' : fm_M} (h : RR Y r M) (e20 : M' 331 20 = M 331 20) (e21 : M' 331 21 = M 331 21) (e : ∀ a, 345 ≤ a → a ≤ 349 → M' a = M a) : RR Y r M' := ⟨h.1.same e20 e, by rw [e21]; exact h.2.1, h.2.2⟩
theorem spec_moSolve {M : fm_M} (h : RB M) (hg : M 331 6 = -1 ∨ ((M 331 6 = 0 ∨ M 331 6 = 1) ∧ gwf M)) {Y : Ga} (hy : M 331 6 = 0 ∨ M 331 6 = 1 → RY Y (M 331 6).toNat M) {post : Int → fm_M → Prop} {thr : String → fm_M → Prop}
    (h0 : ∀ M', M 331 6 = -1 → M' 331 0 = 1 → sv [] [0] M M' → RB M' → post 0 M') (h1 : ∀ r M', (M 331 6 = 0 ∨ M 331 6 = 1) → M' 331 0 = 0 → RR Y r M' → (0 ≤ r ↔ M' 331 22 = 1) → sv slv [0, 20, 21, 22, 34, 38] M M' → EX0 M' → (M' 331 22 = 0 ∨ M' 331 22 = 1) → post r M') : wp_Mo_solve M post thr := by
  unfold wp_Mo_solve
  refine ⟨rg_small (by omega), fun hge => ?_, fun hlt => ?_⟩
  · have hg01 : M 331 6 = 0 ∨ M 331 6 = 1 := by omega
    have gw0 : gwf M := by rcases hg with e | e; omega; exact e.2
    intro M1 e1
    have a1 : M1 331 0 = 0 := by rw [e1, fu_at, if_pos rfl]
    rw [a1]
    refine ⟨rg_small (by decide), fun _ M2 e2 => ?_, fun h => absurd (Int.le_refl 0) h⟩
    have s2 : sv slv [0, 20, 21, 22, 34, 38] M M2 := by rw [e2, e1]; exact (sv.refl.us (by decide)).us (by decide)
    have rb2 : RB M2 := by rw [e2, e1]; exact (h.o (by decide) _ _).o (by decide) _ _
    have g2 : M2 331 6 = M 331 6 := s2.slot 6 (by decide)
    have f2 : M2 331 22 = 0 := by rw [e2, fu_at, if_pos rfl]
    have th2 : M2 331 0 = 0 := by rw [e2, fu_at, if_neg (by decide)]; exact a1
    refine spec_explore rb2 (by rw [g2]; exact hg01) (Y := Y) (by rw [g2]; exact (hy hg01).same (fun a h1 h2 => s2.cell a (by simp; omega) (by omega))) (fun r M3 hr R3 s3 E3 => ⟨rg_small (by omega), fun h => by omega, fun _ => h1 r M3 hg01 (by rw [s3.slot 0 (by decide)]; exact th2) R3 (by rw [s3.slot 22 (by decide), f2]; exact ⟨fun hh => by omega, fun hh => absurd hh (by decide)⟩) (s2.tr (s3.mono (by decide) (by decide))) E3 (by rw [s3.slot 22 (by decide), f2]; exact Or.inl rfl)⟩) (fun r M3 hr R3 s3 E3 => ⟨rg_small (by omega), fun _ => ?_, fun h => by omega⟩)
    have s03 : sv slv [0, 20, 21, 22, 34, 38] M M3 := s2.tr (s3.mono (by decide) (by decide))
    have gw3 : gwf M3 := by
      unfold gwf; rw [s03.slot 6 (by decide), s03.cell 335 (by decide) (by decide), s03.cell 337 (by decide) (by decide), s03.cell 338 (by decide) (by decide), s03.cell 339 (by decide) (by decide)]; exact gw0
    have w3 : GW M3 := E3.gw gw3
    have E30 : EX0 M3 := E3.mono (fun _ _ _ hF => hF.elim)
    refine spec_allowAll w3 (fun M4 s4 a4 => ?_)
    have w4 : GW M4 := GW_same s4 (by decide) (by decide) w3
    refine spec_solveGame w4 a4 (fun M5 s5 v5 => ?_)
    have s35 : sv [352, 353, 354, 355, 356, 357, 358, 359, 360, 361] [22, 34, 38] M3 M5 := (s4.mono (by decide) (by decide)).tr (s5.mono (by decide) (by decide))
    have w5 : GW M5 := GW_same s5 (by decide) (by decide) w4
    have hn := w5.n8
    obtain ⟨v5a, v5b, v5c⟩ := v5
    refine ⟨fun M' v1 v2 => v1 = r ∧ ∃ i : Nat, v2 = i ∧ i ≤ (Gof M5).n ∧ sv [359, 360, 361] [] M5 M' ∧ ∀ j, j < i → (0 ≤ M' 359 j ∧ M' 359 j ≤ 429981696) ∧ (0 ≤ M' 360 j ∧ M' 360 j ≤ 429981696), fun _ _ v2 => (((Gof M5).n : Int) - v2).toNat, ⟨rfl, 0, rfl, by omega, sv.refl, fun j hj => by omega⟩, ?_⟩
    rintro M6 v1 v2 ⟨rfl, i, rfl, hi, s6, b6⟩
    have e20 : M6 331 20 = (Gof M5).n := by rw [s6.slot 20 (by decide), hn.1]
    have w6 : GW M6 := GW_same s6 (by decide) (by decide) w5
    have hG6 : Gof M6 = Gof M5 := Gof_same s6 (by decide) (by decide) (by decide)
    unfold C_Mo_solve_51
    rw [e20, Int.toNat_natCast]
    refine ⟨rg_small (by omega), rg_small (by omega), fun h3 => ?_, fun h3 => ⟨by omega, ?_⟩⟩
    · have hlb6 : hlb M6 := by
        unfold hlb; rw [hG6]; exact fun j hj => b6 j (by omega)
      refine spec_findBest w6 hlb6 (Or.inr rfl) (fun M7 s7 => ?_)
      have w7 : GW M7 := GW_same s7 (by decide) (by decide) w6
      have n7 := (GW_al s7 (by decide) (by decide)).1
      have hlb7 : hlb M7 := by
        unfold hlb; rw [n7, s7.cell 359 (by decide) (by decide), s7.cell 360 (by decide) (by decide)]; exact hlb6
      refine spec_findBest w7 hlb7 (Or.inl rfl) (fun M8 s8 M9 e9 => ?_)
      have s39 : sv [352, 353, 354, 355, 356, 357, 358, 359, 360, 361] [22, 34, 38] M3 M9 := by
        rw [e9]
        exact (((s35.tr (s6.mono (by decide) (by decide))).tr (s7.mono (by decide) (by decide))).tr (s8.mono (by decide) (by decide))).us (by decide)
      exact h1 v1 M9 hg01 (by rw [s39.slot 0 (by decide), s3.slot 0 (by decide)]; exact th2) (R3.same (s39.slot 20 (by decide)) (s39.slot 21 (by decide)) (fun a h1 h2 => s39.cell a (by simp; omega) (by omega))) (by rw [e9, fu_at, if_pos rfl]; exact ⟨fun _ => rfl, fun _ => hr.1⟩) (s03.tr (s39.mono (by decide) (by decide))) (E30.keep s39 (by decide) (by decide)) (Or.inr (by rw [e9, fu_at, if_pos rfl]))
    · have hi' : i < (Gof M5).n := by omega
      have hv := v5c i hi'
      rw [s6.cell 358 (by decide) (by decide), s6.slot 38 (by decide)]
      refine spec_divisor ⟨hv.1, by omega⟩ ⟨v5a, v5b⟩ (fun d hd hd2 => ?_)
      rw [s6.cell 358 (by decide) (by decide)]
      refine ⟨⟨by omega, by omega⟩, ⟨by omega, by omega⟩, by omega, fun M7 e7 => ?_⟩
      have e38 : M7 331 38 = M5 331 38 := by rw [e7, fu_off _ _ _ (by decide), s6.slot 38 (by decide)]
      rw [e38]
      refine ⟨⟨by omega, by omega⟩, fun M8 e8 M9 e9 => ⟨⟨rfl, i + 1, by omega, by omega, ?_, fun j hj => ?_⟩, by dsimp only; omega⟩⟩
      · rw [e9, e8, e7]; exact ((s6.u (by decide) (by decide)).u (by decide) (by decide)).u (by decide) (by decide)
      · have c1 : M9 359 j = if j = i then (M5 358 i).tdiv d else M6 359 j := by rw [e9, fu_off _ _ _ (by decide), e8, fu_off _ _ _ (by decide), e7, fu_at]
        have c2 : M9 360 j = if j = i then (M5 331 38).tdiv d else M6 360 j := by rw [e9, fu_off _ _ _ (by decide), e8, fu_at, e7, fu_off _ _ _ (by decide)]
        have td : ∀ a : Int, 0 ≤ a → a ≤ 429981696 → 0 ≤ a.tdiv d ∧ a.tdiv d ≤ 429981696 := fun a h1 h2 => by
          rw [Int.tdiv_eq_ediv_of_nonneg h1]
          refine ⟨Int.ediv_nonneg h1 (by omega), ?_⟩
          have := Int.ediv_le_self d h1
          omega
        rw [c1, c2]
        by_cases e : j = i
        · rw [if_pos e, if_pos e]; exact ⟨td _ hv.1 (by omega), td _ (by omega) v5b⟩
        · rw [if_neg e, if_neg e]; exact b6 j (by omega)
  · intro M1 e1
    have a1 : M1 331 0 = 1 := by rw [e1, fu_at, if_pos rfl]
    rw [a1]
    exact ⟨rg_small (by decide), fun h => absurd h (by decide), fun _ => h0 M1 (by omega) a1 (by rw [e1]; exact sv.refl.us (by decide)) (by rw [e1]; exact h.o (by decide) _ _)⟩
end Pu_O
