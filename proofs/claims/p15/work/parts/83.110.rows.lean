set_option maxRecDepth 10000
section Pu_va
/-! Equations whose diagonal holds the rest of each row: one solution, and what is kept while they are solved without fractions. NOT YET COMPILED. -/
theorem sm_tail {k n : Nat} (hk : k ≤ n) {f : Nat → Int} (h : ∀ c, k ≤ c → c < n → f c ≤ 0) : sm n f ≤ sm k f := by
  induction n with
  | zero => rw [show k = 0 by omega]; exact Int.le_refl _
  | succ n ih =>
    by_cases e : k = n + 1
    · rw [e]; exact Int.le_refl _
    · simp only [sm]
      have h1 := ih (by omega) (fun c h1 h2 => h c h1 (by omega))
      have h2 := h n (by omega) (by omega)
      omega
theorem sm_tail_lt {k n j : Nat} (hk : k ≤ n) {f : Nat → Int} (h : ∀ c, k ≤ c → c < n → f c ≤ 0) (hj : k ≤ j) (hjn : j < n) (hl : f j < 0) : sm n f < sm k f := by
  induction n with
  | zero => omega
  | succ n ih =>
    simp only [sm]
    by_cases e : j = n
    · subst e
      have h1 := sm_tail (k := k) (n := j) hj (f := f) (fun c h1 h2 => h c h1 (by omega))
      omega
    · have h1 := ih (by omega) (fun c h1 h2 => h c h1 (by omega)) (by omega)
      have h2 := h n (by omega) (by omega)
      omega
theorem sm_nz {n : Nat} {f : Nat → Int} (h : ∀ k, k < n → 0 ≤ f k) (hs : sm n f ≤ 0) {j : Nat} (hj : j < n) : f j = 0 := by
  apply Classical.byContradiction
  intro hne
  have h1 := sm_lt (n := n) (f := fun _ => 0) (g := f) (fun k hk => h k hk) hj (by have := h j hj; show (0 : Int) < f j; omega)
  rw [sm_zero (fun _ _ => rfl)] at h1
  omega
/-- off the diagonal nothing is above 0, no row's sum is below 0; where it is 0 the row leads down -/
def dom (n : Nat) (A : Nat → Nat → Int) (rk : Nat → Nat) : Prop := (∀ i j, i < n → j < n → i ≠ j → A i j ≤ 0) ∧ (∀ i, i < n → 0 ≤ sm n (A i)) ∧ ∀ i, i < n → 0 < sm n (A i) ∨ ∃ j, j < n ∧ j ≠ i ∧ A i j < 0 ∧ rk j < rk i
theorem dom_max {n k : Nat} {A : Nat → Nat → Int} {rk : Nat → Nat} (h : dom n A rk) (hk : k ≤ n) {v : Nat → Int} (hv : ∀ r, r < k → sm k (fun c => A r c * v c) ≤ 0) : ∀ c, c < k → v c ≤ 0 := by
  intro c0 hc0
  obtain ⟨m, hm, hmax⟩ := Gd.ex_max k (by omega) v
  apply Classical.byContradiction
  intro hne
  have hpos : 0 < v m := by have := hmax c0 hc0; omega
  have key : ∀ r j, j < k → rk j < r → v j = v m → False := by
    intro r
    induction r with
    | zero => intro j _ h1 _; omega
    | succ r ih =>
      intro j hj hr he
      have hoff : ∀ c, c < n → c ≠ j → A j c ≤ 0 := fun c hc hne => h.1 j c (by omega) hc (fun e => hne e.symm)
      have t1 : sm n (A j) ≤ sm k (A j) := sm_tail hk (fun c h1 h2 => hoff c h2 (by omega))
      have t2 := h.2.1 j (by omega)
      have nn : ∀ c, c < k → 0 ≤ A j c * (v c - v m) := fun c hc => by
        by_cases e : c = j
        · rw [e, he, Int.sub_self, Int.mul_zero]; exact Int.le_refl _
        · have a := hoff c (by omega) e
          have b := hmax c hc
          have := Int.mul_nonneg (show 0 ≤ -(A j c) by omega) (show 0 ≤ -(v c - v m) by omega)
          rw [Int.neg_mul_neg] at this; exact this
      have sp : sm k (fun c => A j c * (v c - v m)) = sm k (fun c => A j c * v c) - v m * sm k (A j) := by
        rw [← sm_mul, ← sm_sub]; exact sm_congr (fun c _ => by rw [Int.mul_sub, Int.mul_comm (v m)])
      have hvj := hv j hj
      have hp : 0 ≤ v m * sm k (A j) := Int.mul_nonneg (by omega) (by omega)
      have hs0 : sm k (fun c => A j c * (v c - v m)) ≤ 0 := by omega
      have z : ∀ c, c < k → A j c * (v c - v m) = 0 := fun c hc => sm_nz nn hs0 hc
      have hs1 : sm k (fun c => A j c * (v c - v m)) = 0 := sm_zero z
      have hk0 : v m * sm k (A j) = 0 := by omega
      have hk1 : sm k (A j) = 0 := by
        rcases Int.mul_eq_zero.mp hk0 with e | e
        · omega
        · exact e
      rcases h.2.2 j (by omega) with e | ⟨j', hj', hne', hlt, hrk⟩
      · omega
      · by_cases e : j' < k
        · rcases Int.mul_eq_zero.mp (z j' e) with e1 | e1
          · omega
          · exact ih j' e (by omega) (by omega)
        · have := sm_tail_lt hk (f := A j) (fun c h1 h2 => hoff c h2 (by omega)) (by omega) hj' hlt
          omega
  exact key (rk m + 1) m hm (by omega) rfl
theorem dom_zero {n k : Nat} {A : Nat → Nat → Int} {rk : Nat → Nat} (h : dom n A rk) (hk : k ≤ n) {v : Nat → Int} (hv : ∀ r, r < k → sm k (fun c => A r c * v c) = 0) : ∀ c, c < k → v c = 0 := fun c hc => by
  have a := dom_max h hk (fun r hr => Int.le_of_eq (hv r hr)) c hc
  have b := dom_max h hk (v := fun c => -(v c)) (fun r hr => by
    have e : sm k (fun c => A r c * -(v c)) = - sm k (fun c => A r c * v c) := by
      rw [← sm_neg]; exact sm_congr (fun c _ => Int.mul_neg _ _)
    rw [e, hv r hr]; decide) c hc
  have b' : -(v c) ≤ 0 := b
  omega
theorem dom_nz {n k : Nat} {A : Nat → Nat → Int} {rk : Nat → Nat} (h : dom n A rk) (hk : k ≤ n) : dt k A ≠ 0 := fun e => by
  obtain ⟨x, ⟨j, hj, hx⟩, hz⟩ := dt_kernel k A e
  exact hx (dom_zero h hk hz j hj)
/-- the solution for column j, times the determinant -/
def cjs (A : Nat → Nat → Int) (k c j : Nat) : Int := dt k (sc A c (fun r => A r j))
theorem cjs_sum (A : Nat → Nat → Int) (k j : Nat) {r : Nat} (hr : r < k) : sm k (fun c => A r c * cjs A k c j) = dt k A * A r j := cramer A (fun r => A r j) hr
/-- the last row's expansion, once more -/
theorem dt_exp (k : Nat) (A : Nat → Nat → Int) : dt (k + 1) A = dt k A * A k k - sm k (fun c => A k c * cjs A k c k) := by
  have e0 : dt (k + 1) A = sm (k + 1) (fun j => sg (k + j) * (A k j * dt k (fun r c => A r (sk j c)))) := rfl
  rw [e0]
  simp only [sm]
  have e1 : sg (k + k) = 1 := by rw [sg_add]; exact sg_sq k
  have e2 : dt k (fun r c => A r (sk k c)) = dt k A := dt_congr (fun r c _ hc => by unfold sk; rw [if_pos hc])
  have e3 : sm k (fun j => sg (k + j) * (A k j * dt k (fun r c => A r (sk j c)))) = - sm k (fun c => A k c * cjs A k c k) := by
    rw [← sm_neg]
    refine sm_congr (fun j hj => ?_)
    have m := dt_move k (k - 1 - j) j (by omega) A (fun r => A r k)
    have e4 : dt k (fun r c => if c + 1 = k then A r k else A r (sk j c)) = dt k (fun r c => A r (sk j c)) := dt_congr (fun r c _ hc => by
      by_cases e : c + 1 = k
      · rw [if_pos e]; unfold sk; rw [if_neg (by omega), e]
      · rw [if_neg e])
    rw [e4] at m
    have s1 : sg (k + j) = - sg (k - 1 - j) := by
      have a : sg (k + j) * sg (k - 1 - j) = -1 := by
        rw [← sg_add, show k + j + (k - 1 - j) = 2 * (k - 1) + 1 by omega]
        unfold sg; rw [if_neg (by omega)]
      have b := sg_sq (k - 1 - j)
      have c : sg (k + j) * (sg (k - 1 - j) * sg (k - 1 - j)) = -1 * sg (k - 1 - j) := by rw [← Int.mul_assoc, a]
      rw [b] at c; omega
    unfold cjs
    rw [m, s1]
    grind
  rw [e3, e1, e2]
  grind
theorem dom_pos {n : Nat} {A : Nat → Nat → Int} {rk : Nat → Nat} (h : dom n A rk) : ∀ k, k ≤ n → 0 < dt k A := by
  intro k
  induction k with
  | zero => intro _; show (0 : Int) < 1; decide
  | succ k ih =>
    intro hk
    have D := ih (by omega)
    have hoff : ∀ r c, r < n → c < n → r ≠ c → A r c ≤ 0 := h.1
    have hx0 : ∀ c, c < k → cjs A k c k ≤ 0 := dom_max h (by omega) (fun r hr => by
      rw [cjs_sum A k k hr]
      have := hoff r k (by omega) (by omega) (by omega)
      have := Int.mul_nonneg (show 0 ≤ dt k A by omega) (show 0 ≤ -(A r k) by omega)
      rw [Int.mul_neg] at this; omega)
    have row : ∀ r, r ≤ k → 0 ≤ sm k (A r) + A r k := fun r hr => by
      have a := sm_tail (k := k + 1) (n := n) (by omega) (f := A r) (fun c h1 h2 => hoff r c (by omega) h2 (by omega))
      have b := h.2.1 r (by omega)
      simp only [sm] at a
      omega
    have hx1 : ∀ c, c < k → -(cjs A k c k) - dt k A ≤ 0 := dom_max h (by omega) (v := fun c => -(cjs A k c k) - dt k A) (fun r hr => by
      have e : sm k (fun c => A r c * (-(cjs A k c k) - dt k A)) = - sm k (fun c => A r c * cjs A k c k) - dt k A * sm k (A r) := by
        rw [← sm_neg, ← sm_mul, ← sm_sub]; exact sm_congr (fun c _ => by grind)
      rw [e, cjs_sum A k k hr]
      have := Int.mul_nonneg (show 0 ≤ dt k A by omega) (row r (by omega))
      rw [Int.mul_add] at this; omega)
    have hle : sm k (fun c => A k c * cjs A k c k) ≤ sm k (fun c => -(A k c) * dt k A) := sm_le (fun c hc => by
      have a := hoff k c (by omega) (by omega) (by omega)
      have b := hx1 c hc
      have b' : 0 ≤ cjs A k c k + dt k A := by omega
      have := Int.mul_nonneg (show 0 ≤ -(A k c) by omega) b'
      rw [Int.mul_add, Int.neg_mul] at this
      omega)
    have e2 : sm k (fun c => -(A k c) * dt k A) = -(dt k A * sm k (A k)) := by
      rw [← sm_mul, ← sm_neg]; exact sm_congr (fun c _ => by grind)
    have hr := Int.mul_nonneg (show 0 ≤ dt k A by omega) (row k (by omega))
    rw [Int.mul_add] at hr
    have hge : 0 ≤ dt (k + 1) A := by rw [dt_exp]; omega
    have := dom_nz h hk
    omega
/-- from k unknowns to one more -/
theorem cjs_step {n : Nat} {A : Nat → Nat → Int} {rk : Nat → Nat} (h : dom n A rk) {k : Nat} (hk : k < n) (j : Nat) : (∀ c, c < k → dt k A * cjs A (k + 1) c j = dt (k + 1) A * cjs A k c j - cjs A k c k * (dt k A * A k j - sm k (fun c => A k c * cjs A k c j))) ∧ cjs A (k + 1) k j = dt k A * A k j - sm k (fun c => A k c * cjs A k c j) := by
  have D := dom_pos h k (by omega)
  generalize hB : dt k A * A k j - sm k (fun c => A k c * cjs A k c j) = B
  have v0 := dom_zero h (k := k + 1) (by omega) (v := fun c => (if c < k then dt (k + 1) A * cjs A k c j - cjs A k c k * B else dt k A * B) - dt k A * cjs A (k + 1) c j) (fun r hr => by
    have s1 : sm k (fun c => A r c * ((if c < k then dt (k + 1) A * cjs A k c j - cjs A k c k * B else dt k A * B) - dt k A * cjs A (k + 1) c j)) = dt (k + 1) A * sm k (fun c => A r c * cjs A k c j) - B * sm k (fun c => A r c * cjs A k c k) - dt k A * sm k (fun c => A r c * cjs A (k + 1) c j) := by
      rw [← sm_mul, ← sm_mul, ← sm_mul, ← sm_sub, ← sm_sub]
      exact sm_congr (fun c hc => by rw [if_pos hc]; grind)
    have s2 := cjs_sum A (k + 1) j hr
    simp only [sm] at s2 ⊢
    rw [if_neg (Nat.lt_irrefl k), s1]
    by_cases e : r = k
    · subst e
      have d1 := dt_exp r A
      grind
    · have c1 := cjs_sum A k j (r := r) (by omega)
      have c2 := cjs_sum A k k (r := r) (by omega)
      rw [c1, c2]
      grind)
  refine ⟨fun c hc => ?_, ?_⟩
  · have := v0 c (by omega)
    simp only [if_pos hc] at this
    omega
  · have := v0 k (by omega)
    simp only [if_neg (Nat.lt_irrefl k)] at this
    rw [← Int.mul_sub] at this
    rcases Int.mul_eq_zero.mp this with e | e
    · omega
    · omega
/-- while rows are cleared by the pivots: column n holds what the rows come to -/
def GJ (n : Nat) (A W : Nat → Nat → Int) (k : Nat) : Prop := (∀ c j, c < k → k ≤ j → j ≤ n → W c j = cjs A k c j) ∧ ∀ i j, k ≤ i → i < n → k ≤ j → j ≤ n → W i j = dt k A * A i j - sm k (fun c => A i c * cjs A k c j)
theorem GJ_0 {n : Nat} {A W : Nat → Nat → Int} (h : ∀ i j, i < n → j ≤ n → W i j = A i j) : GJ n A W 0 := ⟨fun c j hc => absurd hc (Nat.not_lt_zero _), fun i j _ hi _ hj => by
  rw [h i j hi hj]; show A i j = 1 * A i j - 0; omega⟩
theorem GJ_piv {n : Nat} {A W : Nat → Nat → Int} {k : Nat} (G : GJ n A W k) (hk : k < n) : W k k = dt (k + 1) A := by
  rw [G.2 k k (Nat.le_refl _) hk (Nat.le_refl _) (by omega), dt_exp]
/-- what a division gives -/
def gjq (A : Nat → Nat → Int) (k i j : Nat) : Int := if i < k then cjs A (k + 1) i j else dt (k + 1) A * A i j - sm (k + 1) (fun c => A i c * cjs A (k + 1) c j)
theorem GJ_div {n : Nat} {A W : Nat → Nat → Int} {rk : Nat → Nat} (h : dom n A rk) {k : Nat} (G : GJ n A W k) (hk : k < n) {i j : Nat} (hi : i < n) (hne : i ≠ k) (hj : k < j) (hjn : j ≤ n) : W k k * W i j - W i k * W k j = dt k A * gjq A k i j := by
  have st := cjs_step h hk j
  rw [GJ_piv G hk, G.2 k j (Nat.le_refl _) hk (by omega) hjn]
  unfold gjq
  by_cases e : i < k
  · rw [if_pos e, G.1 i j e (by omega) hjn, G.1 i k e (Nat.le_refl _) (by omega), st.1 i e]
  · rw [if_neg e, G.2 i j (by omega) hi (by omega) hjn, G.2 i k (by omega) hi (Nat.le_refl _) (by omega)]
    simp only [sm]
    rw [st.2]
    generalize hB : dt k A * A k j - sm k (fun c => A k c * cjs A k c j) = B at st
    have s1 : dt k A * sm k (fun c => A i c * cjs A (k + 1) c j) = dt (k + 1) A * sm k (fun c => A i c * cjs A k c j) - B * sm k (fun c => A i c * cjs A k c k) := by
      rw [← sm_mul, ← sm_mul, ← sm_mul, ← sm_sub]
      exact sm_congr (fun c hc => by have := st.1 c hc; grind)
    grind
theorem GJ_next {n : Nat} {A W W' : Nat → Nat → Int} {rk : Nat → Nat} (h : dom n A rk) {k : Nat} (G : GJ n A W k) (hk : k < n) (h1 : ∀ i j, i < n → i ≠ k → k < j → j ≤ n → W' i j = gjq A k i j) (h2 : ∀ j, k < j → j ≤ n → W' k j = W k j) : GJ n A W' (k + 1) := by
  refine ⟨fun c j hc hj hjn => ?_, fun i j hi hin hj hjn => ?_⟩
  · by_cases e : c = k
    · subst e
      rw [h2 j (by omega) hjn, G.2 c j (Nat.le_refl _) hk (by omega) hjn, (cjs_step h hk j).2]
    · rw [h1 c j (by omega) e (by omega) hjn]; unfold gjq; rw [if_pos (by omega)]
  · rw [h1 i j hin (by omega) (by omega) hjn]; unfold gjq; rw [if_neg (by omega)]
/-- bounds -/
def nr1 (n : Nat) (A : Nat → Nat → Int) : Prop := ∀ r, r < n → sm (n + 1) (fun c => ab (A r c)) ≤ 12
theorem nr1_row {n : Nat} {A : Nat → Nat → Int} (h : nr1 n A) {r k j : Nat} (hr : r < n) (hk : k ≤ j) (hj : j ≤ n) : sm k (fun c => ab (A r c)) + ab (A r j) ≤ 12 := by
  have a := sm_sel (n := k) (m := n + 1) (f := fun c => ab (A r c)) (fun c _ => ab_nn _) hk (by omega)
  simp only [sm] at a
  rw [if_neg (Nat.lt_irrefl k)] at a
  have b : sm k (fun c => ab (A r (if c < k then c else j))) = sm k (fun c => ab (A r c)) := sm_congr (fun c hc => by rw [if_pos hc])
  have c : sm n (fun c => ab (A r c)) + ab (A r n) ≤ 12 := h r hr
  rw [b] at a
  omega
theorem cjs_bound {n : Nat} {A : Nat → Nat → Int} (h : nr1 n A) {k c j : Nat} (hkn : k ≤ n) (hk : k ≤ j) (hj : j ≤ n) : ab (cjs A k c j) ≤ 12 ^ k := by
  refine dt_bound (by decide) (fun r hr => ?_)
  have a := nr1_row h (r := r) (by omega) hk hj
  have b : sm k (fun q => ab (sc A c (fun r => A r j) r q)) ≤ sm k (fun q => ab (A r q)) + ab (A r j) := by
    by_cases e : c < k
    · have e1 : sm k (fun q => ab (sc A c (fun r => A r j) r q)) = sm k (fun q => ab (A r q)) + sm k (fun q => if q = c then ab (A r j) - ab (A r c) else 0) := by
        rw [← sm_add]; exact sm_congr (fun q _ => by unfold sc; by_cases e : q = c
                                                     · rw [if_pos e, if_pos e, e]; show ab (A r j) = _; omega
                                                     · rw [if_neg e, if_neg e]; omega)
      have e2 : sm k (fun q => if q = c then ab (A r j) - ab (A r c) else 0) = ab (A r j) - ab (A r c) := by
        rw [sm_one e (fun q _ hq => by rw [if_neg hq]), if_pos rfl]
      have := ab_nn (A r c)
      rw [e1, e2]; omega
    · have e1 : sm k (fun q => ab (sc A c (fun r => A r j) r q)) = sm k (fun q => ab (A r q)) := sm_congr (fun q hq => by unfold sc; rw [if_neg (by omega)])
      have := ab_nn (A r j)
      rw [e1]; omega
  omega
theorem gjw_bound {n : Nat} {A W : Nat → Nat → Int} (h : nr1 n A) (hn : n ≤ 8) {k : Nat} (hkn : k ≤ n) (G : GJ n A W k) {i j : Nat} (hi : i < n) (hk : k ≤ j) (hj : j ≤ n) : ab (W i j) ≤ 429981696 := by
  have p : (12 : Int) ^ k ≤ 429981696 := pow_le8 (by omega)
  by_cases e : i < k
  · rw [G.1 i j e hk hj]; exact Int.le_trans (cjs_bound h hkn hk hj) p
  · rw [G.2 i j (by omega) hi hk hj]
    have hD : ab (dt k A) ≤ 12 ^ k := dt_bound (by decide) (fun r hr => by
      have := nr1_row h (r := r) (k := k) (j := k) (by omega) (Nat.le_refl _) hkn
      have := ab_nn (A r k); omega)
    have hP : (0 : Int) ≤ 12 ^ k := Int.pow_nonneg (by decide)
    have a1 : ab (dt k A * A i j) ≤ 12 ^ k * ab (A i j) := by rw [ab_mul]; exact Int.mul_le_mul_of_nonneg_right hD (ab_nn _)
    have a2 : ab (sm k (fun c => A i c * cjs A k c j)) ≤ 12 ^ k * sm k (fun c => ab (A i c)) := by
      refine Int.le_trans (ab_sm _ _) ?_
      rw [← sm_mul]
      exact sm_le (fun c _ => by rw [ab_mul, Int.mul_comm]; exact Int.mul_le_mul_of_nonneg_right (cjs_bound h hkn hk hj) (ab_nn _))
    have a3 : ab (dt k A * A i j - sm k (fun c => A i c * cjs A k c j)) ≤ ab (dt k A * A i j) + ab (sm k (fun c => A i c * cjs A k c j)) := by
      unfold ab; split <;> split <;> split <;> omega
    have a4 := nr1_row h hi hk hj
    have a5 : 12 ^ k * (sm k (fun c => ab (A i c)) + ab (A i j)) ≤ 12 ^ k * 12 := Int.mul_le_mul_of_nonneg_left a4 hP
    rw [Int.mul_add] at a5
    have p1 : (12 : Int) ^ (k + 1) ≤ 429981696 := pow_le8 (by omega)
    rw [Int.pow_succ] at p1
    omega
end Pu_va
