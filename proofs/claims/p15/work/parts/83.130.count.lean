set_option maxRecDepth 10000
section Pu_vc
/-! How many codes have a property. NOT YET COMPILED. -/
noncomputable def cnt (P : Nat → Prop) : Nat → Nat
  | 0 => 0
  | n + 1 => cnt P n + @ite Nat (P n) (Classical.propDecidable _) 1 0
theorem cnt_le (P : Nat → Prop) (n : Nat) : cnt P n ≤ n := by
  induction n with
  | zero => exact Nat.le_refl _
  | succ n ih => rw [cnt]; split <;> omega
theorem cnt_mono {P Q : Nat → Prop} {n : Nat} (h : ∀ e, e < n → P e → Q e) : cnt P n ≤ cnt Q n := by
  induction n with
  | zero => exact Nat.le_refl _
  | succ n ih =>
    have := ih (fun e he => h e (by omega))
    rw [cnt, cnt]
    by_cases p : P n
    · rw [if_pos p, if_pos (h n (by omega) p)]; omega
    · rw [if_neg p]; split <;> omega
theorem cnt_lt {P Q : Nat → Prop} {n : Nat} (h : ∀ e, e < n → P e → Q e) {j : Nat} (hj : j < n) (hq : Q j) (hp : ¬ P j) : cnt P n < cnt Q n := by
  induction n with
  | zero => omega
  | succ n ih =>
    rw [cnt, cnt]
    by_cases e : j = n
    · subst e
      have := cnt_mono (n := j) (fun e he => h e (by omega))
      rw [if_neg hp, if_pos hq]; omega
    · have := ih (fun e he => h e (by omega)) (by omega)
      by_cases p : P n
      · rw [if_pos p, if_pos (h n (by omega) p)]; omega
      · rw [if_neg p]; split <;> omega
theorem cnt_pos {P : Nat → Prop} {n j : Nat} (hj : j < n) (hp : P j) : 0 < cnt P n := by
  have := cnt_lt (P := fun _ => False) (Q := P) (n := n) (fun _ _ h => h.elim) hj hp (fun h => h)
  omega
/-- the digits of a code -/
def dgc (e j : Nat) : Nat := e / 10 ^ j % 10
theorem dgc_ex (m : Nat) (f : Nat → Nat) (h : ∀ j, j < m → f j < 10) : ∃ e, e < 10 ^ m ∧ ∀ j, j < m → dgc e j = f j := by
  induction m with
  | zero => exact ⟨0, by decide, fun j hj => absurd hj (Nat.not_lt_zero _)⟩
  | succ m ih =>
    obtain ⟨e, he, hd⟩ := ih (fun j hj => h j (by omega))
    have hf := h m (by omega)
    refine ⟨e + 10 ^ m * f m, ?_, fun j hj => ?_⟩
    · rw [Nat.pow_succ]
      have : 10 ^ m * f m ≤ 10 ^ m * 9 := Nat.mul_le_mul_left _ (by omega)
      omega
    · by_cases e2 : j = m
      · subst e2
        unfold dgc
        rw [Nat.add_mul_div_left _ _ (Nat.pow_pos (by decide)), Nat.div_eq_of_lt he, Nat.zero_add, Nat.mod_eq_of_lt hf]
      · rw [← hd j (by omega)]
        unfold dgc
        have e3 : 10 ^ m * f m = 10 ^ j * (10 * (10 ^ (m - j - 1) * f m)) := by
          rw [← Nat.mul_assoc, ← Nat.mul_assoc, ← Nat.pow_succ, ← Nat.pow_add, show j + 1 + (m - j - 1) = m by omega]
        rw [e3, Nat.add_mul_div_left _ _ (Nat.pow_pos (by decide)), Nat.add_mul_mod_self_left]
end Pu_vc
section Pu_vd
/-! Fractions in lowest terms. NOT YET COMPILED. -/
theorem frac_eq {a b c d : Nat} (hb : 0 < b) (hd : 0 < d) (h : a * d = c * b) : a / Nat.gcd a b = c / Nat.gcd c d ∧ b / Nat.gcd a b = d / Nat.gcd c d := by
  have hg : 0 < Nat.gcd a b := Nat.gcd_pos_of_pos_right a hb
  have hg' : 0 < Nat.gcd c d := Nat.gcd_pos_of_pos_right c hd
  have e1 : Nat.gcd a b * d = Nat.gcd c d * b := by
    rw [← Nat.gcd_mul_right, ← Nat.gcd_mul_right, h, Nat.mul_comm b d]
  obtain ⟨a1, ha1⟩ := Nat.gcd_dvd_left a b
  obtain ⟨b1, hb1⟩ := Nat.gcd_dvd_right a b
  obtain ⟨c1, hc1⟩ := Nat.gcd_dvd_left c d
  obtain ⟨d1, hd1⟩ := Nat.gcd_dvd_right c d
  have qa : a / Nat.gcd a b = a1 := Nat.div_eq_of_eq_mul_right hg ha1
  have qb : b / Nat.gcd a b = b1 := Nat.div_eq_of_eq_mul_right hg hb1
  have qc : c / Nat.gcd c d = c1 := Nat.div_eq_of_eq_mul_right hg' hc1
  have qd : d / Nat.gcd c d = d1 := Nat.div_eq_of_eq_mul_right hg' hd1
  rw [qa, qb, qc, qd]
  generalize Nat.gcd a b = g at *
  generalize Nat.gcd c d = g' at *
  have e2 : d1 = b1 := by
    have : (g * g') * d1 = (g * g') * b1 := by
      have x : g * (g' * d1) = g' * (g * b1) := by rw [← hd1, ← hb1]; exact e1
      rw [Nat.mul_assoc, x, ← Nat.mul_assoc, Nat.mul_comm g' g]
    exact Nat.eq_of_mul_eq_mul_left (Nat.mul_pos hg hg') this
  refine ⟨?_, e2.symm⟩
  have hb1p : 0 < b1 := by
    apply Nat.pos_of_ne_zero; intro e; rw [e, Nat.mul_zero] at hb1; omega
  have : (g * g' * b1) * a1 = (g * g' * b1) * c1 := by
    have x : (g * a1) * (g' * d1) = (g' * c1) * (g * b1) := by rw [← ha1, ← hd1, ← hc1, ← hb1]; exact h
    rw [e2] at x
    grind
  exact Nat.eq_of_mul_eq_mul_left (Nat.mul_pos (Nat.mul_pos hg hg') hb1p) this
/-- a step of Euclid's way halves the product -/
theorem euc_half {d r : Nat} (h : r ≤ d) (hr : 0 < r) : 2 * (r * (d % r)) ≤ d * r := by
  have h1 : d % r < r := Nat.mod_lt d hr
  have h2 : 2 * (d % r) ≤ d := by
    have := Nat.div_add_mod d r
    have h3 : 1 ≤ d / r := Nat.div_pos h hr
    have h4 : r * 1 ≤ r * (d / r) := Nat.mul_le_mul_left r h3
    omega
  calc 2 * (r * (d % r)) = r * (2 * (d % r)) := by grind
    _ ≤ r * d := Nat.mul_le_mul_left r h2
    _ = d * r := Nat.mul_comm r d
end Pu_vd
