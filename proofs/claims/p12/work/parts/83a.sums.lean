set_option maxRecDepth 10000
section Pu_A
/-! Sums and determinants of whole numbers. -/
def sm : Nat → (Nat → Int) → Int
  | 0, _ => 0
  | n + 1, f => sm n f + f n
theorem sm_congr {n : Nat} {f g : Nat → Int} (h : ∀ k, k < n → f k = g k) : sm n f = sm n g := by
  induction n with
  | zero => rfl
  | succ n ih => simp only [sm]; rw [ih (fun k hk => h k (by omega)), h n (by omega)]
theorem sm_add (n : Nat) (f g : Nat → Int) : sm n (fun k => f k + g k) = sm n f + sm n g := by
  induction n with
  | zero => rfl
  | succ n ih => simp only [sm]; rw [ih]; omega
theorem sm_mul (n : Nat) (c : Int) (f : Nat → Int) : sm n (fun k => c * f k) = c * sm n f := by
  induction n with
  | zero => simp [sm]
  | succ n ih => simp only [sm]; rw [ih, Int.mul_add]
theorem sm_sub (n : Nat) (f g : Nat → Int) : sm n (fun k => f k - g k) = sm n f - sm n g := by
  induction n with
  | zero => rfl
  | succ n ih => simp only [sm]; rw [ih]; omega
theorem sm_neg (n : Nat) (f : Nat → Int) : sm n (fun k => - f k) = - sm n f := by
  induction n with
  | zero => rfl
  | succ n ih => simp only [sm]; rw [ih]; omega
theorem sm_zero {n : Nat} {f : Nat → Int} (h : ∀ k, k < n → f k = 0) : sm n f = 0 := by
  induction n with
  | zero => rfl
  | succ n ih => simp only [sm]; rw [ih (fun k hk => h k (by omega)), h n (by omega)]; rfl
theorem sm_le {n : Nat} {f g : Nat → Int} (h : ∀ k, k < n → f k ≤ g k) : sm n f ≤ sm n g := by
  induction n with
  | zero => exact Int.le_refl _
  | succ n ih => simp only [sm]; have := ih (fun k hk => h k (by omega)); have := h n (by omega); omega
theorem sm_lt {n : Nat} {f g : Nat → Int} (h : ∀ k, k < n → f k ≤ g k) {j : Nat} (hj : j < n) (hl : f j < g j) : sm n f < sm n g := by
  induction n with
  | zero => omega
  | succ n ih =>
    simp only [sm]
    have h1 := h n (by omega)
    have h2 : sm n f ≤ sm n g := sm_le (fun k hk => h k (by omega))
    by_cases e : j = n
    · subst e; omega
    · have := ih (fun k hk => h k (by omega)) (by omega); omega
theorem sm_swap (n m : Nat) (f : Nat → Nat → Int) : sm n (fun i => sm m (fun j => f i j)) = sm m (fun j => sm n (fun i => f i j)) := by
  induction n with
  | zero => simp only [sm]; exact (sm_zero (fun _ _ => rfl)).symm
  | succ n ih => simp only [sm]; rw [ih, ← sm_add]
theorem sm_one {n : Nat} {f : Nat → Int} {j : Nat} (hj : j < n) (h : ∀ k, k < n → k ≠ j → f k = 0) : sm n f = f j := by
  induction n with
  | zero => omega
  | succ n ih =>
    simp only [sm]
    by_cases e : j = n
    · subst e; rw [sm_zero (fun k hk => h k (by omega) (by omega))]; omega
    · rw [ih (by omega) (fun k hk hne => h k (by omega) hne), h n (by omega) (fun h => e h.symm)]; omega
theorem sm_two {n : Nat} {f : Nat → Int} {i j : Nat} (hij : i < j) (hj : j < n) (h : ∀ k, k < n → k ≠ i → k ≠ j → f k = 0) : sm n f = f i + f j := by
  induction n with
  | zero => omega
  | succ n ih =>
    simp only [sm]
    by_cases e : j = n
    · subst e; rw [sm_one hij (fun k hk hne => h k (by omega) hne (by omega))]
    · rw [ih (by omega) (fun k hk h1 h2 => h k (by omega) h1 h2), h n (by omega) (by omega) (fun h => e h.symm)]; omega
def sk (j c : Nat) : Nat := if c < j then c else c + 1
def sg (n : Nat) : Int := if n % 2 = 0 then 1 else -1
theorem sg_s (n : Nat) : sg (n + 1) = - sg n := by
  unfold sg; rcases Nat.mod_two_eq_zero_or_one n with h | h
  · rw [if_pos h, if_neg (show ¬ (n + 1) % 2 = 0 by omega)]
  · rw [if_neg (show ¬ n % 2 = 0 by omega), if_pos (show (n + 1) % 2 = 0 by omega)]; rfl
theorem sg_ss (n : Nat) : sg (n + 2) = sg n := by rw [sg_s, sg_s]; omega
theorem sg_sq (n : Nat) : sg n * sg n = 1 := by
  unfold sg; split <;> rfl
theorem sg_add (a b : Nat) : sg (a + b) = sg a * sg b := by
  induction b with
  | zero => simp [sg]
  | succ b ih => rw [← Nat.add_assoc, sg_s, ih, sg_s, Int.mul_neg]
/-- the last row's expansion -/
def dt : Nat → (Nat → Nat → Int) → Int
  | 0, _ => 1
  | n + 1, A => sm (n + 1) (fun j => sg (n + j) * (A n j * dt n (fun r c => A r (sk j c))))
theorem sk_lt {n j c : Nat} (hc : c < n) : sk j c < n + 1 := by unfold sk; split <;> omega
theorem dt_congr {n : Nat} {A B : Nat → Nat → Int} (h : ∀ r c, r < n → c < n → A r c = B r c) : dt n A = dt n B := by
  induction n generalizing A B with
  | zero => rfl
  | succ n ih =>
    simp only [dt]
    refine sm_congr (fun j hj => ?_)
    rw [h n j (by omega) hj, ih (fun r c hr hc => h r _ (by omega) (sk_lt hc))]
/-- row i is replaced -/
def sr (A : Nat → Nat → Int) (i : Nat) (v : Nat → Int) : Nat → Nat → Int := fun r c => if r = i then v c else A r c
theorem dt_row (n i : Nat) (hi : i < n) (A : Nat → Nat → Int) (s t : Int) (u v : Nat → Int) : dt n (sr A i (fun c => s * u c + t * v c)) = s * dt n (sr A i u) + t * dt n (sr A i v) := by
  induction n generalizing A i u v with
  | zero => omega
  | succ n ih =>
    simp only [dt]
    rw [← sm_mul, ← sm_mul, ← sm_add]
    refine sm_congr (fun j hj => ?_)
    by_cases e : i = n
    · subst e
      have e1 : ∀ w : Nat → Int, dt i (fun r c => sr A i w r (sk j c)) = dt i (fun r c => A r (sk j c)) := fun w => dt_congr (fun r c hr hc => by unfold sr; rw [if_neg (by omega)])
      rw [e1, e1, e1]
      simp only [sr, if_true]
      grind
    · have e1 : ∀ w : Nat → Int, dt n (fun r c => sr A i w r (sk j c)) = dt n (sr (fun r c => A r (sk j c)) i (fun c => w (sk j c))) := fun w => dt_congr (fun r c hr hc => by unfold sr; rfl)
      have e2 : ∀ w : Nat → Int, sr A i w n j = A n j := fun w => by unfold sr; rw [if_neg (by omega)]
      rw [e1, e1, e1, e2, e2, e2, ih i (by omega)]
      grind

/-- two neighbouring columns are equal -/
theorem dt_col_eq (n j : Nat) (hj : j + 1 < n) (A : Nat → Nat → Int) (h : ∀ r, r < n → A r j = A r (j + 1)) : dt n A = 0 := by
  induction n generalizing A j with
  | zero => omega
  | succ n ih =>
    simp only [dt]
    rw [sm_two (i := j) (j := j + 1) (by omega) hj]
    · have e1 : dt n (fun r c => A r (sk j c)) = dt n (fun r c => A r (sk (j + 1) c)) := dt_congr (fun r c hr hc => by
        unfold sk
        by_cases e : c = j
        · subst e; rw [if_neg (by omega), if_pos (by omega)]; exact (h r (by omega)).symm
        · by_cases e2 : c < j
          · rw [if_pos e2, if_pos (by omega)]
          · rw [if_neg e2, if_neg (by omega)])
      rw [e1, h n (by omega), show n + (j + 1) = n + j + 1 from rfl, sg_s]
      grind
    · intro k hk h1 h2
      by_cases e : k < j
      · have : dt n (fun r c => A r (sk k c)) = 0 := ih (j - 1) (by omega) _ (fun r hr => by
          unfold sk
          rw [if_neg (by omega), if_neg (by omega), show j - 1 + 1 = j by omega]; exact h r (by omega))
        rw [this]; simp
      · have : dt n (fun r c => A r (sk k c)) = 0 := ih j (by omega) _ (fun r hr => by
          unfold sk
          rw [if_pos (by omega), if_pos (by omega)]; exact h r (by omega))
        rw [this]; simp
/-- a double sum without its diagonal -/
theorem sm_pairs (n : Nat) (t : Nat → Nat → Int) (h : ∀ r s, r ≤ s → s < n → t r s + t (s + 1) r = 0) : sm (n + 1) (fun r => sm n (fun s => t r s)) = 0 := by
  induction n generalizing t with
  | zero => rfl
  | succ n ih =>
    have e1 : sm (n + 1 + 1) (fun r => sm (n + 1) (fun s => t r s)) = sm (n + 1) (fun r => sm (n + 1) (fun s => t r s)) + sm (n + 1) (fun s => t (n + 1) s) := rfl
    have e2 : sm (n + 1) (fun r => sm (n + 1) (fun s => t r s)) = sm (n + 1) (fun r => sm n (fun s => t r s)) + sm (n + 1) (fun r => t r n) := by
      rw [← sm_add]; exact sm_congr (fun k hk => rfl)
    rw [e1, e2, ih t (fun r s h1 h2 => h r s h1 (by omega)), Int.zero_add, ← sm_add]
    exact sm_zero (fun k hk => h k n (by omega) (by omega))
theorem sk_sk (r s c : Nat) (h : r ≤ s) : sk r (sk s c) = sk (s + 1) (sk r c) := by
  unfold sk
  by_cases h1 : c < r
  · rw [if_pos (show c < s by omega), if_pos h1, if_pos (show c < s + 1 by omega)]
  · by_cases h2 : c < s
    · rw [if_pos h2, if_neg h1, if_pos (show c + 1 < s + 1 by omega)]
    · rw [if_neg h2, if_neg h1, if_neg (show ¬ c + 1 < r by omega), if_neg (show ¬ c + 1 < s + 1 by omega)]
/-- two neighbouring rows are equal -/
theorem dt_adj (n i : Nat) (hi : i + 1 < n) (A : Nat → Nat → Int) (h : ∀ c, c < n → A i c = A (i + 1) c) : dt n A = 0 := by
  induction n generalizing A with
  | zero => omega
  | succ n ih =>
    by_cases e : i + 1 = n
    · subst e
      have e1 : dt (i + 1 + 1) A = sm (i + 1 + 1) (fun r => sm (i + 1) (fun s => sg (i + 1 + r) * (A (i + 1) r * (sg (i + s) * (A i (sk r s) * dt i (fun a c => A a (sk r (sk s c)))))))) := by
        rw [dt]; refine sm_congr (fun j hj => ?_)
        rw [dt, ← sm_mul, ← sm_mul]
      rw [e1]
      refine sm_pairs (i + 1) _ (fun r s h1 h2 => ?_)
      have e2 : sk r s = s + 1 := by unfold sk; rw [if_neg (by omega)]
      have e3 : sk (s + 1) r = r := by unfold sk; rw [if_pos (by omega)]
      have e4 : dt i (fun a c => A a (sk (s + 1) (sk r c))) = dt i (fun a c => A a (sk r (sk s c))) := dt_congr (fun a c _ _ => by rw [sk_sk r s c h1])
      rw [e4, e2, e3, h r (by omega), h (s + 1) (by omega), show i + 1 + r = (i + r) + 1 by omega, show i + 1 + (s + 1) = (i + s) + 2 by omega, sg_s, sg_ss]
      grind
    · rw [dt]
      refine sm_zero (fun j hj => ?_)
      rw [ih (by omega) _ (fun c hc => h (sk j c) (sk_lt hc))]; simp
theorem sr_self (A : Nat → Nat → Int) (i : Nat) : sr A i (A i) = A := by
  funext r c; unfold sr; split
  · next h => rw [h]
  · rfl
theorem sr_sr (A : Nat → Nat → Int) (i : Nat) (u v : Nat → Int) : sr (sr A i u) i v = sr A i v := by
  funext r c; unfold sr; split <;> rfl
theorem sr_comm (A : Nat → Nat → Int) {i j : Nat} (h : i ≠ j) (u v : Nat → Int) : sr (sr A i u) j v = sr (sr A j v) i u := by
  funext r c; unfold sr; by_cases h1 : r = j
  · rw [if_pos h1, if_neg (by omega)]; rw [if_pos h1]
  · rw [if_neg h1]; rw [if_neg h1]
theorem dt_radd (n i : Nat) (hi : i < n) (A : Nat → Nat → Int) (u v : Nat → Int) : dt n (sr A i (fun c => u c + v c)) = dt n (sr A i u) + dt n (sr A i v) := by
  have := dt_row n i hi A 1 1 u v
  simp only [Int.one_mul] at this; exact this
/-- neighbours exchanged -/
theorem dt_swap1 (n i : Nat) (hi : i + 1 < n) (A : Nat → Nat → Int) (u v : Nat → Int) : dt n (sr (sr A i u) (i + 1) v) = - dt n (sr (sr A i v) (i + 1) u) := by
  have hz : ∀ w : Nat → Int, dt n (sr (sr A i w) (i + 1) w) = 0 := fun w => dt_adj n i hi _ (fun c hc => by
    simp only [sr]; rw [if_neg (by omega), if_pos trivial, if_pos trivial])
  have h := hz (fun c => u c + v c)
  rw [dt_radd n (i + 1) hi, sr_comm A (by omega : i ≠ i + 1), sr_comm A (by omega : i ≠ i + 1) (fun c => u c + v c) v, dt_radd n i (by omega), dt_radd n i (by omega), ← sr_comm A (by omega : i ≠ i + 1), ← sr_comm A (by omega : i ≠ i + 1), ← sr_comm A (by omega : i ≠ i + 1), ← sr_comm A (by omega : i ≠ i + 1), hz u, hz v] at h
  omega
/-- two equal rows -/
theorem dt_req (n d i : Nat) (hi : i + d + 1 < n) (A : Nat → Nat → Int) (h : ∀ c, c < n → A i c = A (i + d + 1) c) : dt n A = 0 := by
  induction d generalizing A with
  | zero => exact dt_adj n i hi A h
  | succ d ih =>
    have e : A = sr (sr A (i + d + 1) (A (i + d + 1))) (i + d + 1 + 1) (A (i + d + 1 + 1)) := by rw [sr_self, sr_self]
    rw [e, dt_swap1 n (i + d + 1) (by omega), ih (by omega)]
    · rfl
    · intro c hc
      simp only [sr]
      rw [if_neg (by omega), if_neg (by omega), if_neg (by omega), if_pos trivial]
      exact h c hc
theorem dt_req' {n i j : Nat} (hij : i < j) (hj : j < n) {A : Nat → Nat → Int} (h : ∀ c, c < n → A i c = A j c) : dt n A = 0 :=
  dt_req n (j - i - 1) i (by omega) A (fun c hc => by rw [show i + (j - i - 1) + 1 = j by omega]; exact h c hc)
theorem dt_req2 {n i j : Nat} (hij : i ≠ j) (hi : i < n) (hj : j < n) {A : Nat → Nat → Int} (h : ∀ c, c < n → A i c = A j c) : dt n A = 0 := by
  by_cases e : i < j
  · exact dt_req' e hj h
  · exact dt_req' (i := j) (j := i) (by omega) hi (fun c hc => (h c hc).symm)
/-- any two exchanged -/
theorem dt_swap {n i j : Nat} (hij : i ≠ j) (hi : i < n) (hj : j < n) (A : Nat → Nat → Int) (u v : Nat → Int) : dt n (sr (sr A i u) j v) = - dt n (sr (sr A i v) j u) := by
  have hz : ∀ w : Nat → Int, dt n (sr (sr A i w) j w) = 0 := fun w => dt_req2 hij hi hj (fun c hc => by
    simp only [sr]; rw [if_neg hij, if_pos trivial, if_pos trivial])
  have h := hz (fun c => u c + v c)
  rw [dt_radd n j hj, sr_comm A hij, sr_comm A hij (fun c => u c + v c) v, dt_radd n i hi, dt_radd n i hi, ← sr_comm A hij, ← sr_comm A hij, ← sr_comm A hij, ← sr_comm A hij, hz u, hz v] at h
  omega
/-- a row gets multiples of the rows before k -/
theorem dt_comb {n i k : Nat} (hi : i < n) (hk : k ≤ i) (A : Nat → Nat → Int) (s : Int) (c : Nat → Int) : dt n (sr A i (fun j => s * A i j - sm k (fun m => c m * A m j))) = s * dt n A := by
  induction k with
  | zero =>
    have := dt_row n i hi A s 0 (A i) (A i)
    rw [sr_self] at this
    simp only [Int.zero_mul, Int.add_zero] at this
    rw [← this]; congr 2; funext j; simp [sm]
  | succ k ih =>
    have h1 := ih (by omega)
    have h2 := dt_row n i hi A 1 (- c k) (fun j => s * A i j - sm k (fun m => c m * A m j)) (A k)
    have h3 : dt n (sr A i (A k)) = 0 := dt_req2 (i := k) (j := i) (by omega) (by omega) hi (fun q hq => by
      simp only [sr]; rw [if_neg (by omega), if_pos trivial])
    rw [h3, h1] at h2
    have e : (fun j => s * A i j - sm (k + 1) (fun m => c m * A m j)) = (fun j => 1 * (s * A i j - sm k (fun m => c m * A m j)) + - c k * A k j) := by
      funext j; simp only [sm]; grind
    rw [e, h2]; omega
/-- the last row has its last entry alone -/
theorem dt_last {n : Nat} {A : Nat → Nat → Int} (h : ∀ c, c < n → A n c = 0) : dt (n + 1) A = A n n * dt n A := by
  rw [dt, sm_one (j := n) (by omega) (fun k hk hne => by rw [h k (by omega)]; simp)]
  have e : dt n (fun r c => A r (sk n c)) = dt n A := dt_congr (fun r c hr hc => by unfold sk; rw [if_pos hc])
  have e2 : sg (n + n) = 1 := by unfold sg; rw [if_pos (by omega)]
  rw [e, e2, Int.one_mul]
/-- the last two rows have their last two entries alone -/
theorem dt_last2 {n : Nat} {A : Nat → Nat → Int} (h : ∀ c, c < n → A n c = 0) (h2 : ∀ c, c < n → A (n + 1) c = 0) : dt (n + 2) A = (A n n * A (n + 1) (n + 1) - A (n + 1) n * A n (n + 1)) * dt n A := by
  rw [dt, sm_two (i := n) (j := n + 1) (by omega) (by omega) (fun k hk h3 h4 => by rw [h2 k (by omega)]; simp)]
  have e : dt (n + 1) (fun r c => A r (sk n c)) = A n (n + 1) * dt n A := by
    rw [dt_last (fun c hc => by unfold sk; rw [if_pos hc]; exact h c hc)]
    have : sk n n = n + 1 := by unfold sk; rw [if_neg (by omega)]
    rw [this]; congr 1
    exact dt_congr (fun r c hr hc => by unfold sk; rw [if_pos hc])
  have e' : dt (n + 1) (fun r c => A r (sk (n + 1) c)) = A n n * dt n A := by
    rw [dt_last (fun c hc => by unfold sk; rw [if_pos (by omega)]; exact h c hc)]
    have : sk (n + 1) n = n := by unfold sk; rw [if_pos (by omega)]
    rw [this]; congr 1
    exact dt_congr (fun r c hr hc => by unfold sk; rw [if_pos (by omega)])
  have e2 : sg (n + 1 + n) = -1 := by unfold sg; rw [if_neg (by omega)]
  have e3 : sg (n + 1 + (n + 1)) = 1 := by unfold sg; rw [if_pos (by omega)]
  rw [e, e', e2, e3]; grind
/-- rows from k are 0 up to column k -/
theorem dt_low {n k : Nat} (hk : k < n) {A : Nat → Nat → Int} (h : ∀ r c, k ≤ r → r < n → c ≤ k → A r c = 0) : dt n A = 0 := by
  induction n generalizing A with
  | zero => omega
  | succ n ih =>
    rw [dt]
    refine sm_zero (fun j hj => ?_)
    by_cases e : j ≤ k
    · rw [h n j (by omega) (by omega) e]; simp
    · rw [ih (by omega) (fun r c h1 h2 h3 => by
        show A r (sk j c) = 0
        unfold sk; rw [if_pos (by omega)]; exact h r c h1 (by omega) h3)]; simp
/-- a bound -/
theorem sm_abs {n : Nat} {f : Nat → Int} {g : Nat → Int} (h : ∀ k, k < n → -(g k) ≤ f k ∧ f k ≤ g k) : -(sm n g) ≤ sm n f ∧ sm n f ≤ sm n g := by
  induction n with
  | zero => simp [sm]
  | succ n ih => simp only [sm]; have := ih (fun k hk => h k (by omega)); have := h n (by omega); omega

def ab (x : Int) : Int := if x < 0 then -x else x
theorem ab_nn (x : Int) : 0 ≤ ab x := by unfold ab; split <;> omega
theorem ab_le {x b : Int} : ab x ≤ b ↔ -b ≤ x ∧ x ≤ b := by unfold ab; split <;> omega
theorem ab_mul (x y : Int) : ab (x * y) = ab x * ab y := by
  unfold ab
  by_cases h1 : x < 0 <;> by_cases h2 : y < 0
  · rw [if_neg (by have := Int.mul_pos_of_neg_of_neg h1 h2; omega), if_pos h1, if_pos h2]; grind
  · rw [if_pos h1, if_neg h2]
    by_cases h3 : y = 0
    · subst h3; simp
    · rw [if_pos (Int.mul_neg_of_neg_of_pos h1 (by omega))]; grind
  · rw [if_neg h1, if_pos h2]
    by_cases h3 : x = 0
    · subst h3; simp
    · rw [if_pos (Int.mul_neg_of_pos_of_neg (by omega) h2)]; grind
  · rw [if_neg (by have := Int.mul_nonneg (show 0 ≤ x by omega) (show 0 ≤ y by omega); omega), if_neg h1, if_neg h2]
theorem ab_add (x y : Int) : ab (x + y) ≤ ab x + ab y := by unfold ab; split <;> split <;> split <;> omega
theorem ab_sm (n : Nat) (f : Nat → Int) : ab (sm n f) ≤ sm n (fun k => ab (f k)) := by
  induction n with
  | zero => exact Int.le_refl 0
  | succ n ih => simp only [sm]; have := ab_add (sm n f) (f n); omega
theorem ab_sg (n : Nat) : ab (sg n) = 1 := by unfold sg; split <;> rfl
/-- leaving out one of the numbers -/
theorem sm_sk {n j : Nat} (hj : j < n + 1) {f : Nat → Int} (h : ∀ k, k < n + 1 → 0 ≤ f k) : sm n (fun c => f (sk j c)) ≤ sm (n + 1) f := by
  induction n with
  | zero => simp only [sm]; have := h 0 (by omega); omega
  | succ n ih =>
    by_cases e : j = n + 1
    · subst e
      have : sm (n + 1) (fun c => f (sk (n + 1) c)) = sm (n + 1) f := sm_congr (fun k hk => by unfold sk; rw [if_pos hk])
      rw [this]; simp only [sm]; have := h (n + 1) (by omega); omega
    · have h1 := ih (by omega) (fun k hk => h k (by omega))
      have h2 : sk j n = n + 1 := by unfold sk; rw [if_neg (by omega)]
      simp only [sm] at h1 ⊢
      rw [h2]; omega
theorem dt_bound {n : Nat} {b : Int} (hb : 0 ≤ b) {A : Nat → Nat → Int} (h : ∀ r, r < n → sm n (fun c => ab (A r c)) ≤ b) : ab (dt n A) ≤ b ^ n := by
  induction n generalizing A with
  | zero => rw [Int.pow_zero]; exact Int.le_refl 1
  | succ n ih =>
    have h1 : ∀ j, j < n + 1 → ab (dt n (fun r c => A r (sk j c))) ≤ b ^ n := fun j hj => ih (fun r hr => by
      have h2 := sm_sk (n := n) (j := j) hj (f := fun c => ab (A r c)) (fun k _ => ab_nn _)
      have h3 := h r (by omega)
      exact Int.le_trans h2 h3)
    rw [dt]
    refine Int.le_trans (ab_sm _ _) ?_
    have h4 : sm (n + 1) (fun k => ab (sg (n + k) * (A n k * dt n (fun r c => A r (sk k c))))) ≤ sm (n + 1) (fun k => b ^ n * ab (A n k)) := sm_le (fun k hk => by
      rw [ab_mul, ab_mul, ab_sg, Int.one_mul, Int.mul_comm]
      exact Int.mul_le_mul_of_nonneg_right (h1 k hk) (ab_nn _))
    refine Int.le_trans h4 ?_
    rw [sm_mul, Int.pow_succ]
    exact Int.mul_le_mul_of_nonneg_left (h n (by omega)) (Int.pow_nonneg hb)
theorem sm_mono {m : Nat} {f : Nat → Int} (h : ∀ k, k < m → 0 ≤ f k) {a : Nat} (ha : a ≤ m) : sm a f ≤ sm m f := by
  induction m with
  | zero => rw [show a = 0 by omega]; exact Int.le_refl _
  | succ m ih =>
    by_cases e : a = m + 1
    · rw [e]; exact Int.le_refl _
    · have h1 := ih (fun k hk => h k (by omega)) (by omega)
      have h2 := h m (by omega)
      show sm a f ≤ sm m f + f m
      omega
/-- a bound of a smaller square, its rows and columns chosen -/
theorem sm_sel {n m : Nat} {f : Nat → Int} (h : ∀ k, k < m → 0 ≤ f k) {j : Nat} (hj : n ≤ j) (hjm : j < m) : sm (n + 1) (fun c => f (if c < n then c else j)) ≤ sm m f := by
  have e : sm (n + 1) (fun c => f (if c < n then c else j)) = sm n f + f j := by
    simp only [sm]; rw [if_neg (by omega)]; congr 1
    exact sm_congr (fun k hk => by rw [if_pos hk])
  have h1 : sm n f ≤ sm j f := sm_mono (fun k hk => h k (by omega)) hj
  have h2 : sm (j + 1) f ≤ sm m f := sm_mono h (by omega)
  have h3 : sm (j + 1) f = sm j f + f j := rfl
  omega
/-! Elimination without fractions. -/
/-- rows 0 .. k - 1 and i, columns 0 .. k - 1 and j -/
def bd (A : Nat → Nat → Int) (k i j : Nat) : Nat → Nat → Int := fun r c => A (if r < k then r else i) (if c < k then c else j)
/-- step k: what stands in row i comes of row i of A times D, less rows before k -/
def elr (n : Nat) (A W : Nat → Nat → Int) (D : Int) (k i : Nat) : Prop :=
  ∃ (s : Int) (c : Nat → Int), s ≠ 0 ∧ ∀ j, j < n → s * (D * A i j) - sm k (fun m => c m * A m j) = s * (if j < k then 0 else W i j)
def elim (n : Nat) (A W : Nat → Nat → Int) (D : Int) (k : Nat) : Prop :=
  (D ≠ 0) ∧
  (D = dt k A) ∧
  (∀ i, k ≤ i → i < n → elr n A W D k i)
theorem elim.nz {n : Nat} {A W : Nat → Nat → Int} {D : Int} {k : Nat} (h_ : elim n A W D k) : D ≠ 0 := h_.1
theorem elim.lead {n : Nat} {A W : Nat → Nat → Int} {D : Int} {k : Nat} (h_ : elim n A W D k) : D = dt k A := h_.2.1
theorem elim.row {n : Nat} {A W : Nat → Nat → Int} {D : Int} {k : Nat} (h_ : elim n A W D k) : ∀ i, k ≤ i → i < n → elr n A W D k i := h_.2.2
theorem elim_zero (n : Nat) (A : Nat → Nat → Int) : elim n A A 1 0 := ⟨by decide, rfl, fun i _ hi => ⟨1, fun _ => 0, by decide, fun j hj => by simp [sm]⟩⟩
/-- what stands there is a minor -/
theorem elim_minor {n : Nat} {A W : Nat → Nat → Int} {D : Int} {k : Nat} (E : elim n A W D k) {i j : Nat} (hi : k ≤ i) (hin : i < n) (hj : k ≤ j) (hjn : j < n) : W i j = dt (k + 1) (bd A k i j) := by
  obtain ⟨s, c, hs, hc⟩ := E.row i hi hin
  have h1 := dt_comb (n := k + 1) (i := k) (k := k) (by omega) (Nat.le_refl _) (bd A k i j) (s * D) c
  have h2 : dt (k + 1) (sr (bd A k i j) k (fun q => s * D * bd A k i j k q - sm k (fun m => c m * bd A k i j m q))) = s * W i j * D := by
    rw [dt_last (fun q hq => by
      simp only [sr, if_true, bd]
      have e2 : sm k (fun m => c m * A (if m < k then m else i) (if q < k then q else j)) = sm k (fun m => c m * A m q) := sm_congr (fun m hm => by rw [if_pos hm, if_pos hq])
      rw [e2, if_neg (Nat.lt_irrefl k), if_pos hq]
      have := hc q (by omega)
      rw [if_pos hq] at this
      rw [Int.mul_assoc]; omega)]
    have e1 : dt k (sr (bd A k i j) k (fun q => s * D * bd A k i j k q - sm k (fun m => c m * bd A k i j m q))) = D := by
      rw [E.lead]; exact dt_congr (fun r q hr hq => by simp only [sr]; rw [if_neg (by omega)]; simp only [bd]; rw [if_pos hr, if_pos hq])
    rw [e1]; congr 1
    simp only [sr, if_true, bd]
    have e2 : sm k (fun m => c m * A (if m < k then m else i) (if k < k then k else j)) = sm k (fun m => c m * A m j) := sm_congr (fun m hm => by rw [if_pos hm, if_neg (Nat.lt_irrefl k)])
    rw [e2, if_neg (Nat.lt_irrefl k), if_neg (Nat.lt_irrefl k)]
    have := hc j hjn
    rw [if_neg (by omega)] at this
    rw [Int.mul_assoc]; exact this
  rw [h1] at h2
  have h3 : s * D * (dt (k + 1) (bd A k i j)) = s * D * W i j := by rw [h2]; grind
  exact (Int.eq_of_mul_eq_mul_left (Int.mul_ne_zero hs E.nz) h3).symm
/-- rows 0 .. k - 1, k and i, columns 0 .. k - 1, k and j -/
def bd2 (A : Nat → Nat → Int) (k i j : Nat) : Nat → Nat → Int := fun r c => A (if r < k + 1 then r else i) (if c < k + 1 then c else j)
theorem alg1 (s s' D x x1 x2 x3 x4 : Int) (h3 : s' * D * (s * D * x) = (s * x1 * (s' * x2) - s' * x3 * (s * x4)) * D) : (s * s' * D) * (D * x) = (s * s' * D) * (x1 * x2 - x3 * x4) := by grind
theorem alg2 (s s' D p f a b z z' : Int) (a1 : s * (D * a) - z = s * 0) (a2 : s' * (D * b) - z' = s' * 0) : s * s' * D * (p * b) - (s * p * z' - s' * f * z + s * s' * D * f * a) = s * s' * D * 0 := by grind
theorem alg3 (s s' D p f a b z z' : Int) (a1 : s * (D * a) - z = s * p) (a2 : s' * (D * b) - z' = s' * f) : s * s' * D * (p * b) - (s * p * z' - s' * f * z + s * s' * D * f * a) = s * s' * D * 0 := by grind
theorem alg4 (s s' D p f a b z z' x y v : Int) (a1 : s * (D * a) - z = s * x) (a2 : s' * (D * b) - z' = s' * y) (a3 : D * v = p * y - f * x) : s * s' * D * (p * b) - (s * p * z' - s' * f * z + s * s' * D * f * a) = s * s' * D * v := by grind
theorem elim_div {n : Nat} {A W : Nat → Nat → Int} {D : Int} {k : Nat} (E : elim n A W D k) {i j : Nat} (hi : k < i) (hin : i < n) (hj : k < j) (hjn : j < n) : W k k * W i j - W i k * W k j = D * dt (k + 2) (bd A (k + 1) i j) := by
  obtain ⟨s, c, hs, hc⟩ := E.row k (Nat.le_refl _) (by omega)
  obtain ⟨s', c', hs', hc'⟩ := E.row i (by omega) hin
  let B := bd A (k + 1) i j
  have hB : ∀ m q, m < k → B m q = A m (if q < k + 1 then q else j) := fun m q hm => by show A _ _ = _; rw [if_pos (show m < k + 1 by omega)]
  have hBk : ∀ q, B k q = A k (if q < k + 1 then q else j) := fun q => by show A _ _ = _; rw [if_pos (show k < k + 1 by omega)]
  have hBi : ∀ q, B (k + 1) q = A i (if q < k + 1 then q else j) := fun q => by show A _ _ = _; rw [if_neg (Nat.lt_irrefl (k + 1))]
  let B1 := sr B k (fun q => s * D * B k q - sm k (fun m => c m * B m q))
  let B2 := sr B1 (k + 1) (fun q => s' * D * B1 (k + 1) q - sm k (fun m => c' m * B1 m q))
  have h1 : dt (k + 2) B1 = s * D * dt (k + 2) B := dt_comb (n := k + 2) (i := k) (k := k) (by omega) (Nat.le_refl _) B (s * D) c
  have h2 : dt (k + 2) B2 = s' * D * dt (k + 2) B1 := dt_comb (n := k + 2) (i := k + 1) (k := k) (by omega) (by omega) B1 (s' * D) c'
  have hB1 : ∀ m q, m ≠ k → B1 m q = B m q := fun m q hm => by show sr _ _ _ _ _ = _; unfold sr; rw [if_neg hm]
  have r1 : ∀ q, q < k + 2 → B2 k q = s * (if q < k then 0 else W k (if q < k + 1 then q else j)) := fun q hq => by
    have e1 : B2 k q = s * D * B k q - sm k (fun m => c m * B m q) := by
      show sr _ _ _ _ _ = _; unfold sr; rw [if_neg (by omega)]; show sr _ _ _ _ _ = _; unfold sr; rw [if_pos rfl]
    have e2 : sm k (fun m => c m * B m q) = sm k (fun m => c m * A m (if q < k + 1 then q else j)) := sm_congr (fun m hm => by rw [hB m q hm])
    rw [e1, e2, hBk]
    have := hc (if q < k + 1 then q else j) (by split <;> omega)
    rw [Int.mul_assoc, this]; congr 1
    by_cases h3 : q < k
    · rw [if_pos h3, if_pos (show q < k + 1 by omega), if_pos h3]
    · rw [if_neg h3, if_neg (by split <;> omega)]
  have r2 : ∀ q, q < k + 2 → B2 (k + 1) q = s' * (if q < k then 0 else W i (if q < k + 1 then q else j)) := fun q hq => by
    have e1 : B2 (k + 1) q = s' * D * B (k + 1) q - sm k (fun m => c' m * B m q) := by
      show sr _ _ _ _ _ = _; unfold sr; rw [if_pos rfl]
      show s' * D * B1 (k + 1) q - sm k (fun m => c' m * B1 m q) = _
      rw [hB1 (k + 1) q (by omega)]; congr 1
      exact sm_congr (fun m hm => by rw [hB1 _ _ (by omega)])
    have e2 : sm k (fun m => c' m * B m q) = sm k (fun m => c' m * A m (if q < k + 1 then q else j)) := sm_congr (fun m hm => by rw [hB m q hm])
    rw [e1, e2, hBi]
    have := hc' (if q < k + 1 then q else j) (by split <;> omega)
    rw [Int.mul_assoc, this]; congr 1
    by_cases h3 : q < k
    · rw [if_pos h3, if_pos (show q < k + 1 by omega), if_pos h3]
    · rw [if_neg h3, if_neg (by split <;> omega)]
  have h3 := dt_last2 (n := k) (A := B2) (fun q hq => by rw [r1 q (by omega), if_pos hq, Int.mul_zero]) (fun q hq => by rw [r2 q (by omega), if_pos hq, Int.mul_zero])
  have e3 : dt k B2 = D := by
    rw [E.lead]; exact dt_congr (fun r q hr hq => by
      show sr _ _ _ _ _ = _; unfold sr; rw [if_neg (by omega), hB1 _ _ (by omega), hB r q hr, if_pos (by omega)])
  rw [e3, r1 k (by omega), r1 (k + 1) (by omega), r2 k (by omega), r2 (k + 1) (by omega), h2, h1] at h3
  rw [if_neg (Nat.lt_irrefl k), if_neg (Nat.lt_irrefl k), if_neg (show ¬ k + 1 < k by omega), if_neg (show ¬ k + 1 < k by omega), if_pos (show k < k + 1 by omega), if_neg (Nat.lt_irrefl (k + 1))] at h3
  have h4 : (s * s' * D) * (D * dt (k + 2) B) = (s * s' * D) * (W k k * W i j - W i k * W k j) := by
    generalize dt (k + 2) B = x at h3 ⊢
    generalize W k k = x1 at h3 ⊢; generalize W i j = x2 at h3 ⊢; generalize W i k = x3 at h3 ⊢; generalize W k j = x4 at h3 ⊢
    exact alg1 _ _ _ _ _ _ _ _ h3
  exact (Int.eq_of_mul_eq_mul_left (Int.mul_ne_zero (Int.mul_ne_zero hs hs') E.nz) h4).symm
theorem elim_next {n : Nat} {A W W' : Nat → Nat → Int} {D : Int} {k : Nat} (E : elim n A W D k) (hk : k < n) (hp : W k k ≠ 0) (hW : ∀ i j, k < i → i < n → k < j → j < n → D * W' i j = W k k * W i j - W i k * W k j) : elim n A W' (W k k) (k + 1) := by
  refine ⟨hp, ?_, fun i hi hin => ?_⟩
  · rw [elim_minor E (Nat.le_refl _) hk (Nat.le_refl _) hk]
    exact dt_congr (fun r c hr hc => by simp only [bd]; congr 1 <;> split <;> omega)
  · obtain ⟨s, c, hs, hc⟩ := E.row k (Nat.le_refl _) hk
    obtain ⟨s', c', hs', hc'⟩ := E.row i (by omega) hin
    refine ⟨s * s' * D, fun m => if m < k then s * W k k * c' m - s' * W i k * c m else s * s' * D * W i k, Int.mul_ne_zero (Int.mul_ne_zero hs hs') E.nz, fun j hj => ?_⟩
    have e1 : sm (k + 1) (fun m => (if m < k then s * W k k * c' m - s' * W i k * c m else s * s' * D * W i k) * A m j) = s * W k k * sm k (fun m => c' m * A m j) - s' * W i k * sm k (fun m => c m * A m j) + s * s' * D * W i k * A k j := by
      simp only [sm]; rw [if_neg (Nat.lt_irrefl k), ← sm_mul, ← sm_mul, ← sm_sub]; congr 1
      exact sm_congr (fun m hm => by rw [if_pos hm]; grind)
    rw [e1]
    have a1 := hc j hj
    have a2 := hc' j hj
    by_cases h1 : j < k
    · rw [if_pos h1] at a1 a2
      rw [if_pos (show j < k + 1 by omega)]; exact alg2 _ _ _ _ _ _ _ _ _ a1 a2
    · rw [if_neg h1] at a1 a2
      by_cases h2 : j = k
      · subst h2; rw [if_pos (show j < j + 1 by omega)]; exact alg3 _ _ _ _ _ _ _ _ _ a1 a2
      · rw [if_neg (show ¬ j < k + 1 by omega)]
        have a3 := hW i j (by omega) hin (by omega) hj
        exact alg4 _ _ _ _ _ _ _ _ _ _ _ _ a1 a2 a3
/-- rows k and p exchanged -/
def sw (A : Nat → Nat → Int) (k p : Nat) : Nat → Nat → Int := fun r c => A (if r = k then p else if r = p then k else r) c
theorem dt_sw {n k p : Nat} (hk : k < n) (hp : p < n) (h : k ≠ p) (A : Nat → Nat → Int) : dt n (sw A k p) = - dt n A := by
  have e1 : sw A k p = sr (sr A k (A p)) p (A k) := by
    funext r c; unfold sw sr
    by_cases h1 : r = p
    · rw [if_pos h1, if_neg (by omega), if_pos h1]
    · rw [if_neg h1]
      by_cases h2 : r = k
      · rw [if_pos h2, if_pos h2, if_neg h1]
      · rw [if_neg h2, if_neg h2, if_neg h1]
  rw [e1, dt_swap h hk hp, sr_self, sr_self]
theorem elim_sw {n : Nat} {A W : Nat → Nat → Int} {D : Int} {k p : Nat} (E : elim n A W D k) (hp : k ≤ p) (hpn : p < n) : elim n (sw A k p) (sw W k p) D k := by
  have hlow : ∀ m j, m < k → sw A k p m j = A m j := fun m j hm => by unfold sw; rw [if_neg (by omega), if_neg (by omega)]
  refine ⟨E.nz, ?_, fun i hi hin => ?_⟩
  · rw [E.lead]; exact dt_congr (fun r c hr hc => (hlow r c hr).symm)
  · obtain ⟨s, c, hs, hc⟩ := E.row (if i = k then p else if i = p then k else i) (by split; omega; split <;> omega) (by split; omega; split <;> omega)
    refine ⟨s, c, hs, fun j hj => ?_⟩
    have e : sm k (fun m => c m * sw A k p m j) = sm k (fun m => c m * A m j) := sm_congr (fun m hm => by rw [hlow m j hm])
    rw [e]; exact hc j hj
/-- a column without pivot -/
theorem elim_none {n : Nat} {A W : Nat → Nat → Int} {D : Int} {k : Nat} (E : elim n A W D k) (hk : k < n) (h : ∀ i, k ≤ i → i < n → W i k = 0) : dt n A = 0 := by
  -- rows from t on are replaced
  have key : ∀ t, k ≤ t → t ≤ n → ∃ B : Nat → Nat → Int, (∀ r c, r < t → c < n → B r c = A r c) ∧ (∀ r c, t ≤ r → r < n → c ≤ k → B r c = 0) ∧ (dt n B = 0 → dt n A = 0) := by
    intro t ht htn
    obtain ⟨d, hd⟩ : ∃ d, n = t + d := ⟨n - t, by omega⟩
    induction d generalizing t with
    | zero => exact ⟨A, fun _ _ _ _ => rfl, fun r c h1 h2 _ => by omega, fun h => h⟩
    | succ d ih =>
      obtain ⟨B, b1, b2, b3⟩ := ih (t + 1) (by omega) (by omega) (by omega)
      obtain ⟨s, c, hs, hc⟩ := E.row t ht (by omega)
      refine ⟨sr B t (fun j => (s * D) * B t j - sm k (fun m => c m * B m j)), ?_, ?_, ?_⟩
      · intro r q hr hq; unfold sr; rw [if_neg (by omega)]; exact b1 r q (by omega) hq
      · intro r q hr hrn hq; unfold sr
        by_cases e : r = t
        · rw [if_pos e]
          show (s * D) * B t q - sm k (fun m => c m * B m q) = 0
          have e2 : sm k (fun m => c m * B m q) = sm k (fun m => c m * A m q) := sm_congr (fun m hm => by rw [b1 m q (by omega) (by omega)])
          rw [e2, b1 t q (by omega) (by omega), Int.mul_assoc, hc q (by omega)]
          by_cases e3 : q < k
          · rw [if_pos e3, Int.mul_zero]
          · rw [if_neg e3, show q = k by omega, h t ht (by omega), Int.mul_zero]
        · rw [if_neg e]; exact b2 r q (by omega) hrn hq
      · intro hz
        rw [dt_comb (by omega) (by omega)] at hz
        refine b3 ?_
        rcases Int.mul_eq_zero.mp hz with h1 | h1
        · exact absurd h1 (Int.mul_ne_zero hs E.nz)
        · exact h1
  obtain ⟨B, _, b2, b3⟩ := key k (Nat.le_refl _) (by omega)
  exact b3 (dt_low hk b2)
/-! Cramer's rule. -/
/-- column j is replaced -/
def sc (A : Nat → Nat → Int) (j : Nat) (b : Nat → Int) : Nat → Nat → Int := fun r c => if c = j then b r else A r c
theorem dt_cadd (n j : Nat) (hj : j < n) (A : Nat → Nat → Int) (u v : Nat → Int) : dt n (sc A j (fun r => u r + v r)) = dt n (sc A j u) + dt n (sc A j v) := by
  induction n generalizing A j with
  | zero => omega
  | succ n ih =>
    simp only [dt]
    rw [← sm_add]
    refine sm_congr (fun k hk => ?_)
    by_cases e : k = j
    · subst e
      have e1 : ∀ w : Nat → Int, dt n (fun r c => sc A k w r (sk k c)) = dt n (fun r c => A r (sk k c)) := fun w => dt_congr (fun r c _ _ => by
        unfold sc; rw [if_neg (by unfold sk; split <;> omega)])
      rw [e1, e1, e1]; simp only [sc, if_true]; rw [Int.add_mul, Int.mul_add]
    · have e1 : ∀ w : Nat → Int, dt n (fun r c => sc A j w r (sk k c)) = dt n (sc (fun r c => A r (sk k c)) (if k < j then j - 1 else j) w) := fun w => dt_congr (fun r c _ _ => by
        simp only [sc, sk]; grind)
      have e2 : ∀ w : Nat → Int, sc A j w n k = A n k := fun w => by unfold sc; rw [if_neg e]
      rw [e1, e1, e1, e2, e2, e2, ih _ (by split <;> omega), Int.mul_add, Int.mul_add]
theorem sc_comm (A : Nat → Nat → Int) {i j : Nat} (h : i ≠ j) (u v : Nat → Int) : sc (sc A i u) j v = sc (sc A j v) i u := by
  funext r c; unfold sc; by_cases h1 : c = j
  · rw [if_pos h1, if_neg (by omega), if_pos h1]
  · rw [if_neg h1, if_neg h1]
theorem sc_self (A : Nat → Nat → Int) (j : Nat) : sc A j (fun r => A r j) = A := by
  funext r c; unfold sc; split
  · next h => rw [h]
  · rfl
theorem dt_cswap1 (n j : Nat) (hj : j + 1 < n) (A : Nat → Nat → Int) (u v : Nat → Int) : dt n (sc (sc A j u) (j + 1) v) = - dt n (sc (sc A j v) (j + 1) u) := by
  have hz : ∀ w : Nat → Int, dt n (sc (sc A j w) (j + 1) w) = 0 := fun w => dt_col_eq n j hj _ (fun r hr => by
    simp only [sc]; rw [if_neg (by omega), if_pos trivial, if_pos trivial])
  have h := hz (fun c => u c + v c)
  have hne : j ≠ j + 1 := by omega
  rw [dt_cadd n (j + 1) hj, sc_comm A hne, sc_comm A hne (fun c => u c + v c) v, dt_cadd n j (by omega), dt_cadd n j (by omega), ← sc_comm A hne, ← sc_comm A hne, ← sc_comm A hne, ← sc_comm A hne, hz u, hz v] at h
  omega
/-- a column moved to the end -/
theorem dt_move (n d j : Nat) (hd : j + d + 1 = n) (A : Nat → Nat → Int) (b : Nat → Int) : dt n (sc A j b) = sg d * dt n (fun r c => if c + 1 = n then b r else A r (sk j c)) := by
  induction d generalizing j A with
  | zero =>
    rw [show sg 0 = 1 from rfl, Int.one_mul]
    exact dt_congr (fun r c hr hc => by
      unfold sc sk
      by_cases e : c = j
      · rw [if_pos e, if_pos (by omega)]
      · rw [if_neg e, if_neg (by omega), if_pos (by omega)])
  | succ d ih =>
    have h1 := dt_cswap1 n j (by omega) A b (fun r => A r (j + 1))
    have e1 : sc (sc A j b) (j + 1) (fun r => A r (j + 1)) = sc A j b := by
      funext r c; unfold sc; by_cases h2 : c = j + 1
      · rw [if_pos h2, if_neg (by omega), h2]
      · rw [if_neg h2]
    rw [e1] at h1
    rw [h1, ih (j + 1) (by omega) (sc A j (fun r => A r (j + 1))), sg_s, Int.neg_mul]
    congr 2
    exact dt_congr (fun r c hr hc => by simp only [sc, sk]; grind)
theorem cramer {n : Nat} (A : Nat → Nat → Int) (b : Nat → Int) {i : Nat} (hi : i < n) : sm n (fun j => A i j * dt n (sc A j b)) = dt n A * b i := by
  -- the square with b behind and row i below
  let B : Nat → Nat → Int := fun r c => if c = n then b (if r = n then i else r) else A (if r = n then i else r) c
  have h0 : dt (n + 1) B = 0 := dt_req' (i := i) (j := n) hi (by omega) (fun c hc => by simp only [B]; rw [if_neg (show ¬ i = n by omega), if_pos trivial])
  rw [dt] at h0
  have e1 : sm (n + 1) (fun j => sg (n + j) * (B n j * dt n (fun r c => B r (sk j c)))) = sm n (fun j => - (A i j * dt n (sc A j b))) + dt n A * b i := by
    rw [sm]; congr 1
    · refine sm_congr (fun j hj => ?_)
      have e2 : B n j = A i j := by simp only [B]; rw [if_neg (by omega), if_pos trivial]
      have e3 : dt n (fun r c => B r (sk j c)) = dt n (fun r c => if c + 1 = n then b r else A r (sk j c)) := dt_congr (fun r c hr hc => by
        simp only [B, sk]; grind)
      rw [e2, e3, dt_move n (n - j - 1) j (by omega) A b]
      have e4 : sg (n + j) = - sg (n - j - 1) := by
        have : n + j = (n - j - 1) + 1 + 2 * j := by omega
        have e5 : sg (2 * j) = 1 := by unfold sg; rw [if_pos (by omega)]
        rw [this, sg_add, e5, sg_s]; omega
      rw [e4]
      generalize dt n (fun r c => if c + 1 = n then b r else A r (sk j c)) = z
      have := sg_sq (n - j - 1)
      grind
    · have e2 : B n n = b i := by simp only [B]; rw [if_pos trivial, if_pos trivial]
      have e3 : dt n (fun r c => B r (sk n c)) = dt n A := dt_congr (fun r c hr hc => by simp only [B, sk]; grind)
      have e4 : sg (n + n) = 1 := by unfold sg; rw [if_pos (by omega)]
      rw [e2, e3, e4]; grind
  rw [e1, sm_neg] at h0
  omega
/-- a column of zeros -/
theorem dt_zcol {n j : Nat} (hj : j < n) {A : Nat → Nat → Int} (h : ∀ r, r < n → A r j = 0) : dt n A = 0 := by
  have h1 := dt_cadd n j hj A (fun _ => 0) (fun _ => 0)
  have e1 : dt n (sc A j (fun _ => 0)) = dt n A := dt_congr (fun r c hr hc => by
    unfold sc; by_cases e : c = j
    · rw [if_pos e, e, h r hr]
    · rw [if_neg e])
  simp only [Int.add_zero] at h1
  rw [e1] at h1; omega
/-- rows i < t are replaced by p times themselves less multiples of the last -/
theorem dt_clear (n : Nat) (A : Nat → Nat → Int) (p : Int) (c : Nat → Int) (t : Nat) (ht : t ≤ n) : dt (n + 1) (fun r q => if r < t then p * A r q - c r * A n q else A r q) = p ^ t * dt (n + 1) A := by
  induction t with
  | zero => rw [Int.pow_zero, Int.one_mul]; exact dt_congr (fun r q _ _ => by rw [if_neg (by omega)])
  | succ t ih =>
    have h1 := ih (by omega)
    let B : Nat → Nat → Int := fun r q => if r < t then p * A r q - c r * A n q else A r q
    have h2 := dt_row (n + 1) t (by omega) B p (- c t) (A t) (A n)
    have e1 : dt (n + 1) (sr B t (A t)) = dt (n + 1) B := dt_congr (fun r q _ _ => by simp only [sr, B]; grind)
    have e2 : dt (n + 1) (sr B t (A n)) = 0 := dt_req2 (i := t) (j := n) (by omega) (by omega) (by omega) (fun q hq => by simp only [sr, B]; grind)
    have e3 : dt (n + 1) (fun r q => if r < t + 1 then p * A r q - c r * A n q else A r q) = dt (n + 1) (sr B t (fun q => p * A t q + - c t * A n q)) := dt_congr (fun r q _ _ => by simp only [sr, B]; grind)
    rw [e3, h2, e1, e2]
    show p * dt (n + 1) (fun r q => if r < t then p * A r q - c r * A n q else A r q) + - c t * 0 = _
    rw [h1, Int.pow_succ]; grind
/-- where the determinant is 0 there is a kernel -/
theorem dt_kernel (n : Nat) (A : Nat → Nat → Int) (h : dt n A = 0) : ∃ x : Nat → Int, (∃ j, j < n ∧ x j ≠ 0) ∧ ∀ i, i < n → sm n (fun j => A i j * x j) = 0 := by
  induction n generalizing A with
  | zero => exact absurd (show (1 : Int) = 0 from h) (by decide)
  | succ n ih =>
    by_cases hz : ∀ r, r < n + 1 → A r n = 0
    · refine ⟨fun j => if j = n then 1 else 0, ⟨n, by omega, by simp⟩, fun i hi => sm_zero (fun k hk => ?_)⟩
      by_cases e : k = n
      · rw [e, hz i hi, Int.zero_mul]
      · simp [e]
    · obtain ⟨p, hp⟩ : ∃ p, ¬ (p < n + 1 → A p n = 0) := Classical.not_forall.mp hz
      have hpn : p < n + 1 := Classical.byContradiction (fun h => hp (fun h2 => absurd h2 h))
      have hpz : A p n ≠ 0 := fun h => hp (fun _ => h)
      -- the pivot to the end
      have main : ∀ B : Nat → Nat → Int, dt (n + 1) B = 0 → B n n ≠ 0 → ∃ x : Nat → Int, (∃ j, j < n + 1 ∧ x j ≠ 0) ∧ ∀ i, i < n + 1 → sm (n + 1) (fun j => B i j * x j) = 0 := by
        intro B hB hBn
        have h1 := dt_clear n B (B n n) (fun r => B r n) n (Nat.le_refl _)
        rw [hB, Int.mul_zero, dt] at h1
        have h2 : dt n (fun r q => B n n * B r q - B r n * B n q) = 0 := by
          rw [sm_one (j := n) (by omega) (fun k hk hne => ?_)] at h1
          · have e1 : sg (n + n) = 1 := by unfold sg; rw [if_pos (by omega)]
            have e2 : dt n (fun r c => if r < n then B n n * B r (sk n c) - B r n * B n (sk n c) else B r (sk n c)) = dt n (fun r q => B n n * B r q - B r n * B n q) := dt_congr (fun r c hr hc => by simp only [sk]; grind)
            rw [e1, e2, if_neg (Nat.lt_irrefl n), Int.one_mul] at h1
            rcases Int.mul_eq_zero.mp h1 with h3 | h3
            · exact absurd h3 hBn
            · exact h3
          · have : dt n (fun r c => if r < n then B n n * B r (sk k c) - B r n * B n (sk k c) else B r (sk k c)) = 0 := by
              refine dt_zcol (j := n - 1) (by omega) (fun r hr => ?_)
              have : sk k (n - 1) = n := by unfold sk; rw [if_neg (by omega)]; omega
              rw [if_pos hr, this, Int.mul_comm]; omega
            rw [this, Int.mul_zero, Int.mul_zero]
        obtain ⟨y, ⟨j0, hj0, hy0⟩, hy⟩ := ih _ h2
        refine ⟨fun j => if j < n then B n n * y j else - sm n (fun q => B n q * y q), ⟨j0, by omega, by simp only [if_pos hj0]; exact Int.mul_ne_zero hBn hy0⟩, fun i hi => ?_⟩
        have e1 : sm (n + 1) (fun j => B i j * (if j < n then B n n * y j else - sm n (fun q => B n q * y q))) = B n n * sm n (fun j => B i j * y j) - B i n * sm n (fun q => B n q * y q) := by
          rw [sm, if_neg (Nat.lt_irrefl n), ← sm_mul]
          have : sm n (fun j => B i j * (if j < n then B n n * y j else - sm n (fun q => B n q * y q))) = sm n (fun j => B n n * (B i j * y j)) := sm_congr (fun k hk => by rw [if_pos hk]; grind)
          rw [this]; grind
        rw [e1]
        by_cases e : i = n
        · subst e; omega
        · have h3 := hy i (by omega)
          have e2 : sm n (fun j => (B n n * B i j - B i n * B n j) * y j) = B n n * sm n (fun j => B i j * y j) - B i n * sm n (fun q => B n q * y q) := by
            rw [← sm_mul, ← sm_mul, ← sm_sub]; exact sm_congr (fun k hk => by grind)
          rw [← e2]; exact h3
      by_cases e : p = n
      · subst e; exact main A h hpz
      · obtain ⟨x, hx, hk⟩ := main (sw A p n) (by rw [dt_sw hpn (by omega) e, h]; rfl) (by unfold sw; rw [if_neg (by omega), if_pos rfl]; exact hpz)
        refine ⟨x, hx, fun i hi => ?_⟩
        have := hk (if i = p then n else if i = n then p else i) (by split; omega; split <;> omega)
        have e2 : ∀ j, sw A p n (if i = p then n else if i = n then p else i) j = A i j := fun j => by
          unfold sw; congr 1; grind
        rw [sm_congr (fun k hk => by rw [e2 k])] at this
        exact this
end Pu_A
