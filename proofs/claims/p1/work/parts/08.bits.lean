/-! The bytes of a long, in the class's way and in the reference's; a number within bounds; what 'type' answers on a fresh object. -/
def bN (b : Int64) (k : Int32) : Nat := (b >>> (Int32.toInt64 (8 * k) &&& 63)).toBitVec.toNat % 256
theorem cg_x32 (x : Int64) : x.toInt32.toBitVec.toNat = x.toBitVec.toNat % 2 ^ 32 := by
  rw [Int64.toBitVec_toInt32, BitVec.signExtend_eq_setWidth_of_le _ (by decide), BitVec.toNat_setWidth]
theorem cg_bi (x : Int64) : Int64.toInt32 x &&& 255 = nI (x.toBitVec.toNat % 256) := by
  rw [pk_and _ 8 (by decide), cg_x32]
  congr 1
  omega
theorem cg_bl (x : Int64) : x &&& 255 = lN (x.toBitVec.toNat % 256) := by
  apply Int64.toBitVec_inj.mp
  apply BitVec.eq_of_toNat_eq
  rw [Int64.toBitVec_and, BitVec.toNat_and]
  show x.toBitVec.toNat &&& (2 ^ 8 - 1) = (BitVec.ofNat 64 _).toNat
  rw [Nat.and_two_pow_sub_one_eq_mod, BitVec.toNat_ofNat]
  omega
theorem bN_i (b : Int64) (k : Int32) : (Int64.toInt32 (b >>> (Int32.toInt64 (8 * k) &&& 63)) &&& 255) = nI (bN b k) := cg_bi _
theorem bN_l (b : Int64) (k : Int32) : ((b >>> (Int32.toInt64 (8 * k) &&& 63)) &&& 255) = lN (bN b k) := cg_bl _
theorem bN_lt (b : Int64) (k : Int32) : bN b k < 256 := Nat.mod_lt _ (by decide)
def cg_tok (b : Int64) (n : Nat) : Prop := ∀ j, j < n → 33 ≤ bN b (nI j) ∧ bN b (nI j) ≤ 126
def cg_tyP (b : Int64) (n r : Int32) : Prop := ((1 ≤ n ∧ n ≤ 8 ∧ cg_tok b n.toNatClampNeg) → r = n) ∧ (¬ (1 ≤ n ∧ n ≤ 8 ∧ cg_tok b n.toNatClampNeg) → r = -1)
theorem cg_tyP_eq {b : Int64} {n r r2 : Int32} (h : cg_tyP b n r) (h2 : cg_tyP b n r2) : r = r2 := by
  by_cases hc : 1 ≤ n ∧ n ≤ 8 ∧ cg_tok b n.toNatClampNeg
  · rw [h.1 hc, h2.1 hc]
  · rw [h.2 hc, h2.2 hc]
theorem cg_tyP_lo {b : Int64} {n : Int32} (h : n < 1) : cg_tyP b n (-1) := ⟨fun hc => absurd hc.1 (Int32.not_le.mpr h), fun _ => rfl⟩
theorem cg_tyP_hi {b : Int64} {n : Int32} (h : 8 < n) : cg_tyP b n (-1) := ⟨fun hc => absurd hc.2.1 (Int32.not_le.mpr h), fun _ => rfl⟩
theorem cg_tyP_bad {b : Int64} {N : Nat} (hN : N ≤ 8) (h : ¬ cg_tok b N) : cg_tyP b (nI N) (-1) := ⟨fun hc => absurd (by have := hc.2.2; rw [nI_clamp (by omega)] at this; exact this) h, fun _ => rfl⟩
theorem cg_tyP_ok {b : Int64} {N : Nat} (h1 : 1 ≤ N) (hN : N ≤ 8) (h : cg_tok b N) : cg_tyP b (nI N) (nI N) := ⟨fun _ => rfl, fun hc => absurd ⟨(show nI 1 ≤ nI N from nI_le h1 (by omega)), (show nI N ≤ nI 8 from nI_le hN (by omega)), by rw [nI_clamp (by omega)]; exact h⟩ hc⟩
theorem cg_18 {n : Int32} (h1 : ¬ n < 1) (h2 : ¬ 8 < n) : ∃ N : Nat, 1 ≤ N ∧ N ≤ 8 ∧ n = nI N := by
  have a1 : (1 : Int32) ≤ n := Int32.not_lt.mp h1
  have a2 : n ≤ (8 : Int32) := Int32.not_lt.mp h2
  rw [Int32.le_iff_toInt_le] at a1 a2
  have e1 : (1 : Int32).toInt = 1 := by decide
  have e8 : (8 : Int32).toInt = 8 := by decide
  rw [e1] at a1
  rw [e8] at a2
  refine ⟨n.toInt.toNat, by omega, by omega, ?_⟩
  apply Int32.toInt_inj.mp
  rw [nI_toInt (by omega)]
  omega
theorem cg_l200 {N : Nat} (h : N ≤ 8) : ¬ (200 : Int32) < 0 + nI N := by
  have : (0 : Int32) + nI N = nI N := Int32.zero_add _
  rw [this]
  exact nI_nlt (b := N) (a := 200) (by omega) (by omega)
theorem cg_l200' {N : Nat} (h : N ≤ 8) : (0 : Int32) + nI N ≤ 200 := Int32.not_lt.mp (cg_l200 h)
def cg_in (v a b : Int32) : Int32 := if v < a then 0 else if b < v then 0 else 1
theorem cg_in_m1 (v : Int32) : cg_in v 0 (-1) = 0 := by
  unfold cg_in
  by_cases h : v < 0
  · rw [if_pos h]
  · rw [if_neg h, if_pos]
    have a1 : (0 : Int32) ≤ v := Int32.not_lt.mp h
    rw [Int32.le_iff_toInt_le] at a1
    rw [Int32.lt_iff_toInt_lt]
    have e0 : (0 : Int32).toInt = 0 := by decide
    have e1 : (-1 : Int32).toInt = -1 := by decide
    omega
theorem cg_in_0 {v a b : Int32} (h : cg_in v a b = 0) : v < a ∨ b < v := by
  unfold cg_in at h
  by_cases h1 : v < a
  · exact Or.inl h1
  · by_cases h2 : b < v
    · exact Or.inr h2
    · rw [if_neg h1, if_neg h2] at h
      exact absurd h (by decide)
theorem cg_in_1 {v a b : Int32} (h : ¬ cg_in v a b = 0) : ¬ v < a ∧ ¬ b < v := by
  unfold cg_in at h
  by_cases h1 : v < a
  · rw [if_pos h1] at h; exact absurd rfl h
  · by_cases h2 : b < v
    · rw [if_neg h1, if_pos h2] at h; exact absurd rfl h
    · exact ⟨h1, h2⟩
theorem cg_cmp_lt {x y : Int64} (h : lg_cmp x y < 0) : x < y := by
  unfold lg_cmp at h
  by_cases h1 : y < x
  · rw [if_pos h1] at h; exact absurd h (by decide)
  · by_cases h2 : x = y
    · rw [if_neg h1, if_pos h2] at h; exact absurd h (by decide)
    · rw [Int64.lt_iff_toInt_lt] at h1 ⊢
      have : x.toInt ≠ y.toInt := fun e => h2 (Int64.toInt_inj.mp e)
      omega
theorem cg_cmp_nlt {x y : Int64} (h : ¬ lg_cmp x y < 0) : ¬ x < y := by
  intro hlt
  apply h
  unfold lg_cmp
  have h1 : ¬ y < x := by
    rw [Int64.lt_iff_toInt_lt] at hlt ⊢
    omega
  have h2 : ¬ x = y := by
    intro e
    subst e
    rw [Int64.lt_iff_toInt_lt] at hlt
    omega
  rw [if_neg h1, if_neg h2]
  decide
theorem cg_cmp_le {x y : Int64} (h : lg_cmp x y ≤ 0) : ¬ y < x := by
  intro h1
  unfold lg_cmp at h
  rw [if_pos h1] at h
  exact absurd h (by decide)
theorem cg_cmp_nle {x y : Int64} (h : ¬ lg_cmp x y ≤ 0) : y < x := by
  unfold lg_cmp at h
  by_cases h1 : y < x
  · exact h1
  · by_cases h2 : x = y
    · rw [if_neg h1, if_pos h2] at h; exact absurd (by decide) h
    · rw [if_neg h1, if_neg h2] at h; exact absurd (by decide) h
