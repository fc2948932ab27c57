set_option maxRecDepth 10000
section Pu_wb
/-! Sets of states as numbers. -/
theorem bt_and' {x y : Int} {k : Nat} (hk : k < 10) : bt (jand x y) k ↔ bt x k ∧ bt y k := by
  rw [bt_iff hk, bt_iff hk, bt_iff hk]
  unfold jand
  rw [Int32.ofInt_toInt, Int32.toBitVec_and, BitVec.getLsbD_and]
  simp
theorem bt_all : ∀ n : Fin 9, ∀ k : Fin 10, bt (jshl 1 (n.1 : Int) - 1) k.1 ↔ k.1 < n.1 := by
  unfold bt; decide
theorem bs_all : ∀ n : Fin 9, 0 ≤ jshl 1 (n.1 : Int) - 1 ∧ jshl 1 (n.1 : Int) - 1 < 256 := by decide
theorem bs_8 {x : Int} : bs x 8 ↔ 0 ≤ x ∧ x < 256 := by
  have e8 : (2 : Nat) ^ 8 = 256 := by decide
  unfold bs
  rw [e8]
  exact Iff.rfl
theorem bs_nat {x : Int} (h : 0 ≤ x ∧ x < 256) : (Int32.ofInt x).toBitVec.toNat = x.toNat := by
  show (BitVec.ofInt 32 x).toNat = x.toNat
  rw [BitVec.toNat_ofInt]
  omega
theorem bs_i32 {z : Int32} (h : z.toBitVec.toNat < 256) : 0 ≤ z.toInt ∧ z.toInt < 256 := by
  rw [Int32.toInt, BitVec.toInt_eq_toNat_cond, if_pos (by omega)]
  omega
theorem bs_jand {a b : Int} (h : 0 ≤ a ∧ a < 256) : 0 ≤ jand a b ∧ jand a b < 256 := bs_i32 (by
  rw [Int32.toBitVec_and, BitVec.toNat_and, bs_nat h]
  have := Nat.and_le_left (n := a.toNat) (m := (Int32.ofInt b).toBitVec.toNat)
  omega)
theorem bs_jor {a b : Int} (ha : 0 ≤ a ∧ a < 256) (hb : 0 ≤ b ∧ b < 256) : 0 ≤ jor a b ∧ jor a b < 256 := bs_i32 (by
  rw [Int32.toBitVec_or, BitVec.toNat_or, bs_nat ha, bs_nat hb]
  have h := Nat.or_lt_two_pow (n := 8) (show a.toNat < 2 ^ 8 by omega) (show b.toNat < 2 ^ 8 by omega)
  omega)
theorem bs_ext {x y : Int} (hx : 0 ≤ x ∧ x < 256) (hy : 0 ≤ y ∧ y < 256) (e : ∀ k, k < 8 → (bt x k ↔ bt y k)) : x = y := by
  have h : Int32.ofInt x = Int32.ofInt y := by
    apply Int32.toBitVec_inj.mp
    apply BitVec.eq_of_getLsbD_eq
    intro k hk
    by_cases k8 : k < 8
    · have q := e k k8
      rw [bt_iff (by omega), bt_iff (by omega)] at q
      cases h1 : (Int32.ofInt x).toBitVec.getLsbD k <;> cases h2 : (Int32.ofInt y).toBitVec.getLsbD k <;> simp_all
    · have p : 2 ^ 8 ≤ 2 ^ k := Nat.pow_le_pow_right (by decide) (by omega)
      have e8 : (2 : Nat) ^ 8 = 256 := by decide
      rw [BitVec.getLsbD, BitVec.getLsbD, bs_nat hx, bs_nat hy, Nat.testBit_lt_two_pow (by omega), Nat.testBit_lt_two_pow (by omega)]
  rw [← fi_t (show rg x from ⟨by omega, by omega⟩), h, fi_t (show rg y from ⟨by omega, by omega⟩)]
theorem jj_sh : ∀ c : Fin 10, jshl 1 (c.1 : Int) = ((2 ^ c.1 : Nat) : Int) := by decide
theorem bs_sh {c m : Nat} (h : c < m) (hm : m ≤ 10) : bs (jshl 1 (c : Int)) m := by
  have e := jj_sh ⟨c, by omega⟩
  simp only at e
  have p : 2 ^ c < 2 ^ m := Nat.pow_lt_pow_right (by decide) h
  unfold bs
  rw [e]
  exact ⟨Int.natCast_nonneg _, Int.ofNat_lt.mpr p⟩
theorem w_firstBit {M : fm_M} {x : Int} {post : Int → fm_M → Prop} {thr : String → fm_M → Prop} (h1 : ∀ k : Nat, k < 10 → bt x k → (∀ j, j < k → ¬ bt x j) → post k M) (h0 : (∀ k : Nat, k < 10 → ¬ bt x k) → post (-1) M) : wp_CG_firstBit M x post thr := by
  refine ⟨fun M' v1 => M' = M ∧ ∃ k : Nat, v1 = k ∧ k ≤ 10 ∧ ∀ j, j < k → ¬ bt x j, fun _ v1 => (10 - v1).toNat, ⟨rfl, 0, rfl, by omega, fun j hj => by omega⟩, ?_⟩
  rintro M' v1 ⟨rfl, k, rfl, hk, hn⟩
  unfold C_CG_firstBit_2
  refine ⟨rg_small (by omega), fun h4 => h0 (fun j hj => hn j (by omega)), fun h4 => x_hasBit (fun hb => ⟨rg_small (by decide), fun _ => ⟨⟨rfl, k + 1, by omega, by omega, fun j hj => ?_⟩, by dsimp only; omega⟩, fun h => absurd rfl h⟩) (fun hb => ⟨rg_small (by decide), fun h => absurd h (by decide), fun _ => h1 k (by omega) hb hn⟩)⟩
  by_cases e : j = k
  · rw [e]; exact hb
  · exact hn j (by omega)
end Pu_wb
