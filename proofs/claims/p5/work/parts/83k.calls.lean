set_option maxRecDepth 10000
section Pu_cf
/-! What holds between the calls. -/
theorem jand_255 (x : Int) : jand x 255 = x % 256 := by
  unfold jand
  rw [Int32.toInt, Int32.toBitVec_and, BitVec.toInt_eq_toNat_cond]
  have e : ((Int32.ofInt x).toBitVec &&& (Int32.ofInt 255).toBitVec).toNat = (x % 256).toNat := by
    rw [BitVec.toNat_and]
    have e1 : (Int32.ofInt 255).toBitVec.toNat = 2 ^ 8 - 1 := by decide
    rw [e1, Nat.and_two_pow_sub_one_eq_mod]
    have e2 : (Int32.ofInt x).toBitVec.toNat = (x % 2 ^ 32).toNat := by
      show (BitVec.ofInt 32 x).toNat = _
      rw [BitVec.toNat_ofInt]; rfl
    rw [e2]
    omega
  rw [e]
  have := Int.emod_nonneg x (show (256 : Int) ≠ 0 by decide)
  have := Int.emod_lt_of_pos x (show (0 : Int) < 256 by decide)
  rw [if_pos (by omega)]; omega
theorem jland_255 (x : Int) : jland x 255 = x % 256 := by
  unfold jland
  rw [Int64.toInt, Int64.toBitVec_and, BitVec.toInt_eq_toNat_cond]
  have e : ((Int64.ofInt x).toBitVec &&& (Int64.ofInt 255).toBitVec).toNat = (x % 256).toNat := by
    rw [BitVec.toNat_and]
    have e1 : (Int64.ofInt 255).toBitVec.toNat = 2 ^ 8 - 1 := by decide
    rw [e1, Nat.and_two_pow_sub_one_eq_mod]
    have e2 : (Int64.ofInt x).toBitVec.toNat = (x % 2 ^ 64).toNat := by
      show (BitVec.ofInt 64 x).toNat = _
      rw [BitVec.toNat_ofInt]; rfl
    rw [e2]
    omega
  rw [e]
  have := Int.emod_nonneg x (show (256 : Int) ≠ 0 by decide)
  have := Int.emod_lt_of_pos x (show (0 : Int) < 256 by decide)
  rw [if_pos (by omega)]; omega
theorem ji2c_id : ∀ v : Fin 256, ji2c (v.1 : Int) = v.1 := by decide
/-- a byte of what is typed -/
def byt (a : Int) (k : Nat) : Int := jlshr a (8 * k) % 256
theorem byt_rg (a : Int) (k : Nat) : 0 ≤ byt a k ∧ byt a k < 256 := ⟨Int.emod_nonneg _ (by decide), Int.emod_lt_of_pos _ (by decide)⟩
/-- the text behind a typing -/
def txa (T : Nat → Int) (n : Nat) (a : Int) (c : Nat) : Nat → Int := fun p => if p < n then T p else byt a (c - 1 - (p - n))
def tyb (a : Int) (c : Nat) : Prop := ∀ k, k < c → 33 ≤ byt a k ∧ byt a k ≤ 126
/-- the class's part -/
def CI (T : Nat → Int) (n : Nat) (w : Int) (M : fm_M) : Prop :=
  (txt T n) ∧
  (M 2 1 = n) ∧
  (∀ p, p < n → M 3 p = T p) ∧
  (∃ g h : Nat, ((g = 4 ∧ h = 143) ∨ (g = 143 ∧ h = 4)) ∧ M 1 1 = g ∧ M 142 0 = h ∧ CB g M ∧ CB h M ∧ FB (M h 4).toNat M) ∧
  (nxr M) ∧
  (alr M) ∧
  (M 0 5 = 0 ∨ M 0 5 = 1) ∧
  (M 0 6 = 0 ∨ M 0 6 = 1) ∧
  (M 1 3 = w)
theorem CI.t {T : Nat → Int} {n : Nat} {w : Int} {M : fm_M} (h_ : CI T n w M) : txt T n := h_.1
theorem CI.len {T : Nat → Int} {n : Nat} {w : Int} {M : fm_M} (h_ : CI T n w M) : M 2 1 = n := h_.2.1
theorem CI.ch {T : Nat → Int} {n : Nat} {w : Int} {M : fm_M} (h_ : CI T n w M) : ∀ p, p < n → M 3 p = T p := h_.2.2.1
theorem CI.gs {T : Nat → Int} {n : Nat} {w : Int} {M : fm_M} (h_ : CI T n w M) : ∃ g h : Nat, ((g = 4 ∧ h = 143) ∨ (g = 143 ∧ h = 4)) ∧ M 1 1 = g ∧ M 142 0 = h ∧ CB g M ∧ CB h M ∧ FB (M h 4).toNat M := h_.2.2.2.1
theorem CI.nx {T : Nat → Int} {n : Nat} {w : Int} {M : fm_M} (h_ : CI T n w M) : nxr M := h_.2.2.2.2.1
theorem CI.al {T : Nat → Int} {n : Nat} {w : Int} {M : fm_M} (h_ : CI T n w M) : alr M := h_.2.2.2.2.2.1
theorem CI.b5 {T : Nat → Int} {n : Nat} {w : Int} {M : fm_M} (h_ : CI T n w M) : M 0 5 = 0 ∨ M 0 5 = 1 := h_.2.2.2.2.2.2.1
theorem CI.b6 {T : Nat → Int} {n : Nat} {w : Int} {M : fm_M} (h_ : CI T n w M) : M 0 6 = 0 ∨ M 0 6 = 1 := h_.2.2.2.2.2.2.2.1
theorem CI.wr {T : Nat → Int} {n : Nat} {w : Int} {M : fm_M} (h_ : CI T n w M) : M 1 3 = w := h_.2.2.2.2.2.2.2.2
/-- the reference's part -/
def RI (T : Nat → Int) (n : Nat) (w : Int) (M : fm_M) : Prop :=
  (MT T n M) ∧
  (RB M) ∧
  ((M 331 6 = -1 ∧ M 331 20 = 0) ∨ ((M 331 6 = 0 ∨ M 331 6 = 1) ∧ gwf M ∧ EX0 M)) ∧
  (M 331 22 = 0 ∨ M 331 22 = 1) ∧
  (M 331 4 = w)
theorem RI.mt {T : Nat → Int} {n : Nat} {w : Int} {M : fm_M} (h_ : RI T n w M) : MT T n M := h_.1
theorem RI.rb {T : Nat → Int} {n : Nat} {w : Int} {M : fm_M} (h_ : RI T n w M) : RB M := h_.2.1
theorem RI.hg {T : Nat → Int} {n : Nat} {w : Int} {M : fm_M} (h_ : RI T n w M) : (M 331 6 = -1 ∧ M 331 20 = 0) ∨ ((M 331 6 = 0 ∨ M 331 6 = 1) ∧ gwf M ∧ EX0 M) := h_.2.2.1
theorem RI.sl {T : Nat → Int} {n : Nat} {w : Int} {M : fm_M} (h_ : RI T n w M) : M 331 22 = 0 ∨ M 331 22 = 1 := h_.2.2.2.1
theorem RI.wr {T : Nat → Int} {n : Nat} {w : Int} {M : fm_M} (h_ : RI T n w M) : M 331 4 = w := h_.2.2.2.2
def IV (M : fm_M) : Prop := ∃ (T : Nat → Int) (n : Nat) (w : Int), rg w ∧ CI T n w M ∧ RI T n w M
theorem CB.same {g : Nat} {M M' : fm_M} (h : CB g M) (e : ∀ a, g ≤ a → a < g + 137 → M' a = M a) : CB g M' := fun q hq x h1 h2 => by
  have := CBt_lt q hq
  rw [e _ (by omega) (by omega)]; exact h q hq x h1 h2
theorem FB.same {m : Nat} {M M' : fm_M} (F : FB m M) (e : ∀ a, a = 142 ∨ (281 ≤ a ∧ a ≤ 289) ∨ a = 308 → M' a = M a) : FB m M' := ⟨by rw [e 142 (by omega)]; exact F.cnt, by rw [e 142 (by omega)]; exact F.lk, fun i v hi hv => by rw [e _ (by omega)]; exact F.val i v hi hv, fun v hv => by rw [e 308 (by omega)]; exact F.com v hv, fun i hi => by
  rw [e 142 (by omega)] at hi
  rw [e 289 (by omega)]; exact F.en i hi, by rw [e 142 (by omega)]; exact F.tg⟩
theorem CI.same {T : Nat → Int} {n : Nat} {w : Int} {M M' : fm_M} (h : CI T n w M) (e : ∀ a, a ≤ 330 → M' a = M a) : CI T n w M' := by
  obtain ⟨g, k, hgk, e1, e2, c1, c2, F⟩ := h.gs
  refine ⟨h.t, by rw [e 2 (by omega)]; exact h.len, by rw [e 3 (by omega)]; exact h.ch, ⟨g, k, hgk, by rw [e 1 (by omega)]; exact e1, by rw [e 142 (by omega)]; exact e2, c1.same (fun a _ _ => e a (by omega)), c2.same (fun a _ _ => e a (by omega)), ?_⟩, fun i x hi hx => by rw [e _ (by omega)]; exact h.nx i x hi hx, fun i hi => by rw [e 328 (by omega), e 330 (by omega)]; exact h.al i hi, by rw [e 0 (by omega)]; exact h.b5, by rw [e 0 (by omega)]; exact h.b6, by rw [e 1 (by omega)]; exact h.wr⟩
  rw [e k (by omega)]
  exact F.same (fun a ha => e a (by omega))
theorem RBt_rg : ∀ q ∈ RBt, 331 ≤ q.1 ∧ q.1 ≤ 361 := by decide
theorem RBt_51 : ∀ q ∈ RBt, q.1 ≤ 351 := by decide
theorem gwf_same {M M' : fm_M} (h : gwf M) (e6 : M' 331 6 = M 331 6) (e : ∀ a, a = 335 ∨ a = 337 ∨ a = 338 ∨ a = 339 → M' a = M a) : gwf M' := by
  unfold gwf; rw [e6, e 335 (by omega), e 337 (by omega), e 338 (by omega), e 339 (by omega)]; exact h
theorem EX0.same {M M' : fm_M} (h : EX0 M) (e6 : M' 331 6 = M 331 6) (e20 : M' 331 20 = M 331 20) (e : ∀ a, 332 ≤ a → a ≤ 351 → M' a = M a) : EX0 M' := by
  have rb : RB M' := fun q hq x hx => by
    have h1 := RBt_rg q hq
    have h2 := RBt_ne q hq
    have h3 := RBt_51 q hq
    rw [e q.1 (by omega) h3]; exact h.rb q hq x hx
  have en : (Gof M').n = (Gof M).n := by show (M' 331 20).toNat = (M 331 20).toNat; rw [e20]
  have ec : (Gof M').cc = (Gof M).cc := by funext j; show (M' 349 j).toNat = (M 349 j).toNat; rw [e 349 (by omega) (by omega)]
  refine ⟨rb, by rw [e6]; exact h.hg, by rw [e20]; exact h.hn, ?_, ?_, fun _ _ _ _ _ _ hF => hF.elim⟩
  · rw [en, ec, e 348 (by omega) (by omega), e 335 (by omega) (by omega), e6]; exact h.cm
  · rw [en, e 346 (by omega) (by omega), e 349 (by omega) (by omega)]; exact h.tgc
theorem RI.same {T : Nat → Int} {n : Nat} {w : Int} {M M' : fm_M} (h : RI T n w M) (e : ∀ a, 332 ≤ a → a ≤ 361 → M' a = M a) (es : ∀ b, b ≠ 0 → M' 331 b = M 331 b) : RI T n w M' := by
  refine ⟨⟨h.mt.t, by rw [es 2 (by decide)]; exact h.mt.len, by rw [e 332 (by omega) (by omega)]; exact h.mt.ch⟩, fun q hq x hx => ?_, ?_, by rw [es 22 (by decide)]; exact h.sl, by rw [es 4 (by decide)]; exact h.wr⟩
  · have h1 := RBt_rg q hq
    have h2 := RBt_ne q hq
    rw [e q.1 (by omega) h1.2]; exact h.rb q hq x hx
  · rcases h.hg with ⟨a, b⟩ | ⟨a, b, c⟩
    · exact Or.inl ⟨by rw [es 6 (by decide)]; exact a, by rw [es 20 (by decide)]; exact b⟩
    · exact Or.inr ⟨by rw [es 6 (by decide)]; exact a, gwf_same b (es 6 (by decide)) (fun q hq => e q (by omega) (by omega)), c.same (es 6 (by decide)) (es 20 (by decide)) (fun a h1 h2 => e a h1 (by omega))⟩
section Calls
variable {T : Nat → Int} {n : Nat} {w : Int} {post : Int → fm_M → Prop} {thr : String → fm_M → Prop}
theorem w_byte {M : fm_M} {a : Int} {k : Nat} (hp : post (byt a k) M) : wp_Tx_byteAt M a k post thr := by
  unfold wp_Tx_byteAt
  rw [jand_255]; exact hp
theorem CI.type {M : fm_M} (h : CI T n w M) {a a3 : Int} (ha : rg a3) (ko : ∀ c : Nat, a3 = c → 1 ≤ c → c ≤ 8 → n + c ≤ 200 → tyb a c → ∀ M', (∀ q, q ≠ 2 → q ≠ 3 → M' q = M q) → CI (txa T n a c) (n + c) w M' → post ((n + c : Nat) : Int) M') (kn : ¬ (∃ c : Nat, a3 = c ∧ 1 ≤ c ∧ c ≤ 8 ∧ n + c ≤ 200 ∧ tyb a c) → post (-1) M) : wp_CG_type M a a3 post thr := by
  have hn := h.t.1
  unfold wp_CG_type wp_Tx_append
  rw [h.len]
  refine ⟨ha, fun h1 => kn (fun ⟨c, e, h2, _⟩ => by omega), fun h1 => ⟨fun h2 => kn (fun ⟨c, e, _, h3, _⟩ => by omega), fun h2 => ⟨rg_small (by omega), fun h3 => kn (fun ⟨c, e, _, _, h4, _⟩ => by omega), fun h3 => ?_⟩⟩⟩
  obtain ⟨c, hc⟩ : ∃ c : Nat, a3 = c := ⟨a3.toNat, by omega⟩
  subst hc
  -- are they typeable
  refine ⟨fun M' v3 => M' = M ∧ ∃ k : Nat, v3 = k ∧ k ≤ c ∧ ∀ j, j < k → 33 ≤ byt a j ∧ byt a j ≤ 126, fun _ v3 => ((c : Int) - v3).toNat, ⟨rfl, 0, rfl, by omega, fun j hj => by omega⟩, ?_⟩
  rintro M' v3 ⟨rfl, k, rfl, hk, hok⟩
  unfold C_Tx_areTypeable_2
  have hbad : (byt a k < 33 ∨ 126 < byt a k) → k < c → post (-1) M' := fun hb hkc => kn (fun ⟨c', e, _, _, _, hty⟩ => by
    have : c' = c := by omega
    subst this
    have := hty k hkc; omega)
  refine ⟨rg_small (by omega), rg_small (by omega), fun h4 => ⟨rg_small (by decide), fun _ => ?_, fun h => absurd h (by decide)⟩, fun h4 => w_byte ?_⟩
  · have hty : tyb a c := fun j hj => hok j (by omega)
    -- the characters
    refine ⟨fun M2 v4 => ∃ j : Nat, v4 + 1 = ((c - j : Nat) : Int) ∧ j ≤ c ∧ M2 2 1 = ((n + j : Nat) : Int) ∧ (∀ q, q ≠ 2 → q ≠ 3 → M2 q = M' q) ∧ (∀ b, b ≠ 1 → M2 2 b = M' 2 b) ∧ ∀ p, p < n + j → M2 3 p = txa T n a c p, fun _ v4 => (v4 + 1).toNat, ⟨0, by omega, by omega, by rw [h.len]; rfl, fun _ _ _ => rfl, fun _ _ => rfl, fun p hp => by unfold txa; rw [if_pos (by omega)]; exact h.ch p (by omega)⟩, ?_⟩
    rintro M2 v4 ⟨j, hv4, hj, l2, o2, b2, t2⟩
    unfold C_Tx_append_38
    refine ⟨rg_small (by omega), fun h5 => ?_, fun h5 => ?_⟩
    · have : j = c := by omega
      subst this
      rw [l2]
      refine ko j rfl (by omega) (by omega) (by omega) hty M2 o2 ?_
      obtain ⟨g, kk, hgk, e1, e2, c1, c2, F⟩ := h.gs
      refine ⟨⟨by omega, fun p hp => ?_⟩, l2, t2, ⟨g, kk, hgk, by rw [o2 1 (by decide) (by decide)]; exact e1, by rw [o2 142 (by decide) (by decide)]; exact e2, c1.same (fun q h1 h2 => o2 q (by omega) (by omega)), c2.same (fun q h1 h2 => o2 q (by omega) (by omega)), ?_⟩, fun i x hi hx => by rw [o2 _ (by omega) (by omega)]; exact h.nx i x hi hx, fun i hi => by rw [o2 328 (by decide) (by decide), o2 330 (by decide) (by decide)]; exact h.al i hi, by rw [o2 0 (by decide) (by decide)]; exact h.b5, by rw [o2 0 (by decide) (by decide)]; exact h.b6, by rw [o2 1 (by decide) (by decide)]; exact h.wr⟩
      · unfold txa; split
        · next hh => exact h.t.2 p hh
        · exact hty _ (by omega)
      · rw [o2 kk (by omega) (by omega)]
        exact F.same (fun q hq => o2 q (by omega) (by omega))
    · obtain ⟨k4, hk4⟩ : ∃ k4 : Nat, v4 = k4 := ⟨v4.toNat, by omega⟩
      subst hk4
      refine w_byte ?_
      have hb := byt_rg a k4
      have hbi : ji2c (byt a k4) = byt a k4 := by
        have := ji2c_id ⟨(byt a k4).toNat, by omega⟩
        simp only at this
        rw [show (((byt a k4).toNat : Nat) : Int) = byt a k4 by omega] at this; exact this
      rw [l2, hbi, Int.toNat_natCast]
      refine ⟨by omega, by omega, fun M3 e3 M4 e4 => ⟨⟨j + 1, by omega, by omega, ?_, fun q h1 h2 => ?_, fun b hb => ?_, fun p hp => ?_⟩, by dsimp only; omega⟩⟩
      · rw [e4, fu_at, if_pos rfl, e3, fu_off _ _ _ (by decide), l2]; rfl
      · rw [e4, fu_off _ _ _ h1, e3, fu_off _ _ _ h2]; exact o2 q h1 h2
      · rw [e4, fu_at, if_neg hb, e3, fu_off _ _ _ (by decide)]; exact b2 b hb
      · rw [e4, fu_off _ _ _ (by decide), e3, fu_at]
        by_cases e : p = n + j
        · rw [if_pos e]; unfold txa; rw [if_neg (by omega), show c - 1 - (p - n) = k4 by omega]
        · rw [if_neg e]; exact t2 p (by omega)
  · have hb := byt_rg a k
    refine ⟨rg_small (by omega), fun h5 => ⟨rg_small (by decide), fun h => absurd rfl h, fun _ => hbad (Or.inl h5) (by omega)⟩, fun h5 => ⟨fun h6 => ⟨⟨rfl, k + 1, by omega, by omega, fun j hj => ?_⟩, by dsimp only; omega⟩, fun h6 => ⟨rg_small (by decide), fun h => absurd rfl h, fun _ => hbad (Or.inr (by omega)) (by omega)⟩⟩⟩
    by_cases e : j = k
    · rw [e]; omega
    · exact hok j (by omega)
theorem jcmp_lt {a b : Int} : jcmp a b < 0 ↔ a < b := by
  unfold jcmp; split
  · omega
  · split <;> omega
theorem jcmp_le {a b : Int} : jcmp a b ≤ 0 ↔ a ≤ b := by
  unfold jcmp; split
  · omega
  · split <;> omega
theorem RI.type {M : fm_M} (h : RI T n w M) {a a3 : Int} (ha : rg a3) (ko : ∀ c : Nat, a3 = c → 1 ≤ c → c ≤ 8 → n + c ≤ 200 → tyb a c → ∀ M', (∀ q, q ≤ 330 → M' q = M q) → RI (txa T n a c) (n + c) w M' → post ((n + c : Nat) : Int) M') (kn : ¬ (∃ c : Nat, a3 = c ∧ 1 ≤ c ∧ c ≤ 8 ∧ n + c ≤ 200 ∧ tyb a c) → ∀ M', (∀ q, q ≤ 330 → M' q = M q) → RI T n w M' → post (-1) M') : wp_Mo_type M a a3 post thr := by
  have hn := h.mt.t.1
  intro M0 e0
  have a0 : ∀ q, q ≠ 331 → M0 q = M q := fun q hq => by rw [e0]; exact fu_off _ _ _ hq
  have b0 : ∀ b, b ≠ 0 → M0 331 b = M 331 b := fun b hb => by rw [e0, fu_at, if_neg hb]
  have h0 : RI T n w M0 := h.same (fun q h1 h2 => a0 q (by omega)) b0
  have kn' : ¬ (∃ c : Nat, a3 = c ∧ 1 ≤ c ∧ c ≤ 8 ∧ n + c ≤ 200 ∧ tyb a c) → post (-1) M0 := fun hh => kn hh M0 (fun q hq => a0 q (by omega)) h0
  refine m_within ha (rg_small (by decide)) (rg_small (by decide)) (fun h1 => ⟨rg_small (by decide), fun h => absurd h (by decide), fun _ => ?_⟩) (fun h1 => ⟨rg_small (by decide), fun _ => kn' (fun ⟨c, e, _⟩ => by omega), fun h => absurd rfl h⟩)
  obtain ⟨c, hc⟩ : ∃ c : Nat, a3 = c := ⟨a3.toNat, by omega⟩
  subst hc
  rw [h0.mt.len]
  refine ⟨rg_small (by omega), fun h2 => ?_, fun h2 => kn' (fun ⟨c', e, _, _, h3, _⟩ => by omega)⟩
  refine ⟨fun M' v4 => M' = M0 ∧ ∃ k : Nat, v4 = k ∧ k ≤ c ∧ ∀ j, j < k → 33 ≤ byt a j ∧ byt a j ≤ 126, fun _ v4 => ((c : Int) - v4).toNat, ⟨rfl, 0, rfl, by omega, fun j hj => by omega⟩, ?_⟩
  rintro M' v4 ⟨rfl, k, rfl, hk, hok⟩
  have hbad : (byt a k < 33 ∨ 126 < byt a k) → k < c → post (-1) M' := fun hb hkc => kn' (fun ⟨c', e, _, _, _, hty⟩ => by
    have : c' = c := by omega
    subst this
    have := hty k hkc; omega)
  unfold C_Mo_type_32
  have eb : jland (jlshr a (8 * (k : Int))) 255 = byt a k := by rw [jland_255]; rfl
  have hb := byt_rg a k
  rw [eb]
  refine ⟨rg_small (by omega), rg_small (by omega), fun h4 => ?_, fun h4 => ⟨⟨by omega, by omega⟩, fun h5 => hbad (Or.inl (jcmp_lt.mp h5)) (by omega), fun h5 => ⟨fun h6 => ⟨⟨rfl, k + 1, by omega, by omega, fun j hj => ?_⟩, by dsimp only; omega⟩, fun h6 => hbad (Or.inr (by have : ¬ byt a k ≤ 126 := fun hh => h6 (jcmp_le.mpr hh); omega)) (by omega)⟩⟩⟩
  · have hty : tyb a c := fun j hj => hok j (by omega)
    refine ⟨fun M2 v4 => ∃ j : Nat, v4 + 1 = ((c - j : Nat) : Int) ∧ j ≤ c ∧ M2 331 2 = ((n + j : Nat) : Int) ∧ (∀ q, q ≠ 331 → q ≠ 332 → M2 q = M' q) ∧ (∀ b, b ≠ 2 → M2 331 b = M' 331 b) ∧ (∀ p, p < n + j → M2 332 p = txa T n a c p) ∧ RB M2, fun _ v4 => (v4 + 1).toNat, ⟨0, by omega, by omega, by rw [h0.mt.len]; rfl, fun _ _ _ => rfl, fun _ _ => rfl, fun p hp => by unfold txa; rw [if_pos (by omega)]; exact h0.mt.ch p (by omega), h0.rb⟩, ?_⟩
    rintro M2 v4 ⟨j, hv4, hj, l2, o2, b2, t2, rb2⟩
    unfold C_Mo_type_82
    refine ⟨rg_small (by omega), fun h5 => ?_, fun h5 => ?_⟩
    · have : j = c := by omega
      subst this
      rw [l2]
      refine ko j rfl (by omega) (by omega) (by omega) hty M2 (fun q hq => by rw [o2 q (by omega) (by omega)]; exact a0 q (by omega)) ⟨⟨⟨by omega, fun p hp => ?_⟩, l2, t2⟩, rb2, ?_, by rw [b2 22 (by decide)]; exact h0.sl, by rw [b2 4 (by decide)]; exact h0.wr⟩
      · unfold txa; split
        · next hh => exact h.mt.t.2 p hh
        · exact hty _ (by omega)
      · rcases h0.hg with ⟨x1, x2⟩ | ⟨x1, x2, x3⟩
        · exact Or.inl ⟨by rw [b2 6 (by decide)]; exact x1, by rw [b2 20 (by decide)]; exact x2⟩
        · refine Or.inr ⟨by rw [b2 6 (by decide)]; exact x1, gwf_same x2 (b2 6 (by decide)) (fun q hq => o2 q (by omega) (by omega)), ?_⟩
          have en : (Gof M2).n = (Gof M').n := by show (M2 331 20).toNat = (M' 331 20).toNat; rw [b2 20 (by decide)]
          have ec : (Gof M2).cc = (Gof M').cc := by funext q; show (M2 349 q).toNat = (M' 349 q).toNat; rw [o2 349 (by decide) (by decide)]
          refine ⟨rb2, by rw [b2 6 (by decide)]; exact x3.hg, by rw [b2 20 (by decide)]; exact x3.hn, ?_, ?_, fun _ _ _ _ _ _ hF => hF.elim⟩
          · rw [en, ec, o2 348 (by decide) (by decide), o2 335 (by decide) (by decide), b2 6 (by decide)]; exact x3.cm
          · rw [en, o2 346 (by decide) (by decide), o2 349 (by decide) (by decide)]; exact x3.tgc
    · obtain ⟨k4, hk4⟩ : ∃ k4 : Nat, v4 = k4 := ⟨v4.toNat, by omega⟩
      subst hk4
      have eb4 : jland (jlshr a (8 * (k4 : Int))) 255 = byt a k4 := by rw [jland_255]; rfl
      have hb4 := byt_rg a k4
      rw [l2, eb4, Int.toNat_natCast]
      refine ⟨by omega, fun M3 e3 M4 e4 => ⟨⟨j + 1, by omega, by omega, ?_, fun q h1 h2 => ?_, fun b hb => ?_, fun p hp => ?_, ?_⟩, by dsimp only; omega⟩⟩
      · rw [e4, fu_at, if_pos rfl, e3, fu_off _ _ _ (by decide), l2]; rfl
      · rw [e4, fu_off _ _ _ h1, e3, fu_off _ _ _ h2]; exact o2 q h1 h2
      · rw [e4, fu_at, if_neg hb, e3, fu_off _ _ _ (by decide)]; exact b2 b hb
      · rw [e4, fu_off _ _ _ (by decide), e3, fu_at]
        by_cases e : p = n + j
        · rw [if_pos e]; unfold txa; rw [if_neg (by omega), show c - 1 - (p - n) = k4 by omega]
        · rw [if_neg e]; exact t2 p (by omega)
      · rw [e4, e3]; exact (rb2.u 332 200 0 65535 (by decide) _ _ (by omega)).o (by decide) _ _
  · by_cases e : j = k
    · rw [e]
      have h7 : ¬ byt a k < 33 := fun hh => h5 (jcmp_lt.mpr hh)
      have h8 := jcmp_le.mp h6
      omega
    · exact hok j (by omega)
end Calls
end Pu_cf
section Pu_cg
section Calls2
variable {T : Nat → Int} {n : Nat} {w : Int} {post : Int → fm_M → Prop} {thr : String → fm_M → Prop}
theorem txt0 {T : Nat → Int} : txt T 0 := ⟨by omega, fun p hp => by omega⟩
theorem CI.wipe' {M : fm_M} (h : CI T n w M) {M' : fm_M} (o : ∀ q, q ≠ 2 → M' q = M q) (l : M' 2 1 = 0) : CI T 0 w M' := by
  obtain ⟨g, k, hgk, e1, e2, c1, c2, F⟩ := h.gs
  refine ⟨txt0, l, fun p hp => by omega, ⟨g, k, hgk, by rw [o 1 (by decide)]; exact e1, by rw [o 142 (by decide)]; exact e2, c1.same (fun q h1 h2 => o q (by omega)), c2.same (fun q h1 h2 => o q (by omega)), ?_⟩, fun i x hi hx => by rw [o _ (by omega)]; exact h.nx i x hi hx, fun i hi => by rw [o 328 (by decide), o 330 (by decide)]; exact h.al i hi, by rw [o 0 (by decide)]; exact h.b5, by rw [o 0 (by decide)]; exact h.b6, by rw [o 1 (by decide)]; exact h.wr⟩
  rw [o k (by omega)]
  exact F.same (fun q hq => o q (by omega))
theorem RI.wipe' {M : fm_M} (h : RI T n w M) {M' : fm_M} (o : ∀ q, q ≠ 331 → M' q = M q) (b : ∀ x, x ≠ 0 → x ≠ 2 → M' 331 x = M 331 x) (l : M' 331 2 = 0) : RI T 0 w M' := by
  refine ⟨⟨txt0, l, fun p hp => by omega⟩, fun q hq x hx => by rw [o q.1 (RBt_ne q hq)]; exact h.rb q hq x hx, ?_, by rw [b 22 (by decide) (by decide)]; exact h.sl, by rw [b 4 (by decide) (by decide)]; exact h.wr⟩
  rcases h.hg with ⟨x1, x2⟩ | ⟨x1, x2, x3⟩
  · exact Or.inl ⟨by rw [b 6 (by decide) (by decide)]; exact x1, by rw [b 20 (by decide) (by decide)]; exact x2⟩
  · exact Or.inr ⟨by rw [b 6 (by decide) (by decide)]; exact x1, gwf_same x2 (b 6 (by decide) (by decide)) (fun q hq => o q (by omega)), x3.same (b 6 (by decide) (by decide)) (b 20 (by decide) (by decide)) (fun q h1 h2 => o q (by omega))⟩
/-- the class reads -/
theorem CI.read {M : fm_M} (h : CI T n w M) (ko : ∀ c q : Nat, pAll T n = .ok c q → c ≤ 10 → ∀ M', (∀ a, 331 ≤ a → M' a = M a) → CI T 0 w M' → post c M') (kb : ∀ b : Nat, pAll T n = .bad b → ∀ M', (∀ a, 331 ≤ a → M' a = M a) → CI T n b M' → thr IAE M') : wp_CG_read M post thr := by
  obtain ⟨g, k, hgk, e1, e2, c1, c2, F⟩ := h.gs
  have hg : g = 4 ∨ g = 143 := by omega
  have hk : k = 4 ∨ k = 143 := by omega
  have S : CS T n g M := ⟨h.t, h.len, h.ch, by rw [e1]; rfl, hg⟩
  unfold wp_CG_read
  rw [e2, Int.toNat_natCast]
  refine c_readIn S c1 (fun c q M1 M2 hA f1 hc e M3 e3 M4 e4 M5 e5 M6 e6 M7 e7 => ?_) (fun b M1 hA f1 w1 => kb b hA M1 (fun a ha => f1.cell a (by omega) (by omega)) ?_)
  · have a1 : ∀ a, a ≠ 1 → ¬ (g ≤ a ∧ a < g + 137) → M1 a = M a := fun a h1 h2 => f1.cell a h1 (by omega)
    have cb1 := f1.cb c1
    rw [Int.toNat_natCast] at e3
    intro M8 e8 M9 e9 M10 e10
    -- what each step changes
    have o : ∀ a, a ≠ 0 → a ≠ 1 → a ≠ 2 → a ≠ 142 → M10 a = M1 a := fun a h0 h1 h2 h3 => by
      rw [e10, fu_off _ _ _ h2, e9, fu_off _ _ _ h0, e8, fu_off _ _ _ h0, e7, fu_off _ _ _ h3, e6, fu_off _ _ _ h3, e5, fu_off _ _ _ h3, e4, fu_off _ _ _ h3, e3, fu_off _ _ _ h3, e, fu_off _ _ _ h1]
    have f142 : M10 142 = M7 142 := by rw [e10, fu_off _ _ _ (by decide), e9, fu_off _ _ _ (by decide), e8, fu_off _ _ _ (by decide)]
    have z0 : M10 142 0 = g := by rw [f142, e7, fu_at, if_neg (by decide), e6, fu_at, if_neg (by decide), e5, fu_at, if_neg (by decide), e4, fu_at, if_neg (by decide), e3, fu_at, if_pos rfl]
    have z1 : M10 142 1 = 0 := by rw [f142, e7, fu_at, if_neg (by decide), e6, fu_at, if_neg (by decide), e5, fu_at, if_neg (by decide), e4, fu_at, if_pos rfl]
    have z4 : M10 142 4 = 0 := by rw [f142, e7, fu_at, if_neg (by decide), e6, fu_at, if_neg (by decide), e5, fu_at, if_pos rfl]
    have z3 : M10 142 3 = 0 := by rw [f142, e7, fu_at, if_neg (by decide), e6, fu_at, if_pos rfl]
    have y1 : M10 1 1 = k := by rw [e10, fu_off _ _ _ (by decide), e9, fu_off _ _ _ (by decide), e8, fu_off _ _ _ (by decide), e7, fu_off _ _ _ (by decide), e6, fu_off _ _ _ (by decide), e5, fu_off _ _ _ (by decide), e4, fu_off _ _ _ (by decide), e3, fu_off _ _ _ (by decide), e, fu_at, if_pos rfl]
    have x3 : M10 1 3 = w := by rw [e10, fu_off _ _ _ (by decide), e9, fu_off _ _ _ (by decide), e8, fu_off _ _ _ (by decide), e7, fu_off _ _ _ (by decide), e6, fu_off _ _ _ (by decide), e5, fu_off _ _ _ (by decide), e4, fu_off _ _ _ (by decide), e3, fu_off _ _ _ (by decide), e, fu_at, if_neg (by decide), f1.slot 3 (by decide)]; exact h.wr
    have x5 : M10 0 5 = 1 := by rw [e10, fu_off _ _ _ (by decide), e9, fu_at, if_neg (by decide), e8, fu_at, if_pos rfl]
    have x6 : M10 0 6 = 0 := by rw [e10, fu_off _ _ _ (by decide), e9, fu_at, if_pos rfl]
    have l10 : M10 2 1 = 0 := by rw [e10, fu_at, if_pos rfl]
    have hcg : 0 ≤ M1 g 4 ∧ M1 g 4 ≤ 10 := by
      have := cb1.g' (o := 0) (s := 4) (t := 5) (a := 0) (b := 10) (by decide) (x := 4) (by omega) (by omega)
      simpa using this
    have hg10 : (M10 142 0).toNat = g := by rw [z0]; rfl
    rw [hg10, o g (by omega) (by omega) (by omega) (by omega), hc]
    rw [hc] at hcg
    refine ⟨(tcG hg).1, ko c q hA (by omega) M10 (fun a ha => by rw [o a (by omega) (by omega) (by omega) (by omega), a1 a (by omega) (by omega)]) ⟨txt0, l10, fun p hp => by omega, ⟨k, g, by omega, y1, z0, ?_, ?_, ?_⟩, fun i x hi hx => ?_, fun i hi => ?_, Or.inr x5, Or.inl x6, x3⟩⟩
    · exact c2.same (fun a h1 h2 => by rw [o a (by omega) (by omega) (by omega) (by omega), a1 a (by omega) (by omega)])
    · exact cb1.same (fun a h1 h2 => o a (by omega) (by omega) (by omega) (by omega))
    · refine ⟨by omega, by omega, fun i v hi hv => ?_, fun v hv => ?_, fun i hi => by omega, by rw [z3]; exact rg_small (by decide)⟩
      · rw [o _ (by omega) (by omega) (by omega) (by omega), a1 _ (by omega) (by omega)]; exact F.val i v hi hv
      · rw [o 308 (by decide) (by decide) (by decide) (by decide), a1 308 (by omega) (by omega)]; exact F.com v hv
    · rw [o _ (by omega) (by omega) (by omega) (by omega), a1 _ (by omega) (by omega)]; exact h.nx i x hi hx
    · rw [o 328 (by decide) (by decide) (by decide) (by decide), a1 328 (by omega) (by omega), o 330 (by decide) (by decide) (by decide) (by decide), a1 330 (by omega) (by omega)]; exact h.al i hi
  · have a1 : ∀ a, a ≠ 1 → ¬ (g ≤ a ∧ a < g + 137) → M1 a = M a := fun a h1 h2 => f1.cell a h1 (by omega)
    refine ⟨h.t, by rw [a1 2 (by decide) (by omega)]; exact h.len, by rw [a1 3 (by decide) (by omega)]; exact h.ch, ⟨g, k, hgk, by rw [f1.slot 1 (by decide) (by decide)]; exact e1, by rw [a1 142 (by decide) (by omega)]; exact e2, f1.cb c1, c2.same (fun a h1 h2 => a1 a (by omega) (by omega)), ?_⟩, fun i x hi hx => by rw [a1 _ (by omega) (by omega)]; exact h.nx i x hi hx, fun i hi => by rw [a1 328 (by decide) (by omega), a1 330 (by decide) (by omega)]; exact h.al i hi, by rw [a1 0 (by decide) (by omega)]; exact h.b5, by rw [a1 0 (by decide) (by omega)]; exact h.b6, w1⟩
    rw [a1 k (by omega) (by omega)]
    exact F.same (fun a ha => a1 a (by omega) (by omega))
/-- the reference reads -/
theorem RI.read {M : fm_M} (h : RI T n w M) (ko : ∀ c q : Nat, pAll T n = .ok c q → ∀ M', (∀ a, a ≤ 330 → M' a = M a) → M' 362 = M 362 → M' 331 0 = 0 → RI T 0 w M' → post c M') (kb : ∀ b : Nat, pAll T n = .bad b → ∀ M', (∀ a, a ≤ 330 → M' a = M a) → M' 331 0 = 1 → RI T n b M' → post 0 M') : wp_Mo_read M post thr := by
  intro M0 e0
  have a0 : ∀ q, q ≠ 331 → M0 q = M q := fun q hq => by rw [e0]; exact fu_off _ _ _ hq
  have h0 : RI T n w M0 := h.same (fun q h1 h2 => a0 q (by omega)) (fun b hb => by rw [e0, fu_at, if_neg hb])
  have hg3 : M0 331 6 = -1 ∨ M0 331 6 = 0 ∨ M0 331 6 = 1 := by
    rcases h0.hg with ⟨a, _⟩ | ⟨a | a, _⟩
    · exact Or.inl a
    · exact Or.inr (Or.inl a)
    · exact Or.inr (Or.inr a)
  have low : ∀ (M' : fm_M) (bs : List Nat), sv cs12 bs M0 M' → ∀ a, a ≤ 330 → M' a = M a := fun M' _ s a ha => by
    rw [s.cell a (fun hh => by
      have : ∀ x ∈ cs12, 331 ≤ x := by decide
      have := this a hh; omega) (by omega)]
    exact a0 a (by omega)
  refine m_readAll h0.mt h0.rb hg3 (fun d c q M1 hd hgd hA s1 rb1 kp d1 c1 w1 => ⟨rg_small (by decide), fun _ M2 e2 M3 e3 M4 e4 M5 e5 M6 e6 => ?_, fun h => absurd h (by decide)⟩) (fun d x M1 hd hgd hA s1 rb1 kp w1 => ⟨rg_small (by decide), fun h => absurd rfl h, fun _ M2 e2 => kb x hA M2 ?_ (by rw [e2, fu_at, if_pos rfl]) ?_⟩)
  · have o : ∀ a, a ≠ 331 → M6 a = M1 a := fun a ha => by rw [e6, fu_off _ _ _ ha, e5, fu_off _ _ _ ha, e4, fu_off _ _ _ ha, e3, fu_off _ _ _ ha, e2, fu_off _ _ _ ha]
    have z6 : M6 331 6 = d := by rw [e6, fu_at, if_neg (by decide), e5, fu_at, if_neg (by decide), e4, fu_at, if_neg (by decide), e3, fu_at, if_neg (by decide), e2, fu_at, if_pos rfl, d1]
    have z2 : M6 331 2 = 0 := by rw [e6, fu_at, if_neg (by decide), e5, fu_at, if_neg (by decide), e4, fu_at, if_neg (by decide), e3, fu_at, if_pos rfl]
    have z20 : M6 331 20 = 0 := by rw [e6, fu_at, if_neg (by decide), e5, fu_at, if_neg (by decide), e4, fu_at, if_pos rfl]
    have z4 : M6 331 4 = w := by rw [e6, fu_at, if_neg (by decide), e5, fu_at, if_neg (by decide), e4, fu_at, if_neg (by decide), e3, fu_at, if_neg (by decide), e2, fu_at, if_neg (by decide), s1.slot 4 (by decide)]; exact h0.wr
    have z22 : M6 331 22 = 0 := by rw [e6, fu_at, if_pos rfl]
    have rb6 : RB M6 := fun q hq x hx => by rw [o q.1 (RBt_ne q hq)]; exact rb1 q hq x hx
    have n6 : (Gof M6).n = 0 := by show (M6 331 20).toNat = 0; rw [z20]; rfl
    have z0 : M6 331 0 = 0 := by rw [e6, fu_at, if_neg (by decide), e5, fu_at, if_neg (by decide), e4, fu_at, if_neg (by decide), e3, fu_at, if_neg (by decide), e2, fu_at, if_neg (by decide), s1.slot 0 (by decide), e0, fu_at, if_pos rfl]
    have e335 : M6 335 (M6 331 6).toNat = c := by rw [o 335 (by decide), z6, Int.toNat_natCast]; exact c1
    rw [e335]
    refine ⟨by omega, ko c q hA M6 (fun a ha => by rw [o a (by omega)]; exact low M1 _ s1 a ha) (by rw [o 362 (by decide), s1.cell 362 (by decide) (by decide), a0 362 (by decide)]) z0 ⟨⟨txt0, z2, fun p hp => by omega⟩, rb6, Or.inr ⟨by omega, fun c' hc' => ?_, ⟨rb6, by omega, by omega, ?_, ?_, fun _ _ _ _ _ _ hF => hF.elim⟩⟩, Or.inl z22, z4⟩⟩
    · have ed : (M6 331 6).toNat = d := by rw [z6]; rfl
      rw [ed, o 335 (by decide), c1] at hc'
      rw [ed, o 337 (by decide), o 338 (by decide), o 339 (by decide)]
      exact w1 c' (by omega)
    · rw [n6]; intro j k hj; omega
    · rw [n6]; intro j hj; omega
  · intro a ha
    rw [e2, fu_off _ _ _ (by omega)]; exact low M1 _ s1 a ha
  · have o : ∀ a, a ≠ 331 → M2 a = M1 a := fun a ha => by rw [e2]; exact fu_off _ _ _ ha
    have b2 : ∀ b, b ≠ 0 → b ≠ 3 → b ≠ 4 → b ≠ 5 → b ≠ 7 → M2 331 b = M0 331 b := fun b h0 h3 h4 h5 h7 => by rw [e2, fu_at, if_neg h0]; exact s1.slot b (by simp; omega)
    have rb2 : RB M2 := fun q hq x hx => by rw [o q.1 (RBt_ne q hq)]; exact rb1 q hq x hx
    refine ⟨⟨h.mt.t, by rw [b2 2 (by decide) (by decide) (by decide) (by decide) (by decide)]; exact h0.mt.len, by rw [o 332 (by decide), s1.cell 332 (by decide) (by decide)]; exact h0.mt.ch⟩, rb2, ?_, by rw [b2 22 (by decide) (by decide) (by decide) (by decide) (by decide)]; exact h0.sl, by rw [e2, fu_at, if_neg (by decide)]; exact w1⟩
    have z6 : M2 331 6 = M0 331 6 := b2 6 (by decide) (by decide) (by decide) (by decide) (by decide)
    have z20 : M2 331 20 = M0 331 20 := b2 20 (by decide) (by decide) (by decide) (by decide) (by decide)
    rcases h0.hg with ⟨x1, x2⟩ | ⟨x1, x2, x3⟩
    · exact Or.inl ⟨by rw [z6]; exact x1, by rw [z20]; exact x2⟩
    · obtain ⟨k, hk, hk1⟩ : ∃ k : Nat, M0 331 6 = k ∧ k ≤ 1 := ⟨(M0 331 6).toNat, by omega, by omega⟩
      have hkd : k ≠ d := fun e => hgd (by rw [← e, hk])
      refine Or.inr ⟨by rw [z6]; exact x1, fun c' hc' => ?_, ⟨rb2, by rw [z6]; exact x3.hg, by rw [z20]; exact x3.hn, ?_, ?_, fun _ _ _ _ _ _ hF => hF.elim⟩⟩
      · have ek : (M2 331 6).toNat = k := by rw [z6, hk]; rfl
        have ek0 : (M0 331 6).toNat = k := by rw [hk]; rfl
        rw [ek, o 335 (by decide), kp.c335 k hkd] at hc'
        have hb := h0.rb.g 335 2 0 10 (by decide) (x := k) (by omega)
        have h7 := kp.c337 (10 * k + c') (by omega)
        have hb4 := h0.rb.g 337 20 0 4 (by decide) (x := 10 * k + c') (by omega)
        have x2' := x2 c' (by rw [ek0]; exact hc')
        rw [ek0] at x2'
        have h9 : ∀ b, b < 4 → M1 339 (4 * (10 * k + c') + b) = M0 339 (4 * (10 * k + c') + b) := fun b hb => kp.c339 _ (by omega)
        rw [ek, o 337 (by decide), o 338 (by decide), o 339 (by decide), h7.1, h7.2]
        refine ⟨x2'.1, fun b hb => ?_, ?_⟩
        · rw [h9 b (by omega)]; exact x2'.2.1 b hb
        · rw [x2'.2.2]; exact sm_congr (fun b hb => by rw [h9 b (by omega)])
      · have en : (Gof M2).n = (Gof M0).n := by show (M2 331 20).toNat = (M0 331 20).toNat; rw [z20]
        have ec : (Gof M2).cc = (Gof M0).cc := by funext j; show (M2 349 j).toNat = (M0 349 j).toNat; rw [o 349 (by decide), s1.cell 349 (by decide) (by decide)]
        rw [en, ec, o 348 (by decide), s1.cell 348 (by decide) (by decide), z6, o 335 (by decide), hk, Int.toNat_natCast, kp.c335 k hkd]
        have := x3.cm
        rw [hk, Int.toNat_natCast] at this
        exact this
      · have en : (Gof M2).n = (Gof M0).n := by show (M2 331 20).toNat = (M0 331 20).toNat; rw [z20]
        rw [en, o 346 (by decide), o 349 (by decide), s1.cell 346 (by decide) (by decide), s1.cell 349 (by decide) (by decide)]
        exact x3.tgc
end Calls2
end Pu_cg
section Pu_ch
section Calls3
variable {T : Nat → Int} {n : Nat} {w : Int} {post : Int → fm_M → Prop} {thr : String → fm_M → Prop}
/-- the class solves -/
theorem CI.solve {M : fm_M} (h : CI T n w M) (ko : ∀ r M', rg r → (∀ a, 331 ≤ a → M' a = M a) → CI T n w M' → post r M') (kb : CI T n w M → thr "java/lang/IllegalStateException" M) : wp_CG_solve M post thr := by
  obtain ⟨g, k, hgk, e1, e2, c1, c2, F⟩ := h.gs
  have hk : k = 4 ∨ k = 143 := by omega
  have G : CG1 k M := ⟨hk, by rw [e2]; rfl, c2⟩
  obtain ⟨m, hm, hm10⟩ := G.cnt
  unfold wp_CG_solve
  refine ⟨rg_small (by rcases h.b5 with e | e <;> rw [e] <;> decide), fun _ => ?_, fun _ => kb h⟩
  -- what is kept of all
  have back : ∀ M' : fm_M, (∀ a, a ≤ 140 ∨ (143 ≤ a ∧ a ≤ 280) ∨ 331 ≤ a → a ≠ 0 → M' a = M a) → (∀ b, b ≠ 6 → M' 0 b = M 0 b) → (M' 0 6 = 0 ∨ M' 0 6 = 1) → M' 142 0 = k → FB m M' → nxr M' → alr M' → CI T n w M' := fun M' o b0 b6 z F' N' A' => by
    refine ⟨h.t, by rw [o 2 (by omega) (by omega)]; exact h.len, by rw [o 3 (by omega) (by omega)]; exact h.ch, ⟨g, k, hgk, by rw [o 1 (by omega) (by omega)]; exact e1, z, c1.same (fun a h1 h2 => o a (by omega) (by omega)), c2.same (fun a h1 h2 => o a (by omega) (by omega)), ?_⟩, N', A', by rw [b0 5 (by decide)]; exact h.b5, b6, by rw [o 1 (by omega) (by omega)]; exact h.wr⟩
    rw [o k (by omega) (by omega), hm]; exact F'
  refine x_explore G hm hm10 F.val F.com (fun r M1 f1 F1 rr hk1 => ?_)
  have g1 := G.e2 f1
  have m1 : M1 k 4 = m := by rw [f1.cell k (by omega) (by omega) (by omega) (by omega)]; exact hm
  have N1 : nxr M1 := fun i x hi hx => by rw [f1.cell _ (by omega) (by omega) (by omega) (by omega)]; exact h.nx i x hi hx
  refine x_link g1 m1 hm10 F1 N1 (fun M2 f2 F2 N2 K2 => ?_)
  have o2 : ∀ a, a ≤ 140 ∨ (143 ≤ a ∧ a ≤ 280) ∨ 309 ≤ a → M2 a = M a := fun a ha => by rw [f2.cell a (by omega) (by omega) (by omega), f1.cell a (by omega) (by omega) (by omega) (by omega)]
  have z2 : M2 142 0 = k := by rw [f2.cell 142 (by decide) (by decide) (by decide), f1.gm]; exact e2
  have A2 : alr M2 := fun i hi => by rw [o2 328 (by omega), o2 330 (by omega)]; exact h.al i hi
  -- with values or without
  have fin : ∀ s0 : Int, (s0 = 0 ∨ s0 = 1) → (s0 = 1 → 0 < r) → B_CG_solve_42 post thr M2 r s0 := by
    intro s0 hs0 hpos
    refine ⟨hs0, fun M3 e3 => ?_⟩
    have a3 : ∀ a, a ≠ 0 → M3 a = M2 a := fun a ha => by rw [e3]; exact fu_off _ _ _ ha
    have b3 : ∀ b, b ≠ 6 → M3 0 b = M 0 b := fun b hb => by rw [e3, fu_at, if_neg hb, o2 0 (by omega)]
    have s3 : M3 0 6 = s0 := by rw [e3, fu_at, if_pos rfl]
    have F3 : FB m M3 := F2.same (fun a ha => a3 a (by omega))
    have N3 : nxr M3 := fun i x hi hx => by rw [a3 _ (by omega)]; exact N2 i x hi hx
    have A3 : alr M3 := fun i hi => by rw [a3 328 (by decide), a3 330 (by decide)]; exact A2 i hi
    have o3 : ∀ a, a ≤ 140 ∨ (143 ≤ a ∧ a ≤ 280) ∨ 331 ≤ a → a ≠ 0 → M3 a = M a := fun a ha h0 => by rw [a3 a h0, o2 a (by omega)]
    have z3 : M3 142 0 = k := by rw [a3 142 (by decide)]; exact z2
    rw [s3]
    refine ⟨rg_small (by omega), fun _ => ko r M3 rr (fun a ha => o3 a (by omega) (by omega)) (back M3 o3 b3 (by rw [s3]; exact hs0) z3 F3 N3 A3), fun hne => ?_⟩
    have hr : 0 < r := hpos (by omega)
    obtain ⟨lk1, K1⟩ := hk1 hr
    have n2 : M2 142 = M1 142 := f2.cell 142 (by decide) (by decide) (by decide)
    have V2 : VS k m M2 := ⟨g1.lf f2, by rw [f2.cell k (by omega) (by omega) (by omega)]; exact m1, hm10, F2, by rw [n2]; exact lk1, K2 K1⟩
    have V3 : VS k m M3 := V2.same (fun a ha => a3 a (by omega))
    refine v_compute V3 (fun M4 f4 => ?_)
    have V4 := V3.vg f4
    have A4 : alr M4 := fun i hi => by rw [f4 328 (by omega), f4 330 (by omega)]; exact A3 i hi
    refine v_choose V4 A4 (fun M5 f5 A5 => ?_)
    have V5 := V4.vf f5
    have f45 : vf M3 M5 := f4.vf.tr f5
    refine ko r M5 rr (fun a ha => by rw [f45 a (by omega)]; exact o3 a (by omega) (by omega)) (back M5 (fun a ha h0 => by rw [f45 a (by omega)]; exact o3 a ha h0) (fun b hb => by rw [f45 0 (by omega)]; exact b3 b hb) (by rw [f45 0 (by omega), s3]; exact hs0) (by rw [f45 142 (by omega)]; exact z3) V5.fb (fun i x hi hx => by rw [f45 _ (by omega)]; exact N3 i x hi hx) A5)
  refine ⟨rr, fun h4 => fin 0 (Or.inl rfl) (fun h => absurd h (by decide)), fun h4 => fin 1 (Or.inr rfl) (fun _ => by omega)⟩
end Calls3
end Pu_ch
section Pu_ci
/-! The calls that only look. -/
section Calls4
variable {T : Nat → Int} {n : Nat} {w : Int} {post : Int → fm_M → Prop} {thr : String → fm_M → Prop}
/-- what the class's looks need -/
def LK (g m : Nat) (M : fm_M) : Prop :=
  (CG1 g M) ∧
  (M g 4 = m) ∧
  (m ≤ 10) ∧
  (FB m M) ∧
  (nxr M) ∧
  (alr M)
theorem LK.g1 {g m : Nat} {M : fm_M} (h_ : LK g m M) : CG1 g M := h_.1
theorem LK.hm {g m : Nat} {M : fm_M} (h_ : LK g m M) : M g 4 = m := h_.2.1
theorem LK.m10 {g m : Nat} {M : fm_M} (h_ : LK g m M) : m ≤ 10 := h_.2.2.1
theorem LK.fb {g m : Nat} {M : fm_M} (h_ : LK g m M) : FB m M := h_.2.2.2.1
theorem LK.nx {g m : Nat} {M : fm_M} (h_ : LK g m M) : nxr M := h_.2.2.2.2.1
theorem LK.al {g m : Nat} {M : fm_M} (h_ : LK g m M) : alr M := h_.2.2.2.2.2
theorem CI.lk {M : fm_M} (h : CI T n w M) : ∃ g m : Nat, LK g m M := by
  obtain ⟨g, k, hgk, e1, e2, c1, c2, F⟩ := h.gs
  have hk : k = 4 ∨ k = 143 := by omega
  have G : CG1 k M := ⟨hk, by rw [e2]; rfl, c2⟩
  obtain ⟨m, hm, hm10⟩ := G.cnt
  exact ⟨k, m, G, hm, hm10, by rw [hm] at F; exact F, h.nx, h.al⟩
theorem l_has {g m : Nat} {M : fm_M} (h : LK g m M) {a : Int} (ha : rg a) (h0 : ¬ (0 ≤ a ∧ a < M 142 1) → post 0 M) (h1 : ∀ i : Nat, a = i → (i : Int) < M 142 1 → i < 8 → post 1 M) : wp_Fo_has M a post thr := by
  have hc := h.fb.cnt
  exact ⟨ha, fun h2 => h0 (by omega), fun h2 => ⟨rg_small (by omega), fun h3 => h0 (by omega), fun h3 => h1 a.toNat (by omega) (by omega) (by omega)⟩⟩
theorem l_choicesOf {g m : Nat} {M : fm_M} (h : LK g m M) {i : Nat} (hi : (i : Int) < M 142 1) (hp : ∀ x, bs x m → post x M) : wp_Fo_choicesOf M i post thr := by
  have hc := h.fb.cnt
  have hl := h.fb.lk
  unfold wp_Fo_choicesOf
  rw [Int.toNat_natCast]
  exact ⟨rg_small (by omega), rg_small (by omega), fun hh => hp 0 ⟨by decide, by have := Nat.two_pow_pos m; omega⟩, fun _ => ⟨by omega, hp _ (h.fb.en i hi)⟩⟩
theorem l_isOfMax {g m : Nat} {M : fm_M} (h : LK g m M) {i : Nat} (hi : (i : Int) < M 142 1) (h0 : post 0 M) (h1 : post 1 M) : wp_Fo_isOfMax M i post thr := by
  have hc := h.fb.cnt
  have hl := h.fb.lk
  exact ⟨rg_small (by omega), rg_small (by omega), fun _ => h0, fun _ => ⟨by omega, rg_jand _ _, fun _ => h0, fun _ => h1⟩⟩
theorem t281 : ∀ i : Fin 8, 281 + i.1 < nC ∧ TC (281 + i.1) = .inr (0, 3) := by decide
theorem l_variable {g m : Nat} {M : fm_M} (h : LK g m M) {a b : Int} (ha : rg a) (hb : rg b) (hp : ∀ r, post r M) : wp_CG_variable M a b post thr := by
  have t := tcG h.g1.gg
  refine l_has h ha (fun _ => ⟨rg_small (by decide), fun _ => hp _, fun h => absurd rfl h⟩) (fun i e hi hi8 => ⟨rg_small (by decide), fun h => absurd h (by decide), fun _ => ⟨hb, fun _ => hp _, fun h1 => ⟨fun _ => hp _, fun h2 => ?_⟩⟩⟩)
  obtain ⟨v, hv⟩ : ∃ v : Nat, b = v := ⟨b.toNat, by omega⟩
  subst hv; subst e
  rw [h.g1.gm]
  refine ⟨t.1, c_hasVar h.g1.gg h.g1.cb (by omega) (fun _ => ⟨rg_small (by decide), fun _ => ⟨by omega, ?_, by omega, hp _⟩, fun h => absurd h (by decide)⟩) (fun _ => ⟨rg_small (by decide), fun h => absurd rfl h, fun _ => hp _⟩)⟩
  rw [Int.toNat_natCast, show 280 + 1 + i = 281 + i by omega]; exact t281 ⟨i, hi8⟩
theorem l_target {g m : Nat} {M : fm_M} (h : LK g m M) {a : Int} (ha : rg a) (hp : ∀ r, post r M) : wp_CG_target M a post thr := by
  refine l_has h ha (fun _ => ⟨rg_small (by decide), fun _ => hp _, fun h => absurd rfl h⟩) (fun i e hi hi8 => ⟨rg_small (by decide), fun h => absurd h (by decide), fun _ => ?_⟩)
  subst e
  exact x_hasBit (fun _ => ⟨rg_small (by decide), fun _ => hp _, fun h => absurd rfl h⟩) (fun _ => ⟨rg_small (by decide), fun h => absurd h (by decide), fun _ => hp _⟩)
theorem l_owner {g m : Nat} {M : fm_M} (h : LK g m M) {a : Int} (ha : rg a) (hp : ∀ r, post r M) : wp_CG_owner M a post thr := by
  refine l_has h ha (fun _ => ⟨rg_small (by decide), fun _ => hp _, fun h => absurd rfl h⟩) (fun i e hi hi8 => ⟨rg_small (by decide), fun h => absurd h (by decide), fun _ => ?_⟩)
  subst e
  exact l_choicesOf h hi (fun x hx => ⟨bs_rg hx h.m10, fun _ => l_isOfMax h hi ⟨rg_small (by decide), fun _ => hp _, fun h => absurd rfl h⟩ ⟨rg_small (by decide), fun h => absurd h (by decide), fun _ => hp _⟩, fun _ => hp _⟩)
theorem l_choice {g m : Nat} {M : fm_M} (h : LK g m M) {a b : Int} (ha : rg a) (hb : rg b) (hp : ∀ r, post r M) : wp_CG_choice M a b post thr := by
  refine l_has h ha (fun _ => ⟨rg_small (by decide), fun _ => hp _, fun h => absurd rfl h⟩) (fun i e hi hi8 => ⟨rg_small (by decide), fun h => absurd h (by decide), fun _ => ⟨hb, fun _ => ?_, fun _ => hp _⟩⟩)
  subst e
  refine l_choicesOf h hi (fun x hx => ?_)
  refine ⟨fun M' v3 v4 v5 => M' = M ∧ ∃ k j : Nat, v5 = k ∧ v4 = j ∧ j ≤ k ∧ k ≤ 10, fun _ _ _ v5 => (10 - v5).toNat, ⟨rfl, 0, 0, rfl, rfl, by omega, by omega⟩, ?_⟩
  rintro M' v3 v4 v5 ⟨rfl, k, j, rfl, rfl, hj, hk⟩
  unfold C_CG_choice_32
  exact ⟨rg_small (by omega), fun _ => hp _, fun h4 => x_hasBit (fun _ => ⟨rg_small (by decide), fun _ => ⟨⟨rfl, k + 1, j, by omega, rfl, by omega, by omega⟩, by dsimp only; omega⟩, fun h => absurd rfl h⟩) (fun _ => ⟨rg_small (by decide), fun h => absurd h (by decide), fun _ => ⟨rg_small (by omega), hb, fun _ => ⟨⟨rfl, k + 1, j + 1, by omega, by omega, by omega, by omega⟩, by dsimp only; omega⟩, fun _ => hp _⟩⟩)⟩
theorem br1 : ∀ c : Fin 10, ∀ b : Fin 4, 4 + 3 + 4 + 13 * c.1 + 4 + 1 + 2 * b.1 < nC ∧ TC (4 + 3 + 4 + 13 * c.1 + 4 + 1 + 2 * b.1) = .inl (6, ks_Br) := by decide
theorem br2 : ∀ c : Fin 10, ∀ b : Fin 4, 143 + 3 + 4 + 13 * c.1 + 4 + 1 + 2 * b.1 < nC ∧ TC (143 + 3 + 4 + 13 * c.1 + 4 + 1 + 2 * b.1) = .inl (6, ks_Br) := by decide
theorem wt3 : ∀ c : Fin 10, (7 + 13 * c.1, 3, 4, (0 : Int), (4 : Int)) ∈ CBt := by decide
theorem l_branch {g m : Nat} {M : fm_M} (h : LK g m M) {a b c : Int} (ha : rg a) (hb : rg b) (hc : rg c) (hp : ∀ r, post r M) : wp_CG_branch M a b c post thr := by
  have t := tcG h.g1.gg
  have hm10 := h.m10
  have hg := h.g1.gg
  refine l_has h ha (fun _ => ⟨rg_small (by decide), fun _ => hp _, fun h => absurd rfl h⟩) (fun i e hi hi8 => ⟨rg_small (by decide), fun h => absurd h (by decide), fun _ => ⟨hb, fun _ => hp _, fun h1 => ?_⟩⟩)
  subst e
  rw [h.g1.gm, h.hm]
  refine ⟨t.1, rg_small (by omega), fun _ => hp _, fun h2 => ⟨by omega, ?_⟩⟩
  obtain ⟨k, hk⟩ : ∃ k : Nat, b = k := ⟨b.toNat, by omega⟩
  subst hk
  refine x_hasBit (fun _ => ⟨rg_small (by decide), fun h => absurd rfl h, fun _ => hp _⟩) (fun _ => ⟨rg_small (by decide), fun _ => ?_, fun h => absurd h (by decide)⟩)
  rw [h.g1.gm]
  have C := cmOk hg (c := k) (by omega)
  refine ⟨t.1, t.2.2.2, by omega, hc, fun _ => hp _, fun h3 => ?_⟩
  obtain ⟨d, hd⟩ : ∃ d : Nat, c = d := ⟨c.toNat, by omega⟩
  subst hd
  have hw : 0 ≤ M (g + (7 + 13 * k)) 3 ∧ M (g + (7 + 13 * k)) 3 ≤ 4 := h.g1.cb.g' (wt3 ⟨k, by omega⟩) (x := 3) (by omega) (by omega)
  simp only [Int.toNat_natCast]
  have eg : g + 3 + 4 + 13 * k = g + (7 + 13 * k) := by omega
  refine ⟨by rw [eg]; exact C.t0, by rw [eg]; exact rg_small (by omega), fun h4 => ?_, fun _ => hp _⟩
  rw [eg] at h4
  have nn := h.nx i (k * 4 + d) hi8 (by omega)
  unfold wp_Fo_next
  rw [Int.toNat_natCast, show 299 + 1 + i = 300 + i by omega, show ((k : Int) * 4 + (d : Int)).toNat = k * 4 + d by omega]
  refine ⟨by omega, t300 ⟨i, hi8⟩, by omega, rg_small (by omega), fun _ => ⟨by rw [eg]; exact C.t4, by omega, ?_, hp _⟩, fun _ => hp _⟩
  rcases hg with e | e <;> subst e
  · exact br1 ⟨k, by omega⟩ ⟨d, by omega⟩
  · exact br2 ⟨k, by omega⟩ ⟨d, by omega⟩
theorem l_check {M : fm_M} (hI : CI T n w M) {g m : Nat} (h : LK g m M) {a : Int} (ha : rg a) (hp : ∀ i : Nat, a = i → i < 8 → post 0 M) (k1 : thr "java/lang/IllegalStateException" M) (k2 : thr "java/lang/IndexOutOfBoundsException" M) : wp_CG_checkValueOf M a post thr := by
  refine ⟨rg_small (by rcases hI.b6 with e | e <;> rw [e] <;> decide), fun _ => ?_, fun _ => k1⟩
  exact l_has h ha (fun _ => ⟨rg_small (by decide), fun h => absurd rfl h, fun _ => k2⟩) (fun i e hi hi8 => ⟨rg_small (by decide), fun _ => hp i e hi8, fun h => absurd h (by decide)⟩)
theorem l_upper {M : fm_M} (hI : CI T n w M) {a : Int} (ha : rg a) (hp : ∀ r, post r M) (k1 : thr "java/lang/IllegalStateException" M) (k2 : thr "java/lang/IndexOutOfBoundsException" M) : wp_CG_upper M a post thr := by
  obtain ⟨g, m, h⟩ := hI.lk
  exact l_check hI h ha (fun i e hi => ⟨by omega, hp _⟩) k1 k2
theorem l_lower {M : fm_M} (hI : CI T n w M) {a : Int} (ha : rg a) (hp : ∀ r, post r M) (k1 : thr "java/lang/IllegalStateException" M) (k2 : thr "java/lang/IndexOutOfBoundsException" M) : wp_CG_lower M a post thr := by
  obtain ⟨g, m, h⟩ := hI.lk
  exact l_check hI h ha (fun i e hi => ⟨by omega, hp _⟩) k1 k2
theorem l_good {M : fm_M} (hI : CI T n w M) {a : Int} (ha : rg a) (hp : ∀ r, rg r → post r M) (k1 : thr "java/lang/IllegalStateException" M) (k2 : thr "java/lang/IndexOutOfBoundsException" M) : wp_CG_good M a post thr := by
  obtain ⟨g, m, h⟩ := hI.lk
  refine l_check hI h ha (fun i e hi => ⟨by omega, hp _ ?_⟩) k1 k2
  rw [e, Int.toNat_natCast]; exact (h.al i hi).2
end Calls4
end Pu_ci
section Pu_cj
/-! The reference's looks, and its solve. -/
section Calls5
variable {T : Nat → Int} {n : Nat} {w : Int} {post : Int → fm_M → Prop} {thr : String → fm_M → Prop}
/-- only the mark of the last call may change -/
def KP (M M' : fm_M) : Prop :=
  (∀ q, q ≠ 331 → M' q = M q) ∧
  (∀ b, b ≠ 0 → M' 331 b = M 331 b)
theorem KP.cell {M M' : fm_M} (h_ : KP M M') : ∀ q, q ≠ 331 → M' q = M q := h_.1
theorem KP.slot {M M' : fm_M} (h_ : KP M M') : ∀ b, b ≠ 0 → M' 331 b = M 331 b := h_.2
theorem KP.u {M M' : fm_M} {v : Int} (e : M' = fm_u M 331 0 v) : KP M M' := ⟨fun q hq => by rw [e]; exact fu_off _ _ _ hq, fun b hb => by rw [e, fu_at, if_neg hb]⟩
theorem RI.kp {M M' : fm_M} (h : RI T n w M) (k : KP M M') : RI T n w M' := h.same (fun q h1 _ => k.cell q (by omega)) k.slot
theorem RI.n8 {M : fm_M} (h : RI T n w M) : 0 ≤ M 331 20 ∧ M 331 20 ≤ 8 := by
  rcases h.hg with ⟨_, e⟩ | ⟨_, _, e⟩
  · omega
  · exact e.hn
theorem RI.g1 {M : fm_M} (h : RI T n w M) (hn : 0 < M 331 20) : ∃ G : Nat, M 331 6 = G ∧ G ≤ 1 := by
  rcases h.hg with ⟨_, e⟩ | ⟨e, _, _⟩
  · omega
  · rcases e with e | e
    · exact ⟨0, e, by omega⟩
    · exact ⟨1, e, by omega⟩
theorem r_isState {M : fm_M} (h : RI T n w M) {a : Int} (ha : rg a) (h0 : post 0 M) (h1 : ∀ i G : Nat, a = i → i < 8 → M 331 6 = G → G ≤ 1 → post 1 M) : wp_Mo_isState M a post thr := by
  have hn := h.n8
  refine m_within ha (rg_small (by decide)) (rg_small (by omega)) (fun e => ⟨Or.inr rfl, ?_⟩) (fun e => ⟨Or.inl rfl, h0⟩)
  obtain ⟨G, hG, hG1⟩ := h.g1 (by omega)
  exact h1 a.toNat G (by omega) (by omega) hG hG1
theorem RI.place {M : fm_M} (h : RI T n w M) (hp : ∀ r M', KP M M' → post r M') : wp_Mo_place M post thr := fun M2 e2 => hp _ M2 (KP.u e2)
theorem RI.states {M : fm_M} (h : RI T n w M) (hp : ∀ r M', KP M M' → post r M') : wp_Mo_states M post thr := fun M2 e2 => hp _ M2 (KP.u e2)
theorem RI.mixed {M : fm_M} (h : RI T n w M) (hp : ∀ r M', KP M M' → post r M') : wp_Mo_mixed M post thr := fun M2 e2 => hp _ M2 (KP.u e2)
theorem RI.vari {M : fm_M} (h : RI T n w M) {a b : Int} (ha : rg a) (hb : rg b) (hp : ∀ r M', KP M M' → post r M') : wp_Mo_variable M a b post thr := by
  intro M1 e1
  have k1 := KP.u e1
  have h1 := h.kp k1
  have P : ∀ r, post r M1 := fun r => hp r M1 k1
  refine r_isState h1 ha ⟨rg_small (by decide), fun _ => P _, fun h => absurd rfl h⟩ (fun i G e hi hG hG1 => ⟨rg_small (by decide), fun h => absurd h (by decide), fun _ => ?_⟩)
  refine m_within hb (rg_small (by decide)) (rg_small (by decide)) (fun e2 => ⟨rg_small (by decide), fun h => absurd h (by decide), fun _ => ?_⟩) (fun _ => ⟨rg_small (by decide), fun _ => P _, fun h => absurd rfl h⟩)
  rw [hG]
  have := h1.rb.g 333 6 0 9 (by decide) (x := (3 * (G : Int) + b).toNat) (by omega)
  exact ⟨by omega, rg_small (by omega), fun _ => P _, fun _ => ⟨by omega, P _⟩⟩
theorem RI.target {M : fm_M} (h : RI T n w M) {a : Int} (ha : rg a) (hp : ∀ r M', KP M M' → post r M') : wp_Mo_target M a post thr := by
  intro M1 e1
  have k1 := KP.u e1
  have h1 := h.kp k1
  have P : ∀ r, post r M1 := fun r => hp r M1 k1
  refine r_isState h1 ha ⟨rg_small (by decide), fun _ => P _, fun h => absurd rfl h⟩ (fun i G e hi hG hG1 => ⟨rg_small (by decide), fun h => absurd h (by decide), fun _ => ?_⟩)
  have := h1.rb.g 346 8 0 1 (by decide) (x := a.toNat) (by omega)
  exact ⟨by omega, rg_small (by omega), fun _ => P _, fun _ => P _⟩
theorem RI.owner {M : fm_M} (h : RI T n w M) {a : Int} (ha : rg a) (hp : ∀ r M', KP M M' → post r M') : wp_Mo_owner M a post thr := by
  intro M1 e1
  have k1 := KP.u e1
  have h1 := h.kp k1
  have P : ∀ r, post r M1 := fun r => hp r M1 k1
  refine r_isState h1 ha ⟨rg_small (by decide), fun _ => P _, fun h => absurd rfl h⟩ (fun i G e hi hG hG1 => ⟨rg_small (by decide), fun h => absurd h (by decide), fun _ => ?_⟩)
  have := h1.rb.g 349 8 0 10 (by decide) (x := a.toNat) (by omega)
  have := h1.rb.g 347 8 0 1 (by decide) (x := a.toNat) (by omega)
  exact ⟨by omega, rg_small (by omega), fun _ => ⟨rg_small (by omega), fun _ => P _, fun _ => P _⟩, fun _ => P _⟩
theorem RI.choice {M : fm_M} (h : RI T n w M) {a b : Int} (ha : rg a) (hb : rg b) (hp : ∀ r M', KP M M' → post r M') : wp_Mo_choice M a b post thr := by
  intro M1 e1
  have k1 := KP.u e1
  have h1 := h.kp k1
  have P : ∀ r, post r M1 := fun r => hp r M1 k1
  refine r_isState h1 ha ⟨rg_small (by decide), fun _ => P _, fun h => absurd rfl h⟩ (fun i G e hi hG hG1 => ⟨rg_small (by decide), fun h => absurd h (by decide), fun _ => ?_⟩)
  have := h1.rb.g 349 8 0 10 (by decide) (x := a.toNat) (by omega)
  exact ⟨by omega, m_within hb (rg_small (by decide)) (rg_small (by omega)) (fun e2 => ⟨rg_small (by decide), fun h => absurd h (by decide), fun _ => ⟨by omega, P _⟩⟩) (fun _ => ⟨rg_small (by decide), fun _ => P _, fun h => absurd rfl h⟩)⟩
theorem RI.branch {M : fm_M} (h : RI T n w M) {a b c : Int} (ha : rg a) (hb : rg b) (hc : rg c) (hp : ∀ r M', KP M M' → post r M') : wp_Mo_branch M a b c post thr := by
  intro M1 e1
  have k1 := KP.u e1
  have h1 := h.kp k1
  have P : ∀ r, post r M1 := fun r => hp r M1 k1
  refine r_isState h1 ha ⟨rg_small (by decide), fun h => absurd rfl h, fun _ => P _⟩ (fun i G e hi hG hG1 => ⟨rg_small (by decide), fun _ => ?_, fun h => absurd h (by decide)⟩)
  subst e
  have h349 := h1.rb.g 349 8 0 10 (by decide) (x := i) hi
  refine ⟨fun M' v4 v5 => M' = M1 ∧ ∃ k : Nat, v5 = k ∧ (k : Int) ≤ M1 349 i, fun _ v4 v5 => (M1 349 i - v5).toNat, ⟨rfl, 0, rfl, by omega⟩, ?_⟩
  rintro M' v4 v5 ⟨rfl, k, rfl, hk⟩
  unfold C_Mo_branch_21
  rw [Int.toNat_natCast]
  refine ⟨by omega, rg_small (by omega), rg_small (by omega), fun _ => P _, fun h4 => ?_⟩
  have h348 := h1.rb.g 348 80 0 9 (by decide) (x := (10 * (i : Int) + (k : Int)).toNat) (by omega)
  have step : ∀ z : Int, (fun M'_1 v4' v5' => (M'_1 = M' ∧ ∃ k : Nat, v5' = k ∧ (k : Int) ≤ M' 349 i) ∧ (M' 349 i - v5').toNat < (M' 349 i - (k : Int)).toNat : fm_M → Int → Int → Prop) M' z ((k : Int) + 1) := fun z => ⟨⟨rfl, k + 1, by omega, by omega⟩, by omega⟩
  refine ⟨by omega, rg_small (by omega), hb, fun _ => step v4, fun h5 => ?_⟩
  rw [h5] at h348
  rw [hG]
  have h337 := h1.rb.g 337 20 0 4 (by decide) (x := (10 * (G : Int) + b).toNat) (by omega)
  refine ⟨by omega, m_within hc (rg_small (by decide)) (rg_small (by omega)) (fun e2 => ⟨rg_small (by decide), fun h => absurd h (by decide), fun _ => ?_⟩) (fun _ => ⟨rg_small (by decide), fun _ => step v4, fun h => absurd rfl h⟩)⟩
  have h350 := h1.rb.g 350 320 (-1) 7 (by decide) (x := (40 * (i : Int) + 4 * (k : Int) + c).toNat) (by omega)
  rw [hG]
  exact ⟨by omega, rg_small (by omega), fun _ => ⟨by omega, step (10 * M' 350 (40 * (i : Int) + 4 * (k : Int) + c).toNat + M' 339 (4 * (10 * (G : Int) + b) + c).toNat)⟩, fun _ => step (-1)⟩
theorem r_needs {M : fm_M} (h : RI T n w M) {a : Int} (ha : rg a) (h0 : ∀ M', KP M M' → post 0 M') (h1 : ∀ M' (i : Nat), a = i → i < 8 → KP M M' → post 1 M') : wp_Mo_needsValue M a post thr := by
  have B0 : (∃ i : Nat, a = i ∧ i < 8) → B_Mo_needsValue_25 a post thr M 0 := fun ⟨i, e, hi⟩ M1 e1 => by
    have a1 : M1 331 0 = 0 := by rw [e1, fu_at, if_pos rfl]
    rw [a1]
    exact ⟨rg_small (by decide), fun h => absurd rfl h, fun _ => h1 M1 i e hi (KP.u e1)⟩
  have Bs : ∀ s : Int, s = 1 ∨ s = 2 → B_Mo_needsValue_25 a post thr M s := fun s hs M1 e1 => by
    have a1 : M1 331 0 = s := by rw [e1, fu_at, if_pos rfl]
    rw [a1]
    exact ⟨rg_small (by omega), fun _ => h0 M1 (KP.u e1), fun h => by omega⟩
  refine ⟨rg_small (by rcases h.sl with e | e <;> rw [e] <;> decide), fun _ => ?_, fun _ => Bs 1 (Or.inl rfl)⟩
  exact r_isState h ha ⟨rg_small (by decide), fun h => absurd rfl h, fun _ => Bs 2 (Or.inr rfl)⟩ (fun i G e hi _ _ => ⟨rg_small (by decide), fun _ => B0 ⟨i, e, hi⟩, fun h => absurd h (by decide)⟩)
theorem RI.upper {M : fm_M} (h : RI T n w M) {a : Int} (ha : rg a) (hp : ∀ r M', KP M M' → post r M') : wp_Mo_upper M a post thr :=
  r_needs h ha (fun M' k => ⟨rg_small (by decide), fun _ => hp _ M' k, fun h => absurd rfl h⟩) (fun M' i e hi k => ⟨rg_small (by decide), fun h => absurd h (by decide), fun _ => ⟨by omega, hp _ M' k⟩⟩)
theorem RI.lower {M : fm_M} (h : RI T n w M) {a : Int} (ha : rg a) (hp : ∀ r M', KP M M' → post r M') : wp_Mo_lower M a post thr :=
  r_needs h ha (fun M' k => ⟨rg_small (by decide), fun _ => hp _ M' k, fun h => absurd rfl h⟩) (fun M' i e hi k => ⟨rg_small (by decide), fun h => absurd h (by decide), fun _ => ⟨by omega, hp _ M' k⟩⟩)
theorem RI.good {M : fm_M} (h : RI T n w M) {a : Int} (ha : rg a) (hp : ∀ r M', KP M M' → post r M') : wp_Mo_good M a post thr :=
  r_needs h ha (fun M' k => ⟨rg_small (by decide), fun _ => hp _ M' k, fun h => absurd rfl h⟩) (fun M' i e hi k => ⟨rg_small (by decide), fun h => absurd h (by decide), fun _ => ⟨by omega, hp _ M' k⟩⟩)
theorem slv_rg : ∀ a ∈ slv, 340 ≤ a := by decide
/-- the reference solves -/
theorem RI.solve {M : fm_M} (h : RI T n w M) (hp : ∀ r M', (∀ q, q ≤ 330 → M' q = M q) → RI T n w M' → post r M') : wp_Mo_solve M post thr := by
  have hg : M 331 6 = -1 ∨ ((M 331 6 = 0 ∨ M 331 6 = 1) ∧ gwf M) := by
    rcases h.hg with ⟨e, _⟩ | ⟨e, w, _⟩
    · exact Or.inl e
    · exact Or.inr ⟨e, w⟩
  refine spec_moSolve h.rb hg (fun M' e s rb => ?_) (fun r M' e s ex sl => ?_)
  · refine hp 0 M' (fun q hq => s.cell q (by simp) (by omega)) (h.same (fun q h1 h2 => s.cell q (by simp) (by omega)) (fun b hb => s.slot b (by simp; exact hb)))
  · have c : ∀ q, q < 340 → q ≠ 331 → M' q = M q := fun q hq hne => s.cell q (fun hh => by have := slv_rg q hh; omega) hne
    have gw : gwf M := by
      rcases hg with x | x
      · omega
      · exact x.2
    refine hp r M' (fun q hq => c q (by omega) (by omega)) ⟨⟨h.mt.t, by rw [s.slot 2 (by decide)]; exact h.mt.len, by rw [c 332 (by omega) (by omega)]; exact h.mt.ch⟩, ex.rb, Or.inr ⟨by rw [s.slot 6 (by decide)]; exact e, gwf_same gw (s.slot 6 (by decide)) (fun q hq => c q (by omega) (by omega)), ex⟩, sl, by rw [s.slot 4 (by decide)]; exact h.wr⟩
end Calls5
end Pu_cj
section Pu_ck
/-! Each call, of both, one behind the other. -/
theorem RI.above {T : Nat → Int} {n : Nat} {w : Int} {M M' : fm_M} (h : RI T n w M) (e : ∀ a, 331 ≤ a → a ≤ 361 → M' a = M a) : RI T n w M' := h.same (fun a h1 h2 => e a (by omega) h2) (fun b _ => by rw [e 331 (by omega) (by omega)])
theorem IV.look {T : Nat → Int} {n : Nat} {w : Int} {M M1 : fm_M} (c : CI T n w M) (r : RI T n w M) (hw : rg w) (k : KP M M1) : IV M1 := ⟨T, n, w, hw, c.same (fun a ha => k.cell a (by omega)), r.kp k⟩
/-- a cell that nobody reads -/
theorem u362 {T : Nat → Int} {n : Nat} {w : Int} {M M2 : fm_M} {p : Nat} {v : Int} (c : CI T n w M) (r : RI T n w M) (e : M2 = fm_u M 362 p v) : CI T n w M2 ∧ RI T n w M2 :=
  ⟨c.same (fun a ha => by rw [e]; exact fu_off _ _ _ (by omega)), r.above (fun a h1 h2 => by rw [e]; exact fu_off _ _ _ (by omega))⟩
section Pairs
variable {M : fm_M} {Q : Int → Int → fm_M → Prop} {thr thr2 : String → fm_M → Prop}
theorem p_type (hI : IV M) {a a3 : Int} (h3 : rg a3) (hq : ∀ r M', rg r → IV M' → Q r r M') : wp_CG_type M a a3 (fun r2 M1 => wp_Mo_type M1 a a3 (fun r4 M3 => Q r2 r4 M3) thr2) thr := by
  obtain ⟨T, n, w, hw, c, r⟩ := hI
  have hn := c.t.1
  refine c.type h3 (fun k ek k1 k8 kn ty M1 o1 c1 => ?_) (fun hno => ?_)
  · have r1' : RI T n w M1 := r.above (fun a h1 _ => o1 a (by omega) (by omega))
    refine r1'.type h3 (fun k' ek' _ _ _ _ M2 o2 r2' => ?_) (fun hno => absurd ⟨k, ek, k1, k8, kn, ty⟩ hno)
    have : k' = k := by omega
    subst this
    exact hq _ M2 (rg_small (by omega)) ⟨_, _, w, hw, c1.same o2, r2'⟩
  · exact r.type h3 (fun k ek h1 h2 h3 h4 => absurd ⟨k, ek, h1, h2, h3, h4⟩ hno) (fun _ M2 o2 r2' => hq _ M2 (rg_small (by decide)) ⟨_, _, w, hw, c.same o2, r2'⟩)
theorem p_wipe (hI : IV M) (hq : ∀ r M', rg r → IV M' → Q r r M') : wp_CG_wipe M (fun r2 M1 => wp_Mo_wipe M1 (fun r4 M3 => Q r2 r4 M3) thr2) thr := by
  obtain ⟨T, n, w, hw, c, r⟩ := hI
  have hn := c.t.1
  intro M1 e1
  have o1 : ∀ q, q ≠ 2 → M1 q = M q := fun q hq => by rw [e1]; exact fu_off _ _ _ hq
  have c1 : CI T 0 w M1 := c.wipe' o1 (by rw [e1, fu_at, if_pos rfl])
  have r1' : RI T n w M1 := r.above (fun a h1 _ => o1 a (by omega))
  intro M2 e2 M3 e3
  have l2 : M2 331 2 = n := by rw [e2, fu_at, if_neg (by decide)]; exact r1'.mt.len
  rw [c.len, l2]
  exact hq _ M3 (rg_small (by omega)) ⟨T, 0, w, hw, c1.same (fun a ha => by rw [e3, fu_off _ _ _ (by omega), e2, fu_off _ _ _ (by omega)]), r1'.wipe' (fun q hq => by rw [e3, fu_off _ _ _ hq, e2, fu_off _ _ _ hq]) (fun x h0 h2 => by rw [e3, fu_at, if_neg h2, e2, fu_at, if_neg h0]) (by rw [e3, fu_at, if_pos rfl])⟩
theorem p_read (hI : IV M) (h0 : ∀ r M', rg r → IV M' → M' 331 0 = 0 → M' 362 0 = r → Q 0 r M') (h1 : ∀ r M', IV M' → M' 331 0 = 1 → Q 1 r M') : wp_La_read M (fun r2 M1 => wp_Mo_read M1 (fun r4 M3 => Q r2 r4 M3) thr) := by
  obtain ⟨T, n, w, hw, c, r⟩ := hI
  have rM : ∀ M1 : fm_M, (∀ a, 331 ≤ a → M1 a = M a) → RI T n w M1 := fun M1 o1 => r.above (fun a h1 _ => o1 a h1)
  have hbr : ∀ b : Nat, pAll T n = .bad b → rg (b : Int) := fun b hb => rg_small (by have := pAll_bad hb; have := c.t.1; omega)
  unfold wp_La_read
  refine c.read (fun k q hA hk M1 o1 c1 => ⟨rg_small (by omega), fun M2 e2 => ?_⟩) (fun b hA M1 o1 c1 => ⟨rfl, ?_⟩)
  · have c2 : CI T 0 w M2 := c1.same (fun a ha => by rw [e2]; exact fu_off _ _ _ (by omega))
    have r2' : RI T n w M2 := (rM M1 o1).above (fun a h1 h2 => by rw [e2]; exact fu_off _ _ _ (by omega))
    refine r2'.read (fun k' q' hB M3 o3 x3 t3 r3' => ?_) (fun b hB => absurd (hA.symm.trans hB) (fun h => by injection h))
    obtain ⟨ek, _⟩ := ok_inj (hA.symm.trans hB)
    subst ek
    exact h0 k M3 (rg_small (by omega)) ⟨T, 0, w, hw, c2.same o3, r3'⟩ t3 (by rw [x3, e2, fu_at, if_pos rfl])
  · exact (rM M1 o1).read (fun _ _ hB => absurd (hA.symm.trans hB) (fun h => by injection h)) (fun b' hB M3 o3 t3 r3' => h1 0 M3 ⟨T, n, b, hbr b hA, c1.same o3, by have := bad_inj (hA.symm.trans hB); subst this; exact r3'⟩ t3)
theorem p_place (hI : IV M) (hq : ∀ r M', rg r → IV M' → Q r r M') : wp_CG_place M (fun r2 M1 => wp_Mo_place M1 (fun r4 M3 => Q r2 r4 M3) thr2) thr := by
  obtain ⟨T, n, w, hw, c, r⟩ := hI
  intro M2 e2
  have k := KP.u e2
  have e : M2 331 4 = w := by rw [k.slot 4 (by decide)]; exact r.wr
  rw [e, c.wr]
  exact hq w M2 hw (IV.look c r hw k)
theorem p_solve (hI : IV M) (hq : ∀ r r' M', IV M' → Q r r' M') : wp_La_solve M (fun r2 M1 => wp_Mo_solve M1 (fun r4 M3 => Q r2 r4 M3) thr) := by
  obtain ⟨T, n, w, hw, c, r⟩ := hI
  unfold wp_La_solve
  refine c.solve (fun x M1 rx o1 c1 => ⟨rx, fun M2 e2 => ?_⟩) (fun c1 => ⟨rfl, ?_⟩)
  · have r1' : RI T n w M1 := r.above (fun a h1 _ => o1 a (by omega))
    obtain ⟨c2, r2'⟩ := u362 c1 r1' e2
    exact r2'.solve (fun _ M3 o3 r3' => hq _ _ M3 ⟨T, n, w, hw, c2.same o3, r3'⟩)
  · exact r.solve (fun _ M3 o3 r3' => hq _ _ M3 ⟨T, n, w, hw, c.same o3, r3'⟩)
theorem p_states (hI : IV M) (hq : ∀ r r' M', IV M' → Q r r' M') : wp_CG_states M (fun r2 M1 => wp_Mo_states M1 (fun r4 M3 => Q r2 r4 M3) thr2) thr := by
  obtain ⟨T, n, w, hw, c, r⟩ := hI
  exact r.states (thr := thr2) (fun _ M' k => hq _ _ M' (IV.look c r hw k))
theorem p_mixed (hI : IV M) (hq : ∀ r r' M', IV M' → Q r r' M') : wp_CG_mixed M (fun r2 M1 => wp_Mo_mixed M1 (fun r4 M3 => Q r2 r4 M3) thr2) thr := by
  obtain ⟨T, n, w, hw, c, r⟩ := hI
  exact r.mixed (thr := thr2) (fun _ M' k => hq _ _ M' (IV.look c r hw k))
theorem p_variable' (hI : IV M) {a b : Int} (ha : rg a) (hb : rg b) (hq : ∀ r r' M', IV M' → Q r r' M') : wp_CG_variable M a b (fun r2 M1 => wp_Mo_variable M1 a b (fun r4 M3 => Q r2 r4 M3) thr2) thr := by
  obtain ⟨T, n, w, hw, c, r⟩ := hI
  obtain ⟨g, m, lk⟩ := c.lk
  exact l_variable lk ha hb (fun _ => r.vari ha hb (fun _ M' k => hq _ _ M' (IV.look c r hw k)))
theorem p_target (hI : IV M) {a : Int} (ha : rg a) (hq : ∀ r r' M', IV M' → Q r r' M') : wp_CG_target M a (fun r2 M1 => wp_Mo_target M1 a (fun r4 M3 => Q r2 r4 M3) thr2) thr := by
  obtain ⟨T, n, w, hw, c, r⟩ := hI
  obtain ⟨g, m, lk⟩ := c.lk
  exact l_target lk ha (fun _ => r.target ha (fun _ M' k => hq _ _ M' (IV.look c r hw k)))
theorem p_owner (hI : IV M) {a : Int} (ha : rg a) (hq : ∀ r r' M', IV M' → Q r r' M') : wp_CG_owner M a (fun r2 M1 => wp_Mo_owner M1 a (fun r4 M3 => Q r2 r4 M3) thr2) thr := by
  obtain ⟨T, n, w, hw, c, r⟩ := hI
  obtain ⟨g, m, lk⟩ := c.lk
  exact l_owner lk ha (fun _ => r.owner ha (fun _ M' k => hq _ _ M' (IV.look c r hw k)))
theorem p_choice (hI : IV M) {a b : Int} (ha : rg a) (hb : rg b) (hq : ∀ r r' M', IV M' → Q r r' M') : wp_CG_choice M a b (fun r2 M1 => wp_Mo_choice M1 a b (fun r4 M3 => Q r2 r4 M3) thr2) thr := by
  obtain ⟨T, n, w, hw, c, r⟩ := hI
  obtain ⟨g, m, lk⟩ := c.lk
  exact l_choice lk ha hb (fun _ => r.choice ha hb (fun _ M' k => hq _ _ M' (IV.look c r hw k)))
theorem p_branch (hI : IV M) {a b d : Int} (ha : rg a) (hb : rg b) (hd : rg d) (hq : ∀ r r' M', IV M' → Q r r' M') : wp_CG_branch M a b d (fun r2 M1 => wp_Mo_branch M1 a b d (fun r4 M3 => Q r2 r4 M3) thr2) thr := by
  obtain ⟨T, n, w, hw, c, r⟩ := hI
  obtain ⟨g, m, lk⟩ := c.lk
  exact l_branch lk ha hb hd (fun _ => r.branch ha hb hd (fun _ M' k => hq _ _ M' (IV.look c r hw k)))
theorem p_upper (hI : IV M) {a : Int} (ha : rg a) (hq : ∀ r r' M', IV M' → Q r r' M') : wp_La_upper M a (fun r2 M1 => wp_Mo_upper M1 a (fun r4 M3 => Q r2 r4 M3) thr) := by
  obtain ⟨T, n, w, hw, c, r⟩ := hI
  unfold wp_La_upper
  exact l_upper c ha (fun x M2 e2 => (u362 c r e2).2.upper ha (fun _ M3 k => hq _ _ M3 (IV.look (u362 c r e2).1 (u362 c r e2).2 hw k))) (Or.inl ⟨rfl, r.upper ha (fun _ M3 k => hq _ _ M3 (IV.look c r hw k))⟩) (Or.inr ⟨rfl, r.upper ha (fun _ M3 k => hq _ _ M3 (IV.look c r hw k))⟩)
theorem p_lower (hI : IV M) {a : Int} (ha : rg a) (hq : ∀ r r' M', IV M' → Q r r' M') : wp_La_lower M a (fun r2 M1 => wp_Mo_lower M1 a (fun r4 M3 => Q r2 r4 M3) thr) := by
  obtain ⟨T, n, w, hw, c, r⟩ := hI
  unfold wp_La_lower
  exact l_lower c ha (fun x M2 e2 => (u362 c r e2).2.lower ha (fun _ M3 k => hq _ _ M3 (IV.look (u362 c r e2).1 (u362 c r e2).2 hw k))) (Or.inl ⟨rfl, r.lower ha (fun _ M3 k => hq _ _ M3 (IV.look c r hw k))⟩) (Or.inr ⟨rfl, r.lower ha (fun _ M3 k => hq _ _ M3 (IV.look c r hw k))⟩)
theorem p_good (hI : IV M) {a : Int} (ha : rg a) (hq : ∀ r r' M', IV M' → Q r r' M') : wp_La_good M a (fun r2 M1 => wp_Mo_good M1 a (fun r4 M3 => Q r2 r4 M3) thr) := by
  obtain ⟨T, n, w, hw, c, r⟩ := hI
  unfold wp_La_good
  exact l_good c ha (fun x rx => ⟨rx, fun M2 e2 => (u362 c r e2).2.good ha (fun _ M3 k => hq _ _ M3 (IV.look (u362 c r e2).1 (u362 c r e2).2 hw k))⟩) (Or.inl ⟨rfl, r.good ha (fun _ M3 k => hq _ _ M3 (IV.look c r hw k))⟩) (Or.inr ⟨rfl, r.good ha (fun _ M3 k => hq _ _ M3 (IV.look c r hw k))⟩)
end Pairs
end Pu_ck
