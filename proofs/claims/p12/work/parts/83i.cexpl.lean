set_option maxRecDepth 10000
section Pu_bz
/-! Bits of an int. -/
/-- a bit is set -/
def bt (x : Int) (k : Nat) : Prop := ¬ jand (jshr x k) 1 = 0
theorem jand_z0 {a b : Int} : jand a b = 0 ↔ Int32.ofInt a &&& Int32.ofInt b = 0 := by
  unfold jand
  constructor
  · intro h; exact Int32.toInt_inj.mp (by rw [h]; rfl)
  · intro h; rw [h]; rfl
theorem sh_k : ∀ k : Fin 10, ((Int32.ofInt (k.1 : Int) &&& 31).toBitVec.smod 32).toNat = k.1 := by decide
theorem and1_z (y : BitVec 32) : y &&& 1#32 = 0#32 ↔ y.getLsbD 0 = false := by
  rw [BitVec.and_one_eq_setWidth_ofBool_getLsbD]
  cases y.getLsbD 0 <;> decide
theorem bt_iff {x : Int} {k : Nat} (hk : k < 10) : bt x k ↔ (Int32.ofInt x).toBitVec.getLsbD k = true := by
  unfold bt
  rw [jand_z0]
  unfold jshr
  rw [Int32.ofInt_toInt]
  generalize Int32.ofInt x = X
  have hs := sh_k ⟨k, hk⟩
  simp only at hs
  have e : X >>> (Int32.ofInt (k : Int) &&& 31) &&& Int32.ofInt 1 = 0 ↔ X.toBitVec.getLsbD k = false := by
    rw [← Int32.toBitVec_inj, Int32.toBitVec_and, Int32.toBitVec_shiftRight]
    show (X.toBitVec.sshiftRight' _ &&& 1#32 = 0#32) ↔ _
    rw [and1_z, BitVec.sshiftRight', hs, BitVec.getLsbD_sshiftRight]
    simp
    intro h; omega
  rw [e]
  simp
theorem bt_or' {x y : Int} {k : Nat} (hk : k < 10) : bt (jor x y) k ↔ bt x k ∨ bt y k := by
  rw [bt_iff hk, bt_iff hk, bt_iff hk]
  unfold jor
  rw [Int32.ofInt_toInt, Int32.toBitVec_or, BitVec.getLsbD_or]
  simp
theorem bt_not {x : Int} {k : Nat} (hk : k < 10) : bt (jxor x (-1)) k ↔ ¬ bt x k := by
  rw [bt_iff hk, bt_iff hk]
  unfold jxor
  rw [Int32.ofInt_toInt, Int32.toBitVec_xor, BitVec.getLsbD_xor]
  have : ∀ k : Fin 10, (Int32.ofInt (-1)).toBitVec.getLsbD k.1 = true := by decide
  rw [this ⟨k, hk⟩]
  simp
theorem bt_sh : ∀ c : Fin 10, ∀ k : Fin 10, bt (jshl 1 (c.1 : Int)) k.1 ↔ k.1 = c.1 := by
  unfold bt; decide
theorem bt_add' {x : Int} {c k : Nat} (hc : c < 10) (hk : k < 10) : bt (jor x (jshl 1 c)) k ↔ bt x k ∨ k = c := by
  rw [bt_or' hk, bt_sh ⟨c, hc⟩ ⟨k, hk⟩]
theorem bt_0 : ∀ k : Fin 10, ¬ bt 0 k.1 := by unfold bt; decide
theorem hi_0 : ∀ a : Fin 1024, ∀ k : Fin 22, (Int32.ofInt (a.1 : Int)).toBitVec.getLsbD (10 + k.1) = false := by
  intro a k
  rw [BitVec.getLsbD]
  have : (Int32.ofInt (a.1 : Int)).toBitVec.toNat = a.1 := by
    show (BitVec.ofInt 32 (a.1 : Int)).toNat = a.1
    rw [BitVec.toNat_ofInt]
    have := a.2
    omega
  rw [this]
  have h2 : 2 ^ 10 ≤ 2 ^ (10 + k.1) := Nat.pow_le_pow_right (by decide) (Nat.le_add_right 10 k.1)
  have h3 : (2 : Nat) ^ 10 = 1024 := by decide
  have := a.2
  exact Nat.testBit_lt_two_pow (by omega)
/-- two sets meet -/
theorem bt_meet {a b : Int} (ha : 0 ≤ a ∧ a < 1024) : ¬ jand a b = 0 ↔ ∃ k, k < 10 ∧ bt a k ∧ bt b k := by
  rw [jand_z0]
  have e : Int32.ofInt a &&& Int32.ofInt b = 0 ↔ ∀ k, k < 10 → ¬ (bt a k ∧ bt b k) := by
    rw [← Int32.toBitVec_inj, Int32.toBitVec_and]
    show (_ = 0#32) ↔ _
    constructor
    · intro h k hk hh
      rw [bt_iff hk, bt_iff hk] at hh
      have := congrArg (fun z => z.getLsbD k) h
      simp only [BitVec.getLsbD_and, hh.1, hh.2] at this
      simp at this
    · intro h
      apply BitVec.eq_of_getLsbD_eq
      intro k hk
      rw [BitVec.getLsbD_and]
      by_cases e : k < 10
      · have := h k e
        rw [bt_iff e, bt_iff e] at this
        simp only [BitVec.getLsbD_zero]
        cases h1 : (Int32.ofInt a).toBitVec.getLsbD k <;> cases h2 : (Int32.ofInt b).toBitVec.getLsbD k <;> simp_all
      · have := hi_0 ⟨a.toNat, by omega⟩ ⟨k - 10, by omega⟩
        simp only at this
        rw [show ((a.toNat : Nat) : Int) = a by omega, show 10 + (k - 10) = k by omega] at this
        rw [this]; simp
  rw [e]
  constructor
  · intro h
    apply Classical.byContradiction
    intro hn
    exact h (fun k hk hh => hn ⟨k, hk, hh⟩)
  · intro ⟨k, hk, hh⟩ h
    exact h k hk hh
end Pu_bz
section Pu_ca
/-! The class's search for states: no call throws, and what comes is found again. -/
theorem jj_or : ∀ c : Fin 10, ∀ x : Fin 512, x.1 < 2 ^ c.1 → jor (x.1 : Int) (jshl 1 (c.1 : Int)) = ((x.1 + 2 ^ c.1 : Nat) : Int) := by decide +kernel
theorem jj_hi : ∀ k : Fin 10, ∀ x : Fin 512, x.1 < 2 ^ k.1 → jand (jshr (x.1 : Int) (k.1 : Int)) 1 = 0 := by decide +kernel
theorem jj_ex : ∀ x : Fin 1024, x.1 ≠ 0 → ∃ k : Fin 10, ¬ jand (jshr (x.1 : Int) (k.1 : Int)) 1 = 0 := by decide +kernel
theorem rg_jor (a b : Int) : rg (jor a b) := ⟨Int32.le_toInt _, Int32.toInt_le _⟩
theorem rg_jshl (a b : Int) : rg (jshl a b) := ⟨Int32.le_toInt _, Int32.toInt_le _⟩
/-- the game that is held, in the class -/
def CG1 (g : Nat) (M : fm_M) : Prop :=
  (g = 4 ∨ g = 143) ∧
  ((M 142 0).toNat = g) ∧
  (CB g M)
theorem CG1.gg {g : Nat} {M : fm_M} (h_ : CG1 g M) : g = 4 ∨ g = 143 := h_.1
theorem CG1.gm {g : Nat} {M : fm_M} (h_ : CG1 g M) : (M 142 0).toNat = g := h_.2.1
theorem CG1.cb {g : Nat} {M : fm_M} (h_ : CG1 g M) : CB g M := h_.2.2
/-- a set of commands -/
def bs (x : Int) (m : Nat) : Prop := 0 ≤ x ∧ x < ((2 ^ m : Nat) : Int)
theorem bs_rg {x : Int} {m : Nat} (h : bs x m) (hm : m ≤ 10) : rg x := by
  have : (2 : Nat) ^ m ≤ 2 ^ 10 := Nat.pow_le_pow_right (by decide) hm
  have h10 : (2 : Nat) ^ 10 = 1024 := by decide
  unfold bs at h
  exact rg_small (by omega)
theorem bs_or {x : Int} {c : Nat} (h : bs x c) (hc : c < 10) : bs (jor x (jshl 1 c)) (c + 1) := by
  unfold bs at *
  have h9 : (2 : Nat) ^ c ≤ 2 ^ 9 := Nat.pow_le_pow_right (by decide) (by omega)
  have h10 : (2 : Nat) ^ 9 = 512 := by decide
  have := jj_or ⟨c, hc⟩ ⟨x.toNat, by omega⟩ (by show x.toNat < 2 ^ c; omega)
  simp only at this
  rw [show ((x.toNat : Nat) : Int) = x by omega] at this
  rw [this]
  have h2 : (2 : Nat) ^ (c + 1) = 2 ^ c + 2 ^ c := by rw [Nat.pow_succ]; omega
  rw [h2]
  omega
theorem bs_mono {x : Int} {c m : Nat} (h : bs x c) (hm : c ≤ m) : bs x m := by
  unfold bs at *
  have : (2 : Nat) ^ c ≤ 2 ^ m := Nat.pow_le_pow_right (by decide) hm
  omega
theorem bs_bt {x : Int} {m k : Nat} (h : bs x m) (hm : m ≤ 10) (hk : k < 10) (hb : bt x k) : k < m := by
  apply Classical.byContradiction
  intro hne
  apply hb
  unfold bs at h
  have h1 : (2 : Nat) ^ m ≤ 2 ^ k := Nat.pow_le_pow_right (by decide) (by omega)
  have h9 : (2 : Nat) ^ k ≤ 2 ^ 9 := Nat.pow_le_pow_right (by decide) (by omega)
  have h10 : (2 : Nat) ^ 9 = 512 := by decide
  have := jj_hi ⟨k, hk⟩ ⟨x.toNat, by omega⟩ (by show x.toNat < 2 ^ k; omega)
  simp only at this
  rw [show ((x.toNat : Nat) : Int) = x by omega] at this
  exact this
theorem bs_ex {x : Int} {m : Nat} (h : bs x m) (hm : m ≤ 10) (h0 : x ≠ 0) : ∃ k, k < 10 ∧ bt x k := by
  have h1 := bs_mono h hm
  unfold bs at h1
  have h10 : (2 : Nat) ^ 10 = 1024 := by decide
  obtain ⟨k, hk⟩ := jj_ex ⟨x.toNat, by omega⟩ (by show x.toNat ≠ 0; omega)
  refine ⟨k.1, k.2, ?_⟩
  simp only at hk
  rw [show ((x.toNat : Nat) : Int) = x by omega] at hk
  exact hk
section Ex
variable {g : Nat} {post : Int → fm_M → Prop} {thr : String → fm_M → Prop}
/-- the number of commands -/
theorem CG1.cnt {M : fm_M} (h : CG1 g M) : ∃ m : Nat, M g 4 = m ∧ m ≤ 10 := by
  have := h.cb.g' (o := 0) (s := 4) (t := 5) (a := 0) (b := 10) (by decide) (x := 4) (by omega) (by omega)
  exact ⟨(M g 4).toNat, by simp only [Nat.add_zero] at this; omega, by simp only [Nat.add_zero] at this; omega⟩
theorem x_hasBit {M : fm_M} {x : Int} {k : Nat} (h0 : ¬ bt x k → post 0 M) (h1 : bt x k → post 1 M) : wp_CG_hasBit M x k post thr := ⟨rg_jand _ _, fun h => h0 (fun hh => hh h), fun h => h1 h⟩
/-- what a sum of the class comes to at values; does a guard of the class hold; what comes -/
def csr (M : fm_M) (k0 a : Nat) (r : Nat → Int) : Int := jwi (M k0 (a + 3) + M k0 a * r 0 + M k0 (a + 1) * r 1 + M k0 (a + 2) * r 2)
def chol (M : fm_M) (k : Nat) (r : Nat → Int) : Prop := ∀ t : Nat, (t : Int) < M k 2 → tcm (M (k + 2) t) (csr M (k + 1) (4 * t) r) 0
def folr (M : fm_M) (g k2 : Nat) (r : Nat → Int) (v : Nat) : Int := jmax 0 (jmin (M (g + 1) v) (csr M (k2 + 1) (4 * v) r))
theorem csr_c {M : fm_M} {k0 a : Nat} {r r' : Nat → Int} (e : ∀ v, v < 3 → r v = r' v) : csr M k0 a r = csr M k0 a r' := by
  unfold csr; rw [e 0 (by omega), e 1 (by omega), e 2 (by omega)]
theorem chol_c {M : fm_M} {k : Nat} {r r' : Nat → Int} (e : ∀ v, v < 3 → r v = r' v) : chol M k r ↔ chol M k r' := by
  unfold chol; simp only [csr_c (M := M) e]
theorem folr_c {M : fm_M} {g k2 v : Nat} {r r' : Nat → Int} (e : ∀ v, v < 3 → r v = r' v) : folr M g k2 r v = folr M g k2 r' v := by
  unfold folr; rw [csr_c e]
theorem chol_same {M M' : fm_M} {k : Nat} (e : ∀ a, k ≤ a → a ≤ k + 2 → M' a = M a) (r : Nat → Int) : chol M' k r ↔ chol M k r := by
  unfold chol csr; rw [e k (by omega) (by omega), e (k + 1) (by omega) (by omega), e (k + 2) (by omega) (by omega)]
/-- the game in the class -/
def CY (Y : Ga) (g : Nat) (M : fm_M) : Prop :=
  (YW Y) ∧
  (M g 4 = Y.C) ∧
  (∀ r, okr Y r → (chol M (g + 4) r ↔ Y.tg r = true)) ∧
  (∀ c, c < Y.C → ∀ r, okr Y r → (chol M (g + (8 + 13 * c)) r ↔ Y.en c r = true)) ∧
  (∀ c, c < Y.C → M (g + (7 + 13 * c)) 2 = if Y.mx c = true then 1 else 0) ∧
  (∀ c, c < Y.C → M (g + (7 + 13 * c)) 3 = Y.nb c) ∧
  (∀ c b, c < Y.C → b < Y.nb c → ∀ r, okr Y r → ∀ v, v < 3 → folr M g (g + (12 + 13 * c + 2 * b)) r v = Y.nx c b r v) ∧
  (∀ v, v < 3 → M (g + 2) v = Y.fi v) ∧
  (∀ v, v < 3 → M (g + 1) v = Y.mo v)
theorem CY.w {Y : Ga} {g : Nat} {M : fm_M} (h_ : CY Y g M) : YW Y := h_.1
theorem CY.c {Y : Ga} {g : Nat} {M : fm_M} (h_ : CY Y g M) : M g 4 = Y.C := h_.2.1
theorem CY.tg {Y : Ga} {g : Nat} {M : fm_M} (h_ : CY Y g M) : ∀ r, okr Y r → (chol M (g + 4) r ↔ Y.tg r = true) := h_.2.2.1
theorem CY.en {Y : Ga} {g : Nat} {M : fm_M} (h_ : CY Y g M) : ∀ c, c < Y.C → ∀ r, okr Y r → (chol M (g + (8 + 13 * c)) r ↔ Y.en c r = true) := h_.2.2.2.1
theorem CY.mx {Y : Ga} {g : Nat} {M : fm_M} (h_ : CY Y g M) : ∀ c, c < Y.C → M (g + (7 + 13 * c)) 2 = if Y.mx c = true then 1 else 0 := h_.2.2.2.2.1
theorem CY.nb {Y : Ga} {g : Nat} {M : fm_M} (h_ : CY Y g M) : ∀ c, c < Y.C → M (g + (7 + 13 * c)) 3 = Y.nb c := h_.2.2.2.2.2.1
theorem CY.nx {Y : Ga} {g : Nat} {M : fm_M} (h_ : CY Y g M) : ∀ c b, c < Y.C → b < Y.nb c → ∀ r, okr Y r → ∀ v, v < 3 → folr M g (g + (12 + 13 * c + 2 * b)) r v = Y.nx c b r v := h_.2.2.2.2.2.2.1
theorem CY.fi {Y : Ga} {g : Nat} {M : fm_M} (h_ : CY Y g M) : ∀ v, v < 3 → M (g + 2) v = Y.fi v := h_.2.2.2.2.2.2.2.1
theorem CY.mo {Y : Ga} {g : Nat} {M : fm_M} (h_ : CY Y g M) : ∀ v, v < 3 → M (g + 1) v = Y.mo v := h_.2.2.2.2.2.2.2.2
theorem CY.same {Y : Ga} {g : Nat} {M M' : fm_M} (h : CY Y g M) (e : ∀ a, g ≤ a → a < g + 137 → M' a = M a) : CY Y g M' := by
  have hC := h.w.c10
  have hN := h.w.nb4
  refine ⟨h.w, by rw [e g (by omega) (by omega)]; exact h.c, fun r hr => (chol_same (fun a h1 h2 => e a (by omega) (by omega)) r).trans (h.tg r hr), fun c hc r hr => (chol_same (fun a h1 h2 => e a (by omega) (by omega)) r).trans (h.en c hc r hr), fun c hc => by rw [e _ (by omega) (by omega)]; exact h.mx c hc, fun c hc => by rw [e _ (by omega) (by omega)]; exact h.nb c hc, fun c b hc hb r hr v hv => ?_, fun v hv => by rw [e _ (by omega) (by omega)]; exact h.fi v hv, fun v hv => by rw [e _ (by omega) (by omega)]; exact h.mo v hv⟩
  have := hN c
  have hx := h.nx c b hc hb r hr v hv
  unfold folr csr at hx ⊢
  rw [e (g + 1) (by omega) (by omega), e _ (by omega) (by omega)]; exact hx
/-- the search in the class -/
def CFd (Y : Ga) (X : Xs) (M : fm_M) : Prop :=
  (M 142 1 = X.1) ∧
  (X.1 ≤ 8) ∧
  (∀ i, i < X.1 → okr Y (X.2 i)) ∧
  (∀ i v, i < X.1 → v < 3 → M (281 + i) v = X.2 i v) ∧
  (∀ i, i < X.1 → ∀ c, c < 10 → (bt (M 289 i) c ↔ c < Y.C ∧ ene Y (X.2 i) c = true)) ∧
  (∀ i, i < 8 → (bt (M 142 3) i ↔ i < X.1 ∧ Y.tg (X.2 i) = true))
theorem CFd.n {Y : Ga} {X : Xs} {M : fm_M} (h_ : CFd Y X M) : M 142 1 = X.1 := h_.1
theorem CFd.n8 {Y : Ga} {X : Xs} {M : fm_M} (h_ : CFd Y X M) : X.1 ≤ 8 := h_.2.1
theorem CFd.ok {Y : Ga} {X : Xs} {M : fm_M} (h_ : CFd Y X M) : ∀ i, i < X.1 → okr Y (X.2 i) := h_.2.2.1
theorem CFd.st {Y : Ga} {X : Xs} {M : fm_M} (h_ : CFd Y X M) : ∀ i v, i < X.1 → v < 3 → M (281 + i) v = X.2 i v := h_.2.2.2.1
theorem CFd.en {Y : Ga} {X : Xs} {M : fm_M} (h_ : CFd Y X M) : ∀ i, i < X.1 → ∀ c, c < 10 → (bt (M 289 i) c ↔ c < Y.C ∧ ene Y (X.2 i) c = true) := h_.2.2.2.2.1
theorem CFd.tg {Y : Ga} {X : Xs} {M : fm_M} (h_ : CFd Y X M) : ∀ i, i < 8 → (bt (M 142 3) i ↔ i < X.1 ∧ Y.tg (X.2 i) = true) := h_.2.2.2.2.2
theorem CFd.same {Y : Ga} {X : Xs} {M M' : fm_M} (h : CFd Y X M) (e1 : M' 142 1 = M 142 1) (e3 : M' 142 3 = M 142 3) (e : ∀ a, 281 ≤ a → a ≤ 289 → M' a = M a) : CFd Y X M' := by
  have := h.n8
  exact ⟨by rw [e1]; exact h.n, h.n8, h.ok, fun i v hi hv => by rw [e _ (by omega) (by omega)]; exact h.st i v hi hv, by rw [e 289 (by omega) (by omega)]; exact h.en, by rw [e3]; exact h.tg⟩
/-- what a sum of the class comes to -/
def cs (M : fm_M) (k0 a k2 : Nat) : Int := jwi (M k0 (a + 3) + M k0 a * M k2 0 + M k0 (a + 1) * M k2 1 + M k0 (a + 2) * M k2 2)
theorem x_sumAt {M : fm_M} {k0 a k2 : Nat} (t0 : k0 < nC ∧ TC k0 = .inr (0, fm_sz k0)) (ha : a + 3 < fm_sz k0) (t2 : k2 < nC ∧ TC k2 = .inr (0, fm_sz k2)) (h3 : 3 ≤ fm_sz k2) (hp : post (cs M k0 a k2) M) : wp_CG_sumAt M k0 a k2 post thr := by
  unfold wp_CG_sumAt
  rw [show ((a : Int) + 3).toNat = a + 3 by omega]
  refine ⟨t0, by omega, ⟨fun M' v3 v4 => M' = M ∧ ∃ v : Nat, v4 = v ∧ v ≤ 3 ∧ v3 = M k0 (a + 3) + sm v (fun x => M k0 (a + x) * M k2 x), fun _ _ v4 => (3 - v4).toNat, ⟨rfl, 0, rfl, by omega, by simp [sm]⟩, ?_⟩⟩
  rintro M' v3 v4 ⟨rfl, v, rfl, hv, rfl⟩
  unfold C_CG_sumAt_9
  refine ⟨rg_small (by omega), fun h => ?_, fun h => ⟨t0, by omega, t2, by omega, ⟨rfl, v + 1, by omega, by omega, ?_⟩, by dsimp only; omega⟩⟩
  · have : v = 3 := by omega
    subst this
    have e : M' k0 (a + 3) + sm 3 (fun x => M' k0 (a + x) * M' k2 x) = M' k0 (a + 3) + M' k0 a * M' k2 0 + M' k0 (a + 1) * M' k2 1 + M' k0 (a + 2) * M' k2 2 := by
      simp only [sm, Nat.add_zero]; omega
    rw [e]; exact hp
  · simp only [sm]
    rw [show ((a : Int) + (v : Int)).toNat = a + v by omega, Int.toNat_natCast]; omega
theorem x_said {M : fm_M} {s x : Int} (hs : rg s) (hx : rg x) (h0 : ¬ tcm s x 0 → post 0 M) (h1 : tcm s x 0 → post 1 M) : wp_Gu_isAsSaid M s x post thr := by
  refine ⟨hs, fun n1 => ⟨fun n2 => ⟨hx, fun n3 => ⟨hs, fun n4 => ⟨rg_small (by decide), rg_small (by decide), fun hh => absurd rfl hh, fun _ => h1 (by unfold tcm; rw [if_neg n1, if_neg n2, if_neg n4]; exact n3)⟩, fun n4 => ⟨rg_small (by decide), rg_small (by decide), fun _ => h0 (by unfold tcm; rw [if_neg n1, if_neg n2, if_pos n4]; exact n3), fun hh => absurd hh (by decide)⟩⟩, fun n3 => ⟨hs, fun n4 => ⟨rg_small (by decide), rg_small (by decide), fun _ => h0 (by unfold tcm; rw [if_neg n1, if_neg n2, if_neg n4]; omega), fun hh => absurd hh (by decide)⟩, fun n4 => ⟨rg_small (by decide), rg_small (by decide), fun hh => absurd rfl hh, fun _ => h1 (by unfold tcm; rw [if_neg n1, if_neg n2, if_pos n4]; exact n3)⟩⟩⟩, fun n2 => ⟨hx, fun n3 => h0 (by unfold tcm; rw [if_neg n1, if_pos n2]; omega), fun n3 => h1 (by unfold tcm; rw [if_neg n1, if_pos n2]; omega)⟩⟩, fun n1 => ⟨hx, fun n3 => h0 (by unfold tcm; rw [if_pos n1]; omega), fun n3 => h1 (by unfold tcm; rw [if_pos n1]; omega)⟩⟩
/-- rows of three numbers -/
def c3 (k : Nat) : Prop := (k < nC ∧ TC k = .inr (0, fm_sz k)) ∧ 3 ≤ fm_sz k
theorem x_holds {M : fm_M} (h : CG1 g M) {o k1 : Nat} (G : GuOk g o) (hs : ∀ t : Nat, t < 4 → 0 ≤ M (g + o + 2) t ∧ M (g + o + 2) t ≤ 65535) (h1 : c3 k1) (k0 : ¬ chol M (g + o) (M k1) → post 0 M) (k1' : chol M (g + o) (M k1) → post 1 M) : wp_Gu_holds M (g + o) k1 post thr := by
  have hsz : fm_sz (g + o + 1) = 16 := by unfold fm_sz; rw [G.t1.2]
  have hc := h.cb.g' G.m0 (x := 2) (by omega) (by omega)
  refine ⟨fun M' v2 => M' = M ∧ ∃ t : Nat, v2 = t ∧ t ≤ 4 ∧ ∀ t' : Nat, t' < t → tcm (M (g + o + 2) t') (csr M (g + o + 1) (4 * t') (M k1)) 0, fun _ v2 => (4 - v2).toNat, ⟨rfl, 0, rfl, by omega, fun t' ht' => by omega⟩, ?_⟩
  rintro M' v2 ⟨rfl, t, rfl, ht, hd⟩
  unfold C_Gu_holds_2
  refine ⟨G.t0, rg_small (by omega), rg_small (by omega), fun h4 => k1' (fun t' ht' => hd t' (by omega)), fun h4 => ⟨G.t2, by omega, ?_⟩⟩
  rw [show ((t : Int) * 4) = ((4 * t : Nat) : Int) by omega, Int.toNat_natCast]
  have := hs t (by omega)
  exact x_sumAt ⟨G.t1.1, by rw [hsz]; exact G.t1.2⟩ (by rw [hsz]; omega) h1.1 h1.2 (x_said (rg_small (by omega)) (jwi_rg _) (fun hn => ⟨rg_small (by decide), fun h => absurd rfl h, fun _ => k0 (fun hh => hn (hh t (by omega)))⟩) (fun hy => ⟨rg_small (by decide), fun _ => ⟨⟨rfl, t + 1, by omega, by omega, fun t' ht' => by
    by_cases e : t' = t
    · rw [e]; exact hy
    · exact hd t' (by omega)⟩, by dsimp only; omega⟩, fun h => absurd h (by decide)⟩))
theorem sgC : ∀ c : Fin 10, (10 + 13 * c.1, 0, 4, (0 : Int), (65535 : Int)) ∈ CBt := by decide
theorem x_enabledIn {M : fm_M} (h : CG1 g M) {k1 : Nat} (h1 : c3 k1) {m : Nat} (hm : M g 4 = m) (hm10 : m ≤ 10) (hp : ∀ r, bs r m → (∀ c, c < 10 → (bt r c ↔ c < m ∧ chol M (g + (8 + 13 * c)) (M k1))) → post r M) : wp_Gm_enabledIn M g k1 post thr := by
  have t := tcG h.gg
  refine ⟨fun M' v2 v3 => M' = M ∧ ∃ c : Nat, v3 = c ∧ c ≤ m ∧ bs v2 c ∧ ∀ c', c' < 10 → (bt v2 c' ↔ c' < c ∧ chol M (g + (8 + 13 * c')) (M k1)), fun _ _ v3 => (10 - v3).toNat, ⟨rfl, 0, rfl, by omega, by unfold bs; decide, fun c' hc' => ⟨fun hh => absurd hh (bt_0 ⟨c', hc'⟩), fun hh => by omega⟩⟩, ?_⟩
  rintro M' v2 v3 ⟨rfl, c, rfl, hc, hb, hbt⟩
  unfold C_Gm_enabledIn_4
  rw [hm, Int.toNat_natCast]
  refine ⟨t.1, rg_small (by omega), rg_small (by omega), fun h4 => hp v2 (bs_mono hb (by omega)) (by rw [show m = c by omega]; exact hbt), fun h4 => ⟨t.2.2.2, by omega, ?_⟩⟩
  have C := cmOk h.gg (c := c) (by omega)
  have G := guC h.gg (c := c) (by omega)
  rw [show g + 3 + 4 + 13 * c = g + (7 + 13 * c) by omega, show g + (7 + 13 * c) + 1 = g + (8 + 13 * c) by omega]
  refine ⟨C.t0, G.t0, x_holds h G (fun t ht => ?_) h1 (fun hn => ⟨rg_small (by decide), fun _ => ⟨⟨rfl, c + 1, by omega, by omega, bs_mono hb (by omega), fun c' hc' => (hbt c' hc').trans ⟨fun hh => ⟨by omega, hh.2⟩, fun hh => ⟨?_, hh.2⟩⟩⟩, by dsimp only; omega⟩, fun h => absurd rfl h⟩) (fun hy => ⟨rg_small (by decide), fun h => absurd h (by decide), fun _ => ⟨⟨rfl, c + 1, by omega, by omega, bs_or hb (by omega), fun c' hc' => (bt_add' (by omega) hc').trans ⟨fun hh => ?_, fun hh => ?_⟩⟩, by dsimp only; omega⟩⟩)⟩
  rotate_left
  · by_cases e : c' = c
    · rw [e] at hh; exact absurd hh.2 hn
    · omega
  · rcases hh with hh | hh
    · have := (hbt c' hc').mp hh; exact ⟨by omega, this.2⟩
    · rw [hh]; exact ⟨by omega, hy⟩
  · by_cases e : c' = c
    · exact Or.inr e
    · exact Or.inl ((hbt c' hc').mpr ⟨by omega, hh.2⟩)
  have := h.cb.g' (sgC ⟨c, by omega⟩) (x := t) (by omega) ht
  rw [show g + (8 + 13 * c) + 2 = g + (10 + 13 * c) by omega]; exact this
theorem x_commandsOfMax {M : fm_M} (h : CG1 g M) {m : Nat} (hm : M g 4 = m) (hm10 : m ≤ 10) (hp : ∀ r, (∀ c, c < 10 → (bt r c ↔ c < m ∧ M (g + (7 + 13 * c)) 2 ≠ 0)) → post r M) : wp_Gm_commandsOfMax M g post thr := by
  have t := tcG h.gg
  refine ⟨fun M' v1 v2 => M' = M ∧ ∃ c : Nat, v2 = c ∧ c ≤ m ∧ ∀ c', c' < 10 → (bt v1 c' ↔ c' < c ∧ M (g + (7 + 13 * c')) 2 ≠ 0), fun _ _ v2 => (10 - v2).toNat, ⟨rfl, 0, rfl, by omega, fun c' hc' => ⟨fun hh => absurd hh (bt_0 ⟨c', hc'⟩), fun hh => by omega⟩⟩, ?_⟩
  rintro M' v1 v2 ⟨rfl, c, rfl, hc, hbt⟩
  unfold C_Gm_commandsOfMax_4
  rw [hm, Int.toNat_natCast]
  refine ⟨t.1, rg_small (by omega), rg_small (by omega), fun h4 => hp v1 (by rw [show m = c by omega]; exact hbt), fun h4 => ⟨t.2.2.2, by omega, ?_⟩⟩
  have C := cmOk h.gg (c := c) (by omega)
  rw [show g + 3 + 4 + 13 * c = g + (7 + 13 * c) by omega]
  have hb : (7 + 13 * c, 2, 3, (0 : Int), (1 : Int)) ∈ CBt := (show ∀ c : Fin 10, (7 + 13 * c.1, 2, 3, (0 : Int), (1 : Int)) ∈ CBt by decide) ⟨c, by omega⟩
  have := h.cb.g' hb (x := 2) (by omega) (by omega)
  refine ⟨C.t0, rg_small (by omega), fun hn => ⟨⟨rfl, c + 1, by omega, by omega, fun c' hc' => (hbt c' hc').trans ⟨fun hh => ⟨by omega, hh.2⟩, fun hh => ⟨?_, hh.2⟩⟩⟩, by dsimp only; omega⟩, fun hy => ⟨⟨rfl, c + 1, by omega, by omega, fun c' hc' => (bt_add' (by omega) hc').trans ⟨fun hh => ?_, fun hh => ?_⟩⟩, by dsimp only; omega⟩⟩
  · by_cases e : c' = c
    · rw [e] at hh; exact absurd hn hh.2
    · omega
  · rcases hh with hh | hh
    · have := (hbt c' hc').mp hh; exact ⟨by omega, this.2⟩
    · rw [hh]; exact ⟨by omega, hy⟩
  · by_cases e : c' = c
    · exact Or.inr e
    · exact Or.inl ((hbt c' hc').mpr ⟨by omega, hh.2⟩)
/-- what the search keeps to -/
def FB (m : Nat) (M : fm_M) : Prop :=
  (0 ≤ M 142 1 ∧ M 142 1 ≤ 8) ∧
  (0 ≤ M 142 4 ∧ M 142 4 ≤ 8) ∧
  (∀ i v, i < 8 → v < 3 → 0 ≤ M (281 + i) v ∧ M (281 + i) v ≤ 9) ∧
  (∀ v, v < 3 → 0 ≤ M 308 v ∧ M 308 v ≤ 9) ∧
  (∀ i : Nat, (i : Int) < M 142 1 → bs (M 289 i) m) ∧
  (rg (M 142 3))
theorem FB.cnt {m : Nat} {M : fm_M} (h_ : FB m M) : 0 ≤ M 142 1 ∧ M 142 1 ≤ 8 := h_.1
theorem FB.lk {m : Nat} {M : fm_M} (h_ : FB m M) : 0 ≤ M 142 4 ∧ M 142 4 ≤ 8 := h_.2.1
theorem FB.val {m : Nat} {M : fm_M} (h_ : FB m M) : ∀ i v, i < 8 → v < 3 → 0 ≤ M (281 + i) v ∧ M (281 + i) v ≤ 9 := h_.2.2.1
theorem FB.com {m : Nat} {M : fm_M} (h_ : FB m M) : ∀ v, v < 3 → 0 ≤ M 308 v ∧ M 308 v ≤ 9 := h_.2.2.2.1
theorem FB.en {m : Nat} {M : fm_M} (h_ : FB m M) : ∀ i : Nat, (i : Int) < M 142 1 → bs (M 289 i) m := h_.2.2.2.2.1
theorem FB.tg {m : Nat} {M : fm_M} (h_ : FB m M) : rg (M 142 3) := h_.2.2.2.2.2
/-- what the search may change -/
def ef (M M' : fm_M) : Prop :=
  (∀ a, a ≠ 142 → a ≠ 289 → a ≠ 308 → ¬ (281 ≤ a ∧ a < 289) → M' a = M a) ∧
  (M' 142 0 = M 142 0) ∧
  (M 142 1 ≤ M' 142 1) ∧
  (∀ i : Nat, (i : Int) < M 142 1 → M' (281 + i) = M (281 + i) ∧ M' 289 i = M 289 i) ∧
  (M' 142 4 = M 142 4) ∧
  (M' 142 2 = M 142 2 ∧ M' 142 5 = M 142 5)
theorem ef.cell {M M' : fm_M} (h_ : ef M M') : ∀ a, a ≠ 142 → a ≠ 289 → a ≠ 308 → ¬ (281 ≤ a ∧ a < 289) → M' a = M a := h_.1
theorem ef.gm {M M' : fm_M} (h_ : ef M M') : M' 142 0 = M 142 0 := h_.2.1
theorem ef.mo {M M' : fm_M} (h_ : ef M M') : M 142 1 ≤ M' 142 1 := h_.2.2.1
theorem ef.val {M M' : fm_M} (h_ : ef M M') : ∀ i : Nat, (i : Int) < M 142 1 → M' (281 + i) = M (281 + i) ∧ M' 289 i = M 289 i := h_.2.2.2.1
theorem ef.lk {M M' : fm_M} (h_ : ef M M') : M' 142 4 = M 142 4 := h_.2.2.2.2.1
theorem ef.o25 {M M' : fm_M} (h_ : ef M M') : M' 142 2 = M 142 2 ∧ M' 142 5 = M 142 5 := h_.2.2.2.2.2
theorem ef.refl {M : fm_M} : ef M M := ⟨fun _ _ _ _ _ => rfl, rfl, Int.le_refl _, fun _ _ => ⟨rfl, rfl⟩, rfl, rfl, rfl⟩
theorem ef.tr {M M1 M2 : fm_M} (h : ef M M1) (h2 : ef M1 M2) : ef M M2 := ⟨fun a b c d e => by rw [h2.cell a b c d e, h.cell a b c d e], by rw [h2.gm, h.gm], Int.le_trans h.mo h2.mo, fun i hi => by
  have := h.mo
  exact ⟨by rw [(h2.val i (by omega)).1, (h.val i hi).1], by rw [(h2.val i (by omega)).2, (h.val i hi).2]⟩, by rw [h2.lk, h.lk], by rw [h2.o25.1, h.o25.1], by rw [h2.o25.2, h.o25.2]⟩
theorem CG1.ef {M M' : fm_M} (h : CG1 g M) (f : ef M M') : CG1 g M' := ⟨h.gg, by rw [f.gm]; exact h.gm, fun e he x h1 h2 => by
  have := CBt_lt e he
  have hg := h.gg
  rw [f.cell (g + e.1) (by omega) (by omega) (by omega) (by omega)]; exact h.cb e he x h1 h2⟩
theorem ef.gcnt {M M' : fm_M} (f : ef M M') (hg : g = 4 ∨ g = 143) : M' g 4 = M g 4 := by rw [f.cell g (by omega) (by omega) (by omega) (by omega)]
theorem c3_val : ∀ i : Fin 8, (281 + i.1 < nC ∧ TC (281 + i.1) = .inr (0, 3)) := by decide
theorem c3_of {k : Nat} (h : k < nC ∧ TC k = .inr (0, 3)) : c3 k := by
  have : fm_sz k = 3 := by unfold fm_sz; rw [h.2]
  exact ⟨⟨h.1, by rw [this]; exact h.2⟩, by omega⟩
theorem c3_308 : c3 308 := c3_of (by decide)
theorem x_add {M : fm_M} (h : CG1 g M) {m : Nat} (hm : M g 4 = m) (hm10 : m ≤ 10) (F : FB m M) (hlt : M 142 1 < 8) {k1 : Nat} (hk : c3 k1) (hk9 : ∀ v, v < 3 → 0 ≤ M k1 v ∧ M k1 v ≤ 9) (hk0 : k1 ≠ 142 ∧ k1 ≠ 289 ∧ ¬ (281 ≤ k1 ∧ k1 < 289))
    (hp : ∀ M', ef M M' → FB m M' → M' 142 1 = M 142 1 + 1 → (∀ v, v < 3 → M' (281 + (M 142 1).toNat) v = M k1 v) → ((chol M (g + 4) (M k1) ∧ M' 142 3 = jor (M 142 3) (jshl 1 (M 142 1)) ∧ M' 289 (M 142 1).toNat = 0) ∨ (¬ chol M (g + 4) (M k1) ∧ M' 142 3 = M 142 3 ∧ ∀ c, c < 10 → (bt (M' 289 (M 142 1).toNat) c ↔ c < m ∧ chol M (g + (8 + 13 * c)) (M k1)))) → post 0 M') : wp_Fo_add M k1 post thr := by
  have hc := F.cnt
  obtain ⟨n, hn⟩ : ∃ n : Nat, M 142 1 = n := ⟨(M 142 1).toNat, by omega⟩
  have hg := h.gg
  intro M1 e1
  rw [hn, Int.toNat_natCast, show 280 + 1 + n = 281 + n by omega]
  have T := c3_val ⟨n, by omega⟩
  refine ⟨by omega, hk.1, T, hk.2, fun M2 e2 => ?_⟩
  have a1 : ∀ a, a ≠ 142 → M1 a = M a := fun a ha => by rw [e1]; exact fu_off _ _ _ ha
  have a2 : ∀ a, a ≠ 281 + n → M2 a = M1 a := fun a ha => by
    rw [e2]; funext b; unfold fm_cp; rw [if_neg (fun hh => ha hh.1)]
  have v2 : ∀ v, v < 3 → M2 (281 + n) v = M k1 v := fun v hv => by
    rw [e2]; unfold fm_cp; rw [if_pos ⟨rfl, hv⟩, a1 k1 hk0.1]
  have a2k : M2 k1 = M1 k1 := a2 k1 (by omega)
  have s2 : ∀ b, b ≠ 1 → M2 142 b = M 142 b := fun b hb => by rw [a2 142 (by omega), e1, fu_at, if_neg hb]
  have n2 : M2 142 1 = (n : Int) + 1 := by rw [a2 142 (by omega), e1, fu_at, if_pos rfl, hn]
  have cb2 : CB g M2 := fun e he x h1 h2 => by
    have := CBt_lt e he
    rw [a2 _ (by omega), a1 _ (by omega)]; exact h.cb e he x h1 h2
  have g2 : CG1 g M2 := ⟨hg, by rw [s2 0 (by decide)]; exact h.gm, cb2⟩
  have m2 : M2 g 4 = m := by rw [a2 g (by omega), a1 g (by omega)]; exact hm
  rw [g2.gm]
  -- the end
  have ch2 : ∀ k, g ≤ k → k + 2 < g + 137 → (chol M2 k (M2 k1) ↔ chol M k (M k1)) := fun k h1 h2 => by
    rw [a2k, a1 k1 hk0.1]
    exact chol_same (fun a h3 h4 => by rw [a2 a (by omega), a1 a (by omega)]) _
  have fin : ∀ (M3 : fm_M) (z : Int), (∀ a, a ≠ 142 → M3 a = M2 a) → (∀ b, b ≠ 3 → M3 142 b = M2 142 b) → rg (M3 142 3) → bs z m → ((chol M (g + 4) (M k1) ∧ M3 142 3 = jor (M 142 3) (jshl 1 (n : Int)) ∧ z = 0) ∨ (¬ chol M (g + 4) (M k1) ∧ M3 142 3 = M 142 3 ∧ ∀ c, c < 10 → (bt z c ↔ c < m ∧ chol M (g + (8 + 13 * c)) (M k1)))) → ∀ M4, M4 = fm_u M3 289 n z → post 0 M4 := by
    intro M3 z a3 b3 r3 hz hor M4 e4
    have a4 : ∀ a, a ≠ 289 → M4 a = M3 a := fun a ha => by rw [e4]; exact fu_off _ _ _ ha
    have n4 : M4 142 1 = (n : Int) + 1 := by rw [a4 142 (by decide), b3 1 (by decide), n2]
    have v4 : ∀ i, i < 8 → M4 (281 + i) = M2 (281 + i) := fun i hi => by rw [a4 _ (by omega), a3 _ (by omega)]
    refine hp M4 ⟨fun a h1 h2 h3 h4 => ?_, ?_, by omega, fun i hi => ⟨?_, ?_⟩, ?_, by rw [a4 142 (by decide), b3 2 (by decide), s2 2 (by decide)], by rw [a4 142 (by decide), b3 5 (by decide), s2 5 (by decide)]⟩ ⟨by omega, ?_, fun i v hi hv => ?_, fun v hv => ?_, fun i hi => ?_, by rw [a4 142 (by decide)]; exact r3⟩ (by omega) (fun v hv => ?_) (by rw [hn, Int.toNat_natCast, a4 142 (by decide), e4, fu_at, if_pos rfl]; exact hor)
    · rw [a4 a h2, a3 a h1, a2 a (by omega), a1 a h1]
    · rw [a4 142 (by decide), b3 0 (by decide), s2 0 (by decide)]
    · rw [v4 i (by omega), a2 _ (by omega), a1 _ (by omega)]
    · rw [e4, fu_at, if_neg (by omega), a3 289 (by decide), a2 289 (by omega), a1 289 (by decide)]
    · rw [a4 142 (by decide), b3 4 (by decide), s2 4 (by decide)]
    · rw [a4 142 (by decide), b3 4 (by decide), s2 4 (by decide)]; exact F.lk
    · rw [v4 i hi]
      by_cases e : i = n
      · rw [e, v2 v hv]; exact hk9 v hv
      · rw [a2 _ (by omega), a1 _ (by omega)]; exact F.val i v hi hv
    · rw [a4 308 (by decide), a3 308 (by decide), a2 308 (by omega), a1 308 (by decide)]; exact F.com v hv
    · rw [e4, fu_at]
      by_cases e : i = n
      · rw [if_pos e]; exact hz
      · rw [if_neg e, a3 289 (by decide), a2 289 (by omega), a1 289 (by decide)]; exact F.en i (by omega)
    · rw [hn, Int.toNat_natCast, v4 n (by omega)]; exact v2 v hv
  have G := guT hg
  refine ⟨(tcG hg).1, G.t0, x_holds g2 G (fun t ht => ?_) hk (fun hno => ⟨rg_small (by decide), fun _ => ?_, fun h => absurd rfl h⟩) (fun hyes => ⟨rg_small (by decide), fun h => absurd h (by decide), fun _ M3 e3 M4 e4 => ?_⟩)⟩
  · have := g2.cb.g' (o := 6) (s := 0) (t := 4) (a := 0) (b := 65535) (by decide) (x := t) (by omega) ht
    rw [show g + 4 + 2 = g + 6 by omega]; exact this
  · rw [g2.gm]
    exact ⟨(tcG hg).1, x_enabledIn g2 hk m2 hm10 (fun r hr hrb M4 e4 => fin M2 r (fun _ _ => rfl) (fun _ _ => rfl) (by rw [s2 3 (by decide)]; exact F.tg) hr (Or.inr ⟨fun hh => hno ((ch2 _ (by omega) (by omega)).mpr hh), s2 3 (by decide), fun c hc => (hrb c hc).trans ⟨fun hh => ⟨hh.1, (ch2 _ (by omega) (by omega)).mp hh.2⟩, fun hh => ⟨hh.1, (ch2 _ (by omega) (by omega)).mpr hh.2⟩⟩⟩) M4 e4)⟩
  · exact fin M3 0 (fun a ha => by rw [e3]; exact fu_off _ _ _ ha) (fun b hb => by rw [e3, fu_at, if_neg hb]) (by rw [e3, fu_at, if_pos rfl]; exact rg_jor _ _) (by
      have : 0 < (2 : Nat) ^ m := Nat.pow_pos (by decide)
      unfold bs; omega) (Or.inl ⟨(ch2 _ (by omega) (by omega)).mp hyes, by rw [e3, fu_at, if_pos rfl, s2 3 (by decide)], rfl⟩) M4 e4
/-- where a branch leads -/
def fol (M : fm_M) (g k1 k2 v : Nat) : Int := jmax 0 (jmin (M (g + 1) v) (cs M (k2 + 1) (4 * v) k1))
theorem x_follow {M : fm_M} (h : CG1 g M) {k1 o : Nat} (hk : c3 k1) (hk1 : k1 ≠ 308) (B : BrOk g o) (hp : ∀ M', ex1 308 M M' → (∀ v, v < 3 → M' 308 v = fol M g k1 (g + o) v) → post 0 M') : wp_Gm_follow M g k1 (g + o) 308 post thr := by
  have hg := h.gg
  have t := tcG hg
  have hlo := B.lo
  have hsz : fm_sz (g + o + 1) = 12 := by unfold fm_sz; rw [B.t1.2]
  refine ⟨fun M' v4 => ∃ v : Nat, v4 = v ∧ v ≤ 3 ∧ ex1 308 M M' ∧ ∀ x, x < v → M' 308 x = fol M g k1 (g + o) x, fun _ v4 => (3 - v4).toNat, ⟨0, rfl, by omega, ex1.rfl, fun x hx => by omega⟩, ?_⟩
  rintro M1 v4 ⟨v, rfl, hv, hx, hf⟩
  unfold C_Gm_follow_3
  refine ⟨rg_small (by omega), fun h4 => hp M1 hx (fun x hx' => hf x (by omega)), fun h4 => ⟨B.t0, ?_⟩⟩
  rw [show ((v : Int) * 4) = ((4 * v : Nat) : Int) by omega]
  have ecs : cs M1 (g + o + 1) (4 * v) k1 = cs M (g + o + 1) (4 * v) k1 := by unfold cs; rw [hx (g + o + 1) (by omega), hx k1 hk1]
  refine x_sumAt ⟨B.t1.1, by rw [hsz]; exact B.t1.2⟩ (by rw [hsz]; omega) hk.1 hk.2 ?_
  rw [hx (g + 1) (by omega), ecs, Int.toNat_natCast]
  have hmo := h.cb.g' (o := 1) (s := 0) (t := 3) (a := 0) (b := 9) (by decide) (x := v) (by omega) (by omega)
  have hr : rg (cs M (g + o + 1) (4 * v) k1) := jwi_rg _
  refine ⟨t.1, t.2.1, by omega, rg_small (by omega), hr, ?_, c3_308.1, by have := c3_308.2; omega, fun M2 e2 => ⟨⟨v + 1, by omega, by omega, by rw [e2]; exact hx.u, fun x hx' => ?_⟩, by dsimp only; omega⟩⟩
  · unfold jmin; split
    · exact hr
    · exact rg_small (by omega)
  · rw [e2, fu_at]
    by_cases e : x = v
    · rw [if_pos e, e]; rfl
    · rw [if_neg e]; exact hf x (by omega)
theorem fol_rg {M : fm_M} (h : CG1 g M) (k1 k2 : Nat) {v : Nat} (hv : v < 3) : 0 ≤ fol M g k1 k2 v ∧ fol M g k1 k2 v ≤ 9 := by
  have hmo := h.cb.g' (o := 1) (s := 0) (t := 3) (a := 0) (b := 9) (by decide) (x := v) (by omega) hv
  unfold fol jmax jmin
  split <;> split <;> omega
theorem x_numberOf {M : fm_M} {m : Nat} (F : FB m M) (h0 : (∀ i : Nat, (i : Int) < M 142 1 → ∃ v, v < 3 ∧ M (281 + i) v ≠ M 308 v) → post (-1) M) (h1 : ∀ i : Nat, (i : Int) < M 142 1 → (∀ v, v < 3 → M (281 + i) v = M 308 v) → post i M) : wp_Fo_numberOf M 308 post thr := by
  have hc := F.cnt
  refine ⟨fun M' v2 => M' = M ∧ ∃ i : Nat, v2 = i ∧ (i : Int) ≤ M 142 1 ∧ ∀ j, j < i → ∃ v, v < 3 ∧ M (281 + j) v ≠ M 308 v, fun _ v2 => (M 142 1 - v2).toNat, ⟨rfl, 0, rfl, by omega, fun j hj => by omega⟩, ?_⟩
  rintro M' v2 ⟨rfl, i, rfl, hi, hd⟩
  unfold C_Fo_numberOf_2
  refine ⟨rg_small (by omega), rg_small (by omega), fun h4 => h0 (fun j hj => hd j (by omega)), fun h4 => ?_⟩
  refine ⟨fun M2 v2 v3 v4 => M2 = M' ∧ v2 = i ∧ ∃ v : Nat, v4 = v ∧ v ≤ 3 ∧ ((v3 = 1 ∧ ∀ x, x < v → M' (281 + i) x = M' 308 x) ∨ (v3 = 0 ∧ ∃ x, x < 3 ∧ M' (281 + i) x ≠ M' 308 x)), fun _ _ _ v4 => (3 - v4).toNat, ⟨rfl, rfl, 0, rfl, by omega, Or.inl ⟨rfl, fun x hx => by omega⟩⟩, ?_⟩
  rintro M2 v2 v3 v4 ⟨rfl, rfl, v, rfl, hv, hI⟩
  have hv3 : v3 = 0 ∨ v3 = 1 := by
    rcases hI with ⟨a, _⟩ | ⟨a, _⟩
    · exact Or.inr a
    · exact Or.inl a
  have rv : rg v3 := rg_small (by rcases hv3 with e | e <;> rw [e] <;> decide)
  unfold C_Fo_numberOf_15
  rw [Int.toNat_natCast, Int.toNat_natCast, show 280 + 1 + i = 281 + i by omega]
  refine ⟨rg_small (by omega), fun h5 => ⟨rv, fun hz => ⟨⟨rfl, i + 1, by omega, by omega, fun j hj => ?_⟩, by dsimp only; omega⟩, fun hz => ?_⟩, fun h5 => ⟨rv, fun hz => ⟨⟨rfl, rfl, v + 1, by omega, by omega, Or.inr ⟨rfl, ?_⟩⟩, by dsimp only; omega⟩, fun hz => ⟨by omega, c3_val ⟨i, by omega⟩, by omega, c3_308.1, by have := c3_308.2; omega, ?_⟩⟩⟩
  · by_cases e : j = i
    · subst e
      rcases hI with ⟨a, _⟩ | ⟨_, a⟩
      · rw [a] at hz; exact absurd hz (by decide)
      · exact a
    · exact hd j (by omega)
  · rcases hI with ⟨_, a⟩ | ⟨a, _⟩
    · exact h1 i (by omega) (fun x hx => a x (by omega))
    · exact absurd a hz
  · rcases hI with ⟨a, _⟩ | ⟨_, a⟩
    · rw [a] at hz; exact absurd hz (by decide)
    · exact a
  · have hall : ∀ x, x < v → M2 (281 + i) x = M2 308 x := by
      rcases hI with ⟨_, a⟩ | ⟨a, _⟩
      · exact a
      · exact absurd a hz
    have b1 := F.val i v (by omega) (by omega)
    have b2 := F.com v (by omega)
    refine ⟨rg_small (by omega), rg_small (by omega), fun hne => ⟨⟨rfl, rfl, v + 1, by omega, by omega, Or.inr ⟨rfl, v, by omega, hne⟩⟩, by dsimp only; omega⟩, fun heq => ⟨⟨rfl, rfl, v + 1, by omega, by omega, Or.inl ⟨rfl, fun x hx => ?_⟩⟩, by dsimp only; omega⟩⟩
    by_cases e : x = v
    · rw [e]; exact heq
    · exact hall x (by omega)
end Ex
end Pu_ca
section Pu_cb
section Ex2
variable {g : Nat} {post : Int → fm_M → Prop} {thr : String → fm_M → Prop}
/-- what comes of a branch has been found -/
def kwn (M : fm_M) (g i c b : Nat) : Prop := ∃ j : Nat, (j : Int) < M 142 1 ∧ ∀ v, v < 3 → M (281 + j) v = fol M g (281 + i) (g + (12 + 13 * c + 2 * b)) v
/-- all that comes of state i, up to command c and branch b -/
def kup (M : fm_M) (g i c b : Nat) : Prop := ∀ c' b', (c' < c ∨ (c' = c ∧ b' < b)) → (c' : Int) < M g 4 → bt (M 289 i) c' → (b' : Int) < M (g + (7 + 13 * c')) 3 → kwn M g i c' b'
theorem fol_ef {M M' : fm_M} (hg : g = 4 ∨ g = 143) (f : ef M M') {i : Nat} (hi : (i : Int) < M 142 1) {k2 : Nat} (hk : g ≤ k2 ∧ k2 + 1 < g + 137) (v : Nat) : fol M' g (281 + i) k2 v = fol M g (281 + i) k2 v := by
  unfold fol cs
  rw [f.cell (g + 1) (by omega) (by omega) (by omega) (by omega), f.cell (k2 + 1) (by omega) (by omega) (by omega) (by omega), (f.val i hi).1]
theorem kwn_ef {M M' : fm_M} (hg : g = 4 ∨ g = 143) (f : ef M M') (hc : 0 ≤ M 142 1 ∧ M 142 1 ≤ 8) {i c b : Nat} (hi : (i : Int) < M 142 1) (h9 : c < 10) (h3 : b < 4) (h : kwn M g i c b) : kwn M' g i c b := by
  obtain ⟨j, hj, hv⟩ := h
  have := f.mo
  refine ⟨j, by omega, fun v hv3 => ?_⟩
  rw [(f.val j hj).1, fol_ef hg f hi (by omega)]; exact hv v hv3
theorem kup_ef {M M' : fm_M} (h : CG1 g M) (f : ef M M') (hc : 0 ≤ M 142 1 ∧ M 142 1 ≤ 8) {i c b : Nat} (hi : (i : Int) < M 142 1) (hk : kup M g i c b) : kup M' g i c b := fun c' b' h1 h2 h3 h4 => by
  have hg := h.gg
  obtain ⟨m, hm, hm10⟩ := h.cnt
  rw [f.gcnt hg] at h2
  rw [(f.val i hi).2] at h3
  rw [f.cell _ (by omega) (by omega) (by omega) (by omega)] at h4
  have hb : (7 + 13 * c', 3, 4, (0 : Int), (4 : Int)) ∈ CBt := (show ∀ c : Fin 10, (7 + 13 * c.1, 3, 4, (0 : Int), (4 : Int)) ∈ CBt by decide) ⟨c', by omega⟩
  have := h.cb.g' hb (x := 3) (by omega) (by omega)
  exact kwn_ef hg f hc hi (by omega) (by omega) (hk c' b' h1 h2 h3 h4)
theorem ef_308 {M M' : fm_M} (h : ex1 308 M M') (hc : M 142 1 ≤ 8) : ef M M' := ⟨fun a _ _ h3 _ => h a h3, by rw [h 142 (by decide)], by rw [h 142 (by decide)]; exact Int.le_refl _, fun i hi => ⟨by rw [h _ (by omega)], by rw [h 289 (by decide)]⟩, by rw [h 142 (by decide)], by rw [h 142 (by decide)], by rw [h 142 (by decide)]⟩
theorem FB.com' {M M' : fm_M} {m : Nat} (F : FB m M) (hc : 0 ≤ M 142 1 ∧ M 142 1 ≤ 8) (h : ex1 308 M M') (hv : ∀ v, v < 3 → 0 ≤ M' 308 v ∧ M' 308 v ≤ 9) : FB m M' := ⟨by rw [h 142 (by decide)]; exact F.cnt, by rw [h 142 (by decide)]; exact F.lk, fun i v hi hv => by rw [h _ (by omega)]; exact F.val i v hi hv, hv, fun i hi => by
  rw [h 142 (by decide)] at hi
  rw [h 289 (by decide)]; exact F.en i hi, by rw [h 142 (by decide)]; exact F.tg⟩
theorem brC : ∀ c : Fin 10, (7 + 13 * c.1, 3, 4, (0 : Int), (4 : Int)) ∈ CBt := by decide
theorem f_add {M : fm_M} (h : CG1 g M) {m : Nat} (hm : M g 4 = m) (hm10 : m ≤ 10) (F : FB m M) {Y : Ga} {X : Xs} (hy : CY Y g M) (C : CFd Y X M) (hlt : X.1 < 8) {k1 : Nat} (hk : c3 k1) (hk0 : k1 ≠ 142 ∧ k1 ≠ 289 ∧ ¬ (281 ≤ k1 ∧ k1 < 289)) {s : Nat → Int} (hs : ∀ v, v < 3 → M k1 v = s v) (hok : okr Y s)
    (hp : ∀ M', ef M M' → FB m M' → M' 142 1 = M 142 1 + 1 → (∀ v, v < 3 → M' (281 + (M 142 1).toNat) v = M k1 v) → CFd Y (Xad X s) M' → post 0 M') : wp_Fo_add M k1 post thr := by
  have hn := C.n
  have hmC : m = Y.C := by have := hy.c; omega
  have hnt : (M 142 1).toNat = X.1 := by omega
  refine x_add h hm hm10 F (by omega) hk (fun v hv => by rw [hs v hv]; have := hok v hv; have := hy.w.mo9 v hv; omega) hk0 (fun M' f F' n' v' hor => hp M' f F' n' v' ?_)
  rw [hnt] at v' hor
  have hX : ∀ j, j < X.1 → (Xad X s).2 j = X.2 j := fun j hj => by show (if j = X.1 then s else X.2 j) = _; rw [if_neg (by omega)]
  have hXn : (Xad X s).2 X.1 = s := by show (if X.1 = X.1 then s else X.2 X.1) = _; rw [if_pos rfl]
  have hX1 : (Xad X s).1 = X.1 + 1 := rfl
  have ht : chol M (g + 4) (M k1) ↔ Y.tg s = true := (chol_c hs).trans (hy.tg s hok)
  have he : ∀ c, c < Y.C → (chol M (g + (8 + 13 * c)) (M k1) ↔ Y.en c s = true) := fun c hc => (chol_c hs).trans (hy.en c hc s hok)
  refine ⟨by rw [n', hn, hX1]; omega, by rw [hX1]; omega, fun j hj => ?_, fun j v hj hv => ?_, fun j hj c hc => ?_, fun j hj => ?_⟩
  · by_cases e : j = X.1
    · rw [e, hXn]; exact hok
    · rw [hX j (by omega)]; exact C.ok j (by omega)
  · by_cases e : j = X.1
    · rw [e, hXn, v' v hv]; exact hs v hv
    · rw [hX j (by omega), (f.val j (by omega)).1]; exact C.st j v (by omega) hv
  · by_cases e : j = X.1
    · rw [e, hXn]
      rcases hor with ⟨a, _, b⟩ | ⟨a, _, b⟩
      · rw [b]
        refine ⟨fun hh => absurd hh (bt_0 ⟨c, hc⟩), fun hh => ?_⟩
        have h2 := hh.2
        unfold ene at h2
        rw [ht.mp a] at h2
        exact absurd h2 (by simp)
      · rw [b c hc, hmC]
        have htn : Y.tg s = false := by
          cases hh : Y.tg s with
          | false => rfl
          | true => exact absurd (ht.mpr hh) a
        unfold ene
        rw [htn]
        exact ⟨fun hh => ⟨hh.1, by rw [(he c hh.1).mp hh.2]; rfl⟩, fun hh => ⟨hh.1, (he c hh.1).mpr (by have := hh.2; simpa using this)⟩⟩
    · rw [hX j (by omega), (f.val j (by omega)).2]; exact C.en j (by omega) c hc
  · rcases hor with ⟨a, b, _⟩ | ⟨a, b, _⟩
    · rw [b, hn, bt_add' (by omega) (by omega), C.tg j hj]
      refine ⟨fun hh => ?_, fun hh => ?_⟩
      · rcases hh with hh | hh
        · rw [hX j hh.1]; exact ⟨by omega, hh.2⟩
        · rw [hh, hXn]; exact ⟨by omega, ht.mp a⟩
      · by_cases e : j = X.1
        · exact Or.inr e
        · have hj' : j < X.1 := by omega
          rw [hX j hj'] at hh; exact Or.inl ⟨hj', hh.2⟩
    · rw [b, C.tg j hj]
      refine ⟨fun hh => by rw [hX j hh.1]; exact ⟨by omega, hh.2⟩, fun hh => ?_⟩
      by_cases e : j = X.1
      · rw [e, hXn] at hh; exact absurd (ht.mpr hh.2) a
      · have hj' : j < X.1 := by omega
        rw [hX j hj'] at hh; exact ⟨hj', hh.2⟩
theorem x_findFrom {M : fm_M} {Y : Ga} {X : Xs} (hy : CY Y g M) (C0 : CFd Y X M) (h : CG1 g M) {m : Nat} (hm : M g 4 = m) (hm10 : m ≤ 10) (F : FB m M) {i : Nat} (hi : (i : Int) < M 142 1)
    (h1 : ∀ M', ef M M' → FB m M' → (∀ c b : Nat, (c : Int) < M' g 4 → bt (M' 289 i) c → (b : Int) < M' (g + (7 + 13 * c)) 3 → kwn M' g i c b) → (goC Y (X.2 i) Y.C 0 X).2 = true → CFd Y (goC Y (X.2 i) Y.C 0 X).1 M' → post 1 M') (h0 : ∀ M', ef M M' → FB m M' → ¬ (goC Y (X.2 i) Y.C 0 X).2 = true → CFd Y (goC Y (X.2 i) Y.C 0 X).1 M' → post 0 M') : wp_Fo_findFrom M i post thr := by
  have hg := h.gg
  have t := tcG hg
  have hc := F.cnt
  have hmC : m = Y.C := by have := hy.c; omega
  have hnX := C0.n
  have hiX : i < X.1 := by omega
  have hokr := C0.ok i hiX
  generalize hr : X.2 i = r at h1 h0 hokr
  generalize hR : goC Y r Y.C 0 X = R at h1 h0
  refine ⟨fun M' v2 => ∃ c : Nat, v2 = c ∧ c ≤ m ∧ ef M M' ∧ FB m M' ∧ kup M' g i c 0 ∧ ∃ X' : Xs, goC Y r (Y.C - c) c X' = R ∧ CFd Y X' M' ∧ i < X'.1 ∧ X'.2 i = r, fun _ v2 => (10 - v2).toNat, ⟨0, rfl, by omega, ef.refl, F, fun c' b' hh => by omega, X, hR, C0, hiX, hr⟩, ?_⟩
  rintro M1 v2 ⟨c, rfl, hcm, f1, F1, K1, X1, hgo, C1, hiX1, hrX1⟩
  have g1 := h.ef f1
  have m1 : M1 g 4 = m := by rw [f1.gcnt hg]; exact hm
  have mo1 := f1.mo
  have hc1 := F1.cnt
  unfold C_Fo_findFrom_2
  rw [g1.gm, m1, Int.toNat_natCast]
  refine ⟨t.1, rg_small (by omega), rg_small (by omega), fun h4 => h1 M1 f1 F1 (fun c' b' a1 a2 a3 => K1 c' b' (Or.inl (by omega)) a1 a2 a3) (by rw [← hgo, show Y.C - c = 0 by omega, goC]) (by rw [← hgo, show Y.C - c = 0 by omega, goC]; exact C1), fun h4 => ⟨by omega, x_hasBit (fun hb => ⟨rg_small (by decide), fun _ => ⟨⟨c + 1, by omega, by omega, f1, F1, fun c' b' hh a1 a2 a3 => ?_, X1, by rw [← hgo, show Y.C - c = (Y.C - (c + 1)) + 1 by omega, goC, if_neg (fun he => hb ((C1.en i hiX1 c (by omega)).mpr ⟨by omega, by rw [hrX1]; exact he⟩))], C1, hiX1, hrX1⟩, by dsimp only; omega⟩, fun h => absurd rfl h⟩) (fun hb => ⟨rg_small (by decide), fun h => absurd h (by decide), fun _ => ?_⟩)⟩⟩
  · rcases hh with hh | ⟨_, hh⟩
    · by_cases e : c' = c
      · subst e; exact absurd a2 hb
      · exact K1 c' b' (Or.inl (by omega)) a1 a2 a3
    · omega
  · rw [g1.gm, Int.toNat_natCast, show g + 3 + 4 + 13 * c = g + (7 + 13 * c) by omega]
    refine ⟨t.1, t.2.2.2, by omega, ?_⟩
    have C := cmOk hg (c := c) (by omega)
    have hcC : c < Y.C := by omega
    have hec : ene Y r c = true := by rw [← hrX1]; exact ((C1.en i hiX1 c (by omega)).mp hb).2
    refine ⟨fun M' v2 c3 v4 => v2 = c ∧ c3 = g + (7 + 13 * c) ∧ ∃ b : Nat, v4 = b ∧ b ≤ 4 ∧ ef M M' ∧ FB m M' ∧ kup M' g i c b ∧ b ≤ Y.nb c ∧ ∃ X' : Xs, cont Y r (Y.C - (c + 1)) (c + 1) (goB Y c r (Y.nb c - b) b X') = R ∧ CFd Y X' M' ∧ i < X'.1 ∧ X'.2 i = r, fun _ _ _ v4 => (5 - v4).toNat, ⟨rfl, rfl, 0, rfl, by omega, f1, F1, K1, by omega, X1, by rw [← hgo, show Y.C - c = (Y.C - (c + 1)) + 1 by omega, goC, if_pos hec]; rfl, C1, hiX1, hrX1⟩, ?_⟩
    rintro M2 v2 c3 v4 ⟨rfl, rfl, b, rfl, hb4, f2, F2, K2, hbn, X2, hgo2, C2, hiX2, hrX2⟩
    have g2 := h.ef f2
    have mo2 := f2.mo
    have hc2 := F2.cnt
    have m2 : M2 g 4 = m := by rw [f2.gcnt hg]; exact hm
    have hbr : 0 ≤ M2 (g + (7 + 13 * c)) 3 ∧ M2 (g + (7 + 13 * c)) 3 ≤ 4 := g2.cb.g' (brC ⟨c, by omega⟩) (x := 3) (by omega) (by omega)
    have hy2 : CY Y g M2 := hy.same (fun a h1 h2 => f2.cell a (by omega) (by omega) (by omega) (by omega))
    have hnb2 := hy2.nb c hcC
    unfold C_Fo_findFrom_39
    refine ⟨C.t0, rg_small (by omega), rg_small (by omega), fun h5 => ⟨⟨c + 1, by omega, by omega, f2, F2, fun c' b' hh a1 a2 a3 => ?_, X2, by rw [show Y.nb c - b = 0 by omega, goB] at hgo2; rw [← hgo2]; unfold cont; rw [if_pos rfl], C2, hiX2, hrX2⟩, by dsimp only; omega⟩, fun h5 => ⟨by omega, C.t4, by omega, ?_⟩⟩
    · rcases hh with hh | ⟨_, hh⟩
      · by_cases e : c' = c
        · subst e; exact K2 c' b' (Or.inr ⟨rfl, by omega⟩) a1 a2 a3
        · exact K2 c' b' (Or.inl (by omega)) a1 a2 a3
      · omega
    · have B := brOk hg (c := c) (b := b) (by omega) (by omega)
      rw [g2.gm, Int.toNat_natCast, Int.toNat_natCast, show 280 + 1 + i = 281 + i by omega, show g + (7 + 13 * c) + 4 + 1 + 2 * b = g + (12 + 13 * c + 2 * b) by omega]
      refine ⟨t.1, x_follow g2 (c3_of (c3_val ⟨i, by omega⟩)) (by omega) B (fun M3 hx3 v3 => ?_)⟩
      have f23 := ef_308 hx3 hc2.2
      have F3 : FB m M3 := F2.com' hc2 hx3 (fun v hv => by rw [v3 v hv]; exact fol_rg g2 _ _ hv)
      have g3 := g2.ef f23
      have f3 := f2.tr f23
      have hc3 := F3.cnt
      have mo3 := f3.mo
      have fe : ∀ v, fol M3 g (281 + i) (g + (12 + 13 * c + 2 * b)) v = fol M2 g (281 + i) (g + (12 + 13 * c + 2 * b)) v := fun v => fol_ef hg f23 (by omega) (by omega) v
      have K3 := kup_ef g2 f23 hc2 (i := i) (by omega) K2
      have C3 : CFd Y X2 M3 := C2.same (by rw [hx3 142 (by decide)]) (by rw [hx3 142 (by decide)]) (fun a h1 h2 => hx3 a (by omega))
      have hy3 : CY Y g M3 := hy2.same (fun a h1 h2 => hx3 a (by omega))
      have hs3 : ∀ v, v < 3 → M3 308 v = Y.nx c b r v := fun v hv => by
        rw [v3 v hv]
        show folr M2 g (g + (12 + 13 * c + 2 * b)) (M2 (281 + i)) v = _
        rw [folr_c (r' := r) (fun w hw => by rw [← hrX2]; exact C2.st i w hiX2 hw)]
        exact hy2.nx c b hcC (by omega) r hokr v hv
      have hgs : goB Y c r (Y.nb c - b) b X2 = if (ins X2 (Y.nx c b r)).2 = true then goB Y c r (Y.nb c - (b + 1)) (b + 1) (ins X2 (Y.nx c b r)).1 else ins X2 (Y.nx c b r) := by rw [show Y.nb c - b = (Y.nb c - (b + 1)) + 1 by omega, goB]
      have hn3 := C3.n
      -- one branch more is known
      have more : ∀ (M4 : fm_M) (X4 : Xs), ef M M4 → FB m M4 → kup M4 g i c b → kwn M4 g i c b → ins X2 (Y.nx c b r) = (X4, true) → CFd Y X4 M4 → i < X4.1 → X4.2 i = r → ((c : Int) = c ∧ g + (7 + 13 * c) = g + (7 + 13 * c) ∧ ∃ b_1 : Nat, ((b : Int) + 1) = b_1 ∧ b_1 ≤ 4 ∧ ef M M4 ∧ FB m M4 ∧ kup M4 g i c b_1 ∧ b_1 ≤ Y.nb c ∧ ∃ X' : Xs, cont Y r (Y.C - (c + 1)) (c + 1) (goB Y c r (Y.nb c - b_1) b_1 X') = R ∧ CFd Y X' M4 ∧ i < X'.1 ∧ X'.2 i = r) ∧ (5 - ((b : Int) + 1)).toNat < (5 - (b : Int)).toNat := fun M4 X4 f4 F4 K4 hk4 hi4 C4 hiX4 hrX4 => ⟨⟨rfl, rfl, b + 1, by omega, by omega, f4, F4, fun c' b' hh a1 a2 a3 => by
        rcases hh with hh | ⟨e, hh⟩
        · exact K4 c' b' (Or.inl hh) a1 a2 a3
        · by_cases e2 : b' = b
          · subst e; subst e2; exact hk4
          · exact K4 c' b' (Or.inr ⟨e, by omega⟩) a1 a2 a3, by omega, X4, by rw [hgs, hi4, if_pos rfl] at hgo2; exact hgo2, C4, hiX4, hrX4⟩, by omega⟩
      have nis : (∀ j : Nat, (j : Int) < M3 142 1 → ∃ v, v < 3 ∧ M3 (281 + j) v ≠ M3 308 v) → ¬ isn X2 (Y.nx c b r) := fun hh ⟨j, hj, e0, e1, e2⟩ => by
        obtain ⟨v, hv, hne⟩ := hh j (by omega)
        apply hne
        rw [C3.st j v hj hv, hs3 v hv]
        have : v = 0 ∨ v = 1 ∨ v = 2 := by omega
        rcases this with e | e | e <;> subst e
        · exact e0
        · exact e1
        · exact e2
      refine x_numberOf F3 (fun hno => ⟨rg_small (by decide), fun h => absurd rfl h, fun _ => ⟨rg_small (by decide), fun h => absurd h (by decide), fun _ => ⟨rg_small (by omega), fun h8 => ⟨rg_small (by decide), fun h => absurd h (by decide), fun _ => ?_⟩, fun h8 => by
        have hi4 : ins X2 (Y.nx c b r) = (X2, false) := by unfold ins; rw [if_neg (nis hno), if_pos (by omega)]
        have hff : ¬ ((X2, false) : Xs × Bool).2 = true := Bool.false_ne_true
        rw [hgs, hi4, if_neg hff] at hgo2
        unfold cont at hgo2
        rw [if_neg hff] at hgo2
        exact h0 M3 f3 F3 (by rw [← hgo2]; exact hff) (by rw [← hgo2]; exact C3)⟩⟩⟩) (fun j hj hv => ⟨rg_small (by omega), fun _ => ⟨rg_small (by decide), fun _ => ⟨rg_small (by decide), fun _ => more M3 X2 f3 F3 K3 ⟨j, hj, fun v hv3 => by rw [hv v hv3, v3 v hv3, fe]⟩ (by
          unfold ins
          rw [if_pos ⟨j, by omega, by rw [← C3.st j 0 (by omega) (by omega), hv 0 (by omega), hs3 0 (by omega)], by rw [← C3.st j 1 (by omega) (by omega), hv 1 (by omega), hs3 1 (by omega)], by rw [← C3.st j 2 (by omega) (by omega), hv 2 (by omega), hs3 2 (by omega)]⟩]) C3 hiX2 hrX2, fun h => absurd rfl h⟩, fun h => absurd rfl h⟩, fun h => by omega⟩)
      have hi4 : ins X2 (Y.nx c b r) = (Xad X2 (Y.nx c b r), true) := by unfold ins; rw [if_neg (nis hno), if_neg (by omega)]
      refine f_add g3 (by rw [f23.gcnt hg]; exact m2) hm10 F3 hy3 C3 (by omega) c3_308 (by decide) hs3 (hy.w.okn c b r hokr) (fun M4 f4 F4 n4 v4 C4 => ?_)
      refine more M4 _ (f3.tr f4) F4 (kup_ef g3 f4 hc3 (by omega) K3) ⟨(M3 142 1).toNat, by omega, fun v hv => ?_⟩ hi4 C4 (by show i < X2.1 + 1; omega) (by show (if i = X2.1 then Y.nx c b r else X2.2 i) = r; rw [if_neg (by omega)]; exact hrX2)
      rw [v4 v hv, v3 v hv, fol_ef hg f4 (by omega) (by omega), fe]
/-- all that comes of the states is found -/
def kall (M : fm_M) (g : Nat) (n : Int) : Prop := ∀ i c b : Nat, (i : Int) < n → (c : Int) < M g 4 → bt (M 289 i) c → (b : Int) < M (g + (7 + 13 * c)) 3 → kwn M g i c b
/-- what solving may change in the search's object, and nothing of the games -/
def ef2 (M M' : fm_M) : Prop :=
  (∀ a, a ≠ 142 → a ≠ 289 → a ≠ 308 → ¬ (281 ≤ a ∧ a < 289) → M' a = M a) ∧
  (M' 142 0 = M 142 0)
theorem ef2.cell {M M' : fm_M} (h_ : ef2 M M') : ∀ a, a ≠ 142 → a ≠ 289 → a ≠ 308 → ¬ (281 ≤ a ∧ a < 289) → M' a = M a := h_.1
theorem ef2.gm {M M' : fm_M} (h_ : ef2 M M') : M' 142 0 = M 142 0 := h_.2
theorem ef.e2 {M M' : fm_M} (f : ef M M') : ef2 M M' := ⟨f.cell, f.gm⟩
theorem ef2.tr {M M1 M2 : fm_M} (h : ef2 M M1) (h2 : ef2 M1 M2) : ef2 M M2 := ⟨fun a b c d e => by rw [h2.cell a b c d e, h.cell a b c d e], by rw [h2.gm, h.gm]⟩
theorem CG1.e2 {M M' : fm_M} (h : CG1 g M) (f : ef2 M M') : CG1 g M' := ⟨h.gg, by rw [f.gm]; exact h.gm, fun e he x h1 h2 => by
  have := CBt_lt e he
  have hg := h.gg
  rw [f.cell (g + e.1) (by omega) (by omega) (by omega) (by omega)]; exact h.cb e he x h1 h2⟩
theorem x_isOfMax {M : fm_M} {m : Nat} (F : FB m M) {i : Nat} (hi : i < 8) (h0 : ((i : Int) < M 142 4 → jand (M 289 i) (M 142 5) = 0) → post 0 M) (h1 : (i : Int) < M 142 4 → ¬ jand (M 289 i) (M 142 5) = 0 → post 1 M) : wp_Fo_isOfMax M i post thr := by
  have := F.lk
  unfold wp_Fo_isOfMax
  rw [Int.toNat_natCast]
  exact ⟨rg_small (by omega), rg_small (by omega), fun h => h0 (fun hh => by omega), fun h => ⟨by omega, rg_jand _ _, fun hz => h0 (fun _ => hz), fun hz => h1 (by omega) hz⟩⟩
/-- which commands are MAX's -/
def omb (Y : Ga) (M : fm_M) : Prop := ∀ c, c < 10 → (bt (M 142 5) c ↔ c < Y.C ∧ Y.mx c = true)
theorem om_max {Y : Ga} {X : Xs} {M : fm_M} (C : CFd Y X M) (o : omb Y M) (hC : Y.C ≤ 10) {m i : Nat} (hm : m ≤ 10) (hb : bs (M 289 i) m) (hi : i < X.1) : ¬ jand (M 289 i) (M 142 5) = 0 ↔ omx Y (X.2 i) := by
  have := bs_mono hb hm
  unfold bs at this
  rw [bt_meet this]
  constructor
  · intro ⟨k, hk, h1, h2⟩
    have a := (C.en i hi k hk).mp h1
    exact ⟨k, a.1, a.2, ((o k hk).mp h2).2⟩
  · intro ⟨k, hk, h1, h2⟩
    have hk10 : k < 10 := by omega
    exact ⟨k, hk10, (C.en i hi k hk10).mpr ⟨hk, h1⟩, (o k hk10).mpr ⟨hk, h2⟩⟩
theorem om_min {Y : Ga} {X : Xs} {M : fm_M} (C : CFd Y X M) (o : omb Y M) (hC : Y.C ≤ 10) {m i : Nat} (hm : m ≤ 10) (hb : bs (M 289 i) m) (hi : i < X.1) : ¬ jand (M 289 i) (jxor (M 142 5) (-1)) = 0 ↔ omn Y (X.2 i) := by
  have := bs_mono hb hm
  unfold bs at this
  rw [bt_meet this]
  constructor
  · intro ⟨k, hk, h1, h2⟩
    have a := (C.en i hi k hk).mp h1
    refine ⟨k, a.1, a.2, ?_⟩
    rw [bt_not hk, o k hk] at h2
    cases hh : Y.mx k with
    | false => rfl
    | true => exact absurd ⟨a.1, hh⟩ h2
  · intro ⟨k, hk, h1, h2⟩
    have hk10 : k < 10 := by omega
    refine ⟨k, hk10, (C.en i hi k hk10).mpr ⟨hk, h1⟩, ?_⟩
    rw [bt_not hk10, o k hk10]
    intro hh
    rw [hh.2] at h2; exact absurd h2 (by decide)
/-- what the class's search has come to -/
def CR (Y : Ga) (r : Int) (M : fm_M) : Prop := CFd Y (SR Y).1 M ∧ M 142 4 = (SR Y).2.1 ∧ M 142 2 = (SR Y).2.2.1 ∧ r = (SR Y).2.2.2 ∧ omb Y M
theorem x_explore {M : fm_M} {Y : Ga} (hy : CY Y g M) (h : CG1 g M) {m : Nat} (hm : M g 4 = m) (hm10 : m ≤ 10) (hv : ∀ i v, i < 8 → v < 3 → 0 ≤ M (281 + i) v ∧ M (281 + i) v ≤ 9) (hco : ∀ v, v < 3 → 0 ≤ M 308 v ∧ M 308 v ≤ 9)
    (hp : ∀ r M', CR Y r M' → ef2 M M' → FB m M' → (rg r) → (0 < r → M' 142 4 = M' 142 1 ∧ kall M' g (M' 142 1)) → post r M') : wp_Fo_explore M post thr := by
  have hg := h.gg
  have t := tcG hg
  intro M1 e1 M2 e2 M3 e3 M4 e4
  have a4 : ∀ a, a ≠ 142 → M4 a = M a := fun a ha => by rw [e4, fu_off _ _ _ ha, e3, fu_off _ _ _ ha, e2, fu_off _ _ _ ha, e1, fu_off _ _ _ ha]
  have z0 : M4 142 0 = M 142 0 := by rw [e4, fu_at, if_neg (by decide), e3, fu_at, if_neg (by decide), e2, fu_at, if_neg (by decide), e1, fu_at, if_neg (by decide)]
  have z1 : M4 142 1 = 0 := by rw [e4, fu_at, if_neg (by decide), e3, fu_at, if_neg (by decide), e2, fu_at, if_neg (by decide), e1, fu_at, if_pos rfl]
  have hC10 := hy.w.c10
  have hmC : m = Y.C := by have := hy.c; omega
  have z2 : M4 142 2 = -1 := by rw [e4, fu_at, if_pos rfl]
  have z3 : M4 142 3 = 0 := by rw [e4, fu_at, if_neg (by decide), e3, fu_at, if_pos rfl]
  have z4 : M4 142 4 = 0 := by rw [e4, fu_at, if_neg (by decide), e3, fu_at, if_neg (by decide), e2, fu_at, if_pos rfl]
  have f4 : ef2 M M4 := ⟨fun a h1 _ _ _ => a4 a h1, z0⟩
  have g4 := h.e2 f4
  have m4 : M4 g 4 = m := by rw [a4 g (by omega)]; exact hm
  rw [g4.gm]
  refine ⟨t.1, x_commandsOfMax g4 m4 hm10 (fun r hrb M5 e5 => ?_)⟩
  have a5 : ∀ a, a ≠ 142 → M5 a = M4 a := fun a ha => by rw [e5]; exact fu_off _ _ _ ha
  have b5 : ∀ b, b ≠ 5 → M5 142 b = M4 142 b := fun b hb => by rw [e5, fu_at, if_neg hb]
  have f5 : ef2 M M5 := f4.tr ⟨fun a h1 _ _ _ => a5 a h1, b5 0 (by decide)⟩
  have g5 := h.e2 f5
  have m5 : M5 g 4 = m := by rw [a5 g (by omega)]; exact m4
  have F5 : FB m M5 := ⟨by rw [b5 1 (by decide), z1]; omega, by rw [b5 4 (by decide), z4]; omega, fun i v hi hv3 => by rw [a5 _ (by omega), a4 _ (by omega)]; exact hv i v hi hv3, fun v hv3 => by rw [a5 308 (by decide), a4 308 (by decide)]; exact hco v hv3, fun i hi => by rw [b5 1 (by decide), z1] at hi; omega, by rw [b5 3 (by decide), z3]; exact rg_small (by decide)⟩
  rw [g5.gm]
  have hy5 : CY Y g M5 := hy.same (fun a h1 h2 => by rw [a5 a (by omega), a4 a (by omega)])
  have C5 : CFd Y (0, fun _ _ => 0) M5 := ⟨by rw [b5 1 (by decide), z1]; rfl, by decide, fun i hi => absurd hi (Nat.not_lt_zero _), fun i v hi => absurd hi (Nat.not_lt_zero _), fun i hi => absurd hi (Nat.not_lt_zero _), fun i hi => by rw [b5 3 (by decide), z3]; exact ⟨fun hh => absurd hh (bt_0 ⟨i, by omega⟩), fun hh => absurd hh.1 (Nat.not_lt_zero _)⟩⟩
  have o5 : omb Y M5 := fun c hc => by
    rw [e5, fu_at, if_pos rfl, hrb c hc, hmC]
    refine ⟨fun hh => ⟨hh.1, ?_⟩, fun hh => ⟨hh.1, ?_⟩⟩
    · have := hy.mx c hh.1
      rw [← a4 _ (by omega)] at this
      cases he : Y.mx c with
      | true => rfl
      | false => rw [he] at this; exact absurd this hh.2
    · rw [a4 _ (by omega), hy.mx c hh.1, hh.2]; decide
  refine ⟨t.1, f_add g5 m5 hm10 F5 hy5 C5 (by decide) (c3_of t.2.2.1) (by omega) hy5.fi hy.w.okf (fun M6 f6 F6 n6 v6 C6 => ?_)⟩
  have l6 : M6 142 4 = 0 := by rw [f6.lk, b5 4 (by decide), z4]
  have n61 : M6 142 1 = 1 := by rw [n6, b5 1 (by decide), z1]; rfl
  refine ⟨fun M' v1 => ∃ i : Nat, v1 = i ∧ (i : Int) ≤ M' 142 1 ∧ ef2 M M' ∧ FB m M' ∧ M' 142 4 = i ∧ kall M' g i ∧ 1 ≤ M' 142 1 ∧ ∃ X : Xs, goI Y (8 - i) i X = SR Y ∧ CFd Y X M' ∧ M' 142 2 = -1 ∧ omb Y M', fun _ v1 => (8 - v1).toNat, ⟨0, rfl, by omega, f5.tr f6.e2, F6, l6, fun i c b hi => by omega, by omega, _, rfl, C6, by rw [f6.o25.1, b5 2 (by decide), z2], by unfold omb; rw [f6.o25.2]; exact o5⟩, ?_⟩
  rintro M7 v1 ⟨i, rfl, hi, f7, F7, l7, K7, p7, X, hgo, C7, x7, o7⟩
  have hc7 := F7.cnt
  have g7 := h.e2 f7
  have m7 : M7 g 4 = m := by rw [f7.cell g (by omega) (by omega) (by omega) (by omega)]; exact hm
  have hn7 := C7.n
  have hn8 := C7.n8
  have stop : ¬ i < X.1 → SR Y = ((X, i, -1, (X.1 : Int)) : Rs) := fun hne => by
    rw [← hgo]
    cases 8 - i with
    | zero => rfl
    | succ f => rw [goI, if_neg hne]
  have fin : (M7 142 1) ≤ (i : Int) → post (M7 142 1) M7 := fun h8 => hp _ M7 (by unfold CR; rw [stop (by omega)]; exact ⟨C7, l7, x7, hn7, o7⟩) f7 F7 (rg_small (by omega)) (fun _ => ⟨by omega, by rw [show M7 142 1 = i by omega]; exact K7⟩)
  unfold C_Fo_explore_28
  refine ⟨rg_small (by omega), fun h8 => fin (by omega), fun h8 => ⟨rg_small (by omega), fin, fun h9 M8 e8 => ?_⟩⟩
  have a8 : ∀ a, a ≠ 142 → M8 a = M7 a := fun a ha => by rw [e8]; exact fu_off _ _ _ ha
  have b8 : ∀ b, b ≠ 4 → M8 142 b = M7 142 b := fun b hb => by rw [e8, fu_at, if_neg hb]
  have l8 : M8 142 4 = (i : Int) + 1 := by rw [e8, fu_at, if_pos rfl, l7]
  have f8 : ef2 M M8 := f7.tr ⟨fun a h1 _ _ _ => a8 a h1, b8 0 (by decide)⟩
  have F8 : FB m M8 := ⟨by rw [b8 1 (by decide)]; exact hc7, by omega, fun i v hi hv3 => by rw [a8 _ (by omega)]; exact F7.val i v hi hv3, fun v hv3 => by rw [a8 308 (by decide)]; exact F7.com v hv3, fun i hi => by
    rw [b8 1 (by decide)] at hi
    rw [a8 289 (by decide)]; exact F7.en i hi, by rw [b8 3 (by decide)]; exact F7.tg⟩
  have g8 := h.e2 f8
  have m8 : M8 g 4 = m := by rw [a8 g (by omega)]; exact m7
  have K8 : kall M8 g i := fun i' c b a1 a2 a3 a4' => by
    rw [a8 g (by omega)] at a2
    rw [a8 289 (by decide)] at a3
    rw [a8 _ (by omega)] at a4'
    have hbr : 0 ≤ M7 (g + (7 + 13 * c)) 3 ∧ M7 (g + (7 + 13 * c)) 3 ≤ 4 := g7.cb.g' (brC ⟨c, by omega⟩) (x := 3) (by omega) (by omega)
    obtain ⟨j, hj, hv⟩ := K7 i' c b a1 a2 a3 a4'
    refine ⟨j, by rw [b8 1 (by decide)]; exact hj, fun v hv3 => ?_⟩
    unfold fol cs
    rw [a8 _ (by omega), a8 (g + 1) (by omega), a8 _ (by omega), a8 _ (by omega)]; exact hv v hv3
  have C8 : CFd Y X M8 := C7.same (b8 1 (by decide)) (b8 3 (by decide)) (fun a h1 h2 => a8 a (by omega))
  have hy8 : CY Y g M8 := hy.same (fun a h1 h2 => f8.cell a (by omega) (by omega) (by omega) (by omega))
  have x8 : M8 142 2 = -1 := by rw [b8 2 (by decide)]; exact x7
  have o8 : omb Y M8 := by unfold omb; rw [b8 5 (by decide)]; exact o7
  have hiX : i < X.1 := by omega
  have bs8 : bs (M8 289 i) m := F8.en i (by rw [b8 1 (by decide)]; omega)
  rw [show 8 - i = (8 - (i + 1)) + 1 by omega, goI, if_pos hiX] at hgo
  have look : ¬ (omx Y (X.2 i) ∧ omn Y (X.2 i)) → B_Fo_explore_84 post thr (fun M' v1' => (∃ i : Nat, v1' = i ∧ (i : Int) ≤ M' 142 1 ∧ ef2 M M' ∧ FB m M' ∧ M' 142 4 = i ∧ kall M' g i ∧ 1 ≤ M' 142 1 ∧ ∃ X : Xs, goI Y (8 - i) i X = SR Y ∧ CFd Y X M' ∧ M' 142 2 = -1 ∧ omb Y M') ∧ (8 - v1').toNat < (8 - (i : Int)).toNat) M8 i := by
    intro hnm
    rw [if_neg hnm] at hgo
    refine x_findFrom hy8 C8 g8 m8 hm10 F8 (by rw [b8 1 (by decide)]; omega) (fun M9 f9 F9 K9 hok C9 => ⟨rg_small (by decide), fun _ => ⟨⟨i + 1, by omega, ?_, f8.tr f9.e2, F9, ?_, ?_, ?_, _, by rw [if_pos hok] at hgo; exact hgo, C9, by rw [f9.o25.1]; exact x8, by unfold omb; rw [f9.o25.2]; exact o8⟩, by omega⟩, fun h => absurd h (by decide)⟩) (fun M9 f9 F9 hok C9 => ⟨rg_small (by decide), fun h => absurd rfl h, fun _ => hp _ M9 (by rw [if_neg hok] at hgo; unfold CR; rw [← hgo]; exact ⟨C9, by rw [f9.lk, l8]; rfl, by rw [f9.o25.1]; exact x8, rfl, by unfold omb; rw [f9.o25.2]; exact o8⟩) (f8.tr f9.e2) F9 (rg_small (by decide)) (fun h => absurd h (by decide))⟩)
    · have := f9.mo; rw [b8 1 (by decide)] at this; omega
    · rw [f9.lk, l8]; rfl
    · intro i' c b a1 a2 a3 a4'
      by_cases e : i' = i
      · subst e; exact K9 c b a2 a3 a4'
      · have hi' : (i' : Int) < M8 142 1 := by rw [b8 1 (by decide)]; omega
        rw [f9.gcnt hg] at a2
        rw [(f9.val i' hi').2] at a3
        rw [f9.cell _ (by omega) (by omega) (by omega) (by omega)] at a4'
        have hbr : 0 ≤ M8 (g + (7 + 13 * c)) 3 ∧ M8 (g + (7 + 13 * c)) 3 ≤ 4 := g8.cb.g' (brC ⟨c, by omega⟩) (x := 3) (by omega) (by omega)
        exact kwn_ef hg f9 F8.cnt hi' (by omega) (by omega) (K8 i' c b (by omega) a2 a3 a4')
    · have := f9.mo; rw [b8 1 (by decide)] at this; omega
  refine x_isOfMax F8 (by omega) (fun hz => ⟨rg_small (by decide), fun _ => look (fun hh => (om_max C8 o8 hC10 hm10 bs8 hiX).mpr hh.1 (hz (by omega))), fun h => absurd rfl h⟩) (fun _ hnz => ⟨rg_small (by decide), fun h => absurd h (by decide), fun _ => ⟨by omega, rg_jand _ _, fun hz => look (fun hh => (om_min C8 o8 hC10 hm10 bs8 hiX).mpr hh.2 hz), fun hz M9 e9 => ?_⟩⟩)
  rw [if_pos ⟨(om_max C8 o8 hC10 hm10 bs8 hiX).mp hnz, (om_min C8 o8 hC10 hm10 bs8 hiX).mp hz⟩] at hgo
  have a9 : ∀ a, a ≠ 142 → M9 a = M8 a := fun a ha => by rw [e9]; exact fu_off _ _ _ ha
  have b9 : ∀ b, b ≠ 2 → M9 142 b = M8 142 b := fun b hb => by rw [e9, fu_at, if_neg hb]
  refine hp _ M9 (by unfold CR; rw [← hgo]; exact ⟨C8.same (b9 1 (by decide)) (b9 3 (by decide)) (fun a h1 h2 => a9 a (by omega)), by rw [b9 4 (by decide), l8]; rfl, by rw [e9, fu_at, if_pos rfl], rfl, by unfold omb; rw [b9 5 (by decide)]; exact o8⟩) (f8.tr ⟨fun a h1 _ _ _ => a9 a h1, b9 0 (by decide)⟩) ⟨by rw [b9 1 (by decide)]; exact F8.cnt, by rw [b9 4 (by decide)]; exact F8.lk, fun i v hi hv3 => by rw [a9 _ (by omega)]; exact F8.val i v hi hv3, fun v hv3 => by rw [a9 308 (by decide)]; exact F8.com v hv3, fun i hi => ?_, by rw [b9 3 (by decide)]; exact F8.tg⟩ (rg_small (by decide)) (fun h => absurd h (by decide))
  rw [b9 1 (by decide)] at hi
  rw [a9 289 (by decide)]; exact F8.en i hi
end Ex2
end Pu_cb
section Pu_cc
section Ex3
variable {g : Nat} {post : Int → fm_M → Prop} {thr : String → fm_M → Prop}
/-- what linking may change -/
def lf (M M' : fm_M) : Prop :=
  Nonempty (∀ a, a ≠ 308 → ¬ (291 ≤ a ∧ a < 299) → ¬ (300 ≤ a ∧ a < 308) → M' a = M a)
theorem lf.cell {M M' : fm_M} (h_ : lf M M') : ∀ a, a ≠ 308 → ¬ (291 ≤ a ∧ a < 299) → ¬ (300 ≤ a ∧ a < 308) → M' a = M a := h_.elim id
theorem lf.refl {M : fm_M} : lf M M := ⟨fun _ _ _ _ => rfl⟩
theorem lf.tr {M M1 M2 : fm_M} (h : lf M M1) (h2 : lf M1 M2) : lf M M2 := ⟨fun a b c d => by rw [h2.cell a b c d, h.cell a b c d]⟩
theorem lf.u {M M1 : fm_M} (h : lf M M1) {a p : Nat} {v : Int} (ha : a = 308 ∨ (291 ≤ a ∧ a < 299) ∨ (300 ≤ a ∧ a < 308)) : lf M (fm_u M1 a p v) := ⟨fun q b c d => by rw [fu_off _ _ _ (by omega)]; exact h.cell q b c d⟩
theorem CG1.lf {M M' : fm_M} (h : CG1 g M) (f : lf M M') : CG1 g M' := ⟨h.gg, by rw [f.cell 142 (by decide) (by decide) (by decide)]; exact h.gm, fun e he x h1 h2 => by
  have := CBt_lt e he
  have hg := h.gg
  rw [f.cell (g + e.1) (by omega) (by omega) (by omega)]; exact h.cb e he x h1 h2⟩
theorem FB.lf {M M' : fm_M} {m : Nat} (F : FB m M) (f : lf M M') (hc : ∀ v, v < 3 → 0 ≤ M' 308 v ∧ M' 308 v ≤ 9) : FB m M' := ⟨by rw [f.cell 142 (by decide) (by decide) (by decide)]; exact F.cnt, by rw [f.cell 142 (by decide) (by decide) (by decide)]; exact F.lk, fun i v hi hv => by rw [f.cell _ (by omega) (by omega) (by omega)]; exact F.val i v hi hv, hc, fun i hi => by
  rw [f.cell 142 (by decide) (by decide) (by decide)] at hi
  rw [f.cell 289 (by decide) (by decide) (by decide)]; exact F.en i hi, by rw [f.cell 142 (by decide) (by decide) (by decide)]; exact F.tg⟩
theorem kwn_lf {M M' : fm_M} (h : CG1 g M) (hc : 0 ≤ M 142 1 ∧ M 142 1 ≤ 8) (f : lf M M') {i c b : Nat} (hi : i < 8) (h9 : c < 10) (h3 : b < 4) (hk : kwn M g i c b) : kwn M' g i c b := by
  have hg := h.gg
  obtain ⟨j, hj, hv⟩ := hk
  refine ⟨j, by rw [f.cell 142 (by decide) (by decide) (by decide)]; exact hj, fun v hv3 => ?_⟩
  unfold fol cs
  rw [f.cell (281 + j) (by omega) (by omega) (by omega), f.cell (g + 1) (by omega) (by omega) (by omega), f.cell _ (by omega) (by omega) (by omega), f.cell (281 + i) (by omega) (by omega) (by omega)]
  exact hv v hv3
/-- where branches lead, as kept -/
def nxr (M : fm_M) : Prop := ∀ i x, i < 8 → x < 40 → -1 ≤ M (300 + i) x ∧ M (300 + i) x ≤ 7
theorem t300 : ∀ i : Fin 8, 300 + i.1 < nC ∧ TC (300 + i.1) = .inr (0, 40) := by decide
theorem t291 : ∀ i : Fin 8, 291 + i.1 < nC ∧ TC (291 + i.1) = .inr (0, 10) := by decide
theorem x_linkCommand {M : fm_M} (h : CG1 g M) {m : Nat} (hm : M g 4 = m) (hm10 : m ≤ 10) (F : FB m M) (N : nxr M) {i c : Nat} (hi : (i : Int) < M 142 1) (hc : c < m)
    (hp : ∀ M', lf M M' → FB m M' → nxr M' → (∀ i' x, i' < 8 → x < 40 → (i' ≠ i ∨ x < 4 * c ∨ 4 * c + 4 ≤ x) → M' (300 + i') x = M (300 + i') x) → (∀ b : Nat, (b : Int) < M (g + (7 + 13 * c)) 3 → kwn M g i c b → 0 ≤ M' (300 + i) (4 * c + b) ∧ M' (300 + i) (4 * c + b) < M 142 1) → post 0 M') : wp_Fo_linkCommand M i c post thr := by
  have hg := h.gg
  have t := tcG hg
  have hcn := F.cnt
  have C := cmOk hg (c := c) (by omega)
  unfold wp_Fo_linkCommand
  rw [h.gm, Int.toNat_natCast, show g + 3 + 4 + 13 * c = g + (7 + 13 * c) by omega]
  refine ⟨t.1, t.2.2.2, by omega, ?_⟩
  have hbr : 0 ≤ M (g + (7 + 13 * c)) 3 ∧ M (g + (7 + 13 * c)) 3 ≤ 4 := h.cb.g' (brC ⟨c, by omega⟩) (x := 3) (by omega) (by omega)
  refine ⟨fun M' c3 v4 => c3 = g + (7 + 13 * c) ∧ ∃ b : Nat, v4 = b ∧ b ≤ 4 ∧ lf M M' ∧ FB m M' ∧ nxr M' ∧ (∀ i' x, i' < 8 → x < 40 → (i' ≠ i ∨ x < 4 * c ∨ 4 * c + 4 ≤ x) → M' (300 + i') x = M (300 + i') x) ∧ (∀ b' : Nat, b' < b → kwn M g i c b' → 0 ≤ M' (300 + i) (4 * c + b') ∧ M' (300 + i) (4 * c + b') < M 142 1), fun _ _ v4 => (5 - v4).toNat, ⟨rfl, 0, rfl, by omega, lf.refl, F, N, fun _ _ _ _ _ => rfl, fun b' hb' => by omega⟩, ?_⟩
  rintro M1 c3 v4 ⟨rfl, b, rfl, hb4, f1, F1, N1, O1, K1⟩
  have g1 := h.lf f1
  have br1 : M1 (g + (7 + 13 * c)) 3 = M (g + (7 + 13 * c)) 3 := by rw [f1.cell _ (by omega) (by omega) (by omega)]
  have n1 : M1 142 1 = M 142 1 := by rw [f1.cell 142 (by decide) (by decide) (by decide)]
  unfold C_Fo_linkCommand_13
  rw [br1]
  refine ⟨C.t0, rg_small (by omega), rg_small (by omega), fun h5 => hp M1 f1 F1 N1 O1 (fun b' hb' => K1 b' (by omega)), fun h5 => ⟨by omega, C.t4, by omega, ?_⟩⟩
  have B := brOk hg (c := c) (b := b) (by omega) (by omega)
  rw [g1.gm, Int.toNat_natCast, Int.toNat_natCast, show 280 + 1 + i = 281 + i by omega, show g + (7 + 13 * c) + 4 + 1 + 2 * b = g + (12 + 13 * c + 2 * b) by omega, show 299 + 1 + i = 300 + i by omega, show 290 + 1 + i = 291 + i by omega, show ((c : Int) * 4) + (b : Int) = ((4 * c + b : Nat) : Int) by omega, Int.toNat_natCast, Int.toNat_natCast]
  refine ⟨t.1, x_follow g1 (c3_of (c3_val ⟨i, by omega⟩)) (by omega) B (fun M2 hx2 v2 => ?_)⟩
  have f12 : lf M1 M2 := ⟨fun a h1 _ _ => hx2 a h1⟩
  have F2 : FB m M2 := F1.lf f12 (fun v hv => by rw [v2 v hv]; exact fol_rg g1 _ _ hv)
  have f2 := f1.tr f12
  have n2 : M2 142 1 = M 142 1 := by rw [f2.cell 142 (by decide) (by decide) (by decide)]
  have a2 : ∀ i', i' < 8 → M2 (300 + i') = M1 (300 + i') := fun i' hi' => hx2 _ (by omega)
  -- behind the number
  have fin : ∀ r : Int, -1 ≤ r ∧ r < M 142 1 → (kwn M g i c b → 0 ≤ r) → ∀ M3, M3 = fm_u M2 (300 + i) (4 * c + b) r → ∀ M4, (M4 = M3 ∨ ∃ z, M4 = fm_u M3 (291 + i) c z) → (g + (7 + 13 * c) = g + (7 + 13 * c) ∧ ∃ b_1 : Nat, ((b : Int) + 1) = b_1 ∧ b_1 ≤ 4 ∧ lf M M4 ∧ FB m M4 ∧ nxr M4 ∧ (∀ i' x, i' < 8 → x < 40 → (i' ≠ i ∨ x < 4 * c ∨ 4 * c + 4 ≤ x) → M4 (300 + i') x = M (300 + i') x) ∧ (∀ b' : Nat, b' < b_1 → kwn M g i c b' → 0 ≤ M4 (300 + i) (4 * c + b') ∧ M4 (300 + i) (4 * c + b') < M 142 1)) ∧ (5 - ((b : Int) + 1)).toNat < (5 - (b : Int)).toNat := by
    intro r hr hk M3 e3 M4 e4
    have f3 : lf M M3 := by rw [e3]; exact f2.u (Or.inr (Or.inr (by omega)))
    have f4 : lf M M4 := by
      rcases e4 with e | ⟨z, e⟩
      · rw [e]; exact f3
      · rw [e]; exact f3.u (Or.inr (Or.inl (by omega)))
    have e308 : M4 308 = M2 308 := by
      rcases e4 with e | ⟨z, e⟩
      · rw [e, e3, fu_off _ _ _ (by omega)]
      · rw [e, fu_off _ _ _ (by omega), e3, fu_off _ _ _ (by omega)]
    have e300 : ∀ i', i' < 8 → M4 (300 + i') = M3 (300 + i') := fun i' hi' => by
      rcases e4 with e | ⟨z, e⟩
      · rw [e]
      · rw [e, fu_off _ _ _ (by omega)]
    have r300 : ∀ i' x, i' < 8 → M4 (300 + i') x = if i' = i ∧ x = 4 * c + b then r else M1 (300 + i') x := fun i' x hi' => by
      rw [e300 i' hi', e3]
      by_cases e : i' = i
      · rw [e, fu_at, a2 i (by omega)]
        by_cases e5 : x = 4 * c + b
        · rw [if_pos e5, if_pos ⟨rfl, e5⟩]
        · rw [if_neg e5, if_neg (fun hh => e5 hh.2)]
      · rw [fu_off _ _ _ (by omega), a2 i' hi', if_neg (fun hh => e hh.1)]
    refine ⟨⟨rfl, b + 1, by omega, by omega, f4, F.lf f4 (by rw [e308]; exact F2.com), fun i' x hi' hx => ?_, fun i' x hi' hx ho => ?_, fun b' hb' hk' => ?_⟩, by omega⟩
    · rw [r300 i' x hi']; split
      · omega
      · exact N1 i' x hi' hx
    · rw [r300 i' x hi', if_neg (by omega)]; exact O1 i' x hi' hx ho
    · rw [r300 i _ (by omega)]
      by_cases e : b' = b
      · subst e; rw [if_pos ⟨rfl, rfl⟩]; exact ⟨hk hk', hr.2⟩
      · rw [if_neg (by omega)]; exact K1 b' (by omega) hk'
  refine x_numberOf F2 (fun hno => ⟨t300 ⟨i, by omega⟩, by omega, fun M3 e3 => ⟨rg_small (by decide), fun _ => fin (-1) (by omega) (fun hk => ?_) M3 e3 M3 (Or.inl rfl), fun h => absurd rfl h⟩⟩) (fun j hj hv => ⟨t300 ⟨i, by omega⟩, by omega, fun M3 e3 => ⟨rg_small (by omega), fun h => by omega, fun _ => ⟨t291 ⟨i, by omega⟩, by omega, fun M4 e4 => fin j (by omega) (fun _ => by omega) M3 e3 M4 (Or.inr ⟨_, e4⟩)⟩⟩⟩)
  exfalso
  obtain ⟨j, hj, hv⟩ := hk
  obtain ⟨v, hv3, hne⟩ := hno j (by omega)
  apply hne
  rw [v2 v hv3, f2.cell (281 + j) (by omega) (by omega) (by omega), hv v hv3]
  unfold fol cs
  rw [f1.cell (g + 1) (by omega) (by omega) (by omega), f1.cell (g + (12 + 13 * c + 2 * b) + 1) (by omega) (by omega) (by omega), f1.cell (281 + i) (by omega) (by omega) (by omega)]
/-- branches of what is enabled lead to states -/
def nxt (M : fm_M) (g : Nat) : Prop := ∀ i c b : Nat, (i : Int) < M 142 1 → (c : Int) < M g 4 → bt (M 289 i) c → (b : Int) < M (g + (7 + 13 * c)) 3 → 0 ≤ M (300 + i) (4 * c + b) ∧ M (300 + i) (4 * c + b) < M 142 1
theorem x_link {M : fm_M} (h : CG1 g M) {m : Nat} (hm : M g 4 = m) (hm10 : m ≤ 10) (F : FB m M) (N : nxr M)
    (hp : ∀ M', lf M M' → FB m M' → nxr M' → (kall M g (M 142 1) → nxt M' g) → post 0 M') : wp_Fo_link M post thr := by
  have hg := h.gg
  have t := tcG hg
  have hcn := F.cnt
  have hbr : ∀ c, c < 10 → 0 ≤ M (g + (7 + 13 * c)) 3 ∧ M (g + (7 + 13 * c)) 3 ≤ 4 := fun c hc => h.cb.g' (brC ⟨c, hc⟩) (x := 3) (by omega) (by omega)
  refine ⟨fun M' v1 => ∃ i : Nat, v1 = i ∧ (i : Int) ≤ M 142 1 ∧ lf M M' ∧ FB m M' ∧ nxr M' ∧ (kall M g (M 142 1) → ∀ i' c b : Nat, i' < i → (c : Int) < M g 4 → bt (M 289 i') c → (b : Int) < M (g + (7 + 13 * c)) 3 → 0 ≤ M' (300 + i') (4 * c + b) ∧ M' (300 + i') (4 * c + b) < M 142 1), fun _ v1 => (M 142 1 - v1).toNat, ⟨0, rfl, by omega, lf.refl, F, N, fun _ i' c b hi' => by omega⟩, ?_⟩
  rintro M1 v1 ⟨i, rfl, hi, f1, F1, N1, K1⟩
  have n1 : M1 142 1 = M 142 1 := by rw [f1.cell 142 (by decide) (by decide) (by decide)]
  unfold C_Fo_link_2
  rw [n1]
  refine ⟨rg_small (by omega), rg_small (by omega), fun h4 => hp M1 f1 F1 N1 (fun hk i' c b a1 a2 a3 a4 => ?_), fun h4 => ?_⟩
  · rw [n1] at a1 ⊢
    rw [f1.cell g (by omega) (by omega) (by omega)] at a2
    rw [f1.cell 289 (by decide) (by decide) (by decide)] at a3
    rw [f1.cell _ (by omega) (by omega) (by omega)] at a4
    exact K1 hk i' c b (by omega) a2 a3 a4
  · refine ⟨fun M' v1 v2 => v1 = i ∧ ∃ c : Nat, v2 = c ∧ c ≤ m ∧ lf M M' ∧ FB m M' ∧ nxr M' ∧ (kall M g (M 142 1) → ∀ i' c' b : Nat, (i' < i ∨ (i' = i ∧ c' < c)) → (c' : Int) < M g 4 → bt (M 289 i') c' → (b : Int) < M (g + (7 + 13 * c')) 3 → 0 ≤ M' (300 + i') (4 * c' + b) ∧ M' (300 + i') (4 * c' + b) < M 142 1), fun _ _ v2 => (10 - v2).toNat, ⟨rfl, 0, rfl, by omega, f1, F1, N1, fun hk i' c' b hh => K1 hk i' c' b (by omega)⟩, ?_⟩
    rintro M2 v1 v2 ⟨rfl, c, rfl, hc, f2, F2, N2, K2⟩
    have g2 := h.lf f2
    have m2 : M2 g 4 = m := by rw [f2.cell g (by omega) (by omega) (by omega)]; exact hm
    unfold C_Fo_link_12
    rw [g2.gm, m2, Int.toNat_natCast, Int.toNat_natCast, show 290 + 1 + i = 291 + i by omega]
    refine ⟨t.1, rg_small (by omega), rg_small (by omega), fun h5 => ⟨⟨i + 1, by omega, by omega, f2, F2, N2, fun hk i' c' b hh a2 a3 a4 => K2 hk i' c' b (by omega) a2 a3 a4⟩, by dsimp only; omega⟩, fun h5 => ⟨by omega, t291 ⟨i, by omega⟩, by omega, fun M3 e3 => ?_⟩⟩
    have f3 : lf M M3 := by rw [e3]; exact f2.u (Or.inr (Or.inl (by omega)))
    have a3' : ∀ a, a ≠ 291 + i → M3 a = M2 a := fun a ha => by rw [e3]; exact fu_off _ _ _ ha
    have F3 : FB m M3 := F.lf f3 (by rw [a3' 308 (by omega)]; exact F2.com)
    have N3 : nxr M3 := fun i' x hi' hx => by rw [a3' _ (by omega)]; exact N2 i' x hi' hx
    have g3 := h.lf f3
    have m3 : M3 g 4 = m := by rw [f3.cell g (by omega) (by omega) (by omega)]; exact hm
    refine x_hasBit (fun hb => ⟨rg_small (by decide), fun _ => ⟨⟨rfl, c + 1, by omega, by omega, f3, F3, N3, fun hk i' c' b hh a2 a3 a4 => ?_⟩, by dsimp only; omega⟩, fun h => absurd rfl h⟩) (fun hb => ⟨rg_small (by decide), fun h => absurd h (by decide), fun _ => ?_⟩)
    · by_cases e : i' = i ∧ c' = c
      · obtain ⟨e, e'⟩ := e
        subst e; subst e'
        rw [f3.cell 289 (by decide) (by decide) (by decide)] at hb
        exact absurd a3 hb
      · rw [a3' _ (by omega)]; exact K2 hk i' c' b (by omega) a2 a3 a4
    · refine x_linkCommand g3 m3 hm10 F3 N3 (i := i) (c := c) (by rw [f3.cell 142 (by decide) (by decide) (by decide)]; omega) (by omega) (fun M4 f4 F4 N4 O4 K4 => ⟨⟨rfl, c + 1, by omega, by omega, f3.tr f4, F4, N4, fun hk i' c' b hh a2 a3 a4 => ?_⟩, by dsimp only; omega⟩)
      have hb4 := hbr c' (by omega)
      by_cases e : i' = i ∧ c' = c
      · obtain ⟨e, e'⟩ := e
        subst e; subst e'
        have hkn := hk i' c' b (by omega) a2 a3 a4
        have := K4 b (by rw [f3.cell _ (by omega) (by omega) (by omega)]; exact a4) (kwn_lf h hcn f3 (by omega) (by omega) (by omega) hkn)
        rw [f3.cell 142 (by decide) (by decide) (by decide)] at this
        exact this
      · rw [O4 i' _ (by omega) (by omega) (by omega), a3' _ (by omega)]
        exact K2 hk i' c' b (by omega) a2 a3 a4
end Ex3
end Pu_cc
