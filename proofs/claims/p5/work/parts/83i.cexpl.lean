set_option maxRecDepth 10000
section Pu_ca
/-! The class's search for states: no call throws, and what comes is found again. -/
theorem jj_or : ∀ c : Fin 10, ∀ x : Fin 512, x.1 < 2 ^ c.1 → jor (x.1 : Int) (jshl 1 (c.1 : Int)) = ((x.1 + 2 ^ c.1 : Nat) : Int) := by decide +kernel
theorem jj_hi : ∀ k : Fin 10, ∀ x : Fin 512, x.1 < 2 ^ k.1 → jand (jshr (x.1 : Int) (k.1 : Int)) 1 = 0 := by decide +kernel
theorem jj_ex : ∀ x : Fin 1024, x.1 ≠ 0 → ∃ k : Fin 10, ¬ jand (jshr (x.1 : Int) (k.1 : Int)) 1 = 0 := by decide +kernel
theorem rg_jor (a b : Int) : rg (jor a b) := ⟨Int32.le_toInt _, Int32.toInt_le _⟩
theorem rg_jshl (a b : Int) : rg (jshl a b) := ⟨Int32.le_toInt _, Int32.toInt_le _⟩
/-- a bit is set -/
def bt (x : Int) (k : Nat) : Prop := ¬ jand (jshr x k) 1 = 0
/-- the game that is held, in the class -/
def CG1 (g : Nat) (M : fm_M) : Prop :=
  (g = 4 ∨ g = 143) ∧
  ((M 142 0).toNat = g) ∧
  (CB g M)
theorem CG1.gg {g : Nat} {M : fm_M} (h_ : CG1 g M) : g = 4 ∨ g = 143 := h_.1
theorem CG1.gm {g : Nat} {M : fm_M} (h_ : CG1 g M) : (M 142 0).toNat = g := h_.2.1
theorem CG1.cb {g : Nat} {M : fm_M} (h_ : CG1 g M) : CB g M := h_.2.2
/-- a set of commands -/
def bs (x : Int) (m : Nat) : Prop := 0 ≤ x ∧ x < ((2 ^ m : Nat) : Int)
theorem bs_rg {x : Int} {m : Nat} (h : bs x m) (hm : m ≤ 10) : rg x := by
  have : (2 : Nat) ^ m ≤ 2 ^ 10 := Nat.pow_le_pow_right (by decide) hm
  have h10 : (2 : Nat) ^ 10 = 1024 := by decide
  unfold bs at h
  exact rg_small (by omega)
theorem bs_or {x : Int} {c : Nat} (h : bs x c) (hc : c < 10) : bs (jor x (jshl 1 c)) (c + 1) := by
  unfold bs at *
  have h9 : (2 : Nat) ^ c ≤ 2 ^ 9 := Nat.pow_le_pow_right (by decide) (by omega)
  have h10 : (2 : Nat) ^ 9 = 512 := by decide
  have := jj_or ⟨c, hc⟩ ⟨x.toNat, by omega⟩ (by show x.toNat < 2 ^ c; omega)
  simp only at this
  rw [show ((x.toNat : Nat) : Int) = x by omega] at this
  rw [this]
  have h2 : (2 : Nat) ^ (c + 1) = 2 ^ c + 2 ^ c := by rw [Nat.pow_succ]; omega
  rw [h2]
  omega
theorem bs_mono {x : Int} {c m : Nat} (h : bs x c) (hm : c ≤ m) : bs x m := by
  unfold bs at *
  have : (2 : Nat) ^ c ≤ 2 ^ m := Nat.pow_le_pow_right (by decide) hm
  omega
theorem bs_bt {x : Int} {m k : Nat} (h : bs x m) (hm : m ≤ 10) (hk : k < 10) (hb : bt x k) : k < m := by
  apply Classical.byContradiction
  intro hne
  apply hb
  unfold bs at h
  have h1 : (2 : Nat) ^ m ≤ 2 ^ k := Nat.pow_le_pow_right (by decide) (by omega)
  have h9 : (2 : Nat) ^ k ≤ 2 ^ 9 := Nat.pow_le_pow_right (by decide) (by omega)
  have h10 : (2 : Nat) ^ 9 = 512 := by decide
  have := jj_hi ⟨k, hk⟩ ⟨x.toNat, by omega⟩ (by show x.toNat < 2 ^ k; omega)
  simp only at this
  rw [show ((x.toNat : Nat) : Int) = x by omega] at this
  exact this
theorem bs_ex {x : Int} {m : Nat} (h : bs x m) (hm : m ≤ 10) (h0 : x ≠ 0) : ∃ k, k < 10 ∧ bt x k := by
  have h1 := bs_mono h hm
  unfold bs at h1
  have h10 : (2 : Nat) ^ 10 = 1024 := by decide
  obtain ⟨k, hk⟩ := jj_ex ⟨x.toNat, by omega⟩ (by show x.toNat ≠ 0; omega)
  refine ⟨k.1, k.2, ?_⟩
  simp only at hk
  rw [show ((x.toNat : Nat) : Int) = x by omega] at hk
  exact hk
section Ex
variable {g : Nat} {post : Int → fm_M → Prop} {thr : String → fm_M → Prop}
/-- the number of commands -/
theorem CG1.cnt {M : fm_M} (h : CG1 g M) : ∃ m : Nat, M g 4 = m ∧ m ≤ 10 := by
  have := h.cb.g' (o := 0) (s := 4) (t := 5) (a := 0) (b := 10) (by decide) (x := 4) (by omega) (by omega)
  exact ⟨(M g 4).toNat, by simp only [Nat.add_zero] at this; omega, by simp only [Nat.add_zero] at this; omega⟩
theorem x_hasBit {M : fm_M} {x : Int} {k : Nat} (h0 : ¬ bt x k → post 0 M) (h1 : bt x k → post 1 M) : wp_CG_hasBit M x k post thr := ⟨rg_jand _ _, fun h => h0 (fun hh => hh h), fun h => h1 h⟩
/-- what a sum of the class comes to -/
def cs (M : fm_M) (k0 a k2 : Nat) : Int := jwi (M k0 (a + 3) + M k0 a * M k2 0 + M k0 (a + 1) * M k2 1 + M k0 (a + 2) * M k2 2)
theorem x_sumAt {M : fm_M} {k0 a k2 : Nat} (t0 : k0 < nC ∧ TC k0 = .inr (0, fm_sz k0)) (ha : a + 3 < fm_sz k0) (t2 : k2 < nC ∧ TC k2 = .inr (0, fm_sz k2)) (h3 : 3 ≤ fm_sz k2) (hp : post (cs M k0 a k2) M) : wp_CG_sumAt M k0 a k2 post thr := by
  unfold wp_CG_sumAt
  rw [show ((a : Int) + 3).toNat = a + 3 by omega]
  refine ⟨t0, by omega, ⟨fun M' v3 v4 => M' = M ∧ ∃ v : Nat, v4 = v ∧ v ≤ 3 ∧ v3 = M k0 (a + 3) + sm v (fun x => M k0 (a + x) * M k2 x), fun _ _ v4 => (3 - v4).toNat, ⟨rfl, 0, rfl, by omega, by simp [sm]⟩, ?_⟩⟩
  rintro M' v3 v4 ⟨rfl, v, rfl, hv, rfl⟩
  unfold C_CG_sumAt_9
  refine ⟨rg_small (by omega), fun h => ?_, fun h => ⟨t0, by omega, t2, by omega, ⟨rfl, v + 1, by omega, by omega, ?_⟩, by dsimp only; omega⟩⟩
  · have : v = 3 := by omega
    subst this
    have e : M' k0 (a + 3) + sm 3 (fun x => M' k0 (a + x) * M' k2 x) = M' k0 (a + 3) + M' k0 a * M' k2 0 + M' k0 (a + 1) * M' k2 1 + M' k0 (a + 2) * M' k2 2 := by
      simp only [sm, Nat.add_zero]; omega
    rw [e]; exact hp
  · simp only [sm]
    rw [show ((a : Int) + (v : Int)).toNat = a + v by omega, Int.toNat_natCast]; omega
theorem x_said {M : fm_M} {s x : Int} (hs : rg s) (hx : rg x) (h0 : post 0 M) (h1 : post 1 M) : wp_Gu_isAsSaid M s x post thr := by
  have b : ∀ z : Int, (z = 0 ∨ z = 1) → B_Gu_isAsSaid_41 s x post thr M z := fun z hz => ⟨hs, fun _ => ⟨rg_small (by omega), rg_small (by omega), fun _ => h0, fun _ => h1⟩, fun _ => ⟨rg_small (by omega), rg_small (by omega), fun _ => h0, fun _ => h1⟩⟩
  exact ⟨hs, fun _ => ⟨fun _ => ⟨hx, fun _ => b 0 (Or.inl rfl), fun _ => b 1 (Or.inr rfl)⟩, fun _ => ⟨hx, fun _ => h0, fun _ => h1⟩⟩, fun _ => ⟨hx, fun _ => h0, fun _ => h1⟩⟩
/-- rows of three numbers -/
def c3 (k : Nat) : Prop := (k < nC ∧ TC k = .inr (0, fm_sz k)) ∧ 3 ≤ fm_sz k
theorem x_holds {M : fm_M} (h : CG1 g M) {o k1 : Nat} (G : GuOk g o) (hs : ∀ t : Nat, t < 4 → 0 ≤ M (g + o + 2) t ∧ M (g + o + 2) t ≤ 65535) (h1 : c3 k1) (k0 : post 0 M) (k1' : post 1 M) : wp_Gu_holds M (g + o) k1 post thr := by
  have hsz : fm_sz (g + o + 1) = 16 := by unfold fm_sz; rw [G.t1.2]
  have hc := h.cb.g' G.m0 (x := 2) (by omega) (by omega)
  refine ⟨fun M' v2 => M' = M ∧ ∃ t : Nat, v2 = t ∧ t ≤ 4, fun _ v2 => (4 - v2).toNat, ⟨rfl, 0, rfl, by omega⟩, ?_⟩
  rintro M' v2 ⟨rfl, t, rfl, ht⟩
  unfold C_Gu_holds_2
  refine ⟨G.t0, rg_small (by omega), rg_small (by omega), fun _ => k1', fun h4 => ⟨G.t2, by omega, ?_⟩⟩
  rw [show ((t : Int) * 4) = ((4 * t : Nat) : Int) by omega, Int.toNat_natCast]
  have := hs t (by omega)
  exact x_sumAt ⟨G.t1.1, by rw [hsz]; exact G.t1.2⟩ (by rw [hsz]; omega) h1.1 h1.2 (x_said (rg_small (by omega)) (jwi_rg _) ⟨rg_small (by decide), fun h => absurd rfl h, fun _ => k0⟩ ⟨rg_small (by decide), fun _ => ⟨⟨rfl, t + 1, by omega, by omega⟩, by dsimp only; omega⟩, fun h => absurd h (by decide)⟩)
theorem sgC : ∀ c : Fin 10, (10 + 13 * c.1, 0, 4, (0 : Int), (65535 : Int)) ∈ CBt := by decide
theorem x_enabledIn {M : fm_M} (h : CG1 g M) {k1 : Nat} (h1 : c3 k1) {m : Nat} (hm : M g 4 = m) (hm10 : m ≤ 10) (hp : ∀ r, bs r m → post r M) : wp_Gm_enabledIn M g k1 post thr := by
  have t := tcG h.gg
  refine ⟨fun M' v2 v3 => M' = M ∧ ∃ c : Nat, v3 = c ∧ c ≤ m ∧ bs v2 c, fun _ _ v3 => (10 - v3).toNat, ⟨rfl, 0, rfl, by omega, by unfold bs; decide⟩, ?_⟩
  rintro M' v2 v3 ⟨rfl, c, rfl, hc, hb⟩
  unfold C_Gm_enabledIn_4
  rw [hm, Int.toNat_natCast]
  refine ⟨t.1, rg_small (by omega), rg_small (by omega), fun h4 => hp v2 (bs_mono hb (by omega)), fun h4 => ⟨t.2.2.2, by omega, ?_⟩⟩
  have C := cmOk h.gg (c := c) (by omega)
  have G := guC h.gg (c := c) (by omega)
  rw [show g + 3 + 4 + 13 * c = g + (7 + 13 * c) by omega, show g + (7 + 13 * c) + 1 = g + (8 + 13 * c) by omega]
  refine ⟨C.t0, G.t0, x_holds h G (fun t ht => ?_) h1 ⟨rg_small (by decide), fun _ => ⟨⟨rfl, c + 1, by omega, by omega, bs_mono hb (by omega)⟩, by dsimp only; omega⟩, fun h => absurd rfl h⟩ ⟨rg_small (by decide), fun h => absurd h (by decide), fun _ => ⟨⟨rfl, c + 1, by omega, by omega, bs_or hb (by omega)⟩, by dsimp only; omega⟩⟩⟩
  have := h.cb.g' (sgC ⟨c, by omega⟩) (x := t) (by omega) ht
  rw [show g + (8 + 13 * c) + 2 = g + (10 + 13 * c) by omega]; exact this
theorem x_commandsOfMax {M : fm_M} (h : CG1 g M) {m : Nat} (hm : M g 4 = m) (hm10 : m ≤ 10) (hp : ∀ r, post r M) : wp_Gm_commandsOfMax M g post thr := by
  have t := tcG h.gg
  refine ⟨fun M' v1 v2 => M' = M ∧ ∃ c : Nat, v2 = c ∧ c ≤ m, fun _ _ v2 => (10 - v2).toNat, ⟨rfl, 0, rfl, by omega⟩, ?_⟩
  rintro M' v1 v2 ⟨rfl, c, rfl, hc⟩
  unfold C_Gm_commandsOfMax_4
  rw [hm, Int.toNat_natCast]
  refine ⟨t.1, rg_small (by omega), rg_small (by omega), fun h4 => hp v1, fun h4 => ⟨t.2.2.2, by omega, ?_⟩⟩
  have C := cmOk h.gg (c := c) (by omega)
  rw [show g + 3 + 4 + 13 * c = g + (7 + 13 * c) by omega]
  have hb : (7 + 13 * c, 2, 3, (0 : Int), (1 : Int)) ∈ CBt := (show ∀ c : Fin 10, (7 + 13 * c.1, 2, 3, (0 : Int), (1 : Int)) ∈ CBt by decide) ⟨c, by omega⟩
  have := h.cb.g' hb (x := 2) (by omega) (by omega)
  exact ⟨C.t0, rg_small (by omega), fun _ => ⟨⟨rfl, c + 1, by omega, by omega⟩, by dsimp only; omega⟩, fun _ => ⟨⟨rfl, c + 1, by omega, by omega⟩, by dsimp only; omega⟩⟩
/-- what the search keeps to -/
def FB (m : Nat) (M : fm_M) : Prop :=
  (0 ≤ M 142 1 ∧ M 142 1 ≤ 8) ∧
  (0 ≤ M 142 4 ∧ M 142 4 ≤ 8) ∧
  (∀ i v, i < 8 → v < 3 → 0 ≤ M (281 + i) v ∧ M (281 + i) v ≤ 9) ∧
  (∀ v, v < 3 → 0 ≤ M 308 v ∧ M 308 v ≤ 9) ∧
  (∀ i : Nat, (i : Int) < M 142 1 → bs (M 289 i) m) ∧
  (rg (M 142 3))
theorem FB.cnt {m : Nat} {M : fm_M} (h_ : FB m M) : 0 ≤ M 142 1 ∧ M 142 1 ≤ 8 := h_.1
theorem FB.lk {m : Nat} {M : fm_M} (h_ : FB m M) : 0 ≤ M 142 4 ∧ M 142 4 ≤ 8 := h_.2.1
theorem FB.val {m : Nat} {M : fm_M} (h_ : FB m M) : ∀ i v, i < 8 → v < 3 → 0 ≤ M (281 + i) v ∧ M (281 + i) v ≤ 9 := h_.2.2.1
theorem FB.com {m : Nat} {M : fm_M} (h_ : FB m M) : ∀ v, v < 3 → 0 ≤ M 308 v ∧ M 308 v ≤ 9 := h_.2.2.2.1
theorem FB.en {m : Nat} {M : fm_M} (h_ : FB m M) : ∀ i : Nat, (i : Int) < M 142 1 → bs (M 289 i) m := h_.2.2.2.2.1
theorem FB.tg {m : Nat} {M : fm_M} (h_ : FB m M) : rg (M 142 3) := h_.2.2.2.2.2
/-- what the search may change -/
def ef (M M' : fm_M) : Prop :=
  (∀ a, a ≠ 142 → a ≠ 289 → a ≠ 308 → ¬ (281 ≤ a ∧ a < 289) → M' a = M a) ∧
  (M' 142 0 = M 142 0) ∧
  (M 142 1 ≤ M' 142 1) ∧
  (∀ i : Nat, (i : Int) < M 142 1 → M' (281 + i) = M (281 + i) ∧ M' 289 i = M 289 i) ∧
  (M' 142 4 = M 142 4)
theorem ef.cell {M M' : fm_M} (h_ : ef M M') : ∀ a, a ≠ 142 → a ≠ 289 → a ≠ 308 → ¬ (281 ≤ a ∧ a < 289) → M' a = M a := h_.1
theorem ef.gm {M M' : fm_M} (h_ : ef M M') : M' 142 0 = M 142 0 := h_.2.1
theorem ef.mo {M M' : fm_M} (h_ : ef M M') : M 142 1 ≤ M' 142 1 := h_.2.2.1
theorem ef.val {M M' : fm_M} (h_ : ef M M') : ∀ i : Nat, (i : Int) < M 142 1 → M' (281 + i) = M (281 + i) ∧ M' 289 i = M 289 i := h_.2.2.2.1
theorem ef.lk {M M' : fm_M} (h_ : ef M M') : M' 142 4 = M 142 4 := h_.2.2.2.2
theorem ef.refl {M : fm_M} : ef M M := ⟨fun _ _ _ _ _ => rfl, rfl, Int.le_refl _, fun _ _ => ⟨rfl, rfl⟩, rfl⟩
theorem ef.tr {M M1 M2 : fm_M} (h : ef M M1) (h2 : ef M1 M2) : ef M M2 := ⟨fun a b c d e => by rw [h2.cell a b c d e, h.cell a b c d e], by rw [h2.gm, h.gm], Int.le_trans h.mo h2.mo, fun i hi => by
  have := h.mo
  exact ⟨by rw [(h2.val i (by omega)).1, (h.val i hi).1], by rw [(h2.val i (by omega)).2, (h.val i hi).2]⟩, by rw [h2.lk, h.lk]⟩
theorem CG1.ef {M M' : fm_M} (h : CG1 g M) (f : ef M M') : CG1 g M' := ⟨h.gg, by rw [f.gm]; exact h.gm, fun e he x h1 h2 => by
  have := CBt_lt e he
  have hg := h.gg
  rw [f.cell (g + e.1) (by omega) (by omega) (by omega) (by omega)]; exact h.cb e he x h1 h2⟩
theorem ef.gcnt {M M' : fm_M} (f : ef M M') (hg : g = 4 ∨ g = 143) : M' g 4 = M g 4 := by rw [f.cell g (by omega) (by omega) (by omega) (by omega)]
theorem c3_val : ∀ i : Fin 8, (281 + i.1 < nC ∧ TC (281 + i.1) = .inr (0, 3)) := by decide
theorem c3_of {k : Nat} (h : k < nC ∧ TC k = .inr (0, 3)) : c3 k := by
  have : fm_sz k = 3 := by unfold fm_sz; rw [h.2]
  exact ⟨⟨h.1, by rw [this]; exact h.2⟩, by omega⟩
theorem c3_308 : c3 308 := c3_of (by decide)
theorem x_add {M : fm_M} (h : CG1 g M) {m : Nat} (hm : M g 4 = m) (hm10 : m ≤ 10) (F : FB m M) (hlt : M 142 1 < 8) {k1 : Nat} (hk : c3 k1) (hk9 : ∀ v, v < 3 → 0 ≤ M k1 v ∧ M k1 v ≤ 9) (hk0 : k1 ≠ 142 ∧ k1 ≠ 289 ∧ ¬ (281 ≤ k1 ∧ k1 < 289))
    (hp : ∀ M', ef M M' → FB m M' → M' 142 1 = M 142 1 + 1 → (∀ v, v < 3 → M' (281 + (M 142 1).toNat) v = M k1 v) → post 0 M') : wp_Fo_add M k1 post thr := by
  have hc := F.cnt
  obtain ⟨n, hn⟩ : ∃ n : Nat, M 142 1 = n := ⟨(M 142 1).toNat, by omega⟩
  have hg := h.gg
  intro M1 e1
  rw [hn, Int.toNat_natCast, show 280 + 1 + n = 281 + n by omega]
  have T := c3_val ⟨n, by omega⟩
  refine ⟨by omega, hk.1, T, hk.2, fun M2 e2 => ?_⟩
  have a1 : ∀ a, a ≠ 142 → M1 a = M a := fun a ha => by rw [e1]; exact fu_off _ _ _ ha
  have a2 : ∀ a, a ≠ 281 + n → M2 a = M1 a := fun a ha => by
    rw [e2]; funext b; unfold fm_cp; rw [if_neg (fun hh => ha hh.1)]
  have v2 : ∀ v, v < 3 → M2 (281 + n) v = M k1 v := fun v hv => by
    rw [e2]; unfold fm_cp; rw [if_pos ⟨rfl, hv⟩, a1 k1 hk0.1]
  have s2 : ∀ b, b ≠ 1 → M2 142 b = M 142 b := fun b hb => by rw [a2 142 (by omega), e1, fu_at, if_neg hb]
  have n2 : M2 142 1 = (n : Int) + 1 := by rw [a2 142 (by omega), e1, fu_at, if_pos rfl, hn]
  have cb2 : CB g M2 := fun e he x h1 h2 => by
    have := CBt_lt e he
    rw [a2 _ (by omega), a1 _ (by omega)]; exact h.cb e he x h1 h2
  have g2 : CG1 g M2 := ⟨hg, by rw [s2 0 (by decide)]; exact h.gm, cb2⟩
  have m2 : M2 g 4 = m := by rw [a2 g (by omega), a1 g (by omega)]; exact hm
  rw [g2.gm]
  -- the end
  have fin : ∀ (M3 : fm_M) (z : Int), (∀ a, a ≠ 142 → M3 a = M2 a) → (∀ b, b ≠ 3 → M3 142 b = M2 142 b) → rg (M3 142 3) → bs z m → ∀ M4, M4 = fm_u M3 289 n z → post 0 M4 := by
    intro M3 z a3 b3 r3 hz M4 e4
    have a4 : ∀ a, a ≠ 289 → M4 a = M3 a := fun a ha => by rw [e4]; exact fu_off _ _ _ ha
    have n4 : M4 142 1 = (n : Int) + 1 := by rw [a4 142 (by decide), b3 1 (by decide), n2]
    have v4 : ∀ i, i < 8 → M4 (281 + i) = M2 (281 + i) := fun i hi => by rw [a4 _ (by omega), a3 _ (by omega)]
    refine hp M4 ⟨fun a h1 h2 h3 h4 => ?_, ?_, by omega, fun i hi => ⟨?_, ?_⟩, ?_⟩ ⟨by omega, ?_, fun i v hi hv => ?_, fun v hv => ?_, fun i hi => ?_, by rw [a4 142 (by decide)]; exact r3⟩ (by omega) (fun v hv => ?_)
    · rw [a4 a h2, a3 a h1, a2 a (by omega), a1 a h1]
    · rw [a4 142 (by decide), b3 0 (by decide), s2 0 (by decide)]
    · rw [v4 i (by omega), a2 _ (by omega), a1 _ (by omega)]
    · rw [e4, fu_at, if_neg (by omega), a3 289 (by decide), a2 289 (by omega), a1 289 (by decide)]
    · rw [a4 142 (by decide), b3 4 (by decide), s2 4 (by decide)]
    · rw [a4 142 (by decide), b3 4 (by decide), s2 4 (by decide)]; exact F.lk
    · rw [v4 i hi]
      by_cases e : i = n
      · rw [e, v2 v hv]; exact hk9 v hv
      · rw [a2 _ (by omega), a1 _ (by omega)]; exact F.val i v hi hv
    · rw [a4 308 (by decide), a3 308 (by decide), a2 308 (by omega), a1 308 (by decide)]; exact F.com v hv
    · rw [e4, fu_at]
      by_cases e : i = n
      · rw [if_pos e]; exact hz
      · rw [if_neg e, a3 289 (by decide), a2 289 (by omega), a1 289 (by decide)]; exact F.en i (by omega)
    · rw [hn, Int.toNat_natCast, v4 n (by omega)]; exact v2 v hv
  have G := guT hg
  refine ⟨(tcG hg).1, G.t0, x_holds g2 G (fun t ht => ?_) hk ⟨rg_small (by decide), fun _ => ?_, fun h => absurd rfl h⟩ ⟨rg_small (by decide), fun h => absurd h (by decide), fun _ M3 e3 M4 e4 => ?_⟩⟩
  · have := g2.cb.g' (o := 6) (s := 0) (t := 4) (a := 0) (b := 65535) (by decide) (x := t) (by omega) ht
    rw [show g + 4 + 2 = g + 6 by omega]; exact this
  · rw [g2.gm]
    exact ⟨(tcG hg).1, x_enabledIn g2 hk m2 hm10 (fun r hr M4 e4 => fin M2 r (fun _ _ => rfl) (fun _ _ => rfl) (by rw [s2 3 (by decide)]; exact F.tg) hr M4 e4)⟩
  · exact fin M3 0 (fun a ha => by rw [e3]; exact fu_off _ _ _ ha) (fun b hb => by rw [e3, fu_at, if_neg hb]) (by rw [e3, fu_at, if_pos rfl]; exact rg_jor _ _) (by
      have : 0 < (2 : Nat) ^ m := Nat.pow_pos (by decide)
      unfold bs; omega) M4 e4
/-- where a branch leads -/
def fol (M : fm_M) (g k1 k2 v : Nat) : Int := jmax 0 (jmin (M (g + 1) v) (cs M (k2 + 1) (4 * v) k1))
theorem x_follow {M : fm_M} (h : CG1 g M) {k1 o : Nat} (hk : c3 k1) (hk1 : k1 ≠ 308) (B : BrOk g o) (hp : ∀ M', ex1 308 M M' → (∀ v, v < 3 → M' 308 v = fol M g k1 (g + o) v) → post 0 M') : wp_Gm_follow M g k1 (g + o) 308 post thr := by
  have hg := h.gg
  have t := tcG hg
  have hlo := B.lo
  have hsz : fm_sz (g + o + 1) = 12 := by unfold fm_sz; rw [B.t1.2]
  refine ⟨fun M' v4 => ∃ v : Nat, v4 = v ∧ v ≤ 3 ∧ ex1 308 M M' ∧ ∀ x, x < v → M' 308 x = fol M g k1 (g + o) x, fun _ v4 => (3 - v4).toNat, ⟨0, rfl, by omega, ex1.rfl, fun x hx => by omega⟩, ?_⟩
  rintro M1 v4 ⟨v, rfl, hv, hx, hf⟩
  unfold C_Gm_follow_3
  refine ⟨rg_small (by omega), fun h4 => hp M1 hx (fun x hx' => hf x (by omega)), fun h4 => ⟨B.t0, ?_⟩⟩
  rw [show ((v : Int) * 4) = ((4 * v : Nat) : Int) by omega]
  have ecs : cs M1 (g + o + 1) (4 * v) k1 = cs M (g + o + 1) (4 * v) k1 := by unfold cs; rw [hx (g + o + 1) (by omega), hx k1 hk1]
  refine x_sumAt ⟨B.t1.1, by rw [hsz]; exact B.t1.2⟩ (by rw [hsz]; omega) hk.1 hk.2 ?_
  rw [hx (g + 1) (by omega), ecs, Int.toNat_natCast]
  have hmo := h.cb.g' (o := 1) (s := 0) (t := 3) (a := 0) (b := 9) (by decide) (x := v) (by omega) (by omega)
  have hr : rg (cs M (g + o + 1) (4 * v) k1) := jwi_rg _
  refine ⟨t.1, t.2.1, by omega, rg_small (by omega), hr, ?_, c3_308.1, by have := c3_308.2; omega, fun M2 e2 => ⟨⟨v + 1, by omega, by omega, by rw [e2]; exact hx.u, fun x hx' => ?_⟩, by dsimp only; omega⟩⟩
  · unfold jmin; split
    · exact hr
    · exact rg_small (by omega)
  · rw [e2, fu_at]
    by_cases e : x = v
    · rw [if_pos e, e]; rfl
    · rw [if_neg e]; exact hf x (by omega)
theorem fol_rg {M : fm_M} (h : CG1 g M) (k1 k2 : Nat) {v : Nat} (hv : v < 3) : 0 ≤ fol M g k1 k2 v ∧ fol M g k1 k2 v ≤ 9 := by
  have hmo := h.cb.g' (o := 1) (s := 0) (t := 3) (a := 0) (b := 9) (by decide) (x := v) (by omega) hv
  unfold fol jmax jmin
  split <;> split <;> omega
theorem x_numberOf {M : fm_M} {m : Nat} (F : FB m M) (h0 : (∀ i : Nat, (i : Int) < M 142 1 → ∃ v, v < 3 ∧ M (281 + i) v ≠ M 308 v) → post (-1) M) (h1 : ∀ i : Nat, (i : Int) < M 142 1 → (∀ v, v < 3 → M (281 + i) v = M 308 v) → post i M) : wp_Fo_numberOf M 308 post thr := by
  have hc := F.cnt
  refine ⟨fun M' v2 => M' = M ∧ ∃ i : Nat, v2 = i ∧ (i : Int) ≤ M 142 1 ∧ ∀ j, j < i → ∃ v, v < 3 ∧ M (281 + j) v ≠ M 308 v, fun _ v2 => (M 142 1 - v2).toNat, ⟨rfl, 0, rfl, by omega, fun j hj => by omega⟩, ?_⟩
  rintro M' v2 ⟨rfl, i, rfl, hi, hd⟩
  unfold C_Fo_numberOf_2
  refine ⟨rg_small (by omega), rg_small (by omega), fun h4 => h0 (fun j hj => hd j (by omega)), fun h4 => ?_⟩
  refine ⟨fun M2 v2 v3 v4 => M2 = M' ∧ v2 = i ∧ ∃ v : Nat, v4 = v ∧ v ≤ 3 ∧ ((v3 = 1 ∧ ∀ x, x < v → M' (281 + i) x = M' 308 x) ∨ (v3 = 0 ∧ ∃ x, x < 3 ∧ M' (281 + i) x ≠ M' 308 x)), fun _ _ _ v4 => (3 - v4).toNat, ⟨rfl, rfl, 0, rfl, by omega, Or.inl ⟨rfl, fun x hx => by omega⟩⟩, ?_⟩
  rintro M2 v2 v3 v4 ⟨rfl, rfl, v, rfl, hv, hI⟩
  have hv3 : v3 = 0 ∨ v3 = 1 := by
    rcases hI with ⟨a, _⟩ | ⟨a, _⟩
    · exact Or.inr a
    · exact Or.inl a
  have rv : rg v3 := rg_small (by rcases hv3 with e | e <;> rw [e] <;> decide)
  unfold C_Fo_numberOf_15
  rw [Int.toNat_natCast, Int.toNat_natCast, show 280 + 1 + i = 281 + i by omega]
  refine ⟨rg_small (by omega), fun h5 => ⟨rv, fun hz => ⟨⟨rfl, i + 1, by omega, by omega, fun j hj => ?_⟩, by dsimp only; omega⟩, fun hz => ?_⟩, fun h5 => ⟨rv, fun hz => ⟨⟨rfl, rfl, v + 1, by omega, by omega, Or.inr ⟨rfl, ?_⟩⟩, by dsimp only; omega⟩, fun hz => ⟨by omega, c3_val ⟨i, by omega⟩, by omega, c3_308.1, by have := c3_308.2; omega, ?_⟩⟩⟩
  · by_cases e : j = i
    · subst e
      rcases hI with ⟨a, _⟩ | ⟨_, a⟩
      · rw [a] at hz; exact absurd hz (by decide)
      · exact a
    · exact hd j (by omega)
  · rcases hI with ⟨_, a⟩ | ⟨a, _⟩
    · exact h1 i (by omega) (fun x hx => a x (by omega))
    · exact absurd a hz
  · rcases hI with ⟨a, _⟩ | ⟨_, a⟩
    · rw [a] at hz; exact absurd hz (by decide)
    · exact a
  · have hall : ∀ x, x < v → M2 (281 + i) x = M2 308 x := by
      rcases hI with ⟨_, a⟩ | ⟨a, _⟩
      · exact a
      · exact absurd a hz
    have b1 := F.val i v (by omega) (by omega)
    have b2 := F.com v (by omega)
    refine ⟨rg_small (by omega), rg_small (by omega), fun hne => ⟨⟨rfl, rfl, v + 1, by omega, by omega, Or.inr ⟨rfl, v, by omega, hne⟩⟩, by dsimp only; omega⟩, fun heq => ⟨⟨rfl, rfl, v + 1, by omega, by omega, Or.inl ⟨rfl, fun x hx => ?_⟩⟩, by dsimp only; omega⟩⟩
    by_cases e : x = v
    · rw [e]; exact heq
    · exact hall x (by omega)
end Ex
end Pu_ca
section Pu_cb
section Ex2
variable {g : Nat} {post : Int → fm_M → Prop} {thr : String → fm_M → Prop}
/-- what comes of a branch has been found -/
def kwn (M : fm_M) (g i c b : Nat) : Prop := ∃ j : Nat, (j : Int) < M 142 1 ∧ ∀ v, v < 3 → M (281 + j) v = fol M g (281 + i) (g + (12 + 13 * c + 2 * b)) v
/-- all that comes of state i, up to command c and branch b -/
def kup (M : fm_M) (g i c b : Nat) : Prop := ∀ c' b', (c' < c ∨ (c' = c ∧ b' < b)) → (c' : Int) < M g 4 → bt (M 289 i) c' → (b' : Int) < M (g + (7 + 13 * c')) 3 → kwn M g i c' b'
theorem fol_ef {M M' : fm_M} (hg : g = 4 ∨ g = 143) (f : ef M M') {i : Nat} (hi : (i : Int) < M 142 1) {k2 : Nat} (hk : g ≤ k2 ∧ k2 + 1 < g + 137) (v : Nat) : fol M' g (281 + i) k2 v = fol M g (281 + i) k2 v := by
  unfold fol cs
  rw [f.cell (g + 1) (by omega) (by omega) (by omega) (by omega), f.cell (k2 + 1) (by omega) (by omega) (by omega) (by omega), (f.val i hi).1]
theorem kwn_ef {M M' : fm_M} (hg : g = 4 ∨ g = 143) (f : ef M M') (hc : 0 ≤ M 142 1 ∧ M 142 1 ≤ 8) {i c b : Nat} (hi : (i : Int) < M 142 1) (h9 : c < 10) (h3 : b < 4) (h : kwn M g i c b) : kwn M' g i c b := by
  obtain ⟨j, hj, hv⟩ := h
  have := f.mo
  refine ⟨j, by omega, fun v hv3 => ?_⟩
  rw [(f.val j hj).1, fol_ef hg f hi (by omega)]; exact hv v hv3
theorem kup_ef {M M' : fm_M} (h : CG1 g M) (f : ef M M') (hc : 0 ≤ M 142 1 ∧ M 142 1 ≤ 8) {i c b : Nat} (hi : (i : Int) < M 142 1) (hk : kup M g i c b) : kup M' g i c b := fun c' b' h1 h2 h3 h4 => by
  have hg := h.gg
  obtain ⟨m, hm, hm10⟩ := h.cnt
  rw [f.gcnt hg] at h2
  rw [(f.val i hi).2] at h3
  rw [f.cell _ (by omega) (by omega) (by omega) (by omega)] at h4
  have hb : (7 + 13 * c', 3, 4, (0 : Int), (4 : Int)) ∈ CBt := (show ∀ c : Fin 10, (7 + 13 * c.1, 3, 4, (0 : Int), (4 : Int)) ∈ CBt by decide) ⟨c', by omega⟩
  have := h.cb.g' hb (x := 3) (by omega) (by omega)
  exact kwn_ef hg f hc hi (by omega) (by omega) (hk c' b' h1 h2 h3 h4)
theorem ef_308 {M M' : fm_M} (h : ex1 308 M M') (hc : M 142 1 ≤ 8) : ef M M' := ⟨fun a _ _ h3 _ => h a h3, by rw [h 142 (by decide)], by rw [h 142 (by decide)]; exact Int.le_refl _, fun i hi => ⟨by rw [h _ (by omega)], by rw [h 289 (by decide)]⟩, by rw [h 142 (by decide)]⟩
theorem FB.com' {M M' : fm_M} {m : Nat} (F : FB m M) (hc : 0 ≤ M 142 1 ∧ M 142 1 ≤ 8) (h : ex1 308 M M') (hv : ∀ v, v < 3 → 0 ≤ M' 308 v ∧ M' 308 v ≤ 9) : FB m M' := ⟨by rw [h 142 (by decide)]; exact F.cnt, by rw [h 142 (by decide)]; exact F.lk, fun i v hi hv => by rw [h _ (by omega)]; exact F.val i v hi hv, hv, fun i hi => by
  rw [h 142 (by decide)] at hi
  rw [h 289 (by decide)]; exact F.en i hi, by rw [h 142 (by decide)]; exact F.tg⟩
theorem brC : ∀ c : Fin 10, (7 + 13 * c.1, 3, 4, (0 : Int), (4 : Int)) ∈ CBt := by decide
theorem x_findFrom {M : fm_M} (h : CG1 g M) {m : Nat} (hm : M g 4 = m) (hm10 : m ≤ 10) (F : FB m M) {i : Nat} (hi : (i : Int) < M 142 1)
    (h1 : ∀ M', ef M M' → FB m M' → (∀ c b : Nat, (c : Int) < M' g 4 → bt (M' 289 i) c → (b : Int) < M' (g + (7 + 13 * c)) 3 → kwn M' g i c b) → post 1 M') (h0 : ∀ M', ef M M' → FB m M' → post 0 M') : wp_Fo_findFrom M i post thr := by
  have hg := h.gg
  have t := tcG hg
  have hc := F.cnt
  refine ⟨fun M' v2 => ∃ c : Nat, v2 = c ∧ c ≤ m ∧ ef M M' ∧ FB m M' ∧ kup M' g i c 0, fun _ v2 => (10 - v2).toNat, ⟨0, rfl, by omega, ef.refl, F, fun c' b' hh => by omega⟩, ?_⟩
  rintro M1 v2 ⟨c, rfl, hcm, f1, F1, K1⟩
  have g1 := h.ef f1
  have m1 : M1 g 4 = m := by rw [f1.gcnt hg]; exact hm
  have mo1 := f1.mo
  have hc1 := F1.cnt
  unfold C_Fo_findFrom_2
  rw [g1.gm, m1, Int.toNat_natCast]
  refine ⟨t.1, rg_small (by omega), rg_small (by omega), fun h4 => h1 M1 f1 F1 (fun c' b' a1 a2 a3 => K1 c' b' (Or.inl (by omega)) a1 a2 a3), fun h4 => ⟨by omega, x_hasBit (fun hb => ⟨rg_small (by decide), fun _ => ⟨⟨c + 1, by omega, by omega, f1, F1, fun c' b' hh a1 a2 a3 => ?_⟩, by dsimp only; omega⟩, fun h => absurd rfl h⟩) (fun hb => ⟨rg_small (by decide), fun h => absurd h (by decide), fun _ => ?_⟩)⟩⟩
  · rcases hh with hh | ⟨_, hh⟩
    · by_cases e : c' = c
      · subst e; exact absurd a2 hb
      · exact K1 c' b' (Or.inl (by omega)) a1 a2 a3
    · omega
  · rw [g1.gm, Int.toNat_natCast, show g + 3 + 4 + 13 * c = g + (7 + 13 * c) by omega]
    refine ⟨t.1, t.2.2.2, by omega, ?_⟩
    have C := cmOk hg (c := c) (by omega)
    refine ⟨fun M' v2 c3 v4 => v2 = c ∧ c3 = g + (7 + 13 * c) ∧ ∃ b : Nat, v4 = b ∧ b ≤ 4 ∧ ef M M' ∧ FB m M' ∧ kup M' g i c b, fun _ _ _ v4 => (5 - v4).toNat, ⟨rfl, rfl, 0, rfl, by omega, f1, F1, K1⟩, ?_⟩
    rintro M2 v2 c3 v4 ⟨rfl, rfl, b, rfl, hb4, f2, F2, K2⟩
    have g2 := h.ef f2
    have mo2 := f2.mo
    have hc2 := F2.cnt
    have m2 : M2 g 4 = m := by rw [f2.gcnt hg]; exact hm
    have hbr : 0 ≤ M2 (g + (7 + 13 * c)) 3 ∧ M2 (g + (7 + 13 * c)) 3 ≤ 4 := g2.cb.g' (brC ⟨c, by omega⟩) (x := 3) (by omega) (by omega)
    unfold C_Fo_findFrom_39
    refine ⟨C.t0, rg_small (by omega), rg_small (by omega), fun h5 => ⟨⟨c + 1, by omega, by omega, f2, F2, fun c' b' hh a1 a2 a3 => ?_⟩, by dsimp only; omega⟩, fun h5 => ⟨by omega, C.t4, by omega, ?_⟩⟩
    · rcases hh with hh | ⟨_, hh⟩
      · by_cases e : c' = c
        · subst e; exact K2 c' b' (Or.inr ⟨rfl, by omega⟩) a1 a2 a3
        · exact K2 c' b' (Or.inl (by omega)) a1 a2 a3
      · omega
    · have B := brOk hg (c := c) (b := b) (by omega) (by omega)
      rw [g2.gm, Int.toNat_natCast, Int.toNat_natCast, show 280 + 1 + i = 281 + i by omega, show g + (7 + 13 * c) + 4 + 1 + 2 * b = g + (12 + 13 * c + 2 * b) by omega]
      refine ⟨t.1, x_follow g2 (c3_of (c3_val ⟨i, by omega⟩)) (by omega) B (fun M3 hx3 v3 => ?_)⟩
      have f23 := ef_308 hx3 hc2.2
      have F3 : FB m M3 := F2.com' hc2 hx3 (fun v hv => by rw [v3 v hv]; exact fol_rg g2 _ _ hv)
      have g3 := g2.ef f23
      have f3 := f2.tr f23
      have hc3 := F3.cnt
      have mo3 := f3.mo
      have fe : ∀ v, fol M3 g (281 + i) (g + (12 + 13 * c + 2 * b)) v = fol M2 g (281 + i) (g + (12 + 13 * c + 2 * b)) v := fun v => fol_ef hg f23 (by omega) (by omega) v
      have K3 := kup_ef g2 f23 hc2 (i := i) (by omega) K2
      -- one branch more is known
      have more : ∀ M4 : fm_M, ef M M4 → FB m M4 → kup M4 g i c b → kwn M4 g i c b → ((c : Int) = c ∧ g + (7 + 13 * c) = g + (7 + 13 * c) ∧ ∃ b_1 : Nat, ((b : Int) + 1) = b_1 ∧ b_1 ≤ 4 ∧ ef M M4 ∧ FB m M4 ∧ kup M4 g i c b_1) ∧ (5 - ((b : Int) + 1)).toNat < (5 - (b : Int)).toNat := fun M4 f4 F4 K4 hk4 => ⟨⟨rfl, rfl, b + 1, by omega, by omega, f4, F4, fun c' b' hh a1 a2 a3 => by
        rcases hh with hh | ⟨e, hh⟩
        · exact K4 c' b' (Or.inl hh) a1 a2 a3
        · by_cases e2 : b' = b
          · subst e; subst e2; exact hk4
          · exact K4 c' b' (Or.inr ⟨e, by omega⟩) a1 a2 a3⟩, by omega⟩
      refine x_numberOf F3 (fun hno => ⟨rg_small (by decide), fun h => absurd rfl h, fun _ => ⟨rg_small (by decide), fun h => absurd h (by decide), fun _ => ⟨rg_small (by omega), fun h8 => ⟨rg_small (by decide), fun h => absurd h (by decide), fun _ => ?_⟩, fun h8 => h0 M3 f3 F3⟩⟩⟩) (fun j hj hv => ⟨rg_small (by omega), fun _ => ⟨rg_small (by decide), fun _ => ⟨rg_small (by decide), fun _ => more M3 f3 F3 K3 ⟨j, hj, fun v hv3 => by rw [hv v hv3, v3 v hv3, fe]⟩, fun h => absurd rfl h⟩, fun h => absurd rfl h⟩, fun h => by omega⟩)
      refine x_add g3 (by rw [f23.gcnt hg]; exact m2) hm10 F3 (by omega) c3_308 F3.com (by decide) (fun M4 f4 F4 n4 v4 => ?_)
      refine more M4 (f3.tr f4) F4 (kup_ef g3 f4 hc3 (by omega) K3) ⟨(M3 142 1).toNat, by omega, fun v hv => ?_⟩
      rw [v4 v hv, v3 v hv, fol_ef hg f4 (by omega) (by omega), fe]
/-- all that comes of the states is found -/
def kall (M : fm_M) (g : Nat) (n : Int) : Prop := ∀ i c b : Nat, (i : Int) < n → (c : Int) < M g 4 → bt (M 289 i) c → (b : Int) < M (g + (7 + 13 * c)) 3 → kwn M g i c b
/-- what solving may change in the search's object, and nothing of the games -/
def ef2 (M M' : fm_M) : Prop :=
  (∀ a, a ≠ 142 → a ≠ 289 → a ≠ 308 → ¬ (281 ≤ a ∧ a < 289) → M' a = M a) ∧
  (M' 142 0 = M 142 0)
theorem ef2.cell {M M' : fm_M} (h_ : ef2 M M') : ∀ a, a ≠ 142 → a ≠ 289 → a ≠ 308 → ¬ (281 ≤ a ∧ a < 289) → M' a = M a := h_.1
theorem ef2.gm {M M' : fm_M} (h_ : ef2 M M') : M' 142 0 = M 142 0 := h_.2
theorem ef.e2 {M M' : fm_M} (f : ef M M') : ef2 M M' := ⟨f.cell, f.gm⟩
theorem ef2.tr {M M1 M2 : fm_M} (h : ef2 M M1) (h2 : ef2 M1 M2) : ef2 M M2 := ⟨fun a b c d e => by rw [h2.cell a b c d e, h.cell a b c d e], by rw [h2.gm, h.gm]⟩
theorem CG1.e2 {M M' : fm_M} (h : CG1 g M) (f : ef2 M M') : CG1 g M' := ⟨h.gg, by rw [f.gm]; exact h.gm, fun e he x h1 h2 => by
  have := CBt_lt e he
  have hg := h.gg
  rw [f.cell (g + e.1) (by omega) (by omega) (by omega) (by omega)]; exact h.cb e he x h1 h2⟩
theorem x_isOfMax {M : fm_M} {m : Nat} (F : FB m M) {i : Nat} (hi : i < 8) (h0 : post 0 M) (h1 : (i : Int) < M 142 4 → post 1 M) : wp_Fo_isOfMax M i post thr := by
  have := F.lk
  unfold wp_Fo_isOfMax
  rw [Int.toNat_natCast]
  exact ⟨rg_small (by omega), rg_small (by omega), fun _ => h0, fun h => ⟨by omega, rg_jand _ _, fun _ => h0, fun _ => h1 (by omega)⟩⟩
theorem x_explore {M : fm_M} (h : CG1 g M) {m : Nat} (hm : M g 4 = m) (hm10 : m ≤ 10) (hv : ∀ i v, i < 8 → v < 3 → 0 ≤ M (281 + i) v ∧ M (281 + i) v ≤ 9) (hco : ∀ v, v < 3 → 0 ≤ M 308 v ∧ M 308 v ≤ 9)
    (hp : ∀ r M', ef2 M M' → FB m M' → (rg r) → (0 < r → M' 142 4 = M' 142 1 ∧ kall M' g (M' 142 1)) → post r M') : wp_Fo_explore M post thr := by
  have hg := h.gg
  have t := tcG hg
  intro M1 e1 M2 e2 M3 e3 M4 e4
  have a4 : ∀ a, a ≠ 142 → M4 a = M a := fun a ha => by rw [e4, fu_off _ _ _ ha, e3, fu_off _ _ _ ha, e2, fu_off _ _ _ ha, e1, fu_off _ _ _ ha]
  have z0 : M4 142 0 = M 142 0 := by rw [e4, fu_at, if_neg (by decide), e3, fu_at, if_neg (by decide), e2, fu_at, if_neg (by decide), e1, fu_at, if_neg (by decide)]
  have z1 : M4 142 1 = 0 := by rw [e4, fu_at, if_neg (by decide), e3, fu_at, if_neg (by decide), e2, fu_at, if_neg (by decide), e1, fu_at, if_pos rfl]
  have z3 : M4 142 3 = 0 := by rw [e4, fu_at, if_neg (by decide), e3, fu_at, if_pos rfl]
  have z4 : M4 142 4 = 0 := by rw [e4, fu_at, if_neg (by decide), e3, fu_at, if_neg (by decide), e2, fu_at, if_pos rfl]
  have f4 : ef2 M M4 := ⟨fun a h1 _ _ _ => a4 a h1, z0⟩
  have g4 := h.e2 f4
  have m4 : M4 g 4 = m := by rw [a4 g (by omega)]; exact hm
  rw [g4.gm]
  refine ⟨t.1, x_commandsOfMax g4 m4 hm10 (fun r M5 e5 => ?_)⟩
  have a5 : ∀ a, a ≠ 142 → M5 a = M4 a := fun a ha => by rw [e5]; exact fu_off _ _ _ ha
  have b5 : ∀ b, b ≠ 5 → M5 142 b = M4 142 b := fun b hb => by rw [e5, fu_at, if_neg hb]
  have f5 : ef2 M M5 := f4.tr ⟨fun a h1 _ _ _ => a5 a h1, b5 0 (by decide)⟩
  have g5 := h.e2 f5
  have m5 : M5 g 4 = m := by rw [a5 g (by omega)]; exact m4
  have F5 : FB m M5 := ⟨by rw [b5 1 (by decide), z1]; omega, by rw [b5 4 (by decide), z4]; omega, fun i v hi hv3 => by rw [a5 _ (by omega), a4 _ (by omega)]; exact hv i v hi hv3, fun v hv3 => by rw [a5 308 (by decide), a4 308 (by decide)]; exact hco v hv3, fun i hi => by rw [b5 1 (by decide), z1] at hi; omega, by rw [b5 3 (by decide), z3]; exact rg_small (by decide)⟩
  rw [g5.gm]
  refine ⟨t.1, x_add g5 m5 hm10 F5 (by rw [b5 1 (by decide), z1]; decide) (c3_of t.2.2.1) (fun v hv3 => g5.cb.g' (o := 2) (s := 0) (t := 3) (a := 0) (b := 9) (by decide) (by omega) hv3) (by omega) (fun M6 f6 F6 n6 v6 => ?_)⟩
  have l6 : M6 142 4 = 0 := by rw [f6.lk, b5 4 (by decide), z4]
  have n61 : M6 142 1 = 1 := by rw [n6, b5 1 (by decide), z1]; rfl
  refine ⟨fun M' v1 => ∃ i : Nat, v1 = i ∧ (i : Int) ≤ M' 142 1 ∧ ef2 M M' ∧ FB m M' ∧ M' 142 4 = i ∧ kall M' g i ∧ 1 ≤ M' 142 1, fun _ v1 => (8 - v1).toNat, ⟨0, rfl, by omega, f5.tr f6.e2, F6, l6, fun i c b hi => by omega, by omega⟩, ?_⟩
  rintro M7 v1 ⟨i, rfl, hi, f7, F7, l7, K7, p7⟩
  have hc7 := F7.cnt
  have g7 := h.e2 f7
  have m7 : M7 g 4 = m := by rw [f7.cell g (by omega) (by omega) (by omega) (by omega)]; exact hm
  have fin : (M7 142 1) ≤ (i : Int) → post (M7 142 1) M7 := fun h8 => hp _ M7 f7 F7 (rg_small (by omega)) (fun _ => ⟨by omega, by rw [show M7 142 1 = i by omega]; exact K7⟩)
  unfold C_Fo_explore_28
  refine ⟨rg_small (by omega), fun h8 => fin (by omega), fun h8 => ⟨rg_small (by omega), fin, fun h9 M8 e8 => ?_⟩⟩
  have a8 : ∀ a, a ≠ 142 → M8 a = M7 a := fun a ha => by rw [e8]; exact fu_off _ _ _ ha
  have b8 : ∀ b, b ≠ 4 → M8 142 b = M7 142 b := fun b hb => by rw [e8, fu_at, if_neg hb]
  have l8 : M8 142 4 = (i : Int) + 1 := by rw [e8, fu_at, if_pos rfl, l7]
  have f8 : ef2 M M8 := f7.tr ⟨fun a h1 _ _ _ => a8 a h1, b8 0 (by decide)⟩
  have F8 : FB m M8 := ⟨by rw [b8 1 (by decide)]; exact hc7, by omega, fun i v hi hv3 => by rw [a8 _ (by omega)]; exact F7.val i v hi hv3, fun v hv3 => by rw [a8 308 (by decide)]; exact F7.com v hv3, fun i hi => by
    rw [b8 1 (by decide)] at hi
    rw [a8 289 (by decide)]; exact F7.en i hi, by rw [b8 3 (by decide)]; exact F7.tg⟩
  have g8 := h.e2 f8
  have m8 : M8 g 4 = m := by rw [a8 g (by omega)]; exact m7
  have K8 : kall M8 g i := fun i' c b a1 a2 a3 a4' => by
    rw [a8 g (by omega)] at a2
    rw [a8 289 (by decide)] at a3
    rw [a8 _ (by omega)] at a4'
    have hbr : 0 ≤ M7 (g + (7 + 13 * c)) 3 ∧ M7 (g + (7 + 13 * c)) 3 ≤ 4 := g7.cb.g' (brC ⟨c, by omega⟩) (x := 3) (by omega) (by omega)
    obtain ⟨j, hj, hv⟩ := K7 i' c b a1 a2 a3 a4'
    refine ⟨j, by rw [b8 1 (by decide)]; exact hj, fun v hv3 => ?_⟩
    unfold fol cs
    rw [a8 _ (by omega), a8 (g + 1) (by omega), a8 _ (by omega), a8 _ (by omega)]; exact hv v hv3
  have look : B_Fo_explore_84 post thr (fun M' v1' => (∃ i : Nat, v1' = i ∧ (i : Int) ≤ M' 142 1 ∧ ef2 M M' ∧ FB m M' ∧ M' 142 4 = i ∧ kall M' g i ∧ 1 ≤ M' 142 1) ∧ (8 - v1').toNat < (8 - (i : Int)).toNat) M8 i := by
    refine x_findFrom g8 m8 hm10 F8 (by rw [b8 1 (by decide)]; omega) (fun M9 f9 F9 K9 => ⟨rg_small (by decide), fun _ => ⟨⟨i + 1, by omega, ?_, f8.tr f9.e2, F9, ?_, ?_, ?_⟩, by omega⟩, fun h => absurd h (by decide)⟩) (fun M9 f9 F9 => ⟨rg_small (by decide), fun h => absurd rfl h, fun _ => hp _ M9 (f8.tr f9.e2) F9 (rg_small (by decide)) (fun h => absurd h (by decide))⟩)
    · have := f9.mo; rw [b8 1 (by decide)] at this; omega
    · rw [f9.lk, l8]; rfl
    · intro i' c b a1 a2 a3 a4'
      by_cases e : i' = i
      · subst e; exact K9 c b a2 a3 a4'
      · have hi' : (i' : Int) < M8 142 1 := by rw [b8 1 (by decide)]; omega
        rw [f9.gcnt hg] at a2
        rw [(f9.val i' hi').2] at a3
        rw [f9.cell _ (by omega) (by omega) (by omega) (by omega)] at a4'
        have hbr : 0 ≤ M8 (g + (7 + 13 * c)) 3 ∧ M8 (g + (7 + 13 * c)) 3 ≤ 4 := g8.cb.g' (brC ⟨c, by omega⟩) (x := 3) (by omega) (by omega)
        exact kwn_ef hg f9 F8.cnt hi' (by omega) (by omega) (K8 i' c b (by omega) a2 a3 a4')
    · have := f9.mo; rw [b8 1 (by decide)] at this; omega
  refine x_isOfMax F8 (by omega) ⟨rg_small (by decide), fun _ => look, fun h => absurd rfl h⟩ (fun _ => ⟨rg_small (by decide), fun h => absurd h (by decide), fun _ => ⟨by omega, rg_jand _ _, fun _ => look, fun _ M9 e9 => ?_⟩⟩)
  have a9 : ∀ a, a ≠ 142 → M9 a = M8 a := fun a ha => by rw [e9]; exact fu_off _ _ _ ha
  have b9 : ∀ b, b ≠ 2 → M9 142 b = M8 142 b := fun b hb => by rw [e9, fu_at, if_neg hb]
  refine hp _ M9 (f8.tr ⟨fun a h1 _ _ _ => a9 a h1, b9 0 (by decide)⟩) ⟨by rw [b9 1 (by decide)]; exact F8.cnt, by rw [b9 4 (by decide)]; exact F8.lk, fun i v hi hv3 => by rw [a9 _ (by omega)]; exact F8.val i v hi hv3, fun v hv3 => by rw [a9 308 (by decide)]; exact F8.com v hv3, fun i hi => ?_, by rw [b9 3 (by decide)]; exact F8.tg⟩ (rg_small (by decide)) (fun h => absurd h (by decide))
  rw [b9 1 (by decide)] at hi
  rw [a9 289 (by decide)]; exact F8.en i hi
end Ex2
end Pu_cb
section Pu_cc
section Ex3
variable {g : Nat} {post : Int → fm_M → Prop} {thr : String → fm_M → Prop}
/-- what linking may change -/
def lf (M M' : fm_M) : Prop :=
  Nonempty (∀ a, a ≠ 308 → ¬ (291 ≤ a ∧ a < 299) → ¬ (300 ≤ a ∧ a < 308) → M' a = M a)
theorem lf.cell {M M' : fm_M} (h_ : lf M M') : ∀ a, a ≠ 308 → ¬ (291 ≤ a ∧ a < 299) → ¬ (300 ≤ a ∧ a < 308) → M' a = M a := h_.elim id
theorem lf.refl {M : fm_M} : lf M M := ⟨fun _ _ _ _ => rfl⟩
theorem lf.tr {M M1 M2 : fm_M} (h : lf M M1) (h2 : lf M1 M2) : lf M M2 := ⟨fun a b c d => by rw [h2.cell a b c d, h.cell a b c d]⟩
theorem lf.u {M M1 : fm_M} (h : lf M M1) {a p : Nat} {v : Int} (ha : a = 308 ∨ (291 ≤ a ∧ a < 299) ∨ (300 ≤ a ∧ a < 308)) : lf M (fm_u M1 a p v) := ⟨fun q b c d => by rw [fu_off _ _ _ (by omega)]; exact h.cell q b c d⟩
theorem CG1.lf {M M' : fm_M} (h : CG1 g M) (f : lf M M') : CG1 g M' := ⟨h.gg, by rw [f.cell 142 (by decide) (by decide) (by decide)]; exact h.gm, fun e he x h1 h2 => by
  have := CBt_lt e he
  have hg := h.gg
  rw [f.cell (g + e.1) (by omega) (by omega) (by omega)]; exact h.cb e he x h1 h2⟩
theorem FB.lf {M M' : fm_M} {m : Nat} (F : FB m M) (f : lf M M') (hc : ∀ v, v < 3 → 0 ≤ M' 308 v ∧ M' 308 v ≤ 9) : FB m M' := ⟨by rw [f.cell 142 (by decide) (by decide) (by decide)]; exact F.cnt, by rw [f.cell 142 (by decide) (by decide) (by decide)]; exact F.lk, fun i v hi hv => by rw [f.cell _ (by omega) (by omega) (by omega)]; exact F.val i v hi hv, hc, fun i hi => by
  rw [f.cell 142 (by decide) (by decide) (by decide)] at hi
  rw [f.cell 289 (by decide) (by decide) (by decide)]; exact F.en i hi, by rw [f.cell 142 (by decide) (by decide) (by decide)]; exact F.tg⟩
theorem kwn_lf {M M' : fm_M} (h : CG1 g M) (hc : 0 ≤ M 142 1 ∧ M 142 1 ≤ 8) (f : lf M M') {i c b : Nat} (hi : i < 8) (h9 : c < 10) (h3 : b < 4) (hk : kwn M g i c b) : kwn M' g i c b := by
  have hg := h.gg
  obtain ⟨j, hj, hv⟩ := hk
  refine ⟨j, by rw [f.cell 142 (by decide) (by decide) (by decide)]; exact hj, fun v hv3 => ?_⟩
  unfold fol cs
  rw [f.cell (281 + j) (by omega) (by omega) (by omega), f.cell (g + 1) (by omega) (by omega) (by omega), f.cell _ (by omega) (by omega) (by omega), f.cell (281 + i) (by omega) (by omega) (by omega)]
  exact hv v hv3
/-- where branches lead, as kept -/
def nxr (M : fm_M) : Prop := ∀ i x, i < 8 → x < 40 → -1 ≤ M (300 + i) x ∧ M (300 + i) x ≤ 7
theorem t300 : ∀ i : Fin 8, 300 + i.1 < nC ∧ TC (300 + i.1) = .inr (0, 40) := by decide
theorem t291 : ∀ i : Fin 8, 291 + i.1 < nC ∧ TC (291 + i.1) = .inr (0, 10) := by decide
theorem x_linkCommand {M : fm_M} (h : CG1 g M) {m : Nat} (hm : M g 4 = m) (hm10 : m ≤ 10) (F : FB m M) (N : nxr M) {i c : Nat} (hi : (i : Int) < M 142 1) (hc : c < m)
    (hp : ∀ M', lf M M' → FB m M' → nxr M' → (∀ i' x, i' < 8 → x < 40 → (i' ≠ i ∨ x < 4 * c ∨ 4 * c + 4 ≤ x) → M' (300 + i') x = M (300 + i') x) → (∀ b : Nat, (b : Int) < M (g + (7 + 13 * c)) 3 → kwn M g i c b → 0 ≤ M' (300 + i) (4 * c + b) ∧ M' (300 + i) (4 * c + b) < M 142 1) → post 0 M') : wp_Fo_linkCommand M i c post thr := by
  have hg := h.gg
  have t := tcG hg
  have hcn := F.cnt
  have C := cmOk hg (c := c) (by omega)
  unfold wp_Fo_linkCommand
  rw [h.gm, Int.toNat_natCast, show g + 3 + 4 + 13 * c = g + (7 + 13 * c) by omega]
  refine ⟨t.1, t.2.2.2, by omega, ?_⟩
  have hbr : 0 ≤ M (g + (7 + 13 * c)) 3 ∧ M (g + (7 + 13 * c)) 3 ≤ 4 := h.cb.g' (brC ⟨c, by omega⟩) (x := 3) (by omega) (by omega)
  refine ⟨fun M' c3 v4 => c3 = g + (7 + 13 * c) ∧ ∃ b : Nat, v4 = b ∧ b ≤ 4 ∧ lf M M' ∧ FB m M' ∧ nxr M' ∧ (∀ i' x, i' < 8 → x < 40 → (i' ≠ i ∨ x < 4 * c ∨ 4 * c + 4 ≤ x) → M' (300 + i') x = M (300 + i') x) ∧ (∀ b' : Nat, b' < b → kwn M g i c b' → 0 ≤ M' (300 + i) (4 * c + b') ∧ M' (300 + i) (4 * c + b') < M 142 1), fun _ _ v4 => (5 - v4).toNat, ⟨rfl, 0, rfl, by omega, lf.refl, F, N, fun _ _ _ _ _ => rfl, fun b' hb' => by omega⟩, ?_⟩
  rintro M1 c3 v4 ⟨rfl, b, rfl, hb4, f1, F1, N1, O1, K1⟩
  have g1 := h.lf f1
  have br1 : M1 (g + (7 + 13 * c)) 3 = M (g + (7 + 13 * c)) 3 := by rw [f1.cell _ (by omega) (by omega) (by omega)]
  have n1 : M1 142 1 = M 142 1 := by rw [f1.cell 142 (by decide) (by decide) (by decide)]
  unfold C_Fo_linkCommand_13
  rw [br1]
  refine ⟨C.t0, rg_small (by omega), rg_small (by omega), fun h5 => hp M1 f1 F1 N1 O1 (fun b' hb' => K1 b' (by omega)), fun h5 => ⟨by omega, C.t4, by omega, ?_⟩⟩
  have B := brOk hg (c := c) (b := b) (by omega) (by omega)
  rw [g1.gm, Int.toNat_natCast, Int.toNat_natCast, show 280 + 1 + i = 281 + i by omega, show g + (7 + 13 * c) + 4 + 1 + 2 * b = g + (12 + 13 * c + 2 * b) by omega, show 299 + 1 + i = 300 + i by omega, show 290 + 1 + i = 291 + i by omega, show ((c : Int) * 4) + (b : Int) = ((4 * c + b : Nat) : Int) by omega, Int.toNat_natCast, Int.toNat_natCast]
  refine ⟨t.1, x_follow g1 (c3_of (c3_val ⟨i, by omega⟩)) (by omega) B (fun M2 hx2 v2 => ?_)⟩
  have f12 : lf M1 M2 := ⟨fun a h1 _ _ => hx2 a h1⟩
  have F2 : FB m M2 := F1.lf f12 (fun v hv => by rw [v2 v hv]; exact fol_rg g1 _ _ hv)
  have f2 := f1.tr f12
  have n2 : M2 142 1 = M 142 1 := by rw [f2.cell 142 (by decide) (by decide) (by decide)]
  have a2 : ∀ i', i' < 8 → M2 (300 + i') = M1 (300 + i') := fun i' hi' => hx2 _ (by omega)
  -- behind the number
  have fin : ∀ r : Int, -1 ≤ r ∧ r < M 142 1 → (kwn M g i c b → 0 ≤ r) → ∀ M3, M3 = fm_u M2 (300 + i) (4 * c + b) r → ∀ M4, (M4 = M3 ∨ ∃ z, M4 = fm_u M3 (291 + i) c z) → (g + (7 + 13 * c) = g + (7 + 13 * c) ∧ ∃ b_1 : Nat, ((b : Int) + 1) = b_1 ∧ b_1 ≤ 4 ∧ lf M M4 ∧ FB m M4 ∧ nxr M4 ∧ (∀ i' x, i' < 8 → x < 40 → (i' ≠ i ∨ x < 4 * c ∨ 4 * c + 4 ≤ x) → M4 (300 + i') x = M (300 + i') x) ∧ (∀ b' : Nat, b' < b_1 → kwn M g i c b' → 0 ≤ M4 (300 + i) (4 * c + b') ∧ M4 (300 + i) (4 * c + b') < M 142 1)) ∧ (5 - ((b : Int) + 1)).toNat < (5 - (b : Int)).toNat := by
    intro r hr hk M3 e3 M4 e4
    have f3 : lf M M3 := by rw [e3]; exact f2.u (Or.inr (Or.inr (by omega)))
    have f4 : lf M M4 := by
      rcases e4 with e | ⟨z, e⟩
      · rw [e]; exact f3
      · rw [e]; exact f3.u (Or.inr (Or.inl (by omega)))
    have e308 : M4 308 = M2 308 := by
      rcases e4 with e | ⟨z, e⟩
      · rw [e, e3, fu_off _ _ _ (by omega)]
      · rw [e, fu_off _ _ _ (by omega), e3, fu_off _ _ _ (by omega)]
    have e300 : ∀ i', i' < 8 → M4 (300 + i') = M3 (300 + i') := fun i' hi' => by
      rcases e4 with e | ⟨z, e⟩
      · rw [e]
      · rw [e, fu_off _ _ _ (by omega)]
    have r300 : ∀ i' x, i' < 8 → M4 (300 + i') x = if i' = i ∧ x = 4 * c + b then r else M1 (300 + i') x := fun i' x hi' => by
      rw [e300 i' hi', e3]
      by_cases e : i' = i
      · rw [e, fu_at, a2 i (by omega)]
        by_cases e5 : x = 4 * c + b
        · rw [if_pos e5, if_pos ⟨rfl, e5⟩]
        · rw [if_neg e5, if_neg (fun hh => e5 hh.2)]
      · rw [fu_off _ _ _ (by omega), a2 i' hi', if_neg (fun hh => e hh.1)]
    refine ⟨⟨rfl, b + 1, by omega, by omega, f4, F.lf f4 (by rw [e308]; exact F2.com), fun i' x hi' hx => ?_, fun i' x hi' hx ho => ?_, fun b' hb' hk' => ?_⟩, by omega⟩
    · rw [r300 i' x hi']; split
      · omega
      · exact N1 i' x hi' hx
    · rw [r300 i' x hi', if_neg (by omega)]; exact O1 i' x hi' hx ho
    · rw [r300 i _ (by omega)]
      by_cases e : b' = b
      · subst e; rw [if_pos ⟨rfl, rfl⟩]; exact ⟨hk hk', hr.2⟩
      · rw [if_neg (by omega)]; exact K1 b' (by omega) hk'
  refine x_numberOf F2 (fun hno => ⟨t300 ⟨i, by omega⟩, by omega, fun M3 e3 => ⟨rg_small (by decide), fun _ => fin (-1) (by omega) (fun hk => ?_) M3 e3 M3 (Or.inl rfl), fun h => absurd rfl h⟩⟩) (fun j hj hv => ⟨t300 ⟨i, by omega⟩, by omega, fun M3 e3 => ⟨rg_small (by omega), fun h => by omega, fun _ => ⟨t291 ⟨i, by omega⟩, by omega, fun M4 e4 => fin j (by omega) (fun _ => by omega) M3 e3 M4 (Or.inr ⟨_, e4⟩)⟩⟩⟩)
  exfalso
  obtain ⟨j, hj, hv⟩ := hk
  obtain ⟨v, hv3, hne⟩ := hno j (by omega)
  apply hne
  rw [v2 v hv3, f2.cell (281 + j) (by omega) (by omega) (by omega), hv v hv3]
  unfold fol cs
  rw [f1.cell (g + 1) (by omega) (by omega) (by omega), f1.cell (g + (12 + 13 * c + 2 * b) + 1) (by omega) (by omega) (by omega), f1.cell (281 + i) (by omega) (by omega) (by omega)]
/-- branches of what is enabled lead to states -/
def nxt (M : fm_M) (g : Nat) : Prop := ∀ i c b : Nat, (i : Int) < M 142 1 → (c : Int) < M g 4 → bt (M 289 i) c → (b : Int) < M (g + (7 + 13 * c)) 3 → 0 ≤ M (300 + i) (4 * c + b) ∧ M (300 + i) (4 * c + b) < M 142 1
theorem x_link {M : fm_M} (h : CG1 g M) {m : Nat} (hm : M g 4 = m) (hm10 : m ≤ 10) (F : FB m M) (N : nxr M)
    (hp : ∀ M', lf M M' → FB m M' → nxr M' → (kall M g (M 142 1) → nxt M' g) → post 0 M') : wp_Fo_link M post thr := by
  have hg := h.gg
  have t := tcG hg
  have hcn := F.cnt
  have hbr : ∀ c, c < 10 → 0 ≤ M (g + (7 + 13 * c)) 3 ∧ M (g + (7 + 13 * c)) 3 ≤ 4 := fun c hc => h.cb.g' (brC ⟨c, hc⟩) (x := 3) (by omega) (by omega)
  refine ⟨fun M' v1 => ∃ i : Nat, v1 = i ∧ (i : Int) ≤ M 142 1 ∧ lf M M' ∧ FB m M' ∧ nxr M' ∧ (kall M g (M 142 1) → ∀ i' c b : Nat, i' < i → (c : Int) < M g 4 → bt (M 289 i') c → (b : Int) < M (g + (7 + 13 * c)) 3 → 0 ≤ M' (300 + i') (4 * c + b) ∧ M' (300 + i') (4 * c + b) < M 142 1), fun _ v1 => (M 142 1 - v1).toNat, ⟨0, rfl, by omega, lf.refl, F, N, fun _ i' c b hi' => by omega⟩, ?_⟩
  rintro M1 v1 ⟨i, rfl, hi, f1, F1, N1, K1⟩
  have n1 : M1 142 1 = M 142 1 := by rw [f1.cell 142 (by decide) (by decide) (by decide)]
  unfold C_Fo_link_2
  rw [n1]
  refine ⟨rg_small (by omega), rg_small (by omega), fun h4 => hp M1 f1 F1 N1 (fun hk i' c b a1 a2 a3 a4 => ?_), fun h4 => ?_⟩
  · rw [n1] at a1 ⊢
    rw [f1.cell g (by omega) (by omega) (by omega)] at a2
    rw [f1.cell 289 (by decide) (by decide) (by decide)] at a3
    rw [f1.cell _ (by omega) (by omega) (by omega)] at a4
    exact K1 hk i' c b (by omega) a2 a3 a4
  · refine ⟨fun M' v1 v2 => v1 = i ∧ ∃ c : Nat, v2 = c ∧ c ≤ m ∧ lf M M' ∧ FB m M' ∧ nxr M' ∧ (kall M g (M 142 1) → ∀ i' c' b : Nat, (i' < i ∨ (i' = i ∧ c' < c)) → (c' : Int) < M g 4 → bt (M 289 i') c' → (b : Int) < M (g + (7 + 13 * c')) 3 → 0 ≤ M' (300 + i') (4 * c' + b) ∧ M' (300 + i') (4 * c' + b) < M 142 1), fun _ _ v2 => (10 - v2).toNat, ⟨rfl, 0, rfl, by omega, f1, F1, N1, fun hk i' c' b hh => K1 hk i' c' b (by omega)⟩, ?_⟩
    rintro M2 v1 v2 ⟨rfl, c, rfl, hc, f2, F2, N2, K2⟩
    have g2 := h.lf f2
    have m2 : M2 g 4 = m := by rw [f2.cell g (by omega) (by omega) (by omega)]; exact hm
    unfold C_Fo_link_12
    rw [g2.gm, m2, Int.toNat_natCast, Int.toNat_natCast, show 290 + 1 + i = 291 + i by omega]
    refine ⟨t.1, rg_small (by omega), rg_small (by omega), fun h5 => ⟨⟨i + 1, by omega, by omega, f2, F2, N2, fun hk i' c' b hh a2 a3 a4 => K2 hk i' c' b (by omega) a2 a3 a4⟩, by dsimp only; omega⟩, fun h5 => ⟨by omega, t291 ⟨i, by omega⟩, by omega, fun M3 e3 => ?_⟩⟩
    have f3 : lf M M3 := by rw [e3]; exact f2.u (Or.inr (Or.inl (by omega)))
    have a3' : ∀ a, a ≠ 291 + i → M3 a = M2 a := fun a ha => by rw [e3]; exact fu_off _ _ _ ha
    have F3 : FB m M3 := F.lf f3 (by rw [a3' 308 (by omega)]; exact F2.com)
    have N3 : nxr M3 := fun i' x hi' hx => by rw [a3' _ (by omega)]; exact N2 i' x hi' hx
    have g3 := h.lf f3
    have m3 : M3 g 4 = m := by rw [f3.cell g (by omega) (by omega) (by omega)]; exact hm
    refine x_hasBit (fun hb => ⟨rg_small (by decide), fun _ => ⟨⟨rfl, c + 1, by omega, by omega, f3, F3, N3, fun hk i' c' b hh a2 a3 a4 => ?_⟩, by dsimp only; omega⟩, fun h => absurd rfl h⟩) (fun hb => ⟨rg_small (by decide), fun h => absurd h (by decide), fun _ => ?_⟩)
    · by_cases e : i' = i ∧ c' = c
      · obtain ⟨e, e'⟩ := e
        subst e; subst e'
        rw [f3.cell 289 (by decide) (by decide) (by decide)] at hb
        exact absurd a3 hb
      · rw [a3' _ (by omega)]; exact K2 hk i' c' b (by omega) a2 a3 a4
    · refine x_linkCommand g3 m3 hm10 F3 N3 (i := i) (c := c) (by rw [f3.cell 142 (by decide) (by decide) (by decide)]; omega) (by omega) (fun M4 f4 F4 N4 O4 K4 => ⟨⟨rfl, c + 1, by omega, by omega, f3.tr f4, F4, N4, fun hk i' c' b hh a2 a3 a4 => ?_⟩, by dsimp only; omega⟩)
      have hb4 := hbr c' (by omega)
      by_cases e : i' = i ∧ c' = c
      · obtain ⟨e, e'⟩ := e
        subst e; subst e'
        have hkn := hk i' c' b (by omega) a2 a3 a4
        have := K4 b (by rw [f3.cell _ (by omega) (by omega) (by omega)]; exact a4) (kwn_lf h hcn f3 (by omega) (by omega) (by omega) hkn)
        rw [f3.cell 142 (by decide) (by decide) (by decide)] at this
        exact this
      · rw [O4 i' _ (by omega) (by omega) (by omega), a3' _ (by omega)]
        exact K2 hk i' c' b (by omega) a2 a3 a4
end Ex3
end Pu_cc
