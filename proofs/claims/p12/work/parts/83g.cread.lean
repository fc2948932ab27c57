set_option maxRecDepth 10000
section Pu_Q
/-! The class's reader says what the text says. -/
/-- what the numbers of a game keep to: cell from the game's, slots, bounds -/
def CBt : List (Nat × Nat × Nat × Int × Int) :=
  [(0, 4, 5, 0, 10), (1, 0, 3, 0, 9), (2, 0, 3, 0, 9), (4, 2, 3, 0, 4), (6, 0, 4, 0, 65535)] ++
  (List.range 10).flatMap (fun c => [(7 + 13 * c, 2, 3, 0, 1), (7 + 13 * c, 3, 4, 0, 4), (7 + 13 * c, 4, 5, 0, 6), (8 + 13 * c, 2, 3, 0, 4), (10 + 13 * c, 0, 4, 0, 65535)] ++ (List.range 4).map (fun b => (12 + 13 * c + 2 * b, 1, 2, (0 : Int), (6 : Int))))
def CB (g : Nat) (M : fm_M) : Prop := ∀ e ∈ CBt, ∀ x, e.2.1 ≤ x → x < e.2.2.1 → e.2.2.2.1 ≤ M (g + e.1) x ∧ M (g + e.1) x ≤ e.2.2.2.2
theorem CB.g' {g : Nat} {M : fm_M} (h : CB g M) {o s t : Nat} {a b : Int} (he : (o, s, t, a, b) ∈ CBt) {x : Nat} (h1 : s ≤ x) (h2 : x < t) : a ≤ M (g + o) x ∧ M (g + o) x ≤ b := h _ he x h1 h2
theorem CB.u {g : Nat} {M : fm_M} (h : CB g M) {o p : Nat} {v a b : Int} (hq : ∀ e ∈ CBt, e.1 = o → e.2.1 ≤ p → p < e.2.2.1 → e.2.2.2 = (a, b)) (hv : a ≤ v ∧ v ≤ b) : CB g (fm_u M (g + o) p v) := fun e he x h1 h2 => by
  unfold fm_u
  split
  · next hh =>
    have := hq e he (by omega) (by omega) (by omega)
    rw [this]; exact hv
  · exact h e he x h1 h2
theorem CB.x {g : Nat} {M : fm_M} (h : CB g M) {o p : Nat} {v : Int} (hq : ∀ e ∈ CBt, e.1 = o → ¬ (e.2.1 ≤ p ∧ p < e.2.2.1)) : CB g (fm_u M (g + o) p v) := fun e he x h1 h2 => by
  unfold fm_u
  split
  · next hh => exact absurd (show e.2.1 ≤ p ∧ p < e.2.2.1 by omega) (hq e he (by omega))
  · exact h e he x h1 h2
theorem CBt_lt : ∀ e ∈ CBt, e.1 < 137 := by decide
theorem CB.o {g : Nat} {M : fm_M} (h : CB g M) {a p : Nat} {v : Int} (ha : a < g ∨ g + 137 ≤ a) : CB g (fm_u M a p v) := fun e he x h1 h2 => by
  have := CBt_lt e he
  rw [fu_off _ _ _ (by omega)]; exact h e he x h1 h2
/-- what a reader that refuses may have changed -/
def cx (g l : Nat) (M M' : fm_M) : Prop :=
  (∀ a, a ≠ 1 → ¬ (g + l ≤ a ∧ a < g + 137) → M' a = M a) ∧
  (∀ b, b ≠ 2 → b ≠ 3 → M' 1 b = M 1 b) ∧
  (CB g M → CB g M')
theorem cx.cell {g l : Nat} {M M' : fm_M} (h_ : cx g l M M') : ∀ a, a ≠ 1 → ¬ (g + l ≤ a ∧ a < g + 137) → M' a = M a := h_.1
theorem cx.slot {g l : Nat} {M M' : fm_M} (h_ : cx g l M M') : ∀ b, b ≠ 2 → b ≠ 3 → M' 1 b = M 1 b := h_.2.1
theorem cx.cb {g l : Nat} {M M' : fm_M} (h_ : cx g l M M') : CB g M → CB g M' := h_.2.2
theorem cx.mono {g l l' : Nat} {M M1 : fm_M} (h : cx g l M M1) (hl : l' ≤ l) : cx g l' M M1 := ⟨fun a h3 h4 => h.cell a h3 (by omega), h.slot, h.cb⟩
def cf (g l : Nat) (M M' : fm_M) : Prop :=
  (∀ a, a ≠ 1 → ¬ (g + l ≤ a ∧ a < g + 137) → M' a = M a) ∧
  (∀ b, b ≠ 2 → M' 1 b = M 1 b) ∧
  (CB g M → CB g M')
theorem cf.cell {g l : Nat} {M M' : fm_M} (h_ : cf g l M M') : ∀ a, a ≠ 1 → ¬ (g + l ≤ a ∧ a < g + 137) → M' a = M a := h_.1
theorem cf.slot {g l : Nat} {M M' : fm_M} (h_ : cf g l M M') : ∀ b, b ≠ 2 → M' 1 b = M 1 b := h_.2.1
theorem cf.cb {g l : Nat} {M M' : fm_M} (h_ : cf g l M M') : CB g M → CB g M' := h_.2.2
theorem cf.refl {g l : Nat} {M : fm_M} : cf g l M M := ⟨fun _ _ _ => rfl, fun _ _ => rfl, fun h => h⟩
theorem cf.tr {g l : Nat} {M M1 M2 : fm_M} (h : cf g l M M1) (h2 : cf g l M1 M2) : cf g l M M2 := ⟨fun a h3 h4 => by rw [h2.cell a h3 h4, h.cell a h3 h4], fun b h3 => by rw [h2.slot b h3, h.slot b h3], fun h3 => h2.cb (h.cb h3)⟩
theorem cf.mono {g l l' : Nat} {M M1 : fm_M} (h : cf g l M M1) (hl : l' ≤ l) : cf g l' M M1 := ⟨fun a h3 h4 => h.cell a h3 (by omega), h.slot, h.cb⟩
theorem cf.at2 {g l : Nat} {M M1 : fm_M} (h : cf g l M M1) (hg : 4 ≤ g) (v : Int) : cf g l M (fm_u M1 1 2 v) := ⟨fun a h3 h4 => by rw [fu_off _ _ _ h3]; exact h.cell a h3 h4, fun b h3 => by rw [fu_at, if_neg h3]; exact h.slot b h3, fun h3 => (h.cb h3).o (by omega)⟩
theorem cf.at3 {g l : Nat} {M M1 : fm_M} (h : cf g l M M1) (hg : 4 ≤ g) (v : Int) : cx g l M (fm_u M1 1 3 v) := ⟨fun a h3 h4 => by rw [fu_off _ _ _ h3]; exact h.cell a h3 h4, fun b h3 h4 => by rw [fu_at, if_neg h4]; exact h.slot b h3, fun h3 => (h.cb h3).o (by omega)⟩
theorem cf.u {g l : Nat} {M M1 : fm_M} (h : cf g l M M1) (hg : 4 ≤ g) {o p : Nat} {v a b : Int} (hl : l ≤ o) (ho : o < 137) (hq : ∀ e ∈ CBt, e.1 = o → e.2.1 ≤ p → p < e.2.2.1 → e.2.2.2 = (a, b)) (hv : a ≤ v ∧ v ≤ b) : cf g l M (fm_u M1 (g + o) p v) := ⟨fun q h3 h4 => by rw [fu_off _ _ _ (by omega)]; exact h.cell q h3 h4, fun b h3 => by rw [fu_off _ _ _ (by omega)]; exact h.slot b h3, fun h3 => (h.cb h3).u hq hv⟩
theorem cf.x {g l : Nat} {M M1 : fm_M} (h : cf g l M M1) (hg : 4 ≤ g) {o p : Nat} {v : Int} (hl : l ≤ o) (ho : o < 137) (hq : ∀ e ∈ CBt, e.1 = o → ¬ (e.2.1 ≤ p ∧ p < e.2.2.1)) : cf g l M (fm_u M1 (g + o) p v) := ⟨fun q h3 h4 => by rw [fu_off _ _ _ (by omega)]; exact h.cell q h3 h4, fun b h3 => by rw [fu_off _ _ _ (by omega)]; exact h.slot b h3, fun h3 => (h.cb h3).x hq⟩
theorem cf.trx {g l : Nat} {M M1 M2 : fm_M} (h : cf g l M M1) (h2 : cx g l M1 M2) : cx g l M M2 := ⟨fun a h3 h4 => by rw [h2.cell a h3 h4, h.cell a h3 h4], fun b h3 h4 => by rw [h2.slot b h3 h4, h.slot b h3], fun h3 => h2.cb (h.cb h3)⟩
/-- the reader over a text, with its draft -/
def CS (T : Nat → Int) (n g : Nat) (M : fm_M) : Prop :=
  (txt T n) ∧
  (M 2 1 = n) ∧
  (∀ p, p < n → M 3 p = T p) ∧
  ((M 1 1).toNat = g) ∧
  (g = 4 ∨ g = 143)
theorem CS.t {T : Nat → Int} {n g : Nat} {M : fm_M} (h_ : CS T n g M) : txt T n := h_.1
theorem CS.len {T : Nat → Int} {n g : Nat} {M : fm_M} (h_ : CS T n g M) : M 2 1 = n := h_.2.1
theorem CS.ch {T : Nat → Int} {n g : Nat} {M : fm_M} (h_ : CS T n g M) : ∀ p, p < n → M 3 p = T p := h_.2.2.1
theorem CS.gm {T : Nat → Int} {n g : Nat} {M : fm_M} (h_ : CS T n g M) : (M 1 1).toNat = g := h_.2.2.2.1
theorem CS.gg {T : Nat → Int} {n g : Nat} {M : fm_M} (h_ : CS T n g M) : g = 4 ∨ g = 143 := h_.2.2.2.2
theorem CS.cf {T : Nat → Int} {n g l : Nat} {M M' : fm_M} (h : CS T n g M) (f : cf g l M M') : CS T n g M' := by
  have hg := h.gg
  exact ⟨h.t, by rw [f.cell 2 (by decide) (by omega)]; exact h.len, by rw [f.cell 3 (by decide) (by omega)]; exact h.ch, by rw [f.slot 1 (by decide)]; exact h.gm, hg⟩
abbrev IAE : String := "java/lang/IllegalArgumentException"
section Cl
variable {T : Nat → Int} {n g : Nat} {post : Int → fm_M → Prop} {thr : String → fm_M → Prop}
theorem c_here {M : fm_M} (h : CS T n g M) {p : Nat} (hp : M 1 2 = p) (hpn : p ≤ n) (k : post (chr T n p) M) : wp_Rd_here M post thr := by
  have hn := h.t.1
  unfold wp_Rd_here
  rw [hp, h.len, Int.toNat_natCast]
  refine ⟨rg_small (by omega), rg_small (by omega), fun h1 => ?_, fun h1 => ?_⟩
  · have : chr T n p = 0 := by unfold chr; rw [if_neg (by omega)]
    rw [this] at k; exact k
  · have e : chr T n p = T p := by unfold chr; rw [if_pos (by omega)]
    have := h.t.2 p (by omega)
    rw [h.ch p (by omega)]
    rw [e] at k
    exact ⟨by omega, by omega, k⟩
theorem rgc {T : Nat → Int} {n : Nat} (h : txt T n) (p : Nat) : rg (chr T n p) := by
  rcases chr_b h p with h | h <;> exact rg_small (by omega)
theorem c_isName {M : fm_M} {c : Int} (hc : rg c) (k1 : nam c → post 1 M) (k0 : ¬ nam c → post 0 M) : wp_Rd_isName M c post thr := by
  unfold nam at k0 k1
  exact ⟨hc, fun _ => k0 (by omega), fun _ => ⟨fun _ => k0 (by omega), fun _ => k1 (by omega)⟩⟩
theorem c_isDigit {M : fm_M} {c : Int} (hc : rg c) (k1 : dgt c → post 1 M) (k0 : ¬ dgt c → post 0 M) : wp_Rd_isDigit M c post thr := by
  unfold dgt at k0 k1
  exact ⟨hc, fun _ => k0 (by omega), fun _ => ⟨fun _ => k0 (by omega), fun _ => k1 (by omega)⟩⟩
theorem c_pm {M : fm_M} {c : Int} (hc : rg c) (k1 : pms c → post 1 M) (k0 : ¬ pms c → post 0 M) : wp_Rd_isPlusOrMinus M c post thr := by
  unfold pms at k0 k1
  exact ⟨hc, fun _ => k1 (by omega), fun _ => ⟨fun _ => k0 (by omega), fun _ => k1 (by omega)⟩⟩
theorem c_cmp {M : fm_M} {c : Int} (hc : rg c) (k1 : cmp c → post 1 M) (k0 : ¬ cmp c → post 0 M) : wp_Rd_isComparison M c post thr := by
  unfold cmp at k0 k1
  exact ⟨hc, fun _ => k1 (by omega), fun _ => ⟨fun _ => k1 (by omega), fun _ => ⟨fun _ => k1 (by omega), fun _ => ⟨fun _ => k0 (by omega), fun _ => k1 (by omega)⟩⟩⟩⟩
theorem c_refuse {M : fm_M} {a : Int} (k : ∀ M', M' = fm_u M 1 3 a → thr IAE M') : wp_Rd_refuse M a post thr := k
theorem c_num {M : fm_M} (h : CS T n g M) {p : Nat} (hp : M 1 2 = p) (hpn : p ≤ n) {lo hi : Int} (hlo : rg lo) (hhi : rg hi)
    (ko : ∀ v q M', pNum T n lo hi p = .ok v q → cf g 137 M M' → M' 1 2 = q → post v M') (kb : ∀ M', pNum T n lo hi p = .bad p → cx g 137 M M' → M' 1 3 = p → thr IAE M') : wp_Rd_readNumber M lo hi post thr := by
  have hn := h.t.1
  have hg := h.gg
  unfold wp_Rd_readNumber
  rw [hp]
  refine ⟨fun M' v3 v4 => v3 = p ∧ ∃ d : Nat, M' 1 2 = (p + d : Nat) ∧ p + d ≤ n ∧ cf g 137 M M' ∧ (∀ j, j < d → dgt (chr T n (p + j))) ∧ (d = 0 → v4 = 0) ∧ (d = 1 → v4 = chr T n p - 48) ∧ (d = 2 → v4 = 10 * (chr T n p - 48) + (chr T n (p + 1) - 48)), fun M' _ _ => ((n : Int) - M' 1 2).toNat, ⟨rfl, 0, hp, by omega, cf.refl, fun j hj => by omega, fun _ => rfl, fun h => by omega, fun h => by omega⟩, ?_⟩
  rintro M1 v3 v4 ⟨rfl, d, h1, h2, f1, h3, d0, d1, d2⟩
  have c1 := h.cf f1
  -- the end of the digits
  have fin : ¬ dgt (chr T n (p + d)) → B_Rd_readNumber_60 lo hi post thr M1 p v4 := by
    intro hnd
    have wrong : pNum T n lo hi p = .bad p → B_Rd_readNumber_118 lo hi post thr M1 p v4 := fun e M2 e2 => kb M2 e (by rw [e2]; exact f1.at3 (by omega) _) (by rw [e2, fu_at, if_pos rfl])
    have right : ∀ v q, pNum T n lo hi p = pChk lo hi v q p → v4 = v → M1 1 2 = (q : Nat) → rg v → B_Rd_readNumber_94 lo hi post thr M1 p v4 := fun v q e ev eq rv => by
      refine ⟨rg_small (by decide), fun h => absurd h (by decide), fun _ => ?_⟩
      rw [ev]
      refine ⟨rv, hlo, fun h5 => ?_, fun h5 => ⟨hhi, fun h6 => ?_, fun h6 => ?_⟩⟩
      · rw [← ev]; exact wrong (by rw [e]; unfold pChk; rw [if_neg (by omega)])
      · exact ko v q M1 (by rw [e]; unfold pChk; rw [if_pos (by omega)]) f1 eq
      · rw [← ev]; exact wrong (by rw [e]; unfold pChk; rw [if_neg (by omega)])
    have nodig : pNum T n lo hi p = .bad p → B_Rd_readNumber_99 lo hi post thr M1 p v4 0 := fun e => ⟨rg_small (by decide), fun _ => wrong e, fun h => absurd rfl h⟩
    unfold B_Rd_readNumber_60
    rw [h1]
    refine ⟨rg_small (by omega), fun h4 => ?_, fun h4 => ⟨fun h5 => ?_, fun h5 => ?_⟩⟩
    · have hd : d = 1 := by omega
      subst hd
      have h30 := h3 0 (by omega)
      refine right (chr T n p - 48) (p + 1) ?_ (d1 rfl) h1 (rg_small (by unfold dgt at h30; simp only [Nat.add_zero] at h30; omega))
      unfold pNum; rw [if_pos (by simpa using h30), if_neg hnd]
    · refine nodig ?_
      by_cases hd : d = 0
      · subst hd; unfold pNum; rw [if_neg (by simpa using hnd)]
      · have a0 := h3 0 (by omega)
        have a1 := h3 1 (by omega)
        have a2 := h3 2 (by omega)
        unfold pNum; rw [if_pos (by simpa using a0), if_pos a1, if_pos (Or.inl a2)]
    · have hd : d = 2 := by omega
      subst hd
      have a0 := h3 0 (by omega)
      have a1 := h3 1 (by omega)
      simp only [Nat.add_zero] at a0
      have hp2 : p < n := chr_lt h.t (by unfold dgt at a0; omega)
      have ec : M1 3 p = chr T n p := by rw [c1.ch p hp2]; unfold chr; rw [if_pos hp2]
      rw [Int.toNat_natCast, ec]
      refine ⟨by omega, rgc h.t p, fun h6 => nodig ?_, fun h6 => right _ (p + 2) ?_ (d2 rfl) h1 (rg_small (by unfold dgt at a0 a1; omega))⟩
      · unfold pNum; rw [if_pos a0, if_pos a1, if_pos (Or.inr h6)]
      · unfold pNum; rw [if_pos a0, if_pos a1, if_neg (fun hh => by rcases hh with hh | hh; exact hnd hh; exact h6 hh)]
  unfold C_Rd_readNumber_8
  rw [c1.len, h1]
  refine ⟨rg_small (by omega), rg_small (by omega), fun h4 => fin ?_, fun h4 => ?_⟩
  · have : chr T n (p + d) = 0 := by unfold chr; rw [if_neg (by omega)]
    rw [this]; decide
  · refine c_here c1 h1 h2 (c_isDigit (rgc h.t _) (fun hdg => ⟨rg_small (by decide), fun h => absurd h (by decide), fun _ => c_here c1 h1 h2 (fun M2 e2 => ⟨⟨rfl, d + 1, ?_, by omega, by rw [e2]; exact f1.at2 (by omega) _, fun j hj => ?_, fun h => by omega, fun h => ?_, fun h => ?_⟩, ?_⟩)⟩) (fun hdg => ⟨rg_small (by decide), fun _ => fin hdg, fun h => absurd rfl h⟩))
    · rw [e2, fu_at, if_pos rfl, h1]; rfl
    · by_cases e : j = d
      · rw [e]; exact hdg
      · exact h3 j (by omega)
    · have : d = 0 := by omega
      subst this; rw [d0 rfl]; simp
    · have : d = 1 := by omega
      subst this; rw [d1 rfl]
    · have : M2 1 2 = (p + d : Nat) + 1 := by rw [e2, fu_at, if_pos rfl, h1]
      dsimp only; rw [this, h1]; omega
theorem c_skips {M : fm_M} (h : CS T n g M) {p : Nat} (hp : M 1 2 = p) (hpn : p ≤ n) {c : Int} (hc : rg c) (hc0 : c ≠ 0) (k1 : ∀ M', chr T n p = c → cf g 137 M M' → M' 1 2 = (p + 1 : Nat) → p + 1 ≤ n → post 1 M') (k0 : chr T n p ≠ c → post 0 M) : wp_Rd_skips M c post thr := by
  have hg := h.gg
  refine c_here h hp hpn ⟨rgc h.t p, hc, fun e M1 e1 => k1 M1 e ?_ ?_ ?_, k0⟩
  · rw [e1]; exact cf.refl.at2 (by omega) _
  · rw [e1, fu_at, if_pos rfl, hp]; rfl
  · exact chr_lt h.t (by rw [e]; exact hc0)
theorem c_expect {M : fm_M} (h : CS T n g M) {p : Nat} (hp : M 1 2 = p) (hpn : p ≤ n) {c : Int} (hc : rg c) (hc0 : c ≠ 0) (k1 : ∀ M', chr T n p = c → cf g 137 M M' → M' 1 2 = (p + 1 : Nat) → p + 1 ≤ n → post 0 M') (k0 : ∀ M', chr T n p ≠ c → cx g 137 M M' → M' 1 3 = p → thr IAE M') : wp_Rd_expect M c post thr := by
  have hg := h.gg
  refine c_skips h hp hpn hc hc0 (fun M1 a b d e => ⟨rg_small (by decide), fun _ => k1 M1 a b d e, fun h => absurd h (by decide)⟩) (fun a => ⟨rg_small (by decide), fun h => absurd rfl h, fun _ => c_refuse (fun M1 e1 => k0 M1 a ?_ ?_)⟩)
  · rw [e1]; exact cf.refl.at3 (by omega) _
  · rw [e1, fu_at, if_pos rfl, hp]
theorem tcG (hg : g = 4 ∨ g = 143) : (g < nC ∧ TC g = .inl (3, ks_Gm)) ∧ (g + 1 < nC ∧ TC (g + 1) = .inr (0, 3)) ∧ (g + 2 < nC ∧ TC (g + 2) = .inr (0, 3)) ∧ (g + 3 < nC ∧ TC (g + 3) = .inr (6, 10)) := by
  rcases hg with e | e <;> subst e <;> decide
/-- a name that is known -/
theorem c_hasVar {M : fm_M} (hg : g = 4 ∨ g = 143) (hb : CB g M) {v : Nat} (hv : v < 3) (k1 : 0 < M (g + 1) v → post 1 M) (k0 : ¬ 0 < M (g + 1) v → post 0 M) : wp_Gm_hasVariable M g v post thr := by
  have t := tcG hg
  have := hb.g' (o := 1) (s := 0) (t := 3) (a := 0) (b := 9) (by decide) (x := v) (by omega) hv
  unfold wp_Gm_hasVariable
  rw [Int.toNat_natCast]
  exact ⟨t.1, t.2.1, by omega, rg_small (by omega), fun _ => k0 (by omega), fun _ => k1 (by omega)⟩
theorem c_name {M : fm_M} (h : CS T n g M) (hb : CB g M) {p : Nat} (hp : M 1 2 = p) (hpn : p ≤ n) (k1 : ∀ M', nam (chr T n p) → 0 < M (g + 1) (chr T n p - 97).toNat → cf g 137 M M' → M' 1 2 = (p + 1 : Nat) → p + 1 ≤ n → post (chr T n p - 97) M') (k0 : ∀ M', ¬ (nam (chr T n p) ∧ 0 < M (g + 1) (chr T n p - 97).toNat) → cx g 137 M M' → M' 1 3 = p → thr IAE M') : wp_Rd_readName M post thr := by
  have hg := h.gg
  have no : ¬ (nam (chr T n p) ∧ 0 < M (g + 1) (chr T n p - 97).toNat) → B_Rd_readName_28 post thr M (chr T n p - 97) := fun e M1 e1 => k0 M1 e (by rw [e1]; exact cf.refl.at3 (by omega) _) (by rw [e1, fu_at, if_pos rfl, hp])
  have rr : rg (chr T n p - 97) := by rcases chr_b h.t p with h | h <;> exact rg_small (by omega)
  refine c_here h hp hpn ⟨rr, fun h1 => no (fun hh => by have := hh.1; unfold nam at this; omega), fun h1 => ⟨fun h2 => no (fun hh => by have := hh.1; unfold nam at this; omega), fun h2 => ?_⟩⟩
  rw [h.gm]
  refine ⟨(tcG hg).1, ?_⟩
  have e : chr T n p - 97 = (((chr T n p - 97).toNat : Nat) : Int) := by omega
  rw [e]
  refine c_hasVar hg hb (by omega) (fun hk => ⟨rg_small (by decide), fun _ M1 e1 => ?_, fun h => absurd h (by decide)⟩) (fun hk => ⟨rg_small (by decide), fun h => absurd rfl h, fun _ => ?_⟩)
  · rw [← e]
    exact k1 M1 (by unfold nam; omega) hk (by rw [e1]; exact cf.refl.at2 (by omega) _) (by rw [e1, fu_at, if_pos rfl, hp]; rfl) (chr_lt h.t (by omega))
  · rw [← e]; exact no (fun hh => hk hh.2)
end Cl
end Pu_Q
section Pu_R
section Cl2
variable {T : Nat → Int} {n g : Nat} {post : Int → fm_M → Prop} {thr : String → fm_M → Prop}
/-- the sum ends, or a fifth item is begun -/
def ends (T : Nat → Int) (n : Nat) (r : PR Unit) (q : Nat) : Prop := r = .ok () q ∨ (r = .bad q ∧ pms (chr T n q))
/-- while a sum is read: what is still to be added -/
def cSI (T : Nat → Int) (n g o a2 : Nat) (a3 : Int) (kn : Nat → Int) (M : fm_M) (p : Nat) (M' : fm_M) (v4 v5 v6 : Int) : Prop :=
  ∃ k pos : Nat, v6 = k ∧ k ≤ 4 ∧ (∀ a, a ≠ 1 → a ≠ g + o → M' a = M a) ∧ cf g 4 M M' ∧ M' 1 2 = pos ∧ pos ≤ n ∧ ((v5 = 1 ∧ k < 4 ∧ pSum T n kn p = (pItem T n kn pos).bd (fun _ q => pMore T n kn (3 - k) q) ∧ ∃ F : Nat → Int, adds a2 F (M (g + o)) (M' (g + o)) ∧ ∀ x, F x + v4 * vIt T n pos x + a3 * vMo T n kn (3 - k) (ps (pItem T n kn pos)) x = a3 * vSu T n kn p x) ∨ (v5 = 0 ∧ ends T n (pSum T n kn p) pos ∧ adds a2 (fun x => a3 * vSu T n kn p x) (M (g + o)) (M' (g + o))))
theorem c_sum {M : fm_M} (h : CS T n g M) (hb : CB g M) {kn : Nat → Int} (hkn : ∀ v, v < 3 → M (g + 1) v = kn v) {p : Nat} (hp : M 1 2 = p) (hpn : p ≤ n) {o : Nat} (ho : 4 ≤ o ∧ o < 137) (hno : ∀ e ∈ CBt, e.1 ≠ o) (ht : g + o < nC ∧ TC (g + o) = .inr (0, fm_sz (g + o))) {a2 : Nat} (ha : a2 + 3 < fm_sz (g + o)) (a3 : Int)
    (ko : ∀ q M', ends T n (pSum T n kn p) q → cf g 4 M M' → M' 1 2 = q → q ≤ n → (∀ a, a ≠ 1 → a ≠ g + o → M' a = M a) → adds a2 (fun x => a3 * vSu T n kn p x) (M (g + o)) (M' (g + o)) → post 0 M') (kb : ∀ b M', pSum T n kn p = .bad b → cx g 4 M M' → M' 1 3 = b → thr IAE M') : wp_Rd_readSum M (g + o) a2 a3 post thr := by
  have hn := h.t.1
  have hg := h.gg
  refine ⟨cSI T n g o a2 a3 kn M p, fun _ _ _ v6 => (4 - v6).toNat, ⟨0, p, rfl, by omega, fun _ _ _ => rfl, cf.refl, hp, hpn, Or.inl ⟨rfl, by omega, rfl, fun _ => 0, adds_0, fun x => by unfold vSu; grind⟩⟩, ?_⟩
  rintro M1 v4 v5 v6 ⟨k, pos, rfl, hk, so1, f1, h1, hpos, hI⟩
  have c1 := h.cf f1
  have b1 := f1.cb hb
  have hv5 : v5 = 0 ∨ v5 = 1 := by
    rcases hI with ⟨a, _⟩ | ⟨a, _⟩
    · exact Or.inr a
    · exact Or.inl a
  have rv : rg v5 := rg_small (by rcases hv5 with e | e <;> rw [e] <;> decide)
  have e1 : M1 (g + 1) = M (g + 1) := f1.cell (g + 1) (by omega) (by omega)
  unfold C_Rd_readSum_9
  refine ⟨rg_small (by omega), fun h4 => ?_, fun h4 => ⟨rv, fun hz => ?_, fun hz => ?_⟩⟩
  · rcases hI with ⟨_, hk4, _⟩ | ⟨_, e, ad⟩
    · omega
    · exact ko pos M1 e f1 h1 hpos so1 ad
  · rcases hI with ⟨e, _⟩ | ⟨_, e, ad⟩
    · rw [e] at hz; exact absurd hz (by decide)
    · exact ko pos M1 e f1 h1 hpos so1 ad
  · obtain ⟨hk4, hS, F, hF, hx⟩ : k < 4 ∧ pSum T n kn p = (pItem T n kn pos).bd (fun _ q => pMore T n kn (3 - k) q) ∧ ∃ F : Nat → Int, adds a2 F (M (g + o)) (M1 (g + o)) ∧ ∀ x, F x + v4 * vIt T n pos x + a3 * vMo T n kn (3 - k) (ps (pItem T n kn pos)) x = a3 * vSu T n kn p x := by
      rcases hI with ⟨_, a, b, c⟩ | ⟨e, _⟩
      · exact ⟨a, b, c⟩
      · exact absurd e hz
    -- behind the item
    have fin : ∀ (M2 : fm_M) (q : Nat), (∀ a, a ≠ 1 → a ≠ g + o → M2 a = M a) → cf g 4 M M2 → M2 1 2 = q → q ≤ n → pItem T n kn pos = .ok () q → (∃ F : Nat → Int, adds a2 F (M (g + o)) (M2 (g + o)) ∧ ∀ x, F x + a3 * vMo T n kn (3 - k) q x = a3 * vSu T n kn p x) → B_Rd_readSum_64 (g + o) a2 a3 post thr (fun M'_1 v4' v5' v6' => cSI T n g o a2 a3 kn M p M'_1 v4' v5' v6' ∧ (4 - v6').toNat < (4 - (k : Int)).toNat) M2 v4 k := by
      rintro M2 q so2 f2 hq hqn hit ⟨F2, hF2, hx2⟩
      have hS : pSum T n kn p = pMore T n kn (3 - k) q := by rw [hS, hit, bd_ok]
      have c2 := h.cf f2
      have stop : ends T n (pSum T n kn p) q → (∀ x, vMo T n kn (3 - k) q x = 0) → B_Rd_readSum_87 (g + o) a2 a3 post thr (fun M'_1 v4' v5' v6' => cSI T n g o a2 a3 kn M p M'_1 v4' v5' v6' ∧ (4 - v6').toNat < (4 - (k : Int)).toNat) M2 v4 k 0 := fun e e0 => ⟨rg_small (by decide), fun _ => ⟨⟨k + 1, q, by omega, by omega, so2, f2, hq, hqn, Or.inr ⟨rfl, e, adds_c hF2 (fun x => by have := hx2 x; rw [e0 x] at this; omega)⟩⟩, by omega⟩, fun h => absurd rfl h⟩
      refine ⟨rg_small (by omega), fun h5 => stop ?_ (fun x => by rw [show 3 - k = 0 by omega]; rfl), fun h5 => c_here c2 hq hqn (c_pm (rgc h.t q) (fun hpm => ⟨rg_small (by decide), fun h => absurd h (by decide), fun _ => ?_⟩) (fun hpm => ⟨rg_small (by decide), fun _ => stop ?_ (fun x => by rw [show 3 - k = (3 - (k + 1)) + 1 by omega, vMo, if_neg hpm]), fun h => absurd rfl h⟩))⟩
      · have : k = 3 := by omega
        subst this
        unfold ends
        rw [hS, show 3 - 3 = 0 from rfl, pMore]
        by_cases hh : pms (chr T n q)
        · rw [if_pos hh]; exact Or.inr ⟨rfl, hh⟩
        · rw [if_neg hh]; exact Or.inl rfl
      · have hq1 : q + 1 ≤ n := chr_lt h.t (by rcases hpm with e | e <;> rw [e] <;> decide)
        have go : ∀ z : Int, z = a3 * (if chr T n q = 45 then -1 else 1) → B_Rd_readSum_109 (g + o) a2 a3 post thr (fun M'_1 v4' v5' v6' => cSI T n g o a2 a3 kn M p M'_1 v4' v5' v6' ∧ (4 - v6').toNat < (4 - (k : Int)).toNat) M2 1 k z := fun z hz M3 e3 => by
          refine ⟨⟨k + 1, q + 1, by omega, by omega, fun a h5 h6 => by rw [e3, fu_off _ _ _ h5]; exact so2 a h5 h6, by rw [e3]; exact f2.at2 (by omega) _, by rw [e3, fu_at, if_pos rfl, hq]; rfl, hq1, Or.inl ⟨rfl, by omega, ?_, F2, ?_, fun x => ?_⟩⟩, by omega⟩
          · rw [hS, show 3 - k = (3 - (k + 1)) + 1 by omega, pMore, if_pos hpm]
          · rw [e3, fu_off _ _ _ (by omega)]; exact hF2
          · have := hx2 x
            rw [show 3 - k = (3 - (k + 1)) + 1 by omega, vMo, if_pos hpm] at this
            rw [hz]; grind
        exact ⟨rg_small (by decide), fun h => absurd h (by decide), fun _ => c_here c2 hq hqn ⟨rgc h.t q, fun e => go _ (by rw [if_neg e]; omega), fun e => go _ (by rw [if_pos e]; omega)⟩⟩
      · unfold ends; rw [hS]
        refine Or.inl ?_
        rw [show 3 - k = (3 - (k + 1)) + 1 by omega, pMore, if_neg hpm]
    refine c_here c1 h1 hpos (c_isName (rgc h.t pos) (fun hnm => ⟨rg_small (by decide), fun h => absurd h (by decide), fun _ => ?_⟩) (fun hnm => ⟨rg_small (by decide), fun _ => ⟨ht, by omega, ?_⟩, fun h => absurd rfl h⟩))
    · refine c_name c1 b1 h1 hpos (fun M2 a1 a2' f2 q2 l2 => ⟨ht, ?_, fun M3 e3 => fin M3 (pos + 1) (fun a h5 h6 => by rw [e3, fu_off _ _ _ h6, f2.cell a h5 (by omega)]; exact so1 a h5 h6) ?_ ?_ l2 ?_ ?_⟩) (fun M2 a1 f2 w2 => kb pos M2 ?_ (f1.trx (f2.mono (by omega))) w2)
      · unfold nam at a1; omega
      · rw [e3]; exact (f1.tr (f2.mono (by omega))).x (by omega) ho.1 ho.2 (fun e he h5 => absurd h5 (hno e he))
      · rw [e3, fu_off _ _ _ (by omega)]; exact q2
      · unfold pItem; rw [if_pos a1, if_pos (by rw [← hkn _ (by unfold nam at a1; omega), ← e1]; exact a2')]
      · have hit : pItem T n kn pos = .ok () (pos + 1) := by unfold pItem; rw [if_pos a1, if_pos (by rw [← hkn _ (by unfold nam at a1; omega), ← e1]; exact a2')]
        have hc4 : (chr T n pos - 97).toNat < 4 := by unfold nam at a1; omega
        refine ⟨_, adds_u hF hc4 (d := v4) (fun y => ?_), fun x => ?_⟩
        · rw [e3, fu_at, f2.cell (g + o) (by omega) (by omega)]
          have : ((a2 : Int) + (chr T n pos - 97)).toNat = a2 + (chr T n pos - 97).toNat := by unfold nam at a1; omega
          rw [this]
          by_cases e : y = a2 + (chr T n pos - 97).toNat
          · rw [if_pos e, if_pos e, e]
          · rw [if_neg e, if_neg e]
        · have := hx x
          rw [ps_ok hit] at this
          unfold vIt at this
          rw [if_pos a1] at this
          grind
      · rw [hS]
        have : pItem T n kn pos = .bad pos := by
          unfold pItem; rw [if_pos hnm, if_neg (fun hh => a1 ⟨hnm, by rw [e1, hkn _ (by unfold nam at hnm; omega)]; exact hh⟩)]
        rw [this, bd_bad]
    · refine c_num c1 h1 hpos (rg_small (by decide)) (rg_small (by decide)) (fun v q M2 e f2 q2 M3 e3 => ?_) (fun M2 e f2 w2 => kb pos M2 ?_ (f1.trx (f2.mono (by omega))) w2)
      · have := pNum_ok h.t e
        refine fin M3 q (fun a h5 h6 => by rw [e3, fu_off _ _ _ h6, f2.cell a h5 (by omega)]; exact so1 a h5 h6) ?_ ?_ this.2.2.2.2.2 ?_ ?_
        · rw [e3]; exact (f1.tr (f2.mono (by omega))).x (by omega) ho.1 ho.2 (fun e he h5 => absurd h5 (hno e he))
        · rw [e3, fu_off _ _ _ (by omega)]; exact q2
        · unfold pItem; rw [if_neg hnm, e, bd_ok]
        · have hit : pItem T n kn pos = .ok () q := by unfold pItem; rw [if_neg hnm, e, bd_ok]
          refine ⟨_, adds_u hF (c := 3) (by omega) (d := v4 * v) (fun y => ?_), fun x => ?_⟩
          · rw [e3, fu_at, f2.cell (g + o) (by omega) (by omega), show ((a2 : Int) + 3).toNat = a2 + 3 by omega]
            by_cases e : y = a2 + 3
            · rw [if_pos e, if_pos e, e]
            · rw [if_neg e, if_neg e]
          · have := hx x
            rw [ps_ok hit] at this
            unfold vIt at this
            rw [if_neg hnm, ← (pNum_val e).1] at this
            grind
      · rw [hS]
        have : pItem T n kn pos = .bad pos := by unfold pItem; rw [if_neg hnm, e, bd_bad]
        rw [this, bd_bad]
/-- what a guard's reading may change -/
def gfr (g o : Nat) (M M' : fm_M) : Prop := ∀ a, a ≠ 1 → ¬ (g + o ≤ a ∧ a ≤ g + o + 2) → M' a = M a
/-- the tests that have been read -/
def cgu (T : Nat → Int) (n : Nat) (kn : Nat → Int) (p k : Nat) (M : fm_M) (t : Nat) : Prop := (∀ y, 4 * t ≤ y → y < 16 → M (k + 1) y = 0) ∧ ∀ t', t' < t → M (k + 2) t' = tC T n kn (tp T n kn p t') ∧ ∀ x, x < 4 → M (k + 1) (4 * t' + x) = vSu T n kn (tp T n kn p t') x - tR T n kn (tp T n kn p t') x
theorem c_guClear {M : fm_M} (h : CS T n g M) {o : Nat} (ho : 4 ≤ o ∧ o + 2 < 137) (ht : (g + o < nC ∧ TC (g + o) = .inl (5, ks_Gu)) ∧ (g + o + 1 < nC ∧ TC (g + o + 1) = .inr (0, 16))) (hno : ∀ e ∈ CBt, e.1 ≠ o + 1) (hcn : ∀ e ∈ CBt, e.1 = o → e.2.1 ≤ 2 → 2 < e.2.2.1 → e.2.2.2 = (0, 4))
    (k : ∀ M', cf g 4 M M' → M' 1 = M 1 → M' (g + o) 2 = 0 → gfr g o M M' → (∀ y, y < 16 → M' (g + o + 1) y = 0) → post 0 M') : wp_Gu_clear M (g + o) post thr := by
  have hg := h.gg
  refine ⟨fun M' v1 => ∃ x : Nat, v1 = x ∧ x ≤ 16 ∧ cf g 4 M M' ∧ M' 1 = M 1 ∧ gfr g o M M' ∧ ∀ y, y < x → M' (g + o + 1) y = 0, fun _ v1 => (16 - v1).toNat, ⟨0, rfl, by omega, cf.refl, rfl, fun _ _ _ => rfl, fun y hy => by omega⟩, ?_⟩
  rintro M1 v1 ⟨x, rfl, hx, f1, e1, r1, z1⟩
  unfold C_Gu_clear_2
  refine ⟨ht.1, ht.2, rg_small (by omega), fun h4 M2 e2 => k M2 ?_ ?_ ?_ ?_ ?_, fun h4 => ⟨by omega, fun M2 e2 => ⟨⟨x + 1, by omega, by omega, ?_, ?_, ?_, ?_⟩, by dsimp only; omega⟩⟩⟩
  · rw [e2]; exact f1.u (by omega) ho.1 (by omega) hcn (by omega)
  · rw [e2, fu_off _ _ _ (by omega)]; exact e1
  · rw [e2, fu_at, if_pos rfl]
  · intro a h1 h2; rw [e2, fu_off _ _ _ (by omega)]; exact r1 a h1 h2
  · intro y hy; rw [e2, fu_off _ _ _ (by omega)]; exact z1 y (by omega)
  · rw [e2, Nat.add_assoc]; exact f1.x (by omega) (by omega) (by omega) (fun e he h5 => absurd h5 (hno e he))
  · rw [e2, fu_off _ _ _ (by omega)]; exact e1
  · intro a h1 h2; rw [e2, fu_off _ _ _ (by omega)]; exact r1 a h1 h2
  · intro y hy; rw [e2, Int.toNat_natCast, fu_at]
    by_cases e : y = x
    · rw [if_pos e]
    · rw [if_neg e]; exact z1 y (by omega)
/-- where a guard stands in a game -/
def GuOk (g o : Nat) : Prop :=
  (4 ≤ o ∧ o + 2 < 137) ∧
  (g + o < nC ∧ TC (g + o) = .inl (5, ks_Gu)) ∧
  (g + o + 1 < nC ∧ TC (g + o + 1) = .inr (0, 16)) ∧
  (g + o + 2 < nC ∧ TC (g + o + 2) = .inr (1, 4)) ∧
  (∀ e ∈ CBt, e.1 ≠ o + 1) ∧
  (∀ e ∈ CBt, e.1 = o → e.2.1 ≤ 2 → 2 < e.2.2.1 → e.2.2.2 = (0, 4)) ∧
  (∀ t : Fin 4, ∀ e ∈ CBt, e.1 = o + 2 → e.2.1 ≤ t.1 → t.1 < e.2.2.1 → e.2.2.2 = (0, 65535)) ∧
  ((o, 2, 3, 0, 4) ∈ CBt)
theorem GuOk.lo {g o : Nat} (h_ : GuOk g o) : 4 ≤ o ∧ o + 2 < 137 := h_.1
theorem GuOk.t0 {g o : Nat} (h_ : GuOk g o) : g + o < nC ∧ TC (g + o) = .inl (5, ks_Gu) := h_.2.1
theorem GuOk.t1 {g o : Nat} (h_ : GuOk g o) : g + o + 1 < nC ∧ TC (g + o + 1) = .inr (0, 16) := h_.2.2.1
theorem GuOk.t2 {g o : Nat} (h_ : GuOk g o) : g + o + 2 < nC ∧ TC (g + o + 2) = .inr (1, 4) := h_.2.2.2.1
theorem GuOk.n1 {g o : Nat} (h_ : GuOk g o) : ∀ e ∈ CBt, e.1 ≠ o + 1 := h_.2.2.2.2.1
theorem GuOk.b0 {g o : Nat} (h_ : GuOk g o) : ∀ e ∈ CBt, e.1 = o → e.2.1 ≤ 2 → 2 < e.2.2.1 → e.2.2.2 = (0, 4) := h_.2.2.2.2.2.1
theorem GuOk.b2 {g o : Nat} (h_ : GuOk g o) : ∀ t : Fin 4, ∀ e ∈ CBt, e.1 = o + 2 → e.2.1 ≤ t.1 → t.1 < e.2.2.1 → e.2.2.2 = (0, 65535) := h_.2.2.2.2.2.2.1
theorem GuOk.m0 {g o : Nat} (h_ : GuOk g o) : (o, 2, 3, 0, 4) ∈ CBt := h_.2.2.2.2.2.2.2
theorem guT (hg : g = 4 ∨ g = 143) : GuOk g 4 := by
  rcases hg with e | e <;> subst e <;> exact ⟨by decide, by decide, by decide, by decide, by decide, by decide, by decide, by decide⟩
theorem guC_a1 : ∀ c : Fin 10, 4 ≤ 8 + 13 * c.1 ∧ 8 + 13 * c.1 + 2 < 137 := by decide
theorem guC_a2 : ∀ c : Fin 10, ∀ e ∈ CBt, e.1 ≠ 8 + 13 * c.1 + 1 := by decide
theorem guC_a3 : ∀ c : Fin 10, ∀ e ∈ CBt, e.1 = 8 + 13 * c.1 → e.2.1 ≤ 2 → 2 < e.2.2.1 → e.2.2.2 = (0, 4) := by decide
theorem guC_a4 : ∀ c : Fin 10, ∀ t : Fin 4, ∀ e ∈ CBt, e.1 = 8 + 13 * c.1 + 2 → e.2.1 ≤ t.1 → t.1 < e.2.2.1 → e.2.2.2 = (0, 65535) := by decide
theorem guC_a5 : ∀ c : Fin 10, (8 + 13 * c.1, 2, 3, (0 : Int), (4 : Int)) ∈ CBt := by decide
theorem guC_b : ∀ c : Fin 10, ((4 + (8 + 13 * c.1) < nC ∧ TC (4 + (8 + 13 * c.1)) = .inl (5, ks_Gu)) ∧ (4 + (8 + 13 * c.1) + 1 < nC ∧ TC (4 + (8 + 13 * c.1) + 1) = .inr (0, 16)) ∧ (4 + (8 + 13 * c.1) + 2 < nC ∧ TC (4 + (8 + 13 * c.1) + 2) = .inr (1, 4))) ∧ ((143 + (8 + 13 * c.1) < nC ∧ TC (143 + (8 + 13 * c.1)) = .inl (5, ks_Gu)) ∧ (143 + (8 + 13 * c.1) + 1 < nC ∧ TC (143 + (8 + 13 * c.1) + 1) = .inr (0, 16)) ∧ (143 + (8 + 13 * c.1) + 2 < nC ∧ TC (143 + (8 + 13 * c.1) + 2) = .inr (1, 4))) := by decide
theorem guC (hg : g = 4 ∨ g = 143) {c : Nat} (hc : c < 10) : GuOk g (8 + 13 * c) := by
  have b := guC_b ⟨c, hc⟩
  rcases hg with e | e <;> subst e
  · exact ⟨guC_a1 ⟨c, hc⟩, b.1.1, b.1.2.1, b.1.2.2, guC_a2 ⟨c, hc⟩, guC_a3 ⟨c, hc⟩, guC_a4 ⟨c, hc⟩, guC_a5 ⟨c, hc⟩⟩
  · exact ⟨guC_a1 ⟨c, hc⟩, b.2.1, b.2.2.1, b.2.2.2, guC_a2 ⟨c, hc⟩, guC_a3 ⟨c, hc⟩, guC_a4 ⟨c, hc⟩, guC_a5 ⟨c, hc⟩⟩
/-- the guard ends, or goes on too long: the next character is wrong -/
def endg (T : Nat → Int) (n : Nat) (r : PR Unit) (q : Nat) : Prop := r = .ok () q ∨ (r = .bad q ∧ (pms (chr T n q) ∨ chr T n q = 38))
/-- while a guard is read -/
def cGI (T : Nat → Int) (n g o : Nat) (kn : Nat → Int) (M : fm_M) (p : Nat) (M' : fm_M) (v2 v3 : Int) : Prop :=
  ∃ t pos : Nat, v3 = t ∧ t ≤ 4 ∧ cf g 4 M M' ∧ M' 1 2 = pos ∧ pos ≤ n ∧ M' (g + o) 2 = t ∧ gfr g o M M' ∧ cgu T n kn p (g + o) M' t ∧ ((v2 = 1 ∧ t < 4 ∧ pGuard T n kn p = (pTest T n kn pos).bd (fun _ q => pTests T n kn (3 - t) q) ∧ pos = tp T n kn p t ∧ t + tN T n kn (3 - t) pos = tN T n kn 3 p) ∨ (v2 = 0 ∧ endg T n (pGuard T n kn p) pos ∧ t = tN T n kn 3 p))
theorem c_guard {M : fm_M} (h : CS T n g M) (hb : CB g M) {kn : Nat → Int} (hkn : ∀ v, v < 3 → M (g + 1) v = kn v) {p : Nat} (hp : M 1 2 = p) (hpn : p ≤ n) {o : Nat} (G : GuOk g o)
    (ko : ∀ q M', endg T n (pGuard T n kn p) q → cf g 4 M M' → M' 1 2 = q → q ≤ n → gfr g o M M' → M' (g + o) 2 = (tN T n kn 3 p : Nat) → cgu T n kn p (g + o) M' (tN T n kn 3 p) → post 0 M') (kb : ∀ b M', pGuard T n kn p = .bad b → cx g 4 M M' → M' 1 3 = b → thr IAE M') : wp_Rd_readGuard M (g + o) post thr := by
  have hn := h.t.1
  have hg := h.gg
  have hsz : fm_sz (g + o + 1) = 16 := by unfold fm_sz; rw [G.t1.2]
  have ht1 : g + (o + 1) < nC ∧ TC (g + (o + 1)) = .inr (0, fm_sz (g + (o + 1))) := by rw [← Nat.add_assoc, hsz]; exact G.t1
  refine ⟨G.t0, c_guClear h G.lo ⟨G.t0, G.t1⟩ G.n1 G.b0 (fun M0 f0 e0 z0 r0 zz0 => ?_)⟩
  have p0 : M0 1 2 = p := by rw [e0]; exact hp
  refine ⟨cGI T n g o kn M p, fun _ _ v3 => (4 - v3).toNat, ⟨0, p, rfl, by omega, f0, p0, hpn, z0, r0, ⟨fun y _ hy => zz0 y hy, fun t' ht' => by omega⟩, Or.inl ⟨rfl, by omega, rfl, rfl, Nat.zero_add _⟩⟩, ?_⟩
  rintro M1 v2 v3 ⟨t, pos, rfl, ht, f1, h1, hpos, hcnt, r1, g1, hI⟩
  have c1 := h.cf f1
  have b1 := f1.cb hb
  have hv2 : v2 = 0 ∨ v2 = 1 := by
    rcases hI with ⟨a, _⟩ | ⟨a, _⟩
    · exact Or.inr a
    · exact Or.inl a
  have rv : rg v2 := rg_small (by rcases hv2 with e | e <;> rw [e] <;> decide)
  have e1 : M1 (g + 1) = M (g + 1) := f1.cell (g + 1) (by omega) (by omega)
  unfold C_Rd_readGuard_8
  refine ⟨rg_small (by omega), fun h4 => ?_, fun h4 => ⟨rv, fun hz => ?_, fun hz => ⟨G.t0, ?_⟩⟩⟩
  · rcases hI with ⟨_, hk4, _⟩ | ⟨_, e, e'⟩
    · omega
    · subst e'; exact ko pos M1 e f1 h1 hpos r1 hcnt g1
  · rcases hI with ⟨e, _⟩ | ⟨_, e, e'⟩
    · rw [e] at hz; exact absurd hz (by decide)
    · subst e'; exact ko pos M1 e f1 h1 hpos r1 hcnt g1
  · obtain ⟨ht4, hS, htp, htn⟩ : t < 4 ∧ pGuard T n kn p = (pTest T n kn pos).bd (fun _ q => pTests T n kn (3 - t) q) ∧ pos = tp T n kn p t ∧ t + tN T n kn (3 - t) pos = tN T n kn 3 p := by
      rcases hI with ⟨_, a, b⟩ | ⟨e, _⟩
      · exact ⟨a, b⟩
      · exact absurd e hz
    have eo : g + o + 1 = g + (o + 1) := by omega
    have et : ((t : Int) * 4) = ((4 * t : Nat) : Int) := by omega
    rw [eo, et]
    have bad : ∀ b, pTest T n kn pos = .bad b → pGuard T n kn p = .bad b := fun b e => by rw [hS, e, bd_bad]
    refine c_sum c1 b1 (kn := kn) (fun v hv => by rw [e1]; exact hkn v hv) h1 hpos (o := o + 1) (by have := G.lo; omega) G.n1 ht1 (by rw [← Nat.add_assoc, hsz]; omega) 1 (fun q M2 en f2 q2 l2 so2 ad2 => ?_) (fun b M2 e f2 w2 => kb b M2 (bad b ?_) (f1.trx f2) w2)
    · -- the sign
      have f12 := f1.tr f2
      have c2 := h.cf f12
      refine c_here c2 q2 l2 ⟨G.t2, by omega, ?_, fun M3 e3 => ?_⟩
      · rcases chr_b h.t q with a | a <;> omega
      have f3 : cf g 4 M M3 := by
        rw [e3, Int.toNat_natCast, Nat.add_assoc]
        exact f12.u (by omega) (by have := G.lo; omega) (by have := G.lo; omega) (G.b2 ⟨t, by omega⟩) (by rcases chr_b h.t q with a | a <;> omega)
      have c3 := h.cf f3
      have q3 : M3 1 2 = q := by rw [e3, fu_off _ _ _ (by omega)]; exact q2
      have cnt3 : M3 (g + o) 2 = M2 (g + o) 2 := by rw [e3, fu_off _ _ _ (by omega)]
      refine c_here c3 q3 l2 (c_cmp (rgc h.t q) (fun hcm => ⟨rg_small (by decide), fun _ => ?_, fun h => absurd h (by decide)⟩) (fun hcm => ⟨rg_small (by decide), fun h => absurd rfl h, fun _ => c_refuse (fun M4 e4 => kb q M4 ?_ ?_ ?_)⟩))
      · -- a comparison: the right sum
        have hok : pSum T n kn pos = .ok () q := by
          rcases en with e | ⟨_, e⟩
          · exact e
          · exact absurd hcm (by unfold cmp; unfold pms at e; omega)
        have hq1 : q + 1 ≤ n := chr_lt h.t (by unfold cmp at hcm; omega)
        intro M4 e4
        have f4 : cf g 4 M M4 := by rw [e4]; exact f3.at2 (by omega) _
        have c4 := h.cf f4
        have q4 : M4 1 2 = (q + 1 : Nat) := by rw [e4, fu_at, if_pos rfl, q3]; rfl
        have e14 : M4 (g + 1) = M (g + 1) := f4.cell (g + 1) (by omega) (by omega)
        have hT : ∀ r, pSum T n kn (q + 1) = r → pTest T n kn pos = r := fun r e => by
          unfold pTest; rw [hok, bd_ok, if_pos hcm]; exact e
        refine ⟨G.t0, ?_⟩
        rw [eo, et]
        refine c_sum c4 (f4.cb hb) (kn := kn) (fun v hv => by rw [e14]; exact hkn v hv) q4 hq1 (o := o + 1) (by have := G.lo; omega) G.n1 ht1 (by rw [← Nat.add_assoc, hsz]; omega) (-1) (fun r M5 en5 f5 q5 l5 so5 ad5 M6 e6 => ?_) (fun b M5 e f5 w5 => kb b M5 (bad b (hT _ e)) (f4.trx f5) w5)
        have f45 := f4.tr f5
        have hc56 : M6 (g + o) 2 = (t + 1 : Nat) := by
          have h7 : M4 (g + o) 2 = M3 (g + o) 2 := by rw [e4, fu_off _ _ _ (by omega)]
          rw [e6, fu_at, if_pos rfl, so5 (g + o) (by omega) (by omega), h7, cnt3, so2 (g + o) (by omega) (by omega), hcnt]; rfl
        have f6 : cf g 4 M M6 := by
          rw [e6]
          have hlo := G.lo
          refine f45.u (by omega) (by omega) (by omega) G.b0 ?_
          have h7 : M5 (g + o) 2 + 1 = (t + 1 : Nat) := by rw [← hc56, e6, fu_at, if_pos rfl]
          omega
        have q6 : M6 1 2 = r := by rw [e6, fu_off _ _ _ (by omega)]; exact q5
        have c6 := h.cf f6
        -- what the test was
        have hTe : pTest T n kn pos = .ok () r ∨ (pTest T n kn pos = .bad r ∧ pms (chr T n r)) := by
          rcases en5 with e | ⟨e, e'⟩
          · exact Or.inl (hT _ e)
          · exact Or.inr ⟨hT _ e, e'⟩
        have hq0 : ps (pSum T n kn pos) = q := ps_ok hok
        have hr0 : tE T n kn pos = r := by
          unfold tE
          rcases hTe with e | ⟨e, _⟩ <;> rw [e] <;> rfl
        have r6 : gfr g o M M6 := fun a h7 h8 => by
          rw [e6, fu_off _ _ _ (by omega), so5 a h7 (by omega), e4, fu_off _ _ _ h7, e3, fu_off _ _ _ (by omega), so2 a h7 (by omega)]; exact r1 a h7 h8
        have s6 : ∀ y, M6 (g + o + 1) y = M1 (g + o + 1) y + (if 4 * t ≤ y ∧ y < 4 * t + 4 then vSu T n kn pos (y - 4 * t) - tR T n kn pos (y - 4 * t) else 0) := fun y => by
          rw [e6, fu_off _ _ _ (by omega), eo, ad5 y, e4, fu_off _ _ _ (by omega), e3, fu_off _ _ _ (by omega), ad2 y]
          unfold tR; rw [hq0]
          split
          · show M1 (g + (o + 1)) y + 1 * vSu T n kn pos (y - 4 * t) + -1 * vSu T n kn (q + 1) (y - 4 * t) = _; omega
          · omega
        have g6 : cgu T n kn p (g + o) M6 (t + 1) := by
          refine ⟨fun y h7 h8 => ?_, fun t' ht' => ⟨?_, fun x hx => ?_⟩⟩
          · rw [s6 y, if_neg (by omega), g1.1 y (by omega) h8]; rfl
          · rw [e6, fu_off _ _ _ (by omega), so5 (g + o + 2) (by omega) (by omega), e4, fu_off _ _ _ (by omega), e3, Int.toNat_natCast, fu_at]
            by_cases e : t' = t
            · rw [if_pos e, e, ← htp]; unfold tC; rw [hq0]
            · rw [if_neg e, so2 (g + o + 2) (by omega) (by omega)]; exact (g1.2 t' (by omega)).1
          · rw [s6]
            by_cases e : t' = t
            · rw [if_pos (by omega), e, ← htp, g1.1 (4 * t + x) (by omega) (by omega), show 4 * t + x - 4 * t = x by omega]; omega
            · rw [if_neg (by omega), (g1.2 t' (by omega)).2 x hx]; omega
        have stop : endg T n (pGuard T n kn p) r → t + 1 = tN T n kn 3 p → B_Rd_readGuard_111 (g + o) post thr (fun M'_1 v2' v3' => cGI T n g o kn M p M'_1 v2' v3' ∧ (4 - v3').toNat < (4 - (t : Int)).toNat) M6 t 0 := fun e e' => ⟨⟨t + 1, r, by omega, by omega, f6, q6, l5, hc56, r6, g6, Or.inr ⟨rfl, e, e'⟩⟩, by omega⟩
        have g67 : ∀ M7, cf g 137 M6 M7 → cgu T n kn p (g + o) M7 (t + 1) := fun M7 f7 => by
          unfold cgu; rw [f7.cell (g + o + 1) (by omega) (by omega), f7.cell (g + o + 2) (by omega) (by omega)]; exact g6
        rw [hc56]
        refine ⟨rg_small (by omega), fun h8 => stop ?_ (by rw [show 3 - t = 0 by omega] at htn; exact htn), fun h8 => c_skips c6 q6 l5 (rg_small (by decide)) (by decide) (fun M7 hc f7 q7 l7 => ⟨rg_small (by decide), fun h => absurd h (by decide), fun _ => ⟨⟨t + 1, r + 1, by omega, by omega, f6.tr (f7.mono (by omega)), q7, l7, by rw [f7.cell (g + o) (by omega) (by omega)]; exact hc56, fun a h7 h8 => by rw [f7.cell a h7 (by omega)]; exact r6 a h7 h8, g67 M7 f7, Or.inl ⟨rfl, by omega, ?_, ?_, ?_⟩⟩, by dsimp only; omega⟩⟩) (fun hc => ⟨rg_small (by decide), fun _ => stop ?_ ?_, fun h => absurd rfl h⟩)⟩
        · have : t = 3 := by omega
          subst this
          rcases hTe with e | ⟨e, e'⟩
          · unfold endg
            rw [hS, e, bd_ok, show 3 - 3 = 0 from rfl, pTests]
            by_cases hh : chr T n r = 38
            · rw [if_pos hh]; exact Or.inr ⟨rfl, Or.inr hh⟩
            · rw [if_neg hh]; exact Or.inl rfl
          · exact Or.inr ⟨by rw [hS, e, bd_bad], Or.inl e'⟩
        · rcases hTe with e | ⟨_, e'⟩
          · rw [hS, e, bd_ok, show 3 - t = (3 - (t + 1)) + 1 by omega, pTests, if_pos hc]
          · exact absurd hc (by unfold pms at e'; omega)
        · rw [tp, ← htp, hr0]
        · rw [show 3 - t = (3 - (t + 1)) + 1 by omega, tN, hr0, if_pos hc] at htn; omega
        · rcases hTe with e | ⟨e, e'⟩
          · refine Or.inl ?_
            rw [hS, e, bd_ok, show 3 - t = (3 - (t + 1)) + 1 by omega, pTests, if_neg hc]
          · exact Or.inr ⟨by rw [hS, e, bd_bad], Or.inl e'⟩
        · rw [show 3 - t = (3 - (t + 1)) + 1 by omega, tN, hr0, if_neg hc] at htn; exact htn
      · refine bad q ?_
        unfold pTest
        rcases en with e | ⟨e, _⟩
        · rw [e, bd_ok, if_neg hcm]
        · rw [e, bd_bad]
      · rw [e4]; exact f3.at3 (by omega) _
      · rw [e4, fu_at, if_pos rfl, q3]
    · unfold pTest; rw [e, bd_bad]
end Cl2
end Pu_R
section Pu_S
section Cl3
variable {T : Nat → Int} {n g : Nat} {post : Int → fm_M → Prop} {thr : String → fm_M → Prop}
/-- where a branch stands in a game -/
def BrOk (g o : Nat) : Prop :=
  (4 ≤ o ∧ o + 1 < 137) ∧
  (g + o < nC ∧ TC (g + o) = .inl (6, ks_Br)) ∧
  (g + o + 1 < nC ∧ TC (g + o + 1) = .inr (0, 12)) ∧
  (∀ e ∈ CBt, e.1 ≠ o + 1) ∧
  (∀ e ∈ CBt, e.1 = o → e.2.1 ≤ 1 → 1 < e.2.2.1 → e.2.2.2 = (0, 6))
theorem BrOk.lo {g o : Nat} (h_ : BrOk g o) : 4 ≤ o ∧ o + 1 < 137 := h_.1
theorem BrOk.t0 {g o : Nat} (h_ : BrOk g o) : g + o < nC ∧ TC (g + o) = .inl (6, ks_Br) := h_.2.1
theorem BrOk.t1 {g o : Nat} (h_ : BrOk g o) : g + o + 1 < nC ∧ TC (g + o + 1) = .inr (0, 12) := h_.2.2.1
theorem BrOk.n1 {g o : Nat} (h_ : BrOk g o) : ∀ e ∈ CBt, e.1 ≠ o + 1 := h_.2.2.2.1
theorem BrOk.b1 {g o : Nat} (h_ : BrOk g o) : ∀ e ∈ CBt, e.1 = o → e.2.1 ≤ 1 → 1 < e.2.2.1 → e.2.2.2 = (0, 6) := h_.2.2.2.2
theorem br_a1 : ∀ c : Fin 10, ∀ b : Fin 4, 4 ≤ 12 + 13 * c.1 + 2 * b.1 ∧ 12 + 13 * c.1 + 2 * b.1 + 1 < 137 := by decide
theorem br_a2 : ∀ c : Fin 10, ∀ b : Fin 4, ∀ e ∈ CBt, e.1 ≠ 12 + 13 * c.1 + 2 * b.1 + 1 := by decide
theorem br_a3 : ∀ c : Fin 10, ∀ b : Fin 4, ∀ e ∈ CBt, e.1 = 12 + 13 * c.1 + 2 * b.1 → e.2.1 ≤ 1 → 1 < e.2.2.1 → e.2.2.2 = (0, 6) := by decide
theorem br_b1 : ∀ c : Fin 10, ∀ b : Fin 4, (4 + (12 + 13 * c.1 + 2 * b.1) < nC ∧ TC (4 + (12 + 13 * c.1 + 2 * b.1)) = .inl (6, ks_Br)) ∧ (4 + (12 + 13 * c.1 + 2 * b.1) + 1 < nC ∧ TC (4 + (12 + 13 * c.1 + 2 * b.1) + 1) = .inr (0, 12)) := by decide
theorem br_b2 : ∀ c : Fin 10, ∀ b : Fin 4, (143 + (12 + 13 * c.1 + 2 * b.1) < nC ∧ TC (143 + (12 + 13 * c.1 + 2 * b.1)) = .inl (6, ks_Br)) ∧ (143 + (12 + 13 * c.1 + 2 * b.1) + 1 < nC ∧ TC (143 + (12 + 13 * c.1 + 2 * b.1) + 1) = .inr (0, 12)) := by decide
theorem brOk (hg : g = 4 ∨ g = 143) {c b : Nat} (hc : c < 10) (hb : b < 4) : BrOk g (12 + 13 * c + 2 * b) := by
  rcases hg with e | e <;> subst e
  · exact ⟨br_a1 ⟨c, hc⟩ ⟨b, hb⟩, (br_b1 ⟨c, hc⟩ ⟨b, hb⟩).1, (br_b1 ⟨c, hc⟩ ⟨b, hb⟩).2, br_a2 ⟨c, hc⟩ ⟨b, hb⟩, br_a3 ⟨c, hc⟩ ⟨b, hb⟩⟩
  · exact ⟨br_a1 ⟨c, hc⟩ ⟨b, hb⟩, (br_b2 ⟨c, hc⟩ ⟨b, hb⟩).1, (br_b2 ⟨c, hc⟩ ⟨b, hb⟩).2, br_a2 ⟨c, hc⟩ ⟨b, hb⟩, br_a3 ⟨c, hc⟩ ⟨b, hb⟩⟩
/-- the branch's cells alone -/
def bo (g o : Nat) (M M' : fm_M) : Prop := ∀ a, a ≠ 1 → a ≠ g + o → a ≠ g + o + 1 → M' a = M a
theorem c_clearSum {M : fm_M} (hg : g = 4 ∨ g = 143) {o : Nat} (B : BrOk g o) {v : Nat} (hv : v < 3) (k : ∀ M', cf g 4 M M' → M' 1 = M 1 → M' (g + o) = M (g + o) → bo g o M M' → (∀ y, M' (g + o + 1) y = if 4 * v ≤ y ∧ y < 4 * v + 4 then 0 else M (g + o + 1) y) → post 0 M') : wp_Br_clearSum M (g + o) v post thr := by
  refine ⟨fun M' v2 => ∃ x : Nat, v2 = x ∧ x ≤ 4 ∧ cf g 4 M M' ∧ M' 1 = M 1 ∧ M' (g + o) = M (g + o) ∧ bo g o M M' ∧ (∀ y, M' (g + o + 1) y = if 4 * v ≤ y ∧ y < 4 * v + x then 0 else M (g + o + 1) y), fun _ v2 => (4 - v2).toNat, ⟨0, rfl, by omega, cf.refl, rfl, rfl, fun _ _ _ _ => rfl, fun y => by rw [if_neg (by omega)]⟩, ?_⟩
  rintro M1 v2 ⟨x, rfl, hx, f1, e1, e2, e3, z1⟩
  unfold C_Br_clearSum_2
  refine ⟨rg_small (by omega), fun h4 => k M1 f1 e1 e2 e3 (fun y => by rw [z1 y, show x = 4 by omega]), fun h4 => ⟨B.t0, B.t1, by omega, fun M2 e4 => ⟨⟨x + 1, by omega, by omega, ?_, ?_, ?_, fun a h1 h2 h3 => ?_, fun y => ?_⟩, by dsimp only; omega⟩⟩⟩
  · rw [e4, Nat.add_assoc]; exact f1.x (by omega) (by have := B.lo; omega) B.lo.2 (fun e he h5 => absurd h5 (B.n1 e he))
  · rw [e4, fu_off _ _ _ (by omega)]; exact e1
  · rw [e4, fu_off _ _ _ (by omega)]; exact e2
  · rw [e4, fu_off _ _ _ h3]; exact e3 a h1 h2 h3
  · rw [e4, fu_at, show ((v : Int) * 4 + (x : Int)).toNat = 4 * v + x by omega, z1 y]
    by_cases e : y = 4 * v + x
    · rw [if_pos e, if_pos (by omega)]
    · rw [if_neg e]
      by_cases e' : 4 * v ≤ y ∧ y < 4 * v + x
      · rw [if_pos e', if_pos (by omega)]
      · rw [if_neg e', if_neg (by omega)]
theorem c_brClear {M : fm_M} (hg : g = 4 ∨ g = 143) {o : Nat} (B : BrOk g o) (k : ∀ M', cf g 4 M M' → M' 1 = M 1 → bo g o M M' → (∀ v x, v < 3 → x < 4 → M' (g + o + 1) (4 * v + x) = if x = v then 1 else 0) → post 0 M') : wp_Br_clear M (g + o) post thr := by
  refine ⟨B.t0, fun M0 e0 => ?_⟩
  have f0 : cf g 4 M M0 := by rw [e0]; exact cf.refl.u (by omega) B.lo.1 (by have := B.lo; omega) B.b1 (by omega)
  refine ⟨fun M' v1 => ∃ x : Nat, v1 = x ∧ x ≤ 3 ∧ cf g 4 M M' ∧ M' 1 = M 1 ∧ bo g o M M' ∧ (∀ v y, v < x → y < 4 → M' (g + o + 1) (4 * v + y) = if y = v then 1 else 0), fun _ v1 => (3 - v1).toNat, ⟨0, rfl, by omega, f0, by rw [e0, fu_off _ _ _ (by omega)], fun a h1 h2 h3 => by rw [e0, fu_off _ _ _ h2], fun v y hv => by omega⟩, ?_⟩
  rintro M1 v1 ⟨x, rfl, hx, f1, e1, e3, z1⟩
  unfold C_Br_clear_7
  refine ⟨rg_small (by omega), fun h4 => k M1 f1 e1 e3 (fun v y hv hy => z1 v y (by omega) hy), fun h4 => ⟨B.t0, c_clearSum hg B (by omega) (fun M2 f2 a2 b2 d2 z2 => ⟨B.t1, by omega, fun M3 e4 => ⟨⟨x + 1, by omega, by omega, ?_, ?_, fun a h1 h2 h3 => ?_, fun v y hv hy => ?_⟩, by dsimp only; omega⟩⟩)⟩⟩
  · rw [e4, Nat.add_assoc]; exact (f1.tr f2).x (by omega) (by have := B.lo; omega) B.lo.2 (fun e he h5 => absurd h5 (B.n1 e he))
  · rw [e4, fu_off _ _ _ (by omega), a2]; exact e1
  · rw [e4, fu_off _ _ _ h3, d2 a h1 h2 h3]; exact e3 a h1 h2 h3
  · rw [e4, fu_at, show ((x : Int) * 4 + (x : Int)).toNat = 4 * x + x by omega, z2]
    by_cases e : v = x
    · subst e
      by_cases e' : y = v
      · rw [if_pos (by omega), if_pos e']
      · rw [if_neg (by omega), if_pos (by omega), if_neg e']
    · rw [if_neg (by omega), if_neg (by omega)]; exact z1 v y (by omega) hy
/-- bits of what is updated -/
def bit3 (x : Int) (v : Nat) : Bool := decide (¬ jand (jshr x v) 1 = 0)
theorem bit_or : ∀ x : Fin 8, ∀ v : Fin 3, ∀ w : Fin 3, bit3 (jor x.1 (jshl 1 (v.1 : Int))) w.1 = (if w.1 = v.1 then true else bit3 x.1 w.1) := by decide
theorem bit_rg : ∀ x : Fin 8, ∀ v : Fin 3, 0 ≤ jor x.1 (jshl 1 (v.1 : Int)) ∧ jor x.1 (jshl 1 (v.1 : Int)) < 8 := by decide
theorem bit_full : ∀ x : Fin 8, ((if bit3 x.1 0 then 1 else 0) + (if bit3 x.1 1 then 1 else 0) + (if bit3 x.1 2 then 1 else 0) : Nat) ≤ 3 := by decide
def pc3 (x : Int) : Nat := (if bit3 x 0 then 1 else 0) + (if bit3 x 1 then 1 else 0) + (if bit3 x 2 then 1 else 0)
theorem pc_or : ∀ x : Fin 8, ∀ v : Fin 3, bit3 x.1 v.1 = false → pc3 (jor x.1 (jshl 1 (v.1 : Int))) = pc3 x.1 + 1 := by decide
theorem pUpds_congr {kn : Nat → Int} (f : Nat) (u1 u2 : Nat → Bool) (p : Nat) (h : ∀ v, v < 3 → u1 v = u2 v) : pUpds T n kn f u1 p = pUpds T n kn f u2 p := by
  induction f generalizing u1 u2 p with
  | zero => rfl
  | succ f ih =>
    unfold pUpds
    by_cases hn : nam (chr T n p)
    · have hi : (chr T n p - 97).toNat < 3 := by unfold nam at hn; omega
      rw [h _ hi]
      have e : (fun (_ : Unit) (q : Nat) => if chr T n q = 44 then pUpds T n kn f (fun v => if v = (chr T n p - 97).toNat then true else u1 v) (q + 1) else PR.ok () q) = (fun (_ : Unit) (q : Nat) => if chr T n q = 44 then pUpds T n kn f (fun v => if v = (chr T n p - 97).toNat then true else u2 v) (q + 1) else PR.ok () q) := by
        funext _ q
        rw [ih (fun v => if v = (chr T n p - 97).toNat then true else u1 v) (fun v => if v = (chr T n p - 97).toNat then true else u2 v) (q + 1) (fun v hv => by
          split
          · rfl
          · exact h v hv)]
      rw [e]
    · rw [if_neg (fun hh => hn hh.1), if_neg (fun hh => hn hh.1)]
theorem brE_eq {kn : Nat → Int} {ws : Int} {p : Nat} {w : Int} {q : Nat} (e : pNum T n 1 (6 - ws) p = .ok w q) : ps (pBranch T n kn ws p) = brE T n kn p := by
  unfold pBranch brE
  rw [e, bd_ok, ← (pNum_val e).2]
  split
  · match pUpds T n kn 4 (fun _ => false) (q + 1) with
    | .inl (a, q2) => rfl
    | .inr b => rfl
  · rfl
/-- the updates that have been read, and those to come -/
def cbr (T : Nat → Int) (n : Nat) (kn : Nat → Int) (p k : Nat) (M : fm_M) (v3 : Int) (rest : Nat → Nat) : Prop := ∀ v, v < 3 → (bit3 v3 v = true → brU T n kn p v ≠ 0 ∧ ∀ x, x < 4 → M (k + 1) (4 * v + x) = vSu T n kn (brU T n kn p v) x) ∧ (bit3 v3 v = false → brU T n kn p v = rest v ∧ ∀ x, x < 4 → M (k + 1) (4 * v + x) = if x = v then 1 else 0)
/-- a branch's sums -/
def cbs (T : Nat → Int) (n : Nat) (kn : Nat → Int) (p k : Nat) (M : fm_M) : Prop := ∀ v x, v < 3 → x < 4 → M (k + 1) (4 * v + x) = brF T n kn p v x
theorem cbr_end {kn : Nat → Int} {p k : Nat} {M : fm_M} {v3 : Int} (h : cbr T n kn p k M v3 (fun _ => 0)) : cbs T n kn p k M := fun v x hv hx => by
  unfold brF
  cases e : bit3 v3 v with
  | true => rw [if_neg ((h v hv).1 e).1]; exact ((h v hv).1 e).2 x hx
  | false => rw [if_pos ((h v hv).2 e).1]; exact ((h v hv).2 e).2 x hx
theorem bit0 : ∀ v : Fin 3, bit3 0 v.1 = false := by decide
/-- while updates are read -/
def cBI (T : Nat → Int) (n g o : Nat) (kn : Nat → Int) (M : fm_M) (ws : Int) (p : Nat) (w : Int) (M' : fm_M) (v3 v4 v5 : Int) : Prop :=
  ∃ u pos : Nat, v5 = u ∧ cf g 4 M M' ∧ M' 1 2 = pos ∧ pos ≤ n ∧ M' (g + o) 1 = w ∧ bo g o M M' ∧ (0 ≤ v3 ∧ v3 < 8) ∧ ((v4 = 1 ∧ pc3 v3 = u ∧ pBranch T n kn ws p = (pUpds T n kn (4 - u) (bit3 v3) pos).bd (fun _ q2 => .ok w q2) ∧ cbr T n kn p (g + o) M' v3 (uP T n kn (4 - u) pos)) ∨ (v4 = 0 ∧ u ≤ 4 ∧ (pBranch T n kn ws p = .ok w pos ∨ (pBranch T n kn ws p = .bad pos ∧ pms (chr T n pos))) ∧ cbr T n kn p (g + o) M' v3 (fun _ => 0)))
theorem c_branch {M : fm_M} (h : CS T n g M) (hb : CB g M) {kn : Nat → Int} (hkn : ∀ v, v < 3 → M (g + 1) v = kn v) {p : Nat} (hp : M 1 2 = p) (hpn : p ≤ n) {o : Nat} (B : BrOk g o) {ws : Int} (hws : 0 ≤ ws ∧ ws ≤ 6)
    (ko : ∀ w q M', (pBranch T n kn ws p = .ok w q ∨ (pBranch T n kn ws p = .bad q ∧ pms (chr T n q))) → cf g 4 M M' → M' 1 2 = q → q ≤ n → M' (g + o) 1 = w → 1 ≤ w → w ≤ 6 - ws → bo g o M M' → w = ivn T n p → q = brE T n kn p → cbs T n kn p (g + o) M' → post 0 M') (kb : ∀ b M', pBranch T n kn ws p = .bad b → cx g 4 M M' → M' 1 3 = b → thr IAE M') : wp_Rd_readBranch M (g + o) (6 - ws) post thr := by
  have hn := h.t.1
  have hg := h.gg
  have hsz : fm_sz (g + o + 1) = 12 := by unfold fm_sz; rw [B.t1.2]
  have ht1 : g + (o + 1) < nC ∧ TC (g + (o + 1)) = .inr (0, fm_sz (g + (o + 1))) := by rw [← Nat.add_assoc, hsz]; exact B.t1
  refine ⟨B.t0, c_brClear hg B (fun M0 f0 e0 d0 z0 => ?_)⟩
  have c0 := h.cf f0
  have p0 : M0 1 2 = p := by rw [e0]; exact hp
  refine c_num c0 p0 hpn (rg_small (by omega)) (rg_small (by omega)) (fun w q M1 e f1 q1 M2 e2 => ?_) (fun M1 e f1 w1 => kb p M1 (by unfold pBranch; rw [e, bd_bad]) (f0.trx (f1.mono (by omega))) w1)
  have hw := pNum_ok h.t e
  have f2 : cf g 4 M M2 := by rw [e2]; exact (f0.tr (f1.mono (by omega))).u (by omega) B.lo.1 (by have := B.lo; omega) B.b1 (by omega)
  have c2 := h.cf f2
  have q2 : M2 1 2 = q := by rw [e2, fu_off _ _ _ (by omega)]; exact q1
  have w2 : M2 (g + o) 1 = w := by rw [e2, fu_at, if_pos rfl]
  have d2 : bo g o M M2 := fun a h1 h2 h3 => by rw [e2, fu_off _ _ _ h2, f1.cell a h1 (by omega)]; exact d0 a h1 h2 h3
  have hR : pBranch T n kn ws p = (if chr T n q = 58 then (pUpds T n kn 4 (fun _ => false) (q + 1)).bd (fun _ q2 => .ok w q2) else .ok w q) := by unfold pBranch; rw [e, bd_ok]
  have hqn : q = nq T n p := (pNum_val e).2
  have z2 : ∀ v x, v < 3 → x < 4 → M2 (g + o + 1) (4 * v + x) = if x = v then 1 else 0 := fun v x hv hx => by rw [e2, fu_off _ _ _ (by omega), f1.cell (g + o + 1) (by omega) (by omega)]; exact z0 v x hv hx
  -- the updates
  have main : ∀ (M3 : fm_M) (v4 : Int) (pos0 : Nat), cf g 4 M M3 → M3 1 2 = pos0 → pos0 ≤ n → M3 (g + o) 1 = w → bo g o M M3 → ((v4 = 1 ∧ pBranch T n kn ws p = (pUpds T n kn 4 (bit3 0) pos0).bd (fun _ q2 => .ok w q2) ∧ cbr T n kn p (g + o) M3 0 (uP T n kn 4 pos0)) ∨ (v4 = 0 ∧ pBranch T n kn ws p = .ok w pos0 ∧ cbr T n kn p (g + o) M3 0 (fun _ => 0))) → B_Rd_readBranch_27 (g + o) (6 - ws) post thr M3 0 v4 0 := by
    intro M3 v4 pos0 f3 q3 l3 w3 d3 hI0
    refine ⟨cBI T n g o kn M ws p w, fun _ _ _ v5 => (4 - v5).toNat, ⟨0, pos0, rfl, f3, q3, l3, w3, d3, by omega, ?_⟩, ?_⟩
    · rcases hI0 with ⟨a, b, c⟩ | ⟨a, b, c⟩
      · exact Or.inl ⟨a, by decide, b, c⟩
      · exact Or.inr ⟨a, by omega, Or.inl b, c⟩
    rintro M4 v3 v4 v5 ⟨u, pos, rfl, f4, q4, l4, w4, d4, hv3, hI⟩
    have hpc3 : pc3 v3 ≤ 3 := by
      obtain ⟨x, hx⟩ : ∃ x : Fin 8, v3 = (x.1 : Int) := ⟨⟨v3.toNat, by omega⟩, by simp; omega⟩
      rw [hx]; exact bit_full x
    have hu4 : u ≤ 4 := by
      rcases hI with ⟨_, a, _⟩ | ⟨_, a, _⟩ <;> omega
    have hv4 : v4 = 0 ∨ v4 = 1 := by
      rcases hI with ⟨a, _⟩ | ⟨a, _⟩
      · exact Or.inr a
      · exact Or.inl a
    have rv : rg v4 := rg_small (by rcases hv4 with e | e <;> rw [e] <;> decide)
    have c4 := h.cf f4
    have e14 : M4 (g + 1) = M (g + 1) := f4.cell (g + 1) (by omega) (by omega)
    unfold C_Rd_readBranch_27
    refine ⟨rg_small (by omega), fun h5 => ?_, fun h5 => ⟨rv, fun hz => ?_, fun hz => ?_⟩⟩
    · rcases hI with ⟨_, a, _⟩ | ⟨_, _, a, b⟩
      · omega
      · exact ko w pos M4 a f4 q4 l4 w4 hw.1 hw.2.1 d4 (pNum_val e).1 (by rw [← brE_eq e]; rcases a with a | ⟨a, _⟩ <;> rw [a] <;> rfl) (cbr_end b)
    · rcases hI with ⟨a, _⟩ | ⟨_, _, a, b⟩
      · rw [a] at hz; exact absurd hz (by decide)
      · exact ko w pos M4 a f4 q4 l4 w4 hw.1 hw.2.1 d4 (pNum_val e).1 (by rw [← brE_eq e]; rcases a with a | ⟨a, _⟩ <;> rw [a] <;> rfl) (cbr_end b)
    · obtain ⟨hpc, hS, hK⟩ : pc3 v3 = u ∧ pBranch T n kn ws p = (pUpds T n kn (4 - u) (bit3 v3) pos).bd (fun _ q2 => .ok w q2) ∧ cbr T n kn p (g + o) M4 v3 (uP T n kn (4 - u) pos) := by
        rcases hI with ⟨_, a, b⟩ | ⟨a, _⟩
        · exact ⟨a, b⟩
        · exact absurd a hz
      rw [show 4 - u = (3 - u) + 1 by omega, pUpds] at hS
      rw [show 4 - u = (3 - u) + 1 by omega] at hK
      refine c_name c4 (f4.cb hb) q4 l4 (fun M5 a1 a2 f5 q5 l5 => ?_) (fun M5 a1 f5 w5 => kb pos M5 ?_ (f4.trx (f5.mono (by omega))) w5)
      · have hv : (chr T n pos - 97).toNat < 3 := by unfold nam at a1; omega
        have ev : chr T n pos - 97 = (((chr T n pos - 97).toNat : Nat) : Int) := by unfold nam at a1; omega
        rw [e14, hkn _ hv] at a2
        generalize hvv : (chr T n pos - 97).toNat = v at hv a2 hS ev
        rw [ev]
        have f45 := f4.tr (f5.mono (l' := 4) (by omega))
        have w5 : M5 (g + o) 1 = w := by rw [f5.cell (g + o) (by omega) (by omega)]; exact w4
        have d5 : bo g o M M5 := fun a h1 h2 h3 => by rw [f5.cell a h1 (by omega)]; exact d4 a h1 h2 h3
        have c5 := h.cf f45
        refine ⟨rg_jand _ _, fun hbz => ⟨rg_small (by decide), fun _ => ?_, fun h => absurd rfl h⟩, fun hbz => ⟨rg_small (by decide), fun h => absurd h (by decide), fun _ => c_refuse (fun M6 e6 => kb pos M6 ?_ ?_ ?_)⟩⟩
        · -- a variable that is not yet updated
          have hup : bit3 v3 v = false := by unfold bit3; simp [hbz]
          rw [if_pos ⟨a1, a2, hup⟩] at hS
          refine c_expect c5 q5 l5 (rg_small (by decide)) (by decide) (fun M6 hc6 f6 q6 l6 => ⟨B.t0, ?_⟩) (fun M6 hc6 f6 w6 => kb (pos + 1) M6 (by rw [hS, if_neg hc6, bd_bad]) (f45.trx (f6.mono (by omega))) w6)
          rw [if_pos hc6] at hS
          have f46 := f45.tr (f6.mono (l' := 4) (by omega))
          refine c_clearSum hg B hv (fun M7 f7 a7 b7 d7 z7 => ?_)
          have f47 := f46.tr f7
          have c7 := h.cf f47
          have q7 : M7 1 2 = (pos + 2 : Nat) := by rw [a7]; exact q6
          have e17 : M7 (g + 1) = M (g + 1) := f47.cell (g + 1) (by omega) (by omega)
          have w7 : M7 (g + o) 1 = w := by rw [b7, f6.cell (g + o) (by omega) (by omega)]; exact w5
          have eo : g + o + 1 = g + (o + 1) := by omega
          have et : ((v : Int) * 4) = ((4 * v : Nat) : Int) := by omega
          rw [eo, et]
          refine c_sum c7 (f47.cb hb) (kn := kn) (fun v hv => by rw [e17]; exact hkn v hv) q7 l6 (o := o + 1) (by have := B.lo; omega) B.n1 ht1 (by rw [← Nat.add_assoc, hsz]; omega) 1 (fun r M8 en8 f8 q8 l8 so8 ad8 => ?_) (fun b M8 e8 f8 w8 => kb b M8 (by rw [hS, e8, bd_bad, bd_bad]) (f47.trx f8) w8)
          have f48 := f47.tr f8
          have c8 := h.cf f48
          have w8 : M8 (g + o) 1 = w := by rw [so8 (g + o) (by omega) (by omega)]; exact w7
          have d8 : bo g o M M8 := fun a h1 h2 h3 => by rw [so8 a h1 (by omega), d7 a h1 h2 h3, f6.cell a h1 (by omega)]; exact d5 a h1 h2 h3
          obtain ⟨x, hx⟩ : ∃ x : Fin 8, v3 = (x.1 : Int) := ⟨⟨v3.toNat, by omega⟩, by simp; omega⟩
          have hrg := bit_rg x ⟨v, hv⟩
          have hor := bit_or x ⟨v, hv⟩
          have hpo := pc_or x ⟨v, hv⟩
          rw [← hx] at hrg hor hpo
          have hr0 : ps (pSum T n kn (pos + 2)) = r := by
            rcases en8 with e | ⟨e, _⟩ <;> rw [e] <;> rfl
          have s8 : ∀ y, M8 (g + o + 1) y = if 4 * v ≤ y ∧ y < 4 * v + 4 then vSu T n kn (pos + 2) (y - 4 * v) else M4 (g + o + 1) y := fun y => by
            rw [eo, ad8 y, ← eo, z7 y, f6.cell (g + o + 1) (by omega) (by omega), f5.cell (g + o + 1) (by omega) (by omega)]
            split
            · show 0 + 1 * vSu T n kn (pos + 2) (y - 4 * v) = _; omega
            · omega
          -- what has been read
          have hK8 : ∀ rest : Nat → Nat, (∀ z, z < 3 → z ≠ v → uP T n kn ((3 - u) + 1) pos z = rest z) → ∀ M9 : fm_M, M9 (g + o + 1) = M8 (g + o + 1) → cbr T n kn p (g + o) M9 (jor v3 (jshl 1 v)) rest := fun rest hr M9 e9 z hz => by
            rw [e9]
            have hb := hor ⟨z, hz⟩
            simp only at hb
            have hz4 := hK z hz
            by_cases ezv : z = v
            · subst ezv
              rw [if_pos rfl] at hb
              have hbu : brU T n kn p z = pos + 2 := by rw [(hz4.2 hup).1, uP, hvv, if_pos rfl]
              refine ⟨fun _ => ⟨by omega, fun x hx => ?_⟩, fun hf => by rw [hb] at hf; exact absurd hf (by decide)⟩
              rw [s8, if_pos (by omega), hbu, show 4 * z + x - 4 * z = x by omega]
            · rw [if_neg ezv] at hb
              refine ⟨fun ht => ⟨(hz4.1 (by rw [← hb]; exact ht)).1, fun x hx => ?_⟩, fun hf => ⟨?_, fun x hx => ?_⟩⟩
              · rw [s8, if_neg (by omega)]; exact (hz4.1 (by rw [← hb]; exact ht)).2 x hx
              · rw [(hz4.2 (by rw [← hb]; exact hf)).1]; exact hr z hz ezv
              · rw [s8, if_neg (by omega)]; exact (hz4.2 (by rw [← hb]; exact hf)).2 x hx
          refine c_skips c8 q8 l8 (rg_small (by decide)) (by decide) (fun M9 hc9 f9 q9 l9 => ?_) (fun hc9 => ?_)
          · refine ⟨⟨u + 1, r + 1, by omega, f48.tr (f9.mono (by omega)), q9, l9, by rw [f9.cell (g + o) (by omega) (by omega)]; exact w8, fun a h1 h2 h3 => by rw [f9.cell a h1 (by omega)]; exact d8 a h1 h2 h3, hrg, Or.inl ⟨rfl, by rw [hpo hup, hpc], ?_, hK8 _ (fun z hz hne => by rw [uP, hvv, if_neg hne, hr0, if_pos hc9, show 4 - (u + 1) = 3 - u by omega]) M9 (f9.cell _ (by omega) (by omega))⟩⟩, by dsimp only; omega⟩
            rcases en8 with e8 | ⟨_, e8⟩
            · rw [hS, e8, bd_ok, if_pos hc9, show 4 - (u + 1) = 3 - u by omega]
              congr 1
              exact pUpds_congr _ _ _ _ (fun z hz => by
                have := hor ⟨z, hz⟩
                rw [this])
            · exact absurd hc9 (by unfold pms at e8; omega)
          · refine ⟨⟨u + 1, r, by omega, f48, q8, l8, w8, d8, hrg, Or.inr ⟨rfl, by omega, ?_, hK8 _ (fun z hz hne => by rw [uP, hvv, if_neg hne, hr0, if_neg hc9]) M8 rfl⟩⟩, by dsimp only; omega⟩
            rcases en8 with e8 | ⟨e8, e8'⟩
            · exact Or.inl (by rw [hS, e8, bd_ok, if_neg hc9, bd_ok])
            · exact Or.inr ⟨by rw [hS, e8, bd_bad, bd_bad], e8'⟩
        · have hup : bit3 v3 v = true := by unfold bit3; simp [hbz]
          rw [hS, if_neg (fun hh => by rw [hup] at hh; exact absurd hh.2.2 (by decide)), bd_bad]
        · rw [e6]; exact f45.at3 (by omega) _
        · rw [e6, fu_at, if_pos rfl, q4]
      · rw [hS, if_neg (fun hh => a1 ⟨hh.1, by rw [e14, hkn _ (by have := hh.1; unfold nam at this; omega)]; exact hh.2.1⟩), bd_bad]
  refine c_skips c2 q2 hw.2.2.2.2.2 (rg_small (by decide)) (by decide) (fun M3 hc f3 q3 l3 => main M3 1 (q + 1) (f2.tr (f3.mono (by omega))) q3 l3 (by rw [f3.cell (g + o) (by omega) (by omega)]; exact w2) (fun a h1 h2 h3 => by rw [f3.cell a h1 (by omega)]; exact d2 a h1 h2 h3) (Or.inl ⟨rfl, ?_, fun v hv => ⟨fun ht => by rw [bit0 ⟨v, hv⟩] at ht; exact absurd ht (by decide), fun _ => ⟨by unfold brU; rw [← hqn, if_pos hc], fun x hx => by rw [f3.cell (g + o + 1) (by omega) (by omega)]; exact z2 v x hv hx⟩⟩⟩)) (fun hc => main M2 0 q f2 q2 hw.2.2.2.2.2 w2 d2 (Or.inr ⟨rfl, by rw [hR, if_neg hc], fun v hv => ⟨fun ht => by rw [bit0 ⟨v, hv⟩] at ht; exact absurd ht (by decide), fun _ => ⟨by unfold brU; rw [← hqn, if_neg hc], fun x hx => z2 v x hv hx⟩⟩⟩))
  rw [hR, if_pos hc]
  congr 1
  exact pUpds_congr _ _ _ _ (fun z hz => by
    have : z = 0 ∨ z = 1 ∨ z = 2 := by omega
    rcases this with e | e | e <;> subst e <;> decide)
end Cl3
end Pu_S
section Pu_U
section Cl4
variable {T : Nat → Int} {n g : Nat} {post : Int → fm_M → Prop} {thr : String → fm_M → Prop}
/-- where a command stands in a game -/
def CmOk (g c : Nat) : Prop :=
  (g + (7 + 13 * c) < nC ∧ TC (g + (7 + 13 * c)) = .inl (4, ks_Cm)) ∧
  (g + (7 + 13 * c) + 4 < nC ∧ TC (g + (7 + 13 * c) + 4) = .inr (7, 4)) ∧
  (∀ e ∈ CBt, e.1 = 7 + 13 * c → e.2.1 ≤ 2 → 2 < e.2.2.1 → e.2.2.2 = (0, 1)) ∧
  (∀ e ∈ CBt, e.1 = 7 + 13 * c → e.2.1 ≤ 3 → 3 < e.2.2.1 → e.2.2.2 = (0, 4)) ∧
  (∀ e ∈ CBt, e.1 = 7 + 13 * c → e.2.1 ≤ 4 → 4 < e.2.2.1 → e.2.2.2 = (0, 6))
theorem CmOk.t0 {g c : Nat} (h_ : CmOk g c) : g + (7 + 13 * c) < nC ∧ TC (g + (7 + 13 * c)) = .inl (4, ks_Cm) := h_.1
theorem CmOk.t4 {g c : Nat} (h_ : CmOk g c) : g + (7 + 13 * c) + 4 < nC ∧ TC (g + (7 + 13 * c) + 4) = .inr (7, 4) := h_.2.1
theorem CmOk.b2 {g c : Nat} (h_ : CmOk g c) : ∀ e ∈ CBt, e.1 = 7 + 13 * c → e.2.1 ≤ 2 → 2 < e.2.2.1 → e.2.2.2 = (0, 1) := h_.2.2.1
theorem CmOk.b3 {g c : Nat} (h_ : CmOk g c) : ∀ e ∈ CBt, e.1 = 7 + 13 * c → e.2.1 ≤ 3 → 3 < e.2.2.1 → e.2.2.2 = (0, 4) := h_.2.2.2.1
theorem CmOk.b4 {g c : Nat} (h_ : CmOk g c) : ∀ e ∈ CBt, e.1 = 7 + 13 * c → e.2.1 ≤ 4 → 4 < e.2.2.1 → e.2.2.2 = (0, 6) := h_.2.2.2.2
theorem cm_a1 : ∀ c : Fin 10, (4 + (7 + 13 * c.1) < nC ∧ TC (4 + (7 + 13 * c.1)) = .inl (4, ks_Cm)) ∧ (4 + (7 + 13 * c.1) + 4 < nC ∧ TC (4 + (7 + 13 * c.1) + 4) = .inr (7, 4)) := by decide
theorem cm_a2 : ∀ c : Fin 10, (143 + (7 + 13 * c.1) < nC ∧ TC (143 + (7 + 13 * c.1)) = .inl (4, ks_Cm)) ∧ (143 + (7 + 13 * c.1) + 4 < nC ∧ TC (143 + (7 + 13 * c.1) + 4) = .inr (7, 4)) := by decide
theorem cm_b2 : ∀ c : Fin 10, ∀ e ∈ CBt, e.1 = 7 + 13 * c.1 → e.2.1 ≤ 2 → 2 < e.2.2.1 → e.2.2.2 = (0, 1) := by decide
theorem cm_b3 : ∀ c : Fin 10, ∀ e ∈ CBt, e.1 = 7 + 13 * c.1 → e.2.1 ≤ 3 → 3 < e.2.2.1 → e.2.2.2 = (0, 4) := by decide
theorem cm_b4 : ∀ c : Fin 10, ∀ e ∈ CBt, e.1 = 7 + 13 * c.1 → e.2.1 ≤ 4 → 4 < e.2.2.1 → e.2.2.2 = (0, 6) := by decide
theorem cmOk (hg : g = 4 ∨ g = 143) {c : Nat} (hc : c < 10) : CmOk g c := by
  rcases hg with e | e <;> subst e
  · exact ⟨(cm_a1 ⟨c, hc⟩).1, (cm_a1 ⟨c, hc⟩).2, cm_b2 ⟨c, hc⟩, cm_b3 ⟨c, hc⟩, cm_b4 ⟨c, hc⟩⟩
  · exact ⟨(cm_a2 ⟨c, hc⟩).1, (cm_a2 ⟨c, hc⟩).2, cm_b2 ⟨c, hc⟩, cm_b3 ⟨c, hc⟩, cm_b4 ⟨c, hc⟩⟩
/-- a command as it stands in its cells -/
def cco (T : Nat → Int) (n : Nat) (kn : Nat → Int) (p k : Nat) (M : fm_M) : Prop :=
  M k 2 = (if chr T n p = 43 then 1 else 0) ∧ M k 3 = (bN T n kn 3 (bp T n kn p 0) : Nat) ∧ M k 4 = sm (bN T n kn 3 (bp T n kn p 0)) (fun b => ivn T n (bp T n kn p b)) ∧ M (k + 1) 2 = (tN T n kn 3 (p + 1) : Nat) ∧ cgu T n kn (p + 1) (k + 1) M (tN T n kn 3 (p + 1)) ∧ ∀ b, b < bN T n kn 3 (bp T n kn p 0) → M (k + 5 + 2 * b) 1 = ivn T n (bp T n kn p b) ∧ cbs T n kn (bp T n kn p b) (k + 5 + 2 * b) M
theorem cco_same {T : Nat → Int} {n : Nat} {kn : Nat → Int} {p k : Nat} {M M' : fm_M} (h : cco T n kn p k M) (hb : bN T n kn 3 (bp T n kn p 0) ≤ 4) (e : ∀ a, k ≤ a → a < k + 13 → M' a = M a) : cco T n kn p k M' := by
  obtain ⟨h1, h2, h3, h4, h5, h6⟩ := h
  refine ⟨by rw [e k (by omega) (by omega)]; exact h1, by rw [e k (by omega) (by omega)]; exact h2, by rw [e k (by omega) (by omega)]; exact h3, by rw [e (k + 1) (by omega) (by omega)]; exact h4, ?_, fun b hb' => ⟨?_, ?_⟩⟩
  · unfold cgu; rw [e (k + 1 + 1) (by omega) (by omega), e (k + 1 + 2) (by omega) (by omega)]; exact h5
  · rw [e _ (by omega) (by omega)]; exact (h6 b hb').1
  · unfold cbs; rw [e (k + 5 + 2 * b + 1) (by omega) (by omega)]; exact (h6 b hb').2
theorem bN_le {T : Nat → Int} {n : Nat} {kn : Nat → Int} : ∀ {f p : Nat}, bN T n kn f p ≤ f + 1 := by
  intro f
  induction f with
  | zero => intro p; rw [bN]; omega
  | succ f ih =>
    intro p; rw [bN]; split
    · have := ih (p := brE T n kn p + 1); omega
    · omega
/-- the command's cells alone -/
def cfr (k : Nat) (M M' : fm_M) : Prop := ∀ a, a ≠ 1 → ¬ (k ≤ a ∧ a < k + 13) → M' a = M a
/-- while a command's branches are read -/
def cCI (T : Nat → Int) (n g c : Nat) (kn : Nat → Int) (M : fm_M) (s0 : Int) (p : Nat) (M' : fm_M) (v2 v3 : Int) : Prop :=
  ∃ b pos : Nat, ∃ ws : Int, v3 = b ∧ b ≤ 4 ∧ cf g 4 M M' ∧ M' 1 2 = pos ∧ pos ≤ n ∧ M' (g + (7 + 13 * c)) 3 = b ∧ M' (g + (7 + 13 * c)) 4 = ws ∧ 0 ≤ ws ∧ ws ≤ 6 ∧
  (cfr (g + (7 + 13 * c)) M M' ∧ M' (g + (7 + 13 * c)) 2 = s0 ∧ M' (g + (7 + 13 * c) + 1) 2 = (tN T n kn 3 (p + 1) : Nat) ∧ cgu T n kn (p + 1) (g + (7 + 13 * c) + 1) M' (tN T n kn 3 (p + 1)) ∧ ws = sm b (fun b => ivn T n (bp T n kn p b)) ∧ ∀ b', b' < b → M' (g + (7 + 13 * c) + 5 + 2 * b') 1 = ivn T n (bp T n kn p b') ∧ cbs T n kn (bp T n kn p b') (g + (7 + 13 * c) + 5 + 2 * b') M') ∧
  ((v2 = 1 ∧ b < 4 ∧ pCmd T n kn p = (pBranch T n kn ws pos).bd (fun w q2 => (pBrs T n kn (3 - b) (ws + w) q2).bd (fun _ q3 => pEnd T n 59 q3)) ∧ pos = bp T n kn p b ∧ b + bN T n kn (3 - b) pos = bN T n kn 3 (bp T n kn p 0)) ∨ (v2 = 0 ∧ pCmd T n kn p = pEnd T n 59 pos ∧ b = bN T n kn 3 (bp T n kn p 0)))
theorem c_command {M : fm_M} (h : CS T n g M) (hb : CB g M) {kn : Nat → Int} (hkn : ∀ v, v < 3 → M (g + 1) v = kn v) {p : Nat} (hp : M 1 2 = p) (hpn : p ≤ n) (hpm : pms (chr T n p)) {c : Nat} (hc : c < 10)
    (ko : ∀ q M', pCmd T n kn p = .ok () q → cf g 4 M M' → M' 1 2 = q → q ≤ n → cfr (g + (7 + 13 * c)) M M' → cco T n kn p (g + (7 + 13 * c)) M' → post 0 M') (kb : ∀ b M', pCmd T n kn p = .bad b → cx g 4 M M' → M' 1 3 = b → thr IAE M') : wp_Rd_readCommand M (g + (7 + 13 * c)) post thr := by
  have hn := h.t.1
  have hg := h.gg
  have C := cmOk hg hc
  have G := guC hg hc
  have hp1 : p + 1 ≤ n := chr_lt h.t (by rcases hpm with e | e <;> rw [e] <;> decide)
  have main : ∀ s0 : Int, (s0 = 0 ∨ s0 = 1) → s0 = (if chr T n p = 43 then 1 else 0) → B_Rd_readCommand_15 (g + (7 + 13 * c)) post thr M s0 := by
    intro s0 hs0 hown
    refine ⟨C.t0, hs0, fun M1 e1 M2 e2 => ?_⟩
    have f1 : cf g 4 M M1 := by rw [e1]; exact cf.refl.u (by omega) (by omega) (by omega) C.b2 (by omega)
    have f2 : cf g 4 M M2 := by rw [e2]; exact f1.at2 (by omega) _
    have q2 : M2 1 2 = (p + 1 : Nat) := by rw [e2, fu_at, if_pos rfl, e1, fu_off _ _ _ (by omega), hp]; rfl
    have c2 := h.cf f2
    rw [show g + (7 + 13 * c) + 1 = g + (8 + 13 * c) by omega]
    refine c_guard c2 (f2.cb hb) (kn := kn) (fun v hv => by rw [f2.cell (g + 1) (by omega) (by omega)]; exact hkn v hv) q2 hp1 G (fun q M3 en f3 q3 l3 r3 n3 g3 => ?_) (fun b M3 e f3 w3 => kb b M3 (by unfold pCmd; rw [e, bd_bad]) (f2.trx f3) w3)
    have f23 := f2.tr f3
    have c3 := h.cf f23
    refine c_expect c3 q3 l3 (rg_small (by decide)) (by decide) (fun M4 hc4 f4 q4 l4 M5 e5 M6 e6 => ?_) (fun M4 hc4 f4 w4 => kb q M4 ?_ (f23.trx (f4.mono (by omega))) w4)
    · have hR0 : pCmd T n kn p = (pBranch T n kn 0 (q + 1)).bd (fun w q2 => (pBrs T n kn 3 (0 + w) q2).bd (fun _ q3 => pEnd T n 59 q3)) := by
        unfold pCmd
        rcases en with e | ⟨_, e⟩
        · rw [e, bd_ok, if_pos hc4]; simp only [Int.zero_add]
        · exact absurd hc4 (by unfold pms at e; omega)
      have f24 := f23.tr (f4.mono (l' := 4) (by omega))
      have f5 : cf g 4 M M5 := by rw [e5]; exact f24.u (by omega) (by omega) (by omega) C.b3 (by omega)
      have f6 : cf g 4 M M6 := by rw [e6]; exact f5.u (by omega) (by omega) (by omega) C.b4 (by omega)
      have q6 : M6 1 2 = (q + 1 : Nat) := by rw [e6, fu_off _ _ _ (by omega), e5, fu_off _ _ _ (by omega)]; exact q4
      have z3 : M6 (g + (7 + 13 * c)) 3 = 0 := by rw [e6, fu_at, if_neg (by decide), e5, fu_at, if_pos rfl]
      have z4 : M6 (g + (7 + 13 * c)) 4 = 0 := by rw [e6, fu_at, if_pos rfl]
      -- the branches
      have hk8 : g + (7 + 13 * c) + 1 = g + (8 + 13 * c) := by omega
      have hbp0 : bp T n kn p 0 = q + 1 := by
        rw [bp]
        rcases en with e | ⟨e, _⟩ <;> rw [e] <;> rfl
      have fr6 : cfr (g + (7 + 13 * c)) M M6 := fun a h1 h2 => by
        rw [e6, fu_off _ _ _ (by omega), e5, fu_off _ _ _ (by omega), f4.cell a h1 (by omega), r3 a h1 (by omega), e2, fu_off _ _ _ h1, e1, fu_off _ _ _ (by omega)]
      have s6 : M6 (g + (7 + 13 * c)) 2 = s0 := by
        rw [e6, fu_at, if_neg (by decide), e5, fu_at, if_neg (by decide), f4.cell _ (by omega) (by omega), r3 _ (by omega) (by omega), e2, fu_off _ _ _ (by omega), e1, fu_at, if_pos rfl]
      have gu6 : ∀ a, g + (8 + 13 * c) ≤ a → a ≤ g + (8 + 13 * c) + 2 → M6 a = M3 a := fun a h1 h2 => by
        rw [e6, fu_off _ _ _ (by omega), e5, fu_off _ _ _ (by omega), f4.cell a (by omega) (by omega)]
      have n6 : M6 (g + (7 + 13 * c) + 1) 2 = (tN T n kn 3 (p + 1) : Nat) := by rw [hk8, gu6 _ (by omega) (by omega)]; exact n3
      have g6 : cgu T n kn (p + 1) (g + (7 + 13 * c) + 1) M6 (tN T n kn 3 (p + 1)) := by
        rw [hk8]; unfold cgu; rw [gu6 (g + (8 + 13 * c) + 1) (by omega) (by omega), gu6 (g + (8 + 13 * c) + 2) (by omega) (by omega)]; exact g3
      refine ⟨cCI T n g c kn M s0 p, fun _ _ v3 => (4 - v3).toNat, ⟨0, q + 1, 0, rfl, by omega, f6, q6, l4, z3, z4, by omega, by omega, ⟨fr6, s6, n6, g6, rfl, fun b' hb' => by omega⟩, Or.inl ⟨rfl, by omega, hR0, hbp0.symm, by rw [hbp0, Nat.zero_add]⟩⟩, ?_⟩
      rintro M7 v2 v3 ⟨b, pos, ws, rfl, hb4, f7, q7, l7, k3, k4, hw0, hw6, ⟨fr7, s7, n7, g7, ws7, br7⟩, hI⟩
      have c7 := h.cf f7
      have hv2 : v2 = 0 ∨ v2 = 1 := by
        rcases hI with ⟨a, _⟩ | ⟨a, _⟩
        · exact Or.inr a
        · exact Or.inl a
      have rv : rg v2 := rg_small (by rcases hv2 with e | e <;> rw [e] <;> decide)
      have last : pCmd T n kn p = pEnd T n 59 pos → b = bN T n kn 3 (bp T n kn p 0) → B_Rd_readCommand_139 (g + (7 + 13 * c)) post thr M7 := fun e hbn => by
        refine c_expect c7 q7 l7 (rg_small (by decide)) (by decide) (fun M8 hc8 f8 q8 l8 => ko (pos + 1) M8 ?_ (f7.tr (f8.mono (by omega))) q8 l8 (fun a h1 h2 => by rw [f8.cell a h1 (by omega)]; exact fr7 a h1 h2) (cco_same (M := M7) ?_ (by omega) (fun a h1 h2 => f8.cell a (by omega) (by omega)))) (fun M8 hc8 f8 w8 => kb pos M8 ?_ (f7.trx (f8.mono (by omega))) w8)
        · rw [e]; unfold pEnd; rw [if_pos hc8]
        · refine ⟨by rw [s7]; exact hown, by rw [← hbn]; exact k3, by rw [← hbn, k4]; exact ws7, n7, g7, fun b' hb' => br7 b' (by omega)⟩
        · rw [e]; unfold pEnd; rw [if_neg hc8]
      unfold C_Rd_readCommand_56
      refine ⟨rg_small (by omega), fun h8 => ?_, fun h8 => ⟨rv, fun hz => ?_, fun hz => ⟨C.t0, C.t4, by omega, ?_⟩⟩⟩
      · rcases hI with ⟨_, a, _⟩ | ⟨_, a, a'⟩
        · omega
        · exact last a a'
      · rcases hI with ⟨a, _⟩ | ⟨_, a, a'⟩
        · rw [a] at hz; exact absurd hz (by decide)
        · exact last a a'
      · obtain ⟨hb5, hS, hbp, hbn⟩ : b < 4 ∧ pCmd T n kn p = (pBranch T n kn ws pos).bd (fun w q2 => (pBrs T n kn (3 - b) (ws + w) q2).bd (fun _ q3 => pEnd T n 59 q3)) ∧ pos = bp T n kn p b ∧ b + bN T n kn (3 - b) pos = bN T n kn 3 (bp T n kn p 0) := by
          rcases hI with ⟨_, a, b⟩ | ⟨a, _⟩
          · exact ⟨a, b⟩
          · exact absurd a hz
        have B := brOk hg hc hb5
        rw [Int.toNat_natCast, show g + (7 + 13 * c) + 4 + 1 + 2 * b = g + (12 + 13 * c + 2 * b) by omega, k4]
        refine c_branch c7 (f7.cb hb) (kn := kn) (fun v hv => by rw [f7.cell (g + 1) (by omega) (by omega)]; exact hkn v hv) q7 l7 B ⟨hw0, hw6⟩ (fun w r M8 en8 f8 q8 l8 w8 h1 h2 d8 hwv hre bs8 => ⟨B.t0, fun M9 e9 M10 e10 => ?_⟩) (fun bb M8 e8 f8 w8 => kb bb M8 (by rw [hS, e8, bd_bad]) (f7.trx f8) w8)
        have f78 := f7.tr f8
        have k8 : M8 (g + (7 + 13 * c)) = M7 (g + (7 + 13 * c)) := d8 _ (by omega) (by omega) (by omega)
        rw [k8, k4, w8] at e9
        have k39 : M9 (g + (7 + 13 * c)) 3 = b := by rw [e9, fu_at, if_neg (by decide), k8, k3]
        rw [k39] at e10
        have f9 : cf g 4 M M9 := by rw [e9]; exact f78.u (by omega) (by omega) (by omega) C.b4 (by omega)
        have f10 : cf g 4 M M10 := by rw [e10]; exact f9.u (by omega) (by omega) (by omega) C.b3 (by omega)
        have q10 : M10 1 2 = r := by rw [e10, fu_off _ _ _ (by omega), e9, fu_off _ _ _ (by omega)]; exact q8
        have k310 : M10 (g + (7 + 13 * c)) 3 = (b + 1 : Nat) := by rw [e10, fu_at, if_pos rfl]; rfl
        have k410 : M10 (g + (7 + 13 * c)) 4 = ws + w := by rw [e10, fu_at, if_neg (by decide), e9, fu_at, if_pos rfl]
        have c10 := h.cf f10
        have o10 : ∀ a, a ≠ 1 → a ≠ g + (7 + 13 * c) → a ≠ g + (12 + 13 * c + 2 * b) → a ≠ g + (12 + 13 * c + 2 * b) + 1 → M10 a = M7 a := fun a h1 h2 h3 h4 => by
          rw [e10, fu_off _ _ _ h2, e9, fu_off _ _ _ h2]; exact d8 a h1 h3 h4
        have o8 : ∀ a, a ≠ g + (7 + 13 * c) → M10 a = M8 a := fun a h2 => by rw [e10, fu_off _ _ _ h2, e9, fu_off _ _ _ h2]
        have P10 : cfr (g + (7 + 13 * c)) M M10 ∧ M10 (g + (7 + 13 * c)) 2 = s0 ∧ M10 (g + (7 + 13 * c) + 1) 2 = (tN T n kn 3 (p + 1) : Nat) ∧ cgu T n kn (p + 1) (g + (7 + 13 * c) + 1) M10 (tN T n kn 3 (p + 1)) ∧ ws + w = sm (b + 1) (fun b => ivn T n (bp T n kn p b)) ∧ ∀ b', b' < b + 1 → M10 (g + (7 + 13 * c) + 5 + 2 * b') 1 = ivn T n (bp T n kn p b') ∧ cbs T n kn (bp T n kn p b') (g + (7 + 13 * c) + 5 + 2 * b') M10 := by
          refine ⟨fun a h1 h2 => by rw [o10 a h1 (by omega) (by omega) (by omega)]; exact fr7 a h1 h2, ?_, by rw [o10 _ (by omega) (by omega) (by omega) (by omega)]; exact n7, ?_, by rw [sm, ← ws7, ← hbp, ← hwv], fun b' hb' => ?_⟩
          · rw [e10, fu_at, if_neg (by decide), e9, fu_at, if_neg (by decide), k8]; exact s7
          · unfold cgu; rw [o10 (g + (7 + 13 * c) + 1 + 1) (by omega) (by omega) (by omega) (by omega), o10 (g + (7 + 13 * c) + 1 + 2) (by omega) (by omega) (by omega) (by omega)]; exact g7
          · by_cases e : b' = b
            · subst e
              rw [← hbp, show g + (7 + 13 * c) + 5 + 2 * b' = g + (12 + 13 * c + 2 * b') by omega]
              refine ⟨by rw [o8 _ (by omega), w8]; exact hwv, ?_⟩
              unfold cbs; rw [o8 _ (by omega)]; exact bs8
            · have := br7 b' (by omega)
              refine ⟨by rw [o10 _ (by omega) (by omega) (by omega) (by omega)]; exact this.1, ?_⟩
              unfold cbs; rw [o10 _ (by omega) (by omega) (by omega) (by omega)]; exact this.2
        have stop : pCmd T n kn p = pEnd T n 59 r → b + 1 = bN T n kn 3 (bp T n kn p 0) → B_Rd_readCommand_132 (g + (7 + 13 * c)) post thr (fun M'_1 v2' v3' => cCI T n g c kn M s0 p M'_1 v2' v3' ∧ (4 - v3').toNat < (4 - (b : Int)).toNat) M10 b 0 := fun e e' => ⟨⟨b + 1, r, ws + w, by omega, by omega, f10, q10, l8, k310, k410, by omega, by omega, P10, Or.inr ⟨rfl, e, e'⟩⟩, by omega⟩
        have P11 : ∀ M11, cf g 137 M10 M11 → cfr (g + (7 + 13 * c)) M M11 ∧ M11 (g + (7 + 13 * c)) 2 = s0 ∧ M11 (g + (7 + 13 * c) + 1) 2 = (tN T n kn 3 (p + 1) : Nat) ∧ cgu T n kn (p + 1) (g + (7 + 13 * c) + 1) M11 (tN T n kn 3 (p + 1)) ∧ ws + w = sm (b + 1) (fun b => ivn T n (bp T n kn p b)) ∧ ∀ b', b' < b + 1 → M11 (g + (7 + 13 * c) + 5 + 2 * b') 1 = ivn T n (bp T n kn p b') ∧ cbs T n kn (bp T n kn p b') (g + (7 + 13 * c) + 5 + 2 * b') M11 := fun M11 f11 => by
          have o11 : ∀ a, a ≠ 1 → M11 a = M10 a := fun a h1 => f11.cell a h1 (by omega)
          obtain ⟨x1, x2, x3, x4, x5, x6⟩ := P10
          refine ⟨fun a h1 h2 => by rw [o11 a h1]; exact x1 a h1 h2, by rw [o11 _ (by omega)]; exact x2, by rw [o11 _ (by omega)]; exact x3, by unfold cgu; rw [o11 _ (by omega), o11 _ (by omega)]; exact x4, x5, fun b' hb' => ⟨by rw [o11 _ (by omega)]; exact (x6 b' hb').1, by unfold cbs; rw [o11 _ (by omega)]; exact (x6 b' hb').2⟩⟩
        rw [k310]
        refine ⟨rg_small (by omega), fun h9 => stop ?_ (by rw [show 3 - b = 0 by omega] at hbn; exact hbn), fun h9 => c_skips c10 q10 l8 (rg_small (by decide)) (by decide) (fun M11 hc11 f11 q11 l11 => ⟨rg_small (by decide), fun h => absurd h (by decide), fun _ => ⟨⟨b + 1, r + 1, ws + w, by omega, by omega, f10.tr (f11.mono (by omega)), q11, l11, by rw [f11.cell _ (by omega) (by omega)]; exact k310, by rw [f11.cell _ (by omega) (by omega)]; exact k410, by omega, by omega, P11 M11 f11, Or.inl ⟨rfl, by omega, ?_, ?_, ?_⟩⟩, by dsimp only; omega⟩⟩) (fun hc11 => ⟨rg_small (by decide), fun _ => stop ?_ ?_, fun h => absurd rfl h⟩)⟩
        · have : b = 3 := by omega
          subst this
          rcases en8 with e | ⟨e, e'⟩
          · rw [hS, e, bd_ok, show 3 - 3 = 0 from rfl, pBrs]
            by_cases hh : chr T n r = 124
            · rw [if_pos hh, bd_bad]; unfold pEnd; rw [if_neg (by omega)]
            · rw [if_neg hh, bd_ok]
          · rw [hS, e, bd_bad]; unfold pEnd; rw [if_neg (by unfold pms at e'; omega)]
        · rcases en8 with e | ⟨_, e'⟩
          · rw [hS, e, bd_ok, show 3 - b = (3 - (b + 1)) + 1 by omega, pBrs, if_pos hc11]
            cases pBranch T n kn (ws + w) (r + 1) with
            | inl x => rfl
            | inr b => rfl
          · exact absurd hc11 (by unfold pms at e'; omega)
        · rw [bp, ← hbp, ← hre]
        · rw [show 3 - b = (3 - (b + 1)) + 1 by omega, bN, ← hre, if_pos hc11] at hbn; omega
        · rcases en8 with e | ⟨e, e'⟩
          · rw [hS, e, bd_ok, show 3 - b = (3 - (b + 1)) + 1 by omega, pBrs, if_neg hc11, bd_ok]
          · rw [hS, e, bd_bad]; unfold pEnd; rw [if_neg (by unfold pms at e'; omega)]
        · rw [show 3 - b = (3 - (b + 1)) + 1 by omega, bN, ← hre, if_neg hc11] at hbn; exact hbn
    · unfold pCmd
      rcases en with e | ⟨e, _⟩
      · rw [e, bd_ok, if_neg hc4]
      · rw [e, bd_bad]
  exact c_here h hp hpn ⟨rgc h.t p, fun e => main 0 (Or.inl rfl) (by rw [if_neg e]), fun e => main 1 (Or.inr rfl) (by rw [if_pos e])⟩
theorem c_gmClear {M : fm_M} (hg : g = 4 ∨ g = 143) (k : ∀ M', cf g 0 M M' → M' 1 = M 1 → (∀ v, v < 3 → M' (g + 1) v = 0) → (∀ v, v < 3 → M' (g + 2) v = 0) → M' g 4 = 0 → post 0 M') : wp_Gm_clear M g post thr := by
  have t := tcG hg
  refine ⟨fun M' v1 => ∃ x : Nat, v1 = x ∧ x ≤ 3 ∧ cf g 0 M M' ∧ M' 1 = M 1 ∧ ∀ v, v < x → M' (g + 1) v = 0 ∧ M' (g + 2) v = 0, fun _ v1 => (3 - v1).toNat, ⟨0, rfl, by omega, cf.refl, rfl, fun v hv => by omega⟩, ?_⟩
  rintro M1 v1 ⟨x, rfl, hx, f1, e1, z1⟩
  have b1 : ∀ e ∈ CBt, e.1 = 0 → e.2.1 ≤ 4 → 4 < e.2.2.1 → e.2.2.2 = (0, 10) := by decide
  have b2 : ∀ v : Fin 3, ∀ e ∈ CBt, e.1 = 1 → e.2.1 ≤ v.1 → v.1 < e.2.2.1 → e.2.2.2 = (0, 9) := by decide
  have b3 : ∀ v : Fin 3, ∀ e ∈ CBt, e.1 = 2 → e.2.1 ≤ v.1 → v.1 < e.2.2.1 → e.2.2.2 = (0, 9) := by decide
  unfold C_Gm_clear_2
  refine ⟨rg_small (by omega), fun h4 => ⟨t.1, fun M2 e2 => k M2 ?_ ?_ (fun v hv => ?_) (fun v hv => ?_) ?_⟩, fun h4 => ⟨t.1, t.2.1, by omega, fun M2 e2 => ⟨t.2.2.1, fun M3 e3 => ⟨⟨x + 1, by omega, by omega, ?_, ?_, fun v hv => ?_⟩, by dsimp only; omega⟩⟩⟩⟩
  · rw [e2]; exact f1.u (o := 0) (by omega) (by omega) (by omega) b1 (by omega)
  · rw [e2, fu_off _ _ _ (by omega)]; exact e1
  · rw [e2, fu_off _ _ _ (by omega)]; exact (z1 v (by omega)).1
  · rw [e2, fu_off _ _ _ (by omega)]; exact (z1 v (by omega)).2
  · rw [e2, fu_at, if_pos rfl]
  · rw [e3, e2, Int.toNat_natCast]
    exact (f1.u (by omega) (by omega) (by omega) (b2 ⟨x, by omega⟩) (by omega)).u (by omega) (by omega) (by omega) (b3 ⟨x, by omega⟩) (by omega)
  · rw [e3, fu_off _ _ _ (by omega), e2, fu_off _ _ _ (by omega)]; exact e1
  · rw [e3, fu_off _ _ _ (show g + 1 ≠ g + 2 by omega), fu_at, e2, fu_at, fu_off _ _ _ (show g + 2 ≠ g + 1 by omega), Int.toNat_natCast]
    by_cases e : v = x
    · rw [if_pos e, if_pos e]; exact ⟨rfl, rfl⟩
    · rw [if_neg e, if_neg e]; exact z1 v (by omega)
theorem c_variable {M : fm_M} (h : CS T n g M) (hb : CB g M) {kn : Nat → Int} (hkn : ∀ v, v < 3 → M (g + 1) v = kn v) {p : Nat} (hp : M 1 2 = p) (hpn : p ≤ n) (hnm : nam (chr T n p))
    (ko : ∀ m q M', pDecl T n kn p = .ok m q → cf g 0 M M' → M' 1 2 = q → q ≤ n → (∀ v, v < 3 → M' (g + 1) v = if v = (chr T n p - 97).toNat then m else kn v) → M' g = M g → (∀ v, M' (g + 2) v = if v = (chr T n p - 97).toNat then ivn T n (nq T n (p + 1) + 1) else M (g + 2) v) → q = dE T n p → 1 ≤ m → post 0 M') (kb : ∀ b M', pDecl T n kn p = .bad b → cx g 0 M M' → M' 1 3 = b → thr IAE M') : wp_Rd_readVariable M post thr := by
  have hn := h.t.1
  have hg := h.gg
  have t := tcG hg
  have b2 : ∀ v : Fin 3, ∀ e ∈ CBt, e.1 = 1 → e.2.1 ≤ v.1 → v.1 < e.2.2.1 → e.2.2.2 = (0, 9) := by decide
  have b3 : ∀ v : Fin 3, ∀ e ∈ CBt, e.1 = 2 → e.2.1 ≤ v.1 → v.1 < e.2.2.1 → e.2.2.2 = (0, 9) := by decide
  obtain ⟨v, hv⟩ : ∃ v : Nat, chr T n p - 97 = v := ⟨(chr T n p - 97).toNat, by unfold nam at hnm; omega⟩
  have hv3 : v < 3 := by unfold nam at hnm; omega
  have ev : (chr T n p - 97).toNat = v := by omega
  have hp1 : p + 1 ≤ n := chr_lt h.t (by unfold nam at hnm; omega)
  rw [ev] at ko
  refine c_here h hp hpn ?_
  rw [h.gm, hv]
  refine ⟨t.1, c_hasVar hg hb hv3 (fun hk => ⟨rg_small (by decide), fun h => absurd h (by decide), fun _ => c_refuse (fun M1 e1 => kb p M1 ?_ ?_ ?_)⟩) (fun hk => ⟨rg_small (by decide), fun _ M1 e1 => ?_, fun h => absurd rfl h⟩)⟩
  · unfold pDecl; rw [ev, if_pos (by rw [← hkn v hv3]; exact hk)]
  · rw [e1]; exact cf.refl.at3 (by omega) _
  · rw [e1, fu_at, if_pos rfl, hp]
  · have f1 : cf g 137 M M1 := by rw [e1]; exact cf.refl.at2 (by omega) _
    have c1 := h.cf f1
    have q1 : M1 1 2 = (p + 1 : Nat) := by rw [e1, fu_at, if_pos rfl, hp]; rfl
    have hD : pDecl T n kn p = (pNum T n 1 9 (p + 1)).bd (fun m q => if chr T n q = 58 then (pNum T n 0 m (q + 1)).bd (fun _ q2 => if chr T n q2 = 59 then .ok m (q2 + 1) else .bad q2) else .bad q) := by
      unfold pDecl; rw [ev, if_neg (by rw [← hkn v hv3]; exact hk)]
    rw [c1.gm]
    refine ⟨t.1, c_num c1 q1 hp1 (rg_small (by decide)) (rg_small (by decide)) (fun m q M2 e f2 q2 => ⟨t.2.1, by omega, fun M3 e3 => ?_⟩) (fun M2 e f2 w2 => kb _ M2 (by rw [hD, e, bd_bad]) ((f1.trx f2).mono (by omega)) w2)⟩
    have hm := pNum_ok h.t e
    rw [hD, e, bd_ok] at ko kb
    have f12 := (f1.tr f2).mono (l' := 0) (by omega)
    rw [Int.toNat_natCast] at e3
    have f3 : cf g 0 M M3 := by rw [e3]; exact f12.u (by omega) (by omega) (by omega) (b2 ⟨v, hv3⟩) (by omega)
    have c3 := h.cf f3
    have q3 : M3 1 2 = q := by rw [e3, fu_off _ _ _ (by omega)]; exact q2
    have m3 : ∀ x, M3 (g + 1) x = if x = v then m else M (g + 1) x := fun x => by rw [e3, fu_at, (f1.tr f2).cell (g + 1) (by omega) (by omega)]
    refine c_expect c3 q3 hm.2.2.2.2.2 (rg_small (by decide)) (by decide) (fun M4 hc4 f4 q4 l4 => ?_) (fun M4 hc4 f4 w4 => kb q M4 (by rw [if_neg hc4]) (f3.trx (f4.mono (by omega))) w4)
    rw [if_pos hc4] at ko kb
    have f34 := f3.tr (f4.mono (l' := 0) (by omega))
    have c4 := h.cf f34
    have m4 : M4 (g + 1) = M3 (g + 1) := f4.cell (g + 1) (by omega) (by omega)
    rw [c4.gm, Int.toNat_natCast, m4, m3, if_pos rfl]
    refine ⟨t.1, t.2.1, c_num c4 q4 l4 (rg_small (by decide)) (rg_small (by omega)) (fun s r M5 e5 f5 q5 => ⟨t.2.2.1, fun M6 e6 => ?_⟩) (fun M5 e5 f5 w5 => kb _ M5 (by rw [e5, bd_bad]) (f34.trx (f5.mono (by omega))) w5)⟩
    have hs := pNum_ok h.t e5
    rw [e5, bd_ok] at ko kb
    have f35 := f34.tr (f5.mono (l' := 0) (by omega))
    have f6 : cf g 0 M M6 := by rw [e6]; exact f35.u (by omega) (by omega) (by omega) (b3 ⟨v, hv3⟩) (by omega)
    have c6 := h.cf f6
    have q6 : M6 1 2 = r := by rw [e6, fu_off _ _ _ (by omega)]; exact q5
    refine c_expect c6 q6 hs.2.2.2.2.2 (rg_small (by decide)) (by decide) (fun M7 hc7 f7 q7 l7 => ko m (r + 1) M7 (by rw [if_pos hc7]) (f6.tr (f7.mono (by omega))) q7 l7 (fun x hx => ?_) ?_ (fun x => ?_) ?_ hm.1) (fun M7 hc7 f7 w7 => kb r M7 (by rw [if_neg hc7]) (f6.trx (f7.mono (by omega))) w7)
    · rw [f7.cell (g + 1) (by omega) (by omega), e6, fu_off _ _ _ (by omega), f5.cell (g + 1) (by omega) (by omega), m4, m3]
      split
      · rfl
      · exact hkn x hx
    · rw [f7.cell g (by omega) (by omega), e6, fu_off _ _ _ (by omega), f5.cell g (by omega) (by omega), f4.cell g (by omega) (by omega), e3, fu_off _ _ _ (by omega), (f1.tr f2).cell g (by omega) (by omega)]
    · rw [f7.cell (g + 2) (by omega) (by omega), e6, fu_at, f5.cell (g + 2) (by omega) (by omega), f4.cell (g + 2) (by omega) (by omega), e3, fu_off _ _ _ (by omega), (f1.tr f2).cell (g + 2) (by omega) (by omega), (pNum_val e5).1, (pNum_val e).2]
    · unfold dE; rw [(pNum_val e5).2, (pNum_val e).2]
end Cl4
end Pu_U
section Pu_V
section Cl5
variable {T : Nat → Int} {n g : Nat} {post : Int → fm_M → Prop} {thr : String → fm_M → Prop}
/-- the variables that the text declares, and where its commands stand -/
def KN (T : Nat → Int) (n : Nat) : Nat → Int := match pDecls T n 3 (fun _ => 0) 0 with
  | Sum.inl x => x.1
  | Sum.inr _ => fun _ => 0
def P1 (T : Nat → Int) (n : Nat) : Nat := ps (pDecls T n 3 (fun _ => 0) 0)
def cpp (T : Nat → Int) (n c : Nat) : Nat := cp T n (KN T n) (P1 T n) c
/-- the game as it stands in the cells -/
def CC (T : Nat → Int) (n g c : Nat) (M : fm_M) : Prop :=
  (∀ v, v < 3 → M (g + 1) v = KN T n v) ∧ (∀ v, v < 3 → M (g + 2) v = dF T n 3 0 v) ∧ (∀ c', c' < c → cco T n (KN T n) (cpp T n c') (g + (7 + 13 * c')) M) ∧ M (g + 4) 2 = (tN T n (KN T n) 3 (cpp T n c + 1) : Nat) ∧ cgu T n (KN T n) (cpp T n c + 1) (g + 4) M (tN T n (KN T n) 3 (cpp T n c + 1))
/-- what has been laid down before a command -/
def CH (T : Nat → Int) (n g : Nat) (kn : Nat → Int) (c pos : Nat) (M : fm_M) : Prop := (∃ c q, pAll T n = .ok c q) → kn = KN T n ∧ pos = cpp T n c ∧ (∀ v, v < 3 → M (g + 2) v = dF T n 3 0 v) ∧ ∀ c', c' < c → cco T n (KN T n) (cpp T n c') (g + (7 + 13 * c')) M
theorem c_last {M M1 : fm_M} (h : CS T n g M) (hb : CB g M) (f1 : cf g 0 M M1) {kn : Nat → Int} (hkn : ∀ v, v < 3 → M1 (g + 1) v = kn v) {c pos k1 : Nat} (hp : M1 1 2 = pos) (hpn : pos ≤ n) (hc : M1 g 4 = c) (hc10 : c ≤ 10) (hA : pAll T n = pLast T n kn c pos) (hH : CH T n g kn c pos M1)
    (ko : ∀ c q M2 M', pAll T n = .ok c q → cf g 0 M M2 → M2 g 4 = c → CC T n g c M2 → M' = fm_u M2 1 1 (k1 : Nat) → post (g : Nat) M') (kb : ∀ b M', pAll T n = .bad b → cx g 0 M M' → M' 1 3 = b → thr IAE M') : B_Rd_readInPlaceOf_89 k1 post thr M1 := by
  have hn := h.t.1
  have hg := h.gg
  have c1 := h.cf f1
  refine c_expect c1 hp hpn (rg_small (by decide)) (by decide) (fun M2 hc2 f2 q2 l2 => ?_) (fun M2 hc2 f2 w2 => kb pos M2 (by rw [hA]; unfold pLast; rw [if_neg hc2]) (f1.trx (f2.mono (by omega))) w2)
  have f12 := f1.tr (f2.mono (l' := 0) (by omega))
  have c2 := h.cf f12
  rw [c2.gm]
  have hA2 : pAll T n = (pGuard T n kn (pos + 1)).bd (fun _ p3 => if n ≤ p3 then .ok c p3 else .bad p3) := by rw [hA]; unfold pLast; rw [if_pos hc2]
  refine ⟨(tcG hg).1, c_guard c2 (f12.cb hb) (kn := kn) (fun v hv => by rw [f2.cell (g + 1) (by omega) (by omega)]; exact hkn v hv) q2 l2 (guT hg) (fun q M3 en f3 q3 l3 r3 n3 g3 => ?_) (fun b M3 e f3 w3 => kb b M3 (by rw [hA2, e, bd_bad]) (f12.trx (f3.mono (by omega))) w3)⟩
  have f13 := f12.tr (f3.mono (l' := 0) (by omega))
  have c3 := h.cf f13
  have k3 : M3 g 4 = c := by rw [f3.cell g (by omega) (by omega), f2.cell g (by omega) (by omega)]; exact hc
  rw [q3, c3.len]
  refine ⟨rg_small (by omega), rg_small (by omega), fun h4 M4 e4 => ?_, fun h4 => c_refuse (fun M4 e4 => kb q M4 ?_ ?_ ?_)⟩
  · have hok : pAll T n = .ok c q := by
      rcases en with e | ⟨_, e⟩
      · rw [hA2, e, bd_ok, if_pos (by omega)]
      · have : q < n := chr_lt h.t (by unfold pms at e; omega)
        omega
    rw [c3.gm]
    obtain ⟨hk, hpos, hfv, hcc⟩ := hH ⟨c, q, hok⟩
    have o3 : ∀ a, a ≠ 1 → ¬ (g + 4 ≤ a ∧ a ≤ g + 6) → M3 a = M1 a := fun a h1 h2 => by rw [r3 a h1 (by omega), f2.cell a h1 (by omega)]
    subst hk
    refine ko c q M3 M4 hok f13 k3 ⟨fun v hv => by rw [o3 _ (by omega) (by omega)]; exact hkn v hv, fun v hv => by rw [o3 _ (by omega) (by omega)]; exact hfv v hv, fun c' hc' => cco_same (hcc c' hc') bN_le (fun a h1 h2 => o3 a (by omega) (by omega)), by rw [← hpos]; exact n3, by rw [← hpos]; exact g3⟩ e4
  · rcases en with e | ⟨e, _⟩
    · rw [hA2, e, bd_ok, if_neg (by omega)]
    · rw [hA2, e, bd_bad]
  · rw [e4]; exact f13.at3 (by omega) _
  · rw [e4, fu_at, if_pos rfl]
theorem c_readIn {M : fm_M} (h : CS T n g M) (hb : CB g M) {k1 : Nat}
    (ko : ∀ c q M2 M', pAll T n = .ok c q → cf g 0 M M2 → M2 g 4 = c → CC T n g c M2 → M' = fm_u M2 1 1 (k1 : Nat) → post (g : Nat) M') (kb : ∀ b M', pAll T n = .bad b → cx g 0 M M' → M' 1 3 = b → thr IAE M') : wp_Rd_readInPlaceOf M k1 post thr := by
  have hn := h.t.1
  have hg := h.gg
  have t := tcG hg
  intro M0 e0
  have f0 : cf g 0 M M0 := by rw [e0]; exact cf.refl.at2 (by omega) _
  have c0 := h.cf f0
  rw [c0.gm]
  refine ⟨t.1, c_gmClear hg (fun M1 f1 e1 z1 z12 k1' => ?_)⟩
  have f01 := f0.tr f1
  have q1 : M1 1 2 = (0 : Nat) := by rw [e1, e0, fu_at, if_pos rfl]; rfl
  -- the commands
  have cmds : ∀ (M2 : fm_M) (kn : Nat → Int) (pos : Nat), cf g 0 M M2 → (∀ v, v < 3 → M2 (g + 1) v = kn v) → M2 1 2 = pos → pos ≤ n → M2 g 4 = 0 → (pAll T n = (pCmds T n kn 10 0 pos).bd (fun c p2 => pLast T n kn c p2) ∨ (pAll T n = .bad pos ∧ nam (chr T n pos))) → CH T n g kn 0 pos M2 → B_Rd_readInPlaceOf_39 k1 post thr M2 := by
    intro M2 kn pos f2 hkn q2 l2 z2 hA hH2
    refine ⟨fun M' v2 => ∃ c pos : Nat, v2 = c ∧ c ≤ 10 ∧ cf g 0 M M' ∧ (∀ v, v < 3 → M' (g + 1) v = kn v) ∧ M' 1 2 = pos ∧ pos ≤ n ∧ M' g 4 = c ∧ CH T n g kn c pos M' ∧ (pAll T n = (pCmds T n kn (10 - c) c pos).bd (fun c p2 => pLast T n kn c p2) ∨ (pAll T n = .bad pos ∧ nam (chr T n pos))), fun _ v2 => (10 - v2).toNat, ⟨0, pos, rfl, by omega, f2, hkn, q2, l2, z2, hH2, hA⟩, ?_⟩
    rintro M3 v2 ⟨c, pos, rfl, hc, f3, k3, q3, l3, z3, hH3, hA3⟩
    have c3 := h.cf f3
    unfold C_Rd_readInPlaceOf_41
    refine ⟨rg_small (by omega), fun h4 => c_last h hb f3 k3 q3 l3 z3 hc ?_ hH3 ko kb, fun h4 => c_here c3 q3 l3 (c_pm (rgc h.t pos) (fun hpm => ⟨rg_small (by decide), fun h => absurd h (by decide), fun _ => ?_⟩) (fun hpm => ⟨rg_small (by decide), fun _ => c_last h hb f3 k3 q3 l3 z3 hc ?_ hH3 ko kb, fun h => absurd rfl h⟩))⟩
    · have : c = 10 := by omega
      subst this
      rcases hA3 with e | ⟨e, e'⟩
      · rw [e, show 10 - 10 = 0 from rfl, pCmds]
        by_cases hh : pms (chr T n pos)
        · rw [if_pos hh, bd_bad]; unfold pLast; rw [if_neg (by unfold pms at hh; omega)]
        · rw [if_neg hh, bd_ok]
      · rw [e]; unfold pLast; rw [if_neg (by unfold nam at e'; omega)]
    · have hA4 : pAll T n = (pCmds T n kn (10 - c) c pos).bd (fun c p2 => pLast T n kn c p2) := by
        rcases hA3 with e | ⟨_, e'⟩
        · exact e
        · exact absurd hpm (by unfold nam at e'; unfold pms; omega)
      rw [show 10 - c = (10 - (c + 1)) + 1 by omega, pCmds, if_pos hpm] at hA4
      rw [c3.gm, Int.toNat_natCast, show g + 3 + 4 + 13 * c = g + (7 + 13 * c) by omega]
      refine ⟨t.1, t.2.2.2, by omega, c_command c3 (f3.cb hb) k3 q3 l3 hpm (by omega) (fun q M4 e4 f4 q4 l4 r4 cc4 => ?_) (fun b M4 e4 f4 w4 => kb b M4 (by rw [hA4, e4, bd_bad, bd_bad]) (f3.trx (f4.mono (by omega))) w4)⟩
      have f34 := f3.tr (f4.mono (l' := 0) (by omega))
      have c4 := h.cf f34
      rw [c4.gm]
      refine ⟨t.1, fun M5 e5 => ?_⟩
      have b1 : ∀ e ∈ CBt, e.1 = 0 → e.2.1 ≤ 4 → 4 < e.2.2.1 → e.2.2.2 = (0, 10) := by decide
      have z4 : M4 g 4 = c := by rw [f4.cell g (by omega) (by omega)]; exact z3
      rw [z4] at e5
      refine ⟨⟨c + 1, q, by omega, by omega, ?_, fun v hv => ?_, ?_, l4, ?_, fun hx => ?_, Or.inl ?_⟩, by dsimp only; omega⟩
      · rw [e5]; exact f34.u (o := 0) (by omega) (by omega) (by omega) b1 (by omega)
      · rw [e5, fu_off _ _ _ (by omega), f4.cell (g + 1) (by omega) (by omega)]; exact k3 v hv
      · rw [e5, fu_off _ _ _ (by omega)]; exact q4
      · rw [e5, fu_at, if_pos rfl]; rfl
      · obtain ⟨hk, hpos, hfv, hcc⟩ := hH3 hx
        have o5 : ∀ a, a ≠ 1 → a ≠ g → ¬ (g + (7 + 13 * c) ≤ a ∧ a < g + (7 + 13 * c) + 13) → M5 a = M3 a := fun a h1 h2 h3 => by rw [e5, fu_off _ _ _ h2]; exact r4 a h1 h3
        have o45 : ∀ a, a ≠ g → M5 a = M4 a := fun a h2 => by rw [e5, fu_off _ _ _ h2]
        refine ⟨hk, ?_, fun v hv => by rw [o5 _ (by omega) (by omega) (by omega)]; exact hfv v hv, fun c' hc' => ?_⟩
        · unfold cpp; rw [cp]
          rw [show cp T n (KN T n) (P1 T n) c = pos from hpos.symm, ← hk, e4]; rfl
        · by_cases e : c' = c
          · rw [e, ← hpos, ← hk]; exact cco_same cc4 bN_le (fun a h1 h2 => o45 a (by omega))
          · exact cco_same (hcc c' (by omega)) bN_le (fun a h1 h2 => o5 a (by omega) (by omega) (by omega))
      · rw [hA4, e4, bd_ok]
    · rcases hA3 with e | ⟨e, e'⟩
      · rw [e, show 10 - c = (10 - (c + 1)) + 1 by omega, pCmds, if_neg hpm, bd_ok]
      · rw [e]; unfold pLast; rw [if_neg (by unfold nam at e'; omega)]
  -- the variables
  refine ⟨fun M' v2 => ∃ v pos : Nat, ∃ kn : Nat → Int, v2 = v ∧ v ≤ 3 ∧ cf g 0 M M' ∧ (∀ x, x < 3 → M' (g + 1) x = kn x) ∧ M' 1 2 = pos ∧ pos ≤ n ∧ M' g 4 = 0 ∧ pDecls T n 3 (fun _ => 0) 0 = pDecls T n (3 - v) kn pos ∧ (∀ x, x < 3 → (0 < kn x → dF T n 3 0 x = M' (g + 2) x) ∧ (¬ 0 < kn x → dF T n 3 0 x = dF T n (3 - v) pos x ∧ M' (g + 2) x = 0)), fun _ v2 => (3 - v2).toNat, ⟨0, 0, fun _ => 0, rfl, by omega, f01, z1, q1, by omega, k1', rfl, fun x hx => ⟨fun h => absurd (show (0 : Int) < 0 from h) (by decide), fun _ => ⟨rfl, z12 x hx⟩⟩⟩, ?_⟩
  rintro M2 v2 ⟨v, pos, kn, rfl, hv, f2, k2, q2, l2, z2, hD, hF⟩
  have hA : pAll T n = (pDecls T n (3 - v) kn pos).bd (fun kn p1 => (pCmds T n kn 10 0 p1).bd (fun c p2 => pLast T n kn c p2)) := by unfold pAll; rw [hD]
  -- behind the last one
  have fin : (¬ nam (chr T n pos) ∨ v = 3) → (nam (chr T n pos) → pAll T n = .bad pos) → CH T n g kn 0 pos M2 := fun hor hbad ⟨c', q', hx⟩ => by
    have hnn : ¬ nam (chr T n pos) := fun hh => by rw [hbad hh] at hx; exact absurd hx (by simp)
    have e : pDecls T n 3 (fun _ => 0) 0 = .ok kn pos := by
      rw [hD]
      cases 3 - v with
      | zero => rw [pDecls, if_neg hnn]
      | succ f => rw [pDecls, if_neg hnn]
    refine ⟨by unfold KN; rw [e], by unfold cpp P1; rw [cp, e]; rfl, fun x hx' => ?_, fun c' hc' => by omega⟩
    by_cases hk : 0 < kn x
    · rw [(hF x hx').1 hk]
    · rw [((hF x hx').2 hk).1, ((hF x hx').2 hk).2]
      cases 3 - v with
      | zero => rfl
      | succ f => rw [dF, if_neg hnn]
  have c2 := h.cf f2
  unfold C_Rd_readInPlaceOf_14
  refine ⟨rg_small (by omega), fun h4 => ?_, fun h4 => c_here c2 q2 l2 (c_isName (rgc h.t pos) (fun hnm => ⟨rg_small (by decide), fun h => absurd h (by decide), fun _ => ?_⟩) (fun hnm => ⟨rg_small (by decide), fun _ => cmds M2 kn pos f2 k2 q2 l2 z2 (Or.inl ?_) (fin (Or.inl hnm) (fun hh => absurd hh hnm)), fun h => absurd rfl h⟩))⟩
  · have : v = 3 := by omega
    subst this
    rw [show 3 - 3 = 0 from rfl, pDecls] at hA
    by_cases hh : nam (chr T n pos)
    · rw [if_pos hh, bd_bad] at hA; exact cmds M2 kn pos f2 k2 q2 l2 z2 (Or.inr ⟨hA, hh⟩) (fin (Or.inr rfl) (fun _ => hA))
    · rw [if_neg hh, bd_ok] at hA; exact cmds M2 kn pos f2 k2 q2 l2 z2 (Or.inl hA) (fin (Or.inr rfl) (fun h => absurd h hh))
  · rw [show 3 - v = (3 - (v + 1)) + 1 by omega, pDecls, if_pos hnm] at hA
    refine c_variable c2 (f2.cb hb) k2 q2 l2 hnm (fun m q M3 e3 f3 q3 l3 m3 g3 v3 hq hm1 => ⟨⟨v + 1, q, _, by omega, by omega, f2.tr f3, m3, q3, l3, by rw [g3]; exact z2, ?_, fun x hx => ?_⟩, by dsimp only; omega⟩) (fun b M3 e3 f3 w3 => kb b M3 (by rw [hA, e3, bd_bad, bd_bad]) (f2.trx f3) w3)
    · rw [hD, show 3 - v = (3 - (v + 1)) + 1 by omega, pDecls, if_pos hnm, e3, bd_ok]
    · have hk0 : ¬ 0 < kn (chr T n pos - 97).toNat := fun hh => by
        unfold pDecl at e3; rw [if_pos hh] at e3; exact absurd e3 (by simp)
      have hFx := hF x hx
      rw [v3 x]
      by_cases ex : x = (chr T n pos - 97).toNat
      · rw [if_pos ex, if_pos ex]
        refine ⟨fun _ => ?_, fun hh => absurd (show 0 < m by omega) hh⟩
        rw [(hFx.2 (by rw [ex]; exact hk0)).1, show 3 - v = (3 - (v + 1)) + 1 by omega, dF, if_pos hnm, if_pos ex]
      · rw [if_neg ex, if_neg ex]
        refine ⟨hFx.1, fun hh => ⟨?_, (hFx.2 hh).2⟩⟩
        rw [(hFx.2 hh).1, show 3 - v = (3 - (v + 1)) + 1 by omega, dF, if_pos hnm, if_neg ex, ← hq]
  · rw [hA, show 3 - v = (3 - (v + 1)) + 1 by omega, pDecls, if_neg hnm, bd_ok]
end Cl5
end Pu_V
