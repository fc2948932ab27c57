set_option maxRecDepth 10000
section Pu_W
/-! The reference's reader says what the text says. -/
def MS (T : Nat → Int) (n d : Nat) (M : fm_M) : Prop :=
  (txt T n) ∧
  (M 331 2 = n) ∧
  (∀ p, p < n → M 332 p = T p) ∧
  (M 331 7 = d) ∧
  (d ≤ 1)
theorem MS.t {T : Nat → Int} {n d : Nat} {M : fm_M} (h_ : MS T n d M) : txt T n := h_.1
theorem MS.len {T : Nat → Int} {n d : Nat} {M : fm_M} (h_ : MS T n d M) : M 331 2 = n := h_.2.1
theorem MS.ch {T : Nat → Int} {n d : Nat} {M : fm_M} (h_ : MS T n d M) : ∀ p, p < n → M 332 p = T p := h_.2.2.1
theorem MS.dr {T : Nat → Int} {n d : Nat} {M : fm_M} (h_ : MS T n d M) : M 331 7 = d := h_.2.2.2.1
theorem MS.d1 {T : Nat → Int} {n d : Nat} {M : fm_M} (h_ : MS T n d M) : d ≤ 1 := h_.2.2.2.2
theorem MS.sv {T : Nat → Int} {n d : Nat} {M M' : fm_M} {cs : List Nat} (h : MS T n d M) (s : sv cs [3, 5] M M') (hc : 332 ∉ cs) : MS T n d M' := ⟨h.t, by rw [s.slot 2 (by decide)]; exact h.len, by rw [s.cell 332 hc (by decide)]; exact h.ch, by rw [s.slot 7 (by decide)]; exact h.dr, h.d1⟩
theorem RBt_ne : ∀ q ∈ RBt, q.1 ≠ 331 := by decide
theorem RB.sv {M M' : fm_M} {cs bs : List Nat} (h : RB M) (s : sv cs bs M M') (hc : ∀ q ∈ RBt, q.1 ∉ cs) : RB M' := fun q hq x hx => by
  rw [s.cell q.1 (hc q hq) (RBt_ne q hq)]; exact h q hq x hx
section Mo
variable {T : Nat → Int} {n d : Nat} {post : Int → fm_M → Prop} {thr : String → fm_M → Prop}
theorem m_here {M : fm_M} (h : MS T n d M) {p : Nat} (hp : M 331 3 = p) (hpn : p ≤ n) (k : post (chr T n p) M) : wp_Mo_here M post thr := by
  have hn := h.t.1
  unfold wp_Mo_here
  rw [hp, h.len, Int.toNat_natCast]
  refine ⟨rg_small (by omega), rg_small (by omega), fun h1 => ?_, fun h1 => ?_⟩
  · have : chr T n p = 0 := by unfold chr; rw [if_neg (by omega)]
    rw [this] at k; exact k
  · have e : chr T n p = T p := by unfold chr; rw [if_pos (by omega)]
    rw [h.ch p (by omega)]
    rw [e] at k
    exact ⟨by omega, k⟩
theorem m_within {M : fm_M} {a lo hi : Int} (ha : rg a) (hl : rg lo) (hh : rg hi) (k1 : lo ≤ a ∧ a ≤ hi → post 1 M) (k0 : ¬ (lo ≤ a ∧ a ≤ hi) → post 0 M) : wp_Mo_within M a lo hi post thr := ⟨ha, hl, fun h => k0 (by omega), fun h => ⟨hh, fun h2 => k0 (by omega), fun h2 => k1 (by omega)⟩⟩
theorem m_isDigit {M : fm_M} (h : MS T n d M) {p : Nat} (hp : M 331 3 = p) (hpn : p ≤ n) (k1 : dgt (chr T n p) → post 1 M) (k0 : ¬ dgt (chr T n p) → post 0 M) : wp_Mo_isDigit M post thr :=
  m_here h hp hpn (m_within (rgc h.t p) (rg_small (by decide)) (rg_small (by decide)) (fun e => ⟨Or.inr rfl, k1 e⟩) (fun e => ⟨Or.inl rfl, k0 e⟩))
theorem m_isName {M : fm_M} (h : MS T n d M) {p : Nat} (hp : M 331 3 = p) (hpn : p ≤ n) (k1 : nam (chr T n p) → post 1 M) (k0 : ¬ nam (chr T n p) → post 0 M) : wp_Mo_isName M post thr :=
  m_here h hp hpn (m_within (rgc h.t p) (rg_small (by decide)) (rg_small (by decide)) (fun e => ⟨Or.inr rfl, k1 e⟩) (fun e => ⟨Or.inl rfl, k0 e⟩))
abbrev s3 : List Nat := [3, 4, 5]
abbrev sok : List Nat := [3, 5]
theorem sv.us4 {cs : List Nat} {M M' : fm_M} {v : Int} (h : sv cs sok M M') : sv cs s3 M (fm_u M' 331 4 v) := (h.mono (bs' := s3) (fun _ h => h) (by decide)).us (by decide)
theorem sv.trx {cs bs cs1 bs1 : List Nat} {M M' M'' : fm_M} (h : sv cs1 bs1 M M') (h2 : sv cs bs M' M'') (hc : ∀ a ∈ cs1, a ∈ cs := by decide) (hb : ∀ a ∈ bs1, a ∈ bs := by decide) : sv cs bs M M'' := (h.mono hc hb).tr h2
theorem m_want {M : fm_M} (h : MS T n d M) {p : Nat} (hp : M 331 3 = p) (hpn : p ≤ n) {c : Int} (hc : rg c) (hc0 : c ≠ 0) (k1 : ∀ M', chr T n p = c → sv [] sok M M' → M' 331 3 = (p + 1 : Nat) → M' 331 5 = M 331 5 → p + 1 ≤ n → post 1 M') (k0 : ∀ M', chr T n p ≠ c → sv [] s3 M M' → M' 331 4 = p → post 0 M') : wp_Mo_want M c post thr := by
  refine m_here h hp hpn ⟨rgc h.t p, hc, fun e M1 e1 => k1 M1 e ?_ ?_ ?_ ?_, fun e M1 e1 => ⟨Or.inl rfl, k0 M1 e ?_ ?_⟩⟩
  · rw [e1]; exact sv.refl.us (by decide)
  · rw [e1, fu_at, if_pos rfl, hp]; rfl
  · rw [e1, fu_at, if_neg (by decide)]
  · exact chr_lt h.t (by rw [e]; exact hc0)
  · rw [e1]; exact sv.refl.us (by decide)
  · rw [e1, fu_at, if_pos rfl, hp]
theorem m_num {M : fm_M} (h : MS T n d M) {p : Nat} (hp : M 331 3 = p) (hpn : p ≤ n) {lo hi : Int} (hlo : rg lo) (hhi : rg hi) (hh9 : hi ≤ 99)
    (ko : ∀ v q M', pNum T n lo hi p = .ok v q → sv [] sok M M' → M' 331 3 = q → M' 331 5 = v → post 1 M') (kb : ∀ M', pNum T n lo hi p = .bad p → sv [] s3 M M' → M' 331 4 = p → post 0 M') : wp_Mo_readNumber M lo hi post thr := by
  have hn := h.t.1
  refine m_isDigit h hp hpn (fun h0 => ⟨rg_small (by decide), fun _ M1 e1 => ?_, fun h => absurd h (by decide)⟩) (fun h0 => ⟨rg_small (by decide), fun h => absurd rfl h, fun _ M1 e1 => ⟨Or.inl rfl, kb M1 ?_ ?_ ?_⟩⟩)
  · have hpl : p < n := chr_lt h.t (by unfold dgt at h0; omega)
    rw [hp]
    refine ⟨fun M' v3 => v3 = p ∧ ∃ k : Nat, M' 331 3 = (p + k : Nat) ∧ p + k ≤ n ∧ sv [] sok M M' ∧ (∀ j, j < k → dgt (chr T n (p + j))) ∧ 0 ≤ M' 331 5 ∧ M' 331 5 ≤ 1099 ∧ (k = 0 → M' 331 5 = 0) ∧ (k = 1 → M' 331 5 = chr T n p - 48) ∧ (k = 2 → M' 331 5 = 10 * (chr T n p - 48) + (chr T n (p + 1) - 48)) ∧ (3 ≤ k → chr T n p ≠ 48 → 100 ≤ M' 331 5), fun M' _ => ((n : Int) - M' 331 3).toNat, ⟨rfl, 0, by rw [e1, fu_at, if_neg (by decide)]; exact hp, by omega, by rw [e1]; exact sv.refl.us (by decide), fun j hj => by omega, by rw [e1, fu_at, if_pos rfl]; omega, by rw [e1, fu_at, if_pos rfl]; omega, fun _ => by rw [e1, fu_at, if_pos rfl], fun h => by omega, fun h => by omega, fun h => by omega⟩, ?_⟩
    rintro M2 v3 ⟨rfl, k, q2, l2, s2, dg2, v0, v9, k0, k1, k2, k3⟩
    have c2 := h.sv s2 (by decide)
    refine m_isDigit c2 q2 l2 (fun hdg => ⟨rg_small (by decide), fun h => absurd h (by decide), fun _ => ⟨rg_small (by omega), fun h5 => m_here c2 q2 l2 ?_, fun h5 => ?_⟩⟩) (fun hdg => ⟨rg_small (by decide), fun _ => ?_, fun h => absurd rfl h⟩)
    · intro M3 e3 M4 e4
      have hdg' := hdg
      unfold dgt at hdg'
      have q3 : M3 331 3 = (p + k : Nat) := by rw [e3, fu_at, if_neg (by decide)]; exact q2
      have q4 : M4 331 3 = (p + k : Nat) + 1 := by rw [e4, fu_at, if_pos rfl, q3]
      have v4 : M4 331 5 = 10 * M2 331 5 + chr T n (p + k) - 48 := by rw [e4, fu_at, if_neg (by decide), e3, fu_at, if_pos rfl]
      have hl : p + k < n := chr_lt h.t (by omega)
      refine ⟨⟨rfl, k + 1, by rw [q4]; rfl, by omega, by rw [e4, e3]; exact (s2.us (by decide)).us (by decide), fun j hj => ?_, by omega, by omega, fun h => by omega, fun h => ?_, fun h => ?_, fun h hc => ?_⟩, by dsimp only; rw [q4, q2]; omega⟩
      · by_cases e : j = k
        · rw [e]; exact hdg
        · exact dg2 j (by omega)
      · have : k = 0 := by omega
        subst this
        rw [v4, k0 rfl]; simp
      · have : k = 1 := by omega
        subst this
        rw [v4, k1 rfl]; omega
      · by_cases e : k = 2
        · subst e
          have a0 := dg2 0 (by omega)
          have a1 := dg2 1 (by omega)
          unfold dgt at a0 a1
          simp only [Nat.add_zero] at a0
          rw [v4, k2 rfl]; omega
        · have := k3 (by omega) hc
          omega
    · intro M3 e3 M4 e4
      have hdg' := hdg
      unfold dgt at hdg'
      have q3 : M3 331 3 = (p + k : Nat) := by rw [e3, fu_at, if_neg (by decide)]; exact q2
      have q4 : M4 331 3 = (p + k : Nat) + 1 := by rw [e4, fu_at, if_pos rfl, q3]
      have v4 : M4 331 5 = 100 := by rw [e4, fu_at, if_neg (by decide), e3, fu_at, if_pos rfl]
      have hl : p + k < n := chr_lt h.t (by omega)
      have hk3 : 3 ≤ k := by
        apply Classical.byContradiction
        intro hne
        have : k = 0 ∨ k = 1 ∨ k = 2 := by omega
        rcases this with e | e | e
        · rw [k0 e] at h5; omega
        · have a0 := dg2 0 (by omega)
          unfold dgt at a0
          simp only [Nat.add_zero] at a0
          rw [k1 e] at h5; omega
        · have a0 := dg2 0 (by omega)
          have a1 := dg2 1 (by omega)
          unfold dgt at a0 a1
          simp only [Nat.add_zero] at a0
          rw [k2 e] at h5; omega
      refine ⟨⟨rfl, k + 1, by rw [q4]; rfl, by omega, by rw [e4, e3]; exact (s2.us (by decide)).us (by decide), fun j hj => ?_, by omega, by omega, fun h => by omega, fun h => by omega, fun h => by omega, fun _ _ => by omega⟩, by dsimp only; rw [q4, q2]; omega⟩
      by_cases e : j = k
      · rw [e]; exact hdg
      · exact dg2 j (by omega)
    · -- the end of the digits
      have hk1 : 1 ≤ k := by
        apply Classical.byContradiction
        intro hne
        have : k = 0 := by omega
        subst this; exact hdg (by simpa using h0)
      have wrong : pNum T n lo hi p = .bad p → B_Mo_readNumber_124 lo hi post thr M2 p := fun e M3 e3 => ⟨rg_small (by decide), fun _ => kb M3 e (by rw [e3]; exact s2.us4) (by rw [e3, fu_at, if_pos rfl]), fun h => absurd rfl h⟩
      have right : (pNum T n lo hi p = pChk lo hi (M2 331 5) (p + k) p) → B_Mo_readNumber_105 lo hi post thr M2 p 0 := fun e => by
        refine ⟨rg_small (by decide), fun h => absurd rfl h, fun _ => m_within (rg_small (by omega)) hlo hhi (fun hh => ⟨rg_small (by decide), fun _ => ko _ (p + k) M2 ?_ s2 q2 rfl, fun h => absurd h (by decide)⟩) (fun hh => ⟨rg_small (by decide), fun h => absurd rfl h, fun _ => wrong ?_⟩)⟩
        · rw [e]; unfold pChk; rw [if_pos hh]
        · rw [e]; unfold pChk; rw [if_neg hh]
      have e332 : M2 332 p = chr T n p := by rw [c2.ch p hpl]; unfold chr; rw [if_pos hpl]
      rw [Int.toNat_natCast, e332]
      refine ⟨by omega, rgc h.t p, fun hc => ?_, fun hc => ⟨by rw [q2]; exact rg_small (by omega), rg_small (by omega), fun h6 => right ?_, fun h6 => ⟨rg_small (by decide), fun _ => wrong ?_, fun h => absurd h (by decide)⟩⟩⟩
      · by_cases e3 : 3 ≤ k
        · have hv := k3 e3 hc
          refine ⟨rg_small (by decide), fun h => absurd rfl h, fun _ => m_within (rg_small (by omega)) hlo hhi (fun hh => by omega) (fun hh => ⟨rg_small (by decide), fun h => absurd rfl h, fun _ => wrong ?_⟩)⟩
          have a1 := dg2 1 (by omega)
          have a2 := dg2 2 (by omega)
          unfold pNum; rw [if_pos h0, if_pos a1, if_pos (Or.inl a2)]
        · refine right ?_
          by_cases e1 : k = 1
          · subst e1
            rw [k1 rfl]; unfold pNum; rw [if_pos h0, if_neg hdg]
          · have e2 : k = 2 := by omega
            subst e2
            have a1 := dg2 1 (by omega)
            rw [k2 rfl]; unfold pNum; rw [if_pos h0, if_pos a1, if_neg (fun hh => by rcases hh with hh | hh; exact hdg hh; exact hc hh)]
      · rw [q2] at h6
        have e1 : k = 1 := by omega
        subst e1
        rw [k1 rfl]; unfold pNum; rw [if_pos h0, if_neg hdg]
      · rw [q2] at h6
        have a1 := dg2 1 (by omega)
        unfold pNum; rw [if_pos h0, if_pos a1, if_pos (Or.inr hc)]
  · unfold pNum; rw [if_neg h0]
  · rw [e1]; exact sv.refl.us (by decide)
  · rw [e1, fu_at, if_pos rfl, hp]
/-- the draft's variables -/
def knm (d : Nat) (M : fm_M) (kn : Nat → Int) : Prop := ∀ v, v < 3 → M 333 (3 * d + v) = kn v
theorem m_known {M : fm_M} (h : MS T n d M) (rb : RB M) {kn : Nat → Int} (hk : knm d M kn) {p : Nat} (hp : M 331 3 = p) (hpn : p ≤ n) (k1 : nam (chr T n p) → 0 < kn (chr T n p - 97).toNat → post 1 M) (k0 : ¬ (nam (chr T n p) ∧ 0 < kn (chr T n p - 97).toNat) → post 0 M) : wp_Mo_isKnown M post thr := by
  have hd := h.d1
  refine m_isName h hp hpn (fun hn => ⟨rg_small (by decide), fun h => absurd h (by decide), fun _ => m_here h hp hpn ?_⟩) (fun hn => ⟨rg_small (by decide), fun _ => k0 (fun hh => hn hh.1), fun h => absurd rfl h⟩)
  have hn' := hn
  unfold nam at hn'
  have hv : (chr T n p - 97).toNat < 3 := by omega
  have e : ((3 * (d : Int)) + chr T n p - 97).toNat = 3 * d + (chr T n p - 97).toNat := by omega
  rw [h.dr, e, hk _ hv]
  have := rb.g 333 6 0 9 (by decide) (x := 3 * d + (chr T n p - 97).toNat) (by omega)
  rw [hk _ hv] at this
  exact ⟨by omega, rg_small (by omega), fun h2 => k0 (fun hh => by omega), fun h2 => k1 hn (by omega)⟩
/-- what a sum's reading leaves -/
def sfr (s : Nat) (M M' : fm_M) : Prop := (∀ x, x ≠ s → M' 342 x = M 342 x) ∧ ∀ x, ¬ (4 * s ≤ x ∧ x < 4 * s + 4) → M' 343 x = M 343 x ∧ M' 344 x = M 344 x
/-- a sum that is left as it was -/
def same1 (x : Nat) (M M' : fm_M) : Prop := M' 342 x = M 342 x ∧ ∀ k, k < 4 → M' 343 (4 * x + k) = M 343 (4 * x + k) ∧ M' 344 (4 * x + k) = M 344 (4 * x + k)
theorem same1.tr {x : Nat} {M M1 M2 : fm_M} (h : same1 x M M1) (h2 : same1 x M1 M2) : same1 x M M2 := ⟨by rw [h2.1, h.1], fun k hk => ⟨by rw [(h2.2 k hk).1, (h.2 k hk).1], by rw [(h2.2 k hk).2, (h.2 k hk).2]⟩⟩
theorem same1.cs {x : Nat} {M M1 : fm_M} (e2 : M1 342 = M 342) (e3 : M1 343 = M 343) (e4 : M1 344 = M 344) : same1 x M M1 := ⟨by rw [e2], fun k _ => ⟨by rw [e3], by rw [e4]⟩⟩
theorem same1.ev {x : Nat} {M M1 : fm_M} (h : same1 x M M1) (rb : RB M) (hx : x < 416) (r : Nat → Int) : rsu M1 x r = rsu M x r := by
  have := rb.g 342 416 0 4 (by decide) hx
  unfold rsu
  rw [h.1]
  exact sm_congr (fun k hk => by unfold rit; rw [(h.2 k (by omega)).1, (h.2 k (by omega)).2])
theorem sfr.s1 {s x : Nat} {M M' : fm_M} (h : sfr s M M') (hx : x ≠ s) : same1 x M M' := ⟨h.1 x hx, fun k hk => h.2 (4 * x + k) (by omega)⟩
/-- the other game's guards and sums stay -/
def odr (d : Nat) (M M' : fm_M) : Prop := (∀ x, ¬ (11 * d ≤ x ∧ x < 11 * d + 11) → M' 340 x = M 340 x) ∧ (∀ x, ¬ (44 * d ≤ x ∧ x < 44 * d + 44) → M' 341 x = M 341 x) ∧ ∀ x, ¬ (208 * d ≤ x ∧ x < 208 * d + 208) → same1 x M M'
theorem odr.tr {d : Nat} {M M1 M2 : fm_M} (h : odr d M M1) (h2 : odr d M1 M2) : odr d M M2 := ⟨fun x hx => by rw [h2.1 x hx, h.1 x hx], fun x hx => by rw [h2.2.1 x hx, h.2.1 x hx], fun x hx => (h.2.2 x hx).tr (h2.2.2 x hx)⟩
theorem odr.ofs {d : Nat} {M M1 : fm_M} {cs bs : List Nat} (s : sv cs bs M M1) (h : 340 ∉ cs ∧ 341 ∉ cs ∧ 342 ∉ cs ∧ 343 ∉ cs ∧ 344 ∉ cs) : odr d M M1 := ⟨fun x _ => by rw [s.cell 340 h.1 (by decide)], fun x _ => by rw [s.cell 341 h.2.1 (by decide)], fun x _ => same1.cs (s.cell 342 h.2.2.1 (by decide)) (s.cell 343 h.2.2.2.1 (by decide)) (s.cell 344 h.2.2.2.2 (by decide))⟩
theorem odr.sf {d s : Nat} {M M1 : fm_M} {cs bs : List Nat} (v : sv cs bs M M1) (h : 340 ∉ cs ∧ 341 ∉ cs) (f : sfr s M M1) (hs : 208 * d ≤ s ∧ s < 208 * d + 208) : odr d M M1 := ⟨fun x _ => by rw [v.cell 340 h.1 (by decide)], fun x _ => by rw [v.cell 341 h.2 (by decide)], fun x hx => f.s1 (by omega)⟩
/-- what a sum may change -/
abbrev cs3 : List Nat := [342, 343, 344]
theorem m_item {M : fm_M} (h : MS T n d M) (rb : RB M) {kn : Nat → Int} (hk : knm d M kn) {p : Nat} (hp : M 331 3 = p) (hpn : p ≤ n) {s k : Nat} (hs : s < 416) (hsd : 208 * d ≤ s ∧ s < 208 * d + 208) (hk3 : k ≤ 3) (hi : M 342 s = k) {a2 : Int} (ha : a2 = 0 ∨ a2 = 1)
    (ko : ∀ q M', pItem T n kn p = .ok () q → sv cs3 sok M M' → RB M' → M' 331 3 = q → q ≤ n → M' 342 s = (k + 1 : Nat) → (∀ x, x ≠ s → M' 342 x = M 342 x) → (∀ x, x ≠ 4 * s + k → M' 343 x = M 343 x ∧ M' 344 x = M 344 x) → (∀ r, rit M' (4 * s + k) r = (if a2 = 0 then 1 else -1) * ev (vIt T n p) r) → post 1 M') (kb : ∀ b M', pItem T n kn p = .bad b → sv cs3 s3 M M' → RB M' → M' 331 4 = b → odr d M M' → post 0 M') : wp_Mo_readItem M s a2 post thr := by
  unfold wp_Mo_readItem
  rw [Int.toNat_natCast, hi, show ((4 * (s : Int)) + (k : Int)).toNat = 4 * s + k by omega]
  refine ⟨by omega, by omega, ha, fun M1 e1 => ?_⟩
  have s1 : sv cs3 sok M M1 := by rw [e1]; exact sv.refl.u (by decide) (by decide)
  have rb1 : RB M1 := by rw [e1]; exact rb.u 344 1664 0 1 (by decide) _ _ (by omega)
  have c1 := h.sv s1 (by decide)
  have p1 : M1 331 3 = p := by rw [e1, fu_off _ _ _ (by decide)]; exact hp
  have hk1 : knm d M1 kn := fun v hv => by rw [e1, fu_off _ _ _ (by decide)]; exact hk v hv
  have i1 : M1 342 = M 342 := by rw [e1, fu_off _ _ _ (by decide)]
  have od1 : odr d M M1 := ⟨fun x _ => by rw [e1, fu_off _ _ _ (by decide)], fun x _ => by rw [e1, fu_off _ _ _ (by decide)], fun x hx => ⟨by rw [i1], fun k' hk' => ⟨by rw [e1, fu_off _ _ _ (by decide)], by rw [e1, fu_at, if_neg (by omega)]⟩⟩⟩
  have fin : ∀ (M2 : fm_M) (q : Nat), pItem T n kn p = .ok () q → q ≤ n → sv cs3 sok M M2 → RB M2 → M2 331 3 = q → M2 342 = M 342 → (∀ x, x ≠ 4 * s + k → M2 343 x = M 343 x ∧ M2 344 x = M 344 x) → (∀ r, rit M2 (4 * s + k) r = (if a2 = 0 then 1 else -1) * ev (vIt T n p) r) → B_Mo_readItem_92 s a2 post thr M2 := fun M2 q e l s2 rb2 q2 i2 o2 v2 => by
    unfold B_Mo_readItem_92
    rw [Int.toNat_natCast, i2, hi]
    refine ⟨by omega, fun M3 e3 => ko q M3 e ?_ ?_ ?_ l ?_ (fun x hx => ?_) (fun x hx => by rw [e3, fu_off _ _ _ (by decide), fu_off _ _ _ (by decide)]; exact o2 x hx) (fun r => by rw [← v2 r]; unfold rit; rw [e3, fu_off _ _ _ (by decide), fu_off _ _ _ (by decide)])⟩
    · rw [e3]; exact s2.u (by decide) (by decide)
    · rw [e3]; exact rb2.u 342 416 0 4 (by decide) _ _ (by omega)
    · rw [e3, fu_off _ _ _ (by decide)]; exact q2
    · rw [e3, fu_at, if_pos rfl]; rfl
    · rw [e3, fu_at, if_neg hx, i2]
  refine m_isDigit c1 p1 hpn (fun hdg => ⟨rg_small (by decide), fun h => absurd h (by decide), fun _ => ?_⟩) (fun hdg => ⟨rg_small (by decide), fun _ => ?_, fun h => absurd rfl h⟩)
  · have hnn : ¬ nam (chr T n p) := by unfold nam; unfold dgt at hdg; omega
    refine m_num c1 p1 hpn (rg_small (by decide)) (rg_small (by decide)) (by decide) (fun v q M2 e s2 q2 v2 => ⟨rg_small (by decide), fun _ M3 e3 => ?_, fun h => absurd h (by decide)⟩) (fun M2 e s2 w2 => ⟨rg_small (by decide), fun h => absurd rfl h, fun _ => kb p M2 (by unfold pItem; rw [if_neg hnn, e, bd_bad]) (s1.trx (s2.mono (by decide) (by decide))) (rb1.sv s2 (by decide)) w2 (od1.tr (odr.ofs s2 (by decide)))⟩)
    have hv := pNum_ok h.t e
    rw [v2] at e3
    refine fin M3 q (by unfold pItem; rw [if_neg hnn, e, bd_ok]) hv.2.2.2.2.2 ?_ ?_ ?_ ?_ (fun x hx => ?_) (fun r => ?_)
    · rw [e3]; exact (s1.tr (s2.mono (by decide) (by decide))).u (by decide) (by decide)
    · rw [e3]; exact (rb1.sv s2 (by decide)).u 343 1664 0 102 (by decide) _ _ (by omega)
    · rw [e3, fu_off _ _ _ (by decide)]; exact q2
    · rw [e3, fu_off _ _ _ (by decide), s2.cell 342 (by decide) (by decide), i1]
    · rw [e3, fu_at, if_neg hx, fu_off _ _ _ (by decide), s2.cell 343 (by decide) (by decide), s2.cell 344 (by decide) (by decide), e1, fu_off _ _ _ (by decide), fu_at, if_neg hx]; exact ⟨rfl, rfl⟩
    · unfold rit
      rw [e3, fu_at, if_pos rfl, fu_off _ _ _ (by decide), s2.cell 344 (by decide) (by decide), e1, fu_at, if_pos rfl, if_pos (show v < 100 by omega), ev_num hnn, (pNum_val e).1]
  · refine m_known c1 rb1 hk1 p1 hpn (fun hnm hkv => ⟨rg_small (by decide), fun _ => m_here c1 p1 hpn (fun M2 e2 M3 e3 => ?_), fun h => absurd h (by decide)⟩) (fun hnk => ⟨rg_small (by decide), fun h => absurd rfl h, fun _ M2 e2 => ⟨Or.inl rfl, kb p M2 ?_ ?_ ?_ ?_ (od1.tr (odr.ofs (cs := []) (bs := s3) (by rw [e2]; exact sv.refl.us (by decide)) (by decide)))⟩⟩)
    · have hnm' := hnm
      unfold nam at hnm'
      refine fin M3 (p + 1) ?_ (chr_lt h.t (by omega)) ?_ ?_ ?_ ?_ (fun x hx => ?_) (fun r => ?_)
      · unfold pItem; rw [if_pos hnm, if_pos hkv]
      · rw [e3, e2]; exact (s1.u (by decide) (by decide)).us (by decide)
      · rw [e3, e2]; exact (rb1.u 343 1664 0 102 (by decide) _ _ (by omega)).o (by decide) _ _
      · rw [e3, fu_at, if_pos rfl, e2, fu_off _ _ _ (by decide), p1]; rfl
      · rw [e3, fu_off _ _ _ (by decide), e2, fu_off _ _ _ (by decide), i1]
      · rw [e3, fu_off _ _ _ (by decide), fu_off _ _ _ (by decide), e2, fu_at, if_neg hx, fu_off _ _ _ (by decide), e1, fu_off _ _ _ (by decide), fu_at, if_neg hx]; exact ⟨rfl, rfl⟩
      · unfold rit
        rw [e3, fu_off _ _ _ (by decide), fu_off _ _ _ (by decide), e2, fu_at, if_pos rfl, fu_off _ _ _ (by decide), e1, fu_at, if_pos rfl, if_neg (show ¬ (100 + chr T n p - 97 < 100) by omega), ev_name hnm, show 100 + chr T n p - 97 - 100 = chr T n p - 97 by omega]
    · unfold pItem
      by_cases hnm : nam (chr T n p)
      · rw [if_pos hnm, if_neg (fun hh => hnk ⟨hnm, hh⟩)]
      · rw [if_neg hnm]; unfold pNum; rw [if_neg hdg, bd_bad]
    · rw [e2]; exact s1.us4
    · rw [e2]; exact rb1.o (by decide) _ _
    · rw [e2, fu_at, if_pos rfl, p1]
/-- while a sum is read -/
def mSI (T : Nat → Int) (n s : Nat) (kn : Nat → Int) (M : fm_M) (p : Nat) (M' : fm_M) : Prop :=
  ∃ i pos : Nat, M' 342 s = (i + 1 : Nat) ∧ i ≤ 3 ∧ sv cs3 sok M M' ∧ RB M' ∧ M' 331 3 = pos ∧ pos ≤ n ∧ sfr s M M' ∧ pSum T n kn p = pMore T n kn (3 - i) pos ∧ ∀ r, sm (i + 1) (fun k => rit M' (4 * s + k) r) + ev (vMo T n kn (3 - i) pos) r = ev (vSu T n kn p) r
theorem m_sum {M : fm_M} (h : MS T n d M) (rb : RB M) {kn : Nat → Int} (hk : knm d M kn) {p : Nat} (hp : M 331 3 = p) (hpn : p ≤ n) {s : Nat} (hs : s < 416) (hsd : 208 * d ≤ s ∧ s < 208 * d + 208)
    (ko : ∀ q M', pSum T n kn p = .ok () q → sv cs3 sok M M' → RB M' → M' 331 3 = q → q ≤ n → 1 ≤ M' 342 s → sfr s M M' → (∀ r, rsu M' s r = ev (vSu T n kn p) r) → post 1 M') (kb : ∀ b M', pSum T n kn p = .bad b → sv cs3 s3 M M' → RB M' → M' 331 4 = b → odr d M M' → post 0 M') : wp_Mo_readSum M s post thr := by
  unfold wp_Mo_readSum
  rw [Int.toNat_natCast]
  refine ⟨by omega, fun M1 e1 => ?_⟩
  have s1 : sv cs3 sok M M1 := by rw [e1]; exact sv.refl.u (by decide) (by decide)
  have rb1 : RB M1 := by rw [e1]; exact rb.u 342 416 0 4 (by decide) _ _ (by omega)
  have c1 := h.sv s1 (by decide)
  have p1 : M1 331 3 = p := by rw [e1, fu_off _ _ _ (by decide)]; exact hp
  have hk1 : knm d M1 kn := fun v hv => by rw [e1, fu_off _ _ _ (by decide)]; exact hk v hv
  have z1 : M1 342 s = (0 : Nat) := by rw [e1, fu_at, if_pos rfl]; rfl
  have o1 : ∀ x, x ≠ s → M1 342 x = M 342 x := fun x hx => by rw [e1, fu_at, if_neg hx]
  have od1 : odr d M M1 := ⟨fun x _ => by rw [e1, fu_off _ _ _ (by decide)], fun x _ => by rw [e1, fu_off _ _ _ (by decide)], fun x hx => ⟨o1 x (by omega), fun k' hk' => ⟨by rw [e1, fu_off _ _ _ (by decide)], by rw [e1, fu_off _ _ _ (by decide)]⟩⟩⟩
  refine m_item c1 rb1 hk1 p1 hpn hs hsd (by omega) z1 (Or.inl rfl) (fun q M2 e s2 rb2 q2 l2 i2 o2 x2 v2 => ⟨rg_small (by decide), fun _ => ?_, fun h => absurd h (by decide)⟩) (fun b M2 e s2 rb2 w2 d2 => ⟨rg_small (by decide), fun h => absurd rfl h, fun _ => kb b M2 (by unfold pSum; rw [e, bd_bad]) (s1.trx s2) rb2 w2 (od1.tr d2)⟩)
  have hS0 : pSum T n kn p = pMore T n kn 3 q := by unfold pSum; rw [e, bd_ok]
  refine ⟨mSI T n s kn M p, fun M' => (5 - M' 342 s).toNat, ⟨0, q, i2, by omega, s1.tr s2, rb2, q2, l2, ⟨fun x hx => by rw [o2 x hx, o1 x hx], fun x hx => by rw [(x2 x (by omega)).1, (x2 x (by omega)).2, e1, fu_off _ _ _ (by decide), fu_off _ _ _ (by decide)]; exact ⟨rfl, rfl⟩⟩, hS0, fun r => ?_⟩, ?_⟩
  · rw [sm, sm, v2 r, ev_add (H := vSu T n kn p) (F := vIt T n p) (G := vMo T n kn 3 q) (c := 1) (fun x => by unfold vSu; rw [ps_ok e]; omega)]
    simp
  rintro M3 ⟨i, pos, i3, hi3, s3', rb3, q3, l3, o3, hS, hV⟩
  have c3 := h.sv s3' (by decide)
  have hk3 : knm d M3 kn := fun v hv => by rw [s3'.cell 333 (by decide) (by decide)]; exact hk v hv
  have go : pms (chr T n pos) → B_Mo_readSum_36 s post thr (fun M'_1 => mSI T n s kn M p M'_1 ∧ (5 - M'_1 342 s).toNat < (5 - M3 342 s).toNat) M3 := by
    intro hpm
    have hl1 : pos + 1 ≤ n := chr_lt h.t (by rcases hpm with e | e <;> rw [e] <;> decide)
    have st : ∀ z : Int, (z = 0 ∨ z = 1) → (if z = 0 then (1 : Int) else -1) = (if chr T n pos = 45 then -1 else 1) → B_Mo_readSum_50 s post thr (fun M'_1 => mSI T n s kn M p M'_1 ∧ (5 - M'_1 342 s).toNat < (5 - M3 342 s).toNat) M3 z := by
      intro z hz hzs
      unfold B_Mo_readSum_50
      rw [Int.toNat_natCast, i3]
      refine ⟨by omega, rg_small (by omega), fun h4 M4 e4 => ?_, fun h4 M4 e4 => ⟨Or.inl rfl, kb pos M4 ?_ ?_ ?_ ?_ ((odr.sf s3' (by decide) o3 hsd).tr (odr.ofs (cs := []) (bs := s3) (by rw [e4]; exact sv.refl.us (by decide)) (by decide)))⟩⟩
      · rw [show 3 - i = (3 - (i + 1)) + 1 by omega, pMore, if_pos hpm] at hS
        have s4 : sv cs3 sok M M4 := by rw [e4]; exact s3'.us (by decide)
        have rb4 : RB M4 := by rw [e4]; exact rb3.o (by decide) _ _
        have c4 := h.sv s4 (by decide)
        have q4 : M4 331 3 = (pos + 1 : Nat) := by rw [e4, fu_at, if_pos rfl, q3]; rfl
        have i4 : M4 342 = M3 342 := by rw [e4, fu_off _ _ _ (by decide)]
        have hk4 : knm d M4 kn := fun v hv => by rw [e4, fu_off _ _ _ (by decide)]; exact hk3 v hv
        refine m_item c4 rb4 hk4 q4 hl1 hs hsd (k := i + 1) (by omega) (by rw [i4]; exact i3) hz (fun r M5 e5 s5 rb5 q5 l5 i5 o5 x5 v5 => ⟨rg_small (by decide), fun _ => ⟨⟨i + 1, r, i5, by omega, s4.tr s5, rb5, q5, l5, ⟨fun x hx => by rw [o5 x hx, i4]; exact o3.1 x hx, fun x hx => by rw [(x5 x (by omega)).1, (x5 x (by omega)).2, e4, fu_off _ _ _ (by decide), fu_off _ _ _ (by decide)]; exact o3.2 x hx⟩, by rw [hS, e5, bd_ok], fun ρ => ?_⟩, by rw [i5]; omega⟩, fun h => absurd h (by decide)⟩) (fun b M5 e5 s5 rb5 w5 d5 => ⟨rg_small (by decide), fun h => absurd rfl h, fun _ => kb b M5 (by rw [hS, e5, bd_bad]) (s4.trx s5) rb5 w5 (((odr.sf s3' (by decide) o3 hsd).tr (odr.ofs (cs := []) (bs := sok) (by rw [e4]; exact sv.refl.us (by decide)) (by decide))).tr d5)⟩)
        have hV' := hV ρ
        rw [show 3 - i = (3 - (i + 1)) + 1 by omega, ev_add (H := vMo T n kn (3 - (i + 1) + 1) pos) (F := vMo T n kn (3 - (i + 1)) r) (G := vIt T n (pos + 1)) (c := if chr T n pos = 45 then -1 else 1) (fun x => by rw [vMo, if_pos hpm, ps_ok e5]; omega)] at hV'
        rw [sm, v5 ρ, ← hV', sm_congr (g := fun k => rit M3 (4 * s + k) ρ) (fun k hk => by
          unfold rit; rw [(x5 _ (by omega)).1, (x5 _ (by omega)).2, e4, fu_off _ _ _ (by decide), fu_off _ _ _ (by decide)])]
        rw [show (if z = 0 then (1 : Int) else -1) = (if chr T n pos = 45 then -1 else 1) from hzs]
        grind
      · have : i = 3 := by omega
        subst this
        rw [hS, show 3 - 3 = 0 from rfl, pMore, if_pos hpm]
      · rw [e4]; exact s3'.us4
      · rw [e4]; exact rb3.o (by decide) _ _
      · rw [e4, fu_at, if_pos rfl, q3]
    exact m_here c3 q3 l3 ⟨rgc h.t pos, fun e => st 0 (Or.inl rfl) (by rw [if_neg e]; rfl), fun e => st 1 (Or.inr rfl) (by rw [if_pos e]; rfl)⟩
  refine m_here c3 q3 l3 ⟨rgc h.t pos, fun e => go (Or.inl e), fun e => m_here c3 q3 l3 ⟨rgc h.t pos, fun e2 => ko pos M3 ?_ s3' rb3 q3 l3 (by rw [i3]; omega) o3 (fun r => ?_), fun e2 => go (Or.inr e2)⟩⟩
  have hnp : ¬ pms (chr T n pos) := fun hh => by rcases hh with hh | hh; exact e hh; exact e2 hh
  · rw [hS]
    cases hf : 3 - i with
    | zero => rw [pMore, if_neg hnp]
    | succ f => rw [pMore, if_neg hnp]
  · have hnp : ¬ pms (chr T n pos) := fun hh => by rcases hh with hh | hh; exact e hh; exact e2 hh
    have := hV r
    rw [ev_0 (F := vMo T n kn (3 - i) pos) (fun x => by
      cases 3 - i with
      | zero => rfl
      | succ f => rw [vMo, if_neg hnp])] at this
    unfold rsu
    rw [i3, Int.toNat_natCast]; omega
end Mo
end Pu_W
section Pu_X
section Mo2
variable {T : Nat → Int} {n d : Nat} {post : Int → fm_M → Prop} {thr : String → fm_M → Prop}
/-- the tests that the reference has read -/
def mgu (T : Nat → Int) (n : Nat) (kn : Nat → Int) (p d g : Nat) (M : fm_M) (t : Nat) : Prop := ∀ t', t' < t → M 341 (44 * d + 4 * g + t') = tC T n kn (tp T n kn p t') ∧ (∀ r, rsu M (208 * d + 8 * g + 2 * t') r = ev (vSu T n kn (tp T n kn p t')) r) ∧ ∀ r, rsu M (208 * d + 8 * g + 2 * t' + 1) r = ev (tR T n kn (tp T n kn p t')) r
/-- what a guard may change -/
abbrev cs5 : List Nat := [340, 341, 342, 343, 344]
theorem knm.sv {M M' : fm_M} {kn : Nat → Int} {cs bs : List Nat} (h : knm d M kn) (s : sv cs bs M M') (hc : 333 ∉ cs) : knm d M' kn := fun v hv => by rw [s.cell 333 hc (by decide)]; exact h v hv
theorem m_test {M : fm_M} (h : MS T n d M) (rb : RB M) {kn : Nat → Int} (hk : knm d M kn) {p : Nat} (hp : M 331 3 = p) (hpn : p ≤ n) {g k : Nat} (hg : g ≤ 10) (hk4 : k < 4)
    (ko : ∀ q M', pTest T n kn p = .ok () q → sv cs5 sok M M' → RB M' → M' 331 3 = q → q ≤ n → M' 340 = M 340 → (∀ x, x ≠ 44 * d + 4 * g + k → M' 341 x = M 341 x) → M' 341 (44 * d + 4 * g + k) = tC T n kn p → (∀ x, x ≠ 208 * d + 8 * g + 2 * k → x ≠ 208 * d + 8 * g + 2 * k + 1 → same1 x M M') → (∀ r, rsu M' (208 * d + 8 * g + 2 * k) r = ev (vSu T n kn p) r) → (∀ r, rsu M' (208 * d + 8 * g + 2 * k + 1) r = ev (tR T n kn p) r) → post 1 M') (kb : ∀ b M', pTest T n kn p = .bad b → sv cs5 s3 M M' → RB M' → M' 331 4 = b → odr d M M' → post 0 M') : wp_Mo_readTest M g k post thr := by
  have hd := h.d1
  unfold wp_Mo_readTest
  rw [h.dr, show (208 * (d : Int)) + (8 * (g : Int)) + (2 * (k : Int)) = ((208 * d + 8 * g + 2 * k : Nat) : Int) by omega]
  refine m_sum h rb hk hp hpn (by omega) (by omega) (fun q M1 e s1 rb1 q1 l1 i1 o1 v1 => ⟨rg_small (by decide), fun _ => ?_, fun h => absurd h (by decide)⟩) (fun b M1 e s1 rb1 w1 d1 => ⟨rg_small (by decide), fun h => absurd rfl h, fun _ => kb b M1 (by unfold pTest; rw [e, bd_bad]) (s1.mono (by decide) (by decide)) rb1 w1 d1⟩)
  have c1 := h.sv s1 (by decide)
  have hk1 := hk.sv s1 (by decide)
  have s1' : sv cs5 sok M M1 := s1.mono (by decide) (by decide)
  have od1 : odr d M M1 := odr.sf s1 (by decide) o1 (by omega)
  have hT : pTest T n kn p = if cmp (chr T n q) then pSum T n kn (q + 1) else .bad q := by unfold pTest; rw [e, bd_ok]
  have yes : cmp (chr T n q) → B_Mo_readTest_71 g k post thr M1 ((208 * d + 8 * g + 2 * k : Nat) : Int) (chr T n q) := by
    intro hc
    have hl : q + 1 ≤ n := chr_lt h.t (by unfold cmp at hc; omega)
    rw [if_pos hc] at hT
    unfold B_Mo_readTest_71
    rw [c1.dr, show ((44 * (d : Int)) + (4 * (g : Int)) + (k : Int)).toNat = 44 * d + 4 * g + k by omega]
    refine ⟨by omega, fun M2 e2 M3 e3 => ?_⟩
    have s3' : sv cs5 sok M M3 := by rw [e3, e2]; exact (s1'.u (by decide) (by decide)).us (by decide)
    have rb3 : RB M3 := by
      rw [e3, e2]
      exact (rb1.u 341 88 0 65535 (by decide) _ _ (by rcases chr_b h.t q with a | a <;> omega)).o (by decide) _ _
    have m342 : M3 342 = M1 342 := by rw [e3, fu_off _ _ _ (by decide), e2, fu_off _ _ _ (by decide)]
    have m343 : M3 343 = M1 343 := by rw [e3, fu_off _ _ _ (by decide), e2, fu_off _ _ _ (by decide)]
    have m344 : M3 344 = M1 344 := by rw [e3, fu_off _ _ _ (by decide), e2, fu_off _ _ _ (by decide)]
    have od3 : odr d M1 M3 := ⟨fun x _ => by rw [e3, fu_off _ _ _ (by decide), e2, fu_off _ _ _ (by decide)], fun x hx => by rw [e3, fu_off _ _ _ (by decide), e2, fu_at, if_neg (by omega)], fun x _ => same1.cs m342 m343 m344⟩
    have c3 := h.sv s3' (by decide)
    have q3 : M3 331 3 = (q + 1 : Nat) := by rw [e3, fu_at, if_pos rfl, e2, fu_off _ _ _ (by decide), q1]; rfl
    have t3 : M3 340 = M 340 := by rw [e3, fu_off _ _ _ (by decide), e2, fu_off _ _ _ (by decide)]; exact s1.cell 340 (by decide) (by decide)
    rw [show ((208 * d + 8 * g + 2 * k : Nat) : Int) + 1 = ((208 * d + 8 * g + 2 * k + 1 : Nat) : Int) by omega]
    exact m_sum c3 rb3 (hk.sv s3' (by decide)) q3 hl (by omega) (by omega) (fun r M4 e4 s4 rb4 q4 l4 i4 o4 v4 => ⟨Or.inr rfl, ko r M4 (by rw [hT, e4]) (s3'.tr (s4.mono (by decide) (by decide))) rb4 q4 l4 (by rw [s4.cell 340 (by decide) (by decide)]; exact t3) (fun x hx => by rw [s4.cell 341 (by decide) (by decide), e3, fu_off _ _ _ (by decide), e2, fu_at, if_neg hx, s1.cell 341 (by decide) (by decide)]) (by rw [s4.cell 341 (by decide) (by decide), e3, fu_off _ _ _ (by decide), e2, fu_at, if_pos rfl]; unfold tC; rw [ps_ok e]) (fun x h1 h2 => ((o1.s1 h1).tr (same1.cs m342 m343 m344)).tr (o4.s1 h2)) (fun ρ => by rw [(o4.s1 (x := 208 * d + 8 * g + 2 * k) (by omega)).ev rb3 (by omega), (same1.cs (M := M1) (M1 := M3) m342 m343 m344).ev rb1 (by omega)]; exact v1 ρ) (fun ρ => by rw [v4 ρ]; unfold tR; rw [ps_ok e])⟩) (fun b M4 e4 s4 rb4 w4 d4 => ⟨Or.inl rfl, kb b M4 (by rw [hT, e4]) (s3'.trx (s4.mono (by decide) (by decide))) rb4 w4 ((od1.tr od3).tr d4)⟩)
  refine m_here c1 q1 l1 ⟨rgc h.t q, fun e1 => yes (Or.inl e1), fun e1 => ⟨fun e2 => yes (Or.inr (Or.inl e2)), fun e2 => ⟨fun e3 => yes (Or.inr (Or.inr (Or.inl e3))), fun e3 => ⟨fun e4 => yes (Or.inr (Or.inr (Or.inr e4))), fun e4 M2 e5 => ⟨Or.inl rfl, kb q M2 ?_ ?_ ?_ ?_ (od1.tr (odr.ofs (cs := []) (bs := s3) (by rw [e5]; exact sv.refl.us (by decide)) (by decide)))⟩⟩⟩⟩⟩
  · rw [hT, if_neg (by unfold cmp; omega)]
  · rw [e5]; exact s1'.us4
  · rw [e5]; exact rb1.o (by decide) _ _
  · rw [e5, fu_at, if_pos rfl, q1]
/-- what a guard's reading leaves -/
def gwr (d g : Nat) (M M' : fm_M) : Prop := (∀ x, x ≠ 11 * d + g → M' 340 x = M 340 x) ∧ (∀ x, ¬ (44 * d + 4 * g ≤ x ∧ x < 44 * d + 4 * g + 4) → M' 341 x = M 341 x) ∧ ∀ x, ¬ (208 * d + 8 * g ≤ x ∧ x < 208 * d + 8 * g + 8) → same1 x M M'
/-- while a guard is read -/
def mGI (T : Nat → Int) (n d g : Nat) (kn : Nat → Int) (M : fm_M) (p : Nat) (M' : fm_M) (v2 : Int) : Prop :=
  v2 = ((11 * d + g : Nat) : Int) ∧ ∃ i pos : Nat, M' 340 (11 * d + g) = (i + 1 : Nat) ∧ i ≤ 3 ∧ sv cs5 sok M M' ∧ RB M' ∧ M' 331 3 = pos ∧ pos ≤ n ∧ pGuard T n kn p = pTests T n kn (3 - i) pos ∧ gwr d g M M' ∧ mgu T n kn p d g M' (i + 1) ∧ pos = tE T n kn (tp T n kn p i) ∧ i + tN T n kn (3 - i) (tp T n kn p i) = tN T n kn 3 p
theorem odr.gw {d g : Nat} {M M1 : fm_M} (w : gwr d g M M1) (hg : g ≤ 10) : odr d M M1 := ⟨fun x hx => w.1 x (by omega), fun x hx => w.2.1 x (by omega), fun x hx => w.2.2 x (by omega)⟩
theorem m_guard {M : fm_M} (h : MS T n d M) (rb : RB M) {kn : Nat → Int} (hk : knm d M kn) {p : Nat} (hp : M 331 3 = p) (hpn : p ≤ n) {g : Nat} (hg : g ≤ 10)
    (ko : ∀ q M', pGuard T n kn p = .ok () q → sv cs5 sok M M' → RB M' → M' 331 3 = q → q ≤ n → gwr d g M M' → M' 340 (11 * d + g) = (tN T n kn 3 p : Nat) → mgu T n kn p d g M' (tN T n kn 3 p) → post 1 M') (kb : ∀ b M', pGuard T n kn p = .bad b → sv cs5 s3 M M' → RB M' → M' 331 4 = b → odr d M M' → post 0 M') : wp_Mo_readGuard M g post thr := by
  have hd := h.d1
  unfold wp_Mo_readGuard
  rw [h.dr, show (11 * (d : Int)) + (g : Int) = ((11 * d + g : Nat) : Int) by omega, Int.toNat_natCast]
  refine ⟨by omega, fun M1 e1 => ?_⟩
  have s1 : sv cs5 sok M M1 := by rw [e1]; exact sv.refl.u (by decide) (by decide)
  have rb1 : RB M1 := by rw [e1]; exact rb.u 340 22 0 4 (by decide) _ _ (by omega)
  have c1 := h.sv s1 (by decide)
  have p1 : M1 331 3 = p := by rw [e1, fu_off _ _ _ (by decide)]; exact hp
  have z1 : M1 340 (11 * d + g) = 1 := by rw [e1, fu_at, if_pos rfl]
  have od1 : odr d M M1 := ⟨fun x hx => by rw [e1, fu_at, if_neg (by omega)], fun x _ => by rw [e1, fu_off _ _ _ (by decide)], fun x _ => same1.cs (by rw [e1, fu_off _ _ _ (by decide)]) (by rw [e1, fu_off _ _ _ (by decide)]) (by rw [e1, fu_off _ _ _ (by decide)])⟩
  refine m_test c1 rb1 (hk.sv s1 (by decide)) p1 hpn (k := 0) hg (by omega) (fun q M2 e s2 rb2 q2 l2 t2 g2 gv2 x2 a2 b2 => ⟨rg_small (by decide), fun _ => ?_, fun h => absurd h (by decide)⟩) (fun b M2 e s2 rb2 w2 d2 => ⟨rg_small (by decide), fun h => absurd rfl h, fun _ => kb b M2 (by unfold pGuard; rw [e, bd_bad]) (s1.trx s2) rb2 w2 (od1.tr d2)⟩)
  have hG0 : pGuard T n kn p = pTests T n kn 3 q := by unfold pGuard; rw [e, bd_ok]
  have w2 : gwr d g M M2 := ⟨fun x hx => by rw [t2, e1, fu_at, if_neg hx], fun x hx => by rw [g2 x (by omega), e1, fu_off _ _ _ (by decide)], fun x hx => (same1.cs (by rw [e1, fu_off _ _ _ (by decide)]) (by rw [e1, fu_off _ _ _ (by decide)]) (by rw [e1, fu_off _ _ _ (by decide)])).tr (x2 x (by omega) (by omega))⟩
  have u2 : mgu T n kn p d g M2 (0 + 1) := fun t' ht' => by
    have : t' = 0 := by omega
    subst this
    exact ⟨gv2, a2, b2⟩
  refine ⟨mGI T n d g kn M p, fun M' _ => (5 - M' 340 (11 * d + g)).toNat, ⟨rfl, 0, q, by rw [t2]; exact z1, by omega, s1.tr s2, rb2, q2, l2, hG0, w2, u2, by unfold tE; rw [tp, ps_ok e], by rw [tp, Nat.zero_add]⟩, ?_⟩
  rintro M3 v2 ⟨rfl, i, pos, i3, hi3, s3', rb3, q3, l3, hG, w3, u3, hpe, hcn⟩
  have c3 := h.sv s3' (by decide)
  refine m_here c3 q3 l3 ⟨rgc h.t pos, fun hc => ko pos M3 ?_ s3' rb3 q3 l3 w3 ?_ ?_, fun hc => ?_⟩
  · rw [hG]
    cases hf : 3 - i with
    | zero => rw [pTests, if_neg hc]
    | succ f => rw [pTests, if_neg hc]
  · have : i + 1 = tN T n kn 3 p := by
      rw [← hcn]
      cases hf : 3 - i with
      | zero => rfl
      | succ f => rw [tN, ← hpe, if_neg hc]
    rw [← this]; exact i3
  · have : i + 1 = tN T n kn 3 p := by
      rw [← hcn]
      cases hf : 3 - i with
      | zero => rfl
      | succ f => rw [tN, ← hpe, if_neg hc]
    rw [← this]; exact u3
  · have hl1 : pos + 1 ≤ n := chr_lt h.t (by rw [hc]; decide)
    rw [Int.toNat_natCast, i3]
    refine ⟨by omega, rg_small (by omega), fun h4 M4 e4 => ?_, fun h4 M4 e4 => ⟨Or.inl rfl, kb pos M4 ?_ ?_ ?_ ?_ ((odr.gw w3 hg).tr (odr.ofs (cs := []) (bs := s3) (by rw [e4]; exact sv.refl.us (by decide)) (by decide)))⟩⟩
    · rw [show 3 - i = (3 - (i + 1)) + 1 by omega, pTests, if_pos hc] at hG
      have s4 : sv cs5 sok M M4 := by rw [e4]; exact s3'.us (by decide)
      have rb4 : RB M4 := by rw [e4]; exact rb3.o (by decide) _ _
      have c4 := h.sv s4 (by decide)
      have q4 : M4 331 3 = (pos + 1 : Nat) := by rw [e4, fu_at, if_pos rfl, q3]; rfl
      have i4 : M4 340 = M3 340 := by rw [e4, fu_off _ _ _ (by decide)]
      have htp1 : tp T n kn p (i + 1) = pos + 1 := by rw [tp, ← hpe]
      rw [i4, i3]
      refine m_test c4 rb4 (hk.sv s4 (by decide)) q4 hl1 (k := i + 1) hg (by omega) (fun r M5 e5 s5 rb5 q5 l5 t5 g5 gv5 x5 a5 b5 => ⟨rg_small (by decide), fun _ M6 e6 => ?_, fun h => absurd h (by decide)⟩) (fun b M5 e5 s5 rb5 w5 d5 => ⟨rg_small (by decide), fun h => absurd rfl h, fun _ => kb b M5 (by rw [hG, e5, bd_bad]) (s4.trx s5) rb5 w5 (((odr.gw w3 hg).tr (odr.ofs (cs := []) (bs := sok) (by rw [e4]; exact sv.refl.us (by decide)) (by decide))).tr d5)⟩)
      have i5 : M5 340 (11 * d + g) = (i + 1 : Nat) := by rw [t5, i4]; exact i3
      have i6 : M6 340 (11 * d + g) = (i + 1 + 1 : Nat) := by rw [e6, fu_at, if_pos rfl, i5]; rfl
      refine ⟨⟨rfl, i + 1, r, i6, by omega, by rw [e6]; exact (s4.tr s5).u (by decide) (by decide), ?_, by rw [e6, fu_off _ _ _ (by decide)]; exact q5, l5, by rw [hG, e5, bd_ok], ?_, ?_, ?_, ?_⟩, by dsimp only; rw [i6]; omega⟩
      · rw [e6, i5]; exact rb5.u 340 22 0 4 (by decide) _ _ (by omega)
      · refine ⟨fun x hx => by rw [e6, fu_at, if_neg hx, t5, i4]; exact w3.1 x hx, fun x hx => by rw [e6, fu_off _ _ _ (by decide), g5 x (by omega), e4, fu_off _ _ _ (by decide)]; exact w3.2.1 x hx, fun x hx => ?_⟩
        exact ((w3.2.2 x hx).tr (same1.cs (M1 := M4) (by rw [e4, fu_off _ _ _ (by decide)]) (by rw [e4, fu_off _ _ _ (by decide)]) (by rw [e4, fu_off _ _ _ (by decide)]))).tr ((x5 x (by omega) (by omega)).tr (same1.cs (by rw [e6, fu_off _ _ _ (by decide)]) (by rw [e6, fu_off _ _ _ (by decide)]) (by rw [e6, fu_off _ _ _ (by decide)])))
      · intro t' ht'
        have o56 : ∀ x, same1 x M5 M6 := fun x => same1.cs (by rw [e6, fu_off _ _ _ (by decide)]) (by rw [e6, fu_off _ _ _ (by decide)]) (by rw [e6, fu_off _ _ _ (by decide)])
        have o34 : ∀ x, same1 x M3 M4 := fun x => same1.cs (by rw [e4, fu_off _ _ _ (by decide)]) (by rw [e4, fu_off _ _ _ (by decide)]) (by rw [e4, fu_off _ _ _ (by decide)])
        have e341 : M6 341 = M5 341 := by rw [e6, fu_off _ _ _ (by decide)]
        have e341' : M4 341 = M3 341 := by rw [e4, fu_off _ _ _ (by decide)]
        by_cases e : t' = i + 1
        · subst e
          rw [e341, htp1]
          exact ⟨gv5, fun r => by rw [(o56 _).ev rb5 (by omega)]; exact a5 r, fun r => by rw [(o56 _).ev rb5 (by omega)]; exact b5 r⟩
        · have u := u3 t' (by omega)
          rw [e341, g5 _ (by omega), e341']
          refine ⟨u.1, fun r => ?_, fun r => ?_⟩
          · rw [(o56 _).ev rb5 (by omega), (x5 _ (by omega) (by omega)).ev rb4 (by omega), (o34 _).ev rb3 (by omega)]; exact u.2.1 r
          · rw [(o56 _).ev rb5 (by omega), (x5 _ (by omega) (by omega)).ev rb4 (by omega), (o34 _).ev rb3 (by omega)]; exact u.2.2 r
      · rw [htp1]; unfold tE; rw [ps_ok e5]
      · rw [show 3 - i = (3 - (i + 1)) + 1 by omega, tN, ← hpe, if_pos hc] at hcn
        rw [htp1]; omega
    · have : i = 3 := by omega
      subst this
      rw [hG, show 3 - 3 = 0 from rfl, pTests, if_pos hc]
    · rw [e4]; exact s3'.us4
    · rw [e4]; exact rb3.o (by decide) _ _
    · rw [e4, fu_at, if_pos rfl, q3]
/-- where the sums of a branch's updates stand -/
def ua (d c b v : Nat) : Nat := 208 * d + 88 + 12 * c + 3 * b + v
def updw (M : fm_M) (d c b : Nat) (v : Nat) : Bool := decide (0 < M 342 (ua d c b v))
def upc (M : fm_M) (d c b : Nat) : Nat := (if updw M d c b 0 then 1 else 0) + (if updw M d c b 1 then 1 else 0) + (if updw M d c b 2 then 1 else 0)
theorem m_update {M : fm_M} (h : MS T n d M) (rb : RB M) {kn : Nat → Int} (hk : knm d M kn) {p : Nat} (hp : M 331 3 = p) (hpn : p ≤ n) {c b : Nat} (hc : c < 10) (hb : b < 4)
    (ko : ∀ q M', nam (chr T n p) → 0 < kn (chr T n p - 97).toNat → updw M d c b (chr T n p - 97).toNat = false → chr T n (p + 1) = 61 → pSum T n kn (p + 2) = .ok () q → sv cs3 sok M M' → RB M' → M' 331 3 = q → q ≤ n → updw M' d c b (chr T n p - 97).toNat = true → (∀ v, v ≠ (chr T n p - 97).toNat → updw M' d c b v = updw M d c b v) → (∀ x, x ≠ ua d c b (chr T n p - 97).toNat → same1 x M M') → (∀ r, rsu M' (ua d c b (chr T n p - 97).toNat) r = ev (vSu T n kn (p + 2)) r) → post 1 M')
    (kb : ∀ x M', ((¬ (nam (chr T n p) ∧ 0 < kn (chr T n p - 97).toNat ∧ updw M d c b (chr T n p - 97).toNat = false) ∧ x = p) ∨ ((nam (chr T n p) ∧ 0 < kn (chr T n p - 97).toNat ∧ updw M d c b (chr T n p - 97).toNat = false) ∧ ((chr T n (p + 1) ≠ 61 ∧ x = p + 1) ∨ (chr T n (p + 1) = 61 ∧ pSum T n kn (p + 2) = .bad x)))) → sv cs3 s3 M M' → RB M' → M' 331 4 = x → odr d M M' → post 0 M') : wp_Mo_readUpdate M c b post thr := by
  have hd := h.d1
  refine m_known h rb hk hp hpn (fun hnm hkv => ⟨rg_small (by decide), fun _ => m_here h hp hpn ?_, fun h => absurd h (by decide)⟩) (fun hnk => ⟨rg_small (by decide), fun h => absurd rfl h, fun _ M1 e1 => ⟨Or.inl rfl, kb p M1 (Or.inl ⟨fun hh => hnk ⟨hh.1, hh.2.1⟩, rfl⟩) ?_ ?_ ?_ (odr.ofs (cs := []) (bs := s3) (by rw [e1]; exact sv.refl.us (by decide)) (by decide))⟩⟩)
  · have hnm' := hnm
    unfold nam at hnm'
    generalize hv : (chr T n p - 97).toNat = v at hkv ko kb
    have hv3 : v < 3 := by omega
    have evv : chr T n p - 97 = (v : Int) := by omega
    unfold wp_Mo_updateAt
    intro M1 e1
    rw [h.dr, evv, show ((((208 * (d : Int)) + 88) + (12 * (c : Int))) + (3 * (b : Int))) + (v : Int) = ((ua d c b v : Nat) : Int) by unfold ua; omega, Int.toNat_natCast]
    have hua : ua d c b v < 416 := by unfold ua; omega
    have hud : 208 * d ≤ ua d c b v ∧ ua d c b v < 208 * d + 208 := by unfold ua; omega
    have od1 : odr d M M1 := odr.ofs (cs := []) (bs := [3]) (by rw [e1]; exact sv.refl.us (by decide)) (by decide)
    have s1 : sv cs3 sok M M1 := by rw [e1]; exact sv.refl.us (by decide)
    have rb1 : RB M1 := by rw [e1]; exact rb.o (by decide) _ _
    have c1 := h.sv s1 (by decide)
    have p1 : M1 331 3 = (p + 1 : Nat) := by rw [e1, fu_at, if_pos rfl, hp]; rfl
    have i1 : M1 342 = M 342 := by rw [e1, fu_off _ _ _ (by decide)]
    have hp1 : p + 1 ≤ n := chr_lt h.t (by omega)
    have hb4 := rb1.g 342 416 0 4 (by decide) hua
    refine ⟨by omega, rg_small (by omega), fun h4 => ?_, fun h4 M2 e2 => ⟨Or.inl rfl, kb p M2 (Or.inl ⟨fun hh => ?_, rfl⟩) ?_ ?_ ?_ (od1.tr (odr.ofs (cs := []) (bs := s3) (by rw [e2]; exact sv.refl.us (by decide)) (by decide)))⟩⟩
    · have hup : updw M d c b v = false := by unfold updw; rw [← i1]; exact decide_eq_false (by omega)
      refine m_want c1 p1 hp1 (rg_small (by decide)) (by decide) (fun M2 hc2 s2 q2 v2 l2 => ⟨rg_small (by decide), fun h => absurd h (by decide), fun _ => ?_⟩) (fun M2 hc2 s2 w2 => ⟨rg_small (by decide), fun _ => kb (p + 1) M2 (Or.inr ⟨⟨hnm, hkv, hup⟩, Or.inl ⟨hc2, rfl⟩⟩) (s1.trx (s2.mono (by decide) (by decide))) (rb1.sv s2 (by decide)) w2 (od1.tr (odr.ofs s2 (by decide))), fun h => absurd rfl h⟩)
      have s12 := s1.tr (s2.mono (cs' := cs3) (bs' := sok) (by decide) (by decide))
      refine m_sum (h.sv s12 (by decide)) (rb1.sv s2 (by decide)) (hk.sv s12 (by decide)) q2 l2 hua hud (fun q M3 e3 s3' rb3 q3 l3 i3 o3 v3 => ⟨rg_small (by decide), fun h => absurd h (by decide), fun _ => ko q M3 hnm hkv hup hc2 e3 (s12.tr s3') rb3 q3 l3 ?_ (fun x hx => ?_) (fun x hx => (same1.cs (M1 := M2) (by rw [s2.cell 342 (by decide) (by decide), i1]) (by rw [s2.cell 343 (by decide) (by decide), e1, fu_off _ _ _ (by decide)]) (by rw [s2.cell 344 (by decide) (by decide), e1, fu_off _ _ _ (by decide)])).tr (o3.s1 hx)) v3⟩) (fun x M3 e3 s3' rb3 w3 d3 => ⟨rg_small (by decide), fun _ => kb x M3 (Or.inr ⟨⟨hnm, hkv, hup⟩, Or.inr ⟨hc2, e3⟩⟩) (s12.trx s3') rb3 w3 ((od1.tr (odr.ofs s2 (by decide))).tr d3), fun h => absurd rfl h⟩)
      · unfold updw; exact decide_eq_true (by omega)
      · unfold updw; rw [o3.1 _ (by unfold ua; omega), s2.cell 342 (by decide) (by decide), i1]
    · have := hh.2.2
      unfold updw at this
      rw [← i1] at this
      have := of_decide_eq_false this
      omega
    · rw [e2]; exact s1.us4
    · rw [e2]; exact rb1.o (by decide) _ _
    · rw [e2, fu_at, if_pos rfl]; exact hp
  · rw [e1]; exact sv.refl.us (by decide)
  · rw [e1]; exact rb.o (by decide) _ _
  · rw [e1, fu_at, if_pos rfl, hp]
/-- what a branch may change -/
abbrev cs8 : List Nat := [337, 338, 339, 340, 341, 342, 343, 344]
theorem upc_le (M : fm_M) (d c b : Nat) : upc M d c b ≤ 3 := by
  unfold upc; split <;> split <;> split <;> omega
theorem upc_add {M M' : fm_M} {d c b v : Nat} (hv : v < 3) (h0 : updw M d c b v = false) (h1 : updw M' d c b v = true) (h2 : ∀ x, x ≠ v → updw M' d c b x = updw M d c b x) : upc M' d c b = upc M d c b + 1 := by
  have : v = 0 ∨ v = 1 ∨ v = 2 := by omega
  unfold upc
  rcases this with e | e | e <;> subst e
  · rw [h1, h0, h2 1 (by omega), h2 2 (by omega)]; simp; omega
  · rw [h1, h0, h2 0 (by omega), h2 2 (by omega)]; simp; omega
  · rw [h1, h0, h2 0 (by omega), h2 1 (by omega)]; simp
/-- the updates of a branch, as the reference keeps them -/
def mbr (T : Nat → Int) (n : Nat) (kn : Nat → Int) (p d c b : Nat) (M : fm_M) : Prop := ∀ v, v < 3 → (brU T n kn p v = 0 → M 342 (ua d c b v) = 0) ∧ (brU T n kn p v ≠ 0 → 0 < M 342 (ua d c b v) ∧ ∀ r, rsu M (ua d c b v) r = ev (vSu T n kn (brU T n kn p v)) r)
def mbq (T : Nat → Int) (n : Nat) (kn : Nat → Int) (p d c b : Nat) (M : fm_M) (rest : Nat → Nat) : Prop := ∀ v, v < 3 → (updw M d c b v = true → brU T n kn p v ≠ 0 ∧ ∀ r, rsu M (ua d c b v) r = ev (vSu T n kn (brU T n kn p v)) r) ∧ (updw M d c b v = false → brU T n kn p v = rest v)
theorem mbq_end {kn : Nat → Int} {p d c b : Nat} {M : fm_M} (rb : RB M) (hd : d ≤ 1) (hc : c < 10) (hb : b < 4) (h : mbq T n kn p d c b M (fun _ => 0)) : mbr T n kn p d c b M := fun v hv => by
  have hu : ua d c b v < 416 := by unfold ua; omega
  have h0 := rb.g 342 416 0 4 (by decide) hu
  cases e : updw M d c b v with
  | true =>
    have := of_decide_eq_true e
    exact ⟨fun hh => absurd hh ((h v hv).1 e).1, fun _ => ⟨this, ((h v hv).1 e).2⟩⟩
  | false =>
    have := of_decide_eq_false e
    exact ⟨fun _ => by omega, fun hh => absurd ((h v hv).2 e) hh⟩
/-- the branch's sums alone -/
def bfr (d c b : Nat) (M M' : fm_M) : Prop := ∀ x, ¬ (ua d c b 0 ≤ x ∧ x < ua d c b 0 + 3) → same1 x M M'
/-- while updates are read -/
def mBI (T : Nat → Int) (n d c b : Nat) (kn : Nat → Int) (M4 : fm_M) (ws : Int) (p : Nat) (w : Int) (M' : fm_M) (v3 v4 : Int) : Prop :=
  v3 = b ∧ ∃ pos : Nat, sv cs3 sok M4 M' ∧ RB M' ∧ M' 331 3 = pos ∧ pos ≤ n ∧ bfr d c b M4 M' ∧ ((v4 = 1 ∧ pBranch T n kn ws p = (pUpds T n kn (4 - upc M' d c b) (updw M' d c b) (pos + 1)).bd (fun _ q2 => .ok w q2) ∧ pos + 1 ≤ n ∧ mbq T n kn p d c b M' (uP T n kn (4 - upc M' d c b) (pos + 1))) ∨ (v4 = 0 ∧ pBranch T n kn ws p = .ok w pos ∧ mbq T n kn p d c b M' (fun _ => 0)))
theorem m_branch {M : fm_M} (h : MS T n d M) (rb : RB M) {kn : Nat → Int} (hk : knm d M kn) {p : Nat} (hp : M 331 3 = p) (hpn : p ≤ n) {c b : Nat} (hc : c < 10) (hb : b < 4) (hbr : M 337 (10 * d + c) = b) {ws : Int} (hws : M 338 (10 * d + c) = ws)
    (ko : ∀ w q M', pBranch T n kn ws p = .ok w q → sv cs8 sok M M' → RB M' → M' 331 3 = q → q ≤ n → 1 ≤ w → (∀ x, M' 337 x = if x = 10 * d + c then ((b + 1 : Nat) : Int) else M 337 x) → (∀ x, M' 338 x = if x = 10 * d + c then ws + w else M 338 x) → (∀ x, M' 339 x = if x = 4 * (10 * d + c) + b then w else M 339 x) → w = ivn T n p → q = brE T n kn p → M' 340 = M 340 → M' 341 = M 341 → bfr d c b M M' → mbr T n kn p d c b M' → post 1 M')
    (kb : ∀ x M', pBranch T n kn ws p = .bad x → sv cs8 s3 M M' → RB M' → M' 331 4 = x → (∀ x, x ≠ 10 * d + c → M' 337 x = M 337 x ∧ M' 338 x = M 338 x) → (∀ x, x < 4 * (10 * d + c) ∨ 4 * (10 * d + c) + 4 ≤ x → M' 339 x = M 339 x) → odr d M M' → post 0 M') : wp_Mo_readBranch M c post thr := by
  have hd := h.d1
  have hw6 := rb.g 338 20 0 6 (by decide) (x := 10 * d + c) (by omega)
  unfold wp_Mo_readBranch
  rw [h.dr, show (10 * (d : Int)) + (c : Int) = ((10 * d + c : Nat) : Int) by omega, Int.toNat_natCast, hws]
  rw [hws] at hw6
  refine ⟨by omega, m_num h hp hpn (rg_small (by decide)) (rg_small (by omega)) (by omega) (fun w q M1 e s1 q1 v1 => ⟨rg_small (by decide), fun _ => ?_, fun h => absurd h (by decide)⟩) (fun M1 e s1 w1 => ⟨rg_small (by decide), fun h => absurd rfl h, fun _ => kb p M1 (by unfold pBranch; rw [e, bd_bad]) (s1.mono (by decide) (by decide)) (rb.sv s1 (by decide)) w1 (fun x _ => ⟨by rw [s1.cell 337 (by decide) (by decide)], by rw [s1.cell 338 (by decide) (by decide)]⟩) (fun x _ => by rw [s1.cell 339 (by decide) (by decide)]) (odr.ofs s1 (by decide))⟩)⟩
  have hw := pNum_ok h.t e
  have rb1 := rb.sv s1 (by decide)
  rw [s1.cell 337 (by decide) (by decide), hbr, show (4 * ((10 * d + c : Nat) : Int)) + (b : Int) = ((4 * (10 * d + c) + b : Nat) : Int) by omega, Int.toNat_natCast]
  refine ⟨by omega, fun M2 e2 M3 e3 M4 e4 => ?_⟩
  rw [v1] at e2
  have a2 : ∀ a, a ≠ 339 → M2 a = M1 a := fun a ha => by rw [e2]; exact fu_off _ _ _ ha
  rw [a2 338 (by decide), a2 331 (by decide), v1, s1.cell 338 (by decide) (by decide), hws] at e3
  have a3 : ∀ a, a ≠ 338 → M3 a = M2 a := fun a ha => by rw [e3]; exact fu_off _ _ _ ha
  rw [a3 337 (by decide), a2 337 (by decide), s1.cell 337 (by decide) (by decide), hbr] at e4
  have a4 : ∀ a, a ≠ 337 → M4 a = M3 a := fun a ha => by rw [e4]; exact fu_off _ _ _ ha
  have f337 : ∀ x, M4 337 x = if x = 10 * d + c then ((b + 1 : Nat) : Int) else M 337 x := fun x => by
    rw [e4, fu_at, a3 337 (by decide), a2 337 (by decide), s1.cell 337 (by decide) (by decide)]; rfl
  have f338 : ∀ x, M4 338 x = if x = 10 * d + c then ws + w else M 338 x := fun x => by
    rw [a4 338 (by decide), e3, fu_at, a2 338 (by decide), s1.cell 338 (by decide) (by decide)]
  have f339 : ∀ x, M4 339 x = if x = 4 * (10 * d + c) + b then w else M 339 x := fun x => by
    rw [a4 339 (by decide), a3 339 (by decide), e2, fu_at, s1.cell 339 (by decide) (by decide)]
  have s4 : sv cs8 sok M M4 := by
    rw [e4, e3, e2]; exact (((s1.mono (by decide) (by decide)).u (by decide) (by decide)).u (by decide) (by decide)).u (by decide) (by decide)
  have rb4 : RB M4 := by
    rw [e4, e3, e2]
    exact ((rb1.u 339 80 0 6 (by decide) _ _ (by omega)).u 338 20 0 6 (by decide) _ _ (by omega)).u 337 20 0 4 (by decide) _ _ (by omega)
  have q4 : M4 331 3 = q := by rw [a4 331 (by decide), a3 331 (by decide), a2 331 (by decide)]; exact q1
  have hB : pBranch T n kn ws p = (if chr T n q = 58 then (pUpds T n kn 4 (fun _ => false) (q + 1)).bd (fun _ q2 => .ok w q2) else .ok w q) := by unfold pBranch; rw [e, bd_ok]
  have c4 : ∀ a, 340 ≤ a → a ≤ 344 → M4 a = M a := fun a h1 h2 => by rw [a4 a (by omega), a3 a (by omega), a2 a (by omega), s1.cell a (by simp) (by omega)]
  have fr4 : ∀ x, same1 x M M4 := fun x => same1.cs (c4 342 (by omega) (by omega)) (c4 343 (by omega) (by omega)) (c4 344 (by omega) (by omega))
  have od4 : odr d M M4 := ⟨fun x _ => by rw [c4 340 (by omega) (by omega)], fun x _ => by rw [c4 341 (by omega) (by omega)], fun x _ => fr4 x⟩
  have hqn : q = nq T n p := (pNum_val e).2
  -- from here on only sums change
  have okM : ∀ M' q', pBranch T n kn ws p = .ok w q' → sv cs3 sok M4 M' → RB M' → M' 331 3 = q' → q' ≤ n → bfr d c b M4 M' → mbq T n kn p d c b M' (fun _ => 0) → post 1 M' := fun M' q' e' s' rb' q'' l' fr' mb' => ko w q' M' e' (s4.tr (s'.mono (by decide) (by decide))) rb' q'' l' hw.1 (by rw [s'.cell 337 (by decide) (by decide)]; exact f337) (by rw [s'.cell 338 (by decide) (by decide)]; exact f338) (by rw [s'.cell 339 (by decide) (by decide)]; exact f339) (pNum_val e).1 (by rw [← brE_eq e, ps_ok e']) (by rw [s'.cell 340 (by decide) (by decide), c4 340 (by omega) (by omega)]) (by rw [s'.cell 341 (by decide) (by decide), c4 341 (by omega) (by omega)]) (fun x hx => (fr4 x).tr (fr' x hx)) (mbq_end rb' hd hc hb mb')
  have badM : ∀ M' x, pBranch T n kn ws p = .bad x → sv cs3 s3 M4 M' → RB M' → M' 331 4 = x → odr d M4 M' → post 0 M' := fun M' x e' s' rb' w' d' => kb x M' e' (s4.trx (s'.mono (by decide) (by decide))) rb' w' (fun y hy => ⟨by rw [s'.cell 337 (by decide) (by decide), f337, if_neg hy], by rw [s'.cell 338 (by decide) (by decide), f338, if_neg hy]⟩) (fun y hy => by rw [s'.cell 339 (by decide) (by decide), f339, if_neg (by omega)]) (od4.tr d')
  -- no update yet
  refine ⟨fun M' v3 v4 => v3 = b ∧ ∃ v : Nat, v4 = v ∧ v ≤ 3 ∧ sv cs3 sok M4 M' ∧ RB M' ∧ M' 331 3 = q ∧ (∀ x, x < v → M' 342 (ua d c b x) = 0) ∧ bfr d c b M4 M', fun _ _ v4 => (3 - v4).toNat, ⟨rfl, 0, rfl, by omega, sv.refl, rb4, q4, fun x hx => by omega, fun x _ => same1.cs rfl rfl rfl⟩, ?_⟩
  rintro M5 v3 v4 ⟨rfl, v, rfl, hv, s5, rb5, q5, z5, fr5⟩
  have s45 := s4.tr (s5.mono (cs' := cs8) (bs' := sok) (by decide) (by decide))
  have c5 := h.sv s45 (by decide)
  unfold C_Mo_readBranch_80
  refine ⟨rg_small (by omega), fun h5 => ?_, fun h5 => ?_⟩
  · have hz : ∀ x, x < 3 → updw M5 d c b x = false := fun x hx => by unfold updw; rw [z5 x (by omega)]; rfl
    have main : ∀ s0 : Int, ((s0 = 1 ∧ pBranch T n kn ws p = (pUpds T n kn (4 - upc M5 d c b) (updw M5 d c b) (q + 1)).bd (fun _ q2 => .ok w q2) ∧ q + 1 ≤ n ∧ mbq T n kn p d c b M5 (uP T n kn (4 - upc M5 d c b) (q + 1))) ∨ (s0 = 0 ∧ pBranch T n kn ws p = .ok w q ∧ mbq T n kn p d c b M5 (fun _ => 0))) → B_Mo_readBranch_123 c post thr M5 b s0 := by
      intro s0 hI0
      refine ⟨mBI T n d c b kn M4 ws p w, fun M' _ v4 => (2 * (3 - upc M' d c b) + v4.toNat : Nat), ⟨rfl, q, s5, rb5, q5, hw.2.2.2.2.2, fr5, hI0⟩, ?_⟩
      rintro M6 v3 v4 ⟨rfl, pos, s6, rb6, q6, l6, fr6, hI⟩
      have s46 := s4.tr (s6.mono (cs' := cs8) (bs' := sok) (by decide) (by decide))
      have hv4 : v4 = 0 ∨ v4 = 1 := by
        rcases hI with ⟨a, _⟩ | ⟨a, _⟩
        · exact Or.inr a
        · exact Or.inl a
      have rv : rg v4 := rg_small (by rcases hv4 with e | e <;> rw [e] <;> decide)
      have hu3 := upc_le M6 d c b
      unfold C_Mo_readBranch_125
      refine ⟨rv, fun hz4 => ?_, fun hz4 M7 e7 => ?_⟩
      · rcases hI with ⟨a, _⟩ | ⟨_, a, a'⟩
        · rw [a] at hz4; exact absurd hz4 (by decide)
        · exact okM M6 pos a s6 rb6 q6 l6 fr6 a'
      · obtain ⟨hv1, hS, hl1, hK⟩ : v4 = 1 ∧ pBranch T n kn ws p = (pUpds T n kn (4 - upc M6 d c b) (updw M6 d c b) (pos + 1)).bd (fun _ q2 => .ok w q2) ∧ pos + 1 ≤ n ∧ mbq T n kn p d c b M6 (uP T n kn (4 - upc M6 d c b) (pos + 1)) := by
          rcases hI with a | ⟨a, _⟩
          · exact a
          · exact absurd a hz4
        rw [show 4 - upc M6 d c b = (3 - upc M6 d c b) + 1 by omega, pUpds] at hS
        rw [show 4 - upc M6 d c b = (3 - upc M6 d c b) + 1 by omega] at hK
        have o67 : ∀ x, same1 x M6 M7 := fun x => same1.cs (by rw [e7, fu_off _ _ _ (by decide)]) (by rw [e7, fu_off _ _ _ (by decide)]) (by rw [e7, fu_off _ _ _ (by decide)])
        have fr7 : bfr d c b M4 M7 := fun x hx => (fr6 x hx).tr (o67 x)
        have od7 : odr d M4 M7 := ⟨fun x _ => by rw [e7, fu_off _ _ _ (by decide), s6.cell 340 (by decide) (by decide)], fun x _ => by rw [e7, fu_off _ _ _ (by decide), s6.cell 341 (by decide) (by decide)], fun x hx => fr7 x (by unfold ua; omega)⟩
        have s7 : sv cs3 sok M4 M7 := by rw [e7]; exact s6.us (by decide)
        have rb7 : RB M7 := by rw [e7]; exact rb6.o (by decide) _ _
        have s47 := s4.tr (s7.mono (cs' := cs8) (bs' := sok) (by decide) (by decide))
        have q7 : M7 331 3 = (pos + 1 : Nat) := by rw [e7, fu_at, if_pos rfl, q6]; rfl
        have i7 : M7 342 = M6 342 := by rw [e7, fu_off _ _ _ (by decide)]
        have hu7 : updw M7 d c b = updw M6 d c b := by funext x; unfold updw; rw [i7]
        refine m_update (h.sv s47 (by decide)) rb7 (hk.sv s47 (by decide)) q7 hl1 hc hb (fun r M8 a1 a2 a3 a4 a5 s8 rb8 q8 l8 u8 o8 sm8 v8 => ⟨rg_small (by decide), fun _ => ?_, fun h => absurd h (by decide)⟩) (fun x M8 hx s8 rb8 w8 d8 => ⟨rg_small (by decide), fun h => absurd rfl h, fun _ => badM M8 x ?_ (s7.trx s8) rb8 w8 (od7.tr d8)⟩)
        · rw [hu7] at a3 o8
          rw [if_pos ⟨a1, a2, a3⟩, if_pos a4, a5, bd_ok] at hS
          have s78 := s7.tr s8
          have s48 := s4.tr (s78.mono (cs' := cs8) (bs' := sok) (by decide) (by decide))
          have hvi : (chr T n (pos + 1) - 97).toNat < 3 := by unfold nam at a1; omega
          have hadd := upc_add (M := M6) (M' := M8) hvi a3 u8 o8
          have hu8 := upc_le M8 d c b
          have fr8 : bfr d c b M4 M8 := fun x hx => (fr7 x hx).tr (sm8 x (by unfold ua at hx ⊢; omega))
          have hr0 : ps (pSum T n kn (pos + 1 + 2)) = r := ps_ok a5
          have hK8 : ∀ rest : Nat → Nat, (∀ z, z < 3 → z ≠ (chr T n (pos + 1) - 97).toNat → uP T n kn ((3 - upc M6 d c b) + 1) (pos + 1) z = rest z) → mbq T n kn p d c b M8 rest := fun rest hr z hz => by
            by_cases ez : z = (chr T n (pos + 1) - 97).toNat
            · have hbu : brU T n kn p z = pos + 1 + 2 := by rw [(hK z hz).2 (by rw [ez]; exact a3), uP, if_pos ez]
              refine ⟨fun _ => ⟨by omega, fun ρ => ?_⟩, fun hf => by rw [ez, u8] at hf; exact absurd hf (by decide)⟩
              rw [hbu, ez]; exact v8 ρ
            · have hz8 := o8 z ez
              refine ⟨fun ht => ?_, fun hf => ?_⟩
              · have := (hK z hz).1 (by rw [← hz8]; exact ht)
                refine ⟨this.1, fun ρ => ?_⟩
                rw [(sm8 (ua d c b z) (by unfold ua; omega)).ev rb7 (by unfold ua; omega), (o67 _).ev rb6 (by unfold ua; omega)]; exact this.2 ρ
              · rw [(hK z hz).2 (by rw [← hz8]; exact hf)]; exact hr z hz ez
          refine m_here (h.sv s48 (by decide)) q8 l8 ⟨rgc h.t r, fun hc9 => ⟨⟨rfl, r, s78, rb8, q8, l8, fr8, Or.inr ⟨rfl, ?_, hK8 _ (fun z hz hne => by rw [uP, if_neg hne, hr0, if_neg hc9])⟩⟩, ?_⟩, fun hc9 => ⟨⟨rfl, r, s78, rb8, q8, l8, fr8, Or.inl ⟨rfl, ?_, ?_, hK8 _ (fun z hz hne => by rw [uP, if_neg hne, hr0, if_pos hc9, hadd, show 4 - (upc M6 d c b + 1) = 3 - upc M6 d c b by omega])⟩⟩, ?_⟩⟩
          · rw [hS, if_neg hc9, bd_ok]
          · dsimp only; rw [hv1]; simp; omega
          · rw [hS, if_pos hc9, hadd, show 4 - (upc M6 d c b + 1) = 3 - upc M6 d c b by omega]
            congr 1
            exact pUpds_congr _ _ _ _ (fun z hz => by
              by_cases e : z = (chr T n (pos + 1) - 97).toNat
              · rw [if_pos e, e, u8]
              · rw [if_neg e, o8 z e])
          · exact chr_lt h.t (by rw [hc9]; decide)
          · dsimp only; rw [hv1]; simp; omega
        · rw [hu7] at hx
          rcases hx with ⟨a, b⟩ | ⟨a, ⟨b, b'⟩ | ⟨b, b'⟩⟩
          · rw [hS, if_neg a, bd_bad, b]
          · rw [hS, if_pos a, if_neg b, bd_bad, b']
          · rw [hS, if_pos a, if_pos b, b', bd_bad, bd_bad]
    have hupc : upc M5 d c b = 0 := by unfold upc; rw [hz 0 (by omega), hz 1 (by omega), hz 2 (by omega)]; rfl
    refine m_here c5 q5 hw.2.2.2.2.2 ⟨rgc h.t q, fun hc9 => main 0 (Or.inr ⟨rfl, by rw [hB, if_neg hc9], fun z hz' => ⟨fun ht => by rw [hz z hz'] at ht; exact absurd ht (by decide), fun _ => by unfold brU; rw [← hqn, if_neg hc9]⟩⟩), fun hc9 => main 1 (Or.inl ⟨rfl, ?_, chr_lt h.t (by rw [hc9]; decide), fun z hz' => ⟨fun ht => by rw [hz z hz'] at ht; exact absurd ht (by decide), fun _ => by unfold brU; rw [← hqn, if_pos hc9, hupc]⟩⟩)⟩
    rw [hB, if_pos hc9, hupc]
    congr 1
    exact pUpds_congr _ _ _ _ (fun z hz' => (hz z hz').symm)
  · unfold wp_Mo_updateAt
    rw [c5.dr, show ((((208 * (d : Int)) + 88) + (12 * (c : Int))) + (3 * (b : Int))) + (v : Int) = ((ua d c b v : Nat) : Int) by unfold ua; omega]
    refine ⟨by unfold ua; omega, fun M6 e6 => ?_⟩
    rw [Int.toNat_natCast] at e6
    refine ⟨⟨rfl, v + 1, by omega, by omega, by rw [e6]; exact s5.u (by decide) (by decide), by rw [e6]; exact rb5.u 342 416 0 4 (by decide) _ _ (by omega), by rw [e6, fu_off _ _ _ (by decide)]; exact q5, fun x hx => ?_, fun x hx => (fr5 x hx).tr ⟨by rw [e6, fu_at, if_neg (by unfold ua at hx ⊢; omega)], fun k _ => ⟨by rw [e6, fu_off _ _ _ (by decide)], by rw [e6, fu_off _ _ _ (by decide)]⟩⟩⟩, by dsimp only; omega⟩
    rw [e6, fu_at]
    by_cases e9 : x = v
    · rw [if_pos (by rw [e9])]
    · rw [if_neg (by unfold ua; omega)]; exact z5 x (by omega)
end Mo2
end Pu_X
section Pu_Y
section Mo3
variable {T : Nat → Int} {n d : Nat} {post : Int → fm_M → Prop} {thr : String → fm_M → Prop}
/-- the first c commands of the draft are well formed -/
def cwf (M : fm_M) (d c : Nat) : Prop := ∀ c', c' < c → 1 ≤ M 337 (10 * d + c') ∧ (∀ b : Nat, (b : Int) < M 337 (10 * d + c') → 1 ≤ M 339 (4 * (10 * d + c') + b)) ∧ M 338 (10 * d + c') = sm (M 337 (10 * d + c')).toNat (fun b => M 339 (4 * (10 * d + c') + b))
/-- the other game stays -/
def keep (d : Nat) (M M' : fm_M) : Prop :=
  (∀ x, x ≠ d → M' 335 x = M 335 x) ∧
  (∀ x, x < 10 * d ∨ 10 * d + 10 ≤ x → M' 337 x = M 337 x ∧ M' 338 x = M 338 x) ∧
  (∀ x, x < 40 * d ∨ 40 * d + 40 ≤ x → M' 339 x = M 339 x) ∧
  (∀ x, x < 10 * d ∨ 10 * d + 10 ≤ x → M' 336 x = M 336 x) ∧
  (∀ x, x < 3 * d ∨ 3 * d + 3 ≤ x → M' 333 x = M 333 x ∧ M' 334 x = M 334 x) ∧
  (odr d M M')
theorem keep.c335 {d : Nat} {M M' : fm_M} (h_ : keep d M M') : ∀ x, x ≠ d → M' 335 x = M 335 x := h_.1
theorem keep.c337 {d : Nat} {M M' : fm_M} (h_ : keep d M M') : ∀ x, x < 10 * d ∨ 10 * d + 10 ≤ x → M' 337 x = M 337 x ∧ M' 338 x = M 338 x := h_.2.1
theorem keep.c339 {d : Nat} {M M' : fm_M} (h_ : keep d M M') : ∀ x, x < 40 * d ∨ 40 * d + 40 ≤ x → M' 339 x = M 339 x := h_.2.2.1
theorem keep.c336 {d : Nat} {M M' : fm_M} (h_ : keep d M M') : ∀ x, x < 10 * d ∨ 10 * d + 10 ≤ x → M' 336 x = M 336 x := h_.2.2.2.1
theorem keep.c333 {d : Nat} {M M' : fm_M} (h_ : keep d M M') : ∀ x, x < 3 * d ∨ 3 * d + 3 ≤ x → M' 333 x = M 333 x ∧ M' 334 x = M 334 x := h_.2.2.2.2.1
theorem keep.od {d : Nat} {M M' : fm_M} (h_ : keep d M M') : odr d M M' := h_.2.2.2.2.2
theorem odr.rf {M : fm_M} : odr d M M := ⟨fun _ _ => rfl, fun _ _ => rfl, fun _ _ => same1.cs rfl rfl rfl⟩
theorem keep.refl {M : fm_M} : keep d M M := ⟨fun _ _ => rfl, fun _ _ => ⟨rfl, rfl⟩, fun _ _ => rfl, fun _ _ => rfl, fun _ _ => ⟨rfl, rfl⟩, odr.rf⟩
theorem keep.tr {M M1 M2 : fm_M} (h : keep d M M1) (h2 : keep d M1 M2) : keep d M M2 := ⟨fun x hx => by rw [h2.c335 x hx, h.c335 x hx], fun x hx => ⟨by rw [(h2.c337 x hx).1, (h.c337 x hx).1], by rw [(h2.c337 x hx).2, (h.c337 x hx).2]⟩, fun x hx => by rw [h2.c339 x hx, h.c339 x hx], fun x hx => by rw [h2.c336 x hx, h.c336 x hx], fun x hx => ⟨by rw [(h2.c333 x hx).1, (h.c333 x hx).1], by rw [(h2.c333 x hx).2, (h.c333 x hx).2]⟩, h.od.tr h2.od⟩
theorem keep.ofs {M M1 : fm_M} {cs bs : List Nat} (s : sv cs bs M M1) (h : 335 ∉ cs ∧ 337 ∉ cs ∧ 338 ∉ cs ∧ 339 ∉ cs) (h2 : 336 ∉ cs ∧ 333 ∉ cs ∧ 334 ∉ cs) (od : odr d M M1) : keep d M M1 := ⟨fun x _ => by rw [s.cell 335 h.1 (by decide)], fun x _ => ⟨by rw [s.cell 337 h.2.1 (by decide)], by rw [s.cell 338 h.2.2.1 (by decide)]⟩, fun x _ => by rw [s.cell 339 h.2.2.2 (by decide)], fun x _ => by rw [s.cell 336 h2.1 (by decide)], fun x _ => ⟨by rw [s.cell 333 h2.2.1 (by decide)], by rw [s.cell 334 h2.2.2 (by decide)]⟩, od⟩
/-- all but one command stay -/
def ko1 (k : Nat) (M M' : fm_M) : Prop :=
  (∀ x, x ≠ k → M' 337 x = M 337 x ∧ M' 338 x = M 338 x) ∧
  (∀ x, x < 4 * k ∨ 4 * k + 4 ≤ x → M' 339 x = M 339 x) ∧
  (∀ x, x ≠ k → M' 336 x = M 336 x)
theorem ko1.a {k : Nat} {M M' : fm_M} (h_ : ko1 k M M') : ∀ x, x ≠ k → M' 337 x = M 337 x ∧ M' 338 x = M 338 x := h_.1
theorem ko1.b {k : Nat} {M M' : fm_M} (h_ : ko1 k M M') : ∀ x, x < 4 * k ∨ 4 * k + 4 ≤ x → M' 339 x = M 339 x := h_.2.1
theorem ko1.c {k : Nat} {M M' : fm_M} (h_ : ko1 k M M') : ∀ x, x ≠ k → M' 336 x = M 336 x := h_.2.2
theorem ko1.tr {k : Nat} {M M1 M2 : fm_M} (h : ko1 k M M1) (h2 : ko1 k M1 M2) : ko1 k M M2 := ⟨fun x hx => ⟨by rw [(h2.a x hx).1, (h.a x hx).1], by rw [(h2.a x hx).2, (h.a x hx).2]⟩, fun x hx => by rw [h2.b x hx, h.b x hx], fun x hx => by rw [h2.c x hx, h.c x hx]⟩
theorem ko1.sv {k : Nat} {M M1 : fm_M} {cs bs : List Nat} (s : sv cs bs M M1) (h : 337 ∉ cs ∧ 338 ∉ cs ∧ 339 ∉ cs ∧ 336 ∉ cs) : ko1 k M M1 := ⟨fun x _ => ⟨by rw [s.cell 337 h.1 (by decide)], by rw [s.cell 338 h.2.1 (by decide)]⟩, fun x _ => by rw [s.cell 339 h.2.2.1 (by decide)], fun x _ => by rw [s.cell 336 h.2.2.2 (by decide)]⟩
theorem ko1.keep {c : Nat} {M M' : fm_M} (h : ko1 (10 * d + c) M M') (hc : c < 10) (h5 : ∀ x, x ≠ d → M' 335 x = M 335 x) (h3 : M' 333 = M 333 ∧ M' 334 = M 334) (od : odr d M M') : keep d M M' := ⟨h5, fun x hx => h.a x (by omega), fun x hx => h.b x (by omega), fun x hx => h.c x (by omega), fun x _ => ⟨by rw [h3.1], by rw [h3.2]⟩, od⟩
abbrev cs10 : List Nat := [335, 336, 337, 338, 339, 340, 341, 342, 343, 344]
/-- a command's branches so far -/
def wfk (k b : Nat) (M : fm_M) : Prop :=
  (M 337 k = b) ∧
  (1 ≤ b ∧ b ≤ 4) ∧
  (∀ x, x < b → 1 ≤ M 339 (4 * k + x)) ∧
  (M 338 k = sm b (fun x => M 339 (4 * k + x)))
theorem wfk.nb {k b : Nat} {M : fm_M} (h_ : wfk k b M) : M 337 k = b := h_.1
theorem wfk.b1 {k b : Nat} {M : fm_M} (h_ : wfk k b M) : 1 ≤ b ∧ b ≤ 4 := h_.2.1
theorem wfk.w1 {k b : Nat} {M : fm_M} (h_ : wfk k b M) : ∀ x, x < b → 1 ≤ M 339 (4 * k + x) := h_.2.2.1
theorem wfk.ws {k b : Nat} {M : fm_M} (h_ : wfk k b M) : M 338 k = sm b (fun x => M 339 (4 * k + x)) := h_.2.2.2
/-- what a command's reading leaves of tests and sums -/
def crw (d c : Nat) (M M' : fm_M) : Prop := (∀ x, x ≠ 11 * d + c → M' 340 x = M 340 x) ∧ (∀ x, ¬ (44 * d + 4 * c ≤ x ∧ x < 44 * d + 4 * c + 4) → M' 341 x = M 341 x) ∧ ∀ x, ¬ (208 * d + 8 * c ≤ x ∧ x < 208 * d + 8 * c + 8) → ¬ (208 * d + 88 + 12 * c ≤ x ∧ x < 208 * d + 88 + 12 * c + 12) → same1 x M M'
theorem crw.tr {d c : Nat} {M M1 M2 : fm_M} (h : crw d c M M1) (h2 : crw d c M1 M2) : crw d c M M2 := ⟨fun x hx => by rw [h2.1 x hx, h.1 x hx], fun x hx => by rw [h2.2.1 x hx, h.2.1 x hx], fun x hx hy => (h.2.2 x hx hy).tr (h2.2.2 x hx hy)⟩
theorem crw.cs {d c : Nat} {M M1 : fm_M} (e : ∀ a, 340 ≤ a → a ≤ 344 → M1 a = M a) : crw d c M M1 := ⟨fun x _ => by rw [e 340 (by omega) (by omega)], fun x _ => by rw [e 341 (by omega) (by omega)], fun x _ _ => same1.cs (e 342 (by omega) (by omega)) (e 343 (by omega) (by omega)) (e 344 (by omega) (by omega))⟩
theorem crw.gw {d c : Nat} {M M1 : fm_M} (w : gwr d c M M1) : crw d c M M1 := ⟨w.1, w.2.1, fun x hx _ => w.2.2 x hx⟩
theorem crw.br {d c b : Nat} {M M1 : fm_M} (e0 : M1 340 = M 340) (e1 : M1 341 = M 341) (hb : b < 4) (f : bfr d c b M M1) : crw d c M M1 := ⟨fun x _ => by rw [e0], fun x _ => by rw [e1], fun x _ hx => f x (by unfold ua; omega)⟩
theorem crw.od {d c : Nat} {M M1 : fm_M} (w : crw d c M M1) (hc : c < 10) : odr d M M1 := ⟨fun x hx => w.1 x (by omega), fun x hx => w.2.1 x (by omega), fun x hx => w.2.2 x (by omega) (by omega)⟩
theorem tN_le {kn : Nat → Int} : ∀ {f p : Nat}, tN T n kn f p ≤ f + 1 := by
  intro f
  induction f with
  | zero => intro p; exact Nat.le_refl _
  | succ f ih => intro p; rw [tN]; split
                 · have := ih (p := tE T n kn p + 1); omega
                 · omega
theorem mgu_same {kn : Nat → Int} {p g t : Nat} {M M' : fm_M} (h : mgu T n kn p d g M t) (rb : RB M) (hd : d ≤ 1) (hg : g ≤ 10) (ht : t ≤ 4) (e1 : ∀ x, 44 * d + 4 * g ≤ x → x < 44 * d + 4 * g + 4 → M' 341 x = M 341 x) (e2 : ∀ x, 208 * d + 8 * g ≤ x → x < 208 * d + 8 * g + 8 → same1 x M M') : mgu T n kn p d g M' t := fun t' ht' => by
  have u := h t' ht'
  refine ⟨by rw [e1 _ (by omega) (by omega)]; exact u.1, fun r => ?_, fun r => ?_⟩
  · rw [(e2 _ (by omega) (by omega)).ev rb (by omega)]; exact u.2.1 r
  · rw [(e2 _ (by omega) (by omega)).ev rb (by omega)]; exact u.2.2 r
theorem mbr_same {kn : Nat → Int} {p c b : Nat} {M M' : fm_M} (h : mbr T n kn p d c b M) (rb : RB M) (hd : d ≤ 1) (hc : c < 10) (hb : b < 4) (e2 : ∀ v, v < 3 → same1 (ua d c b v) M M') : mbr T n kn p d c b M' := fun v hv => by
  have u := h v hv
  refine ⟨fun e => by rw [(e2 v hv).1]; exact u.1 e, fun e => ⟨by rw [(e2 v hv).1]; exact (u.2 e).1, fun r => ?_⟩⟩
  rw [(e2 v hv).ev rb (by unfold ua; omega)]; exact (u.2 e).2 r
/-- a command, as the reference keeps it -/
def mco (T : Nat → Int) (n : Nat) (kn : Nat → Int) (p d c : Nat) (M : fm_M) : Prop :=
  M 336 (10 * d + c) = (if chr T n p = 43 then 1 else 0) ∧ M 337 (10 * d + c) = (bN T n kn 3 (bp T n kn p 0) : Nat) ∧ M 338 (10 * d + c) = sm (bN T n kn 3 (bp T n kn p 0)) (fun b => ivn T n (bp T n kn p b)) ∧ M 340 (11 * d + c) = (tN T n kn 3 (p + 1) : Nat) ∧ mgu T n kn (p + 1) d c M (tN T n kn 3 (p + 1)) ∧ ∀ b, b < bN T n kn 3 (bp T n kn p 0) → M 339 (4 * (10 * d + c) + b) = ivn T n (bp T n kn p b) ∧ mbr T n kn (bp T n kn p b) d c b M
/-- the cells of a command are the same -/
def csm (d c : Nat) (M M' : fm_M) : Prop := (M' 336 (10 * d + c) = M 336 (10 * d + c) ∧ M' 337 (10 * d + c) = M 337 (10 * d + c) ∧ M' 338 (10 * d + c) = M 338 (10 * d + c) ∧ M' 340 (11 * d + c) = M 340 (11 * d + c)) ∧ (∀ b, b < 4 → M' 339 (4 * (10 * d + c) + b) = M 339 (4 * (10 * d + c) + b)) ∧ (∀ x, 44 * d + 4 * c ≤ x → x < 44 * d + 4 * c + 4 → M' 341 x = M 341 x) ∧ (∀ x, 208 * d + 8 * c ≤ x → x < 208 * d + 8 * c + 8 → same1 x M M') ∧ ∀ x, 208 * d + 88 + 12 * c ≤ x → x < 208 * d + 88 + 12 * c + 12 → same1 x M M'
theorem mco_same {kn : Nat → Int} {p c : Nat} {M M' : fm_M} (h : mco T n kn p d c M) (rb : RB M) (hd : d ≤ 1) (hc : c < 10) (e : csm d c M M') : mco T n kn p d c M' := by
  obtain ⟨h1, h2, h3, h4, h5, h6⟩ := h
  obtain ⟨⟨e1, e2, e3, e4⟩, e5, e6, e7, e8⟩ := e
  have hb4 : bN T n kn 3 (bp T n kn p 0) ≤ 4 := bN_le
  refine ⟨by rw [e1]; exact h1, by rw [e2]; exact h2, by rw [e3]; exact h3, by rw [e4]; exact h4, mgu_same h5 rb hd (by omega) tN_le e6 e7, fun b hb => ⟨by rw [e5 b (by omega)]; exact (h6 b hb).1, mbr_same (h6 b hb).2 rb hd hc (by omega) (fun v hv => e8 _ (by unfold ua; omega) (by unfold ua; omega))⟩⟩
/-- another command's reading -/
theorem csm.oth {d c c' : Nat} {M M' : fm_M} (k : ko1 (10 * d + c) M M') (w : crw d c M M') (hc : c < 10) (hc' : c' < 10) (hne : c' ≠ c) : csm d c' M M' := ⟨⟨k.c _ (by omega), (k.a _ (by omega)).1, (k.a _ (by omega)).2, w.1 _ (by omega)⟩, fun b hb => k.b _ (by omega), fun x h1 h2 => w.2.1 x (by omega), fun x h1 h2 => w.2.2 x (by omega) (by omega), fun x h1 h2 => w.2.2 x (by omega) (by omega)⟩
theorem csm.gw {d c' : Nat} {M M' : fm_M} {cs bs : List Nat} (s : sv cs bs M M') (h : 336 ∉ cs ∧ 337 ∉ cs ∧ 338 ∉ cs ∧ 339 ∉ cs) (w : gwr d 10 M M') (hc' : c' < 10) : csm d c' M M' := ⟨⟨by rw [s.cell 336 h.1 (by decide)], by rw [s.cell 337 h.2.1 (by decide)], by rw [s.cell 338 h.2.2.1 (by decide)], w.1 _ (by omega)⟩, fun b hb => by rw [s.cell 339 h.2.2.2 (by decide)], fun x h1 h2 => w.2.1 x (by omega), fun x h1 h2 => w.2.2 x (by omega), fun x h1 h2 => w.2.2 x (by omega)⟩
theorem csm.cs {d c' : Nat} {M M' : fm_M} (e : ∀ a, 336 ≤ a → a ≤ 344 → M' a = M a) : csm d c' M M' := ⟨⟨by rw [e 336 (by omega) (by omega)], by rw [e 337 (by omega) (by omega)], by rw [e 338 (by omega) (by omega)], by rw [e 340 (by omega) (by omega)]⟩, fun b hb => by rw [e 339 (by omega) (by omega)], fun x h1 h2 => by rw [e 341 (by omega) (by omega)], fun x h1 h2 => same1.cs (e 342 (by omega) (by omega)) (e 343 (by omega) (by omega)) (e 344 (by omega) (by omega)), fun x h1 h2 => same1.cs (e 342 (by omega) (by omega)) (e 343 (by omega) (by omega)) (e 344 (by omega) (by omega))⟩
/-- the branches that have been read, and where the next one's bar may stand -/
def mbs (T : Nat → Int) (n : Nat) (kn : Nat → Int) (p d c i pos : Nat) (s0 : Int) (M : fm_M) : Prop := M 336 (10 * d + c) = s0 ∧ M 340 (11 * d + c) = (tN T n kn 3 (p + 1) : Nat) ∧ mgu T n kn (p + 1) d c M (tN T n kn 3 (p + 1)) ∧ (∀ b, b < i + 1 → M 339 (4 * (10 * d + c) + b) = ivn T n (bp T n kn p b) ∧ mbr T n kn (bp T n kn p b) d c b M) ∧ pos = brE T n kn (bp T n kn p i) ∧ i + bN T n kn (3 - i) (bp T n kn p i) = bN T n kn 3 (bp T n kn p 0)
theorem m_command {M : fm_M} (h : MS T n d M) (rb : RB M) {kn : Nat → Int} (hk : knm d M kn) {p : Nat} (hp : M 331 3 = p) (hpn : p ≤ n) (hpm : pms (chr T n p)) {c : Nat} (hcm : M 335 d = c)
    (ko : ∀ q M', c < 10 → pCmd T n kn p = .ok () q → sv cs10 sok M M' → RB M' → M' 331 3 = q → q ≤ n → M' 335 d = (c + 1 : Nat) → keep d M M' → (cwf M d c → cwf M' d (c + 1)) → (∀ c', c' < 10 → c' ≠ c → csm d c' M M') → mco T n kn p d c M' → post 1 M')
    (kb : ∀ x M', ((c = 10 ∧ x = p) ∨ (c < 10 ∧ pCmd T n kn p = .bad x)) → sv cs10 s3 M M' → RB M' → M' 331 4 = x → keep d M M' → post 0 M') : wp_Mo_readCommand M post thr := by
  have hd := h.d1
  have hc10 := rb.g 335 2 0 10 (by decide) (x := d) (by omega)
  rw [hcm] at hc10
  unfold wp_Mo_readCommand
  rw [h.dr, Int.toNat_natCast, hcm]
  refine ⟨by omega, rg_small (by omega), fun hc => ?_, fun hc M1 e1 => ⟨Or.inl rfl, kb p M1 (Or.inl ⟨by omega, rfl⟩) ?_ ?_ ?_ ?_⟩⟩
  · have hc' : c < 10 := by omega
    have hp1 : p + 1 ≤ n := chr_lt h.t (by rcases hpm with e | e <;> rw [e] <;> decide)
    have ek : (10 * (d : Int)) + (c : Int) = ((10 * d + c : Nat) : Int) := by omega
    have main : ∀ s0 : Int, (s0 = 0 ∨ s0 = 1) → s0 = (if chr T n p = 43 then 1 else 0) → B_Mo_readCommand_54 post thr M c ((10 * d + c : Nat) : Int) s0 ((10 * d + c : Nat) : Int) := by
      intro s0 hs0 hs1
      unfold B_Mo_readCommand_54
      rw [Int.toNat_natCast]
      refine ⟨by omega, hs0, fun M1 e1 => ⟨by omega, fun M2 e2 M3 e3 M4 e4 => ?_⟩⟩
      have a1 : ∀ a, a ≠ 336 → M1 a = M a := fun a ha => by rw [e1]; exact fu_off _ _ _ ha
      have a2 : ∀ a, a ≠ 337 → M2 a = M1 a := fun a ha => by rw [e2]; exact fu_off _ _ _ ha
      have a3 : ∀ a, a ≠ 338 → M3 a = M2 a := fun a ha => by rw [e3]; exact fu_off _ _ _ ha
      have a4 : ∀ a, a ≠ 331 → M4 a = M3 a := fun a ha => by rw [e4]; exact fu_off _ _ _ ha
      have s4 : sv cs10 sok M M4 := by
        rw [e4, e3, e2, e1]
        exact (((sv.refl.u (by decide) (by decide)).u (by decide) (by decide)).u (by decide) (by decide)).us (by decide)
      have rb4 : RB M4 := by
        rw [e4, e3, e2, e1]
        exact (((rb.u 336 20 0 1 (by decide) _ _ (by omega)).u 337 20 0 4 (by decide) _ _ (by omega)).u 338 20 0 6 (by decide) _ _ (by omega)).o (by decide) _ _
      have q4 : M4 331 3 = (p + 1 : Nat) := by rw [e4, fu_at, if_pos rfl, a3 331 (by decide), a2 331 (by decide), a1 331 (by decide), hp]; rfl
      have k4 : ko1 (10 * d + c) M M4 := by
        refine ⟨fun x hx => ⟨?_, ?_⟩, fun x hx => ?_, fun x hx => by rw [a4 336 (by decide), a3 336 (by decide), a2 336 (by decide), e1, fu_at, if_neg hx]⟩
        · rw [a4 337 (by decide), a3 337 (by decide), e2, fu_at, if_neg hx, a1 337 (by decide)]
        · rw [a4 338 (by decide), e3, fu_at, if_neg hx, a2 338 (by decide), a1 338 (by decide)]
        · rw [a4 339 (by decide), a3 339 (by decide), a2 339 (by decide), a1 339 (by decide)]
      have c335 : M4 335 = M 335 := by rw [a4 335 (by decide), a3 335 (by decide), a2 335 (by decide), a1 335 (by decide)]
      have z337 : M4 337 (10 * d + c) = ((0 : Nat) : Int) := by rw [a4 337 (by decide), a3 337 (by decide), e2, fu_at, if_pos rfl]; rfl
      have z338 : M4 338 (10 * d + c) = 0 := by rw [a4 338 (by decide), e3, fu_at, if_pos rfl]
      have z336 : M4 336 (10 * d + c) = s0 := by rw [a4 336 (by decide), a3 336 (by decide), a2 336 (by decide), e1, fu_at, if_pos rfl]
      have w4 : crw d c M M4 := crw.cs (fun a h1 h2 => by rw [a4 a (by omega), a3 a (by omega), a2 a (by omega), a1 a (by omega)])
      have c4 := h.sv s4 (by decide)
      -- an end that is wrong
      have bad : ∀ x M', pCmd T n kn p = .bad x → sv cs10 s3 M M' → RB M' → M' 331 4 = x → ko1 (10 * d + c) M M' → M' 335 = M 335 ∨ (∀ y, y ≠ d → M' 335 y = M 335 y) → odr d M M' → post 0 M' := fun x M' e s' rb' w' k' h5 od' => kb x M' (Or.inr ⟨hc', e⟩) s' rb' w' (k'.keep hc' (fun y hy => by
        rcases h5 with h5 | h5
        · rw [h5]
        · exact h5 y hy) ⟨s'.cell 333 (by decide) (by decide), s'.cell 334 (by decide) (by decide)⟩ od')
      refine m_guard c4 rb4 (hk.sv s4 (by decide)) q4 hp1 (by omega) (fun q M5 e5 s5 rb5 q5 l5 gw5 t5 u5 => ⟨rg_small (by decide), fun h => absurd h (by decide), fun _ => ?_⟩) (fun x M5 e5 s5 rb5 w5 d5 => ⟨rg_small (by decide), fun _ => bad x M5 (by unfold pCmd; rw [e5, bd_bad]) (s4.trx (s5.mono (by decide) (by decide))) rb5 w5 (k4.tr (ko1.sv s5 (by decide))) (Or.inl (by rw [s5.cell 335 (by decide) (by decide)]; exact c335)) ((w4.od hc').tr d5), fun h => absurd rfl h⟩)
      have s45 := s4.tr (s5.mono (cs' := cs10) (bs' := sok) (by decide) (by decide))
      have k5 := k4.tr (ko1.sv s5 (by decide))
      have w5 := w4.tr (crw.gw gw5)
      refine m_want (h.sv s45 (by decide)) q5 l5 (rg_small (by decide)) (by decide) (fun M6 hc6 s6 q6 v6 l6 => ⟨rg_small (by decide), fun h => absurd h (by decide), fun _ => ?_⟩) (fun M6 hc6 s6 w6 => ⟨rg_small (by decide), fun _ => bad q M6 (by unfold pCmd; rw [e5, bd_ok, if_neg hc6]) (s45.trx (s6.mono (by decide) (by decide))) (rb5.sv s6 (by decide)) w6 (k5.tr (ko1.sv s6 (by decide))) (Or.inl (by rw [s6.cell 335 (by decide) (by decide), s5.cell 335 (by decide) (by decide)]; exact c335)) ((w5.od hc').tr (odr.ofs s6 (by decide))), fun h => absurd rfl h⟩)
      have s46 := s45.tr (s6.mono (cs' := cs10) (bs' := sok) (by decide) (by decide))
      have k6 := k5.tr (ko1.sv s6 (by decide))
      have w6 := w5.tr (crw.cs (fun a h1 h2 => s6.cell a (by simp) (by omega)))
      have o6 : ∀ x, same1 x M5 M6 := fun x => same1.cs (s6.cell 342 (by decide) (by decide)) (s6.cell 343 (by decide) (by decide)) (s6.cell 344 (by decide) (by decide))
      have rb6 := rb5.sv s6 (by decide)
      have c3356 : M6 335 = M 335 := by rw [s6.cell 335 (by decide) (by decide), s5.cell 335 (by decide) (by decide)]; exact c335
      have hC : pCmd T n kn p = (pBranch T n kn 0 (q + 1)).bd (fun w q2 => (pBrs T n kn 3 w q2).bd (fun _ q3 => pEnd T n 59 q3)) := by unfold pCmd; rw [e5, bd_ok, if_pos hc6]
      refine m_branch (h.sv s46 (by decide)) rb6 (hk.sv s46 (by decide)) q6 l6 hc' (b := 0) (by omega) (by rw [s6.cell 337 (by decide) (by decide), s5.cell 337 (by decide) (by decide)]; exact z337) (ws := 0) (by rw [s6.cell 338 (by decide) (by decide), s5.cell 338 (by decide) (by decide)]; exact z338) (fun w r M7 e7 s7 rb7 q7 l7 w7 f7 g7 h7 iw7 eq7 t7 u7 fr7 mb7 => ⟨rg_small (by decide), fun _ => ?_, fun h => absurd h (by decide)⟩) (fun x M7 e7 s7 rb7 w7 f7 g7 d7 => ⟨rg_small (by decide), fun h => absurd rfl h, fun _ => bad x M7 (by rw [hC, e7, bd_bad]) (s46.trx (s7.mono (by decide) (by decide))) rb7 w7 (k6.tr ⟨f7, g7, fun x _ => by rw [s7.cell 336 (by decide) (by decide)]⟩) (Or.inl (by rw [s7.cell 335 (by decide) (by decide)]; exact c3356)) ((w6.od hc').tr d7)⟩)
      have k7 : ko1 (10 * d + c) M M7 := k6.tr ⟨fun x hx => ⟨by rw [f7, if_neg hx], by rw [g7, if_neg hx]⟩, fun x hx => by rw [h7, if_neg (by omega)], fun x _ => by rw [s7.cell 336 (by decide) (by decide)]⟩
      have ww7 : crw d c M M7 := w6.tr (crw.br t7 u7 (by omega) fr7)
      have hbp0 : bp T n kn p 0 = q + 1 := by rw [bp, ps_ok e5]
      have bs7 : mbs T n kn p d c 0 r s0 M7 := by
        refine ⟨by rw [s7.cell 336 (by decide) (by decide), s6.cell 336 (by decide) (by decide), s5.cell 336 (by decide) (by decide)]; exact z336, by rw [t7, s6.cell 340 (by decide) (by decide)]; exact t5, ?_, fun b hb => ?_, by rw [hbp0]; exact eq7, by rw [Nat.zero_add]⟩
        · refine mgu_same u5 rb5 hd (by omega) tN_le (fun x _ _ => by rw [u7, s6.cell 341 (by decide) (by decide)]) (fun x h1 h2 => (o6 x).tr (fr7 x (by unfold ua; omega)))
        · have : b = 0 := by omega
          subst this
          rw [h7, if_pos rfl, hbp0]; exact ⟨iw7, mb7⟩
      have wf7 : wfk (10 * d + c) 1 M7 := by
        refine ⟨by rw [f7, if_pos rfl], by omega, fun x hx => ?_, ?_⟩
        · rw [h7, if_pos (by omega)]; exact w7
        · rw [g7, if_pos rfl]; simp only [sm]; rw [h7, if_pos rfl]
      have ws7 : M7 338 (10 * d + c) = w := by rw [g7, if_pos rfl]; omega
      refine ⟨fun M' v1 v2 => v1 = c ∧ v2 = ((10 * d + c : Nat) : Int) ∧ ∃ b pos : Nat, wfk (10 * d + c) b M' ∧ sv cs10 sok M M' ∧ RB M' ∧ M' 331 3 = pos ∧ pos ≤ n ∧ ko1 (10 * d + c) M M' ∧ M' 335 = M 335 ∧ pCmd T n kn p = (pBrs T n kn (4 - b) (M' 338 (10 * d + c)) pos).bd (fun _ q3 => pEnd T n 59 q3) ∧ crw d c M M' ∧ mbs T n kn p d c (b - 1) pos s0 M', fun M' _ _ => (5 - M' 337 (10 * d + c)).toNat, ⟨rfl, rfl, 1, r, wf7, s46.tr (s7.mono (by decide) (by decide)), rb7, q7, l7, k7, by rw [s7.cell 335 (by decide) (by decide)]; exact c3356, by rw [hC, e7, bd_ok, ws7], ww7, bs7⟩, ?_⟩
      rintro M8 v1 v2 ⟨rfl, rfl, b, pos, wf8, s8, rb8, q8, l8, k8, c8, hS, w8, bs8⟩
      have hb := wf8.b1
      have cc8 := h.sv s8 (by decide)
      refine m_here cc8 q8 l8 ⟨rgc h.t pos, fun hc9 => ?_, fun hc9 => ?_⟩
      · rw [cc8.dr, Int.toNat_natCast, c8, hcm]
        refine ⟨by omega, fun M9 e9 => ?_⟩
        have s9 : sv cs10 sok M M9 := by rw [e9]; exact s8.u (by decide) (by decide)
        have rb9 : RB M9 := by rw [e9]; exact rb8.u 335 2 0 10 (by decide) _ _ (by omega)
        have q9 : M9 331 3 = pos := by rw [e9, fu_off _ _ _ (by decide)]; exact q8
        have a9 : ∀ a, a ≠ 335 → M9 a = M8 a := fun a ha => by rw [e9]; exact fu_off _ _ _ ha
        have hE : pCmd T n kn p = pEnd T n 59 pos := by
          rw [hS]
          cases hf : 4 - b with
          | zero => rw [pBrs, if_neg hc9, bd_ok]
          | succ f => rw [pBrs, if_neg hc9, bd_ok]
        have k9 : ko1 (10 * d + c) M M9 := k8.tr ⟨fun x _ => ⟨by rw [a9 337 (by decide)], by rw [a9 338 (by decide)]⟩, fun x _ => by rw [a9 339 (by decide)], fun x _ => by rw [a9 336 (by decide)]⟩
        have w9 : crw d c M M9 := w8.tr (crw.cs (fun a h1 h2 => a9 a (by omega)))
        have o9 : ∀ y, y ≠ d → M9 335 y = M 335 y := fun y hy => by rw [e9, fu_at, if_neg hy, c8]
        refine m_want (h.sv s9 (by decide)) q9 l8 (rg_small (by decide)) (by decide) (fun M10 hc10' s10 q10 v10 l10 => ⟨Or.inr rfl, ko (pos + 1) M10 hc' ?_ (s9.tr (s10.mono (by decide) (by decide))) (rb9.sv s10 (by decide)) q10 l10 ?_ ?_ ?_ (fun c' h1 h2 => csm.oth (k9.tr (ko1.sv s10 (by decide))) (w9.tr (crw.cs (fun a h1 h2 => s10.cell a (by simp) (by omega)))) hc' h1 h2) ?_⟩) (fun M10 hc10' s10 w10 => ⟨Or.inl rfl, bad pos M10 ?_ (s9.trx (s10.mono (by decide) (by decide))) (rb9.sv s10 (by decide)) w10 (k9.tr (ko1.sv s10 (by decide))) (Or.inr (fun y hy => by rw [s10.cell 335 (by decide) (by decide)]; exact o9 y hy)) ((w9.od hc').tr (odr.ofs s10 (by decide)))⟩)
        · rw [hE]; unfold pEnd; rw [if_pos hc10']
        · rw [s10.cell 335 (by decide) (by decide), e9, fu_at, if_pos rfl]; rfl
        · exact (k9.tr (ko1.sv s10 (by decide))).keep hc' (fun y hy => by rw [s10.cell 335 (by decide) (by decide)]; exact o9 y hy) ⟨by rw [s10.cell 333 (by decide) (by decide), s9.cell 333 (by decide) (by decide)], by rw [s10.cell 334 (by decide) (by decide), s9.cell 334 (by decide) (by decide)]⟩ ((w9.od hc').tr (odr.ofs s10 (by decide)))
        · intro hw c' hc2
          rw [s10.cell 337 (by decide) (by decide), s10.cell 338 (by decide) (by decide), s10.cell 339 (by decide) (by decide), a9 337 (by decide), a9 338 (by decide), a9 339 (by decide)]
          by_cases e : c' = c
          · subst e
            rw [wf8.nb]
            exact ⟨by omega, fun x hx => wf8.w1 x (by omega), by rw [wf8.ws, Int.toNat_natCast]⟩
          · have h1 := k8.a (10 * d + c') (by omega)
            have h2 : ∀ b, b < 4 → M8 339 (4 * (10 * d + c') + b) = M 339 (4 * (10 * d + c') + b) := fun b hb => k8.b _ (by omega)
            have h3 := hw c' (by omega)
            have h4 := rb.g 337 20 0 4 (by decide) (x := 10 * d + c') (by omega)
            rw [h1.1, h1.2]
            refine ⟨h3.1, fun b hb => ?_, ?_⟩
            · rw [h2 b (by omega)]; exact h3.2.1 b hb
            · rw [h3.2.2]; exact sm_congr (fun b hb => by rw [h2 b (by omega)])
        · have hE1 : chr T n pos ≠ 124 := hc9
          obtain ⟨b1, b2, b3, b4, b5, b6⟩ := bs8
          have hbn : b = bN T n kn 3 (bp T n kn p 0) := by
            rw [← b6]
            cases hf : 3 - (b - 1) with
            | zero => rw [bN]; omega
            | succ f => rw [bN, ← b5, if_neg hE1]; omega
          have m8 : mco T n kn p d c M8 := by
            rw [show b - 1 + 1 = b by omega] at b4
            refine ⟨by rw [b1, hs1], by rw [← hbn]; exact wf8.nb, ?_, b2, b3, by rw [← hbn]; exact b4⟩
            rw [wf8.ws, ← hbn]; exact sm_congr (fun x hx => (b4 x hx).1)
          exact mco_same (mco_same m8 rb8 hd hc' (csm.cs (fun a h1 h2 => a9 a (by omega)))) rb9 hd hc' (csm.cs (fun a h1 h2 => s10.cell a (by simp) (by omega)))
        · rw [hE]; unfold pEnd; rw [if_neg hc10']
      · rw [Int.toNat_natCast, wf8.nb]
        have hl1 : pos + 1 ≤ n := chr_lt h.t (by rw [hc9]; decide)
        refine ⟨by omega, rg_small (by omega), fun h4 M9 e9 => ?_, fun h4 M9 e9 => ⟨Or.inl rfl, bad pos M9 ?_ ?_ ?_ ?_ ?_ (Or.inl ?_) ((w8.od hc').tr (odr.ofs (cs := []) (bs := s3) (by rw [e9]; exact sv.refl.us (by decide)) (by decide)))⟩⟩
        · have s9 : sv cs10 sok M M9 := by rw [e9]; exact s8.us (by decide)
          have rb9 : RB M9 := by rw [e9]; exact rb8.o (by decide) _ _
          have q9 : M9 331 3 = (pos + 1 : Nat) := by rw [e9, fu_at, if_pos rfl, q8]; rfl
          have a9 : ∀ a, a ≠ 331 → M9 a = M8 a := fun a ha => by rw [e9]; exact fu_off _ _ _ ha
          have k9 : ko1 (10 * d + c) M M9 := k8.tr ⟨fun x _ => ⟨by rw [a9 337 (by decide)], by rw [a9 338 (by decide)]⟩, fun x _ => by rw [a9 339 (by decide)], fun x _ => by rw [a9 336 (by decide)]⟩
          have w9 : crw d c M M9 := w8.tr (crw.cs (fun a h1 h2 => a9 a (by omega)))
          rw [show 4 - b = (4 - (b + 1)) + 1 by omega, pBrs, if_pos hc9] at hS
          refine m_branch (h.sv s9 (by decide)) rb9 (hk.sv s9 (by decide)) q9 hl1 hc' (b := b) (by omega) (by rw [a9 337 (by decide)]; exact wf8.nb) (ws := M8 338 (10 * d + c)) (by rw [a9 338 (by decide)]) (fun w2 r2 M10 e10 s10 rb10 q10 l10 w10 f10 g10 h10 iw10 eq10 t10 u10 fr10 mb10 => ⟨rg_small (by decide), fun _ => ?_, fun h => absurd h (by decide)⟩) (fun x M10 e10 s10 rb10 w10 f10 g10 d10 => ⟨rg_small (by decide), fun h => absurd rfl h, fun _ => bad x M10 (by rw [hS, e10, bd_bad, bd_bad]) (s9.trx (s10.mono (by decide) (by decide))) rb10 w10 (k9.tr ⟨f10, g10, fun x _ => by rw [s10.cell 336 (by decide) (by decide)]⟩) (Or.inl (by rw [s10.cell 335 (by decide) (by decide), a9 335 (by decide)]; exact c8)) ((w9.od hc').tr d10)⟩)
          have wf10 : wfk (10 * d + c) (b + 1) M10 := by
            refine ⟨by rw [f10, if_pos rfl], by omega, fun x hx => ?_, ?_⟩
            · rw [h10]
              by_cases e : x = b
              · rw [if_pos (by omega)]; exact w10
              · rw [if_neg (by omega), a9 339 (by decide)]; exact wf8.w1 x (by omega)
            · rw [g10, if_pos rfl, wf8.ws]
              simp only [sm]
              rw [h10, if_pos rfl]
              congr 1
              exact sm_congr (fun x hx => by rw [h10, if_neg (by omega), a9 339 (by decide)])
          refine ⟨⟨rfl, rfl, b + 1, r2, wf10, s9.tr (s10.mono (by decide) (by decide)), rb10, q10, l10, k9.tr ⟨fun x hx => ⟨by rw [f10, if_neg hx], by rw [g10, if_neg hx]⟩, fun x hx => by rw [h10, if_neg (by omega)], fun x _ => by rw [s10.cell 336 (by decide) (by decide)]⟩, by rw [s10.cell 335 (by decide) (by decide), a9 335 (by decide)]; exact c8, ?_, w9.tr (crw.br t10 u10 (by omega) fr10), ?_⟩, ?_⟩
          · rw [hS, e10, bd_ok, g10, if_pos rfl]
          · obtain ⟨b1, b2, b3, b4, b5, b6⟩ := bs8
            have o9 : ∀ x, same1 x M8 M9 := fun x => same1.cs (a9 342 (by decide)) (a9 343 (by decide)) (a9 344 (by decide))
            have hbpb : bp T n kn p b = pos + 1 := by
              rw [show b = (b - 1) + 1 by omega, bp, ← b5]
            rw [show b + 1 - 1 = b by omega]
            refine ⟨by rw [s10.cell 336 (by decide) (by decide), a9 336 (by decide)]; exact b1, by rw [t10, a9 340 (by decide)]; exact b2, ?_, fun b' hb' => ?_, by rw [hbpb]; exact eq10, ?_⟩
            · exact mgu_same b3 rb8 hd (by omega) tN_le (fun x _ _ => by rw [u10, a9 341 (by decide)]) (fun x h1 h2 => (o9 x).tr (fr10 x (by unfold ua; omega)))
            · by_cases e : b' = b
              · subst e
                rw [h10, if_pos rfl, hbpb]; exact ⟨iw10, mb10⟩
              · rw [h10, if_neg (by omega), a9 339 (by decide)]
                have u := b4 b' (by omega)
                exact ⟨u.1, mbr_same u.2 rb8 hd hc' (by omega) (fun v hv => (o9 _).tr (fr10 _ (by unfold ua; omega)))⟩
            · rw [← b6, show 3 - (b - 1) = (3 - b) + 1 by omega, bN, ← b5, if_pos hc9, hbpb]; omega
          · dsimp only; rw [wf10.nb, wf8.nb]; omega
        · have : b = 4 := by omega
          subst this
          rw [hS, show 4 - 4 = 0 from rfl, pBrs, if_pos hc9, bd_bad]
        · rw [e9]; exact s8.us4
        · rw [e9]; exact rb8.o (by decide) _ _
        · rw [e9, fu_at, if_pos rfl, q8]
        · exact k8.tr ⟨fun x _ => ⟨by rw [e9, fu_off _ _ _ (by decide)], by rw [e9, fu_off _ _ _ (by decide)]⟩, fun x _ => by rw [e9, fu_off _ _ _ (by decide)], fun x _ => by rw [e9, fu_off _ _ _ (by decide)]⟩
        · rw [e9, fu_off _ _ _ (by decide)]; exact c8
    rw [ek]
    exact m_here h hp hpn ⟨rgc h.t p, fun hx => main 0 (Or.inl rfl) (by rw [if_neg hx]), fun hx => main 1 (Or.inr rfl) (by rw [if_pos hx])⟩
  · rw [e1]; exact sv.refl.us (by decide)
  · rw [e1]; exact rb.o (by decide) _ _
  · rw [e1, fu_at, if_pos rfl, hp]
  · have s1 : sv [] [4] M M1 := by rw [e1]; exact sv.refl.us (by decide)
    exact keep.ofs s1 (by decide) (by decide) (odr.ofs s1 (by decide))
theorem m_declare {M : fm_M} (h : MS T n d M) (rb : RB M) {kn : Nat → Int} (hk : knm d M kn) {p : Nat} (hp : M 331 3 = p) (hpn : p ≤ n) (hnm : nam (chr T n p))
    (ko : ∀ m q M', pDecl T n kn p = .ok m q → 1 ≤ m → sv [333, 334] sok M M' → RB M' → M' 331 3 = q → q ≤ n → p < q → knm d M' (fun v => if v = (chr T n p - 97).toNat then m else kn v) → q = dE T n p → M' 334 (3 * d + (chr T n p - 97).toNat) = ivn T n (nq T n (p + 1) + 1) → (∀ x, x ≠ 3 * d + (chr T n p - 97).toNat → M' 333 x = M 333 x ∧ M' 334 x = M 334 x) → post 1 M')
    (kb : ∀ x M', pDecl T n kn p = .bad x → sv [333, 334] s3 M M' → RB M' → M' 331 4 = x → (∀ x, x ≠ 3 * d + (chr T n p - 97).toNat → M' 333 x = M 333 x ∧ M' 334 x = M 334 x) → post 0 M') : wp_Mo_declare M post thr := by
  have hd := h.d1
  have hnm' := hnm
  unfold nam at hnm'
  generalize hv : (chr T n p - 97).toNat = v at ko kb
  have hv3 : v < 3 := by omega
  have hp1 : p + 1 ≤ n := chr_lt h.t (by omega)
  unfold wp_Mo_declare
  refine m_here h hp hpn ?_
  rw [h.dr, show ((3 * (d : Int)) + chr T n p - 97) = ((3 * d + v : Nat) : Int) by omega, Int.toNat_natCast, hk v hv3]
  have hb := rb.g 333 6 0 9 (by decide) (x := 3 * d + v) (by omega)
  rw [hk v hv3] at hb
  refine ⟨by omega, rg_small (by omega), fun h0 M1 e1 => ?_, fun h0 M1 e1 => ⟨Or.inl rfl, kb p M1 ?_ ?_ ?_ ?_ (fun x _ => ⟨by rw [e1, fu_off _ _ _ (by decide)], by rw [e1, fu_off _ _ _ (by decide)]⟩)⟩⟩
  · have hD : pDecl T n kn p = (pNum T n 1 9 (p + 1)).bd (fun m q => if chr T n q = 58 then (pNum T n 0 m (q + 1)).bd (fun _ q2 => if chr T n q2 = 59 then .ok m (q2 + 1) else .bad q2) else .bad q) := by
      unfold pDecl; rw [hv, if_neg (by omega)]
    have s1 : sv [333, 334] sok M M1 := by rw [e1]; exact sv.refl.us (by decide)
    have rb1 : RB M1 := by rw [e1]; exact rb.o (by decide) _ _
    have q1 : M1 331 3 = (p + 1 : Nat) := by rw [e1, fu_at, if_pos rfl, hp]; rfl
    have ea1 : ∀ a, a ≠ 331 → M1 a = M a := fun a ha => by rw [e1]; exact fu_off _ _ _ ha
    refine m_num (h.sv s1 (by decide)) q1 hp1 (rg_small (by decide)) (rg_small (by decide)) (by decide) (fun m q M2 e2 s2 q2 v2 => ⟨rg_small (by decide), fun _ M3 e3 => ?_, fun h => absurd h (by decide)⟩) (fun M2 e2 s2 w2 => ⟨rg_small (by decide), fun h => absurd rfl h, fun _ => kb (p + 1) M2 (by rw [hD, e2, bd_bad]) (s1.trx (s2.mono (by decide) (by decide))) (rb1.sv s2 (by decide)) w2 (fun x _ => ⟨by rw [s2.cell 333 (by decide) (by decide), ea1 333 (by decide)], by rw [s2.cell 334 (by decide) (by decide), ea1 334 (by decide)]⟩)⟩)
    have hm := pNum_ok h.t e2
    rw [hD, e2, bd_ok] at ko kb
    rw [v2] at e3
    have s12 := s1.tr (s2.mono (cs' := [333, 334]) (bs' := sok) (by decide) (by decide))
    have s3' : sv [333, 334] sok M M3 := by rw [e3]; exact s12.u (by decide) (by decide)
    have rb3 : RB M3 := by rw [e3]; exact (rb1.sv s2 (by decide)).u 333 6 0 9 (by decide) _ _ (by omega)
    have q3 : M3 331 3 = q := by rw [e3, fu_off _ _ _ (by decide)]; exact q2
    have v3 : M3 331 5 = m := by rw [e3, fu_off _ _ _ (by decide)]; exact v2
    have df3 : ∀ x, x ≠ 3 * d + v → M3 333 x = M 333 x ∧ M3 334 x = M 334 x := fun x hx => ⟨by rw [e3, fu_at, if_neg hx, s2.cell 333 (by decide) (by decide), ea1 333 (by decide)], by rw [e3, fu_off _ _ _ (by decide), s2.cell 334 (by decide) (by decide), ea1 334 (by decide)]⟩
    have kn3 : knm d M3 (fun x => if x = v then m else kn x) := fun x hx => by
      rw [e3, fu_at, s2.cell 333 (by decide) (by decide), e1, fu_off _ _ _ (by decide)]
      by_cases e : x = v
      · rw [if_pos (by omega)]; dsimp only; rw [if_pos e]
      · rw [if_neg (by omega)]; dsimp only; rw [if_neg e]; exact hk x hx
    refine m_want (h.sv s3' (by decide)) q3 hm.2.2.2.2.2 (rg_small (by decide)) (by decide) (fun M4 hc4 s4 q4 v4 l4 => ⟨rg_small (by decide), fun h => absurd h (by decide), fun _ => ?_⟩) (fun M4 hc4 s4 w4 => ⟨rg_small (by decide), fun _ => kb q M4 (by rw [if_neg hc4]) (s3'.trx (s4.mono (by decide) (by decide))) (rb3.sv s4 (by decide)) w4 (fun x hx => ⟨by rw [s4.cell 333 (by decide) (by decide)]; exact (df3 x hx).1, by rw [s4.cell 334 (by decide) (by decide)]; exact (df3 x hx).2⟩), fun h => absurd rfl h⟩)
    rw [if_pos hc4] at ko kb
    have s34 := s3'.tr (s4.mono (cs' := [333, 334]) (bs' := sok) (by decide) (by decide))
    have rb4 := rb3.sv s4 (by decide)
    rw [v4, v3]
    refine m_num (h.sv s34 (by decide)) q4 l4 (rg_small (by decide)) (rg_small (by omega)) (by omega) (fun s r M5 e5 s5 q5 v5 => ⟨rg_small (by decide), fun _ M6 e6 => ?_, fun h => absurd h (by decide)⟩) (fun M5 e5 s5 w5 => ⟨rg_small (by decide), fun h => absurd rfl h, fun _ => kb (q + 1) M5 (by rw [e5, bd_bad]) (s34.trx (s5.mono (by decide) (by decide))) (rb4.sv s5 (by decide)) w5 (fun x hx => ⟨by rw [s5.cell 333 (by decide) (by decide), s4.cell 333 (by decide) (by decide)]; exact (df3 x hx).1, by rw [s5.cell 334 (by decide) (by decide), s4.cell 334 (by decide) (by decide)]; exact (df3 x hx).2⟩)⟩)
    have hs := pNum_ok h.t e5
    rw [e5, bd_ok] at ko kb
    rw [v5] at e6
    have s35 := s34.tr (s5.mono (cs' := [333, 334]) (bs' := sok) (by decide) (by decide))
    have s6 : sv [333, 334] sok M M6 := by rw [e6]; exact s35.u (by decide) (by decide)
    have rb6 : RB M6 := by rw [e6]; exact (rb4.sv s5 (by decide)).u 334 6 0 9 (by decide) _ _ (by omega)
    have q6 : M6 331 3 = r := by rw [e6, fu_off _ _ _ (by decide)]; exact q5
    have df6 : ∀ x, x ≠ 3 * d + v → M6 333 x = M 333 x ∧ M6 334 x = M 334 x := fun x hx => ⟨by rw [e6, fu_off _ _ _ (by decide), s5.cell 333 (by decide) (by decide), s4.cell 333 (by decide) (by decide)]; exact (df3 x hx).1, by rw [e6, fu_at, if_neg hx, s5.cell 334 (by decide) (by decide), s4.cell 334 (by decide) (by decide)]; exact (df3 x hx).2⟩
    have n2 := pNum_val e2
    have n5 := pNum_val e5
    rw [n2.2] at n5
    refine m_want (h.sv s6 (by decide)) q6 hs.2.2.2.2.2 (rg_small (by decide)) (by decide) (fun M7 hc7 s7 q7 v7 l7 => ⟨Or.inr rfl, ko m (r + 1) M7 (by rw [if_pos hc7]) hm.1 (s6.tr (s7.mono (by decide) (by decide))) (rb6.sv s7 (by decide)) q7 l7 (by omega) (fun x hx => ?_) (by unfold dE; rw [← n5.2]) (by rw [s7.cell 334 (by decide) (by decide), e6, fu_at, if_pos rfl]; exact n5.1) (fun x hx => ⟨by rw [s7.cell 333 (by decide) (by decide)]; exact (df6 x hx).1, by rw [s7.cell 334 (by decide) (by decide)]; exact (df6 x hx).2⟩)⟩) (fun M7 hc7 s7 w7 => ⟨Or.inl rfl, kb r M7 (by rw [if_neg hc7]) (s6.trx (s7.mono (by decide) (by decide))) (rb6.sv s7 (by decide)) w7 (fun x hx => ⟨by rw [s7.cell 333 (by decide) (by decide)]; exact (df6 x hx).1, by rw [s7.cell 334 (by decide) (by decide)]; exact (df6 x hx).2⟩)⟩)
    rw [s7.cell 333 (by decide) (by decide), e6, fu_off _ _ _ (by decide), s5.cell 333 (by decide) (by decide), s4.cell 333 (by decide) (by decide)]
    exact kn3 x hx
  · unfold pDecl; rw [hv, if_pos (by omega)]
  · rw [e1]; exact sv.refl.us (by decide)
  · rw [e1]; exact rb.o (by decide) _ _
  · rw [e1, fu_at, if_pos rfl, hp]
end Mo3
end Pu_Y
section Pu_Z
section Mo4
variable {T : Nat → Int} {n d : Nat} {post : Int → fm_M → Prop} {thr : String → fm_M → Prop}
abbrev cs12 : List Nat := [333, 334, 335, 336, 337, 338, 339, 340, 341, 342, 343, 344]
def dc3 (kn : Nat → Int) : Nat := (if 0 < kn 0 then 1 else 0) + (if 0 < kn 1 then 1 else 0) + (if 0 < kn 2 then 1 else 0)
theorem dc3_full {kn : Nat → Int} {v : Nat} (hv : v < 3) (h : ¬ 0 < kn v) : dc3 kn ≤ 2 := by
  have : v = 0 ∨ v = 1 ∨ v = 2 := by omega
  unfold dc3
  rcases this with e | e | e <;> subst e
  · rw [if_neg h]; split <;> split <;> omega
  · rw [if_neg h]; split <;> split <;> omega
  · rw [if_neg h]; split <;> split <;> omega
theorem dc3_le (kn : Nat → Int) : dc3 kn ≤ 3 := by unfold dc3; split <;> split <;> split <;> omega
theorem dc3_add {kn : Nat → Int} {v : Nat} (hv : v < 3) (h : ¬ 0 < kn v) {m : Int} (hm : 1 ≤ m) : dc3 (fun x => if x = v then m else kn x) = dc3 kn + 1 := by
  have hm' : 0 < m := by omega
  have : v = 0 ∨ v = 1 ∨ v = 2 := by omega
  unfold dc3
  rcases this with e | e | e <;> subst e <;> simp [h, hm'] <;> omega
/-- the game that the reference has read into its draft -/
def MC (T : Nat → Int) (n d c : Nat) (M : fm_M) : Prop :=
  (∀ v, v < 3 → M 333 (3 * d + v) = KN T n v) ∧ (∀ v, v < 3 → M 334 (3 * d + v) = dF T n 3 0 v) ∧ (∀ c', c' < c → mco T n (KN T n) (cpp T n c') d c' M) ∧ M 340 (11 * d + 10) = (tN T n (KN T n) 3 (cpp T n c + 1) : Nat) ∧ mgu T n (KN T n) (cpp T n c + 1) d 10 M (tN T n (KN T n) 3 (cpp T n c + 1))
/-- what stands before a command -/
def MH (T : Nat → Int) (n d : Nat) (kn : Nat → Int) (c pos : Nat) (M : fm_M) : Prop := (∃ c q, pAll T n = .ok c q) → kn = KN T n ∧ pos = cpp T n c ∧ (∀ v, v < 3 → M 334 (3 * d + v) = dF T n 3 0 v) ∧ ∀ c', c' < c → mco T n (KN T n) (cpp T n c') d c' M
/-- the commands and what follows -/
theorem m_rest {M M1 : fm_M} (h : MS T n d M) (s1 : sv cs12 sok M M1) (rb1 : RB M1) {kn : Nat → Int} (hk : knm d M1 kn) {p : Nat} (hp : M1 331 3 = p) (hpn : p ≤ n) (hc : M1 335 d = 0) (kp : keep d M M1) (hH : MH T n d kn 0 p M1) (hA : pAll T n = (pCmds T n kn 10 0 p).bd (fun c p2 => pLast T n kn c p2))
    (ko : ∀ c q M', pAll T n = .ok c q → sv cs12 sok M M' → RB M' → keep d M M' → M' 335 d = (c : Nat) → cwf M' d c → MC T n d c M' → post 1 M') (kb : ∀ x M', pAll T n = .bad x → sv cs12 s3 M M' → RB M' → keep d M M' → M' 331 4 = x → post 0 M') : B_Mo_readAll_86 post thr M1 := by
  have hd := h.d1
  have hn := h.t.1
  refine ⟨fun M' => ∃ c pos : Nat, M' 335 d = c ∧ c ≤ 10 ∧ sv cs12 sok M M' ∧ RB M' ∧ knm d M' kn ∧ M' 331 3 = pos ∧ pos ≤ n ∧ keep d M M' ∧ cwf M' d c ∧ MH T n d kn c pos M' ∧ pAll T n = (pCmds T n kn (10 - c) c pos).bd (fun c p2 => pLast T n kn c p2), fun M' => (11 - M' 335 d).toNat, ⟨0, p, hc, by omega, s1, rb1, hk, hp, hpn, kp, fun c' hc' => by omega, hH, hA⟩, ?_⟩
  rintro M2 ⟨c, pos, c2, hc10, s2, rb2, k2, q2, l2, kp2, w2, hH2, hS⟩
  have m2 := h.sv s2 (by decide)
  have go : pms (chr T n pos) → B_Mo_readAll_104 post thr (fun M'_1 => (∃ c pos : Nat, M'_1 335 d = c ∧ c ≤ 10 ∧ sv cs12 sok M M'_1 ∧ RB M'_1 ∧ knm d M'_1 kn ∧ M'_1 331 3 = pos ∧ pos ≤ n ∧ keep d M M'_1 ∧ cwf M'_1 d c ∧ MH T n d kn c pos M'_1 ∧ pAll T n = (pCmds T n kn (10 - c) c pos).bd (fun c p2 => pLast T n kn c p2)) ∧ (11 - M'_1 335 d).toNat < (11 - M2 335 d).toNat) M2 := by
    intro hpm
    refine m_command m2 rb2 k2 q2 l2 hpm c2 (fun q M3 hc9 e3 s3' rb3 q3 l3 c3 kp3 w3 cs3' m3 => ⟨rg_small (by decide), fun _ => ⟨⟨c + 1, q, c3, by omega, s2.tr (s3'.mono (by decide) (by decide)), rb3, k2.sv s3' (by decide), q3, l3, kp2.tr kp3, w3 w2, ?_, ?_⟩, by rw [c3, c2]; omega⟩, fun h => absurd h (by decide)⟩) (fun x M3 hx s3' rb3 w3 kp3 => ⟨rg_small (by decide), fun h => absurd rfl h, fun _ => kb x M3 ?_ (s2.trx (s3'.mono (by decide) (by decide))) rb3 (kp2.tr kp3) w3⟩)
    · intro hx
      obtain ⟨hk, hpos, hfv, hcc⟩ := hH2 hx
      refine ⟨hk, ?_, fun v hv => by rw [s3'.cell 334 (by decide) (by decide)]; exact hfv v hv, fun c' hc' => ?_⟩
      · unfold cpp; rw [cp]
        rw [show cp T n (KN T n) (P1 T n) c = pos from hpos.symm, ← hk, e3]; rfl
      · by_cases e : c' = c
        · rw [e, ← hpos, ← hk]; exact m3
        · exact mco_same (hcc c' (by omega)) rb2 hd (by omega) (cs3' c' (by omega) e)
    · rw [hS, show 10 - c = (10 - (c + 1)) + 1 by omega, pCmds, if_pos hpm, e3, bd_ok]
    · rcases hx with ⟨a, b⟩ | ⟨a, b⟩
      · subst a
        rw [hS, show 10 - 10 = 0 from rfl, pCmds, if_pos hpm, bd_bad, b]
      · rw [hS, show 10 - c = (10 - (c + 1)) + 1 by omega, pCmds, if_pos hpm, b, bd_bad, bd_bad]
  refine m_here m2 q2 l2 ⟨rgc h.t pos, fun e => go (Or.inl e), fun e => m_here m2 q2 l2 ⟨rgc h.t pos, fun e2 => ?_, fun e2 => go (Or.inr e2)⟩⟩
  have hnp : ¬ pms (chr T n pos) := fun hh => by rcases hh with hh | hh; exact e hh; exact e2 hh
  have hL : pAll T n = pLast T n kn c pos := by
    rw [hS]
    cases hf : 10 - c with
    | zero => rw [pCmds, if_neg hnp, bd_ok]
    | succ f => rw [pCmds, if_neg hnp, bd_ok]
  refine m_want m2 q2 l2 (rg_small (by decide)) (by decide) (fun M3 hc3 s3' q3 v3 l3 => ⟨rg_small (by decide), fun h => absurd h (by decide), fun _ => ?_⟩) (fun M3 hc3 s3' w3 => ⟨rg_small (by decide), fun _ => kb pos M3 (by rw [hL]; unfold pLast; rw [if_neg hc3]) (s2.trx (s3'.mono (by decide) (by decide))) (rb2.sv s3' (by decide)) (kp2.tr (keep.ofs s3' (by decide) (by decide) (odr.ofs s3' (by decide)))) w3, fun h => absurd rfl h⟩)
  have s23 := s2.tr (s3'.mono (cs' := cs12) (bs' := sok) (by decide) (by decide))
  have rb3 := rb2.sv s3' (by decide)
  have hL2 : pAll T n = (pGuard T n kn (pos + 1)).bd (fun _ p3 => if n ≤ p3 then .ok c p3 else .bad p3) := by rw [hL]; unfold pLast; rw [if_pos hc3]
  refine m_guard (g := 10) (h.sv s23 (by decide)) rb3 (k2.sv s3' (by decide)) q3 l3 (by omega) (fun q M4 e4 s4 rb4 q4 l4 gw4 t4 u4 => ⟨rg_small (by decide), fun h => absurd h (by decide), fun _ => ?_⟩) (fun x M4 e4 s4 rb4 w4 d4 => ⟨rg_small (by decide), fun _ => kb x M4 (by rw [hL2, e4, bd_bad]) (s23.trx (s4.mono (by decide) (by decide))) rb4 ((kp2.tr (keep.ofs s3' (by decide) (by decide) (odr.ofs s3' (by decide)))).tr (keep.ofs s4 (by decide) (by decide) d4)) w4, fun h => absurd rfl h⟩)
  have s24 := s23.tr (s4.mono (cs' := cs12) (bs' := sok) (by decide) (by decide))
  have kp4 := (kp2.tr (keep.ofs s3' (by decide) (by decide) (odr.ofs s3' (by decide)))).tr (keep.ofs s4 (by decide) (by decide) (odr.gw gw4 (by omega)))
  have m4 := h.sv s24 (by decide)
  rw [q4, m4.len]
  refine ⟨rg_small (by omega), rg_small (by omega), fun h5 => ?_, fun h5 M5 e5 => ⟨rg_small (by decide), fun _ => kb q M5 ?_ ?_ ?_ ?_ ?_, fun h => absurd rfl h⟩⟩
  · have hok : pAll T n = .ok c q := by rw [hL2, e4, bd_ok, if_pos (by omega)]
    refine ko c q M4 hok s24 rb4 kp4 ?_ ?_ ?_
    · rw [s4.cell 335 (by decide) (by decide), s3'.cell 335 (by decide) (by decide)]; exact c2
    · unfold cwf
      rw [s4.cell 337 (by decide) (by decide), s3'.cell 337 (by decide) (by decide), s4.cell 338 (by decide) (by decide), s3'.cell 338 (by decide) (by decide), s4.cell 339 (by decide) (by decide), s3'.cell 339 (by decide) (by decide)]
      exact w2
    · obtain ⟨hk, hpos, hfv, hcc⟩ := hH2 ⟨c, q, hok⟩
      subst hk
      refine ⟨fun v hv => by rw [s4.cell 333 (by decide) (by decide), s3'.cell 333 (by decide) (by decide)]; exact k2 v hv, fun v hv => by rw [s4.cell 334 (by decide) (by decide), s3'.cell 334 (by decide) (by decide)]; exact hfv v hv, fun c' hc' => ?_, by rw [← hpos]; exact t4, by rw [← hpos]; exact u4⟩
      exact mco_same (mco_same (hcc c' hc') rb2 hd (by omega) (csm.cs (fun a h1 h2 => s3'.cell a (by simp) (by omega)))) rb3 hd (by omega) (csm.gw s4 (by decide) gw4 (by omega))
  · rw [hL2, e4, bd_ok, if_neg (by omega)]
  · rw [e5]; exact s24.us4
  · rw [e5]; exact rb4.o (by decide) _ _
  · have s5 : sv [] s3 M4 M5 := by rw [e5]; exact sv.refl.us (by decide)
    exact kp4.tr (keep.ofs s5 (by decide) (by decide) (odr.ofs s5 (by decide)))
  · rw [e5, fu_at, if_pos rfl]
/-- the reference without its draft -/
def MT (T : Nat → Int) (n : Nat) (M : fm_M) : Prop :=
  (txt T n) ∧
  (M 331 2 = n) ∧
  (∀ p, p < n → M 332 p = T p)
theorem MT.t {T : Nat → Int} {n : Nat} {M : fm_M} (h_ : MT T n M) : txt T n := h_.1
theorem MT.len {T : Nat → Int} {n : Nat} {M : fm_M} (h_ : MT T n M) : M 331 2 = n := h_.2.1
theorem MT.ch {T : Nat → Int} {n : Nat} {M : fm_M} (h_ : MT T n M) : ∀ p, p < n → M 332 p = T p := h_.2.2
/-- the other game's variables stay -/
def dfo (d : Nat) (M M' : fm_M) : Prop := ∀ x, x < 3 * d ∨ 3 * d + 3 ≤ x → M' 333 x = M 333 x ∧ M' 334 x = M 334 x
theorem keep.dc {M M1 : fm_M} {bs : List Nat} (s : sv [333, 334] bs M M1) (f : dfo d M M1) : keep d M M1 := ⟨fun x _ => by rw [s.cell 335 (by decide) (by decide)], fun x _ => ⟨by rw [s.cell 337 (by decide) (by decide)], by rw [s.cell 338 (by decide) (by decide)]⟩, fun x _ => by rw [s.cell 339 (by decide) (by decide)], fun x _ => by rw [s.cell 336 (by decide) (by decide)], f, odr.ofs s (by decide)⟩
theorem m_readAll {M : fm_M} (h : MT T n M) (rb : RB M) (hg : M 331 6 = -1 ∨ M 331 6 = 0 ∨ M 331 6 = 1)
    (ko : ∀ (d c q : Nat) M', d ≤ 1 → M 331 6 ≠ d → pAll T n = .ok c q → sv cs12 [3, 5, 7] M M' → RB M' → keep d M M' → M' 331 7 = d → M' 335 d = (c : Nat) → cwf M' d c → MC T n d c M' → post 1 M')
    (kb : ∀ (d x : Nat) M', d ≤ 1 → M 331 6 ≠ d → pAll T n = .bad x → sv cs12 [3, 4, 5, 7] M M' → RB M' → keep d M M' → M' 331 4 = x → post 0 M') : wp_Mo_readAll M post thr := by
  intro M0 e0
  have g0 : M0 331 6 = M 331 6 := by rw [e0, fu_at, if_neg (by decide)]
  have main : ∀ d : Nat, d ≤ 1 → M 331 6 ≠ d → B_Mo_readAll_18 post thr M0 d := by
    intro d hd hgd M1 e1
    have d1 : M1 331 7 = d := by rw [e1, fu_at, if_pos rfl]
    rw [d1, Int.toNat_natCast]
    refine ⟨by omega, fun M2 e2 => ?_⟩
    have s2 : sv cs12 [3, 5, 7] M M2 := by rw [e2, e1, e0]; exact ((sv.refl.us (by decide)).us (by decide)).u (by decide) (by decide)
    have rb2 : RB M2 := by rw [e2, e1, e0]; exact ((rb.o (by decide) _ _).o (by decide) _ _).u 335 2 0 10 (by decide) _ _ (by omega)
    have d2 : M2 331 7 = d := by rw [e2, fu_off _ _ _ (by decide)]; exact d1
    have q2 : M2 331 3 = (0 : Nat) := by rw [e2, fu_off _ _ _ (by decide), e1, fu_at, if_neg (by decide), e0, fu_at, if_pos rfl]; rfl
    have kp2 : keep d M M2 := by
      have a : ∀ a, a ≠ 331 → a ≠ 335 → M2 a = M a := fun a h1 h2 => by rw [e2, fu_off _ _ _ h2, e1, fu_off _ _ _ h1, e0, fu_off _ _ _ h1]
      refine ⟨fun x hx => ?_, fun x _ => ⟨by rw [a 337 (by decide) (by decide)], by rw [a 338 (by decide) (by decide)]⟩, fun x _ => by rw [a 339 (by decide) (by decide)], fun x _ => by rw [a 336 (by decide) (by decide)], fun x _ => ⟨by rw [a 333 (by decide) (by decide)], by rw [a 334 (by decide) (by decide)]⟩, ⟨fun x _ => by rw [a 340 (by decide) (by decide)], fun x _ => by rw [a 341 (by decide) (by decide)], fun x _ => same1.cs (a 342 (by decide) (by decide)) (a 343 (by decide) (by decide)) (a 344 (by decide) (by decide))⟩⟩
      rw [e2, fu_at, if_neg hx, e1, fu_off _ _ _ (by decide), e0, fu_off _ _ _ (by decide)]
    have z2 : M2 335 d = 0 := by rw [e2, fu_at, if_pos rfl]
    have ms2 : MS T n d M2 := ⟨h.t, by rw [s2.slot 2 (by decide)]; exact h.len, by rw [s2.cell 332 (by decide) (by decide)]; exact h.ch, d2, hd⟩
    rw [d2]
    -- the variables are cleared
    refine ⟨fun M' v1 => ∃ v : Nat, v1 = 3 * d + v ∧ v ≤ 3 ∧ sv [333, 334] sok M2 M' ∧ RB M' ∧ M' 331 3 = (0 : Nat) ∧ (∀ x, x < v → M' 333 (3 * d + x) = 0 ∧ M' 334 (3 * d + x) = 0) ∧ dfo d M2 M', fun _ v1 => (3 * (d : Int) + 3 - v1).toNat, ⟨0, by omega, by omega, sv.refl, rb2, q2, fun x hx => by omega, fun _ _ => ⟨rfl, rfl⟩⟩, ?_⟩
    rintro M3 v1 ⟨v, rfl, hv, s3', rb3, q3, z3, df3⟩
    have s23 : sv cs12 [3, 5, 7] M M3 := s2.tr (s3'.mono (by decide) (by decide))
    have ms3 : MS T n d M3 := ms2.sv s3' (by decide)
    unfold C_Mo_readAll_38
    rw [ms3.dr, show ((3 * (d : Int)) + (v : Int)).toNat = 3 * d + v by omega]
    refine ⟨rg_small (by omega), rg_small (by omega), fun h4 => ?_, fun h4 => ⟨by omega, fun M4 e4 M5 e5 => ⟨⟨v + 1, by omega, by omega, ?_, ?_, ?_, fun x hx => ?_, fun x hx => ?_⟩, by dsimp only; omega⟩⟩⟩
    · -- the declarations
      refine ⟨fun M' => ∃ (kn : Nat → Int) (pos : Nat), sv [333, 334] sok M2 M' ∧ RB M' ∧ knm d M' kn ∧ M' 331 3 = pos ∧ pos ≤ n ∧ dfo d M2 M' ∧ pDecls T n 3 (fun _ => 0) 0 = pDecls T n (3 - dc3 kn) kn pos ∧ (∀ x, x < 3 → (0 < kn x → dF T n 3 0 x = M' 334 (3 * d + x)) ∧ (¬ 0 < kn x → dF T n 3 0 x = dF T n (3 - dc3 kn) pos x ∧ M' 334 (3 * d + x) = 0)), fun M' => ((n : Int) - M' 331 3).toNat, ⟨fun _ => 0, 0, s3', rb3, fun x hx => (z3 x (by omega)).1, q3, by omega, df3, rfl, fun x hx => ⟨fun h => absurd (show (0 : Int) < 0 from h) (by decide), fun _ => ⟨rfl, (z3 x (by omega)).2⟩⟩⟩, ?_⟩
      rintro M6 ⟨kn, pos, s6, rb6, k6, q6, l6, df6, hD, hF⟩
      have hA : pAll T n = (pDecls T n (3 - dc3 kn) kn pos).bd (fun kn p1 => (pCmds T n kn 10 0 p1).bd (fun c p2 => pLast T n kn c p2)) := by unfold pAll; rw [hD]
      have ms6 : MS T n d M6 := ms2.sv s6 (by decide)
      refine m_isName ms6 q6 l6 (fun hnm => ⟨rg_small (by decide), fun h => absurd h (by decide), fun _ => ?_⟩) (fun hnm => ⟨rg_small (by decide), fun _ => ?_, fun h => absurd rfl h⟩)
      · have hvi : (chr T n pos - 97).toNat < 3 := by unfold nam at hnm; omega
        refine m_declare ms6 rb6 k6 q6 l6 hnm (fun m q M7 e7 hm s7 rb7 q7 l7 lt7 k7 de7 fv7 o7 => ⟨rg_small (by decide), fun _ => ⟨⟨_, q, s6.tr s7, rb7, k7, q7, l7, fun x hx => ⟨by rw [(o7 x (by omega)).1]; exact (df6 x hx).1, by rw [(o7 x (by omega)).2]; exact (df6 x hx).2⟩, ?_, ?_⟩, by dsimp only; rw [q7, q6]; omega⟩, fun h => absurd h (by decide)⟩) (fun x M7 e7 s7 rb7 w7 o7 => ⟨rg_small (by decide), fun h => absurd rfl h, fun _ => kb d x M7 hd hgd ?_ (s2.trx ((s6.trx s7).mono (by decide) (by decide))) rb7 (kp2.tr (keep.dc (s6.trx s7) (fun x hx => ⟨by rw [(o7 x (by omega)).1]; exact (df6 x hx).1, by rw [(o7 x (by omega)).2]; exact (df6 x hx).2⟩))) w7⟩)
        · have hk0 : ¬ 0 < kn (chr T n pos - 97).toNat := fun hh => by
            unfold pDecl at e7; rw [if_pos hh] at e7; exact absurd e7 (by simp)
          have h2 := dc3_full hvi hk0
          rw [dc3_add hvi hk0 hm, hD, show 3 - dc3 kn = (3 - (dc3 kn + 1)) + 1 by omega, pDecls, if_pos hnm, e7, bd_ok]
        · have hk0 : ¬ 0 < kn (chr T n pos - 97).toNat := fun hh => by
            unfold pDecl at e7; rw [if_pos hh] at e7; exact absurd e7 (by simp)
          have h2 := dc3_full hvi hk0
          intro x hx
          rw [dc3_add hvi hk0 hm]
          by_cases e : x = (chr T n pos - 97).toNat
          · refine ⟨fun _ => ?_, fun hh => absurd (show (0 : Int) < (if x = (chr T n pos - 97).toNat then m else kn x) by rw [if_pos e]; omega) hh⟩
            rw [e, fv7, ((hF _ hvi).2 hk0).1, show 3 - dc3 kn = (3 - (dc3 kn + 1)) + 1 by omega, dF, if_pos hnm, if_pos rfl]
          · rw [(o7 (3 * d + x) (by omega)).2]
            rw [if_neg e]
            refine ⟨(hF x hx).1, fun hh => ⟨?_, ((hF x hx).2 hh).2⟩⟩
            rw [((hF x hx).2 hh).1, show 3 - dc3 kn = (3 - (dc3 kn + 1)) + 1 by omega, dF, if_pos hnm, if_neg e, ← de7]
        · rw [hA]
          cases hf : 3 - dc3 kn with
          | zero =>
            rw [pDecls, if_pos hnm, bd_bad]
            -- all three are declared
            have hk0 : 0 < kn (chr T n pos - 97).toNat := Classical.byContradiction (fun hh => by have := dc3_full hvi hh; omega)
            unfold pDecl at e7; rw [if_pos hk0] at e7
            have e8 := bad_inj e7; rw [e8]
          | succ f => rw [pDecls, if_pos hnm, e7, bd_bad, bd_bad]
      · have hA2 : pAll T n = (pCmds T n kn 10 0 pos).bd (fun c p2 => pLast T n kn c p2) := by
          rw [hA]
          cases hf : 3 - dc3 kn with
          | zero => rw [pDecls, if_neg hnm, bd_ok]
          | succ f => rw [pDecls, if_neg hnm, bd_ok]
        have hH0 : MH T n d kn 0 pos M6 := fun _ => by
          have e : pDecls T n 3 (fun _ => 0) 0 = .ok kn pos := by
            rw [hD]
            cases 3 - dc3 kn with
            | zero => rw [pDecls, if_neg hnm]
            | succ f => rw [pDecls, if_neg hnm]
          refine ⟨by unfold KN; rw [e], by unfold cpp P1; rw [cp, e]; rfl, fun x hx' => ?_, fun c' hc' => by omega⟩
          by_cases hk : 0 < kn x
          · rw [(hF x hx').1 hk]
          · rw [((hF x hx').2 hk).1, ((hF x hx').2 hk).2]
            cases 3 - dc3 kn with
            | zero => rw [dF]
            | succ f => rw [dF, if_neg hnm]
        refine m_rest ms2 (s6.mono (by decide) (by decide)) rb6 k6 q6 l6 (by rw [s6.cell 335 (by decide) (by decide)]; exact z2) (keep.dc s6 df6) hH0 hA2 (fun c q M7 e7 s7 rb7 kp7 c7 w7 mc7 => ko d c q M7 hd hgd e7 (s2.tr (s7.mono (by decide) (by decide))) rb7 (kp2.tr kp7) (by rw [s7.slot 7 (by decide)]; exact d2) c7 w7 mc7) (fun x M7 e7 s7 rb7 kp7 w7 => kb d x M7 hd hgd e7 (s2.trx (s7.mono (by decide) (by decide))) rb7 (kp2.tr kp7) w7)
    · rw [e5, e4]; exact (s3'.u (by decide) (by decide)).u (by decide) (by decide)
    · rw [e5, e4]; exact (rb3.u 333 6 0 9 (by decide) _ _ (by omega)).u 334 6 0 9 (by decide) _ _ (by omega)
    · rw [e5, fu_off _ _ _ (by decide), e4, fu_off _ _ _ (by decide)]; exact q3
    · rw [e5, fu_off _ _ _ (by decide), e4, fu_at, fu_at, fu_off _ _ _ (by decide)]
      by_cases e : x = v
      · rw [if_pos (by omega), if_pos (by omega)]; exact ⟨rfl, rfl⟩
      · rw [if_neg (by omega), if_neg (by omega)]; exact z3 x (by omega)
    · rw [e5, fu_off _ _ _ (by decide), e4, fu_at, fu_at, fu_off _ _ _ (by decide), if_neg (by omega), if_neg (by omega)]; exact df3 x hx
  rw [g0]
  refine ⟨rg_small (by omega), fun h1 => ?_, fun h1 => ?_⟩
  · exact main 0 (by omega) (by simpa using h1)
  · exact main 1 (by omega) (by rw [h1]; decide)
end Mo4
end Pu_Z
