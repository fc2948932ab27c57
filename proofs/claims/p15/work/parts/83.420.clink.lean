set_option maxRecDepth 10000
section Pu_cc
section Ex3
variable {g : Nat} {post : Int → fm_M → Prop} {thr : String → fm_M → Prop}
/-- what linking may change -/
def lf (M M' : fm_M) : Prop :=
  Nonempty (∀ a, a ≠ 308 → ¬ (291 ≤ a ∧ a < 299) → ¬ (300 ≤ a ∧ a < 308) → M' a = M a)
theorem lf.cell {M M' : fm_M} (h_ : lf M M') : ∀ a, a ≠ 308 → ¬ (291 ≤ a ∧ a < 299) → ¬ (300 ≤ a ∧ a < 308) → M' a = M a := h_.elim id
theorem lf.refl {M : fm_M} : lf M M := ⟨fun _ _ _ _ => rfl⟩
theorem lf.tr {M M1 M2 : fm_M} (h : lf M M1) (h2 : lf M1 M2) : lf M M2 := ⟨fun a b c d => by rw [h2.cell a b c d, h.cell a b c d]⟩
theorem lf.u {M M1 : fm_M} (h : lf M M1) {a p : Nat} {v : Int} (ha : a = 308 ∨ (291 ≤ a ∧ a < 299) ∨ (300 ≤ a ∧ a < 308)) : lf M (fm_u M1 a p v) := ⟨fun q b c d => by rw [fu_off _ _ _ (by omega)]; exact h.cell q b c d⟩
theorem CG1.lf {M M' : fm_M} (h : CG1 g M) (f : lf M M') : CG1 g M' := ⟨h.gg, by rw [f.cell 142 (by decide) (by decide) (by decide)]; exact h.gm, fun e he x h1 h2 => by
  have := CBt_lt e he
  have hg := h.gg
  rw [f.cell (g + e.1) (by omega) (by omega) (by omega)]; exact h.cb e he x h1 h2⟩
theorem FB.lf {M M' : fm_M} {m : Nat} (F : FB m M) (f : lf M M') (hc : ∀ v, v < 3 → 0 ≤ M' 308 v ∧ M' 308 v ≤ 9) : FB m M' := ⟨by rw [f.cell 142 (by decide) (by decide) (by decide)]; exact F.cnt, by rw [f.cell 142 (by decide) (by decide) (by decide)]; exact F.lk, fun i v hi hv => by rw [f.cell _ (by omega) (by omega) (by omega)]; exact F.val i v hi hv, hc, fun i hi => by
  rw [f.cell 142 (by decide) (by decide) (by decide)] at hi
  rw [f.cell 289 (by decide) (by decide) (by decide)]; exact F.en i hi, by rw [f.cell 142 (by decide) (by decide) (by decide)]; exact F.tg⟩
theorem kwn_lf {M M' : fm_M} (h : CG1 g M) (hc : 0 ≤ M 142 1 ∧ M 142 1 ≤ 8) (f : lf M M') {i c b : Nat} (hi : i < 8) (h9 : c < 10) (h3 : b < 4) (hk : kwn M g i c b) : kwn M' g i c b := by
  have hg := h.gg
  obtain ⟨j, hj, hv⟩ := hk
  refine ⟨j, by rw [f.cell 142 (by decide) (by decide) (by decide)]; exact hj, fun v hv3 => ?_⟩
  unfold fol cs
  rw [f.cell (281 + j) (by omega) (by omega) (by omega), f.cell (g + 1) (by omega) (by omega) (by omega), f.cell _ (by omega) (by omega) (by omega), f.cell (281 + i) (by omega) (by omega) (by omega)]
  exact hv v hv3
/-- where branches lead, as kept -/
def nxr (M : fm_M) : Prop := ∀ i x, i < 8 → x < 40 → -1 ≤ M (300 + i) x ∧ M (300 + i) x ≤ 7
theorem t300 : ∀ i : Fin 8, 300 + i.1 < nC ∧ TC (300 + i.1) = .inr (0, 40) := by decide
theorem t291 : ∀ i : Fin 8, 291 + i.1 < nC ∧ TC (291 + i.1) = .inr (0, 10) := by decide
theorem x_linkCommand {M : fm_M} (h : CG1 g M) {m : Nat} (hm : M g 4 = m) (hm10 : m ≤ 10) (F : FB m M) (N : nxr M) {i c : Nat} (hi : (i : Int) < M 142 1) (hc : c < m)
    (hp : ∀ M', lf M M' → FB m M' → nxr M' → (∀ i' x, i' < 8 → x < 40 → (i' ≠ i ∨ x < 4 * c ∨ 4 * c + 4 ≤ x) → M' (300 + i') x = M (300 + i') x) → (∀ b : Nat, (b : Int) < M (g + (7 + 13 * c)) 3 → kwn M g i c b → 0 ≤ M' (300 + i) (4 * c + b) ∧ M' (300 + i) (4 * c + b) < M 142 1) → post 0 M') : wp_Fo_linkCommand M i c post thr := by
  have hg := h.gg
  have t := tcG hg
  have hcn := F.cnt
  have C := cmOk hg (c := c) (by omega)
  unfold wp_Fo_linkCommand
  rw [h.gm, Int.toNat_natCast, show g + 3 + 4 + 13 * c = g + (7 + 13 * c) by omega]
  refine ⟨t.1, t.2.2.2, by omega, ?_⟩
  have hbr : 0 ≤ M (g + (7 + 13 * c)) 3 ∧ M (g + (7 + 13 * c)) 3 ≤ 4 := h.cb.g' (brC ⟨c, by omega⟩) (x := 3) (by omega) (by omega)
  refine ⟨fun M' c3 v4 => c3 = g + (7 + 13 * c) ∧ ∃ b : Nat, v4 = b ∧ b ≤ 4 ∧ lf M M' ∧ FB m M' ∧ nxr M' ∧ (∀ i' x, i' < 8 → x < 40 → (i' ≠ i ∨ x < 4 * c ∨ 4 * c + 4 ≤ x) → M' (300 + i') x = M (300 + i') x) ∧ (∀ b' : Nat, b' < b → kwn M g i c b' → 0 ≤ M' (300 + i) (4 * c + b') ∧ M' (300 + i) (4 * c + b') < M 142 1), fun _ _ v4 => (5 - v4).toNat, ⟨rfl, 0, rfl, by omega, lf.refl, F, N, fun _ _ _ _ _ => rfl, fun b' hb' => by omega⟩, ?_⟩
  rintro M1 c3 v4 ⟨rfl, b, rfl, hb4, f1, F1, N1, O1, K1⟩
  have g1 := h.lf f1
  have br1 : M1 (g + (7 + 13 * c)) 3 = M (g + (7 + 13 * c)) 3 := by rw [f1.cell _ (by omega) (by omega) (by omega)]
  have n1 : M1 142 1 = M 142 1 := by rw [f1.cell 142 (by decide) (by decide) (by decide)]
  unfold C_Fo_linkCommand_13
  rw [br1]
  refine ⟨C.t0, rg_small (by omega), rg_small (by omega), fun h5 => hp M1 f1 F1 N1 O1 (fun b' hb' => K1 b' (by omega)), fun h5 => ⟨by omega, C.t4, by omega, ?_⟩⟩
  have B := brOk hg (c := c) (b := b) (by omega) (by omega)
  rw [g1.gm, Int.toNat_natCast, Int.toNat_natCast, show 280 + 1 + i = 281 + i by omega, show g + (7 + 13 * c) + 4 + 1 + 2 * b = g + (12 + 13 * c + 2 * b) by omega, show 299 + 1 + i = 300 + i by omega, show 290 + 1 + i = 291 + i by omega, show ((c : Int) * 4) + (b : Int) = ((4 * c + b : Nat) : Int) by omega, Int.toNat_natCast, Int.toNat_natCast]
  refine ⟨t.1, x_follow g1 (c3_of (c3_val ⟨i, by omega⟩)) (by omega) B (fun M2 hx2 v2 => ?_)⟩
  have f12 : lf M1 M2 := ⟨fun a h1 _ _ => hx2 a h1⟩
  have F2 : FB m M2 := F1.lf f12 (fun v hv => by rw [v2 v hv]; exact fol_rg g1 _ _ hv)
  have f2 := f1.tr f12
  have n2 : M2 142 1 = M 142 1 := by rw [f2.cell 142 (by decide) (by decide) (by decide)]
  have a2 : ∀ i', i' < 8 → M2 (300 + i') = M1 (300 + i') := fun i' hi' => hx2 _ (by omega)
  -- behind the number
  have fin : ∀ r : Int, -1 ≤ r ∧ r < M 142 1 → (kwn M g i c b → 0 ≤ r) → ∀ M3, M3 = fm_u M2 (300 + i) (4 * c + b) r → ∀ M4, (M4 = M3 ∨ ∃ z, M4 = fm_u M3 (291 + i) c z) → (g + (7 + 13 * c) = g + (7 + 13 * c) ∧ ∃ b_1 : Nat, ((b : Int) + 1) = b_1 ∧ b_1 ≤ 4 ∧ lf M M4 ∧ FB m M4 ∧ nxr M4 ∧ (∀ i' x, i' < 8 → x < 40 → (i' ≠ i ∨ x < 4 * c ∨ 4 * c + 4 ≤ x) → M4 (300 + i') x = M (300 + i') x) ∧ (∀ b' : Nat, b' < b_1 → kwn M g i c b' → 0 ≤ M4 (300 + i) (4 * c + b') ∧ M4 (300 + i) (4 * c + b') < M 142 1)) ∧ (5 - ((b : Int) + 1)).toNat < (5 - (b : Int)).toNat := by
    intro r hr hk M3 e3 M4 e4
    have f3 : lf M M3 := by rw [e3]; exact f2.u (Or.inr (Or.inr (by omega)))
    have f4 : lf M M4 := by
      rcases e4 with e | ⟨z, e⟩
      · rw [e]; exact f3
      · rw [e]; exact f3.u (Or.inr (Or.inl (by omega)))
    have e308 : M4 308 = M2 308 := by
      rcases e4 with e | ⟨z, e⟩
      · rw [e, e3, fu_off _ _ _ (by omega)]
      · rw [e, fu_off _ _ _ (by omega), e3, fu_off _ _ _ (by omega)]
    have e300 : ∀ i', i' < 8 → M4 (300 + i') = M3 (300 + i') := fun i' hi' => by
      rcases e4 with e | ⟨z, e⟩
      · rw [e]
      · rw [e, fu_off _ _ _ (by omega)]
    have r300 : ∀ i' x, i' < 8 → M4 (300 + i') x = if i' = i ∧ x = 4 * c + b then r else M1 (300 + i') x := fun i' x hi' => by
      rw [e300 i' hi', e3]
      by_cases e : i' = i
      · rw [e, fu_at, a2 i (by omega)]
        by_cases e5 : x = 4 * c + b
        · rw [if_pos e5, if_pos ⟨rfl, e5⟩]
        · rw [if_neg e5, if_neg (fun hh => e5 hh.2)]
      · rw [fu_off _ _ _ (by omega), a2 i' hi', if_neg (fun hh => e hh.1)]
    refine ⟨⟨rfl, b + 1, by omega, by omega, f4, F.lf f4 (by rw [e308]; exact F2.com), fun i' x hi' hx => ?_, fun i' x hi' hx ho => ?_, fun b' hb' hk' => ?_⟩, by omega⟩
    · rw [r300 i' x hi']; split
      · omega
      · exact N1 i' x hi' hx
    · rw [r300 i' x hi', if_neg (by omega)]; exact O1 i' x hi' hx ho
    · rw [r300 i _ (by omega)]
      by_cases e : b' = b
      · subst e; rw [if_pos ⟨rfl, rfl⟩]; exact ⟨hk hk', hr.2⟩
      · rw [if_neg (by omega)]; exact K1 b' (by omega) hk'
  refine x_numberOf F2 (fun hno => ⟨t300 ⟨i, by omega⟩, by omega, fun M3 e3 => ⟨rg_small (by decide), fun _ => fin (-1) (by omega) (fun hk => ?_) M3 e3 M3 (Or.inl rfl), fun h => absurd rfl h⟩⟩) (fun j hj hv => ⟨t300 ⟨i, by omega⟩, by omega, fun M3 e3 => ⟨rg_small (by omega), fun h => by omega, fun _ => ⟨t291 ⟨i, by omega⟩, by omega, fun M4 e4 => fin j (by omega) (fun _ => by omega) M3 e3 M4 (Or.inr ⟨_, e4⟩)⟩⟩⟩)
  exfalso
  obtain ⟨j, hj, hv⟩ := hk
  obtain ⟨v, hv3, hne⟩ := hno j (by omega)
  apply hne
  rw [v2 v hv3, f2.cell (281 + j) (by omega) (by omega) (by omega), hv v hv3]
  unfold fol cs
  rw [f1.cell (g + 1) (by omega) (by omega) (by omega), f1.cell (g + (12 + 13 * c + 2 * b) + 1) (by omega) (by omega) (by omega), f1.cell (281 + i) (by omega) (by omega) (by omega)]
/-- branches of what is enabled lead to states -/
def nxt (M : fm_M) (g : Nat) : Prop := ∀ i c b : Nat, (i : Int) < M 142 1 → (c : Int) < M g 4 → bt (M 289 i) c → (b : Int) < M (g + (7 + 13 * c)) 3 → 0 ≤ M (300 + i) (4 * c + b) ∧ M (300 + i) (4 * c + b) < M 142 1
theorem x_link {M : fm_M} (h : CG1 g M) {m : Nat} (hm : M g 4 = m) (hm10 : m ≤ 10) (F : FB m M) (N : nxr M)
    (hp : ∀ M', lf M M' → FB m M' → nxr M' → (kall M g (M 142 1) → nxt M' g) → post 0 M') : wp_Fo_link M post thr := by
  have hg := h.gg
  have t := tcG hg
  have hcn := F.cnt
  have hbr : ∀ c, c < 10 → 0 ≤ M (g + (7 + 13 * c)) 3 ∧ M (g + (7 + 13 * c)) 3 ≤ 4 := fun c hc => h.cb.g' (brC ⟨c, hc⟩) (x := 3) (by omega) (by omega)
  refine ⟨fun M' v1 => ∃ i : Nat, v1 = i ∧ (i : Int) ≤ M 142 1 ∧ lf M M' ∧ FB m M' ∧ nxr M' ∧ (kall M g (M 142 1) → ∀ i' c b : Nat, i' < i → (c : Int) < M g 4 → bt (M 289 i') c → (b : Int) < M (g + (7 + 13 * c)) 3 → 0 ≤ M' (300 + i') (4 * c + b) ∧ M' (300 + i') (4 * c + b) < M 142 1), fun _ v1 => (M 142 1 - v1).toNat, ⟨0, rfl, by omega, lf.refl, F, N, fun _ i' c b hi' => by omega⟩, ?_⟩
  rintro M1 v1 ⟨i, rfl, hi, f1, F1, N1, K1⟩
  have n1 : M1 142 1 = M 142 1 := by rw [f1.cell 142 (by decide) (by decide) (by decide)]
  unfold C_Fo_link_2
  rw [n1]
  refine ⟨rg_small (by omega), rg_small (by omega), fun h4 => hp M1 f1 F1 N1 (fun hk i' c b a1 a2 a3 a4 => ?_), fun h4 => ?_⟩
  · rw [n1] at a1 ⊢
    rw [f1.cell g (by omega) (by omega) (by omega)] at a2
    rw [f1.cell 289 (by decide) (by decide) (by decide)] at a3
    rw [f1.cell _ (by omega) (by omega) (by omega)] at a4
    exact K1 hk i' c b (by omega) a2 a3 a4
  · refine ⟨fun M' v1 v2 => v1 = i ∧ ∃ c : Nat, v2 = c ∧ c ≤ m ∧ lf M M' ∧ FB m M' ∧ nxr M' ∧ (kall M g (M 142 1) → ∀ i' c' b : Nat, (i' < i ∨ (i' = i ∧ c' < c)) → (c' : Int) < M g 4 → bt (M 289 i') c' → (b : Int) < M (g + (7 + 13 * c')) 3 → 0 ≤ M' (300 + i') (4 * c' + b) ∧ M' (300 + i') (4 * c' + b) < M 142 1), fun _ _ v2 => (10 - v2).toNat, ⟨rfl, 0, rfl, by omega, f1, F1, N1, fun hk i' c' b hh => K1 hk i' c' b (by omega)⟩, ?_⟩
    rintro M2 v1 v2 ⟨rfl, c, rfl, hc, f2, F2, N2, K2⟩
    have g2 := h.lf f2
    have m2 : M2 g 4 = m := by rw [f2.cell g (by omega) (by omega) (by omega)]; exact hm
    unfold C_Fo_link_12
    rw [g2.gm, m2, Int.toNat_natCast, Int.toNat_natCast, show 290 + 1 + i = 291 + i by omega]
    refine ⟨t.1, rg_small (by omega), rg_small (by omega), fun h5 => ⟨⟨i + 1, by omega, by omega, f2, F2, N2, fun hk i' c' b hh a2 a3 a4 => K2 hk i' c' b (by omega) a2 a3 a4⟩, by dsimp only; omega⟩, fun h5 => ⟨by omega, t291 ⟨i, by omega⟩, by omega, fun M3 e3 => ?_⟩⟩
    have f3 : lf M M3 := by rw [e3]; exact f2.u (Or.inr (Or.inl (by omega)))
    have a3' : ∀ a, a ≠ 291 + i → M3 a = M2 a := fun a ha => by rw [e3]; exact fu_off _ _ _ ha
    have F3 : FB m M3 := F.lf f3 (by rw [a3' 308 (by omega)]; exact F2.com)
    have N3 : nxr M3 := fun i' x hi' hx => by rw [a3' _ (by omega)]; exact N2 i' x hi' hx
    have g3 := h.lf f3
    have m3 : M3 g 4 = m := by rw [f3.cell g (by omega) (by omega) (by omega)]; exact hm
    refine x_hasBit (fun hb => ⟨rg_small (by decide), fun _ => ⟨⟨rfl, c + 1, by omega, by omega, f3, F3, N3, fun hk i' c' b hh a2 a3 a4 => ?_⟩, by dsimp only; omega⟩, fun h => absurd rfl h⟩) (fun hb => ⟨rg_small (by decide), fun h => absurd h (by decide), fun _ => ?_⟩)
    · by_cases e : i' = i ∧ c' = c
      · obtain ⟨e, e'⟩ := e
        subst e; subst e'
        rw [f3.cell 289 (by decide) (by decide) (by decide)] at hb
        exact absurd a3 hb
      · rw [a3' _ (by omega)]; exact K2 hk i' c' b (by omega) a2 a3 a4
    · refine x_linkCommand g3 m3 hm10 F3 N3 (i := i) (c := c) (by rw [f3.cell 142 (by decide) (by decide) (by decide)]; omega) (by omega) (fun M4 f4 F4 N4 O4 K4 => ⟨⟨rfl, c + 1, by omega, by omega, f3.tr f4, F4, N4, fun hk i' c' b hh a2 a3 a4 => ?_⟩, by dsimp only; omega⟩)
      have hb4 := hbr c' (by omega)
      by_cases e : i' = i ∧ c' = c
      · obtain ⟨e, e'⟩ := e
        subst e; subst e'
        have hkn := hk i' c' b (by omega) a2 a3 a4
        have := K4 b (by rw [f3.cell _ (by omega) (by omega) (by omega)]; exact a4) (kwn_lf h hcn f3 (by omega) (by omega) (by omega) hkn)
        rw [f3.cell 142 (by decide) (by decide) (by decide)] at this
        exact this
      · rw [O4 i' _ (by omega) (by omega) (by omega), a3' _ (by omega)]
        exact K2 hk i' c' b (by omega) a2 a3 a4
end Ex3
end Pu_cc
