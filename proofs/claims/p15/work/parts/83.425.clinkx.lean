set_option maxRecDepth 10000
section Pu_cx
/-! What the class's linking lays down, exactly. -/
section Ex4
variable {g : Nat} {post : Int → fm_M → Prop} {thr : String → fm_M → Prop}
theorem jj_or8 : ∀ x : Fin 256, ∀ c : Fin 8, 0 ≤ jor (x.1 : Int) (jshl 1 (c.1 : Int)) ∧ jor (x.1 : Int) (jshl 1 (c.1 : Int)) < 256 := by decide +kernel
theorem bs_or8 {x : Int} {c : Nat} (h : bs x 8) (hc : c < 8) : bs (jor x (jshl 1 c)) 8 := by
  unfold bs at *
  have e8 : (2 : Nat) ^ 8 = 256 := by decide
  rw [e8] at *
  have := jj_or8 ⟨x.toNat, by omega⟩ ⟨c, hc⟩
  simp only at this
  rw [show ((x.toNat : Nat) : Int) = x by omega] at this
  exact ⟨this.1, by omega⟩
/-- a branch leads to the state that comes -/
def lnk (M M' : fm_M) (g i c b : Nat) : Prop := 0 ≤ M' (300 + i) (4 * c + b) ∧ M' (300 + i) (4 * c + b) < M 142 1 ∧ ∀ v, v < 3 → M (281 + (M' (300 + i) (4 * c + b)).toNat) v = fol M g (281 + i) (g + (12 + 13 * c + 2 * b)) v
/-- the set of the states that can come -/
def nbt (M : fm_M) (i c b : Nat) : Prop := bs (M (291 + i) c) 8 ∧ ∀ j, j < 8 → (bt (M (291 + i) c) j ↔ ∃ b', b' < b ∧ M (300 + i) (4 * c + b') = j)
/-- all else stays -/
def lko (i c : Nat) (M M' : fm_M) : Prop := (∀ i' x, i' < 8 → x < 40 → (i' ≠ i ∨ x < 4 * c ∨ 4 * c + 4 ≤ x) → M' (300 + i') x = M (300 + i') x) ∧ (∀ i' x, i' < 8 → (i' ≠ i ∨ x ≠ c) → M' (291 + i') x = M (291 + i') x)
def lal (M M' : fm_M) (g i c : Nat) : Prop := (∀ b : Nat, (b : Int) < M (g + (7 + 13 * c)) 3 → lnk M M' g i c b) ∧ nbt M' i c (M (g + (7 + 13 * c)) 3).toNat
theorem lal_same {M M1 M2 : fm_M} {i c : Nat} (hb : M (g + (7 + 13 * c)) 3 ≤ 4) (e : ∀ b, b < 4 → M2 (300 + i) (4 * c + b) = M1 (300 + i) (4 * c + b)) (e2 : M2 (291 + i) c = M1 (291 + i) c) (h : lal M M1 g i c) : lal M M2 g i c := by
  refine ⟨fun b hbn => ?_, by rw [e2]; exact h.2.1, fun j hj => ?_⟩
  · have := h.1 b hbn
    unfold lnk at *
    rw [e b (by omega)]; exact this
  · rw [e2, h.2.2 j hj]
    exact ⟨fun ⟨b', h1, h2⟩ => ⟨b', h1, by rw [e b' (by omega)]; exact h2⟩, fun ⟨b', h1, h2⟩ => ⟨b', h1, by rw [← e b' (by omega)]; exact h2⟩⟩
theorem lnk_lf {M M3 M4 : fm_M} (h : CG1 g M) (hc : 0 ≤ M 142 1 ∧ M 142 1 ≤ 8) (f : lf M M3) {i c b : Nat} (hi : i < 8) (h9 : c < 10) (h3 : b < 4) (hk : lnk M3 M4 g i c b) : lnk M M4 g i c b := by
  have hg := h.gg
  have n3 : M3 142 1 = M 142 1 := by rw [f.cell 142 (by decide) (by decide) (by decide)]
  obtain ⟨h1, h2, h4⟩ := hk
  rw [n3] at h2
  refine ⟨h1, h2, fun v hv => ?_⟩
  have q := h4 v hv
  unfold fol cs at q ⊢
  rw [f.cell (281 + (M4 (300 + i) (4 * c + b)).toNat) (by omega) (by omega) (by omega), f.cell (g + 1) (by omega) (by omega) (by omega), f.cell (g + (12 + 13 * c + 2 * b) + 1) (by omega) (by omega) (by omega), f.cell (281 + i) (by omega) (by omega) (by omega)] at q
  exact q
theorem y_linkCommand {M : fm_M} (h : CG1 g M) {m : Nat} (hm : M g 4 = m) (hm10 : m ≤ 10) (F : FB m M) (N : nxr M) {i c : Nat} (hi : (i : Int) < M 142 1) (hc : c < m) (hz : M (291 + i) c = 0)
    (hp : ∀ M', lf M M' → FB m M' → nxr M' → lko i c M M' → (∀ b : Nat, (b : Int) < M (g + (7 + 13 * c)) 3 → kwn M g i c b → lnk M M' g i c b) → nbt M' i c (M (g + (7 + 13 * c)) 3).toNat → post 0 M') : wp_Fo_linkCommand M i c post thr := by
  have hg := h.gg
  have t := tcG hg
  have hcn := F.cnt
  have C := cmOk hg (c := c) (by omega)
  unfold wp_Fo_linkCommand
  rw [h.gm, Int.toNat_natCast, show g + 3 + 4 + 13 * c = g + (7 + 13 * c) by omega]
  refine ⟨t.1, t.2.2.2, by omega, ?_⟩
  have hbr : 0 ≤ M (g + (7 + 13 * c)) 3 ∧ M (g + (7 + 13 * c)) 3 ≤ 4 := h.cb.g' (brC ⟨c, by omega⟩) (x := 3) (by omega) (by omega)
  refine ⟨fun M' c3 v4 => c3 = g + (7 + 13 * c) ∧ ∃ b : Nat, v4 = b ∧ (b : Int) ≤ M (g + (7 + 13 * c)) 3 ∧ lf M M' ∧ FB m M' ∧ nxr M' ∧ lko i c M M' ∧ (∀ b' : Nat, b' < b → kwn M g i c b' → lnk M M' g i c b') ∧ nbt M' i c b, fun _ _ v4 => (5 - v4).toNat, ⟨rfl, 0, rfl, by omega, lf.refl, F, N, ⟨fun _ _ _ _ _ => rfl, fun _ _ _ _ => rfl⟩, fun b' hb' => by omega, ?_⟩, ?_⟩
  · unfold nbt
    rw [hz]
    exact ⟨by unfold bs; decide, fun j hj => ⟨fun hh => absurd hh (bt_0 ⟨j, by omega⟩), fun ⟨b', hb', _⟩ => by omega⟩⟩
  rintro M1 c3 v4 ⟨rfl, b, rfl, hbn, f1, F1, N1, O1, K1, B1⟩
  have g1 := h.lf f1
  have br1 : M1 (g + (7 + 13 * c)) 3 = M (g + (7 + 13 * c)) 3 := by rw [f1.cell _ (by omega) (by omega) (by omega)]
  have n1 : M1 142 1 = M 142 1 := by rw [f1.cell 142 (by decide) (by decide) (by decide)]
  unfold C_Fo_linkCommand_13
  rw [br1]
  refine ⟨C.t0, rg_small (by omega), rg_small (by omega), fun h5 => hp M1 f1 F1 N1 O1 (fun b' hb' => K1 b' (by omega)) (by rw [show (M (g + (7 + 13 * c)) 3).toNat = b by omega]; exact B1), fun h5 => ⟨by omega, C.t4, by omega, ?_⟩⟩
  have B := brOk hg (c := c) (b := b) (by omega) (by omega)
  rw [g1.gm, Int.toNat_natCast, Int.toNat_natCast, show 280 + 1 + i = 281 + i by omega, show g + (7 + 13 * c) + 4 + 1 + 2 * b = g + (12 + 13 * c + 2 * b) by omega, show 299 + 1 + i = 300 + i by omega, show 290 + 1 + i = 291 + i by omega, show ((c : Int) * 4) + (b : Int) = ((4 * c + b : Nat) : Int) by omega, Int.toNat_natCast, Int.toNat_natCast]
  refine ⟨t.1, x_follow g1 (c3_of (c3_val ⟨i, by omega⟩)) (by omega) B (fun M2 hx2 v2 => ?_)⟩
  have f12 : lf M1 M2 := ⟨fun a h1 _ _ => hx2 a h1⟩
  have F2 : FB m M2 := F1.lf f12 (fun v hv => by rw [v2 v hv]; exact fol_rg g1 _ _ hv)
  have f2 := f1.tr f12
  have n2 : M2 142 1 = M 142 1 := by rw [f2.cell 142 (by decide) (by decide) (by decide)]
  have a2 : ∀ i', i' < 8 → M2 (300 + i') = M1 (300 + i') := fun i' hi' => hx2 _ (by omega)
  have a2' : ∀ i', i' < 8 → M2 (291 + i') = M1 (291 + i') := fun i' hi' => hx2 _ (by omega)
  have efol : ∀ v, fol M1 g (281 + i) (g + (12 + 13 * c + 2 * b)) v = fol M g (281 + i) (g + (12 + 13 * c + 2 * b)) v := fun v => by
    unfold fol cs
    rw [f1.cell (g + 1) (by omega) (by omega) (by omega), f1.cell (g + (12 + 13 * c + 2 * b) + 1) (by omega) (by omega) (by omega), f1.cell (281 + i) (by omega) (by omega) (by omega)]
  -- behind the number
  have fin : ∀ r : Int, -1 ≤ r ∧ r < M 142 1 → (kwn M g i c b → 0 ≤ r) → (0 ≤ r → ∀ v, v < 3 → M (281 + r.toNat) v = fol M g (281 + i) (g + (12 + 13 * c + 2 * b)) v) → ∀ M3, M3 = fm_u M2 (300 + i) (4 * c + b) r → ∀ M4, ((r = -1 ∧ M4 = M3) ∨ (0 ≤ r ∧ M4 = fm_u M3 (291 + i) c (jor (M3 (291 + i) c) (jshl 1 r)))) → (g + (7 + 13 * c) = g + (7 + 13 * c) ∧ ∃ b_1 : Nat, ((b : Int) + 1) = b_1 ∧ (b_1 : Int) ≤ M (g + (7 + 13 * c)) 3 ∧ lf M M4 ∧ FB m M4 ∧ nxr M4 ∧ lko i c M M4 ∧ (∀ b' : Nat, b' < b_1 → kwn M g i c b' → lnk M M4 g i c b') ∧ nbt M4 i c b_1) ∧ (5 - ((b : Int) + 1)).toNat < (5 - (b : Int)).toNat := by
    intro r hr hk hv M3 e3 M4 e4
    have f3 : lf M M3 := by rw [e3]; exact f2.u (Or.inr (Or.inr (by omega)))
    have f4 : lf M M4 := by
      rcases e4 with ⟨_, e⟩ | ⟨_, e⟩
      · rw [e]; exact f3
      · rw [e]; exact f3.u (Or.inr (Or.inl (by omega)))
    have e308 : M4 308 = M2 308 := by
      rcases e4 with ⟨_, e⟩ | ⟨_, e⟩
      · rw [e, e3, fu_off _ _ _ (by omega)]
      · rw [e, fu_off _ _ _ (by omega), e3, fu_off _ _ _ (by omega)]
    have e300 : ∀ i', i' < 8 → M4 (300 + i') = M3 (300 + i') := fun i' hi' => by
      rcases e4 with ⟨_, e⟩ | ⟨_, e⟩
      · rw [e]
      · rw [e, fu_off _ _ _ (by omega)]
    have r300 : ∀ i' x, i' < 8 → M4 (300 + i') x = if i' = i ∧ x = 4 * c + b then r else M1 (300 + i') x := fun i' x hi' => by
      rw [e300 i' hi', e3]
      by_cases e : i' = i
      · rw [e, fu_at, a2 i (by omega)]
        by_cases e5 : x = 4 * c + b
        · rw [if_pos e5, if_pos ⟨rfl, e5⟩]
        · rw [if_neg e5, if_neg (fun hh => e5 hh.2)]
      · rw [fu_off _ _ _ (by omega), a2 i' hi', if_neg (fun hh => e hh.1)]
    have m3 : ∀ i' x, i' < 8 → M3 (291 + i') x = M1 (291 + i') x := fun i' x hi' => by rw [e3, fu_off _ _ _ (by omega), a2' i' hi']
    have r291 : ∀ i' x, i' < 8 → (i' ≠ i ∨ x ≠ c) → M4 (291 + i') x = M1 (291 + i') x := fun i' x hi' ho => by
      rcases e4 with ⟨_, e⟩ | ⟨_, e⟩
      · rw [e]; exact m3 i' x hi'
      · rw [e]
        by_cases ei : i' = i
        · rw [ei, fu_at, if_neg (by omega)]; exact m3 i x (by omega)
        · rw [fu_off _ _ _ (by omega)]; exact m3 i' x hi'
    refine ⟨⟨rfl, b + 1, by omega, by omega, f4, F.lf f4 (by rw [e308]; exact F2.com), fun i' x hi' hx => ?_, ⟨fun i' x hi' hx ho => ?_, fun i' x hi' ho => by rw [r291 i' x hi' ho]; exact O1.2 i' x hi' ho⟩, fun b' hb' hk' => ?_, ?_⟩, by omega⟩
    · rw [r300 i' x hi']; split
      · omega
      · exact N1 i' x hi' hx
    · rw [r300 i' x hi', if_neg (by omega)]; exact O1.1 i' x hi' hx ho
    · unfold lnk
      rw [r300 i _ (by omega)]
      by_cases e : b' = b
      · subst e
        rw [if_pos ⟨rfl, rfl⟩]; exact ⟨hk hk', hr.2, hv (hk hk')⟩
      · rw [if_neg (by omega)]; exact K1 b' (by omega) hk'
    · have e6 : ∀ b', b' < b → M4 (300 + i) (4 * c + b') = M1 (300 + i) (4 * c + b') := fun b' hb' => by rw [r300 i _ (by omega), if_neg (by omega)]
      have e7 : M4 (300 + i) (4 * c + b) = r := by rw [r300 i _ (by omega), if_pos ⟨rfl, rfl⟩]
      have ex : ∀ j : Nat, (∃ b', b' < b + 1 ∧ M4 (300 + i) (4 * c + b') = j) ↔ ((∃ b', b' < b ∧ M1 (300 + i) (4 * c + b') = j) ∨ r = j) := fun j => by
        constructor
        · intro ⟨b', h1, h2⟩
          by_cases e : b' = b
          · subst e; rw [e7] at h2; exact Or.inr h2
          · rw [e6 b' (by omega)] at h2; exact Or.inl ⟨b', by omega, h2⟩
        · intro hh
          rcases hh with ⟨b', h1, h2⟩ | h2
          · exact ⟨b', by omega, by rw [e6 b' h1]; exact h2⟩
          · exact ⟨b, by omega, by rw [e7]; exact h2⟩
      rcases e4 with ⟨hr1, e⟩ | ⟨hr1, e⟩
      · have e5 : M4 (291 + i) c = M1 (291 + i) c := by rw [e]; exact m3 i c (by omega)
        refine ⟨by rw [e5]; exact B1.1, fun j hj => ?_⟩
        rw [e5, ex, B1.2 j hj]
        exact ⟨Or.inl, fun hh => by
          rcases hh with hh | hh
          · exact hh
          · omega⟩
      · obtain ⟨q, hq⟩ : ∃ q : Nat, r = q := ⟨r.toNat, by omega⟩
        have e5 : M4 (291 + i) c = jor (M1 (291 + i) c) (jshl 1 (q : Int)) := by rw [e, fu_at, if_pos rfl, m3 i c (by omega), hq]
        refine ⟨by rw [e5]; exact bs_or8 B1.1 (by omega), fun j hj => ?_⟩
        rw [e5, ex, bt_add' (by omega) (by omega), B1.2 j hj, hq]
        exact ⟨fun hh => hh.elim Or.inl (fun e => Or.inr (by omega)), fun hh => hh.elim Or.inl (fun e => Or.inr (by omega))⟩
  refine x_numberOf F2 (fun hno => ⟨t300 ⟨i, by omega⟩, by omega, fun M3 e3 => ⟨rg_small (by decide), fun _ => fin (-1) (by omega) (fun hk => ?_) (fun h => absurd h (by decide)) M3 e3 M3 (Or.inl ⟨rfl, rfl⟩), fun h => absurd rfl h⟩⟩) (fun j hj hv => ⟨t300 ⟨i, by omega⟩, by omega, fun M3 e3 => ⟨rg_small (by omega), fun h => by omega, fun _ => ⟨t291 ⟨i, by omega⟩, by omega, fun M4 e4 => fin j (by omega) (fun _ => by omega) (fun _ v hv3 => ?_) M3 e3 M4 (Or.inr ⟨by omega, e4⟩)⟩⟩⟩)
  · exfalso
    obtain ⟨j, hj, hv⟩ := hk
    obtain ⟨v, hv3, hne⟩ := hno j (by omega)
    apply hne
    rw [v2 v hv3, f2.cell (281 + j) (by omega) (by omega) (by omega), hv v hv3, efol]
  · rw [Int.toNat_natCast, ← efol, ← v2 v hv3, ← hv v hv3, f2.cell (281 + j) (by omega) (by omega) (by omega)]
theorem y_link {M : fm_M} (h : CG1 g M) {m : Nat} (hm : M g 4 = m) (hm10 : m ≤ 10) (F : FB m M) (N : nxr M)
    (hp : ∀ M', lf M M' → FB m M' → nxr M' → (kall M g (M 142 1) → ∀ i c : Nat, (i : Int) < M 142 1 → (c : Int) < M g 4 → bt (M 289 i) c → lal M M' g i c) → post 0 M') : wp_Fo_link M post thr := by
  have hg := h.gg
  have t := tcG hg
  have hcn := F.cnt
  have hbr : ∀ c, c < 10 → 0 ≤ M (g + (7 + 13 * c)) 3 ∧ M (g + (7 + 13 * c)) 3 ≤ 4 := fun c hc => h.cb.g' (brC ⟨c, hc⟩) (x := 3) (by omega) (by omega)
  refine ⟨fun M' v1 => ∃ i : Nat, v1 = i ∧ (i : Int) ≤ M 142 1 ∧ lf M M' ∧ FB m M' ∧ nxr M' ∧ (kall M g (M 142 1) → ∀ i' c : Nat, i' < i → (c : Int) < M g 4 → bt (M 289 i') c → lal M M' g i' c), fun _ v1 => (M 142 1 - v1).toNat, ⟨0, rfl, by omega, lf.refl, F, N, fun _ i' c hi' => by omega⟩, ?_⟩
  rintro M1 v1 ⟨i, rfl, hi, f1, F1, N1, K1⟩
  have n1 : M1 142 1 = M 142 1 := by rw [f1.cell 142 (by decide) (by decide) (by decide)]
  unfold C_Fo_link_2
  rw [n1]
  refine ⟨rg_small (by omega), rg_small (by omega), fun h4 => hp M1 f1 F1 N1 (fun hk i' c a1 a2 a3 => K1 hk i' c (by omega) a2 a3), fun h4 => ?_⟩
  refine ⟨fun M' v1 v2 => v1 = i ∧ ∃ c : Nat, v2 = c ∧ c ≤ m ∧ lf M M' ∧ FB m M' ∧ nxr M' ∧ (kall M g (M 142 1) → ∀ i' c' : Nat, (i' < i ∨ (i' = i ∧ c' < c)) → (c' : Int) < M g 4 → bt (M 289 i') c' → lal M M' g i' c'), fun _ _ v2 => (10 - v2).toNat, ⟨rfl, 0, rfl, by omega, f1, F1, N1, fun hk i' c' hh => K1 hk i' c' (by omega)⟩, ?_⟩
  rintro M2 v1 v2 ⟨rfl, c, rfl, hc, f2, F2, N2, K2⟩
  have g2 := h.lf f2
  have m2 : M2 g 4 = m := by rw [f2.cell g (by omega) (by omega) (by omega)]; exact hm
  unfold C_Fo_link_12
  rw [g2.gm, m2, Int.toNat_natCast, Int.toNat_natCast, show 290 + 1 + i = 291 + i by omega]
  refine ⟨t.1, rg_small (by omega), rg_small (by omega), fun h5 => ⟨⟨i + 1, by omega, by omega, f2, F2, N2, fun hk i' c' hh a2 a3 => K2 hk i' c' (by omega) a2 a3⟩, by dsimp only; omega⟩, fun h5 => ⟨by omega, t291 ⟨i, by omega⟩, by omega, fun M3 e3 => ?_⟩⟩
  have f3 : lf M M3 := by rw [e3]; exact f2.u (Or.inr (Or.inl (by omega)))
  have a3' : ∀ a, a ≠ 291 + i → M3 a = M2 a := fun a ha => by rw [e3]; exact fu_off _ _ _ ha
  have F3 : FB m M3 := F.lf f3 (by rw [a3' 308 (by omega)]; exact F2.com)
  have N3 : nxr M3 := fun i' x hi' hx => by rw [a3' _ (by omega)]; exact N2 i' x hi' hx
  have g3 := h.lf f3
  have m3 : M3 g 4 = m := by rw [f3.cell g (by omega) (by omega) (by omega)]; exact hm
  have z3 : M3 (291 + i) c = 0 := by rw [e3, fu_at, if_pos rfl]
  have o3 : ∀ i' c', i' < 8 → (i' ≠ i ∨ c' ≠ c) → M3 (291 + i') c' = M2 (291 + i') c' := fun i' c' _ ho => by
    by_cases e : i' = i
    · rw [e, e3, fu_at, if_neg (by omega)]
    · rw [a3' _ (by omega)]
  refine x_hasBit (fun hb => ⟨rg_small (by decide), fun _ => ⟨⟨rfl, c + 1, by omega, by omega, f3, F3, N3, fun hk i' c' hh a2 a3 => ?_⟩, by dsimp only; omega⟩, fun h => absurd rfl h⟩) (fun hb => ⟨rg_small (by decide), fun h => absurd h (by decide), fun _ => ?_⟩)
  · have hb4 := hbr c' (by omega)
    by_cases e : i' = i ∧ c' = c
    · obtain ⟨e, e'⟩ := e
      subst e; subst e'
      rw [f3.cell 289 (by decide) (by decide) (by decide)] at hb
      exact absurd a3 hb
    · exact lal_same hb4.2 (fun b _ => by rw [a3' _ (by omega)]) (o3 i' c' (by omega) (by omega)) (K2 hk i' c' (by omega) a2 a3)
  · refine y_linkCommand g3 m3 hm10 F3 N3 (i := i) (c := c) (by rw [f3.cell 142 (by decide) (by decide) (by decide)]; omega) (by omega) z3 (fun M4 f4 F4 N4 O4 K4 B4 => ⟨⟨rfl, c + 1, by omega, by omega, f3.tr f4, F4, N4, fun hk i' c' hh a2 a3 => ?_⟩, by dsimp only; omega⟩)
    have hb4 := hbr c' (by omega)
    have eb : M3 (g + (7 + 13 * c)) 3 = M (g + (7 + 13 * c)) 3 := by rw [f3.cell _ (by omega) (by omega) (by omega)]
    by_cases e : i' = i ∧ c' = c
    · obtain ⟨e, e'⟩ := e
      subst e; subst e'
      rw [eb] at B4
      refine ⟨fun b hbn => ?_, B4⟩
      have hkn := hk i' c' b (by omega) a2 a3 hbn
      exact lnk_lf h hcn f3 (by omega) (by omega) (by omega) (K4 b (by rw [eb]; exact hbn) (kwn_lf h hcn f3 (by omega) (by omega) (by omega) hkn))
    · refine lal_same hb4.2 (fun b hb4' => ?_) ?_ (K2 hk i' c' (by omega) a2 a3)
      · rw [O4.1 i' _ (by omega) (by omega) (by omega), a3' _ (by omega)]
      · rw [O4.2 i' c' (by omega) (by omega)]; exact o3 i' c' (by omega) (by omega)
end Ex4
end Pu_cx
