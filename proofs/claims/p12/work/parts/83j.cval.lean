set_option maxRecDepth 10000
section Pu_cd
theorem jand_z {a b : Int} : jand a b = 0 ↔ Int32.ofInt a &&& Int32.ofInt b = 0 := by
  unfold jand
  constructor
  · intro h; exact Int32.toInt_inj.mp (by rw [h]; rfl)
  · intro h; rw [h]; rfl
theorem bt_or {x y : Int} {k : Nat} (h : bt (jor x y) k) : bt x k ∨ bt y k := by
  apply Classical.byContradiction
  intro hn
  have h1 : jand (jshr x k) 1 = 0 := Classical.byContradiction (fun h => hn (Or.inl h))
  have h2 : jand (jshr y k) 1 = 0 := Classical.byContradiction (fun h => hn (Or.inr h))
  apply h
  rw [jand_z] at *
  unfold jshr jor at *
  rw [Int32.ofInt_toInt] at *
  rw [Int32.ofInt_toInt]
  generalize Int32.ofInt x = X at *
  generalize Int32.ofInt y = Y at *
  generalize (Int32.ofInt (k : Int) &&& 31) = s at *
  have e : ((X ||| Y) >>> s) &&& Int32.ofInt 1 = (X >>> s &&& Int32.ofInt 1) ||| (Y >>> s &&& Int32.ofInt 1) := by
    apply Int32.toBitVec_inj.mp
    simp only [Int32.toBitVec_and, Int32.toBitVec_or, Int32.toBitVec_shiftRight]
    ext i hi
    simp
    grind
  rw [e, h1, h2]; rfl
theorem bt_one : ∀ c : Fin 10, ∀ k : Fin 10, bt (jshl 1 (c.1 : Int)) k.1 → k.1 = c.1 := by
  unfold bt; decide
theorem bt_add {x : Int} {c k : Nat} (hc : c < 10) (hk : k < 10) (h : bt (jor x (jshl 1 c)) k) : bt x k ∨ k = c := by
  rcases bt_or h with a | a
  · exact Or.inl a
  · exact Or.inr (bt_one ⟨c, hc⟩ ⟨k, hk⟩ a)
section Va
variable {g : Nat} {post : Int → fm_M → Prop} {thr : String → fm_M → Prop}
/-- what seeking values may change -/
def vf (M M' : fm_M) : Prop := ∀ a, (a ≤ 140 ∨ (142 ≤ a ∧ a ≤ 309) ∨ 331 ≤ a) → M' a = M a
theorem vf.refl {M : fm_M} : vf M M := fun _ _ => rfl
theorem vf.tr {M M1 M2 : fm_M} (h : vf M M1) (h2 : vf M1 M2) : vf M M2 := fun a ha => by rw [h2 a ha, h a ha]
theorem vf.u {M M1 : fm_M} (h : vf M M1) {a p : Nat} {v : Int} (ha : a = 141 ∨ (310 ≤ a ∧ a ≤ 330)) : vf M (fm_u M1 a p v) := fun q hq => by rw [fu_off _ _ _ (by omega)]; exact h q hq
/-- all is ready for the values -/
def VS (g m : Nat) (M : fm_M) : Prop :=
  (CG1 g M) ∧
  (M g 4 = m) ∧
  (m ≤ 10) ∧
  (FB m M) ∧
  (M 142 4 = M 142 1) ∧
  (nxt M g)
theorem VS.g1 {g m : Nat} {M : fm_M} (h_ : VS g m M) : CG1 g M := h_.1
theorem VS.hm {g m : Nat} {M : fm_M} (h_ : VS g m M) : M g 4 = m := h_.2.1
theorem VS.m10 {g m : Nat} {M : fm_M} (h_ : VS g m M) : m ≤ 10 := h_.2.2.1
theorem VS.fb {g m : Nat} {M : fm_M} (h_ : VS g m M) : FB m M := h_.2.2.2.1
theorem VS.lk {g m : Nat} {M : fm_M} (h_ : VS g m M) : M 142 4 = M 142 1 := h_.2.2.2.2.1
theorem VS.nx {g m : Nat} {M : fm_M} (h_ : VS g m M) : nxt M g := h_.2.2.2.2.2
theorem VS.same {m : Nat} {M M' : fm_M} (h : VS g m M) (f : ∀ a, ((4 ≤ a ∧ a ≤ 140) ∨ (142 ≤ a ∧ a ≤ 309)) → M' a = M a) : VS g m M' := by
  have hg := h.g1.gg
  have hc := h.fb.cnt
  have hm10 := h.m10
  have e142 : M' 142 = M 142 := f 142 (by omega)
  have e289 : M' 289 = M 289 := f 289 (by omega)
  refine ⟨⟨hg, by rw [e142]; exact h.g1.gm, fun e he x h1 h2 => ?_⟩, by rw [f g (by omega)]; exact h.hm, hm10, ⟨by rw [e142]; exact hc, by rw [e142]; exact h.fb.lk, fun i v hi hv => by rw [f _ (by omega)]; exact h.fb.val i v hi hv, fun v hv => by rw [f 308 (by omega)]; exact h.fb.com v hv, fun i hi => ?_, by rw [e142]; exact h.fb.tg⟩, by rw [e142]; exact h.lk, fun i c b a1 a2 a3 a4 => ?_⟩
  · have := CBt_lt e he
    rw [f _ (by omega)]; exact h.g1.cb e he x h1 h2
  · rw [e142] at hi
    rw [e289]; exact h.fb.en i hi
  · rw [e142] at a1 ⊢
    rw [f g (by omega), h.hm] at a2
    rw [e289] at a3
    rw [f _ (by omega)] at a4
    rw [f (300 + i) (by omega)]; exact h.nx i c b a1 (by rw [h.hm]; exact a2) a3 a4
theorem VS.vf {m : Nat} {M M' : fm_M} (h : VS g m M) (f : vf M M') : VS g m M' := h.same (fun a ha => f a (by omega))
/-- what the values themselves may change -/
def vg (M M' : fm_M) : Prop := ∀ a, (a ≤ 140 ∨ (142 ≤ a ∧ a ≤ 309) ∨ 326 ≤ a) → M' a = M a
theorem vg.refl {M : fm_M} : vg M M := fun _ _ => rfl
theorem vg.tr {M M1 M2 : fm_M} (h : vg M M1) (h2 : vg M1 M2) : vg M M2 := fun a ha => by rw [h2 a ha, h a ha]
theorem vg.u {M M1 : fm_M} (h : vg M M1) {a p : Nat} {v : Int} (ha : a = 141 ∨ (310 ≤ a ∧ a ≤ 325)) : vg M (fm_u M1 a p v) := fun q hq => by rw [fu_off _ _ _ (by omega)]; exact h q hq
theorem vg.vf {M M' : fm_M} (h : vg M M') : vf M M' := fun a ha => h a (by omega)
theorem VS.vg {m : Nat} {M M' : fm_M} (h : VS g m M) (f : vg M M') : VS g m M' := h.vf f.vf
/-- the state is MAX's -/
def om (M : fm_M) (i : Nat) : Prop := ¬ jand (M 289 i) (M 142 5) = 0
theorem v_isOfMax {m : Nat} {M : fm_M} (h : VS g m M) {i : Nat} (hi : (i : Int) < M 142 1) (h0 : ¬ om M i → post 0 M) (h1 : om M i → post 1 M) : wp_Fo_isOfMax M i post thr := by
  have hc := h.fb.cnt
  unfold wp_Fo_isOfMax
  rw [Int.toNat_natCast, h.lk]
  exact ⟨rg_small (by omega), rg_small (by omega), fun hh => by omega, fun _ => ⟨by omega, rg_jand _ _, fun e => h0 (fun hh => hh e), fun e => h1 e⟩⟩
theorem v_choicesOf {m : Nat} {M : fm_M} (h : VS g m M) {i : Nat} (hi : (i : Int) < M 142 1) (hp : post (M 289 i) M) : wp_Fo_choicesOf M i post thr := by
  have hc := h.fb.cnt
  unfold wp_Fo_choicesOf
  rw [Int.toNat_natCast, h.lk]
  exact ⟨rg_small (by omega), rg_small (by omega), fun hh => by omega, fun _ => ⟨by omega, hp⟩⟩
/-- an attraction's place -/
def AtOk (k0 : Nat) : Prop :=
  (k0 < nC ∧ TC k0 = .inl (9, ks_At)) ∧
  (k0 + 1 < nC ∧ TC (k0 + 1) = .inr (0, 8)) ∧
  (k0 + 2 < nC ∧ TC (k0 + 2) = .inr (0, 8)) ∧
  (k0 = 309 ∨ k0 = 327)
theorem AtOk.t0 {k0 : Nat} (h_ : AtOk k0) : k0 < nC ∧ TC k0 = .inl (9, ks_At) := h_.1
theorem AtOk.t1 {k0 : Nat} (h_ : AtOk k0) : k0 + 1 < nC ∧ TC (k0 + 1) = .inr (0, 8) := h_.2.1
theorem AtOk.t2 {k0 : Nat} (h_ : AtOk k0) : k0 + 2 < nC ∧ TC (k0 + 2) = .inr (0, 8) := h_.2.2.1
theorem AtOk.at2 {k0 : Nat} (h_ : AtOk k0) : k0 = 309 ∨ k0 = 327 := h_.2.2.2
theorem at309 : AtOk 309 := ⟨by decide, by decide, by decide, by decide⟩
theorem at327 : AtOk 327 := ⟨by decide, by decide, by decide, by decide⟩
theorem v_can {m k0 : Nat} {M : fm_M} (h : VS g m M) (A : AtOk k0) {i : Nat} (hi : (i : Int) < M 142 1) {dr : Int} (h0 : post 0 M) (h1 : ∀ c : Nat, c < m → bt (M (k0 + 1) i) c → ∀ M', M' = fm_u M (k0 + 2) i c → post 1 M') : wp_At_canComeNearer M k0 i dr post thr := by
  have hc := h.fb.cnt
  have hm10 := h.m10
  have t := tcG h.g1.gg
  refine ⟨fun M' v4 => M' = M ∧ ∃ c : Nat, v4 = c ∧ c ≤ m, fun _ v4 => (10 - v4).toNat, ⟨rfl, 0, rfl, by omega⟩, ?_⟩
  rintro M' v4 ⟨rfl, c, rfl, hcm⟩
  unfold C_At_canComeNearer_3
  rw [h.g1.gm, h.hm, Int.toNat_natCast, Int.toNat_natCast, show 290 + 1 + i = 291 + i by omega]
  refine ⟨t.1, rg_small (by omega), rg_small (by omega), fun _ => h0, fun h4 => ⟨A.t0, A.t1, by omega, x_hasBit (fun hb => ⟨rg_small (by decide), fun _ => ⟨⟨rfl, c + 1, by omega, by omega⟩, by dsimp only; omega⟩, fun h => absurd rfl h⟩) (fun hb => ⟨rg_small (by decide), fun h => absurd h (by decide), fun _ => ⟨t291 ⟨i, by omega⟩, by omega, rg_jand _ _, fun _ => ⟨⟨rfl, c + 1, by omega, by omega⟩, by dsimp only; omega⟩, fun _ => ⟨A.t2, fun M2 e2 => h1 c (by omega) hb M2 e2⟩⟩⟩)⟩⟩
theorem v_must {m k0 : Nat} {M : fm_M} (h : VS g m M) (A : AtOk k0) {i : Nat} (hi : (i : Int) < M 142 1) (hr : rg (M (k0 + 1) i)) {dr : Int} (h0 : post 0 M) (h1 : M (k0 + 1) i ≠ 0 → post 1 M) : wp_At_mustComeNearer M k0 i dr post thr := by
  have hc := h.fb.cnt
  have hm10 := h.m10
  have t := tcG h.g1.gg
  refine ⟨fun M' v4 => M' = M ∧ ∃ c : Nat, v4 = c ∧ c ≤ m, fun _ v4 => (10 - v4).toNat, ⟨rfl, 0, rfl, by omega⟩, ?_⟩
  rintro M' v4 ⟨rfl, c, rfl, hcm⟩
  unfold C_At_mustComeNearer_3
  rw [h.g1.gm, h.hm, Int.toNat_natCast, Int.toNat_natCast, show 290 + 1 + i = 291 + i by omega]
  refine ⟨t.1, rg_small (by omega), rg_small (by omega), fun _ => ⟨A.t0, A.t1, by omega, hr, fun _ => h0, h1⟩, fun h4 => ⟨A.t0, A.t1, by omega, x_hasBit (fun hb => ⟨rg_small (by decide), fun _ => ⟨⟨rfl, c + 1, by omega, by omega⟩, by dsimp only; omega⟩, fun h => absurd rfl h⟩) (fun hb => ⟨rg_small (by decide), fun h => absurd h (by decide), fun _ => ⟨t291 ⟨i, by omega⟩, by omega, rg_jand _ _, fun _ => ⟨⟨rfl, c + 1, by omega, by omega⟩, by dsimp only; omega⟩, fun _ => h0⟩⟩)⟩⟩
/-- what is drawn in has a way -/
def drw (M M' : fm_M) (m k0 : Nat) (goal dr : Int) : Prop := ∀ i : Nat, (i : Int) < M 142 1 → bt dr i → ¬ bt goal i → (om M i → ∃ c : Nat, M' (k0 + 2) i = c ∧ c < m ∧ bt (M (k0 + 1) i) c) ∧ (¬ om M i → M (k0 + 1) i ≠ 0)
theorem v_drawnTo {m k0 : Nat} {M : fm_M} (h : VS g m M) (A : AtOk k0) (hr : ∀ i : Nat, (i : Int) < M 142 1 → rg (M (k0 + 1) i)) {goal : Int} (hg : rg goal) (hp : ∀ dr M', ex1 (k0 + 2) M M' → rg dr → drw M M' m k0 goal dr → post dr M') : wp_At_drawnTo M k0 goal post thr := by
  have hc := h.fb.cnt
  have ha := A.at2
  have hvf : ∀ M', ex1 (k0 + 2) M M' → vf M M' := fun M' hx a hq => hx a (by omega)
  refine ⟨fun M' v3 v4 => ∃ r : Nat, v4 = r ∧ (r : Int) ≤ M 142 1 ∧ ex1 (k0 + 2) M M' ∧ rg v3 ∧ drw M M' m k0 goal v3, fun _ _ v4 => (M 142 1 - v4).toNat, ⟨0, rfl, by omega, ex1.rfl, hg, fun i _ h1 h2 => absurd h1 h2⟩, ?_⟩
  rintro M1 v3 v4 ⟨r, rfl, hrn, hx1, rv, D1⟩
  have n1 : M1 142 1 = M 142 1 := by rw [hx1 142 (by omega)]
  unfold C_At_drawnTo_5
  rw [n1]
  refine ⟨rg_small (by omega), rg_small (by omega), fun h4 => hp v3 M1 hx1 rv D1, fun h4 => ?_⟩
  refine ⟨fun M' v3 v4 v5 => v4 = r ∧ ∃ i : Nat, v5 = i ∧ (i : Int) ≤ M 142 1 ∧ ex1 (k0 + 2) M M' ∧ rg v3 ∧ drw M M' m k0 goal v3, fun _ _ _ v5 => (M 142 1 - v5).toNat, ⟨rfl, 0, rfl, by omega, hx1, rv, D1⟩, ?_⟩
  rintro M2 v3 v4 v5 ⟨rfl, i, rfl, hi, hx2, rv2, D2⟩
  have n2 : M2 142 1 = M 142 1 := by rw [hx2 142 (by omega)]
  have h2 := h.vf (hvf M2 hx2)
  have e1 : M2 (k0 + 1) = M (k0 + 1) := hx2 _ (by omega)
  have eo : ∀ j, om M2 j ↔ om M j := fun j => by unfold om; rw [hx2 289 (by omega), hx2 142 (by omega)]
  unfold C_At_drawnTo_17
  rw [n2]
  refine ⟨rg_small (by omega), rg_small (by omega), fun h5 => ⟨⟨r + 1, by omega, by omega, hx2, rv2, D2⟩, by dsimp only; omega⟩, fun h5 => ?_⟩
  have keep : (fun M'_1 v3' v4' v5' => (v4' = (r : Int) ∧ ∃ i : Nat, v5' = i ∧ (i : Int) ≤ M 142 1 ∧ ex1 (k0 + 2) M M'_1 ∧ rg v3' ∧ drw M M'_1 m k0 goal v3') ∧ (M 142 1 - v5').toNat < (M 142 1 - (i : Int)).toNat : fm_M → Int → Int → Int → Prop) M2 v3 r ((i : Int) + 1) := ⟨⟨rfl, i + 1, by omega, by omega, hx2, rv2, D2⟩, by omega⟩
  -- one more is drawn in
  have more : ∀ M3 : fm_M, ex1 (k0 + 2) M M3 → (∀ j, j ≠ i → M3 (k0 + 2) j = M2 (k0 + 2) j) → ((om M i → ∃ c : Nat, M3 (k0 + 2) i = c ∧ c < m ∧ bt (M (k0 + 1) i) c) ∧ (¬ om M i → M (k0 + 1) i ≠ 0)) → (fun M'_1 v3' v4' v5' => (v4' = (r : Int) ∧ ∃ i : Nat, v5' = i ∧ (i : Int) ≤ M 142 1 ∧ ex1 (k0 + 2) M M'_1 ∧ rg v3' ∧ drw M M'_1 m k0 goal v3') ∧ (M 142 1 - v5').toNat < (M 142 1 - (i : Int)).toNat : fm_M → Int → Int → Int → Prop) M3 (jor v3 (jshl 1 i)) r ((i : Int) + 1) := fun M3 hx3 o3 p3 => by
    refine ⟨⟨rfl, i + 1, by omega, by omega, hx3, rg_jor _ _, fun j hj hb hng => ?_⟩, by omega⟩
    by_cases e : j = i
    · rw [e]; exact p3
    · rcases bt_add (by omega) (by omega) hb with a | a
      · rw [o3 j e]; exact D2 j hj a hng
      · exact absurd a e
  refine x_hasBit (fun hb => ⟨rg_small (by decide), fun h => absurd rfl h, fun _ => ⟨A.t0, ?_⟩⟩) (fun hb => ⟨rg_small (by decide), fun _ => keep, fun h => absurd h (by decide)⟩)
  refine v_isOfMax h2 (by rw [n2]; omega) (fun ho => ⟨rg_small (by decide), fun _ => ⟨A.t0, v_must h2 A (by rw [n2]; omega) (by rw [e1]; exact hr i (by omega)) ⟨Or.inl rfl, rg_small (by decide), fun _ => keep, fun h => absurd rfl h⟩ (fun hne => ⟨Or.inr rfl, rg_small (by decide), fun h => absurd h (by decide), fun _ => more M2 hx2 (fun _ _ => rfl) ⟨fun hh => absurd ((eo i).mpr hh) ho, fun _ => by rw [← e1]; exact hne⟩⟩)⟩, fun h => absurd rfl h⟩) (fun ho => ⟨rg_small (by decide), fun h => absurd h (by decide), fun _ => ⟨A.t0, v_can h2 A (by rw [n2]; omega) ⟨Or.inl rfl, rg_small (by decide), fun _ => keep, fun h => absurd rfl h⟩ (fun c hcm hbc M3 e3 => ⟨Or.inr rfl, rg_small (by decide), fun h => absurd h (by decide), fun _ => more M3 (by rw [e3]; exact hx2.u) (fun j hj => by rw [e3, fu_at, if_neg hj]) ⟨fun _ => ⟨c, by rw [e3, fu_at, if_pos rfl], hcm, by rw [← e1]; exact hbc⟩, fun hh => absurd ((eo i).mp ho) hh⟩⟩)⟩⟩)
theorem v_firstBit {M : fm_M} {x : Int} (h1 : ∀ k : Nat, k < 10 → bt x k → post k M) (h0 : (∀ k : Nat, k < 10 → ¬ bt x k) → post (-1) M) : wp_CG_firstBit M x post thr := by
  refine ⟨fun M' v1 => M' = M ∧ ∃ k : Nat, v1 = k ∧ k ≤ 10 ∧ ∀ j, j < k → ¬ bt x j, fun _ v1 => (10 - v1).toNat, ⟨rfl, 0, rfl, by omega, fun j hj => by omega⟩, ?_⟩
  rintro M' v1 ⟨rfl, k, rfl, hk, hn⟩
  unfold C_CG_firstBit_2
  refine ⟨rg_small (by omega), fun h4 => h0 (fun j hj => hn j (by omega)), fun h4 => x_hasBit (fun hb => ⟨rg_small (by decide), fun _ => ⟨⟨rfl, k + 1, by omega, by omega, fun j hj => ?_⟩, by dsimp only; omega⟩, fun h => absurd rfl h⟩) (fun hb => ⟨rg_small (by decide), fun h => absurd h (by decide), fun _ => h1 k (by omega) hb⟩)⟩
  by_cases e : j = k
  · rw [e]; exact hb
  · exact hn j (by omega)
/-- a state whose value is sought -/
def opn (M : fm_M) (i : Nat) : Prop := bt (M 141 4) i ∧ ¬ bt (M 142 3) i
/-- every such state has a choice -/
def chs (M : fm_M) (m : Nat) : Prop := ∀ i : Nat, (i : Int) < M 142 1 → opn M i → ∃ c : Nat, M 323 i = c ∧ c < m ∧ bt (M 289 i) c
theorem v_chooseFirst {m : Nat} {M : fm_M} (h : VS g m M) (hp : ∀ M', vg M M' → chs M' m → post 0 M') : wp_Va_chooseFirst M post thr := by
  have hc := h.fb.cnt
  have hm10 := h.m10
  refine ⟨fun M' v1 => ∃ i : Nat, v1 = i ∧ (i : Int) ≤ M 142 1 ∧ vg M M' ∧ ∀ j, j < i → M' 310 j = M 289 j, fun _ v1 => (M 142 1 - v1).toNat, ⟨0, rfl, by omega, vg.refl, fun j hj => by omega⟩, ?_⟩
  rintro M1 v1 ⟨i, rfl, hi, f1, a1⟩
  have n1 : M1 142 = M 142 := f1 142 (by omega)
  have h1 := h.vg f1
  unfold C_Va_chooseFirst_2
  rw [n1]
  refine ⟨rg_small (by omega), rg_small (by omega), fun h4 => ?_, fun h4 => ?_⟩
  · refine v_drawnTo h1 at309 (fun j hj => ?_) h.fb.tg (fun dr M2 hx2 rdr D2 M3 e3 => ?_)
    · rw [n1] at hj
      rw [a1 j (by omega)]; exact bs_rg (h.fb.en j hj) hm10
    · have f2 : vg M M2 := f1.tr (fun a ha => hx2 a (by omega))
      have f3 : vg M M3 := by rw [e3]; exact f2.u (Or.inl rfl)
      have a3 : ∀ a, a ≠ 141 → M3 a = M2 a := fun a ha => by rw [e3]; exact fu_off _ _ _ ha
      have p3 : M3 141 4 = dr := by rw [e3, fu_at, if_pos rfl]
      have n3 : M3 142 = M 142 := f3 142 (by omega)
      have e289 : M3 289 = M 289 := f3 289 (by omega)
      -- what the choice is to be
      have good : ∀ j : Nat, (j : Int) < M 142 1 → bt dr j → ¬ bt (M 142 3) j → (om M j → ∃ c : Nat, M2 311 j = c ∧ c < m ∧ bt (M 289 j) c) ∧ (¬ om M j → M 289 j ≠ 0) := fun j hj hb hng => by
        have := D2 j (by rw [n1]; exact hj) hb hng
        have eo : om M1 j ↔ om M j := by unfold om; rw [f1 289 (by omega), n1]
        rw [eo, a1 j (by omega)] at this
        exact this
      refine ⟨fun M' v1 => ∃ i : Nat, v1 = i ∧ (i : Int) ≤ M 142 1 ∧ vg M M' ∧ M' 141 4 = dr ∧ M' 311 = M2 311 ∧ ∀ j, j < i → bt dr j → ¬ bt (M 142 3) j → ∃ c : Nat, M' 323 j = c ∧ c < m ∧ bt (M 289 j) c, fun _ v1 => (M 142 1 - v1).toNat, ⟨0, rfl, by omega, f3, p3, a3 311 (by decide), fun j hj => by omega⟩, ?_⟩
      rintro M4 v1 ⟨k, rfl, hk, f4, p4, x4, c4⟩
      have n4 : M4 142 = M 142 := f4 142 (by omega)
      have h4' := h.vg f4
      unfold C_Va_chooseFirst_60
      rw [n4]
      have put : ∀ z : Int, (k : Int) < M 142 1 → (bt dr k → ¬ bt (M 142 3) k → ∃ c : Nat, z = c ∧ c < m ∧ bt (M 289 k) c) → B_Va_chooseFirst_110 post thr (fun M'_1 v1' => (∃ i : Nat, v1' = i ∧ (i : Int) ≤ M 142 1 ∧ vg M M'_1 ∧ M'_1 141 4 = dr ∧ M'_1 311 = M2 311 ∧ ∀ j, j < i → bt dr j → ¬ bt (M 142 3) j → ∃ c : Nat, M'_1 323 j = c ∧ c < m ∧ bt (M 289 j) c) ∧ (M 142 1 - v1').toNat < (M 142 1 - (k : Int)).toNat) M4 k z k := fun z hkl hz => by
        refine ⟨by omega, fun M5 e5 => ⟨⟨k + 1, by omega, by omega, by rw [e5]; exact f4.u (Or.inr (by omega)), by rw [e5, fu_off _ _ _ (by decide)]; exact p4, by rw [e5, fu_off _ _ _ (by decide)]; exact x4, fun j hj b1 b2 => ?_⟩, by omega⟩⟩
        rw [e5, Int.toNat_natCast, fu_at]
        by_cases e : j = k
        · subst e; rw [if_pos rfl]; exact hz b1 b2
        · rw [if_neg e]; exact c4 j (by omega) b1 b2
      have eo : om M4 k ↔ om M k := by unfold om; rw [f4 289 (by omega), n4]
      refine ⟨rg_small (by omega), rg_small (by omega), fun h5 => hp M4 f4 (fun j hj ho => ?_), fun h5 => v_isOfMax h4' (by rw [n4]; omega) (fun ho => ⟨rg_small (by decide), fun _ => v_choicesOf h4' (by rw [n4]; omega) (v_firstBit (fun z hz hb => put z (by omega) (fun _ _ => ⟨z, rfl, ?_, ?_⟩)) (fun hn => put (-1) (by omega) (fun b1 b2 => ?_))), fun h => absurd rfl h⟩) (fun ho => ⟨rg_small (by decide), fun h => absurd h (by decide), fun _ => ⟨by omega, put _ (by omega) (fun b1 b2 => ?_)⟩⟩)⟩
      · rw [n4] at hj
        unfold opn at ho
        rw [p4, n4] at ho
        rw [f4 289 (by omega)]
        exact c4 j (by omega) ho.1 ho.2
      · rw [f4 289 (by omega)] at hb
        exact bs_bt (h.fb.en k (by omega)) hm10 hz hb
      · rw [f4 289 (by omega)] at hb; exact hb
      · have hne := (good k (by omega) b1 b2).2 (fun hh => ho (eo.mpr hh))
        obtain ⟨z, hz, hb⟩ := bs_ex (h.fb.en k (by omega)) hm10 hne
        rw [f4 289 (by omega)] at hn
        exact absurd hb (hn z hz)
      · rw [Int.toNat_natCast, x4]
        exact (good k (by omega) b1 b2).1 (eo.mp ho)
  · refine v_choicesOf h1 (by rw [n1]; omega) ⟨by omega, fun M2 e2 => ⟨⟨i + 1, by omega, by omega, by rw [e2]; exact f1.u (Or.inr (by omega)), fun j hj => ?_⟩, by dsimp only; omega⟩⟩
    rw [e2, Int.toNat_natCast, fu_at]
    by_cases e : j = i
    · rw [if_pos e, e, f1 289 (by omega)]
    · rw [if_neg e]; exact a1 j (by omega)
end Va
end Pu_cd
section Pu_ce
section Vb
variable {g : Nat} {post : Int → fm_M → Prop} {thr : String → fm_M → Prop}
theorem t314 : ∀ i : Fin 8, 314 + i.1 < nC ∧ TC (314 + i.1) = .inr (3, 9) := by decide
theorem v_eqClear {M : fm_M} (hp : ∀ M', (∀ a, ¬ (314 ≤ a ∧ a < 322) → M' a = M a) → post 0 M') : wp_Eq_clear M post thr := by
  refine ⟨fun M' v1 => ∃ i : Nat, v1 = i ∧ i ≤ 8 ∧ ∀ a, ¬ (314 ≤ a ∧ a < 322) → M' a = M a, fun _ v1 => (8 - v1).toNat, ⟨0, rfl, by omega, fun _ _ => rfl⟩, ?_⟩
  rintro M1 v1 ⟨i, rfl, hi, f1⟩
  unfold C_Eq_clear_2
  refine ⟨rg_small (by omega), fun _ => hp M1 f1, fun h4 => ?_⟩
  refine ⟨fun M' v1 v2 => v1 = i ∧ ∃ j : Nat, v2 = j ∧ j ≤ 9 ∧ ∀ a, ¬ (314 ≤ a ∧ a < 322) → M' a = M a, fun _ _ v2 => (9 - v2).toNat, ⟨rfl, 0, rfl, by omega, f1⟩, ?_⟩
  rintro M2 v1 v2 ⟨rfl, j, rfl, hj, f2⟩
  unfold C_Eq_clear_10
  rw [Int.toNat_natCast, show 313 + 1 + i = 314 + i by omega]
  exact ⟨rg_small (by omega), fun _ => ⟨⟨i + 1, by omega, by omega, f2⟩, by dsimp only; omega⟩, fun h5 => ⟨by omega, t314 ⟨i, by omega⟩, by omega, fun M3 e3 => ⟨⟨rfl, j + 1, by omega, by omega, fun a ha => by rw [e3, fu_off _ _ _ (by omega)]; exact f2 a ha⟩, by dsimp only; omega⟩⟩⟩
theorem v_isOpen {M : fm_M} {i : Nat} (h0 : ¬ opn M i → post 0 M) (h1 : opn M i → post 1 M) : wp_Va_isOpen M i post thr :=
  x_hasBit (fun hb => ⟨rg_small (by decide), fun _ => h0 (fun hh => hb hh.1), fun h => absurd rfl h⟩) (fun hb => ⟨rg_small (by decide), fun h => absurd h (by decide), fun _ => x_hasBit (fun hb2 => ⟨rg_small (by decide), fun h => absurd rfl h, fun _ => h1 ⟨hb, hb2⟩⟩) (fun hb2 => ⟨rg_small (by decide), fun _ => h0 (fun hh => hh.2 hb2), fun h => absurd h (by decide)⟩)⟩)
theorem v_next {m : Nat} {M : fm_M} (h : VS g m M) {i c b : Nat} (hi : (i : Int) < M 142 1) (hc : c < m) (hbt : bt (M 289 i) c) (hb : (b : Int) < M (g + (7 + 13 * c)) 3) (hp : ∀ j : Nat, j < 8 → post j M) : wp_Fo_next M i c b post thr := by
  have hcn := h.fb.cnt
  have hm10 := h.m10
  have hbr : 0 ≤ M (g + (7 + 13 * c)) 3 ∧ M (g + (7 + 13 * c)) 3 ≤ 4 := h.g1.cb.g' (brC ⟨c, by omega⟩) (x := 3) (by omega) (by omega)
  have hn := h.nx i c b hi (by rw [h.hm]; omega) hbt hb
  unfold wp_Fo_next
  rw [Int.toNat_natCast, show 299 + 1 + i = 300 + i by omega, show ((c : Int) * 4) + (b : Int) = ((4 * c + b : Nat) : Int) by omega, Int.toNat_natCast]
  have e : M (300 + i) (4 * c + b) = (((M (300 + i) (4 * c + b)).toNat : Nat) : Int) := by omega
  rw [e]
  exact ⟨by omega, t300 ⟨i, by omega⟩, by omega, hp _ (by omega)⟩
theorem wtC : ∀ c : Fin 10, (7 + 13 * c.1, 4, 5, (0 : Int), (6 : Int)) ∈ CBt := by decide
theorem wtB : ∀ c : Fin 10, ∀ b : Fin 4, (12 + 13 * c.1 + 2 * b.1, 1, 2, (0 : Int), (6 : Int)) ∈ CBt := by decide
theorem v_setEquation {m : Nat} {M : fm_M} (h : VS g m M) {i c : Nat} (hi : (i : Int) < M 142 1) (hc : c < m) (hbt : bt (M 289 i) c) (hp : ∀ M', (∀ a, ¬ (314 ≤ a ∧ a < 322) → M' a = M a) → post 0 M') : wp_Va_setEquation M (314 + i) i c post thr := by
  have hcn := h.fb.cnt
  have hm10 := h.m10
  have hg := h.g1.gg
  have t := tcG hg
  have C := cmOk hg (c := c) (by omega)
  have T := t314 ⟨i, by omega⟩
  have hsz : fm_sz (314 + i) = 9 := by unfold fm_sz; rw [T.2]
  have hT : 314 + i < nC ∧ TC (314 + i) = .inr (3, fm_sz (314 + i)) := by rw [hsz]; exact T
  have hw : 0 ≤ M (g + (7 + 13 * c)) 4 ∧ M (g + (7 + 13 * c)) 4 ≤ 6 := h.g1.cb.g' (wtC ⟨c, by omega⟩) (x := 4) (by omega) (by omega)
  have hbr : 0 ≤ M (g + (7 + 13 * c)) 3 ∧ M (g + (7 + 13 * c)) 3 ≤ 4 := h.g1.cb.g' (brC ⟨c, by omega⟩) (x := 3) (by omega) (by omega)
  unfold wp_Va_setEquation
  rw [h.g1.gm, Int.toNat_natCast, Int.toNat_natCast, show g + 3 + 4 + 13 * c = g + (7 + 13 * c) by omega]
  refine ⟨t.1, t.2.2.2, by omega, hT, by rw [hsz]; omega, C.t0, rg_small (by omega), fun M1 e1 => ?_⟩
  have f1 : ∀ a, ¬ (314 ≤ a ∧ a < 322) → M1 a = M a := fun a ha => by rw [e1]; exact fu_off _ _ _ (by omega)
  refine ⟨fun M' c4 v5 => c4 = g + (7 + 13 * c) ∧ ∃ b : Nat, v5 = b ∧ b ≤ 4 ∧ ∀ a, ¬ (314 ≤ a ∧ a < 322) → M' a = M a, fun _ _ v5 => (5 - v5).toNat, ⟨rfl, 0, rfl, by omega, f1⟩, ?_⟩
  rintro M2 c4 v5 ⟨rfl, b, rfl, hb, f2⟩
  have h2 := h.vf (M' := M2) (fun a ha => f2 a (by omega))
  have br2 : M2 (g + (7 + 13 * c)) 3 = M (g + (7 + 13 * c)) 3 := by rw [f2 _ (by omega)]
  unfold C_Va_setEquation_29
  rw [br2]
  refine ⟨C.t0, rg_small (by omega), rg_small (by omega), fun _ => hp M2 f2, fun h4 => v_next h2 (by rw [f2 142 (by omega)]; exact hi) hc (by rw [f2 289 (by omega)]; exact hbt) (by rw [br2]; omega) (fun j hj => ?_)⟩
  have B := brOk hg (c := c) (b := b) (by omega) (by omega)
  have hwb : 0 ≤ M2 (g + (12 + 13 * c + 2 * b)) 1 ∧ M2 (g + (12 + 13 * c + 2 * b)) 1 ≤ 6 := h2.g1.cb.g' (wtB ⟨c, by omega⟩ ⟨b, by omega⟩) (x := 1) (by omega) (by omega)
  rw [Int.toNat_natCast, show g + (7 + 13 * c) + 4 + 1 + 2 * b = g + (12 + 13 * c + 2 * b) by omega]
  exact ⟨hT, by rw [hsz]; omega, C.t4, by omega, B.t0, rg_small (by omega), fun M3 e3 => ⟨⟨rfl, b + 1, by omega, by omega, fun a ha => by rw [e3, fu_off _ _ _ (by omega)]; exact f2 a ha⟩, by dsimp only; omega⟩⟩
theorem v_setEquations {m : Nat} {M : fm_M} (h : VS g m M) (hc : chs M m) (hp : ∀ M', (∀ a, ¬ (314 ≤ a ∧ a < 322) → M' a = M a) → post 0 M') : wp_Va_setEquations M post thr := by
  have hcn := h.fb.cnt
  refine v_eqClear (fun M0 f0 => ?_)
  refine ⟨fun M' v1 => ∃ i : Nat, v1 = i ∧ (i : Int) ≤ M 142 1 ∧ ∀ a, ¬ (314 ≤ a ∧ a < 322) → M' a = M a, fun _ v1 => (M 142 1 - v1).toNat, ⟨0, rfl, by omega, f0⟩, ?_⟩
  rintro M1 v1 ⟨i, rfl, hi, f1⟩
  have h1 := h.vf (M' := M1) (fun a ha => f1 a (by omega))
  have n1 : M1 142 = M 142 := f1 142 (by omega)
  have T := t314
  unfold C_Va_setEquations_9
  rw [n1, Int.toNat_natCast, show 313 + 1 + i = 314 + i by omega]
  refine ⟨rg_small (by omega), rg_small (by omega), fun _ => hp M1 f1, fun h4 => ?_⟩
  have st : ∀ M2 : fm_M, (∀ a, ¬ (314 ≤ a ∧ a < 322) → M2 a = M a) → (fun M'_1 v1' => (∃ i : Nat, v1' = i ∧ (i : Int) ≤ M 142 1 ∧ ∀ a, ¬ (314 ≤ a ∧ a < 322) → M'_1 a = M a) ∧ (M 142 1 - v1').toNat < (M 142 1 - (i : Int)).toNat : fm_M → Int → Prop) M2 ((i : Int) + 1) := fun M2 f2 => ⟨⟨i + 1, by omega, by omega, f2⟩, by omega⟩
  refine v_isOpen (fun ho => ⟨rg_small (by decide), fun _ => ⟨by omega, t314 ⟨i, by omega⟩, by omega, fun M2 e2 => ?_⟩, fun h => absurd rfl h⟩) (fun ho => ⟨rg_small (by decide), fun h => absurd h (by decide), fun _ => ⟨by omega, ?_⟩⟩)
  · have f2 : ∀ a, ¬ (314 ≤ a ∧ a < 322) → M2 a = M a := fun a ha => by rw [e2, fu_off _ _ _ (by omega)]; exact f1 a ha
    have n2 : M2 142 = M 142 := f2 142 (by omega)
    have fin : ∀ z : Int, B_Va_setEquations_98 post thr (fun M'_1 v1' => (∃ i : Nat, v1' = i ∧ (i : Int) ≤ M 142 1 ∧ ∀ a, ¬ (314 ≤ a ∧ a < 322) → M'_1 a = M a) ∧ (M 142 1 - v1').toNat < (M 142 1 - (i : Int)).toNat) M2 i z (M2 142 1) (314 + i) := fun z => ⟨t314 ⟨i, by omega⟩, by rw [n2]; omega, fun M3 e3 => st M3 (fun a ha => by rw [e3, fu_off _ _ _ (by omega)]; exact f2 a ha)⟩
    exact x_hasBit (fun _ => ⟨rg_small (by decide), fun _ => fin 0, fun h => absurd rfl h⟩) (fun _ => ⟨rg_small (by decide), fun h => absurd h (by decide), fun _ => fin 1⟩)
  · have hopn : opn M i := by unfold opn at *; rw [← f1 141 (by omega), ← n1]; exact ho
    obtain ⟨c, e, hcm, hb⟩ := hc i (by omega) hopn
    rw [f1 323 (by omega), e]
    exact v_setEquation h1 (by rw [n1]; omega) hcm (by rw [f1 289 (by omega)]; exact hb) (fun M2 f2 => st M2 (fun a ha => by rw [f2 a ha, f1 a ha]))
theorem v_eliminate {M : fm_M} {i k n : Nat} (hi : i < 8) (hk : k < 8) (hn : n ≤ 8) (hp : ∀ M', (∀ a, ¬ (314 ≤ a ∧ a < 322) → M' a = M a) → post 0 M') : wp_Eq_eliminate M i k n post thr := by
  unfold wp_Eq_eliminate
  rw [Int.toNat_natCast, Int.toNat_natCast, show 313 + 1 + i = 314 + i by omega, show 313 + 1 + k = 314 + k by omega]
  refine ⟨fun hne => ⟨by omega, t314 ⟨k, hk⟩, by omega, by omega, t314 ⟨i, hi⟩, ?_⟩, fun _ => hp M (fun _ _ => rfl)⟩
  have hl : jwl (M 312 2) ≠ 0 := fun e => hne (by rw [e]; decide)
  refine ⟨fun M' v4 v6 v8 => ∃ j : Nat, v8 = j ∧ j ≤ 9 ∧ ∀ a, ¬ (314 ≤ a ∧ a < 322) → M' a = M a, fun _ _ _ v8 => (9 - v8).toNat, ⟨k + 1, by omega, by omega, fun _ _ => rfl⟩, ?_⟩
  rintro M1 v4 v6 v8 ⟨j, rfl, hj, f1⟩
  unfold C_Eq_eliminate_35
  rw [Int.toNat_natCast, Int.toNat_natCast, Int.toNat_natCast, show 313 + 1 + i = 314 + i by omega, show 313 + 1 + k = 314 + k by omega]
  exact ⟨rg_small (by omega), rg_small (by omega), fun _ => hp M1 f1, fun h5 => ⟨by omega, t314 ⟨i, hi⟩, by omega, by omega, t314 ⟨k, hk⟩, by rw [f1 312 (by omega)]; exact hl, fun M2 e2 => ⟨⟨j + 1, by omega, by omega, fun a ha => by rw [e2, fu_off _ _ _ (by omega)]; exact f1 a ha⟩, by dsimp only; omega⟩⟩⟩
/-- the equations' cells -/
def qf (M M' : fm_M) : Prop := ∀ a, ¬ (312 ≤ a ∧ a < 323) → M' a = M a
theorem v_solveFor {M : fm_M} {n : Nat} (hn : n ≤ 8) (hp : ∀ M', qf M M' → post 0 M') : wp_Eq_solveFor M n post thr := by
  intro M0 e0
  have f0 : qf M M0 := fun a ha => by rw [e0]; exact fu_off _ _ _ (by omega)
  refine ⟨fun M' v2 => ∃ k : Nat, v2 = k ∧ k ≤ n ∧ qf M M', fun _ v2 => ((n : Int) - v2).toNat, ⟨0, rfl, by omega, f0⟩, ?_⟩
  rintro M1 v2 ⟨k, rfl, hk, f1⟩
  unfold C_Eq_solveFor_7
  rw [Int.toNat_natCast, show 313 + 1 + k = 314 + k by omega]
  refine ⟨rg_small (by omega), rg_small (by omega), fun h4 => ?_, fun h4 => ⟨by omega, t314 ⟨k, by omega⟩, by omega, ?_⟩⟩
  · refine ⟨fun M' v2 => ∃ i : Nat, v2 = i ∧ i ≤ n ∧ qf M M', fun _ v2 => ((n : Int) - v2).toNat, ⟨0, rfl, by omega, f1⟩, ?_⟩
    rintro M2 v2 ⟨i, rfl, hi, f2⟩
    unfold C_Eq_solveFor_63
    rw [Int.toNat_natCast, Int.toNat_natCast, show 313 + 1 + i = 314 + i by omega]
    exact ⟨rg_small (by omega), rg_small (by omega), fun _ => hp M2 f2, fun h5 => ⟨by omega, t314 ⟨i, by omega⟩, by omega, fun M3 e3 => ⟨⟨i + 1, by omega, by omega, fun a ha => by rw [e3, fu_off _ _ _ (by omega)]; exact f2 a ha⟩, by dsimp only; omega⟩⟩⟩
  · refine ⟨fun M' v2 v3 v5 => v2 = k ∧ ∃ i : Nat, v5 = i ∧ i ≤ n ∧ qf M M', fun _ _ _ v5 => ((n : Int) - v5).toNat, ⟨rfl, 0, rfl, by omega, f1⟩, ?_⟩
    rintro M2 v2 v3 v5 ⟨rfl, i, rfl, hi, f2⟩
    unfold C_Eq_solveFor_24
    refine ⟨rg_small (by omega), rg_small (by omega), fun h5 M3 e3 => ⟨⟨k + 1, by omega, by omega, fun a ha => by rw [e3, fu_off _ _ _ (by omega)]; exact f2 a ha⟩, by dsimp only; omega⟩, fun h5 => ⟨rg_small (by omega), fun _ => ⟨⟨rfl, i + 1, by omega, by omega, f2⟩, by dsimp only; omega⟩, fun _ => v_eliminate (by omega) (by omega) hn (fun M3 f3 => ⟨⟨rfl, i + 1, by omega, by omega, fun a ha => by rw [f3 a (by omega)]; exact f2 a ha⟩, by dsimp only; omega⟩)⟩⟩
theorem v_weigh {m : Nat} {M : fm_M} (h : VS g m M) {i c : Nat} (hi : (i : Int) < M 142 1) (hc : c < m) (hbt : bt (M 289 i) c) (hp : ∀ r, post r M) : wp_Va_weigh M i c post thr := by
  have hcn := h.fb.cnt
  have hm10 := h.m10
  have hg := h.g1.gg
  have t := tcG hg
  have C := cmOk hg (c := c) (by omega)
  have hbr : 0 ≤ M (g + (7 + 13 * c)) 3 ∧ M (g + (7 + 13 * c)) 3 ≤ 4 := h.g1.cb.g' (brC ⟨c, by omega⟩) (x := 3) (by omega) (by omega)
  unfold wp_Va_weigh
  rw [h.g1.gm, Int.toNat_natCast, show g + 3 + 4 + 13 * c = g + (7 + 13 * c) by omega]
  refine ⟨t.1, t.2.2.2, by omega, ⟨fun M' c3 v4 v6 => M' = M ∧ c3 = g + (7 + 13 * c) ∧ ∃ b : Nat, v6 = b ∧ b ≤ 4, fun _ _ _ v6 => (5 - v6).toNat, ⟨rfl, rfl, 0, rfl, by omega⟩, ?_⟩⟩
  rintro M' c3 v4 v6 ⟨rfl, rfl, b, rfl, hb⟩
  unfold C_Va_weigh_19
  refine ⟨C.t0, rg_small (by omega), rg_small (by omega), fun _ => hp _, fun h4 => ⟨C.t4, by omega, ?_⟩⟩
  have B := brOk hg (c := c) (b := b) (by omega) (by omega)
  have hwb : 0 ≤ M' (g + (12 + 13 * c + 2 * b)) 1 ∧ M' (g + (12 + 13 * c + 2 * b)) 1 ≤ 6 := h.g1.cb.g' (wtB ⟨c, by omega⟩ ⟨b, by omega⟩) (x := 1) (by omega) (by omega)
  rw [Int.toNat_natCast, show g + (7 + 13 * c) + 4 + 1 + 2 * b = g + (12 + 13 * c + 2 * b) by omega]
  exact ⟨B.t0, rg_small (by omega), v_next h hi hc hbt (by omega) (fun j hj => ⟨by omega, ⟨rfl, rfl, b + 1, by omega, by omega⟩, by dsimp only; omega⟩)⟩
theorem v_bestChoice {m : Nat} {M : fm_M} (h : VS g m M) (hch : chs M m) {i : Nat} (hi : (i : Int) < M 142 1) (ho : opn M i) {a : Int} (ha : a = 0 ∨ a = 1) (hp : ∀ c : Nat, c < m → bt (M 289 i) c → post c M) : wp_Va_bestChoice M i a post thr := by
  have hcn := h.fb.cnt
  have hm10 := h.m10
  have hg := h.g1.gg
  have t := tcG hg
  obtain ⟨c0, e0, hc0, hb0⟩ := hch i hi ho
  unfold wp_Va_bestChoice
  rw [Int.toNat_natCast, e0]
  refine ⟨by omega, v_weigh h hi hc0 hb0 (fun r => ?_)⟩
  refine ⟨fun M' v3 v4 v6 => M' = M ∧ (∃ c : Nat, v3 = c ∧ c < m ∧ bt (M 289 i) c) ∧ ∃ k : Nat, v6 = k ∧ k ≤ m, fun _ _ _ v6 => (10 - v6).toNat, ⟨rfl, ⟨c0, rfl, hc0, hb0⟩, 0, rfl, by omega⟩, ?_⟩
  rintro M' v3 v4 v6 ⟨rfl, ⟨c, rfl, hc, hbc⟩, k, rfl, hk⟩
  unfold C_Va_bestChoice_18
  rw [h.g1.gm, h.hm]
  refine ⟨t.1, rg_small (by omega), rg_small (by omega), fun _ => hp c hc hbc, fun h4 => v_choicesOf h hi (x_hasBit (fun hb => ⟨rg_small (by decide), fun _ => ⟨⟨rfl, ⟨c, rfl, hc, hbc⟩, k + 1, by omega, by omega⟩, by dsimp only; omega⟩, fun h => absurd rfl h⟩) (fun hb => ⟨rg_small (by decide), fun h => absurd h (by decide), fun _ => v_weigh h hi (by omega) hb (fun r2 => ?_)⟩))⟩
  have C := cmOk hg (c := c) (by omega)
  have K := cmOk hg (c := k) (by omega)
  have hwc : 0 ≤ M' (g + (7 + 13 * c)) 4 ∧ M' (g + (7 + 13 * c)) 4 ≤ 6 := h.g1.cb.g' (wtC ⟨c, by omega⟩) (x := 4) (by omega) (by omega)
  have hwk : 0 ≤ M' (g + (7 + 13 * k)) 4 ∧ M' (g + (7 + 13 * k)) 4 ≤ 6 := h.g1.cb.g' (wtC ⟨k, by omega⟩) (x := 4) (by omega) (by omega)
  rw [h.g1.gm, Int.toNat_natCast, Int.toNat_natCast, show g + 3 + 4 + 13 * c = g + (7 + 13 * c) by omega, show g + 3 + 4 + 13 * k = g + (7 + 13 * k) by omega]
  have same : ∀ z : Int, (fun M'_1 v3' v4' v6' => (M'_1 = M' ∧ (∃ c : Nat, v3' = c ∧ c < m ∧ bt (M' 289 i) c) ∧ ∃ k : Nat, v6' = k ∧ k ≤ m) ∧ (10 - v6').toNat < (10 - (k : Int)).toNat : fm_M → Int → Int → Int → Prop) M' c z ((k : Int) + 1) := fun z => ⟨⟨rfl, ⟨c, rfl, hc, hbc⟩, k + 1, by omega, by omega⟩, by omega⟩
  have new : ∀ z : Int, (fun M'_1 v3' v4' v6' => (M'_1 = M' ∧ (∃ c : Nat, v3' = c ∧ c < m ∧ bt (M' 289 i) c) ∧ ∃ k : Nat, v6' = k ∧ k ≤ m) ∧ (10 - v6').toNat < (10 - (k : Int)).toNat : fm_M → Int → Int → Int → Prop) M' k z ((k : Int) + 1) := fun z => ⟨⟨rfl, ⟨k, rfl, by omega, hb⟩, k + 1, by omega, by omega⟩, by omega⟩
  exact ⟨t.1, t.2.2.2, by omega, C.t0, rg_small (by omega), by omega, K.t0, rg_small (by omega), rg_small (by omega), fun _ => ⟨fun _ => same v4, fun _ => new r2⟩, fun _ => ⟨fun _ => same v4, fun _ => new r2⟩⟩
theorem v_improve {m : Nat} {M : fm_M} (h : VS g m M) (hch : chs M m) {a : Int} (ha : a = 0 ∨ a = 1) (hp : ∀ r M', (r = 0 ∨ r = 1) → ex1 323 M M' → chs M' m → post r M') : wp_Va_improve M a post thr := by
  have hcn := h.fb.cnt
  have ra : rg a := rg_small (by omega)
  refine ⟨fun M' v2 v3 => ∃ i : Nat, v3 = i ∧ (i : Int) ≤ M 142 1 ∧ (v2 = 0 ∨ v2 = 1) ∧ ex1 323 M M' ∧ chs M' m, fun _ _ v3 => (M 142 1 - v3).toNat, ⟨0, rfl, by omega, Or.inl rfl, ex1.rfl, hch⟩, ?_⟩
  rintro M1 v2 v3 ⟨i, rfl, hi, hv2, x1, c1⟩
  have n1 : M1 142 = M 142 := x1 142 (by decide)
  have h1 := h.vf (M' := M1) (fun a ha => x1 a (by omega))
  have rv : rg v2 := rg_small (by omega)
  unfold C_Va_improve_4
  rw [n1]
  refine ⟨rg_small (by omega), rg_small (by omega), fun _ => ⟨hv2, hp v2 M1 hv2 x1 c1⟩, fun h4 => ?_⟩
  have skip : (fun M'_1 v2' v3' => (∃ i : Nat, v3' = i ∧ (i : Int) ≤ M 142 1 ∧ (v2' = 0 ∨ v2' = 1) ∧ ex1 323 M M'_1 ∧ chs M'_1 m) ∧ (M 142 1 - v3').toNat < (M 142 1 - (i : Int)).toNat : fm_M → Int → Int → Prop) M1 v2 ((i : Int) + 1) := ⟨⟨i + 1, by omega, by omega, hv2, x1, c1⟩, by omega⟩
  refine v_isOpen (fun _ => ⟨rg_small (by decide), fun _ => skip, fun h => absurd rfl h⟩) (fun ho => ⟨rg_small (by decide), fun h => absurd h (by decide), fun _ => ?_⟩)
  have hi1 : (i : Int) < M1 142 1 := by rw [n1]; omega
  have body : ∀ r : Int, (r = 0 ∨ r = 1) → (rg r) ∧ ((rg a) ∧ ((¬ r = a → ((fun M'_1 v2' v3' => (∃ i : Nat, v3' = i ∧ (i : Int) ≤ M 142 1 ∧ (v2' = 0 ∨ v2' = 1) ∧ ex1 323 M M'_1 ∧ chs M'_1 m) ∧ (M 142 1 - v3').toNat < (M 142 1 - (i : Int)).toNat : fm_M → Int → Int → Prop) M1 v2 ((i : Int) + 1))) ∧ (r = a → (wp_Va_bestChoice M1 i a (fun (r80 : Int) (M79 : fm_M) => ((rg v2) ∧ ((¬ v2 = 0 → (B_Va_improve_58 a post thr (fun M'_1 v2' v3' => (∃ i : Nat, v3' = i ∧ (i : Int) ≤ M 142 1 ∧ (v2' = 0 ∨ v2' = 1) ∧ ex1 323 M M'_1 ∧ chs M'_1 m) ∧ (M 142 1 - v3').toNat < (M 142 1 - (i : Int)).toNat) M79 i r80)) ∧ (v2 = 0 → ((0 ≤ (i : Int) ∧ (i : Int) < 8) ∧ ((rg r80) ∧ ((rg (M79 323 (i : Int).toNat)) ∧ ((r80 = (M79 323 (i : Int).toNat) → (B_Va_improve_63 a post thr (fun M'_1 v2' v3' => (∃ i : Nat, v3' = i ∧ (i : Int) ≤ M 142 1 ∧ (v2' = 0 ∨ v2' = 1) ∧ ex1 323 M M'_1 ∧ chs M'_1 m) ∧ (M 142 1 - v3').toNat < (M 142 1 - (i : Int)).toNat) M79 i r80 0)) ∧ (¬ r80 = (M79 323 (i : Int).toNat) → (B_Va_improve_58 a post thr (fun M'_1 v2' v3' => (∃ i : Nat, v3' = i ∧ (i : Int) ≤ M 142 1 ∧ (v2' = 0 ∨ v2' = 1) ∧ ex1 323 M M'_1 ∧ chs M'_1 m) ∧ (M 142 1 - v3').toNat < (M 142 1 - (i : Int)).toNat) M79 i r80)))))))))) thr)))) := by
    intro r hr
    refine ⟨rg_small (by omega), ra, fun _ => skip, fun _ => v_bestChoice h1 c1 hi1 ho ha (fun c hc hb => ?_)⟩
    have hm10 := h.m10
    obtain ⟨c0, e0, hc0, _⟩ := c1 i hi1 ho
    have put : ∀ z : Int, (z = 0 ∨ z = 1) → B_Va_improve_63 a post thr (fun M'_1 v2' v3' => (∃ i : Nat, v3' = i ∧ (i : Int) ≤ M 142 1 ∧ (v2' = 0 ∨ v2' = 1) ∧ ex1 323 M M'_1 ∧ chs M'_1 m) ∧ (M 142 1 - v3').toNat < (M 142 1 - (i : Int)).toNat) M1 i c z := fun z hz => by
      refine ⟨by omega, fun M2 e2 => ⟨⟨i + 1, by omega, by omega, hz, by rw [e2]; exact x1.u, fun j hj hoj => ?_⟩, by omega⟩⟩
      have a2 : ∀ q, q ≠ 323 → M2 q = M1 q := fun q hq => by rw [e2]; exact fu_off _ _ _ hq
      rw [a2 142 (by decide)] at hj
      unfold opn at hoj
      rw [a2 141 (by decide), a2 142 (by decide)] at hoj
      rw [a2 289 (by decide), e2, Int.toNat_natCast, fu_at]
      by_cases e : j = i
      · rw [if_pos e, e]; exact ⟨c, rfl, hc, hb⟩
      · rw [if_neg e]; exact c1 j hj hoj
    refine ⟨rv, fun _ => put 1 (Or.inr rfl), fun _ => ⟨by omega, rg_small (by omega), ?_, fun _ => put 0 (Or.inl rfl), fun _ => put 1 (Or.inr rfl)⟩⟩
    rw [Int.toNat_natCast, e0]; exact rg_small (by omega)
  exact v_isOfMax h1 hi1 (fun _ => body 0 (Or.inl rfl)) (fun _ => body 1 (Or.inr rfl))
theorem jwl_jwl (a : Int) : jwl (jwl a) = jwl a := jwl_id (jwl_rg a)
theorem v_divisor {M : fm_M} {a b : Int} (hp : ∀ d, jwl d ≠ 0 → post d M) : wp_Va_commonDivisor M a b post thr := by
  refine ⟨fun M' v4 v6 v8 => M' = M ∧ ∃ s : Nat, v8 = s ∧ s ≤ 128, fun _ _ _ v8 => (128 - v8).toNat, ⟨rfl, 0, rfl, by omega⟩, ?_⟩
  rintro M' v4 v6 v8 ⟨rfl, s, rfl, hs⟩
  have fin : B_Va_commonDivisor_45 a b post thr M' v4 := by
    unfold B_Va_commonDivisor_45
    refine ⟨fun h => ?_, fun h => ?_⟩
    · exact hp _ (by rw [jwl_jwl]; intro e; exact h (by rw [e]; decide))
    · exact hp _ (by rw [jwl_id ⟨by decide, by decide⟩]; decide)
  unfold C_Va_commonDivisor_9
  refine ⟨rg_small (by omega), fun _ => fin, fun h4 => ⟨fun _ => fin, fun hne => ⟨fun e => hne (by rw [e]; decide), ⟨rfl, s + 1, by omega, by omega⟩, by dsimp only; omega⟩⟩⟩
theorem v_compute {m : Nat} {M : fm_M} (h : VS g m M) (hp : ∀ M', vg M M' → post 0 M') : wp_Va_compute M post thr := by
  have hcn := h.fb.cnt
  refine v_chooseFirst h (fun M0 f0 c0 => ?_)
  have done : ∀ M1 : fm_M, vg M M1 → B_Va_compute_64 post thr M1 := by
    intro M1 f1
    refine ⟨fun M' v2 => ∃ i : Nat, v2 = i ∧ (i : Int) ≤ M 142 1 ∧ vg M M', fun _ v2 => (M 142 1 - v2).toNat, ⟨0, rfl, by omega, f1⟩, ?_⟩
    rintro M2 v2 ⟨i, rfl, hi, f2⟩
    have n2 : M2 142 = M 142 := f2 142 (by omega)
    unfold C_Va_compute_66
    rw [n2]
    exact ⟨rg_small (by omega), rg_small (by omega), fun _ => hp M2 f2, fun h4 => ⟨by omega, v_divisor (fun d hd => ⟨hd, fun M3 e3 M4 e4 => ⟨⟨i + 1, by omega, by omega, by rw [e4, e3]; exact (f2.u (Or.inr (by omega))).u (Or.inr (by omega))⟩, by dsimp only; omega⟩⟩)⟩⟩
  refine ⟨fun M' v1 v2 => ∃ r : Nat, v2 = r ∧ r ≤ 1000000 ∧ (v1 = 0 ∨ v1 = 1) ∧ vg M M' ∧ chs M' m, fun _ _ v2 => (1000000 - v2).toNat, ⟨0, rfl, by omega, Or.inr rfl, f0, c0⟩, ?_⟩
  rintro M1 v1 v2 ⟨r, rfl, hr, hv1, f1, c1⟩
  have h1 := h.vg f1
  unfold C_Va_compute_8
  refine ⟨rg_small (by omega), fun _ => done M1 f1, fun h4 => ⟨rg_small (by omega), fun _ => done M1 f1, fun _ => v_setEquations h1 c1 (fun M2 q2 => ?_)⟩⟩
  have f2 : vg M M2 := f1.tr (fun a ha => q2 a (by omega))
  have h2 := h.vg f2
  have n2 : M2 142 1 = (((M2 142 1).toNat : Nat) : Int) := by have := h2.fb.cnt; omega
  rw [n2]
  refine v_solveFor (by have := h2.fb.cnt; omega) (fun M3 q3 => ?_)
  have f3 : vg M M3 := f2.tr (fun a ha => q3 a (by omega))
  have h3 := h.vg f3
  have c3' : chs M3 m := fun i hi ho => by
    unfold opn at ho
    rw [q3 142 (by decide), q2 142 (by decide)] at hi
    rw [q3 141 (by decide), q3 142 (by decide), q2 141 (by decide), q2 142 (by decide)] at ho
    rw [q3 323 (by decide), q3 289 (by decide), q2 323 (by decide), q2 289 (by decide)]
    exact c1 i hi ho
  have st : ∀ (M4 : fm_M) (z : Int), (z = 0 ∨ z = 1) → vg M M4 → chs M4 m → (fun M'_1 v1' v2' => (∃ r : Nat, v2' = r ∧ r ≤ 1000000 ∧ (v1' = 0 ∨ v1' = 1) ∧ vg M M'_1 ∧ chs M'_1 m) ∧ (1000000 - v2').toNat < (1000000 - (r : Int)).toNat : fm_M → Int → Int → Prop) M4 z ((r : Int) + 1) := fun M4 z hz f4 c4 => ⟨⟨r + 1, by omega, by omega, hz, f4, c4⟩, by omega⟩
  refine v_improve h3 c3' (Or.inl rfl) (fun z M4 hz x4 c4 => ?_)
  have f4 : vg M M4 := f3.tr (fun a ha => x4 a (by omega))
  refine ⟨rg_small (by omega), fun _ => st M4 1 (Or.inr rfl) f4 c4, fun _ => v_improve (h.vg f4) c4 (Or.inr rfl) (fun z5 M5 hz5 x5 c5 => ?_)⟩
  have f5 : vg M M5 := f4.tr (fun a ha => x5 a (by omega))
  exact ⟨rg_small (by omega), fun _ => st M5 0 (Or.inl rfl) f5 c5, fun _ => st M5 1 (Or.inr rfl) f5 c5⟩
theorem v_isTight {m : Nat} {M : fm_M} (h : VS g m M) {i c : Nat} (hi : (i : Int) < M 142 1) (hc : c < m) (hbt : bt (M 289 i) c) (h0 : post 0 M) (h1 : post 1 M) : wp_Va_isTight M i c post thr := by
  have hcn := h.fb.cnt
  have hm10 := h.m10
  have hg := h.g1.gg
  have t := tcG hg
  have C := cmOk hg (c := c) (by omega)
  have hwc : 0 ≤ M (g + (7 + 13 * c)) 4 ∧ M (g + (7 + 13 * c)) 4 ≤ 6 := h.g1.cb.g' (wtC ⟨c, by omega⟩) (x := 4) (by omega) (by omega)
  refine v_weigh h hi hc hbt (fun r => ?_)
  rw [h.g1.gm, Int.toNat_natCast, show g + 3 + 4 + 13 * c = g + (7 + 13 * c) by omega]
  exact ⟨t.1, t.2.2.2, by omega, C.t0, rg_small (by omega), by omega, fun _ => h0, fun _ => h1⟩
theorem v_tight {m : Nat} {M : fm_M} (h : VS g m M) {i : Nat} (hi : (i : Int) < M 142 1) (hp : ∀ r, rg r → post r M) : wp_Go_tightChoices M i post thr := by
  have hcn := h.fb.cnt
  have hm10 := h.m10
  have t := tcG h.g1.gg
  refine ⟨fun M' v3 v4 => M' = M ∧ rg v3 ∧ ∃ c : Nat, v4 = c ∧ c ≤ m, fun _ _ v4 => (10 - v4).toNat, ⟨rfl, rg_small (by decide), 0, rfl, by omega⟩, ?_⟩
  rintro M' v3 v4 ⟨rfl, rv, c, rfl, hc⟩
  unfold C_Go_tightChoices_5
  rw [h.g1.gm, h.hm]
  refine ⟨t.1, rg_small (by omega), rg_small (by omega), fun _ => hp v3 rv, fun h4 => v_choicesOf h hi (x_hasBit (fun hb => ⟨rg_small (by decide), fun _ => ⟨⟨rfl, rv, c + 1, by omega, by omega⟩, by dsimp only; omega⟩, fun h => absurd rfl h⟩) (fun hb => ⟨rg_small (by decide), fun h => absurd h (by decide), fun _ => v_isTight h hi (by omega) hb ⟨rg_small (by decide), fun _ => ⟨⟨rfl, rv, c + 1, by omega, by omega⟩, by dsimp only; omega⟩, fun h => absurd rfl h⟩ ⟨rg_small (by decide), fun h => absurd h (by decide), fun _ => ⟨⟨rfl, rg_jor _ _, c + 1, by omega, by omega⟩, by dsimp only; omega⟩⟩⟩))⟩
/-- what is allowed is in range -/
def alr (M : fm_M) : Prop := ∀ i : Nat, i < 8 → rg (M 328 i) ∧ rg (M 330 i)
theorem v_chooseForMax {m : Nat} {M : fm_M} (h : VS g m M) (ha : alr M) {i : Nat} (hi : (i : Int) < M 142 1) {ends : Int} (he : rg ends) (hp : ∀ M', vf M M' → alr M' → M' 141 = M 141 → post 0 M') : wp_Go_chooseForMax M i ends post thr := by
  have hcn := h.fb.cnt
  have hm10 := h.m10
  have t := tcG h.g1.gg
  unfold wp_Go_chooseForMax
  rw [Int.toNat_natCast]
  refine ⟨by omega, fun M0 e0 => ?_⟩
  have hall : rg ((jshl 1 (M 142 1)) - 1) := by
    have : ∀ n : Fin 9, rg (jshl 1 (n.1 : Int) - 1) := by unfold rg; decide
    have h2 := this ⟨(M 142 1).toNat, by omega⟩
    simp only at h2
    rw [show (((M 142 1).toNat : Nat) : Int) = M 142 1 by omega] at h2; exact h2
  refine ⟨fun M' v4 v5 v6 => rg v4 ∧ ∃ c : Nat, v6 = c ∧ c ≤ m ∧ vf M M' ∧ alr M' ∧ M' 141 = M 141 ∧ rg (M' 330 i), fun _ _ _ v6 => (10 - v6).toNat, ⟨hall, 0, rfl, by omega, by rw [e0]; exact vf.refl.u (Or.inr (by omega)), fun j hj => ⟨by rw [e0, fu_off _ _ _ (by decide)]; exact (ha j hj).1, by rw [e0, fu_at]; split; exact rg_small (by decide); exact (ha j hj).2⟩, by rw [e0, fu_off _ _ _ (by decide)], by rw [e0, fu_at, if_pos rfl]; exact rg_small (by decide)⟩, ?_⟩
  rintro M1 v4 v5 v6 ⟨rv4, c, rfl, hc, f1, a1, p1, r1⟩
  have h1 := h.vf f1
  unfold C_Go_chooseForMax_31
  rw [h1.g1.gm, h1.hm, Int.toNat_natCast]
  refine ⟨t.1, rg_small (by omega), rg_small (by omega), fun _ => hp M1 f1 a1 p1, fun h4 => ⟨by omega, r1, fun _ => hp M1 f1 a1 p1, fun _ => x_hasBit (fun hb => ⟨rg_small (by decide), fun _ => ⟨⟨rv4, c + 1, by omega, by omega, f1, a1, p1, r1⟩, by dsimp only; omega⟩, fun h => absurd rfl h⟩) (fun hb => ⟨rg_small (by decide), fun h => absurd h (by decide), fun _ M2 e2 => ?_⟩)⟩⟩
  have f2 : vf M M2 := by rw [e2]; exact f1.u (Or.inr (by omega))
  have h2 := h.vf f2
  have a2 : alr M2 := fun j hj => by
    refine ⟨?_, by rw [e2, fu_off _ _ _ (by decide)]; exact (a1 j hj).2⟩
    rw [e2, fu_at]; split
    · exact rg_jshl _ _
    · exact (a1 j hj).1
  have n2 : M2 142 = M 142 := f2 142 (by omega)
  refine v_drawnTo h2 at327 (fun j hj => (a2 j (by rw [n2] at hj; omega)).1) he (fun dr M3 x3 rdr _ => ?_)
  have f3 : vf M M3 := f2.tr (fun a ha => x3 a (by omega))
  have a3 : alr M3 := fun j hj => by rw [x3 328 (by decide), x3 330 (by decide)]; exact a2 j hj
  have p3 : M3 141 = M 141 := by rw [x3 141 (by decide), e2, fu_off _ _ _ (by decide)]; exact p1
  have r3 : rg (M3 330 i) := by rw [x3 330 (by decide), e2, fu_off _ _ _ (by decide)]; exact r1
  refine ⟨rdr, rv4, fun _ => ⟨⟨rv4, c + 1, by omega, by omega, f3, a3, p3, r3⟩, by dsimp only; omega⟩, fun _ M4 e4 => ⟨⟨rv4, c + 1, by omega, by omega, by rw [e4]; exact f3.u (Or.inr (by omega)), fun j hj => ⟨by rw [e4, fu_off _ _ _ (by decide)]; exact (a3 j hj).1, by rw [e4, fu_at]; split; exact rg_small (by omega); exact (a3 j hj).2⟩, by rw [e4, fu_off _ _ _ (by decide)]; exact p3, by rw [e4, fu_at, if_pos rfl]; exact rg_small (by omega)⟩, by dsimp only; omega⟩⟩
theorem v_choose {m : Nat} {M : fm_M} (h : VS g m M) (ha : alr M) (hp : ∀ M', vf M M' → alr M' → post 0 M') : wp_Go_choose M post thr := by
  have hcn := h.fb.cnt
  refine ⟨fun M' v3 => ∃ i : Nat, v3 = i ∧ (i : Int) ≤ M 142 1 ∧ vf M M' ∧ alr M', fun _ v3 => (M 142 1 - v3).toNat, ⟨0, rfl, by omega, vf.refl, ha⟩, ?_⟩
  rintro M1 v3 ⟨i, rfl, hi, f1, a1⟩
  have h1 := h.vf f1
  have n1 : M1 142 = M 142 := f1 142 (by omega)
  unfold C_Go_choose_2
  rw [n1]
  refine ⟨rg_small (by omega), rg_small (by omega), fun h4 => ?_, fun h4 => v_tight h1 (by rw [n1]; omega) (fun r rr => ⟨by omega, fun M2 e2 => ⟨⟨i + 1, by omega, by omega, by rw [e2]; exact f1.u (Or.inr (by omega)), fun j hj => ?_⟩, by dsimp only; omega⟩⟩)⟩
  · refine ⟨fun M' v4 v5 => rg v4 ∧ ∃ i : Nat, v5 = i ∧ (i : Int) ≤ M 142 1 ∧ vf M M' ∧ alr M', fun _ _ v5 => (M 142 1 - v5).toNat, ⟨rg_jor _ _, 0, rfl, by omega, f1, a1⟩, ?_⟩
    rintro M2 v4 v5 ⟨rv4, k, rfl, hk, f2, a2⟩
    have h2 := h.vf f2
    have n2 : M2 142 = M 142 := f2 142 (by omega)
    unfold C_Go_choose_58
    rw [n2]
    refine ⟨rg_small (by omega), rg_small (by omega), fun _ => hp M2 f2 a2, fun h5 => ?_⟩
    have hk2 : (k : Int) < M2 142 1 := by rw [n2]; omega
    have put : ∀ z : Int, rg z → ∀ M3 : fm_M, M3 = fm_u M2 330 (k : Int).toNat z → (fun M'_1 v4' v5' => (rg v4' ∧ ∃ i : Nat, v5' = i ∧ (i : Int) ≤ M 142 1 ∧ vf M M'_1 ∧ alr M'_1) ∧ (M 142 1 - v5').toNat < (M 142 1 - (k : Int)).toNat : fm_M → Int → Int → Prop) M3 v4 ((k : Int) + 1) := fun z rz M3 e3 => ⟨⟨rv4, k + 1, by omega, by omega, by rw [e3]; exact f2.u (Or.inr (by omega)), fun j hj => ⟨by rw [e3, fu_off _ _ _ (by decide)]; exact (a2 j hj).1, by rw [e3, fu_at]; split; exact rz; exact (a2 j hj).2⟩⟩, by omega⟩
    exact v_isOfMax h2 hk2 (fun _ => ⟨rg_small (by decide), fun _ => ⟨by omega, v_firstBit (fun z hz _ M3 e3 => put z (rg_small (by omega)) M3 e3) (fun _ M3 e3 => put (-1) (rg_small (by decide)) M3 e3)⟩, fun h => absurd rfl h⟩) (fun _ => ⟨rg_small (by decide), fun h => absurd h (by decide), fun _ => v_chooseForMax h2 a2 hk2 rv4 (fun M3 f3 a3 _ => ⟨⟨rv4, k + 1, by omega, by omega, f2.tr f3, a3⟩, by dsimp only; omega⟩)⟩)
  · refine ⟨?_, by rw [e2, fu_off _ _ _ (by decide)]; exact (a1 j hj).2⟩
    rw [e2, Int.toNat_natCast, fu_at]; split
    · exact rr
    · exact (a1 j hj).1
end Vb
end Pu_ce
