set_option maxRecDepth 10000
section Pu_ck
/-! Each call, of both, one behind the other. -/
theorem RI.above {T : Nat → Int} {n : Nat} {w : Int} {M M' : fm_M} (h : RI T n w M) (e : ∀ a, 331 ≤ a → a ≤ 361 → M' a = M a) : RI T n w M' := h.same (fun a h1 h2 => e a (by omega) h2) (fun b _ => by rw [e 331 (by omega) (by omega)])
theorem RX.above {st : Nat} {Y : Ga} {M M' : fm_M} (h : RX st Y M) (e : ∀ a, 331 ≤ a → a ≤ 361 → M' a = M a) : RX st Y M' := h.same (fun b _ => by rw [e 331 (by omega) (by omega)]) (fun a h1 h2 => e a (by omega) (by omega))
theorem CX.low {T : Nat → Int} {n : Nat} {w : Int} {st : Nat} {Y : Ga} {M M' : fm_M} (x : CX st Y M) (c : CI T n w M) (e : ∀ a, a ≤ 330 → a ≠ 1 → a ≠ 2 → a ≠ 3 → M' a = M a) : CX st Y M' := by
  obtain ⟨g, k, hgk, e1, e2, c1, c2, F⟩ := c.gs
  exact x.same (k := k) (by omega) e2 (fun a ha => e a (by omega) (by omega) (by omega) (by omega))
/-- all that is known -/
def IW (T : Nat → Int) (n : Nat) (w : Int) (st : Nat) (Y : Ga) (M : fm_M) : Prop := rg w ∧ CI T n w M ∧ RI T n w M ∧ CX st Y M ∧ RX st Y M
theorem IW.iv {T : Nat → Int} {n : Nat} {w : Int} {st : Nat} {Y : Ga} {M : fm_M} (h : IW T n w st Y M) : IV M := ⟨T, n, w, st, Y, h⟩
theorem IW.look {T : Nat → Int} {n : Nat} {w : Int} {st : Nat} {Y : Ga} {M M1 : fm_M} (h : IW T n w st Y M) (k : KP M M1) : IV M1 := ⟨T, n, w, st, Y, h.1, h.2.1.same (fun a ha => k.cell a (by omega)), h.2.2.1.kp k, h.2.2.2.1.low h.2.1 (fun a ha _ _ _ => k.cell a (by omega)), h.2.2.2.2.kp k⟩
/-- a cell that nobody reads -/
theorem u362 {T : Nat → Int} {n : Nat} {w : Int} {st : Nat} {Y : Ga} {M M2 : fm_M} {p : Nat} {v : Int} (h : IW T n w st Y M) (e : M2 = fm_u M 362 p v) : IW T n w st Y M2 :=
  ⟨h.1, h.2.1.same (fun a ha => by rw [e]; exact fu_off _ _ _ (by omega)), h.2.2.1.above (fun a h1 h2 => by rw [e]; exact fu_off _ _ _ (by omega)), h.2.2.2.1.low h.2.1 (fun a ha _ _ _ => by rw [e]; exact fu_off _ _ _ (by omega)), h.2.2.2.2.above (fun a h1 h2 => by rw [e]; exact fu_off _ _ _ (by omega))⟩
/-- the mixed state's number is small -/
theorem goI_mx (Y : Ga) : ∀ (f i : Nat) (X : Xs), i + f ≤ 8 → -1 ≤ (goI Y f i X).2.2.1 ∧ (goI Y f i X).2.2.1 ≤ 8 := by
  intro f
  induction f with
  | zero => intro i X _; rw [goI]; exact ⟨show (-1 : Int) ≤ -1 by decide, show (-1 : Int) ≤ 8 by decide⟩
  | succ f ih =>
    intro i X h
    rw [goI]
    split
    · split
      · exact ⟨by show (-1 : Int) ≤ (i : Int); omega, by show (i : Int) ≤ 8; omega⟩
      · split
        · exact ih (i + 1) _ (by omega)
        · exact ⟨show (-1 : Int) ≤ -1 by decide, show (-1 : Int) ≤ 8 by decide⟩
    · exact ⟨show (-1 : Int) ≤ -1 by decide, show (-1 : Int) ≤ 8 by decide⟩
theorem SR_mx (Y : Ga) : rg (SR Y).2.2.1 := rg_small (by have := goI_mx Y 8 0 (Xad (0, fun _ _ => 0) Y.fi) (by omega); unfold SR; omega)
section Pairs
variable {M : fm_M} {Q : Int → Int → fm_M → Prop} {thr thr2 : String → fm_M → Prop}
theorem p_type (hI : IV M) {a a3 : Int} (h3 : rg a3) (hq : ∀ r M', rg r → IV M' → Q r r M') : wp_CG_type M a a3 (fun r2 M1 => wp_Mo_type M1 a a3 (fun r4 M3 => Q r2 r4 M3) thr2) thr := by
  obtain ⟨T, n, w, st, Y, hw, c, r, cx, rx⟩ := hI
  have hn := c.t.1
  refine c.type h3 (fun k ek k1 k8 kn ty M1 o1 c1 => ?_) (fun hno => ?_)
  · have r1' : RI T n w M1 := r.above (fun a h1 _ => o1 a (by omega) (by omega))
    have x1 : CX st Y M1 := cx.low c (fun a _ h1 h2 h3 => o1 a h2 h3)
    have y1 : RX st Y M1 := rx.above (fun a h1 _ => o1 a (by omega) (by omega))
    refine r1'.type h3 (fun k' ek' _ _ _ _ M2 o2 oh2 os2 r2' => ?_) (fun hno => absurd ⟨k, ek, k1, k8, kn, ty⟩ hno)
    have : k' = k := by omega
    subst this
    exact hq _ M2 (rg_small (by omega)) ⟨_, _, w, st, Y, hw, c1.same o2, r2', x1.low c1 (fun a ha _ _ _ => o2 a ha), y1.same os2 oh2⟩
  · exact r.type h3 (fun k ek h1 h2 h3 h4 => absurd ⟨k, ek, h1, h2, h3, h4⟩ hno) (fun _ M2 o2 oh2 os2 r2' => hq _ M2 (rg_small (by decide)) ⟨_, _, w, st, Y, hw, c.same o2, r2', cx.low c (fun a ha _ _ _ => o2 a ha), rx.same os2 oh2⟩)
theorem p_wipe (hI : IV M) (hq : ∀ r M', rg r → IV M' → Q r r M') : wp_CG_wipe M (fun r2 M1 => wp_Mo_wipe M1 (fun r4 M3 => Q r2 r4 M3) thr2) thr := by
  obtain ⟨T, n, w, st, Y, hw, c, r, cx, rx⟩ := hI
  have hn := c.t.1
  intro M1 e1
  have o1 : ∀ q, q ≠ 2 → M1 q = M q := fun q hq => by rw [e1]; exact fu_off _ _ _ hq
  have c1 : CI T 0 w M1 := c.wipe' o1 (by rw [e1, fu_at, if_pos rfl])
  have r1' : RI T n w M1 := r.above (fun a h1 _ => o1 a (by omega))
  have x1 : CX st Y M1 := cx.low c (fun a _ _ h2 _ => o1 a h2)
  have y1 : RX st Y M1 := rx.above (fun a h1 _ => o1 a (by omega))
  intro M2 e2 M3 e3
  have l2 : M2 331 2 = n := by rw [e2, fu_at, if_neg (by decide)]; exact r1'.mt.len
  rw [c.len, l2]
  exact hq _ M3 (rg_small (by omega)) ⟨T, 0, w, st, Y, hw, c1.same (fun a ha => by rw [e3, fu_off _ _ _ (by omega), e2, fu_off _ _ _ (by omega)]), r1'.wipe' (fun q hq => by rw [e3, fu_off _ _ _ hq, e2, fu_off _ _ _ hq]) (fun x h0 h2 => by rw [e3, fu_at, if_neg h2, e2, fu_at, if_neg h0]) (by rw [e3, fu_at, if_pos rfl]), x1.low c1 (fun a ha _ _ _ => by rw [e3, fu_off _ _ _ (by omega), e2, fu_off _ _ _ (by omega)]), y1.same (fun b hb => by rw [e3, fu_at, if_neg (by omega), e2, fu_at, if_neg (by omega)]) (fun a h1 h2 => by rw [e3, fu_off _ _ _ (by omega), e2, fu_off _ _ _ (by omega)])⟩
theorem p_read (hI : IV M) (h0 : ∀ r M', rg r → IV M' → M' 331 0 = 0 → M' 362 0 = r → Q 0 r M') (h1 : ∀ r M', IV M' → M' 331 0 = 1 → Q 1 r M') : wp_La_read M (fun r2 M1 => wp_Mo_read M1 (fun r4 M3 => Q r2 r4 M3) thr) := by
  obtain ⟨T, n, w, st, Y, hw, c, r, cx, rx⟩ := hI
  have rM : ∀ M1 : fm_M, (∀ a, 331 ≤ a → M1 a = M a) → RI T n w M1 := fun M1 o1 => r.above (fun a h1 _ => o1 a h1)
  have hbr : ∀ b : Nat, pAll T n = .bad b → rg (b : Int) := fun b hb => rg_small (by have := pAll_bad hb; have := c.t.1; omega)
  unfold wp_La_read
  refine c.read (fun k q hA hk M1 o1 c1 x1 => ⟨rg_small (by omega), fun M2 e2 => ?_⟩) (fun b hA M1 o1 c1 x1 => ⟨rfl, ?_⟩)
  · have c2 : CI T 0 w M2 := c1.same (fun a ha => by rw [e2]; exact fu_off _ _ _ (by omega))
    have x2 : CX 1 (Yof T n k) M2 := x1.low c1 (fun a ha _ _ _ => by rw [e2]; exact fu_off _ _ _ (by omega))
    have r2' : RI T n w M2 := (rM M1 o1).above (fun a h1 h2 => by rw [e2]; exact fu_off _ _ _ (by omega))
    refine r2'.read (fun k' q' hB M3 o3 x3 t3 r3' y3 => ?_) (fun b hB => absurd (hA.symm.trans hB) (fun h => by injection h))
    obtain ⟨ek, _⟩ := ok_inj (hA.symm.trans hB)
    subst ek
    exact h0 k M3 (rg_small (by omega)) ⟨T, 0, w, 1, Yof T n k, hw, c2.same o3, r3', x2.low c2 (fun a ha _ _ _ => o3 a ha), y3⟩ t3 (by rw [x3, e2, fu_at, if_pos rfl])
  · exact (rM M1 o1).read (fun _ _ hB => absurd (hA.symm.trans hB) (fun h => by injection h)) (fun b' hB M3 o3 t3 r3' y3 => h1 0 M3 ⟨T, n, b, st, Y, hbr b hA, c1.same o3, by have := bad_inj (hA.symm.trans hB); subst this; exact r3', (x1 st Y cx).low c1 (fun a ha _ _ _ => o3 a ha), y3 st Y (rx.above (fun a h1 _ => o1 a h1))⟩ t3)
theorem p_place (hI : IV M) (hq : ∀ r M', rg r → IV M' → Q r r M') : wp_CG_place M (fun r2 M1 => wp_Mo_place M1 (fun r4 M3 => Q r2 r4 M3) thr2) thr := by
  obtain ⟨T, n, w, st, Y, hI⟩ := hI
  intro M2 e2
  have k := KP.u e2
  have e : M2 331 4 = w := by rw [k.slot 4 (by decide)]; exact hI.2.2.1.wr
  rw [e, hI.2.1.wr]
  exact hq w M2 hI.1 (IW.look hI k)
theorem p_solve (hI : IV M) (h0 : ∀ r M', rg r → IV M' → M' 331 0 = 0 → M' 362 0 = r → Q 0 r M') (h1 : ∀ r M', IV M' → M' 331 0 = 1 → Q 1 r M') : wp_La_solve M (fun r2 M1 => wp_Mo_solve M1 (fun r4 M3 => Q r2 r4 M3) thr) := by
  obtain ⟨T, n, w, st, Y, hw, c, r, cx, rx⟩ := hI
  unfold wp_La_solve
  refine c.solve cx (fun hs => ?_) (fun x M1 hs ex rgx o1 c1 x1 => ⟨rgx, fun M2 e2 => ?_⟩) (fun hs => ⟨rfl, ?_⟩)
  · obtain ⟨hg01, hyy⟩ := rx.a1 hs
    have gw : gwf M := by
      rcases r.hg with ⟨e, _⟩ | ⟨_, e, _⟩
      · omega
      · exact e
    exact YG_of (G := (M 331 6).toNat) hyy gw r.rb (by omega) (by omega)
  · have r2' : RI T n w M2 := (r.above (fun a h1 _ => o1 a (by omega))).above (fun a h1 h2 => by rw [e2]; exact fu_off _ _ _ (by omega))
    have y2 : RX st Y M2 := (rx.above (fun a h1 _ => o1 a (by omega))).above (fun a h1 h2 => by rw [e2]; exact fu_off _ _ _ (by omega))
    have c2 : CI T n w M2 := c1.same (fun a ha => by rw [e2]; exact fu_off _ _ _ (by omega))
    have x2 : CX 2 Y M2 := x1.low c1 (fun a ha _ _ _ => by rw [e2]; exact fu_off _ _ _ (by omega))
    refine r2'.solve y2 (fun M3 hs0 => absurd hs0 hs) (fun r' M3 _ er t3 o3 f3 r3' y3 => ?_)
    have e : r' = x := by rw [er, ex]
    subst e
    exact h0 r' M3 rgx ⟨T, n, w, 2, Y, hw, c2.same o3, r3', x2.low c2 (fun a ha _ _ _ => o3 a ha), y3⟩ t3 (by rw [f3, e2, fu_at, if_pos rfl])
  · exact r.solve rx (fun M3 _ t3 o3 f3 r3' y3 => h1 0 M3 ⟨T, n, w, st, Y, hw, c.same o3, r3', cx.low c (fun a ha _ _ _ => o3 a ha), y3⟩ t3) (fun r' M3 hs1 => absurd hs hs1)
theorem p_states (hI : IV M) (hq : ∀ r M', rg r → IV M' → Q r r M') : wp_CG_states M (fun r2 M1 => wp_Mo_states M1 (fun r4 M3 => Q r2 r4 M3) thr2) thr := by
  obtain ⟨T, n, w, st, Y, hI⟩ := hI
  have hn := hI.2.2.1.n8
  refine hI.2.2.1.states (thr := thr2) (fun M' k => ?_)
  have e : M 142 1 = M 331 20 := by
    by_cases e : st = 2
    · rw [(hI.2.2.2.1.f e).1.n, (hI.2.2.2.2.f e).1.n]
    · rw [(hI.2.2.2.1.z e).1, (hI.2.2.2.2.z e).1]
  rw [e]
  exact hq _ M' (rg_small (by omega)) (IW.look hI k)
theorem p_mixed (hI : IV M) (hq : ∀ r M', rg r → IV M' → Q r r M') : wp_CG_mixed M (fun r2 M1 => wp_Mo_mixed M1 (fun r4 M3 => Q r2 r4 M3) thr2) thr := by
  obtain ⟨T, n, w, st, Y, hI⟩ := hI
  refine hI.2.2.1.mixed (thr := thr2) (fun M' k => ?_)
  have e : M 142 2 = M 331 21 := by
    by_cases e : st = 2
    · rw [(hI.2.2.2.1.f e).2.2.1, (hI.2.2.2.2.f e).2.1]
    · rw [(hI.2.2.2.1.z e).2.1, (hI.2.2.2.2.z e).2.1]
  rw [e]
  refine hq _ M' ?_ (IW.look hI k)
  by_cases e : st = 2
  · rw [(hI.2.2.2.2.f e).2.1]; exact SR_mx Y
  · rw [(hI.2.2.2.2.z e).2.1]; exact rg_small (by decide)
theorem p_variable' (hI : IV M) {a b : Int} (ha : rg a) (hb : rg b) (hq : ∀ r M', rg r → IV M' → Q r r M') : wp_CG_variable M a b (fun r2 M1 => wp_Mo_variable M1 a b (fun r4 M3 => Q r2 r4 M3) thr2) thr := by
  obtain ⟨T, n, w, st, Y, hI⟩ := hI
  obtain ⟨g, m, lk⟩ := hI.2.1.lk
  refine l_variable lk hI.2.2.2.1 ha hb (fun r hr => hI.2.2.1.vari hI.2.2.2.2 ha hb (fun r' M' hr' k => ?_))
  rw [avr_u hr' hr]
  refine hq _ M' ?_ (IW.look hI k)
  rcases hr with ⟨⟨e, ⟨a1, a2⟩, ⟨b1, b2⟩, _⟩, e2⟩ | ⟨_, e2⟩
  · have ok := (hI.2.2.2.1.f e).1.ok a.toNat (by omega) b.toNat (by omega)
    have mo := (hI.2.2.2.1.a1 (by omega)).2.w.mo9 b.toNat (by omega)
    rw [e2]; exact rg_small (by omega)
  · rw [e2]; exact rg_small (by decide)
theorem p_target (hI : IV M) {a : Int} (ha : rg a) (hq : ∀ r M', rg r → IV M' → Q r r M') : wp_CG_target M a (fun r2 M1 => wp_Mo_target M1 a (fun r4 M3 => Q r2 r4 M3) thr2) thr := by
  obtain ⟨T, n, w, st, Y, hI⟩ := hI
  obtain ⟨g, m, lk⟩ := hI.2.1.lk
  refine l_target lk hI.2.2.2.1 ha (fun r hr => hI.2.2.1.target hI.2.2.2.2 ha (fun r' M' hr' k => ?_))
  rw [atg_u hr' hr]
  refine hq _ M' ?_ (IW.look hI k)
  rcases hr with ⟨_, e⟩ | ⟨_, e⟩ <;> rw [e] <;> exact rg_small (by decide)
theorem p_owner (hI : IV M) {a : Int} (ha : rg a) (hq : ∀ r M', rg r → IV M' → Q r r M') : wp_CG_owner M a (fun r2 M1 => wp_Mo_owner M1 a (fun r4 M3 => Q r2 r4 M3) thr2) thr := by
  obtain ⟨T, n, w, st, Y, hI⟩ := hI
  obtain ⟨g, m, lk⟩ := hI.2.1.lk
  refine l_owner lk hI.2.2.2.1 ha (fun r hr => hI.2.2.1.owner hI.2.2.2.2 ha (fun r' M' hr' k => ?_))
  rw [aow_u hr' hr]
  refine hq _ M' ?_ (IW.look hI k)
  rcases hr with ⟨_, ⟨e, _⟩ | ⟨e, _⟩⟩ | ⟨_, e⟩ <;> rw [e] <;> exact rg_small (by decide)
theorem p_choice (hI : IV M) {a b : Int} (ha : rg a) (hb : rg b) (hq : ∀ r M', rg r → IV M' → Q r r M') : wp_CG_choice M a b (fun r2 M1 => wp_Mo_choice M1 a b (fun r4 M3 => Q r2 r4 M3) thr2) thr := by
  obtain ⟨T, n, w, st, Y, hI⟩ := hI
  obtain ⟨g, m, lk⟩ := hI.2.1.lk
  refine l_choice lk hI.2.2.2.1 ha hb (fun r hr => hI.2.2.1.choice hI.2.2.2.2 ha hb (fun r' M' hr' k => ?_))
  rw [ach_u hr' hr]
  refine hq _ M' ?_ (IW.look hI k)
  rcases hr with ⟨c, h1, e⟩ | ⟨_, e⟩
  · have hc := h1.2.1
    have hw := (hI.2.2.2.1.a1 (by have := h1.1.1; omega)).2.w.c10
    rw [e]; exact rg_small (by omega)
  · rw [e]; exact rg_small (by decide)
theorem p_branch (hI : IV M) {a b d : Int} (ha : rg a) (hb : rg b) (hd : rg d) (hq : ∀ r r' M', IV M' → Q r r' M') : wp_CG_branch M a b d (fun r2 M1 => wp_Mo_branch M1 a b d (fun r4 M3 => Q r2 r4 M3) thr2) thr := by
  obtain ⟨T, n, w, st, Y, hI⟩ := hI
  obtain ⟨g, m, lk⟩ := hI.2.1.lk
  exact l_branch lk ha hb hd (fun _ => hI.2.2.1.branch ha hb hd (fun _ M' k => hq _ _ M' (IW.look hI k)))
theorem p_upper (hI : IV M) {a : Int} (ha : rg a) (h0 : ∀ r M', IV M' → M' 331 0 = 0 → jwl (M' 362 0) = jwl r → Q 0 r M') (h1 : ∀ k r M', k = 1 ∨ k = 2 → IV M' → M' 331 0 = k → Q k r M') : wp_La_upper M a (fun r2 M1 => wp_Mo_upper M1 a (fun r4 M3 => Q r2 r4 M3) thr) := by
  obtain ⟨T, n, w, st, Y, hI⟩ := hI
  unfold wp_La_upper
  refine l_upper hI.2.1 hI.2.2.2.1 ha (fun i e hi hv hx M2 e2 => (u362 hI e2).2.2.1.upper (u362 hI e2).2.2.2.2 ha (fun M3 k q => ?_) (fun M3 j ej k _ _ z => h0 _ M3 (IW.look (u362 hI e2) k) z ?_)) (fun hn => Or.inl ⟨rfl, hI.2.2.1.upper hI.2.2.2.2 ha (fun M3 k q => ?_) (fun M3 j ej k hv _ z => absurd hv hn)⟩) (fun hv hn => Or.inr ⟨rfl, hI.2.2.1.upper hI.2.2.2.2 ha (fun M3 k q => ?_) (fun M3 j ej k _ hj z => absurd (by omega) hn)⟩)
  · exfalso
    rcases q with ⟨q, _⟩ | ⟨_, q, _⟩
    · exact q hv
    · exact q (by omega)
  · have ej2 : j = i := by omega
    subst ej2
    have v1 := (hI.2.2.2.1.f hv.1).2.2.2.2.2 hv.2
    have v2 := (hI.2.2.2.2.f hv.1).2.2.2 (Int.le_of_lt hv.2)
    have eq := (VX_u v1 v2 j hx).1
    rw [k.cell 362 (by decide), e2, fu_at, if_pos rfl, fu_off _ _ _ (by decide), eq, jwl_jwl]
  · rcases q with ⟨_, q⟩ | ⟨q, _⟩
    · exact h1 1 _ M3 (Or.inl rfl) (IW.look hI k) q
    · exact absurd q hn
  · rcases q with ⟨q, _⟩ | ⟨_, _, q⟩
    · exact absurd hv q
    · exact h1 2 _ M3 (Or.inr rfl) (IW.look hI k) q
theorem p_lower (hI : IV M) {a : Int} (ha : rg a) (h0 : ∀ r M', IV M' → M' 331 0 = 0 → jwl (M' 362 0) = jwl r → Q 0 r M') (h1 : ∀ k r M', k = 1 ∨ k = 2 → IV M' → M' 331 0 = k → Q k r M') : wp_La_lower M a (fun r2 M1 => wp_Mo_lower M1 a (fun r4 M3 => Q r2 r4 M3) thr) := by
  obtain ⟨T, n, w, st, Y, hI⟩ := hI
  unfold wp_La_lower
  refine l_lower hI.2.1 hI.2.2.2.1 ha (fun i e hi hv hx M2 e2 => (u362 hI e2).2.2.1.lower (u362 hI e2).2.2.2.2 ha (fun M3 k q => ?_) (fun M3 j ej k _ _ z => h0 _ M3 (IW.look (u362 hI e2) k) z ?_)) (fun hn => Or.inl ⟨rfl, hI.2.2.1.lower hI.2.2.2.2 ha (fun M3 k q => ?_) (fun M3 j ej k hv _ z => absurd hv hn)⟩) (fun hv hn => Or.inr ⟨rfl, hI.2.2.1.lower hI.2.2.2.2 ha (fun M3 k q => ?_) (fun M3 j ej k _ hj z => absurd (by omega) hn)⟩)
  · exfalso
    rcases q with ⟨q, _⟩ | ⟨_, q, _⟩
    · exact q hv
    · exact q (by omega)
  · have ej2 : j = i := by omega
    subst ej2
    have v1 := (hI.2.2.2.1.f hv.1).2.2.2.2.2 hv.2
    have v2 := (hI.2.2.2.2.f hv.1).2.2.2 (Int.le_of_lt hv.2)
    have eq := (VX_u v1 v2 j hx).2
    rw [k.cell 362 (by decide), e2, fu_at, if_pos rfl, fu_off _ _ _ (by decide), eq, jwl_jwl]
  · rcases q with ⟨_, q⟩ | ⟨q, _⟩
    · exact h1 1 _ M3 (Or.inl rfl) (IW.look hI k) q
    · exact absurd q hn
  · rcases q with ⟨q, _⟩ | ⟨_, _, q⟩
    · exact absurd hv q
    · exact h1 2 _ M3 (Or.inr rfl) (IW.look hI k) q
theorem p_good (hI : IV M) {a : Int} (ha : rg a) (hq : ∀ r r' M', IV M' → Q r r' M') : wp_La_good M a (fun r2 M1 => wp_Mo_good M1 a (fun r4 M3 => Q r2 r4 M3) thr) := by
  obtain ⟨T, n, w, st, Y, hI⟩ := hI
  unfold wp_La_good
  exact l_good hI.2.1 hI.2.2.2.1 ha (fun i e hi hv hx rx => ⟨rx, fun M2 e2 => (u362 hI e2).2.2.1.good (u362 hI e2).2.2.2.2 ha (fun M3 k _ => hq _ _ M3 (IW.look (u362 hI e2) k)) (fun M3 _ _ k _ _ _ => hq _ _ M3 (IW.look (u362 hI e2) k))⟩) (fun _ => Or.inl ⟨rfl, hI.2.2.1.good hI.2.2.2.2 ha (fun M3 k _ => hq _ _ M3 (IW.look hI k)) (fun M3 _ _ k _ _ _ => hq _ _ M3 (IW.look hI k))⟩) (fun _ _ => Or.inr ⟨rfl, hI.2.2.1.good hI.2.2.2.2 ha (fun M3 k _ => hq _ _ M3 (IW.look hI k)) (fun M3 _ _ k _ _ _ => hq _ _ M3 (IW.look hI k))⟩)
end Pairs
end Pu_ck
