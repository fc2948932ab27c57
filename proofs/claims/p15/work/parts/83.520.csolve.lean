set_option maxRecDepth 10000
section Pu_ch
section Calls3
variable {T : Nat → Int} {n : Nat} {w : Int} {post : Int → fm_M → Prop} {thr : String → fm_M → Prop}
/-- the class solves -/
theorem CI.solve {M : fm_M} (h : CI T n w M) {st : Nat} {Y : Ga} (hx : CX st Y M) (yg : st ≠ 0 → YG Y) (ko : ∀ r M', st ≠ 0 → r = (SR Y).2.2.2 → rg r → (∀ a, 331 ≤ a → M' a = M a) → CI T n w M' → CX 2 Y M' → post r M') (kb : st = 0 → thr "java/lang/IllegalStateException" M) : wp_CG_solve M post thr := by
  obtain ⟨g, k, hgk, e1, e2, c1, c2, F⟩ := h.gs
  have hk : k = 4 ∨ k = 143 := by omega
  have G : CG1 k M := ⟨hk, by rw [e2]; rfl, c2⟩
  obtain ⟨m, hm, hm10⟩ := G.cnt
  unfold wp_CG_solve
  refine ⟨rg_small (by rcases h.b5 with e | e <;> rw [e] <;> decide), fun hne5 => ?_, fun h5 => kb ?_⟩
  rotate_left
  · apply Classical.byContradiction; intro hs; rw [(hx.a1 hs).1] at h5; exact absurd h5 (by decide)
  have hst : st ≠ 0 := fun hs => hne5 (hx.a0 hs)
  have hy : CY Y k M := by have := (hx.a1 hst).2; rw [e2, Int.toNat_natCast] at this; exact this
  -- what is kept of all
  have back : ∀ M' : fm_M, (∀ a, a ≤ 140 ∨ (143 ≤ a ∧ a ≤ 280) ∨ 331 ≤ a → a ≠ 0 → M' a = M a) → (∀ b, b ≠ 6 → M' 0 b = M 0 b) → (M' 0 6 = 0 ∨ M' 0 6 = 1) → M' 142 0 = k → FB m M' → nxr M' → alr M' → CI T n w M' := fun M' o b0 b6 z F' N' A' => by
    refine ⟨h.t, by rw [o 2 (by omega) (by omega)]; exact h.len, by rw [o 3 (by omega) (by omega)]; exact h.ch, ⟨g, k, hgk, by rw [o 1 (by omega) (by omega)]; exact e1, z, c1.same (fun a h1 h2 => o a (by omega) (by omega)), c2.same (fun a h1 h2 => o a (by omega) (by omega)), ?_⟩, N', A', by rw [b0 5 (by decide)]; exact h.b5, b6, by rw [o 1 (by omega) (by omega)]; exact h.wr⟩
    rw [o k (by omega) (by omega), hm]; exact F'
  refine x_explore hy G hm hm10 F.val F.com (fun r M1 cr1 f1 F1 rr hk1 => ?_)
  have g1 := G.e2 f1
  have m1 : M1 k 4 = m := by rw [f1.cell k (by omega) (by omega) (by omega) (by omega)]; exact hm
  have N1 : nxr M1 := fun i x hi hx => by rw [f1.cell _ (by omega) (by omega) (by omega) (by omega)]; exact h.nx i x hi hx
  refine y_link g1 m1 hm10 F1 N1 (fun M2 f2 F2 N2 K2 => ?_)
  have o2 : ∀ a, a ≤ 140 ∨ (143 ≤ a ∧ a ≤ 280) ∨ 309 ≤ a → M2 a = M a := fun a ha => by rw [f2.cell a (by omega) (by omega) (by omega), f1.cell a (by omega) (by omega) (by omega) (by omega)]
  have z2 : M2 142 0 = k := by rw [f2.cell 142 (by decide) (by decide) (by decide), f1.gm]; exact e2
  have A2 : alr M2 := fun i hi => by rw [o2 328 (by omega), o2 330 (by omega)]; exact h.al i hi
  have n142 : M2 142 = M1 142 := f2.cell 142 (by decide) (by decide) (by decide)
  obtain ⟨q1, q2, q3, q4, q5⟩ := cr1
  -- what is kept of the game and its states
  have xb : ∀ M' : fm_M, (∀ a, (4 ≤ a ∧ a ≤ 140) ∨ (142 ≤ a ∧ a ≤ 289) → M' a = M2 a) → M' 0 5 = 1 → (M' 0 6 = 1 ↔ 0 < r) → (0 < r → VX Y (M' 324) (M' 325) (M' 330)) → CX 2 Y M' := fun M' o h5 h6 h7 => by
    refine ⟨fun hs => absurd hs (by decide), fun _ => ⟨h5, ?_⟩, fun hs => absurd rfl hs, fun _ => ⟨q1.same (by rw [o 142 (by omega), n142]) (by rw [o 142 (by omega), n142]) (fun a h1 h2 => by rw [o a (by omega), f2.cell a (by omega) (by omega) (by omega)]), by rw [o 142 (by omega), n142]; exact q2, by rw [o 142 (by omega), n142]; exact q3, by unfold omb; rw [o 142 (by omega), n142]; exact q5, by rw [h6, q4], fun hh => h7 (by rw [q4]; exact hh)⟩⟩
    rw [o 142 (by omega), z2, Int.toNat_natCast]
    exact hy.same (fun a h1 h2 => by rw [o a (by omega), o2 a (by omega)])
  have h51 : M 0 5 = 1 := (hx.a1 hst).1
  -- with values or without
  have fin : ∀ s0 : Int, (s0 = 0 ∨ s0 = 1) → (s0 = 1 ↔ 0 < r) → B_CG_solve_42 post thr M2 r s0 := by
    intro s0 hs0 hpi
    have hpos := hpi.mp
    refine ⟨hs0, fun M3 e3 => ?_⟩
    have a3 : ∀ a, a ≠ 0 → M3 a = M2 a := fun a ha => by rw [e3]; exact fu_off _ _ _ ha
    have b3 : ∀ b, b ≠ 6 → M3 0 b = M 0 b := fun b hb => by rw [e3, fu_at, if_neg hb, o2 0 (by omega)]
    have s3 : M3 0 6 = s0 := by rw [e3, fu_at, if_pos rfl]
    have F3 : FB m M3 := F2.same (fun a ha => a3 a (by omega))
    have N3 : nxr M3 := fun i x hi hx => by rw [a3 _ (by omega)]; exact N2 i x hi hx
    have A3 : alr M3 := fun i hi => by rw [a3 328 (by decide), a3 330 (by decide)]; exact A2 i hi
    have o3 : ∀ a, a ≤ 140 ∨ (143 ≤ a ∧ a ≤ 280) ∨ 331 ≤ a → a ≠ 0 → M3 a = M a := fun a ha h0 => by rw [a3 a h0, o2 a (by omega)]
    have z3 : M3 142 0 = k := by rw [a3 142 (by decide)]; exact z2
    rw [s3]
    refine ⟨rg_small (by omega), fun hz0 => ko r M3 hst q4 rr (fun a ha => o3 a (by omega) (by omega)) (back M3 o3 b3 (by rw [s3]; exact hs0) z3 F3 N3 A3) (xb M3 (fun a ha => a3 a (by omega)) (by rw [b3 5 (by decide)]; exact h51) (by rw [s3]; exact hpi) (fun hh => by have := hpi.mpr hh; omega)), fun hne => ?_⟩
    have hr : 0 < r := hpos (by omega)
    obtain ⟨lk1, K1⟩ := hk1 hr
    have n2 : M2 142 = M1 142 := f2.cell 142 (by decide) (by decide) (by decide)
    have LK := K2 K1
    have nx2 : nxt M2 k := fun i c b a1 a2 a3 a4 => by
      rw [n2] at a1 ⊢
      rw [f2.cell k (by omega) (by omega) (by omega)] at a2
      rw [f2.cell 289 (by decide) (by decide) (by decide)] at a3
      rw [m1] at a2
      rw [f2.cell _ (by omega) (by omega) (by omega)] at a4
      have q := (LK i c a1 (by rw [m1]; exact a2) a3).1 b a4
      exact ⟨q.1, q.2.1⟩
    have V2 : VS k m M2 := ⟨g1.lf f2, by rw [f2.cell k (by omega) (by omega) (by omega)]; exact m1, hm10, F2, by rw [n2]; exact lk1, nx2⟩
    have V3 : VS k m M3 := V2.same (fun a ha => a3 a (by omega))
    have hy1 : CY Y k M1 := hy.same (fun a h1 h2 => f1.cell a (by omega) (by omega) (by omega) (by omega))
    have hy3 : CY Y k M3 := hy1.same (fun a h1 h2 => by rw [a3 a (by omega), f2.cell a (by omega) (by omega) (by omega)])
    have C3 : CFd Y (SR Y).1 M3 := q1.same (by rw [a3 142 (by decide), n142]) (by rw [a3 142 (by decide), n142]) (fun a h1 h2 => by rw [a3 a (by omega), f2.cell a (by omega) (by omega) (by omega)])
    have hmC : m = Y.C := by have a := hy.c; omega
    have hC10 := hy.w.c10
    have h8 := (SR_ok Y).2.2
    have K3 : CV k m (HG Y (SR Y).1) M3 := CV_of V3 hy3 C3 (by unfold omb; rw [a3 142 (by decide), n142]; exact q5) (yg hst) (SR_ok Y) (fun i c hi hc he => by
      have l := CV_l (M2 := M2) hk hy1 q1 (SR_ok Y) hi hc (LK i c (by rw [q1.n]; omega) (by rw [m1]; omega) ((q1.en i hi c (by omega)).mpr ⟨hc, he⟩))
      refine ⟨fun b hb => by rw [a3 (300 + i) (by omega)]; exact l.1 b hb, ?_⟩
      unfold nbt
      rw [a3 (291 + i) (by omega), a3 (300 + i) (by omega)]; exact l.2)
    refine w_compute K3 (fun M4 f4 s4 fn4 fr4 => ?_)
    have V4 := V3.vg f4
    have K4 := K3.vg f4
    have A4 : alr M4 := fun i hi => by rw [f4 328 (by omega), f4 330 (by omega)]; exact A3 i hi
    refine u_choose V4 A4 (fun M5 f5 A5 => ?_)
    have V5 := V4.vf f5.vf
    have f45 : vf M3 M5 := f4.vf.tr f5.vf
    have vx : VX Y (M5 324) (M5 325) (M5 330) := by
      obtain ⟨z1, z2, z3⟩ := FN_sol K4 s4 fn4
      refine ⟨HG Y (SR Y).1, M4 322, M4 312 2, K4.W, Cor.rfl, z1, z2, z3, fun i hi => ?_⟩
      rw [f5 324 (by decide) (by decide) (by decide), f5 325 (by decide) (by decide) (by decide)]
      exact fr4 i hi
    refine ko r M5 hst q4 rr (fun a ha => by rw [f45 a (by omega)]; exact o3 a (by omega) (by omega)) (back M5 (fun a ha h0 => by rw [f45 a (by omega)]; exact o3 a ha h0) (fun b hb => by rw [f45 0 (by omega)]; exact b3 b hb) (by rw [f45 0 (by omega), s3]; exact hs0) (by rw [f45 142 (by omega)]; exact z3) V5.fb (fun i x hi hx => by rw [f45 _ (by omega)]; exact N3 i x hi hx) A5) (xb M5 (fun a ha => by rw [f45 a (by omega), a3 a (by omega)]) (by rw [f45 0 (by omega), b3 5 (by decide)]; exact h51) (by rw [f45 0 (by omega), s3]; exact hpi) (fun _ => vx))
  refine ⟨rr, fun h4 => fin 0 (Or.inl rfl) ⟨fun h => absurd h (by decide), fun h => by omega⟩, fun h4 => fin 1 (Or.inr rfl) ⟨fun _ => by omega, fun _ => rfl⟩⟩
end Calls3
end Pu_ch
