set_option maxRecDepth 10000
section Pu_cve
/-! The class's game is the one that was found; what choosing may change. -/
section Cz
variable {g m : Nat} {post : Int → fm_M → Prop} {thr : String → fm_M → Prop}
theorem CV_of {Y : Ga} {X : Xs} {M : fm_M} (V : VS g m M) (hy : CY Y g M) (C : CFd Y X M) (o : omb Y M) (yg : YG Y) (D : xok X) (hl : ∀ i c, i < X.1 → c < Y.C → ene Y (X.2 i) c = true → (∀ b, b < Y.nb c → M (300 + i) (4 * c + b) = tov Y X i c b) ∧ nbt M i c (Y.nb c)) : CV g m (HG Y X) M := by
  have hC := hy.w.c10
  have hmC : m = Y.C := by have a := hy.c; have b := V.hm; omega
  have h8 := D.2.2
  refine ⟨V, C.n.symm, HG_wf yg (by have := D.2.1; omega), fun i hi => ?_, fun i c hi hc => ?_, fun i hi => ?_, fun i hi => C.tg i hi, fun i c hi hc => hy.nb c (HG_lt hc), fun i c hi hc => hy.ws c (HG_lt hc), fun i c hi hc => (yg c (HG_lt hc)).2.2, fun i c b hi hc hb => hy.wt c b (HG_lt hc) hb, fun i c b hi hc ha hb => ?_, fun i c hi hc ha => ?_, fun i hi hc => ?_, fun i c hi hc => (yg c (HG_lt hc)).1⟩
  · by_cases e : ∃ c, c < Y.C ∧ ene Y (X.2 i) c = true
    · rw [HG_cc e, hmC]; exact Nat.le_refl _
    · rw [HG_cc0 e]; omega
  · rw [C.en i hi c hc]
    constructor
    · intro ⟨a, b⟩
      exact ⟨by rw [HG_cc ⟨c, a, b⟩]; exact a, b⟩
    · intro ⟨a, b⟩
      exact ⟨HG_lt a, b⟩
  · exact om_max C o hC V.m10 (V.fb.en i (by rw [C.n]; exact Int.ofNat_lt.mpr hi)) hi
  · exact (hl i c hi (HG_lt hc) ha).1 b hb
  · have q := hl i c hi (HG_lt hc) ha
    refine ⟨q.2.1, fun j hj => (q.2.2 j hj).trans ⟨fun ⟨b, b1, b2⟩ => ⟨b, b1, ?_⟩, fun ⟨b, b1, b2⟩ => ⟨b, b1, ?_⟩⟩⟩
    · rw [q.1 b b1] at b2
      exact Int.ofNat_inj.mp b2
    · rw [q.1 b b1]
      exact congrArg Int.ofNat b2
  · obtain ⟨c, c1, c2⟩ := HG_ex hc
    exact ⟨c, by rw [HG_cc ⟨c, c1, c2⟩]; exact c1, c2⟩
/-- from what linking lays down -/
theorem CV_l {Y : Ga} {X : Xs} {M1 M2 : fm_M} (hg : g = 4 ∨ g = 143) (hy : CY Y g M1) (C : CFd Y X M1) (D : xok X) {i c : Nat} (hi : i < X.1) (hc : c < Y.C) (h : lal M1 M2 g i c) : (∀ b, b < Y.nb c → M2 (300 + i) (4 * c + b) = tov Y X i c b) ∧ nbt M2 i c (Y.nb c) := by
  have hnb := hy.nb c hc
  have e : (M1 (g + (7 + 13 * c)) 3).toNat = Y.nb c := by rw [hnb]; rfl
  have hn := C.n
  refine ⟨fun b hb => ?_, by rw [← e]; exact h.2⟩
  obtain ⟨l1, l2, l3⟩ := h.1 b (by rw [hnb]; exact Int.ofNat_lt.mpr hb)
  have hj : (M2 (300 + i) (4 * c + b)).toNat < X.1 := by omega
  have v : ∀ v, v < 3 → X.2 (M2 (300 + i) (4 * c + b)).toNat v = Y.nx c b (X.2 i) v := fun v hv => by
    have q := l3 v hv
    rw [C.st _ v hj hv] at q
    rw [q]
    show folr M1 g (g + (12 + 13 * c + 2 * b)) (M1 (281 + i)) v = _
    rw [folr_c (r' := X.2 i) (fun w hw => C.st i w hi hw)]
    exact hy.nx c b hc hb _ (C.ok i hi) v hv
  have t := tov_eq (i := i) (c := c) (b := b) D.1 hj ⟨v 0 (by omega), v 1 (by omega), v 2 (by omega)⟩
  rw [t]; omega
/-- what choosing may change -/
def gf (M M' : fm_M) : Prop := ∀ a, a ≠ 328 → a ≠ 329 → a ≠ 330 → M' a = M a
theorem gf.refl {M : fm_M} : gf M M := fun _ _ _ _ => rfl
theorem gf.tr {M M1 M2 : fm_M} (h : gf M M1) (h2 : gf M1 M2) : gf M M2 := fun a a1 a2 a3 => by rw [h2 a a1 a2 a3, h a a1 a2 a3]
theorem gf.u {M M1 : fm_M} (h : gf M M1) {a p : Nat} {v : Int} (ha : a = 328 ∨ a = 329 ∨ a = 330) : gf M (fm_u M1 a p v) := fun q a1 a2 a3 => by rw [fu_off _ _ _ (by omega)]; exact h q a1 a2 a3
theorem gf.vf {M M' : fm_M} (h : gf M M') : vf M M' := fun a ha => h a (by omega) (by omega) (by omega)
theorem u_chooseForMax {M : fm_M} (h : VS g m M) (ha : alr M) {i : Nat} (hi : (i : Int) < M 142 1) {ends : Int} (he : rg ends) (hp : ∀ M', gf M M' → alr M' → post 0 M') : wp_Go_chooseForMax M i ends post thr := by
  have hcn := h.fb.cnt
  have hm10 := h.m10
  have t := tcG h.g1.gg
  unfold wp_Go_chooseForMax
  rw [Int.toNat_natCast]
  refine ⟨by omega, fun M0 e0 => ?_⟩
  have hall : rg ((jshl 1 (M 142 1)) - 1) := by
    have : ∀ n : Fin 9, rg (jshl 1 (n.1 : Int) - 1) := by unfold rg; decide
    have h2 := this ⟨(M 142 1).toNat, by omega⟩
    simp only at h2
    rw [show (((M 142 1).toNat : Nat) : Int) = M 142 1 by omega] at h2; exact h2
  refine ⟨fun M' v4 v5 v6 => rg v4 ∧ ∃ c : Nat, v6 = c ∧ c ≤ m ∧ gf M M' ∧ alr M' ∧ rg (M' 330 i), fun _ _ _ v6 => (10 - v6).toNat, ⟨hall, 0, rfl, by omega, by rw [e0]; exact gf.refl.u (by omega), fun j hj => ⟨by rw [e0, fu_off _ _ _ (by decide)]; exact (ha j hj).1, by rw [e0, fu_at]; split; exact rg_small (by decide); exact (ha j hj).2⟩, by rw [e0, fu_at, if_pos rfl]; exact rg_small (by decide)⟩, ?_⟩
  rintro M1 v4 v5 v6 ⟨rv4, c, rfl, hc, f1, a1, r1⟩
  have h1 := h.vf f1.vf
  unfold C_Go_chooseForMax_31
  rw [h1.g1.gm, h1.hm, Int.toNat_natCast]
  refine ⟨t.1, rg_small (by omega), rg_small (by omega), fun _ => hp M1 f1 a1, fun h4 => ⟨by omega, r1, fun _ => hp M1 f1 a1, fun _ => x_hasBit (fun hb => ⟨rg_small (by decide), fun _ => ⟨⟨rv4, c + 1, by omega, by omega, f1, a1, r1⟩, by dsimp only; omega⟩, fun h => absurd rfl h⟩) (fun hb => ⟨rg_small (by decide), fun h => absurd h (by decide), fun _ M2 e2 => ?_⟩)⟩⟩
  have f2 : gf M M2 := by rw [e2]; exact f1.u (by omega)
  have h2 := h.vf f2.vf
  have a2 : alr M2 := fun j hj => by
    refine ⟨?_, by rw [e2, fu_off _ _ _ (by decide)]; exact (a1 j hj).2⟩
    rw [e2, fu_at]; split
    · exact rg_jshl _ _
    · exact (a1 j hj).1
  have n2 : M2 142 = M 142 := f2 142 (by omega) (by omega) (by omega)
  refine v_drawnTo h2 at327 (fun j hj => (a2 j (by rw [n2] at hj; omega)).1) he (fun dr M3 x3 rdr _ => ?_)
  have f3 : gf M M3 := f2.tr (fun a a1 a2 a3 => x3 a (by omega))
  have a3 : alr M3 := fun j hj => by rw [x3 328 (by decide), x3 330 (by decide)]; exact a2 j hj
  have r3 : rg (M3 330 i) := by rw [x3 330 (by decide), e2, fu_off _ _ _ (by decide)]; exact r1
  refine ⟨rdr, rv4, fun _ => ⟨⟨rv4, c + 1, by omega, by omega, f3, a3, r3⟩, by dsimp only; omega⟩, fun _ M4 e4 => ⟨⟨rv4, c + 1, by omega, by omega, by rw [e4]; exact f3.u (by omega), fun j hj => ⟨by rw [e4, fu_off _ _ _ (by decide)]; exact (a3 j hj).1, by rw [e4, fu_at]; split; exact rg_small (by omega); exact (a3 j hj).2⟩, by rw [e4, fu_at, if_pos rfl]; exact rg_small (by omega)⟩, by dsimp only; omega⟩⟩
theorem u_choose {M : fm_M} (h : VS g m M) (ha : alr M) (hp : ∀ M', gf M M' → alr M' → post 0 M') : wp_Go_choose M post thr := by
  have hcn := h.fb.cnt
  refine ⟨fun M' v3 => ∃ i : Nat, v3 = i ∧ (i : Int) ≤ M 142 1 ∧ gf M M' ∧ alr M', fun _ v3 => (M 142 1 - v3).toNat, ⟨0, rfl, by omega, gf.refl, ha⟩, ?_⟩
  rintro M1 v3 ⟨i, rfl, hi, f1, a1⟩
  have h1 := h.vf f1.vf
  have n1 : M1 142 = M 142 := f1 142 (by omega) (by omega) (by omega)
  unfold C_Go_choose_2
  rw [n1]
  refine ⟨rg_small (by omega), rg_small (by omega), fun h4 => ?_, fun h4 => v_tight h1 (by rw [n1]; omega) (fun r rr => ⟨by omega, fun M2 e2 => ⟨⟨i + 1, by omega, by omega, by rw [e2]; exact f1.u (by omega), fun j hj => ?_⟩, by dsimp only; omega⟩⟩)⟩
  · refine ⟨fun M' v4 v5 => rg v4 ∧ ∃ i : Nat, v5 = i ∧ (i : Int) ≤ M 142 1 ∧ gf M M' ∧ alr M', fun _ _ v5 => (M 142 1 - v5).toNat, ⟨rg_jor _ _, 0, rfl, by omega, f1, a1⟩, ?_⟩
    rintro M2 v4 v5 ⟨rv4, k, rfl, hk, f2, a2⟩
    have h2 := h.vf f2.vf
    have n2 : M2 142 = M 142 := f2 142 (by omega) (by omega) (by omega)
    unfold C_Go_choose_58
    rw [n2]
    refine ⟨rg_small (by omega), rg_small (by omega), fun _ => hp M2 f2 a2, fun h5 => ?_⟩
    have hk2 : (k : Int) < M2 142 1 := by rw [n2]; omega
    have put : ∀ z : Int, rg z → ∀ M3 : fm_M, M3 = fm_u M2 330 (k : Int).toNat z → (fun M'_1 v4' v5' => (rg v4' ∧ ∃ i : Nat, v5' = i ∧ (i : Int) ≤ M 142 1 ∧ gf M M'_1 ∧ alr M'_1) ∧ (M 142 1 - v5').toNat < (M 142 1 - (k : Int)).toNat : fm_M → Int → Int → Prop) M3 v4 ((k : Int) + 1) := fun z rz M3 e3 => ⟨⟨rv4, k + 1, by omega, by omega, by rw [e3]; exact f2.u (by omega), fun j hj => ⟨by rw [e3, fu_off _ _ _ (by decide)]; exact (a2 j hj).1, by rw [e3, fu_at]; split; exact rz; exact (a2 j hj).2⟩⟩, by omega⟩
    exact v_isOfMax h2 hk2 (fun _ => ⟨rg_small (by decide), fun _ => ⟨by omega, v_firstBit (fun z hz _ M3 e3 => put z (rg_small (by omega)) M3 e3) (fun _ M3 e3 => put (-1) (rg_small (by decide)) M3 e3)⟩, fun h => absurd rfl h⟩) (fun _ => ⟨rg_small (by decide), fun h => absurd h (by decide), fun _ => u_chooseForMax h2 a2 hk2 rv4 (fun M3 f3 a3 => ⟨⟨rv4, k + 1, by omega, by omega, f2.tr f3, a3⟩, by dsimp only; omega⟩)⟩)
  · refine ⟨?_, by rw [e2, fu_off _ _ _ (by decide)]; exact (a1 j hj).2⟩
    rw [e2, Int.toNat_natCast, fu_at]; split
    · exact rr
    · exact (a1 j hj).1
end Cz
end Pu_cve
