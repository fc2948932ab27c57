set_option maxRecDepth 10000
section Pu_L
/-! What every number of the reference keeps to. -/
def RBt : List (Nat × Nat × Int × Int) := [(333, 6, 0, 9), (334, 6, 0, 9), (335, 2, 0, 10), (336, 20, 0, 1), (337, 20, 0, 4), (338, 20, 0, 6), (339, 80, 0, 6), (340, 22, 0, 4), (341, 88, 0, 65535), (342, 416, 0, 4), (343, 1664, 0, 102), (344, 1664, 0, 1), (345, 24, 0, 9), (346, 8, 0, 1), (347, 8, 0, 1), (348, 80, 0, 9), (349, 8, 0, 10), (350, 320, -1, 7), (351, 3, 0, 9), (332, 200, 0, 65535)]
def RB (M : fm_M) : Prop := ∀ q ∈ RBt, ∀ x, x < q.2.1 → q.2.2.1 ≤ M q.1 x ∧ M q.1 x ≤ q.2.2.2
theorem RB.g {M : fm_M} (h : RB M) (c n : Nat) (a b : Int) (hq : (c, n, a, b) ∈ RBt) {x : Nat} (hx : x < n) : a ≤ M c x ∧ M c x ≤ b := h _ hq x hx
theorem RB.o {M : fm_M} (h : RB M) {c : Nat} (hc : ∀ q ∈ RBt, q.1 ≠ c) (p : Nat) (v : Int) : RB (fm_u M c p v) := fun q hq x hx => by
  rw [fu_off _ _ _ (hc q hq)]; exact h q hq x hx
theorem RBu_uniq : ∀ q ∈ RBt, ∀ r ∈ RBt, q.1 = r.1 → q = r := by decide
theorem RB.u {M : fm_M} (h : RB M) (c n : Nat) (a b : Int) (hq : (c, n, a, b) ∈ RBt) (p : Nat) (v : Int) (hv : a ≤ v ∧ v ≤ b) : RB (fm_u M c p v) := fun q hq2 x hx => by
  by_cases e : q.1 = c
  · have : q = (c, n, a, b) := RBu_uniq q hq2 _ hq e
    subst this
    show a ≤ fm_u M c p v c x ∧ fm_u M c p v c x ≤ b
    rw [fu_at]; split
    · exact hv
    · exact h _ hq x hx
  · rw [fu_off _ _ _ e]; exact h q hq2 x hx
/-- a state's values -/
def rho (M : fm_M) (i : Nat) : Nat → Int := fun v => M 345 (3 * i + v)
theorem rsu_c {M : fm_M} (h : RB M) {s : Nat} (hs : s < 416) {r r' : Nat → Int} (e : ∀ v, v < 3 → r v = r' v) : rsu M s r = rsu M s r' := by
  have h1 := h.g 342 416 0 4 (by decide) hs
  refine sm_congr (fun k hk => ?_)
  have h6 := h.g 343 1664 0 102 (by decide) (x := 4 * s + k) (by omega)
  unfold rit
  congr 1
  split
  · rfl
  · exact e _ (by omega)
theorem rhol_c {M : fm_M} (h : RB M) {G g : Nat} (hG : G ≤ 1) (hg : g ≤ 10) {r r' : Nat → Int} (e : ∀ v, v < 3 → r v = r' v) : rhol M G g r ↔ rhol M G g r' := by
  have h4 := h.g 340 22 0 4 (by decide) (x := 11 * G + g) (by omega)
  have key : ∀ r r' : Nat → Int, (∀ v, v < 3 → r v = r' v) → rhol M G g r → rhol M G g r' := fun r r' e hh k hk => by
    have := hh k hk
    rw [rsu_c h (by omega) e, rsu_c h (by omega) e] at this; exact this
  exact ⟨key r r' e, key r' r (fun v hv => (e v hv).symm)⟩
theorem spec_sumIn {M : fm_M} (h : RB M) {s i : Nat} (hs : s < 416) (hi : i < 8) {post : Int → fm_M → Prop} {thr : String → fm_M → Prop} (hp : ∀ r, -400 ≤ r ∧ r ≤ 400 → r = rsu M s (rho M i) → post r M) : wp_Mo_sumIn M s i post thr := by
  have h1 := h.g 342 416 0 4 (by decide) hs
  refine ⟨fun M' v3 v4 => M' = M ∧ ∃ k : Nat, v4 = 4 * s + k ∧ (k : Int) ≤ M 342 s ∧ -(99 * k) ≤ v3 ∧ v3 ≤ 99 * k ∧ v3 = sm k (fun x => rit M (4 * s + x) (rho M i)), fun _ _ v4 => (4 * s + 4 - v4).toNat, ⟨rfl, 0, by omega, by omega, by omega, by omega, rfl⟩, ?_⟩
  rintro M' v3 v4 ⟨rfl, k, rfl, hk, h3, h4, hv⟩
  unfold C_Mo_sumIn_7
  rw [Int.toNat_natCast]
  refine ⟨by omega, rg_small (by omega), rg_small (by omega), fun h5 => hp v3 (by omega) (by rw [hv]; unfold rsu; rw [show (M' 342 s).toNat = k by omega]), fun h5 => ⟨by omega, ?_⟩⟩
  have e : ((4 * (s : Int)) + (k : Int)).toNat = 4 * s + k := by omega
  rw [e]
  have h6 := h.g 343 1664 0 102 (by decide) (x := 4 * s + k) (by omega)
  have h7 := h.g 344 1664 0 1 (by decide) (x := 4 * s + k) (by omega)
  have fin : ∀ z : Int, 0 ≤ z ∧ z ≤ 99 → z = (if M' 343 (4 * s + k) < 100 then M' 343 (4 * s + k) else rho M' i (M' 343 (4 * s + k) - 100).toNat) → B_Mo_sumIn_63 s i post thr (fun M'_1 v3' v4' => (M'_1 = M' ∧ ∃ k : Nat, v4' = 4 * s + k ∧ (k : Int) ≤ M' 342 s ∧ -(99 * k) ≤ v3' ∧ v3' ≤ 99 * k ∧ v3' = sm k (fun x => rit M' (4 * s + x) (rho M' i))) ∧ (4 * s + 4 - v4').toNat < (4 * s + 4 - ((4 * s : Int) + k)).toNat) M' v3 (4 * s + k) z := by
    intro z hz hz2
    unfold B_Mo_sumIn_63
    rw [e]
    refine ⟨by omega, rg_small (by omega), fun h9 => ⟨⟨rfl, k + 1, by omega, by omega, by omega, by omega, ?_⟩, by omega⟩, fun h9 => ⟨⟨rfl, k + 1, by omega, by omega, by omega, by omega, ?_⟩, by omega⟩⟩
    · simp only [sm]; rw [← hv]; congr 1; unfold rit; rw [if_pos h9, ← hz2]; omega
    · simp only [sm]; rw [← hv]; unfold rit; rw [if_neg h9, ← hz2]; omega
  refine ⟨rg_small (by omega), fun h8 => ⟨by omega, fin _ ?_ ?_⟩, fun h8 => fin _ (by omega) (by rw [if_pos (by omega)])⟩
  · have := h.g 345 24 0 9 (by decide) (x := (3 * (i : Int) + M' 343 (4 * s + k) - 100).toNat) (by omega)
    omega
  · rw [if_neg (by omega)]; unfold rho; congr 1; omega
/-- the first k tests -/
def htl (M : fm_M) (G g i k : Nat) : Prop := ∀ k' : Nat, k' < k → tcm (M 341 (44 * G + 4 * g + k')) (rsu M (208 * G + 8 * g + 2 * k') (rho M i)) (rsu M (208 * G + 8 * g + 2 * k' + 1) (rho M i))
theorem spec_holds {M : fm_M} (h : RB M) (hg : M 331 6 = 0 ∨ M 331 6 = 1) {g i : Nat} (hgd : g ≤ 10) (hi : i < 8) {post : Int → fm_M → Prop} {thr : String → fm_M → Prop} (h0 : ¬ rhol M (M 331 6).toNat g (rho M i) → post 0 M) (h1 : rhol M (M 331 6).toNat g (rho M i) → post 1 M) : wp_Mo_holds M g i post thr := by
  obtain ⟨G, hG, hG1⟩ : ∃ G : Nat, M 331 6 = G ∧ G ≤ 1 := ⟨(M 331 6).toNat, by omega, by omega⟩
  rw [hG, Int.toNat_natCast] at h0 h1
  have e1 : (11 * (G : Int) + (g : Int)).toNat = 11 * G + g := by omega
  have ht := h.g 340 22 0 4 (by decide) (x := 11 * G + g) (by omega)
  refine ⟨fun M' v3 v4 => M' = M ∧ (v3 = 0 ∨ v3 = 1) ∧ ∃ k : Nat, v4 = k ∧ (k : Int) ≤ M 340 (11 * G + g) ∧ (v3 = 1 ↔ htl M G g i k), fun _ _ v4 => (4 - v4).toNat, ⟨rfl, Or.inr rfl, 0, rfl, by omega, fun _ k' hk' => by omega, fun _ => rfl⟩, ?_⟩
  rintro M' v3 v4 ⟨rfl, hv3, k, rfl, hk, hev⟩
  have rv : rg v3 := rg_small (by rcases hv3 with e | e <;> rw [e] <;> decide)
  unfold C_Mo_holds_5
  rw [hG, e1]
  refine ⟨by omega, rg_small (by omega), rg_small (by omega), fun h5 => ⟨hv3, ?_⟩, fun h5 => ?_⟩
  · rcases hv3 with e | e
    · rw [e]; refine h0 (fun hh => ?_)
      have := hev.mpr (fun k' hk' => hh k' (by omega)); omega
    · rw [e]; exact h1 (fun k' hk' => hev.mp e k' (by omega))
  have e2 : 208 * (G : Int) + 8 * (g : Int) + 2 * (k : Int) = ((208 * G + 8 * g + 2 * k : Nat) : Int) := by omega
  have e3 : 208 * (G : Int) + 8 * (g : Int) + 2 * (k : Int) + 1 = ((208 * G + 8 * g + 2 * k + 1 : Nat) : Int) := by omega
  rw [e3, e2]
  refine spec_sumIn h (by omega) hi (fun x hx ex => spec_sumIn h (by omega) hi (fun y hy ey => ?_))
  rw [hG]
  have e4 : (44 * (G : Int) + 4 * (g : Int) + (k : Int)).toNat = 44 * G + 4 * g + k := by omega
  rw [e4]
  have hs := h.g 341 88 0 65535 (by decide) (x := 44 * G + 4 * g + k) (by omega)
  have no : ∀ z : Int, (z = 0 ∨ z = 1) → (z = 1 ↔ v3 = 1 ∧ tcm (M' 341 (44 * G + 4 * g + k)) x y) → (fun M'_1 v3' v4' => (M'_1 = M' ∧ (v3' = 0 ∨ v3' = 1) ∧ ∃ k : Nat, v4' = k ∧ (k : Int) ≤ M' 340 (11 * G + g) ∧ (v3' = 1 ↔ htl M' G g i k)) ∧ (4 - v4').toNat < (4 - (k : Int)).toNat : fm_M → Int → Int → Prop) M' z ((k : Int) + 1) := fun z hz hzz => by
    refine ⟨⟨rfl, hz, k + 1, by omega, by omega, ?_⟩, by omega⟩
    rw [hzz, hev, ex, ey]
    exact ⟨fun hh k' hk' => by
      by_cases e : k' = k
      · rw [e]; exact hh.2
      · exact hh.1 k' (by omega), fun hh => ⟨fun k' hk' => hh k' (by omega), hh k (by omega)⟩⟩
  have t0 : ¬ tcm (M' 341 (44 * G + 4 * g + k)) x y → (fun M'_1 v3' v4' => (M'_1 = M' ∧ (v3' = 0 ∨ v3' = 1) ∧ ∃ k : Nat, v4' = k ∧ (k : Int) ≤ M' 340 (11 * G + g) ∧ (v3' = 1 ↔ htl M' G g i k)) ∧ (4 - v4').toNat < (4 - (k : Int)).toNat : fm_M → Int → Int → Prop) M' 0 ((k : Int) + 1) := fun ht => no 0 (Or.inl rfl) ⟨fun h => absurd h (by decide), fun h => absurd h.2 ht⟩
  have t1 : v3 ≠ 0 → tcm (M' 341 (44 * G + 4 * g + k)) x y → (fun M'_1 v3' v4' => (M'_1 = M' ∧ (v3' = 0 ∨ v3' = 1) ∧ ∃ k : Nat, v4' = k ∧ (k : Int) ≤ M' 340 (11 * G + g) ∧ (v3' = 1 ↔ htl M' G g i k)) ∧ (4 - v4').toNat < (4 - (k : Int)).toNat : fm_M → Int → Int → Prop) M' 1 ((k : Int) + 1) := fun hn ht => no 1 (Or.inr rfl) ⟨fun _ => ⟨by omega, ht⟩, fun _ => rfl⟩
  refine ⟨by omega, rv, fun hz => no 0 (Or.inl rfl) ⟨fun h => absurd h (by decide), fun h => by omega⟩, fun hz => ⟨rg_small (by omega), fun n1 => ⟨fun n2 => ⟨fun n3 => ⟨rg_small (by omega), rg_small (by omega), fun q => t0 (by unfold tcm; rw [if_neg n1, if_neg n2, if_neg n3]; omega), fun q => t1 hz (by unfold tcm; rw [if_neg n1, if_neg n2, if_neg n3]; omega)⟩, fun n3 => ⟨rg_small (by omega), rg_small (by omega), fun q => t0 (by unfold tcm; rw [if_neg n1, if_neg n2, if_pos n3]; omega), fun q => t1 hz (by unfold tcm; rw [if_neg n1, if_neg n2, if_pos n3]; omega)⟩⟩, fun n2 => ⟨rg_small (by omega), rg_small (by omega), fun q => t0 (by unfold tcm; rw [if_neg n1, if_pos n2]; omega), fun q => t1 hz (by unfold tcm; rw [if_neg n1, if_pos n2]; omega)⟩⟩, fun n1 => ⟨rg_small (by omega), rg_small (by omega), fun q => t0 (by unfold tcm; rw [if_pos n1]; omega), fun q => t1 hz (by unfold tcm; rw [if_pos n1]; omega)⟩⟩⟩
theorem rnx_c {M : fm_M} (h : RB M) {G c b v : Nat} (hG : G ≤ 1) (hc : c < 10) (hb : b < 4) (hv : v < 3) {r r' : Nat → Int} (e : ∀ v, v < 3 → r v = r' v) : rnx M G c b r v = rnx M G c b r' v := by
  unfold rnx; rw [rsu_c h (by omega) e, e v hv]
/-- a branch leads where it is said to -/
def ldq (M : fm_M) (j k b : Nat) : Prop := ∀ v, v < 3 → rho M (M 350 (40 * j + 4 * k + b)).toNat v = rnx M (M 331 6).toNat (M 348 (10 * j + k)).toNat b (rho M j) v
theorem ldq_same {M M' : fm_M} {j k b : Nat} (rb : RB M) (hG : (M 331 6).toNat ≤ 1) (hc : (M 348 (10 * j + k)).toNat < 10) (hb : b < 4) (e6 : M' 331 6 = M 331 6) (e : ∀ a, 333 ≤ a → a ≤ 344 → M' a = M a) (e350 : M' 350 (40 * j + 4 * k + b) = M 350 (40 * j + 4 * k + b)) (e348 : M' 348 (10 * j + k) = M 348 (10 * j + k)) (hj : ∀ v, v < 3 → rho M' j v = rho M j v) (ht : ∀ v, v < 3 → rho M' (M 350 (40 * j + 4 * k + b)).toNat v = rho M (M 350 (40 * j + 4 * k + b)).toNat v) (h : ldq M j k b) : ldq M' j k b := fun v hv => by
  rw [e350, e348, e6, ht v hv, h v hv, rnx_same e]
  exact rnx_c rb hG hc hb hv (fun w hw => (hj w hw).symm)
theorem ldq_cell {M M' : fm_M} (e : ∀ a, (333 ≤ a ∧ a ≤ 345) ∨ a = 348 ∨ a = 350 → M' a = M a) (e6 : M' 331 6 = M 331 6) {j k b : Nat} (h : ldq M j k b) : ldq M' j k b := fun v hv => by
  have hr : ∀ i, rho M' i = rho M i := fun i => by unfold rho; rw [e 345 (by omega)]
  rw [e 350 (by omega), e 348 (by omega), e6, hr, hr, rnx_same (fun a h1 h2 => e a (by omega))]
  exact h v hv
/-- on the way of the search: which ends of branches are known -/
def EX (M : fm_M) (P : Nat → Nat → Nat → Prop) : Prop :=
  (RB M) ∧
  (M 331 6 = 0 ∨ M 331 6 = 1) ∧
  (0 ≤ M 331 20 ∧ M 331 20 ≤ 8) ∧
  (∀ j k, j < (Gof M).n → k < (Gof M).cc j → M 348 (10 * j + k) < M 335 (M 331 6).toNat) ∧
  (∀ j, j < (Gof M).n → M 346 j ≠ 0 → M 349 j = 0) ∧
  (∀ j k b, j < (Gof M).n → k < (Gof M).cc j → b < (Gof M).nb j k → P j k b → 0 ≤ M 350 (40 * j + 4 * k + b) ∧ M 350 (40 * j + 4 * k + b) < M 331 20 ∧ ldq M j k b)
theorem EX.rb {M : fm_M} {P : Nat → Nat → Nat → Prop} (h_ : EX M P) : RB M := h_.1
theorem EX.hg {M : fm_M} {P : Nat → Nat → Nat → Prop} (h_ : EX M P) : M 331 6 = 0 ∨ M 331 6 = 1 := h_.2.1
theorem EX.hn {M : fm_M} {P : Nat → Nat → Nat → Prop} (h_ : EX M P) : 0 ≤ M 331 20 ∧ M 331 20 ≤ 8 := h_.2.2.1
theorem EX.cm {M : fm_M} {P : Nat → Nat → Nat → Prop} (h_ : EX M P) : ∀ j k, j < (Gof M).n → k < (Gof M).cc j → M 348 (10 * j + k) < M 335 (M 331 6).toNat := h_.2.2.2.1
theorem EX.tgc {M : fm_M} {P : Nat → Nat → Nat → Prop} (h_ : EX M P) : ∀ j, j < (Gof M).n → M 346 j ≠ 0 → M 349 j = 0 := h_.2.2.2.2.1
theorem EX.to {M : fm_M} {P : Nat → Nat → Nat → Prop} (h_ : EX M P) : ∀ j k b, j < (Gof M).n → k < (Gof M).cc j → b < (Gof M).nb j k → P j k b → 0 ≤ M 350 (40 * j + 4 * k + b) ∧ M 350 (40 * j + 4 * k + b) < M 331 20 ∧ ldq M j k b := h_.2.2.2.2.2
theorem EX.mono {M : fm_M} {P Q : Nat → Nat → Nat → Prop} (h : EX M P) (hq : ∀ j k b, Q j k b → P j k b) : EX M Q := ⟨h.rb, h.hg, h.hn, h.cm, h.tgc, fun j k b a1 a2 a3 a4 => h.to j k b a1 a2 a3 (hq _ _ _ a4)⟩
/-- older states stay as they are -/
def old (n : Nat) (M M' : fm_M) : Prop :=
  (∀ j, j < n → M' 346 j = M 346 j) ∧
  (∀ j, j < n → M' 347 j = M 347 j) ∧
  (∀ j, j < n → M' 349 j = M 349 j) ∧
  (M' 348 = M 348) ∧
  (∀ x, x < 40 * n → M' 350 x = M 350 x) ∧
  (∀ j v, j < n → v < 3 → M' 345 (3 * j + v) = M 345 (3 * j + v))
theorem old.c346 {n : Nat} {M M' : fm_M} (h_ : old n M M') : ∀ j, j < n → M' 346 j = M 346 j := h_.1
theorem old.c347 {n : Nat} {M M' : fm_M} (h_ : old n M M') : ∀ j, j < n → M' 347 j = M 347 j := h_.2.1
theorem old.c349 {n : Nat} {M M' : fm_M} (h_ : old n M M') : ∀ j, j < n → M' 349 j = M 349 j := h_.2.2.1
theorem old.c348 {n : Nat} {M M' : fm_M} (h_ : old n M M') : M' 348 = M 348 := h_.2.2.2.1
theorem old.c350 {n : Nat} {M M' : fm_M} (h_ : old n M M') : ∀ x, x < 40 * n → M' 350 x = M 350 x := h_.2.2.2.2.1
theorem old.c345 {n : Nat} {M M' : fm_M} (h_ : old n M M') : ∀ j v, j < n → v < 3 → M' 345 (3 * j + v) = M 345 (3 * j + v) := h_.2.2.2.2.2
theorem old.rfl {n : Nat} {M : fm_M} : old n M M := ⟨fun _ _ => Eq.refl _, fun _ _ => Eq.refl _, fun _ _ => Eq.refl _, Eq.refl _, fun _ _ => Eq.refl _, fun _ _ _ _ => Eq.refl _⟩
abbrev exl : List Nat := [345, 346, 347, 348, 349, 350, 351]
theorem EX.grow {M M' : fm_M} {P : Nat → Nat → Nat → Prop} (h : EX M P) (s : sv exl [20, 21] M M') (o : old (Gof M).n M M') (rb : RB M') (hn : M' 331 20 = M 331 20 ∨ (M' 331 20 = M 331 20 + 1 ∧ M' 331 20 ≤ 8 ∧ M' 349 (Gof M).n = 0)) : EX M' P := by
  have hh := h.hn
  have en : (Gof M).n = (M 331 20).toNat := _root_.rfl
  have en' : (Gof M').n = (M' 331 20).toNat := _root_.rfl
  have ec : ∀ j, (Gof M').cc j = (M' 349 j).toNat := fun _ => _root_.rfl
  have ec0 : ∀ j, (Gof M).cc j = (M 349 j).toNat := fun _ => _root_.rfl
  have eg : ∀ j k, gi M' j k = gi M j k := fun j k => by unfold gi; rw [s.slot 6 (by decide), o.c348]
  have eb : ∀ j k, (Gof M').nb j k = (Gof M).nb j k := fun j k => by show (M' 337 _).toNat = (M 337 _).toNat; rw [eg, s.cell 337 (by decide) (by decide)]
  have key : ∀ j, j < (Gof M').n → 0 < (Gof M').cc j → j < (Gof M).n ∧ (Gof M').cc j = (Gof M).cc j := fun j hj hc => by
    have : j < (Gof M).n := by
      rcases hn with e | ⟨e, e2, e3⟩
      · omega
      · by_cases e4 : j = (Gof M).n
        · rw [ec, e4, e3] at hc; exact absurd hc (by decide)
        · omega
    exact ⟨this, by rw [ec, ec0, o.c349 j this]⟩
  refine ⟨rb, by rw [s.slot 6 (by decide)]; exact h.hg, by omega, fun j k hj hk => ?_, fun j hj ht => ?_, fun j k b hj hk hb hP => ?_⟩
  · obtain ⟨a, e⟩ := key j hj (by omega)
    rw [o.c348, s.cell 335 (by decide) (by decide), s.slot 6 (by decide)]
    exact h.cm j k a (by rw [← e]; exact hk)
  · by_cases hc : 0 < (Gof M').cc j
    · obtain ⟨a, e⟩ := key j hj hc
      rw [o.c346 j a] at ht
      rw [o.c349 j a]; exact h.tgc j a ht
    · have := rb.g 349 8 0 10 (by decide) (x := j) (by omega)
      rw [ec] at hc; omega
  · obtain ⟨a, e⟩ := key j hj (by omega)
    have hcc := h.rb.g 349 8 0 10 (by decide) (x := j) (by omega)
    have hnb := h.rb.g 337 20 0 4 (by decide) (x := gi M j k) (by
      have := h.rb.g 348 80 0 9 (by decide) (x := 10 * j + k) (by rw [e, ec0] at hk; omega)
      have := h.hg
      unfold gi; omega)
    have hk' : k < (Gof M).cc j := by rw [← e]; exact hk
    rw [eb] at hb
    have hb4 : (Gof M).nb j k = (M 337 (gi M j k)).toNat := _root_.rfl
    rw [ec0] at hk'
    obtain ⟨t1, t2, t3⟩ := h.to j k b a (by rw [ec0]; exact hk') hb hP
    have e350 := o.c350 (40 * j + 4 * k + b) (by omega)
    have h348 := h.rb.g 348 80 0 9 (by decide) (x := 10 * j + k) (by omega)
    have hg6 := h.hg
    refine ⟨by rw [e350]; exact t1, by rw [e350]; omega, ldq_same h.rb (by omega) (by omega) (by omega) (s.slot 6 (by decide)) (fun a h1 h2 => s.cell a (by simp; omega) (by omega)) e350 (by rw [o.c348]) (fun v hv => o.c345 j v a hv) (fun v hv => o.c345 _ v (by omega) hv) t3⟩
/-- a state is laid down behind the others -/
def fnw (M M' : fm_M) : Prop := (∀ j v, j < (Gof M).n → v < 3 → M' 345 (3 * j + v) = M 345 (3 * j + v)) ∧ (∀ v, v < 3 → M' 345 (3 * (Gof M).n + v) = M 351 v) ∧ ((M' 346 (Gof M).n = 0 ∧ ¬ rhol M (M 331 6).toNat 10 (M 351)) ∨ (M' 346 (Gof M).n = 1 ∧ rhol M (M 331 6).toNat 10 (M 351))) ∧ M' 347 (Gof M).n = 0
theorem spec_find {M : fm_M} (h : RB M) (hg : M 331 6 = 0 ∨ M 331 6 = 1) (hn : 0 ≤ M 331 20 ∧ M 331 20 ≤ 8) {post : Int → fm_M → Prop} {thr : String → fm_M → Prop}
    (h0 : M 331 20 = 8 → (∀ j : Nat, (j : Int) < M 331 20 → ¬ sme (rho M j) (M 351)) → post (-1) M) (h1 : ∀ i : Nat, (i : Int) < M 331 20 → sme (rho M i) (M 351) → post i M) (h2 : ∀ M', (∀ j : Nat, (j : Int) < M 331 20 → ¬ sme (rho M j) (M 351)) → fnw M M' → sv [345, 346, 347, 349, 350] [20] M M' → old (Gof M).n M M' → RB M' → M' 331 20 = M 331 20 + 1 → M' 331 20 ≤ 8 → M' 349 (Gof M).n = 0 → post (M 331 20) M') : wp_Mo_find M post thr := by
  have en : (Gof M).n = (M 331 20).toNat := rfl
  refine ⟨fun M' v1 => M' = M ∧ ∃ i : Nat, v1 = i ∧ (i : Int) ≤ M 331 20 ∧ ∀ j, j < i → ¬ sme (rho M j) (M 351), fun _ v1 => (M 331 20 - v1).toNat, ⟨rfl, 0, rfl, by omega, fun j hj => by omega⟩, ?_⟩
  rintro M1 v1 ⟨rfl, i, rfl, hi, hno⟩
  unfold C_Mo_find_2
  refine ⟨rg_small (by omega), rg_small (by omega), fun h3 => ⟨fun h4 => ?_, fun h4 => h0 h4 (fun j hj => hno j (by omega))⟩, fun h3 => ?_⟩
  · -- a new state
    have hna : ∀ j : Nat, (j : Int) < M1 331 20 → ¬ sme (rho M1 j) (M1 351) := fun j hj => hno j (by omega)
    refine ⟨fun M' v1 => ∃ v : Nat, v1 = v ∧ v ≤ 3 ∧ ex1 345 M1 M' ∧ RB M' ∧ (∀ y, y < 3 * (Gof M1).n → M' 345 y = M1 345 y) ∧ ∀ y, y < v → M' 345 (3 * (Gof M1).n + y) = M1 351 y, fun _ v1 => (3 - v1).toNat, ⟨0, rfl, by omega, ex1.rfl, h, fun _ _ => rfl, fun y hy => by omega⟩, ?_⟩
    rintro M2 v1 ⟨v, rfl, hv, hx, rb, fo, fn⟩
    have e331 : M2 331 = M1 331 := hx 331 (by decide)
    unfold C_Mo_find_86
    rw [e331]
    refine ⟨rg_small (by omega), fun h5 => ?_, fun h5 => ⟨by omega, by omega, fun M3 hM3 => ⟨⟨v + 1, by omega, by omega, by rw [hM3]; exact hx.u, ?_, fun y hy => by rw [hM3, fu_at, if_neg (by omega)]; exact fo y hy, fun y hy => ?_⟩, by dsimp only; omega⟩⟩⟩
    · have e10 : (10 : Int) = ((10 : Nat) : Int) := rfl
      have ecn : M1 331 20 = (((M1 331 20).toNat : Nat) : Int) := by omega
      have fin : ∀ r : Int, (r = 0 ∨ r = 1) → ((r = 0 ∧ ¬ rhol M1 (M1 331 6).toNat 10 (M1 351)) ∨ (r = 1 ∧ rhol M1 (M1 331 6).toNat 10 (M1 351))) → (0 ≤ M1 331 20 ∧ M1 331 20 < 8) ∧ (r = 0 ∨ r = 1) ∧ ∀ M63 : fm_M, M63 = fm_u M2 346 (M1 331 20).toNat r → ((0 ≤ (M63 331 20) ∧ (M63 331 20) < 8) ∧ (∀ M65 : fm_M, M65 = fm_u M63 349 (M63 331 20).toNat 0 → ((0 ≤ (M65 331 20) ∧ (M65 331 20) < 8) ∧ (∀ M67 : fm_M, M67 = fm_u M65 347 (M65 331 20).toNat 0 → (B_Mo_find_163 post thr M67 (40 * (M67 331 20))))))) := by
        intro r hr hrh
        refine ⟨by omega, hr, fun M3 e3 => ?_⟩
        have a3 : M3 331 = M1 331 := by rw [e3, fu_off _ _ _ (by decide), e331]
        have rb3 : RB M3 := by rw [e3]; exact rb.u 346 8 0 1 (by decide) _ _ (by omega)
        rw [a3]
        refine ⟨by omega, fun M4 e4 => ?_⟩
        have a4 : M4 331 = M1 331 := by rw [e4, fu_off _ _ _ (by decide), a3]
        have rb4 : RB M4 := by rw [e4]; exact rb3.u 349 8 0 10 (by decide) _ _ (by omega)
        rw [a4]
        refine ⟨by omega, fun M5 e5 => ?_⟩
        have a5 : M5 331 = M1 331 := by rw [e5, fu_off _ _ _ (by decide), a4]
        have rb5 : RB M5 := by rw [e5]; exact rb4.u 347 8 0 1 (by decide) _ _ (by omega)
        have s5 : sv [345, 346, 347, 349, 350] [20] M1 M5 := by
          rw [e5, e4, e3]; exact (((sv.ofx hx (by decide) (by decide)).u (by decide) (by decide)).u (by decide) (by decide)).u (by decide) (by decide)
        have o5 : old (Gof M1).n M1 M5 := by
          refine ⟨fun j hj => ?_, fun j hj => ?_, fun j hj => ?_, ?_, fun x _ => ?_, fun j w hj hw => ?_⟩
          · rw [e5, fu_off _ _ _ (by decide), e4, fu_off _ _ _ (by decide), e3, fu_at, if_neg (by omega), hx 346 (by decide)]
          · rw [e5, fu_at, if_neg (by rw [← en]; omega), e4, fu_off _ _ _ (by decide), e3, fu_off _ _ _ (by decide), hx 347 (by decide)]
          · rw [e5, fu_off _ _ _ (by decide), e4, fu_at, if_neg (by rw [← en]; omega), e3, fu_off _ _ _ (by decide), hx 349 (by decide)]
          · rw [e5, fu_off _ _ _ (by decide), e4, fu_off _ _ _ (by decide), e3, fu_off _ _ _ (by decide), hx 348 (by decide)]
          · rw [e5, fu_off _ _ _ (by decide), e4, fu_off _ _ _ (by decide), e3, fu_off _ _ _ (by decide), hx 350 (by decide)]
          · rw [e5, fu_off _ _ _ (by decide), e4, fu_off _ _ _ (by decide), e3, fu_off _ _ _ (by decide)]; exact fo _ (by omega)
        have z5 : M5 349 (Gof M1).n = 0 := by rw [e5, fu_off _ _ _ (by decide), e4, fu_at, if_pos (by rw [en])]
        have f5 : fnw M1 M5 := by
          have e345 : M5 345 = M2 345 := by rw [e5, fu_off _ _ _ (by decide), e4, fu_off _ _ _ (by decide), e3, fu_off _ _ _ (by decide)]
          refine ⟨fun j w hj hw => by rw [e345]; exact fo _ (by omega), fun w hw => by rw [e345]; exact fn w (by omega), ?_, by rw [e5, fu_at, if_pos (by rw [en])]⟩
          rw [e5, fu_off _ _ _ (by decide), e4, fu_off _ _ _ (by decide), e3, fu_at, if_pos (by rw [en])]; exact hrh
        refine ⟨fun M' v1 => ∃ x : Nat, v1 = x ∧ 40 * (Gof M1).n ≤ x ∧ x ≤ 40 * (Gof M1).n + 40 ∧ M' 331 = M1 331 ∧ sv [345, 346, 347, 349, 350] [20] M1 M' ∧ old (Gof M1).n M1 M' ∧ RB M' ∧ M' 349 (Gof M1).n = 0 ∧ fnw M1 M', fun _ v1 => (400 - v1).toNat, ⟨40 * (Gof M1).n, by rw [a5]; omega, by omega, by omega, a5, s5, o5, rb5, z5, f5⟩, ?_⟩
        rintro M6 v1 ⟨x, rfl, hx1, hx2, a6, s6, o6, rb6, z6, f6⟩
        unfold C_Mo_find_163
        rw [a6]
        refine ⟨rg_small (by omega), rg_small (by omega), fun h6 M7 e7 => ?_, fun h6 => ⟨by omega, fun M7 e7 => ⟨⟨x + 1, by omega, by omega, by omega, by rw [e7, fu_off _ _ _ (by decide), a6], by rw [e7]; exact s6.u (by decide) (by decide), ?_, by rw [e7]; exact rb6.u 350 320 (-1) 7 (by decide) _ _ (by omega), by rw [e7, fu_off _ _ _ (by decide)]; exact z6, by unfold fnw; rw [e7, fu_off _ _ _ (by decide), fu_off _ _ _ (by decide), fu_off _ _ _ (by decide)]; exact f6⟩, by dsimp only; omega⟩⟩⟩
        · have a7 : M7 331 20 = M1 331 20 + 1 := by rw [e7, fu_at, if_pos rfl]
          rw [a7, show M1 331 20 + 1 - 1 = M1 331 20 by omega]
          refine h2 M7 hna (by unfold fnw; rw [e7, fu_off _ _ _ (by decide), fu_off _ _ _ (by decide), fu_off _ _ _ (by decide)]; exact f6) (by rw [e7]; exact s6.us (by decide)) ?_ (by rw [e7]; exact rb6.o (by decide) _ _) a7 (by omega) (by rw [e7, fu_off _ _ _ (by decide)]; exact z6)
          have hf : ∀ a, a ≠ 331 → M7 a = M6 a := fun a ha => by rw [e7]; exact fu_off _ _ _ ha
          exact ⟨fun j hj => by rw [hf 346 (by decide)]; exact o6.c346 j hj, fun j hj => by rw [hf 347 (by decide)]; exact o6.c347 j hj, fun j hj => by rw [hf 349 (by decide)]; exact o6.c349 j hj, by rw [hf 348 (by decide)]; exact o6.c348, fun x hx => by rw [hf 350 (by decide)]; exact o6.c350 x hx, fun j w hj hw => by rw [hf 345 (by decide)]; exact o6.c345 j w hj hw⟩
        · have hf : ∀ a, a ≠ 350 → M7 a = M6 a := fun a ha => by rw [e7]; exact fu_off _ _ _ ha
          refine ⟨fun j hj => by rw [hf 346 (by decide)]; exact o6.c346 j hj, fun j hj => by rw [hf 347 (by decide)]; exact o6.c347 j hj, fun j hj => by rw [hf 349 (by decide)]; exact o6.c349 j hj, by rw [hf 348 (by decide)]; exact o6.c348, fun y hy => ?_, fun j w hj hw => by rw [hf 345 (by decide)]; exact o6.c345 j w hj hw⟩
          rw [e7, fu_at, if_neg (by omega)]; exact o6.c350 y hy
      have hgd : M2 331 6 = 0 ∨ M2 331 6 = 1 := by rw [e331]; exact hg
      rw [e10, ecn]
      have hrr : rhol M2 (M2 331 6).toNat 10 (rho M2 (M1 331 20).toNat) ↔ rhol M1 (M1 331 6).toNat 10 (M1 351) := by
        have hG : (M1 331 6).toNat ≤ 1 := by omega
        rw [e331]
        refine (rhol_c rb hG (by omega) (r' := M1 351) (fun w hw => ?_)).trans (rhol_same (fun a h1 h2 => hx a (by omega)) _ _ _)
        show M2 345 (3 * (M1 331 20).toNat + w) = _
        rw [← en]; exact fn w (by omega)
      refine spec_holds rb hgd (by omega) (by omega) (fun hr => ?_) (fun hr => ?_)
      · have := fin 0 (Or.inl rfl) (Or.inl ⟨rfl, fun hh => hr (hrr.mpr hh)⟩)
        rw [← ecn]; exact this
      · have := fin 1 (Or.inr rfl) (Or.inr ⟨rfl, hrr.mp hr⟩)
        rw [← ecn]; exact this
    · have hb := rb.g 351 3 0 9 (by decide) (x := v) (by omega)
      rw [hM3]; exact rb.u 345 24 0 9 (by decide) _ _ (by rw [Int.toNat_natCast]; exact hb)
    · rw [hM3, fu_at]
      by_cases e : y = v
      · rw [if_pos (by omega), Int.toNat_natCast, e, hx 351 (by decide)]
      · rw [if_neg (by omega)]; exact fn y (by omega)
  · have b0 := h.g 351 3 0 9 (by decide) (x := 0) (by omega)
    have b1 := h.g 351 3 0 9 (by decide) (x := 1) (by omega)
    have b2 := h.g 351 3 0 9 (by decide) (x := 2) (by omega)
    have c0 := h.g 345 24 0 9 (by decide) (x := (3 * (i : Int)).toNat) (by omega)
    have c1 := h.g 345 24 0 9 (by decide) (x := (3 * (i : Int) + 1).toNat) (by omega)
    have c2 := h.g 345 24 0 9 (by decide) (x := (3 * (i : Int) + 2).toNat) (by omega)
    have nx : ¬ sme (rho M1 i) (M1 351) → (fun M'_1 v1' => (M'_1 = M1 ∧ ∃ i : Nat, v1' = i ∧ (i : Int) ≤ M1 331 20 ∧ ∀ j, j < i → ¬ sme (rho M1 j) (M1 351)) ∧ (M1 331 20 - v1').toNat < (M1 331 20 - (i : Int)).toNat : fm_M → Int → Prop) M1 ((i : Int) + 1) := fun hne => ⟨⟨rfl, i + 1, by omega, by omega, fun j hj => by
      by_cases e : j = i
      · rw [e]; exact hne
      · exact hno j (by omega)⟩, by omega⟩
    have q0 : M1 345 (3 * (i : Int)).toNat = rho M1 i 0 := by unfold rho; congr 1
    have q1 : M1 345 (3 * (i : Int) + 1).toNat = rho M1 i 1 := by unfold rho; congr 1
    have q2 : M1 345 (3 * (i : Int) + 2).toNat = rho M1 i 2 := by unfold rho; congr 1
    exact ⟨by omega, rg_small (by omega), rg_small (by omega), fun d0 => nx (fun hh => d0 (by rw [q0]; exact hh.1)), fun g0 => ⟨by omega, rg_small (by omega), rg_small (by omega), fun d1 => nx (fun hh => d1 (by rw [q1]; exact hh.2.1)), fun g1 => ⟨by omega, rg_small (by omega), rg_small (by omega), fun d2 => nx (fun hh => d2 (by rw [q2]; exact hh.2.2)), fun g2 => h1 i (by omega) ⟨by rw [← q0]; exact g0, by rw [← q1]; exact g1, by rw [← q2]; exact g2⟩⟩⟩⟩
end Pu_L
