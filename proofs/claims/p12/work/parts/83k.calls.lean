set_option maxRecDepth 10000
section Pu_cz
/-! The game that a text tells, as both keep it. -/
noncomputable def bl (P : Prop) : Bool := @decide P (Classical.propDecidable P)
theorem bl_iff {P : Prop} : bl P = true ↔ P := by unfold bl; simp
section Told
variable {T : Nat → Int} {n : Nat}
/-- does a guard hold; what comes of a branch -/
def gH (T : Nat → Int) (n : Nat) (kn : Nat → Int) (p : Nat) (r : Nat → Int) : Prop := ∀ t, t < tN T n kn 3 p → tcm (tC T n kn (tp T n kn p t)) (ev (vSu T n kn (tp T n kn p t)) r) (ev (tR T n kn (tp T n kn p t)) r)
def nxv (T : Nat → Int) (n : Nat) (kn : Nat → Int) (p : Nat) (r : Nat → Int) (v : Nat) : Int := if brU T n kn p v = 0 then r v else clp (kn v) (ev (vSu T n kn (brU T n kn p v)) r)
noncomputable def Yof (T : Nat → Int) (n c : Nat) : Ga := (c, fun r => bl (gH T n (KN T n) (cpp T n c + 1) r), fun k r => bl (gH T n (KN T n) (cpp T n k + 1) r), fun k => decide (chr T n (cpp T n k) = 43), fun k => bN T n (KN T n) 3 (bp T n (KN T n) (cpp T n k) 0), fun k b r v => nxv T n (KN T n) (bp T n (KN T n) (cpp T n k) b) r v, fun v => dF T n 3 0 v, KN T n)
theorem ev_r {F r r' : Nat → Int} (e : ∀ v, v < 3 → r v = r' v) : ev F r = ev F r' := by
  unfold ev; rw [e 0 (by omega), e 1 (by omega), e 2 (by omega)]
theorem gH_c {kn : Nat → Int} {p : Nat} {r r' : Nat → Int} (e : ∀ v, v < 3 → r v = r' v) : gH T n kn p r ↔ gH T n kn p r' := by
  unfold gH; simp only [ev_r e]
theorem clp_b {t x : Int} (ht : 0 ≤ t) : 0 ≤ clp t x ∧ clp t x ≤ t := by
  unfold clp; split
  · omega
  · split <;> omega
/-- the first values lie within what the variables may be -/
theorem dF_le (ht : txt T n) : ∀ (f : Nat) (kn : Nat → Int) (p : Nat) (kn' : Nat → Int) (q : Nat), pDecls T n f kn p = .ok kn' q → ∀ x, (0 < kn x → kn' x = kn x) ∧ (¬ 0 < kn x → 0 ≤ dF T n f p x ∧ (dF T n f p x ≤ kn' x ∨ (kn' x = kn x ∧ dF T n f p x = 0))) := by
  intro f
  induction f with
  | zero =>
    intro kn p kn' q h x
    rw [pDecls] at h
    split at h
    · exact absurd h (by simp)
    · have := ok_inj h
      rw [← this.1]
      exact ⟨fun _ => rfl, fun _ => ⟨by rw [dF]; decide, Or.inr ⟨rfl, by rw [dF]⟩⟩⟩
  | succ f ih =>
    intro kn p kn' q h x
    rw [pDecls] at h
    by_cases hnm : nam (chr T n p)
    · rw [if_pos hnm] at h
      cases hd : pDecl T n kn p with
      | inr b => rw [hd] at h; exact absurd h (by simp [PR.bd])
      | inl mq =>
        obtain ⟨m, q1⟩ := mq
        have hd' : pDecl T n kn p = .ok m q1 := hd
        rw [hd', bd_ok] at h
        have h2 := ih _ _ _ _ h x
        unfold pDecl at hd'
        by_cases hk : 0 < kn (chr T n p - 97).toNat
        · rw [if_pos hk] at hd'; exact absurd hd' (by simp)
        · rw [if_neg hk] at hd'
          cases h3 : pNum T n 1 9 (p + 1) with
          | inr b => rw [h3] at hd'; exact absurd hd' (by simp [PR.bd])
          | inl mq =>
            obtain ⟨m', q2⟩ := mq
            have h3' : pNum T n 1 9 (p + 1) = .ok m' q2 := h3
            rw [h3', bd_ok] at hd'
            have n1 := pNum_ok ht h3'
            have n2 := pNum_val h3'
            by_cases hc : chr T n q2 = 58
            · rw [if_pos hc] at hd'
              cases h4 : pNum T n 0 m' (q2 + 1) with
              | inr b => rw [h4] at hd'; exact absurd hd' (by simp [PR.bd])
              | inl mq =>
                obtain ⟨s, q3⟩ := mq
                have h4' : pNum T n 0 m' (q2 + 1) = .ok s q3 := h4
                rw [h4', bd_ok] at hd'
                have n3 := pNum_ok ht h4'
                have n4 := pNum_val h4'
                by_cases hc2 : chr T n q3 = 59
                · rw [if_pos hc2] at hd'
                  obtain ⟨e1, e2⟩ := ok_inj hd'
                  subst e1
                  have ede : dE T n p = q1 := by unfold dE; rw [← n2.2, ← n4.2]; exact e2
                  rw [dF, if_pos hnm]
                  by_cases e : x = (chr T n p - 97).toNat
                  · rw [if_pos e, ← n2.2, ← n4.1]
                    rw [if_pos e] at h2
                    refine ⟨fun hh => by rw [e] at hh; exact absurd hh hk, fun _ => ⟨n3.1, Or.inl ?_⟩⟩
                    rw [h2.1 (by omega)]; exact n3.2.1
                  · rw [if_neg e, ede]
                    rw [if_neg e] at h2
                    exact h2
                · rw [if_neg hc2] at hd'; exact absurd hd' (by simp)
            · rw [if_neg hc] at hd'; exact absurd hd' (by simp)
    · rw [if_neg hnm] at h
      have := ok_inj h
      rw [← this.1]
      exact ⟨fun _ => rfl, fun _ => by rw [dF, if_neg hnm]; exact ⟨Int.le_refl 0, Or.inr ⟨rfl, rfl⟩⟩⟩
theorem dF_ok (ht : txt T n) {c q : Nat} (hA : pAll T n = .ok c q) (v : Nat) : 0 ≤ dF T n 3 0 v ∧ dF T n 3 0 v ≤ KN T n v := by
  unfold pAll at hA
  cases h : pDecls T n 3 (fun _ => 0) 0 with
  | inr b => rw [h] at hA; exact absurd hA (by simp [PR.bd])
  | inl mq =>
    obtain ⟨kn, p1⟩ := mq
    have h2 := (dF_le ht 3 _ _ _ _ h v).2 (by decide)
    have e : KN T n = kn := by unfold KN; rw [h]
    rw [e]
    refine ⟨h2.1, ?_⟩
    rcases h2.2 with a | ⟨a, b⟩
    · exact a
    · rw [a, b]; exact Int.le_refl 0
theorem Yof_w (ht : txt T n) {c q : Nat} (hA : pAll T n = .ok c q) (hc : c ≤ 10) (hk : ∀ v, v < 3 → 0 ≤ KN T n v ∧ KN T n v ≤ 9) : YW (Yof T n c) := by
  refine ⟨hc, fun k => bN_le, fun v hv => dF_ok ht hA v, fun k b r hr v hv => ?_, fun v hv => (hk v hv).2, fun r r' e => ?_, fun k r r' e => ?_⟩
  · show 0 ≤ nxv T n (KN T n) _ r v ∧ nxv T n (KN T n) _ r v ≤ KN T n v
    unfold nxv; split
    · exact hr v hv
    · exact clp_b (hk v hv).1
  · show bl _ = bl _
    rw [propext (gH_c e)]
  · show bl _ = bl _
    rw [propext (gH_c e)]
theorem RY_of (ht : txt T n) {c q d : Nat} (hA : pAll T n = .ok c q) (hc : c ≤ 10) {M : fm_M} (rb : RB M) (hd : d ≤ 1) (h5 : M 335 d = c) (h : MC T n d c M) : RY (Yof T n c) d M := by
  obtain ⟨h1, h2, h3, h4, h6⟩ := h
  have hk : ∀ v, v < 3 → 0 ≤ KN T n v ∧ KN T n v ≤ 9 := fun v hv => by rw [← h1 v hv]; exact rb.g 333 6 0 9 (by decide) (by omega)
  have gu : ∀ g p, g ≤ 10 → M 340 (11 * d + g) = (tN T n (KN T n) 3 p : Nat) → mgu T n (KN T n) p d g M (tN T n (KN T n) 3 p) → ∀ r, (rhol M d g r ↔ gH T n (KN T n) p r) := fun g p _ e u r => by
    unfold rhol gH
    rw [e]
    refine ⟨fun hh t hlt => ?_, fun hh t hlt => ?_⟩
    · have := hh t (by omega)
      rw [(u t hlt).1, (u t hlt).2.1, (u t hlt).2.2] at this; exact this
    · have hlt' : t < tN T n (KN T n) 3 p := by omega
      rw [(u t hlt').1, (u t hlt').2.1, (u t hlt').2.2]; exact hh t hlt'
  refine ⟨Yof_w ht hA hc hk, h5, fun r _ => (gu 10 _ (by omega) h4 h6 r).trans bl_iff.symm, fun k hkc r _ => ?_, fun k hkc => ?_, fun k hkc => ?_, fun k b hkc hb r _ v hv => ?_, fun v hv => h2 v hv, fun v hv => h1 v hv⟩
  · have m := h3 k hkc
    exact (gu k _ (by have : k < c := hkc; omega) m.2.2.2.1 m.2.2.2.2.1 r).trans bl_iff.symm
  · rw [(h3 k hkc).1]
    show _ = if decide (chr T n (cpp T n k) = 43) = true then (1 : Int) else 0
    by_cases e : chr T n (cpp T n k) = 43
    · rw [if_pos e, if_pos (by simp [e])]
    · rw [if_neg e, if_neg (by simp [e])]
  · exact (h3 k hkc).2.1
  · have m := ((h3 k hkc).2.2.2.2.2 b hb).2 v hv
    show _ = nxv T n (KN T n) (bp T n (KN T n) (cpp T n k) b) r v
    unfold rnx nxv
    have eu : 208 * d + 88 + 12 * k + 3 * b + v = ua d k b v := rfl
    rw [eu]
    by_cases e : brU T n (KN T n) (bp T n (KN T n) (cpp T n k) b) v = 0
    · rw [if_pos e, if_neg (by rw [m.1 e]; decide)]
    · rw [if_neg e, if_pos (m.2 e).1, (m.2 e).2, h1 v hv]
theorem ivn_b (ht : txt T n) (p : Nat) : -858 ≤ ivn T n p ∧ ivn T n p ≤ 858 := by
  unfold ivn
  have h1 := chr_b ht p
  have h2 := chr_b ht (p + 1)
  split <;> omega
theorem vIt_b (ht : txt T n) (p x : Nat) : -858 ≤ vIt T n p x ∧ vIt T n p x ≤ 858 := by
  have := ivn_b ht p
  unfold vIt; split
  · split <;> omega
  · split <;> omega
theorem vMo_b (ht : txt T n) {kn : Nat → Int} : ∀ (f p x : Nat), -(858 * f : Int) ≤ vMo T n kn f p x ∧ vMo T n kn f p x ≤ 858 * f := by
  intro f
  induction f with
  | zero => intro p x; rw [vMo]; omega
  | succ f ih =>
    intro p x
    rw [vMo]
    have h1 := vIt_b ht (p + 1) x
    have h2 := ih (ps (pItem T n kn (p + 1))) x
    split
    · split <;> omega
    · omega
theorem vSu_b (ht : txt T n) {kn : Nat → Int} (p x : Nat) : -3432 ≤ vSu T n kn p x ∧ vSu T n kn p x ≤ 3432 := by
  unfold vSu
  have h1 := vIt_b ht p x
  have h2 := vMo_b ht (kn := kn) 3 (ps (pItem T n kn p)) x
  omega
theorem tcm_0 {c a b : Int} : tcm c (a - b) 0 ↔ tcm c a b := by
  unfold tcm
  split
  · omega
  · split
    · omega
    · split <;> omega
theorem mul_b {a r B : Int} (ha : -B ≤ a ∧ a ≤ B) (hr : 0 ≤ r ∧ r ≤ 9) (hB : 0 ≤ B) : -(9 * B) ≤ a * r ∧ a * r ≤ 9 * B := by
  have h1 : a * r ≤ B * r := Int.mul_le_mul_of_nonneg_right ha.2 hr.1
  have h2 : -B * r ≤ a * r := Int.mul_le_mul_of_nonneg_right ha.1 hr.1
  have h3 : B * r ≤ B * 9 := Int.mul_le_mul_of_nonneg_left hr.2 hB
  rw [Int.neg_mul] at h2
  omega
/-- a sum of the class, at values that may be -/
theorem csr_ev {M : fm_M} {k a : Nat} {F r : Nat → Int} (e : ∀ x, x < 4 → M k (a + x) = F x) (hF : ∀ x, x < 4 → -6864 ≤ F x ∧ F x ≤ 6864) (hr : ∀ v, v < 3 → 0 ≤ r v ∧ r v ≤ 9) : csr M k a r = ev F r := by
  unfold csr ev
  rw [e 3 (by omega), show M k a = F 0 from e 0 (by omega), e 1 (by omega), e 2 (by omega)]
  have b0 := mul_b (hF 0 (by omega)) (hr 0 (by omega)) (by decide)
  have b1 := mul_b (hF 1 (by omega)) (hr 1 (by omega)) (by decide)
  have b2 := mul_b (hF 2 (by omega)) (hr 2 (by omega)) (by decide)
  have b3 := hF 3 (by omega)
  rw [jwi_id (by constructor <;> omega)]
  omega
theorem CY_of (ht : txt T n) {c q g : Nat} (hA : pAll T n = .ok c q) (hc : c ≤ 10) {M : fm_M} (cb : CB g M) (h5 : M g 4 = c) (h : CC T n g c M) : CY (Yof T n c) g M := by
  obtain ⟨h1, h2, h3, h4, h6⟩ := h
  have hk : ∀ v, v < 3 → 0 ≤ KN T n v ∧ KN T n v ≤ 9 := fun v hv => by rw [← h1 v hv]; exact cb.g' (o := 1) (s := 0) (t := 3) (a := 0) (b := 9) (by decide) (by omega) hv
  have w := Yof_w ht hA hc hk
  have r9 : ∀ r, okr (Yof T n c) r → ∀ v, v < 3 → 0 ≤ r v ∧ r v ≤ 9 := fun r hr v hv => by
    have := hr v hv
    have := w.mo9 v hv
    omega
  have gu : ∀ k p, M k 2 = (tN T n (KN T n) 3 p : Nat) → cgu T n (KN T n) p k M (tN T n (KN T n) 3 p) → ∀ r, okr (Yof T n c) r → (chol M k r ↔ gH T n (KN T n) p r) := fun k p e u r hr => by
    have key : ∀ t, t < tN T n (KN T n) 3 p → (tcm (M (k + 2) t) (csr M (k + 1) (4 * t) r) 0 ↔ tcm (tC T n (KN T n) (tp T n (KN T n) p t)) (ev (vSu T n (KN T n) (tp T n (KN T n) p t)) r) (ev (tR T n (KN T n) (tp T n (KN T n) p t)) r)) := fun t hlt => by
      have ut := u.2 t hlt
      rw [ut.1, csr_ev (F := fun x => vSu T n (KN T n) (tp T n (KN T n) p t) x - tR T n (KN T n) (tp T n (KN T n) p t) x) ut.2 (fun x _ => by
        have a := vSu_b ht (kn := KN T n) (tp T n (KN T n) p t) x
        have b : -3432 ≤ tR T n (KN T n) (tp T n (KN T n) p t) x ∧ tR T n (KN T n) (tp T n (KN T n) p t) x ≤ 3432 := vSu_b ht _ x
        omega) (r9 r hr)]
      rw [ev_add (F := vSu T n (KN T n) (tp T n (KN T n) p t)) (G := tR T n (KN T n) (tp T n (KN T n) p t)) (c := -1) (fun x => by omega)]
      rw [show ev (vSu T n (KN T n) (tp T n (KN T n) p t)) r + -1 * ev (tR T n (KN T n) (tp T n (KN T n) p t)) r = ev (vSu T n (KN T n) (tp T n (KN T n) p t)) r - ev (tR T n (KN T n) (tp T n (KN T n) p t)) r by omega]
      exact tcm_0
    unfold chol gH
    rw [e]
    exact ⟨fun hh t hlt => (key t hlt).mp (hh t (by omega)), fun hh t hlt => (key t (by omega)).mpr (hh t (by omega))⟩
  refine ⟨w, h5, fun r hr => (gu (g + 4) _ h4 h6 r hr).trans bl_iff.symm, fun k hkc r hr => ?_, fun k hkc => ?_, fun k hkc => (h3 k hkc).2.1, fun k b hkc hb r hr v hv => ?_, fun v hv => h2 v hv, fun v hv => h1 v hv⟩
  · have m := h3 k hkc
    rw [show g + (8 + 13 * k) = g + (7 + 13 * k) + 1 by omega]
    exact (gu _ _ m.2.2.2.1 m.2.2.2.2.1 r hr).trans bl_iff.symm
  · rw [(h3 k hkc).1]
    show _ = if decide (chr T n (cpp T n k) = 43) = true then (1 : Int) else 0
    by_cases e : chr T n (cpp T n k) = 43
    · rw [if_pos e, if_pos (by simp [e])]
    · rw [if_neg e, if_neg (by simp [e])]
  · have m := ((h3 k hkc).2.2.2.2.2 b hb).2
    show _ = nxv T n (KN T n) (bp T n (KN T n) (cpp T n k) b) r v
    have hkv := hk v hv
    have hrv := hr v hv
    have hrv2 : r v ≤ KN T n v := hrv.2
    rw [show g + (12 + 13 * k + 2 * b) = g + (7 + 13 * k) + 5 + 2 * b by omega]
    unfold folr nxv
    rw [h1 v hv]
    by_cases e : brU T n (KN T n) (bp T n (KN T n) (cpp T n k) b) v = 0
    · rw [if_pos e, csr_ev (F := fun x => if x = v then 1 else 0) (fun x hx => by rw [m v x hv hx]; unfold brF; rw [if_pos e]) (fun x _ => by split <;> omega) (r9 r hr)]
      have ee : ev (fun x => if x = v then (1 : Int) else 0) r = r v := by
        have : v = 0 ∨ v = 1 ∨ v = 2 := by omega
        unfold ev
        rcases this with e | e | e <;> subst e <;> simp
      rw [ee]
      unfold jmax jmin
      split <;> split <;> omega
    · rw [if_neg e, csr_ev (F := vSu T n (KN T n) (brU T n (KN T n) (bp T n (KN T n) (cpp T n k) b) v)) (fun x hx => by rw [m v x hv hx]; unfold brF; rw [if_neg e]) (fun x _ => by have := vSu_b ht (kn := KN T n) (brU T n (KN T n) (bp T n (KN T n) (cpp T n k) b) v) x; omega) (r9 r hr)]
      unfold jmax jmin clp
      split <;> split <;> (try split) <;> (try split) <;> omega
end Told
end Pu_cz
section Pu_cf
/-! What holds between the calls. -/
theorem jand_255 (x : Int) : jand x 255 = x % 256 := by
  unfold jand
  rw [Int32.toInt, Int32.toBitVec_and, BitVec.toInt_eq_toNat_cond]
  have e : ((Int32.ofInt x).toBitVec &&& (Int32.ofInt 255).toBitVec).toNat = (x % 256).toNat := by
    rw [BitVec.toNat_and]
    have e1 : (Int32.ofInt 255).toBitVec.toNat = 2 ^ 8 - 1 := by decide
    rw [e1, Nat.and_two_pow_sub_one_eq_mod]
    have e2 : (Int32.ofInt x).toBitVec.toNat = (x % 2 ^ 32).toNat := by
      show (BitVec.ofInt 32 x).toNat = _
      rw [BitVec.toNat_ofInt]; rfl
    rw [e2]
    omega
  rw [e]
  have := Int.emod_nonneg x (show (256 : Int) ≠ 0 by decide)
  have := Int.emod_lt_of_pos x (show (0 : Int) < 256 by decide)
  rw [if_pos (by omega)]; omega
theorem jland_255 (x : Int) : jland x 255 = x % 256 := by
  unfold jland
  rw [Int64.toInt, Int64.toBitVec_and, BitVec.toInt_eq_toNat_cond]
  have e : ((Int64.ofInt x).toBitVec &&& (Int64.ofInt 255).toBitVec).toNat = (x % 256).toNat := by
    rw [BitVec.toNat_and]
    have e1 : (Int64.ofInt 255).toBitVec.toNat = 2 ^ 8 - 1 := by decide
    rw [e1, Nat.and_two_pow_sub_one_eq_mod]
    have e2 : (Int64.ofInt x).toBitVec.toNat = (x % 2 ^ 64).toNat := by
      show (BitVec.ofInt 64 x).toNat = _
      rw [BitVec.toNat_ofInt]; rfl
    rw [e2]
    omega
  rw [e]
  have := Int.emod_nonneg x (show (256 : Int) ≠ 0 by decide)
  have := Int.emod_lt_of_pos x (show (0 : Int) < 256 by decide)
  rw [if_pos (by omega)]; omega
theorem ji2c_id : ∀ v : Fin 256, ji2c (v.1 : Int) = v.1 := by decide
/-- a byte of what is typed -/
def byt (a : Int) (k : Nat) : Int := jlshr a (8 * k) % 256
theorem byt_rg (a : Int) (k : Nat) : 0 ≤ byt a k ∧ byt a k < 256 := ⟨Int.emod_nonneg _ (by decide), Int.emod_lt_of_pos _ (by decide)⟩
/-- the text behind a typing -/
def txa (T : Nat → Int) (n : Nat) (a : Int) (c : Nat) : Nat → Int := fun p => if p < n then T p else byt a (c - 1 - (p - n))
def tyb (a : Int) (c : Nat) : Prop := ∀ k, k < c → 33 ≤ byt a k ∧ byt a k ≤ 126
/-- the class's part -/
def CI (T : Nat → Int) (n : Nat) (w : Int) (M : fm_M) : Prop :=
  (txt T n) ∧
  (M 2 1 = n) ∧
  (∀ p, p < n → M 3 p = T p) ∧
  (∃ g h : Nat, ((g = 4 ∧ h = 143) ∨ (g = 143 ∧ h = 4)) ∧ M 1 1 = g ∧ M 142 0 = h ∧ CB g M ∧ CB h M ∧ FB (M h 4).toNat M) ∧
  (nxr M) ∧
  (alr M) ∧
  (M 0 5 = 0 ∨ M 0 5 = 1) ∧
  (M 0 6 = 0 ∨ M 0 6 = 1) ∧
  (M 1 3 = w)
theorem CI.t {T : Nat → Int} {n : Nat} {w : Int} {M : fm_M} (h_ : CI T n w M) : txt T n := h_.1
theorem CI.len {T : Nat → Int} {n : Nat} {w : Int} {M : fm_M} (h_ : CI T n w M) : M 2 1 = n := h_.2.1
theorem CI.ch {T : Nat → Int} {n : Nat} {w : Int} {M : fm_M} (h_ : CI T n w M) : ∀ p, p < n → M 3 p = T p := h_.2.2.1
theorem CI.gs {T : Nat → Int} {n : Nat} {w : Int} {M : fm_M} (h_ : CI T n w M) : ∃ g h : Nat, ((g = 4 ∧ h = 143) ∨ (g = 143 ∧ h = 4)) ∧ M 1 1 = g ∧ M 142 0 = h ∧ CB g M ∧ CB h M ∧ FB (M h 4).toNat M := h_.2.2.2.1
theorem CI.nx {T : Nat → Int} {n : Nat} {w : Int} {M : fm_M} (h_ : CI T n w M) : nxr M := h_.2.2.2.2.1
theorem CI.al {T : Nat → Int} {n : Nat} {w : Int} {M : fm_M} (h_ : CI T n w M) : alr M := h_.2.2.2.2.2.1
theorem CI.b5 {T : Nat → Int} {n : Nat} {w : Int} {M : fm_M} (h_ : CI T n w M) : M 0 5 = 0 ∨ M 0 5 = 1 := h_.2.2.2.2.2.2.1
theorem CI.b6 {T : Nat → Int} {n : Nat} {w : Int} {M : fm_M} (h_ : CI T n w M) : M 0 6 = 0 ∨ M 0 6 = 1 := h_.2.2.2.2.2.2.2.1
theorem CI.wr {T : Nat → Int} {n : Nat} {w : Int} {M : fm_M} (h_ : CI T n w M) : M 1 3 = w := h_.2.2.2.2.2.2.2.2
/-- the reference's part -/
def RI (T : Nat → Int) (n : Nat) (w : Int) (M : fm_M) : Prop :=
  (MT T n M) ∧
  (RB M) ∧
  ((M 331 6 = -1 ∧ M 331 20 = 0) ∨ ((M 331 6 = 0 ∨ M 331 6 = 1) ∧ gwf M ∧ EX0 M)) ∧
  (M 331 22 = 0 ∨ M 331 22 = 1) ∧
  (M 331 4 = w)
theorem RI.mt {T : Nat → Int} {n : Nat} {w : Int} {M : fm_M} (h_ : RI T n w M) : MT T n M := h_.1
theorem RI.rb {T : Nat → Int} {n : Nat} {w : Int} {M : fm_M} (h_ : RI T n w M) : RB M := h_.2.1
theorem RI.hg {T : Nat → Int} {n : Nat} {w : Int} {M : fm_M} (h_ : RI T n w M) : (M 331 6 = -1 ∧ M 331 20 = 0) ∨ ((M 331 6 = 0 ∨ M 331 6 = 1) ∧ gwf M ∧ EX0 M) := h_.2.2.1
theorem RI.sl {T : Nat → Int} {n : Nat} {w : Int} {M : fm_M} (h_ : RI T n w M) : M 331 22 = 0 ∨ M 331 22 = 1 := h_.2.2.2.1
theorem RI.wr {T : Nat → Int} {n : Nat} {w : Int} {M : fm_M} (h_ : RI T n w M) : M 331 4 = w := h_.2.2.2.2
/-- the game and what was found: in the class (st: 0 no game, 1 a game, 2 its states) -/
def CX (st : Nat) (Y : Ga) (M : fm_M) : Prop :=
  (st = 0 → M 0 5 = 0) ∧
  (st ≠ 0 → M 0 5 = 1 ∧ CY Y (M 142 0).toNat M) ∧
  (st ≠ 2 → M 142 1 = 0 ∧ M 142 2 = -1 ∧ M 0 6 = 0) ∧
  (st = 2 → CFd Y (SR Y).1 M ∧ M 142 4 = (SR Y).2.1 ∧ M 142 2 = (SR Y).2.2.1 ∧ omb Y M ∧ (M 0 6 = 1 ↔ 0 < (SR Y).2.2.2))
theorem CX.a0 {st : Nat} {Y : Ga} {M : fm_M} (h_ : CX st Y M) : st = 0 → M 0 5 = 0 := h_.1
theorem CX.a1 {st : Nat} {Y : Ga} {M : fm_M} (h_ : CX st Y M) : st ≠ 0 → M 0 5 = 1 ∧ CY Y (M 142 0).toNat M := h_.2.1
theorem CX.z {st : Nat} {Y : Ga} {M : fm_M} (h_ : CX st Y M) : st ≠ 2 → M 142 1 = 0 ∧ M 142 2 = -1 ∧ M 0 6 = 0 := h_.2.2.1
theorem CX.f {st : Nat} {Y : Ga} {M : fm_M} (h_ : CX st Y M) : st = 2 → CFd Y (SR Y).1 M ∧ M 142 4 = (SR Y).2.1 ∧ M 142 2 = (SR Y).2.2.1 ∧ omb Y M ∧ (M 0 6 = 1 ↔ 0 < (SR Y).2.2.2) := h_.2.2.2
/-- in the reference -/
def RX (st : Nat) (Y : Ga) (M : fm_M) : Prop :=
  (st = 0 → M 331 6 = -1) ∧
  (st ≠ 0 → (M 331 6 = 0 ∨ M 331 6 = 1) ∧ RY Y (M 331 6).toNat M) ∧
  (st ≠ 2 → M 331 20 = 0 ∧ M 331 21 = -1 ∧ M 331 22 = 0) ∧
  (st = 2 → RF Y (SR Y).1 (SR Y).2.1 M ∧ M 331 21 = (SR Y).2.2.1 ∧ (M 331 22 = 1 ↔ 0 ≤ (SR Y).2.2.2))
theorem RX.a0 {st : Nat} {Y : Ga} {M : fm_M} (h_ : RX st Y M) : st = 0 → M 331 6 = -1 := h_.1
theorem RX.a1 {st : Nat} {Y : Ga} {M : fm_M} (h_ : RX st Y M) : st ≠ 0 → (M 331 6 = 0 ∨ M 331 6 = 1) ∧ RY Y (M 331 6).toNat M := h_.2.1
theorem RX.z {st : Nat} {Y : Ga} {M : fm_M} (h_ : RX st Y M) : st ≠ 2 → M 331 20 = 0 ∧ M 331 21 = -1 ∧ M 331 22 = 0 := h_.2.2.1
theorem RX.f {st : Nat} {Y : Ga} {M : fm_M} (h_ : RX st Y M) : st = 2 → RF Y (SR Y).1 (SR Y).2.1 M ∧ M 331 21 = (SR Y).2.2.1 ∧ (M 331 22 = 1 ↔ 0 ≤ (SR Y).2.2.2) := h_.2.2.2
theorem CX.same {st : Nat} {Y : Ga} {M M' : fm_M} (h : CX st Y M) {k : Nat} (hk : k = 4 ∨ k = 143) (e0 : M 142 0 = k) (e : ∀ a, a = 0 ∨ a = 142 ∨ (k ≤ a ∧ a < k + 137) ∨ (281 ≤ a ∧ a ≤ 289) → M' a = M a) : CX st Y M' := by
  refine ⟨fun hs => by rw [e 0 (by omega)]; exact h.a0 hs, fun hs => ⟨by rw [e 0 (by omega)]; exact (h.a1 hs).1, ?_⟩, fun hs => by rw [e 0 (by omega), e 142 (by omega)]; exact h.z hs, fun hs => ?_⟩
  · have := (h.a1 hs).2
    rw [e 142 (by omega)]
    rw [e0, Int.toNat_natCast] at this ⊢
    exact this.same (fun a h1 h2 => e a (by omega))
  · obtain ⟨f1, f2, f3, f4, f5⟩ := h.f hs
    refine ⟨f1.same (by rw [e 142 (by omega)]) (by rw [e 142 (by omega)]) (fun a h1 h2 => e a (by omega)), by rw [e 142 (by omega)]; exact f2, by rw [e 142 (by omega)]; exact f3, by unfold omb; rw [e 142 (by omega)]; exact f4, by rw [e 0 (by omega)]; exact f5⟩
theorem RX.same {st : Nat} {Y : Ga} {M M' : fm_M} (h : RX st Y M) (es : ∀ b, b = 6 ∨ b = 20 ∨ b = 21 ∨ b = 22 → M' 331 b = M 331 b) (e : ∀ a, 333 ≤ a → a ≤ 349 → M' a = M a) : RX st Y M' := by
  refine ⟨fun hs => by rw [es 6 (by omega)]; exact h.a0 hs, fun hs => by rw [es 6 (by omega)]; exact ⟨(h.a1 hs).1, (h.a1 hs).2.same (fun a h1 h2 => e a h1 (by omega))⟩, fun hs => by rw [es 20 (by omega), es 21 (by omega), es 22 (by omega)]; exact h.z hs, fun hs => ?_⟩
  obtain ⟨f1, f2, f3⟩ := h.f hs
  exact ⟨f1.same (es 20 (by omega)) (fun a h1 h2 => e a (by omega) h2), by rw [es 21 (by omega)]; exact f2, by rw [es 22 (by omega)]; exact f3⟩
/-- a text is read into the other half -/
theorem RY.kp {Y : Ga} {G d : Nat} {M M' : fm_M} (h : RY Y G M) (rb : RB M) (hG : G ≤ 1) (hd : d ≤ 1) (hne : G ≠ d) (k : keep d M M') : RY Y G M' := by
  have hC := h.w.c10
  have hN := h.w.nb4
  have sm1 : ∀ x, 208 * G ≤ x → x < 208 * G + 208 → same1 x M M' := fun x h1 h2 => k.od.2.2 x (by omega)
  have hol : ∀ g r, g ≤ 10 → (rhol M' G g r ↔ rhol M G g r) := fun g r hg => by
    have h4 := rb.g 340 22 0 4 (by decide) (x := 11 * G + g) (by omega)
    have e0 : M' 340 (11 * G + g) = M 340 (11 * G + g) := k.od.1 _ (by omega)
    have key : ∀ t : Nat, (t : Int) < M 340 (11 * G + g) → M' 341 (44 * G + 4 * g + t) = M 341 (44 * G + 4 * g + t) ∧ rsu M' (208 * G + 8 * g + 2 * t) r = rsu M (208 * G + 8 * g + 2 * t) r ∧ rsu M' (208 * G + 8 * g + 2 * t + 1) r = rsu M (208 * G + 8 * g + 2 * t + 1) r := fun t ht => ⟨k.od.2.1 _ (by omega), (sm1 _ (by omega) (by omega)).ev rb (by omega) r, (sm1 _ (by omega) (by omega)).ev rb (by omega) r⟩
    unfold rhol
    rw [e0]
    refine ⟨fun hh t ht => ?_, fun hh t ht => ?_⟩
    · have := hh t ht
      rw [(key t ht).1, (key t ht).2.1, (key t ht).2.2] at this; exact this
    · rw [(key t ht).1, (key t ht).2.1, (key t ht).2.2]; exact hh t ht
  refine ⟨h.w, by rw [k.c335 G hne]; exact h.c, fun r hr => (hol 10 r (by omega)).trans (h.tg r hr), fun c hc r hr => (hol c r (by omega)).trans (h.en c hc r hr), fun c hc => by rw [k.c336 _ (by omega)]; exact h.mx c hc, fun c hc => by rw [(k.c337 _ (by omega)).1]; exact h.nb c hc, fun c b hc hb r hr v hv => ?_, fun v hv => by rw [(k.c333 _ (by omega)).2]; exact h.fi v hv, fun v hv => by rw [(k.c333 _ (by omega)).1]; exact h.mo v hv⟩
  have := hN c
  have hx := h.nx c b hc hb r hr v hv
  unfold rnx at hx ⊢
  have s := sm1 (208 * G + 88 + 12 * c + 3 * b + v) (by omega) (by omega)
  rw [s.1, s.ev rb (by omega) r, (k.c333 (3 * G + v) (by omega)).1]; exact hx
def IV (M : fm_M) : Prop := ∃ (T : Nat → Int) (n : Nat) (w : Int) (st : Nat) (Y : Ga), rg w ∧ CI T n w M ∧ RI T n w M ∧ CX st Y M ∧ RX st Y M
theorem CB.same {g : Nat} {M M' : fm_M} (h : CB g M) (e : ∀ a, g ≤ a → a < g + 137 → M' a = M a) : CB g M' := fun q hq x h1 h2 => by
  have := CBt_lt q hq
  rw [e _ (by omega) (by omega)]; exact h q hq x h1 h2
theorem FB.same {m : Nat} {M M' : fm_M} (F : FB m M) (e : ∀ a, a = 142 ∨ (281 ≤ a ∧ a ≤ 289) ∨ a = 308 → M' a = M a) : FB m M' := ⟨by rw [e 142 (by omega)]; exact F.cnt, by rw [e 142 (by omega)]; exact F.lk, fun i v hi hv => by rw [e _ (by omega)]; exact F.val i v hi hv, fun v hv => by rw [e 308 (by omega)]; exact F.com v hv, fun i hi => by
  rw [e 142 (by omega)] at hi
  rw [e 289 (by omega)]; exact F.en i hi, by rw [e 142 (by omega)]; exact F.tg⟩
theorem CI.same {T : Nat → Int} {n : Nat} {w : Int} {M M' : fm_M} (h : CI T n w M) (e : ∀ a, a ≤ 330 → M' a = M a) : CI T n w M' := by
  obtain ⟨g, k, hgk, e1, e2, c1, c2, F⟩ := h.gs
  refine ⟨h.t, by rw [e 2 (by omega)]; exact h.len, by rw [e 3 (by omega)]; exact h.ch, ⟨g, k, hgk, by rw [e 1 (by omega)]; exact e1, by rw [e 142 (by omega)]; exact e2, c1.same (fun a _ _ => e a (by omega)), c2.same (fun a _ _ => e a (by omega)), ?_⟩, fun i x hi hx => by rw [e _ (by omega)]; exact h.nx i x hi hx, fun i hi => by rw [e 328 (by omega), e 330 (by omega)]; exact h.al i hi, by rw [e 0 (by omega)]; exact h.b5, by rw [e 0 (by omega)]; exact h.b6, by rw [e 1 (by omega)]; exact h.wr⟩
  rw [e k (by omega)]
  exact F.same (fun a ha => e a (by omega))
theorem RBt_rg : ∀ q ∈ RBt, 331 ≤ q.1 ∧ q.1 ≤ 361 := by decide
theorem RBt_51 : ∀ q ∈ RBt, q.1 ≤ 351 := by decide
theorem gwf_same {M M' : fm_M} (h : gwf M) (e6 : M' 331 6 = M 331 6) (e : ∀ a, a = 335 ∨ a = 337 ∨ a = 338 ∨ a = 339 → M' a = M a) : gwf M' := by
  unfold gwf; rw [e6, e 335 (by omega), e 337 (by omega), e 338 (by omega), e 339 (by omega)]; exact h
theorem EX0.same {M M' : fm_M} (h : EX0 M) (e6 : M' 331 6 = M 331 6) (e20 : M' 331 20 = M 331 20) (e : ∀ a, 332 ≤ a → a ≤ 351 → M' a = M a) : EX0 M' := by
  have rb : RB M' := fun q hq x hx => by
    have h1 := RBt_rg q hq
    have h2 := RBt_ne q hq
    have h3 := RBt_51 q hq
    rw [e q.1 (by omega) h3]; exact h.rb q hq x hx
  have en : (Gof M').n = (Gof M).n := by show (M' 331 20).toNat = (M 331 20).toNat; rw [e20]
  have ec : (Gof M').cc = (Gof M).cc := by funext j; show (M' 349 j).toNat = (M 349 j).toNat; rw [e 349 (by omega) (by omega)]
  refine ⟨rb, by rw [e6]; exact h.hg, by rw [e20]; exact h.hn, ?_, ?_, fun _ _ _ _ _ _ hF => hF.elim⟩
  · rw [en, ec, e 348 (by omega) (by omega), e 335 (by omega) (by omega), e6]; exact h.cm
  · rw [en, e 346 (by omega) (by omega), e 349 (by omega) (by omega)]; exact h.tgc
theorem RI.same {T : Nat → Int} {n : Nat} {w : Int} {M M' : fm_M} (h : RI T n w M) (e : ∀ a, 332 ≤ a → a ≤ 361 → M' a = M a) (es : ∀ b, b ≠ 0 → M' 331 b = M 331 b) : RI T n w M' := by
  refine ⟨⟨h.mt.t, by rw [es 2 (by decide)]; exact h.mt.len, by rw [e 332 (by omega) (by omega)]; exact h.mt.ch⟩, fun q hq x hx => ?_, ?_, by rw [es 22 (by decide)]; exact h.sl, by rw [es 4 (by decide)]; exact h.wr⟩
  · have h1 := RBt_rg q hq
    have h2 := RBt_ne q hq
    rw [e q.1 (by omega) h1.2]; exact h.rb q hq x hx
  · rcases h.hg with ⟨a, b⟩ | ⟨a, b, c⟩
    · exact Or.inl ⟨by rw [es 6 (by decide)]; exact a, by rw [es 20 (by decide)]; exact b⟩
    · exact Or.inr ⟨by rw [es 6 (by decide)]; exact a, gwf_same b (es 6 (by decide)) (fun q hq => e q (by omega) (by omega)), c.same (es 6 (by decide)) (es 20 (by decide)) (fun a h1 h2 => e a h1 (by omega))⟩
section Calls
variable {T : Nat → Int} {n : Nat} {w : Int} {post : Int → fm_M → Prop} {thr : String → fm_M → Prop}
theorem w_byte {M : fm_M} {a : Int} {k : Nat} (hp : post (byt a k) M) : wp_Tx_byteAt M a k post thr := by
  unfold wp_Tx_byteAt
  rw [jand_255]; exact hp
theorem CI.type {M : fm_M} (h : CI T n w M) {a a3 : Int} (ha : rg a3) (ko : ∀ c : Nat, a3 = c → 1 ≤ c → c ≤ 8 → n + c ≤ 200 → tyb a c → ∀ M', (∀ q, q ≠ 2 → q ≠ 3 → M' q = M q) → CI (txa T n a c) (n + c) w M' → post ((n + c : Nat) : Int) M') (kn : ¬ (∃ c : Nat, a3 = c ∧ 1 ≤ c ∧ c ≤ 8 ∧ n + c ≤ 200 ∧ tyb a c) → post (-1) M) : wp_CG_type M a a3 post thr := by
  have hn := h.t.1
  unfold wp_CG_type wp_Tx_append
  rw [h.len]
  refine ⟨ha, fun h1 => kn (fun ⟨c, e, h2, _⟩ => by omega), fun h1 => ⟨fun h2 => kn (fun ⟨c, e, _, h3, _⟩ => by omega), fun h2 => ⟨rg_small (by omega), fun h3 => kn (fun ⟨c, e, _, _, h4, _⟩ => by omega), fun h3 => ?_⟩⟩⟩
  obtain ⟨c, hc⟩ : ∃ c : Nat, a3 = c := ⟨a3.toNat, by omega⟩
  subst hc
  -- are they typeable
  refine ⟨fun M' v3 => M' = M ∧ ∃ k : Nat, v3 = k ∧ k ≤ c ∧ ∀ j, j < k → 33 ≤ byt a j ∧ byt a j ≤ 126, fun _ v3 => ((c : Int) - v3).toNat, ⟨rfl, 0, rfl, by omega, fun j hj => by omega⟩, ?_⟩
  rintro M' v3 ⟨rfl, k, rfl, hk, hok⟩
  unfold C_Tx_areTypeable_2
  have hbad : (byt a k < 33 ∨ 126 < byt a k) → k < c → post (-1) M' := fun hb hkc => kn (fun ⟨c', e, _, _, _, hty⟩ => by
    have : c' = c := by omega
    subst this
    have := hty k hkc; omega)
  refine ⟨rg_small (by omega), rg_small (by omega), fun h4 => ⟨rg_small (by decide), fun _ => ?_, fun h => absurd h (by decide)⟩, fun h4 => w_byte ?_⟩
  · have hty : tyb a c := fun j hj => hok j (by omega)
    -- the characters
    refine ⟨fun M2 v4 => ∃ j : Nat, v4 + 1 = ((c - j : Nat) : Int) ∧ j ≤ c ∧ M2 2 1 = ((n + j : Nat) : Int) ∧ (∀ q, q ≠ 2 → q ≠ 3 → M2 q = M' q) ∧ (∀ b, b ≠ 1 → M2 2 b = M' 2 b) ∧ ∀ p, p < n + j → M2 3 p = txa T n a c p, fun _ v4 => (v4 + 1).toNat, ⟨0, by omega, by omega, by rw [h.len]; rfl, fun _ _ _ => rfl, fun _ _ => rfl, fun p hp => by unfold txa; rw [if_pos (by omega)]; exact h.ch p (by omega)⟩, ?_⟩
    rintro M2 v4 ⟨j, hv4, hj, l2, o2, b2, t2⟩
    unfold C_Tx_append_38
    refine ⟨rg_small (by omega), fun h5 => ?_, fun h5 => ?_⟩
    · have : j = c := by omega
      subst this
      rw [l2]
      refine ko j rfl (by omega) (by omega) (by omega) hty M2 o2 ?_
      obtain ⟨g, kk, hgk, e1, e2, c1, c2, F⟩ := h.gs
      refine ⟨⟨by omega, fun p hp => ?_⟩, l2, t2, ⟨g, kk, hgk, by rw [o2 1 (by decide) (by decide)]; exact e1, by rw [o2 142 (by decide) (by decide)]; exact e2, c1.same (fun q h1 h2 => o2 q (by omega) (by omega)), c2.same (fun q h1 h2 => o2 q (by omega) (by omega)), ?_⟩, fun i x hi hx => by rw [o2 _ (by omega) (by omega)]; exact h.nx i x hi hx, fun i hi => by rw [o2 328 (by decide) (by decide), o2 330 (by decide) (by decide)]; exact h.al i hi, by rw [o2 0 (by decide) (by decide)]; exact h.b5, by rw [o2 0 (by decide) (by decide)]; exact h.b6, by rw [o2 1 (by decide) (by decide)]; exact h.wr⟩
      · unfold txa; split
        · next hh => exact h.t.2 p hh
        · exact hty _ (by omega)
      · rw [o2 kk (by omega) (by omega)]
        exact F.same (fun q hq => o2 q (by omega) (by omega))
    · obtain ⟨k4, hk4⟩ : ∃ k4 : Nat, v4 = k4 := ⟨v4.toNat, by omega⟩
      subst hk4
      refine w_byte ?_
      have hb := byt_rg a k4
      have hbi : ji2c (byt a k4) = byt a k4 := by
        have := ji2c_id ⟨(byt a k4).toNat, by omega⟩
        simp only at this
        rw [show (((byt a k4).toNat : Nat) : Int) = byt a k4 by omega] at this; exact this
      rw [l2, hbi, Int.toNat_natCast]
      refine ⟨by omega, by omega, fun M3 e3 M4 e4 => ⟨⟨j + 1, by omega, by omega, ?_, fun q h1 h2 => ?_, fun b hb => ?_, fun p hp => ?_⟩, by dsimp only; omega⟩⟩
      · rw [e4, fu_at, if_pos rfl, e3, fu_off _ _ _ (by decide), l2]; rfl
      · rw [e4, fu_off _ _ _ h1, e3, fu_off _ _ _ h2]; exact o2 q h1 h2
      · rw [e4, fu_at, if_neg hb, e3, fu_off _ _ _ (by decide)]; exact b2 b hb
      · rw [e4, fu_off _ _ _ (by decide), e3, fu_at]
        by_cases e : p = n + j
        · rw [if_pos e]; unfold txa; rw [if_neg (by omega), show c - 1 - (p - n) = k4 by omega]
        · rw [if_neg e]; exact t2 p (by omega)
  · have hb := byt_rg a k
    refine ⟨rg_small (by omega), fun h5 => ⟨rg_small (by decide), fun h => absurd rfl h, fun _ => hbad (Or.inl h5) (by omega)⟩, fun h5 => ⟨fun h6 => ⟨⟨rfl, k + 1, by omega, by omega, fun j hj => ?_⟩, by dsimp only; omega⟩, fun h6 => ⟨rg_small (by decide), fun h => absurd rfl h, fun _ => hbad (Or.inr (by omega)) (by omega)⟩⟩⟩
    by_cases e : j = k
    · rw [e]; omega
    · exact hok j (by omega)
theorem jcmp_lt {a b : Int} : jcmp a b < 0 ↔ a < b := by
  unfold jcmp; split
  · omega
  · split <;> omega
theorem jcmp_le {a b : Int} : jcmp a b ≤ 0 ↔ a ≤ b := by
  unfold jcmp; split
  · omega
  · split <;> omega
theorem RI.type {M : fm_M} (h : RI T n w M) {a a3 : Int} (ha : rg a3) (ko : ∀ c : Nat, a3 = c → 1 ≤ c → c ≤ 8 → n + c ≤ 200 → tyb a c → ∀ M', (∀ q, q ≤ 330 → M' q = M q) → (∀ q, 333 ≤ q → q ≤ 349 → M' q = M q) → (∀ b, b = 6 ∨ b = 20 ∨ b = 21 ∨ b = 22 → M' 331 b = M 331 b) → RI (txa T n a c) (n + c) w M' → post ((n + c : Nat) : Int) M') (kn : ¬ (∃ c : Nat, a3 = c ∧ 1 ≤ c ∧ c ≤ 8 ∧ n + c ≤ 200 ∧ tyb a c) → ∀ M', (∀ q, q ≤ 330 → M' q = M q) → (∀ q, 333 ≤ q → q ≤ 349 → M' q = M q) → (∀ b, b = 6 ∨ b = 20 ∨ b = 21 ∨ b = 22 → M' 331 b = M 331 b) → RI T n w M' → post (-1) M') : wp_Mo_type M a a3 post thr := by
  have hn := h.mt.t.1
  intro M0 e0
  have a0 : ∀ q, q ≠ 331 → M0 q = M q := fun q hq => by rw [e0]; exact fu_off _ _ _ hq
  have b0 : ∀ b, b ≠ 0 → M0 331 b = M 331 b := fun b hb => by rw [e0, fu_at, if_neg hb]
  have h0 : RI T n w M0 := h.same (fun q h1 h2 => a0 q (by omega)) b0
  have kn' : ¬ (∃ c : Nat, a3 = c ∧ 1 ≤ c ∧ c ≤ 8 ∧ n + c ≤ 200 ∧ tyb a c) → post (-1) M0 := fun hh => kn hh M0 (fun q hq => a0 q (by omega)) (fun q h1 h2 => a0 q (by omega)) (fun b hb => b0 b (by omega)) h0
  refine m_within ha (rg_small (by decide)) (rg_small (by decide)) (fun h1 => ⟨rg_small (by decide), fun h => absurd h (by decide), fun _ => ?_⟩) (fun h1 => ⟨rg_small (by decide), fun _ => kn' (fun ⟨c, e, _⟩ => by omega), fun h => absurd rfl h⟩)
  obtain ⟨c, hc⟩ : ∃ c : Nat, a3 = c := ⟨a3.toNat, by omega⟩
  subst hc
  rw [h0.mt.len]
  refine ⟨rg_small (by omega), fun h2 => ?_, fun h2 => kn' (fun ⟨c', e, _, _, h3, _⟩ => by omega)⟩
  refine ⟨fun M' v4 => M' = M0 ∧ ∃ k : Nat, v4 = k ∧ k ≤ c ∧ ∀ j, j < k → 33 ≤ byt a j ∧ byt a j ≤ 126, fun _ v4 => ((c : Int) - v4).toNat, ⟨rfl, 0, rfl, by omega, fun j hj => by omega⟩, ?_⟩
  rintro M' v4 ⟨rfl, k, rfl, hk, hok⟩
  have hbad : (byt a k < 33 ∨ 126 < byt a k) → k < c → post (-1) M' := fun hb hkc => kn' (fun ⟨c', e, _, _, _, hty⟩ => by
    have : c' = c := by omega
    subst this
    have := hty k hkc; omega)
  unfold C_Mo_type_32
  have eb : jland (jlshr a (8 * (k : Int))) 255 = byt a k := by rw [jland_255]; rfl
  have hb := byt_rg a k
  rw [eb]
  refine ⟨rg_small (by omega), rg_small (by omega), fun h4 => ?_, fun h4 => ⟨⟨by omega, by omega⟩, fun h5 => hbad (Or.inl (jcmp_lt.mp h5)) (by omega), fun h5 => ⟨fun h6 => ⟨⟨rfl, k + 1, by omega, by omega, fun j hj => ?_⟩, by dsimp only; omega⟩, fun h6 => hbad (Or.inr (by have : ¬ byt a k ≤ 126 := fun hh => h6 (jcmp_le.mpr hh); omega)) (by omega)⟩⟩⟩
  · have hty : tyb a c := fun j hj => hok j (by omega)
    refine ⟨fun M2 v4 => ∃ j : Nat, v4 + 1 = ((c - j : Nat) : Int) ∧ j ≤ c ∧ M2 331 2 = ((n + j : Nat) : Int) ∧ (∀ q, q ≠ 331 → q ≠ 332 → M2 q = M' q) ∧ (∀ b, b ≠ 2 → M2 331 b = M' 331 b) ∧ (∀ p, p < n + j → M2 332 p = txa T n a c p) ∧ RB M2, fun _ v4 => (v4 + 1).toNat, ⟨0, by omega, by omega, by rw [h0.mt.len]; rfl, fun _ _ _ => rfl, fun _ _ => rfl, fun p hp => by unfold txa; rw [if_pos (by omega)]; exact h0.mt.ch p (by omega), h0.rb⟩, ?_⟩
    rintro M2 v4 ⟨j, hv4, hj, l2, o2, b2, t2, rb2⟩
    unfold C_Mo_type_82
    refine ⟨rg_small (by omega), fun h5 => ?_, fun h5 => ?_⟩
    · have : j = c := by omega
      subst this
      rw [l2]
      refine ko j rfl (by omega) (by omega) (by omega) hty M2 (fun q hq => by rw [o2 q (by omega) (by omega)]; exact a0 q (by omega)) (fun q h1 h2 => by rw [o2 q (by omega) (by omega)]; exact a0 q (by omega)) (fun b hb => by rw [b2 b (by omega)]; exact b0 b (by omega)) ⟨⟨⟨by omega, fun p hp => ?_⟩, l2, t2⟩, rb2, ?_, by rw [b2 22 (by decide)]; exact h0.sl, by rw [b2 4 (by decide)]; exact h0.wr⟩
      · unfold txa; split
        · next hh => exact h.mt.t.2 p hh
        · exact hty _ (by omega)
      · rcases h0.hg with ⟨x1, x2⟩ | ⟨x1, x2, x3⟩
        · exact Or.inl ⟨by rw [b2 6 (by decide)]; exact x1, by rw [b2 20 (by decide)]; exact x2⟩
        · refine Or.inr ⟨by rw [b2 6 (by decide)]; exact x1, gwf_same x2 (b2 6 (by decide)) (fun q hq => o2 q (by omega) (by omega)), ?_⟩
          have en : (Gof M2).n = (Gof M').n := by show (M2 331 20).toNat = (M' 331 20).toNat; rw [b2 20 (by decide)]
          have ec : (Gof M2).cc = (Gof M').cc := by funext q; show (M2 349 q).toNat = (M' 349 q).toNat; rw [o2 349 (by decide) (by decide)]
          refine ⟨rb2, by rw [b2 6 (by decide)]; exact x3.hg, by rw [b2 20 (by decide)]; exact x3.hn, ?_, ?_, fun _ _ _ _ _ _ hF => hF.elim⟩
          · rw [en, ec, o2 348 (by decide) (by decide), o2 335 (by decide) (by decide), b2 6 (by decide)]; exact x3.cm
          · rw [en, o2 346 (by decide) (by decide), o2 349 (by decide) (by decide)]; exact x3.tgc
    · obtain ⟨k4, hk4⟩ : ∃ k4 : Nat, v4 = k4 := ⟨v4.toNat, by omega⟩
      subst hk4
      have eb4 : jland (jlshr a (8 * (k4 : Int))) 255 = byt a k4 := by rw [jland_255]; rfl
      have hb4 := byt_rg a k4
      rw [l2, eb4, Int.toNat_natCast]
      refine ⟨by omega, fun M3 e3 M4 e4 => ⟨⟨j + 1, by omega, by omega, ?_, fun q h1 h2 => ?_, fun b hb => ?_, fun p hp => ?_, ?_⟩, by dsimp only; omega⟩⟩
      · rw [e4, fu_at, if_pos rfl, e3, fu_off _ _ _ (by decide), l2]; rfl
      · rw [e4, fu_off _ _ _ h1, e3, fu_off _ _ _ h2]; exact o2 q h1 h2
      · rw [e4, fu_at, if_neg hb, e3, fu_off _ _ _ (by decide)]; exact b2 b hb
      · rw [e4, fu_off _ _ _ (by decide), e3, fu_at]
        by_cases e : p = n + j
        · rw [if_pos e]; unfold txa; rw [if_neg (by omega), show c - 1 - (p - n) = k4 by omega]
        · rw [if_neg e]; exact t2 p (by omega)
      · rw [e4, e3]; exact (rb2.u 332 200 0 65535 (by decide) _ _ (by omega)).o (by decide) _ _
  · by_cases e : j = k
    · rw [e]
      have h7 : ¬ byt a k < 33 := fun hh => h5 (jcmp_lt.mpr hh)
      have h8 := jcmp_le.mp h6
      omega
    · exact hok j (by omega)
end Calls
end Pu_cf
section Pu_cg
section Calls2
variable {T : Nat → Int} {n : Nat} {w : Int} {post : Int → fm_M → Prop} {thr : String → fm_M → Prop}
theorem txt0 {T : Nat → Int} : txt T 0 := ⟨by omega, fun p hp => by omega⟩
theorem CI.wipe' {M : fm_M} (h : CI T n w M) {M' : fm_M} (o : ∀ q, q ≠ 2 → M' q = M q) (l : M' 2 1 = 0) : CI T 0 w M' := by
  obtain ⟨g, k, hgk, e1, e2, c1, c2, F⟩ := h.gs
  refine ⟨txt0, l, fun p hp => by omega, ⟨g, k, hgk, by rw [o 1 (by decide)]; exact e1, by rw [o 142 (by decide)]; exact e2, c1.same (fun q h1 h2 => o q (by omega)), c2.same (fun q h1 h2 => o q (by omega)), ?_⟩, fun i x hi hx => by rw [o _ (by omega)]; exact h.nx i x hi hx, fun i hi => by rw [o 328 (by decide), o 330 (by decide)]; exact h.al i hi, by rw [o 0 (by decide)]; exact h.b5, by rw [o 0 (by decide)]; exact h.b6, by rw [o 1 (by decide)]; exact h.wr⟩
  rw [o k (by omega)]
  exact F.same (fun q hq => o q (by omega))
theorem RI.wipe' {M : fm_M} (h : RI T n w M) {M' : fm_M} (o : ∀ q, q ≠ 331 → M' q = M q) (b : ∀ x, x ≠ 0 → x ≠ 2 → M' 331 x = M 331 x) (l : M' 331 2 = 0) : RI T 0 w M' := by
  refine ⟨⟨txt0, l, fun p hp => by omega⟩, fun q hq x hx => by rw [o q.1 (RBt_ne q hq)]; exact h.rb q hq x hx, ?_, by rw [b 22 (by decide) (by decide)]; exact h.sl, by rw [b 4 (by decide) (by decide)]; exact h.wr⟩
  rcases h.hg with ⟨x1, x2⟩ | ⟨x1, x2, x3⟩
  · exact Or.inl ⟨by rw [b 6 (by decide) (by decide)]; exact x1, by rw [b 20 (by decide) (by decide)]; exact x2⟩
  · exact Or.inr ⟨by rw [b 6 (by decide) (by decide)]; exact x1, gwf_same x2 (b 6 (by decide) (by decide)) (fun q hq => o q (by omega)), x3.same (b 6 (by decide) (by decide)) (b 20 (by decide) (by decide)) (fun q h1 h2 => o q (by omega))⟩
/-- the class reads -/
theorem CI.read {M : fm_M} (h : CI T n w M) (ko : ∀ c q : Nat, pAll T n = .ok c q → c ≤ 10 → ∀ M', (∀ a, 331 ≤ a → M' a = M a) → CI T 0 w M' → CX 1 (Yof T n c) M' → post c M') (kb : ∀ b : Nat, pAll T n = .bad b → ∀ M', (∀ a, 331 ≤ a → M' a = M a) → CI T n b M' → (∀ st Y, CX st Y M → CX st Y M') → thr IAE M') : wp_CG_read M post thr := by
  obtain ⟨g, k, hgk, e1, e2, c1, c2, F⟩ := h.gs
  have hg : g = 4 ∨ g = 143 := by omega
  have hk : k = 4 ∨ k = 143 := by omega
  have S : CS T n g M := ⟨h.t, h.len, h.ch, by rw [e1]; rfl, hg⟩
  unfold wp_CG_read
  rw [e2, Int.toNat_natCast]
  refine c_readIn S c1 (fun c q M1 M2 hA f1 hc cc1 e M3 e3 M4 e4 M5 e5 M6 e6 M7 e7 => ?_) (fun b M1 hA f1 w1 => kb b hA M1 (fun a ha => f1.cell a (by omega) (by omega)) ?_ (fun st Y hx => hx.same hk e2 (fun a ha => f1.cell a (by omega) (by omega))))
  · have a1 : ∀ a, a ≠ 1 → ¬ (g ≤ a ∧ a < g + 137) → M1 a = M a := fun a h1 h2 => f1.cell a h1 (by omega)
    have cb1 := f1.cb c1
    rw [Int.toNat_natCast] at e3
    intro M8 e8 M9 e9 M10 e10
    -- what each step changes
    have o : ∀ a, a ≠ 0 → a ≠ 1 → a ≠ 2 → a ≠ 142 → M10 a = M1 a := fun a h0 h1 h2 h3 => by
      rw [e10, fu_off _ _ _ h2, e9, fu_off _ _ _ h0, e8, fu_off _ _ _ h0, e7, fu_off _ _ _ h3, e6, fu_off _ _ _ h3, e5, fu_off _ _ _ h3, e4, fu_off _ _ _ h3, e3, fu_off _ _ _ h3, e, fu_off _ _ _ h1]
    have f142 : M10 142 = M7 142 := by rw [e10, fu_off _ _ _ (by decide), e9, fu_off _ _ _ (by decide), e8, fu_off _ _ _ (by decide)]
    have z0 : M10 142 0 = g := by rw [f142, e7, fu_at, if_neg (by decide), e6, fu_at, if_neg (by decide), e5, fu_at, if_neg (by decide), e4, fu_at, if_neg (by decide), e3, fu_at, if_pos rfl]
    have z1 : M10 142 1 = 0 := by rw [f142, e7, fu_at, if_neg (by decide), e6, fu_at, if_neg (by decide), e5, fu_at, if_neg (by decide), e4, fu_at, if_pos rfl]
    have z4 : M10 142 4 = 0 := by rw [f142, e7, fu_at, if_neg (by decide), e6, fu_at, if_neg (by decide), e5, fu_at, if_pos rfl]
    have z2 : M10 142 2 = -1 := by rw [f142, e7, fu_at, if_pos rfl]
    have z3 : M10 142 3 = 0 := by rw [f142, e7, fu_at, if_neg (by decide), e6, fu_at, if_pos rfl]
    have y1 : M10 1 1 = k := by rw [e10, fu_off _ _ _ (by decide), e9, fu_off _ _ _ (by decide), e8, fu_off _ _ _ (by decide), e7, fu_off _ _ _ (by decide), e6, fu_off _ _ _ (by decide), e5, fu_off _ _ _ (by decide), e4, fu_off _ _ _ (by decide), e3, fu_off _ _ _ (by decide), e, fu_at, if_pos rfl]
    have x3 : M10 1 3 = w := by rw [e10, fu_off _ _ _ (by decide), e9, fu_off _ _ _ (by decide), e8, fu_off _ _ _ (by decide), e7, fu_off _ _ _ (by decide), e6, fu_off _ _ _ (by decide), e5, fu_off _ _ _ (by decide), e4, fu_off _ _ _ (by decide), e3, fu_off _ _ _ (by decide), e, fu_at, if_neg (by decide), f1.slot 3 (by decide)]; exact h.wr
    have x5 : M10 0 5 = 1 := by rw [e10, fu_off _ _ _ (by decide), e9, fu_at, if_neg (by decide), e8, fu_at, if_pos rfl]
    have x6 : M10 0 6 = 0 := by rw [e10, fu_off _ _ _ (by decide), e9, fu_at, if_pos rfl]
    have l10 : M10 2 1 = 0 := by rw [e10, fu_at, if_pos rfl]
    have hcg : 0 ≤ M1 g 4 ∧ M1 g 4 ≤ 10 := by
      have := cb1.g' (o := 0) (s := 4) (t := 5) (a := 0) (b := 10) (by decide) (x := 4) (by omega) (by omega)
      simpa using this
    have hg10 : (M10 142 0).toNat = g := by rw [z0]; rfl
    rw [hg10, o g (by omega) (by omega) (by omega) (by omega), hc]
    rw [hc] at hcg
    refine ⟨(tcG hg).1, ko c q hA (by omega) M10 (fun a ha => by rw [o a (by omega) (by omega) (by omega) (by omega), a1 a (by omega) (by omega)]) ⟨txt0, l10, fun p hp => by omega, ⟨k, g, by omega, y1, z0, ?_, ?_, ?_⟩, fun i x hi hx => ?_, fun i hi => ?_, Or.inr x5, Or.inl x6, x3⟩ ⟨fun hs => absurd hs (by decide), fun _ => ⟨x5, ?_⟩, fun _ => ⟨z1, z2, x6⟩, fun hs => absurd hs (by decide)⟩⟩
    · exact c2.same (fun a h1 h2 => by rw [o a (by omega) (by omega) (by omega) (by omega), a1 a (by omega) (by omega)])
    · exact cb1.same (fun a h1 h2 => o a (by omega) (by omega) (by omega) (by omega))
    · refine ⟨by omega, by omega, fun i v hi hv => ?_, fun v hv => ?_, fun i hi => by omega, by rw [z3]; exact rg_small (by decide)⟩
      · rw [o _ (by omega) (by omega) (by omega) (by omega), a1 _ (by omega) (by omega)]; exact F.val i v hi hv
      · rw [o 308 (by decide) (by decide) (by decide) (by decide), a1 308 (by omega) (by omega)]; exact F.com v hv
    · rw [o _ (by omega) (by omega) (by omega) (by omega), a1 _ (by omega) (by omega)]; exact h.nx i x hi hx
    · rw [o 328 (by decide) (by decide) (by decide) (by decide), a1 328 (by omega) (by omega), o 330 (by decide) (by decide) (by decide) (by decide), a1 330 (by omega) (by omega)]; exact h.al i hi
    · rw [z0, Int.toNat_natCast]
      exact (CY_of h.t hA (by omega) cb1 hc cc1).same (fun a h1 h2 => o a (by omega) (by omega) (by omega) (by omega))
  · have a1 : ∀ a, a ≠ 1 → ¬ (g ≤ a ∧ a < g + 137) → M1 a = M a := fun a h1 h2 => f1.cell a h1 (by omega)
    refine ⟨h.t, by rw [a1 2 (by decide) (by omega)]; exact h.len, by rw [a1 3 (by decide) (by omega)]; exact h.ch, ⟨g, k, hgk, by rw [f1.slot 1 (by decide) (by decide)]; exact e1, by rw [a1 142 (by decide) (by omega)]; exact e2, f1.cb c1, c2.same (fun a h1 h2 => a1 a (by omega) (by omega)), ?_⟩, fun i x hi hx => by rw [a1 _ (by omega) (by omega)]; exact h.nx i x hi hx, fun i hi => by rw [a1 328 (by decide) (by omega), a1 330 (by decide) (by omega)]; exact h.al i hi, by rw [a1 0 (by decide) (by omega)]; exact h.b5, by rw [a1 0 (by decide) (by omega)]; exact h.b6, w1⟩
    rw [a1 k (by omega) (by omega)]
    exact F.same (fun a ha => a1 a (by omega) (by omega))
/-- the reference reads -/
theorem RI.read {M : fm_M} (h : RI T n w M) (ko : ∀ c q : Nat, pAll T n = .ok c q → ∀ M', (∀ a, a ≤ 330 → M' a = M a) → M' 362 = M 362 → M' 331 0 = 0 → RI T 0 w M' → RX 1 (Yof T n c) M' → post c M') (kb : ∀ b : Nat, pAll T n = .bad b → ∀ M', (∀ a, a ≤ 330 → M' a = M a) → M' 331 0 = 1 → RI T n b M' → (∀ st Y, RX st Y M → RX st Y M') → post 0 M') : wp_Mo_read M post thr := by
  intro M0 e0
  have a0 : ∀ q, q ≠ 331 → M0 q = M q := fun q hq => by rw [e0]; exact fu_off _ _ _ hq
  have h0 : RI T n w M0 := h.same (fun q h1 h2 => a0 q (by omega)) (fun b hb => by rw [e0, fu_at, if_neg hb])
  have hg3 : M0 331 6 = -1 ∨ M0 331 6 = 0 ∨ M0 331 6 = 1 := by
    rcases h0.hg with ⟨a, _⟩ | ⟨a | a, _⟩
    · exact Or.inl a
    · exact Or.inr (Or.inl a)
    · exact Or.inr (Or.inr a)
  have low : ∀ (M' : fm_M) (bs : List Nat), sv cs12 bs M0 M' → ∀ a, a ≤ 330 → M' a = M a := fun M' _ s a ha => by
    rw [s.cell a (fun hh => by
      have : ∀ x ∈ cs12, 331 ≤ x := by decide
      have := this a hh; omega) (by omega)]
    exact a0 a (by omega)
  refine m_readAll h0.mt h0.rb hg3 (fun d c q M1 hd hgd hA s1 rb1 kp d1 c1 w1 mc1 => ⟨rg_small (by decide), fun _ M2 e2 M3 e3 M4 e4 M5 e5 M6 e6 => ?_, fun h => absurd h (by decide)⟩) (fun d x M1 hd hgd hA s1 rb1 kp w1 => ⟨rg_small (by decide), fun h => absurd rfl h, fun _ M2 e2 => kb x hA M2 ?_ (by rw [e2, fu_at, if_pos rfl]) ?_ ?_⟩)
  · have o : ∀ a, a ≠ 331 → M6 a = M1 a := fun a ha => by rw [e6, fu_off _ _ _ ha, e5, fu_off _ _ _ ha, e4, fu_off _ _ _ ha, e3, fu_off _ _ _ ha, e2, fu_off _ _ _ ha]
    have z6 : M6 331 6 = d := by rw [e6, fu_at, if_neg (by decide), e5, fu_at, if_neg (by decide), e4, fu_at, if_neg (by decide), e3, fu_at, if_neg (by decide), e2, fu_at, if_pos rfl, d1]
    have z2 : M6 331 2 = 0 := by rw [e6, fu_at, if_neg (by decide), e5, fu_at, if_neg (by decide), e4, fu_at, if_neg (by decide), e3, fu_at, if_pos rfl]
    have z20 : M6 331 20 = 0 := by rw [e6, fu_at, if_neg (by decide), e5, fu_at, if_neg (by decide), e4, fu_at, if_pos rfl]
    have z4 : M6 331 4 = w := by rw [e6, fu_at, if_neg (by decide), e5, fu_at, if_neg (by decide), e4, fu_at, if_neg (by decide), e3, fu_at, if_neg (by decide), e2, fu_at, if_neg (by decide), s1.slot 4 (by decide)]; exact h0.wr
    have z21 : M6 331 21 = -1 := by rw [e6, fu_at, if_neg (by decide), e5, fu_at, if_pos rfl]
    have z22 : M6 331 22 = 0 := by rw [e6, fu_at, if_pos rfl]
    have rb6 : RB M6 := fun q hq x hx => by rw [o q.1 (RBt_ne q hq)]; exact rb1 q hq x hx
    have n6 : (Gof M6).n = 0 := by show (M6 331 20).toNat = 0; rw [z20]; rfl
    have z0 : M6 331 0 = 0 := by rw [e6, fu_at, if_neg (by decide), e5, fu_at, if_neg (by decide), e4, fu_at, if_neg (by decide), e3, fu_at, if_neg (by decide), e2, fu_at, if_neg (by decide), s1.slot 0 (by decide), e0, fu_at, if_pos rfl]
    have e335 : M6 335 (M6 331 6).toNat = c := by rw [o 335 (by decide), z6, Int.toNat_natCast]; exact c1
    rw [e335]
    refine ⟨by omega, ko c q hA M6 (fun a ha => by rw [o a (by omega)]; exact low M1 _ s1 a ha) (by rw [o 362 (by decide), s1.cell 362 (by decide) (by decide), a0 362 (by decide)]) z0 ⟨⟨txt0, z2, fun p hp => by omega⟩, rb6, Or.inr ⟨by omega, fun c' hc' => ?_, ⟨rb6, by omega, by omega, ?_, ?_, fun _ _ _ _ _ _ hF => hF.elim⟩⟩, Or.inl z22, z4⟩ ⟨fun hs => absurd hs (by decide), fun _ => ⟨by omega, ?_⟩, fun _ => ⟨z20, z21, z22⟩, fun hs => absurd hs (by decide)⟩⟩
    · have ed : (M6 331 6).toNat = d := by rw [z6]; rfl
      rw [ed, o 335 (by decide), c1] at hc'
      rw [ed, o 337 (by decide), o 338 (by decide), o 339 (by decide)]
      exact w1 c' (by omega)
    · rw [n6]; intro j k hj; omega
    · rw [n6]; intro j hj; omega
    · have hc10 := rb1.g 335 2 0 10 (by decide) (x := d) (by omega)
      rw [z6, Int.toNat_natCast]
      exact (RY_of h.mt.t hA (by omega) rb1 hd c1 mc1).same (fun a h1 h2 => o a (by omega))
  · intro a ha
    rw [e2, fu_off _ _ _ (by omega)]; exact low M1 _ s1 a ha
  · have o : ∀ a, a ≠ 331 → M2 a = M1 a := fun a ha => by rw [e2]; exact fu_off _ _ _ ha
    have b2 : ∀ b, b ≠ 0 → b ≠ 3 → b ≠ 4 → b ≠ 5 → b ≠ 7 → M2 331 b = M0 331 b := fun b h0 h3 h4 h5 h7 => by rw [e2, fu_at, if_neg h0]; exact s1.slot b (by simp; omega)
    have rb2 : RB M2 := fun q hq x hx => by rw [o q.1 (RBt_ne q hq)]; exact rb1 q hq x hx
    refine ⟨⟨h.mt.t, by rw [b2 2 (by decide) (by decide) (by decide) (by decide) (by decide)]; exact h0.mt.len, by rw [o 332 (by decide), s1.cell 332 (by decide) (by decide)]; exact h0.mt.ch⟩, rb2, ?_, by rw [b2 22 (by decide) (by decide) (by decide) (by decide) (by decide)]; exact h0.sl, by rw [e2, fu_at, if_neg (by decide)]; exact w1⟩
    have z6 : M2 331 6 = M0 331 6 := b2 6 (by decide) (by decide) (by decide) (by decide) (by decide)
    have z20 : M2 331 20 = M0 331 20 := b2 20 (by decide) (by decide) (by decide) (by decide) (by decide)
    rcases h0.hg with ⟨x1, x2⟩ | ⟨x1, x2, x3⟩
    · exact Or.inl ⟨by rw [z6]; exact x1, by rw [z20]; exact x2⟩
    · obtain ⟨k, hk, hk1⟩ : ∃ k : Nat, M0 331 6 = k ∧ k ≤ 1 := ⟨(M0 331 6).toNat, by omega, by omega⟩
      have hkd : k ≠ d := fun e => hgd (by rw [← e, hk])
      refine Or.inr ⟨by rw [z6]; exact x1, fun c' hc' => ?_, ⟨rb2, by rw [z6]; exact x3.hg, by rw [z20]; exact x3.hn, ?_, ?_, fun _ _ _ _ _ _ hF => hF.elim⟩⟩
      · have ek : (M2 331 6).toNat = k := by rw [z6, hk]; rfl
        have ek0 : (M0 331 6).toNat = k := by rw [hk]; rfl
        rw [ek, o 335 (by decide), kp.c335 k hkd] at hc'
        have hb := h0.rb.g 335 2 0 10 (by decide) (x := k) (by omega)
        have h7 := kp.c337 (10 * k + c') (by omega)
        have hb4 := h0.rb.g 337 20 0 4 (by decide) (x := 10 * k + c') (by omega)
        have x2' := x2 c' (by rw [ek0]; exact hc')
        rw [ek0] at x2'
        have h9 : ∀ b, b < 4 → M1 339 (4 * (10 * k + c') + b) = M0 339 (4 * (10 * k + c') + b) := fun b hb => kp.c339 _ (by omega)
        rw [ek, o 337 (by decide), o 338 (by decide), o 339 (by decide), h7.1, h7.2]
        refine ⟨x2'.1, fun b hb => ?_, ?_⟩
        · rw [h9 b (by omega)]; exact x2'.2.1 b hb
        · rw [x2'.2.2]; exact sm_congr (fun b hb => by rw [h9 b (by omega)])
      · have en : (Gof M2).n = (Gof M0).n := by show (M2 331 20).toNat = (M0 331 20).toNat; rw [z20]
        have ec : (Gof M2).cc = (Gof M0).cc := by funext j; show (M2 349 j).toNat = (M0 349 j).toNat; rw [o 349 (by decide), s1.cell 349 (by decide) (by decide)]
        rw [en, ec, o 348 (by decide), s1.cell 348 (by decide) (by decide), z6, o 335 (by decide), hk, Int.toNat_natCast, kp.c335 k hkd]
        have := x3.cm
        rw [hk, Int.toNat_natCast] at this
        exact this
      · have en : (Gof M2).n = (Gof M0).n := by show (M2 331 20).toNat = (M0 331 20).toNat; rw [z20]
        rw [en, o 346 (by decide), o 349 (by decide), s1.cell 346 (by decide) (by decide), s1.cell 349 (by decide) (by decide)]
        exact x3.tgc
  · intro st Y hx
    have o : ∀ a, a ≠ 331 → M2 a = M1 a := fun a ha => by rw [e2]; exact fu_off _ _ _ ha
    have b2 : ∀ b, b ≠ 0 → b ≠ 3 → b ≠ 4 → b ≠ 5 → b ≠ 7 → M2 331 b = M 331 b := fun b h0 h3 h4 h5 h7 => by
      rw [e2, fu_at, if_neg h0, s1.slot b (by simp; omega), e0, fu_at, if_neg h0]
    have c45 : ∀ a, 345 ≤ a → a ≤ 349 → M2 a = M a := fun a h1 h2 => by rw [o a (by omega), s1.cell a (by simp; omega) (by omega), a0 a (by omega)]
    refine ⟨fun hs => by rw [b2 6 (by decide) (by decide) (by decide) (by decide) (by decide)]; exact hx.a0 hs, fun hs => ?_, fun hs => by rw [b2 20 (by decide) (by decide) (by decide) (by decide) (by decide), b2 21 (by decide) (by decide) (by decide) (by decide) (by decide), b2 22 (by decide) (by decide) (by decide) (by decide) (by decide)]; exact hx.z hs, fun hs => ?_⟩
    · rw [b2 6 (by decide) (by decide) (by decide) (by decide) (by decide)]
      obtain ⟨hg01, hyy⟩ := hx.a1 hs
      refine ⟨hg01, ?_⟩
      have hy0 : RY Y (M 331 6).toNat M0 := hyy.same (fun a h1 h2 => a0 a (by omega))
      have e6 : M0 331 6 = M 331 6 := by rw [e0, fu_at, if_neg (by decide)]
      exact (hy0.kp h0.rb (by omega) hd (fun hh => hgd (by rw [e6]; omega)) kp).same (fun a h1 h2 => o a (by omega))
    · obtain ⟨f1, f2, f3⟩ := hx.f hs
      exact ⟨f1.same (b2 20 (by decide) (by decide) (by decide) (by decide) (by decide)) c45, by rw [b2 21 (by decide) (by decide) (by decide) (by decide) (by decide)]; exact f2, by rw [b2 22 (by decide) (by decide) (by decide) (by decide) (by decide)]; exact f3⟩
end Calls2
end Pu_cg
section Pu_ch
section Calls3
variable {T : Nat → Int} {n : Nat} {w : Int} {post : Int → fm_M → Prop} {thr : String → fm_M → Prop}
/-- the class solves -/
theorem CI.solve {M : fm_M} (h : CI T n w M) {st : Nat} {Y : Ga} (hx : CX st Y M) (ko : ∀ r M', st ≠ 0 → r = (SR Y).2.2.2 → rg r → (∀ a, 331 ≤ a → M' a = M a) → CI T n w M' → CX 2 Y M' → post r M') (kb : st = 0 → thr "java/lang/IllegalStateException" M) : wp_CG_solve M post thr := by
  obtain ⟨g, k, hgk, e1, e2, c1, c2, F⟩ := h.gs
  have hk : k = 4 ∨ k = 143 := by omega
  have G : CG1 k M := ⟨hk, by rw [e2]; rfl, c2⟩
  obtain ⟨m, hm, hm10⟩ := G.cnt
  unfold wp_CG_solve
  refine ⟨rg_small (by rcases h.b5 with e | e <;> rw [e] <;> decide), fun hne5 => ?_, fun h5 => kb ?_⟩
  rotate_left
  · apply Classical.byContradiction; intro hs; rw [(hx.a1 hs).1] at h5; exact absurd h5 (by decide)
  have hst : st ≠ 0 := fun hs => hne5 (hx.a0 hs)
  have hy : CY Y k M := by have := (hx.a1 hst).2; rw [e2, Int.toNat_natCast] at this; exact this
  -- what is kept of all
  have back : ∀ M' : fm_M, (∀ a, a ≤ 140 ∨ (143 ≤ a ∧ a ≤ 280) ∨ 331 ≤ a → a ≠ 0 → M' a = M a) → (∀ b, b ≠ 6 → M' 0 b = M 0 b) → (M' 0 6 = 0 ∨ M' 0 6 = 1) → M' 142 0 = k → FB m M' → nxr M' → alr M' → CI T n w M' := fun M' o b0 b6 z F' N' A' => by
    refine ⟨h.t, by rw [o 2 (by omega) (by omega)]; exact h.len, by rw [o 3 (by omega) (by omega)]; exact h.ch, ⟨g, k, hgk, by rw [o 1 (by omega) (by omega)]; exact e1, z, c1.same (fun a h1 h2 => o a (by omega) (by omega)), c2.same (fun a h1 h2 => o a (by omega) (by omega)), ?_⟩, N', A', by rw [b0 5 (by decide)]; exact h.b5, b6, by rw [o 1 (by omega) (by omega)]; exact h.wr⟩
    rw [o k (by omega) (by omega), hm]; exact F'
  refine x_explore hy G hm hm10 F.val F.com (fun r M1 cr1 f1 F1 rr hk1 => ?_)
  have g1 := G.e2 f1
  have m1 : M1 k 4 = m := by rw [f1.cell k (by omega) (by omega) (by omega) (by omega)]; exact hm
  have N1 : nxr M1 := fun i x hi hx => by rw [f1.cell _ (by omega) (by omega) (by omega) (by omega)]; exact h.nx i x hi hx
  refine x_link g1 m1 hm10 F1 N1 (fun M2 f2 F2 N2 K2 => ?_)
  have o2 : ∀ a, a ≤ 140 ∨ (143 ≤ a ∧ a ≤ 280) ∨ 309 ≤ a → M2 a = M a := fun a ha => by rw [f2.cell a (by omega) (by omega) (by omega), f1.cell a (by omega) (by omega) (by omega) (by omega)]
  have z2 : M2 142 0 = k := by rw [f2.cell 142 (by decide) (by decide) (by decide), f1.gm]; exact e2
  have A2 : alr M2 := fun i hi => by rw [o2 328 (by omega), o2 330 (by omega)]; exact h.al i hi
  have n142 : M2 142 = M1 142 := f2.cell 142 (by decide) (by decide) (by decide)
  obtain ⟨q1, q2, q3, q4, q5⟩ := cr1
  -- what is kept of the game and its states
  have xb : ∀ M' : fm_M, (∀ a, (4 ≤ a ∧ a ≤ 140) ∨ (142 ≤ a ∧ a ≤ 289) → M' a = M2 a) → M' 0 5 = 1 → (M' 0 6 = 1 ↔ 0 < r) → CX 2 Y M' := fun M' o h5 h6 => by
    refine ⟨fun hs => absurd hs (by decide), fun _ => ⟨h5, ?_⟩, fun hs => absurd rfl hs, fun _ => ⟨q1.same (by rw [o 142 (by omega), n142]) (by rw [o 142 (by omega), n142]) (fun a h1 h2 => by rw [o a (by omega), f2.cell a (by omega) (by omega) (by omega)]), by rw [o 142 (by omega), n142]; exact q2, by rw [o 142 (by omega), n142]; exact q3, by unfold omb; rw [o 142 (by omega), n142]; exact q5, by rw [h6, q4]⟩⟩
    rw [o 142 (by omega), z2, Int.toNat_natCast]
    exact hy.same (fun a h1 h2 => by rw [o a (by omega), o2 a (by omega)])
  have h51 : M 0 5 = 1 := (hx.a1 hst).1
  -- with values or without
  have fin : ∀ s0 : Int, (s0 = 0 ∨ s0 = 1) → (s0 = 1 ↔ 0 < r) → B_CG_solve_42 post thr M2 r s0 := by
    intro s0 hs0 hpi
    have hpos := hpi.mp
    refine ⟨hs0, fun M3 e3 => ?_⟩
    have a3 : ∀ a, a ≠ 0 → M3 a = M2 a := fun a ha => by rw [e3]; exact fu_off _ _ _ ha
    have b3 : ∀ b, b ≠ 6 → M3 0 b = M 0 b := fun b hb => by rw [e3, fu_at, if_neg hb, o2 0 (by omega)]
    have s3 : M3 0 6 = s0 := by rw [e3, fu_at, if_pos rfl]
    have F3 : FB m M3 := F2.same (fun a ha => a3 a (by omega))
    have N3 : nxr M3 := fun i x hi hx => by rw [a3 _ (by omega)]; exact N2 i x hi hx
    have A3 : alr M3 := fun i hi => by rw [a3 328 (by decide), a3 330 (by decide)]; exact A2 i hi
    have o3 : ∀ a, a ≤ 140 ∨ (143 ≤ a ∧ a ≤ 280) ∨ 331 ≤ a → a ≠ 0 → M3 a = M a := fun a ha h0 => by rw [a3 a h0, o2 a (by omega)]
    have z3 : M3 142 0 = k := by rw [a3 142 (by decide)]; exact z2
    rw [s3]
    refine ⟨rg_small (by omega), fun _ => ko r M3 hst q4 rr (fun a ha => o3 a (by omega) (by omega)) (back M3 o3 b3 (by rw [s3]; exact hs0) z3 F3 N3 A3) (xb M3 (fun a ha => a3 a (by omega)) (by rw [b3 5 (by decide)]; exact h51) (by rw [s3]; exact hpi)), fun hne => ?_⟩
    have hr : 0 < r := hpos (by omega)
    obtain ⟨lk1, K1⟩ := hk1 hr
    have n2 : M2 142 = M1 142 := f2.cell 142 (by decide) (by decide) (by decide)
    have V2 : VS k m M2 := ⟨g1.lf f2, by rw [f2.cell k (by omega) (by omega) (by omega)]; exact m1, hm10, F2, by rw [n2]; exact lk1, K2 K1⟩
    have V3 : VS k m M3 := V2.same (fun a ha => a3 a (by omega))
    refine v_compute V3 (fun M4 f4 => ?_)
    have V4 := V3.vg f4
    have A4 : alr M4 := fun i hi => by rw [f4 328 (by omega), f4 330 (by omega)]; exact A3 i hi
    refine v_choose V4 A4 (fun M5 f5 A5 => ?_)
    have V5 := V4.vf f5
    have f45 : vf M3 M5 := f4.vf.tr f5
    refine ko r M5 hst q4 rr (fun a ha => by rw [f45 a (by omega)]; exact o3 a (by omega) (by omega)) (back M5 (fun a ha h0 => by rw [f45 a (by omega)]; exact o3 a ha h0) (fun b hb => by rw [f45 0 (by omega)]; exact b3 b hb) (by rw [f45 0 (by omega), s3]; exact hs0) (by rw [f45 142 (by omega)]; exact z3) V5.fb (fun i x hi hx => by rw [f45 _ (by omega)]; exact N3 i x hi hx) A5) (xb M5 (fun a ha => by rw [f45 a (by omega), a3 a (by omega)]) (by rw [f45 0 (by omega), b3 5 (by decide)]; exact h51) (by rw [f45 0 (by omega), s3]; exact hpi))
  refine ⟨rr, fun h4 => fin 0 (Or.inl rfl) ⟨fun h => absurd h (by decide), fun h => by omega⟩, fun h4 => fin 1 (Or.inr rfl) ⟨fun _ => by omega, fun _ => rfl⟩⟩
end Calls3
end Pu_ch
section Pu_ci
/-! The calls that only look. -/
section Calls4
variable {T : Nat → Int} {n : Nat} {w : Int} {post : Int → fm_M → Prop} {thr : String → fm_M → Prop}
/-- what the class's looks need -/
def LK (g m : Nat) (M : fm_M) : Prop :=
  (CG1 g M) ∧
  (M g 4 = m) ∧
  (m ≤ 10) ∧
  (FB m M) ∧
  (nxr M) ∧
  (alr M)
theorem LK.g1 {g m : Nat} {M : fm_M} (h_ : LK g m M) : CG1 g M := h_.1
theorem LK.hm {g m : Nat} {M : fm_M} (h_ : LK g m M) : M g 4 = m := h_.2.1
theorem LK.m10 {g m : Nat} {M : fm_M} (h_ : LK g m M) : m ≤ 10 := h_.2.2.1
theorem LK.fb {g m : Nat} {M : fm_M} (h_ : LK g m M) : FB m M := h_.2.2.2.1
theorem LK.nx {g m : Nat} {M : fm_M} (h_ : LK g m M) : nxr M := h_.2.2.2.2.1
theorem LK.al {g m : Nat} {M : fm_M} (h_ : LK g m M) : alr M := h_.2.2.2.2.2
theorem CI.lk {M : fm_M} (h : CI T n w M) : ∃ g m : Nat, LK g m M := by
  obtain ⟨g, k, hgk, e1, e2, c1, c2, F⟩ := h.gs
  have hk : k = 4 ∨ k = 143 := by omega
  have G : CG1 k M := ⟨hk, by rw [e2]; rfl, c2⟩
  obtain ⟨m, hm, hm10⟩ := G.cnt
  exact ⟨k, m, G, hm, hm10, by rw [hm] at F; exact F, h.nx, h.al⟩
/-- the answers, by what was found -/
def avr (st : Nat) (Y : Ga) (a b r : Int) : Prop := ((st = 2 ∧ (0 ≤ a ∧ a < (SR Y).1.1) ∧ (0 ≤ b ∧ b < 3) ∧ 0 < Y.mo b.toNat) ∧ r = (SR Y).1.2 a.toNat b.toNat) ∨ (¬ (st = 2 ∧ (0 ≤ a ∧ a < (SR Y).1.1) ∧ (0 ≤ b ∧ b < 3) ∧ 0 < Y.mo b.toNat) ∧ r = -1)
def atg (st : Nat) (Y : Ga) (a r : Int) : Prop := ((st = 2 ∧ (0 ≤ a ∧ a < (SR Y).1.1) ∧ Y.tg ((SR Y).1.2 a.toNat) = true) ∧ r = 1) ∨ (¬ (st = 2 ∧ (0 ≤ a ∧ a < (SR Y).1.1) ∧ Y.tg ((SR Y).1.2 a.toNat) = true) ∧ r = 0)
def lkd (st : Nat) (Y : Ga) (a : Int) : Prop := st = 2 ∧ (0 ≤ a ∧ a < (SR Y).1.1) ∧ a < (SR Y).2.1
def aow (st : Nat) (Y : Ga) (a r : Int) : Prop := ((lkd st Y a ∧ 0 < ec Y ((SR Y).1.2 a.toNat) Y.C) ∧ ((r = 1 ∧ omx Y ((SR Y).1.2 a.toNat)) ∨ (r = 0 ∧ ¬ omx Y ((SR Y).1.2 a.toNat)))) ∨ (¬ (lkd st Y a ∧ 0 < ec Y ((SR Y).1.2 a.toNat) Y.C) ∧ r = -1)
def ach1 (st : Nat) (Y : Ga) (a k : Int) (c : Nat) : Prop := lkd st Y a ∧ c < Y.C ∧ ene Y ((SR Y).1.2 a.toNat) c = true ∧ (ec Y ((SR Y).1.2 a.toNat) c : Int) = k
def ach (st : Nat) (Y : Ga) (a k r : Int) : Prop := (∃ c : Nat, ach1 st Y a k c ∧ r = c) ∨ ((∀ c : Nat, ¬ ach1 st Y a k c) ∧ r = -1)
theorem avr_u {st : Nat} {Y : Ga} {a b r r' : Int} (h : avr st Y a b r) (h' : avr st Y a b r') : r = r' := by
  rcases h with ⟨h1, h2⟩ | ⟨h1, h2⟩ <;> rcases h' with ⟨h3, h4⟩ | ⟨h3, h4⟩
  · rw [h2, h4]
  · exact absurd h1 h3
  · exact absurd h3 h1
  · rw [h2, h4]
theorem atg_u {st : Nat} {Y : Ga} {a r r' : Int} (h : atg st Y a r) (h' : atg st Y a r') : r = r' := by
  rcases h with ⟨h1, h2⟩ | ⟨h1, h2⟩ <;> rcases h' with ⟨h3, h4⟩ | ⟨h3, h4⟩
  · rw [h2, h4]
  · exact absurd h1 h3
  · exact absurd h3 h1
  · rw [h2, h4]
theorem aow_u {st : Nat} {Y : Ga} {a r r' : Int} (h : aow st Y a r) (h' : aow st Y a r') : r = r' := by
  rcases h with ⟨h1, h2⟩ | ⟨h1, h2⟩ <;> rcases h' with ⟨h3, h4⟩ | ⟨h3, h4⟩
  · rcases h2 with ⟨a1, a2⟩ | ⟨a1, a2⟩ <;> rcases h4 with ⟨b1, b2⟩ | ⟨b1, b2⟩
    · rw [a1, b1]
    · exact absurd a2 b2
    · exact absurd b2 a2
    · rw [a1, b1]
  · exact absurd h1 h3
  · exact absurd h3 h1
  · rw [h2, h4]
theorem ach_u {st : Nat} {Y : Ga} {a k r r' : Int} (h : ach st Y a k r) (h' : ach st Y a k r') : r = r' := by
  rcases h with ⟨c, h1, h2⟩ | ⟨h1, h2⟩ <;> rcases h' with ⟨d, h3, h4⟩ | ⟨h3, h4⟩
  · have e : c = d := ec_inj h1.2.2.1 h3.2.2.1 (by
      have a1 := h1.2.2.2
      have a2 := h3.2.2.2
      rw [← a2] at a1
      exact Int.ofNat.inj a1)
    rw [h2, h4, e]
  · exact absurd h1 (h3 c)
  · exact absurd h3 (h1 d)
  · rw [h2, h4]
theorem CX.has {st : Nat} {Y : Ga} {M : fm_M} (h : CX st Y M) {a : Int} (ha : 0 ≤ a ∧ a < M 142 1) : st = 2 ∧ 0 ≤ a ∧ a < (SR Y).1.1 := by
  by_cases e : st = 2
  · have := (h.f e).1.n; exact ⟨e, by omega, by omega⟩
  · have := (h.z e).1; omega
theorem CX.hno {st : Nat} {Y : Ga} {M : fm_M} (h : CX st Y M) {a : Int} (ha : ¬ (0 ≤ a ∧ a < M 142 1)) : ¬ (st = 2 ∧ 0 ≤ a ∧ a < (SR Y).1.1) := fun ⟨e, hh⟩ => by
  have := (h.f e).1.n; omega
theorem ec_pos {Y : Ga} {r : Nat → Int} : ∀ {c : Nat}, 0 < ec Y r c → ∃ d, d < c ∧ ene Y r d = true := by
  intro c
  induction c with
  | zero => intro h; rw [ec] at h; exact absurd h (Nat.lt_irrefl 0)
  | succ c ih =>
    intro h
    by_cases e : ene Y r c = true
    · exact ⟨c, by omega, e⟩
    · rw [ec, if_neg e] at h
      obtain ⟨d, h1, h2⟩ := ih h
      exact ⟨d, by omega, h2⟩
theorem ec_sur {Y : Ga} {r : Nat → Int} : ∀ {c k : Nat}, k < ec Y r c → ∃ d, d < c ∧ ene Y r d = true ∧ ec Y r d = k := by
  intro c
  induction c with
  | zero => intro k h; exact absurd h (Nat.not_lt_zero _)
  | succ c ih =>
    intro k h
    by_cases e : ene Y r c = true
    · by_cases e2 : k < ec Y r c
      · obtain ⟨d, h1, h2⟩ := ih e2
        exact ⟨d, by omega, h2⟩
      · rw [ec, if_pos e] at h
        exact ⟨c, by omega, e, by omega⟩
    · rw [ec, if_neg e] at h
      obtain ⟨d, h1, h2⟩ := ih h
      exact ⟨d, by omega, h2⟩
theorem l_has {g m : Nat} {M : fm_M} (h : LK g m M) {a : Int} (ha : rg a) (h0 : ¬ (0 ≤ a ∧ a < M 142 1) → post 0 M) (h1 : ∀ i : Nat, a = i → (i : Int) < M 142 1 → i < 8 → post 1 M) : wp_Fo_has M a post thr := by
  have hc := h.fb.cnt
  exact ⟨ha, fun h2 => h0 (by omega), fun h2 => ⟨rg_small (by omega), fun h3 => h0 (by omega), fun h3 => h1 a.toNat (by omega) (by omega) (by omega)⟩⟩
theorem l_choicesOf {g m : Nat} {M : fm_M} (h : LK g m M) {i : Nat} (hi : (i : Int) < M 142 1) (hp : ∀ x, bs x m → ((M 142 4 ≤ (i : Int) ∧ x = 0) ∨ ((i : Int) < M 142 4 ∧ x = M 289 i)) → post x M) : wp_Fo_choicesOf M i post thr := by
  have hc := h.fb.cnt
  have hl := h.fb.lk
  unfold wp_Fo_choicesOf
  rw [Int.toNat_natCast]
  exact ⟨rg_small (by omega), rg_small (by omega), fun hh => hp 0 ⟨by decide, by have := Nat.two_pow_pos m; omega⟩ (Or.inl ⟨hh, rfl⟩), fun hh => ⟨by omega, hp _ (h.fb.en i hi) (Or.inr ⟨by omega, rfl⟩)⟩⟩
theorem l_isOfMax {g m : Nat} {M : fm_M} (h : LK g m M) {i : Nat} (hi : (i : Int) < M 142 1) (h0 : ((i : Int) < M 142 4 → jand (M 289 i) (M 142 5) = 0) → post 0 M) (h1 : ((i : Int) < M 142 4 → ¬ jand (M 289 i) (M 142 5) = 0) → post 1 M) : wp_Fo_isOfMax M i post thr := by
  have hc := h.fb.cnt
  have hl := h.fb.lk
  unfold wp_Fo_isOfMax
  rw [Int.toNat_natCast]
  exact ⟨rg_small (by omega), rg_small (by omega), fun hh => h0 (fun h2 => by omega), fun _ => ⟨by omega, rg_jand _ _, fun hz => h0 (fun _ => hz), fun hz => h1 (fun _ => hz)⟩⟩
theorem t281 : ∀ i : Fin 8, 281 + i.1 < nC ∧ TC (281 + i.1) = .inr (0, 3) := by decide
theorem l_variable {g m : Nat} {M : fm_M} (h : LK g m M) {st : Nat} {Y : Ga} (hx : CX st Y M) {a b : Int} (ha : rg a) (hb : rg b) (hp : ∀ r, avr st Y a b r → post r M) : wp_CG_variable M a b post thr := by
  have t := tcG h.g1.gg
  refine l_has h ha (fun hn => ⟨rg_small (by decide), fun _ => hp _ (Or.inr ⟨fun hh => hx.hno hn ⟨hh.1, hh.2.1⟩, rfl⟩), fun h => absurd rfl h⟩) (fun i e hi hi8 => ⟨rg_small (by decide), fun h => absurd h (by decide), fun _ => ⟨hb, fun h1 => hp _ (Or.inr ⟨fun hh => by have := hh.2.2.1; omega, rfl⟩), fun h1 => ⟨fun h2 => hp _ (Or.inr ⟨fun hh => by have := hh.2.2.1; omega, rfl⟩), fun h2 => ?_⟩⟩⟩)
  obtain ⟨v, hv⟩ : ∃ v : Nat, b = v := ⟨b.toNat, by omega⟩
  subst hv; subst e
  obtain ⟨hs2, hi1⟩ := hx.has (a := (i : Int)) ⟨by omega, hi⟩
  have hy := (hx.a1 (by omega)).2
  rw [h.g1.gm] at hy ⊢
  have hmo := hy.mo v (by omega)
  have hiX : i < (SR Y).1.1 := by omega
  refine ⟨t.1, c_hasVar h.g1.gg h.g1.cb (by omega) (fun hpos => ⟨rg_small (by decide), fun _ => ⟨by omega, ?_, by omega, hp _ (Or.inl ⟨⟨hs2, hi1, by omega, by rw [Int.toNat_natCast, ← hmo]; exact hpos⟩, ?_⟩)⟩, fun h => absurd h (by decide)⟩) (fun hneg => ⟨rg_small (by decide), fun h => absurd rfl h, fun _ => hp _ (Or.inr ⟨fun hh => hneg (by have := hh.2.2.2; rw [Int.toNat_natCast, ← hmo] at this; exact this), rfl⟩)⟩)⟩
  · rw [Int.toNat_natCast, show 280 + 1 + i = 281 + i by omega]; exact t281 ⟨i, hi8⟩
  · rw [Int.toNat_natCast, Int.toNat_natCast, show 280 + 1 + i = 281 + i by omega]; exact (hx.f hs2).1.st i v hiX (by omega)
theorem l_target {g m : Nat} {M : fm_M} (h : LK g m M) {st : Nat} {Y : Ga} (hx : CX st Y M) {a : Int} (ha : rg a) (hp : ∀ r, atg st Y a r → post r M) : wp_CG_target M a post thr := by
  refine l_has h ha (fun hn => ⟨rg_small (by decide), fun _ => hp _ (Or.inr ⟨fun hh => hx.hno hn ⟨hh.1, hh.2.1⟩, rfl⟩), fun h => absurd rfl h⟩) (fun i e hi hi8 => ⟨rg_small (by decide), fun h => absurd h (by decide), fun _ => ?_⟩)
  subst e
  obtain ⟨hs2, hi1⟩ := hx.has (a := (i : Int)) ⟨by omega, hi⟩
  have hb := (hx.f hs2).1.tg i hi8
  have hiX : i < (SR Y).1.1 := by omega
  refine x_hasBit (fun hn => ⟨rg_small (by decide), fun _ => hp _ (Or.inr ⟨fun hh => hn (hb.mpr ⟨hiX, by have := hh.2.2; rw [Int.toNat_natCast] at this; exact this⟩), rfl⟩), fun h => absurd rfl h⟩) (fun hy => ⟨rg_small (by decide), fun h => absurd h (by decide), fun _ => hp _ (Or.inl ⟨⟨hs2, hi1, by rw [Int.toNat_natCast]; exact (hb.mp hy).2⟩, rfl⟩)⟩)
theorem l_bits {g m : Nat} {M : fm_M} (h : LK g m M) {st : Nat} {Y : Ga} (hx : CX st Y M) {i : Nat} (hi : (i : Int) < M 142 1) {x : Int} (hor : (M 142 4 ≤ (i : Int) ∧ x = 0) ∨ ((i : Int) < M 142 4 ∧ x = M 289 i)) : ∃ C : Nat, C ≤ 10 ∧ (∀ c, c < 10 → (bt x c ↔ c < C ∧ ene Y ((SR Y).1.2 i) c = true)) ∧ ((lkd st Y i ∧ C = Y.C) ∨ (¬ lkd st Y i ∧ C = 0)) := by
  obtain ⟨hs2, hi1⟩ := hx.has (a := (i : Int)) ⟨by omega, hi⟩
  obtain ⟨f1, f2, f3, f4, f5⟩ := hx.f hs2
  have hiX : i < (SR Y).1.1 := by omega
  have hw := (hx.a1 (by omega)).2.w.c10
  rcases hor with ⟨h1, h2⟩ | ⟨h1, h2⟩
  · exact ⟨0, by omega, fun c hc => ⟨fun hh => absurd (by rw [h2] at hh; exact hh) (bt_0 ⟨c, hc⟩), fun hh => absurd hh.1 (Nat.not_lt_zero _)⟩, Or.inr ⟨fun hh => by have := hh.2.2; omega, rfl⟩⟩
  · exact ⟨Y.C, hw, fun c hc => by rw [h2]; exact f1.en i hiX c hc, Or.inl ⟨⟨hs2, hi1, by omega⟩, rfl⟩⟩
theorem l_owner {g m : Nat} {M : fm_M} (h : LK g m M) {st : Nat} {Y : Ga} (hx : CX st Y M) {a : Int} (ha : rg a) (hp : ∀ r, aow st Y a r → post r M) : wp_CG_owner M a post thr := by
  refine l_has h ha (fun hn => ⟨rg_small (by decide), fun _ => hp _ (Or.inr ⟨fun hh => hx.hno hn ⟨hh.1.1, hh.1.2.1⟩, rfl⟩), fun h => absurd rfl h⟩) (fun i e hi hi8 => ⟨rg_small (by decide), fun h => absurd h (by decide), fun _ => ?_⟩)
  subst e
  obtain ⟨hs2, hi1⟩ := hx.has (a := (i : Int)) ⟨by omega, hi⟩
  have hiX : i < (SR Y).1.1 := by omega
  have hC10 := (hx.a1 (by omega)).2.w.c10
  refine l_choicesOf h hi (fun x hbs hor => ⟨bs_rg hbs h.m10, fun hne => ?_, fun hz => hp _ (Or.inr ⟨fun hh => ?_, rfl⟩)⟩)
  · obtain ⟨k, hk, hkb⟩ := bs_ex hbs h.m10 hne
    have hl : (i : Int) < M 142 4 := by
      rcases hor with ⟨_, h2⟩ | ⟨h1, _⟩
      · exact absurd h2 hne
      · exact h1
    obtain ⟨C, hC, hb, hor2⟩ := l_bits h hx hi hor
    have hb' := (hb k hk).mp hkb
    have hlk : lkd st Y i ∧ C = Y.C := by
      rcases hor2 with a | a
      · exact a
      · omega
    have hpos : 0 < ec Y ((SR Y).1.2 (i : Int).toNat) Y.C := by
      rw [Int.toNat_natCast]
      have := ec_lt (C := Y.C) (by omega) hb'.2
      omega
    have om := om_max (hx.f hs2).1 (hx.f hs2).2.2.2.1 hC10 h.m10 (h.fb.en i hi) hiX
    refine l_isOfMax h hi (fun hz => ⟨rg_small (by decide), fun _ => hp _ (Or.inl ⟨⟨hlk.1, hpos⟩, Or.inr ⟨rfl, by rw [Int.toNat_natCast]; exact fun hh => om.mpr hh (hz hl)⟩⟩), fun h => absurd rfl h⟩) (fun hz => ⟨rg_small (by decide), fun h => absurd h (by decide), fun _ => hp _ (Or.inl ⟨⟨hlk.1, hpos⟩, Or.inl ⟨rfl, by rw [Int.toNat_natCast]; exact om.mp (hz hl)⟩⟩)⟩)
  · obtain ⟨C, hC, hb, hor2⟩ := l_bits h hx hi hor
    have hh2 := hh.2
    rw [Int.toNat_natCast] at hh2
    obtain ⟨d, hd, hde⟩ := ec_pos hh2
    have hCe : C = Y.C := by
      rcases hor2 with a | a
      · exact a.2
      · exact absurd hh.1 a.1
    have := (hb d (by omega)).mpr ⟨by omega, hde⟩
    rw [hz] at this
    exact absurd this (bt_0 ⟨d, by omega⟩)
theorem l_choice {g m : Nat} {M : fm_M} (h : LK g m M) {st : Nat} {Y : Ga} (hx : CX st Y M) {a b : Int} (ha : rg a) (hb : rg b) (hp : ∀ r, ach st Y a b r → post r M) : wp_CG_choice M a b post thr := by
  refine l_has h ha (fun hn => ⟨rg_small (by decide), fun _ => hp _ (Or.inr ⟨fun c hh => hx.hno hn ⟨hh.1.1, hh.1.2.1⟩, rfl⟩), fun h => absurd rfl h⟩) (fun i e hi hi8 => ⟨rg_small (by decide), fun h => absurd h (by decide), fun _ => ⟨hb, fun hb0 => ?_, fun hb0 => hp _ (Or.inr ⟨fun c hh => by have := hh.2.2.2; omega, rfl⟩)⟩⟩)
  subst e
  refine l_choicesOf h hi (fun x hbs hor => ?_)
  obtain ⟨C, hC, hbt, hor2⟩ := l_bits h hx hi hor
  -- among the first k commands it is not
  refine ⟨fun M' v3 v4 v5 => M' = M ∧ v3 = x ∧ ∃ k j : Nat, v5 = k ∧ v4 = j ∧ k ≤ 10 ∧ j = ec Y ((SR Y).1.2 i) (if k < C then k else C) ∧ ∀ c, c < k → c < C → ene Y ((SR Y).1.2 i) c = true → (ec Y ((SR Y).1.2 i) c : Int) ≠ b, fun _ _ _ v5 => (10 - v5).toNat, ⟨rfl, rfl, 0, 0, rfl, rfl, by omega, by
    by_cases e : 0 < C
    · rw [if_pos e, ec]
    · rw [if_neg e, show C = 0 by omega, ec], fun c hc => absurd hc (Nat.not_lt_zero _)⟩, ?_⟩
  rintro M' v3 v4 v5 ⟨rfl, rfl, k, j, rfl, rfl, hk, hj, hno⟩
  have hj10 : j ≤ 10 := by
    have hz : (if k < C then k else C) ≤ 10 := by split <;> omega
    have := ec_le Y ((SR Y).1.2 i) (if k < C then k else C)
    omega
  unfold C_CG_choice_32
  refine ⟨rg_small (by omega), fun h4 => hp _ (Or.inr ⟨fun c hh => ?_, rfl⟩), fun h4 => x_hasBit (fun hn => ⟨rg_small (by decide), fun _ => ⟨⟨rfl, rfl, k + 1, j, by omega, rfl, by omega, ?_, fun c h1 h2 h3 => ?_⟩, by dsimp only; omega⟩, fun h => absurd rfl h⟩) (fun hy => ⟨rg_small (by decide), fun h => absurd h (by decide), fun _ => ⟨rg_small (by omega), hb, fun hne => ⟨⟨rfl, rfl, k + 1, j + 1, by omega, by omega, by omega, ?_, fun c h1 h2 h3 => ?_⟩, by dsimp only; omega⟩, fun he => hp _ (Or.inl ⟨k, ?_, rfl⟩)⟩⟩)⟩
  · obtain ⟨q1, q2, q3, q4⟩ := hh
    rw [Int.toNat_natCast] at q3 q4
    have hCe : C = Y.C := by
      rcases hor2 with a | a
      · exact a.2
      · exact absurd q1 a.1
    exact hno c (by omega) (by omega) q3 q4
  · rw [hj]
    by_cases e : k < C
    · have hen : ¬ ene Y ((SR Y).1.2 i) k = true := fun hh => hn ((hbt k (by omega)).mpr ⟨e, hh⟩)
      rw [if_pos e]
      by_cases e2 : k + 1 < C
      · rw [if_pos e2, ec, if_neg hen]; rfl
      · rw [if_neg e2, show C = k + 1 by omega, ec, if_neg hen]; rfl
    · rw [if_neg e, if_neg (by omega)]
  · by_cases e : c = k
    · subst e; exact absurd ((hbt c (by omega)).mpr ⟨h2, h3⟩) hn
    · exact hno c (by omega) h2 h3
  · have hq := (hbt k (by omega)).mp hy
    rw [hj, if_pos hq.1]
    by_cases e2 : k + 1 < C
    · rw [if_pos e2, ec, if_pos hq.2]
    · rw [if_neg e2, show C = k + 1 by omega, ec, if_pos hq.2]
  · by_cases e : c = k
    · subst e; rw [hj, if_pos h2] at hne; exact hne
    · exact hno c (by omega) h2 h3
  · have hq := (hbt k (by omega)).mp hy
    have hCe : lkd st Y i ∧ C = Y.C := by
      rcases hor2 with a | a
      · exact a
      · omega
    refine ⟨hCe.1, by omega, by rw [Int.toNat_natCast]; exact hq.2, ?_⟩
    rw [Int.toNat_natCast, ← he, hj, if_pos hq.1]
theorem br1 : ∀ c : Fin 10, ∀ b : Fin 4, 4 + 3 + 4 + 13 * c.1 + 4 + 1 + 2 * b.1 < nC ∧ TC (4 + 3 + 4 + 13 * c.1 + 4 + 1 + 2 * b.1) = .inl (6, ks_Br) := by decide
theorem br2 : ∀ c : Fin 10, ∀ b : Fin 4, 143 + 3 + 4 + 13 * c.1 + 4 + 1 + 2 * b.1 < nC ∧ TC (143 + 3 + 4 + 13 * c.1 + 4 + 1 + 2 * b.1) = .inl (6, ks_Br) := by decide
theorem wt3 : ∀ c : Fin 10, (7 + 13 * c.1, 3, 4, (0 : Int), (4 : Int)) ∈ CBt := by decide
theorem l_branch {g m : Nat} {M : fm_M} (h : LK g m M) {a b c : Int} (ha : rg a) (hb : rg b) (hc : rg c) (hp : ∀ r, post r M) : wp_CG_branch M a b c post thr := by
  have t := tcG h.g1.gg
  have hm10 := h.m10
  have hg := h.g1.gg
  refine l_has h ha (fun _ => ⟨rg_small (by decide), fun _ => hp _, fun h => absurd rfl h⟩) (fun i e hi hi8 => ⟨rg_small (by decide), fun h => absurd h (by decide), fun _ => ⟨hb, fun _ => hp _, fun h1 => ?_⟩⟩)
  subst e
  rw [h.g1.gm, h.hm]
  refine ⟨t.1, rg_small (by omega), fun _ => hp _, fun h2 => ⟨by omega, ?_⟩⟩
  obtain ⟨k, hk⟩ : ∃ k : Nat, b = k := ⟨b.toNat, by omega⟩
  subst hk
  refine x_hasBit (fun _ => ⟨rg_small (by decide), fun h => absurd rfl h, fun _ => hp _⟩) (fun _ => ⟨rg_small (by decide), fun _ => ?_, fun h => absurd h (by decide)⟩)
  rw [h.g1.gm]
  have C := cmOk hg (c := k) (by omega)
  refine ⟨t.1, t.2.2.2, by omega, hc, fun _ => hp _, fun h3 => ?_⟩
  obtain ⟨d, hd⟩ : ∃ d : Nat, c = d := ⟨c.toNat, by omega⟩
  subst hd
  have hw : 0 ≤ M (g + (7 + 13 * k)) 3 ∧ M (g + (7 + 13 * k)) 3 ≤ 4 := h.g1.cb.g' (wt3 ⟨k, by omega⟩) (x := 3) (by omega) (by omega)
  simp only [Int.toNat_natCast]
  have eg : g + 3 + 4 + 13 * k = g + (7 + 13 * k) := by omega
  refine ⟨by rw [eg]; exact C.t0, by rw [eg]; exact rg_small (by omega), fun h4 => ?_, fun _ => hp _⟩
  rw [eg] at h4
  have nn := h.nx i (k * 4 + d) hi8 (by omega)
  unfold wp_Fo_next
  rw [Int.toNat_natCast, show 299 + 1 + i = 300 + i by omega, show ((k : Int) * 4 + (d : Int)).toNat = k * 4 + d by omega]
  refine ⟨by omega, t300 ⟨i, hi8⟩, by omega, rg_small (by omega), fun _ => ⟨by rw [eg]; exact C.t4, by omega, ?_, hp _⟩, fun _ => hp _⟩
  rcases hg with e | e <;> subst e
  · exact br1 ⟨k, by omega⟩ ⟨d, by omega⟩
  · exact br2 ⟨k, by omega⟩ ⟨d, by omega⟩
theorem l_check {M : fm_M} (hI : CI T n w M) {g m : Nat} (h : LK g m M) {a : Int} (ha : rg a) (hp : ∀ i : Nat, a = i → i < 8 → post 0 M) (k1 : thr "java/lang/IllegalStateException" M) (k2 : thr "java/lang/IndexOutOfBoundsException" M) : wp_CG_checkValueOf M a post thr := by
  refine ⟨rg_small (by rcases hI.b6 with e | e <;> rw [e] <;> decide), fun _ => ?_, fun _ => k1⟩
  exact l_has h ha (fun _ => ⟨rg_small (by decide), fun h => absurd rfl h, fun _ => k2⟩) (fun i e hi hi8 => ⟨rg_small (by decide), fun _ => hp i e hi8, fun h => absurd h (by decide)⟩)
theorem l_upper {M : fm_M} (hI : CI T n w M) {a : Int} (ha : rg a) (hp : ∀ r, post r M) (k1 : thr "java/lang/IllegalStateException" M) (k2 : thr "java/lang/IndexOutOfBoundsException" M) : wp_CG_upper M a post thr := by
  obtain ⟨g, m, h⟩ := hI.lk
  exact l_check hI h ha (fun i e hi => ⟨by omega, hp _⟩) k1 k2
theorem l_lower {M : fm_M} (hI : CI T n w M) {a : Int} (ha : rg a) (hp : ∀ r, post r M) (k1 : thr "java/lang/IllegalStateException" M) (k2 : thr "java/lang/IndexOutOfBoundsException" M) : wp_CG_lower M a post thr := by
  obtain ⟨g, m, h⟩ := hI.lk
  exact l_check hI h ha (fun i e hi => ⟨by omega, hp _⟩) k1 k2
theorem l_good {M : fm_M} (hI : CI T n w M) {a : Int} (ha : rg a) (hp : ∀ r, rg r → post r M) (k1 : thr "java/lang/IllegalStateException" M) (k2 : thr "java/lang/IndexOutOfBoundsException" M) : wp_CG_good M a post thr := by
  obtain ⟨g, m, h⟩ := hI.lk
  refine l_check hI h ha (fun i e hi => ⟨by omega, hp _ ?_⟩) k1 k2
  rw [e, Int.toNat_natCast]; exact (h.al i hi).2
end Calls4
end Pu_ci
section Pu_cj
/-! The reference's looks, and its solve. -/
section Calls5
variable {T : Nat → Int} {n : Nat} {w : Int} {post : Int → fm_M → Prop} {thr : String → fm_M → Prop}
/-- only the mark of the last call may change -/
def KP (M M' : fm_M) : Prop :=
  (∀ q, q ≠ 331 → M' q = M q) ∧
  (∀ b, b ≠ 0 → M' 331 b = M 331 b)
theorem KP.cell {M M' : fm_M} (h_ : KP M M') : ∀ q, q ≠ 331 → M' q = M q := h_.1
theorem KP.slot {M M' : fm_M} (h_ : KP M M') : ∀ b, b ≠ 0 → M' 331 b = M 331 b := h_.2
theorem KP.u {M M' : fm_M} {v : Int} (e : M' = fm_u M 331 0 v) : KP M M' := ⟨fun q hq => by rw [e]; exact fu_off _ _ _ hq, fun b hb => by rw [e, fu_at, if_neg hb]⟩
theorem RI.kp {M M' : fm_M} (h : RI T n w M) (k : KP M M') : RI T n w M' := h.same (fun q h1 _ => k.cell q (by omega)) k.slot
theorem RI.n8 {M : fm_M} (h : RI T n w M) : 0 ≤ M 331 20 ∧ M 331 20 ≤ 8 := by
  rcases h.hg with ⟨_, e⟩ | ⟨_, _, e⟩
  · omega
  · exact e.hn
theorem RI.g1 {M : fm_M} (h : RI T n w M) (hn : 0 < M 331 20) : ∃ G : Nat, M 331 6 = G ∧ G ≤ 1 := by
  rcases h.hg with ⟨_, e⟩ | ⟨e, _, _⟩
  · omega
  · rcases e with e | e
    · exact ⟨0, e, by omega⟩
    · exact ⟨1, e, by omega⟩
theorem RX.kp {st : Nat} {Y : Ga} {M M' : fm_M} (h : RX st Y M) (k : KP M M') : RX st Y M' := h.same (fun b hb => k.slot b (by omega)) (fun a h1 h2 => k.cell a (by omega))
theorem RX.has {st : Nat} {Y : Ga} {M : fm_M} (h : RX st Y M) {a : Int} (ha : 0 ≤ a ∧ a < M 331 20) : st = 2 ∧ 0 ≤ a ∧ a < (SR Y).1.1 := by
  by_cases e : st = 2
  · have := (h.f e).1.n; exact ⟨e, by omega, by omega⟩
  · have := (h.z e).1; omega
theorem RX.hno {st : Nat} {Y : Ga} {M : fm_M} (h : RX st Y M) {a : Int} (ha : ¬ (0 ≤ a ∧ a < M 331 20)) : ¬ (st = 2 ∧ 0 ≤ a ∧ a < (SR Y).1.1) := fun ⟨e, hh⟩ => by
  have := (h.f e).1.n; omega
theorem r_isState {M : fm_M} (h : RI T n w M) {a : Int} (ha : rg a) (h0 : ¬ (0 ≤ a ∧ a < M 331 20) → post 0 M) (h1 : ∀ i G : Nat, a = i → i < 8 → (i : Int) < M 331 20 → M 331 6 = G → G ≤ 1 → post 1 M) : wp_Mo_isState M a post thr := by
  have hn := h.n8
  refine m_within ha (rg_small (by decide)) (rg_small (by omega)) (fun e => ⟨Or.inr rfl, ?_⟩) (fun e => ⟨Or.inl rfl, h0 (by omega)⟩)
  obtain ⟨G, hG, hG1⟩ := h.g1 (by omega)
  exact h1 a.toNat G (by omega) (by omega) (by omega) hG hG1
theorem RI.place {M : fm_M} (h : RI T n w M) (hp : ∀ r M', KP M M' → post r M') : wp_Mo_place M post thr := fun M2 e2 => hp _ M2 (KP.u e2)
theorem RI.states {M : fm_M} (h : RI T n w M) (hp : ∀ M', KP M M' → post (M 331 20) M') : wp_Mo_states M post thr := fun M2 e2 => by
  have k := KP.u e2
  rw [k.slot 20 (by decide)]; exact hp M2 k
theorem RI.mixed {M : fm_M} (h : RI T n w M) (hp : ∀ M', KP M M' → post (M 331 21) M') : wp_Mo_mixed M post thr := fun M2 e2 => by
  have k := KP.u e2
  rw [k.slot 21 (by decide)]; exact hp M2 k
theorem RI.vari {M : fm_M} (h : RI T n w M) {st : Nat} {Y : Ga} (hx : RX st Y M) {a b : Int} (ha : rg a) (hb : rg b) (hp : ∀ r M', avr st Y a b r → KP M M' → post r M') : wp_Mo_variable M a b post thr := by
  intro M1 e1
  have k1 := KP.u e1
  have h1 := h.kp k1
  have x1 := hx.kp k1
  have P : ∀ r, avr st Y a b r → post r M1 := fun r hr => hp r M1 hr k1
  refine r_isState h1 ha (fun hn => ⟨rg_small (by decide), fun _ => P _ (Or.inr ⟨fun hh => x1.hno hn ⟨hh.1, hh.2.1⟩, rfl⟩), fun h => absurd rfl h⟩) (fun i G e hi hi2 hG hG1 => ⟨rg_small (by decide), fun h => absurd h (by decide), fun _ => ?_⟩)
  subst e
  obtain ⟨hs2, hi1⟩ := x1.has (a := (i : Int)) ⟨by omega, hi2⟩
  have hy := (x1.a1 (by omega)).2
  rw [hG, Int.toNat_natCast] at hy
  refine m_within hb (rg_small (by decide)) (rg_small (by decide)) (fun e2 => ⟨rg_small (by decide), fun h => absurd h (by decide), fun _ => ?_⟩) (fun hn => ⟨rg_small (by decide), fun _ => P _ (Or.inr ⟨fun hh => by have := hh.2.2.1; omega, rfl⟩), fun h => absurd rfl h⟩)
  obtain ⟨v, hv⟩ : ∃ v : Nat, b = v := ⟨b.toNat, by omega⟩
  subst hv
  rw [hG, show (3 * (G : Int) + (v : Int)).toNat = 3 * G + v by omega]
  have := h1.rb.g 333 6 0 9 (by decide) (x := 3 * G + v) (by omega)
  have hmo := hy.mo v (by omega)
  refine ⟨by omega, rg_small (by omega), fun hz => P _ (Or.inr ⟨fun hh => by have := hh.2.2.2; rw [Int.toNat_natCast] at this; omega, rfl⟩), fun hz => ⟨by omega, P _ (Or.inl ⟨⟨hs2, hi1, by omega, by rw [Int.toNat_natCast]; omega⟩, ?_⟩)⟩⟩
  rw [show (3 * (i : Int) + (v : Int)).toNat = 3 * i + v by omega, Int.toNat_natCast, Int.toNat_natCast]
  exact (x1.f hs2).1.st i v (by omega) (by omega)
theorem RI.target {M : fm_M} (h : RI T n w M) {st : Nat} {Y : Ga} (hx : RX st Y M) {a : Int} (ha : rg a) (hp : ∀ r M', atg st Y a r → KP M M' → post r M') : wp_Mo_target M a post thr := by
  intro M1 e1
  have k1 := KP.u e1
  have h1 := h.kp k1
  have x1 := hx.kp k1
  have P : ∀ r, atg st Y a r → post r M1 := fun r hr => hp r M1 hr k1
  refine r_isState h1 ha (fun hn => ⟨rg_small (by decide), fun _ => P _ (Or.inr ⟨fun hh => x1.hno hn ⟨hh.1, hh.2.1⟩, rfl⟩), fun h => absurd rfl h⟩) (fun i G e hi hi2 hG hG1 => ⟨rg_small (by decide), fun h => absurd h (by decide), fun _ => ?_⟩)
  subst e
  obtain ⟨hs2, hi1⟩ := x1.has (a := (i : Int)) ⟨by omega, hi2⟩
  have ht := (x1.f hs2).1.tg i (by omega)
  have := h1.rb.g 346 8 0 1 (by decide) (x := i) hi
  rw [Int.toNat_natCast]
  refine ⟨by omega, rg_small (by omega), fun hz => P _ (Or.inr ⟨fun hh => ?_, rfl⟩), fun hz => P _ (Or.inl ⟨⟨hs2, hi1, ?_⟩, rfl⟩)⟩
  · have h2 := hh.2.2
    rw [Int.toNat_natCast] at h2
    rw [if_pos h2] at ht; omega
  · rw [Int.toNat_natCast]
    apply Classical.byContradiction; intro hh
    rw [if_neg hh] at ht; exact hz ht
theorem RI.owner {M : fm_M} (h : RI T n w M) {st : Nat} {Y : Ga} (hx : RX st Y M) {a : Int} (ha : rg a) (hp : ∀ r M', aow st Y a r → KP M M' → post r M') : wp_Mo_owner M a post thr := by
  intro M1 e1
  have k1 := KP.u e1
  have h1 := h.kp k1
  have x1 := hx.kp k1
  have P : ∀ r, aow st Y a r → post r M1 := fun r hr => hp r M1 hr k1
  refine r_isState h1 ha (fun hn => ⟨rg_small (by decide), fun _ => P _ (Or.inr ⟨fun hh => x1.hno hn ⟨hh.1.1, hh.1.2.1⟩, rfl⟩), fun h => absurd rfl h⟩) (fun i G e hi hi2 hG hG1 => ⟨rg_small (by decide), fun h => absurd h (by decide), fun _ => ?_⟩)
  subst e
  obtain ⟨hs2, hi1⟩ := x1.has (a := (i : Int)) ⟨by omega, hi2⟩
  have F := (x1.f hs2).1
  have hiX : i < (SR Y).1.1 := by omega
  have := h1.rb.g 349 8 0 10 (by decide) (x := i) hi
  have h47 := h1.rb.g 347 8 0 1 (by decide) (x := i) hi
  rw [Int.toNat_natCast]
  have lk : ¬ M1 349 i = 0 → i < (SR Y).2.1 := fun hne => by
    apply Classical.byContradiction; intro hh
    exact hne (F.z i hiX hh).1
  have pos : ¬ M1 349 i = 0 → lkd st Y i ∧ 0 < ec Y ((SR Y).1.2 (i : Int).toNat) Y.C := fun hne => by
    have hl := lk hne
    have hc := F.cn i hiX hl
    exact ⟨⟨hs2, hi1, by omega⟩, by rw [Int.toNat_natCast]; omega⟩
  refine ⟨by omega, rg_small (by omega), fun hne => ⟨rg_small (by omega), fun hz => P _ (Or.inl ⟨pos hne, Or.inr ⟨rfl, fun hh => ?_⟩⟩), fun hz => P _ (Or.inl ⟨pos hne, Or.inl ⟨rfl, ?_⟩⟩)⟩, fun hz => P _ (Or.inr ⟨fun hh => ?_, rfl⟩)⟩
  · rw [Int.toNat_natCast] at hh
    have := (F.mx i hiX (lk hne)).mpr hh; omega
  · rw [Int.toNat_natCast]
    exact (F.mx i hiX (lk hne)).mp (by omega)
  · have hl := hh.1.2.2
    have hc := F.cn i hiX (by omega)
    have h2 := hh.2
    rw [Int.toNat_natCast] at h2
    omega
theorem RI.choice {M : fm_M} (h : RI T n w M) {st : Nat} {Y : Ga} (hx : RX st Y M) {a b : Int} (ha : rg a) (hb : rg b) (hp : ∀ r M', ach st Y a b r → KP M M' → post r M') : wp_Mo_choice M a b post thr := by
  intro M1 e1
  have k1 := KP.u e1
  have h1 := h.kp k1
  have x1 := hx.kp k1
  have P : ∀ r, ach st Y a b r → post r M1 := fun r hr => hp r M1 hr k1
  refine r_isState h1 ha (fun hn => ⟨rg_small (by decide), fun _ => P _ (Or.inr ⟨fun c hh => x1.hno hn ⟨hh.1.1, hh.1.2.1⟩, rfl⟩), fun h => absurd rfl h⟩) (fun i G e hi hi2 hG hG1 => ⟨rg_small (by decide), fun h => absurd h (by decide), fun _ => ?_⟩)
  subst e
  obtain ⟨hs2, hi1⟩ := x1.has (a := (i : Int)) ⟨by omega, hi2⟩
  have F := (x1.f hs2).1
  have hiX : i < (SR Y).1.1 := by omega
  have := h1.rb.g 349 8 0 10 (by decide) (x := i) hi
  rw [Int.toNat_natCast]
  refine ⟨by omega, m_within hb (rg_small (by decide)) (rg_small (by omega)) (fun e2 => ⟨rg_small (by decide), fun h => absurd h (by decide), fun _ => ⟨by omega, P _ ?_⟩⟩) (fun hn => ⟨rg_small (by decide), fun _ => P _ (Or.inr ⟨fun c hh => ?_, rfl⟩), fun h => absurd rfl h⟩)⟩
  · have hl : i < (SR Y).2.1 := by
      apply Classical.byContradiction; intro hh
      have := (F.z i hiX hh).1; omega
    have hc := F.cn i hiX hl
    obtain ⟨k, hk⟩ : ∃ k : Nat, b = k := ⟨b.toNat, by omega⟩
    subst hk
    obtain ⟨d, d1, d2, d3⟩ := ec_sur (Y := Y) (r := (SR Y).1.2 i) (c := Y.C) (k := k) (by omega)
    have hq := F.ch i hiX hl d d1 d2
    rw [d3] at hq
    rw [show (10 * (i : Int) + (k : Int)).toNat = 10 * i + k by omega, hq]
    exact Or.inl ⟨d, ⟨⟨hs2, hi1, by omega⟩, d1, by rw [Int.toNat_natCast]; exact d2, by rw [Int.toNat_natCast, d3]⟩, rfl⟩
  · obtain ⟨q1, q2, q3, q4⟩ := hh
    have hl := q1.2.2
    have hc := F.cn i hiX (by omega)
    rw [Int.toNat_natCast] at q3 q4
    have := ec_lt (C := Y.C) q2 q3
    omega
theorem RI.branch {M : fm_M} (h : RI T n w M) {a b c : Int} (ha : rg a) (hb : rg b) (hc : rg c) (hp : ∀ r M', KP M M' → post r M') : wp_Mo_branch M a b c post thr := by
  intro M1 e1
  have k1 := KP.u e1
  have h1 := h.kp k1
  have P : ∀ r, post r M1 := fun r => hp r M1 k1
  refine r_isState h1 ha (fun _ => ⟨rg_small (by decide), fun h => absurd rfl h, fun _ => P _⟩) (fun i G e hi _ hG hG1 => ⟨rg_small (by decide), fun _ => ?_, fun h => absurd h (by decide)⟩)
  subst e
  have h349 := h1.rb.g 349 8 0 10 (by decide) (x := i) hi
  refine ⟨fun M' v4 v5 => M' = M1 ∧ ∃ k : Nat, v5 = k ∧ (k : Int) ≤ M1 349 i, fun _ v4 v5 => (M1 349 i - v5).toNat, ⟨rfl, 0, rfl, by omega⟩, ?_⟩
  rintro M' v4 v5 ⟨rfl, k, rfl, hk⟩
  unfold C_Mo_branch_21
  rw [Int.toNat_natCast]
  refine ⟨by omega, rg_small (by omega), rg_small (by omega), fun _ => P _, fun h4 => ?_⟩
  have h348 := h1.rb.g 348 80 0 9 (by decide) (x := (10 * (i : Int) + (k : Int)).toNat) (by omega)
  have step : ∀ z : Int, (fun M'_1 v4' v5' => (M'_1 = M' ∧ ∃ k : Nat, v5' = k ∧ (k : Int) ≤ M' 349 i) ∧ (M' 349 i - v5').toNat < (M' 349 i - (k : Int)).toNat : fm_M → Int → Int → Prop) M' z ((k : Int) + 1) := fun z => ⟨⟨rfl, k + 1, by omega, by omega⟩, by omega⟩
  refine ⟨by omega, rg_small (by omega), hb, fun _ => step v4, fun h5 => ?_⟩
  rw [h5] at h348
  rw [hG]
  have h337 := h1.rb.g 337 20 0 4 (by decide) (x := (10 * (G : Int) + b).toNat) (by omega)
  refine ⟨by omega, m_within hc (rg_small (by decide)) (rg_small (by omega)) (fun e2 => ⟨rg_small (by decide), fun h => absurd h (by decide), fun _ => ?_⟩) (fun _ => ⟨rg_small (by decide), fun _ => step v4, fun h => absurd rfl h⟩)⟩
  have h350 := h1.rb.g 350 320 (-1) 7 (by decide) (x := (40 * (i : Int) + 4 * (k : Int) + c).toNat) (by omega)
  rw [hG]
  exact ⟨by omega, rg_small (by omega), fun _ => ⟨by omega, step (10 * M' 350 (40 * (i : Int) + 4 * (k : Int) + c).toNat + M' 339 (4 * (10 * (G : Int) + b) + c).toNat)⟩, fun _ => step (-1)⟩
theorem r_needs {M : fm_M} (h : RI T n w M) {a : Int} (ha : rg a) (h0 : ∀ M', KP M M' → post 0 M') (h1 : ∀ M' (i : Nat), a = i → i < 8 → KP M M' → post 1 M') : wp_Mo_needsValue M a post thr := by
  have B0 : (∃ i : Nat, a = i ∧ i < 8) → B_Mo_needsValue_25 a post thr M 0 := fun ⟨i, e, hi⟩ M1 e1 => by
    have a1 : M1 331 0 = 0 := by rw [e1, fu_at, if_pos rfl]
    rw [a1]
    exact ⟨rg_small (by decide), fun h => absurd rfl h, fun _ => h1 M1 i e hi (KP.u e1)⟩
  have Bs : ∀ s : Int, s = 1 ∨ s = 2 → B_Mo_needsValue_25 a post thr M s := fun s hs M1 e1 => by
    have a1 : M1 331 0 = s := by rw [e1, fu_at, if_pos rfl]
    rw [a1]
    exact ⟨rg_small (by omega), fun _ => h0 M1 (KP.u e1), fun h => by omega⟩
  refine ⟨rg_small (by rcases h.sl with e | e <;> rw [e] <;> decide), fun _ => ?_, fun _ => Bs 1 (Or.inl rfl)⟩
  exact r_isState h ha (fun _ => ⟨rg_small (by decide), fun h => absurd rfl h, fun _ => Bs 2 (Or.inr rfl)⟩) (fun i G e hi _ _ _ => ⟨rg_small (by decide), fun _ => B0 ⟨i, e, hi⟩, fun h => absurd h (by decide)⟩)
theorem RI.upper {M : fm_M} (h : RI T n w M) {a : Int} (ha : rg a) (hp : ∀ r M', KP M M' → post r M') : wp_Mo_upper M a post thr :=
  r_needs h ha (fun M' k => ⟨rg_small (by decide), fun _ => hp _ M' k, fun h => absurd rfl h⟩) (fun M' i e hi k => ⟨rg_small (by decide), fun h => absurd h (by decide), fun _ => ⟨by omega, hp _ M' k⟩⟩)
theorem RI.lower {M : fm_M} (h : RI T n w M) {a : Int} (ha : rg a) (hp : ∀ r M', KP M M' → post r M') : wp_Mo_lower M a post thr :=
  r_needs h ha (fun M' k => ⟨rg_small (by decide), fun _ => hp _ M' k, fun h => absurd rfl h⟩) (fun M' i e hi k => ⟨rg_small (by decide), fun h => absurd h (by decide), fun _ => ⟨by omega, hp _ M' k⟩⟩)
theorem RI.good {M : fm_M} (h : RI T n w M) {a : Int} (ha : rg a) (hp : ∀ r M', KP M M' → post r M') : wp_Mo_good M a post thr :=
  r_needs h ha (fun M' k => ⟨rg_small (by decide), fun _ => hp _ M' k, fun h => absurd rfl h⟩) (fun M' i e hi k => ⟨rg_small (by decide), fun h => absurd h (by decide), fun _ => ⟨by omega, hp _ M' k⟩⟩)
theorem slv_rg : ∀ a ∈ slv, 340 ≤ a := by decide
/-- the reference solves -/
theorem RI.solve {M : fm_M} (h : RI T n w M) {st : Nat} {Y : Ga} (hx : RX st Y M) (k0 : ∀ M', st = 0 → M' 331 0 = 1 → (∀ q, q ≤ 330 → M' q = M q) → M' 362 = M 362 → RI T n w M' → RX st Y M' → post 0 M') (k1 : ∀ r M', st ≠ 0 → r = (SR Y).2.2.2 → M' 331 0 = 0 → (∀ q, q ≤ 330 → M' q = M q) → M' 362 = M 362 → RI T n w M' → RX 2 Y M' → post r M') : wp_Mo_solve M post thr := by
  have hg : M 331 6 = -1 ∨ ((M 331 6 = 0 ∨ M 331 6 = 1) ∧ gwf M) := by
    rcases h.hg with ⟨e, _⟩ | ⟨e, w, _⟩
    · exact Or.inl e
    · exact Or.inr ⟨e, w⟩
  have hs0 : M 331 6 = -1 → st = 0 := fun e => by
    apply Classical.byContradiction; intro hs
    have := (hx.a1 hs).1; omega
  have hs1 : M 331 6 = 0 ∨ M 331 6 = 1 → st ≠ 0 := fun e hs => by have := hx.a0 hs; omega
  refine spec_moSolve h.rb hg (Y := Y) (fun e => (hx.a1 (hs1 e)).2) (fun M' e th s rb => ?_) (fun r M' e th rr sl2 s ex sl => ?_)
  · have ec : ∀ q, q ≠ 331 → M' q = M q := fun q hq => s.cell q (by simp) hq
    refine k0 M' (hs0 e) th (fun q hq => ec q (by omega)) (ec 362 (by decide)) (h.same (fun q h1 h2 => ec q (by omega)) (fun b hb => s.slot b (by simp; exact hb))) (hx.same (fun b hb => s.slot b (by simp; omega)) (fun a h1 h2 => ec a (by omega)))
  · have c : ∀ q, q < 340 → q ≠ 331 → M' q = M q := fun q hq hne => s.cell q (fun hh => by have := slv_rg q hh; omega) hne
    have gw : gwf M := by
      rcases hg with x | x
      · omega
      · exact x.2
    have e6 : M' 331 6 = M 331 6 := s.slot 6 (by decide)
    refine k1 r M' (hs1 e) rr.2.2 th (fun q hq => c q (by omega) (by omega)) (s.cell 362 (by decide) (by decide)) ⟨⟨h.mt.t, by rw [s.slot 2 (by decide)]; exact h.mt.len, by rw [c 332 (by omega) (by omega)]; exact h.mt.ch⟩, ex.rb, Or.inr ⟨by rw [e6]; exact e, gwf_same gw e6 (fun q hq => c q (by omega) (by omega)), ex⟩, sl, by rw [s.slot 4 (by decide)]; exact h.wr⟩ ⟨fun hs => absurd hs (by decide), fun _ => ⟨by rw [e6]; exact e, ?_⟩, fun hs => absurd rfl hs, fun _ => ⟨rr.1, rr.2.1, by rw [← rr.2.2]; exact sl2.symm⟩⟩
    rw [e6]
    exact (hx.a1 (hs1 e)).2.same (fun a h1 h2 => s.cell a (by simp; omega) (by omega))
end Calls5
end Pu_cj
section Pu_ck
/-! Each call, of both, one behind the other. -/
theorem RI.above {T : Nat → Int} {n : Nat} {w : Int} {M M' : fm_M} (h : RI T n w M) (e : ∀ a, 331 ≤ a → a ≤ 361 → M' a = M a) : RI T n w M' := h.same (fun a h1 h2 => e a (by omega) h2) (fun b _ => by rw [e 331 (by omega) (by omega)])
theorem RX.above {st : Nat} {Y : Ga} {M M' : fm_M} (h : RX st Y M) (e : ∀ a, 331 ≤ a → a ≤ 361 → M' a = M a) : RX st Y M' := h.same (fun b _ => by rw [e 331 (by omega) (by omega)]) (fun a h1 h2 => e a (by omega) (by omega))
theorem CX.low {T : Nat → Int} {n : Nat} {w : Int} {st : Nat} {Y : Ga} {M M' : fm_M} (x : CX st Y M) (c : CI T n w M) (e : ∀ a, a ≤ 330 → a ≠ 1 → a ≠ 2 → a ≠ 3 → M' a = M a) : CX st Y M' := by
  obtain ⟨g, k, hgk, e1, e2, c1, c2, F⟩ := c.gs
  exact x.same (k := k) (by omega) e2 (fun a ha => e a (by omega) (by omega) (by omega) (by omega))
/-- all that is known -/
def IW (T : Nat → Int) (n : Nat) (w : Int) (st : Nat) (Y : Ga) (M : fm_M) : Prop := rg w ∧ CI T n w M ∧ RI T n w M ∧ CX st Y M ∧ RX st Y M
theorem IW.iv {T : Nat → Int} {n : Nat} {w : Int} {st : Nat} {Y : Ga} {M : fm_M} (h : IW T n w st Y M) : IV M := ⟨T, n, w, st, Y, h⟩
theorem IW.look {T : Nat → Int} {n : Nat} {w : Int} {st : Nat} {Y : Ga} {M M1 : fm_M} (h : IW T n w st Y M) (k : KP M M1) : IV M1 := ⟨T, n, w, st, Y, h.1, h.2.1.same (fun a ha => k.cell a (by omega)), h.2.2.1.kp k, h.2.2.2.1.low h.2.1 (fun a ha _ _ _ => k.cell a (by omega)), h.2.2.2.2.kp k⟩
/-- a cell that nobody reads -/
theorem u362 {T : Nat → Int} {n : Nat} {w : Int} {st : Nat} {Y : Ga} {M M2 : fm_M} {p : Nat} {v : Int} (h : IW T n w st Y M) (e : M2 = fm_u M 362 p v) : IW T n w st Y M2 :=
  ⟨h.1, h.2.1.same (fun a ha => by rw [e]; exact fu_off _ _ _ (by omega)), h.2.2.1.above (fun a h1 h2 => by rw [e]; exact fu_off _ _ _ (by omega)), h.2.2.2.1.low h.2.1 (fun a ha _ _ _ => by rw [e]; exact fu_off _ _ _ (by omega)), h.2.2.2.2.above (fun a h1 h2 => by rw [e]; exact fu_off _ _ _ (by omega))⟩
/-- the mixed state's number is small -/
theorem goI_mx (Y : Ga) : ∀ (f i : Nat) (X : Xs), i + f ≤ 8 → -1 ≤ (goI Y f i X).2.2.1 ∧ (goI Y f i X).2.2.1 ≤ 8 := by
  intro f
  induction f with
  | zero => intro i X _; rw [goI]; exact ⟨show (-1 : Int) ≤ -1 by decide, show (-1 : Int) ≤ 8 by decide⟩
  | succ f ih =>
    intro i X h
    rw [goI]
    split
    · split
      · exact ⟨by show (-1 : Int) ≤ (i : Int); omega, by show (i : Int) ≤ 8; omega⟩
      · split
        · exact ih (i + 1) _ (by omega)
        · exact ⟨show (-1 : Int) ≤ -1 by decide, show (-1 : Int) ≤ 8 by decide⟩
    · exact ⟨show (-1 : Int) ≤ -1 by decide, show (-1 : Int) ≤ 8 by decide⟩
theorem SR_mx (Y : Ga) : rg (SR Y).2.2.1 := rg_small (by have := goI_mx Y 8 0 (Xad (0, fun _ _ => 0) Y.fi) (by omega); unfold SR; omega)
section Pairs
variable {M : fm_M} {Q : Int → Int → fm_M → Prop} {thr thr2 : String → fm_M → Prop}
theorem p_type (hI : IV M) {a a3 : Int} (h3 : rg a3) (hq : ∀ r M', rg r → IV M' → Q r r M') : wp_CG_type M a a3 (fun r2 M1 => wp_Mo_type M1 a a3 (fun r4 M3 => Q r2 r4 M3) thr2) thr := by
  obtain ⟨T, n, w, st, Y, hw, c, r, cx, rx⟩ := hI
  have hn := c.t.1
  refine c.type h3 (fun k ek k1 k8 kn ty M1 o1 c1 => ?_) (fun hno => ?_)
  · have r1' : RI T n w M1 := r.above (fun a h1 _ => o1 a (by omega) (by omega))
    have x1 : CX st Y M1 := cx.low c (fun a _ h1 h2 h3 => o1 a h2 h3)
    have y1 : RX st Y M1 := rx.above (fun a h1 _ => o1 a (by omega) (by omega))
    refine r1'.type h3 (fun k' ek' _ _ _ _ M2 o2 oh2 os2 r2' => ?_) (fun hno => absurd ⟨k, ek, k1, k8, kn, ty⟩ hno)
    have : k' = k := by omega
    subst this
    exact hq _ M2 (rg_small (by omega)) ⟨_, _, w, st, Y, hw, c1.same o2, r2', x1.low c1 (fun a ha _ _ _ => o2 a ha), y1.same os2 oh2⟩
  · exact r.type h3 (fun k ek h1 h2 h3 h4 => absurd ⟨k, ek, h1, h2, h3, h4⟩ hno) (fun _ M2 o2 oh2 os2 r2' => hq _ M2 (rg_small (by decide)) ⟨_, _, w, st, Y, hw, c.same o2, r2', cx.low c (fun a ha _ _ _ => o2 a ha), rx.same os2 oh2⟩)
theorem p_wipe (hI : IV M) (hq : ∀ r M', rg r → IV M' → Q r r M') : wp_CG_wipe M (fun r2 M1 => wp_Mo_wipe M1 (fun r4 M3 => Q r2 r4 M3) thr2) thr := by
  obtain ⟨T, n, w, st, Y, hw, c, r, cx, rx⟩ := hI
  have hn := c.t.1
  intro M1 e1
  have o1 : ∀ q, q ≠ 2 → M1 q = M q := fun q hq => by rw [e1]; exact fu_off _ _ _ hq
  have c1 : CI T 0 w M1 := c.wipe' o1 (by rw [e1, fu_at, if_pos rfl])
  have r1' : RI T n w M1 := r.above (fun a h1 _ => o1 a (by omega))
  have x1 : CX st Y M1 := cx.low c (fun a _ _ h2 _ => o1 a h2)
  have y1 : RX st Y M1 := rx.above (fun a h1 _ => o1 a (by omega))
  intro M2 e2 M3 e3
  have l2 : M2 331 2 = n := by rw [e2, fu_at, if_neg (by decide)]; exact r1'.mt.len
  rw [c.len, l2]
  exact hq _ M3 (rg_small (by omega)) ⟨T, 0, w, st, Y, hw, c1.same (fun a ha => by rw [e3, fu_off _ _ _ (by omega), e2, fu_off _ _ _ (by omega)]), r1'.wipe' (fun q hq => by rw [e3, fu_off _ _ _ hq, e2, fu_off _ _ _ hq]) (fun x h0 h2 => by rw [e3, fu_at, if_neg h2, e2, fu_at, if_neg h0]) (by rw [e3, fu_at, if_pos rfl]), x1.low c1 (fun a ha _ _ _ => by rw [e3, fu_off _ _ _ (by omega), e2, fu_off _ _ _ (by omega)]), y1.same (fun b hb => by rw [e3, fu_at, if_neg (by omega), e2, fu_at, if_neg (by omega)]) (fun a h1 h2 => by rw [e3, fu_off _ _ _ (by omega), e2, fu_off _ _ _ (by omega)])⟩
theorem p_read (hI : IV M) (h0 : ∀ r M', rg r → IV M' → M' 331 0 = 0 → M' 362 0 = r → Q 0 r M') (h1 : ∀ r M', IV M' → M' 331 0 = 1 → Q 1 r M') : wp_La_read M (fun r2 M1 => wp_Mo_read M1 (fun r4 M3 => Q r2 r4 M3) thr) := by
  obtain ⟨T, n, w, st, Y, hw, c, r, cx, rx⟩ := hI
  have rM : ∀ M1 : fm_M, (∀ a, 331 ≤ a → M1 a = M a) → RI T n w M1 := fun M1 o1 => r.above (fun a h1 _ => o1 a h1)
  have hbr : ∀ b : Nat, pAll T n = .bad b → rg (b : Int) := fun b hb => rg_small (by have := pAll_bad hb; have := c.t.1; omega)
  unfold wp_La_read
  refine c.read (fun k q hA hk M1 o1 c1 x1 => ⟨rg_small (by omega), fun M2 e2 => ?_⟩) (fun b hA M1 o1 c1 x1 => ⟨rfl, ?_⟩)
  · have c2 : CI T 0 w M2 := c1.same (fun a ha => by rw [e2]; exact fu_off _ _ _ (by omega))
    have x2 : CX 1 (Yof T n k) M2 := x1.low c1 (fun a ha _ _ _ => by rw [e2]; exact fu_off _ _ _ (by omega))
    have r2' : RI T n w M2 := (rM M1 o1).above (fun a h1 h2 => by rw [e2]; exact fu_off _ _ _ (by omega))
    refine r2'.read (fun k' q' hB M3 o3 x3 t3 r3' y3 => ?_) (fun b hB => absurd (hA.symm.trans hB) (fun h => by injection h))
    obtain ⟨ek, _⟩ := ok_inj (hA.symm.trans hB)
    subst ek
    exact h0 k M3 (rg_small (by omega)) ⟨T, 0, w, 1, Yof T n k, hw, c2.same o3, r3', x2.low c2 (fun a ha _ _ _ => o3 a ha), y3⟩ t3 (by rw [x3, e2, fu_at, if_pos rfl])
  · exact (rM M1 o1).read (fun _ _ hB => absurd (hA.symm.trans hB) (fun h => by injection h)) (fun b' hB M3 o3 t3 r3' y3 => h1 0 M3 ⟨T, n, b, st, Y, hbr b hA, c1.same o3, by have := bad_inj (hA.symm.trans hB); subst this; exact r3', (x1 st Y cx).low c1 (fun a ha _ _ _ => o3 a ha), y3 st Y (rx.above (fun a h1 _ => o1 a h1))⟩ t3)
theorem p_place (hI : IV M) (hq : ∀ r M', rg r → IV M' → Q r r M') : wp_CG_place M (fun r2 M1 => wp_Mo_place M1 (fun r4 M3 => Q r2 r4 M3) thr2) thr := by
  obtain ⟨T, n, w, st, Y, hI⟩ := hI
  intro M2 e2
  have k := KP.u e2
  have e : M2 331 4 = w := by rw [k.slot 4 (by decide)]; exact hI.2.2.1.wr
  rw [e, hI.2.1.wr]
  exact hq w M2 hI.1 (IW.look hI k)
theorem p_solve (hI : IV M) (h0 : ∀ r M', rg r → IV M' → M' 331 0 = 0 → M' 362 0 = r → Q 0 r M') (h1 : ∀ r M', IV M' → M' 331 0 = 1 → Q 1 r M') : wp_La_solve M (fun r2 M1 => wp_Mo_solve M1 (fun r4 M3 => Q r2 r4 M3) thr) := by
  obtain ⟨T, n, w, st, Y, hw, c, r, cx, rx⟩ := hI
  unfold wp_La_solve
  refine c.solve cx (fun x M1 hs ex rgx o1 c1 x1 => ⟨rgx, fun M2 e2 => ?_⟩) (fun hs => ⟨rfl, ?_⟩)
  · have r2' : RI T n w M2 := (r.above (fun a h1 _ => o1 a (by omega))).above (fun a h1 h2 => by rw [e2]; exact fu_off _ _ _ (by omega))
    have y2 : RX st Y M2 := (rx.above (fun a h1 _ => o1 a (by omega))).above (fun a h1 h2 => by rw [e2]; exact fu_off _ _ _ (by omega))
    have c2 : CI T n w M2 := c1.same (fun a ha => by rw [e2]; exact fu_off _ _ _ (by omega))
    have x2 : CX 2 Y M2 := x1.low c1 (fun a ha _ _ _ => by rw [e2]; exact fu_off _ _ _ (by omega))
    refine r2'.solve y2 (fun M3 hs0 => absurd hs0 hs) (fun r' M3 _ er t3 o3 f3 r3' y3 => ?_)
    have e : r' = x := by rw [er, ex]
    subst e
    exact h0 r' M3 rgx ⟨T, n, w, 2, Y, hw, c2.same o3, r3', x2.low c2 (fun a ha _ _ _ => o3 a ha), y3⟩ t3 (by rw [f3, e2, fu_at, if_pos rfl])
  · exact r.solve rx (fun M3 _ t3 o3 f3 r3' y3 => h1 0 M3 ⟨T, n, w, st, Y, hw, c.same o3, r3', cx.low c (fun a ha _ _ _ => o3 a ha), y3⟩ t3) (fun r' M3 hs1 => absurd hs hs1)
theorem p_states (hI : IV M) (hq : ∀ r M', rg r → IV M' → Q r r M') : wp_CG_states M (fun r2 M1 => wp_Mo_states M1 (fun r4 M3 => Q r2 r4 M3) thr2) thr := by
  obtain ⟨T, n, w, st, Y, hI⟩ := hI
  have hn := hI.2.2.1.n8
  refine hI.2.2.1.states (thr := thr2) (fun M' k => ?_)
  have e : M 142 1 = M 331 20 := by
    by_cases e : st = 2
    · rw [(hI.2.2.2.1.f e).1.n, (hI.2.2.2.2.f e).1.n]
    · rw [(hI.2.2.2.1.z e).1, (hI.2.2.2.2.z e).1]
  rw [e]
  exact hq _ M' (rg_small (by omega)) (IW.look hI k)
theorem p_mixed (hI : IV M) (hq : ∀ r M', rg r → IV M' → Q r r M') : wp_CG_mixed M (fun r2 M1 => wp_Mo_mixed M1 (fun r4 M3 => Q r2 r4 M3) thr2) thr := by
  obtain ⟨T, n, w, st, Y, hI⟩ := hI
  refine hI.2.2.1.mixed (thr := thr2) (fun M' k => ?_)
  have e : M 142 2 = M 331 21 := by
    by_cases e : st = 2
    · rw [(hI.2.2.2.1.f e).2.2.1, (hI.2.2.2.2.f e).2.1]
    · rw [(hI.2.2.2.1.z e).2.1, (hI.2.2.2.2.z e).2.1]
  rw [e]
  refine hq _ M' ?_ (IW.look hI k)
  by_cases e : st = 2
  · rw [(hI.2.2.2.2.f e).2.1]; exact SR_mx Y
  · rw [(hI.2.2.2.2.z e).2.1]; exact rg_small (by decide)
theorem p_variable' (hI : IV M) {a b : Int} (ha : rg a) (hb : rg b) (hq : ∀ r M', rg r → IV M' → Q r r M') : wp_CG_variable M a b (fun r2 M1 => wp_Mo_variable M1 a b (fun r4 M3 => Q r2 r4 M3) thr2) thr := by
  obtain ⟨T, n, w, st, Y, hI⟩ := hI
  obtain ⟨g, m, lk⟩ := hI.2.1.lk
  refine l_variable lk hI.2.2.2.1 ha hb (fun r hr => hI.2.2.1.vari hI.2.2.2.2 ha hb (fun r' M' hr' k => ?_))
  rw [avr_u hr' hr]
  refine hq _ M' ?_ (IW.look hI k)
  rcases hr with ⟨⟨e, ⟨a1, a2⟩, ⟨b1, b2⟩, _⟩, e2⟩ | ⟨_, e2⟩
  · have ok := (hI.2.2.2.1.f e).1.ok a.toNat (by omega) b.toNat (by omega)
    have mo := (hI.2.2.2.1.a1 (by omega)).2.w.mo9 b.toNat (by omega)
    rw [e2]; exact rg_small (by omega)
  · rw [e2]; exact rg_small (by decide)
theorem p_target (hI : IV M) {a : Int} (ha : rg a) (hq : ∀ r M', rg r → IV M' → Q r r M') : wp_CG_target M a (fun r2 M1 => wp_Mo_target M1 a (fun r4 M3 => Q r2 r4 M3) thr2) thr := by
  obtain ⟨T, n, w, st, Y, hI⟩ := hI
  obtain ⟨g, m, lk⟩ := hI.2.1.lk
  refine l_target lk hI.2.2.2.1 ha (fun r hr => hI.2.2.1.target hI.2.2.2.2 ha (fun r' M' hr' k => ?_))
  rw [atg_u hr' hr]
  refine hq _ M' ?_ (IW.look hI k)
  rcases hr with ⟨_, e⟩ | ⟨_, e⟩ <;> rw [e] <;> exact rg_small (by decide)
theorem p_owner (hI : IV M) {a : Int} (ha : rg a) (hq : ∀ r M', rg r → IV M' → Q r r M') : wp_CG_owner M a (fun r2 M1 => wp_Mo_owner M1 a (fun r4 M3 => Q r2 r4 M3) thr2) thr := by
  obtain ⟨T, n, w, st, Y, hI⟩ := hI
  obtain ⟨g, m, lk⟩ := hI.2.1.lk
  refine l_owner lk hI.2.2.2.1 ha (fun r hr => hI.2.2.1.owner hI.2.2.2.2 ha (fun r' M' hr' k => ?_))
  rw [aow_u hr' hr]
  refine hq _ M' ?_ (IW.look hI k)
  rcases hr with ⟨_, ⟨e, _⟩ | ⟨e, _⟩⟩ | ⟨_, e⟩ <;> rw [e] <;> exact rg_small (by decide)
theorem p_choice (hI : IV M) {a b : Int} (ha : rg a) (hb : rg b) (hq : ∀ r M', rg r → IV M' → Q r r M') : wp_CG_choice M a b (fun r2 M1 => wp_Mo_choice M1 a b (fun r4 M3 => Q r2 r4 M3) thr2) thr := by
  obtain ⟨T, n, w, st, Y, hI⟩ := hI
  obtain ⟨g, m, lk⟩ := hI.2.1.lk
  refine l_choice lk hI.2.2.2.1 ha hb (fun r hr => hI.2.2.1.choice hI.2.2.2.2 ha hb (fun r' M' hr' k => ?_))
  rw [ach_u hr' hr]
  refine hq _ M' ?_ (IW.look hI k)
  rcases hr with ⟨c, h1, e⟩ | ⟨_, e⟩
  · have hc := h1.2.1
    have hw := (hI.2.2.2.1.a1 (by have := h1.1.1; omega)).2.w.c10
    rw [e]; exact rg_small (by omega)
  · rw [e]; exact rg_small (by decide)
theorem p_branch (hI : IV M) {a b d : Int} (ha : rg a) (hb : rg b) (hd : rg d) (hq : ∀ r r' M', IV M' → Q r r' M') : wp_CG_branch M a b d (fun r2 M1 => wp_Mo_branch M1 a b d (fun r4 M3 => Q r2 r4 M3) thr2) thr := by
  obtain ⟨T, n, w, st, Y, hI⟩ := hI
  obtain ⟨g, m, lk⟩ := hI.2.1.lk
  exact l_branch lk ha hb hd (fun _ => hI.2.2.1.branch ha hb hd (fun _ M' k => hq _ _ M' (IW.look hI k)))
theorem p_upper (hI : IV M) {a : Int} (ha : rg a) (hq : ∀ r r' M', IV M' → Q r r' M') : wp_La_upper M a (fun r2 M1 => wp_Mo_upper M1 a (fun r4 M3 => Q r2 r4 M3) thr) := by
  obtain ⟨T, n, w, st, Y, hI⟩ := hI
  unfold wp_La_upper
  exact l_upper hI.2.1 ha (fun x M2 e2 => (u362 hI e2).2.2.1.upper ha (fun _ M3 k => hq _ _ M3 (IW.look (u362 hI e2) k))) (Or.inl ⟨rfl, hI.2.2.1.upper ha (fun _ M3 k => hq _ _ M3 (IW.look hI k))⟩) (Or.inr ⟨rfl, hI.2.2.1.upper ha (fun _ M3 k => hq _ _ M3 (IW.look hI k))⟩)
theorem p_lower (hI : IV M) {a : Int} (ha : rg a) (hq : ∀ r r' M', IV M' → Q r r' M') : wp_La_lower M a (fun r2 M1 => wp_Mo_lower M1 a (fun r4 M3 => Q r2 r4 M3) thr) := by
  obtain ⟨T, n, w, st, Y, hI⟩ := hI
  unfold wp_La_lower
  exact l_lower hI.2.1 ha (fun x M2 e2 => (u362 hI e2).2.2.1.lower ha (fun _ M3 k => hq _ _ M3 (IW.look (u362 hI e2) k))) (Or.inl ⟨rfl, hI.2.2.1.lower ha (fun _ M3 k => hq _ _ M3 (IW.look hI k))⟩) (Or.inr ⟨rfl, hI.2.2.1.lower ha (fun _ M3 k => hq _ _ M3 (IW.look hI k))⟩)
theorem p_good (hI : IV M) {a : Int} (ha : rg a) (hq : ∀ r r' M', IV M' → Q r r' M') : wp_La_good M a (fun r2 M1 => wp_Mo_good M1 a (fun r4 M3 => Q r2 r4 M3) thr) := by
  obtain ⟨T, n, w, st, Y, hI⟩ := hI
  unfold wp_La_good
  exact l_good hI.2.1 ha (fun x rx => ⟨rx, fun M2 e2 => (u362 hI e2).2.2.1.good ha (fun _ M3 k => hq _ _ M3 (IW.look (u362 hI e2) k))⟩) (Or.inl ⟨rfl, hI.2.2.1.good ha (fun _ M3 k => hq _ _ M3 (IW.look hI k))⟩) (Or.inr ⟨rfl, hI.2.2.1.good ha (fun _ M3 k => hq _ _ M3 (IW.look hI k))⟩)
end Pairs
end Pu_ck
