set_option maxRecDepth 10000
section Pu_cz
/-! The game that a text tells, as both keep it. -/
noncomputable def bl (P : Prop) : Bool := @decide P (Classical.propDecidable P)
theorem bl_iff {P : Prop} : bl P = true ↔ P := by unfold bl; simp
section Told
variable {T : Nat → Int} {n : Nat}
/-- does a guard hold; what comes of a branch -/
def gH (T : Nat → Int) (n : Nat) (kn : Nat → Int) (p : Nat) (r : Nat → Int) : Prop := ∀ t, t < tN T n kn 3 p → tcm (tC T n kn (tp T n kn p t)) (ev (vSu T n kn (tp T n kn p t)) r) (ev (tR T n kn (tp T n kn p t)) r)
def nxv (T : Nat → Int) (n : Nat) (kn : Nat → Int) (p : Nat) (r : Nat → Int) (v : Nat) : Int := if brU T n kn p v = 0 then r v else clp (kn v) (ev (vSu T n kn (brU T n kn p v)) r)
noncomputable def Yof (T : Nat → Int) (n c : Nat) : Ga := (c, fun r => bl (gH T n (KN T n) (cpp T n c + 1) r), fun k r => bl (gH T n (KN T n) (cpp T n k + 1) r), fun k => decide (chr T n (cpp T n k) = 43), fun k => bN T n (KN T n) 3 (bp T n (KN T n) (cpp T n k) 0), fun k b r v => nxv T n (KN T n) (bp T n (KN T n) (cpp T n k) b) r v, fun v => dF T n 3 0 v, KN T n, fun k b => ivn T n (bp T n (KN T n) (cpp T n k) b))
theorem ev_r {F r r' : Nat → Int} (e : ∀ v, v < 3 → r v = r' v) : ev F r = ev F r' := by
  unfold ev; rw [e 0 (by omega), e 1 (by omega), e 2 (by omega)]
theorem gH_c {kn : Nat → Int} {p : Nat} {r r' : Nat → Int} (e : ∀ v, v < 3 → r v = r' v) : gH T n kn p r ↔ gH T n kn p r' := by
  unfold gH; simp only [ev_r e]
theorem clp_b {t x : Int} (ht : 0 ≤ t) : 0 ≤ clp t x ∧ clp t x ≤ t := by
  unfold clp; split
  · omega
  · split <;> omega
/-- the first values lie within what the variables may be -/
theorem dF_le (ht : txt T n) : ∀ (f : Nat) (kn : Nat → Int) (p : Nat) (kn' : Nat → Int) (q : Nat), pDecls T n f kn p = .ok kn' q → ∀ x, (0 < kn x → kn' x = kn x) ∧ (¬ 0 < kn x → 0 ≤ dF T n f p x ∧ (dF T n f p x ≤ kn' x ∨ (kn' x = kn x ∧ dF T n f p x = 0))) := by
  intro f
  induction f with
  | zero =>
    intro kn p kn' q h x
    rw [pDecls] at h
    split at h
    · exact absurd h (by simp)
    · have := ok_inj h
      rw [← this.1]
      exact ⟨fun _ => rfl, fun _ => ⟨by rw [dF]; decide, Or.inr ⟨rfl, by rw [dF]⟩⟩⟩
  | succ f ih =>
    intro kn p kn' q h x
    rw [pDecls] at h
    by_cases hnm : nam (chr T n p)
    · rw [if_pos hnm] at h
      cases hd : pDecl T n kn p with
      | inr b => rw [hd] at h; exact absurd h (by simp [PR.bd])
      | inl mq =>
        obtain ⟨m, q1⟩ := mq
        have hd' : pDecl T n kn p = .ok m q1 := hd
        rw [hd', bd_ok] at h
        have h2 := ih _ _ _ _ h x
        unfold pDecl at hd'
        by_cases hk : 0 < kn (chr T n p - 97).toNat
        · rw [if_pos hk] at hd'; exact absurd hd' (by simp)
        · rw [if_neg hk] at hd'
          cases h3 : pNum T n 1 9 (p + 1) with
          | inr b => rw [h3] at hd'; exact absurd hd' (by simp [PR.bd])
          | inl mq =>
            obtain ⟨m', q2⟩ := mq
            have h3' : pNum T n 1 9 (p + 1) = .ok m' q2 := h3
            rw [h3', bd_ok] at hd'
            have n1 := pNum_ok ht h3'
            have n2 := pNum_val h3'
            by_cases hc : chr T n q2 = 58
            · rw [if_pos hc] at hd'
              cases h4 : pNum T n 0 m' (q2 + 1) with
              | inr b => rw [h4] at hd'; exact absurd hd' (by simp [PR.bd])
              | inl mq =>
                obtain ⟨s, q3⟩ := mq
                have h4' : pNum T n 0 m' (q2 + 1) = .ok s q3 := h4
                rw [h4', bd_ok] at hd'
                have n3 := pNum_ok ht h4'
                have n4 := pNum_val h4'
                by_cases hc2 : chr T n q3 = 59
                · rw [if_pos hc2] at hd'
                  obtain ⟨e1, e2⟩ := ok_inj hd'
                  subst e1
                  have ede : dE T n p = q1 := by unfold dE; rw [← n2.2, ← n4.2]; exact e2
                  rw [dF, if_pos hnm]
                  by_cases e : x = (chr T n p - 97).toNat
                  · rw [if_pos e, ← n2.2, ← n4.1]
                    rw [if_pos e] at h2
                    refine ⟨fun hh => by rw [e] at hh; exact absurd hh hk, fun _ => ⟨n3.1, Or.inl ?_⟩⟩
                    rw [h2.1 (by omega)]; exact n3.2.1
                  · rw [if_neg e, ede]
                    rw [if_neg e] at h2
                    exact h2
                · rw [if_neg hc2] at hd'; exact absurd hd' (by simp)
            · rw [if_neg hc] at hd'; exact absurd hd' (by simp)
    · rw [if_neg hnm] at h
      have := ok_inj h
      rw [← this.1]
      exact ⟨fun _ => rfl, fun _ => by rw [dF, if_neg hnm]; exact ⟨Int.le_refl 0, Or.inr ⟨rfl, rfl⟩⟩⟩
theorem dF_ok (ht : txt T n) {c q : Nat} (hA : pAll T n = .ok c q) (v : Nat) : 0 ≤ dF T n 3 0 v ∧ dF T n 3 0 v ≤ KN T n v := by
  unfold pAll at hA
  cases h : pDecls T n 3 (fun _ => 0) 0 with
  | inr b => rw [h] at hA; exact absurd hA (by simp [PR.bd])
  | inl mq =>
    obtain ⟨kn, p1⟩ := mq
    have h2 := (dF_le ht 3 _ _ _ _ h v).2 (by decide)
    have e : KN T n = kn := by unfold KN; rw [h]
    rw [e]
    refine ⟨h2.1, ?_⟩
    rcases h2.2 with a | ⟨a, b⟩
    · exact a
    · rw [a, b]; exact Int.le_refl 0
theorem Yof_w (ht : txt T n) {c q : Nat} (hA : pAll T n = .ok c q) (hc : c ≤ 10) (hk : ∀ v, v < 3 → 0 ≤ KN T n v ∧ KN T n v ≤ 9) : YW (Yof T n c) := by
  refine ⟨hc, fun k => bN_le, fun v hv => dF_ok ht hA v, fun k b r hr v hv => ?_, fun v hv => (hk v hv).2, fun r r' e => ?_, fun k r r' e => ?_⟩
  · show 0 ≤ nxv T n (KN T n) _ r v ∧ nxv T n (KN T n) _ r v ≤ KN T n v
    unfold nxv; split
    · exact hr v hv
    · exact clp_b (hk v hv).1
  · show bl _ = bl _
    rw [propext (gH_c e)]
  · show bl _ = bl _
    rw [propext (gH_c e)]
theorem RY_of (ht : txt T n) {c q d : Nat} (hA : pAll T n = .ok c q) (hc : c ≤ 10) {M : fm_M} (rb : RB M) (hd : d ≤ 1) (h5 : M 335 d = c) (h : MC T n d c M) : RY (Yof T n c) d M := by
  obtain ⟨h1, h2, h3, h4, h6⟩ := h
  have hk : ∀ v, v < 3 → 0 ≤ KN T n v ∧ KN T n v ≤ 9 := fun v hv => by rw [← h1 v hv]; exact rb.g 333 6 0 9 (by decide) (by omega)
  have gu : ∀ g p, g ≤ 10 → M 340 (11 * d + g) = (tN T n (KN T n) 3 p : Nat) → mgu T n (KN T n) p d g M (tN T n (KN T n) 3 p) → ∀ r, (rhol M d g r ↔ gH T n (KN T n) p r) := fun g p _ e u r => by
    unfold rhol gH
    rw [e]
    refine ⟨fun hh t hlt => ?_, fun hh t hlt => ?_⟩
    · have := hh t (by omega)
      rw [(u t hlt).1, (u t hlt).2.1, (u t hlt).2.2] at this; exact this
    · have hlt' : t < tN T n (KN T n) 3 p := by omega
      rw [(u t hlt').1, (u t hlt').2.1, (u t hlt').2.2]; exact hh t hlt'
  refine ⟨Yof_w ht hA hc hk, h5, fun r _ => (gu 10 _ (by omega) h4 h6 r).trans bl_iff.symm, fun k hkc r _ => ?_, fun k hkc => ?_, fun k hkc => ?_, fun k b hkc hb r _ v hv => ?_, fun v hv => h2 v hv, fun v hv => h1 v hv, fun k b hkc hb => ((h3 k hkc).2.2.2.2.2 b hb).1⟩
  · have m := h3 k hkc
    exact (gu k _ (by have : k < c := hkc; omega) m.2.2.2.1 m.2.2.2.2.1 r).trans bl_iff.symm
  · rw [(h3 k hkc).1]
    show _ = if decide (chr T n (cpp T n k) = 43) = true then (1 : Int) else 0
    by_cases e : chr T n (cpp T n k) = 43
    · rw [if_pos e, if_pos (by simp [e])]
    · rw [if_neg e, if_neg (by simp [e])]
  · exact (h3 k hkc).2.1
  · have m := ((h3 k hkc).2.2.2.2.2 b hb).2 v hv
    show _ = nxv T n (KN T n) (bp T n (KN T n) (cpp T n k) b) r v
    unfold rnx nxv
    have eu : 208 * d + 88 + 12 * k + 3 * b + v = ua d k b v := rfl
    rw [eu]
    by_cases e : brU T n (KN T n) (bp T n (KN T n) (cpp T n k) b) v = 0
    · rw [if_pos e, if_neg (by rw [m.1 e]; decide)]
    · rw [if_neg e, if_pos (m.2 e).1, (m.2 e).2, h1 v hv]
theorem ivn_b (ht : txt T n) (p : Nat) : -858 ≤ ivn T n p ∧ ivn T n p ≤ 858 := by
  unfold ivn
  have h1 := chr_b ht p
  have h2 := chr_b ht (p + 1)
  split <;> omega
theorem vIt_b (ht : txt T n) (p x : Nat) : -858 ≤ vIt T n p x ∧ vIt T n p x ≤ 858 := by
  have := ivn_b ht p
  unfold vIt; split
  · split <;> omega
  · split <;> omega
theorem vMo_b (ht : txt T n) {kn : Nat → Int} : ∀ (f p x : Nat), -(858 * f : Int) ≤ vMo T n kn f p x ∧ vMo T n kn f p x ≤ 858 * f := by
  intro f
  induction f with
  | zero => intro p x; rw [vMo]; omega
  | succ f ih =>
    intro p x
    rw [vMo]
    have h1 := vIt_b ht (p + 1) x
    have h2 := ih (ps (pItem T n kn (p + 1))) x
    split
    · split <;> omega
    · omega
theorem vSu_b (ht : txt T n) {kn : Nat → Int} (p x : Nat) : -3432 ≤ vSu T n kn p x ∧ vSu T n kn p x ≤ 3432 := by
  unfold vSu
  have h1 := vIt_b ht p x
  have h2 := vMo_b ht (kn := kn) 3 (ps (pItem T n kn p)) x
  omega
theorem tcm_0 {c a b : Int} : tcm c (a - b) 0 ↔ tcm c a b := by
  unfold tcm
  split
  · omega
  · split
    · omega
    · split <;> omega
theorem mul_b {a r B : Int} (ha : -B ≤ a ∧ a ≤ B) (hr : 0 ≤ r ∧ r ≤ 9) (hB : 0 ≤ B) : -(9 * B) ≤ a * r ∧ a * r ≤ 9 * B := by
  have h1 : a * r ≤ B * r := Int.mul_le_mul_of_nonneg_right ha.2 hr.1
  have h2 : -B * r ≤ a * r := Int.mul_le_mul_of_nonneg_right ha.1 hr.1
  have h3 : B * r ≤ B * 9 := Int.mul_le_mul_of_nonneg_left hr.2 hB
  rw [Int.neg_mul] at h2
  omega
/-- a sum of the class, at values that may be -/
theorem csr_ev {M : fm_M} {k a : Nat} {F r : Nat → Int} (e : ∀ x, x < 4 → M k (a + x) = F x) (hF : ∀ x, x < 4 → -6864 ≤ F x ∧ F x ≤ 6864) (hr : ∀ v, v < 3 → 0 ≤ r v ∧ r v ≤ 9) : csr M k a r = ev F r := by
  unfold csr ev
  rw [e 3 (by omega), show M k a = F 0 from e 0 (by omega), e 1 (by omega), e 2 (by omega)]
  have b0 := mul_b (hF 0 (by omega)) (hr 0 (by omega)) (by decide)
  have b1 := mul_b (hF 1 (by omega)) (hr 1 (by omega)) (by decide)
  have b2 := mul_b (hF 2 (by omega)) (hr 2 (by omega)) (by decide)
  have b3 := hF 3 (by omega)
  rw [jwi_id (by constructor <;> omega)]
  omega
theorem CY_of (ht : txt T n) {c q g : Nat} (hA : pAll T n = .ok c q) (hc : c ≤ 10) {M : fm_M} (cb : CB g M) (h5 : M g 4 = c) (h : CC T n g c M) : CY (Yof T n c) g M := by
  obtain ⟨h1, h2, h3, h4, h6⟩ := h
  have hk : ∀ v, v < 3 → 0 ≤ KN T n v ∧ KN T n v ≤ 9 := fun v hv => by rw [← h1 v hv]; exact cb.g' (o := 1) (s := 0) (t := 3) (a := 0) (b := 9) (by decide) (by omega) hv
  have w := Yof_w ht hA hc hk
  have r9 : ∀ r, okr (Yof T n c) r → ∀ v, v < 3 → 0 ≤ r v ∧ r v ≤ 9 := fun r hr v hv => by
    have := hr v hv
    have := w.mo9 v hv
    omega
  have gu : ∀ k p, M k 2 = (tN T n (KN T n) 3 p : Nat) → cgu T n (KN T n) p k M (tN T n (KN T n) 3 p) → ∀ r, okr (Yof T n c) r → (chol M k r ↔ gH T n (KN T n) p r) := fun k p e u r hr => by
    have key : ∀ t, t < tN T n (KN T n) 3 p → (tcm (M (k + 2) t) (csr M (k + 1) (4 * t) r) 0 ↔ tcm (tC T n (KN T n) (tp T n (KN T n) p t)) (ev (vSu T n (KN T n) (tp T n (KN T n) p t)) r) (ev (tR T n (KN T n) (tp T n (KN T n) p t)) r)) := fun t hlt => by
      have ut := u.2 t hlt
      rw [ut.1, csr_ev (F := fun x => vSu T n (KN T n) (tp T n (KN T n) p t) x - tR T n (KN T n) (tp T n (KN T n) p t) x) ut.2 (fun x _ => by
        have a := vSu_b ht (kn := KN T n) (tp T n (KN T n) p t) x
        have b : -3432 ≤ tR T n (KN T n) (tp T n (KN T n) p t) x ∧ tR T n (KN T n) (tp T n (KN T n) p t) x ≤ 3432 := vSu_b ht _ x
        omega) (r9 r hr)]
      rw [ev_add (F := vSu T n (KN T n) (tp T n (KN T n) p t)) (G := tR T n (KN T n) (tp T n (KN T n) p t)) (c := -1) (fun x => by omega)]
      rw [show ev (vSu T n (KN T n) (tp T n (KN T n) p t)) r + -1 * ev (tR T n (KN T n) (tp T n (KN T n) p t)) r = ev (vSu T n (KN T n) (tp T n (KN T n) p t)) r - ev (tR T n (KN T n) (tp T n (KN T n) p t)) r by omega]
      exact tcm_0
    unfold chol gH
    rw [e]
    exact ⟨fun hh t hlt => (key t hlt).mp (hh t (by omega)), fun hh t hlt => (key t (by omega)).mpr (hh t (by omega))⟩
  refine ⟨w, h5, fun r hr => (gu (g + 4) _ h4 h6 r hr).trans bl_iff.symm, fun k hkc r hr => ?_, fun k hkc => ?_, fun k hkc => (h3 k hkc).2.1, fun k b hkc hb r hr v hv => ?_, fun v hv => h2 v hv, fun v hv => h1 v hv, fun k b hkc hb => by rw [show g + (12 + 13 * k + 2 * b) = g + (7 + 13 * k) + 5 + 2 * b by omega]; exact ((h3 k hkc).2.2.2.2.2 b hb).1, fun k hkc => (h3 k hkc).2.2.1⟩
  · have m := h3 k hkc
    rw [show g + (8 + 13 * k) = g + (7 + 13 * k) + 1 by omega]
    exact (gu _ _ m.2.2.2.1 m.2.2.2.2.1 r hr).trans bl_iff.symm
  · rw [(h3 k hkc).1]
    show _ = if decide (chr T n (cpp T n k) = 43) = true then (1 : Int) else 0
    by_cases e : chr T n (cpp T n k) = 43
    · rw [if_pos e, if_pos (by simp [e])]
    · rw [if_neg e, if_neg (by simp [e])]
  · have m := ((h3 k hkc).2.2.2.2.2 b hb).2
    show _ = nxv T n (KN T n) (bp T n (KN T n) (cpp T n k) b) r v
    have hkv := hk v hv
    have hrv := hr v hv
    have hrv2 : r v ≤ KN T n v := hrv.2
    rw [show g + (12 + 13 * k + 2 * b) = g + (7 + 13 * k) + 5 + 2 * b by omega]
    unfold folr nxv
    rw [h1 v hv]
    by_cases e : brU T n (KN T n) (bp T n (KN T n) (cpp T n k) b) v = 0
    · rw [if_pos e, csr_ev (F := fun x => if x = v then 1 else 0) (fun x hx => by rw [m v x hv hx]; unfold brF; rw [if_pos e]) (fun x _ => by split <;> omega) (r9 r hr)]
      have ee : ev (fun x => if x = v then (1 : Int) else 0) r = r v := by
        have : v = 0 ∨ v = 1 ∨ v = 2 := by omega
        unfold ev
        rcases this with e | e | e <;> subst e <;> simp
      rw [ee]
      unfold jmax jmin
      split <;> split <;> omega
    · rw [if_neg e, csr_ev (F := vSu T n (KN T n) (brU T n (KN T n) (bp T n (KN T n) (cpp T n k) b) v)) (fun x hx => by rw [m v x hv hx]; unfold brF; rw [if_neg e]) (fun x _ => by have := vSu_b ht (kn := KN T n) (brU T n (KN T n) (bp T n (KN T n) (cpp T n k) b) v) x; omega) (r9 r hr)]
      unfold jmax jmin clp
      split <;> split <;> (try split) <;> (try split) <;> omega
end Told
end Pu_cz
section Pu_cf
/-! What holds between the calls. -/
theorem jand_255 (x : Int) : jand x 255 = x % 256 := by
  unfold jand
  rw [Int32.toInt, Int32.toBitVec_and, BitVec.toInt_eq_toNat_cond]
  have e : ((Int32.ofInt x).toBitVec &&& (Int32.ofInt 255).toBitVec).toNat = (x % 256).toNat := by
    rw [BitVec.toNat_and]
    have e1 : (Int32.ofInt 255).toBitVec.toNat = 2 ^ 8 - 1 := by decide
    rw [e1, Nat.and_two_pow_sub_one_eq_mod]
    have e2 : (Int32.ofInt x).toBitVec.toNat = (x % 2 ^ 32).toNat := by
      show (BitVec.ofInt 32 x).toNat = _
      rw [BitVec.toNat_ofInt]; rfl
    rw [e2]
    omega
  rw [e]
  have := Int.emod_nonneg x (show (256 : Int) ≠ 0 by decide)
  have := Int.emod_lt_of_pos x (show (0 : Int) < 256 by decide)
  rw [if_pos (by omega)]; omega
theorem jland_255 (x : Int) : jland x 255 = x % 256 := by
  unfold jland
  rw [Int64.toInt, Int64.toBitVec_and, BitVec.toInt_eq_toNat_cond]
  have e : ((Int64.ofInt x).toBitVec &&& (Int64.ofInt 255).toBitVec).toNat = (x % 256).toNat := by
    rw [BitVec.toNat_and]
    have e1 : (Int64.ofInt 255).toBitVec.toNat = 2 ^ 8 - 1 := by decide
    rw [e1, Nat.and_two_pow_sub_one_eq_mod]
    have e2 : (Int64.ofInt x).toBitVec.toNat = (x % 2 ^ 64).toNat := by
      show (BitVec.ofInt 64 x).toNat = _
      rw [BitVec.toNat_ofInt]; rfl
    rw [e2]
    omega
  rw [e]
  have := Int.emod_nonneg x (show (256 : Int) ≠ 0 by decide)
  have := Int.emod_lt_of_pos x (show (0 : Int) < 256 by decide)
  rw [if_pos (by omega)]; omega
theorem ji2c_id : ∀ v : Fin 256, ji2c (v.1 : Int) = v.1 := by decide
/-- a byte of what is typed -/
def byt (a : Int) (k : Nat) : Int := jlshr a (8 * k) % 256
theorem byt_rg (a : Int) (k : Nat) : 0 ≤ byt a k ∧ byt a k < 256 := ⟨Int.emod_nonneg _ (by decide), Int.emod_lt_of_pos _ (by decide)⟩
/-- the text behind a typing -/
def txa (T : Nat → Int) (n : Nat) (a : Int) (c : Nat) : Nat → Int := fun p => if p < n then T p else byt a (c - 1 - (p - n))
def tyb (a : Int) (c : Nat) : Prop := ∀ k, k < c → 33 ≤ byt a k ∧ byt a k ≤ 126
/-- the class's part -/
def CI (T : Nat → Int) (n : Nat) (w : Int) (M : fm_M) : Prop :=
  (txt T n) ∧
  (M 2 1 = n) ∧
  (∀ p, p < n → M 3 p = T p) ∧
  (∃ g h : Nat, ((g = 4 ∧ h = 143) ∨ (g = 143 ∧ h = 4)) ∧ M 1 1 = g ∧ M 142 0 = h ∧ CB g M ∧ CB h M ∧ FB (M h 4).toNat M) ∧
  (nxr M) ∧
  (alr M) ∧
  (M 0 5 = 0 ∨ M 0 5 = 1) ∧
  (M 0 6 = 0 ∨ M 0 6 = 1) ∧
  (M 1 3 = w)
theorem CI.t {T : Nat → Int} {n : Nat} {w : Int} {M : fm_M} (h_ : CI T n w M) : txt T n := h_.1
theorem CI.len {T : Nat → Int} {n : Nat} {w : Int} {M : fm_M} (h_ : CI T n w M) : M 2 1 = n := h_.2.1
theorem CI.ch {T : Nat → Int} {n : Nat} {w : Int} {M : fm_M} (h_ : CI T n w M) : ∀ p, p < n → M 3 p = T p := h_.2.2.1
theorem CI.gs {T : Nat → Int} {n : Nat} {w : Int} {M : fm_M} (h_ : CI T n w M) : ∃ g h : Nat, ((g = 4 ∧ h = 143) ∨ (g = 143 ∧ h = 4)) ∧ M 1 1 = g ∧ M 142 0 = h ∧ CB g M ∧ CB h M ∧ FB (M h 4).toNat M := h_.2.2.2.1
theorem CI.nx {T : Nat → Int} {n : Nat} {w : Int} {M : fm_M} (h_ : CI T n w M) : nxr M := h_.2.2.2.2.1
theorem CI.al {T : Nat → Int} {n : Nat} {w : Int} {M : fm_M} (h_ : CI T n w M) : alr M := h_.2.2.2.2.2.1
theorem CI.b5 {T : Nat → Int} {n : Nat} {w : Int} {M : fm_M} (h_ : CI T n w M) : M 0 5 = 0 ∨ M 0 5 = 1 := h_.2.2.2.2.2.2.1
theorem CI.b6 {T : Nat → Int} {n : Nat} {w : Int} {M : fm_M} (h_ : CI T n w M) : M 0 6 = 0 ∨ M 0 6 = 1 := h_.2.2.2.2.2.2.2.1
theorem CI.wr {T : Nat → Int} {n : Nat} {w : Int} {M : fm_M} (h_ : CI T n w M) : M 1 3 = w := h_.2.2.2.2.2.2.2.2
/-- the reference's part -/
def RI (T : Nat → Int) (n : Nat) (w : Int) (M : fm_M) : Prop :=
  (MT T n M) ∧
  (RB M) ∧
  ((M 331 6 = -1 ∧ M 331 20 = 0) ∨ ((M 331 6 = 0 ∨ M 331 6 = 1) ∧ gwf M ∧ EX0 M)) ∧
  (M 331 22 = 0 ∨ M 331 22 = 1) ∧
  (M 331 4 = w)
theorem RI.mt {T : Nat → Int} {n : Nat} {w : Int} {M : fm_M} (h_ : RI T n w M) : MT T n M := h_.1
theorem RI.rb {T : Nat → Int} {n : Nat} {w : Int} {M : fm_M} (h_ : RI T n w M) : RB M := h_.2.1
theorem RI.hg {T : Nat → Int} {n : Nat} {w : Int} {M : fm_M} (h_ : RI T n w M) : (M 331 6 = -1 ∧ M 331 20 = 0) ∨ ((M 331 6 = 0 ∨ M 331 6 = 1) ∧ gwf M ∧ EX0 M) := h_.2.2.1
theorem RI.sl {T : Nat → Int} {n : Nat} {w : Int} {M : fm_M} (h_ : RI T n w M) : M 331 22 = 0 ∨ M 331 22 = 1 := h_.2.2.2.1
theorem RI.wr {T : Nat → Int} {n : Nat} {w : Int} {M : fm_M} (h_ : RI T n w M) : M 331 4 = w := h_.2.2.2.2
/-- the game and what was found: in the class (st: 0 no game, 1 a game, 2 its states) -/
def CX (st : Nat) (Y : Ga) (M : fm_M) : Prop :=
  (st = 0 → M 0 5 = 0) ∧
  (st ≠ 0 → M 0 5 = 1 ∧ CY Y (M 142 0).toNat M) ∧
  (st ≠ 2 → M 142 1 = 0 ∧ M 142 2 = -1 ∧ M 0 6 = 0) ∧
  (st = 2 → CFd Y (SR Y).1 M ∧ M 142 4 = (SR Y).2.1 ∧ M 142 2 = (SR Y).2.2.1 ∧ omb Y M ∧ (M 0 6 = 1 ↔ 0 < (SR Y).2.2.2) ∧ (0 < (SR Y).2.2.2 → VX Y (M 324) (M 325) (M 330)))
theorem CX.a0 {st : Nat} {Y : Ga} {M : fm_M} (h_ : CX st Y M) : st = 0 → M 0 5 = 0 := h_.1
theorem CX.a1 {st : Nat} {Y : Ga} {M : fm_M} (h_ : CX st Y M) : st ≠ 0 → M 0 5 = 1 ∧ CY Y (M 142 0).toNat M := h_.2.1
theorem CX.z {st : Nat} {Y : Ga} {M : fm_M} (h_ : CX st Y M) : st ≠ 2 → M 142 1 = 0 ∧ M 142 2 = -1 ∧ M 0 6 = 0 := h_.2.2.1
theorem CX.f {st : Nat} {Y : Ga} {M : fm_M} (h_ : CX st Y M) : st = 2 → CFd Y (SR Y).1 M ∧ M 142 4 = (SR Y).2.1 ∧ M 142 2 = (SR Y).2.2.1 ∧ omb Y M ∧ (M 0 6 = 1 ↔ 0 < (SR Y).2.2.2) ∧ (0 < (SR Y).2.2.2 → VX Y (M 324) (M 325) (M 330)) := h_.2.2.2
/-- in the reference -/
def RX (st : Nat) (Y : Ga) (M : fm_M) : Prop :=
  (st = 0 → M 331 6 = -1) ∧
  (st ≠ 0 → (M 331 6 = 0 ∨ M 331 6 = 1) ∧ RY Y (M 331 6).toNat M) ∧
  (st ≠ 2 → M 331 20 = 0 ∧ M 331 21 = -1 ∧ M 331 22 = 0) ∧
  (st = 2 → RF Y (SR Y).1 (SR Y).2.1 M ∧ M 331 21 = (SR Y).2.2.1 ∧ (M 331 22 = 1 ↔ 0 ≤ (SR Y).2.2.2) ∧ (0 ≤ (SR Y).2.2.2 → VX Y (M 359) (M 360) (M 361)))
theorem RX.a0 {st : Nat} {Y : Ga} {M : fm_M} (h_ : RX st Y M) : st = 0 → M 331 6 = -1 := h_.1
theorem RX.a1 {st : Nat} {Y : Ga} {M : fm_M} (h_ : RX st Y M) : st ≠ 0 → (M 331 6 = 0 ∨ M 331 6 = 1) ∧ RY Y (M 331 6).toNat M := h_.2.1
theorem RX.z {st : Nat} {Y : Ga} {M : fm_M} (h_ : RX st Y M) : st ≠ 2 → M 331 20 = 0 ∧ M 331 21 = -1 ∧ M 331 22 = 0 := h_.2.2.1
theorem RX.f {st : Nat} {Y : Ga} {M : fm_M} (h_ : RX st Y M) : st = 2 → RF Y (SR Y).1 (SR Y).2.1 M ∧ M 331 21 = (SR Y).2.2.1 ∧ (M 331 22 = 1 ↔ 0 ≤ (SR Y).2.2.2) ∧ (0 ≤ (SR Y).2.2.2 → VX Y (M 359) (M 360) (M 361)) := h_.2.2.2
theorem CX.same {st : Nat} {Y : Ga} {M M' : fm_M} (h : CX st Y M) {k : Nat} (hk : k = 4 ∨ k = 143) (e0 : M 142 0 = k) (e : ∀ a, a = 0 ∨ a = 142 ∨ (k ≤ a ∧ a < k + 137) ∨ (281 ≤ a ∧ a ≤ 289) ∨ (324 ≤ a ∧ a ≤ 330) → M' a = M a) : CX st Y M' := by
  refine ⟨fun hs => by rw [e 0 (by omega)]; exact h.a0 hs, fun hs => ⟨by rw [e 0 (by omega)]; exact (h.a1 hs).1, ?_⟩, fun hs => by rw [e 0 (by omega), e 142 (by omega)]; exact h.z hs, fun hs => ?_⟩
  · have := (h.a1 hs).2
    rw [e 142 (by omega)]
    rw [e0, Int.toNat_natCast] at this ⊢
    exact this.same (fun a h1 h2 => e a (by omega))
  · obtain ⟨f1, f2, f3, f4, f5, f6⟩ := h.f hs
    refine ⟨f1.same (by rw [e 142 (by omega)]) (by rw [e 142 (by omega)]) (fun a h1 h2 => e a (by omega)), by rw [e 142 (by omega)]; exact f2, by rw [e 142 (by omega)]; exact f3, by unfold omb; rw [e 142 (by omega)]; exact f4, by rw [e 0 (by omega)]; exact f5, by rw [e 324 (by omega), e 325 (by omega), e 330 (by omega)]; exact f6⟩
theorem RX.same {st : Nat} {Y : Ga} {M M' : fm_M} (h : RX st Y M) (es : ∀ b, b = 6 ∨ b = 20 ∨ b = 21 ∨ b = 22 → M' 331 b = M 331 b) (e : ∀ a, 333 ≤ a → a ≤ 361 → M' a = M a) : RX st Y M' := by
  refine ⟨fun hs => by rw [es 6 (by omega)]; exact h.a0 hs, fun hs => by rw [es 6 (by omega)]; exact ⟨(h.a1 hs).1, (h.a1 hs).2.same (fun a h1 h2 => e a h1 (by omega))⟩, fun hs => by rw [es 20 (by omega), es 21 (by omega), es 22 (by omega)]; exact h.z hs, fun hs => ?_⟩
  obtain ⟨f1, f2, f3, f4⟩ := h.f hs
  exact ⟨f1.same (es 20 (by omega)) (fun a h1 h2 => e a (by omega) (by omega)), by rw [es 21 (by omega)]; exact f2, by rw [es 22 (by omega)]; exact f3, by rw [e 359 (by omega) (by omega), e 360 (by omega) (by omega), e 361 (by omega) (by omega)]; exact f4⟩
/-- a text is read into the other half -/
theorem RY.kp {Y : Ga} {G d : Nat} {M M' : fm_M} (h : RY Y G M) (rb : RB M) (hG : G ≤ 1) (hd : d ≤ 1) (hne : G ≠ d) (k : keep d M M') : RY Y G M' := by
  have hC := h.w.c10
  have hN := h.w.nb4
  have sm1 : ∀ x, 208 * G ≤ x → x < 208 * G + 208 → same1 x M M' := fun x h1 h2 => k.od.2.2 x (by omega)
  have hol : ∀ g r, g ≤ 10 → (rhol M' G g r ↔ rhol M G g r) := fun g r hg => by
    have h4 := rb.g 340 22 0 4 (by decide) (x := 11 * G + g) (by omega)
    have e0 : M' 340 (11 * G + g) = M 340 (11 * G + g) := k.od.1 _ (by omega)
    have key : ∀ t : Nat, (t : Int) < M 340 (11 * G + g) → M' 341 (44 * G + 4 * g + t) = M 341 (44 * G + 4 * g + t) ∧ rsu M' (208 * G + 8 * g + 2 * t) r = rsu M (208 * G + 8 * g + 2 * t) r ∧ rsu M' (208 * G + 8 * g + 2 * t + 1) r = rsu M (208 * G + 8 * g + 2 * t + 1) r := fun t ht => ⟨k.od.2.1 _ (by omega), (sm1 _ (by omega) (by omega)).ev rb (by omega) r, (sm1 _ (by omega) (by omega)).ev rb (by omega) r⟩
    unfold rhol
    rw [e0]
    refine ⟨fun hh t ht => ?_, fun hh t ht => ?_⟩
    · have := hh t ht
      rw [(key t ht).1, (key t ht).2.1, (key t ht).2.2] at this; exact this
    · rw [(key t ht).1, (key t ht).2.1, (key t ht).2.2]; exact hh t ht
  refine ⟨h.w, by rw [k.c335 G hne]; exact h.c, fun r hr => (hol 10 r (by omega)).trans (h.tg r hr), fun c hc r hr => (hol c r (by omega)).trans (h.en c hc r hr), fun c hc => by rw [k.c336 _ (by omega)]; exact h.mx c hc, fun c hc => by rw [(k.c337 _ (by omega)).1]; exact h.nb c hc, fun c b hc hb r hr v hv => ?_, fun v hv => by rw [(k.c333 _ (by omega)).2]; exact h.fi v hv, fun v hv => by rw [(k.c333 _ (by omega)).1]; exact h.mo v hv, fun c b hc hb => by have := hN c; rw [k.c339 _ (by omega)]; exact h.wt c b hc hb⟩
  have := hN c
  have hx := h.nx c b hc hb r hr v hv
  unfold rnx at hx ⊢
  have s := sm1 (208 * G + 88 + 12 * c + 3 * b + v) (by omega) (by omega)
  rw [s.1, s.ev rb (by omega) r, (k.c333 (3 * G + v) (by omega)).1]; exact hx
def IV (M : fm_M) : Prop := ∃ (T : Nat → Int) (n : Nat) (w : Int) (st : Nat) (Y : Ga), rg w ∧ CI T n w M ∧ RI T n w M ∧ CX st Y M ∧ RX st Y M
theorem CB.same {g : Nat} {M M' : fm_M} (h : CB g M) (e : ∀ a, g ≤ a → a < g + 137 → M' a = M a) : CB g M' := fun q hq x h1 h2 => by
  have := CBt_lt q hq
  rw [e _ (by omega) (by omega)]; exact h q hq x h1 h2
theorem FB.same {m : Nat} {M M' : fm_M} (F : FB m M) (e : ∀ a, a = 142 ∨ (281 ≤ a ∧ a ≤ 289) ∨ a = 308 → M' a = M a) : FB m M' := ⟨by rw [e 142 (by omega)]; exact F.cnt, by rw [e 142 (by omega)]; exact F.lk, fun i v hi hv => by rw [e _ (by omega)]; exact F.val i v hi hv, fun v hv => by rw [e 308 (by omega)]; exact F.com v hv, fun i hi => by
  rw [e 142 (by omega)] at hi
  rw [e 289 (by omega)]; exact F.en i hi, by rw [e 142 (by omega)]; exact F.tg⟩
theorem CI.same {T : Nat → Int} {n : Nat} {w : Int} {M M' : fm_M} (h : CI T n w M) (e : ∀ a, a ≤ 330 → M' a = M a) : CI T n w M' := by
  obtain ⟨g, k, hgk, e1, e2, c1, c2, F⟩ := h.gs
  refine ⟨h.t, by rw [e 2 (by omega)]; exact h.len, by rw [e 3 (by omega)]; exact h.ch, ⟨g, k, hgk, by rw [e 1 (by omega)]; exact e1, by rw [e 142 (by omega)]; exact e2, c1.same (fun a _ _ => e a (by omega)), c2.same (fun a _ _ => e a (by omega)), ?_⟩, fun i x hi hx => by rw [e _ (by omega)]; exact h.nx i x hi hx, fun i hi => by rw [e 328 (by omega), e 330 (by omega)]; exact h.al i hi, by rw [e 0 (by omega)]; exact h.b5, by rw [e 0 (by omega)]; exact h.b6, by rw [e 1 (by omega)]; exact h.wr⟩
  rw [e k (by omega)]
  exact F.same (fun a ha => e a (by omega))
theorem RBt_rg : ∀ q ∈ RBt, 331 ≤ q.1 ∧ q.1 ≤ 361 := by decide
theorem RBt_51 : ∀ q ∈ RBt, q.1 ≤ 351 := by decide
theorem gwf_same {M M' : fm_M} (h : gwf M) (e6 : M' 331 6 = M 331 6) (e : ∀ a, a = 335 ∨ a = 337 ∨ a = 338 ∨ a = 339 → M' a = M a) : gwf M' := by
  unfold gwf; rw [e6, e 335 (by omega), e 337 (by omega), e 338 (by omega), e 339 (by omega)]; exact h
theorem EX0.same {M M' : fm_M} (h : EX0 M) (e6 : M' 331 6 = M 331 6) (e20 : M' 331 20 = M 331 20) (e : ∀ a, 332 ≤ a → a ≤ 351 → M' a = M a) : EX0 M' := by
  have rb : RB M' := fun q hq x hx => by
    have h1 := RBt_rg q hq
    have h2 := RBt_ne q hq
    have h3 := RBt_51 q hq
    rw [e q.1 (by omega) h3]; exact h.rb q hq x hx
  have en : (Gof M').n = (Gof M).n := by show (M' 331 20).toNat = (M 331 20).toNat; rw [e20]
  have ec : (Gof M').cc = (Gof M).cc := by funext j; show (M' 349 j).toNat = (M 349 j).toNat; rw [e 349 (by omega) (by omega)]
  refine ⟨rb, by rw [e6]; exact h.hg, by rw [e20]; exact h.hn, ?_, ?_, fun _ _ _ _ _ _ hF => hF.elim⟩
  · rw [en, ec, e 348 (by omega) (by omega), e 335 (by omega) (by omega), e6]; exact h.cm
  · rw [en, e 346 (by omega) (by omega), e 349 (by omega) (by omega)]; exact h.tgc
theorem RI.same {T : Nat → Int} {n : Nat} {w : Int} {M M' : fm_M} (h : RI T n w M) (e : ∀ a, 332 ≤ a → a ≤ 361 → M' a = M a) (es : ∀ b, b ≠ 0 → M' 331 b = M 331 b) : RI T n w M' := by
  refine ⟨⟨h.mt.t, by rw [es 2 (by decide)]; exact h.mt.len, by rw [e 332 (by omega) (by omega)]; exact h.mt.ch⟩, fun q hq x hx => ?_, ?_, by rw [es 22 (by decide)]; exact h.sl, by rw [es 4 (by decide)]; exact h.wr⟩
  · have h1 := RBt_rg q hq
    have h2 := RBt_ne q hq
    rw [e q.1 (by omega) h1.2]; exact h.rb q hq x hx
  · rcases h.hg with ⟨a, b⟩ | ⟨a, b, c⟩
    · exact Or.inl ⟨by rw [es 6 (by decide)]; exact a, by rw [es 20 (by decide)]; exact b⟩
    · exact Or.inr ⟨by rw [es 6 (by decide)]; exact a, gwf_same b (es 6 (by decide)) (fun q hq => e q (by omega) (by omega)), c.same (es 6 (by decide)) (es 20 (by decide)) (fun a h1 h2 => e a h1 (by omega))⟩
section Calls
variable {T : Nat → Int} {n : Nat} {w : Int} {post : Int → fm_M → Prop} {thr : String → fm_M → Prop}
theorem w_byte {M : fm_M} {a : Int} {k : Nat} (hp : post (byt a k) M) : wp_Tx_byteAt M a k post thr := by
  unfold wp_Tx_byteAt
  rw [jand_255]; exact hp
theorem CI.type {M : fm_M} (h : CI T n w M) {a a3 : Int} (ha : rg a3) (ko : ∀ c : Nat, a3 = c → 1 ≤ c → c ≤ 8 → n + c ≤ 200 → tyb a c → ∀ M', (∀ q, q ≠ 2 → q ≠ 3 → M' q = M q) → CI (txa T n a c) (n + c) w M' → post ((n + c : Nat) : Int) M') (kn : ¬ (∃ c : Nat, a3 = c ∧ 1 ≤ c ∧ c ≤ 8 ∧ n + c ≤ 200 ∧ tyb a c) → post (-1) M) : wp_CG_type M a a3 post thr := by
  have hn := h.t.1
  unfold wp_CG_type wp_Tx_append
  rw [h.len]
  refine ⟨ha, fun h1 => kn (fun ⟨c, e, h2, _⟩ => by omega), fun h1 => ⟨fun h2 => kn (fun ⟨c, e, _, h3, _⟩ => by omega), fun h2 => ⟨rg_small (by omega), fun h3 => kn (fun ⟨c, e, _, _, h4, _⟩ => by omega), fun h3 => ?_⟩⟩⟩
  obtain ⟨c, hc⟩ : ∃ c : Nat, a3 = c := ⟨a3.toNat, by omega⟩
  subst hc
  -- are they typeable
  refine ⟨fun M' v3 => M' = M ∧ ∃ k : Nat, v3 = k ∧ k ≤ c ∧ ∀ j, j < k → 33 ≤ byt a j ∧ byt a j ≤ 126, fun _ v3 => ((c : Int) - v3).toNat, ⟨rfl, 0, rfl, by omega, fun j hj => by omega⟩, ?_⟩
  rintro M' v3 ⟨rfl, k, rfl, hk, hok⟩
  unfold C_Tx_areTypeable_2
  have hbad : (byt a k < 33 ∨ 126 < byt a k) → k < c → post (-1) M' := fun hb hkc => kn (fun ⟨c', e, _, _, _, hty⟩ => by
    have : c' = c := by omega
    subst this
    have := hty k hkc; omega)
  refine ⟨rg_small (by omega), rg_small (by omega), fun h4 => ⟨rg_small (by decide), fun _ => ?_, fun h => absurd h (by decide)⟩, fun h4 => w_byte ?_⟩
  · have hty : tyb a c := fun j hj => hok j (by omega)
    -- the characters
    refine ⟨fun M2 v4 => ∃ j : Nat, v4 + 1 = ((c - j : Nat) : Int) ∧ j ≤ c ∧ M2 2 1 = ((n + j : Nat) : Int) ∧ (∀ q, q ≠ 2 → q ≠ 3 → M2 q = M' q) ∧ (∀ b, b ≠ 1 → M2 2 b = M' 2 b) ∧ ∀ p, p < n + j → M2 3 p = txa T n a c p, fun _ v4 => (v4 + 1).toNat, ⟨0, by omega, by omega, by rw [h.len]; rfl, fun _ _ _ => rfl, fun _ _ => rfl, fun p hp => by unfold txa; rw [if_pos (by omega)]; exact h.ch p (by omega)⟩, ?_⟩
    rintro M2 v4 ⟨j, hv4, hj, l2, o2, b2, t2⟩
    unfold C_Tx_append_38
    refine ⟨rg_small (by omega), fun h5 => ?_, fun h5 => ?_⟩
    · have : j = c := by omega
      subst this
      rw [l2]
      refine ko j rfl (by omega) (by omega) (by omega) hty M2 o2 ?_
      obtain ⟨g, kk, hgk, e1, e2, c1, c2, F⟩ := h.gs
      refine ⟨⟨by omega, fun p hp => ?_⟩, l2, t2, ⟨g, kk, hgk, by rw [o2 1 (by decide) (by decide)]; exact e1, by rw [o2 142 (by decide) (by decide)]; exact e2, c1.same (fun q h1 h2 => o2 q (by omega) (by omega)), c2.same (fun q h1 h2 => o2 q (by omega) (by omega)), ?_⟩, fun i x hi hx => by rw [o2 _ (by omega) (by omega)]; exact h.nx i x hi hx, fun i hi => by rw [o2 328 (by decide) (by decide), o2 330 (by decide) (by decide)]; exact h.al i hi, by rw [o2 0 (by decide) (by decide)]; exact h.b5, by rw [o2 0 (by decide) (by decide)]; exact h.b6, by rw [o2 1 (by decide) (by decide)]; exact h.wr⟩
      · unfold txa; split
        · next hh => exact h.t.2 p hh
        · exact hty _ (by omega)
      · rw [o2 kk (by omega) (by omega)]
        exact F.same (fun q hq => o2 q (by omega) (by omega))
    · obtain ⟨k4, hk4⟩ : ∃ k4 : Nat, v4 = k4 := ⟨v4.toNat, by omega⟩
      subst hk4
      refine w_byte ?_
      have hb := byt_rg a k4
      have hbi : ji2c (byt a k4) = byt a k4 := by
        have := ji2c_id ⟨(byt a k4).toNat, by omega⟩
        simp only at this
        rw [show (((byt a k4).toNat : Nat) : Int) = byt a k4 by omega] at this; exact this
      rw [l2, hbi, Int.toNat_natCast]
      refine ⟨by omega, by omega, fun M3 e3 M4 e4 => ⟨⟨j + 1, by omega, by omega, ?_, fun q h1 h2 => ?_, fun b hb => ?_, fun p hp => ?_⟩, by dsimp only; omega⟩⟩
      · rw [e4, fu_at, if_pos rfl, e3, fu_off _ _ _ (by decide), l2]; rfl
      · rw [e4, fu_off _ _ _ h1, e3, fu_off _ _ _ h2]; exact o2 q h1 h2
      · rw [e4, fu_at, if_neg hb, e3, fu_off _ _ _ (by decide)]; exact b2 b hb
      · rw [e4, fu_off _ _ _ (by decide), e3, fu_at]
        by_cases e : p = n + j
        · rw [if_pos e]; unfold txa; rw [if_neg (by omega), show c - 1 - (p - n) = k4 by omega]
        · rw [if_neg e]; exact t2 p (by omega)
  · have hb := byt_rg a k
    refine ⟨rg_small (by omega), fun h5 => ⟨rg_small (by decide), fun h => absurd rfl h, fun _ => hbad (Or.inl h5) (by omega)⟩, fun h5 => ⟨fun h6 => ⟨⟨rfl, k + 1, by omega, by omega, fun j hj => ?_⟩, by dsimp only; omega⟩, fun h6 => ⟨rg_small (by decide), fun h => absurd rfl h, fun _ => hbad (Or.inr (by omega)) (by omega)⟩⟩⟩
    by_cases e : j = k
    · rw [e]; omega
    · exact hok j (by omega)
theorem jcmp_lt {a b : Int} : jcmp a b < 0 ↔ a < b := by
  unfold jcmp; split
  · omega
  · split <;> omega
theorem jcmp_le {a b : Int} : jcmp a b ≤ 0 ↔ a ≤ b := by
  unfold jcmp; split
  · omega
  · split <;> omega
theorem RI.type {M : fm_M} (h : RI T n w M) {a a3 : Int} (ha : rg a3) (ko : ∀ c : Nat, a3 = c → 1 ≤ c → c ≤ 8 → n + c ≤ 200 → tyb a c → ∀ M', (∀ q, q ≤ 330 → M' q = M q) → (∀ q, 333 ≤ q → q ≤ 361 → M' q = M q) → (∀ b, b = 6 ∨ b = 20 ∨ b = 21 ∨ b = 22 → M' 331 b = M 331 b) → RI (txa T n a c) (n + c) w M' → post ((n + c : Nat) : Int) M') (kn : ¬ (∃ c : Nat, a3 = c ∧ 1 ≤ c ∧ c ≤ 8 ∧ n + c ≤ 200 ∧ tyb a c) → ∀ M', (∀ q, q ≤ 330 → M' q = M q) → (∀ q, 333 ≤ q → q ≤ 361 → M' q = M q) → (∀ b, b = 6 ∨ b = 20 ∨ b = 21 ∨ b = 22 → M' 331 b = M 331 b) → RI T n w M' → post (-1) M') : wp_Mo_type M a a3 post thr := by
  have hn := h.mt.t.1
  intro M0 e0
  have a0 : ∀ q, q ≠ 331 → M0 q = M q := fun q hq => by rw [e0]; exact fu_off _ _ _ hq
  have b0 : ∀ b, b ≠ 0 → M0 331 b = M 331 b := fun b hb => by rw [e0, fu_at, if_neg hb]
  have h0 : RI T n w M0 := h.same (fun q h1 h2 => a0 q (by omega)) b0
  have kn' : ¬ (∃ c : Nat, a3 = c ∧ 1 ≤ c ∧ c ≤ 8 ∧ n + c ≤ 200 ∧ tyb a c) → post (-1) M0 := fun hh => kn hh M0 (fun q hq => a0 q (by omega)) (fun q h1 h2 => a0 q (by omega)) (fun b hb => b0 b (by omega)) h0
  refine m_within ha (rg_small (by decide)) (rg_small (by decide)) (fun h1 => ⟨rg_small (by decide), fun h => absurd h (by decide), fun _ => ?_⟩) (fun h1 => ⟨rg_small (by decide), fun _ => kn' (fun ⟨c, e, _⟩ => by omega), fun h => absurd rfl h⟩)
  obtain ⟨c, hc⟩ : ∃ c : Nat, a3 = c := ⟨a3.toNat, by omega⟩
  subst hc
  rw [h0.mt.len]
  refine ⟨rg_small (by omega), fun h2 => ?_, fun h2 => kn' (fun ⟨c', e, _, _, h3, _⟩ => by omega)⟩
  refine ⟨fun M' v4 => M' = M0 ∧ ∃ k : Nat, v4 = k ∧ k ≤ c ∧ ∀ j, j < k → 33 ≤ byt a j ∧ byt a j ≤ 126, fun _ v4 => ((c : Int) - v4).toNat, ⟨rfl, 0, rfl, by omega, fun j hj => by omega⟩, ?_⟩
  rintro M' v4 ⟨rfl, k, rfl, hk, hok⟩
  have hbad : (byt a k < 33 ∨ 126 < byt a k) → k < c → post (-1) M' := fun hb hkc => kn' (fun ⟨c', e, _, _, _, hty⟩ => by
    have : c' = c := by omega
    subst this
    have := hty k hkc; omega)
  unfold C_Mo_type_32
  have eb : jland (jlshr a (8 * (k : Int))) 255 = byt a k := by rw [jland_255]; rfl
  have hb := byt_rg a k
  rw [eb]
  refine ⟨rg_small (by omega), rg_small (by omega), fun h4 => ?_, fun h4 => ⟨⟨by omega, by omega⟩, fun h5 => hbad (Or.inl (jcmp_lt.mp h5)) (by omega), fun h5 => ⟨fun h6 => ⟨⟨rfl, k + 1, by omega, by omega, fun j hj => ?_⟩, by dsimp only; omega⟩, fun h6 => hbad (Or.inr (by have : ¬ byt a k ≤ 126 := fun hh => h6 (jcmp_le.mpr hh); omega)) (by omega)⟩⟩⟩
  · have hty : tyb a c := fun j hj => hok j (by omega)
    refine ⟨fun M2 v4 => ∃ j : Nat, v4 + 1 = ((c - j : Nat) : Int) ∧ j ≤ c ∧ M2 331 2 = ((n + j : Nat) : Int) ∧ (∀ q, q ≠ 331 → q ≠ 332 → M2 q = M' q) ∧ (∀ b, b ≠ 2 → M2 331 b = M' 331 b) ∧ (∀ p, p < n + j → M2 332 p = txa T n a c p) ∧ RB M2, fun _ v4 => (v4 + 1).toNat, ⟨0, by omega, by omega, by rw [h0.mt.len]; rfl, fun _ _ _ => rfl, fun _ _ => rfl, fun p hp => by unfold txa; rw [if_pos (by omega)]; exact h0.mt.ch p (by omega), h0.rb⟩, ?_⟩
    rintro M2 v4 ⟨j, hv4, hj, l2, o2, b2, t2, rb2⟩
    unfold C_Mo_type_82
    refine ⟨rg_small (by omega), fun h5 => ?_, fun h5 => ?_⟩
    · have : j = c := by omega
      subst this
      rw [l2]
      refine ko j rfl (by omega) (by omega) (by omega) hty M2 (fun q hq => by rw [o2 q (by omega) (by omega)]; exact a0 q (by omega)) (fun q h1 h2 => by rw [o2 q (by omega) (by omega)]; exact a0 q (by omega)) (fun b hb => by rw [b2 b (by omega)]; exact b0 b (by omega)) ⟨⟨⟨by omega, fun p hp => ?_⟩, l2, t2⟩, rb2, ?_, by rw [b2 22 (by decide)]; exact h0.sl, by rw [b2 4 (by decide)]; exact h0.wr⟩
      · unfold txa; split
        · next hh => exact h.mt.t.2 p hh
        · exact hty _ (by omega)
      · rcases h0.hg with ⟨x1, x2⟩ | ⟨x1, x2, x3⟩
        · exact Or.inl ⟨by rw [b2 6 (by decide)]; exact x1, by rw [b2 20 (by decide)]; exact x2⟩
        · refine Or.inr ⟨by rw [b2 6 (by decide)]; exact x1, gwf_same x2 (b2 6 (by decide)) (fun q hq => o2 q (by omega) (by omega)), ?_⟩
          have en : (Gof M2).n = (Gof M').n := by show (M2 331 20).toNat = (M' 331 20).toNat; rw [b2 20 (by decide)]
          have ec : (Gof M2).cc = (Gof M').cc := by funext q; show (M2 349 q).toNat = (M' 349 q).toNat; rw [o2 349 (by decide) (by decide)]
          refine ⟨rb2, by rw [b2 6 (by decide)]; exact x3.hg, by rw [b2 20 (by decide)]; exact x3.hn, ?_, ?_, fun _ _ _ _ _ _ hF => hF.elim⟩
          · rw [en, ec, o2 348 (by decide) (by decide), o2 335 (by decide) (by decide), b2 6 (by decide)]; exact x3.cm
          · rw [en, o2 346 (by decide) (by decide), o2 349 (by decide) (by decide)]; exact x3.tgc
    · obtain ⟨k4, hk4⟩ : ∃ k4 : Nat, v4 = k4 := ⟨v4.toNat, by omega⟩
      subst hk4
      have eb4 : jland (jlshr a (8 * (k4 : Int))) 255 = byt a k4 := by rw [jland_255]; rfl
      have hb4 := byt_rg a k4
      rw [l2, eb4, Int.toNat_natCast]
      refine ⟨by omega, fun M3 e3 M4 e4 => ⟨⟨j + 1, by omega, by omega, ?_, fun q h1 h2 => ?_, fun b hb => ?_, fun p hp => ?_, ?_⟩, by dsimp only; omega⟩⟩
      · rw [e4, fu_at, if_pos rfl, e3, fu_off _ _ _ (by decide), l2]; rfl
      · rw [e4, fu_off _ _ _ h1, e3, fu_off _ _ _ h2]; exact o2 q h1 h2
      · rw [e4, fu_at, if_neg hb, e3, fu_off _ _ _ (by decide)]; exact b2 b hb
      · rw [e4, fu_off _ _ _ (by decide), e3, fu_at]
        by_cases e : p = n + j
        · rw [if_pos e]; unfold txa; rw [if_neg (by omega), show c - 1 - (p - n) = k4 by omega]
        · rw [if_neg e]; exact t2 p (by omega)
      · rw [e4, e3]; exact (rb2.u 332 200 0 65535 (by decide) _ _ (by omega)).o (by decide) _ _
  · by_cases e : j = k
    · rw [e]
      have h7 : ¬ byt a k < 33 := fun hh => h5 (jcmp_lt.mpr hh)
      have h8 := jcmp_le.mp h6
      omega
    · exact hok j (by omega)
end Calls
end Pu_cf
