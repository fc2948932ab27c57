/-! From the constructors' segments to the flat memory. -/
def m0d (k p : Nat) (d : fm_D × List Int) (x : fm_D) : Int := match d.1, x with
  | .inl (_, ks'), .inl (_, ks) => if ks.getD p 0 = 2 then ((k + (ks'.getD p 0 - 3) : Nat) : Int) else d.2.getD p 0
  | _, _ => d.2.getD p 0
def okd (d x : fm_D) : Bool := match d, x with
  | .inr a, .inr b => decide (a = b)
  | .inl (ci, ks'), .inl (ci2, ks) => decide (ci = ci2) && decide (ks'.length = ks.length) && (List.range ks.length).all (fun p => decide (ks'.getD p 0 = ks.getD p 0 ∧ ks.getD p 0 ≠ 2) || decide (ks.getD p 0 = 2 ∧ 3 ≤ ks'.getD p 0))
  | _, _ => false
theorem arrV_congr {c : ClassId} {n : Nat} {f g : Nat → Value} (h : ∀ j, j < n → f j = g j) : arrV c n f = arrV c n g := by
  refine cell_eq rfl ?_ rfl rfl rfl
  show Array.ofFn (n := n) (fun j => f j.val) = Array.ofFn (n := n) (fun j => g j.val)
  congr 1
  funext j
  exact h j.1 j.2
theorem pl_eq {ad : Nat → Nat} {k t n : Nat} {r : Nat → Int} {c : ClassId} : vp_cell c (n, fm_pl9 ad k r t n) = vp_cell c (n, fm_pl ad k r t) := by
  match t with
  | 0 => rfl
  | 1 => rfl
  | 2 => rfl
  | 3 => rfl
  | q + 4 =>
    show arrV c n (fun j => va_rf (if j < n then some (ad (fm_el k (q + 4) j)) else none)) = arrV c n (fun j => va_rf (some (ad (fm_el k (q + 4) j))))
    exact arrV_congr (fun j hj => by rw [if_pos hj])
theorem at_eq {D : va_G} {cl : List vw_C} {H : Heap} {ad : Nat → Nat} {cA cB : Nat → ClassId} {k : Nat} {d : fm_D × List Int} {x : fm_D} (hok : okd d.1 x = true) (hc : ∀ t n, x = .inr (t, n) → cA k = cB k) (h : va_at D cl (ad k, fm_e9 ad cA k (fun p => d.2.getD p 0) d.1) H) : va_at D cl (ad k, fm_e ad cB k (fun p => m0d k p d x) x) H := by
  obtain ⟨d1, d2⟩ := d
  match d1, x with
  | .inr a, .inr b =>
    have h1 : a = b := of_decide_eq_true hok
    subst h1
    obtain ⟨t, n⟩ := a
    have h2 : H[ad k]? = some (vp_cell (cA k) (n, fm_pl9 ad k (fun p => d2.getD p 0) t n)) := h
    show H[ad k]? = some (vp_cell (cB k) (n, fm_pl ad k (fun p => d2.getD p 0) t))
    rw [h2, pl_eq, hc t n rfl]
  | .inl (ci, ks'), .inl (ci2, ks) =>
    have h1 : (decide (ci = ci2) && decide (ks'.length = ks.length) && (List.range ks.length).all (fun p => decide (ks'.getD p 0 = ks.getD p 0 ∧ ks.getD p 0 ≠ 2) || decide (ks.getD p 0 = 2 ∧ 3 ≤ ks'.getD p 0))) = true := hok
    rw [Bool.and_eq_true, Bool.and_eq_true, decide_eq_true_eq, decide_eq_true_eq] at h1
    obtain ⟨⟨h2, h3⟩, h4⟩ := h1
    subst h2
    have h5 : (List.range ks'.length).map (fun p => fm_v ad k (d2.getD p 0) (ks'.getD p 0)) = (List.range ks.length).map (fun p => fm_v ad k (m0d k p (.inl (ci, ks'), d2) (.inl (ci, ks))) (ks.getD p 0)) := by
      rw [h3]
      apply List.map_congr_left
      intro p hp
      have h6 := List.all_eq_true.mp h4 p hp
      rw [Bool.or_eq_true, decide_eq_true_eq, decide_eq_true_eq] at h6
      show _ = fm_v ad k (if ks.getD p 0 = 2 then ((k + (ks'.getD p 0 - 3) : Nat) : Int) else d2.getD p 0) (ks.getD p 0)
      rcases h6 with ⟨h7, h8⟩ | ⟨h7, h8⟩
      · rw [if_neg h8, h7]
      · rw [if_pos h7, h7]
        obtain ⟨o, ho⟩ : ∃ o, ks'.getD p 0 = o + 3 := ⟨ks'.getD p 0 - 3, by omega⟩
        rw [ho]
        rfl
    have h6 : va_at D cl (ad k, .inr (ci, (List.range ks'.length).map (fun p => fm_v ad k (d2.getD p 0) (ks'.getD p 0)))) H := h
    rw [h5] at h6
    exact h6
theorem fm_start {D : va_G} {s : State} {H : Heap} {locs : List Loc} {n0 : Nat} {ad : Nat → Nat} {cA : Nat → ClassId} {sh : sh_T} (hlen : sh.length = nC) (hok : ∀ k : Fin 363, okd (sh.getD k.1 (.inr (0, 0), [])).1 (TC k.1) = true) (hch : ∃ n, TC 3 = .inr (1, n)) (w : cg_W D classes (fun q => n0 ≤ q) s.heap s (sgt cA 0 sh) (sgk ad cA 0 sh) H locs) (hp : cg_hp n0 s) :
    fm_w D ad (fun k => match TC k with | .inr _ => cA k | .inl _ => cA 3) n0 s (fun k p => m0d k p (sh.getD k (.inr (0, 0), [])) (TC k)) H locs := by
  have hsh : ∀ k, k < nC → sh[k]? = some (sh.getD k (.inr (0, 0), [])) := fun k hk => by
    rw [List.getD_eq_getElem?_getD, List.getElem?_eq_getElem (by rw [hlen]; exact hk)]
    rfl
  have hcl : ∀ k q, (fm_ws ad (fun k => match TC k with | .inr _ => cA k | .inl _ => cA 3) (fun k p => m0d k p (sh.getD k (.inr (0, 0), [])) (TC k)))[k]? = some q → k < nC ∧ q = (ad k, fm_e ad (fun k => match TC k with | .inr _ => cA k | .inl _ => cA 3) k (fun p => m0d k p (sh.getD k (.inr (0, 0), [])) (TC k)) (TC k)) := by
    intro k q hq
    have hk : k < nC := by
      have := (List.getElem?_eq_some_iff.mp hq).1
      unfold fm_ws at this
      rw [List.length_map, List.length_range] at this
      exact this
    rw [fm_at hk] at hq
    exact ⟨hk, (Option.some.inj hq).symm⟩
  have hsg : ∀ k, k < nC → (sgk ad cA 0 sh)[k]? = some (ad k, fm_e9 ad cA k (fun p => (sh.getD k (.inr (0, 0), [])).2.getD p 0) (sh.getD k (.inr (0, 0), [])).1) := fun k hk => by
    rw [sgk_get, hsh k hk, Nat.zero_add]
    rfl
  have hty : ∀ (k t n : Nat), k < nC → TC k = .inr (t, n) → ArrOfT s (cA k) (fm_tt t) ∧ va_RA s (cA k) (fm_tt t) := by
    intro k t n hk ht
    have h1 : (sh.getD k (.inr (0, 0), [])).1 = .inr (t, n) := by
      have h2 := hok ⟨k, hk⟩
      simp only [ht] at h2
      cases h3 : (sh.getD k (.inr (0, 0), [])).1 with
      | inl a => rw [h3] at h2; cases a; cases h2
      | inr a =>
        rw [h3] at h2
        have : a = (t, n) := of_decide_eq_true h2
        rw [this]
    have hmem : (cA (0 + k), fm_tt t) ∈ sgt cA 0 sh := by
      have gen : ∀ (l : sh_T) (b i : Nat) (d : fm_D × List Int), l[i]? = some d → d.1 = .inr (t, n) → (cA (b + i), fm_tt t) ∈ sgt cA b l := by
        intro l
        induction l with
        | nil => intro b i d hd; cases hd
        | cons d0 r ih =>
          intro b i d hd hd1
          cases i with
          | zero =>
            have : d0 = d := Option.some.inj hd
            subst this
            show _ ∈ sgt1 (cA b) d0.1 ++ _
            rw [hd1]
            exact List.mem_append_left _ (List.mem_singleton.mpr rfl)
          | succ i =>
            have := ih (b + 1) i d hd hd1
            rw [show b + 1 + i = b + (i + 1) by omega] at this
            exact List.mem_append_right _ this
      exact gen sh 0 k _ (hsh k hk) h1
    obtain ⟨i, hi⟩ := List.getElem?_of_mem hmem
    have := w.2.2.1.2 i _ hi
    rw [Nat.zero_add] at this
    exact this
  refine ⟨⟨fun k q hq => ?_, ⟨fun i j p q hi hj he => ?_, fun k q hq => ?_⟩, ⟨w.2.2.1.1, fun k q hq => ?_⟩, w.2.2.2.1, w.2.2.2.2⟩, hp⟩
  · obtain ⟨hk, rfl⟩ := hcl k q hq
    exact at_eq (hok ⟨k, hk⟩) (fun t n h => by simp only [h]) (w.1 k _ (hsg k hk))
  · obtain ⟨hi', rfl⟩ := hcl i p hi
    obtain ⟨hj', rfl⟩ := hcl j q hj
    exact w.2.1.1 i j _ _ (hsg i hi') (hsg j hj') he
  · obtain ⟨hk, rfl⟩ := hcl k q hq
    have h9 := w.2.1.2 k _ (hsg k hk)
    exact h9
  · have hk : k < nC := by
      have := (List.getElem?_eq_some_iff.mp hq).1
      unfold fm_ty at this
      rw [List.length_map, List.length_range] at this
      exact this
    unfold fm_ty at hq
    rw [List.getElem?_map, List.getElem?_range hk] at hq
    have hq' := (Option.some.inj hq).symm
    subst hq'
    cases hT : TC k with
    | inr a =>
      obtain ⟨t, n⟩ := a
      have := hty k t n hk hT
      simp only [hT, fm_td]
      exact this
    | inl a =>
      obtain ⟨n, hn⟩ := hch
      have := hty 3 1 n (by decide) hn
      simp only [hT, fm_td]
      exact this
