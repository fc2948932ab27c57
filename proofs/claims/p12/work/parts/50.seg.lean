/-! Constructors over segments of the flat memory: a tree of cells in the order in which they are made. -/
abbrev sh_T : Type := List (fm_D × List Int)
def fm_pl9 (ad : Nat → Nat) (k : Nat) (r : Nat → Int) (t n : Nat) : (Nat → Int32) ⊕ (Nat → Int64) ⊕ (Nat → UInt32) ⊕ (Nat → UInt64) ⊕ (Nat → Option Nat) := match t with
  | 0 => .inl (fun j => Int32.ofInt (r j))
  | 1 => .inl (fun j => Int32.ofInt (r j))
  | 2 => .inl (fun j => Int32.ofInt (r j))
  | 3 => .inr (.inl (fun j => Int64.ofInt (r j)))
  | _ => .inr (.inr (.inr (.inr (fun j => if j < n then some (ad (fm_el k t j)) else none))))
def fm_e9 (ad : Nat → Nat) (cA : Nat → ClassId) (k : Nat) (r : Nat → Int) (d : fm_D) : va_E := match d with
  | .inl (ci, ks) => .inr (ci, (List.range ks.length).map (fun p => fm_v ad k (r p) (ks.getD p 0)))
  | .inr (t, n) => .inl (cA k, n, fm_pl9 ad k r t n)
def sgk (ad : Nat → Nat) (cA : Nat → ClassId) : Nat → sh_T → va_W
  | _, [] => []
  | k, d :: r => (ad k, fm_e9 ad cA k (fun p => d.2.getD p 0) d.1) :: sgk ad cA (k + 1) r
def sgt1 (c : ClassId) (d : fm_D) : List (ClassId × FieldType) := match d with
  | .inr (t, _) => [(c, fm_tt t)]
  | .inl _ => []
def sgt (cA : Nat → ClassId) : Nat → sh_T → List (ClassId × FieldType)
  | _, [] => []
  | k, d :: r => sgt1 (cA k) d.1 ++ sgt cA (k + 1) r
theorem sgk_app (ad : Nat → Nat) (cA : Nat → ClassId) : ∀ (a b : sh_T) (k : Nat), sgk ad cA k (a ++ b) = sgk ad cA k a ++ sgk ad cA (k + a.length) b
  | [], b, k => rfl
  | d :: a, b, k => by
    show _ :: sgk ad cA (k + 1) (a ++ b) = _ :: (sgk ad cA (k + 1) a ++ sgk ad cA (k + (a.length + 1)) b)
    rw [sgk_app ad cA a b (k + 1), show k + 1 + a.length = k + (a.length + 1) by omega]
theorem sgt_app (cA : Nat → ClassId) : ∀ (a b : sh_T) (k : Nat), sgt cA k (a ++ b) = sgt cA k a ++ sgt cA (k + a.length) b
  | [], b, k => rfl
  | d :: a, b, k => by
    show sgt1 (cA k) d.1 ++ sgt cA (k + 1) (a ++ b) = sgt1 (cA k) d.1 ++ sgt cA (k + 1) a ++ sgt cA (k + (a.length + 1)) b
    rw [sgt_app cA a b (k + 1), show k + 1 + a.length = k + (a.length + 1) by omega, List.append_assoc]
def sh_okd (n i : Nat) (d : fm_D) : Bool := match d with
  | .inl (_, ks) => ks.all (fun kd => decide (kd < 2 ∨ (3 ≤ kd ∧ i + (kd - 3) < n)))
  | .inr (t, z) => decide (t < 4) || (List.range z).all (fun j => decide (fm_el i t j < n))
def sh_ok (n : Nat) : Nat → sh_T → Bool
  | _, [] => true
  | i, d :: r => sh_okd n i d.1 && sh_ok n (i + 1) r
theorem fm_el_add (k i t j : Nat) : fm_el (k + i) t j = k + fm_el i t j := by
  unfold fm_el
  split <;> omega
theorem fm_e9_shift {ad ad' : Nat → Nat} {cA cA' : Nat → ClassId} {k k' n i : Nat} {r : Nat → Int} {d : fm_D} (ha : ∀ j, j < n → ad (k + j) = ad' (k' + j)) (hc : cA (k + i) = cA' (k' + i)) (hok : sh_okd n i d = true) : fm_e9 ad cA (k + i) r d = fm_e9 ad' cA' (k' + i) r d := by
  match d with
  | .inl (ci, ks) =>
    show Sum.inr (ci, _) = Sum.inr (ci, _)
    congr 2
    apply List.map_congr_left
    intro p hp
    have hp' : p < ks.length := List.mem_range.mp hp
    have hm : ks.getD p 0 ∈ ks := by
      rw [List.getD_eq_getElem?_getD, List.getElem?_eq_getElem hp']
      exact List.getElem_mem hp'
    have h1 := List.all_eq_true.mp hok _ hm
    rw [decide_eq_true_eq] at h1
    generalize ks.getD p 0 = kd at h1 ⊢
    match kd with
    | 0 => rfl
    | 1 => rfl
    | 2 => exact absurd h1 (by omega)
    | o + 3 =>
      show Value.ref (ad (k + i + o)) = Value.ref (ad' (k' + i + o))
      have := ha (i + o) (by omega)
      rw [Nat.add_assoc, this, Nat.add_assoc]
  | .inr (t, z) =>
    show Sum.inl (cA (k + i), z, _) = Sum.inl (cA' (k' + i), z, _)
    rw [hc]
    congr 3
    by_cases ht : t < 4
    · match t with
      | 0 => rfl
      | 1 => rfl
      | 2 => rfl
      | 3 => rfl
      | q + 4 => omega
    · obtain ⟨q, rfl⟩ : ∃ q, t = q + 4 := ⟨t - 4, by omega⟩
      show Sum.inr (Sum.inr (Sum.inr (Sum.inr _))) = Sum.inr (Sum.inr (Sum.inr (Sum.inr _)))
      congr 4
      funext j
      by_cases hj : j < z
      · rw [if_pos hj, if_pos hj, fm_el_add, fm_el_add, ha]
        have h2 : (decide (q + 4 < 4) || (List.range z).all (fun j => decide (fm_el i (q + 4) j < n))) = true := hok
        rw [Bool.or_eq_true, decide_eq_true_eq] at h2
        rcases h2 with h2 | h2
        · omega
        · exact of_decide_eq_true (List.all_eq_true.mp h2 j (List.mem_range.mpr hj))
      · rw [if_neg hj, if_neg hj]
theorem sgk_shift {ad ad' : Nat → Nat} {cA cA' : Nat → ClassId} {k k' n : Nat} (ha : ∀ j, j < n → ad (k + j) = ad' (k' + j)) (hc : ∀ j, j < n → cA (k + j) = cA' (k' + j)) : ∀ (sh : sh_T) (i : Nat), i + sh.length ≤ n → sh_ok n i sh = true → sgk ad cA (k + i) sh = sgk ad' cA' (k' + i) sh
  | [], _, _, _ => rfl
  | d :: r, i, hl, hok => by
    have h2 : (sh_okd n i d.1 && sh_ok n (i + 1) r) = true := hok
    rw [Bool.and_eq_true] at h2
    have hl' : i + (r.length + 1) ≤ n := hl
    show (ad (k + i), _) :: sgk ad cA (k + i + 1) r = (ad' (k' + i), _) :: sgk ad' cA' (k' + i + 1) r
    rw [ha i (by omega), fm_e9_shift ha (hc i (by omega)) h2.1]
    have := sgk_shift ha hc r (i + 1) (by omega) h2.2
    rw [← Nat.add_assoc, ← Nat.add_assoc] at this
    rw [this]
theorem sgt_shift {cA cA' : Nat → ClassId} {k k' n : Nat} (hc : ∀ j, j < n → cA (k + j) = cA' (k' + j)) : ∀ (sh : sh_T) (i : Nat), i + sh.length ≤ n → sgt cA (k + i) sh = sgt cA' (k' + i) sh
  | [], _, _ => rfl
  | d :: r, i, hl => by
    have hl' : i + (r.length + 1) ≤ n := hl
    show sgt1 (cA (k + i)) d.1 ++ sgt cA (k + i + 1) r = sgt1 (cA' (k' + i)) d.1 ++ sgt cA' (k' + i + 1) r
    rw [hc i (by omega)]
    have := sgt_shift hc r (i + 1) (by omega)
    rw [← Nat.add_assoc, ← Nat.add_assoc] at this
    rw [this]
/-- one function out of runs -/
def cmb {α : Type} (z : α) : List (Nat × (Nat → α)) → Nat → α
  | [], _ => z
  | q :: r, k => if k < q.1 then q.2 k else cmb z r (k - q.1)
theorem cmb_at {α : Type} (z : α) : ∀ (l1 : List (Nat × (Nat → α))) (n : Nat) (f : Nat → α) (l2 : List (Nat × (Nat → α))) (j : Nat), j < n → cmb z (l1 ++ (n, f) :: l2) ((l1.map (fun q => q.1)).sum + j) = f j
  | [], n, f, l2, j, hj => by
    show (if 0 + j < n then f (0 + j) else _) = f j
    rw [Nat.zero_add, if_pos hj]
  | q :: l1, n, f, l2, j, hj => by
    show (if (q.1 + (l1.map (fun q => q.1)).sum) + j < q.1 then _ else cmb z (l1 ++ (n, f) :: l2) ((q.1 + (l1.map (fun q => q.1)).sum) + j - q.1)) = f j
    rw [if_neg (by omega), show (q.1 + (l1.map (fun q => q.1)).sum) + j - q.1 = (l1.map (fun q => q.1)).sum + j by omega]
    exact cmb_at z l1 n f l2 j hj
/-- a closed tree at its place -/
theorem sgk_in {l1 : List (Nat × (Nat → Nat))} {c1 : List (Nat × (Nat → ClassId))} {n : Nat} {f : Nat → Nat} {g : Nat → ClassId} {l2 : List (Nat × (Nat → Nat))} {c2 : List (Nat × (Nat → ClassId))} {sh : sh_T} (hs : (l1.map (fun q => q.1)).sum = (c1.map (fun q => q.1)).sum) (hl : sh.length = n) (hok : sh_ok n 0 sh = true) : sgk f g 0 sh = sgk (cmb 0 (l1 ++ (n, f) :: l2)) (cmb 0 (c1 ++ (n, g) :: c2)) ((l1.map (fun q => q.1)).sum) sh := by
  have := sgk_shift (ad := f) (cA := g) (ad' := cmb 0 (l1 ++ (n, f) :: l2)) (cA' := cmb 0 (c1 ++ (n, g) :: c2)) (k := 0) (k' := (l1.map (fun q => q.1)).sum) (n := n) (fun j hj => by rw [cmb_at 0 l1 n f l2 j hj, Nat.zero_add]) (fun j hj => by rw [hs, cmb_at 0 c1 n g c2 j hj, Nat.zero_add]) sh 0 (by omega) hok
  exact this
theorem sgt_in {c1 : List (Nat × (Nat → ClassId))} {n : Nat} {g : Nat → ClassId} {c2 : List (Nat × (Nat → ClassId))} {sh : sh_T} (hl : sh.length = n) : sgt g 0 sh = sgt (cmb 0 (c1 ++ (n, g) :: c2)) ((c1.map (fun q => q.1)).sum) sh := by
  have := sgt_shift (cA := g) (cA' := cmb 0 (c1 ++ (n, g) :: c2)) (k := 0) (k' := (c1.map (fun q => q.1)).sum) (n := n) (fun j hj => by rw [cmb_at 0 c1 n g c2 j hj, Nat.zero_add]) sh 0 (by omega)
  exact this
theorem app_congr {α : Type} {a a' b b' : List α} (h : a = a') (h2 : b = b') : a ++ b = a' ++ b' := by rw [h, h2]
theorem nd_range (n : Nat) : va_nd (List.range n) = true := by
  suffices h : ∀ l : List Nat, l.Nodup → va_nd l = true from h _ List.nodup_range
  intro l
  induction l with
  | nil => intro _; rfl
  | cons a l ih =>
    intro h
    rw [List.nodup_cons] at h
    show (decide (a ∉ l) && va_nd l) = true
    rw [ih h.2, decide_eq_true h.1]
    rfl
theorem range_at {α : Type} (l l2 : List α) : (List.range l.length).map (fun i => (l ++ l2)[i]?) = l.map some := by
  apply List.ext_getElem?
  intro i
  rw [List.getElem?_map, List.getElem?_map]
  by_cases h : i < l.length
  · rw [List.getElem?_range h, List.getElem?_eq_getElem h]
    show some ((l ++ l2)[i]?) = some (some l[i])
    rw [List.getElem?_append_left h, List.getElem?_eq_getElem h]
  · rw [List.getElem?_eq_none (by rw [List.length_range]; omega), List.getElem?_eq_none (by omega)]
    rfl
theorem range_fm {α : Type} (l : List α) : (List.range l.length).filterMap (fun i => l[i]?) = l := by
  have h := range_at l []
  rw [List.append_nil] at h
  have h2 : (List.range l.length).filterMap (fun i => l[i]?) = ((List.range l.length).map (fun i => l[i]?)).filterMap id := by
    rw [List.filterMap_map]
    rfl
  rw [h2, h, List.filterMap_map]
  have : (id ∘ some : α → Option α) = some := rfl
  rw [this, List.filterMap_some]
section SegRows
variable {p : Program} {l : Launch} {e : Env} {R rm : Room} {s : State} {m : MethodId} {args : Array Value} {below : List Frame} {meth : Method} {c : Code} {H : Heap} {locs : List Loc} {cells slots mc ms : Nat} {Q : State → Prop}
variable {cc : ByteArray} {pc nL index : Nat} {ls : Array Slot} {rest st0 : List Value} {D : va_G} {cl : List vw_C} {A : Nat → Prop} {tys : List (ClassId × FieldType)} {ws : va_W} {H0 : Heap} {own C : String} {S : Type} {w1 : S → va_W} {t1 : S → List (ClassId × FieldType)}
/-- a constructor is called over the cell that was made last -/
theorem cg_cvL {post : S → Prop} {av : Array Value} {x : Nat × va_E} (w : cg_W D cl A H0 s tys (ws ++ [x]) H locs)
    (hr : va_Run p l e R s m args below meth c H locs cells slots mc ms (F0 m pc ls st0) rest (va_Qv post (fun u t => cg_B D cl (va_A [x] H.size) (w1 u) (t1 u) t) (va_A [x] H.size) av) (va_A [x] H.size))
    (kk : ∀ (u : S) (H1 : Heap) (locs1 : List Loc), post u → cg_W D cl A H0 s (tys ++ t1 u) (ws ++ w1 u) H1 locs1 → W p l e R s m args below meth c H1 locs1 (cells + mc) (slots + ms) Q (F0 m (pc + 3) ls rest)) : W p l e R s m args below meth c H locs cells slots Q (F0 m pc ls st0) :=
  cg_cv (wc := [x]) (wr := ws) w [ws.length] (List.range ws.length) (by simp) (range_at ws [x]) (nd_range _) (fun i hi h => by rw [List.mem_singleton] at h; have := List.mem_range.mp hi; omega) hr kk
theorem cg_preL {av : List Value} {x : Nat × va_E} (w : cg_W D cl A H0 s tys (ws ++ [x]) H locs) : PreS s H (va_Pc av (cg_Pre D cl H.size [x] [])) av :=
  cg_pre (wc := [x]) (tc := []) w [ws.length] [] (by simp) (by simp) rfl rfl
theorem cg_vretL {post : S → Prop} (F : CallFix p m c cc nL s args tb own) (w : cg_W D cl A s.heap s tys ws H locs) (hr : meth.sig.returnType = none) (hlk : meth.locks = false) (u : S) (hp : post u) (h1 : ws = w1 u) (h3 : tys = t1 u) (hc : cells ≤ mc) (hs : slots ≤ ms) (hdg : decode cc pc = .ok (.return_, 1)) :
    W p l e R s m args below meth c H locs cells slots (MQ below (va_Qv post (fun u t => cg_B D cl A (w1 u) (t1 u) t) A) args s mc ms A) (F0 m pc ls []) := by
  subst h1
  subst h3
  refine cg_vret F w hr hlk u hp (List.range (w1 u).length) (List.range (t1 u).length) (range_fm _) ?_ (nd_range _) (range_fm _) hc hs hdg
  have h := range_at (w1 u) []
  rw [List.append_nil] at h
  exact h
end SegRows
