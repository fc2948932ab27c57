set_option maxRecDepth 10000
section Pu_wa
/-! Fewer choices, the same values. -/
theorem jcm_eq {a b : Int} : jcmp a b = 0 ↔ a = b := by
  unfold jcmp
  by_cases h1 : b < a
  · rw [if_pos h1]; omega
  · rw [if_neg h1]
    by_cases h2 : a = b
    · rw [if_pos h2]; omega
    · rw [if_neg h2]; omega
def Gv (G : Gd) (A : Nat → Nat → Prop) : Gd := (G.n, G.cc, G.nb, G.wt, G.to, G.tg, G.mx, A)
theorem Gv_wf {G : Gd} (W : G.Wf) (A : Nat → Nat → Prop) : (Gv G A).Wf := ⟨W.pos, W.lt, W.tgc⟩
theorem S_eq2 {G : Gd} (W : G.Wf) {i k : Nat} (hi : i < G.n) (hk : k < G.cc i) {h g : Nat → Int} (e : ∀ j, j < G.n → h j = g j) : G.S i k h = G.S i k g := sm_congr (fun b hb => by rw [e _ (W.lt i k b hi hk hb)])
noncomputable def idc (P : Nat → Prop) (j : Nat) : Int := @ite Int (P j) (Classical.propDecidable _) 1 0
theorem idc_pos {G : Gd} (W : G.Wf) {i k : Nat} (hi : i < G.n) (hk : k < G.cc i) (P : Nat → Prop) : 0 < G.S i k (idc P) ↔ ∃ b, b < G.nb i k ∧ P (G.to i k b) := by
  constructor
  · intro h
    apply Classical.byContradiction
    intro hn
    have h0 : G.S i k (idc P) = 0 := sm_zero (fun b hb => by
      have e : idc P (G.to i k b) = 0 := by unfold idc; rw [if_neg (fun hp => hn ⟨b, hb, hp⟩)]
      rw [e, Int.mul_zero])
    omega
  · intro ⟨b, hb, hp⟩
    have h := Gd.S_lt W hi hk hb (h := fun _ => 0) (g := idc P) (fun c _ => by unfold idc; split <;> decide) (by unfold idc; rw [if_pos hp]; decide)
    rw [Gd.S_const, Int.mul_zero] at h
    exact h
/-- games with the same choices have the same solutions -/
theorem Sol_cor {G H : Gd} (WG : G.Wf) (WH : H.Wf) (C : Cor G H) (hx : ∀ i, i < H.n → 0 < H.cc i → ∃ c, c < H.cc i ∧ H.al i c) {num : Nat → Int} {com : Int} (s : Sol G num com) : Sol H num com := by
  obtain ⟨l, rk, p, L, ok, V, ho, mo⟩ := s
  have ci : ∀ i, i < H.n → i < G.n := fun i hi => by rw [C.n]; exact hi
  have cz : ∀ i, i < H.n → 0 < H.cc i → 0 < G.cc i := fun i hi hc => by
    obtain ⟨c, c1, c2⟩ := hx i hi hc
    obtain ⟨k, k1, _⟩ := C.hg i c (ci i hi) c1 c2
    omega
  have ex : ∀ i, ∃ c, i < H.n → 0 < H.cc i → c < H.cc i ∧ H.al i c ∧ G.wo i (p i) = H.wo i c ∧ ∀ h, G.S i (p i) h = H.S i c h := fun i => by
    by_cases e : i < H.n ∧ 0 < H.cc i
    · have o := ok i (ci i e.1) (cz i e.1 e.2)
      obtain ⟨c, c1, c2, c3, c4⟩ := C.gh i (p i) (ci i e.1) o.1 o.2
      exact ⟨c, fun _ _ => ⟨c1, c2, c3, c4⟩⟩
    · exact ⟨0, fun h1 h2 => absurd ⟨h1, h2⟩ e⟩
  generalize hq : (fun i => Classical.choose (ex i)) = q
  have qs : ∀ i, i < H.n → 0 < H.cc i → q i < H.cc i ∧ H.al i (q i) ∧ G.wo i (p i) = H.wo i (q i) ∧ ∀ h, G.S i (p i) h = H.S i (q i) h := fun i => by
    rw [← hq]; exact Classical.choose_spec (ex i)
  -- what comes of choices that are alike
  have br : ∀ i k c, i < H.n → k < G.cc i → c < H.cc i → (∀ h, G.S i k h = H.S i c h) → ∀ P : Nat → Prop, (∃ b, b < G.nb i k ∧ P (G.to i k b)) ↔ ∃ b, b < H.nb i c ∧ P (H.to i c b) := fun i k c hi hk hc hS P => by
    rw [← idc_pos WG (ci i hi) hk P, ← idc_pos WH hi hc P, hS]
  have dn : ∀ i k c, i < H.n → k < G.cc i → c < H.cc i → (∀ h, G.S i k h = H.S i c h) → G.down l rk i k → H.down l rk i c := fun i k c hi hk hc hS hd => by
    obtain ⟨b, b1, b2, b3⟩ := (br i k c hi hk hc hS (fun j => ¬ l j ∧ rk j < rk i)).mp (by
      obtain ⟨_, b, b1, b2, b3⟩ := hd
      exact ⟨b, b1, b2, b3⟩)
    exact ⟨hc, b, b1, b2, b3⟩
  have lo : ∀ i k c, i < H.n → k < G.cc i → c < H.cc i → (∀ h, G.S i k h = H.S i c h) → (∀ b, b < G.nb i k → l (G.to i k b)) → ∀ b, b < H.nb i c → l (H.to i c b) := fun i k c hi hk hc hS hl b hb => by
    apply Classical.byContradiction
    intro hn
    obtain ⟨b', b1, b2⟩ := (br i k c hi hk hc hS (fun j => ¬ l j)).mpr ⟨b, hb, hn⟩
    exact b2 (hl b' b1)
  have hU : ∀ i, H.U l i → G.U l i := fun i hu => ⟨ci i hu.1, hu.2.1, fun h => hu.2.2 ((C.tg i (ci i hu.1)).mp h)⟩
  have pc : ∀ i, H.U l i → 0 < H.cc i := fun i hu => by
    have hd := L.dn ok (fun _ _ _ => rfl) i (hU i hu)
    have o := ok i (ci i hu.1) (by have := hd.1; omega)
    obtain ⟨c, c1, _⟩ := C.gh i (p i) (ci i hu.1) o.1 o.2
    omega
  refine ⟨l, rk, q, ⟨fun i hi hl h => L.ntg i (ci i hi) hl ((C.tg i (ci i hi)).mpr h), fun i hi hl => ?_, fun i hu hm => ?_, fun i hu hm => ⟨pc i hu, fun c hc ha => ?_⟩⟩, fun i hi hc => ⟨(qs i hi hc).1, (qs i hi hc).2.1⟩, ⟨V.pos, fun i hi ht => V.tgt i (ci i hi) ((C.tg i (ci i hi)).mpr ht), fun i hi hl => V.lost i (ci i hi) hl, fun i hu => ?_⟩, fun i c hu hm hc ha => ?_, fun i c hi hm hc ha => ?_⟩
  · by_cases hc : H.cc i = 0
    · exact Or.inl hc
    · have hc0 : 0 < H.cc i := by omega
      have o := ok i (ci i hi) (cz i hi hc0)
      rcases L.stay i (ci i hi) hl with a | ⟨a, b⟩ | ⟨a, k, k1, k2, k3⟩
      · have := cz i hi hc0; omega
      · exact Or.inr (Or.inl ⟨(C.mx i (ci i hi)).mp a, lo i (p i) (q i) hi o.1 (qs i hi hc0).1 (qs i hi hc0).2.2.2 b⟩)
      · obtain ⟨c, c1, c2, _, c4⟩ := C.gh i k (ci i hi) k1 k2
        exact Or.inr (Or.inr ⟨fun h => a ((C.mx i (ci i hi)).mpr h), c, c1, c2, lo i k c hi k1 c1 c4 k3⟩)
  · have hd := L.dmx i (hU i hu) ((C.mx i (ci i hu.1)).mpr hm)
    have s := qs i hu.1 (pc i hu)
    exact dn i (p i) (q i) hu.1 hd.1 s.1 s.2.2.2 hd
  · obtain ⟨k, k1, k2, _, k4⟩ := C.hg i c (ci i hu.1) hc ha
    exact dn i k c hu.1 k1 hc k4 ((L.dmn i (hU i hu) (fun h => hm ((C.mx i (ci i hu.1)).mp h))).2 k k1 k2)
  · have s := qs i hu.1 (pc i hu)
    rw [← s.2.2.1, ← s.2.2.2]; exact V.eqn i (hU i hu)
  · obtain ⟨k, k1, k2, k3, k4⟩ := C.hg i c (ci i hu.1) hc ha
    rw [← k3, ← k4]; exact ho i k (hU i hu) (fun h => hm ((C.mx i (ci i hu.1)).mp h)) k1 k2
  · obtain ⟨k, k1, k2, k3, k4⟩ := C.hg i c (ci i hi) hc ha
    rw [← k3, ← k4]; exact mo i k (ci i hi) ((C.mx i (ci i hi)).mpr hm) k1 k2
/-- the same values, over another number -/
theorem sol_scale {G : Gd} (W : G.Wf) {num num' : Nat → Int} {com com' : Int} (s : Sol G num' com') (hc : 0 < com) (e : ∀ j, j < G.n → num j * com' = num' j * com) : Sol G num com := by
  obtain ⟨l, rk, p, L, ok, V, ho, mo⟩ := s
  have cp := V.pos
  have Se : ∀ i k, i < G.n → k < G.cc i → G.S i k num * com' = G.S i k num' * com := fun i k hi hk => by
    have h1 := Gd.S_lin (G := G) i k com' com num num'
    have h2 : G.S i k (fun j => num j * com' - num' j * com) = G.S i k (fun _ => 0) := S_eq2 W hi hk (fun j hj => by have := e j hj; omega)
    rw [h2, Gd.S_const, Int.mul_zero] at h1
    omega
  have We : ∀ i k, i < G.n → (G.wo i k * num i) * com' = (G.wo i k * num' i) * com := fun i k hi => by
    rw [Int.mul_assoc, Int.mul_assoc, e i hi]
  have hd := L.dn ok (fun _ _ _ => rfl)
  refine ⟨l, rk, p, L, ok, ⟨hc, fun i hi ht => ?_, fun i hi hl => ?_, fun i hu => ?_⟩, fun i k hu hm hk ha => ?_, fun i k hi hm hk ha => ?_⟩
  · have h1 := e i hi
    rw [V.tgt i hi ht, Int.mul_comm com' com] at h1
    exact Int.eq_of_mul_eq_mul_right (by omega) h1
  · have h1 := e i hi
    rw [V.lost i hi hl, Int.zero_mul] at h1
    rcases Int.mul_eq_zero.mp h1 with a | a
    · exact a
    · omega
  · have h1 := Se i (p i) hu.1 (hd i hu).1
    have h2 := We i (p i) hu.1
    rw [V.eqn i hu] at h2
    exact Int.eq_of_mul_eq_mul_right (show com' ≠ 0 by omega) (by rw [h1, h2])
  · have h1 := Se i k hu.1 hk
    have h2 := We i k hu.1
    have h3 := Int.mul_le_mul_of_nonneg_right (ho i k hu hm hk ha) (Int.le_of_lt hc)
    exact Int.le_of_mul_le_mul_right (by rw [h1, h2]; exact h3) cp
  · have h1 := Se i k hi hk
    have h2 := We i k hi
    have h3 := Int.mul_le_mul_of_nonneg_right (mo i k hi hm hk ha) (Int.le_of_lt hc)
    exact Int.le_of_mul_le_mul_right (by rw [h1, h2]; exact h3) cp
/-- a choice that gives a state just its value -/
def tig (G : Gd) (num : Nat → Int) (i c : Nat) : Prop := G.S i c num = G.wo i c * num i
/-- from everywhere the play is drawn to the ends -/
def fll (G : Gd) (A : Nat → Nat → Prop) (E : Nat → Prop) : Prop := ∃ rk : Nat → Nat, ∀ i, i < G.n → ¬ E i → (G.mx i → ∃ c, c < G.cc i ∧ A i c ∧ ∃ b, b < G.nb i c ∧ rk (G.to i c b) < rk i) ∧ (¬ G.mx i → (∃ c, c < G.cc i ∧ A i c) ∧ ∀ c, c < G.cc i → A i c → ∃ b, b < G.nb i c ∧ rk (G.to i c b) < rk i)
theorem fl_of {G : Gd} {A B : Nat → Nat → Prop} {E : Nat → Prop} {num : Nat → Int} {com : Int} (s : Sol (Gv G A) num com) (hE : ∀ i, i < G.n → ¬ E i → ¬ G.tg i ∧ num i ≠ 0) (h1 : ∀ i k, i < G.n → k < G.cc i → A i k → tig G num i k → B i k) (h2 : ∀ i k, i < G.n → ¬ G.mx i → k < G.cc i → B i k → A i k) : fll G B E := by
  obtain ⟨l, rk, p, L, ok, V, _, _⟩ := s
  refine ⟨rk, fun i hi he => ?_⟩
  obtain ⟨ht, hn⟩ := hE i hi he
  have hu : (Gv G A).U l i := ⟨hi, fun hl => hn (V.lost i hi hl), ht⟩
  have hd := L.dn ok (fun _ _ _ => rfl) i hu
  have hk : p i < G.cc i := hd.1
  have ha : A i (p i) := (ok i hi (show 0 < G.cc i by omega)).2
  have tg : tig G num i (p i) := (V.eqn i hu).symm
  refine ⟨fun hm => ?_, fun hm => ⟨⟨p i, hk, h1 i _ hi hk ha tg⟩, fun c hc hb => ?_⟩⟩
  · obtain ⟨_, b, b1, _, b3⟩ := hd
    exact ⟨p i, hk, h1 i _ hi hk ha tg, b, b1, b3⟩
  · obtain ⟨_, b, b1, _, b3⟩ := (L.dmn i hu hm).2 c hc (h2 i c hi hm hc hb)
    exact ⟨b, b1, b3⟩
/-- how many states are worth more -/
noncomputable def gtc (n : Nat) (num : Nat → Int) (j : Nat) : Nat := cnt (fun x => num j < num x) n
theorem gtc_lt {n : Nat} {num : Nat → Int} {j x : Nat} (hx : x < n) (h : num j < num x) : gtc n num x < gtc n num j := cnt_lt (j := x) (fun e _ h2 => Int.lt_trans h h2) hx h (Int.lt_irrefl _)
noncomputable def rk2 (n : Nat) (num : Nat → Int) (K : Nat) (rk : Nat → Nat) (j : Nat) : Nat := gtc n num j * K + rk j
theorem stp2 {G : Gd} (W : G.Wf) {l : Nat → Prop} {num : Nat → Int} (nn : ∀ j, j < G.n → 0 ≤ num j) (lz : ∀ j, j < G.n → l j → num j = 0) {rk : Nat → Nat} {K : Nat} (hK : ∀ j, j < G.n → rk j < K) {i k : Nat} (hi : i < G.n) (hk : k < G.cc i) (hp : 0 < num i) (hS : G.wo i k * num i ≤ G.S i k num) (ht : tig G num i k → ∃ b, b < G.nb i k ∧ rk (G.to i k b) < rk i) : G.down l (rk2 G.n num K rk) i k := by
  refine ⟨hk, ?_⟩
  by_cases h : ∃ b, b < G.nb i k ∧ num i < num (G.to i k b)
  · obtain ⟨b, b1, b2⟩ := h
    have hl := W.lt i k b hi hk b1
    refine ⟨b, b1, fun hh => by have := lz _ hl hh; omega, ?_⟩
    have g := gtc_lt hl b2
    have mm : (gtc G.n num (G.to i k b) + 1) * K ≤ gtc G.n num i * K := Nat.mul_le_mul_right K g
    have r := hK _ hl
    rw [Nat.add_mul, Nat.one_mul] at mm
    unfold rk2
    omega
  · have all : ∀ c, c < G.nb i k → num (G.to i k c) ≤ num i := fun c hc => by
      apply Classical.byContradiction
      intro hn
      exact h ⟨c, hc, by omega⟩
    have eq : ∀ b, b < G.nb i k → num (G.to i k b) = num i := fun b hb => Gd.avg W hi hk (h := num) (m := num i) all hS hb
    have tg : tig G num i k := by
      unfold tig
      rw [← Gd.S_const]
      exact sm_congr (fun b hb => by rw [eq b hb])
    obtain ⟨b, b1, b2⟩ := ht tg
    have hl := W.lt i k b hi hk b1
    refine ⟨b, b1, fun hh => by have := lz _ hl hh; have := eq b b1; omega, ?_⟩
    have g : gtc G.n num (G.to i k b) = gtc G.n num i := by unfold gtc; rw [eq b b1]
    unfold rk2
    rw [g]
    omega
/-- all that is known of the values -/
def FS (G : Gd) (num : Nat → Int) (com : Int) (l : Nat → Prop) : Prop := ∃ rk p : Nat → Nat, G.Lost p l rk ∧ G.ok p ∧ G.Val l p num com ∧ hopt G l num ∧ mopt G num ∧ clo G l
/-- the values stay the same -/
def kpt (G : Gd) (num : Nat → Int) (com : Int) (A : Nat → Nat → Prop) : Prop := ∃ (num' : Nat → Int) (com' : Int), Sol (Gv G A) num' com' ∧ ∀ j, j < G.n → num j * com' = num' j * com
/-- the player of state i may choose only c there, and in the states before it only what d says -/
def rst (G : Gd) (d : Nat → Int) (i c : Nat) : Nat → Nat → Prop := fun j k => G.al j k ∧ ((G.mx j ↔ G.mx i) → (j < i → (k : Int) = d j) ∧ (j = i → k = c))
def acl (G : Gd) (num : Nat → Int) (d : Nat → Int) (i c : Nat) : Nat → Nat → Prop := fun j k => G.al j k ∧ tig G num j k ∧ (G.mx j → (j < i → (k : Int) = d j) ∧ (j = i → k = c))
section Kpt
variable {G : Gd} {num : Nat → Int} {com : Int} {l : Nat → Prop} {d : Nat → Int} {i c : Nat}
theorem FS_nn (W : G.Wf) (F : FS G num com l) : (∀ j, j < G.n → 0 ≤ num j) ∧ (∀ j, j < G.n → l j → num j = 0) ∧ (∀ j, G.U l j → 0 < num j) ∧ (∀ j, j < G.n → num j = 0 → l j) := by
  obtain ⟨rk, p, L, ok, V, ho, mo, C⟩ := F
  have hd := L.dn ok (fun _ _ _ => rfl)
  have P := Val_pos W hd V
  refine ⟨fun j hj => (V.nn W hd j hj).1, V.lost, P, fun j hj h0 => ?_⟩
  apply Classical.byContradiction
  intro hn
  by_cases ht : G.tg j
  · have := V.tgt j hj ht
    have := V.pos
    omega
  · have := P j ⟨hj, hn, ht⟩
    omega
theorem kpt_sol (W : G.Wf) {A : Nat → Nat → Prop} (hc : 0 < com) (h : kpt G num com A) : Sol (Gv G A) num com := by
  obtain ⟨num', com', s, e⟩ := h
  exact sol_scale (Gv_wf W A) s hc e
theorem kpt_tig (W : G.Wf) (hi : i < G.n) (hc : c < G.cc i) (s : Sol (Gv G (rst G d i c)) num com) : tig G num i c := by
  obtain ⟨l', rk, p, L, ok, V, _, _⟩ := s
  have hcc : 0 < G.cc i := by omega
  have only : ∀ k, rst G d i c i k → k = c := fun k h => (h.2 Iff.rfl).2 rfl
  have pe : p i = c := only _ (ok i hi hcc).2
  by_cases hl : l' i
  · have z : ∀ k, (∀ b, b < G.nb i k → l' (G.to i k b)) → k < G.cc i → G.S i k num = 0 := fun k hb hk => sm_zero (fun b hb' => by rw [V.lost _ (W.lt i k b hi hk hb') (hb b hb'), Int.mul_zero])
    unfold tig
    rw [V.lost i hi hl, Int.mul_zero]
    rcases L.stay i hi hl with a | ⟨_, a⟩ | ⟨_, k, k1, k2, k3⟩
    · have a' : G.cc i = 0 := a
      omega
    · have a' : ∀ b, b < G.nb i (p i) → l' (G.to i (p i) b) := a
      rw [pe] at a'
      exact z c a' hc
    · have e := only k k2
      rw [← e]; exact z k k3 k1
  · have ht : ¬ G.tg i := fun h => by have := W.tgc i hi h; omega
    have e := V.eqn i ⟨hi, hl, ht⟩
    have e2 : G.wo i (p i) * num i = G.S i (p i) num := e
    rw [pe] at e2
    exact e2.symm
theorem kpt_max (W : G.Wf) (F : FS G num com l) (hx : ∀ j, j < G.n → 0 < G.cc j → ∃ k, k < G.cc j ∧ G.al j k) (hi : i < G.n) (hm : G.mx i) (hc : c < G.cc i) (ha : G.al i c) (hd : ∀ j, j < i → G.mx j → 0 < G.cc j → ∃ k : Nat, d j = k ∧ k < G.cc j ∧ G.al j k) : kpt G num com (rst G d i c) ↔ tig G num i c ∧ fll G (acl G num d i c) (fun j => G.tg j ∨ l j) := by
  obtain ⟨nn, lz, up, zl⟩ := FS_nn W F
  obtain ⟨rk0, p0, L, ok0, V, ho, mo, C⟩ := F
  constructor
  · intro h
    have s := kpt_sol W V.pos h
    refine ⟨kpt_tig W hi hc s, fl_of s (fun j hj he => ⟨fun h => he (Or.inl h), fun h => he (Or.inr (zl j hj h))⟩) (fun j k hj hk hA ht => ⟨hA.1, ht, fun hmj => hA.2 ⟨fun _ => hm, fun _ => hmj⟩⟩) (fun j k hj hmj hk hB => ⟨hB.1, fun h => absurd (h.mpr hm) hmj⟩)⟩
  · intro ⟨ht, rk, hrk⟩
    obtain ⟨K, hK⟩ := rk_bd G.n rk
    have E : ∀ j, G.U l j → ¬ (G.tg j ∨ l j) := fun j hu h => by
      rcases h with h | h
      · exact hu.2.2 h
      · exact hu.2.1 h
    have rs : ∀ j k, G.mx j → acl G num d i c j k → rst G d i c j k := fun j k hmj h => ⟨h.1, fun _ => h.2.2 hmj⟩
    have ex : ∀ j, ∃ k, j < G.n → 0 < G.cc j → k < G.cc j ∧ rst G d i c j k ∧ (G.U l j → tig G num j k) ∧ (G.U l j → G.mx j → ∃ b, b < G.nb j k ∧ rk (G.to j k b) < rk j) := fun j => by
      by_cases e : j < G.n ∧ 0 < G.cc j
      · by_cases hmj : G.mx j
        · by_cases hu : G.U l j
          · obtain ⟨k, k1, k2, k3⟩ := (hrk j e.1 (E j hu)).1 hmj
            exact ⟨k, fun _ _ => ⟨k1, rs j k hmj k2, fun _ => k2.2.1, fun _ _ => k3⟩⟩
          · by_cases e1 : j < i
            · obtain ⟨k, k1, k2, k3⟩ := hd j e1 hmj e.2
              exact ⟨k, fun _ _ => ⟨k2, ⟨k3, fun _ => ⟨fun _ => k1.symm, fun e => by omega⟩⟩, fun h => absurd h hu, fun h => absurd h hu⟩⟩
            · by_cases e2 : j = i
              · exact ⟨c, fun _ _ => ⟨by rw [e2]; exact hc, ⟨by rw [e2]; exact ha, fun _ => ⟨fun h => absurd h e1, fun _ => rfl⟩⟩, fun h => absurd h hu, fun h => absurd h hu⟩⟩
              · obtain ⟨k, k1, k2⟩ := hx j e.1 e.2
                exact ⟨k, fun _ _ => ⟨k1, ⟨k2, fun _ => ⟨fun h => absurd h e1, fun h => absurd h e2⟩⟩, fun h => absurd h hu, fun h => absurd h hu⟩⟩
        · have o := ok0 j e.1 e.2
          exact ⟨p0 j, fun _ _ => ⟨o.1, ⟨o.2, fun h => absurd (h.mpr hm) hmj⟩, fun hu => (V.eqn j hu).symm, fun _ h => absurd h hmj⟩⟩
      · exact ⟨0, fun h1 h2 => absurd ⟨h1, h2⟩ e⟩
    generalize hq : (fun j => Classical.choose (ex j)) = p
    have ps : ∀ j, j < G.n → 0 < G.cc j → p j < G.cc j ∧ rst G d i c j (p j) ∧ (G.U l j → tig G num j (p j)) ∧ (G.U l j → G.mx j → ∃ b, b < G.nb j (p j) ∧ rk (G.to j (p j) b) < rk j) := fun j => by
      rw [← hq]; exact Classical.choose_spec (ex j)
    have uc : ∀ j, G.U l j → 0 < G.cc j := fun j hu => by have := (L.dn ok0 (fun _ _ _ => rfl) j hu).1; omega
    refine ⟨num, com, ⟨l, rk2 G.n num K rk, p, ⟨L.ntg, fun j hj hl => ?_, fun j hu hmj => ?_, fun j hu hmj => ⟨uc j hu, fun k hk hA => ?_⟩⟩, fun j hj hcc => ⟨(ps j hj hcc).1, (ps j hj hcc).2.1⟩, ⟨V.pos, V.tgt, V.lost, fun j hu => ?_⟩, fun j k hu hmj hk hA => ho j k hu hmj hk hA.1, fun j k hj hmj hk hA => mo j k hj hmj hk hA.1⟩, fun _ _ => rfl⟩
    · rcases (C j hj hl).2 with a | ⟨a, b⟩ | ⟨a, k, k1, k2, k3⟩
      · exact Or.inl a
      · by_cases hcc : G.cc j = 0
        · exact Or.inl hcc
        · have s := ps j hj (by omega)
          exact Or.inr (Or.inl ⟨a, b (p j) s.1 s.2.1.1⟩)
      · exact Or.inr (Or.inr ⟨a, k, k1, ⟨k2, fun h => absurd (h.mpr hm) a⟩, k3⟩)
    · have s := ps j hu.1 (uc j hu)
      have tg := s.2.2.1 hu
      exact stp2 W nn lz hK hu.1 s.1 (up j hu) (by unfold tig at tg; omega) (fun _ => s.2.2.2 hu hmj)
    · exact stp2 W nn lz hK hu.1 hk (up j hu) (ho j k hu hmj hk hA.1) (fun tg => ((hrk j hu.1 (E j hu)).2 hmj).2 k hk ⟨hA.1, tg, fun h => absurd h hmj⟩)
    · exact ((ps j hu.1 (uc j hu)).2.2.1 hu).symm
theorem kpt_min (W : G.Wf) (F : FS G num com l) (hi : i < G.n) (hm : ¬ G.mx i) (hc : c < G.cc i) (ha : G.al i c) (hd : ∀ j, j < i → ¬ G.mx j → 0 < G.cc j → ∃ k : Nat, d j = k ∧ k < G.cc j ∧ G.al j k ∧ tig G num j k) : kpt G num com (rst G d i c) ↔ tig G num i c := by
  obtain ⟨nn, lz, up, zl⟩ := FS_nn W F
  obtain ⟨rk0, p0, L, ok0, V, ho, mo, C⟩ := F
  constructor
  · intro h
    exact kpt_tig W hi hc (kpt_sol W V.pos h)
  · intro ht
    have mne : ∀ j, G.mx j → ¬ (G.mx j ↔ G.mx i) := fun j hj h => hm (h.mp hj)
    -- where a choice is tight and the value 0, all that comes is lost
    have tl : ∀ j k, j < G.n → k < G.cc j → l j → tig G num j k → ∀ b, b < G.nb j k → l (G.to j k b) := fun j k hj hk hl tg b hb => by
      have hlt := W.lt j k b hj hk hb
      have h0 : G.S j k num ≤ 0 := by unfold tig at tg; rw [tg, lz j hj hl, Int.mul_zero]; exact Int.le_refl _
      have z := sm_nz (f := fun b => G.wt j k b * num (G.to j k b)) (fun b' hb' => Int.mul_nonneg (Int.le_of_lt (W.pos j k b' hj hk hb')) (nn _ (W.lt j k b' hj hk hb'))) h0 hb
      have wp := W.pos j k b hj hk hb
      rcases Int.mul_eq_zero.mp z with a | a
      · omega
      · exact zl _ hlt a
    have ex : ∀ j, ∃ k, j < G.n → 0 < G.cc j → k < G.cc j ∧ rst G d i c j k ∧ (G.U l j → tig G num j k) ∧ (G.mx j → k = p0 j) ∧ (¬ G.mx j → l j → ∃ k', k' < G.cc j ∧ rst G d i c j k' ∧ ∀ b, b < G.nb j k' → l (G.to j k' b)) := fun j => by
      by_cases e : j < G.n ∧ 0 < G.cc j
      · have o := ok0 j e.1 e.2
        by_cases hmj : G.mx j
        · exact ⟨p0 j, fun _ _ => ⟨o.1, ⟨o.2, fun h => absurd h (mne j hmj)⟩, fun hu => (V.eqn j hu).symm, fun _ => rfl, fun h => absurd hmj h⟩⟩
        · by_cases e1 : j < i
          · obtain ⟨k, k1, k2, k3, k4⟩ := hd j e1 hmj e.2
            have r : rst G d i c j k := ⟨k3, fun _ => ⟨fun _ => k1.symm, fun e => by omega⟩⟩
            exact ⟨k, fun _ _ => ⟨k2, r, fun _ => k4, fun h => absurd h hmj, fun _ hl => ⟨k, k2, r, tl j k e.1 k2 hl k4⟩⟩⟩
          · by_cases e2 : j = i
            · have r : rst G d i c j c := ⟨by rw [e2]; exact ha, fun _ => ⟨fun h => absurd h e1, fun _ => rfl⟩⟩
              have hcj : c < G.cc j := by rw [e2]; exact hc
              have htj : tig G num j c := by rw [e2]; exact ht
              exact ⟨c, fun _ _ => ⟨hcj, r, fun _ => htj, fun h => absurd h hmj, fun _ hl => ⟨c, hcj, r, tl j c e.1 hcj hl htj⟩⟩⟩
            · have r : ∀ k, G.al j k → rst G d i c j k := fun k h => ⟨h, fun _ => ⟨fun h => absurd h e1, fun h => absurd h e2⟩⟩
              refine ⟨p0 j, fun _ _ => ⟨o.1, r _ o.2, fun hu => (V.eqn j hu).symm, fun _ => rfl, fun _ hl => ?_⟩⟩
              rcases L.stay j e.1 hl with a | ⟨a, _⟩ | ⟨_, k, k1, k2, k3⟩
              · omega
              · exact absurd a hmj
              · exact ⟨k, k1, r k k2, k3⟩
      · exact ⟨0, fun h1 h2 => absurd ⟨h1, h2⟩ e⟩
    generalize hq : (fun j => Classical.choose (ex j)) = p
    have ps : ∀ j, j < G.n → 0 < G.cc j → p j < G.cc j ∧ rst G d i c j (p j) ∧ (G.U l j → tig G num j (p j)) ∧ (G.mx j → p j = p0 j) ∧ (¬ G.mx j → l j → ∃ k', k' < G.cc j ∧ rst G d i c j k' ∧ ∀ b, b < G.nb j k' → l (G.to j k' b)) := fun j => by
      rw [← hq]; exact Classical.choose_spec (ex j)
    have uc : ∀ j, G.U l j → 0 < G.cc j := fun j hu => by have := (L.dn ok0 (fun _ _ _ => rfl) j hu).1; omega
    refine ⟨num, com, ⟨l, rk0, p, ⟨L.ntg, fun j hj hl => ?_, fun j hu hmj => ?_, fun j hu hmj => ⟨uc j hu, fun k hk hA => (L.dmn j hu hmj).2 k hk hA.1⟩⟩, fun j hj hcc => ⟨(ps j hj hcc).1, (ps j hj hcc).2.1⟩, ⟨V.pos, V.tgt, V.lost, fun j hu => ((ps j hu.1 (uc j hu)).2.2.1 hu).symm⟩, fun j k hu hmj hk hA => ho j k hu hmj hk hA.1, fun j k hj hmj hk hA => mo j k hj hmj hk hA.1⟩, fun _ _ => rfl⟩
    · by_cases hcc : G.cc j = 0
      · exact Or.inl hcc
      · have s := ps j hj (by omega)
        rcases L.stay j hj hl with a | ⟨a, b⟩ | ⟨a, _⟩
        · exact Or.inl a
        · refine Or.inr (Or.inl ⟨a, ?_⟩)
          rw [s.2.2.2.1 a]; exact b
        · exact Or.inr (Or.inr ⟨a, s.2.2.2.2 a hl⟩)
    · rw [(ps j hu.1 (uc j hu)).2.2.2.1 hmj]
      exact L.dmx j hu hmj
/-- the good choices -/
def BYd (G : Gd) (num : Nat → Int) (com : Int) (d : Nat → Int) : Prop := ∀ i, i < G.n → (G.cc i = 0 → d i = -1) ∧ (0 < G.cc i → ∃ c : Nat, d i = c ∧ c < G.cc i ∧ G.al i c ∧ (kpt G num com (rst G d i c) ∨ ∀ c', c < c' → c' < G.cc i → ¬ G.al i c') ∧ ∀ c', c' < c → G.al i c' → ¬ kpt G num com (rst G d i c'))
theorem rst_d {d d' : Nat → Int} {i c : Nat} (e : ∀ j, j < i → d j = d' j) : rst G d i c = rst G d' i c := by
  funext j k
  unfold rst
  by_cases h : j < i
  · rw [e j h]
  · apply propext
    exact ⟨fun q => ⟨q.1, fun r => ⟨fun h' => absurd h' h, (q.2 r).2⟩⟩, fun q => ⟨q.1, fun r => ⟨fun h' => absurd h' h, (q.2 r).2⟩⟩⟩
theorem kpt_num {num num' : Nat → Int} {com com' : Int} {A : Nat → Nat → Prop} (hc : 0 < com) (e : ∀ j, j < G.n → num j * com' = num' j * com) (h : kpt G num com A) : kpt G num' com' A := by
  obtain ⟨n2, c2, s, q⟩ := h
  refine ⟨n2, c2, s, fun j hj => ?_⟩
  have h1 := e j hj
  have h2 := q j hj
  have h3 : (num' j * c2) * com = (n2 j * com') * com := by
    have a : (num' j * c2) * com = (num' j * com) * c2 := by grind
    have b : (n2 j * com') * com = (n2 j * com) * com' := by grind
    rw [a, b, ← h1, ← h2]; grind
  exact Int.eq_of_mul_eq_mul_right (show com ≠ 0 by omega) h3
theorem BYd_u (W : G.Wf) {num num' : Nat → Int} {com com' : Int} (s : Sol G num com) (s' : Sol G num' com') {d d' : Nat → Int} (h : BYd G num com d) (h' : BYd G num' com' d') : ∀ i, i < G.n → d i = d' i := by
  have e := Sol_eq W W Cor.rfl s s'
  have cp : 0 < com := by obtain ⟨_, _, _, _, _, V, _⟩ := s; exact V.pos
  have cp' : 0 < com' := by obtain ⟨_, _, _, _, _, V, _⟩ := s'; exact V.pos
  have key : ∀ m i, i < m → i < G.n → d i = d' i := by
    intro m
    induction m with
    | zero => intro i hi; omega
    | succ m ih =>
      intro i him hi
      have es : ∀ j, j < i → d j = d' j := fun j hj => ih j (by omega) (by omega)
      by_cases hc : G.cc i = 0
      · rw [(h i hi).1 hc, (h' i hi).1 hc]
      · obtain ⟨c, c1, c2, c3, c4, c5⟩ := (h i hi).2 (by omega)
        obtain ⟨c', q1, q2, q3, q4, q5⟩ := (h' i hi).2 (by omega)
        have k1 : kpt G num com (rst G d i c) → kpt G num' com' (rst G d' i c) := fun q => by rw [← rst_d es]; exact kpt_num cp e q
        have k2 : kpt G num' com' (rst G d' i c') → kpt G num com (rst G d i c') := fun q => by rw [rst_d es]; exact kpt_num cp' (fun j hj => (e j hj).symm) q
        have : c = c' := by
          by_cases a : c < c'
          · rcases c4 with q | q
            · exact absurd (k1 q) (q5 c a c3)
            · exact absurd q3 (q c' a q2)
          · by_cases b : c' < c
            · rcases q4 with q | q
              · exact absurd (k2 q) (c5 c' b q3)
              · exact absurd c3 (q c b c2)
            · omega
        rw [c1, q1, this]
  exact fun i hi => key (i + 1) i (by omega) hi
end Kpt
end Pu_wa
section Pu_wx
/-! What is found: values and good choices. -/
def BY (Y : Ga) (d : Nat → Int) : Prop := ∃ (num : Nat → Int) (com : Int), (HG Y (SR Y).1).Wf ∧ Sol (HG Y (SR Y).1) num com ∧ BYd (HG Y (SR Y).1) num com d
def VX (Y : Ga) (u l d : Nat → Int) : Prop := VY Y u l ∧ BY Y d
theorem VX_u {Y : Ga} {u l d u' l' d' : Nat → Int} (h : VX Y u l d) (h' : VX Y u' l' d') : ∀ i, i < (SR Y).1.1 → u i = u' i ∧ l i = l' i ∧ d i = d' i := fun i hi => by
  obtain ⟨num, com, W, s, b⟩ := h.2
  obtain ⟨num', com', _, s', b'⟩ := h'.2
  have v := VY_u h.1 h'.1 i hi
  exact ⟨v.1, v.2, BYd_u W s s' b b' i hi⟩
end Pu_wx
