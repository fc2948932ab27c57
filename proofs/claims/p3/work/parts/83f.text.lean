set_option maxRecDepth 10000
section Pu_P
/-! What a text says: where it ends well, or where it is wrong. -/
abbrev PR (α : Type) : Type := Sum (α × Nat) Nat
abbrev PR.ok {α : Type} (a : α) (p : Nat) : PR α := Sum.inl (a, p)
abbrev PR.bad {α : Type} (p : Nat) : PR α := Sum.inr p
def PR.bd {α β : Type} (r : PR α) (f : α → Nat → PR β) : PR β := match r with
  | Sum.inl x => f x.1 x.2
  | Sum.inr b => Sum.inr b
theorem bd_ok {α β : Type} (a : α) (q : Nat) (f : α → Nat → PR β) : (PR.ok a q).bd f = f a q := rfl
theorem bd_bad {α β : Type} (b : Nat) (f : α → Nat → PR β) : (PR.bad (α := α) b).bd f = .bad b := rfl
theorem ok_inj {α : Type} {a b : α} {p q : Nat} (h : PR.ok a p = PR.ok b q) : a = b ∧ p = q := by simpa using h
theorem bad_inj {α : Type} {p q : Nat} (h : PR.bad (α := α) p = PR.bad q) : p = q := by simpa using h
section Pure
variable (T : Nat → Int) (n : Nat)
def chr (p : Nat) : Int := if p < n then T p else 0
abbrev dgt (c : Int) : Prop := 48 ≤ c ∧ c ≤ 57
abbrev pms (c : Int) : Prop := c = 43 ∨ c = 45
abbrev nam (c : Int) : Prop := 97 ≤ c ∧ c ≤ 99
abbrev cmp (c : Int) : Prop := c = 60 ∨ c = 62 ∨ c = 61 ∨ c = 35
def pChk (lo hi v : Int) (q p : Nat) : PR Int := if lo ≤ v ∧ v ≤ hi then .ok v q else .bad p
def pNum (lo hi : Int) (p : Nat) : PR Int :=
  if dgt (chr T n p) then
    if dgt (chr T n (p + 1)) then
      if dgt (chr T n (p + 2)) ∨ chr T n p = 48 then .bad p else pChk lo hi (10 * (chr T n p - 48) + (chr T n (p + 1) - 48)) (p + 2) p
    else pChk lo hi (chr T n p - 48) (p + 1) p
  else .bad p
def pItem (kn : Nat → Int) (p : Nat) : PR Unit :=
  if nam (chr T n p) then
    if 0 < kn (chr T n p - 97).toNat then .ok () (p + 1) else .bad p
  else (pNum T n 0 99 p).bd (fun _ q => .ok () q)
def pMore (kn : Nat → Int) : Nat → Nat → PR Unit
  | 0, p => if pms (chr T n p) then .bad p else .ok () p
  | f + 1, p => if pms (chr T n p) then (pItem T n kn (p + 1)).bd (fun _ q => pMore kn f q) else .ok () p
def pSum (kn : Nat → Int) (p : Nat) : PR Unit := (pItem T n kn p).bd (fun _ q => pMore T n kn 3 q)
def pTest (kn : Nat → Int) (p : Nat) : PR Unit := (pSum T n kn p).bd (fun _ q => if cmp (chr T n q) then pSum T n kn (q + 1) else .bad q)
def pTests (kn : Nat → Int) : Nat → Nat → PR Unit
  | 0, p => if chr T n p = 38 then .bad p else .ok () p
  | f + 1, p => if chr T n p = 38 then (pTest T n kn (p + 1)).bd (fun _ q => pTests kn f q) else .ok () p
def pGuard (kn : Nat → Int) (p : Nat) : PR Unit := (pTest T n kn p).bd (fun _ q => pTests T n kn 3 q)
/-- updates, from a name on; which are updated -/
def pUpds (kn : Nat → Int) : Nat → (Nat → Bool) → Nat → PR Unit
  | 0, _, p => .bad p
  | f + 1, up, p =>
    if nam (chr T n p) ∧ 0 < kn (chr T n p - 97).toNat ∧ up (chr T n p - 97).toNat = false then
      if chr T n (p + 1) = 61 then
        (pSum T n kn (p + 2)).bd (fun _ q => if chr T n q = 44 then pUpds kn f (fun v => if v = (chr T n p - 97).toNat then true else up v) (q + 1) else .ok () q)
      else .bad (p + 1)
    else .bad p
def pBranch (kn : Nat → Int) (ws : Int) (p : Nat) : PR Int :=
  (pNum T n 1 (6 - ws) p).bd (fun w q => if chr T n q = 58 then (pUpds T n kn 4 (fun _ => false) (q + 1)).bd (fun _ q2 => .ok w q2) else .ok w q)
/-- behind a branch: others -/
def pBrs (kn : Nat → Int) : Nat → Int → Nat → PR Unit
  | 0, _, p => if chr T n p = 124 then .bad p else .ok () p
  | f + 1, ws, p => if chr T n p = 124 then (pBranch T n kn ws (p + 1)).bd (fun w q => pBrs kn f (ws + w) q) else .ok () p
def pEnd (c : Int) (q : Nat) : PR Unit := if chr T n q = c then .ok () (q + 1) else .bad q
def pCmd (kn : Nat → Int) (p : Nat) : PR Unit :=
  (pGuard T n kn (p + 1)).bd (fun _ q => if chr T n q = 63 then (pBranch T n kn 0 (q + 1)).bd (fun w q2 => (pBrs T n kn 3 w q2).bd (fun _ q3 => pEnd T n 59 q3)) else .bad q)
/-- commands; how many have been read -/
def pCmds (kn : Nat → Int) : Nat → Nat → Nat → PR Nat
  | 0, c, p => if pms (chr T n p) then .bad p else .ok c p
  | f + 1, c, p => if pms (chr T n p) then (pCmd T n kn p).bd (fun _ q => pCmds kn f (c + 1) q) else .ok c p
def pDecl (kn : Nat → Int) (p : Nat) : PR Int :=
  if 0 < kn (chr T n p - 97).toNat then .bad p else
  (pNum T n 1 9 (p + 1)).bd (fun m q => if chr T n q = 58 then (pNum T n 0 m (q + 1)).bd (fun _ q2 => if chr T n q2 = 59 then .ok m (q2 + 1) else .bad q2) else .bad q)
def pDecls : Nat → (Nat → Int) → Nat → PR (Nat → Int)
  | 0, kn, p => if nam (chr T n p) then .bad p else .ok kn p
  | f + 1, kn, p => if nam (chr T n p) then (pDecl T n kn p).bd (fun m q => pDecls f (fun v => if v = (chr T n p - 97).toNat then m else kn v) q) else .ok kn p
/-- behind the commands -/
def pLast (kn : Nat → Int) (c p2 : Nat) : PR Nat := if chr T n p2 = 33 then (pGuard T n kn (p2 + 1)).bd (fun _ p3 => if n ≤ p3 then .ok c p3 else .bad p3) else .bad p2
def pAll : PR Nat := (pDecls T n 3 (fun _ => 0) 0).bd (fun kn p1 => (pCmds T n kn 10 0 p1).bd (fun c p2 => pLast T n kn c p2))
end Pure
/-- what a text of characters is -/
def txt (T : Nat → Int) (n : Nat) : Prop := n ≤ 200 ∧ ∀ p, p < n → 33 ≤ T p ∧ T p ≤ 126
theorem chr_b {T : Nat → Int} {n : Nat} (h : txt T n) (p : Nat) : (chr T n p = 0 ∧ n ≤ p) ∨ (33 ≤ chr T n p ∧ chr T n p ≤ 126 ∧ p < n) := by
  unfold chr; split
  · next hp => exact Or.inr ⟨(h.2 p hp).1, (h.2 p hp).2, hp⟩
  · next hp => exact Or.inl ⟨rfl, by omega⟩
theorem chr_lt {T : Nat → Int} {n : Nat} (h : txt T n) {p : Nat} (hc : chr T n p ≠ 0) : p < n := by
  rcases chr_b h p with ⟨a, _⟩ | ⟨_, _, a⟩
  · exact absurd a hc
  · exact a
theorem pNum_ok {T : Nat → Int} {n : Nat} (h : txt T n) {lo hi : Int} {p : Nat} {v : Int} {q : Nat} (e : pNum T n lo hi p = .ok v q) : lo ≤ v ∧ v ≤ hi ∧ 0 ≤ v ∧ v ≤ 99 ∧ p < q ∧ q ≤ n := by
  unfold pNum at e
  split at e
  · next h0 =>
    split at e
    · next h1 =>
      split at e
      · exact absurd e (by simp)
      · unfold pChk at e
        split at e
        · next h3 =>
          obtain ⟨e1, e2⟩ := ok_inj e
          have := chr_lt h (p := p + 1) (by unfold dgt at h1; omega)
          unfold dgt at h0 h1; omega
        · exact absurd e (by simp)
    · unfold pChk at e
      split at e
      · next h3 =>
        obtain ⟨e1, e2⟩ := ok_inj e
        have := chr_lt h (p := p) (by unfold dgt at h0; omega)
        unfold dgt at h0; omega
      · exact absurd e (by simp)
  · exact absurd e (by simp)
end Pu_P
