set_option maxRecDepth 10000
section Pu_P
/-! What a text says: where it ends well, or where it is wrong. -/
abbrev PR (α : Type) : Type := Sum (α × Nat) Nat
abbrev PR.ok {α : Type} (a : α) (p : Nat) : PR α := Sum.inl (a, p)
abbrev PR.bad {α : Type} (p : Nat) : PR α := Sum.inr p
def PR.bd {α β : Type} (r : PR α) (f : α → Nat → PR β) : PR β := match r with
  | Sum.inl x => f x.1 x.2
  | Sum.inr b => Sum.inr b
theorem bd_ok {α β : Type} (a : α) (q : Nat) (f : α → Nat → PR β) : (PR.ok a q).bd f = f a q := rfl
theorem bd_bad {α β : Type} (b : Nat) (f : α → Nat → PR β) : (PR.bad (α := α) b).bd f = .bad b := rfl
theorem ok_inj {α : Type} {a b : α} {p q : Nat} (h : PR.ok a p = PR.ok b q) : a = b ∧ p = q := by simpa using h
theorem bad_inj {α : Type} {p q : Nat} (h : PR.bad (α := α) p = PR.bad q) : p = q := by simpa using h
section Pure
variable (T : Nat → Int) (n : Nat)
def chr (p : Nat) : Int := if p < n then T p else 0
abbrev dgt (c : Int) : Prop := 48 ≤ c ∧ c ≤ 57
abbrev pms (c : Int) : Prop := c = 43 ∨ c = 45
abbrev nam (c : Int) : Prop := 97 ≤ c ∧ c ≤ 99
abbrev cmp (c : Int) : Prop := c = 60 ∨ c = 62 ∨ c = 61 ∨ c = 35
def pChk (lo hi v : Int) (q p : Nat) : PR Int := if lo ≤ v ∧ v ≤ hi then .ok v q else .bad p
def pNum (lo hi : Int) (p : Nat) : PR Int :=
  if dgt (chr T n p) then
    if dgt (chr T n (p + 1)) then
      if dgt (chr T n (p + 2)) ∨ chr T n p = 48 then .bad p else pChk lo hi (10 * (chr T n p - 48) + (chr T n (p + 1) - 48)) (p + 2) p
    else pChk lo hi (chr T n p - 48) (p + 1) p
  else .bad p
def pItem (kn : Nat → Int) (p : Nat) : PR Unit :=
  if nam (chr T n p) then
    if 0 < kn (chr T n p - 97).toNat then .ok () (p + 1) else .bad p
  else (pNum T n 0 99 p).bd (fun _ q => .ok () q)
def pMore (kn : Nat → Int) : Nat → Nat → PR Unit
  | 0, p => if pms (chr T n p) then .bad p else .ok () p
  | f + 1, p => if pms (chr T n p) then (pItem T n kn (p + 1)).bd (fun _ q => pMore kn f q) else .ok () p
def pSum (kn : Nat → Int) (p : Nat) : PR Unit := (pItem T n kn p).bd (fun _ q => pMore T n kn 3 q)
def pTest (kn : Nat → Int) (p : Nat) : PR Unit := (pSum T n kn p).bd (fun _ q => if cmp (chr T n q) then pSum T n kn (q + 1) else .bad q)
def pTests (kn : Nat → Int) : Nat → Nat → PR Unit
  | 0, p => if chr T n p = 38 then .bad p else .ok () p
  | f + 1, p => if chr T n p = 38 then (pTest T n kn (p + 1)).bd (fun _ q => pTests kn f q) else .ok () p
def pGuard (kn : Nat → Int) (p : Nat) : PR Unit := (pTest T n kn p).bd (fun _ q => pTests T n kn 3 q)
/-- updates, from a name on; which are updated -/
def pUpds (kn : Nat → Int) : Nat → (Nat → Bool) → Nat → PR Unit
  | 0, _, p => .bad p
  | f + 1, up, p =>
    if nam (chr T n p) ∧ 0 < kn (chr T n p - 97).toNat ∧ up (chr T n p - 97).toNat = false then
      if chr T n (p + 1) = 61 then
        (pSum T n kn (p + 2)).bd (fun _ q => if chr T n q = 44 then pUpds kn f (fun v => if v = (chr T n p - 97).toNat then true else up v) (q + 1) else .ok () q)
      else .bad (p + 1)
    else .bad p
def pBranch (kn : Nat → Int) (ws : Int) (p : Nat) : PR Int :=
  (pNum T n 1 (6 - ws) p).bd (fun w q => if chr T n q = 58 then (pUpds T n kn 4 (fun _ => false) (q + 1)).bd (fun _ q2 => .ok w q2) else .ok w q)
/-- behind a branch: others -/
def pBrs (kn : Nat → Int) : Nat → Int → Nat → PR Unit
  | 0, _, p => if chr T n p = 124 then .bad p else .ok () p
  | f + 1, ws, p => if chr T n p = 124 then (pBranch T n kn ws (p + 1)).bd (fun w q => pBrs kn f (ws + w) q) else .ok () p
def pEnd (c : Int) (q : Nat) : PR Unit := if chr T n q = c then .ok () (q + 1) else .bad q
def pCmd (kn : Nat → Int) (p : Nat) : PR Unit :=
  (pGuard T n kn (p + 1)).bd (fun _ q => if chr T n q = 63 then (pBranch T n kn 0 (q + 1)).bd (fun w q2 => (pBrs T n kn 3 w q2).bd (fun _ q3 => pEnd T n 59 q3)) else .bad q)
/-- commands; how many have been read -/
def pCmds (kn : Nat → Int) : Nat → Nat → Nat → PR Nat
  | 0, c, p => if pms (chr T n p) then .bad p else .ok c p
  | f + 1, c, p => if pms (chr T n p) then (pCmd T n kn p).bd (fun _ q => pCmds kn f (c + 1) q) else .ok c p
def pDecl (kn : Nat → Int) (p : Nat) : PR Int :=
  if 0 < kn (chr T n p - 97).toNat then .bad p else
  (pNum T n 1 9 (p + 1)).bd (fun m q => if chr T n q = 58 then (pNum T n 0 m (q + 1)).bd (fun _ q2 => if chr T n q2 = 59 then .ok m (q2 + 1) else .bad q2) else .bad q)
def pDecls : Nat → (Nat → Int) → Nat → PR (Nat → Int)
  | 0, kn, p => if nam (chr T n p) then .bad p else .ok kn p
  | f + 1, kn, p => if nam (chr T n p) then (pDecl T n kn p).bd (fun m q => pDecls f (fun v => if v = (chr T n p - 97).toNat then m else kn v) q) else .ok kn p
/-- behind the commands -/
def pLast (kn : Nat → Int) (c p2 : Nat) : PR Nat := if chr T n p2 = 33 then (pGuard T n kn (p2 + 1)).bd (fun _ p3 => if n ≤ p3 then .ok c p3 else .bad p3) else .bad p2
def pAll : PR Nat := (pDecls T n 3 (fun _ => 0) 0).bd (fun kn p1 => (pCmds T n kn 10 0 p1).bd (fun c p2 => pLast T n kn c p2))
end Pure
/-- what a text of characters is -/
def txt (T : Nat → Int) (n : Nat) : Prop := n ≤ 200 ∧ ∀ p, p < n → 33 ≤ T p ∧ T p ≤ 126
theorem chr_b {T : Nat → Int} {n : Nat} (h : txt T n) (p : Nat) : (chr T n p = 0 ∧ n ≤ p) ∨ (33 ≤ chr T n p ∧ chr T n p ≤ 126 ∧ p < n) := by
  unfold chr; split
  · next hp => exact Or.inr ⟨(h.2 p hp).1, (h.2 p hp).2, hp⟩
  · next hp => exact Or.inl ⟨rfl, by omega⟩
theorem chr_lt {T : Nat → Int} {n : Nat} (h : txt T n) {p : Nat} (hc : chr T n p ≠ 0) : p < n := by
  rcases chr_b h p with ⟨a, _⟩ | ⟨_, _, a⟩
  · exact absurd a hc
  · exact a
theorem pNum_ok {T : Nat → Int} {n : Nat} (h : txt T n) {lo hi : Int} {p : Nat} {v : Int} {q : Nat} (e : pNum T n lo hi p = .ok v q) : lo ≤ v ∧ v ≤ hi ∧ 0 ≤ v ∧ v ≤ 99 ∧ p < q ∧ q ≤ n := by
  unfold pNum at e
  split at e
  · next h0 =>
    split at e
    · next h1 =>
      split at e
      · exact absurd e (by simp)
      · unfold pChk at e
        split at e
        · next h3 =>
          obtain ⟨e1, e2⟩ := ok_inj e
          have := chr_lt h (p := p + 1) (by unfold dgt at h1; omega)
          unfold dgt at h0 h1; omega
        · exact absurd e (by simp)
    · unfold pChk at e
      split at e
      · next h3 =>
        obtain ⟨e1, e2⟩ := ok_inj e
        have := chr_lt h (p := p) (by unfold dgt at h0; omega)
        unfold dgt at h0; omega
      · exact absurd e (by simp)
  · exact absurd e (by simp)
end Pu_P
section Pu_Pb
/-! No place lies behind the text's end. -/
def ple {α : Type} (n : Nat) (r : PR α) : Prop := (∀ a q, r = .ok a q → q ≤ n) ∧ ∀ b, r = .bad b → b ≤ n
theorem ple_ok {α : Type} {n q : Nat} {a : α} (h : q ≤ n) : ple n (PR.ok a q) := ⟨fun b p e => by have := (ok_inj e).2; omega, fun b e => absurd e (by simp)⟩
theorem ple_bad {α : Type} {n q : Nat} (h : q ≤ n) : ple n (PR.bad (α := α) q) := ⟨fun b p e => absurd e (by simp), fun b e => by have := bad_inj e; omega⟩
theorem ple_bd {α β : Type} {n : Nat} {r : PR α} {f : α → Nat → PR β} (h : ple n r) (hf : ∀ a q, q ≤ n → ple n (f a q)) : ple n (r.bd f) := by
  match r, h with
  | .inl (a, q), h => exact hf a q (h.1 a q rfl)
  | .inr b, h => exact ple_bad (h.2 b rfl)
section PB
variable {T : Nat → Int} {n : Nat}
theorem chr1 {p : Nat} {c : Int} (h : chr T n p = c) (hc : c ≠ 0) : p + 1 ≤ n := by
  unfold chr at h; split at h
  · omega
  · exact absurd h.symm hc
theorem chr_dgt {p : Nat} (h : dgt (chr T n p)) : p + 1 ≤ n := chr1 (c := chr T n p) rfl (by unfold dgt at h; omega)
theorem chr_nam {p : Nat} (h : nam (chr T n p)) : p + 1 ≤ n := chr1 (c := chr T n p) rfl (by unfold nam at h; omega)
theorem chr_pms {p : Nat} (h : pms (chr T n p)) : p + 1 ≤ n := chr1 (c := chr T n p) rfl (by unfold pms at h; omega)
theorem chr_cmp {p : Nat} (h : cmp (chr T n p)) : p + 1 ≤ n := chr1 (c := chr T n p) rfl (by unfold cmp at h; omega)
theorem b_num {lo hi : Int} {p : Nat} (hp : p ≤ n) : ple n (pNum T n lo hi p) := by
  unfold pNum pChk
  split
  · next h0 =>
    have := chr_dgt h0
    split
    · next h1 =>
      have := chr_dgt h1
      split
      · exact ple_bad hp
      · split
        · exact ple_ok (by omega)
        · exact ple_bad hp
    · split
      · exact ple_ok (by omega)
      · exact ple_bad hp
  · exact ple_bad hp
theorem b_item {kn : Nat → Int} {p : Nat} (hp : p ≤ n) : ple n (pItem T n kn p) := by
  unfold pItem
  split
  · next h0 =>
    have := chr_nam h0
    split
    · exact ple_ok (by omega)
    · exact ple_bad hp
  · exact ple_bd (b_num hp) (fun _ q hq => ple_ok hq)
theorem b_more {kn : Nat → Int} {f : Nat} : ∀ {p : Nat}, p ≤ n → ple n (pMore T n kn f p) := by
  induction f with
  | zero => intro p hp; rw [pMore]; split; exact ple_bad hp; exact ple_ok hp
  | succ f ih =>
    intro p hp; rw [pMore]; split
    · next h0 => exact ple_bd (b_item (chr_pms h0)) (fun _ q hq => ih hq)
    · exact ple_ok hp
theorem b_sum {kn : Nat → Int} {p : Nat} (hp : p ≤ n) : ple n (pSum T n kn p) := ple_bd (b_item hp) (fun _ _ hq => b_more hq)
theorem b_test {kn : Nat → Int} {p : Nat} (hp : p ≤ n) : ple n (pTest T n kn p) := ple_bd (b_sum hp) (fun _ q hq => by
  split
  · next h0 => exact b_sum (chr_cmp h0)
  · exact ple_bad hq)
theorem b_tests {kn : Nat → Int} {f : Nat} : ∀ {p : Nat}, p ≤ n → ple n (pTests T n kn f p) := by
  induction f with
  | zero => intro p hp; rw [pTests]; split; exact ple_bad hp; exact ple_ok hp
  | succ f ih =>
    intro p hp; rw [pTests]; split
    · next h0 => exact ple_bd (b_test (chr1 h0 (by decide))) (fun _ q hq => ih hq)
    · exact ple_ok hp
theorem b_guard {kn : Nat → Int} {p : Nat} (hp : p ≤ n) : ple n (pGuard T n kn p) := ple_bd (b_test hp) (fun _ _ hq => b_tests hq)
theorem b_upds {kn : Nat → Int} {f : Nat} : ∀ {up : Nat → Bool} {p : Nat}, p ≤ n → ple n (pUpds T n kn f up p) := by
  induction f with
  | zero => intro up p hp; rw [pUpds]; exact ple_bad hp
  | succ f ih =>
    intro up p hp; rw [pUpds]; split
    · next h0 =>
      have := chr_nam h0.1
      split
      · next h1 =>
        have := chr1 h1 (by decide)
        refine ple_bd (b_sum (by omega)) (fun _ q hq => ?_)
        split
        · next h2 => exact ih (chr1 h2 (by decide))
        · exact ple_ok hq
      · exact ple_bad (by omega)
    · exact ple_bad hp
theorem b_branch {kn : Nat → Int} {ws : Int} {p : Nat} (hp : p ≤ n) : ple n (pBranch T n kn ws p) := ple_bd (b_num hp) (fun _ q hq => by
  split
  · next h0 => exact ple_bd (b_upds (chr1 h0 (by decide))) (fun _ q2 h2 => ple_ok h2)
  · exact ple_ok hq)
theorem b_brs {kn : Nat → Int} {f : Nat} : ∀ {ws : Int} {p : Nat}, p ≤ n → ple n (pBrs T n kn f ws p) := by
  induction f with
  | zero => intro ws p hp; rw [pBrs]; split; exact ple_bad hp; exact ple_ok hp
  | succ f ih =>
    intro ws p hp; rw [pBrs]; split
    · next h0 => exact ple_bd (b_branch (chr1 h0 (by decide))) (fun _ q hq => ih hq)
    · exact ple_ok hp
theorem b_end {c : Int} (hc : c ≠ 0) {p : Nat} (hp : p ≤ n) : ple n (pEnd T n c p) := by
  unfold pEnd; split
  · next h0 => exact ple_ok (chr1 h0 hc)
  · exact ple_bad hp
theorem b_cmd {kn : Nat → Int} {p : Nat} (hp : p + 1 ≤ n) : ple n (pCmd T n kn p) := ple_bd (b_guard hp) (fun _ q hq => by
  split
  · next h0 => exact ple_bd (b_branch (chr1 h0 (by decide))) (fun _ q2 h2 => ple_bd (b_brs h2) (fun _ q3 h3 => b_end (by decide) h3))
  · exact ple_bad hq)
theorem b_cmds {kn : Nat → Int} {f : Nat} : ∀ {c p : Nat}, p ≤ n → ple n (pCmds T n kn f c p) := by
  induction f with
  | zero => intro c p hp; rw [pCmds]; split; exact ple_bad hp; exact ple_ok hp
  | succ f ih =>
    intro c p hp; rw [pCmds]; split
    · next h0 => exact ple_bd (b_cmd (chr_pms h0)) (fun _ q hq => ih hq)
    · exact ple_ok hp
theorem b_decl {kn : Nat → Int} {p : Nat} (hp : p + 1 ≤ n) : ple n (pDecl T n kn p) := by
  unfold pDecl; split
  · exact ple_bad (by omega)
  · refine ple_bd (b_num hp) (fun m q hq => ?_)
    split
    · next h0 =>
      refine ple_bd (b_num (chr1 h0 (by decide))) (fun _ q2 h2 => ?_)
      split
      · next h3 => exact ple_ok (chr1 h3 (by decide))
      · exact ple_bad h2
    · exact ple_bad hq
theorem b_decls {f : Nat} : ∀ {kn : Nat → Int} {p : Nat}, p ≤ n → ple n (pDecls T n f kn p) := by
  induction f with
  | zero => intro kn p hp; rw [pDecls]; split; exact ple_bad hp; exact ple_ok hp
  | succ f ih =>
    intro kn p hp; rw [pDecls]; split
    · next h0 => exact ple_bd (b_decl (chr_nam h0)) (fun _ q hq => ih hq)
    · exact ple_ok hp
theorem b_last {kn : Nat → Int} {c p : Nat} (hp : p ≤ n) : ple n (pLast T n kn c p) := by
  unfold pLast; split
  · next h0 =>
    refine ple_bd (b_guard (chr1 h0 (by decide))) (fun _ q hq => ?_)
    split
    · exact ple_ok hq
    · exact ple_bad hq
  · exact ple_bad hp
theorem pAll_bad {b : Nat} (h : pAll T n = .bad b) : b ≤ n :=
  (ple_bd (b_decls (by omega)) (fun _ _ h1 => ple_bd (b_cmds h1) (fun _ _ h2 => b_last h2))).2 b h
end PB
end Pu_Pb
section Pu_Pc
/-! What a text means: the sums, tests, branches and commands that stand at its places. -/
def ps {α : Type} (r : PR α) : Nat := match r with
  | Sum.inl x => x.2
  | Sum.inr b => b
theorem ps_ok {α : Type} {r : PR α} {a : α} {q : Nat} (h : r = PR.ok a q) : ps r = q := by rw [h]; rfl
section Cnt
variable (T : Nat → Int) (n : Nat)
/-- a number of one or two digits, and where it ends -/
def ivn (p : Nat) : Int := if dgt (chr T n (p + 1)) then 10 * (chr T n p - 48) + (chr T n (p + 1) - 48) else chr T n p - 48
def nq (p : Nat) : Nat := if dgt (chr T n (p + 1)) then p + 2 else p + 1
/-- sums: how often each variable is taken, and the number beside them -/
def vIt (p x : Nat) : Int := if nam (chr T n p) then (if x = (chr T n p - 97).toNat then 1 else 0) else if x = 3 then ivn T n p else 0
def vMo (kn : Nat → Int) : Nat → Nat → Nat → Int
  | 0, _, _ => 0
  | f + 1, p, x => if pms (chr T n p) then (if chr T n p = 45 then -1 else 1) * vIt T n (p + 1) x + vMo kn f (ps (pItem T n kn (p + 1))) x else 0
def vSu (kn : Nat → Int) (p x : Nat) : Int := vIt T n p x + vMo T n kn 3 (ps (pItem T n kn p)) x
/-- tests -/
def tC (kn : Nat → Int) (p : Nat) : Int := chr T n (ps (pSum T n kn p))
def tR (kn : Nat → Int) (p x : Nat) : Int := vSu T n kn (ps (pSum T n kn p) + 1) x
def tE (kn : Nat → Int) (p : Nat) : Nat := ps (pTest T n kn p)
def tp (kn : Nat → Int) (p : Nat) : Nat → Nat
  | 0 => p
  | k + 1 => tE T n kn (tp kn p k) + 1
def tN (kn : Nat → Int) : Nat → Nat → Nat
  | 0, _ => 1
  | f + 1, p => if chr T n (tE T n kn p) = 38 then tN kn f (tE T n kn p + 1) + 1 else 1
/-- updates: where the sum of a variable stands; 0 if it has none -/
def uP (kn : Nat → Int) : Nat → Nat → Nat → Nat
  | 0, _, _ => 0
  | f + 1, q, v => if v = (chr T n q - 97).toNat then q + 2 else if chr T n (ps (pSum T n kn (q + 2))) = 44 then uP kn f (ps (pSum T n kn (q + 2)) + 1) v else 0
def brU (kn : Nat → Int) (p v : Nat) : Nat := if chr T n (nq T n p) = 58 then uP T n kn 4 (nq T n p + 1) v else 0
def brF (kn : Nat → Int) (p v x : Nat) : Int := if brU T n kn p v = 0 then (if x = v then 1 else 0) else vSu T n kn (brU T n kn p v) x
def brE (kn : Nat → Int) (p : Nat) : Nat := if chr T n (nq T n p) = 58 then ps (pUpds T n kn 4 (fun _ => false) (nq T n p + 1)) else nq T n p
/-- commands -/
def bp (kn : Nat → Int) (p : Nat) : Nat → Nat
  | 0 => ps (pGuard T n kn (p + 1)) + 1
  | b + 1 => brE T n kn (bp kn p b) + 1
def bN (kn : Nat → Int) : Nat → Nat → Nat
  | 0, _ => 1
  | f + 1, p => if chr T n (brE T n kn p) = 124 then bN kn f (brE T n kn p + 1) + 1 else 1
def cp (kn : Nat → Int) (p : Nat) : Nat → Nat
  | 0 => p
  | c + 1 => ps (pCmd T n kn (cp kn p c))
/-- declarations: the first values -/
def dE (p : Nat) : Nat := nq T n (nq T n (p + 1) + 1) + 1
def dF : Nat → Nat → Nat → Int
  | 0, _, _ => 0
  | f + 1, p, v => if nam (chr T n p) then (if v = (chr T n p - 97).toNat then ivn T n (nq T n (p + 1) + 1) else dF f (dE T n p) v) else 0
end Cnt
theorem pNum_val {T : Nat → Int} {n : Nat} {lo hi : Int} {p : Nat} {v : Int} {q : Nat} (e : pNum T n lo hi p = .ok v q) : v = ivn T n p ∧ q = nq T n p := by
  unfold pNum pChk at e
  unfold ivn nq
  split at e
  · split at e
    · next h1 =>
      rw [if_pos h1, if_pos h1]
      split at e
      · exact absurd e (by simp)
      · split at e
        · have := ok_inj e; exact ⟨this.1.symm, this.2.symm⟩
        · exact absurd e (by simp)
    · next h1 =>
      rw [if_neg h1, if_neg h1]
      split at e
      · have := ok_inj e; exact ⟨this.1.symm, this.2.symm⟩
      · exact absurd e (by simp)
  · exact absurd e (by simp)
/-- a sum laid upon a row of numbers -/
def adds (a2 : Nat) (F : Nat → Int) (A B : Nat → Int) : Prop := ∀ y, B y = A y + (if a2 ≤ y ∧ y < a2 + 4 then F (y - a2) else 0)
theorem adds_0 {a2 : Nat} {A : Nat → Int} : adds a2 (fun _ => 0) A A := fun y => by split <;> simp
theorem adds_u {a2 c : Nat} {F A B B' : Nat → Int} (h : adds a2 F A B) (hc : c < 4) {d : Int} (e : ∀ y, B' y = if y = a2 + c then B y + d else B y) : adds a2 (fun x => F x + if x = c then d else 0) A B' := fun y => by
  rw [e y, h y]
  show _ = A y + (if a2 ≤ y ∧ y < a2 + 4 then F (y - a2) + (if y - a2 = c then d else 0) else 0)
  by_cases h1 : y = a2 + c
  · rw [if_pos h1, if_pos (by omega), if_pos (by omega), if_pos (by omega)]; omega
  · rw [if_neg h1]
    by_cases h2 : a2 ≤ y ∧ y < a2 + 4
    · rw [if_pos h2, if_pos h2, if_neg (show ¬ (y - a2 = c) by omega)]; omega
    · rw [if_neg h2, if_neg h2]
theorem adds_c {a2 : Nat} {F G A B : Nat → Int} (h : adds a2 F A B) (e : ∀ x, F x = G x) : adds a2 G A B := fun y => by
  rw [h y]; split
  · rw [e]
  · rfl
/-- a sum at values of the variables -/
def ev (F : Nat → Int) (r : Nat → Int) : Int := F 0 * r 0 + F 1 * r 1 + F 2 * r 2 + F 3
theorem ev_add {F G H : Nat → Int} {c : Int} {r : Nat → Int} (e : ∀ x, H x = F x + c * G x) : ev H r = ev F r + c * ev G r := by
  unfold ev; rw [e 0, e 1, e 2, e 3]; grind
theorem ev_c {F G : Nat → Int} {r : Nat → Int} (e : ∀ x, F x = G x) : ev F r = ev G r := by
  unfold ev; rw [e 0, e 1, e 2, e 3]
theorem ev_0 {F : Nat → Int} {r : Nat → Int} (e : ∀ x, F x = 0) : ev F r = 0 := by
  unfold ev; rw [e 0, e 1, e 2, e 3]; omega
theorem ev_name {T : Nat → Int} {n p : Nat} (h : nam (chr T n p)) (r : Nat → Int) : ev (vIt T n p) r = r (chr T n p - 97).toNat := by
  have h3 : chr T n p = 97 ∨ chr T n p = 98 ∨ chr T n p = 99 := by unfold nam at h; omega
  unfold ev vIt
  rcases h3 with e | e | e <;> rw [e] <;> simp [nam]
theorem ev_num {T : Nat → Int} {n p : Nat} (h : ¬ nam (chr T n p)) (r : Nat → Int) : ev (vIt T n p) r = ivn T n p := by
  unfold ev vIt
  simp [h]
end Pu_Pc
