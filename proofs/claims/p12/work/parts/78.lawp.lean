def law_0 (Inv : fm_M → Prop) (M : fm_M) (a1 a2 a3 : Int) : Prop :=
  (wp_CG_type M (jlor (jlshl a1 32) (jland a2 4294967295)) a3 (fun (r2 : Int) (M1 : fm_M) => (wp_Mo_type M1 (jlor (jlshl a1 32) (jland a2 4294967295)) a3 (fun (r4 : Int) (M3 : fm_M) => (Inv M3)) (fun _ _ => False))) (fun _ _ => False))
def law_1 (Inv : fm_M → Prop) (M : fm_M) (a1 a2 a3 : Int) : Prop :=
  (wp_CG_wipe M (fun (r2 : Int) (M1 : fm_M) => (wp_Mo_wipe M1 (fun (r4 : Int) (M3 : fm_M) => (Inv M3)) (fun _ _ => False))) (fun _ _ => False))
def law_2 (Inv : fm_M → Prop) (M : fm_M) (a1 a2 a3 : Int) : Prop :=
  (wp_La_read M (fun (r2 : Int) (M1 : fm_M) => (wp_Mo_read M1 (fun (r4 : Int) (M3 : fm_M) => (Inv M3)) (fun _ _ => False))))
def law_3 (Inv : fm_M → Prop) (M : fm_M) (a1 a2 a3 : Int) : Prop :=
  (wp_CG_place M (fun (r2 : Int) (M1 : fm_M) => (wp_Mo_place M1 (fun (r4 : Int) (M3 : fm_M) => (Inv M3)) (fun _ _ => False))) (fun _ _ => False))
def law_4 (Inv : fm_M → Prop) (M : fm_M) (a1 a2 a3 : Int) : Prop :=
  (wp_La_solve M (fun (r2 : Int) (M1 : fm_M) => (wp_Mo_solve M1 (fun (r4 : Int) (M3 : fm_M) => (Inv M3)) (fun _ _ => False))))
def law_5 (Inv : fm_M → Prop) (M : fm_M) (a1 a2 a3 : Int) : Prop :=
  (wp_CG_states M (fun (r2 : Int) (M1 : fm_M) => (wp_Mo_states M1 (fun (r4 : Int) (M3 : fm_M) => (Inv M3)) (fun _ _ => False))) (fun _ _ => False))
def law_6 (Inv : fm_M → Prop) (M : fm_M) (a1 a2 a3 : Int) : Prop :=
  (wp_CG_mixed M (fun (r2 : Int) (M1 : fm_M) => (wp_Mo_mixed M1 (fun (r4 : Int) (M3 : fm_M) => (Inv M3)) (fun _ _ => False))) (fun _ _ => False))
def law_7 (Inv : fm_M → Prop) (M : fm_M) (a1 a2 a3 : Int) : Prop :=
  (wp_CG_variable M a1 a2 (fun (r2 : Int) (M1 : fm_M) => (wp_Mo_variable M1 a1 a2 (fun (r4 : Int) (M3 : fm_M) => (Inv M3)) (fun _ _ => False))) (fun _ _ => False))
def law_8 (Inv : fm_M → Prop) (M : fm_M) (a1 a2 a3 : Int) : Prop :=
  (wp_CG_target M a1 (fun (r2 : Int) (M1 : fm_M) => (wp_Mo_target M1 a1 (fun (r4 : Int) (M3 : fm_M) => (Inv M3)) (fun _ _ => False))) (fun _ _ => False))
def law_9 (Inv : fm_M → Prop) (M : fm_M) (a1 a2 a3 : Int) : Prop :=
  (wp_CG_owner M a1 (fun (r2 : Int) (M1 : fm_M) => (wp_Mo_owner M1 a1 (fun (r4 : Int) (M3 : fm_M) => (Inv M3)) (fun _ _ => False))) (fun _ _ => False))
def law_10 (Inv : fm_M → Prop) (M : fm_M) (a1 a2 a3 : Int) : Prop :=
  (wp_CG_choice M a1 a2 (fun (r2 : Int) (M1 : fm_M) => (wp_Mo_choice M1 a1 a2 (fun (r4 : Int) (M3 : fm_M) => ((rg r2) ∧ ((rg r4) ∧ ((r2 = r4 → (Inv M3)) ∧ (¬ r2 = r4 → False))))) (fun _ _ => False))) (fun _ _ => False))
def law_11 (Inv : fm_M → Prop) (M : fm_M) (a1 a2 a3 : Int) : Prop :=
  (wp_CG_branch M a1 a2 a3 (fun (r2 : Int) (M1 : fm_M) => (wp_Mo_branch M1 a1 a2 a3 (fun (r4 : Int) (M3 : fm_M) => (Inv M3)) (fun _ _ => False))) (fun _ _ => False))
def law_12 (Inv : fm_M → Prop) (M : fm_M) (a1 a2 a3 : Int) : Prop :=
  (wp_La_upper M a1 (fun (r2 : Int) (M1 : fm_M) => (wp_Mo_upper M1 a1 (fun (r4 : Int) (M3 : fm_M) => (Inv M3)) (fun _ _ => False))))
def law_13 (Inv : fm_M → Prop) (M : fm_M) (a1 a2 a3 : Int) : Prop :=
  (wp_La_lower M a1 (fun (r2 : Int) (M1 : fm_M) => (wp_Mo_lower M1 a1 (fun (r4 : Int) (M3 : fm_M) => (Inv M3)) (fun _ _ => False))))
def law_14 (Inv : fm_M → Prop) (M : fm_M) (a1 a2 a3 : Int) : Prop :=
  (wp_La_good M a1 (fun (r2 : Int) (M1 : fm_M) => (wp_Mo_good M1 a1 (fun (r4 : Int) (M3 : fm_M) => (Inv M3)) (fun _ _ => False))))
def law_ok (Inv : fm_M → Prop) (M : fm_M) : Prop :=
  ∀ a1 a2 a3 : Int, rg a1 → rg a2 → rg a3 → law_0 Inv M a1 a2 a3 ∧ law_1 Inv M a1 a2 a3 ∧ law_2 Inv M a1 a2 a3 ∧ law_3 Inv M a1 a2 a3 ∧ law_4 Inv M a1 a2 a3 ∧ law_5 Inv M a1 a2 a3 ∧ law_6 Inv M a1 a2 a3 ∧ law_7 Inv M a1 a2 a3 ∧ law_8 Inv M a1 a2 a3 ∧ law_9 Inv M a1 a2 a3 ∧ law_10 Inv M a1 a2 a3 ∧ law_11 Inv M a1 a2 a3 ∧ law_12 Inv M a1 a2 a3 ∧ law_13 Inv M a1 a2 a3 ∧ law_14 Inv M a1 a2 a3
