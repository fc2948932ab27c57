theorem jcmp_self (a : Int) : jcmp a a = 0 := by unfold jcmp; simp
theorem law_IV {M : fm_M} (hI : IV M) : law_ok IV M := by
  intro a1 a2 a3 r1 r2 r3
  have z0 : rg 0 := rg_small (by decide)
  have z1 : rg 1 := rg_small (by decide)
  refine ⟨?_, ?_, ?_, ?_, ?_, ?_, ?_, ?_, ?_, ?_, ?_, ?_, ?_, ?_, ?_⟩
  · unfold law_0; exact p_type hI r3 (fun r M' hr h => h)
  · unfold law_1; exact p_wipe hI (fun r M' hr h => h)
  · unfold law_2; exact p_read hI (fun _ _ _ h _ _ => h) (fun _ _ h _ => h)
  · unfold law_3; exact p_place hI  (fun _ _ _ h => h)
  · unfold law_4; exact p_solve hI (fun _ _ _ h _ _ => h) (fun _ _ h _ => h)
  · unfold law_5; exact p_states hI  (fun _ _ _ h => h)
  · unfold law_6; exact p_mixed hI  (fun _ _ _ h => h)
  · unfold law_7; exact p_variable' hI r1 r2 (fun _ _ _ h => h)
  · unfold law_8; exact p_target hI r1 (fun _ _ _ h => h)
  · unfold law_9; exact p_owner hI r1 (fun _ _ _ h => h)
  · unfold law_10; exact p_choice hI r1 r2 (fun r M' hr h => ⟨hr, hr, fun _ => h, fun e => e rfl⟩)
  · unfold law_11; exact p_branch hI r1 r2 r3 (fun _ _ _ h => h)
  · unfold law_12; exact p_upper hI r1 (fun _ _ _ h => h)
  · unfold law_13; exact p_lower hI r1 (fun _ _ _ h => h)
  · unfold law_14; exact p_good hI r1 (fun _ _ _ h => h)
