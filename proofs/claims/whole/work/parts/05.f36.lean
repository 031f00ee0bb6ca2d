def J_X12_count_76 (N : Nat) (s0 : Int32) (σ : aSt) : Option (Int32 × aSt) := some (s0, σ)
set_option maxRecDepth 20000 in
set_option maxHeartbeats 4000000 in
theorem TJ_X12_count_76 (xs : Nat → Int32) (L : Nat) (N : Nat) (s0 : Int32) (d0 : Value) (d1 : Value) (σ : aSt) (q : Int32 × aSt) (h : J_X12_count_76 N s0 σ = some q) (hG : Gr σ) : Ev xs L 174 76 [d0, d1] [.int s0] σ (wI q.1) q.2 ∧ Gr q.2 := by
  have h : (some (s0, σ)) = some q := h
  cases h
  exact ⟨ev_retI rfl, hG⟩
def F_X12_count (N : Nat) (x1 : Int32) (σ : aSt) : Option (Int32 × aSt) := if x1 = 0 then (some (aI σ 235 37, σ)) else if x1 = 1 then (some (aI σ 235 43, σ)) else if x1 = 2 then (some (aI σ 235 48, σ)) else if x1 = 3 then (some (aI σ 235 52, σ)) else if x1 = 4 then (if (aI σ 235 53) = 0 then J_X12_count_76 N 0 σ else J_X12_count_76 N 1 σ) else if x1 = 5 then (cO (¬ ((aI σ 243 0) < 0 ∨ 14 ≤ (aI σ 243 0).toNatClampNeg)) (some (aI σ 244 (aI σ 243 0).toNatClampNeg, σ))) else if x1 = 6 then (some (aI σ 235 2, σ)) else some ((-1), σ)
set_option maxRecDepth 20000 in
set_option maxHeartbeats 4000000 in
theorem T_X12_count (xs : Nat → Int32) (L : Nat) (N : Nat) (x1 : Int32) (σ : aSt) (q : Int32 × aSt) (h : F_X12_count N x1 σ = some q) (hG : Gr σ) : Cal xs L 174 [.ref 235, .int x1] σ (wI q.1) q.2 ∧ Gr q.2 := by
  have h : (if x1 = 0 then (some (aI σ 235 37, σ)) else if x1 = 1 then (some (aI σ 235 43, σ)) else if x1 = 2 then (some (aI σ 235 48, σ)) else if x1 = 3 then (some (aI σ 235 52, σ)) else if x1 = 4 then (if (aI σ 235 53) = 0 then J_X12_count_76 N 0 σ else J_X12_count_76 N 1 σ) else if x1 = 5 then (cO (¬ ((aI σ 243 0) < 0 ∨ 14 ≤ (aI σ 243 0).toNatClampNeg)) (some (aI σ 244 (aI σ 243 0).toNatClampNeg, σ))) else if x1 = 6 then (some (aI σ 235 2, σ)) else some ((-1), σ)) = some q := h
  show Ev xs L 174 0 [.ref 235, .int x1] [] σ (wI q.1) q.2 ∧ Gr q.2
  refine ev_a (fun he => ev_iload rfl rfl he) ?_
  by_cases hz1 : x1 = 0
  · rw [if_pos hz1] at h
    refine ev_a (fun he => ev_tab (t := 44) rfl (by rw [hz1]; decide) he) ?_
    refine ev_a (fun he => ev_aload rfl rfl he) ?_
    refine ev_a (fun he => ev_getI rfl (gr_ob (n := 80) hG rfl) he) ?_
    cases h
    exact ⟨ev_retI rfl, hG⟩
  · rw [if_neg hz1] at h
    by_cases hz2 : x1 = 1
    · rw [if_pos hz2] at h
      refine ev_a (fun he => ev_tab (t := 49) rfl (by rw [hz2]; decide) he) ?_
      refine ev_a (fun he => ev_aload rfl rfl he) ?_
      refine ev_a (fun he => ev_getI rfl (gr_ob (n := 80) hG rfl) he) ?_
      cases h
      exact ⟨ev_retI rfl, hG⟩
    · rw [if_neg hz2] at h
      by_cases hz3 : x1 = 2
      · rw [if_pos hz3] at h
        refine ev_a (fun he => ev_tab (t := 54) rfl (by rw [hz3]; decide) he) ?_
        refine ev_a (fun he => ev_aload rfl rfl he) ?_
        refine ev_a (fun he => ev_getI rfl (gr_ob (n := 80) hG rfl) he) ?_
        cases h
        exact ⟨ev_retI rfl, hG⟩
      · rw [if_neg hz3] at h
        by_cases hz4 : x1 = 3
        · rw [if_pos hz4] at h
          refine ev_a (fun he => ev_tab (t := 59) rfl (by rw [hz4]; decide) he) ?_
          refine ev_a (fun he => ev_aload rfl rfl he) ?_
          refine ev_a (fun he => ev_getI rfl (gr_ob (n := 80) hG rfl) he) ?_
          cases h
          exact ⟨ev_retI rfl, hG⟩
        · rw [if_neg hz4] at h
          by_cases hz5 : x1 = 4
          · rw [if_pos hz5] at h
            refine ev_a (fun he => ev_tab (t := 64) rfl (by rw [hz5]; decide) he) ?_
            refine ev_a (fun he => ev_aload rfl rfl he) ?_
            refine ev_a (fun he => ev_getI rfl (gr_ob (n := 80) hG rfl) he) ?_
            refine ev_b (c := (aI σ 235 53) = 0) (fun ht hf => ev_ifeq rfl ht hf) (fun hc6 => ?_) (fun hc6 => ?_)
            · rw [if_pos hc6] at h
              refine ev_a (fun he => ev_push rfl he) ?_
              exact TJ_X12_count_76 xs L N 0 (.ref 235) (.int x1) σ q h hG
            · rw [if_neg hc6] at h
              refine ev_a (fun he => ev_push rfl he) ?_
              refine ev_a (fun he => ev_goto rfl he) ?_
              exact TJ_X12_count_76 xs L N 1 (.ref 235) (.int x1) σ q h hG
          · rw [if_neg hz5] at h
            by_cases hz7 : x1 = 5
            · rw [if_pos hz7] at h
              refine ev_a (fun he => ev_tab (t := 77) rfl (by rw [hz7]; decide) he) ?_
              refine ev_a (fun he => ev_aload rfl rfl he) ?_
              refine ev_a (fun he => ev_getR rfl (gr_ob (n := 80) hG rfl) (gr_p (a := 235) (k := 20) (b := 244) hG rfl) he) ?_
              refine ev_a (fun he => ev_aload rfl rfl he) ?_
              refine ev_a (fun he => ev_getR rfl (gr_ob (n := 80) hG rfl) (gr_p (a := 235) (k := 18) (b := 243) hG rfl) he) ?_
              refine ev_a (fun he => ev_push rfl he) ?_
              refine ev_a (fun he => ev_aldI (k := 0) rfl (gr_ar hG rfl) (by decide) (by decide) he) ?_
              obtain ⟨hc9, h⟩ := cO_inv h
              refine ev_a (fun he => ev_aldI (k := (aI σ 243 0).toNatClampNeg) rfl (gr_ar hG rfl) hc9 rfl he) ?_
              cases h
              exact ⟨ev_retI rfl, hG⟩
            · rw [if_neg hz7] at h
              by_cases hz10 : x1 = 6
              · rw [if_pos hz10] at h
                refine ev_a (fun he => ev_tab (t := 89) rfl (by rw [hz10]; decide) he) ?_
                refine ev_a (fun he => ev_aload rfl rfl he) ?_
                refine ev_a (fun he => ev_getI rfl (gr_ob (n := 80) hG rfl) he) ?_
                cases h
                exact ⟨ev_retI rfl, hG⟩
              · rw [if_neg hz10] at h
                refine ev_a (fun he => ev_tab (t := 94) rfl (aSwt_d [0, 1, 2, 3, 4, 5, 6] rfl (by decide) (List.forall_mem_cons.mpr ⟨hz1, (List.forall_mem_cons.mpr ⟨hz2, (List.forall_mem_cons.mpr ⟨hz3, (List.forall_mem_cons.mpr ⟨hz4, (List.forall_mem_cons.mpr ⟨hz5, (List.forall_mem_cons.mpr ⟨hz7, (List.forall_mem_cons.mpr ⟨hz10, (fun _ hm => absurd hm List.not_mem_nil)⟩)⟩)⟩)⟩)⟩)⟩)⟩)) he) ?_
                refine ev_a (fun he => ev_push rfl he) ?_
                cases h
                exact ⟨ev_retI rfl, hG⟩
