def J_X10_beginRule_32 (N : Nat) (σ : aSt) : Option (Unit × aSt) := some ((), σ)
set_option maxRecDepth 20000 in
set_option maxHeartbeats 4000000 in
theorem TJ_X10_beginRule_32 (xs : Nat → Int32) (L : Nat) (N : Nat) (d0 : Value) (d1 : Value) (σ : aSt) (q : Unit × aSt) (h : J_X10_beginRule_32 N  σ = some q) (hG : Gr σ) : Ev xs L 84 32 [d0, d1] [] σ (wV q.1) q.2 ∧ Gr q.2 := by
  have h : (some ((), σ)) = some q := h
  cases h
  exact ⟨ev_retV rfl, hG⟩
def F_X10_beginRule (N : Nat) (x0 : Nat) (x1 : Int32) (σ : aSt) : Option (Unit × aSt) := if 20 ≤ (aI σ x0 0) then J_X10_beginRule_32 N σ else cO (¬ ((aI σ x0 0) < 0 ∨ 20 ≤ (aI σ x0 0).toNatClampNeg)) (lt (aWI σ (x0 + 1) (aI σ x0 0).toNatClampNeg x1) fun σ3 => cO (¬ ((aI σ3 x0 0) < 0 ∨ 20 ≤ (aI σ3 x0 0).toNatClampNeg)) (lt (aWI σ3 (x0 + 2) (aI σ3 x0 0).toNatClampNeg (aI σ3 x0 6)) fun σ7 => J_X10_beginRule_32 N σ7))
set_option maxRecDepth 20000 in
set_option maxHeartbeats 4000000 in
theorem T_X10_beginRule (xs : Nat → Int32) (L : Nat) (N : Nat) (x0 : Nat) (x1 : Int32) (σ : aSt) (q : Unit × aSt) (h : F_X10_beginRule N x0 x1 σ = some q) (hG : Gr σ) (hx0 : isTx x0) : Cal xs L 84 [.ref x0, .int x1] σ (wV q.1) q.2 ∧ Gr q.2 := by
  have h : (if 20 ≤ (aI σ x0 0) then J_X10_beginRule_32 N σ else cO (¬ ((aI σ x0 0) < 0 ∨ 20 ≤ (aI σ x0 0).toNatClampNeg)) (lt (aWI σ (x0 + 1) (aI σ x0 0).toNatClampNeg x1) fun σ3 => cO (¬ ((aI σ3 x0 0) < 0 ∨ 20 ≤ (aI σ3 x0 0).toNatClampNeg)) (lt (aWI σ3 (x0 + 2) (aI σ3 x0 0).toNatClampNeg (aI σ3 x0 6)) fun σ7 => J_X10_beginRule_32 N σ7))) = some q := h
  show Ev xs L 84 0 [.ref x0, .int x1] [] σ (wV q.1) q.2 ∧ Gr q.2
  refine ev_a (fun he => ev_aload rfl rfl he) ?_
  refine ev_a (fun he => ev_getI rfl (gr_ob (n := 8) hG (sh_Tx0 hx0)) he) ?_
  refine ev_a (fun he => ev_push rfl he) ?_
  refine ev_b (c := 20 ≤ (aI σ x0 0)) (fun ht hf => ev_cge rfl ht hf) (fun hc1 => ?_) (fun hc1 => ?_)
  · rw [if_pos hc1] at h
    exact TJ_X10_beginRule_32 xs L N (.ref x0) (.int x1) σ q h hG
  · rw [if_neg hc1] at h
    refine ev_a (fun he => ev_aload rfl rfl he) ?_
    refine ev_a (fun he => ev_getR rfl (gr_ob (n := 8) hG (sh_Tx0 hx0)) (gr_p hG (gf_Tx1 hx0)) he) ?_
    refine ev_a (fun he => ev_aload rfl rfl he) ?_
    refine ev_a (fun he => ev_getI rfl (gr_ob (n := 8) hG (sh_Tx0 hx0)) he) ?_
    refine ev_a (fun he => ev_iload rfl rfl he) ?_
    obtain ⟨hc2, h⟩ := cO_inv h
    obtain ⟨σ3, e4, h⟩ := lt_inv h
    have hG5 : Gr σ3 := gr_wi e4 hG
    refine ev_a (fun he => ev_astI (k := (aI σ x0 0).toNatClampNeg) rfl (gr_ar hG (sh_Tx1 hx0)) hc2 rfl rfl e4 he) ?_
    refine ev_a (fun he => ev_aload rfl rfl he) ?_
    refine ev_a (fun he => ev_getR rfl (gr_ob (n := 8) hG5 (sh_Tx0 hx0)) (gr_p hG5 (gf_Tx2 hx0)) he) ?_
    refine ev_a (fun he => ev_aload rfl rfl he) ?_
    refine ev_a (fun he => ev_getI rfl (gr_ob (n := 8) hG5 (sh_Tx0 hx0)) he) ?_
    refine ev_a (fun he => ev_aload rfl rfl he) ?_
    refine ev_a (fun he => ev_getI rfl (gr_ob (n := 8) hG5 (sh_Tx0 hx0)) he) ?_
    obtain ⟨hc6, h⟩ := cO_inv h
    obtain ⟨σ7, e8, h⟩ := lt_inv h
    have hG9 : Gr σ7 := gr_wi e8 hG5
    refine ev_a (fun he => ev_astI (k := (aI σ3 x0 0).toNatClampNeg) rfl (gr_ar hG5 (sh_Tx2 hx0)) hc6 rfl rfl e8 he) ?_
    exact TJ_X10_beginRule_32 xs L N (.ref x0) (.int x1) σ7 q h hG9
def J_X8_rank_106 (N : Nat) (σ : aSt) : Option (Int32 × aSt) := some (1, σ)
set_option maxRecDepth 20000 in
set_option maxHeartbeats 4000000 in
theorem TJ_X8_rank_106 (xs : Nat → Int32) (L : Nat) (N : Nat) (d0 : Value) (σ : aSt) (q : Int32 × aSt) (h : J_X8_rank_106 N  σ = some q) (hG : Gr σ) : Ev xs L 48 106 [d0] [] σ (wI q.1) q.2 ∧ Gr q.2 := by
  have h : (some (1, σ)) = some q := h
  refine ev_a (fun he => ev_push rfl he) ?_
  cases h
  exact ⟨ev_retI rfl, hG⟩
def J_X8_rank_98 (N : Nat) (σ : aSt) : Option (Int32 × aSt) := some (4, σ)
set_option maxRecDepth 20000 in
set_option maxHeartbeats 4000000 in
theorem TJ_X8_rank_98 (xs : Nat → Int32) (L : Nat) (N : Nat) (d0 : Value) (σ : aSt) (q : Int32 × aSt) (h : J_X8_rank_98 N  σ = some q) (hG : Gr σ) : Ev xs L 48 98 [d0] [] σ (wI q.1) q.2 ∧ Gr q.2 := by
  have h : (some (4, σ)) = some q := h
  refine ev_a (fun he => ev_push rfl he) ?_
  cases h
  exact ⟨ev_retI rfl, hG⟩
def J_X8_rank_100 (N : Nat) (σ : aSt) : Option (Int32 × aSt) := some (3, σ)
set_option maxRecDepth 20000 in
set_option maxHeartbeats 4000000 in
theorem TJ_X8_rank_100 (xs : Nat → Int32) (L : Nat) (N : Nat) (d0 : Value) (σ : aSt) (q : Int32 × aSt) (h : J_X8_rank_100 N  σ = some q) (hG : Gr σ) : Ev xs L 48 100 [d0] [] σ (wI q.1) q.2 ∧ Gr q.2 := by
  have h : (some (3, σ)) = some q := h
  refine ev_a (fun he => ev_push rfl he) ?_
  cases h
  exact ⟨ev_retI rfl, hG⟩
def F_X8_rank (N : Nat) (x0 : Int32) (σ : aSt) : Option (Int32 × aSt) := if x0 = 5 then (some (2, σ)) else if x0 = 17 then (J_X8_rank_98 N σ) else if x0 = 18 then (J_X8_rank_98 N σ) else if x0 = 19 then (some (5, σ)) else if x0 = 20 then (J_X8_rank_100 N σ) else if x0 = 21 then (J_X8_rank_100 N σ) else if x0 = 22 then (J_X8_rank_100 N σ) else if x0 = 23 then (J_X8_rank_100 N σ) else if x0 = 24 then (some (0, σ)) else J_X8_rank_106 N σ
set_option maxRecDepth 20000 in
set_option maxHeartbeats 4000000 in
theorem T_X8_rank (xs : Nat → Int32) (L : Nat) (N : Nat) (x0 : Int32) (σ : aSt) (q : Int32 × aSt) (h : F_X8_rank N x0 σ = some q) (hG : Gr σ) : Cal xs L 48 [.int x0] σ (wI q.1) q.2 ∧ Gr q.2 := by
  have h : (if x0 = 5 then (some (2, σ)) else if x0 = 17 then (J_X8_rank_98 N σ) else if x0 = 18 then (J_X8_rank_98 N σ) else if x0 = 19 then (some (5, σ)) else if x0 = 20 then (J_X8_rank_100 N σ) else if x0 = 21 then (J_X8_rank_100 N σ) else if x0 = 22 then (J_X8_rank_100 N σ) else if x0 = 23 then (J_X8_rank_100 N σ) else if x0 = 24 then (some (0, σ)) else J_X8_rank_106 N σ) = some q := h
  show Ev xs L 48 0 [.int x0] [] σ (wI q.1) q.2 ∧ Gr q.2
  refine ev_a (fun he => ev_iload rfl rfl he) ?_
  by_cases hz1 : x0 = 5
  · rw [if_pos hz1] at h
    refine ev_a (fun he => ev_tab (t := 102) rfl (by rw [hz1]; decide) he) ?_
    refine ev_a (fun he => ev_push rfl he) ?_
    cases h
    exact ⟨ev_retI rfl, hG⟩
  · rw [if_neg hz1] at h
    by_cases hz2 : x0 = 17
    · rw [if_pos hz2] at h
      refine ev_a (fun he => ev_tab (t := 98) rfl (by rw [hz2]; decide) he) ?_
      exact TJ_X8_rank_98 xs L N (.int x0) σ q h hG
    · rw [if_neg hz2] at h
      by_cases hz3 : x0 = 18
      · rw [if_pos hz3] at h
        refine ev_a (fun he => ev_tab (t := 98) rfl (by rw [hz3]; decide) he) ?_
        exact TJ_X8_rank_98 xs L N (.int x0) σ q h hG
      · rw [if_neg hz3] at h
        by_cases hz4 : x0 = 19
        · rw [if_pos hz4] at h
          refine ev_a (fun he => ev_tab (t := 96) rfl (by rw [hz4]; decide) he) ?_
          refine ev_a (fun he => ev_push rfl he) ?_
          cases h
          exact ⟨ev_retI rfl, hG⟩
        · rw [if_neg hz4] at h
          by_cases hz5 : x0 = 20
          · rw [if_pos hz5] at h
            refine ev_a (fun he => ev_tab (t := 100) rfl (by rw [hz5]; decide) he) ?_
            exact TJ_X8_rank_100 xs L N (.int x0) σ q h hG
          · rw [if_neg hz5] at h
            by_cases hz6 : x0 = 21
            · rw [if_pos hz6] at h
              refine ev_a (fun he => ev_tab (t := 100) rfl (by rw [hz6]; decide) he) ?_
              exact TJ_X8_rank_100 xs L N (.int x0) σ q h hG
            · rw [if_neg hz6] at h
              by_cases hz7 : x0 = 22
              · rw [if_pos hz7] at h
                refine ev_a (fun he => ev_tab (t := 100) rfl (by rw [hz7]; decide) he) ?_
                exact TJ_X8_rank_100 xs L N (.int x0) σ q h hG
              · rw [if_neg hz7] at h
                by_cases hz8 : x0 = 23
                · rw [if_pos hz8] at h
                  refine ev_a (fun he => ev_tab (t := 100) rfl (by rw [hz8]; decide) he) ?_
                  exact TJ_X8_rank_100 xs L N (.int x0) σ q h hG
                · rw [if_neg hz8] at h
                  by_cases hz9 : x0 = 24
                  · rw [if_pos hz9] at h
                    refine ev_a (fun he => ev_tab (t := 104) rfl (by rw [hz9]; decide) he) ?_
                    refine ev_a (fun he => ev_push rfl he) ?_
                    cases h
                    exact ⟨ev_retI rfl, hG⟩
                  · rw [if_neg hz9] at h
                    refine ev_a (fun he => ev_tab (t := 106) rfl (aSwt_d [5, 17, 18, 19, 20, 21, 22, 23, 24] rfl (by decide) (List.forall_mem_cons.mpr ⟨hz1, (List.forall_mem_cons.mpr ⟨hz2, (List.forall_mem_cons.mpr ⟨hz3, (List.forall_mem_cons.mpr ⟨hz4, (List.forall_mem_cons.mpr ⟨hz5, (List.forall_mem_cons.mpr ⟨hz6, (List.forall_mem_cons.mpr ⟨hz7, (List.forall_mem_cons.mpr ⟨hz8, (List.forall_mem_cons.mpr ⟨hz9, (fun _ hm => absurd hm List.not_mem_nil)⟩)⟩)⟩)⟩)⟩)⟩)⟩)⟩)⟩)) he) ?_
                    exact TJ_X8_rank_106 xs L N (.int x0) σ q h hG
def J_X10_addCode_30 (N : Nat) (σ : aSt) : Option (Unit × aSt) := some ((), σ)
set_option maxRecDepth 20000 in
set_option maxHeartbeats 4000000 in
theorem TJ_X10_addCode_30 (xs : Nat → Int32) (L : Nat) (N : Nat) (d0 : Value) (d1 : Value) (σ : aSt) (q : Unit × aSt) (h : J_X10_addCode_30 N  σ = some q) (hG : Gr σ) : Ev xs L 85 30 [d0, d1] [] σ (wV q.1) q.2 ∧ Gr q.2 := by
  have h : (some ((), σ)) = some q := h
  cases h
  exact ⟨ev_retV rfl, hG⟩
def F_X10_addCode (N : Nat) (x0 : Nat) (x1 : Int32) (σ : aSt) : Option (Unit × aSt) := if 400 ≤ (aI σ x0 6) then J_X10_addCode_30 N σ else cO (¬ ((aI σ x0 6) < 0 ∨ 400 ≤ (aI σ x0 6).toNatClampNeg)) (lt (aWI σ (x0 + 5) (aI σ x0 6).toNatClampNeg x1) fun σ3 => lt (aWI σ3 x0 6 ((aI σ3 x0 6) + 1)) fun σ6 => J_X10_addCode_30 N σ6)
set_option maxRecDepth 20000 in
set_option maxHeartbeats 4000000 in
theorem T_X10_addCode (xs : Nat → Int32) (L : Nat) (N : Nat) (x0 : Nat) (x1 : Int32) (σ : aSt) (q : Unit × aSt) (h : F_X10_addCode N x0 x1 σ = some q) (hG : Gr σ) (hx0 : isTx x0) : Cal xs L 85 [.ref x0, .int x1] σ (wV q.1) q.2 ∧ Gr q.2 := by
  have h : (if 400 ≤ (aI σ x0 6) then J_X10_addCode_30 N σ else cO (¬ ((aI σ x0 6) < 0 ∨ 400 ≤ (aI σ x0 6).toNatClampNeg)) (lt (aWI σ (x0 + 5) (aI σ x0 6).toNatClampNeg x1) fun σ3 => lt (aWI σ3 x0 6 ((aI σ3 x0 6) + 1)) fun σ6 => J_X10_addCode_30 N σ6)) = some q := h
  show Ev xs L 85 0 [.ref x0, .int x1] [] σ (wV q.1) q.2 ∧ Gr q.2
  refine ev_a (fun he => ev_aload rfl rfl he) ?_
  refine ev_a (fun he => ev_getI rfl (gr_ob (n := 8) hG (sh_Tx0 hx0)) he) ?_
  refine ev_a (fun he => ev_push rfl he) ?_
  refine ev_b (c := 400 ≤ (aI σ x0 6)) (fun ht hf => ev_cge rfl ht hf) (fun hc1 => ?_) (fun hc1 => ?_)
  · rw [if_pos hc1] at h
    exact TJ_X10_addCode_30 xs L N (.ref x0) (.int x1) σ q h hG
  · rw [if_neg hc1] at h
    refine ev_a (fun he => ev_aload rfl rfl he) ?_
    refine ev_a (fun he => ev_getR rfl (gr_ob (n := 8) hG (sh_Tx0 hx0)) (gr_p hG (gf_Tx5 hx0)) he) ?_
    refine ev_a (fun he => ev_aload rfl rfl he) ?_
    refine ev_a (fun he => ev_getI rfl (gr_ob (n := 8) hG (sh_Tx0 hx0)) he) ?_
    refine ev_a (fun he => ev_iload rfl rfl he) ?_
    obtain ⟨hc2, h⟩ := cO_inv h
    obtain ⟨σ3, e4, h⟩ := lt_inv h
    have hG5 : Gr σ3 := gr_wi e4 hG
    refine ev_a (fun he => ev_astI (k := (aI σ x0 6).toNatClampNeg) rfl (gr_ar hG (sh_Tx5 hx0)) hc2 rfl rfl e4 he) ?_
    refine ev_a (fun he => ev_aload rfl rfl he) ?_
    refine ev_a (fun he => ev_dupR rfl he) ?_
    refine ev_a (fun he => ev_getI rfl (gr_ob (n := 8) hG5 (sh_Tx0 hx0)) he) ?_
    refine ev_a (fun he => ev_push rfl he) ?_
    refine ev_a (fun he => ev_bin (z := (aI σ3 x0 6) + 1) rfl rfl he) ?_
    obtain ⟨σ6, e7, h⟩ := lt_inv h
    have hG8 : Gr σ6 := gr_wi e7 hG5
    refine ev_a (fun he => ev_putI rfl (gr_ob (n := 8) hG5 (sh_Tx0 hx0)) e7 he) ?_
    exact TJ_X10_addCode_30 xs L N (.ref x0) (.int x1) σ6 q h hG8
def J_X8_settle_54 (N : Nat) (σ : aSt) : Option (Unit × aSt) := some ((), σ)
set_option maxRecDepth 20000 in
set_option maxHeartbeats 4000000 in
theorem TJ_X8_settle_54 (xs : Nat → Int32) (L : Nat) (N : Nat) (d0 : Value) (d1 : Value) (σ : aSt) (q : Unit × aSt) (h : J_X8_settle_54 N  σ = some q) (hG : Gr σ) : Ev xs L 46 54 [d0, d1] [] σ (wV q.1) q.2 ∧ Gr q.2 := by
  have h : (some ((), σ)) = some q := h
  cases h
  exact ⟨ev_retV rfl, hG⟩
def H_X8_settle_0 (N : Nat) : Nat → Int32 → aSt → Option (Unit × aSt)
  | 0, _, _ => none
  | n + 1, x1, σ => if (aI σ 1 11) ≤ 0 then J_X8_settle_54 N σ else cO (¬ (((aI σ 1 11) - 1) < 0 ∨ 32 ≤ ((aI σ 1 11) - 1).toNatClampNeg)) (oB (F_X8_rank N (aI σ 10 ((aI σ 1 11) - 1).toNatClampNeg) σ) fun y3 σ4 => if y3 < x1 then J_X8_settle_54 N σ4 else lt (aWI σ4 1 11 ((aI σ4 1 11) - 1)) fun σ9 => cO (¬ ((aI σ9 1 11) < 0 ∨ 32 ≤ (aI σ9 1 11).toNatClampNeg)) (oB (F_X10_addCode N (aTxt σ9 1 2) (aI σ9 10 (aI σ9 1 11).toNatClampNeg) σ9) fun y13 σ14 => (H_X8_settle_0 N n) x1 σ14))
set_option maxRecDepth 20000 in
set_option maxHeartbeats 4000000 in
theorem TH_X8_settle_0 (xs : Nat → Int32) (L : Nat) (N : Nat) : ∀ (n : Nat) (x1 : Int32) (σ : aSt) (q : Unit × aSt), H_X8_settle_0 N n x1 σ = some q → Gr σ → Ev xs L 46 0 [.ref 1, .int x1] [] σ (wV q.1) q.2 ∧ Gr q.2 := by
  intro n
  induction n with
  | zero =>
    intro x1 σ q h hG
    exact absurd (show (none : Option (Unit × aSt)) = some q from h) (by simp)
  | succ n ih =>
    intro x1 σ q h hG
    have hk0 : ∀ (x1 : Int32) (σ : aSt) (q : Unit × aSt), H_X8_settle_0 N n x1 σ = some q → Gr σ → Ev xs L 46 0 [.ref 1, .int x1] [] σ (wV q.1) q.2 ∧ Gr q.2 := ih
    have h : (if (aI σ 1 11) ≤ 0 then J_X8_settle_54 N σ else cO (¬ (((aI σ 1 11) - 1) < 0 ∨ 32 ≤ ((aI σ 1 11) - 1).toNatClampNeg)) (oB (F_X8_rank N (aI σ 10 ((aI σ 1 11) - 1).toNatClampNeg) σ) fun y3 σ4 => if y3 < x1 then J_X8_settle_54 N σ4 else lt (aWI σ4 1 11 ((aI σ4 1 11) - 1)) fun σ9 => cO (¬ ((aI σ9 1 11) < 0 ∨ 32 ≤ (aI σ9 1 11).toNatClampNeg)) (oB (F_X10_addCode N (aTxt σ9 1 2) (aI σ9 10 (aI σ9 1 11).toNatClampNeg) σ9) fun y13 σ14 => (H_X8_settle_0 N n) x1 σ14))) = some q := h
    refine ev_a (fun he => ev_aload rfl rfl he) ?_
    refine ev_a (fun he => ev_getI rfl (gr_ob (n := 12) hG rfl) he) ?_
    refine ev_b (c := (aI σ 1 11) ≤ 0) (fun ht hf => ev_ifle rfl ht hf) (fun hc1 => ?_) (fun hc1 => ?_)
    · rw [if_pos hc1] at h
      exact TJ_X8_settle_54 xs L N (.ref 1) (.int x1) σ q h hG
    · rw [if_neg hc1] at h
      refine ev_a (fun he => ev_aload rfl rfl he) ?_
      refine ev_a (fun he => ev_getR rfl (gr_ob (n := 12) hG rfl) (gr_p (a := 1) (k := 10) (b := 10) hG rfl) he) ?_
      refine ev_a (fun he => ev_aload rfl rfl he) ?_
      refine ev_a (fun he => ev_getI rfl (gr_ob (n := 12) hG rfl) he) ?_
      refine ev_a (fun he => ev_push rfl he) ?_
      refine ev_a (fun he => ev_bin (z := (aI σ 1 11) - 1) rfl rfl he) ?_
      obtain ⟨hc2, h⟩ := cO_inv h
      refine ev_a (fun he => ev_aldI (k := ((aI σ 1 11) - 1).toNatClampNeg) rfl (gr_ar hG rfl) hc2 rfl he) ?_
      obtain ⟨y3, σ4, h5, h⟩ := oB_inv h
      obtain ⟨c6, hG7⟩ := T_X8_rank xs L N (aI σ 10 ((aI σ 1 11) - 1).toNatClampNeg) σ (y3, σ4) h5 hG
      refine ev_a (fun he => ev_callS (as := [.int (aI σ 10 ((aI σ 1 11) - 1).toNatClampNeg)]) rfl rfl rfl rfl (Nat.le_of_ble_eq_true rfl) (Nat.le_of_ble_eq_true rfl) c6 he) ?_
      refine ev_a (fun he => ev_iload rfl rfl he) ?_
      refine ev_b (c := y3 < x1) (fun ht hf => ev_clt rfl ht hf) (fun hc8 => ?_) (fun hc8 => ?_)
      · rw [if_pos hc8] at h
        exact TJ_X8_settle_54 xs L N (.ref 1) (.int x1) σ4 q h hG7
      · rw [if_neg hc8] at h
        refine ev_a (fun he => ev_aload rfl rfl he) ?_
        refine ev_a (fun he => ev_dupR rfl he) ?_
        refine ev_a (fun he => ev_getI rfl (gr_ob (n := 12) hG7 rfl) he) ?_
        refine ev_a (fun he => ev_push rfl he) ?_
        refine ev_a (fun he => ev_bin (z := (aI σ4 1 11) - 1) rfl rfl he) ?_
        obtain ⟨σ9, e10, h⟩ := lt_inv h
        have hG11 : Gr σ9 := gr_wi e10 hG7
        refine ev_a (fun he => ev_putI rfl (gr_ob (n := 12) hG7 rfl) e10 he) ?_
        refine ev_a (fun he => ev_aload rfl rfl he) ?_
        refine ev_a (fun he => ev_getR rfl (gr_ob (n := 12) hG11 rfl) (gr_tx (a := 1) (k := 2) hG11 (by decide)).1 he) ?_
        refine ev_a (fun he => ev_aload rfl rfl he) ?_
        refine ev_a (fun he => ev_getR rfl (gr_ob (n := 12) hG11 rfl) (gr_p (a := 1) (k := 10) (b := 10) hG11 rfl) he) ?_
        refine ev_a (fun he => ev_aload rfl rfl he) ?_
        refine ev_a (fun he => ev_getI rfl (gr_ob (n := 12) hG11 rfl) he) ?_
        obtain ⟨hc12, h⟩ := cO_inv h
        refine ev_a (fun he => ev_aldI (k := (aI σ9 1 11).toNatClampNeg) rfl (gr_ar hG11 rfl) hc12 rfl he) ?_
        obtain ⟨y13, σ14, h15, h⟩ := oB_inv h
        obtain ⟨c16, hG17⟩ := T_X10_addCode xs L N (aTxt σ9 1 2) (aI σ9 10 (aI σ9 1 11).toNatClampNeg) σ9 (y13, σ14) h15 hG11 (gr_tx (a := 1) (k := 2) hG11 (by decide)).2
        refine ev_a (fun he => ev_callV (as := [.int (aI σ9 10 (aI σ9 1 11).toNatClampNeg)]) rfl (gr_ob (n := 8) hG11 (sh_Tx0 (gr_tx (a := 1) (k := 2) hG11 (by decide)).2)) rfl rfl rfl (Nat.le_of_ble_eq_true rfl) (Nat.le_of_ble_eq_true rfl) c16 he) ?_
        refine ev_a (fun he => ev_goto rfl he) ?_
        exact hk0 x1 σ14 q h hG17
def F_X8_settle (N : Nat) (x1 : Int32) (σ : aSt) : Option (Unit × aSt) := H_X8_settle_0 N N x1 σ
set_option maxRecDepth 20000 in
set_option maxHeartbeats 4000000 in
theorem T_X8_settle (xs : Nat → Int32) (L : Nat) (N : Nat) (x1 : Int32) (σ : aSt) (q : Unit × aSt) (h : F_X8_settle N x1 σ = some q) (hG : Gr σ) : Cal xs L 46 [.ref 1, .int x1] σ (wV q.1) q.2 ∧ Gr q.2 := by
  have h : (H_X8_settle_0 N N x1 σ) = some q := h
  show Ev xs L 46 0 [.ref 1, .int x1] [] σ (wV q.1) q.2 ∧ Gr q.2
  exact TH_X8_settle_0 xs L N N x1 σ q h hG
def J_X8_dropOpen_17 (N : Nat) (σ : aSt) : Option (Unit × aSt) := some ((), σ)
set_option maxRecDepth 20000 in
set_option maxHeartbeats 4000000 in
theorem TJ_X8_dropOpen_17 (xs : Nat → Int32) (L : Nat) (N : Nat) (d0 : Value) (σ : aSt) (q : Unit × aSt) (h : J_X8_dropOpen_17 N  σ = some q) (hG : Gr σ) : Ev xs L 47 17 [d0] [] σ (wV q.1) q.2 ∧ Gr q.2 := by
  have h : (some ((), σ)) = some q := h
  cases h
  exact ⟨ev_retV rfl, hG⟩
def F_X8_dropOpen (N : Nat) (σ : aSt) : Option (Unit × aSt) := if (aI σ 1 11) ≤ 0 then J_X8_dropOpen_17 N σ else lt (aWI σ 1 11 ((aI σ 1 11) - 1)) fun σ2 => J_X8_dropOpen_17 N σ2
set_option maxRecDepth 20000 in
set_option maxHeartbeats 4000000 in
theorem T_X8_dropOpen (xs : Nat → Int32) (L : Nat) (N : Nat) (σ : aSt) (q : Unit × aSt) (h : F_X8_dropOpen N σ = some q) (hG : Gr σ) : Cal xs L 47 [.ref 1] σ (wV q.1) q.2 ∧ Gr q.2 := by
  have h : (if (aI σ 1 11) ≤ 0 then J_X8_dropOpen_17 N σ else lt (aWI σ 1 11 ((aI σ 1 11) - 1)) fun σ2 => J_X8_dropOpen_17 N σ2) = some q := h
  show Ev xs L 47 0 [.ref 1] [] σ (wV q.1) q.2 ∧ Gr q.2
  refine ev_a (fun he => ev_aload rfl rfl he) ?_
  refine ev_a (fun he => ev_getI rfl (gr_ob (n := 12) hG rfl) he) ?_
  refine ev_b (c := (aI σ 1 11) ≤ 0) (fun ht hf => ev_ifle rfl ht hf) (fun hc1 => ?_) (fun hc1 => ?_)
  · rw [if_pos hc1] at h
    exact TJ_X8_dropOpen_17 xs L N (.ref 1) σ q h hG
  · rw [if_neg hc1] at h
    refine ev_a (fun he => ev_aload rfl rfl he) ?_
    refine ev_a (fun he => ev_dupR rfl he) ?_
    refine ev_a (fun he => ev_getI rfl (gr_ob (n := 12) hG rfl) he) ?_
    refine ev_a (fun he => ev_push rfl he) ?_
    refine ev_a (fun he => ev_bin (z := (aI σ 1 11) - 1) rfl rfl he) ?_
    obtain ⟨σ2, e3, h⟩ := lt_inv h
    have hG4 : Gr σ2 := gr_wi e3 hG
    refine ev_a (fun he => ev_putI rfl (gr_ob (n := 12) hG rfl) e3 he) ?_
    exact TJ_X8_dropOpen_17 xs L N (.ref 1) σ2 q h hG4
def J_X10_endValue_22 (N : Nat) (σ : aSt) : Option (Unit × aSt) := some ((), σ)
set_option maxRecDepth 20000 in
set_option maxHeartbeats 4000000 in
theorem TJ_X10_endValue_22 (xs : Nat → Int32) (L : Nat) (N : Nat) (d0 : Value) (σ : aSt) (q : Unit × aSt) (h : J_X10_endValue_22 N  σ = some q) (hG : Gr σ) : Ev xs L 86 22 [d0] [] σ (wV q.1) q.2 ∧ Gr q.2 := by
  have h : (some ((), σ)) = some q := h
  cases h
  exact ⟨ev_retV rfl, hG⟩
def F_X10_endValue (N : Nat) (x0 : Nat) (σ : aSt) : Option (Unit × aSt) := if 20 ≤ (aI σ x0 0) then J_X10_endValue_22 N σ else cO (¬ ((aI σ x0 0) < 0 ∨ 20 ≤ (aI σ x0 0).toNatClampNeg)) (lt (aWI σ (x0 + 3) (aI σ x0 0).toNatClampNeg (aI σ x0 6)) fun σ3 => J_X10_endValue_22 N σ3)
set_option maxRecDepth 20000 in
set_option maxHeartbeats 4000000 in
theorem T_X10_endValue (xs : Nat → Int32) (L : Nat) (N : Nat) (x0 : Nat) (σ : aSt) (q : Unit × aSt) (h : F_X10_endValue N x0 σ = some q) (hG : Gr σ) (hx0 : isTx x0) : Cal xs L 86 [.ref x0] σ (wV q.1) q.2 ∧ Gr q.2 := by
  have h : (if 20 ≤ (aI σ x0 0) then J_X10_endValue_22 N σ else cO (¬ ((aI σ x0 0) < 0 ∨ 20 ≤ (aI σ x0 0).toNatClampNeg)) (lt (aWI σ (x0 + 3) (aI σ x0 0).toNatClampNeg (aI σ x0 6)) fun σ3 => J_X10_endValue_22 N σ3)) = some q := h
  show Ev xs L 86 0 [.ref x0] [] σ (wV q.1) q.2 ∧ Gr q.2
  refine ev_a (fun he => ev_aload rfl rfl he) ?_
  refine ev_a (fun he => ev_getI rfl (gr_ob (n := 8) hG (sh_Tx0 hx0)) he) ?_
  refine ev_a (fun he => ev_push rfl he) ?_
  refine ev_b (c := 20 ≤ (aI σ x0 0)) (fun ht hf => ev_cge rfl ht hf) (fun hc1 => ?_) (fun hc1 => ?_)
  · rw [if_pos hc1] at h
    exact TJ_X10_endValue_22 xs L N (.ref x0) σ q h hG
  · rw [if_neg hc1] at h
    refine ev_a (fun he => ev_aload rfl rfl he) ?_
    refine ev_a (fun he => ev_getR rfl (gr_ob (n := 8) hG (sh_Tx0 hx0)) (gr_p hG (gf_Tx3 hx0)) he) ?_
    refine ev_a (fun he => ev_aload rfl rfl he) ?_
    refine ev_a (fun he => ev_getI rfl (gr_ob (n := 8) hG (sh_Tx0 hx0)) he) ?_
    refine ev_a (fun he => ev_aload rfl rfl he) ?_
    refine ev_a (fun he => ev_getI rfl (gr_ob (n := 8) hG (sh_Tx0 hx0)) he) ?_
    obtain ⟨hc2, h⟩ := cO_inv h
    obtain ⟨σ3, e4, h⟩ := lt_inv h
    have hG5 : Gr σ3 := gr_wi e4 hG
    refine ev_a (fun he => ev_astI (k := (aI σ x0 0).toNatClampNeg) rfl (gr_ar hG (sh_Tx3 hx0)) hc2 rfl rfl e4 he) ?_
    exact TJ_X10_endValue_22 xs L N (.ref x0) σ3 q h hG5
def J_X10_endRule_32 (N : Nat) (σ : aSt) : Option (Unit × aSt) := some ((), σ)
set_option maxRecDepth 20000 in
set_option maxHeartbeats 4000000 in
theorem TJ_X10_endRule_32 (xs : Nat → Int32) (L : Nat) (N : Nat) (d0 : Value) (σ : aSt) (q : Unit × aSt) (h : J_X10_endRule_32 N  σ = some q) (hG : Gr σ) : Ev xs L 87 32 [d0] [] σ (wV q.1) q.2 ∧ Gr q.2 := by
  have h : (some ((), σ)) = some q := h
  cases h
  exact ⟨ev_retV rfl, hG⟩
def F_X10_endRule (N : Nat) (x0 : Nat) (σ : aSt) : Option (Unit × aSt) := if 20 ≤ (aI σ x0 0) then J_X10_endRule_32 N σ else cO (¬ ((aI σ x0 0) < 0 ∨ 20 ≤ (aI σ x0 0).toNatClampNeg)) (lt (aWI σ (x0 + 4) (aI σ x0 0).toNatClampNeg (aI σ x0 6)) fun σ3 => lt (aWI σ3 x0 0 ((aI σ3 x0 0) + 1)) fun σ6 => J_X10_endRule_32 N σ6)
set_option maxRecDepth 20000 in
set_option maxHeartbeats 4000000 in
theorem T_X10_endRule (xs : Nat → Int32) (L : Nat) (N : Nat) (x0 : Nat) (σ : aSt) (q : Unit × aSt) (h : F_X10_endRule N x0 σ = some q) (hG : Gr σ) (hx0 : isTx x0) : Cal xs L 87 [.ref x0] σ (wV q.1) q.2 ∧ Gr q.2 := by
  have h : (if 20 ≤ (aI σ x0 0) then J_X10_endRule_32 N σ else cO (¬ ((aI σ x0 0) < 0 ∨ 20 ≤ (aI σ x0 0).toNatClampNeg)) (lt (aWI σ (x0 + 4) (aI σ x0 0).toNatClampNeg (aI σ x0 6)) fun σ3 => lt (aWI σ3 x0 0 ((aI σ3 x0 0) + 1)) fun σ6 => J_X10_endRule_32 N σ6)) = some q := h
  show Ev xs L 87 0 [.ref x0] [] σ (wV q.1) q.2 ∧ Gr q.2
  refine ev_a (fun he => ev_aload rfl rfl he) ?_
  refine ev_a (fun he => ev_getI rfl (gr_ob (n := 8) hG (sh_Tx0 hx0)) he) ?_
  refine ev_a (fun he => ev_push rfl he) ?_
  refine ev_b (c := 20 ≤ (aI σ x0 0)) (fun ht hf => ev_cge rfl ht hf) (fun hc1 => ?_) (fun hc1 => ?_)
  · rw [if_pos hc1] at h
    exact TJ_X10_endRule_32 xs L N (.ref x0) σ q h hG
  · rw [if_neg hc1] at h
    refine ev_a (fun he => ev_aload rfl rfl he) ?_
    refine ev_a (fun he => ev_getR rfl (gr_ob (n := 8) hG (sh_Tx0 hx0)) (gr_p hG (gf_Tx4 hx0)) he) ?_
    refine ev_a (fun he => ev_aload rfl rfl he) ?_
    refine ev_a (fun he => ev_getI rfl (gr_ob (n := 8) hG (sh_Tx0 hx0)) he) ?_
    refine ev_a (fun he => ev_aload rfl rfl he) ?_
    refine ev_a (fun he => ev_getI rfl (gr_ob (n := 8) hG (sh_Tx0 hx0)) he) ?_
    obtain ⟨hc2, h⟩ := cO_inv h
    obtain ⟨σ3, e4, h⟩ := lt_inv h
    have hG5 : Gr σ3 := gr_wi e4 hG
    refine ev_a (fun he => ev_astI (k := (aI σ x0 0).toNatClampNeg) rfl (gr_ar hG (sh_Tx4 hx0)) hc2 rfl rfl e4 he) ?_
    refine ev_a (fun he => ev_aload rfl rfl he) ?_
    refine ev_a (fun he => ev_dupR rfl he) ?_
    refine ev_a (fun he => ev_getI rfl (gr_ob (n := 8) hG5 (sh_Tx0 hx0)) he) ?_
    refine ev_a (fun he => ev_push rfl he) ?_
    refine ev_a (fun he => ev_bin (z := (aI σ3 x0 0) + 1) rfl rfl he) ?_
    obtain ⟨σ6, e7, h⟩ := lt_inv h
    have hG8 : Gr σ6 := gr_wi e7 hG5
    refine ev_a (fun he => ev_putI rfl (gr_ob (n := 8) hG5 (sh_Tx0 hx0)) e7 he) ?_
    exact TJ_X10_endRule_32 xs L N (.ref x0) σ6 q h hG8
def J_X8_pend_32 (N : Nat) (σ : aSt) : Option (Unit × aSt) := some ((), σ)
set_option maxRecDepth 20000 in
set_option maxHeartbeats 4000000 in
theorem TJ_X8_pend_32 (xs : Nat → Int32) (L : Nat) (N : Nat) (d0 : Value) (d1 : Value) (σ : aSt) (q : Unit × aSt) (h : J_X8_pend_32 N  σ = some q) (hG : Gr σ) : Ev xs L 45 32 [d0, d1] [] σ (wV q.1) q.2 ∧ Gr q.2 := by
  have h : (some ((), σ)) = some q := h
  cases h
  exact ⟨ev_retV rfl, hG⟩
def F_X8_pend (N : Nat) (x1 : Int32) (σ : aSt) : Option (Unit × aSt) := if (Int32.ofNat 32) ≤ (aI σ 1 11) then J_X8_pend_32 N σ else cO (¬ ((aI σ 1 11) < 0 ∨ 32 ≤ (aI σ 1 11).toNatClampNeg)) (lt (aWI σ 10 (aI σ 1 11).toNatClampNeg x1) fun σ3 => lt (aWI σ3 1 11 ((aI σ3 1 11) + 1)) fun σ6 => J_X8_pend_32 N σ6)
set_option maxRecDepth 20000 in
set_option maxHeartbeats 4000000 in
theorem T_X8_pend (xs : Nat → Int32) (L : Nat) (N : Nat) (x1 : Int32) (σ : aSt) (q : Unit × aSt) (h : F_X8_pend N x1 σ = some q) (hG : Gr σ) : Cal xs L 45 [.ref 1, .int x1] σ (wV q.1) q.2 ∧ Gr q.2 := by
  have h : (if (Int32.ofNat 32) ≤ (aI σ 1 11) then J_X8_pend_32 N σ else cO (¬ ((aI σ 1 11) < 0 ∨ 32 ≤ (aI σ 1 11).toNatClampNeg)) (lt (aWI σ 10 (aI σ 1 11).toNatClampNeg x1) fun σ3 => lt (aWI σ3 1 11 ((aI σ3 1 11) + 1)) fun σ6 => J_X8_pend_32 N σ6)) = some q := h
  show Ev xs L 45 0 [.ref 1, .int x1] [] σ (wV q.1) q.2 ∧ Gr q.2
  refine ev_a (fun he => ev_aload rfl rfl he) ?_
  refine ev_a (fun he => ev_getI rfl (gr_ob (n := 12) hG rfl) he) ?_
  refine ev_a (fun he => ev_aload rfl rfl he) ?_
  refine ev_a (fun he => ev_getR rfl (gr_ob (n := 12) hG rfl) (gr_p (a := 1) (k := 10) (b := 10) hG rfl) he) ?_
  refine ev_a (fun he => ev_len rfl (gr_ar hG rfl) (by decide) he) ?_
  refine ev_b (c := (Int32.ofNat 32) ≤ (aI σ 1 11)) (fun ht hf => ev_cge rfl ht hf) (fun hc1 => ?_) (fun hc1 => ?_)
  · rw [if_pos hc1] at h
    exact TJ_X8_pend_32 xs L N (.ref 1) (.int x1) σ q h hG
  · rw [if_neg hc1] at h
    refine ev_a (fun he => ev_aload rfl rfl he) ?_
    refine ev_a (fun he => ev_getR rfl (gr_ob (n := 12) hG rfl) (gr_p (a := 1) (k := 10) (b := 10) hG rfl) he) ?_
    refine ev_a (fun he => ev_aload rfl rfl he) ?_
    refine ev_a (fun he => ev_getI rfl (gr_ob (n := 12) hG rfl) he) ?_
    refine ev_a (fun he => ev_iload rfl rfl he) ?_
    obtain ⟨hc2, h⟩ := cO_inv h
    obtain ⟨σ3, e4, h⟩ := lt_inv h
    have hG5 : Gr σ3 := gr_wi e4 hG
    refine ev_a (fun he => ev_astI (k := (aI σ 1 11).toNatClampNeg) rfl (gr_ar hG rfl) hc2 rfl rfl e4 he) ?_
    refine ev_a (fun he => ev_aload rfl rfl he) ?_
    refine ev_a (fun he => ev_dupR rfl he) ?_
    refine ev_a (fun he => ev_getI rfl (gr_ob (n := 12) hG5 rfl) he) ?_
    refine ev_a (fun he => ev_push rfl he) ?_
    refine ev_a (fun he => ev_bin (z := (aI σ3 1 11) + 1) rfl rfl he) ?_
    obtain ⟨σ6, e7, h⟩ := lt_inv h
    have hG8 : Gr σ6 := gr_wi e7 hG5
    refine ev_a (fun he => ev_putI rfl (gr_ob (n := 12) hG5 rfl) e7 he) ?_
    exact TJ_X8_pend_32 xs L N (.ref 1) (.int x1) σ6 q h hG8
