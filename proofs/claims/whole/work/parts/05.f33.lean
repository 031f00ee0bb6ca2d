def J_X12_told_15 (N : Nat) (σ : aSt) : Option (Int32 × aSt) := some ((-1), σ)
set_option maxRecDepth 20000 in
set_option maxHeartbeats 4000000 in
theorem TJ_X12_told_15 (xs : Nat → Int32) (L : Nat) (N : Nat) (d0 : Value) (d1 : Value) (d2 : Value) (σ : aSt) (q : Int32 × aSt) (h : J_X12_told_15 N  σ = some q) (hG : Gr σ) : Ev xs L 163 15 [d0, d1, d2] [] σ (wI q.1) q.2 ∧ Gr q.2 := by
  have h : (some ((-1), σ)) = some q := h
  refine ev_a (fun he => ev_push rfl he) ?_
  cases h
  exact ⟨ev_retI rfl, hG⟩
def F_X12_told (N : Nat) (x1 : Int32) (x2 : Int32) (σ : aSt) : Option (Int32 × aSt) := oB (F_X12_isLot N x1 σ) fun y1 σ2 => if y1 = 0 then J_X12_told_15 N σ2 else if (aI σ2 235 53) ≠ 0 then if x2 = 0 then (cO (¬ (x1 < 0 ∨ 24 ≤ x1.toNatClampNeg)) (some (aI σ2 287 x1.toNatClampNeg, σ2))) else if x2 = 1 then (cO (¬ (x1 < 0 ∨ 24 ≤ x1.toNatClampNeg)) (some (aI σ2 288 x1.toNatClampNeg, σ2))) else if x2 = 2 then (cO (¬ (x1 < 0 ∨ 24 ≤ x1.toNatClampNeg)) (some (aI σ2 289 x1.toNatClampNeg, σ2))) else if x2 = 3 then (cO (¬ (x1 < 0 ∨ 24 ≤ x1.toNatClampNeg)) (some (aI σ2 290 x1.toNatClampNeg, σ2))) else if x2 = 4 then (cO (¬ (x1 < 0 ∨ 24 ≤ x1.toNatClampNeg)) (some (aI σ2 291 x1.toNatClampNeg, σ2))) else if x2 = 5 then (cO (¬ (x1 < 0 ∨ 24 ≤ x1.toNatClampNeg)) (some (aI σ2 292 x1.toNatClampNeg, σ2))) else if x2 = 6 then (cO (¬ (x1 < 0 ∨ 24 ≤ x1.toNatClampNeg)) (some (aI σ2 293 x1.toNatClampNeg, σ2))) else if x2 = 7 then (oB (F_X12_loads N σ2) fun y23 σ24 => cO (¬ (x1 < 0 ∨ 24 ≤ x1.toNatClampNeg)) (some (aI σ24 294 x1.toNatClampNeg, σ24))) else some ((-1), σ2) else J_X12_told_15 N σ2
set_option maxRecDepth 20000 in
set_option maxHeartbeats 4000000 in
theorem T_X12_told (xs : Nat → Int32) (L : Nat) (N : Nat) (x1 : Int32) (x2 : Int32) (σ : aSt) (q : Int32 × aSt) (h : F_X12_told N x1 x2 σ = some q) (hG : Gr σ) : Cal xs L 163 [.ref 235, .int x1, .int x2] σ (wI q.1) q.2 ∧ Gr q.2 := by
  have h : (oB (F_X12_isLot N x1 σ) fun y1 σ2 => if y1 = 0 then J_X12_told_15 N σ2 else if (aI σ2 235 53) ≠ 0 then if x2 = 0 then (cO (¬ (x1 < 0 ∨ 24 ≤ x1.toNatClampNeg)) (some (aI σ2 287 x1.toNatClampNeg, σ2))) else if x2 = 1 then (cO (¬ (x1 < 0 ∨ 24 ≤ x1.toNatClampNeg)) (some (aI σ2 288 x1.toNatClampNeg, σ2))) else if x2 = 2 then (cO (¬ (x1 < 0 ∨ 24 ≤ x1.toNatClampNeg)) (some (aI σ2 289 x1.toNatClampNeg, σ2))) else if x2 = 3 then (cO (¬ (x1 < 0 ∨ 24 ≤ x1.toNatClampNeg)) (some (aI σ2 290 x1.toNatClampNeg, σ2))) else if x2 = 4 then (cO (¬ (x1 < 0 ∨ 24 ≤ x1.toNatClampNeg)) (some (aI σ2 291 x1.toNatClampNeg, σ2))) else if x2 = 5 then (cO (¬ (x1 < 0 ∨ 24 ≤ x1.toNatClampNeg)) (some (aI σ2 292 x1.toNatClampNeg, σ2))) else if x2 = 6 then (cO (¬ (x1 < 0 ∨ 24 ≤ x1.toNatClampNeg)) (some (aI σ2 293 x1.toNatClampNeg, σ2))) else if x2 = 7 then (oB (F_X12_loads N σ2) fun y23 σ24 => cO (¬ (x1 < 0 ∨ 24 ≤ x1.toNatClampNeg)) (some (aI σ24 294 x1.toNatClampNeg, σ24))) else some ((-1), σ2) else J_X12_told_15 N σ2) = some q := h
  show Ev xs L 163 0 [.ref 235, .int x1, .int x2] [] σ (wI q.1) q.2 ∧ Gr q.2
  refine ev_a (fun he => ev_aload rfl rfl he) ?_
  refine ev_a (fun he => ev_iload rfl rfl he) ?_
  obtain ⟨y1, σ2, h3, h⟩ := oB_inv h
  obtain ⟨c4, hG5⟩ := T_X12_isLot xs L N x1 σ (y1, σ2) h3 hG
  refine ev_a (fun he => ev_callV (as := [.int x1]) rfl (gr_ob (n := 80) hG rfl) rfl rfl rfl (Nat.le_of_ble_eq_true rfl) (Nat.le_of_ble_eq_true rfl) c4 he) ?_
  refine ev_b (c := y1 = 0) (fun ht hf => ev_ifeq rfl ht hf) (fun hc6 => ?_) (fun hc6 => ?_)
  · rw [if_pos hc6] at h
    exact TJ_X12_told_15 xs L N (.ref 235) (.int x1) (.int x2) σ2 q h hG5
  · rw [if_neg hc6] at h
    refine ev_a (fun he => ev_aload rfl rfl he) ?_
    refine ev_a (fun he => ev_getI rfl (gr_ob (n := 80) hG5 rfl) he) ?_
    refine ev_b (c := (aI σ2 235 53) ≠ 0) (fun ht hf => ev_ifne rfl ht hf) (fun hc7 => ?_) (fun hc7 => ?_)
    · rw [if_pos hc7] at h
      refine ev_a (fun he => ev_iload rfl rfl he) ?_
      by_cases hz8 : x2 = 0
      · rw [if_pos hz8] at h
        refine ev_a (fun he => ev_tab (t := 64) rfl (by rw [hz8]; decide) he) ?_
        refine ev_a (fun he => ev_aload rfl rfl he) ?_
        refine ev_a (fun he => ev_getR rfl (gr_ob (n := 80) hG5 rfl) (gr_p (a := 235) (k := 70) (b := 287) hG5 rfl) he) ?_
        refine ev_a (fun he => ev_iload rfl rfl he) ?_
        obtain ⟨hc9, h⟩ := cO_inv h
        refine ev_a (fun he => ev_aldI (k := x1.toNatClampNeg) rfl (gr_ar hG5 rfl) hc9 rfl he) ?_
        cases h
        exact ⟨ev_retI rfl, hG5⟩
      · rw [if_neg hz8] at h
        by_cases hz10 : x2 = 1
        · rw [if_pos hz10] at h
          refine ev_a (fun he => ev_tab (t := 71) rfl (by rw [hz10]; decide) he) ?_
          refine ev_a (fun he => ev_aload rfl rfl he) ?_
          refine ev_a (fun he => ev_getR rfl (gr_ob (n := 80) hG5 rfl) (gr_p (a := 235) (k := 71) (b := 288) hG5 rfl) he) ?_
          refine ev_a (fun he => ev_iload rfl rfl he) ?_
          obtain ⟨hc11, h⟩ := cO_inv h
          refine ev_a (fun he => ev_aldI (k := x1.toNatClampNeg) rfl (gr_ar hG5 rfl) hc11 rfl he) ?_
          cases h
          exact ⟨ev_retI rfl, hG5⟩
        · rw [if_neg hz10] at h
          by_cases hz12 : x2 = 2
          · rw [if_pos hz12] at h
            refine ev_a (fun he => ev_tab (t := 78) rfl (by rw [hz12]; decide) he) ?_
            refine ev_a (fun he => ev_aload rfl rfl he) ?_
            refine ev_a (fun he => ev_getR rfl (gr_ob (n := 80) hG5 rfl) (gr_p (a := 235) (k := 72) (b := 289) hG5 rfl) he) ?_
            refine ev_a (fun he => ev_iload rfl rfl he) ?_
            obtain ⟨hc13, h⟩ := cO_inv h
            refine ev_a (fun he => ev_aldI (k := x1.toNatClampNeg) rfl (gr_ar hG5 rfl) hc13 rfl he) ?_
            cases h
            exact ⟨ev_retI rfl, hG5⟩
          · rw [if_neg hz12] at h
            by_cases hz14 : x2 = 3
            · rw [if_pos hz14] at h
              refine ev_a (fun he => ev_tab (t := 85) rfl (by rw [hz14]; decide) he) ?_
              refine ev_a (fun he => ev_aload rfl rfl he) ?_
              refine ev_a (fun he => ev_getR rfl (gr_ob (n := 80) hG5 rfl) (gr_p (a := 235) (k := 73) (b := 290) hG5 rfl) he) ?_
              refine ev_a (fun he => ev_iload rfl rfl he) ?_
              obtain ⟨hc15, h⟩ := cO_inv h
              refine ev_a (fun he => ev_aldI (k := x1.toNatClampNeg) rfl (gr_ar hG5 rfl) hc15 rfl he) ?_
              cases h
              exact ⟨ev_retI rfl, hG5⟩
            · rw [if_neg hz14] at h
              by_cases hz16 : x2 = 4
              · rw [if_pos hz16] at h
                refine ev_a (fun he => ev_tab (t := 92) rfl (by rw [hz16]; decide) he) ?_
                refine ev_a (fun he => ev_aload rfl rfl he) ?_
                refine ev_a (fun he => ev_getR rfl (gr_ob (n := 80) hG5 rfl) (gr_p (a := 235) (k := 74) (b := 291) hG5 rfl) he) ?_
                refine ev_a (fun he => ev_iload rfl rfl he) ?_
                obtain ⟨hc17, h⟩ := cO_inv h
                refine ev_a (fun he => ev_aldI (k := x1.toNatClampNeg) rfl (gr_ar hG5 rfl) hc17 rfl he) ?_
                cases h
                exact ⟨ev_retI rfl, hG5⟩
              · rw [if_neg hz16] at h
                by_cases hz18 : x2 = 5
                · rw [if_pos hz18] at h
                  refine ev_a (fun he => ev_tab (t := 99) rfl (by rw [hz18]; decide) he) ?_
                  refine ev_a (fun he => ev_aload rfl rfl he) ?_
                  refine ev_a (fun he => ev_getR rfl (gr_ob (n := 80) hG5 rfl) (gr_p (a := 235) (k := 75) (b := 292) hG5 rfl) he) ?_
                  refine ev_a (fun he => ev_iload rfl rfl he) ?_
                  obtain ⟨hc19, h⟩ := cO_inv h
                  refine ev_a (fun he => ev_aldI (k := x1.toNatClampNeg) rfl (gr_ar hG5 rfl) hc19 rfl he) ?_
                  cases h
                  exact ⟨ev_retI rfl, hG5⟩
                · rw [if_neg hz18] at h
                  by_cases hz20 : x2 = 6
                  · rw [if_pos hz20] at h
                    refine ev_a (fun he => ev_tab (t := 106) rfl (by rw [hz20]; decide) he) ?_
                    refine ev_a (fun he => ev_aload rfl rfl he) ?_
                    refine ev_a (fun he => ev_getR rfl (gr_ob (n := 80) hG5 rfl) (gr_p (a := 235) (k := 76) (b := 293) hG5 rfl) he) ?_
                    refine ev_a (fun he => ev_iload rfl rfl he) ?_
                    obtain ⟨hc21, h⟩ := cO_inv h
                    refine ev_a (fun he => ev_aldI (k := x1.toNatClampNeg) rfl (gr_ar hG5 rfl) hc21 rfl he) ?_
                    cases h
                    exact ⟨ev_retI rfl, hG5⟩
                  · rw [if_neg hz20] at h
                    by_cases hz22 : x2 = 7
                    · rw [if_pos hz22] at h
                      refine ev_a (fun he => ev_tab (t := 113) rfl (by rw [hz22]; decide) he) ?_
                      refine ev_a (fun he => ev_aload rfl rfl he) ?_
                      obtain ⟨y23, σ24, h25, h⟩ := oB_inv h
                      obtain ⟨c26, hG27⟩ := T_X12_loads xs L N σ2 (y23, σ24) h25 hG5
                      refine ev_a (fun he => ev_callV (as := []) rfl (gr_ob (n := 80) hG5 rfl) rfl rfl rfl (Nat.le_of_ble_eq_true rfl) (Nat.le_of_ble_eq_true rfl) c26 he) ?_
                      refine ev_a (fun he => ev_aload rfl rfl he) ?_
                      refine ev_a (fun he => ev_getR rfl (gr_ob (n := 80) hG27 rfl) (gr_p (a := 235) (k := 77) (b := 294) hG27 rfl) he) ?_
                      refine ev_a (fun he => ev_iload rfl rfl he) ?_
                      obtain ⟨hc28, h⟩ := cO_inv h
                      refine ev_a (fun he => ev_aldI (k := x1.toNatClampNeg) rfl (gr_ar hG27 rfl) hc28 rfl he) ?_
                      cases h
                      exact ⟨ev_retI rfl, hG27⟩
                    · rw [if_neg hz22] at h
                      refine ev_a (fun he => ev_tab (t := 124) rfl (aSwt_d [0, 1, 2, 3, 4, 5, 6, 7] rfl (by decide) (List.forall_mem_cons.mpr ⟨hz8, (List.forall_mem_cons.mpr ⟨hz10, (List.forall_mem_cons.mpr ⟨hz12, (List.forall_mem_cons.mpr ⟨hz14, (List.forall_mem_cons.mpr ⟨hz16, (List.forall_mem_cons.mpr ⟨hz18, (List.forall_mem_cons.mpr ⟨hz20, (List.forall_mem_cons.mpr ⟨hz22, (fun _ hm => absurd hm List.not_mem_nil)⟩)⟩)⟩)⟩)⟩)⟩)⟩)⟩)) he) ?_
                      refine ev_a (fun he => ev_push rfl he) ?_
                      cases h
                      exact ⟨ev_retI rfl, hG5⟩
    · rw [if_neg hc7] at h
      exact TJ_X12_told_15 xs L N (.ref 235) (.int x1) (.int x2) σ2 q h hG5
def H_X12_stands_28 (N : Nat) : Nat → Int32 → aSt → Option (Unit × aSt)
  | 0, _, _ => none
  | n + 1, x1, σ => if 6 ≤ x1 then some ((), σ) else cO (¬ (x1 < 0 ∨ 6 ≤ x1.toNatClampNeg)) (cO (¬ (x1 < 0 ∨ 6 ≤ x1.toNatClampNeg)) (lt (aWI σ 277 x1.toNatClampNeg (aI σ 272 x1.toNatClampNeg)) fun σ4 => (H_X12_stands_28 N n) (x1 + 1) σ4))
set_option maxRecDepth 20000 in
set_option maxHeartbeats 4000000 in
theorem TH_X12_stands_28 (xs : Nat → Int32) (L : Nat) (N : Nat) : ∀ (n : Nat) (x1 : Int32) (σ : aSt) (q : Unit × aSt), H_X12_stands_28 N n x1 σ = some q → Gr σ → Ev xs L 164 28 [.ref 235, .int x1] [] σ (wV q.1) q.2 ∧ Gr q.2 := by
  intro n
  induction n with
  | zero =>
    intro x1 σ q h hG
    exact absurd (show (none : Option (Unit × aSt)) = some q from h) (by simp)
  | succ n ih =>
    intro x1 σ q h hG
    have hk28 : ∀ (x1 : Int32) (σ : aSt) (q : Unit × aSt), H_X12_stands_28 N n x1 σ = some q → Gr σ → Ev xs L 164 28 [.ref 235, .int x1] [] σ (wV q.1) q.2 ∧ Gr q.2 := ih
    have h : (if 6 ≤ x1 then some ((), σ) else cO (¬ (x1 < 0 ∨ 6 ≤ x1.toNatClampNeg)) (cO (¬ (x1 < 0 ∨ 6 ≤ x1.toNatClampNeg)) (lt (aWI σ 277 x1.toNatClampNeg (aI σ 272 x1.toNatClampNeg)) fun σ4 => (H_X12_stands_28 N n) (x1 + 1) σ4))) = some q := h
    refine ev_a (fun he => ev_iload rfl rfl he) ?_
    refine ev_a (fun he => ev_push rfl he) ?_
    refine ev_b (c := 6 ≤ x1) (fun ht hf => ev_cge rfl ht hf) (fun hc1 => ?_) (fun hc1 => ?_)
    · rw [if_pos hc1] at h
      cases h
      exact ⟨ev_retV rfl, hG⟩
    · rw [if_neg hc1] at h
      refine ev_a (fun he => ev_aload rfl rfl he) ?_
      refine ev_a (fun he => ev_getR rfl (gr_ob (n := 80) hG rfl) (gr_p (a := 235) (k := 60) (b := 277) hG rfl) he) ?_
      refine ev_a (fun he => ev_iload rfl rfl he) ?_
      refine ev_a (fun he => ev_aload rfl rfl he) ?_
      refine ev_a (fun he => ev_getR rfl (gr_ob (n := 80) hG rfl) (gr_p (a := 235) (k := 55) (b := 272) hG rfl) he) ?_
      refine ev_a (fun he => ev_iload rfl rfl he) ?_
      obtain ⟨hc2, h⟩ := cO_inv h
      refine ev_a (fun he => ev_aldI (k := x1.toNatClampNeg) rfl (gr_ar hG rfl) hc2 rfl he) ?_
      obtain ⟨hc3, h⟩ := cO_inv h
      obtain ⟨σ4, e5, h⟩ := lt_inv h
      have hG6 : Gr σ4 := gr_wi e5 hG
      refine ev_a (fun he => ev_astI (k := x1.toNatClampNeg) rfl (gr_ar hG rfl) hc3 rfl rfl e5 he) ?_
      refine ev_a (fun he => ev_iinc (ls' := [.ref 235, .int (x1 + 1)]) rfl rfl rfl (Nat.le_of_ble_eq_true rfl) rfl he) ?_
      refine ev_a (fun he => ev_goto rfl he) ?_
      exact hk28 (x1 + 1) σ4 q h hG6
def H_X12_stands_2 (N : Nat) : Nat → Int32 → aSt → Option (Unit × aSt)
  | 0, _, _ => none
  | n + 1, x1, σ => if 36 ≤ x1 then H_X12_stands_28 N N 0 σ else cO (¬ (x1 < 0 ∨ 36 ≤ x1.toNatClampNeg)) (cO (¬ (x1 < 0 ∨ 36 ≤ x1.toNatClampNeg)) (lt (aWI σ 276 x1.toNatClampNeg (aI σ 271 x1.toNatClampNeg)) fun σ10 => (H_X12_stands_2 N n) (x1 + 1) σ10))
set_option maxRecDepth 20000 in
set_option maxHeartbeats 4000000 in
theorem TH_X12_stands_2 (xs : Nat → Int32) (L : Nat) (N : Nat) : ∀ (n : Nat) (x1 : Int32) (σ : aSt) (q : Unit × aSt), H_X12_stands_2 N n x1 σ = some q → Gr σ → Ev xs L 164 2 [.ref 235, .int x1] [] σ (wV q.1) q.2 ∧ Gr q.2 := by
  intro n
  induction n with
  | zero =>
    intro x1 σ q h hG
    exact absurd (show (none : Option (Unit × aSt)) = some q from h) (by simp)
  | succ n ih =>
    intro x1 σ q h hG
    have hk2 : ∀ (x1 : Int32) (σ : aSt) (q : Unit × aSt), H_X12_stands_2 N n x1 σ = some q → Gr σ → Ev xs L 164 2 [.ref 235, .int x1] [] σ (wV q.1) q.2 ∧ Gr q.2 := ih
    have h : (if 36 ≤ x1 then H_X12_stands_28 N N 0 σ else cO (¬ (x1 < 0 ∨ 36 ≤ x1.toNatClampNeg)) (cO (¬ (x1 < 0 ∨ 36 ≤ x1.toNatClampNeg)) (lt (aWI σ 276 x1.toNatClampNeg (aI σ 271 x1.toNatClampNeg)) fun σ10 => (H_X12_stands_2 N n) (x1 + 1) σ10))) = some q := h
    refine ev_a (fun he => ev_iload rfl rfl he) ?_
    refine ev_a (fun he => ev_push rfl he) ?_
    refine ev_b (c := 36 ≤ x1) (fun ht hf => ev_cge rfl ht hf) (fun hc7 => ?_) (fun hc7 => ?_)
    · rw [if_pos hc7] at h
      refine ev_a (fun he => ev_push rfl he) ?_
      refine ev_a (fun he => ev_istore (ls' := [.ref 235, .int 0]) rfl (Nat.le_of_ble_eq_true rfl) rfl he) ?_
      exact TH_X12_stands_28 xs L N N 0 σ q h hG
    · rw [if_neg hc7] at h
      refine ev_a (fun he => ev_aload rfl rfl he) ?_
      refine ev_a (fun he => ev_getR rfl (gr_ob (n := 80) hG rfl) (gr_p (a := 235) (k := 59) (b := 276) hG rfl) he) ?_
      refine ev_a (fun he => ev_iload rfl rfl he) ?_
      refine ev_a (fun he => ev_aload rfl rfl he) ?_
      refine ev_a (fun he => ev_getR rfl (gr_ob (n := 80) hG rfl) (gr_p (a := 235) (k := 54) (b := 271) hG rfl) he) ?_
      refine ev_a (fun he => ev_iload rfl rfl he) ?_
      obtain ⟨hc8, h⟩ := cO_inv h
      refine ev_a (fun he => ev_aldI (k := x1.toNatClampNeg) rfl (gr_ar hG rfl) hc8 rfl he) ?_
      obtain ⟨hc9, h⟩ := cO_inv h
      obtain ⟨σ10, e11, h⟩ := lt_inv h
      have hG12 : Gr σ10 := gr_wi e11 hG
      refine ev_a (fun he => ev_astI (k := x1.toNatClampNeg) rfl (gr_ar hG rfl) hc9 rfl rfl e11 he) ?_
      refine ev_a (fun he => ev_iinc (ls' := [.ref 235, .int (x1 + 1)]) rfl rfl rfl (Nat.le_of_ble_eq_true rfl) rfl he) ?_
      refine ev_a (fun he => ev_goto rfl he) ?_
      exact hk2 (x1 + 1) σ10 q h hG12
def F_X12_stands (N : Nat) (σ : aSt) : Option (Unit × aSt) := H_X12_stands_2 N N 0 σ
set_option maxRecDepth 20000 in
set_option maxHeartbeats 4000000 in
theorem T_X12_stands (xs : Nat → Int32) (L : Nat) (N : Nat) (σ : aSt) (q : Unit × aSt) (h : F_X12_stands N σ = some q) (hG : Gr σ) : Cal xs L 164 [.ref 235] σ (wV q.1) q.2 ∧ Gr q.2 := by
  have h : (H_X12_stands_2 N N 0 σ) = some q := h
  show Ev xs L 164 0 [.ref 235, aU] [] σ (wV q.1) q.2 ∧ Gr q.2
  refine ev_a (fun he => ev_push rfl he) ?_
  refine ev_a (fun he => ev_istore (ls' := [.ref 235, .int 0]) rfl (Nat.le_of_ble_eq_true rfl) rfl he) ?_
  exact TH_X12_stands_2 xs L N N 0 σ q h hG
def J_X12_limit_16 (N : Nat) (σ : aSt) : Option (Int32 × aSt) := some ((-1), σ)
set_option maxRecDepth 20000 in
set_option maxHeartbeats 4000000 in
theorem TJ_X12_limit_16 (xs : Nat → Int32) (L : Nat) (N : Nat) (d0 : Value) (d1 : Value) (d2 : Value) (σ : aSt) (q : Int32 × aSt) (h : J_X12_limit_16 N  σ = some q) (hG : Gr σ) : Ev xs L 165 16 [d0, d1, d2] [] σ (wI q.1) q.2 ∧ Gr q.2 := by
  have h : (some ((-1), σ)) = some q := h
  refine ev_a (fun he => ev_push rfl he) ?_
  cases h
  exact ⟨ev_retI rfl, hG⟩
def F_X12_limit (N : Nat) (x1 : Int32) (x2 : Int32) (σ : aSt) : Option (Int32 × aSt) := oB (F_X12_isBuyer N x1 σ) fun y1 σ2 => if y1 = 0 then J_X12_limit_16 N σ2 else oB (F_X12_isLot N x2 σ2) fun y7 σ8 => if y7 ≠ 0 then oB (F_X12_stands N σ8) fun y13 σ14 => oB (F_X12_limitOf N x1 x2 σ14) fun y18 σ19 => some (y18, σ19) else J_X12_limit_16 N σ8
set_option maxRecDepth 20000 in
set_option maxHeartbeats 4000000 in
theorem T_X12_limit (xs : Nat → Int32) (L : Nat) (N : Nat) (x1 : Int32) (x2 : Int32) (σ : aSt) (q : Int32 × aSt) (h : F_X12_limit N x1 x2 σ = some q) (hG : Gr σ) : Cal xs L 165 [.ref 235, .int x1, .int x2] σ (wI q.1) q.2 ∧ Gr q.2 := by
  have h : (oB (F_X12_isBuyer N x1 σ) fun y1 σ2 => if y1 = 0 then J_X12_limit_16 N σ2 else oB (F_X12_isLot N x2 σ2) fun y7 σ8 => if y7 ≠ 0 then oB (F_X12_stands N σ8) fun y13 σ14 => oB (F_X12_limitOf N x1 x2 σ14) fun y18 σ19 => some (y18, σ19) else J_X12_limit_16 N σ8) = some q := h
  show Ev xs L 165 0 [.ref 235, .int x1, .int x2] [] σ (wI q.1) q.2 ∧ Gr q.2
  refine ev_a (fun he => ev_aload rfl rfl he) ?_
  refine ev_a (fun he => ev_iload rfl rfl he) ?_
  obtain ⟨y1, σ2, h3, h⟩ := oB_inv h
  obtain ⟨c4, hG5⟩ := T_X12_isBuyer xs L N x1 σ (y1, σ2) h3 hG
  refine ev_a (fun he => ev_callV (as := [.int x1]) rfl (gr_ob (n := 80) hG rfl) rfl rfl rfl (Nat.le_of_ble_eq_true rfl) (Nat.le_of_ble_eq_true rfl) c4 he) ?_
  refine ev_b (c := y1 = 0) (fun ht hf => ev_ifeq rfl ht hf) (fun hc6 => ?_) (fun hc6 => ?_)
  · rw [if_pos hc6] at h
    exact TJ_X12_limit_16 xs L N (.ref 235) (.int x1) (.int x2) σ2 q h hG5
  · rw [if_neg hc6] at h
    refine ev_a (fun he => ev_aload rfl rfl he) ?_
    refine ev_a (fun he => ev_iload rfl rfl he) ?_
    obtain ⟨y7, σ8, h9, h⟩ := oB_inv h
    obtain ⟨c10, hG11⟩ := T_X12_isLot xs L N x2 σ2 (y7, σ8) h9 hG5
    refine ev_a (fun he => ev_callV (as := [.int x2]) rfl (gr_ob (n := 80) hG5 rfl) rfl rfl rfl (Nat.le_of_ble_eq_true rfl) (Nat.le_of_ble_eq_true rfl) c10 he) ?_
    refine ev_b (c := y7 ≠ 0) (fun ht hf => ev_ifne rfl ht hf) (fun hc12 => ?_) (fun hc12 => ?_)
    · rw [if_pos hc12] at h
      refine ev_a (fun he => ev_aload rfl rfl he) ?_
      obtain ⟨y13, σ14, h15, h⟩ := oB_inv h
      obtain ⟨c16, hG17⟩ := T_X12_stands xs L N σ8 (y13, σ14) h15 hG11
      refine ev_a (fun he => ev_callV (as := []) rfl (gr_ob (n := 80) hG11 rfl) rfl rfl rfl (Nat.le_of_ble_eq_true rfl) (Nat.le_of_ble_eq_true rfl) c16 he) ?_
      refine ev_a (fun he => ev_aload rfl rfl he) ?_
      refine ev_a (fun he => ev_iload rfl rfl he) ?_
      refine ev_a (fun he => ev_iload rfl rfl he) ?_
      obtain ⟨y18, σ19, h20, h⟩ := oB_inv h
      obtain ⟨c21, hG22⟩ := T_X12_limitOf xs L N x1 x2 σ14 (y18, σ19) h20 hG17
      refine ev_a (fun he => ev_callV (as := [.int x1, .int x2]) rfl (gr_ob (n := 80) hG17 rfl) rfl rfl rfl (Nat.le_of_ble_eq_true rfl) (Nat.le_of_ble_eq_true rfl) c21 he) ?_
      cases h
      exact ⟨ev_retI rfl, hG22⟩
    · rw [if_neg hc12] at h
      exact TJ_X12_limit_16 xs L N (.ref 235) (.int x1) (.int x2) σ8 q h hG11
def J_X12_rule_16 (N : Nat) (σ : aSt) : Option (Int32 × aSt) := some ((-1), σ)
set_option maxRecDepth 20000 in
set_option maxHeartbeats 4000000 in
theorem TJ_X12_rule_16 (xs : Nat → Int32) (L : Nat) (N : Nat) (d0 : Value) (d1 : Value) (d2 : Value) (σ : aSt) (q : Int32 × aSt) (h : J_X12_rule_16 N  σ = some q) (hG : Gr σ) : Ev xs L 166 16 [d0, d1, d2] [] σ (wI q.1) q.2 ∧ Gr q.2 := by
  have h : (some ((-1), σ)) = some q := h
  refine ev_a (fun he => ev_push rfl he) ?_
  cases h
  exact ⟨ev_retI rfl, hG⟩
def F_X12_rule (N : Nat) (x1 : Int32) (x2 : Int32) (σ : aSt) : Option (Int32 × aSt) := oB (F_X12_isBuyer N x1 σ) fun y1 σ2 => if y1 = 0 then J_X12_rule_16 N σ2 else oB (F_X12_isLot N x2 σ2) fun y7 σ8 => if y7 ≠ 0 then oB (F_X12_stands N σ8) fun y13 σ14 => oB (F_X12_asks N x1 x2 σ14) fun y18 σ19 => oB (F_X12_ruleOf N (x1 + 1) 0 σ19) fun y23 σ24 => some (y23, σ24) else J_X12_rule_16 N σ8
set_option maxRecDepth 20000 in
set_option maxHeartbeats 4000000 in
theorem T_X12_rule (xs : Nat → Int32) (L : Nat) (N : Nat) (x1 : Int32) (x2 : Int32) (σ : aSt) (q : Int32 × aSt) (h : F_X12_rule N x1 x2 σ = some q) (hG : Gr σ) : Cal xs L 166 [.ref 235, .int x1, .int x2] σ (wI q.1) q.2 ∧ Gr q.2 := by
  have h : (oB (F_X12_isBuyer N x1 σ) fun y1 σ2 => if y1 = 0 then J_X12_rule_16 N σ2 else oB (F_X12_isLot N x2 σ2) fun y7 σ8 => if y7 ≠ 0 then oB (F_X12_stands N σ8) fun y13 σ14 => oB (F_X12_asks N x1 x2 σ14) fun y18 σ19 => oB (F_X12_ruleOf N (x1 + 1) 0 σ19) fun y23 σ24 => some (y23, σ24) else J_X12_rule_16 N σ8) = some q := h
  show Ev xs L 166 0 [.ref 235, .int x1, .int x2] [] σ (wI q.1) q.2 ∧ Gr q.2
  refine ev_a (fun he => ev_aload rfl rfl he) ?_
  refine ev_a (fun he => ev_iload rfl rfl he) ?_
  obtain ⟨y1, σ2, h3, h⟩ := oB_inv h
  obtain ⟨c4, hG5⟩ := T_X12_isBuyer xs L N x1 σ (y1, σ2) h3 hG
  refine ev_a (fun he => ev_callV (as := [.int x1]) rfl (gr_ob (n := 80) hG rfl) rfl rfl rfl (Nat.le_of_ble_eq_true rfl) (Nat.le_of_ble_eq_true rfl) c4 he) ?_
  refine ev_b (c := y1 = 0) (fun ht hf => ev_ifeq rfl ht hf) (fun hc6 => ?_) (fun hc6 => ?_)
  · rw [if_pos hc6] at h
    exact TJ_X12_rule_16 xs L N (.ref 235) (.int x1) (.int x2) σ2 q h hG5
  · rw [if_neg hc6] at h
    refine ev_a (fun he => ev_aload rfl rfl he) ?_
    refine ev_a (fun he => ev_iload rfl rfl he) ?_
    obtain ⟨y7, σ8, h9, h⟩ := oB_inv h
    obtain ⟨c10, hG11⟩ := T_X12_isLot xs L N x2 σ2 (y7, σ8) h9 hG5
    refine ev_a (fun he => ev_callV (as := [.int x2]) rfl (gr_ob (n := 80) hG5 rfl) rfl rfl rfl (Nat.le_of_ble_eq_true rfl) (Nat.le_of_ble_eq_true rfl) c10 he) ?_
    refine ev_b (c := y7 ≠ 0) (fun ht hf => ev_ifne rfl ht hf) (fun hc12 => ?_) (fun hc12 => ?_)
    · rw [if_pos hc12] at h
      refine ev_a (fun he => ev_aload rfl rfl he) ?_
      obtain ⟨y13, σ14, h15, h⟩ := oB_inv h
      obtain ⟨c16, hG17⟩ := T_X12_stands xs L N σ8 (y13, σ14) h15 hG11
      refine ev_a (fun he => ev_callV (as := []) rfl (gr_ob (n := 80) hG11 rfl) rfl rfl rfl (Nat.le_of_ble_eq_true rfl) (Nat.le_of_ble_eq_true rfl) c16 he) ?_
      refine ev_a (fun he => ev_aload rfl rfl he) ?_
      refine ev_a (fun he => ev_iload rfl rfl he) ?_
      refine ev_a (fun he => ev_iload rfl rfl he) ?_
      obtain ⟨y18, σ19, h20, h⟩ := oB_inv h
      obtain ⟨c21, hG22⟩ := T_X12_asks xs L N x1 x2 σ14 (y18, σ19) h20 hG17
      refine ev_a (fun he => ev_callV (as := [.int x1, .int x2]) rfl (gr_ob (n := 80) hG17 rfl) rfl rfl rfl (Nat.le_of_ble_eq_true rfl) (Nat.le_of_ble_eq_true rfl) c21 he) ?_
      refine ev_a (fun he => ev_aload rfl rfl he) ?_
      refine ev_a (fun he => ev_iload rfl rfl he) ?_
      refine ev_a (fun he => ev_push rfl he) ?_
      refine ev_a (fun he => ev_bin (z := x1 + 1) rfl rfl he) ?_
      refine ev_a (fun he => ev_push rfl he) ?_
      obtain ⟨y23, σ24, h25, h⟩ := oB_inv h
      obtain ⟨c26, hG27⟩ := T_X12_ruleOf xs L N (x1 + 1) 0 σ19 (y23, σ24) h25 hG22
      refine ev_a (fun he => ev_callV (as := [.int (x1 + 1), .int 0]) rfl (gr_ob (n := 80) hG22 rfl) rfl rfl rfl (Nat.le_of_ble_eq_true rfl) (Nat.le_of_ble_eq_true rfl) c26 he) ?_
      cases h
      exact ⟨ev_retI rfl, hG27⟩
    · rw [if_neg hc12] at h
      exact TJ_X12_rule_16 xs L N (.ref 235) (.int x1) (.int x2) σ8 q h hG11
def H_X12_bought_97 (N : Nat) : Nat → Int32 → Int32 → Int32 → aSt → Option (Int32 × aSt)
  | 0, _, _, _, _ => none
  | n + 1, x1, x3, x4, σ => if 6 ≤ x4 then some (x3, σ) else cO (¬ (((6 * x1) + x4) < 0 ∨ 36 ≤ ((6 * x1) + x4).toNatClampNeg)) ((H_X12_bought_97 N n) x1 (x3 + (aI σ 271 ((6 * x1) + x4).toNatClampNeg)) (x4 + 1) σ)
set_option maxRecDepth 20000 in
set_option maxHeartbeats 4000000 in
theorem TH_X12_bought_97 (xs : Nat → Int32) (L : Nat) (N : Nat) : ∀ (n : Nat) (x1 : Int32) (x3 : Int32) (x4 : Int32) (d2 : Value) (σ : aSt) (q : Int32 × aSt), H_X12_bought_97 N n x1 x3 x4 σ = some q → Gr σ → Ev xs L 167 97 [.ref 235, .int x1, d2, .int x3, .int x4] [] σ (wI q.1) q.2 ∧ Gr q.2 := by
  intro n
  induction n with
  | zero =>
    intro x1 x3 x4 d2 σ q h hG
    exact absurd (show (none : Option (Int32 × aSt)) = some q from h) (by simp)
  | succ n ih =>
    intro x1 x3 x4 d2 σ q h hG
    have hk97 : ∀ (x1 : Int32) (x3 : Int32) (x4 : Int32) (d2 : Value) (σ : aSt) (q : Int32 × aSt), H_X12_bought_97 N n x1 x3 x4 σ = some q → Gr σ → Ev xs L 167 97 [.ref 235, .int x1, d2, .int x3, .int x4] [] σ (wI q.1) q.2 ∧ Gr q.2 := ih
    have h : (if 6 ≤ x4 then some (x3, σ) else cO (¬ (((6 * x1) + x4) < 0 ∨ 36 ≤ ((6 * x1) + x4).toNatClampNeg)) ((H_X12_bought_97 N n) x1 (x3 + (aI σ 271 ((6 * x1) + x4).toNatClampNeg)) (x4 + 1) σ)) = some q := h
    refine ev_a (fun he => ev_iload rfl rfl he) ?_
    refine ev_a (fun he => ev_push rfl he) ?_
    refine ev_b (c := 6 ≤ x4) (fun ht hf => ev_cge rfl ht hf) (fun hc1 => ?_) (fun hc1 => ?_)
    · rw [if_pos hc1] at h
      refine ev_a (fun he => ev_iload rfl rfl he) ?_
      cases h
      exact ⟨ev_retI rfl, hG⟩
    · rw [if_neg hc1] at h
      refine ev_a (fun he => ev_iload rfl rfl he) ?_
      refine ev_a (fun he => ev_aload rfl rfl he) ?_
      refine ev_a (fun he => ev_getR rfl (gr_ob (n := 80) hG rfl) (gr_p (a := 235) (k := 54) (b := 271) hG rfl) he) ?_
      refine ev_a (fun he => ev_push rfl he) ?_
      refine ev_a (fun he => ev_iload rfl rfl he) ?_
      refine ev_a (fun he => ev_bin (z := 6 * x1) rfl rfl he) ?_
      refine ev_a (fun he => ev_iload rfl rfl he) ?_
      refine ev_a (fun he => ev_bin (z := (6 * x1) + x4) rfl rfl he) ?_
      obtain ⟨hc2, h⟩ := cO_inv h
      refine ev_a (fun he => ev_aldI (k := ((6 * x1) + x4).toNatClampNeg) rfl (gr_ar hG rfl) hc2 rfl he) ?_
      refine ev_a (fun he => ev_bin (z := x3 + (aI σ 271 ((6 * x1) + x4).toNatClampNeg)) rfl rfl he) ?_
      refine ev_a (fun he => ev_istore (ls' := [.ref 235, .int x1, (aKl d2), .int (x3 + (aI σ 271 ((6 * x1) + x4).toNatClampNeg)), .int x4]) rfl (Nat.le_of_ble_eq_true rfl) rfl he) ?_
      refine ev_a (fun he => ev_iinc (ls' := [.ref 235, .int x1, (aKl d2), .int (x3 + (aI σ 271 ((6 * x1) + x4).toNatClampNeg)), .int (x4 + 1)]) rfl rfl rfl (Nat.le_of_ble_eq_true rfl) rfl he) ?_
      refine ev_a (fun he => ev_goto rfl he) ?_
      exact hk97 x1 (x3 + (aI σ 271 ((6 * x1) + x4).toNatClampNeg)) (x4 + 1) ((aKl d2)) σ q h hG
def J_X12_bought_63 (N : Nat) (x1 : Int32) (x2 : Int32) (σ : aSt) : Option (Int32 × aSt) := if x2 = 0 then (H_X12_bought_97 N N x1 0 0 σ) else if x2 = 1 then (cO (¬ (x1 < 0 ∨ 6 ≤ x1.toNatClampNeg)) (cO (¬ (x1 < 0 ∨ 6 ≤ x1.toNatClampNeg)) (some ((aI σ 265 x1.toNatClampNeg) - (aI σ 272 x1.toNatClampNeg), σ)))) else if x2 = 2 then (cO (¬ (x1 < 0 ∨ 6 ≤ x1.toNatClampNeg)) (some (aI σ 273 x1.toNatClampNeg, σ))) else some ((-1), σ)
set_option maxRecDepth 20000 in
set_option maxHeartbeats 4000000 in
theorem TJ_X12_bought_63 (xs : Nat → Int32) (L : Nat) (N : Nat) (x1 : Int32) (x2 : Int32) (d3 : Value) (d4 : Value) (σ : aSt) (q : Int32 × aSt) (h : J_X12_bought_63 N x1 x2 σ = some q) (hG : Gr σ) : Ev xs L 167 63 [.ref 235, .int x1, .int x2, d3, d4] [] σ (wI q.1) q.2 ∧ Gr q.2 := by
  have h : (if x2 = 0 then (H_X12_bought_97 N N x1 0 0 σ) else if x2 = 1 then (cO (¬ (x1 < 0 ∨ 6 ≤ x1.toNatClampNeg)) (cO (¬ (x1 < 0 ∨ 6 ≤ x1.toNatClampNeg)) (some ((aI σ 265 x1.toNatClampNeg) - (aI σ 272 x1.toNatClampNeg), σ)))) else if x2 = 2 then (cO (¬ (x1 < 0 ∨ 6 ≤ x1.toNatClampNeg)) (some (aI σ 273 x1.toNatClampNeg, σ))) else some ((-1), σ)) = some q := h
  refine ev_a (fun he => ev_iload rfl rfl he) ?_
  by_cases hz3 : x2 = 0
  · rw [if_pos hz3] at h
    refine ev_a (fun he => ev_tab (t := 92) rfl (by rw [hz3]; decide) he) ?_
    refine ev_a (fun he => ev_push rfl he) ?_
    refine ev_a (fun he => ev_istore (ls' := [.ref 235, .int x1, .int x2, .int 0, d4]) rfl (Nat.le_of_ble_eq_true rfl) rfl he) ?_
    refine ev_a (fun he => ev_push rfl he) ?_
    refine ev_a (fun he => ev_istore (ls' := [.ref 235, .int x1, .int x2, .int 0, .int 0]) rfl (Nat.le_of_ble_eq_true rfl) rfl he) ?_
    exact TH_X12_bought_97 xs L N N x1 0 0 (.int x2) σ q h hG
  · rw [if_neg hz3] at h
    by_cases hz4 : x2 = 1
    · rw [if_pos hz4] at h
      refine ev_a (fun he => ev_tab (t := 127) rfl (by rw [hz4]; decide) he) ?_
      refine ev_a (fun he => ev_aload rfl rfl he) ?_
      refine ev_a (fun he => ev_getR rfl (gr_ob (n := 80) hG rfl) (gr_p (a := 235) (k := 45) (b := 265) hG rfl) he) ?_
      refine ev_a (fun he => ev_iload rfl rfl he) ?_
      obtain ⟨hc5, h⟩ := cO_inv h
      refine ev_a (fun he => ev_aldI (k := x1.toNatClampNeg) rfl (gr_ar hG rfl) hc5 rfl he) ?_
      refine ev_a (fun he => ev_aload rfl rfl he) ?_
      refine ev_a (fun he => ev_getR rfl (gr_ob (n := 80) hG rfl) (gr_p (a := 235) (k := 55) (b := 272) hG rfl) he) ?_
      refine ev_a (fun he => ev_iload rfl rfl he) ?_
      obtain ⟨hc6, h⟩ := cO_inv h
      refine ev_a (fun he => ev_aldI (k := x1.toNatClampNeg) rfl (gr_ar hG rfl) hc6 rfl he) ?_
      refine ev_a (fun he => ev_bin (z := (aI σ 265 x1.toNatClampNeg) - (aI σ 272 x1.toNatClampNeg)) rfl rfl he) ?_
      cases h
      exact ⟨ev_retI rfl, hG⟩
    · rw [if_neg hz4] at h
      by_cases hz7 : x2 = 2
      · rw [if_pos hz7] at h
        refine ev_a (fun he => ev_tab (t := 141) rfl (by rw [hz7]; decide) he) ?_
        refine ev_a (fun he => ev_aload rfl rfl he) ?_
        refine ev_a (fun he => ev_getR rfl (gr_ob (n := 80) hG rfl) (gr_p (a := 235) (k := 56) (b := 273) hG rfl) he) ?_
        refine ev_a (fun he => ev_iload rfl rfl he) ?_
        obtain ⟨hc8, h⟩ := cO_inv h
        refine ev_a (fun he => ev_aldI (k := x1.toNatClampNeg) rfl (gr_ar hG rfl) hc8 rfl he) ?_
        cases h
        exact ⟨ev_retI rfl, hG⟩
      · rw [if_neg hz7] at h
        refine ev_a (fun he => ev_tab (t := 148) rfl (aSwt_d [0, 1, 2] rfl (by decide) (List.forall_mem_cons.mpr ⟨hz3, (List.forall_mem_cons.mpr ⟨hz4, (List.forall_mem_cons.mpr ⟨hz7, (fun _ hm => absurd hm List.not_mem_nil)⟩)⟩)⟩)) he) ?_
        refine ev_a (fun he => ev_push rfl he) ?_
        cases h
        exact ⟨ev_retI rfl, hG⟩
def J_X12_bought_41 (N : Nat) (x1 : Int32) (x2 : Int32) (σ : aSt) : Option (Int32 × aSt) := if x2 < 20 then J_X12_bought_63 N x1 x2 σ else if 26 ≤ x2 then J_X12_bought_63 N x1 x2 σ else oB (F_X12_left N x1 (x2 - 20) σ) fun y11 σ12 => some (y11, σ12)
set_option maxRecDepth 20000 in
set_option maxHeartbeats 4000000 in
theorem TJ_X12_bought_41 (xs : Nat → Int32) (L : Nat) (N : Nat) (x1 : Int32) (x2 : Int32) (d3 : Value) (d4 : Value) (σ : aSt) (q : Int32 × aSt) (h : J_X12_bought_41 N x1 x2 σ = some q) (hG : Gr σ) : Ev xs L 167 41 [.ref 235, .int x1, .int x2, d3, d4] [] σ (wI q.1) q.2 ∧ Gr q.2 := by
  have h : (if x2 < 20 then J_X12_bought_63 N x1 x2 σ else if 26 ≤ x2 then J_X12_bought_63 N x1 x2 σ else oB (F_X12_left N x1 (x2 - 20) σ) fun y11 σ12 => some (y11, σ12)) = some q := h
  refine ev_a (fun he => ev_iload rfl rfl he) ?_
  refine ev_a (fun he => ev_push rfl he) ?_
  refine ev_b (c := x2 < 20) (fun ht hf => ev_clt rfl ht hf) (fun hc9 => ?_) (fun hc9 => ?_)
  · rw [if_pos hc9] at h
    exact TJ_X12_bought_63 xs L N x1 x2 (d3) (d4) σ q h hG
  · rw [if_neg hc9] at h
    refine ev_a (fun he => ev_iload rfl rfl he) ?_
    refine ev_a (fun he => ev_push rfl he) ?_
    refine ev_b (c := 26 ≤ x2) (fun ht hf => ev_cge rfl ht hf) (fun hc10 => ?_) (fun hc10 => ?_)
    · rw [if_pos hc10] at h
      exact TJ_X12_bought_63 xs L N x1 x2 (d3) (d4) σ q h hG
    · rw [if_neg hc10] at h
      refine ev_a (fun he => ev_aload rfl rfl he) ?_
      refine ev_a (fun he => ev_iload rfl rfl he) ?_
      refine ev_a (fun he => ev_iload rfl rfl he) ?_
      refine ev_a (fun he => ev_push rfl he) ?_
      refine ev_a (fun he => ev_bin (z := x2 - 20) rfl rfl he) ?_
      obtain ⟨y11, σ12, h13, h⟩ := oB_inv h
      obtain ⟨c14, hG15⟩ := T_X12_left xs L N x1 (x2 - 20) σ (y11, σ12) h13 hG
      refine ev_a (fun he => ev_callV (as := [.int x1, .int (x2 - 20)]) rfl (gr_ob (n := 80) hG rfl) rfl rfl rfl (Nat.le_of_ble_eq_true rfl) (Nat.le_of_ble_eq_true rfl) c14 he) ?_
      cases h
      exact ⟨ev_retI rfl, hG15⟩
def F_X12_bought (N : Nat) (x1 : Int32) (x2 : Int32) (σ : aSt) : Option (Int32 × aSt) := oB (F_X12_isBuyer N x1 σ) fun y16 σ17 => if y16 ≠ 0 then oB (F_X12_stands N σ17) fun y22 σ23 => if x2 < 10 then J_X12_bought_41 N x1 x2 σ23 else if 16 ≤ x2 then J_X12_bought_41 N x1 x2 σ23 else cO (¬ ((((6 * x1) + x2) - 10) < 0 ∨ 36 ≤ (((6 * x1) + x2) - 10).toNatClampNeg)) (some (aI σ23 271 (((6 * x1) + x2) - 10).toNatClampNeg, σ23)) else some ((-1), σ17)
set_option maxRecDepth 20000 in
set_option maxHeartbeats 4000000 in
theorem T_X12_bought (xs : Nat → Int32) (L : Nat) (N : Nat) (x1 : Int32) (x2 : Int32) (σ : aSt) (q : Int32 × aSt) (h : F_X12_bought N x1 x2 σ = some q) (hG : Gr σ) : Cal xs L 167 [.ref 235, .int x1, .int x2] σ (wI q.1) q.2 ∧ Gr q.2 := by
  have h : (oB (F_X12_isBuyer N x1 σ) fun y16 σ17 => if y16 ≠ 0 then oB (F_X12_stands N σ17) fun y22 σ23 => if x2 < 10 then J_X12_bought_41 N x1 x2 σ23 else if 16 ≤ x2 then J_X12_bought_41 N x1 x2 σ23 else cO (¬ ((((6 * x1) + x2) - 10) < 0 ∨ 36 ≤ (((6 * x1) + x2) - 10).toNatClampNeg)) (some (aI σ23 271 (((6 * x1) + x2) - 10).toNatClampNeg, σ23)) else some ((-1), σ17)) = some q := h
  show Ev xs L 167 0 [.ref 235, .int x1, .int x2, aU, aU] [] σ (wI q.1) q.2 ∧ Gr q.2
  refine ev_a (fun he => ev_aload rfl rfl he) ?_
  refine ev_a (fun he => ev_iload rfl rfl he) ?_
  obtain ⟨y16, σ17, h18, h⟩ := oB_inv h
  obtain ⟨c19, hG20⟩ := T_X12_isBuyer xs L N x1 σ (y16, σ17) h18 hG
  refine ev_a (fun he => ev_callV (as := [.int x1]) rfl (gr_ob (n := 80) hG rfl) rfl rfl rfl (Nat.le_of_ble_eq_true rfl) (Nat.le_of_ble_eq_true rfl) c19 he) ?_
  refine ev_b (c := y16 ≠ 0) (fun ht hf => ev_ifne rfl ht hf) (fun hc21 => ?_) (fun hc21 => ?_)
  · rw [if_pos hc21] at h
    refine ev_a (fun he => ev_aload rfl rfl he) ?_
    obtain ⟨y22, σ23, h24, h⟩ := oB_inv h
    obtain ⟨c25, hG26⟩ := T_X12_stands xs L N σ17 (y22, σ23) h24 hG20
    refine ev_a (fun he => ev_callV (as := []) rfl (gr_ob (n := 80) hG20 rfl) rfl rfl rfl (Nat.le_of_ble_eq_true rfl) (Nat.le_of_ble_eq_true rfl) c25 he) ?_
    refine ev_a (fun he => ev_iload rfl rfl he) ?_
    refine ev_a (fun he => ev_push rfl he) ?_
    refine ev_b (c := x2 < 10) (fun ht hf => ev_clt rfl ht hf) (fun hc27 => ?_) (fun hc27 => ?_)
    · rw [if_pos hc27] at h
      exact TJ_X12_bought_41 xs L N x1 x2 (aU) (aU) σ23 q h hG26
    · rw [if_neg hc27] at h
      refine ev_a (fun he => ev_iload rfl rfl he) ?_
      refine ev_a (fun he => ev_push rfl he) ?_
      refine ev_b (c := 16 ≤ x2) (fun ht hf => ev_cge rfl ht hf) (fun hc28 => ?_) (fun hc28 => ?_)
      · rw [if_pos hc28] at h
        exact TJ_X12_bought_41 xs L N x1 x2 (aU) (aU) σ23 q h hG26
      · rw [if_neg hc28] at h
        refine ev_a (fun he => ev_aload rfl rfl he) ?_
        refine ev_a (fun he => ev_getR rfl (gr_ob (n := 80) hG26 rfl) (gr_p (a := 235) (k := 54) (b := 271) hG26 rfl) he) ?_
        refine ev_a (fun he => ev_push rfl he) ?_
        refine ev_a (fun he => ev_iload rfl rfl he) ?_
        refine ev_a (fun he => ev_bin (z := 6 * x1) rfl rfl he) ?_
        refine ev_a (fun he => ev_iload rfl rfl he) ?_
        refine ev_a (fun he => ev_bin (z := (6 * x1) + x2) rfl rfl he) ?_
        refine ev_a (fun he => ev_push rfl he) ?_
        refine ev_a (fun he => ev_bin (z := ((6 * x1) + x2) - 10) rfl rfl he) ?_
        obtain ⟨hc29, h⟩ := cO_inv h
        refine ev_a (fun he => ev_aldI (k := (((6 * x1) + x2) - 10).toNatClampNeg) rfl (gr_ar hG26 rfl) hc29 rfl he) ?_
        cases h
        exact ⟨ev_retI rfl, hG26⟩
  · rw [if_neg hc21] at h
    refine ev_a (fun he => ev_push rfl he) ?_
    cases h
    exact ⟨ev_retI rfl, hG20⟩
