def F_X12_termOf (N : Nat) (x1 : Int32) (x2 : Int32) (σ : aSt) : Option (Int32 × aSt) := cO (¬ (x1 < 0 ∨ 7 ≤ x1.toNatClampNeg)) (cO (¬ (((20 * ((2 * x1) + (aI σ 243 x1.toNatClampNeg))) + x2) < 0 ∨ 280 ≤ ((20 * ((2 * x1) + (aI σ 243 x1.toNatClampNeg))) + x2).toNatClampNeg)) (cO (¬ (((20 * ((2 * x1) + (aI σ 243 x1.toNatClampNeg))) + x2) < 0 ∨ 280 ≤ ((20 * ((2 * x1) + (aI σ 243 x1.toNatClampNeg))) + x2).toNatClampNeg)) (oB (F_X12_value N (aI σ 246 ((20 * ((2 * x1) + (aI σ 243 x1.toNatClampNeg))) + x2).toNatClampNeg) (aI σ 247 ((20 * ((2 * x1) + (aI σ 243 x1.toNatClampNeg))) + x2).toNatClampNeg) σ) fun y4 σ5 => some (y4, σ5))))
set_option maxRecDepth 20000 in
set_option maxHeartbeats 4000000 in
theorem T_X12_termOf (xs : Nat → Int32) (L : Nat) (N : Nat) (x1 : Int32) (x2 : Int32) (σ : aSt) (q : Int32 × aSt) (h : F_X12_termOf N x1 x2 σ = some q) (hG : Gr σ) : Cal xs L 152 [.ref 235, .int x1, .int x2] σ (wI q.1) q.2 ∧ Gr q.2 := by
  have h : (cO (¬ (x1 < 0 ∨ 7 ≤ x1.toNatClampNeg)) (cO (¬ (((20 * ((2 * x1) + (aI σ 243 x1.toNatClampNeg))) + x2) < 0 ∨ 280 ≤ ((20 * ((2 * x1) + (aI σ 243 x1.toNatClampNeg))) + x2).toNatClampNeg)) (cO (¬ (((20 * ((2 * x1) + (aI σ 243 x1.toNatClampNeg))) + x2) < 0 ∨ 280 ≤ ((20 * ((2 * x1) + (aI σ 243 x1.toNatClampNeg))) + x2).toNatClampNeg)) (oB (F_X12_value N (aI σ 246 ((20 * ((2 * x1) + (aI σ 243 x1.toNatClampNeg))) + x2).toNatClampNeg) (aI σ 247 ((20 * ((2 * x1) + (aI σ 243 x1.toNatClampNeg))) + x2).toNatClampNeg) σ) fun y4 σ5 => some (y4, σ5))))) = some q := h
  show Ev xs L 152 0 [.ref 235, .int x1, .int x2, aU] [] σ (wI q.1) q.2 ∧ Gr q.2
  refine ev_a (fun he => ev_push rfl he) ?_
  refine ev_a (fun he => ev_push rfl he) ?_
  refine ev_a (fun he => ev_iload rfl rfl he) ?_
  refine ev_a (fun he => ev_bin (z := 2 * x1) rfl rfl he) ?_
  refine ev_a (fun he => ev_aload rfl rfl he) ?_
  refine ev_a (fun he => ev_getR rfl (gr_ob (n := 80) hG rfl) (gr_p (a := 235) (k := 18) (b := 243) hG rfl) he) ?_
  refine ev_a (fun he => ev_iload rfl rfl he) ?_
  obtain ⟨hc1, h⟩ := cO_inv h
  refine ev_a (fun he => ev_aldI (k := x1.toNatClampNeg) rfl (gr_ar hG rfl) hc1 rfl he) ?_
  refine ev_a (fun he => ev_bin (z := (2 * x1) + (aI σ 243 x1.toNatClampNeg)) rfl rfl he) ?_
  refine ev_a (fun he => ev_bin (z := 20 * ((2 * x1) + (aI σ 243 x1.toNatClampNeg))) rfl rfl he) ?_
  refine ev_a (fun he => ev_iload rfl rfl he) ?_
  refine ev_a (fun he => ev_bin (z := (20 * ((2 * x1) + (aI σ 243 x1.toNatClampNeg))) + x2) rfl rfl he) ?_
  refine ev_a (fun he => ev_istore (ls' := [.ref 235, .int x1, .int x2, .int ((20 * ((2 * x1) + (aI σ 243 x1.toNatClampNeg))) + x2)]) rfl (Nat.le_of_ble_eq_true rfl) rfl he) ?_
  refine ev_a (fun he => ev_aload rfl rfl he) ?_
  refine ev_a (fun he => ev_aload rfl rfl he) ?_
  refine ev_a (fun he => ev_getR rfl (gr_ob (n := 80) hG rfl) (gr_p (a := 235) (k := 22) (b := 246) hG rfl) he) ?_
  refine ev_a (fun he => ev_iload rfl rfl he) ?_
  obtain ⟨hc2, h⟩ := cO_inv h
  refine ev_a (fun he => ev_aldI (k := ((20 * ((2 * x1) + (aI σ 243 x1.toNatClampNeg))) + x2).toNatClampNeg) rfl (gr_ar hG rfl) hc2 rfl he) ?_
  refine ev_a (fun he => ev_aload rfl rfl he) ?_
  refine ev_a (fun he => ev_getR rfl (gr_ob (n := 80) hG rfl) (gr_p (a := 235) (k := 23) (b := 247) hG rfl) he) ?_
  refine ev_a (fun he => ev_iload rfl rfl he) ?_
  obtain ⟨hc3, h⟩ := cO_inv h
  refine ev_a (fun he => ev_aldI (k := ((20 * ((2 * x1) + (aI σ 243 x1.toNatClampNeg))) + x2).toNatClampNeg) rfl (gr_ar hG rfl) hc3 rfl he) ?_
  obtain ⟨y4, σ5, h6, h⟩ := oB_inv h
  obtain ⟨c7, hG8⟩ := T_X12_value xs L N (aI σ 246 ((20 * ((2 * x1) + (aI σ 243 x1.toNatClampNeg))) + x2).toNatClampNeg) (aI σ 247 ((20 * ((2 * x1) + (aI σ 243 x1.toNatClampNeg))) + x2).toNatClampNeg) σ (y4, σ5) h6 hG
  refine ev_a (fun he => ev_callV (as := [.int (aI σ 246 ((20 * ((2 * x1) + (aI σ 243 x1.toNatClampNeg))) + x2).toNatClampNeg), .int (aI σ 247 ((20 * ((2 * x1) + (aI σ 243 x1.toNatClampNeg))) + x2).toNatClampNeg)]) rfl (gr_ob (n := 80) hG rfl) rfl rfl rfl (Nat.le_of_ble_eq_true rfl) (Nat.le_of_ble_eq_true rfl) c7 he) ?_
  cases h
  exact ⟨ev_retI rfl, hG8⟩
def J_X12_held_19 (N : Nat) (s0 : Int32) (σ : aSt) : Option (Int32 × aSt) := some (s0, σ)
set_option maxRecDepth 20000 in
set_option maxHeartbeats 4000000 in
theorem TJ_X12_held_19 (xs : Nat → Int32) (L : Nat) (N : Nat) (s0 : Int32) (d0 : Value) (d1 : Value) (d2 : Value) (σ : aSt) (q : Int32 × aSt) (h : J_X12_held_19 N s0 σ = some q) (hG : Gr σ) : Ev xs L 153 19 [d0, d1, d2] [.int s0] σ (wI q.1) q.2 ∧ Gr q.2 := by
  have h : (some (s0, σ)) = some q := h
  cases h
  exact ⟨ev_retI rfl, hG⟩
def F_X12_held (N : Nat) (x0 : Int32) (x1 : Int32) (x2 : Int32) (σ : aSt) : Option (Int32 × aSt) := if x1 ≤ x0 then if x0 ≤ x2 then J_X12_held_19 N x0 σ else J_X12_held_19 N x2 σ else J_X12_held_19 N x1 σ
set_option maxRecDepth 20000 in
set_option maxHeartbeats 4000000 in
theorem T_X12_held (xs : Nat → Int32) (L : Nat) (N : Nat) (x0 : Int32) (x1 : Int32) (x2 : Int32) (σ : aSt) (q : Int32 × aSt) (h : F_X12_held N x0 x1 x2 σ = some q) (hG : Gr σ) : Cal xs L 153 [.int x0, .int x1, .int x2] σ (wI q.1) q.2 ∧ Gr q.2 := by
  have h : (if x1 ≤ x0 then if x0 ≤ x2 then J_X12_held_19 N x0 σ else J_X12_held_19 N x2 σ else J_X12_held_19 N x1 σ) = some q := h
  show Ev xs L 153 0 [.int x0, .int x1, .int x2] [] σ (wI q.1) q.2 ∧ Gr q.2
  refine ev_a (fun he => ev_iload rfl rfl he) ?_
  refine ev_a (fun he => ev_iload rfl rfl he) ?_
  refine ev_b (c := x1 ≤ x0) (fun ht hf => ev_cge rfl ht hf) (fun hc1 => ?_) (fun hc1 => ?_)
  · rw [if_pos hc1] at h
    refine ev_a (fun he => ev_iload rfl rfl he) ?_
    refine ev_a (fun he => ev_iload rfl rfl he) ?_
    refine ev_b (c := x0 ≤ x2) (fun ht hf => ev_cle rfl ht hf) (fun hc2 => ?_) (fun hc2 => ?_)
    · rw [if_pos hc2] at h
      refine ev_a (fun he => ev_iload rfl rfl he) ?_
      exact TJ_X12_held_19 xs L N x0 (.int x0) (.int x1) (.int x2) σ q h hG
    · rw [if_neg hc2] at h
      refine ev_a (fun he => ev_iload rfl rfl he) ?_
      refine ev_a (fun he => ev_goto rfl he) ?_
      exact TJ_X12_held_19 xs L N x2 (.int x0) (.int x1) (.int x2) σ q h hG
  · rw [if_neg hc1] at h
    refine ev_a (fun he => ev_iload rfl rfl he) ?_
    refine ev_a (fun he => ev_goto rfl he) ?_
    exact TJ_X12_held_19 xs L N x1 (.int x0) (.int x1) (.int x2) σ q h hG
def J_X12_startOf_36 (N : Nat) (s0 : Int32) (σ : aSt) : Option (Int32 × aSt) := some (s0, σ)
set_option maxRecDepth 20000 in
set_option maxHeartbeats 4000000 in
theorem TJ_X12_startOf_36 (xs : Nat → Int32) (L : Nat) (N : Nat) (s0 : Int32) (d0 : Value) (d1 : Value) (d2 : Value) (σ : aSt) (q : Int32 × aSt) (h : J_X12_startOf_36 N s0 σ = some q) (hG : Gr σ) : Ev xs L 154 36 [d0, d1, d2] [.int s0] σ (wI q.1) q.2 ∧ Gr q.2 := by
  have h : (some (s0, σ)) = some q := h
  cases h
  exact ⟨ev_retI rfl, hG⟩
def F_X12_startOf (N : Nat) (x1 : Int32) (σ : aSt) : Option (Int32 × aSt) := oB (F_X12_asks N ((-1)) x1 σ) fun y1 σ2 => oB (F_X12_ruleOf N 0 1 σ2) fun y6 σ7 => if y6 ≠ ((-1)) then oB (F_X12_termOf N 0 y6 σ7) fun y12 σ13 => oB (F_X12_held N y12 1 999 σ13) fun y17 σ18 => J_X12_startOf_36 N y17 σ18 else J_X12_startOf_36 N 100 σ7
set_option maxRecDepth 20000 in
set_option maxHeartbeats 4000000 in
theorem T_X12_startOf (xs : Nat → Int32) (L : Nat) (N : Nat) (x1 : Int32) (σ : aSt) (q : Int32 × aSt) (h : F_X12_startOf N x1 σ = some q) (hG : Gr σ) : Cal xs L 154 [.ref 235, .int x1] σ (wI q.1) q.2 ∧ Gr q.2 := by
  have h : (oB (F_X12_asks N ((-1)) x1 σ) fun y1 σ2 => oB (F_X12_ruleOf N 0 1 σ2) fun y6 σ7 => if y6 ≠ ((-1)) then oB (F_X12_termOf N 0 y6 σ7) fun y12 σ13 => oB (F_X12_held N y12 1 999 σ13) fun y17 σ18 => J_X12_startOf_36 N y17 σ18 else J_X12_startOf_36 N 100 σ7) = some q := h
  show Ev xs L 154 0 [.ref 235, .int x1, aU] [] σ (wI q.1) q.2 ∧ Gr q.2
  refine ev_a (fun he => ev_aload rfl rfl he) ?_
  refine ev_a (fun he => ev_push rfl he) ?_
  refine ev_a (fun he => ev_iload rfl rfl he) ?_
  obtain ⟨y1, σ2, h3, h⟩ := oB_inv h
  obtain ⟨c4, hG5⟩ := T_X12_asks xs L N ((-1)) x1 σ (y1, σ2) h3 hG
  refine ev_a (fun he => ev_callV (as := [.int ((-1)), .int x1]) rfl (gr_ob (n := 80) hG rfl) rfl rfl rfl (Nat.le_of_ble_eq_true rfl) (Nat.le_of_ble_eq_true rfl) c4 he) ?_
  refine ev_a (fun he => ev_aload rfl rfl he) ?_
  refine ev_a (fun he => ev_push rfl he) ?_
  refine ev_a (fun he => ev_push rfl he) ?_
  obtain ⟨y6, σ7, h8, h⟩ := oB_inv h
  obtain ⟨c9, hG10⟩ := T_X12_ruleOf xs L N 0 1 σ2 (y6, σ7) h8 hG5
  refine ev_a (fun he => ev_callV (as := [.int 0, .int 1]) rfl (gr_ob (n := 80) hG5 rfl) rfl rfl rfl (Nat.le_of_ble_eq_true rfl) (Nat.le_of_ble_eq_true rfl) c9 he) ?_
  refine ev_a (fun he => ev_istore (ls' := [.ref 235, .int x1, .int y6]) rfl (Nat.le_of_ble_eq_true rfl) rfl he) ?_
  refine ev_a (fun he => ev_iload rfl rfl he) ?_
  refine ev_a (fun he => ev_push rfl he) ?_
  refine ev_b (c := y6 ≠ ((-1))) (fun ht hf => ev_cne rfl ht hf) (fun hc11 => ?_) (fun hc11 => ?_)
  · rw [if_pos hc11] at h
    refine ev_a (fun he => ev_aload rfl rfl he) ?_
    refine ev_a (fun he => ev_push rfl he) ?_
    refine ev_a (fun he => ev_iload rfl rfl he) ?_
    obtain ⟨y12, σ13, h14, h⟩ := oB_inv h
    obtain ⟨c15, hG16⟩ := T_X12_termOf xs L N 0 y6 σ7 (y12, σ13) h14 hG10
    refine ev_a (fun he => ev_callV (as := [.int 0, .int y6]) rfl (gr_ob (n := 80) hG10 rfl) rfl rfl rfl (Nat.le_of_ble_eq_true rfl) (Nat.le_of_ble_eq_true rfl) c15 he) ?_
    refine ev_a (fun he => ev_push rfl he) ?_
    refine ev_a (fun he => ev_push rfl he) ?_
    obtain ⟨y17, σ18, h19, h⟩ := oB_inv h
    obtain ⟨c20, hG21⟩ := T_X12_held xs L N y12 1 999 σ13 (y17, σ18) h19 hG16
    refine ev_a (fun he => ev_callS (as := [.int y12, .int 1, .int 999]) rfl rfl rfl rfl (Nat.le_of_ble_eq_true rfl) (Nat.le_of_ble_eq_true rfl) c20 he) ?_
    exact TJ_X12_startOf_36 xs L N y17 (.ref 235) (.int x1) (.int y6) σ18 q h hG21
  · rw [if_neg hc11] at h
    refine ev_a (fun he => ev_push rfl he) ?_
    refine ev_a (fun he => ev_goto rfl he) ?_
    exact TJ_X12_startOf_36 xs L N 100 (.ref 235) (.int x1) (.int y6) σ7 q h hG10
def J_X12_leastOf_33 (N : Nat) (s0 : Int32) (σ : aSt) : Option (Int32 × aSt) := some (s0, σ)
set_option maxRecDepth 20000 in
set_option maxHeartbeats 4000000 in
theorem TJ_X12_leastOf_33 (xs : Nat → Int32) (L : Nat) (N : Nat) (s0 : Int32) (d0 : Value) (d1 : Value) (d2 : Value) (d3 : Value) (σ : aSt) (q : Int32 × aSt) (h : J_X12_leastOf_33 N s0 σ = some q) (hG : Gr σ) : Ev xs L 155 33 [d0, d1, d2, d3] [.int s0] σ (wI q.1) q.2 ∧ Gr q.2 := by
  have h : (some (s0, σ)) = some q := h
  cases h
  exact ⟨ev_retI rfl, hG⟩
def F_X12_leastOf (N : Nat) (x1 : Int32) (x2 : Int32) (σ : aSt) : Option (Int32 × aSt) := oB (F_X12_asks N ((-1)) x1 σ) fun y1 σ2 => oB (F_X12_ruleOf N 0 2 σ2) fun y6 σ7 => if y6 ≠ ((-1)) then oB (F_X12_termOf N 0 y6 σ7) fun y12 σ13 => oB (F_X12_held N y12 1 x2 σ13) fun y17 σ18 => J_X12_leastOf_33 N y17 σ18 else J_X12_leastOf_33 N 1 σ7
set_option maxRecDepth 20000 in
set_option maxHeartbeats 4000000 in
theorem T_X12_leastOf (xs : Nat → Int32) (L : Nat) (N : Nat) (x1 : Int32) (x2 : Int32) (σ : aSt) (q : Int32 × aSt) (h : F_X12_leastOf N x1 x2 σ = some q) (hG : Gr σ) : Cal xs L 155 [.ref 235, .int x1, .int x2] σ (wI q.1) q.2 ∧ Gr q.2 := by
  have h : (oB (F_X12_asks N ((-1)) x1 σ) fun y1 σ2 => oB (F_X12_ruleOf N 0 2 σ2) fun y6 σ7 => if y6 ≠ ((-1)) then oB (F_X12_termOf N 0 y6 σ7) fun y12 σ13 => oB (F_X12_held N y12 1 x2 σ13) fun y17 σ18 => J_X12_leastOf_33 N y17 σ18 else J_X12_leastOf_33 N 1 σ7) = some q := h
  show Ev xs L 155 0 [.ref 235, .int x1, .int x2, aU] [] σ (wI q.1) q.2 ∧ Gr q.2
  refine ev_a (fun he => ev_aload rfl rfl he) ?_
  refine ev_a (fun he => ev_push rfl he) ?_
  refine ev_a (fun he => ev_iload rfl rfl he) ?_
  obtain ⟨y1, σ2, h3, h⟩ := oB_inv h
  obtain ⟨c4, hG5⟩ := T_X12_asks xs L N ((-1)) x1 σ (y1, σ2) h3 hG
  refine ev_a (fun he => ev_callV (as := [.int ((-1)), .int x1]) rfl (gr_ob (n := 80) hG rfl) rfl rfl rfl (Nat.le_of_ble_eq_true rfl) (Nat.le_of_ble_eq_true rfl) c4 he) ?_
  refine ev_a (fun he => ev_aload rfl rfl he) ?_
  refine ev_a (fun he => ev_push rfl he) ?_
  refine ev_a (fun he => ev_push rfl he) ?_
  obtain ⟨y6, σ7, h8, h⟩ := oB_inv h
  obtain ⟨c9, hG10⟩ := T_X12_ruleOf xs L N 0 2 σ2 (y6, σ7) h8 hG5
  refine ev_a (fun he => ev_callV (as := [.int 0, .int 2]) rfl (gr_ob (n := 80) hG5 rfl) rfl rfl rfl (Nat.le_of_ble_eq_true rfl) (Nat.le_of_ble_eq_true rfl) c9 he) ?_
  refine ev_a (fun he => ev_istore (ls' := [.ref 235, .int x1, .int x2, .int y6]) rfl (Nat.le_of_ble_eq_true rfl) rfl he) ?_
  refine ev_a (fun he => ev_iload rfl rfl he) ?_
  refine ev_a (fun he => ev_push rfl he) ?_
  refine ev_b (c := y6 ≠ ((-1))) (fun ht hf => ev_cne rfl ht hf) (fun hc11 => ?_) (fun hc11 => ?_)
  · rw [if_pos hc11] at h
    refine ev_a (fun he => ev_aload rfl rfl he) ?_
    refine ev_a (fun he => ev_push rfl he) ?_
    refine ev_a (fun he => ev_iload rfl rfl he) ?_
    obtain ⟨y12, σ13, h14, h⟩ := oB_inv h
    obtain ⟨c15, hG16⟩ := T_X12_termOf xs L N 0 y6 σ7 (y12, σ13) h14 hG10
    refine ev_a (fun he => ev_callV (as := [.int 0, .int y6]) rfl (gr_ob (n := 80) hG10 rfl) rfl rfl rfl (Nat.le_of_ble_eq_true rfl) (Nat.le_of_ble_eq_true rfl) c15 he) ?_
    refine ev_a (fun he => ev_push rfl he) ?_
    refine ev_a (fun he => ev_iload rfl rfl he) ?_
    obtain ⟨y17, σ18, h19, h⟩ := oB_inv h
    obtain ⟨c20, hG21⟩ := T_X12_held xs L N y12 1 x2 σ13 (y17, σ18) h19 hG16
    refine ev_a (fun he => ev_callS (as := [.int y12, .int 1, .int x2]) rfl rfl rfl rfl (Nat.le_of_ble_eq_true rfl) (Nat.le_of_ble_eq_true rfl) c20 he) ?_
    exact TJ_X12_leastOf_33 xs L N y17 (.ref 235) (.int x1) (.int x2) (.int y6) σ18 q h hG21
  · rw [if_neg hc11] at h
    refine ev_a (fun he => ev_push rfl he) ?_
    refine ev_a (fun he => ev_goto rfl he) ?_
    exact TJ_X12_leastOf_33 xs L N 1 (.ref 235) (.int x1) (.int x2) (.int y6) σ7 q h hG10
def J_X12_limitOf_90 (N : Nat) (s0 : Int32) (σ : aSt) : Option (Int32 × aSt) := some (s0, σ)
set_option maxRecDepth 20000 in
set_option maxHeartbeats 4000000 in
theorem TJ_X12_limitOf_90 (xs : Nat → Int32) (L : Nat) (N : Nat) (s0 : Int32) (d0 : Value) (d1 : Value) (d2 : Value) (d3 : Value) (d4 : Value) (d5 : Value) (σ : aSt) (q : Int32 × aSt) (h : J_X12_limitOf_90 N s0 σ = some q) (hG : Gr σ) : Ev xs L 156 90 [d0, d1, d2, d3, d4, d5] [.int s0] σ (wI q.1) q.2 ∧ Gr q.2 := by
  have h : (some (s0, σ)) = some q := h
  cases h
  exact ⟨ev_retI rfl, hG⟩
def F_X12_limitOf (N : Nat) (x1 : Int32) (x2 : Int32) (σ : aSt) : Option (Int32 × aSt) := cO (¬ (x2 < 0 ∨ 24 ≤ x2.toNatClampNeg)) (oB (F_X12_left N x1 (aI σ 260 x2.toNatClampNeg) σ) fun y2 σ3 => cO (¬ (x2 < 0 ∨ 24 ≤ x2.toNatClampNeg)) (if (aI σ3 262 x2.toNatClampNeg) ≤ y2 then oB (F_X12_asks N x1 x2 σ3) fun y9 σ10 => oB (F_X12_ruleOf N (x1 + 1) 0 σ10) fun y14 σ15 => if y14 ≠ ((-1)) then oB (F_X12_termOf N (x1 + 1) y14 σ15) fun y20 σ21 => cO (¬ (x1 < 0 ∨ 6 ≤ x1.toNatClampNeg)) (cO (¬ (x1 < 0 ∨ 6 ≤ x1.toNatClampNeg)) (cO (¬ (x2 < 0 ∨ 24 ≤ x2.toNatClampNeg)) (cO (¬ (aI σ21 262 x2.toNatClampNeg) = 0) (if (((aI σ21 265 x1.toNatClampNeg) - (aI σ21 277 x1.toNatClampNeg)) / (aI σ21 262 x2.toNatClampNeg)) ≤ y20 then J_X12_limitOf_90 N (((aI σ21 265 x1.toNatClampNeg) - (aI σ21 277 x1.toNatClampNeg)) / (aI σ21 262 x2.toNatClampNeg)) σ21 else J_X12_limitOf_90 N y20 σ21)))) else some (0, σ15) else some (0, σ3)))
set_option maxRecDepth 20000 in
set_option maxHeartbeats 4000000 in
theorem T_X12_limitOf (xs : Nat → Int32) (L : Nat) (N : Nat) (x1 : Int32) (x2 : Int32) (σ : aSt) (q : Int32 × aSt) (h : F_X12_limitOf N x1 x2 σ = some q) (hG : Gr σ) : Cal xs L 156 [.ref 235, .int x1, .int x2] σ (wI q.1) q.2 ∧ Gr q.2 := by
  have h : (cO (¬ (x2 < 0 ∨ 24 ≤ x2.toNatClampNeg)) (oB (F_X12_left N x1 (aI σ 260 x2.toNatClampNeg) σ) fun y2 σ3 => cO (¬ (x2 < 0 ∨ 24 ≤ x2.toNatClampNeg)) (if (aI σ3 262 x2.toNatClampNeg) ≤ y2 then oB (F_X12_asks N x1 x2 σ3) fun y9 σ10 => oB (F_X12_ruleOf N (x1 + 1) 0 σ10) fun y14 σ15 => if y14 ≠ ((-1)) then oB (F_X12_termOf N (x1 + 1) y14 σ15) fun y20 σ21 => cO (¬ (x1 < 0 ∨ 6 ≤ x1.toNatClampNeg)) (cO (¬ (x1 < 0 ∨ 6 ≤ x1.toNatClampNeg)) (cO (¬ (x2 < 0 ∨ 24 ≤ x2.toNatClampNeg)) (cO (¬ (aI σ21 262 x2.toNatClampNeg) = 0) (if (((aI σ21 265 x1.toNatClampNeg) - (aI σ21 277 x1.toNatClampNeg)) / (aI σ21 262 x2.toNatClampNeg)) ≤ y20 then J_X12_limitOf_90 N (((aI σ21 265 x1.toNatClampNeg) - (aI σ21 277 x1.toNatClampNeg)) / (aI σ21 262 x2.toNatClampNeg)) σ21 else J_X12_limitOf_90 N y20 σ21)))) else some (0, σ15) else some (0, σ3)))) = some q := h
  show Ev xs L 156 0 [.ref 235, .int x1, .int x2, aU, aU, aU] [] σ (wI q.1) q.2 ∧ Gr q.2
  refine ev_a (fun he => ev_aload rfl rfl he) ?_
  refine ev_a (fun he => ev_iload rfl rfl he) ?_
  refine ev_a (fun he => ev_aload rfl rfl he) ?_
  refine ev_a (fun he => ev_getR rfl (gr_ob (n := 80) hG rfl) (gr_p (a := 235) (k := 39) (b := 260) hG rfl) he) ?_
  refine ev_a (fun he => ev_iload rfl rfl he) ?_
  obtain ⟨hc1, h⟩ := cO_inv h
  refine ev_a (fun he => ev_aldI (k := x2.toNatClampNeg) rfl (gr_ar hG rfl) hc1 rfl he) ?_
  obtain ⟨y2, σ3, h4, h⟩ := oB_inv h
  obtain ⟨c5, hG6⟩ := T_X12_left xs L N x1 (aI σ 260 x2.toNatClampNeg) σ (y2, σ3) h4 hG
  refine ev_a (fun he => ev_callV (as := [.int x1, .int (aI σ 260 x2.toNatClampNeg)]) rfl (gr_ob (n := 80) hG rfl) rfl rfl rfl (Nat.le_of_ble_eq_true rfl) (Nat.le_of_ble_eq_true rfl) c5 he) ?_
  refine ev_a (fun he => ev_aload rfl rfl he) ?_
  refine ev_a (fun he => ev_getR rfl (gr_ob (n := 80) hG6 rfl) (gr_p (a := 235) (k := 41) (b := 262) hG6 rfl) he) ?_
  refine ev_a (fun he => ev_iload rfl rfl he) ?_
  obtain ⟨hc7, h⟩ := cO_inv h
  refine ev_a (fun he => ev_aldI (k := x2.toNatClampNeg) rfl (gr_ar hG6 rfl) hc7 rfl he) ?_
  refine ev_b (c := (aI σ3 262 x2.toNatClampNeg) ≤ y2) (fun ht hf => ev_cge rfl ht hf) (fun hc8 => ?_) (fun hc8 => ?_)
  · rw [if_pos hc8] at h
    refine ev_a (fun he => ev_aload rfl rfl he) ?_
    refine ev_a (fun he => ev_iload rfl rfl he) ?_
    refine ev_a (fun he => ev_iload rfl rfl he) ?_
    obtain ⟨y9, σ10, h11, h⟩ := oB_inv h
    obtain ⟨c12, hG13⟩ := T_X12_asks xs L N x1 x2 σ3 (y9, σ10) h11 hG6
    refine ev_a (fun he => ev_callV (as := [.int x1, .int x2]) rfl (gr_ob (n := 80) hG6 rfl) rfl rfl rfl (Nat.le_of_ble_eq_true rfl) (Nat.le_of_ble_eq_true rfl) c12 he) ?_
    refine ev_a (fun he => ev_aload rfl rfl he) ?_
    refine ev_a (fun he => ev_iload rfl rfl he) ?_
    refine ev_a (fun he => ev_push rfl he) ?_
    refine ev_a (fun he => ev_bin (z := x1 + 1) rfl rfl he) ?_
    refine ev_a (fun he => ev_push rfl he) ?_
    obtain ⟨y14, σ15, h16, h⟩ := oB_inv h
    obtain ⟨c17, hG18⟩ := T_X12_ruleOf xs L N (x1 + 1) 0 σ10 (y14, σ15) h16 hG13
    refine ev_a (fun he => ev_callV (as := [.int (x1 + 1), .int 0]) rfl (gr_ob (n := 80) hG13 rfl) rfl rfl rfl (Nat.le_of_ble_eq_true rfl) (Nat.le_of_ble_eq_true rfl) c17 he) ?_
    refine ev_a (fun he => ev_istore (ls' := [.ref 235, .int x1, .int x2, .int y14, aU, aU]) rfl (Nat.le_of_ble_eq_true rfl) rfl he) ?_
    refine ev_a (fun he => ev_iload rfl rfl he) ?_
    refine ev_a (fun he => ev_push rfl he) ?_
    refine ev_b (c := y14 ≠ ((-1))) (fun ht hf => ev_cne rfl ht hf) (fun hc19 => ?_) (fun hc19 => ?_)
    · rw [if_pos hc19] at h
      refine ev_a (fun he => ev_aload rfl rfl he) ?_
      refine ev_a (fun he => ev_iload rfl rfl he) ?_
      refine ev_a (fun he => ev_push rfl he) ?_
      refine ev_a (fun he => ev_bin (z := x1 + 1) rfl rfl he) ?_
      refine ev_a (fun he => ev_iload rfl rfl he) ?_
      obtain ⟨y20, σ21, h22, h⟩ := oB_inv h
      obtain ⟨c23, hG24⟩ := T_X12_termOf xs L N (x1 + 1) y14 σ15 (y20, σ21) h22 hG18
      refine ev_a (fun he => ev_callV (as := [.int (x1 + 1), .int y14]) rfl (gr_ob (n := 80) hG18 rfl) rfl rfl rfl (Nat.le_of_ble_eq_true rfl) (Nat.le_of_ble_eq_true rfl) c23 he) ?_
      refine ev_a (fun he => ev_istore (ls' := [.ref 235, .int x1, .int x2, .int y14, .int y20, aU]) rfl (Nat.le_of_ble_eq_true rfl) rfl he) ?_
      refine ev_a (fun he => ev_aload rfl rfl he) ?_
      refine ev_a (fun he => ev_getR rfl (gr_ob (n := 80) hG24 rfl) (gr_p (a := 235) (k := 45) (b := 265) hG24 rfl) he) ?_
      refine ev_a (fun he => ev_iload rfl rfl he) ?_
      obtain ⟨hc25, h⟩ := cO_inv h
      refine ev_a (fun he => ev_aldI (k := x1.toNatClampNeg) rfl (gr_ar hG24 rfl) hc25 rfl he) ?_
      refine ev_a (fun he => ev_aload rfl rfl he) ?_
      refine ev_a (fun he => ev_getR rfl (gr_ob (n := 80) hG24 rfl) (gr_p (a := 235) (k := 60) (b := 277) hG24 rfl) he) ?_
      refine ev_a (fun he => ev_iload rfl rfl he) ?_
      obtain ⟨hc26, h⟩ := cO_inv h
      refine ev_a (fun he => ev_aldI (k := x1.toNatClampNeg) rfl (gr_ar hG24 rfl) hc26 rfl he) ?_
      refine ev_a (fun he => ev_bin (z := (aI σ21 265 x1.toNatClampNeg) - (aI σ21 277 x1.toNatClampNeg)) rfl rfl he) ?_
      refine ev_a (fun he => ev_aload rfl rfl he) ?_
      refine ev_a (fun he => ev_getR rfl (gr_ob (n := 80) hG24 rfl) (gr_p (a := 235) (k := 41) (b := 262) hG24 rfl) he) ?_
      refine ev_a (fun he => ev_iload rfl rfl he) ?_
      obtain ⟨hc27, h⟩ := cO_inv h
      refine ev_a (fun he => ev_aldI (k := x2.toNatClampNeg) rfl (gr_ar hG24 rfl) hc27 rfl he) ?_
      obtain ⟨hc28, h⟩ := cO_inv h
      refine ev_a (fun he => ev_div rfl hc28 he) ?_
      refine ev_a (fun he => ev_istore (ls' := [.ref 235, .int x1, .int x2, .int y14, .int y20, .int (((aI σ21 265 x1.toNatClampNeg) - (aI σ21 277 x1.toNatClampNeg)) / (aI σ21 262 x2.toNatClampNeg))]) rfl (Nat.le_of_ble_eq_true rfl) rfl he) ?_
      refine ev_a (fun he => ev_iload rfl rfl he) ?_
      refine ev_a (fun he => ev_iload rfl rfl he) ?_
      refine ev_b (c := (((aI σ21 265 x1.toNatClampNeg) - (aI σ21 277 x1.toNatClampNeg)) / (aI σ21 262 x2.toNatClampNeg)) ≤ y20) (fun ht hf => ev_cge rfl ht hf) (fun hc29 => ?_) (fun hc29 => ?_)
      · rw [if_pos hc29] at h
        refine ev_a (fun he => ev_iload rfl rfl he) ?_
        exact TJ_X12_limitOf_90 xs L N (((aI σ21 265 x1.toNatClampNeg) - (aI σ21 277 x1.toNatClampNeg)) / (aI σ21 262 x2.toNatClampNeg)) (.ref 235) (.int x1) (.int x2) (.int y14) (.int y20) (.int (((aI σ21 265 x1.toNatClampNeg) - (aI σ21 277 x1.toNatClampNeg)) / (aI σ21 262 x2.toNatClampNeg))) σ21 q h hG24
      · rw [if_neg hc29] at h
        refine ev_a (fun he => ev_iload rfl rfl he) ?_
        refine ev_a (fun he => ev_goto rfl he) ?_
        exact TJ_X12_limitOf_90 xs L N y20 (.ref 235) (.int x1) (.int x2) (.int y14) (.int y20) (.int (((aI σ21 265 x1.toNatClampNeg) - (aI σ21 277 x1.toNatClampNeg)) / (aI σ21 262 x2.toNatClampNeg))) σ21 q h hG24
    · rw [if_neg hc19] at h
      refine ev_a (fun he => ev_push rfl he) ?_
      cases h
      exact ⟨ev_retI rfl, hG18⟩
  · rw [if_neg hc8] at h
    refine ev_a (fun he => ev_push rfl he) ?_
    cases h
    exact ⟨ev_retI rfl, hG6⟩
def J_X12_stops_82 (N : Nat) (k16 : Int32 → Int32 → Int32 → Int32 → Int32 → Int32 → aSt → Option (Int32 × aSt)) (x1 : Int32) (x2 : Int32) (x3 : Int32) (x4 : Int32) (x5 : Int32) (x6 : Int32) (σ : aSt) : Option (Int32 × aSt) := k16 x1 x2 x3 x4 x5 (x6 + 1) σ
set_option maxRecDepth 20000 in
set_option maxHeartbeats 4000000 in
theorem TJ_X12_stops_82 (xs : Nat → Int32) (L : Nat) (N : Nat) (k16 : Int32 → Int32 → Int32 → Int32 → Int32 → Int32 → aSt → Option (Int32 × aSt)) (hk16 : ∀ (x1 : Int32) (x2 : Int32) (x3 : Int32) (x4 : Int32) (x5 : Int32) (x6 : Int32) (d7 : Value) (σ : aSt) (q : Int32 × aSt), k16 x1 x2 x3 x4 x5 x6 σ = some q → Gr σ → Ev xs L 158 16 [.ref 235, .int x1, .int x2, .int x3, .int x4, .int x5, .int x6, d7] [] σ (wI q.1) q.2 ∧ Gr q.2) (x1 : Int32) (x2 : Int32) (x3 : Int32) (x4 : Int32) (x5 : Int32) (x6 : Int32) (d7 : Value) (σ : aSt) (q : Int32 × aSt) (h : J_X12_stops_82 N k16 x1 x2 x3 x4 x5 x6 σ = some q) (hG : Gr σ) : Ev xs L 158 82 [.ref 235, .int x1, .int x2, .int x3, .int x4, .int x5, .int x6, d7] [] σ (wI q.1) q.2 ∧ Gr q.2 := by
  have h : (k16 x1 x2 x3 x4 x5 (x6 + 1) σ) = some q := h
  refine ev_a (fun he => ev_iinc (ls' := [.ref 235, .int x1, .int x2, .int x3, .int x4, .int x5, .int (x6 + 1), d7]) rfl rfl rfl (Nat.le_of_ble_eq_true rfl) rfl he) ?_
  refine ev_a (fun he => ev_goto rfl he) ?_
  exact hk16 x1 x2 x3 x4 x5 (x6 + 1) (d7) σ q h hG
def J_X12_stops_74 (N : Nat) (k16 : Int32 → Int32 → Int32 → Int32 → Int32 → Int32 → aSt → Option (Int32 × aSt)) (x1 : Int32) (x2 : Int32) (x3 : Int32) (x6 : Int32) (x7 : Int32) (σ : aSt) : Option (Int32 × aSt) := J_X12_stops_82 N k16 x1 x2 x3 x6 x7 x6 σ
set_option maxRecDepth 20000 in
set_option maxHeartbeats 4000000 in
theorem TJ_X12_stops_74 (xs : Nat → Int32) (L : Nat) (N : Nat) (k16 : Int32 → Int32 → Int32 → Int32 → Int32 → Int32 → aSt → Option (Int32 × aSt)) (hk16 : ∀ (x1 : Int32) (x2 : Int32) (x3 : Int32) (x4 : Int32) (x5 : Int32) (x6 : Int32) (d7 : Value) (σ : aSt) (q : Int32 × aSt), k16 x1 x2 x3 x4 x5 x6 σ = some q → Gr σ → Ev xs L 158 16 [.ref 235, .int x1, .int x2, .int x3, .int x4, .int x5, .int x6, d7] [] σ (wI q.1) q.2 ∧ Gr q.2) (x1 : Int32) (x2 : Int32) (x3 : Int32) (x6 : Int32) (x7 : Int32) (d4 : Value) (d5 : Value) (σ : aSt) (q : Int32 × aSt) (h : J_X12_stops_74 N k16 x1 x2 x3 x6 x7 σ = some q) (hG : Gr σ) : Ev xs L 158 74 [.ref 235, .int x1, .int x2, .int x3, d4, d5, .int x6, .int x7] [] σ (wI q.1) q.2 ∧ Gr q.2 := by
  have h : (J_X12_stops_82 N k16 x1 x2 x3 x6 x7 x6 σ) = some q := h
  refine ev_a (fun he => ev_iload rfl rfl he) ?_
  refine ev_a (fun he => ev_istore (ls' := [.ref 235, .int x1, .int x2, .int x3, .int x6, d5, .int x6, .int x7]) rfl (Nat.le_of_ble_eq_true rfl) rfl he) ?_
  refine ev_a (fun he => ev_iload rfl rfl he) ?_
  refine ev_a (fun he => ev_istore (ls' := [.ref 235, .int x1, .int x2, .int x3, .int x6, .int x7, .int x6, .int x7]) rfl (Nat.le_of_ble_eq_true rfl) rfl he) ?_
  exact TJ_X12_stops_82 xs L N k16 hk16 x1 x2 x3 x6 x7 x6 (.int x7) σ q h hG
def H_X12_stops_16 (N : Nat) : Nat → Int32 → Int32 → Int32 → Int32 → Int32 → Int32 → aSt → Option (Int32 × aSt)
  | 0, _, _, _, _, _, _, _ => none
  | n + 1, x1, x2, x3, x4, x5, x6, σ => if (aI σ 235 43) ≤ x6 then if x4 ≠ ((-1)) then cO (¬ (x4 < 0 ∨ 6 ≤ x4.toNatClampNeg)) (lt (aWI σ 286 x4.toNatClampNeg (vp_nar .boolean 1)) fun σ4 => cO (¬ (x3 < 0 ∨ 24 ≤ x3.toNatClampNeg)) (lt (aWI σ4 280 x3.toNatClampNeg x4) fun σ8 => cO (¬ (x1 < 0 ∨ 3 ≤ x1.toNatClampNeg)) (cO (¬ (x3 < 0 ∨ 24 ≤ x3.toNatClampNeg)) (lt (aWI σ8 281 x3.toNatClampNeg (aI σ8 279 x1.toNatClampNeg)) fun σ13 => cO (¬ (x3 < 0 ∨ 24 ≤ x3.toNatClampNeg)) (lt (aWI σ13 282 x3.toNatClampNeg x2) fun σ17 => cO (¬ (x3 < 0 ∨ 24 ≤ x3.toNatClampNeg)) (lt (aWI σ17 283 x3.toNatClampNeg x1) fun σ21 => cO (¬ (x3 < 0 ∨ 24 ≤ x3.toNatClampNeg)) (cO (¬ (((6 * x4) + (aI σ21 260 x3.toNatClampNeg)) < 0 ∨ 36 ≤ ((6 * x4) + (aI σ21 260 x3.toNatClampNeg)).toNatClampNeg)) (cO (¬ (x3 < 0 ∨ 24 ≤ x3.toNatClampNeg)) (cO (¬ (((6 * x4) + (aI σ21 260 x3.toNatClampNeg)) < 0 ∨ 36 ≤ ((6 * x4) + (aI σ21 260 x3.toNatClampNeg)).toNatClampNeg)) (lt (aWI σ21 276 ((6 * x4) + (aI σ21 260 x3.toNatClampNeg)).toNatClampNeg ((aI σ21 276 ((6 * x4) + (aI σ21 260 x3.toNatClampNeg)).toNatClampNeg) + (aI σ21 262 x3.toNatClampNeg))) fun σ28 => cO (¬ (x4 < 0 ∨ 6 ≤ x4.toNatClampNeg)) (cO (¬ (x1 < 0 ∨ 3 ≤ x1.toNatClampNeg)) (cO (¬ (x3 < 0 ∨ 24 ≤ x3.toNatClampNeg)) (cO (¬ (x4 < 0 ∨ 6 ≤ x4.toNatClampNeg)) (lt (aWI σ28 277 x4.toNatClampNeg ((aI σ28 277 x4.toNatClampNeg) + ((aI σ28 279 x1.toNatClampNeg) * (aI σ28 262 x3.toNatClampNeg)))) fun σ35 => cO (¬ (x1 < 0 ∨ 3 ≤ x1.toNatClampNeg)) (lt (aWI σ35 278 x1.toNatClampNeg ((-1))) fun σ39 => cO (vp_nar .boolean 1 = 1) (some (1, σ39))))))))))))))))) else cO (vp_nar .boolean 0 = 0) (some (0, σ)) else cO (¬ (x6 < 0 ∨ 6 ≤ x6.toNatClampNeg)) (if (aI σ 286 x6.toNatClampNeg) = 0 then oB (F_X12_limitOf N x6 x3 σ) fun y46 σ47 => cO (¬ (x1 < 0 ∨ 3 ≤ x1.toNatClampNeg)) (if y46 < (aI σ47 279 x1.toNatClampNeg) then J_X12_stops_82 N (H_X12_stops_16 N n) x1 x2 x3 x4 x5 x6 σ47 else if x4 = ((-1)) then J_X12_stops_74 N (H_X12_stops_16 N n) x1 x2 x3 x6 y46 σ47 else if x5 < y46 then J_X12_stops_74 N (H_X12_stops_16 N n) x1 x2 x3 x6 y46 σ47 else J_X12_stops_82 N (H_X12_stops_16 N n) x1 x2 x3 x4 x5 x6 σ47) else J_X12_stops_82 N (H_X12_stops_16 N n) x1 x2 x3 x4 x5 x6 σ)
set_option maxRecDepth 20000 in
set_option maxHeartbeats 4000000 in
theorem TH_X12_stops_16 (xs : Nat → Int32) (L : Nat) (N : Nat) : ∀ (n : Nat) (x1 : Int32) (x2 : Int32) (x3 : Int32) (x4 : Int32) (x5 : Int32) (x6 : Int32) (d7 : Value) (σ : aSt) (q : Int32 × aSt), H_X12_stops_16 N n x1 x2 x3 x4 x5 x6 σ = some q → Gr σ → Ev xs L 158 16 [.ref 235, .int x1, .int x2, .int x3, .int x4, .int x5, .int x6, d7] [] σ (wI q.1) q.2 ∧ Gr q.2 := by
  intro n
  induction n with
  | zero =>
    intro x1 x2 x3 x4 x5 x6 d7 σ q h hG
    exact absurd (show (none : Option (Int32 × aSt)) = some q from h) (by simp)
  | succ n ih =>
    intro x1 x2 x3 x4 x5 x6 d7 σ q h hG
    have hk16 : ∀ (x1 : Int32) (x2 : Int32) (x3 : Int32) (x4 : Int32) (x5 : Int32) (x6 : Int32) (d7 : Value) (σ : aSt) (q : Int32 × aSt), H_X12_stops_16 N n x1 x2 x3 x4 x5 x6 σ = some q → Gr σ → Ev xs L 158 16 [.ref 235, .int x1, .int x2, .int x3, .int x4, .int x5, .int x6, d7] [] σ (wI q.1) q.2 ∧ Gr q.2 := ih
    have h : (if (aI σ 235 43) ≤ x6 then if x4 ≠ ((-1)) then cO (¬ (x4 < 0 ∨ 6 ≤ x4.toNatClampNeg)) (lt (aWI σ 286 x4.toNatClampNeg (vp_nar .boolean 1)) fun σ4 => cO (¬ (x3 < 0 ∨ 24 ≤ x3.toNatClampNeg)) (lt (aWI σ4 280 x3.toNatClampNeg x4) fun σ8 => cO (¬ (x1 < 0 ∨ 3 ≤ x1.toNatClampNeg)) (cO (¬ (x3 < 0 ∨ 24 ≤ x3.toNatClampNeg)) (lt (aWI σ8 281 x3.toNatClampNeg (aI σ8 279 x1.toNatClampNeg)) fun σ13 => cO (¬ (x3 < 0 ∨ 24 ≤ x3.toNatClampNeg)) (lt (aWI σ13 282 x3.toNatClampNeg x2) fun σ17 => cO (¬ (x3 < 0 ∨ 24 ≤ x3.toNatClampNeg)) (lt (aWI σ17 283 x3.toNatClampNeg x1) fun σ21 => cO (¬ (x3 < 0 ∨ 24 ≤ x3.toNatClampNeg)) (cO (¬ (((6 * x4) + (aI σ21 260 x3.toNatClampNeg)) < 0 ∨ 36 ≤ ((6 * x4) + (aI σ21 260 x3.toNatClampNeg)).toNatClampNeg)) (cO (¬ (x3 < 0 ∨ 24 ≤ x3.toNatClampNeg)) (cO (¬ (((6 * x4) + (aI σ21 260 x3.toNatClampNeg)) < 0 ∨ 36 ≤ ((6 * x4) + (aI σ21 260 x3.toNatClampNeg)).toNatClampNeg)) (lt (aWI σ21 276 ((6 * x4) + (aI σ21 260 x3.toNatClampNeg)).toNatClampNeg ((aI σ21 276 ((6 * x4) + (aI σ21 260 x3.toNatClampNeg)).toNatClampNeg) + (aI σ21 262 x3.toNatClampNeg))) fun σ28 => cO (¬ (x4 < 0 ∨ 6 ≤ x4.toNatClampNeg)) (cO (¬ (x1 < 0 ∨ 3 ≤ x1.toNatClampNeg)) (cO (¬ (x3 < 0 ∨ 24 ≤ x3.toNatClampNeg)) (cO (¬ (x4 < 0 ∨ 6 ≤ x4.toNatClampNeg)) (lt (aWI σ28 277 x4.toNatClampNeg ((aI σ28 277 x4.toNatClampNeg) + ((aI σ28 279 x1.toNatClampNeg) * (aI σ28 262 x3.toNatClampNeg)))) fun σ35 => cO (¬ (x1 < 0 ∨ 3 ≤ x1.toNatClampNeg)) (lt (aWI σ35 278 x1.toNatClampNeg ((-1))) fun σ39 => cO (vp_nar .boolean 1 = 1) (some (1, σ39))))))))))))))))) else cO (vp_nar .boolean 0 = 0) (some (0, σ)) else cO (¬ (x6 < 0 ∨ 6 ≤ x6.toNatClampNeg)) (if (aI σ 286 x6.toNatClampNeg) = 0 then oB (F_X12_limitOf N x6 x3 σ) fun y46 σ47 => cO (¬ (x1 < 0 ∨ 3 ≤ x1.toNatClampNeg)) (if y46 < (aI σ47 279 x1.toNatClampNeg) then J_X12_stops_82 N (H_X12_stops_16 N n) x1 x2 x3 x4 x5 x6 σ47 else if x4 = ((-1)) then J_X12_stops_74 N (H_X12_stops_16 N n) x1 x2 x3 x6 y46 σ47 else if x5 < y46 then J_X12_stops_74 N (H_X12_stops_16 N n) x1 x2 x3 x6 y46 σ47 else J_X12_stops_82 N (H_X12_stops_16 N n) x1 x2 x3 x4 x5 x6 σ47) else J_X12_stops_82 N (H_X12_stops_16 N n) x1 x2 x3 x4 x5 x6 σ)) = some q := h
    refine ev_a (fun he => ev_iload rfl rfl he) ?_
    refine ev_a (fun he => ev_aload rfl rfl he) ?_
    refine ev_a (fun he => ev_getI rfl (gr_ob (n := 80) hG rfl) he) ?_
    refine ev_b (c := (aI σ 235 43) ≤ x6) (fun ht hf => ev_cge rfl ht hf) (fun hc1 => ?_) (fun hc1 => ?_)
    · rw [if_pos hc1] at h
      refine ev_a (fun he => ev_iload rfl rfl he) ?_
      refine ev_a (fun he => ev_push rfl he) ?_
      refine ev_b (c := x4 ≠ ((-1))) (fun ht hf => ev_cne rfl ht hf) (fun hc2 => ?_) (fun hc2 => ?_)
      · rw [if_pos hc2] at h
        refine ev_a (fun he => ev_aload rfl rfl he) ?_
        refine ev_a (fun he => ev_getR rfl (gr_ob (n := 80) hG rfl) (gr_p (a := 235) (k := 69) (b := 286) hG rfl) he) ?_
        refine ev_a (fun he => ev_iload rfl rfl he) ?_
        refine ev_a (fun he => ev_push rfl he) ?_
        obtain ⟨hc3, h⟩ := cO_inv h
        obtain ⟨σ4, e5, h⟩ := lt_inv h
        have hG6 : Gr σ4 := gr_wi e5 hG
        refine ev_a (fun he => ev_astI (k := x4.toNatClampNeg) rfl (gr_ar hG rfl) hc3 rfl rfl e5 he) ?_
        refine ev_a (fun he => ev_aload rfl rfl he) ?_
        refine ev_a (fun he => ev_getR rfl (gr_ob (n := 80) hG6 rfl) (gr_p (a := 235) (k := 63) (b := 280) hG6 rfl) he) ?_
        refine ev_a (fun he => ev_iload rfl rfl he) ?_
        refine ev_a (fun he => ev_iload rfl rfl he) ?_
        obtain ⟨hc7, h⟩ := cO_inv h
        obtain ⟨σ8, e9, h⟩ := lt_inv h
        have hG10 : Gr σ8 := gr_wi e9 hG6
        refine ev_a (fun he => ev_astI (k := x3.toNatClampNeg) rfl (gr_ar hG6 rfl) hc7 rfl rfl e9 he) ?_
        refine ev_a (fun he => ev_aload rfl rfl he) ?_
        refine ev_a (fun he => ev_getR rfl (gr_ob (n := 80) hG10 rfl) (gr_p (a := 235) (k := 64) (b := 281) hG10 rfl) he) ?_
        refine ev_a (fun he => ev_iload rfl rfl he) ?_
        refine ev_a (fun he => ev_aload rfl rfl he) ?_
        refine ev_a (fun he => ev_getR rfl (gr_ob (n := 80) hG10 rfl) (gr_p (a := 235) (k := 62) (b := 279) hG10 rfl) he) ?_
        refine ev_a (fun he => ev_iload rfl rfl he) ?_
        obtain ⟨hc11, h⟩ := cO_inv h
        refine ev_a (fun he => ev_aldI (k := x1.toNatClampNeg) rfl (gr_ar hG10 rfl) hc11 rfl he) ?_
        obtain ⟨hc12, h⟩ := cO_inv h
        obtain ⟨σ13, e14, h⟩ := lt_inv h
        have hG15 : Gr σ13 := gr_wi e14 hG10
        refine ev_a (fun he => ev_astI (k := x3.toNatClampNeg) rfl (gr_ar hG10 rfl) hc12 rfl rfl e14 he) ?_
        refine ev_a (fun he => ev_aload rfl rfl he) ?_
        refine ev_a (fun he => ev_getR rfl (gr_ob (n := 80) hG15 rfl) (gr_p (a := 235) (k := 65) (b := 282) hG15 rfl) he) ?_
        refine ev_a (fun he => ev_iload rfl rfl he) ?_
        refine ev_a (fun he => ev_iload rfl rfl he) ?_
        obtain ⟨hc16, h⟩ := cO_inv h
        obtain ⟨σ17, e18, h⟩ := lt_inv h
        have hG19 : Gr σ17 := gr_wi e18 hG15
        refine ev_a (fun he => ev_astI (k := x3.toNatClampNeg) rfl (gr_ar hG15 rfl) hc16 rfl rfl e18 he) ?_
        refine ev_a (fun he => ev_aload rfl rfl he) ?_
        refine ev_a (fun he => ev_getR rfl (gr_ob (n := 80) hG19 rfl) (gr_p (a := 235) (k := 66) (b := 283) hG19 rfl) he) ?_
        refine ev_a (fun he => ev_iload rfl rfl he) ?_
        refine ev_a (fun he => ev_iload rfl rfl he) ?_
        obtain ⟨hc20, h⟩ := cO_inv h
        obtain ⟨σ21, e22, h⟩ := lt_inv h
        have hG23 : Gr σ21 := gr_wi e22 hG19
        refine ev_a (fun he => ev_astI (k := x3.toNatClampNeg) rfl (gr_ar hG19 rfl) hc20 rfl rfl e22 he) ?_
        refine ev_a (fun he => ev_aload rfl rfl he) ?_
        refine ev_a (fun he => ev_getR rfl (gr_ob (n := 80) hG23 rfl) (gr_p (a := 235) (k := 59) (b := 276) hG23 rfl) he) ?_
        refine ev_a (fun he => ev_push rfl he) ?_
        refine ev_a (fun he => ev_iload rfl rfl he) ?_
        refine ev_a (fun he => ev_bin (z := 6 * x4) rfl rfl he) ?_
        refine ev_a (fun he => ev_aload rfl rfl he) ?_
        refine ev_a (fun he => ev_getR rfl (gr_ob (n := 80) hG23 rfl) (gr_p (a := 235) (k := 39) (b := 260) hG23 rfl) he) ?_
        refine ev_a (fun he => ev_iload rfl rfl he) ?_
        obtain ⟨hc24, h⟩ := cO_inv h
        refine ev_a (fun he => ev_aldI (k := x3.toNatClampNeg) rfl (gr_ar hG23 rfl) hc24 rfl he) ?_
        refine ev_a (fun he => ev_bin (z := (6 * x4) + (aI σ21 260 x3.toNatClampNeg)) rfl rfl he) ?_
        refine ev_a (fun he => ev_dup2 rfl he) ?_
        obtain ⟨hc25, h⟩ := cO_inv h
        refine ev_a (fun he => ev_aldI (k := ((6 * x4) + (aI σ21 260 x3.toNatClampNeg)).toNatClampNeg) rfl (gr_ar hG23 rfl) hc25 rfl he) ?_
        refine ev_a (fun he => ev_aload rfl rfl he) ?_
        refine ev_a (fun he => ev_getR rfl (gr_ob (n := 80) hG23 rfl) (gr_p (a := 235) (k := 41) (b := 262) hG23 rfl) he) ?_
        refine ev_a (fun he => ev_iload rfl rfl he) ?_
        obtain ⟨hc26, h⟩ := cO_inv h
        refine ev_a (fun he => ev_aldI (k := x3.toNatClampNeg) rfl (gr_ar hG23 rfl) hc26 rfl he) ?_
        refine ev_a (fun he => ev_bin (z := (aI σ21 276 ((6 * x4) + (aI σ21 260 x3.toNatClampNeg)).toNatClampNeg) + (aI σ21 262 x3.toNatClampNeg)) rfl rfl he) ?_
        obtain ⟨hc27, h⟩ := cO_inv h
        obtain ⟨σ28, e29, h⟩ := lt_inv h
        have hG30 : Gr σ28 := gr_wi e29 hG23
        refine ev_a (fun he => ev_astI (k := ((6 * x4) + (aI σ21 260 x3.toNatClampNeg)).toNatClampNeg) rfl (gr_ar hG23 rfl) hc27 rfl rfl e29 he) ?_
        refine ev_a (fun he => ev_aload rfl rfl he) ?_
        refine ev_a (fun he => ev_getR rfl (gr_ob (n := 80) hG30 rfl) (gr_p (a := 235) (k := 60) (b := 277) hG30 rfl) he) ?_
        refine ev_a (fun he => ev_iload rfl rfl he) ?_
        refine ev_a (fun he => ev_dup2 rfl he) ?_
        obtain ⟨hc31, h⟩ := cO_inv h
        refine ev_a (fun he => ev_aldI (k := x4.toNatClampNeg) rfl (gr_ar hG30 rfl) hc31 rfl he) ?_
        refine ev_a (fun he => ev_aload rfl rfl he) ?_
        refine ev_a (fun he => ev_getR rfl (gr_ob (n := 80) hG30 rfl) (gr_p (a := 235) (k := 62) (b := 279) hG30 rfl) he) ?_
        refine ev_a (fun he => ev_iload rfl rfl he) ?_
        obtain ⟨hc32, h⟩ := cO_inv h
        refine ev_a (fun he => ev_aldI (k := x1.toNatClampNeg) rfl (gr_ar hG30 rfl) hc32 rfl he) ?_
        refine ev_a (fun he => ev_aload rfl rfl he) ?_
        refine ev_a (fun he => ev_getR rfl (gr_ob (n := 80) hG30 rfl) (gr_p (a := 235) (k := 41) (b := 262) hG30 rfl) he) ?_
        refine ev_a (fun he => ev_iload rfl rfl he) ?_
        obtain ⟨hc33, h⟩ := cO_inv h
        refine ev_a (fun he => ev_aldI (k := x3.toNatClampNeg) rfl (gr_ar hG30 rfl) hc33 rfl he) ?_
        refine ev_a (fun he => ev_bin (z := (aI σ28 279 x1.toNatClampNeg) * (aI σ28 262 x3.toNatClampNeg)) rfl rfl he) ?_
        refine ev_a (fun he => ev_bin (z := (aI σ28 277 x4.toNatClampNeg) + ((aI σ28 279 x1.toNatClampNeg) * (aI σ28 262 x3.toNatClampNeg))) rfl rfl he) ?_
        obtain ⟨hc34, h⟩ := cO_inv h
        obtain ⟨σ35, e36, h⟩ := lt_inv h
        have hG37 : Gr σ35 := gr_wi e36 hG30
        refine ev_a (fun he => ev_astI (k := x4.toNatClampNeg) rfl (gr_ar hG30 rfl) hc34 rfl rfl e36 he) ?_
        refine ev_a (fun he => ev_aload rfl rfl he) ?_
        refine ev_a (fun he => ev_getR rfl (gr_ob (n := 80) hG37 rfl) (gr_p (a := 235) (k := 61) (b := 278) hG37 rfl) he) ?_
        refine ev_a (fun he => ev_iload rfl rfl he) ?_
        refine ev_a (fun he => ev_push rfl he) ?_
        obtain ⟨hc38, h⟩ := cO_inv h
        obtain ⟨σ39, e40, h⟩ := lt_inv h
        have hG41 : Gr σ39 := gr_wi e40 hG37
        refine ev_a (fun he => ev_astI (k := x1.toNatClampNeg) rfl (gr_ar hG37 rfl) hc38 rfl rfl e40 he) ?_
        refine ev_a (fun he => ev_push rfl he) ?_
        obtain ⟨hc42, h⟩ := cO_inv h
        cases h
        exact ⟨ev_retZ rfl hc42, hG41⟩
      · rw [if_neg hc2] at h
        refine ev_a (fun he => ev_push rfl he) ?_
        obtain ⟨hc43, h⟩ := cO_inv h
        cases h
        exact ⟨ev_retZ rfl hc43, hG⟩
    · rw [if_neg hc1] at h
      refine ev_a (fun he => ev_aload rfl rfl he) ?_
      refine ev_a (fun he => ev_getR rfl (gr_ob (n := 80) hG rfl) (gr_p (a := 235) (k := 69) (b := 286) hG rfl) he) ?_
      refine ev_a (fun he => ev_iload rfl rfl he) ?_
      obtain ⟨hc44, h⟩ := cO_inv h
      refine ev_a (fun he => ev_aldI (k := x6.toNatClampNeg) rfl (gr_ar hG rfl) hc44 rfl he) ?_
      refine ev_b (c := (aI σ 286 x6.toNatClampNeg) = 0) (fun ht hf => ev_ifeq rfl ht hf) (fun hc45 => ?_) (fun hc45 => ?_)
      · rw [if_pos hc45] at h
        refine ev_a (fun he => ev_aload rfl rfl he) ?_
        refine ev_a (fun he => ev_iload rfl rfl he) ?_
        refine ev_a (fun he => ev_iload rfl rfl he) ?_
        obtain ⟨y46, σ47, h48, h⟩ := oB_inv h
        obtain ⟨c49, hG50⟩ := T_X12_limitOf xs L N x6 x3 σ (y46, σ47) h48 hG
        refine ev_a (fun he => ev_callV (as := [.int x6, .int x3]) rfl (gr_ob (n := 80) hG rfl) rfl rfl rfl (Nat.le_of_ble_eq_true rfl) (Nat.le_of_ble_eq_true rfl) c49 he) ?_
        refine ev_a (fun he => ev_istore (ls' := [.ref 235, .int x1, .int x2, .int x3, .int x4, .int x5, .int x6, .int y46]) rfl (Nat.le_of_ble_eq_true rfl) rfl he) ?_
        refine ev_a (fun he => ev_iload rfl rfl he) ?_
        refine ev_a (fun he => ev_aload rfl rfl he) ?_
        refine ev_a (fun he => ev_getR rfl (gr_ob (n := 80) hG50 rfl) (gr_p (a := 235) (k := 62) (b := 279) hG50 rfl) he) ?_
        refine ev_a (fun he => ev_iload rfl rfl he) ?_
        obtain ⟨hc51, h⟩ := cO_inv h
        refine ev_a (fun he => ev_aldI (k := x1.toNatClampNeg) rfl (gr_ar hG50 rfl) hc51 rfl he) ?_
        refine ev_b (c := y46 < (aI σ47 279 x1.toNatClampNeg)) (fun ht hf => ev_clt rfl ht hf) (fun hc52 => ?_) (fun hc52 => ?_)
        · rw [if_pos hc52] at h
          exact TJ_X12_stops_82 xs L N (H_X12_stops_16 N n) hk16 x1 x2 x3 x4 x5 x6 (.int y46) σ47 q h hG50
        · rw [if_neg hc52] at h
          refine ev_a (fun he => ev_iload rfl rfl he) ?_
          refine ev_a (fun he => ev_push rfl he) ?_
          refine ev_b (c := x4 = ((-1))) (fun ht hf => ev_ceq rfl ht hf) (fun hc53 => ?_) (fun hc53 => ?_)
          · rw [if_pos hc53] at h
            exact TJ_X12_stops_74 xs L N (H_X12_stops_16 N n) hk16 x1 x2 x3 x6 y46 (.int x4) (.int x5) σ47 q h hG50
          · rw [if_neg hc53] at h
            refine ev_a (fun he => ev_iload rfl rfl he) ?_
            refine ev_a (fun he => ev_iload rfl rfl he) ?_
            refine ev_b (c := x5 < y46) (fun ht hf => ev_cgt rfl ht hf) (fun hc54 => ?_) (fun hc54 => ?_)
            · rw [if_pos hc54] at h
              exact TJ_X12_stops_74 xs L N (H_X12_stops_16 N n) hk16 x1 x2 x3 x6 y46 (.int x4) (.int x5) σ47 q h hG50
            · rw [if_neg hc54] at h
              refine ev_a (fun he => ev_goto rfl he) ?_
              exact TJ_X12_stops_82 xs L N (H_X12_stops_16 N n) hk16 x1 x2 x3 x4 x5 x6 (.int y46) σ47 q h hG50
      · rw [if_neg hc45] at h
        refine ev_a (fun he => ev_goto rfl he) ?_
        exact TJ_X12_stops_82 xs L N (H_X12_stops_16 N n) hk16 x1 x2 x3 x4 x5 x6 (d7) σ q h hG
def F_X12_stops (N : Nat) (x1 : Int32) (x2 : Int32) (σ : aSt) : Option (Int32 × aSt) := cO (¬ (x1 < 0 ∨ 3 ≤ x1.toNatClampNeg)) (H_X12_stops_16 N N x1 x2 (aI σ 278 x1.toNatClampNeg) ((-1)) 0 0 σ)
set_option maxRecDepth 20000 in
set_option maxHeartbeats 4000000 in
theorem T_X12_stops (xs : Nat → Int32) (L : Nat) (N : Nat) (x1 : Int32) (x2 : Int32) (σ : aSt) (q : Int32 × aSt) (h : F_X12_stops N x1 x2 σ = some q) (hG : Gr σ) : Cal xs L 158 [.ref 235, .int x1, .int x2] σ (wI q.1) q.2 ∧ Gr q.2 := by
  have h : (cO (¬ (x1 < 0 ∨ 3 ≤ x1.toNatClampNeg)) (H_X12_stops_16 N N x1 x2 (aI σ 278 x1.toNatClampNeg) ((-1)) 0 0 σ)) = some q := h
  show Ev xs L 158 0 [.ref 235, .int x1, .int x2, aU, aU, aU, aU, aU] [] σ (wI q.1) q.2 ∧ Gr q.2
  refine ev_a (fun he => ev_aload rfl rfl he) ?_
  refine ev_a (fun he => ev_getR rfl (gr_ob (n := 80) hG rfl) (gr_p (a := 235) (k := 61) (b := 278) hG rfl) he) ?_
  refine ev_a (fun he => ev_iload rfl rfl he) ?_
  obtain ⟨hc55, h⟩ := cO_inv h
  refine ev_a (fun he => ev_aldI (k := x1.toNatClampNeg) rfl (gr_ar hG rfl) hc55 rfl he) ?_
  refine ev_a (fun he => ev_istore (ls' := [.ref 235, .int x1, .int x2, .int (aI σ 278 x1.toNatClampNeg), aU, aU, aU, aU]) rfl (Nat.le_of_ble_eq_true rfl) rfl he) ?_
  refine ev_a (fun he => ev_push rfl he) ?_
  refine ev_a (fun he => ev_istore (ls' := [.ref 235, .int x1, .int x2, .int (aI σ 278 x1.toNatClampNeg), .int ((-1)), aU, aU, aU]) rfl (Nat.le_of_ble_eq_true rfl) rfl he) ?_
  refine ev_a (fun he => ev_push rfl he) ?_
  refine ev_a (fun he => ev_istore (ls' := [.ref 235, .int x1, .int x2, .int (aI σ 278 x1.toNatClampNeg), .int ((-1)), .int 0, aU, aU]) rfl (Nat.le_of_ble_eq_true rfl) rfl he) ?_
  refine ev_a (fun he => ev_push rfl he) ?_
  refine ev_a (fun he => ev_istore (ls' := [.ref 235, .int x1, .int x2, .int (aI σ 278 x1.toNatClampNeg), .int ((-1)), .int 0, .int 0, aU]) rfl (Nat.le_of_ble_eq_true rfl) rfl he) ?_
  exact TH_X12_stops_16 xs L N N x1 x2 (aI σ 278 x1.toNatClampNeg) ((-1)) 0 0 (aU) σ q h hG
