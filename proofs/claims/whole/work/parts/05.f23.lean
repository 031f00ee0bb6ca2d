def J_X12_is_25 (N : Nat) (s0 : Int32) (σ : aSt) : Option (Int32 × aSt) := cO (vp_nar .boolean s0 = s0) (some (s0, σ))
set_option maxRecDepth 20000 in
set_option maxHeartbeats 4000000 in
theorem TJ_X12_is_25 (xs : Nat → Int32) (L : Nat) (N : Nat) (s0 : Int32) (d0 : Value) (d1 : Value) (σ : aSt) (q : Int32 × aSt) (h : J_X12_is_25 N s0 σ = some q) (hG : Gr σ) : Ev xs L 129 25 [d0, d1] [.int s0] σ (wI q.1) q.2 ∧ Gr q.2 := by
  have h : (cO (vp_nar .boolean s0 = s0) (some (s0, σ))) = some q := h
  obtain ⟨hc1, h⟩ := cO_inv h
  cases h
  exact ⟨ev_retZ rfl hc1, hG⟩
def J_X12_is_24 (N : Nat) (σ : aSt) : Option (Int32 × aSt) := J_X12_is_25 N 0 σ
set_option maxRecDepth 20000 in
set_option maxHeartbeats 4000000 in
theorem TJ_X12_is_24 (xs : Nat → Int32) (L : Nat) (N : Nat) (d0 : Value) (d1 : Value) (σ : aSt) (q : Int32 × aSt) (h : J_X12_is_24 N  σ = some q) (hG : Gr σ) : Ev xs L 129 24 [d0, d1] [] σ (wI q.1) q.2 ∧ Gr q.2 := by
  have h : (J_X12_is_25 N 0 σ) = some q := h
  refine ev_a (fun he => ev_push rfl he) ?_
  exact TJ_X12_is_25 xs L N 0 (d0) (d1) σ q h hG
def F_X12_is (N : Nat) (x1 : Int32) (σ : aSt) : Option (Int32 × aSt) := if (aI σ 235 13) ≠ 0 then J_X12_is_24 N σ else cO (¬ ((aI σ 235 11) < 0 ∨ 403 ≤ (aI σ 235 11).toNatClampNeg)) (if (aI σ 238 (aI σ 235 11).toNatClampNeg) ≠ x1 then J_X12_is_24 N σ else J_X12_is_25 N 1 σ)
set_option maxRecDepth 20000 in
set_option maxHeartbeats 4000000 in
theorem T_X12_is (xs : Nat → Int32) (L : Nat) (N : Nat) (x1 : Int32) (σ : aSt) (q : Int32 × aSt) (h : F_X12_is N x1 σ = some q) (hG : Gr σ) : Cal xs L 129 [.ref 235, .int x1] σ (wI q.1) q.2 ∧ Gr q.2 := by
  have h : (if (aI σ 235 13) ≠ 0 then J_X12_is_24 N σ else cO (¬ ((aI σ 235 11) < 0 ∨ 403 ≤ (aI σ 235 11).toNatClampNeg)) (if (aI σ 238 (aI σ 235 11).toNatClampNeg) ≠ x1 then J_X12_is_24 N σ else J_X12_is_25 N 1 σ)) = some q := h
  show Ev xs L 129 0 [.ref 235, .int x1] [] σ (wI q.1) q.2 ∧ Gr q.2
  refine ev_a (fun he => ev_aload rfl rfl he) ?_
  refine ev_a (fun he => ev_getI rfl (gr_ob (n := 80) hG rfl) he) ?_
  refine ev_b (c := (aI σ 235 13) ≠ 0) (fun ht hf => ev_ifne rfl ht hf) (fun hc2 => ?_) (fun hc2 => ?_)
  · rw [if_pos hc2] at h
    exact TJ_X12_is_24 xs L N (.ref 235) (.int x1) σ q h hG
  · rw [if_neg hc2] at h
    refine ev_a (fun he => ev_aload rfl rfl he) ?_
    refine ev_a (fun he => ev_getR rfl (gr_ob (n := 80) hG rfl) (gr_p (a := 235) (k := 5) (b := 238) hG rfl) he) ?_
    refine ev_a (fun he => ev_aload rfl rfl he) ?_
    refine ev_a (fun he => ev_getI rfl (gr_ob (n := 80) hG rfl) he) ?_
    obtain ⟨hc3, h⟩ := cO_inv h
    refine ev_a (fun he => ev_aldI (k := (aI σ 235 11).toNatClampNeg) rfl (gr_ar hG rfl) hc3 rfl he) ?_
    refine ev_a (fun he => ev_iload rfl rfl he) ?_
    refine ev_b (c := (aI σ 238 (aI σ 235 11).toNatClampNeg) ≠ x1) (fun ht hf => ev_cne rfl ht hf) (fun hc4 => ?_) (fun hc4 => ?_)
    · rw [if_pos hc4] at h
      exact TJ_X12_is_24 xs L N (.ref 235) (.int x1) σ q h hG
    · rw [if_neg hc4] at h
      refine ev_a (fun he => ev_push rfl he) ?_
      refine ev_a (fun he => ev_goto rfl he) ?_
      exact TJ_X12_is_25 xs L N 1 (.ref 235) (.int x1) σ q h hG
def F_X12_fail (N : Nat) (x1 : Int32) (σ : aSt) : Option (Unit × aSt) := if (aI σ 235 13) ≤ 0 then lt (aWI σ 235 13 x1) fun σ2 => cO (¬ ((aI σ2 235 11) < 0 ∨ 403 ≤ (aI σ2 235 11).toNatClampNeg)) (lt (aWI σ2 235 14 (aI σ2 239 (aI σ2 235 11).toNatClampNeg)) fun σ6 => some ((), σ6)) else some ((), σ)
set_option maxRecDepth 20000 in
set_option maxHeartbeats 4000000 in
theorem T_X12_fail (xs : Nat → Int32) (L : Nat) (N : Nat) (x1 : Int32) (σ : aSt) (q : Unit × aSt) (h : F_X12_fail N x1 σ = some q) (hG : Gr σ) : Cal xs L 130 [.ref 235, .int x1] σ (wV q.1) q.2 ∧ Gr q.2 := by
  have h : (if (aI σ 235 13) ≤ 0 then lt (aWI σ 235 13 x1) fun σ2 => cO (¬ ((aI σ2 235 11) < 0 ∨ 403 ≤ (aI σ2 235 11).toNatClampNeg)) (lt (aWI σ2 235 14 (aI σ2 239 (aI σ2 235 11).toNatClampNeg)) fun σ6 => some ((), σ6)) else some ((), σ)) = some q := h
  show Ev xs L 130 0 [.ref 235, .int x1] [] σ (wV q.1) q.2 ∧ Gr q.2
  refine ev_a (fun he => ev_aload rfl rfl he) ?_
  refine ev_a (fun he => ev_getI rfl (gr_ob (n := 80) hG rfl) he) ?_
  refine ev_b (c := (aI σ 235 13) ≤ 0) (fun ht hf => ev_ifle rfl ht hf) (fun hc1 => ?_) (fun hc1 => ?_)
  · rw [if_pos hc1] at h
    refine ev_a (fun he => ev_aload rfl rfl he) ?_
    refine ev_a (fun he => ev_iload rfl rfl he) ?_
    obtain ⟨σ2, e3, h⟩ := lt_inv h
    have hG4 : Gr σ2 := gr_wi e3 hG
    refine ev_a (fun he => ev_putI rfl (gr_ob (n := 80) hG rfl) e3 he) ?_
    refine ev_a (fun he => ev_aload rfl rfl he) ?_
    refine ev_a (fun he => ev_aload rfl rfl he) ?_
    refine ev_a (fun he => ev_getR rfl (gr_ob (n := 80) hG4 rfl) (gr_p (a := 235) (k := 6) (b := 239) hG4 rfl) he) ?_
    refine ev_a (fun he => ev_aload rfl rfl he) ?_
    refine ev_a (fun he => ev_getI rfl (gr_ob (n := 80) hG4 rfl) he) ?_
    obtain ⟨hc5, h⟩ := cO_inv h
    refine ev_a (fun he => ev_aldI (k := (aI σ2 235 11).toNatClampNeg) rfl (gr_ar hG4 rfl) hc5 rfl he) ?_
    obtain ⟨σ6, e7, h⟩ := lt_inv h
    have hG8 : Gr σ6 := gr_wi e7 hG4
    refine ev_a (fun he => ev_putI rfl (gr_ob (n := 80) hG4 rfl) e7 he) ?_
    cases h
    exact ⟨ev_retV rfl, hG8⟩
  · rw [if_neg hc1] at h
    cases h
    exact ⟨ev_retV rfl, hG⟩
def J_X12_next_28 (N : Nat) (σ : aSt) : Option (Unit × aSt) := some ((), σ)
set_option maxRecDepth 20000 in
set_option maxHeartbeats 4000000 in
theorem TJ_X12_next_28 (xs : Nat → Int32) (L : Nat) (N : Nat) (d0 : Value) (σ : aSt) (q : Unit × aSt) (h : J_X12_next_28 N  σ = some q) (hG : Gr σ) : Ev xs L 131 28 [d0] [] σ (wV q.1) q.2 ∧ Gr q.2 := by
  have h : (some ((), σ)) = some q := h
  cases h
  exact ⟨ev_retV rfl, hG⟩
def F_X12_next (N : Nat) (σ : aSt) : Option (Unit × aSt) := if (aI σ 235 11) ≠ 400 then lt (aWI σ 235 11 ((aI σ 235 11) + 1)) fun σ2 => J_X12_next_28 N σ2 else oB (F_X12_fail N 2 σ) fun y5 σ6 => J_X12_next_28 N σ6
set_option maxRecDepth 20000 in
set_option maxHeartbeats 4000000 in
theorem T_X12_next (xs : Nat → Int32) (L : Nat) (N : Nat) (σ : aSt) (q : Unit × aSt) (h : F_X12_next N σ = some q) (hG : Gr σ) : Cal xs L 131 [.ref 235] σ (wV q.1) q.2 ∧ Gr q.2 := by
  have h : (if (aI σ 235 11) ≠ 400 then lt (aWI σ 235 11 ((aI σ 235 11) + 1)) fun σ2 => J_X12_next_28 N σ2 else oB (F_X12_fail N 2 σ) fun y5 σ6 => J_X12_next_28 N σ6) = some q := h
  show Ev xs L 131 0 [.ref 235] [] σ (wV q.1) q.2 ∧ Gr q.2
  refine ev_a (fun he => ev_aload rfl rfl he) ?_
  refine ev_a (fun he => ev_getI rfl (gr_ob (n := 80) hG rfl) he) ?_
  refine ev_a (fun he => ev_push rfl he) ?_
  refine ev_b (c := (aI σ 235 11) ≠ 400) (fun ht hf => ev_cne rfl ht hf) (fun hc1 => ?_) (fun hc1 => ?_)
  · rw [if_pos hc1] at h
    refine ev_a (fun he => ev_aload rfl rfl he) ?_
    refine ev_a (fun he => ev_dupR rfl he) ?_
    refine ev_a (fun he => ev_getI rfl (gr_ob (n := 80) hG rfl) he) ?_
    refine ev_a (fun he => ev_push rfl he) ?_
    refine ev_a (fun he => ev_bin (z := (aI σ 235 11) + 1) rfl rfl he) ?_
    obtain ⟨σ2, e3, h⟩ := lt_inv h
    have hG4 : Gr σ2 := gr_wi e3 hG
    refine ev_a (fun he => ev_putI rfl (gr_ob (n := 80) hG rfl) e3 he) ?_
    exact TJ_X12_next_28 xs L N (.ref 235) σ2 q h hG4
  · rw [if_neg hc1] at h
    refine ev_a (fun he => ev_aload rfl rfl he) ?_
    refine ev_a (fun he => ev_push rfl he) ?_
    obtain ⟨y5, σ6, h7, h⟩ := oB_inv h
    obtain ⟨c8, hG9⟩ := T_X12_fail xs L N 2 σ (y5, σ6) h7 hG
    refine ev_a (fun he => ev_callV (as := [.int 2]) rfl (gr_ob (n := 80) hG rfl) rfl rfl rfl (Nat.le_of_ble_eq_true rfl) (Nat.le_of_ble_eq_true rfl) c8 he) ?_
    refine ev_a (fun he => ev_goto rfl he) ?_
    exact TJ_X12_next_28 xs L N (.ref 235) σ6 q h hG9
def J_X12_must_20 (N : Nat) (σ : aSt) : Option (Unit × aSt) := some ((), σ)
set_option maxRecDepth 20000 in
set_option maxHeartbeats 4000000 in
theorem TJ_X12_must_20 (xs : Nat → Int32) (L : Nat) (N : Nat) (d0 : Value) (d1 : Value) (σ : aSt) (q : Unit × aSt) (h : J_X12_must_20 N  σ = some q) (hG : Gr σ) : Ev xs L 132 20 [d0, d1] [] σ (wV q.1) q.2 ∧ Gr q.2 := by
  have h : (some ((), σ)) = some q := h
  cases h
  exact ⟨ev_retV rfl, hG⟩
def F_X12_must (N : Nat) (x1 : Int32) (σ : aSt) : Option (Unit × aSt) := oB (F_X12_is N x1 σ) fun y1 σ2 => if y1 = 0 then oB (F_X12_fail N 1 σ2) fun y7 σ8 => J_X12_must_20 N σ8 else oB (F_X12_next N σ2) fun y12 σ13 => J_X12_must_20 N σ13
set_option maxRecDepth 20000 in
set_option maxHeartbeats 4000000 in
theorem T_X12_must (xs : Nat → Int32) (L : Nat) (N : Nat) (x1 : Int32) (σ : aSt) (q : Unit × aSt) (h : F_X12_must N x1 σ = some q) (hG : Gr σ) : Cal xs L 132 [.ref 235, .int x1] σ (wV q.1) q.2 ∧ Gr q.2 := by
  have h : (oB (F_X12_is N x1 σ) fun y1 σ2 => if y1 = 0 then oB (F_X12_fail N 1 σ2) fun y7 σ8 => J_X12_must_20 N σ8 else oB (F_X12_next N σ2) fun y12 σ13 => J_X12_must_20 N σ13) = some q := h
  show Ev xs L 132 0 [.ref 235, .int x1] [] σ (wV q.1) q.2 ∧ Gr q.2
  refine ev_a (fun he => ev_aload rfl rfl he) ?_
  refine ev_a (fun he => ev_iload rfl rfl he) ?_
  obtain ⟨y1, σ2, h3, h⟩ := oB_inv h
  obtain ⟨c4, hG5⟩ := T_X12_is xs L N x1 σ (y1, σ2) h3 hG
  refine ev_a (fun he => ev_callV (as := [.int x1]) rfl (gr_ob (n := 80) hG rfl) rfl rfl rfl (Nat.le_of_ble_eq_true rfl) (Nat.le_of_ble_eq_true rfl) c4 he) ?_
  refine ev_b (c := y1 = 0) (fun ht hf => ev_ifeq rfl ht hf) (fun hc6 => ?_) (fun hc6 => ?_)
  · rw [if_pos hc6] at h
    refine ev_a (fun he => ev_aload rfl rfl he) ?_
    refine ev_a (fun he => ev_push rfl he) ?_
    obtain ⟨y7, σ8, h9, h⟩ := oB_inv h
    obtain ⟨c10, hG11⟩ := T_X12_fail xs L N 1 σ2 (y7, σ8) h9 hG5
    refine ev_a (fun he => ev_callV (as := [.int 1]) rfl (gr_ob (n := 80) hG5 rfl) rfl rfl rfl (Nat.le_of_ble_eq_true rfl) (Nat.le_of_ble_eq_true rfl) c10 he) ?_
    exact TJ_X12_must_20 xs L N (.ref 235) (.int x1) σ8 q h hG11
  · rw [if_neg hc6] at h
    refine ev_a (fun he => ev_aload rfl rfl he) ?_
    obtain ⟨y12, σ13, h14, h⟩ := oB_inv h
    obtain ⟨c15, hG16⟩ := T_X12_next xs L N σ2 (y12, σ13) h14 hG5
    refine ev_a (fun he => ev_callV (as := []) rfl (gr_ob (n := 80) hG5 rfl) rfl rfl rfl (Nat.le_of_ble_eq_true rfl) (Nat.le_of_ble_eq_true rfl) c15 he) ?_
    refine ev_a (fun he => ev_goto rfl he) ?_
    exact TJ_X12_must_20 xs L N (.ref 235) (.int x1) σ13 q h hG16
def F_X12_emit (N : Nat) (x1 : Int32) (x2 : Int32) (σ : aSt) : Option (Unit × aSt) := cO (¬ ((aI σ 235 32) < 0 ∨ 7000 ≤ (aI σ 235 32).toNatClampNeg)) (lt (aWI σ 256 (aI σ 235 32).toNatClampNeg x1) fun σ2 => cO (¬ ((aI σ2 235 32) < 0 ∨ 7000 ≤ (aI σ2 235 32).toNatClampNeg)) (lt (aWI σ2 257 (aI σ2 235 32).toNatClampNeg x2) fun σ6 => lt (aWI σ6 235 32 ((aI σ6 235 32) + 1)) fun σ9 => some ((), σ9)))
set_option maxRecDepth 20000 in
set_option maxHeartbeats 4000000 in
theorem T_X12_emit (xs : Nat → Int32) (L : Nat) (N : Nat) (x1 : Int32) (x2 : Int32) (σ : aSt) (q : Unit × aSt) (h : F_X12_emit N x1 x2 σ = some q) (hG : Gr σ) : Cal xs L 137 [.ref 235, .int x1, .int x2] σ (wV q.1) q.2 ∧ Gr q.2 := by
  have h : (cO (¬ ((aI σ 235 32) < 0 ∨ 7000 ≤ (aI σ 235 32).toNatClampNeg)) (lt (aWI σ 256 (aI σ 235 32).toNatClampNeg x1) fun σ2 => cO (¬ ((aI σ2 235 32) < 0 ∨ 7000 ≤ (aI σ2 235 32).toNatClampNeg)) (lt (aWI σ2 257 (aI σ2 235 32).toNatClampNeg x2) fun σ6 => lt (aWI σ6 235 32 ((aI σ6 235 32) + 1)) fun σ9 => some ((), σ9)))) = some q := h
  show Ev xs L 137 0 [.ref 235, .int x1, .int x2] [] σ (wV q.1) q.2 ∧ Gr q.2
  refine ev_a (fun he => ev_aload rfl rfl he) ?_
  refine ev_a (fun he => ev_getR rfl (gr_ob (n := 80) hG rfl) (gr_p (a := 235) (k := 33) (b := 256) hG rfl) he) ?_
  refine ev_a (fun he => ev_aload rfl rfl he) ?_
  refine ev_a (fun he => ev_getI rfl (gr_ob (n := 80) hG rfl) he) ?_
  refine ev_a (fun he => ev_iload rfl rfl he) ?_
  obtain ⟨hc1, h⟩ := cO_inv h
  obtain ⟨σ2, e3, h⟩ := lt_inv h
  have hG4 : Gr σ2 := gr_wi e3 hG
  refine ev_a (fun he => ev_astI (k := (aI σ 235 32).toNatClampNeg) rfl (gr_ar hG rfl) hc1 rfl rfl e3 he) ?_
  refine ev_a (fun he => ev_aload rfl rfl he) ?_
  refine ev_a (fun he => ev_getR rfl (gr_ob (n := 80) hG4 rfl) (gr_p (a := 235) (k := 34) (b := 257) hG4 rfl) he) ?_
  refine ev_a (fun he => ev_aload rfl rfl he) ?_
  refine ev_a (fun he => ev_getI rfl (gr_ob (n := 80) hG4 rfl) he) ?_
  refine ev_a (fun he => ev_iload rfl rfl he) ?_
  obtain ⟨hc5, h⟩ := cO_inv h
  obtain ⟨σ6, e7, h⟩ := lt_inv h
  have hG8 : Gr σ6 := gr_wi e7 hG4
  refine ev_a (fun he => ev_astI (k := (aI σ2 235 32).toNatClampNeg) rfl (gr_ar hG4 rfl) hc5 rfl rfl e7 he) ?_
  refine ev_a (fun he => ev_aload rfl rfl he) ?_
  refine ev_a (fun he => ev_dupR rfl he) ?_
  refine ev_a (fun he => ev_getI rfl (gr_ob (n := 80) hG8 rfl) he) ?_
  refine ev_a (fun he => ev_push rfl he) ?_
  refine ev_a (fun he => ev_bin (z := (aI σ6 235 32) + 1) rfl rfl he) ?_
  obtain ⟨σ9, e10, h⟩ := lt_inv h
  have hG11 : Gr σ9 := gr_wi e10 hG8
  refine ev_a (fun he => ev_putI rfl (gr_ob (n := 80) hG8 rfl) e10 he) ?_
  cases h
  exact ⟨ev_retV rfl, hG11⟩
def J_X12_comesOut_92 (N : Nat) (σ : aSt) : Option (Unit × aSt) := some ((), σ)
set_option maxRecDepth 20000 in
set_option maxHeartbeats 4000000 in
theorem TJ_X12_comesOut_92 (xs : Nat → Int32) (L : Nat) (N : Nat) (d0 : Value) (d1 : Value) (d2 : Value) (σ : aSt) (q : Unit × aSt) (h : J_X12_comesOut_92 N  σ = some q) (hG : Gr σ) : Ev xs L 138 92 [d0, d1, d2] [] σ (wV q.1) q.2 ∧ Gr q.2 := by
  have h : (some ((), σ)) = some q := h
  cases h
  exact ⟨ev_retV rfl, hG⟩
def J_X12_comesOut_85 (N : Nat) (k0 : Int32 → aSt → Option (Unit × aSt)) (x1 : Int32) (s1 : Int32) (σ : aSt) : Option (Unit × aSt) := oB (F_X12_emit N s1 0 σ) fun y1 σ2 => k0 x1 σ2
set_option maxRecDepth 20000 in
set_option maxHeartbeats 4000000 in
theorem TJ_X12_comesOut_85 (xs : Nat → Int32) (L : Nat) (N : Nat) (k0 : Int32 → aSt → Option (Unit × aSt)) (hk0 : ∀ (x1 : Int32) (d2 : Value) (σ : aSt) (q : Unit × aSt), k0 x1 σ = some q → Gr σ → Ev xs L 138 0 [.ref 235, .int x1, d2] [] σ (wV q.1) q.2 ∧ Gr q.2) (x1 : Int32) (s1 : Int32) (d2 : Value) (σ : aSt) (q : Unit × aSt) (h : J_X12_comesOut_85 N k0 x1 s1 σ = some q) (hG : Gr σ) : Ev xs L 138 85 [.ref 235, .int x1, d2] [.int s1, .ref 235] σ (wV q.1) q.2 ∧ Gr q.2 := by
  have h : (oB (F_X12_emit N s1 0 σ) fun y1 σ2 => k0 x1 σ2) = some q := h
  refine ev_a (fun he => ev_push rfl he) ?_
  obtain ⟨y1, σ2, h3, h⟩ := oB_inv h
  obtain ⟨c4, hG5⟩ := T_X12_emit xs L N s1 0 σ (y1, σ2) h3 hG
  refine ev_a (fun he => ev_callV (as := [.int s1, .int 0]) rfl (gr_ob (n := 80) hG rfl) rfl rfl rfl (Nat.le_of_ble_eq_true rfl) (Nat.le_of_ble_eq_true rfl) c4 he) ?_
  refine ev_a (fun he => ev_goto rfl he) ?_
  exact hk0 x1 (d2) σ2 q h hG5
def J_X12_comesOut_43 (N : Nat) (k0 : Int32 → aSt → Option (Unit × aSt)) (x1 : Int32) (σ : aSt) : Option (Unit × aSt) := lt (aWI σ 235 36 ((aI σ 235 36) - 1)) fun σ6 => cO (¬ ((aI σ6 235 36) < 0 ∨ 48 ≤ (aI σ6 235 36).toNatClampNeg)) (if (aI σ6 258 (aI σ6 235 36).toNatClampNeg) ≠ 8 then if (aI σ6 258 (aI σ6 235 36).toNatClampNeg) ≠ 9 then J_X12_comesOut_85 N k0 x1 4 σ6 else J_X12_comesOut_85 N k0 x1 3 σ6 else J_X12_comesOut_85 N k0 x1 2 σ6)
set_option maxRecDepth 20000 in
set_option maxHeartbeats 4000000 in
theorem TJ_X12_comesOut_43 (xs : Nat → Int32) (L : Nat) (N : Nat) (k0 : Int32 → aSt → Option (Unit × aSt)) (hk0 : ∀ (x1 : Int32) (d2 : Value) (σ : aSt) (q : Unit × aSt), k0 x1 σ = some q → Gr σ → Ev xs L 138 0 [.ref 235, .int x1, d2] [] σ (wV q.1) q.2 ∧ Gr q.2) (x1 : Int32) (d2 : Value) (σ : aSt) (q : Unit × aSt) (h : J_X12_comesOut_43 N k0 x1 σ = some q) (hG : Gr σ) : Ev xs L 138 43 [.ref 235, .int x1, d2] [] σ (wV q.1) q.2 ∧ Gr q.2 := by
  have h : (lt (aWI σ 235 36 ((aI σ 235 36) - 1)) fun σ6 => cO (¬ ((aI σ6 235 36) < 0 ∨ 48 ≤ (aI σ6 235 36).toNatClampNeg)) (if (aI σ6 258 (aI σ6 235 36).toNatClampNeg) ≠ 8 then if (aI σ6 258 (aI σ6 235 36).toNatClampNeg) ≠ 9 then J_X12_comesOut_85 N k0 x1 4 σ6 else J_X12_comesOut_85 N k0 x1 3 σ6 else J_X12_comesOut_85 N k0 x1 2 σ6)) = some q := h
  refine ev_a (fun he => ev_aload rfl rfl he) ?_
  refine ev_a (fun he => ev_dupR rfl he) ?_
  refine ev_a (fun he => ev_getI rfl (gr_ob (n := 80) hG rfl) he) ?_
  refine ev_a (fun he => ev_push rfl he) ?_
  refine ev_a (fun he => ev_bin (z := (aI σ 235 36) - 1) rfl rfl he) ?_
  obtain ⟨σ6, e7, h⟩ := lt_inv h
  have hG8 : Gr σ6 := gr_wi e7 hG
  refine ev_a (fun he => ev_putI rfl (gr_ob (n := 80) hG rfl) e7 he) ?_
  refine ev_a (fun he => ev_aload rfl rfl he) ?_
  refine ev_a (fun he => ev_getR rfl (gr_ob (n := 80) hG8 rfl) (gr_p (a := 235) (k := 35) (b := 258) hG8 rfl) he) ?_
  refine ev_a (fun he => ev_aload rfl rfl he) ?_
  refine ev_a (fun he => ev_getI rfl (gr_ob (n := 80) hG8 rfl) he) ?_
  obtain ⟨hc9, h⟩ := cO_inv h
  refine ev_a (fun he => ev_aldI (k := (aI σ6 235 36).toNatClampNeg) rfl (gr_ar hG8 rfl) hc9 rfl he) ?_
  refine ev_a (fun he => ev_istore (ls' := [.ref 235, .int x1, .int (aI σ6 258 (aI σ6 235 36).toNatClampNeg)]) rfl (Nat.le_of_ble_eq_true rfl) rfl he) ?_
  refine ev_a (fun he => ev_aload rfl rfl he) ?_
  refine ev_a (fun he => ev_iload rfl rfl he) ?_
  refine ev_a (fun he => ev_push rfl he) ?_
  refine ev_b (c := (aI σ6 258 (aI σ6 235 36).toNatClampNeg) ≠ 8) (fun ht hf => ev_cne rfl ht hf) (fun hc10 => ?_) (fun hc10 => ?_)
  · rw [if_pos hc10] at h
    refine ev_a (fun he => ev_iload rfl rfl he) ?_
    refine ev_a (fun he => ev_push rfl he) ?_
    refine ev_b (c := (aI σ6 258 (aI σ6 235 36).toNatClampNeg) ≠ 9) (fun ht hf => ev_cne rfl ht hf) (fun hc11 => ?_) (fun hc11 => ?_)
    · rw [if_pos hc11] at h
      refine ev_a (fun he => ev_push rfl he) ?_
      exact TJ_X12_comesOut_85 xs L N k0 hk0 x1 4 (.int (aI σ6 258 (aI σ6 235 36).toNatClampNeg)) σ6 q h hG8
    · rw [if_neg hc11] at h
      refine ev_a (fun he => ev_push rfl he) ?_
      refine ev_a (fun he => ev_goto rfl he) ?_
      exact TJ_X12_comesOut_85 xs L N k0 hk0 x1 3 (.int (aI σ6 258 (aI σ6 235 36).toNatClampNeg)) σ6 q h hG8
  · rw [if_neg hc10] at h
    refine ev_a (fun he => ev_push rfl he) ?_
    refine ev_a (fun he => ev_goto rfl he) ?_
    exact TJ_X12_comesOut_85 xs L N k0 hk0 x1 2 (.int (aI σ6 258 (aI σ6 235 36).toNatClampNeg)) σ6 q h hG8
def H_X12_comesOut_0 (N : Nat) : Nat → Int32 → aSt → Option (Unit × aSt)
  | 0, _, _ => none
  | n + 1, x1, σ => if (aI σ 235 36) ≤ 0 then J_X12_comesOut_92 N σ else cO (¬ (((aI σ 235 36) - 1) < 0 ∨ 48 ≤ ((aI σ 235 36) - 1).toNatClampNeg)) (if (aI σ 258 ((aI σ 235 36) - 1).toNatClampNeg) = 6 then J_X12_comesOut_92 N σ else if x1 = 0 then J_X12_comesOut_43 N (H_X12_comesOut_0 N n) x1 σ else cO (¬ (((aI σ 235 36) - 1) < 0 ∨ 48 ≤ ((aI σ 235 36) - 1).toNatClampNeg)) (if (aI σ 258 ((aI σ 235 36) - 1).toNatClampNeg) ≠ 10 then J_X12_comesOut_92 N σ else J_X12_comesOut_43 N (H_X12_comesOut_0 N n) x1 σ))
set_option maxRecDepth 20000 in
set_option maxHeartbeats 4000000 in
theorem TH_X12_comesOut_0 (xs : Nat → Int32) (L : Nat) (N : Nat) : ∀ (n : Nat) (x1 : Int32) (d2 : Value) (σ : aSt) (q : Unit × aSt), H_X12_comesOut_0 N n x1 σ = some q → Gr σ → Ev xs L 138 0 [.ref 235, .int x1, d2] [] σ (wV q.1) q.2 ∧ Gr q.2 := by
  intro n
  induction n with
  | zero =>
    intro x1 d2 σ q h hG
    exact absurd (show (none : Option (Unit × aSt)) = some q from h) (by simp)
  | succ n ih =>
    intro x1 d2 σ q h hG
    have hk0 : ∀ (x1 : Int32) (d2 : Value) (σ : aSt) (q : Unit × aSt), H_X12_comesOut_0 N n x1 σ = some q → Gr σ → Ev xs L 138 0 [.ref 235, .int x1, d2] [] σ (wV q.1) q.2 ∧ Gr q.2 := ih
    have h : (if (aI σ 235 36) ≤ 0 then J_X12_comesOut_92 N σ else cO (¬ (((aI σ 235 36) - 1) < 0 ∨ 48 ≤ ((aI σ 235 36) - 1).toNatClampNeg)) (if (aI σ 258 ((aI σ 235 36) - 1).toNatClampNeg) = 6 then J_X12_comesOut_92 N σ else if x1 = 0 then J_X12_comesOut_43 N (H_X12_comesOut_0 N n) x1 σ else cO (¬ (((aI σ 235 36) - 1) < 0 ∨ 48 ≤ ((aI σ 235 36) - 1).toNatClampNeg)) (if (aI σ 258 ((aI σ 235 36) - 1).toNatClampNeg) ≠ 10 then J_X12_comesOut_92 N σ else J_X12_comesOut_43 N (H_X12_comesOut_0 N n) x1 σ))) = some q := h
    refine ev_a (fun he => ev_aload rfl rfl he) ?_
    refine ev_a (fun he => ev_getI rfl (gr_ob (n := 80) hG rfl) he) ?_
    refine ev_b (c := (aI σ 235 36) ≤ 0) (fun ht hf => ev_ifle rfl ht hf) (fun hc12 => ?_) (fun hc12 => ?_)
    · rw [if_pos hc12] at h
      exact TJ_X12_comesOut_92 xs L N (.ref 235) (.int x1) (d2) σ q h hG
    · rw [if_neg hc12] at h
      refine ev_a (fun he => ev_aload rfl rfl he) ?_
      refine ev_a (fun he => ev_getR rfl (gr_ob (n := 80) hG rfl) (gr_p (a := 235) (k := 35) (b := 258) hG rfl) he) ?_
      refine ev_a (fun he => ev_aload rfl rfl he) ?_
      refine ev_a (fun he => ev_getI rfl (gr_ob (n := 80) hG rfl) he) ?_
      refine ev_a (fun he => ev_push rfl he) ?_
      refine ev_a (fun he => ev_bin (z := (aI σ 235 36) - 1) rfl rfl he) ?_
      obtain ⟨hc13, h⟩ := cO_inv h
      refine ev_a (fun he => ev_aldI (k := ((aI σ 235 36) - 1).toNatClampNeg) rfl (gr_ar hG rfl) hc13 rfl he) ?_
      refine ev_a (fun he => ev_push rfl he) ?_
      refine ev_b (c := (aI σ 258 ((aI σ 235 36) - 1).toNatClampNeg) = 6) (fun ht hf => ev_ceq rfl ht hf) (fun hc14 => ?_) (fun hc14 => ?_)
      · rw [if_pos hc14] at h
        exact TJ_X12_comesOut_92 xs L N (.ref 235) (.int x1) (d2) σ q h hG
      · rw [if_neg hc14] at h
        refine ev_a (fun he => ev_iload rfl rfl he) ?_
        refine ev_b (c := x1 = 0) (fun ht hf => ev_ifeq rfl ht hf) (fun hc15 => ?_) (fun hc15 => ?_)
        · rw [if_pos hc15] at h
          exact TJ_X12_comesOut_43 xs L N (H_X12_comesOut_0 N n) hk0 x1 (d2) σ q h hG
        · rw [if_neg hc15] at h
          refine ev_a (fun he => ev_aload rfl rfl he) ?_
          refine ev_a (fun he => ev_getR rfl (gr_ob (n := 80) hG rfl) (gr_p (a := 235) (k := 35) (b := 258) hG rfl) he) ?_
          refine ev_a (fun he => ev_aload rfl rfl he) ?_
          refine ev_a (fun he => ev_getI rfl (gr_ob (n := 80) hG rfl) he) ?_
          refine ev_a (fun he => ev_push rfl he) ?_
          refine ev_a (fun he => ev_bin (z := (aI σ 235 36) - 1) rfl rfl he) ?_
          obtain ⟨hc16, h⟩ := cO_inv h
          refine ev_a (fun he => ev_aldI (k := ((aI σ 235 36) - 1).toNatClampNeg) rfl (gr_ar hG rfl) hc16 rfl he) ?_
          refine ev_a (fun he => ev_push rfl he) ?_
          refine ev_b (c := (aI σ 258 ((aI σ 235 36) - 1).toNatClampNeg) ≠ 10) (fun ht hf => ev_cne rfl ht hf) (fun hc17 => ?_) (fun hc17 => ?_)
          · rw [if_pos hc17] at h
            exact TJ_X12_comesOut_92 xs L N (.ref 235) (.int x1) (d2) σ q h hG
          · rw [if_neg hc17] at h
            exact TJ_X12_comesOut_43 xs L N (H_X12_comesOut_0 N n) hk0 x1 (d2) σ q h hG
def F_X12_comesOut (N : Nat) (x1 : Int32) (σ : aSt) : Option (Unit × aSt) := H_X12_comesOut_0 N N x1 σ
set_option maxRecDepth 20000 in
set_option maxHeartbeats 4000000 in
theorem T_X12_comesOut (xs : Nat → Int32) (L : Nat) (N : Nat) (x1 : Int32) (σ : aSt) (q : Unit × aSt) (h : F_X12_comesOut N x1 σ = some q) (hG : Gr σ) : Cal xs L 138 [.ref 235, .int x1] σ (wV q.1) q.2 ∧ Gr q.2 := by
  have h : (H_X12_comesOut_0 N N x1 σ) = some q := h
  show Ev xs L 138 0 [.ref 235, .int x1, aU] [] σ (wV q.1) q.2 ∧ Gr q.2
  exact TH_X12_comesOut_0 xs L N N x1 (aU) σ q h hG
def J_X12_expression_360 (N : Nat) (σ : aSt) : Option (Unit × aSt) := some ((), σ)
set_option maxRecDepth 20000 in
set_option maxHeartbeats 4000000 in
theorem TJ_X12_expression_360 (xs : Nat → Int32) (L : Nat) (N : Nat) (d0 : Value) (d1 : Value) (d2 : Value) (d3 : Value) (d4 : Value) (σ : aSt) (q : Unit × aSt) (h : J_X12_expression_360 N  σ = some q) (hG : Gr σ) : Ev xs L 139 360 [d0, d1, d2, d3, d4] [] σ (wV q.1) q.2 ∧ Gr q.2 := by
  have h : (some ((), σ)) = some q := h
  cases h
  exact ⟨ev_retV rfl, hG⟩
def J_X12_expression_329 (N : Nat) (k12 : Int32 → Int32 → aSt → Option (Unit × aSt)) (x1 : Int32) (x2 : Int32) (x4 : Int32) (s1 : Int32) (σ : aSt) : Option (Unit × aSt) := oB (F_X12_comesOut N s1 σ) fun y1 σ2 => cO (¬ ((aI σ2 235 36) < 0 ∨ 48 ≤ (aI σ2 235 36).toNatClampNeg)) (lt (aWI σ2 258 (aI σ2 235 36).toNatClampNeg x4) fun σ7 => lt (aWI σ7 235 36 ((aI σ7 235 36) + 1)) fun σ10 => oB (F_X12_next N σ10) fun y13 σ14 => k12 x1 x2 σ14)
set_option maxRecDepth 20000 in
set_option maxHeartbeats 4000000 in
theorem TJ_X12_expression_329 (xs : Nat → Int32) (L : Nat) (N : Nat) (k12 : Int32 → Int32 → aSt → Option (Unit × aSt)) (hk12 : ∀ (x1 : Int32) (x2 : Int32) (d3 : Value) (d4 : Value) (σ : aSt) (q : Unit × aSt), k12 x1 x2 σ = some q → Gr σ → Ev xs L 139 12 [.ref 235, .int x1, .int x2, d3, d4] [] σ (wV q.1) q.2 ∧ Gr q.2) (x1 : Int32) (x2 : Int32) (x4 : Int32) (s1 : Int32) (d3 : Value) (σ : aSt) (q : Unit × aSt) (h : J_X12_expression_329 N k12 x1 x2 x4 s1 σ = some q) (hG : Gr σ) : Ev xs L 139 329 [.ref 235, .int x1, .int x2, d3, .int x4] [.int s1, .ref 235] σ (wV q.1) q.2 ∧ Gr q.2 := by
  have h : (oB (F_X12_comesOut N s1 σ) fun y1 σ2 => cO (¬ ((aI σ2 235 36) < 0 ∨ 48 ≤ (aI σ2 235 36).toNatClampNeg)) (lt (aWI σ2 258 (aI σ2 235 36).toNatClampNeg x4) fun σ7 => lt (aWI σ7 235 36 ((aI σ7 235 36) + 1)) fun σ10 => oB (F_X12_next N σ10) fun y13 σ14 => k12 x1 x2 σ14)) = some q := h
  obtain ⟨y1, σ2, h3, h⟩ := oB_inv h
  obtain ⟨c4, hG5⟩ := T_X12_comesOut xs L N s1 σ (y1, σ2) h3 hG
  refine ev_a (fun he => ev_callV (as := [.int s1]) rfl (gr_ob (n := 80) hG rfl) rfl rfl rfl (Nat.le_of_ble_eq_true rfl) (Nat.le_of_ble_eq_true rfl) c4 he) ?_
  refine ev_a (fun he => ev_aload rfl rfl he) ?_
  refine ev_a (fun he => ev_getR rfl (gr_ob (n := 80) hG5 rfl) (gr_p (a := 235) (k := 35) (b := 258) hG5 rfl) he) ?_
  refine ev_a (fun he => ev_aload rfl rfl he) ?_
  refine ev_a (fun he => ev_getI rfl (gr_ob (n := 80) hG5 rfl) he) ?_
  refine ev_a (fun he => ev_iload rfl rfl he) ?_
  obtain ⟨hc6, h⟩ := cO_inv h
  obtain ⟨σ7, e8, h⟩ := lt_inv h
  have hG9 : Gr σ7 := gr_wi e8 hG5
  refine ev_a (fun he => ev_astI (k := (aI σ2 235 36).toNatClampNeg) rfl (gr_ar hG5 rfl) hc6 rfl rfl e8 he) ?_
  refine ev_a (fun he => ev_aload rfl rfl he) ?_
  refine ev_a (fun he => ev_dupR rfl he) ?_
  refine ev_a (fun he => ev_getI rfl (gr_ob (n := 80) hG9 rfl) he) ?_
  refine ev_a (fun he => ev_push rfl he) ?_
  refine ev_a (fun he => ev_bin (z := (aI σ7 235 36) + 1) rfl rfl he) ?_
  obtain ⟨σ10, e11, h⟩ := lt_inv h
  have hG12 : Gr σ10 := gr_wi e11 hG9
  refine ev_a (fun he => ev_putI rfl (gr_ob (n := 80) hG9 rfl) e11 he) ?_
  refine ev_a (fun he => ev_aload rfl rfl he) ?_
  obtain ⟨y13, σ14, h15, h⟩ := oB_inv h
  obtain ⟨c16, hG17⟩ := T_X12_next xs L N σ10 (y13, σ14) h15 hG12
  refine ev_a (fun he => ev_callV (as := []) rfl (gr_ob (n := 80) hG12 rfl) rfl rfl rfl (Nat.le_of_ble_eq_true rfl) (Nat.le_of_ble_eq_true rfl) c16 he) ?_
  refine ev_a (fun he => ev_goto rfl he) ?_
  exact hk12 x1 x2 (d3) (.int x4) σ14 q h hG17
def J_X12_expression_299 (N : Nat) (σ : aSt) : Option (Unit × aSt) := oB (F_X12_comesOut N 0 σ) fun y18 σ19 => some ((), σ19)
set_option maxRecDepth 20000 in
set_option maxHeartbeats 4000000 in
theorem TJ_X12_expression_299 (xs : Nat → Int32) (L : Nat) (N : Nat) (d1 : Value) (d2 : Value) (d3 : Value) (d4 : Value) (σ : aSt) (q : Unit × aSt) (h : J_X12_expression_299 N  σ = some q) (hG : Gr σ) : Ev xs L 139 299 [.ref 235, d1, d2, d3, d4] [] σ (wV q.1) q.2 ∧ Gr q.2 := by
  have h : (oB (F_X12_comesOut N 0 σ) fun y18 σ19 => some ((), σ19)) = some q := h
  refine ev_a (fun he => ev_aload rfl rfl he) ?_
  refine ev_a (fun he => ev_push rfl he) ?_
  obtain ⟨y18, σ19, h20, h⟩ := oB_inv h
  obtain ⟨c21, hG22⟩ := T_X12_comesOut xs L N 0 σ (y18, σ19) h20 hG
  refine ev_a (fun he => ev_callV (as := [.int 0]) rfl (gr_ob (n := 80) hG rfl) rfl rfl rfl (Nat.le_of_ble_eq_true rfl) (Nat.le_of_ble_eq_true rfl) c21 he) ?_
  cases h
  exact ⟨ev_retV rfl, hG22⟩
def J_X12_expression_281 (N : Nat) (k12 : Int32 → Int32 → aSt → Option (Unit × aSt)) (x1 : Int32) (s0 : Int32) (σ : aSt) : Option (Unit × aSt) := if s0 ≠ 0 then cO (¬ ((aI σ 235 11) < 0 ∨ 403 ≤ (aI σ 235 11).toNatClampNeg)) (if (aI σ 238 (aI σ 235 11).toNatClampNeg) ≠ 10 then J_X12_expression_329 N k12 x1 s0 (aI σ 238 (aI σ 235 11).toNatClampNeg) 0 σ else J_X12_expression_329 N k12 x1 s0 (aI σ 238 (aI σ 235 11).toNatClampNeg) 1 σ) else if (aI σ 235 12) ≤ x1 then J_X12_expression_299 N σ else oB (F_X12_fail N 1 σ) fun y27 σ28 => J_X12_expression_299 N σ28
set_option maxRecDepth 20000 in
set_option maxHeartbeats 4000000 in
theorem TJ_X12_expression_281 (xs : Nat → Int32) (L : Nat) (N : Nat) (k12 : Int32 → Int32 → aSt → Option (Unit × aSt)) (hk12 : ∀ (x1 : Int32) (x2 : Int32) (d3 : Value) (d4 : Value) (σ : aSt) (q : Unit × aSt), k12 x1 x2 σ = some q → Gr σ → Ev xs L 139 12 [.ref 235, .int x1, .int x2, d3, d4] [] σ (wV q.1) q.2 ∧ Gr q.2) (x1 : Int32) (s0 : Int32) (d2 : Value) (d3 : Value) (d4 : Value) (σ : aSt) (q : Unit × aSt) (h : J_X12_expression_281 N k12 x1 s0 σ = some q) (hG : Gr σ) : Ev xs L 139 281 [.ref 235, .int x1, d2, d3, d4] [.int s0] σ (wV q.1) q.2 ∧ Gr q.2 := by
  have h : (if s0 ≠ 0 then cO (¬ ((aI σ 235 11) < 0 ∨ 403 ≤ (aI σ 235 11).toNatClampNeg)) (if (aI σ 238 (aI σ 235 11).toNatClampNeg) ≠ 10 then J_X12_expression_329 N k12 x1 s0 (aI σ 238 (aI σ 235 11).toNatClampNeg) 0 σ else J_X12_expression_329 N k12 x1 s0 (aI σ 238 (aI σ 235 11).toNatClampNeg) 1 σ) else if (aI σ 235 12) ≤ x1 then J_X12_expression_299 N σ else oB (F_X12_fail N 1 σ) fun y27 σ28 => J_X12_expression_299 N σ28) = some q := h
  refine ev_a (fun he => ev_istore (ls' := [.ref 235, .int x1, .int s0, d3, d4]) rfl (Nat.le_of_ble_eq_true rfl) rfl he) ?_
  refine ev_a (fun he => ev_iload rfl rfl he) ?_
  refine ev_b (c := s0 ≠ 0) (fun ht hf => ev_ifne rfl ht hf) (fun hc23 => ?_) (fun hc23 => ?_)
  · rw [if_pos hc23] at h
    refine ev_a (fun he => ev_aload rfl rfl he) ?_
    refine ev_a (fun he => ev_getR rfl (gr_ob (n := 80) hG rfl) (gr_p (a := 235) (k := 5) (b := 238) hG rfl) he) ?_
    refine ev_a (fun he => ev_aload rfl rfl he) ?_
    refine ev_a (fun he => ev_getI rfl (gr_ob (n := 80) hG rfl) he) ?_
    obtain ⟨hc24, h⟩ := cO_inv h
    refine ev_a (fun he => ev_aldI (k := (aI σ 235 11).toNatClampNeg) rfl (gr_ar hG rfl) hc24 rfl he) ?_
    refine ev_a (fun he => ev_istore (ls' := [.ref 235, .int x1, .int s0, (aKl d3), .int (aI σ 238 (aI σ 235 11).toNatClampNeg)]) rfl (Nat.le_of_ble_eq_true rfl) rfl he) ?_
    refine ev_a (fun he => ev_aload rfl rfl he) ?_
    refine ev_a (fun he => ev_iload rfl rfl he) ?_
    refine ev_a (fun he => ev_push rfl he) ?_
    refine ev_b (c := (aI σ 238 (aI σ 235 11).toNatClampNeg) ≠ 10) (fun ht hf => ev_cne rfl ht hf) (fun hc25 => ?_) (fun hc25 => ?_)
    · rw [if_pos hc25] at h
      refine ev_a (fun he => ev_push rfl he) ?_
      exact TJ_X12_expression_329 xs L N k12 hk12 x1 s0 (aI σ 238 (aI σ 235 11).toNatClampNeg) 0 ((aKl d3)) σ q h hG
    · rw [if_neg hc25] at h
      refine ev_a (fun he => ev_push rfl he) ?_
      refine ev_a (fun he => ev_goto rfl he) ?_
      exact TJ_X12_expression_329 xs L N k12 hk12 x1 s0 (aI σ 238 (aI σ 235 11).toNatClampNeg) 1 ((aKl d3)) σ q h hG
  · rw [if_neg hc23] at h
    refine ev_a (fun he => ev_aload rfl rfl he) ?_
    refine ev_a (fun he => ev_getI rfl (gr_ob (n := 80) hG rfl) he) ?_
    refine ev_a (fun he => ev_iload rfl rfl he) ?_
    refine ev_b (c := (aI σ 235 12) ≤ x1) (fun ht hf => ev_cle rfl ht hf) (fun hc26 => ?_) (fun hc26 => ?_)
    · rw [if_pos hc26] at h
      exact TJ_X12_expression_299 xs L N (.int x1) (.int s0) (d3) (d4) σ q h hG
    · rw [if_neg hc26] at h
      refine ev_a (fun he => ev_aload rfl rfl he) ?_
      refine ev_a (fun he => ev_push rfl he) ?_
      obtain ⟨y27, σ28, h29, h⟩ := oB_inv h
      obtain ⟨c30, hG31⟩ := T_X12_fail xs L N 1 σ (y27, σ28) h29 hG
      refine ev_a (fun he => ev_callV (as := [.int 1]) rfl (gr_ob (n := 80) hG rfl) rfl rfl rfl (Nat.le_of_ble_eq_true rfl) (Nat.le_of_ble_eq_true rfl) c30 he) ?_
      exact TJ_X12_expression_299 xs L N (.int x1) (.int s0) (d3) (d4) σ28 q h hG31
def J_X12_expression_276 (N : Nat) (k12 : Int32 → Int32 → aSt → Option (Unit × aSt)) (x1 : Int32) (σ : aSt) : Option (Unit × aSt) := J_X12_expression_281 N k12 x1 1 σ
set_option maxRecDepth 20000 in
set_option maxHeartbeats 4000000 in
theorem TJ_X12_expression_276 (xs : Nat → Int32) (L : Nat) (N : Nat) (k12 : Int32 → Int32 → aSt → Option (Unit × aSt)) (hk12 : ∀ (x1 : Int32) (x2 : Int32) (d3 : Value) (d4 : Value) (σ : aSt) (q : Unit × aSt), k12 x1 x2 σ = some q → Gr σ → Ev xs L 139 12 [.ref 235, .int x1, .int x2, d3, d4] [] σ (wV q.1) q.2 ∧ Gr q.2) (x1 : Int32) (d2 : Value) (d3 : Value) (d4 : Value) (σ : aSt) (q : Unit × aSt) (h : J_X12_expression_276 N k12 x1 σ = some q) (hG : Gr σ) : Ev xs L 139 276 [.ref 235, .int x1, d2, d3, d4] [] σ (wV q.1) q.2 ∧ Gr q.2 := by
  have h : (J_X12_expression_281 N k12 x1 1 σ) = some q := h
  refine ev_a (fun he => ev_push rfl he) ?_
  refine ev_a (fun he => ev_goto rfl he) ?_
  exact TJ_X12_expression_281 xs L N k12 hk12 x1 1 (d2) (d3) (d4) σ q h hG
def J_X12_expression_249 (N : Nat) (k12 : Int32 → Int32 → aSt → Option (Unit × aSt)) (x1 : Int32) (σ : aSt) : Option (Unit × aSt) := oB (F_X12_is N 8 σ) fun y32 σ33 => if y32 ≠ 0 then J_X12_expression_276 N k12 x1 σ33 else oB (F_X12_is N 9 σ33) fun y38 σ39 => if y38 ≠ 0 then J_X12_expression_276 N k12 x1 σ39 else oB (F_X12_is N 10 σ39) fun y44 σ45 => if y44 = 0 then J_X12_expression_281 N k12 x1 0 σ45 else J_X12_expression_276 N k12 x1 σ45
set_option maxRecDepth 20000 in
set_option maxHeartbeats 4000000 in
theorem TJ_X12_expression_249 (xs : Nat → Int32) (L : Nat) (N : Nat) (k12 : Int32 → Int32 → aSt → Option (Unit × aSt)) (hk12 : ∀ (x1 : Int32) (x2 : Int32) (d3 : Value) (d4 : Value) (σ : aSt) (q : Unit × aSt), k12 x1 x2 σ = some q → Gr σ → Ev xs L 139 12 [.ref 235, .int x1, .int x2, d3, d4] [] σ (wV q.1) q.2 ∧ Gr q.2) (x1 : Int32) (d2 : Value) (d3 : Value) (d4 : Value) (σ : aSt) (q : Unit × aSt) (h : J_X12_expression_249 N k12 x1 σ = some q) (hG : Gr σ) : Ev xs L 139 249 [.ref 235, .int x1, d2, d3, d4] [] σ (wV q.1) q.2 ∧ Gr q.2 := by
  have h : (oB (F_X12_is N 8 σ) fun y32 σ33 => if y32 ≠ 0 then J_X12_expression_276 N k12 x1 σ33 else oB (F_X12_is N 9 σ33) fun y38 σ39 => if y38 ≠ 0 then J_X12_expression_276 N k12 x1 σ39 else oB (F_X12_is N 10 σ39) fun y44 σ45 => if y44 = 0 then J_X12_expression_281 N k12 x1 0 σ45 else J_X12_expression_276 N k12 x1 σ45) = some q := h
  refine ev_a (fun he => ev_aload rfl rfl he) ?_
  refine ev_a (fun he => ev_push rfl he) ?_
  obtain ⟨y32, σ33, h34, h⟩ := oB_inv h
  obtain ⟨c35, hG36⟩ := T_X12_is xs L N 8 σ (y32, σ33) h34 hG
  refine ev_a (fun he => ev_callV (as := [.int 8]) rfl (gr_ob (n := 80) hG rfl) rfl rfl rfl (Nat.le_of_ble_eq_true rfl) (Nat.le_of_ble_eq_true rfl) c35 he) ?_
  refine ev_b (c := y32 ≠ 0) (fun ht hf => ev_ifne rfl ht hf) (fun hc37 => ?_) (fun hc37 => ?_)
  · rw [if_pos hc37] at h
    exact TJ_X12_expression_276 xs L N k12 hk12 x1 (d2) (d3) (d4) σ33 q h hG36
  · rw [if_neg hc37] at h
    refine ev_a (fun he => ev_aload rfl rfl he) ?_
    refine ev_a (fun he => ev_push rfl he) ?_
    obtain ⟨y38, σ39, h40, h⟩ := oB_inv h
    obtain ⟨c41, hG42⟩ := T_X12_is xs L N 9 σ33 (y38, σ39) h40 hG36
    refine ev_a (fun he => ev_callV (as := [.int 9]) rfl (gr_ob (n := 80) hG36 rfl) rfl rfl rfl (Nat.le_of_ble_eq_true rfl) (Nat.le_of_ble_eq_true rfl) c41 he) ?_
    refine ev_b (c := y38 ≠ 0) (fun ht hf => ev_ifne rfl ht hf) (fun hc43 => ?_) (fun hc43 => ?_)
    · rw [if_pos hc43] at h
      exact TJ_X12_expression_276 xs L N k12 hk12 x1 (d2) (d3) (d4) σ39 q h hG42
    · rw [if_neg hc43] at h
      refine ev_a (fun he => ev_aload rfl rfl he) ?_
      refine ev_a (fun he => ev_push rfl he) ?_
      obtain ⟨y44, σ45, h46, h⟩ := oB_inv h
      obtain ⟨c47, hG48⟩ := T_X12_is xs L N 10 σ39 (y44, σ45) h46 hG42
      refine ev_a (fun he => ev_callV (as := [.int 10]) rfl (gr_ob (n := 80) hG42 rfl) rfl rfl rfl (Nat.le_of_ble_eq_true rfl) (Nat.le_of_ble_eq_true rfl) c47 he) ?_
      refine ev_b (c := y44 = 0) (fun ht hf => ev_ifeq rfl ht hf) (fun hc49 => ?_) (fun hc49 => ?_)
      · rw [if_pos hc49] at h
        refine ev_a (fun he => ev_push rfl he) ?_
        exact TJ_X12_expression_281 xs L N k12 hk12 x1 0 (d2) (d3) (d4) σ45 q h hG48
      · rw [if_neg hc49] at h
        exact TJ_X12_expression_276 xs L N k12 hk12 x1 (d2) (d3) (d4) σ45 q h hG48
def H_X12_expression_200 (N : Nat) (k12 : Int32 → Int32 → aSt → Option (Unit × aSt)) : Nat → Int32 → aSt → Option (Unit × aSt)
  | 0, _, _ => none
  | n + 1, x1, σ => oB (F_X12_is N 7 σ) fun y50 σ51 => if y50 = 0 then J_X12_expression_249 N k12 x1 σ51 else if (aI σ51 235 12) ≤ x1 then J_X12_expression_249 N k12 x1 σ51 else oB (F_X12_comesOut N 0 σ51) fun y57 σ58 => lt (aWI σ58 235 36 ((aI σ58 235 36) - 1)) fun σ62 => lt (aWI σ62 235 12 ((aI σ62 235 12) - 1)) fun σ65 => oB (F_X12_next N σ65) fun y68 σ69 => (H_X12_expression_200 N k12 n) x1 σ69
set_option maxRecDepth 20000 in
set_option maxHeartbeats 4000000 in
theorem TH_X12_expression_200 (xs : Nat → Int32) (L : Nat) (N : Nat) (k12 : Int32 → Int32 → aSt → Option (Unit × aSt)) (hk12 : ∀ (x1 : Int32) (x2 : Int32) (d3 : Value) (d4 : Value) (σ : aSt) (q : Unit × aSt), k12 x1 x2 σ = some q → Gr σ → Ev xs L 139 12 [.ref 235, .int x1, .int x2, d3, d4] [] σ (wV q.1) q.2 ∧ Gr q.2) : ∀ (n : Nat) (x1 : Int32) (d2 : Value) (d3 : Value) (d4 : Value) (σ : aSt) (q : Unit × aSt), H_X12_expression_200 N k12 n x1 σ = some q → Gr σ → Ev xs L 139 200 [.ref 235, .int x1, d2, d3, d4] [] σ (wV q.1) q.2 ∧ Gr q.2 := by
  intro n
  induction n with
  | zero =>
    intro x1 d2 d3 d4 σ q h hG
    exact absurd (show (none : Option (Unit × aSt)) = some q from h) (by simp)
  | succ n ih =>
    intro x1 d2 d3 d4 σ q h hG
    have hk200 : ∀ (x1 : Int32) (d2 : Value) (d3 : Value) (d4 : Value) (σ : aSt) (q : Unit × aSt), H_X12_expression_200 N k12 n x1 σ = some q → Gr σ → Ev xs L 139 200 [.ref 235, .int x1, d2, d3, d4] [] σ (wV q.1) q.2 ∧ Gr q.2 := ih
    have h : (oB (F_X12_is N 7 σ) fun y50 σ51 => if y50 = 0 then J_X12_expression_249 N k12 x1 σ51 else if (aI σ51 235 12) ≤ x1 then J_X12_expression_249 N k12 x1 σ51 else oB (F_X12_comesOut N 0 σ51) fun y57 σ58 => lt (aWI σ58 235 36 ((aI σ58 235 36) - 1)) fun σ62 => lt (aWI σ62 235 12 ((aI σ62 235 12) - 1)) fun σ65 => oB (F_X12_next N σ65) fun y68 σ69 => (H_X12_expression_200 N k12 n) x1 σ69) = some q := h
    refine ev_a (fun he => ev_aload rfl rfl he) ?_
    refine ev_a (fun he => ev_push rfl he) ?_
    obtain ⟨y50, σ51, h52, h⟩ := oB_inv h
    obtain ⟨c53, hG54⟩ := T_X12_is xs L N 7 σ (y50, σ51) h52 hG
    refine ev_a (fun he => ev_callV (as := [.int 7]) rfl (gr_ob (n := 80) hG rfl) rfl rfl rfl (Nat.le_of_ble_eq_true rfl) (Nat.le_of_ble_eq_true rfl) c53 he) ?_
    refine ev_b (c := y50 = 0) (fun ht hf => ev_ifeq rfl ht hf) (fun hc55 => ?_) (fun hc55 => ?_)
    · rw [if_pos hc55] at h
      exact TJ_X12_expression_249 xs L N k12 hk12 x1 (d2) (d3) (d4) σ51 q h hG54
    · rw [if_neg hc55] at h
      refine ev_a (fun he => ev_aload rfl rfl he) ?_
      refine ev_a (fun he => ev_getI rfl (gr_ob (n := 80) hG54 rfl) he) ?_
      refine ev_a (fun he => ev_iload rfl rfl he) ?_
      refine ev_b (c := (aI σ51 235 12) ≤ x1) (fun ht hf => ev_cle rfl ht hf) (fun hc56 => ?_) (fun hc56 => ?_)
      · rw [if_pos hc56] at h
        exact TJ_X12_expression_249 xs L N k12 hk12 x1 (d2) (d3) (d4) σ51 q h hG54
      · rw [if_neg hc56] at h
        refine ev_a (fun he => ev_aload rfl rfl he) ?_
        refine ev_a (fun he => ev_push rfl he) ?_
        obtain ⟨y57, σ58, h59, h⟩ := oB_inv h
        obtain ⟨c60, hG61⟩ := T_X12_comesOut xs L N 0 σ51 (y57, σ58) h59 hG54
        refine ev_a (fun he => ev_callV (as := [.int 0]) rfl (gr_ob (n := 80) hG54 rfl) rfl rfl rfl (Nat.le_of_ble_eq_true rfl) (Nat.le_of_ble_eq_true rfl) c60 he) ?_
        refine ev_a (fun he => ev_aload rfl rfl he) ?_
        refine ev_a (fun he => ev_dupR rfl he) ?_
        refine ev_a (fun he => ev_getI rfl (gr_ob (n := 80) hG61 rfl) he) ?_
        refine ev_a (fun he => ev_push rfl he) ?_
        refine ev_a (fun he => ev_bin (z := (aI σ58 235 36) - 1) rfl rfl he) ?_
        obtain ⟨σ62, e63, h⟩ := lt_inv h
        have hG64 : Gr σ62 := gr_wi e63 hG61
        refine ev_a (fun he => ev_putI rfl (gr_ob (n := 80) hG61 rfl) e63 he) ?_
        refine ev_a (fun he => ev_aload rfl rfl he) ?_
        refine ev_a (fun he => ev_dupR rfl he) ?_
        refine ev_a (fun he => ev_getI rfl (gr_ob (n := 80) hG64 rfl) he) ?_
        refine ev_a (fun he => ev_push rfl he) ?_
        refine ev_a (fun he => ev_bin (z := (aI σ62 235 12) - 1) rfl rfl he) ?_
        obtain ⟨σ65, e66, h⟩ := lt_inv h
        have hG67 : Gr σ65 := gr_wi e66 hG64
        refine ev_a (fun he => ev_putI rfl (gr_ob (n := 80) hG64 rfl) e66 he) ?_
        refine ev_a (fun he => ev_aload rfl rfl he) ?_
        obtain ⟨y68, σ69, h70, h⟩ := oB_inv h
        obtain ⟨c71, hG72⟩ := T_X12_next xs L N σ65 (y68, σ69) h70 hG67
        refine ev_a (fun he => ev_callV (as := []) rfl (gr_ob (n := 80) hG67 rfl) rfl rfl rfl (Nat.le_of_ble_eq_true rfl) (Nat.le_of_ble_eq_true rfl) c71 he) ?_
        refine ev_a (fun he => ev_goto rfl he) ?_
        exact hk200 x1 (d2) (d3) (d4) σ69 q h hG72
def J_X12_expression_196 (N : Nat) (k12 : Int32 → Int32 → aSt → Option (Unit × aSt)) (x1 : Int32) (σ : aSt) : Option (Unit × aSt) := oB (F_X12_next N σ) fun y73 σ74 => H_X12_expression_200 N k12 N x1 σ74
set_option maxRecDepth 20000 in
set_option maxHeartbeats 4000000 in
theorem TJ_X12_expression_196 (xs : Nat → Int32) (L : Nat) (N : Nat) (k12 : Int32 → Int32 → aSt → Option (Unit × aSt)) (hk12 : ∀ (x1 : Int32) (x2 : Int32) (d3 : Value) (d4 : Value) (σ : aSt) (q : Unit × aSt), k12 x1 x2 σ = some q → Gr σ → Ev xs L 139 12 [.ref 235, .int x1, .int x2, d3, d4] [] σ (wV q.1) q.2 ∧ Gr q.2) (x1 : Int32) (d2 : Value) (d3 : Value) (d4 : Value) (σ : aSt) (q : Unit × aSt) (h : J_X12_expression_196 N k12 x1 σ = some q) (hG : Gr σ) : Ev xs L 139 196 [.ref 235, .int x1, d2, d3, d4] [] σ (wV q.1) q.2 ∧ Gr q.2 := by
  have h : (oB (F_X12_next N σ) fun y73 σ74 => H_X12_expression_200 N k12 N x1 σ74) = some q := h
  refine ev_a (fun he => ev_aload rfl rfl he) ?_
  obtain ⟨y73, σ74, h75, h⟩ := oB_inv h
  obtain ⟨c76, hG77⟩ := T_X12_next xs L N σ (y73, σ74) h75 hG
  refine ev_a (fun he => ev_callV (as := []) rfl (gr_ob (n := 80) hG rfl) rfl rfl rfl (Nat.le_of_ble_eq_true rfl) (Nat.le_of_ble_eq_true rfl) c76 he) ?_
  exact TH_X12_expression_200 xs L N k12 hk12 N x1 (d2) (d3) (d4) σ74 q h hG77
def J_X12_expression_150 (N : Nat) (k12 : Int32 → Int32 → aSt → Option (Unit × aSt)) (x1 : Int32) (x3 : Int32) (σ : aSt) : Option (Unit × aSt) := if (aI σ 235 13) ≤ 0 then if x3 = 0 then cO (¬ ((aI σ 235 11) < 0 ∨ 403 ≤ (aI σ 235 11).toNatClampNeg)) (oB (F_X12_emit N 0 (aI σ 240 (aI σ 235 11).toNatClampNeg) σ) fun y81 σ82 => J_X12_expression_196 N k12 x1 σ82) else cO (¬ ((aI σ 235 11) < 0 ∨ 403 ≤ (aI σ 235 11).toNatClampNeg)) (oB (F_X12_emit N 1 ((aI σ 238 (aI σ 235 11).toNatClampNeg) - 26) σ) fun y87 σ88 => J_X12_expression_196 N k12 x1 σ88) else some ((), σ)
set_option maxRecDepth 20000 in
set_option maxHeartbeats 4000000 in
theorem TJ_X12_expression_150 (xs : Nat → Int32) (L : Nat) (N : Nat) (k12 : Int32 → Int32 → aSt → Option (Unit × aSt)) (hk12 : ∀ (x1 : Int32) (x2 : Int32) (d3 : Value) (d4 : Value) (σ : aSt) (q : Unit × aSt), k12 x1 x2 σ = some q → Gr σ → Ev xs L 139 12 [.ref 235, .int x1, .int x2, d3, d4] [] σ (wV q.1) q.2 ∧ Gr q.2) (x1 : Int32) (x3 : Int32) (d2 : Value) (d4 : Value) (σ : aSt) (q : Unit × aSt) (h : J_X12_expression_150 N k12 x1 x3 σ = some q) (hG : Gr σ) : Ev xs L 139 150 [.ref 235, .int x1, d2, .int x3, d4] [] σ (wV q.1) q.2 ∧ Gr q.2 := by
  have h : (if (aI σ 235 13) ≤ 0 then if x3 = 0 then cO (¬ ((aI σ 235 11) < 0 ∨ 403 ≤ (aI σ 235 11).toNatClampNeg)) (oB (F_X12_emit N 0 (aI σ 240 (aI σ 235 11).toNatClampNeg) σ) fun y81 σ82 => J_X12_expression_196 N k12 x1 σ82) else cO (¬ ((aI σ 235 11) < 0 ∨ 403 ≤ (aI σ 235 11).toNatClampNeg)) (oB (F_X12_emit N 1 ((aI σ 238 (aI σ 235 11).toNatClampNeg) - 26) σ) fun y87 σ88 => J_X12_expression_196 N k12 x1 σ88) else some ((), σ)) = some q := h
  refine ev_a (fun he => ev_aload rfl rfl he) ?_
  refine ev_a (fun he => ev_getI rfl (gr_ob (n := 80) hG rfl) he) ?_
  refine ev_b (c := (aI σ 235 13) ≤ 0) (fun ht hf => ev_ifle rfl ht hf) (fun hc78 => ?_) (fun hc78 => ?_)
  · rw [if_pos hc78] at h
    refine ev_a (fun he => ev_iload rfl rfl he) ?_
    refine ev_b (c := x3 = 0) (fun ht hf => ev_ifeq rfl ht hf) (fun hc79 => ?_) (fun hc79 => ?_)
    · rw [if_pos hc79] at h
      refine ev_a (fun he => ev_aload rfl rfl he) ?_
      refine ev_a (fun he => ev_push rfl he) ?_
      refine ev_a (fun he => ev_aload rfl rfl he) ?_
      refine ev_a (fun he => ev_getR rfl (gr_ob (n := 80) hG rfl) (gr_p (a := 235) (k := 7) (b := 240) hG rfl) he) ?_
      refine ev_a (fun he => ev_aload rfl rfl he) ?_
      refine ev_a (fun he => ev_getI rfl (gr_ob (n := 80) hG rfl) he) ?_
      obtain ⟨hc80, h⟩ := cO_inv h
      refine ev_a (fun he => ev_aldI (k := (aI σ 235 11).toNatClampNeg) rfl (gr_ar hG rfl) hc80 rfl he) ?_
      obtain ⟨y81, σ82, h83, h⟩ := oB_inv h
      obtain ⟨c84, hG85⟩ := T_X12_emit xs L N 0 (aI σ 240 (aI σ 235 11).toNatClampNeg) σ (y81, σ82) h83 hG
      refine ev_a (fun he => ev_callV (as := [.int 0, .int (aI σ 240 (aI σ 235 11).toNatClampNeg)]) rfl (gr_ob (n := 80) hG rfl) rfl rfl rfl (Nat.le_of_ble_eq_true rfl) (Nat.le_of_ble_eq_true rfl) c84 he) ?_
      exact TJ_X12_expression_196 xs L N k12 hk12 x1 (d2) (.int x3) (d4) σ82 q h hG85
    · rw [if_neg hc79] at h
      refine ev_a (fun he => ev_aload rfl rfl he) ?_
      refine ev_a (fun he => ev_push rfl he) ?_
      refine ev_a (fun he => ev_aload rfl rfl he) ?_
      refine ev_a (fun he => ev_getR rfl (gr_ob (n := 80) hG rfl) (gr_p (a := 235) (k := 5) (b := 238) hG rfl) he) ?_
      refine ev_a (fun he => ev_aload rfl rfl he) ?_
      refine ev_a (fun he => ev_getI rfl (gr_ob (n := 80) hG rfl) he) ?_
      obtain ⟨hc86, h⟩ := cO_inv h
      refine ev_a (fun he => ev_aldI (k := (aI σ 235 11).toNatClampNeg) rfl (gr_ar hG rfl) hc86 rfl he) ?_
      refine ev_a (fun he => ev_push rfl he) ?_
      refine ev_a (fun he => ev_bin (z := (aI σ 238 (aI σ 235 11).toNatClampNeg) - 26) rfl rfl he) ?_
      obtain ⟨y87, σ88, h89, h⟩ := oB_inv h
      obtain ⟨c90, hG91⟩ := T_X12_emit xs L N 1 ((aI σ 238 (aI σ 235 11).toNatClampNeg) - 26) σ (y87, σ88) h89 hG
      refine ev_a (fun he => ev_callV (as := [.int 1, .int ((aI σ 238 (aI σ 235 11).toNatClampNeg) - 26)]) rfl (gr_ob (n := 80) hG rfl) rfl rfl rfl (Nat.le_of_ble_eq_true rfl) (Nat.le_of_ble_eq_true rfl) c90 he) ?_
      refine ev_a (fun he => ev_goto rfl he) ?_
      exact TJ_X12_expression_196 xs L N k12 hk12 x1 (d2) (.int x3) (d4) σ88 q h hG91
  · rw [if_neg hc78] at h
    cases h
    exact ⟨ev_retV rfl, hG⟩
def J_X12_expression_132 (N : Nat) (k12 : Int32 → Int32 → aSt → Option (Unit × aSt)) (x1 : Int32) (s0 : Int32) (σ : aSt) : Option (Unit × aSt) := oB (F_X12_is N 2 σ) fun y92 σ93 => if y92 ≠ 0 then J_X12_expression_150 N k12 x1 s0 σ93 else if s0 ≠ 0 then J_X12_expression_150 N k12 x1 s0 σ93 else oB (F_X12_fail N 1 σ93) fun y99 σ100 => J_X12_expression_150 N k12 x1 s0 σ100
set_option maxRecDepth 20000 in
set_option maxHeartbeats 4000000 in
theorem TJ_X12_expression_132 (xs : Nat → Int32) (L : Nat) (N : Nat) (k12 : Int32 → Int32 → aSt → Option (Unit × aSt)) (hk12 : ∀ (x1 : Int32) (x2 : Int32) (d3 : Value) (d4 : Value) (σ : aSt) (q : Unit × aSt), k12 x1 x2 σ = some q → Gr σ → Ev xs L 139 12 [.ref 235, .int x1, .int x2, d3, d4] [] σ (wV q.1) q.2 ∧ Gr q.2) (x1 : Int32) (s0 : Int32) (d2 : Value) (d3 : Value) (d4 : Value) (σ : aSt) (q : Unit × aSt) (h : J_X12_expression_132 N k12 x1 s0 σ = some q) (hG : Gr σ) : Ev xs L 139 132 [.ref 235, .int x1, d2, d3, d4] [.int s0] σ (wV q.1) q.2 ∧ Gr q.2 := by
  have h : (oB (F_X12_is N 2 σ) fun y92 σ93 => if y92 ≠ 0 then J_X12_expression_150 N k12 x1 s0 σ93 else if s0 ≠ 0 then J_X12_expression_150 N k12 x1 s0 σ93 else oB (F_X12_fail N 1 σ93) fun y99 σ100 => J_X12_expression_150 N k12 x1 s0 σ100) = some q := h
  refine ev_a (fun he => ev_istore (ls' := [.ref 235, .int x1, (aKl d2), .int s0, d4]) rfl (Nat.le_of_ble_eq_true rfl) rfl he) ?_
  refine ev_a (fun he => ev_aload rfl rfl he) ?_
  refine ev_a (fun he => ev_push rfl he) ?_
  obtain ⟨y92, σ93, h94, h⟩ := oB_inv h
  obtain ⟨c95, hG96⟩ := T_X12_is xs L N 2 σ (y92, σ93) h94 hG
  refine ev_a (fun he => ev_callV (as := [.int 2]) rfl (gr_ob (n := 80) hG rfl) rfl rfl rfl (Nat.le_of_ble_eq_true rfl) (Nat.le_of_ble_eq_true rfl) c95 he) ?_
  refine ev_b (c := y92 ≠ 0) (fun ht hf => ev_ifne rfl ht hf) (fun hc97 => ?_) (fun hc97 => ?_)
  · rw [if_pos hc97] at h
    exact TJ_X12_expression_150 xs L N k12 hk12 x1 s0 ((aKl d2)) (d4) σ93 q h hG96
  · rw [if_neg hc97] at h
    refine ev_a (fun he => ev_iload rfl rfl he) ?_
    refine ev_b (c := s0 ≠ 0) (fun ht hf => ev_ifne rfl ht hf) (fun hc98 => ?_) (fun hc98 => ?_)
    · rw [if_pos hc98] at h
      exact TJ_X12_expression_150 xs L N k12 hk12 x1 s0 ((aKl d2)) (d4) σ93 q h hG96
    · rw [if_neg hc98] at h
      refine ev_a (fun he => ev_aload rfl rfl he) ?_
      refine ev_a (fun he => ev_push rfl he) ?_
      obtain ⟨y99, σ100, h101, h⟩ := oB_inv h
      obtain ⟨c102, hG103⟩ := T_X12_fail xs L N 1 σ93 (y99, σ100) h101 hG96
      refine ev_a (fun he => ev_callV (as := [.int 1]) rfl (gr_ob (n := 80) hG96 rfl) rfl rfl rfl (Nat.le_of_ble_eq_true rfl) (Nat.le_of_ble_eq_true rfl) c102 he) ?_
      exact TJ_X12_expression_150 xs L N k12 hk12 x1 s0 ((aKl d2)) (d4) σ100 q h hG103
def J_X12_expression_131 (N : Nat) (k12 : Int32 → Int32 → aSt → Option (Unit × aSt)) (x1 : Int32) (σ : aSt) : Option (Unit × aSt) := J_X12_expression_132 N k12 x1 0 σ
set_option maxRecDepth 20000 in
set_option maxHeartbeats 4000000 in
theorem TJ_X12_expression_131 (xs : Nat → Int32) (L : Nat) (N : Nat) (k12 : Int32 → Int32 → aSt → Option (Unit × aSt)) (hk12 : ∀ (x1 : Int32) (x2 : Int32) (d3 : Value) (d4 : Value) (σ : aSt) (q : Unit × aSt), k12 x1 x2 σ = some q → Gr σ → Ev xs L 139 12 [.ref 235, .int x1, .int x2, d3, d4] [] σ (wV q.1) q.2 ∧ Gr q.2) (x1 : Int32) (d2 : Value) (d3 : Value) (d4 : Value) (σ : aSt) (q : Unit × aSt) (h : J_X12_expression_131 N k12 x1 σ = some q) (hG : Gr σ) : Ev xs L 139 131 [.ref 235, .int x1, d2, d3, d4] [] σ (wV q.1) q.2 ∧ Gr q.2 := by
  have h : (J_X12_expression_132 N k12 x1 0 σ) = some q := h
  refine ev_a (fun he => ev_push rfl he) ?_
  exact TJ_X12_expression_132 xs L N k12 hk12 x1 0 (d2) (d3) (d4) σ q h hG
def J_X12_expression_46 (N : Nat) (k12 : Int32 → Int32 → aSt → Option (Unit × aSt)) (x1 : Int32) (x2 : Int32) (σ : aSt) : Option (Unit × aSt) := if (aI σ 235 13) ≤ 0 then lt (aWI σ 235 12 ((aI σ 235 12) + 1)) fun σ105 => oB (F_X12_next N σ105) fun y108 σ109 => cO (¬ ((aI σ109 235 36) < 0 ∨ 48 ≤ (aI σ109 235 36).toNatClampNeg)) (lt (aWI σ109 258 (aI σ109 235 36).toNatClampNeg 6) fun σ114 => lt (aWI σ114 235 36 ((aI σ114 235 36) + 1)) fun σ117 => k12 x1 x2 σ117) else some ((), σ)
set_option maxRecDepth 20000 in
set_option maxHeartbeats 4000000 in
theorem TJ_X12_expression_46 (xs : Nat → Int32) (L : Nat) (N : Nat) (k12 : Int32 → Int32 → aSt → Option (Unit × aSt)) (hk12 : ∀ (x1 : Int32) (x2 : Int32) (d3 : Value) (d4 : Value) (σ : aSt) (q : Unit × aSt), k12 x1 x2 σ = some q → Gr σ → Ev xs L 139 12 [.ref 235, .int x1, .int x2, d3, d4] [] σ (wV q.1) q.2 ∧ Gr q.2) (x1 : Int32) (x2 : Int32) (d3 : Value) (d4 : Value) (σ : aSt) (q : Unit × aSt) (h : J_X12_expression_46 N k12 x1 x2 σ = some q) (hG : Gr σ) : Ev xs L 139 46 [.ref 235, .int x1, .int x2, d3, d4] [] σ (wV q.1) q.2 ∧ Gr q.2 := by
  have h : (if (aI σ 235 13) ≤ 0 then lt (aWI σ 235 12 ((aI σ 235 12) + 1)) fun σ105 => oB (F_X12_next N σ105) fun y108 σ109 => cO (¬ ((aI σ109 235 36) < 0 ∨ 48 ≤ (aI σ109 235 36).toNatClampNeg)) (lt (aWI σ109 258 (aI σ109 235 36).toNatClampNeg 6) fun σ114 => lt (aWI σ114 235 36 ((aI σ114 235 36) + 1)) fun σ117 => k12 x1 x2 σ117) else some ((), σ)) = some q := h
  refine ev_a (fun he => ev_aload rfl rfl he) ?_
  refine ev_a (fun he => ev_getI rfl (gr_ob (n := 80) hG rfl) he) ?_
  refine ev_b (c := (aI σ 235 13) ≤ 0) (fun ht hf => ev_ifle rfl ht hf) (fun hc104 => ?_) (fun hc104 => ?_)
  · rw [if_pos hc104] at h
    refine ev_a (fun he => ev_aload rfl rfl he) ?_
    refine ev_a (fun he => ev_dupR rfl he) ?_
    refine ev_a (fun he => ev_getI rfl (gr_ob (n := 80) hG rfl) he) ?_
    refine ev_a (fun he => ev_push rfl he) ?_
    refine ev_a (fun he => ev_bin (z := (aI σ 235 12) + 1) rfl rfl he) ?_
    obtain ⟨σ105, e106, h⟩ := lt_inv h
    have hG107 : Gr σ105 := gr_wi e106 hG
    refine ev_a (fun he => ev_putI rfl (gr_ob (n := 80) hG rfl) e106 he) ?_
    refine ev_a (fun he => ev_aload rfl rfl he) ?_
    obtain ⟨y108, σ109, h110, h⟩ := oB_inv h
    obtain ⟨c111, hG112⟩ := T_X12_next xs L N σ105 (y108, σ109) h110 hG107
    refine ev_a (fun he => ev_callV (as := []) rfl (gr_ob (n := 80) hG107 rfl) rfl rfl rfl (Nat.le_of_ble_eq_true rfl) (Nat.le_of_ble_eq_true rfl) c111 he) ?_
    refine ev_a (fun he => ev_aload rfl rfl he) ?_
    refine ev_a (fun he => ev_getR rfl (gr_ob (n := 80) hG112 rfl) (gr_p (a := 235) (k := 35) (b := 258) hG112 rfl) he) ?_
    refine ev_a (fun he => ev_aload rfl rfl he) ?_
    refine ev_a (fun he => ev_getI rfl (gr_ob (n := 80) hG112 rfl) he) ?_
    refine ev_a (fun he => ev_push rfl he) ?_
    obtain ⟨hc113, h⟩ := cO_inv h
    obtain ⟨σ114, e115, h⟩ := lt_inv h
    have hG116 : Gr σ114 := gr_wi e115 hG112
    refine ev_a (fun he => ev_astI (k := (aI σ109 235 36).toNatClampNeg) rfl (gr_ar hG112 rfl) hc113 rfl rfl e115 he) ?_
    refine ev_a (fun he => ev_aload rfl rfl he) ?_
    refine ev_a (fun he => ev_dupR rfl he) ?_
    refine ev_a (fun he => ev_getI rfl (gr_ob (n := 80) hG116 rfl) he) ?_
    refine ev_a (fun he => ev_push rfl he) ?_
    refine ev_a (fun he => ev_bin (z := (aI σ114 235 36) + 1) rfl rfl he) ?_
    obtain ⟨σ117, e118, h⟩ := lt_inv h
    have hG119 : Gr σ117 := gr_wi e118 hG116
    refine ev_a (fun he => ev_putI rfl (gr_ob (n := 80) hG116 rfl) e118 he) ?_
    refine ev_a (fun he => ev_goto rfl he) ?_
    exact hk12 x1 x2 (d3) (d4) σ117 q h hG119
  · rw [if_neg hc104] at h
    cases h
    exact ⟨ev_retV rfl, hG⟩
def H_X12_expression_12 (N : Nat) : Nat → Int32 → Int32 → aSt → Option (Unit × aSt)
  | 0, _, _, _ => none
  | n + 1, x1, x2, σ => if x2 = 0 then J_X12_expression_360 N σ else if (aI σ 235 13) ≠ 0 then J_X12_expression_360 N σ else oB (F_X12_is N 6 σ) fun y122 σ123 => if y122 = 0 then if (aI σ123 235 13) ≠ 0 then J_X12_expression_131 N (H_X12_expression_12 N n) x1 σ123 else cO (¬ ((aI σ123 235 11) < 0 ∨ 403 ≤ (aI σ123 235 11).toNatClampNeg)) (if (aI σ123 238 (aI σ123 235 11).toNatClampNeg) < 26 then J_X12_expression_131 N (H_X12_expression_12 N n) x1 σ123 else cO (¬ ((aI σ123 235 11) < 0 ∨ 403 ≤ (aI σ123 235 11).toNatClampNeg)) (if 35 < (aI σ123 238 (aI σ123 235 11).toNatClampNeg) then J_X12_expression_131 N (H_X12_expression_12 N n) x1 σ123 else J_X12_expression_132 N (H_X12_expression_12 N n) x1 1 σ123)) else if (aI σ123 235 12) ≠ 6 then J_X12_expression_46 N (H_X12_expression_12 N n) x1 x2 σ123 else oB (F_X12_fail N 2 σ123) fun y134 σ135 => J_X12_expression_46 N (H_X12_expression_12 N n) x1 x2 σ135
set_option maxRecDepth 20000 in
set_option maxHeartbeats 4000000 in
theorem TH_X12_expression_12 (xs : Nat → Int32) (L : Nat) (N : Nat) : ∀ (n : Nat) (x1 : Int32) (x2 : Int32) (d3 : Value) (d4 : Value) (σ : aSt) (q : Unit × aSt), H_X12_expression_12 N n x1 x2 σ = some q → Gr σ → Ev xs L 139 12 [.ref 235, .int x1, .int x2, d3, d4] [] σ (wV q.1) q.2 ∧ Gr q.2 := by
  intro n
  induction n with
  | zero =>
    intro x1 x2 d3 d4 σ q h hG
    exact absurd (show (none : Option (Unit × aSt)) = some q from h) (by simp)
  | succ n ih =>
    intro x1 x2 d3 d4 σ q h hG
    have hk12 : ∀ (x1 : Int32) (x2 : Int32) (d3 : Value) (d4 : Value) (σ : aSt) (q : Unit × aSt), H_X12_expression_12 N n x1 x2 σ = some q → Gr σ → Ev xs L 139 12 [.ref 235, .int x1, .int x2, d3, d4] [] σ (wV q.1) q.2 ∧ Gr q.2 := ih
    have h : (if x2 = 0 then J_X12_expression_360 N σ else if (aI σ 235 13) ≠ 0 then J_X12_expression_360 N σ else oB (F_X12_is N 6 σ) fun y122 σ123 => if y122 = 0 then if (aI σ123 235 13) ≠ 0 then J_X12_expression_131 N (H_X12_expression_12 N n) x1 σ123 else cO (¬ ((aI σ123 235 11) < 0 ∨ 403 ≤ (aI σ123 235 11).toNatClampNeg)) (if (aI σ123 238 (aI σ123 235 11).toNatClampNeg) < 26 then J_X12_expression_131 N (H_X12_expression_12 N n) x1 σ123 else cO (¬ ((aI σ123 235 11) < 0 ∨ 403 ≤ (aI σ123 235 11).toNatClampNeg)) (if 35 < (aI σ123 238 (aI σ123 235 11).toNatClampNeg) then J_X12_expression_131 N (H_X12_expression_12 N n) x1 σ123 else J_X12_expression_132 N (H_X12_expression_12 N n) x1 1 σ123)) else if (aI σ123 235 12) ≠ 6 then J_X12_expression_46 N (H_X12_expression_12 N n) x1 x2 σ123 else oB (F_X12_fail N 2 σ123) fun y134 σ135 => J_X12_expression_46 N (H_X12_expression_12 N n) x1 x2 σ135) = some q := h
    refine ev_a (fun he => ev_iload rfl rfl he) ?_
    refine ev_b (c := x2 = 0) (fun ht hf => ev_ifeq rfl ht hf) (fun hc120 => ?_) (fun hc120 => ?_)
    · rw [if_pos hc120] at h
      exact TJ_X12_expression_360 xs L N (.ref 235) (.int x1) (.int x2) (d3) (d4) σ q h hG
    · rw [if_neg hc120] at h
      refine ev_a (fun he => ev_aload rfl rfl he) ?_
      refine ev_a (fun he => ev_getI rfl (gr_ob (n := 80) hG rfl) he) ?_
      refine ev_b (c := (aI σ 235 13) ≠ 0) (fun ht hf => ev_ifne rfl ht hf) (fun hc121 => ?_) (fun hc121 => ?_)
      · rw [if_pos hc121] at h
        exact TJ_X12_expression_360 xs L N (.ref 235) (.int x1) (.int x2) (d3) (d4) σ q h hG
      · rw [if_neg hc121] at h
        refine ev_a (fun he => ev_aload rfl rfl he) ?_
        refine ev_a (fun he => ev_push rfl he) ?_
        obtain ⟨y122, σ123, h124, h⟩ := oB_inv h
        obtain ⟨c125, hG126⟩ := T_X12_is xs L N 6 σ (y122, σ123) h124 hG
        refine ev_a (fun he => ev_callV (as := [.int 6]) rfl (gr_ob (n := 80) hG rfl) rfl rfl rfl (Nat.le_of_ble_eq_true rfl) (Nat.le_of_ble_eq_true rfl) c125 he) ?_
        refine ev_b (c := y122 = 0) (fun ht hf => ev_ifeq rfl ht hf) (fun hc127 => ?_) (fun hc127 => ?_)
        · rw [if_pos hc127] at h
          refine ev_a (fun he => ev_aload rfl rfl he) ?_
          refine ev_a (fun he => ev_getI rfl (gr_ob (n := 80) hG126 rfl) he) ?_
          refine ev_b (c := (aI σ123 235 13) ≠ 0) (fun ht hf => ev_ifne rfl ht hf) (fun hc128 => ?_) (fun hc128 => ?_)
          · rw [if_pos hc128] at h
            exact TJ_X12_expression_131 xs L N (H_X12_expression_12 N n) hk12 x1 (.int x2) (d3) (d4) σ123 q h hG126
          · rw [if_neg hc128] at h
            refine ev_a (fun he => ev_aload rfl rfl he) ?_
            refine ev_a (fun he => ev_getR rfl (gr_ob (n := 80) hG126 rfl) (gr_p (a := 235) (k := 5) (b := 238) hG126 rfl) he) ?_
            refine ev_a (fun he => ev_aload rfl rfl he) ?_
            refine ev_a (fun he => ev_getI rfl (gr_ob (n := 80) hG126 rfl) he) ?_
            obtain ⟨hc129, h⟩ := cO_inv h
            refine ev_a (fun he => ev_aldI (k := (aI σ123 235 11).toNatClampNeg) rfl (gr_ar hG126 rfl) hc129 rfl he) ?_
            refine ev_a (fun he => ev_push rfl he) ?_
            refine ev_b (c := (aI σ123 238 (aI σ123 235 11).toNatClampNeg) < 26) (fun ht hf => ev_clt rfl ht hf) (fun hc130 => ?_) (fun hc130 => ?_)
            · rw [if_pos hc130] at h
              exact TJ_X12_expression_131 xs L N (H_X12_expression_12 N n) hk12 x1 (.int x2) (d3) (d4) σ123 q h hG126
            · rw [if_neg hc130] at h
              refine ev_a (fun he => ev_aload rfl rfl he) ?_
              refine ev_a (fun he => ev_getR rfl (gr_ob (n := 80) hG126 rfl) (gr_p (a := 235) (k := 5) (b := 238) hG126 rfl) he) ?_
              refine ev_a (fun he => ev_aload rfl rfl he) ?_
              refine ev_a (fun he => ev_getI rfl (gr_ob (n := 80) hG126 rfl) he) ?_
              obtain ⟨hc131, h⟩ := cO_inv h
              refine ev_a (fun he => ev_aldI (k := (aI σ123 235 11).toNatClampNeg) rfl (gr_ar hG126 rfl) hc131 rfl he) ?_
              refine ev_a (fun he => ev_push rfl he) ?_
              refine ev_b (c := 35 < (aI σ123 238 (aI σ123 235 11).toNatClampNeg)) (fun ht hf => ev_cgt rfl ht hf) (fun hc132 => ?_) (fun hc132 => ?_)
              · rw [if_pos hc132] at h
                exact TJ_X12_expression_131 xs L N (H_X12_expression_12 N n) hk12 x1 (.int x2) (d3) (d4) σ123 q h hG126
              · rw [if_neg hc132] at h
                refine ev_a (fun he => ev_push rfl he) ?_
                refine ev_a (fun he => ev_goto rfl he) ?_
                exact TJ_X12_expression_132 xs L N (H_X12_expression_12 N n) hk12 x1 1 (.int x2) (d3) (d4) σ123 q h hG126
        · rw [if_neg hc127] at h
          refine ev_a (fun he => ev_aload rfl rfl he) ?_
          refine ev_a (fun he => ev_getI rfl (gr_ob (n := 80) hG126 rfl) he) ?_
          refine ev_a (fun he => ev_push rfl he) ?_
          refine ev_b (c := (aI σ123 235 12) ≠ 6) (fun ht hf => ev_cne rfl ht hf) (fun hc133 => ?_) (fun hc133 => ?_)
          · rw [if_pos hc133] at h
            exact TJ_X12_expression_46 xs L N (H_X12_expression_12 N n) hk12 x1 x2 (d3) (d4) σ123 q h hG126
          · rw [if_neg hc133] at h
            refine ev_a (fun he => ev_aload rfl rfl he) ?_
            refine ev_a (fun he => ev_push rfl he) ?_
            obtain ⟨y134, σ135, h136, h⟩ := oB_inv h
            obtain ⟨c137, hG138⟩ := T_X12_fail xs L N 2 σ123 (y134, σ135) h136 hG126
            refine ev_a (fun he => ev_callV (as := [.int 2]) rfl (gr_ob (n := 80) hG126 rfl) rfl rfl rfl (Nat.le_of_ble_eq_true rfl) (Nat.le_of_ble_eq_true rfl) c137 he) ?_
            exact TJ_X12_expression_46 xs L N (H_X12_expression_12 N n) hk12 x1 x2 (d3) (d4) σ135 q h hG138
def F_X12_expression (N : Nat) (σ : aSt) : Option (Unit × aSt) := lt (aWI σ 235 36 0) fun σ139 => H_X12_expression_12 N N (aI σ139 235 12) 1 σ139
set_option maxRecDepth 20000 in
set_option maxHeartbeats 4000000 in
theorem T_X12_expression (xs : Nat → Int32) (L : Nat) (N : Nat) (σ : aSt) (q : Unit × aSt) (h : F_X12_expression N σ = some q) (hG : Gr σ) : Cal xs L 139 [.ref 235] σ (wV q.1) q.2 ∧ Gr q.2 := by
  have h : (lt (aWI σ 235 36 0) fun σ139 => H_X12_expression_12 N N (aI σ139 235 12) 1 σ139) = some q := h
  show Ev xs L 139 0 [.ref 235, aU, aU, aU, aU] [] σ (wV q.1) q.2 ∧ Gr q.2
  refine ev_a (fun he => ev_aload rfl rfl he) ?_
  refine ev_a (fun he => ev_push rfl he) ?_
  obtain ⟨σ139, e140, h⟩ := lt_inv h
  have hG141 : Gr σ139 := gr_wi e140 hG
  refine ev_a (fun he => ev_putI rfl (gr_ob (n := 80) hG rfl) e140 he) ?_
  refine ev_a (fun he => ev_aload rfl rfl he) ?_
  refine ev_a (fun he => ev_getI rfl (gr_ob (n := 80) hG141 rfl) he) ?_
  refine ev_a (fun he => ev_istore (ls' := [.ref 235, .int (aI σ139 235 12), aU, aU, aU]) rfl (Nat.le_of_ble_eq_true rfl) rfl he) ?_
  refine ev_a (fun he => ev_push rfl he) ?_
  refine ev_a (fun he => ev_istore (ls' := [.ref 235, .int (aI σ139 235 12), .int 1, aU, aU]) rfl (Nat.le_of_ble_eq_true rfl) rfl he) ?_
  exact TH_X12_expression_12 xs L N N (aI σ139 235 12) 1 (aU) (aU) σ139 q h hG141
