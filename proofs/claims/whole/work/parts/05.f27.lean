def J_X12_left_33 (N : Nat) (s0 : Int32) (σ : aSt) : Option (Int32 × aSt) := some (s0, σ)
set_option maxRecDepth 20000 in
set_option maxHeartbeats 4000000 in
theorem TJ_X12_left_33 (xs : Nat → Int32) (L : Nat) (N : Nat) (s0 : Int32) (d0 : Value) (d1 : Value) (d2 : Value) (d3 : Value) (σ : aSt) (q : Int32 × aSt) (h : J_X12_left_33 N s0 σ = some q) (hG : Gr σ) : Ev xs L 147 33 [d0, d1, d2, d3] [.int s0] σ (wI q.1) q.2 ∧ Gr q.2 := by
  have h : (some (s0, σ)) = some q := h
  cases h
  exact ⟨ev_retI rfl, hG⟩
def F_X12_left (N : Nat) (x1 : Int32) (x2 : Int32) (σ : aSt) : Option (Int32 × aSt) := cO (¬ (((6 * x1) + x2) < 0 ∨ 36 ≤ ((6 * x1) + x2).toNatClampNeg)) (cO (¬ (((6 * x1) + x2) < 0 ∨ 36 ≤ ((6 * x1) + x2).toNatClampNeg)) (if ((aI σ 266 ((6 * x1) + x2).toNatClampNeg) - (aI σ 276 ((6 * x1) + x2).toNatClampNeg)) ≤ 0 then J_X12_left_33 N 0 σ else J_X12_left_33 N ((aI σ 266 ((6 * x1) + x2).toNatClampNeg) - (aI σ 276 ((6 * x1) + x2).toNatClampNeg)) σ))
set_option maxRecDepth 20000 in
set_option maxHeartbeats 4000000 in
theorem T_X12_left (xs : Nat → Int32) (L : Nat) (N : Nat) (x1 : Int32) (x2 : Int32) (σ : aSt) (q : Int32 × aSt) (h : F_X12_left N x1 x2 σ = some q) (hG : Gr σ) : Cal xs L 147 [.ref 235, .int x1, .int x2] σ (wI q.1) q.2 ∧ Gr q.2 := by
  have h : (cO (¬ (((6 * x1) + x2) < 0 ∨ 36 ≤ ((6 * x1) + x2).toNatClampNeg)) (cO (¬ (((6 * x1) + x2) < 0 ∨ 36 ≤ ((6 * x1) + x2).toNatClampNeg)) (if ((aI σ 266 ((6 * x1) + x2).toNatClampNeg) - (aI σ 276 ((6 * x1) + x2).toNatClampNeg)) ≤ 0 then J_X12_left_33 N 0 σ else J_X12_left_33 N ((aI σ 266 ((6 * x1) + x2).toNatClampNeg) - (aI σ 276 ((6 * x1) + x2).toNatClampNeg)) σ))) = some q := h
  show Ev xs L 147 0 [.ref 235, .int x1, .int x2, aU] [] σ (wI q.1) q.2 ∧ Gr q.2
  refine ev_a (fun he => ev_aload rfl rfl he) ?_
  refine ev_a (fun he => ev_getR rfl (gr_ob (n := 80) hG rfl) (gr_p (a := 235) (k := 46) (b := 266) hG rfl) he) ?_
  refine ev_a (fun he => ev_push rfl he) ?_
  refine ev_a (fun he => ev_iload rfl rfl he) ?_
  refine ev_a (fun he => ev_bin (z := 6 * x1) rfl rfl he) ?_
  refine ev_a (fun he => ev_iload rfl rfl he) ?_
  refine ev_a (fun he => ev_bin (z := (6 * x1) + x2) rfl rfl he) ?_
  obtain ⟨hc1, h⟩ := cO_inv h
  refine ev_a (fun he => ev_aldI (k := ((6 * x1) + x2).toNatClampNeg) rfl (gr_ar hG rfl) hc1 rfl he) ?_
  refine ev_a (fun he => ev_aload rfl rfl he) ?_
  refine ev_a (fun he => ev_getR rfl (gr_ob (n := 80) hG rfl) (gr_p (a := 235) (k := 59) (b := 276) hG rfl) he) ?_
  refine ev_a (fun he => ev_push rfl he) ?_
  refine ev_a (fun he => ev_iload rfl rfl he) ?_
  refine ev_a (fun he => ev_bin (z := 6 * x1) rfl rfl he) ?_
  refine ev_a (fun he => ev_iload rfl rfl he) ?_
  refine ev_a (fun he => ev_bin (z := (6 * x1) + x2) rfl rfl he) ?_
  obtain ⟨hc2, h⟩ := cO_inv h
  refine ev_a (fun he => ev_aldI (k := ((6 * x1) + x2).toNatClampNeg) rfl (gr_ar hG rfl) hc2 rfl he) ?_
  refine ev_a (fun he => ev_bin (z := (aI σ 266 ((6 * x1) + x2).toNatClampNeg) - (aI σ 276 ((6 * x1) + x2).toNatClampNeg)) rfl rfl he) ?_
  refine ev_a (fun he => ev_istore (ls' := [.ref 235, .int x1, .int x2, .int ((aI σ 266 ((6 * x1) + x2).toNatClampNeg) - (aI σ 276 ((6 * x1) + x2).toNatClampNeg))]) rfl (Nat.le_of_ble_eq_true rfl) rfl he) ?_
  refine ev_a (fun he => ev_iload rfl rfl he) ?_
  refine ev_b (c := ((aI σ 266 ((6 * x1) + x2).toNatClampNeg) - (aI σ 276 ((6 * x1) + x2).toNatClampNeg)) ≤ 0) (fun ht hf => ev_ifle rfl ht hf) (fun hc3 => ?_) (fun hc3 => ?_)
  · rw [if_pos hc3] at h
    refine ev_a (fun he => ev_push rfl he) ?_
    exact TJ_X12_left_33 xs L N 0 (.ref 235) (.int x1) (.int x2) (.int ((aI σ 266 ((6 * x1) + x2).toNatClampNeg) - (aI σ 276 ((6 * x1) + x2).toNatClampNeg))) σ q h hG
  · rw [if_neg hc3] at h
    refine ev_a (fun he => ev_iload rfl rfl he) ?_
    refine ev_a (fun he => ev_goto rfl he) ?_
    exact TJ_X12_left_33 xs L N ((aI σ 266 ((6 * x1) + x2).toNatClampNeg) - (aI σ 276 ((6 * x1) + x2).toNatClampNeg)) (.ref 235) (.int x1) (.int x2) (.int ((aI σ 266 ((6 * x1) + x2).toNatClampNeg) - (aI σ 276 ((6 * x1) + x2).toNatClampNeg))) σ q h hG
def J_X12_asks_164 (N : Nat) (x2 : Int32) (s1 : Int32) (s2 : Int32) (σ : aSt) : Option (Unit × aSt) := cO (¬ (s1 < 0 ∨ 10 ≤ s1.toNatClampNeg)) (lt (aWI σ 274 s1.toNatClampNeg s2) fun σ2 => lt (aWI σ2 274 9 x2) fun σ6 => some ((), σ6))
set_option maxRecDepth 20000 in
set_option maxHeartbeats 4000000 in
theorem TJ_X12_asks_164 (xs : Nat → Int32) (L : Nat) (N : Nat) (x2 : Int32) (s1 : Int32) (s2 : Int32) (d1 : Value) (σ : aSt) (q : Unit × aSt) (h : J_X12_asks_164 N x2 s1 s2 σ = some q) (hG : Gr σ) : Ev xs L 148 164 [.ref 235, d1, .int x2] [.int s2, .int s1, .ref 274] σ (wV q.1) q.2 ∧ Gr q.2 := by
  have h : (cO (¬ (s1 < 0 ∨ 10 ≤ s1.toNatClampNeg)) (lt (aWI σ 274 s1.toNatClampNeg s2) fun σ2 => lt (aWI σ2 274 9 x2) fun σ6 => some ((), σ6))) = some q := h
  obtain ⟨hc1, h⟩ := cO_inv h
  obtain ⟨σ2, e3, h⟩ := lt_inv h
  have hG4 : Gr σ2 := gr_wi e3 hG
  refine ev_a (fun he => ev_astI (k := s1.toNatClampNeg) rfl (gr_ar hG rfl) hc1 rfl rfl e3 he) ?_
  refine ev_a (fun he => ev_aload rfl rfl he) ?_
  refine ev_a (fun he => ev_getR rfl (gr_ob (n := 80) hG4 rfl) (gr_p (a := 235) (k := 57) (b := 274) hG4 rfl) he) ?_
  refine ev_a (fun he => ev_push rfl he) ?_
  refine ev_a (fun he => ev_iload rfl rfl he) ?_
  obtain ⟨σ6, e7, h⟩ := lt_inv h
  have hG8 : Gr σ6 := gr_wi e7 hG4
  refine ev_a (fun he => ev_astI (k := 9) rfl (gr_ar hG4 rfl) (by decide) (by decide) rfl e7 he) ?_
  cases h
  exact ⟨ev_retV rfl, hG8⟩
def J_X12_asks_135 (N : Nat) (x1 : Int32) (x2 : Int32) (s1 : Int32) (s2 : Int32) (σ : aSt) : Option (Unit × aSt) := cO (¬ (s1 < 0 ∨ 10 ≤ s1.toNatClampNeg)) (lt (aWI σ 274 s1.toNatClampNeg s2) fun σ10 => if x1 ≠ ((-1)) then cO (¬ (x1 < 0 ∨ 6 ≤ x1.toNatClampNeg)) (cO (¬ (x1 < 0 ∨ 6 ≤ x1.toNatClampNeg)) (J_X12_asks_164 N x2 8 ((aI σ10 265 x1.toNatClampNeg) - (aI σ10 277 x1.toNatClampNeg)) σ10)) else J_X12_asks_164 N x2 8 0 σ10)
set_option maxRecDepth 20000 in
set_option maxHeartbeats 4000000 in
theorem TJ_X12_asks_135 (xs : Nat → Int32) (L : Nat) (N : Nat) (x1 : Int32) (x2 : Int32) (s1 : Int32) (s2 : Int32) (σ : aSt) (q : Unit × aSt) (h : J_X12_asks_135 N x1 x2 s1 s2 σ = some q) (hG : Gr σ) : Ev xs L 148 135 [.ref 235, .int x1, .int x2] [.int s2, .int s1, .ref 274] σ (wV q.1) q.2 ∧ Gr q.2 := by
  have h : (cO (¬ (s1 < 0 ∨ 10 ≤ s1.toNatClampNeg)) (lt (aWI σ 274 s1.toNatClampNeg s2) fun σ10 => if x1 ≠ ((-1)) then cO (¬ (x1 < 0 ∨ 6 ≤ x1.toNatClampNeg)) (cO (¬ (x1 < 0 ∨ 6 ≤ x1.toNatClampNeg)) (J_X12_asks_164 N x2 8 ((aI σ10 265 x1.toNatClampNeg) - (aI σ10 277 x1.toNatClampNeg)) σ10)) else J_X12_asks_164 N x2 8 0 σ10)) = some q := h
  obtain ⟨hc9, h⟩ := cO_inv h
  obtain ⟨σ10, e11, h⟩ := lt_inv h
  have hG12 : Gr σ10 := gr_wi e11 hG
  refine ev_a (fun he => ev_astI (k := s1.toNatClampNeg) rfl (gr_ar hG rfl) hc9 rfl rfl e11 he) ?_
  refine ev_a (fun he => ev_aload rfl rfl he) ?_
  refine ev_a (fun he => ev_getR rfl (gr_ob (n := 80) hG12 rfl) (gr_p (a := 235) (k := 57) (b := 274) hG12 rfl) he) ?_
  refine ev_a (fun he => ev_push rfl he) ?_
  refine ev_a (fun he => ev_iload rfl rfl he) ?_
  refine ev_a (fun he => ev_push rfl he) ?_
  refine ev_b (c := x1 ≠ ((-1))) (fun ht hf => ev_cne rfl ht hf) (fun hc13 => ?_) (fun hc13 => ?_)
  · rw [if_pos hc13] at h
    refine ev_a (fun he => ev_aload rfl rfl he) ?_
    refine ev_a (fun he => ev_getR rfl (gr_ob (n := 80) hG12 rfl) (gr_p (a := 235) (k := 45) (b := 265) hG12 rfl) he) ?_
    refine ev_a (fun he => ev_iload rfl rfl he) ?_
    obtain ⟨hc14, h⟩ := cO_inv h
    refine ev_a (fun he => ev_aldI (k := x1.toNatClampNeg) rfl (gr_ar hG12 rfl) hc14 rfl he) ?_
    refine ev_a (fun he => ev_aload rfl rfl he) ?_
    refine ev_a (fun he => ev_getR rfl (gr_ob (n := 80) hG12 rfl) (gr_p (a := 235) (k := 60) (b := 277) hG12 rfl) he) ?_
    refine ev_a (fun he => ev_iload rfl rfl he) ?_
    obtain ⟨hc15, h⟩ := cO_inv h
    refine ev_a (fun he => ev_aldI (k := x1.toNatClampNeg) rfl (gr_ar hG12 rfl) hc15 rfl he) ?_
    refine ev_a (fun he => ev_bin (z := (aI σ10 265 x1.toNatClampNeg) - (aI σ10 277 x1.toNatClampNeg)) rfl rfl he) ?_
    exact TJ_X12_asks_164 xs L N x2 8 ((aI σ10 265 x1.toNatClampNeg) - (aI σ10 277 x1.toNatClampNeg)) (.int x1) σ10 q h hG12
  · rw [if_neg hc13] at h
    refine ev_a (fun he => ev_push rfl he) ?_
    refine ev_a (fun he => ev_goto rfl he) ?_
    exact TJ_X12_asks_164 xs L N x2 8 0 (.int x1) σ10 q h hG12
def J_X12_asks_108 (N : Nat) (x1 : Int32) (x2 : Int32) (s1 : Int32) (s2 : Int32) (σ : aSt) : Option (Unit × aSt) := cO (¬ (s1 < 0 ∨ 10 ≤ s1.toNatClampNeg)) (lt (aWI σ 274 s1.toNatClampNeg s2) fun σ17 => if x1 ≠ ((-1)) then cO (¬ (x2 < 0 ∨ 24 ≤ x2.toNatClampNeg)) (oB (F_X12_left N x1 (aI σ17 260 x2.toNatClampNeg) σ17) fun y22 σ23 => J_X12_asks_135 N x1 x2 7 y22 σ23) else J_X12_asks_135 N x1 x2 7 0 σ17)
set_option maxRecDepth 20000 in
set_option maxHeartbeats 4000000 in
theorem TJ_X12_asks_108 (xs : Nat → Int32) (L : Nat) (N : Nat) (x1 : Int32) (x2 : Int32) (s1 : Int32) (s2 : Int32) (σ : aSt) (q : Unit × aSt) (h : J_X12_asks_108 N x1 x2 s1 s2 σ = some q) (hG : Gr σ) : Ev xs L 148 108 [.ref 235, .int x1, .int x2] [.int s2, .int s1, .ref 274] σ (wV q.1) q.2 ∧ Gr q.2 := by
  have h : (cO (¬ (s1 < 0 ∨ 10 ≤ s1.toNatClampNeg)) (lt (aWI σ 274 s1.toNatClampNeg s2) fun σ17 => if x1 ≠ ((-1)) then cO (¬ (x2 < 0 ∨ 24 ≤ x2.toNatClampNeg)) (oB (F_X12_left N x1 (aI σ17 260 x2.toNatClampNeg) σ17) fun y22 σ23 => J_X12_asks_135 N x1 x2 7 y22 σ23) else J_X12_asks_135 N x1 x2 7 0 σ17)) = some q := h
  obtain ⟨hc16, h⟩ := cO_inv h
  obtain ⟨σ17, e18, h⟩ := lt_inv h
  have hG19 : Gr σ17 := gr_wi e18 hG
  refine ev_a (fun he => ev_astI (k := s1.toNatClampNeg) rfl (gr_ar hG rfl) hc16 rfl rfl e18 he) ?_
  refine ev_a (fun he => ev_aload rfl rfl he) ?_
  refine ev_a (fun he => ev_getR rfl (gr_ob (n := 80) hG19 rfl) (gr_p (a := 235) (k := 57) (b := 274) hG19 rfl) he) ?_
  refine ev_a (fun he => ev_push rfl he) ?_
  refine ev_a (fun he => ev_iload rfl rfl he) ?_
  refine ev_a (fun he => ev_push rfl he) ?_
  refine ev_b (c := x1 ≠ ((-1))) (fun ht hf => ev_cne rfl ht hf) (fun hc20 => ?_) (fun hc20 => ?_)
  · rw [if_pos hc20] at h
    refine ev_a (fun he => ev_aload rfl rfl he) ?_
    refine ev_a (fun he => ev_iload rfl rfl he) ?_
    refine ev_a (fun he => ev_aload rfl rfl he) ?_
    refine ev_a (fun he => ev_getR rfl (gr_ob (n := 80) hG19 rfl) (gr_p (a := 235) (k := 39) (b := 260) hG19 rfl) he) ?_
    refine ev_a (fun he => ev_iload rfl rfl he) ?_
    obtain ⟨hc21, h⟩ := cO_inv h
    refine ev_a (fun he => ev_aldI (k := x2.toNatClampNeg) rfl (gr_ar hG19 rfl) hc21 rfl he) ?_
    obtain ⟨y22, σ23, h24, h⟩ := oB_inv h
    obtain ⟨c25, hG26⟩ := T_X12_left xs L N x1 (aI σ17 260 x2.toNatClampNeg) σ17 (y22, σ23) h24 hG19
    refine ev_a (fun he => ev_callV (as := [.int x1, .int (aI σ17 260 x2.toNatClampNeg)]) rfl (gr_ob (n := 80) hG19 rfl) rfl rfl rfl (Nat.le_of_ble_eq_true rfl) (Nat.le_of_ble_eq_true rfl) c25 he) ?_
    exact TJ_X12_asks_135 xs L N x1 x2 7 y22 σ23 q h hG26
  · rw [if_neg hc20] at h
    refine ev_a (fun he => ev_push rfl he) ?_
    refine ev_a (fun he => ev_goto rfl he) ?_
    exact TJ_X12_asks_135 xs L N x1 x2 7 0 σ17 q h hG19
def F_X12_asks (N : Nat) (x1 : Int32) (x2 : Int32) (σ : aSt) : Option (Unit × aSt) := cO (¬ (x2 < 0 ∨ 24 ≤ x2.toNatClampNeg)) (lt (aWI σ 274 0 (aI σ 259 x2.toNatClampNeg)) fun σ29 => cO (¬ (x2 < 0 ∨ 24 ≤ x2.toNatClampNeg)) (lt (aWI σ29 274 1 (aI σ29 260 x2.toNatClampNeg)) fun σ34 => cO (¬ (x2 < 0 ∨ 24 ≤ x2.toNatClampNeg)) (lt (aWI σ34 274 2 (aI σ34 261 x2.toNatClampNeg)) fun σ39 => cO (¬ (x2 < 0 ∨ 24 ≤ x2.toNatClampNeg)) (lt (aWI σ39 274 3 (aI σ39 262 x2.toNatClampNeg)) fun σ44 => cO (¬ (x2 < 0 ∨ 24 ≤ x2.toNatClampNeg)) (lt (aWI σ44 274 4 (aI σ44 263 x2.toNatClampNeg)) fun σ49 => cO (¬ (x2 < 0 ∨ 24 ≤ x2.toNatClampNeg)) (cO (¬ ((aI σ49 260 x2.toNatClampNeg) < 0 ∨ 6 ≤ (aI σ49 260 x2.toNatClampNeg).toNatClampNeg)) (lt (aWI σ49 274 5 (aI σ49 267 (aI σ49 260 x2.toNatClampNeg).toNatClampNeg)) fun σ55 => if x1 ≠ ((-1)) then cO (¬ (x2 < 0 ∨ 24 ≤ x2.toNatClampNeg)) (cO (¬ (((6 * x1) + (aI σ55 260 x2.toNatClampNeg)) < 0 ∨ 36 ≤ ((6 * x1) + (aI σ55 260 x2.toNatClampNeg)).toNatClampNeg)) (J_X12_asks_108 N x1 x2 6 (aI σ55 276 ((6 * x1) + (aI σ55 260 x2.toNatClampNeg)).toNatClampNeg) σ55)) else J_X12_asks_108 N x1 x2 6 0 σ55)))))))
set_option maxRecDepth 20000 in
set_option maxHeartbeats 4000000 in
theorem T_X12_asks (xs : Nat → Int32) (L : Nat) (N : Nat) (x1 : Int32) (x2 : Int32) (σ : aSt) (q : Unit × aSt) (h : F_X12_asks N x1 x2 σ = some q) (hG : Gr σ) : Cal xs L 148 [.ref 235, .int x1, .int x2] σ (wV q.1) q.2 ∧ Gr q.2 := by
  have h : (cO (¬ (x2 < 0 ∨ 24 ≤ x2.toNatClampNeg)) (lt (aWI σ 274 0 (aI σ 259 x2.toNatClampNeg)) fun σ29 => cO (¬ (x2 < 0 ∨ 24 ≤ x2.toNatClampNeg)) (lt (aWI σ29 274 1 (aI σ29 260 x2.toNatClampNeg)) fun σ34 => cO (¬ (x2 < 0 ∨ 24 ≤ x2.toNatClampNeg)) (lt (aWI σ34 274 2 (aI σ34 261 x2.toNatClampNeg)) fun σ39 => cO (¬ (x2 < 0 ∨ 24 ≤ x2.toNatClampNeg)) (lt (aWI σ39 274 3 (aI σ39 262 x2.toNatClampNeg)) fun σ44 => cO (¬ (x2 < 0 ∨ 24 ≤ x2.toNatClampNeg)) (lt (aWI σ44 274 4 (aI σ44 263 x2.toNatClampNeg)) fun σ49 => cO (¬ (x2 < 0 ∨ 24 ≤ x2.toNatClampNeg)) (cO (¬ ((aI σ49 260 x2.toNatClampNeg) < 0 ∨ 6 ≤ (aI σ49 260 x2.toNatClampNeg).toNatClampNeg)) (lt (aWI σ49 274 5 (aI σ49 267 (aI σ49 260 x2.toNatClampNeg).toNatClampNeg)) fun σ55 => if x1 ≠ ((-1)) then cO (¬ (x2 < 0 ∨ 24 ≤ x2.toNatClampNeg)) (cO (¬ (((6 * x1) + (aI σ55 260 x2.toNatClampNeg)) < 0 ∨ 36 ≤ ((6 * x1) + (aI σ55 260 x2.toNatClampNeg)).toNatClampNeg)) (J_X12_asks_108 N x1 x2 6 (aI σ55 276 ((6 * x1) + (aI σ55 260 x2.toNatClampNeg)).toNatClampNeg) σ55)) else J_X12_asks_108 N x1 x2 6 0 σ55)))))))) = some q := h
  show Ev xs L 148 0 [.ref 235, .int x1, .int x2] [] σ (wV q.1) q.2 ∧ Gr q.2
  refine ev_a (fun he => ev_aload rfl rfl he) ?_
  refine ev_a (fun he => ev_getR rfl (gr_ob (n := 80) hG rfl) (gr_p (a := 235) (k := 57) (b := 274) hG rfl) he) ?_
  refine ev_a (fun he => ev_push rfl he) ?_
  refine ev_a (fun he => ev_aload rfl rfl he) ?_
  refine ev_a (fun he => ev_getR rfl (gr_ob (n := 80) hG rfl) (gr_p (a := 235) (k := 38) (b := 259) hG rfl) he) ?_
  refine ev_a (fun he => ev_iload rfl rfl he) ?_
  obtain ⟨hc27, h⟩ := cO_inv h
  refine ev_a (fun he => ev_aldI (k := x2.toNatClampNeg) rfl (gr_ar hG rfl) hc27 rfl he) ?_
  obtain ⟨σ29, e30, h⟩ := lt_inv h
  have hG31 : Gr σ29 := gr_wi e30 hG
  refine ev_a (fun he => ev_astI (k := 0) rfl (gr_ar hG rfl) (by decide) (by decide) rfl e30 he) ?_
  refine ev_a (fun he => ev_aload rfl rfl he) ?_
  refine ev_a (fun he => ev_getR rfl (gr_ob (n := 80) hG31 rfl) (gr_p (a := 235) (k := 57) (b := 274) hG31 rfl) he) ?_
  refine ev_a (fun he => ev_push rfl he) ?_
  refine ev_a (fun he => ev_aload rfl rfl he) ?_
  refine ev_a (fun he => ev_getR rfl (gr_ob (n := 80) hG31 rfl) (gr_p (a := 235) (k := 39) (b := 260) hG31 rfl) he) ?_
  refine ev_a (fun he => ev_iload rfl rfl he) ?_
  obtain ⟨hc32, h⟩ := cO_inv h
  refine ev_a (fun he => ev_aldI (k := x2.toNatClampNeg) rfl (gr_ar hG31 rfl) hc32 rfl he) ?_
  obtain ⟨σ34, e35, h⟩ := lt_inv h
  have hG36 : Gr σ34 := gr_wi e35 hG31
  refine ev_a (fun he => ev_astI (k := 1) rfl (gr_ar hG31 rfl) (by decide) (by decide) rfl e35 he) ?_
  refine ev_a (fun he => ev_aload rfl rfl he) ?_
  refine ev_a (fun he => ev_getR rfl (gr_ob (n := 80) hG36 rfl) (gr_p (a := 235) (k := 57) (b := 274) hG36 rfl) he) ?_
  refine ev_a (fun he => ev_push rfl he) ?_
  refine ev_a (fun he => ev_aload rfl rfl he) ?_
  refine ev_a (fun he => ev_getR rfl (gr_ob (n := 80) hG36 rfl) (gr_p (a := 235) (k := 40) (b := 261) hG36 rfl) he) ?_
  refine ev_a (fun he => ev_iload rfl rfl he) ?_
  obtain ⟨hc37, h⟩ := cO_inv h
  refine ev_a (fun he => ev_aldI (k := x2.toNatClampNeg) rfl (gr_ar hG36 rfl) hc37 rfl he) ?_
  obtain ⟨σ39, e40, h⟩ := lt_inv h
  have hG41 : Gr σ39 := gr_wi e40 hG36
  refine ev_a (fun he => ev_astI (k := 2) rfl (gr_ar hG36 rfl) (by decide) (by decide) rfl e40 he) ?_
  refine ev_a (fun he => ev_aload rfl rfl he) ?_
  refine ev_a (fun he => ev_getR rfl (gr_ob (n := 80) hG41 rfl) (gr_p (a := 235) (k := 57) (b := 274) hG41 rfl) he) ?_
  refine ev_a (fun he => ev_push rfl he) ?_
  refine ev_a (fun he => ev_aload rfl rfl he) ?_
  refine ev_a (fun he => ev_getR rfl (gr_ob (n := 80) hG41 rfl) (gr_p (a := 235) (k := 41) (b := 262) hG41 rfl) he) ?_
  refine ev_a (fun he => ev_iload rfl rfl he) ?_
  obtain ⟨hc42, h⟩ := cO_inv h
  refine ev_a (fun he => ev_aldI (k := x2.toNatClampNeg) rfl (gr_ar hG41 rfl) hc42 rfl he) ?_
  obtain ⟨σ44, e45, h⟩ := lt_inv h
  have hG46 : Gr σ44 := gr_wi e45 hG41
  refine ev_a (fun he => ev_astI (k := 3) rfl (gr_ar hG41 rfl) (by decide) (by decide) rfl e45 he) ?_
  refine ev_a (fun he => ev_aload rfl rfl he) ?_
  refine ev_a (fun he => ev_getR rfl (gr_ob (n := 80) hG46 rfl) (gr_p (a := 235) (k := 57) (b := 274) hG46 rfl) he) ?_
  refine ev_a (fun he => ev_push rfl he) ?_
  refine ev_a (fun he => ev_aload rfl rfl he) ?_
  refine ev_a (fun he => ev_getR rfl (gr_ob (n := 80) hG46 rfl) (gr_p (a := 235) (k := 42) (b := 263) hG46 rfl) he) ?_
  refine ev_a (fun he => ev_iload rfl rfl he) ?_
  obtain ⟨hc47, h⟩ := cO_inv h
  refine ev_a (fun he => ev_aldI (k := x2.toNatClampNeg) rfl (gr_ar hG46 rfl) hc47 rfl he) ?_
  obtain ⟨σ49, e50, h⟩ := lt_inv h
  have hG51 : Gr σ49 := gr_wi e50 hG46
  refine ev_a (fun he => ev_astI (k := 4) rfl (gr_ar hG46 rfl) (by decide) (by decide) rfl e50 he) ?_
  refine ev_a (fun he => ev_aload rfl rfl he) ?_
  refine ev_a (fun he => ev_getR rfl (gr_ob (n := 80) hG51 rfl) (gr_p (a := 235) (k := 57) (b := 274) hG51 rfl) he) ?_
  refine ev_a (fun he => ev_push rfl he) ?_
  refine ev_a (fun he => ev_aload rfl rfl he) ?_
  refine ev_a (fun he => ev_getR rfl (gr_ob (n := 80) hG51 rfl) (gr_p (a := 235) (k := 47) (b := 267) hG51 rfl) he) ?_
  refine ev_a (fun he => ev_aload rfl rfl he) ?_
  refine ev_a (fun he => ev_getR rfl (gr_ob (n := 80) hG51 rfl) (gr_p (a := 235) (k := 39) (b := 260) hG51 rfl) he) ?_
  refine ev_a (fun he => ev_iload rfl rfl he) ?_
  obtain ⟨hc52, h⟩ := cO_inv h
  refine ev_a (fun he => ev_aldI (k := x2.toNatClampNeg) rfl (gr_ar hG51 rfl) hc52 rfl he) ?_
  obtain ⟨hc53, h⟩ := cO_inv h
  refine ev_a (fun he => ev_aldI (k := (aI σ49 260 x2.toNatClampNeg).toNatClampNeg) rfl (gr_ar hG51 rfl) hc53 rfl he) ?_
  obtain ⟨σ55, e56, h⟩ := lt_inv h
  have hG57 : Gr σ55 := gr_wi e56 hG51
  refine ev_a (fun he => ev_astI (k := 5) rfl (gr_ar hG51 rfl) (by decide) (by decide) rfl e56 he) ?_
  refine ev_a (fun he => ev_aload rfl rfl he) ?_
  refine ev_a (fun he => ev_getR rfl (gr_ob (n := 80) hG57 rfl) (gr_p (a := 235) (k := 57) (b := 274) hG57 rfl) he) ?_
  refine ev_a (fun he => ev_push rfl he) ?_
  refine ev_a (fun he => ev_iload rfl rfl he) ?_
  refine ev_a (fun he => ev_push rfl he) ?_
  refine ev_b (c := x1 ≠ ((-1))) (fun ht hf => ev_cne rfl ht hf) (fun hc58 => ?_) (fun hc58 => ?_)
  · rw [if_pos hc58] at h
    refine ev_a (fun he => ev_aload rfl rfl he) ?_
    refine ev_a (fun he => ev_getR rfl (gr_ob (n := 80) hG57 rfl) (gr_p (a := 235) (k := 59) (b := 276) hG57 rfl) he) ?_
    refine ev_a (fun he => ev_push rfl he) ?_
    refine ev_a (fun he => ev_iload rfl rfl he) ?_
    refine ev_a (fun he => ev_bin (z := 6 * x1) rfl rfl he) ?_
    refine ev_a (fun he => ev_aload rfl rfl he) ?_
    refine ev_a (fun he => ev_getR rfl (gr_ob (n := 80) hG57 rfl) (gr_p (a := 235) (k := 39) (b := 260) hG57 rfl) he) ?_
    refine ev_a (fun he => ev_iload rfl rfl he) ?_
    obtain ⟨hc59, h⟩ := cO_inv h
    refine ev_a (fun he => ev_aldI (k := x2.toNatClampNeg) rfl (gr_ar hG57 rfl) hc59 rfl he) ?_
    refine ev_a (fun he => ev_bin (z := (6 * x1) + (aI σ55 260 x2.toNatClampNeg)) rfl rfl he) ?_
    obtain ⟨hc60, h⟩ := cO_inv h
    refine ev_a (fun he => ev_aldI (k := ((6 * x1) + (aI σ55 260 x2.toNatClampNeg)).toNatClampNeg) rfl (gr_ar hG57 rfl) hc60 rfl he) ?_
    exact TJ_X12_asks_108 xs L N x1 x2 6 (aI σ55 276 ((6 * x1) + (aI σ55 260 x2.toNatClampNeg)).toNatClampNeg) σ55 q h hG57
  · rw [if_neg hc58] at h
    refine ev_a (fun he => ev_push rfl he) ?_
    refine ev_a (fun he => ev_goto rfl he) ?_
    exact TJ_X12_asks_108 xs L N x1 x2 6 0 σ55 q h hG57
def J_X12_value_138 (N : Nat) (k5 : Int32 → Int32 → Int32 → aSt → Option (Int32 × aSt)) (x2 : Int32) (x3 : Int32) (x4 : Int32) (σ : aSt) : Option (Int32 × aSt) := k5 x2 x3 (x4 + 1) σ
set_option maxRecDepth 20000 in
set_option maxHeartbeats 4000000 in
theorem TJ_X12_value_138 (xs : Nat → Int32) (L : Nat) (N : Nat) (k5 : Int32 → Int32 → Int32 → aSt → Option (Int32 × aSt)) (hk5 : ∀ (x2 : Int32) (x3 : Int32) (x4 : Int32) (d1 : Value) (d5 : Value) (d6 : Value) (σ : aSt) (q : Int32 × aSt), k5 x2 x3 x4 σ = some q → Gr σ → Ev xs L 149 5 [.ref 235, d1, .int x2, .int x3, .int x4, d5, d6] [] σ (wI q.1) q.2 ∧ Gr q.2) (x2 : Int32) (x3 : Int32) (x4 : Int32) (d1 : Value) (d5 : Value) (d6 : Value) (σ : aSt) (q : Int32 × aSt) (h : J_X12_value_138 N k5 x2 x3 x4 σ = some q) (hG : Gr σ) : Ev xs L 149 138 [.ref 235, d1, .int x2, .int x3, .int x4, d5, d6] [] σ (wI q.1) q.2 ∧ Gr q.2 := by
  have h : (k5 x2 x3 (x4 + 1) σ) = some q := h
  refine ev_a (fun he => ev_iinc (ls' := [.ref 235, d1, .int x2, .int x3, .int (x4 + 1), d5, d6]) rfl rfl rfl (Nat.le_of_ble_eq_true rfl) rfl he) ?_
  refine ev_a (fun he => ev_goto rfl he) ?_
  exact hk5 x2 x3 (x4 + 1) (d1) (d5) (d6) σ q h hG
def J_X12_value_137 (N : Nat) (k5 : Int32 → Int32 → Int32 → aSt → Option (Int32 × aSt)) (x2 : Int32) (x3 : Int32) (x4 : Int32) (s1 : Int32) (s2 : Int32) (σ : aSt) : Option (Int32 × aSt) := cO (¬ (s1 < 0 ∨ 500 ≤ s1.toNatClampNeg)) (lt (aWI σ 275 s1.toNatClampNeg s2) fun σ2 => J_X12_value_138 N k5 x2 x3 x4 σ2)
set_option maxRecDepth 20000 in
set_option maxHeartbeats 4000000 in
theorem TJ_X12_value_137 (xs : Nat → Int32) (L : Nat) (N : Nat) (k5 : Int32 → Int32 → Int32 → aSt → Option (Int32 × aSt)) (hk5 : ∀ (x2 : Int32) (x3 : Int32) (x4 : Int32) (d1 : Value) (d5 : Value) (d6 : Value) (σ : aSt) (q : Int32 × aSt), k5 x2 x3 x4 σ = some q → Gr σ → Ev xs L 149 5 [.ref 235, d1, .int x2, .int x3, .int x4, d5, d6] [] σ (wI q.1) q.2 ∧ Gr q.2) (x2 : Int32) (x3 : Int32) (x4 : Int32) (s1 : Int32) (s2 : Int32) (d1 : Value) (d5 : Value) (d6 : Value) (σ : aSt) (q : Int32 × aSt) (h : J_X12_value_137 N k5 x2 x3 x4 s1 s2 σ = some q) (hG : Gr σ) : Ev xs L 149 137 [.ref 235, d1, .int x2, .int x3, .int x4, d5, d6] [.int s2, .int s1, .ref 275] σ (wI q.1) q.2 ∧ Gr q.2 := by
  have h : (cO (¬ (s1 < 0 ∨ 500 ≤ s1.toNatClampNeg)) (lt (aWI σ 275 s1.toNatClampNeg s2) fun σ2 => J_X12_value_138 N k5 x2 x3 x4 σ2)) = some q := h
  obtain ⟨hc1, h⟩ := cO_inv h
  obtain ⟨σ2, e3, h⟩ := lt_inv h
  have hG4 : Gr σ2 := gr_wi e3 hG
  refine ev_a (fun he => ev_astI (k := s1.toNatClampNeg) rfl (gr_ar hG rfl) hc1 rfl rfl e3 he) ?_
  exact TJ_X12_value_138 xs L N k5 hk5 x2 x3 x4 (d1) (d5) (d6) σ2 q h hG4
def J_X12_value_59 (N : Nat) (k5 : Int32 → Int32 → Int32 → aSt → Option (Int32 × aSt)) (x2 : Int32) (x3 : Int32) (x4 : Int32) (s1 : Int32) (s2 : Int32) (σ : aSt) : Option (Int32 × aSt) := cO (¬ (s1 < 0 ∨ 500 ≤ s1.toNatClampNeg)) (lt (aWI σ 275 s1.toNatClampNeg s2) fun σ6 => J_X12_value_138 N k5 x2 (x3 + 1) x4 σ6)
set_option maxRecDepth 20000 in
set_option maxHeartbeats 4000000 in
theorem TJ_X12_value_59 (xs : Nat → Int32) (L : Nat) (N : Nat) (k5 : Int32 → Int32 → Int32 → aSt → Option (Int32 × aSt)) (hk5 : ∀ (x2 : Int32) (x3 : Int32) (x4 : Int32) (d1 : Value) (d5 : Value) (d6 : Value) (σ : aSt) (q : Int32 × aSt), k5 x2 x3 x4 σ = some q → Gr σ → Ev xs L 149 5 [.ref 235, d1, .int x2, .int x3, .int x4, d5, d6] [] σ (wI q.1) q.2 ∧ Gr q.2) (x2 : Int32) (x3 : Int32) (x4 : Int32) (s1 : Int32) (s2 : Int32) (d1 : Value) (d5 : Value) (d6 : Value) (σ : aSt) (q : Int32 × aSt) (h : J_X12_value_59 N k5 x2 x3 x4 s1 s2 σ = some q) (hG : Gr σ) : Ev xs L 149 59 [.ref 235, d1, .int x2, .int x3, .int x4, d5, d6] [.int s2, .int s1, .ref 275] σ (wI q.1) q.2 ∧ Gr q.2 := by
  have h : (cO (¬ (s1 < 0 ∨ 500 ≤ s1.toNatClampNeg)) (lt (aWI σ 275 s1.toNatClampNeg s2) fun σ6 => J_X12_value_138 N k5 x2 (x3 + 1) x4 σ6)) = some q := h
  obtain ⟨hc5, h⟩ := cO_inv h
  obtain ⟨σ6, e7, h⟩ := lt_inv h
  have hG8 : Gr σ6 := gr_wi e7 hG
  refine ev_a (fun he => ev_astI (k := s1.toNatClampNeg) rfl (gr_ar hG rfl) hc5 rfl rfl e7 he) ?_
  refine ev_a (fun he => ev_iinc (ls' := [.ref 235, d1, .int x2, .int (x3 + 1), .int x4, d5, d6]) rfl rfl rfl (Nat.le_of_ble_eq_true rfl) rfl he) ?_
  refine ev_a (fun he => ev_goto rfl he) ?_
  exact TJ_X12_value_138 xs L N k5 hk5 x2 (x3 + 1) x4 (d1) (d5) (d6) σ6 q h hG8
def H_X12_value_5 (N : Nat) : Nat → Int32 → Int32 → Int32 → aSt → Option (Int32 × aSt)
  | 0, _, _, _, _ => none
  | n + 1, x2, x3, x4, σ => if x2 ≤ x4 then some (aI σ 275 0, σ) else cO (¬ (x4 < 0 ∨ 7000 ≤ x4.toNatClampNeg)) (if 2 ≤ (aI σ 256 x4.toNatClampNeg) then cO (¬ (((x3 + (-1)) - 1) < 0 ∨ 500 ≤ ((x3 + (-1)) - 1).toNatClampNeg)) (cO (¬ ((x3 + (-1)) < 0 ∨ 500 ≤ (x3 + (-1)).toNatClampNeg)) (cO (¬ (x4 < 0 ∨ 7000 ≤ x4.toNatClampNeg)) (if (aI σ 256 x4.toNatClampNeg) ≠ 2 then cO (¬ (x4 < 0 ∨ 7000 ≤ x4.toNatClampNeg)) (if (aI σ 256 x4.toNatClampNeg) ≠ 3 then J_X12_value_137 N (H_X12_value_5 N n) x2 (x3 + (-1)) x4 ((x3 + (-1)) - 1) ((aI σ 275 ((x3 + (-1)) - 1).toNatClampNeg) * (aI σ 275 (x3 + (-1)).toNatClampNeg)) σ else J_X12_value_137 N (H_X12_value_5 N n) x2 (x3 + (-1)) x4 ((x3 + (-1)) - 1) ((aI σ 275 ((x3 + (-1)) - 1).toNatClampNeg) - (aI σ 275 (x3 + (-1)).toNatClampNeg)) σ) else J_X12_value_137 N (H_X12_value_5 N n) x2 (x3 + (-1)) x4 ((x3 + (-1)) - 1) ((aI σ 275 ((x3 + (-1)) - 1).toNatClampNeg) + (aI σ 275 (x3 + (-1)).toNatClampNeg)) σ))) else cO (¬ (x4 < 0 ∨ 7000 ≤ x4.toNatClampNeg)) (if (aI σ 256 x4.toNatClampNeg) ≠ 0 then cO (¬ (x4 < 0 ∨ 7000 ≤ x4.toNatClampNeg)) (cO (¬ ((aI σ 257 x4.toNatClampNeg) < 0 ∨ 10 ≤ (aI σ 257 x4.toNatClampNeg).toNatClampNeg)) (J_X12_value_59 N (H_X12_value_5 N n) x2 x3 x4 x3 (aI σ 274 (aI σ 257 x4.toNatClampNeg).toNatClampNeg) σ)) else cO (¬ (x4 < 0 ∨ 7000 ≤ x4.toNatClampNeg)) (J_X12_value_59 N (H_X12_value_5 N n) x2 x3 x4 x3 (aI σ 257 x4.toNatClampNeg) σ)))
set_option maxRecDepth 20000 in
set_option maxHeartbeats 4000000 in
theorem TH_X12_value_5 (xs : Nat → Int32) (L : Nat) (N : Nat) : ∀ (n : Nat) (x2 : Int32) (x3 : Int32) (x4 : Int32) (d1 : Value) (d5 : Value) (d6 : Value) (σ : aSt) (q : Int32 × aSt), H_X12_value_5 N n x2 x3 x4 σ = some q → Gr σ → Ev xs L 149 5 [.ref 235, d1, .int x2, .int x3, .int x4, d5, d6] [] σ (wI q.1) q.2 ∧ Gr q.2 := by
  intro n
  induction n with
  | zero =>
    intro x2 x3 x4 d1 d5 d6 σ q h hG
    exact absurd (show (none : Option (Int32 × aSt)) = some q from h) (by simp)
  | succ n ih =>
    intro x2 x3 x4 d1 d5 d6 σ q h hG
    have hk5 : ∀ (x2 : Int32) (x3 : Int32) (x4 : Int32) (d1 : Value) (d5 : Value) (d6 : Value) (σ : aSt) (q : Int32 × aSt), H_X12_value_5 N n x2 x3 x4 σ = some q → Gr σ → Ev xs L 149 5 [.ref 235, d1, .int x2, .int x3, .int x4, d5, d6] [] σ (wI q.1) q.2 ∧ Gr q.2 := ih
    have h : (if x2 ≤ x4 then some (aI σ 275 0, σ) else cO (¬ (x4 < 0 ∨ 7000 ≤ x4.toNatClampNeg)) (if 2 ≤ (aI σ 256 x4.toNatClampNeg) then cO (¬ (((x3 + (-1)) - 1) < 0 ∨ 500 ≤ ((x3 + (-1)) - 1).toNatClampNeg)) (cO (¬ ((x3 + (-1)) < 0 ∨ 500 ≤ (x3 + (-1)).toNatClampNeg)) (cO (¬ (x4 < 0 ∨ 7000 ≤ x4.toNatClampNeg)) (if (aI σ 256 x4.toNatClampNeg) ≠ 2 then cO (¬ (x4 < 0 ∨ 7000 ≤ x4.toNatClampNeg)) (if (aI σ 256 x4.toNatClampNeg) ≠ 3 then J_X12_value_137 N (H_X12_value_5 N n) x2 (x3 + (-1)) x4 ((x3 + (-1)) - 1) ((aI σ 275 ((x3 + (-1)) - 1).toNatClampNeg) * (aI σ 275 (x3 + (-1)).toNatClampNeg)) σ else J_X12_value_137 N (H_X12_value_5 N n) x2 (x3 + (-1)) x4 ((x3 + (-1)) - 1) ((aI σ 275 ((x3 + (-1)) - 1).toNatClampNeg) - (aI σ 275 (x3 + (-1)).toNatClampNeg)) σ) else J_X12_value_137 N (H_X12_value_5 N n) x2 (x3 + (-1)) x4 ((x3 + (-1)) - 1) ((aI σ 275 ((x3 + (-1)) - 1).toNatClampNeg) + (aI σ 275 (x3 + (-1)).toNatClampNeg)) σ))) else cO (¬ (x4 < 0 ∨ 7000 ≤ x4.toNatClampNeg)) (if (aI σ 256 x4.toNatClampNeg) ≠ 0 then cO (¬ (x4 < 0 ∨ 7000 ≤ x4.toNatClampNeg)) (cO (¬ ((aI σ 257 x4.toNatClampNeg) < 0 ∨ 10 ≤ (aI σ 257 x4.toNatClampNeg).toNatClampNeg)) (J_X12_value_59 N (H_X12_value_5 N n) x2 x3 x4 x3 (aI σ 274 (aI σ 257 x4.toNatClampNeg).toNatClampNeg) σ)) else cO (¬ (x4 < 0 ∨ 7000 ≤ x4.toNatClampNeg)) (J_X12_value_59 N (H_X12_value_5 N n) x2 x3 x4 x3 (aI σ 257 x4.toNatClampNeg) σ)))) = some q := h
    refine ev_a (fun he => ev_iload rfl rfl he) ?_
    refine ev_a (fun he => ev_iload rfl rfl he) ?_
    refine ev_b (c := x2 ≤ x4) (fun ht hf => ev_cge rfl ht hf) (fun hc9 => ?_) (fun hc9 => ?_)
    · rw [if_pos hc9] at h
      refine ev_a (fun he => ev_aload rfl rfl he) ?_
      refine ev_a (fun he => ev_getR rfl (gr_ob (n := 80) hG rfl) (gr_p (a := 235) (k := 58) (b := 275) hG rfl) he) ?_
      refine ev_a (fun he => ev_push rfl he) ?_
      refine ev_a (fun he => ev_aldI (k := 0) rfl (gr_ar hG rfl) (by decide) (by decide) he) ?_
      cases h
      exact ⟨ev_retI rfl, hG⟩
    · rw [if_neg hc9] at h
      refine ev_a (fun he => ev_aload rfl rfl he) ?_
      refine ev_a (fun he => ev_getR rfl (gr_ob (n := 80) hG rfl) (gr_p (a := 235) (k := 33) (b := 256) hG rfl) he) ?_
      refine ev_a (fun he => ev_iload rfl rfl he) ?_
      obtain ⟨hc11, h⟩ := cO_inv h
      refine ev_a (fun he => ev_aldI (k := x4.toNatClampNeg) rfl (gr_ar hG rfl) hc11 rfl he) ?_
      refine ev_a (fun he => ev_push rfl he) ?_
      refine ev_b (c := 2 ≤ (aI σ 256 x4.toNatClampNeg)) (fun ht hf => ev_cge rfl ht hf) (fun hc12 => ?_) (fun hc12 => ?_)
      · rw [if_pos hc12] at h
        refine ev_a (fun he => ev_iinc (ls' := [.ref 235, d1, .int x2, .int (x3 + (-1)), .int x4, d5, d6]) rfl rfl rfl (Nat.le_of_ble_eq_true rfl) rfl he) ?_
        refine ev_a (fun he => ev_aload rfl rfl he) ?_
        refine ev_a (fun he => ev_getR rfl (gr_ob (n := 80) hG rfl) (gr_p (a := 235) (k := 58) (b := 275) hG rfl) he) ?_
        refine ev_a (fun he => ev_iload rfl rfl he) ?_
        refine ev_a (fun he => ev_push rfl he) ?_
        refine ev_a (fun he => ev_bin (z := (x3 + (-1)) - 1) rfl rfl he) ?_
        obtain ⟨hc13, h⟩ := cO_inv h
        refine ev_a (fun he => ev_aldI (k := ((x3 + (-1)) - 1).toNatClampNeg) rfl (gr_ar hG rfl) hc13 rfl he) ?_
        refine ev_a (fun he => ev_istore (ls' := [.ref 235, d1, .int x2, .int (x3 + (-1)), .int x4, .int (aI σ 275 ((x3 + (-1)) - 1).toNatClampNeg), d6]) rfl (Nat.le_of_ble_eq_true rfl) rfl he) ?_
        refine ev_a (fun he => ev_aload rfl rfl he) ?_
        refine ev_a (fun he => ev_getR rfl (gr_ob (n := 80) hG rfl) (gr_p (a := 235) (k := 58) (b := 275) hG rfl) he) ?_
        refine ev_a (fun he => ev_iload rfl rfl he) ?_
        obtain ⟨hc14, h⟩ := cO_inv h
        refine ev_a (fun he => ev_aldI (k := (x3 + (-1)).toNatClampNeg) rfl (gr_ar hG rfl) hc14 rfl he) ?_
        refine ev_a (fun he => ev_istore (ls' := [.ref 235, d1, .int x2, .int (x3 + (-1)), .int x4, .int (aI σ 275 ((x3 + (-1)) - 1).toNatClampNeg), .int (aI σ 275 (x3 + (-1)).toNatClampNeg)]) rfl (Nat.le_of_ble_eq_true rfl) rfl he) ?_
        refine ev_a (fun he => ev_aload rfl rfl he) ?_
        refine ev_a (fun he => ev_getR rfl (gr_ob (n := 80) hG rfl) (gr_p (a := 235) (k := 58) (b := 275) hG rfl) he) ?_
        refine ev_a (fun he => ev_iload rfl rfl he) ?_
        refine ev_a (fun he => ev_push rfl he) ?_
        refine ev_a (fun he => ev_bin (z := (x3 + (-1)) - 1) rfl rfl he) ?_
        refine ev_a (fun he => ev_aload rfl rfl he) ?_
        refine ev_a (fun he => ev_getR rfl (gr_ob (n := 80) hG rfl) (gr_p (a := 235) (k := 33) (b := 256) hG rfl) he) ?_
        refine ev_a (fun he => ev_iload rfl rfl he) ?_
        obtain ⟨hc15, h⟩ := cO_inv h
        refine ev_a (fun he => ev_aldI (k := x4.toNatClampNeg) rfl (gr_ar hG rfl) hc15 rfl he) ?_
        refine ev_a (fun he => ev_push rfl he) ?_
        refine ev_b (c := (aI σ 256 x4.toNatClampNeg) ≠ 2) (fun ht hf => ev_cne rfl ht hf) (fun hc16 => ?_) (fun hc16 => ?_)
        · rw [if_pos hc16] at h
          refine ev_a (fun he => ev_aload rfl rfl he) ?_
          refine ev_a (fun he => ev_getR rfl (gr_ob (n := 80) hG rfl) (gr_p (a := 235) (k := 33) (b := 256) hG rfl) he) ?_
          refine ev_a (fun he => ev_iload rfl rfl he) ?_
          obtain ⟨hc17, h⟩ := cO_inv h
          refine ev_a (fun he => ev_aldI (k := x4.toNatClampNeg) rfl (gr_ar hG rfl) hc17 rfl he) ?_
          refine ev_a (fun he => ev_push rfl he) ?_
          refine ev_b (c := (aI σ 256 x4.toNatClampNeg) ≠ 3) (fun ht hf => ev_cne rfl ht hf) (fun hc18 => ?_) (fun hc18 => ?_)
          · rw [if_pos hc18] at h
            refine ev_a (fun he => ev_iload rfl rfl he) ?_
            refine ev_a (fun he => ev_iload rfl rfl he) ?_
            refine ev_a (fun he => ev_bin (z := (aI σ 275 ((x3 + (-1)) - 1).toNatClampNeg) * (aI σ 275 (x3 + (-1)).toNatClampNeg)) rfl rfl he) ?_
            exact TJ_X12_value_137 xs L N (H_X12_value_5 N n) hk5 x2 (x3 + (-1)) x4 ((x3 + (-1)) - 1) ((aI σ 275 ((x3 + (-1)) - 1).toNatClampNeg) * (aI σ 275 (x3 + (-1)).toNatClampNeg)) (d1) (.int (aI σ 275 ((x3 + (-1)) - 1).toNatClampNeg)) (.int (aI σ 275 (x3 + (-1)).toNatClampNeg)) σ q h hG
          · rw [if_neg hc18] at h
            refine ev_a (fun he => ev_iload rfl rfl he) ?_
            refine ev_a (fun he => ev_iload rfl rfl he) ?_
            refine ev_a (fun he => ev_bin (z := (aI σ 275 ((x3 + (-1)) - 1).toNatClampNeg) - (aI σ 275 (x3 + (-1)).toNatClampNeg)) rfl rfl he) ?_
            refine ev_a (fun he => ev_goto rfl he) ?_
            exact TJ_X12_value_137 xs L N (H_X12_value_5 N n) hk5 x2 (x3 + (-1)) x4 ((x3 + (-1)) - 1) ((aI σ 275 ((x3 + (-1)) - 1).toNatClampNeg) - (aI σ 275 (x3 + (-1)).toNatClampNeg)) (d1) (.int (aI σ 275 ((x3 + (-1)) - 1).toNatClampNeg)) (.int (aI σ 275 (x3 + (-1)).toNatClampNeg)) σ q h hG
        · rw [if_neg hc16] at h
          refine ev_a (fun he => ev_iload rfl rfl he) ?_
          refine ev_a (fun he => ev_iload rfl rfl he) ?_
          refine ev_a (fun he => ev_bin (z := (aI σ 275 ((x3 + (-1)) - 1).toNatClampNeg) + (aI σ 275 (x3 + (-1)).toNatClampNeg)) rfl rfl he) ?_
          refine ev_a (fun he => ev_goto rfl he) ?_
          exact TJ_X12_value_137 xs L N (H_X12_value_5 N n) hk5 x2 (x3 + (-1)) x4 ((x3 + (-1)) - 1) ((aI σ 275 ((x3 + (-1)) - 1).toNatClampNeg) + (aI σ 275 (x3 + (-1)).toNatClampNeg)) (d1) (.int (aI σ 275 ((x3 + (-1)) - 1).toNatClampNeg)) (.int (aI σ 275 (x3 + (-1)).toNatClampNeg)) σ q h hG
      · rw [if_neg hc12] at h
        refine ev_a (fun he => ev_aload rfl rfl he) ?_
        refine ev_a (fun he => ev_getR rfl (gr_ob (n := 80) hG rfl) (gr_p (a := 235) (k := 58) (b := 275) hG rfl) he) ?_
        refine ev_a (fun he => ev_iload rfl rfl he) ?_
        refine ev_a (fun he => ev_aload rfl rfl he) ?_
        refine ev_a (fun he => ev_getR rfl (gr_ob (n := 80) hG rfl) (gr_p (a := 235) (k := 33) (b := 256) hG rfl) he) ?_
        refine ev_a (fun he => ev_iload rfl rfl he) ?_
        obtain ⟨hc19, h⟩ := cO_inv h
        refine ev_a (fun he => ev_aldI (k := x4.toNatClampNeg) rfl (gr_ar hG rfl) hc19 rfl he) ?_
        refine ev_b (c := (aI σ 256 x4.toNatClampNeg) ≠ 0) (fun ht hf => ev_ifne rfl ht hf) (fun hc20 => ?_) (fun hc20 => ?_)
        · rw [if_pos hc20] at h
          refine ev_a (fun he => ev_aload rfl rfl he) ?_
          refine ev_a (fun he => ev_getR rfl (gr_ob (n := 80) hG rfl) (gr_p (a := 235) (k := 57) (b := 274) hG rfl) he) ?_
          refine ev_a (fun he => ev_aload rfl rfl he) ?_
          refine ev_a (fun he => ev_getR rfl (gr_ob (n := 80) hG rfl) (gr_p (a := 235) (k := 34) (b := 257) hG rfl) he) ?_
          refine ev_a (fun he => ev_iload rfl rfl he) ?_
          obtain ⟨hc21, h⟩ := cO_inv h
          refine ev_a (fun he => ev_aldI (k := x4.toNatClampNeg) rfl (gr_ar hG rfl) hc21 rfl he) ?_
          obtain ⟨hc22, h⟩ := cO_inv h
          refine ev_a (fun he => ev_aldI (k := (aI σ 257 x4.toNatClampNeg).toNatClampNeg) rfl (gr_ar hG rfl) hc22 rfl he) ?_
          exact TJ_X12_value_59 xs L N (H_X12_value_5 N n) hk5 x2 x3 x4 x3 (aI σ 274 (aI σ 257 x4.toNatClampNeg).toNatClampNeg) (d1) (d5) (d6) σ q h hG
        · rw [if_neg hc20] at h
          refine ev_a (fun he => ev_aload rfl rfl he) ?_
          refine ev_a (fun he => ev_getR rfl (gr_ob (n := 80) hG rfl) (gr_p (a := 235) (k := 34) (b := 257) hG rfl) he) ?_
          refine ev_a (fun he => ev_iload rfl rfl he) ?_
          obtain ⟨hc23, h⟩ := cO_inv h
          refine ev_a (fun he => ev_aldI (k := x4.toNatClampNeg) rfl (gr_ar hG rfl) hc23 rfl he) ?_
          refine ev_a (fun he => ev_goto rfl he) ?_
          exact TJ_X12_value_59 xs L N (H_X12_value_5 N n) hk5 x2 x3 x4 x3 (aI σ 257 x4.toNatClampNeg) (d1) (d5) (d6) σ q h hG
def F_X12_value (N : Nat) (x1 : Int32) (x2 : Int32) (σ : aSt) : Option (Int32 × aSt) := H_X12_value_5 N N x2 0 x1 σ
set_option maxRecDepth 20000 in
set_option maxHeartbeats 4000000 in
theorem T_X12_value (xs : Nat → Int32) (L : Nat) (N : Nat) (x1 : Int32) (x2 : Int32) (σ : aSt) (q : Int32 × aSt) (h : F_X12_value N x1 x2 σ = some q) (hG : Gr σ) : Cal xs L 149 [.ref 235, .int x1, .int x2] σ (wI q.1) q.2 ∧ Gr q.2 := by
  have h : (H_X12_value_5 N N x2 0 x1 σ) = some q := h
  show Ev xs L 149 0 [.ref 235, .int x1, .int x2, aU, aU, aU, aU] [] σ (wI q.1) q.2 ∧ Gr q.2
  refine ev_a (fun he => ev_push rfl he) ?_
  refine ev_a (fun he => ev_istore (ls' := [.ref 235, .int x1, .int x2, .int 0, aU, aU, aU]) rfl (Nat.le_of_ble_eq_true rfl) rfl he) ?_
  refine ev_a (fun he => ev_iload rfl rfl he) ?_
  refine ev_a (fun he => ev_istore (ls' := [.ref 235, .int x1, .int x2, .int 0, .int x1, aU, aU]) rfl (Nat.le_of_ble_eq_true rfl) rfl he) ?_
  exact TH_X12_value_5 xs L N N x2 0 x1 (.int x1) (aU) (aU) σ q h hG
